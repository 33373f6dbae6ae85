
theorem sub_op {W : Int → Int} {s x o : Int} (hx : isSet x) (h1 : 0 ≤ o ∧ o < 64) (h2 : ∀ f : Int, 0 ≤ f → f < 6 → (bt o f = 1 ↔ dg s f < W f)) : iAnd x (iXor o (-1)) = 0 ↔ opS W s x := by
  have hx1 := hx.1
  rw [(sub_i (by omega) hx.2 h1.1 h1.2).1]
  refine ⟨fun h f a b z => (h2 f a b).1 ?_, fun h f a b => ?_⟩
  · have := h f a b
    have := bt_bd o f
    omega
  · rcases bt_bd x f with z | z
    · have := bt_bd o f; omega
    · have := (h2 f a b).2 (h f a b z); omega
theorem op_parts {W : Int → Int} {s x : Int} (hx : isSet x) (o : opS W s x) : opS W s (iAnd x (x - 1)) ∧ opS W s (iXor x (iAnd x (x - 1))) := by
  have hr := (rest_i hx.1 hx.2).2.2.1
  refine ⟨fun f a b z => o f a b ?_, fun f a b z => o f a b ?_⟩
  · have q := hr f.toNat (by omega)
    rw [nf a] at q
    have := bt_bd (iXor x (iAnd x (x - 1))) f
    have := bt_bd x f
    omega
  · have q := hr f.toNat (by omega)
    rw [nf a] at q
    have := bt_bd (iAnd x (x - 1)) f
    have := bt_bd x f
    omega
theorem set_step {W : Int → Int} {M B : Int → Int → Int} {s x cap : Int} (hx : isSet x) (o : opS W s x) {A C : Int → Int} (TB : ∀ y : Int, 0 ≤ y → y < x → opS W s y → A y = melS M s y ∧ C y = burS B cap s y) (PB : ∀ f : Int, 0 ≤ f → f < 6 → dg s f < W f → x ≤ p2 f → A (p2 f) = M f (dg s f) ∧ C (p2 f) = B f (dg s f)) : max (A (iAnd x (x - 1))) (A (iXor x (iAnd x (x - 1)))) = melS M s x ∧ min (C (iAnd x (x - 1))) (C (iXor x (iAnd x (x - 1)))) = burS B cap s x := by
  obtain ⟨r1, r2, r3, ⟨f, f6, r4⟩, r5, r6⟩ := rest_i hx.1 hx.2
  have op := op_parts hx o
  have tR := TB _ r1.1 r1.2 op.1
  rw [tR.1, tR.2]
  by_cases z : iAnd x (x - 1) = 0
  · have e := r5 z
    have ex : x = p2 f := by rw [← r4]; exact e.symm
    have hb : bt x f = 1 := by rw [ex, b_p2 f f6 f f6, if_pos rfl]
    have hd := o f (by omega) (by omega) hb
    have pb := PB f (by omega) (by omega) hd (by rw [← ex]; exact Int.le_refl _)
    rw [z] at r4 ⊢
    rw [r4, pb.1, pb.2, mel_0, bur_0]
    have e1 := mel_p2 M s f6
    have e2 := bur_p2 B cap s f6
    rw [← ex] at e1 e2
    exact ⟨e1.symm, e2.symm⟩
  · have tO := TB _ (by omega) (r6 z) op.2
    rw [tO.1, tO.2]
    exact ⟨(mel_split M r3 6 (Nat.le_refl _)).symm, (bur_split B r3 6 (Nat.le_refl _)).symm⟩
theorem set_rng {W : Int → Int} {M B : Int → Int → Int} (w : wOK W M B) {s x cap : Int} (hc : 0 ≤ cap ∧ cap ≤ 1200) (hx : isSet x) (o : opS W s x) {A C : Int → Int} (TB : ∀ y : Int, 0 ≤ y → y < x → opS W s y → A y = melS M s y ∧ C y = burS B cap s y) (PB : ∀ f : Int, 0 ≤ f → f < 6 → dg s f < W f → x ≤ p2 f → A (p2 f) = M f (dg s f) ∧ C (p2 f) = B f (dg s f)) : rng (A (iAnd x (x - 1))) ∧ rng (A (iXor x (iAnd x (x - 1)))) ∧ rng (C (iAnd x (x - 1))) ∧ rng (C (iXor x (iAnd x (x - 1)))) := by
  obtain ⟨r1, r2, r3, ⟨f, f6, r4⟩, r5, r6⟩ := rest_i hx.1 hx.2
  have op := op_parts hx o
  have tR := TB _ r1.1 r1.2 op.1
  have bm : ∀ y : Int, opS W s y → rng (melS M s y) ∧ rng (burS B cap s y) := fun y oy => by
    have q1 := mel_bd w 6 (Nat.le_refl _) (s := s) (x := y) (fun f a b z => oy f a b z)
    have q2 := bur_bd w hc 6 (Nat.le_refl _) (s := s) (x := y) (fun f a b z => oy f a b z)
    refine ⟨?_, ?_⟩
    · show rng (accL _ _ 6)
      constructor <;> omega
    · show rng (accL _ _ 6)
      constructor <;> omega
  rw [tR.1, tR.2]
  refine ⟨(bm _ op.1).1, ?_, (bm _ op.1).2, ?_⟩
  · by_cases z : iAnd x (x - 1) = 0
    · have e := r5 z
      have ex : x = p2 f := by rw [← r4]; exact e.symm
      have hb : bt x f = 1 := by rw [ex, b_p2 f f6 f f6, if_pos rfl]
      have hd := o f (by omega) (by omega) hb
      have pb := PB f (by omega) (by omega) hd (by rw [← ex]; exact Int.le_refl _)
      have q := ((w f (by omega) (by omega)).2 _ (dg_bd s f).1 hd).1
      rw [r4, pb.1]; constructor <;> omega
    · rw [(TB _ (by omega) (r6 z) op.2).1]; exact (bm _ op.2).1
  · by_cases z : iAnd x (x - 1) = 0
    · have e := r5 z
      have ex : x = p2 f := by rw [← r4]; exact e.symm
      have hb : bt x f = 1 := by rw [ex, b_p2 f f6 f f6, if_pos rfl]
      have hd := o f (by omega) (by omega) hb
      have pb := PB f (by omega) (by omega) hd (by rw [← ex]; exact Int.le_refl _)
      have q := ((w f (by omega) (by omega)).2 _ (dg_bd s f).1 hd).2
      rw [r4, pb.2]; constructor <;> omega
    · rw [(TB _ (by omega) (r6 z) op.2).2]; exact (bm _ op.2).2
/-- the best of the sets below one -/
def bestP (W : Int → Int) (M B : Int → Int → Int) (F : Int → Int) (s n b e : Int) : Prop := (b = 0 ∧ e = 19 ∧ ∀ x : Int, 1 ≤ x → x < n → okS W M B s x → 19 ≤ F (s + stp x)) ∨ ((1 ≤ b ∧ b < n) ∧ okS W M B s b ∧ e = F (s + stp b) ∧ F (s + stp b) < 19 ∧ ∀ x : Int, 1 ≤ x → x < n → okS W M B s x → F (s + stp b) < F (s + stp x) ∨ (F (s + stp b) = F (s + stp x) ∧ b ≤ x))
theorem bp_no {W : Int → Int} {M B : Int → Int → Int} {F : Int → Int} {s n b e : Int} (h : bestP W M B F s n b e) (q : ¬ okS W M B s n ∨ e ≤ F (s + stp n)) : bestP W M B F s (n + 1) b e := by
  rcases h with ⟨h1, h2, h3⟩ | ⟨h1, h2, h3, h4, h5⟩
  · refine Or.inl ⟨h1, h2, fun x a b ok => ?_⟩
    by_cases ex : x = n
    · subst ex
      rcases q with q | q
      · exact absurd ok q
      · omega
    · exact h3 x a (by omega) ok
  · refine Or.inr ⟨⟨h1.1, by omega⟩, h2, h3, h4, fun x a b ok => ?_⟩
    by_cases ex : x = n
    · subst ex
      rcases q with q | q
      · exact absurd ok q
      · omega
    · exact h5 x a (by omega) ok
theorem bp_yes {W : Int → Int} {M B : Int → Int → Int} {F : Int → Int} {s n b e : Int} (h : bestP W M B F s n b e) (hn : 1 ≤ n) (ok : okS W M B s n) (q : F (s + stp n) < e) : bestP W M B F s (n + 1) n (F (s + stp n)) := by
  rcases h with ⟨h1, h2, h3⟩ | ⟨h1, h2, h3, h4, h5⟩
  · refine Or.inr ⟨by omega, ok, rfl, by omega, fun x a b okx => ?_⟩
    by_cases ex : x = n
    · subst ex; exact Or.inr ⟨rfl, Int.le_refl _⟩
    · have := h3 x a (by omega) okx; omega
  · refine Or.inr ⟨by omega, ok, rfl, by omega, fun x a b okx => ?_⟩
    by_cases ex : x = n
    · subst ex; exact Or.inr ⟨rfl, Int.le_refl _⟩
    · have := h5 x a (by omega) okx; omega
set_option maxHeartbeats 4000000 in
theorem qX4_bestSet {W : Int → Int} {M B : Int → Int → Int} (s : Int) (m : AM) (w : wOK W M B) (c : clP W M B m) (hs : 0 ≤ s ∧ s < 4096) (v : valS W s) (h93 : ∀ x : Int, 0 ≤ x → x < 64 → m 93 x = stp x) (hF : ∀ t : Int, s < t → t ≤ lastS W → 0 ≤ m 92 t ∧ m 92 t ≤ 19) : CS 2 mX4_bestSet [.inr 91, .inl s, .inr 12, .inr 2] m (fun v m' => ∃ b e : Int, v = some b ∧ bestP W M B (m 92) s 64 b e ∧ (1 ≤ b → m' 94 b = melS M s b) ∧ ∀ (k : Nat) (j : Int), k ≠ 94 → k ≠ 95 → m' k j = m k j) := by
  refine cs_of (by decide +kernel) (Nat.le_of_ble_eq_true rfl) rfl ?_
  refine ap_ald_0 (pc := 0) dX4_bestSet_0 ?_
  refine ap_ild_1 (pc := 1) dX4_bestSet_1 ?_
  refine ap_ald_2 (pc := 2) dX4_bestSet_2 ?_
  refine ap_ald_3 (pc := 3) dX4_bestSet_3 ?_
  refine ap_invV (pc := 4) dX4_bestSet_4 mv_RX4_59 sh_91 (av := [_, _, _]) (rest := []) (qX4_lookAtNext _ _ w c hs) rfl rfl (Nat.le_of_ble_eq_true rfl) (by decide) (by decide) ?_
  rintro _ m1 ⟨o, rfl, o1, o2, o3, o4⟩
  refine ap_ist_4 (pc := 7) dX4_bestSet_7 (by decide) ?_
  refine ap_ald_0 (pc := 9) dX4_bestSet_9 ?_
  refine ap_getR (pc := 10) dX4_bestSet_10 fl_RX4_18 sh_91 rfl ?_
  refine ap_const (pc := 13) dX4_bestSet_13 ?_
  refine ap_const (pc := 14) dX4_bestSet_14 ?_
  refine ap_iastore (pc := 15) dX4_bestSet_15 sh_94 (by omega) (by omega) (by decide) ?_
  refine ap_ald_0 (pc := 16) dX4_bestSet_16 ?_
  refine ap_getR (pc := 17) dX4_bestSet_17 fl_RX4_21 sh_91 rfl ?_
  refine ap_const (pc := 20) dX4_bestSet_20 ?_
  refine ap_ild_1 (pc := 21) dX4_bestSet_21 ?_
  refine ap_ald_2 (pc := 22) dX4_bestSet_22 ?_
  refine ap_ald_3 (pc := 23) dX4_bestSet_23 ?_
  refine ap_invS (pc := 24) dX4_bestSet_24 ms_RX4_62 (av := [_, _, _]) (rest := [_, _]) (qX4_burningOfPut _ _ w (clP_frame (fun k j hk => by rw [am_k (by omega)]; exact o4 k j (by omega) (by omega)) c) hs v) rfl rfl (Nat.le_of_ble_eq_true rfl) (by decide) (by decide) ?_
  rintro _ _ ⟨rfl, rfl⟩
  refine ap_iastore (pc := 27) dX4_bestSet_27 sh_95 (by omega) (by omega) (by decide) ?_
  refine ap_const (pc := 28) dX4_bestSet_28 ?_
  refine ap_ist_5 (pc := 29) dX4_bestSet_29 (by decide) ?_
  refine ap_bipush (pc := 31) dX4_bestSet_31 bp_19 ?_
  refine ap_ist_6 (pc := 33) dX4_bestSet_33 (by decide) ?_
  refine ap_const (pc := 35) dX4_bestSet_35 ?_
  refine ap_ist_7 (pc := 36) dX4_bestSet_36 (by decide) ?_
  have hcb := cap_bd2 w v 6 (Nat.le_refl _)
  refine AP.bk (up_rec 63 (fun i => ∀ (b e : Int) (mi : AM), bestP W M B (m 92) s (1 + i) b e → (0 ≤ e ∧ e ≤ 19) → (∀ y : Int, 0 ≤ y → y < 1 + i → opS W s y → mi 94 y = melS M s y ∧ mi 95 y = burS B (capS B s) s y) → (∀ f : Int, 0 ≤ f → f < 6 → dg s f < W f → 1 + i ≤ p2 f → mi 94 (p2 f) = M f (dg s f) ∧ mi 95 (p2 f) = B f (dg s f)) → (∀ (k : Nat) (j : Int), k ≠ 94 → k ≠ 95 → mi k j = m k j) → AP 2 mX4_bestSet 38 [some (.inr 91), some (.inl s), some (.inr 12), some (.inr 2), some (.inl o), some (.inl b), some (.inl e), some (.inl (1 + (i : Int))), none, none] [] mi (fun v m' => ∃ b e : Int, v = some b ∧ bestP W M B (m 92) s 64 b e ∧ (1 ≤ b → m' 94 b = melS M s b) ∧ ∀ (k : Nat) (j : Int), k ≠ 94 → k ≠ 95 → m' k j = m k j)) (by omega) (fun i hi ih b e mi u1 u2 u3 u4 u5 => ?_) 0 19 _ (Or.inl ⟨rfl, rfl, fun x a b => by omega⟩) ⟨by omega, by omega⟩ (fun y y0 y1 _ => by
      obtain rfl : y = 0 := by omega
      exact ⟨by rw [am_k (by omega), am_same, mel_0], by rw [am_same, bur_0]⟩) (fun f a b z zz => by
      have ey : p2 f ≠ 0 := by omega
      rw [am_k (by omega), am_j ey, am_j ey, am_k (by omega)]; exact o3 f a b z) (fun k j a b => by rw [am_k b, am_k a]; exact o4 k j a b)) ⟨rfl, rfl, rfl, rfl, rfl, rfl, rfl, rfl, trivial, trivial, trivial⟩ rfl
  refine ap_ild_7 (pc := 38) dX4_bestSet_38 ?_
  refine ap_bipush (pc := 40) dX4_bestSet_40 bp_64 ?_
  refine ap_icmp_ge (pc := 42) 184 dX4_bestSet_42 rfl ⟨by omega, by omega⟩ ⟨by omega, by omega⟩ (fun c42 => ?_) (fun c42 => ?_)
  · skip
    obtain rfl : i = 63 := by omega
    refine ap_ild_5 (pc := 184) dX4_bestSet_184 ?_
    exact ap_ireturn (pc := 186) dX4_bestSet_186 rfl ⟨b, e, rfl, u1, fun z => by
    rcases u1 with q | q
    · omega
    · exact (u3 b (by omega) q.1.2 q.2.1.1).1, u5⟩
  · skip
    have hxs : isSet (1 + (i : Int)) := ⟨by omega, by omega⟩
    have h93i : mi 93 (1 + (i : Int)) = stp (1 + (i : Int)) := by rw [u5 93 _ (by omega) (by omega)]; exact h93 _ (by omega) (by omega)
    refine ap_ild_7 (pc := 45) dX4_bestSet_45 ?_
    refine ap_ild_4 (pc := 47) dX4_bestSet_47 ?_
    refine ap_const (pc := 49) dX4_bestSet_49 ?_
    refine ap_ixor (pc := 50) dX4_bestSet_50 ?_
    refine ap_iand (pc := 51) dX4_bestSet_51 ?_
    refine ap_if_eq (pc := 52) 58 dX4_bestSet_52 rfl (by have q := (sub_i (x := 1 + (i : Int)) (y := o) (by omega) (by omega) o1.1 o1.2).2; constructor <;> omega) (fun c52 => ?_) (fun c52 => ?_)
    · skip
      have ho := (sub_op hxs o1 o2).1 c52
      have hr1 := (rest_i hxs.1 hxs.2).1
      have hr2 := (rest_i hxs.1 hxs.2).2.1
      have hnx := op_next w hs.1 hs.2 v ho
      have hsp := stp_pos hxs.1 hxs.2
      have hlx := val_last hnx.1.1 hnx.1.2 hnx.2.2
      have hb0 := last_bd w
      have hFx := hF (s + stp (1 + (i : Int))) (by omega) hlx
      have h92 : mi 92 (s + stp (1 + (i : Int))) = m 92 (s + stp (1 + (i : Int))) := u5 92 _ (by omega) (by omega)
      refine ap_ild_7 (pc := 58) dX4_bestSet_58 ?_
      refine ap_ild_7 (pc := 60) dX4_bestSet_60 ?_
      refine ap_const (pc := 62) dX4_bestSet_62 ?_
      refine ap_isub (pc := 63) dX4_bestSet_63 ?_
      refine ap_iand (pc := 64) dX4_bestSet_64 ?_
      refine ap_ist_8 (pc := 65) dX4_bestSet_65 (by decide) ?_
      refine ap_ild_7 (pc := 67) dX4_bestSet_67 ?_
      refine ap_ild_8 (pc := 69) dX4_bestSet_69 ?_
      refine ap_ixor (pc := 71) dX4_bestSet_71 ?_
      refine ap_ist_9 (pc := 72) dX4_bestSet_72 (by decide) ?_
      refine ap_ald_0 (pc := 74) dX4_bestSet_74 ?_
      refine ap_getR (pc := 75) dX4_bestSet_75 fl_RX4_18 sh_91 rfl ?_
      refine ap_ild_7 (pc := 78) dX4_bestSet_78 ?_
      refine ap_ald_0 (pc := 80) dX4_bestSet_80 ?_
      refine ap_getR (pc := 81) dX4_bestSet_81 fl_RX4_18 sh_91 rfl ?_
      refine ap_ild_8 (pc := 84) dX4_bestSet_84 ?_
      refine ap_iaload (pc := 86) dX4_bestSet_86 sh_94 (by omega) (by omega) (by decide) ?_
      try simp (disch := omega) only [am_same, am_k, am_j, h93i]
      refine ap_ald_0 (pc := 87) dX4_bestSet_87 ?_
      refine ap_getR (pc := 88) dX4_bestSet_88 fl_RX4_18 sh_91 rfl ?_
      refine ap_ild_9 (pc := 91) dX4_bestSet_91 ?_
      refine ap_iaload (pc := 93) dX4_bestSet_93 sh_94 (by omega) (by omega) (by decide) ?_
      try simp (disch := omega) only [am_same, am_k, am_j, h93i]
      refine ap_mmax (pc := 94) dX4_bestSet_94 jl_RX4_65 jw_max (by decide) (Nat.le_of_ble_eq_true rfl) (set_rng w hcb hxs ho (A := mi 94) (C := mi 95) u3 u4).1 (set_rng w hcb hxs ho (A := mi 94) (C := mi 95) u3 u4).2.1 ?_
      rw [(set_step (M := M) (B := B) (cap := capS B s) hxs ho (A := mi 94) (C := mi 95) u3 u4).1]
      refine ap_iastore (pc := 97) dX4_bestSet_97 sh_94 (by omega) (by omega) (by decide) ?_
      refine ap_ald_0 (pc := 98) dX4_bestSet_98 ?_
      refine ap_getR (pc := 99) dX4_bestSet_99 fl_RX4_21 sh_91 rfl ?_
      refine ap_ild_7 (pc := 102) dX4_bestSet_102 ?_
      refine ap_ald_0 (pc := 104) dX4_bestSet_104 ?_
      refine ap_getR (pc := 105) dX4_bestSet_105 fl_RX4_21 sh_91 rfl ?_
      refine ap_ild_8 (pc := 108) dX4_bestSet_108 ?_
      refine ap_iaload (pc := 110) dX4_bestSet_110 sh_95 (by omega) (by omega) (by decide) ?_
      try simp (disch := omega) only [am_same, am_k, am_j, h93i]
      refine ap_ald_0 (pc := 111) dX4_bestSet_111 ?_
      refine ap_getR (pc := 112) dX4_bestSet_112 fl_RX4_21 sh_91 rfl ?_
      refine ap_ild_9 (pc := 115) dX4_bestSet_115 ?_
      refine ap_iaload (pc := 117) dX4_bestSet_117 sh_95 (by omega) (by omega) (by decide) ?_
      try simp (disch := omega) only [am_same, am_k, am_j, h93i]
      refine ap_mmin (pc := 118) dX4_bestSet_118 jl_RX4_70 jw_min (by decide) (Nat.le_of_ble_eq_true rfl) (set_rng w hcb hxs ho (A := mi 94) (C := mi 95) u3 u4).2.2.1 (set_rng w hcb hxs ho (A := mi 94) (C := mi 95) u3 u4).2.2.2 ?_
      rw [(set_step (M := M) (B := B) (cap := capS B s) hxs ho (A := mi 94) (C := mi 95) u3 u4).2]
      refine ap_iastore (pc := 121) dX4_bestSet_121 sh_95 (by omega) (by omega) (by decide) ?_
      refine ap_ald_0 (pc := 122) dX4_bestSet_122 ?_
      refine ap_getR (pc := 123) dX4_bestSet_123 fl_RX4_18 sh_91 rfl ?_
      refine ap_ild_7 (pc := 126) dX4_bestSet_126 ?_
      refine ap_iaload (pc := 128) dX4_bestSet_128 sh_94 (by omega) (by omega) (by decide) ?_
      try simp (disch := omega) only [am_same, am_k, am_j, h93i]
      refine ap_ald_0 (pc := 129) dX4_bestSet_129 ?_
      refine ap_getR (pc := 130) dX4_bestSet_130 fl_RX4_21 sh_91 rfl ?_
      refine ap_ild_7 (pc := 133) dX4_bestSet_133 ?_
      refine ap_iaload (pc := 135) dX4_bestSet_135 sh_95 (by omega) (by omega) (by decide) ?_
      try simp (disch := omega) only [am_same, am_k, am_j, h93i]
      refine ap_icmp_gt (pc := 136) 178 dX4_bestSet_136 rfl (by have q := mel_bd w 6 (Nat.le_refl _) (s := s) (x := 1 + (i : Int)) (fun f a b z => ho f a b z); show rng (accL _ _ 6); constructor <;> omega) (by have q := bur_bd w (c := capS B s) hcb 6 (Nat.le_refl _) (s := s) (x := 1 + (i : Int)) (fun f a b z => ho f a b z); show rng (accL _ _ 6); constructor <;> omega) (fun c136 => ?_) (fun c136 => ?_)
      · skip
        refine ap_iinc_7 (pc := 178) dX4_bestSet_178 (by decide) ?_
        refine ap_goto (pc := 181) 38 dX4_bestSet_181 rfl ?_
        exact (ih (by omega) _ _ _ (by rw [show (1 : Int) + ((i + 1 : Nat) : Int) = 1 + i + 1 by omega]; exact bp_no u1 (Or.inl (fun z => by have := z.2; omega))) u2 (fun y y0 y1 oy => by
            by_cases ey : y = 1 + (i : Int)
            · subst ey; exact ⟨by rw [am_k (by omega), am_same], by rw [am_same]⟩
            · rw [am_k (by omega), am_j ey, am_j ey, am_k (by omega)]; exact u3 y y0 (by omega) oy) (fun f a b z zz => by
            have ey : p2 f ≠ 1 + (i : Int) := by omega
            rw [am_k (by omega), am_j ey, am_j ey, am_k (by omega)]; exact u4 f a b z (by omega)) (fun k j a b => by rw [am_k b, am_k a]; exact u5 k j a b)).bk ⟨rfl, rfl, rfl, rfl, rfl, rfl, rfl, by rw [show (1 : Int) + ((i + 1 : Nat) : Int) = 1 + i + 1 by omega], trivial, trivial, trivial⟩ rfl
      · skip
        refine ap_ald_0 (pc := 139) dX4_bestSet_139 ?_
        refine ap_getR (pc := 140) dX4_bestSet_140 fl_RX4_11 sh_91 rfl ?_
        refine ap_ild_1 (pc := 143) dX4_bestSet_143 ?_
        refine ap_ald_0 (pc := 144) dX4_bestSet_144 ?_
        refine ap_getR (pc := 145) dX4_bestSet_145 fl_RX4_15 sh_91 rfl ?_
        refine ap_ild_7 (pc := 148) dX4_bestSet_148 ?_
        refine ap_iaload (pc := 150) dX4_bestSet_150 sh_93 (by omega) (by omega) (by decide) ?_
        try simp (disch := omega) only [am_same, am_k, am_j, h93i]
        refine ap_iadd (pc := 151) dX4_bestSet_151 ?_
        refine ap_iaload (pc := 152) dX4_bestSet_152 sh_92 (by omega) (by omega) (by decide) ?_
        try simp (disch := omega) only [am_same, am_k, am_j, h93i]
        rw [h92]
        refine ap_ild_6 (pc := 153) dX4_bestSet_153 ?_
        refine ap_icmp_ge (pc := 155) 178 dX4_bestSet_155 rfl (by constructor <;> omega) ⟨by omega, by omega⟩ (fun c155 => ?_) (fun c155 => ?_)
        · skip
          refine ap_iinc_7 (pc := 178) dX4_bestSet_178 (by decide) ?_
          refine ap_goto (pc := 181) 38 dX4_bestSet_181 rfl ?_
          exact (ih (by omega) _ _ _ (by rw [show (1 : Int) + ((i + 1 : Nat) : Int) = 1 + i + 1 by omega]; exact bp_no u1 (Or.inr c155)) u2 (fun y y0 y1 oy => by
              by_cases ey : y = 1 + (i : Int)
              · subst ey; exact ⟨by rw [am_k (by omega), am_same], by rw [am_same]⟩
              · rw [am_k (by omega), am_j ey, am_j ey, am_k (by omega)]; exact u3 y y0 (by omega) oy) (fun f a b z zz => by
              have ey : p2 f ≠ 1 + (i : Int) := by omega
              rw [am_k (by omega), am_j ey, am_j ey, am_k (by omega)]; exact u4 f a b z (by omega)) (fun k j a b => by rw [am_k b, am_k a]; exact u5 k j a b)).bk ⟨rfl, rfl, rfl, rfl, rfl, rfl, rfl, by rw [show (1 : Int) + ((i + 1 : Nat) : Int) = 1 + i + 1 by omega], trivial, trivial, trivial⟩ rfl
        · skip
          refine ap_ild_7 (pc := 158) dX4_bestSet_158 ?_
          refine ap_ist_5 (pc := 160) dX4_bestSet_160 (by decide) ?_
          refine ap_ald_0 (pc := 162) dX4_bestSet_162 ?_
          refine ap_getR (pc := 163) dX4_bestSet_163 fl_RX4_11 sh_91 rfl ?_
          refine ap_ild_1 (pc := 166) dX4_bestSet_166 ?_
          refine ap_ald_0 (pc := 167) dX4_bestSet_167 ?_
          refine ap_getR (pc := 168) dX4_bestSet_168 fl_RX4_15 sh_91 rfl ?_
          refine ap_ild_7 (pc := 171) dX4_bestSet_171 ?_
          refine ap_iaload (pc := 173) dX4_bestSet_173 sh_93 (by omega) (by omega) (by decide) ?_
          try simp (disch := omega) only [am_same, am_k, am_j, h93i]
          refine ap_iadd (pc := 174) dX4_bestSet_174 ?_
          refine ap_iaload (pc := 175) dX4_bestSet_175 sh_92 (by omega) (by omega) (by decide) ?_
          try simp (disch := omega) only [am_same, am_k, am_j, h93i]
          rw [h92]
          refine ap_ist_6 (pc := 176) dX4_bestSet_176 (by decide) ?_
          refine ap_iinc_7 (pc := 178) dX4_bestSet_178 (by decide) ?_
          refine ap_goto (pc := 181) 38 dX4_bestSet_181 rfl ?_
          exact (ih (by omega) _ _ _ (by rw [show (1 : Int) + ((i + 1 : Nat) : Int) = 1 + i + 1 by omega]; exact bp_yes u1 (by omega) ⟨ho, c136⟩ c155) hFx (fun y y0 y1 oy => by
              by_cases ey : y = 1 + (i : Int)
              · subst ey; exact ⟨by rw [am_k (by omega), am_same], by rw [am_same]⟩
              · rw [am_k (by omega), am_j ey, am_j ey, am_k (by omega)]; exact u3 y y0 (by omega) oy) (fun f a b z zz => by
              have ey : p2 f ≠ 1 + (i : Int) := by omega
              rw [am_k (by omega), am_j ey, am_j ey, am_k (by omega)]; exact u4 f a b z (by omega)) (fun k j a b => by rw [am_k b, am_k a]; exact u5 k j a b)).bk ⟨rfl, rfl, rfl, rfl, rfl, rfl, rfl, by rw [show (1 : Int) + ((i + 1 : Nat) : Int) = 1 + i + 1 by omega], trivial, trivial, trivial⟩ rfl
    · skip
      have hno : ¬ opS W s (1 + (i : Int)) := fun z => c52 ((sub_op hxs o1 o2).2 z)
      refine ap_goto (pc := 55) 178 dX4_bestSet_55 rfl ?_
      refine ap_iinc_7 (pc := 178) dX4_bestSet_178 (by decide) ?_
      refine ap_goto (pc := 181) 38 dX4_bestSet_181 rfl ?_
      exact (ih (by omega) _ _ mi (by rw [show (1 : Int) + ((i + 1 : Nat) : Int) = 1 + i + 1 by omega]; exact bp_no u1 (Or.inl (fun z => hno z.1))) u2 (fun y y0 y1 oy => u3 y y0 (by
          by_cases ey : y = 1 + (i : Int)
          · rw [ey] at oy; exact absurd oy hno
          · omega) oy) (fun f a b z zz => u4 f a b z (by omega)) u5).bk ⟨rfl, rfl, rfl, rfl, rfl, rfl, rfl, by rw [show (1 : Int) + ((i + 1 : Nat) : Int) = 1 + i + 1 by omega], trivial, trivial, trivial⟩ rfl

