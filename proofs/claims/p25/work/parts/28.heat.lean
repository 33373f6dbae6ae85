
def accL (g : Int → Int → Int) (z : Int) : Nat → Int
  | 0 => z
  | k + 1 => g k (accL g z k)
theorem accL_succ (g : Int → Int → Int) (z : Int) (k : Nat) : accL g z (k + 1) = g k (accL g z k) := rfl
def pulR (r : Int → Int) (f : Int) : Int := pullS (szR r f) (fun l => stR r f l) (fun l => exR r (coR r f l))
def hmG (r : Int → Int) (f : Int) : Int → Int → Int := fun l h => max h (meR r (coR r f l))
def hmR (r : Int → Int) (f : Int) : Int := accL (hmG r f) (-4) (szR r f).toNat
def hsG (r : Int → Int) (f : Int) : Int → Int → Int := fun l h => if stR r f l = 4 then h else if h = -4 then buR r (coR r f l) else min h (buR r (coR r f l))
def hsR (r : Int → Int) (f : Int) : Int := accL (hsG r f) (-4) (szR r f).toNat
def grG (r : Int → Int) (c : Int) : Int → Int → Int := fun f g => max g (iab (pulR r f - (pulR r 6 + (170 - exR r c))))
def grR (r : Int → Int) (c : Int) : Int := accL (grG r c) 0 6
theorem clF {r : Int → Int} {m : AM} (wR : wfR r) (g : agB 1 r m) : (∀ f : Int, 0 ≤ f → f < 7 → 0 ≤ m 7 f ∧ m 7 f ≤ 3) ∧ (∀ f l : Int, 0 ≤ f → f < 7 → 0 ≤ l → l < m 7 f → (0 ≤ m 8 (f * 3 + l) ∧ m 8 (f * 3 + l) < 12) ∧ (0 ≤ m 9 (f * 3 + l) ∧ m 9 (f * 3 + l) ≤ 4)) ∧ (∀ f l : Int, 0 ≤ f → f < 7 → 0 ≤ l → l < m 7 f → 60 ≤ m 5 (m 8 (f * 3 + l)) ∧ m 5 (m 8 (f * 3 + l)) ≤ 160) ∧ (∀ f : Int, 0 ≤ f → f < 7 → pullS (m 7 f) (fun l => m 9 (f * 3 + l)) (fun l => m 5 (m 8 (f * 3 + l))) = pulR r f) := by
  obtain ⟨gC, gP, gS, gW⟩ := ag1 g
  have h12 := wR.1.1
  refine ⟨fun f x y => ?_, fun f l x y z w => ?_, fun f l x y z w => ?_, fun f x y => ?_⟩
  · rw [gP.1 f x y]; exact (wR.2.1.1 f x y).1
  · rw [gP.1 f x y] at w
    have h1 := wR.2.1.2 f l x y z w
    have h2 := gP.2.1 f l x y z w
    rw [h2.1, h2.2.1]
    exact ⟨⟨h1.1.1, by omega⟩, h1.2.1⟩
  · rw [gP.1 f x y] at w
    have h1 := wR.2.1.2 f l x y z w
    have h2 := gP.2.1 f l x y z w
    rw [h2.1, (gC.2 _ h1.1.1 h1.1.2).2.2]
    exact (wR.1.2 _ h1.1.1 h1.1.2).2.2
  · refine pullS_congr (gP.1 f x y) (fun l z w => ?_)
    rw [gP.1 f x y] at w
    have h1 := wR.2.1.2 f l x y z w
    have h2 := gP.2.1 f l x y z w
    exact ⟨h2.2.1, by rw [h2.1, (gC.2 _ h1.1.1 h1.1.2).2.2]⟩
theorem pulR_bd {r : Int → Int} (wR : wfR r) {f : Int} (x : 0 ≤ f) (y : f < 7) : 0 ≤ pulR r f ∧ pulR r f ≤ 330 := by
  refine pullS_bd (wR.2.1.1 f x y).1.2 (fun l z w => ?_)
  have h1 := wR.2.1.2 f l x y z w
  exact (wR.1.2 _ h1.1.1 h1.1.2).2.2
theorem moF {r : Int → Int} (wR : wfR r) : (∀ f : Int, 0 ≤ f → f < 7 → 0 ≤ r (37 + 11 * f) ∧ r (37 + 11 * f) ≤ 3) ∧ (∀ f l : Int, 0 ≤ f → f < 7 → 0 ≤ l → l < r (37 + 11 * f) → (0 ≤ coR r f l ∧ coR r f l < 12) ∧ (0 ≤ stR r f l ∧ stR r f l ≤ 4)) ∧ (∀ f l : Int, 0 ≤ f → f < 7 → 0 ≤ l → l < r (37 + 11 * f) → 60 ≤ exR r (coR r f l) ∧ exR r (coR r f l) ≤ 160) := by
  have h12 := wR.1.1
  refine ⟨fun f x y => (wR.2.1.1 f x y).1, fun f l x y z w => ?_, fun f l x y z w => ?_⟩
  · have h1 := wR.2.1.2 f l x y z w
    exact ⟨⟨h1.1.1, by omega⟩, h1.2.1⟩
  · have h1 := wR.2.1.2 f l x y z w
    exact (wR.1.2 _ h1.1.1 h1.1.2).2.2
theorem hm_bd {r : Int → Int} (wR : wfR r) {f : Int} (x : 0 ≤ f) (y : f < 7) (k : Nat) (hk : (k : Int) ≤ szR r f) : -4 ≤ accL (hmG r f) (-4) k ∧ accL (hmG r f) (-4) k ≤ 900 := by
  induction k with
  | zero => exact ⟨Int.le_refl _, by show (-4 : Int) ≤ 900; omega⟩
  | succ k ih =>
    have h1 := wR.2.1.2 f k x y (by omega) (by omega)
    have h2 := (wR.1.2 _ h1.1.1 h1.1.2).1
    have := ih (by omega)
    rw [accL_succ]; simp only [hmG]
    omega
theorem hs_bd {r : Int → Int} (wR : wfR r) {f : Int} (x : 0 ≤ f) (y : f < 7) (k : Nat) (hk : (k : Int) ≤ szR r f) : -4 ≤ accL (hsG r f) (-4) k ∧ accL (hsG r f) (-4) k ≤ 1100 := by
  induction k with
  | zero => exact ⟨Int.le_refl _, by show (-4 : Int) ≤ 1100; omega⟩
  | succ k ih =>
    have h1 := wR.2.1.2 f k x y (by omega) (by omega)
    have h2 := (wR.1.2 _ h1.1.1 h1.1.2).1
    have h3 := (wR.1.2 _ h1.1.1 h1.1.2).2.1
    have := ih (by omega)
    rw [accL_succ]; simp only [hsG]
    (repeat' split) <;> omega
theorem gr_bd {r : Int → Int} (wR : wfR r) {c : Int} (c0 : 0 ≤ c) (c1 : c < r 0) (k : Nat) (hk : k ≤ 6) : 0 ≤ accL (grG r c) 0 k ∧ accL (grG r c) 0 k ≤ 1000 := by
  induction k with
  | zero => exact ⟨Int.le_refl _, by show (0 : Int) ≤ 1000; omega⟩
  | succ k ih =>
    have h2 := (wR.1.2 c c0 c1).2.2
    have p1 := pulR_bd wR (f := (k : Int)) (by omega) (by omega)
    have p2 := pulR_bd wR (f := 6) (by omega) (by omega)
    have := ih (by omega)
    rw [accL_succ]; simp only [grG, iab]
    split <;> omega
set_option maxHeartbeats 4000000 in
theorem qX5_heatThatMelts (f : Int) (r : Int → Int) (m : AM) (h0 : 0 ≤ f) (h1 : f < 7) (wR : wfR r) (g : agB 1 r m) : CS 1 mX5_heatThatMelts [.inr 6, .inl f, .inr 2] m (an (hmR r f) m) := by
  refine cs_of (by decide +kernel) (Nat.le_of_ble_eq_true rfl) rfl ?_
  obtain ⟨gC, gP, gS, gW⟩ := ag1 g
  obtain ⟨hn, hC, hX, hPu⟩ := clF wR g
  have h12 := wR.1.1
  have hp := plate6
  have hz := gP.1 f h0 h1
  have hz3 := (wR.2.1.1 f h0 h1).1
  refine ap_bipush (pc := 0) dX5_heatThatMelts_0 bp_m4 ?_
  refine ap_ist_3 (pc := 2) dX5_heatThatMelts_2 (by decide) ?_
  refine ap_const (pc := 3) dX5_heatThatMelts_3 ?_
  refine ap_ist_4 (pc := 4) dX5_heatThatMelts_4 (by decide) ?_
  refine AP.bk (up_rec (szR r f) (fun i => AP 1 mX5_heatThatMelts 6 [some (.inr 6), some (.inl f), some (.inr 2), some (.inl (accL (hmG r f) (-4) i)), some (.inl (i : Int))] [] m (an (hmR r f) m)) hz3.1 (fun i hi ih => ?_)) ⟨rfl, rfl, rfl, rfl, rfl, trivial⟩ rfl
  refine ap_ild_4 (pc := 6) dX5_heatThatMelts_6 ?_
  refine ap_ald_0 (pc := 8) dX5_heatThatMelts_8 ?_
  refine ap_getR (pc := 9) dX5_heatThatMelts_9 fl_RX5_9 sh_6 rfl ?_
  refine ap_ild_1 (pc := 12) dX5_heatThatMelts_12 ?_
  refine ap_iaload (pc := 13) dX5_heatThatMelts_13 sh_7 (by omega) (by omega) (by decide) ?_
  refine ap_icmp_ge (pc := 14) 44 dX5_heatThatMelts_14 rfl ⟨by omega, by omega⟩ ⟨by omega, by omega⟩ (fun c14 => ?_) (fun c14 => ?_)
  · skip
    rw [hz] at c14
    obtain rfl := nat_of hz3.1 hi c14
    refine ap_ild_3 (pc := 44) dX5_heatThatMelts_44 ?_
    exact ap_ireturn (pc := 45) dX5_heatThatMelts_45 rfl ⟨rfl, rfl⟩
  · skip
    rw [hz] at c14
    have h1r := wR.2.1.2 f (i : Int) h0 h1 (by omega) c14
    have h2r := gP.2.1 f (i : Int) h0 h1 (by omega) c14
    have h3r := gC.2 _ h1r.1.1 h1r.1.2
    have h4r := wR.1.2 _ h1r.1.1 h1r.1.2
    have hbd := hm_bd wR h0 h1 i (by omega)
    have hm8 : 0 ≤ m 8 (f * 3 + (i : Int)) ∧ m 8 (f * 3 + (i : Int)) < 12 := by rw [h2r.1]; exact ⟨h1r.1.1, by omega⟩
    have hst9 : 0 ≤ m 9 (f * 3 + (i : Int)) ∧ m 9 (f * 3 + (i : Int)) ≤ 4 := by rw [h2r.2.1]; exact h1r.2.1
    have hme : m 3 (m 8 (f * 3 + (i : Int))) = meR r (coR r f i) := by rw [h2r.1]; exact h3r.1
    have hbu : m 4 (m 8 (f * 3 + (i : Int))) = buR r (coR r f i) := by rw [h2r.1]; exact h3r.2.1
    have hme2 : 600 ≤ m 3 (m 8 (f * 3 + (i : Int))) ∧ m 3 (m 8 (f * 3 + (i : Int))) ≤ 900 := by rw [hme]; exact h4r.1
    have hbu2 : 610 ≤ m 4 (m 8 (f * 3 + (i : Int))) ∧ m 4 (m 8 (f * 3 + (i : Int))) ≤ 1100 := by rw [hbu]; have := h4r.1; have := h4r.2.1; omega
    refine ap_ild_3 (pc := 17) dX5_heatThatMelts_17 ?_
    refine ap_ald_2 (pc := 18) dX5_heatThatMelts_18 ?_
    refine ap_getR (pc := 19) dX5_heatThatMelts_19 fl_RX5_56 sh_2 rfl ?_
    refine ap_ald_0 (pc := 22) dX5_heatThatMelts_22 ?_
    refine ap_getR (pc := 23) dX5_heatThatMelts_23 fl_RX5_15 sh_6 rfl ?_
    refine ap_ild_1 (pc := 26) dX5_heatThatMelts_26 ?_
    refine ap_ild_4 (pc := 27) dX5_heatThatMelts_27 ?_
    refine ap_invS (pc := 29) dX5_heatThatMelts_29 ms_RX5_27 (av := [_, _]) (rest := [_, _, _]) (qX8_placeOf _ _ _) rfl rfl (Nat.le_of_ble_eq_true rfl) (by decide) (by decide) ?_
    rintro _ _ ⟨rfl, rfl⟩
    refine ap_iaload (pc := 32) dX5_heatThatMelts_32 sh_8 (by omega) (by omega) (by decide) ?_
    refine ap_iaload (pc := 33) dX5_heatThatMelts_33 sh_3 (by omega) (by omega) (by decide) ?_
    refine ap_mmax (pc := 34) dX5_heatThatMelts_34 jl_RX5_53 jw_max (by decide) (Nat.le_of_ble_eq_true rfl) ⟨by omega, by omega⟩ ⟨by omega, by omega⟩ ?_
    refine ap_ist_3 (pc := 37) dX5_heatThatMelts_37 (by decide) ?_
    refine ap_iinc_4 (pc := 38) dX5_heatThatMelts_38 (by decide) ?_
    refine ap_goto (pc := 41) 6 dX5_heatThatMelts_41 rfl ?_
    exact (ih c14).bk ⟨rfl, rfl, rfl, by rw [accL_succ, hme]; rfl, rfl, trivial⟩ rfl

set_option maxHeartbeats 4000000 in
theorem qX5_heatThatSpares (f : Int) (r : Int → Int) (m : AM) (h0 : 0 ≤ f) (h1 : f < 7) (wR : wfR r) (g : agB 1 r m) : CS 1 mX5_heatThatSpares [.inr 6, .inl f, .inr 2] m (an (hsR r f) m) := by
  refine cs_of (by decide +kernel) (Nat.le_of_ble_eq_true rfl) rfl ?_
  obtain ⟨gC, gP, gS, gW⟩ := ag1 g
  obtain ⟨hn, hC, hX, hPu⟩ := clF wR g
  have h12 := wR.1.1
  have hp := plate6
  have hz := gP.1 f h0 h1
  have hz3 := (wR.2.1.1 f h0 h1).1
  refine ap_bipush (pc := 0) dX5_heatThatSpares_0 bp_m4 ?_
  refine ap_ist_3 (pc := 2) dX5_heatThatSpares_2 (by decide) ?_
  refine ap_const (pc := 3) dX5_heatThatSpares_3 ?_
  refine ap_ist_4 (pc := 4) dX5_heatThatSpares_4 (by decide) ?_
  refine AP.bk (up_rec (szR r f) (fun i => AP 1 mX5_heatThatSpares 6 [some (.inr 6), some (.inl f), some (.inr 2), some (.inl (accL (hsG r f) (-4) i)), some (.inl (i : Int)), none, none] [] m (an (hsR r f) m)) hz3.1 (fun i hi ih => ?_)) ⟨rfl, rfl, rfl, rfl, rfl, trivial, trivial, trivial⟩ rfl
  refine ap_ild_4 (pc := 6) dX5_heatThatSpares_6 ?_
  refine ap_ald_0 (pc := 8) dX5_heatThatSpares_8 ?_
  refine ap_getR (pc := 9) dX5_heatThatSpares_9 fl_RX5_9 sh_6 rfl ?_
  refine ap_ild_1 (pc := 12) dX5_heatThatSpares_12 ?_
  refine ap_iaload (pc := 13) dX5_heatThatSpares_13 sh_7 (by omega) (by omega) (by decide) ?_
  refine ap_icmp_ge (pc := 14) 74 dX5_heatThatSpares_14 rfl ⟨by omega, by omega⟩ ⟨by omega, by omega⟩ (fun c14 => ?_) (fun c14 => ?_)
  · skip
    rw [hz] at c14
    obtain rfl := nat_of hz3.1 hi c14
    refine ap_ild_3 (pc := 74) dX5_heatThatSpares_74 ?_
    exact ap_ireturn (pc := 75) dX5_heatThatSpares_75 rfl ⟨rfl, rfl⟩
  · skip
    rw [hz] at c14
    have h1r := wR.2.1.2 f (i : Int) h0 h1 (by omega) c14
    have h2r := gP.2.1 f (i : Int) h0 h1 (by omega) c14
    have h3r := gC.2 _ h1r.1.1 h1r.1.2
    have h4r := wR.1.2 _ h1r.1.1 h1r.1.2
    have hbd := hs_bd wR h0 h1 i (by omega)
    have hm8 : 0 ≤ m 8 (f * 3 + (i : Int)) ∧ m 8 (f * 3 + (i : Int)) < 12 := by rw [h2r.1]; exact ⟨h1r.1.1, by omega⟩
    have hst9 : 0 ≤ m 9 (f * 3 + (i : Int)) ∧ m 9 (f * 3 + (i : Int)) ≤ 4 := by rw [h2r.2.1]; exact h1r.2.1
    have hme : m 3 (m 8 (f * 3 + (i : Int))) = meR r (coR r f i) := by rw [h2r.1]; exact h3r.1
    have hbu : m 4 (m 8 (f * 3 + (i : Int))) = buR r (coR r f i) := by rw [h2r.1]; exact h3r.2.1
    have hme2 : 600 ≤ m 3 (m 8 (f * 3 + (i : Int))) ∧ m 3 (m 8 (f * 3 + (i : Int))) ≤ 900 := by rw [hme]; exact h4r.1
    have hbu2 : 610 ≤ m 4 (m 8 (f * 3 + (i : Int))) ∧ m 4 (m 8 (f * 3 + (i : Int))) ≤ 1100 := by rw [hbu]; have := h4r.1; have := h4r.2.1; omega
    refine ap_ild_1 (pc := 17) dX5_heatThatSpares_17 ?_
    refine ap_ild_4 (pc := 18) dX5_heatThatSpares_18 ?_
    refine ap_invS (pc := 20) dX5_heatThatSpares_20 ms_RX5_27 (av := [_, _]) (rest := []) (qX8_placeOf _ _ _) rfl rfl (Nat.le_of_ble_eq_true rfl) (by decide) (by decide) ?_
    rintro _ _ ⟨rfl, rfl⟩
    refine ap_ist_5 (pc := 23) dX5_heatThatSpares_23 (by decide) ?_
    refine ap_ald_0 (pc := 25) dX5_heatThatSpares_25 ?_
    refine ap_getR (pc := 26) dX5_heatThatSpares_26 fl_RX5_18 sh_6 rfl ?_
    refine ap_ild_5 (pc := 29) dX5_heatThatSpares_29 ?_
    refine ap_iaload (pc := 31) dX5_heatThatSpares_31 sh_9 (by omega) (by omega) (by decide) ?_
    refine ap_const (pc := 32) dX5_heatThatSpares_32 ?_
    refine ap_icmp_eq (pc := 33) 68 dX5_heatThatSpares_33 rfl (Or.inr ⟨⟨by omega, by omega⟩, ⟨by omega, by omega⟩⟩) (fun c33 => ?_) (fun c33 => ?_)
    · skip
      refine ap_iinc_4 (pc := 68) dX5_heatThatSpares_68 (by decide) ?_
      refine ap_goto (pc := 71) 6 dX5_heatThatSpares_71 rfl ?_
      exact (ih c14).bk ⟨rfl, rfl, rfl, by
        rw [accL_succ]
        simp only [hsG]
        rw [← h2r.2.1]
        first
          | (rw [if_pos (by omega)]; done)
          | (rw [if_neg (by omega), if_pos (by omega), hbu]; done)
          | (rw [if_neg (by omega), if_neg (by omega), hbu]; done), rfl, trivial, trivial, trivial⟩ rfl
    · skip
      refine ap_ald_2 (pc := 36) dX5_heatThatSpares_36 ?_
      refine ap_getR (pc := 37) dX5_heatThatSpares_37 fl_RX5_59 sh_2 rfl ?_
      refine ap_ald_0 (pc := 40) dX5_heatThatSpares_40 ?_
      refine ap_getR (pc := 41) dX5_heatThatSpares_41 fl_RX5_15 sh_6 rfl ?_
      refine ap_ild_5 (pc := 44) dX5_heatThatSpares_44 ?_
      refine ap_iaload (pc := 46) dX5_heatThatSpares_46 sh_8 (by omega) (by omega) (by decide) ?_
      refine ap_iaload (pc := 47) dX5_heatThatSpares_47 sh_4 (by omega) (by omega) (by decide) ?_
      refine ap_ist_6 (pc := 48) dX5_heatThatSpares_48 (by decide) ?_
      refine ap_ild_3 (pc := 50) dX5_heatThatSpares_50 ?_
      refine ap_bipush (pc := 51) dX5_heatThatSpares_51 bp_m4 ?_
      refine ap_icmp_ne (pc := 53) 61 dX5_heatThatSpares_53 rfl (Or.inr ⟨⟨by omega, by omega⟩, ⟨by omega, by omega⟩⟩) (fun c53 => ?_) (fun c53 => ?_)
      · skip
        refine ap_ild_3 (pc := 61) dX5_heatThatSpares_61 ?_
        refine ap_ild_6 (pc := 62) dX5_heatThatSpares_62 ?_
        refine ap_mmin (pc := 64) dX5_heatThatSpares_64 jl_RX5_62 jw_min (by decide) (Nat.le_of_ble_eq_true rfl) ⟨by omega, by omega⟩ ⟨by omega, by omega⟩ ?_
        refine ap_ist_3 (pc := 67) dX5_heatThatSpares_67 (by decide) ?_
        refine ap_iinc_4 (pc := 68) dX5_heatThatSpares_68 (by decide) ?_
        refine ap_goto (pc := 71) 6 dX5_heatThatSpares_71 rfl ?_
        exact (ih c14).bk ⟨rfl, rfl, rfl, by
          rw [accL_succ]
          simp only [hsG]
          rw [← h2r.2.1]
          first
            | (rw [if_pos (by omega)]; done)
            | (rw [if_neg (by omega), if_pos (by omega), hbu]; done)
            | (rw [if_neg (by omega), if_neg (by omega), hbu]; done), rfl, trivial, trivial, trivial⟩ rfl
      · skip
        refine ap_ild_6 (pc := 56) dX5_heatThatSpares_56 ?_
        refine ap_goto (pc := 58) 67 dX5_heatThatSpares_58 rfl ?_
        refine ap_ist_3 (pc := 67) dX5_heatThatSpares_67 (by decide) ?_
        refine ap_iinc_4 (pc := 68) dX5_heatThatSpares_68 (by decide) ?_
        refine ap_goto (pc := 71) 6 dX5_heatThatSpares_71 rfl ?_
        exact (ih c14).bk ⟨rfl, rfl, rfl, by
          rw [accL_succ]
          simp only [hsG]
          rw [← h2r.2.1]
          first
            | (rw [if_pos (by omega)]; done)
            | (rw [if_neg (by omega), if_pos (by omega), hbu]; done)
            | (rw [if_neg (by omega), if_neg (by omega), hbu]; done), rfl, trivial, trivial, trivial⟩ rfl

set_option maxHeartbeats 4000000 in
theorem qX5_greatestStrainWith (c : Int) (r : Int → Int) (m : AM) (c0 : 0 ≤ c) (c1 : c < r 0) (wR : wfR r) (g : agB 1 r m) : CS 2 mX5_greatestStrainWith [.inr 6, .inl c, .inr 2] m (an (grR r c) m) := by
  refine cs_of (by decide +kernel) (Nat.le_of_ble_eq_true rfl) rfl ?_
  obtain ⟨gC, gP, gS, gW⟩ := ag1 g
  obtain ⟨hn, hC, hX, hPu⟩ := clF wR g
  have h12 := wR.1.1
  have hp := plate6
  have h6 := pulR_bd wR (f := 6) (by omega) (by omega)
  have hex : m 5 c = exR r c := (gC.2 c c0 c1).2.2
  have hx2 := (wR.1.2 c c0 c1).2.2
  refine ap_ald_0 (pc := 0) dX5_greatestStrainWith_0 ?_
  refine ap_bipush (pc := 1) dX5_greatestStrainWith_1 bp_6 ?_
  refine ap_ald_2 (pc := 3) dX5_greatestStrainWith_3 ?_
  refine ap_invV (pc := 4) dX5_greatestStrainWith_4 mv_RX5_45 sh_6 (av := [_, _]) (rest := []) (qX5_pullOf plate6 _ _ (by omega) (by omega) (hn _ (by omega) (by omega)) (fun l a b => hC _ l (by omega) (by omega) a b)) rfl rfl (Nat.le_of_ble_eq_true rfl) (by decide) (by decide) ?_
  rintro _ _ ⟨rfl, rfl⟩
  rw [hPu _ (by omega) (by omega)]
  refine ap_ald_2 (pc := 7) dX5_greatestStrainWith_7 ?_
  refine ap_ild_1 (pc := 8) dX5_greatestStrainWith_8 ?_
  refine ap_invV (pc := 9) dX5_greatestStrainWith_9 mv_RX5_39 sh_2 (av := [_]) (rest := [_]) (qX3_pullOf _ _ (by omega) (by omega)) rfl rfl (Nat.le_of_ble_eq_true rfl) (by decide) (by decide) ?_
  rintro _ _ ⟨rfl, rfl⟩
  refine ap_iadd (pc := 12) dX5_greatestStrainWith_12 ?_
  refine ap_ist_3 (pc := 13) dX5_greatestStrainWith_13 (by decide) ?_
  refine ap_const (pc := 14) dX5_greatestStrainWith_14 ?_
  refine ap_ist_4 (pc := 15) dX5_greatestStrainWith_15 (by decide) ?_
  refine ap_const (pc := 17) dX5_greatestStrainWith_17 ?_
  refine ap_ist_5 (pc := 18) dX5_greatestStrainWith_18 (by decide) ?_
  rw [hex]
  refine AP.bk (up_rec 6 (fun f => AP 2 mX5_greatestStrainWith 20 [some (.inr 6), some (.inl c), some (.inr 2), some (.inl (pulR r 6 + (170 - exR r c))), some (.inl (accL (grG r c) 0 f)), some (.inl (f : Int))] [] m (an (grR r c) m)) (by omega) (fun f hf ihf => ?_)) ⟨rfl, rfl, rfl, rfl, rfl, rfl, trivial⟩ rfl
  refine ap_ild_5 (pc := 20) dX5_greatestStrainWith_20 ?_
  refine ap_bipush (pc := 22) dX5_greatestStrainWith_22 bp_6 ?_
  refine ap_icmp_ge (pc := 24) 52 dX5_greatestStrainWith_24 rfl ⟨by omega, by omega⟩ ⟨by omega, by omega⟩ (fun c24 => ?_) (fun c24 => ?_)
  · skip
    have e7 : f = 6 := by omega
    subst e7
    refine ap_ild_4 (pc := 52) dX5_greatestStrainWith_52 ?_
    exact ap_ireturn (pc := 54) dX5_greatestStrainWith_54 rfl ⟨rfl, rfl⟩
  · skip
    have hf1 := pulR_bd wR (f := (f : Int)) (by omega) (by omega)
    have hgb := gr_bd wR c0 c1 f (by omega)
    refine ap_ild_4 (pc := 27) dX5_greatestStrainWith_27 ?_
    refine ap_ald_0 (pc := 29) dX5_greatestStrainWith_29 ?_
    refine ap_ild_5 (pc := 30) dX5_greatestStrainWith_30 ?_
    refine ap_ald_2 (pc := 32) dX5_greatestStrainWith_32 ?_
    refine ap_invV (pc := 33) dX5_greatestStrainWith_33 mv_RX5_45 sh_6 (av := [_, _]) (rest := [_]) (qX5_pullOf plate6 _ _ (by omega) (by omega) (hn _ (by omega) (by omega)) (fun l a b => hC _ l (by omega) (by omega) a b)) rfl rfl (Nat.le_of_ble_eq_true rfl) (by decide) (by decide) ?_
    rintro _ _ ⟨rfl, rfl⟩
    rw [hPu _ (by omega) (by omega)]
    refine ap_ild_3 (pc := 36) dX5_greatestStrainWith_36 ?_
    refine ap_isub (pc := 37) dX5_greatestStrainWith_37 ?_
    refine ap_mabs (pc := 38) dX5_greatestStrainWith_38 jl_RX5_48 jw_abs (by decide) (Nat.le_of_ble_eq_true rfl) ⟨by omega, by omega⟩ ?_
    refine ap_mmax (pc := 41) dX5_greatestStrainWith_41 jl_RX5_53 jw_max (by decide) (Nat.le_of_ble_eq_true rfl) ⟨by omega, by omega⟩ ⟨by split <;> omega, by split <;> omega⟩ ?_
    refine ap_ist_4 (pc := 44) dX5_greatestStrainWith_44 (by decide) ?_
    refine ap_iinc_5 (pc := 46) dX5_greatestStrainWith_46 (by decide) ?_
    refine ap_goto (pc := 49) 20 dX5_greatestStrainWith_49 rfl ?_
    exact (ihf c24).bk ⟨rfl, rfl, rfl, rfl, rfl, rfl, trivial⟩ rfl


def ctG (r : Int → Int) : Nat → Int × Int
  | 0 => (-4, 0)
  | k + 1 => if (ctG r k).1 = -4 ∨ grR r k < (ctG r k).2 then ((k : Int), grR r k) else ctG r k
def ctR (r : Int → Int) : Int := (ctG r (r 0).toNat).1
theorem ct_bd {r : Int → Int} (wR : wfR r) (k : Nat) (hk : (k : Int) ≤ r 0) : (-4 ≤ (ctG r k).1 ∧ (ctG r k).1 ≤ 12) ∧ (0 ≤ (ctG r k).2 ∧ (ctG r k).2 ≤ 1000) := by
  induction k with
  | zero => exact ⟨⟨Int.le_refl _, by show (-4 : Int) ≤ 12; omega⟩, Int.le_refl _, by show (0 : Int) ≤ 1000; omega⟩
  | succ k ih =>
    have h1 := ih (by omega)
    have h2 := gr_bd wR (c := (k : Int)) (by omega) (by omega) 6 (by omega)
    have h3 := wR.1.1
    have h4 : 0 ≤ grR r k ∧ grR r k ≤ 1000 := h2
    unfold ctG
    split
    · exact ⟨⟨by show (-4 : Int) ≤ k; omega, by show (k : Int) ≤ 12; omega⟩, h4⟩
    · exact h1

set_option maxHeartbeats 4000000 in
theorem qX8_counter (r : Int → Int) (m : AM) (wR : wfR r) (g : agB 1 r m) : CS 3 mX8_counter [.inr 0] m (an (ctR r) m) := by
  refine cs_of (by decide +kernel) (Nat.le_of_ble_eq_true rfl) rfl ?_
  obtain ⟨gC, gP, gS, gW⟩ := ag1 g
  have h12 := wR.1.1
  have h0 : m 2 3 = r 0 := gC.1
  refine ap_bipush (pc := 0) dX8_counter_0 bp_m4 ?_
  refine ap_ist_1 (pc := 2) dX8_counter_2 (by decide) ?_
  refine ap_const (pc := 3) dX8_counter_3 ?_
  refine ap_ist_2 (pc := 4) dX8_counter_4 (by decide) ?_
  refine ap_const (pc := 5) dX8_counter_5 ?_
  refine ap_ist_3 (pc := 6) dX8_counter_6 (by decide) ?_
  refine AP.bk (up_rec (r 0) (fun i => AP 3 mX8_counter 7 [some (.inr 0), some (.inl (ctG r i).1), some (.inl (ctG r i).2), some (.inl (i : Int)), none] [] m (an (ctR r) m)) h12.1 (fun i hi ih => ?_)) ⟨rfl, rfl, rfl, rfl, trivial, trivial⟩ rfl
  refine ap_ild_3 (pc := 7) dX8_counter_7 ?_
  refine ap_ald_0 (pc := 8) dX8_counter_8 ?_
  refine ap_getR (pc := 9) dX8_counter_9 fl_RX8_10 sh_0 rfl ?_
  refine ap_getR (pc := 12) dX8_counter_12 fl_RX8_59 sh_1 rfl ?_
  refine ap_getI (pc := 15) (jz := 3) dX8_counter_15 fl_RX8_63 sh_2 rfl rfl ?_
  refine ap_icmp_ge (pc := 18) 64 dX8_counter_18 rfl ⟨by omega, by omega⟩ ⟨by omega, by omega⟩ (fun c18 => ?_) (fun c18 => ?_)
  · skip
    rw [h0] at c18
    obtain rfl := nat_of h12.1 hi c18
    refine ap_ild_1 (pc := 64) dX8_counter_64 ?_
    exact ap_ireturn (pc := 65) dX8_counter_65 rfl ⟨rfl, rfl⟩
  · skip
    rw [h0] at c18
    have hlt : (i : Int) < r 0 := c18
    have hcb := ct_bd wR i (by omega)
    have hgb : 0 ≤ grR r i ∧ grR r i ≤ 1000 := gr_bd wR (c := (i : Int)) (by omega) (by omega) 6 (by omega)
    refine ap_ald_0 (pc := 21) dX8_counter_21 ?_
    refine ap_getR (pc := 22) dX8_counter_22 fl_RX8_10 sh_0 rfl ?_
    refine ap_getR (pc := 25) dX8_counter_25 fl_RX8_95 sh_1 rfl ?_
    refine ap_ild_3 (pc := 28) dX8_counter_28 ?_
    refine ap_ald_0 (pc := 29) dX8_counter_29 ?_
    refine ap_getR (pc := 30) dX8_counter_30 fl_RX8_10 sh_0 rfl ?_
    refine ap_getR (pc := 33) dX8_counter_33 fl_RX8_59 sh_1 rfl ?_
    refine ap_invV (pc := 36) dX8_counter_36 mv_RX8_227 sh_6 (av := [_, _]) (rest := []) (qX5_greatestStrainWith _ _ _ (by omega) hlt wR g) rfl rfl (Nat.le_of_ble_eq_true rfl) (by decide) (by decide) ?_
    rintro _ _ ⟨rfl, rfl⟩
    refine ap_ist_4 (pc := 39) dX8_counter_39 (by decide) ?_
    refine ap_ild_1 (pc := 41) dX8_counter_41 ?_
    refine ap_bipush (pc := 42) dX8_counter_42 bp_m4 ?_
    refine ap_icmp_eq (pc := 44) 53 dX8_counter_44 rfl (Or.inr ⟨⟨by omega, by omega⟩, ⟨by omega, by omega⟩⟩) (fun c44 => ?_) (fun c44 => ?_)
    · skip
      refine ap_ild_3 (pc := 53) dX8_counter_53 ?_
      refine ap_ist_1 (pc := 54) dX8_counter_54 (by decide) ?_
      refine ap_ild_4 (pc := 55) dX8_counter_55 ?_
      refine ap_ist_2 (pc := 57) dX8_counter_57 (by decide) ?_
      refine ap_iinc_3 (pc := 58) dX8_counter_58 (by decide) ?_
      refine ap_goto (pc := 61) 7 dX8_counter_61 rfl ?_
      exact (ih c18).bk ⟨rfl, by simp only [ctG]; first | (rw [if_pos (by omega)]; rfl) | rw [if_pos (by omega)] | rw [if_neg (by omega)], by simp only [ctG]; first | (rw [if_pos (by omega)]; rfl) | rw [if_pos (by omega)] | rw [if_neg (by omega)], rfl, trivial, trivial⟩ rfl
    · skip
      refine ap_ild_4 (pc := 47) dX8_counter_47 ?_
      refine ap_ild_2 (pc := 49) dX8_counter_49 ?_
      refine ap_icmp_ge (pc := 50) 58 dX8_counter_50 rfl ⟨by omega, by omega⟩ ⟨by omega, by omega⟩ (fun c50 => ?_) (fun c50 => ?_)
      · skip
        refine ap_iinc_3 (pc := 58) dX8_counter_58 (by decide) ?_
        refine ap_goto (pc := 61) 7 dX8_counter_61 rfl ?_
        exact (ih c18).bk ⟨rfl, by simp only [ctG]; first | (rw [if_pos (by omega)]; rfl) | rw [if_pos (by omega)] | rw [if_neg (by omega)], by simp only [ctG]; first | (rw [if_pos (by omega)]; rfl) | rw [if_pos (by omega)] | rw [if_neg (by omega)], rfl, trivial, trivial⟩ rfl
      · skip
        refine ap_ild_3 (pc := 53) dX8_counter_53 ?_
        refine ap_ist_1 (pc := 54) dX8_counter_54 (by decide) ?_
        refine ap_ild_4 (pc := 55) dX8_counter_55 ?_
        refine ap_ist_2 (pc := 57) dX8_counter_57 (by decide) ?_
        refine ap_iinc_3 (pc := 58) dX8_counter_58 (by decide) ?_
        refine ap_goto (pc := 61) 7 dX8_counter_61 rfl ?_
        exact (ih c18).bk ⟨rfl, by simp only [ctG]; first | (rw [if_pos (by omega)]; rfl) | rw [if_pos (by omega)] | rw [if_neg (by omega)], by simp only [ctG]; first | (rw [if_pos (by omega)]; rfl) | rw [if_pos (by omega)] | rw [if_neg (by omega)], rfl, trivial, trivial⟩ rfl

