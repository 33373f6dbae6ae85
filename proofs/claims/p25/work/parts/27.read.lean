
theorem ag1 {r : Int → Int} {m : AM} (g : agB 1 r m) : agC 2 3 4 5 r m ∧ agP 7 8 9 10 11 r m ∧ agS 15 16 r m ∧ agW 13 14 r m := g
def two (n : Int → Int) (g : Int → Int → Int) (k : Nat) : Int := sumL (fun f => sumL (g f) (n f).toNat) k
theorem two_succ (n : Int → Int) (g : Int → Int → Int) (k : Nat) : two n g (k + 1) = two n g k + sumL (g k) (n k).toNat := rfl
theorem two_congr {n n' : Int → Int} {g g' : Int → Int → Int} {k : Nat} (h : ∀ f : Nat, f < k → n f = n' f ∧ ∀ l : Int, 0 ≤ l → l < n f → g f l = g' f l) : two n g k = two n' g' k := by
  unfold two
  refine sumL_congr (fun i hi => ?_)
  obtain ⟨h1, h2⟩ := h i hi
  rw [← h1]
  exact sumL_congr (fun l hl => h2 l (by omega) (by omega))
theorem cnt_all {r : Int → Int} (wP : wfP r) {f : Int} (f0 : 0 ≤ f) (f7 : f < 7) : cntR r f 0 4 = szR r f := by
  have hz := (wP.1 f f0 f7).1
  have key : ∀ k : Nat, (k : Int) ≤ szR r f → sumL (fun l => if 0 ≤ stR r f l ∧ stR r f l ≤ 4 then 1 else 0) k = k := by
    intro k
    induction k with
    | zero => exact fun _ => rfl
    | succ k ih =>
      intro hk
      rw [sumL_succ, ih (by omega), if_pos (wP.2 f k f0 f7 (by omega) (by omega)).2.1]
      rfl
  unfold cntR
  rw [key _ (by omega)]
  omega
/-- layers of all fields with states from a to b; layers of a colour; how often a colour is wished -/
def stN (r : Int → Int) (a b : Int) : Int := sumL (fun f => cntR r f a b) 7
def colN (r : Int → Int) (c : Int) : Int := two (szR r) (fun f l => if coR r f l = c then 1 else 0) 7
def wisN (r : Int → Int) (c : Int) : Int := two (fun f => r (126 + 4 * f)) (fun f k => if r (126 + 4 * f + 1 + k) = c then 1 else 0) 6
def layN (r : Int → Int) : Int := sumL (szR r) 7
def crkN (r : Int → Int) : Int := sumL (crR r) 6
def wisT (r : Int → Int) : Int := sumL (fun f => r (126 + 4 * f)) 6
theorem stN_all {r : Int → Int} (wP : wfP r) : stN r 0 4 = layN r := by
  unfold stN layN
  exact sumL_congr (fun i hi => cnt_all wP (by omega) (by omega))
set_option maxHeartbeats 4000000 in
theorem qX5_layersWith (a : Nat) (v : Int) (m : AM) (ha : SH[a]? = some (.inr (.inl (0, 21)))) (hn : ∀ f : Int, 0 ≤ f → f < 7 → 0 ≤ m 7 f ∧ m 7 f ≤ 3) (hA : ∀ f l : Int, 0 ≤ f → f < 7 → 0 ≤ l → l < m 7 f → rng (m a (f * 3 + l))) (hv : rng v) : CS 1 mX5_layersWith [.inr 6, .inr a, .inl v] m (an (two (m 7) (fun f l => if m a (f * 3 + l) = v then 1 else 0) 7) m) := by
  refine cs_of (by decide +kernel) (Nat.le_of_ble_eq_true rfl) rfl ?_
  refine ap_const (pc := 0) dX5_layersWith_0 ?_
  refine ap_ist_3 (pc := 1) dX5_layersWith_1 (by decide) ?_
  refine ap_const (pc := 2) dX5_layersWith_2 ?_
  refine ap_ist_4 (pc := 3) dX5_layersWith_3 (by decide) ?_
  refine AP.bk (up_rec 7 (fun f => AP 1 mX5_layersWith 5 [some (.inr 6), some (.inr a), some (.inl v), some (.inl (two (m 7) (fun f l => if m a (f * 3 + l) = v then 1 else 0) f)), some (.inl (f : Int)), none] [] m (an (two (m 7) (fun f l => if m a (f * 3 + l) = v then 1 else 0) 7) m)) (by omega) (fun f hf ihf => ?_)) ⟨rfl, rfl, rfl, rfl, rfl, trivial, trivial⟩ rfl
  refine ap_ild_4 (pc := 5) dX5_layersWith_5 ?_
  refine ap_bipush (pc := 7) dX5_layersWith_7 bp_7 ?_
  refine ap_icmp_ge (pc := 9) 55 dX5_layersWith_9 rfl ⟨by omega, by omega⟩ ⟨by omega, by omega⟩ (fun c9 => ?_) (fun c9 => ?_)
  · skip
    have e7 : f = 7 := by omega
    subst e7
    refine ap_ild_3 (pc := 55) dX5_layersWith_55 ?_
    exact ap_ireturn (pc := 56) dX5_layersWith_56 rfl ⟨rfl, rfl⟩
  · skip
    refine ap_const (pc := 12) dX5_layersWith_12 ?_
    refine ap_ist_5 (pc := 13) dX5_layersWith_13 (by decide) ?_
    have hnf := hn (f : Int) (by omega) c9
    refine AP.bk (up_rec (m 7 f) (fun l => AP 1 mX5_layersWith 15 [some (.inr 6), some (.inr a), some (.inl v), some (.inl (two (m 7) (fun f l => if m a (f * 3 + l) = v then 1 else 0) f + sumL ((fun f l => if m a (f * 3 + l) = v then 1 else 0) f) l)), some (.inl (f : Int)), some (.inl (l : Int))] [] m (an (two (m 7) (fun f l => if m a (f * 3 + l) = v then 1 else 0) 7) m)) hnf.1 (fun l hl ihl => ?_)) ⟨rfl, rfl, rfl, congrArg (fun z => some (Sum.inl z)) (Int.add_zero _).symm, rfl, rfl, trivial⟩ rfl
    refine ap_ild_5 (pc := 15) dX5_layersWith_15 ?_
    refine ap_ald_0 (pc := 17) dX5_layersWith_17 ?_
    refine ap_getR (pc := 18) dX5_layersWith_18 fl_RX5_9 sh_6 rfl ?_
    refine ap_ild_4 (pc := 21) dX5_layersWith_21 ?_
    refine ap_iaload (pc := 23) dX5_layersWith_23 sh_7 (by omega) (by omega) (by decide) ?_
    refine ap_icmp_ge (pc := 24) 49 dX5_layersWith_24 rfl ⟨by omega, by omega⟩ ⟨by omega, by omega⟩ (fun c24 => ?_) (fun c24 => ?_)
    · skip
      obtain rfl := nat_of hnf.1 hl c24
      refine ap_iinc_4 (pc := 49) dX5_layersWith_49 (by decide) ?_
      refine ap_goto (pc := 52) 5 dX5_layersWith_52 rfl ?_
      exact (ihf c9).bk ⟨rfl, rfl, rfl, rfl, rfl, trivial, trivial⟩ rfl
    · skip
      have hr := hA (f : Int) (l : Int) (by omega) c9 (by omega) c24
      refine ap_ald_1 (pc := 27) dX5_layersWith_27 ?_
      refine ap_ild_4 (pc := 28) dX5_layersWith_28 ?_
      refine ap_ild_5 (pc := 30) dX5_layersWith_30 ?_
      refine ap_invS (pc := 32) dX5_layersWith_32 ms_RX5_27 (av := [_, _]) (rest := [_]) (qX8_placeOf _ _ _) rfl rfl (Nat.le_of_ble_eq_true rfl) (by decide) (by decide) ?_
      rintro _ _ ⟨rfl, rfl⟩
      refine ap_iaload (pc := 35) dX5_layersWith_35 ha (by omega) (by omega) (by decide) ?_
      refine ap_ild_2 (pc := 36) dX5_layersWith_36 ?_
      refine ap_icmp_ne (pc := 37) 43 dX5_layersWith_37 rfl (Or.inr ⟨⟨by omega, by omega⟩, ⟨by omega, by omega⟩⟩) (fun c37 => ?_) (fun c37 => ?_)
      · skip
        refine ap_iinc_5 (pc := 43) dX5_layersWith_43 (by decide) ?_
        refine ap_goto (pc := 46) 15 dX5_layersWith_46 rfl ?_
        exact (ihl c24).bk ⟨rfl, rfl, rfl, by first | (simp only [sumL_succ, if_pos c37, Int.add_assoc]; done) | simp only [sumL_succ, if_neg c37, Int.add_zero], rfl, rfl, trivial⟩ rfl
      · skip
        refine ap_iinc_3 (pc := 40) dX5_layersWith_40 (by decide) ?_
        refine ap_iinc_5 (pc := 43) dX5_layersWith_43 (by decide) ?_
        refine ap_goto (pc := 46) 15 dX5_layersWith_46 rfl ?_
        exact (ihl c24).bk ⟨rfl, rfl, rfl, by first | (simp only [sumL_succ, if_pos c37, Int.add_assoc]; done) | simp only [sumL_succ, if_neg c37, Int.add_zero], rfl, rfl, trivial⟩ rfl

set_option maxHeartbeats 4000000 in
theorem qX5_layersOfColor (v : Int) (r : Int → Int) (m : AM) (wR : wfR r) (g : agB 1 r m) (hv : rng v) : CS 2 mX5_layersOfColor [.inr 6, .inl v] m (an (colN r v) m) := by
  refine cs_of (by decide +kernel) (Nat.le_of_ble_eq_true rfl) rfl ?_
  obtain ⟨gC, gP, gS, gW⟩ := ag1 g
  have h12 := wR.1.1
  have hn : ∀ f : Int, 0 ≤ f → f < 7 → 0 ≤ m 7 f ∧ m 7 f ≤ 3 := fun f x y => by rw [gP.1 f x y]; exact (wR.2.1.1 f x y).1
  have hA : ∀ f l : Int, 0 ≤ f → f < 7 → 0 ≤ l → l < m 7 f → rng (m 8 (f * 3 + l)) := fun f l x y z w => by
    rw [gP.1 f x y] at w
    have h1 := wR.2.1.2 f l x y z w
    rw [(gP.2.1 f l x y z w).1]
    constructor <;> omega
  have hfin : two (m 7) (fun f l => if m 8 (f * 3 + l) = v then 1 else 0) 7 = colN r v := by
    unfold colN
    refine two_congr (fun f hf => ⟨gP.1 f (by omega) (by omega), fun l z w => ?_⟩)
    rw [gP.1 f (by omega) (by omega)] at w
    rw [(gP.2.1 f l (by omega) (by omega) z w).1]
  refine ap_ald_0 (pc := 0) dX5_layersOfColor_0 ?_
  refine ap_ald_0 (pc := 1) dX5_layersOfColor_1 ?_
  refine ap_getR (pc := 2) dX5_layersOfColor_2 fl_RX5_15 sh_6 rfl ?_
  refine ap_ild_1 (pc := 5) dX5_layersOfColor_5 ?_
  refine ap_invV (pc := 6) dX5_layersOfColor_6 mv_RX5_31 sh_6 (av := [_, _]) (rest := []) (qX5_layersWith 8 _ _ sh_8 hn hA hv) rfl rfl (Nat.le_of_ble_eq_true rfl) (by decide) (by decide) ?_
  rintro _ _ ⟨rfl, rfl⟩
  exact ap_ireturn (pc := 9) dX5_layersOfColor_9 rfl ⟨by rw [hfin], rfl⟩

set_option maxHeartbeats 4000000 in
theorem qX5_layersOfState (v : Int) (r : Int → Int) (m : AM) (wR : wfR r) (g : agB 1 r m) (hv : rng v) : CS 2 mX5_layersOfState [.inr 6, .inl v] m (an (stN r v v) m) := by
  refine cs_of (by decide +kernel) (Nat.le_of_ble_eq_true rfl) rfl ?_
  obtain ⟨gC, gP, gS, gW⟩ := ag1 g
  have h12 := wR.1.1
  have hn : ∀ f : Int, 0 ≤ f → f < 7 → 0 ≤ m 7 f ∧ m 7 f ≤ 3 := fun f x y => by rw [gP.1 f x y]; exact (wR.2.1.1 f x y).1
  have hA : ∀ f l : Int, 0 ≤ f → f < 7 → 0 ≤ l → l < m 7 f → rng (m 9 (f * 3 + l)) := fun f l x y z w => by
    rw [gP.1 f x y] at w
    have h1 := wR.2.1.2 f l x y z w
    rw [(gP.2.1 f l x y z w).2.1]
    constructor <;> omega
  have hfin : two (m 7) (fun f l => if m 9 (f * 3 + l) = v then 1 else 0) 7 = stN r v v := by
    unfold stN cntR
    refine two_congr (fun f hf => ⟨gP.1 f (by omega) (by omega), fun l z w => ?_⟩)
    rw [gP.1 f (by omega) (by omega)] at w
    rw [(gP.2.1 f l (by omega) (by omega) z w).2.1]; (split <;> split <;> first | rfl | (exfalso; omega))
  refine ap_ald_0 (pc := 0) dX5_layersOfState_0 ?_
  refine ap_ald_0 (pc := 1) dX5_layersOfState_1 ?_
  refine ap_getR (pc := 2) dX5_layersOfState_2 fl_RX5_18 sh_6 rfl ?_
  refine ap_ild_1 (pc := 5) dX5_layersOfState_5 ?_
  refine ap_invV (pc := 6) dX5_layersOfState_6 mv_RX5_31 sh_6 (av := [_, _]) (rest := []) (qX5_layersWith 9 _ _ sh_9 hn hA hv) rfl rfl (Nat.le_of_ble_eq_true rfl) (by decide) (by decide) ?_
  rintro _ _ ⟨rfl, rfl⟩
  exact ap_ireturn (pc := 9) dX5_layersOfState_9 rfl ⟨by rw [hfin], rfl⟩

set_option maxHeartbeats 4000000 in
theorem qX5_layers (r : Int → Int) (m : AM) (wR : wfR r) (g : agB 1 r m) : CS 1 mX5_layers [.inr 6] m (an (layN r) m) := by
  refine cs_of (by decide +kernel) (Nat.le_of_ble_eq_true rfl) rfl ?_
  obtain ⟨gC, gP, gS, gW⟩ := ag1 g
  refine ap_const (pc := 0) dX5_layers_0 ?_
  refine ap_ist_1 (pc := 1) dX5_layers_1 (by decide) ?_
  refine ap_const (pc := 2) dX5_layers_2 ?_
  refine ap_ist_2 (pc := 3) dX5_layers_3 (by decide) ?_
  refine AP.bk (up_rec 7 (fun f => AP 1 mX5_layers 4 [some (.inr 6), some (.inl (sumL (szR r) f)), some (.inl (f : Int))] [] m (an (layN r) m)) (by omega) (fun f hf ihf => ?_)) ⟨rfl, rfl, rfl, trivial⟩ rfl
  refine ap_ild_2 (pc := 4) dX5_layers_4 ?_
  refine ap_bipush (pc := 5) dX5_layers_5 bp_7 ?_
  refine ap_icmp_ge (pc := 7) 25 dX5_layers_7 rfl ⟨by omega, by omega⟩ ⟨by omega, by omega⟩ (fun c7 => ?_) (fun c7 => ?_)
  · skip
    have e7 : f = 7 := by omega
    subst e7
    refine ap_ild_1 (pc := 25) dX5_layers_25 ?_
    exact ap_ireturn (pc := 26) dX5_layers_26 rfl ⟨rfl, rfl⟩
  · skip
    skip
    refine ap_ild_1 (pc := 10) dX5_layers_10 ?_
    refine ap_ald_0 (pc := 11) dX5_layers_11 ?_
    refine ap_getR (pc := 12) dX5_layers_12 fl_RX5_9 sh_6 rfl ?_
    refine ap_ild_2 (pc := 15) dX5_layers_15 ?_
    refine ap_iaload (pc := 16) dX5_layers_16 sh_7 (by omega) (by omega) (by decide) ?_
    refine ap_iadd (pc := 17) dX5_layers_17 ?_
    refine ap_ist_1 (pc := 18) dX5_layers_18 (by decide) ?_
    refine ap_iinc_2 (pc := 19) dX5_layers_19 (by decide) ?_
    refine ap_goto (pc := 22) 4 dX5_layers_22 rfl ?_
    exact (ihf c7).bk ⟨rfl, by rw [gP.1 (f : Int) (by omega) c7]; rfl, rfl, trivial⟩ rfl

set_option maxHeartbeats 4000000 in
theorem qX5_crackedFields (r : Int → Int) (m : AM) (wR : wfR r) (g : agB 1 r m) : CS 1 mX5_crackedFields [.inr 6] m (an (crkN r) m) := by
  refine cs_of (by decide +kernel) (Nat.le_of_ble_eq_true rfl) rfl ?_
  obtain ⟨gC, gP, gS, gW⟩ := ag1 g
  refine ap_const (pc := 0) dX5_crackedFields_0 ?_
  refine ap_ist_1 (pc := 1) dX5_crackedFields_1 (by decide) ?_
  refine ap_const (pc := 2) dX5_crackedFields_2 ?_
  refine ap_ist_2 (pc := 3) dX5_crackedFields_3 (by decide) ?_
  refine AP.bk (up_rec 6 (fun f => AP 1 mX5_crackedFields 4 [some (.inr 6), some (.inl (sumL (crR r) f)), some (.inl (f : Int))] [] m (an (crkN r) m)) (by omega) (fun f hf ihf => ?_)) ⟨rfl, rfl, rfl, trivial⟩ rfl
  refine ap_ild_2 (pc := 4) dX5_crackedFields_4 ?_
  refine ap_bipush (pc := 5) dX5_crackedFields_5 bp_6 ?_
  refine ap_icmp_ge (pc := 7) 25 dX5_crackedFields_7 rfl ⟨by omega, by omega⟩ ⟨by omega, by omega⟩ (fun c7 => ?_) (fun c7 => ?_)
  · skip
    have e7 : f = 6 := by omega
    subst e7
    refine ap_ild_1 (pc := 25) dX5_crackedFields_25 ?_
    exact ap_ireturn (pc := 26) dX5_crackedFields_26 rfl ⟨rfl, rfl⟩
  · skip
    skip
    refine ap_ild_1 (pc := 10) dX5_crackedFields_10 ?_
    refine ap_ald_0 (pc := 11) dX5_crackedFields_11 ?_
    refine ap_getR (pc := 12) dX5_crackedFields_12 fl_RX5_24 sh_6 rfl ?_
    refine ap_ild_2 (pc := 15) dX5_crackedFields_15 ?_
    refine ap_iaload (pc := 16) dX5_crackedFields_16 sh_11 (by omega) (by omega) (by decide) ?_
    refine ap_iadd (pc := 17) dX5_crackedFields_17 ?_
    refine ap_ist_1 (pc := 18) dX5_crackedFields_18 (by decide) ?_
    refine ap_iinc_2 (pc := 19) dX5_crackedFields_19 (by decide) ?_
    refine ap_goto (pc := 22) 4 dX5_crackedFields_22 rfl ?_
    exact (ihf c7).bk ⟨rfl, by rw [gP.2.2 (f : Int) (by omega) c7]; rfl, rfl, trivial⟩ rfl

set_option maxHeartbeats 4000000 in
theorem qX7_colorsTogether (r : Int → Int) (m : AM) (wR : wfR r) (g : agB 1 r m) : CS 1 mX7_colorsTogether [.inr 12] m (an (wisT r) m) := by
  refine cs_of (by decide +kernel) (Nat.le_of_ble_eq_true rfl) rfl ?_
  obtain ⟨gC, gP, gS, gW⟩ := ag1 g
  refine ap_const (pc := 0) dX7_colorsTogether_0 ?_
  refine ap_ist_1 (pc := 1) dX7_colorsTogether_1 (by decide) ?_
  refine ap_const (pc := 2) dX7_colorsTogether_2 ?_
  refine ap_ist_2 (pc := 3) dX7_colorsTogether_3 (by decide) ?_
  refine AP.bk (up_rec 6 (fun f => AP 1 mX7_colorsTogether 4 [some (.inr 12), some (.inl (sumL (fun f => r (126 + 4 * f)) f)), some (.inl (f : Int))] [] m (an (wisT r) m)) (by omega) (fun f hf ihf => ?_)) ⟨rfl, rfl, rfl, trivial⟩ rfl
  refine ap_ild_2 (pc := 4) dX7_colorsTogether_4 ?_
  refine ap_bipush (pc := 5) dX7_colorsTogether_5 bp_6 ?_
  refine ap_icmp_ge (pc := 7) 25 dX7_colorsTogether_7 rfl ⟨by omega, by omega⟩ ⟨by omega, by omega⟩ (fun c7 => ?_) (fun c7 => ?_)
  · skip
    have e7 : f = 6 := by omega
    subst e7
    refine ap_ild_1 (pc := 25) dX7_colorsTogether_25 ?_
    exact ap_ireturn (pc := 26) dX7_colorsTogether_26 rfl ⟨rfl, rfl⟩
  · skip
    skip
    refine ap_ild_1 (pc := 10) dX7_colorsTogether_10 ?_
    refine ap_ald_0 (pc := 11) dX7_colorsTogether_11 ?_
    refine ap_getR (pc := 12) dX7_colorsTogether_12 fl_RX7_9 sh_12 rfl ?_
    refine ap_ild_2 (pc := 15) dX7_colorsTogether_15 ?_
    refine ap_iaload (pc := 16) dX7_colorsTogether_16 sh_13 (by omega) (by omega) (by decide) ?_
    refine ap_iadd (pc := 17) dX7_colorsTogether_17 ?_
    refine ap_ist_1 (pc := 18) dX7_colorsTogether_18 (by decide) ?_
    refine ap_iinc_2 (pc := 19) dX7_colorsTogether_19 (by decide) ?_
    refine ap_goto (pc := 22) 4 dX7_colorsTogether_22 rfl ?_
    exact (ihf c7).bk ⟨rfl, by rw [(gW (f : Int) (by omega) c7).1]; rfl, rfl, trivial⟩ rfl

set_option maxHeartbeats 4000000 in
theorem qX7_timesOfColor (v : Int) (r : Int → Int) (m : AM) (wR : wfR r) (g : agB 1 r m) (hv : rng v) : CS 1 mX7_timesOfColor [.inr 12, .inl v] m (an (wisN r v) m) := by
  refine cs_of (by decide +kernel) (Nat.le_of_ble_eq_true rfl) rfl ?_
  obtain ⟨gC, gP, gS, gW⟩ := ag1 g
  have h12 := wR.1.1
  have hfin : two (m 13) (fun f k => if m 14 (f * 3 + k) = v then 1 else 0) 6 = wisN r v := by
    unfold wisN
    refine two_congr (fun f hf => ⟨(gW f (by omega) (by omega)).1, fun l z w => ?_⟩)
    rw [(gW f (by omega) (by omega)).1] at w
    rw [(gW f (by omega) (by omega)).2 l z w]
  refine ap_const (pc := 0) dX7_timesOfColor_0 ?_
  refine ap_ist_2 (pc := 1) dX7_timesOfColor_1 (by decide) ?_
  refine ap_const (pc := 2) dX7_timesOfColor_2 ?_
  refine ap_ist_3 (pc := 3) dX7_timesOfColor_3 (by decide) ?_
  refine AP.bk (up_rec 6 (fun f => AP 1 mX7_timesOfColor 4 [some (.inr 12), some (.inl v), some (.inl (two (m 13) (fun f k => if m 14 (f * 3 + k) = v then 1 else 0) f)), some (.inl (f : Int)), none] [] m (an (wisN r v) m)) (by omega) (fun f hf ihf => ?_)) ⟨rfl, rfl, rfl, rfl, trivial, trivial⟩ rfl
  refine ap_ild_3 (pc := 4) dX7_timesOfColor_4 ?_
  refine ap_bipush (pc := 5) dX7_timesOfColor_5 bp_6 ?_
  refine ap_icmp_ge (pc := 7) 54 dX7_timesOfColor_7 rfl ⟨by omega, by omega⟩ ⟨by omega, by omega⟩ (fun c7 => ?_) (fun c7 => ?_)
  · skip
    have e7 : f = 6 := by omega
    subst e7
    refine ap_ild_2 (pc := 54) dX7_timesOfColor_54 ?_
    exact ap_ireturn (pc := 55) dX7_timesOfColor_55 rfl ⟨by rw [← hfin], rfl⟩
  · skip
    refine ap_const (pc := 10) dX7_timesOfColor_10 ?_
    refine ap_ist_4 (pc := 11) dX7_timesOfColor_11 (by decide) ?_
    have hnf : 0 ≤ m 13 f ∧ m 13 f ≤ 3 := by rw [(gW (f : Int) (by omega) c7).1]; exact (wR.2.2.2 (f : Int) (by omega) c7).1
    refine AP.bk (up_rec (m 13 (f : Int)) (fun l => AP 1 mX7_timesOfColor 13 [some (.inr 12), some (.inl v), some (.inl (two (m 13) (fun f k => if m 14 (f * 3 + k) = v then 1 else 0) f + sumL ((fun f k => if m 14 (f * 3 + k) = v then 1 else 0) f) l)), some (.inl (f : Int)), some (.inl (l : Int))] [] m (an (wisN r v) m)) hnf.1 (fun l hl ihl => ?_)) ⟨rfl, rfl, congrArg (fun z => some (Sum.inl z)) (Int.add_zero _).symm, rfl, rfl, trivial⟩ rfl
    refine ap_ild_4 (pc := 13) dX7_timesOfColor_13 ?_
    refine ap_ald_0 (pc := 15) dX7_timesOfColor_15 ?_
    refine ap_getR (pc := 16) dX7_timesOfColor_16 fl_RX7_9 sh_12 rfl ?_
    refine ap_ild_3 (pc := 19) dX7_timesOfColor_19 ?_
    refine ap_iaload (pc := 20) dX7_timesOfColor_20 sh_13 (by omega) (by omega) (by decide) ?_
    refine ap_icmp_ge (pc := 21) 48 dX7_timesOfColor_21 rfl ⟨by omega, by omega⟩ ⟨by omega, by omega⟩ (fun c21 => ?_) (fun c21 => ?_)
    · skip
      obtain rfl := nat_of hnf.1 hl c21
      refine ap_iinc_3 (pc := 48) dX7_timesOfColor_48 (by decide) ?_
      refine ap_goto (pc := 51) 4 dX7_timesOfColor_51 rfl ?_
      exact (ihf c7).bk ⟨rfl, rfl, rfl, rfl, trivial, trivial⟩ rfl
    · skip
      have hr : 0 ≤ m 14 ((f : Int) * 3 + l) ∧ m 14 ((f : Int) * 3 + l) < 12 := by
        rw [(gW (f : Int) (by omega) c7).1] at c21
        rw [(gW (f : Int) (by omega) c7).2 l (by omega) c21]
        have := (wR.2.2.2 (f : Int) (by omega) c7).2 (l : Int) (by omega) c21
        omega
      refine ap_ald_0 (pc := 24) dX7_timesOfColor_24 ?_
      refine ap_getR (pc := 25) dX7_timesOfColor_25 fl_RX7_15 sh_12 rfl ?_
      refine ap_ild_3 (pc := 28) dX7_timesOfColor_28 ?_
      refine ap_ild_4 (pc := 29) dX7_timesOfColor_29 ?_
      refine ap_invS (pc := 31) dX7_timesOfColor_31 ms_RX7_18 (av := [_, _]) (rest := [_]) (qX8_placeOf _ _ _) rfl rfl (Nat.le_of_ble_eq_true rfl) (by decide) (by decide) ?_
      rintro _ _ ⟨rfl, rfl⟩
      refine ap_iaload (pc := 34) dX7_timesOfColor_34 sh_14 (by omega) (by omega) (by decide) ?_
      refine ap_ild_1 (pc := 35) dX7_timesOfColor_35 ?_
      refine ap_icmp_ne (pc := 36) 42 dX7_timesOfColor_36 rfl (Or.inr ⟨⟨by omega, by omega⟩, ⟨by omega, by omega⟩⟩) (fun c36 => ?_) (fun c36 => ?_)
      · skip
        refine ap_iinc_4 (pc := 42) dX7_timesOfColor_42 (by decide) ?_
        refine ap_goto (pc := 45) 13 dX7_timesOfColor_45 rfl ?_
        exact (ihl c21).bk ⟨rfl, rfl, by first | (simp only [sumL_succ, if_pos c36]; exact congrArg (fun z => some (Sum.inl z)) (Int.add_assoc _ _ _)) | (simp only [sumL_succ, if_neg c36, Int.add_zero]; done), rfl, rfl, trivial⟩ rfl
      · skip
        refine ap_iinc_2 (pc := 39) dX7_timesOfColor_39 (by decide) ?_
        refine ap_iinc_4 (pc := 42) dX7_timesOfColor_42 (by decide) ?_
        refine ap_goto (pc := 45) 13 dX7_timesOfColor_45 rfl ?_
        exact (ihl c21).bk ⟨rfl, rfl, by first | (simp only [sumL_succ, if_pos c36]; exact congrArg (fun z => some (Sum.inl z)) (Int.add_assoc _ _ _)) | (simp only [sumL_succ, if_neg c36, Int.add_zero]; done), rfl, rfl, trivial⟩ rfl

