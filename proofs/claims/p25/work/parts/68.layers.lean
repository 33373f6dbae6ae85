
theorem sumL_swap (F : Int → Int → Int) (N k : Nat) : sumL (fun c => sumL (F c) k) N = sumL (fun f => sumL (fun c => F c f) N) k := by
  induction k with
  | zero => exact sumL_zero (fun i hi => rfl)
  | succ k ih =>
    rw [sumL_succ, ← ih]
    exact sumL_add (fun i hi => rfl)
theorem sumL_one {x : Int} {N : Nat} (h0 : 0 ≤ x) (h1 : x < N) : sumL (fun c => if x = c then 1 else 0) N = 1 := by
  have h := sumL_upd (g := fun _ => 0) (g' := fun c => if x = c then 1 else 0) (k := N) (f := x) (d := 1) h0 h1 (fun i hi e => by show (if x = (i : Int) then (1 : Int) else 0) = 0; rw [if_neg (fun z => e z.symm)]) (by show (if x = x then (1 : Int) else 0) = 0 + 1; rw [if_pos rfl]; rfl)
  rw [h, sumL_zero (fun i hi => rfl)]; rfl
theorem sumL_ones (N : Nat) : sumL (fun _ => 1) N = N := by
  induction N with
  | zero => rfl
  | succ N ih => rw [sumL_succ, ih]; omega
theorem dbl {n : Int → Int} {g : Int → Int → Int} {k : Nat} {C : Int} (hC : 0 ≤ C) (hn : ∀ f : Nat, f < k → 0 ≤ n f) (h : ∀ f : Nat, f < k → ∀ l : Int, 0 ≤ l → l < n f → 0 ≤ g f l ∧ g f l < C) : sumL (fun c => two n (fun f l => if g f l = c then 1 else 0) k) C.toNat = sumL n k := by
  unfold two
  rw [sumL_swap (fun c f => sumL (fun l => if g f l = c then 1 else 0) (n f).toNat)]
  refine sumL_congr (fun f hf => ?_)
  show sumL (fun c => sumL (fun l => if g f l = c then 1 else 0) (n f).toNat) C.toNat = n f
  rw [sumL_swap (fun c l => if g f l = c then 1 else 0)]
  have hf0 := hn f hf
  have e : sumL (fun l => sumL (fun c => if g f l = c then 1 else 0) C.toNat) (n f).toNat = sumL (fun _ => 1) (n f).toNat := by
    refine sumL_congr (fun l hl => ?_)
    have h2 := h f hf l (by omega) (by omega)
    exact sumL_one h2.1 (by omega)
  rw [e, sumL_ones]; omega
theorem col_all {r : Int → Int} (w : wfR r) : sumL (colN r) (r 0).toNat = layN r := by
  have h12 := w.1.1
  exact dbl (n := szR r) (g := fun f l => coR r f l) h12.1 (fun f hf => (w.2.1.1 f (by omega) (by omega)).1.1) (fun f hf l a b => (w.2.1.2 f l (by omega) (by omega) a b).1)
theorem wis_all {r : Int → Int} (w : wfR r) : sumL (wisN r) (r 0).toNat = wisT r := by
  have h12 := w.1.1
  exact dbl (n := fun f => r (126 + 4 * f)) (g := fun f k => r (126 + 4 * f + 1 + k)) h12.1 (fun f hf => (w.2.2.2 f (by omega) (by omega)).1.1) (fun f hf l a b => (w.2.2.2 f (by omega) (by omega)).2 l a b)
theorem st_split {r : Int → Int} (w : wfR r) : stN r 0 0 + stN r 1 1 + stN r 2 2 + stN r 3 3 + stN r 4 4 = layN r := by
  rw [← stN_all w.2.1]
  have key : ∀ a b : Int, a ≤ b → stN r a (b + 1) = stN r a b + stN r (b + 1) (b + 1) := fun a b hab => by
    unfold stN
    refine sumL_add (fun f hf => ?_)
    unfold cntR
    refine sumL_add (fun l hl => ?_)
    by_cases c1 : a ≤ stR r f l ∧ stR r f l ≤ b
    · rw [if_pos ⟨c1.1, by omega⟩, if_pos c1, if_neg (by omega)]; rfl
    · by_cases c2 : b + 1 ≤ stR r f l ∧ stR r f l ≤ b + 1
      · rw [if_pos ⟨by omega, c2.2⟩, if_neg c1, if_pos c2]; rfl
      · rw [if_neg (by omega), if_neg c1, if_neg c2]; rfl
  have h1 := key 0 0 (by omega)
  have h2 := key 0 1 (by omega)
  have h3 := key 0 2 (by omega)
  have h4 := key 0 3 (by omega)
  simp only [show (0 : Int) + 1 = 1 from rfl, show (1 : Int) + 1 = 2 from rfl, show (2 : Int) + 1 = 3 from rfl, show (3 : Int) + 1 = 4 from rfl] at h1 h2 h3 h4
  omega
theorem hm_ge {r : Int → Int} {f l : Int} (h0 : 0 ≤ l) (h1 : l < szR r f) : meR r (coR r f l) ≤ hmR r f := by
  have key : ∀ n : Nat, l < n → meR r (coR r f l) ≤ accL (hmG r f) (-4) n := by
    intro n
    induction n with
    | zero => intro h; omega
    | succ n ih =>
      intro h
      rw [accL_succ]
      show _ ≤ max _ (meR r (coR r f n))
      by_cases e : l = (n : Int)
      · rw [e]; exact Int.le_max_right _ _
      · exact Int.le_trans (ih (by omega)) (Int.le_max_left _ _)
  exact key _ (by omega)
theorem hs_le {r : Int → Int} (w : wfR r) {f l : Int} (f0 : 0 ≤ f) (f7 : f < 7) (h0 : 0 ≤ l) (h1 : l < szR r f) (hs : stR r f l ≠ 4) : hsR r f ≤ buR r (coR r f l) := by
  have hb : ∀ n : Nat, (n : Int) < szR r f → 600 ≤ buR r (coR r f n) := fun n hn => by
    have a := w.2.1.2 f n f0 f7 (by omega) hn
    have b := w.1.2 _ a.1.1 a.1.2
    omega
  have key : ∀ n : Nat, (n : Int) ≤ szR r f → (accL (hsG r f) (-4) n = -4 ∨ 600 ≤ accL (hsG r f) (-4) n) ∧ (l < n → 600 ≤ accL (hsG r f) (-4) n ∧ accL (hsG r f) (-4) n ≤ buR r (coR r f l)) := by
    intro n
    induction n with
    | zero => exact fun _ => ⟨Or.inl rfl, fun h => by omega⟩
    | succ n ih =>
      intro hn
      have h2 := ih (by omega)
      have h3 := hb n (by omega)
      have e : accL (hsG r f) (-4) (n + 1) = if stR r f n = 4 then accL (hsG r f) (-4) n else if accL (hsG r f) (-4) n = -4 then buR r (coR r f n) else min (accL (hsG r f) (-4) n) (buR r (coR r f n)) := rfl
      rw [e]
      by_cases c1 : stR r f n = 4
      · rw [if_pos c1]
        refine ⟨h2.1, fun h => ?_⟩
        by_cases c2 : l = (n : Int)
        · rw [c2] at hs; exact absurd c1 hs
        · exact h2.2 (by omega)
      · rw [if_neg c1]
        by_cases c2 : accL (hsG r f) (-4) n = -4
        · rw [if_pos c2]
          refine ⟨Or.inr h3, fun h => ?_⟩
          by_cases c3 : l = (n : Int)
          · rw [c3]; exact ⟨h3, Int.le_refl _⟩
          · have := h2.2 (by omega); omega
        · rw [if_neg c2]
          have h4 := h2.1.resolve_left c2
          refine ⟨Or.inr (by omega), fun h => ?_⟩
          by_cases c3 : l = (n : Int)
          · rw [c3]; omega
          · have := h2.2 (by omega); omega
  exact ((key (szR r f).toNat (by omega)).2 (by omega)).2
theorem hm_0 {r : Int → Int} {f : Int} (h : szR r f ≤ 0) : hmR r f = -4 := by unfold hmR; rw [show (szR r f).toNat = 0 by omega]; rfl
theorem hs_0 {r : Int → Int} {f : Int} (h : szR r f ≤ 0) : hsR r f = -4 := by unfold hsR; rw [show (szR r f).toNat = 0 by omega]; rfl
theorem hm_rng {r : Int → Int} (w : wfR r) {f : Int} (f0 : 0 ≤ f) (f7 : f < 7) : -4 ≤ hmR r f ∧ hmR r f ≤ 900 := hm_bd w f0 f7 (szR r f).toNat (by have := (w.2.1.1 f f0 f7).1; omega)
theorem hs_rng {r : Int → Int} (w : wfR r) {f : Int} (f0 : 0 ≤ f) (f7 : f < 7) : -4 ≤ hsR r f ∧ hsR r f ≤ 1100 := hs_bd w f0 f7 (szR r f).toNat (by have := (w.2.1.1 f f0 f7).1; omega)
theorem vFD_0 {r : Int → Int} {f : Int} (a : 0 ≤ f) (b : f < 7) : vFD r f 0 = szR r f := by unfold vFD; rw [if_pos (by omega), if_pos rfl]
theorem vFD_1 {r : Int → Int} {f : Int} (a : 0 ≤ f) (b : f < 7) : vFD r f 1 = pulR r f := by unfold vFD; rw [if_pos (by omega), if_neg (by omega), if_pos rfl]
theorem vFD_2 {r : Int → Int} {f : Int} (a : 0 ≤ f) (b : f < 6) : vFD r f 2 = iab (pulR r f - pulR r 6) := by unfold vFD; rw [if_pos (by omega), if_neg (by omega), if_neg (by omega), if_pos rfl, if_neg (by omega)]
theorem vFD_3 {r : Int → Int} {f : Int} (a : 0 ≤ f) (b : f < 6) : vFD r f 3 = crR r f := by unfold vFD; rw [if_pos (by omega), if_neg (by omega), if_neg (by omega), if_neg (by omega), if_pos rfl, if_neg (by omega)]
theorem vFD_4 {r : Int → Int} {f : Int} (a : 0 ≤ f) (b : f < 7) : vFD r f 4 = hmR r f := by unfold vFD; rw [if_pos (by omega), if_neg (by omega), if_neg (by omega), if_neg (by omega), if_neg (by omega), if_pos rfl]
theorem vFD_5 {r : Int → Int} {f : Int} (a : 0 ≤ f) (b : f < 7) : vFD r f 5 = hsR r f := by unfold vFD; rw [if_pos (by omega), if_neg (by omega), if_neg (by omega), if_neg (by omega), if_neg (by omega), if_neg (by omega), if_pos rfl]
theorem vLY_0 {r : Int → Int} {f l : Int} (a : 0 ≤ f) (b : f < 7) (c : 0 ≤ l) (d : l < szR r f) : vLY r f l 0 = coR r f l := by unfold vLY; rw [if_pos (by omega), if_pos d, if_pos rfl]
theorem vLY_1 {r : Int → Int} {f l : Int} (a : 0 ≤ f) (b : f < 7) (c : 0 ≤ l) (d : l < szR r f) : vLY r f l 1 = stR r f l := by unfold vLY; rw [if_pos (by omega), if_pos d, if_neg (by omega), if_pos rfl]
theorem vLY_2 {r : Int → Int} {f l : Int} (a : 0 ≤ f) (b : f < 7) (c : 0 ≤ l) (d : l < szR r f) : vLY r f l 2 = soR r f l := by unfold vLY; rw [if_pos (by omega), if_pos d, if_neg (by omega), if_neg (by omega)]
theorem vLY_n {r : Int → Int} {f l : Int} (a : 0 ≤ f) (b : f < 7) (c : 0 ≤ l) (d : ¬ l < szR r f) : vLY r f l 0 = -4 := by unfold vLY; rw [if_pos (by omega), if_neg d]
theorem vCI_0 {r : Int → Int} {c : Int} (a : 0 ≤ c) (b : c < r 0) : vCI r c 0 = meR r c := by unfold vCI; rw [if_pos ⟨a, b⟩, if_pos rfl]
theorem vCI_1 {r : Int → Int} {c : Int} (a : 0 ≤ c) (b : c < r 0) : vCI r c 1 = buR r c := by unfold vCI; rw [if_pos ⟨a, b⟩, if_neg (by omega), if_pos rfl]
theorem vCI_2 {r : Int → Int} {c : Int} (a : 0 ≤ c) (b : c < r 0) : vCI r c 2 = exR r c := by unfold vCI; rw [if_pos ⟨a, b⟩, if_neg (by omega), if_neg (by omega), if_pos rfl]
theorem vCI_3 {r : Int → Int} {c : Int} (a : 0 ≤ c) (b : c < r 0) : vCI r c 3 = 170 - exR r c := by unfold vCI; rw [if_pos ⟨a, b⟩, if_neg (by omega), if_neg (by omega), if_neg (by omega), if_pos rfl]
theorem vCI_4 {r : Int → Int} {c : Int} (a : 0 ≤ c) (b : c < r 0) : vCI r c 4 = colN r c := by unfold vCI; rw [if_pos ⟨a, b⟩, if_neg (by omega), if_neg (by omega), if_neg (by omega), if_neg (by omega), if_pos rfl]
theorem vCI_5 {r : Int → Int} {c : Int} (a : 0 ≤ c) (b : c < r 0) : vCI r c 5 = wisN r c := by unfold vCI; rw [if_pos ⟨a, b⟩, if_neg (by omega), if_neg (by omega), if_neg (by omega), if_neg (by omega), if_neg (by omega), if_pos rfl]
theorem vWD_p {r : Int → Int} {f k : Int} (a : 0 ≤ f) (b : f < 6) (c : 0 ≤ k) (d : k < r (126 + 4 * f)) : vWD r f k = r (126 + 4 * f + 1 + k) := by unfold vWD; rw [if_pos (by omega), if_pos d]
theorem vWD_n {r : Int → Int} {f k : Int} (a : 0 ≤ f) (b : f < 6) (c : 0 ≤ k) (d : ¬ k < r (126 + 4 * f)) : vWD r f k = -4 := by unfold vWD; rw [if_pos (by omega), if_neg d]
theorem vWD_s {r : Int → Int} (w : wfR r) {f k : Int} (a : 0 ≤ f) (b : f < 6) (c : 0 ≤ k) : (0 ≤ vWD r f k ∧ vWD r f k < 12 ∧ k < r (126 + 4 * f)) ∨ (vWD r f k = -4 ∧ r (126 + 4 * f) ≤ k) := by
  have h12 := w.1.1
  by_cases d : k < r (126 + 4 * f)
  · have := (w.2.2.2 f a b).2 k c d
    rw [vWD_p a b c d]; omega
  · rw [vWD_n a b c d]; omega
def plG (r : Int → Int) (f : Int) : Int → Int := fun l => if holds (stR r f l) then 170 - exR r (coR r f l) else 0
theorem pul_G (r : Int → Int) (f : Int) : pulR r f = sumL (plG r f) (szR r f).toNat := rfl
theorem wW_6 (r : Int → Int) : wW r 6 = 0 := by unfold wW; rw [if_neg (by omega)]
theorem wW_f {r : Int → Int} {f : Int} (a : 0 ≤ f) (b : f < 6) : wW r f = r (126 + 4 * f) := if_pos ⟨a, b⟩
theorem wisT_W (r : Int → Int) : sumL (wW r) 7 = wisT r := by
  rw [sumL_succ]
  show sumL (wW r) 6 + wW r 6 = _
  rw [wW_6, Int.add_zero]
  exact sumL_congr (fun i hi => wW_f (by omega) (by omega))

set_option maxHeartbeats 4000000 in
theorem qL_areLayers {r : Int → Int} {n : Int} {H : Int → Int → Int} (m : AM) (I : GI r n H m) (J : JJ r) : CS 4 mL_areLayers [.inr 0] m (an 1 m) := by
  refine cs_of (by decide +kernel) (Nat.le_of_ble_eq_true rfl) rfl ?_
  have wR := I.1.1
  have h12 := wR.1.1
  have hS := wR.2.2.1
  have hJ1 := J.1
  have h117 := hS.2.2.2.1
  have hJ2 := J.2.1
  have hst := st_split wR
  have hlb := lay_bd wR
  have hcb := crk_bd wR
  have hca := col_all wR
  have hwa := wis_all wR
  have hwW := wisT_W r
  have hly : sumL (szR r) 7 = layN r := rfl
  have hck : sumL (crR r) 7 = crkN r := by
    rw [sumL_succ]
    show crkN r + crR r 6 = crkN r
    rw [hS.2.2.2.2]; omega
  refine ap_const (pc := 0) dL_areLayers_0 ?_
  refine ap_ist_1 (pc := 1) dL_areLayers_1 (by decide) ?_
  refine ap_const (pc := 2) dL_areLayers_2 ?_
  refine ap_ist_2 (pc := 3) dL_areLayers_3 (by decide) ?_
  refine ap_const (pc := 4) dL_areLayers_4 ?_
  refine ap_ist_3 (pc := 5) dL_areLayers_5 (by decide) ?_
  refine ap_ald_0 (pc := 6) dL_areLayers_6 ?_
  refine ap_const (pc := 7) dL_areLayers_7 ?_
  refine ap_invV (pc := 8) dL_areLayers_8 mv_RL_13 sh_0 (av := [_]) (rest := []) (k_count I ⟨by omega, by omega⟩) rfl rfl (Nat.le_of_ble_eq_true rfl) (by decide) (by decide) ?_
  rintro _ _ ⟨rfl, rfl⟩
  rw [vCN_1]
  refine ap_ald_0 (pc := 11) dL_areLayers_11 ?_
  refine ap_bipush (pc := 12) dL_areLayers_12 bp_13 ?_
  refine ap_invV (pc := 14) dL_areLayers_14 mv_RL_13 sh_0 (av := [_]) (rest := [_]) (k_count I ⟨by omega, by omega⟩) rfl rfl (Nat.le_of_ble_eq_true rfl) (by decide) (by decide) ?_
  rintro _ _ ⟨rfl, rfl⟩
  rw [vCN_13]
  refine ap_ald_0 (pc := 17) dL_areLayers_17 ?_
  refine ap_bipush (pc := 18) dL_areLayers_18 bp_14 ?_
  refine ap_invV (pc := 20) dL_areLayers_20 mv_RL_13 sh_0 (av := [_]) (rest := [_, _]) (k_count I ⟨by omega, by omega⟩) rfl rfl (Nat.le_of_ble_eq_true rfl) (by decide) (by decide) ?_
  rintro _ _ ⟨rfl, rfl⟩
  rw [vCN_14]
  refine ap_isub (pc := 23) dL_areLayers_23 ?_
  refine ap_icmp_ne (pc := 24) 91 dL_areLayers_24 rfl (Or.inl (by omega)) (fun c24 => ?_) (fun c24 => ?_)
  · skip
    exfalso; omega
  · skip
    refine ap_ald_0 (pc := 27) dL_areLayers_27 ?_
    refine ap_const (pc := 28) dL_areLayers_28 ?_
    refine ap_invV (pc := 29) dL_areLayers_29 mv_RL_13 sh_0 (av := [_]) (rest := []) (k_count I ⟨by omega, by omega⟩) rfl rfl (Nat.le_of_ble_eq_true rfl) (by decide) (by decide) ?_
    rintro _ _ ⟨rfl, rfl⟩
    rw [vCN_1]
    refine ap_ald_0 (pc := 32) dL_areLayers_32 ?_
    refine ap_const (pc := 33) dL_areLayers_33 ?_
    refine ap_invV (pc := 34) dL_areLayers_34 mv_RL_13 sh_0 (av := [_]) (rest := [_]) (k_count I ⟨by omega, by omega⟩) rfl rfl (Nat.le_of_ble_eq_true rfl) (by decide) (by decide) ?_
    rintro _ _ ⟨rfl, rfl⟩
    rw [vCN_2]
    refine ap_ald_0 (pc := 37) dL_areLayers_37 ?_
    refine ap_const (pc := 38) dL_areLayers_38 ?_
    refine ap_invV (pc := 39) dL_areLayers_39 mv_RL_13 sh_0 (av := [_]) (rest := [_, _]) (k_count I ⟨by omega, by omega⟩) rfl rfl (Nat.le_of_ble_eq_true rfl) (by decide) (by decide) ?_
    rintro _ _ ⟨rfl, rfl⟩
    rw [vCN_3]
    refine ap_iadd (pc := 42) dL_areLayers_42 ?_
    refine ap_ald_0 (pc := 43) dL_areLayers_43 ?_
    refine ap_const (pc := 44) dL_areLayers_44 ?_
    refine ap_invV (pc := 45) dL_areLayers_45 mv_RL_13 sh_0 (av := [_]) (rest := [_, _]) (k_count I ⟨by omega, by omega⟩) rfl rfl (Nat.le_of_ble_eq_true rfl) (by decide) (by decide) ?_
    rintro _ _ ⟨rfl, rfl⟩
    rw [vCN_4]
    refine ap_iadd (pc := 48) dL_areLayers_48 ?_
    refine ap_ald_0 (pc := 49) dL_areLayers_49 ?_
    refine ap_const (pc := 50) dL_areLayers_50 ?_
    refine ap_invV (pc := 51) dL_areLayers_51 mv_RL_13 sh_0 (av := [_]) (rest := [_, _]) (k_count I ⟨by omega, by omega⟩) rfl rfl (Nat.le_of_ble_eq_true rfl) (by decide) (by decide) ?_
    rintro _ _ ⟨rfl, rfl⟩
    rw [vCN_5]
    refine ap_iadd (pc := 54) dL_areLayers_54 ?_
    refine ap_ald_0 (pc := 55) dL_areLayers_55 ?_
    refine ap_bipush (pc := 56) dL_areLayers_56 bp_6 ?_
    refine ap_invV (pc := 58) dL_areLayers_58 mv_RL_13 sh_0 (av := [_]) (rest := [_, _]) (k_count I ⟨by omega, by omega⟩) rfl rfl (Nat.le_of_ble_eq_true rfl) (by decide) (by decide) ?_
    rintro _ _ ⟨rfl, rfl⟩
    rw [vCN_6]
    refine ap_iadd (pc := 61) dL_areLayers_61 ?_
    refine ap_icmp_ne (pc := 62) 91 dL_areLayers_62 rfl (Or.inl (by omega)) (fun c62 => ?_) (fun c62 => ?_)
    · skip
      exfalso; omega
    · skip
      refine ap_ald_0 (pc := 65) dL_areLayers_65 ?_
      refine ap_bipush (pc := 66) dL_areLayers_66 bp_18 ?_
      refine ap_invV (pc := 68) dL_areLayers_68 mv_RL_13 sh_0 (av := [_]) (rest := []) (k_count I ⟨by omega, by omega⟩) rfl rfl (Nat.le_of_ble_eq_true rfl) (by decide) (by decide) ?_
      rintro _ _ ⟨rfl, rfl⟩
      rw [vCN_18]
      refine ap_ald_0 (pc := 71) dL_areLayers_71 ?_
      refine ap_bipush (pc := 72) dL_areLayers_72 bp_19 ?_
      refine ap_invV (pc := 74) dL_areLayers_74 mv_RL_13 sh_0 (av := [_]) (rest := [_]) (k_count I ⟨by omega, by omega⟩) rfl rfl (Nat.le_of_ble_eq_true rfl) (by decide) (by decide) ?_
      rintro _ _ ⟨rfl, rfl⟩
      rw [vCN_19]
      refine ap_isub (pc := 77) dL_areLayers_77 ?_
      refine ap_ald_0 (pc := 78) dL_areLayers_78 ?_
      refine ap_bipush (pc := 79) dL_areLayers_79 bp_7 ?_
      refine ap_invV (pc := 81) dL_areLayers_81 mv_RL_13 sh_0 (av := [_]) (rest := [_]) (k_count I ⟨by omega, by omega⟩) rfl rfl (Nat.le_of_ble_eq_true rfl) (by decide) (by decide) ?_
      rintro _ _ ⟨rfl, rfl⟩
      rw [vCN_7]
      refine ap_icmp_lt (pc := 84) 91 dL_areLayers_84 rfl ⟨by omega, by omega⟩ ⟨by omega, by omega⟩ (fun c84 => ?_) (fun c84 => ?_)
      · skip
        exfalso; omega
      · skip
        refine ap_const (pc := 87) dL_areLayers_87 ?_
        refine ap_goto (pc := 88) 92 dL_areLayers_88 rfl ?_
        refine ap_ist_4 (pc := 92) dL_areLayers_92 (by decide) ?_
        refine ap_const (pc := 94) dL_areLayers_94 ?_
        refine ap_ist_5 (pc := 95) dL_areLayers_95 (by decide) ?_
        refine AP.bk (up_rec 7 (fun f => AP 4 mL_areLayers 97 [some (.inr 0), some (.inl (sumL (szR r) f)), some (.inl (sumL (crR r) f)), some (.inl (sumL (wW r) f)), some (.inl 1), some (.inl (f : Int)), none, none, none, none] [] m (an 1 m)) (by omega) (fun f hf ihf => ?_)) ⟨rfl, rfl, rfl, rfl, rfl, rfl, trivial, trivial, trivial, trivial, trivial⟩ rfl
        refine ap_ild_5 (pc := 97) dL_areLayers_97 ?_
        refine ap_bipush (pc := 99) dL_areLayers_99 bp_7 ?_
        refine ap_icmp_ge (pc := 101) 508 dL_areLayers_101 rfl ⟨by omega, by omega⟩ ⟨by omega, by omega⟩ (fun c101 => ?_) (fun c101 => ?_)
        · skip
          have ef : f = 7 := by omega
          subst ef
          refine ap_const (pc := 508) dL_areLayers_508 ?_
          refine ap_ist_5 (pc := 509) dL_areLayers_509 (by decide) ?_
          refine AP.bk (up_rec (r 0) (fun k => AP 4 mL_areLayers 511 [some (.inr 0), some (.inl (sumL (szR r) 7 - sumL (colN r) k)), some (.inl (sumL (crR r) 7)), some (.inl (sumL (wW r) 7 - sumL (wisN r) k)), some (.inl 1), some (.inl (k : Int)), none, none, none, none] [] m (an 1 m)) h12.1 (fun k hk0 ihk => ?_)) ⟨rfl, congrArg (fun z => some (Sum.inl z)) (Int.sub_zero _).symm, rfl, congrArg (fun z => some (Sum.inl z)) (Int.sub_zero _).symm, rfl, rfl, trivial, trivial, trivial, trivial, trivial⟩ rfl
          refine ap_ild_5 (pc := 511) dL_areLayers_511 ?_
          refine ap_ald_0 (pc := 513) dL_areLayers_513 ?_
          refine ap_const (pc := 514) dL_areLayers_514 ?_
          refine ap_invV (pc := 515) dL_areLayers_515 mv_RL_13 sh_0 (av := [_]) (rest := [_]) (k_count I ⟨by omega, by omega⟩) rfl rfl (Nat.le_of_ble_eq_true rfl) (by decide) (by decide) ?_
          rintro _ _ ⟨rfl, rfl⟩
          rw [vCN_0]
          refine ap_icmp_ge (pc := 518) 600 dL_areLayers_518 rfl ⟨by omega, by omega⟩ ⟨by omega, by omega⟩ (fun c518 => ?_) (fun c518 => ?_)
          · skip
            have ek : k = (r 0).toNat := by omega
            subst ek
            refine ap_ild_4 (pc := 600) dL_areLayers_600 ?_
            refine ap_if_eq (pc := 602) 627 dL_areLayers_602 rfl ⟨by omega, by omega⟩ (fun c602 => absurd c602 (by decide)) (fun _ => ?_)
            refine ap_ild_1 (pc := 605) dL_areLayers_605 ?_
            refine ap_if_ne (pc := 606) 627 dL_areLayers_606 rfl ⟨by omega, by omega⟩ (fun c606 => ?_) (fun c606 => ?_)
            · skip
              exfalso; omega
            · skip
              refine ap_ild_3 (pc := 609) dL_areLayers_609 ?_
              refine ap_if_ne (pc := 610) 627 dL_areLayers_610 rfl ⟨by omega, by omega⟩ (fun c610 => ?_) (fun c610 => ?_)
              · skip
                exfalso; omega
              · skip
                refine ap_ild_2 (pc := 613) dL_areLayers_613 ?_
                refine ap_ald_0 (pc := 614) dL_areLayers_614 ?_
                refine ap_bipush (pc := 615) dL_areLayers_615 bp_7 ?_
                refine ap_invV (pc := 617) dL_areLayers_617 mv_RL_13 sh_0 (av := [_]) (rest := [_]) (k_count I ⟨by omega, by omega⟩) rfl rfl (Nat.le_of_ble_eq_true rfl) (by decide) (by decide) ?_
                rintro _ _ ⟨rfl, rfl⟩
                rw [vCN_7]
                refine ap_icmp_ne (pc := 620) 627 dL_areLayers_620 rfl (Or.inl hck) (fun c620 => ?_) (fun c620 => ?_)
                · skip
                  exact absurd hck c620
                · skip
                  refine ap_const (pc := 623) dL_areLayers_623 ?_
                  refine ap_goto (pc := 624) 628 dL_areLayers_624 rfl ?_
                  exact ap_zreturn (pc := 628) dL_areLayers_628 rfl (by decide) ⟨rfl, rfl⟩
          · skip
            have hk : (k : Int) < r 0 := c518
            have hcc := wR.1.2 k (by omega) hk
            refine ap_ild_4 (pc := 521) dL_areLayers_521 ?_
            refine ap_if_eq (pc := 523) 600 dL_areLayers_523 rfl ⟨by omega, by omega⟩ (fun c523 => absurd c523 (by decide)) (fun _ => ?_)
            refine ap_ild_1 (pc := 526) dL_areLayers_526 ?_
            refine ap_ald_0 (pc := 527) dL_areLayers_527 ?_
            refine ap_ild_5 (pc := 528) dL_areLayers_528 ?_
            refine ap_const (pc := 530) dL_areLayers_530 ?_
            refine ap_invV (pc := 531) dL_areLayers_531 mv_RL_30 sh_0 (av := [_, _]) (rest := [_]) (k_colorInfo I ⟨by omega, by omega⟩ ⟨by omega, by omega⟩) rfl rfl (Nat.le_of_ble_eq_true rfl) (by decide) (by decide) ?_
            rintro _ _ ⟨rfl, rfl⟩
            rw [vCI_4 (by omega) hk]
            refine ap_isub (pc := 534) dL_areLayers_534 ?_
            refine ap_ist_1 (pc := 535) dL_areLayers_535 (by decide) ?_
            refine ap_ild_3 (pc := 536) dL_areLayers_536 ?_
            refine ap_ald_0 (pc := 537) dL_areLayers_537 ?_
            refine ap_ild_5 (pc := 538) dL_areLayers_538 ?_
            refine ap_const (pc := 540) dL_areLayers_540 ?_
            refine ap_invV (pc := 541) dL_areLayers_541 mv_RL_30 sh_0 (av := [_, _]) (rest := [_]) (k_colorInfo I ⟨by omega, by omega⟩ ⟨by omega, by omega⟩) rfl rfl (Nat.le_of_ble_eq_true rfl) (by decide) (by decide) ?_
            rintro _ _ ⟨rfl, rfl⟩
            rw [vCI_5 (by omega) hk]
            refine ap_isub (pc := 544) dL_areLayers_544 ?_
            refine ap_ist_3 (pc := 545) dL_areLayers_545 (by decide) ?_
            refine ap_ald_0 (pc := 546) dL_areLayers_546 ?_
            refine ap_ild_5 (pc := 547) dL_areLayers_547 ?_
            refine ap_const (pc := 549) dL_areLayers_549 ?_
            refine ap_invV (pc := 550) dL_areLayers_550 mv_RL_30 sh_0 (av := [_, _]) (rest := []) (k_colorInfo I ⟨by omega, by omega⟩ ⟨by omega, by omega⟩) rfl rfl (Nat.le_of_ble_eq_true rfl) (by decide) (by decide) ?_
            rintro _ _ ⟨rfl, rfl⟩
            rw [vCI_3 (by omega) hk]
            refine ap_sipush (pc := 553) dL_areLayers_553 sp_170 ?_
            refine ap_ald_0 (pc := 556) dL_areLayers_556 ?_
            refine ap_ild_5 (pc := 557) dL_areLayers_557 ?_
            refine ap_const (pc := 559) dL_areLayers_559 ?_
            refine ap_invV (pc := 560) dL_areLayers_560 mv_RL_30 sh_0 (av := [_, _]) (rest := [_, _]) (k_colorInfo I ⟨by omega, by omega⟩ ⟨by omega, by omega⟩) rfl rfl (Nat.le_of_ble_eq_true rfl) (by decide) (by decide) ?_
            rintro _ _ ⟨rfl, rfl⟩
            rw [vCI_2 (by omega) hk]
            refine ap_isub (pc := 563) dL_areLayers_563 ?_
            refine ap_icmp_ne (pc := 564) 591 dL_areLayers_564 rfl (Or.inl rfl) (fun c564 => ?_) (fun c564 => ?_)
            · skip
              exfalso; omega
            · skip
              refine ap_ald_0 (pc := 567) dL_areLayers_567 ?_
              refine ap_ild_5 (pc := 568) dL_areLayers_568 ?_
              refine ap_const (pc := 570) dL_areLayers_570 ?_
              refine ap_invV (pc := 571) dL_areLayers_571 mv_RL_30 sh_0 (av := [_, _]) (rest := []) (k_colorInfo I ⟨by omega, by omega⟩ ⟨by omega, by omega⟩) rfl rfl (Nat.le_of_ble_eq_true rfl) (by decide) (by decide) ?_
              rintro _ _ ⟨rfl, rfl⟩
              rw [vCI_1 (by omega) hk]
              refine ap_ald_0 (pc := 574) dL_areLayers_574 ?_
              refine ap_ild_5 (pc := 575) dL_areLayers_575 ?_
              refine ap_const (pc := 577) dL_areLayers_577 ?_
              refine ap_invV (pc := 578) dL_areLayers_578 mv_RL_30 sh_0 (av := [_, _]) (rest := [_]) (k_colorInfo I ⟨by omega, by omega⟩ ⟨by omega, by omega⟩) rfl rfl (Nat.le_of_ble_eq_true rfl) (by decide) (by decide) ?_
              rintro _ _ ⟨rfl, rfl⟩
              rw [vCI_0 (by omega) hk]
              refine ap_bipush (pc := 581) dL_areLayers_581 bp_10 ?_
              refine ap_iadd (pc := 583) dL_areLayers_583 ?_
              refine ap_icmp_lt (pc := 584) 591 dL_areLayers_584 rfl ⟨by omega, by omega⟩ ⟨by omega, by omega⟩ (fun c584 => ?_) (fun c584 => ?_)
              · skip
                exfalso; omega
              · skip
                refine ap_const (pc := 587) dL_areLayers_587 ?_
                refine ap_goto (pc := 588) 592 dL_areLayers_588 rfl ?_
                refine ap_ist_4 (pc := 592) dL_areLayers_592 (by decide) ?_
                refine ap_iinc_5 (pc := 594) dL_areLayers_594 (by decide) ?_
                refine ap_goto (pc := 597) 511 dL_areLayers_597 rfl ?_
                exact (ihk hk).bk ⟨rfl, congrArg (fun z => some (Sum.inl z)) (by rw [sumL_succ (colN r) k]; omega), rfl, congrArg (fun z => some (Sum.inl z)) (by rw [sumL_succ (wisN r) k]; omega), rfl, rfl, trivial, trivial, trivial, trivial, trivial⟩ rfl
        · skip
          have h0 : (0 : Int) ≤ (f : Int) := by omega
          have h7 : (f : Int) < 7 := c101
          have hz := (wR.2.1.1 f h0 h7).1
          have hcr := (wR.2.1.1 f h0 h7).2
          have hpb := pulR_bd wR h0 h7
          have hp6 := pulR_bd wR (f := 6) (by omega) (by omega)
          have hhm := hm_rng wR h0 h7
          have hhs := hs_rng wR h0 h7
          refine ap_ild_4 (pc := 104) dL_areLayers_104 ?_
          refine ap_if_eq (pc := 106) 508 dL_areLayers_106 rfl ⟨by omega, by omega⟩ (fun c106 => absurd c106 (by decide)) (fun _ => ?_)
          refine ap_ald_0 (pc := 109) dL_areLayers_109 ?_
          refine ap_ild_5 (pc := 110) dL_areLayers_110 ?_
          refine ap_const (pc := 112) dL_areLayers_112 ?_
          refine ap_invV (pc := 113) dL_areLayers_113 mv_RL_23 sh_0 (av := [_, _]) (rest := []) (k_field I ⟨by omega, by omega⟩ ⟨by omega, by omega⟩) rfl rfl (Nat.le_of_ble_eq_true rfl) (by decide) (by decide) ?_
          rintro _ _ ⟨rfl, rfl⟩
          rw [vFD_0 (by omega) (by omega)]
          refine ap_ist_6 (pc := 116) dL_areLayers_116 (by decide) ?_
          refine ap_const (pc := 118) dL_areLayers_118 ?_
          refine ap_ist_7 (pc := 119) dL_areLayers_119 (by decide) ?_
          refine ap_ild_1 (pc := 121) dL_areLayers_121 ?_
          refine ap_ild_6 (pc := 122) dL_areLayers_122 ?_
          refine ap_iadd (pc := 124) dL_areLayers_124 ?_
          refine ap_ist_1 (pc := 125) dL_areLayers_125 (by decide) ?_
          refine ap_const (pc := 126) dL_areLayers_126 ?_
          refine ap_ist_8 (pc := 127) dL_areLayers_127 (by decide) ?_
          refine AP.bk (up_rec (szR r f) (fun l => AP 4 mL_areLayers 129 [some (.inr 0), some (.inl (sumL (szR r) f + szR r f)), some (.inl (sumL (crR r) f)), some (.inl (sumL (wW r) f)), some (.inl 1), some (.inl (f : Int)), some (.inl (szR r f)), some (.inl (sumL (plG r f) l)), some (.inl (l : Int)), none] [] m (an 1 m)) hz.1 (fun l hll ihl => ?_)) ⟨rfl, rfl, rfl, rfl, rfl, rfl, rfl, rfl, rfl, trivial, trivial⟩ rfl
          refine ap_ild_8 (pc := 129) dL_areLayers_129 ?_
          refine ap_ild_6 (pc := 131) dL_areLayers_131 ?_
          refine ap_icmp_ge (pc := 133) 328 dL_areLayers_133 rfl ⟨by omega, by omega⟩ ⟨by omega, by omega⟩ (fun c133 => ?_) (fun c133 => ?_)
          · skip
            have el : l = (szR r f).toNat := by omega
            subst el
            refine ap_ild_4 (pc := 328) dL_areLayers_328 ?_
            refine ap_if_eq (pc := 330) 398 dL_areLayers_330 rfl ⟨by omega, by omega⟩ (fun c330 => absurd c330 (by decide)) (fun _ => ?_)
            refine ap_ild_6 (pc := 333) dL_areLayers_333 ?_
            refine ap_const (pc := 335) dL_areLayers_335 ?_
            refine ap_icmp_gt (pc := 336) 398 dL_areLayers_336 rfl ⟨by omega, by omega⟩ ⟨by omega, by omega⟩ (fun c336 => ?_) (fun c336 => ?_)
            · skip
              exfalso; omega
            · skip
              refine ap_ald_0 (pc := 339) dL_areLayers_339 ?_
              refine ap_ild_5 (pc := 340) dL_areLayers_340 ?_
              refine ap_ild_6 (pc := 342) dL_areLayers_342 ?_
              refine ap_const (pc := 344) dL_areLayers_344 ?_
              refine ap_invV (pc := 345) dL_areLayers_345 mv_RL_19 sh_0 (av := [_, _, _]) (rest := []) (k_layer I ⟨by omega, by omega⟩ ⟨by omega, by omega⟩ ⟨by omega, by omega⟩) rfl rfl (Nat.le_of_ble_eq_true rfl) (by decide) (by decide) ?_
              rintro _ _ ⟨rfl, rfl⟩
              rw [vLY_n h0 h7 (by omega) (by omega)]
              refine ap_bipush (pc := 348) dL_areLayers_348 bp_m4 ?_
              refine ap_icmp_ne (pc := 350) 398 dL_areLayers_350 rfl (Or.inl rfl) (fun c350 => ?_) (fun c350 => ?_)
              · skip
                exact absurd rfl c350
              · skip
                refine ap_ald_0 (pc := 353) dL_areLayers_353 ?_
                refine ap_ild_5 (pc := 354) dL_areLayers_354 ?_
                refine ap_const (pc := 356) dL_areLayers_356 ?_
                refine ap_invV (pc := 357) dL_areLayers_357 mv_RL_23 sh_0 (av := [_, _]) (rest := []) (k_field I ⟨by omega, by omega⟩ ⟨by omega, by omega⟩) rfl rfl (Nat.le_of_ble_eq_true rfl) (by decide) (by decide) ?_
                rintro _ _ ⟨rfl, rfl⟩
                rw [vFD_1 h0 h7]
                refine ap_ild_7 (pc := 360) dL_areLayers_360 ?_
                refine ap_icmp_ne (pc := 362) 398 dL_areLayers_362 rfl (Or.inl (pul_G r f)) (fun c362 => ?_) (fun c362 => ?_)
                · skip
                  exact absurd (pul_G r f) c362
                · skip
                  have J394 : AP 4 mL_areLayers 394 [some (.inr 0), some (.inl (sumL (szR r) f + szR r f)), some (.inl (sumL (crR r) f)), some (.inl (sumL (wW r) f)), some (.inl 1), some (.inl (f : Int)), some (.inl (szR r f)), some (.inl (sumL (plG r f) (szR r f).toNat)), some (.inl ((szR r f).toNat : Int)), none] [] m (an 1 m) := by
                    skip
                    refine ap_const (pc := 394) dL_areLayers_394 ?_
                    refine ap_goto (pc := 395) 399 dL_areLayers_395 rfl ?_
                    refine ap_ist_4 (pc := 399) dL_areLayers_399 (by decide) ?_
                    refine ap_ild_4 (pc := 401) dL_areLayers_401 ?_
                    refine ap_if_eq (pc := 403) 502 dL_areLayers_403 rfl ⟨by omega, by omega⟩ (fun c403 => absurd c403 (by decide)) (fun _ => ?_)
                    refine ap_ild_5 (pc := 406) dL_areLayers_406 ?_
                    refine ap_bipush (pc := 408) dL_areLayers_408 bp_6 ?_
                    refine ap_icmp_ge (pc := 410) 502 dL_areLayers_410 rfl ⟨by omega, by omega⟩ ⟨by omega, by omega⟩ (fun c410 => ?_) (fun c410 => ?_)
                    · skip
                      have e6 : (f : Int) = 6 := by omega
                      have hcE : sumL (crR r) f = sumL (crR r) (f + 1) := by rw [sumL_succ, e6, hS.2.2.2.2]; omega
                      have hwE : sumL (wW r) f = sumL (wW r) (f + 1) := by rw [sumL_succ, e6, wW_6]; omega
                      refine ap_iinc_5 (pc := 502) dL_areLayers_502 (by decide) ?_
                      refine ap_goto (pc := 505) 97 dL_areLayers_505 rfl ?_
                      exact (ihf c101).bk ⟨rfl, rfl, by first | rfl | exact congrArg (fun z => some (Sum.inl z)) hcE, by first | rfl | exact congrArg (fun z => some (Sum.inl z)) hwE, rfl, rfl, trivial, trivial, trivial, trivial, trivial⟩ rfl
                    · skip
                      have h6 : (f : Int) < 6 := c410
                      have hw := (wR.2.2.2 f h0 h6).1
                      refine ap_ild_2 (pc := 413) dL_areLayers_413 ?_
                      refine ap_ald_0 (pc := 414) dL_areLayers_414 ?_
                      refine ap_ild_5 (pc := 415) dL_areLayers_415 ?_
                      refine ap_const (pc := 417) dL_areLayers_417 ?_
                      refine ap_invV (pc := 418) dL_areLayers_418 mv_RL_23 sh_0 (av := [_, _]) (rest := [_]) (k_field I ⟨by omega, by omega⟩ ⟨by omega, by omega⟩) rfl rfl (Nat.le_of_ble_eq_true rfl) (by decide) (by decide) ?_
                      rintro _ _ ⟨rfl, rfl⟩
                      rw [vFD_3 h0 h6]
                      refine ap_iadd (pc := 421) dL_areLayers_421 ?_
                      refine ap_ist_2 (pc := 422) dL_areLayers_422 (by decide) ?_
                      refine ap_ald_0 (pc := 423) dL_areLayers_423 ?_
                      refine ap_ild_5 (pc := 424) dL_areLayers_424 ?_
                      refine ap_const (pc := 426) dL_areLayers_426 ?_
                      refine ap_invV (pc := 427) dL_areLayers_427 mv_RL_23 sh_0 (av := [_, _]) (rest := []) (k_field I ⟨by omega, by omega⟩ ⟨by omega, by omega⟩) rfl rfl (Nat.le_of_ble_eq_true rfl) (by decide) (by decide) ?_
                      rintro _ _ ⟨rfl, rfl⟩
                      rw [vFD_2 h0 h6]
                      refine ap_ild_7 (pc := 430) dL_areLayers_430 ?_
                      refine ap_ald_0 (pc := 432) dL_areLayers_432 ?_
                      refine ap_bipush (pc := 433) dL_areLayers_433 bp_6 ?_
                      refine ap_const (pc := 435) dL_areLayers_435 ?_
                      refine ap_invV (pc := 436) dL_areLayers_436 mv_RL_23 sh_0 (av := [_, _]) (rest := [_, _]) (k_field I ⟨by omega, by omega⟩ ⟨by omega, by omega⟩) rfl rfl (Nat.le_of_ble_eq_true rfl) (by decide) (by decide) ?_
                      rintro _ _ ⟨rfl, rfl⟩
                      rw [vFD_1 (by omega) (by omega)]
                      refine ap_isub (pc := 439) dL_areLayers_439 ?_
                      refine ap_invS (pc := 440) dL_areLayers_440 ms_RL_69 (av := [_]) (rest := [_]) (qL_size _ _ (by omega)) rfl rfl (Nat.le_of_ble_eq_true rfl) (by decide) (by decide) ?_
                      rintro _ _ ⟨rfl, rfl⟩
                      refine ap_icmp_ne (pc := 443) 465 dL_areLayers_443 rfl (Or.inl rfl) (fun c443 => ?_) (fun c443 => ?_)
                      · skip
                        exact absurd rfl c443
                      · skip
                        have J461 : AP 4 mL_areLayers 461 [some (.inr 0), some (.inl (sumL (szR r) f + szR r f)), some (.inl (sumL (crR r) f + crR r f)), some (.inl (sumL (wW r) f)), some (.inl 1), some (.inl (f : Int)), some (.inl (szR r f)), some (.inl (sumL (plG r f) (szR r f).toNat)), some (.inl ((szR r f).toNat : Int)), none] [] m (an 1 m) := by
                          skip
                          refine ap_const (pc := 461) dL_areLayers_461 ?_
                          refine ap_goto (pc := 462) 466 dL_areLayers_462 rfl ?_
                          refine ap_ist_4 (pc := 466) dL_areLayers_466 (by decide) ?_
                          refine ap_const (pc := 468) dL_areLayers_468 ?_
                          refine ap_ist_8 (pc := 469) dL_areLayers_469 (by decide) ?_
                          refine AP.bk (up_rec 3 (fun k => AP 4 mL_areLayers 471 [some (.inr 0), some (.inl (sumL (szR r) f + szR r f)), some (.inl (sumL (crR r) f + crR r f)), some (.inl (sumL (wW r) f + min (k : Int) (r (126 + 4 * f)))), some (.inl 1), some (.inl (f : Int)), none, none, some (.inl (k : Int)), none] [] m (an 1 m)) (by omega) (fun k hk ihk => ?_)) ⟨rfl, rfl, rfl, congrArg (fun z => some (Sum.inl z)) (by omega), rfl, rfl, trivial, trivial, rfl, trivial, trivial⟩ rfl
                          refine ap_ild_8 (pc := 471) dL_areLayers_471 ?_
                          refine ap_const (pc := 473) dL_areLayers_473 ?_
                          refine ap_icmp_ge (pc := 474) 502 dL_areLayers_474 rfl ⟨by omega, by omega⟩ ⟨by omega, by omega⟩ (fun c474 => ?_) (fun c474 => ?_)
                          · skip
                            have ek : k = 3 := by omega
                            subst ek
                            have hcE : sumL (crR r) f + crR r f = sumL (crR r) (f + 1) := rfl
                            have hwE : sumL (wW r) f + min ((3 : Nat) : Int) (r (126 + 4 * f)) = sumL (wW r) (f + 1) := by rw [sumL_succ, wW_f h0 h6]; omega
                            refine ap_iinc_5 (pc := 502) dL_areLayers_502 (by decide) ?_
                            refine ap_goto (pc := 505) 97 dL_areLayers_505 rfl ?_
                            exact (ihf c101).bk ⟨rfl, rfl, by first | rfl | exact congrArg (fun z => some (Sum.inl z)) hcE, by first | rfl | exact congrArg (fun z => some (Sum.inl z)) hwE, rfl, rfl, trivial, trivial, trivial, trivial, trivial⟩ rfl
                          · skip
                            have hws := vWD_s wR h0 h6 (k := k) (by omega)
                            refine ap_ild_3 (pc := 477) dL_areLayers_477 ?_
                            refine ap_ald_0 (pc := 478) dL_areLayers_478 ?_
                            refine ap_ild_5 (pc := 479) dL_areLayers_479 ?_
                            refine ap_ild_8 (pc := 481) dL_areLayers_481 ?_
                            refine ap_invV (pc := 483) dL_areLayers_483 mv_RL_27 sh_0 (av := [_, _]) (rest := [_]) (k_wished I ⟨by omega, by omega⟩ ⟨by omega, by omega⟩) rfl rfl (Nat.le_of_ble_eq_true rfl) (by decide) (by decide) ?_
                            rintro _ _ ⟨rfl, rfl⟩
                            refine ap_if_lt (pc := 486) 493 dL_areLayers_486 rfl ⟨by omega, by omega⟩ (fun c486 => ?_) (fun c486 => ?_)
                            · skip
                              refine ap_const (pc := 493) dL_areLayers_493 ?_
                              refine ap_iadd (pc := 494) dL_areLayers_494 ?_
                              refine ap_ist_3 (pc := 495) dL_areLayers_495 (by decide) ?_
                              refine ap_iinc_8 (pc := 496) dL_areLayers_496 (by decide) ?_
                              refine ap_goto (pc := 499) 471 dL_areLayers_499 rfl ?_
                              exact (ihk c474).bk ⟨rfl, rfl, rfl, congrArg (fun z => some (Sum.inl z)) (by omega), rfl, rfl, trivial, trivial, rfl, trivial, trivial⟩ rfl
                            · skip
                              refine ap_const (pc := 489) dL_areLayers_489 ?_
                              refine ap_goto (pc := 490) 494 dL_areLayers_490 rfl ?_
                              refine ap_iadd (pc := 494) dL_areLayers_494 ?_
                              refine ap_ist_3 (pc := 495) dL_areLayers_495 (by decide) ?_
                              refine ap_iinc_8 (pc := 496) dL_areLayers_496 (by decide) ?_
                              refine ap_goto (pc := 499) 471 dL_areLayers_499 rfl ?_
                              exact (ihk c474).bk ⟨rfl, rfl, rfl, congrArg (fun z => some (Sum.inl z)) (by omega), rfl, rfl, trivial, trivial, rfl, trivial, trivial⟩ rfl
                        refine ap_ald_0 (pc := 446) dL_areLayers_446 ?_
                        refine ap_ild_5 (pc := 447) dL_areLayers_447 ?_
                        refine ap_const (pc := 449) dL_areLayers_449 ?_
                        refine ap_invV (pc := 450) dL_areLayers_450 mv_RL_23 sh_0 (av := [_, _]) (rest := []) (k_field I ⟨by omega, by omega⟩ ⟨by omega, by omega⟩) rfl rfl (Nat.le_of_ble_eq_true rfl) (by decide) (by decide) ?_
                        rintro _ _ ⟨rfl, rfl⟩
                        rw [vFD_3 h0 h6]
                        refine ap_if_eq (pc := 453) 461 dL_areLayers_453 rfl ⟨by omega, by omega⟩ (fun c453 => ?_) (fun c453 => ?_)
                        · skip
                          exact J461
                        · skip
                          refine ap_ild_6 (pc := 456) dL_areLayers_456 ?_
                          refine ap_if_le (pc := 458) 465 dL_areLayers_458 rfl ⟨by omega, by omega⟩ (fun c458 => ?_) (fun c458 => ?_)
                          · skip
                            have := J.2.2.2 f h0 h6 (by omega); exfalso; omega
                          · skip
                            exact J461
                  refine ap_ild_6 (pc := 365) dL_areLayers_365 ?_
                  refine ap_if_gt (pc := 367) 394 dL_areLayers_367 rfl ⟨by omega, by omega⟩ (fun c367 => ?_) (fun c367 => ?_)
                  · skip
                    exact J394
                  · skip
                    refine ap_ald_0 (pc := 370) dL_areLayers_370 ?_
                    refine ap_ild_5 (pc := 371) dL_areLayers_371 ?_
                    refine ap_const (pc := 373) dL_areLayers_373 ?_
                    refine ap_invV (pc := 374) dL_areLayers_374 mv_RL_23 sh_0 (av := [_, _]) (rest := []) (k_field I ⟨by omega, by omega⟩ ⟨by omega, by omega⟩) rfl rfl (Nat.le_of_ble_eq_true rfl) (by decide) (by decide) ?_
                    rintro _ _ ⟨rfl, rfl⟩
                    rw [vFD_4 h0 h7]
                    refine ap_bipush (pc := 377) dL_areLayers_377 bp_m4 ?_
                    refine ap_icmp_ne (pc := 379) 398 dL_areLayers_379 rfl (Or.inr ⟨⟨by omega, by omega⟩, ⟨by omega, by omega⟩⟩) (fun c379 => ?_) (fun c379 => ?_)
                    · skip
                      have := hm_0 (r := r) (f := (f : Int)) (by omega); exfalso; omega
                    · skip
                      refine ap_ald_0 (pc := 382) dL_areLayers_382 ?_
                      refine ap_ild_5 (pc := 383) dL_areLayers_383 ?_
                      refine ap_const (pc := 385) dL_areLayers_385 ?_
                      refine ap_invV (pc := 386) dL_areLayers_386 mv_RL_23 sh_0 (av := [_, _]) (rest := []) (k_field I ⟨by omega, by omega⟩ ⟨by omega, by omega⟩) rfl rfl (Nat.le_of_ble_eq_true rfl) (by decide) (by decide) ?_
                      rintro _ _ ⟨rfl, rfl⟩
                      rw [vFD_5 h0 h7]
                      refine ap_bipush (pc := 389) dL_areLayers_389 bp_m4 ?_
                      refine ap_icmp_ne (pc := 391) 398 dL_areLayers_391 rfl (Or.inr ⟨⟨by omega, by omega⟩, ⟨by omega, by omega⟩⟩) (fun c391 => ?_) (fun c391 => ?_)
                      · skip
                        have := hs_0 (r := r) (f := (f : Int)) (by omega); exfalso; omega
                      · skip
                        exact J394
          · skip
            have hl : (l : Int) < szR r f := c133
            have hla := wR.2.1.2 f l h0 h7 (by omega) hl
            have hco := hla.1
            have hjj := J.2.2.1 f l h0 h7 (by omega) hl
            have hcc := wR.1.2 _ hco.1 hco.2
            have hge := hm_ge (r := r) (f := f) (l := l) (by omega) hl
            have hso := hS.2.2.2.1
            refine ap_ild_4 (pc := 136) dL_areLayers_136 ?_
            refine ap_if_eq (pc := 138) 328 dL_areLayers_138 rfl ⟨by omega, by omega⟩ (fun c138 => absurd c138 (by decide)) (fun _ => ?_)
            refine ap_ald_0 (pc := 141) dL_areLayers_141 ?_
            refine ap_ild_5 (pc := 142) dL_areLayers_142 ?_
            refine ap_ild_8 (pc := 144) dL_areLayers_144 ?_
            refine ap_const (pc := 146) dL_areLayers_146 ?_
            refine ap_invV (pc := 147) dL_areLayers_147 mv_RL_19 sh_0 (av := [_, _, _]) (rest := []) (k_layer I ⟨by omega, by omega⟩ ⟨by omega, by omega⟩ ⟨by omega, by omega⟩) rfl rfl (Nat.le_of_ble_eq_true rfl) (by decide) (by decide) ?_
            rintro _ _ ⟨rfl, rfl⟩
            rw [vLY_1 h0 h7 (by omega) hl]
            refine ap_ist_9 (pc := 150) dL_areLayers_150 (by decide) ?_
            have J184 : AP 4 mL_areLayers 184 [some (.inr 0), some (.inl (sumL (szR r) f + szR r f)), some (.inl (sumL (crR r) f)), some (.inl (sumL (wW r) f)), some (.inl 1), some (.inl (f : Int)), some (.inl (szR r f)), some (.inl (sumL (plG r f) l)), some (.inl (l : Int)), some (.inl (stR r f l))] [.inl (plG r f l), .inl (sumL (plG r f) l)] m (an 1 m) := by
              skip
              refine ap_iadd (pc := 184) dL_areLayers_184 ?_
              refine ap_ist_7 (pc := 185) dL_areLayers_185 (by decide) ?_
              refine ap_ild_9 (pc := 187) dL_areLayers_187 ?_
              refine ap_if_lt (pc := 189) 319 dL_areLayers_189 rfl ⟨by omega, by omega⟩ (fun c189 => ?_) (fun c189 => ?_)
              · skip
                exfalso; omega
              · skip
                refine ap_ild_9 (pc := 192) dL_areLayers_192 ?_
                refine ap_const (pc := 194) dL_areLayers_194 ?_
                refine ap_icmp_ge (pc := 195) 319 dL_areLayers_195 rfl ⟨by omega, by omega⟩ ⟨by omega, by omega⟩ (fun c195 => ?_) (fun c195 => ?_)
                · skip
                  exfalso; omega
                · skip
                  have J212 : AP 4 mL_areLayers 212 [some (.inr 0), some (.inl (sumL (szR r) f + szR r f)), some (.inl (sumL (crR r) f)), some (.inl (sumL (wW r) f)), some (.inl 1), some (.inl (f : Int)), some (.inl (szR r f)), some (.inl (sumL (plG r f) (l + 1))), some (.inl (l : Int)), some (.inl (stR r f l))] [] m (an 1 m) := by
                    skip
                    refine ap_ald_0 (pc := 212) dL_areLayers_212 ?_
                    refine ap_ild_5 (pc := 213) dL_areLayers_213 ?_
                    refine ap_ild_8 (pc := 215) dL_areLayers_215 ?_
                    refine ap_const (pc := 217) dL_areLayers_217 ?_
                    refine ap_invV (pc := 218) dL_areLayers_218 mv_RL_19 sh_0 (av := [_, _, _]) (rest := []) (k_layer I ⟨by omega, by omega⟩ ⟨by omega, by omega⟩ ⟨by omega, by omega⟩) rfl rfl (Nat.le_of_ble_eq_true rfl) (by decide) (by decide) ?_
                    rintro _ _ ⟨rfl, rfl⟩
                    rw [vLY_2 h0 h7 (by omega) hl]
                    refine ap_if_lt (pc := 221) 319 dL_areLayers_221 rfl ⟨by omega, by omega⟩ (fun c221 => ?_) (fun c221 => ?_)
                    · skip
                      exfalso; omega
                    · skip
                      have J243 : AP 4 mL_areLayers 243 [some (.inr 0), some (.inl (sumL (szR r) f + szR r f)), some (.inl (sumL (crR r) f)), some (.inl (sumL (wW r) f)), some (.inl 1), some (.inl (f : Int)), some (.inl (szR r f)), some (.inl (sumL (plG r f) (l + 1))), some (.inl (l : Int)), some (.inl (stR r f l))] [] m (an 1 m) := by
                        skip
                        have J261 : AP 4 mL_areLayers 261 [some (.inr 0), some (.inl (sumL (szR r) f + szR r f)), some (.inl (sumL (crR r) f)), some (.inl (sumL (wW r) f)), some (.inl 1), some (.inl (f : Int)), some (.inl (szR r f)), some (.inl (sumL (plG r f) (l + 1))), some (.inl (l : Int)), some (.inl (stR r f l))] [] m (an 1 m) := by
                          skip
                          refine ap_ald_0 (pc := 261) dL_areLayers_261 ?_
                          refine ap_ild_5 (pc := 262) dL_areLayers_262 ?_
                          refine ap_const (pc := 264) dL_areLayers_264 ?_
                          refine ap_invV (pc := 265) dL_areLayers_265 mv_RL_23 sh_0 (av := [_, _]) (rest := []) (k_field I ⟨by omega, by omega⟩ ⟨by omega, by omega⟩) rfl rfl (Nat.le_of_ble_eq_true rfl) (by decide) (by decide) ?_
                          rintro _ _ ⟨rfl, rfl⟩
                          rw [vFD_4 h0 h7]
                          refine ap_ald_0 (pc := 268) dL_areLayers_268 ?_
                          refine ap_ald_0 (pc := 269) dL_areLayers_269 ?_
                          refine ap_ild_5 (pc := 270) dL_areLayers_270 ?_
                          refine ap_ild_8 (pc := 272) dL_areLayers_272 ?_
                          refine ap_const (pc := 274) dL_areLayers_274 ?_
                          refine ap_invV (pc := 275) dL_areLayers_275 mv_RL_19 sh_0 (av := [_, _, _]) (rest := [_, _]) (k_layer I ⟨by omega, by omega⟩ ⟨by omega, by omega⟩ ⟨by omega, by omega⟩) rfl rfl (Nat.le_of_ble_eq_true rfl) (by decide) (by decide) ?_
                          rintro _ _ ⟨rfl, rfl⟩
                          rw [vLY_0 h0 h7 (by omega) hl]
                          refine ap_const (pc := 278) dL_areLayers_278 ?_
                          refine ap_invV (pc := 279) dL_areLayers_279 mv_RL_30 sh_0 (av := [_, _]) (rest := [_]) (k_colorInfo I ⟨by omega, by omega⟩ ⟨by omega, by omega⟩) rfl rfl (Nat.le_of_ble_eq_true rfl) (by decide) (by decide) ?_
                          rintro _ _ ⟨rfl, rfl⟩
                          rw [vCI_0 hco.1 hco.2]
                          refine ap_icmp_lt (pc := 282) 319 dL_areLayers_282 rfl ⟨by omega, by omega⟩ ⟨by omega, by omega⟩ (fun c282 => ?_) (fun c282 => ?_)
                          · skip
                            exfalso; omega
                          · skip
                            have J315 : AP 4 mL_areLayers 315 [some (.inr 0), some (.inl (sumL (szR r) f + szR r f)), some (.inl (sumL (crR r) f)), some (.inl (sumL (wW r) f)), some (.inl 1), some (.inl (f : Int)), some (.inl (szR r f)), some (.inl (sumL (plG r f) (l + 1))), some (.inl (l : Int)), some (.inl (stR r f l))] [] m (an 1 m) := by
                              skip
                              refine ap_const (pc := 315) dL_areLayers_315 ?_
                              refine ap_goto (pc := 316) 320 dL_areLayers_316 rfl ?_
                              refine ap_ist_4 (pc := 320) dL_areLayers_320 (by decide) ?_
                              refine ap_iinc_8 (pc := 322) dL_areLayers_322 (by decide) ?_
                              refine ap_goto (pc := 325) 129 dL_areLayers_325 rfl ?_
                              exact (ihl hl).bk ⟨rfl, rfl, rfl, rfl, rfl, rfl, rfl, rfl, rfl, trivial, trivial⟩ rfl
                            refine ap_ild_9 (pc := 285) dL_areLayers_285 ?_
                            refine ap_const (pc := 287) dL_areLayers_287 ?_
                            refine ap_icmp_eq (pc := 288) 315 dL_areLayers_288 rfl (Or.inr ⟨⟨by omega, by omega⟩, ⟨by omega, by omega⟩⟩) (fun c288 => ?_) (fun c288 => ?_)
                            · skip
                              exact J315
                            · skip
                              refine ap_ald_0 (pc := 291) dL_areLayers_291 ?_
                              refine ap_ild_5 (pc := 292) dL_areLayers_292 ?_
                              refine ap_const (pc := 294) dL_areLayers_294 ?_
                              refine ap_invV (pc := 295) dL_areLayers_295 mv_RL_23 sh_0 (av := [_, _]) (rest := []) (k_field I ⟨by omega, by omega⟩ ⟨by omega, by omega⟩) rfl rfl (Nat.le_of_ble_eq_true rfl) (by decide) (by decide) ?_
                              rintro _ _ ⟨rfl, rfl⟩
                              rw [vFD_5 h0 h7]
                              refine ap_ald_0 (pc := 298) dL_areLayers_298 ?_
                              refine ap_ald_0 (pc := 299) dL_areLayers_299 ?_
                              refine ap_ild_5 (pc := 300) dL_areLayers_300 ?_
                              refine ap_ild_8 (pc := 302) dL_areLayers_302 ?_
                              refine ap_const (pc := 304) dL_areLayers_304 ?_
                              refine ap_invV (pc := 305) dL_areLayers_305 mv_RL_19 sh_0 (av := [_, _, _]) (rest := [_, _]) (k_layer I ⟨by omega, by omega⟩ ⟨by omega, by omega⟩ ⟨by omega, by omega⟩) rfl rfl (Nat.le_of_ble_eq_true rfl) (by decide) (by decide) ?_
                              rintro _ _ ⟨rfl, rfl⟩
                              rw [vLY_0 h0 h7 (by omega) hl]
                              refine ap_const (pc := 308) dL_areLayers_308 ?_
                              refine ap_invV (pc := 309) dL_areLayers_309 mv_RL_30 sh_0 (av := [_, _]) (rest := [_]) (k_colorInfo I ⟨by omega, by omega⟩ ⟨by omega, by omega⟩) rfl rfl (Nat.le_of_ble_eq_true rfl) (by decide) (by decide) ?_
                              rintro _ _ ⟨rfl, rfl⟩
                              rw [vCI_1 hco.1 hco.2]
                              refine ap_icmp_gt (pc := 312) 319 dL_areLayers_312 rfl ⟨by omega, by omega⟩ ⟨by omega, by omega⟩ (fun c312 => ?_) (fun c312 => ?_)
                              · skip
                                exact absurd (hs_le wR h0 h7 (by omega) hl c288) (by omega)
                              · skip
                                exact J315
                        refine ap_ild_9 (pc := 243) dL_areLayers_243 ?_
                        refine ap_const (pc := 245) dL_areLayers_245 ?_
                        refine ap_icmp_gt (pc := 246) 261 dL_areLayers_246 rfl ⟨by omega, by omega⟩ ⟨by omega, by omega⟩ (fun c246 => ?_) (fun c246 => ?_)
                        · skip
                          exact J261
                        · skip
                          refine ap_ald_0 (pc := 249) dL_areLayers_249 ?_
                          refine ap_ild_5 (pc := 250) dL_areLayers_250 ?_
                          refine ap_ild_8 (pc := 252) dL_areLayers_252 ?_
                          refine ap_const (pc := 254) dL_areLayers_254 ?_
                          refine ap_invV (pc := 255) dL_areLayers_255 mv_RL_19 sh_0 (av := [_, _, _]) (rest := []) (k_layer I ⟨by omega, by omega⟩ ⟨by omega, by omega⟩ ⟨by omega, by omega⟩) rfl rfl (Nat.le_of_ble_eq_true rfl) (by decide) (by decide) ?_
                          rintro _ _ ⟨rfl, rfl⟩
                          rw [vLY_2 h0 h7 (by omega) hl]
                          refine ap_if_ne (pc := 258) 319 dL_areLayers_258 rfl ⟨by omega, by omega⟩ (fun c258 => ?_) (fun c258 => ?_)
                          · skip
                            exfalso; omega
                          · skip
                            exact J261
                      refine ap_ild_9 (pc := 224) dL_areLayers_224 ?_
                      refine ap_const (pc := 226) dL_areLayers_226 ?_
                      refine ap_icmp_ne (pc := 227) 243 dL_areLayers_227 rfl (Or.inr ⟨⟨by omega, by omega⟩, ⟨by omega, by omega⟩⟩) (fun c227 => ?_) (fun c227 => ?_)
                      · skip
                        exact J243
                      · skip
                        refine ap_ald_0 (pc := 230) dL_areLayers_230 ?_
                        refine ap_ild_5 (pc := 231) dL_areLayers_231 ?_
                        refine ap_ild_8 (pc := 233) dL_areLayers_233 ?_
                        refine ap_const (pc := 235) dL_areLayers_235 ?_
                        refine ap_invV (pc := 236) dL_areLayers_236 mv_RL_19 sh_0 (av := [_, _, _]) (rest := []) (k_layer I ⟨by omega, by omega⟩ ⟨by omega, by omega⟩ ⟨by omega, by omega⟩) rfl rfl (Nat.le_of_ble_eq_true rfl) (by decide) (by decide) ?_
                        rintro _ _ ⟨rfl, rfl⟩
                        rw [vLY_2 h0 h7 (by omega) hl]
                        refine ap_const (pc := 239) dL_areLayers_239 ?_
                        refine ap_icmp_gt (pc := 240) 319 dL_areLayers_240 rfl ⟨by omega, by omega⟩ ⟨by omega, by omega⟩ (fun c240 => ?_) (fun c240 => ?_)
                        · skip
                          exfalso; omega
                        · skip
                          exact J243
                  refine ap_ild_9 (pc := 198) dL_areLayers_198 ?_
                  refine ap_if_gt (pc := 200) 212 dL_areLayers_200 rfl ⟨by omega, by omega⟩ (fun c200 => ?_) (fun c200 => ?_)
                  · skip
                    exact J212
                  · skip
                    refine ap_ild_8 (pc := 203) dL_areLayers_203 ?_
                    refine ap_ild_6 (pc := 205) dL_areLayers_205 ?_
                    refine ap_const (pc := 207) dL_areLayers_207 ?_
                    refine ap_isub (pc := 208) dL_areLayers_208 ?_
                    refine ap_icmp_ne (pc := 209) 319 dL_areLayers_209 rfl (Or.inr ⟨⟨by omega, by omega⟩, ⟨by omega, by omega⟩⟩) (fun c209 => ?_) (fun c209 => ?_)
                    · skip
                      exfalso; omega
                    · skip
                      exact J212
            refine ap_ild_7 (pc := 152) dL_areLayers_152 ?_
            refine ap_ild_9 (pc := 154) dL_areLayers_154 ?_
            refine ap_const (pc := 156) dL_areLayers_156 ?_
            refine ap_icmp_eq (pc := 157) 166 dL_areLayers_157 rfl (Or.inr ⟨⟨by omega, by omega⟩, ⟨by omega, by omega⟩⟩) (fun c157 => ?_) (fun c157 => ?_)
            · skip
              refine ap_ald_0 (pc := 166) dL_areLayers_166 ?_
              refine ap_ald_0 (pc := 167) dL_areLayers_167 ?_
              refine ap_ild_5 (pc := 168) dL_areLayers_168 ?_
              refine ap_ild_8 (pc := 170) dL_areLayers_170 ?_
              refine ap_const (pc := 172) dL_areLayers_172 ?_
              refine ap_invV (pc := 173) dL_areLayers_173 mv_RL_19 sh_0 (av := [_, _, _]) (rest := [_, _]) (k_layer I ⟨by omega, by omega⟩ ⟨by omega, by omega⟩ ⟨by omega, by omega⟩) rfl rfl (Nat.le_of_ble_eq_true rfl) (by decide) (by decide) ?_
              rintro _ _ ⟨rfl, rfl⟩
              rw [vLY_0 h0 h7 (by omega) hl]
              refine ap_const (pc := 176) dL_areLayers_176 ?_
              refine ap_invV (pc := 177) dL_areLayers_177 mv_RL_30 sh_0 (av := [_, _]) (rest := [_]) (k_colorInfo I ⟨by omega, by omega⟩ ⟨by omega, by omega⟩) rfl rfl (Nat.le_of_ble_eq_true rfl) (by decide) (by decide) ?_
              rintro _ _ ⟨rfl, rfl⟩
              rw [vCI_3 hco.1 hco.2]
              refine ap_goto (pc := 180) 184 dL_areLayers_180 rfl ?_
              exact J184.to rfl (by simp only [plG]; first | (rw [if_pos (by unfold holds; omega)]; rfl) | (rw [if_neg (by unfold holds; omega)]; rfl) | rw [if_pos (by unfold holds; omega)] | rw [if_neg (by unfold holds; omega)]) rfl
            · skip
              refine ap_ild_9 (pc := 160) dL_areLayers_160 ?_
              refine ap_const (pc := 162) dL_areLayers_162 ?_
              refine ap_icmp_ne (pc := 163) 183 dL_areLayers_163 rfl (Or.inr ⟨⟨by omega, by omega⟩, ⟨by omega, by omega⟩⟩) (fun c163 => ?_) (fun c163 => ?_)
              · skip
                refine ap_const (pc := 183) dL_areLayers_183 ?_
                exact J184.to rfl (by simp only [plG]; first | (rw [if_pos (by unfold holds; omega)]; rfl) | (rw [if_neg (by unfold holds; omega)]; rfl) | rw [if_pos (by unfold holds; omega)] | rw [if_neg (by unfold holds; omega)]) rfl
              · skip
                refine ap_ald_0 (pc := 166) dL_areLayers_166 ?_
                refine ap_ald_0 (pc := 167) dL_areLayers_167 ?_
                refine ap_ild_5 (pc := 168) dL_areLayers_168 ?_
                refine ap_ild_8 (pc := 170) dL_areLayers_170 ?_
                refine ap_const (pc := 172) dL_areLayers_172 ?_
                refine ap_invV (pc := 173) dL_areLayers_173 mv_RL_19 sh_0 (av := [_, _, _]) (rest := [_, _]) (k_layer I ⟨by omega, by omega⟩ ⟨by omega, by omega⟩ ⟨by omega, by omega⟩) rfl rfl (Nat.le_of_ble_eq_true rfl) (by decide) (by decide) ?_
                rintro _ _ ⟨rfl, rfl⟩
                rw [vLY_0 h0 h7 (by omega) hl]
                refine ap_const (pc := 176) dL_areLayers_176 ?_
                refine ap_invV (pc := 177) dL_areLayers_177 mv_RL_30 sh_0 (av := [_, _]) (rest := [_]) (k_colorInfo I ⟨by omega, by omega⟩ ⟨by omega, by omega⟩) rfl rfl (Nat.le_of_ble_eq_true rfl) (by decide) (by decide) ?_
                rintro _ _ ⟨rfl, rfl⟩
                rw [vCI_3 hco.1 hco.2]
                refine ap_goto (pc := 180) 184 dL_areLayers_180 rfl ?_
                exact J184.to rfl (by simp only [plG]; first | (rw [if_pos (by unfold holds; omega)]; rfl) | (rw [if_neg (by unfold holds; omega)]; rfl) | rw [if_pos (by unfold holds; omega)] | rw [if_neg (by unfold holds; omega)]) rfl

