
section KR
variable {r : Int → Int} {n : Int} {H : Int → Int → Int} {m : AM}
theorem kr_color (I : GI r n H m) {a b c : Int} (ha : rng a) (hb : rng b) (hc : rng c) (h : ¬ ((600 ≤ a ∧ a ≤ 900) ∧ (a + 10 ≤ b ∧ b ≤ a + 200) ∧ 60 ≤ c ∧ c ≤ 160)) : CS 5 mX8_color [.inr 0, .inl a, .inl b, .inl c] m (an (-1) m) :=
  (k_color I ha hb hc).mono (Nat.le_refl _) (fun v m' q => by
    rcases q.2 with z | z
    · exact absurd z.1.1 h
    · exact ⟨by rw [q.1]; unfold vColor; rw [if_neg h], z.2.symm⟩)
theorem kr_colorL (I : GI r n H m) {a b c : Int} (ha : rng a) (hb : rng b) (hc : rng c) (h : (600 ≤ a ∧ a ≤ 900) ∧ (a + 10 ≤ b ∧ b ≤ a + 200) ∧ 60 ≤ c ∧ c ≤ 160) (h2 : ¬ r 0 < 12) : CS 5 mX8_color [.inr 0, .inl a, .inl b, .inl c] m (an (-3) m) :=
  (k_color I ha hb hc).mono (Nat.le_refl _) (fun v m' q => by
    rcases q.2 with z | z
    · exact absurd z.1.2 h2
    · exact ⟨by rw [q.1]; unfold vColor; rw [if_pos h, if_neg h2], z.2.symm⟩)
theorem kr_put (I : GI r n H m) {f c : Int} (hf : rng f) (hc : rng c) (h : ¬ ((0 ≤ f ∧ f ≤ 6) ∧ 0 ≤ c ∧ c < r 0)) : CS 5 mX8_put [.inr 0, .inl f, .inl c] m (an (-1) m) :=
  (k_put I hf hc).mono (Nat.le_refl _) (fun v m' q => by
    rcases q.2 with z | z
    · exact absurd ⟨z.1.1, z.1.2.1⟩ h
    · exact ⟨by rw [q.1, (vPut_1 h).1], z.2.symm⟩)
theorem kr_takeOff (I : GI r n H m) {f : Int} (hf : rng f) (h : ¬ (0 ≤ f ∧ f ≤ 6)) : CS 5 mX8_takeOff [.inr 0, .inl f] m (an (-1) m) :=
  (k_takeOff I hf).mono (Nat.le_refl _) (fun v m' q => by
    rcases q.2 with z | z
    · exact absurd z.1.1 h
    · exact ⟨by rw [q.1, (vTake_1 h).1], z.2.symm⟩)
theorem kr_set (I : GI r n H m) {x v : Int} (hx : rng x) (hv : rng v) (h : ¬ okSet x v) : CS 5 mX8_set [.inr 0, .inl x, .inl v] m (an (-1) m) :=
  (k_set I hx hv).mono (Nat.le_refl _) (fun u m' q => by
    rcases q.2 with z | z
    · exact absurd z.1 h
    · exact ⟨by rw [q.1]; unfold vSet; unfold okSet at h; rw [if_neg h], z.2.symm⟩)
theorem kr_fire (I : GI r n H m) {h t : Int} (hh : rng h) (ht : rng t) (no : ¬ ((500 ≤ h ∧ h ≤ 1200) ∧ 1 ≤ t ∧ t ≤ 20)) : CS 5 mX8_fire [.inr 0, .inl h, .inl t] m (an (-1) m) :=
  (k_fire I hh ht).mono (Nat.le_refl _) (fun v m' q => by
    rcases q.2 with z | z
    · exact absurd ⟨z.1.1, z.1.2.1⟩ no
    · exact ⟨by rw [q.1]; unfold vFire; rw [if_neg no], z.2.symm⟩)
theorem kr_fireL (I : GI r n H m) {h t : Int} (hh : rng h) (ht : rng t) (y : (500 ≤ h ∧ h ≤ 1200) ∧ 1 ≤ t ∧ t ≤ 20) (no : ¬ r 117 < 1000) : CS 5 mX8_fire [.inr 0, .inl h, .inl t] m (an (-3) m) :=
  (k_fire I hh ht).mono (Nat.le_refl _) (fun v m' q => by
    rcases q.2 with z | z
    · exact absurd z.1.2.2 no
    · exact ⟨by rw [q.1]; unfold vFire; rw [if_pos y, if_neg no], z.2.symm⟩)
theorem kr_wish (I : GI r n H m) {f c : Int} (hf : rng f) (hc : rng c) (h : ¬ ((0 ≤ f ∧ f ≤ 5) ∧ (c = -1 ∨ (0 ≤ c ∧ c < r 0)))) : CS 5 mX8_wish [.inr 0, .inl f, .inl c] m (an (-1) m) :=
  (k_wish I hf hc).mono (Nat.le_refl _) (fun v m' q => by
    rcases q.2 with z | z
    · exact absurd ⟨z.1.1, z.1.2.imp id (fun y => y.1)⟩ h
    · exact ⟨by rw [q.1]; unfold vWish; rw [if_neg h], z.2.symm⟩)
theorem kr_ifFired (I : GI r n H m) {h x : Int} (hh : rng h) (hx : rng x) (no : ¬ ((500 ≤ h ∧ h ≤ 1200) ∧ 0 ≤ x ∧ x ≤ 4)) : CS 6 mX8_ifFired [.inr 0, .inl h, .inl x] m (fun v m' => v = some (-1) ∧ GI r n H m') :=
  (k_ifFired I hh hx).mono (Nat.le_refl _) (fun v m' q => ⟨by rw [q.1]; unfold vIF; rw [if_neg no], q.2⟩)
theorem kr_colorInfo (I : GI r n H m) {c x : Int} (hc : rng c) (hx : rng x) (h : ¬ (0 ≤ c ∧ c < r 0)) : CS 3 mX8_colorInfo [.inr 0, .inl c, .inl x] m (an (-1) m) := by
  have k := k_colorInfo I hc hx
  unfold vCI at k; rw [if_neg h] at k; exact k
theorem kr_layer (I : GI r n H m) {f l x : Int} (hf : rng f) (hl : rng l) (hx : rng x) (h : ¬ (0 ≤ f ∧ f ≤ 6 ∧ 0 ≤ l ∧ 0 ≤ x ∧ x ≤ 2)) : CS 2 mX8_layer [.inr 0, .inl f, .inl l, .inl x] m (an (-1) m) := by
  have k := k_layer I hf hl hx
  unfold vLY at k; rw [if_neg h] at k; exact k
theorem kr_layer4 (I : GI r n H m) {f : Int} (a : 0 ≤ f) (b : f < 7) (hf : rng f) (hl : rng 3) (hx : rng 0) : CS 2 mX8_layer [.inr 0, .inl f, .inl 3, .inl 0] m (an (-4) m) := by
  have k := k_layer I hf hl hx
  have hz := (I.1.1.2.1.1 f a b).1
  rw [vLY_n a b (by omega) (by omega)] at k; exact k
theorem kr_field (I : GI r n H m) {f x : Int} (hf : rng f) (hx : rng x) (h : ¬ (0 ≤ f ∧ f ≤ 6)) : CS 3 mX8_field [.inr 0, .inl f, .inl x] m (an (-1) m) := by
  have k := k_field I hf hx
  unfold vFD at k; rw [if_neg h] at k; exact k
theorem kr_field4 (I : GI r n H m) (hf : rng 6) (hx : rng 2) : CS 3 mX8_field [.inr 0, .inl 6, .inl 2] m (an (-4) m) := by
  have k := k_field I hf hx
  unfold vFD at k; rw [if_pos (by omega), if_neg (by omega), if_neg (by omega), if_pos rfl, if_pos rfl] at k; exact k
theorem kr_count (I : GI r n H m) (hx : rng (-1)) : CS 3 mX8_count [.inr 0, .inl (-1)] m (an (-1) m) := by
  have k := k_count I hx
  rw [show vCN r n 0 (-1) = -1 by simp [vCN]] at k; exact k
theorem kr_wished (I : GI r n H m) {f k : Int} (hf : rng f) (hk : rng k) (h : ¬ (0 ≤ f ∧ f ≤ 5 ∧ 0 ≤ k)) : CS 2 mX8_wished [.inr 0, .inl f, .inl k] m (an (-1) m) := by
  have q := k_wished I hf hk
  unfold vWD at q; rw [if_neg h] at q; exact q
theorem kr_wished4 (I : GI r n H m) (hf : rng 5) (hk : rng 3) : CS 2 mX8_wished [.inr 0, .inl 5, .inl 3] m (an (-4) m) := by
  have q := k_wished I hf hk
  have hz := (I.1.1.2.2.2 5 (by omega) (by omega)).1
  rw [vWD_n (by omega) (by omega) (by omega) (by omega)] at q; exact q
theorem hH_top {n : Int} (H : Int → Int → Int) (r : Int → Int) (hn : 0 ≤ n ∧ n ≤ 4) : hH n H r (min (n + 1) 4 - 1) = r := by
  unfold hH
  by_cases c : n < 4
  · rw [if_pos c, if_pos (by omega)]
  · rw [if_neg c, if_pos (by omega)]
theorem ku_undo {r1 : Int → Int} (hn : 0 ≤ n ∧ n ≤ 4) (I : GI r1 (min (n + 1) 4) (hH n H r) m) : CS 5 mX8_undo [.inr 0] m (fun v m' => v = some (min (n + 1) 4 - 1) ∧ GI r (min (n + 1) 4 - 1) (hH n H r) m') :=
  (k_undo I).mono (Nat.le_refl _) (fun v m' q => by
    rcases q.2 with z | z
    · rw [hH_top H r hn] at z
      exact ⟨by rw [q.1, if_neg z.1], z.2⟩
    · omega)
theorem kf_fire (I : GI r n H m) {h : Int} (hh : 500 ≤ h ∧ h ≤ 1200) (h117 : r 117 < 1000) : CS 5 mX8_fire [.inr 0, .inl h, .inl (r 114)] m (fun v m' => v = some (tU r h) ∧ GI (rFire r h 1 (r 114)) (min (n + 1) 4) (hH n H r) m') := by
  have hS := I.1.1.2.2.1
  have hl : lgR r (r 114) = 1 := if_pos (Int.le_refl _)
  refine (k_fire I ⟨by omega, by omega⟩ ⟨by have := hS.1.1; omega, by have := hS.1.2; omega⟩).mono (Nat.le_refl _) (fun v m' q => ?_)
  rw [hl] at q
  have h1 := hS.1
  rcases q.2 with z | z
  · exact ⟨by rw [q.1]; unfold vFire; rw [if_pos ⟨hh, by omega, by omega⟩, if_pos h117, hl]; rfl, z.2⟩
  · exact absurd ⟨hh, ⟨by omega, by omega⟩, h117⟩ z.1
end KR
theorem st4_fire {r r' : Int → Int} {h lg mn : Int} (hx : isFire r h lg mn r') : stN r' 4 4 = stN r 4 4 + tB r h := by
  obtain ⟨x1, x2, x3, x4, x5, x6, x7, x8, x9, x10, x11, x12⟩ := hx
  unfold stN tB sumF
  refine sumL_add (fun f hf => ?_)
  unfold cntR
  rw [x4 f (by omega) (by omega)]
  refine sumL_add (fun l hl => ?_)
  rw [(x7 f l (by omega) (by omega) (by omega) (by omega)).2.1]
  unfold spS spB fSt fdB
  by_cases c1 : stR r f l = 4
  · rw [if_pos c1, if_pos (by omega), if_pos (by omega), if_neg (by omega)]; rfl
  · rw [if_neg c1]
    by_cases c2 : h > buR r (coR r f l)
    · rw [if_pos c2, if_pos (by omega), if_neg (by omega), if_pos (by omega)]; rfl
    · rw [if_neg c2, if_neg (by omega : ¬ (4 ≤ stR r f l ∧ stR r f l ≤ 4)), if_neg (by omega : ¬ (stR r f l ≠ 4 ∧ h > buR r (coR r f l)))]
      rw [if_neg]
      · rfl
      · (repeat' split) <;> omega
theorem pul_fire {r r' : Int → Int} {h lg mn : Int} (w : wfR r) (hx : isFire r h lg mn r') {f : Int} (a : 0 ≤ f) (b : f < 7) : pulR r' f = spP r h lg f := by
  obtain ⟨x1, x2, x3, x4, x5, x6, x7, x8, x9, x10, x11, x12⟩ := hx
  unfold pulR spP pullS
  rw [x4 f a b]
  refine sumL_congr (fun l hl => ?_)
  have z := x7 f l a b (by omega) (by omega)
  have hc := (w.2.1.2 f l a b (by omega) (by omega)).1
  have h12 := w.1.1
  show (if holds (stR r' f l) then 170 - exR r' (coR r' f l) else 0) = _
  rw [z.1, z.2.1]
  have e : exR r' (coR r f l) = exR r (coR r f l) := x1 _ (by omega)
  rw [e]
def fiA (r : Int → Int) (f : Int) (l : Nat) : Int := accL (fun l h => if h ≠ 0 ∨ holds (stR r f l) then 1 else 0) 0 l
theorem fiA_s (r : Int → Int) (f : Int) (l : Nat) : fiA r f (l + 1) = if fiA r f l ≠ 0 ∨ holds (stR r f l) then 1 else 0 := rfl
theorem fiA_01 (r : Int → Int) (f : Int) (l : Nat) : fiA r f l = 0 ∨ fiA r f l = 1 := by
  cases l with
  | zero => exact Or.inl rfl
  | succ l => rw [fiA_s]; split <;> omega
theorem fiA_ex {r : Int → Int} {f : Int} {l : Nat} (h : fiA r f l ≠ 0) : ∃ x : Int, 0 ≤ x ∧ x < l ∧ holds (stR r f x) := by
  induction l with
  | zero => exact absurd rfl h
  | succ l ih =>
    rw [fiA_s] at h
    by_cases c : fiA r f l ≠ 0
    · obtain ⟨x, a, b, d⟩ := ih c
      exact ⟨x, a, by omega, d⟩
    · by_cases c2 : holds (stR r f l)
      · exact ⟨l, by omega, by omega, c2⟩
      · rw [if_neg (fun z => z.elim c c2)] at h
        exact absurd rfl h
theorem no_crack {r r' : Int → Int} {h lg mn : Int} (w : wfR r) (hx : isFire r h lg mn r') {f : Int} (a : 0 ≤ f) (b : f < 6) (hc : ¬ crR r' f = 1) (hf : fiA r' f (szR r' f).toNat ≠ 0) : iab (pulR r' f - pulR r' 6) ≤ r 116 := by
  have p1 := pul_fire w hx a (by omega : f < 7)
  have p2 := pul_fire w hx (f := 6) (by omega) (by omega)
  obtain ⟨x, a1, a2, a3⟩ := fiA_ex hf
  have hc0 := (w.2.1.1 f a (by omega)).2
  have e5 := hx.2.2.2.2.1 f a b
  have e4 := hx.2.2.2.1 f a (by omega)
  have e7 := (hx.2.2.2.2.2.2.1 f x a (by omega) a1 (by omega)).2.1
  rw [p1, p2]
  rw [e5] at hc
  rw [e7] at a3
  refine Int.not_lt.mp (fun gt => hc ?_)
  have c1 : crR r f = 0 ∨ spM r h lg f := by
    rcases hc0 with z | z
    · exact Or.inl z
    · by_cases q : spM r h lg f
      · exact Or.inr q
      · exfalso
        refine hc ?_
        unfold spC
        by_cases k : spK r h lg f
        · rw [if_pos k]
        · rw [if_neg k, if_neg q, z]
  unfold spC
  rw [if_pos ⟨c1, ⟨x, a1, by omega, a3⟩, gt⟩]

set_option maxHeartbeats 4000000 in
theorem qL_refused {r : Int → Int} {n : Int} {H : Int → Int → Int} (m : AM) (I : GI r n H m) : CS 7 mL_refused [.inr 0] m (fun v m' => v = some 1 ∧ GI r n H m') := by
  refine cs_ofL (by decide +kernel) (Nat.le_of_ble_eq_true rfl) rfl (by decide) (fun X => ?_)
  have wR := I.1.1
  have h12 := wR.1.1
  have hn := GI.n I
  refine lp_ald_0 (pc := 0) dL_refused_0 ?_
  refine lq_invSL (pc := 1) dL_refused_1 ms_RL_33 (av := [_]) (qL_print _ I) rfl rfl (Nat.le_of_ble_eq_true rfl) (by decide) (by decide) ⟨Nat.le_refl _, Nat.le_refl _⟩ ?_
  rintro _ _ ⟨rfl, rfl⟩
  refine lp_lst_n (pc := 4) (i := 1) dL_refused_4 rfl (by decide) rfl ?_
  refine lp_ald_0 (pc := 5) dL_refused_5 ?_
  refine lp_bipush (pc := 6) dL_refused_6 bp_21 ?_
  refine lq_invV (pc := 8) dL_refused_8 mv_RL_13 sh_0 (av := [_]) (rest := []) (k_count I ⟨by omega, by omega⟩) rfl rfl (Nat.le_of_ble_eq_true rfl) (by decide) (by decide) ⟨Nat.le_refl _, Nat.le_refl _⟩ ?_
  rintro _ _ ⟨rfl, rfl⟩
  rw [vCN_21]
  refine lp_ist_3 (pc := 11) dL_refused_11 (by decide) (by unfold lkO; simp) ?_
  refine lp_ald_0 (pc := 12) dL_refused_12 ?_
  refine lp_const (pc := 13) dL_refused_13 ?_
  refine lq_invV (pc := 14) dL_refused_14 mv_RL_13 sh_0 (av := [_]) (rest := []) (k_count I ⟨by omega, by omega⟩) rfl rfl (Nat.le_of_ble_eq_true rfl) (by decide) (by decide) ⟨Nat.le_refl _, Nat.le_refl _⟩ ?_
  rintro _ _ ⟨rfl, rfl⟩
  rw [vCN_0]
  refine lp_ist_4 (pc := 17) dL_refused_17 (by decide) (by unfold lkO; simp) ?_
  refine lp_ald_0 (pc := 19) dL_refused_19 ?_
  refine lp_sipush (pc := 20) dL_refused_20 sp_599 ?_
  refine lp_sipush (pc := 23) dL_refused_23 sp_650 ?_
  refine lp_bipush (pc := 26) dL_refused_26 bp_100 ?_
  refine lq_invV (pc := 28) dL_refused_28 mv_RL_39 sh_0 (av := [_, _, _]) (rest := []) (kr_color I ⟨by omega, by omega⟩ ⟨by omega, by omega⟩ ⟨by omega, by omega⟩ (by omega)) rfl rfl (Nat.le_of_ble_eq_true rfl) (by decide) (by decide) ⟨Nat.le_refl _, Nat.le_refl _⟩ ?_
  rintro _ _ ⟨rfl, rfl⟩
  refine lp_const (pc := 31) dL_refused_31 ?_
  refine lp_icmp_ne (pc := 32) 216 dL_refused_32 rfl (Or.inr ⟨⟨by omega, by omega⟩, ⟨by omega, by omega⟩⟩) (fun c32 => absurd c32 (by decide)) (fun _ => ?_)
  refine lp_ald_0 (pc := 35) dL_refused_35 ?_
  refine lp_sipush (pc := 36) dL_refused_36 sp_700 ?_
  refine lp_sipush (pc := 39) dL_refused_39 sp_700 ?_
  refine lp_bipush (pc := 42) dL_refused_42 bp_100 ?_
  refine lq_invV (pc := 44) dL_refused_44 mv_RL_39 sh_0 (av := [_, _, _]) (rest := []) (kr_color I ⟨by omega, by omega⟩ ⟨by omega, by omega⟩ ⟨by omega, by omega⟩ (by omega)) rfl rfl (Nat.le_of_ble_eq_true rfl) (by decide) (by decide) ⟨Nat.le_refl _, Nat.le_refl _⟩ ?_
  rintro _ _ ⟨rfl, rfl⟩
  refine lp_const (pc := 47) dL_refused_47 ?_
  refine lp_icmp_ne (pc := 48) 216 dL_refused_48 rfl (Or.inr ⟨⟨by omega, by omega⟩, ⟨by omega, by omega⟩⟩) (fun c48 => absurd c48 (by decide)) (fun _ => ?_)
  refine lp_ald_0 (pc := 51) dL_refused_51 ?_
  refine lp_sipush (pc := 52) dL_refused_52 sp_700 ?_
  refine lp_sipush (pc := 55) dL_refused_55 sp_750 ?_
  refine lp_sipush (pc := 58) dL_refused_58 sp_200 ?_
  refine lq_invV (pc := 61) dL_refused_61 mv_RL_39 sh_0 (av := [_, _, _]) (rest := []) (kr_color I ⟨by omega, by omega⟩ ⟨by omega, by omega⟩ ⟨by omega, by omega⟩ (by omega)) rfl rfl (Nat.le_of_ble_eq_true rfl) (by decide) (by decide) ⟨Nat.le_refl _, Nat.le_refl _⟩ ?_
  rintro _ _ ⟨rfl, rfl⟩
  refine lp_const (pc := 64) dL_refused_64 ?_
  refine lp_icmp_ne (pc := 65) 216 dL_refused_65 rfl (Or.inr ⟨⟨by omega, by omega⟩, ⟨by omega, by omega⟩⟩) (fun c65 => absurd c65 (by decide)) (fun _ => ?_)
  refine lp_ald_0 (pc := 68) dL_refused_68 ?_
  refine lp_ild_4 (pc := 69) dL_refused_69 ?_
  refine lp_const (pc := 71) dL_refused_71 ?_
  refine lq_invV (pc := 72) dL_refused_72 mv_RL_30 sh_0 (av := [_, _]) (rest := []) (kr_colorInfo I ⟨by omega, by omega⟩ ⟨by omega, by omega⟩ (by omega)) rfl rfl (Nat.le_of_ble_eq_true rfl) (by decide) (by decide) ⟨Nat.le_refl _, Nat.le_refl _⟩ ?_
  rintro _ _ ⟨rfl, rfl⟩
  refine lp_const (pc := 75) dL_refused_75 ?_
  refine lp_icmp_ne (pc := 76) 216 dL_refused_76 rfl (Or.inr ⟨⟨by omega, by omega⟩, ⟨by omega, by omega⟩⟩) (fun c76 => absurd c76 (by decide)) (fun _ => ?_)
  refine lp_ald_0 (pc := 79) dL_refused_79 ?_
  refine lp_const (pc := 80) dL_refused_80 ?_
  refine lp_const (pc := 81) dL_refused_81 ?_
  refine lq_invV (pc := 82) dL_refused_82 mv_RL_42 sh_0 (av := [_, _]) (rest := []) (kr_put I ⟨by omega, by omega⟩ ⟨by omega, by omega⟩ (by omega)) rfl rfl (Nat.le_of_ble_eq_true rfl) (by decide) (by decide) ⟨Nat.le_refl _, Nat.le_refl _⟩ ?_
  rintro _ _ ⟨rfl, rfl⟩
  refine lp_const (pc := 85) dL_refused_85 ?_
  refine lp_icmp_ne (pc := 86) 216 dL_refused_86 rfl (Or.inr ⟨⟨by omega, by omega⟩, ⟨by omega, by omega⟩⟩) (fun c86 => absurd c86 (by decide)) (fun _ => ?_)
  refine lp_ald_0 (pc := 89) dL_refused_89 ?_
  refine lp_const (pc := 90) dL_refused_90 ?_
  refine lp_ild_4 (pc := 91) dL_refused_91 ?_
  refine lq_invV (pc := 93) dL_refused_93 mv_RL_42 sh_0 (av := [_, _]) (rest := []) (kr_put I ⟨by omega, by omega⟩ ⟨by omega, by omega⟩ (by omega)) rfl rfl (Nat.le_of_ble_eq_true rfl) (by decide) (by decide) ⟨Nat.le_refl _, Nat.le_refl _⟩ ?_
  rintro _ _ ⟨rfl, rfl⟩
  refine lp_const (pc := 96) dL_refused_96 ?_
  refine lp_icmp_ne (pc := 97) 216 dL_refused_97 rfl (Or.inr ⟨⟨by omega, by omega⟩, ⟨by omega, by omega⟩⟩) (fun c97 => absurd c97 (by decide)) (fun _ => ?_)
  refine lp_ald_0 (pc := 100) dL_refused_100 ?_
  refine lp_bipush (pc := 101) dL_refused_101 bp_7 ?_
  refine lq_invV (pc := 103) dL_refused_103 mv_RL_45 sh_0 (av := [_]) (rest := []) (kr_takeOff I ⟨by omega, by omega⟩ (by omega)) rfl rfl (Nat.le_of_ble_eq_true rfl) (by decide) (by decide) ⟨Nat.le_refl _, Nat.le_refl _⟩ ?_
  rintro _ _ ⟨rfl, rfl⟩
  refine lp_const (pc := 106) dL_refused_106 ?_
  refine lp_icmp_ne (pc := 107) 216 dL_refused_107 rfl (Or.inr ⟨⟨by omega, by omega⟩, ⟨by omega, by omega⟩⟩) (fun c107 => absurd c107 (by decide)) (fun _ => ?_)
  refine lp_ald_0 (pc := 110) dL_refused_110 ?_
  refine lp_const (pc := 111) dL_refused_111 ?_
  refine lp_const (pc := 112) dL_refused_112 ?_
  refine lp_const (pc := 113) dL_refused_113 ?_
  refine lq_invV (pc := 114) dL_refused_114 mv_RL_19 sh_0 (av := [_, _, _]) (rest := []) (kr_layer I ⟨by omega, by omega⟩ ⟨by omega, by omega⟩ ⟨by omega, by omega⟩ (by omega)) rfl rfl (Nat.le_of_ble_eq_true rfl) (by decide) (by decide) ⟨Nat.le_refl _, Nat.le_refl _⟩ ?_
  rintro _ _ ⟨rfl, rfl⟩
  refine lp_const (pc := 117) dL_refused_117 ?_
  refine lp_icmp_ne (pc := 118) 216 dL_refused_118 rfl (Or.inr ⟨⟨by omega, by omega⟩, ⟨by omega, by omega⟩⟩) (fun c118 => absurd c118 (by decide)) (fun _ => ?_)
  refine lp_ald_0 (pc := 121) dL_refused_121 ?_
  refine lp_bipush (pc := 122) dL_refused_122 bp_7 ?_
  refine lp_const (pc := 124) dL_refused_124 ?_
  refine lp_const (pc := 125) dL_refused_125 ?_
  refine lq_invV (pc := 126) dL_refused_126 mv_RL_19 sh_0 (av := [_, _, _]) (rest := []) (kr_layer I ⟨by omega, by omega⟩ ⟨by omega, by omega⟩ ⟨by omega, by omega⟩ (by omega)) rfl rfl (Nat.le_of_ble_eq_true rfl) (by decide) (by decide) ⟨Nat.le_refl _, Nat.le_refl _⟩ ?_
  rintro _ _ ⟨rfl, rfl⟩
  refine lp_const (pc := 129) dL_refused_129 ?_
  refine lp_icmp_ne (pc := 130) 216 dL_refused_130 rfl (Or.inr ⟨⟨by omega, by omega⟩, ⟨by omega, by omega⟩⟩) (fun c130 => absurd c130 (by decide)) (fun _ => ?_)
  refine lp_ald_0 (pc := 133) dL_refused_133 ?_
  refine lp_bipush (pc := 134) dL_refused_134 bp_6 ?_
  refine lp_const (pc := 136) dL_refused_136 ?_
  refine lp_const (pc := 137) dL_refused_137 ?_
  refine lq_invV (pc := 138) dL_refused_138 mv_RL_19 sh_0 (av := [_, _, _]) (rest := []) (kr_layer4 I (by omega) (by omega) ⟨by omega, by omega⟩ ⟨by omega, by omega⟩ ⟨by omega, by omega⟩) rfl rfl (Nat.le_of_ble_eq_true rfl) (by decide) (by decide) ⟨Nat.le_refl _, Nat.le_refl _⟩ ?_
  rintro _ _ ⟨rfl, rfl⟩
  refine lp_bipush (pc := 141) dL_refused_141 bp_m4 ?_
  refine lp_icmp_ne (pc := 143) 216 dL_refused_143 rfl (Or.inr ⟨⟨by omega, by omega⟩, ⟨by omega, by omega⟩⟩) (fun c143 => absurd c143 (by decide)) (fun _ => ?_)
  refine lp_ald_0 (pc := 146) dL_refused_146 ?_
  refine lp_bipush (pc := 147) dL_refused_147 bp_7 ?_
  refine lp_const (pc := 149) dL_refused_149 ?_
  refine lq_invV (pc := 150) dL_refused_150 mv_RL_23 sh_0 (av := [_, _]) (rest := []) (kr_field I ⟨by omega, by omega⟩ ⟨by omega, by omega⟩ (by omega)) rfl rfl (Nat.le_of_ble_eq_true rfl) (by decide) (by decide) ⟨Nat.le_refl _, Nat.le_refl _⟩ ?_
  rintro _ _ ⟨rfl, rfl⟩
  refine lp_const (pc := 153) dL_refused_153 ?_
  refine lp_icmp_ne (pc := 154) 216 dL_refused_154 rfl (Or.inr ⟨⟨by omega, by omega⟩, ⟨by omega, by omega⟩⟩) (fun c154 => absurd c154 (by decide)) (fun _ => ?_)
  refine lp_ald_0 (pc := 157) dL_refused_157 ?_
  refine lp_bipush (pc := 158) dL_refused_158 bp_6 ?_
  refine lp_const (pc := 160) dL_refused_160 ?_
  refine lq_invV (pc := 161) dL_refused_161 mv_RL_23 sh_0 (av := [_, _]) (rest := []) (kr_field4 I ⟨by omega, by omega⟩ ⟨by omega, by omega⟩) rfl rfl (Nat.le_of_ble_eq_true rfl) (by decide) (by decide) ⟨Nat.le_refl _, Nat.le_refl _⟩ ?_
  rintro _ _ ⟨rfl, rfl⟩
  refine lp_bipush (pc := 164) dL_refused_164 bp_m4 ?_
  refine lp_icmp_ne (pc := 166) 216 dL_refused_166 rfl (Or.inr ⟨⟨by omega, by omega⟩, ⟨by omega, by omega⟩⟩) (fun c166 => absurd c166 (by decide)) (fun _ => ?_)
  refine lp_ald_0 (pc := 169) dL_refused_169 ?_
  refine lp_const (pc := 170) dL_refused_170 ?_
  refine lp_const (pc := 171) dL_refused_171 ?_
  refine lq_invV (pc := 172) dL_refused_172 mv_RL_48 sh_0 (av := [_, _]) (rest := []) (kr_set I ⟨by omega, by omega⟩ ⟨by omega, by omega⟩ (by unfold okSet; omega)) rfl rfl (Nat.le_of_ble_eq_true rfl) (by decide) (by decide) ⟨Nat.le_refl _, Nat.le_refl _⟩ ?_
  rintro _ _ ⟨rfl, rfl⟩
  refine lp_const (pc := 175) dL_refused_175 ?_
  refine lp_icmp_ne (pc := 176) 216 dL_refused_176 rfl (Or.inr ⟨⟨by omega, by omega⟩, ⟨by omega, by omega⟩⟩) (fun c176 => absurd c176 (by decide)) (fun _ => ?_)
  refine lp_ald_0 (pc := 179) dL_refused_179 ?_
  refine lp_const (pc := 180) dL_refused_180 ?_
  refine lp_sipush (pc := 181) dL_refused_181 sp_401 ?_
  refine lq_invV (pc := 184) dL_refused_184 mv_RL_48 sh_0 (av := [_, _]) (rest := []) (kr_set I ⟨by omega, by omega⟩ ⟨by omega, by omega⟩ (by unfold okSet; omega)) rfl rfl (Nat.le_of_ble_eq_true rfl) (by decide) (by decide) ⟨Nat.le_refl _, Nat.le_refl _⟩ ?_
  rintro _ _ ⟨rfl, rfl⟩
  refine lp_const (pc := 187) dL_refused_187 ?_
  refine lp_icmp_ne (pc := 188) 216 dL_refused_188 rfl (Or.inr ⟨⟨by omega, by omega⟩, ⟨by omega, by omega⟩⟩) (fun c188 => absurd c188 (by decide)) (fun _ => ?_)
  refine lp_ald_0 (pc := 191) dL_refused_191 ?_
  refine lp_const (pc := 192) dL_refused_192 ?_
  refine lq_invV (pc := 193) dL_refused_193 mv_RL_13 sh_0 (av := [_]) (rest := []) (kr_count I ⟨by omega, by omega⟩) rfl rfl (Nat.le_of_ble_eq_true rfl) (by decide) (by decide) ⟨Nat.le_refl _, Nat.le_refl _⟩ ?_
  rintro _ _ ⟨rfl, rfl⟩
  refine lp_const (pc := 196) dL_refused_196 ?_
  refine lp_icmp_ne (pc := 197) 216 dL_refused_197 rfl (Or.inr ⟨⟨by omega, by omega⟩, ⟨by omega, by omega⟩⟩) (fun c197 => absurd c197 (by decide)) (fun _ => ?_)
  refine lp_ald_0 (pc := 200) dL_refused_200 ?_
  refine lp_sipush (pc := 201) dL_refused_201 sp_499 ?_
  refine lp_const (pc := 204) dL_refused_204 ?_
  refine lq_invV (pc := 205) dL_refused_205 mv_RL_51 sh_0 (av := [_, _]) (rest := []) (kr_fire I ⟨by omega, by omega⟩ ⟨by omega, by omega⟩ (by omega)) rfl rfl (Nat.le_of_ble_eq_true rfl) (by decide) (by decide) ⟨Nat.le_refl _, Nat.le_refl _⟩ ?_
  rintro _ _ ⟨rfl, rfl⟩
  refine lp_const (pc := 208) dL_refused_208 ?_
  refine lp_icmp_ne (pc := 209) 216 dL_refused_209 rfl (Or.inr ⟨⟨by omega, by omega⟩, ⟨by omega, by omega⟩⟩) (fun c209 => absurd c209 (by decide)) (fun _ => ?_)
  refine lp_const (pc := 212) dL_refused_212 ?_
  refine lp_goto (pc := 213) 217 dL_refused_213 rfl ?_
  refine lp_ist_5 (pc := 217) dL_refused_217 (by decide) (by unfold lkO; simp) ?_
  refine lp_ild_5 (pc := 219) dL_refused_219 ?_
  refine lp_if_eq (pc := 221) 370 dL_refused_221 rfl ⟨by omega, by omega⟩ (fun c221 => absurd c221 (by decide)) (fun _ => ?_)
  refine lp_ald_0 (pc := 224) dL_refused_224 ?_
  refine lp_sipush (pc := 225) dL_refused_225 sp_700 ?_
  refine lp_const (pc := 228) dL_refused_228 ?_
  refine lq_invV (pc := 229) dL_refused_229 mv_RL_51 sh_0 (av := [_, _]) (rest := []) (kr_fire I ⟨by omega, by omega⟩ ⟨by omega, by omega⟩ (by omega)) rfl rfl (Nat.le_of_ble_eq_true rfl) (by decide) (by decide) ⟨Nat.le_refl _, Nat.le_refl _⟩ ?_
  rintro _ _ ⟨rfl, rfl⟩
  refine lp_const (pc := 232) dL_refused_232 ?_
  refine lp_icmp_ne (pc := 233) 370 dL_refused_233 rfl (Or.inr ⟨⟨by omega, by omega⟩, ⟨by omega, by omega⟩⟩) (fun c233 => absurd c233 (by decide)) (fun _ => ?_)
  refine lp_ald_0 (pc := 236) dL_refused_236 ?_
  refine lp_sipush (pc := 237) dL_refused_237 sp_1201 ?_
  refine lp_const (pc := 240) dL_refused_240 ?_
  refine lq_invV (pc := 241) dL_refused_241 mv_RL_54 sh_0 (av := [_, _]) (rest := []) (kr_ifFired I ⟨by omega, by omega⟩ ⟨by omega, by omega⟩ (by omega)) rfl rfl (Nat.le_of_ble_eq_true rfl) (by decide) (by decide) ⟨Nat.le_refl _, Nat.le_refl _⟩ ?_
  rintro _ m ⟨rfl, I⟩
  refine lp_const (pc := 244) dL_refused_244 ?_
  refine lp_icmp_ne (pc := 245) 370 dL_refused_245 rfl (Or.inr ⟨⟨by omega, by omega⟩, ⟨by omega, by omega⟩⟩) (fun c245 => absurd c245 (by decide)) (fun _ => ?_)
  refine lp_ald_0 (pc := 248) dL_refused_248 ?_
  refine lp_sipush (pc := 249) dL_refused_249 sp_700 ?_
  refine lp_const (pc := 252) dL_refused_252 ?_
  refine lq_invV (pc := 253) dL_refused_253 mv_RL_54 sh_0 (av := [_, _]) (rest := []) (kr_ifFired I ⟨by omega, by omega⟩ ⟨by omega, by omega⟩ (by omega)) rfl rfl (Nat.le_of_ble_eq_true rfl) (by decide) (by decide) ⟨Nat.le_refl _, Nat.le_refl _⟩ ?_
  rintro _ m ⟨rfl, I⟩
  refine lp_const (pc := 256) dL_refused_256 ?_
  refine lp_icmp_ne (pc := 257) 370 dL_refused_257 rfl (Or.inr ⟨⟨by omega, by omega⟩, ⟨by omega, by omega⟩⟩) (fun c257 => absurd c257 (by decide)) (fun _ => ?_)
  refine lp_ald_0 (pc := 260) dL_refused_260 ?_
  refine lp_bipush (pc := 261) dL_refused_261 bp_6 ?_
  refine lp_const (pc := 263) dL_refused_263 ?_
  refine lq_invV (pc := 264) dL_refused_264 mv_RL_57 sh_0 (av := [_, _]) (rest := []) (kr_wish I ⟨by omega, by omega⟩ ⟨by omega, by omega⟩ (by omega)) rfl rfl (Nat.le_of_ble_eq_true rfl) (by decide) (by decide) ⟨Nat.le_refl _, Nat.le_refl _⟩ ?_
  rintro _ _ ⟨rfl, rfl⟩
  refine lp_const (pc := 267) dL_refused_267 ?_
  refine lp_icmp_ne (pc := 268) 370 dL_refused_268 rfl (Or.inr ⟨⟨by omega, by omega⟩, ⟨by omega, by omega⟩⟩) (fun c268 => absurd c268 (by decide)) (fun _ => ?_)
  refine lp_ald_0 (pc := 271) dL_refused_271 ?_
  refine lp_const (pc := 272) dL_refused_272 ?_
  refine lp_ild_4 (pc := 273) dL_refused_273 ?_
  refine lq_invV (pc := 275) dL_refused_275 mv_RL_57 sh_0 (av := [_, _]) (rest := []) (kr_wish I ⟨by omega, by omega⟩ ⟨by omega, by omega⟩ (by omega)) rfl rfl (Nat.le_of_ble_eq_true rfl) (by decide) (by decide) ⟨Nat.le_refl _, Nat.le_refl _⟩ ?_
  rintro _ _ ⟨rfl, rfl⟩
  refine lp_const (pc := 278) dL_refused_278 ?_
  refine lp_icmp_ne (pc := 279) 370 dL_refused_279 rfl (Or.inr ⟨⟨by omega, by omega⟩, ⟨by omega, by omega⟩⟩) (fun c279 => absurd c279 (by decide)) (fun _ => ?_)
  refine lp_ald_0 (pc := 282) dL_refused_282 ?_
  refine lp_const (pc := 283) dL_refused_283 ?_
  refine lp_const (pc := 284) dL_refused_284 ?_
  refine lq_invV (pc := 285) dL_refused_285 mv_RL_27 sh_0 (av := [_, _]) (rest := []) (kr_wished I ⟨by omega, by omega⟩ ⟨by omega, by omega⟩ (by omega)) rfl rfl (Nat.le_of_ble_eq_true rfl) (by decide) (by decide) ⟨Nat.le_refl _, Nat.le_refl _⟩ ?_
  rintro _ _ ⟨rfl, rfl⟩
  refine lp_const (pc := 288) dL_refused_288 ?_
  refine lp_icmp_ne (pc := 289) 370 dL_refused_289 rfl (Or.inr ⟨⟨by omega, by omega⟩, ⟨by omega, by omega⟩⟩) (fun c289 => absurd c289 (by decide)) (fun _ => ?_)
  refine lp_ald_0 (pc := 292) dL_refused_292 ?_
  refine lp_const (pc := 293) dL_refused_293 ?_
  refine lp_const (pc := 294) dL_refused_294 ?_
  refine lq_invV (pc := 295) dL_refused_295 mv_RL_27 sh_0 (av := [_, _]) (rest := []) (kr_wished4 I ⟨by omega, by omega⟩ ⟨by omega, by omega⟩) rfl rfl (Nat.le_of_ble_eq_true rfl) (by decide) (by decide) ⟨Nat.le_refl _, Nat.le_refl _⟩ ?_
  rintro _ _ ⟨rfl, rfl⟩
  refine lp_bipush (pc := 298) dL_refused_298 bp_m4 ?_
  refine lp_icmp_ne (pc := 300) 370 dL_refused_300 rfl (Or.inr ⟨⟨by omega, by omega⟩, ⟨by omega, by omega⟩⟩) (fun c300 => absurd c300 (by decide)) (fun _ => ?_)
  refine lp_ald_0 (pc := 303) dL_refused_303 ?_
  refine lp_const (pc := 304) dL_refused_304 ?_
  refine lp_const (pc := 305) dL_refused_305 ?_
  refine lq_invV (pc := 306) dL_refused_306 mv_RL_60 sh_0 (av := [_, _]) (rest := []) (k_plannedN I ⟨by omega, by omega⟩ ⟨by omega, by omega⟩ (by omega)) rfl rfl (Nat.le_of_ble_eq_true rfl) (by decide) (by decide) ⟨Nat.le_refl _, Nat.le_refl _⟩ ?_
  rintro _ _ ⟨rfl, rfl⟩
  refine lp_const (pc := 309) dL_refused_309 ?_
  refine lp_icmp_ne (pc := 310) 370 dL_refused_310 rfl (Or.inr ⟨⟨by omega, by omega⟩, ⟨by omega, by omega⟩⟩) (fun c310 => absurd c310 (by decide)) (fun _ => ?_)
  refine lp_ald_0 (pc := 313) dL_refused_313 ?_
  refine lp_const (pc := 314) dL_refused_314 ?_
  refine lp_const (pc := 315) dL_refused_315 ?_
  refine lq_invV (pc := 316) dL_refused_316 mv_RL_60 sh_0 (av := [_, _]) (rest := []) (k_plannedN I ⟨by omega, by omega⟩ ⟨by omega, by omega⟩ (by omega)) rfl rfl (Nat.le_of_ble_eq_true rfl) (by decide) (by decide) ⟨Nat.le_refl _, Nat.le_refl _⟩ ?_
  rintro _ _ ⟨rfl, rfl⟩
  refine lp_const (pc := 319) dL_refused_319 ?_
  refine lp_icmp_ne (pc := 320) 370 dL_refused_320 rfl (Or.inr ⟨⟨by omega, by omega⟩, ⟨by omega, by omega⟩⟩) (fun c320 => absurd c320 (by decide)) (fun _ => ?_)
  refine lp_ald_0 (pc := 323) dL_refused_323 ?_
  refine lp_bipush (pc := 324) dL_refused_324 bp_127 ?_
  refine lq_invV (pc := 326) dL_refused_326 mv_RL_63 sh_0 (av := [_]) (rest := []) (k_type I ⟨by omega, by omega⟩ (by omega)) rfl rfl (Nat.le_of_ble_eq_true rfl) (by decide) (by decide) ⟨Nat.le_refl _, Nat.le_refl _⟩ ?_
  rintro _ _ ⟨rfl, rfl⟩
  refine lp_const (pc := 329) dL_refused_329 ?_
  refine lp_icmp_ne (pc := 330) 370 dL_refused_330 rfl (Or.inr ⟨⟨by omega, by omega⟩, ⟨by omega, by omega⟩⟩) (fun c330 => absurd c330 (by decide)) (fun _ => ?_)
  refine lp_ald_0 (pc := 333) dL_refused_333 ?_
  refine lp_const (pc := 334) dL_refused_334 ?_
  refine lq_invV (pc := 335) dL_refused_335 mv_RL_66 sh_0 (av := [_]) (rest := []) (k_fault I ⟨by omega, by omega⟩ (by omega)) rfl rfl (Nat.le_of_ble_eq_true rfl) (by decide) (by decide) ⟨Nat.le_refl _, Nat.le_refl _⟩ ?_
  rintro _ m ⟨rfl, I⟩
  refine lp_const (pc := 338) dL_refused_338 ?_
  refine lp_icmp_ne (pc := 339) 370 dL_refused_339 rfl (Or.inr ⟨⟨by omega, by omega⟩, ⟨by omega, by omega⟩⟩) (fun c339 => absurd c339 (by decide)) (fun _ => ?_)
  have J366 : LQ 7 (zN X) mL_refused [(1, PR r)] [] [] 366 [some (.inr 0), none, none, some (.inl n), some (.inl (r 0)), some (.inl 1)] [] m (fun v m' => v = some 1 ∧ GI r n H m') := by
    skip
    refine lp_const (pc := 366) dL_refused_366 ?_
    refine lp_goto (pc := 367) 371 dL_refused_367 rfl ?_
    refine lp_ist_5 (pc := 371) dL_refused_371 (by decide) (by unfold lkO; simp) ?_
    refine lp_ild_5 (pc := 373) dL_refused_373 ?_
    refine lp_if_eq (pc := 375) 401 dL_refused_375 rfl ⟨by omega, by omega⟩ (fun c375 => absurd c375 (by decide)) (fun _ => ?_)
    refine lp_ald_0 (pc := 378) dL_refused_378 ?_
    refine lq_invSL (pc := 379) dL_refused_379 ms_RL_33 (av := [_]) (qL_print _ I) rfl rfl (Nat.le_of_ble_eq_true rfl) (by decide) (by decide) ⟨Nat.le_refl _, Nat.le_refl _⟩ ?_
    rintro _ _ ⟨rfl, rfl⟩
    refine lp_lld_n (pc := 382) (i := 1) dL_refused_382 rfl (List.mem_singleton.mpr rfl) ?_
    refine lp_lcmp (pc := 383) dL_refused_383 rfl ?_
    refine lp_if_ne (pc := 384) 401 dL_refused_384 rfl ⟨by omega, by omega⟩ (fun c384 => absurd c384 (by decide)) (fun _ => ?_)
    refine lp_ald_0 (pc := 387) dL_refused_387 ?_
    refine lp_bipush (pc := 388) dL_refused_388 bp_21 ?_
    refine lq_invV (pc := 390) dL_refused_390 mv_RL_13 sh_0 (av := [_]) (rest := []) (k_count I ⟨by omega, by omega⟩) rfl rfl (Nat.le_of_ble_eq_true rfl) (by decide) (by decide) ⟨Nat.le_refl _, Nat.le_refl _⟩ ?_
    rintro _ _ ⟨rfl, rfl⟩
    rw [vCN_21]
    refine lp_ild_3 (pc := 393) dL_refused_393 ?_
    refine lp_icmp_ne (pc := 394) 401 dL_refused_394 rfl (Or.inr ⟨⟨by omega, by omega⟩, ⟨by omega, by omega⟩⟩) (fun c394 => ?_) (fun c394 => ?_)
    · skip
      exfalso; omega
    · skip
      refine lp_const (pc := 397) dL_refused_397 ?_
      refine lp_goto (pc := 398) 402 dL_refused_398 rfl ?_
      exact lp_zreturn (pc := 402) dL_refused_402 rfl (Or.inr rfl) rfl rfl rfl ⟨rfl, I⟩
  refine lp_ild_4 (pc := 342) dL_refused_342 ?_
  refine lp_bipush (pc := 344) dL_refused_344 bp_12 ?_
  refine lp_icmp_lt (pc := 346) 366 dL_refused_346 rfl ⟨by omega, by omega⟩ ⟨by omega, by omega⟩ (fun c346 => ?_) (fun c346 => ?_)
  · skip
    exact J366
  · skip
    refine lp_ald_0 (pc := 349) dL_refused_349 ?_
    refine lp_sipush (pc := 350) dL_refused_350 sp_700 ?_
    refine lp_sipush (pc := 353) dL_refused_353 sp_800 ?_
    refine lp_bipush (pc := 356) dL_refused_356 bp_100 ?_
    refine lq_invV (pc := 358) dL_refused_358 mv_RL_39 sh_0 (av := [_, _, _]) (rest := []) (kr_colorL I ⟨by omega, by omega⟩ ⟨by omega, by omega⟩ ⟨by omega, by omega⟩ (by omega) (by omega)) rfl rfl (Nat.le_of_ble_eq_true rfl) (by decide) (by decide) ⟨Nat.le_refl _, Nat.le_refl _⟩ ?_
    rintro _ _ ⟨rfl, rfl⟩
    refine lp_bipush (pc := 361) dL_refused_361 bp_m3 ?_
    refine lp_icmp_ne (pc := 363) 370 dL_refused_363 rfl (Or.inr ⟨⟨by omega, by omega⟩, ⟨by omega, by omega⟩⟩) (fun c363 => absurd c363 (by decide)) (fun _ => ?_)
    exact J366

set_option maxHeartbeats 4000000 in
theorem qL_isFired {r : Int → Int} {n : Int} {H : Int → Int → Int} (h : Int) (m : AM) (I : GI r n H m) (J : JJ r) (hh : 500 ≤ h ∧ h ≤ 1200) : CS 7 mL_isFired [.inr 0, .inl h] m (fun v m' => v = some 1 ∧ ∃ (n' : Int) (H' : Int → Int → Int), GI r n' H' m') := by
  refine cs_ofL (by decide +kernel) (Nat.le_of_ble_eq_true rfl) rfl (by decide) (fun X => ?_)
  have wR := I.1.1
  have h12 := wR.1.1
  have hn := GI.n I
  have hS := wR.2.2.1
  have h117 := hS.2.2.2.1
  refine lp_ald_0 (pc := 0) dL_isFired_0 ?_
  refine lq_invSL (pc := 1) dL_isFired_1 ms_RL_33 (av := [_]) (qL_print _ I) rfl rfl (Nat.le_of_ble_eq_true rfl) (by decide) (by decide) ⟨Nat.le_refl _, Nat.le_refl _⟩ ?_
  rintro _ _ ⟨rfl, rfl⟩
  refine lp_lst_n (pc := 4) (i := 2) dL_isFired_4 rfl (by decide) rfl ?_
  refine lp_ald_0 (pc := 5) dL_isFired_5 ?_
  refine lp_ild_1 (pc := 6) dL_isFired_6 ?_
  refine lp_const (pc := 7) dL_isFired_7 ?_
  refine lq_invV (pc := 8) dL_isFired_8 mv_RL_54 sh_0 (av := [_, _]) (rest := []) (k_ifFired I ⟨by omega, by omega⟩ ⟨by omega, by omega⟩) rfl rfl (Nat.le_of_ble_eq_true rfl) (by decide) (by decide) ⟨Nat.le_refl _, Nat.le_refl _⟩ ?_
  rintro _ m ⟨rfl, I⟩
  rw [vIF_0 (by omega) (by omega)]
  refine lp_ist_4 (pc := 11) dL_isFired_11 (by decide) (by unfold lkO; simp) ?_
  refine lp_ald_0 (pc := 13) dL_isFired_13 ?_
  refine lp_ild_1 (pc := 14) dL_isFired_14 ?_
  refine lp_const (pc := 15) dL_isFired_15 ?_
  refine lq_invV (pc := 16) dL_isFired_16 mv_RL_54 sh_0 (av := [_, _]) (rest := []) (k_ifFired I ⟨by omega, by omega⟩ ⟨by omega, by omega⟩) rfl rfl (Nat.le_of_ble_eq_true rfl) (by decide) (by decide) ⟨Nat.le_refl _, Nat.le_refl _⟩ ?_
  rintro _ m ⟨rfl, I⟩
  rw [vIF_1 (by omega) (by omega)]
  refine lp_ist_5 (pc := 19) dL_isFired_19 (by decide) (by unfold lkO; simp) ?_
  refine lp_ald_0 (pc := 21) dL_isFired_21 ?_
  refine lp_ild_1 (pc := 22) dL_isFired_22 ?_
  refine lp_const (pc := 23) dL_isFired_23 ?_
  refine lq_invV (pc := 24) dL_isFired_24 mv_RL_54 sh_0 (av := [_, _]) (rest := []) (k_ifFired I ⟨by omega, by omega⟩ ⟨by omega, by omega⟩) rfl rfl (Nat.le_of_ble_eq_true rfl) (by decide) (by decide) ⟨Nat.le_refl _, Nat.le_refl _⟩ ?_
  rintro _ m ⟨rfl, I⟩
  rw [vIF_2 (by omega) (by omega)]
  refine lp_ist_6 (pc := 27) dL_isFired_27 (by decide) (by unfold lkO; simp) ?_
  refine lp_ald_0 (pc := 29) dL_isFired_29 ?_
  refine lp_ild_1 (pc := 30) dL_isFired_30 ?_
  refine lp_const (pc := 31) dL_isFired_31 ?_
  refine lq_invV (pc := 32) dL_isFired_32 mv_RL_54 sh_0 (av := [_, _]) (rest := []) (k_ifFired I ⟨by omega, by omega⟩ ⟨by omega, by omega⟩) rfl rfl (Nat.le_of_ble_eq_true rfl) (by decide) (by decide) ⟨Nat.le_refl _, Nat.le_refl _⟩ ?_
  rintro _ m ⟨rfl, I⟩
  rw [vIF_3 (by omega) (by omega)]
  refine lp_ist_7 (pc := 35) dL_isFired_35 (by decide) (by unfold lkO; simp) ?_
  refine lp_ald_0 (pc := 37) dL_isFired_37 ?_
  refine lp_ild_1 (pc := 38) dL_isFired_38 ?_
  refine lp_const (pc := 39) dL_isFired_39 ?_
  refine lq_invV (pc := 40) dL_isFired_40 mv_RL_54 sh_0 (av := [_, _]) (rest := []) (k_ifFired I ⟨by omega, by omega⟩ ⟨by omega, by omega⟩) rfl rfl (Nat.le_of_ble_eq_true rfl) (by decide) (by decide) ⟨Nat.le_refl _, Nat.le_refl _⟩ ?_
  rintro _ m ⟨rfl, I⟩
  rw [vIF_4 (by omega) (by omega)]
  refine lp_ist_8 (pc := 43) dL_isFired_43 (by decide) (by unfold lkO; simp) ?_
  refine lp_ald_0 (pc := 45) dL_isFired_45 ?_
  refine lp_bipush (pc := 46) dL_isFired_46 bp_6 ?_
  refine lq_invV (pc := 48) dL_isFired_48 mv_RL_13 sh_0 (av := [_]) (rest := []) (k_count I ⟨by omega, by omega⟩) rfl rfl (Nat.le_of_ble_eq_true rfl) (by decide) (by decide) ⟨Nat.le_refl _, Nat.le_refl _⟩ ?_
  rintro _ _ ⟨rfl, rfl⟩
  rw [vCN_6]
  refine lp_ist_9 (pc := 51) dL_isFired_51 (by decide) (by unfold lkO; simp) ?_
  refine lp_ald_0 (pc := 53) dL_isFired_53 ?_
  refine lp_bipush (pc := 54) dL_isFired_54 bp_7 ?_
  refine lq_invV (pc := 56) dL_isFired_56 mv_RL_13 sh_0 (av := [_]) (rest := []) (k_count I ⟨by omega, by omega⟩) rfl rfl (Nat.le_of_ble_eq_true rfl) (by decide) (by decide) ⟨Nat.le_refl _, Nat.le_refl _⟩ ?_
  rintro _ _ ⟨rfl, rfl⟩
  rw [vCN_7]
  refine lp_ist_10 (pc := 59) dL_isFired_59 (by decide) (by unfold lkO; simp) ?_
  refine lp_ald_0 (pc := 61) dL_isFired_61 ?_
  refine lp_const (pc := 62) dL_isFired_62 ?_
  refine lq_invV (pc := 63) dL_isFired_63 mv_RL_13 sh_0 (av := [_]) (rest := []) (k_count I ⟨by omega, by omega⟩) rfl rfl (Nat.le_of_ble_eq_true rfl) (by decide) (by decide) ⟨Nat.le_refl _, Nat.le_refl _⟩ ?_
  rintro _ _ ⟨rfl, rfl⟩
  rw [vCN_1]
  refine lp_ist_11 (pc := 66) dL_isFired_66 (by decide) (by unfold lkO; simp) ?_
  refine lp_ald_0 (pc := 68) dL_isFired_68 ?_
  refine lq_invSL (pc := 69) dL_isFired_69 ms_RL_33 (av := [_]) (qL_print _ I) rfl rfl (Nat.le_of_ble_eq_true rfl) (by decide) (by decide) ⟨Nat.le_refl _, Nat.le_refl _⟩ ?_
  rintro _ _ ⟨rfl, rfl⟩
  refine lp_lld_n (pc := 72) (i := 2) dL_isFired_72 rfl (List.mem_singleton.mpr rfl) ?_
  refine lp_lcmp (pc := 73) dL_isFired_73 rfl ?_
  refine lp_if_ne (pc := 74) 81 dL_isFired_74 rfl ⟨by omega, by omega⟩ (fun c74 => absurd c74 (by decide)) (fun _ => ?_)
  refine lp_const (pc := 77) dL_isFired_77 ?_
  refine lp_goto (pc := 78) 82 dL_isFired_78 rfl ?_
  refine lp_ist_12 (pc := 82) dL_isFired_82 (by decide) (by unfold lkO; simp) ?_
  refine lp_ald_0 (pc := 84) dL_isFired_84 ?_
  refine lp_bipush (pc := 85) dL_isFired_85 bp_11 ?_
  refine lq_invV (pc := 87) dL_isFired_87 mv_RL_13 sh_0 (av := [_]) (rest := []) (k_count I ⟨by omega, by omega⟩) rfl rfl (Nat.le_of_ble_eq_true rfl) (by decide) (by decide) ⟨Nat.le_refl _, Nat.le_refl _⟩ ?_
  rintro _ _ ⟨rfl, rfl⟩
  rw [vCN_11]
  refine lp_sipush (pc := 90) dL_isFired_90 sp_1000 ?_
  refine lp_icmp_ne (pc := 93) 118 dL_isFired_93 rfl (Or.inr ⟨⟨by omega, by omega⟩, ⟨by omega, by omega⟩⟩) (fun c93 => ?_) (fun c93 => ?_)
  · skip
    have hlt : r 117 < 1000 := by omega
    refine lp_ald_0 (pc := 118) dL_isFired_118 ?_
    refine lp_bipush (pc := 119) dL_isFired_119 bp_15 ?_
    refine lq_invV (pc := 121) dL_isFired_121 mv_RL_13 sh_0 (av := [_]) (rest := []) (k_count I ⟨by omega, by omega⟩) rfl rfl (Nat.le_of_ble_eq_true rfl) (by decide) (by decide) ⟨Nat.le_refl _, Nat.le_refl _⟩ ?_
    rintro _ _ ⟨rfl, rfl⟩
    rw [vCN_15]
    refine lp_ist_13 (pc := 124) dL_isFired_124 (by decide) (by unfold lkO; simp) ?_
    refine lp_ald_0 (pc := 126) dL_isFired_126 ?_
    refine lp_bipush (pc := 127) dL_isFired_127 bp_16 ?_
    refine lq_invV (pc := 129) dL_isFired_129 mv_RL_13 sh_0 (av := [_]) (rest := []) (k_count I ⟨by omega, by omega⟩) rfl rfl (Nat.le_of_ble_eq_true rfl) (by decide) (by decide) ⟨Nat.le_refl _, Nat.le_refl _⟩ ?_
    rintro _ _ ⟨rfl, rfl⟩
    rw [vCN_16]
    refine lp_ist_14 (pc := 132) dL_isFired_132 (by decide) (by unfold lkO; simp) ?_
    refine lp_ald_0 (pc := 134) dL_isFired_134 ?_
    refine lp_bipush (pc := 135) dL_isFired_135 bp_17 ?_
    refine lq_invV (pc := 137) dL_isFired_137 mv_RL_13 sh_0 (av := [_]) (rest := []) (k_count I ⟨by omega, by omega⟩) rfl rfl (Nat.le_of_ble_eq_true rfl) (by decide) (by decide) ⟨Nat.le_refl _, Nat.le_refl _⟩ ?_
    rintro _ _ ⟨rfl, rfl⟩
    rw [vCN_17]
    refine lp_ist_15 (pc := 140) dL_isFired_140 (by decide) (by unfold lkO; simp) ?_
    refine lp_ald_0 (pc := 142) dL_isFired_142 ?_
    refine lp_bipush (pc := 143) dL_isFired_143 bp_18 ?_
    refine lq_invV (pc := 145) dL_isFired_145 mv_RL_13 sh_0 (av := [_]) (rest := []) (k_count I ⟨by omega, by omega⟩) rfl rfl (Nat.le_of_ble_eq_true rfl) (by decide) (by decide) ⟨Nat.le_refl _, Nat.le_refl _⟩ ?_
    rintro _ _ ⟨rfl, rfl⟩
    rw [vCN_18]
    refine lp_ist_16 (pc := 148) dL_isFired_148 (by decide) (by unfold lkO; simp) ?_
    refine lp_ald_0 (pc := 150) dL_isFired_150 ?_
    refine lp_bipush (pc := 151) dL_isFired_151 bp_19 ?_
    refine lq_invV (pc := 153) dL_isFired_153 mv_RL_13 sh_0 (av := [_]) (rest := []) (k_count I ⟨by omega, by omega⟩) rfl rfl (Nat.le_of_ble_eq_true rfl) (by decide) (by decide) ⟨Nat.le_refl _, Nat.le_refl _⟩ ?_
    rintro _ _ ⟨rfl, rfl⟩
    rw [vCN_19]
    refine lp_ist_17 (pc := 156) dL_isFired_156 (by decide) (by unfold lkO; simp) ?_
    refine lp_ald_0 (pc := 158) dL_isFired_158 ?_
    refine lp_bipush (pc := 159) dL_isFired_159 bp_11 ?_
    refine lq_invV (pc := 161) dL_isFired_161 mv_RL_13 sh_0 (av := [_]) (rest := []) (k_count I ⟨by omega, by omega⟩) rfl rfl (Nat.le_of_ble_eq_true rfl) (by decide) (by decide) ⟨Nat.le_refl _, Nat.le_refl _⟩ ?_
    rintro _ _ ⟨rfl, rfl⟩
    rw [vCN_11]
    refine lp_ist_18 (pc := 164) dL_isFired_164 (by decide) (by unfold lkO; simp) ?_
    refine lp_ild_12 (pc := 166) dL_isFired_166 ?_
    refine lp_if_eq (pc := 168) 315 dL_isFired_168 rfl ⟨by omega, by omega⟩ (fun c168 => absurd c168 (by decide)) (fun _ => ?_)
    refine lp_ald_0 (pc := 171) dL_isFired_171 ?_
    refine lp_ild_1 (pc := 172) dL_isFired_172 ?_
    refine lp_ald_0 (pc := 173) dL_isFired_173 ?_
    refine lp_bipush (pc := 174) dL_isFired_174 bp_8 ?_
    refine lq_invV (pc := 176) dL_isFired_176 mv_RL_13 sh_0 (av := [_]) (rest := [_, _]) (k_count I ⟨by omega, by omega⟩) rfl rfl (Nat.le_of_ble_eq_true rfl) (by decide) (by decide) ⟨Nat.le_refl _, Nat.le_refl _⟩ ?_
    rintro _ _ ⟨rfl, rfl⟩
    rw [vCN_8]
    refine lq_invV (pc := 179) dL_isFired_179 mv_RL_51 sh_0 (av := [_, _]) (rest := []) (kf_fire I hh (by omega)) rfl rfl (Nat.le_of_ble_eq_true rfl) (by decide) (by decide) ⟨Nat.le_refl _, Nat.le_refl _⟩ ?_
    rintro _ m ⟨rfl, I⟩
    have hx := isFire_r wR h 1 (r 114)
    have J1 := J_fire wR hx J
    have wR1 := I.1.1
    have e4 := st4_fire hx
    have eC : crkN (rFire r h 1 (r 114)) = crkN r + cntK r h 1 6 - cntM r h 1 6 := by
      rw [← crk_fire wR h 1]
      exact sumL_congr (fun i hi => hx.2.2.2.2.1 i (by omega) (by omega))
    have eL : layN (rFire r h 1 (r 114)) = layN r := sumL_congr (fun i hi => hx.2.2.2.1 i (by omega) (by omega))
    obtain ⟨x1, x2, x3, x4, x5, x6, x7, x8, x9, x10, x11, x12⟩ := id hx
    generalize hr1 : rFire r h 1 (r 114) = r1 at *
    refine lp_ild_4 (pc := 182) dL_isFired_182 ?_
    refine lp_icmp_ne (pc := 184) 315 dL_isFired_184 rfl (Or.inl rfl) (fun c184 => ?_) (fun c184 => ?_)
    · skip
      exact absurd rfl c184
    · skip
      refine lp_ald_0 (pc := 187) dL_isFired_187 ?_
      refine lp_bipush (pc := 188) dL_isFired_188 bp_15 ?_
      refine lq_invV (pc := 190) dL_isFired_190 mv_RL_13 sh_0 (av := [_]) (rest := []) (k_count I ⟨by omega, by omega⟩) rfl rfl (Nat.le_of_ble_eq_true rfl) (by decide) (by decide) ⟨Nat.le_refl _, Nat.le_refl _⟩ ?_
      rintro _ _ ⟨rfl, rfl⟩
      rw [vCN_15]
      refine lp_ild_13 (pc := 193) dL_isFired_193 ?_
      refine lp_ild_4 (pc := 195) dL_isFired_195 ?_
      refine lp_iadd (pc := 197) dL_isFired_197 ?_
      refine lp_icmp_ne (pc := 198) 315 dL_isFired_198 rfl (Or.inl x8) (fun c198 => ?_) (fun c198 => ?_)
      · skip
        exact absurd x8 c198
      · skip
        refine lp_ald_0 (pc := 201) dL_isFired_201 ?_
        refine lp_bipush (pc := 202) dL_isFired_202 bp_16 ?_
        refine lq_invV (pc := 204) dL_isFired_204 mv_RL_13 sh_0 (av := [_]) (rest := []) (k_count I ⟨by omega, by omega⟩) rfl rfl (Nat.le_of_ble_eq_true rfl) (by decide) (by decide) ⟨Nat.le_refl _, Nat.le_refl _⟩ ?_
        rintro _ _ ⟨rfl, rfl⟩
        rw [vCN_16]
        refine lp_ild_14 (pc := 207) dL_isFired_207 ?_
        refine lp_ild_6 (pc := 209) dL_isFired_209 ?_
        refine lp_iadd (pc := 211) dL_isFired_211 ?_
        refine lp_icmp_ne (pc := 212) 315 dL_isFired_212 rfl (Or.inl x9) (fun c212 => ?_) (fun c212 => ?_)
        · skip
          exact absurd x9 c212
        · skip
          refine lp_ald_0 (pc := 215) dL_isFired_215 ?_
          refine lp_bipush (pc := 216) dL_isFired_216 bp_17 ?_
          refine lq_invV (pc := 218) dL_isFired_218 mv_RL_13 sh_0 (av := [_]) (rest := []) (k_count I ⟨by omega, by omega⟩) rfl rfl (Nat.le_of_ble_eq_true rfl) (by decide) (by decide) ⟨Nat.le_refl _, Nat.le_refl _⟩ ?_
          rintro _ _ ⟨rfl, rfl⟩
          rw [vCN_17]
          refine lp_ild_15 (pc := 221) dL_isFired_221 ?_
          refine lp_ild_5 (pc := 223) dL_isFired_223 ?_
          refine lp_iadd (pc := 225) dL_isFired_225 ?_
          refine lp_icmp_ne (pc := 226) 315 dL_isFired_226 rfl (Or.inl x10) (fun c226 => ?_) (fun c226 => ?_)
          · skip
            exact absurd x10 c226
          · skip
            refine lp_ald_0 (pc := 229) dL_isFired_229 ?_
            refine lp_bipush (pc := 230) dL_isFired_230 bp_18 ?_
            refine lq_invV (pc := 232) dL_isFired_232 mv_RL_13 sh_0 (av := [_]) (rest := []) (k_count I ⟨by omega, by omega⟩) rfl rfl (Nat.le_of_ble_eq_true rfl) (by decide) (by decide) ⟨Nat.le_refl _, Nat.le_refl _⟩ ?_
            rintro _ _ ⟨rfl, rfl⟩
            rw [vCN_18]
            refine lp_ild_16 (pc := 235) dL_isFired_235 ?_
            refine lp_ild_7 (pc := 237) dL_isFired_237 ?_
            refine lp_iadd (pc := 239) dL_isFired_239 ?_
            refine lp_icmp_ne (pc := 240) 315 dL_isFired_240 rfl (Or.inl x11) (fun c240 => ?_) (fun c240 => ?_)
            · skip
              exact absurd x11 c240
            · skip
              refine lp_ald_0 (pc := 243) dL_isFired_243 ?_
              refine lp_bipush (pc := 244) dL_isFired_244 bp_19 ?_
              refine lq_invV (pc := 246) dL_isFired_246 mv_RL_13 sh_0 (av := [_]) (rest := []) (k_count I ⟨by omega, by omega⟩) rfl rfl (Nat.le_of_ble_eq_true rfl) (by decide) (by decide) ⟨Nat.le_refl _, Nat.le_refl _⟩ ?_
              rintro _ _ ⟨rfl, rfl⟩
              rw [vCN_19]
              refine lp_ild_17 (pc := 249) dL_isFired_249 ?_
              refine lp_ild_8 (pc := 251) dL_isFired_251 ?_
              refine lp_iadd (pc := 253) dL_isFired_253 ?_
              refine lp_icmp_ne (pc := 254) 315 dL_isFired_254 rfl (Or.inl x12) (fun c254 => ?_) (fun c254 => ?_)
              · skip
                exact absurd x12 c254
              · skip
                refine lp_ald_0 (pc := 257) dL_isFired_257 ?_
                refine lp_bipush (pc := 258) dL_isFired_258 bp_11 ?_
                refine lq_invV (pc := 260) dL_isFired_260 mv_RL_13 sh_0 (av := [_]) (rest := []) (k_count I ⟨by omega, by omega⟩) rfl rfl (Nat.le_of_ble_eq_true rfl) (by decide) (by decide) ⟨Nat.le_refl _, Nat.le_refl _⟩ ?_
                rintro _ _ ⟨rfl, rfl⟩
                rw [vCN_11]
                refine lp_ild_18 (pc := 263) dL_isFired_263 ?_
                refine lp_const (pc := 265) dL_isFired_265 ?_
                refine lp_iadd (pc := 266) dL_isFired_266 ?_
                refine lp_icmp_ne (pc := 267) 315 dL_isFired_267 rfl (Or.inl x2) (fun c267 => ?_) (fun c267 => ?_)
                · skip
                  exact absurd x2 c267
                · skip
                  refine lp_ald_0 (pc := 270) dL_isFired_270 ?_
                  refine lp_bipush (pc := 271) dL_isFired_271 bp_6 ?_
                  refine lq_invV (pc := 273) dL_isFired_273 mv_RL_13 sh_0 (av := [_]) (rest := []) (k_count I ⟨by omega, by omega⟩) rfl rfl (Nat.le_of_ble_eq_true rfl) (by decide) (by decide) ⟨Nat.le_refl _, Nat.le_refl _⟩ ?_
                  rintro _ _ ⟨rfl, rfl⟩
                  rw [vCN_6]
                  refine lp_ild_9 (pc := 276) dL_isFired_276 ?_
                  refine lp_ild_5 (pc := 278) dL_isFired_278 ?_
                  refine lp_iadd (pc := 280) dL_isFired_280 ?_
                  refine lp_icmp_ne (pc := 281) 315 dL_isFired_281 rfl (Or.inl e4) (fun c281 => ?_) (fun c281 => ?_)
                  · skip
                    exact absurd e4 c281
                  · skip
                    refine lp_ald_0 (pc := 284) dL_isFired_284 ?_
                    refine lp_bipush (pc := 285) dL_isFired_285 bp_7 ?_
                    refine lq_invV (pc := 287) dL_isFired_287 mv_RL_13 sh_0 (av := [_]) (rest := []) (k_count I ⟨by omega, by omega⟩) rfl rfl (Nat.le_of_ble_eq_true rfl) (by decide) (by decide) ⟨Nat.le_refl _, Nat.le_refl _⟩ ?_
                    rintro _ _ ⟨rfl, rfl⟩
                    rw [vCN_7]
                    refine lp_ild_10 (pc := 290) dL_isFired_290 ?_
                    refine lp_ild_7 (pc := 292) dL_isFired_292 ?_
                    refine lp_iadd (pc := 294) dL_isFired_294 ?_
                    refine lp_ild_8 (pc := 295) dL_isFired_295 ?_
                    refine lp_isub (pc := 297) dL_isFired_297 ?_
                    refine lp_icmp_ne (pc := 298) 315 dL_isFired_298 rfl (Or.inl eC) (fun c298 => ?_) (fun c298 => ?_)
                    · skip
                      exact absurd eC c298
                    · skip
                      refine lp_ald_0 (pc := 301) dL_isFired_301 ?_
                      refine lp_const (pc := 302) dL_isFired_302 ?_
                      refine lq_invV (pc := 303) dL_isFired_303 mv_RL_13 sh_0 (av := [_]) (rest := []) (k_count I ⟨by omega, by omega⟩) rfl rfl (Nat.le_of_ble_eq_true rfl) (by decide) (by decide) ⟨Nat.le_refl _, Nat.le_refl _⟩ ?_
                      rintro _ _ ⟨rfl, rfl⟩
                      rw [vCN_1]
                      refine lp_ild_11 (pc := 306) dL_isFired_306 ?_
                      refine lp_icmp_ne (pc := 308) 315 dL_isFired_308 rfl (Or.inl eL) (fun c308 => ?_) (fun c308 => ?_)
                      · skip
                        exact absurd eL c308
                      · skip
                        refine lp_const (pc := 311) dL_isFired_311 ?_
                        refine lp_goto (pc := 312) 316 dL_isFired_312 rfl ?_
                        refine lp_ist_12 (pc := 316) dL_isFired_316 (by decide) (by unfold lkO; simp) ?_
                        refine lp_const (pc := 318) dL_isFired_318 ?_
                        refine lp_ist_19 (pc := 319) dL_isFired_319 (by decide) (by unfold lkO; simp) ?_
                        refine LQ.bk (up_rec 6 (fun f => LQ 7 (zN X) mL_isFired [(2, PR r)] [] [] 321 [some (.inr 0), some (.inl h), none, none, some (.inl (tU r h)), some (.inl (tB r h)), some (.inl (tD r h)), some (.inl (cntK r h 1 6)), some (.inl (cntM r h 1 6)), some (.inl (stN r 4 4)), some (.inl (crkN r)), some (.inl (layN r)), some (.inl 1), some (.inl (r 121)), some (.inl (r 122)), some (.inl (r 123)), some (.inl (r 124)), some (.inl (r 125)), some (.inl (r 117)), some (.inl (f : Int)), none, none] [] m (fun v m' => v = some 1 ∧ ∃ (n' : Int) (H' : Int → Int → Int), GI r n' H' m')) (by omega) (fun f hf ihf => ?_)) ⟨rfl, rfl, trivial, trivial, rfl, rfl, rfl, rfl, rfl, rfl, rfl, rfl, rfl, rfl, rfl, rfl, rfl, rfl, rfl, rfl, trivial, trivial, trivial⟩ rfl
                        refine lp_ild_19 (pc := 321) dL_isFired_321 ?_
                        refine lp_bipush (pc := 323) dL_isFired_323 bp_6 ?_
                        refine lp_icmp_ge (pc := 325) 440 dL_isFired_325 rfl ⟨by omega, by omega⟩ ⟨by omega, by omega⟩ (fun c325 => ?_) (fun c325 => ?_)
                        · skip
                          refine lp_ild_12 (pc := 440) dL_isFired_440 ?_
                          refine lp_if_eq (pc := 442) 472 dL_isFired_442 rfl ⟨by omega, by omega⟩ (fun c442 => absurd c442 (by decide)) (fun _ => ?_)
                          refine lp_ald_0 (pc := 445) dL_isFired_445 ?_
                          refine lq_invS (pc := 446) dL_isFired_446 ms_RL_72 (av := [_]) (rest := []) (qL_areLayers _ I J1) rfl rfl (Nat.le_of_ble_eq_true rfl) (by decide) (by decide) ⟨Nat.le_refl _, Nat.le_refl _⟩ ?_
                          rintro _ _ ⟨rfl, rfl⟩
                          refine lp_if_eq (pc := 449) 472 dL_isFired_449 rfl ⟨by omega, by omega⟩ (fun c449 => absurd c449 (by decide)) (fun _ => ?_)
                          refine lp_ald_0 (pc := 452) dL_isFired_452 ?_
                          refine lq_invV (pc := 453) dL_isFired_453 mv_RL_76 sh_0 (av := []) (rest := []) (ku_undo hn I) rfl rfl (Nat.le_of_ble_eq_true rfl) (by decide) (by decide) ⟨Nat.le_refl _, Nat.le_refl _⟩ ?_
                          rintro _ m ⟨rfl, I⟩
                          refine lp_if_lt (pc := 456) 472 dL_isFired_456 rfl ⟨by omega, by omega⟩ (fun c456 => ?_) (fun c456 => ?_)
                          · skip
                            exfalso; omega
                          · skip
                            refine lp_ald_0 (pc := 459) dL_isFired_459 ?_
                            refine lq_invSL (pc := 460) dL_isFired_460 ms_RL_33 (av := [_]) (qL_print _ I) rfl rfl (Nat.le_of_ble_eq_true rfl) (by decide) (by decide) ⟨Nat.le_refl _, Nat.le_refl _⟩ ?_
                            rintro _ _ ⟨rfl, rfl⟩
                            refine lp_lld_n (pc := 463) (i := 2) dL_isFired_463 rfl (List.mem_singleton.mpr rfl) ?_
                            refine lp_lcmp (pc := 464) dL_isFired_464 rfl ?_
                            refine lp_if_ne (pc := 465) 472 dL_isFired_465 rfl ⟨by omega, by omega⟩ (fun c465 => absurd c465 (by decide)) (fun _ => ?_)
                            refine lp_const (pc := 468) dL_isFired_468 ?_
                            refine lp_goto (pc := 469) 473 dL_isFired_469 rfl ?_
                            exact lp_zreturn (pc := 473) dL_isFired_473 rfl (Or.inr rfl) rfl rfl rfl ⟨rfl, _, _, I⟩
                        · skip
                          have hz := (wR1.2.1.1 f (by omega) (by omega)).1
                          have hcr := (wR1.2.1.1 f (by omega) (by omega)).2
                          have hpf := pulR_bd wR1 (f := (f : Int)) (by omega) (by omega)
                          have hp6 := pulR_bd wR1 (f := 6) (by omega) (by omega)
                          have hib : 0 ≤ iab (pulR r1 f - pulR r1 6) ∧ iab (pulR r1 f - pulR r1 6) ≤ 1000 := by unfold iab; split <;> omega
                          have hS1 := wR1.2.2.1.2.2.1
                          refine lp_ild_12 (pc := 328) dL_isFired_328 ?_
                          refine lp_if_eq (pc := 330) 440 dL_isFired_330 rfl ⟨by omega, by omega⟩ (fun c330 => absurd c330 (by decide)) (fun _ => ?_)
                          refine lp_const (pc := 333) dL_isFired_333 ?_
                          refine lp_ist_20 (pc := 334) dL_isFired_334 (by decide) (by unfold lkO; simp) ?_
                          refine lp_const (pc := 336) dL_isFired_336 ?_
                          refine lp_ist_21 (pc := 337) dL_isFired_337 (by decide) (by unfold lkO; simp) ?_
                          refine LQ.bk (up_rec (szR r1 f) (fun l => LQ 7 (zN X) mL_isFired [(2, PR r)] [] [] 339 [some (.inr 0), some (.inl h), none, none, some (.inl (tU r h)), some (.inl (tB r h)), some (.inl (tD r h)), some (.inl (cntK r h 1 6)), some (.inl (cntM r h 1 6)), some (.inl (stN r 4 4)), some (.inl (crkN r)), some (.inl (layN r)), some (.inl 1), some (.inl (r 121)), some (.inl (r 122)), some (.inl (r 123)), some (.inl (r 124)), some (.inl (r 125)), some (.inl (r 117)), some (.inl (f : Int)), some (.inl (fiA r1 f l)), some (.inl (l : Int))] [] m (fun v m' => v = some 1 ∧ ∃ (n' : Int) (H' : Int → Int → Int), GI r n' H' m')) hz.1 (fun l hll ihl => ?_)) ⟨rfl, rfl, trivial, trivial, rfl, rfl, rfl, rfl, rfl, rfl, rfl, rfl, rfl, rfl, rfl, rfl, rfl, rfl, rfl, rfl, rfl, rfl, trivial⟩ rfl
                          refine lp_ild_21 (pc := 339) dL_isFired_339 ?_
                          refine lp_ald_0 (pc := 341) dL_isFired_341 ?_
                          refine lp_ild_19 (pc := 342) dL_isFired_342 ?_
                          refine lp_const (pc := 344) dL_isFired_344 ?_
                          refine lq_invV (pc := 345) dL_isFired_345 mv_RL_23 sh_0 (av := [_, _]) (rest := [_]) (k_field I ⟨by omega, by omega⟩ ⟨by omega, by omega⟩) rfl rfl (Nat.le_of_ble_eq_true rfl) (by decide) (by decide) ⟨Nat.le_refl _, Nat.le_refl _⟩ ?_
                          rintro _ _ ⟨rfl, rfl⟩
                          rw [vFD_0 (by omega) (by omega)]
                          refine lp_icmp_ge (pc := 348) 395 dL_isFired_348 rfl ⟨by omega, by omega⟩ ⟨by omega, by omega⟩ (fun c348 => ?_) (fun c348 => ?_)
                          · skip
                            have el : l = (szR r1 f).toNat := by omega
                            subst el
                            have hfi := fiA_01 r1 f (szR r1 f).toNat
                            have J427 : LQ 7 (zN X) mL_isFired [(2, PR r)] [] [] 427 [some (.inr 0), some (.inl h), none, none, some (.inl (tU r h)), some (.inl (tB r h)), some (.inl (tD r h)), some (.inl (cntK r h 1 6)), some (.inl (cntM r h 1 6)), some (.inl (stN r 4 4)), some (.inl (crkN r)), some (.inl (layN r)), some (.inl 1), some (.inl (r 121)), some (.inl (r 122)), some (.inl (r 123)), some (.inl (r 124)), some (.inl (r 125)), some (.inl (r 117)), some (.inl (f : Int)), some (.inl (fiA r1 f (szR r1 f).toNat)), some (.inl ((szR r1 f).toNat : Int))] [] m (fun v m' => v = some 1 ∧ ∃ (n' : Int) (H' : Int → Int → Int), GI r n' H' m') := by
                              skip
                              refine lp_const (pc := 427) dL_isFired_427 ?_
                              refine lp_goto (pc := 428) 432 dL_isFired_428 rfl ?_
                              refine lp_ist_12 (pc := 432) dL_isFired_432 (by decide) (by unfold lkO; simp) ?_
                              refine lp_iinc_19 (pc := 434) dL_isFired_434 (by decide) (by unfold lkO; simp) ?_
                              refine lp_goto (pc := 437) 321 dL_isFired_437 rfl ?_
                              exact (ihf c325).bk ⟨rfl, rfl, trivial, trivial, rfl, rfl, rfl, rfl, rfl, rfl, rfl, rfl, rfl, rfl, rfl, rfl, rfl, rfl, rfl, rfl, trivial, trivial, trivial⟩ rfl
                            refine lp_ald_0 (pc := 395) dL_isFired_395 ?_
                            refine lp_ild_19 (pc := 396) dL_isFired_396 ?_
                            refine lp_const (pc := 398) dL_isFired_398 ?_
                            refine lq_invV (pc := 399) dL_isFired_399 mv_RL_23 sh_0 (av := [_, _]) (rest := []) (k_field I ⟨by omega, by omega⟩ ⟨by omega, by omega⟩) rfl rfl (Nat.le_of_ble_eq_true rfl) (by decide) (by decide) ⟨Nat.le_refl _, Nat.le_refl _⟩ ?_
                            rintro _ _ ⟨rfl, rfl⟩
                            rw [vFD_3 (by omega) (by omega)]
                            refine lp_const (pc := 402) dL_isFired_402 ?_
                            refine lp_icmp_eq (pc := 403) 427 dL_isFired_403 rfl (Or.inr ⟨⟨by omega, by omega⟩, ⟨by omega, by omega⟩⟩) (fun c403 => ?_) (fun c403 => ?_)
                            · skip
                              exact J427
                            · skip
                              refine lp_ild_20 (pc := 406) dL_isFired_406 ?_
                              refine lp_if_eq (pc := 408) 427 dL_isFired_408 rfl ⟨by omega, by omega⟩ (fun c408 => ?_) (fun c408 => ?_)
                              · skip
                                exact J427
                              · skip
                                refine lp_ald_0 (pc := 411) dL_isFired_411 ?_
                                refine lp_ild_19 (pc := 412) dL_isFired_412 ?_
                                refine lp_const (pc := 414) dL_isFired_414 ?_
                                refine lq_invV (pc := 415) dL_isFired_415 mv_RL_23 sh_0 (av := [_, _]) (rest := []) (k_field I ⟨by omega, by omega⟩ ⟨by omega, by omega⟩) rfl rfl (Nat.le_of_ble_eq_true rfl) (by decide) (by decide) ⟨Nat.le_refl _, Nat.le_refl _⟩ ?_
                                rintro _ _ ⟨rfl, rfl⟩
                                rw [vFD_2 (by omega) (by omega)]
                                refine lp_ald_0 (pc := 418) dL_isFired_418 ?_
                                refine lp_bipush (pc := 419) dL_isFired_419 bp_10 ?_
                                refine lq_invV (pc := 421) dL_isFired_421 mv_RL_13 sh_0 (av := [_]) (rest := [_]) (k_count I ⟨by omega, by omega⟩) rfl rfl (Nat.le_of_ble_eq_true rfl) (by decide) (by decide) ⟨Nat.le_refl _, Nat.le_refl _⟩ ?_
                                rintro _ _ ⟨rfl, rfl⟩
                                rw [vCN_10]
                                refine lp_icmp_gt (pc := 424) 431 dL_isFired_424 rfl ⟨by omega, by omega⟩ ⟨by omega, by omega⟩ (fun c424 => ?_) (fun c424 => ?_)
                                · skip
                                  have := no_crack wR hx (f := (f : Int)) (by omega) (by omega) c403 (by omega); have := x1 116 (by omega); exfalso; omega
                                · skip
                                  exact J427
                          · skip
                            have hl : (l : Int) < szR r1 f := c348
                            have hst := (wR1.2.1.2 f l (by omega) (by omega) (by omega) hl).2.1
                            have hfi := fiA_01 r1 f l
                            refine lp_ild_20 (pc := 351) dL_isFired_351 ?_
                            refine lp_if_ne (pc := 353) 382 dL_isFired_353 rfl ⟨by omega, by omega⟩ (fun c353 => ?_) (fun c353 => ?_)
                            · skip
                              refine lp_const (pc := 382) dL_isFired_382 ?_
                              refine lp_goto (pc := 383) 387 dL_isFired_383 rfl ?_
                              refine lp_ist_20 (pc := 387) dL_isFired_387 (by decide) (by unfold lkO; simp) ?_
                              refine lp_iinc_21 (pc := 389) dL_isFired_389 (by decide) (by unfold lkO; simp) ?_
                              refine lp_goto (pc := 392) 339 dL_isFired_392 rfl ?_
                              exact (ihl hl).bk ⟨rfl, rfl, trivial, trivial, rfl, rfl, rfl, rfl, rfl, rfl, rfl, rfl, rfl, rfl, rfl, rfl, rfl, rfl, rfl, rfl, congrArg (fun z => some (Sum.inl z)) (by rw [fiA_s]; first | rw [if_pos (by unfold holds; omega)] | rw [if_neg (by unfold holds; omega)]), rfl, trivial⟩ rfl
                            · skip
                              refine lp_ald_0 (pc := 356) dL_isFired_356 ?_
                              refine lp_ild_19 (pc := 357) dL_isFired_357 ?_
                              refine lp_ild_21 (pc := 359) dL_isFired_359 ?_
                              refine lp_const (pc := 361) dL_isFired_361 ?_
                              refine lq_invV (pc := 362) dL_isFired_362 mv_RL_19 sh_0 (av := [_, _, _]) (rest := []) (k_layer I ⟨by omega, by omega⟩ ⟨by omega, by omega⟩ ⟨by omega, by omega⟩) rfl rfl (Nat.le_of_ble_eq_true rfl) (by decide) (by decide) ⟨Nat.le_refl _, Nat.le_refl _⟩ ?_
                              rintro _ _ ⟨rfl, rfl⟩
                              rw [vLY_1 (by omega) (by omega) (by omega) hl]
                              refine lp_const (pc := 365) dL_isFired_365 ?_
                              refine lp_icmp_eq (pc := 366) 382 dL_isFired_366 rfl (Or.inr ⟨⟨by omega, by omega⟩, ⟨by omega, by omega⟩⟩) (fun c366 => ?_) (fun c366 => ?_)
                              · skip
                                refine lp_const (pc := 382) dL_isFired_382 ?_
                                refine lp_goto (pc := 383) 387 dL_isFired_383 rfl ?_
                                refine lp_ist_20 (pc := 387) dL_isFired_387 (by decide) (by unfold lkO; simp) ?_
                                refine lp_iinc_21 (pc := 389) dL_isFired_389 (by decide) (by unfold lkO; simp) ?_
                                refine lp_goto (pc := 392) 339 dL_isFired_392 rfl ?_
                                exact (ihl hl).bk ⟨rfl, rfl, trivial, trivial, rfl, rfl, rfl, rfl, rfl, rfl, rfl, rfl, rfl, rfl, rfl, rfl, rfl, rfl, rfl, rfl, congrArg (fun z => some (Sum.inl z)) (by rw [fiA_s]; first | rw [if_pos (by unfold holds; omega)] | rw [if_neg (by unfold holds; omega)]), rfl, trivial⟩ rfl
                              · skip
                                refine lp_ald_0 (pc := 369) dL_isFired_369 ?_
                                refine lp_ild_19 (pc := 370) dL_isFired_370 ?_
                                refine lp_ild_21 (pc := 372) dL_isFired_372 ?_
                                refine lp_const (pc := 374) dL_isFired_374 ?_
                                refine lq_invV (pc := 375) dL_isFired_375 mv_RL_19 sh_0 (av := [_, _, _]) (rest := []) (k_layer I ⟨by omega, by omega⟩ ⟨by omega, by omega⟩ ⟨by omega, by omega⟩) rfl rfl (Nat.le_of_ble_eq_true rfl) (by decide) (by decide) ⟨Nat.le_refl _, Nat.le_refl _⟩ ?_
                                rintro _ _ ⟨rfl, rfl⟩
                                rw [vLY_1 (by omega) (by omega) (by omega) hl]
                                refine lp_const (pc := 378) dL_isFired_378 ?_
                                refine lp_icmp_ne (pc := 379) 386 dL_isFired_379 rfl (Or.inr ⟨⟨by omega, by omega⟩, ⟨by omega, by omega⟩⟩) (fun c379 => ?_) (fun c379 => ?_)
                                · skip
                                  refine lp_const (pc := 386) dL_isFired_386 ?_
                                  refine lp_ist_20 (pc := 387) dL_isFired_387 (by decide) (by unfold lkO; simp) ?_
                                  refine lp_iinc_21 (pc := 389) dL_isFired_389 (by decide) (by unfold lkO; simp) ?_
                                  refine lp_goto (pc := 392) 339 dL_isFired_392 rfl ?_
                                  exact (ihl hl).bk ⟨rfl, rfl, trivial, trivial, rfl, rfl, rfl, rfl, rfl, rfl, rfl, rfl, rfl, rfl, rfl, rfl, rfl, rfl, rfl, rfl, congrArg (fun z => some (Sum.inl z)) (by rw [fiA_s]; first | rw [if_pos (by unfold holds; omega)] | rw [if_neg (by unfold holds; omega)]), rfl, trivial⟩ rfl
                                · skip
                                  refine lp_const (pc := 382) dL_isFired_382 ?_
                                  refine lp_goto (pc := 383) 387 dL_isFired_383 rfl ?_
                                  refine lp_ist_20 (pc := 387) dL_isFired_387 (by decide) (by unfold lkO; simp) ?_
                                  refine lp_iinc_21 (pc := 389) dL_isFired_389 (by decide) (by unfold lkO; simp) ?_
                                  refine lp_goto (pc := 392) 339 dL_isFired_392 rfl ?_
                                  exact (ihl hl).bk ⟨rfl, rfl, trivial, trivial, rfl, rfl, rfl, rfl, rfl, rfl, rfl, rfl, rfl, rfl, rfl, rfl, rfl, rfl, rfl, rfl, congrArg (fun z => some (Sum.inl z)) (by rw [fiA_s]; first | rw [if_pos (by unfold holds; omega)] | rw [if_neg (by unfold holds; omega)]), rfl, trivial⟩ rfl
  · skip
    refine lp_ild_12 (pc := 96) dL_isFired_96 ?_
    refine lp_if_eq (pc := 98) 116 dL_isFired_98 rfl ⟨by omega, by omega⟩ (fun c98 => absurd c98 (by decide)) (fun _ => ?_)
    refine lp_ald_0 (pc := 101) dL_isFired_101 ?_
    refine lp_ild_1 (pc := 102) dL_isFired_102 ?_
    refine lp_const (pc := 103) dL_isFired_103 ?_
    refine lq_invV (pc := 104) dL_isFired_104 mv_RL_51 sh_0 (av := [_, _]) (rest := []) (kr_fireL I ⟨by omega, by omega⟩ ⟨by omega, by omega⟩ (by omega) (by omega)) rfl rfl (Nat.le_of_ble_eq_true rfl) (by decide) (by decide) ⟨Nat.le_refl _, Nat.le_refl _⟩ ?_
    rintro _ _ ⟨rfl, rfl⟩
    refine lp_bipush (pc := 107) dL_isFired_107 bp_m3 ?_
    refine lp_icmp_ne (pc := 109) 116 dL_isFired_109 rfl (Or.inr ⟨⟨by omega, by omega⟩, ⟨by omega, by omega⟩⟩) (fun c109 => absurd c109 (by decide)) (fun _ => ?_)
    refine lp_const (pc := 112) dL_isFired_112 ?_
    refine lp_goto (pc := 113) 117 dL_isFired_113 rfl ?_
    exact lp_zreturn (pc := 117) dL_isFired_117 rfl (Or.inr rfl) rfl rfl rfl ⟨rfl, _, _, I⟩

