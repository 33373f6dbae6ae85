
theorem f6 {f : Int} (h0 : 0 ≤ f) (h1 : f < 6) : f = 0 ∨ f = 1 ∨ f = 2 ∨ f = 3 ∨ f = 4 ∨ f = 5 := by omega
theorem dg_v (s : Int) : dg s 0 = s % 4 ∧ dg s 1 = s / 4 % 4 ∧ dg s 2 = s / 16 % 4 ∧ dg s 3 = s / 64 % 4 ∧ dg s 4 = s / 256 % 4 ∧ dg s 5 = s / 1024 % 4 := by
  refine ⟨?_, rfl, rfl, rfl, rfl, rfl⟩
  show s / 1 % 4 = s % 4
  rw [Int.ediv_one]
theorem bt_v (s : Int) : bt s 0 = s % 2 ∧ bt s 1 = s / 2 % 2 ∧ bt s 2 = s / 4 % 2 ∧ bt s 3 = s / 8 % 2 ∧ bt s 4 = s / 16 % 2 ∧ bt s 5 = s / 32 % 2 := by
  refine ⟨?_, rfl, rfl, rfl, rfl, rfl⟩
  show s / 1 % 2 = s % 2
  rw [Int.ediv_one]
theorem dg_bd (s f : Int) : 0 ≤ dg s f ∧ dg s f ≤ 3 := by
  unfold dg
  generalize s / p4 f = q
  omega
theorem bt_bd (s f : Int) : bt s f = 0 ∨ bt s f = 1 := by
  unfold bt
  generalize s / p2 f = q
  omega
theorem dg_sum {s : Int} (h0 : 0 ≤ s) (h1 : s < 4096) : s = dg s 0 + 4 * dg s 1 + 16 * dg s 2 + 64 * dg s 3 + 256 * dg s 4 + 1024 * dg s 5 := by
  obtain ⟨a, b, c, d, e, f⟩ := dg_v s
  rw [a, b, c, d, e, f]; omega
theorem bt_sum {s : Int} (h0 : 0 ≤ s) (h1 : s < 64) : s = bt s 0 + 2 * bt s 1 + 4 * bt s 2 + 8 * bt s 3 + 16 * bt s 4 + 32 * bt s 5 := by
  obtain ⟨a, b, c, d, e, f⟩ := bt_v s
  rw [a, b, c, d, e, f]; omega
theorem dg_of {a b c d e f : Int} (ha : 0 ≤ a ∧ a ≤ 3) (hb : 0 ≤ b ∧ b ≤ 3) (hc : 0 ≤ c ∧ c ≤ 3) (hd : 0 ≤ d ∧ d ≤ 3) (he : 0 ≤ e ∧ e ≤ 3) (hf : 0 ≤ f ∧ f ≤ 3) {s : Int} (hs : s = a + 4 * b + 16 * c + 64 * d + 256 * e + 1024 * f) : dg s 0 = a ∧ dg s 1 = b ∧ dg s 2 = c ∧ dg s 3 = d ∧ dg s 4 = e ∧ dg s 5 = f := by
  obtain ⟨h0, h1, h2, h3, h4, h5⟩ := dg_v s
  rw [h0, h1, h2, h3, h4, h5]
  refine ⟨by omega, by omega, by omega, by omega, by omega, by omega⟩
theorem stp_add {s x : Int} (h0 : 0 ≤ s) (h1 : s < 4096) (h : ∀ f : Int, 0 ≤ f → f < 6 → bt x f = 1 → dg s f < 3) : (0 ≤ s + stp x ∧ s + stp x < 4096) ∧ ∀ f : Int, 0 ≤ f → f < 6 → dg (s + stp x) f = dg s f + bt x f := by
  have hb : ∀ f : Int, 0 ≤ f → f < 6 → 0 ≤ dg s f + bt x f ∧ dg s f + bt x f ≤ 3 := fun f a b => by
    have h2 := dg_bd s f
    rcases bt_bd x f with z | z
    · omega
    · have := h f a b z; omega
  have e := dg_sum h0 h1
  have e2 : s + stp x = (dg s 0 + bt x 0) + 4 * (dg s 1 + bt x 1) + 16 * (dg s 2 + bt x 2) + 64 * (dg s 3 + bt x 3) + 256 * (dg s 4 + bt x 4) + 1024 * (dg s 5 + bt x 5) := by
    unfold stp; omega
  have b0 := hb 0 (by omega) (by omega)
  have b1 := hb 1 (by omega) (by omega)
  have b2 := hb 2 (by omega) (by omega)
  have b3 := hb 3 (by omega) (by omega)
  have b4 := hb 4 (by omega) (by omega)
  have b5 := hb 5 (by omega) (by omega)
  have q := dg_of b0 b1 b2 b3 b4 b5 e2
  refine ⟨by rw [e2]; omega, fun f a b => ?_⟩
  rcases f6 a b with rfl | rfl | rfl | rfl | rfl | rfl
  · exact q.1
  · exact q.2.1
  · exact q.2.2.1
  · exact q.2.2.2.1
  · exact q.2.2.2.2.1
  · exact q.2.2.2.2.2
theorem bt_some {x : Int} (h0 : 1 ≤ x) (h1 : x < 64) : 1 ≤ bt x 0 + bt x 1 + bt x 2 + bt x 3 + bt x 4 + bt x 5 := by
  have e := bt_sum (s := x) (by omega) h1
  have := bt_bd x 0
  have := bt_bd x 1
  have := bt_bd x 2
  have := bt_bd x 3
  have := bt_bd x 4
  have := bt_bd x 5
  omega
theorem stp_pos {x : Int} (h0 : 1 ≤ x) (h1 : x < 64) : 1 ≤ stp x := by
  have e := bt_some h0 h1
  have := bt_bd x 0
  have := bt_bd x 1
  have := bt_bd x 2
  have := bt_bd x 3
  have := bt_bd x 4
  have := bt_bd x 5
  unfold stp; omega
/-! what is wished, and at what heats it melts and burns -/
def wW (r : Int → Int) (f : Int) : Int := if 0 ≤ f ∧ f < 6 then r (126 + 4 * f) else 0
def wM (r : Int → Int) (f k : Int) : Int := if (0 ≤ f ∧ f < 6) ∧ 0 ≤ k ∧ k < r (126 + 4 * f) then meR r (r (126 + 4 * f + 1 + k)) else 0
def wB (r : Int → Int) (f k : Int) : Int := if (0 ≤ f ∧ f < 6) ∧ 0 ≤ k ∧ k < r (126 + 4 * f) then buR r (r (126 + 4 * f + 1 + k)) else 0
def wOK (W : Int → Int) (M B : Int → Int → Int) : Prop := ∀ f : Int, 0 ≤ f → f < 6 → (0 ≤ W f ∧ W f ≤ 3) ∧ ∀ k : Int, 0 ≤ k → k < W f → (600 ≤ M f k ∧ M f k ≤ 900) ∧ (610 ≤ B f k ∧ B f k ≤ 1100)
theorem wOK_of {r : Int → Int} (w : wfR r) : wOK (wW r) (wM r) (wB r) := by
  intro f a b
  have h := w.2.2.2 f a b
  have e : wW r f = r (126 + 4 * f) := if_pos ⟨a, b⟩
  rw [e]
  refine ⟨h.1, fun k x y => ?_⟩
  have h2 := h.2 k x y
  have h3 := w.1.2 _ h2.1 h2.2
  have e1 : wM r f k = meR r (r (126 + 4 * f + 1 + k)) := if_pos ⟨⟨a, b⟩, x, y⟩
  have e2 : wB r f k = buR r (r (126 + 4 * f + 1 + k)) := if_pos ⟨⟨a, b⟩, x, y⟩
  rw [e1, e2]; omega
theorem wX_eq {r r' : Int → Int} (w : wfR r) (h : ∀ j : Int, 126 ≤ j → j < 150 → r' j = r j) (hc : ∀ c : Int, 0 ≤ c → c < r 0 → meR r' c = meR r c ∧ buR r' c = buR r c) : wW r' = wW r ∧ wM r' = wM r ∧ wB r' = wB r := by
  have key : ∀ f k : Int, ((0 ≤ f ∧ f < 6) ∧ 0 ≤ k ∧ k < r (126 + 4 * f)) → r' (126 + 4 * f + 1 + k) = r (126 + 4 * f + 1 + k) ∧ 0 ≤ r (126 + 4 * f + 1 + k) ∧ r (126 + 4 * f + 1 + k) < r 0 := fun f k q => by
    have h1 := w.2.2.2 f q.1.1 q.1.2
    exact ⟨h _ (by omega) (by omega), h1.2 k q.2.1 q.2.2⟩
  refine ⟨funext fun f => ?_, funext fun f => funext fun k => ?_, funext fun f => funext fun k => ?_⟩
  · unfold wW
    by_cases e : 0 ≤ f ∧ f < 6
    · rw [if_pos e, if_pos e]; exact h _ (by omega) (by omega)
    · rw [if_neg e, if_neg e]
  · unfold wM
    by_cases e0 : 0 ≤ f ∧ f < 6
    · rw [h (126 + 4 * f) (by omega) (by omega)]
      by_cases e : (0 ≤ f ∧ f < 6) ∧ 0 ≤ k ∧ k < r (126 + 4 * f)
      · have q := key f k e
        rw [if_pos e, if_pos e, q.1]; exact (hc _ q.2.1 q.2.2).1
      · rw [if_neg e, if_neg e]
    · rw [if_neg (fun z => e0 z.1), if_neg (fun z => e0 z.1)]
  · unfold wB
    by_cases e0 : 0 ≤ f ∧ f < 6
    · rw [h (126 + 4 * f) (by omega) (by omega)]
      by_cases e : (0 ≤ f ∧ f < 6) ∧ 0 ≤ k ∧ k < r (126 + 4 * f)
      · have q := key f k e
        rw [if_pos e, if_pos e, q.1]; exact (hc _ q.2.1 q.2.2).2
      · rw [if_neg e, if_neg e]
    · rw [if_neg (fun z => e0 z.1), if_neg (fun z => e0 z.1)]
def valS (W : Int → Int) (s : Int) : Prop := ∀ f : Int, 0 ≤ f → f < 6 → dg s f ≤ W f
def fulS (W : Int → Int) (s : Int) : Prop := ∀ f : Int, 0 ≤ f → f < 6 → dg s f = W f
def capG (B : Int → Int → Int) (s f h : Int) : Int := accL (fun k h => min h (B f k)) h (dg s f).toNat
def capS (B : Int → Int → Int) (s : Int) : Int := accL (fun f h => capG B s f h) 1200 6
def opS (W : Int → Int) (s x : Int) : Prop := ∀ f : Int, 0 ≤ f → f < 6 → bt x f = 1 → dg s f < W f
def melG (M : Int → Int → Int) (s x : Int) : Int → Int → Int := fun f h => if bt x f = 1 then max h (M f (dg s f)) else h
def burG (B : Int → Int → Int) (s x : Int) : Int → Int → Int := fun f h => if bt x f = 1 then min h (B f (dg s f)) else h
def melS (M : Int → Int → Int) (s x : Int) : Int := accL (melG M s x) 0 6
def burS (B : Int → Int → Int) (c s x : Int) : Int := accL (burG B s x) c 6
def okS (W : Int → Int) (M B : Int → Int → Int) (s x : Int) : Prop := opS W s x ∧ melS M s x ≤ burS B (capS B s) s x
def isSet (x : Int) : Prop := 1 ≤ x ∧ x < 64
def isLF (W : Int → Int) (M B : Int → Int → Int) (L : Int → Int) : Prop := ∀ s : Int, 0 ≤ s → s < 4096 → (¬ valS W s → L s = -1) ∧ (fulS W s → L s = 0) ∧ (valS W s → ¬ fulS W s → (L s = -1 ∧ ∀ x : Int, isSet x → okS W M B s x → L (s + stp x) < 0) ∨ (∃ x : Int, isSet x ∧ okS W M B s x ∧ 0 ≤ L (s + stp x) ∧ L s = L (s + stp x) + 1 ∧ ∀ y : Int, isSet y → okS W M B s y → 0 ≤ L (s + stp y) → L s ≤ L (s + stp y) + 1))
def isFF1 (W : Int → Int) (M B : Int → Int → Int) (F : Int → Int) (s : Int) : Prop := (¬ valS W s → F s = 19) ∧ (fulS W s → F s = 0) ∧ (valS W s → ¬ fulS W s → (F s = 19 ∧ ∀ x : Int, isSet x → okS W M B s x → 19 ≤ F (s + stp x)) ∨ (∃ x : Int, isSet x ∧ okS W M B s x ∧ F (s + stp x) < 19 ∧ F s = F (s + stp x) + 1 ∧ ∀ y : Int, isSet y → okS W M B s y → F s ≤ F (s + stp y) + 1))
def lastS (W : Int → Int) : Int := W 0 + 4 * W 1 + 16 * W 2 + 64 * W 3 + 256 * W 4 + 1024 * W 5
def isFF (W : Int → Int) (M B : Int → Int → Int) (F : Int → Int) : Prop := ∀ s : Int, 0 ≤ s → s ≤ lastS W → isFF1 W M B F s
theorem ful_val {W : Int → Int} {s : Int} (h : fulS W s) : valS W s := fun f a b => by rw [h f a b]; exact Int.le_refl _
theorem last_bd {W : Int → Int} {M B : Int → Int → Int} (w : wOK W M B) : (0 ≤ lastS W ∧ lastS W < 4096) ∧ fulS W (lastS W) := by
  have b0 := (w 0 (by omega) (by omega)).1
  have b1 := (w 1 (by omega) (by omega)).1
  have b2 := (w 2 (by omega) (by omega)).1
  have b3 := (w 3 (by omega) (by omega)).1
  have b4 := (w 4 (by omega) (by omega)).1
  have b5 := (w 5 (by omega) (by omega)).1
  have q := dg_of b0 b1 b2 b3 b4 b5 (rfl : lastS W = _)
  refine ⟨by unfold lastS; omega, fun f a b => ?_⟩
  rcases f6 a b with rfl | rfl | rfl | rfl | rfl | rfl
  · exact q.1
  · exact q.2.1
  · exact q.2.2.1
  · exact q.2.2.2.1
  · exact q.2.2.2.2.1
  · exact q.2.2.2.2.2
theorem val_last {W : Int → Int} {s : Int} (h0 : 0 ≤ s) (h1 : s < 4096) (v : valS W s) : s ≤ lastS W := by
  have e := dg_sum h0 h1
  have b0 := v 0 (by omega) (by omega)
  have b1 := v 1 (by omega) (by omega)
  have b2 := v 2 (by omega) (by omega)
  have b3 := v 3 (by omega) (by omega)
  have b4 := v 4 (by omega) (by omega)
  have b5 := v 5 (by omega) (by omega)
  unfold lastS; omega
theorem ful_last {W : Int → Int} {s : Int} (h0 : 0 ≤ s) (h1 : s < 4096) (v : fulS W s) : s = lastS W := by
  have e := dg_sum h0 h1
  have b0 := v 0 (by omega) (by omega)
  have b1 := v 1 (by omega) (by omega)
  have b2 := v 2 (by omega) (by omega)
  have b3 := v 3 (by omega) (by omega)
  have b4 := v 4 (by omega) (by omega)
  have b5 := v 5 (by omega) (by omega)
  unfold lastS; omega
theorem op_next {W : Int → Int} {M B : Int → Int → Int} (w : wOK W M B) {s x : Int} (h0 : 0 ≤ s) (h1 : s < 4096) (v : valS W s) (o : opS W s x) : (0 ≤ s + stp x ∧ s + stp x < 4096) ∧ (∀ f : Int, 0 ≤ f → f < 6 → dg (s + stp x) f = dg s f + bt x f) ∧ valS W (s + stp x) := by
  have q := stp_add h0 h1 (x := x) (fun f a b z => by
    have := o f a b z
    have := (w f a b).1
    omega)
  refine ⟨q.1, q.2, fun f a b => ?_⟩
  rw [q.2 f a b]
  rcases bt_bd x f with z | z
  · have := v f a b; omega
  · have := o f a b z; omega
def remS (W : Int → Int) (s : Int) : Int := (W 0 - dg s 0) + (W 1 - dg s 1) + (W 2 - dg s 2) + (W 3 - dg s 3) + (W 4 - dg s 4) + (W 5 - dg s 5)
theorem rem_bd {W : Int → Int} {M B : Int → Int → Int} (w : wOK W M B) {s : Int} (v : valS W s) : 0 ≤ remS W s ∧ remS W s ≤ 18 := by
  have h : ∀ f : Int, 0 ≤ f → f < 6 → 0 ≤ W f - dg s f ∧ W f - dg s f ≤ 3 := fun f a b => by
    have := v f a b
    have := dg_bd s f
    have := (w f a b).1
    omega
  have b0 := h 0 (by omega) (by omega)
  have b1 := h 1 (by omega) (by omega)
  have b2 := h 2 (by omega) (by omega)
  have b3 := h 3 (by omega) (by omega)
  have b4 := h 4 (by omega) (by omega)
  have b5 := h 5 (by omega) (by omega)
  unfold remS; omega
theorem rem_next {W : Int → Int} {M B : Int → Int → Int} (w : wOK W M B) {s x : Int} (h0 : 0 ≤ s) (h1 : s < 4096) (v : valS W s) (o : opS W s x) (hx : isSet x) : remS W (s + stp x) + 1 ≤ remS W s := by
  have q := (op_next w h0 h1 v o).2.1
  have e0 := q 0 (by omega) (by omega)
  have e1 := q 1 (by omega) (by omega)
  have e2 := q 2 (by omega) (by omega)
  have e3 := q 3 (by omega) (by omega)
  have e4 := q 4 (by omega) (by omega)
  have e5 := q 5 (by omega) (by omega)
  have := bt_some hx.1 hx.2
  unfold remS; omega
/-- both tables say the same -/
theorem LF_FF {W : Int → Int} {M B : Int → Int → Int} (w : wOK W M B) {L F : Int → Int} (hL : isLF W M B L) (hF : isFF W M B F) (n : Nat) : ∀ s : Int, 0 ≤ s → s < 4096 → valS W s → 4096 - s ≤ n → (L s < 0 → L s = -1 ∧ F s = 19) ∧ (0 ≤ L s → F s = L s ∧ L s ≤ remS W s) := by
  induction n with
  | zero => intro s h0 h1 v hn; omega
  | succ n ih =>
    intro s h0 h1 v hn
    have l := hL s h0 h1
    have f := hF s h0 (val_last h0 h1 v)
    have rb := rem_bd w v
    by_cases fu : fulS W s
    · have e1 := l.2.1 fu
      have e2 := f.2.1 fu
      rw [e1, e2]; omega
    · have nx : ∀ x : Int, isSet x → okS W M B s x → (L (s + stp x) < 0 → L (s + stp x) = -1 ∧ F (s + stp x) = 19) ∧ (0 ≤ L (s + stp x) → F (s + stp x) = L (s + stp x) ∧ L (s + stp x) ≤ remS W s - 1) := fun x hx ok => by
        have q := op_next w h0 h1 v ok.1
        have sp := stp_pos hx.1 hx.2
        have i := ih (s + stp x) q.1.1 q.1.2 q.2.2 (by omega)
        have rn := rem_next w h0 h1 v ok.1 hx
        exact ⟨i.1, fun z => ⟨(i.2 z).1, by have := (i.2 z).2; omega⟩⟩
      rcases l.2.2 v fu with ⟨a1, a2⟩ | ⟨x, hx, ok, b1, b2, b3⟩
      · refine ⟨fun _ => ⟨a1, ?_⟩, fun z => by omega⟩
        rcases f.2.2 v fu with c | ⟨y, hy, oky, d1, d2, d3⟩
        · exact c.1
        · have := ((nx y hy oky).1 (a2 y hy oky)).2
          omega
      · have nn := (nx x hx ok).2 b1
        refine ⟨fun z => by omega, fun z => ?_⟩
        rcases f.2.2 v fu with ⟨c1, c2⟩ | ⟨y, hy, oky, d1, d2, d3⟩
        · have := c2 x hx ok
          omega
        · have ny := nx y hy oky
          have d4 := d3 x hx ok
          by_cases ly : 0 ≤ L (s + stp y)
          · have := ny.2 ly
            have := b3 y hy oky ly
            omega
          · have := ny.1 (by omega)
            omega
theorem LF_eq {W : Int → Int} {M B : Int → Int → Int} (w : wOK W M B) {L F : Int → Int} (hL : isLF W M B L) (hF : isFF W M B F) {s : Int} (h0 : 0 ≤ s) (h1 : s < 4096) (v : valS W s) : (L s < 0 → L s = -1 ∧ F s = 19) ∧ (0 ≤ L s → F s = L s ∧ L s ≤ 18) := by
  have q := LF_FF w hL hF 4096 s h0 h1 v (by omega)
  have := rem_bd w v
  exact ⟨q.1, fun z => ⟨(q.2 z).1, by have := (q.2 z).2; omega⟩⟩
/-- the set of the next firing -/
def isNx (W : Int → Int) (M B : Int → Int → Int) (L : Int → Int) (s x : Int) : Prop := isSet x ∧ okS W M B s x ∧ L (s + stp x) = L s - 1 ∧ ∀ y : Int, isSet y → okS W M B s y → L (s + stp y) = L s - 1 → x ≤ y
theorem nx_one {W : Int → Int} {M B : Int → Int → Int} {L : Int → Int} {s x y : Int} (hx : isNx W M B L s x) (hy : isNx W M B L s y) : x = y := by
  have a := hx.2.2.2 y hy.1 hy.2.1 hy.2.2.1
  have b := hy.2.2.2 x hx.1 hx.2.1 hx.2.2.1
  omega
/-- a plan's way: the stages, the sets, the heats -/
def isWay (W : Int → Int) (M B : Int → Int → Int) (L : Int → Int) (n : Int) (S X T : Int → Int) : Prop := S 0 = 0 ∧ ∀ k : Int, 0 ≤ k → k < n → isNx W M B L (S k) (X k) ∧ S (k + 1) = S k + stp (X k) ∧ T k = melS M (S k) (X k)
theorem way_one {W : Int → Int} {M B : Int → Int → Int} {L : Int → Int} {n n' : Int} {S X T S' X' T' : Int → Int} (h : isWay W M B L n S X T) (h' : isWay W M B L n' S' X' T') (k : Nat) (hk : (k : Int) < n) (hk' : (k : Int) < n') : S k = S' k ∧ X k = X' k ∧ T k = T' k := by
  have key : ∀ k : Nat, (k : Int) ≤ n → (k : Int) ≤ n' → S k = S' k := by
    intro k
    induction k with
    | zero => intro _ _; exact h.1.trans h'.1.symm
    | succ k ih =>
      intro a b
      have e := ih (by omega) (by omega)
      have q := h.2 k (by omega) (by omega)
      have q' := h'.2 k (by omega) (by omega)
      rw [e] at q
      have ex := nx_one q.1 q'.1
      have c : ((k + 1 : Nat) : Int) = (k : Int) + 1 := by omega
      rw [c, q.2.1, q'.2.1, ex]
  have e := key k (by omega) (by omega)
  have q := h.2 k (by omega) hk
  have q' := h'.2 k (by omega) hk'
  rw [e] at q
  have ex := nx_one q.1 q'.1
  exact ⟨e, ex, by rw [q.2.2, q'.2.2, ex]⟩
/-! melting and burning of a set out of its parts -/
theorem mel_split (M : Int → Int → Int) {s x a b : Int} (h : ∀ f : Nat, f < 6 → bt x f = bt a f + bt b f) (n : Nat) (hn : n ≤ 6) : accL (melG M s x) 0 n = max (accL (melG M s a) 0 n) (accL (melG M s b) 0 n) := by
  induction n with
  | zero => rfl
  | succ n ih =>
    have e := ih (by omega)
    have hb := h n (by omega)
    rw [accL_succ, accL_succ, accL_succ, e]
    simp only [melG]
    rcases bt_bd a n with za | za <;> rcases bt_bd b n with zb | zb
    · rw [if_neg (by omega), if_neg (by omega), if_neg (by omega)]
    · rw [if_pos (by omega), if_neg (by omega), if_pos zb]; omega
    · rw [if_pos (by omega), if_pos za, if_neg (by omega)]; omega
    · have := bt_bd x n; omega
theorem bur_split (B : Int → Int → Int) {c s x a b : Int} (h : ∀ f : Nat, f < 6 → bt x f = bt a f + bt b f) (n : Nat) (hn : n ≤ 6) : accL (burG B s x) c n = min (accL (burG B s a) c n) (accL (burG B s b) c n) := by
  induction n with
  | zero => show c = min c c; omega
  | succ n ih =>
    have e := ih (by omega)
    have hb := h n (by omega)
    rw [accL_succ, accL_succ, accL_succ, e]
    simp only [burG]
    rcases bt_bd a n with za | za <;> rcases bt_bd b n with zb | zb
    · rw [if_neg (by omega), if_neg (by omega), if_neg (by omega)]
    · rw [if_pos (by omega), if_neg (by omega), if_pos zb]; omega
    · rw [if_pos (by omega), if_pos za, if_neg (by omega)]; omega
    · have := bt_bd x n; omega
theorem mel_p2 (M : Int → Int → Int) (s : Int) {f : Nat} (hf : f < 6) : melS M s (p2 f) = max 0 (M f (dg s f)) := by
  have key : ∀ n : Nat, n ≤ 6 → accL (melG M s (p2 f)) 0 n = if f < n then max 0 (M f (dg s f)) else 0 := by
    intro n
    induction n with
    | zero => intro _; rfl
    | succ n ih =>
      intro hn
      have e := ih (by omega)
      have hb := b_p2 f hf n (by omega)
      rw [accL_succ, e]
      simp only [melG]
      by_cases z : n = f
      · subst z; rw [if_pos rfl] at hb; rw [if_pos hb, if_neg (by omega), if_pos (by omega)]
      · rw [if_neg z] at hb; rw [if_neg (by omega)]
        by_cases z2 : f < n
        · rw [if_pos z2, if_pos (by omega)]
        · rw [if_neg z2, if_neg (by omega)]
  have := key 6 (by omega)
  rw [if_pos hf] at this; exact this
theorem bur_p2 (B : Int → Int → Int) (c s : Int) {f : Nat} (hf : f < 6) : burS B c s (p2 f) = min c (B f (dg s f)) := by
  have key : ∀ n : Nat, n ≤ 6 → accL (burG B s (p2 f)) c n = if f < n then min c (B f (dg s f)) else c := by
    intro n
    induction n with
    | zero => intro _; rfl
    | succ n ih =>
      intro hn
      have e := ih (by omega)
      have hb := b_p2 f hf n (by omega)
      rw [accL_succ, e]
      simp only [burG]
      by_cases z : n = f
      · subst z; rw [if_pos rfl] at hb; rw [if_pos hb, if_neg (by omega), if_pos (by omega)]
      · rw [if_neg z] at hb; rw [if_neg (by omega)]
        by_cases z2 : f < n
        · rw [if_pos z2, if_pos (by omega)]
        · rw [if_neg z2, if_neg (by omega)]
  have := key 6 (by omega)
  rw [if_pos hf] at this; exact this
theorem bt_0 (f : Int) : bt 0 f = 0 := by unfold bt; rw [Int.zero_ediv]; rfl
theorem mel_0 (M : Int → Int → Int) (s : Int) : melS M s 0 = 0 := by
  have key : ∀ n : Nat, accL (melG M s 0) 0 n = 0 := by
    intro n; induction n with
    | zero => rfl
    | succ n ih => rw [accL_succ, ih]; simp only [melG]; rw [if_neg (by rw [bt_0]; omega)]
  exact key 6
theorem bur_0 (B : Int → Int → Int) (c s : Int) : burS B c s 0 = c := by
  have key : ∀ n : Nat, accL (burG B s 0) c n = c := by
    intro n; induction n with
    | zero => rfl
    | succ n ih => rw [accL_succ, ih]; simp only [burG]; rw [if_neg (by rw [bt_0]; omega)]
  exact key 6
theorem cap_bd {W : Int → Int} {M B : Int → Int → Int} (w : wOK W M B) {s : Int} (v : valS W s) {f : Int} (f0 : 0 ≤ f) (f6 : f < 6) {h : Int} (hh : 0 ≤ h ∧ h ≤ 1200) (n : Nat) (hn : (n : Int) ≤ dg s f) : 0 ≤ accL (fun k h => min h (B f k)) h n ∧ accL (fun k h => min h (B f k)) h n ≤ 1200 := by
  induction n with
  | zero => exact hh
  | succ n ih =>
    have e := ih (by omega)
    have h2 := v f f0 f6
    have h3 := ((w f f0 f6).2 n (by omega) (by omega)).2
    rw [accL_succ]; omega
theorem cap_bd2 {W : Int → Int} {M B : Int → Int → Int} (w : wOK W M B) {s : Int} (v : valS W s) (n : Nat) (hn : n ≤ 6) : 0 ≤ accL (fun f h => capG B s f h) 1200 n ∧ accL (fun f h => capG B s f h) 1200 n ≤ 1200 := by
  induction n with
  | zero => show (0 : Int) ≤ 1200 ∧ (1200 : Int) ≤ 1200; omega
  | succ n ih =>
    have e := ih (by omega)
    have h2 := dg_bd s n
    rw [accL_succ]
    exact cap_bd w v (by omega) (by omega) e _ (by omega)
theorem mel_bd {W : Int → Int} {M B : Int → Int → Int} (w : wOK W M B) {s x : Int} (n : Nat) (hn : n ≤ 6) (o : ∀ f : Int, 0 ≤ f → f < n → bt x f = 1 → dg s f < W f) : 0 ≤ accL (melG M s x) 0 n ∧ accL (melG M s x) 0 n ≤ 900 := by
  induction n with
  | zero => show (0 : Int) ≤ 0 ∧ (0 : Int) ≤ 900; omega
  | succ n ih =>
    have e := ih (by omega) (fun f a b z => o f a (by omega) z)
    rw [accL_succ]; simp only [melG]
    split
    · have h2 := o n (by omega) (by omega) (by assumption)
      have h3 := ((w n (by omega) (by omega)).2 (dg s n) (dg_bd s n).1 h2).1
      omega
    · exact e
theorem bur_bd {W : Int → Int} {M B : Int → Int → Int} (w : wOK W M B) {c s x : Int} (hc : 0 ≤ c ∧ c ≤ 1200) (n : Nat) (hn : n ≤ 6) (o : ∀ f : Int, 0 ≤ f → f < n → bt x f = 1 → dg s f < W f) : 0 ≤ accL (burG B s x) c n ∧ accL (burG B s x) c n ≤ 1200 := by
  induction n with
  | zero => exact hc
  | succ n ih =>
    have e := ih (by omega) (fun f a b z => o f a (by omega) z)
    rw [accL_succ]; simp only [burG]
    split
    · have h2 := o n (by omega) (by omega) (by assumption)
      have h3 := ((w n (by omega) (by omega)).2 (dg s n) (dg_bd s n).1 h2).2
      omega
    · exact e

