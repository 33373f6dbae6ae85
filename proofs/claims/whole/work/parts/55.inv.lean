
/-! what holds between two calls: the row, the class's cells, the history, the text, the plan -/
def Hm (m : AM) : Int → Int → Int := fun k j => m 102 (150 * k + j)
def IH (m : AM) : Prop := (0 ≤ m 100 3 ∧ m 100 3 ≤ 4) ∧ HC (m 100 3) (Hm m) m ∧ ∀ k : Int, 0 ≤ k → k < m 100 3 → wfR (Hm m k)
def IT (m : AM) : Prop := (0 ≤ m 98 1 ∧ m 98 1 ≤ 80) ∧ m 100 5 = m 98 1 ∧ ∀ j : Int, 0 ≤ j → j < m 98 1 → m 99 j = m 104 j ∧ 32 ≤ m 104 j ∧ m 104 j ≤ 126
def IP (m : AM) : Prop := (∀ x : Int, 0 ≤ x → x < 64 → m 93 x = stp x) ∧ (m 0 6 = 0 ∨ m 0 6 = 1) ∧ (m 0 6 = 0 → ∃ F : Int → Int, planF (wW (m 101)) (wM (m 101)) (wB (m 101)) F m)
def IN (m : AM) : Prop := (wfR (m 101) ∧ agB 1 (m 101) m) ∧ IH m ∧ IT m ∧ IP m
theorem planF_frame {W : Int → Int} {M B : Int → Int → Int} {F : Int → Int} {m m' : AM} (h : ∀ (k : Nat) (j : Int), 91 ≤ k → k < 98 → m' k j = m k j) (p : planF W M B F m) : planF W M B F m' := by
  have e6 : m' 96 = m 96 := funext fun j => h 96 j (by omega) (by omega)
  have e7 : m' 97 = m 97 := funext fun j => h 97 j (by omega) (by omega)
  unfold planF at p ⊢
  rw [h 91 7 (by omega) (by omega), h 91 6 (by omega) (by omega), e6, e7]
  exact p
theorem HC_eqH {n : Int} {H H' : Int → Int → Int} {m : AM} (hw : ∀ k : Int, 0 ≤ k → k < n → wfR (H k)) (he : ∀ k j : Int, 0 ≤ k → k < n → 0 ≤ j → j < 150 → H' k j = H k j) (g : HC n H m) : HC n H' m := by
  obtain ⟨a, b, c, d⟩ := g
  exact ⟨a, b, c, fun k x y => agB_eq (fun j p q => he k j x y p q) (hw k x y) (d k x y)⟩
theorem hH_wf {n : Int} {H : Int → Int → Int} {r : Int → Int} (hn : 0 ≤ n ∧ n ≤ 4) (w : wfR r) (hw : ∀ k : Int, 0 ≤ k → k < n → wfR (H k)) : ∀ k : Int, 0 ≤ k → k < min (n + 1) 4 → wfR (hH n H r k) := by
  intro k h0 h1
  have e : hH n H r k = if n < 4 then (if k = n then r else H k) else (if k = 3 then r else H (k + 1)) := by
    unfold hH
    split <;> rfl
  rw [e]
  by_cases c : n < 4
  · rw [if_pos c]
    by_cases d : k = n
    · rw [if_pos d]; exact w
    · rw [if_neg d]; exact hw k h0 (by omega)
  · rw [if_neg c]
    by_cases d : k = 3
    · rw [if_pos d]; exact w
    · rw [if_neg d]; exact hw (k + 1) (by omega) (by omega)
theorem IN_frame {m m' : AM} (h : ∀ (k : Nat) (j : Int), (k < 83 ∨ 91 ≤ k) → k ≠ 101 → k ≠ 103 → k ≠ 105 → k ≠ 106 → (k ≠ 98 ∨ (j ≠ 2 ∧ j ≠ 3)) → (k ≠ 100 ∨ j < 8) → m' k j = m k j) (h101 : m' 101 = m 101) (I : IN m) : IN m' := by
  obtain ⟨⟨w, ga⟩, ⟨h1, h2, h3⟩, ⟨t1, t2, t3⟩, ⟨p1, p2, p3⟩⟩ := I
  have e3 : m' 100 3 = m 100 3 := h 100 3 (by omega) (by omega) (by omega) (by omega) (by omega) (by omega) (by omega)
  have e5 : m' 100 5 = m 100 5 := h 100 5 (by omega) (by omega) (by omega) (by omega) (by omega) (by omega) (by omega)
  have e98 : m' 98 1 = m 98 1 := h 98 1 (by omega) (by omega) (by omega) (by omega) (by omega) (by omega) (by omega)
  have e06 : m' 0 6 = m 0 6 := h 0 6 (by omega) (by omega) (by omega) (by omega) (by omega) (by omega) (by omega)
  have e102 : m' 102 = m 102 := funext fun j => h 102 j (by omega) (by omega) (by omega) (by omega) (by omega) (by omega) (by omega)
  have eH : Hm m' = Hm m := by unfold Hm; rw [e102]
  refine ⟨⟨by rw [h101]; exact w, by rw [h101]; exact agB_frame (fun k j a b => h k j (by omega) (by omega) (by omega) (by omega) (by omega) (by omega) (by omega)) ga⟩, ⟨by rw [e3]; exact h1, ?_, ?_⟩, ⟨by rw [e98]; exact t1, by rw [e5, e98]; exact t2, fun j a b => ?_⟩, ⟨fun x a b => ?_, by rw [e06]; exact p2, fun z => ?_⟩⟩
  · rw [e3, eH]
    exact HC_frame (fun k j a b => h k j (by omega) (by omega) (by omega) (by omega) (by omega) (by omega) (by omega)) h2
  · rw [e3, eH]; exact h3
  · rw [e98] at b
    rw [h 99 j (by omega) (by omega) (by omega) (by omega) (by omega) (by omega) (by omega), h 104 j (by omega) (by omega) (by omega) (by omega) (by omega) (by omega) (by omega)]
    exact t3 j a b
  · rw [h 93 x (by omega) (by omega) (by omega) (by omega) (by omega) (by omega) (by omega)]
    exact p1 x a b
  · rw [e06] at z
    obtain ⟨F, hF⟩ := p3 z
    refine ⟨F, ?_⟩
    rw [h101]
    refine planF_frame (fun k j a b => ?_) hF
    exact h k j (by omega) (by omega) (by omega) (by omega) (by omega) (by omega) (by omega)
theorem IN_chg {m m1 m2 : AM} {p : Int} (I : IN m) (hw : wfR (m2 101)) (g : agB 1 (m2 101) m1) (c1 : HC (min (m 100 3 + 1) 4) (hH (m 100 3) (Hm m) (m 101)) m1) (c2 : ∀ (k : Nat) (j : Int), 85 ≤ k → (k ≠ 98 ∨ (j ≠ 2 ∧ j ≠ 3)) → m1 k j = m k j) (c3 : m1 0 6 = p) (o : mOK m1 m2) (hp : p = 1 ∨ (p = m 0 6 ∧ wW (m2 101) = wW (m 101) ∧ wM (m2 101) = wM (m 101) ∧ wB (m2 101) = wB (m 101))) : IN m2 := by
  obtain ⟨⟨w, ga⟩, ⟨h1, h2, h3⟩, ⟨t1, t2, t3⟩, ⟨p1, p2, p3⟩⟩ := I
  obtain ⟨o1, o2, o3, o4⟩ := o
  have e101 : m1 101 = m 101 := funext fun j => c2 101 j (by omega) (Or.inl (by omega))
  have e102 : m1 102 = m 102 := funext fun j => c2 102 j (by omega) (Or.inl (by omega))
  have e3 : m1 100 3 = m 100 3 := c2 100 3 (by omega) (Or.inl (by omega))
  rw [e3] at o1
  rw [e3, e101, e102] at o2
  have hb : 0 ≤ min (m 100 3 + 1) 4 ∧ min (m 100 3 + 1) 4 ≤ 4 := by omega
  have e98 : m2 98 1 = m 98 1 := (o3 98 1 (Or.inl (by omega))).trans (c2 98 1 (by omega) (Or.inr ⟨by omega, by omega⟩))
  have e5 : m2 100 5 = m 100 5 := (o4 5 (by omega) (by omega)).trans (c2 100 5 (by omega) (Or.inl (by omega)))
  have e06 : m2 0 6 = p := (o3 0 6 (Or.inl (by omega))).trans c3
  have hHw := hH_wf h1 w h3
  refine ⟨⟨hw, agB_frame (fun k j a b => o3 k j (Or.inl (by omega))) g⟩, ⟨by rw [o1]; exact hb, ?_, ?_⟩, ⟨by rw [e98]; exact t1, by rw [e5, e98]; exact t2, fun j a b => ?_⟩, ⟨fun x a b => ?_, ?_, fun z => ?_⟩⟩
  · rw [o1]
    exact HC_eqH hHw (fun k j a b c d => o2 k j a b c d) (HC_frame (fun k j a b => o3 k j (Or.inl (by omega))) c1)
  · rw [o1]
    exact fun k a b => wfR_eq (fun j c d => o2 k j a b c d) (hHw k a b)
  · rw [e98] at b
    rw [o3 99 j (Or.inl (by omega)), c2 99 j (by omega) (Or.inl (by omega)), o3 104 j (Or.inr (by omega)), c2 104 j (by omega) (Or.inl (by omega))]
    exact t3 j a b
  · rw [o3 93 x (Or.inl (by omega)), c2 93 x (by omega) (Or.inl (by omega))]
    exact p1 x a b
  · rw [e06]
    rcases hp with hp | hp
    · exact Or.inr hp
    · rw [hp.1]; exact p2
  · rw [e06] at z
    rcases hp with hp | ⟨hp, e1, e2, e3⟩
    · omega
    · rw [hp] at z
      obtain ⟨F, hF⟩ := p3 z
      refine ⟨F, ?_⟩
      rw [e1, e2, e3]
      exact planF_frame (fun k j a b => (o3 k j (Or.inl (by omega))).trans (c2 k j (by omega) (by omega))) hF
theorem IN_plan {m m' : AM} (I : IN m) (f : ∀ (k : Nat) (j : Int), (k < 91 ∨ 97 < k ∨ k = 93) → ¬ (k = 0 ∧ j = 6) → m' k j = m k j) (z : m' 0 6 = 0) (hF : ∃ F : Int → Int, planF (wW (m 101)) (wM (m 101)) (wB (m 101)) F m') : IN m' := by
  obtain ⟨⟨w, ga⟩, ⟨h1, h2, h3⟩, ⟨t1, t2, t3⟩, ⟨p1, p2, p3⟩⟩ := I
  have h : ∀ (k : Nat) (j : Int), 1 ≤ k → (k < 91 ∨ 97 < k ∨ k = 93) → m' k j = m k j := fun k j a b => f k j b (by omega)
  have e3 : m' 100 3 = m 100 3 := h 100 3 (by omega) (by omega)
  have e5 : m' 100 5 = m 100 5 := h 100 5 (by omega) (by omega)
  have e98 : m' 98 1 = m 98 1 := h 98 1 (by omega) (by omega)
  have e101 : m' 101 = m 101 := funext fun j => h 101 j (by omega) (by omega)
  have e102 : m' 102 = m 102 := funext fun j => h 102 j (by omega) (by omega)
  have eH : Hm m' = Hm m := by unfold Hm; rw [e102]
  refine ⟨⟨by rw [e101]; exact w, by rw [e101]; exact agB_frame (fun k j a b => h k j (by omega) (by omega)) ga⟩, ⟨by rw [e3]; exact h1, ?_, ?_⟩, ⟨by rw [e98]; exact t1, by rw [e5, e98]; exact t2, fun j a b => ?_⟩, ⟨fun x a b => ?_, Or.inl z, fun _ => ?_⟩⟩
  · rw [e3, eH]
    exact HC_frame (fun k j a b => h k j (by omega) (by omega)) h2
  · rw [e3, eH]; exact h3
  · rw [e98] at b
    rw [h 99 j (by omega) (by omega), h 104 j (by omega) (by omega)]
    exact t3 j a b
  · rw [h 93 x (by omega) (by omega)]
    exact p1 x a b
  · rw [e101]; exact hF
/-! the words of the plan that a change keeps -/
theorem keepX {r r' : Int → Int} (w : wfR r) (h : ∀ j : Int, 126 ≤ j → j < 150 → r' j = r j) (h1 : ∀ j : Int, 1 ≤ j → j ≤ 3 * r 0 → r' j = r j) : wW r' = wW r ∧ wM r' = wM r ∧ wB r' = wB r :=
  wX_eq w h (fun c a b => ⟨h1 _ (by omega) (by omega), h1 _ (by omega) (by omega)⟩)
theorem xColor {r : Int → Int} {a b c : Int} (w : wfR r) (ok : okColor r a b c) : wW (rColor r a b c) = wW r ∧ wM (rColor r a b c) = wM r ∧ wB (rColor r a b c) = wB r := by
  have h0 := w.1.1
  have h1 := ok.2
  refine keepX w (fun j p q => ?_) (fun j p q => ?_)
  · unfold rColor; simp (disch := omega) only [rup_ne]
  · unfold rColor; simp (disch := omega) only [rup_ne]
theorem xPut {r : Int → Int} {f c : Int} (w : wfR r) (ok : okPut r f c) : wW (rPut r f c) = wW r ∧ wM (rPut r f c) = wM r ∧ wB (rPut r f c) = wB r := by
  have h0 := w.1.1
  obtain ⟨hf, hc, hr, hz⟩ := ok
  have h1 := (w.2.1.1 f (by omega) (by omega)).1
  clear hr
  refine keepX w (fun j p q => ?_) (fun j p q => ?_)
  · unfold rPut; simp (disch := omega) only [rup_ne]
  · unfold rPut; simp (disch := omega) only [rup_ne]
theorem xTake {r : Int → Int} {f : Int} (w : wfR r) (ok : okTake r f) : wW (rTake r f) = wW r ∧ wM (rTake r f) = wM r ∧ wB (rTake r f) = wB r := by
  have h0 := w.1.1
  obtain ⟨hf, hr⟩ := ok
  clear hr
  refine keepX w (fun j p q => ?_) (fun j p q => ?_)
  · unfold rTake; simp (disch := omega) only [rup_ne]
  · unfold rTake; simp (disch := omega) only [rup_ne]
theorem xClean {r r' : Int → Int} (w : wfR r) (h : isClean r r') : wW r' = wW r ∧ wM r' = wM r ∧ wB r' = wB r := by
  have h0 := w.1.1
  exact keepX w (fun j p q => h.1 j (by omega)) (fun j p q => h.1 j (by omega))
theorem xSet {r : Int → Int} {x v : Int} (w : wfR r) (ok : okSet x v) : wW (rSet r x v) = wW r ∧ wM (rSet r x v) = wM r ∧ wB (rSet r x v) = wB r := by
  have h0 := w.1.1
  have h1 : 0 ≤ x ∧ x ≤ 2 := by unfold okSet at ok; omega
  refine keepX w (fun j p q => ?_) (fun j p q => ?_)
  · unfold rSet; simp (disch := omega) only [rup_ne]
  · unfold rSet; simp (disch := omega) only [rup_ne]
theorem xFire {r r' : Int → Int} {h lg mn : Int} (w : wfR r) (hx : isFire r h lg mn r') : wW r' = wW r ∧ wM r' = wM r ∧ wB r' = wB r := by
  have h0 := w.1.1
  exact keepX w (fun j p q => hx.1 j (by omega)) (fun j p q => hx.1 j (by omega))
/-! a command on both sides: the same answer, and what holds holds again -/
def BB (M1 M2 : MI) (av1 av2 : List AV) (m : AM) : Prop := ∃ (K1 K2 : Nat) (P : Option Int → AM → Prop), (K1 ≤ 7 ∧ K2 ≤ 7) ∧ CS K1 M1 av1 m P ∧ ∀ v m1, P v m1 → ∃ P2 : Option Int → AM → Prop, CS K2 M2 av2 m1 P2 ∧ ∀ v2 m2, P2 v2 m2 → (∃ x : Int, v = some x ∧ v2 = some x) ∧ IN m2
theorem BB_read {M1 M2 : MI} {av1 av2 : List AV} {m : AM} (I : IN m) {K1 K2 : Nat} (hK : K1 ≤ 7 ∧ K2 ≤ 7) {val : Int} (q8 : CS K1 M1 av1 m (an val m)) (q9 : CS K2 M2 av2 m (an val m)) : BB M1 M2 av1 av2 m := by
  refine ⟨K1, K2, _, hK, q8, fun v m1 hP => ?_⟩
  obtain ⟨hv, e⟩ := hP
  rw [← e]
  refine ⟨_, q9, fun v2 m2 hQ => ?_⟩
  obtain ⟨hv2, e2⟩ := hQ
  rw [← e2]
  exact ⟨⟨val, hv, hv2⟩, I⟩
theorem BB_chg {M1 M2 : MI} {av1 av2 : List AV} {m : AM} (I : IN m) {K1 K2 : Nat} (hK : K1 ≤ 7 ∧ K2 ≤ 7) {val p : Int} {ok : Prop} (Rel : (Int → Int) → Prop) {P : Option Int → AM → Prop} {P2 : AM → Option Int → AM → Prop} (q8 : CS K1 M1 av1 m P) (hP : ∀ v m', P v m' → v = some val ∧ ((ok ∧ (∀ r' : Int → Int, Rel r' → agB 1 r' m') ∧ cOK p (m 100 3) (Hm m) (m 101) m m') ∨ (¬ ok ∧ m' = m)))
    (q9 : ∀ m1 : AM, m1 101 = m 101 → m1 100 3 = m 100 3 → CS K2 M2 av2 m1 (P2 m1)) (hQ : ∀ m1 : AM, m1 101 = m 101 → ∀ v m', P2 m1 v m' → v = some val ∧ ((ok ∧ Rel (m' 101) ∧ mOK m1 m') ∨ (¬ ok ∧ m' = m1)))
    (hw : ∀ r' : Int → Int, ok → Rel r' → wfR r') (hp : p = 1 ∨ (p = m 0 6 ∧ ∀ r' : Int → Int, ok → Rel r' → wW r' = wW (m 101) ∧ wM r' = wM (m 101) ∧ wB r' = wB (m 101))) : BB M1 M2 av1 av2 m := by
  refine ⟨K1, K2, P, hK, q8, fun v m1 h => ?_⟩
  obtain ⟨hv, h⟩ := hP v m1 h
  rcases h with ⟨o, g, c1, c2, c3⟩ | ⟨no, e⟩
  · have e101 : m1 101 = m 101 := funext fun j => c2 101 j (by omega)
    have e3 : m1 100 3 = m 100 3 := c2 100 3 (by omega)
    refine ⟨_, q9 m1 e101 e3, fun v2 m2 h2 => ?_⟩
    obtain ⟨hv2, h2⟩ := hQ m1 e101 v2 m2 h2
    refine ⟨⟨val, hv, hv2⟩, ?_⟩
    rcases h2 with ⟨-, hr, o2⟩ | ⟨no, -⟩
    · exact IN_chg I (hw _ o hr) (g _ hr) c1 (fun k j a _ => c2 k j a) c3 o2 (hp.imp id (fun z => ⟨z.1, z.2 _ o hr⟩))
    · exact absurd o no
  · rw [e]
    refine ⟨_, q9 m rfl rfl, fun v2 m2 h2 => ?_⟩
    obtain ⟨hv2, h2⟩ := hQ m rfl v2 m2 h2
    refine ⟨⟨val, hv, hv2⟩, ?_⟩
    rcases h2 with ⟨o, -⟩ | ⟨-, e2⟩
    · exact absurd o no
    · rw [e2]; exact I
section BBS
variable {m : AM}
theorem b_colorInfo (I : IN m) {a b : Int} (ha : rng a) (hb : rng b) : BB mX8_colorInfo mX9_colorInfo [.inr 0, .inl a, .inl b] [.inr 100, .inl a, .inl b] m := BB_read I (by decide) (qX8_colorInfo a b (m 101) m I.1.1 I.1.2 ha hb) (qX9_colorInfo a b m I.1.1 ha hb)
theorem b_layer (I : IN m) {a b c : Int} (ha : rng a) (hb : rng b) (hc : rng c) : BB mX8_layer mX9_layer [.inr 0, .inl a, .inl b, .inl c] [.inr 100, .inl a, .inl b, .inl c] m := BB_read I (by decide) (qX8_layer a b c (m 101) m I.1.1 I.1.2 ha hb hc) (qX9_layer a b c m I.1.1 ha hb hc)
theorem b_field (I : IN m) {a b : Int} (ha : rng a) (hb : rng b) : BB mX8_field mX9_field [.inr 0, .inl a, .inl b] [.inr 100, .inl a, .inl b] m := BB_read I (by decide) (qX8_field a b (m 101) m I.1.1 I.1.2 ha hb) (qX9_field a b m I.1.1 ha hb)
theorem b_count (I : IN m) {a : Int} (ha : rng a) : BB mX8_count mX9_count [.inr 0, .inl a] [.inr 100, .inl a] m := BB_read I (by decide) (qX8_count a (m 100 3) (m 100 5) (m 101) m I.1.1 I.1.2 ha I.2.1.2.1.1 I.2.2.1.2.1.symm) (qX9_count a m I.1.1 ha)
theorem b_wished (I : IN m) {a b : Int} (ha : rng a) (hb : rng b) : BB mX8_wished mX9_wished [.inr 0, .inl a, .inl b] [.inr 100, .inl a, .inl b] m := BB_read I (by decide) (qX8_wished a b (m 101) m I.1.1 I.1.2 ha hb) (qX9_wished a b m I.1.1 ha hb)
theorem b_counter (I : IN m) : BB mX8_counter mX9_counter [.inr 0] [.inr 100] m := BB_read I (by decide) (qX8_counter (m 101) m I.1.1 I.1.2) (qX9_counter m I.1.1)
theorem b_color (I : IN m) {a b c : Int} (ha : rng a) (hb : rng b) (hc : rng c) : BB mX8_color mX9_color [.inr 0, .inl a, .inl b, .inl c] [.inr 100, .inl a, .inl b, .inl c] m :=
  BB_chg I (by decide) (fun r' => r' = rColor (m 101) a b c) (qX8_color a b c (m 101) m I.1.1 I.1.2 I.2.1.2.1 ha hb hc) (fun v m' h => ⟨h.1, h.2.imp (fun z => ⟨z.1, fun r' e => by rw [e]; exact z.2.1, z.2.2⟩) id⟩)
    (fun m1 e1 e3 => qX9_color a b c m1 (by rw [e1]; exact I.1.1) (by rw [e3]; exact I.2.1.1) ha hb hc) (fun m1 e1 v m' h => by rw [e1] at h; exact h) (fun r' o e => by rw [e]; exact wColor I.1.1 o) (Or.inr ⟨rfl, fun r' o e => by rw [e]; exact xColor I.1.1 o⟩)
theorem b_put (I : IN m) {a b : Int} (ha : rng a) (hb : rng b) : BB mX8_put mX9_put [.inr 0, .inl a, .inl b] [.inr 100, .inl a, .inl b] m :=
  BB_chg I (by decide) (fun r' => r' = rPut (m 101) a b) (qX8_put a b (m 101) m I.1.1 I.1.2 I.2.1.2.1 ha hb) (fun v m' h => ⟨h.1, h.2.imp (fun z => ⟨z.1, fun r' e => by rw [e]; exact z.2.1, z.2.2⟩) id⟩)
    (fun m1 e1 e3 => qX9_put a b m1 (by rw [e1]; exact I.1.1) (by rw [e3]; exact I.2.1.1) ha hb) (fun m1 e1 v m' h => by rw [e1] at h; exact h) (fun r' o e => by rw [e]; exact wPut I.1.1 o) (Or.inr ⟨rfl, fun r' o e => by rw [e]; exact xPut I.1.1 o⟩)
theorem b_takeOff (I : IN m) {a : Int} (ha : rng a) : BB mX8_takeOff mX9_takeOff [.inr 0, .inl a] [.inr 100, .inl a] m :=
  BB_chg I (by decide) (fun r' => r' = rTake (m 101) a) (qX8_takeOff a (m 101) m I.1.1 I.1.2 I.2.1.2.1 ha) (fun v m' h => ⟨h.1, h.2.imp (fun z => ⟨z.1, fun r' e => by rw [e]; exact z.2.1, z.2.2⟩) id⟩)
    (fun m1 e1 e3 => qX9_takeOff a m1 (by rw [e1]; exact I.1.1) (by rw [e3]; exact I.2.1.1) ha) (fun m1 e1 v m' h => by rw [e1] at h; exact h) (fun r' o e => by rw [e]; exact wTake I.1.1 o) (Or.inr ⟨rfl, fun r' o e => by rw [e]; exact xTake I.1.1 o⟩)
theorem b_clean (I : IN m) : BB mX8_clean mX9_clean [.inr 0] [.inr 100] m :=
  BB_chg I (by decide) (ok := True) (fun r' => isClean (m 101) r') (qX8_clean (m 101) m I.1.1 I.1.2 I.2.1.2.1) (fun v m' h => ⟨h.1, Or.inl ⟨trivial, h.2⟩⟩)
    (fun m1 e1 e3 => qX9_clean m1 (by rw [e1]; exact I.1.1) (by rw [e3]; exact I.2.1.1)) (fun m1 e1 v m' h => by rw [e1] at h; exact ⟨h.1, Or.inl ⟨trivial, h.2⟩⟩) (fun r' _ e => wClean I.1.1 e) (Or.inr ⟨rfl, fun r' _ e => xClean I.1.1 e⟩)
theorem b_set (I : IN m) {a b : Int} (ha : rng a) (hb : rng b) : BB mX8_set mX9_set [.inr 0, .inl a, .inl b] [.inr 100, .inl a, .inl b] m :=
  BB_chg I (by decide) (fun r' => r' = rSet (m 101) a b) (qX8_set a b (m 101) m I.1.1 I.1.2 I.2.1.2.1 ha hb) (fun v m' h => ⟨h.1, h.2.imp (fun z => ⟨z.1, fun r' e => by rw [e]; exact z.2.1, z.2.2⟩) id⟩)
    (fun m1 e1 e3 => qX9_set a b m1 (by rw [e1]; exact I.1.1) (by rw [e3]; exact I.2.1.1) ha hb) (fun m1 e1 v m' h => by rw [e1] at h; exact h) (fun r' o e => by rw [e]; exact wSet I.1.1 o) (Or.inr ⟨rfl, fun r' o e => by rw [e]; exact xSet I.1.1 o⟩)
theorem b_wish (I : IN m) {a b : Int} (ha : rng a) (hb : rng b) : BB mX8_wish mX9_wish [.inr 0, .inl a, .inl b] [.inr 100, .inl a, .inl b] m :=
  BB_chg I (by decide) (fun r' => r' = rWish (m 101) a b) (qX8_wish a b (m 101) m I.1.1 I.1.2 I.2.1.2.1 ha hb) (fun v m' h => ⟨h.1, h.2.imp (fun z => ⟨z.1, fun r' e => by rw [e]; exact z.2.1, z.2.2⟩) id⟩)
    (fun m1 e1 e3 => qX9_wish a b m1 (by rw [e1]; exact I.1.1) (by rw [e3]; exact I.2.1.1) ha hb) (fun m1 e1 v m' h => by rw [e1] at h; exact h) (fun r' o e => by rw [e]; exact wWish I.1.1 o) (Or.inl rfl)
theorem b_fire (I : IN m) {a b : Int} (ha : rng a) (hb : rng b) : BB mX8_fire mX9_fire [.inr 0, .inl a, .inl b] [.inr 100, .inl a, .inl b] m :=
  BB_chg I (by decide) (fun r' => isFire (m 101) a (lgR (m 101) b) b r') (qX8_fire a b (m 101) m I.1.1 I.1.2 I.2.1.2.1 ha hb) (fun v m' h => h)
    (fun m1 e1 e3 => qX9_fire a b m1 (by rw [e1]; exact I.1.1) (by rw [e3]; exact I.2.1.1) ha hb) (fun m1 e1 v m' h => by rw [e1] at h; exact h) (fun r' o e => wFire I.1.1 o.2.2 e) (Or.inr ⟨rfl, fun r' _ e => xFire I.1.1 e⟩)
theorem b_ifFired (I : IN m) {a b : Int} (ha : rng a) (hb : rng b) : BB mX8_ifFired mX9_ifFired [.inr 0, .inl a, .inl b] [.inr 100, .inl a, .inl b] m := by
  refine ⟨6, 7, _, by decide, qX8_ifFired a b (m 101) m I.1.1 I.1.2 ha hb, fun v m1 hP => ?_⟩
  obtain ⟨hv, f⟩ := hP
  have e1 : m1 101 = m 101 := funext fun j => f 101 j (by omega)
  refine ⟨_, qX9_ifFired a b m1 (by rw [e1]; exact I.1.1) ha hb, fun v2 m2 hQ => ?_⟩
  obtain ⟨hv2, e2, f2⟩ := hQ
  rw [e1] at hv2 e2
  refine ⟨⟨_, hv, hv2⟩, IN_frame (fun k j a1 a2 a3 a4 a5 a6 a7 => ?_) e2 I⟩
  rw [f2 k j a2 a3 a4, f k j a1]
theorem b_bestHeat (I : IN m) : BB mX8_bestHeat mX9_bestHeat [.inr 0] [.inr 100] m := by
  refine ⟨6, 7, _, by decide, qX8_bestHeat (m 101) m I.1.1 I.1.2, fun v m1 hP => ?_⟩
  obtain ⟨⟨b, hv, hb⟩, f⟩ := hP
  have e1 : m1 101 = m 101 := funext fun j => f 101 j (by omega)
  refine ⟨_, qX9_bestHeat m1 (by rw [e1]; exact I.1.1), fun v2 m2 hQ => ?_⟩
  obtain ⟨⟨b2, hv2, hb2⟩, e2, f2⟩ := hQ
  rw [e1] at hb2 e2
  have eb := best_one hb hb2
  rw [← eb] at hv2
  refine ⟨⟨_, hv, hv2⟩, IN_frame (fun k j a1 a2 a3 a4 a5 a6 a7 => ?_) e2 I⟩
  rw [f2 k j a2 a3 a4, f k j a1]
theorem b_undo (I : IN m) : BB mX8_undo mX9_undo [.inr 0] [.inr 100] m := by
  refine ⟨5, 0, _, by decide, qX8_undo m I.2.1.2.1 I.2.1.2.2, fun v m1 hP => ?_⟩
  obtain ⟨hv, hP⟩ := hP
  rcases hP with ⟨hn, g, hc, f, f6⟩ | ⟨hn, e⟩
  · have e1 : m1 101 = m 101 := funext fun j => f 101 j (by omega)
    have e3 : m1 100 3 = m 100 3 := f 100 3 (by omega)
    have e102 : m1 102 = m 102 := funext fun j => f 102 j (by omega)
    refine ⟨_, qX9_undo m1 (by rw [e3]; exact I.2.1.1), fun v2 m2 hQ => ?_⟩
    rw [e3] at hQ
    obtain ⟨hv2, hQ⟩ := hQ
    refine ⟨⟨_, hv, hv2⟩, ?_⟩
    rcases hQ with ⟨-, g3, gr, gf, g5⟩ | ⟨z, -⟩
    · obtain ⟨⟨w, ga⟩, ⟨h1, h2, h3⟩, ⟨t1, t2, t3⟩, ⟨p1, p2, p3⟩⟩ := I
      rw [e102] at gr
      have hw1 := h3 (m 100 3 - 1) (by omega) (by omega)
      have eH : Hm m2 = Hm m := by
        unfold Hm
        rw [show m2 102 = m 102 from funext fun j => (gf 102 j (by omega)).trans (f 102 j (by omega))]
      have e98 : m2 98 1 = m 98 1 := (gf 98 1 (by omega)).trans (f 98 1 (by omega))
      have e5 : m2 100 5 = m 100 5 := (g5 5 (by omega)).trans (f 100 5 (by omega))
      have e06 : m2 0 6 = 1 := (gf 0 6 (by omega)).trans f6
      refine ⟨⟨wfR_eq gr hw1, agB_frame (fun k j a b => gf k j (by omega)) (agB_eq gr hw1 g)⟩, ⟨by rw [g3]; omega, ?_, ?_⟩, ⟨by rw [e98]; exact t1, by rw [e5, e98]; exact t2, fun j a b => ?_⟩, ⟨fun x a b => ?_, Or.inr e06, fun z => ?_⟩⟩
      · rw [g3, eH]
        exact HC_frame (fun k j a b => gf k j (by omega)) hc
      · rw [g3, eH]
        exact fun k a b => h3 k a (by omega)
      · rw [e98] at b
        rw [gf 99 j (by omega), f 99 j (by omega), gf 104 j (by omega), f 104 j (by omega)]
        exact t3 j a b
      · rw [gf 93 x (by omega), f 93 x (by omega)]
        exact p1 x a b
      · rw [e06] at z
        omega
    · exact absurd z hn
  · rw [e]
    refine ⟨_, qX9_undo m I.2.1.1, fun v2 m2 hQ => ?_⟩
    obtain ⟨hv2, hQ⟩ := hQ
    refine ⟨⟨_, hv, hv2⟩, ?_⟩
    rcases hQ with ⟨z, -⟩ | ⟨-, e2⟩
    · exact absurd hn z
    · rw [e2]; exact I
theorem b_type (I : IN m) {a : Int} (ha : rng a) : BB mX8_type mX9_type [.inr 0, .inl a] [.inr 100, .inl a] m := by
  have I0 := I
  obtain ⟨⟨w, ga⟩, ⟨h1, h2, h3⟩, ⟨t1, t2, t3⟩, ⟨p1, p2, p3⟩⟩ := I
  refine ⟨2, 1, _, by decide, qX8_type a m ha t1, fun v m1 hP => ?_⟩
  obtain ⟨hv, hP⟩ := hP
  have e5 : m1 100 5 = m 98 1 := by
    rcases hP with ⟨-, e⟩ | ⟨-, e⟩
    · rw [e]; simp (disch := omega) only [am_k]; exact t2
    · rw [e]; exact t2
  refine ⟨_, qX9_type a m1 ha (by rw [e5]; exact t1), fun v2 m2 hQ => ?_⟩
  rw [e5] at hQ
  obtain ⟨hv2, hQ⟩ := hQ
  refine ⟨⟨_, hv, hv2⟩, ?_⟩
  rcases hP with ⟨ok, e⟩ | ⟨no, e⟩
  · rcases hQ with ⟨-, e2⟩ | ⟨no, -⟩
    · obtain ⟨ok1, ok2⟩ := ok
      rw [e] at e2
      have F : ∀ (k : Nat) (j : Int), k ≠ 98 → k ≠ 99 → k ≠ 100 → k ≠ 104 → m2 k j = m k j := fun k j a b c d => by rw [e2]; simp (disch := omega) only [am_k]
      have e101 : m2 101 = m 101 := funext fun j => F 101 j (by omega) (by omega) (by omega) (by omega)
      have e3 : m2 100 3 = m 100 3 := by rw [e2]; simp (disch := omega) only [am_k, am_j]
      have e98 : m2 98 1 = m 98 1 + 1 := by rw [e2]; simp (disch := omega) only [am_k, am_same]
      have e5' : m2 100 5 = m 98 1 + 1 := by rw [e2]; simp (disch := omega) only [am_same]
      have eH : Hm m2 = Hm m := by
        unfold Hm
        rw [show m2 102 = m 102 from funext fun j => F 102 j (by omega) (by omega) (by omega) (by omega)]
      refine ⟨⟨by rw [e101]; exact w, by rw [e101]; exact agB_frame (fun k j a b => F k j (by omega) (by omega) (by omega) (by omega)) ga⟩, ⟨by rw [e3]; exact h1, ?_, by rw [e3, eH]; exact h3⟩, ⟨by rw [e98]; omega, by rw [e5', e98], fun j b c => ?_⟩, ⟨fun x b c => ?_, by rw [F 0 6 (by omega) (by omega) (by omega) (by omega)]; exact p2, fun z => ?_⟩⟩
      · rw [e3, eH]
        exact HC_frame (fun k j a b => F k j (by omega) (by omega) (by omega) (by omega)) h2
      · rw [e98] at c
        rw [e2]
        by_cases d : j = m 98 1
        · rw [d]; simp (disch := omega) only [am_k, am_same]; exact ⟨trivial, ok1⟩
        · simp (disch := omega) only [am_k, am_j]; exact t3 j b (by omega)
      · rw [F 93 x (by omega) (by omega) (by omega) (by omega)]
        exact p1 x b c
      · rw [F 0 6 (by omega) (by omega) (by omega) (by omega)] at z
        obtain ⟨G, hG⟩ := p3 z
        refine ⟨G, ?_⟩
        rw [e101]
        exact planF_frame (fun k j a b => F k j (by omega) (by omega) (by omega) (by omega)) hG
    · exact absurd ok no
  · rcases hQ with ⟨ok, -⟩ | ⟨-, e2⟩
    · exact absurd ok no
    · rw [e2, e]; exact I0
theorem b_clearText (I : IN m) : BB mX8_clearText mX9_clearText [.inr 0] [.inr 100] m := by
  obtain ⟨⟨w, ga⟩, ⟨h1, h2, h3⟩, ⟨t1, t2, t3⟩, ⟨p1, p2, p3⟩⟩ := I
  refine ⟨0, 0, _, by decide, qX8_clearText m, fun v m1 hP => ?_⟩
  obtain ⟨hv, e⟩ := hP
  refine ⟨_, qX9_clearText m1, fun v2 m2 hQ => ?_⟩
  obtain ⟨hv2, e2⟩ := hQ
  rw [e] at e2 hv2
  have hv3 : v2 = some (m 98 1) := by rw [hv2]; simp (disch := omega) only [am_k]; rw [t2]
  refine ⟨⟨_, hv, hv3⟩, ?_⟩
  have F : ∀ (k : Nat) (j : Int), k ≠ 98 → k ≠ 100 → m2 k j = m k j := fun k j a b => by rw [e2]; simp (disch := omega) only [am_k]
  have e101 : m2 101 = m 101 := funext fun j => F 101 j (by omega) (by omega)
  have e3 : m2 100 3 = m 100 3 := by rw [e2]; simp (disch := omega) only [am_k, am_j]
  have e98 : m2 98 1 = 0 := by rw [e2]; simp (disch := omega) only [am_k, am_same]
  have e5' : m2 100 5 = 0 := by rw [e2]; simp (disch := omega) only [am_same]
  have eH : Hm m2 = Hm m := by
    unfold Hm
    rw [show m2 102 = m 102 from funext fun j => F 102 j (by omega) (by omega)]
  refine ⟨⟨by rw [e101]; exact w, by rw [e101]; exact agB_frame (fun k j a b => F k j (by omega) (by omega)) ga⟩, ⟨by rw [e3]; exact h1, ?_, by rw [e3, eH]; exact h3⟩, ⟨by rw [e98]; omega, by rw [e5', e98], fun j b c => ?_⟩, ⟨fun x b c => ?_, by rw [F 0 6 (by omega) (by omega)]; exact p2, fun z => ?_⟩⟩
  · rw [e3, eH]
    exact HC_frame (fun k j a b => F k j (by omega) (by omega)) h2
  · rw [e98] at c
    omega
  · rw [F 93 x (by omega) (by omega)]
    exact p1 x b c
  · rw [F 0 6 (by omega) (by omega)] at z
    obtain ⟨G, hG⟩ := p3 z
    refine ⟨G, ?_⟩
    rw [e101]
    exact planF_frame (fun k j a b => F k j (by omega) (by omega)) hG
theorem b_fault (I : IN m) {a : Int} (ha : rng a) : BB mX8_fault mX9_fault [.inr 0, .inl a] [.inr 100, .inl a] m := by
  refine ⟨4, 3, _, by decide, qX8_fault (m 104) (m 98 1) a (m 101) m I.1.1 I.1.2 I.2.2.1.1 rfl I.2.2.1.2.2 ha, fun v m1 hP => ?_⟩
  obtain ⟨hv, f⟩ := hP
  have e1 : m1 101 = m 101 := funext fun j => f 101 j (by omega)
  have e4 : m1 104 = m 104 := funext fun j => f 104 j (by omega)
  refine ⟨_, qX9_fault (m 104) (m 98 1) a m1 (by rw [e1]; exact I.1.1) I.2.2.1.1 (by rw [f 100 5 (by omega)]; exact I.2.2.1.2.1) (fun j b c => by rw [e4]; exact ⟨rfl, (I.2.2.1.2.2 j b c).2⟩) ha, fun v2 m2 hQ => ?_⟩
  obtain ⟨hv2, f2⟩ := hQ
  rw [e1] at hv2
  refine ⟨⟨_, hv, hv2⟩, IN_frame (fun k j a1 a2 a3 a4 a5 a6 a7 => ?_) ?_ I⟩
  · rw [f2 k j (by omega), f k j a6]
  · rw [← e1]; exact funext fun j => f2 101 j (by omega)
theorem b_read (I : IN m) : BB mX8_read mX9_read [.inr 0] [.inr 100] m := by
  refine ⟨5, 3, _, by decide, qX8_read (m 104) (m 98 1) (m 101) m I.1.1 I.1.2 I.2.1.2.1 I.2.2.1.1 rfl I.2.2.1.2.2, fun v m1 hP => ?_⟩
  obtain ⟨hv, hP⟩ := hP
  have f : ∀ (k : Nat) (j : Int), 85 ≤ k → (k ≠ 98 ∨ (j ≠ 2 ∧ j ≠ 3)) → m1 k j = m k j := by
    rcases hP with ⟨-, -, -, f, -⟩ | ⟨-, f⟩
    · exact f
    · exact fun k j _ b => f k j b
  have e1 : m1 101 = m 101 := funext fun j => f 101 j (by omega) (by omega)
  have e4 : m1 104 = m 104 := funext fun j => f 104 j (by omega) (by omega)
  refine ⟨_, qX9_read (m 104) (m 98 1) m1 (by rw [e1]; exact I.1.1) (by rw [f 100 3 (by omega) (by omega)]; exact I.2.1.1) I.2.2.1.1 (by rw [f 100 5 (by omega) (by omega)]; exact I.2.2.1.2.1) (fun j b c => by rw [e4]; exact ⟨rfl, (I.2.2.1.2.2 j b c).2⟩), fun v2 m2 hQ => ?_⟩
  rw [e1] at hQ
  obtain ⟨hv2, hQ⟩ := hQ
  refine ⟨⟨_, hv, hv2⟩, ?_⟩
  rcases hP with ⟨z, g, hc, -, f6⟩ | ⟨z, f⟩
  · rcases hQ with ⟨-, hr, o⟩ | ⟨z2, -⟩
    · exact IN_chg I (by rw [hr]; exact rd_wf I.1.1 I.2.2.1.1.1 (FR_ok I.2.2.1.1.1 z)) (by rw [hr]; exact g) hc f f6 o (Or.inl rfl)
    · exact absurd z z2
  · rcases hQ with ⟨z2, -⟩ | ⟨-, f2⟩
    · exact absurd z2 z
    · refine IN_frame (fun k j a1 a2 a3 a4 a5 a6 a7 => ?_) ?_ I
      · rw [f2 k j (by omega), f k j a6]
      · rw [← e1]; exact funext fun j => f2 101 j (by omega)
theorem b_leastFirings (I : IN m) : BB mX8_leastFirings mX9_leastFirings [.inr 0] [.inr 100] m := by
  refine ⟨5, 3, _, by decide, qX8_leastFirings (m 101) m I.1.1 I.1.2 I.2.2.2.1 I.2.2.2.2.1 I.2.2.2.2.2, fun v m1 hP => ?_⟩
  obtain ⟨hv, hF, z, f⟩ := hP
  have I1 := IN_plan I f z hF
  have e1 : m1 101 = m 101 := funext fun j => f 101 j (by omega) (by omega)
  refine ⟨_, qX9_leastFirings m1 (wOK_of I1.1.1) (moP_of I1.1.1), fun v2 m2 hQ => ?_⟩
  obtain ⟨hL, hv2, f2⟩ := hQ
  rw [e1] at hL
  obtain ⟨F, hF⟩ := hF
  have hp := planF_L (wOK_of I.1.1) hF hL
  refine ⟨?_, IN_frame (fun k j a1 a2 a3 a4 a5 a6 a7 => f2 k j a5 (by omega)) (funext fun j => f2 101 j (by omega) (by omega)) I1⟩
  rcases hp with ⟨a, b, c⟩ | ⟨a, b, c, -⟩
  · rw [if_neg (by omega)] at hv
    rw [if_pos a] at hv2
    exact ⟨_, hv, hv2⟩
  · rw [if_pos b, c] at hv
    rw [if_neg (by omega)] at hv2
    exact ⟨_, hv, hv2⟩
theorem b_planned (I : IN m) {a b : Int} (ha : rng a) (hb : rng b) : BB mX8_planned mX9_planned [.inr 0, .inl a, .inl b] [.inr 100, .inl a, .inl b] m := by
  refine ⟨5, 3, _, by decide, qX8_planned a b (m 101) m I.1.1 I.1.2 I.2.2.2.1 I.2.2.2.2.1 I.2.2.2.2.2 ha hb, fun v m1 hP => ?_⟩
  rcases hP with ⟨no, hv, e⟩ | ⟨ok, hv, hF, z, f⟩
  · rw [e]
    refine ⟨_, qX9_planned a b m (wOK_of I.1.1) (moP_of I.1.1) ha hb, fun v2 m2 hQ => ?_⟩
    rcases hQ with ⟨-, hv2, e2⟩ | ⟨ok, -⟩
    · rw [e2]
      exact ⟨⟨_, hv, hv2⟩, I⟩
    · exact absurd ok no
  · have I1 := IN_plan I f z hF
    have e1 : m1 101 = m 101 := funext fun j => f 101 j (by omega) (by omega)
    refine ⟨_, qX9_planned a b m1 (wOK_of I1.1.1) (moP_of I1.1.1) ha hb, fun v2 m2 hQ => ?_⟩
    rcases hQ with ⟨no, -⟩ | ⟨-, hL, hQ, f2⟩
    · exact absurd ok no
    · refine ⟨?_, IN_frame (fun k j a1 a2 a3 a4 a5 a6 a7 => f2 k j a5 (by omega)) (funext fun j => f2 101 j (by omega) (by omega)) I1⟩
      rw [e1] at hL hQ
      obtain ⟨F, hF⟩ := hF
      have hp := planF_L (wOK_of I.1.1) hF hL
      rcases hQ with ⟨c, hv2⟩ | ⟨c, S, X, T, hw, hv2⟩
      · rw [if_neg (by omega)] at hv
        exact ⟨_, hv, hv2⟩
      · rcases hp with ⟨d, -⟩ | ⟨d1, d2, d3, S', hw'⟩
        · omega
        · rw [if_pos ⟨d2, by omega⟩] at hv
          have h3 := way_one hw' hw a.toNat (by omega) (by omega)
          have ea : ((a.toNat : Nat) : Int) = a := by omega
          rw [ea] at h3
          rw [h3.2.1, h3.2.2] at hv
          exact ⟨_, hv, hv2⟩
end BBS
