
theorem con_mem {dA : Nat → ClassId} {ad : Nat → Nat} {sh : List ShC} {m m' : AM} (h : ∀ (k : Nat) (j : Int), k < sh.length → m' k j = m k j) : con dA ad (sh, m') = con dA ad (sh, m) := by
  apply List.ext_getElem?
  intro i
  simp only [con, List.getElem?_mapIdx]
  cases e : sh[i]? with
  | none => rfl
  | some c =>
    have hi := (List.getElem?_eq_some_iff.mp e).1
    show some (ad i, ce dA ad m' i c) = some (ad i, ce dA ad m i c)
    rw [ce_ad (fun _ _ => rfl) (fun j => h i j hi)]
theorem AL.mem {M : MI} {E : AE} {QL : Int64 → HP → Prop} {LL : List (Nat × Int64)} {LS : List Int64} {pc : Nat} {L : List (Option AV)} {S : List AV} {sh : List ShC} {m m' : AM} {Q : Option Int → HP → Prop} (h : ∀ (k : Nat) (j : Int), k < sh.length → m' k j = m k j) (k : AL M E QL LL LS pc L S (sh, m) Q) : AL M E QL LL LS pc L S (sh, m') Q := by
  intro l p e R s mm args below meth c H locs cells slots A dC dI dA ad ad0 ls n0 m0 QQ hs hf hfl hy hl
  obtain ⟨y1, y2, y3, y4, y5, y6, y7, y8⟩ := hy
  rw [con_mem h] at y1 y2
  exact k l p e R s mm args below meth c H locs cells slots A dC dI dA ad ad0 ls n0 m0 QQ hs hf hfl ⟨y1, y2, y3, y4, y5, y6, y7, y8⟩ hl
section LPR
variable {K : Nat} {Z : ZB} {M : MI} {LL : List (Nat × Int64)} {LS : List Int64} {ex : List ShC} {pc : Nat} {L : List (Option AV)} {S : List AV} {m : AM} {Q : Option Int → AM → Prop}
theorem LQ.mem {m' : AM} (h : ∀ (k : Nat) (j : Int), k < 100 + ex.length → m' k j = m k j) (k : LQ K Z M LL LS ex pc L S m Q) : LQ K Z M LL LS ex pc L S m' Q := fun d r hk => AL.mem (fun q j hq => h q j (by rw [List.length_append, SH_len] at hq; exact hq)) (k d r hk)
theorem lp_invVR {idx ci n q K' : Nat} {M' : MI} {av rest : List AV} {fs : List ShF} {val : Int} (hd : decode M.2.1 pc = .ok (.invokevirtual idx, 3)) (hb : aMV M.1.cls idx M' ci n) (hc : SH[q]? = some (.inl (ci, fs))) (hM : CS K' M' (.inr q :: av) m (an val m)) (hS : S = av.reverse ++ .inr q :: rest) (hn : av.length = n) (hrest : rest.length + 2 * LS.length ≤ 8) (hK : K' + 1 ≤ K) (hml : M'.2.2.1 ≤ 17) (hO : exO Z ex)
    (kk : LQ K Z M LL LS ex (pc + 3) L (.inl val :: rest) m Q) : LQ K Z M LL LS ex pc L S m Q := by
  refine lp_invV hd hb hc hM hS hn hrest hK hml hO (fun v m' m'' hq h1 h2 => ?_)
  obtain ⟨rfl, rfl⟩ := hq
  refine LQ.mem (fun k j hk => ?_) kk
  by_cases c : k < 100
  · exact h1 k j c
  · exact h2 k j (by omega) hk
end LPR
/-! the least of many -/
theorem amin (b : Int → Int) (h : Int) (n : Nat) : accL (fun k h => min h (b k)) h n ≤ h ∧ (∀ k : Int, 0 ≤ k → k < n → accL (fun k h => min h (b k)) h n ≤ b k) ∧ ∀ c : Int, c ≤ h → (∀ k : Int, 0 ≤ k → k < n → c ≤ b k) → c ≤ accL (fun k h => min h (b k)) h n := by
  induction n with
  | zero => exact ⟨Int.le_refl _, fun k a b => by omega, fun c a _ => a⟩
  | succ n ih =>
    obtain ⟨i1, i2, i3⟩ := ih
    rw [accL_succ]
    refine ⟨Int.le_trans (Int.min_le_left _ _) i1, fun k a c => ?_, fun c a d => ?_⟩
    · by_cases e : k = (n : Int)
      · rw [e]; exact Int.min_le_right _ _
      · exact Int.le_trans (Int.min_le_left _ _) (i2 k a (by omega))
    · exact Int.le_min.mpr ⟨i3 c a (fun k x y => d k x (by omega)), d n (by omega) (by omega)⟩
theorem cap_n (B : Int → Int → Int) (s : Int) (n : Nat) : accL (fun f h => capG B s f h) 1200 n ≤ 1200 ∧ (∀ f l : Int, 0 ≤ f → f < n → 0 ≤ l → l < dg s f → accL (fun f h => capG B s f h) 1200 n ≤ B f l) ∧ ∀ c : Int, c ≤ 1200 → (∀ f l : Int, 0 ≤ f → f < n → 0 ≤ l → l < dg s f → c ≤ B f l) → c ≤ accL (fun f h => capG B s f h) 1200 n := by
  induction n with
  | zero => exact ⟨Int.le_refl _, fun f l a b => by omega, fun c a _ => a⟩
  | succ n ih =>
    obtain ⟨i1, i2, i3⟩ := ih
    rw [accL_succ]
    obtain ⟨a1, a2, a3⟩ := amin (B n) (accL (fun f h => capG B s f h) 1200 n) (dg s n).toNat
    show accL (fun k h => min h (B n k)) (accL (fun f h => capG B s f h) 1200 n) (dg s n).toNat ≤ 1200 ∧ (∀ f l : Int, 0 ≤ f → f < ((n + 1 : Nat) : Int) → 0 ≤ l → l < dg s f → accL (fun k h => min h (B n k)) (accL (fun f h => capG B s f h) 1200 n) (dg s n).toNat ≤ B f l) ∧ ∀ c : Int, c ≤ 1200 → (∀ f l : Int, 0 ≤ f → f < ((n + 1 : Nat) : Int) → 0 ≤ l → l < dg s f → c ≤ B f l) → c ≤ accL (fun k h => min h (B n k)) (accL (fun f h => capG B s f h) 1200 n) (dg s n).toNat
    refine ⟨Int.le_trans a1 i1, fun f l p q u v => ?_, fun c p q => ?_⟩
    · by_cases e : f = (n : Int)
      · rw [e] at v ⊢; exact a2 l u (by omega)
      · exact Int.le_trans a1 (i2 f l p (by omega) u v)
    · exact a3 c (i3 c p (fun f l x y => q f l x (by omega))) (fun k x y => q n k (by omega) (by omega) x (by omega))
theorem cap_le {B : Int → Int → Int} {s f l : Int} (a : 0 ≤ f) (b : f < 6) (c : 0 ≤ l) (d : l < dg s f) : capS B s ≤ B f l := (cap_n B s 6).2.1 f l a b c d
theorem cap_mono {B : Int → Int → Int} {s t : Int} (h : ∀ f : Int, 0 ≤ f → f < 6 → dg s f ≤ dg t f) : capS B t ≤ capS B s :=
  (cap_n B s 6).2.2 _ (cap_n B t 6).1 (fun f l a b c d => (cap_n B t 6).2.1 f l a b c (by have := h f a b; omega))
theorem mel_ge {M : Int → Int → Int} {s x : Int} {f : Nat} (hb : bt x f = 1) (n : Nat) (hf : f < n) : M f (dg s f) ≤ accL (melG M s x) 0 n := by
  induction n with
  | zero => omega
  | succ n ih =>
    rw [accL_succ]
    show _ ≤ if bt x n = 1 then max _ (M n (dg s n)) else _
    by_cases e : f = n
    · subst e; rw [if_pos hb]; exact Int.le_max_right _ _
    · have h2 := ih (by omega)
      split
      · exact Int.le_trans h2 (Int.le_max_left _ _)
      · exact h2
theorem bur_le {B : Int → Int → Int} {c s x : Int} (n : Nat) : accL (burG B s x) c n ≤ c ∧ ∀ f : Nat, f < n → bt x f = 1 → accL (burG B s x) c n ≤ B f (dg s f) := by
  induction n with
  | zero => exact ⟨Int.le_refl _, fun f h => by omega⟩
  | succ n ih =>
    rw [accL_succ]
    show (if bt x n = 1 then min _ (B n (dg s n)) else _) ≤ c ∧ ∀ f : Nat, f < n + 1 → bt x f = 1 → (if bt x n = 1 then min _ (B n (dg s n)) else _) ≤ B f (dg s f)
    refine ⟨?_, fun f hf hb => ?_⟩
    · split
      · exact Int.le_trans (Int.min_le_left _ _) ih.1
      · exact ih.1
    · by_cases e : f = n
      · subst e; rw [if_pos hb]; exact Int.min_le_right _ _
      · have h2 := ih.2 f (by omega) hb
        split
        · exact Int.le_trans (Int.min_le_left _ _) h2
        · exact h2
/-- a plan, firing by firing -/
def isPl (W : Int → Int) (M B : Int → Int → Int) (S : Int → Int) (N : Int) (m : AM) : Prop := S 0 = 0 ∧ (N = -4 ∨ ((0 ≤ N ∧ N ≤ 18) ∧ fulS W (S N) ∧ (∀ f : Int, 0 ≤ f → f < 6 → W f ≤ N) ∧ N ≤ remS W 0)) ∧ ∀ k : Int, 0 ≤ k → k < N → isSet (m 96 k) ∧ okS W M B (S k) (m 96 k) ∧ valS W (S k) ∧ (0 ≤ S k ∧ S k < 4096) ∧ (∀ f : Int, 0 ≤ f → f < 6 → dg (S (k + 1)) f = dg (S k) f + bt (m 96 k) f) ∧ m 97 k = melS M (S k) (m 96 k)
theorem dg_0 (f : Int) : dg 0 f = 0 := by unfold dg; rw [Int.zero_ediv]; rfl
theorem plan_facts {W : Int → Int} {M B : Int → Int → Int} (w : wOK W M B) {F : Int → Int} {m : AM} (p : planF W M B F m) : ∃ S : Int → Int, isPl W M B S (if m 91 7 = 1 then m 91 6 else -4) m := by
  obtain ⟨pF, pb, pc⟩ := p
  rcases pc with ⟨c7, -, -⟩ | ⟨c7, c0, c6, S, s0, sk⟩
  · refine ⟨fun _ => 0, rfl, Or.inl (if_neg (by omega)), fun k a b => ?_⟩
    rw [if_neg (by omega)] at b
    omega
  · have hN : (if m 91 7 = 1 then m 91 6 else -4) = F 0 := by rw [if_pos c7]; exact c6
    rw [hN]
    have hl := last_bd w
    have h00 := pb 0 (by omega) hl.1.1
    have nx : ∀ k : Int, 0 ≤ k → k < F 0 → (0 ≤ S (k + 1) ∧ S (k + 1) < 4096) ∧ (∀ f : Int, 0 ≤ f → f < 6 → dg (S (k + 1)) f = dg (S k) f + bt (m 96 k) f) ∧ valS W (S (k + 1)) ∧ remS W (S (k + 1)) + 1 ≤ remS W (S k) ∧ F (S (k + 1)) = F (S k) - 1 := fun k a b => by
      obtain ⟨⟨k1, k2, k3⟩, kb, ks, kt⟩ := sk k a b
      have q := op_next w k2.1 k2.2 k1 kb.2.1.1
      have rn := rem_next w k2.1 k2.2 k1 kb.2.1.1 kb.1
      rw [ks]
      exact ⟨q.1, q.2.1, q.2.2, rn, kb.2.2.1⟩
    have v0 : valS W 0 := fun f a b => by rw [dg_0]; exact (w f a b).1.1
    -- where the plan stands behind k firings
    have key : ∀ k : Nat, (k : Int) ≤ F 0 → (0 ≤ S k ∧ S k < 4096) ∧ valS W (S k) ∧ F (S k) = F 0 - k ∧ (∀ f : Int, 0 ≤ f → f < 6 → dg (S k) f ≤ k) ∧ remS W (S k) + k ≤ remS W 0 := by
      intro k
      induction k with
      | zero =>
        intro _
        show (0 ≤ S 0 ∧ S 0 < 4096) ∧ valS W (S 0) ∧ F (S 0) = F 0 - 0 ∧ (∀ f : Int, 0 ≤ f → f < 6 → dg (S 0) f ≤ 0) ∧ remS W (S 0) + 0 ≤ remS W 0
        rw [s0]
        exact ⟨by omega, v0, by omega, fun f a b => by rw [dg_0]; exact Int.le_refl _, by omega⟩
      | succ k ih =>
        intro hk
        obtain ⟨i1, i2, i3, i4, i5⟩ := ih (by omega)
        obtain ⟨n1, n2, n3, n4, n5⟩ := nx k (by omega) (by omega)
        have ec : ((k + 1 : Nat) : Int) = (k : Int) + 1 := by omega
        rw [ec]
        refine ⟨n1, n3, by omega, fun f a b => ?_, by omega⟩
        rw [n2 f a b]
        have := i4 f a b
        have := bt_bd (m 96 k) f
        omega
    obtain ⟨e1, e2, e3, e4, e5⟩ := key (F 0).toNat (by omega)
    have eN : (((F 0).toNat : Nat) : Int) = F 0 := by omega
    rw [eN] at e1 e2 e3 e4 e5
    have rb := rem_bd w e2
    have rb0 := rem_bd w v0
    have ful : fulS W (S (F 0)) := by
      by_cases fu : fulS W (S (F 0))
      · exact fu
      · exfalso
        have f1 := pF (S (F 0)) e1.1 (val_last e1.1 e1.2 e2)
        rcases f1.2.2 e2 fu with c | ⟨x, hx, ok, d1, d2, d3⟩
        · omega
        · have q := op_next w e1.1 e1.2 e2 ok.1
          have b1 := pb (S (F 0) + stp x) q.1.1 (val_last q.1.1 q.1.2 q.2.2)
          omega
    refine ⟨S, s0, Or.inr ⟨by omega, ful, fun f a b => by rw [← ful f a b]; exact e4 f a b, by omega⟩, fun k a b => ?_⟩
    obtain ⟨⟨k1, k2, k3⟩, kb, ks, kt⟩ := sk k a b
    exact ⟨kb.1, kb.2.1, k1, k2, (nx k a b).2.1, kt⟩
/-- the most layers of a field -/
def moA (r : Int → Int) (n : Nat) : Int := accL (fun f h => max h (r (126 + 4 * f))) 0 n
theorem moA_s (r : Int → Int) (n : Nat) : moA r (n + 1) = max (moA r n) (r (126 + 4 * (n : Int))) := rfl
theorem moA_bd {r : Int → Int} {c : Int} (h0 : 0 ≤ c) (n : Nat) (h : ∀ f : Int, 0 ≤ f → f < n → 0 ≤ r (126 + 4 * f) ∧ r (126 + 4 * f) ≤ c) : 0 ≤ moA r n ∧ moA r n ≤ c := by
  induction n with
  | zero => exact ⟨Int.le_refl _, h0⟩
  | succ n ih =>
    have i := ih (fun f a b => h f a (by omega))
    have hn := h n (by omega) (by omega)
    rw [moA_s]; omega
theorem rem_wis (r : Int → Int) : remS (wW r) 0 = wisT r := by
  unfold remS
  simp only [dg_0, wW_f (r := r) (f := 0) (by omega) (by omega), wW_f (r := r) (f := 1) (by omega) (by omega), wW_f (r := r) (f := 2) (by omega) (by omega), wW_f (r := r) (f := 3) (by omega) (by omega), wW_f (r := r) (f := 4) (by omega) (by omega), wW_f (r := r) (f := 5) (by omega) (by omega)]
  show _ = 0 + r (126 + 4 * 0) + r (126 + 4 * 1) + r (126 + 4 * 2) + r (126 + 4 * 3) + r (126 + 4 * 4) + r (126 + 4 * 5)
  omega
