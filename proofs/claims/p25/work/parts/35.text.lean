
/-! texts: the reason of a fault at a character, the first fault, what a text without fault writes -/
def rsn (c a K : Int) : Int := if a = 0 then (if 48 ≤ c ∧ c ≤ 53 then 0 else 1) else if a = 1 then (if c = 61 then 0 else 1) else if c = 59 then 0 else if ¬ (97 ≤ c ∧ c ≤ 108) then 1 else if c - 97 ≥ K then 2 else if a = 5 then 3 else 0
def nxt (c a : Int) : Int := if c = 59 then 0 else a + 1
theorem rsn_bd (c a K : Int) : 0 ≤ rsn c a K ∧ rsn c a K ≤ 3 := by
  unfold rsn; (repeat' split) <;> omega
theorem nxt_bd {c a K : Int} (h : 0 ≤ a ∧ a ≤ 5) (z : rsn c a K = 0) : 0 ≤ nxt c a ∧ nxt c a ≤ 5 := by
  unfold rsn at z; unfold nxt
  (repeat' split at z) <;> (split <;> omega)
def fl (T : Int → Int) (K n : Int) : Nat → Int → Int → Int × Int
  | 0, _, a => (n, if a = 0 then 0 else 4)
  | k + 1, i, a => if rsn (T i) a K ≠ 0 then (i, rsn (T i) a K) else fl T K n k (i + 1) (nxt (T i) a)
def FR (T : Int → Int) (K n : Int) : Int × Int := fl T K n n.toNat 0 0
theorem fl_hit {T : Int → Int} {K n a : Int} {i : Nat} (h : (i : Int) < n) (z : rsn (T i) a K ≠ 0) : fl T K n (n.toNat - i) i a = ((i : Int), rsn (T i) a K) := by
  have e : n.toNat - i = (n.toNat - (i + 1)) + 1 := by omega
  rw [e]; exact if_pos z
theorem fl_go {T : Int → Int} {K n a : Int} {i : Nat} (h : (i : Int) < n) (z : rsn (T i) a K = 0) : fl T K n (n.toNat - i) i a = fl T K n (n.toNat - (i + 1)) ((i : Int) + 1) (nxt (T i) a) := by
  have e : n.toNat - i = (n.toNat - (i + 1)) + 1 := by omega
  rw [e]; exact if_neg (fun q => q z)
theorem fl_end {T : Int → Int} {K n a : Int} {i : Nat} (h : n ≤ (i : Int)) : fl T K n (n.toNat - i) i a = (n, if a = 0 then 0 else 4) := by
  have e : n.toNat - i = 0 := by omega
  rw [e]; rfl
/-- how far the reading is, its field, how many wishes it gave, the row -/
def rdS (T : Int → Int) (r : Int → Int) : Nat → Int × Int × Int × (Int → Int)
  | 0 => (0, 0, 0, r)
  | i + 1 =>
    let q := rdS T r i
    if q.1 = 0 then (1, T i - 48, q.2.2.1 + 1, rup q.2.2.2 (126 + 4 * (T i - 48)) 0)
    else if q.1 = 1 then (2, q.2.1, q.2.2.1, q.2.2.2)
    else if T i = 59 then (0, q.2.1, q.2.2.1, q.2.2.2)
    else (q.1 + 1, q.2.1, q.2.2.1, rup (rup q.2.2.2 (126 + 4 * q.2.1 + 1 + q.2.2.2 (126 + 4 * q.2.1)) (T i - 97)) (126 + 4 * q.2.1) (q.2.2.2 (126 + 4 * q.2.1) + 1))
def aA (T r : Int → Int) (i : Nat) : Int := (rdS T r i).1
def fA (T r : Int → Int) (i : Nat) : Int := (rdS T r i).2.1
def gA (T r : Int → Int) (i : Nat) : Int := (rdS T r i).2.2.1
def wA (T r : Int → Int) (i : Nat) : Int → Int := (rdS T r i).2.2.2
theorem rd_0 {T r : Int → Int} {i : Nat} (h : aA T r i = 0) : aA T r (i + 1) = 1 ∧ fA T r (i + 1) = T i - 48 ∧ gA T r (i + 1) = gA T r i + 1 ∧ wA T r (i + 1) = rup (wA T r i) (126 + 4 * (T i - 48)) 0 := by
  unfold aA fA gA wA at *
  simp only [rdS, if_pos h, and_self]
theorem rd_1 {T r : Int → Int} {i : Nat} (h : aA T r i = 1) : aA T r (i + 1) = 2 ∧ fA T r (i + 1) = fA T r i ∧ gA T r (i + 1) = gA T r i ∧ wA T r (i + 1) = wA T r i := by
  unfold aA fA gA wA at *
  have h0 : ¬ (rdS T r i).1 = 0 := by omega
  simp only [rdS, if_neg h0, if_pos h, and_self]
theorem rd_2 {T r : Int → Int} {i : Nat} (h : 2 ≤ aA T r i) (c : T i = 59) : aA T r (i + 1) = 0 ∧ fA T r (i + 1) = fA T r i ∧ gA T r (i + 1) = gA T r i ∧ wA T r (i + 1) = wA T r i := by
  unfold aA fA gA wA at *
  have h0 : ¬ (rdS T r i).1 = 0 := by omega
  have h1 : ¬ (rdS T r i).1 = 1 := by omega
  simp only [rdS, if_neg h0, if_neg h1, if_pos c, and_self]
theorem rd_3 {T r : Int → Int} {i : Nat} (h : 2 ≤ aA T r i) (c : T i ≠ 59) : aA T r (i + 1) = aA T r i + 1 ∧ fA T r (i + 1) = fA T r i ∧ gA T r (i + 1) = gA T r i ∧ wA T r (i + 1) = rup (rup (wA T r i) (126 + 4 * fA T r i + 1 + wA T r i (126 + 4 * fA T r i)) (T i - 97)) (126 + 4 * fA T r i) (wA T r i (126 + 4 * fA T r i) + 1) := by
  unfold aA fA gA wA at *
  have h0 : ¬ (rdS T r i).1 = 0 := by omega
  have h1 : ¬ (rdS T r i).1 = 1 := by omega
  simp only [rdS, if_neg h0, if_neg h1, if_neg c, and_self]
theorem rd_nxt {T r : Int → Int} {i : Nat} {K : Int} (h : 0 ≤ aA T r i) (z : rsn (T i) (aA T r i) K = 0) : aA T r (i + 1) = nxt (T i) (aA T r i) := by
  by_cases h0 : aA T r i = 0
  · rw [(rd_0 h0).1, h0]; rw [h0] at z; unfold rsn at z; unfold nxt
    rw [if_pos rfl] at z
    split at z
    · rw [if_neg (by omega)]; rfl
    · omega
  · by_cases h1 : aA T r i = 1
    · rw [(rd_1 h1).1, h1]; rw [h1] at z; unfold rsn at z; unfold nxt
      rw [if_neg (by omega), if_pos rfl] at z
      split at z
      · rw [if_neg (by omega)]; rfl
      · omega
    · by_cases c : T i = 59
      · rw [(rd_2 (by omega) c).1]; unfold nxt; rw [if_pos c]
      · rw [(rd_3 (by omega) c).1]; unfold nxt; rw [if_neg c]
/-- a text without fault -/
def okT (T r : Int → Int) (n : Int) : Prop := (∀ i : Nat, (i : Int) < n → rsn (T i) (aA T r i) (r 0) = 0) ∧ aA T r n.toNat = 0
theorem FR_ok {T r : Int → Int} {n : Int} (hn : 0 ≤ n) (h : (FR T (r 0) n).2 = 0) : okT T r n := by
  have main : ∀ i : Nat, (i : Int) ≤ n → (0 ≤ aA T r i ∧ aA T r i ≤ 5) ∧ FR T (r 0) n = fl T (r 0) n (n.toNat - i) i (aA T r i) ∧ ∀ k : Nat, k < i → rsn (T k) (aA T r k) (r 0) = 0 := by
    intro i
    induction i with
    | zero => intro _; exact ⟨⟨Int.le_refl _, by show (0 : Int) ≤ 5; omega⟩, rfl, fun k hk => by omega⟩
    | succ i ih =>
      intro hi
      obtain ⟨b, e, g⟩ := ih (by omega)
      by_cases z : rsn (T i) (aA T r i) (r 0) = 0
      · have e2 := rd_nxt b.1 z
        refine ⟨by rw [e2]; exact nxt_bd b z, ?_, fun k hk => ?_⟩
        · rw [e, fl_go (by omega) z, e2]; rfl
        · by_cases ek : k = i
          · subst ek; exact z
          · exact g k (by omega)
      · exfalso
        rw [e, fl_hit (by omega) z] at h
        exact z h
  refine ⟨fun i hi => (main (i + 1) (by omega)).2.2 i (by omega), ?_⟩
  have q := (main n.toNat (by omega)).2.1
  rw [fl_end (by omega)] at q
  rw [q] at h
  by_cases z : aA T r n.toNat = 0
  · exact z
  · exfalso
    have h2 : (if aA T r n.toNat = 0 then (0 : Int) else 4) = 0 := h
    rw [if_neg z] at h2; omega
/-- what holds while a text without fault is read -/
def rdI (T r : Int → Int) (i : Nat) : Prop := (0 ≤ aA T r i ∧ aA T r i ≤ 5) ∧ (0 ≤ fA T r i ∧ fA T r i ≤ 5) ∧ (0 ≤ gA T r i ∧ gA T r i ≤ i) ∧ (∀ j : Int, j < 126 → wA T r i j = r j) ∧ wfW (wA T r i) ∧ (aA T r i = 1 → wA T r i (126 + 4 * fA T r i) = 0) ∧ (2 ≤ aA T r i → wA T r i (126 + 4 * fA T r i) = aA T r i - 2)
theorem rd_inv {T r : Int → Int} {n : Int} (w : wfR r) (ok : okT T r n) (i : Nat) (hi : (i : Int) ≤ n) : rdI T r i := by
  induction i with
  | zero => exact ⟨⟨Int.le_refl _, by show (0 : Int) ≤ 5; omega⟩, ⟨Int.le_refl _, by show (0 : Int) ≤ 5; omega⟩, ⟨Int.le_refl _, Int.le_refl _⟩, fun _ _ => rfl, w.2.2.2, fun z => absurd z (by show ¬ (0 : Int) = 1; omega), fun z => absurd z (by show ¬ (2 : Int) ≤ 0; omega)⟩
  | succ i ih =>
    obtain ⟨i1, i2, i3, i4, i5, i6, i7⟩ := ih (by omega)
    have z := ok.1 i (by omega)
    have e := rd_nxt i1.1 z
    have bd := nxt_bd i1 z
    rw [← e] at bd
    have h12 := w.1.1
    unfold rsn at z
    rcases (by omega : aA T r i = 0 ∨ aA T r i = 1 ∨ (2 ≤ aA T r i ∧ T i = 59) ∨ (2 ≤ aA T r i ∧ T i ≠ 59)) with a | a | a | a
    · obtain ⟨e1, e2, e3, e4⟩ := rd_0 a
      rw [if_pos a] at z
      have hd : 48 ≤ T i ∧ T i ≤ 53 := by
        split at z
        · assumption
        · omega
      refine ⟨bd, by omega, by omega, fun j hj => ?_, fun x x0 x6 => ?_, fun _ => ?_, fun q => by omega⟩
      · rw [e4, rup_ne (by omega)]; exact i4 j hj
      · have hx := i5 x x0 x6
        rw [e4]
        by_cases ex : x = T i - 48
        · subst ex; rw [rup_same]; exact ⟨by omega, fun k k0 k1 => by omega⟩
        · rw [rup_ne (by omega)]
          refine ⟨hx.1, fun k k0 k1 => ?_⟩
          rw [rup_ne (by omega), rup_ne (by omega)]; exact hx.2 k k0 k1
      · rw [e4, e2, rup_same]
    · obtain ⟨e1, e2, e3, e4⟩ := rd_1 a
      refine ⟨bd, by omega, by omega, fun j hj => by rw [e4]; exact i4 j hj, by rw [e4]; exact i5, fun q => by omega, fun q => ?_⟩
      rw [e4, e2, i6 a, e1]; rfl
    · obtain ⟨e1, e2, e3, e4⟩ := rd_2 a.1 a.2
      exact ⟨bd, by omega, by omega, fun j hj => by rw [e4]; exact i4 j hj, by rw [e4]; exact i5, fun q => by omega, fun q => by omega⟩
    · obtain ⟨e1, e2, e3, e4⟩ := rd_3 a.1 a.2
      rw [if_neg (by omega), if_neg (by omega), if_neg a.2] at z
      have hl : (97 ≤ T i ∧ T i ≤ 108) ∧ T i - 97 < r 0 ∧ aA T r i ≠ 5 := by
        split at z
        · omega
        · split at z
          · omega
          · split at z
            · omega
            · omega
      have h7 := i7 a.1
      refine ⟨bd, by omega, by omega, fun j hj => ?_, fun x x0 x6 => ?_, fun q => by omega, fun _ => ?_⟩
      · rw [e4, rup_ne (by omega), rup_ne (by omega)]; exact i4 j hj
      · have hx := i5 x x0 x6
        have e0 : wA T r (i + 1) 0 = wA T r i 0 := by rw [e4, rup_ne (by omega), rup_ne (by omega)]
        have e00 := i4 0 (by omega)
        rw [e0, e00]
        have hx2 := hx.2
        rw [e00] at hx2
        rw [e4]
        by_cases ex : x = fA T r i
        · subst ex; rw [rup_same]
          refine ⟨by omega, fun k k0 k1 => ?_⟩
          by_cases ek : k = wA T r i (126 + 4 * fA T r i)
          · subst ek; simp (disch := omega) only [rup_same, rup_ne]; omega
          · simp (disch := omega) only [rup_ne]; exact hx2 k k0 (by omega)
        · rw [rup_ne (by omega), rup_ne (by omega)]
          refine ⟨hx.1, fun k k0 k1 => ?_⟩
          simp (disch := omega) only [rup_ne]; exact hx2 k k0 k1
      · rw [e4, e2, e1, rup_same]; omega
theorem rd_wf {T r : Int → Int} {n : Int} (w : wfR r) (hn : 0 ≤ n) (ok : okT T r n) : wfR (wA T r n.toNat) := by
  obtain ⟨-, -, -, i4, i5, -, -⟩ := rd_inv w ok n.toNat (by omega)
  have e0 := i4 0 (by omega)
  exact ⟨wfC_frame (fun j a b => i4 j (by omega)) w.1, wfP_frame (fun j a b => i4 j (by omega)) (by rw [e0]; exact Int.le_refl _) (by rw [i4 117 (by omega)]; exact Int.le_refl _) w.2.1, wfS_frame (fun j a b => i4 j (by omega)) (i4 104 (by omega)) w.2.2.1, i5⟩
def vType (t c : Int) : Int := if 32 ≤ c ∧ c ≤ 126 then (if t < 80 then t + 1 else -3) else -1
def okType (t c : Int) : Prop := (32 ≤ c ∧ c ≤ 126) ∧ t < 80
def vFault (q : Int × Int) (w : Int) : Int := if 0 ≤ w ∧ w ≤ 1 then (if q.2 = 0 then -4 else if w = 0 then q.1 else q.2) else -1
theorem agW_0 {w : Int → Int} {m : AM} {f : Int} (hw : wfW w) (g : agW 13 14 w m) (f0 : 0 ≤ f) (f6 : f < 6) : agW 13 14 (rup w (126 + 4 * f) 0) (am_up m 13 f 0) := by
  intro x x0 x6
  have hx := (hw x x0 x6).1
  by_cases e : x = f
  · subst e
    refine ⟨by rw [am_same, rup_same], fun k k0 k1 => ?_⟩
    rw [rup_same] at k1; omega
  · refine ⟨by simp (disch := omega) only [am_k, am_j, rup_ne]; exact (g x x0 x6).1, fun k k0 k1 => ?_⟩
    rw [rup_ne (by omega)] at k1
    simp (disch := omega) only [am_k, am_j, rup_ne]
    exact (g x x0 x6).2 k k0 k1
theorem agW_1 {w : Int → Int} {m : AM} {f c : Int} (hw : wfW w) (g : agW 13 14 w m) (f0 : 0 ≤ f) (f6 : f < 6) (hz : w (126 + 4 * f) < 3) : agW 13 14 (rup (rup w (126 + 4 * f + 1 + w (126 + 4 * f)) c) (126 + 4 * f) (w (126 + 4 * f) + 1)) (am_up (am_up m 14 (f * 3 + m 13 f) c) 13 f (m 13 f + 1)) := by
  have hz0 := (hw f f0 f6).1
  rw [(g f f0 f6).1]
  intro x x0 x6
  have hx := (hw x x0 x6).1
  by_cases e : x = f
  · subst e
    refine ⟨by rw [am_same, rup_same], fun k k0 k1 => ?_⟩
    rw [rup_same] at k1
    by_cases ek : k = w (126 + 4 * x)
    · subst ek
      simp (disch := omega) only [am_same, am_k, rup_same, rup_ne]
    · simp (disch := omega) only [am_same, am_k, am_j, rup_same, rup_ne]
      exact (g x x0 x6).2 k k0 (by omega)
  · refine ⟨by simp (disch := omega) only [am_k, am_j, rup_ne]; exact (g x x0 x6).1, fun k k0 k1 => ?_⟩
    rw [rup_ne (by omega), rup_ne (by omega)] at k1
    simp (disch := omega) only [am_k, am_j, rup_ne]
    exact (g x x0 x6).2 k k0 k1

