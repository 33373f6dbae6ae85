
theorem b_add1 : ∀ f : Nat, f < 6 → ∀ a : Nat, a < 32 → ((a : Int) < p2 f → (a : Int) + p2 f < 64) := by decide +kernel
theorem b_add2 : ∀ f : Nat, f < 5 → ∀ a : Nat, a < 32 → ((a : Int) < p2 f → (a : Int) + p2 f < p2 (f + 1 : Nat)) := by decide +kernel
theorem b_add3 : ∀ f : Nat, f < 5 → ∀ a : Nat, a < 32 → ((a : Int) < p2 f → (a : Int) < p2 (f + 1 : Nat)) := by decide +kernel
theorem b_add4 : ∀ f : Nat, f < 6 → ∀ g : Nat, g < 6 → ∀ a : Nat, a < 32 → ((a : Int) < p2 f → bt ((a : Int) + p2 f) g = if g = f then 1 else bt a g) := by decide +kernel
theorem b_add5 : ∀ f : Nat, f < 6 → ∀ g : Nat, g < 6 → ∀ a : Nat, a < 32 → ((a : Int) < p2 f ∧ f ≤ g → bt a g = 0) := by decide +kernel
theorem b_add (f : Nat) (hf : f < 6) (a : Nat) (ha : a < 32) (h : (a : Int) < p2 f) : (a : Int) + p2 f < 64 ∧ (f < 5 → (a : Int) + p2 f < p2 (f + 1 : Nat)) ∧ (f < 5 → (a : Int) < p2 (f + 1 : Nat)) ∧ (∀ g : Nat, g < 6 → bt ((a : Int) + p2 f) g = if g = f then 1 else bt a g) ∧ ∀ g : Nat, g < 6 → f ≤ g → bt a g = 0 :=
  ⟨b_add1 f hf a ha h, fun z => b_add2 f z a ha h, fun z => b_add3 f z a ha h, fun g hg => b_add4 f hf g hg a ha h, fun g hg z => b_add5 f hf g hg a ha ⟨h, z⟩⟩
theorem b_inj : ∀ f : Nat, f < 6 → (1 ≤ p2 f ∧ p2 f ≤ 32) ∧ ∀ g : Nat, g < 6 → p2 f = p2 g → f = g := by decide +kernel
theorem nf {f : Int} (h0 : 0 ≤ f) : ((f.toNat : Nat) : Int) = f := by omega
theorem dg_i {s f : Int} (h0 : 0 ≤ s) (h1 : s < 4096) (f0 : 0 ≤ f) (f6 : f < 6) : iAnd (iShr s (2 * f)) 3 = dg s f := by
  have q := b_dg (s / 64).toNat (by omega) (s % 64).toNat (by omega) f.toNat (by omega)
  rw [nf f0, show ((64 * (s / 64).toNat + (s % 64).toNat : Nat) : Int) = s by omega] at q
  exact q
theorem shl2_i {f : Int} (f0 : 0 ≤ f) (f6 : f < 6) : iShl 1 (2 * f) = p4 f := by
  have q := b_shl2 f.toNat (by omega)
  rw [nf f0] at q; exact q
theorem shl_i {f : Int} (f0 : 0 ≤ f) (f6 : f < 6) : iShl 1 f = p2 f := by
  have q := b_shl f.toNat (by omega)
  rw [nf f0] at q; exact q
theorem bt_i {x f : Int} (x0 : 0 ≤ x) (x1 : x < 64) (f0 : 0 ≤ f) (f6 : f < 6) : iAnd (iShr x f) 1 = bt x f := by
  have q := b_bt x.toNat (by omega) f.toNat (by omega)
  rw [nf f0, nf x0] at q; exact q
theorem bt2_i {x f : Int} (x0 : 0 ≤ x) (x1 : x < 64) (f0 : 0 ≤ f) (f6 : f < 6) : (iAnd x (p2 f) = 0 ↔ bt x f = 0) ∧ -64 ≤ iAnd x (p2 f) ∧ iAnd x (p2 f) ≤ 64 := by
  have q := b_bt2 x.toNat (by omega) f.toNat (by omega)
  rw [nf f0, nf x0] at q; exact q
theorem sub_i {x y : Int} (x0 : 0 ≤ x) (x1 : x < 64) (y0 : 0 ≤ y) (y1 : y < 64) : (iAnd x (iXor y (-1)) = 0 ↔ ∀ f : Int, 0 ≤ f → f < 6 → bt x f ≤ bt y f) ∧ -64 ≤ iAnd x (iXor y (-1)) ∧ iAnd x (iXor y (-1)) ≤ 64 := by
  have q := b_sub x.toNat (by omega) y.toNat (by omega)
  rw [nf y0, nf x0] at q
  refine ⟨q.1.trans ⟨fun h f a b => ?_, fun h f b => h f (by omega) (by omega)⟩, q.2⟩
  have := h f.toNat (by omega)
  rw [nf a] at this; exact this
theorem rest_i {x : Int} (x0 : 1 ≤ x) (x1 : x < 64) : (0 ≤ iAnd x (x - 1) ∧ iAnd x (x - 1) < x) ∧ (1 ≤ iXor x (iAnd x (x - 1)) ∧ iXor x (iAnd x (x - 1)) ≤ x) ∧ (∀ f : Nat, f < 6 → bt x f = bt (iAnd x (x - 1)) f + bt (iXor x (iAnd x (x - 1))) f) ∧ (∃ f : Nat, f < 6 ∧ iXor x (iAnd x (x - 1)) = p2 f) ∧ (iAnd x (x - 1) = 0 → iXor x (iAnd x (x - 1)) = x) ∧ (iAnd x (x - 1) ≠ 0 → iXor x (iAnd x (x - 1)) < x) := by
  have q := b_rest x.toNat (by omega) (by omega)
  rw [nf (by omega : 0 ≤ x)] at q; exact q
theorem or4_i {x f w : Int} (f0 : 0 ≤ f) (f6 : f < 6) (x0 : 0 ≤ x) (x1 : x < p4 f) (w0 : 0 ≤ w) (w1 : w < 4) : iOr x (iShl w (2 * f)) = x + w * p4 f := by
  have hp : p4 f ≤ 1024 := by rcases (by omega : f = 0 ∨ f = 1 ∨ f = 2 ∨ f = 3 ∨ f = 4 ∨ f = 5) with rfl | rfl | rfl | rfl | rfl | rfl <;> decide
  have e : ((32 * (x / 32).toNat + (x % 32).toNat : Nat) : Int) = x := by omega
  have q := b_or4 f.toNat (by omega) (x / 32).toNat (by omega) (x % 32).toNat (by omega) (by rw [nf f0, e]; exact x1) w.toNat (by omega)
  rw [nf f0, nf w0, e] at q; exact q
theorem or2_i {x f : Int} (f0 : 0 ≤ f) (f6 : f < 6) (x0 : 0 ≤ x) (x1 : x < p2 f) : iOr x (p2 f) = x + p2 f := by
  have hp : p2 f ≤ 32 := by rcases (by omega : f = 0 ∨ f = 1 ∨ f = 2 ∨ f = 3 ∨ f = 4 ∨ f = 5) with rfl | rfl | rfl | rfl | rfl | rfl <;> decide
  have q := b_or2 f.toNat (by omega) x.toNat (by omega) (by rw [nf f0, nf x0]; exact x1)
  rw [nf f0, nf x0] at q; exact q
/-! the class's wishes -/
def clP (W : Int → Int) (M B : Int → Int → Int) (m : AM) : Prop := ∀ f : Int, 0 ≤ f → f < 6 → m 13 f = W f ∧ ∀ k : Int, 0 ≤ k → k < W f → (m 3 (m 14 (f * 3 + k)) = M f k ∧ m 4 (m 14 (f * 3 + k)) = B f k) ∧ 0 ≤ m 14 (f * 3 + k) ∧ m 14 (f * 3 + k) < 12
theorem clP_of {r : Int → Int} {m : AM} (w : wfR r) (g : agB 1 r m) : clP (wW r) (wM r) (wB r) m := by
  obtain ⟨gC, gP, gS, gW⟩ := ag1 g
  have h12 := w.1.1
  intro f a b
  have h := w.2.2.2 f a b
  have e : wW r f = r (126 + 4 * f) := if_pos ⟨a, b⟩
  rw [e]
  refine ⟨(gW f a b).1, fun k x y => ?_⟩
  have h2 := h.2 k x y
  have h3 := gC.2 _ h2.1 h2.2
  have e1 : wM r f k = meR r (r (126 + 4 * f + 1 + k)) := if_pos ⟨⟨a, b⟩, x, y⟩
  have e2 : wB r f k = buR r (r (126 + 4 * f + 1 + k)) := if_pos ⟨⟨a, b⟩, x, y⟩
  rw [e1, e2, (gW f a b).2 k x y]
  exact ⟨⟨h3.1, h3.2.1⟩, h2.1, by omega⟩
theorem clP_frame {W : Int → Int} {M B : Int → Int → Int} {m m' : AM} (h : ∀ (k : Nat) (j : Int), (k = 3 ∨ k = 4 ∨ k = 13 ∨ k = 14) → m' k j = m k j) (c : clP W M B m) : clP W M B m' := by
  intro f a b
  rw [h 13 f (by omega)]
  refine ⟨(c f a b).1, fun k x y => ?_⟩
  rw [h 14 _ (by omega), h 3 _ (by omega), h 4 _ (by omega)]
  exact (c f a b).2 k x y
def lastP (W : Int → Int) (n : Nat) : Int := accL (fun f h => h + W f * p4 f) 0 n
theorem lastP_bd {W : Int → Int} {M B : Int → Int → Int} (w : wOK W M B) : (∀ i : Nat, i < 6 → 0 ≤ lastP W i ∧ lastP W i < p4 i) ∧ lastP W 6 = lastS W := by
  have b0 := (w 0 (by omega) (by omega)).1
  have b1 := (w 1 (by omega) (by omega)).1
  have b2 := (w 2 (by omega) (by omega)).1
  have b3 := (w 3 (by omega) (by omega)).1
  have b4 := (w 4 (by omega) (by omega)).1
  have b5 := (w 5 (by omega) (by omega)).1
  refine ⟨fun i hi => ?_, ?_⟩
  · rcases (by omega : i = 0 ∨ i = 1 ∨ i = 2 ∨ i = 3 ∨ i = 4 ∨ i = 5) with rfl | rfl | rfl | rfl | rfl | rfl
    · show 0 ≤ (0 : Int) ∧ (0 : Int) < 1; omega
    · show 0 ≤ 0 + W 0 * 1 ∧ 0 + W 0 * 1 < 4; omega
    · show 0 ≤ 0 + W 0 * 1 + W 1 * 4 ∧ 0 + W 0 * 1 + W 1 * 4 < 16; omega
    · show 0 ≤ 0 + W 0 * 1 + W 1 * 4 + W 2 * 16 ∧ 0 + W 0 * 1 + W 1 * 4 + W 2 * 16 < 64; omega
    · show 0 ≤ 0 + W 0 * 1 + W 1 * 4 + W 2 * 16 + W 3 * 64 ∧ 0 + W 0 * 1 + W 1 * 4 + W 2 * 16 + W 3 * 64 < 256; omega
    · show 0 ≤ 0 + W 0 * 1 + W 1 * 4 + W 2 * 16 + W 3 * 64 + W 4 * 256 ∧ 0 + W 0 * 1 + W 1 * 4 + W 2 * 16 + W 3 * 64 + W 4 * 256 < 1024; omega
  · show 0 + W 0 * 1 + W 1 * 4 + W 2 * 16 + W 3 * 64 + W 4 * 256 + W 5 * 1024 = lastS W
    unfold lastS; omega

