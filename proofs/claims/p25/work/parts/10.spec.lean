theorem bp_m4 : (Int8.ofInt (-4)).toInt32 = Int32.ofInt (-4) := by decide +kernel
theorem bp_m3 : (Int8.ofInt (-3)).toInt32 = Int32.ofInt (-3) := by decide +kernel
theorem bp_m2 : (Int8.ofInt (-2)).toInt32 = Int32.ofInt (-2) := by decide +kernel
theorem bp_6 : (Int8.ofInt 6).toInt32 = Int32.ofInt 6 := by decide +kernel
theorem bp_7 : (Int8.ofInt 7).toInt32 = Int32.ofInt 7 := by decide +kernel
theorem bp_8 : (Int8.ofInt 8).toInt32 = Int32.ofInt 8 := by decide +kernel
theorem bp_9 : (Int8.ofInt 9).toInt32 = Int32.ofInt 9 := by decide +kernel
theorem bp_10 : (Int8.ofInt 10).toInt32 = Int32.ofInt 10 := by decide +kernel
theorem bp_11 : (Int8.ofInt 11).toInt32 = Int32.ofInt 11 := by decide +kernel
theorem bp_12 : (Int8.ofInt 12).toInt32 = Int32.ofInt 12 := by decide +kernel
theorem bp_18 : (Int8.ofInt 18).toInt32 = Int32.ofInt 18 := by decide +kernel
theorem bp_19 : (Int8.ofInt 19).toInt32 = Int32.ofInt 19 := by decide +kernel
theorem bp_20 : (Int8.ofInt 20).toInt32 = Int32.ofInt 20 := by decide +kernel
theorem bp_21 : (Int8.ofInt 21).toInt32 = Int32.ofInt 21 := by decide +kernel
theorem bp_31 : (Int8.ofInt 31).toInt32 = Int32.ofInt 31 := by decide +kernel
theorem bp_32 : (Int8.ofInt 32).toInt32 = Int32.ofInt 32 := by decide +kernel
theorem bp_37 : (Int8.ofInt 37).toInt32 = Int32.ofInt 37 := by decide +kernel
theorem bp_40 : (Int8.ofInt 40).toInt32 = Int32.ofInt 40 := by decide +kernel
theorem bp_48 : (Int8.ofInt 48).toInt32 = Int32.ofInt 48 := by decide +kernel
theorem bp_53 : (Int8.ofInt 53).toInt32 = Int32.ofInt 53 := by decide +kernel
theorem bp_59 : (Int8.ofInt 59).toInt32 = Int32.ofInt 59 := by decide +kernel
theorem bp_60 : (Int8.ofInt 60).toInt32 = Int32.ofInt 60 := by decide +kernel
theorem bp_61 : (Int8.ofInt 61).toInt32 = Int32.ofInt 61 := by decide +kernel
theorem bp_64 : (Int8.ofInt 64).toInt32 = Int32.ofInt 64 := by decide +kernel
theorem bp_80 : (Int8.ofInt 80).toInt32 = Int32.ofInt 80 := by decide +kernel
theorem bp_97 : (Int8.ofInt 97).toInt32 = Int32.ofInt 97 := by decide +kernel
theorem bp_108 : (Int8.ofInt 108).toInt32 = Int32.ofInt 108 := by decide +kernel
theorem bp_114 : (Int8.ofInt 114).toInt32 = Int32.ofInt 114 := by decide +kernel
theorem bp_115 : (Int8.ofInt 115).toInt32 = Int32.ofInt 115 := by decide +kernel
theorem bp_116 : (Int8.ofInt 116).toInt32 = Int32.ofInt 116 := by decide +kernel
theorem bp_117 : (Int8.ofInt 117).toInt32 = Int32.ofInt 117 := by decide +kernel
theorem bp_118 : (Int8.ofInt 118).toInt32 = Int32.ofInt 118 := by decide +kernel
theorem bp_119 : (Int8.ofInt 119).toInt32 = Int32.ofInt 119 := by decide +kernel
theorem bp_120 : (Int8.ofInt 120).toInt32 = Int32.ofInt 120 := by decide +kernel
theorem bp_121 : (Int8.ofInt 121).toInt32 = Int32.ofInt 121 := by decide +kernel
theorem bp_122 : (Int8.ofInt 122).toInt32 = Int32.ofInt 122 := by decide +kernel
theorem bp_123 : (Int8.ofInt 123).toInt32 = Int32.ofInt 123 := by decide +kernel
theorem bp_124 : (Int8.ofInt 124).toInt32 = Int32.ofInt 124 := by decide +kernel
theorem bp_125 : (Int8.ofInt 125).toInt32 = Int32.ofInt 125 := by decide +kernel
theorem bp_126 : (Int8.ofInt 126).toInt32 = Int32.ofInt 126 := by decide +kernel
theorem sp_150 : (Int16.ofInt 150).toInt32 = Int32.ofInt 150 := by decide +kernel
theorem sp_160 : (Int16.ofInt 160).toInt32 = Int32.ofInt 160 := by decide +kernel
theorem sp_170 : (Int16.ofInt 170).toInt32 = Int32.ofInt 170 := by decide +kernel
theorem sp_200 : (Int16.ofInt 200).toInt32 = Int32.ofInt 200 := by decide +kernel
theorem sp_400 : (Int16.ofInt 400).toInt32 = Int32.ofInt 400 := by decide +kernel
theorem sp_450 : (Int16.ofInt 450).toInt32 = Int32.ofInt 450 := by decide +kernel
theorem sp_500 : (Int16.ofInt 500).toInt32 = Int32.ofInt 500 := by decide +kernel
theorem sp_600 : (Int16.ofInt 600).toInt32 = Int32.ofInt 600 := by decide +kernel
theorem sp_900 : (Int16.ofInt 900).toInt32 = Int32.ofInt 900 := by decide +kernel
theorem sp_1000 : (Int16.ofInt 1000).toInt32 = Int32.ofInt 1000 := by decide +kernel
theorem sp_1200 : (Int16.ofInt 1200).toInt32 = Int32.ofInt 1200 := by decide +kernel
theorem sp_4095 : (Int16.ofInt 4095).toInt32 = Int32.ofInt 4095 := by decide +kernel
theorem sp_4096 : (Int16.ofInt 4096).toInt32 = Int32.ofInt 4096 := by decide +kernel

theorem up_rec (n : Int) (P : Nat → Prop) (h0 : 0 ≤ n) (h : ∀ i : Nat, (i : Int) ≤ n → ((i : Int) < n → P (i + 1)) → P i) : P 0 := by
  have key : ∀ k i : Nat, (i : Int) + k = n → P i := by
    intro k
    induction k with
    | zero => exact fun i hi => h i (by omega) (fun z => by omega)
    | succ k ih => exact fun i hi => h i (by omega) (fun _ => ih (i + 1) (by omega))
  exact key n.toNat 0 (by omega)
theorem AP.to {K : Nat} {M : MI} {pc : Nat} {L L' : List (Option AV)} {S S' : List AV} {m m' : AM} {Q : Option Int → AM → Prop} (k : AP K M pc L' S' m' Q) (hL : L' = L) (hS : S' = S) (hm : m' = m) : AP K M pc L S m Q := by
  subst hL; subst hS; subst hm; exact k
def lle : List (Option AV) → List (Option AV) → Prop
  | [], _ => True
  | none :: L', _ :: L => True ∧ lle L' L
  | some v :: L', o :: L => o = some v ∧ lle L' L
  | _ :: _, [] => False
theorem lle_at : ∀ (L' L : List (Option AV)), lle L' L → ∀ (i : Nat) (v : AV), L'[i]? = some (some v) → L[i]? = some (some v)
  | [], _, _, i, v, hv => by simp at hv
  | none :: L', [], h, _, _, _ => by cases h
  | some _ :: L', [], h, _, _, _ => by cases h
  | none :: L', o :: L, h, i, v, hv => by
    cases i with
    | zero => simp at hv
    | succ i => exact lle_at L' L h.2 i v (by simpa using hv)
  | some w :: L', o :: L, h, i, v, hv => by
    cases i with
    | zero =>
      have e : w = v := by simpa using hv
      have h1 := h.1
      subst e
      simpa using h1
    | succ i => exact lle_at L' L h.2 i v (by simpa using hv)
theorem AP.bk {K : Nat} {M : MI} {pc : Nat} {L L' : List (Option AV)} {S : List AV} {m m' : AM} {Q : Option Int → AM → Prop} (k : AP K M pc L' S m' Q) (hL : lle L' L) (hm : m = m') : AP K M pc L S m Q := by
  subst hm; exact k.loc (lle_at L' L hL)
theorem am_same {m : AM} {k : Nat} {j v : Int} : am_up m k j v k j = v := if_pos ⟨rfl, rfl⟩
theorem am_k {m : AM} {k k' : Nat} {j j' v : Int} (h : k' ≠ k) : am_up m k j v k' j' = m k' j' := if_neg (fun z => h z.1)
theorem am_j {m : AM} {k k' : Nat} {j j' v : Int} (h : j' ≠ j) : am_up m k j v k' j' = m k' j' := if_neg (fun z => h z.2)
def sumL (g : Int → Int) : Nat → Int
  | 0 => 0
  | k + 1 => sumL g k + g k
theorem sumL_succ (g : Int → Int) (k : Nat) : sumL g (k + 1) = sumL g k + g k := rfl
theorem sumL_congr {g g' : Int → Int} {k : Nat} (h : ∀ i : Nat, i < k → g i = g' i) : sumL g k = sumL g' k := by
  induction k with
  | zero => rfl
  | succ k ih => rw [sumL_succ, sumL_succ, ih (fun i hi => h i (by omega)), h k (by omega)]
def isPlate (p sz co st so cr : Nat) : Prop := (sz = p + 1 ∧ co = p + 2 ∧ st = p + 3 ∧ so = p + 4 ∧ cr = p + 5) ∧ SH[p]? = some (.inl (5, [some (some sz), some (some co), some (some st), some (some so), some (some cr)])) ∧ SH[sz]? = some (.inr (.inl (0, 7))) ∧ SH[co]? = some (.inr (.inl (0, 21))) ∧ SH[st]? = some (.inr (.inl (0, 21))) ∧ SH[so]? = some (.inr (.inl (0, 21))) ∧ SH[cr]? = some (.inr (.inl (0, 6)))
theorem isPlate.n {p sz co st so cr : Nat} (h : isPlate p sz co st so cr) : sz = p + 1 ∧ co = p + 2 ∧ st = p + 3 ∧ so = p + 4 ∧ cr = p + 5 := h.1
theorem isPlate.o {p sz co st so cr : Nat} (h : isPlate p sz co st so cr) : SH[p]? = some (.inl (5, [some (some sz), some (some co), some (some st), some (some so), some (some cr)])) := h.2.1
theorem isPlate.a {p sz co st so cr : Nat} (h : isPlate p sz co st so cr) : SH[sz]? = some (.inr (.inl (0, 7))) := h.2.2.1
theorem isPlate.b {p sz co st so cr : Nat} (h : isPlate p sz co st so cr) : SH[co]? = some (.inr (.inl (0, 21))) := h.2.2.2.1
theorem isPlate.c {p sz co st so cr : Nat} (h : isPlate p sz co st so cr) : SH[st]? = some (.inr (.inl (0, 21))) := h.2.2.2.2.1
theorem isPlate.d {p sz co st so cr : Nat} (h : isPlate p sz co st so cr) : SH[so]? = some (.inr (.inl (0, 21))) := h.2.2.2.2.2.1
theorem isPlate.e {p sz co st so cr : Nat} (h : isPlate p sz co st so cr) : SH[cr]? = some (.inr (.inl (0, 6))) := h.2.2.2.2.2.2
theorem plate6 : isPlate 6 7 8 9 10 11 := ⟨⟨rfl, rfl, rfl, rfl, rfl⟩, rfl, rfl, rfl, rfl, rfl, rfl⟩
theorem plate85 : isPlate 85 86 87 88 89 90 := ⟨⟨rfl, rfl, rfl, rfl, rfl⟩, rfl, rfl, rfl, rfl, rfl, rfl⟩
/-- an answer of a yes-or-no method that writes nothing -/
abbrev yn (C : Prop) (m : AM) : Option Int → AM → Prop := fun v m' => ((C ∧ v = some 1) ∨ (¬ C ∧ v = some 0)) ∧ m = m'
abbrev an (z : Int) (m : AM) : Option Int → AM → Prop := fun v m' => v = some z ∧ m = m'
/-- layers smooth or dull hold on -/
abbrev holds (s : Int) : Prop := s = 2 ∨ s = 3
/-- the pull of a field out of how many layers, their states and their colours' expansions -/
def pullS (n : Int) (St Ex : Int → Int) : Int := sumL (fun l => if holds (St l) then 170 - Ex l else 0) n.toNat
theorem nat_of {n : Int} (h : 0 ≤ n) {i : Nat} (h1 : (i : Int) ≤ n) (h2 : n ≤ (i : Int)) : i = n.toNat := by omega

