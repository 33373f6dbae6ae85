
/-! longs in the locals and at the bottom of the stack -/
def lst (LS : List Int64) : List Value := LS.map Value.long
def lvK (ls : Array Slot) (LL : List (Nat × Int64)) : Prop := ∀ q ∈ LL, ls[q.1]? = some (.val (.long q.2))
def lkO (LL : List (Nat × Int64)) (i : Nat) : Prop := ∀ q ∈ LL, q.1 ≠ i ∧ q.1 + 1 ≠ i
def aPrL (ad : Nat → Nat) (L : List (Option AV)) (LL : List (Nat × Int64)) : List (Nat × Value) := aPr ad L ++ LL.map (fun q => (q.1, Value.long q.2))
theorem aPrL_of {ad : Nat → Nat} {L : List (Option AV)} {LL : List (Nat × Int64)} {q : Nat × Value} (h : q ∈ aPr ad L) : q ∈ aPrL ad L LL := List.mem_append_left _ h
theorem lvL.hasL {ad : Nat → Nat} {ls : Array Slot} {nL : Nat} {L : List (Option AV)} {LL : List (Nat × Int64)} (h : lvL ad ls nL L) (hl : lvK ls LL) : lv_has ls nL (aPrL ad L LL) := by
  have h0 := lvL.has h
  refine ⟨h0.1, h0.2.1, fun q hq => ?_⟩
  rcases List.mem_append.mp hq with hq | hq
  · exact h0.2.2 q hq
  · obtain ⟨z, hz, rfl⟩ := List.mem_map.mp hq
    exact hl z hz
theorem lvL.storeL {ad : Nat → Nat} {ls' : Array Slot} {nL i : Nat} {L : List (Option AV)} {LL : List (Nat × Int64)} {v : AV} (h : lv_has ls' nL ((i, cv ad v) :: (aPrL ad L LL).filter (fun q => !(q.1 == i) && !(q.1 + 1 == i && q.2.category == 2)))) (hlk : lkO LL i) : lvL ad ls' nL (L.set i (some v)) ∧ lvK ls' LL := by
  refine ⟨lvL.store ⟨h.1, h.2.1, fun q hq => h.2.2 q ?_⟩, fun q hq => ?_⟩
  · rcases List.mem_cons.mp hq with hq | hq
    · exact hq ▸ List.mem_cons_self
    · have := List.mem_filter.mp hq
      exact List.mem_cons_of_mem _ (List.mem_filter.mpr ⟨aPrL_of this.1, this.2⟩)
  · have h1 := hlk q hq
    refine h.2.2 (q.1, Value.long q.2) (List.mem_cons_of_mem _ (List.mem_filter.mpr ⟨List.mem_append_right _ (List.mem_map.mpr ⟨q, hq, rfl⟩), ?_⟩))
    simp [h1.1, h1.2]
theorem lvL.storeJ {ad : Nat → Nat} {ls' : Array Slot} {nL i : Nat} {L : List (Option AV)} {LL LL' : List (Nat × Int64)} {x : Int64} (h : lv_has ls' nL ((i, Value.long x) :: (aPrL ad L LL).filter (fun q => !(q.1 == i) && (!(q.1 == i + 1) && !(q.1 + 1 == i && q.2.category == 2))))) (hlk : ∀ q ∈ LL', q = (i, x) ∨ (q ∈ LL ∧ q.1 ≠ i ∧ q.1 ≠ i + 1 ∧ q.1 + 1 ≠ i)) : lvL ad ls' nL ((L.set i none).set (i + 1) none) ∧ lvK ls' LL' := by
  refine ⟨⟨h.1, h.2.1, fun j v hj => ?_⟩, fun q hq => ?_⟩
  · by_cases e1 : j = i + 1
    · subst e1
      by_cases hlt : i + 1 < (L.set i none).length
      · rw [List.getElem?_set_self hlt] at hj; cases hj
      · rw [List.getElem?_eq_none (by simpa using hlt)] at hj; cases hj
    · rw [List.getElem?_set_ne (Ne.symm e1)] at hj
      by_cases e : j = i
      · subst e
        by_cases hlt : j < L.length
        · rw [List.getElem?_set_self hlt] at hj; cases hj
        · rw [List.getElem?_eq_none (by simpa using hlt)] at hj; cases hj
      · rw [List.getElem?_set_ne (Ne.symm e)] at hj
        refine h.2.2 (j, cv ad v) (List.mem_cons_of_mem _ (List.mem_filter.mpr ⟨aPrL_of (aPr_mem.mpr ⟨v, hj, rfl⟩), ?_⟩))
        simp [e, e1, cv_cat]
  · rcases hlk q hq with rfl | ⟨h1, h2, h3, h4⟩
    · exact h.2.2 _ List.mem_cons_self
    · refine h.2.2 (q.1, Value.long q.2) (List.mem_cons_of_mem _ (List.mem_filter.mpr ⟨List.mem_append_right _ (List.mem_map.mpr ⟨q, h1, rfl⟩), ?_⟩))
      simp [h2, h3, h4]
def aFiL (M : MI) (E : AE) (l : Launch) (p : Program) (e : Env) (R : Room) (s : State) (m : MethodId) (args : Array Value) (below : List Frame) (meth : Method) (c : Code) (A : Nat → Prop) (dC : Nat → ClassId) (dI : Nat → Nat → Nat) (dA : Nat → ClassId) (ad0 : Nat → Nat) (n0 m0 : Nat) (QQ : State → Prop) (QL : Int64 → HP → Prop) : Prop :=
  ∀ (v : Int64) (h' : HP) (H' : Heap) (locs' : List Loc) (cells' slots' : Nat) (ad' : Nat → Nat) (ls' : Array Slot) (pc' : Nat) (L' : List (Option AV)), QL v h' → aDy M E s H' locs' cells' slots' A dC dI dA ad' ad0 ls' n0 m0 L' h' → h'.1.length = E.2.2.2.1 → slS h'.1 = E.2.2.2.2 → (decode M.2.1 pc' = .ok (.lreturn, 1) ∧ M.2.2.2 = some .long) → W p l e R s m args below meth c H' locs' cells' slots' QQ (F0 m pc' ls' [.long v])
def AL (M : MI) (E : AE) (QL : Int64 → HP → Prop) (LL : List (Nat × Int64)) (LS : List Int64) (pc : Nat) (L : List (Option AV)) (S : List AV) (h : HP) (Q : Option Int → HP → Prop) : Prop :=
  ∀ (l : Launch) (p : Program) (e : Env) (R : Room) (s : State) (m : MethodId) (args : Array Value) (below : List Frame) (meth : Method) (c : Code) (H : Heap) (locs : List Loc) (cells slots : Nat) (A : Nat → Prop) (dC : Nat → ClassId) (dI : Nat → Nat → Nat) (dA : Nat → ClassId) (ad ad0 : Nat → Nat) (ls : Array Slot) (n0 m0 : Nat) (QQ : State → Prop),
    aSt M E p R s m args meth c A dC dI dA n0 m0 → aFi M E l p e R s m args below meth c A dC dI dA ad0 n0 m0 QQ Q → aFiL M E l p e R s m args below meth c A dC dI dA ad0 n0 m0 QQ QL → aDy M E s H locs cells slots A dC dI dA ad ad0 ls n0 m0 L h → lvK ls LL → W p l e R s m args below meth c H locs cells slots QQ (F0 m pc ls (S.map (cv ad) ++ lst LS))
theorem AL.mono {M : MI} {E : AE} {QL : Int64 → HP → Prop} {LL : List (Nat × Int64)} {LS : List Int64} {pc : Nat} {L : List (Option AV)} {S : List AV} {h : HP} {Q Q' : Option Int → HP → Prop} (k : AL M E QL LL LS pc L S h Q) (hq : ∀ v h', Q v h' → Q' v h') : AL M E QL LL LS pc L S h Q' := by
  intro l p e R s m args below meth c H locs cells slots A dC dI dA ad ad0 ls n0 m0 QQ hs hf hfl hy hl
  exact k l p e R s m args below meth c H locs cells slots A dC dI dA ad ad0 ls n0 m0 QQ hs (fun v h' H' locs' cells' slots' ad' ls' pc' L' q => hf v h' H' locs' cells' slots' ad' ls' pc' L' (hq v h' q)) hfl hy hl
theorem AL.loc {M : MI} {E : AE} {QL : Int64 → HP → Prop} {LL : List (Nat × Int64)} {LS : List Int64} {pc : Nat} {L L' : List (Option AV)} {S : List AV} {h : HP} {Q : Option Int → HP → Prop} (k : AL M E QL LL LS pc L' S h Q) (hL : ∀ (i : Nat) (v : AV), L'[i]? = some (some v) → L[i]? = some (some v)) : AL M E QL LL LS pc L S h Q := by
  intro l p e R s m args below meth c H locs cells slots A dC dI dA ad ad0 ls n0 m0 QQ hs hf hfl hy hl
  obtain ⟨y1, y2, y3, y4, y5, y6, y7, y8⟩ := hy
  exact k l p e R s m args below meth c H locs cells slots A dC dI dA ad ad0 ls n0 m0 QQ hs hf hfl ⟨y1, y2, y3, y4, y5, ⟨y6.1, y6.2.1, fun i v hv => y6.2.2 i v (hL i v hv)⟩, y7, y8⟩ hl
/-- an entry to a method without longs yet -/
theorem AL.toW {M : MI} {E : AE} {QL : Int64 → HP → Prop} {pc : Nat} {L : List (Option AV)} {S : List AV} {h : HP} {Q : Option Int → HP → Prop} (hn : M.2.2.2 ≠ some .long) (k : AL M E QL [] [] pc L S h Q) : AW M E pc L S h Q := by
  intro l p e R s m args below meth c H locs cells slots A dC dI dA ad ad0 ls n0 m0 QQ hs hf hy
  have h1 := k l p e R s m args below meth c H locs cells slots A dC dI dA ad ad0 ls n0 m0 QQ hs hf (fun v h' H' locs' cells' slots' ad' ls' pc' L' _ _ _ _ z => absurd z.2 hn) hy (fun q hq => by cases hq)
  rw [show S.map (cv ad) ++ lst [] = S.map (cv ad) from List.append_nil _] at h1
  exact h1
def iDiv (x y : Int) : Int := (Int32.ofInt x / Int32.ofInt y).toInt
def iUshr (x y : Int) : Int := ((Int32.ofInt x).toUInt32 >>> ((Int32.ofInt y).toUInt32 &&& Int32.toUInt32 31)).toInt32.toInt
section MACHL
variable {M : MI} {E : AE} {QL : Int64 → HP → Prop} {LL : List (Nat × Int64)} {LS : List Int64} {pc : Nat} {L : List (Option AV)} {S : List AV} {h : HP} {Q : Option Int → HP → Prop}
theorem al_const {n : Int} (hd : decode M.2.1 pc = .ok (.iconst n, 1))
    (k : AL M E QL LL LS (pc + 1) L (.inl n :: S) h Q) : AL M E QL LL LS pc L S h Q := by
  intro l p e R s m args below meth c H locs cells slots A dC dI dA ad ad0 ls n0 m0 QQ hs hf hfl hy hl
  exact lv_iconst hs.1 hs.2.1 hd rfl (k l p e R s m args below meth c H locs cells slots A dC dI dA ad ad0 ls n0 m0 QQ hs hf hfl hy hl)
theorem al_bipush {n : Int} (hd : decode M.2.1 pc = .ok (.bipush n, 2)) (hn : (Int8.ofInt n).toInt32 = Int32.ofInt n)
    (k : AL M E QL LL LS (pc + 2) L (.inl n :: S) h Q) : AL M E QL LL LS pc L S h Q := by
  intro l p e R s m args below meth c H locs cells slots A dC dI dA ad ad0 ls n0 m0 QQ hs hf hfl hy hl
  exact lv_bipush hs.1 hs.2.1 hd hn (k l p e R s m args below meth c H locs cells slots A dC dI dA ad ad0 ls n0 m0 QQ hs hf hfl hy hl)
theorem al_sipush {n : Int} (hd : decode M.2.1 pc = .ok (.sipush n, 3)) (hn : (Int16.ofInt n).toInt32 = Int32.ofInt n)
    (k : AL M E QL LL LS (pc + 3) L (.inl n :: S) h Q) : AL M E QL LL LS pc L S h Q := by
  intro l p e R s m args below meth c H locs cells slots A dC dI dA ad ad0 ls n0 m0 QQ hs hf hfl hy hl
  exact lv_sipush hs.1 hs.2.1 hd hn (k l p e R s m args below meth c H locs cells slots A dC dI dA ad ad0 ls n0 m0 QQ hs hf hfl hy hl)
theorem al_ild_n {i : Nat} {j : Fin 4} {x : Int} (hd : decode M.2.1 pc = .ok (.iload_n j, 1)) (hi : (j : Nat) = i) (hL : L[i]? = some (some (.inl x)))
    (k : AL M E QL LL LS (pc + 1) L (.inl x :: S) h Q) : AL M E QL LL LS pc L S h Q := by
  intro l p e R s m args below meth c H locs cells slots A dC dI dA ad ad0 ls n0 m0 QQ hs hf hfl hy hl
  exact lv_iload_n hs.1 hs.2.1 hd hi (hy.2.2.2.2.2.1.2.2 _ _ hL) (k l p e R s m args below meth c H locs cells slots A dC dI dA ad ad0 ls n0 m0 QQ hs hf hfl hy hl)
theorem al_ild {i : Nat} {x : Int} (hd : decode M.2.1 pc = .ok (.iload i, 2)) (hL : L[i]? = some (some (.inl x)))
    (k : AL M E QL LL LS (pc + 2) L (.inl x :: S) h Q) : AL M E QL LL LS pc L S h Q := by
  intro l p e R s m args below meth c H locs cells slots A dC dI dA ad ad0 ls n0 m0 QQ hs hf hfl hy hl
  exact lv_iload hs.1 hs.2.1 hd (hy.2.2.2.2.2.1.2.2 _ _ hL) (k l p e R s m args below meth c H locs cells slots A dC dI dA ad ad0 ls n0 m0 QQ hs hf hfl hy hl)
theorem al_ist_n {i : Nat} {j : Fin 4} {L' : List (Option AV)} {x : Int} (hd : decode M.2.1 pc = .ok (.istore_n j, 1)) (hi : (j : Nat) = i) (hn : i < M.2.2.1) (hL : L.set i (some (.inl x)) = L') (hlk : lkO LL i)
    (k : AL M E QL LL LS (pc + 1) L' S h Q) : AL M E QL LL LS pc L (.inl x :: S) h Q := by
  intro l p e R s m args below meth c H locs cells slots A dC dI dA ad ad0 ls n0 m0 QQ hs hf hfl hy hl
  subst hL
  exact lv_istore_n hs.1 hs.2.1 hd hi (lvL.hasL hy.2.2.2.2.2.1 hl) hn rfl (fun ls' h' => k l p e R s m args below meth c H locs cells slots A dC dI dA ad ad0 ls' n0 m0 QQ hs hf hfl ⟨hy.1, hy.2.1, hy.2.2.1, hy.2.2.2.1, hy.2.2.2.2.1, (lvL.storeL (v := .inl x) h' hlk).1, hy.2.2.2.2.2.2.1, hy.2.2.2.2.2.2.2⟩ (lvL.storeL (v := .inl x) h' hlk).2)
theorem al_ist {i : Nat} {L' : List (Option AV)} {x : Int} (hd : decode M.2.1 pc = .ok (.istore i, 2)) (hn : i < M.2.2.1) (hL : L.set i (some (.inl x)) = L') (hlk : lkO LL i)
    (k : AL M E QL LL LS (pc + 2) L' S h Q) : AL M E QL LL LS pc L (.inl x :: S) h Q := by
  intro l p e R s m args below meth c H locs cells slots A dC dI dA ad ad0 ls n0 m0 QQ hs hf hfl hy hl
  subst hL
  exact lv_istore hs.1 hs.2.1 hd (lvL.hasL hy.2.2.2.2.2.1 hl) hn rfl (fun ls' h' => k l p e R s m args below meth c H locs cells slots A dC dI dA ad ad0 ls' n0 m0 QQ hs hf hfl ⟨hy.1, hy.2.1, hy.2.2.1, hy.2.2.2.1, hy.2.2.2.2.1, (lvL.storeL (v := .inl x) h' hlk).1, hy.2.2.2.2.2.2.1, hy.2.2.2.2.2.2.2⟩ (lvL.storeL (v := .inl x) h' hlk).2)
theorem al_ald_n {i : Nat} {j : Fin 4} {x : Nat} (hd : decode M.2.1 pc = .ok (.aload_n j, 1)) (hi : (j : Nat) = i) (hL : L[i]? = some (some (.inr x)))
    (k : AL M E QL LL LS (pc + 1) L (.inr x :: S) h Q) : AL M E QL LL LS pc L S h Q := by
  intro l p e R s m args below meth c H locs cells slots A dC dI dA ad ad0 ls n0 m0 QQ hs hf hfl hy hl
  exact lv_aload_n hs.1 hs.2.1 hd hi (hy.2.2.2.2.2.1.2.2 _ _ hL) (k l p e R s m args below meth c H locs cells slots A dC dI dA ad ad0 ls n0 m0 QQ hs hf hfl hy hl)
theorem al_ald {i : Nat} {x : Nat} (hd : decode M.2.1 pc = .ok (.aload i, 2)) (hL : L[i]? = some (some (.inr x)))
    (k : AL M E QL LL LS (pc + 2) L (.inr x :: S) h Q) : AL M E QL LL LS pc L S h Q := by
  intro l p e R s m args below meth c H locs cells slots A dC dI dA ad ad0 ls n0 m0 QQ hs hf hfl hy hl
  exact lv_aload hs.1 hs.2.1 hd (hy.2.2.2.2.2.1.2.2 _ _ hL) (k l p e R s m args below meth c H locs cells slots A dC dI dA ad ad0 ls n0 m0 QQ hs hf hfl hy hl)
theorem al_ast_n {i : Nat} {j : Fin 4} {L' : List (Option AV)} {x : Nat} (hd : decode M.2.1 pc = .ok (.astore_n j, 1)) (hi : (j : Nat) = i) (hn : i < M.2.2.1) (hL : L.set i (some (.inr x)) = L') (hlk : lkO LL i)
    (k : AL M E QL LL LS (pc + 1) L' S h Q) : AL M E QL LL LS pc L (.inr x :: S) h Q := by
  intro l p e R s m args below meth c H locs cells slots A dC dI dA ad ad0 ls n0 m0 QQ hs hf hfl hy hl
  subst hL
  exact lv_astore_n hs.1 hs.2.1 hd hi (lvL.hasL hy.2.2.2.2.2.1 hl) hn rfl (fun ls' h' => k l p e R s m args below meth c H locs cells slots A dC dI dA ad ad0 ls' n0 m0 QQ hs hf hfl ⟨hy.1, hy.2.1, hy.2.2.1, hy.2.2.2.1, hy.2.2.2.2.1, (lvL.storeL (v := .inr x) h' hlk).1, hy.2.2.2.2.2.2.1, hy.2.2.2.2.2.2.2⟩ (lvL.storeL (v := .inr x) h' hlk).2)
theorem al_ast {i : Nat} {L' : List (Option AV)} {x : Nat} (hd : decode M.2.1 pc = .ok (.astore i, 2)) (hn : i < M.2.2.1) (hL : L.set i (some (.inr x)) = L') (hlk : lkO LL i)
    (k : AL M E QL LL LS (pc + 2) L' S h Q) : AL M E QL LL LS pc L (.inr x :: S) h Q := by
  intro l p e R s m args below meth c H locs cells slots A dC dI dA ad ad0 ls n0 m0 QQ hs hf hfl hy hl
  subst hL
  exact lv_astore hs.1 hs.2.1 hd (lvL.hasL hy.2.2.2.2.2.1 hl) hn rfl (fun ls' h' => k l p e R s m args below meth c H locs cells slots A dC dI dA ad ad0 ls' n0 m0 QQ hs hf hfl ⟨hy.1, hy.2.1, hy.2.2.1, hy.2.2.2.1, hy.2.2.2.2.1, (lvL.storeL (v := .inr x) h' hlk).1, hy.2.2.2.2.2.2.1, hy.2.2.2.2.2.2.2⟩ (lvL.storeL (v := .inr x) h' hlk).2)
theorem al_iinc {i : Nat} {n x : Int} {L' : List (Option AV)} (hd : decode M.2.1 pc = .ok (.iinc i n, 3)) (hn : i < M.2.2.1) (hx : L[i]? = some (some (.inl x))) (hL : L.set i (some (.inl (x + n))) = L') (hlk : lkO LL i)
    (k : AL M E QL LL LS (pc + 3) L' S h Q) : AL M E QL LL LS pc L S h Q := by
  intro l p e R s m args below meth c H locs cells slots A dC dI dA ad ad0 ls n0 m0 QQ hs hf hfl hy hl
  subst hL
  obtain ⟨q, hq⟩ := List.getElem?_of_mem (aPrL_of (aPr_mem.mpr ⟨_, hx, rfl⟩) : ((i, cv ad (.inl x)) : Nat × Value) ∈ aPrL ad L LL)
  exact lv_iinc (v := Int32.ofInt (x + n)) hs.1 hs.2.1 hd (lvL.hasL hy.2.2.2.2.2.1 hl) hq (ofI_add x n).symm hn rfl (fun ls' h' => k l p e R s m args below meth c H locs cells slots A dC dI dA ad ad0 ls' n0 m0 QQ hs hf hfl ⟨hy.1, hy.2.1, hy.2.2.1, hy.2.2.2.1, hy.2.2.2.2.1, (lvL.storeL (v := .inl (x + n)) h' hlk).1, hy.2.2.2.2.2.2.1, hy.2.2.2.2.2.2.2⟩ (lvL.storeL (v := .inl (x + n)) h' hlk).2)
theorem al_iadd {x y : Int} (hd : decode M.2.1 pc = .ok (.iadd, 1))
    (k : AL M E QL LL LS (pc + 1) L (.inl (x + y) :: S) h Q) : AL M E QL LL LS pc L (.inl y :: .inl x :: S) h Q := by
  intro l p e R s m args below meth c H locs cells slots A dC dI dA ad ad0 ls n0 m0 QQ hs hf hfl hy hl
  refine lv_iadd hs.1 hs.2.1 hd ?_
  rw [← ofI_add x y]
  exact k l p e R s m args below meth c H locs cells slots A dC dI dA ad ad0 ls n0 m0 QQ hs hf hfl hy hl
theorem al_isub {x y : Int} (hd : decode M.2.1 pc = .ok (.isub, 1))
    (k : AL M E QL LL LS (pc + 1) L (.inl (x - y) :: S) h Q) : AL M E QL LL LS pc L (.inl y :: .inl x :: S) h Q := by
  intro l p e R s m args below meth c H locs cells slots A dC dI dA ad ad0 ls n0 m0 QQ hs hf hfl hy hl
  refine lv_isub hs.1 hs.2.1 hd ?_
  rw [← ofI_sub x y]
  exact k l p e R s m args below meth c H locs cells slots A dC dI dA ad ad0 ls n0 m0 QQ hs hf hfl hy hl
theorem al_imul {x y : Int} (hd : decode M.2.1 pc = .ok (.imul, 1))
    (k : AL M E QL LL LS (pc + 1) L (.inl (x * y) :: S) h Q) : AL M E QL LL LS pc L (.inl y :: .inl x :: S) h Q := by
  intro l p e R s m args below meth c H locs cells slots A dC dI dA ad ad0 ls n0 m0 QQ hs hf hfl hy hl
  refine lv_imul hs.1 hs.2.1 hd ?_
  rw [← ofI_mul x y]
  exact k l p e R s m args below meth c H locs cells slots A dC dI dA ad ad0 ls n0 m0 QQ hs hf hfl hy hl
theorem al_iand {x y : Int} (hd : decode M.2.1 pc = .ok (.iand, 1))
    (k : AL M E QL LL LS (pc + 1) L (.inl (iAnd x y) :: S) h Q) : AL M E QL LL LS pc L (.inl y :: .inl x :: S) h Q := by
  intro l p e R s m args below meth c H locs cells slots A dC dI dA ad ad0 ls n0 m0 QQ hs hf hfl hy hl
  refine lv_iand hs.1 hs.2.1 hd ?_
  have hk := k l p e R s m args below meth c H locs cells slots A dC dI dA ad ad0 ls n0 m0 QQ hs hf hfl hy hl
  simp only [List.map_cons, List.cons_append, cv, iAnd, Int32.ofInt_toInt] at hk
  exact hk
theorem al_ixor {x y : Int} (hd : decode M.2.1 pc = .ok (.ixor, 1))
    (k : AL M E QL LL LS (pc + 1) L (.inl (iXor x y) :: S) h Q) : AL M E QL LL LS pc L (.inl y :: .inl x :: S) h Q := by
  intro l p e R s m args below meth c H locs cells slots A dC dI dA ad ad0 ls n0 m0 QQ hs hf hfl hy hl
  refine lv_ixor hs.1 hs.2.1 hd ?_
  have hk := k l p e R s m args below meth c H locs cells slots A dC dI dA ad ad0 ls n0 m0 QQ hs hf hfl hy hl
  simp only [List.map_cons, List.cons_append, cv, iXor, Int32.ofInt_toInt] at hk
  exact hk
theorem al_ishr {x y : Int} (hd : decode M.2.1 pc = .ok (.ishr, 1))
    (k : AL M E QL LL LS (pc + 1) L (.inl (iShr x y) :: S) h Q) : AL M E QL LL LS pc L (.inl y :: .inl x :: S) h Q := by
  intro l p e R s m args below meth c H locs cells slots A dC dI dA ad ad0 ls n0 m0 QQ hs hf hfl hy hl
  refine lv_ishr hs.1 hs.2.1 hd ?_
  have hk := k l p e R s m args below meth c H locs cells slots A dC dI dA ad ad0 ls n0 m0 QQ hs hf hfl hy hl
  simp only [List.map_cons, List.cons_append, cv, iShr, Int32.ofInt_toInt] at hk
  exact hk
theorem al_irem {x y : Int} (hd : decode M.2.1 pc = .ok (.irem, 1)) (hr : rng y) (h0 : y ≠ 0)
    (k : AL M E QL LL LS (pc + 1) L (.inl (iRem x y) :: S) h Q) : AL M E QL LL LS pc L (.inl y :: .inl x :: S) h Q := by
  intro l p e R s m args below meth c H locs cells slots A dC dI dA ad ad0 ls n0 m0 QQ hs hf hfl hy hl
  refine lv_irem hs.1 hs.2.1 hd (fun z => h0 ((ofI_eq hr (⟨by omega, by omega⟩ : rng 0)).mp z)) ?_
  have hk := k l p e R s m args below meth c H locs cells slots A dC dI dA ad ad0 ls n0 m0 QQ hs hf hfl hy hl
  simp only [List.map_cons, List.cons_append, cv, iRem, Int32.ofInt_toInt] at hk
  exact hk
theorem al_ineg {x : Int} (hd : decode M.2.1 pc = .ok (.ineg, 1))
    (k : AL M E QL LL LS (pc + 1) L (.inl (-x) :: S) h Q) : AL M E QL LL LS pc L (.inl x :: S) h Q := by
  intro l p e R s m args below meth c H locs cells slots A dC dI dA ad ad0 ls n0 m0 QQ hs hf hfl hy hl
  refine lv_ineg hs.1 hs.2.1 hd ?_
  rw [← ofI_neg x]
  exact k l p e R s m args below meth c H locs cells slots A dC dI dA ad ad0 ls n0 m0 QQ hs hf hfl hy hl
theorem al_dup2 {u v : AV} (hd : decode M.2.1 pc = .ok (.dup2, 1))
    (k : AL M E QL LL LS (pc + 1) L (v :: u :: v :: u :: S) h Q) : AL M E QL LL LS pc L (v :: u :: S) h Q := by
  intro l p e R s m args below meth c H locs cells slots A dC dI dA ad ad0 ls n0 m0 QQ hs hf hfl hy hl
  exact lv_dup2_11 hs.1 hs.2.1 hd (cv_cat ad v) (cv_cat ad u) (k l p e R s m args below meth c H locs cells slots A dC dI dA ad ad0 ls n0 m0 QQ hs hf hfl hy hl)
theorem al_goto {off : Int} {tgt : Nat} (hd : decode M.2.1 pc = .ok (.goto off, 3)) (ht : (pc : Int) + off = (tgt : Int))
    (k : AL M E QL LL LS tgt L S h Q) : AL M E QL LL LS pc L S h Q := by
  intro l p e R s m args below meth c H locs cells slots A dC dI dA ad ad0 ls n0 m0 QQ hs hf hfl hy hl
  exact lv_goto hs.1 hs.2.1 hd ht (k l p e R s m args below meth c H locs cells slots A dC dI dA ad ad0 ls n0 m0 QQ hs hf hfl hy hl)
theorem al_icmp_lt {x y off : Int} {tgt : Nat} (hd : decode M.2.1 pc = .ok (.if_icmp .lt off, 3)) (ht : (pc : Int) + off = (tgt : Int)) (hx : rng x) (hy0 : rng y)
    (kt : x < y → AL M E QL LL LS tgt L S h Q) (kf : y ≤ x → AL M E QL LL LS (pc + 3) L S h Q) : AL M E QL LL LS pc L (.inl y :: .inl x :: S) h Q := by
  intro l p e R s m args below meth c H locs cells slots A dC dI dA ad ad0 ls n0 m0 QQ hs hf hfl hy hl
  exact lv_icmp_lt hs.1 hs.2.1 hd ht (fun q => kt ((ofI_lt hx hy0).mp q) l p e R s m args below meth c H locs cells slots A dC dI dA ad ad0 ls n0 m0 QQ hs hf hfl hy hl) (fun q => kf (by have q2 := mt (ofI_lt hx hy0).mpr q; omega) l p e R s m args below meth c H locs cells slots A dC dI dA ad ad0 ls n0 m0 QQ hs hf hfl hy hl)
theorem al_if_lt {x off : Int} {tgt : Nat} (hd : decode M.2.1 pc = .ok (.ifCond .lt off, 3)) (ht : (pc : Int) + off = (tgt : Int)) (hx : rng x)
    (kt : x < 0 → AL M E QL LL LS tgt L S h Q) (kf : 0 ≤ x → AL M E QL LL LS (pc + 3) L S h Q) : AL M E QL LL LS pc L (.inl x :: S) h Q := by
  intro l p e R s m args below meth c H locs cells slots A dC dI dA ad ad0 ls n0 m0 QQ hs hf hfl hy hl
  exact lv_if_lt hs.1 hs.2.1 hd ht (fun q => kt ((ofI_lt hx (⟨by omega, by omega⟩ : rng 0)).mp q) l p e R s m args below meth c H locs cells slots A dC dI dA ad ad0 ls n0 m0 QQ hs hf hfl hy hl) (fun q => kf (by have q2 := mt (ofI_lt hx (⟨by omega, by omega⟩ : rng 0)).mpr q; omega) l p e R s m args below meth c H locs cells slots A dC dI dA ad ad0 ls n0 m0 QQ hs hf hfl hy hl)
theorem al_icmp_ge {x y off : Int} {tgt : Nat} (hd : decode M.2.1 pc = .ok (.if_icmp .ge off, 3)) (ht : (pc : Int) + off = (tgt : Int)) (hx : rng x) (hy0 : rng y)
    (kt : y ≤ x → AL M E QL LL LS tgt L S h Q) (kf : x < y → AL M E QL LL LS (pc + 3) L S h Q) : AL M E QL LL LS pc L (.inl y :: .inl x :: S) h Q := by
  intro l p e R s m args below meth c H locs cells slots A dC dI dA ad ad0 ls n0 m0 QQ hs hf hfl hy hl
  exact lv_icmp_ge hs.1 hs.2.1 hd ht (fun q => kt ((ofI_le hy0 hx).mp q) l p e R s m args below meth c H locs cells slots A dC dI dA ad ad0 ls n0 m0 QQ hs hf hfl hy hl) (fun q => kf (by have q2 := mt (ofI_le hy0 hx).mpr q; omega) l p e R s m args below meth c H locs cells slots A dC dI dA ad ad0 ls n0 m0 QQ hs hf hfl hy hl)
theorem al_if_ge {x off : Int} {tgt : Nat} (hd : decode M.2.1 pc = .ok (.ifCond .ge off, 3)) (ht : (pc : Int) + off = (tgt : Int)) (hx : rng x)
    (kt : 0 ≤ x → AL M E QL LL LS tgt L S h Q) (kf : x < 0 → AL M E QL LL LS (pc + 3) L S h Q) : AL M E QL LL LS pc L (.inl x :: S) h Q := by
  intro l p e R s m args below meth c H locs cells slots A dC dI dA ad ad0 ls n0 m0 QQ hs hf hfl hy hl
  exact lv_if_ge hs.1 hs.2.1 hd ht (fun q => kt ((ofI_le (⟨by omega, by omega⟩ : rng 0) hx).mp q) l p e R s m args below meth c H locs cells slots A dC dI dA ad ad0 ls n0 m0 QQ hs hf hfl hy hl) (fun q => kf (by have q2 := mt (ofI_le (⟨by omega, by omega⟩ : rng 0) hx).mpr q; omega) l p e R s m args below meth c H locs cells slots A dC dI dA ad ad0 ls n0 m0 QQ hs hf hfl hy hl)
theorem al_icmp_gt {x y off : Int} {tgt : Nat} (hd : decode M.2.1 pc = .ok (.if_icmp .gt off, 3)) (ht : (pc : Int) + off = (tgt : Int)) (hx : rng x) (hy0 : rng y)
    (kt : y < x → AL M E QL LL LS tgt L S h Q) (kf : x ≤ y → AL M E QL LL LS (pc + 3) L S h Q) : AL M E QL LL LS pc L (.inl y :: .inl x :: S) h Q := by
  intro l p e R s m args below meth c H locs cells slots A dC dI dA ad ad0 ls n0 m0 QQ hs hf hfl hy hl
  exact lv_icmp_gt hs.1 hs.2.1 hd ht (fun q => kt ((ofI_lt hy0 hx).mp q) l p e R s m args below meth c H locs cells slots A dC dI dA ad ad0 ls n0 m0 QQ hs hf hfl hy hl) (fun q => kf (by have q2 := mt (ofI_lt hy0 hx).mpr q; omega) l p e R s m args below meth c H locs cells slots A dC dI dA ad ad0 ls n0 m0 QQ hs hf hfl hy hl)
theorem al_if_gt {x off : Int} {tgt : Nat} (hd : decode M.2.1 pc = .ok (.ifCond .gt off, 3)) (ht : (pc : Int) + off = (tgt : Int)) (hx : rng x)
    (kt : 0 < x → AL M E QL LL LS tgt L S h Q) (kf : x ≤ 0 → AL M E QL LL LS (pc + 3) L S h Q) : AL M E QL LL LS pc L (.inl x :: S) h Q := by
  intro l p e R s m args below meth c H locs cells slots A dC dI dA ad ad0 ls n0 m0 QQ hs hf hfl hy hl
  exact lv_if_gt hs.1 hs.2.1 hd ht (fun q => kt ((ofI_lt (⟨by omega, by omega⟩ : rng 0) hx).mp q) l p e R s m args below meth c H locs cells slots A dC dI dA ad ad0 ls n0 m0 QQ hs hf hfl hy hl) (fun q => kf (by have q2 := mt (ofI_lt (⟨by omega, by omega⟩ : rng 0) hx).mpr q; omega) l p e R s m args below meth c H locs cells slots A dC dI dA ad ad0 ls n0 m0 QQ hs hf hfl hy hl)
theorem al_icmp_le {x y off : Int} {tgt : Nat} (hd : decode M.2.1 pc = .ok (.if_icmp .le off, 3)) (ht : (pc : Int) + off = (tgt : Int)) (hx : rng x) (hy0 : rng y)
    (kt : x ≤ y → AL M E QL LL LS tgt L S h Q) (kf : y < x → AL M E QL LL LS (pc + 3) L S h Q) : AL M E QL LL LS pc L (.inl y :: .inl x :: S) h Q := by
  intro l p e R s m args below meth c H locs cells slots A dC dI dA ad ad0 ls n0 m0 QQ hs hf hfl hy hl
  exact lv_icmp_le hs.1 hs.2.1 hd ht (fun q => kt ((ofI_le hx hy0).mp q) l p e R s m args below meth c H locs cells slots A dC dI dA ad ad0 ls n0 m0 QQ hs hf hfl hy hl) (fun q => kf (by have q2 := mt (ofI_le hx hy0).mpr q; omega) l p e R s m args below meth c H locs cells slots A dC dI dA ad ad0 ls n0 m0 QQ hs hf hfl hy hl)
theorem al_if_le {x off : Int} {tgt : Nat} (hd : decode M.2.1 pc = .ok (.ifCond .le off, 3)) (ht : (pc : Int) + off = (tgt : Int)) (hx : rng x)
    (kt : x ≤ 0 → AL M E QL LL LS tgt L S h Q) (kf : 0 < x → AL M E QL LL LS (pc + 3) L S h Q) : AL M E QL LL LS pc L (.inl x :: S) h Q := by
  intro l p e R s m args below meth c H locs cells slots A dC dI dA ad ad0 ls n0 m0 QQ hs hf hfl hy hl
  exact lv_if_le hs.1 hs.2.1 hd ht (fun q => kt ((ofI_le hx (⟨by omega, by omega⟩ : rng 0)).mp q) l p e R s m args below meth c H locs cells slots A dC dI dA ad ad0 ls n0 m0 QQ hs hf hfl hy hl) (fun q => kf (by have q2 := mt (ofI_le hx (⟨by omega, by omega⟩ : rng 0)).mpr q; omega) l p e R s m args below meth c H locs cells slots A dC dI dA ad ad0 ls n0 m0 QQ hs hf hfl hy hl)
theorem al_icmp_eq {x y off : Int} {tgt : Nat} (hd : decode M.2.1 pc = .ok (.if_icmp .eq off, 3)) (ht : (pc : Int) + off = (tgt : Int)) (hr : x = y ∨ (rng x ∧ rng y))
    (kt : x = y → AL M E QL LL LS tgt L S h Q) (kf : ¬ x = y → AL M E QL LL LS (pc + 3) L S h Q) : AL M E QL LL LS pc L (.inl y :: .inl x :: S) h Q := by
  intro l p e R s m args below meth c H locs cells slots A dC dI dA ad ad0 ls n0 m0 QQ hs hf hfl hy hl
  refine lv_icmp_eq hs.1 hs.2.1 hd ht (fun q => ?_) (fun q => ?_)
  · exact kt (hr.elim id (fun r => (ofI_eq r.1 r.2).mp q)) l p e R s m args below meth c H locs cells slots A dC dI dA ad ad0 ls n0 m0 QQ hs hf hfl hy hl
  · exact kf (fun z => q (by rw [z])) l p e R s m args below meth c H locs cells slots A dC dI dA ad ad0 ls n0 m0 QQ hs hf hfl hy hl
theorem al_icmp_ne {x y off : Int} {tgt : Nat} (hd : decode M.2.1 pc = .ok (.if_icmp .ne off, 3)) (ht : (pc : Int) + off = (tgt : Int)) (hr : x = y ∨ (rng x ∧ rng y))
    (kt : ¬ x = y → AL M E QL LL LS tgt L S h Q) (kf : x = y → AL M E QL LL LS (pc + 3) L S h Q) : AL M E QL LL LS pc L (.inl y :: .inl x :: S) h Q := by
  intro l p e R s m args below meth c H locs cells slots A dC dI dA ad ad0 ls n0 m0 QQ hs hf hfl hy hl
  refine lv_icmp_ne hs.1 hs.2.1 hd ht (fun q => ?_) (fun q => ?_)
  · exact kt (fun z => q (by rw [z])) l p e R s m args below meth c H locs cells slots A dC dI dA ad ad0 ls n0 m0 QQ hs hf hfl hy hl
  · exact kf (hr.elim id (fun r => (ofI_eq r.1 r.2).mp q)) l p e R s m args below meth c H locs cells slots A dC dI dA ad ad0 ls n0 m0 QQ hs hf hfl hy hl
theorem al_if_eq {x off : Int} {tgt : Nat} (hd : decode M.2.1 pc = .ok (.ifCond .eq off, 3)) (ht : (pc : Int) + off = (tgt : Int)) (hr : rng x)
    (kt : x = 0 → AL M E QL LL LS tgt L S h Q) (kf : ¬ x = 0 → AL M E QL LL LS (pc + 3) L S h Q) : AL M E QL LL LS pc L (.inl x :: S) h Q := by
  intro l p e R s m args below meth c H locs cells slots A dC dI dA ad ad0 ls n0 m0 QQ hs hf hfl hy hl
  refine lv_if_eq hs.1 hs.2.1 hd ht (fun q => ?_) (fun q => ?_)
  · exact kt ((ofI_eq hr (⟨by omega, by omega⟩ : rng 0)).mp q) l p e R s m args below meth c H locs cells slots A dC dI dA ad ad0 ls n0 m0 QQ hs hf hfl hy hl
  · exact kf (fun z => q (by rw [z]; rfl)) l p e R s m args below meth c H locs cells slots A dC dI dA ad ad0 ls n0 m0 QQ hs hf hfl hy hl
theorem al_if_ne {x off : Int} {tgt : Nat} (hd : decode M.2.1 pc = .ok (.ifCond .ne off, 3)) (ht : (pc : Int) + off = (tgt : Int)) (hr : rng x)
    (kt : ¬ x = 0 → AL M E QL LL LS tgt L S h Q) (kf : x = 0 → AL M E QL LL LS (pc + 3) L S h Q) : AL M E QL LL LS pc L (.inl x :: S) h Q := by
  intro l p e R s m args below meth c H locs cells slots A dC dI dA ad ad0 ls n0 m0 QQ hs hf hfl hy hl
  refine lv_if_ne hs.1 hs.2.1 hd ht (fun q => ?_) (fun q => ?_)
  · exact kt (fun z => q (by rw [z]; rfl)) l p e R s m args below meth c H locs cells slots A dC dI dA ad ad0 ls n0 m0 QQ hs hf hfl hy hl
  · exact kf ((ofI_eq hr (⟨by omega, by omega⟩ : rng 0)).mp q) l p e R s m args below meth c H locs cells slots A dC dI dA ad ad0 ls n0 m0 QQ hs hf hfl hy hl
theorem al_tswIn {dflt lo hi : Int} {offs : Array Int} {len : Nat} {x off : Int} {tgt : Nat} (hd : decode M.2.1 pc = .ok (.tableswitch dflt lo hi offs, len)) (hr : rng x) (h1 : lo ≤ x) (h2 : x ≤ hi) (ho : offs[(x - lo).toNat]? = some off) (ht : (pc : Int) + off = (tgt : Int))
    (k : AL M E QL LL LS tgt L S h Q) : AL M E QL LL LS pc L (.inl x :: S) h Q := by
  intro l p e R s m args below meth c H locs cells slots A dC dI dA ad ad0 ls n0 m0 QQ hs hf hfl hy hl
  exact lv_tableIn hs.1 hs.2.1 hd (by rw [ofI_toInt hr]; omega) (by rw [ofI_toInt hr]; omega) (by rw [ofI_toInt hr]; exact ho) ht (k l p e R s m args below meth c H locs cells slots A dC dI dA ad ad0 ls n0 m0 QQ hs hf hfl hy hl)
theorem al_tswOut {dflt lo hi : Int} {offs : Array Int} {len : Nat} {x : Int} {tgt : Nat} (hd : decode M.2.1 pc = .ok (.tableswitch dflt lo hi offs, len)) (hr : rng x) (h1 : x < lo ∨ hi < x) (ht : (pc : Int) + dflt = (tgt : Int))
    (k : AL M E QL LL LS tgt L S h Q) : AL M E QL LL LS pc L (.inl x :: S) h Q := by
  intro l p e R s m args below meth c H locs cells slots A dC dI dA ad ad0 ls n0 m0 QQ hs hf hfl hy hl
  exact lv_tableOut hs.1 hs.2.1 hd (by rw [ofI_toInt hr]; exact h1) ht (k l p e R s m args below meth c H locs cells slots A dC dI dA ad ad0 ls n0 m0 QQ hs hf hfl hy hl)
theorem al_ldc2 {idx : Nat} {v : Int64} (hd : decode M.2.1 pc = .ok (.ldc2_w idx, 3)) (hw : Cond.constantLong M.1.cls idx v ∈ GW)
    (k : AL M E QL LL (v :: LS) (pc + 3) L [] h Q) : AL M E QL LL LS pc L [] h Q := by
  intro l p e R s m args below meth c H locs cells slots A dC dI dA ad ad0 ls n0 m0 QQ hs hf hfl hy hl
  exact lv_ldc2 hs.1 hs.2.1 hs.2.2.2.2.1 (hs.2.2.2.2.2.1 _ hw) hd (k l p e R s m args below meth c H locs cells slots A dC dI dA ad ad0 ls n0 m0 QQ hs hf hfl hy hl)
theorem al_lld_n {i : Nat} {j : Fin 4} {x : Int64} (hd : decode M.2.1 pc = .ok (.lload_n j, 1)) (hi : (j : Nat) = i) (hx : (i, x) ∈ LL)
    (k : AL M E QL LL (x :: LS) (pc + 1) L [] h Q) : AL M E QL LL LS pc L [] h Q := by
  intro l p e R s m args below meth c H locs cells slots A dC dI dA ad ad0 ls n0 m0 QQ hs hf hfl hy hl
  exact lv_lload_n hs.1 hs.2.1 hd hi (hl _ hx) (k l p e R s m args below meth c H locs cells slots A dC dI dA ad ad0 ls n0 m0 QQ hs hf hfl hy hl)
theorem al_lld {i : Nat} {x : Int64} (hd : decode M.2.1 pc = .ok (.lload i, 2)) (hx : (i, x) ∈ LL)
    (k : AL M E QL LL (x :: LS) (pc + 2) L [] h Q) : AL M E QL LL LS pc L [] h Q := by
  intro l p e R s m args below meth c H locs cells slots A dC dI dA ad ad0 ls n0 m0 QQ hs hf hfl hy hl
  exact lv_lload hs.1 hs.2.1 hd (hl _ hx) (k l p e R s m args below meth c H locs cells slots A dC dI dA ad ad0 ls n0 m0 QQ hs hf hfl hy hl)
theorem al_lst_n {i : Nat} {j : Fin 4} {x : Int64} {LL' : List (Nat × Int64)} {L' : List (Option AV)} (hd : decode M.2.1 pc = .ok (.lstore_n j, 1)) (hi : (j : Nat) = i) (hn : i + 1 < M.2.2.1) (hL : (L.set i none).set (i + 1) none = L') (hlk : ∀ q ∈ LL', q = (i, x) ∨ (q ∈ LL ∧ q.1 ≠ i ∧ q.1 ≠ i + 1 ∧ q.1 + 1 ≠ i))
    (k : AL M E QL LL' LS (pc + 1) L' [] h Q) : AL M E QL LL (x :: LS) pc L [] h Q := by
  intro l p e R s m args below meth c H locs cells slots A dC dI dA ad ad0 ls n0 m0 QQ hs hf hfl hy hl
  subst hL
  exact lv_lstore_n hs.1 hs.2.1 hd hi (lvL.hasL hy.2.2.2.2.2.1 hl) hn rfl (fun ls' h' => k l p e R s m args below meth c H locs cells slots A dC dI dA ad ad0 ls' n0 m0 QQ hs hf hfl ⟨hy.1, hy.2.1, hy.2.2.1, hy.2.2.2.1, hy.2.2.2.2.1, (lvL.storeJ h' hlk).1, hy.2.2.2.2.2.2.1, hy.2.2.2.2.2.2.2⟩ (lvL.storeJ h' hlk).2)
theorem al_lst {i : Nat} {x : Int64} {LL' : List (Nat × Int64)} {L' : List (Option AV)} (hd : decode M.2.1 pc = .ok (.lstore i, 2)) (hn : i + 1 < M.2.2.1) (hL : (L.set i none).set (i + 1) none = L') (hlk : ∀ q ∈ LL', q = (i, x) ∨ (q ∈ LL ∧ q.1 ≠ i ∧ q.1 ≠ i + 1 ∧ q.1 + 1 ≠ i))
    (k : AL M E QL LL' LS (pc + 2) L' [] h Q) : AL M E QL LL (x :: LS) pc L [] h Q := by
  intro l p e R s m args below meth c H locs cells slots A dC dI dA ad ad0 ls n0 m0 QQ hs hf hfl hy hl
  subst hL
  exact lv_lstore hs.1 hs.2.1 hd (lvL.hasL hy.2.2.2.2.2.1 hl) hn rfl (fun ls' h' => k l p e R s m args below meth c H locs cells slots A dC dI dA ad ad0 ls' n0 m0 QQ hs hf hfl ⟨hy.1, hy.2.1, hy.2.2.1, hy.2.2.2.1, hy.2.2.2.2.1, (lvL.storeJ h' hlk).1, hy.2.2.2.2.2.2.1, hy.2.2.2.2.2.2.2⟩ (lvL.storeJ h' hlk).2)
theorem al_ladd {x y : Int64} (hd : decode M.2.1 pc = .ok (.ladd, 1))
    (k : AL M E QL LL ((x + y) :: LS) (pc + 1) L [] h Q) : AL M E QL LL (y :: x :: LS) pc L [] h Q := by
  intro l p e R s m args below meth c H locs cells slots A dC dI dA ad ad0 ls n0 m0 QQ hs hf hfl hy hl
  exact lv_ladd hs.1 hs.2.1 hd (k l p e R s m args below meth c H locs cells slots A dC dI dA ad ad0 ls n0 m0 QQ hs hf hfl hy hl)
theorem al_lmul {x y : Int64} (hd : decode M.2.1 pc = .ok (.lmul, 1))
    (k : AL M E QL LL ((x * y) :: LS) (pc + 1) L [] h Q) : AL M E QL LL (y :: x :: LS) pc L [] h Q := by
  intro l p e R s m args below meth c H locs cells slots A dC dI dA ad ad0 ls n0 m0 QQ hs hf hfl hy hl
  exact lv_lmul hs.1 hs.2.1 hd (k l p e R s m args below meth c H locs cells slots A dC dI dA ad ad0 ls n0 m0 QQ hs hf hfl hy hl)
theorem al_i2l {x : Int} (hd : decode M.2.1 pc = .ok (.i2l, 1))
    (k : AL M E QL LL ((Int32.ofInt x).toInt64 :: LS) (pc + 1) L [] h Q) : AL M E QL LL LS pc L [.inl x] h Q := by
  intro l p e R s m args below meth c H locs cells slots A dC dI dA ad ad0 ls n0 m0 QQ hs hf hfl hy hl
  exact lv_i2l hs.1 hs.2.1 hd rfl (k l p e R s m args below meth c H locs cells slots A dC dI dA ad ad0 ls n0 m0 QQ hs hf hfl hy hl)
theorem al_lcmp {x y : Int64} (hd : decode M.2.1 pc = .ok (.lcmp, 1)) (he : x = y)
    (k : AL M E QL LL LS (pc + 1) L [.inl 0] h Q) : AL M E QL LL (y :: x :: LS) pc L [] h Q := by
  intro l p e R s m args below meth c H locs cells slots A dC dI dA ad ad0 ls n0 m0 QQ hs hf hfl hy hl
  subst he
  refine W.lcmp hs.1 hs.2.1 hd ?_
  rw [show lg_cmp x x = Int32.ofInt 0 by simp [lg_cmp]]
  exact k l p e R s m args below meth c H locs cells slots A dC dI dA ad ad0 ls n0 m0 QQ hs hf hfl hy hl
theorem al_idiv {x y : Int} (hd : decode M.2.1 pc = .ok (.idiv, 1)) (hr : rng y) (h0 : y ≠ 0)
    (k : AL M E QL LL LS (pc + 1) L (.inl (iDiv x y) :: S) h Q) : AL M E QL LL LS pc L (.inl y :: .inl x :: S) h Q := by
  intro l p e R s m args below meth c H locs cells slots A dC dI dA ad ad0 ls n0 m0 QQ hs hf hfl hy hl
  refine lv_idiv hs.1 hs.2.1 hd (fun z => h0 ((ofI_eq hr (⟨by omega, by omega⟩ : rng 0)).mp z)) ?_
  have hk := k l p e R s m args below meth c H locs cells slots A dC dI dA ad ad0 ls n0 m0 QQ hs hf hfl hy hl
  simp only [List.map_cons, List.cons_append, cv, iDiv, Int32.ofInt_toInt] at hk
  exact hk
theorem al_iushr {x y : Int} (hd : decode M.2.1 pc = .ok (.iushr, 1))
    (k : AL M E QL LL LS (pc + 1) L (.inl (iUshr x y) :: S) h Q) : AL M E QL LL LS pc L (.inl y :: .inl x :: S) h Q := by
  intro l p e R s m args below meth c H locs cells slots A dC dI dA ad ad0 ls n0 m0 QQ hs hf hfl hy hl
  refine lv_iushr hs.1 hs.2.1 hd rfl ?_
  have hk := k l p e R s m args below meth c H locs cells slots A dC dI dA ad ad0 ls n0 m0 QQ hs hf hfl hy hl
  simp only [List.map_cons, List.cons_append, cv, iUshr, Int32.ofInt_toInt] at hk
  exact hk
theorem al_ldc {idx : Nat} {v : Int} (hd : decode M.2.1 pc = .ok (.ldc idx, 2)) (hw : Cond.constant M.1.cls idx (Int32.ofInt v) ∈ GW)
    (k : AL M E QL LL LS (pc + 2) L (.inl v :: S) h Q) : AL M E QL LL LS pc L S h Q := by
  intro l p e R s m args below meth c H locs cells slots A dC dI dA ad ad0 ls n0 m0 QQ hs hf hfl hy hl
  exact lv_ldc hs.1 hs.2.1 hs.2.2.2.2.1 (hs.2.2.2.2.2.1 _ hw) hd (k l p e R s m args below meth c H locs cells slots A dC dI dA ad ad0 ls n0 m0 QQ hs hf hfl hy hl)
theorem al_ireturn {x : Int} (hd : decode M.2.1 pc = .ok (.ireturn, 1)) (ht : M.2.2.2 = some .int ∨ (M.2.2.2 = some .boolean ∧ (x = 0 ∨ x = 1))) (h1 : h.1.length = E.2.2.2.1) (h2 : slS h.1 = E.2.2.2.2) (hq : Q (some x) h) : AL M E QL LL [] pc L [.inl x] h Q := by
  intro l p e R s m args below meth c H locs cells slots A dC dI dA ad ad0 ls n0 m0 QQ hs hf hfl hy hl
  exact hf (some x) h H locs cells slots ad ls pc L hq hy h1 h2 ⟨hd, ht⟩
theorem al_lreturn {x : Int64} (hd : decode M.2.1 pc = .ok (.lreturn, 1)) (ht : M.2.2.2 = some .long) (h1 : h.1.length = E.2.2.2.1) (h2 : slS h.1 = E.2.2.2.2) (hq : QL x h) : AL M E QL LL [x] pc L [] h Q := by
  intro l p e R s m args below meth c H locs cells slots A dC dI dA ad ad0 ls n0 m0 QQ hs hf hfl hy hl
  exact hfl x h H locs cells slots ad ls pc L hq hy h1 h2 ⟨hd, ht⟩
end MACHL
