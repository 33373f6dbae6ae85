
/-! values: an int as a whole number, a cell by its place; a world: what cells there are, and a memory of whole numbers -/
abbrev AV : Type := Int ⊕ Nat
abbrev ShF : Type := Option (Option Nat)
abbrev ShC : Type := (Nat × List ShF) ⊕ ((Nat × Nat) ⊕ List (Option Nat))
abbrev AM : Type := Nat → Int → Int
abbrev HP : Type := List ShC × AM
abbrev MI : Type := MethodName × ByteArray × Nat × Option FieldType
abbrev AX : Type := Nat × (Nat → Int32)
abbrev AE : Type := AX × Nat × Nat × Nat × Nat
def GW : List Cond := lw_tbl.filter goodWord
def am_nest : Cond → Bool
  | .fieldLinkNest .. => true
  | .methodLinkNest .. => true
  | _ => false
def NWL : List Cond := lw_tbl.filter am_nest
def am_up (m : AM) (k : Nat) (j v : Int) : AM := fun k' j' => if k' = k ∧ j' = j then v else m k' j'
abbrev rng (x : Int) : Prop := -2147483648 ≤ x ∧ x ≤ 2147483647
def cv (ad : Nat → Nat) : AV → Value
  | .inl x => .int (Int32.ofInt x)
  | .inr k => .ref (ad k)
def cfl (ad : Nat → Nat) (m : AM) (k : Nat) (j : Nat) : ShF → Value
  | none => .int (Int32.ofInt (m k (j : Int)))
  | some none => .null
  | some (some r) => .ref (ad r)
def ce (dA : Nat → ClassId) (ad : Nat → Nat) (m : AM) (k : Nat) : ShC → va_E
  | .inl (ci, fs) => .inr (ci, fs.mapIdx (cfl ad m k))
  | .inr (.inl (t, n)) => .inl (dA t, n, .inl (fun j => Int32.ofInt (m k (j : Int))))
  | .inr (.inr rs) => .inl (dA 3, rs.length, .inr (.inr (.inr (.inr (fun j => (rs.getD j none).map ad)))))
def con (dA : Nat → ClassId) (ad : Nat → Nat) (h : HP) : va_W := h.1.mapIdx (fun k c => (ad k, ce dA ad h.2 k c))
def slC : ShC → Nat
  | .inl (_, fs) => fs.length
  | .inr (.inl (_, n)) => n
  | .inr (.inr rs) => rs.length
def slS (sh : List ShC) : Nat := (sh.map slC).sum
theorem con_get {dA : Nat → ClassId} {ad : Nat → Nat} {h : HP} {k : Nat} {c : ShC} (hc : h.1[k]? = some c) : (con dA ad h)[k]? = some (ad k, ce dA ad h.2 k c) := by
  simp [con, List.getElem?_mapIdx, hc]
theorem con_len {dA : Nat → ClassId} {ad : Nat → Nat} {h : HP} : (con dA ad h).length = h.1.length := by simp [con]
theorem ce_ne {dA : Nat → ClassId} {ad : Nat → Nat} {m : AM} {k i : Nat} {j v : Int} {c : ShC} (h : i ≠ k) : ce dA ad (am_up m k j v) i c = ce dA ad m i c := by
  have e : ∀ (z : Int), am_up m k j v i z = m i z := fun z => by simp [am_up, h]
  rcases c with ⟨ci, fs⟩ | ⟨t, n⟩ | rs
  · simp only [ce]
    congr 3
    funext z f
    cases f with
    | none => simp [cfl, e]
    | some r => cases r <;> rfl
  · simp [ce, e]
  · rfl
theorem con_set {dA : Nat → ClassId} {ad : Nat → Nat} {sh sh' : List ShC} {m m' : AM} {k : Nat} {c : ShC} (hk : k < sh.length) (hsh : sh' = sh.set k c) (ho : ∀ i c, i ≠ k → ce dA ad m' i c = ce dA ad m i c) : con dA ad (sh', m') = (con dA ad (sh, m)).set k (ad k, ce dA ad m' k c) := by
  subst hsh
  apply List.ext_getElem?
  intro i
  by_cases hi : i = k
  · subst hi
    simp [con, List.getElem?_mapIdx, hk]
  · rw [List.getElem?_set_ne (Ne.symm hi)]
    simp only [con, List.getElem?_mapIdx]
    rw [List.getElem?_set_ne (Ne.symm hi)]
    cases h : sh[i]? with
    | none => rfl
    | some c0 => simp [ho i c0 hi]
theorem con_setI {dA : Nat → ClassId} {ad : Nat → Nat} {sh : List ShC} {m : AM} {k : Nat} {j v : Int} {c : ShC} (hc : sh[k]? = some c) : con dA ad (sh, am_up m k j v) = (con dA ad (sh, m)).set k (ad k, ce dA ad (am_up m k j v) k c) := by
  obtain ⟨hk, hg⟩ := List.getElem?_eq_some_iff.mp hc
  exact con_set hk (by rw [← hg]; exact (List.set_getElem_self hk).symm) (fun i c h => ce_ne h)
theorem ce_fI {dA : Nat → ClassId} {ad : Nat → Nat} {m : AM} {k j ci : Nat} {v : Int} {fs : List ShF} (hf : fs[j]? = some none) : ce dA ad (am_up m k (j : Int) v) k (.inl (ci, fs)) = .inr (ci, (fs.mapIdx (cfl ad m k)).set j (.int (Int32.ofInt v))) := by
  simp only [ce]
  congr 2
  apply List.ext_getElem?
  intro i
  by_cases hi : i = j
  · subst hi
    obtain ⟨hl, -⟩ := List.getElem?_eq_some_iff.mp hf
    rw [List.getElem?_set_self (by simpa using hl), List.getElem?_mapIdx, hf]
    simp [cfl, am_up]
  · rw [List.getElem?_set_ne (Ne.symm hi), List.getElem?_mapIdx, List.getElem?_mapIdx]
    cases h : fs[i]? with
    | none => rfl
    | some f =>
      cases f with
      | none =>
        have hne : ¬ (i : Int) = (j : Int) := by omega
        simp [cfl, am_up, hne]
      | some r => cases r <;> rfl
theorem ce_aI {dA : Nat → ClassId} {ad : Nat → Nat} {m : AM} {k t n : Nat} {i v : Int} (h0 : 0 ≤ i) : ce dA ad (am_up m k i v) k (.inr (.inl (t, n))) = .inl (dA t, n, .inl (upd (fun j => Int32.ofInt (m k (j : Int))) i.toNat (Int32.ofInt v))) := by
  simp only [ce]
  congr 4
  funext j
  by_cases hj : j = i.toNat
  · have e : (j : Int) = i := by omega
    have e2 : am_up m k i v k (j : Int) = v := if_pos ⟨rfl, e⟩
    have e3 : upd (fun j => Int32.ofInt (m k (j : Int))) i.toNat (Int32.ofInt v) j = Int32.ofInt v := if_pos hj
    rw [e2, e3]
  · have e : ¬ (j : Int) = i := by omega
    have e2 : am_up m k i v k (j : Int) = m k (j : Int) := if_neg (fun z => e z.2)
    have e3 : upd (fun j => Int32.ofInt (m k (j : Int))) i.toNat (Int32.ofInt v) j = Int32.ofInt (m k (j : Int)) := if_neg hj
    rw [e2, e3]
theorem ofI_add (x y : Int) : Int32.ofInt (x + y) = Int32.ofInt x + Int32.ofInt y := Int32.toBitVec.inj (by simp [BitVec.ofInt_add])
theorem ofI_mul (x y : Int) : Int32.ofInt (x * y) = Int32.ofInt x * Int32.ofInt y := Int32.toBitVec.inj (by simp [BitVec.ofInt_mul])
theorem ofI_neg (x : Int) : Int32.ofInt (-x) = -Int32.ofInt x := by simp
theorem ofI_sub (x y : Int) : Int32.ofInt (x - y) = Int32.ofInt x - Int32.ofInt y := by rw [Int.sub_eq_add_neg, ofI_add, ofI_neg, Int32.sub_eq_add_neg]
theorem ofI_toInt {x : Int} (h : rng x) : (Int32.ofInt x).toInt = x := Int32.toInt_ofInt_of_le (by have := h.1; omega) (by have := h.2; omega)
theorem ofI_le {x y : Int} (hx : rng x) (hy : rng y) : Int32.ofInt x ≤ Int32.ofInt y ↔ x ≤ y := by rw [Int32.le_iff_toInt_le, ofI_toInt hx, ofI_toInt hy]
theorem ofI_lt {x y : Int} (hx : rng x) (hy : rng y) : Int32.ofInt x < Int32.ofInt y ↔ x < y := by rw [Int32.lt_iff_toInt_lt, ofI_toInt hx, ofI_toInt hy]
theorem ofI_eq {x y : Int} (hx : rng x) (hy : rng y) : Int32.ofInt x = Int32.ofInt y ↔ x = y := by rw [← Int32.toInt_inj, ofI_toInt hx, ofI_toInt hy]
theorem ofI_cl {x : Int} (hx : rng x) : (Int32.ofInt x).toNatClampNeg = x.toNat := Int32.toNatClampNeg_ofInt_of_le (by have := hx.1; omega) (by have := hx.2; omega)
theorem ofI_in {x : Int} {n : Nat} (h0 : 0 ≤ x) (h1 : x < n) (hn : n < 2147483648) : vp_in (Int32.ofInt x) n := by
  have hr : rng x := ⟨by omega, by omega⟩
  rw [vp_in_iff, ofI_toInt hr]
  omega
theorem rng_toInt (x : Int32) : rng x.toInt := ⟨by have := Int32.le_toInt x; omega, by have := Int32.toInt_lt x; omega⟩
theorem cv_cat (ad : Nat → Nat) (v : AV) : (cv ad v).category = 1 := by cases v <;> rfl
/-! the places of the locals -/
def lvL (ad : Nat → Nat) (ls : Array Slot) (nL : Nat) (L : List (Option AV)) : Prop := ls.size = nL ∧ lv_wf ls ∧ ∀ (i : Nat) (v : AV), L[i]? = some (some v) → ls[i]? = some (.val (cv ad v))
def aPr (ad : Nat → Nat) (L : List (Option AV)) : List (Nat × Value) := (List.range L.length).filterMap (fun i => match L[i]? with | some (some v) => some (i, cv ad v) | _ => none)
theorem aPr_mem {ad : Nat → Nat} {L : List (Option AV)} {q : Nat × Value} : q ∈ aPr ad L ↔ ∃ v, L[q.1]? = some (some v) ∧ q.2 = cv ad v := by
  unfold aPr
  rw [List.mem_filterMap]
  constructor
  · rintro ⟨i, -, h⟩
    cases hv : L[i]? with
    | none => simp [hv] at h
    | some o =>
      cases o with
      | none => simp [hv] at h
      | some v =>
        simp only [hv, Option.some.injEq] at h
        subst h
        exact ⟨v, hv, rfl⟩
  · rintro ⟨v, hv, e⟩
    refine ⟨q.1, List.mem_range.mpr (List.getElem?_eq_some_iff.mp hv).1, ?_⟩
    obtain ⟨a, b⟩ := q
    simp only at hv e
    subst e
    simp [hv]
theorem lvL.has {ad : Nat → Nat} {ls : Array Slot} {nL : Nat} {L : List (Option AV)} (h : lvL ad ls nL L) : lv_has ls nL (aPr ad L) := by
  refine ⟨h.1, h.2.1, fun q hq => ?_⟩
  obtain ⟨v, hv, e⟩ := aPr_mem.mp hq
  rw [e]
  exact h.2.2 q.1 v hv
theorem lvL.store {ad : Nat → Nat} {ls' : Array Slot} {nL i : Nat} {L : List (Option AV)} {v : AV} (h : lv_has ls' nL ((i, cv ad v) :: (aPr ad L).filter (fun q => !(q.1 == i) && !(q.1 + 1 == i && q.2.category == 2)))) : lvL ad ls' nL (L.set i (some v)) := by
  refine ⟨h.1, h.2.1, fun j x hj => ?_⟩
  by_cases e : j = i
  · subst e
    have hl : j < L.length := by
      have := (List.getElem?_eq_some_iff.mp hj).1
      simpa using this
    rw [List.getElem?_set_self hl] at hj
    cases hj
    exact h.2.2 (j, cv ad v) List.mem_cons_self
  · rw [List.getElem?_set_ne (Ne.symm e)] at hj
    refine h.2.2 (j, cv ad x) (List.mem_cons_of_mem _ (List.mem_filter.mpr ⟨aPr_mem.mpr ⟨x, hj, rfl⟩, ?_⟩))
    simp [e, cv_cat]
theorem lvL.agree {ad ad' : Nat → Nat} {ls : Array Slot} {nL : Nat} {L : List (Option AV)} (h : lvL ad ls nL L) (ha : ∀ (i k : Nat), L[i]? = some (some (.inr k)) → ad' k = ad k) : lvL ad' ls nL L := by
  refine ⟨h.1, h.2.1, fun i v hv => ?_⟩
  rw [h.2.2 i v hv]
  cases v with
  | inl x => rfl
  | inr k => simp only [cv]; rw [ha i k hv]
/-! what stands fast in a walk, and what moves -/
def tysA (dA : Nat → ClassId) : List (ClassId × FieldType) := [(dA 0, .int), (dA 1, .boolean), (dA 2, .char), (dA 3, .object RX0)]
def sLeast : Nat → Int32 := fun j => if j = 0 then 1 else 0
def sGreat : Nat → Int32 := fun j => if j = 0 then 10 else if j = 1 then 5 else 400
def aRO (X : AX) (ad : Nat → Nat) (A : Nat → Prop) (U : State) : Prop :=
  (va_X (ad 1000) X.1 X.2 U U.heap ∧ ad 1000 < U.heap.size ∧ ¬ A (ad 1000)) ∧ (va_X (ad 1001) 3 sLeast U U.heap ∧ ad 1001 < U.heap.size ∧ ¬ A (ad 1001)) ∧ (va_X (ad 1002) 3 sGreat U U.heap ∧ ad 1002 < U.heap.size ∧ ¬ A (ad 1002)) ∧ va_Z RX8 "LEAST_SETTING" "[I" (.ref (ad 1001)) A U U.heap ∧ va_Z RX8 "GREATEST_SETTING" "[I" (.ref (ad 1002)) A U U.heap
def aSt (M : MI) (E : AE) (p : Program) (R : Room) (s : State) (m : MethodId) (args : Array Value) (meth : Method) (c : Code) (A : Nat → Prop) (dC : Nat → ClassId) (dI : Nat → Nat → Nat) (dA : Nat → ClassId) (n0 m0 : Nat) : Prop :=
  p.tables.exec = Jvm.exec ∧ c.code = M.2.1 ∧ meth.sig.returnType = M.2.2.2 ∧ c.maxLocals = M.2.2.1 ∧ s.vm.findClass M.1.cls = some m.cls ∧ (∀ w ∈ GW, w.before args s = true) ∧ meth.locks = false ∧ meth.name = M.1.name ∧ (∀ w ∈ NWL, va_Nw w s) ∧ va_AO RX0 s ∧ va_K (dC, dI) vwCl (tysA dA) s ∧ (∀ q, s.heap.size ≤ q → A q) ∧ E.2.1 ≤ R.frames ∧ E.2.2.1 ≤ R.locals ∧ E.2.2.2.1 ≤ R.cells + n0 ∧ E.2.2.2.2 ≤ R.slots + m0
def aDy (M : MI) (E : AE) (s : State) (H : Heap) (locs : List Loc) (cells slots : Nat) (A : Nat → Prop) (dC : Nat → ClassId) (dI : Nat → Nat → Nat) (dA : Nat → ClassId) (ad ad0 : Nat → Nat) (ls : Array Slot) (n0 m0 : Nat) (L : List (Option AV)) (h : HP) : Prop :=
  va_P (dC, dI) vwCl (con dA ad h) H ∧ va_D A (con dA ad h) ∧ va_S A s.heap H locs ∧ cells + n0 = h.1.length ∧ slots + m0 = slS h.1 ∧ lvL ad ls M.2.2.1 L ∧ aRO E.1 ad A s ∧ (∀ k : Nat, (k < n0 ∨ h.1.length ≤ k) → ad k = ad0 k)
def aEnd (M : MI) (pc : Nat) (v : Option Int) : Prop := match v with
  | some z => decode M.2.1 pc = .ok (.ireturn, 1) ∧ (M.2.2.2 = some .int ∨ (M.2.2.2 = some .boolean ∧ (z = 0 ∨ z = 1)))
  | none => decode M.2.1 pc = .ok (.return_, 1) ∧ M.2.2.2 = none
def aFi (M : MI) (E : AE) (l : Launch) (p : Program) (e : Env) (R : Room) (s : State) (m : MethodId) (args : Array Value) (below : List Frame) (meth : Method) (c : Code) (A : Nat → Prop) (dC : Nat → ClassId) (dI : Nat → Nat → Nat) (dA : Nat → ClassId) (ad0 : Nat → Nat) (n0 m0 : Nat) (QQ : State → Prop) (Q : Option Int → HP → Prop) : Prop :=
  ∀ (v : Option Int) (h' : HP) (H' : Heap) (locs' : List Loc) (cells' slots' : Nat) (ad' : Nat → Nat) (ls' : Array Slot) (pc' : Nat) (L' : List (Option AV)), Q v h' → aDy M E s H' locs' cells' slots' A dC dI dA ad' ad0 ls' n0 m0 L' h' → h'.1.length = E.2.2.2.1 → slS h'.1 = E.2.2.2.2 → aEnd M pc' v → W p l e R s m args below meth c H' locs' cells' slots' QQ (F0 m pc' ls' (v.toList.map (fun z => .int (Int32.ofInt z))))
def AW (M : MI) (E : AE) (pc : Nat) (L : List (Option AV)) (S : List AV) (h : HP) (Q : Option Int → HP → Prop) : Prop :=
  ∀ (l : Launch) (p : Program) (e : Env) (R : Room) (s : State) (m : MethodId) (args : Array Value) (below : List Frame) (meth : Method) (c : Code) (H : Heap) (locs : List Loc) (cells slots : Nat) (A : Nat → Prop) (dC : Nat → ClassId) (dI : Nat → Nat → Nat) (dA : Nat → ClassId) (ad ad0 : Nat → Nat) (ls : Array Slot) (n0 m0 : Nat) (QQ : State → Prop),
    aSt M E p R s m args meth c A dC dI dA n0 m0 → aFi M E l p e R s m args below meth c A dC dI dA ad0 n0 m0 QQ Q → aDy M E s H locs cells slots A dC dI dA ad ad0 ls n0 m0 L h → W p l e R s m args below meth c H locs cells slots QQ (F0 m pc ls (S.map (cv ad)))
theorem AW.mono {M : MI} {E : AE} {pc : Nat} {L : List (Option AV)} {S : List AV} {h : HP} {Q Q' : Option Int → HP → Prop} (k : AW M E pc L S h Q) (hq : ∀ v h', Q v h' → Q' v h') : AW M E pc L S h Q' := by
  intro l p e R s m args below meth c H locs cells slots A dC dI dA ad ad0 ls n0 m0 QQ hs hf hy
  exact k l p e R s m args below meth c H locs cells slots A dC dI dA ad ad0 ls n0 m0 QQ hs (fun v h' H' locs' cells' slots' ad' ls' pc' L' q => hf v h' H' locs' cells' slots' ad' ls' pc' L' (hq v h' q)) hy
theorem AW.loc {M : MI} {E : AE} {pc : Nat} {L L' : List (Option AV)} {S : List AV} {h : HP} {Q : Option Int → HP → Prop} (k : AW M E pc L' S h Q) (hL : ∀ (i : Nat) (v : AV), L'[i]? = some (some v) → L[i]? = some (some v)) : AW M E pc L S h Q := by
  intro l p e R s m args below meth c H locs cells slots A dC dI dA ad ad0 ls n0 m0 QQ hs hf hy
  obtain ⟨y1, y2, y3, y4, y5, y6, y7, y8⟩ := hy
  exact k l p e R s m args below meth c H locs cells slots A dC dI dA ad ad0 ls n0 m0 QQ hs hf ⟨y1, y2, y3, y4, y5, ⟨y6.1, y6.2.1, fun i v hv => y6.2.2 i v (hL i v hv)⟩, y7, y8⟩
section MACH
variable {M : MI} {E : AE} {pc : Nat} {L : List (Option AV)} {S : List AV} {h : HP} {Q : Option Int → HP → Prop}
theorem aw_const {n : Int} (hd : decode M.2.1 pc = .ok (.iconst n, 1))
    (k : AW M E (pc + 1) L (.inl n :: S) h Q) : AW M E pc L S h Q := by
  intro l p e R s m args below meth c H locs cells slots A dC dI dA ad ad0 ls n0 m0 QQ hs hf hy
  exact lv_iconst hs.1 hs.2.1 hd rfl (k l p e R s m args below meth c H locs cells slots A dC dI dA ad ad0 ls n0 m0 QQ hs hf hy)
theorem aw_bipush {n : Int} (hd : decode M.2.1 pc = .ok (.bipush n, 2)) (hn : (Int8.ofInt n).toInt32 = Int32.ofInt n)
    (k : AW M E (pc + 2) L (.inl n :: S) h Q) : AW M E pc L S h Q := by
  intro l p e R s m args below meth c H locs cells slots A dC dI dA ad ad0 ls n0 m0 QQ hs hf hy
  exact lv_bipush hs.1 hs.2.1 hd hn (k l p e R s m args below meth c H locs cells slots A dC dI dA ad ad0 ls n0 m0 QQ hs hf hy)
theorem aw_sipush {n : Int} (hd : decode M.2.1 pc = .ok (.sipush n, 3)) (hn : (Int16.ofInt n).toInt32 = Int32.ofInt n)
    (k : AW M E (pc + 3) L (.inl n :: S) h Q) : AW M E pc L S h Q := by
  intro l p e R s m args below meth c H locs cells slots A dC dI dA ad ad0 ls n0 m0 QQ hs hf hy
  exact lv_sipush hs.1 hs.2.1 hd hn (k l p e R s m args below meth c H locs cells slots A dC dI dA ad ad0 ls n0 m0 QQ hs hf hy)
theorem aw_ild_n {i : Nat} {j : Fin 4} {x : Int} (hd : decode M.2.1 pc = .ok (.iload_n j, 1)) (hi : (j : Nat) = i) (hL : L[i]? = some (some (.inl x)))
    (k : AW M E (pc + 1) L (.inl x :: S) h Q) : AW M E pc L S h Q := by
  intro l p e R s m args below meth c H locs cells slots A dC dI dA ad ad0 ls n0 m0 QQ hs hf hy
  exact lv_iload_n hs.1 hs.2.1 hd hi (hy.2.2.2.2.2.1.2.2 _ _ hL) (k l p e R s m args below meth c H locs cells slots A dC dI dA ad ad0 ls n0 m0 QQ hs hf hy)
theorem aw_ild {i : Nat} {x : Int} (hd : decode M.2.1 pc = .ok (.iload i, 2)) (hL : L[i]? = some (some (.inl x)))
    (k : AW M E (pc + 2) L (.inl x :: S) h Q) : AW M E pc L S h Q := by
  intro l p e R s m args below meth c H locs cells slots A dC dI dA ad ad0 ls n0 m0 QQ hs hf hy
  exact lv_iload hs.1 hs.2.1 hd (hy.2.2.2.2.2.1.2.2 _ _ hL) (k l p e R s m args below meth c H locs cells slots A dC dI dA ad ad0 ls n0 m0 QQ hs hf hy)
theorem aw_ist_n {i : Nat} {j : Fin 4} {L' : List (Option AV)} {x : Int} (hd : decode M.2.1 pc = .ok (.istore_n j, 1)) (hi : (j : Nat) = i) (hn : i < M.2.2.1) (hL : L.set i (some (.inl x)) = L')
    (k : AW M E (pc + 1) L' S h Q) : AW M E pc L (.inl x :: S) h Q := by
  intro l p e R s m args below meth c H locs cells slots A dC dI dA ad ad0 ls n0 m0 QQ hs hf hy
  subst hL
  exact lv_istore_n hs.1 hs.2.1 hd hi (lvL.has hy.2.2.2.2.2.1) hn rfl (fun ls' h' => k l p e R s m args below meth c H locs cells slots A dC dI dA ad ad0 ls' n0 m0 QQ hs hf ⟨hy.1, hy.2.1, hy.2.2.1, hy.2.2.2.1, hy.2.2.2.2.1, lvL.store h', hy.2.2.2.2.2.2.1, hy.2.2.2.2.2.2.2⟩)
theorem aw_ist {i : Nat} {L' : List (Option AV)} {x : Int} (hd : decode M.2.1 pc = .ok (.istore i, 2)) (hn : i < M.2.2.1) (hL : L.set i (some (.inl x)) = L')
    (k : AW M E (pc + 2) L' S h Q) : AW M E pc L (.inl x :: S) h Q := by
  intro l p e R s m args below meth c H locs cells slots A dC dI dA ad ad0 ls n0 m0 QQ hs hf hy
  subst hL
  exact lv_istore hs.1 hs.2.1 hd (lvL.has hy.2.2.2.2.2.1) hn rfl (fun ls' h' => k l p e R s m args below meth c H locs cells slots A dC dI dA ad ad0 ls' n0 m0 QQ hs hf ⟨hy.1, hy.2.1, hy.2.2.1, hy.2.2.2.1, hy.2.2.2.2.1, lvL.store h', hy.2.2.2.2.2.2.1, hy.2.2.2.2.2.2.2⟩)
theorem aw_ald_n {i : Nat} {j : Fin 4} {x : Nat} (hd : decode M.2.1 pc = .ok (.aload_n j, 1)) (hi : (j : Nat) = i) (hL : L[i]? = some (some (.inr x)))
    (k : AW M E (pc + 1) L (.inr x :: S) h Q) : AW M E pc L S h Q := by
  intro l p e R s m args below meth c H locs cells slots A dC dI dA ad ad0 ls n0 m0 QQ hs hf hy
  exact lv_aload_n hs.1 hs.2.1 hd hi (hy.2.2.2.2.2.1.2.2 _ _ hL) (k l p e R s m args below meth c H locs cells slots A dC dI dA ad ad0 ls n0 m0 QQ hs hf hy)
theorem aw_ald {i : Nat} {x : Nat} (hd : decode M.2.1 pc = .ok (.aload i, 2)) (hL : L[i]? = some (some (.inr x)))
    (k : AW M E (pc + 2) L (.inr x :: S) h Q) : AW M E pc L S h Q := by
  intro l p e R s m args below meth c H locs cells slots A dC dI dA ad ad0 ls n0 m0 QQ hs hf hy
  exact lv_aload hs.1 hs.2.1 hd (hy.2.2.2.2.2.1.2.2 _ _ hL) (k l p e R s m args below meth c H locs cells slots A dC dI dA ad ad0 ls n0 m0 QQ hs hf hy)
theorem aw_ast_n {i : Nat} {j : Fin 4} {L' : List (Option AV)} {x : Nat} (hd : decode M.2.1 pc = .ok (.astore_n j, 1)) (hi : (j : Nat) = i) (hn : i < M.2.2.1) (hL : L.set i (some (.inr x)) = L')
    (k : AW M E (pc + 1) L' S h Q) : AW M E pc L (.inr x :: S) h Q := by
  intro l p e R s m args below meth c H locs cells slots A dC dI dA ad ad0 ls n0 m0 QQ hs hf hy
  subst hL
  exact lv_astore_n hs.1 hs.2.1 hd hi (lvL.has hy.2.2.2.2.2.1) hn rfl (fun ls' h' => k l p e R s m args below meth c H locs cells slots A dC dI dA ad ad0 ls' n0 m0 QQ hs hf ⟨hy.1, hy.2.1, hy.2.2.1, hy.2.2.2.1, hy.2.2.2.2.1, lvL.store h', hy.2.2.2.2.2.2.1, hy.2.2.2.2.2.2.2⟩)
theorem aw_ast {i : Nat} {L' : List (Option AV)} {x : Nat} (hd : decode M.2.1 pc = .ok (.astore i, 2)) (hn : i < M.2.2.1) (hL : L.set i (some (.inr x)) = L')
    (k : AW M E (pc + 2) L' S h Q) : AW M E pc L (.inr x :: S) h Q := by
  intro l p e R s m args below meth c H locs cells slots A dC dI dA ad ad0 ls n0 m0 QQ hs hf hy
  subst hL
  exact lv_astore hs.1 hs.2.1 hd (lvL.has hy.2.2.2.2.2.1) hn rfl (fun ls' h' => k l p e R s m args below meth c H locs cells slots A dC dI dA ad ad0 ls' n0 m0 QQ hs hf ⟨hy.1, hy.2.1, hy.2.2.1, hy.2.2.2.1, hy.2.2.2.2.1, lvL.store h', hy.2.2.2.2.2.2.1, hy.2.2.2.2.2.2.2⟩)
theorem aw_iinc {i : Nat} {n x : Int} {L' : List (Option AV)} (hd : decode M.2.1 pc = .ok (.iinc i n, 3)) (hn : i < M.2.2.1) (hx : L[i]? = some (some (.inl x))) (hL : L.set i (some (.inl (x + n))) = L')
    (k : AW M E (pc + 3) L' S h Q) : AW M E pc L S h Q := by
  intro l p e R s m args below meth c H locs cells slots A dC dI dA ad ad0 ls n0 m0 QQ hs hf hy
  subst hL
  obtain ⟨q, hq⟩ := List.getElem?_of_mem (aPr_mem.mpr ⟨_, hx, rfl⟩ : ((i, cv ad (.inl x)) : Nat × Value) ∈ aPr ad L)
  exact lv_iinc (v := Int32.ofInt (x + n)) hs.1 hs.2.1 hd (lvL.has hy.2.2.2.2.2.1) hq (ofI_add x n).symm hn rfl (fun ls' h' => k l p e R s m args below meth c H locs cells slots A dC dI dA ad ad0 ls' n0 m0 QQ hs hf ⟨hy.1, hy.2.1, hy.2.2.1, hy.2.2.2.1, hy.2.2.2.2.1, lvL.store h', hy.2.2.2.2.2.2.1, hy.2.2.2.2.2.2.2⟩)
theorem aw_iadd {x y : Int} (hd : decode M.2.1 pc = .ok (.iadd, 1))
    (k : AW M E (pc + 1) L (.inl (x + y) :: S) h Q) : AW M E pc L (.inl y :: .inl x :: S) h Q := by
  intro l p e R s m args below meth c H locs cells slots A dC dI dA ad ad0 ls n0 m0 QQ hs hf hy
  refine lv_iadd hs.1 hs.2.1 hd ?_
  rw [← ofI_add x y]
  exact k l p e R s m args below meth c H locs cells slots A dC dI dA ad ad0 ls n0 m0 QQ hs hf hy
theorem aw_isub {x y : Int} (hd : decode M.2.1 pc = .ok (.isub, 1))
    (k : AW M E (pc + 1) L (.inl (x - y) :: S) h Q) : AW M E pc L (.inl y :: .inl x :: S) h Q := by
  intro l p e R s m args below meth c H locs cells slots A dC dI dA ad ad0 ls n0 m0 QQ hs hf hy
  refine lv_isub hs.1 hs.2.1 hd ?_
  rw [← ofI_sub x y]
  exact k l p e R s m args below meth c H locs cells slots A dC dI dA ad ad0 ls n0 m0 QQ hs hf hy
theorem aw_imul {x y : Int} (hd : decode M.2.1 pc = .ok (.imul, 1))
    (k : AW M E (pc + 1) L (.inl (x * y) :: S) h Q) : AW M E pc L (.inl y :: .inl x :: S) h Q := by
  intro l p e R s m args below meth c H locs cells slots A dC dI dA ad ad0 ls n0 m0 QQ hs hf hy
  refine lv_imul hs.1 hs.2.1 hd ?_
  rw [← ofI_mul x y]
  exact k l p e R s m args below meth c H locs cells slots A dC dI dA ad ad0 ls n0 m0 QQ hs hf hy
def iAnd (x y : Int) : Int := (Int32.ofInt x &&& Int32.ofInt y).toInt
def iOr (x y : Int) : Int := (Int32.ofInt x ||| Int32.ofInt y).toInt
def iXor (x y : Int) : Int := (Int32.ofInt x ^^^ Int32.ofInt y).toInt
def iShl (x y : Int) : Int := (Int32.ofInt x <<< (Int32.ofInt y &&& 31)).toInt
def iShr (x y : Int) : Int := (Int32.ofInt x >>> (Int32.ofInt y &&& 31)).toInt
def iRem (x y : Int) : Int := (Int32.ofInt x - Int32.ofInt x / Int32.ofInt y * Int32.ofInt y).toInt
theorem aw_iand {x y : Int} (hd : decode M.2.1 pc = .ok (.iand, 1))
    (k : AW M E (pc + 1) L (.inl (iAnd x y) :: S) h Q) : AW M E pc L (.inl y :: .inl x :: S) h Q := by
  intro l p e R s m args below meth c H locs cells slots A dC dI dA ad ad0 ls n0 m0 QQ hs hf hy
  refine lv_iand hs.1 hs.2.1 hd ?_
  have hk := k l p e R s m args below meth c H locs cells slots A dC dI dA ad ad0 ls n0 m0 QQ hs hf hy
  simp only [List.map_cons, cv, iAnd, Int32.ofInt_toInt] at hk
  exact hk
theorem aw_ior {x y : Int} (hd : decode M.2.1 pc = .ok (.ior, 1))
    (k : AW M E (pc + 1) L (.inl (iOr x y) :: S) h Q) : AW M E pc L (.inl y :: .inl x :: S) h Q := by
  intro l p e R s m args below meth c H locs cells slots A dC dI dA ad ad0 ls n0 m0 QQ hs hf hy
  refine lv_ior hs.1 hs.2.1 hd ?_
  have hk := k l p e R s m args below meth c H locs cells slots A dC dI dA ad ad0 ls n0 m0 QQ hs hf hy
  simp only [List.map_cons, cv, iOr, Int32.ofInt_toInt] at hk
  exact hk
theorem aw_ixor {x y : Int} (hd : decode M.2.1 pc = .ok (.ixor, 1))
    (k : AW M E (pc + 1) L (.inl (iXor x y) :: S) h Q) : AW M E pc L (.inl y :: .inl x :: S) h Q := by
  intro l p e R s m args below meth c H locs cells slots A dC dI dA ad ad0 ls n0 m0 QQ hs hf hy
  refine lv_ixor hs.1 hs.2.1 hd ?_
  have hk := k l p e R s m args below meth c H locs cells slots A dC dI dA ad ad0 ls n0 m0 QQ hs hf hy
  simp only [List.map_cons, cv, iXor, Int32.ofInt_toInt] at hk
  exact hk
theorem aw_ishl {x y : Int} (hd : decode M.2.1 pc = .ok (.ishl, 1))
    (k : AW M E (pc + 1) L (.inl (iShl x y) :: S) h Q) : AW M E pc L (.inl y :: .inl x :: S) h Q := by
  intro l p e R s m args below meth c H locs cells slots A dC dI dA ad ad0 ls n0 m0 QQ hs hf hy
  refine lv_ishl hs.1 hs.2.1 hd ?_
  have hk := k l p e R s m args below meth c H locs cells slots A dC dI dA ad ad0 ls n0 m0 QQ hs hf hy
  simp only [List.map_cons, cv, iShl, Int32.ofInt_toInt] at hk
  exact hk
theorem aw_ishr {x y : Int} (hd : decode M.2.1 pc = .ok (.ishr, 1))
    (k : AW M E (pc + 1) L (.inl (iShr x y) :: S) h Q) : AW M E pc L (.inl y :: .inl x :: S) h Q := by
  intro l p e R s m args below meth c H locs cells slots A dC dI dA ad ad0 ls n0 m0 QQ hs hf hy
  refine lv_ishr hs.1 hs.2.1 hd ?_
  have hk := k l p e R s m args below meth c H locs cells slots A dC dI dA ad ad0 ls n0 m0 QQ hs hf hy
  simp only [List.map_cons, cv, iShr, Int32.ofInt_toInt] at hk
  exact hk
theorem aw_irem {x y : Int} (hd : decode M.2.1 pc = .ok (.irem, 1)) (hr : rng y) (h0 : y ≠ 0)
    (k : AW M E (pc + 1) L (.inl (iRem x y) :: S) h Q) : AW M E pc L (.inl y :: .inl x :: S) h Q := by
  intro l p e R s m args below meth c H locs cells slots A dC dI dA ad ad0 ls n0 m0 QQ hs hf hy
  refine lv_irem hs.1 hs.2.1 hd (fun z => h0 ((ofI_eq hr (⟨by omega, by omega⟩ : rng 0)).mp z)) ?_
  have hk := k l p e R s m args below meth c H locs cells slots A dC dI dA ad ad0 ls n0 m0 QQ hs hf hy
  simp only [List.map_cons, cv, iRem, Int32.ofInt_toInt] at hk
  exact hk
theorem aw_ineg {x : Int} (hd : decode M.2.1 pc = .ok (.ineg, 1))
    (k : AW M E (pc + 1) L (.inl (-x) :: S) h Q) : AW M E pc L (.inl x :: S) h Q := by
  intro l p e R s m args below meth c H locs cells slots A dC dI dA ad ad0 ls n0 m0 QQ hs hf hy
  refine lv_ineg hs.1 hs.2.1 hd ?_
  rw [← ofI_neg x]
  exact k l p e R s m args below meth c H locs cells slots A dC dI dA ad ad0 ls n0 m0 QQ hs hf hy
theorem ofI_char {x : Int} (h0 : 0 ≤ x) (h1 : x < 65536) : ((Int32.ofInt x).toUInt32 % 65536).toInt32 = Int32.ofInt x := by
  obtain ⟨n, rfl⟩ := Int.eq_ofNat_of_zero_le h0
  have hn : n < 65536 := by omega
  have e : Int32.ofInt (n : Int) = nI n := rfl
  rw [e, pk_char, pk_tn (by omega), Nat.mod_eq_of_lt hn]
theorem aw_i2c {x : Int} (hd : decode M.2.1 pc = .ok (.i2c, 1)) (h0 : 0 ≤ x) (h1 : x < 65536)
    (k : AW M E (pc + 1) L (.inl x :: S) h Q) : AW M E pc L (.inl x :: S) h Q := by
  intro l p e R s m args below meth c H locs cells slots A dC dI dA ad ad0 ls n0 m0 QQ hs hf hy
  exact lv_i2c hs.1 hs.2.1 hd (ofI_char h0 h1) (k l p e R s m args below meth c H locs cells slots A dC dI dA ad ad0 ls n0 m0 QQ hs hf hy)
theorem aw_dup {v : AV} (hd : decode M.2.1 pc = .ok (.dup, 1))
    (k : AW M E (pc + 1) L (v :: v :: S) h Q) : AW M E pc L (v :: S) h Q := by
  intro l p e R s m args below meth c H locs cells slots A dC dI dA ad ad0 ls n0 m0 QQ hs hf hy
  exact lv_dup hs.1 hs.2.1 hd (cv_cat ad v) (k l p e R s m args below meth c H locs cells slots A dC dI dA ad ad0 ls n0 m0 QQ hs hf hy)
theorem aw_dup2 {u v : AV} (hd : decode M.2.1 pc = .ok (.dup2, 1))
    (k : AW M E (pc + 1) L (v :: u :: v :: u :: S) h Q) : AW M E pc L (v :: u :: S) h Q := by
  intro l p e R s m args below meth c H locs cells slots A dC dI dA ad ad0 ls n0 m0 QQ hs hf hy
  exact lv_dup2_11 hs.1 hs.2.1 hd (cv_cat ad v) (cv_cat ad u) (k l p e R s m args below meth c H locs cells slots A dC dI dA ad ad0 ls n0 m0 QQ hs hf hy)
theorem aw_goto {off : Int} {tgt : Nat} (hd : decode M.2.1 pc = .ok (.goto off, 3)) (ht : (pc : Int) + off = (tgt : Int))
    (k : AW M E tgt L S h Q) : AW M E pc L S h Q := by
  intro l p e R s m args below meth c H locs cells slots A dC dI dA ad ad0 ls n0 m0 QQ hs hf hy
  exact lv_goto hs.1 hs.2.1 hd ht (k l p e R s m args below meth c H locs cells slots A dC dI dA ad ad0 ls n0 m0 QQ hs hf hy)
theorem aw_icmp_lt {x y off : Int} {tgt : Nat} (hd : decode M.2.1 pc = .ok (.if_icmp .lt off, 3)) (ht : (pc : Int) + off = (tgt : Int)) (hx : rng x) (hy0 : rng y)
    (kt : x < y → AW M E tgt L S h Q) (kf : y ≤ x → AW M E (pc + 3) L S h Q) : AW M E pc L (.inl y :: .inl x :: S) h Q := by
  intro l p e R s m args below meth c H locs cells slots A dC dI dA ad ad0 ls n0 m0 QQ hs hf hy
  exact lv_icmp_lt hs.1 hs.2.1 hd ht (fun q => kt ((ofI_lt hx hy0).mp q) l p e R s m args below meth c H locs cells slots A dC dI dA ad ad0 ls n0 m0 QQ hs hf hy) (fun q => kf (by have q2 := mt (ofI_lt hx hy0).mpr q; omega) l p e R s m args below meth c H locs cells slots A dC dI dA ad ad0 ls n0 m0 QQ hs hf hy)
theorem aw_if_lt {x off : Int} {tgt : Nat} (hd : decode M.2.1 pc = .ok (.ifCond .lt off, 3)) (ht : (pc : Int) + off = (tgt : Int)) (hx : rng x)
    (kt : x < 0 → AW M E tgt L S h Q) (kf : 0 ≤ x → AW M E (pc + 3) L S h Q) : AW M E pc L (.inl x :: S) h Q := by
  intro l p e R s m args below meth c H locs cells slots A dC dI dA ad ad0 ls n0 m0 QQ hs hf hy
  exact lv_if_lt hs.1 hs.2.1 hd ht (fun q => kt ((ofI_lt hx (⟨by omega, by omega⟩ : rng 0)).mp q) l p e R s m args below meth c H locs cells slots A dC dI dA ad ad0 ls n0 m0 QQ hs hf hy) (fun q => kf (by have q2 := mt (ofI_lt hx (⟨by omega, by omega⟩ : rng 0)).mpr q; omega) l p e R s m args below meth c H locs cells slots A dC dI dA ad ad0 ls n0 m0 QQ hs hf hy)
theorem aw_icmp_ge {x y off : Int} {tgt : Nat} (hd : decode M.2.1 pc = .ok (.if_icmp .ge off, 3)) (ht : (pc : Int) + off = (tgt : Int)) (hx : rng x) (hy0 : rng y)
    (kt : y ≤ x → AW M E tgt L S h Q) (kf : x < y → AW M E (pc + 3) L S h Q) : AW M E pc L (.inl y :: .inl x :: S) h Q := by
  intro l p e R s m args below meth c H locs cells slots A dC dI dA ad ad0 ls n0 m0 QQ hs hf hy
  exact lv_icmp_ge hs.1 hs.2.1 hd ht (fun q => kt ((ofI_le hy0 hx).mp q) l p e R s m args below meth c H locs cells slots A dC dI dA ad ad0 ls n0 m0 QQ hs hf hy) (fun q => kf (by have q2 := mt (ofI_le hy0 hx).mpr q; omega) l p e R s m args below meth c H locs cells slots A dC dI dA ad ad0 ls n0 m0 QQ hs hf hy)
theorem aw_if_ge {x off : Int} {tgt : Nat} (hd : decode M.2.1 pc = .ok (.ifCond .ge off, 3)) (ht : (pc : Int) + off = (tgt : Int)) (hx : rng x)
    (kt : 0 ≤ x → AW M E tgt L S h Q) (kf : x < 0 → AW M E (pc + 3) L S h Q) : AW M E pc L (.inl x :: S) h Q := by
  intro l p e R s m args below meth c H locs cells slots A dC dI dA ad ad0 ls n0 m0 QQ hs hf hy
  exact lv_if_ge hs.1 hs.2.1 hd ht (fun q => kt ((ofI_le (⟨by omega, by omega⟩ : rng 0) hx).mp q) l p e R s m args below meth c H locs cells slots A dC dI dA ad ad0 ls n0 m0 QQ hs hf hy) (fun q => kf (by have q2 := mt (ofI_le (⟨by omega, by omega⟩ : rng 0) hx).mpr q; omega) l p e R s m args below meth c H locs cells slots A dC dI dA ad ad0 ls n0 m0 QQ hs hf hy)
theorem aw_icmp_gt {x y off : Int} {tgt : Nat} (hd : decode M.2.1 pc = .ok (.if_icmp .gt off, 3)) (ht : (pc : Int) + off = (tgt : Int)) (hx : rng x) (hy0 : rng y)
    (kt : y < x → AW M E tgt L S h Q) (kf : x ≤ y → AW M E (pc + 3) L S h Q) : AW M E pc L (.inl y :: .inl x :: S) h Q := by
  intro l p e R s m args below meth c H locs cells slots A dC dI dA ad ad0 ls n0 m0 QQ hs hf hy
  exact lv_icmp_gt hs.1 hs.2.1 hd ht (fun q => kt ((ofI_lt hy0 hx).mp q) l p e R s m args below meth c H locs cells slots A dC dI dA ad ad0 ls n0 m0 QQ hs hf hy) (fun q => kf (by have q2 := mt (ofI_lt hy0 hx).mpr q; omega) l p e R s m args below meth c H locs cells slots A dC dI dA ad ad0 ls n0 m0 QQ hs hf hy)
theorem aw_if_gt {x off : Int} {tgt : Nat} (hd : decode M.2.1 pc = .ok (.ifCond .gt off, 3)) (ht : (pc : Int) + off = (tgt : Int)) (hx : rng x)
    (kt : 0 < x → AW M E tgt L S h Q) (kf : x ≤ 0 → AW M E (pc + 3) L S h Q) : AW M E pc L (.inl x :: S) h Q := by
  intro l p e R s m args below meth c H locs cells slots A dC dI dA ad ad0 ls n0 m0 QQ hs hf hy
  exact lv_if_gt hs.1 hs.2.1 hd ht (fun q => kt ((ofI_lt (⟨by omega, by omega⟩ : rng 0) hx).mp q) l p e R s m args below meth c H locs cells slots A dC dI dA ad ad0 ls n0 m0 QQ hs hf hy) (fun q => kf (by have q2 := mt (ofI_lt (⟨by omega, by omega⟩ : rng 0) hx).mpr q; omega) l p e R s m args below meth c H locs cells slots A dC dI dA ad ad0 ls n0 m0 QQ hs hf hy)
theorem aw_icmp_le {x y off : Int} {tgt : Nat} (hd : decode M.2.1 pc = .ok (.if_icmp .le off, 3)) (ht : (pc : Int) + off = (tgt : Int)) (hx : rng x) (hy0 : rng y)
    (kt : x ≤ y → AW M E tgt L S h Q) (kf : y < x → AW M E (pc + 3) L S h Q) : AW M E pc L (.inl y :: .inl x :: S) h Q := by
  intro l p e R s m args below meth c H locs cells slots A dC dI dA ad ad0 ls n0 m0 QQ hs hf hy
  exact lv_icmp_le hs.1 hs.2.1 hd ht (fun q => kt ((ofI_le hx hy0).mp q) l p e R s m args below meth c H locs cells slots A dC dI dA ad ad0 ls n0 m0 QQ hs hf hy) (fun q => kf (by have q2 := mt (ofI_le hx hy0).mpr q; omega) l p e R s m args below meth c H locs cells slots A dC dI dA ad ad0 ls n0 m0 QQ hs hf hy)
theorem aw_if_le {x off : Int} {tgt : Nat} (hd : decode M.2.1 pc = .ok (.ifCond .le off, 3)) (ht : (pc : Int) + off = (tgt : Int)) (hx : rng x)
    (kt : x ≤ 0 → AW M E tgt L S h Q) (kf : 0 < x → AW M E (pc + 3) L S h Q) : AW M E pc L (.inl x :: S) h Q := by
  intro l p e R s m args below meth c H locs cells slots A dC dI dA ad ad0 ls n0 m0 QQ hs hf hy
  exact lv_if_le hs.1 hs.2.1 hd ht (fun q => kt ((ofI_le hx (⟨by omega, by omega⟩ : rng 0)).mp q) l p e R s m args below meth c H locs cells slots A dC dI dA ad ad0 ls n0 m0 QQ hs hf hy) (fun q => kf (by have q2 := mt (ofI_le hx (⟨by omega, by omega⟩ : rng 0)).mpr q; omega) l p e R s m args below meth c H locs cells slots A dC dI dA ad ad0 ls n0 m0 QQ hs hf hy)
theorem aw_icmp_eq {x y off : Int} {tgt : Nat} (hd : decode M.2.1 pc = .ok (.if_icmp .eq off, 3)) (ht : (pc : Int) + off = (tgt : Int)) (hr : x = y ∨ (rng x ∧ rng y))
    (kt : x = y → AW M E tgt L S h Q) (kf : ¬ x = y → AW M E (pc + 3) L S h Q) : AW M E pc L (.inl y :: .inl x :: S) h Q := by
  intro l p e R s m args below meth c H locs cells slots A dC dI dA ad ad0 ls n0 m0 QQ hs hf hy
  refine lv_icmp_eq hs.1 hs.2.1 hd ht (fun q => ?_) (fun q => ?_)
  · exact kt (hr.elim id (fun r => (ofI_eq r.1 r.2).mp q)) l p e R s m args below meth c H locs cells slots A dC dI dA ad ad0 ls n0 m0 QQ hs hf hy
  · exact kf (fun z => q (by rw [z])) l p e R s m args below meth c H locs cells slots A dC dI dA ad ad0 ls n0 m0 QQ hs hf hy
theorem aw_icmp_ne {x y off : Int} {tgt : Nat} (hd : decode M.2.1 pc = .ok (.if_icmp .ne off, 3)) (ht : (pc : Int) + off = (tgt : Int)) (hr : x = y ∨ (rng x ∧ rng y))
    (kt : ¬ x = y → AW M E tgt L S h Q) (kf : x = y → AW M E (pc + 3) L S h Q) : AW M E pc L (.inl y :: .inl x :: S) h Q := by
  intro l p e R s m args below meth c H locs cells slots A dC dI dA ad ad0 ls n0 m0 QQ hs hf hy
  refine lv_icmp_ne hs.1 hs.2.1 hd ht (fun q => ?_) (fun q => ?_)
  · exact kt (fun z => q (by rw [z])) l p e R s m args below meth c H locs cells slots A dC dI dA ad ad0 ls n0 m0 QQ hs hf hy
  · exact kf (hr.elim id (fun r => (ofI_eq r.1 r.2).mp q)) l p e R s m args below meth c H locs cells slots A dC dI dA ad ad0 ls n0 m0 QQ hs hf hy
theorem aw_if_eq {x off : Int} {tgt : Nat} (hd : decode M.2.1 pc = .ok (.ifCond .eq off, 3)) (ht : (pc : Int) + off = (tgt : Int)) (hr : rng x)
    (kt : x = 0 → AW M E tgt L S h Q) (kf : ¬ x = 0 → AW M E (pc + 3) L S h Q) : AW M E pc L (.inl x :: S) h Q := by
  intro l p e R s m args below meth c H locs cells slots A dC dI dA ad ad0 ls n0 m0 QQ hs hf hy
  refine lv_if_eq hs.1 hs.2.1 hd ht (fun q => ?_) (fun q => ?_)
  · exact kt ((ofI_eq hr (⟨by omega, by omega⟩ : rng 0)).mp q) l p e R s m args below meth c H locs cells slots A dC dI dA ad ad0 ls n0 m0 QQ hs hf hy
  · exact kf (fun z => q (by rw [z]; rfl)) l p e R s m args below meth c H locs cells slots A dC dI dA ad ad0 ls n0 m0 QQ hs hf hy
theorem aw_if_ne {x off : Int} {tgt : Nat} (hd : decode M.2.1 pc = .ok (.ifCond .ne off, 3)) (ht : (pc : Int) + off = (tgt : Int)) (hr : rng x)
    (kt : ¬ x = 0 → AW M E tgt L S h Q) (kf : x = 0 → AW M E (pc + 3) L S h Q) : AW M E pc L (.inl x :: S) h Q := by
  intro l p e R s m args below meth c H locs cells slots A dC dI dA ad ad0 ls n0 m0 QQ hs hf hy
  refine lv_if_ne hs.1 hs.2.1 hd ht (fun q => ?_) (fun q => ?_)
  · exact kt (fun z => q (by rw [z]; rfl)) l p e R s m args below meth c H locs cells slots A dC dI dA ad ad0 ls n0 m0 QQ hs hf hy
  · exact kf ((ofI_eq hr (⟨by omega, by omega⟩ : rng 0)).mp q) l p e R s m args below meth c H locs cells slots A dC dI dA ad ad0 ls n0 m0 QQ hs hf hy
theorem aw_tswIn {dflt lo hi : Int} {offs : Array Int} {len : Nat} {x off : Int} {tgt : Nat} (hd : decode M.2.1 pc = .ok (.tableswitch dflt lo hi offs, len)) (hr : rng x) (h1 : lo ≤ x) (h2 : x ≤ hi) (ho : offs[(x - lo).toNat]? = some off) (ht : (pc : Int) + off = (tgt : Int))
    (k : AW M E tgt L S h Q) : AW M E pc L (.inl x :: S) h Q := by
  intro l p e R s m args below meth c H locs cells slots A dC dI dA ad ad0 ls n0 m0 QQ hs hf hy
  exact lv_tableIn hs.1 hs.2.1 hd (by rw [ofI_toInt hr]; omega) (by rw [ofI_toInt hr]; omega) (by rw [ofI_toInt hr]; exact ho) ht (k l p e R s m args below meth c H locs cells slots A dC dI dA ad ad0 ls n0 m0 QQ hs hf hy)
theorem aw_tswOut {dflt lo hi : Int} {offs : Array Int} {len : Nat} {x : Int} {tgt : Nat} (hd : decode M.2.1 pc = .ok (.tableswitch dflt lo hi offs, len)) (hr : rng x) (h1 : x < lo ∨ hi < x) (ht : (pc : Int) + dflt = (tgt : Int))
    (k : AW M E tgt L S h Q) : AW M E pc L (.inl x :: S) h Q := by
  intro l p e R s m args below meth c H locs cells slots A dC dI dA ad ad0 ls n0 m0 QQ hs hf hy
  exact lv_tableOut hs.1 hs.2.1 hd (by rw [ofI_toInt hr]; exact h1) ht (k l p e R s m args below meth c H locs cells slots A dC dI dA ad ad0 ls n0 m0 QQ hs hf hy)
theorem aw_lsw {dflt : Int} {ps : Array (Int × Int)} {len : Nat} {x off : Int} {tgt : Nat} (hd : decode M.2.1 pc = .ok (.lookupswitch dflt ps, len)) (hr : rng x) (hp : (ps.toList.zip (ps.toList.drop 1)).all (fun (a, next) => a.1 < next.1) = true) (ho : Op.lookupswitch.offset ps.toList dflt x = off) (ht : (pc : Int) + off = (tgt : Int))
    (k : AW M E tgt L S h Q) : AW M E pc L (.inl x :: S) h Q := by
  intro l p e R s m args below meth c H locs cells slots A dC dI dA ad ad0 ls n0 m0 QQ hs hf hy
  exact lv_lookup hs.1 hs.2.1 hd hp (by rw [ofI_toInt hr]; exact ho) ht (k l p e R s m args below meth c H locs cells slots A dC dI dA ad ad0 ls n0 m0 QQ hs hf hy)
end MACH
