
def LJ (X : AX) (pc : Nat) (L : List (Option AV)) (S : List AV) (sh : List ShC) (m : AM) : Prop := AW mL_law (X, 10, 404, 108, 5406) pc L S (sh, m) (fun v h => v = some 1 ∧ h.1 = SH ++ List.replicate 8 cHas)
section LJS
variable {X : AX} {pc : Nat} {L : List (Option AV)} {S : List AV} {sh : List ShC} {m : AM}
theorem lj_new {idx ci N : Nat} {C : String} {T : u_T} {ty : Nat → FieldType} {fs : List ShF} (q : Nat) {sh' : List ShC} (hd : decode cL_law pc = .ok (.new idx, 3)) (hk : aCl ci C T N ty) (hl : Cond.classLink RL idx C ∈ GW) (hi : Cond.instantiable C N ∈ GW) (hini : Cond.initialized C ∈ GW) (hN : fs.length = N) (hfs : ∀ j, j < N → defaultValue (ty j) = vp_V (fs.map (fun f => match f with | none => .int 0 | some _ => .null)) j) (hnn : ∀ f ∈ fs, f = none ∨ f = some none) (hq : sh.length = q) (hlt : q < 1000) (hfr : aFresh q (sh ++ [.inl (ci, fs)]) L S = true) (hc1 : q + 1 ≤ 108) (hc2 : slS sh + N ≤ 5406) (hsh : sh ++ [.inl (ci, fs)] = sh')
    (k : LJ X (pc + 3) L (.inr q :: S) sh' (am_new m q)) : LJ X pc L S sh m := by
  subst hq; subst hsh
  exact aw_new hd hk hl hi hini hN hfs hnn hlt hfr hc1 hc2 k
theorem lj_inv {idx q nc ns K' : Nat} {M' : MI} {shE' : List ShC} {Q' : AM → Prop} (hd : decode cL_law pc = .ok (.invokespecial idx, 3)) (hb : aMI RL idx M' 0) (hM : CI K' M' nc ns [.inr q] sh m shE' Q') (hrest : S.length ≤ 8) (hK : K' + 1 ≤ 10) (hml : M'.2.2.1 ≤ 17) (hsml : sh.length + nc ≤ 1000) (ok : aKeep sh.length (sh.length + nc) L S = true) (hc1 : sh.length + nc ≤ 108) (hc2 : slS sh + ns ≤ 5406)
    (kk : ∀ m', Q' m' → LJ X (pc + 3) L S shE' m') : LJ X pc L (.inr q :: S) sh m := by
  obtain ⟨r1, r2, r3⟩ := rk_call (K := 10) (d := 10) (r := 404) ⟨by omega, by omega⟩ hK hml
  refine aw_invI hd hb rfl rfl hrest (hM X _ _ r1) r2 r3 hsml ok hc1 hc2 (fun v h' hq _ _ => ?_)
  obtain ⟨sh', m'⟩ := h'
  obtain ⟨rfl, e, hq⟩ := hq
  simp only at e hq
  subst e
  exact kk m' hq
theorem lj_dup {v : AV} (hd : decode cL_law pc = .ok (.dup, 1)) (k : LJ X (pc + 1) L (v :: v :: S) sh m) : LJ X pc L (v :: S) sh m := aw_dup hd k
theorem lj_ast {i : Nat} {j : Fin 4} {L' : List (Option AV)} {x : Nat} (hd : decode cL_law pc = .ok (.astore_n j, 1)) (hi : (j : Nat) = i) (hn : i < 11) (hL : L.set i (some (.inr x)) = L') (k : LJ X (pc + 1) L' S sh m) : LJ X pc L (.inr x :: S) sh m := aw_ast_n hd hi hn hL k
end LJS
set_option maxHeartbeats 4000000 in
theorem law_all (X : AX) (hX : X.1 ≤ 260) (m : AM) : LJ X 0 [some (.inr 1000), none, none, none, none, none, none, none, none, none, none] [] [] m := by
  refine lj_new (pc := 0) (fs := [some none, some none, some none, some none, some none, some none, none]) 0 (sh' := (pt 1 [(0, .inl (8, [some none, some none, some none, some none, some none, some none, none]))])) dL_law_0 kX8 kl_RL_14 ki_RX8 kn_RX8 rfl (fun j hj => by rcases (by omega : j = 0 ∨ j = 1 ∨ j = 2 ∨ j = 3 ∨ j = 4 ∨ j = 5 ∨ j = 6) with rfl | rfl | rfl | rfl | rfl | rfl | rfl <;> rfl) (by simp) (by decide) (by decide) (by decide +kernel) (by decide) (by decide) (by decide +kernel) ?_
  refine lj_dup (pc := 3) dL_law_3 ?_
  refine lj_inv (pc := 4) dL_law_4 mi_RL_95 (iX8_init_0 (am_new m 0)) (by decide) (by decide) (by decide) (by decide +kernel) (by decide +kernel) (by decide +kernel) (by decide +kernel) (fun m1 c => ?_)
  obtain ⟨c1, c2, c3, c4, c5, c6, c7, c8, c9, c10⟩ := c
  refine lj_ast (pc := 7) (L' := [some (.inr 1000), some (.inr 0), none, none, none, none, none, none, none, none, none]) dL_law_7 rfl (by decide) rfl ?_
  rw [show pt 100 [] = SH by decide +kernel]
  have k := l_walk hX m1 (GI_start c1 c2 c3 c4 c5 c6 c7 c8 c9 c10) 10 404 ⟨by decide, by decide⟩
  rw [List.append_nil] at k
  exact (AL.toW (by decide) k).mono (fun v h' q => ⟨q.2, q.1⟩)
/-! THE CLAIM OUT OF ONE WALK OF THE LAW'S BODY. Your part is whole_start (and what it stands on); all else here is the same for every law, but numbers. -/
def R_law : String := "EnamelKilnLaw"
def lw_P (b : Addr) (xs : List Int32) (args : Array Value) (s : State) : Prop := args = #[.ref b] ∧ s.IntsAt b xs ∧ xs.length ≤ 260 ∧ (Jvm.Cond.and given_1 narrow_1).before args s = true
def lw_Q (_ : Array Value) (s : State) (o : Outcome) (t : State) : Prop := o = .returned (some (.int 1)) ∧ Framed s o t [] 600000 7302250
def lw_Z (below : List Frame) (a : Array Value) (s : State) : State → Prop := fun t => ∃ o, t.status = .running ∧ Ended t below o ∧ lw_Q a s o t
/-- the law's own end, with 1 on the stack, nothing written that was there before, its room as the claim has it -/
theorem lw_ret {p : Program} {l : Launch} {e : Env} {s : State} {m : MethodId} {below : List Frame} {meth : Method} {c : Code} {b : Nat} (hx : p.tables.exec = Jvm.exec) (hb : c.code = code) (hr : meth.sig.returnType = ret) (hlocks : meth.locks = false) {pc : Nat} {H : Heap} {ls : Array Slot} (hdg : decode code pc = .ok (.ireturn, 1)) : W p l e room_1 s m #[Value.ref b] below meth c H [] 600000 7302250 (lw_Z below #[Value.ref b] s) (F0 m pc ls [.int 1]) := by
  intro T hT X
  obtain ⟨fs, hret, hrun, hended, hW, hframe⟩ := X.leave (v := some (.int 1)) (hlocks := hlocks) (fun h => by rw [hr] at h; cases h)
  have hmeth' : T.vm.method? m = some meth := X.method'
  refine ⟨T.setFrames fs, ?_, .returned (some (.int 1)), hrun, hended, rfl, ⟨_, rfl⟩, hW, hframe⟩
  jvm_step X.here [X.here.top, hx, hb, hdg, hmeth', hr, ret, narrow_b1]
  (try refine ⟨rfl, ?_⟩); (try refine ⟨rfl, ?_⟩)
  first | (intro acts; rw [hret _ acts rfl rfl rfl]) | rw [hret _ _ rfl rfl rfl]
  exact Steps.refl _
/-- what holds at the law's entry: the machine, the code, the tables' words (any of lw_tbl by 'hts w (by decide +kernel)'), the script of L ints xs at the cell b, what the Statement gives of the start (any of its parts by flat_of_before) -/
def lw_At (p : Program) (s : State) (m : MethodId) (meth : Method) (c : Code) (b L : Nat) (xs : Nat → Int32) : Prop :=
  p.tables.exec = Jvm.exec ∧ c.code = code ∧ meth.sig.returnType = ret ∧ c.maxLocals = 11 ∧ s.vm.findClass R_law = some m.cls ∧ (∀ w ∈ lw_tbl, w.before #[Value.ref b] s = true) ∧ va_X b L xs s s.heap ∧ b < s.heap.size ∧ meth.locks = false ∧ (Jvm.Cond.and given_1 narrow_1).before #[Value.ref b] s = true ∧ meth.name = "law"

theorem st_arr {args : Array Value} {s : State} {st : Term} {v0 v1 v2 : Int32} {f : Nat → Int32} (harr : (Cond.arrayOf st .int).before args s = true) (hlen : (Cond.eq (.length st) (.int 3)).before args s = true) (h0 : (Cond.eq (.elem st (.int 0)) (.int v0)).before args s = true) (h1 : (Cond.eq (.elem st (.int 1)) (.int v1)).before args s = true) (h2 : (Cond.eq (.elem st (.int 2)) (.int v2)).before args s = true) (f0 : f 0 = v0) (f1 : f 1 = v1) (f2 : f 2 = v2) : ∃ a : Nat, st.eval args s none [] s = some (.ref a) ∧ va_X a 3 f s s.heap ∧ a < s.heap.size := by
  have hv := va_eqt hlen
  obtain ⟨t, cell, ht, hat, hv'⟩ := Term.length_spec hv
  have hsz : cell.slots.size < 2 ^ 31 := by
    simp only [Term.eval, ht, hat, Option.bind_eq_bind, Option.bind_some] at hv
    by_cases hlt : cell.slots.size < 2147483648
    · exact hlt
    · simp [hlt] at hv
  obtain ⟨hcell, hkn, -, -⟩ := State.arrayAt?_spec hat
  obtain ⟨hof, -⟩ := Cond.arrayOf_spec harr ht hcell
  have hs3 : cell.slots.size = 3 := by
    have e : (3 : Int32) = Int32.ofNat cell.slots.size := Value.int.inj hv'
    have e2 := congrArg Int32.toInt e
    rw [Int32.toInt_ofNat_small hsz] at e2
    have e3 : (3 : Int32).toInt = 3 := by decide +kernel
    omega
  have key : ∀ (j : Nat) (z : Int32) (v : Int32), z.toNatClampNeg = j → (Cond.eq (.elem st (.int z)) (.int v)).before args s = true → cell.slots[j]? = some (.int v) := by
    intro j z v hz hj
    obtain ⟨a, i, cell2, g1, g2, g3, g4, g5⟩ := Term.elem_spec (va_eqt hj)
    cases ht.symm.trans g1
    cases hat.symm.trans g3
    have hi : i = z := by
      have e : (Term.int z).eval args s none [] s = some (.int z) := rfl
      cases g2.symm.trans e
      rfl
    rw [hi, hz] at g5
    exact g5
  refine ⟨t, ht, ⟨cell, hcell, hof, hkn, hs3, fun j hj => ?_⟩, (Array.getElem?_eq_some_iff.mp hcell).1⟩
  rcases (by omega : j = 0 ∨ j = 1 ∨ j = 2) with rfl | rfl | rfl
  · rw [f0]; exact key 0 0 v0 (by decide +kernel) h0
  · rw [f1]; exact key 1 1 v1 (by decide +kernel) h1
  · rw [f2]; exact key 2 2 v2 (by decide +kernel) h2
theorem st_cls {s : State} {args : Array Value} (hG : ∀ w ∈ GW, w.before args s = true) (c : Nat) : ∃ (cC : ClassId) (iS : Nat → Nat), ∀ q : vw_C, vwCl[c]? = some q → u_Kn s q.1 q.2.1 q.2.2 cC iS := by
  match c with
  | 0 =>
    obtain ⟨a, b, h⟩ := u_known (n := 5) hG kX0.2.1 (hG _ ki_RX0)
    exact ⟨a, b, fun q e => by cases e; exact h⟩
  | 1 =>
    obtain ⟨a, b, h⟩ := u_known (n := 6) hG kX1.2.1 (hG _ ki_RX1)
    exact ⟨a, b, fun q e => by cases e; exact h⟩
  | 2 =>
    obtain ⟨a, b, h⟩ := u_known (n := 3) hG kX2.2.1 (hG _ ki_RX2)
    exact ⟨a, b, fun q e => by cases e; exact h⟩
  | 3 =>
    obtain ⟨a, b, h⟩ := u_known (n := 4) hG kX3.2.1 (hG _ ki_RX3)
    exact ⟨a, b, fun q e => by cases e; exact h⟩
  | 4 =>
    obtain ⟨a, b, h⟩ := u_known (n := 8) hG kX4.2.1 (hG _ ki_RX4)
    exact ⟨a, b, fun q e => by cases e; exact h⟩
  | 5 =>
    obtain ⟨a, b, h⟩ := u_known (n := 5) hG kX5.2.1 (hG _ ki_RX5)
    exact ⟨a, b, fun q e => by cases e; exact h⟩
  | 6 =>
    obtain ⟨a, b, h⟩ := u_known (n := 4) hG kX6.2.1 (hG _ ki_RX6)
    exact ⟨a, b, fun q e => by cases e; exact h⟩
  | 7 =>
    obtain ⟨a, b, h⟩ := u_known (n := 2) hG kX7.2.1 (hG _ ki_RX7)
    exact ⟨a, b, fun q e => by cases e; exact h⟩
  | 8 =>
    obtain ⟨a, b, h⟩ := u_known (n := 7) hG kX8.2.1 (hG _ ki_RX8)
    exact ⟨a, b, fun q e => by cases e; exact h⟩
  | n + 9 =>
    obtain ⟨a, b, h⟩ := u_known (n := 5) hG kX0.2.1 (hG _ ki_RX0)
    exact ⟨a, b, fun q e => by simp at e⟩
theorem st_tys {s : State} {args : Array Value} (hG : ∀ w ∈ GW, w.before args s = true) (hO : (Cond.arrayOver (.object RX0)).before args s = true) : ∃ dA : Nat → ClassId, ∀ (k : Nat) (q : ClassId × FieldType), (tysA dA)[k]? = some q → ArrOfT s q.1 q.2 ∧ va_RA s q.1 q.2 := by
  obtain ⟨a0, k0, p0, i1, i2, i3⟩ := Cond.arrayClass_spec (hG _ ka_int)
  obtain ⟨a1, k1, p1, j1, j2, j3⟩ := Cond.arrayClass_spec (hG _ ka_boolean)
  obtain ⟨a2, k2, p2, l1, l2, l3⟩ := Cond.arrayClass_spec (hG _ ka_char)
  obtain ⟨p3, a3, k3, o1, -, o2, o3, o4⟩ := Cond.arrayOver_spec hO
  refine ⟨fun k => if k = 0 then a0 else if k = 1 then a1 else if k = 2 then a2 else a3, fun k q h => ?_⟩
  match k, h with
  | 0, h => cases h; exact ⟨fun n z => ⟨fun k h => (by cases h), k0, i2, p0, i3⟩, i1⟩
  | 1, h => cases h; exact ⟨fun n z => ⟨fun k h => (by cases h), k1, j2, p1, j3⟩, j1⟩
  | 2, h => cases h; exact ⟨fun n z => ⟨fun k h => (by cases h), k2, l2, p2, l3⟩, l1⟩
  | 3, h => cases h; exact ⟨fun n z => ⟨fun k h => (by cases h), k3, o2, p3, o3⟩, k3, p3, o2, o3, o1, o4⟩
  | k + 4, h => simp [tysA] at h
set_option maxHeartbeats 4000000 in
/-- the law, from its entry -/
theorem whole_start {p : Program} {e : Env} {s : State} {m : MethodId} {below : List Frame} {meth : Method} {c : Code} (l : Launch) (_hflags : l.flags = flags0) {b L : Nat} {xs : Nat → Int32} (hL : L ≤ 260) (C0 : lw_At p s m meth c b L xs) : W p l e room_1 s m #[Value.ref b] below meth c s.heap [] 0 0 (lw_Z below #[Value.ref b] s) (entryFrame m ([Value.ref b] : List Value).toArray 11) := by
  obtain ⟨hx, hb, hr, hml, hown, hts, hX, hbl, hlocks, hgv, hname⟩ := id C0
  have hs := flat_of_before _ hgv
  have hG : ∀ w ∈ GW, w.before #[Value.ref b] s = true := fun w hw => hts w (List.mem_filter.mp hw).1
  have hN : ∀ w ∈ NWL, va_Nw w s := fun w hw => va_any (by
    have h2 := (List.mem_filter.mp hw).2
    cases w <;> first | rfl | (simp [am_nest] at h2)) (hts w (List.mem_filter.mp hw).1)
  have hO : (Cond.arrayOver (.object RX0)).before #[Value.ref b] s = true := hts _ (by decide +kernel)
  obtain ⟨dA, hT⟩ := st_tys hG hO
  have hcl := st_cls hG
  obtain ⟨a1, z1, x1, s1⟩ := st_arr (st := .static "EnamelKiln" "LEAST_SETTING" "[I") (f := sLeast) (v0 := 1) (v1 := 0) (v2 := 0) (hs _ (by decide +kernel)) (hs _ (by decide +kernel)) (hs _ (by decide +kernel)) (hs _ (by decide +kernel)) (hs _ (by decide +kernel)) rfl rfl rfl
  obtain ⟨a2, z2, x2, s2⟩ := st_arr (st := .static "EnamelKiln" "GREATEST_SETTING" "[I") (f := sGreat) (v0 := 10) (v1 := 5) (v2 := 400) (hs _ (by decide +kernel)) (hs _ (by decide +kernel)) (hs _ (by decide +kernel)) (hs _ (by decide +kernel)) (hs _ (by decide +kernel)) rfl rfl rfl
  have hA0 : ∀ a : Nat, a < s.heap.size → ¬ (fun q : Nat => s.heap.size ≤ q) a := fun a h => Nat.not_le.mpr h
  have w1 : va_Z RX8 "LEAST_SETTING" "[I" (.ref a1) (fun q : Nat => s.heap.size ≤ q) s s.heap := va_Zof (hts (.laysStatic RX8 "LEAST_SETTING" "[I") (by decide +kernel)) (hts (.initialized RX8) (by decide +kernel)) z1 hA0
  have w2 : va_Z RX8 "GREATEST_SETTING" "[I" (.ref a2) (fun q : Nat => s.heap.size ≤ q) s s.heap := va_Zof (hts (.laysStatic RX8 "GREATEST_SETTING" "[I") (by decide +kernel)) (hts (.initialized RX8) (by decide +kernel)) z2 hA0
  obtain ⟨ad, h0, h1, h2⟩ : ∃ ad : Nat → Nat, ad 1000 = b ∧ ad 1001 = a1 ∧ ad 1002 = a2 := ⟨fun k => if k = 1000 then b else if k = 1001 then a1 else a2, by simp, by simp, by simp⟩
  have hl := lvL_entry ad [.inr 1000] 11 (by decide)
  simp only [List.map_cons, List.map_nil, cv, h0] at hl
  rw [lg_entry_eq]
  generalize (lg_sl ([.ref b]) ++ List.replicate (11 - (lg_sl ([.ref b])).length) Slot.unset).toArray = ls at hl ⊢
  have hl : lvL ad ls 11 [some (.inr 1000), none, none, none, none, none, none, none, none, none, none] := hl
  have K : AW mL_law ((L, xs), 10, 404, 108, 5406) 0 [some (.inr 1000), none, none, none, none, none, none, none, none, none, none] [] ([], fun _ _ => 0) (fun v h => v = some 1 ∧ h.1 = SH ++ List.replicate 8 cHas) := law_all (L, xs) hL _
  refine K l p e room_1 s m #[Value.ref b] below meth c s.heap [] 0 0 (fun q : Nat => s.heap.size ≤ q) (fun c => (hcl c).choose) (fun c => (hcl c).choose_spec.choose) dA ad ad ls 0 0 (lw_Z below #[Value.ref b] s) ⟨hx, hb, hr, hml, hown, hG, hlocks, hname, hN, va_AO.of hO, ⟨fun c q hq => (hcl c).choose_spec.choose_spec q hq, hT⟩, fun _ h => h, Nat.le_refl _, Nat.le_refl _, Nat.le_of_ble_eq_true rfl, Nat.le_of_ble_eq_true rfl⟩ ?_ ⟨fun k q h => by simp [con] at h, ⟨fun i j p q h => by simp [con] at h, fun k q h => by simp [con] at h⟩, va_S.rf, rfl, rfl, hl, ⟨⟨by rw [h0]; exact hX, by rw [h0]; exact hbl, by rw [h0]; exact Nat.not_le.mpr hbl⟩, ⟨by rw [h1]; exact x1, by rw [h1]; exact s1, by rw [h1]; exact Nat.not_le.mpr s1⟩, ⟨by rw [h2]; exact x2, by rw [h2]; exact s2, by rw [h2]; exact Nat.not_le.mpr s2⟩, by rw [h1]; exact w1, by rw [h2]; exact w2⟩, fun _ _ => rfl⟩
  intro v h' H' locs' cells' slots' ad' ls' pc' L' q y hc1 hc2 he
  obtain ⟨rfl, hsh⟩ := q
  obtain ⟨y1, y2, y3, y4, y5, y6, y7, y8⟩ := y
  simp only at hc1 hc2
  have e1 : cells' = 108 := by omega
  have e2 : slots' = 5406 := by omega
  subst e1
  subst e2
  have e3 : Int32.ofInt 1 = 1 := by decide +kernel
  show W p l e room_1 s m #[Value.ref b] below meth c H' locs' 108 5406 _ (F0 m pc' ls' [.int (Int32.ofInt 1)])
  rw [e3]
  refine W.widen (k := 600000) (n := 7302250) (Nat.le_of_ble_eq_true rfl) (Nat.le_of_ble_eq_true rfl) ?_
  exact va_forget (fun q hq => y3.2.2 q hq) (lw_ret hx hb hr hlocks he.1)
