def wsM (M : MI) : List Cond := Cond.code M.1 M.2.1 M.2.2.1 M.2.2.2 :: GW
def aPre (X : AX) (dC : Nat → ClassId) (dI : Nat → Nat → Nat) (dA : Nat → ClassId) (ad : Nat → Nat) (h : HP) (sz : Nat) (U : State) : Prop := U.heap.size = sz ∧ va_P (dC, dI) vwCl (con dA ad h) U.heap ∧ va_K (dC, dI) vwCl (tysA dA) U ∧ va_D (fun _ => True) (con dA ad h) ∧ (∀ w ∈ NWL, va_Nw w U) ∧ va_AO RX0 U ∧ aRO X ad (va_A (con dA ad h) sz) U
def aQ (dC : Nat → ClassId) (dI : Nat → Nat → Nat) (dA : Nat → ClassId) (ad : Nat → Nat) (h : HP) (sz mc ms : Nat) (Q : Option Int → HP → Prop) : Array Value → State → Outcome → State → Prop := fun _ st oc t => (∃ (v : Option Int) (h' : HP) (ad' : Nat → Nat), oc = .returned (v.map (fun z => .int (Int32.ofInt z))) ∧ Q v h' ∧ h'.1.length = h.1.length + mc ∧ slS h'.1 = slS h.1 + ms ∧ (∀ k : Nat, (k < h.1.length ∨ h'.1.length ≤ k) → ad' k = ad k) ∧ va_P (dC, dI) vwCl (con dA ad' h') t.heap ∧ va_D (va_A (con dA ad h) sz) (con dA ad' h')) ∧ va_F (va_A (con dA ad h) sz) st t
/-- what a method does: from h with these values to one of Q -/
def AC (X : AX) (M : MI) (d r mc ms : Nat) (av : List AV) (h : HP) (Q : Option Int → HP → Prop) : Prop :=
  ∀ (l : Launch) (dC : Nat → ClassId) (dI : Nat → Nat → Nat) (dA : Nat → ClassId) (ad : Nat → Nat) (sz : Nat), Met l M.1 (wsM M) ({ frames := d, cells := mc, slots := ms, locals := r } : Room) (va_Pc (av.map (cv ad)) (aPre X dC dI dA ad h sz)) (aQ dC dI dA ad h sz mc ms Q) mc ms (va_A (con dA ad h) sz)
theorem lg_slV (ad : Nat → Nat) (av : List AV) : lg_sl (av.map (cv ad)) = av.map (fun v => Slot.val (cv ad v)) := by
  unfold lg_sl
  induction av with
  | nil => rfl
  | cons v av ih =>
    rw [List.map_cons, List.flatMap_cons, ih, if_neg (by rw [cv_cat]; decide)]
    rfl
theorem lvL_entry (ad : Nat → Nat) (av : List AV) (n : Nat) (hn : av.length ≤ n) : lvL ad ((lg_sl (av.map (cv ad)) ++ List.replicate (n - (lg_sl (av.map (cv ad))).length) Slot.unset).toArray) n (av.map some ++ List.replicate (n - av.length) none) := by
  have hle : (lg_sl (av.map (cv ad))).length = av.length := by rw [lg_slV]; simp
  have h0 := lv_entry (av.map (cv ad)) (n := n) (by rw [hle]; exact hn)
  refine ⟨h0.1, h0.2.1, fun i v hv => ?_⟩
  rcases Nat.lt_or_ge i av.length with hi | hi
  · rw [List.getElem?_append_left (by simpa using hi), List.getElem?_map] at hv
    rw [List.getElem?_toArray, List.getElem?_append_left (by rw [hle]; exact hi), lg_slV, List.getElem?_map]
    cases hav : av[i]? with
    | none => rw [hav] at hv; cases hv
    | some u =>
      rw [hav] at hv
      simp only [Option.map_some, Option.some.injEq] at hv
      subst hv
      rfl
  · rw [List.getElem?_append_right (by simpa using hi)] at hv
    have := List.eq_of_mem_replicate (List.mem_of_getElem? hv)
    cases this
theorem ac_of {X : AX} {M : MI} {d r mc ms : Nat} {av : List AV} {h : HP} {Q : Option Int → HP → Prop} (hp : plainName M.1.cls = true) (hlen : av.length ≤ M.2.2.1)
    (k : AW M (X, d, r, h.1.length + mc, slS h.1 + ms) 0 (av.map some ++ List.replicate (M.2.2.1 - av.length) none) [] h Q) : AC X M d r mc ms av h Q := by
  intro l dC dI dA ad sz
  refine Met.ofW (cc := M.2.1) (maxL := M.2.2.1) (ret := M.2.2.2) hp rfl ?_
  intro p e s m args below meth c s₁ B hml hv
  obtain ⟨rfl, hsz, hP, hK, hD0, hN, hO, hR⟩ := hv
  subst hsz
  have hts := atoms_spec (ws := wsM M) B.pre
  have hown : s.vm.findClass M.1.cls = some m.cls := findClass_of_methodNamed B.named
  have hin : meth.name = M.1.name := (name_of_methodNamed B.named B.method).1
  have hD := hD0.self (sz := s.heap.size)
  have hS : va_S (va_A (con dA ad h) s.heap.size) s.heap s.heap [] := va_S.rf
  have hl := lvL_entry ad av M.2.2.1 hlen
  rw [lg_entry_eq]
  refine k l p e _ s m _ below meth c s.heap [] 0 0 (va_A (con dA ad h) s.heap.size) dC dI dA ad ad _ h.1.length (slS h.1) _ ⟨B.exec, B.bytes, B.returns, hml, hown, fun w hw => hts w (List.mem_cons_of_mem _ hw), B.notSynchronized, hin, hN, hO, hK, fun q hq => Or.inr hq, Nat.le_refl _, Nat.le_refl _, by show h.1.length + mc ≤ mc + h.1.length; omega, by show slS h.1 + ms ≤ ms + slS h.1; omega⟩ ?_ ⟨hP, hD, hS, by omega, by omega, hl, hR, fun k _ => rfl⟩
  intro v h' H' locs' cells' slots' ad' ls' pc' L' q y hc1 hc2 he
  obtain ⟨y1, y2, y3, y4, y5, y6, y7, y8⟩ := y
  simp only at hc1 hc2
  have e1 : cells' = mc := by omega
  have e2 : slots' = ms := by omega
  subst e1
  subst e2
  cases v with
  | none =>
    exact W.vret B.exec B.bytes (B.returns.trans he.2) (fun t ht hW => ⟨⟨none, h', ad', rfl, q, hc1, hc2, y8, by rw [ht]; exact y1, y2⟩, y3.F ht⟩) y3.2.2 he.1 B.notSynchronized
  | some z =>
    rcases he.2 with e3 | ⟨e3, e4⟩
    · exact W.zret B.exec B.bytes (B.returns.trans e3) rfl (fun t ht hW => ⟨⟨some z, h', ad', rfl, q, hc1, hc2, y8, by rw [ht]; exact y1, y2⟩, y3.F ht⟩) y3.2.2 he.1 B.notSynchronized
    · exact W.zret B.exec B.bytes (B.returns.trans e3) (nar_b true (fun _ => e4)).1 (fun t ht hW => ⟨⟨some z, h', ad', rfl, q, hc1, hc2, y8, by rw [ht]; exact y1, y2⟩, y3.F ht⟩) y3.2.2 he.1 B.notSynchronized
theorem AC.mono {X : AX} {M : MI} {d r mc ms : Nat} {av : List AV} {h : HP} {Q Q' : Option Int → HP → Prop} (k : AC X M d r mc ms av h Q) (hq : ∀ v h', Q v h' → Q' v h') : AC X M d r mc ms av h Q' := by
  intro l dC dI dA ad sz p e ha hc hk s m args below hf happ hP hK
  obtain ⟨n, o, h1, h2, h3, ⟨⟨v, h', ad', b1, b2, b3⟩, h5⟩, h6⟩ := k l dC dI dA ad sz p e ha hc hk s m args below hf happ hP hK
  exact ⟨n, o, h1, h2, h3, ⟨⟨v, h', ad', b1, hq _ _ b2, b3⟩, h5⟩, h6⟩
theorem gw_good {w : Cond} (h : w ∈ GW) : (w.onTables && w.keeps) = true ∨ ∃ ty, w = .arrayClass ty := good_of_word (List.mem_filter.mp h).2
theorem gw_ws {M : MI} (hc : Cond.code M.1 M.2.1 M.2.2.1 M.2.2.2 ∈ GW) : GoodIn GW (wsM M) := by
  intro w hw
  rcases List.mem_cons.mp hw with rfl | hw
  · exact ⟨hc, gw_good hc⟩
  · exact ⟨hw, gw_good hw⟩
theorem gw_wsV {own : String} {idx : Nat} {M : MI} (b1 : Cond.methodLink own idx M.1 ∈ GW) (b2 : Cond.instanceMethod M.1 ∈ GW) (b3 : Cond.selects M.1.cls M.1 M.1 ∈ GW) (b4 : Cond.initialized M.1.cls ∈ GW) (hc : Cond.code M.1 M.2.1 M.2.2.1 M.2.2.2 ∈ GW) : GoodIn GW (wsV own idx M.1.cls M.1 (wsM M)) := by
  intro w hw
  rcases List.mem_append.mp hw with hw | hw
  · have hw2 : w ∈ GW := by
      simp only [List.mem_cons, List.not_mem_nil, or_false] at hw
      rcases hw with rfl | rfl | rfl | rfl
      · exact b1
      · exact b2
      · exact b3
      · exact b4
    exact ⟨hw2, gw_good hw2⟩
  · exact gw_ws hc w hw
theorem gw_wsS {own : String} {idx : Nat} {M : MI} (b1 : Cond.methodLink own idx M.1 ∈ GW) (b2 : Cond.static M.1 ∈ GW) (b4 : Cond.initialized own ∈ GW) (hc : Cond.code M.1 M.2.1 M.2.2.1 M.2.2.2 ∈ GW) : GoodIn GW (wsS own idx M.1 (wsM M)) := by
  intro w hw
  rcases List.mem_append.mp hw with hw | hw
  · have hw2 : w ∈ GW := by
      simp only [List.mem_cons, List.not_mem_nil, or_false] at hw
      rcases hw with rfl | rfl | rfl
      · exact b1
      · exact b2
      · exact b4
    exact ⟨hw2, gw_good hw2⟩
  · exact gw_ws hc w hw
theorem nw_warm {w : Cond} {s U : State} (hw : w ∈ NWL) (hW : s.WarmedH U.vm) (h : va_Nw w s) : va_Nw w U := by
  have hn : am_nest w = true := (List.mem_filter.mp hw).2
  cases w <;> first | exact va_Nw.warmF hW h | exact va_Nw.warmM hW h | (simp [am_nest] at hn; done)
theorem nw_tab {w : Cond} (hw : w ∈ NWL) : w.onTables = true := by
  have hn : am_nest w = true := (List.mem_filter.mp hw).2
  cases w <;> first | rfl | (simp [am_nest] at hn; done)
theorem aRO_call {X : AX} {ad : Nat → Nat} {A A1 : Nat → Prop} {s U : State} {H : Heap} {locs : List Loc} (hR : aRO X ad A s) (hS : va_S A s.heap H locs) (hU : U.heap = H) (hvm : s.vm.Alike U.vm) (hAB : ∀ q, A1 q → A q) : aRO X ad A1 U := by
  obtain ⟨⟨a1, a2, a3⟩, ⟨b1, b2, b3⟩, ⟨c1, c2, c3⟩, d1, d2⟩ := hR
  subst hU
  refine ⟨⟨(a1.kept (hS.2.1 _ a2 a3)).moved hvm, Nat.lt_of_lt_of_le a2 hS.1, fun z => a3 (hAB _ z)⟩, ⟨(b1.kept (hS.2.1 _ b2 b3)).moved hvm, Nat.lt_of_lt_of_le b2 hS.1, fun z => b3 (hAB _ z)⟩, ⟨(c1.kept (hS.2.1 _ c2 c3)).moved hvm, Nat.lt_of_lt_of_le c2 hS.1, fun z => c3 (hAB _ z)⟩, ?_, ?_⟩
  · exact va_Z.moved hvm (va_Z.narrow (va_Z.kept d1 (fun a h1 h2 => hS.2.1 a h1 h2)) hAB)
  · exact va_Z.moved hvm (va_Z.narrow (va_Z.kept d2 (fun a h1 h2 => hS.2.1 a h1 h2)) hAB)
theorem aPre_blind {X : AX} {dC : Nat → ClassId} {dI : Nat → Nat → Nat} {dA : Nat → ClassId} {ad : Nat → Nat} {h : HP} {sz : Nat} {av : List Value} : FrameBlind (va_Pc av (aPre X dC dI dA ad h sz)) := by
  intro a U g mk hp
  obtain ⟨e, p1, p2, p3, p4, p5, p6, p7⟩ := hp
  refine ⟨e, p1, p2, va_K.moved (u := U) (U := U.calling g mk a) (Vm.Alike.refl U.vm) p3, p4, fun w hw => va_Nw.same (nw_tab hw) (u := U) (U := U.calling g mk a) rfl (p5 w hw), va_AO.moved (u := U) (U := U.calling g mk a) (Vm.Alike.refl U.vm) p6, ?_⟩
  exact aRO_call (s := U) (U := U.calling g mk a) (locs := []) p7 va_S.rf rfl (Vm.Alike.refl U.vm) (fun q z => z)
section CALL
variable {M : MI} {E : AE} {pc : Nat} {L : List (Option AV)} {S : List AV} {h : HP} {Q : Option Int → HP → Prop}
theorem a_free {s : State} {H : Heap} {locs : List Loc} {A : Nat → Prop} {ws : va_W} (y2 : va_D A ws) (y3 : va_S A s.heap H locs) (hA : ∀ q, s.heap.size ≤ q → A q) : ∀ q, va_A ws H.size q → A q := by
  intro q hq
  rcases hq with ⟨k, e, hk⟩ | hq
  · exact y2.2 k (q, e) hk
  · exact hA q (Nat.le_trans y3.1 hq)
theorem aPre_at {p : Program} {R : Room} {s : State} {m : MethodId} {args : Array Value} {meth : Method} {c : Code} {H : Heap} {locs : List Loc} {cells slots : Nat} {A : Nat → Prop} {dC : Nat → ClassId} {dI : Nat → Nat → Nat} {dA : Nat → ClassId} {ad ad0 : Nat → Nat} {ls : Array Slot} {n0 m0 : Nat} {U : State}
    (hs : aSt M E p R s m args meth c A dC dI dA n0 m0) (hy : aDy M E s H locs cells slots A dC dI dA ad ad0 ls n0 m0 L h) (hU : U.heap = H) (hW : s.WarmedH U.vm) : aPre E.1 dC dI dA ad h H.size U := by
  obtain ⟨s1, s2, s3, s4, s5, s6, s7, s8, s9, s10, s11, s12, s13, s14, s15, s16⟩ := id hs
  obtain ⟨y1, y2, y3, y4, y5, y6, y7, y8⟩ := id hy
  refine ⟨by rw [hU], by rw [hU]; exact y1, va_K.moved hW.alike s11, y2.weaken (fun _ _ _ _ => trivial), fun w hw => nw_warm hw hW (s9 w hw), va_AO.moved hW.alike s10, ?_⟩
  exact aRO_call y7 y3 hU hW.alike (a_free y2 y3 s12)
def aKeep (lo hi : Nat) (L : List (Option AV)) (S : List AV) : Bool := (rfL L).all (fun k => decide (k < lo) || decide (hi ≤ k)) && (rfS S).all (fun k => decide (k < lo) || decide (hi ≤ k))
theorem aKeep0 (n : Nat) (L : List (Option AV)) (S : List AV) : aKeep n (n + 0) L S = true := by
  have e : ∀ k : Nat, (decide (k < n) || decide (n + 0 ≤ k)) = true := fun k => by
    rcases Nat.lt_or_ge k n with z | z
    · simp [z]
    · simp [z]
  simp only [aKeep, Bool.and_eq_true]
  exact ⟨List.all_eq_true.mpr (fun k _ => e k), List.all_eq_true.mpr (fun k _ => e k)⟩
theorem aw_back {l : Launch} {p : Program} {e : Env} {R : Room} {s : State} {m : MethodId} {args : Array Value} {below : List Frame} {meth : Method} {c : Code} {H : Heap} {locs : List Loc} {cells slots : Nat} {A : Nat → Prop} {dC : Nat → ClassId} {dI : Nat → Nat → Nat} {dA : Nat → ClassId} {ad ad0 : Nat → Nat} {ls : Array Slot} {n0 m0 mc ms : Nat} {QQ : State → Prop} {Q' : Option Int → HP → Prop} {st0 : List Value} {a : Array Value}
    (hs : aSt M E p R s m args meth c A dC dI dA n0 m0) (hf : aFi M E l p e R s m args below meth c A dC dI dA ad0 n0 m0 QQ Q) (hy : aDy M E s H locs cells slots A dC dI dA ad ad0 ls n0 m0 L h)
    (hsml : h.1.length + mc ≤ 1000) (hr : va_Run p l e R s m args below meth c H locs cells slots mc ms (F0 m pc ls st0) (S.map (cv ad)) (aQ dC dI dA ad h H.size mc ms Q' a) (va_A (con dA ad h) H.size)) (ok : aKeep h.1.length (h.1.length + mc) L S = true)
    (kk : ∀ v h', Q' v h' → h'.1.length = h.1.length + mc → slS h'.1 = slS h.1 + ms → AW M E (pc + 3) L (v.toList.map .inl ++ S) h' Q) : W p l e R s m args below meth c H locs cells slots QQ (F0 m pc ls st0) := by
  obtain ⟨s1, s2, s3, s4, s5, s6, s7, s8, s9, s10, s11, s12, s13, s14, s15, s16⟩ := id hs
  obtain ⟨y1, y2, y3, y4, y5, y6, y7, y8⟩ := id hy
  intro T hT X
  obtain ⟨v, st₀, t, T', L1, h0, X', hL, e1, e2, ⟨⟨v', h', ad', hv, hq, hl1, hl2, had, hP, hD⟩, hz, hk⟩, st⟩ := hr T hT X
  have hv2 : v = v'.map (fun z => .int (Int32.ofInt z)) := by injection hv
  subst hv2
  rw [h0] at hz hk
  have hfr := a_free y2 y3 s12
  simp only [aKeep, Bool.and_eq_true] at ok
  have okk : ∀ k : Nat, (decide (k < h.1.length) || decide (h.1.length + mc ≤ k)) = true → ad' k = ad k := fun k hk2 => had k (by
    rw [hl1]
    simpa using hk2)
  have hS2 : va_S A s.heap T'.heap (locs ++ L1) := ⟨Nat.le_trans y3.1 (by rw [e1]; exact hz), fun q h1 h2 => by rw [e1, hk q (Nat.lt_of_lt_of_le h1 y3.1) (fun z => h2 (hfr q z))]; exact y3.2.1 q h1 h2, fun q hq => by
      rcases List.mem_append.mp hq with h | h
      · exact y3.2.2 q h
      · exact hfr _ (hL q h)⟩
  have hdy : aDy M E s T'.heap (locs ++ L1) (cells + mc) (slots + ms) A dC dI dA ad' ad0 ls n0 m0 L h' := by
    refine ⟨by rw [e1]; exact hP, hD.weaken (fun k q _ z => hfr q.1 z), hS2, by omega, by omega, y6.agree (fun i k hik => okk k (List.all_eq_true.mp ok.1 k (rfL_mem (List.mem_of_getElem? hik)))), ?_, fun k hk2 => ?_⟩
    · exact aRO_congr (had 1000 (Or.inr (by omega))) (had 1001 (Or.inr (by omega))) (had 1002 (Or.inr (by omega))) y7
    · rw [had k (by omega)]
      exact y8 k (by omega)
  have hst : (v'.map (fun z => Value.int (Int32.ofInt z))).toList ++ S.map (cv ad) = ((v'.toList.map Sum.inl ++ S : List AV)).map (cv ad') := by
    rw [List.map_append]
    congr 1
    · cases v' <;> rfl
    · refine List.map_congr_left (fun x hx => ?_)
      cases x with
      | inl z => rfl
      | inr k => simp only [cv]; rw [okk k (List.all_eq_true.mp ok.2 k (rfS_mem hx))]
  obtain ⟨t2, a1, b1⟩ := kk v' h' hq hl1 hl2 l p e R s m args below meth c T'.heap (locs ++ L1) (cells + mc) (slots + ms) A dC dI dA ad' ad0 ls n0 m0 QQ hs hf hdy T' rfl X'
  refine ⟨t2, st t2 ?_, b1⟩
  rw [← hst] at a1
  exact a1
def aPl (y : MethodName) (n : Nat) : Prop := y.cls ≠ "java/lang/invoke/MethodHandle" ∧ y.cls ≠ "java/lang/invoke/VarHandle" ∧ (parseMethodDescriptor y.desc).map (fun d => d.parameters.length) = some n
def aMw (M' : MI) (n : Nat) : Prop := Cond.initialized M'.1.cls ∈ GW ∧ Cond.code M'.1 M'.2.1 M'.2.2.1 M'.2.2.2 ∈ GW ∧ aPl M'.1 n
def aMV (own : String) (idx : Nat) (M' : MI) (ci n : Nat) : Prop := (Cond.methodLink own idx M'.1 ∈ GW ∨ ∃ host, Cond.methodLinkNest own idx M'.1 host ∈ NWL) ∧ Cond.instanceMethod M'.1 ∈ GW ∧ Cond.selects M'.1.cls M'.1 M'.1 ∈ GW ∧ aMw M' n ∧ ∃ (T : u_T) (N : Nat), vwCl[ci]? = some (M'.1.cls, T, N)
def aMS (own : String) (idx : Nat) (M' : MI) (n : Nat) : Prop := ((Cond.methodLink own idx M'.1 ∈ GW ∧ M'.1.cls = own) ∨ ∃ host, Cond.methodLinkNest own idx M'.1 host ∈ NWL) ∧ Cond.static M'.1 ∈ GW ∧ aMw M' n
def aMI (own : String) (idx : Nat) (M' : MI) (n : Nat) : Prop := (Cond.methodLink own idx M'.1 ∈ GW ∨ ∃ host, Cond.methodLinkNest own idx M'.1 host ∈ NWL) ∧ Cond.instanceMethod M'.1 ∈ GW ∧ M'.1.name = "<init>" ∧ M'.2.2.2 = none ∧ aMw M' n
theorem sum_cat (ad : Nat → Nat) (S : List AV) : ((S.map (cv ad)).map fun v => v.category).sum = S.length := by
  induction S with
  | nil => rfl
  | cons v S ih => simp only [List.map_cons, List.sum_cons, List.length_cons, cv_cat] at *; omega
theorem aw_invV {idx ci n q mc ms : Nat} {M' : MI} {av rest : List AV} {fs : List ShF} {Q' : Option Int → HP → Prop} (hd : decode M.2.1 pc = .ok (.invokevirtual idx, 3)) (hb : aMV M.1.cls idx M' ci n) (hc : h.1[q]? = some (.inl (ci, fs))) (hS : S = av.reverse ++ .inr q :: rest) (hn : av.length = n) (hrest : rest.length ≤ 8)
    (hM : AC E.1 M' (E.2.1 - 1) (E.2.2.1 - (19 + M'.2.2.1)) mc ms (.inr q :: av) h Q') (hd1 : 1 ≤ E.2.1) (hr1 : 19 + M'.2.2.1 ≤ E.2.2.1) (hsml : h.1.length + mc ≤ 1000) (ok : aKeep h.1.length (h.1.length + mc) L rest = true) (hc1 : h.1.length + mc ≤ E.2.2.2.1) (hc2 : slS h.1 + ms ≤ E.2.2.2.2)
    (kk : ∀ v h', Q' v h' → h'.1.length = h.1.length + mc → slS h'.1 = slS h.1 + ms → AW M E (pc + 3) L (v.toList.map .inl ++ rest) h' Q) : AW M E pc L S h Q := by
  intro l p e R s m args below meth c H locs cells slots A dC dI dA ad ad0 ls n0 m0 QQ hs hf hy
  obtain ⟨s1, s2, s3, s4, s5, s6, s7, s8, s9, s10, s11, s12, s13, s14, s15, s16⟩ := id hs
  obtain ⟨y1, y2, y3, y4, y5, y6, y7, y8⟩ := id hy
  obtain ⟨b1, b2, b3, ⟨b4, b5, b6⟩, T, N, b7⟩ := hb
  subst hS
  have he := con_get (dA := dA) (ad := ad) hc
  simp only [ce] at he
  have hpre : PreV s H M'.1.cls (ad q) (va_Pc (((.inr q :: av) : List AV).map (cv ad)) (aPre E.1 dC dI dA ad h H.size)) (av.map (cv ad)) := ⟨aPre_blind, va_recv s11 y1 b7 he, fun U hU hW => ⟨rfl, aPre_at hs hy hU hW⟩⟩
  have hroom : (E.2.1 - 1) + 1 ≤ R.frames ∧ 8 + (M'.2.2.1 + 11) + (E.2.2.1 - (19 + M'.2.2.1)) ≤ R.locals := ⟨by omega, by omega⟩
  have hW8 : ((rest.map (cv ad)).map fun v => v.category).sum ≤ 8 := by rw [sum_cat]; exact hrest
  have hst : (((av.reverse ++ .inr q :: rest) : List AV).map (cv ad)) = (av.map (cv ad)).reverse ++ .ref (ad q) :: rest.map (cv ad) := by simp [cv]
  refine aw_back hs hf hy (Q' := Q') (mc := mc) (ms := ms) (a := (Value.ref (ad q) :: av.map (cv ad)).toArray) (S := rest) hsml ?_ ok kk
  rcases b1 with b1 | ⟨host, b1⟩
  · exact va_runV (As := av.map (cv ad)) (rest := rest.map (cv ad)) ⟨s1, s2, s4, s5, s6⟩ (hM l dC dI dA ad H.size) (cwV n s6 (gw_wsV b1 b2 b3 b4 b5) rfl rfl rfl ⟨rfl, b6⟩ hroom) hpre rfl (by simpa using hn) y6.1 hst (lv_room hW8) hd ⟨by omega, by omega⟩
  · exact va_runVN (host := host) (As := av.map (cv ad)) (rest := rest.map (cv ad)) ⟨s1, s2, s4, s5, s6⟩ (hM l dC dI dA ad H.size) ⟨va_cnB n s6 (gw_ws b5) rfl rfl rfl (s9 _ b1) (s6 _ b4) b6 hroom, s6 _ b2, s6 _ b3⟩ hpre rfl (by simpa using hn) y6.1 hst (lv_room hW8) hd ⟨by omega, by omega⟩
theorem aw_invS {idx n mc ms : Nat} {M' : MI} {av rest : List AV} {Q' : Option Int → HP → Prop} (hd : decode M.2.1 pc = .ok (.invokestatic idx, 3)) (hb : aMS M.1.cls idx M' n) (hS : S = av.reverse ++ rest) (hn : av.length = n) (hrest : rest.length ≤ 8)
    (hM : AC E.1 M' (E.2.1 - 1) (E.2.2.1 - (19 + M'.2.2.1)) mc ms av h Q') (hd1 : 1 ≤ E.2.1) (hr1 : 19 + M'.2.2.1 ≤ E.2.2.1) (hsml : h.1.length + mc ≤ 1000) (ok : aKeep h.1.length (h.1.length + mc) L rest = true) (hc1 : h.1.length + mc ≤ E.2.2.2.1) (hc2 : slS h.1 + ms ≤ E.2.2.2.2)
    (kk : ∀ v h', Q' v h' → h'.1.length = h.1.length + mc → slS h'.1 = slS h.1 + ms → AW M E (pc + 3) L (v.toList.map .inl ++ rest) h' Q) : AW M E pc L S h Q := by
  intro l p e R s m args below meth c H locs cells slots A dC dI dA ad ad0 ls n0 m0 QQ hs hf hy
  obtain ⟨s1, s2, s3, s4, s5, s6, s7, s8, s9, s10, s11, s12, s13, s14, s15, s16⟩ := id hs
  obtain ⟨y1, y2, y3, y4, y5, y6, y7, y8⟩ := id hy
  obtain ⟨b1, b2, b4, b5, b6⟩ := hb
  subst hS
  have hpre : PreS s H (va_Pc (av.map (cv ad)) (aPre E.1 dC dI dA ad h H.size)) (av.map (cv ad)) := ⟨aPre_blind, fun U hU hW => ⟨rfl, aPre_at hs hy hU hW⟩⟩
  have hroom : (E.2.1 - 1) + 1 ≤ R.frames ∧ 8 + (M'.2.2.1 + 11) + (E.2.2.1 - (19 + M'.2.2.1)) ≤ R.locals := ⟨by omega, by omega⟩
  have hW8 : ((rest.map (cv ad)).map fun v => v.category).sum ≤ 8 := by rw [sum_cat]; exact hrest
  have hst : (((av.reverse ++ rest) : List AV).map (cv ad)) = (av.map (cv ad)).reverse ++ rest.map (cv ad) := by simp
  refine aw_back hs hf hy (Q' := Q') (mc := mc) (ms := ms) (a := (av.map (cv ad)).toArray) (S := rest) hsml ?_ ok kk
  rcases b1 with ⟨b1, b0⟩ | ⟨host, b1⟩
  · exact va_runS (As := av.map (cv ad)) (rest := rest.map (cv ad)) ⟨s1, s2, s4, s5, s6⟩ (hM l dC dI dA ad H.size) (cwS n s6 (gw_wsS b1 b2 (b0 ▸ b4) b5) rfl rfl rfl ⟨b0, b6⟩ hroom) hpre rfl (by simpa using hn) y6.1 hst (lv_room hW8) hd ⟨by omega, by omega⟩
  · exact va_runSN (host := host) (As := av.map (cv ad)) (rest := rest.map (cv ad)) ⟨s1, s2, s4, s5, s6⟩ (hM l dC dI dA ad H.size) ⟨va_cnB n s6 (gw_ws b5) rfl rfl rfl (s9 _ b1) (s6 _ b4) b6 hroom, s6 _ b2, trivial⟩ hpre rfl (by simpa using hn) y6.1 hst (lv_room hW8) hd ⟨by omega, by omega⟩
theorem aw_invI {idx n q mc ms : Nat} {M' : MI} {av rest : List AV} {Q' : Option Int → HP → Prop} (hd : decode M.2.1 pc = .ok (.invokespecial idx, 3)) (hb : aMI M.1.cls idx M' n) (hS : S = av.reverse ++ .inr q :: rest) (hn : av.length = n) (hrest : rest.length ≤ 8)
    (hM : AC E.1 M' (E.2.1 - 1) (E.2.2.1 - (19 + M'.2.2.1)) mc ms (.inr q :: av) h Q') (hd1 : 1 ≤ E.2.1) (hr1 : 19 + M'.2.2.1 ≤ E.2.2.1) (hsml : h.1.length + mc ≤ 1000) (ok : aKeep h.1.length (h.1.length + mc) L rest = true) (hc1 : h.1.length + mc ≤ E.2.2.2.1) (hc2 : slS h.1 + ms ≤ E.2.2.2.2)
    (kk : ∀ v h', Q' v h' → h'.1.length = h.1.length + mc → slS h'.1 = slS h.1 + ms → AW M E (pc + 3) L (v.toList.map .inl ++ rest) h' Q) : AW M E pc L S h Q := by
  intro l p e R s m args below meth c H locs cells slots A dC dI dA ad ad0 ls n0 m0 QQ hs hf hy
  obtain ⟨s1, s2, s3, s4, s5, s6, s7, s8, s9, s10, s11, s12, s13, s14, s15, s16⟩ := id hs
  obtain ⟨y1, y2, y3, y4, y5, y6, y7, y8⟩ := id hy
  obtain ⟨b1, b2, b3, b0, b4, b5, b6⟩ := hb
  subst hS
  have hpre : PreS s H (va_Pc (((.inr q :: av) : List AV).map (cv ad)) (aPre E.1 dC dI dA ad h H.size)) (.ref (ad q) :: av.map (cv ad)) := ⟨aPre_blind, fun U hU hW => ⟨rfl, aPre_at hs hy hU hW⟩⟩
  have hroom : (E.2.1 - 1) + 1 ≤ R.frames ∧ 8 + (M'.2.2.1 + 11) + (E.2.2.1 - (19 + M'.2.2.1)) ≤ R.locals := ⟨by omega, by omega⟩
  have hW8 : ((rest.map (cv ad)).map fun v => v.category).sum ≤ 8 := by rw [sum_cat]; exact hrest
  have hst : (((av.reverse ++ .inr q :: rest) : List AV).map (cv ad)) = (av.map (cv ad)).reverse ++ .ref (ad q) :: rest.map (cv ad) := by simp [cv]
  have hwM : wsM M' = Cond.code M'.1 M'.2.1 M'.2.2.1 none :: GW := by unfold wsM; rw [b0]
  refine aw_back hs hf hy (Q' := Q') (mc := mc) (ms := ms) (a := (Value.ref (ad q) :: av.map (cv ad)).toArray) (S := rest) hsml ?_ ok kk
  rcases b1 with b1 | ⟨host, b1⟩
  · exact va_runI (As := av.map (cv ad)) (rest := rest.map (cv ad)) ⟨s1, s2, s4, s5, s6⟩ (hM l dC dI dA ad H.size) (cwI n s6 (gw_ws b5) hwM rfl rfl (s6 _ b4) (s6 _ b1) (s6 _ b2) b3 b6 hroom) hpre rfl (by simpa using hn) y6.1 hst (lv_room hW8) hd ⟨by omega, by omega⟩
  · exact va_runIN (host := host) (As := av.map (cv ad)) (rest := rest.map (cv ad)) ⟨s1, s2, s4, s5, s6⟩ (hM l dC dI dA ad H.size) ⟨va_cnB n s6 (gw_ws b5) hwM rfl rfl (s9 _ b1) (s6 _ b4) b6 hroom, b3, s6 _ b2⟩ hpre rfl (by simpa using hn) y6.1 hst (lv_room hW8) hd ⟨by omega, by omega⟩
theorem aw_ireturn {x : Int} (hd : decode M.2.1 pc = .ok (.ireturn, 1)) (ht : M.2.2.2 = some .int ∨ (M.2.2.2 = some .boolean ∧ (x = 0 ∨ x = 1))) (h1 : h.1.length = E.2.2.2.1) (h2 : slS h.1 = E.2.2.2.2) (hq : Q (some x) h) : AW M E pc L [.inl x] h Q := by
  intro l p e R s m args below meth c H locs cells slots A dC dI dA ad ad0 ls n0 m0 QQ hs hf hy
  exact hf (some x) h H locs cells slots ad ls pc L hq hy h1 h2 ⟨hd, ht⟩
theorem aw_return (hd : decode M.2.1 pc = .ok (.return_, 1)) (ht : M.2.2.2 = none) (h1 : h.1.length = E.2.2.2.1) (h2 : slS h.1 = E.2.2.2.2) (hq : Q none h) : AW M E pc L [] h Q := by
  intro l p e R s m args below meth c H locs cells slots A dC dI dA ad ad0 ls n0 m0 QQ hs hf hy
  exact hf none h H locs cells slots ad ls pc L hq hy h1 h2 ⟨hd, ht⟩
theorem aw_objInit {idx q : Nat} (hd : decode M.2.1 pc = .ok (.invokespecial idx, 3)) (hl : Cond.methodLink M.1.cls idx objectInit ∈ GW) (hi : Cond.instanceMethod objectInit ∈ GW) (hco : Cond.code objectInit ⟨#[0xb1]⟩ 1 none ∈ GW) (hd1 : 1 ≤ E.2.1) (hr1 : S.length + 12 ≤ E.2.2.1)
    (k : AW M E (pc + 3) L S h Q) : AW M E pc L (.inr q :: S) h Q := by
  intro l p e R s m args below meth c H locs cells slots A dC dI dA ad ad0 ls n0 m0 QQ hs hf hy
  obtain ⟨s1, s2, s3, s4, s5, s6, s7, s8, s9, s10, s11, s12, s13, s14, s15, s16⟩ := id hs
  obtain ⟨y1, y2, y3, y4, y5, y6, y7, y8⟩ := id hy
  exact W.objInit s1 s2 s5 (s6 _ hl) (s6 _ hi) (s6 _ hco) rfl (by rw [s4]; exact y6.1) rfl hd (by omega) (by show 2 * 0 + _ + 12 ≤ _; rw [sum_cat]; omega) (k l p e R s m args below meth c H locs cells slots A dC dI dA ad ad0 ls n0 m0 QQ hs hf hy)
theorem aw_mmax {idx : Nat} {x y : Int} (hd : decode M.2.1 pc = .ok (.invokestatic idx, 3)) (hl : Cond.methodLink M.1.cls idx Lib.Math.max.name ∈ GW) (hw : Cond.static Lib.Math.max.name ∈ GW ∧ Cond.initialized "java/lang/Math" ∈ GW ∧ Cond.code Lib.Math.max.name Lib.Math.max.code 2 (some .int) ∈ GW) (hd1 : 1 ≤ E.2.1) (hr1 : S.length + 13 ≤ E.2.2.1) (hx : rng x) (hy0 : rng y) (hc1 : h.1.length ≤ E.2.2.2.1) (hc2 : slS h.1 ≤ E.2.2.2.2)
    (k : AW M E (pc + 3) L (.inl (max x y) :: S) h Q) : AW M E pc L (.inl y :: .inl x :: S) h Q := by
  intro l p e R s m args below meth c H locs cells slots A dC dI dA ad ad0 ls n0 m0 QQ hs hf hy
  obtain ⟨s1, s2, s3, s4, s5, s6, s7, s8, s9, s10, s11, s12, s13, s14, s15, s16⟩ := id hs
  obtain ⟨y1, y2, y3, y4, y5, y6, y7, y8⟩ := id hy
  refine va_mmax s1 s2 (by rw [s4]; exact y6.1.symm) s5 (s6 _ hl) (s6 _ hw.1) (s6 _ hw.2.1) (s6 _ hw.2.2) (by omega) (by rw [sum_cat]; omega) (by omega) (by omega) hd ?_
  have e0 : (if Int32.ofInt x < Int32.ofInt y then Int32.ofInt y else Int32.ofInt x) = Int32.ofInt (max x y) := by
    by_cases q : x < y
    · rw [if_pos ((ofI_lt hx hy0).mpr q), Int.max_eq_right (by omega)]
    · rw [if_neg (fun z => q ((ofI_lt hx hy0).mp z)), Int.max_eq_left (by omega)]
  rw [e0]
  exact k l p e R s m args below meth c H locs cells slots A dC dI dA ad ad0 ls n0 m0 QQ hs hf hy
theorem aw_mmin {idx : Nat} {x y : Int} (hd : decode M.2.1 pc = .ok (.invokestatic idx, 3)) (hl : Cond.methodLink M.1.cls idx Lib.Math.min.name ∈ GW) (hw : Cond.static Lib.Math.min.name ∈ GW ∧ Cond.initialized "java/lang/Math" ∈ GW ∧ Cond.code Lib.Math.min.name Lib.Math.min.code 2 (some .int) ∈ GW) (hd1 : 1 ≤ E.2.1) (hr1 : S.length + 13 ≤ E.2.2.1) (hx : rng x) (hy0 : rng y) (hc1 : h.1.length ≤ E.2.2.2.1) (hc2 : slS h.1 ≤ E.2.2.2.2)
    (k : AW M E (pc + 3) L (.inl (min x y) :: S) h Q) : AW M E pc L (.inl y :: .inl x :: S) h Q := by
  intro l p e R s m args below meth c H locs cells slots A dC dI dA ad ad0 ls n0 m0 QQ hs hf hy
  obtain ⟨s1, s2, s3, s4, s5, s6, s7, s8, s9, s10, s11, s12, s13, s14, s15, s16⟩ := id hs
  obtain ⟨y1, y2, y3, y4, y5, y6, y7, y8⟩ := id hy
  refine va_mmin s1 s2 (by rw [s4]; exact y6.1.symm) s5 (s6 _ hl) (s6 _ hw.1) (s6 _ hw.2.1) (s6 _ hw.2.2) (by omega) (by rw [sum_cat]; omega) (by omega) (by omega) hd ?_
  have e0 : (if Int32.ofInt y < Int32.ofInt x then Int32.ofInt y else Int32.ofInt x) = Int32.ofInt (min x y) := by
    by_cases q : y < x
    · rw [if_pos ((ofI_lt hy0 hx).mpr q), Int.min_eq_right (by omega)]
    · rw [if_neg (fun z => q ((ofI_lt hy0 hx).mp z)), Int.min_eq_left (by omega)]
  rw [e0]
  exact k l p e R s m args below meth c H locs cells slots A dC dI dA ad ad0 ls n0 m0 QQ hs hf hy
theorem aw_mabs {idx : Nat} {x : Int} (hd : decode M.2.1 pc = .ok (.invokestatic idx, 3)) (hl : Cond.methodLink M.1.cls idx Lib.Math.abs.name ∈ GW) (hw : Cond.static Lib.Math.abs.name ∈ GW ∧ Cond.initialized "java/lang/Math" ∈ GW ∧ Cond.code Lib.Math.abs.name Lib.Math.abs.code 1 (some .int) ∈ GW) (hd1 : 1 ≤ E.2.1) (hr1 : S.length + 13 ≤ E.2.2.1) (hx : rng x) (hc1 : h.1.length ≤ E.2.2.2.1) (hc2 : slS h.1 ≤ E.2.2.2.2)
    (k : AW M E (pc + 3) L (.inl (if 0 ≤ x then x else -x) :: S) h Q) : AW M E pc L (.inl x :: S) h Q := by
  intro l p e R s m args below meth c H locs cells slots A dC dI dA ad ad0 ls n0 m0 QQ hs hf hy
  obtain ⟨s1, s2, s3, s4, s5, s6, s7, s8, s9, s10, s11, s12, s13, s14, s15, s16⟩ := id hs
  obtain ⟨y1, y2, y3, y4, y5, y6, y7, y8⟩ := id hy
  refine va_mabs s1 s2 (by rw [s4]; exact y6.1.symm) s5 (s6 _ hl) (s6 _ hw.1) (s6 _ hw.2.1) (s6 _ hw.2.2) (by omega) (by rw [sum_cat]; omega) (by omega) (by omega) hd ?_
  have h0 : rng 0 := ⟨by omega, by omega⟩
  have le0 : (0 : Int32) ≤ Int32.ofInt x ↔ 0 ≤ x := ofI_le h0 hx
  have e0 : (if 0 ≤ Int32.ofInt x then Int32.ofInt x else 0 - Int32.ofInt x) = Int32.ofInt (if 0 ≤ x then x else -x) := by
    by_cases q : 0 ≤ x
    · rw [if_pos (le0.mpr q), if_pos q]
    · rw [if_neg (fun z => q (le0.mp z)), if_neg q, ofI_neg, Int32.zero_sub]
  rw [e0]
  exact k l p e R s m args below meth c H locs cells slots A dC dI dA ad ad0 ls n0 m0 QQ hs hf hy
def am_cpy (m : AM) (q0 q1 : Nat) (sp dp n : Int) : AM := fun k j => if k = q1 ∧ dp ≤ j ∧ j < dp + n then m q0 (sp + (j - dp)) else m k j
theorem aw_copy {idx q0 q1 n0' n1' : Nat} {sp dp n : Int} (hd : decode M.2.1 pc = .ok (.invokestatic idx, 3)) (hl : Cond.methodLink M.1.cls idx arraycopyName ∈ GW) (hw : Cond.native arraycopyName ∈ GW ∧ Cond.static arraycopyName ∈ GW ∧ Cond.initialized "java/lang/System" ∈ GW) (hd1 : 1 ≤ E.2.1) (hr1 : S.length + (nativeFrameWords "java/lang/System" "arraycopy" 5 + 11) ≤ E.2.2.1)
    (hc0 : h.1[q0]? = some (.inr (.inl (0, n0')))) (hc1 : h.1[q1]? = some (.inr (.inl (0, n1')))) (h1 : 0 ≤ sp) (h2 : 0 ≤ dp) (h3 : 0 ≤ n) (h4 : sp + n ≤ n0') (h5 : dp + n ≤ n1') (hs0 : n0' < 2147483648) (hs1 : n1' < 2147483648)
    (k : AW M E (pc + 3) L S (h.1, am_cpy h.2 q0 q1 sp dp n) Q) : AW M E pc L (.inl n :: .inl dp :: .inr q1 :: .inl sp :: .inr q0 :: S) h Q := by
  intro l p e R s m args below meth c H locs cells slots A dC dI dA ad ad0 ls n0 m0 QQ hs hf hy
  obtain ⟨s1, s2, s3, s4, s5, s6, s7, s8, s9, s10, s11, s12, s13, s14, s15, s16⟩ := id hs
  obtain ⟨y1, y2, y3, y4, y5, y6, y7, y8⟩ := id hy
  have he0 := con_get (dA := dA) (ad := ad) hc0
  simp only [ce] at he0
  have he1 := con_get (dA := dA) (ad := ad) hc1
  simp only [ce] at he1
  have r1 : rng sp := ⟨by omega, by omega⟩
  have r2 : rng dp := ⟨by omega, by omega⟩
  have r3 : rng n := ⟨by omega, by omega⟩
  have z0 : rng 0 := ⟨by omega, by omega⟩
  have hq1 : q1 < h.1.length := (List.getElem?_eq_some_iff.mp hc1).1
  have ecn : con dA ad (h.1, am_cpy h.2 q0 q1 sp dp n) = (con dA ad h).set q1 (ad q1, .inl (dA 0, n1', .inl (va_cpy (fun j => Int32.ofInt (h.2 q0 (j : Int))) (fun j => Int32.ofInt (h.2 q1 (j : Int))) sp.toNat dp.toNat n.toNat))) := by
    have hset : h.1 = h.1.set q1 (.inr (.inl (0, n1'))) := by
      obtain ⟨a, b⟩ := List.getElem?_eq_some_iff.mp hc1
      rw [← b]
      exact (List.set_getElem_self a).symm
    rw [con_set (sh := h.1) (sh' := h.1) (m := h.2) (m' := am_cpy h.2 q0 q1 sp dp n) hq1 hset (fun i c hi => ce_ad (fun _ _ => rfl) (fun j => if_neg (fun z => hi z.1)))]
    simp only [ce]
    congr 4
    congr 2
    funext j
    by_cases hj : dp.toNat ≤ j ∧ j < dp.toNat + n.toNat
    · have c1 : dp ≤ (j : Int) ∧ (j : Int) < dp + n := by omega
      have c2 : am_cpy h.2 q0 q1 sp dp n q1 (j : Int) = h.2 q0 (sp + ((j : Int) - dp)) := if_pos ⟨rfl, c1⟩
      have c3 : va_cpy (fun j => Int32.ofInt (h.2 q0 (j : Int))) (fun j => Int32.ofInt (h.2 q1 (j : Int))) sp.toNat dp.toNat n.toNat j = Int32.ofInt (h.2 q0 ((sp.toNat + (j - dp.toNat) : Nat) : Int)) := if_pos hj
      rw [c2, c3, show ((sp.toNat + (j - dp.toNat) : Nat) : Int) = sp + ((j : Int) - dp) by omega]
    · have c1 : ¬ (dp ≤ (j : Int) ∧ (j : Int) < dp + n) := by omega
      have c2 : am_cpy h.2 q0 q1 sp dp n q1 (j : Int) = h.2 q1 (j : Int) := if_neg (fun z => c1 z.2)
      have c3 : va_cpy (fun j => Int32.ofInt (h.2 q0 (j : Int))) (fun j => Int32.ofInt (h.2 q1 (j : Int))) sp.toNat dp.toNat n.toNat j = Int32.ofInt (h.2 q1 (j : Int)) := if_neg hj
      rw [c2, c3]
  have ng : ∀ {x : Int}, rng x → 0 ≤ x → ¬ Int32.ofInt x < 0 := fun hx h0 z => by
    have := (ofI_lt hx z0).mp z
    omega
  refine va_copyi s1 s2 (by rw [s4]; exact y6.1.symm) s5 (s6 _ hl) (s6 _ hw.1) (s6 _ hw.2.1) (s6 _ hw.2.2) s11 y1 y2 y3 q0 q1 0 0 he0 he1 rfl rfl rfl (ng r1 h1) (ng r2 h2) (ng r3 h3) (by rw [ofI_cl r1, ofI_cl r3]; omega) (by rw [ofI_cl r2, ofI_cl r3]; omega) (fun i hi => rfl) (by omega) (by rw [sum_cat]; omega) hd (fun H1 locs1 g1 g2 g3 => ?_)
  rw [ofI_cl r1, ofI_cl r2, ofI_cl r3] at g1 g2
  rw [← ecn] at g1 g2
  exact k l p e R s m args below meth c H1 locs1 cells slots A dC dI dA ad ad0 ls n0 m0 QQ hs hf ⟨g1, g2, g3, y4, y5, y6, y7, y8⟩
end CALL
