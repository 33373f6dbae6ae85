def LSum (LS : List Int64) : Nat := 2 * LS.length
theorem lst_cat (LS : List Int64) : ((lst LS).map fun v => v.category).sum = 2 * LS.length := by
  induction LS with
  | nil => rfl
  | cons v S ih =>
    simp only [lst, List.map_cons, List.sum_cons, List.length_cons] at *
    rw [ih]
    show 2 + _ = _
    omega
theorem sum_catL (ad : Nat → Nat) (S : List AV) (LS : List Int64) : ((S.map (cv ad) ++ lst LS).map fun v => v.category).sum = S.length + 2 * LS.length := by
  rw [List.map_append, List.sum_append, sum_cat, lst_cat]
def aQL (dC : Nat → ClassId) (dI : Nat → Nat → Nat) (dA : Nat → ClassId) (ad : Nat → Nat) (h : HP) (sz mc ms : Nat) (Q : Int64 → HP → Prop) : Array Value → State → Outcome → State → Prop := fun _ st oc t => (∃ (v : Int64) (h' : HP) (ad' : Nat → Nat), oc = .returned (some (.long v)) ∧ Q v h' ∧ h'.1.length = h.1.length + mc ∧ slS h'.1 = slS h.1 + ms ∧ (∀ k : Nat, (k < h.1.length ∨ h'.1.length ≤ k) → ad' k = ad k) ∧ va_P (dC, dI) vwCl (con dA ad' h') t.heap ∧ va_D (va_A (con dA ad h) sz) (con dA ad' h')) ∧ va_F (va_A (con dA ad h) sz) st t
def ACL (X : AX) (M : MI) (d r mc ms : Nat) (av : List AV) (h : HP) (Q : Int64 → HP → Prop) : Prop :=
  ∀ (l : Launch) (dC : Nat → ClassId) (dI : Nat → Nat → Nat) (dA : Nat → ClassId) (ad : Nat → Nat) (sz : Nat), Met l M.1 (wsM M) ({ frames := d, cells := mc, slots := ms, locals := r } : Room) (va_Pc (av.map (cv ad)) (aPre X dC dI dA ad h sz)) (aQL dC dI dA ad h sz mc ms Q) mc ms (va_A (con dA ad h) sz)

theorem acl_of {X : AX} {M : MI} {d r mc ms : Nat} {av : List AV} {h : HP} {Q : Int64 → HP → Prop} (ht : M.2.2.2 = some .long) (hp : plainName M.1.cls = true) (hlen : av.length ≤ M.2.2.1)
    (k : AL M (X, d, r, h.1.length + mc, slS h.1 + ms) Q [] [] 0 (av.map some ++ List.replicate (M.2.2.1 - av.length) none) [] h (fun _ _ => False)) : ACL X M d r mc ms av h Q := by
  intro l dC dI dA ad sz
  refine Met.ofW (cc := M.2.1) (maxL := M.2.2.1) (ret := M.2.2.2) hp rfl ?_
  intro p e s m args below meth c s₁ B hml hv
  obtain ⟨rfl, hsz, hP, hK, hD0, hN, hO, hR⟩ := hv
  subst hsz
  have hts := atoms_spec (ws := wsM M) B.pre
  have hown : s.vm.findClass M.1.cls = some m.cls := findClass_of_methodNamed B.named
  have hin : meth.name = M.1.name := (name_of_methodNamed B.named B.method).1
  have hD := hD0.self (sz := s.heap.size)
  have hS : va_S (va_A (con dA ad h) s.heap.size) s.heap s.heap [] := va_S.rf
  have hl := lvL_entry ad av M.2.2.1 hlen
  rw [lg_entry_eq]
  refine k l p e _ s m _ below meth c s.heap [] 0 0 (va_A (con dA ad h) s.heap.size) dC dI dA ad ad _ h.1.length (slS h.1) _ ⟨B.exec, B.bytes, B.returns, hml, hown, fun w hw => hts w (List.mem_cons_of_mem _ hw), B.notSynchronized, hin, hN, hO, hK, fun q hq => Or.inr hq, Nat.le_refl _, Nat.le_refl _, by show h.1.length + mc ≤ mc + h.1.length; omega, by show slS h.1 + ms ≤ ms + slS h.1; omega⟩ (fun _ _ _ _ _ _ _ _ _ _ z => z.elim) ?_ ⟨hP, hD, hS, by omega, by omega, hl, hR, fun k _ => rfl⟩ (fun q hq => by cases hq)
  intro v h' H' locs' cells' slots' ad' ls' pc' L' q y hc1 hc2 he
  obtain ⟨y1, y2, y3, y4, y5, y6, y7, y8⟩ := y
  simp only at hc1 hc2
  have e1 : cells' = mc := by omega
  have e2 : slots' = ms := by omega
  subst e1
  subst e2
  exact W.lret B.exec B.bytes (B.returns.trans ht) (fun t ht hW => ⟨⟨v, h', ad', rfl, q, hc1, hc2, y8, by rw [ht]; exact y1, y2⟩, y3.F ht⟩) y3.2.2 he.1 B.notSynchronized

section CALLL
variable {M : MI} {E : AE} {QL : Int64 → HP → Prop} {LL : List (Nat × Int64)} {LS : List Int64} {pc : Nat} {L : List (Option AV)} {S : List AV} {h : HP} {Q : Option Int → HP → Prop}

theorem al_back {l : Launch} {p : Program} {e : Env} {R : Room} {s : State} {m : MethodId} {args : Array Value} {below : List Frame} {meth : Method} {c : Code} {H : Heap} {locs : List Loc} {cells slots : Nat} {A : Nat → Prop} {dC : Nat → ClassId} {dI : Nat → Nat → Nat} {dA : Nat → ClassId} {ad ad0 : Nat → Nat} {ls : Array Slot} {n0 m0 mc ms : Nat} {QQ : State → Prop} {Q' : Option Int → HP → Prop} {st0 : List Value} {a : Array Value}
    (hs : aSt M E p R s m args meth c A dC dI dA n0 m0) (hf : aFi M E l p e R s m args below meth c A dC dI dA ad0 n0 m0 QQ Q) (hfl : aFiL M E l p e R s m args below meth c A dC dI dA ad0 n0 m0 QQ QL) (hy : aDy M E s H locs cells slots A dC dI dA ad ad0 ls n0 m0 L h) (hl : lvK ls LL)
    (hsml : h.1.length + mc ≤ 1000) (hr : va_Run p l e R s m args below meth c H locs cells slots mc ms (F0 m pc ls st0) (S.map (cv ad) ++ lst LS) (aQ dC dI dA ad h H.size mc ms Q' a) (va_A (con dA ad h) H.size)) (ok : aKeep h.1.length (h.1.length + mc) L S = true)
    (kk : ∀ v h', Q' v h' → h'.1.length = h.1.length + mc → slS h'.1 = slS h.1 + ms → AL M E QL LL LS (pc + 3) L (v.toList.map .inl ++ S) h' Q) : W p l e R s m args below meth c H locs cells slots QQ (F0 m pc ls st0) := by
  obtain ⟨s1, s2, s3, s4, s5, s6, s7, s8, s9, s10, s11, s12, s13, s14, s15, s16⟩ := id hs
  obtain ⟨y1, y2, y3, y4, y5, y6, y7, y8⟩ := id hy
  intro T hT X
  obtain ⟨v, st₀, t, T', L1, h0, X', hL, e1, e2, ⟨⟨v', h', ad', hv, hq, hl1, hl2, had, hP, hD⟩, hz, hk⟩, st⟩ := hr T hT X
  have hv2 : v = v'.map (fun z => .int (Int32.ofInt z)) := by injection hv
  subst hv2
  rw [h0] at hz hk
  have hfr := a_free y2 y3 s12
  simp only [aKeep, Bool.and_eq_true] at ok
  have okk : ∀ k : Nat, (decide (k < h.1.length) || decide (h.1.length + mc ≤ k)) = true → ad' k = ad k := fun k hk2 => had k (by
    rw [hl1]
    simpa using hk2)
  have hS2 : va_S A s.heap T'.heap (locs ++ L1) := ⟨Nat.le_trans y3.1 (by rw [e1]; exact hz), fun q h1 h2 => by rw [e1, hk q (Nat.lt_of_lt_of_le h1 y3.1) (fun z => h2 (hfr q z))]; exact y3.2.1 q h1 h2, fun q hq => by
      rcases List.mem_append.mp hq with h | h
      · exact y3.2.2 q h
      · exact hfr _ (hL q h)⟩
  have hdy : aDy M E s T'.heap (locs ++ L1) (cells + mc) (slots + ms) A dC dI dA ad' ad0 ls n0 m0 L h' := by
    refine ⟨by rw [e1]; exact hP, hD.weaken (fun k q _ z => hfr q.1 z), hS2, by omega, by omega, y6.agree (fun i k hik => okk k (List.all_eq_true.mp ok.1 k (rfL_mem (List.mem_of_getElem? hik)))), ?_, fun k hk2 => ?_⟩
    · exact aRO_congr (had 1000 (Or.inr (by omega))) (had 1001 (Or.inr (by omega))) (had 1002 (Or.inr (by omega))) y7
    · rw [had k (by omega)]
      exact y8 k (by omega)
  have hst : (v'.map (fun z => Value.int (Int32.ofInt z))).toList ++ (S.map (cv ad) ++ lst LS) = ((v'.toList.map Sum.inl ++ S : List AV)).map (cv ad') ++ lst LS := by
    rw [List.map_append, List.append_assoc]
    congr 1
    · cases v' <;> rfl
    · congr 1
      refine List.map_congr_left (fun x hx => ?_)
      cases x with
      | inl z => rfl
      | inr k => simp only [cv]; rw [okk k (List.all_eq_true.mp ok.2 k (rfS_mem hx))]
  obtain ⟨t2, a1, b1⟩ := kk v' h' hq hl1 hl2 l p e R s m args below meth c T'.heap (locs ++ L1) (cells + mc) (slots + ms) A dC dI dA ad' ad0 ls n0 m0 QQ hs hf hfl hdy hl T' rfl X'
  refine ⟨t2, st t2 ?_, b1⟩
  rw [← hst] at a1
  exact a1

theorem al_backL {l : Launch} {p : Program} {e : Env} {R : Room} {s : State} {m : MethodId} {args : Array Value} {below : List Frame} {meth : Method} {c : Code} {H : Heap} {locs : List Loc} {cells slots : Nat} {A : Nat → Prop} {dC : Nat → ClassId} {dI : Nat → Nat → Nat} {dA : Nat → ClassId} {ad ad0 : Nat → Nat} {ls : Array Slot} {n0 m0 mc ms : Nat} {QQ : State → Prop} {Q' : Int64 → HP → Prop} {st0 : List Value} {a : Array Value}
    (hs : aSt M E p R s m args meth c A dC dI dA n0 m0) (hf : aFi M E l p e R s m args below meth c A dC dI dA ad0 n0 m0 QQ Q) (hfl : aFiL M E l p e R s m args below meth c A dC dI dA ad0 n0 m0 QQ QL) (hy : aDy M E s H locs cells slots A dC dI dA ad ad0 ls n0 m0 L h) (hl : lvK ls LL)
    (hsml : h.1.length + mc ≤ 1000) (hr : va_Run p l e R s m args below meth c H locs cells slots mc ms (F0 m pc ls st0) (lst LS) (aQL dC dI dA ad h H.size mc ms Q' a) (va_A (con dA ad h) H.size)) (ok : aKeep h.1.length (h.1.length + mc) L [] = true)
    (kk : ∀ v h', Q' v h' → h'.1.length = h.1.length + mc → slS h'.1 = slS h.1 + ms → AL M E QL LL (v :: LS) (pc + 3) L [] h' Q) : W p l e R s m args below meth c H locs cells slots QQ (F0 m pc ls st0) := by
  obtain ⟨s1, s2, s3, s4, s5, s6, s7, s8, s9, s10, s11, s12, s13, s14, s15, s16⟩ := id hs
  obtain ⟨y1, y2, y3, y4, y5, y6, y7, y8⟩ := id hy
  intro T hT X
  obtain ⟨v, st₀, t, T', L1, h0, X', hL, e1, e2, ⟨⟨v', h', ad', hv, hq, hl1, hl2, had, hP, hD⟩, hz, hk⟩, st⟩ := hr T hT X
  have hv2 : v = some (.long v') := by injection hv
  subst hv2
  rw [h0] at hz hk
  have hfr := a_free y2 y3 s12
  simp only [aKeep, Bool.and_eq_true] at ok
  have okk : ∀ k : Nat, (decide (k < h.1.length) || decide (h.1.length + mc ≤ k)) = true → ad' k = ad k := fun k hk2 => had k (by
    rw [hl1]
    simpa using hk2)
  have hS2 : va_S A s.heap T'.heap (locs ++ L1) := ⟨Nat.le_trans y3.1 (by rw [e1]; exact hz), fun q h1 h2 => by rw [e1, hk q (Nat.lt_of_lt_of_le h1 y3.1) (fun z => h2 (hfr q z))]; exact y3.2.1 q h1 h2, fun q hq => by
      rcases List.mem_append.mp hq with h | h
      · exact y3.2.2 q h
      · exact hfr _ (hL q h)⟩
  have hdy : aDy M E s T'.heap (locs ++ L1) (cells + mc) (slots + ms) A dC dI dA ad' ad0 ls n0 m0 L h' := by
    refine ⟨by rw [e1]; exact hP, hD.weaken (fun k q _ z => hfr q.1 z), hS2, by omega, by omega, y6.agree (fun i k hik => okk k (List.all_eq_true.mp ok.1 k (rfL_mem (List.mem_of_getElem? hik)))), ?_, fun k hk2 => ?_⟩
    · exact aRO_congr (had 1000 (Or.inr (by omega))) (had 1001 (Or.inr (by omega))) (had 1002 (Or.inr (by omega))) y7
    · rw [had k (by omega)]
      exact y8 k (by omega)
  obtain ⟨t2, a1, b1⟩ := kk v' h' hq hl1 hl2 l p e R s m args below meth c T'.heap (locs ++ L1) (cells + mc) (slots + ms) A dC dI dA ad' ad0 ls n0 m0 QQ hs hf hfl hdy hl T' rfl X'
  refine ⟨t2, st t2 ?_, b1⟩
  exact a1

theorem al_invV {idx ci n q mc ms : Nat} {M' : MI} {av rest : List AV} {fs : List ShF} {Q' : Option Int → HP → Prop} (hd : decode M.2.1 pc = .ok (.invokevirtual idx, 3)) (hb : aMV M.1.cls idx M' ci n) (hc : h.1[q]? = some (.inl (ci, fs))) (hS : S = av.reverse ++ .inr q :: rest) (hn : av.length = n) (hrest : rest.length + 2 * LS.length ≤ 8)
    (hM : AC E.1 M' (E.2.1 - 1) (E.2.2.1 - (19 + M'.2.2.1)) mc ms (.inr q :: av) h Q') (hd1 : 1 ≤ E.2.1) (hr1 : 19 + M'.2.2.1 ≤ E.2.2.1) (hsml : h.1.length + mc ≤ 1000) (ok : aKeep h.1.length (h.1.length + mc) L rest = true) (hc1 : h.1.length + mc ≤ E.2.2.2.1) (hc2 : slS h.1 + ms ≤ E.2.2.2.2)
    (kk : ∀ v h', Q' v h' → h'.1.length = h.1.length + mc → slS h'.1 = slS h.1 + ms → AL M E QL LL LS (pc + 3) L (v.toList.map .inl ++ rest) h' Q) : AL M E QL LL LS pc L S h Q := by
  intro l p e R s m args below meth c H locs cells slots A dC dI dA ad ad0 ls n0 m0 QQ hs hf hfl hy hl
  obtain ⟨s1, s2, s3, s4, s5, s6, s7, s8, s9, s10, s11, s12, s13, s14, s15, s16⟩ := id hs
  obtain ⟨y1, y2, y3, y4, y5, y6, y7, y8⟩ := id hy
  obtain ⟨b1, b2, b3, ⟨b4, b5, b6⟩, T, N, b7⟩ := hb
  subst hS
  have he := con_get (dA := dA) (ad := ad) hc
  simp only [ce] at he
  have hpre : PreV s H M'.1.cls (ad q) (va_Pc (((.inr q :: av) : List AV).map (cv ad)) (aPre E.1 dC dI dA ad h H.size)) (av.map (cv ad)) := ⟨aPre_blind, va_recv s11 y1 b7 he, fun U hU hW => ⟨rfl, aPre_at hs hy hU hW⟩⟩
  have hroom : (E.2.1 - 1) + 1 ≤ R.frames ∧ 8 + (M'.2.2.1 + 11) + (E.2.2.1 - (19 + M'.2.2.1)) ≤ R.locals := ⟨by omega, by omega⟩
  have hW8 : ((rest.map (cv ad) ++ lst LS).map fun v => v.category).sum ≤ 8 := by rw [sum_catL]; exact hrest
  have hst : (((av.reverse ++ .inr q :: rest) : List AV).map (cv ad)) ++ lst LS = (av.map (cv ad)).reverse ++ .ref (ad q) :: (rest.map (cv ad) ++ lst LS) := by simp [cv]
  refine al_back (LS := LS) hs hf hfl hy hl (Q' := Q') (mc := mc) (ms := ms) (a := (Value.ref (ad q) :: av.map (cv ad)).toArray) (S := rest) hsml ?_ ok kk
  rcases b1 with b1 | ⟨host, b1⟩
  · exact va_runV (As := av.map (cv ad)) (rest := rest.map (cv ad) ++ lst LS) ⟨s1, s2, s4, s5, s6⟩ (hM l dC dI dA ad H.size) (cwV n s6 (gw_wsV b1 b2 b3 b4 b5) rfl rfl rfl ⟨rfl, b6⟩ hroom) hpre rfl (by simpa using hn) y6.1 hst (lv_room hW8) hd ⟨by omega, by omega⟩
  · exact va_runVN (host := host) (As := av.map (cv ad)) (rest := rest.map (cv ad) ++ lst LS) ⟨s1, s2, s4, s5, s6⟩ (hM l dC dI dA ad H.size) ⟨va_cnB n s6 (gw_ws b5) rfl rfl rfl (s9 _ b1) (s6 _ b4) b6 hroom, s6 _ b2, s6 _ b3⟩ hpre rfl (by simpa using hn) y6.1 hst (lv_room hW8) hd ⟨by omega, by omega⟩

theorem al_invS {idx n mc ms : Nat} {M' : MI} {av rest : List AV} {Q' : Option Int → HP → Prop} (hd : decode M.2.1 pc = .ok (.invokestatic idx, 3)) (hb : aMS M.1.cls idx M' n) (hS : S = av.reverse ++ rest) (hn : av.length = n) (hrest : rest.length + 2 * LS.length ≤ 8)
    (hM : AC E.1 M' (E.2.1 - 1) (E.2.2.1 - (19 + M'.2.2.1)) mc ms av h Q') (hd1 : 1 ≤ E.2.1) (hr1 : 19 + M'.2.2.1 ≤ E.2.2.1) (hsml : h.1.length + mc ≤ 1000) (ok : aKeep h.1.length (h.1.length + mc) L rest = true) (hc1 : h.1.length + mc ≤ E.2.2.2.1) (hc2 : slS h.1 + ms ≤ E.2.2.2.2)
    (kk : ∀ v h', Q' v h' → h'.1.length = h.1.length + mc → slS h'.1 = slS h.1 + ms → AL M E QL LL LS (pc + 3) L (v.toList.map .inl ++ rest) h' Q) : AL M E QL LL LS pc L S h Q := by
  intro l p e R s m args below meth c H locs cells slots A dC dI dA ad ad0 ls n0 m0 QQ hs hf hfl hy hl
  obtain ⟨s1, s2, s3, s4, s5, s6, s7, s8, s9, s10, s11, s12, s13, s14, s15, s16⟩ := id hs
  obtain ⟨y1, y2, y3, y4, y5, y6, y7, y8⟩ := id hy
  obtain ⟨b1, b2, b4, b5, b6⟩ := hb
  subst hS
  have hpre : PreS s H (va_Pc (av.map (cv ad)) (aPre E.1 dC dI dA ad h H.size)) (av.map (cv ad)) := ⟨aPre_blind, fun U hU hW => ⟨rfl, aPre_at hs hy hU hW⟩⟩
  have hroom : (E.2.1 - 1) + 1 ≤ R.frames ∧ 8 + (M'.2.2.1 + 11) + (E.2.2.1 - (19 + M'.2.2.1)) ≤ R.locals := ⟨by omega, by omega⟩
  have hW8 : ((rest.map (cv ad) ++ lst LS).map fun v => v.category).sum ≤ 8 := by rw [sum_catL]; exact hrest
  have hst : (((av.reverse ++ rest) : List AV).map (cv ad)) ++ lst LS = (av.map (cv ad)).reverse ++ (rest.map (cv ad) ++ lst LS) := by simp
  refine al_back (LS := LS) hs hf hfl hy hl (Q' := Q') (mc := mc) (ms := ms) (a := (av.map (cv ad)).toArray) (S := rest) hsml ?_ ok kk
  rcases b1 with ⟨b1, b0⟩ | ⟨host, b1⟩
  · exact va_runS (As := av.map (cv ad)) (rest := rest.map (cv ad) ++ lst LS) ⟨s1, s2, s4, s5, s6⟩ (hM l dC dI dA ad H.size) (cwS n s6 (gw_wsS b1 b2 (b0 ▸ b4) b5) rfl rfl rfl ⟨b0, b6⟩ hroom) hpre rfl (by simpa using hn) y6.1 hst (lv_room hW8) hd ⟨by omega, by omega⟩
  · exact va_runSN (host := host) (As := av.map (cv ad)) (rest := rest.map (cv ad) ++ lst LS) ⟨s1, s2, s4, s5, s6⟩ (hM l dC dI dA ad H.size) ⟨va_cnB n s6 (gw_ws b5) rfl rfl rfl (s9 _ b1) (s6 _ b4) b6 hroom, s6 _ b2, trivial⟩ hpre rfl (by simpa using hn) y6.1 hst (lv_room hW8) hd ⟨by omega, by omega⟩

theorem al_invSL {idx n mc ms : Nat} {M' : MI} {av : List AV} {Q' : Int64 → HP → Prop} (hd : decode M.2.1 pc = .ok (.invokestatic idx, 3)) (hb : aMS M.1.cls idx M' n) (hS : S = av.reverse) (hn : av.length = n) (hrest : 2 * LS.length ≤ 8)
    (hM : ACL E.1 M' (E.2.1 - 1) (E.2.2.1 - (19 + M'.2.2.1)) mc ms av h Q') (hd1 : 1 ≤ E.2.1) (hr1 : 19 + M'.2.2.1 ≤ E.2.2.1) (hsml : h.1.length + mc ≤ 1000) (ok : aKeep h.1.length (h.1.length + mc) L [] = true) (hc1 : h.1.length + mc ≤ E.2.2.2.1) (hc2 : slS h.1 + ms ≤ E.2.2.2.2)
    (kk : ∀ v h', Q' v h' → h'.1.length = h.1.length + mc → slS h'.1 = slS h.1 + ms → AL M E QL LL (v :: LS) (pc + 3) L [] h' Q) : AL M E QL LL LS pc L S h Q := by
  intro l p e R s m args below meth c H locs cells slots A dC dI dA ad ad0 ls n0 m0 QQ hs hf hfl hy hl
  obtain ⟨s1, s2, s3, s4, s5, s6, s7, s8, s9, s10, s11, s12, s13, s14, s15, s16⟩ := id hs
  obtain ⟨y1, y2, y3, y4, y5, y6, y7, y8⟩ := id hy
  obtain ⟨b1, b2, b4, b5, b6⟩ := hb
  subst hS
  have hpre : PreS s H (va_Pc (av.map (cv ad)) (aPre E.1 dC dI dA ad h H.size)) (av.map (cv ad)) := ⟨aPre_blind, fun U hU hW => ⟨rfl, aPre_at hs hy hU hW⟩⟩
  have hroom : (E.2.1 - 1) + 1 ≤ R.frames ∧ 8 + (M'.2.2.1 + 11) + (E.2.2.1 - (19 + M'.2.2.1)) ≤ R.locals := ⟨by omega, by omega⟩
  have hW8 : ((lst LS).map fun v => v.category).sum ≤ 8 := by rw [lst_cat]; exact hrest
  have hst : ((av.reverse : List AV).map (cv ad)) ++ lst LS = (av.map (cv ad)).reverse ++ lst LS := by simp
  refine al_backL (LS := LS) hs hf hfl hy hl (Q' := Q') (mc := mc) (ms := ms) (a := (av.map (cv ad)).toArray) hsml ?_ ok kk
  rcases b1 with ⟨b1, b0⟩ | ⟨host, b1⟩
  · exact va_runS (As := av.map (cv ad)) (rest := lst LS) ⟨s1, s2, s4, s5, s6⟩ (hM l dC dI dA ad H.size) (cwS n s6 (gw_wsS b1 b2 (b0 ▸ b4) b5) rfl rfl rfl ⟨b0, b6⟩ hroom) hpre rfl (by simpa using hn) y6.1 hst (lv_room hW8) hd ⟨by omega, by omega⟩
  · exact va_runSN (host := host) (As := av.map (cv ad)) (rest := lst LS) ⟨s1, s2, s4, s5, s6⟩ (hM l dC dI dA ad H.size) ⟨va_cnB n s6 (gw_ws b5) rfl rfl rfl (s9 _ b1) (s6 _ b4) b6 hroom, s6 _ b2, trivial⟩ hpre rfl (by simpa using hn) y6.1 hst (lv_room hW8) hd ⟨by omega, by omega⟩

theorem al_iaload {q n : Nat} {i : Int} (hd : decode M.2.1 pc = .ok (.iaload, 1)) (hc : h.1[q]? = some (.inr (.inl (0, n)))) (h0 : 0 ≤ i) (h1 : i < n) (hn : n < 2147483648)
    (k : AL M E QL LL LS (pc + 1) L (.inl (h.2 q i) :: S) h Q) : AL M E QL LL LS pc L (.inl i :: .inr q :: S) h Q := by
  intro l p e R s m args below meth c H locs cells slots A dC dI dA ad ad0 ls n0 m0 QQ hs hf hfl hy hl
  obtain ⟨s1, s2, s3, s4, s5, s6, s7, s8, s9, s10, s11, s12, s13, s14, s15, s16⟩ := id hs
  obtain ⟨y1, y2, y3, y4, y5, y6, y7, y8⟩ := id hy
  have he := con_get (dA := dA) (ad := ad) hc
  simp only [ce] at he
  refine va_iald s1 s2 s11 y1 q 0 he rfl (ofI_in h0 h1 hn) hd ?_
  rw [ofI_cl ⟨by omega, by omega⟩, Int.toNat_of_nonneg h0]
  exact k l p e R s m args below meth c H locs cells slots A dC dI dA ad ad0 ls n0 m0 QQ hs hf hfl hy hl

theorem al_iastore {q n : Nat} {i v : Int} (hd : decode M.2.1 pc = .ok (.iastore, 1)) (hc : h.1[q]? = some (.inr (.inl (0, n)))) (h0 : 0 ≤ i) (h1 : i < n) (hn : n < 2147483648) 
    (k : AL M E QL LL LS (pc + 1) L S (h.1, am_up h.2 q i v) Q) : AL M E QL LL LS pc L (.inl v :: .inl i :: .inr q :: S) h Q := by
  intro l p e R s m args below meth c H locs cells slots A dC dI dA ad ad0 ls n0 m0 QQ hs hf hfl hy hl
  obtain ⟨s1, s2, s3, s4, s5, s6, s7, s8, s9, s10, s11, s12, s13, s14, s15, s16⟩ := id hs
  obtain ⟨y1, y2, y3, y4, y5, y6, y7, y8⟩ := id hy
  have he := con_get (dA := dA) (ad := ad) hc
  simp only [ce] at he
  have ecn : con dA ad (h.1, am_up h.2 q i v) = (con dA ad h).set q (ad q, .inl (dA 0, n, .inl (upd (fun j => Int32.ofInt (h.2 q (j : Int))) i.toNat (Int32.ofInt v)))) := by
    rw [con_setI hc, ce_aI h0]
  refine va_iast s1 s2 s11 y1 y2 y3 q 0 he rfl (ofI_in h0 h1 hn) hd (fun H1 locs1 g1 g2 g3 => ?_)
  rw [ofI_cl ⟨by omega, by omega⟩] at g1 g2
  rw [← ecn] at g1 g2
  exact k l p e R s m args below meth c H1 locs1 cells slots A dC dI dA ad ad0 ls n0 m0 QQ hs hf hfl ⟨g1, g2, g3, y4, y5, y6, y7, y8⟩ hl

theorem al_sld {i : Int} (hd : decode M.2.1 pc = .ok (.iaload, 1)) (h0 : 0 ≤ i) (h1 : i < E.1.1) (hn : E.1.1 < 2147483648)
    (k : AL M E QL LL LS (pc + 1) L (.inl (E.1.2 i.toNat).toInt :: S) h Q) : AL M E QL LL LS pc L (.inl i :: .inr 1000 :: S) h Q := by
  intro l p e R s m args below meth c H locs cells slots A dC dI dA ad ad0 ls n0 m0 QQ hs hf hfl hy hl
  obtain ⟨s1, s2, s3, s4, s5, s6, s7, s8, s9, s10, s11, s12, s13, s14, s15, s16⟩ := id hs
  obtain ⟨y1, y2, y3, y4, y5, y6, y7, y8⟩ := id hy
  refine va_sld s1 s2 y7.1.1 y7.1.2.1 y7.1.2.2 y3 (ofI_in h0 h1 hn) hd ?_
  have hk := k l p e R s m args below meth c H locs cells slots A dC dI dA ad ad0 ls n0 m0 QQ hs hf hfl hy hl
  simp only [List.map_cons, cv, Int32.ofInt_toInt] at hk
  rw [ofI_cl ⟨by omega, by omega⟩]
  exact hk

theorem al_slen (hd : decode M.2.1 pc = .ok (.arraylength, 1))
    (k : AL M E QL LL LS (pc + 1) L (.inl (E.1.1 : Int) :: S) h Q) : AL M E QL LL LS pc L (.inr 1000 :: S) h Q := by
  intro l p e R s m args below meth c H locs cells slots A dC dI dA ad ad0 ls n0 m0 QQ hs hf hfl hy hl
  obtain ⟨s1, s2, s3, s4, s5, s6, s7, s8, s9, s10, s11, s12, s13, s14, s15, s16⟩ := id hs
  obtain ⟨y1, y2, y3, y4, y5, y6, y7, y8⟩ := id hy
  exact va_slen s1 s2 y7.1.1 y7.1.2.1 y7.1.2.2 y3 hd (k l p e R s m args below meth c H locs cells slots A dC dI dA ad ad0 ls n0 m0 QQ hs hf hfl hy hl)

end CALLL
