set_option maxHeartbeats 4000000 in
theorem acl_frame {X : AX} {M : MI} {d r mc ms : Nat} {av : List AV} {sh nw ex : List ShC} {m : AM} {Q : Int64 → HP → Prop} (k : ACL X M d r mc ms av (sh, m) Q) (hQ : ∀ v h', Q v h' → h'.1 = sh ++ nw) (hcl : ∀ c ∈ sh, ∀ q ∈ rfC c, q < sh.length) (hex : ∀ c ∈ ex, isIA c) (hnw : ∀ c ∈ nw, isIA c) (hlen : sh.length + ex.length + nw.length ≤ 1000) :
    ACL X M d r mc ms av (sh ++ ex, m) (fun v h' => ∃ m' : AM, Q v (sh ++ nw, m') ∧ h' = ((sh ++ ex) ++ nw, am_jn sh.length ex.length m' m)) := by
  intro l dC dI dA ad sz p e ha hc hk s m0 args below hf happ hP hK
  have mono : ∀ q, va_A (con dA ad (sh, m)) sz q → va_A (con dA ad (sh ++ ex, m)) sz q := by
    intro q hq
    rcases hq with ⟨i, x, hi⟩ | hq
    · obtain ⟨c, h1, h2⟩ := con_at hi
      have hlt := (List.getElem?_eq_some_iff.mp h1).1
      exact Or.inl ⟨i, x, by rw [h2]; exact con_get (by show (sh ++ ex)[i]? = some c; rw [List.getElem?_append_left hlt]; exact h1)⟩
    · exact Or.inr hq
  obtain ⟨pe, p1, p2, p3, p4, p5, p6, p7⟩ := hP
  have sub : ∀ (i : Nat) (q : Nat × va_E), (con dA ad (sh, m))[i]? = some q → (con dA ad (sh ++ ex, m))[i]? = some q := by
    intro i q hi
    obtain ⟨c, h1, h2⟩ := con_at hi
    have hlt := (List.getElem?_eq_some_iff.mp h1).1
    rw [h2]
    exact con_get (by show (sh ++ ex)[i]? = some c; rw [List.getElem?_append_left hlt]; exact h1)
  have hpre : va_Pc (av.map (cv ad)) (aPre X dC dI dA ad (sh, m) sz) args s := by
    refine ⟨pe, p1, fun i q hi => p2 i q (sub i q hi), p3, ⟨fun i j x y hx hy => p4.1 i j x y (sub i x hx) (sub j y hy), fun _ _ _ => trivial⟩, p5, p6, ?_⟩
    exact aRO_call (s := s) (U := s) (locs := []) p7 va_S.rf rfl (Vm.Alike.refl s.vm) mono
  obtain ⟨n, o, h1, h2, h3, ⟨⟨v, h', ad', b1, bq, bl1, bl2, bad, bP, bD⟩, bF⟩, ⟨LL, fe, hLL⟩⟩ := k l dC dI dA ad sz p e ha hc hk s m0 args below hf happ hpre hK
  obtain ⟨sh', m'⟩ := h'
  have hsh : sh' = sh ++ nw := hQ _ _ bq
  subst hsh
  simp only at bl1 bl2 bad
  have hmc : mc = nw.length := by rw [List.length_append] at bl1; omega
  have hms : ms = slS nw := by
    have : slS (sh ++ nw) = slS sh + slS nw := by simp [slS]
    omega
  have adlt : ∀ q : Nat, q < sh.length → ad' q = ad q := fun q hq => bad q (Or.inl hq)
  -- an entry of the new world
  have ent : ∀ (i : Nat) (q : Nat × va_E), (con dA (ad_jn sh.length ex.length nw.length ad' ad) ((sh ++ ex) ++ nw, am_jn sh.length ex.length m' m))[i]? = some q → (i < sh.length ∧ (con dA ad' (sh ++ nw, m'))[i]? = some q) ∨ (sh.length ≤ i ∧ i < sh.length + ex.length ∧ ∃ c ∈ ex, (con dA ad (sh ++ ex, m))[i]? = some q ∧ q = (ad i, ce dA ad m i c)) ∨ (sh.length + ex.length ≤ i ∧ sh.length ≤ i - ex.length ∧ ∃ c ∈ nw, (con dA ad' (sh ++ nw, m'))[i - ex.length]? = some q ∧ q = (ad' (i - ex.length), ce dA ad' m' (i - ex.length) c)) := by
    intro i q hi
    obtain ⟨c, g1, g2⟩ := con_at hi
    by_cases c1 : i < sh.length
    · left
      have g3 : sh[i]? = some c := by rw [List.append_assoc, List.getElem?_append_left c1] at g1; exact g1
      have g4 : (sh ++ nw)[i]? = some c := by rw [List.getElem?_append_left c1]; exact g3
      refine ⟨c1, ?_⟩
      rw [con_get (h := (sh ++ nw, m')) g4, g2]
      have a1 : ad_jn sh.length ex.length nw.length ad' ad i = ad' i := if_pos c1
      rw [a1]
      congr 2
      refine (ce_ad (fun x hx => ?_) (fun j => ?_)).symm
      · exact if_pos (hcl c (List.mem_of_getElem? g3) x hx)
      · exact if_pos c1
    · right
      by_cases c2 : i < sh.length + ex.length
      · left
        have g0 : (sh ++ ex)[i]? = some c := by rw [List.getElem?_append_left (by rw [List.length_append]; exact c2)] at g1; exact g1
        have g3 : ex[i - sh.length]? = some c := by rw [List.getElem?_append_right (by omega)] at g0; exact g0
        have hm := List.mem_of_getElem? g3
        have a1 : ad_jn sh.length ex.length nw.length ad' ad i = ad i := by unfold ad_jn; rw [if_neg c1, if_pos c2]
        have a2 : q = (ad i, ce dA ad m i c) := by
          rw [g2, a1]
          congr 1
          exact ce_ia (hex c hm) (fun j => by unfold am_jn; rw [if_neg c1, if_pos c2])
        exact ⟨by omega, c2, c, hm, by rw [a2]; exact con_get (h := (sh ++ ex, m)) g0, a2⟩
      · right
        have hlt : i < (sh ++ ex ++ nw).length := (List.getElem?_eq_some_iff.mp g1).1
        rw [List.length_append, List.length_append] at hlt
        have g3 : nw[i - (sh.length + ex.length)]? = some c := by
          rw [List.getElem?_append_right (by rw [List.length_append]; omega), List.length_append] at g1
          exact g1
        have hm := List.mem_of_getElem? g3
        have g4 : (sh ++ nw)[i - ex.length]? = some c := by
          rw [List.getElem?_append_right (by omega)]
          rw [show i - ex.length - sh.length = i - (sh.length + ex.length) by omega]
          exact g3
        have a1 : ad_jn sh.length ex.length nw.length ad' ad i = ad' (i - ex.length) := by unfold ad_jn; rw [if_neg c1, if_neg c2, if_pos (by omega)]
        have a2 : q = (ad' (i - ex.length), ce dA ad' m' (i - ex.length) c) := by
          rw [g2, a1]
          congr 1
          exact ce_ia (hnw c hm) (fun j => by unfold am_jn; rw [if_neg c1, if_neg c2])
        exact ⟨by omega, by omega, c, hm, by rw [a2]; exact con_get (h := (sh ++ nw, m')) g4, a2⟩
  -- the arrays that stay: below the callee's start, not among its cells
  have stay : ∀ (i : Nat) (c : ShC), sh.length ≤ i → c ∈ ex → (con dA ad (sh ++ ex, m))[i]? = some (ad i, ce dA ad m i c) → ad i < sz ∧ ¬ va_A (con dA ad (sh, m)) sz (ad i) := by
    intro i c hi hm hx
    have hlt : ad i < sz := by rw [← p1]; exact va_at_lt (hex c hm) (p2 i _ hx)
    refine ⟨hlt, fun z => ?_⟩
    rcases z with ⟨j, x, hj⟩ | z
    · have hj2 := sub j _ hj
      obtain ⟨c2, g1, -⟩ := con_at hj
      have hjl := (List.getElem?_eq_some_iff.mp g1).1
      have := p4.1 i j _ _ hx hj2 rfl
      omega
    · omega
  refine ⟨n, o, h1, h2, h3, ⟨⟨v, ((sh ++ ex) ++ nw, am_jn sh.length ex.length m' m), ad_jn sh.length ex.length nw.length ad' ad, b1, ⟨m', bq, rfl⟩, ?_, ?_, ?_, ?_, ?_⟩, ⟨bF.1, fun q x1 x2 => bF.2 q x1 (fun z => x2 (mono q z))⟩⟩, ⟨LL, fe, fun q hq => mono _ (hLL q hq)⟩⟩
  · simp only [List.length_append] at *; omega
  · simp [slS] at *; omega
  · intro q hq
    simp only [List.length_append] at hq bad
    unfold ad_jn
    by_cases c1 : q < sh.length
    · rw [if_pos c1]; exact adlt q c1
    · rw [if_neg c1]
      by_cases c2 : q < sh.length + ex.length
      · rw [if_pos c2]
      · rw [if_neg c2, if_neg (by omega)]
  · intro i q hi
    rcases ent i q hi with ⟨-, g⟩ | ⟨g1, g2, c, hm, g3, g4⟩ | ⟨-, -, c, hm, g, -⟩
    · exact bP _ _ g
    · have hs := stay i c g1 hm (by rw [← g4]; exact g3)
      have h0 := p2 i q g3
      rw [g4] at h0 ⊢
      exact h0.kept (bF.2 _ (by rw [p1]; exact hs.1) hs.2)
    · exact bP _ _ g
  · have out : ∀ (i : Nat) (q : Nat × va_E), (con dA ad' (sh ++ nw, m'))[i]? = some q → ∀ (j : Nat) (c : ShC), sh.length ≤ j → c ∈ ex → (con dA ad (sh ++ ex, m))[j]? = some (ad j, ce dA ad m j c) → q.1 ≠ ad j := by
      intro i q hi j c hj hm hx z
      have := bD.2 i q hi
      rw [z] at this
      exact (stay j c hj hm hx).2 this
    refine ⟨fun i j x y hx hy hxy => ?_, fun i q hi => ?_⟩
    · rcases ent i x hx with ⟨a1, g⟩ | ⟨a1, a2, c, hm, a3, a4⟩ | ⟨a1, a2, c, hm, g, -⟩
      · rcases ent j y hy with ⟨d1, g'⟩ | ⟨d1, d2, c', hm', d3, d4⟩ | ⟨d1, d2, c', hm', g', -⟩
        · exact bD.1 i j x y g g' hxy
        · exact absurd (hxy.trans (by rw [d4])) (out i x g j c' d1 hm' (by rw [← d4]; exact d3))
        · have := bD.1 _ _ x y g g' hxy
          omega
      · rcases ent j y hy with ⟨d1, g'⟩ | ⟨d1, d2, c', hm', d3, d4⟩ | ⟨d1, d2, c', hm', g', -⟩
        · exact absurd (hxy.symm.trans (by rw [a4])) (out j y g' i c a1 hm (by rw [← a4]; exact a3))
        · exact p4.1 i j x y a3 d3 hxy
        · exact absurd (hxy.symm.trans (by rw [a4])) (out _ y g' i c a1 hm (by rw [← a4]; exact a3))
      · rcases ent j y hy with ⟨d1, g'⟩ | ⟨d1, d2, c', hm', d3, d4⟩ | ⟨d1, d2, c', hm', g', -⟩
        · have := bD.1 _ _ x y g g' hxy
          omega
        · exact absurd (hxy.trans (by rw [d4])) (out _ x g j c' d1 hm' (by rw [← d4]; exact d3))
        · have := bD.1 _ _ x y g g' hxy
          omega
    · rcases ent i q hi with ⟨-, g⟩ | ⟨-, -, c, hm, g3, g4⟩ | ⟨-, -, c, hm, g, -⟩
      · exact mono _ (bD.2 _ _ g)
      · exact va_A.in g3
      · exact mono _ (bD.2 _ _ g)
