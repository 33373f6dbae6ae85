
/-- the first n cells as they stand in the end, but for those still being made -/
def pt (n : Nat) (ov : List (Nat × ShC)) : List ShC := ov.foldl (fun s q => s.set q.1 q.2) (SH.take n)
def AI (K mc ms : Nat) (M : MI) (pc : Nat) (L : List (Option AV)) (S : List AV) (sh : List ShC) (m : AM) (shE : List ShC) (Q : AM → Prop) : Prop := ∀ (X : AX) (d r : Nat), rk K d r → AW M (X, d, r, mc, ms) pc L S (sh, m) (fun v h => v = none ∧ h.1 = shE ∧ Q h.2)
def CI (K : Nat) (M : MI) (mc ms : Nat) (av : List AV) (sh : List ShC) (m : AM) (shE : List ShC) (Q : AM → Prop) : Prop := ∀ (X : AX) (d r : Nat), rk K d r → AC X M d r mc ms av (sh, m) (fun v h => v = none ∧ h.1 = shE ∧ Q h.2)
theorem ci_of {K mc ms nc ns : Nat} {M : MI} {av : List AV} {sh shE : List ShC} {m : AM} {Q : AM → Prop} {L0 : List (Option AV)} (hp : plainName M.1.cls = true) (hlen : av.length ≤ M.2.2.1) (hmc : sh.length + mc = nc) (hms : slS sh + ms = ns) (hL : av.map some ++ List.replicate (M.2.2.1 - av.length) none = L0) (k : AI K nc ns M 0 L0 [] sh m shE Q) : CI K M mc ms av sh m shE Q := by
  intro X d r hk
  refine ac_of hp hlen ?_
  rw [hL]
  show AW M (X, d, r, sh.length + mc, slS sh + ms) _ _ _ _ _
  rw [hmc, hms]
  exact k X d r hk
theorem am_n0 {m : AM} {n : Nat} {j : Int} : am_new m n n j = 0 := if_pos rfl
theorem am_nk {m : AM} {n k : Nat} {j : Int} (h : k ≠ n) : am_new m n k j = m k j := if_neg h
section AIS
variable {K mc ms : Nat} {M : MI} {pc : Nat} {L : List (Option AV)} {S : List AV} {sh shE : List ShC} {m : AM} {Q : AM → Prop}
theorem ai_ald_0 {R : List (Option AV)} {x : Nat} (hd : decode M.2.1 pc = .ok (.aload_n 0, 1)) (k : AI K mc ms M (pc + 1) (some (.inr x) :: R) (.inr x :: S) sh m shE Q) : AI K mc ms M pc (some (.inr x) :: R) S sh m shE Q := fun X d r hk => aw_ald_n hd rfl rfl (k X d r hk)
theorem ai_ild_1 {a0 : Option AV} {R : List (Option AV)} {x : Int} (hd : decode M.2.1 pc = .ok (.iload_n 1, 1)) (k : AI K mc ms M (pc + 1) (a0 :: some (.inl x) :: R) (.inl x :: S) sh m shE Q) : AI K mc ms M pc (a0 :: some (.inl x) :: R) S sh m shE Q := fun X d r hk => aw_ild_n hd rfl rfl (k X d r hk)
theorem ai_ild_2 {a0 a1 : Option AV} {R : List (Option AV)} {x : Int} (hd : decode M.2.1 pc = .ok (.iload_n 2, 1)) (k : AI K mc ms M (pc + 1) (a0 :: a1 :: some (.inl x) :: R) (.inl x :: S) sh m shE Q) : AI K mc ms M pc (a0 :: a1 :: some (.inl x) :: R) S sh m shE Q := fun X d r hk => aw_ild_n hd rfl rfl (k X d r hk)
theorem ai_ist_1 {a0 : Option AV} {R : List (Option AV)} {o : Option AV} {x : Int} (hd : decode M.2.1 pc = .ok (.istore_n 1, 1)) (hn : 1 < M.2.2.1) (k : AI K mc ms M (pc + 1) (a0 :: some (.inl x) :: R) S sh m shE Q) : AI K mc ms M pc (a0 :: o :: R) (.inl x :: S) sh m shE Q := fun X d r hk => aw_ist_n hd rfl hn rfl (k X d r hk)
theorem ai_ist_2 {a0 a1 : Option AV} {R : List (Option AV)} {o : Option AV} {x : Int} (hd : decode M.2.1 pc = .ok (.istore_n 2, 1)) (hn : 2 < M.2.2.1) (k : AI K mc ms M (pc + 1) (a0 :: a1 :: some (.inl x) :: R) S sh m shE Q) : AI K mc ms M pc (a0 :: a1 :: o :: R) (.inl x :: S) sh m shE Q := fun X d r hk => aw_ist_n hd rfl hn rfl (k X d r hk)
theorem ai_iinc_1 {a0 : Option AV} {R : List (Option AV)} {x n : Int} (hd : decode M.2.1 pc = .ok (.iinc 1 n, 3)) (hn : 1 < M.2.2.1) (k : AI K mc ms M (pc + 3) (a0 :: some (.inl (x + n)) :: R) S sh m shE Q) : AI K mc ms M pc (a0 :: some (.inl x) :: R) S sh m shE Q := fun X d r hk => aw_iinc hd hn rfl rfl (k X d r hk)
theorem ai_iinc_2 {a0 a1 : Option AV} {R : List (Option AV)} {x n : Int} (hd : decode M.2.1 pc = .ok (.iinc 2 n, 3)) (hn : 2 < M.2.2.1) (k : AI K mc ms M (pc + 3) (a0 :: a1 :: some (.inl (x + n)) :: R) S sh m shE Q) : AI K mc ms M pc (a0 :: a1 :: some (.inl x) :: R) S sh m shE Q := fun X d r hk => aw_iinc hd hn rfl rfl (k X d r hk)
theorem ai_const {n : Int} (hd : decode M.2.1 pc = .ok (.iconst n, 1)) (k : AI K mc ms M (pc + 1) L (.inl n :: S) sh m shE Q) : AI K mc ms M pc L S sh m shE Q := fun X d r hk => aw_const hd (k X d r hk)
theorem ai_bipush {n : Int} (hd : decode M.2.1 pc = .ok (.bipush n, 2)) (hn : (Int8.ofInt n).toInt32 = Int32.ofInt n) (k : AI K mc ms M (pc + 2) L (.inl n :: S) sh m shE Q) : AI K mc ms M pc L S sh m shE Q := fun X d r hk => aw_bipush hd hn (k X d r hk)
theorem ai_sipush {n : Int} (hd : decode M.2.1 pc = .ok (.sipush n, 3)) (hn : (Int16.ofInt n).toInt32 = Int32.ofInt n) (k : AI K mc ms M (pc + 3) L (.inl n :: S) sh m shE Q) : AI K mc ms M pc L S sh m shE Q := fun X d r hk => aw_sipush hd hn (k X d r hk)
theorem ai_dup {v : AV} (hd : decode M.2.1 pc = .ok (.dup, 1)) (k : AI K mc ms M (pc + 1) L (v :: v :: S) sh m shE Q) : AI K mc ms M pc L (v :: S) sh m shE Q := fun X d r hk => aw_dup hd (k X d r hk)
theorem ai_dup2 {u v : AV} (hd : decode M.2.1 pc = .ok (.dup2, 1)) (k : AI K mc ms M (pc + 1) L (v :: u :: v :: u :: S) sh m shE Q) : AI K mc ms M pc L (v :: u :: S) sh m shE Q := fun X d r hk => aw_dup2 hd (k X d r hk)
theorem ai_iadd {x y : Int} (hd : decode M.2.1 pc = .ok (.iadd, 1)) (k : AI K mc ms M (pc + 1) L (.inl (x + y) :: S) sh m shE Q) : AI K mc ms M pc L (.inl y :: .inl x :: S) sh m shE Q := fun X d r hk => aw_iadd hd (k X d r hk)
theorem ai_imul {x y : Int} (hd : decode M.2.1 pc = .ok (.imul, 1)) (k : AI K mc ms M (pc + 1) L (.inl (x * y) :: S) sh m shE Q) : AI K mc ms M pc L (.inl y :: .inl x :: S) sh m shE Q := fun X d r hk => aw_imul hd (k X d r hk)
theorem ai_iand {x y : Int} (hd : decode M.2.1 pc = .ok (.iand, 1)) (k : AI K mc ms M (pc + 1) L (.inl (iAnd x y) :: S) sh m shE Q) : AI K mc ms M pc L (.inl y :: .inl x :: S) sh m shE Q := fun X d r hk => aw_iand hd (k X d r hk)
theorem ai_ishl {x y : Int} (hd : decode M.2.1 pc = .ok (.ishl, 1)) (k : AI K mc ms M (pc + 1) L (.inl (iShl x y) :: S) sh m shE Q) : AI K mc ms M pc L (.inl y :: .inl x :: S) sh m shE Q := fun X d r hk => aw_ishl hd (k X d r hk)
theorem ai_goto {off : Int} (tgt : Nat) (hd : decode M.2.1 pc = .ok (.goto off, 3)) (ht : (pc : Int) + off = (tgt : Int)) (k : AI K mc ms M tgt L S sh m shE Q) : AI K mc ms M pc L S sh m shE Q := fun X d r hk => aw_goto hd ht (k X d r hk)
theorem ai_icmp_ge {x y off : Int} (tgt : Nat) (hd : decode M.2.1 pc = .ok (.if_icmp .ge off, 3)) (ht : (pc : Int) + off = (tgt : Int)) (hx : rng x) (hy0 : rng y) (k1 : x ≥ y → AI K mc ms M tgt L S sh m shE Q) (k2 : x < y → AI K mc ms M (pc + 3) L S sh m shE Q) : AI K mc ms M pc L (.inl y :: .inl x :: S) sh m shE Q := fun X d r hk => aw_icmp_ge hd ht hx hy0 (fun c => k1 c X d r hk) (fun c => k2 c X d r hk)
theorem ai_if_eq {x off : Int} (tgt : Nat) (hd : decode M.2.1 pc = .ok (.ifCond .eq off, 3)) (ht : (pc : Int) + off = (tgt : Int)) (hr : rng x) (k1 : x = 0 → AI K mc ms M tgt L S sh m shE Q) (k2 : x ≠ 0 → AI K mc ms M (pc + 3) L S sh m shE Q) : AI K mc ms M pc L (.inl x :: S) sh m shE Q := fun X d r hk => aw_if_eq hd ht hr (fun c => k1 c X d r hk) (fun c => k2 c X d r hk)
theorem ai_objInit {idx q : Nat} (hd : decode M.2.1 pc = .ok (.invokespecial idx, 3)) (hl : Cond.methodLink M.1.cls idx objectInit ∈ GW) (hK : 1 ≤ K) (hS : S.length ≤ 8) (k : AI K mc ms M (pc + 3) L S sh m shE Q) : AI K mc ms M pc L (.inr q :: S) sh m shE Q := fun X d r hk => aw_objInit hd hl ow_init.1 ow_init.2 (by show 1 ≤ d; have := hk.1; omega) (by show S.length + 12 ≤ r; have := hk.2; omega) (k X d r hk)
theorem ai_new {idx ci N : Nat} {C : String} {T : u_T} {ty : Nat → FieldType} {fs : List ShF} (q : Nat) {sh' : List ShC} (hd : decode M.2.1 pc = .ok (.new idx, 3)) (hk : aCl ci C T N ty) (hl : Cond.classLink M.1.cls idx C ∈ GW) (hi : Cond.instantiable C N ∈ GW) (hini : Cond.initialized C ∈ GW) (hN : fs.length = N) (hfs : ∀ j, j < N → defaultValue (ty j) = vp_V (fs.map (fun f => match f with | none => .int 0 | some _ => .null)) j) (hnn : ∀ f ∈ fs, f = none ∨ f = some none) (hq : sh.length = q) (hlt : q < 1000) (hfr : aFresh q (sh ++ [.inl (ci, fs)]) L S = true) (hc1 : q + 1 ≤ mc) (hc2 : slS sh + N ≤ ms) (hsh : sh ++ [.inl (ci, fs)] = sh')
    (k : AI K mc ms M (pc + 3) L (.inr q :: S) sh' (am_new m q) shE Q) : AI K mc ms M pc L S sh m shE Q := by
  subst hq; subst hsh
  exact fun X d r hr => aw_new hd hk hl hi hini hN hfs hnn hlt hfr hc1 hc2 (k X d r hr)
theorem ai_newarr {atype : ArrayType} {t : Nat} {n : Int} {N : Nat} {ty : FieldType} (q : Nat) {sh' : List ShC} (hd : decode M.2.1 pc = .ok (.newarray atype, 2)) (hl : Cond.arrayClass ty ∈ GW) (ht : (atype = .int ∧ t = 0 ∧ ty = .int) ∨ (atype = .boolean ∧ t = 1 ∧ ty = .boolean) ∨ (atype = .char ∧ t = 2 ∧ ty = .char)) (hN : n = (N : Int)) (hs5 : N ≤ 100000) (hq : sh.length = q) (hlt : q < 1000) (hfr : aFresh q (sh ++ [.inr (.inl (t, N))]) L S = true) (hc1 : q + 1 ≤ mc) (hc2 : slS sh + N ≤ ms) (hsh : sh ++ [.inr (.inl (t, N))] = sh')
    (k : AI K mc ms M (pc + 2) L (.inr q :: S) sh' (am_new m q) shE Q) : AI K mc ms M pc L (.inl n :: S) sh m shE Q := by
  subst hq; subst hsh
  exact fun X d r hr => aw_newarr hd hl ht hN hs5 hlt hfr hc1 hc2 (k X d r hr)
theorem ai_anew {idx : Nat} {n : Int} {N : Nat} (q : Nat) {sh' : List ShC} (hd : decode M.2.1 pc = .ok (.anewarray idx, 3)) (hl : Cond.classLink M.1.cls idx RX0 ∈ GW) (hN : n = (N : Int)) (hs5 : N ≤ 100000) (hq : sh.length = q) (hlt : q < 1000) (hfr : aFresh q (sh ++ [.inr (.inr (List.replicate N none))]) L S = true) (hc1 : q + 1 ≤ mc) (hc2 : slS sh + N ≤ ms) (hsh : sh ++ [.inr (.inr (List.replicate N none))] = sh')
    (k : AI K mc ms M (pc + 3) L (.inr q :: S) sh' (am_new m q) shE Q) : AI K mc ms M pc L (.inl n :: S) sh m shE Q := by
  subst hq; subst hsh
  exact fun X d r hr => aw_anew hd hl hN hs5 hlt hfr hc1 hc2 (k X d r hr)
theorem ai_putR {idx q ci j r : Nat} {fs : List ShF} {sh' : List ShC} (hd : decode M.2.1 pc = .ok (.putfield idx, 3)) (hin : M.1.name = "<init>") (hw : aFf M.1.cls idx ci j) (hc : sh[q]? = some (.inl (ci, fs))) (hj : j < fs.length) (hsh : sh.set q (.inl (ci, fs.set j (some (some r)))) = sh') (k : AI K mc ms M (pc + 3) L S sh' m shE Q) : AI K mc ms M pc L (.inr r :: .inr q :: S) sh m shE Q := fun X d rr hk => aw_putR hd hin hw hc hj hsh (k X d rr hk)
theorem ai_putI {idx q ci j : Nat} {jz v : Int} {b : Bool} {fs : List ShF} (hd : decode M.2.1 pc = .ok (.putfield idx, 3)) (hw : aFn M.1.cls idx ci j b) (hc : sh[q]? = some (.inl (ci, fs))) (hj : fs[j]? = some none) (hz : (j : Int) = jz) (hb : b = true → v = 0 ∨ v = 1) (k : AI K mc ms M (pc + 3) L S sh (am_up m q jz v) shE Q) : AI K mc ms M pc L (.inl v :: .inr q :: S) sh m shE Q := fun X d r hk => aw_putI hd hw hc hj hz hb (k X d r hk)
theorem ai_getR {idx q ci j r : Nat} {fs : List ShF} (hd : decode M.2.1 pc = .ok (.getfield idx, 3)) (hw : aFl M.1.cls idx ci j) (hc : sh[q]? = some (.inl (ci, fs))) (hj : fs[j]? = some (some (some r))) (k : AI K mc ms M (pc + 3) L (.inr r :: S) sh m shE Q) : AI K mc ms M pc L (.inr q :: S) sh m shE Q := fun X d rr hk => aw_getR hd hw hc hj (k X d rr hk)
theorem ai_iastore {q n : Nat} {i v : Int} (hd : decode M.2.1 pc = .ok (.iastore, 1)) (hc : sh[q]? = some (.inr (.inl (0, n)))) (h0 : 0 ≤ i) (h1 : i < n) (hn : n < 2147483648) (k : AI K mc ms M (pc + 1) L S sh (am_up m q i v) shE Q) : AI K mc ms M pc L (.inl v :: .inl i :: .inr q :: S) sh m shE Q := fun X d r hk => aw_iastore hd hc h0 h1 hn (k X d r hk)
theorem ai_iaload {q n : Nat} {i : Int} (hd : decode M.2.1 pc = .ok (.iaload, 1)) (hc : sh[q]? = some (.inr (.inl (0, n)))) (h0 : 0 ≤ i) (h1 : i < n) (hn : n < 2147483648) (k : AI K mc ms M (pc + 1) L (.inl (m q i) :: S) sh m shE Q) : AI K mc ms M pc L (.inl i :: .inr q :: S) sh m shE Q := fun X d r hk => aw_iaload hd hc h0 h1 hn (k X d r hk)
theorem ai_aastore {q r qc : Nat} {i : Int} {rs : List (Option Nat)} {fs : List ShF} {sh' : List ShC} (hd : decode M.2.1 pc = .ok (.aastore, 1)) (hc : sh[q]? = some (.inr (.inr rs))) (h0 : 0 ≤ i) (h1 : i < rs.length) (hn : rs.length < 2147483648) (hr : sh[r]? = some (.inl (qc, fs))) (hq : vwCl[qc]? = some (RX0, TX0, 5)) (hsh : sh.set q (.inr (.inr (rs.set i.toNat (some r)))) = sh') (k : AI K mc ms M (pc + 1) L S sh' m shE Q) : AI K mc ms M pc L (.inr r :: .inl i :: .inr q :: S) sh m shE Q := fun X d rr hk => aw_aastore hd hc h0 h1 hn hr hq hsh (k X d rr hk)
theorem ai_return (hd : decode M.2.1 pc = .ok (.return_, 1)) (ht : M.2.2.2 = none) (h1 : sh.length = mc) (h2 : slS sh = ms) (he : sh = shE) (hq : Q m) : AI K mc ms M pc L [] sh m shE Q := fun X d r hk => aw_return hd ht h1 h2 ⟨rfl, he, hq⟩
theorem ai_invI {idx q nc ns K' : Nat} {M' : MI} {shE' : List ShC} {Q' : AM → Prop} (hd : decode M.2.1 pc = .ok (.invokespecial idx, 3)) (hb : aMI M.1.cls idx M' 0) (hM : CI K' M' nc ns [.inr q] sh m shE' Q') (hrest : S.length ≤ 8) (hK : K' + 1 ≤ K) (hml : M'.2.2.1 ≤ 17) (hsml : sh.length + nc ≤ 1000) (ok : aKeep sh.length (sh.length + nc) L S = true) (hc1 : sh.length + nc ≤ mc) (hc2 : slS sh + ns ≤ ms)
    (kk : ∀ m', Q' m' → AI K mc ms M (pc + 3) L S shE' m' shE Q) : AI K mc ms M pc L (.inr q :: S) sh m shE Q := fun X d r hk => by
  obtain ⟨r1, r2, r3⟩ := rk_call hk hK hml
  refine aw_invI hd hb rfl rfl hrest (hM X _ _ r1) r2 r3 hsml ok hc1 hc2 (fun v h' hq _ _ => ?_)
  obtain ⟨sh', m'⟩ := h'
  obtain ⟨rfl, e, hq⟩ := hq
  simp only at e hq
  subst e
  exact kk m' hq X d r hk
end AIS

