section HEAP
variable {M : MI} {E : AE} {pc : Nat} {L : List (Option AV)} {S : List AV} {h : HP} {Q : Option Int → HP → Prop}
def aCl (ci : Nat) (C : String) (T : u_T) (N : Nat) (ty : Nat → FieldType) : Prop := vwCl[ci]? = some (C, T, N) ∧ (∀ w ∈ u_ws C T N, w ∈ GW) ∧ (∀ k, k < N → parseFieldDescriptor (T k).2.2.1 = some (ty k)) ∧ (∀ a, a < N → ∀ b, b < N → a ≠ b → (T a).2.1 ≠ (T b).2.1)
def aFl (own : String) (idx ci j : Nat) : Prop := ∃ (C : String) (T : u_T) (N : Nat) (ty : Nat → FieldType), aCl ci C T N ty ∧ j < N ∧ (T j).1 = C ∧ (Cond.fieldLink own idx C (T j).2.1 (T j).2.2.1 ∈ GW ∨ ∃ host, Cond.fieldLinkNest own idx C (T j).2.1 (T j).2.2.1 host ∈ NWL)
def aFn (own : String) (idx ci j : Nat) (b : Bool) : Prop := ∃ (C : String) (T : u_T) (N : Nat) (ty : Nat → FieldType), aCl ci C T N ty ∧ j < N ∧ (T j).1 = C ∧ (Cond.fieldLink own idx C (T j).2.1 (T j).2.2.1 ∈ GW ∨ ∃ host, Cond.fieldLinkNest own idx C (T j).2.1 (T j).2.2.1 host ∈ NWL) ∧ (T j).2.2.2 = false ∧ ty j = (if b then .boolean else .int)
def aFf (own : String) (idx ci j : Nat) : Prop := ∃ (C : String) (T : u_T) (N : Nat) (ty : Nat → FieldType), aCl ci C T N ty ∧ j < N ∧ (T j).1 = C ∧ own = C ∧ Cond.fieldLink own idx C (T j).2.1 (T j).2.2.1 ∈ GW ∧ (T j).2.2.2 = true ∧ (∀ a : Nat, narrow (ty j) (.ref a) = .ref a ∧ fits (ty j) (.ref a) = true)
theorem aw_getV {idx q ci j : Nat} {fs : List ShF} {f : ShF} (hd : decode M.2.1 pc = .ok (.getfield idx, 3)) (hw : aFl M.1.cls idx ci j) (hc : h.1[q]? = some (.inl (ci, fs))) (hj : fs[j]? = some f)
    {l : Launch} {p : Program} {e : Env} {R : Room} {s : State} {m : MethodId} {args : Array Value} {below : List Frame} {meth : Method} {c : Code} {H : Heap} {locs : List Loc} {cells slots : Nat} {A : Nat → Prop} {dC : Nat → ClassId} {dI : Nat → Nat → Nat} {dA : Nat → ClassId} {ad ad0 : Nat → Nat} {ls : Array Slot} {n0 m0 : Nat} {QQ : State → Prop} {rest : List Value}
    (hs : aSt M E p R s m args meth c A dC dI dA n0 m0) (hy : aDy M E s H locs cells slots A dC dI dA ad ad0 ls n0 m0 L h)
    (kk : W p l e R s m args below meth c H locs cells slots QQ (F0 m (pc + 3) ls (cfl ad h.2 q j f :: rest))) : W p l e R s m args below meth c H locs cells slots QQ (F0 m pc ls (.ref (ad q) :: rest)) := by
  obtain ⟨s1, s2, s3, s4, s5, s6, s7, s8, s9, s10, s11, s12, s13, s14, s15, s16⟩ := id hs
  obtain ⟨y1, y2, y3, y4, y5, y6, y7, y8⟩ := id hy
  obtain ⟨C, T, N, ty, k1, k2, k3, k4⟩ := hw
  have he := con_get (dA := dA) (ad := ad) hc
  simp only [ce] at he
  have hv : (fs.mapIdx (cfl ad h.2 q))[j]? = some (cfl ad h.2 q j f) := by rw [List.getElem?_mapIdx, hj]; rfl
  rcases k4 with k4 | ⟨host, k4⟩
  · exact va_get (Ts := GW) s1 s2 s6 k1.2.1 s5 s11 y1 q he k1.1 j k2 (s6 _ k4) (fun x hx => by rw [k3] at hx; exact hx) hv hd kk
  · exact va_getN (Ts := GW) (host := host) s1 s2 s6 k1.2.1 s5 s11 y1 q he k1.1 j k2 (va_Nw.use rfl (s9 _ k4)) (fun x hx => by rw [k3] at hx; exact hx) hv hd kk
theorem aw_getI {idx q ci j : Nat} {jz : Int} {fs : List ShF} (hd : decode M.2.1 pc = .ok (.getfield idx, 3)) (hw : aFl M.1.cls idx ci j) (hc : h.1[q]? = some (.inl (ci, fs))) (hj : fs[j]? = some none) (hz : (j : Int) = jz)
    (k : AW M E (pc + 3) L (.inl (h.2 q jz) :: S) h Q) : AW M E pc L (.inr q :: S) h Q := by
  intro l p e R s m args below meth c H locs cells slots A dC dI dA ad ad0 ls n0 m0 QQ hs hf hy
  subst hz
  exact aw_getV hd hw hc hj hs hy (k l p e R s m args below meth c H locs cells slots A dC dI dA ad ad0 ls n0 m0 QQ hs hf hy)
theorem aw_getR {idx q ci j r : Nat} {fs : List ShF} (hd : decode M.2.1 pc = .ok (.getfield idx, 3)) (hw : aFl M.1.cls idx ci j) (hc : h.1[q]? = some (.inl (ci, fs))) (hj : fs[j]? = some (some (some r)))
    (k : AW M E (pc + 3) L (.inr r :: S) h Q) : AW M E pc L (.inr q :: S) h Q := by
  intro l p e R s m args below meth c H locs cells slots A dC dI dA ad ad0 ls n0 m0 QQ hs hf hy
  exact aw_getV hd hw hc hj hs hy (k l p e R s m args below meth c H locs cells slots A dC dI dA ad ad0 ls n0 m0 QQ hs hf hy)
theorem nar_b {v : Int} (b : Bool) (hb : b = true → v = 0 ∨ v = 1) : narrow (if b then .boolean else .int) (.int (Int32.ofInt v)) = .int (Int32.ofInt v) ∧ fits (if b then .boolean else .int) (.int (Int32.ofInt v)) = true := by
  cases b with
  | false => exact ⟨rfl, rfl⟩
  | true =>
    rcases hb rfl with rfl | rfl
    · exact ⟨by decide +kernel, by decide +kernel⟩
    · exact ⟨by decide +kernel, by decide +kernel⟩
theorem aw_putI {idx q ci j : Nat} {jz v : Int} {b : Bool} {fs : List ShF} (hd : decode M.2.1 pc = .ok (.putfield idx, 3)) (hw : aFn M.1.cls idx ci j b) (hc : h.1[q]? = some (.inl (ci, fs))) (hj : fs[j]? = some none) (hz : (j : Int) = jz) (hb : b = true → v = 0 ∨ v = 1)
    (k : AW M E (pc + 3) L S (h.1, am_up h.2 q jz v) Q) : AW M E pc L (.inl v :: .inr q :: S) h Q := by
  intro l p e R s m args below meth c H locs cells slots A dC dI dA ad ad0 ls n0 m0 QQ hs hf hy
  obtain ⟨s1, s2, s3, s4, s5, s6, s7, s8, s9, s10, s11, s12, s13, s14, s15, s16⟩ := id hs
  obtain ⟨y1, y2, y3, y4, y5, y6, y7, y8⟩ := id hy
  subst hz
  obtain ⟨C, T, N, ty, k1, k2, k3, k4, k5, k6⟩ := hw
  have he := con_get (dA := dA) (ad := ad) hc
  simp only [ce] at he
  obtain ⟨nb1, nb2⟩ := nar_b b hb
  rw [← k6] at nb1 nb2
  have hl : j < (fs.mapIdx (cfl ad h.2 q)).length := by simpa using (List.getElem?_eq_some_iff.mp hj).1
  have ecn : con dA ad (h.1, am_up h.2 q (j : Int) v) = (con dA ad h).set q (ad q, .inr (ci, (fs.mapIdx (cfl ad h.2 q)).set j (.int (Int32.ofInt v)))) := by
    rw [con_setI hc, ce_fI hj]
  have kk : ∀ (H1 : Heap) (locs1 : List Loc), va_P (dC, dI) vwCl ((con dA ad h).set q (ad q, .inr (ci, (fs.mapIdx (cfl ad h.2 q)).set j (.int (Int32.ofInt v))))) H1 → va_D A ((con dA ad h).set q (ad q, .inr (ci, (fs.mapIdx (cfl ad h.2 q)).set j (.int (Int32.ofInt v))))) → va_S A s.heap H1 locs1 → W p l e R s m args below meth c H1 locs1 cells slots QQ (F0 m (pc + 3) ls (S.map (cv ad))) := by
    intro H1 locs1 g1 g2 g3
    rw [← ecn] at g1 g2
    exact k l p e R s m args below meth c H1 locs1 cells slots A dC dI dA ad ad0 ls n0 m0 QQ hs hf ⟨g1, g2, g3, y4, y5, y6, y7, y8⟩
  rcases k4 with k4 | ⟨host, k4⟩
  · exact va_put (Ts := GW) s1 s2 s6 k1.2.1 ty k1.2.2.1 k1.2.2.2 s5 s11 y1 y2 y3 q he k1.1 j k2 (s6 _ k4) (fun x hx => by rw [k3] at hx; exact hx) k5 (k1.2.2.1 j k2) nb1 nb2 hl hd kk
  · exact va_putN (Ts := GW) (host := host) s1 s2 s6 k1.2.1 ty k1.2.2.1 k1.2.2.2 s5 s11 y1 y2 y3 q he k1.1 j k2 (va_Nw.use rfl (s9 _ k4)) (fun x hx => by rw [k3] at hx; exact hx) k5 (k1.2.2.1 j k2) nb1 nb2 hl hd kk
theorem aw_putR {idx q ci j r : Nat} {fs : List ShF} {sh' : List ShC} (hd : decode M.2.1 pc = .ok (.putfield idx, 3)) (hin : M.1.name = "<init>") (hw : aFf M.1.cls idx ci j) (hc : h.1[q]? = some (.inl (ci, fs))) (hj : j < fs.length) (hsh : h.1.set q (.inl (ci, fs.set j (some (some r)))) = sh')
    (k : AW M E (pc + 3) L S (sh', h.2) Q) : AW M E pc L (.inr r :: .inr q :: S) h Q := by
  intro l p e R s m args below meth c H locs cells slots A dC dI dA ad ad0 ls n0 m0 QQ hs hf hy
  obtain ⟨s1, s2, s3, s4, s5, s6, s7, s8, s9, s10, s11, s12, s13, s14, s15, s16⟩ := id hs
  obtain ⟨y1, y2, y3, y4, y5, y6, y7, y8⟩ := id hy
  obtain ⟨C, T, N, ty, k1, k2, k3, k3b, k4, k5, k6⟩ := hw
  have he := con_get (dA := dA) (ad := ad) hc
  simp only [ce] at he
  have hq : q < h.1.length := (List.getElem?_eq_some_iff.mp hc).1
  have hl : j < (fs.mapIdx (cfl ad h.2 q)).length := by simpa using hj
  have ecn : con dA ad (sh', h.2) = (con dA ad h).set q (ad q, .inr (ci, (fs.mapIdx (cfl ad h.2 q)).set j (.ref (ad r)))) := by
    rw [con_set (sh := h.1) (m := h.2) hq hsh.symm (fun i c _ => rfl)]
    simp only [ce]
    congr 4
    apply List.ext_getElem?
    intro i
    by_cases hi : i = j
    · subst hi
      rw [List.getElem?_set_self hl, List.getElem?_mapIdx, List.getElem?_set_self hj]
      rfl
    · rw [List.getElem?_set_ne (Ne.symm hi), List.getElem?_mapIdx, List.getElem?_mapIdx, List.getElem?_set_ne (Ne.symm hi)]
  have hlen : sh'.length = h.1.length := by rw [← hsh]; simp
  have hsl : slS sh' = slS h.1 := by
    rw [← hsh]
    unfold slS
    rw [List.map_set]
    have : h.1.map slC = (h.1.map slC).set q (slC (.inl (ci, fs.set j (some (some r))))) := by
      refine (List.ext_getElem? fun i => ?_)
      by_cases hi : i = q
      · subst hi
        rw [List.getElem?_set_self (by simpa using hq), List.getElem?_map, hc]
        simp [slC]
      · rw [List.getElem?_set_ne (Ne.symm hi)]
    rw [← this]
  refine va_putF (v := Value.ref (ad r)) (Ts := GW) s1 s2 s6 k1.2.1 ty k1.2.2.1 k1.2.2.2 s5 s11 y1 y2 y3 q he k1.1 j k2 (s6 _ k4) (fun x hx => by rw [k3] at hx; exact hx) k5 (s8.trans hin) (k3.trans k3b.symm) (k1.2.2.1 j k2) (k6 (ad r)).1 (k6 (ad r)).2 hl hd (fun H1 locs1 g1 g2 g3 => ?_)
  rw [← ecn] at g1 g2
  exact k l p e R s m args below meth c H1 locs1 cells slots A dC dI dA ad ad0 ls n0 m0 QQ hs hf ⟨g1, g2, g3, by show cells + n0 = sh'.length; rw [hlen]; exact y4, by show slots + m0 = slS sh'; rw [hsl]; exact y5, y6, y7, fun z hz => y8 z (by have hz2 : z < n0 ∨ sh'.length ≤ z := hz; rw [hlen] at hz2; exact hz2)⟩
theorem aw_iaload {q n : Nat} {i : Int} (hd : decode M.2.1 pc = .ok (.iaload, 1)) (hc : h.1[q]? = some (.inr (.inl (0, n)))) (h0 : 0 ≤ i) (h1 : i < n) (hn : n < 2147483648)
    (k : AW M E (pc + 1) L (.inl (h.2 q i) :: S) h Q) : AW M E pc L (.inl i :: .inr q :: S) h Q := by
  intro l p e R s m args below meth c H locs cells slots A dC dI dA ad ad0 ls n0 m0 QQ hs hf hy
  obtain ⟨s1, s2, s3, s4, s5, s6, s7, s8, s9, s10, s11, s12, s13, s14, s15, s16⟩ := id hs
  obtain ⟨y1, y2, y3, y4, y5, y6, y7, y8⟩ := id hy
  have he := con_get (dA := dA) (ad := ad) hc
  simp only [ce] at he
  refine va_iald s1 s2 s11 y1 q 0 he rfl (ofI_in h0 h1 hn) hd ?_
  rw [ofI_cl ⟨by omega, by omega⟩, Int.toNat_of_nonneg h0]
  exact k l p e R s m args below meth c H locs cells slots A dC dI dA ad ad0 ls n0 m0 QQ hs hf hy
theorem aw_baload {q n : Nat} {i : Int} (hd : decode M.2.1 pc = .ok (.baload, 1)) (hc : h.1[q]? = some (.inr (.inl (1, n)))) (h0 : 0 ≤ i) (h1 : i < n) (hn : n < 2147483648)
    (k : AW M E (pc + 1) L (.inl (h.2 q i) :: S) h Q) : AW M E pc L (.inl i :: .inr q :: S) h Q := by
  intro l p e R s m args below meth c H locs cells slots A dC dI dA ad ad0 ls n0 m0 QQ hs hf hy
  obtain ⟨s1, s2, s3, s4, s5, s6, s7, s8, s9, s10, s11, s12, s13, s14, s15, s16⟩ := id hs
  obtain ⟨y1, y2, y3, y4, y5, y6, y7, y8⟩ := id hy
  have he := con_get (dA := dA) (ad := ad) hc
  simp only [ce] at he
  refine va_zald s1 s2 s11 y1 q 1 he rfl (ofI_in h0 h1 hn) hd ?_
  rw [ofI_cl ⟨by omega, by omega⟩, Int.toNat_of_nonneg h0]
  exact k l p e R s m args below meth c H locs cells slots A dC dI dA ad ad0 ls n0 m0 QQ hs hf hy
theorem aw_caload {q n : Nat} {i : Int} (hd : decode M.2.1 pc = .ok (.caload, 1)) (hc : h.1[q]? = some (.inr (.inl (2, n)))) (h0 : 0 ≤ i) (h1 : i < n) (hn : n < 2147483648)
    (k : AW M E (pc + 1) L (.inl (h.2 q i) :: S) h Q) : AW M E pc L (.inl i :: .inr q :: S) h Q := by
  intro l p e R s m args below meth c H locs cells slots A dC dI dA ad ad0 ls n0 m0 QQ hs hf hy
  obtain ⟨s1, s2, s3, s4, s5, s6, s7, s8, s9, s10, s11, s12, s13, s14, s15, s16⟩ := id hs
  obtain ⟨y1, y2, y3, y4, y5, y6, y7, y8⟩ := id hy
  have he := con_get (dA := dA) (ad := ad) hc
  simp only [ce] at he
  refine va_cald s1 s2 s11 y1 q 2 he rfl (ofI_in h0 h1 hn) hd ?_
  rw [ofI_cl ⟨by omega, by omega⟩, Int.toNat_of_nonneg h0]
  exact k l p e R s m args below meth c H locs cells slots A dC dI dA ad ad0 ls n0 m0 QQ hs hf hy
theorem aw_aaload {q r : Nat} {i : Int} {rs : List (Option Nat)} (hd : decode M.2.1 pc = .ok (.aaload, 1)) (hc : h.1[q]? = some (.inr (.inr rs))) (h0 : 0 ≤ i) (hr : rs[i.toNat]? = some (some r)) (hn : rs.length < 2147483648)
    (k : AW M E (pc + 1) L (.inr r :: S) h Q) : AW M E pc L (.inl i :: .inr q :: S) h Q := by
  intro l p e R s m args below meth c H locs cells slots A dC dI dA ad ad0 ls n0 m0 QQ hs hf hy
  obtain ⟨s1, s2, s3, s4, s5, s6, s7, s8, s9, s10, s11, s12, s13, s14, s15, s16⟩ := id hs
  obtain ⟨y1, y2, y3, y4, y5, y6, y7, y8⟩ := id hy
  have he := con_get (dA := dA) (ad := ad) hc
  simp only [ce] at he
  have hl : i.toNat < rs.length := (List.getElem?_eq_some_iff.mp hr).1
  refine va_aldq (C := RX0) s1 s2 s11 y1 q 3 he rfl (ofI_in h0 (by omega) hn) hd ?_
  rw [ofI_cl ⟨by omega, by omega⟩, List.getD_eq_getElem?_getD, hr]
  exact k l p e R s m args below meth c H locs cells slots A dC dI dA ad ad0 ls n0 m0 QQ hs hf hy
theorem aw_iastore {q n : Nat} {i v : Int} (hd : decode M.2.1 pc = .ok (.iastore, 1)) (hc : h.1[q]? = some (.inr (.inl (0, n)))) (h0 : 0 ≤ i) (h1 : i < n) (hn : n < 2147483648) 
    (k : AW M E (pc + 1) L S (h.1, am_up h.2 q i v) Q) : AW M E pc L (.inl v :: .inl i :: .inr q :: S) h Q := by
  intro l p e R s m args below meth c H locs cells slots A dC dI dA ad ad0 ls n0 m0 QQ hs hf hy
  obtain ⟨s1, s2, s3, s4, s5, s6, s7, s8, s9, s10, s11, s12, s13, s14, s15, s16⟩ := id hs
  obtain ⟨y1, y2, y3, y4, y5, y6, y7, y8⟩ := id hy
  have he := con_get (dA := dA) (ad := ad) hc
  simp only [ce] at he
  have ecn : con dA ad (h.1, am_up h.2 q i v) = (con dA ad h).set q (ad q, .inl (dA 0, n, .inl (upd (fun j => Int32.ofInt (h.2 q (j : Int))) i.toNat (Int32.ofInt v)))) := by
    rw [con_setI hc, ce_aI h0]
  refine va_iast s1 s2 s11 y1 y2 y3 q 0 he rfl (ofI_in h0 h1 hn) hd (fun H1 locs1 g1 g2 g3 => ?_)
  rw [ofI_cl ⟨by omega, by omega⟩] at g1 g2
  rw [← ecn] at g1 g2
  exact k l p e R s m args below meth c H1 locs1 cells slots A dC dI dA ad ad0 ls n0 m0 QQ hs hf ⟨g1, g2, g3, y4, y5, y6, y7, y8⟩
theorem aw_bastore {q n : Nat} {i v : Int} (hd : decode M.2.1 pc = .ok (.bastore, 1)) (hc : h.1[q]? = some (.inr (.inl (1, n)))) (h0 : 0 ≤ i) (h1 : i < n) (hn : n < 2147483648) (hv : v = 0 ∨ v = 1)
    (k : AW M E (pc + 1) L S (h.1, am_up h.2 q i v) Q) : AW M E pc L (.inl v :: .inl i :: .inr q :: S) h Q := by
  intro l p e R s m args below meth c H locs cells slots A dC dI dA ad ad0 ls n0 m0 QQ hs hf hy
  obtain ⟨s1, s2, s3, s4, s5, s6, s7, s8, s9, s10, s11, s12, s13, s14, s15, s16⟩ := id hs
  obtain ⟨y1, y2, y3, y4, y5, y6, y7, y8⟩ := id hy
  have he := con_get (dA := dA) (ad := ad) hc
  simp only [ce] at he
  have ecn : con dA ad (h.1, am_up h.2 q i v) = (con dA ad h).set q (ad q, .inl (dA 1, n, .inl (upd (fun j => Int32.ofInt (h.2 q (j : Int))) i.toNat (Int32.ofInt v)))) := by
    rw [con_setI hc, ce_aI h0]
  have en : vp_nar .boolean (Int32.ofInt v) = Int32.ofInt v := (by rcases hv with rfl | rfl <;> decide +kernel)
  refine va_zast s1 s2 s11 y1 y2 y3 q 1 he rfl (ofI_in h0 h1 hn) hd (fun H1 locs1 g1 g2 g3 => ?_)
  rw [ofI_cl ⟨by omega, by omega⟩, en] at g1 g2
  rw [← ecn] at g1 g2
  exact k l p e R s m args below meth c H1 locs1 cells slots A dC dI dA ad ad0 ls n0 m0 QQ hs hf ⟨g1, g2, g3, y4, y5, y6, y7, y8⟩
theorem nar_c {x : Int} (h0 : 0 ≤ x) (h1 : x < 65536) : (Int32.ofInt x).toUInt32.toUInt16.toUInt32.toInt32 = Int32.ofInt x := by
  obtain ⟨n, rfl⟩ := Int.eq_ofNat_of_zero_le h0
  have hn : n < 65536 := by omega
  have e := (pk_charN hn).1
  have e2 : vp_nar .char (nI n) = nI n := by unfold vp_nar; rw [e]
  rw [vp_nar_char] at e2
  exact e2
theorem aw_castore {q n : Nat} {i v : Int} (hd : decode M.2.1 pc = .ok (.castore, 1)) (hc : h.1[q]? = some (.inr (.inl (2, n)))) (h0 : 0 ≤ i) (h1 : i < n) (hn : n < 2147483648) (hv0 : 0 ≤ v) (hv1 : v < 65536)
    (k : AW M E (pc + 1) L S (h.1, am_up h.2 q i v) Q) : AW M E pc L (.inl v :: .inl i :: .inr q :: S) h Q := by
  intro l p e R s m args below meth c H locs cells slots A dC dI dA ad ad0 ls n0 m0 QQ hs hf hy
  obtain ⟨s1, s2, s3, s4, s5, s6, s7, s8, s9, s10, s11, s12, s13, s14, s15, s16⟩ := id hs
  obtain ⟨y1, y2, y3, y4, y5, y6, y7, y8⟩ := id hy
  have he := con_get (dA := dA) (ad := ad) hc
  simp only [ce] at he
  have ecn : con dA ad (h.1, am_up h.2 q i v) = (con dA ad h).set q (ad q, .inl (dA 2, n, .inl (upd (fun j => Int32.ofInt (h.2 q (j : Int))) i.toNat (Int32.ofInt v)))) := by
    rw [con_setI hc, ce_aI h0]
  have en : vp_nar .char (Int32.ofInt v) = Int32.ofInt v := (by rw [vp_nar_char]; exact nar_c hv0 hv1)
  refine va_cast s1 s2 s11 y1 y2 y3 q 2 he rfl (ofI_in h0 h1 hn) hd (fun H1 locs1 g1 g2 g3 => ?_)
  rw [ofI_cl ⟨by omega, by omega⟩, en] at g1 g2
  rw [← ecn] at g1 g2
  exact k l p e R s m args below meth c H1 locs1 cells slots A dC dI dA ad ad0 ls n0 m0 QQ hs hf ⟨g1, g2, g3, y4, y5, y6, y7, y8⟩
theorem aw_aastore {q r qc : Nat} {i : Int} {rs : List (Option Nat)} {fs : List ShF} {sh' : List ShC} (hd : decode M.2.1 pc = .ok (.aastore, 1)) (hc : h.1[q]? = some (.inr (.inr rs))) (h0 : 0 ≤ i) (h1 : i < rs.length) (hn : rs.length < 2147483648) (hr : h.1[r]? = some (.inl (qc, fs))) (hq : vwCl[qc]? = some (RX0, TX0, 5)) (hsh : h.1.set q (.inr (.inr (rs.set i.toNat (some r)))) = sh')
    (k : AW M E (pc + 1) L S (sh', h.2) Q) : AW M E pc L (.inr r :: .inl i :: .inr q :: S) h Q := by
  intro l p e R s m args below meth c H locs cells slots A dC dI dA ad ad0 ls n0 m0 QQ hs hf hy
  obtain ⟨s1, s2, s3, s4, s5, s6, s7, s8, s9, s10, s11, s12, s13, s14, s15, s16⟩ := id hs
  obtain ⟨y1, y2, y3, y4, y5, y6, y7, y8⟩ := id hy
  have he := con_get (dA := dA) (ad := ad) hc
  simp only [ce] at he
  have he2 := con_get (dA := dA) (ad := ad) hr
  simp only [ce] at he2
  have hql : q < h.1.length := (List.getElem?_eq_some_iff.mp hc).1
  have hil : i.toNat < rs.length := by omega
  have ecn : con dA ad (sh', h.2) = (con dA ad h).set q (ad q, .inl (dA 3, rs.length, .inr (.inr (.inr (.inr (va_up (fun j => (rs.getD j none).map ad) i.toNat (some (ad r)))))))) := by
    rw [con_set (sh := h.1) (m := h.2) hql hsh.symm (fun i c _ => rfl)]
    simp only [ce, List.length_set]
    congr 9
    funext j
    by_cases hj : j = i.toNat
    · subst hj
      simp [va_up, hil]
    · simp [va_up, hj, List.getElem?_set_ne (Ne.symm hj)]
  have hlen : sh'.length = h.1.length := by rw [← hsh]; simp
  have hsl : slS sh' = slS h.1 := by
    rw [← hsh]
    unfold slS
    rw [List.map_set]
    have : h.1.map slC = (h.1.map slC).set q (slC (.inr (.inr (rs.set i.toNat (some r))))) := by
      refine (List.ext_getElem? fun i => ?_)
      by_cases hi : i = q
      · subst hi
        rw [List.getElem?_set_self (by simpa using hql), List.getElem?_map, hc]
        simp [slC]
      · rw [List.getElem?_set_ne (Ne.symm hi)]
    rw [← this]
  refine va_astq s1 s2 s11 y1 y2 y3 q 3 r qc he rfl he2 hq (ofI_in h0 (by omega) hn) hd (fun H1 locs1 g1 g2 g3 => ?_)
  rw [ofI_cl ⟨by omega, by omega⟩] at g1 g2
  rw [← ecn] at g1 g2
  exact k l p e R s m args below meth c H1 locs1 cells slots A dC dI dA ad ad0 ls n0 m0 QQ hs hf ⟨g1, g2, g3, by show cells + n0 = sh'.length; rw [hlen]; exact y4, by show slots + m0 = slS sh'; rw [hsl]; exact y5, y6, y7, fun z hz => y8 z (by have hz2 : z < n0 ∨ sh'.length ≤ z := hz; rw [hlen] at hz2; exact hz2)⟩
theorem aw_alen {q t n : Nat} (hd : decode M.2.1 pc = .ok (.arraylength, 1)) (hc : h.1[q]? = some (.inr (.inl (t, n)))) (ht : t < 3)
    (k : AW M E (pc + 1) L (.inl (n : Int) :: S) h Q) : AW M E pc L (.inr q :: S) h Q := by
  intro l p e R s m args below meth c H locs cells slots A dC dI dA ad ad0 ls n0 m0 QQ hs hf hy
  obtain ⟨s1, s2, s3, s4, s5, s6, s7, s8, s9, s10, s11, s12, s13, s14, s15, s16⟩ := id hs
  obtain ⟨y1, y2, y3, y4, y5, y6, y7, y8⟩ := id hy
  have he := con_get (dA := dA) (ad := ad) hc
  simp only [ce] at he
  have hk := k l p e R s m args below meth c H locs cells slots A dC dI dA ad ad0 ls n0 m0 QQ hs hf hy
  rcases (by omega : t = 0 ∨ t = 1 ∨ t = 2) with rfl | rfl | rfl
  · exact va_alen (ty := .int) s1 s2 s11 y1 q 0 he rfl rfl hd hk
  · exact va_alen (ty := .boolean) s1 s2 s11 y1 q 1 he rfl rfl hd hk
  · exact va_alen (ty := .char) s1 s2 s11 y1 q 2 he rfl rfl hd hk
theorem aw_sld {i : Int} (hd : decode M.2.1 pc = .ok (.iaload, 1)) (h0 : 0 ≤ i) (h1 : i < E.1.1) (hn : E.1.1 < 2147483648)
    (k : AW M E (pc + 1) L (.inl (E.1.2 i.toNat).toInt :: S) h Q) : AW M E pc L (.inl i :: .inr 1000 :: S) h Q := by
  intro l p e R s m args below meth c H locs cells slots A dC dI dA ad ad0 ls n0 m0 QQ hs hf hy
  obtain ⟨s1, s2, s3, s4, s5, s6, s7, s8, s9, s10, s11, s12, s13, s14, s15, s16⟩ := id hs
  obtain ⟨y1, y2, y3, y4, y5, y6, y7, y8⟩ := id hy
  refine va_sld s1 s2 y7.1.1 y7.1.2.1 y7.1.2.2 y3 (ofI_in h0 h1 hn) hd ?_
  have hk := k l p e R s m args below meth c H locs cells slots A dC dI dA ad ad0 ls n0 m0 QQ hs hf hy
  simp only [List.map_cons, cv, Int32.ofInt_toInt] at hk
  rw [ofI_cl ⟨by omega, by omega⟩]
  exact hk
theorem aw_slen (hd : decode M.2.1 pc = .ok (.arraylength, 1))
    (k : AW M E (pc + 1) L (.inl (E.1.1 : Int) :: S) h Q) : AW M E pc L (.inr 1000 :: S) h Q := by
  intro l p e R s m args below meth c H locs cells slots A dC dI dA ad ad0 ls n0 m0 QQ hs hf hy
  obtain ⟨s1, s2, s3, s4, s5, s6, s7, s8, s9, s10, s11, s12, s13, s14, s15, s16⟩ := id hs
  obtain ⟨y1, y2, y3, y4, y5, y6, y7, y8⟩ := id hy
  exact va_slen s1 s2 y7.1.1 y7.1.2.1 y7.1.2.2 y3 hd (k l p e R s m args below meth c H locs cells slots A dC dI dA ad ad0 ls n0 m0 QQ hs hf hy)
theorem aw_sld1001 {i : Int} (hd : decode M.2.1 pc = .ok (.iaload, 1)) (h0 : 0 ≤ i) (h1 : i < 3)
    (k : AW M E (pc + 1) L (.inl (sLeast i.toNat).toInt :: S) h Q) : AW M E pc L (.inl i :: .inr 1001 :: S) h Q := by
  intro l p e R s m args below meth c H locs cells slots A dC dI dA ad ad0 ls n0 m0 QQ hs hf hy
  obtain ⟨s1, s2, s3, s4, s5, s6, s7, s8, s9, s10, s11, s12, s13, s14, s15, s16⟩ := id hs
  obtain ⟨y1, y2, y3, y4, y5, y6, y7, y8⟩ := id hy
  refine va_sld s1 s2 y7.2.1.1 y7.2.1.2.1 y7.2.1.2.2 y3 (ofI_in h0 h1 (by omega)) hd ?_
  have hk := k l p e R s m args below meth c H locs cells slots A dC dI dA ad ad0 ls n0 m0 QQ hs hf hy
  simp only [List.map_cons, cv, Int32.ofInt_toInt] at hk
  rw [ofI_cl ⟨by omega, by omega⟩]
  exact hk
theorem aw_gets1001 {idx : Nat} (hd : decode M.2.1 pc = .ok (.getstatic idx, 3)) (hw : Cond.fieldLink M.1.cls idx RX8 "LEAST_SETTING" "[I" ∈ GW)
    (k : AW M E (pc + 3) L (.inr 1001 :: S) h Q) : AW M E pc L S h Q := by
  intro l p e R s m args below meth c H locs cells slots A dC dI dA ad ad0 ls n0 m0 QQ hs hf hy
  obtain ⟨s1, s2, s3, s4, s5, s6, s7, s8, s9, s10, s11, s12, s13, s14, s15, s16⟩ := id hs
  obtain ⟨y1, y2, y3, y4, y5, y6, y7, y8⟩ := id hy
  exact va_gets s1 s2 y7.2.2.2.1 y3 s5 (s6 _ hw) (fun x hx => hx) hd (k l p e R s m args below meth c H locs cells slots A dC dI dA ad ad0 ls n0 m0 QQ hs hf hy)
theorem aw_sld1002 {i : Int} (hd : decode M.2.1 pc = .ok (.iaload, 1)) (h0 : 0 ≤ i) (h1 : i < 3)
    (k : AW M E (pc + 1) L (.inl (sGreat i.toNat).toInt :: S) h Q) : AW M E pc L (.inl i :: .inr 1002 :: S) h Q := by
  intro l p e R s m args below meth c H locs cells slots A dC dI dA ad ad0 ls n0 m0 QQ hs hf hy
  obtain ⟨s1, s2, s3, s4, s5, s6, s7, s8, s9, s10, s11, s12, s13, s14, s15, s16⟩ := id hs
  obtain ⟨y1, y2, y3, y4, y5, y6, y7, y8⟩ := id hy
  refine va_sld s1 s2 y7.2.2.1.1 y7.2.2.1.2.1 y7.2.2.1.2.2 y3 (ofI_in h0 h1 (by omega)) hd ?_
  have hk := k l p e R s m args below meth c H locs cells slots A dC dI dA ad ad0 ls n0 m0 QQ hs hf hy
  simp only [List.map_cons, cv, Int32.ofInt_toInt] at hk
  rw [ofI_cl ⟨by omega, by omega⟩]
  exact hk
theorem aw_gets1002 {idx : Nat} (hd : decode M.2.1 pc = .ok (.getstatic idx, 3)) (hw : Cond.fieldLink M.1.cls idx RX8 "GREATEST_SETTING" "[I" ∈ GW)
    (k : AW M E (pc + 3) L (.inr 1002 :: S) h Q) : AW M E pc L S h Q := by
  intro l p e R s m args below meth c H locs cells slots A dC dI dA ad ad0 ls n0 m0 QQ hs hf hy
  obtain ⟨s1, s2, s3, s4, s5, s6, s7, s8, s9, s10, s11, s12, s13, s14, s15, s16⟩ := id hs
  obtain ⟨y1, y2, y3, y4, y5, y6, y7, y8⟩ := id hy
  exact va_gets s1 s2 y7.2.2.2.2 y3 s5 (s6 _ hw) (fun x hx => hx) hd (k l p e R s m args below meth c H locs cells slots A dC dI dA ad ad0 ls n0 m0 QQ hs hf hy)
def am_new (m : AM) (n : Nat) : AM := fun k j => if k = n then 0 else m k j
def rfS : List AV → List Nat
  | [] => []
  | .inl _ :: S => rfS S
  | .inr k :: S => k :: rfS S
def rfL : List (Option AV) → List Nat
  | [] => []
  | some (.inr k) :: S => k :: rfL S
  | _ :: S => rfL S
def rfF : List ShF → List Nat
  | [] => []
  | some (some k) :: S => k :: rfF S
  | _ :: S => rfF S
def rfO : List (Option Nat) → List Nat
  | [] => []
  | some k :: S => k :: rfO S
  | none :: S => rfO S
def rfC : ShC → List Nat
  | .inl (_, fs) => rfF fs
  | .inr (.inl _) => []
  | .inr (.inr rs) => rfO rs
def rfH : List ShC → List Nat
  | [] => []
  | c :: sh => rfC c ++ rfH sh
theorem rfS_mem {S : List AV} {k : Nat} (hk : .inr k ∈ S) : k ∈ rfS S := by
  induction S with
  | nil => cases hk
  | cons v S ih =>
    rcases List.mem_cons.mp hk with e | hk2
    · subst e; exact List.mem_cons_self
    · cases v with
      | inl x => exact ih hk2
      | inr z => exact List.mem_cons_of_mem _ (ih hk2)
theorem rfL_mem {S : List (Option AV)} {k : Nat} (hk : some (.inr k) ∈ S) : k ∈ rfL S := by
  induction S with
  | nil => cases hk
  | cons v S ih =>
    rcases List.mem_cons.mp hk with e | hk2
    · subst e; exact List.mem_cons_self
    · rcases v with _ | x | z
      · exact ih hk2
      · exact ih hk2
      · exact List.mem_cons_of_mem _ (ih hk2)
theorem rfF_mem {S : List ShF} {k : Nat} (hk : some (some k) ∈ S) : k ∈ rfF S := by
  induction S with
  | nil => cases hk
  | cons v S ih =>
    rcases List.mem_cons.mp hk with e | hk2
    · subst e; exact List.mem_cons_self
    · rcases v with _ | _ | z
      · exact ih hk2
      · exact ih hk2
      · exact List.mem_cons_of_mem _ (ih hk2)
theorem rfO_mem {S : List (Option Nat)} {k : Nat} (hk : some k ∈ S) : k ∈ rfO S := by
  induction S with
  | nil => cases hk
  | cons v S ih =>
    rcases List.mem_cons.mp hk with e | hk2
    · subst e; exact List.mem_cons_self
    · cases v with
      | none => exact ih hk2
      | some z => exact List.mem_cons_of_mem _ (ih hk2)
theorem rfH_mem {sh : List ShC} {c : ShC} {k : Nat} (hc : c ∈ sh) (hk : k ∈ rfC c) : k ∈ rfH sh := by
  induction sh with
  | nil => cases hc
  | cons v sh ih =>
    rcases List.mem_cons.mp hc with e | hc2
    · subst e; exact List.mem_append_left _ hk
    · exact List.mem_append_right _ (ih hc2)
theorem ce_ad {dA : Nat → ClassId} {ad ad' : Nat → Nat} {m m' : AM} {k : Nat} {c : ShC} (ha : ∀ r ∈ rfC c, ad' r = ad r) (hm : ∀ j : Int, m' k j = m k j) : ce dA ad' m' k c = ce dA ad m k c := by
  rcases c with ⟨ci, fs⟩ | ⟨t, n⟩ | rs
  · simp only [ce]
    congr 2
    refine (List.ext_getElem? fun i => ?_)
    rw [List.getElem?_mapIdx, List.getElem?_mapIdx]
    cases hf : fs[i]? with
    | none => rfl
    | some f =>
      rcases f with _ | _ | r
      · simp [cfl, hm]
      · rfl
      · simp only [Option.map_some, cfl]
        rw [ha r (rfF_mem (List.mem_of_getElem? hf))]
  · simp only [ce, hm]
  · simp only [ce]
    congr 7
    funext j
    cases hj : rs[j]? with
    | none => simp [List.getD_eq_getElem?_getD, hj]
    | some o =>
      cases o with
      | none => simp [List.getD_eq_getElem?_getD, hj]
      | some r =>
        simp only [List.getD_eq_getElem?_getD, hj, Option.getD_some, Option.map_some]
        rw [ha r (rfO_mem (List.mem_of_getElem? hj))]
theorem con_push {dA : Nat → ClassId} {ad : Nat → Nat} {h : HP} {q : Nat} {c : ShC} {x : va_E} (hfr : (rfH (h.1 ++ [c])).all (fun r => r != h.1.length) = true) (hx : ce dA (fun k => if k = h.1.length then q else ad k) (am_new h.2 h.1.length) h.1.length c = x) : con dA (fun k => if k = h.1.length then q else ad k) (h.1 ++ [c], am_new h.2 h.1.length) = con dA ad h ++ [(q, x)] := by
  refine (List.ext_getElem? fun i => ?_)
  rcases Nat.lt_trichotomy i h.1.length with hi | hi | hi
  · rw [List.getElem?_append_left (by rw [con_len]; exact hi)]
    simp only [con, List.getElem?_mapIdx]
    rw [List.getElem?_append_left hi]
    have hg : h.1[i]? = some h.1[i] := List.getElem?_eq_getElem hi
    rw [hg]
    simp only [Option.map_some]
    have hne : ¬ i = h.1.length := by omega
    rw [if_neg hne]
    congr 2
    refine ce_ad (fun r hr => ?_) (fun j => ?_)
    · have h1 := List.all_eq_true.mp hfr r (rfH_mem (List.mem_append_left _ (List.mem_of_getElem? hg)) hr)
      have h2 : r ≠ h.1.length := by simpa using h1
      exact if_neg h2
    · exact if_neg hne
  · subst hi
    rw [List.getElem?_append_right (by rw [con_len]; exact Nat.le_refl _), con_len, Nat.sub_self]
    simp only [con, List.getElem?_mapIdx]
    rw [List.getElem?_append_right (Nat.le_refl _), Nat.sub_self]
    simp only [List.getElem?_cons_zero, Option.map_some, if_true]
    rw [hx]
  · have e1 : (con dA (fun k => if k = h.1.length then q else ad k) (h.1 ++ [c], am_new h.2 h.1.length)).length ≤ i := by rw [con_len]; simp; omega
    have e2 : (con dA ad h ++ [(q, x)]).length ≤ i := by rw [List.length_append, con_len]; simp; omega
    rw [List.getElem?_eq_none e1, List.getElem?_eq_none e2]
def aFresh (n : Nat) (sh : List ShC) (L : List (Option AV)) (S : List AV) : Bool := (rfH sh).all (fun r => r != n) && (rfL L).all (fun r => r != n) && (rfS S).all (fun r => r != n)
theorem slS_push (sh : List ShC) (c : ShC) : slS (sh ++ [c]) = slS sh + slC c := by simp [slS]
theorem aRO_congr {X : AX} {ad ad' : Nat → Nat} {A : Nat → Prop} {U : State} (h0 : ad' 1000 = ad 1000) (h1 : ad' 1001 = ad 1001) (h2 : ad' 1002 = ad 1002) (hR : aRO X ad A U) : aRO X ad' A U := by
  unfold aRO
  rw [h0, h1, h2]
  exact hR
/-- a cell is made: the words behind it -/
theorem aDy_push {s : State} {H H1 : Heap} {locs : List Loc} {cells slots : Nat} {A : Nat → Prop} {dC : Nat → ClassId} {dI : Nat → Nat → Nat} {dA : Nat → ClassId} {ad ad0 : Nat → Nat} {ls : Array Slot} {n0 m0 q : Nat} {c : ShC} {x : va_E} {sl : Nat}
    (hy : aDy M E s H locs cells slots A dC dI dA ad ad0 ls n0 m0 L h) (hn : n0 ≤ h.1.length) (hlt : h.1.length < 1000) (hfr : aFresh h.1.length (h.1 ++ [c]) L S = true) (hx : ce dA (fun k => if k = h.1.length then q else ad k) (am_new h.2 h.1.length) h.1.length c = x) (hsl : slC c = sl)
    (g1 : va_P (dC, dI) vwCl (con dA ad h ++ [(q, x)]) H1) (g2 : va_D A (con dA ad h ++ [(q, x)])) (g3 : va_S A s.heap H1 locs) :
    aDy M E s H1 locs (cells + 1) (slots + sl) A dC dI dA (fun k => if k = h.1.length then q else ad k) ad0 ls n0 m0 L (h.1 ++ [c], am_new h.2 h.1.length) ∧ S.map (cv (fun k => if k = h.1.length then q else ad k)) = S.map (cv ad) := by
  obtain ⟨y1, y2, y3, y4, y5, y6, y7, y8⟩ := hy
  simp only [aFresh, Bool.and_eq_true] at hfr
  obtain ⟨⟨f1, f2⟩, f3⟩ := hfr
  rw [← con_push f1 hx] at g1 g2
  refine ⟨⟨g1, g2, g3, ?_, ?_, ?_, ?_, ?_⟩, ?_⟩
  · simp only [List.length_append, List.length_cons, List.length_nil]; omega
  · show _ = slS (h.1 ++ [c])
    rw [slS_push]; omega
  · refine y6.agree (fun i k hk => ?_)
    have h1 := List.all_eq_true.mp f2 k (rfL_mem (List.mem_of_getElem? hk))
    have h2 : k ≠ h.1.length := by simpa using h1
    exact if_neg h2
  · exact aRO_congr (if_neg (by omega)) (if_neg (by omega)) (if_neg (by omega)) y7
  · intro k hk
    have hk2 : k < n0 ∨ h.1.length + 1 ≤ k := by simpa using hk
    have hne : ¬ k = h.1.length := by omega
    exact (if_neg hne).trans (y8 k (by omega))
  · refine List.map_congr_left (fun v hv => ?_)
    cases v with
    | inl z => rfl
    | inr k =>
      have h1 := List.all_eq_true.mp f3 k (rfS_mem hv)
      have h2 : k ≠ h.1.length := by simpa using h1
      simp only [cv]
      rw [if_neg h2]
theorem aw_new {idx ci N : Nat} {C : String} {T : u_T} {ty : Nat → FieldType} {fs : List ShF} (hd : decode M.2.1 pc = .ok (.new idx, 3)) (hk : aCl ci C T N ty) (hl : Cond.classLink M.1.cls idx C ∈ GW) (hi : Cond.instantiable C N ∈ GW) (hini : Cond.initialized C ∈ GW)
    (hN : fs.length = N) (hfs : ∀ j, j < N → defaultValue (ty j) = vp_V (fs.map (fun f => match f with | none => .int 0 | some _ => .null)) j) (hnn : ∀ f ∈ fs, f = none ∨ f = some none) (hlt : h.1.length < 1000) (hfr : aFresh h.1.length (h.1 ++ [.inl (ci, fs)]) L S = true) (hc1 : h.1.length + 1 ≤ E.2.2.2.1) (hc2 : slS h.1 + N ≤ E.2.2.2.2)
    (k : AW M E (pc + 3) L (.inr h.1.length :: S) (h.1 ++ [.inl (ci, fs)], am_new h.2 h.1.length) Q) : AW M E pc L S h Q := by
  intro l p e R s m args below meth c H locs cells slots A dC dI dA ad ad0 ls n0 m0 QQ hs hf hy
  obtain ⟨s1, s2, s3, s4, s5, s6, s7, s8, s9, s10, s11, s12, s13, s14, s15, s16⟩ := id hs
  obtain ⟨y1, y2, y3, y4, y5, y6, y7, y8⟩ := id hy
  refine va_new (Ts := GW) s1 s2 s6 hk.2.1 ty hk.2.2.1 s5 (s6 _ hl) (s6 _ hi) (s6 _ hini) s11 y1 y2 y3 s12 hk.1 hfs (by omega) (by omega) hd (fun q H1 g1 g2 g3 => ?_)
  have hx : ce dA (fun k => if k = h.1.length then q else ad k) (am_new h.2 h.1.length) h.1.length (.inl (ci, fs)) = .inr (ci, fs.map (fun f => match f with | none => .int 0 | some _ => .null)) := by
    simp only [ce]
    congr 2
    refine (List.ext_getElem? fun i => ?_)
    rw [List.getElem?_mapIdx, List.getElem?_map]
    cases hf : fs[i]? with
    | none => rfl
    | some f =>
      rcases hnn f (List.mem_of_getElem? hf) with rfl | rfl
      · simp [cfl, am_new]
      · rfl
  obtain ⟨d1, d2⟩ := aDy_push (S := S) (q := q) hy (by omega) hlt hfr hx (sl := N) (by simp [slC, hN]) g1 g2 g3
  have hkk := k l p e R s m args below meth c H1 locs (cells + 1) (slots + N) A dC dI dA (fun k => if k = h.1.length then q else ad k) ad0 ls n0 m0 QQ hs hf d1
  rw [List.map_cons, d2] at hkk
  simp only [cv, if_true] at hkk
  exact hkk
theorem aw_newarr {atype : ArrayType} {t : Nat} {n : Int} {N : Nat} {ty : FieldType} (hd : decode M.2.1 pc = .ok (.newarray atype, 2)) (hl : Cond.arrayClass ty ∈ GW) (ht : (atype = .int ∧ t = 0 ∧ ty = .int) ∨ (atype = .boolean ∧ t = 1 ∧ ty = .boolean) ∨ (atype = .char ∧ t = 2 ∧ ty = .char)) (hN : n = (N : Int)) (hs5 : N ≤ 100000) (hlt : h.1.length < 1000) (hfr : aFresh h.1.length (h.1 ++ [.inr (.inl (t, N))]) L S = true) (hc1 : h.1.length + 1 ≤ E.2.2.2.1) (hc2 : slS h.1 + N ≤ E.2.2.2.2)
    (k : AW M E (pc + 2) L (.inr h.1.length :: S) (h.1 ++ [.inr (.inl (t, N))], am_new h.2 h.1.length) Q) : AW M E pc L (.inl n :: S) h Q := by
  intro l p e R s m args below meth c H locs cells slots A dC dI dA ad ad0 ls n0 m0 QQ hs hf hy
  obtain ⟨s1, s2, s3, s4, s5, s6, s7, s8, s9, s10, s11, s12, s13, s14, s15, s16⟩ := id hs
  obtain ⟨y1, y2, y3, y4, y5, y6, y7, y8⟩ := id hy
  subst hN
  have hr : rng (N : Int) := ⟨by omega, by omega⟩
  have hneg : ¬ Int32.ofInt (N : Int) < 0 := fun z => by
    have := (ofI_lt hr (⟨by omega, by omega⟩ : rng 0)).mp z
    omega
  have hcl : (Int32.ofInt (N : Int)).toNatClampNeg = N := by rw [ofI_cl hr]; simp
  have fin : ∀ (t0 : Nat) (q : Nat) (cA : ClassId) (H1 : Heap) (_ : t0 < 3) (_ : cA = dA t0) (k : AW M E (pc + 2) L (.inr h.1.length :: S) (h.1 ++ [.inr (.inl (t0, N))], am_new h.2 h.1.length) Q) (_ : aFresh h.1.length (h.1 ++ [.inr (.inl (t0, N))]) L S = true) (g1 : va_P (dC, dI) vwCl (con dA ad h ++ [(q, .inl (cA, N, .inl (fun _ => 0)))]) H1) (g2 : va_D A (con dA ad h ++ [(q, .inl (cA, N, .inl (fun _ => 0)))])) (g3 : va_S A s.heap H1 locs), W p l e R s m args below meth c H1 locs (cells + 1) (slots + N) QQ (F0 m (pc + 2) ls (.ref q :: S.map (cv ad))) := by
    intro t0 q cA H1 ht0 hcA k hfr g1 g2 g3
    subst hcA
    have hx : ce dA (fun k => if k = h.1.length then q else ad k) (am_new h.2 h.1.length) h.1.length (.inr (.inl (t0, N))) = .inl (dA t0, N, .inl (fun _ => 0)) := by
      simp only [ce, am_new, if_true]
      rfl
    obtain ⟨d1, d2⟩ := aDy_push (S := S) (q := q) hy (by omega) hlt hfr hx (sl := N) rfl g1 g2 g3
    have hkk := k l p e R s m args below meth c H1 locs (cells + 1) (slots + N) A dC dI dA (fun k => if k = h.1.length then q else ad k) ad0 ls n0 m0 QQ hs hf d1
    rw [List.map_cons, d2] at hkk
    simp only [cv, if_true] at hkk
    exact hkk
  have hnm : ∀ (tt : Nat) (cA : ClassId) (ty0 : FieldType), va_K (dC, dI) vwCl (tysA dA ++ [(cA, ty0)]) s → (tysA dA)[tt]? = some (dA tt, ty0) → (∀ C, ty0 ≠ .object C) → cA = dA tt := by
    intro tt cA ty0 hK2 htt hno
    have a1 := (hK2.2 4 (cA, ty0) rfl).2
    have a2 := (s11.2 tt _ htt).2
    unfold va_RA at a1 a2
    cases ty0 with
    | object C => exact absurd rfl (hno C)
    | _ => exact Option.some.inj (a1.symm.trans a2)
  rcases ht with ⟨rfl, rfl, rfl⟩ | ⟨rfl, rfl, rfl⟩ | ⟨rfl, rfl, rfl⟩
  · exact va_newa (atype := .int) (ty := .int) (N' := N) (a0 := (N, .inl (fun _ => 0))) s1 s2 (s6 _ hl) rfl s11 y1 y2 y3 s12 (fun cA => by rw [vp_cell_i]; rfl) hneg hcl (by show N * 4 ≤ _; omega) (by omega) (by omega) hd (fun q cA H1 g0 g1 g2 g3 => fin 0 q cA H1 (by omega) (hnm 0 cA _ g0 rfl (fun C z => by cases z)) k hfr g1 g2 g3)
  · exact va_newa (atype := .boolean) (ty := .boolean) (N' := N) (a0 := (N, .inl (fun _ => 0))) s1 s2 (s6 _ hl) rfl s11 y1 y2 y3 s12 (fun cA => by rw [vp_cell_i]; rfl) hneg hcl (by show N * 1 ≤ _; omega) (by omega) (by omega) hd (fun q cA H1 g0 g1 g2 g3 => fin 1 q cA H1 (by omega) (hnm 1 cA _ g0 rfl (fun C z => by cases z)) k hfr g1 g2 g3)
  · exact va_newa (atype := .char) (ty := .char) (N' := N) (a0 := (N, .inl (fun _ => 0))) s1 s2 (s6 _ hl) rfl s11 y1 y2 y3 s12 (fun cA => by rw [vp_cell_i]; rfl) hneg hcl (by show N * 2 ≤ _; omega) (by omega) (by omega) hd (fun q cA H1 g0 g1 g2 g3 => fin 2 q cA H1 (by omega) (hnm 2 cA _ g0 rfl (fun C z => by cases z)) k hfr g1 g2 g3)
theorem aw_anew {idx : Nat} {n : Int} {N : Nat} (hd : decode M.2.1 pc = .ok (.anewarray idx, 3)) (hl : Cond.classLink M.1.cls idx RX0 ∈ GW) (hN : n = (N : Int)) (hs5 : N ≤ 100000) (hlt : h.1.length < 1000) (hfr : aFresh h.1.length (h.1 ++ [.inr (.inr (List.replicate N none))]) L S = true) (hc1 : h.1.length + 1 ≤ E.2.2.2.1) (hc2 : slS h.1 + N ≤ E.2.2.2.2)
    (k : AW M E (pc + 3) L (.inr h.1.length :: S) (h.1 ++ [.inr (.inr (List.replicate N none))], am_new h.2 h.1.length) Q) : AW M E pc L (.inl n :: S) h Q := by
  intro l p e R s m args below meth c H locs cells slots A dC dI dA ad ad0 ls n0 m0 QQ hs hf hy
  obtain ⟨s1, s2, s3, s4, s5, s6, s7, s8, s9, s10, s11, s12, s13, s14, s15, s16⟩ := id hs
  obtain ⟨y1, y2, y3, y4, y5, y6, y7, y8⟩ := id hy
  subst hN
  have hr : rng (N : Int) := ⟨by omega, by omega⟩
  have hneg : ¬ Int32.ofInt (N : Int) < 0 := fun z => by
    have := (ofI_lt hr (⟨by omega, by omega⟩ : rng 0)).mp z
    omega
  have hcl : (Int32.ofInt (N : Int)).toNatClampNeg = N := by rw [ofI_cl hr]; simp
  refine va_newq (C := RX0) (N' := N) s1 s2 s5 (s6 _ hl) s10 s11 y1 y2 y3 s12 hneg hcl (by omega) (by omega) (by omega) hd (fun q cA H1 g0 g1 g2 g3 => ?_)
  have hcA : cA = dA 3 := by
    obtain ⟨kA, comp, a1, a2, a3, a4⟩ := (g0.2 4 (cA, .object RX0) rfl).2
    obtain ⟨kB, comp2, b1, b2, b3, b4⟩ := (s11.2 3 (dA 3, .object RX0) rfl).2
    exact Option.some.inj (a4.symm.trans b4)
  subst hcA
  have hx : ce dA (fun k => if k = h.1.length then q else ad k) (am_new h.2 h.1.length) h.1.length (.inr (.inr (List.replicate N none))) = .inl (dA 3, N, .inr (.inr (.inr (.inr (fun _ => none))))) := by
    simp only [ce, List.length_replicate]
    congr 7
    funext j
    rw [List.getD_eq_getElem?_getD, List.getElem?_replicate]
    split <;> rfl
  obtain ⟨d1, d2⟩ := aDy_push (S := S) (q := q) hy (by omega) hlt hfr hx (sl := N) (by simp [slC]) g1 g2 g3
  have hkk := k l p e R s m args below meth c H1 locs (cells + 1) (slots + N) A dC dI dA (fun k => if k = h.1.length then q else ad k) ad0 ls n0 m0 QQ hs hf d1
  rw [List.map_cons, d2] at hkk
  simp only [cv, if_true] at hkk
  exact hkk
end HEAP
