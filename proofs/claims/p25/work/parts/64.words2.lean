theorem bp_13 : (Int8.ofInt 13).toInt32 = Int32.ofInt 13 := by decide +kernel
theorem bp_14 : (Int8.ofInt 14).toInt32 = Int32.ofInt 14 := by decide +kernel
theorem bp_15 : (Int8.ofInt 15).toInt32 = Int32.ofInt 15 := by decide +kernel
theorem bp_16 : (Int8.ofInt 16).toInt32 = Int32.ofInt 16 := by decide +kernel
theorem bp_17 : (Int8.ofInt 17).toInt32 = Int32.ofInt 17 := by decide +kernel
theorem bp_25 : (Int8.ofInt 25).toInt32 = Int32.ofInt 25 := by decide +kernel
theorem bp_72 : (Int8.ofInt 72).toInt32 = Int32.ofInt 72 := by decide +kernel
theorem bp_100 : (Int8.ofInt 100).toInt32 = Int32.ofInt 100 := by decide +kernel
theorem bp_101 : (Int8.ofInt 101).toInt32 = Int32.ofInt 101 := by decide +kernel
theorem bp_127 : (Int8.ofInt 127).toInt32 = Int32.ofInt 127 := by decide +kernel
theorem sp_191 : (Int16.ofInt 191).toInt32 = Int32.ofInt 191 := by decide +kernel
theorem sp_250 : (Int16.ofInt 250).toInt32 = Int32.ofInt 250 := by decide +kernel
theorem sp_301 : (Int16.ofInt 301).toInt32 = Int32.ofInt 301 := by decide +kernel
theorem sp_330 : (Int16.ofInt 330).toInt32 = Int32.ofInt 330 := by decide +kernel
theorem sp_401 : (Int16.ofInt 401).toInt32 = Int32.ofInt 401 := by decide +kernel
theorem sp_499 : (Int16.ofInt 499).toInt32 = Int32.ofInt 499 := by decide +kernel
theorem sp_560 : (Int16.ofInt 560).toInt32 = Int32.ofInt 560 := by decide +kernel
theorem sp_590 : (Int16.ofInt 590).toInt32 = Int32.ofInt 590 := by decide +kernel
theorem sp_599 : (Int16.ofInt 599).toInt32 = Int32.ofInt 599 := by decide +kernel
theorem sp_650 : (Int16.ofInt 650).toInt32 = Int32.ofInt 650 := by decide +kernel
theorem sp_700 : (Int16.ofInt 700).toInt32 = Int32.ofInt 700 := by decide +kernel
theorem sp_701 : (Int16.ofInt 701).toInt32 = Int32.ofInt 701 := by decide +kernel
theorem sp_750 : (Int16.ofInt 750).toInt32 = Int32.ofInt 750 := by decide +kernel
theorem sp_800 : (Int16.ofInt 800).toInt32 = Int32.ofInt 800 := by decide +kernel
theorem sp_1201 : (Int16.ofInt 1201).toInt32 = Int32.ofInt 1201 := by decide +kernel
theorem gwm2 (i : Nat) {w : Cond} (h : lw_tbl[i]? = some w) (hg : goodWord w = true) : w ∈ GW := List.mem_filter.mpr ⟨List.mem_of_getElem? h, hg⟩
set_option maxRecDepth 100000 in
theorem lc_7 : Cond.constant RL 7 (Int32.ofInt 916318735) ∈ GW := by
  rw [show Int32.ofInt 916318735 = (916318735 : Int32) by decide +kernel]
  exact gwm2 371 (by rfl) rfl
set_option maxRecDepth 100000 in
theorem lc_8 : Cond.constant RL 8 (Int32.ofInt 2147483647) ∈ GW := by
  rw [show Int32.ofInt 2147483647 = (2147483647 : Int32) by decide +kernel]
  exact gwm2 375 (by rfl) rfl
set_option maxRecDepth 100000 in
theorem lc_9 : Cond.constantLong RL 9 (137 : Int64) ∈ GW := gwm2 379 (by rfl) rfl
set_option maxRecDepth 100000 in
theorem lc_11 : Cond.constantLong RL 11 (31 : Int64) ∈ GW := gwm2 380 (by rfl) rfl
set_option maxRecDepth 100000 in
theorem lc_112 : Cond.constant RL 112 (Int32.ofInt 1000000) ∈ GW := by
  rw [show Int32.ofInt 1000000 = (1000000 : Int32) by decide +kernel]
  exact gwm2 653 (by rfl) rfl
set_option maxRecDepth 100000 in
theorem lc_113 : Cond.constant RL 113 (Int32.ofInt 99999) ∈ GW := by
  rw [show Int32.ofInt 99999 = (99999 : Int32) by decide +kernel]
  exact gwm2 654 (by rfl) rfl
theorem aw_idiv {M : MI} {E : AE} {pc : Nat} {L : List (Option AV)} {S : List AV} {h : HP} {Q : Option Int → HP → Prop} {x y : Int} (hd : decode M.2.1 pc = .ok (.idiv, 1)) (hr : rng y) (h0 : y ≠ 0)
    (k : AW M E (pc + 1) L (.inl (iDiv x y) :: S) h Q) : AW M E pc L (.inl y :: .inl x :: S) h Q := by
  intro l p e R s m args below meth c H locs cells slots A dC dI dA ad ad0 ls n0 m0 QQ hs hf hy
  refine lv_idiv hs.1 hs.2.1 hd (fun z => h0 ((ofI_eq hr (⟨by omega, by omega⟩ : rng 0)).mp z)) ?_
  have hk := k l p e R s m args below meth c H locs cells slots A dC dI dA ad ad0 ls n0 m0 QQ hs hf hy
  simp only [List.map_cons, cv, iDiv, Int32.ofInt_toInt] at hk
  exact hk
theorem aw_ldc {M : MI} {E : AE} {pc : Nat} {L : List (Option AV)} {S : List AV} {h : HP} {Q : Option Int → HP → Prop} {idx : Nat} {v : Int} (hd : decode M.2.1 pc = .ok (.ldc idx, 2)) (hw : Cond.constant M.1.cls idx (Int32.ofInt v) ∈ GW)
    (k : AW M E (pc + 2) L (.inl v :: S) h Q) : AW M E pc L S h Q := by
  intro l p e R s m args below meth c H locs cells slots A dC dI dA ad ad0 ls n0 m0 QQ hs hf hy
  exact lv_ldc hs.1 hs.2.1 hs.2.2.2.2.1 (hs.2.2.2.2.2.1 _ hw) hd (k l p e R s m args below meth c H locs cells slots A dC dI dA ad ad0 ls n0 m0 QQ hs hf hy)
theorem ap_idiv {K : Nat} {M : MI} {pc : Nat} {L : List (Option AV)} {S : List AV} {m : AM} {Q : Option Int → AM → Prop} {x y : Int} (hd : decode M.2.1 pc = .ok (.idiv, 1)) (hr : rng y) (h0 : y ≠ 0)
    (k : AP K M (pc + 1) L (.inl (iDiv x y) :: S) m Q) : AP K M pc L (.inl y :: .inl x :: S) m Q := fun X d r hk => aw_idiv hd hr h0 (k X d r hk)
theorem ap_ldc {K : Nat} {M : MI} {pc : Nat} {L : List (Option AV)} {S : List AV} {m : AM} {Q : Option Int → AM → Prop} {idx : Nat} {v : Int} (hd : decode M.2.1 pc = .ok (.ldc idx, 2)) (hw : Cond.constant M.1.cls idx (Int32.ofInt v) ∈ GW)
    (k : AP K M (pc + 2) L (.inl v :: S) m Q) : AP K M pc L S m Q := fun X d r hk => aw_ldc hd hw (k X d r hk)
theorem iRem_v {x y : Int} (hx : rng x) (hy : rng y) (h0 : 0 ≤ x) : iRem x y = x % y := by
  unfold iRem
  rw [irem_eq_mod, Int32.toInt_mod, ofI_toInt hx, ofI_toInt hy, Int.tmod_eq_emod_of_nonneg h0]
theorem iRem_rng {x y : Int} : rng (iRem x y) := rng_toInt _
theorem iDiv_rng {x y : Int} : rng (iDiv x y) := rng_toInt _
theorem iDiv_v {x y : Int} (hx : rng x) (hy : rng y) (h0 : 0 ≤ x) (h1 : 0 < y) : iDiv x y = x / y := by
  unfold iDiv
  have a := Int.ediv_le_self y h0
  have b := Int.ediv_nonneg h0 (Int.le_of_lt h1)
  have c := hx.2
  rw [Int32.toInt_div, ofI_toInt hx, ofI_toInt hy, Int.tdiv_eq_ediv_of_nonneg h0, Int.bmod_eq_of_le (by omega) (by omega)]
section LQ0
variable {K : Nat} {Z : ZB} {M : MI} {LL : List (Nat × Int64)} {LS : List Int64} {pc : Nat} {L : List (Option AV)} {S : List AV} {m : AM} {Q : Option Int → AM → Prop}
theorem jn0 {a : Nat} {m' m : AM} : am_jn a 0 m' m = m' := by
  funext q j
  unfold am_jn
  by_cases c : q < a
  · rw [if_pos c]
  · rw [if_neg c, if_neg (by omega)]; rfl
def zO (Z : ZB) : Prop := 100 ≤ Z.1.1 ∧ 5358 ≤ Z.1.2
theorem zO_ex {Z : ZB} (h : zO Z) : exO Z [] := ⟨fun c hc => (by cases hc), Nat.zero_le _, h.1, h.2⟩
theorem lq_invV {idx ci n q K' : Nat} {M' : MI} {av rest : List AV} {fs : List ShF} {Q' : Option Int → AM → Prop} (hd : decode M.2.1 pc = .ok (.invokevirtual idx, 3)) (hb : aMV M.1.cls idx M' ci n) (hc : SH[q]? = some (.inl (ci, fs))) (hM : CS K' M' (.inr q :: av) m Q') (hS : S = av.reverse ++ .inr q :: rest) (hn : av.length = n) (hrest : rest.length + 2 * LS.length ≤ 8) (hK : K' + 1 ≤ K) (hml : M'.2.2.1 ≤ 17) (hO : zO Z)
    (kk : ∀ v m', Q' v m' → LQ K Z M LL LS [] (pc + 3) L (v.toList.map .inl ++ rest) m' Q) : LQ K Z M LL LS [] pc L S m Q := fun d r hk => by
  obtain ⟨r1, r2, r3⟩ := rk_call hk hK hml
  have hl : (SH ++ ([] : List ShC)).length = 100 := by rw [List.append_nil, SH_len]
  have hs : slS (SH ++ ([] : List ShC)) = 5358 := by rw [List.append_nil, SH_sl]
  refine al_invV hd hb (sh_ex hc) hS hn hrest (lp_frame (zO_ex hO) (hM Z.2.1 _ _ r1)) r2 r3 (by show (SH ++ ([] : List ShC)).length + 0 ≤ 1000; omega) (aKeep0 _ _ _) (by show (SH ++ ([] : List ShC)).length + 0 ≤ _; rw [hl]; exact hO.1) (by show slS (SH ++ ([] : List ShC)) + 0 ≤ _; rw [hs]; exact hO.2) (fun v h' hq _ _ => ?_)
  obtain ⟨m', q1, rfl⟩ := hq
  rw [show ([] : List ShC).length = 0 from rfl, jn0]
  exact kk v m' q1 d r hk
theorem lq_invS {idx n K' : Nat} {M' : MI} {av rest : List AV} {Q' : Option Int → AM → Prop} (hd : decode M.2.1 pc = .ok (.invokestatic idx, 3)) (hb : aMS M.1.cls idx M' n) (hM : CS K' M' av m Q') (hS : S = av.reverse ++ rest) (hn : av.length = n) (hrest : rest.length + 2 * LS.length ≤ 8) (hK : K' + 2 ≤ K) (hml : M'.2.2.1 ≤ 40) (hO : zO Z)
    (kk : ∀ v m', Q' v m' → LQ K Z M LL LS [] (pc + 3) L (v.toList.map .inl ++ rest) m' Q) : LQ K Z M LL LS [] pc L S m Q := fun d r hk => by
  obtain ⟨r1, r2, r3⟩ := rk_call2 hk hK hml
  have hl : (SH ++ ([] : List ShC)).length = 100 := by rw [List.append_nil, SH_len]
  have hs : slS (SH ++ ([] : List ShC)) = 5358 := by rw [List.append_nil, SH_sl]
  refine al_invS hd hb hS hn hrest (lp_frame (zO_ex hO) (hM Z.2.1 _ _ r1)) r2 r3 (by show (SH ++ ([] : List ShC)).length + 0 ≤ 1000; omega) (aKeep0 _ _ _) (by show (SH ++ ([] : List ShC)).length + 0 ≤ _; rw [hl]; exact hO.1) (by show slS (SH ++ ([] : List ShC)) + 0 ≤ _; rw [hs]; exact hO.2) (fun v h' hq _ _ => ?_)
  obtain ⟨m', q1, rfl⟩ := hq
  rw [show ([] : List ShC).length = 0 from rfl, jn0]
  exact kk v m' q1 d r hk
theorem lq_invSL {idx n K' : Nat} {M' : MI} {av : List AV} {Q' : Int64 → AM → Prop} (hd : decode M.2.1 pc = .ok (.invokestatic idx, 3)) (hb : aMS M.1.cls idx M' n) (hM : CL K' M' av m Q') (hS : S = av.reverse) (hn : av.length = n) (hrest : 2 * LS.length ≤ 8) (hK : K' + 2 ≤ K) (hml : M'.2.2.1 ≤ 40) (hO : zO Z)
    (kk : ∀ v m', Q' v m' → LQ K Z M LL (v :: LS) [] (pc + 3) L [] m' Q) : LQ K Z M LL LS [] pc L S m Q := fun d r hk => by
  obtain ⟨r1, r2, r3⟩ := rk_call2 hk hK hml
  have hl : (SH ++ ([] : List ShC)).length = 100 := by rw [List.append_nil, SH_len]
  have hs : slS (SH ++ ([] : List ShC)) = 5358 := by rw [List.append_nil, SH_sl]
  have hM2 := acl_frame (nw := []) (ex := []) (hM Z.2.1 _ _ r1) (fun v h' q => by rw [q.1, List.append_nil]) SH_cl (fun c hc => by cases hc) (fun c hc => by cases hc) (by rw [SH_len]; decide)
  refine al_invSL hd hb hS hn hrest hM2 r2 r3 (by show (SH ++ ([] : List ShC)).length + 0 ≤ 1000; omega) (aKeep0 _ _ _) (by show (SH ++ ([] : List ShC)).length + 0 ≤ _; rw [hl]; exact hO.1) (by show slS (SH ++ ([] : List ShC)) + 0 ≤ _; rw [hs]; exact hO.2) (fun v h' hq _ _ => ?_)
  obtain ⟨m', q1, rfl⟩ := hq
  rw [show ([] : List ShC).length = 0 from rfl, jn0, List.append_nil]
  exact kk v m' q1.2 d r hk
theorem lp_ild_13 {ex : List ShC} {a0 a1 a2 a3 a4 a5 a6 a7 a8 a9 a10 a11 a12 : Option AV} {R : List (Option AV)} {x : Int} (hd : decode M.2.1 pc = .ok (.iload 13, 2))
    (k : LQ K Z M LL LS ex (pc + 2) (a0 :: a1 :: a2 :: a3 :: a4 :: a5 :: a6 :: a7 :: a8 :: a9 :: a10 :: a11 :: a12 :: some (.inl x) :: R) (.inl x :: S) m Q) : LQ K Z M LL LS ex pc (a0 :: a1 :: a2 :: a3 :: a4 :: a5 :: a6 :: a7 :: a8 :: a9 :: a10 :: a11 :: a12 :: some (.inl x) :: R) S m Q := fun d r hk => al_ild hd rfl (k d r hk)
theorem lp_ist_13 {ex : List ShC} {a0 a1 a2 a3 a4 a5 a6 a7 a8 a9 a10 a11 a12 : Option AV} {R : List (Option AV)} {o : Option AV} {x : Int} (hd : decode M.2.1 pc = .ok (.istore 13, 2)) (hn : 13 < M.2.2.1) (hlk : lkO LL 13)
    (k : LQ K Z M LL LS ex (pc + 2) (a0 :: a1 :: a2 :: a3 :: a4 :: a5 :: a6 :: a7 :: a8 :: a9 :: a10 :: a11 :: a12 :: some (.inl x) :: R) S m Q) : LQ K Z M LL LS ex pc (a0 :: a1 :: a2 :: a3 :: a4 :: a5 :: a6 :: a7 :: a8 :: a9 :: a10 :: a11 :: a12 :: o :: R) (.inl x :: S) m Q := fun d r hk => al_ist hd hn rfl hlk (k d r hk)
theorem lp_ald_13 {ex : List ShC} {a0 a1 a2 a3 a4 a5 a6 a7 a8 a9 a10 a11 a12 : Option AV} {R : List (Option AV)} {x : Nat} (hd : decode M.2.1 pc = .ok (.aload 13, 2))
    (k : LQ K Z M LL LS ex (pc + 2) (a0 :: a1 :: a2 :: a3 :: a4 :: a5 :: a6 :: a7 :: a8 :: a9 :: a10 :: a11 :: a12 :: some (.inr x) :: R) (.inr x :: S) m Q) : LQ K Z M LL LS ex pc (a0 :: a1 :: a2 :: a3 :: a4 :: a5 :: a6 :: a7 :: a8 :: a9 :: a10 :: a11 :: a12 :: some (.inr x) :: R) S m Q := fun d r hk => al_ald hd rfl (k d r hk)
theorem lp_ast_13 {ex : List ShC} {a0 a1 a2 a3 a4 a5 a6 a7 a8 a9 a10 a11 a12 : Option AV} {R : List (Option AV)} {o : Option AV} {x : Nat} (hd : decode M.2.1 pc = .ok (.astore 13, 2)) (hn : 13 < M.2.2.1) (hlk : lkO LL 13)
    (k : LQ K Z M LL LS ex (pc + 2) (a0 :: a1 :: a2 :: a3 :: a4 :: a5 :: a6 :: a7 :: a8 :: a9 :: a10 :: a11 :: a12 :: some (.inr x) :: R) S m Q) : LQ K Z M LL LS ex pc (a0 :: a1 :: a2 :: a3 :: a4 :: a5 :: a6 :: a7 :: a8 :: a9 :: a10 :: a11 :: a12 :: o :: R) (.inr x :: S) m Q := fun d r hk => al_ast hd hn rfl hlk (k d r hk)
theorem lp_iinc_13 {ex : List ShC} {a0 a1 a2 a3 a4 a5 a6 a7 a8 a9 a10 a11 a12 : Option AV} {R : List (Option AV)} {x n : Int} (hd : decode M.2.1 pc = .ok (.iinc 13 n, 3)) (hn : 13 < M.2.2.1) (hlk : lkO LL 13)
    (k : LQ K Z M LL LS ex (pc + 3) (a0 :: a1 :: a2 :: a3 :: a4 :: a5 :: a6 :: a7 :: a8 :: a9 :: a10 :: a11 :: a12 :: some (.inl (x + n)) :: R) S m Q) : LQ K Z M LL LS ex pc (a0 :: a1 :: a2 :: a3 :: a4 :: a5 :: a6 :: a7 :: a8 :: a9 :: a10 :: a11 :: a12 :: some (.inl x) :: R) S m Q := fun d r hk => al_iinc hd hn rfl rfl hlk (k d r hk)
theorem lp_ild_14 {ex : List ShC} {a0 a1 a2 a3 a4 a5 a6 a7 a8 a9 a10 a11 a12 a13 : Option AV} {R : List (Option AV)} {x : Int} (hd : decode M.2.1 pc = .ok (.iload 14, 2))
    (k : LQ K Z M LL LS ex (pc + 2) (a0 :: a1 :: a2 :: a3 :: a4 :: a5 :: a6 :: a7 :: a8 :: a9 :: a10 :: a11 :: a12 :: a13 :: some (.inl x) :: R) (.inl x :: S) m Q) : LQ K Z M LL LS ex pc (a0 :: a1 :: a2 :: a3 :: a4 :: a5 :: a6 :: a7 :: a8 :: a9 :: a10 :: a11 :: a12 :: a13 :: some (.inl x) :: R) S m Q := fun d r hk => al_ild hd rfl (k d r hk)
theorem lp_ist_14 {ex : List ShC} {a0 a1 a2 a3 a4 a5 a6 a7 a8 a9 a10 a11 a12 a13 : Option AV} {R : List (Option AV)} {o : Option AV} {x : Int} (hd : decode M.2.1 pc = .ok (.istore 14, 2)) (hn : 14 < M.2.2.1) (hlk : lkO LL 14)
    (k : LQ K Z M LL LS ex (pc + 2) (a0 :: a1 :: a2 :: a3 :: a4 :: a5 :: a6 :: a7 :: a8 :: a9 :: a10 :: a11 :: a12 :: a13 :: some (.inl x) :: R) S m Q) : LQ K Z M LL LS ex pc (a0 :: a1 :: a2 :: a3 :: a4 :: a5 :: a6 :: a7 :: a8 :: a9 :: a10 :: a11 :: a12 :: a13 :: o :: R) (.inl x :: S) m Q := fun d r hk => al_ist hd hn rfl hlk (k d r hk)
theorem lp_ald_14 {ex : List ShC} {a0 a1 a2 a3 a4 a5 a6 a7 a8 a9 a10 a11 a12 a13 : Option AV} {R : List (Option AV)} {x : Nat} (hd : decode M.2.1 pc = .ok (.aload 14, 2))
    (k : LQ K Z M LL LS ex (pc + 2) (a0 :: a1 :: a2 :: a3 :: a4 :: a5 :: a6 :: a7 :: a8 :: a9 :: a10 :: a11 :: a12 :: a13 :: some (.inr x) :: R) (.inr x :: S) m Q) : LQ K Z M LL LS ex pc (a0 :: a1 :: a2 :: a3 :: a4 :: a5 :: a6 :: a7 :: a8 :: a9 :: a10 :: a11 :: a12 :: a13 :: some (.inr x) :: R) S m Q := fun d r hk => al_ald hd rfl (k d r hk)
theorem lp_ast_14 {ex : List ShC} {a0 a1 a2 a3 a4 a5 a6 a7 a8 a9 a10 a11 a12 a13 : Option AV} {R : List (Option AV)} {o : Option AV} {x : Nat} (hd : decode M.2.1 pc = .ok (.astore 14, 2)) (hn : 14 < M.2.2.1) (hlk : lkO LL 14)
    (k : LQ K Z M LL LS ex (pc + 2) (a0 :: a1 :: a2 :: a3 :: a4 :: a5 :: a6 :: a7 :: a8 :: a9 :: a10 :: a11 :: a12 :: a13 :: some (.inr x) :: R) S m Q) : LQ K Z M LL LS ex pc (a0 :: a1 :: a2 :: a3 :: a4 :: a5 :: a6 :: a7 :: a8 :: a9 :: a10 :: a11 :: a12 :: a13 :: o :: R) (.inr x :: S) m Q := fun d r hk => al_ast hd hn rfl hlk (k d r hk)
theorem lp_iinc_14 {ex : List ShC} {a0 a1 a2 a3 a4 a5 a6 a7 a8 a9 a10 a11 a12 a13 : Option AV} {R : List (Option AV)} {x n : Int} (hd : decode M.2.1 pc = .ok (.iinc 14 n, 3)) (hn : 14 < M.2.2.1) (hlk : lkO LL 14)
    (k : LQ K Z M LL LS ex (pc + 3) (a0 :: a1 :: a2 :: a3 :: a4 :: a5 :: a6 :: a7 :: a8 :: a9 :: a10 :: a11 :: a12 :: a13 :: some (.inl (x + n)) :: R) S m Q) : LQ K Z M LL LS ex pc (a0 :: a1 :: a2 :: a3 :: a4 :: a5 :: a6 :: a7 :: a8 :: a9 :: a10 :: a11 :: a12 :: a13 :: some (.inl x) :: R) S m Q := fun d r hk => al_iinc hd hn rfl rfl hlk (k d r hk)
theorem lp_ild_15 {ex : List ShC} {a0 a1 a2 a3 a4 a5 a6 a7 a8 a9 a10 a11 a12 a13 a14 : Option AV} {R : List (Option AV)} {x : Int} (hd : decode M.2.1 pc = .ok (.iload 15, 2))
    (k : LQ K Z M LL LS ex (pc + 2) (a0 :: a1 :: a2 :: a3 :: a4 :: a5 :: a6 :: a7 :: a8 :: a9 :: a10 :: a11 :: a12 :: a13 :: a14 :: some (.inl x) :: R) (.inl x :: S) m Q) : LQ K Z M LL LS ex pc (a0 :: a1 :: a2 :: a3 :: a4 :: a5 :: a6 :: a7 :: a8 :: a9 :: a10 :: a11 :: a12 :: a13 :: a14 :: some (.inl x) :: R) S m Q := fun d r hk => al_ild hd rfl (k d r hk)
theorem lp_ist_15 {ex : List ShC} {a0 a1 a2 a3 a4 a5 a6 a7 a8 a9 a10 a11 a12 a13 a14 : Option AV} {R : List (Option AV)} {o : Option AV} {x : Int} (hd : decode M.2.1 pc = .ok (.istore 15, 2)) (hn : 15 < M.2.2.1) (hlk : lkO LL 15)
    (k : LQ K Z M LL LS ex (pc + 2) (a0 :: a1 :: a2 :: a3 :: a4 :: a5 :: a6 :: a7 :: a8 :: a9 :: a10 :: a11 :: a12 :: a13 :: a14 :: some (.inl x) :: R) S m Q) : LQ K Z M LL LS ex pc (a0 :: a1 :: a2 :: a3 :: a4 :: a5 :: a6 :: a7 :: a8 :: a9 :: a10 :: a11 :: a12 :: a13 :: a14 :: o :: R) (.inl x :: S) m Q := fun d r hk => al_ist hd hn rfl hlk (k d r hk)
theorem lp_ald_15 {ex : List ShC} {a0 a1 a2 a3 a4 a5 a6 a7 a8 a9 a10 a11 a12 a13 a14 : Option AV} {R : List (Option AV)} {x : Nat} (hd : decode M.2.1 pc = .ok (.aload 15, 2))
    (k : LQ K Z M LL LS ex (pc + 2) (a0 :: a1 :: a2 :: a3 :: a4 :: a5 :: a6 :: a7 :: a8 :: a9 :: a10 :: a11 :: a12 :: a13 :: a14 :: some (.inr x) :: R) (.inr x :: S) m Q) : LQ K Z M LL LS ex pc (a0 :: a1 :: a2 :: a3 :: a4 :: a5 :: a6 :: a7 :: a8 :: a9 :: a10 :: a11 :: a12 :: a13 :: a14 :: some (.inr x) :: R) S m Q := fun d r hk => al_ald hd rfl (k d r hk)
theorem lp_ast_15 {ex : List ShC} {a0 a1 a2 a3 a4 a5 a6 a7 a8 a9 a10 a11 a12 a13 a14 : Option AV} {R : List (Option AV)} {o : Option AV} {x : Nat} (hd : decode M.2.1 pc = .ok (.astore 15, 2)) (hn : 15 < M.2.2.1) (hlk : lkO LL 15)
    (k : LQ K Z M LL LS ex (pc + 2) (a0 :: a1 :: a2 :: a3 :: a4 :: a5 :: a6 :: a7 :: a8 :: a9 :: a10 :: a11 :: a12 :: a13 :: a14 :: some (.inr x) :: R) S m Q) : LQ K Z M LL LS ex pc (a0 :: a1 :: a2 :: a3 :: a4 :: a5 :: a6 :: a7 :: a8 :: a9 :: a10 :: a11 :: a12 :: a13 :: a14 :: o :: R) (.inr x :: S) m Q := fun d r hk => al_ast hd hn rfl hlk (k d r hk)
theorem lp_iinc_15 {ex : List ShC} {a0 a1 a2 a3 a4 a5 a6 a7 a8 a9 a10 a11 a12 a13 a14 : Option AV} {R : List (Option AV)} {x n : Int} (hd : decode M.2.1 pc = .ok (.iinc 15 n, 3)) (hn : 15 < M.2.2.1) (hlk : lkO LL 15)
    (k : LQ K Z M LL LS ex (pc + 3) (a0 :: a1 :: a2 :: a3 :: a4 :: a5 :: a6 :: a7 :: a8 :: a9 :: a10 :: a11 :: a12 :: a13 :: a14 :: some (.inl (x + n)) :: R) S m Q) : LQ K Z M LL LS ex pc (a0 :: a1 :: a2 :: a3 :: a4 :: a5 :: a6 :: a7 :: a8 :: a9 :: a10 :: a11 :: a12 :: a13 :: a14 :: some (.inl x) :: R) S m Q := fun d r hk => al_iinc hd hn rfl rfl hlk (k d r hk)
theorem lp_ild_16 {ex : List ShC} {a0 a1 a2 a3 a4 a5 a6 a7 a8 a9 a10 a11 a12 a13 a14 a15 : Option AV} {R : List (Option AV)} {x : Int} (hd : decode M.2.1 pc = .ok (.iload 16, 2))
    (k : LQ K Z M LL LS ex (pc + 2) (a0 :: a1 :: a2 :: a3 :: a4 :: a5 :: a6 :: a7 :: a8 :: a9 :: a10 :: a11 :: a12 :: a13 :: a14 :: a15 :: some (.inl x) :: R) (.inl x :: S) m Q) : LQ K Z M LL LS ex pc (a0 :: a1 :: a2 :: a3 :: a4 :: a5 :: a6 :: a7 :: a8 :: a9 :: a10 :: a11 :: a12 :: a13 :: a14 :: a15 :: some (.inl x) :: R) S m Q := fun d r hk => al_ild hd rfl (k d r hk)
theorem lp_ist_16 {ex : List ShC} {a0 a1 a2 a3 a4 a5 a6 a7 a8 a9 a10 a11 a12 a13 a14 a15 : Option AV} {R : List (Option AV)} {o : Option AV} {x : Int} (hd : decode M.2.1 pc = .ok (.istore 16, 2)) (hn : 16 < M.2.2.1) (hlk : lkO LL 16)
    (k : LQ K Z M LL LS ex (pc + 2) (a0 :: a1 :: a2 :: a3 :: a4 :: a5 :: a6 :: a7 :: a8 :: a9 :: a10 :: a11 :: a12 :: a13 :: a14 :: a15 :: some (.inl x) :: R) S m Q) : LQ K Z M LL LS ex pc (a0 :: a1 :: a2 :: a3 :: a4 :: a5 :: a6 :: a7 :: a8 :: a9 :: a10 :: a11 :: a12 :: a13 :: a14 :: a15 :: o :: R) (.inl x :: S) m Q := fun d r hk => al_ist hd hn rfl hlk (k d r hk)
theorem lp_ald_16 {ex : List ShC} {a0 a1 a2 a3 a4 a5 a6 a7 a8 a9 a10 a11 a12 a13 a14 a15 : Option AV} {R : List (Option AV)} {x : Nat} (hd : decode M.2.1 pc = .ok (.aload 16, 2))
    (k : LQ K Z M LL LS ex (pc + 2) (a0 :: a1 :: a2 :: a3 :: a4 :: a5 :: a6 :: a7 :: a8 :: a9 :: a10 :: a11 :: a12 :: a13 :: a14 :: a15 :: some (.inr x) :: R) (.inr x :: S) m Q) : LQ K Z M LL LS ex pc (a0 :: a1 :: a2 :: a3 :: a4 :: a5 :: a6 :: a7 :: a8 :: a9 :: a10 :: a11 :: a12 :: a13 :: a14 :: a15 :: some (.inr x) :: R) S m Q := fun d r hk => al_ald hd rfl (k d r hk)
theorem lp_ast_16 {ex : List ShC} {a0 a1 a2 a3 a4 a5 a6 a7 a8 a9 a10 a11 a12 a13 a14 a15 : Option AV} {R : List (Option AV)} {o : Option AV} {x : Nat} (hd : decode M.2.1 pc = .ok (.astore 16, 2)) (hn : 16 < M.2.2.1) (hlk : lkO LL 16)
    (k : LQ K Z M LL LS ex (pc + 2) (a0 :: a1 :: a2 :: a3 :: a4 :: a5 :: a6 :: a7 :: a8 :: a9 :: a10 :: a11 :: a12 :: a13 :: a14 :: a15 :: some (.inr x) :: R) S m Q) : LQ K Z M LL LS ex pc (a0 :: a1 :: a2 :: a3 :: a4 :: a5 :: a6 :: a7 :: a8 :: a9 :: a10 :: a11 :: a12 :: a13 :: a14 :: a15 :: o :: R) (.inr x :: S) m Q := fun d r hk => al_ast hd hn rfl hlk (k d r hk)
theorem lp_iinc_16 {ex : List ShC} {a0 a1 a2 a3 a4 a5 a6 a7 a8 a9 a10 a11 a12 a13 a14 a15 : Option AV} {R : List (Option AV)} {x n : Int} (hd : decode M.2.1 pc = .ok (.iinc 16 n, 3)) (hn : 16 < M.2.2.1) (hlk : lkO LL 16)
    (k : LQ K Z M LL LS ex (pc + 3) (a0 :: a1 :: a2 :: a3 :: a4 :: a5 :: a6 :: a7 :: a8 :: a9 :: a10 :: a11 :: a12 :: a13 :: a14 :: a15 :: some (.inl (x + n)) :: R) S m Q) : LQ K Z M LL LS ex pc (a0 :: a1 :: a2 :: a3 :: a4 :: a5 :: a6 :: a7 :: a8 :: a9 :: a10 :: a11 :: a12 :: a13 :: a14 :: a15 :: some (.inl x) :: R) S m Q := fun d r hk => al_iinc hd hn rfl rfl hlk (k d r hk)
theorem lp_ild_17 {ex : List ShC} {a0 a1 a2 a3 a4 a5 a6 a7 a8 a9 a10 a11 a12 a13 a14 a15 a16 : Option AV} {R : List (Option AV)} {x : Int} (hd : decode M.2.1 pc = .ok (.iload 17, 2))
    (k : LQ K Z M LL LS ex (pc + 2) (a0 :: a1 :: a2 :: a3 :: a4 :: a5 :: a6 :: a7 :: a8 :: a9 :: a10 :: a11 :: a12 :: a13 :: a14 :: a15 :: a16 :: some (.inl x) :: R) (.inl x :: S) m Q) : LQ K Z M LL LS ex pc (a0 :: a1 :: a2 :: a3 :: a4 :: a5 :: a6 :: a7 :: a8 :: a9 :: a10 :: a11 :: a12 :: a13 :: a14 :: a15 :: a16 :: some (.inl x) :: R) S m Q := fun d r hk => al_ild hd rfl (k d r hk)
theorem lp_ist_17 {ex : List ShC} {a0 a1 a2 a3 a4 a5 a6 a7 a8 a9 a10 a11 a12 a13 a14 a15 a16 : Option AV} {R : List (Option AV)} {o : Option AV} {x : Int} (hd : decode M.2.1 pc = .ok (.istore 17, 2)) (hn : 17 < M.2.2.1) (hlk : lkO LL 17)
    (k : LQ K Z M LL LS ex (pc + 2) (a0 :: a1 :: a2 :: a3 :: a4 :: a5 :: a6 :: a7 :: a8 :: a9 :: a10 :: a11 :: a12 :: a13 :: a14 :: a15 :: a16 :: some (.inl x) :: R) S m Q) : LQ K Z M LL LS ex pc (a0 :: a1 :: a2 :: a3 :: a4 :: a5 :: a6 :: a7 :: a8 :: a9 :: a10 :: a11 :: a12 :: a13 :: a14 :: a15 :: a16 :: o :: R) (.inl x :: S) m Q := fun d r hk => al_ist hd hn rfl hlk (k d r hk)
theorem lp_ald_17 {ex : List ShC} {a0 a1 a2 a3 a4 a5 a6 a7 a8 a9 a10 a11 a12 a13 a14 a15 a16 : Option AV} {R : List (Option AV)} {x : Nat} (hd : decode M.2.1 pc = .ok (.aload 17, 2))
    (k : LQ K Z M LL LS ex (pc + 2) (a0 :: a1 :: a2 :: a3 :: a4 :: a5 :: a6 :: a7 :: a8 :: a9 :: a10 :: a11 :: a12 :: a13 :: a14 :: a15 :: a16 :: some (.inr x) :: R) (.inr x :: S) m Q) : LQ K Z M LL LS ex pc (a0 :: a1 :: a2 :: a3 :: a4 :: a5 :: a6 :: a7 :: a8 :: a9 :: a10 :: a11 :: a12 :: a13 :: a14 :: a15 :: a16 :: some (.inr x) :: R) S m Q := fun d r hk => al_ald hd rfl (k d r hk)
theorem lp_ast_17 {ex : List ShC} {a0 a1 a2 a3 a4 a5 a6 a7 a8 a9 a10 a11 a12 a13 a14 a15 a16 : Option AV} {R : List (Option AV)} {o : Option AV} {x : Nat} (hd : decode M.2.1 pc = .ok (.astore 17, 2)) (hn : 17 < M.2.2.1) (hlk : lkO LL 17)
    (k : LQ K Z M LL LS ex (pc + 2) (a0 :: a1 :: a2 :: a3 :: a4 :: a5 :: a6 :: a7 :: a8 :: a9 :: a10 :: a11 :: a12 :: a13 :: a14 :: a15 :: a16 :: some (.inr x) :: R) S m Q) : LQ K Z M LL LS ex pc (a0 :: a1 :: a2 :: a3 :: a4 :: a5 :: a6 :: a7 :: a8 :: a9 :: a10 :: a11 :: a12 :: a13 :: a14 :: a15 :: a16 :: o :: R) (.inr x :: S) m Q := fun d r hk => al_ast hd hn rfl hlk (k d r hk)
theorem lp_iinc_17 {ex : List ShC} {a0 a1 a2 a3 a4 a5 a6 a7 a8 a9 a10 a11 a12 a13 a14 a15 a16 : Option AV} {R : List (Option AV)} {x n : Int} (hd : decode M.2.1 pc = .ok (.iinc 17 n, 3)) (hn : 17 < M.2.2.1) (hlk : lkO LL 17)
    (k : LQ K Z M LL LS ex (pc + 3) (a0 :: a1 :: a2 :: a3 :: a4 :: a5 :: a6 :: a7 :: a8 :: a9 :: a10 :: a11 :: a12 :: a13 :: a14 :: a15 :: a16 :: some (.inl (x + n)) :: R) S m Q) : LQ K Z M LL LS ex pc (a0 :: a1 :: a2 :: a3 :: a4 :: a5 :: a6 :: a7 :: a8 :: a9 :: a10 :: a11 :: a12 :: a13 :: a14 :: a15 :: a16 :: some (.inl x) :: R) S m Q := fun d r hk => al_iinc hd hn rfl rfl hlk (k d r hk)
theorem lp_ild_18 {ex : List ShC} {a0 a1 a2 a3 a4 a5 a6 a7 a8 a9 a10 a11 a12 a13 a14 a15 a16 a17 : Option AV} {R : List (Option AV)} {x : Int} (hd : decode M.2.1 pc = .ok (.iload 18, 2))
    (k : LQ K Z M LL LS ex (pc + 2) (a0 :: a1 :: a2 :: a3 :: a4 :: a5 :: a6 :: a7 :: a8 :: a9 :: a10 :: a11 :: a12 :: a13 :: a14 :: a15 :: a16 :: a17 :: some (.inl x) :: R) (.inl x :: S) m Q) : LQ K Z M LL LS ex pc (a0 :: a1 :: a2 :: a3 :: a4 :: a5 :: a6 :: a7 :: a8 :: a9 :: a10 :: a11 :: a12 :: a13 :: a14 :: a15 :: a16 :: a17 :: some (.inl x) :: R) S m Q := fun d r hk => al_ild hd rfl (k d r hk)
theorem lp_ist_18 {ex : List ShC} {a0 a1 a2 a3 a4 a5 a6 a7 a8 a9 a10 a11 a12 a13 a14 a15 a16 a17 : Option AV} {R : List (Option AV)} {o : Option AV} {x : Int} (hd : decode M.2.1 pc = .ok (.istore 18, 2)) (hn : 18 < M.2.2.1) (hlk : lkO LL 18)
    (k : LQ K Z M LL LS ex (pc + 2) (a0 :: a1 :: a2 :: a3 :: a4 :: a5 :: a6 :: a7 :: a8 :: a9 :: a10 :: a11 :: a12 :: a13 :: a14 :: a15 :: a16 :: a17 :: some (.inl x) :: R) S m Q) : LQ K Z M LL LS ex pc (a0 :: a1 :: a2 :: a3 :: a4 :: a5 :: a6 :: a7 :: a8 :: a9 :: a10 :: a11 :: a12 :: a13 :: a14 :: a15 :: a16 :: a17 :: o :: R) (.inl x :: S) m Q := fun d r hk => al_ist hd hn rfl hlk (k d r hk)
theorem lp_ald_18 {ex : List ShC} {a0 a1 a2 a3 a4 a5 a6 a7 a8 a9 a10 a11 a12 a13 a14 a15 a16 a17 : Option AV} {R : List (Option AV)} {x : Nat} (hd : decode M.2.1 pc = .ok (.aload 18, 2))
    (k : LQ K Z M LL LS ex (pc + 2) (a0 :: a1 :: a2 :: a3 :: a4 :: a5 :: a6 :: a7 :: a8 :: a9 :: a10 :: a11 :: a12 :: a13 :: a14 :: a15 :: a16 :: a17 :: some (.inr x) :: R) (.inr x :: S) m Q) : LQ K Z M LL LS ex pc (a0 :: a1 :: a2 :: a3 :: a4 :: a5 :: a6 :: a7 :: a8 :: a9 :: a10 :: a11 :: a12 :: a13 :: a14 :: a15 :: a16 :: a17 :: some (.inr x) :: R) S m Q := fun d r hk => al_ald hd rfl (k d r hk)
theorem lp_ast_18 {ex : List ShC} {a0 a1 a2 a3 a4 a5 a6 a7 a8 a9 a10 a11 a12 a13 a14 a15 a16 a17 : Option AV} {R : List (Option AV)} {o : Option AV} {x : Nat} (hd : decode M.2.1 pc = .ok (.astore 18, 2)) (hn : 18 < M.2.2.1) (hlk : lkO LL 18)
    (k : LQ K Z M LL LS ex (pc + 2) (a0 :: a1 :: a2 :: a3 :: a4 :: a5 :: a6 :: a7 :: a8 :: a9 :: a10 :: a11 :: a12 :: a13 :: a14 :: a15 :: a16 :: a17 :: some (.inr x) :: R) S m Q) : LQ K Z M LL LS ex pc (a0 :: a1 :: a2 :: a3 :: a4 :: a5 :: a6 :: a7 :: a8 :: a9 :: a10 :: a11 :: a12 :: a13 :: a14 :: a15 :: a16 :: a17 :: o :: R) (.inr x :: S) m Q := fun d r hk => al_ast hd hn rfl hlk (k d r hk)
theorem lp_iinc_18 {ex : List ShC} {a0 a1 a2 a3 a4 a5 a6 a7 a8 a9 a10 a11 a12 a13 a14 a15 a16 a17 : Option AV} {R : List (Option AV)} {x n : Int} (hd : decode M.2.1 pc = .ok (.iinc 18 n, 3)) (hn : 18 < M.2.2.1) (hlk : lkO LL 18)
    (k : LQ K Z M LL LS ex (pc + 3) (a0 :: a1 :: a2 :: a3 :: a4 :: a5 :: a6 :: a7 :: a8 :: a9 :: a10 :: a11 :: a12 :: a13 :: a14 :: a15 :: a16 :: a17 :: some (.inl (x + n)) :: R) S m Q) : LQ K Z M LL LS ex pc (a0 :: a1 :: a2 :: a3 :: a4 :: a5 :: a6 :: a7 :: a8 :: a9 :: a10 :: a11 :: a12 :: a13 :: a14 :: a15 :: a16 :: a17 :: some (.inl x) :: R) S m Q := fun d r hk => al_iinc hd hn rfl rfl hlk (k d r hk)
theorem lp_ild_19 {ex : List ShC} {a0 a1 a2 a3 a4 a5 a6 a7 a8 a9 a10 a11 a12 a13 a14 a15 a16 a17 a18 : Option AV} {R : List (Option AV)} {x : Int} (hd : decode M.2.1 pc = .ok (.iload 19, 2))
    (k : LQ K Z M LL LS ex (pc + 2) (a0 :: a1 :: a2 :: a3 :: a4 :: a5 :: a6 :: a7 :: a8 :: a9 :: a10 :: a11 :: a12 :: a13 :: a14 :: a15 :: a16 :: a17 :: a18 :: some (.inl x) :: R) (.inl x :: S) m Q) : LQ K Z M LL LS ex pc (a0 :: a1 :: a2 :: a3 :: a4 :: a5 :: a6 :: a7 :: a8 :: a9 :: a10 :: a11 :: a12 :: a13 :: a14 :: a15 :: a16 :: a17 :: a18 :: some (.inl x) :: R) S m Q := fun d r hk => al_ild hd rfl (k d r hk)
theorem lp_ist_19 {ex : List ShC} {a0 a1 a2 a3 a4 a5 a6 a7 a8 a9 a10 a11 a12 a13 a14 a15 a16 a17 a18 : Option AV} {R : List (Option AV)} {o : Option AV} {x : Int} (hd : decode M.2.1 pc = .ok (.istore 19, 2)) (hn : 19 < M.2.2.1) (hlk : lkO LL 19)
    (k : LQ K Z M LL LS ex (pc + 2) (a0 :: a1 :: a2 :: a3 :: a4 :: a5 :: a6 :: a7 :: a8 :: a9 :: a10 :: a11 :: a12 :: a13 :: a14 :: a15 :: a16 :: a17 :: a18 :: some (.inl x) :: R) S m Q) : LQ K Z M LL LS ex pc (a0 :: a1 :: a2 :: a3 :: a4 :: a5 :: a6 :: a7 :: a8 :: a9 :: a10 :: a11 :: a12 :: a13 :: a14 :: a15 :: a16 :: a17 :: a18 :: o :: R) (.inl x :: S) m Q := fun d r hk => al_ist hd hn rfl hlk (k d r hk)
theorem lp_ald_19 {ex : List ShC} {a0 a1 a2 a3 a4 a5 a6 a7 a8 a9 a10 a11 a12 a13 a14 a15 a16 a17 a18 : Option AV} {R : List (Option AV)} {x : Nat} (hd : decode M.2.1 pc = .ok (.aload 19, 2))
    (k : LQ K Z M LL LS ex (pc + 2) (a0 :: a1 :: a2 :: a3 :: a4 :: a5 :: a6 :: a7 :: a8 :: a9 :: a10 :: a11 :: a12 :: a13 :: a14 :: a15 :: a16 :: a17 :: a18 :: some (.inr x) :: R) (.inr x :: S) m Q) : LQ K Z M LL LS ex pc (a0 :: a1 :: a2 :: a3 :: a4 :: a5 :: a6 :: a7 :: a8 :: a9 :: a10 :: a11 :: a12 :: a13 :: a14 :: a15 :: a16 :: a17 :: a18 :: some (.inr x) :: R) S m Q := fun d r hk => al_ald hd rfl (k d r hk)
theorem lp_ast_19 {ex : List ShC} {a0 a1 a2 a3 a4 a5 a6 a7 a8 a9 a10 a11 a12 a13 a14 a15 a16 a17 a18 : Option AV} {R : List (Option AV)} {o : Option AV} {x : Nat} (hd : decode M.2.1 pc = .ok (.astore 19, 2)) (hn : 19 < M.2.2.1) (hlk : lkO LL 19)
    (k : LQ K Z M LL LS ex (pc + 2) (a0 :: a1 :: a2 :: a3 :: a4 :: a5 :: a6 :: a7 :: a8 :: a9 :: a10 :: a11 :: a12 :: a13 :: a14 :: a15 :: a16 :: a17 :: a18 :: some (.inr x) :: R) S m Q) : LQ K Z M LL LS ex pc (a0 :: a1 :: a2 :: a3 :: a4 :: a5 :: a6 :: a7 :: a8 :: a9 :: a10 :: a11 :: a12 :: a13 :: a14 :: a15 :: a16 :: a17 :: a18 :: o :: R) (.inr x :: S) m Q := fun d r hk => al_ast hd hn rfl hlk (k d r hk)
theorem lp_iinc_19 {ex : List ShC} {a0 a1 a2 a3 a4 a5 a6 a7 a8 a9 a10 a11 a12 a13 a14 a15 a16 a17 a18 : Option AV} {R : List (Option AV)} {x n : Int} (hd : decode M.2.1 pc = .ok (.iinc 19 n, 3)) (hn : 19 < M.2.2.1) (hlk : lkO LL 19)
    (k : LQ K Z M LL LS ex (pc + 3) (a0 :: a1 :: a2 :: a3 :: a4 :: a5 :: a6 :: a7 :: a8 :: a9 :: a10 :: a11 :: a12 :: a13 :: a14 :: a15 :: a16 :: a17 :: a18 :: some (.inl (x + n)) :: R) S m Q) : LQ K Z M LL LS ex pc (a0 :: a1 :: a2 :: a3 :: a4 :: a5 :: a6 :: a7 :: a8 :: a9 :: a10 :: a11 :: a12 :: a13 :: a14 :: a15 :: a16 :: a17 :: a18 :: some (.inl x) :: R) S m Q := fun d r hk => al_iinc hd hn rfl rfl hlk (k d r hk)
theorem lp_ild_20 {ex : List ShC} {a0 a1 a2 a3 a4 a5 a6 a7 a8 a9 a10 a11 a12 a13 a14 a15 a16 a17 a18 a19 : Option AV} {R : List (Option AV)} {x : Int} (hd : decode M.2.1 pc = .ok (.iload 20, 2))
    (k : LQ K Z M LL LS ex (pc + 2) (a0 :: a1 :: a2 :: a3 :: a4 :: a5 :: a6 :: a7 :: a8 :: a9 :: a10 :: a11 :: a12 :: a13 :: a14 :: a15 :: a16 :: a17 :: a18 :: a19 :: some (.inl x) :: R) (.inl x :: S) m Q) : LQ K Z M LL LS ex pc (a0 :: a1 :: a2 :: a3 :: a4 :: a5 :: a6 :: a7 :: a8 :: a9 :: a10 :: a11 :: a12 :: a13 :: a14 :: a15 :: a16 :: a17 :: a18 :: a19 :: some (.inl x) :: R) S m Q := fun d r hk => al_ild hd rfl (k d r hk)
theorem lp_ist_20 {ex : List ShC} {a0 a1 a2 a3 a4 a5 a6 a7 a8 a9 a10 a11 a12 a13 a14 a15 a16 a17 a18 a19 : Option AV} {R : List (Option AV)} {o : Option AV} {x : Int} (hd : decode M.2.1 pc = .ok (.istore 20, 2)) (hn : 20 < M.2.2.1) (hlk : lkO LL 20)
    (k : LQ K Z M LL LS ex (pc + 2) (a0 :: a1 :: a2 :: a3 :: a4 :: a5 :: a6 :: a7 :: a8 :: a9 :: a10 :: a11 :: a12 :: a13 :: a14 :: a15 :: a16 :: a17 :: a18 :: a19 :: some (.inl x) :: R) S m Q) : LQ K Z M LL LS ex pc (a0 :: a1 :: a2 :: a3 :: a4 :: a5 :: a6 :: a7 :: a8 :: a9 :: a10 :: a11 :: a12 :: a13 :: a14 :: a15 :: a16 :: a17 :: a18 :: a19 :: o :: R) (.inl x :: S) m Q := fun d r hk => al_ist hd hn rfl hlk (k d r hk)
theorem lp_ald_20 {ex : List ShC} {a0 a1 a2 a3 a4 a5 a6 a7 a8 a9 a10 a11 a12 a13 a14 a15 a16 a17 a18 a19 : Option AV} {R : List (Option AV)} {x : Nat} (hd : decode M.2.1 pc = .ok (.aload 20, 2))
    (k : LQ K Z M LL LS ex (pc + 2) (a0 :: a1 :: a2 :: a3 :: a4 :: a5 :: a6 :: a7 :: a8 :: a9 :: a10 :: a11 :: a12 :: a13 :: a14 :: a15 :: a16 :: a17 :: a18 :: a19 :: some (.inr x) :: R) (.inr x :: S) m Q) : LQ K Z M LL LS ex pc (a0 :: a1 :: a2 :: a3 :: a4 :: a5 :: a6 :: a7 :: a8 :: a9 :: a10 :: a11 :: a12 :: a13 :: a14 :: a15 :: a16 :: a17 :: a18 :: a19 :: some (.inr x) :: R) S m Q := fun d r hk => al_ald hd rfl (k d r hk)
theorem lp_ast_20 {ex : List ShC} {a0 a1 a2 a3 a4 a5 a6 a7 a8 a9 a10 a11 a12 a13 a14 a15 a16 a17 a18 a19 : Option AV} {R : List (Option AV)} {o : Option AV} {x : Nat} (hd : decode M.2.1 pc = .ok (.astore 20, 2)) (hn : 20 < M.2.2.1) (hlk : lkO LL 20)
    (k : LQ K Z M LL LS ex (pc + 2) (a0 :: a1 :: a2 :: a3 :: a4 :: a5 :: a6 :: a7 :: a8 :: a9 :: a10 :: a11 :: a12 :: a13 :: a14 :: a15 :: a16 :: a17 :: a18 :: a19 :: some (.inr x) :: R) S m Q) : LQ K Z M LL LS ex pc (a0 :: a1 :: a2 :: a3 :: a4 :: a5 :: a6 :: a7 :: a8 :: a9 :: a10 :: a11 :: a12 :: a13 :: a14 :: a15 :: a16 :: a17 :: a18 :: a19 :: o :: R) (.inr x :: S) m Q := fun d r hk => al_ast hd hn rfl hlk (k d r hk)
theorem lp_iinc_20 {ex : List ShC} {a0 a1 a2 a3 a4 a5 a6 a7 a8 a9 a10 a11 a12 a13 a14 a15 a16 a17 a18 a19 : Option AV} {R : List (Option AV)} {x n : Int} (hd : decode M.2.1 pc = .ok (.iinc 20 n, 3)) (hn : 20 < M.2.2.1) (hlk : lkO LL 20)
    (k : LQ K Z M LL LS ex (pc + 3) (a0 :: a1 :: a2 :: a3 :: a4 :: a5 :: a6 :: a7 :: a8 :: a9 :: a10 :: a11 :: a12 :: a13 :: a14 :: a15 :: a16 :: a17 :: a18 :: a19 :: some (.inl (x + n)) :: R) S m Q) : LQ K Z M LL LS ex pc (a0 :: a1 :: a2 :: a3 :: a4 :: a5 :: a6 :: a7 :: a8 :: a9 :: a10 :: a11 :: a12 :: a13 :: a14 :: a15 :: a16 :: a17 :: a18 :: a19 :: some (.inl x) :: R) S m Q := fun d r hk => al_iinc hd hn rfl rfl hlk (k d r hk)
theorem lp_ild_21 {ex : List ShC} {a0 a1 a2 a3 a4 a5 a6 a7 a8 a9 a10 a11 a12 a13 a14 a15 a16 a17 a18 a19 a20 : Option AV} {R : List (Option AV)} {x : Int} (hd : decode M.2.1 pc = .ok (.iload 21, 2))
    (k : LQ K Z M LL LS ex (pc + 2) (a0 :: a1 :: a2 :: a3 :: a4 :: a5 :: a6 :: a7 :: a8 :: a9 :: a10 :: a11 :: a12 :: a13 :: a14 :: a15 :: a16 :: a17 :: a18 :: a19 :: a20 :: some (.inl x) :: R) (.inl x :: S) m Q) : LQ K Z M LL LS ex pc (a0 :: a1 :: a2 :: a3 :: a4 :: a5 :: a6 :: a7 :: a8 :: a9 :: a10 :: a11 :: a12 :: a13 :: a14 :: a15 :: a16 :: a17 :: a18 :: a19 :: a20 :: some (.inl x) :: R) S m Q := fun d r hk => al_ild hd rfl (k d r hk)
theorem lp_ist_21 {ex : List ShC} {a0 a1 a2 a3 a4 a5 a6 a7 a8 a9 a10 a11 a12 a13 a14 a15 a16 a17 a18 a19 a20 : Option AV} {R : List (Option AV)} {o : Option AV} {x : Int} (hd : decode M.2.1 pc = .ok (.istore 21, 2)) (hn : 21 < M.2.2.1) (hlk : lkO LL 21)
    (k : LQ K Z M LL LS ex (pc + 2) (a0 :: a1 :: a2 :: a3 :: a4 :: a5 :: a6 :: a7 :: a8 :: a9 :: a10 :: a11 :: a12 :: a13 :: a14 :: a15 :: a16 :: a17 :: a18 :: a19 :: a20 :: some (.inl x) :: R) S m Q) : LQ K Z M LL LS ex pc (a0 :: a1 :: a2 :: a3 :: a4 :: a5 :: a6 :: a7 :: a8 :: a9 :: a10 :: a11 :: a12 :: a13 :: a14 :: a15 :: a16 :: a17 :: a18 :: a19 :: a20 :: o :: R) (.inl x :: S) m Q := fun d r hk => al_ist hd hn rfl hlk (k d r hk)
theorem lp_ald_21 {ex : List ShC} {a0 a1 a2 a3 a4 a5 a6 a7 a8 a9 a10 a11 a12 a13 a14 a15 a16 a17 a18 a19 a20 : Option AV} {R : List (Option AV)} {x : Nat} (hd : decode M.2.1 pc = .ok (.aload 21, 2))
    (k : LQ K Z M LL LS ex (pc + 2) (a0 :: a1 :: a2 :: a3 :: a4 :: a5 :: a6 :: a7 :: a8 :: a9 :: a10 :: a11 :: a12 :: a13 :: a14 :: a15 :: a16 :: a17 :: a18 :: a19 :: a20 :: some (.inr x) :: R) (.inr x :: S) m Q) : LQ K Z M LL LS ex pc (a0 :: a1 :: a2 :: a3 :: a4 :: a5 :: a6 :: a7 :: a8 :: a9 :: a10 :: a11 :: a12 :: a13 :: a14 :: a15 :: a16 :: a17 :: a18 :: a19 :: a20 :: some (.inr x) :: R) S m Q := fun d r hk => al_ald hd rfl (k d r hk)
theorem lp_ast_21 {ex : List ShC} {a0 a1 a2 a3 a4 a5 a6 a7 a8 a9 a10 a11 a12 a13 a14 a15 a16 a17 a18 a19 a20 : Option AV} {R : List (Option AV)} {o : Option AV} {x : Nat} (hd : decode M.2.1 pc = .ok (.astore 21, 2)) (hn : 21 < M.2.2.1) (hlk : lkO LL 21)
    (k : LQ K Z M LL LS ex (pc + 2) (a0 :: a1 :: a2 :: a3 :: a4 :: a5 :: a6 :: a7 :: a8 :: a9 :: a10 :: a11 :: a12 :: a13 :: a14 :: a15 :: a16 :: a17 :: a18 :: a19 :: a20 :: some (.inr x) :: R) S m Q) : LQ K Z M LL LS ex pc (a0 :: a1 :: a2 :: a3 :: a4 :: a5 :: a6 :: a7 :: a8 :: a9 :: a10 :: a11 :: a12 :: a13 :: a14 :: a15 :: a16 :: a17 :: a18 :: a19 :: a20 :: o :: R) (.inr x :: S) m Q := fun d r hk => al_ast hd hn rfl hlk (k d r hk)
theorem lp_iinc_21 {ex : List ShC} {a0 a1 a2 a3 a4 a5 a6 a7 a8 a9 a10 a11 a12 a13 a14 a15 a16 a17 a18 a19 a20 : Option AV} {R : List (Option AV)} {x n : Int} (hd : decode M.2.1 pc = .ok (.iinc 21 n, 3)) (hn : 21 < M.2.2.1) (hlk : lkO LL 21)
    (k : LQ K Z M LL LS ex (pc + 3) (a0 :: a1 :: a2 :: a3 :: a4 :: a5 :: a6 :: a7 :: a8 :: a9 :: a10 :: a11 :: a12 :: a13 :: a14 :: a15 :: a16 :: a17 :: a18 :: a19 :: a20 :: some (.inl (x + n)) :: R) S m Q) : LQ K Z M LL LS ex pc (a0 :: a1 :: a2 :: a3 :: a4 :: a5 :: a6 :: a7 :: a8 :: a9 :: a10 :: a11 :: a12 :: a13 :: a14 :: a15 :: a16 :: a17 :: a18 :: a19 :: a20 :: some (.inl x) :: R) S m Q := fun d r hk => al_iinc hd hn rfl rfl hlk (k d r hk)
end LQ0

