
/-! the rules at the standing cells and some arrays behind them, with longs: Z: how many cells and slots there may be, the script, what a long answer must be, the arrays at the end -/
abbrev ZB : Type := (Nat × Nat) × AX × (Int64 → HP → Prop) × List ShC
def LQ (K : Nat) (Z : ZB) (M : MI) (LL : List (Nat × Int64)) (LS : List Int64) (ex : List ShC) (pc : Nat) (L : List (Option AV)) (S : List AV) (m : AM) (Q : Option Int → AM → Prop) : Prop := ∀ (d r : Nat), rk K d r → AL M (Z.2.1, d, r, Z.1.1, Z.1.2) Z.2.2.1 LL LS pc L S (SH ++ ex, m) (fun v h => h.1 = SH ++ Z.2.2.2 ∧ Q v h.2)
def zN (X : AX) : ZB := ((100, 5358), X, (fun _ _ => False), [])
theorem cs_ofL {K : Nat} {M : MI} {av : List AV} {m : AM} {Q : Option Int → AM → Prop} {L0 : List (Option AV)} (hp : plainName M.1.cls = true) (hlen : av.length ≤ M.2.2.1) (hL : av.map some ++ List.replicate (M.2.2.1 - av.length) none = L0) (hn : M.2.2.2 ≠ some .long) (k : ∀ X, LQ K (zN X) M [] [] [] 0 L0 [] m Q) : CS K M av m Q := by
  intro X d r hk
  refine ac_of hp hlen ?_
  rw [hL]
  exact AL.toW hn (k X d r hk)
def CL (K : Nat) (M : MI) (av : List AV) (m : AM) (Q : Int64 → AM → Prop) : Prop := ∀ (X : AX) (d r : Nat), rk K d r → ACL X M d r 0 0 av (SH, m) (fun v h => h.1 = SH ∧ Q v h.2)
theorem cl_of {K : Nat} {M : MI} {av : List AV} {m : AM} {Q : Int64 → AM → Prop} {L0 : List (Option AV)} (hp : plainName M.1.cls = true) (hlen : av.length ≤ M.2.2.1) (hL : av.map some ++ List.replicate (M.2.2.1 - av.length) none = L0) (ht : M.2.2.2 = some .long) (k : ∀ X, LQ K ((100, 5358), X, (fun v h => h.1 = SH ∧ Q v h.2), []) M [] [] [] 0 L0 [] m (fun _ _ => False)) : CL K M av m Q := by
  intro X d r hk
  refine acl_of (Q := fun v h => h.1 = SH ∧ Q v h.2) ht hp hlen ?_
  rw [hL]
  exact (k X d r hk).mono (fun v h' z => z.2)
theorem SH_cl : ∀ c ∈ SH, ∀ q ∈ rfC c, q < SH.length := by decide +kernel
theorem jn_lt {b q : Nat} {m' m : AM} {j : Int} (h : q < 100) : am_jn SH.length b m' m q j = m' q j := if_pos (by rw [SH_len]; exact h)
theorem jn_ge {b q : Nat} {m' m : AM} {j : Int} (h : 100 ≤ q) (h2 : q < 100 + b) : am_jn SH.length b m' m q j = m q j := by
  unfold am_jn
  rw [SH_len, if_neg (by omega), if_pos h2]
theorem slS_app (a b : List ShC) : slS (a ++ b) = slS a + slS b := by simp [slS]
theorem rk_call2 {K K' d r ml : Nat} (hk : rk K d r) (hK : K' + 2 ≤ K) (hm : ml ≤ 40) : rk K' (d - 1) (r - (19 + ml)) ∧ 1 ≤ d ∧ 19 + ml ≤ r := by
  obtain ⟨h1, h2⟩ := hk
  exact ⟨⟨by omega, by omega⟩, by omega, by omega⟩
section LPS
variable {K : Nat} {Z : ZB} {M : MI} {LL : List (Nat × Int64)} {LS : List Int64} {ex : List ShC} {pc : Nat} {L : List (Option AV)} {S : List AV} {m : AM} {Q : Option Int → AM → Prop}
theorem LQ.mono {Q' : Option Int → AM → Prop} (k : LQ K Z M LL LS ex pc L S m Q) (hq : ∀ v m', Q v m' → Q' v m') : LQ K Z M LL LS ex pc L S m Q' := fun d r hk => (k d r hk).mono (fun v h' q => ⟨q.1, hq v h'.2 q.2⟩)
theorem LQ.loc {L' : List (Option AV)} (k : LQ K Z M LL LS ex pc L' S m Q) (hL : ∀ (i : Nat) (v : AV), L'[i]? = some (some v) → L[i]? = some (some v)) : LQ K Z M LL LS ex pc L S m Q := fun d r hk => (k d r hk).loc hL
theorem LQ.bk {L' : List (Option AV)} {m' : AM} (k : LQ K Z M LL LS ex pc L' S m' Q) (hL : lle L' L) (hm : m = m') : LQ K Z M LL LS ex pc L S m Q := by
  subst hm; exact k.loc (lle_at L' L hL)
theorem lp_ldc {n : Int} {idx : Nat} (hd : decode M.2.1 pc = .ok (.ldc idx, 2)) (hw : Cond.constant M.1.cls idx (Int32.ofInt n) ∈ GW)
    (k : LQ K Z M LL LS ex (pc + 2) L (.inl n :: S) m Q) : LQ K Z M LL LS ex pc L S m Q := fun d r hk => al_ldc hd hw (k d r hk)
theorem lp_idiv {x y : Int} (hd : decode M.2.1 pc = .ok (.idiv, 1)) (hr : rng y) (h0 : y ≠ 0)
    (k : LQ K Z M LL LS ex (pc + 1) L (.inl (iDiv x y) :: S) m Q) : LQ K Z M LL LS ex pc L (.inl y :: .inl x :: S) m Q := fun d r hk => al_idiv hd hr h0 (k d r hk)
theorem lp_ldc2 {idx : Nat} {v : Int64} (hd : decode M.2.1 pc = .ok (.ldc2_w idx, 3)) (hw : Cond.constantLong M.1.cls idx v ∈ GW)
    (k : LQ K Z M LL (v :: LS) ex (pc + 3) L [] m Q) : LQ K Z M LL LS ex pc L [] m Q := fun d r hk => al_ldc2 hd hw (k d r hk)
theorem lp_lld_n {i : Nat} {j : Fin 4} {x : Int64} (hd : decode M.2.1 pc = .ok (.lload_n j, 1)) (hi : (j : Nat) = i) (hx : (i, x) ∈ LL)
    (k : LQ K Z M LL (x :: LS) ex (pc + 1) L [] m Q) : LQ K Z M LL LS ex pc L [] m Q := fun d r hk => al_lld_n hd hi hx (k d r hk)
theorem lp_lld {i : Nat} {x : Int64} (hd : decode M.2.1 pc = .ok (.lload i, 2)) (hx : (i, x) ∈ LL)
    (k : LQ K Z M LL (x :: LS) ex (pc + 2) L [] m Q) : LQ K Z M LL LS ex pc L [] m Q := fun d r hk => al_lld hd hx (k d r hk)
theorem lp_lst_n {i : Nat} {j : Fin 4} {x : Int64} {L' : List (Option AV)} (hd : decode M.2.1 pc = .ok (.lstore_n j, 1)) (hi : (j : Nat) = i) (hn : i + 1 < M.2.2.1) (hL : (L.set i none).set (i + 1) none = L')
    (k : LQ K Z M [(i, x)] LS ex (pc + 1) L' [] m Q) : LQ K Z M LL (x :: LS) ex pc L [] m Q := fun d r hk => al_lst_n hd hi hn hL (fun q hq => Or.inl (List.mem_singleton.mp hq)) (k d r hk)
theorem lp_lst {i : Nat} {x : Int64} {L' : List (Option AV)} (hd : decode M.2.1 pc = .ok (.lstore i, 2)) (hn : i + 1 < M.2.2.1) (hL : (L.set i none).set (i + 1) none = L')
    (k : LQ K Z M [(i, x)] LS ex (pc + 2) L' [] m Q) : LQ K Z M LL (x :: LS) ex pc L [] m Q := fun d r hk => al_lst hd hn hL (fun q hq => Or.inl (List.mem_singleton.mp hq)) (k d r hk)
theorem lp_ladd {x y : Int64} (hd : decode M.2.1 pc = .ok (.ladd, 1))
    (k : LQ K Z M LL ((x + y) :: LS) ex (pc + 1) L [] m Q) : LQ K Z M LL (y :: x :: LS) ex pc L [] m Q := fun d r hk => al_ladd hd (k d r hk)
theorem lp_lmul {x y : Int64} (hd : decode M.2.1 pc = .ok (.lmul, 1))
    (k : LQ K Z M LL ((x * y) :: LS) ex (pc + 1) L [] m Q) : LQ K Z M LL (y :: x :: LS) ex pc L [] m Q := fun d r hk => al_lmul hd (k d r hk)
theorem lp_i2l {x : Int} (hd : decode M.2.1 pc = .ok (.i2l, 1))
    (k : LQ K Z M LL ((Int32.ofInt x).toInt64 :: LS) ex (pc + 1) L [] m Q) : LQ K Z M LL LS ex pc L [.inl x] m Q := fun d r hk => al_i2l hd (k d r hk)
theorem lp_lcmp {x y : Int64} (hd : decode M.2.1 pc = .ok (.lcmp, 1)) (he : x = y)
    (k : LQ K Z M LL LS ex (pc + 1) L [.inl 0] m Q) : LQ K Z M LL (y :: x :: LS) ex pc L [] m Q := fun d r hk => al_lcmp hd he (k d r hk)
theorem lp_iaload {q n : Nat} {i : Int} (hd : decode M.2.1 pc = .ok (.iaload, 1)) (hc : (SH ++ ex)[q]? = some (.inr (.inl (0, n)))) (h0 : 0 ≤ i) (h1 : i < n) (hn : n < 2147483648)
    (k : LQ K Z M LL LS ex (pc + 1) L (.inl (m q i) :: S) m Q) : LQ K Z M LL LS ex pc L (.inl i :: .inr q :: S) m Q := fun d r hk => al_iaload hd hc h0 h1 hn (k d r hk)
theorem lp_iastore {q n : Nat} {i v : Int} (hd : decode M.2.1 pc = .ok (.iastore, 1)) (hc : (SH ++ ex)[q]? = some (.inr (.inl (0, n)))) (h0 : 0 ≤ i) (h1 : i < n) (hn : n < 2147483648)
    (k : LQ K Z M LL LS ex (pc + 1) L S (am_up m q i v) Q) : LQ K Z M LL LS ex pc L (.inl v :: .inl i :: .inr q :: S) m Q := fun d r hk => al_iastore hd hc h0 h1 hn (k d r hk)
theorem lp_iushr {x y : Int} (hd : decode M.2.1 pc = .ok (.iushr, 1))
    (k : LQ K Z M LL LS ex (pc + 1) L (.inl (iUshr x y) :: S) m Q) : LQ K Z M LL LS ex pc L (.inl y :: .inl x :: S) m Q := fun d r hk => al_iushr hd (k d r hk)
theorem lp_sld {i : Int} (hd : decode M.2.1 pc = .ok (.iaload, 1)) (h0 : 0 ≤ i) (h1 : i < Z.2.1.1) (hn : Z.2.1.1 < 2147483648)
    (k : LQ K Z M LL LS ex (pc + 1) L (.inl (Z.2.1.2 i.toNat).toInt :: S) m Q) : LQ K Z M LL LS ex pc L (.inl i :: .inr 1000 :: S) m Q := fun d r hk => al_sld hd h0 h1 hn (k d r hk)
theorem lp_slen (hd : decode M.2.1 pc = .ok (.arraylength, 1))
    (k : LQ K Z M LL LS ex (pc + 1) L (.inl (Z.2.1.1 : Int) :: S) m Q) : LQ K Z M LL LS ex pc L (.inr 1000 :: S) m Q := fun d r hk => al_slen hd (k d r hk)
theorem lp_dup2 {u v : AV} (hd : decode M.2.1 pc = .ok (.dup2, 1))
    (k : LQ K Z M LL LS ex (pc + 1) L (v :: u :: v :: u :: S) m Q) : LQ K Z M LL LS ex pc L (v :: u :: S) m Q := fun d r hk => al_dup2 hd (k d r hk)
theorem lp_ireturn {x : Int} (hd : decode M.2.1 pc = .ok (.ireturn, 1)) (ht : M.2.2.2 = some .int) (h1 : 100 + ex.length = Z.1.1) (h2 : 5358 + slS ex = Z.1.2) (he : ex = Z.2.2.2) (hq : Q (some x) m) : LQ K Z M LL [] ex pc L [.inl x] m Q := fun d r hk => al_ireturn hd (Or.inl ht) (by show (SH ++ ex).length = _; rw [List.length_append, SH_len]; exact h1) (by show slS (SH ++ ex) = _; rw [slS_app, SH_sl]; exact h2) ⟨by show SH ++ ex = _; rw [← he], hq⟩
theorem lp_zreturn {x : Int} (hd : decode M.2.1 pc = .ok (.ireturn, 1)) (ht : M.2.2.2 = some .boolean) (hx : x = 0 ∨ x = 1) (h1 : 100 + ex.length = Z.1.1) (h2 : 5358 + slS ex = Z.1.2) (he : ex = Z.2.2.2) (hq : Q (some x) m) : LQ K Z M LL [] ex pc L [.inl x] m Q := fun d r hk => al_ireturn hd (Or.inr ⟨ht, hx⟩) (by show (SH ++ ex).length = _; rw [List.length_append, SH_len]; exact h1) (by show slS (SH ++ ex) = _; rw [slS_app, SH_sl]; exact h2) ⟨by show SH ++ ex = _; rw [← he], hq⟩
theorem lp_lreturn {x : Int64} (hd : decode M.2.1 pc = .ok (.lreturn, 1)) (ht : M.2.2.2 = some .long) (h1 : 100 + ex.length = Z.1.1) (h2 : 5358 + slS ex = Z.1.2) (hq : Z.2.2.1 x (SH ++ ex, m)) : LQ K Z M LL [x] ex pc L [] m Q := fun d r hk => al_lreturn hd ht (by show (SH ++ ex).length = _; rw [List.length_append, SH_len]; exact h1) (by show slS (SH ++ ex) = _; rw [slS_app, SH_sl]; exact h2) hq
def exO (Z : ZB) (ex : List ShC) : Prop := (∀ c ∈ ex, isIA c) ∧ ex.length ≤ 800 ∧ 100 + ex.length ≤ Z.1.1 ∧ 5358 + slS ex ≤ Z.1.2
theorem sh_ex {ex : List ShC} {q : Nat} {c : ShC} (h : SH[q]? = some c) : (SH ++ ex)[q]? = some c := by
  rw [List.getElem?_append_left (List.getElem?_eq_some_iff.mp h).1]; exact h
theorem lp_frame {X : AX} {M' : MI} {d r : Nat} {av : List AV} {Q' : Option Int → AM → Prop} (hO : exO Z ex) (hM : AC X M' d r 0 0 av (SH, m) (fun v h => h.1 = SH ∧ Q' v h.2)) : AC X M' d r 0 0 av (SH ++ ex, m) (fun v h' => ∃ m' : AM, Q' v m' ∧ h' = (SH ++ ex, am_jn SH.length ex.length m' m)) := by
  have k := ac_frame (nw := []) hM (fun v h' q => by rw [q.1, List.append_nil]) SH_cl hO.1 (fun c hc => by cases hc) (by rw [SH_len]; have := hO.2.1; simp; omega)
  exact k.mono (fun v h' q => by
    obtain ⟨m', q1, q2⟩ := q
    refine ⟨m', q1.2, ?_⟩
    rw [q2, List.append_nil])
theorem lp_invV {idx ci n q K' : Nat} {M' : MI} {av rest : List AV} {fs : List ShF} {Q' : Option Int → AM → Prop} (hd : decode M.2.1 pc = .ok (.invokevirtual idx, 3)) (hb : aMV M.1.cls idx M' ci n) (hc : SH[q]? = some (.inl (ci, fs))) (hM : CS K' M' (.inr q :: av) m Q') (hS : S = av.reverse ++ .inr q :: rest) (hn : av.length = n) (hrest : rest.length + 2 * LS.length ≤ 8) (hK : K' + 1 ≤ K) (hml : M'.2.2.1 ≤ 17) (hO : exO Z ex)
    (kk : ∀ v m' m'', Q' v m' → (∀ (k : Nat) (j : Int), k < 100 → m'' k j = m' k j) → (∀ (k : Nat) (j : Int), 100 ≤ k → k < 100 + ex.length → m'' k j = m k j) → LQ K Z M LL LS ex (pc + 3) L (v.toList.map .inl ++ rest) m'' Q) : LQ K Z M LL LS ex pc L S m Q := fun d r hk => by
  obtain ⟨r1, r2, r3⟩ := rk_call hk hK hml
  have hl : (SH ++ ex).length = 100 + ex.length := by rw [List.length_append, SH_len]
  have hs : slS (SH ++ ex) = 5358 + slS ex := by rw [slS_app, SH_sl]
  refine al_invV hd hb (sh_ex hc) hS hn hrest (lp_frame hO (hM Z.2.1 _ _ r1)) r2 r3 (by show (SH ++ ex).length + 0 ≤ 1000; have := hO.2.1; omega) (aKeep0 _ _ _) (by show (SH ++ ex).length + 0 ≤ _; rw [hl]; exact hO.2.2.1) (by show slS (SH ++ ex) + 0 ≤ _; rw [hs]; exact hO.2.2.2) (fun v h' hq _ _ => ?_)
  obtain ⟨m', q1, rfl⟩ := hq
  exact kk v m' _ q1 (fun k j h => jn_lt h) (fun k j h1 h2 => jn_ge h1 h2) d r hk
theorem lp_invS {idx n K' : Nat} {M' : MI} {av rest : List AV} {Q' : Option Int → AM → Prop} (hd : decode M.2.1 pc = .ok (.invokestatic idx, 3)) (hb : aMS M.1.cls idx M' n) (hM : CS K' M' av m Q') (hS : S = av.reverse ++ rest) (hn : av.length = n) (hrest : rest.length + 2 * LS.length ≤ 8) (hK : K' + 2 ≤ K) (hml : M'.2.2.1 ≤ 40) (hO : exO Z ex)
    (kk : ∀ v m' m'', Q' v m' → (∀ (k : Nat) (j : Int), k < 100 → m'' k j = m' k j) → (∀ (k : Nat) (j : Int), 100 ≤ k → k < 100 + ex.length → m'' k j = m k j) → LQ K Z M LL LS ex (pc + 3) L (v.toList.map .inl ++ rest) m'' Q) : LQ K Z M LL LS ex pc L S m Q := fun d r hk => by
  obtain ⟨r1, r2, r3⟩ := rk_call2 hk hK hml
  have hl : (SH ++ ex).length = 100 + ex.length := by rw [List.length_append, SH_len]
  have hs : slS (SH ++ ex) = 5358 + slS ex := by rw [slS_app, SH_sl]
  refine al_invS hd hb hS hn hrest (lp_frame hO (hM Z.2.1 _ _ r1)) r2 r3 (by show (SH ++ ex).length + 0 ≤ 1000; have := hO.2.1; omega) (aKeep0 _ _ _) (by show (SH ++ ex).length + 0 ≤ _; rw [hl]; exact hO.2.2.1) (by show slS (SH ++ ex) + 0 ≤ _; rw [hs]; exact hO.2.2.2) (fun v h' hq _ _ => ?_)
  obtain ⟨m', q1, rfl⟩ := hq
  exact kk v m' _ q1 (fun k j h => jn_lt h) (fun k j h1 h2 => jn_ge h1 h2) d r hk
def CX (X : AX) (K : Nat) (M : MI) (av : List AV) (m : AM) (Q : Option Int → AM → Prop) : Prop := ∀ (d r : Nat), rk K d r → AC X M d r 0 0 av (SH, m) (fun v h => h.1 = SH ∧ Q v h.2)
theorem cx_of {X : AX} {K : Nat} {M : MI} {av : List AV} {m : AM} {Q : Option Int → AM → Prop} {L0 : List (Option AV)} (hp : plainName M.1.cls = true) (hlen : av.length ≤ M.2.2.1) (hL : av.map some ++ List.replicate (M.2.2.1 - av.length) none = L0) (hn : M.2.2.2 ≠ some .long) (k : LQ K (zN X) M [] [] [] 0 L0 [] m Q) : CX X K M av m Q := by
  intro d r hk
  refine ac_of hp hlen ?_
  rw [hL]
  exact AL.toW hn (k d r hk)
theorem lp_invSX {idx n K' : Nat} {M' : MI} {av rest : List AV} {Q' : Option Int → AM → Prop} (hd : decode M.2.1 pc = .ok (.invokestatic idx, 3)) (hb : aMS M.1.cls idx M' n) (hM : CX Z.2.1 K' M' av m Q') (hS : S = av.reverse ++ rest) (hn : av.length = n) (hrest : rest.length + 2 * LS.length ≤ 8) (hK : K' + 2 ≤ K) (hml : M'.2.2.1 ≤ 40) (hO : exO Z ex)
    (kk : ∀ v m' m'', Q' v m' → (∀ (k : Nat) (j : Int), k < 100 → m'' k j = m' k j) → (∀ (k : Nat) (j : Int), 100 ≤ k → k < 100 + ex.length → m'' k j = m k j) → LQ K Z M LL LS ex (pc + 3) L (v.toList.map .inl ++ rest) m'' Q) : LQ K Z M LL LS ex pc L S m Q := fun d r hk => by
  obtain ⟨r1, r2, r3⟩ := rk_call2 hk hK hml
  have hl : (SH ++ ex).length = 100 + ex.length := by rw [List.length_append, SH_len]
  have hs : slS (SH ++ ex) = 5358 + slS ex := by rw [slS_app, SH_sl]
  refine al_invS hd hb hS hn hrest (lp_frame hO (hM _ _ r1)) r2 r3 (by show (SH ++ ex).length + 0 ≤ 1000; have := hO.2.1; omega) (aKeep0 _ _ _) (by show (SH ++ ex).length + 0 ≤ _; rw [hl]; exact hO.2.2.1) (by show slS (SH ++ ex) + 0 ≤ _; rw [hs]; exact hO.2.2.2) (fun v h' hq _ _ => ?_)
  obtain ⟨m', q1, rfl⟩ := hq
  exact kk v m' _ q1 (fun k j h => jn_lt h) (fun k j h1 h2 => jn_ge h1 h2) d r hk
theorem lp_invSL {idx n K' : Nat} {M' : MI} {av : List AV} {Q' : Int64 → AM → Prop} (hd : decode M.2.1 pc = .ok (.invokestatic idx, 3)) (hb : aMS M.1.cls idx M' n) (hM : CL K' M' av m Q') (hS : S = av.reverse) (hn : av.length = n) (hrest : 2 * LS.length ≤ 8) (hK : K' + 2 ≤ K) (hml : M'.2.2.1 ≤ 40) (hO : exO Z ex)
    (kk : ∀ v m' m'', Q' v m' → (∀ (k : Nat) (j : Int), k < 100 → m'' k j = m' k j) → (∀ (k : Nat) (j : Int), 100 ≤ k → k < 100 + ex.length → m'' k j = m k j) → LQ K Z M LL (v :: LS) ex (pc + 3) L [] m'' Q) : LQ K Z M LL LS ex pc L S m Q := fun d r hk => by
  obtain ⟨r1, r2, r3⟩ := rk_call2 hk hK hml
  have hl : (SH ++ ex).length = 100 + ex.length := by rw [List.length_append, SH_len]
  have hs : slS (SH ++ ex) = 5358 + slS ex := by rw [slS_app, SH_sl]
  have hM2 := acl_frame (nw := []) (ex := ex) (hM Z.2.1 _ _ r1) (fun v h' q => by rw [q.1, List.append_nil]) SH_cl hO.1 (fun c hc => by cases hc) (by rw [SH_len]; have := hO.2.1; simp; omega)
  refine al_invSL hd hb hS hn hrest hM2 r2 r3 (by show (SH ++ ex).length + 0 ≤ 1000; have := hO.2.1; omega) (aKeep0 _ _ _) (by show (SH ++ ex).length + 0 ≤ _; rw [hl]; exact hO.2.2.1) (by show slS (SH ++ ex) + 0 ≤ _; rw [hs]; exact hO.2.2.2) (fun v h' hq _ _ => ?_)
  obtain ⟨m', q1, rfl⟩ := hq
  rw [List.append_nil]
  exact kk v m' _ q1.2 (fun k j h => jn_lt h) (fun k j h1 h2 => jn_ge h1 h2) d r hk
/-- a method that makes one array of six ints and leaves it behind -/
def CP (K : Nat) (M : MI) (av : List AV) (m : AM) (Q : Option Int → AM → Prop) : Prop := ∀ (X : AX) (d r : Nat), rk K d r → AC X M d r 1 6 av (SH, m) (fun v h => h.1 = SH ++ [.inr (.inl (0, 6))] ∧ Q v h.2)
theorem lp_invSP {idx n K' : Nat} {M' : MI} {av rest : List AV} {Q' : Option Int → AM → Prop} (hd : decode M.2.1 pc = .ok (.invokestatic idx, 3)) (hb : aMS M.1.cls idx M' n) (hM : CP K' M' av m Q') (hS : S = av.reverse ++ rest) (hn : av.length = n) (hrest : rest.length + 2 * LS.length ≤ 8) (hK : K' + 2 ≤ K) (hml : M'.2.2.1 ≤ 40) (hO : exO Z ex) (hk0 : aKeep (100 + ex.length) (100 + ex.length + 1) L rest = true) (hC1 : 100 + ex.length + 1 ≤ Z.1.1) (hC2 : 5358 + slS ex + 6 ≤ Z.1.2)
    (kk : ∀ v m' m'', Q' v m' → (∀ (k : Nat) (j : Int), k < 100 → m'' k j = m' k j) → LQ K Z M LL LS (ex ++ [.inr (.inl (0, 6))]) (pc + 3) L (v.toList.map .inl ++ rest) m'' Q) : LQ K Z M LL LS ex pc L S m Q := fun d r hk => by
  obtain ⟨r1, r2, r3⟩ := rk_call2 hk hK hml
  have hl : (SH ++ ex).length = 100 + ex.length := by rw [List.length_append, SH_len]
  have hs : slS (SH ++ ex) = 5358 + slS ex := by rw [slS_app, SH_sl]
  have hM2 := ac_frame (nw := [.inr (.inl (0, 6))]) (ex := ex) (hM Z.2.1 _ _ r1) (fun v h' q => q.1) SH_cl hO.1 (fun c hc => ⟨0, 6, List.mem_singleton.mp hc⟩) (by rw [SH_len]; have := hO.2.1; simp; omega)
  refine al_invS hd hb hS hn hrest hM2 r2 r3 (by show (SH ++ ex).length + 1 ≤ 1000; have := hO.2.1; omega) (by show aKeep (SH ++ ex).length ((SH ++ ex).length + 1) L rest = true; rw [hl]; exact hk0) (by show (SH ++ ex).length + 1 ≤ _; rw [hl]; exact hC1) (by show slS (SH ++ ex) + 6 ≤ _; rw [hs]; exact hC2) (fun v h' hq _ _ => ?_)
  obtain ⟨m', q1, rfl⟩ := hq
  rw [List.append_assoc]
  exact kk v m' _ q1.2 (fun k j h => jn_lt h) d r hk
theorem lp_const {n : Int} (hd : decode M.2.1 pc = .ok (.iconst n, 1))
    (k : LQ K Z M LL LS ex (pc + 1) L (.inl n :: S) m Q) : LQ K Z M LL LS ex pc L S m Q := fun d r hk => al_const hd (k d r hk)
theorem lp_bipush {n : Int} (hd : decode M.2.1 pc = .ok (.bipush n, 2)) (hn : (Int8.ofInt n).toInt32 = Int32.ofInt n)
    (k : LQ K Z M LL LS ex (pc + 2) L (.inl n :: S) m Q) : LQ K Z M LL LS ex pc L S m Q := fun d r hk => al_bipush hd hn (k d r hk)
theorem lp_sipush {n : Int} (hd : decode M.2.1 pc = .ok (.sipush n, 3)) (hn : (Int16.ofInt n).toInt32 = Int32.ofInt n)
    (k : LQ K Z M LL LS ex (pc + 3) L (.inl n :: S) m Q) : LQ K Z M LL LS ex pc L S m Q := fun d r hk => al_sipush hd hn (k d r hk)
theorem lp_ild_0 {R : List (Option AV)} {x : Int} (hd : decode M.2.1 pc = .ok (.iload_n 0, 1))
    (k : LQ K Z M LL LS ex (pc + 1) (some (.inl x) :: R) (.inl x :: S) m Q) : LQ K Z M LL LS ex pc (some (.inl x) :: R) S m Q := fun d r hk => al_ild_n hd rfl rfl (k d r hk)
theorem lp_ist_0 {R : List (Option AV)} {o : Option AV} {x : Int} (hd : decode M.2.1 pc = .ok (.istore_n 0, 1)) (hn : 0 < M.2.2.1) (hlk : lkO LL 0)
    (k : LQ K Z M LL LS ex (pc + 1) (some (.inl x) :: R) S m Q) : LQ K Z M LL LS ex pc (o :: R) (.inl x :: S) m Q := fun d r hk => al_ist_n hd rfl hn rfl hlk (k d r hk)
theorem lp_ald_0 {R : List (Option AV)} {x : Nat} (hd : decode M.2.1 pc = .ok (.aload_n 0, 1))
    (k : LQ K Z M LL LS ex (pc + 1) (some (.inr x) :: R) (.inr x :: S) m Q) : LQ K Z M LL LS ex pc (some (.inr x) :: R) S m Q := fun d r hk => al_ald_n hd rfl rfl (k d r hk)
theorem lp_ast_0 {R : List (Option AV)} {o : Option AV} {x : Nat} (hd : decode M.2.1 pc = .ok (.astore_n 0, 1)) (hn : 0 < M.2.2.1) (hlk : lkO LL 0)
    (k : LQ K Z M LL LS ex (pc + 1) (some (.inr x) :: R) S m Q) : LQ K Z M LL LS ex pc (o :: R) (.inr x :: S) m Q := fun d r hk => al_ast_n hd rfl hn rfl hlk (k d r hk)
theorem lp_iinc_0 {R : List (Option AV)} {n x : Int} (hd : decode M.2.1 pc = .ok (.iinc 0 n, 3)) (hn : 0 < M.2.2.1) (hlk : lkO LL 0)
    (k : LQ K Z M LL LS ex (pc + 3) (some (.inl (x + n)) :: R) S m Q) : LQ K Z M LL LS ex pc (some (.inl x) :: R) S m Q := fun d r hk => al_iinc hd hn rfl rfl hlk (k d r hk)
theorem lp_ild_1 {a0 : Option AV} {R : List (Option AV)} {x : Int} (hd : decode M.2.1 pc = .ok (.iload_n 1, 1))
    (k : LQ K Z M LL LS ex (pc + 1) (a0 :: some (.inl x) :: R) (.inl x :: S) m Q) : LQ K Z M LL LS ex pc (a0 :: some (.inl x) :: R) S m Q := fun d r hk => al_ild_n hd rfl rfl (k d r hk)
theorem lp_ist_1 {a0 : Option AV} {R : List (Option AV)} {o : Option AV} {x : Int} (hd : decode M.2.1 pc = .ok (.istore_n 1, 1)) (hn : 1 < M.2.2.1) (hlk : lkO LL 1)
    (k : LQ K Z M LL LS ex (pc + 1) (a0 :: some (.inl x) :: R) S m Q) : LQ K Z M LL LS ex pc (a0 :: o :: R) (.inl x :: S) m Q := fun d r hk => al_ist_n hd rfl hn rfl hlk (k d r hk)
theorem lp_ald_1 {a0 : Option AV} {R : List (Option AV)} {x : Nat} (hd : decode M.2.1 pc = .ok (.aload_n 1, 1))
    (k : LQ K Z M LL LS ex (pc + 1) (a0 :: some (.inr x) :: R) (.inr x :: S) m Q) : LQ K Z M LL LS ex pc (a0 :: some (.inr x) :: R) S m Q := fun d r hk => al_ald_n hd rfl rfl (k d r hk)
theorem lp_ast_1 {a0 : Option AV} {R : List (Option AV)} {o : Option AV} {x : Nat} (hd : decode M.2.1 pc = .ok (.astore_n 1, 1)) (hn : 1 < M.2.2.1) (hlk : lkO LL 1)
    (k : LQ K Z M LL LS ex (pc + 1) (a0 :: some (.inr x) :: R) S m Q) : LQ K Z M LL LS ex pc (a0 :: o :: R) (.inr x :: S) m Q := fun d r hk => al_ast_n hd rfl hn rfl hlk (k d r hk)
theorem lp_iinc_1 {a0 : Option AV} {R : List (Option AV)} {n x : Int} (hd : decode M.2.1 pc = .ok (.iinc 1 n, 3)) (hn : 1 < M.2.2.1) (hlk : lkO LL 1)
    (k : LQ K Z M LL LS ex (pc + 3) (a0 :: some (.inl (x + n)) :: R) S m Q) : LQ K Z M LL LS ex pc (a0 :: some (.inl x) :: R) S m Q := fun d r hk => al_iinc hd hn rfl rfl hlk (k d r hk)
theorem lp_ild_2 {a0 a1 : Option AV} {R : List (Option AV)} {x : Int} (hd : decode M.2.1 pc = .ok (.iload_n 2, 1))
    (k : LQ K Z M LL LS ex (pc + 1) (a0 :: a1 :: some (.inl x) :: R) (.inl x :: S) m Q) : LQ K Z M LL LS ex pc (a0 :: a1 :: some (.inl x) :: R) S m Q := fun d r hk => al_ild_n hd rfl rfl (k d r hk)
theorem lp_ist_2 {a0 a1 : Option AV} {R : List (Option AV)} {o : Option AV} {x : Int} (hd : decode M.2.1 pc = .ok (.istore_n 2, 1)) (hn : 2 < M.2.2.1) (hlk : lkO LL 2)
    (k : LQ K Z M LL LS ex (pc + 1) (a0 :: a1 :: some (.inl x) :: R) S m Q) : LQ K Z M LL LS ex pc (a0 :: a1 :: o :: R) (.inl x :: S) m Q := fun d r hk => al_ist_n hd rfl hn rfl hlk (k d r hk)
theorem lp_ald_2 {a0 a1 : Option AV} {R : List (Option AV)} {x : Nat} (hd : decode M.2.1 pc = .ok (.aload_n 2, 1))
    (k : LQ K Z M LL LS ex (pc + 1) (a0 :: a1 :: some (.inr x) :: R) (.inr x :: S) m Q) : LQ K Z M LL LS ex pc (a0 :: a1 :: some (.inr x) :: R) S m Q := fun d r hk => al_ald_n hd rfl rfl (k d r hk)
theorem lp_ast_2 {a0 a1 : Option AV} {R : List (Option AV)} {o : Option AV} {x : Nat} (hd : decode M.2.1 pc = .ok (.astore_n 2, 1)) (hn : 2 < M.2.2.1) (hlk : lkO LL 2)
    (k : LQ K Z M LL LS ex (pc + 1) (a0 :: a1 :: some (.inr x) :: R) S m Q) : LQ K Z M LL LS ex pc (a0 :: a1 :: o :: R) (.inr x :: S) m Q := fun d r hk => al_ast_n hd rfl hn rfl hlk (k d r hk)
theorem lp_iinc_2 {a0 a1 : Option AV} {R : List (Option AV)} {n x : Int} (hd : decode M.2.1 pc = .ok (.iinc 2 n, 3)) (hn : 2 < M.2.2.1) (hlk : lkO LL 2)
    (k : LQ K Z M LL LS ex (pc + 3) (a0 :: a1 :: some (.inl (x + n)) :: R) S m Q) : LQ K Z M LL LS ex pc (a0 :: a1 :: some (.inl x) :: R) S m Q := fun d r hk => al_iinc hd hn rfl rfl hlk (k d r hk)
theorem lp_ild_3 {a0 a1 a2 : Option AV} {R : List (Option AV)} {x : Int} (hd : decode M.2.1 pc = .ok (.iload_n 3, 1))
    (k : LQ K Z M LL LS ex (pc + 1) (a0 :: a1 :: a2 :: some (.inl x) :: R) (.inl x :: S) m Q) : LQ K Z M LL LS ex pc (a0 :: a1 :: a2 :: some (.inl x) :: R) S m Q := fun d r hk => al_ild_n hd rfl rfl (k d r hk)
theorem lp_ist_3 {a0 a1 a2 : Option AV} {R : List (Option AV)} {o : Option AV} {x : Int} (hd : decode M.2.1 pc = .ok (.istore_n 3, 1)) (hn : 3 < M.2.2.1) (hlk : lkO LL 3)
    (k : LQ K Z M LL LS ex (pc + 1) (a0 :: a1 :: a2 :: some (.inl x) :: R) S m Q) : LQ K Z M LL LS ex pc (a0 :: a1 :: a2 :: o :: R) (.inl x :: S) m Q := fun d r hk => al_ist_n hd rfl hn rfl hlk (k d r hk)
theorem lp_ald_3 {a0 a1 a2 : Option AV} {R : List (Option AV)} {x : Nat} (hd : decode M.2.1 pc = .ok (.aload_n 3, 1))
    (k : LQ K Z M LL LS ex (pc + 1) (a0 :: a1 :: a2 :: some (.inr x) :: R) (.inr x :: S) m Q) : LQ K Z M LL LS ex pc (a0 :: a1 :: a2 :: some (.inr x) :: R) S m Q := fun d r hk => al_ald_n hd rfl rfl (k d r hk)
theorem lp_ast_3 {a0 a1 a2 : Option AV} {R : List (Option AV)} {o : Option AV} {x : Nat} (hd : decode M.2.1 pc = .ok (.astore_n 3, 1)) (hn : 3 < M.2.2.1) (hlk : lkO LL 3)
    (k : LQ K Z M LL LS ex (pc + 1) (a0 :: a1 :: a2 :: some (.inr x) :: R) S m Q) : LQ K Z M LL LS ex pc (a0 :: a1 :: a2 :: o :: R) (.inr x :: S) m Q := fun d r hk => al_ast_n hd rfl hn rfl hlk (k d r hk)
theorem lp_iinc_3 {a0 a1 a2 : Option AV} {R : List (Option AV)} {n x : Int} (hd : decode M.2.1 pc = .ok (.iinc 3 n, 3)) (hn : 3 < M.2.2.1) (hlk : lkO LL 3)
    (k : LQ K Z M LL LS ex (pc + 3) (a0 :: a1 :: a2 :: some (.inl (x + n)) :: R) S m Q) : LQ K Z M LL LS ex pc (a0 :: a1 :: a2 :: some (.inl x) :: R) S m Q := fun d r hk => al_iinc hd hn rfl rfl hlk (k d r hk)
theorem lp_ild_4 {a0 a1 a2 a3 : Option AV} {R : List (Option AV)} {x : Int} (hd : decode M.2.1 pc = .ok (.iload 4, 2))
    (k : LQ K Z M LL LS ex (pc + 2) (a0 :: a1 :: a2 :: a3 :: some (.inl x) :: R) (.inl x :: S) m Q) : LQ K Z M LL LS ex pc (a0 :: a1 :: a2 :: a3 :: some (.inl x) :: R) S m Q := fun d r hk => al_ild hd rfl (k d r hk)
theorem lp_ist_4 {a0 a1 a2 a3 : Option AV} {R : List (Option AV)} {o : Option AV} {x : Int} (hd : decode M.2.1 pc = .ok (.istore 4, 2)) (hn : 4 < M.2.2.1) (hlk : lkO LL 4)
    (k : LQ K Z M LL LS ex (pc + 2) (a0 :: a1 :: a2 :: a3 :: some (.inl x) :: R) S m Q) : LQ K Z M LL LS ex pc (a0 :: a1 :: a2 :: a3 :: o :: R) (.inl x :: S) m Q := fun d r hk => al_ist hd hn rfl hlk (k d r hk)
theorem lp_ald_4 {a0 a1 a2 a3 : Option AV} {R : List (Option AV)} {x : Nat} (hd : decode M.2.1 pc = .ok (.aload 4, 2))
    (k : LQ K Z M LL LS ex (pc + 2) (a0 :: a1 :: a2 :: a3 :: some (.inr x) :: R) (.inr x :: S) m Q) : LQ K Z M LL LS ex pc (a0 :: a1 :: a2 :: a3 :: some (.inr x) :: R) S m Q := fun d r hk => al_ald hd rfl (k d r hk)
theorem lp_ast_4 {a0 a1 a2 a3 : Option AV} {R : List (Option AV)} {o : Option AV} {x : Nat} (hd : decode M.2.1 pc = .ok (.astore 4, 2)) (hn : 4 < M.2.2.1) (hlk : lkO LL 4)
    (k : LQ K Z M LL LS ex (pc + 2) (a0 :: a1 :: a2 :: a3 :: some (.inr x) :: R) S m Q) : LQ K Z M LL LS ex pc (a0 :: a1 :: a2 :: a3 :: o :: R) (.inr x :: S) m Q := fun d r hk => al_ast hd hn rfl hlk (k d r hk)
theorem lp_iinc_4 {a0 a1 a2 a3 : Option AV} {R : List (Option AV)} {n x : Int} (hd : decode M.2.1 pc = .ok (.iinc 4 n, 3)) (hn : 4 < M.2.2.1) (hlk : lkO LL 4)
    (k : LQ K Z M LL LS ex (pc + 3) (a0 :: a1 :: a2 :: a3 :: some (.inl (x + n)) :: R) S m Q) : LQ K Z M LL LS ex pc (a0 :: a1 :: a2 :: a3 :: some (.inl x) :: R) S m Q := fun d r hk => al_iinc hd hn rfl rfl hlk (k d r hk)
theorem lp_ild_5 {a0 a1 a2 a3 a4 : Option AV} {R : List (Option AV)} {x : Int} (hd : decode M.2.1 pc = .ok (.iload 5, 2))
    (k : LQ K Z M LL LS ex (pc + 2) (a0 :: a1 :: a2 :: a3 :: a4 :: some (.inl x) :: R) (.inl x :: S) m Q) : LQ K Z M LL LS ex pc (a0 :: a1 :: a2 :: a3 :: a4 :: some (.inl x) :: R) S m Q := fun d r hk => al_ild hd rfl (k d r hk)
theorem lp_ist_5 {a0 a1 a2 a3 a4 : Option AV} {R : List (Option AV)} {o : Option AV} {x : Int} (hd : decode M.2.1 pc = .ok (.istore 5, 2)) (hn : 5 < M.2.2.1) (hlk : lkO LL 5)
    (k : LQ K Z M LL LS ex (pc + 2) (a0 :: a1 :: a2 :: a3 :: a4 :: some (.inl x) :: R) S m Q) : LQ K Z M LL LS ex pc (a0 :: a1 :: a2 :: a3 :: a4 :: o :: R) (.inl x :: S) m Q := fun d r hk => al_ist hd hn rfl hlk (k d r hk)
theorem lp_ald_5 {a0 a1 a2 a3 a4 : Option AV} {R : List (Option AV)} {x : Nat} (hd : decode M.2.1 pc = .ok (.aload 5, 2))
    (k : LQ K Z M LL LS ex (pc + 2) (a0 :: a1 :: a2 :: a3 :: a4 :: some (.inr x) :: R) (.inr x :: S) m Q) : LQ K Z M LL LS ex pc (a0 :: a1 :: a2 :: a3 :: a4 :: some (.inr x) :: R) S m Q := fun d r hk => al_ald hd rfl (k d r hk)
theorem lp_ast_5 {a0 a1 a2 a3 a4 : Option AV} {R : List (Option AV)} {o : Option AV} {x : Nat} (hd : decode M.2.1 pc = .ok (.astore 5, 2)) (hn : 5 < M.2.2.1) (hlk : lkO LL 5)
    (k : LQ K Z M LL LS ex (pc + 2) (a0 :: a1 :: a2 :: a3 :: a4 :: some (.inr x) :: R) S m Q) : LQ K Z M LL LS ex pc (a0 :: a1 :: a2 :: a3 :: a4 :: o :: R) (.inr x :: S) m Q := fun d r hk => al_ast hd hn rfl hlk (k d r hk)
theorem lp_iinc_5 {a0 a1 a2 a3 a4 : Option AV} {R : List (Option AV)} {n x : Int} (hd : decode M.2.1 pc = .ok (.iinc 5 n, 3)) (hn : 5 < M.2.2.1) (hlk : lkO LL 5)
    (k : LQ K Z M LL LS ex (pc + 3) (a0 :: a1 :: a2 :: a3 :: a4 :: some (.inl (x + n)) :: R) S m Q) : LQ K Z M LL LS ex pc (a0 :: a1 :: a2 :: a3 :: a4 :: some (.inl x) :: R) S m Q := fun d r hk => al_iinc hd hn rfl rfl hlk (k d r hk)
theorem lp_ild_6 {a0 a1 a2 a3 a4 a5 : Option AV} {R : List (Option AV)} {x : Int} (hd : decode M.2.1 pc = .ok (.iload 6, 2))
    (k : LQ K Z M LL LS ex (pc + 2) (a0 :: a1 :: a2 :: a3 :: a4 :: a5 :: some (.inl x) :: R) (.inl x :: S) m Q) : LQ K Z M LL LS ex pc (a0 :: a1 :: a2 :: a3 :: a4 :: a5 :: some (.inl x) :: R) S m Q := fun d r hk => al_ild hd rfl (k d r hk)
theorem lp_ist_6 {a0 a1 a2 a3 a4 a5 : Option AV} {R : List (Option AV)} {o : Option AV} {x : Int} (hd : decode M.2.1 pc = .ok (.istore 6, 2)) (hn : 6 < M.2.2.1) (hlk : lkO LL 6)
    (k : LQ K Z M LL LS ex (pc + 2) (a0 :: a1 :: a2 :: a3 :: a4 :: a5 :: some (.inl x) :: R) S m Q) : LQ K Z M LL LS ex pc (a0 :: a1 :: a2 :: a3 :: a4 :: a5 :: o :: R) (.inl x :: S) m Q := fun d r hk => al_ist hd hn rfl hlk (k d r hk)
theorem lp_ald_6 {a0 a1 a2 a3 a4 a5 : Option AV} {R : List (Option AV)} {x : Nat} (hd : decode M.2.1 pc = .ok (.aload 6, 2))
    (k : LQ K Z M LL LS ex (pc + 2) (a0 :: a1 :: a2 :: a3 :: a4 :: a5 :: some (.inr x) :: R) (.inr x :: S) m Q) : LQ K Z M LL LS ex pc (a0 :: a1 :: a2 :: a3 :: a4 :: a5 :: some (.inr x) :: R) S m Q := fun d r hk => al_ald hd rfl (k d r hk)
theorem lp_ast_6 {a0 a1 a2 a3 a4 a5 : Option AV} {R : List (Option AV)} {o : Option AV} {x : Nat} (hd : decode M.2.1 pc = .ok (.astore 6, 2)) (hn : 6 < M.2.2.1) (hlk : lkO LL 6)
    (k : LQ K Z M LL LS ex (pc + 2) (a0 :: a1 :: a2 :: a3 :: a4 :: a5 :: some (.inr x) :: R) S m Q) : LQ K Z M LL LS ex pc (a0 :: a1 :: a2 :: a3 :: a4 :: a5 :: o :: R) (.inr x :: S) m Q := fun d r hk => al_ast hd hn rfl hlk (k d r hk)
theorem lp_iinc_6 {a0 a1 a2 a3 a4 a5 : Option AV} {R : List (Option AV)} {n x : Int} (hd : decode M.2.1 pc = .ok (.iinc 6 n, 3)) (hn : 6 < M.2.2.1) (hlk : lkO LL 6)
    (k : LQ K Z M LL LS ex (pc + 3) (a0 :: a1 :: a2 :: a3 :: a4 :: a5 :: some (.inl (x + n)) :: R) S m Q) : LQ K Z M LL LS ex pc (a0 :: a1 :: a2 :: a3 :: a4 :: a5 :: some (.inl x) :: R) S m Q := fun d r hk => al_iinc hd hn rfl rfl hlk (k d r hk)
theorem lp_ild_7 {a0 a1 a2 a3 a4 a5 a6 : Option AV} {R : List (Option AV)} {x : Int} (hd : decode M.2.1 pc = .ok (.iload 7, 2))
    (k : LQ K Z M LL LS ex (pc + 2) (a0 :: a1 :: a2 :: a3 :: a4 :: a5 :: a6 :: some (.inl x) :: R) (.inl x :: S) m Q) : LQ K Z M LL LS ex pc (a0 :: a1 :: a2 :: a3 :: a4 :: a5 :: a6 :: some (.inl x) :: R) S m Q := fun d r hk => al_ild hd rfl (k d r hk)
theorem lp_ist_7 {a0 a1 a2 a3 a4 a5 a6 : Option AV} {R : List (Option AV)} {o : Option AV} {x : Int} (hd : decode M.2.1 pc = .ok (.istore 7, 2)) (hn : 7 < M.2.2.1) (hlk : lkO LL 7)
    (k : LQ K Z M LL LS ex (pc + 2) (a0 :: a1 :: a2 :: a3 :: a4 :: a5 :: a6 :: some (.inl x) :: R) S m Q) : LQ K Z M LL LS ex pc (a0 :: a1 :: a2 :: a3 :: a4 :: a5 :: a6 :: o :: R) (.inl x :: S) m Q := fun d r hk => al_ist hd hn rfl hlk (k d r hk)
theorem lp_ald_7 {a0 a1 a2 a3 a4 a5 a6 : Option AV} {R : List (Option AV)} {x : Nat} (hd : decode M.2.1 pc = .ok (.aload 7, 2))
    (k : LQ K Z M LL LS ex (pc + 2) (a0 :: a1 :: a2 :: a3 :: a4 :: a5 :: a6 :: some (.inr x) :: R) (.inr x :: S) m Q) : LQ K Z M LL LS ex pc (a0 :: a1 :: a2 :: a3 :: a4 :: a5 :: a6 :: some (.inr x) :: R) S m Q := fun d r hk => al_ald hd rfl (k d r hk)
theorem lp_ast_7 {a0 a1 a2 a3 a4 a5 a6 : Option AV} {R : List (Option AV)} {o : Option AV} {x : Nat} (hd : decode M.2.1 pc = .ok (.astore 7, 2)) (hn : 7 < M.2.2.1) (hlk : lkO LL 7)
    (k : LQ K Z M LL LS ex (pc + 2) (a0 :: a1 :: a2 :: a3 :: a4 :: a5 :: a6 :: some (.inr x) :: R) S m Q) : LQ K Z M LL LS ex pc (a0 :: a1 :: a2 :: a3 :: a4 :: a5 :: a6 :: o :: R) (.inr x :: S) m Q := fun d r hk => al_ast hd hn rfl hlk (k d r hk)
theorem lp_iinc_7 {a0 a1 a2 a3 a4 a5 a6 : Option AV} {R : List (Option AV)} {n x : Int} (hd : decode M.2.1 pc = .ok (.iinc 7 n, 3)) (hn : 7 < M.2.2.1) (hlk : lkO LL 7)
    (k : LQ K Z M LL LS ex (pc + 3) (a0 :: a1 :: a2 :: a3 :: a4 :: a5 :: a6 :: some (.inl (x + n)) :: R) S m Q) : LQ K Z M LL LS ex pc (a0 :: a1 :: a2 :: a3 :: a4 :: a5 :: a6 :: some (.inl x) :: R) S m Q := fun d r hk => al_iinc hd hn rfl rfl hlk (k d r hk)
theorem lp_ild_8 {a0 a1 a2 a3 a4 a5 a6 a7 : Option AV} {R : List (Option AV)} {x : Int} (hd : decode M.2.1 pc = .ok (.iload 8, 2))
    (k : LQ K Z M LL LS ex (pc + 2) (a0 :: a1 :: a2 :: a3 :: a4 :: a5 :: a6 :: a7 :: some (.inl x) :: R) (.inl x :: S) m Q) : LQ K Z M LL LS ex pc (a0 :: a1 :: a2 :: a3 :: a4 :: a5 :: a6 :: a7 :: some (.inl x) :: R) S m Q := fun d r hk => al_ild hd rfl (k d r hk)
theorem lp_ist_8 {a0 a1 a2 a3 a4 a5 a6 a7 : Option AV} {R : List (Option AV)} {o : Option AV} {x : Int} (hd : decode M.2.1 pc = .ok (.istore 8, 2)) (hn : 8 < M.2.2.1) (hlk : lkO LL 8)
    (k : LQ K Z M LL LS ex (pc + 2) (a0 :: a1 :: a2 :: a3 :: a4 :: a5 :: a6 :: a7 :: some (.inl x) :: R) S m Q) : LQ K Z M LL LS ex pc (a0 :: a1 :: a2 :: a3 :: a4 :: a5 :: a6 :: a7 :: o :: R) (.inl x :: S) m Q := fun d r hk => al_ist hd hn rfl hlk (k d r hk)
theorem lp_ald_8 {a0 a1 a2 a3 a4 a5 a6 a7 : Option AV} {R : List (Option AV)} {x : Nat} (hd : decode M.2.1 pc = .ok (.aload 8, 2))
    (k : LQ K Z M LL LS ex (pc + 2) (a0 :: a1 :: a2 :: a3 :: a4 :: a5 :: a6 :: a7 :: some (.inr x) :: R) (.inr x :: S) m Q) : LQ K Z M LL LS ex pc (a0 :: a1 :: a2 :: a3 :: a4 :: a5 :: a6 :: a7 :: some (.inr x) :: R) S m Q := fun d r hk => al_ald hd rfl (k d r hk)
theorem lp_ast_8 {a0 a1 a2 a3 a4 a5 a6 a7 : Option AV} {R : List (Option AV)} {o : Option AV} {x : Nat} (hd : decode M.2.1 pc = .ok (.astore 8, 2)) (hn : 8 < M.2.2.1) (hlk : lkO LL 8)
    (k : LQ K Z M LL LS ex (pc + 2) (a0 :: a1 :: a2 :: a3 :: a4 :: a5 :: a6 :: a7 :: some (.inr x) :: R) S m Q) : LQ K Z M LL LS ex pc (a0 :: a1 :: a2 :: a3 :: a4 :: a5 :: a6 :: a7 :: o :: R) (.inr x :: S) m Q := fun d r hk => al_ast hd hn rfl hlk (k d r hk)
theorem lp_iinc_8 {a0 a1 a2 a3 a4 a5 a6 a7 : Option AV} {R : List (Option AV)} {n x : Int} (hd : decode M.2.1 pc = .ok (.iinc 8 n, 3)) (hn : 8 < M.2.2.1) (hlk : lkO LL 8)
    (k : LQ K Z M LL LS ex (pc + 3) (a0 :: a1 :: a2 :: a3 :: a4 :: a5 :: a6 :: a7 :: some (.inl (x + n)) :: R) S m Q) : LQ K Z M LL LS ex pc (a0 :: a1 :: a2 :: a3 :: a4 :: a5 :: a6 :: a7 :: some (.inl x) :: R) S m Q := fun d r hk => al_iinc hd hn rfl rfl hlk (k d r hk)
theorem lp_ild_9 {a0 a1 a2 a3 a4 a5 a6 a7 a8 : Option AV} {R : List (Option AV)} {x : Int} (hd : decode M.2.1 pc = .ok (.iload 9, 2))
    (k : LQ K Z M LL LS ex (pc + 2) (a0 :: a1 :: a2 :: a3 :: a4 :: a5 :: a6 :: a7 :: a8 :: some (.inl x) :: R) (.inl x :: S) m Q) : LQ K Z M LL LS ex pc (a0 :: a1 :: a2 :: a3 :: a4 :: a5 :: a6 :: a7 :: a8 :: some (.inl x) :: R) S m Q := fun d r hk => al_ild hd rfl (k d r hk)
theorem lp_ist_9 {a0 a1 a2 a3 a4 a5 a6 a7 a8 : Option AV} {R : List (Option AV)} {o : Option AV} {x : Int} (hd : decode M.2.1 pc = .ok (.istore 9, 2)) (hn : 9 < M.2.2.1) (hlk : lkO LL 9)
    (k : LQ K Z M LL LS ex (pc + 2) (a0 :: a1 :: a2 :: a3 :: a4 :: a5 :: a6 :: a7 :: a8 :: some (.inl x) :: R) S m Q) : LQ K Z M LL LS ex pc (a0 :: a1 :: a2 :: a3 :: a4 :: a5 :: a6 :: a7 :: a8 :: o :: R) (.inl x :: S) m Q := fun d r hk => al_ist hd hn rfl hlk (k d r hk)
theorem lp_ald_9 {a0 a1 a2 a3 a4 a5 a6 a7 a8 : Option AV} {R : List (Option AV)} {x : Nat} (hd : decode M.2.1 pc = .ok (.aload 9, 2))
    (k : LQ K Z M LL LS ex (pc + 2) (a0 :: a1 :: a2 :: a3 :: a4 :: a5 :: a6 :: a7 :: a8 :: some (.inr x) :: R) (.inr x :: S) m Q) : LQ K Z M LL LS ex pc (a0 :: a1 :: a2 :: a3 :: a4 :: a5 :: a6 :: a7 :: a8 :: some (.inr x) :: R) S m Q := fun d r hk => al_ald hd rfl (k d r hk)
theorem lp_ast_9 {a0 a1 a2 a3 a4 a5 a6 a7 a8 : Option AV} {R : List (Option AV)} {o : Option AV} {x : Nat} (hd : decode M.2.1 pc = .ok (.astore 9, 2)) (hn : 9 < M.2.2.1) (hlk : lkO LL 9)
    (k : LQ K Z M LL LS ex (pc + 2) (a0 :: a1 :: a2 :: a3 :: a4 :: a5 :: a6 :: a7 :: a8 :: some (.inr x) :: R) S m Q) : LQ K Z M LL LS ex pc (a0 :: a1 :: a2 :: a3 :: a4 :: a5 :: a6 :: a7 :: a8 :: o :: R) (.inr x :: S) m Q := fun d r hk => al_ast hd hn rfl hlk (k d r hk)
theorem lp_iinc_9 {a0 a1 a2 a3 a4 a5 a6 a7 a8 : Option AV} {R : List (Option AV)} {n x : Int} (hd : decode M.2.1 pc = .ok (.iinc 9 n, 3)) (hn : 9 < M.2.2.1) (hlk : lkO LL 9)
    (k : LQ K Z M LL LS ex (pc + 3) (a0 :: a1 :: a2 :: a3 :: a4 :: a5 :: a6 :: a7 :: a8 :: some (.inl (x + n)) :: R) S m Q) : LQ K Z M LL LS ex pc (a0 :: a1 :: a2 :: a3 :: a4 :: a5 :: a6 :: a7 :: a8 :: some (.inl x) :: R) S m Q := fun d r hk => al_iinc hd hn rfl rfl hlk (k d r hk)
theorem lp_ild_10 {a0 a1 a2 a3 a4 a5 a6 a7 a8 a9 : Option AV} {R : List (Option AV)} {x : Int} (hd : decode M.2.1 pc = .ok (.iload 10, 2))
    (k : LQ K Z M LL LS ex (pc + 2) (a0 :: a1 :: a2 :: a3 :: a4 :: a5 :: a6 :: a7 :: a8 :: a9 :: some (.inl x) :: R) (.inl x :: S) m Q) : LQ K Z M LL LS ex pc (a0 :: a1 :: a2 :: a3 :: a4 :: a5 :: a6 :: a7 :: a8 :: a9 :: some (.inl x) :: R) S m Q := fun d r hk => al_ild hd rfl (k d r hk)
theorem lp_ist_10 {a0 a1 a2 a3 a4 a5 a6 a7 a8 a9 : Option AV} {R : List (Option AV)} {o : Option AV} {x : Int} (hd : decode M.2.1 pc = .ok (.istore 10, 2)) (hn : 10 < M.2.2.1) (hlk : lkO LL 10)
    (k : LQ K Z M LL LS ex (pc + 2) (a0 :: a1 :: a2 :: a3 :: a4 :: a5 :: a6 :: a7 :: a8 :: a9 :: some (.inl x) :: R) S m Q) : LQ K Z M LL LS ex pc (a0 :: a1 :: a2 :: a3 :: a4 :: a5 :: a6 :: a7 :: a8 :: a9 :: o :: R) (.inl x :: S) m Q := fun d r hk => al_ist hd hn rfl hlk (k d r hk)
theorem lp_ald_10 {a0 a1 a2 a3 a4 a5 a6 a7 a8 a9 : Option AV} {R : List (Option AV)} {x : Nat} (hd : decode M.2.1 pc = .ok (.aload 10, 2))
    (k : LQ K Z M LL LS ex (pc + 2) (a0 :: a1 :: a2 :: a3 :: a4 :: a5 :: a6 :: a7 :: a8 :: a9 :: some (.inr x) :: R) (.inr x :: S) m Q) : LQ K Z M LL LS ex pc (a0 :: a1 :: a2 :: a3 :: a4 :: a5 :: a6 :: a7 :: a8 :: a9 :: some (.inr x) :: R) S m Q := fun d r hk => al_ald hd rfl (k d r hk)
theorem lp_ast_10 {a0 a1 a2 a3 a4 a5 a6 a7 a8 a9 : Option AV} {R : List (Option AV)} {o : Option AV} {x : Nat} (hd : decode M.2.1 pc = .ok (.astore 10, 2)) (hn : 10 < M.2.2.1) (hlk : lkO LL 10)
    (k : LQ K Z M LL LS ex (pc + 2) (a0 :: a1 :: a2 :: a3 :: a4 :: a5 :: a6 :: a7 :: a8 :: a9 :: some (.inr x) :: R) S m Q) : LQ K Z M LL LS ex pc (a0 :: a1 :: a2 :: a3 :: a4 :: a5 :: a6 :: a7 :: a8 :: a9 :: o :: R) (.inr x :: S) m Q := fun d r hk => al_ast hd hn rfl hlk (k d r hk)
theorem lp_iinc_10 {a0 a1 a2 a3 a4 a5 a6 a7 a8 a9 : Option AV} {R : List (Option AV)} {n x : Int} (hd : decode M.2.1 pc = .ok (.iinc 10 n, 3)) (hn : 10 < M.2.2.1) (hlk : lkO LL 10)
    (k : LQ K Z M LL LS ex (pc + 3) (a0 :: a1 :: a2 :: a3 :: a4 :: a5 :: a6 :: a7 :: a8 :: a9 :: some (.inl (x + n)) :: R) S m Q) : LQ K Z M LL LS ex pc (a0 :: a1 :: a2 :: a3 :: a4 :: a5 :: a6 :: a7 :: a8 :: a9 :: some (.inl x) :: R) S m Q := fun d r hk => al_iinc hd hn rfl rfl hlk (k d r hk)
theorem lp_ild_11 {a0 a1 a2 a3 a4 a5 a6 a7 a8 a9 a10 : Option AV} {R : List (Option AV)} {x : Int} (hd : decode M.2.1 pc = .ok (.iload 11, 2))
    (k : LQ K Z M LL LS ex (pc + 2) (a0 :: a1 :: a2 :: a3 :: a4 :: a5 :: a6 :: a7 :: a8 :: a9 :: a10 :: some (.inl x) :: R) (.inl x :: S) m Q) : LQ K Z M LL LS ex pc (a0 :: a1 :: a2 :: a3 :: a4 :: a5 :: a6 :: a7 :: a8 :: a9 :: a10 :: some (.inl x) :: R) S m Q := fun d r hk => al_ild hd rfl (k d r hk)
theorem lp_ist_11 {a0 a1 a2 a3 a4 a5 a6 a7 a8 a9 a10 : Option AV} {R : List (Option AV)} {o : Option AV} {x : Int} (hd : decode M.2.1 pc = .ok (.istore 11, 2)) (hn : 11 < M.2.2.1) (hlk : lkO LL 11)
    (k : LQ K Z M LL LS ex (pc + 2) (a0 :: a1 :: a2 :: a3 :: a4 :: a5 :: a6 :: a7 :: a8 :: a9 :: a10 :: some (.inl x) :: R) S m Q) : LQ K Z M LL LS ex pc (a0 :: a1 :: a2 :: a3 :: a4 :: a5 :: a6 :: a7 :: a8 :: a9 :: a10 :: o :: R) (.inl x :: S) m Q := fun d r hk => al_ist hd hn rfl hlk (k d r hk)
theorem lp_ald_11 {a0 a1 a2 a3 a4 a5 a6 a7 a8 a9 a10 : Option AV} {R : List (Option AV)} {x : Nat} (hd : decode M.2.1 pc = .ok (.aload 11, 2))
    (k : LQ K Z M LL LS ex (pc + 2) (a0 :: a1 :: a2 :: a3 :: a4 :: a5 :: a6 :: a7 :: a8 :: a9 :: a10 :: some (.inr x) :: R) (.inr x :: S) m Q) : LQ K Z M LL LS ex pc (a0 :: a1 :: a2 :: a3 :: a4 :: a5 :: a6 :: a7 :: a8 :: a9 :: a10 :: some (.inr x) :: R) S m Q := fun d r hk => al_ald hd rfl (k d r hk)
theorem lp_ast_11 {a0 a1 a2 a3 a4 a5 a6 a7 a8 a9 a10 : Option AV} {R : List (Option AV)} {o : Option AV} {x : Nat} (hd : decode M.2.1 pc = .ok (.astore 11, 2)) (hn : 11 < M.2.2.1) (hlk : lkO LL 11)
    (k : LQ K Z M LL LS ex (pc + 2) (a0 :: a1 :: a2 :: a3 :: a4 :: a5 :: a6 :: a7 :: a8 :: a9 :: a10 :: some (.inr x) :: R) S m Q) : LQ K Z M LL LS ex pc (a0 :: a1 :: a2 :: a3 :: a4 :: a5 :: a6 :: a7 :: a8 :: a9 :: a10 :: o :: R) (.inr x :: S) m Q := fun d r hk => al_ast hd hn rfl hlk (k d r hk)
theorem lp_iinc_11 {a0 a1 a2 a3 a4 a5 a6 a7 a8 a9 a10 : Option AV} {R : List (Option AV)} {n x : Int} (hd : decode M.2.1 pc = .ok (.iinc 11 n, 3)) (hn : 11 < M.2.2.1) (hlk : lkO LL 11)
    (k : LQ K Z M LL LS ex (pc + 3) (a0 :: a1 :: a2 :: a3 :: a4 :: a5 :: a6 :: a7 :: a8 :: a9 :: a10 :: some (.inl (x + n)) :: R) S m Q) : LQ K Z M LL LS ex pc (a0 :: a1 :: a2 :: a3 :: a4 :: a5 :: a6 :: a7 :: a8 :: a9 :: a10 :: some (.inl x) :: R) S m Q := fun d r hk => al_iinc hd hn rfl rfl hlk (k d r hk)
theorem lp_ild_12 {a0 a1 a2 a3 a4 a5 a6 a7 a8 a9 a10 a11 : Option AV} {R : List (Option AV)} {x : Int} (hd : decode M.2.1 pc = .ok (.iload 12, 2))
    (k : LQ K Z M LL LS ex (pc + 2) (a0 :: a1 :: a2 :: a3 :: a4 :: a5 :: a6 :: a7 :: a8 :: a9 :: a10 :: a11 :: some (.inl x) :: R) (.inl x :: S) m Q) : LQ K Z M LL LS ex pc (a0 :: a1 :: a2 :: a3 :: a4 :: a5 :: a6 :: a7 :: a8 :: a9 :: a10 :: a11 :: some (.inl x) :: R) S m Q := fun d r hk => al_ild hd rfl (k d r hk)
theorem lp_ist_12 {a0 a1 a2 a3 a4 a5 a6 a7 a8 a9 a10 a11 : Option AV} {R : List (Option AV)} {o : Option AV} {x : Int} (hd : decode M.2.1 pc = .ok (.istore 12, 2)) (hn : 12 < M.2.2.1) (hlk : lkO LL 12)
    (k : LQ K Z M LL LS ex (pc + 2) (a0 :: a1 :: a2 :: a3 :: a4 :: a5 :: a6 :: a7 :: a8 :: a9 :: a10 :: a11 :: some (.inl x) :: R) S m Q) : LQ K Z M LL LS ex pc (a0 :: a1 :: a2 :: a3 :: a4 :: a5 :: a6 :: a7 :: a8 :: a9 :: a10 :: a11 :: o :: R) (.inl x :: S) m Q := fun d r hk => al_ist hd hn rfl hlk (k d r hk)
theorem lp_ald_12 {a0 a1 a2 a3 a4 a5 a6 a7 a8 a9 a10 a11 : Option AV} {R : List (Option AV)} {x : Nat} (hd : decode M.2.1 pc = .ok (.aload 12, 2))
    (k : LQ K Z M LL LS ex (pc + 2) (a0 :: a1 :: a2 :: a3 :: a4 :: a5 :: a6 :: a7 :: a8 :: a9 :: a10 :: a11 :: some (.inr x) :: R) (.inr x :: S) m Q) : LQ K Z M LL LS ex pc (a0 :: a1 :: a2 :: a3 :: a4 :: a5 :: a6 :: a7 :: a8 :: a9 :: a10 :: a11 :: some (.inr x) :: R) S m Q := fun d r hk => al_ald hd rfl (k d r hk)
theorem lp_ast_12 {a0 a1 a2 a3 a4 a5 a6 a7 a8 a9 a10 a11 : Option AV} {R : List (Option AV)} {o : Option AV} {x : Nat} (hd : decode M.2.1 pc = .ok (.astore 12, 2)) (hn : 12 < M.2.2.1) (hlk : lkO LL 12)
    (k : LQ K Z M LL LS ex (pc + 2) (a0 :: a1 :: a2 :: a3 :: a4 :: a5 :: a6 :: a7 :: a8 :: a9 :: a10 :: a11 :: some (.inr x) :: R) S m Q) : LQ K Z M LL LS ex pc (a0 :: a1 :: a2 :: a3 :: a4 :: a5 :: a6 :: a7 :: a8 :: a9 :: a10 :: a11 :: o :: R) (.inr x :: S) m Q := fun d r hk => al_ast hd hn rfl hlk (k d r hk)
theorem lp_iinc_12 {a0 a1 a2 a3 a4 a5 a6 a7 a8 a9 a10 a11 : Option AV} {R : List (Option AV)} {n x : Int} (hd : decode M.2.1 pc = .ok (.iinc 12 n, 3)) (hn : 12 < M.2.2.1) (hlk : lkO LL 12)
    (k : LQ K Z M LL LS ex (pc + 3) (a0 :: a1 :: a2 :: a3 :: a4 :: a5 :: a6 :: a7 :: a8 :: a9 :: a10 :: a11 :: some (.inl (x + n)) :: R) S m Q) : LQ K Z M LL LS ex pc (a0 :: a1 :: a2 :: a3 :: a4 :: a5 :: a6 :: a7 :: a8 :: a9 :: a10 :: a11 :: some (.inl x) :: R) S m Q := fun d r hk => al_iinc hd hn rfl rfl hlk (k d r hk)
theorem lp_iadd {x y : Int} (hd : decode M.2.1 pc = .ok (.iadd, 1))
    (k : LQ K Z M LL LS ex (pc + 1) L (.inl (x + y) :: S) m Q) : LQ K Z M LL LS ex pc L (.inl y :: .inl x :: S) m Q := fun d r hk => al_iadd hd (k d r hk)
theorem lp_isub {x y : Int} (hd : decode M.2.1 pc = .ok (.isub, 1))
    (k : LQ K Z M LL LS ex (pc + 1) L (.inl (x - y) :: S) m Q) : LQ K Z M LL LS ex pc L (.inl y :: .inl x :: S) m Q := fun d r hk => al_isub hd (k d r hk)
theorem lp_imul {x y : Int} (hd : decode M.2.1 pc = .ok (.imul, 1))
    (k : LQ K Z M LL LS ex (pc + 1) L (.inl (x * y) :: S) m Q) : LQ K Z M LL LS ex pc L (.inl y :: .inl x :: S) m Q := fun d r hk => al_imul hd (k d r hk)
theorem lp_iand {x y : Int} (hd : decode M.2.1 pc = .ok (.iand, 1))
    (k : LQ K Z M LL LS ex (pc + 1) L (.inl (iAnd x y) :: S) m Q) : LQ K Z M LL LS ex pc L (.inl y :: .inl x :: S) m Q := fun d r hk => al_iand hd (k d r hk)
theorem lp_ixor {x y : Int} (hd : decode M.2.1 pc = .ok (.ixor, 1))
    (k : LQ K Z M LL LS ex (pc + 1) L (.inl (iXor x y) :: S) m Q) : LQ K Z M LL LS ex pc L (.inl y :: .inl x :: S) m Q := fun d r hk => al_ixor hd (k d r hk)
theorem lp_ishr {x y : Int} (hd : decode M.2.1 pc = .ok (.ishr, 1))
    (k : LQ K Z M LL LS ex (pc + 1) L (.inl (iShr x y) :: S) m Q) : LQ K Z M LL LS ex pc L (.inl y :: .inl x :: S) m Q := fun d r hk => al_ishr hd (k d r hk)
theorem lp_irem {x y : Int} (hd : decode M.2.1 pc = .ok (.irem, 1)) (hr : rng y) (h0 : y ≠ 0)
    (k : LQ K Z M LL LS ex (pc + 1) L (.inl (iRem x y) :: S) m Q) : LQ K Z M LL LS ex pc L (.inl y :: .inl x :: S) m Q := fun d r hk => al_irem hd hr h0 (k d r hk)
theorem lp_ineg {x : Int} (hd : decode M.2.1 pc = .ok (.ineg, 1))
    (k : LQ K Z M LL LS ex (pc + 1) L (.inl (-x) :: S) m Q) : LQ K Z M LL LS ex pc L (.inl x :: S) m Q := fun d r hk => al_ineg hd (k d r hk)
theorem lp_goto {off : Int} (tgt : Nat) (hd : decode M.2.1 pc = .ok (.goto off, 3)) (ht : (pc : Int) + off = (tgt : Int))
    (k : LQ K Z M LL LS ex tgt L S m Q) : LQ K Z M LL LS ex pc L S m Q := fun d r hk => al_goto hd ht (k d r hk)
theorem lp_icmp_lt {x y off : Int} (tgt : Nat) (hd : decode M.2.1 pc = .ok (.if_icmp .lt off, 3)) (ht : (pc : Int) + off = (tgt : Int)) (hx : rng x) (hy0 : rng y)
    (kt : x < y → LQ K Z M LL LS ex tgt L S m Q) (kf : y ≤ x → LQ K Z M LL LS ex (pc + 3) L S m Q) : LQ K Z M LL LS ex pc L (.inl y :: .inl x :: S) m Q := fun d r hk => al_icmp_lt hd ht hx hy0 (fun q => kt q d r hk) (fun q => kf q d r hk)
theorem lp_if_lt {x off : Int} (tgt : Nat) (hd : decode M.2.1 pc = .ok (.ifCond .lt off, 3)) (ht : (pc : Int) + off = (tgt : Int)) (hx : rng x)
    (kt : x < 0 → LQ K Z M LL LS ex tgt L S m Q) (kf : 0 ≤ x → LQ K Z M LL LS ex (pc + 3) L S m Q) : LQ K Z M LL LS ex pc L (.inl x :: S) m Q := fun d r hk => al_if_lt hd ht hx (fun q => kt q d r hk) (fun q => kf q d r hk)
theorem lp_icmp_ge {x y off : Int} (tgt : Nat) (hd : decode M.2.1 pc = .ok (.if_icmp .ge off, 3)) (ht : (pc : Int) + off = (tgt : Int)) (hx : rng x) (hy0 : rng y)
    (kt : y ≤ x → LQ K Z M LL LS ex tgt L S m Q) (kf : x < y → LQ K Z M LL LS ex (pc + 3) L S m Q) : LQ K Z M LL LS ex pc L (.inl y :: .inl x :: S) m Q := fun d r hk => al_icmp_ge hd ht hx hy0 (fun q => kt q d r hk) (fun q => kf q d r hk)
theorem lp_if_ge {x off : Int} (tgt : Nat) (hd : decode M.2.1 pc = .ok (.ifCond .ge off, 3)) (ht : (pc : Int) + off = (tgt : Int)) (hx : rng x)
    (kt : 0 ≤ x → LQ K Z M LL LS ex tgt L S m Q) (kf : x < 0 → LQ K Z M LL LS ex (pc + 3) L S m Q) : LQ K Z M LL LS ex pc L (.inl x :: S) m Q := fun d r hk => al_if_ge hd ht hx (fun q => kt q d r hk) (fun q => kf q d r hk)
theorem lp_icmp_gt {x y off : Int} (tgt : Nat) (hd : decode M.2.1 pc = .ok (.if_icmp .gt off, 3)) (ht : (pc : Int) + off = (tgt : Int)) (hx : rng x) (hy0 : rng y)
    (kt : y < x → LQ K Z M LL LS ex tgt L S m Q) (kf : x ≤ y → LQ K Z M LL LS ex (pc + 3) L S m Q) : LQ K Z M LL LS ex pc L (.inl y :: .inl x :: S) m Q := fun d r hk => al_icmp_gt hd ht hx hy0 (fun q => kt q d r hk) (fun q => kf q d r hk)
theorem lp_if_gt {x off : Int} (tgt : Nat) (hd : decode M.2.1 pc = .ok (.ifCond .gt off, 3)) (ht : (pc : Int) + off = (tgt : Int)) (hx : rng x)
    (kt : 0 < x → LQ K Z M LL LS ex tgt L S m Q) (kf : x ≤ 0 → LQ K Z M LL LS ex (pc + 3) L S m Q) : LQ K Z M LL LS ex pc L (.inl x :: S) m Q := fun d r hk => al_if_gt hd ht hx (fun q => kt q d r hk) (fun q => kf q d r hk)
theorem lp_icmp_le {x y off : Int} (tgt : Nat) (hd : decode M.2.1 pc = .ok (.if_icmp .le off, 3)) (ht : (pc : Int) + off = (tgt : Int)) (hx : rng x) (hy0 : rng y)
    (kt : x ≤ y → LQ K Z M LL LS ex tgt L S m Q) (kf : y < x → LQ K Z M LL LS ex (pc + 3) L S m Q) : LQ K Z M LL LS ex pc L (.inl y :: .inl x :: S) m Q := fun d r hk => al_icmp_le hd ht hx hy0 (fun q => kt q d r hk) (fun q => kf q d r hk)
theorem lp_if_le {x off : Int} (tgt : Nat) (hd : decode M.2.1 pc = .ok (.ifCond .le off, 3)) (ht : (pc : Int) + off = (tgt : Int)) (hx : rng x)
    (kt : x ≤ 0 → LQ K Z M LL LS ex tgt L S m Q) (kf : 0 < x → LQ K Z M LL LS ex (pc + 3) L S m Q) : LQ K Z M LL LS ex pc L (.inl x :: S) m Q := fun d r hk => al_if_le hd ht hx (fun q => kt q d r hk) (fun q => kf q d r hk)
theorem lp_icmp_eq {x y off : Int} (tgt : Nat) (hd : decode M.2.1 pc = .ok (.if_icmp .eq off, 3)) (ht : (pc : Int) + off = (tgt : Int)) (hr : x = y ∨ (rng x ∧ rng y))
    (kt : x = y → LQ K Z M LL LS ex tgt L S m Q) (kf : ¬ x = y → LQ K Z M LL LS ex (pc + 3) L S m Q) : LQ K Z M LL LS ex pc L (.inl y :: .inl x :: S) m Q := fun d r hk => al_icmp_eq hd ht hr (fun q => kt q d r hk) (fun q => kf q d r hk)
theorem lp_if_eq {x off : Int} (tgt : Nat) (hd : decode M.2.1 pc = .ok (.ifCond .eq off, 3)) (ht : (pc : Int) + off = (tgt : Int)) (hx : rng x)
    (kt : x = 0 → LQ K Z M LL LS ex tgt L S m Q) (kf : ¬ x = 0 → LQ K Z M LL LS ex (pc + 3) L S m Q) : LQ K Z M LL LS ex pc L (.inl x :: S) m Q := fun d r hk => al_if_eq hd ht hx (fun q => kt q d r hk) (fun q => kf q d r hk)
theorem lp_icmp_ne {x y off : Int} (tgt : Nat) (hd : decode M.2.1 pc = .ok (.if_icmp .ne off, 3)) (ht : (pc : Int) + off = (tgt : Int)) (hr : x = y ∨ (rng x ∧ rng y))
    (kt : ¬ x = y → LQ K Z M LL LS ex tgt L S m Q) (kf : x = y → LQ K Z M LL LS ex (pc + 3) L S m Q) : LQ K Z M LL LS ex pc L (.inl y :: .inl x :: S) m Q := fun d r hk => al_icmp_ne hd ht hr (fun q => kt q d r hk) (fun q => kf q d r hk)
theorem lp_if_ne {x off : Int} (tgt : Nat) (hd : decode M.2.1 pc = .ok (.ifCond .ne off, 3)) (ht : (pc : Int) + off = (tgt : Int)) (hx : rng x)
    (kt : ¬ x = 0 → LQ K Z M LL LS ex tgt L S m Q) (kf : x = 0 → LQ K Z M LL LS ex (pc + 3) L S m Q) : LQ K Z M LL LS ex pc L (.inl x :: S) m Q := fun d r hk => al_if_ne hd ht hx (fun q => kt q d r hk) (fun q => kf q d r hk)
theorem lp_tswIn {dflt lo hi : Int} {offs : Array Int} {len : Nat} {x off : Int} (tgt : Nat) (hd : decode M.2.1 pc = .ok (.tableswitch dflt lo hi offs, len)) (hr : rng x) (h1 : lo ≤ x) (h2 : x ≤ hi) (ho : offs[(x - lo).toNat]? = some off) (ht : (pc : Int) + off = (tgt : Int))
    (k : LQ K Z M LL LS ex tgt L S m Q) : LQ K Z M LL LS ex pc L (.inl x :: S) m Q := fun d r hk => al_tswIn hd hr h1 h2 ho ht (k d r hk)
theorem lp_tswOut {dflt lo hi : Int} {offs : Array Int} {len : Nat} {x : Int} (tgt : Nat) (hd : decode M.2.1 pc = .ok (.tableswitch dflt lo hi offs, len)) (hr : rng x) (h1 : x < lo ∨ hi < x) (ht : (pc : Int) + dflt = (tgt : Int))
    (k : LQ K Z M LL LS ex tgt L S m Q) : LQ K Z M LL LS ex pc L (.inl x :: S) m Q := fun d r hk => al_tswOut hd hr h1 ht (k d r hk)
end LPS
