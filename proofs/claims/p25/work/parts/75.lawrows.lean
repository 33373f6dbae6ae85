
section LR
variable {K : Nat} {Z : ZB} {M : MI} {LL : List (Nat × Int64)} {LS : List Int64} {ex : List ShC} {pc : Nat} {L : List (Option AV)} {S : List AV} {m : AM} {Q : Option Int → AM → Prop}
theorem lp_keep {m' m'' : AM} (h : m = m') (h1 : ∀ (k : Nat) (j : Int), k < 100 → m'' k j = m' k j) (h2 : ∀ (k : Nat) (j : Int), 100 ≤ k → k < 100 + ex.length → m'' k j = m k j) (k : LQ K Z M LL LS ex pc L S m Q) : LQ K Z M LL LS ex pc L S m'' Q := by
  subst h
  refine LQ.mem (fun q j hq => ?_) k
  by_cases c : q < 100
  · exact h1 q j c
  · exact h2 q j (by omega) hq
theorem lp_invSR {idx n K' : Nat} {M' : MI} {av rest : List AV} {R : Option Int → Prop} (hd : decode M.2.1 pc = .ok (.invokestatic idx, 3)) (hb : aMS M.1.cls idx M' n) (hM : CS K' M' av m (fun v m' => R v ∧ m = m')) (hS : S = av.reverse ++ rest) (hn : av.length = n) (hrest : rest.length + 2 * LS.length ≤ 8) (hK : K' + 2 ≤ K) (hml : M'.2.2.1 ≤ 40) (hO : exO Z ex)
    (kk : ∀ v, R v → LQ K Z M LL LS ex (pc + 3) L (v.toList.map .inl ++ rest) m Q) : LQ K Z M LL LS ex pc L S m Q :=
  lp_invS hd hb hM hS hn hrest hK hml hO (fun v m' m'' hq h1 h2 => lp_keep hq.2 h1 h2 (kk v hq.1))
theorem lp_invSXR {idx n K' : Nat} {M' : MI} {av rest : List AV} {R : Option Int → Prop} (hd : decode M.2.1 pc = .ok (.invokestatic idx, 3)) (hb : aMS M.1.cls idx M' n) (hM : CX Z.2.1 K' M' av m (fun v m' => R v ∧ m = m')) (hS : S = av.reverse ++ rest) (hn : av.length = n) (hrest : rest.length + 2 * LS.length ≤ 8) (hK : K' + 2 ≤ K) (hml : M'.2.2.1 ≤ 40) (hO : exO Z ex)
    (kk : ∀ v, R v → LQ K Z M LL LS ex (pc + 3) L (v.toList.map .inl ++ rest) m Q) : LQ K Z M LL LS ex pc L S m Q :=
  lp_invSX hd hb hM hS hn hrest hK hml hO (fun v m' m'' hq h1 h2 => lp_keep hq.2 h1 h2 (kk v hq.1))
theorem lp_invSLR {idx n K' : Nat} {M' : MI} {av : List AV} {x : Int64} (hd : decode M.2.1 pc = .ok (.invokestatic idx, 3)) (hb : aMS M.1.cls idx M' n) (hM : CL K' M' av m (fun v m' => v = x ∧ m = m')) (hS : S = av.reverse) (hn : av.length = n) (hrest : 2 * LS.length ≤ 8) (hK : K' + 2 ≤ K) (hml : M'.2.2.1 ≤ 40) (hO : exO Z ex)
    (kk : LQ K Z M LL (x :: LS) ex (pc + 3) L [] m Q) : LQ K Z M LL LS ex pc L S m Q :=
  lp_invSL hd hb hM hS hn hrest hK hml hO (fun v m' m'' hq h1 h2 => by
    rw [hq.1]
    exact lp_keep hq.2 h1 h2 kk)
theorem LQ.drop (k : LQ K Z M [] LS ex pc L S m Q) : LQ K Z M LL LS ex pc L S m Q := by
  intro d r hk l p e R s mm args below meth c H locs cells slots A dC dI dA ad ad0 ls n0 m0 QQ hs hf hfl hy hl
  exact k d r hk l p e R s mm args below meth c H locs cells slots A dC dI dA ad ad0 ls n0 m0 QQ hs hf hfl hy (fun q hq => by cases hq)
end LR
/-! the rows that isPlan leaves behind -/
def nPl (t : Nat) : Nat := 1 + (t + 2) / 8
def exT (t : Nat) : List ShC := List.replicate (nPl t) cHas
theorem exT_S {t : Nat} (h : t % 8 = 5) : exT t ++ [cHas] = exT (t + 1) := by
  unfold exT
  rw [← List.replicate_succ', show nPl t + 1 = nPl (t + 1) by unfold nPl; omega]
theorem exT_N {t : Nat} (h : t % 8 ≠ 5) : exT t = exT (t + 1) := by
  unfold exT
  rw [show nPl t = nPl (t + 1) by unfold nPl; omega]
theorem slS_rep (n : Nat) : slS (List.replicate n cHas) = 6 * n := by
  induction n with
  | zero => rfl
  | succ n ih =>
    rw [List.replicate_succ, show cHas :: List.replicate n cHas = [cHas] ++ List.replicate n cHas from rfl, slS_app, ih]
    show 6 + 6 * n = _
    omega
def zL (X : AX) : ZB := ((108, 5406), X, (fun _ _ => False), List.replicate 8 cHas)
theorem exT_O (X : AX) {t : Nat} (h : t ≤ 60) : exO (zL X) (exT t) := by
  have e : nPl t ≤ 8 := by unfold nPl; omega
  refine ⟨fun c hc => ⟨0, 6, (List.eq_of_mem_replicate hc)⟩, ?_, ?_, ?_⟩
  · unfold exT; rw [List.length_replicate]; omega
  · show 100 + (exT t).length ≤ 108; unfold exT; rw [List.length_replicate]; omega
  · show 5358 + slS (exT t) ≤ 5406; unfold exT; rw [slS_rep]; omega
theorem exT_len (t : Nat) : (exT t).length = nPl t := by unfold exT; exact List.length_replicate
theorem exT_sl (t : Nat) : slS (exT t) = 6 * nPl t := slS_rep _
theorem ex0_O (X : AX) : exO (zL X) [] := ⟨fun c hc => (by cases hc), Nat.zero_le _, Nat.le_of_ble_eq_true rfl, Nat.le_of_ble_eq_true rfl⟩
/-! the first row -/
def rowI : Int → Int := fun j => if j = 114 then 3 else if j = 115 then 2 else if j = 116 then 120 else 0
theorem rowI_0 {j : Int} (h : j < 114 ∨ 116 < j) : rowI j = 0 := by unfold rowI; rw [if_neg (by omega), if_neg (by omega), if_neg (by omega)]
theorem GI_start {m1 : AM} (c1 : ∀ (k : Nat) (j : Int), (3 ≤ k ∧ k ≤ 5) ∨ (7 ≤ k ∧ k ≤ 11) ∨ (13 ≤ k ∧ k ≤ 14) ∨ k = 16 → m1 k j = 0) (c2 : m1 2 3 = 0) (c3 : m1 15 0 = 3) (c4 : m1 15 1 = 2) (c5 : m1 15 2 = 120) (c6 : m1 17 1 = 0) (c7 : m1 17 2 = 0) (c8 : ∀ x : Int, 0 ≤ x → x < 64 → m1 93 x = stp x) (c9 : m1 98 1 = 0) (c10 : m1 0 6 = 1) : GI rowI 0 (fun _ _ => 0) m1 := by
  have q0 : rowI 0 = 0 := rowI_0 (by omega)
  have qs : ∀ f : Int, 0 ≤ f → f < 7 → szR rowI f = 0 := fun f a b => rowI_0 (by omega)
  have qc : ∀ f : Int, 0 ≤ f → f < 7 → crR rowI f = 0 := fun f a b => rowI_0 (by omega)
  have qw : ∀ f : Int, 0 ≤ f → f < 6 → rowI (126 + 4 * f) = 0 := fun f a b => rowI_0 (by omega)
  have r4 : rowI 114 = 3 := by decide
  have r5 : rowI 115 = 2 := by decide
  have r6 : rowI 116 = 120 := by decide
  have q7 : rowI 117 = 0 := by decide
  refine ⟨⟨⟨⟨?_, fun c a b => ?_⟩, ⟨fun f a b => ?_, fun f l a b c d => ?_⟩, ?_, fun f a b => ?_⟩, ⟨⟨?_, fun c a b => ?_⟩, ⟨fun f a b => ?_, fun f l a b c d => ?_, fun f a b => ?_⟩, ⟨fun k a b => ?_, fun k a b => ?_⟩, fun f a b => ?_⟩⟩, ⟨⟨?_, ?_, ?_, fun k a b => ?_⟩, fun k a b => ?_⟩, c9, c8, Or.inr c10, fun q => ?_⟩
  · rw [q0]; omega
  · rw [q0] at b; omega
  · rw [qs f a b]; exact ⟨by omega, Or.inl (qc f a b)⟩
  · rw [qs f a b] at d; omega
  · exact ⟨by rw [r4]; omega, by rw [r5]; omega, by rw [r6]; omega, by rw [q7]; omega, qc 6 (by omega) (by omega)⟩
  · rw [qw f a b]
    exact ⟨by omega, fun k x y => by omega⟩
  · rw [q0]; exact c2
  · rw [q0] at b; omega
  · rw [qs f a b]; exact c1 7 f (by omega)
  · rw [qs f a b] at d; omega
  · rw [qc f a (by omega)]; exact c1 11 f (by omega)
  · rcases (by omega : k = 0 ∨ k = 1 ∨ k = 2) with rfl | rfl | rfl
    · exact c3.trans r4.symm
    · exact c4.trans r5.symm
    · exact c5.trans r6.symm
  · rw [rowI_0 (by omega)]; exact c1 16 k (by omega)
  · rw [qw f a b]
    exact ⟨c1 13 f (by omega), fun k x y => by omega⟩
  · exact c7
  · omega
  · show 0 ≤ m1 17 1 ∧ m1 17 1 ≤ 3
    rw [c6]; omega
  · omega
  · omega
  · rw [c10] at q; omega
theorem JJ_start : JJ rowI := by
  have qs : ∀ f : Int, 0 ≤ f → f < 7 → szR rowI f = 0 := fun f a b => rowI_0 (by omega)
  have qc : ∀ f : Int, 0 ≤ f → f < 7 → crR rowI f = 0 := fun f a b => rowI_0 (by omega)
  have e1 : layN rowI = 0 := sumL_zero (fun i hi => qs i (by omega) (by omega))
  have e2 : crkN rowI = 0 := sumL_zero (fun i hi => qc i (by omega) (by omega))
  refine ⟨by rw [e1]; decide, by rw [e2]; decide, fun f l a b c d => ?_, fun f a b c => ?_⟩
  · rw [qs f a b] at d; omega
  · rw [qc f a (by omega)] at c; omega

