theorem sh_fresh : ((rfH (SH ++ [cHas])).all (fun r => r != 100)) = true := by decide +kernel
set_option maxHeartbeats 100000 in
theorem qL_isPlan {r : Int → Int} {n : Int} {H : Int → Int → Int} (m : AM) (I : GI r n H m) : CP 6 mL_isPlan [.inr 0] m (fun v m' => v = some 1 ∧ GI r n H m') := by
  intro X d rr hk
  refine ac_of (by decide +kernel) (Nat.le_of_ble_eq_true rfl) ?_
  show AW mL_isPlan (X, d, rr, SH.length + 1, slS SH + 6) _ _ _ _ _
  rw [SH_len, SH_sl]
  show AW mL_isPlan (X, d, rr, 101, 5364) 0 [some (.inr 0), none, none, none, none, none, none, none, none, none, none, none, none, none] [] (SH, m) _
  refine aw_ald_n (x := 0) dL_isPlan_0 rfl rfl ?_
  obtain ⟨r1, r2, r3⟩ := rk_call (K' := 5) (ml := mX8_leastFirings.2.2.1) hk (by decide) (by decide)
  refine aw_invV dL_isPlan_1 mv_RL_83 sh_0 (av := []) (rest := []) rfl rfl (by decide) (k_least I X _ _ r1) r2 r3 (by show SH.length + 0 ≤ 1000; rw [SH_len]; decide) (aKeep0 _ _ _) (by show SH.length + 0 ≤ 101; rw [SH_len]; decide) (by show slS SH + 0 ≤ 5364; rw [SH_sl]; decide) (fun v h' hq _ _ => ?_)
  obtain ⟨sh', m0⟩ := h'
  obtain ⟨e, rfl, ⟨F, pF⟩, z6, I0⟩ := hq
  simp only at e pF z6 I0
  subst e
  obtain ⟨S, hP⟩ := plan_facts (wOK_of I.1.1) pF
  show AW mL_isPlan (X, d, rr, 101, 5364) 4 _ [.inl (if m0 91 7 = 1 then m0 91 6 else -4)] (SH, m0) _
  generalize hN : (if m0 91 7 = 1 then m0 91 6 else -4) = N at hP ⊢
  refine aw_ist_n (i := 1) dL_isPlan_4 rfl (by decide) rfl ?_
  refine aw_bipush dL_isPlan_5 bp_6 ?_
  refine aw_newarr (t := 0) (N := 6) (ty := .int) dL_isPlan_7 ka_int (Or.inl ⟨rfl, rfl, rfl⟩) rfl (by decide) (by show SH.length < 1000; rw [SH_len]; decide) (by show aFresh SH.length (SH ++ [cHas]) _ _ = true; rw [SH_len]; unfold aFresh; rw [sh_fresh]; rfl) (by show SH.length + 1 ≤ 101; rw [SH_len]; decide) (by show slS SH + 6 ≤ 5364; rw [SH_sl]; decide) ?_
  show AW mL_isPlan (X, d, rr, 101, 5364) 9 _ [.inr SH.length] (SH ++ [cHas], am_new m0 SH.length) _
  rw [SH_len]
  refine aw_ast_n (i := 2) (x := 100) dL_isPlan_9 rfl (by decide) rfl ?_
  refine AL.toW (QL := fun _ _ => False) (by decide) ?_
  have PP : PI m0 (fun _ => 0) (am_new m0 100) := ⟨fun k j hk => if_neg (by omega), fun f a b => if_pos rfl⟩
  have OO : exO ((101, 5364), X, (fun _ _ => False), [cHas]) [cHas] := ⟨fun c hc => ⟨0, 6, List.mem_singleton.mp hc⟩, Nat.le_of_ble_eq_true rfl, Nat.le_of_ble_eq_true rfl, Nat.le_of_ble_eq_true rfl⟩
  have key := qL_isPlan2 (Z := ((101, 5364), X, (fun _ _ => False), [cHas])) (m := am_new m0 100) I0 pF z6 (show isNm m0 N from hN) hP PP OO rfl rfl rfl d rr hk
  exact key

