
theorem iRem_bd {y k : Int} (hy : 0 ≤ y ∧ y ≤ 1000000) (hk : 1 ≤ k ∧ k ≤ 1000000) : 0 ≤ iRem y k ∧ iRem y k < k := by
  rw [iRem_v ⟨by omega, by omega⟩ ⟨by omega, by omega⟩ hy.1]
  exact ⟨Int.emod_nonneg _ (by omega), Int.emod_lt_of_pos _ (by omega)⟩
theorem iDiv_bd {y k : Int} (hy : 0 ≤ y ∧ y ≤ 1000000) (hk : 1 ≤ k ∧ k ≤ 1000000) : 0 ≤ iDiv y k ∧ iDiv y k ≤ 1000000 := by
  rw [iDiv_v ⟨by omega, by omega⟩ ⟨by omega, by omega⟩ hy.1 (by omega)]
  have := Int.ediv_le_self k hy.1
  exact ⟨Int.ediv_nonneg hy.1 (by omega), Int.le_trans (Int.ediv_le_self k hy.1) hy.2⟩
/-- what a change answers and leaves -/
def AQ (r : Int → Int) (n : Int) (H : Int → Int → Int) : Option Int → AM → Prop := fun v m' => ∃ z : Int, v = some z ∧ (-4 ≤ z ∧ z ≤ 10000) ∧ ((0 ≤ z ∧ ∃ r' : Int → Int, JJ r' ∧ GI r' (min (n + 1) 4) (hH n H r) m') ∨ (z < 0 ∧ GI r n H m'))
section KA
variable {r : Int → Int} {n : Int} {H : Int → Int → Int} {m : AM}
theorem ka_color (I : GI r n H m) (J : JJ r) {a b c : Int} (ha : rng a) (hb : rng b) (hc : rng c) : CS 5 mX8_color [.inr 0, .inl a, .inl b, .inl c] m (AQ r n H) :=
  (k_color I ha hb hc).mono (Nat.le_refl _) (fun v m' q => by
    have h12 := I.1.1.1.1
    refine ⟨_, q.1, ?_, ?_⟩
    · unfold vColor; (repeat' split) <;> omega
    · rcases q.2 with z | z
      · refine Or.inl ⟨?_, _, J_color I.1.1 z.1 J, z.2⟩
        unfold vColor; rw [if_pos z.1.1, if_pos z.1.2]; exact h12.1
      · refine Or.inr ⟨?_, by rw [z.2]; exact I⟩
        unfold vColor
        by_cases c1 : (600 ≤ a ∧ a ≤ 900) ∧ (a + 10 ≤ b ∧ b ≤ a + 200) ∧ 60 ≤ c ∧ c ≤ 160
        · rw [if_pos c1, if_neg (fun y => z.1 ⟨c1, y⟩)]; decide
        · rw [if_neg c1]; decide)
theorem ka_put (I : GI r n H m) (J : JJ r) {f c : Int} (hf : rng f) (hc : rng c) : CS 5 mX8_put [.inr 0, .inl f, .inl c] m (AQ r n H) :=
  (k_put I hf hc).mono (Nat.le_refl _) (fun v m' q => by
    classical
    refine ⟨_, q.1, ?_⟩
    by_cases c1 : (0 ≤ f ∧ f ≤ 6) ∧ 0 ≤ c ∧ c < r 0
    · have hz := (I.1.1.2.1.1 f (by omega) (by omega)).1
      by_cases c2 : rawR r f
      · have e := vPut_2 c1 c2
        rw [e.1]
        rcases q.2 with z | z
        · exact absurd z.1 e.2
        · exact ⟨by decide, Or.inr ⟨by decide, by rw [z.2]; exact I⟩⟩
      · by_cases c3 : szR r f < 3
        · have e := vPut_4 c1 c2 c3
          rw [e.1]
          rcases q.2 with z | z
          · exact ⟨by omega, Or.inl ⟨by omega, _, J_put I.1.1 z.1 J, z.2⟩⟩
          · exact absurd e.2 z.1
        · have e := vPut_3 c1 c2 c3
          rw [e.1]
          rcases q.2 with z | z
          · exact absurd z.1 e.2
          · exact ⟨by decide, Or.inr ⟨by decide, by rw [z.2]; exact I⟩⟩
    · have e := vPut_1 c1
      rw [e.1]
      rcases q.2 with z | z
      · exact absurd z.1 e.2
      · exact ⟨by decide, Or.inr ⟨by decide, by rw [z.2]; exact I⟩⟩)
theorem ka_takeOff (I : GI r n H m) (J : JJ r) {f : Int} (hf : rng f) : CS 5 mX8_takeOff [.inr 0, .inl f] m (AQ r n H) :=
  (k_takeOff I hf).mono (Nat.le_refl _) (fun v m' q => by
    classical
    refine ⟨_, q.1, ?_⟩
    by_cases c1 : 0 ≤ f ∧ f ≤ 6
    · have hz := (I.1.1.2.1.1 f (by omega) (by omega)).1
      have h12 := I.1.1.1.1
      by_cases c2 : rawR r f
      · have e := vTake_3 c1 c2
        rw [e.1]
        have c3 := c2.1
        have hl := (I.1.1.2.1.2 f (szR r f - 1) (by omega) (by omega) (by omega) (by omega)).1
        clear c2
        rcases q.2 with z | z
        · exact ⟨by omega, Or.inl ⟨hl.1, _, J_take I.1.1 z.1 J, z.2⟩⟩
        · exact absurd e.2 z.1
      · have e := vTake_2 c1 c2
        rw [e.1]
        rcases q.2 with z | z
        · exact absurd z.1 e.2
        · exact ⟨by decide, Or.inr ⟨by decide, by rw [z.2]; exact I⟩⟩
    · have e := vTake_1 (r := r) c1
      rw [e.1]
      rcases q.2 with z | z
      · exact absurd z.1 e.2
      · exact ⟨by decide, Or.inr ⟨by decide, by rw [z.2]; exact I⟩⟩)
theorem ka_clean (I : GI r n H m) (J : JJ r) : CS 5 mX8_clean [.inr 0] m (AQ r n H) :=
  (k_clean I).mono (Nat.le_refl _) (fun v m' q => by
    have hl := lay_bd I.1.1
    exact ⟨_, q.1, by omega, Or.inl ⟨hl.1, _, J_clean I.1.1 J, q.2⟩⟩)
theorem ka_set (I : GI r n H m) (J : JJ r) {x y : Int} (hx : rng x) (hy : rng y) : CS 5 mX8_set [.inr 0, .inl x, .inl y] m (AQ r n H) :=
  (k_set I hx hy).mono (Nat.le_refl _) (fun v m' q => by
    have hS := I.1.1.2.2.1
    refine ⟨_, q.1, ?_⟩
    rcases q.2 with z | z
    · have ok := z.1
      have e : vSet r x y = r (114 + x) := by unfold vSet; unfold okSet at ok; rw [if_pos ok]
      rw [e]
      have hb : 0 ≤ r (114 + x) ∧ r (114 + x) ≤ 1000 := by
        unfold okSet at ok
        rcases ok with c | c | c
        · rw [c.1]; have := hS.1; show 0 ≤ r 114 ∧ r 114 ≤ 1000; omega
        · rw [c.1]; have := hS.2.1; show 0 ≤ r 115 ∧ r 115 ≤ 1000; omega
        · rw [c.1]; have := hS.2.2.1; show 0 ≤ r 116 ∧ r 116 ≤ 1000; omega
      exact ⟨by omega, Or.inl ⟨hb.1, _, J_set I.1.1 z.1 J, z.2⟩⟩
    · have e : vSet r x y = -1 := by unfold vSet; have no := z.1; unfold okSet at no; rw [if_neg no]
      rw [e]
      exact ⟨by decide, Or.inr ⟨by decide, by rw [z.2]; exact I⟩⟩)
theorem ka_wish (I : GI r n H m) (J : JJ r) {f c : Int} (hf : rng f) (hc : rng c) : CS 5 mX8_wish [.inr 0, .inl f, .inl c] m (AQ r n H) :=
  (k_wish I hf hc).mono (Nat.le_refl _) (fun v m' q => by
    refine ⟨_, q.1, ?_⟩
    rcases q.2 with z | z
    · have ok := z.1
      have hw := (I.1.1.2.2.2 f ok.1.1 (by have := ok.1.2; omega)).1
      have hb : 0 ≤ vWish r f c ∧ vWish r f c ≤ 4 := by
        unfold vWish
        rw [if_pos ⟨ok.1, ok.2.imp id (fun y => y.1)⟩]
        by_cases c1 : c = -1
        · rw [if_pos c1]; decide
        · rw [if_neg c1, if_pos (ok.2.resolve_left c1).2]; omega
      exact ⟨by omega, Or.inl ⟨hb.1, _, J_wish I.1.1 ok J, z.2⟩⟩
    · have e : vWish r f c = -1 ∨ vWish r f c = -3 := by
        unfold vWish
        by_cases c1 : (0 ≤ f ∧ f ≤ 5) ∧ (c = -1 ∨ (0 ≤ c ∧ c < r 0))
        · rw [if_pos c1]
          by_cases c2 : c = -1
          · exact absurd ⟨c1.1, Or.inl c2⟩ z.1
          · rw [if_neg c2, if_neg (fun y => z.1 ⟨c1.1, Or.inr ⟨c1.2.resolve_left c2, y⟩⟩)]; exact Or.inr rfl
        · rw [if_neg c1]; exact Or.inl rfl
      exact ⟨by omega, Or.inr ⟨by omega, by rw [z.2]; exact I⟩⟩)
theorem ka_fire (I : GI r n H m) (J : JJ r) {h t : Int} (hh : rng h) (ht : rng t) : CS 5 mX8_fire [.inr 0, .inl h, .inl t] m (AQ r n H) :=
  (k_fire I hh ht).mono (Nat.le_refl _) (fun v m' q => by
    have hb : 0 ≤ sumF r (spU r h (lgR r t)) 7 ∧ sumF r (spU r h (lgR r t)) 7 ≤ 21 := sumF_bd I.1.1.2.1 (fun x l => by unfold spU fdS; split <;> omega)
    refine ⟨_, q.1, ?_⟩
    rcases q.2 with z | z
    · have e : vFire r h t = sumF r (spU r h (lgR r t)) 7 := by unfold vFire; rw [if_pos ⟨z.1.1, z.1.2.1⟩, if_pos z.1.2.2]
      rw [e]
      exact ⟨by omega, Or.inl ⟨hb.1, _, J_fire I.1.1 (isFire_r I.1.1 _ _ _) J, z.2⟩⟩
    · have e : vFire r h t = -1 ∨ vFire r h t = -3 := by
        unfold vFire
        by_cases c1 : (500 ≤ h ∧ h ≤ 1200) ∧ 1 ≤ t ∧ t ≤ 20
        · rw [if_pos c1, if_neg (fun y => z.1 ⟨c1.1, c1.2, y⟩)]; exact Or.inr rfl
        · rw [if_neg c1]; exact Or.inl rfl
      exact ⟨by omega, Or.inr ⟨by omega, by rw [z.2]; exact I⟩⟩)
end KA

set_option maxHeartbeats 4000000 in
theorem qL_acts {r : Int → Int} {n : Int} {H : Int → Int → Int} (x y : Int) (m : AM) (I : GI r n H m) (J : JJ r) (hy : 0 ≤ y ∧ y < 1000000) (hx : rng x) : CS 6 mL_acts [.inr 0, .inl x, .inl y] m (AQ r n H) := by
  refine cs_of (by decide +kernel) (Nat.le_of_ble_eq_true rfl) rfl ?_
  have wR := I.1.1
  have h12 := wR.1.1
  have hy2 : 0 ≤ y ∧ y ≤ 1000000 := by omega
  have r301 := iRem_bd (k := 301) hy2 (by decide)
  have r2 := iRem_bd (k := 2) hy2 (by decide)
  have r7 := iRem_bd (k := 7) hy2 (by decide)
  have r4 := iRem_bd (k := 4) hy2 (by decide)
  have r3 := iRem_bd (k := 3) hy2 (by decide)
  have r6 := iRem_bd (k := 6) hy2 (by decide)
  have d7 := iDiv_bd (k := 7) hy2 (by decide)
  have d301 := iDiv_bd (k := 301) hy2 (by decide)
  have d5 := iDiv_bd (k := 5) hy2 (by decide)
  have d3 := iDiv_bd (k := 3) hy2 (by decide)
  have d6 := iDiv_bd (k := 6) hy2 (by decide)
  have d4 := iDiv_bd (k := 4) hy2 (by decide)
  have d9 := iDiv_bd (k := 9) hy2 (by decide)
  have e301_40 := iRem_bd (k := 40) d301 (by decide)
  have e301_191 := iRem_bd (k := 191) d301 (by decide)
  have e5_101 := iRem_bd (k := 101) d5 (by decide)
  have e3_5 := iRem_bd (k := 5) d3 (by decide)
  have e3_6 := iRem_bd (k := 6) d3 (by decide)
  have e3_250 := iRem_bd (k := 250) d3 (by decide)
  have e6_13 := iRem_bd (k := 13) d6 (by decide)
  have e4_701 := iRem_bd (k := 701) d4 (by decide)
  have e4_330 := iRem_bd (k := 330) d4 (by decide)
  have e9_7 := iRem_bd (k := 7) d9 (by decide)
  refine ap_ald_0 (pc := 0) dL_acts_0 ?_
  refine ap_const (pc := 1) dL_acts_1 ?_
  refine ap_invV (pc := 2) dL_acts_2 mv_RL_13 sh_0 (av := [_]) (rest := []) (k_count I ⟨by omega, by omega⟩) rfl rfl (Nat.le_of_ble_eq_true rfl) (by decide) (by decide) ?_
  rintro _ _ ⟨rfl, rfl⟩
  rw [vCN_0]
  refine ap_ist_3 (pc := 5) dL_acts_5 (by decide) ?_
  have J22 : ∀ q : Int, rng q → AP 6 mL_acts 22 [some (.inr 0), some (.inl x), some (.inl y), some (.inl (r 0)), some (.inl q), none] [] m (AQ r n H) := by
    intro q hq
    refine ap_ild_1 (pc := 22) dL_acts_22 ?_
    refine ap_bipush (pc := 23) dL_acts_23 bp_20 ?_
    refine ap_invS (pc := 25) dL_acts_25 ms_RL_89 (av := [_, _]) (rest := []) (qL_low _ _ _ (by decide)) rfl rfl (Nat.le_of_ble_eq_true rfl) (by decide) (by decide) ?_
    rintro _ _ ⟨⟨z, rfl, z0, z1⟩, rfl⟩
    rcases (by omega : z = 0 ∨ z = 1 ∨ z = 2 ∨ z = 3 ∨ z = 4 ∨ z = 5 ∨ z = 6 ∨ z = 7 ∨ z = 8 ∨ z = 9 ∨ z = 10 ∨ z = 11 ∨ z = 12 ∨ ((z < 0 ∨ 12 < z))) with h28 | h28 | h28 | h28 | h28 | h28 | h28 | h28 | h28 | h28 | h28 | h28 | h28 | h28
    · skip
      refine ap_tswIn (pc := 28) (off := 68) 96 dL_acts_28 ⟨by omega, by omega⟩ (by omega) (by omega) (by rw [h28]; rfl) rfl ?_
      refine ap_sipush (pc := 96) dL_acts_96 sp_600 ?_
      refine ap_ild_2 (pc := 99) dL_acts_99 ?_
      refine ap_sipush (pc := 100) dL_acts_100 sp_301 ?_
      refine ap_irem (pc := 103) dL_acts_103 ⟨by omega, by omega⟩ (by decide) ?_
      refine ap_iadd (pc := 104) dL_acts_104 ?_
      refine ap_ist_5 (pc := 105) dL_acts_105 (by decide) ?_
      refine ap_ild_3 (pc := 107) dL_acts_107 ?_
      refine ap_bipush (pc := 108) dL_acts_108 bp_6 ?_
      refine ap_icmp_le (pc := 110) 117 dL_acts_110 rfl ⟨by omega, by omega⟩ ⟨by omega, by omega⟩ (fun c110 => ?_) (fun c110 => ?_)
      · skip
        refine ap_ald_0 (pc := 117) dL_acts_117 ?_
        refine ap_ild_5 (pc := 118) dL_acts_118 ?_
        refine ap_ild_5 (pc := 120) dL_acts_120 ?_
        refine ap_bipush (pc := 122) dL_acts_122 bp_10 ?_
        refine ap_iadd (pc := 124) dL_acts_124 ?_
        refine ap_ild_2 (pc := 125) dL_acts_125 ?_
        refine ap_sipush (pc := 126) dL_acts_126 sp_301 ?_
        refine ap_idiv (pc := 129) dL_acts_129 ⟨by omega, by omega⟩ (by decide) ?_
        refine ap_ild_2 (pc := 130) dL_acts_130 ?_
        refine ap_const (pc := 131) dL_acts_131 ?_
        refine ap_irem (pc := 132) dL_acts_132 ⟨by omega, by omega⟩ (by decide) ?_
        refine ap_if_ne (pc := 133) 141 dL_acts_133 rfl ⟨by omega, by omega⟩ (fun c133 => ?_) (fun c133 => ?_)
        · skip
          refine ap_sipush (pc := 141) dL_acts_141 sp_191 ?_
          refine ap_irem (pc := 144) dL_acts_144 ⟨by omega, by omega⟩ (by decide) ?_
          refine ap_iadd (pc := 145) dL_acts_145 ?_
          refine ap_bipush (pc := 146) dL_acts_146 bp_60 ?_
          refine ap_ild_2 (pc := 148) dL_acts_148 ?_
          refine ap_const (pc := 149) dL_acts_149 ?_
          refine ap_idiv (pc := 150) dL_acts_150 ⟨by omega, by omega⟩ (by decide) ?_
          refine ap_bipush (pc := 151) dL_acts_151 bp_101 ?_
          refine ap_irem (pc := 153) dL_acts_153 ⟨by omega, by omega⟩ (by decide) ?_
          refine ap_iadd (pc := 154) dL_acts_154 ?_
          refine ap_invV (pc := 155) dL_acts_155 mv_RL_39 sh_0 (av := [_, _, _]) (rest := []) (ka_color I J ⟨by omega, by omega⟩ ⟨by omega, by omega⟩ ⟨by omega, by omega⟩) rfl rfl (Nat.le_of_ble_eq_true rfl) (by decide) (by decide) ?_
          rintro v m2 ⟨z, rfl, hz⟩
          exact ap_ireturn (pc := 158) dL_acts_158 rfl ⟨z, rfl, hz⟩
        · skip
          refine ap_bipush (pc := 136) dL_acts_136 bp_40 ?_
          refine ap_goto (pc := 138) 144 dL_acts_138 rfl ?_
          refine ap_irem (pc := 144) dL_acts_144 ⟨by omega, by omega⟩ (by decide) ?_
          refine ap_iadd (pc := 145) dL_acts_145 ?_
          refine ap_bipush (pc := 146) dL_acts_146 bp_60 ?_
          refine ap_ild_2 (pc := 148) dL_acts_148 ?_
          refine ap_const (pc := 149) dL_acts_149 ?_
          refine ap_idiv (pc := 150) dL_acts_150 ⟨by omega, by omega⟩ (by decide) ?_
          refine ap_bipush (pc := 151) dL_acts_151 bp_101 ?_
          refine ap_irem (pc := 153) dL_acts_153 ⟨by omega, by omega⟩ (by decide) ?_
          refine ap_iadd (pc := 154) dL_acts_154 ?_
          refine ap_invV (pc := 155) dL_acts_155 mv_RL_39 sh_0 (av := [_, _, _]) (rest := []) (ka_color I J ⟨by omega, by omega⟩ ⟨by omega, by omega⟩ ⟨by omega, by omega⟩) rfl rfl (Nat.le_of_ble_eq_true rfl) (by decide) (by decide) ?_
          rintro v m2 ⟨z, rfl, hz⟩
          exact ap_ireturn (pc := 158) dL_acts_158 rfl ⟨z, rfl, hz⟩
      · skip
        refine ap_const (pc := 113) dL_acts_113 ?_
        refine ap_goto (pc := 114) 158 dL_acts_114 rfl ?_
        exact ap_ireturn (pc := 158) dL_acts_158 rfl ⟨-1, rfl, by decide, Or.inr ⟨by decide, I⟩⟩
    · skip
      refine ap_tswIn (pc := 28) (off := 131) 159 dL_acts_28 ⟨by omega, by omega⟩ (by omega) (by omega) (by rw [h28]; rfl) rfl ?_
      refine ap_ald_0 (pc := 159) dL_acts_159 ?_
      refine ap_ild_2 (pc := 160) dL_acts_160 ?_
      refine ap_bipush (pc := 161) dL_acts_161 bp_7 ?_
      refine ap_irem (pc := 163) dL_acts_163 ⟨by omega, by omega⟩ (by decide) ?_
      refine ap_ild_4 (pc := 164) dL_acts_164 ?_
      refine ap_invV (pc := 166) dL_acts_166 mv_RL_42 sh_0 (av := [_, _]) (rest := []) (ka_put I J ⟨by omega, by omega⟩ hq) rfl rfl (Nat.le_of_ble_eq_true rfl) (by decide) (by decide) ?_
      rintro v m2 ⟨z, rfl, hz⟩
      exact ap_ireturn (pc := 169) dL_acts_169 rfl ⟨z, rfl, hz⟩
    · skip
      refine ap_tswIn (pc := 28) (off := 131) 159 dL_acts_28 ⟨by omega, by omega⟩ (by omega) (by omega) (by rw [h28]; rfl) rfl ?_
      refine ap_ald_0 (pc := 159) dL_acts_159 ?_
      refine ap_ild_2 (pc := 160) dL_acts_160 ?_
      refine ap_bipush (pc := 161) dL_acts_161 bp_7 ?_
      refine ap_irem (pc := 163) dL_acts_163 ⟨by omega, by omega⟩ (by decide) ?_
      refine ap_ild_4 (pc := 164) dL_acts_164 ?_
      refine ap_invV (pc := 166) dL_acts_166 mv_RL_42 sh_0 (av := [_, _]) (rest := []) (ka_put I J ⟨by omega, by omega⟩ hq) rfl rfl (Nat.le_of_ble_eq_true rfl) (by decide) (by decide) ?_
      rintro v m2 ⟨z, rfl, hz⟩
      exact ap_ireturn (pc := 169) dL_acts_169 rfl ⟨z, rfl, hz⟩
    · skip
      refine ap_tswIn (pc := 28) (off := 131) 159 dL_acts_28 ⟨by omega, by omega⟩ (by omega) (by omega) (by rw [h28]; rfl) rfl ?_
      refine ap_ald_0 (pc := 159) dL_acts_159 ?_
      refine ap_ild_2 (pc := 160) dL_acts_160 ?_
      refine ap_bipush (pc := 161) dL_acts_161 bp_7 ?_
      refine ap_irem (pc := 163) dL_acts_163 ⟨by omega, by omega⟩ (by decide) ?_
      refine ap_ild_4 (pc := 164) dL_acts_164 ?_
      refine ap_invV (pc := 166) dL_acts_166 mv_RL_42 sh_0 (av := [_, _]) (rest := []) (ka_put I J ⟨by omega, by omega⟩ hq) rfl rfl (Nat.le_of_ble_eq_true rfl) (by decide) (by decide) ?_
      rintro v m2 ⟨z, rfl, hz⟩
      exact ap_ireturn (pc := 169) dL_acts_169 rfl ⟨z, rfl, hz⟩
    · skip
      refine ap_tswIn (pc := 28) (off := 131) 159 dL_acts_28 ⟨by omega, by omega⟩ (by omega) (by omega) (by rw [h28]; rfl) rfl ?_
      refine ap_ald_0 (pc := 159) dL_acts_159 ?_
      refine ap_ild_2 (pc := 160) dL_acts_160 ?_
      refine ap_bipush (pc := 161) dL_acts_161 bp_7 ?_
      refine ap_irem (pc := 163) dL_acts_163 ⟨by omega, by omega⟩ (by decide) ?_
      refine ap_ild_4 (pc := 164) dL_acts_164 ?_
      refine ap_invV (pc := 166) dL_acts_166 mv_RL_42 sh_0 (av := [_, _]) (rest := []) (ka_put I J ⟨by omega, by omega⟩ hq) rfl rfl (Nat.le_of_ble_eq_true rfl) (by decide) (by decide) ?_
      rintro v m2 ⟨z, rfl, hz⟩
      exact ap_ireturn (pc := 169) dL_acts_169 rfl ⟨z, rfl, hz⟩
    · skip
      refine ap_tswIn (pc := 28) (off := 131) 159 dL_acts_28 ⟨by omega, by omega⟩ (by omega) (by omega) (by rw [h28]; rfl) rfl ?_
      refine ap_ald_0 (pc := 159) dL_acts_159 ?_
      refine ap_ild_2 (pc := 160) dL_acts_160 ?_
      refine ap_bipush (pc := 161) dL_acts_161 bp_7 ?_
      refine ap_irem (pc := 163) dL_acts_163 ⟨by omega, by omega⟩ (by decide) ?_
      refine ap_ild_4 (pc := 164) dL_acts_164 ?_
      refine ap_invV (pc := 166) dL_acts_166 mv_RL_42 sh_0 (av := [_, _]) (rest := []) (ka_put I J ⟨by omega, by omega⟩ hq) rfl rfl (Nat.le_of_ble_eq_true rfl) (by decide) (by decide) ?_
      rintro v m2 ⟨z, rfl, hz⟩
      exact ap_ireturn (pc := 169) dL_acts_169 rfl ⟨z, rfl, hz⟩
    · skip
      refine ap_tswIn (pc := 28) (off := 131) 159 dL_acts_28 ⟨by omega, by omega⟩ (by omega) (by omega) (by rw [h28]; rfl) rfl ?_
      refine ap_ald_0 (pc := 159) dL_acts_159 ?_
      refine ap_ild_2 (pc := 160) dL_acts_160 ?_
      refine ap_bipush (pc := 161) dL_acts_161 bp_7 ?_
      refine ap_irem (pc := 163) dL_acts_163 ⟨by omega, by omega⟩ (by decide) ?_
      refine ap_ild_4 (pc := 164) dL_acts_164 ?_
      refine ap_invV (pc := 166) dL_acts_166 mv_RL_42 sh_0 (av := [_, _]) (rest := []) (ka_put I J ⟨by omega, by omega⟩ hq) rfl rfl (Nat.le_of_ble_eq_true rfl) (by decide) (by decide) ?_
      rintro v m2 ⟨z, rfl, hz⟩
      exact ap_ireturn (pc := 169) dL_acts_169 rfl ⟨z, rfl, hz⟩
    · skip
      refine ap_tswIn (pc := 28) (off := 142) 170 dL_acts_28 ⟨by omega, by omega⟩ (by omega) (by omega) (by rw [h28]; rfl) rfl ?_
      refine ap_ald_0 (pc := 170) dL_acts_170 ?_
      refine ap_ild_2 (pc := 171) dL_acts_171 ?_
      refine ap_bipush (pc := 172) dL_acts_172 bp_7 ?_
      refine ap_irem (pc := 174) dL_acts_174 ⟨by omega, by omega⟩ (by decide) ?_
      refine ap_invV (pc := 175) dL_acts_175 mv_RL_45 sh_0 (av := [_]) (rest := []) (ka_takeOff I J ⟨by omega, by omega⟩) rfl rfl (Nat.le_of_ble_eq_true rfl) (by decide) (by decide) ?_
      rintro v m2 ⟨z, rfl, hz⟩
      exact ap_ireturn (pc := 178) dL_acts_178 rfl ⟨z, rfl, hz⟩
    · skip
      refine ap_tswIn (pc := 28) (off := 151) 179 dL_acts_28 ⟨by omega, by omega⟩ (by omega) (by omega) (by rw [h28]; rfl) rfl ?_
      refine ap_ild_2 (pc := 179) dL_acts_179 ?_
      refine ap_const (pc := 180) dL_acts_180 ?_
      refine ap_irem (pc := 181) dL_acts_181 ⟨by omega, by omega⟩ (by decide) ?_
      refine ap_if_ne (pc := 182) 192 dL_acts_182 rfl ⟨by omega, by omega⟩ (fun c182 => ?_) (fun c182 => ?_)
      · skip
        refine ap_ald_0 (pc := 192) dL_acts_192 ?_
        refine ap_ild_2 (pc := 193) dL_acts_193 ?_
        refine ap_bipush (pc := 194) dL_acts_194 bp_7 ?_
        refine ap_irem (pc := 196) dL_acts_196 ⟨by omega, by omega⟩ (by decide) ?_
        refine ap_invV (pc := 197) dL_acts_197 mv_RL_45 sh_0 (av := [_]) (rest := []) (ka_takeOff I J ⟨by omega, by omega⟩) rfl rfl (Nat.le_of_ble_eq_true rfl) (by decide) (by decide) ?_
        rintro v m2 ⟨z, rfl, hz⟩
        exact ap_ireturn (pc := 200) dL_acts_200 rfl ⟨z, rfl, hz⟩
      · skip
        refine ap_ald_0 (pc := 185) dL_acts_185 ?_
        refine ap_invV (pc := 186) dL_acts_186 mv_RL_92 sh_0 (av := []) (rest := []) (ka_clean I J) rfl rfl (Nat.le_of_ble_eq_true rfl) (by decide) (by decide) ?_
        rintro v m2 ⟨z, rfl, hz⟩
        refine ap_goto (pc := 189) 200 dL_acts_189 rfl ?_
        exact ap_ireturn (pc := 200) dL_acts_200 rfl ⟨z, rfl, hz⟩
    · skip
      refine ap_tswIn (pc := 28) (off := 173) 201 dL_acts_28 ⟨by omega, by omega⟩ (by omega) (by omega) (by rw [h28]; rfl) rfl ?_
      refine ap_ald_0 (pc := 201) dL_acts_201 ?_
      refine ap_ild_2 (pc := 202) dL_acts_202 ?_
      refine ap_const (pc := 203) dL_acts_203 ?_
      refine ap_irem (pc := 204) dL_acts_204 ⟨by omega, by omega⟩ (by decide) ?_
      refine ap_ild_2 (pc := 205) dL_acts_205 ?_
      refine ap_const (pc := 206) dL_acts_206 ?_
      refine ap_irem (pc := 207) dL_acts_207 ⟨by omega, by omega⟩ (by decide) ?_
      refine ap_if_ne (pc := 208) 221 dL_acts_208 rfl ⟨by omega, by omega⟩ (fun c208 => ?_) (fun c208 => ?_)
      · skip
        refine ap_ild_2 (pc := 221) dL_acts_221 ?_
        refine ap_const (pc := 222) dL_acts_222 ?_
        refine ap_irem (pc := 223) dL_acts_223 ⟨by omega, by omega⟩ (by decide) ?_
        refine ap_const (pc := 224) dL_acts_224 ?_
        refine ap_icmp_ne (pc := 225) 237 dL_acts_225 rfl (Or.inr ⟨⟨by omega, by omega⟩, ⟨by omega, by omega⟩⟩) (fun c225 => ?_) (fun c225 => ?_)
        · skip
          refine ap_ild_2 (pc := 237) dL_acts_237 ?_
          refine ap_const (pc := 238) dL_acts_238 ?_
          refine ap_idiv (pc := 239) dL_acts_239 ⟨by omega, by omega⟩ (by decide) ?_
          refine ap_sipush (pc := 240) dL_acts_240 sp_250 ?_
          refine ap_irem (pc := 243) dL_acts_243 ⟨by omega, by omega⟩ (by decide) ?_
          refine ap_invV (pc := 244) dL_acts_244 mv_RL_48 sh_0 (av := [_, _]) (rest := []) (ka_set I J ⟨by omega, by omega⟩ ⟨by omega, by omega⟩) rfl rfl (Nat.le_of_ble_eq_true rfl) (by decide) (by decide) ?_
          rintro v m2 ⟨z, rfl, hz⟩
          exact ap_ireturn (pc := 247) dL_acts_247 rfl ⟨z, rfl, hz⟩
        · skip
          refine ap_ild_2 (pc := 228) dL_acts_228 ?_
          refine ap_const (pc := 229) dL_acts_229 ?_
          refine ap_idiv (pc := 230) dL_acts_230 ⟨by omega, by omega⟩ (by decide) ?_
          refine ap_bipush (pc := 231) dL_acts_231 bp_6 ?_
          refine ap_irem (pc := 233) dL_acts_233 ⟨by omega, by omega⟩ (by decide) ?_
          refine ap_goto (pc := 234) 244 dL_acts_234 rfl ?_
          refine ap_invV (pc := 244) dL_acts_244 mv_RL_48 sh_0 (av := [_, _]) (rest := []) (ka_set I J ⟨by omega, by omega⟩ ⟨by omega, by omega⟩) rfl rfl (Nat.le_of_ble_eq_true rfl) (by decide) (by decide) ?_
          rintro v m2 ⟨z, rfl, hz⟩
          exact ap_ireturn (pc := 247) dL_acts_247 rfl ⟨z, rfl, hz⟩
      · skip
        refine ap_const (pc := 211) dL_acts_211 ?_
        refine ap_ild_2 (pc := 212) dL_acts_212 ?_
        refine ap_const (pc := 213) dL_acts_213 ?_
        refine ap_idiv (pc := 214) dL_acts_214 ⟨by omega, by omega⟩ (by decide) ?_
        refine ap_const (pc := 215) dL_acts_215 ?_
        refine ap_irem (pc := 216) dL_acts_216 ⟨by omega, by omega⟩ (by decide) ?_
        refine ap_iadd (pc := 217) dL_acts_217 ?_
        refine ap_goto (pc := 218) 244 dL_acts_218 rfl ?_
        refine ap_invV (pc := 244) dL_acts_244 mv_RL_48 sh_0 (av := [_, _]) (rest := []) (ka_set I J ⟨by omega, by omega⟩ ⟨by omega, by omega⟩) rfl rfl (Nat.le_of_ble_eq_true rfl) (by decide) (by decide) ?_
        rintro v m2 ⟨z, rfl, hz⟩
        exact ap_ireturn (pc := 247) dL_acts_247 rfl ⟨z, rfl, hz⟩
    · skip
      refine ap_tswIn (pc := 28) (off := 220) 248 dL_acts_28 ⟨by omega, by omega⟩ (by omega) (by omega) (by rw [h28]; rfl) rfl ?_
      refine ap_ald_0 (pc := 248) dL_acts_248 ?_
      refine ap_ild_2 (pc := 249) dL_acts_249 ?_
      refine ap_bipush (pc := 250) dL_acts_250 bp_6 ?_
      refine ap_irem (pc := 252) dL_acts_252 ⟨by omega, by omega⟩ (by decide) ?_
      refine ap_ild_2 (pc := 253) dL_acts_253 ?_
      refine ap_bipush (pc := 254) dL_acts_254 bp_6 ?_
      refine ap_idiv (pc := 256) dL_acts_256 ⟨by omega, by omega⟩ (by decide) ?_
      refine ap_bipush (pc := 257) dL_acts_257 bp_13 ?_
      refine ap_irem (pc := 259) dL_acts_259 ⟨by omega, by omega⟩ (by decide) ?_
      refine ap_if_ne (pc := 260) 267 dL_acts_260 rfl ⟨by omega, by omega⟩ (fun c260 => ?_) (fun c260 => ?_)
      · skip
        refine ap_ild_4 (pc := 267) dL_acts_267 ?_
        refine ap_invV (pc := 269) dL_acts_269 mv_RL_57 sh_0 (av := [_, _]) (rest := []) (ka_wish I J ⟨by omega, by omega⟩ (by first | exact hq | exact ⟨by omega, by omega⟩)) rfl rfl (Nat.le_of_ble_eq_true rfl) (by decide) (by decide) ?_
        rintro v m2 ⟨z, rfl, hz⟩
        exact ap_ireturn (pc := 272) dL_acts_272 rfl ⟨z, rfl, hz⟩
      · skip
        refine ap_const (pc := 263) dL_acts_263 ?_
        refine ap_goto (pc := 264) 269 dL_acts_264 rfl ?_
        refine ap_invV (pc := 269) dL_acts_269 mv_RL_57 sh_0 (av := [_, _]) (rest := []) (ka_wish I J ⟨by omega, by omega⟩ (by first | exact hq | exact ⟨by omega, by omega⟩)) rfl rfl (Nat.le_of_ble_eq_true rfl) (by decide) (by decide) ?_
        rintro v m2 ⟨z, rfl, hz⟩
        exact ap_ireturn (pc := 272) dL_acts_272 rfl ⟨z, rfl, hz⟩
    · skip
      refine ap_tswIn (pc := 28) (off := 220) 248 dL_acts_28 ⟨by omega, by omega⟩ (by omega) (by omega) (by rw [h28]; rfl) rfl ?_
      refine ap_ald_0 (pc := 248) dL_acts_248 ?_
      refine ap_ild_2 (pc := 249) dL_acts_249 ?_
      refine ap_bipush (pc := 250) dL_acts_250 bp_6 ?_
      refine ap_irem (pc := 252) dL_acts_252 ⟨by omega, by omega⟩ (by decide) ?_
      refine ap_ild_2 (pc := 253) dL_acts_253 ?_
      refine ap_bipush (pc := 254) dL_acts_254 bp_6 ?_
      refine ap_idiv (pc := 256) dL_acts_256 ⟨by omega, by omega⟩ (by decide) ?_
      refine ap_bipush (pc := 257) dL_acts_257 bp_13 ?_
      refine ap_irem (pc := 259) dL_acts_259 ⟨by omega, by omega⟩ (by decide) ?_
      refine ap_if_ne (pc := 260) 267 dL_acts_260 rfl ⟨by omega, by omega⟩ (fun c260 => ?_) (fun c260 => ?_)
      · skip
        refine ap_ild_4 (pc := 267) dL_acts_267 ?_
        refine ap_invV (pc := 269) dL_acts_269 mv_RL_57 sh_0 (av := [_, _]) (rest := []) (ka_wish I J ⟨by omega, by omega⟩ (by first | exact hq | exact ⟨by omega, by omega⟩)) rfl rfl (Nat.le_of_ble_eq_true rfl) (by decide) (by decide) ?_
        rintro v m2 ⟨z, rfl, hz⟩
        exact ap_ireturn (pc := 272) dL_acts_272 rfl ⟨z, rfl, hz⟩
      · skip
        refine ap_const (pc := 263) dL_acts_263 ?_
        refine ap_goto (pc := 264) 269 dL_acts_264 rfl ?_
        refine ap_invV (pc := 269) dL_acts_269 mv_RL_57 sh_0 (av := [_, _]) (rest := []) (ka_wish I J ⟨by omega, by omega⟩ (by first | exact hq | exact ⟨by omega, by omega⟩)) rfl rfl (Nat.le_of_ble_eq_true rfl) (by decide) (by decide) ?_
        rintro v m2 ⟨z, rfl, hz⟩
        exact ap_ireturn (pc := 272) dL_acts_272 rfl ⟨z, rfl, hz⟩
    · skip
      refine ap_tswIn (pc := 28) (off := 220) 248 dL_acts_28 ⟨by omega, by omega⟩ (by omega) (by omega) (by rw [h28]; rfl) rfl ?_
      refine ap_ald_0 (pc := 248) dL_acts_248 ?_
      refine ap_ild_2 (pc := 249) dL_acts_249 ?_
      refine ap_bipush (pc := 250) dL_acts_250 bp_6 ?_
      refine ap_irem (pc := 252) dL_acts_252 ⟨by omega, by omega⟩ (by decide) ?_
      refine ap_ild_2 (pc := 253) dL_acts_253 ?_
      refine ap_bipush (pc := 254) dL_acts_254 bp_6 ?_
      refine ap_idiv (pc := 256) dL_acts_256 ⟨by omega, by omega⟩ (by decide) ?_
      refine ap_bipush (pc := 257) dL_acts_257 bp_13 ?_
      refine ap_irem (pc := 259) dL_acts_259 ⟨by omega, by omega⟩ (by decide) ?_
      refine ap_if_ne (pc := 260) 267 dL_acts_260 rfl ⟨by omega, by omega⟩ (fun c260 => ?_) (fun c260 => ?_)
      · skip
        refine ap_ild_4 (pc := 267) dL_acts_267 ?_
        refine ap_invV (pc := 269) dL_acts_269 mv_RL_57 sh_0 (av := [_, _]) (rest := []) (ka_wish I J ⟨by omega, by omega⟩ (by first | exact hq | exact ⟨by omega, by omega⟩)) rfl rfl (Nat.le_of_ble_eq_true rfl) (by decide) (by decide) ?_
        rintro v m2 ⟨z, rfl, hz⟩
        exact ap_ireturn (pc := 272) dL_acts_272 rfl ⟨z, rfl, hz⟩
      · skip
        refine ap_const (pc := 263) dL_acts_263 ?_
        refine ap_goto (pc := 264) 269 dL_acts_264 rfl ?_
        refine ap_invV (pc := 269) dL_acts_269 mv_RL_57 sh_0 (av := [_, _]) (rest := []) (ka_wish I J ⟨by omega, by omega⟩ (by first | exact hq | exact ⟨by omega, by omega⟩)) rfl rfl (Nat.le_of_ble_eq_true rfl) (by decide) (by decide) ?_
        rintro v m2 ⟨z, rfl, hz⟩
        exact ap_ireturn (pc := 272) dL_acts_272 rfl ⟨z, rfl, hz⟩
    · skip
      refine ap_tswOut (pc := 28) 273 dL_acts_28 ⟨by omega, by omega⟩ (by omega) rfl ?_
      refine ap_ald_0 (pc := 273) dL_acts_273 ?_
      refine ap_ild_2 (pc := 274) dL_acts_274 ?_
      refine ap_const (pc := 275) dL_acts_275 ?_
      refine ap_irem (pc := 276) dL_acts_276 ⟨by omega, by omega⟩ (by decide) ?_
      refine ap_if_ne (pc := 277) 294 dL_acts_277 rfl ⟨by omega, by omega⟩ (fun c277 => ?_) (fun c277 => ?_)
      · skip
        refine ap_sipush (pc := 294) dL_acts_294 sp_590 ?_
        refine ap_ild_2 (pc := 297) dL_acts_297 ?_
        refine ap_const (pc := 298) dL_acts_298 ?_
        refine ap_idiv (pc := 299) dL_acts_299 ⟨by omega, by omega⟩ (by decide) ?_
        refine ap_sipush (pc := 300) dL_acts_300 sp_330 ?_
        refine ap_irem (pc := 303) dL_acts_303 ⟨by omega, by omega⟩ (by decide) ?_
        refine ap_iadd (pc := 304) dL_acts_304 ?_
        refine ap_const (pc := 305) dL_acts_305 ?_
        refine ap_ild_2 (pc := 306) dL_acts_306 ?_
        refine ap_bipush (pc := 307) dL_acts_307 bp_9 ?_
        refine ap_idiv (pc := 309) dL_acts_309 ⟨by omega, by omega⟩ (by decide) ?_
        refine ap_bipush (pc := 310) dL_acts_310 bp_7 ?_
        refine ap_irem (pc := 312) dL_acts_312 ⟨by omega, by omega⟩ (by decide) ?_
        refine ap_iadd (pc := 313) dL_acts_313 ?_
        refine ap_invV (pc := 314) dL_acts_314 mv_RL_51 sh_0 (av := [_, _]) (rest := []) (ka_fire I J ⟨by omega, by omega⟩ ⟨by omega, by omega⟩) rfl rfl (Nat.le_of_ble_eq_true rfl) (by decide) (by decide) ?_
        rintro v m2 ⟨z, rfl, hz⟩
        exact ap_ireturn (pc := 317) dL_acts_317 rfl ⟨z, rfl, hz⟩
      · skip
        refine ap_sipush (pc := 280) dL_acts_280 sp_500 ?_
        refine ap_ild_2 (pc := 283) dL_acts_283 ?_
        refine ap_const (pc := 284) dL_acts_284 ?_
        refine ap_idiv (pc := 285) dL_acts_285 ⟨by omega, by omega⟩ (by decide) ?_
        refine ap_sipush (pc := 286) dL_acts_286 sp_701 ?_
        refine ap_irem (pc := 289) dL_acts_289 ⟨by omega, by omega⟩ (by decide) ?_
        refine ap_iadd (pc := 290) dL_acts_290 ?_
        refine ap_goto (pc := 291) 305 dL_acts_291 rfl ?_
        refine ap_const (pc := 305) dL_acts_305 ?_
        refine ap_ild_2 (pc := 306) dL_acts_306 ?_
        refine ap_bipush (pc := 307) dL_acts_307 bp_9 ?_
        refine ap_idiv (pc := 309) dL_acts_309 ⟨by omega, by omega⟩ (by decide) ?_
        refine ap_bipush (pc := 310) dL_acts_310 bp_7 ?_
        refine ap_irem (pc := 312) dL_acts_312 ⟨by omega, by omega⟩ (by decide) ?_
        refine ap_iadd (pc := 313) dL_acts_313 ?_
        refine ap_invV (pc := 314) dL_acts_314 mv_RL_51 sh_0 (av := [_, _]) (rest := []) (ka_fire I J ⟨by omega, by omega⟩ ⟨by omega, by omega⟩) rfl rfl (Nat.le_of_ble_eq_true rfl) (by decide) (by decide) ?_
        rintro v m2 ⟨z, rfl, hz⟩
        exact ap_ireturn (pc := 317) dL_acts_317 rfl ⟨z, rfl, hz⟩
  refine ap_ild_3 (pc := 6) dL_acts_6 ?_
  refine ap_if_ne (pc := 7) 14 dL_acts_7 rfl ⟨by omega, by omega⟩ (fun c7 => ?_) (fun c7 => ?_)
  · skip
    refine ap_ild_2 (pc := 14) dL_acts_14 ?_
    refine ap_bipush (pc := 15) dL_acts_15 bp_7 ?_
    refine ap_idiv (pc := 17) dL_acts_17 ⟨by omega, by omega⟩ (by decide) ?_
    refine ap_ild_3 (pc := 18) dL_acts_18 ?_
    refine ap_irem (pc := 19) dL_acts_19 ⟨by omega, by omega⟩ (by omega) ?_
    refine ap_ist_4 (pc := 20) dL_acts_20 (by decide) ?_
    exact J22 _ (by first | exact iRem_rng | exact ⟨by omega, by omega⟩)
  · skip
    refine ap_const (pc := 10) dL_acts_10 ?_
    refine ap_goto (pc := 11) 20 dL_acts_11 rfl ?_
    refine ap_ist_4 (pc := 20) dL_acts_20 (by decide) ?_
    exact J22 _ (by first | exact iRem_rng | exact ⟨by omega, by omega⟩)

