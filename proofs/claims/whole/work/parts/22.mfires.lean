theorem cnt_le {r : Int → Int} {f a b : Int} (hn : szR r f ≤ 3) : cntR r f a b ≤ 3 := by
  have key : ∀ k : Nat, sumL (fun l => if a ≤ stR r f l ∧ stR r f l ≤ b then 1 else 0) k ≤ k := by
    intro k
    induction k with
    | zero => exact Int.le_refl _
    | succ k ih => rw [sumL_succ]; split <;> omega
  have := key (szR r f).toNat
  unfold cntR
  omega

set_option maxHeartbeats 4000000 in
theorem qX9_fires (h mn lg : Int) (m : AM) (hh : 500 ≤ h ∧ h ≤ 1200) (hmn : 1 ≤ mn ∧ mn ≤ 20) (hlgd : (mn ≥ m 101 114 ∧ lg = 1) ∨ (mn < m 101 114 ∧ lg = 0)) (wC : wfC (m 101)) (wP : wfP (m 101)) (wS : wfS (m 101)) : CS 5 mX9_fires [.inr 100, .inl h, .inl mn] m (fun v m' => v = none ∧ isFire (m 101) h lg mn (m' 101) ∧ ∀ (k : Nat) (j : Int), k ≠ 101 → m' k j = m k j) := by
  refine cs_of (by decide +kernel) (Nat.le_of_ble_eq_true rfl) rfl ?_
  generalize hr : m 101 = r at wC wP wS hlgd ⊢
  have hR : ∀ j : Int, m 101 j = r j := fun j => by rw [hr]
  refine ap_ald_0 (pc := 0) dX9_fires_0 ?_
  refine ap_getR (pc := 1) dX9_fires_1 fl_RX9_7 sh_100 rfl ?_
  refine ap_bipush (pc := 4) dX9_fires_4 bp_117 ?_
  refine ap_dup2 (pc := 6) dX9_fires_6 ?_
  refine ap_iaload (pc := 7) dX9_fires_7 sh_101 (by omega) (by omega) (by decide) ?_
  refine ap_const (pc := 8) dX9_fires_8 ?_
  refine ap_iadd (pc := 9) dX9_fires_9 ?_
  refine ap_iastore (pc := 10) dX9_fires_10 sh_101 (by omega) (by omega) (by decide) ?_
  refine ap_ald_0 (pc := 11) dX9_fires_11 ?_
  refine ap_getR (pc := 12) dX9_fires_12 fl_RX9_7 sh_100 rfl ?_
  refine ap_bipush (pc := 15) dX9_fires_15 bp_118 ?_
  refine ap_dup2 (pc := 17) dX9_fires_17 ?_
  refine ap_iaload (pc := 18) dX9_fires_18 sh_101 (by omega) (by omega) (by decide) ?_
  try simp (disch := omega) only [am_same, am_k, am_j]
  refine ap_ild_2 (pc := 19) dX9_fires_19 ?_
  refine ap_iadd (pc := 20) dX9_fires_20 ?_
  refine ap_iastore (pc := 21) dX9_fires_21 sh_101 (by omega) (by omega) (by decide) ?_
  refine ap_const (pc := 22) dX9_fires_22 ?_
  refine ap_ist_3 (pc := 23) dX9_fires_23 (by decide) ?_
  have hinit : mI r h lg mn m ((0 : Nat) : Int) 0 (am_up (am_up m 101 117 (m 101 117 + 1)) 101 118 (m 101 118 + mn)) := by
    refine ⟨fun k j hk => by rw [am_k hk, am_k hk], fun j hj => by rw [am_j (by omega), am_j (by omega)]; exact hR j, ?_, ?_, fun x x0 x7 => ?_, fun x y x0 x7 y0 yl => ⟨?_, fun z => absurd z (by omega), fun _ => ⟨?_, ?_⟩⟩, fun x x0 x7 => ⟨fun z => absurd z (by omega), fun _ => ?_⟩, ?_, ?_, ?_, ?_⟩
    · rw [am_j (by omega), am_same, hR]
    · rw [am_same, hR]
    · simp only [szR]; rw [am_j (by omega), am_j (by omega), hR]
    · have hzx := (wP.1 x x0 x7).1
      simp only [coR]; rw [am_j (by omega), am_j (by omega), hR]
    · have hzx := (wP.1 x x0 x7).1
      simp only [stR]; rw [am_j (by omega), am_j (by omega), hR]
    · have hzx := (wP.1 x x0 x7).1
      simp only [soR]; rw [am_j (by omega), am_j (by omega), hR]
    · simp only [crR]; rw [am_j (by omega), am_j (by omega), hR]
    · rw [am_j (by omega), am_j (by omega), hR]; exact (Int.add_zero _).symm
    · rw [am_j (by omega), am_j (by omega), hR]; exact (Int.add_zero _).symm
    · rw [am_j (by omega), am_j (by omega), hR]; exact (Int.add_zero _).symm
    · rw [am_j (by omega), am_j (by omega), hR]; simp only [Int.toNat_natCast, cntM, sumL, Int.add_zero]
  refine AP.bk (up_rec 7 (fun f => ∀ mi : AM, mI r h lg mn m f 0 mi → AP 5 mX9_fires 24 [some (.inr 100), some (.inl h), some (.inl mn), some (.inl (f : Int)), none, none, none] [] mi (fun v m' => v = none ∧ isFire r h lg mn (m' 101) ∧ ∀ (k : Nat) (j : Int), k ≠ 101 → m' k j = m k j)) (by omega) (fun f hf7 ihf mi hi0 => ?_) _ hinit) ⟨rfl, rfl, rfl, rfl, trivial, trivial, trivial, trivial⟩ rfl
  refine ap_ild_3 (pc := 24) dX9_fires_24 ?_
  refine ap_bipush (pc := 25) dX9_fires_25 bp_7 ?_
  refine ap_icmp_ge (pc := 27) 132 dX9_fires_27 rfl ⟨by omega, by omega⟩ ⟨by omega, by omega⟩ (fun c27 => ?_) (fun c27 => ?_)
  · skip
    have e7 : f = 7 := by omega
    subst e7
    have hc0 : mC r h lg mn m 0 mi := by
      obtain ⟨i1, i2, i3, i4, i5, i6, i7, i8, i9, i10, i11⟩ := hi0
      have n6 : ¬ spM r h lg 6 := fun z => by have := z.1; have := wS.2.2.2.2; omega
      refine ⟨i1, fun j hj => i2 j (by omega), i3, i4, i5, fun x x0 x6 => ⟨fun z => absurd z (by omega), fun _ => (i7 x x0 (by omega)).1 (by omega)⟩, ?_, fun x y x0 x7 y0 yl => ?_, ?_, ?_, ?_, ?_, ?_⟩
      · rw [((i7 6 (by omega) (by omega)).1 (by omega)).2 n6]; exact wS.2.2.2.2
      · have h6 := i6 x y x0 x7 y0 yl
        exact ⟨h6.1, (h6.2.1 (by omega)).1, (h6.2.1 (by omega)).2⟩
      · rw [i8]; exact congrArg _ (Int.add_zero _)
      · rw [i10]; exact congrArg _ (Int.add_zero _)
      · rw [i9]; exact congrArg _ (Int.add_zero _)
      · rw [i2 124 (by omega)]; exact (Int.add_zero _).symm
      · rw [i11]; exact congrArg _ ((cntM_succ r h lg 6).2 n6)
    have MF := mC_facts wC wP wS hc0
    refine ap_ald_0 (pc := 132) dX9_fires_132 ?_
    refine ap_bipush (pc := 133) dX9_fires_133 bp_6 ?_
    refine ap_invV (pc := 135) dX9_fires_135 mv_RX9_76 sh_100 (av := [_]) (rest := []) (qX9_pull _ _ (by omega) (by omega) (MF.1 _ (by omega) (by omega)) (fun l a b => MF.2.1 _ l (by omega) (by omega) a b)) rfl rfl (Nat.le_of_ble_eq_true rfl) (by decide) (by decide) ?_
    rintro _ _ ⟨rfl, rfl⟩
    rw [MF.2.2.2.1 6 (by omega) (by omega)]
    refine ap_ist_3 (pc := 138) dX9_fires_138 (by decide) ?_
    refine ap_const (pc := 139) dX9_fires_139 ?_
    refine ap_ist_4 (pc := 140) dX9_fires_140 (by decide) ?_
    refine AP.bk (up_rec 6 (fun f => ∀ mi : AM, mC r h lg mn m f mi → AP 5 mX9_fires 142 [some (.inr 100), some (.inl h), some (.inl mn), some (.inl (spP r h lg 6)), some (.inl (f : Int)), none, none] [] mi (fun v m' => v = none ∧ isFire r h lg mn (m' 101) ∧ ∀ (k : Nat) (j : Int), k ≠ 101 → m' k j = m k j)) (by omega) (fun f hf6 ihc mi hi => ?_) _ hc0) ⟨rfl, rfl, rfl, rfl, rfl, trivial, trivial, trivial⟩ rfl
    refine ap_ild_4 (pc := 142) dX9_fires_142 ?_
    refine ap_bipush (pc := 144) dX9_fires_144 bp_6 ?_
    refine ap_icmp_ge (pc := 146) 221 dX9_fires_146 rfl ⟨by omega, by omega⟩ ⟨by omega, by omega⟩ (fun c146 => ?_) (fun c146 => ?_)
    · skip
      have e6 : f = 6 := by omega
      subst e6
      have hdn := mC_done hi
      exact ap_return (pc := 221) dX9_fires_221 rfl ⟨rfl, hdn⟩
    · skip
      have MF := mC_facts wC wP wS hi
      have hsx := hi.2.2.2.2.2.1 f (by omega) c146
      have hs2 := hsx.2 (by omega)
      have hc01 := (wP.1 f (by omega) (by omega)).2
      have hzz : szR (mi 101) f = szR r f := hi.2.2.2.2.1 f (by omega) (by omega)
      have b1 := MF.2.2.2.2.2 f (by omega) (by omega)
      have b2 := MF.2.2.2.2.2 6 (by omega) (by omega)
      have hst := wS.2.2.1
      have hia : rng (iab (spP r h lg f - spP r h lg 6)) := by unfold iab; constructor <;> split <;> omega
      have hcr : crR (mi 101) f = 0 ↔ (crR r f = 0 ∨ spM r h lg f) := by
        by_cases hm : spM r h lg f
        · exact ⟨fun _ => Or.inr hm, fun _ => hs2.1 hm⟩
        · rw [hs2.2 hm]; exact ⟨fun y => Or.inl y, fun y => y.elim id (fun q => absurd q hm)⟩
      have hc01' : crR (mi 101) f = 0 ∨ crR (mi 101) f = 1 := by
        by_cases hm : spM r h lg f
        · exact Or.inl (hs2.1 hm)
        · rw [hs2.2 hm]; exact hc01
      simp only [crR] at hcr hc01' 
      refine ap_ild_4 (pc := 149) dX9_fires_149 ?_
      refine ap_invS (pc := 151) dX9_fires_151 ms_RX9_60 (av := [_]) (rest := []) (qX9_fieldAt _ _) rfl rfl (Nat.le_of_ble_eq_true rfl) (by decide) (by decide) ?_
      rintro _ _ ⟨rfl, rfl⟩
      refine ap_const (pc := 154) dX9_fires_154 ?_
      refine ap_iadd (pc := 155) dX9_fires_155 ?_
      refine ap_ist_5 (pc := 156) dX9_fires_156 (by decide) ?_
      refine ap_ald_0 (pc := 158) dX9_fires_158 ?_
      refine ap_getR (pc := 159) dX9_fires_159 fl_RX9_7 sh_100 rfl ?_
      refine ap_ild_5 (pc := 162) dX9_fires_162 ?_
      refine ap_iaload (pc := 164) dX9_fires_164 sh_101 (by omega) (by omega) (by decide) ?_
      try simp (disch := omega) only [am_same, am_k, am_j]
      refine ap_if_ne (pc := 165) 215 dX9_fires_165 rfl ⟨by omega, by omega⟩ (fun c165 => ?_) (fun c165 => ?_)
      · skip
        refine ap_iinc_4 (pc := 215) dX9_fires_215 (by decide) ?_
        refine ap_goto (pc := 218) 142 dX9_fires_218 rfl ?_
        have hnx := mC_step c146 wP hi (by
          first
            | exact Or.inl ⟨⟨hcr.mp (by omega), by
                obtain ⟨l, a, b, c, d⟩ := hcp.2.mp (by omega)
                rw [hzz] at b
                refine ⟨l, a, b, ?_⟩
                rw [(hi.2.2.2.2.2.2.2.1 f l (by omega) (by omega) a b).2.1] at c d
                show _ = 2 ∨ _ = 3
                omega, by rw [← MF.2.2.2.2.1]; omega⟩, rfl⟩
            | exact Or.inr ⟨fun z => by have z1 := hcr.mpr z.1; omega, rfl⟩
            | exact Or.inr ⟨fun z => by
                obtain ⟨l, a, b, c⟩ := z.2.1
                have q : 0 < cntR (mi 101) f 2 3 := hcp.2.mpr ⟨l, a, by rw [hzz]; exact b, by
                  rw [(hi.2.2.2.2.2.2.2.1 f l (by omega) (by omega) a b).2.1]
                  have c2 : spS r h lg f l = 2 ∨ spS r h lg f l = 3 := c
                  omega⟩
                omega, rfl⟩
            | exact Or.inr ⟨fun z => by have z2 := z.2.2; rw [← MF.2.2.2.2.1] at z2; omega, rfl⟩)
        exact (ihc c146 _ hnx).bk ⟨rfl, rfl, rfl, rfl, rfl, trivial, trivial, trivial⟩ rfl
      · skip
        refine ap_ald_0 (pc := 168) dX9_fires_168 ?_
        refine ap_ild_4 (pc := 169) dX9_fires_169 ?_
        refine ap_const (pc := 171) dX9_fires_171 ?_
        refine ap_const (pc := 172) dX9_fires_172 ?_
        refine ap_invV (pc := 173) dX9_fires_173 mv_RX9_70 sh_100 (av := [_, _, _]) (rest := []) (qX9_layersWith _ _ _ _ (by omega) (by omega) (MF.1 _ (by omega) (by omega)) (fun l a b => by have q := (MF.2.1 f l (by omega) (by omega) a b).2; simp only [stR] at q; omega) (by omega) (by omega)) rfl rfl (Nat.le_of_ble_eq_true rfl) (by decide) (by decide) ?_
        rintro _ _ ⟨rfl, rfl⟩
        have hcp := cnt_pos (r := mi 101) (f := f) (a := 2) (b := 3)
        have hcb : cntR (mi 101) f 2 3 ≤ 3 := by
          have := MF.1 f (by omega) (by omega)
          exact cnt_le this.2
        refine ap_if_le (pc := 176) 215 dX9_fires_176 rfl ⟨by omega, by omega⟩ (fun c176 => ?_) (fun c176 => ?_)
        · skip
          refine ap_iinc_4 (pc := 215) dX9_fires_215 (by decide) ?_
          refine ap_goto (pc := 218) 142 dX9_fires_218 rfl ?_
          have hnx := mC_step c146 wP hi (by
            first
              | exact Or.inl ⟨⟨hcr.mp (by omega), by
                  obtain ⟨l, a, b, c, d⟩ := hcp.2.mp (by omega)
                  rw [hzz] at b
                  refine ⟨l, a, b, ?_⟩
                  rw [(hi.2.2.2.2.2.2.2.1 f l (by omega) (by omega) a b).2.1] at c d
                  show _ = 2 ∨ _ = 3
                  omega, by rw [← MF.2.2.2.2.1]; omega⟩, rfl⟩
              | exact Or.inr ⟨fun z => by have z1 := hcr.mpr z.1; omega, rfl⟩
              | exact Or.inr ⟨fun z => by
                  obtain ⟨l, a, b, c⟩ := z.2.1
                  have q : 0 < cntR (mi 101) f 2 3 := hcp.2.mpr ⟨l, a, by rw [hzz]; exact b, by
                    rw [(hi.2.2.2.2.2.2.2.1 f l (by omega) (by omega) a b).2.1]
                    have c2 : spS r h lg f l = 2 ∨ spS r h lg f l = 3 := c
                    omega⟩
                  omega, rfl⟩
              | exact Or.inr ⟨fun z => by have z2 := z.2.2; rw [← MF.2.2.2.2.1] at z2; omega, rfl⟩)
          exact (ihc c146 _ hnx).bk ⟨rfl, rfl, rfl, rfl, rfl, trivial, trivial, trivial⟩ rfl
        · skip
          refine ap_ald_0 (pc := 179) dX9_fires_179 ?_
          refine ap_ild_4 (pc := 180) dX9_fires_180 ?_
          refine ap_ild_3 (pc := 182) dX9_fires_182 ?_
          refine ap_invV (pc := 183) dX9_fires_183 mv_RX9_85 sh_100 (av := [_, _]) (rest := []) (qX9_strain _ _ _ (by omega) (by omega) (by have := MF.2.2.2.2.2 6 (by omega) (by omega); omega) MF.1 MF.2.1 MF.2.2.1) rfl rfl (Nat.le_of_ble_eq_true rfl) (by decide) (by decide) ?_
          rintro _ _ ⟨rfl, rfl⟩
          rw [MF.2.2.2.1 f (by omega) (by omega)]
          refine ap_ald_0 (pc := 186) dX9_fires_186 ?_
          refine ap_getR (pc := 187) dX9_fires_187 fl_RX9_7 sh_100 rfl ?_
          refine ap_bipush (pc := 190) dX9_fires_190 bp_116 ?_
          refine ap_iaload (pc := 192) dX9_fires_192 sh_101 (by omega) (by omega) (by decide) ?_
          try simp (disch := omega) only [am_same, am_k, am_j]
          refine ap_icmp_le (pc := 193) 215 dX9_fires_193 rfl hia ⟨by rw [MF.2.2.2.2.1]; omega, by rw [MF.2.2.2.2.1]; omega⟩ (fun c193 => ?_) (fun c193 => ?_)
          · skip
            refine ap_iinc_4 (pc := 215) dX9_fires_215 (by decide) ?_
            refine ap_goto (pc := 218) 142 dX9_fires_218 rfl ?_
            have hnx := mC_step c146 wP hi (by
              first
                | exact Or.inl ⟨⟨hcr.mp (by omega), by
                    obtain ⟨l, a, b, c, d⟩ := hcp.2.mp (by omega)
                    rw [hzz] at b
                    refine ⟨l, a, b, ?_⟩
                    rw [(hi.2.2.2.2.2.2.2.1 f l (by omega) (by omega) a b).2.1] at c d
                    show _ = 2 ∨ _ = 3
                    omega, by rw [← MF.2.2.2.2.1]; omega⟩, rfl⟩
                | exact Or.inr ⟨fun z => by have z1 := hcr.mpr z.1; omega, rfl⟩
                | exact Or.inr ⟨fun z => by
                    obtain ⟨l, a, b, c⟩ := z.2.1
                    have q : 0 < cntR (mi 101) f 2 3 := hcp.2.mpr ⟨l, a, by rw [hzz]; exact b, by
                      rw [(hi.2.2.2.2.2.2.2.1 f l (by omega) (by omega) a b).2.1]
                      have c2 : spS r h lg f l = 2 ∨ spS r h lg f l = 3 := c
                      omega⟩
                    omega, rfl⟩
                | exact Or.inr ⟨fun z => by have z2 := z.2.2; rw [← MF.2.2.2.2.1] at z2; omega, rfl⟩)
            exact (ihc c146 _ hnx).bk ⟨rfl, rfl, rfl, rfl, rfl, trivial, trivial, trivial⟩ rfl
          · skip
            refine ap_ald_0 (pc := 196) dX9_fires_196 ?_
            refine ap_getR (pc := 197) dX9_fires_197 fl_RX9_7 sh_100 rfl ?_
            refine ap_ild_5 (pc := 200) dX9_fires_200 ?_
            refine ap_const (pc := 202) dX9_fires_202 ?_
            refine ap_iastore (pc := 203) dX9_fires_203 sh_101 (by omega) (by omega) (by decide) ?_
            refine ap_ald_0 (pc := 204) dX9_fires_204 ?_
            refine ap_getR (pc := 205) dX9_fires_205 fl_RX9_7 sh_100 rfl ?_
            refine ap_bipush (pc := 208) dX9_fires_208 bp_124 ?_
            refine ap_dup2 (pc := 210) dX9_fires_210 ?_
            refine ap_iaload (pc := 211) dX9_fires_211 sh_101 (by omega) (by omega) (by decide) ?_
            try simp (disch := omega) only [am_same, am_k, am_j]
            refine ap_const (pc := 212) dX9_fires_212 ?_
            refine ap_iadd (pc := 213) dX9_fires_213 ?_
            refine ap_iastore (pc := 214) dX9_fires_214 sh_101 (by omega) (by omega) (by decide) ?_
            refine ap_iinc_4 (pc := 215) dX9_fires_215 (by decide) ?_
            refine ap_goto (pc := 218) 142 dX9_fires_218 rfl ?_
            have hnx := mC_step c146 wP hi (by
              first
                | exact Or.inl ⟨⟨hcr.mp (by omega), by
                    obtain ⟨l, a, b, c, d⟩ := hcp.2.mp (by omega)
                    rw [hzz] at b
                    refine ⟨l, a, b, ?_⟩
                    rw [(hi.2.2.2.2.2.2.2.1 f l (by omega) (by omega) a b).2.1] at c d
                    show _ = 2 ∨ _ = 3
                    omega, by rw [← MF.2.2.2.2.1]; omega⟩, rfl⟩
                | exact Or.inr ⟨fun z => by have z1 := hcr.mpr z.1; omega, rfl⟩
                | exact Or.inr ⟨fun z => by
                    obtain ⟨l, a, b, c⟩ := z.2.1
                    have q : 0 < cntR (mi 101) f 2 3 := hcp.2.mpr ⟨l, a, by rw [hzz]; exact b, by
                      rw [(hi.2.2.2.2.2.2.2.1 f l (by omega) (by omega) a b).2.1]
                      have c2 : spS r h lg f l = 2 ∨ spS r h lg f l = 3 := c
                      omega⟩
                    omega, rfl⟩
                | exact Or.inr ⟨fun z => by have z2 := z.2.2; rw [← MF.2.2.2.2.1] at z2; omega, rfl⟩)
            exact (ihc c146 _ hnx).bk ⟨rfl, rfl, rfl, rfl, rfl, trivial, trivial, trivial⟩ rfl
  · skip
    refine ap_const (pc := 30) dX9_fires_30 ?_
    refine ap_ist_4 (pc := 31) dX9_fires_31 (by decide) ?_
    refine ap_const (pc := 33) dX9_fires_33 ?_
    refine ap_ist_5 (pc := 34) dX9_fires_34 (by decide) ?_
    refine AP.bk (up_rec (szR r f) (fun l => ∀ (mi : AM) (al : Int), mI r h lg mn m f l mi → (al = 0 ∨ al = 1) → (al = 1 ↔ ∀ y : Int, 0 ≤ y → y < l → spG r h lg f y = 1) → AP 5 mX9_fires 36 [some (.inr 100), some (.inl h), some (.inl mn), some (.inl (f : Int)), some (.inl al), some (.inl (l : Int)), none] [] mi (fun v m' => v = none ∧ isFire r h lg mn (m' 101) ∧ ∀ (k : Nat) (j : Int), k ≠ 101 → m' k j = m k j)) (wP.1 f (by omega) c27).1.1 (fun l hl3 ihl mi al hi hal hall => ?_) _ 1 hi0 (Or.inr rfl) ⟨fun _ y a b => absurd b (by omega), fun _ => rfl⟩) ⟨rfl, rfl, rfl, rfl, rfl, rfl, trivial, trivial⟩ rfl
    have hz3 := (wP.1 f (by omega) c27).1
    have hzz : mi 101 (37 + 11 * (f : Int)) = szR r f := hi.2.2.2.2.1 f (by omega) c27
    refine ap_ild_5 (pc := 36) dX9_fires_36 ?_
    refine ap_ald_0 (pc := 38) dX9_fires_38 ?_
    refine ap_ild_3 (pc := 39) dX9_fires_39 ?_
    refine ap_invV (pc := 40) dX9_fires_40 mv_RX9_39 sh_100 (av := [_]) (rest := [_]) (qX9_layers _ _ (by omega) (by omega)) rfl rfl (Nat.le_of_ble_eq_true rfl) (by decide) (by decide) ?_
    rintro _ _ ⟨rfl, rfl⟩
    refine ap_icmp_ge (pc := 43) 83 dX9_fires_43 rfl ⟨by omega, by omega⟩ ⟨by omega, by omega⟩ (fun c43 => ?_) (fun c43 => ?_)
    · skip
      rw [hzz] at c43
      have hll : (l : Int) = szR r f := by omega
      rw [hll] at hi hall
      have hcr : crR (mi 101) f = crR r f := (hi.2.2.2.2.2.2.1 f (by omega) c27).2 (by omega)
      have hc01 := (wP.1 f (by omega) c27).2
      refine ap_ild_3 (pc := 83) dX9_fires_83 ?_
      refine ap_invS (pc := 84) dX9_fires_84 ms_RX9_60 (av := [_]) (rest := []) (qX9_fieldAt _ _) rfl rfl (Nat.le_of_ble_eq_true rfl) (by decide) (by decide) ?_
      rintro _ _ ⟨rfl, rfl⟩
      refine ap_const (pc := 87) dX9_fires_87 ?_
      refine ap_iadd (pc := 88) dX9_fires_88 ?_
      refine ap_ist_5 (pc := 89) dX9_fires_89 (by decide) ?_
      refine ap_ild_4 (pc := 91) dX9_fires_91 ?_
      refine ap_if_eq (pc := 93) 126 dX9_fires_93 rfl ⟨by omega, by omega⟩ (fun c93 => ?_) (fun c93 => ?_)
      · skip
        refine ap_iinc_3 (pc := 126) dX9_fires_126 (by decide) ?_
        refine ap_goto (pc := 129) 24 dX9_fires_129 rfl ?_
        have hnx := mI_next wP c27 hi (by
          first
            | exact Or.inl ⟨⟨by simp only [crR] at hcr ⊢; omega, hall.mp (by omega)⟩, rfl⟩
            | exact Or.inr ⟨fun z => by have z1 := z.1; simp only [crR] at hcr z1; omega, rfl⟩
            | exact Or.inr ⟨fun z => by have z1 := hall.mpr z.2; omega, rfl⟩)
        exact (ihf c27 _ hnx).bk ⟨rfl, rfl, rfl, rfl, trivial, trivial, trivial, trivial⟩ rfl
      · skip
        refine ap_ald_0 (pc := 96) dX9_fires_96 ?_
        refine ap_getR (pc := 97) dX9_fires_97 fl_RX9_7 sh_100 rfl ?_
        refine ap_ild_5 (pc := 100) dX9_fires_100 ?_
        refine ap_iaload (pc := 102) dX9_fires_102 sh_101 (by omega) (by omega) (by decide) ?_
        try simp (disch := omega) only [am_same, am_k, am_j]
        refine ap_const (pc := 103) dX9_fires_103 ?_
        refine ap_icmp_ne (pc := 104) 126 dX9_fires_104 rfl (Or.inr ⟨by simp only [crR] at hcr hc01; rw [hcr]; constructor <;> omega, ⟨by omega, by omega⟩⟩) (fun c104 => ?_) (fun c104 => ?_)
        · skip
          refine ap_iinc_3 (pc := 126) dX9_fires_126 (by decide) ?_
          refine ap_goto (pc := 129) 24 dX9_fires_129 rfl ?_
          have hnx := mI_next wP c27 hi (by
            first
              | exact Or.inl ⟨⟨by simp only [crR] at hcr ⊢; omega, hall.mp (by omega)⟩, rfl⟩
              | exact Or.inr ⟨fun z => by have z1 := z.1; simp only [crR] at hcr z1; omega, rfl⟩
              | exact Or.inr ⟨fun z => by have z1 := hall.mpr z.2; omega, rfl⟩)
          exact (ihf c27 _ hnx).bk ⟨rfl, rfl, rfl, rfl, trivial, trivial, trivial, trivial⟩ rfl
        · skip
          refine ap_ald_0 (pc := 107) dX9_fires_107 ?_
          refine ap_getR (pc := 108) dX9_fires_108 fl_RX9_7 sh_100 rfl ?_
          refine ap_ild_5 (pc := 111) dX9_fires_111 ?_
          refine ap_const (pc := 113) dX9_fires_113 ?_
          refine ap_iastore (pc := 114) dX9_fires_114 sh_101 (by omega) (by omega) (by decide) ?_
          refine ap_ald_0 (pc := 115) dX9_fires_115 ?_
          refine ap_getR (pc := 116) dX9_fires_116 fl_RX9_7 sh_100 rfl ?_
          refine ap_bipush (pc := 119) dX9_fires_119 bp_125 ?_
          refine ap_dup2 (pc := 121) dX9_fires_121 ?_
          refine ap_iaload (pc := 122) dX9_fires_122 sh_101 (by omega) (by omega) (by decide) ?_
          try simp (disch := omega) only [am_same, am_k, am_j]
          refine ap_const (pc := 123) dX9_fires_123 ?_
          refine ap_iadd (pc := 124) dX9_fires_124 ?_
          refine ap_iastore (pc := 125) dX9_fires_125 sh_101 (by omega) (by omega) (by decide) ?_
          refine ap_iinc_3 (pc := 126) dX9_fires_126 (by decide) ?_
          refine ap_goto (pc := 129) 24 dX9_fires_129 rfl ?_
          have hnx := mI_next wP c27 hi (by
            first
              | exact Or.inl ⟨⟨by simp only [crR] at hcr ⊢; omega, hall.mp (by omega)⟩, rfl⟩
              | exact Or.inr ⟨fun z => by have z1 := z.1; simp only [crR] at hcr z1; omega, rfl⟩
              | exact Or.inr ⟨fun z => by have z1 := hall.mpr z.2; omega, rfl⟩)
          exact (ihf c27 _ hnx).bk ⟨rfl, rfl, rfl, rfl, trivial, trivial, trivial, trivial⟩ rfl
    · skip
      rw [hzz] at c43
      have hG := mI_g wC wP wS c27 c43 hi
      refine ap_ald_0 (pc := 46) dX9_fires_46 ?_
      refine ap_ild_3 (pc := 47) dX9_fires_47 ?_
      refine ap_ild_5 (pc := 48) dX9_fires_48 ?_
      refine ap_invS (pc := 50) dX9_fires_50 ms_RX9_63 (av := [_, _]) (rest := [_]) (qX9_layerAt _ _ _) rfl rfl (Nat.le_of_ble_eq_true rfl) (by decide) (by decide) ?_
      rintro _ _ ⟨rfl, rfl⟩
      refine ap_ild_1 (pc := 53) dX9_fires_53 ?_
      refine ap_ild_2 (pc := 54) dX9_fires_54 ?_
      refine ap_invV (pc := 55) dX9_fires_55 mv_RX9_108 sh_100 (av := [_, _, _]) (rest := []) (qX9_becomes _ _ _ lg _ (by omega) (by omega) hh hmn (by rw [hG.2.2.2.2.2.1]; exact hlgd) hG.2.2.2.2.1 hG.2.1 hG.2.2.1 hG.2.2.2.1 hG.2.2.2.2.2.2.1 hG.2.2.2.2.2.2.2.1 hG.2.2.2.2.2.2.2.2) rfl rfl (Nat.le_of_ble_eq_true rfl) (by decide) (by decide) ?_
      rintro v m2 ⟨⟨gv, rfl⟩ | ⟨gv, rfl⟩, hm2⟩
      all_goals rw [hG.1] at gv
      all_goals have hI2 := mI_step wP c27 c43 hi hm2 wC
      · skip
        refine ap_ist_6 (pc := 58) dX9_fires_58 (by decide) ?_
        refine ap_ild_4 (pc := 60) dX9_fires_60 ?_
        refine ap_if_eq (pc := 62) 74 dX9_fires_62 rfl ⟨by omega, by omega⟩ (fun c62 => ?_) (fun c62 => ?_)
        · skip
          refine ap_const (pc := 74) dX9_fires_74 ?_
          refine ap_ist_4 (pc := 75) dX9_fires_75 (by decide) ?_
          refine ap_iinc_5 (pc := 77) dX9_fires_77 (by decide) ?_
          refine ap_goto (pc := 80) 36 dX9_fires_80 rfl ?_
          first
            | (have hn1 : (1 : Int) = 1 ↔ ∀ y : Int, 0 ≤ y → y < ((l + 1 : Nat) : Int) → spG r h lg f y = 1 := ⟨fun _ y a b => by
                rcases (by omega : y < (l : Int) ∨ y = (l : Int)) with z | z
                · exact hall.mp (by omega) y a z
                · rw [z]; exact gv, fun _ => rfl⟩
               exact (ihl c43 m2 1 hI2 (Or.inr rfl) hn1).bk ⟨rfl, rfl, rfl, rfl, rfl, rfl, trivial, trivial⟩ rfl)
            | (have hn0 : (0 : Int) = 1 ↔ ∀ y : Int, 0 ≤ y → y < ((l + 1 : Nat) : Int) → spG r h lg f y = 1 := ⟨fun z => by omega, fun z => by
                first
                  | exact absurd (z l (by omega) (by omega)) gv
                  | (have q := hall.mpr (fun y a b => z y a (by omega)); omega)⟩
               exact (ihl c43 m2 0 hI2 (Or.inl rfl) hn0).bk ⟨rfl, rfl, rfl, rfl, rfl, rfl, trivial, trivial⟩ rfl)
        · skip
          refine ap_ild_6 (pc := 65) dX9_fires_65 ?_
          refine ap_if_eq (pc := 67) 74 dX9_fires_67 rfl ⟨by omega, by omega⟩ (fun c67 => absurd c67 (by decide)) (fun _ => ?_)
          refine ap_const (pc := 70) dX9_fires_70 ?_
          refine ap_goto (pc := 71) 75 dX9_fires_71 rfl ?_
          refine ap_ist_4 (pc := 75) dX9_fires_75 (by decide) ?_
          refine ap_iinc_5 (pc := 77) dX9_fires_77 (by decide) ?_
          refine ap_goto (pc := 80) 36 dX9_fires_80 rfl ?_
          first
            | (have hn1 : (1 : Int) = 1 ↔ ∀ y : Int, 0 ≤ y → y < ((l + 1 : Nat) : Int) → spG r h lg f y = 1 := ⟨fun _ y a b => by
                rcases (by omega : y < (l : Int) ∨ y = (l : Int)) with z | z
                · exact hall.mp (by omega) y a z
                · rw [z]; exact gv, fun _ => rfl⟩
               exact (ihl c43 m2 1 hI2 (Or.inr rfl) hn1).bk ⟨rfl, rfl, rfl, rfl, rfl, rfl, trivial, trivial⟩ rfl)
            | (have hn0 : (0 : Int) = 1 ↔ ∀ y : Int, 0 ≤ y → y < ((l + 1 : Nat) : Int) → spG r h lg f y = 1 := ⟨fun z => by omega, fun z => by
                first
                  | exact absurd (z l (by omega) (by omega)) gv
                  | (have q := hall.mpr (fun y a b => z y a (by omega)); omega)⟩
               exact (ihl c43 m2 0 hI2 (Or.inl rfl) hn0).bk ⟨rfl, rfl, rfl, rfl, rfl, rfl, trivial, trivial⟩ rfl)
      · skip
        refine ap_ist_6 (pc := 58) dX9_fires_58 (by decide) ?_
        refine ap_ild_4 (pc := 60) dX9_fires_60 ?_
        refine ap_if_eq (pc := 62) 74 dX9_fires_62 rfl ⟨by omega, by omega⟩ (fun c62 => ?_) (fun c62 => ?_)
        · skip
          refine ap_const (pc := 74) dX9_fires_74 ?_
          refine ap_ist_4 (pc := 75) dX9_fires_75 (by decide) ?_
          refine ap_iinc_5 (pc := 77) dX9_fires_77 (by decide) ?_
          refine ap_goto (pc := 80) 36 dX9_fires_80 rfl ?_
          first
            | (have hn1 : (1 : Int) = 1 ↔ ∀ y : Int, 0 ≤ y → y < ((l + 1 : Nat) : Int) → spG r h lg f y = 1 := ⟨fun _ y a b => by
                rcases (by omega : y < (l : Int) ∨ y = (l : Int)) with z | z
                · exact hall.mp (by omega) y a z
                · rw [z]; exact gv, fun _ => rfl⟩
               exact (ihl c43 m2 1 hI2 (Or.inr rfl) hn1).bk ⟨rfl, rfl, rfl, rfl, rfl, rfl, trivial, trivial⟩ rfl)
            | (have hn0 : (0 : Int) = 1 ↔ ∀ y : Int, 0 ≤ y → y < ((l + 1 : Nat) : Int) → spG r h lg f y = 1 := ⟨fun z => by omega, fun z => by
                first
                  | exact absurd (z l (by omega) (by omega)) gv
                  | (have q := hall.mpr (fun y a b => z y a (by omega)); omega)⟩
               exact (ihl c43 m2 0 hI2 (Or.inl rfl) hn0).bk ⟨rfl, rfl, rfl, rfl, rfl, rfl, trivial, trivial⟩ rfl)
        · skip
          refine ap_ild_6 (pc := 65) dX9_fires_65 ?_
          refine ap_if_eq (pc := 67) 74 dX9_fires_67 rfl ⟨by omega, by omega⟩ (fun _ => ?_) (fun c67 => absurd c67 (by decide))
          refine ap_const (pc := 74) dX9_fires_74 ?_
          refine ap_ist_4 (pc := 75) dX9_fires_75 (by decide) ?_
          refine ap_iinc_5 (pc := 77) dX9_fires_77 (by decide) ?_
          refine ap_goto (pc := 80) 36 dX9_fires_80 rfl ?_
          first
            | (have hn1 : (1 : Int) = 1 ↔ ∀ y : Int, 0 ≤ y → y < ((l + 1 : Nat) : Int) → spG r h lg f y = 1 := ⟨fun _ y a b => by
                rcases (by omega : y < (l : Int) ∨ y = (l : Int)) with z | z
                · exact hall.mp (by omega) y a z
                · rw [z]; exact gv, fun _ => rfl⟩
               exact (ihl c43 m2 1 hI2 (Or.inr rfl) hn1).bk ⟨rfl, rfl, rfl, rfl, rfl, rfl, trivial, trivial⟩ rfl)
            | (have hn0 : (0 : Int) = 1 ↔ ∀ y : Int, 0 ≤ y → y < ((l + 1 : Nat) : Int) → spG r h lg f y = 1 := ⟨fun z => by omega, fun z => by
                first
                  | exact absurd (z l (by omega) (by omega)) gv
                  | (have q := hall.mpr (fun y a b => z y a (by omega)); omega)⟩
               exact (ihl c43 m2 0 hI2 (Or.inl rfl) hn0).bk ⟨rfl, rfl, rfl, rfl, rfl, rfl, trivial, trivial⟩ rfl)
