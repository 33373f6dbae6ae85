
theorem FF1_congr {W : Int → Int} {M B : Int → Int → Int} {F F' : Int → Int} {t : Int} (h : ∀ u : Int, t ≤ u → F' u = F u) (f : isFF1 W M B F t) : isFF1 W M B F' t := by
  obtain ⟨f1, f2, f3⟩ := f
  have hx : ∀ x : Int, isSet x → F' (t + stp x) = F (t + stp x) := fun x q => h _ (by have := stp_pos q.1 q.2; omega)
  have h0 := h t (Int.le_refl _)
  refine ⟨fun z => by rw [h0]; exact f1 z, fun z => by rw [h0]; exact f2 z, fun z z2 => ?_⟩
  rcases f3 z z2 with ⟨a, b⟩ | ⟨x, a, b, c, d, e⟩
  · exact Or.inl ⟨by rw [h0]; exact a, fun x q o => by rw [hx x q]; exact b x q o⟩
  · exact Or.inr ⟨x, a, b, by rw [hx x a]; exact c, by rw [hx x a, h0]; exact d, fun y q o => by rw [hx y q, h0]; exact e y q o⟩
theorem FF1_new {W : Int → Int} {M B : Int → Int → Int} (w : wOK W M B) {F F' : Int → Int} {s b e : Int} (h0 : 0 ≤ s) (hl : s < lastS W) (h : ∀ u : Int, s < u → F' u = F u) (v : valS W s) (bp : bestP W M B F s 64 b e) (hs : F' s = if b = 0 then 19 else F (s + stp b) + 1) : isFF1 W M B F' s := by
  have hb := last_bd w
  have hx : ∀ x : Int, isSet x → F' (s + stp x) = F (s + stp x) := fun x q => h _ (by have := stp_pos q.1 q.2; omega)
  refine ⟨fun z => absurd v z, fun z => ?_, fun _ _ => ?_⟩
  · have := ful_last h0 (by omega) z
    omega
  · rcases bp with ⟨a1, a2, a3⟩ | ⟨a1, a2, a3, a4, a5⟩
    · exact Or.inl ⟨by rw [hs, if_pos a1], fun x q o => by rw [hx x q]; exact a3 x q.1 q.2 o⟩
    · have hbs : isSet b := ⟨a1.1, a1.2⟩
      refine Or.inr ⟨b, hbs, a2, by rw [hx b hbs]; exact a4, by rw [hs, if_neg (by omega), hx b hbs], fun y q o => ?_⟩
      have := a5 y q.1 q.2 o
      rw [hx y q, hs, if_neg (by omega)]; omega
def bestNx (W : Int → Int) (M B : Int → Int → Int) (F : Int → Int) (s b : Int) : Prop := isSet b ∧ okS W M B s b ∧ F (s + stp b) = F s - 1 ∧ ∀ y : Int, isSet y → okS W M B s y → F (s + stp y) = F s - 1 → b ≤ y
theorem bp_next {W : Int → Int} {M B : Int → Int → Int} {F : Int → Int} {s b e : Int} (f : isFF1 W M B F s) (v : valS W s) (h1 : 1 ≤ F s) (h2 : F s < 19) (bp : bestP W M B F s 64 b e) : bestNx W M B F s b := by
  have nf : ¬ fulS W s := fun z => by have := f.2.1 z; omega
  rcases f.2.2 v nf with ⟨a, b⟩ | ⟨x, hx, ok, c, d, g⟩
  · omega
  · rcases bp with ⟨a1, a2, a3⟩ | ⟨a1, a2, a3, a4, a5⟩
    · have := a3 x hx.1 hx.2 ok; omega
    · have hbs : isSet b := ⟨a1.1, a1.2⟩
      have q1 := a5 x hx.1 hx.2 ok
      have q2 := g b hbs a2
      refine ⟨hbs, a2, by omega, fun y hy oy z => ?_⟩
      have := a5 y hy.1 hy.2 oy
      omega
/-- what the class keeps of its plan -/
def planF (W : Int → Int) (M B : Int → Int → Int) (F : Int → Int) (m : AM) : Prop := isFF W M B F ∧ (∀ t : Int, 0 ≤ t → t ≤ lastS W → 0 ≤ F t ∧ F t ≤ 19) ∧ ((m 91 7 = 0 ∧ F 0 = 19 ∧ m 91 6 = 0) ∨ (m 91 7 = 1 ∧ F 0 < 19 ∧ m 91 6 = F 0 ∧ ∃ S : Int → Int, S 0 = 0 ∧ ∀ k : Int, 0 ≤ k → k < F 0 → (valS W (S k) ∧ (0 ≤ S k ∧ S k < 4096) ∧ F (S k) = F 0 - k) ∧ bestNx W M B F (S k) (m 96 k) ∧ S (k + 1) = S k + stp (m 96 k) ∧ m 97 k = melS M (S k) (m 96 k)))
set_option maxHeartbeats 4000000 in
theorem qX4_search {W : Int → Int} {M B : Int → Int → Int} (m : AM) (w : wOK W M B) (c : clP W M B m) (h93 : ∀ x : Int, 0 ≤ x → x < 64 → m 93 x = stp x) : CS 3 mX4_search [.inr 91, .inr 12, .inr 2] m (fun v m' => v = none ∧ (∃ F : Int → Int, planF W M B F m') ∧ ∀ (k : Nat) (j : Int), (k < 91 ∨ 97 < k ∨ k = 93) → m' k j = m k j) := by
  refine cs_of (by decide +kernel) (Nat.le_of_ble_eq_true rfl) rfl ?_
  have hlb := last_bd w
  refine ap_ald_1 (pc := 0) dX4_search_0 ?_
  refine ap_invS (pc := 1) dX4_search_1 ms_RX4_38 (av := [_]) (rest := []) (qX4_lastStage _ w c) rfl rfl (Nat.le_of_ble_eq_true rfl) (by decide) (by decide) ?_
  rintro _ _ ⟨rfl, rfl⟩
  refine ap_ist_3 (pc := 4) dX4_search_4 (by decide) ?_
  refine ap_ald_0 (pc := 5) dX4_search_5 ?_
  refine ap_getR (pc := 6) dX4_search_6 fl_RX4_11 sh_91 rfl ?_
  refine ap_ild_3 (pc := 9) dX4_search_9 ?_
  refine ap_const (pc := 10) dX4_search_10 ?_
  refine ap_iastore (pc := 11) dX4_search_11 sh_92 (by omega) (by omega) (by decide) ?_
  refine ap_ild_3 (pc := 12) dX4_search_12 ?_
  refine ap_const (pc := 13) dX4_search_13 ?_
  refine ap_isub (pc := 14) dX4_search_14 ?_
  refine ap_ist_4 (pc := 15) dX4_search_15 (by decide) ?_
  refine AP.bk (up_rec (lastS W) (fun i => ∀ mi : AM, (∀ t : Int, lastS W - i ≤ t → t ≤ lastS W → isFF1 W M B (mi 92) t ∧ (0 ≤ mi 92 t ∧ mi 92 t ≤ 19)) → (∀ (k : Nat) (j : Int), k ≠ 92 → k ≠ 94 → k ≠ 95 → mi k j = m k j) → AP 3 mX4_search 17 [some (.inr 91), some (.inr 12), some (.inr 2), some (.inl (lastS W)), some (.inl (lastS W - 1 - (i : Int))), none] [] mi (fun v m' => v = none ∧ (∃ F : Int → Int, planF W M B F m') ∧ ∀ (k : Nat) (j : Int), (k < 91 ∨ 97 < k ∨ k = 93) → m' k j = m k j)) hlb.1.1 (fun i hi ih mi u1 u2 => ?_) _ (fun t a b => by
      obtain rfl : t = lastS W := by omega
      refine ⟨⟨fun z => absurd (ful_val hlb.2) z, fun _ => by rw [am_same], fun _ z => absurd hlb.2 z⟩, by rw [am_same]; omega⟩) (fun k j a b d => by rw [am_k a])) ⟨rfl, rfl, rfl, rfl, by rw [show lastS W - 1 - ((0 : Nat) : Int) = lastS W - 1 by omega], trivial, trivial⟩ rfl
  have cm : clP W M B mi := clP_frame (fun k j hk => u2 k j (by omega) (by omega) (by omega)) c
  refine ap_ild_4 (pc := 17) dX4_search_17 ?_
  refine ap_if_lt (pc := 19) 85 dX4_search_19 rfl ⟨by omega, by omega⟩ (fun c19 => ?_) (fun c19 => ?_)
  · skip
    have u0 := u1 0 (by omega) hlb.1.1
    have v0 : valS W 0 := fun f a b => by
      have e : dg 0 f = 0 := by unfold dg; rw [Int.zero_ediv]; rfl
      rw [e]; exact (w f a b).1.1
    obtain ⟨F, hFe⟩ : ∃ F : Int → Int, F = mi 92 := ⟨_, rfl⟩
    have hF0 : mi 92 0 = F 0 := by rw [hFe]
    have hFF : isFF W M B F := fun t a b => by rw [hFe]; exact (u1 t (by omega) b).1
    have hFr : ∀ t : Int, 0 ≤ t → t ≤ lastS W → 0 ≤ F t ∧ F t ≤ 19 := fun t a b => by rw [hFe]; exact (u1 t (by omega) b).2
    have hm93 : ∀ x : Int, 0 ≤ x → x < 64 → mi 93 x = stp x := fun x a b => by rw [u2 93 x (by omega) (by omega) (by omega)]; exact h93 x a b
    have hF0r := hFr 0 (by omega) hlb.1.1
    refine ap_ald_0 (pc := 85) dX4_search_85 ?_
    refine ap_ald_0 (pc := 86) dX4_search_86 ?_
    refine ap_getR (pc := 87) dX4_search_87 fl_RX4_11 sh_91 rfl ?_
    refine ap_const (pc := 90) dX4_search_90 ?_
    refine ap_iaload (pc := 91) dX4_search_91 sh_92 (by omega) (by omega) (by decide) ?_
    try simp (disch := omega) only [am_same, am_k, am_j]
    refine ap_bipush (pc := 92) dX4_search_92 bp_19 ?_
    refine ap_icmp_ge (pc := 94) 101 dX4_search_94 rfl ⟨by omega, by omega⟩ ⟨by omega, by omega⟩ (fun c94 => ?_) (fun c94 => ?_)
    · skip
      refine ap_const (pc := 101) dX4_search_101 ?_
      refine ap_putI (pc := 102) (jz := 7) dX4_search_102 fn_RX4_34 sh_91 rfl rfl (fun _ => by decide) ?_
      refine ap_ald_0 (pc := 105) dX4_search_105 ?_
      refine ap_ald_0 (pc := 106) dX4_search_106 ?_
      refine ap_getI (pc := 107) (jz := 7) dX4_search_107 fl_RX4_34 sh_91 rfl rfl ?_
      try simp (disch := omega) only [am_same, am_k, am_j]
      refine ap_if_eq (pc := 110) 122 dX4_search_110 rfl ⟨by omega, by omega⟩ (fun c110 => ?_) (fun c110 => ?_)
      · skip
        refine ap_const (pc := 122) dX4_search_122 ?_
        refine ap_putI (pc := 123) (jz := 6) dX4_search_123 fn_RX4_30 sh_91 rfl rfl (fun z => by cases z) ?_
        refine ap_const (pc := 126) dX4_search_126 ?_
        refine ap_ist_4 (pc := 127) dX4_search_127 (by decide) ?_
        refine ap_const (pc := 129) dX4_search_129 ?_
        refine ap_ist_5 (pc := 130) dX4_search_130 (by decide) ?_
        refine ap_ild_5 (pc := 132) dX4_search_132 ?_
        refine ap_ald_0 (pc := 134) dX4_search_134 ?_
        refine ap_getI (pc := 135) (jz := 6) dX4_search_135 fl_RX4_30 sh_91 rfl rfl ?_
        try simp (disch := omega) only [am_same, am_k, am_j]
        
        refine ap_icmp_ge (pc := 138) 198 dX4_search_138 rfl ⟨by omega, by omega⟩ ⟨by omega, by omega⟩ (fun c138 => ?_) (fun c138 => ?_)
        · skip
          exact ap_return (pc := 198) dX4_search_198 rfl ⟨rfl, ⟨F, hFF, hFr, Or.inl ⟨by rw [am_j (by omega), am_same], by have := (hFr 0 (by omega) hlb.1.1).2; omega, by rw [am_same]⟩⟩, fun k j q => by rw [am_ne (by omega), am_ne (by omega)]; exact u2 k j (by omega) (by omega) (by omega)⟩
        · skip
          exfalso; omega
      · skip
        exfalso; omega
    · skip
      refine ap_const (pc := 97) dX4_search_97 ?_
      refine ap_goto (pc := 98) 102 dX4_search_98 rfl ?_
      refine ap_putI (pc := 102) (jz := 7) dX4_search_102 fn_RX4_34 sh_91 rfl rfl (fun _ => by decide) ?_
      refine ap_ald_0 (pc := 105) dX4_search_105 ?_
      refine ap_ald_0 (pc := 106) dX4_search_106 ?_
      refine ap_getI (pc := 107) (jz := 7) dX4_search_107 fl_RX4_34 sh_91 rfl rfl ?_
      try simp (disch := omega) only [am_same, am_k, am_j]
      refine ap_if_eq (pc := 110) 122 dX4_search_110 rfl ⟨by omega, by omega⟩ (fun c110 => ?_) (fun c110 => ?_)
      · skip
        exfalso; omega
      · skip
        refine ap_ald_0 (pc := 113) dX4_search_113 ?_
        refine ap_getR (pc := 114) dX4_search_114 fl_RX4_11 sh_91 rfl ?_
        refine ap_const (pc := 117) dX4_search_117 ?_
        refine ap_iaload (pc := 118) dX4_search_118 sh_92 (by omega) (by omega) (by decide) ?_
        try simp (disch := omega) only [am_same, am_k, am_j]
        refine ap_goto (pc := 119) 123 dX4_search_119 rfl ?_
        refine ap_putI (pc := 123) (jz := 6) dX4_search_123 fn_RX4_30 sh_91 rfl rfl (fun z => by cases z) ?_
        refine ap_const (pc := 126) dX4_search_126 ?_
        refine ap_ist_4 (pc := 127) dX4_search_127 (by decide) ?_
        refine ap_const (pc := 129) dX4_search_129 ?_
        refine ap_ist_5 (pc := 130) dX4_search_130 (by decide) ?_
        refine AP.bk (up_rec (F 0) (fun i => ∀ (S : Int → Int) (mj : AM), S 0 = 0 → (∀ k : Int, 0 ≤ k → k < i → (valS W (S k) ∧ (0 ≤ S k ∧ S k < 4096) ∧ F (S k) = F 0 - k) ∧ bestNx W M B F (S k) (mj 96 k) ∧ S (k + 1) = S k + stp (mj 96 k) ∧ mj 97 k = melS M (S k) (mj 96 k)) → (valS W (S i) ∧ (0 ≤ S i ∧ S i < 4096) ∧ F (S i) = F 0 - i) → (∀ (k : Nat) (j : Int), k ≠ 94 → k ≠ 95 → k ≠ 96 → k ≠ 97 → mj k j = (am_up (am_up mi 91 7 1) 91 6 (mi 92 0)) k j) → AP 3 mX4_search 132 [some (.inr 91), some (.inr 12), some (.inr 2), some (.inl (lastS W)), some (.inl (S i)), some (.inl (i : Int))] [] mj (fun v m' => v = none ∧ (∃ F : Int → Int, planF W M B F m') ∧ ∀ (k : Nat) (j : Int), (k < 91 ∨ 97 < k ∨ k = 93) → m' k j = m k j)) (hFr 0 (by omega) hlb.1.1).1 (fun i hi ih S mj v1 v2 v3 v4 => ?_) (fun _ => 0) _ rfl (fun k a b => by omega) ⟨v0, ⟨by omega, by omega⟩, by show F 0 = F 0 - 0; omega⟩ (fun _ _ _ _ _ _ => rfl)) ⟨rfl, rfl, rfl, rfl, rfl, rfl, trivial⟩ rfl
        have v5 : ∀ t : Int, mj 92 t = F t := fun t => by rw [v4 92 t (by omega) (by omega) (by omega) (by omega), am_k (by omega), am_k (by omega), hFe]
        have h92f : mj 92 = F := funext v5
        have v93 : ∀ x : Int, 0 ≤ x → x < 64 → mj 93 x = stp x := fun x a b => by rw [v4 93 x (by omega) (by omega) (by omega) (by omega), am_k (by omega), am_k (by omega)]; exact hm93 x a b
        have cm2 : clP W M B mj := clP_frame (fun k j hk => by rw [v4 k j (by omega) (by omega) (by omega) (by omega), am_k (by omega), am_k (by omega)]; exact u2 k j (by omega) (by omega) (by omega)) c
        have hln : mj 91 6 = F 0 := by rw [v4 91 6 (by omega) (by omega) (by omega) (by omega), am_same, hF0]
        refine ap_ild_5 (pc := 132) dX4_search_132 ?_
        refine ap_ald_0 (pc := 134) dX4_search_134 ?_
        refine ap_getI (pc := 135) (jz := 6) dX4_search_135 fl_RX4_30 sh_91 rfl rfl ?_
        try simp (disch := omega) only [am_same, am_k, am_j]
        rw [hln]
        refine ap_icmp_ge (pc := 138) 198 dX4_search_138 rfl ⟨by omega, by omega⟩ ⟨by omega, by omega⟩ (fun c138 => ?_) (fun c138 => ?_)
        · skip
          exact ap_return (pc := 198) dX4_search_198 rfl ⟨rfl, ⟨F, hFF, hFr, Or.inr ⟨by rw [v4 91 7 (by omega) (by omega) (by omega) (by omega), am_j (by omega), am_same], by omega, hln, S, v1, fun k a d => v2 k a (by omega)⟩⟩, fun k j q => by rw [v4 k j (by omega) (by omega) (by omega) (by omega), am_ne (by omega), am_ne (by omega)]; exact u2 k j (by omega) (by omega) (by omega)⟩
        · skip
          refine ap_ald_0 (pc := 141) dX4_search_141 ?_
          refine ap_getR (pc := 142) dX4_search_142 fl_RX4_24 sh_91 rfl ?_
          refine ap_ild_5 (pc := 145) dX4_search_145 ?_
          refine ap_ald_0 (pc := 147) dX4_search_147 ?_
          refine ap_ild_4 (pc := 148) dX4_search_148 ?_
          refine ap_ald_1 (pc := 150) dX4_search_150 ?_
          refine ap_ald_2 (pc := 151) dX4_search_151 ?_
          refine ap_invV (pc := 152) dX4_search_152 mv_RX4_46 sh_91 (av := [_, _, _]) (rest := [_, _]) (qX4_bestSet _ _ w cm2 v3.2.1 v3.1 (fun x a b => by rw [v4 93 x (by omega) (by omega) (by omega) (by omega)]; exact hm93 x a b) (fun t a b => by rw [v5 t]; exact hFr t (by have := v3.2.1; omega) b)) rfl rfl (Nat.le_of_ble_eq_true rfl) (by decide) (by decide) ?_
          rintro _ m3 ⟨b, e, rfl, bp, bm, bf⟩
          rw [h92f] at bp
          have hbn := bp_next (hFF (S i) v3.2.1.1 (val_last v3.2.1.1 v3.2.1.2 v3.1)) v3.1 (by omega) (by omega) bp
          have hop := op_next w v3.2.1.1 v3.2.1.2 v3.1 hbn.2.1.1
          have hb64 := hbn.1.1
          have hb65 := hbn.1.2
          have hbm := bm (by omega)
          have h93b : m3 93 b = stp b := by rw [bf 93 _ (by omega) (by omega), v4 93 _ (by omega) (by omega) (by omega) (by omega)]; exact hm93 b (by omega) (by omega)
          refine ap_iastore (pc := 155) dX4_search_155 sh_96 (by omega) (by omega) (by decide) ?_
          refine ap_ald_0 (pc := 156) dX4_search_156 ?_
          refine ap_getR (pc := 157) dX4_search_157 fl_RX4_27 sh_91 rfl ?_
          refine ap_ild_5 (pc := 160) dX4_search_160 ?_
          refine ap_ald_0 (pc := 162) dX4_search_162 ?_
          refine ap_getR (pc := 163) dX4_search_163 fl_RX4_18 sh_91 rfl ?_
          refine ap_ald_0 (pc := 166) dX4_search_166 ?_
          refine ap_getR (pc := 167) dX4_search_167 fl_RX4_24 sh_91 rfl ?_
          refine ap_ild_5 (pc := 170) dX4_search_170 ?_
          refine ap_iaload (pc := 172) dX4_search_172 sh_96 (by omega) (by omega) (by decide) ?_
          try simp (disch := omega) only [am_same, am_k, am_j]
          refine ap_iaload (pc := 173) dX4_search_173 sh_94 (by omega) (by omega) (by decide) ?_
          try simp (disch := omega) only [am_same, am_k, am_j]
          refine ap_iastore (pc := 174) dX4_search_174 sh_97 (by omega) (by omega) (by decide) ?_
          refine ap_ild_4 (pc := 175) dX4_search_175 ?_
          refine ap_ald_0 (pc := 177) dX4_search_177 ?_
          refine ap_getR (pc := 178) dX4_search_178 fl_RX4_15 sh_91 rfl ?_
          refine ap_ald_0 (pc := 181) dX4_search_181 ?_
          refine ap_getR (pc := 182) dX4_search_182 fl_RX4_24 sh_91 rfl ?_
          refine ap_ild_5 (pc := 185) dX4_search_185 ?_
          refine ap_iaload (pc := 187) dX4_search_187 sh_96 (by omega) (by omega) (by decide) ?_
          try simp (disch := omega) only [am_same, am_k, am_j]
          refine ap_iaload (pc := 188) dX4_search_188 sh_93 (by omega) (by omega) (by decide) ?_
          try simp (disch := omega) only [am_same, am_k, am_j]
          refine ap_iadd (pc := 189) dX4_search_189 ?_
          refine ap_ist_4 (pc := 190) dX4_search_190 (by decide) ?_
          refine ap_iinc_5 (pc := 192) dX4_search_192 (by decide) ?_
          refine ap_goto (pc := 195) 132 dX4_search_195 rfl ?_
          exact (ih c138 (rup S (i + 1) (S i + stp b)) _ (by rw [rup_ne (by omega)]; exact v1) (fun k a d => by
              by_cases ek : k = (i : Int)
              · subst ek
                rw [rup_ne (by omega), rup_same, am_k (by omega), am_same, am_same]
                exact ⟨v3, hbn, rfl, hbm⟩
              · rw [rup_ne (by omega), rup_ne (by omega), am_k (by omega), am_j ek, am_j ek, am_k (by omega), bf 96 k (by omega) (by omega), bf 97 k (by omega) (by omega)]
                exact v2 k a (by omega)) (by
              rw [show ((i + 1 : Nat) : Int) = (i : Int) + 1 by omega, rup_same]
              exact ⟨hop.2.2, hop.1, by rw [hbn.2.2.1]; omega⟩) (fun k j a b d g => by rw [am_k g, am_k d, bf k j a b]; exact v4 k j a b d g)).bk ⟨rfl, rfl, rfl, rfl, by rw [h93b, show ((i + 1 : Nat) : Int) = (i : Int) + 1 by omega, rup_same], rfl, trivial⟩ rfl
  · skip
    have hs : 0 ≤ (lastS W - 1 - (i : Int)) ∧ (lastS W - 1 - (i : Int)) < 4096 := ⟨by omega, by omega⟩
    refine ap_ild_4 (pc := 22) dX4_search_22 ?_
    refine ap_ald_1 (pc := 24) dX4_search_24 ?_
    refine ap_invS (pc := 25) dX4_search_25 ms_RX4_42 (av := [_, _]) (rest := []) (qX4_isStage _ _ w cm hs) rfl rfl (Nat.le_of_ble_eq_true rfl) (by decide) (by decide) ?_
    rintro _ _ ⟨⟨w25, rfl⟩ | ⟨w25, rfl⟩, rfl⟩
    · skip
      refine ap_if_eq (pc := 28) 42 dX4_search_28 rfl ⟨by omega, by omega⟩ (fun c28 => absurd c28 (by decide)) (fun _ => ?_)
      refine ap_ald_0 (pc := 31) dX4_search_31 ?_
      refine ap_ild_4 (pc := 32) dX4_search_32 ?_
      refine ap_ald_1 (pc := 34) dX4_search_34 ?_
      refine ap_ald_2 (pc := 35) dX4_search_35 ?_
      refine ap_invV (pc := 36) dX4_search_36 mv_RX4_46 sh_91 (av := [_, _, _]) (rest := []) (qX4_bestSet _ _ w cm hs w25 (fun x a b => by rw [u2 93 x (by omega) (by omega) (by omega)]; exact h93 x a b) (fun t a b => (u1 t (by omega) b).2)) rfl rfl (Nat.le_of_ble_eq_true rfl) (by decide) (by decide) ?_
      rintro _ m2 ⟨b, e, rfl, bp, bm, bf⟩
      refine ap_goto (pc := 39) 43 dX4_search_39 rfl ?_
      refine ap_ist_5 (pc := 43) dX4_search_43 (by decide) ?_
      refine ap_ald_0 (pc := 45) dX4_search_45 ?_
      refine ap_getR (pc := 46) dX4_search_46 fl_RX4_11 sh_91 rfl ?_
      refine ap_ild_4 (pc := 49) dX4_search_49 ?_
      refine ap_ild_5 (pc := 51) dX4_search_51 ?_
      refine ap_if_ne (pc := 53) 61 dX4_search_53 rfl (by first | (rcases bp with q | q; exact ⟨by omega, by omega⟩; exact ⟨by omega, by omega⟩) | (constructor <;> omega)) (fun c53 => ?_) (fun c53 => ?_)
      · skip
        have hbs : isSet b := by rcases bp with q | q; exact absurd q.1 c53; exact ⟨q.1.1, q.1.2⟩
        have hok : okS W M B (lastS W - 1 - (i : Int)) b := by rcases bp with q | q; exact absurd q.1 c53; exact q.2.1
        have hop := op_next w hs.1 hs.2 w25 hok.1
        have hbs1 := hbs.1
        have hbs2 := hbs.2
        have hlx := val_last hop.1.1 hop.1.2 hop.2.2
        have hsp := stp_pos hbs.1 hbs.2
        have hFn := (u1 ((lastS W - 1 - (i : Int)) + stp b) (by omega) hlx).2
        have hFl : mi 92 ((lastS W - 1 - (i : Int)) + stp b) < 19 := by rcases bp with q | q; exact absurd q.1 c53; exact q.2.2.2.1
        have h93b : m2 93 b = stp b := by rw [bf 93 _ (by omega) (by omega), u2 93 _ (by omega) (by omega) (by omega)]; exact h93 b (by omega) (by omega)
        refine ap_ald_0 (pc := 61) dX4_search_61 ?_
        refine ap_getR (pc := 62) dX4_search_62 fl_RX4_11 sh_91 rfl ?_
        refine ap_ild_4 (pc := 65) dX4_search_65 ?_
        refine ap_ald_0 (pc := 67) dX4_search_67 ?_
        refine ap_getR (pc := 68) dX4_search_68 fl_RX4_15 sh_91 rfl ?_
        refine ap_ild_5 (pc := 71) dX4_search_71 ?_
        refine ap_iaload (pc := 73) dX4_search_73 sh_93 (by omega) (by omega) (by decide) ?_
        try simp (disch := omega) only [am_same, am_k, am_j]
        rw [h93b]
        refine ap_iadd (pc := 74) dX4_search_74 ?_
        refine ap_iaload (pc := 75) dX4_search_75 sh_92 (by omega) (by omega) (by decide) ?_
        try simp (disch := omega) only [am_same, am_k, am_j]
        refine ap_const (pc := 76) dX4_search_76 ?_
        refine ap_iadd (pc := 77) dX4_search_77 ?_
        refine ap_iastore (pc := 78) dX4_search_78 sh_92 (by omega) (by omega) (by decide) ?_
        refine ap_iinc_4 (pc := 79) dX4_search_79 (by decide) ?_
        refine ap_goto (pc := 82) 17 dX4_search_82 rfl ?_
        exact (ih (by omega) _ (fun t a b => by
            by_cases et : t = (lastS W - 1 - (i : Int))
            · subst et
              refine ⟨FF1_new w (F := mi 92) (by omega) (by omega) (fun u z => by rw [am_j (by omega), bf 92 _ (by omega) (by omega)]) w25 bp (by rw [am_same, if_neg c53, bf 92 _ (by omega) (by omega)]), by rw [am_same, bf 92 _ (by omega) (by omega)]; omega⟩
            · refine ⟨FF1_congr (F := mi 92) (fun u z => by rw [am_j (by omega), bf 92 _ (by omega) (by omega)]) (u1 t (by omega) b).1, ?_⟩
              rw [am_j et, bf 92 _ (by omega) (by omega)]; exact (u1 t (by omega) b).2) (fun k j a b d => by rw [am_k a, bf k j b d]; exact u2 k j a b d)).bk ⟨rfl, rfl, rfl, rfl, by rw [show lastS W - 1 - ((i + 1 : Nat) : Int) = lastS W - 1 - i + -1 by omega], trivial, trivial⟩ rfl
      · skip
        refine ap_bipush (pc := 56) dX4_search_56 bp_19 ?_
        refine ap_goto (pc := 58) 78 dX4_search_58 rfl ?_
        refine ap_iastore (pc := 78) dX4_search_78 sh_92 (by omega) (by omega) (by decide) ?_
        refine ap_iinc_4 (pc := 79) dX4_search_79 (by decide) ?_
        refine ap_goto (pc := 82) 17 dX4_search_82 rfl ?_
        exact (ih (by omega) _ (fun t a b => by
            by_cases et : t = (lastS W - 1 - (i : Int))
            · subst et
              refine ⟨FF1_new w (F := mi 92) (by omega) (by omega) (fun u z => by rw [am_j (by omega), bf 92 _ (by omega) (by omega)]) w25 bp (by rw [am_same, if_pos c53]), by rw [am_same]; omega⟩
            · refine ⟨FF1_congr (F := mi 92) (fun u z => by rw [am_j (by omega), bf 92 _ (by omega) (by omega)]) (u1 t (by omega) b).1, ?_⟩
              rw [am_j et, bf 92 _ (by omega) (by omega)]; exact (u1 t (by omega) b).2) (fun k j a b d => by rw [am_k a, bf k j b d]; exact u2 k j a b d)).bk ⟨rfl, rfl, rfl, rfl, by rw [show lastS W - 1 - ((i + 1 : Nat) : Int) = lastS W - 1 - i + -1 by omega], trivial, trivial⟩ rfl
    · skip
      refine ap_if_eq (pc := 28) 42 dX4_search_28 rfl ⟨by omega, by omega⟩ (fun _ => ?_) (fun c28 => absurd c28 (by decide))
      refine ap_const (pc := 42) dX4_search_42 ?_
      refine ap_ist_5 (pc := 43) dX4_search_43 (by decide) ?_
      refine ap_ald_0 (pc := 45) dX4_search_45 ?_
      refine ap_getR (pc := 46) dX4_search_46 fl_RX4_11 sh_91 rfl ?_
      refine ap_ild_4 (pc := 49) dX4_search_49 ?_
      refine ap_ild_5 (pc := 51) dX4_search_51 ?_
      refine ap_if_ne (pc := 53) 61 dX4_search_53 rfl (by first | (rcases bp with q | q; exact ⟨by omega, by omega⟩; exact ⟨by omega, by omega⟩) | (constructor <;> omega)) (fun c53 => absurd c53 (by decide)) (fun _ => ?_)
      refine ap_bipush (pc := 56) dX4_search_56 bp_19 ?_
      refine ap_goto (pc := 58) 78 dX4_search_58 rfl ?_
      refine ap_iastore (pc := 78) dX4_search_78 sh_92 (by omega) (by omega) (by decide) ?_
      refine ap_iinc_4 (pc := 79) dX4_search_79 (by decide) ?_
      refine ap_goto (pc := 82) 17 dX4_search_82 rfl ?_
      exact (ih (by omega) _ (fun t a b => by
          by_cases et : t = (lastS W - 1 - (i : Int))
          · subst et
            refine ⟨⟨fun _ => by rw [am_same], fun z => absurd (ful_val z) w25, fun z => absurd z w25⟩, by rw [am_same]; omega⟩
          · refine ⟨FF1_congr (F := mi 92) (fun u z => by rw [am_j (by omega)]) (u1 t (by omega) b).1, ?_⟩
            rw [am_j et]; exact (u1 t (by omega) b).2) (fun k j a b d => by rw [am_k a]; exact u2 k j a b d)).bk ⟨rfl, rfl, rfl, rfl, by rw [show lastS W - 1 - ((i + 1 : Nat) : Int) = lastS W - 1 - i + -1 by omega], trivial, trivial⟩ rfl

