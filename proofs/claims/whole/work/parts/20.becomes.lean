set_option maxHeartbeats 4000000 in
theorem qX9_becomes (a h mn lg : Int) (m : AM) (h0 : 37 ≤ a) (h1 : a ≤ 111) (hh : 500 ≤ h ∧ h ≤ 1200) (hmn : 1 ≤ mn ∧ mn ≤ 20) (hlgd : (mn ≥ m 101 114 ∧ lg = 1) ∨ (mn < m 101 114 ∧ lg = 0)) (h14 : 1 ≤ m 101 114 ∧ m 101 114 ≤ 10) (hs : 0 ≤ m 101 (a + 1) ∧ m 101 (a + 1) ≤ 4) (hso : 0 ≤ m 101 (a + 2) ∧ m 101 (a + 2) ≤ 1999) (ha : 0 ≤ m 101 115 ∧ m 101 115 ≤ 5) (hc : 0 ≤ m 101 a ∧ m 101 a < 12) (hM : 600 ≤ meR (m 101) (m 101 a) ∧ meR (m 101) (m 101 a) ≤ 900) (hB : meR (m 101) (m 101 a) + 10 ≤ buR (m 101) (m 101 a) ∧ buR (m 101) (m 101 a) ≤ meR (m 101) (m 101 a) + 200) : CS 1 mX9_becomes [.inr 100, .inl a, .inl h, .inl mn] m (fun v m' => ((fGv h lg (meR (m 101) (m 101 a)) (buR (m 101) (m 101 a)) (m 101 (a + 1)) = 1 ∧ v = some 1) ∨ (¬ fGv h lg (meR (m 101) (m 101 a)) (buR (m 101) (m 101 a)) (m 101 (a + 1)) = 1 ∧ v = some 0)) ∧ m' = bcM m a (fSt h lg (m 101 115) (meR (m 101) (m 101 a)) (buR (m 101) (m 101 a)) (m 101 (a + 1)) (m 101 (a + 2))) (fSo h (meR (m 101) (m 101 a)) (buR (m 101) (m 101 a)) (m 101 (a + 1)) (m 101 (a + 2))) (fdS h lg (meR (m 101) (m 101 a)) (buR (m 101) (m 101 a)) (m 101 (a + 1))) (fdB h (buR (m 101) (m 101 a)) (m 101 (a + 1))) (fdD h (m 101 115) (meR (m 101) (m 101 a)) (buR (m 101) (m 101 a)) (m 101 (a + 1)) (m 101 (a + 2)))) := by
  refine cs_of (by decide +kernel) (Nat.le_of_ble_eq_true rfl) rfl ?_
  simp only [meR, buR] at hM hB ⊢
  refine ap_ald_0 (pc := 0) dX9_becomes_0 ?_
  refine ap_getR (pc := 1) dX9_becomes_1 fl_RX9_7 sh_100 rfl ?_
  refine ap_ild_1 (pc := 4) dX9_becomes_4 ?_
  refine ap_iaload (pc := 5) dX9_becomes_5 sh_101 (by omega) (by omega) (by decide) ?_
  refine ap_ist_4 (pc := 6) dX9_becomes_6 (by decide) ?_
  refine ap_ald_0 (pc := 8) dX9_becomes_8 ?_
  refine ap_getR (pc := 9) dX9_becomes_9 fl_RX9_7 sh_100 rfl ?_
  refine ap_ild_1 (pc := 12) dX9_becomes_12 ?_
  refine ap_const (pc := 13) dX9_becomes_13 ?_
  refine ap_iadd (pc := 14) dX9_becomes_14 ?_
  refine ap_iaload (pc := 15) dX9_becomes_15 sh_101 (by omega) (by omega) (by decide) ?_
  refine ap_ist_5 (pc := 16) dX9_becomes_16 (by decide) ?_
  refine ap_ild_5 (pc := 18) dX9_becomes_18 ?_
  refine ap_const (pc := 20) dX9_becomes_20 ?_
  refine ap_icmp_ne (pc := 21) 26 dX9_becomes_21 rfl (Or.inr ⟨⟨by omega, by omega⟩, ⟨by omega, by omega⟩⟩) (fun c21 => ?_) (fun c21 => ?_)
  · skip
    refine ap_ild_2 (pc := 26) dX9_becomes_26 ?_
    refine ap_ald_0 (pc := 27) dX9_becomes_27 ?_
    refine ap_ild_4 (pc := 28) dX9_becomes_28 ?_
    refine ap_invV (pc := 30) dX9_becomes_30 mv_RX9_82 sh_100 (av := [_]) (rest := [_]) (qX9_burning _ _ (by (try simp (disch := omega) only [am_same, am_k, am_j]); omega) (by (try simp (disch := omega) only [am_same, am_k, am_j]); omega)) rfl rfl (Nat.le_of_ble_eq_true rfl) (by decide) (by decide) ?_
    rintro _ _ ⟨rfl, rfl⟩
    try simp (disch := omega) only [am_same, am_k, am_j]
    refine ap_icmp_le (pc := 33) 58 dX9_becomes_33 rfl ⟨by omega, by omega⟩ ⟨by omega, by omega⟩ (fun c33 => ?_) (fun c33 => ?_)
    · skip
      refine ap_ild_5 (pc := 58) dX9_becomes_58 ?_
      refine ap_if_eq (pc := 60) 69 dX9_becomes_60 rfl ⟨by omega, by omega⟩ (fun c60 => ?_) (fun c60 => ?_)
      · skip
        refine ap_ild_2 (pc := 69) dX9_becomes_69 ?_
        refine ap_ald_0 (pc := 70) dX9_becomes_70 ?_
        refine ap_ild_4 (pc := 71) dX9_becomes_71 ?_
        refine ap_invV (pc := 73) dX9_becomes_73 mv_RX9_79 sh_100 (av := [_]) (rest := [_]) (qX9_melting _ _ (by (try simp (disch := omega) only [am_same, am_k, am_j]); omega) (by (try simp (disch := omega) only [am_same, am_k, am_j]); omega)) rfl rfl (Nat.le_of_ble_eq_true rfl) (by decide) (by decide) ?_
        rintro _ _ ⟨rfl, rfl⟩
        try simp (disch := omega) only [am_same, am_k, am_j]
        refine ap_icmp_lt (pc := 76) 94 dX9_becomes_76 rfl ⟨by omega, by omega⟩ ⟨by omega, by omega⟩ (fun c76 => ?_) (fun c76 => ?_)
        · skip
          refine ap_const (pc := 94) dX9_becomes_94 ?_
          refine ap_ist_6 (pc := 95) dX9_becomes_95 (by decide) ?_
          refine ap_ald_0 (pc := 97) dX9_becomes_97 ?_
          refine ap_getR (pc := 98) dX9_becomes_98 fl_RX9_7 sh_100 rfl ?_
          refine ap_ild_1 (pc := 101) dX9_becomes_101 ?_
          refine ap_const (pc := 102) dX9_becomes_102 ?_
          refine ap_iadd (pc := 103) dX9_becomes_103 ?_
          refine ap_ild_6 (pc := 104) dX9_becomes_104 ?_
          refine ap_if_eq (pc := 106) 113 dX9_becomes_106 rfl ⟨by omega, by omega⟩ (fun _ => ?_) (fun c106 => absurd c106 (by decide))
          refine ap_ild_2 (pc := 113) dX9_becomes_113 ?_
          refine ap_ald_0 (pc := 114) dX9_becomes_114 ?_
          refine ap_ild_4 (pc := 115) dX9_becomes_115 ?_
          refine ap_invV (pc := 117) dX9_becomes_117 mv_RX9_79 sh_100 (av := [_]) (rest := [_, _, _]) (qX9_melting _ _ (by (try simp (disch := omega) only [am_same, am_k, am_j]); omega) (by (try simp (disch := omega) only [am_same, am_k, am_j]); omega)) rfl rfl (Nat.le_of_ble_eq_true rfl) (by decide) (by decide) ?_
          rintro _ _ ⟨rfl, rfl⟩
          try simp (disch := omega) only [am_same, am_k, am_j]
          refine ap_bipush (pc := 120) dX9_becomes_120 bp_40 ?_
          refine ap_isub (pc := 122) dX9_becomes_122 ?_
          refine ap_icmp_lt (pc := 123) 130 dX9_becomes_123 rfl ⟨by omega, by omega⟩ ⟨by omega, by omega⟩ (fun c123 => ?_) (fun c123 => ?_)
          · skip
            refine ap_ild_5 (pc := 130) dX9_becomes_130 ?_
            refine ap_iastore (pc := 132) dX9_becomes_132 sh_101 (by omega) (by omega) (by decide) ?_
            refine ap_ald_0 (pc := 133) dX9_becomes_133 ?_
            refine ap_getR (pc := 134) dX9_becomes_134 fl_RX9_7 sh_100 rfl ?_
            refine ap_bipush (pc := 137) dX9_becomes_137 bp_121 ?_
            refine ap_dup2 (pc := 139) dX9_becomes_139 ?_
            refine ap_iaload (pc := 140) dX9_becomes_140 sh_101 (by omega) (by omega) (by decide) ?_
            try simp (disch := omega) only [am_same, am_k, am_j]
            refine ap_ild_6 (pc := 141) dX9_becomes_141 ?_
            refine ap_if_eq (pc := 143) 150 dX9_becomes_143 rfl ⟨by omega, by omega⟩ (fun _ => ?_) (fun c143 => absurd c143 (by decide))
            refine ap_const (pc := 150) dX9_becomes_150 ?_
            refine ap_iadd (pc := 151) dX9_becomes_151 ?_
            refine ap_iastore (pc := 152) dX9_becomes_152 sh_101 (by omega) (by omega) (by decide) ?_
            refine ap_ild_6 (pc := 153) dX9_becomes_153 ?_
            exact ap_zreturn (pc := 155) dX9_becomes_155 rfl (by decide) ⟨Or.inr ⟨by rw [fGv, if_neg (by omega)]; decide, rfl⟩, by
    simp (disch := omega) only [fSt, fSo, fGv, fdS, fdB, fdD, if_pos, if_neg]
    funext k j
    simp only [am_up, bcM]
    (repeat' split) <;> first | rfl | (exfalso; omega) | omega | simp_all⟩
          · skip
            refine ap_const (pc := 126) dX9_becomes_126 ?_
            refine ap_goto (pc := 127) 132 dX9_becomes_127 rfl ?_
            refine ap_iastore (pc := 132) dX9_becomes_132 sh_101 (by omega) (by omega) (by decide) ?_
            refine ap_ald_0 (pc := 133) dX9_becomes_133 ?_
            refine ap_getR (pc := 134) dX9_becomes_134 fl_RX9_7 sh_100 rfl ?_
            refine ap_bipush (pc := 137) dX9_becomes_137 bp_121 ?_
            refine ap_dup2 (pc := 139) dX9_becomes_139 ?_
            refine ap_iaload (pc := 140) dX9_becomes_140 sh_101 (by omega) (by omega) (by decide) ?_
            try simp (disch := omega) only [am_same, am_k, am_j]
            refine ap_ild_6 (pc := 141) dX9_becomes_141 ?_
            refine ap_if_eq (pc := 143) 150 dX9_becomes_143 rfl ⟨by omega, by omega⟩ (fun _ => ?_) (fun c143 => absurd c143 (by decide))
            refine ap_const (pc := 150) dX9_becomes_150 ?_
            refine ap_iadd (pc := 151) dX9_becomes_151 ?_
            refine ap_iastore (pc := 152) dX9_becomes_152 sh_101 (by omega) (by omega) (by decide) ?_
            refine ap_ild_6 (pc := 153) dX9_becomes_153 ?_
            exact ap_zreturn (pc := 155) dX9_becomes_155 rfl (by decide) ⟨Or.inr ⟨by rw [fGv, if_neg (by omega)]; decide, rfl⟩, by
    simp (disch := omega) only [fSt, fSo, fGv, fdS, fdB, fdD, if_pos, if_neg]
    funext k j
    simp only [am_up, bcM]
    (repeat' split) <;> first | rfl | (exfalso; omega) | omega | simp_all⟩
        · skip
          refine ap_ild_3 (pc := 79) dX9_becomes_79 ?_
          refine ap_ald_0 (pc := 80) dX9_becomes_80 ?_
          refine ap_getR (pc := 81) dX9_becomes_81 fl_RX9_7 sh_100 rfl ?_
          refine ap_bipush (pc := 84) dX9_becomes_84 bp_114 ?_
          refine ap_iaload (pc := 86) dX9_becomes_86 sh_101 (by omega) (by omega) (by decide) ?_
          refine ap_icmp_lt (pc := 87) 94 dX9_becomes_87 rfl ⟨by omega, by omega⟩ ⟨by omega, by omega⟩ (fun c87 => ?_) (fun c87 => ?_)
          · skip
            refine ap_const (pc := 94) dX9_becomes_94 ?_
            refine ap_ist_6 (pc := 95) dX9_becomes_95 (by decide) ?_
            refine ap_ald_0 (pc := 97) dX9_becomes_97 ?_
            refine ap_getR (pc := 98) dX9_becomes_98 fl_RX9_7 sh_100 rfl ?_
            refine ap_ild_1 (pc := 101) dX9_becomes_101 ?_
            refine ap_const (pc := 102) dX9_becomes_102 ?_
            refine ap_iadd (pc := 103) dX9_becomes_103 ?_
            refine ap_ild_6 (pc := 104) dX9_becomes_104 ?_
            refine ap_if_eq (pc := 106) 113 dX9_becomes_106 rfl ⟨by omega, by omega⟩ (fun _ => ?_) (fun c106 => absurd c106 (by decide))
            refine ap_ild_2 (pc := 113) dX9_becomes_113 ?_
            refine ap_ald_0 (pc := 114) dX9_becomes_114 ?_
            refine ap_ild_4 (pc := 115) dX9_becomes_115 ?_
            refine ap_invV (pc := 117) dX9_becomes_117 mv_RX9_79 sh_100 (av := [_]) (rest := [_, _, _]) (qX9_melting _ _ (by (try simp (disch := omega) only [am_same, am_k, am_j]); omega) (by (try simp (disch := omega) only [am_same, am_k, am_j]); omega)) rfl rfl (Nat.le_of_ble_eq_true rfl) (by decide) (by decide) ?_
            rintro _ _ ⟨rfl, rfl⟩
            try simp (disch := omega) only [am_same, am_k, am_j]
            refine ap_bipush (pc := 120) dX9_becomes_120 bp_40 ?_
            refine ap_isub (pc := 122) dX9_becomes_122 ?_
            refine ap_icmp_lt (pc := 123) 130 dX9_becomes_123 rfl ⟨by omega, by omega⟩ ⟨by omega, by omega⟩ (fun c123 => ?_) (fun c123 => ?_)
            · skip
              refine ap_ild_5 (pc := 130) dX9_becomes_130 ?_
              refine ap_iastore (pc := 132) dX9_becomes_132 sh_101 (by omega) (by omega) (by decide) ?_
              refine ap_ald_0 (pc := 133) dX9_becomes_133 ?_
              refine ap_getR (pc := 134) dX9_becomes_134 fl_RX9_7 sh_100 rfl ?_
              refine ap_bipush (pc := 137) dX9_becomes_137 bp_121 ?_
              refine ap_dup2 (pc := 139) dX9_becomes_139 ?_
              refine ap_iaload (pc := 140) dX9_becomes_140 sh_101 (by omega) (by omega) (by decide) ?_
              try simp (disch := omega) only [am_same, am_k, am_j]
              refine ap_ild_6 (pc := 141) dX9_becomes_141 ?_
              refine ap_if_eq (pc := 143) 150 dX9_becomes_143 rfl ⟨by omega, by omega⟩ (fun _ => ?_) (fun c143 => absurd c143 (by decide))
              refine ap_const (pc := 150) dX9_becomes_150 ?_
              refine ap_iadd (pc := 151) dX9_becomes_151 ?_
              refine ap_iastore (pc := 152) dX9_becomes_152 sh_101 (by omega) (by omega) (by decide) ?_
              refine ap_ild_6 (pc := 153) dX9_becomes_153 ?_
              exact ap_zreturn (pc := 155) dX9_becomes_155 rfl (by decide) ⟨Or.inr ⟨by rw [fGv, if_neg (by omega)]; decide, rfl⟩, by
    simp (disch := omega) only [fSt, fSo, fGv, fdS, fdB, fdD, if_pos, if_neg]
    funext k j
    simp only [am_up, bcM]
    (repeat' split) <;> first | rfl | (exfalso; omega) | omega | simp_all⟩
            · skip
              refine ap_const (pc := 126) dX9_becomes_126 ?_
              refine ap_goto (pc := 127) 132 dX9_becomes_127 rfl ?_
              refine ap_iastore (pc := 132) dX9_becomes_132 sh_101 (by omega) (by omega) (by decide) ?_
              refine ap_ald_0 (pc := 133) dX9_becomes_133 ?_
              refine ap_getR (pc := 134) dX9_becomes_134 fl_RX9_7 sh_100 rfl ?_
              refine ap_bipush (pc := 137) dX9_becomes_137 bp_121 ?_
              refine ap_dup2 (pc := 139) dX9_becomes_139 ?_
              refine ap_iaload (pc := 140) dX9_becomes_140 sh_101 (by omega) (by omega) (by decide) ?_
              try simp (disch := omega) only [am_same, am_k, am_j]
              refine ap_ild_6 (pc := 141) dX9_becomes_141 ?_
              refine ap_if_eq (pc := 143) 150 dX9_becomes_143 rfl ⟨by omega, by omega⟩ (fun _ => ?_) (fun c143 => absurd c143 (by decide))
              refine ap_const (pc := 150) dX9_becomes_150 ?_
              refine ap_iadd (pc := 151) dX9_becomes_151 ?_
              refine ap_iastore (pc := 152) dX9_becomes_152 sh_101 (by omega) (by omega) (by decide) ?_
              refine ap_ild_6 (pc := 153) dX9_becomes_153 ?_
              exact ap_zreturn (pc := 155) dX9_becomes_155 rfl (by decide) ⟨Or.inr ⟨by rw [fGv, if_neg (by omega)]; decide, rfl⟩, by
    simp (disch := omega) only [fSt, fSo, fGv, fdS, fdB, fdD, if_pos, if_neg]
    funext k j
    simp only [am_up, bcM]
    (repeat' split) <;> first | rfl | (exfalso; omega) | omega | simp_all⟩
          · skip
            refine ap_const (pc := 90) dX9_becomes_90 ?_
            refine ap_goto (pc := 91) 95 dX9_becomes_91 rfl ?_
            refine ap_ist_6 (pc := 95) dX9_becomes_95 (by decide) ?_
            refine ap_ald_0 (pc := 97) dX9_becomes_97 ?_
            refine ap_getR (pc := 98) dX9_becomes_98 fl_RX9_7 sh_100 rfl ?_
            refine ap_ild_1 (pc := 101) dX9_becomes_101 ?_
            refine ap_const (pc := 102) dX9_becomes_102 ?_
            refine ap_iadd (pc := 103) dX9_becomes_103 ?_
            refine ap_ild_6 (pc := 104) dX9_becomes_104 ?_
            refine ap_if_eq (pc := 106) 113 dX9_becomes_106 rfl ⟨by omega, by omega⟩ (fun c106 => absurd c106 (by decide)) (fun _ => ?_)
            refine ap_const (pc := 109) dX9_becomes_109 ?_
            refine ap_goto (pc := 110) 132 dX9_becomes_110 rfl ?_
            refine ap_iastore (pc := 132) dX9_becomes_132 sh_101 (by omega) (by omega) (by decide) ?_
            refine ap_ald_0 (pc := 133) dX9_becomes_133 ?_
            refine ap_getR (pc := 134) dX9_becomes_134 fl_RX9_7 sh_100 rfl ?_
            refine ap_bipush (pc := 137) dX9_becomes_137 bp_121 ?_
            refine ap_dup2 (pc := 139) dX9_becomes_139 ?_
            refine ap_iaload (pc := 140) dX9_becomes_140 sh_101 (by omega) (by omega) (by decide) ?_
            try simp (disch := omega) only [am_same, am_k, am_j]
            refine ap_ild_6 (pc := 141) dX9_becomes_141 ?_
            refine ap_if_eq (pc := 143) 150 dX9_becomes_143 rfl ⟨by omega, by omega⟩ (fun c143 => absurd c143 (by decide)) (fun _ => ?_)
            refine ap_const (pc := 146) dX9_becomes_146 ?_
            refine ap_goto (pc := 147) 151 dX9_becomes_147 rfl ?_
            refine ap_iadd (pc := 151) dX9_becomes_151 ?_
            refine ap_iastore (pc := 152) dX9_becomes_152 sh_101 (by omega) (by omega) (by decide) ?_
            refine ap_ild_6 (pc := 153) dX9_becomes_153 ?_
            exact ap_zreturn (pc := 155) dX9_becomes_155 rfl (by decide) ⟨Or.inl ⟨by rw [fGv, if_pos (by omega)], rfl⟩, by
    simp (disch := omega) only [fSt, fSo, fGv, fdS, fdB, fdD, if_pos, if_neg]
    funext k j
    simp only [am_up, bcM]
    (repeat' split) <;> first | rfl | (exfalso; omega) | omega | simp_all⟩
      · skip
        refine ap_ild_5 (pc := 63) dX9_becomes_63 ?_
        refine ap_const (pc := 65) dX9_becomes_65 ?_
        refine ap_icmp_ne (pc := 66) 156 dX9_becomes_66 rfl (Or.inr ⟨⟨by omega, by omega⟩, ⟨by omega, by omega⟩⟩) (fun c66 => ?_) (fun c66 => ?_)
        · skip
          refine ap_ild_2 (pc := 156) dX9_becomes_156 ?_
          refine ap_ald_0 (pc := 157) dX9_becomes_157 ?_
          refine ap_ild_4 (pc := 158) dX9_becomes_158 ?_
          refine ap_invV (pc := 160) dX9_becomes_160 mv_RX9_79 sh_100 (av := [_]) (rest := [_]) (qX9_melting _ _ (by (try simp (disch := omega) only [am_same, am_k, am_j]); omega) (by (try simp (disch := omega) only [am_same, am_k, am_j]); omega)) rfl rfl (Nat.le_of_ble_eq_true rfl) (by decide) (by decide) ?_
          rintro _ _ ⟨rfl, rfl⟩
          try simp (disch := omega) only [am_same, am_k, am_j]
          refine ap_bipush (pc := 163) dX9_becomes_163 bp_20 ?_
          refine ap_isub (pc := 165) dX9_becomes_165 ?_
          refine ap_icmp_ge (pc := 166) 171 dX9_becomes_166 rfl ⟨by omega, by omega⟩ ⟨by omega, by omega⟩ (fun c166 => ?_) (fun c166 => ?_)
          · skip
            refine ap_ald_0 (pc := 171) dX9_becomes_171 ?_
            refine ap_getR (pc := 172) dX9_becomes_172 fl_RX9_7 sh_100 rfl ?_
            refine ap_ild_1 (pc := 175) dX9_becomes_175 ?_
            refine ap_const (pc := 176) dX9_becomes_176 ?_
            refine ap_iadd (pc := 177) dX9_becomes_177 ?_
            refine ap_dup2 (pc := 178) dX9_becomes_178 ?_
            refine ap_iaload (pc := 179) dX9_becomes_179 sh_101 (by omega) (by omega) (by decide) ?_
            refine ap_const (pc := 180) dX9_becomes_180 ?_
            refine ap_iadd (pc := 181) dX9_becomes_181 ?_
            refine ap_iastore (pc := 182) dX9_becomes_182 sh_101 (by omega) (by omega) (by decide) ?_
            refine ap_ald_0 (pc := 183) dX9_becomes_183 ?_
            refine ap_getR (pc := 184) dX9_becomes_184 fl_RX9_7 sh_100 rfl ?_
            refine ap_ild_1 (pc := 187) dX9_becomes_187 ?_
            refine ap_const (pc := 188) dX9_becomes_188 ?_
            refine ap_iadd (pc := 189) dX9_becomes_189 ?_
            refine ap_iaload (pc := 190) dX9_becomes_190 sh_101 (by omega) (by omega) (by decide) ?_
            try simp (disch := omega) only [am_same, am_k, am_j]
            refine ap_ald_0 (pc := 191) dX9_becomes_191 ?_
            refine ap_getR (pc := 192) dX9_becomes_192 fl_RX9_7 sh_100 rfl ?_
            refine ap_bipush (pc := 195) dX9_becomes_195 bp_115 ?_
            refine ap_iaload (pc := 197) dX9_becomes_197 sh_101 (by omega) (by omega) (by decide) ?_
            try simp (disch := omega) only [am_same, am_k, am_j]
            refine ap_icmp_le (pc := 198) 231 dX9_becomes_198 rfl ⟨by omega, by omega⟩ ⟨by omega, by omega⟩ (fun c198 => ?_) (fun c198 => ?_)
            · skip
              refine ap_const (pc := 231) dX9_becomes_231 ?_
              exact ap_zreturn (pc := 232) dX9_becomes_232 rfl (by decide) ⟨Or.inl ⟨by rw [fGv, if_pos (by omega)], rfl⟩, by
    simp (disch := omega) only [fSt, fSo, fGv, fdS, fdB, fdD, if_pos, if_neg]
    funext k j
    simp only [am_up, bcM]
    (repeat' split) <;> first | rfl | (exfalso; omega) | omega | simp_all⟩
            · skip
              refine ap_ald_0 (pc := 201) dX9_becomes_201 ?_
              refine ap_getR (pc := 202) dX9_becomes_202 fl_RX9_7 sh_100 rfl ?_
              refine ap_bipush (pc := 205) dX9_becomes_205 bp_122 ?_
              refine ap_dup2 (pc := 207) dX9_becomes_207 ?_
              refine ap_iaload (pc := 208) dX9_becomes_208 sh_101 (by omega) (by omega) (by decide) ?_
              try simp (disch := omega) only [am_same, am_k, am_j]
              refine ap_ild_5 (pc := 209) dX9_becomes_209 ?_
              refine ap_const (pc := 211) dX9_becomes_211 ?_
              refine ap_icmp_ne (pc := 212) 219 dX9_becomes_212 rfl (Or.inr ⟨⟨by omega, by omega⟩, ⟨by omega, by omega⟩⟩) (fun c212 => ?_) (fun c212 => ?_)
              · skip
                refine ap_const (pc := 219) dX9_becomes_219 ?_
                refine ap_iadd (pc := 220) dX9_becomes_220 ?_
                refine ap_iastore (pc := 221) dX9_becomes_221 sh_101 (by omega) (by omega) (by decide) ?_
                refine ap_ald_0 (pc := 222) dX9_becomes_222 ?_
                refine ap_getR (pc := 223) dX9_becomes_223 fl_RX9_7 sh_100 rfl ?_
                refine ap_ild_1 (pc := 226) dX9_becomes_226 ?_
                refine ap_const (pc := 227) dX9_becomes_227 ?_
                refine ap_iadd (pc := 228) dX9_becomes_228 ?_
                refine ap_const (pc := 229) dX9_becomes_229 ?_
                refine ap_iastore (pc := 230) dX9_becomes_230 sh_101 (by omega) (by omega) (by decide) ?_
                refine ap_const (pc := 231) dX9_becomes_231 ?_
                exact ap_zreturn (pc := 232) dX9_becomes_232 rfl (by decide) ⟨Or.inl ⟨by rw [fGv, if_pos (by omega)], rfl⟩, by
    simp (disch := omega) only [fSt, fSo, fGv, fdS, fdB, fdD, if_pos, if_neg]
    funext k j
    simp only [am_up, bcM]
    (repeat' split) <;> first | rfl | (exfalso; omega) | omega | simp_all⟩
              · skip
                refine ap_const (pc := 215) dX9_becomes_215 ?_
                refine ap_goto (pc := 216) 220 dX9_becomes_216 rfl ?_
                refine ap_iadd (pc := 220) dX9_becomes_220 ?_
                refine ap_iastore (pc := 221) dX9_becomes_221 sh_101 (by omega) (by omega) (by decide) ?_
                refine ap_ald_0 (pc := 222) dX9_becomes_222 ?_
                refine ap_getR (pc := 223) dX9_becomes_223 fl_RX9_7 sh_100 rfl ?_
                refine ap_ild_1 (pc := 226) dX9_becomes_226 ?_
                refine ap_const (pc := 227) dX9_becomes_227 ?_
                refine ap_iadd (pc := 228) dX9_becomes_228 ?_
                refine ap_const (pc := 229) dX9_becomes_229 ?_
                refine ap_iastore (pc := 230) dX9_becomes_230 sh_101 (by omega) (by omega) (by decide) ?_
                refine ap_const (pc := 231) dX9_becomes_231 ?_
                exact ap_zreturn (pc := 232) dX9_becomes_232 rfl (by decide) ⟨Or.inl ⟨by rw [fGv, if_pos (by omega)], rfl⟩, by
    simp (disch := omega) only [fSt, fSo, fGv, fdS, fdB, fdD, if_pos, if_neg]
    funext k j
    simp only [am_up, bcM]
    (repeat' split) <;> first | rfl | (exfalso; omega) | omega | simp_all⟩
          · skip
            refine ap_const (pc := 169) dX9_becomes_169 ?_
            exact ap_zreturn (pc := 170) dX9_becomes_170 rfl (by decide) ⟨Or.inr ⟨by rw [fGv, if_neg (by omega)]; decide, rfl⟩, by
    simp (disch := omega) only [fSt, fSo, fGv, fdS, fdB, fdD, if_pos, if_neg]
    funext k j
    simp only [am_up, bcM]
    (repeat' split) <;> first | rfl | (exfalso; omega) | omega | simp_all⟩
        · skip
          refine ap_ild_2 (pc := 69) dX9_becomes_69 ?_
          refine ap_ald_0 (pc := 70) dX9_becomes_70 ?_
          refine ap_ild_4 (pc := 71) dX9_becomes_71 ?_
          refine ap_invV (pc := 73) dX9_becomes_73 mv_RX9_79 sh_100 (av := [_]) (rest := [_]) (qX9_melting _ _ (by (try simp (disch := omega) only [am_same, am_k, am_j]); omega) (by (try simp (disch := omega) only [am_same, am_k, am_j]); omega)) rfl rfl (Nat.le_of_ble_eq_true rfl) (by decide) (by decide) ?_
          rintro _ _ ⟨rfl, rfl⟩
          try simp (disch := omega) only [am_same, am_k, am_j]
          refine ap_icmp_lt (pc := 76) 94 dX9_becomes_76 rfl ⟨by omega, by omega⟩ ⟨by omega, by omega⟩ (fun c76 => ?_) (fun c76 => ?_)
          · skip
            refine ap_const (pc := 94) dX9_becomes_94 ?_
            refine ap_ist_6 (pc := 95) dX9_becomes_95 (by decide) ?_
            refine ap_ald_0 (pc := 97) dX9_becomes_97 ?_
            refine ap_getR (pc := 98) dX9_becomes_98 fl_RX9_7 sh_100 rfl ?_
            refine ap_ild_1 (pc := 101) dX9_becomes_101 ?_
            refine ap_const (pc := 102) dX9_becomes_102 ?_
            refine ap_iadd (pc := 103) dX9_becomes_103 ?_
            refine ap_ild_6 (pc := 104) dX9_becomes_104 ?_
            refine ap_if_eq (pc := 106) 113 dX9_becomes_106 rfl ⟨by omega, by omega⟩ (fun _ => ?_) (fun c106 => absurd c106 (by decide))
            refine ap_ild_2 (pc := 113) dX9_becomes_113 ?_
            refine ap_ald_0 (pc := 114) dX9_becomes_114 ?_
            refine ap_ild_4 (pc := 115) dX9_becomes_115 ?_
            refine ap_invV (pc := 117) dX9_becomes_117 mv_RX9_79 sh_100 (av := [_]) (rest := [_, _, _]) (qX9_melting _ _ (by (try simp (disch := omega) only [am_same, am_k, am_j]); omega) (by (try simp (disch := omega) only [am_same, am_k, am_j]); omega)) rfl rfl (Nat.le_of_ble_eq_true rfl) (by decide) (by decide) ?_
            rintro _ _ ⟨rfl, rfl⟩
            try simp (disch := omega) only [am_same, am_k, am_j]
            refine ap_bipush (pc := 120) dX9_becomes_120 bp_40 ?_
            refine ap_isub (pc := 122) dX9_becomes_122 ?_
            refine ap_icmp_lt (pc := 123) 130 dX9_becomes_123 rfl ⟨by omega, by omega⟩ ⟨by omega, by omega⟩ (fun c123 => ?_) (fun c123 => ?_)
            · skip
              refine ap_ild_5 (pc := 130) dX9_becomes_130 ?_
              refine ap_iastore (pc := 132) dX9_becomes_132 sh_101 (by omega) (by omega) (by decide) ?_
              refine ap_ald_0 (pc := 133) dX9_becomes_133 ?_
              refine ap_getR (pc := 134) dX9_becomes_134 fl_RX9_7 sh_100 rfl ?_
              refine ap_bipush (pc := 137) dX9_becomes_137 bp_121 ?_
              refine ap_dup2 (pc := 139) dX9_becomes_139 ?_
              refine ap_iaload (pc := 140) dX9_becomes_140 sh_101 (by omega) (by omega) (by decide) ?_
              try simp (disch := omega) only [am_same, am_k, am_j]
              refine ap_ild_6 (pc := 141) dX9_becomes_141 ?_
              refine ap_if_eq (pc := 143) 150 dX9_becomes_143 rfl ⟨by omega, by omega⟩ (fun _ => ?_) (fun c143 => absurd c143 (by decide))
              refine ap_const (pc := 150) dX9_becomes_150 ?_
              refine ap_iadd (pc := 151) dX9_becomes_151 ?_
              refine ap_iastore (pc := 152) dX9_becomes_152 sh_101 (by omega) (by omega) (by decide) ?_
              refine ap_ild_6 (pc := 153) dX9_becomes_153 ?_
              exact ap_zreturn (pc := 155) dX9_becomes_155 rfl (by decide) ⟨Or.inr ⟨by rw [fGv, if_neg (by omega)]; decide, rfl⟩, by
    simp (disch := omega) only [fSt, fSo, fGv, fdS, fdB, fdD, if_pos, if_neg]
    funext k j
    simp only [am_up, bcM]
    (repeat' split) <;> first | rfl | (exfalso; omega) | omega | simp_all⟩
            · skip
              refine ap_const (pc := 126) dX9_becomes_126 ?_
              refine ap_goto (pc := 127) 132 dX9_becomes_127 rfl ?_
              refine ap_iastore (pc := 132) dX9_becomes_132 sh_101 (by omega) (by omega) (by decide) ?_
              refine ap_ald_0 (pc := 133) dX9_becomes_133 ?_
              refine ap_getR (pc := 134) dX9_becomes_134 fl_RX9_7 sh_100 rfl ?_
              refine ap_bipush (pc := 137) dX9_becomes_137 bp_121 ?_
              refine ap_dup2 (pc := 139) dX9_becomes_139 ?_
              refine ap_iaload (pc := 140) dX9_becomes_140 sh_101 (by omega) (by omega) (by decide) ?_
              try simp (disch := omega) only [am_same, am_k, am_j]
              refine ap_ild_6 (pc := 141) dX9_becomes_141 ?_
              refine ap_if_eq (pc := 143) 150 dX9_becomes_143 rfl ⟨by omega, by omega⟩ (fun _ => ?_) (fun c143 => absurd c143 (by decide))
              refine ap_const (pc := 150) dX9_becomes_150 ?_
              refine ap_iadd (pc := 151) dX9_becomes_151 ?_
              refine ap_iastore (pc := 152) dX9_becomes_152 sh_101 (by omega) (by omega) (by decide) ?_
              refine ap_ild_6 (pc := 153) dX9_becomes_153 ?_
              exact ap_zreturn (pc := 155) dX9_becomes_155 rfl (by decide) ⟨Or.inr ⟨by rw [fGv, if_neg (by omega)]; decide, rfl⟩, by
    simp (disch := omega) only [fSt, fSo, fGv, fdS, fdB, fdD, if_pos, if_neg]
    funext k j
    simp only [am_up, bcM]
    (repeat' split) <;> first | rfl | (exfalso; omega) | omega | simp_all⟩
          · skip
            refine ap_ild_3 (pc := 79) dX9_becomes_79 ?_
            refine ap_ald_0 (pc := 80) dX9_becomes_80 ?_
            refine ap_getR (pc := 81) dX9_becomes_81 fl_RX9_7 sh_100 rfl ?_
            refine ap_bipush (pc := 84) dX9_becomes_84 bp_114 ?_
            refine ap_iaload (pc := 86) dX9_becomes_86 sh_101 (by omega) (by omega) (by decide) ?_
            refine ap_icmp_lt (pc := 87) 94 dX9_becomes_87 rfl ⟨by omega, by omega⟩ ⟨by omega, by omega⟩ (fun c87 => ?_) (fun c87 => ?_)
            · skip
              refine ap_const (pc := 94) dX9_becomes_94 ?_
              refine ap_ist_6 (pc := 95) dX9_becomes_95 (by decide) ?_
              refine ap_ald_0 (pc := 97) dX9_becomes_97 ?_
              refine ap_getR (pc := 98) dX9_becomes_98 fl_RX9_7 sh_100 rfl ?_
              refine ap_ild_1 (pc := 101) dX9_becomes_101 ?_
              refine ap_const (pc := 102) dX9_becomes_102 ?_
              refine ap_iadd (pc := 103) dX9_becomes_103 ?_
              refine ap_ild_6 (pc := 104) dX9_becomes_104 ?_
              refine ap_if_eq (pc := 106) 113 dX9_becomes_106 rfl ⟨by omega, by omega⟩ (fun _ => ?_) (fun c106 => absurd c106 (by decide))
              refine ap_ild_2 (pc := 113) dX9_becomes_113 ?_
              refine ap_ald_0 (pc := 114) dX9_becomes_114 ?_
              refine ap_ild_4 (pc := 115) dX9_becomes_115 ?_
              refine ap_invV (pc := 117) dX9_becomes_117 mv_RX9_79 sh_100 (av := [_]) (rest := [_, _, _]) (qX9_melting _ _ (by (try simp (disch := omega) only [am_same, am_k, am_j]); omega) (by (try simp (disch := omega) only [am_same, am_k, am_j]); omega)) rfl rfl (Nat.le_of_ble_eq_true rfl) (by decide) (by decide) ?_
              rintro _ _ ⟨rfl, rfl⟩
              try simp (disch := omega) only [am_same, am_k, am_j]
              refine ap_bipush (pc := 120) dX9_becomes_120 bp_40 ?_
              refine ap_isub (pc := 122) dX9_becomes_122 ?_
              refine ap_icmp_lt (pc := 123) 130 dX9_becomes_123 rfl ⟨by omega, by omega⟩ ⟨by omega, by omega⟩ (fun c123 => ?_) (fun c123 => ?_)
              · skip
                refine ap_ild_5 (pc := 130) dX9_becomes_130 ?_
                refine ap_iastore (pc := 132) dX9_becomes_132 sh_101 (by omega) (by omega) (by decide) ?_
                refine ap_ald_0 (pc := 133) dX9_becomes_133 ?_
                refine ap_getR (pc := 134) dX9_becomes_134 fl_RX9_7 sh_100 rfl ?_
                refine ap_bipush (pc := 137) dX9_becomes_137 bp_121 ?_
                refine ap_dup2 (pc := 139) dX9_becomes_139 ?_
                refine ap_iaload (pc := 140) dX9_becomes_140 sh_101 (by omega) (by omega) (by decide) ?_
                try simp (disch := omega) only [am_same, am_k, am_j]
                refine ap_ild_6 (pc := 141) dX9_becomes_141 ?_
                refine ap_if_eq (pc := 143) 150 dX9_becomes_143 rfl ⟨by omega, by omega⟩ (fun _ => ?_) (fun c143 => absurd c143 (by decide))
                refine ap_const (pc := 150) dX9_becomes_150 ?_
                refine ap_iadd (pc := 151) dX9_becomes_151 ?_
                refine ap_iastore (pc := 152) dX9_becomes_152 sh_101 (by omega) (by omega) (by decide) ?_
                refine ap_ild_6 (pc := 153) dX9_becomes_153 ?_
                exact ap_zreturn (pc := 155) dX9_becomes_155 rfl (by decide) ⟨Or.inr ⟨by rw [fGv, if_neg (by omega)]; decide, rfl⟩, by
    simp (disch := omega) only [fSt, fSo, fGv, fdS, fdB, fdD, if_pos, if_neg]
    funext k j
    simp only [am_up, bcM]
    (repeat' split) <;> first | rfl | (exfalso; omega) | omega | simp_all⟩
              · skip
                refine ap_const (pc := 126) dX9_becomes_126 ?_
                refine ap_goto (pc := 127) 132 dX9_becomes_127 rfl ?_
                refine ap_iastore (pc := 132) dX9_becomes_132 sh_101 (by omega) (by omega) (by decide) ?_
                refine ap_ald_0 (pc := 133) dX9_becomes_133 ?_
                refine ap_getR (pc := 134) dX9_becomes_134 fl_RX9_7 sh_100 rfl ?_
                refine ap_bipush (pc := 137) dX9_becomes_137 bp_121 ?_
                refine ap_dup2 (pc := 139) dX9_becomes_139 ?_
                refine ap_iaload (pc := 140) dX9_becomes_140 sh_101 (by omega) (by omega) (by decide) ?_
                try simp (disch := omega) only [am_same, am_k, am_j]
                refine ap_ild_6 (pc := 141) dX9_becomes_141 ?_
                refine ap_if_eq (pc := 143) 150 dX9_becomes_143 rfl ⟨by omega, by omega⟩ (fun _ => ?_) (fun c143 => absurd c143 (by decide))
                refine ap_const (pc := 150) dX9_becomes_150 ?_
                refine ap_iadd (pc := 151) dX9_becomes_151 ?_
                refine ap_iastore (pc := 152) dX9_becomes_152 sh_101 (by omega) (by omega) (by decide) ?_
                refine ap_ild_6 (pc := 153) dX9_becomes_153 ?_
                exact ap_zreturn (pc := 155) dX9_becomes_155 rfl (by decide) ⟨Or.inr ⟨by rw [fGv, if_neg (by omega)]; decide, rfl⟩, by
    simp (disch := omega) only [fSt, fSo, fGv, fdS, fdB, fdD, if_pos, if_neg]
    funext k j
    simp only [am_up, bcM]
    (repeat' split) <;> first | rfl | (exfalso; omega) | omega | simp_all⟩
            · skip
              refine ap_const (pc := 90) dX9_becomes_90 ?_
              refine ap_goto (pc := 91) 95 dX9_becomes_91 rfl ?_
              refine ap_ist_6 (pc := 95) dX9_becomes_95 (by decide) ?_
              refine ap_ald_0 (pc := 97) dX9_becomes_97 ?_
              refine ap_getR (pc := 98) dX9_becomes_98 fl_RX9_7 sh_100 rfl ?_
              refine ap_ild_1 (pc := 101) dX9_becomes_101 ?_
              refine ap_const (pc := 102) dX9_becomes_102 ?_
              refine ap_iadd (pc := 103) dX9_becomes_103 ?_
              refine ap_ild_6 (pc := 104) dX9_becomes_104 ?_
              refine ap_if_eq (pc := 106) 113 dX9_becomes_106 rfl ⟨by omega, by omega⟩ (fun c106 => absurd c106 (by decide)) (fun _ => ?_)
              refine ap_const (pc := 109) dX9_becomes_109 ?_
              refine ap_goto (pc := 110) 132 dX9_becomes_110 rfl ?_
              refine ap_iastore (pc := 132) dX9_becomes_132 sh_101 (by omega) (by omega) (by decide) ?_
              refine ap_ald_0 (pc := 133) dX9_becomes_133 ?_
              refine ap_getR (pc := 134) dX9_becomes_134 fl_RX9_7 sh_100 rfl ?_
              refine ap_bipush (pc := 137) dX9_becomes_137 bp_121 ?_
              refine ap_dup2 (pc := 139) dX9_becomes_139 ?_
              refine ap_iaload (pc := 140) dX9_becomes_140 sh_101 (by omega) (by omega) (by decide) ?_
              try simp (disch := omega) only [am_same, am_k, am_j]
              refine ap_ild_6 (pc := 141) dX9_becomes_141 ?_
              refine ap_if_eq (pc := 143) 150 dX9_becomes_143 rfl ⟨by omega, by omega⟩ (fun c143 => absurd c143 (by decide)) (fun _ => ?_)
              refine ap_const (pc := 146) dX9_becomes_146 ?_
              refine ap_goto (pc := 147) 151 dX9_becomes_147 rfl ?_
              refine ap_iadd (pc := 151) dX9_becomes_151 ?_
              refine ap_iastore (pc := 152) dX9_becomes_152 sh_101 (by omega) (by omega) (by decide) ?_
              refine ap_ild_6 (pc := 153) dX9_becomes_153 ?_
              exact ap_zreturn (pc := 155) dX9_becomes_155 rfl (by decide) ⟨Or.inl ⟨by rw [fGv, if_pos (by omega)], rfl⟩, by
    simp (disch := omega) only [fSt, fSo, fGv, fdS, fdB, fdD, if_pos, if_neg]
    funext k j
    simp only [am_up, bcM]
    (repeat' split) <;> first | rfl | (exfalso; omega) | omega | simp_all⟩
    · skip
      refine ap_ald_0 (pc := 36) dX9_becomes_36 ?_
      refine ap_getR (pc := 37) dX9_becomes_37 fl_RX9_7 sh_100 rfl ?_
      refine ap_ild_1 (pc := 40) dX9_becomes_40 ?_
      refine ap_const (pc := 41) dX9_becomes_41 ?_
      refine ap_iadd (pc := 42) dX9_becomes_42 ?_
      refine ap_const (pc := 43) dX9_becomes_43 ?_
      refine ap_iastore (pc := 44) dX9_becomes_44 sh_101 (by omega) (by omega) (by decide) ?_
      refine ap_ald_0 (pc := 45) dX9_becomes_45 ?_
      refine ap_getR (pc := 46) dX9_becomes_46 fl_RX9_7 sh_100 rfl ?_
      refine ap_bipush (pc := 49) dX9_becomes_49 bp_123 ?_
      refine ap_dup2 (pc := 51) dX9_becomes_51 ?_
      refine ap_iaload (pc := 52) dX9_becomes_52 sh_101 (by omega) (by omega) (by decide) ?_
      try simp (disch := omega) only [am_same, am_k, am_j]
      refine ap_const (pc := 53) dX9_becomes_53 ?_
      refine ap_iadd (pc := 54) dX9_becomes_54 ?_
      refine ap_iastore (pc := 55) dX9_becomes_55 sh_101 (by omega) (by omega) (by decide) ?_
      refine ap_const (pc := 56) dX9_becomes_56 ?_
      exact ap_zreturn (pc := 57) dX9_becomes_57 rfl (by decide) ⟨Or.inr ⟨by rw [fGv, if_neg (by omega)]; decide, rfl⟩, by
    simp (disch := omega) only [fSt, fSo, fGv, fdS, fdB, fdD, if_pos, if_neg]
    funext k j
    simp only [am_up, bcM]
    (repeat' split) <;> first | rfl | (exfalso; omega) | omega | simp_all⟩
  · skip
    refine ap_const (pc := 24) dX9_becomes_24 ?_
    exact ap_zreturn (pc := 25) dX9_becomes_25 rfl (by decide) ⟨Or.inr ⟨by rw [fGv, if_neg (by omega)]; decide, rfl⟩, by
    simp (disch := omega) only [fSt, fSo, fGv, fdS, fdB, fdD, if_pos, if_neg]
    funext k j
    simp only [am_up, bcM]
    (repeat' split) <;> first | rfl | (exfalso; omega) | omega | simp_all⟩
