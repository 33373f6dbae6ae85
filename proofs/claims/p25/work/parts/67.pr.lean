theorem vCN_0 {r : Int → Int} {n t : Int} : vCN r n t 0 = r 0 := by simp [vCN]
theorem vCN_1 {r : Int → Int} {n t : Int} : vCN r n t 1 = layN r := by simp [vCN]
theorem vCN_2 {r : Int → Int} {n t : Int} : vCN r n t 2 = stN r 0 0 := by simp [vCN]
theorem vCN_3 {r : Int → Int} {n t : Int} : vCN r n t 3 = stN r 1 1 := by simp [vCN]
theorem vCN_4 {r : Int → Int} {n t : Int} : vCN r n t 4 = stN r 2 2 := by simp [vCN]
theorem vCN_5 {r : Int → Int} {n t : Int} : vCN r n t 5 = stN r 3 3 := by simp [vCN]
theorem vCN_6 {r : Int → Int} {n t : Int} : vCN r n t 6 = stN r 4 4 := by simp [vCN]
theorem vCN_7 {r : Int → Int} {n t : Int} : vCN r n t 7 = crkN r := by simp [vCN]
theorem vCN_8 {r : Int → Int} {n t : Int} : vCN r n t 8 = r 114 := by simp [vCN]
theorem vCN_9 {r : Int → Int} {n t : Int} : vCN r n t 9 = r 115 := by simp [vCN]
theorem vCN_10 {r : Int → Int} {n t : Int} : vCN r n t 10 = r 116 := by simp [vCN]
theorem vCN_11 {r : Int → Int} {n t : Int} : vCN r n t 11 = r 117 := by simp [vCN]
theorem vCN_12 {r : Int → Int} {n t : Int} : vCN r n t 12 = r 118 := by simp [vCN]
theorem vCN_13 {r : Int → Int} {n t : Int} : vCN r n t 13 = r 119 := by simp [vCN]
theorem vCN_14 {r : Int → Int} {n t : Int} : vCN r n t 14 = r 120 := by simp [vCN]
theorem vCN_15 {r : Int → Int} {n t : Int} : vCN r n t 15 = r 121 := by simp [vCN]
theorem vCN_16 {r : Int → Int} {n t : Int} : vCN r n t 16 = r 122 := by simp [vCN]
theorem vCN_17 {r : Int → Int} {n t : Int} : vCN r n t 17 = r 123 := by simp [vCN]
theorem vCN_18 {r : Int → Int} {n t : Int} : vCN r n t 18 = r 124 := by simp [vCN]
theorem vCN_19 {r : Int → Int} {n t : Int} : vCN r n t 19 = r 125 := by simp [vCN]
theorem vCN_20 {r : Int → Int} {n t : Int} : vCN r n t 20 = wisT r := by simp [vCN]
theorem vCN_21 {r : Int → Int} {n t : Int} : vCN r n t 21 = n := by simp [vCN]
def lfold (g : Nat → Int64 → Int64) (z : Int64) : Nat → Int64
  | 0 => z
  | k + 1 => g k (lfold g z k)
theorem lfold_succ (g : Nat → Int64 → Int64) (z : Int64) (k : Nat) : lfold g z (k + 1) = g k (lfold g z k) := rfl
def toL (x : Int) : Int64 := (Int32.ofInt x).toInt64
/-- what print makes of the answers -/
def pr1 (r : Int → Int) (k : Nat) : Int64 := lfold (fun i h => 31 * h + toL (vCN r 0 0 i)) 137 k
def pr2 (r : Int → Int) (f : Nat) (z : Int64) (k : Nat) : Int64 := lfold (fun i h => 31 * h + toL (vLY r f (iDiv i 3) (iRem i 3))) z k
def pr3 (r : Int → Int) (f : Nat) (z : Int64) (k : Nat) : Int64 := lfold (fun i h => 31 * (31 * h + toL (vFD r f i)) + toL (vWD r f (iRem i 3))) z k
def pr4 (r : Int → Int) (f : Nat) : Int64 := lfold (fun f h => pr3 r f (pr2 r f h 9) 6) (pr1 r 21) f
def pr5 (r : Int → Int) (k : Nat) : Int64 := lfold (fun i h => 31 * h + toL (vCI r (iDiv i 6) (iRem i 6))) (pr4 r 7) k
def PR (r : Int → Int) : Int64 := pr5 r 72
theorem pr5_0 {r : Int → Int} : pr5 r 0 = pr4 r 7 := by unfold pr5 lfold; rfl
theorem vCN_n {r : Int → Int} {n t w : Int} (h : w ≤ 20) : vCN r n t w = vCN r 0 0 w := by
  unfold vCN
  by_cases c : w = 21
  · omega
  · by_cases c2 : w = 22
    · omega
    · rw [if_neg c, if_neg c2, if_neg c, if_neg c2]
set_option maxHeartbeats 4000000 in
theorem qL_size (v : Int) (m : AM) (h : -1000000 ≤ v ∧ v ≤ 1000000) : CS 0 mL_size [.inl v] m (an (iab v) m) := by
  refine cs_of (by decide +kernel) (Nat.le_of_ble_eq_true rfl) rfl ?_
  refine ap_ild_0 (pc := 0) dL_size_0 ?_
  refine ap_if_ge (pc := 1) 9 dL_size_1 rfl ⟨by omega, by omega⟩ (fun c1 => ?_) (fun c1 => ?_)
  · skip
    refine ap_ild_0 (pc := 9) dL_size_9 ?_
    exact ap_ireturn (pc := 10) dL_size_10 rfl ⟨by unfold iab; first | rw [if_pos (by omega)] | rw [if_neg (by omega)], rfl⟩
  · skip
    refine ap_ild_0 (pc := 4) dL_size_4 ?_
    refine ap_ineg (pc := 5) dL_size_5 ?_
    refine ap_goto (pc := 6) 10 dL_size_6 rfl ?_
    exact ap_ireturn (pc := 10) dL_size_10 rfl ⟨by unfold iab; first | rw [if_pos (by omega)] | rw [if_neg (by omega)], rfl⟩

theorem and_nn (v : Int) : 0 ≤ iAnd v 2147483647 ∧ iAnd v 2147483647 ≤ 2147483647 := by
  unfold iAnd
  have h := rng_toInt (Int32.ofInt v &&& Int32.ofInt 2147483647)
  refine ⟨?_, h.2⟩
  have e : (Int32.ofInt v &&& Int32.ofInt 2147483647).toBitVec.msb = false := by
    rw [Int32.toBitVec_and, BitVec.msb_and]
    rw [show (Int32.ofInt 2147483647).toBitVec.msb = false by decide +kernel, Bool.and_false]
  show 0 ≤ (Int32.ofInt v &&& Int32.ofInt 2147483647).toBitVec.toInt
  rw [BitVec.toInt_eq_msb_cond, e]
  simp
set_option maxHeartbeats 4000000 in
theorem qL_low (v k : Int) (m : AM) (hk : 1 ≤ k ∧ k ≤ 1000000) : CS 0 mL_low [.inl v, .inl k] m (fun x m' => (∃ z : Int, x = some z ∧ 0 ≤ z ∧ z < k) ∧ m = m') := by
  refine cs_of (by decide +kernel) (Nat.le_of_ble_eq_true rfl) rfl ?_
  refine ap_ild_0 (pc := 0) dL_low_0 ?_
  refine ap_ldc (pc := 1) dL_low_1 lc_8 ?_
  refine ap_iand (pc := 3) dL_low_3 ?_
  refine ap_ild_1 (pc := 4) dL_low_4 ?_
  have hand := and_nn v
  have hrm := iRem_v (x := iAnd v 2147483647) (y := k) ⟨by omega, by omega⟩ ⟨by omega, by omega⟩ hand.1
  have e1 := Int.emod_nonneg (iAnd v 2147483647) (b := k) (by omega)
  have e2 := Int.emod_lt_of_pos (iAnd v 2147483647) (b := k) (by omega)
  refine ap_irem (pc := 5) dL_low_5 ⟨by omega, by omega⟩ (by omega) ?_
  exact ap_ireturn (pc := 6) dL_low_6 rfl ⟨⟨_, rfl, by rw [hrm]; exact e1, by rw [hrm]; exact e2⟩, rfl⟩

set_option maxHeartbeats 4000000 in
theorem qL_cell {X : AX} (k : Int) (m : AM) (hX : X.1 ≤ 260) (hk : 0 ≤ k ∧ k ≤ 1000) : CX X 2 mL_cell [.inr 1000, .inl k] m (fun x m' => (∃ z : Int, x = some z ∧ rng z) ∧ m = m') := by
  refine cx_of (by decide +kernel) (Nat.le_of_ble_eq_true rfl) rfl (by decide) ?_
  refine lp_ild_1 (pc := 0) dL_cell_0 ?_
  refine lp_ald_0 (pc := 1) dL_cell_1 ?_
  refine lp_slen (pc := 2) dL_cell_2 ?_
  show LQ 2 (zN X) mL_cell [] [] [] 3 _ [.inl (X.1 : Int), .inl k] m _
  refine lp_icmp_ge (pc := 3) 12 dL_cell_3 rfl ⟨by omega, by omega⟩ ⟨by omega, by omega⟩ (fun c3 => ?_) (fun c3 => ?_)
  · skip
    refine lp_ldc (pc := 12) dL_cell_12 lc_7 ?_
    refine lp_ild_1 (pc := 14) dL_cell_14 ?_
    refine lp_const (pc := 15) dL_cell_15 ?_
    refine lp_iadd (pc := 16) dL_cell_16 ?_
    refine lp_imul (pc := 17) dL_cell_17 ?_
    have J18 : ∀ z : Int, LQ 2 (zN X) mL_cell [] [] [] 18 [some (.inr 1000), some (.inl k), none] [.inl z] m (fun x m' => (∃ z : Int, x = some z ∧ rng z) ∧ m = m') := by
      intro z
      refine lp_ist_2 (pc := 18) dL_cell_18 (by decide) (by unfold lkO; simp) ?_
      refine lp_ild_2 (pc := 19) dL_cell_19 ?_
      refine lp_ild_2 (pc := 20) dL_cell_20 ?_
      refine lp_bipush (pc := 21) dL_cell_21 bp_15 ?_
      refine lp_iushr (pc := 23) dL_cell_23 ?_
      refine lp_ixor (pc := 24) dL_cell_24 ?_
      exact lp_ireturn (pc := 25) dL_cell_25 rfl rfl rfl rfl ⟨⟨_, rfl, rng_toInt _⟩, rfl⟩
    exact J18 _
  · skip
    refine lp_ald_0 (pc := 6) dL_cell_6 ?_
    refine lp_ild_1 (pc := 7) dL_cell_7 ?_
    refine lp_sld (pc := 8) dL_cell_8 hk.1 c3 (by show X.1 < 2147483648; omega) ?_
    refine lp_goto (pc := 9) 18 dL_cell_9 rfl ?_
    have J18 : ∀ z : Int, LQ 2 (zN X) mL_cell [] [] [] 18 [some (.inr 1000), some (.inl k), none] [.inl z] m (fun x m' => (∃ z : Int, x = some z ∧ rng z) ∧ m = m') := by
      intro z
      refine lp_ist_2 (pc := 18) dL_cell_18 (by decide) (by unfold lkO; simp) ?_
      refine lp_ild_2 (pc := 19) dL_cell_19 ?_
      refine lp_ild_2 (pc := 20) dL_cell_20 ?_
      refine lp_bipush (pc := 21) dL_cell_21 bp_15 ?_
      refine lp_iushr (pc := 23) dL_cell_23 ?_
      refine lp_ixor (pc := 24) dL_cell_24 ?_
      exact lp_ireturn (pc := 25) dL_cell_25 rfl rfl rfl rfl ⟨⟨_, rfl, rng_toInt _⟩, rfl⟩
    exact J18 _

set_option maxHeartbeats 4000000 in
theorem qL_print {r : Int → Int} {n : Int} {H : Int → Int → Int} (m : AM) (I : GI r n H m) : CL 5 mL_print [.inr 0] m (fun v m' => v = PR r ∧ m = m') := by
  refine cl_of (by decide +kernel) (Nat.le_of_ble_eq_true rfl) rfl rfl (fun X => ?_)
  generalize hZ : (((100, 5358), X, (fun (v : Int64) (h : HP) => h.1 = SH ∧ v = PR r ∧ m = h.2), []) : ZB) = Z
  have hO : zO Z := by rw [← hZ]; exact ⟨Nat.le_refl _, Nat.le_refl _⟩
  refine lp_ldc2 (pc := 0) dL_print_0 lc_9 ?_
  refine lp_lst_n (pc := 3) (i := 1) dL_print_3 rfl (by decide) rfl ?_
  refine lp_const (pc := 4) dL_print_4 ?_
  refine lp_ist_3 (pc := 5) dL_print_5 (by decide) (by unfold lkO; simp) ?_
  refine LQ.bk (up_rec 21 (fun i => LQ 5 Z mL_print [(1, pr1 r i)] [] [] 6 [some (.inr 0), none, none, some (.inl (i : Int)), none] [] m (fun _ _ => False)) (by omega) (fun i hi ihi => ?_)) ⟨rfl, trivial, trivial, rfl, trivial, trivial⟩ rfl
  refine lp_ild_3 (pc := 6) dL_print_6 ?_
  refine lp_bipush (pc := 7) dL_print_7 bp_21 ?_
  refine lp_icmp_ge (pc := 9) 31 dL_print_9 rfl ⟨by omega, by omega⟩ ⟨by omega, by omega⟩ (fun c9 => ?_) (fun c9 => ?_)
  · skip
    have ei : i = 21 := by omega
    subst ei
    refine lp_const (pc := 31) dL_print_31 ?_
    refine lp_ist_3 (pc := 32) dL_print_32 (by decide) (by unfold lkO; simp) ?_
    refine LQ.bk (up_rec 7 (fun f => LQ 5 Z mL_print [(1, pr4 r f)] [] [] 33 [some (.inr 0), none, none, some (.inl (f : Int)), none] [] m (fun _ _ => False)) (by omega) (fun f hf ihf => ?_)) ⟨rfl, trivial, trivial, rfl, trivial, trivial⟩ rfl
    refine lp_ild_3 (pc := 33) dL_print_33 ?_
    refine lp_bipush (pc := 34) dL_print_34 bp_7 ?_
    refine lp_icmp_ge (pc := 36) 128 dL_print_36 rfl ⟨by omega, by omega⟩ ⟨by omega, by omega⟩ (fun c36 => ?_) (fun c36 => ?_)
    · skip
      have ef : f = 7 := by omega
      subst ef
      refine lp_const (pc := 128) dL_print_128 ?_
      refine lp_ist_3 (pc := 129) dL_print_129 (by decide) (by unfold lkO; simp) ?_
      rw [← pr5_0]
      refine LQ.bk (up_rec 72 (fun i => LQ 5 Z mL_print [(1, pr5 r i)] [] [] 130 [some (.inr 0), none, none, some (.inl (i : Int)), none] [] m (fun _ _ => False)) (by omega) (fun i hi ihi => ?_)) ⟨rfl, trivial, trivial, rfl, trivial, trivial⟩ rfl
      refine lp_ild_3 (pc := 130) dL_print_130 ?_
      refine lp_bipush (pc := 131) dL_print_131 bp_72 ?_
      refine lp_icmp_ge (pc := 133) 162 dL_print_133 rfl ⟨by omega, by omega⟩ ⟨by omega, by omega⟩ (fun c133 => ?_) (fun c133 => ?_)
      · skip
        have ei : i = 72 := by omega
        subst ei
        refine lp_lld_n (pc := 162) (i := 1) dL_print_162 rfl (List.mem_singleton.mpr rfl) ?_
        subst hZ; exact lp_lreturn (pc := 163) dL_print_163 rfl rfl rfl ⟨rfl, rfl, rfl⟩
      · skip
        refine lp_ldc2 (pc := 136) dL_print_136 lc_11 ?_
        refine lp_lld_n (pc := 139) (i := 1) dL_print_139 rfl (List.mem_singleton.mpr rfl) ?_
        refine lp_lmul (pc := 140) dL_print_140 ?_
        refine lp_ald_0 (pc := 141) dL_print_141 ?_
        refine lp_ild_3 (pc := 142) dL_print_142 ?_
        refine lp_bipush (pc := 143) dL_print_143 bp_6 ?_
        refine lp_idiv (pc := 145) dL_print_145 ⟨by omega, by omega⟩ (by decide) ?_
        refine lp_ild_3 (pc := 146) dL_print_146 ?_
        refine lp_bipush (pc := 147) dL_print_147 bp_6 ?_
        refine lp_irem (pc := 149) dL_print_149 ⟨by omega, by omega⟩ (by decide) ?_
        refine lq_invV (pc := 150) dL_print_150 mv_RL_30 sh_0 (av := [_, _]) (rest := []) (k_colorInfo I iDiv_rng iRem_rng) rfl rfl (Nat.le_of_ble_eq_true rfl) (by decide) (by decide) hO ?_
        rintro _ _ ⟨rfl, rfl⟩
        refine lp_i2l (pc := 153) dL_print_153 ?_
        refine lp_ladd (pc := 154) dL_print_154 ?_
        refine lp_lst_n (pc := 155) (i := 1) dL_print_155 rfl (by decide) rfl ?_
        refine lp_iinc_3 (pc := 156) dL_print_156 (by decide) (by unfold lkO; simp) ?_
        refine lp_goto (pc := 159) 130 dL_print_159 rfl ?_
        exact (ihi c133).bk ⟨rfl, trivial, trivial, rfl, trivial, trivial⟩ rfl
    · skip
      refine lp_const (pc := 39) dL_print_39 ?_
      refine lp_ist_4 (pc := 40) dL_print_40 (by decide) (by unfold lkO; simp) ?_
      refine LQ.bk (up_rec 9 (fun k => LQ 5 Z mL_print [(1, pr2 r f (pr4 r f) k)] [] [] 42 [some (.inr 0), none, none, some (.inl (f : Int)), some (.inl (k : Int))] [] m (fun _ _ => False)) (by omega) (fun k hk ihk => ?_)) ⟨rfl, trivial, trivial, rfl, rfl, trivial⟩ rfl
      refine lp_ild_4 (pc := 42) dL_print_42 ?_
      refine lp_bipush (pc := 44) dL_print_44 bp_9 ?_
      refine lp_icmp_ge (pc := 46) 76 dL_print_46 rfl ⟨by omega, by omega⟩ ⟨by omega, by omega⟩ (fun c46 => ?_) (fun c46 => ?_)
      · skip
        have ek : k = 9 := by omega
        subst ek
        refine lp_const (pc := 76) dL_print_76 ?_
        refine lp_ist_4 (pc := 77) dL_print_77 (by decide) (by unfold lkO; simp) ?_
        refine LQ.bk (up_rec 6 (fun k => LQ 5 Z mL_print [(1, pr3 r f (pr2 r f (pr4 r f) 9) k)] [] [] 79 [some (.inr 0), none, none, some (.inl (f : Int)), some (.inl (k : Int))] [] m (fun _ _ => False)) (by omega) (fun k hk ihk => ?_)) ⟨rfl, trivial, trivial, rfl, rfl, trivial⟩ rfl
        refine lp_ild_4 (pc := 79) dL_print_79 ?_
        refine lp_bipush (pc := 81) dL_print_81 bp_6 ?_
        refine lp_icmp_ge (pc := 83) 122 dL_print_83 rfl ⟨by omega, by omega⟩ ⟨by omega, by omega⟩ (fun c83 => ?_) (fun c83 => ?_)
        · skip
          have ek : k = 6 := by omega
          subst ek
          refine lp_iinc_3 (pc := 122) dL_print_122 (by decide) (by unfold lkO; simp) ?_
          refine lp_goto (pc := 125) 33 dL_print_125 rfl ?_
          exact (ihf c36).bk ⟨rfl, trivial, trivial, rfl, trivial, trivial⟩ rfl
        · skip
          refine lp_ldc2 (pc := 86) dL_print_86 lc_11 ?_
          refine lp_ldc2 (pc := 89) dL_print_89 lc_11 ?_
          refine lp_lld_n (pc := 92) (i := 1) dL_print_92 rfl (List.mem_singleton.mpr rfl) ?_
          refine lp_lmul (pc := 93) dL_print_93 ?_
          refine lp_ald_0 (pc := 94) dL_print_94 ?_
          refine lp_ild_3 (pc := 95) dL_print_95 ?_
          refine lp_ild_4 (pc := 96) dL_print_96 ?_
          refine lq_invV (pc := 98) dL_print_98 mv_RL_23 sh_0 (av := [_, _]) (rest := []) (k_field I ⟨by omega, by omega⟩ ⟨by omega, by omega⟩) rfl rfl (Nat.le_of_ble_eq_true rfl) (by decide) (by decide) hO ?_
          rintro _ _ ⟨rfl, rfl⟩
          refine lp_i2l (pc := 101) dL_print_101 ?_
          refine lp_ladd (pc := 102) dL_print_102 ?_
          refine lp_lmul (pc := 103) dL_print_103 ?_
          refine lp_ald_0 (pc := 104) dL_print_104 ?_
          refine lp_ild_3 (pc := 105) dL_print_105 ?_
          refine lp_ild_4 (pc := 106) dL_print_106 ?_
          refine lp_const (pc := 108) dL_print_108 ?_
          refine lp_irem (pc := 109) dL_print_109 ⟨by omega, by omega⟩ (by decide) ?_
          refine lq_invV (pc := 110) dL_print_110 mv_RL_27 sh_0 (av := [_, _]) (rest := []) (k_wished I ⟨by omega, by omega⟩ iRem_rng) rfl rfl (Nat.le_of_ble_eq_true rfl) (by decide) (by decide) hO ?_
          rintro _ _ ⟨rfl, rfl⟩
          refine lp_i2l (pc := 113) dL_print_113 ?_
          refine lp_ladd (pc := 114) dL_print_114 ?_
          refine lp_lst_n (pc := 115) (i := 1) dL_print_115 rfl (by decide) rfl ?_
          refine lp_iinc_4 (pc := 116) dL_print_116 (by decide) (by unfold lkO; simp) ?_
          refine lp_goto (pc := 119) 79 dL_print_119 rfl ?_
          exact (ihk c83).bk ⟨rfl, trivial, trivial, rfl, rfl, trivial⟩ rfl
      · skip
        refine lp_ldc2 (pc := 49) dL_print_49 lc_11 ?_
        refine lp_lld_n (pc := 52) (i := 1) dL_print_52 rfl (List.mem_singleton.mpr rfl) ?_
        refine lp_lmul (pc := 53) dL_print_53 ?_
        refine lp_ald_0 (pc := 54) dL_print_54 ?_
        refine lp_ild_3 (pc := 55) dL_print_55 ?_
        refine lp_ild_4 (pc := 56) dL_print_56 ?_
        refine lp_const (pc := 58) dL_print_58 ?_
        refine lp_idiv (pc := 59) dL_print_59 ⟨by omega, by omega⟩ (by decide) ?_
        refine lp_ild_4 (pc := 60) dL_print_60 ?_
        refine lp_const (pc := 62) dL_print_62 ?_
        refine lp_irem (pc := 63) dL_print_63 ⟨by omega, by omega⟩ (by decide) ?_
        refine lq_invV (pc := 64) dL_print_64 mv_RL_19 sh_0 (av := [_, _, _]) (rest := []) (k_layer I ⟨by omega, by omega⟩ iDiv_rng iRem_rng) rfl rfl (Nat.le_of_ble_eq_true rfl) (by decide) (by decide) hO ?_
        rintro _ _ ⟨rfl, rfl⟩
        refine lp_i2l (pc := 67) dL_print_67 ?_
        refine lp_ladd (pc := 68) dL_print_68 ?_
        refine lp_lst_n (pc := 69) (i := 1) dL_print_69 rfl (by decide) rfl ?_
        refine lp_iinc_4 (pc := 70) dL_print_70 (by decide) (by unfold lkO; simp) ?_
        refine lp_goto (pc := 73) 42 dL_print_73 rfl ?_
        exact (ihk c46).bk ⟨rfl, trivial, trivial, rfl, rfl, trivial⟩ rfl
  · skip
    refine lp_ldc2 (pc := 12) dL_print_12 lc_11 ?_
    refine lp_lld_n (pc := 15) (i := 1) dL_print_15 rfl (List.mem_singleton.mpr rfl) ?_
    refine lp_lmul (pc := 16) dL_print_16 ?_
    refine lp_ald_0 (pc := 17) dL_print_17 ?_
    refine lp_ild_3 (pc := 18) dL_print_18 ?_
    refine lq_invV (pc := 19) dL_print_19 mv_RL_13 sh_0 (av := [_]) (rest := []) (k_count I ⟨by omega, by omega⟩) rfl rfl (Nat.le_of_ble_eq_true rfl) (by decide) (by decide) hO ?_
    rintro _ _ ⟨rfl, rfl⟩
    rw [vCN_n (by omega)]
    refine lp_i2l (pc := 22) dL_print_22 ?_
    refine lp_ladd (pc := 23) dL_print_23 ?_
    refine lp_lst_n (pc := 24) (i := 1) dL_print_24 rfl (by decide) rfl ?_
    refine lp_iinc_3 (pc := 25) dL_print_25 (by decide) (by unfold lkO; simp) ?_
    refine lp_goto (pc := 28) 6 dL_print_28 rfl ?_
    exact (ihi c9).bk ⟨rfl, trivial, trivial, rfl, trivial, trivial⟩ rfl

