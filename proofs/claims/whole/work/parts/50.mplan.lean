
/-! the model's wishes -/
def moP (W : Int → Int) (M B : Int → Int → Int) (m : AM) : Prop := ∀ f : Int, 0 ≤ f → f < 6 → m 101 (126 + 4 * f) = W f ∧ ∀ k : Int, 0 ≤ k → k < W f → (m 101 (1 + 3 * m 101 (126 + 4 * f + 1 + k)) = M f k ∧ m 101 (1 + 3 * m 101 (126 + 4 * f + 1 + k) + 1) = B f k) ∧ 0 ≤ m 101 (126 + 4 * f + 1 + k) ∧ m 101 (126 + 4 * f + 1 + k) < 12
theorem moP_of {m : AM} (w : wfR (m 101)) : moP (wW (m 101)) (wM (m 101)) (wB (m 101)) m := by
  have h12 := w.1.1
  intro f a b
  have h := w.2.2.2 f a b
  have e : wW (m 101) f = m 101 (126 + 4 * f) := if_pos ⟨a, b⟩
  rw [e]
  refine ⟨rfl, fun k x y => ?_⟩
  have h2 := h.2 k x y
  have e1 : wM (m 101) f k = meR (m 101) (m 101 (126 + 4 * f + 1 + k)) := if_pos ⟨⟨a, b⟩, x, y⟩
  have e2 : wB (m 101) f k = buR (m 101) (m 101 (126 + 4 * f + 1 + k)) := if_pos ⟨⟨a, b⟩, x, y⟩
  rw [e1, e2]
  exact ⟨⟨rfl, rfl⟩, h2.1, by omega⟩
theorem moP_frame {W : Int → Int} {M B : Int → Int → Int} {m m' : AM} (h : ∀ j : Int, m' 101 j = m 101 j) (c : moP W M B m) : moP W M B m' := by
  have e : m' 101 = m 101 := funext h
  unfold moP
  rw [e]
  exact c
def nxG (x : Int) : Int → Int → Int := fun f h => if bt x f = 1 then h + p4 f else h
theorem nx_6 (s x : Int) : accL (nxG x) s 6 = s + stp x := by
  have key : ∀ n : Nat, accL (nxG x) s n = s + accL (fun f h => h + bt x f * p4 f) 0 n := by
    intro n; induction n with
    | zero => show s = s + 0; omega
    | succ n ih =>
      rw [accL_succ, accL_succ, ih]
      simp only [nxG]
      rcases bt_bd x n with z | z
      · rw [if_neg (by omega), z]; omega
      · rw [if_pos z, z]; omega
  rw [key 6]
  show s + (0 + bt x 0 * 1 + bt x 1 * 4 + bt x 2 * 16 + bt x 3 * 64 + bt x 4 * 256 + bt x 5 * 1024) = s + stp x
  unfold stp; omega
set_option maxHeartbeats 4000000 in
theorem qX9_digit (s f : Int) (m : AM) (hs : 0 ≤ s ∧ s < 4096) (hf : 0 ≤ f ∧ f < 6) : CS 0 mX9_digit [.inl s, .inl f] m (an (dg s f) m) := by
  refine cs_of (by decide +kernel) (Nat.le_of_ble_eq_true rfl) rfl ?_
  refine ap_ild_0 (pc := 0) dX9_digit_0 ?_
  refine ap_const (pc := 1) dX9_digit_1 ?_
  refine ap_ild_1 (pc := 2) dX9_digit_2 ?_
  refine ap_imul (pc := 3) dX9_digit_3 ?_
  refine ap_ishr (pc := 4) dX9_digit_4 ?_
  refine ap_const (pc := 5) dX9_digit_5 ?_
  refine ap_iand (pc := 6) dX9_digit_6 ?_
  exact ap_ireturn (pc := 7) dX9_digit_7 rfl ⟨by rw [dg_i hs.1 hs.2 hf.1 hf.2], rfl⟩

set_option maxHeartbeats 4000000 in
theorem qX9_cap {W : Int → Int} {M B : Int → Int → Int} (s : Int) (m : AM) (w : wOK W M B) (c : moP W M B m) (hs : 0 ≤ s ∧ s < 4096) (v : valS W s) : CS 1 mX9_cap [.inr 100, .inl s] m (an (capS B s) m) := by
  refine cs_of (by decide +kernel) (Nat.le_of_ble_eq_true rfl) rfl ?_
  refine ap_sipush (pc := 0) dX9_cap_0 sp_1200 ?_
  refine ap_ist_2 (pc := 3) dX9_cap_3 (by decide) ?_
  refine ap_const (pc := 4) dX9_cap_4 ?_
  refine ap_ist_3 (pc := 5) dX9_cap_5 (by decide) ?_
  refine AP.bk (up_rec 6 (fun i => AP 1 mX9_cap 6 [some (.inr 100), some (.inl s), some (.inl (accL (fun f h => capG B s f h) 1200 i)), some (.inl (i : Int)), none, none] [] m (an (capS B s) m)) (by omega) (fun i hi ih => ?_)) ⟨rfl, rfl, rfl, rfl, trivial, trivial, trivial⟩ rfl
  have hcb := cap_bd2 w v i (by omega)
  refine ap_ild_3 (pc := 6) dX9_cap_6 ?_
  refine ap_bipush (pc := 7) dX9_cap_7 bp_6 ?_
  refine ap_icmp_ge (pc := 9) 72 dX9_cap_9 rfl ⟨by omega, by omega⟩ ⟨by omega, by omega⟩ (fun c9 => ?_) (fun c9 => ?_)
  · skip
    obtain rfl : i = 6 := by omega
    refine ap_ild_2 (pc := 72) dX9_cap_72 ?_
    exact ap_ireturn (pc := 73) dX9_cap_73 rfl ⟨rfl, rfl⟩
  · skip
    refine ap_const (pc := 12) dX9_cap_12 ?_
    refine ap_ist_4 (pc := 13) dX9_cap_13 (by decide) ?_
    refine AP.bk (up_rec (dg s i) (fun j => AP 1 mX9_cap 15 [some (.inr 100), some (.inl s), some (.inl (accL (fun k h => min h (B i k)) (accL (fun f h => capG B s f h) 1200 i) j)), some (.inl (i : Int)), some (.inl (j : Int)), none] [] m (an (capS B s) m)) (dg_bd s i).1 (fun j hj jh => ?_)) ⟨rfl, rfl, rfl, rfl, rfl, trivial, trivial⟩ rfl
    have hd := dg_bd s i
    have hcj := cap_bd w v (f := i) (by omega) (by omega) hcb j hj
    refine ap_ild_4 (pc := 15) dX9_cap_15 ?_
    refine ap_ild_1 (pc := 17) dX9_cap_17 ?_
    refine ap_ild_3 (pc := 18) dX9_cap_18 ?_
    refine ap_invS (pc := 19) dX9_cap_19 ms_RX9_125 (av := [_, _]) (rest := [_]) (qX9_digit _ _ _ hs (by omega)) rfl rfl (Nat.le_of_ble_eq_true rfl) (by decide) (by decide) ?_
    rintro _ _ ⟨rfl, rfl⟩
    refine ap_icmp_ge (pc := 22) 66 dX9_cap_22 rfl ⟨by omega, by omega⟩ ⟨by omega, by omega⟩ (fun c22 => ?_) (fun c22 => ?_)
    · skip
      refine ap_iinc_3 (pc := 66) dX9_cap_66 (by decide) ?_
      refine ap_goto (pc := 69) 6 dX9_cap_69 rfl ?_
      exact (ih c9).bk ⟨rfl, rfl, by rw [accL_succ]; simp only [capG]; rw [← nat_of (dg_bd s i).1 hj c22], rfl, trivial, trivial, trivial⟩ rfl
    · skip
      have hv := v i (by omega) (by omega)
      have hwi := (w i (by omega) (by omega)).1
      have hq := (c i (by omega) (by omega)).2 j (by omega) (by omega)
      have hb := ((w i (by omega) (by omega)).2 j (by omega) (by omega)).2
      refine ap_ald_0 (pc := 25) dX9_cap_25 ?_
      refine ap_ald_0 (pc := 26) dX9_cap_26 ?_
      refine ap_getR (pc := 27) dX9_cap_27 fl_RX9_7 sh_100 rfl ?_
      refine ap_bipush (pc := 30) dX9_cap_30 bp_126 ?_
      refine ap_const (pc := 32) dX9_cap_32 ?_
      refine ap_ild_3 (pc := 33) dX9_cap_33 ?_
      refine ap_imul (pc := 34) dX9_cap_34 ?_
      refine ap_iadd (pc := 35) dX9_cap_35 ?_
      refine ap_const (pc := 36) dX9_cap_36 ?_
      refine ap_iadd (pc := 37) dX9_cap_37 ?_
      refine ap_ild_4 (pc := 38) dX9_cap_38 ?_
      refine ap_iadd (pc := 40) dX9_cap_40 ?_
      refine ap_iaload (pc := 41) dX9_cap_41 sh_101 (by omega) (by omega) (by decide) ?_
      refine ap_invV (pc := 42) dX9_cap_42 mv_RX9_82 sh_100 (av := [_]) (rest := []) (qX9_burning _ _ (by omega) (by omega)) rfl rfl (Nat.le_of_ble_eq_true rfl) (by decide) (by decide) ?_
      rintro _ _ ⟨rfl, rfl⟩
      refine ap_ist_5 (pc := 45) dX9_cap_45 (by decide) ?_
      refine ap_ild_5 (pc := 47) dX9_cap_47 ?_
      refine ap_ild_2 (pc := 49) dX9_cap_49 ?_
      refine ap_icmp_ge (pc := 50) 58 dX9_cap_50 rfl ⟨by omega, by omega⟩ ⟨by omega, by omega⟩ (fun c50 => ?_) (fun c50 => ?_)
      · skip
        refine ap_ild_2 (pc := 58) dX9_cap_58 ?_
        refine ap_ist_2 (pc := 59) dX9_cap_59 (by decide) ?_
        refine ap_iinc_4 (pc := 60) dX9_cap_60 (by decide) ?_
        refine ap_goto (pc := 63) 15 dX9_cap_63 rfl ?_
        exact (jh c22).bk ⟨rfl, rfl, by simp only [accL_succ]; congr 2; omega, rfl, rfl, trivial, trivial⟩ rfl
      · skip
        refine ap_ild_5 (pc := 53) dX9_cap_53 ?_
        refine ap_goto (pc := 55) 59 dX9_cap_55 rfl ?_
        refine ap_ist_2 (pc := 59) dX9_cap_59 (by decide) ?_
        refine ap_iinc_4 (pc := 60) dX9_cap_60 (by decide) ?_
        refine ap_goto (pc := 63) 15 dX9_cap_63 rfl ?_
        exact (jh c22).bk ⟨rfl, rfl, by simp only [accL_succ]; congr 2; omega, rfl, rfl, trivial, trivial⟩ rfl

set_option maxHeartbeats 4000000 in
theorem qX9_behind {W : Int → Int} {M B : Int → Int → Int} (s x cp : Int) (m : AM) (w : wOK W M B) (c : moP W M B m) (hs : 0 ≤ s ∧ s < 4096) (v : valS W s) (hx : 0 ≤ x ∧ x < 64) (hcp : 0 ≤ cp ∧ cp ≤ 1200) : CS 1 mX9_behind [.inr 100, .inl s, .inl x, .inl cp] m (fun v m' => ∃ nx : Int, v = some nx ∧ (((opS W s x ∧ melS M s x ≤ burS B cp s x) ∧ nx = s + stp x) ∨ (¬ (opS W s x ∧ melS M s x ≤ burS B cp s x) ∧ nx = -1)) ∧ (opS W s x → m' 100 8 = melS M s x) ∧ ∀ (k : Nat) (j : Int), (k ≠ 100 ∨ j ≠ 8) → m' k j = m k j) := by
  refine cs_of (by decide +kernel) (Nat.le_of_ble_eq_true rfl) rfl ?_
  refine ap_ild_1 (pc := 0) dX9_behind_0 ?_
  refine ap_ist_4 (pc := 1) dX9_behind_1 (by decide) ?_
  refine ap_const (pc := 3) dX9_behind_3 ?_
  refine ap_ist_5 (pc := 4) dX9_behind_4 (by decide) ?_
  refine ap_ild_3 (pc := 6) dX9_behind_6 ?_
  refine ap_ist_6 (pc := 7) dX9_behind_7 (by decide) ?_
  refine ap_const (pc := 9) dX9_behind_9 ?_
  refine ap_ist_7 (pc := 10) dX9_behind_10 (by decide) ?_
  refine AP.bk (up_rec 6 (fun i => (∀ f : Int, 0 ≤ f → f < i → bt x f = 1 → dg s f < W f) → AP 1 mX9_behind 12 [some (.inr 100), some (.inl s), some (.inl x), some (.inl cp), some (.inl (accL (nxG x) s i)), some (.inl (accL (melG M s x) 0 i)), some (.inl (accL (burG B s x) cp i)), some (.inl (i : Int)), none] [] m (fun v m' => ∃ nx : Int, v = some nx ∧ (((opS W s x ∧ melS M s x ≤ burS B cp s x) ∧ nx = s + stp x) ∨ (¬ (opS W s x ∧ melS M s x ≤ burS B cp s x) ∧ nx = -1)) ∧ (opS W s x → m' 100 8 = melS M s x) ∧ ∀ (k : Nat) (j : Int), (k ≠ 100 ∨ j ≠ 8) → m' k j = m k j)) (by omega) (fun i hi ih u => ?_) (fun f a b => by omega)) ⟨rfl, rfl, rfl, rfl, rfl, rfl, rfl, rfl, trivial, trivial⟩ rfl
  have hmb := mel_bd w (s := s) (x := x) i (by omega) u
  have hbb := bur_bd w hcp (s := s) (x := x) i (by omega) u
  refine ap_ild_7 (pc := 12) dX9_behind_12 ?_
  refine ap_bipush (pc := 14) dX9_behind_14 bp_6 ?_
  refine ap_icmp_ge (pc := 16) 140 dX9_behind_16 rfl ⟨by omega, by omega⟩ ⟨by omega, by omega⟩ (fun c16 => ?_) (fun c16 => ?_)
  · skip
    obtain rfl : i = 6 := by omega
    have hop : opS W s x := fun f a b z => u f a (by omega) z
    refine ap_ald_0 (pc := 140) dX9_behind_140 ?_
    refine ap_ild_5 (pc := 141) dX9_behind_141 ?_
    refine ap_putI (pc := 143) (jz := 8) dX9_behind_143 fn_RX9_128 sh_100 rfl rfl (fun z => by cases z) ?_
    refine ap_ild_5 (pc := 146) dX9_behind_146 ?_
    refine ap_ild_6 (pc := 148) dX9_behind_148 ?_
    refine ap_icmp_gt (pc := 150) 158 dX9_behind_150 rfl ⟨by omega, by omega⟩ ⟨by omega, by omega⟩ (fun c150 => ?_) (fun c150 => ?_)
    · skip
      refine ap_const (pc := 158) dX9_behind_158 ?_
      exact ap_ireturn (pc := 159) dX9_behind_159 rfl ⟨-1, rfl, Or.inr ⟨fun z => by have z2 : accL (melG M s x) 0 6 ≤ accL (burG B s x) cp 6 := z.2; omega, rfl⟩, fun _ => am_same, fun k j q => am_ne (by omega)⟩
    · skip
      refine ap_ild_4 (pc := 153) dX9_behind_153 ?_
      refine ap_goto (pc := 155) 159 dX9_behind_155 rfl ?_
      exact ap_ireturn (pc := 159) dX9_behind_159 rfl ⟨_, rfl, Or.inl ⟨⟨hop, c150⟩, nx_6 s x⟩, fun _ => am_same, fun k j q => am_ne (by omega)⟩
  · skip
    refine ap_ild_2 (pc := 19) dX9_behind_19 ?_
    refine ap_ild_7 (pc := 20) dX9_behind_20 ?_
    refine ap_ishr (pc := 22) dX9_behind_22 ?_
    refine ap_const (pc := 23) dX9_behind_23 ?_
    refine ap_iand (pc := 24) dX9_behind_24 ?_
    refine ap_const (pc := 25) dX9_behind_25 ?_
    rw [bt_i hx.1 hx.2 (by omega) (by omega)]
    refine ap_icmp_ne (pc := 26) 134 dX9_behind_26 rfl (Or.inr ⟨by have q := bt_bd x i; constructor <;> omega, by constructor <;> omega⟩) (fun c26 => ?_) (fun c26 => ?_)
    · skip
      refine ap_iinc_7 (pc := 134) dX9_behind_134 (by decide) ?_
      refine ap_goto (pc := 137) 12 dX9_behind_137 rfl ?_
      exact (ih c16 (fun f a b z => by
          by_cases e : f = (i : Int)
          · subst e; exact absurd z c26
          · exact u f a (by omega) z)).bk ⟨rfl, rfl, rfl, rfl, by rw [accL_succ]; simp only [nxG]; rw [if_neg c26], by rw [accL_succ]; simp only [melG]; rw [if_neg c26], by rw [accL_succ]; simp only [burG]; rw [if_neg c26], rfl, trivial, trivial⟩ rfl
    · skip
      have hd := dg_bd s i
      have hwi := (w i (by omega) (by omega)).1
      have hvi := v i (by omega) (by omega)
      have hci := (c i (by omega) (by omega)).1
      refine ap_ild_1 (pc := 29) dX9_behind_29 ?_
      refine ap_ild_7 (pc := 30) dX9_behind_30 ?_
      refine ap_invS (pc := 32) dX9_behind_32 ms_RX9_125 (av := [_, _]) (rest := []) (qX9_digit _ _ _ hs (by omega)) rfl rfl (Nat.le_of_ble_eq_true rfl) (by decide) (by decide) ?_
      rintro _ _ ⟨rfl, rfl⟩
      refine ap_ald_0 (pc := 35) dX9_behind_35 ?_
      refine ap_getR (pc := 36) dX9_behind_36 fl_RX9_7 sh_100 rfl ?_
      refine ap_bipush (pc := 39) dX9_behind_39 bp_126 ?_
      refine ap_const (pc := 41) dX9_behind_41 ?_
      refine ap_ild_7 (pc := 42) dX9_behind_42 ?_
      refine ap_imul (pc := 44) dX9_behind_44 ?_
      refine ap_iadd (pc := 45) dX9_behind_45 ?_
      refine ap_iaload (pc := 46) dX9_behind_46 sh_101 (by omega) (by omega) (by decide) ?_
      refine ap_icmp_ne (pc := 47) 52 dX9_behind_47 rfl (Or.inr ⟨by constructor <;> omega, by constructor <;> omega⟩) (fun c47 => ?_) (fun c47 => ?_)
      · skip
        have hlt : dg s i < W i := by omega
        have hq := (c i (by omega) (by omega)).2 (dg s i) (by omega) hlt
        have hmB := (w i (by omega) (by omega)).2 (dg s i) (by omega) hlt
        refine ap_ald_0 (pc := 52) dX9_behind_52 ?_
        refine ap_getR (pc := 53) dX9_behind_53 fl_RX9_7 sh_100 rfl ?_
        refine ap_bipush (pc := 56) dX9_behind_56 bp_126 ?_
        refine ap_const (pc := 58) dX9_behind_58 ?_
        refine ap_ild_7 (pc := 59) dX9_behind_59 ?_
        refine ap_imul (pc := 61) dX9_behind_61 ?_
        refine ap_iadd (pc := 62) dX9_behind_62 ?_
        refine ap_const (pc := 63) dX9_behind_63 ?_
        refine ap_iadd (pc := 64) dX9_behind_64 ?_
        refine ap_ild_1 (pc := 65) dX9_behind_65 ?_
        refine ap_ild_7 (pc := 66) dX9_behind_66 ?_
        refine ap_invS (pc := 68) dX9_behind_68 ms_RX9_125 (av := [_, _]) (rest := [_, _]) (qX9_digit _ _ _ hs (by omega)) rfl rfl (Nat.le_of_ble_eq_true rfl) (by decide) (by decide) ?_
        rintro _ _ ⟨rfl, rfl⟩
        refine ap_iadd (pc := 71) dX9_behind_71 ?_
        refine ap_iaload (pc := 72) dX9_behind_72 sh_101 (by omega) (by omega) (by decide) ?_
        refine ap_ist_8 (pc := 73) dX9_behind_73 (by decide) ?_
        refine ap_ald_0 (pc := 75) dX9_behind_75 ?_
        refine ap_ild_8 (pc := 76) dX9_behind_76 ?_
        refine ap_invV (pc := 78) dX9_behind_78 mv_RX9_79 sh_100 (av := [_]) (rest := []) (qX9_melting _ _ (by omega) (by omega)) rfl rfl (Nat.le_of_ble_eq_true rfl) (by decide) (by decide) ?_
        rintro _ _ ⟨rfl, rfl⟩
        refine ap_ild_5 (pc := 81) dX9_behind_81 ?_
        refine ap_icmp_le (pc := 83) 95 dX9_behind_83 rfl ⟨by omega, by omega⟩ ⟨by omega, by omega⟩ (fun c83 => ?_) (fun c83 => ?_)
        · skip
          refine ap_ild_5 (pc := 95) dX9_behind_95 ?_
          refine ap_ist_5 (pc := 97) dX9_behind_97 (by decide) ?_
          refine ap_ald_0 (pc := 99) dX9_behind_99 ?_
          refine ap_ild_8 (pc := 100) dX9_behind_100 ?_
          refine ap_invV (pc := 102) dX9_behind_102 mv_RX9_82 sh_100 (av := [_]) (rest := []) (qX9_burning _ _ (by omega) (by omega)) rfl rfl (Nat.le_of_ble_eq_true rfl) (by decide) (by decide) ?_
          rintro _ _ ⟨rfl, rfl⟩
          refine ap_ild_6 (pc := 105) dX9_behind_105 ?_
          refine ap_icmp_ge (pc := 107) 119 dX9_behind_107 rfl ⟨by omega, by omega⟩ ⟨by omega, by omega⟩ (fun c107 => ?_) (fun c107 => ?_)
          · skip
            refine ap_ild_6 (pc := 119) dX9_behind_119 ?_
            refine ap_ist_6 (pc := 121) dX9_behind_121 (by decide) ?_
            refine ap_ild_4 (pc := 123) dX9_behind_123 ?_
            refine ap_const (pc := 125) dX9_behind_125 ?_
            refine ap_const (pc := 126) dX9_behind_126 ?_
            refine ap_ild_7 (pc := 127) dX9_behind_127 ?_
            refine ap_imul (pc := 129) dX9_behind_129 ?_
            refine ap_ishl (pc := 130) dX9_behind_130 ?_
            rw [shl2_i (by omega) (by omega)]
            refine ap_iadd (pc := 131) dX9_behind_131 ?_
            refine ap_ist_4 (pc := 132) dX9_behind_132 (by decide) ?_
            refine ap_iinc_7 (pc := 134) dX9_behind_134 (by decide) ?_
            refine ap_goto (pc := 137) 12 dX9_behind_137 rfl ?_
            exact (ih c16 (fun f a b z => by
                by_cases e : f = (i : Int)
                · subst e; exact hlt
                · exact u f a (by omega) z)).bk ⟨rfl, rfl, rfl, rfl, by rw [accL_succ]; simp only [nxG]; rw [if_pos c26], by rw [accL_succ]; simp only [melG]; rw [if_pos c26]; congr 2; omega, by rw [accL_succ]; simp only [burG]; rw [if_pos c26]; congr 2; omega, rfl, trivial, trivial⟩ rfl
          · skip
            refine ap_ald_0 (pc := 110) dX9_behind_110 ?_
            refine ap_ild_8 (pc := 111) dX9_behind_111 ?_
            refine ap_invV (pc := 113) dX9_behind_113 mv_RX9_82 sh_100 (av := [_]) (rest := []) (qX9_burning _ _ (by omega) (by omega)) rfl rfl (Nat.le_of_ble_eq_true rfl) (by decide) (by decide) ?_
            rintro _ _ ⟨rfl, rfl⟩
            refine ap_goto (pc := 116) 121 dX9_behind_116 rfl ?_
            refine ap_ist_6 (pc := 121) dX9_behind_121 (by decide) ?_
            refine ap_ild_4 (pc := 123) dX9_behind_123 ?_
            refine ap_const (pc := 125) dX9_behind_125 ?_
            refine ap_const (pc := 126) dX9_behind_126 ?_
            refine ap_ild_7 (pc := 127) dX9_behind_127 ?_
            refine ap_imul (pc := 129) dX9_behind_129 ?_
            refine ap_ishl (pc := 130) dX9_behind_130 ?_
            rw [shl2_i (by omega) (by omega)]
            refine ap_iadd (pc := 131) dX9_behind_131 ?_
            refine ap_ist_4 (pc := 132) dX9_behind_132 (by decide) ?_
            refine ap_iinc_7 (pc := 134) dX9_behind_134 (by decide) ?_
            refine ap_goto (pc := 137) 12 dX9_behind_137 rfl ?_
            exact (ih c16 (fun f a b z => by
                by_cases e : f = (i : Int)
                · subst e; exact hlt
                · exact u f a (by omega) z)).bk ⟨rfl, rfl, rfl, rfl, by rw [accL_succ]; simp only [nxG]; rw [if_pos c26], by rw [accL_succ]; simp only [melG]; rw [if_pos c26]; congr 2; omega, by rw [accL_succ]; simp only [burG]; rw [if_pos c26]; congr 2; omega, rfl, trivial, trivial⟩ rfl
        · skip
          refine ap_ald_0 (pc := 86) dX9_behind_86 ?_
          refine ap_ild_8 (pc := 87) dX9_behind_87 ?_
          refine ap_invV (pc := 89) dX9_behind_89 mv_RX9_79 sh_100 (av := [_]) (rest := []) (qX9_melting _ _ (by omega) (by omega)) rfl rfl (Nat.le_of_ble_eq_true rfl) (by decide) (by decide) ?_
          rintro _ _ ⟨rfl, rfl⟩
          refine ap_goto (pc := 92) 97 dX9_behind_92 rfl ?_
          refine ap_ist_5 (pc := 97) dX9_behind_97 (by decide) ?_
          refine ap_ald_0 (pc := 99) dX9_behind_99 ?_
          refine ap_ild_8 (pc := 100) dX9_behind_100 ?_
          refine ap_invV (pc := 102) dX9_behind_102 mv_RX9_82 sh_100 (av := [_]) (rest := []) (qX9_burning _ _ (by omega) (by omega)) rfl rfl (Nat.le_of_ble_eq_true rfl) (by decide) (by decide) ?_
          rintro _ _ ⟨rfl, rfl⟩
          refine ap_ild_6 (pc := 105) dX9_behind_105 ?_
          refine ap_icmp_ge (pc := 107) 119 dX9_behind_107 rfl ⟨by omega, by omega⟩ ⟨by omega, by omega⟩ (fun c107 => ?_) (fun c107 => ?_)
          · skip
            refine ap_ild_6 (pc := 119) dX9_behind_119 ?_
            refine ap_ist_6 (pc := 121) dX9_behind_121 (by decide) ?_
            refine ap_ild_4 (pc := 123) dX9_behind_123 ?_
            refine ap_const (pc := 125) dX9_behind_125 ?_
            refine ap_const (pc := 126) dX9_behind_126 ?_
            refine ap_ild_7 (pc := 127) dX9_behind_127 ?_
            refine ap_imul (pc := 129) dX9_behind_129 ?_
            refine ap_ishl (pc := 130) dX9_behind_130 ?_
            rw [shl2_i (by omega) (by omega)]
            refine ap_iadd (pc := 131) dX9_behind_131 ?_
            refine ap_ist_4 (pc := 132) dX9_behind_132 (by decide) ?_
            refine ap_iinc_7 (pc := 134) dX9_behind_134 (by decide) ?_
            refine ap_goto (pc := 137) 12 dX9_behind_137 rfl ?_
            exact (ih c16 (fun f a b z => by
                by_cases e : f = (i : Int)
                · subst e; exact hlt
                · exact u f a (by omega) z)).bk ⟨rfl, rfl, rfl, rfl, by rw [accL_succ]; simp only [nxG]; rw [if_pos c26], by rw [accL_succ]; simp only [melG]; rw [if_pos c26]; congr 2; omega, by rw [accL_succ]; simp only [burG]; rw [if_pos c26]; congr 2; omega, rfl, trivial, trivial⟩ rfl
          · skip
            refine ap_ald_0 (pc := 110) dX9_behind_110 ?_
            refine ap_ild_8 (pc := 111) dX9_behind_111 ?_
            refine ap_invV (pc := 113) dX9_behind_113 mv_RX9_82 sh_100 (av := [_]) (rest := []) (qX9_burning _ _ (by omega) (by omega)) rfl rfl (Nat.le_of_ble_eq_true rfl) (by decide) (by decide) ?_
            rintro _ _ ⟨rfl, rfl⟩
            refine ap_goto (pc := 116) 121 dX9_behind_116 rfl ?_
            refine ap_ist_6 (pc := 121) dX9_behind_121 (by decide) ?_
            refine ap_ild_4 (pc := 123) dX9_behind_123 ?_
            refine ap_const (pc := 125) dX9_behind_125 ?_
            refine ap_const (pc := 126) dX9_behind_126 ?_
            refine ap_ild_7 (pc := 127) dX9_behind_127 ?_
            refine ap_imul (pc := 129) dX9_behind_129 ?_
            refine ap_ishl (pc := 130) dX9_behind_130 ?_
            rw [shl2_i (by omega) (by omega)]
            refine ap_iadd (pc := 131) dX9_behind_131 ?_
            refine ap_ist_4 (pc := 132) dX9_behind_132 (by decide) ?_
            refine ap_iinc_7 (pc := 134) dX9_behind_134 (by decide) ?_
            refine ap_goto (pc := 137) 12 dX9_behind_137 rfl ?_
            exact (ih c16 (fun f a b z => by
                by_cases e : f = (i : Int)
                · subst e; exact hlt
                · exact u f a (by omega) z)).bk ⟨rfl, rfl, rfl, rfl, by rw [accL_succ]; simp only [nxG]; rw [if_pos c26], by rw [accL_succ]; simp only [melG]; rw [if_pos c26]; congr 2; omega, by rw [accL_succ]; simp only [burG]; rw [if_pos c26]; congr 2; omega, rfl, trivial, trivial⟩ rfl
      · skip
        have hno : ¬ opS W s x := fun z => by have := z i (by omega) (by omega) c26; omega
        refine ap_const (pc := 50) dX9_behind_50 ?_
        exact ap_ireturn (pc := 51) dX9_behind_51 rfl ⟨-1, rfl, Or.inr ⟨fun z => hno z.1, rfl⟩, fun z => absurd z hno, fun _ _ _ => rfl⟩

set_option maxHeartbeats 4000000 in
theorem qX9_isWithin {W : Int → Int} {M B : Int → Int → Int} (s : Int) (m : AM) (w : wOK W M B) (c : moP W M B m) (hs : 0 ≤ s ∧ s < 4096) : CS 1 mX9_isWithin [.inr 100, .inl s] m (yn (valS W s) m) := by
  refine cs_of (by decide +kernel) (Nat.le_of_ble_eq_true rfl) rfl ?_
  refine ap_const (pc := 0) dX9_isWithin_0 ?_
  refine ap_ist_2 (pc := 1) dX9_isWithin_1 (by decide) ?_
  refine ap_const (pc := 2) dX9_isWithin_2 ?_
  refine ap_ist_3 (pc := 3) dX9_isWithin_3 (by decide) ?_
  refine AP.bk (up_rec 6 (fun i => ∀ b : Int, ((b = 1 ∧ ∀ f : Int, 0 ≤ f → f < i → dg s f ≤ W f) ∨ (b = 0 ∧ ¬ ∀ f : Int, 0 ≤ f → f < i → dg s f ≤ W f)) → AP 1 mX9_isWithin 4 [some (.inr 100), some (.inl s), some (.inl b), some (.inl (i : Int))] [] m (yn (valS W s) m)) (by omega) (fun i hi ih b hb => ?_) 1 (Or.inl ⟨rfl, fun f a q => by omega⟩)) ⟨rfl, rfl, rfl, rfl, trivial⟩ rfl
  have hb01 : b = 0 ∨ b = 1 := by rcases hb with q | q; exact Or.inr q.1; exact Or.inl q.1
  refine ap_ild_3 (pc := 4) dX9_isWithin_4 ?_
  refine ap_bipush (pc := 5) dX9_isWithin_5 bp_6 ?_
  refine ap_icmp_ge (pc := 7) 45 dX9_isWithin_7 rfl ⟨by omega, by omega⟩ ⟨by omega, by omega⟩ (fun c7 => ?_) (fun c7 => ?_)
  · skip
    obtain rfl : i = 6 := by omega
    refine ap_ild_2 (pc := 45) dX9_isWithin_45 ?_
    exact ap_zreturn (pc := 46) dX9_isWithin_46 rfl hb01 ⟨hb.elim (fun q => Or.inl ⟨fun f a z => q.2 f a z, by rw [q.1]⟩) (fun q => Or.inr ⟨fun z => q.2 (fun f a y => z f a y), by rw [q.1]⟩), rfl⟩
  · skip
    refine ap_ild_2 (pc := 10) dX9_isWithin_10 ?_
    refine ap_if_eq (pc := 11) 37 dX9_isWithin_11 rfl (by constructor <;> omega) (fun c11 => ?_) (fun c11 => ?_)
    · skip
      refine ap_const (pc := 37) dX9_isWithin_37 ?_
      refine ap_ist_2 (pc := 38) dX9_isWithin_38 (by decide) ?_
      refine ap_iinc_3 (pc := 39) dX9_isWithin_39 (by decide) ?_
      refine ap_goto (pc := 42) 4 dX9_isWithin_42 rfl ?_
      exact (ih c7 0 (Or.inr ⟨rfl, fun z => (hb.resolve_left (by omega)).2 (fun f a q => z f a (by omega))⟩)).bk ⟨rfl, rfl, rfl, rfl, trivial⟩ rfl
    · skip
      have hd := dg_bd s i
      have hwi := (w i (by omega) (by omega)).1
      have hci := (c i (by omega) (by omega)).1
      refine ap_ild_1 (pc := 14) dX9_isWithin_14 ?_
      refine ap_ild_3 (pc := 15) dX9_isWithin_15 ?_
      refine ap_invS (pc := 16) dX9_isWithin_16 ms_RX9_125 (av := [_, _]) (rest := []) (qX9_digit _ _ _ hs (by omega)) rfl rfl (Nat.le_of_ble_eq_true rfl) (by decide) (by decide) ?_
      rintro _ _ ⟨rfl, rfl⟩
      refine ap_ald_0 (pc := 19) dX9_isWithin_19 ?_
      refine ap_getR (pc := 20) dX9_isWithin_20 fl_RX9_7 sh_100 rfl ?_
      refine ap_bipush (pc := 23) dX9_isWithin_23 bp_126 ?_
      refine ap_const (pc := 25) dX9_isWithin_25 ?_
      refine ap_ild_3 (pc := 26) dX9_isWithin_26 ?_
      refine ap_imul (pc := 27) dX9_isWithin_27 ?_
      refine ap_iadd (pc := 28) dX9_isWithin_28 ?_
      refine ap_iaload (pc := 29) dX9_isWithin_29 sh_101 (by omega) (by omega) (by decide) ?_
      refine ap_icmp_gt (pc := 30) 37 dX9_isWithin_30 rfl ⟨by omega, by omega⟩ ⟨by omega, by omega⟩ (fun c30 => ?_) (fun c30 => ?_)
      · skip
        refine ap_const (pc := 37) dX9_isWithin_37 ?_
        refine ap_ist_2 (pc := 38) dX9_isWithin_38 (by decide) ?_
        refine ap_iinc_3 (pc := 39) dX9_isWithin_39 (by decide) ?_
        refine ap_goto (pc := 42) 4 dX9_isWithin_42 rfl ?_
        exact (ih c7 0 (Or.inr ⟨rfl, fun z => by have := z i (by omega) (by omega); omega⟩)).bk ⟨rfl, rfl, rfl, rfl, trivial⟩ rfl
      · skip
        refine ap_const (pc := 33) dX9_isWithin_33 ?_
        refine ap_goto (pc := 34) 38 dX9_isWithin_34 rfl ?_
        refine ap_ist_2 (pc := 38) dX9_isWithin_38 (by decide) ?_
        refine ap_iinc_3 (pc := 39) dX9_isWithin_39 (by decide) ?_
        refine ap_goto (pc := 42) 4 dX9_isWithin_42 rfl ?_
        exact (ih c7 1 (Or.inl ⟨rfl, fun f a q => by
            by_cases e : f = (i : Int)
            · subst e; omega
            · exact (hb.resolve_right (fun z => c11 z.1)).2 f a (by omega)⟩)).bk ⟨rfl, rfl, rfl, rfl, trivial⟩ rfl
