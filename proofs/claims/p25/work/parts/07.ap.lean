def SH : List ShC := [
  .inl (8, [some (some 1), some (some 17), some (some 83), some (some 85), some (some 91), some (some 98), none]),
  .inl (0, [some (some 2), some (some 6), some (some 12), some (some 15), some (some 16)]),
  .inl (3, [some (some 3), some (some 4), some (some 5), none]),
  .inr (.inl (0, 12)),
  .inr (.inl (0, 12)),
  .inr (.inl (0, 12)),
  .inl (5, [some (some 7), some (some 8), some (some 9), some (some 10), some (some 11)]),
  .inr (.inl (0, 7)),
  .inr (.inl (0, 21)),
  .inr (.inl (0, 21)),
  .inr (.inl (0, 21)),
  .inr (.inl (0, 6)),
  .inl (7, [some (some 13), some (some 14)]),
  .inr (.inl (0, 6)),
  .inr (.inl (0, 18)),
  .inr (.inl (0, 3)),
  .inr (.inl (0, 9)),
  .inl (2, [some (some 18), none, none]),
  .inr (.inr [some 19, some 35, some 51, some 67]),
  .inl (0, [some (some 20), some (some 24), some (some 30), some (some 33), some (some 34)]),
  .inl (3, [some (some 21), some (some 22), some (some 23), none]),
  .inr (.inl (0, 12)),
  .inr (.inl (0, 12)),
  .inr (.inl (0, 12)),
  .inl (5, [some (some 25), some (some 26), some (some 27), some (some 28), some (some 29)]),
  .inr (.inl (0, 7)),
  .inr (.inl (0, 21)),
  .inr (.inl (0, 21)),
  .inr (.inl (0, 21)),
  .inr (.inl (0, 6)),
  .inl (7, [some (some 31), some (some 32)]),
  .inr (.inl (0, 6)),
  .inr (.inl (0, 18)),
  .inr (.inl (0, 3)),
  .inr (.inl (0, 9)),
  .inl (0, [some (some 36), some (some 40), some (some 46), some (some 49), some (some 50)]),
  .inl (3, [some (some 37), some (some 38), some (some 39), none]),
  .inr (.inl (0, 12)),
  .inr (.inl (0, 12)),
  .inr (.inl (0, 12)),
  .inl (5, [some (some 41), some (some 42), some (some 43), some (some 44), some (some 45)]),
  .inr (.inl (0, 7)),
  .inr (.inl (0, 21)),
  .inr (.inl (0, 21)),
  .inr (.inl (0, 21)),
  .inr (.inl (0, 6)),
  .inl (7, [some (some 47), some (some 48)]),
  .inr (.inl (0, 6)),
  .inr (.inl (0, 18)),
  .inr (.inl (0, 3)),
  .inr (.inl (0, 9)),
  .inl (0, [some (some 52), some (some 56), some (some 62), some (some 65), some (some 66)]),
  .inl (3, [some (some 53), some (some 54), some (some 55), none]),
  .inr (.inl (0, 12)),
  .inr (.inl (0, 12)),
  .inr (.inl (0, 12)),
  .inl (5, [some (some 57), some (some 58), some (some 59), some (some 60), some (some 61)]),
  .inr (.inl (0, 7)),
  .inr (.inl (0, 21)),
  .inr (.inl (0, 21)),
  .inr (.inl (0, 21)),
  .inr (.inl (0, 6)),
  .inl (7, [some (some 63), some (some 64)]),
  .inr (.inl (0, 6)),
  .inr (.inl (0, 18)),
  .inr (.inl (0, 3)),
  .inr (.inl (0, 9)),
  .inl (0, [some (some 68), some (some 72), some (some 78), some (some 81), some (some 82)]),
  .inl (3, [some (some 69), some (some 70), some (some 71), none]),
  .inr (.inl (0, 12)),
  .inr (.inl (0, 12)),
  .inr (.inl (0, 12)),
  .inl (5, [some (some 73), some (some 74), some (some 75), some (some 76), some (some 77)]),
  .inr (.inl (0, 7)),
  .inr (.inl (0, 21)),
  .inr (.inl (0, 21)),
  .inr (.inl (0, 21)),
  .inr (.inl (0, 6)),
  .inl (7, [some (some 79), some (some 80)]),
  .inr (.inl (0, 6)),
  .inr (.inl (0, 18)),
  .inr (.inl (0, 3)),
  .inr (.inl (0, 9)),
  .inl (1, [some (some 84), none, none, none, none, none]),
  .inr (.inl (1, 21)),
  .inl (5, [some (some 86), some (some 87), some (some 88), some (some 89), some (some 90)]),
  .inr (.inl (0, 7)),
  .inr (.inl (0, 21)),
  .inr (.inl (0, 21)),
  .inr (.inl (0, 21)),
  .inr (.inl (0, 6)),
  .inl (4, [some (some 92), some (some 93), some (some 94), some (some 95), some (some 96), some (some 97), none, none]),
  .inr (.inl (0, 4096)),
  .inr (.inl (0, 64)),
  .inr (.inl (0, 64)),
  .inr (.inl (0, 64)),
  .inr (.inl (0, 18)),
  .inr (.inl (0, 18)),
  .inl (6, [some (some 99), none, none, none]),
  .inr (.inl (2, 80))]
theorem sh_0 : SH[0]? = some (.inl (8, [some (some 1), some (some 17), some (some 83), some (some 85), some (some 91), some (some 98), none])) := rfl
theorem sh_1 : SH[1]? = some (.inl (0, [some (some 2), some (some 6), some (some 12), some (some 15), some (some 16)])) := rfl
theorem sh_2 : SH[2]? = some (.inl (3, [some (some 3), some (some 4), some (some 5), none])) := rfl
theorem sh_3 : SH[3]? = some (.inr (.inl (0, 12))) := rfl
theorem sh_4 : SH[4]? = some (.inr (.inl (0, 12))) := rfl
theorem sh_5 : SH[5]? = some (.inr (.inl (0, 12))) := rfl
theorem sh_6 : SH[6]? = some (.inl (5, [some (some 7), some (some 8), some (some 9), some (some 10), some (some 11)])) := rfl
theorem sh_7 : SH[7]? = some (.inr (.inl (0, 7))) := rfl
theorem sh_8 : SH[8]? = some (.inr (.inl (0, 21))) := rfl
theorem sh_9 : SH[9]? = some (.inr (.inl (0, 21))) := rfl
theorem sh_10 : SH[10]? = some (.inr (.inl (0, 21))) := rfl
theorem sh_11 : SH[11]? = some (.inr (.inl (0, 6))) := rfl
theorem sh_12 : SH[12]? = some (.inl (7, [some (some 13), some (some 14)])) := rfl
theorem sh_13 : SH[13]? = some (.inr (.inl (0, 6))) := rfl
theorem sh_14 : SH[14]? = some (.inr (.inl (0, 18))) := rfl
theorem sh_15 : SH[15]? = some (.inr (.inl (0, 3))) := rfl
theorem sh_16 : SH[16]? = some (.inr (.inl (0, 9))) := rfl
theorem sh_17 : SH[17]? = some (.inl (2, [some (some 18), none, none])) := rfl
theorem sh_18 : SH[18]? = some (.inr (.inr [some 19, some 35, some 51, some 67])) := rfl
theorem sh_19 : SH[19]? = some (.inl (0, [some (some 20), some (some 24), some (some 30), some (some 33), some (some 34)])) := rfl
theorem sh_20 : SH[20]? = some (.inl (3, [some (some 21), some (some 22), some (some 23), none])) := rfl
theorem sh_21 : SH[21]? = some (.inr (.inl (0, 12))) := rfl
theorem sh_22 : SH[22]? = some (.inr (.inl (0, 12))) := rfl
theorem sh_23 : SH[23]? = some (.inr (.inl (0, 12))) := rfl
theorem sh_24 : SH[24]? = some (.inl (5, [some (some 25), some (some 26), some (some 27), some (some 28), some (some 29)])) := rfl
theorem sh_25 : SH[25]? = some (.inr (.inl (0, 7))) := rfl
theorem sh_26 : SH[26]? = some (.inr (.inl (0, 21))) := rfl
theorem sh_27 : SH[27]? = some (.inr (.inl (0, 21))) := rfl
theorem sh_28 : SH[28]? = some (.inr (.inl (0, 21))) := rfl
theorem sh_29 : SH[29]? = some (.inr (.inl (0, 6))) := rfl
theorem sh_30 : SH[30]? = some (.inl (7, [some (some 31), some (some 32)])) := rfl
theorem sh_31 : SH[31]? = some (.inr (.inl (0, 6))) := rfl
theorem sh_32 : SH[32]? = some (.inr (.inl (0, 18))) := rfl
theorem sh_33 : SH[33]? = some (.inr (.inl (0, 3))) := rfl
theorem sh_34 : SH[34]? = some (.inr (.inl (0, 9))) := rfl
theorem sh_35 : SH[35]? = some (.inl (0, [some (some 36), some (some 40), some (some 46), some (some 49), some (some 50)])) := rfl
theorem sh_36 : SH[36]? = some (.inl (3, [some (some 37), some (some 38), some (some 39), none])) := rfl
theorem sh_37 : SH[37]? = some (.inr (.inl (0, 12))) := rfl
theorem sh_38 : SH[38]? = some (.inr (.inl (0, 12))) := rfl
theorem sh_39 : SH[39]? = some (.inr (.inl (0, 12))) := rfl
theorem sh_40 : SH[40]? = some (.inl (5, [some (some 41), some (some 42), some (some 43), some (some 44), some (some 45)])) := rfl
theorem sh_41 : SH[41]? = some (.inr (.inl (0, 7))) := rfl
theorem sh_42 : SH[42]? = some (.inr (.inl (0, 21))) := rfl
theorem sh_43 : SH[43]? = some (.inr (.inl (0, 21))) := rfl
theorem sh_44 : SH[44]? = some (.inr (.inl (0, 21))) := rfl
theorem sh_45 : SH[45]? = some (.inr (.inl (0, 6))) := rfl
theorem sh_46 : SH[46]? = some (.inl (7, [some (some 47), some (some 48)])) := rfl
theorem sh_47 : SH[47]? = some (.inr (.inl (0, 6))) := rfl
theorem sh_48 : SH[48]? = some (.inr (.inl (0, 18))) := rfl
theorem sh_49 : SH[49]? = some (.inr (.inl (0, 3))) := rfl
theorem sh_50 : SH[50]? = some (.inr (.inl (0, 9))) := rfl
theorem sh_51 : SH[51]? = some (.inl (0, [some (some 52), some (some 56), some (some 62), some (some 65), some (some 66)])) := rfl
theorem sh_52 : SH[52]? = some (.inl (3, [some (some 53), some (some 54), some (some 55), none])) := rfl
theorem sh_53 : SH[53]? = some (.inr (.inl (0, 12))) := rfl
theorem sh_54 : SH[54]? = some (.inr (.inl (0, 12))) := rfl
theorem sh_55 : SH[55]? = some (.inr (.inl (0, 12))) := rfl
theorem sh_56 : SH[56]? = some (.inl (5, [some (some 57), some (some 58), some (some 59), some (some 60), some (some 61)])) := rfl
theorem sh_57 : SH[57]? = some (.inr (.inl (0, 7))) := rfl
theorem sh_58 : SH[58]? = some (.inr (.inl (0, 21))) := rfl
theorem sh_59 : SH[59]? = some (.inr (.inl (0, 21))) := rfl
theorem sh_60 : SH[60]? = some (.inr (.inl (0, 21))) := rfl
theorem sh_61 : SH[61]? = some (.inr (.inl (0, 6))) := rfl
theorem sh_62 : SH[62]? = some (.inl (7, [some (some 63), some (some 64)])) := rfl
theorem sh_63 : SH[63]? = some (.inr (.inl (0, 6))) := rfl
theorem sh_64 : SH[64]? = some (.inr (.inl (0, 18))) := rfl
theorem sh_65 : SH[65]? = some (.inr (.inl (0, 3))) := rfl
theorem sh_66 : SH[66]? = some (.inr (.inl (0, 9))) := rfl
theorem sh_67 : SH[67]? = some (.inl (0, [some (some 68), some (some 72), some (some 78), some (some 81), some (some 82)])) := rfl
theorem sh_68 : SH[68]? = some (.inl (3, [some (some 69), some (some 70), some (some 71), none])) := rfl
theorem sh_69 : SH[69]? = some (.inr (.inl (0, 12))) := rfl
theorem sh_70 : SH[70]? = some (.inr (.inl (0, 12))) := rfl
theorem sh_71 : SH[71]? = some (.inr (.inl (0, 12))) := rfl
theorem sh_72 : SH[72]? = some (.inl (5, [some (some 73), some (some 74), some (some 75), some (some 76), some (some 77)])) := rfl
theorem sh_73 : SH[73]? = some (.inr (.inl (0, 7))) := rfl
theorem sh_74 : SH[74]? = some (.inr (.inl (0, 21))) := rfl
theorem sh_75 : SH[75]? = some (.inr (.inl (0, 21))) := rfl
theorem sh_76 : SH[76]? = some (.inr (.inl (0, 21))) := rfl
theorem sh_77 : SH[77]? = some (.inr (.inl (0, 6))) := rfl
theorem sh_78 : SH[78]? = some (.inl (7, [some (some 79), some (some 80)])) := rfl
theorem sh_79 : SH[79]? = some (.inr (.inl (0, 6))) := rfl
theorem sh_80 : SH[80]? = some (.inr (.inl (0, 18))) := rfl
theorem sh_81 : SH[81]? = some (.inr (.inl (0, 3))) := rfl
theorem sh_82 : SH[82]? = some (.inr (.inl (0, 9))) := rfl
theorem sh_83 : SH[83]? = some (.inl (1, [some (some 84), none, none, none, none, none])) := rfl
theorem sh_84 : SH[84]? = some (.inr (.inl (1, 21))) := rfl
theorem sh_85 : SH[85]? = some (.inl (5, [some (some 86), some (some 87), some (some 88), some (some 89), some (some 90)])) := rfl
theorem sh_86 : SH[86]? = some (.inr (.inl (0, 7))) := rfl
theorem sh_87 : SH[87]? = some (.inr (.inl (0, 21))) := rfl
theorem sh_88 : SH[88]? = some (.inr (.inl (0, 21))) := rfl
theorem sh_89 : SH[89]? = some (.inr (.inl (0, 21))) := rfl
theorem sh_90 : SH[90]? = some (.inr (.inl (0, 6))) := rfl
theorem sh_91 : SH[91]? = some (.inl (4, [some (some 92), some (some 93), some (some 94), some (some 95), some (some 96), some (some 97), none, none])) := rfl
theorem sh_92 : SH[92]? = some (.inr (.inl (0, 4096))) := rfl
theorem sh_93 : SH[93]? = some (.inr (.inl (0, 64))) := rfl
theorem sh_94 : SH[94]? = some (.inr (.inl (0, 64))) := rfl
theorem sh_95 : SH[95]? = some (.inr (.inl (0, 64))) := rfl
theorem sh_96 : SH[96]? = some (.inr (.inl (0, 18))) := rfl
theorem sh_97 : SH[97]? = some (.inr (.inl (0, 18))) := rfl
theorem sh_98 : SH[98]? = some (.inl (6, [some (some 99), none, none, none])) := rfl
theorem sh_99 : SH[99]? = some (.inr (.inl (2, 80))) := rfl
theorem SH_len : SH.length = 100 := rfl
theorem SH_sl : slS SH = 5358 := rfl
def rk (K d r : Nat) : Prop := K ≤ d ∧ 36 * K ≤ r
def AP (K : Nat) (M : MI) (pc : Nat) (L : List (Option AV)) (S : List AV) (m : AM) (Q : Option Int → AM → Prop) : Prop := ∀ (X : AX) (d r : Nat), rk K d r → AW M (X, d, r, 100, 5358) pc L S (SH, m) (fun v h => h.1 = SH ∧ Q v h.2)
def CS (K : Nat) (M : MI) (av : List AV) (m : AM) (Q : Option Int → AM → Prop) : Prop := ∀ (X : AX) (d r : Nat), rk K d r → AC X M d r 0 0 av (SH, m) (fun v h => h.1 = SH ∧ Q v h.2)
theorem cs_of {K : Nat} {M : MI} {av : List AV} {m : AM} {Q : Option Int → AM → Prop} {L0 : List (Option AV)} (hp : plainName M.1.cls = true) (hlen : av.length ≤ M.2.2.1) (hL : av.map some ++ List.replicate (M.2.2.1 - av.length) none = L0) (k : AP K M 0 L0 [] m Q) : CS K M av m Q := by
  intro X d r hk
  refine ac_of hp hlen ?_
  rw [hL]
  exact k X d r hk
theorem CS.mono {K K' : Nat} {M : MI} {av : List AV} {m : AM} {Q Q' : Option Int → AM → Prop} (k : CS K M av m Q) (hK : K ≤ K') (hq : ∀ v m', Q v m' → Q' v m') : CS K' M av m Q' := fun X d r hk => AC.mono (k X d r ⟨Nat.le_trans hK hk.1, Nat.le_trans (Nat.mul_le_mul_left 36 hK) hk.2⟩) (fun v h' q => ⟨q.1, hq v h'.2 q.2⟩)
section AP
variable {K : Nat} {M : MI} {pc : Nat} {L : List (Option AV)} {S : List AV} {m : AM} {Q : Option Int → AM → Prop}
theorem nfw : nativeFrameWords "java/lang/System" "arraycopy" 5 = 7 := by decide +kernel
theorem rk1 {K d r : Nat} (hk : rk K d r) (hK : 1 ≤ K) : 1 ≤ d ∧ 36 ≤ r := by
  obtain ⟨h1, h2⟩ := hk
  exact ⟨by omega, by omega⟩
theorem AP.mono {Q' : Option Int → AM → Prop} (k : AP K M pc L S m Q) (hq : ∀ v m', Q v m' → Q' v m') : AP K M pc L S m Q' := fun X d r hk => (k X d r hk).mono (fun v h' q => ⟨q.1, hq v h'.2 q.2⟩)
theorem AP.loc {L' : List (Option AV)} (k : AP K M pc L' S m Q) (hL : ∀ (i : Nat) (v : AV), L'[i]? = some (some v) → L[i]? = some (some v)) : AP K M pc L S m Q := fun X d r hk => (k X d r hk).loc hL

theorem ap_const {n : Int} (hd : decode M.2.1 pc = .ok (.iconst n, 1))
    (k : AP K M (pc + 1) L (.inl n :: S) m Q) : AP K M pc L S m Q := fun X d r hk => aw_const hd (k X d r hk)
theorem ap_bipush {n : Int} (hd : decode M.2.1 pc = .ok (.bipush n, 2)) (hn : (Int8.ofInt n).toInt32 = Int32.ofInt n)
    (k : AP K M (pc + 2) L (.inl n :: S) m Q) : AP K M pc L S m Q := fun X d r hk => aw_bipush hd hn (k X d r hk)
theorem ap_sipush {n : Int} (hd : decode M.2.1 pc = .ok (.sipush n, 3)) (hn : (Int16.ofInt n).toInt32 = Int32.ofInt n)
    (k : AP K M (pc + 3) L (.inl n :: S) m Q) : AP K M pc L S m Q := fun X d r hk => aw_sipush hd hn (k X d r hk)
theorem ap_ild_0 {R : List (Option AV)} {x : Int} (hd : decode M.2.1 pc = .ok (.iload_n 0, 1))
    (k : AP K M (pc + 1) (some (.inl x) :: R) (.inl x :: S) m Q) : AP K M pc (some (.inl x) :: R) S m Q := fun X d r hk => aw_ild_n hd rfl rfl (k X d r hk)
theorem ap_ist_0 {R : List (Option AV)} {o : Option AV} {x : Int} (hd : decode M.2.1 pc = .ok (.istore_n 0, 1)) (hn : 0 < M.2.2.1)
    (k : AP K M (pc + 1) (some (.inl x) :: R) S m Q) : AP K M pc (o :: R) (.inl x :: S) m Q := fun X d r hk => aw_ist_n hd rfl hn rfl (k X d r hk)
theorem ap_ald_0 {R : List (Option AV)} {x : Nat} (hd : decode M.2.1 pc = .ok (.aload_n 0, 1))
    (k : AP K M (pc + 1) (some (.inr x) :: R) (.inr x :: S) m Q) : AP K M pc (some (.inr x) :: R) S m Q := fun X d r hk => aw_ald_n hd rfl rfl (k X d r hk)
theorem ap_ast_0 {R : List (Option AV)} {o : Option AV} {x : Nat} (hd : decode M.2.1 pc = .ok (.astore_n 0, 1)) (hn : 0 < M.2.2.1)
    (k : AP K M (pc + 1) (some (.inr x) :: R) S m Q) : AP K M pc (o :: R) (.inr x :: S) m Q := fun X d r hk => aw_ast_n hd rfl hn rfl (k X d r hk)
theorem ap_iinc_0 {R : List (Option AV)} {n x : Int} (hd : decode M.2.1 pc = .ok (.iinc 0 n, 3)) (hn : 0 < M.2.2.1)
    (k : AP K M (pc + 3) (some (.inl (x + n)) :: R) S m Q) : AP K M pc (some (.inl x) :: R) S m Q := fun X d r hk => aw_iinc hd hn rfl rfl (k X d r hk)
theorem ap_ild_1 {a0 : Option AV} {R : List (Option AV)} {x : Int} (hd : decode M.2.1 pc = .ok (.iload_n 1, 1))
    (k : AP K M (pc + 1) (a0 :: some (.inl x) :: R) (.inl x :: S) m Q) : AP K M pc (a0 :: some (.inl x) :: R) S m Q := fun X d r hk => aw_ild_n hd rfl rfl (k X d r hk)
theorem ap_ist_1 {a0 : Option AV} {R : List (Option AV)} {o : Option AV} {x : Int} (hd : decode M.2.1 pc = .ok (.istore_n 1, 1)) (hn : 1 < M.2.2.1)
    (k : AP K M (pc + 1) (a0 :: some (.inl x) :: R) S m Q) : AP K M pc (a0 :: o :: R) (.inl x :: S) m Q := fun X d r hk => aw_ist_n hd rfl hn rfl (k X d r hk)
theorem ap_ald_1 {a0 : Option AV} {R : List (Option AV)} {x : Nat} (hd : decode M.2.1 pc = .ok (.aload_n 1, 1))
    (k : AP K M (pc + 1) (a0 :: some (.inr x) :: R) (.inr x :: S) m Q) : AP K M pc (a0 :: some (.inr x) :: R) S m Q := fun X d r hk => aw_ald_n hd rfl rfl (k X d r hk)
theorem ap_ast_1 {a0 : Option AV} {R : List (Option AV)} {o : Option AV} {x : Nat} (hd : decode M.2.1 pc = .ok (.astore_n 1, 1)) (hn : 1 < M.2.2.1)
    (k : AP K M (pc + 1) (a0 :: some (.inr x) :: R) S m Q) : AP K M pc (a0 :: o :: R) (.inr x :: S) m Q := fun X d r hk => aw_ast_n hd rfl hn rfl (k X d r hk)
theorem ap_iinc_1 {a0 : Option AV} {R : List (Option AV)} {n x : Int} (hd : decode M.2.1 pc = .ok (.iinc 1 n, 3)) (hn : 1 < M.2.2.1)
    (k : AP K M (pc + 3) (a0 :: some (.inl (x + n)) :: R) S m Q) : AP K M pc (a0 :: some (.inl x) :: R) S m Q := fun X d r hk => aw_iinc hd hn rfl rfl (k X d r hk)
theorem ap_ild_2 {a0 a1 : Option AV} {R : List (Option AV)} {x : Int} (hd : decode M.2.1 pc = .ok (.iload_n 2, 1))
    (k : AP K M (pc + 1) (a0 :: a1 :: some (.inl x) :: R) (.inl x :: S) m Q) : AP K M pc (a0 :: a1 :: some (.inl x) :: R) S m Q := fun X d r hk => aw_ild_n hd rfl rfl (k X d r hk)
theorem ap_ist_2 {a0 a1 : Option AV} {R : List (Option AV)} {o : Option AV} {x : Int} (hd : decode M.2.1 pc = .ok (.istore_n 2, 1)) (hn : 2 < M.2.2.1)
    (k : AP K M (pc + 1) (a0 :: a1 :: some (.inl x) :: R) S m Q) : AP K M pc (a0 :: a1 :: o :: R) (.inl x :: S) m Q := fun X d r hk => aw_ist_n hd rfl hn rfl (k X d r hk)
theorem ap_ald_2 {a0 a1 : Option AV} {R : List (Option AV)} {x : Nat} (hd : decode M.2.1 pc = .ok (.aload_n 2, 1))
    (k : AP K M (pc + 1) (a0 :: a1 :: some (.inr x) :: R) (.inr x :: S) m Q) : AP K M pc (a0 :: a1 :: some (.inr x) :: R) S m Q := fun X d r hk => aw_ald_n hd rfl rfl (k X d r hk)
theorem ap_ast_2 {a0 a1 : Option AV} {R : List (Option AV)} {o : Option AV} {x : Nat} (hd : decode M.2.1 pc = .ok (.astore_n 2, 1)) (hn : 2 < M.2.2.1)
    (k : AP K M (pc + 1) (a0 :: a1 :: some (.inr x) :: R) S m Q) : AP K M pc (a0 :: a1 :: o :: R) (.inr x :: S) m Q := fun X d r hk => aw_ast_n hd rfl hn rfl (k X d r hk)
theorem ap_iinc_2 {a0 a1 : Option AV} {R : List (Option AV)} {n x : Int} (hd : decode M.2.1 pc = .ok (.iinc 2 n, 3)) (hn : 2 < M.2.2.1)
    (k : AP K M (pc + 3) (a0 :: a1 :: some (.inl (x + n)) :: R) S m Q) : AP K M pc (a0 :: a1 :: some (.inl x) :: R) S m Q := fun X d r hk => aw_iinc hd hn rfl rfl (k X d r hk)
theorem ap_ild_3 {a0 a1 a2 : Option AV} {R : List (Option AV)} {x : Int} (hd : decode M.2.1 pc = .ok (.iload_n 3, 1))
    (k : AP K M (pc + 1) (a0 :: a1 :: a2 :: some (.inl x) :: R) (.inl x :: S) m Q) : AP K M pc (a0 :: a1 :: a2 :: some (.inl x) :: R) S m Q := fun X d r hk => aw_ild_n hd rfl rfl (k X d r hk)
theorem ap_ist_3 {a0 a1 a2 : Option AV} {R : List (Option AV)} {o : Option AV} {x : Int} (hd : decode M.2.1 pc = .ok (.istore_n 3, 1)) (hn : 3 < M.2.2.1)
    (k : AP K M (pc + 1) (a0 :: a1 :: a2 :: some (.inl x) :: R) S m Q) : AP K M pc (a0 :: a1 :: a2 :: o :: R) (.inl x :: S) m Q := fun X d r hk => aw_ist_n hd rfl hn rfl (k X d r hk)
theorem ap_ald_3 {a0 a1 a2 : Option AV} {R : List (Option AV)} {x : Nat} (hd : decode M.2.1 pc = .ok (.aload_n 3, 1))
    (k : AP K M (pc + 1) (a0 :: a1 :: a2 :: some (.inr x) :: R) (.inr x :: S) m Q) : AP K M pc (a0 :: a1 :: a2 :: some (.inr x) :: R) S m Q := fun X d r hk => aw_ald_n hd rfl rfl (k X d r hk)
theorem ap_ast_3 {a0 a1 a2 : Option AV} {R : List (Option AV)} {o : Option AV} {x : Nat} (hd : decode M.2.1 pc = .ok (.astore_n 3, 1)) (hn : 3 < M.2.2.1)
    (k : AP K M (pc + 1) (a0 :: a1 :: a2 :: some (.inr x) :: R) S m Q) : AP K M pc (a0 :: a1 :: a2 :: o :: R) (.inr x :: S) m Q := fun X d r hk => aw_ast_n hd rfl hn rfl (k X d r hk)
theorem ap_iinc_3 {a0 a1 a2 : Option AV} {R : List (Option AV)} {n x : Int} (hd : decode M.2.1 pc = .ok (.iinc 3 n, 3)) (hn : 3 < M.2.2.1)
    (k : AP K M (pc + 3) (a0 :: a1 :: a2 :: some (.inl (x + n)) :: R) S m Q) : AP K M pc (a0 :: a1 :: a2 :: some (.inl x) :: R) S m Q := fun X d r hk => aw_iinc hd hn rfl rfl (k X d r hk)
theorem ap_ild_4 {a0 a1 a2 a3 : Option AV} {R : List (Option AV)} {x : Int} (hd : decode M.2.1 pc = .ok (.iload 4, 2))
    (k : AP K M (pc + 2) (a0 :: a1 :: a2 :: a3 :: some (.inl x) :: R) (.inl x :: S) m Q) : AP K M pc (a0 :: a1 :: a2 :: a3 :: some (.inl x) :: R) S m Q := fun X d r hk => aw_ild hd rfl (k X d r hk)
theorem ap_ist_4 {a0 a1 a2 a3 : Option AV} {R : List (Option AV)} {o : Option AV} {x : Int} (hd : decode M.2.1 pc = .ok (.istore 4, 2)) (hn : 4 < M.2.2.1)
    (k : AP K M (pc + 2) (a0 :: a1 :: a2 :: a3 :: some (.inl x) :: R) S m Q) : AP K M pc (a0 :: a1 :: a2 :: a3 :: o :: R) (.inl x :: S) m Q := fun X d r hk => aw_ist hd hn rfl (k X d r hk)
theorem ap_ald_4 {a0 a1 a2 a3 : Option AV} {R : List (Option AV)} {x : Nat} (hd : decode M.2.1 pc = .ok (.aload 4, 2))
    (k : AP K M (pc + 2) (a0 :: a1 :: a2 :: a3 :: some (.inr x) :: R) (.inr x :: S) m Q) : AP K M pc (a0 :: a1 :: a2 :: a3 :: some (.inr x) :: R) S m Q := fun X d r hk => aw_ald hd rfl (k X d r hk)
theorem ap_ast_4 {a0 a1 a2 a3 : Option AV} {R : List (Option AV)} {o : Option AV} {x : Nat} (hd : decode M.2.1 pc = .ok (.astore 4, 2)) (hn : 4 < M.2.2.1)
    (k : AP K M (pc + 2) (a0 :: a1 :: a2 :: a3 :: some (.inr x) :: R) S m Q) : AP K M pc (a0 :: a1 :: a2 :: a3 :: o :: R) (.inr x :: S) m Q := fun X d r hk => aw_ast hd hn rfl (k X d r hk)
theorem ap_iinc_4 {a0 a1 a2 a3 : Option AV} {R : List (Option AV)} {n x : Int} (hd : decode M.2.1 pc = .ok (.iinc 4 n, 3)) (hn : 4 < M.2.2.1)
    (k : AP K M (pc + 3) (a0 :: a1 :: a2 :: a3 :: some (.inl (x + n)) :: R) S m Q) : AP K M pc (a0 :: a1 :: a2 :: a3 :: some (.inl x) :: R) S m Q := fun X d r hk => aw_iinc hd hn rfl rfl (k X d r hk)
theorem ap_ild_5 {a0 a1 a2 a3 a4 : Option AV} {R : List (Option AV)} {x : Int} (hd : decode M.2.1 pc = .ok (.iload 5, 2))
    (k : AP K M (pc + 2) (a0 :: a1 :: a2 :: a3 :: a4 :: some (.inl x) :: R) (.inl x :: S) m Q) : AP K M pc (a0 :: a1 :: a2 :: a3 :: a4 :: some (.inl x) :: R) S m Q := fun X d r hk => aw_ild hd rfl (k X d r hk)
theorem ap_ist_5 {a0 a1 a2 a3 a4 : Option AV} {R : List (Option AV)} {o : Option AV} {x : Int} (hd : decode M.2.1 pc = .ok (.istore 5, 2)) (hn : 5 < M.2.2.1)
    (k : AP K M (pc + 2) (a0 :: a1 :: a2 :: a3 :: a4 :: some (.inl x) :: R) S m Q) : AP K M pc (a0 :: a1 :: a2 :: a3 :: a4 :: o :: R) (.inl x :: S) m Q := fun X d r hk => aw_ist hd hn rfl (k X d r hk)
theorem ap_ald_5 {a0 a1 a2 a3 a4 : Option AV} {R : List (Option AV)} {x : Nat} (hd : decode M.2.1 pc = .ok (.aload 5, 2))
    (k : AP K M (pc + 2) (a0 :: a1 :: a2 :: a3 :: a4 :: some (.inr x) :: R) (.inr x :: S) m Q) : AP K M pc (a0 :: a1 :: a2 :: a3 :: a4 :: some (.inr x) :: R) S m Q := fun X d r hk => aw_ald hd rfl (k X d r hk)
theorem ap_ast_5 {a0 a1 a2 a3 a4 : Option AV} {R : List (Option AV)} {o : Option AV} {x : Nat} (hd : decode M.2.1 pc = .ok (.astore 5, 2)) (hn : 5 < M.2.2.1)
    (k : AP K M (pc + 2) (a0 :: a1 :: a2 :: a3 :: a4 :: some (.inr x) :: R) S m Q) : AP K M pc (a0 :: a1 :: a2 :: a3 :: a4 :: o :: R) (.inr x :: S) m Q := fun X d r hk => aw_ast hd hn rfl (k X d r hk)
theorem ap_iinc_5 {a0 a1 a2 a3 a4 : Option AV} {R : List (Option AV)} {n x : Int} (hd : decode M.2.1 pc = .ok (.iinc 5 n, 3)) (hn : 5 < M.2.2.1)
    (k : AP K M (pc + 3) (a0 :: a1 :: a2 :: a3 :: a4 :: some (.inl (x + n)) :: R) S m Q) : AP K M pc (a0 :: a1 :: a2 :: a3 :: a4 :: some (.inl x) :: R) S m Q := fun X d r hk => aw_iinc hd hn rfl rfl (k X d r hk)
theorem ap_ild_6 {a0 a1 a2 a3 a4 a5 : Option AV} {R : List (Option AV)} {x : Int} (hd : decode M.2.1 pc = .ok (.iload 6, 2))
    (k : AP K M (pc + 2) (a0 :: a1 :: a2 :: a3 :: a4 :: a5 :: some (.inl x) :: R) (.inl x :: S) m Q) : AP K M pc (a0 :: a1 :: a2 :: a3 :: a4 :: a5 :: some (.inl x) :: R) S m Q := fun X d r hk => aw_ild hd rfl (k X d r hk)
theorem ap_ist_6 {a0 a1 a2 a3 a4 a5 : Option AV} {R : List (Option AV)} {o : Option AV} {x : Int} (hd : decode M.2.1 pc = .ok (.istore 6, 2)) (hn : 6 < M.2.2.1)
    (k : AP K M (pc + 2) (a0 :: a1 :: a2 :: a3 :: a4 :: a5 :: some (.inl x) :: R) S m Q) : AP K M pc (a0 :: a1 :: a2 :: a3 :: a4 :: a5 :: o :: R) (.inl x :: S) m Q := fun X d r hk => aw_ist hd hn rfl (k X d r hk)
theorem ap_ald_6 {a0 a1 a2 a3 a4 a5 : Option AV} {R : List (Option AV)} {x : Nat} (hd : decode M.2.1 pc = .ok (.aload 6, 2))
    (k : AP K M (pc + 2) (a0 :: a1 :: a2 :: a3 :: a4 :: a5 :: some (.inr x) :: R) (.inr x :: S) m Q) : AP K M pc (a0 :: a1 :: a2 :: a3 :: a4 :: a5 :: some (.inr x) :: R) S m Q := fun X d r hk => aw_ald hd rfl (k X d r hk)
theorem ap_ast_6 {a0 a1 a2 a3 a4 a5 : Option AV} {R : List (Option AV)} {o : Option AV} {x : Nat} (hd : decode M.2.1 pc = .ok (.astore 6, 2)) (hn : 6 < M.2.2.1)
    (k : AP K M (pc + 2) (a0 :: a1 :: a2 :: a3 :: a4 :: a5 :: some (.inr x) :: R) S m Q) : AP K M pc (a0 :: a1 :: a2 :: a3 :: a4 :: a5 :: o :: R) (.inr x :: S) m Q := fun X d r hk => aw_ast hd hn rfl (k X d r hk)
theorem ap_iinc_6 {a0 a1 a2 a3 a4 a5 : Option AV} {R : List (Option AV)} {n x : Int} (hd : decode M.2.1 pc = .ok (.iinc 6 n, 3)) (hn : 6 < M.2.2.1)
    (k : AP K M (pc + 3) (a0 :: a1 :: a2 :: a3 :: a4 :: a5 :: some (.inl (x + n)) :: R) S m Q) : AP K M pc (a0 :: a1 :: a2 :: a3 :: a4 :: a5 :: some (.inl x) :: R) S m Q := fun X d r hk => aw_iinc hd hn rfl rfl (k X d r hk)
theorem ap_ild_7 {a0 a1 a2 a3 a4 a5 a6 : Option AV} {R : List (Option AV)} {x : Int} (hd : decode M.2.1 pc = .ok (.iload 7, 2))
    (k : AP K M (pc + 2) (a0 :: a1 :: a2 :: a3 :: a4 :: a5 :: a6 :: some (.inl x) :: R) (.inl x :: S) m Q) : AP K M pc (a0 :: a1 :: a2 :: a3 :: a4 :: a5 :: a6 :: some (.inl x) :: R) S m Q := fun X d r hk => aw_ild hd rfl (k X d r hk)
theorem ap_ist_7 {a0 a1 a2 a3 a4 a5 a6 : Option AV} {R : List (Option AV)} {o : Option AV} {x : Int} (hd : decode M.2.1 pc = .ok (.istore 7, 2)) (hn : 7 < M.2.2.1)
    (k : AP K M (pc + 2) (a0 :: a1 :: a2 :: a3 :: a4 :: a5 :: a6 :: some (.inl x) :: R) S m Q) : AP K M pc (a0 :: a1 :: a2 :: a3 :: a4 :: a5 :: a6 :: o :: R) (.inl x :: S) m Q := fun X d r hk => aw_ist hd hn rfl (k X d r hk)
theorem ap_ald_7 {a0 a1 a2 a3 a4 a5 a6 : Option AV} {R : List (Option AV)} {x : Nat} (hd : decode M.2.1 pc = .ok (.aload 7, 2))
    (k : AP K M (pc + 2) (a0 :: a1 :: a2 :: a3 :: a4 :: a5 :: a6 :: some (.inr x) :: R) (.inr x :: S) m Q) : AP K M pc (a0 :: a1 :: a2 :: a3 :: a4 :: a5 :: a6 :: some (.inr x) :: R) S m Q := fun X d r hk => aw_ald hd rfl (k X d r hk)
theorem ap_ast_7 {a0 a1 a2 a3 a4 a5 a6 : Option AV} {R : List (Option AV)} {o : Option AV} {x : Nat} (hd : decode M.2.1 pc = .ok (.astore 7, 2)) (hn : 7 < M.2.2.1)
    (k : AP K M (pc + 2) (a0 :: a1 :: a2 :: a3 :: a4 :: a5 :: a6 :: some (.inr x) :: R) S m Q) : AP K M pc (a0 :: a1 :: a2 :: a3 :: a4 :: a5 :: a6 :: o :: R) (.inr x :: S) m Q := fun X d r hk => aw_ast hd hn rfl (k X d r hk)
theorem ap_iinc_7 {a0 a1 a2 a3 a4 a5 a6 : Option AV} {R : List (Option AV)} {n x : Int} (hd : decode M.2.1 pc = .ok (.iinc 7 n, 3)) (hn : 7 < M.2.2.1)
    (k : AP K M (pc + 3) (a0 :: a1 :: a2 :: a3 :: a4 :: a5 :: a6 :: some (.inl (x + n)) :: R) S m Q) : AP K M pc (a0 :: a1 :: a2 :: a3 :: a4 :: a5 :: a6 :: some (.inl x) :: R) S m Q := fun X d r hk => aw_iinc hd hn rfl rfl (k X d r hk)
theorem ap_ild_8 {a0 a1 a2 a3 a4 a5 a6 a7 : Option AV} {R : List (Option AV)} {x : Int} (hd : decode M.2.1 pc = .ok (.iload 8, 2))
    (k : AP K M (pc + 2) (a0 :: a1 :: a2 :: a3 :: a4 :: a5 :: a6 :: a7 :: some (.inl x) :: R) (.inl x :: S) m Q) : AP K M pc (a0 :: a1 :: a2 :: a3 :: a4 :: a5 :: a6 :: a7 :: some (.inl x) :: R) S m Q := fun X d r hk => aw_ild hd rfl (k X d r hk)
theorem ap_ist_8 {a0 a1 a2 a3 a4 a5 a6 a7 : Option AV} {R : List (Option AV)} {o : Option AV} {x : Int} (hd : decode M.2.1 pc = .ok (.istore 8, 2)) (hn : 8 < M.2.2.1)
    (k : AP K M (pc + 2) (a0 :: a1 :: a2 :: a3 :: a4 :: a5 :: a6 :: a7 :: some (.inl x) :: R) S m Q) : AP K M pc (a0 :: a1 :: a2 :: a3 :: a4 :: a5 :: a6 :: a7 :: o :: R) (.inl x :: S) m Q := fun X d r hk => aw_ist hd hn rfl (k X d r hk)
theorem ap_ald_8 {a0 a1 a2 a3 a4 a5 a6 a7 : Option AV} {R : List (Option AV)} {x : Nat} (hd : decode M.2.1 pc = .ok (.aload 8, 2))
    (k : AP K M (pc + 2) (a0 :: a1 :: a2 :: a3 :: a4 :: a5 :: a6 :: a7 :: some (.inr x) :: R) (.inr x :: S) m Q) : AP K M pc (a0 :: a1 :: a2 :: a3 :: a4 :: a5 :: a6 :: a7 :: some (.inr x) :: R) S m Q := fun X d r hk => aw_ald hd rfl (k X d r hk)
theorem ap_ast_8 {a0 a1 a2 a3 a4 a5 a6 a7 : Option AV} {R : List (Option AV)} {o : Option AV} {x : Nat} (hd : decode M.2.1 pc = .ok (.astore 8, 2)) (hn : 8 < M.2.2.1)
    (k : AP K M (pc + 2) (a0 :: a1 :: a2 :: a3 :: a4 :: a5 :: a6 :: a7 :: some (.inr x) :: R) S m Q) : AP K M pc (a0 :: a1 :: a2 :: a3 :: a4 :: a5 :: a6 :: a7 :: o :: R) (.inr x :: S) m Q := fun X d r hk => aw_ast hd hn rfl (k X d r hk)
theorem ap_iinc_8 {a0 a1 a2 a3 a4 a5 a6 a7 : Option AV} {R : List (Option AV)} {n x : Int} (hd : decode M.2.1 pc = .ok (.iinc 8 n, 3)) (hn : 8 < M.2.2.1)
    (k : AP K M (pc + 3) (a0 :: a1 :: a2 :: a3 :: a4 :: a5 :: a6 :: a7 :: some (.inl (x + n)) :: R) S m Q) : AP K M pc (a0 :: a1 :: a2 :: a3 :: a4 :: a5 :: a6 :: a7 :: some (.inl x) :: R) S m Q := fun X d r hk => aw_iinc hd hn rfl rfl (k X d r hk)
theorem ap_ild_9 {a0 a1 a2 a3 a4 a5 a6 a7 a8 : Option AV} {R : List (Option AV)} {x : Int} (hd : decode M.2.1 pc = .ok (.iload 9, 2))
    (k : AP K M (pc + 2) (a0 :: a1 :: a2 :: a3 :: a4 :: a5 :: a6 :: a7 :: a8 :: some (.inl x) :: R) (.inl x :: S) m Q) : AP K M pc (a0 :: a1 :: a2 :: a3 :: a4 :: a5 :: a6 :: a7 :: a8 :: some (.inl x) :: R) S m Q := fun X d r hk => aw_ild hd rfl (k X d r hk)
theorem ap_ist_9 {a0 a1 a2 a3 a4 a5 a6 a7 a8 : Option AV} {R : List (Option AV)} {o : Option AV} {x : Int} (hd : decode M.2.1 pc = .ok (.istore 9, 2)) (hn : 9 < M.2.2.1)
    (k : AP K M (pc + 2) (a0 :: a1 :: a2 :: a3 :: a4 :: a5 :: a6 :: a7 :: a8 :: some (.inl x) :: R) S m Q) : AP K M pc (a0 :: a1 :: a2 :: a3 :: a4 :: a5 :: a6 :: a7 :: a8 :: o :: R) (.inl x :: S) m Q := fun X d r hk => aw_ist hd hn rfl (k X d r hk)
theorem ap_ald_9 {a0 a1 a2 a3 a4 a5 a6 a7 a8 : Option AV} {R : List (Option AV)} {x : Nat} (hd : decode M.2.1 pc = .ok (.aload 9, 2))
    (k : AP K M (pc + 2) (a0 :: a1 :: a2 :: a3 :: a4 :: a5 :: a6 :: a7 :: a8 :: some (.inr x) :: R) (.inr x :: S) m Q) : AP K M pc (a0 :: a1 :: a2 :: a3 :: a4 :: a5 :: a6 :: a7 :: a8 :: some (.inr x) :: R) S m Q := fun X d r hk => aw_ald hd rfl (k X d r hk)
theorem ap_ast_9 {a0 a1 a2 a3 a4 a5 a6 a7 a8 : Option AV} {R : List (Option AV)} {o : Option AV} {x : Nat} (hd : decode M.2.1 pc = .ok (.astore 9, 2)) (hn : 9 < M.2.2.1)
    (k : AP K M (pc + 2) (a0 :: a1 :: a2 :: a3 :: a4 :: a5 :: a6 :: a7 :: a8 :: some (.inr x) :: R) S m Q) : AP K M pc (a0 :: a1 :: a2 :: a3 :: a4 :: a5 :: a6 :: a7 :: a8 :: o :: R) (.inr x :: S) m Q := fun X d r hk => aw_ast hd hn rfl (k X d r hk)
theorem ap_iinc_9 {a0 a1 a2 a3 a4 a5 a6 a7 a8 : Option AV} {R : List (Option AV)} {n x : Int} (hd : decode M.2.1 pc = .ok (.iinc 9 n, 3)) (hn : 9 < M.2.2.1)
    (k : AP K M (pc + 3) (a0 :: a1 :: a2 :: a3 :: a4 :: a5 :: a6 :: a7 :: a8 :: some (.inl (x + n)) :: R) S m Q) : AP K M pc (a0 :: a1 :: a2 :: a3 :: a4 :: a5 :: a6 :: a7 :: a8 :: some (.inl x) :: R) S m Q := fun X d r hk => aw_iinc hd hn rfl rfl (k X d r hk)
theorem ap_ild_10 {a0 a1 a2 a3 a4 a5 a6 a7 a8 a9 : Option AV} {R : List (Option AV)} {x : Int} (hd : decode M.2.1 pc = .ok (.iload 10, 2))
    (k : AP K M (pc + 2) (a0 :: a1 :: a2 :: a3 :: a4 :: a5 :: a6 :: a7 :: a8 :: a9 :: some (.inl x) :: R) (.inl x :: S) m Q) : AP K M pc (a0 :: a1 :: a2 :: a3 :: a4 :: a5 :: a6 :: a7 :: a8 :: a9 :: some (.inl x) :: R) S m Q := fun X d r hk => aw_ild hd rfl (k X d r hk)
theorem ap_ist_10 {a0 a1 a2 a3 a4 a5 a6 a7 a8 a9 : Option AV} {R : List (Option AV)} {o : Option AV} {x : Int} (hd : decode M.2.1 pc = .ok (.istore 10, 2)) (hn : 10 < M.2.2.1)
    (k : AP K M (pc + 2) (a0 :: a1 :: a2 :: a3 :: a4 :: a5 :: a6 :: a7 :: a8 :: a9 :: some (.inl x) :: R) S m Q) : AP K M pc (a0 :: a1 :: a2 :: a3 :: a4 :: a5 :: a6 :: a7 :: a8 :: a9 :: o :: R) (.inl x :: S) m Q := fun X d r hk => aw_ist hd hn rfl (k X d r hk)
theorem ap_ald_10 {a0 a1 a2 a3 a4 a5 a6 a7 a8 a9 : Option AV} {R : List (Option AV)} {x : Nat} (hd : decode M.2.1 pc = .ok (.aload 10, 2))
    (k : AP K M (pc + 2) (a0 :: a1 :: a2 :: a3 :: a4 :: a5 :: a6 :: a7 :: a8 :: a9 :: some (.inr x) :: R) (.inr x :: S) m Q) : AP K M pc (a0 :: a1 :: a2 :: a3 :: a4 :: a5 :: a6 :: a7 :: a8 :: a9 :: some (.inr x) :: R) S m Q := fun X d r hk => aw_ald hd rfl (k X d r hk)
theorem ap_ast_10 {a0 a1 a2 a3 a4 a5 a6 a7 a8 a9 : Option AV} {R : List (Option AV)} {o : Option AV} {x : Nat} (hd : decode M.2.1 pc = .ok (.astore 10, 2)) (hn : 10 < M.2.2.1)
    (k : AP K M (pc + 2) (a0 :: a1 :: a2 :: a3 :: a4 :: a5 :: a6 :: a7 :: a8 :: a9 :: some (.inr x) :: R) S m Q) : AP K M pc (a0 :: a1 :: a2 :: a3 :: a4 :: a5 :: a6 :: a7 :: a8 :: a9 :: o :: R) (.inr x :: S) m Q := fun X d r hk => aw_ast hd hn rfl (k X d r hk)
theorem ap_iinc_10 {a0 a1 a2 a3 a4 a5 a6 a7 a8 a9 : Option AV} {R : List (Option AV)} {n x : Int} (hd : decode M.2.1 pc = .ok (.iinc 10 n, 3)) (hn : 10 < M.2.2.1)
    (k : AP K M (pc + 3) (a0 :: a1 :: a2 :: a3 :: a4 :: a5 :: a6 :: a7 :: a8 :: a9 :: some (.inl (x + n)) :: R) S m Q) : AP K M pc (a0 :: a1 :: a2 :: a3 :: a4 :: a5 :: a6 :: a7 :: a8 :: a9 :: some (.inl x) :: R) S m Q := fun X d r hk => aw_iinc hd hn rfl rfl (k X d r hk)
theorem ap_ild_11 {a0 a1 a2 a3 a4 a5 a6 a7 a8 a9 a10 : Option AV} {R : List (Option AV)} {x : Int} (hd : decode M.2.1 pc = .ok (.iload 11, 2))
    (k : AP K M (pc + 2) (a0 :: a1 :: a2 :: a3 :: a4 :: a5 :: a6 :: a7 :: a8 :: a9 :: a10 :: some (.inl x) :: R) (.inl x :: S) m Q) : AP K M pc (a0 :: a1 :: a2 :: a3 :: a4 :: a5 :: a6 :: a7 :: a8 :: a9 :: a10 :: some (.inl x) :: R) S m Q := fun X d r hk => aw_ild hd rfl (k X d r hk)
theorem ap_ist_11 {a0 a1 a2 a3 a4 a5 a6 a7 a8 a9 a10 : Option AV} {R : List (Option AV)} {o : Option AV} {x : Int} (hd : decode M.2.1 pc = .ok (.istore 11, 2)) (hn : 11 < M.2.2.1)
    (k : AP K M (pc + 2) (a0 :: a1 :: a2 :: a3 :: a4 :: a5 :: a6 :: a7 :: a8 :: a9 :: a10 :: some (.inl x) :: R) S m Q) : AP K M pc (a0 :: a1 :: a2 :: a3 :: a4 :: a5 :: a6 :: a7 :: a8 :: a9 :: a10 :: o :: R) (.inl x :: S) m Q := fun X d r hk => aw_ist hd hn rfl (k X d r hk)
theorem ap_ald_11 {a0 a1 a2 a3 a4 a5 a6 a7 a8 a9 a10 : Option AV} {R : List (Option AV)} {x : Nat} (hd : decode M.2.1 pc = .ok (.aload 11, 2))
    (k : AP K M (pc + 2) (a0 :: a1 :: a2 :: a3 :: a4 :: a5 :: a6 :: a7 :: a8 :: a9 :: a10 :: some (.inr x) :: R) (.inr x :: S) m Q) : AP K M pc (a0 :: a1 :: a2 :: a3 :: a4 :: a5 :: a6 :: a7 :: a8 :: a9 :: a10 :: some (.inr x) :: R) S m Q := fun X d r hk => aw_ald hd rfl (k X d r hk)
theorem ap_ast_11 {a0 a1 a2 a3 a4 a5 a6 a7 a8 a9 a10 : Option AV} {R : List (Option AV)} {o : Option AV} {x : Nat} (hd : decode M.2.1 pc = .ok (.astore 11, 2)) (hn : 11 < M.2.2.1)
    (k : AP K M (pc + 2) (a0 :: a1 :: a2 :: a3 :: a4 :: a5 :: a6 :: a7 :: a8 :: a9 :: a10 :: some (.inr x) :: R) S m Q) : AP K M pc (a0 :: a1 :: a2 :: a3 :: a4 :: a5 :: a6 :: a7 :: a8 :: a9 :: a10 :: o :: R) (.inr x :: S) m Q := fun X d r hk => aw_ast hd hn rfl (k X d r hk)
theorem ap_iinc_11 {a0 a1 a2 a3 a4 a5 a6 a7 a8 a9 a10 : Option AV} {R : List (Option AV)} {n x : Int} (hd : decode M.2.1 pc = .ok (.iinc 11 n, 3)) (hn : 11 < M.2.2.1)
    (k : AP K M (pc + 3) (a0 :: a1 :: a2 :: a3 :: a4 :: a5 :: a6 :: a7 :: a8 :: a9 :: a10 :: some (.inl (x + n)) :: R) S m Q) : AP K M pc (a0 :: a1 :: a2 :: a3 :: a4 :: a5 :: a6 :: a7 :: a8 :: a9 :: a10 :: some (.inl x) :: R) S m Q := fun X d r hk => aw_iinc hd hn rfl rfl (k X d r hk)
theorem ap_ild_12 {a0 a1 a2 a3 a4 a5 a6 a7 a8 a9 a10 a11 : Option AV} {R : List (Option AV)} {x : Int} (hd : decode M.2.1 pc = .ok (.iload 12, 2))
    (k : AP K M (pc + 2) (a0 :: a1 :: a2 :: a3 :: a4 :: a5 :: a6 :: a7 :: a8 :: a9 :: a10 :: a11 :: some (.inl x) :: R) (.inl x :: S) m Q) : AP K M pc (a0 :: a1 :: a2 :: a3 :: a4 :: a5 :: a6 :: a7 :: a8 :: a9 :: a10 :: a11 :: some (.inl x) :: R) S m Q := fun X d r hk => aw_ild hd rfl (k X d r hk)
theorem ap_ist_12 {a0 a1 a2 a3 a4 a5 a6 a7 a8 a9 a10 a11 : Option AV} {R : List (Option AV)} {o : Option AV} {x : Int} (hd : decode M.2.1 pc = .ok (.istore 12, 2)) (hn : 12 < M.2.2.1)
    (k : AP K M (pc + 2) (a0 :: a1 :: a2 :: a3 :: a4 :: a5 :: a6 :: a7 :: a8 :: a9 :: a10 :: a11 :: some (.inl x) :: R) S m Q) : AP K M pc (a0 :: a1 :: a2 :: a3 :: a4 :: a5 :: a6 :: a7 :: a8 :: a9 :: a10 :: a11 :: o :: R) (.inl x :: S) m Q := fun X d r hk => aw_ist hd hn rfl (k X d r hk)
theorem ap_ald_12 {a0 a1 a2 a3 a4 a5 a6 a7 a8 a9 a10 a11 : Option AV} {R : List (Option AV)} {x : Nat} (hd : decode M.2.1 pc = .ok (.aload 12, 2))
    (k : AP K M (pc + 2) (a0 :: a1 :: a2 :: a3 :: a4 :: a5 :: a6 :: a7 :: a8 :: a9 :: a10 :: a11 :: some (.inr x) :: R) (.inr x :: S) m Q) : AP K M pc (a0 :: a1 :: a2 :: a3 :: a4 :: a5 :: a6 :: a7 :: a8 :: a9 :: a10 :: a11 :: some (.inr x) :: R) S m Q := fun X d r hk => aw_ald hd rfl (k X d r hk)
theorem ap_ast_12 {a0 a1 a2 a3 a4 a5 a6 a7 a8 a9 a10 a11 : Option AV} {R : List (Option AV)} {o : Option AV} {x : Nat} (hd : decode M.2.1 pc = .ok (.astore 12, 2)) (hn : 12 < M.2.2.1)
    (k : AP K M (pc + 2) (a0 :: a1 :: a2 :: a3 :: a4 :: a5 :: a6 :: a7 :: a8 :: a9 :: a10 :: a11 :: some (.inr x) :: R) S m Q) : AP K M pc (a0 :: a1 :: a2 :: a3 :: a4 :: a5 :: a6 :: a7 :: a8 :: a9 :: a10 :: a11 :: o :: R) (.inr x :: S) m Q := fun X d r hk => aw_ast hd hn rfl (k X d r hk)
theorem ap_iinc_12 {a0 a1 a2 a3 a4 a5 a6 a7 a8 a9 a10 a11 : Option AV} {R : List (Option AV)} {n x : Int} (hd : decode M.2.1 pc = .ok (.iinc 12 n, 3)) (hn : 12 < M.2.2.1)
    (k : AP K M (pc + 3) (a0 :: a1 :: a2 :: a3 :: a4 :: a5 :: a6 :: a7 :: a8 :: a9 :: a10 :: a11 :: some (.inl (x + n)) :: R) S m Q) : AP K M pc (a0 :: a1 :: a2 :: a3 :: a4 :: a5 :: a6 :: a7 :: a8 :: a9 :: a10 :: a11 :: some (.inl x) :: R) S m Q := fun X d r hk => aw_iinc hd hn rfl rfl (k X d r hk)
theorem ap_iadd {x y : Int} (hd : decode M.2.1 pc = .ok (.iadd, 1))
    (k : AP K M (pc + 1) L (.inl (x + y) :: S) m Q) : AP K M pc L (.inl y :: .inl x :: S) m Q := fun X d r hk => aw_iadd hd (k X d r hk)
theorem ap_isub {x y : Int} (hd : decode M.2.1 pc = .ok (.isub, 1))
    (k : AP K M (pc + 1) L (.inl (x - y) :: S) m Q) : AP K M pc L (.inl y :: .inl x :: S) m Q := fun X d r hk => aw_isub hd (k X d r hk)
theorem ap_imul {x y : Int} (hd : decode M.2.1 pc = .ok (.imul, 1))
    (k : AP K M (pc + 1) L (.inl (x * y) :: S) m Q) : AP K M pc L (.inl y :: .inl x :: S) m Q := fun X d r hk => aw_imul hd (k X d r hk)
theorem ap_iand {x y : Int} (hd : decode M.2.1 pc = .ok (.iand, 1))
    (k : AP K M (pc + 1) L (.inl (iAnd x y) :: S) m Q) : AP K M pc L (.inl y :: .inl x :: S) m Q := fun X d r hk => aw_iand hd (k X d r hk)
theorem ap_ior {x y : Int} (hd : decode M.2.1 pc = .ok (.ior, 1))
    (k : AP K M (pc + 1) L (.inl (iOr x y) :: S) m Q) : AP K M pc L (.inl y :: .inl x :: S) m Q := fun X d r hk => aw_ior hd (k X d r hk)
theorem ap_ixor {x y : Int} (hd : decode M.2.1 pc = .ok (.ixor, 1))
    (k : AP K M (pc + 1) L (.inl (iXor x y) :: S) m Q) : AP K M pc L (.inl y :: .inl x :: S) m Q := fun X d r hk => aw_ixor hd (k X d r hk)
theorem ap_ishl {x y : Int} (hd : decode M.2.1 pc = .ok (.ishl, 1))
    (k : AP K M (pc + 1) L (.inl (iShl x y) :: S) m Q) : AP K M pc L (.inl y :: .inl x :: S) m Q := fun X d r hk => aw_ishl hd (k X d r hk)
theorem ap_ishr {x y : Int} (hd : decode M.2.1 pc = .ok (.ishr, 1))
    (k : AP K M (pc + 1) L (.inl (iShr x y) :: S) m Q) : AP K M pc L (.inl y :: .inl x :: S) m Q := fun X d r hk => aw_ishr hd (k X d r hk)
theorem ap_irem {x y : Int} (hd : decode M.2.1 pc = .ok (.irem, 1)) (hr : rng y) (h0 : y ≠ 0)
    (k : AP K M (pc + 1) L (.inl (iRem x y) :: S) m Q) : AP K M pc L (.inl y :: .inl x :: S) m Q := fun X d r hk => aw_irem hd hr h0 (k X d r hk)
theorem ap_ineg {x : Int} (hd : decode M.2.1 pc = .ok (.ineg, 1))
    (k : AP K M (pc + 1) L (.inl (-x) :: S) m Q) : AP K M pc L (.inl x :: S) m Q := fun X d r hk => aw_ineg hd (k X d r hk)
theorem ap_i2c {x : Int} (hd : decode M.2.1 pc = .ok (.i2c, 1)) (h0 : 0 ≤ x) (h1 : x < 65536)
    (k : AP K M (pc + 1) L (.inl x :: S) m Q) : AP K M pc L (.inl x :: S) m Q := fun X d r hk => aw_i2c hd h0 h1 (k X d r hk)
theorem ap_dup {v : AV} (hd : decode M.2.1 pc = .ok (.dup, 1))
    (k : AP K M (pc + 1) L (v :: v :: S) m Q) : AP K M pc L (v :: S) m Q := fun X d r hk => aw_dup hd (k X d r hk)
theorem ap_dup2 {u v : AV} (hd : decode M.2.1 pc = .ok (.dup2, 1))
    (k : AP K M (pc + 1) L (v :: u :: v :: u :: S) m Q) : AP K M pc L (v :: u :: S) m Q := fun X d r hk => aw_dup2 hd (k X d r hk)
theorem ap_goto {off : Int} (tgt : Nat) (hd : decode M.2.1 pc = .ok (.goto off, 3)) (ht : (pc : Int) + off = (tgt : Int))
    (k : AP K M tgt L S m Q) : AP K M pc L S m Q := fun X d r hk => aw_goto hd ht (k X d r hk)
theorem ap_icmp_lt {x y off : Int} (tgt : Nat) (hd : decode M.2.1 pc = .ok (.if_icmp .lt off, 3)) (ht : (pc : Int) + off = (tgt : Int)) (hx : rng x) (hy0 : rng y)
    (kt : x < y → AP K M tgt L S m Q) (kf : y ≤ x → AP K M (pc + 3) L S m Q) : AP K M pc L (.inl y :: .inl x :: S) m Q := fun X d r hk => aw_icmp_lt hd ht hx hy0 (fun q => kt q X d r hk) (fun q => kf q X d r hk)
theorem ap_if_lt {x off : Int} (tgt : Nat) (hd : decode M.2.1 pc = .ok (.ifCond .lt off, 3)) (ht : (pc : Int) + off = (tgt : Int)) (hx : rng x)
    (kt : x < 0 → AP K M tgt L S m Q) (kf : 0 ≤ x → AP K M (pc + 3) L S m Q) : AP K M pc L (.inl x :: S) m Q := fun X d r hk => aw_if_lt hd ht hx (fun q => kt q X d r hk) (fun q => kf q X d r hk)
theorem ap_icmp_ge {x y off : Int} (tgt : Nat) (hd : decode M.2.1 pc = .ok (.if_icmp .ge off, 3)) (ht : (pc : Int) + off = (tgt : Int)) (hx : rng x) (hy0 : rng y)
    (kt : y ≤ x → AP K M tgt L S m Q) (kf : x < y → AP K M (pc + 3) L S m Q) : AP K M pc L (.inl y :: .inl x :: S) m Q := fun X d r hk => aw_icmp_ge hd ht hx hy0 (fun q => kt q X d r hk) (fun q => kf q X d r hk)
theorem ap_if_ge {x off : Int} (tgt : Nat) (hd : decode M.2.1 pc = .ok (.ifCond .ge off, 3)) (ht : (pc : Int) + off = (tgt : Int)) (hx : rng x)
    (kt : 0 ≤ x → AP K M tgt L S m Q) (kf : x < 0 → AP K M (pc + 3) L S m Q) : AP K M pc L (.inl x :: S) m Q := fun X d r hk => aw_if_ge hd ht hx (fun q => kt q X d r hk) (fun q => kf q X d r hk)
theorem ap_icmp_gt {x y off : Int} (tgt : Nat) (hd : decode M.2.1 pc = .ok (.if_icmp .gt off, 3)) (ht : (pc : Int) + off = (tgt : Int)) (hx : rng x) (hy0 : rng y)
    (kt : y < x → AP K M tgt L S m Q) (kf : x ≤ y → AP K M (pc + 3) L S m Q) : AP K M pc L (.inl y :: .inl x :: S) m Q := fun X d r hk => aw_icmp_gt hd ht hx hy0 (fun q => kt q X d r hk) (fun q => kf q X d r hk)
theorem ap_if_gt {x off : Int} (tgt : Nat) (hd : decode M.2.1 pc = .ok (.ifCond .gt off, 3)) (ht : (pc : Int) + off = (tgt : Int)) (hx : rng x)
    (kt : 0 < x → AP K M tgt L S m Q) (kf : x ≤ 0 → AP K M (pc + 3) L S m Q) : AP K M pc L (.inl x :: S) m Q := fun X d r hk => aw_if_gt hd ht hx (fun q => kt q X d r hk) (fun q => kf q X d r hk)
theorem ap_icmp_le {x y off : Int} (tgt : Nat) (hd : decode M.2.1 pc = .ok (.if_icmp .le off, 3)) (ht : (pc : Int) + off = (tgt : Int)) (hx : rng x) (hy0 : rng y)
    (kt : x ≤ y → AP K M tgt L S m Q) (kf : y < x → AP K M (pc + 3) L S m Q) : AP K M pc L (.inl y :: .inl x :: S) m Q := fun X d r hk => aw_icmp_le hd ht hx hy0 (fun q => kt q X d r hk) (fun q => kf q X d r hk)
theorem ap_if_le {x off : Int} (tgt : Nat) (hd : decode M.2.1 pc = .ok (.ifCond .le off, 3)) (ht : (pc : Int) + off = (tgt : Int)) (hx : rng x)
    (kt : x ≤ 0 → AP K M tgt L S m Q) (kf : 0 < x → AP K M (pc + 3) L S m Q) : AP K M pc L (.inl x :: S) m Q := fun X d r hk => aw_if_le hd ht hx (fun q => kt q X d r hk) (fun q => kf q X d r hk)
theorem ap_icmp_eq {x y off : Int} (tgt : Nat) (hd : decode M.2.1 pc = .ok (.if_icmp .eq off, 3)) (ht : (pc : Int) + off = (tgt : Int)) (hr : x = y ∨ (rng x ∧ rng y))
    (kt : x = y → AP K M tgt L S m Q) (kf : ¬ x = y → AP K M (pc + 3) L S m Q) : AP K M pc L (.inl y :: .inl x :: S) m Q := fun X d r hk => aw_icmp_eq hd ht hr (fun q => kt q X d r hk) (fun q => kf q X d r hk)
theorem ap_if_eq {x off : Int} (tgt : Nat) (hd : decode M.2.1 pc = .ok (.ifCond .eq off, 3)) (ht : (pc : Int) + off = (tgt : Int)) (hx : rng x)
    (kt : x = 0 → AP K M tgt L S m Q) (kf : ¬ x = 0 → AP K M (pc + 3) L S m Q) : AP K M pc L (.inl x :: S) m Q := fun X d r hk => aw_if_eq hd ht hx (fun q => kt q X d r hk) (fun q => kf q X d r hk)
theorem ap_icmp_ne {x y off : Int} (tgt : Nat) (hd : decode M.2.1 pc = .ok (.if_icmp .ne off, 3)) (ht : (pc : Int) + off = (tgt : Int)) (hr : x = y ∨ (rng x ∧ rng y))
    (kt : ¬ x = y → AP K M tgt L S m Q) (kf : x = y → AP K M (pc + 3) L S m Q) : AP K M pc L (.inl y :: .inl x :: S) m Q := fun X d r hk => aw_icmp_ne hd ht hr (fun q => kt q X d r hk) (fun q => kf q X d r hk)
theorem ap_if_ne {x off : Int} (tgt : Nat) (hd : decode M.2.1 pc = .ok (.ifCond .ne off, 3)) (ht : (pc : Int) + off = (tgt : Int)) (hx : rng x)
    (kt : ¬ x = 0 → AP K M tgt L S m Q) (kf : x = 0 → AP K M (pc + 3) L S m Q) : AP K M pc L (.inl x :: S) m Q := fun X d r hk => aw_if_ne hd ht hx (fun q => kt q X d r hk) (fun q => kf q X d r hk)
theorem ap_tswIn {dflt lo hi : Int} {offs : Array Int} {len : Nat} {x off : Int} (tgt : Nat) (hd : decode M.2.1 pc = .ok (.tableswitch dflt lo hi offs, len)) (hr : rng x) (h1 : lo ≤ x) (h2 : x ≤ hi) (ho : offs[(x - lo).toNat]? = some off) (ht : (pc : Int) + off = (tgt : Int))
    (k : AP K M tgt L S m Q) : AP K M pc L (.inl x :: S) m Q := fun X d r hk => aw_tswIn hd hr h1 h2 ho ht (k X d r hk)
theorem ap_tswOut {dflt lo hi : Int} {offs : Array Int} {len : Nat} {x : Int} (tgt : Nat) (hd : decode M.2.1 pc = .ok (.tableswitch dflt lo hi offs, len)) (hr : rng x) (h1 : x < lo ∨ hi < x) (ht : (pc : Int) + dflt = (tgt : Int))
    (k : AP K M tgt L S m Q) : AP K M pc L (.inl x :: S) m Q := fun X d r hk => aw_tswOut hd hr h1 ht (k X d r hk)
theorem ap_lsw {dflt : Int} {ps : Array (Int × Int)} {len : Nat} {x off : Int} (tgt : Nat) (hd : decode M.2.1 pc = .ok (.lookupswitch dflt ps, len)) (hr : rng x) (hp : (ps.toList.zip (ps.toList.drop 1)).all (fun (a, next) => a.1 < next.1) = true) (ho : Op.lookupswitch.offset ps.toList dflt x = off) (ht : (pc : Int) + off = (tgt : Int))
    (k : AP K M tgt L S m Q) : AP K M pc L (.inl x :: S) m Q := fun X d r hk => aw_lsw hd hr hp ho ht (k X d r hk)
theorem ap_getI {idx q ci j : Nat} {jz : Int} {fs : List ShF} (hd : decode M.2.1 pc = .ok (.getfield idx, 3)) (hw : aFl M.1.cls idx ci j) (hc : SH[q]? = some (.inl (ci, fs))) (hj : fs[j]? = some none) (hz : (j : Int) = jz)
    (k : AP K M (pc + 3) L (.inl (m q jz) :: S) m Q) : AP K M pc L (.inr q :: S) m Q := fun X d r hk => aw_getI hd hw hc hj hz (k X d r hk)
theorem ap_getR {idx q ci j r : Nat} {fs : List ShF} (hd : decode M.2.1 pc = .ok (.getfield idx, 3)) (hw : aFl M.1.cls idx ci j) (hc : SH[q]? = some (.inl (ci, fs))) (hj : fs[j]? = some (some (some r)))
    (k : AP K M (pc + 3) L (.inr r :: S) m Q) : AP K M pc L (.inr q :: S) m Q := fun X d r hk => aw_getR hd hw hc hj (k X d r hk)
theorem ap_putI {idx q ci j : Nat} {jz v : Int} {b : Bool} {fs : List ShF} (hd : decode M.2.1 pc = .ok (.putfield idx, 3)) (hw : aFn M.1.cls idx ci j b) (hc : SH[q]? = some (.inl (ci, fs))) (hj : fs[j]? = some none) (hz : (j : Int) = jz) (hb : b = true → v = 0 ∨ v = 1)
    (k : AP K M (pc + 3) L S (am_up m q jz v) Q) : AP K M pc L (.inl v :: .inr q :: S) m Q := fun X d r hk => aw_putI hd hw hc hj hz hb (k X d r hk)
theorem ap_iaload {q n : Nat} {i : Int} (hd : decode M.2.1 pc = .ok (.iaload, 1)) (hc : SH[q]? = some (.inr (.inl (0, n)))) (h0 : 0 ≤ i) (h1 : i < n) (hn : n < 2147483648)
    (k : AP K M (pc + 1) L (.inl (m q i) :: S) m Q) : AP K M pc L (.inl i :: .inr q :: S) m Q := fun X d r hk => aw_iaload hd hc h0 h1 hn (k X d r hk)
theorem ap_baload {q n : Nat} {i : Int} (hd : decode M.2.1 pc = .ok (.baload, 1)) (hc : SH[q]? = some (.inr (.inl (1, n)))) (h0 : 0 ≤ i) (h1 : i < n) (hn : n < 2147483648)
    (k : AP K M (pc + 1) L (.inl (m q i) :: S) m Q) : AP K M pc L (.inl i :: .inr q :: S) m Q := fun X d r hk => aw_baload hd hc h0 h1 hn (k X d r hk)
theorem ap_caload {q n : Nat} {i : Int} (hd : decode M.2.1 pc = .ok (.caload, 1)) (hc : SH[q]? = some (.inr (.inl (2, n)))) (h0 : 0 ≤ i) (h1 : i < n) (hn : n < 2147483648)
    (k : AP K M (pc + 1) L (.inl (m q i) :: S) m Q) : AP K M pc L (.inl i :: .inr q :: S) m Q := fun X d r hk => aw_caload hd hc h0 h1 hn (k X d r hk)
theorem ap_iastore {q n : Nat} {i v : Int} (hd : decode M.2.1 pc = .ok (.iastore, 1)) (hc : SH[q]? = some (.inr (.inl (0, n)))) (h0 : 0 ≤ i) (h1 : i < n) (hn : n < 2147483648) 
    (k : AP K M (pc + 1) L S (am_up m q i v) Q) : AP K M pc L (.inl v :: .inl i :: .inr q :: S) m Q := fun X d r hk => aw_iastore hd hc h0 h1 hn  (k X d r hk)
theorem ap_bastore {q n : Nat} {i v : Int} (hd : decode M.2.1 pc = .ok (.bastore, 1)) (hc : SH[q]? = some (.inr (.inl (1, n)))) (h0 : 0 ≤ i) (h1 : i < n) (hn : n < 2147483648) (hv : v = 0 ∨ v = 1)
    (k : AP K M (pc + 1) L S (am_up m q i v) Q) : AP K M pc L (.inl v :: .inl i :: .inr q :: S) m Q := fun X d r hk => aw_bastore hd hc h0 h1 hn hv (k X d r hk)
theorem ap_castore {q n : Nat} {i v : Int} (hd : decode M.2.1 pc = .ok (.castore, 1)) (hc : SH[q]? = some (.inr (.inl (2, n)))) (h0 : 0 ≤ i) (h1 : i < n) (hn : n < 2147483648) (hv0 : 0 ≤ v) (hv1 : v < 65536)
    (k : AP K M (pc + 1) L S (am_up m q i v) Q) : AP K M pc L (.inl v :: .inl i :: .inr q :: S) m Q := fun X d r hk => aw_castore hd hc h0 h1 hn hv0 hv1 (k X d r hk)
theorem ap_aaload {q r : Nat} {i : Int} {rs : List (Option Nat)} (hd : decode M.2.1 pc = .ok (.aaload, 1)) (hc : SH[q]? = some (.inr (.inr rs))) (h0 : 0 ≤ i) (hr : rs[i.toNat]? = some (some r)) (hn : rs.length < 2147483648)
    (k : AP K M (pc + 1) L (.inr r :: S) m Q) : AP K M pc L (.inl i :: .inr q :: S) m Q := fun X d r hk => aw_aaload hd hc h0 hr hn (k X d r hk)
theorem ap_alen {q t n : Nat} (hd : decode M.2.1 pc = .ok (.arraylength, 1)) (hc : SH[q]? = some (.inr (.inl (t, n)))) (ht : t < 3)
    (k : AP K M (pc + 1) L (.inl (n : Int) :: S) m Q) : AP K M pc L (.inr q :: S) m Q := fun X d r hk => aw_alen hd hc ht (k X d r hk)
theorem ap_sld1001 {i : Int} (hd : decode M.2.1 pc = .ok (.iaload, 1)) (h0 : 0 ≤ i) (h1 : i < 3)
    (k : AP K M (pc + 1) L (.inl (sLeast i.toNat).toInt :: S) m Q) : AP K M pc L (.inl i :: .inr 1001 :: S) m Q := fun X d r hk => aw_sld1001 hd h0 h1 (k X d r hk)
theorem ap_gets1001 {idx : Nat} (hd : decode M.2.1 pc = .ok (.getstatic idx, 3)) (hw : Cond.fieldLink M.1.cls idx RX8 "LEAST_SETTING" "[I" ∈ GW)
    (k : AP K M (pc + 3) L (.inr 1001 :: S) m Q) : AP K M pc L S m Q := fun X d r hk => aw_gets1001 hd hw (k X d r hk)
theorem ap_sld1002 {i : Int} (hd : decode M.2.1 pc = .ok (.iaload, 1)) (h0 : 0 ≤ i) (h1 : i < 3)
    (k : AP K M (pc + 1) L (.inl (sGreat i.toNat).toInt :: S) m Q) : AP K M pc L (.inl i :: .inr 1002 :: S) m Q := fun X d r hk => aw_sld1002 hd h0 h1 (k X d r hk)
theorem ap_gets1002 {idx : Nat} (hd : decode M.2.1 pc = .ok (.getstatic idx, 3)) (hw : Cond.fieldLink M.1.cls idx RX8 "GREATEST_SETTING" "[I" ∈ GW)
    (k : AP K M (pc + 3) L (.inr 1002 :: S) m Q) : AP K M pc L S m Q := fun X d r hk => aw_gets1002 hd hw (k X d r hk)
theorem ap_ireturn {x : Int} (hd : decode M.2.1 pc = .ok (.ireturn, 1)) (ht : M.2.2.2 = some .int) (hq : Q (some x) m) : AP K M pc L [.inl x] m Q := fun X d r hk => aw_ireturn hd (Or.inl ht) SH_len SH_sl ⟨rfl, hq⟩
theorem ap_zreturn {x : Int} (hd : decode M.2.1 pc = .ok (.ireturn, 1)) (ht : M.2.2.2 = some .boolean) (hx : x = 0 ∨ x = 1) (hq : Q (some x) m) : AP K M pc L [.inl x] m Q := fun X d r hk => aw_ireturn hd (Or.inr ⟨ht, hx⟩) SH_len SH_sl ⟨rfl, hq⟩
theorem ap_return (hd : decode M.2.1 pc = .ok (.return_, 1)) (ht : M.2.2.2 = none) (hq : Q none m) : AP K M pc L [] m Q := fun X d r hk => aw_return hd ht SH_len SH_sl ⟨rfl, hq⟩
theorem ap_mmax {idx : Nat} {x y : Int} (hd : decode M.2.1 pc = .ok (.invokestatic idx, 3)) (hl : Cond.methodLink M.1.cls idx Lib.Math.max.name ∈ GW) (hw : Cond.static Lib.Math.max.name ∈ GW ∧ Cond.initialized "java/lang/Math" ∈ GW ∧ Cond.code Lib.Math.max.name Lib.Math.max.code 2 (some .int) ∈ GW) (hK : 1 ≤ K) (hS : S.length ≤ 20) (hx : rng x) (hy0 : rng y)
    (k : AP K M (pc + 3) L (.inl (max x y) :: S) m Q) : AP K M pc L (.inl y :: .inl x :: S) m Q := fun X d r hk => aw_mmax hd hl hw (rk1 hk hK).1 (Nat.le_trans (Nat.add_le_add_right hS 13) (Nat.le_trans (by decide) (rk1 hk hK).2)) hx hy0 (by rw [SH_len]; exact Nat.le_refl _) (by rw [SH_sl]; exact Nat.le_refl _) (k X d r hk)
theorem ap_mmin {idx : Nat} {x y : Int} (hd : decode M.2.1 pc = .ok (.invokestatic idx, 3)) (hl : Cond.methodLink M.1.cls idx Lib.Math.min.name ∈ GW) (hw : Cond.static Lib.Math.min.name ∈ GW ∧ Cond.initialized "java/lang/Math" ∈ GW ∧ Cond.code Lib.Math.min.name Lib.Math.min.code 2 (some .int) ∈ GW) (hK : 1 ≤ K) (hS : S.length ≤ 20) (hx : rng x) (hy0 : rng y)
    (k : AP K M (pc + 3) L (.inl (min x y) :: S) m Q) : AP K M pc L (.inl y :: .inl x :: S) m Q := fun X d r hk => aw_mmin hd hl hw (rk1 hk hK).1 (Nat.le_trans (Nat.add_le_add_right hS 13) (Nat.le_trans (by decide) (rk1 hk hK).2)) hx hy0 (by rw [SH_len]; exact Nat.le_refl _) (by rw [SH_sl]; exact Nat.le_refl _) (k X d r hk)
theorem ap_mabs {idx : Nat} {x : Int} (hd : decode M.2.1 pc = .ok (.invokestatic idx, 3)) (hl : Cond.methodLink M.1.cls idx Lib.Math.abs.name ∈ GW) (hw : Cond.static Lib.Math.abs.name ∈ GW ∧ Cond.initialized "java/lang/Math" ∈ GW ∧ Cond.code Lib.Math.abs.name Lib.Math.abs.code 1 (some .int) ∈ GW) (hK : 1 ≤ K) (hS : S.length ≤ 20) (hx : rng x)
    (k : AP K M (pc + 3) L (.inl (if 0 ≤ x then x else -x) :: S) m Q) : AP K M pc L (.inl x :: S) m Q := fun X d r hk => aw_mabs hd hl hw (rk1 hk hK).1 (Nat.le_trans (Nat.add_le_add_right hS 13) (Nat.le_trans (by decide) (rk1 hk hK).2)) hx (by rw [SH_len]; exact Nat.le_refl _) (by rw [SH_sl]; exact Nat.le_refl _) (k X d r hk)
theorem ap_copy {idx q0 q1 n0' n1' : Nat} {sp dp n : Int} (hd : decode M.2.1 pc = .ok (.invokestatic idx, 3)) (hl : Cond.methodLink M.1.cls idx arraycopyName ∈ GW) (hw : Cond.native arraycopyName ∈ GW ∧ Cond.static arraycopyName ∈ GW ∧ Cond.initialized "java/lang/System" ∈ GW) (hK : 1 ≤ K) (hS : S.length ≤ 18)
    (hc0 : SH[q0]? = some (.inr (.inl (0, n0')))) (hc1 : SH[q1]? = some (.inr (.inl (0, n1')))) (h1 : 0 ≤ sp) (h2 : 0 ≤ dp) (h3 : 0 ≤ n) (h4 : sp + n ≤ n0') (h5 : dp + n ≤ n1') (hs0 : n0' < 2147483648) (hs1 : n1' < 2147483648)
    (k : AP K M (pc + 3) L S (am_cpy m q0 q1 sp dp n) Q) : AP K M pc L (.inl n :: .inl dp :: .inr q1 :: .inl sp :: .inr q0 :: S) m Q := fun X d r hk => aw_copy hd hl hw (rk1 hk hK).1 (by rw [nfw]; exact Nat.le_trans (Nat.add_le_add_right hS 18) (rk1 hk hK).2) hc0 hc1 h1 h2 h3 h4 h5 hs0 hs1 (k X d r hk)
theorem rk_call {K K' d r ml : Nat} (hk : rk K d r) (hK : K' + 1 ≤ K) (hm : ml ≤ 17) : rk K' (d - 1) (r - (19 + ml)) ∧ 1 ≤ d ∧ 19 + ml ≤ r := by
  obtain ⟨h1, h2⟩ := hk
  exact ⟨⟨by omega, by omega⟩, by omega, by omega⟩
theorem ap_invV {idx ci n q K' : Nat} {M' : MI} {av rest : List AV} {fs : List ShF} {Q' : Option Int → AM → Prop} (hd : decode M.2.1 pc = .ok (.invokevirtual idx, 3)) (hb : aMV M.1.cls idx M' ci n) (hc : SH[q]? = some (.inl (ci, fs))) (hM : CS K' M' (.inr q :: av) m Q') (hS : S = av.reverse ++ .inr q :: rest) (hn : av.length = n) (hrest : rest.length ≤ 8) (hK : K' + 1 ≤ K) (hml : M'.2.2.1 ≤ 17)
    (kk : ∀ v m', Q' v m' → AP K M (pc + 3) L (v.toList.map .inl ++ rest) m' Q) : AP K M pc L S m Q := fun X d r hk => by
  obtain ⟨r1, r2, r3⟩ := rk_call hk hK hml
  refine aw_invV hd hb hc hS hn hrest (hM X _ _ r1) r2 r3 (by rw [SH_len]; decide) (aKeep0 _ _ _) (Nat.le_of_eq SH_len) (Nat.le_of_eq SH_sl) (fun v h' hq _ _ => ?_)
  obtain ⟨sh', m'⟩ := h'
  obtain ⟨e, hq⟩ := hq
  simp only at e hq
  subst e
  exact kk v m' hq X d r hk
theorem ap_invS {idx n K' : Nat} {M' : MI} {av rest : List AV} {Q' : Option Int → AM → Prop} (hd : decode M.2.1 pc = .ok (.invokestatic idx, 3)) (hb : aMS M.1.cls idx M' n) (hM : CS K' M' av m Q') (hS : S = av.reverse ++ rest) (hn : av.length = n) (hrest : rest.length ≤ 8) (hK : K' + 1 ≤ K) (hml : M'.2.2.1 ≤ 17)
    (kk : ∀ v m', Q' v m' → AP K M (pc + 3) L (v.toList.map .inl ++ rest) m' Q) : AP K M pc L S m Q := fun X d r hk => by
  obtain ⟨r1, r2, r3⟩ := rk_call hk hK hml
  refine aw_invS hd hb hS hn hrest (hM X _ _ r1) r2 r3 (by rw [SH_len]; decide) (aKeep0 _ _ _) (Nat.le_of_eq SH_len) (Nat.le_of_eq SH_sl) (fun v h' hq _ _ => ?_)
  obtain ⟨sh', m'⟩ := h'
  obtain ⟨e, hq⟩ := hq
  simp only at e hq
  subst e
  exact kk v m' hq X d r hk
end AP

