
def isPal (q me bu ex : Nat) : Prop := (me = q + 1 ∧ bu = q + 2 ∧ ex = q + 3) ∧ SH[q]? = some (.inl (3, [some (some me), some (some bu), some (some ex), none])) ∧ SH[me]? = some (.inr (.inl (0, 12))) ∧ SH[bu]? = some (.inr (.inl (0, 12))) ∧ SH[ex]? = some (.inr (.inl (0, 12)))
theorem isPal.n {q me bu ex : Nat} (h : isPal q me bu ex) : me = q + 1 ∧ bu = q + 2 ∧ ex = q + 3 := h.1
theorem isPal.o {q me bu ex : Nat} (h : isPal q me bu ex) : SH[q]? = some (.inl (3, [some (some me), some (some bu), some (some ex), none])) := h.2.1
theorem isPal.a {q me bu ex : Nat} (h : isPal q me bu ex) : SH[me]? = some (.inr (.inl (0, 12))) := h.2.2.1
theorem isPal.b {q me bu ex : Nat} (h : isPal q me bu ex) : SH[bu]? = some (.inr (.inl (0, 12))) := h.2.2.2.1
theorem isPal.c {q me bu ex : Nat} (h : isPal q me bu ex) : SH[ex]? = some (.inr (.inl (0, 12))) := h.2.2.2.2
def isWis (w n c : Nat) : Prop := (n = w + 1 ∧ c = w + 2) ∧ SH[w]? = some (.inl (7, [some (some n), some (some c)])) ∧ SH[n]? = some (.inr (.inl (0, 6))) ∧ SH[c]? = some (.inr (.inl (0, 18)))
theorem isWis.n {w n c : Nat} (h : isWis w n c) : n = w + 1 ∧ c = w + 2 := h.1
theorem isWis.o {w n c : Nat} (h : isWis w n c) : SH[w]? = some (.inl (7, [some (some n), some (some c)])) := h.2.1
theorem isWis.a {w n c : Nat} (h : isWis w n c) : SH[n]? = some (.inr (.inl (0, 6))) := h.2.2.1
theorem isWis.b {w n c : Nat} (h : isWis w n c) : SH[c]? = some (.inr (.inl (0, 18))) := h.2.2.2
def isBn (b : Nat) : Prop := SH[b]? = some (.inl (0, [some (some (b + 1)), some (some (b + 5)), some (some (b + 11)), some (some (b + 14)), some (some (b + 15))])) ∧ isPal (b + 1) (b + 2) (b + 3) (b + 4) ∧ isPlate (b + 5) (b + 6) (b + 7) (b + 8) (b + 9) (b + 10) ∧ isWis (b + 11) (b + 12) (b + 13) ∧ SH[b + 14]? = some (.inr (.inl (0, 3))) ∧ SH[b + 15]? = some (.inr (.inl (0, 9)))
theorem isBn.o {b : Nat} (h : isBn b) : SH[b]? = some (.inl (0, [some (some (b + 1)), some (some (b + 5)), some (some (b + 11)), some (some (b + 14)), some (some (b + 15))])) := h.1
theorem isBn.p {b : Nat} (h : isBn b) : isPal (b + 1) (b + 2) (b + 3) (b + 4) := h.2.1
theorem isBn.l {b : Nat} (h : isBn b) : isPlate (b + 5) (b + 6) (b + 7) (b + 8) (b + 9) (b + 10) := h.2.2.1
theorem isBn.w {b : Nat} (h : isBn b) : isWis (b + 11) (b + 12) (b + 13) := h.2.2.2.1
theorem isBn.s {b : Nat} (h : isBn b) : SH[b + 14]? = some (.inr (.inl (0, 3))) := h.2.2.2.2.1
theorem isBn.t {b : Nat} (h : isBn b) : SH[b + 15]? = some (.inr (.inl (0, 9))) := h.2.2.2.2.2
theorem bn_1 : isBn 1 := ⟨rfl, ⟨⟨rfl, rfl, rfl⟩, rfl, rfl, rfl, rfl⟩, ⟨⟨rfl, rfl, rfl, rfl, rfl⟩, rfl, rfl, rfl, rfl, rfl, rfl⟩, ⟨⟨rfl, rfl⟩, rfl, rfl, rfl⟩, rfl, rfl⟩
theorem bn_19 : isBn 19 := ⟨rfl, ⟨⟨rfl, rfl, rfl⟩, rfl, rfl, rfl, rfl⟩, ⟨⟨rfl, rfl, rfl, rfl, rfl⟩, rfl, rfl, rfl, rfl, rfl, rfl⟩, ⟨⟨rfl, rfl⟩, rfl, rfl, rfl⟩, rfl, rfl⟩
theorem bn_35 : isBn 35 := ⟨rfl, ⟨⟨rfl, rfl, rfl⟩, rfl, rfl, rfl, rfl⟩, ⟨⟨rfl, rfl, rfl, rfl, rfl⟩, rfl, rfl, rfl, rfl, rfl, rfl⟩, ⟨⟨rfl, rfl⟩, rfl, rfl, rfl⟩, rfl, rfl⟩
theorem bn_51 : isBn 51 := ⟨rfl, ⟨⟨rfl, rfl, rfl⟩, rfl, rfl, rfl, rfl⟩, ⟨⟨rfl, rfl, rfl, rfl, rfl⟩, rfl, rfl, rfl, rfl, rfl, rfl⟩, ⟨⟨rfl, rfl⟩, rfl, rfl, rfl⟩, rfl, rfl⟩
theorem bn_67 : isBn 67 := ⟨rfl, ⟨⟨rfl, rfl, rfl⟩, rfl, rfl, rfl, rfl⟩, ⟨⟨rfl, rfl, rfl, rfl, rfl⟩, rfl, rfl, rfl, rfl, rfl, rfl⟩, ⟨⟨rfl, rfl⟩, rfl, rfl, rfl⟩, rfl, rfl⟩

theorem cp_at {m : AM} {q0 q1 : Nat} {n : Int} {k : Nat} {j : Int} (hk : k = q1) (h0 : 0 ≤ j) (h1 : j < n) : am_cpy m q0 q1 0 0 n k j = m q0 j := by
  subst hk
  have e : am_cpy m q0 k 0 0 n k j = m q0 (0 + (j - 0)) := if_pos ⟨rfl, h0, by omega⟩
  rw [e, Int.sub_zero, Int.zero_add]
theorem cp_ne {m : AM} {q0 q1 : Nat} {sp dp n : Int} {k : Nat} {j : Int} (hk : k ≠ q1) : am_cpy m q0 q1 sp dp n k j = m k j := if_neg (fun z => hk z.1)
/-- the first n places of a cell are those of another one -/
def same (m m' : AM) (k k0 : Nat) (n : Int) : Prop := ∀ j : Int, 0 ≤ j → j < n → m' k j = m k0 j
set_option maxHeartbeats 4000000 in
theorem qX8_copyRow (q0 q1 N : Nat) (m : AM) (hc0 : SH[q0]? = some (.inr (.inl (0, N)))) (hc1 : SH[q1]? = some (.inr (.inl (0, N)))) (hN : N ≤ 5000) : CS 1 mX8_copyRow [.inr q0, .inr q1] m (fun v m' => v = none ∧ m' = am_cpy m q0 q1 0 0 (N : Int)) := by
  refine cs_of (by decide +kernel) (Nat.le_of_ble_eq_true rfl) rfl ?_
  refine ap_ald_0 (pc := 0) dX8_copyRow_0 ?_
  refine ap_const (pc := 1) dX8_copyRow_1 ?_
  refine ap_ald_1 (pc := 2) dX8_copyRow_2 ?_
  refine ap_const (pc := 3) dX8_copyRow_3 ?_
  refine ap_ald_0 (pc := 4) dX8_copyRow_4 ?_
  refine ap_alen (pc := 5) dX8_copyRow_5 hc0 (by decide) ?_
  refine ap_ald_1 (pc := 6) dX8_copyRow_6 ?_
  refine ap_alen (pc := 7) dX8_copyRow_7 hc1 (by decide) ?_
  refine ap_mmin (pc := 8) dX8_copyRow_8 jl_RX8_261 jw_min (by decide) (Nat.le_of_ble_eq_true rfl) ⟨by omega, by omega⟩ ⟨by omega, by omega⟩ ?_
  refine ap_copy (pc := 11) dX8_copyRow_11 jl_RX8_266 jw_copy (by decide) (Nat.le_of_ble_eq_true rfl) hc0 hc1 (by omega) (by omega) (by omega) (by omega) (by omega) (by omega) (by omega) ?_
  exact ap_return (pc := 14) dX8_copyRow_14 rfl ⟨rfl, by rw [Int.min_self]⟩

set_option maxHeartbeats 4000000 in
theorem qX3_copyFrom {q me bu ex q2 me2 bu2 ex2 : Nat} (hq : isPal q me bu ex) (hq2 : isPal q2 me2 bu2 ex2) (m : AM) (hd : q + 4 ≤ q2 ∨ q2 + 4 ≤ q) : CS 2 mX3_copyFrom [.inr q, .inr q2] m (fun v m' => v = none ∧ (same m m' me me2 12 ∧ same m m' bu bu2 12 ∧ same m m' ex ex2 12 ∧ m' q 3 = m q2 3) ∧ ∀ (k : Nat) (j : Int), (k < q ∨ q + 4 ≤ k) → m' k j = m k j) := by
  refine cs_of (by decide +kernel) (Nat.le_of_ble_eq_true rfl) rfl ?_
  have hn := hq.n
  have hn2 := hq2.n
  refine ap_ald_1 (pc := 0) dX3_copyFrom_0 ?_
  refine ap_getR (pc := 1) dX3_copyFrom_1 fl_RX3_9 hq2.o rfl ?_
  refine ap_ald_0 (pc := 4) dX3_copyFrom_4 ?_
  refine ap_getR (pc := 5) dX3_copyFrom_5 fl_RX3_9 hq.o rfl ?_
  refine ap_invS (pc := 8) dX3_copyFrom_8 ms_RX3_25 (av := [_, _]) (rest := []) (qX8_copyRow _ _ _ _ hq2.a hq.a (by decide)) rfl rfl (Nat.le_of_ble_eq_true rfl) (by decide) (by decide) ?_
  rintro _ _ ⟨rfl, rfl⟩
  refine ap_ald_1 (pc := 11) dX3_copyFrom_11 ?_
  refine ap_getR (pc := 12) dX3_copyFrom_12 fl_RX3_15 hq2.o rfl ?_
  refine ap_ald_0 (pc := 15) dX3_copyFrom_15 ?_
  refine ap_getR (pc := 16) dX3_copyFrom_16 fl_RX3_15 hq.o rfl ?_
  refine ap_invS (pc := 19) dX3_copyFrom_19 ms_RX3_25 (av := [_, _]) (rest := []) (qX8_copyRow _ _ _ _ hq2.b hq.b (by decide)) rfl rfl (Nat.le_of_ble_eq_true rfl) (by decide) (by decide) ?_
  rintro _ _ ⟨rfl, rfl⟩
  refine ap_ald_1 (pc := 22) dX3_copyFrom_22 ?_
  refine ap_getR (pc := 23) dX3_copyFrom_23 fl_RX3_18 hq2.o rfl ?_
  refine ap_ald_0 (pc := 26) dX3_copyFrom_26 ?_
  refine ap_getR (pc := 27) dX3_copyFrom_27 fl_RX3_18 hq.o rfl ?_
  refine ap_invS (pc := 30) dX3_copyFrom_30 ms_RX3_25 (av := [_, _]) (rest := []) (qX8_copyRow _ _ _ _ hq2.c hq.c (by decide)) rfl rfl (Nat.le_of_ble_eq_true rfl) (by decide) (by decide) ?_
  rintro _ _ ⟨rfl, rfl⟩
  refine ap_ald_0 (pc := 33) dX3_copyFrom_33 ?_
  refine ap_ald_1 (pc := 34) dX3_copyFrom_34 ?_
  refine ap_getI (pc := 35) (jz := 3) dX3_copyFrom_35 fl_RX3_21 hq2.o rfl rfl ?_
  try simp (disch := omega) only [am_same, am_k, am_j]
  refine ap_putI (pc := 38) (jz := 3) dX3_copyFrom_38 fn_RX3_21 hq.o rfl rfl (fun z => by cases z) ?_
  exact ap_return (pc := 41) dX3_copyFrom_41 rfl ⟨rfl, ⟨fun j a b => by simp (disch := omega) only [am_same, am_k, am_j, cp_at, cp_ne], fun j a b => by simp (disch := omega) only [am_same, am_k, am_j, cp_at, cp_ne], fun j a b => by simp (disch := omega) only [am_same, am_k, am_j, cp_at, cp_ne], by simp (disch := omega) only [am_same, am_k, am_j, cp_at, cp_ne]⟩, fun k j hk => by simp (disch := omega) only [am_same, am_k, am_j, cp_at, cp_ne]⟩

set_option maxHeartbeats 4000000 in
theorem qX5_copyFrom {p sz co st so cr p2 sz2 co2 st2 so2 cr2 : Nat} (hp : isPlate p sz co st so cr) (hp2 : isPlate p2 sz2 co2 st2 so2 cr2) (m : AM) (hd : p + 6 ≤ p2 ∨ p2 + 6 ≤ p) : CS 2 mX5_copyFrom [.inr p, .inr p2] m (fun v m' => v = none ∧ (same m m' sz sz2 7 ∧ same m m' co co2 21 ∧ same m m' st st2 21 ∧ same m m' so so2 21 ∧ same m m' cr cr2 6) ∧ ∀ (k : Nat) (j : Int), (k < p ∨ p + 6 ≤ k) → m' k j = m k j) := by
  refine cs_of (by decide +kernel) (Nat.le_of_ble_eq_true rfl) rfl ?_
  have hn := hp.n
  have hn2 := hp2.n
  refine ap_ald_1 (pc := 0) dX5_copyFrom_0 ?_
  refine ap_getR (pc := 1) dX5_copyFrom_1 fl_RX5_9 hp2.o rfl ?_
  refine ap_ald_0 (pc := 4) dX5_copyFrom_4 ?_
  refine ap_getR (pc := 5) dX5_copyFrom_5 fl_RX5_9 hp.o rfl ?_
  refine ap_invS (pc := 8) dX5_copyFrom_8 ms_RX5_65 (av := [_, _]) (rest := []) (qX8_copyRow _ _ _ _ hp2.a hp.a (by decide)) rfl rfl (Nat.le_of_ble_eq_true rfl) (by decide) (by decide) ?_
  rintro _ _ ⟨rfl, rfl⟩
  refine ap_ald_1 (pc := 11) dX5_copyFrom_11 ?_
  refine ap_getR (pc := 12) dX5_copyFrom_12 fl_RX5_15 hp2.o rfl ?_
  refine ap_ald_0 (pc := 15) dX5_copyFrom_15 ?_
  refine ap_getR (pc := 16) dX5_copyFrom_16 fl_RX5_15 hp.o rfl ?_
  refine ap_invS (pc := 19) dX5_copyFrom_19 ms_RX5_65 (av := [_, _]) (rest := []) (qX8_copyRow _ _ _ _ hp2.b hp.b (by decide)) rfl rfl (Nat.le_of_ble_eq_true rfl) (by decide) (by decide) ?_
  rintro _ _ ⟨rfl, rfl⟩
  refine ap_ald_1 (pc := 22) dX5_copyFrom_22 ?_
  refine ap_getR (pc := 23) dX5_copyFrom_23 fl_RX5_18 hp2.o rfl ?_
  refine ap_ald_0 (pc := 26) dX5_copyFrom_26 ?_
  refine ap_getR (pc := 27) dX5_copyFrom_27 fl_RX5_18 hp.o rfl ?_
  refine ap_invS (pc := 30) dX5_copyFrom_30 ms_RX5_65 (av := [_, _]) (rest := []) (qX8_copyRow _ _ _ _ hp2.c hp.c (by decide)) rfl rfl (Nat.le_of_ble_eq_true rfl) (by decide) (by decide) ?_
  rintro _ _ ⟨rfl, rfl⟩
  refine ap_ald_1 (pc := 33) dX5_copyFrom_33 ?_
  refine ap_getR (pc := 34) dX5_copyFrom_34 fl_RX5_21 hp2.o rfl ?_
  refine ap_ald_0 (pc := 37) dX5_copyFrom_37 ?_
  refine ap_getR (pc := 38) dX5_copyFrom_38 fl_RX5_21 hp.o rfl ?_
  refine ap_invS (pc := 41) dX5_copyFrom_41 ms_RX5_65 (av := [_, _]) (rest := []) (qX8_copyRow _ _ _ _ hp2.d hp.d (by decide)) rfl rfl (Nat.le_of_ble_eq_true rfl) (by decide) (by decide) ?_
  rintro _ _ ⟨rfl, rfl⟩
  refine ap_ald_1 (pc := 44) dX5_copyFrom_44 ?_
  refine ap_getR (pc := 45) dX5_copyFrom_45 fl_RX5_24 hp2.o rfl ?_
  refine ap_ald_0 (pc := 48) dX5_copyFrom_48 ?_
  refine ap_getR (pc := 49) dX5_copyFrom_49 fl_RX5_24 hp.o rfl ?_
  refine ap_invS (pc := 52) dX5_copyFrom_52 ms_RX5_65 (av := [_, _]) (rest := []) (qX8_copyRow _ _ _ _ hp2.e hp.e (by decide)) rfl rfl (Nat.le_of_ble_eq_true rfl) (by decide) (by decide) ?_
  rintro _ _ ⟨rfl, rfl⟩
  exact ap_return (pc := 55) dX5_copyFrom_55 rfl ⟨rfl, ⟨fun j a b => by simp (disch := omega) only [am_same, am_k, am_j, cp_at, cp_ne], fun j a b => by simp (disch := omega) only [am_same, am_k, am_j, cp_at, cp_ne], fun j a b => by simp (disch := omega) only [am_same, am_k, am_j, cp_at, cp_ne], fun j a b => by simp (disch := omega) only [am_same, am_k, am_j, cp_at, cp_ne], fun j a b => by simp (disch := omega) only [am_same, am_k, am_j, cp_at, cp_ne]⟩, fun k j hk => by simp (disch := omega) only [am_same, am_k, am_j, cp_at, cp_ne]⟩

set_option maxHeartbeats 4000000 in
theorem qX7_copyFrom {w n c w2 n2 c2 : Nat} (hw : isWis w n c) (hw2 : isWis w2 n2 c2) (m : AM) (hd : w + 3 ≤ w2 ∨ w2 + 3 ≤ w) : CS 2 mX7_copyFrom [.inr w, .inr w2] m (fun v m' => v = none ∧ (same m m' n n2 6 ∧ same m m' c c2 18) ∧ ∀ (k : Nat) (j : Int), (k < w ∨ w + 3 ≤ k) → m' k j = m k j) := by
  refine cs_of (by decide +kernel) (Nat.le_of_ble_eq_true rfl) rfl ?_
  have hn := hw.n
  have hn2 := hw2.n
  refine ap_ald_1 (pc := 0) dX7_copyFrom_0 ?_
  refine ap_getR (pc := 1) dX7_copyFrom_1 fl_RX7_9 hw2.o rfl ?_
  refine ap_ald_0 (pc := 4) dX7_copyFrom_4 ?_
  refine ap_getR (pc := 5) dX7_copyFrom_5 fl_RX7_9 hw.o rfl ?_
  refine ap_invS (pc := 8) dX7_copyFrom_8 ms_RX7_22 (av := [_, _]) (rest := []) (qX8_copyRow _ _ _ _ hw2.a hw.a (by decide)) rfl rfl (Nat.le_of_ble_eq_true rfl) (by decide) (by decide) ?_
  rintro _ _ ⟨rfl, rfl⟩
  refine ap_ald_1 (pc := 11) dX7_copyFrom_11 ?_
  refine ap_getR (pc := 12) dX7_copyFrom_12 fl_RX7_15 hw2.o rfl ?_
  refine ap_ald_0 (pc := 15) dX7_copyFrom_15 ?_
  refine ap_getR (pc := 16) dX7_copyFrom_16 fl_RX7_15 hw.o rfl ?_
  refine ap_invS (pc := 19) dX7_copyFrom_19 ms_RX7_22 (av := [_, _]) (rest := []) (qX8_copyRow _ _ _ _ hw2.b hw.b (by decide)) rfl rfl (Nat.le_of_ble_eq_true rfl) (by decide) (by decide) ?_
  rintro _ _ ⟨rfl, rfl⟩
  exact ap_return (pc := 22) dX7_copyFrom_22 rfl ⟨rfl, ⟨fun j a b => by simp (disch := omega) only [am_same, am_k, am_j, cp_at, cp_ne], fun j a b => by simp (disch := omega) only [am_same, am_k, am_j, cp_at, cp_ne]⟩, fun k j hk => by simp (disch := omega) only [am_same, am_k, am_j, cp_at, cp_ne]⟩

