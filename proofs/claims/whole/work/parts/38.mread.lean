
theorem nx_v {c a : Int} : (c = 59 → nxt c a = 0) ∧ (c ≠ 59 → nxt c a = a + 1) := ⟨fun h => if_pos h, fun h => if_neg h⟩
set_option maxHeartbeats 4000000 in
theorem qX9_reads0 (T : Int → Int) (l K : Int) (m : AM) (hn : 0 ≤ l ∧ l ≤ 80) (h5 : m 100 5 = l) (hT : ∀ j : Int, 0 ≤ j → j < l → m 104 j = T j ∧ 32 ≤ T j ∧ T j ≤ 126) (hK : 0 ≤ K ∧ K ≤ 12) (hmK : m 101 0 = K) : CS 2 mX9_reads [.inr 100, .inl 0] m (fun v m' => v = some (if (FR T K l).2 = 0 then 0 else 1) ∧ m' 100 9 = (FR T K l).1 ∧ ((FR T K l).2 ≠ 0 → m' 100 10 = (FR T K l).2) ∧ ∀ (k : Nat) (j : Int), (k ≠ 100 ∨ j < 9) → m' k j = m k j) := by
  refine cs_of (by decide +kernel) (Nat.le_of_ble_eq_true rfl) rfl ?_
  have h9 : True := trivial
  have hl : m 100 5 = l := h5
  have hc : True := trivial
  refine ap_const (pc := 0) dX9_reads_0 ?_
  refine ap_ist_2 (pc := 1) dX9_reads_1 (by decide) ?_
  refine ap_const (pc := 2) dX9_reads_2 ?_
  refine ap_ist_3 (pc := 3) dX9_reads_3 (by decide) ?_
  refine ap_const (pc := 4) dX9_reads_4 ?_
  refine ap_ist_4 (pc := 5) dX9_reads_5 (by decide) ?_
  refine ap_ald_0 (pc := 7) dX9_reads_7 ?_
  refine ap_const (pc := 8) dX9_reads_8 ?_
  refine ap_putI (pc := 9) (jz := 11) dX9_reads_9 fn_RX9_143 sh_100 rfl rfl (fun z => by cases z) ?_
  refine ap_ald_0 (pc := 12) dX9_reads_12 ?_
  refine ap_const (pc := 13) dX9_reads_13 ?_
  refine ap_putI (pc := 14) (jz := 9) dX9_reads_14 fn_RX9_146 sh_100 rfl rfl (fun z => by cases z) ?_
  refine AP.bk (up_rec l (fun i => ∀ (a s f many : Int) (mi : AM), 0 ≤ a ∧ a ≤ 5 → ((s = 0 ∧ a = 0) ∨ (s = 1 ∧ a = 1) ∨ (s = 2 ∧ 2 ≤ a)) → ((0 ≤ many ∧ many ≤ 3) ∧ (a = 1 → many = 0) ∧ (2 ≤ a → many = a - 2)) → FR T K l = fl T K l (l.toNat - i) i a → (∀ (k : Nat) (j : Int), (k ≠ 100 ∨ j < 9) → mi k j = m k j) → mi 100 9 = (i : Int) → AP 2 mX9_reads 17 [some (.inr 100), some (.inl 0), some (.inl s), some (.inl f), some (.inl many), none, none, none] [] mi (fun v m' => v = some (if (FR T K l).2 = 0 then 0 else 1) ∧ m' 100 9 = (FR T K l).1 ∧ ((FR T K l).2 ≠ 0 → m' 100 10 = (FR T K l).2) ∧ ∀ (k : Nat) (j : Int), (k ≠ 100 ∨ j < 9) → m' k j = m k j)) hn.1 (fun i hi ih a s f many mi u1 u2 u3 u4 u5 u6 => ?_) 0 0 0 0 _ ⟨by omega, by omega⟩ (by omega) (by omega) rfl (fun k j q => by rw [am_ne (by omega), am_ne (by omega)]) (by rw [am_same]; rfl)) ⟨rfl, rfl, rfl, rfl, rfl, trivial, trivial, trivial, trivial⟩ rfl
  have h9 : mi 100 9 = (i : Int) := u6
  have hl : mi 100 5 = l := by rw [u5 100 5 (by omega)]; exact h5
  have hc : True := trivial
  have hK0 : mi 101 0 = K := by rw [u5 101 0 (by omega)]; exact hmK
  refine ap_ald_0 (pc := 17) dX9_reads_17 ?_
  refine ap_getI (pc := 18) (jz := 9) dX9_reads_18 fl_RX9_146 sh_100 rfl rfl ?_
  try simp (disch := omega) only [am_same, am_k, am_j, h9, hl, hc]
  refine ap_ald_0 (pc := 21) dX9_reads_21 ?_
  refine ap_getI (pc := 22) (jz := 5) dX9_reads_22 fl_RX9_105 sh_100 rfl rfl ?_
  try simp (disch := omega) only [am_same, am_k, am_j, h9, hl, hc]
  refine ap_icmp_ge (pc := 25) 318 dX9_reads_25 rfl ⟨by omega, by omega⟩ ⟨by omega, by omega⟩ (fun c25 => ?_) (fun c25 => ?_)
  · skip
    refine ap_ald_0 (pc := 318) dX9_reads_318 ?_
    refine ap_const (pc := 319) dX9_reads_319 ?_
    refine ap_putI (pc := 320) (jz := 10) dX9_reads_320 fn_RX9_149 sh_100 rfl rfl (fun z => by cases z) ?_
    refine ap_ild_2 (pc := 323) dX9_reads_323 ?_
    refine ap_if_le (pc := 324) 331 dX9_reads_324 rfl ⟨by omega, by omega⟩ (fun c324 => ?_) (fun c324 => ?_)
    · skip
      refine ap_const (pc := 331) dX9_reads_331 ?_
      exact ap_zreturn (pc := 332) dX9_reads_332 rfl (by decide) ⟨by rw [u4, fl_end c25]; show some _ = some (if (if a = 0 then (0 : Int) else 4) = 0 then 0 else 1); simp (disch := omega) only [if_pos, if_neg], by rw [am_j (by omega), u4, fl_end c25]; show mi 100 9 = l; omega, fun q => by rw [am_same, u4, fl_end c25]; rw [u4, fl_end c25] at q; show 4 = if a = 0 then (0 : Int) else 4; by_cases e : a = 0; exact absurd (if_pos e) q; rw [if_neg e], fun k j q => by rw [am_ne (by omega)]; exact u5 k j q⟩
    · skip
      refine ap_const (pc := 327) dX9_reads_327 ?_
      refine ap_goto (pc := 328) 332 dX9_reads_328 rfl ?_
      exact ap_zreturn (pc := 332) dX9_reads_332 rfl (by decide) ⟨by rw [u4, fl_end c25]; show some _ = some (if (if a = 0 then (0 : Int) else 4) = 0 then 0 else 1); simp (disch := omega) only [if_pos, if_neg], by rw [am_j (by omega), u4, fl_end c25]; show mi 100 9 = l; omega, fun q => by rw [am_same, u4, fl_end c25]; rw [u4, fl_end c25] at q; show 4 = if a = 0 then (0 : Int) else 4; by_cases e : a = 0; exact absurd (if_pos e) q; rw [if_neg e], fun k j q => by rw [am_ne (by omega)]; exact u5 k j q⟩
  · skip
    have hq := hT i (by omega) c25
    have hc : mi 104 i = T i := by rw [u5 104 i (by omega)]; exact hq.1
    refine ap_ald_0 (pc := 28) dX9_reads_28 ?_
    refine ap_getR (pc := 29) dX9_reads_29 fl_RX9_19 sh_100 rfl ?_
    refine ap_ald_0 (pc := 32) dX9_reads_32 ?_
    refine ap_getI (pc := 33) (jz := 9) dX9_reads_33 fl_RX9_146 sh_100 rfl rfl ?_
    try simp (disch := omega) only [am_same, am_k, am_j, h9, hl, hc]
    refine ap_iaload (pc := 36) dX9_reads_36 sh_104 (by omega) (by omega) (by decide) ?_
    try simp (disch := omega) only [am_same, am_k, am_j, h9, hl, hc]
    refine ap_ist_5 (pc := 37) dX9_reads_37 (by decide) ?_
    have j63 : ∀ x : Int, ((x = 1 ∧ (2 ≤ a ∧ 97 ≤ T i ∧ T i ≤ 108)) ∨ (x = 0 ∧ ¬ (2 ≤ a ∧ 97 ≤ T i ∧ T i ≤ 108))) → AP 2 mX9_reads 63 [some (.inr 100), some (.inl 0), some (.inl s), some (.inl f), some (.inl many), some (.inl (T i)), some (.inl x), none] [] mi (fun v m' => v = some (if (FR T K l).2 = 0 then 0 else 1) ∧ m' 100 9 = (FR T K l).1 ∧ ((FR T K l).2 ≠ 0 → m' 100 10 = (FR T K l).2) ∧ ∀ (k : Nat) (j : Int), (k ≠ 100 ∨ j < 9) → m' k j = m k j) := by
      intro x hx
      have j118 : ∀ y : Int, ((y = 1 ∧ ((a = 0 ∧ 48 ≤ T i ∧ T i ≤ 53) ∨ (a = 1 ∧ T i = 61) ∨ (2 ≤ a ∧ (97 ≤ T i ∧ T i ≤ 108 ∨ T i = 59)))) ∨ (y = 0 ∧ ¬ ((a = 0 ∧ 48 ≤ T i ∧ T i ≤ 53) ∨ (a = 1 ∧ T i = 61) ∨ (2 ≤ a ∧ (97 ≤ T i ∧ T i ≤ 108 ∨ T i = 59))))) → AP 2 mX9_reads 118 [some (.inr 100), some (.inl 0), some (.inl s), some (.inl f), some (.inl many), some (.inl (T i)), some (.inl x), some (.inl y)] [] mi (fun v m' => v = some (if (FR T K l).2 = 0 then 0 else 1) ∧ m' 100 9 = (FR T K l).1 ∧ ((FR T K l).2 ≠ 0 → m' 100 10 = (FR T K l).2) ∧ ∀ (k : Nat) (j : Int), (k ≠ 100 ∨ j < 9) → m' k j = m k j) := by
        intro y hy
        have j165 : ∀ w : Int, w = rsn (T i) a K → AP 2 mX9_reads 165 [some (.inr 100), some (.inl 0), some (.inl s), some (.inl f), some (.inl many), some (.inl (T i)), some (.inl x), some (.inl y)] [.inl w, .inr 100] mi (fun v m' => v = some (if (FR T K l).2 = 0 then 0 else 1) ∧ m' 100 9 = (FR T K l).1 ∧ ((FR T K l).2 ≠ 0 → m' 100 10 = (FR T K l).2) ∧ ∀ (k : Nat) (j : Int), (k ≠ 100 ∨ j < 9) → m' k j = m k j) := by
          intro w hw
          refine ap_putI (pc := 165) (jz := 10) dX9_reads_165 fn_RX9_149 sh_100 rfl rfl (fun z => by cases z) ?_
          refine ap_ald_0 (pc := 168) dX9_reads_168 ?_
          refine ap_getI (pc := 169) (jz := 10) dX9_reads_169 fl_RX9_149 sh_100 rfl rfl ?_
          try simp (disch := omega) only [am_same, am_k, am_j, h9, hl, hc]
          refine ap_if_le (pc := 172) 177 dX9_reads_172 rfl (by have q := rsn_bd (T i) a K; constructor <;> omega) (fun c172 => ?_) (fun c172 => ?_)
          · skip
            have hz0 : rsn (T i) a K = 0 := by have q := rsn_bd (T i) a K; omega
            rcases kd_of u1 hz0 with z | z | z | z
            · skip
              obtain rfl : s = 0 := by omega
              obtain rfl : x = 0 := by omega
              have hnx : nxt (T i) a = 1 := by rw [nx_v.2 (by omega)]; omega
              refine ap_ild_2 (pc := 177) dX9_reads_177 ?_
              refine ap_if_ne (pc := 178) 190 dX9_reads_178 rfl ⟨by omega, by omega⟩ (fun c178 => absurd c178 (by decide)) (fun _ => ?_)
              refine ap_ild_5 (pc := 181) dX9_reads_181 ?_
              refine ap_bipush (pc := 183) dX9_reads_183 bp_48 ?_
              refine ap_isub (pc := 185) dX9_reads_185 ?_
              refine ap_ist_3 (pc := 186) dX9_reads_186 (by decide) ?_
              refine ap_const (pc := 187) dX9_reads_187 ?_
              refine ap_ist_4 (pc := 188) dX9_reads_188 (by decide) ?_
              refine ap_ild_6 (pc := 190) dX9_reads_190 ?_
              refine ap_if_eq (pc := 192) 198 dX9_reads_192 rfl ⟨by omega, by omega⟩ (fun _ => ?_) (fun c192 => absurd c192 (by decide))
              refine ap_ild_1 (pc := 198) dX9_reads_198 ?_
              refine ap_if_eq (pc := 199) 219 dX9_reads_199 rfl ⟨by omega, by omega⟩ (fun _ => ?_) (fun c199 => absurd c199 (by decide))
              refine ap_ild_1 (pc := 219) dX9_reads_219 ?_
              refine ap_if_eq (pc := 220) 260 dX9_reads_220 rfl ⟨by omega, by omega⟩ (fun _ => ?_) (fun c220 => absurd c220 (by decide))
              refine ap_ald_0 (pc := 260) dX9_reads_260 ?_
              refine ap_dup (pc := 261) dX9_reads_261 ?_
              refine ap_getI (pc := 262) (jz := 11) dX9_reads_262 fl_RX9_143 sh_100 rfl rfl ?_
              try simp (disch := omega) only [am_same, am_k, am_j, h9, hl, hc]
              refine ap_ild_5 (pc := 265) dX9_reads_265 ?_
              refine ap_bipush (pc := 267) dX9_reads_267 bp_59 ?_
              refine ap_icmp_ne (pc := 269) 276 dX9_reads_269 rfl (Or.inr ⟨⟨by omega, by omega⟩, ⟨by omega, by omega⟩⟩) (fun c269 => ?_) (fun c269 => ?_)
              · skip
                refine ap_const (pc := 276) dX9_reads_276 ?_
                refine ap_iadd (pc := 277) dX9_reads_277 ?_
                refine ap_putI (pc := 278) (jz := 11) dX9_reads_278 fn_RX9_143 sh_100 rfl rfl (fun z => by cases z) ?_
                refine ap_ild_5 (pc := 281) dX9_reads_281 ?_
                refine ap_bipush (pc := 283) dX9_reads_283 bp_59 ?_
                refine ap_icmp_ne (pc := 285) 292 dX9_reads_285 rfl (Or.inr ⟨⟨by omega, by omega⟩, ⟨by omega, by omega⟩⟩) (fun c285 => ?_) (fun c285 => ?_)
                · skip
                  refine ap_ild_2 (pc := 292) dX9_reads_292 ?_
                  refine ap_const (pc := 293) dX9_reads_293 ?_
                  refine ap_icmp_ge (pc := 294) 303 dX9_reads_294 rfl ⟨by omega, by omega⟩ ⟨by omega, by omega⟩ (fun c294 => absurd c294 (by decide)) (fun _ => ?_)
                  refine ap_ild_2 (pc := 297) dX9_reads_297 ?_
                  refine ap_const (pc := 298) dX9_reads_298 ?_
                  refine ap_iadd (pc := 299) dX9_reads_299 ?_
                  refine ap_goto (pc := 300) 304 dX9_reads_300 rfl ?_
                  refine ap_ist_2 (pc := 304) dX9_reads_304 (by decide) ?_
                  refine ap_ald_0 (pc := 305) dX9_reads_305 ?_
                  refine ap_dup (pc := 306) dX9_reads_306 ?_
                  refine ap_getI (pc := 307) (jz := 9) dX9_reads_307 fl_RX9_146 sh_100 rfl rfl ?_
                  try simp (disch := omega) only [am_same, am_k, am_j, h9, hl, hc]
                  refine ap_const (pc := 310) dX9_reads_310 ?_
                  refine ap_iadd (pc := 311) dX9_reads_311 ?_
                  refine ap_putI (pc := 312) (jz := 9) dX9_reads_312 fn_RX9_146 sh_100 rfl rfl (fun z => by cases z) ?_
                  refine ap_goto (pc := 315) 17 dX9_reads_315 rfl ?_
                  exact (ih c25 (nxt (T i) a) _ _ _ _ (nxt_bd u1 hz0) (by rw [hnx]; omega) (by rw [hnx]; omega) (by rw [u4, fl_go c25 hz0]; rfl) (fun k j q => by rw [am_ne (by omega), am_ne (by omega), am_ne (by omega)]; exact u5 k j q) (by rw [am_same]; rfl)).bk ⟨rfl, rfl, rfl, rfl, rfl, trivial, trivial, trivial, trivial⟩ rfl
                · skip
                  exfalso; omega
              · skip
                exfalso; omega
            · skip
              obtain rfl : s = 1 := by omega
              obtain rfl : x = 0 := by omega
              have hnx : nxt (T i) a = 2 := by rw [nx_v.2 (by omega)]; omega
              refine ap_ild_2 (pc := 177) dX9_reads_177 ?_
              refine ap_if_ne (pc := 178) 190 dX9_reads_178 rfl ⟨by omega, by omega⟩ (fun _ => ?_) (fun c178 => absurd c178 (by decide))
              refine ap_ild_6 (pc := 190) dX9_reads_190 ?_
              refine ap_if_eq (pc := 192) 198 dX9_reads_192 rfl ⟨by omega, by omega⟩ (fun _ => ?_) (fun c192 => absurd c192 (by decide))
              refine ap_ild_1 (pc := 198) dX9_reads_198 ?_
              refine ap_if_eq (pc := 199) 219 dX9_reads_199 rfl ⟨by omega, by omega⟩ (fun _ => ?_) (fun c199 => absurd c199 (by decide))
              refine ap_ild_1 (pc := 219) dX9_reads_219 ?_
              refine ap_if_eq (pc := 220) 260 dX9_reads_220 rfl ⟨by omega, by omega⟩ (fun _ => ?_) (fun c220 => absurd c220 (by decide))
              refine ap_ald_0 (pc := 260) dX9_reads_260 ?_
              refine ap_dup (pc := 261) dX9_reads_261 ?_
              refine ap_getI (pc := 262) (jz := 11) dX9_reads_262 fl_RX9_143 sh_100 rfl rfl ?_
              try simp (disch := omega) only [am_same, am_k, am_j, h9, hl, hc]
              refine ap_ild_5 (pc := 265) dX9_reads_265 ?_
              refine ap_bipush (pc := 267) dX9_reads_267 bp_59 ?_
              refine ap_icmp_ne (pc := 269) 276 dX9_reads_269 rfl (Or.inr ⟨⟨by omega, by omega⟩, ⟨by omega, by omega⟩⟩) (fun c269 => ?_) (fun c269 => ?_)
              · skip
                refine ap_const (pc := 276) dX9_reads_276 ?_
                refine ap_iadd (pc := 277) dX9_reads_277 ?_
                refine ap_putI (pc := 278) (jz := 11) dX9_reads_278 fn_RX9_143 sh_100 rfl rfl (fun z => by cases z) ?_
                refine ap_ild_5 (pc := 281) dX9_reads_281 ?_
                refine ap_bipush (pc := 283) dX9_reads_283 bp_59 ?_
                refine ap_icmp_ne (pc := 285) 292 dX9_reads_285 rfl (Or.inr ⟨⟨by omega, by omega⟩, ⟨by omega, by omega⟩⟩) (fun c285 => ?_) (fun c285 => ?_)
                · skip
                  refine ap_ild_2 (pc := 292) dX9_reads_292 ?_
                  refine ap_const (pc := 293) dX9_reads_293 ?_
                  refine ap_icmp_ge (pc := 294) 303 dX9_reads_294 rfl ⟨by omega, by omega⟩ ⟨by omega, by omega⟩ (fun c294 => absurd c294 (by decide)) (fun _ => ?_)
                  refine ap_ild_2 (pc := 297) dX9_reads_297 ?_
                  refine ap_const (pc := 298) dX9_reads_298 ?_
                  refine ap_iadd (pc := 299) dX9_reads_299 ?_
                  refine ap_goto (pc := 300) 304 dX9_reads_300 rfl ?_
                  refine ap_ist_2 (pc := 304) dX9_reads_304 (by decide) ?_
                  refine ap_ald_0 (pc := 305) dX9_reads_305 ?_
                  refine ap_dup (pc := 306) dX9_reads_306 ?_
                  refine ap_getI (pc := 307) (jz := 9) dX9_reads_307 fl_RX9_146 sh_100 rfl rfl ?_
                  try simp (disch := omega) only [am_same, am_k, am_j, h9, hl, hc]
                  refine ap_const (pc := 310) dX9_reads_310 ?_
                  refine ap_iadd (pc := 311) dX9_reads_311 ?_
                  refine ap_putI (pc := 312) (jz := 9) dX9_reads_312 fn_RX9_146 sh_100 rfl rfl (fun z => by cases z) ?_
                  refine ap_goto (pc := 315) 17 dX9_reads_315 rfl ?_
                  exact (ih c25 (nxt (T i) a) _ _ _ _ (nxt_bd u1 hz0) (by rw [hnx]; omega) (by rw [hnx]; omega) (by rw [u4, fl_go c25 hz0]; rfl) (fun k j q => by rw [am_ne (by omega), am_ne (by omega), am_ne (by omega)]; exact u5 k j q) (by rw [am_same]; rfl)).bk ⟨rfl, rfl, rfl, rfl, rfl, trivial, trivial, trivial, trivial⟩ rfl
                · skip
                  exfalso; omega
              · skip
                exfalso; omega
            · skip
              obtain rfl : s = 2 := by omega
              obtain rfl : x = 0 := by omega
              have hnx : nxt (T i) a = 0 := nx_v.1 (by omega)
              refine ap_ild_2 (pc := 177) dX9_reads_177 ?_
              refine ap_if_ne (pc := 178) 190 dX9_reads_178 rfl ⟨by omega, by omega⟩ (fun _ => ?_) (fun c178 => absurd c178 (by decide))
              refine ap_ild_6 (pc := 190) dX9_reads_190 ?_
              refine ap_if_eq (pc := 192) 198 dX9_reads_192 rfl ⟨by omega, by omega⟩ (fun _ => ?_) (fun c192 => absurd c192 (by decide))
              refine ap_ild_1 (pc := 198) dX9_reads_198 ?_
              refine ap_if_eq (pc := 199) 219 dX9_reads_199 rfl ⟨by omega, by omega⟩ (fun _ => ?_) (fun c199 => absurd c199 (by decide))
              refine ap_ild_1 (pc := 219) dX9_reads_219 ?_
              refine ap_if_eq (pc := 220) 260 dX9_reads_220 rfl ⟨by omega, by omega⟩ (fun _ => ?_) (fun c220 => absurd c220 (by decide))
              refine ap_ald_0 (pc := 260) dX9_reads_260 ?_
              refine ap_dup (pc := 261) dX9_reads_261 ?_
              refine ap_getI (pc := 262) (jz := 11) dX9_reads_262 fl_RX9_143 sh_100 rfl rfl ?_
              try simp (disch := omega) only [am_same, am_k, am_j, h9, hl, hc]
              refine ap_ild_5 (pc := 265) dX9_reads_265 ?_
              refine ap_bipush (pc := 267) dX9_reads_267 bp_59 ?_
              refine ap_icmp_ne (pc := 269) 276 dX9_reads_269 rfl (Or.inr ⟨⟨by omega, by omega⟩, ⟨by omega, by omega⟩⟩) (fun c269 => ?_) (fun c269 => ?_)
              · skip
                exfalso; omega
              · skip
                refine ap_const (pc := 272) dX9_reads_272 ?_
                refine ap_goto (pc := 273) 277 dX9_reads_273 rfl ?_
                refine ap_iadd (pc := 277) dX9_reads_277 ?_
                refine ap_putI (pc := 278) (jz := 11) dX9_reads_278 fn_RX9_143 sh_100 rfl rfl (fun z => by cases z) ?_
                refine ap_ild_5 (pc := 281) dX9_reads_281 ?_
                refine ap_bipush (pc := 283) dX9_reads_283 bp_59 ?_
                refine ap_icmp_ne (pc := 285) 292 dX9_reads_285 rfl (Or.inr ⟨⟨by omega, by omega⟩, ⟨by omega, by omega⟩⟩) (fun c285 => ?_) (fun c285 => ?_)
                · skip
                  exfalso; omega
                · skip
                  refine ap_const (pc := 288) dX9_reads_288 ?_
                  refine ap_goto (pc := 289) 304 dX9_reads_289 rfl ?_
                  refine ap_ist_2 (pc := 304) dX9_reads_304 (by decide) ?_
                  refine ap_ald_0 (pc := 305) dX9_reads_305 ?_
                  refine ap_dup (pc := 306) dX9_reads_306 ?_
                  refine ap_getI (pc := 307) (jz := 9) dX9_reads_307 fl_RX9_146 sh_100 rfl rfl ?_
                  try simp (disch := omega) only [am_same, am_k, am_j, h9, hl, hc]
                  refine ap_const (pc := 310) dX9_reads_310 ?_
                  refine ap_iadd (pc := 311) dX9_reads_311 ?_
                  refine ap_putI (pc := 312) (jz := 9) dX9_reads_312 fn_RX9_146 sh_100 rfl rfl (fun z => by cases z) ?_
                  refine ap_goto (pc := 315) 17 dX9_reads_315 rfl ?_
                  exact (ih c25 (nxt (T i) a) _ _ _ _ (nxt_bd u1 hz0) (by rw [hnx]; omega) (by rw [hnx]; omega) (by rw [u4, fl_go c25 hz0]; rfl) (fun k j q => by rw [am_ne (by omega), am_ne (by omega), am_ne (by omega)]; exact u5 k j q) (by rw [am_same]; rfl)).bk ⟨rfl, rfl, rfl, rfl, rfl, trivial, trivial, trivial, trivial⟩ rfl
            · skip
              obtain rfl : s = 2 := by omega
              obtain rfl : x = 1 := by omega
              have hnx : nxt (T i) a = a + 1 := nx_v.2 (by omega)
              refine ap_ild_2 (pc := 177) dX9_reads_177 ?_
              refine ap_if_ne (pc := 178) 190 dX9_reads_178 rfl ⟨by omega, by omega⟩ (fun _ => ?_) (fun c178 => absurd c178 (by decide))
              refine ap_ild_6 (pc := 190) dX9_reads_190 ?_
              refine ap_if_eq (pc := 192) 198 dX9_reads_192 rfl ⟨by omega, by omega⟩ (fun c192 => absurd c192 (by decide)) (fun _ => ?_)
              refine ap_iinc_4 (pc := 195) dX9_reads_195 (by decide) ?_
              refine ap_ild_1 (pc := 198) dX9_reads_198 ?_
              refine ap_if_eq (pc := 199) 219 dX9_reads_199 rfl ⟨by omega, by omega⟩ (fun _ => ?_) (fun c199 => absurd c199 (by decide))
              refine ap_ild_1 (pc := 219) dX9_reads_219 ?_
              refine ap_if_eq (pc := 220) 260 dX9_reads_220 rfl ⟨by omega, by omega⟩ (fun _ => ?_) (fun c220 => absurd c220 (by decide))
              refine ap_ald_0 (pc := 260) dX9_reads_260 ?_
              refine ap_dup (pc := 261) dX9_reads_261 ?_
              refine ap_getI (pc := 262) (jz := 11) dX9_reads_262 fl_RX9_143 sh_100 rfl rfl ?_
              try simp (disch := omega) only [am_same, am_k, am_j, h9, hl, hc]
              refine ap_ild_5 (pc := 265) dX9_reads_265 ?_
              refine ap_bipush (pc := 267) dX9_reads_267 bp_59 ?_
              refine ap_icmp_ne (pc := 269) 276 dX9_reads_269 rfl (Or.inr ⟨⟨by omega, by omega⟩, ⟨by omega, by omega⟩⟩) (fun c269 => ?_) (fun c269 => ?_)
              · skip
                refine ap_const (pc := 276) dX9_reads_276 ?_
                refine ap_iadd (pc := 277) dX9_reads_277 ?_
                refine ap_putI (pc := 278) (jz := 11) dX9_reads_278 fn_RX9_143 sh_100 rfl rfl (fun z => by cases z) ?_
                refine ap_ild_5 (pc := 281) dX9_reads_281 ?_
                refine ap_bipush (pc := 283) dX9_reads_283 bp_59 ?_
                refine ap_icmp_ne (pc := 285) 292 dX9_reads_285 rfl (Or.inr ⟨⟨by omega, by omega⟩, ⟨by omega, by omega⟩⟩) (fun c285 => ?_) (fun c285 => ?_)
                · skip
                  refine ap_ild_2 (pc := 292) dX9_reads_292 ?_
                  refine ap_const (pc := 293) dX9_reads_293 ?_
                  refine ap_icmp_ge (pc := 294) 303 dX9_reads_294 rfl ⟨by omega, by omega⟩ ⟨by omega, by omega⟩ (fun _ => ?_) (fun c294 => absurd c294 (by decide))
                  refine ap_const (pc := 303) dX9_reads_303 ?_
                  refine ap_ist_2 (pc := 304) dX9_reads_304 (by decide) ?_
                  refine ap_ald_0 (pc := 305) dX9_reads_305 ?_
                  refine ap_dup (pc := 306) dX9_reads_306 ?_
                  refine ap_getI (pc := 307) (jz := 9) dX9_reads_307 fl_RX9_146 sh_100 rfl rfl ?_
                  try simp (disch := omega) only [am_same, am_k, am_j, h9, hl, hc]
                  refine ap_const (pc := 310) dX9_reads_310 ?_
                  refine ap_iadd (pc := 311) dX9_reads_311 ?_
                  refine ap_putI (pc := 312) (jz := 9) dX9_reads_312 fn_RX9_146 sh_100 rfl rfl (fun z => by cases z) ?_
                  refine ap_goto (pc := 315) 17 dX9_reads_315 rfl ?_
                  exact (ih c25 (nxt (T i) a) _ _ _ _ (nxt_bd u1 hz0) (by rw [hnx]; omega) (by rw [hnx]; omega) (by rw [u4, fl_go c25 hz0]; rfl) (fun k j q => by rw [am_ne (by omega), am_ne (by omega), am_ne (by omega)]; exact u5 k j q) (by rw [am_same]; rfl)).bk ⟨rfl, rfl, rfl, rfl, rfl, trivial, trivial, trivial, trivial⟩ rfl
                · skip
                  exfalso; omega
              · skip
                exfalso; omega
            
          · skip
            refine ap_const (pc := 175) dX9_reads_175 ?_
            exact ap_zreturn (pc := 176) dX9_reads_176 rfl (by decide) ⟨by rw [u4, fl_hit c25 (by omega)]; show some 1 = some (if rsn (T i) a K = 0 then 0 else 1); rw [if_neg (by omega)], by rw [am_j (by omega), u4, fl_hit c25 (by omega)]; exact u6, fun _ => by rw [am_same, u4, fl_hit c25 (by omega)]; exact hw, fun k j q => by rw [am_ne (by omega)]; exact u5 k j q⟩
        refine ap_ald_0 (pc := 118) dX9_reads_118 ?_
        refine ap_ild_7 (pc := 119) dX9_reads_119 ?_
        refine ap_if_ne (pc := 121) 128 dX9_reads_121 rfl ⟨by omega, by omega⟩ (fun c121 => ?_) (fun c121 => ?_)
        · skip
          refine ap_ild_6 (pc := 128) dX9_reads_128 ?_
          refine ap_if_eq (pc := 130) 149 dX9_reads_130 rfl ⟨by omega, by omega⟩ (fun c130 => ?_) (fun c130 => ?_)
          · skip
            refine ap_ild_6 (pc := 149) dX9_reads_149 ?_
            refine ap_if_eq (pc := 151) 164 dX9_reads_151 rfl ⟨by omega, by omega⟩ (fun c151 => ?_) (fun c151 => ?_)
            · skip
              refine ap_const (pc := 164) dX9_reads_164 ?_
              exact j165 _ (by unfold rsn; (repeat' split) <;> omega)
            · skip
              refine ap_ild_4 (pc := 154) dX9_reads_154 ?_
              refine ap_const (pc := 156) dX9_reads_156 ?_
              refine ap_icmp_ne (pc := 157) 164 dX9_reads_157 rfl (Or.inr ⟨⟨by omega, by omega⟩, ⟨by omega, by omega⟩⟩) (fun c157 => ?_) (fun c157 => ?_)
              · skip
                refine ap_const (pc := 164) dX9_reads_164 ?_
                exact j165 _ (by unfold rsn; (repeat' split) <;> omega)
              · skip
                refine ap_const (pc := 160) dX9_reads_160 ?_
                refine ap_goto (pc := 161) 165 dX9_reads_161 rfl ?_
                exact j165 _ (by unfold rsn; (repeat' split) <;> omega)
          · skip
            refine ap_ald_0 (pc := 133) dX9_reads_133 ?_
            refine ap_ild_5 (pc := 134) dX9_reads_134 ?_
            refine ap_bipush (pc := 136) dX9_reads_136 bp_97 ?_
            refine ap_isub (pc := 138) dX9_reads_138 ?_
            refine ap_invV (pc := 139) dX9_reads_139 mv_RX9_47 sh_100 (av := [_]) (rest := [_]) (qX9_isColor _ _ ⟨by omega, by omega⟩ (by rw [hK0]; omega)) rfl rfl (Nat.le_of_ble_eq_true rfl) (by decide) (by decide) ?_
            rintro _ _ ⟨⟨w139, rfl⟩ | ⟨w139, rfl⟩, rfl⟩
            all_goals rw [hK0] at w139
            · skip
              refine ap_if_ne (pc := 142) 149 dX9_reads_142 rfl ⟨by omega, by omega⟩ (fun _ => ?_) (fun c142 => absurd c142 (by decide))
              refine ap_ild_6 (pc := 149) dX9_reads_149 ?_
              refine ap_if_eq (pc := 151) 164 dX9_reads_151 rfl ⟨by omega, by omega⟩ (fun c151 => ?_) (fun c151 => ?_)
              · skip
                refine ap_const (pc := 164) dX9_reads_164 ?_
                exact j165 _ (by unfold rsn; (repeat' split) <;> omega)
              · skip
                refine ap_ild_4 (pc := 154) dX9_reads_154 ?_
                refine ap_const (pc := 156) dX9_reads_156 ?_
                refine ap_icmp_ne (pc := 157) 164 dX9_reads_157 rfl (Or.inr ⟨⟨by omega, by omega⟩, ⟨by omega, by omega⟩⟩) (fun c157 => ?_) (fun c157 => ?_)
                · skip
                  refine ap_const (pc := 164) dX9_reads_164 ?_
                  exact j165 _ (by unfold rsn; (repeat' split) <;> omega)
                · skip
                  refine ap_const (pc := 160) dX9_reads_160 ?_
                  refine ap_goto (pc := 161) 165 dX9_reads_161 rfl ?_
                  exact j165 _ (by unfold rsn; (repeat' split) <;> omega)
            · skip
              refine ap_if_ne (pc := 142) 149 dX9_reads_142 rfl ⟨by omega, by omega⟩ (fun c142 => absurd c142 (by decide)) (fun _ => ?_)
              refine ap_const (pc := 145) dX9_reads_145 ?_
              refine ap_goto (pc := 146) 165 dX9_reads_146 rfl ?_
              exact j165 _ (by unfold rsn; (repeat' split) <;> omega)
        · skip
          refine ap_const (pc := 124) dX9_reads_124 ?_
          refine ap_goto (pc := 125) 165 dX9_reads_125 rfl ?_
          exact j165 _ (by unfold rsn; (repeat' split) <;> omega)
      refine ap_ild_2 (pc := 63) dX9_reads_63 ?_
      refine ap_if_ne (pc := 64) 79 dX9_reads_64 rfl ⟨by omega, by omega⟩ (fun c64 => ?_) (fun c64 => ?_)
      · skip
        refine ap_ild_2 (pc := 79) dX9_reads_79 ?_
        refine ap_const (pc := 80) dX9_reads_80 ?_
        refine ap_icmp_ne (pc := 81) 99 dX9_reads_81 rfl (Or.inr ⟨⟨by omega, by omega⟩, ⟨by omega, by omega⟩⟩) (fun c81 => ?_) (fun c81 => ?_)
        · skip
          refine ap_ild_6 (pc := 99) dX9_reads_99 ?_
          refine ap_if_ne (pc := 101) 111 dX9_reads_101 rfl ⟨by omega, by omega⟩ (fun c101 => ?_) (fun c101 => ?_)
          · skip
            refine ap_const (pc := 111) dX9_reads_111 ?_
            refine ap_goto (pc := 112) 116 dX9_reads_112 rfl ?_
            refine ap_ist_7 (pc := 116) dX9_reads_116 (by decide) ?_
            exact j118 _ (by omega)
          · skip
            refine ap_ild_5 (pc := 104) dX9_reads_104 ?_
            refine ap_bipush (pc := 106) dX9_reads_106 bp_59 ?_
            refine ap_icmp_ne (pc := 108) 115 dX9_reads_108 rfl (Or.inr ⟨⟨by omega, by omega⟩, ⟨by omega, by omega⟩⟩) (fun c108 => ?_) (fun c108 => ?_)
            · skip
              refine ap_const (pc := 115) dX9_reads_115 ?_
              refine ap_ist_7 (pc := 116) dX9_reads_116 (by decide) ?_
              exact j118 _ (by omega)
            · skip
              refine ap_const (pc := 111) dX9_reads_111 ?_
              refine ap_goto (pc := 112) 116 dX9_reads_112 rfl ?_
              refine ap_ist_7 (pc := 116) dX9_reads_116 (by decide) ?_
              exact j118 _ (by omega)
        · skip
          refine ap_ild_5 (pc := 84) dX9_reads_84 ?_
          refine ap_bipush (pc := 86) dX9_reads_86 bp_61 ?_
          refine ap_icmp_ne (pc := 88) 95 dX9_reads_88 rfl (Or.inr ⟨⟨by omega, by omega⟩, ⟨by omega, by omega⟩⟩) (fun c88 => ?_) (fun c88 => ?_)
          · skip
            refine ap_const (pc := 95) dX9_reads_95 ?_
            refine ap_goto (pc := 96) 116 dX9_reads_96 rfl ?_
            refine ap_ist_7 (pc := 116) dX9_reads_116 (by decide) ?_
            exact j118 _ (by omega)
          · skip
            refine ap_const (pc := 91) dX9_reads_91 ?_
            refine ap_goto (pc := 92) 116 dX9_reads_92 rfl ?_
            refine ap_ist_7 (pc := 116) dX9_reads_116 (by decide) ?_
            exact j118 _ (by omega)
      · skip
        refine ap_ild_5 (pc := 67) dX9_reads_67 ?_
        refine ap_bipush (pc := 69) dX9_reads_69 bp_48 ?_
        refine ap_bipush (pc := 71) dX9_reads_71 bp_53 ?_
        refine ap_invS (pc := 73) dX9_reads_73 ms_RX9_32 (av := [_, _, _]) (rest := []) (qX9_in _ _ _ _ ⟨by omega, by omega⟩ ⟨by omega, by omega⟩ ⟨by omega, by omega⟩) rfl rfl (Nat.le_of_ble_eq_true rfl) (by decide) (by decide) ?_
        rintro _ _ ⟨⟨w73, rfl⟩ | ⟨w73, rfl⟩, rfl⟩
        · skip
          refine ap_goto (pc := 76) 116 dX9_reads_76 rfl ?_
          refine ap_ist_7 (pc := 116) dX9_reads_116 (by decide) ?_
          exact j118 _ (by omega)
        · skip
          refine ap_goto (pc := 76) 116 dX9_reads_76 rfl ?_
          refine ap_ist_7 (pc := 116) dX9_reads_116 (by decide) ?_
          exact j118 _ (by omega)
    refine ap_ild_2 (pc := 39) dX9_reads_39 ?_
    refine ap_const (pc := 40) dX9_reads_40 ?_
    refine ap_icmp_ne (pc := 41) 60 dX9_reads_41 rfl (Or.inr ⟨⟨by omega, by omega⟩, ⟨by omega, by omega⟩⟩) (fun c41 => ?_) (fun c41 => ?_)
    · skip
      refine ap_const (pc := 60) dX9_reads_60 ?_
      refine ap_ist_6 (pc := 61) dX9_reads_61 (by decide) ?_
      exact j63 _ (by omega)
    · skip
      refine ap_ild_5 (pc := 44) dX9_reads_44 ?_
      refine ap_bipush (pc := 46) dX9_reads_46 bp_97 ?_
      refine ap_bipush (pc := 48) dX9_reads_48 bp_108 ?_
      refine ap_invS (pc := 50) dX9_reads_50 ms_RX9_32 (av := [_, _, _]) (rest := []) (qX9_in _ _ _ _ ⟨by omega, by omega⟩ ⟨by omega, by omega⟩ ⟨by omega, by omega⟩) rfl rfl (Nat.le_of_ble_eq_true rfl) (by decide) (by decide) ?_
      rintro _ _ ⟨⟨w50, rfl⟩ | ⟨w50, rfl⟩, rfl⟩
      · skip
        refine ap_if_eq (pc := 53) 60 dX9_reads_53 rfl ⟨by omega, by omega⟩ (fun c53 => absurd c53 (by decide)) (fun _ => ?_)
        refine ap_const (pc := 56) dX9_reads_56 ?_
        refine ap_goto (pc := 57) 61 dX9_reads_57 rfl ?_
        refine ap_ist_6 (pc := 61) dX9_reads_61 (by decide) ?_
        exact j63 _ (by omega)
      · skip
        refine ap_if_eq (pc := 53) 60 dX9_reads_53 rfl ⟨by omega, by omega⟩ (fun _ => ?_) (fun c53 => absurd c53 (by decide))
        refine ap_const (pc := 60) dX9_reads_60 ?_
        refine ap_ist_6 (pc := 61) dX9_reads_61 (by decide) ?_
        exact j63 _ (by omega)

set_option maxHeartbeats 4000000 in
theorem qX9_reads1 (T r : Int → Int) (l : Int) (m : AM) (hn : 0 ≤ l ∧ l ≤ 80) (h5 : m 100 5 = l) (hT : ∀ j : Int, 0 ≤ j → j < l → m 104 j = T j ∧ 32 ≤ T j ∧ T j ≤ 126) (wR : wfR r) (ok : okT T r l) (hrow : m 101 = r) : CS 2 mX9_reads [.inr 100, .inl 1] m (fun v m' => (∃ b : Int, v = some b) ∧ m' 101 = wA T r l.toNat ∧ m' 100 11 = gA T r l.toNat ∧ ∀ (k : Nat) (j : Int), (k < 100 ∨ 101 < k ∨ (k = 100 ∧ j < 9)) → m' k j = m k j) := by
  refine cs_of (by decide +kernel) (Nat.le_of_ble_eq_true rfl) rfl ?_
  have h9 : True := trivial
  have hl : m 100 5 = l := h5
  have hc : True := trivial
  refine ap_const (pc := 0) dX9_reads_0 ?_
  refine ap_ist_2 (pc := 1) dX9_reads_1 (by decide) ?_
  refine ap_const (pc := 2) dX9_reads_2 ?_
  refine ap_ist_3 (pc := 3) dX9_reads_3 (by decide) ?_
  refine ap_const (pc := 4) dX9_reads_4 ?_
  refine ap_ist_4 (pc := 5) dX9_reads_5 (by decide) ?_
  refine ap_ald_0 (pc := 7) dX9_reads_7 ?_
  refine ap_const (pc := 8) dX9_reads_8 ?_
  refine ap_putI (pc := 9) (jz := 11) dX9_reads_9 fn_RX9_143 sh_100 rfl rfl (fun z => by cases z) ?_
  refine ap_ald_0 (pc := 12) dX9_reads_12 ?_
  refine ap_const (pc := 13) dX9_reads_13 ?_
  refine ap_putI (pc := 14) (jz := 9) dX9_reads_14 fn_RX9_146 sh_100 rfl rfl (fun z => by cases z) ?_
  refine AP.bk (up_rec l (fun i => ∀ (s many : Int) (mi : AM), ((s = 0 ∧ aA T r i = 0) ∨ (s = 1 ∧ aA T r i = 1) ∨ (s = 2 ∧ 2 ≤ aA T r i)) → ((0 ≤ many ∧ many ≤ 3) ∧ (aA T r i = 1 → many = 0) ∧ (2 ≤ aA T r i → many = aA T r i - 2)) → (∀ (k : Nat) (j : Int), (k < 100 ∨ 101 < k ∨ (k = 100 ∧ j < 9)) → mi k j = m k j) → (aA T r i ≠ 1 → mi 101 = wA T r i) → (aA T r i = 1 → rup (mi 101) (126 + 4 * fA T r i) 0 = wA T r i) → mi 100 9 = (i : Int) → mi 100 11 = gA T r i - (if aA T r i = 0 then 0 else 1) → AP 2 mX9_reads 17 [some (.inr 100), some (.inl 1), some (.inl s), some (.inl (fA T r i)), some (.inl many), none, none, none] [] mi (fun v m' => (∃ b : Int, v = some b) ∧ m' 101 = wA T r l.toNat ∧ m' 100 11 = gA T r l.toNat ∧ ∀ (k : Nat) (j : Int), (k < 100 ∨ 101 < k ∨ (k = 100 ∧ j < 9)) → m' k j = m k j)) hn.1 (fun i hi ih s many mi u2 u3 u5 u6 u7 u8 u9 => ?_) 0 0 _ (Or.inl ⟨rfl, rfl⟩) ⟨⟨by omega, by omega⟩, fun _ => rfl, fun q => absurd q (by show ¬ (2 : Int) ≤ 0; omega)⟩ (fun k j q => by rw [am_ne (by omega), am_ne (by omega)]) (fun _ => by simp (disch := omega) only [am_kF]; exact hrow) (fun q => absurd q (by show ¬ (0 : Int) = 1; omega)) (by rw [am_same]; rfl) (by rw [am_j (by omega), am_same]; rfl)) ⟨rfl, rfl, rfl, rfl, rfl, trivial, trivial, trivial, trivial⟩ rfl
  have h9 : mi 100 9 = (i : Int) := u8
  have hl : mi 100 5 = l := by rw [u5 100 5 (by omega)]; exact h5
  have hc : True := trivial
  obtain ⟨i1, i2, i3, i4, i5, i6, i7⟩ := rd_inv wR ok i (by omega)
  have u1 := i1
  have h12 := wR.1.1
  have hK0 : mi 101 0 = r 0 := by
    by_cases e : aA T r i = 1
    · have := congrFun (u7 e) 0
      rw [rup_ne (by omega)] at this
      rw [this]; exact i4 0 (by omega)
    · rw [u6 e]; exact i4 0 (by omega)
  refine ap_ald_0 (pc := 17) dX9_reads_17 ?_
  refine ap_getI (pc := 18) (jz := 9) dX9_reads_18 fl_RX9_146 sh_100 rfl rfl ?_
  try simp (disch := omega) only [am_same, am_k, am_j, h9, hl, hc]
  refine ap_ald_0 (pc := 21) dX9_reads_21 ?_
  refine ap_getI (pc := 22) (jz := 5) dX9_reads_22 fl_RX9_105 sh_100 rfl rfl ?_
  try simp (disch := omega) only [am_same, am_k, am_j, h9, hl, hc]
  refine ap_icmp_ge (pc := 25) 318 dX9_reads_25 rfl ⟨by omega, by omega⟩ ⟨by omega, by omega⟩ (fun c25 => ?_) (fun c25 => ?_)
  · skip
    obtain rfl := nat_of hn.1 hi c25
    have ha0 := ok.2
    rw [if_pos ha0] at u9
    refine ap_ald_0 (pc := 318) dX9_reads_318 ?_
    refine ap_const (pc := 319) dX9_reads_319 ?_
    refine ap_putI (pc := 320) (jz := 10) dX9_reads_320 fn_RX9_149 sh_100 rfl rfl (fun z => by cases z) ?_
    refine ap_ild_2 (pc := 323) dX9_reads_323 ?_
    refine ap_if_le (pc := 324) 331 dX9_reads_324 rfl ⟨by omega, by omega⟩ (fun c324 => ?_) (fun c324 => ?_)
    · skip
      refine ap_const (pc := 331) dX9_reads_331 ?_
      exact ap_zreturn (pc := 332) dX9_reads_332 rfl (by decide) ⟨⟨_, rfl⟩, by simp (disch := omega) only [am_kF]; exact u6 (by omega), by rw [am_j (by omega)]; omega, fun k j q => by rw [am_ne (by omega)]; exact u5 k j q⟩
    · skip
      refine ap_const (pc := 327) dX9_reads_327 ?_
      refine ap_goto (pc := 328) 332 dX9_reads_328 rfl ?_
      exact ap_zreturn (pc := 332) dX9_reads_332 rfl (by decide) ⟨⟨_, rfl⟩, by simp (disch := omega) only [am_kF]; exact u6 (by omega), by rw [am_j (by omega)]; omega, fun k j q => by rw [am_ne (by omega)]; exact u5 k j q⟩
  · skip
    have hq := hT i (by omega) c25
    have hc : mi 104 i = T i := by rw [u5 104 i (by omega)]; exact hq.1
    have zz := ok.1 i c25
    refine ap_ald_0 (pc := 28) dX9_reads_28 ?_
    refine ap_getR (pc := 29) dX9_reads_29 fl_RX9_19 sh_100 rfl ?_
    refine ap_ald_0 (pc := 32) dX9_reads_32 ?_
    refine ap_getI (pc := 33) (jz := 9) dX9_reads_33 fl_RX9_146 sh_100 rfl rfl ?_
    try simp (disch := omega) only [am_same, am_k, am_j, h9, hl, hc]
    refine ap_iaload (pc := 36) dX9_reads_36 sh_104 (by omega) (by omega) (by decide) ?_
    try simp (disch := omega) only [am_same, am_k, am_j, h9, hl, hc]
    refine ap_ist_5 (pc := 37) dX9_reads_37 (by decide) ?_
    have j63 : ∀ x : Int, ((x = 1 ∧ (2 ≤ (aA T r i) ∧ 97 ≤ T i ∧ T i ≤ 108)) ∨ (x = 0 ∧ ¬ (2 ≤ (aA T r i) ∧ 97 ≤ T i ∧ T i ≤ 108))) → AP 2 mX9_reads 63 [some (.inr 100), some (.inl 1), some (.inl s), some (.inl (fA T r i)), some (.inl many), some (.inl (T i)), some (.inl x), none] [] mi (fun v m' => (∃ b : Int, v = some b) ∧ m' 101 = wA T r l.toNat ∧ m' 100 11 = gA T r l.toNat ∧ ∀ (k : Nat) (j : Int), (k < 100 ∨ 101 < k ∨ (k = 100 ∧ j < 9)) → m' k j = m k j) := by
      intro x hx
      have j118 : ∀ y : Int, ((y = 1 ∧ (((aA T r i) = 0 ∧ 48 ≤ T i ∧ T i ≤ 53) ∨ ((aA T r i) = 1 ∧ T i = 61) ∨ (2 ≤ (aA T r i) ∧ (97 ≤ T i ∧ T i ≤ 108 ∨ T i = 59)))) ∨ (y = 0 ∧ ¬ (((aA T r i) = 0 ∧ 48 ≤ T i ∧ T i ≤ 53) ∨ ((aA T r i) = 1 ∧ T i = 61) ∨ (2 ≤ (aA T r i) ∧ (97 ≤ T i ∧ T i ≤ 108 ∨ T i = 59))))) → AP 2 mX9_reads 118 [some (.inr 100), some (.inl 1), some (.inl s), some (.inl (fA T r i)), some (.inl many), some (.inl (T i)), some (.inl x), some (.inl y)] [] mi (fun v m' => (∃ b : Int, v = some b) ∧ m' 101 = wA T r l.toNat ∧ m' 100 11 = gA T r l.toNat ∧ ∀ (k : Nat) (j : Int), (k < 100 ∨ 101 < k ∨ (k = 100 ∧ j < 9)) → m' k j = m k j) := by
        intro y hy
        have j165 : ∀ w : Int, w = rsn (T i) (aA T r i) (r 0) → AP 2 mX9_reads 165 [some (.inr 100), some (.inl 1), some (.inl s), some (.inl (fA T r i)), some (.inl many), some (.inl (T i)), some (.inl x), some (.inl y)] [.inl w, .inr 100] mi (fun v m' => (∃ b : Int, v = some b) ∧ m' 101 = wA T r l.toNat ∧ m' 100 11 = gA T r l.toNat ∧ ∀ (k : Nat) (j : Int), (k < 100 ∨ 101 < k ∨ (k = 100 ∧ j < 9)) → m' k j = m k j) := by
          intro w hw
          refine ap_putI (pc := 165) (jz := 10) dX9_reads_165 fn_RX9_149 sh_100 rfl rfl (fun z => by cases z) ?_
          refine ap_ald_0 (pc := 168) dX9_reads_168 ?_
          refine ap_getI (pc := 169) (jz := 10) dX9_reads_169 fl_RX9_149 sh_100 rfl rfl ?_
          try simp (disch := omega) only [am_same, am_k, am_j, h9, hl, hc]
          refine ap_if_le (pc := 172) 177 dX9_reads_172 rfl (by have q := rsn_bd (T i) (aA T r i) (r 0); constructor <;> omega) (fun c172 => ?_) (fun c172 => ?_)
          · skip
            have hz0 : rsn (T i) (aA T r i) (r 0) = 0 := by have q := rsn_bd (T i) (aA T r i) (r 0); omega
            rcases kd_of u1 hz0 with z | z | z | z
            · skip
              obtain rfl : s = 0 := by omega
              obtain rfl : x = 0 := by omega
              have he := rd_0 (T := T) (r := r) (i := i) z.1
              refine ap_ild_2 (pc := 177) dX9_reads_177 ?_
              refine ap_if_ne (pc := 178) 190 dX9_reads_178 rfl ⟨by omega, by omega⟩ (fun c178 => absurd c178 (by decide)) (fun _ => ?_)
              refine ap_ild_5 (pc := 181) dX9_reads_181 ?_
              refine ap_bipush (pc := 183) dX9_reads_183 bp_48 ?_
              refine ap_isub (pc := 185) dX9_reads_185 ?_
              refine ap_ist_3 (pc := 186) dX9_reads_186 (by decide) ?_
              refine ap_const (pc := 187) dX9_reads_187 ?_
              refine ap_ist_4 (pc := 188) dX9_reads_188 (by decide) ?_
              refine ap_ild_6 (pc := 190) dX9_reads_190 ?_
              refine ap_if_eq (pc := 192) 198 dX9_reads_192 rfl ⟨by omega, by omega⟩ (fun _ => ?_) (fun c192 => absurd c192 (by decide))
              refine ap_ild_1 (pc := 198) dX9_reads_198 ?_
              refine ap_if_eq (pc := 199) 219 dX9_reads_199 rfl ⟨by omega, by omega⟩ (fun c199 => absurd c199 (by decide)) (fun _ => ?_)
              refine ap_ild_2 (pc := 202) dX9_reads_202 ?_
              refine ap_const (pc := 203) dX9_reads_203 ?_
              refine ap_icmp_ne (pc := 204) 219 dX9_reads_204 rfl (Or.inr ⟨⟨by omega, by omega⟩, ⟨by omega, by omega⟩⟩) (fun _ => ?_) (fun c204 => absurd c204 (by decide))
              refine ap_ild_1 (pc := 219) dX9_reads_219 ?_
              refine ap_if_eq (pc := 220) 260 dX9_reads_220 rfl ⟨by omega, by omega⟩ (fun c220 => absurd c220 (by decide)) (fun _ => ?_)
              refine ap_ild_6 (pc := 223) dX9_reads_223 ?_
              refine ap_if_eq (pc := 225) 260 dX9_reads_225 rfl ⟨by omega, by omega⟩ (fun _ => ?_) (fun c225 => absurd c225 (by decide))
              refine ap_ald_0 (pc := 260) dX9_reads_260 ?_
              refine ap_dup (pc := 261) dX9_reads_261 ?_
              refine ap_getI (pc := 262) (jz := 11) dX9_reads_262 fl_RX9_143 sh_100 rfl rfl ?_
              try simp (disch := omega) only [am_same, am_k, am_j, h9, hl, hc]
              refine ap_ild_5 (pc := 265) dX9_reads_265 ?_
              refine ap_bipush (pc := 267) dX9_reads_267 bp_59 ?_
              refine ap_icmp_ne (pc := 269) 276 dX9_reads_269 rfl (Or.inr ⟨⟨by omega, by omega⟩, ⟨by omega, by omega⟩⟩) (fun c269 => ?_) (fun c269 => ?_)
              · skip
                refine ap_const (pc := 276) dX9_reads_276 ?_
                refine ap_iadd (pc := 277) dX9_reads_277 ?_
                refine ap_putI (pc := 278) (jz := 11) dX9_reads_278 fn_RX9_143 sh_100 rfl rfl (fun z => by cases z) ?_
                refine ap_ild_5 (pc := 281) dX9_reads_281 ?_
                refine ap_bipush (pc := 283) dX9_reads_283 bp_59 ?_
                refine ap_icmp_ne (pc := 285) 292 dX9_reads_285 rfl (Or.inr ⟨⟨by omega, by omega⟩, ⟨by omega, by omega⟩⟩) (fun c285 => ?_) (fun c285 => ?_)
                · skip
                  refine ap_ild_2 (pc := 292) dX9_reads_292 ?_
                  refine ap_const (pc := 293) dX9_reads_293 ?_
                  refine ap_icmp_ge (pc := 294) 303 dX9_reads_294 rfl ⟨by omega, by omega⟩ ⟨by omega, by omega⟩ (fun c294 => absurd c294 (by decide)) (fun _ => ?_)
                  refine ap_ild_2 (pc := 297) dX9_reads_297 ?_
                  refine ap_const (pc := 298) dX9_reads_298 ?_
                  refine ap_iadd (pc := 299) dX9_reads_299 ?_
                  refine ap_goto (pc := 300) 304 dX9_reads_300 rfl ?_
                  refine ap_ist_2 (pc := 304) dX9_reads_304 (by decide) ?_
                  refine ap_ald_0 (pc := 305) dX9_reads_305 ?_
                  refine ap_dup (pc := 306) dX9_reads_306 ?_
                  refine ap_getI (pc := 307) (jz := 9) dX9_reads_307 fl_RX9_146 sh_100 rfl rfl ?_
                  try simp (disch := omega) only [am_same, am_k, am_j, h9, hl, hc]
                  refine ap_const (pc := 310) dX9_reads_310 ?_
                  refine ap_iadd (pc := 311) dX9_reads_311 ?_
                  refine ap_putI (pc := 312) (jz := 9) dX9_reads_312 fn_RX9_146 sh_100 rfl rfl (fun z => by cases z) ?_
                  refine ap_goto (pc := 315) 17 dX9_reads_315 rfl ?_
                  exact (ih c25 _ _ _ (by omega) (by omega) (fun k j q => by rw [am_ne (by omega), am_ne (by omega), am_ne (by omega)]; exact u5 k j q) (fun q => by omega) (fun _ => by simp (disch := omega) only [am_kF]; rw [he.2.1, he.2.2.2, u6 (by omega)]) (by rw [am_same]; rfl) (by simp (disch := omega) only [am_same, am_k, am_j]; rw [he.2.2.1, he.1]; rw [if_neg (by omega)]; rw [if_pos z.1] at u9; omega)).bk ⟨rfl, rfl, rfl, by rw [he.2.1], rfl, trivial, trivial, trivial, trivial⟩ rfl
                · skip
                  exfalso; omega
              · skip
                exfalso; omega
            · skip
              obtain rfl : s = 1 := by omega
              obtain rfl : x = 0 := by omega
              have he := rd_1 (T := T) (r := r) (i := i) z.1
              refine ap_ild_2 (pc := 177) dX9_reads_177 ?_
              refine ap_if_ne (pc := 178) 190 dX9_reads_178 rfl ⟨by omega, by omega⟩ (fun _ => ?_) (fun c178 => absurd c178 (by decide))
              refine ap_ild_6 (pc := 190) dX9_reads_190 ?_
              refine ap_if_eq (pc := 192) 198 dX9_reads_192 rfl ⟨by omega, by omega⟩ (fun _ => ?_) (fun c192 => absurd c192 (by decide))
              refine ap_ild_1 (pc := 198) dX9_reads_198 ?_
              refine ap_if_eq (pc := 199) 219 dX9_reads_199 rfl ⟨by omega, by omega⟩ (fun c199 => absurd c199 (by decide)) (fun _ => ?_)
              refine ap_ild_2 (pc := 202) dX9_reads_202 ?_
              refine ap_const (pc := 203) dX9_reads_203 ?_
              refine ap_icmp_ne (pc := 204) 219 dX9_reads_204 rfl (Or.inr ⟨⟨by omega, by omega⟩, ⟨by omega, by omega⟩⟩) (fun c204 => absurd c204 (by decide)) (fun _ => ?_)
              refine ap_ald_0 (pc := 207) dX9_reads_207 ?_
              refine ap_getR (pc := 208) dX9_reads_208 fl_RX9_7 sh_100 rfl ?_
              refine ap_bipush (pc := 211) dX9_reads_211 bp_126 ?_
              refine ap_const (pc := 213) dX9_reads_213 ?_
              refine ap_ild_3 (pc := 214) dX9_reads_214 ?_
              refine ap_imul (pc := 215) dX9_reads_215 ?_
              refine ap_iadd (pc := 216) dX9_reads_216 ?_
              refine ap_const (pc := 217) dX9_reads_217 ?_
              refine ap_iastore (pc := 218) dX9_reads_218 sh_101 (by omega) (by omega) (by decide) ?_
              refine ap_ild_1 (pc := 219) dX9_reads_219 ?_
              refine ap_if_eq (pc := 220) 260 dX9_reads_220 rfl ⟨by omega, by omega⟩ (fun c220 => absurd c220 (by decide)) (fun _ => ?_)
              refine ap_ild_6 (pc := 223) dX9_reads_223 ?_
              refine ap_if_eq (pc := 225) 260 dX9_reads_225 rfl ⟨by omega, by omega⟩ (fun _ => ?_) (fun c225 => absurd c225 (by decide))
              refine ap_ald_0 (pc := 260) dX9_reads_260 ?_
              refine ap_dup (pc := 261) dX9_reads_261 ?_
              refine ap_getI (pc := 262) (jz := 11) dX9_reads_262 fl_RX9_143 sh_100 rfl rfl ?_
              try simp (disch := omega) only [am_same, am_k, am_j, h9, hl, hc]
              refine ap_ild_5 (pc := 265) dX9_reads_265 ?_
              refine ap_bipush (pc := 267) dX9_reads_267 bp_59 ?_
              refine ap_icmp_ne (pc := 269) 276 dX9_reads_269 rfl (Or.inr ⟨⟨by omega, by omega⟩, ⟨by omega, by omega⟩⟩) (fun c269 => ?_) (fun c269 => ?_)
              · skip
                refine ap_const (pc := 276) dX9_reads_276 ?_
                refine ap_iadd (pc := 277) dX9_reads_277 ?_
                refine ap_putI (pc := 278) (jz := 11) dX9_reads_278 fn_RX9_143 sh_100 rfl rfl (fun z => by cases z) ?_
                refine ap_ild_5 (pc := 281) dX9_reads_281 ?_
                refine ap_bipush (pc := 283) dX9_reads_283 bp_59 ?_
                refine ap_icmp_ne (pc := 285) 292 dX9_reads_285 rfl (Or.inr ⟨⟨by omega, by omega⟩, ⟨by omega, by omega⟩⟩) (fun c285 => ?_) (fun c285 => ?_)
                · skip
                  refine ap_ild_2 (pc := 292) dX9_reads_292 ?_
                  refine ap_const (pc := 293) dX9_reads_293 ?_
                  refine ap_icmp_ge (pc := 294) 303 dX9_reads_294 rfl ⟨by omega, by omega⟩ ⟨by omega, by omega⟩ (fun c294 => absurd c294 (by decide)) (fun _ => ?_)
                  refine ap_ild_2 (pc := 297) dX9_reads_297 ?_
                  refine ap_const (pc := 298) dX9_reads_298 ?_
                  refine ap_iadd (pc := 299) dX9_reads_299 ?_
                  refine ap_goto (pc := 300) 304 dX9_reads_300 rfl ?_
                  refine ap_ist_2 (pc := 304) dX9_reads_304 (by decide) ?_
                  refine ap_ald_0 (pc := 305) dX9_reads_305 ?_
                  refine ap_dup (pc := 306) dX9_reads_306 ?_
                  refine ap_getI (pc := 307) (jz := 9) dX9_reads_307 fl_RX9_146 sh_100 rfl rfl ?_
                  try simp (disch := omega) only [am_same, am_k, am_j, h9, hl, hc]
                  refine ap_const (pc := 310) dX9_reads_310 ?_
                  refine ap_iadd (pc := 311) dX9_reads_311 ?_
                  refine ap_putI (pc := 312) (jz := 9) dX9_reads_312 fn_RX9_146 sh_100 rfl rfl (fun z => by cases z) ?_
                  refine ap_goto (pc := 315) 17 dX9_reads_315 rfl ?_
                  exact (ih c25 _ _ _ (by omega) (by omega) (fun k j q => by rw [am_ne (by omega), am_ne (by omega), am_ne (by omega), am_ne (by omega)]; exact u5 k j q) (fun _ => by simp (disch := omega) only [am_kF, am_rowF]; rw [he.2.2.2]; exact u7 (by omega)) (fun q => by omega) (by rw [am_same]; rfl) (by simp (disch := omega) only [am_same, am_k, am_j]; rw [he.2.2.1, he.1]; rw [if_neg (by omega)]; rw [if_neg (by omega)] at u9; omega)).bk ⟨rfl, rfl, rfl, by rw [he.2.1], rfl, trivial, trivial, trivial, trivial⟩ rfl
                · skip
                  exfalso; omega
              · skip
                exfalso; omega
            · skip
              obtain rfl : s = 2 := by omega
              obtain rfl : x = 0 := by omega
              have he := rd_2 (T := T) (r := r) (i := i) z.1 z.2
              refine ap_ild_2 (pc := 177) dX9_reads_177 ?_
              refine ap_if_ne (pc := 178) 190 dX9_reads_178 rfl ⟨by omega, by omega⟩ (fun _ => ?_) (fun c178 => absurd c178 (by decide))
              refine ap_ild_6 (pc := 190) dX9_reads_190 ?_
              refine ap_if_eq (pc := 192) 198 dX9_reads_192 rfl ⟨by omega, by omega⟩ (fun _ => ?_) (fun c192 => absurd c192 (by decide))
              refine ap_ild_1 (pc := 198) dX9_reads_198 ?_
              refine ap_if_eq (pc := 199) 219 dX9_reads_199 rfl ⟨by omega, by omega⟩ (fun c199 => absurd c199 (by decide)) (fun _ => ?_)
              refine ap_ild_2 (pc := 202) dX9_reads_202 ?_
              refine ap_const (pc := 203) dX9_reads_203 ?_
              refine ap_icmp_ne (pc := 204) 219 dX9_reads_204 rfl (Or.inr ⟨⟨by omega, by omega⟩, ⟨by omega, by omega⟩⟩) (fun _ => ?_) (fun c204 => absurd c204 (by decide))
              refine ap_ild_1 (pc := 219) dX9_reads_219 ?_
              refine ap_if_eq (pc := 220) 260 dX9_reads_220 rfl ⟨by omega, by omega⟩ (fun c220 => absurd c220 (by decide)) (fun _ => ?_)
              refine ap_ild_6 (pc := 223) dX9_reads_223 ?_
              refine ap_if_eq (pc := 225) 260 dX9_reads_225 rfl ⟨by omega, by omega⟩ (fun _ => ?_) (fun c225 => absurd c225 (by decide))
              refine ap_ald_0 (pc := 260) dX9_reads_260 ?_
              refine ap_dup (pc := 261) dX9_reads_261 ?_
              refine ap_getI (pc := 262) (jz := 11) dX9_reads_262 fl_RX9_143 sh_100 rfl rfl ?_
              try simp (disch := omega) only [am_same, am_k, am_j, h9, hl, hc]
              refine ap_ild_5 (pc := 265) dX9_reads_265 ?_
              refine ap_bipush (pc := 267) dX9_reads_267 bp_59 ?_
              refine ap_icmp_ne (pc := 269) 276 dX9_reads_269 rfl (Or.inr ⟨⟨by omega, by omega⟩, ⟨by omega, by omega⟩⟩) (fun c269 => ?_) (fun c269 => ?_)
              · skip
                exfalso; omega
              · skip
                refine ap_const (pc := 272) dX9_reads_272 ?_
                refine ap_goto (pc := 273) 277 dX9_reads_273 rfl ?_
                refine ap_iadd (pc := 277) dX9_reads_277 ?_
                refine ap_putI (pc := 278) (jz := 11) dX9_reads_278 fn_RX9_143 sh_100 rfl rfl (fun z => by cases z) ?_
                refine ap_ild_5 (pc := 281) dX9_reads_281 ?_
                refine ap_bipush (pc := 283) dX9_reads_283 bp_59 ?_
                refine ap_icmp_ne (pc := 285) 292 dX9_reads_285 rfl (Or.inr ⟨⟨by omega, by omega⟩, ⟨by omega, by omega⟩⟩) (fun c285 => ?_) (fun c285 => ?_)
                · skip
                  exfalso; omega
                · skip
                  refine ap_const (pc := 288) dX9_reads_288 ?_
                  refine ap_goto (pc := 289) 304 dX9_reads_289 rfl ?_
                  refine ap_ist_2 (pc := 304) dX9_reads_304 (by decide) ?_
                  refine ap_ald_0 (pc := 305) dX9_reads_305 ?_
                  refine ap_dup (pc := 306) dX9_reads_306 ?_
                  refine ap_getI (pc := 307) (jz := 9) dX9_reads_307 fl_RX9_146 sh_100 rfl rfl ?_
                  try simp (disch := omega) only [am_same, am_k, am_j, h9, hl, hc]
                  refine ap_const (pc := 310) dX9_reads_310 ?_
                  refine ap_iadd (pc := 311) dX9_reads_311 ?_
                  refine ap_putI (pc := 312) (jz := 9) dX9_reads_312 fn_RX9_146 sh_100 rfl rfl (fun z => by cases z) ?_
                  refine ap_goto (pc := 315) 17 dX9_reads_315 rfl ?_
                  exact (ih c25 _ _ _ (by omega) (by omega) (fun k j q => by rw [am_ne (by omega), am_ne (by omega), am_ne (by omega)]; exact u5 k j q) (fun _ => by simp (disch := omega) only [am_kF]; rw [he.2.2.2]; exact u6 (by omega)) (fun q => by omega) (by rw [am_same]; rfl) (by simp (disch := omega) only [am_same, am_k, am_j]; rw [he.2.2.1, he.1]; rw [if_pos rfl]; rw [if_neg (by omega)] at u9; omega)).bk ⟨rfl, rfl, rfl, by rw [he.2.1], rfl, trivial, trivial, trivial, trivial⟩ rfl
            · skip
              obtain rfl : s = 2 := by omega
              obtain rfl : x = 1 := by omega
              have he := rd_3 (T := T) (r := r) (i := i) z.1 (by omega)
              have h7 := i7 z.1
              have hrw := u6 (by omega)
              refine ap_ild_2 (pc := 177) dX9_reads_177 ?_
              refine ap_if_ne (pc := 178) 190 dX9_reads_178 rfl ⟨by omega, by omega⟩ (fun _ => ?_) (fun c178 => absurd c178 (by decide))
              refine ap_ild_6 (pc := 190) dX9_reads_190 ?_
              refine ap_if_eq (pc := 192) 198 dX9_reads_192 rfl ⟨by omega, by omega⟩ (fun c192 => absurd c192 (by decide)) (fun _ => ?_)
              refine ap_iinc_4 (pc := 195) dX9_reads_195 (by decide) ?_
              refine ap_ild_1 (pc := 198) dX9_reads_198 ?_
              refine ap_if_eq (pc := 199) 219 dX9_reads_199 rfl ⟨by omega, by omega⟩ (fun c199 => absurd c199 (by decide)) (fun _ => ?_)
              refine ap_ild_2 (pc := 202) dX9_reads_202 ?_
              refine ap_const (pc := 203) dX9_reads_203 ?_
              refine ap_icmp_ne (pc := 204) 219 dX9_reads_204 rfl (Or.inr ⟨⟨by omega, by omega⟩, ⟨by omega, by omega⟩⟩) (fun _ => ?_) (fun c204 => absurd c204 (by decide))
              refine ap_ild_1 (pc := 219) dX9_reads_219 ?_
              refine ap_if_eq (pc := 220) 260 dX9_reads_220 rfl ⟨by omega, by omega⟩ (fun c220 => absurd c220 (by decide)) (fun _ => ?_)
              refine ap_ild_6 (pc := 223) dX9_reads_223 ?_
              refine ap_if_eq (pc := 225) 260 dX9_reads_225 rfl ⟨by omega, by omega⟩ (fun c225 => absurd c225 (by decide)) (fun _ => ?_)
              refine ap_ald_0 (pc := 228) dX9_reads_228 ?_
              refine ap_getR (pc := 229) dX9_reads_229 fl_RX9_7 sh_100 rfl ?_
              refine ap_bipush (pc := 232) dX9_reads_232 bp_126 ?_
              refine ap_const (pc := 234) dX9_reads_234 ?_
              refine ap_ild_3 (pc := 235) dX9_reads_235 ?_
              refine ap_imul (pc := 236) dX9_reads_236 ?_
              refine ap_iadd (pc := 237) dX9_reads_237 ?_
              refine ap_ild_4 (pc := 238) dX9_reads_238 ?_
              refine ap_iadd (pc := 240) dX9_reads_240 ?_
              refine ap_ild_5 (pc := 241) dX9_reads_241 ?_
              refine ap_bipush (pc := 243) dX9_reads_243 bp_97 ?_
              refine ap_isub (pc := 245) dX9_reads_245 ?_
              refine ap_iastore (pc := 246) dX9_reads_246 sh_101 (by omega) (by omega) (by decide) ?_
              refine ap_ald_0 (pc := 247) dX9_reads_247 ?_
              refine ap_getR (pc := 248) dX9_reads_248 fl_RX9_7 sh_100 rfl ?_
              refine ap_bipush (pc := 251) dX9_reads_251 bp_126 ?_
              refine ap_const (pc := 253) dX9_reads_253 ?_
              refine ap_ild_3 (pc := 254) dX9_reads_254 ?_
              refine ap_imul (pc := 255) dX9_reads_255 ?_
              refine ap_iadd (pc := 256) dX9_reads_256 ?_
              refine ap_ild_4 (pc := 257) dX9_reads_257 ?_
              refine ap_iastore (pc := 259) dX9_reads_259 sh_101 (by omega) (by omega) (by decide) ?_
              refine ap_ald_0 (pc := 260) dX9_reads_260 ?_
              refine ap_dup (pc := 261) dX9_reads_261 ?_
              refine ap_getI (pc := 262) (jz := 11) dX9_reads_262 fl_RX9_143 sh_100 rfl rfl ?_
              try simp (disch := omega) only [am_same, am_k, am_j, h9, hl, hc]
              refine ap_ild_5 (pc := 265) dX9_reads_265 ?_
              refine ap_bipush (pc := 267) dX9_reads_267 bp_59 ?_
              refine ap_icmp_ne (pc := 269) 276 dX9_reads_269 rfl (Or.inr ⟨⟨by omega, by omega⟩, ⟨by omega, by omega⟩⟩) (fun c269 => ?_) (fun c269 => ?_)
              · skip
                refine ap_const (pc := 276) dX9_reads_276 ?_
                refine ap_iadd (pc := 277) dX9_reads_277 ?_
                refine ap_putI (pc := 278) (jz := 11) dX9_reads_278 fn_RX9_143 sh_100 rfl rfl (fun z => by cases z) ?_
                refine ap_ild_5 (pc := 281) dX9_reads_281 ?_
                refine ap_bipush (pc := 283) dX9_reads_283 bp_59 ?_
                refine ap_icmp_ne (pc := 285) 292 dX9_reads_285 rfl (Or.inr ⟨⟨by omega, by omega⟩, ⟨by omega, by omega⟩⟩) (fun c285 => ?_) (fun c285 => ?_)
                · skip
                  refine ap_ild_2 (pc := 292) dX9_reads_292 ?_
                  refine ap_const (pc := 293) dX9_reads_293 ?_
                  refine ap_icmp_ge (pc := 294) 303 dX9_reads_294 rfl ⟨by omega, by omega⟩ ⟨by omega, by omega⟩ (fun _ => ?_) (fun c294 => absurd c294 (by decide))
                  refine ap_const (pc := 303) dX9_reads_303 ?_
                  refine ap_ist_2 (pc := 304) dX9_reads_304 (by decide) ?_
                  refine ap_ald_0 (pc := 305) dX9_reads_305 ?_
                  refine ap_dup (pc := 306) dX9_reads_306 ?_
                  refine ap_getI (pc := 307) (jz := 9) dX9_reads_307 fl_RX9_146 sh_100 rfl rfl ?_
                  try simp (disch := omega) only [am_same, am_k, am_j, h9, hl, hc]
                  refine ap_const (pc := 310) dX9_reads_310 ?_
                  refine ap_iadd (pc := 311) dX9_reads_311 ?_
                  refine ap_putI (pc := 312) (jz := 9) dX9_reads_312 fn_RX9_146 sh_100 rfl rfl (fun z => by cases z) ?_
                  refine ap_goto (pc := 315) 17 dX9_reads_315 rfl ?_
                  exact (ih c25 _ _ _ (by omega) (by omega) (fun k j q => by rw [am_ne (by omega), am_ne (by omega), am_ne (by omega), am_ne (by omega), am_ne (by omega)]; exact u5 k j q) (fun _ => by simp (disch := omega) only [am_kF, am_rowF]; rw [he.2.2.2, hrw, h7, show 126 + 4 * fA T r i + (many + 1) = 126 + 4 * fA T r i + 1 + (aA T r i - 2) by omega, show many + 1 = aA T r i - 2 + 1 by omega]) (fun q => by omega) (by rw [am_same]; rfl) (by simp (disch := omega) only [am_same, am_k, am_j]; rw [he.2.2.1, he.1]; rw [if_neg (by omega)]; rw [if_neg (by omega)] at u9; omega)).bk ⟨rfl, rfl, rfl, by rw [he.2.1], rfl, trivial, trivial, trivial, trivial⟩ rfl
                · skip
                  exfalso; omega
              · skip
                exfalso; omega
            
          · skip
            exfalso; omega
        refine ap_ald_0 (pc := 118) dX9_reads_118 ?_
        refine ap_ild_7 (pc := 119) dX9_reads_119 ?_
        refine ap_if_ne (pc := 121) 128 dX9_reads_121 rfl ⟨by omega, by omega⟩ (fun c121 => ?_) (fun c121 => ?_)
        · skip
          refine ap_ild_6 (pc := 128) dX9_reads_128 ?_
          refine ap_if_eq (pc := 130) 149 dX9_reads_130 rfl ⟨by omega, by omega⟩ (fun c130 => ?_) (fun c130 => ?_)
          · skip
            refine ap_ild_6 (pc := 149) dX9_reads_149 ?_
            refine ap_if_eq (pc := 151) 164 dX9_reads_151 rfl ⟨by omega, by omega⟩ (fun c151 => ?_) (fun c151 => ?_)
            · skip
              refine ap_const (pc := 164) dX9_reads_164 ?_
              exact j165 _ (by unfold rsn; (repeat' split) <;> omega)
            · skip
              refine ap_ild_4 (pc := 154) dX9_reads_154 ?_
              refine ap_const (pc := 156) dX9_reads_156 ?_
              refine ap_icmp_ne (pc := 157) 164 dX9_reads_157 rfl (Or.inr ⟨⟨by omega, by omega⟩, ⟨by omega, by omega⟩⟩) (fun c157 => ?_) (fun c157 => ?_)
              · skip
                refine ap_const (pc := 164) dX9_reads_164 ?_
                exact j165 _ (by unfold rsn; (repeat' split) <;> omega)
              · skip
                refine ap_const (pc := 160) dX9_reads_160 ?_
                refine ap_goto (pc := 161) 165 dX9_reads_161 rfl ?_
                exact j165 _ (by unfold rsn; (repeat' split) <;> omega)
          · skip
            refine ap_ald_0 (pc := 133) dX9_reads_133 ?_
            refine ap_ild_5 (pc := 134) dX9_reads_134 ?_
            refine ap_bipush (pc := 136) dX9_reads_136 bp_97 ?_
            refine ap_isub (pc := 138) dX9_reads_138 ?_
            refine ap_invV (pc := 139) dX9_reads_139 mv_RX9_47 sh_100 (av := [_]) (rest := [_]) (qX9_isColor _ _ ⟨by omega, by omega⟩ (by rw [hK0]; omega)) rfl rfl (Nat.le_of_ble_eq_true rfl) (by decide) (by decide) ?_
            rintro _ _ ⟨⟨w139, rfl⟩ | ⟨w139, rfl⟩, rfl⟩
            all_goals rw [hK0] at w139
            · skip
              refine ap_if_ne (pc := 142) 149 dX9_reads_142 rfl ⟨by omega, by omega⟩ (fun _ => ?_) (fun c142 => absurd c142 (by decide))
              refine ap_ild_6 (pc := 149) dX9_reads_149 ?_
              refine ap_if_eq (pc := 151) 164 dX9_reads_151 rfl ⟨by omega, by omega⟩ (fun c151 => ?_) (fun c151 => ?_)
              · skip
                refine ap_const (pc := 164) dX9_reads_164 ?_
                exact j165 _ (by unfold rsn; (repeat' split) <;> omega)
              · skip
                refine ap_ild_4 (pc := 154) dX9_reads_154 ?_
                refine ap_const (pc := 156) dX9_reads_156 ?_
                refine ap_icmp_ne (pc := 157) 164 dX9_reads_157 rfl (Or.inr ⟨⟨by omega, by omega⟩, ⟨by omega, by omega⟩⟩) (fun c157 => ?_) (fun c157 => ?_)
                · skip
                  refine ap_const (pc := 164) dX9_reads_164 ?_
                  exact j165 _ (by unfold rsn; (repeat' split) <;> omega)
                · skip
                  refine ap_const (pc := 160) dX9_reads_160 ?_
                  refine ap_goto (pc := 161) 165 dX9_reads_161 rfl ?_
                  exact j165 _ (by unfold rsn; (repeat' split) <;> omega)
            · skip
              refine ap_if_ne (pc := 142) 149 dX9_reads_142 rfl ⟨by omega, by omega⟩ (fun c142 => absurd c142 (by decide)) (fun _ => ?_)
              refine ap_const (pc := 145) dX9_reads_145 ?_
              refine ap_goto (pc := 146) 165 dX9_reads_146 rfl ?_
              exact j165 _ (by unfold rsn; (repeat' split) <;> omega)
        · skip
          refine ap_const (pc := 124) dX9_reads_124 ?_
          refine ap_goto (pc := 125) 165 dX9_reads_125 rfl ?_
          exact j165 _ (by unfold rsn; (repeat' split) <;> omega)
      refine ap_ild_2 (pc := 63) dX9_reads_63 ?_
      refine ap_if_ne (pc := 64) 79 dX9_reads_64 rfl ⟨by omega, by omega⟩ (fun c64 => ?_) (fun c64 => ?_)
      · skip
        refine ap_ild_2 (pc := 79) dX9_reads_79 ?_
        refine ap_const (pc := 80) dX9_reads_80 ?_
        refine ap_icmp_ne (pc := 81) 99 dX9_reads_81 rfl (Or.inr ⟨⟨by omega, by omega⟩, ⟨by omega, by omega⟩⟩) (fun c81 => ?_) (fun c81 => ?_)
        · skip
          refine ap_ild_6 (pc := 99) dX9_reads_99 ?_
          refine ap_if_ne (pc := 101) 111 dX9_reads_101 rfl ⟨by omega, by omega⟩ (fun c101 => ?_) (fun c101 => ?_)
          · skip
            refine ap_const (pc := 111) dX9_reads_111 ?_
            refine ap_goto (pc := 112) 116 dX9_reads_112 rfl ?_
            refine ap_ist_7 (pc := 116) dX9_reads_116 (by decide) ?_
            exact j118 _ (by omega)
          · skip
            refine ap_ild_5 (pc := 104) dX9_reads_104 ?_
            refine ap_bipush (pc := 106) dX9_reads_106 bp_59 ?_
            refine ap_icmp_ne (pc := 108) 115 dX9_reads_108 rfl (Or.inr ⟨⟨by omega, by omega⟩, ⟨by omega, by omega⟩⟩) (fun c108 => ?_) (fun c108 => ?_)
            · skip
              refine ap_const (pc := 115) dX9_reads_115 ?_
              refine ap_ist_7 (pc := 116) dX9_reads_116 (by decide) ?_
              exact j118 _ (by omega)
            · skip
              refine ap_const (pc := 111) dX9_reads_111 ?_
              refine ap_goto (pc := 112) 116 dX9_reads_112 rfl ?_
              refine ap_ist_7 (pc := 116) dX9_reads_116 (by decide) ?_
              exact j118 _ (by omega)
        · skip
          refine ap_ild_5 (pc := 84) dX9_reads_84 ?_
          refine ap_bipush (pc := 86) dX9_reads_86 bp_61 ?_
          refine ap_icmp_ne (pc := 88) 95 dX9_reads_88 rfl (Or.inr ⟨⟨by omega, by omega⟩, ⟨by omega, by omega⟩⟩) (fun c88 => ?_) (fun c88 => ?_)
          · skip
            refine ap_const (pc := 95) dX9_reads_95 ?_
            refine ap_goto (pc := 96) 116 dX9_reads_96 rfl ?_
            refine ap_ist_7 (pc := 116) dX9_reads_116 (by decide) ?_
            exact j118 _ (by omega)
          · skip
            refine ap_const (pc := 91) dX9_reads_91 ?_
            refine ap_goto (pc := 92) 116 dX9_reads_92 rfl ?_
            refine ap_ist_7 (pc := 116) dX9_reads_116 (by decide) ?_
            exact j118 _ (by omega)
      · skip
        refine ap_ild_5 (pc := 67) dX9_reads_67 ?_
        refine ap_bipush (pc := 69) dX9_reads_69 bp_48 ?_
        refine ap_bipush (pc := 71) dX9_reads_71 bp_53 ?_
        refine ap_invS (pc := 73) dX9_reads_73 ms_RX9_32 (av := [_, _, _]) (rest := []) (qX9_in _ _ _ _ ⟨by omega, by omega⟩ ⟨by omega, by omega⟩ ⟨by omega, by omega⟩) rfl rfl (Nat.le_of_ble_eq_true rfl) (by decide) (by decide) ?_
        rintro _ _ ⟨⟨w73, rfl⟩ | ⟨w73, rfl⟩, rfl⟩
        · skip
          refine ap_goto (pc := 76) 116 dX9_reads_76 rfl ?_
          refine ap_ist_7 (pc := 116) dX9_reads_116 (by decide) ?_
          exact j118 _ (by omega)
        · skip
          refine ap_goto (pc := 76) 116 dX9_reads_76 rfl ?_
          refine ap_ist_7 (pc := 116) dX9_reads_116 (by decide) ?_
          exact j118 _ (by omega)
    refine ap_ild_2 (pc := 39) dX9_reads_39 ?_
    refine ap_const (pc := 40) dX9_reads_40 ?_
    refine ap_icmp_ne (pc := 41) 60 dX9_reads_41 rfl (Or.inr ⟨⟨by omega, by omega⟩, ⟨by omega, by omega⟩⟩) (fun c41 => ?_) (fun c41 => ?_)
    · skip
      refine ap_const (pc := 60) dX9_reads_60 ?_
      refine ap_ist_6 (pc := 61) dX9_reads_61 (by decide) ?_
      exact j63 _ (by omega)
    · skip
      refine ap_ild_5 (pc := 44) dX9_reads_44 ?_
      refine ap_bipush (pc := 46) dX9_reads_46 bp_97 ?_
      refine ap_bipush (pc := 48) dX9_reads_48 bp_108 ?_
      refine ap_invS (pc := 50) dX9_reads_50 ms_RX9_32 (av := [_, _, _]) (rest := []) (qX9_in _ _ _ _ ⟨by omega, by omega⟩ ⟨by omega, by omega⟩ ⟨by omega, by omega⟩) rfl rfl (Nat.le_of_ble_eq_true rfl) (by decide) (by decide) ?_
      rintro _ _ ⟨⟨w50, rfl⟩ | ⟨w50, rfl⟩, rfl⟩
      · skip
        refine ap_if_eq (pc := 53) 60 dX9_reads_53 rfl ⟨by omega, by omega⟩ (fun c53 => absurd c53 (by decide)) (fun _ => ?_)
        refine ap_const (pc := 56) dX9_reads_56 ?_
        refine ap_goto (pc := 57) 61 dX9_reads_57 rfl ?_
        refine ap_ist_6 (pc := 61) dX9_reads_61 (by decide) ?_
        exact j63 _ (by omega)
      · skip
        refine ap_if_eq (pc := 53) 60 dX9_reads_53 rfl ⟨by omega, by omega⟩ (fun _ => ?_) (fun c53 => absurd c53 (by decide))
        refine ap_const (pc := 60) dX9_reads_60 ?_
        refine ap_ist_6 (pc := 61) dX9_reads_61 (by decide) ?_
        exact j63 _ (by omega)
