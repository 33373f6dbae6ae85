
/-! the law's walk: the shapes, the script, the two objects -/
def LJ (X : AX) (pc : Nat) (L : List (Option AV)) (S : List AV) (sh : List ShC) (m : AM) : Prop := AW mL_law (X, 10, 366, 107, 10451) pc L S (sh, m) (fun v h => v = some 1 ∧ h.1 = SH)
def LQ (X : AX) (pc : Nat) (L : List (Option AV)) (S : List AV) (m : AM) : Prop := LJ X pc L S SH m
abbrev L4 (i : Int) : List (Option AV) := [some (.inr 1000), some (.inr 0), some (.inr 100), some (.inl i)]
def sc (X : AX) (j : Int) : Int := (X.2 j.toNat).toInt
theorem sc_rng (X : AX) (j : Int) : rng (sc X j) := rng_toInt _
theorem and31 (x : Int) : 0 ≤ iAnd x 31 ∧ iAnd x 31 ≤ 31 := by
  have h : (Int32.ofInt x &&& Int32.ofInt 31).toBitVec.toNat ≤ 31 := by
    rw [Int32.toBitVec_and, BitVec.toNat_and]
    exact Nat.and_le_right
  have e : (Int32.ofInt x &&& Int32.ofInt 31).toInt = ((Int32.ofInt x &&& Int32.ofInt 31).toBitVec.toNat : Int) := by
    show (Int32.ofInt x &&& Int32.ofInt 31).toBitVec.toInt = _
    rw [BitVec.toInt_eq_toNat_of_lt (by omega)]
  unfold iAnd
  rw [e]
  omega
section LPS
variable {X : AX} {pc : Nat} {L : List (Option AV)} {S : List AV} {sh : List ShC} {m : AM} {i : Int}
theorem lp_s {a1 a2 a3 : Option AV} (hd : decode cL_law pc = .ok (.aload_n 0, 1)) (k : LQ X (pc + 1) [some (.inr 1000), a1, a2, a3] (.inr 1000 :: S) m) : LQ X pc [some (.inr 1000), a1, a2, a3] S m := aw_ald_n hd rfl rfl k
theorem lp_x (hd : decode cL_law pc = .ok (.aload_n 1, 1)) (k : LQ X (pc + 1) (L4 i) (.inr 0 :: S) m) : LQ X pc (L4 i) S m := aw_ald_n hd rfl rfl k
theorem lp_m (hd : decode cL_law pc = .ok (.aload_n 2, 1)) (k : LQ X (pc + 1) (L4 i) (.inr 100 :: S) m) : LQ X pc (L4 i) S m := aw_ald_n hd rfl rfl k
theorem lp_i (hd : decode cL_law pc = .ok (.iload_n 3, 1)) (k : LQ X (pc + 1) (L4 i) (.inl i :: S) m) : LQ X pc (L4 i) S m := aw_ild_n hd rfl rfl k
theorem lp_const {n : Int} (hd : decode cL_law pc = .ok (.iconst n, 1)) (k : LQ X (pc + 1) L (.inl n :: S) m) : LQ X pc L S m := aw_const hd k
theorem lp_add {x y : Int} (hd : decode cL_law pc = .ok (.iadd, 1)) (k : LQ X (pc + 1) L (.inl (x + y) :: S) m) : LQ X pc L (.inl y :: .inl x :: S) m := aw_iadd hd k
theorem lp_sub {x y : Int} (hd : decode cL_law pc = .ok (.isub, 1)) (k : LQ X (pc + 1) L (.inl (x - y) :: S) m) : LQ X pc L (.inl y :: .inl x :: S) m := aw_isub hd k
theorem lp_and {x y : Int} (hd : decode cL_law pc = .ok (.iand, 1)) (k : LQ X (pc + 1) L (.inl (iAnd x y) :: S) m) : LQ X pc L (.inl y :: .inl x :: S) m := aw_iand hd k
theorem lp_bipush {n : Int} (hd : decode cL_law pc = .ok (.bipush n, 2)) (hn : (Int8.ofInt n).toInt32 = Int32.ofInt n) (k : LQ X (pc + 2) L (.inl n :: S) m) : LQ X pc L S m := aw_bipush hd hn k
theorem lp_ld {j : Int} (hd : decode cL_law pc = .ok (.iaload, 1)) (hX : X.1 ≤ 2048) (h0 : 0 ≤ j) (h1 : j < X.1) (k : LQ X (pc + 1) L (.inl (sc X j) :: S) m) : LQ X pc L (.inl j :: .inr 1000 :: S) m := aw_sld hd h0 h1 (by show X.1 < 2147483648; omega) k
theorem lp_len (hd : decode cL_law pc = .ok (.arraylength, 1)) (k : LQ X (pc + 1) L (.inl (X.1 : Int) :: S) m) : LQ X pc L (.inr 1000 :: S) m := aw_slen hd k
theorem lp_eq {x off : Int} (tgt : Nat) (hd : decode cL_law pc = .ok (.if_icmp .eq off, 3)) (ht : (pc : Int) + off = (tgt : Int)) (k : LQ X tgt L S m) : LQ X pc L (.inl x :: .inl x :: S) m := aw_icmp_eq hd ht (Or.inl rfl) (fun _ => k) (fun c => absurd rfl c)
theorem lp_gt {x y off : Int} (tgt : Nat) (hd : decode cL_law pc = .ok (.if_icmp .gt off, 3)) (ht : (pc : Int) + off = (tgt : Int)) (hx : rng x) (hy : rng y) (k1 : x > y → LQ X tgt L S m) (k2 : x ≤ y → LQ X (pc + 3) L S m) : LQ X pc L (.inl y :: .inl x :: S) m := aw_icmp_gt hd ht hx hy k1 k2
theorem lp_goto {off : Int} (tgt : Nat) (hd : decode cL_law pc = .ok (.goto off, 3)) (ht : (pc : Int) + off = (tgt : Int)) (k : LQ X tgt L S m) : LQ X pc L S m := aw_goto hd ht k
theorem lp_iinc {n : Int} (hd : decode cL_law pc = .ok (.iinc 3 n, 3)) (k : LQ X (pc + 3) (L4 (i + n)) S m) : LQ X pc (L4 i) S m := aw_iinc hd (by decide) rfl rfl k
theorem lp_tswIn {dflt lo hi : Int} {offs : Array Int} {len : Nat} {x off : Int} (tgt : Nat) (hd : decode cL_law pc = .ok (.tableswitch dflt lo hi offs, len)) (hr : rng x) (h1 : lo ≤ x) (h2 : x ≤ hi) (ho : offs[(x - lo).toNat]? = some off) (ht : (pc : Int) + off = (tgt : Int)) (k : LQ X tgt L S m) : LQ X pc L (.inl x :: S) m := aw_tswIn hd hr h1 h2 ho ht k
theorem lp_tswOut {dflt lo hi : Int} {offs : Array Int} {len : Nat} {x : Int} (tgt : Nat) (hd : decode cL_law pc = .ok (.tableswitch dflt lo hi offs, len)) (hr : rng x) (h1 : x < lo ∨ hi < x) (ht : (pc : Int) + dflt = (tgt : Int)) (k : LQ X tgt L S m) : LQ X pc L (.inl x :: S) m := aw_tswOut hd hr h1 ht k
theorem lp_ret (hd : decode cL_law pc = .ok (.ireturn, 1)) : LQ X pc L [.inl 1] m := aw_ireturn hd (Or.inr ⟨rfl, Or.inr rfl⟩) SH_len SH_sl ⟨rfl, rfl⟩
theorem lp_arg (k p1 p2 p3 p4 p5 : Nat) (hX : X.1 ≤ 2048) (b0 : 0 ≤ i + (k : Int)) (b1 : i + (k : Int) < X.1) (h0 : decode cL_law pc = .ok (.aload_n 0, 1)) (h1 : decode cL_law p1 = .ok (.iload_n 3, 1)) (h2 : decode cL_law p2 = .ok (.iconst (k : Int), 1)) (h3 : decode cL_law p3 = .ok (.iadd, 1)) (h4 : decode cL_law p4 = .ok (.iaload, 1)) (e1 : pc + 1 = p1) (e2 : pc + 2 = p2) (e3 : pc + 3 = p3) (e4 : pc + 4 = p4) (e5 : pc + 5 = p5)
    (kk : LQ X p5 (L4 i) (.inl (sc X (i + (k : Int))) :: S) m) : LQ X pc (L4 i) S m := by
  subst e1; subst e2; subst e3; subst e4; subst e5
  exact lp_s h0 (lp_i h1 (lp_const h2 (lp_add h3 (lp_ld h4 hX b0 b1 kk))))
theorem lp_inv {idx ci n q K' : Nat} {M' : MI} {av rest : List AV} {fs : List ShF} {Q' : Option Int → AM → Prop} (hd : decode cL_law pc = .ok (.invokevirtual idx, 3)) (hb : aMV RL idx M' ci n) (hc : SH[q]? = some (.inl (ci, fs))) (hM : CS K' M' (.inr q :: av) m Q') (hS : S = av.reverse ++ .inr q :: rest) (hn : av.length = n) (hrest : rest.length ≤ 8) (hK : K' ≤ 7) (hml : M'.2.2.1 ≤ 17)
    (kk : ∀ v m', Q' v m' → LQ X (pc + 3) L (v.toList.map .inl ++ rest) m') : LQ X pc L S m := by
  obtain ⟨r1, r2, r3⟩ := rk_call (K := 8) (d := 10) (r := 366) ⟨by omega, by omega⟩ (Nat.succ_le_succ hK) hml
  refine aw_invV hd hb hc hS hn hrest (hM X _ _ r1) r2 r3 (by rw [SH_len]; decide) (aKeep0 _ _ _) (Nat.le_of_eq SH_len) (Nat.le_of_eq SH_sl) (fun v h' hq _ _ => ?_)
  obtain ⟨sh', m'⟩ := h'
  obtain ⟨e, hq⟩ := hq
  simp only at e hq
  subst e
  exact kk v m' hq
theorem len_v (v : Option Int) : (v.toList.map Sum.inl ++ [] : List AV).length ≤ 8 := by cases v <;> simp
theorem l_0 (I : IN m) (h0 : 0 ≤ i) (h1 : i + 3 < X.1) (hX : X.1 ≤ 2048) (kk : ∀ m', IN m' → LQ X 702 (L4 i) [] m') : LQ X 136 (L4 i) [] m := by
  obtain ⟨K1, K2, P, hK, q1, hB⟩ := b_color I (sc_rng X (i + ((1 : Nat) : Int))) (sc_rng X (i + ((2 : Nat) : Int))) (sc_rng X (i + ((3 : Nat) : Int)))
  refine lp_x (pc := 136) dL_law_136 ?_
  refine lp_arg (pc := 137) 1 138 139 140 141 142 hX (by omega) (by omega) dL_law_137 dL_law_138 dL_law_139 dL_law_140 dL_law_141 rfl rfl rfl rfl rfl ?_
  refine lp_arg (pc := 142) 2 143 144 145 146 147 hX (by omega) (by omega) dL_law_142 dL_law_143 dL_law_144 dL_law_145 dL_law_146 rfl rfl rfl rfl rfl ?_
  refine lp_arg (pc := 147) 3 148 149 150 151 152 hX (by omega) (by omega) dL_law_147 dL_law_148 dL_law_149 dL_law_150 dL_law_151 rfl rfl rfl rfl rfl ?_
  refine lp_inv (pc := 152) (av := [.inl (sc X (i + ((1 : Nat) : Int))), .inl (sc X (i + ((2 : Nat) : Int))), .inl (sc X (i + ((3 : Nat) : Int)))]) (rest := []) dL_law_152 mv_RL_13 sh_0 q1 rfl rfl (by decide) hK.1 (by decide) (fun v m1 hP => ?_)
  obtain ⟨P2, q2, hB2⟩ := hB v m1 hP
  refine lp_m (pc := 155) dL_law_155 ?_
  refine lp_arg (pc := 156) 1 157 158 159 160 161 hX (by omega) (by omega) dL_law_156 dL_law_157 dL_law_158 dL_law_159 dL_law_160 rfl rfl rfl rfl rfl ?_
  refine lp_arg (pc := 161) 2 162 163 164 165 166 hX (by omega) (by omega) dL_law_161 dL_law_162 dL_law_163 dL_law_164 dL_law_165 rfl rfl rfl rfl rfl ?_
  refine lp_arg (pc := 166) 3 167 168 169 170 171 hX (by omega) (by omega) dL_law_166 dL_law_167 dL_law_168 dL_law_169 dL_law_170 rfl rfl rfl rfl rfl ?_
  refine lp_inv (pc := 171) (av := [.inl (sc X (i + ((1 : Nat) : Int))), .inl (sc X (i + ((2 : Nat) : Int))), .inl (sc X (i + ((3 : Nat) : Int)))]) (rest := v.toList.map .inl ++ []) dL_law_171 mv_RL_17 sh_100 q2 rfl rfl (len_v v) hK.2 (by decide) (fun v2 m2 hQ => ?_)
  obtain ⟨⟨x, e1, e2⟩, I2⟩ := hB2 v2 m2 hQ
  subst e1; subst e2
  exact lp_eq (pc := 174) 702 dL_law_174 rfl (kk m2 I2)
theorem l_1 (I : IN m) (h0 : 0 ≤ i) (h1 : i + 3 < X.1) (hX : X.1 ≤ 2048) (kk : ∀ m', IN m' → LQ X 702 (L4 i) [] m') : LQ X 179 (L4 i) [] m := by
  obtain ⟨K1, K2, P, hK, q1, hB⟩ := b_colorInfo I (sc_rng X (i + ((1 : Nat) : Int))) (sc_rng X (i + ((2 : Nat) : Int)))
  refine lp_x (pc := 179) dL_law_179 ?_
  refine lp_arg (pc := 180) 1 181 182 183 184 185 hX (by omega) (by omega) dL_law_180 dL_law_181 dL_law_182 dL_law_183 dL_law_184 rfl rfl rfl rfl rfl ?_
  refine lp_arg (pc := 185) 2 186 187 188 189 190 hX (by omega) (by omega) dL_law_185 dL_law_186 dL_law_187 dL_law_188 dL_law_189 rfl rfl rfl rfl rfl ?_
  refine lp_inv (pc := 190) (av := [.inl (sc X (i + ((1 : Nat) : Int))), .inl (sc X (i + ((2 : Nat) : Int)))]) (rest := []) dL_law_190 mv_RL_18 sh_0 q1 rfl rfl (by decide) hK.1 (by decide) (fun v m1 hP => ?_)
  obtain ⟨P2, q2, hB2⟩ := hB v m1 hP
  refine lp_m (pc := 193) dL_law_193 ?_
  refine lp_arg (pc := 194) 1 195 196 197 198 199 hX (by omega) (by omega) dL_law_194 dL_law_195 dL_law_196 dL_law_197 dL_law_198 rfl rfl rfl rfl rfl ?_
  refine lp_arg (pc := 199) 2 200 201 202 203 204 hX (by omega) (by omega) dL_law_199 dL_law_200 dL_law_201 dL_law_202 dL_law_203 rfl rfl rfl rfl rfl ?_
  refine lp_inv (pc := 204) (av := [.inl (sc X (i + ((1 : Nat) : Int))), .inl (sc X (i + ((2 : Nat) : Int)))]) (rest := v.toList.map .inl ++ []) dL_law_204 mv_RL_22 sh_100 q2 rfl rfl (len_v v) hK.2 (by decide) (fun v2 m2 hQ => ?_)
  obtain ⟨⟨x, e1, e2⟩, I2⟩ := hB2 v2 m2 hQ
  subst e1; subst e2
  exact lp_eq (pc := 207) 702 dL_law_207 rfl (kk m2 I2)
theorem l_2 (I : IN m) (h0 : 0 ≤ i) (h1 : i + 3 < X.1) (hX : X.1 ≤ 2048) (kk : ∀ m', IN m' → LQ X 702 (L4 i) [] m') : LQ X 212 (L4 i) [] m := by
  obtain ⟨K1, K2, P, hK, q1, hB⟩ := b_put I (sc_rng X (i + ((1 : Nat) : Int))) (sc_rng X (i + ((2 : Nat) : Int)))
  refine lp_x (pc := 212) dL_law_212 ?_
  refine lp_arg (pc := 213) 1 214 215 216 217 218 hX (by omega) (by omega) dL_law_213 dL_law_214 dL_law_215 dL_law_216 dL_law_217 rfl rfl rfl rfl rfl ?_
  refine lp_arg (pc := 218) 2 219 220 221 222 223 hX (by omega) (by omega) dL_law_218 dL_law_219 dL_law_220 dL_law_221 dL_law_222 rfl rfl rfl rfl rfl ?_
  refine lp_inv (pc := 223) (av := [.inl (sc X (i + ((1 : Nat) : Int))), .inl (sc X (i + ((2 : Nat) : Int)))]) (rest := []) dL_law_223 mv_RL_23 sh_0 q1 rfl rfl (by decide) hK.1 (by decide) (fun v m1 hP => ?_)
  obtain ⟨P2, q2, hB2⟩ := hB v m1 hP
  refine lp_m (pc := 226) dL_law_226 ?_
  refine lp_arg (pc := 227) 1 228 229 230 231 232 hX (by omega) (by omega) dL_law_227 dL_law_228 dL_law_229 dL_law_230 dL_law_231 rfl rfl rfl rfl rfl ?_
  refine lp_arg (pc := 232) 2 233 234 235 236 237 hX (by omega) (by omega) dL_law_232 dL_law_233 dL_law_234 dL_law_235 dL_law_236 rfl rfl rfl rfl rfl ?_
  refine lp_inv (pc := 237) (av := [.inl (sc X (i + ((1 : Nat) : Int))), .inl (sc X (i + ((2 : Nat) : Int)))]) (rest := v.toList.map .inl ++ []) dL_law_237 mv_RL_26 sh_100 q2 rfl rfl (len_v v) hK.2 (by decide) (fun v2 m2 hQ => ?_)
  obtain ⟨⟨x, e1, e2⟩, I2⟩ := hB2 v2 m2 hQ
  subst e1; subst e2
  exact lp_eq (pc := 240) 702 dL_law_240 rfl (kk m2 I2)
theorem l_3 (I : IN m) (h0 : 0 ≤ i) (h1 : i + 3 < X.1) (hX : X.1 ≤ 2048) (kk : ∀ m', IN m' → LQ X 702 (L4 i) [] m') : LQ X 245 (L4 i) [] m := by
  obtain ⟨K1, K2, P, hK, q1, hB⟩ := b_takeOff I (sc_rng X (i + ((1 : Nat) : Int)))
  refine lp_x (pc := 245) dL_law_245 ?_
  refine lp_arg (pc := 246) 1 247 248 249 250 251 hX (by omega) (by omega) dL_law_246 dL_law_247 dL_law_248 dL_law_249 dL_law_250 rfl rfl rfl rfl rfl ?_
  refine lp_inv (pc := 251) (av := [.inl (sc X (i + ((1 : Nat) : Int)))]) (rest := []) dL_law_251 mv_RL_27 sh_0 q1 rfl rfl (by decide) hK.1 (by decide) (fun v m1 hP => ?_)
  obtain ⟨P2, q2, hB2⟩ := hB v m1 hP
  refine lp_m (pc := 254) dL_law_254 ?_
  refine lp_arg (pc := 255) 1 256 257 258 259 260 hX (by omega) (by omega) dL_law_255 dL_law_256 dL_law_257 dL_law_258 dL_law_259 rfl rfl rfl rfl rfl ?_
  refine lp_inv (pc := 260) (av := [.inl (sc X (i + ((1 : Nat) : Int)))]) (rest := v.toList.map .inl ++ []) dL_law_260 mv_RL_31 sh_100 q2 rfl rfl (len_v v) hK.2 (by decide) (fun v2 m2 hQ => ?_)
  obtain ⟨⟨x, e1, e2⟩, I2⟩ := hB2 v2 m2 hQ
  subst e1; subst e2
  exact lp_eq (pc := 263) 702 dL_law_263 rfl (kk m2 I2)
theorem l_4 (I : IN m) (h0 : 0 ≤ i) (h1 : i + 3 < X.1) (hX : X.1 ≤ 2048) (kk : ∀ m', IN m' → LQ X 702 (L4 i) [] m') : LQ X 268 (L4 i) [] m := by
  obtain ⟨K1, K2, P, hK, q1, hB⟩ := b_clean I
  refine lp_x (pc := 268) dL_law_268 ?_
  refine lp_inv (pc := 269) (av := []) (rest := []) dL_law_269 mv_RL_32 sh_0 q1 rfl rfl (by decide) hK.1 (by decide) (fun v m1 hP => ?_)
  obtain ⟨P2, q2, hB2⟩ := hB v m1 hP
  refine lp_m (pc := 272) dL_law_272 ?_
  refine lp_inv (pc := 273) (av := []) (rest := v.toList.map .inl ++ []) dL_law_273 mv_RL_36 sh_100 q2 rfl rfl (len_v v) hK.2 (by decide) (fun v2 m2 hQ => ?_)
  obtain ⟨⟨x, e1, e2⟩, I2⟩ := hB2 v2 m2 hQ
  subst e1; subst e2
  exact lp_eq (pc := 276) 702 dL_law_276 rfl (kk m2 I2)
theorem l_5 (I : IN m) (h0 : 0 ≤ i) (h1 : i + 3 < X.1) (hX : X.1 ≤ 2048) (kk : ∀ m', IN m' → LQ X 702 (L4 i) [] m') : LQ X 281 (L4 i) [] m := by
  obtain ⟨K1, K2, P, hK, q1, hB⟩ := b_layer I (sc_rng X (i + ((1 : Nat) : Int))) (sc_rng X (i + ((2 : Nat) : Int))) (sc_rng X (i + ((3 : Nat) : Int)))
  refine lp_x (pc := 281) dL_law_281 ?_
  refine lp_arg (pc := 282) 1 283 284 285 286 287 hX (by omega) (by omega) dL_law_282 dL_law_283 dL_law_284 dL_law_285 dL_law_286 rfl rfl rfl rfl rfl ?_
  refine lp_arg (pc := 287) 2 288 289 290 291 292 hX (by omega) (by omega) dL_law_287 dL_law_288 dL_law_289 dL_law_290 dL_law_291 rfl rfl rfl rfl rfl ?_
  refine lp_arg (pc := 292) 3 293 294 295 296 297 hX (by omega) (by omega) dL_law_292 dL_law_293 dL_law_294 dL_law_295 dL_law_296 rfl rfl rfl rfl rfl ?_
  refine lp_inv (pc := 297) (av := [.inl (sc X (i + ((1 : Nat) : Int))), .inl (sc X (i + ((2 : Nat) : Int))), .inl (sc X (i + ((3 : Nat) : Int)))]) (rest := []) dL_law_297 mv_RL_37 sh_0 q1 rfl rfl (by decide) hK.1 (by decide) (fun v m1 hP => ?_)
  obtain ⟨P2, q2, hB2⟩ := hB v m1 hP
  refine lp_m (pc := 300) dL_law_300 ?_
  refine lp_arg (pc := 301) 1 302 303 304 305 306 hX (by omega) (by omega) dL_law_301 dL_law_302 dL_law_303 dL_law_304 dL_law_305 rfl rfl rfl rfl rfl ?_
  refine lp_arg (pc := 306) 2 307 308 309 310 311 hX (by omega) (by omega) dL_law_306 dL_law_307 dL_law_308 dL_law_309 dL_law_310 rfl rfl rfl rfl rfl ?_
  refine lp_arg (pc := 311) 3 312 313 314 315 316 hX (by omega) (by omega) dL_law_311 dL_law_312 dL_law_313 dL_law_314 dL_law_315 rfl rfl rfl rfl rfl ?_
  refine lp_inv (pc := 316) (av := [.inl (sc X (i + ((1 : Nat) : Int))), .inl (sc X (i + ((2 : Nat) : Int))), .inl (sc X (i + ((3 : Nat) : Int)))]) (rest := v.toList.map .inl ++ []) dL_law_316 mv_RL_40 sh_100 q2 rfl rfl (len_v v) hK.2 (by decide) (fun v2 m2 hQ => ?_)
  obtain ⟨⟨x, e1, e2⟩, I2⟩ := hB2 v2 m2 hQ
  subst e1; subst e2
  exact lp_eq (pc := 319) 702 dL_law_319 rfl (kk m2 I2)
theorem l_6 (I : IN m) (h0 : 0 ≤ i) (h1 : i + 3 < X.1) (hX : X.1 ≤ 2048) (kk : ∀ m', IN m' → LQ X 702 (L4 i) [] m') : LQ X 324 (L4 i) [] m := by
  obtain ⟨K1, K2, P, hK, q1, hB⟩ := b_field I (sc_rng X (i + ((1 : Nat) : Int))) (sc_rng X (i + ((2 : Nat) : Int)))
  refine lp_x (pc := 324) dL_law_324 ?_
  refine lp_arg (pc := 325) 1 326 327 328 329 330 hX (by omega) (by omega) dL_law_325 dL_law_326 dL_law_327 dL_law_328 dL_law_329 rfl rfl rfl rfl rfl ?_
  refine lp_arg (pc := 330) 2 331 332 333 334 335 hX (by omega) (by omega) dL_law_330 dL_law_331 dL_law_332 dL_law_333 dL_law_334 rfl rfl rfl rfl rfl ?_
  refine lp_inv (pc := 335) (av := [.inl (sc X (i + ((1 : Nat) : Int))), .inl (sc X (i + ((2 : Nat) : Int)))]) (rest := []) dL_law_335 mv_RL_41 sh_0 q1 rfl rfl (by decide) hK.1 (by decide) (fun v m1 hP => ?_)
  obtain ⟨P2, q2, hB2⟩ := hB v m1 hP
  refine lp_m (pc := 338) dL_law_338 ?_
  refine lp_arg (pc := 339) 1 340 341 342 343 344 hX (by omega) (by omega) dL_law_339 dL_law_340 dL_law_341 dL_law_342 dL_law_343 rfl rfl rfl rfl rfl ?_
  refine lp_arg (pc := 344) 2 345 346 347 348 349 hX (by omega) (by omega) dL_law_344 dL_law_345 dL_law_346 dL_law_347 dL_law_348 rfl rfl rfl rfl rfl ?_
  refine lp_inv (pc := 349) (av := [.inl (sc X (i + ((1 : Nat) : Int))), .inl (sc X (i + ((2 : Nat) : Int)))]) (rest := v.toList.map .inl ++ []) dL_law_349 mv_RL_44 sh_100 q2 rfl rfl (len_v v) hK.2 (by decide) (fun v2 m2 hQ => ?_)
  obtain ⟨⟨x, e1, e2⟩, I2⟩ := hB2 v2 m2 hQ
  subst e1; subst e2
  exact lp_eq (pc := 352) 702 dL_law_352 rfl (kk m2 I2)
theorem l_7 (I : IN m) (h0 : 0 ≤ i) (h1 : i + 3 < X.1) (hX : X.1 ≤ 2048) (kk : ∀ m', IN m' → LQ X 702 (L4 i) [] m') : LQ X 357 (L4 i) [] m := by
  obtain ⟨K1, K2, P, hK, q1, hB⟩ := b_set I (sc_rng X (i + ((1 : Nat) : Int))) (sc_rng X (i + ((2 : Nat) : Int)))
  refine lp_x (pc := 357) dL_law_357 ?_
  refine lp_arg (pc := 358) 1 359 360 361 362 363 hX (by omega) (by omega) dL_law_358 dL_law_359 dL_law_360 dL_law_361 dL_law_362 rfl rfl rfl rfl rfl ?_
  refine lp_arg (pc := 363) 2 364 365 366 367 368 hX (by omega) (by omega) dL_law_363 dL_law_364 dL_law_365 dL_law_366 dL_law_367 rfl rfl rfl rfl rfl ?_
  refine lp_inv (pc := 368) (av := [.inl (sc X (i + ((1 : Nat) : Int))), .inl (sc X (i + ((2 : Nat) : Int)))]) (rest := []) dL_law_368 mv_RL_45 sh_0 q1 rfl rfl (by decide) hK.1 (by decide) (fun v m1 hP => ?_)
  obtain ⟨P2, q2, hB2⟩ := hB v m1 hP
  refine lp_m (pc := 371) dL_law_371 ?_
  refine lp_arg (pc := 372) 1 373 374 375 376 377 hX (by omega) (by omega) dL_law_372 dL_law_373 dL_law_374 dL_law_375 dL_law_376 rfl rfl rfl rfl rfl ?_
  refine lp_arg (pc := 377) 2 378 379 380 381 382 hX (by omega) (by omega) dL_law_377 dL_law_378 dL_law_379 dL_law_380 dL_law_381 rfl rfl rfl rfl rfl ?_
  refine lp_inv (pc := 382) (av := [.inl (sc X (i + ((1 : Nat) : Int))), .inl (sc X (i + ((2 : Nat) : Int)))]) (rest := v.toList.map .inl ++ []) dL_law_382 mv_RL_48 sh_100 q2 rfl rfl (len_v v) hK.2 (by decide) (fun v2 m2 hQ => ?_)
  obtain ⟨⟨x, e1, e2⟩, I2⟩ := hB2 v2 m2 hQ
  subst e1; subst e2
  exact lp_eq (pc := 385) 702 dL_law_385 rfl (kk m2 I2)
theorem l_8 (I : IN m) (h0 : 0 ≤ i) (h1 : i + 3 < X.1) (hX : X.1 ≤ 2048) (kk : ∀ m', IN m' → LQ X 702 (L4 i) [] m') : LQ X 390 (L4 i) [] m := by
  obtain ⟨K1, K2, P, hK, q1, hB⟩ := b_count I (sc_rng X (i + ((1 : Nat) : Int)))
  refine lp_x (pc := 390) dL_law_390 ?_
  refine lp_arg (pc := 391) 1 392 393 394 395 396 hX (by omega) (by omega) dL_law_391 dL_law_392 dL_law_393 dL_law_394 dL_law_395 rfl rfl rfl rfl rfl ?_
  refine lp_inv (pc := 396) (av := [.inl (sc X (i + ((1 : Nat) : Int)))]) (rest := []) dL_law_396 mv_RL_49 sh_0 q1 rfl rfl (by decide) hK.1 (by decide) (fun v m1 hP => ?_)
  obtain ⟨P2, q2, hB2⟩ := hB v m1 hP
  refine lp_m (pc := 399) dL_law_399 ?_
  refine lp_arg (pc := 400) 1 401 402 403 404 405 hX (by omega) (by omega) dL_law_400 dL_law_401 dL_law_402 dL_law_403 dL_law_404 rfl rfl rfl rfl rfl ?_
  refine lp_inv (pc := 405) (av := [.inl (sc X (i + ((1 : Nat) : Int)))]) (rest := v.toList.map .inl ++ []) dL_law_405 mv_RL_52 sh_100 q2 rfl rfl (len_v v) hK.2 (by decide) (fun v2 m2 hQ => ?_)
  obtain ⟨⟨x, e1, e2⟩, I2⟩ := hB2 v2 m2 hQ
  subst e1; subst e2
  exact lp_eq (pc := 408) 702 dL_law_408 rfl (kk m2 I2)
theorem l_9 (I : IN m) (h0 : 0 ≤ i) (h1 : i + 3 < X.1) (hX : X.1 ≤ 2048) (kk : ∀ m', IN m' → LQ X 702 (L4 i) [] m') : LQ X 413 (L4 i) [] m := by
  obtain ⟨K1, K2, P, hK, q1, hB⟩ := b_fire I (sc_rng X (i + ((1 : Nat) : Int))) (sc_rng X (i + ((2 : Nat) : Int)))
  refine lp_x (pc := 413) dL_law_413 ?_
  refine lp_arg (pc := 414) 1 415 416 417 418 419 hX (by omega) (by omega) dL_law_414 dL_law_415 dL_law_416 dL_law_417 dL_law_418 rfl rfl rfl rfl rfl ?_
  refine lp_arg (pc := 419) 2 420 421 422 423 424 hX (by omega) (by omega) dL_law_419 dL_law_420 dL_law_421 dL_law_422 dL_law_423 rfl rfl rfl rfl rfl ?_
  refine lp_inv (pc := 424) (av := [.inl (sc X (i + ((1 : Nat) : Int))), .inl (sc X (i + ((2 : Nat) : Int)))]) (rest := []) dL_law_424 mv_RL_53 sh_0 q1 rfl rfl (by decide) hK.1 (by decide) (fun v m1 hP => ?_)
  obtain ⟨P2, q2, hB2⟩ := hB v m1 hP
  refine lp_m (pc := 427) dL_law_427 ?_
  refine lp_arg (pc := 428) 1 429 430 431 432 433 hX (by omega) (by omega) dL_law_428 dL_law_429 dL_law_430 dL_law_431 dL_law_432 rfl rfl rfl rfl rfl ?_
  refine lp_arg (pc := 433) 2 434 435 436 437 438 hX (by omega) (by omega) dL_law_433 dL_law_434 dL_law_435 dL_law_436 dL_law_437 rfl rfl rfl rfl rfl ?_
  refine lp_inv (pc := 438) (av := [.inl (sc X (i + ((1 : Nat) : Int))), .inl (sc X (i + ((2 : Nat) : Int)))]) (rest := v.toList.map .inl ++ []) dL_law_438 mv_RL_56 sh_100 q2 rfl rfl (len_v v) hK.2 (by decide) (fun v2 m2 hQ => ?_)
  obtain ⟨⟨x, e1, e2⟩, I2⟩ := hB2 v2 m2 hQ
  subst e1; subst e2
  exact lp_eq (pc := 441) 702 dL_law_441 rfl (kk m2 I2)
theorem l_10 (I : IN m) (h0 : 0 ≤ i) (h1 : i + 3 < X.1) (hX : X.1 ≤ 2048) (kk : ∀ m', IN m' → LQ X 702 (L4 i) [] m') : LQ X 446 (L4 i) [] m := by
  obtain ⟨K1, K2, P, hK, q1, hB⟩ := b_ifFired I (sc_rng X (i + ((1 : Nat) : Int))) (sc_rng X (i + ((2 : Nat) : Int)))
  refine lp_x (pc := 446) dL_law_446 ?_
  refine lp_arg (pc := 447) 1 448 449 450 451 452 hX (by omega) (by omega) dL_law_447 dL_law_448 dL_law_449 dL_law_450 dL_law_451 rfl rfl rfl rfl rfl ?_
  refine lp_arg (pc := 452) 2 453 454 455 456 457 hX (by omega) (by omega) dL_law_452 dL_law_453 dL_law_454 dL_law_455 dL_law_456 rfl rfl rfl rfl rfl ?_
  refine lp_inv (pc := 457) (av := [.inl (sc X (i + ((1 : Nat) : Int))), .inl (sc X (i + ((2 : Nat) : Int)))]) (rest := []) dL_law_457 mv_RL_57 sh_0 q1 rfl rfl (by decide) hK.1 (by decide) (fun v m1 hP => ?_)
  obtain ⟨P2, q2, hB2⟩ := hB v m1 hP
  refine lp_m (pc := 460) dL_law_460 ?_
  refine lp_arg (pc := 461) 1 462 463 464 465 466 hX (by omega) (by omega) dL_law_461 dL_law_462 dL_law_463 dL_law_464 dL_law_465 rfl rfl rfl rfl rfl ?_
  refine lp_arg (pc := 466) 2 467 468 469 470 471 hX (by omega) (by omega) dL_law_466 dL_law_467 dL_law_468 dL_law_469 dL_law_470 rfl rfl rfl rfl rfl ?_
  refine lp_inv (pc := 471) (av := [.inl (sc X (i + ((1 : Nat) : Int))), .inl (sc X (i + ((2 : Nat) : Int)))]) (rest := v.toList.map .inl ++ []) dL_law_471 mv_RL_60 sh_100 q2 rfl rfl (len_v v) hK.2 (by decide) (fun v2 m2 hQ => ?_)
  obtain ⟨⟨x, e1, e2⟩, I2⟩ := hB2 v2 m2 hQ
  subst e1; subst e2
  exact lp_eq (pc := 474) 702 dL_law_474 rfl (kk m2 I2)
theorem l_11 (I : IN m) (h0 : 0 ≤ i) (h1 : i + 3 < X.1) (hX : X.1 ≤ 2048) (kk : ∀ m', IN m' → LQ X 702 (L4 i) [] m') : LQ X 479 (L4 i) [] m := by
  obtain ⟨K1, K2, P, hK, q1, hB⟩ := b_bestHeat I
  refine lp_x (pc := 479) dL_law_479 ?_
  refine lp_inv (pc := 480) (av := []) (rest := []) dL_law_480 mv_RL_61 sh_0 q1 rfl rfl (by decide) hK.1 (by decide) (fun v m1 hP => ?_)
  obtain ⟨P2, q2, hB2⟩ := hB v m1 hP
  refine lp_m (pc := 483) dL_law_483 ?_
  refine lp_inv (pc := 484) (av := []) (rest := v.toList.map .inl ++ []) dL_law_484 mv_RL_64 sh_100 q2 rfl rfl (len_v v) hK.2 (by decide) (fun v2 m2 hQ => ?_)
  obtain ⟨⟨x, e1, e2⟩, I2⟩ := hB2 v2 m2 hQ
  subst e1; subst e2
  exact lp_eq (pc := 487) 702 dL_law_487 rfl (kk m2 I2)
theorem l_12 (I : IN m) (h0 : 0 ≤ i) (h1 : i + 3 < X.1) (hX : X.1 ≤ 2048) (kk : ∀ m', IN m' → LQ X 702 (L4 i) [] m') : LQ X 492 (L4 i) [] m := by
  obtain ⟨K1, K2, P, hK, q1, hB⟩ := b_wish I (sc_rng X (i + ((1 : Nat) : Int))) (sc_rng X (i + ((2 : Nat) : Int)))
  refine lp_x (pc := 492) dL_law_492 ?_
  refine lp_arg (pc := 493) 1 494 495 496 497 498 hX (by omega) (by omega) dL_law_493 dL_law_494 dL_law_495 dL_law_496 dL_law_497 rfl rfl rfl rfl rfl ?_
  refine lp_arg (pc := 498) 2 499 500 501 502 503 hX (by omega) (by omega) dL_law_498 dL_law_499 dL_law_500 dL_law_501 dL_law_502 rfl rfl rfl rfl rfl ?_
  refine lp_inv (pc := 503) (av := [.inl (sc X (i + ((1 : Nat) : Int))), .inl (sc X (i + ((2 : Nat) : Int)))]) (rest := []) dL_law_503 mv_RL_65 sh_0 q1 rfl rfl (by decide) hK.1 (by decide) (fun v m1 hP => ?_)
  obtain ⟨P2, q2, hB2⟩ := hB v m1 hP
  refine lp_m (pc := 506) dL_law_506 ?_
  refine lp_arg (pc := 507) 1 508 509 510 511 512 hX (by omega) (by omega) dL_law_507 dL_law_508 dL_law_509 dL_law_510 dL_law_511 rfl rfl rfl rfl rfl ?_
  refine lp_arg (pc := 512) 2 513 514 515 516 517 hX (by omega) (by omega) dL_law_512 dL_law_513 dL_law_514 dL_law_515 dL_law_516 rfl rfl rfl rfl rfl ?_
  refine lp_inv (pc := 517) (av := [.inl (sc X (i + ((1 : Nat) : Int))), .inl (sc X (i + ((2 : Nat) : Int)))]) (rest := v.toList.map .inl ++ []) dL_law_517 mv_RL_68 sh_100 q2 rfl rfl (len_v v) hK.2 (by decide) (fun v2 m2 hQ => ?_)
  obtain ⟨⟨x, e1, e2⟩, I2⟩ := hB2 v2 m2 hQ
  subst e1; subst e2
  exact lp_eq (pc := 520) 702 dL_law_520 rfl (kk m2 I2)
theorem l_13 (I : IN m) (h0 : 0 ≤ i) (h1 : i + 3 < X.1) (hX : X.1 ≤ 2048) (kk : ∀ m', IN m' → LQ X 702 (L4 i) [] m') : LQ X 525 (L4 i) [] m := by
  obtain ⟨K1, K2, P, hK, q1, hB⟩ := b_wished I (sc_rng X (i + ((1 : Nat) : Int))) (sc_rng X (i + ((2 : Nat) : Int)))
  refine lp_x (pc := 525) dL_law_525 ?_
  refine lp_arg (pc := 526) 1 527 528 529 530 531 hX (by omega) (by omega) dL_law_526 dL_law_527 dL_law_528 dL_law_529 dL_law_530 rfl rfl rfl rfl rfl ?_
  refine lp_arg (pc := 531) 2 532 533 534 535 536 hX (by omega) (by omega) dL_law_531 dL_law_532 dL_law_533 dL_law_534 dL_law_535 rfl rfl rfl rfl rfl ?_
  refine lp_inv (pc := 536) (av := [.inl (sc X (i + ((1 : Nat) : Int))), .inl (sc X (i + ((2 : Nat) : Int)))]) (rest := []) dL_law_536 mv_RL_69 sh_0 q1 rfl rfl (by decide) hK.1 (by decide) (fun v m1 hP => ?_)
  obtain ⟨P2, q2, hB2⟩ := hB v m1 hP
  refine lp_m (pc := 539) dL_law_539 ?_
  refine lp_arg (pc := 540) 1 541 542 543 544 545 hX (by omega) (by omega) dL_law_540 dL_law_541 dL_law_542 dL_law_543 dL_law_544 rfl rfl rfl rfl rfl ?_
  refine lp_arg (pc := 545) 2 546 547 548 549 550 hX (by omega) (by omega) dL_law_545 dL_law_546 dL_law_547 dL_law_548 dL_law_549 rfl rfl rfl rfl rfl ?_
  refine lp_inv (pc := 550) (av := [.inl (sc X (i + ((1 : Nat) : Int))), .inl (sc X (i + ((2 : Nat) : Int)))]) (rest := v.toList.map .inl ++ []) dL_law_550 mv_RL_72 sh_100 q2 rfl rfl (len_v v) hK.2 (by decide) (fun v2 m2 hQ => ?_)
  obtain ⟨⟨x, e1, e2⟩, I2⟩ := hB2 v2 m2 hQ
  subst e1; subst e2
  exact lp_eq (pc := 553) 702 dL_law_553 rfl (kk m2 I2)
theorem l_14 (I : IN m) (h0 : 0 ≤ i) (h1 : i + 3 < X.1) (hX : X.1 ≤ 2048) (kk : ∀ m', IN m' → LQ X 702 (L4 i) [] m') : LQ X 558 (L4 i) [] m := by
  obtain ⟨K1, K2, P, hK, q1, hB⟩ := b_leastFirings I
  refine lp_x (pc := 558) dL_law_558 ?_
  refine lp_inv (pc := 559) (av := []) (rest := []) dL_law_559 mv_RL_73 sh_0 q1 rfl rfl (by decide) hK.1 (by decide) (fun v m1 hP => ?_)
  obtain ⟨P2, q2, hB2⟩ := hB v m1 hP
  refine lp_m (pc := 562) dL_law_562 ?_
  refine lp_inv (pc := 563) (av := []) (rest := v.toList.map .inl ++ []) dL_law_563 mv_RL_76 sh_100 q2 rfl rfl (len_v v) hK.2 (by decide) (fun v2 m2 hQ => ?_)
  obtain ⟨⟨x, e1, e2⟩, I2⟩ := hB2 v2 m2 hQ
  subst e1; subst e2
  exact lp_eq (pc := 566) 702 dL_law_566 rfl (kk m2 I2)
theorem l_15 (I : IN m) (h0 : 0 ≤ i) (h1 : i + 3 < X.1) (hX : X.1 ≤ 2048) (kk : ∀ m', IN m' → LQ X 702 (L4 i) [] m') : LQ X 571 (L4 i) [] m := by
  obtain ⟨K1, K2, P, hK, q1, hB⟩ := b_planned I (sc_rng X (i + ((1 : Nat) : Int))) (sc_rng X (i + ((2 : Nat) : Int)))
  refine lp_x (pc := 571) dL_law_571 ?_
  refine lp_arg (pc := 572) 1 573 574 575 576 577 hX (by omega) (by omega) dL_law_572 dL_law_573 dL_law_574 dL_law_575 dL_law_576 rfl rfl rfl rfl rfl ?_
  refine lp_arg (pc := 577) 2 578 579 580 581 582 hX (by omega) (by omega) dL_law_577 dL_law_578 dL_law_579 dL_law_580 dL_law_581 rfl rfl rfl rfl rfl ?_
  refine lp_inv (pc := 582) (av := [.inl (sc X (i + ((1 : Nat) : Int))), .inl (sc X (i + ((2 : Nat) : Int)))]) (rest := []) dL_law_582 mv_RL_77 sh_0 q1 rfl rfl (by decide) hK.1 (by decide) (fun v m1 hP => ?_)
  obtain ⟨P2, q2, hB2⟩ := hB v m1 hP
  refine lp_m (pc := 585) dL_law_585 ?_
  refine lp_arg (pc := 586) 1 587 588 589 590 591 hX (by omega) (by omega) dL_law_586 dL_law_587 dL_law_588 dL_law_589 dL_law_590 rfl rfl rfl rfl rfl ?_
  refine lp_arg (pc := 591) 2 592 593 594 595 596 hX (by omega) (by omega) dL_law_591 dL_law_592 dL_law_593 dL_law_594 dL_law_595 rfl rfl rfl rfl rfl ?_
  refine lp_inv (pc := 596) (av := [.inl (sc X (i + ((1 : Nat) : Int))), .inl (sc X (i + ((2 : Nat) : Int)))]) (rest := v.toList.map .inl ++ []) dL_law_596 mv_RL_80 sh_100 q2 rfl rfl (len_v v) hK.2 (by decide) (fun v2 m2 hQ => ?_)
  obtain ⟨⟨x, e1, e2⟩, I2⟩ := hB2 v2 m2 hQ
  subst e1; subst e2
  exact lp_eq (pc := 599) 702 dL_law_599 rfl (kk m2 I2)
theorem l_16 (I : IN m) (h0 : 0 ≤ i) (h1 : i + 3 < X.1) (hX : X.1 ≤ 2048) (kk : ∀ m', IN m' → LQ X 702 (L4 i) [] m') : LQ X 604 (L4 i) [] m := by
  obtain ⟨K1, K2, P, hK, q1, hB⟩ := b_counter I
  refine lp_x (pc := 604) dL_law_604 ?_
  refine lp_inv (pc := 605) (av := []) (rest := []) dL_law_605 mv_RL_81 sh_0 q1 rfl rfl (by decide) hK.1 (by decide) (fun v m1 hP => ?_)
  obtain ⟨P2, q2, hB2⟩ := hB v m1 hP
  refine lp_m (pc := 608) dL_law_608 ?_
  refine lp_inv (pc := 609) (av := []) (rest := v.toList.map .inl ++ []) dL_law_609 mv_RL_84 sh_100 q2 rfl rfl (len_v v) hK.2 (by decide) (fun v2 m2 hQ => ?_)
  obtain ⟨⟨x, e1, e2⟩, I2⟩ := hB2 v2 m2 hQ
  subst e1; subst e2
  exact lp_eq (pc := 612) 702 dL_law_612 rfl (kk m2 I2)
theorem l_17 (I : IN m) (h0 : 0 ≤ i) (h1 : i + 3 < X.1) (hX : X.1 ≤ 2048) (kk : ∀ m', IN m' → LQ X 702 (L4 i) [] m') : LQ X 617 (L4 i) [] m := by
  obtain ⟨K1, K2, P, hK, q1, hB⟩ := b_undo I
  refine lp_x (pc := 617) dL_law_617 ?_
  refine lp_inv (pc := 618) (av := []) (rest := []) dL_law_618 mv_RL_85 sh_0 q1 rfl rfl (by decide) hK.1 (by decide) (fun v m1 hP => ?_)
  obtain ⟨P2, q2, hB2⟩ := hB v m1 hP
  refine lp_m (pc := 621) dL_law_621 ?_
  refine lp_inv (pc := 622) (av := []) (rest := v.toList.map .inl ++ []) dL_law_622 mv_RL_88 sh_100 q2 rfl rfl (len_v v) hK.2 (by decide) (fun v2 m2 hQ => ?_)
  obtain ⟨⟨x, e1, e2⟩, I2⟩ := hB2 v2 m2 hQ
  subst e1; subst e2
  exact lp_eq (pc := 625) 702 dL_law_625 rfl (kk m2 I2)
theorem l_18 (I : IN m) (h0 : 0 ≤ i) (h1 : i + 3 < X.1) (hX : X.1 ≤ 2048) (kk : ∀ m', IN m' → LQ X 702 (L4 i) [] m') : LQ X 630 (L4 i) [] m := by
  obtain ⟨K1, K2, P, hK, q1, hB⟩ := b_type I (sc_rng X (i + ((1 : Nat) : Int)))
  refine lp_x (pc := 630) dL_law_630 ?_
  refine lp_arg (pc := 631) 1 632 633 634 635 636 hX (by omega) (by omega) dL_law_631 dL_law_632 dL_law_633 dL_law_634 dL_law_635 rfl rfl rfl rfl rfl ?_
  refine lp_inv (pc := 636) (av := [.inl (sc X (i + ((1 : Nat) : Int)))]) (rest := []) dL_law_636 mv_RL_89 sh_0 q1 rfl rfl (by decide) hK.1 (by decide) (fun v m1 hP => ?_)
  obtain ⟨P2, q2, hB2⟩ := hB v m1 hP
  refine lp_m (pc := 639) dL_law_639 ?_
  refine lp_arg (pc := 640) 1 641 642 643 644 645 hX (by omega) (by omega) dL_law_640 dL_law_641 dL_law_642 dL_law_643 dL_law_644 rfl rfl rfl rfl rfl ?_
  refine lp_inv (pc := 645) (av := [.inl (sc X (i + ((1 : Nat) : Int)))]) (rest := v.toList.map .inl ++ []) dL_law_645 mv_RL_92 sh_100 q2 rfl rfl (len_v v) hK.2 (by decide) (fun v2 m2 hQ => ?_)
  obtain ⟨⟨x, e1, e2⟩, I2⟩ := hB2 v2 m2 hQ
  subst e1; subst e2
  exact lp_eq (pc := 648) 702 dL_law_648 rfl (kk m2 I2)
theorem l_19 (I : IN m) (h0 : 0 ≤ i) (h1 : i + 3 < X.1) (hX : X.1 ≤ 2048) (kk : ∀ m', IN m' → LQ X 702 (L4 i) [] m') : LQ X 653 (L4 i) [] m := by
  obtain ⟨K1, K2, P, hK, q1, hB⟩ := b_clearText I
  refine lp_x (pc := 653) dL_law_653 ?_
  refine lp_inv (pc := 654) (av := []) (rest := []) dL_law_654 mv_RL_93 sh_0 q1 rfl rfl (by decide) hK.1 (by decide) (fun v m1 hP => ?_)
  obtain ⟨P2, q2, hB2⟩ := hB v m1 hP
  refine lp_m (pc := 657) dL_law_657 ?_
  refine lp_inv (pc := 658) (av := []) (rest := v.toList.map .inl ++ []) dL_law_658 mv_RL_96 sh_100 q2 rfl rfl (len_v v) hK.2 (by decide) (fun v2 m2 hQ => ?_)
  obtain ⟨⟨x, e1, e2⟩, I2⟩ := hB2 v2 m2 hQ
  subst e1; subst e2
  exact lp_eq (pc := 661) 702 dL_law_661 rfl (kk m2 I2)
theorem l_20 (I : IN m) (h0 : 0 ≤ i) (h1 : i + 3 < X.1) (hX : X.1 ≤ 2048) (kk : ∀ m', IN m' → LQ X 702 (L4 i) [] m') : LQ X 666 (L4 i) [] m := by
  obtain ⟨K1, K2, P, hK, q1, hB⟩ := b_fault I (sc_rng X (i + ((1 : Nat) : Int)))
  refine lp_x (pc := 666) dL_law_666 ?_
  refine lp_arg (pc := 667) 1 668 669 670 671 672 hX (by omega) (by omega) dL_law_667 dL_law_668 dL_law_669 dL_law_670 dL_law_671 rfl rfl rfl rfl rfl ?_
  refine lp_inv (pc := 672) (av := [.inl (sc X (i + ((1 : Nat) : Int)))]) (rest := []) dL_law_672 mv_RL_97 sh_0 q1 rfl rfl (by decide) hK.1 (by decide) (fun v m1 hP => ?_)
  obtain ⟨P2, q2, hB2⟩ := hB v m1 hP
  refine lp_m (pc := 675) dL_law_675 ?_
  refine lp_arg (pc := 676) 1 677 678 679 680 681 hX (by omega) (by omega) dL_law_676 dL_law_677 dL_law_678 dL_law_679 dL_law_680 rfl rfl rfl rfl rfl ?_
  refine lp_inv (pc := 681) (av := [.inl (sc X (i + ((1 : Nat) : Int)))]) (rest := v.toList.map .inl ++ []) dL_law_681 mv_RL_100 sh_100 q2 rfl rfl (len_v v) hK.2 (by decide) (fun v2 m2 hQ => ?_)
  obtain ⟨⟨x, e1, e2⟩, I2⟩ := hB2 v2 m2 hQ
  subst e1; subst e2
  exact lp_eq (pc := 684) 702 dL_law_684 rfl (kk m2 I2)
theorem l_21 (I : IN m) (h0 : 0 ≤ i) (h1 : i + 3 < X.1) (hX : X.1 ≤ 2048) (kk : ∀ m', IN m' → LQ X 702 (L4 i) [] m') : LQ X 689 (L4 i) [] m := by
  obtain ⟨K1, K2, P, hK, q1, hB⟩ := b_read I
  refine lp_x (pc := 689) dL_law_689 ?_
  refine lp_inv (pc := 690) (av := []) (rest := []) dL_law_690 mv_RL_101 sh_0 q1 rfl rfl (by decide) hK.1 (by decide) (fun v m1 hP => ?_)
  obtain ⟨P2, q2, hB2⟩ := hB v m1 hP
  refine lp_m (pc := 693) dL_law_693 ?_
  refine lp_inv (pc := 694) (av := []) (rest := v.toList.map .inl ++ []) dL_law_694 mv_RL_104 sh_100 q2 rfl rfl (len_v v) hK.2 (by decide) (fun v2 m2 hQ => ?_)
  obtain ⟨⟨x, e1, e2⟩, I2⟩ := hB2 v2 m2 hQ
  subst e1; subst e2
  exact lp_eq (pc := 697) 702 dL_law_697 rfl (kk m2 I2)
theorem l_loop (hX : X.1 ≤ 2048) : ∀ (n : Nat) (i : Int) (m : AM), IN m → 0 ≤ i → i ≤ X.1 → (X.1 : Int) - i ≤ n → LQ X 18 (L4 i) [] m := by
  intro n
  induction n with
  | zero =>
    intro i m I h0 h1 h2
    refine lp_i (pc := 18) dL_law_18 ?_
    refine lp_s (pc := 19) dL_law_19 ?_
    refine lp_len (pc := 20) dL_law_20 ?_
    refine lp_const (pc := 21) dL_law_21 ?_
    refine lp_sub (pc := 22) dL_law_22 ?_
    refine lp_gt (pc := 23) 708 dL_law_23 rfl ⟨by omega, by omega⟩ ⟨by omega, by omega⟩ (fun _ => ?_) (fun c => ?_)
    · refine lp_const (pc := 708) dL_law_708 ?_
      exact lp_ret (pc := 709) dL_law_709
    · omega
  | succ n ih =>
    intro i m I h0 h1 h2
    refine lp_i (pc := 18) dL_law_18 ?_
    refine lp_s (pc := 19) dL_law_19 ?_
    refine lp_len (pc := 20) dL_law_20 ?_
    refine lp_const (pc := 21) dL_law_21 ?_
    refine lp_sub (pc := 22) dL_law_22 ?_
    refine lp_gt (pc := 23) 708 dL_law_23 rfl ⟨by omega, by omega⟩ ⟨by omega, by omega⟩ (fun _ => ?_) (fun c => ?_)
    · refine lp_const (pc := 708) dL_law_708 ?_
      exact lp_ret (pc := 709) dL_law_709
    have back : ∀ m' : AM, IN m' → LQ X 702 (L4 i) [] m' := fun m' I' => by
      refine lp_iinc (pc := 702) dL_law_702 ?_
      refine lp_goto (pc := 705) 18 dL_law_705 rfl ?_
      exact ih (i + 4) m' I' (by omega) (by omega) (by omega)
    refine lp_s (pc := 26) dL_law_26 ?_
    refine lp_i (pc := 27) dL_law_27 ?_
    refine lp_ld (pc := 28) dL_law_28 hX h0 (by omega) ?_
    refine lp_bipush (pc := 29) dL_law_29 bp_31 ?_
    refine lp_and (pc := 31) dL_law_31 ?_
    have hz := and31 (sc X i)
    rcases (by omega : iAnd (sc X i) 31 = 0 ∨ iAnd (sc X i) 31 = 1 ∨ iAnd (sc X i) 31 = 2 ∨ iAnd (sc X i) 31 = 3 ∨ iAnd (sc X i) 31 = 4 ∨ iAnd (sc X i) 31 = 5 ∨ iAnd (sc X i) 31 = 6 ∨ iAnd (sc X i) 31 = 7 ∨ iAnd (sc X i) 31 = 8 ∨ iAnd (sc X i) 31 = 9 ∨ iAnd (sc X i) 31 = 10 ∨ iAnd (sc X i) 31 = 11 ∨ iAnd (sc X i) 31 = 12 ∨ iAnd (sc X i) 31 = 13 ∨ iAnd (sc X i) 31 = 14 ∨ iAnd (sc X i) 31 = 15 ∨ iAnd (sc X i) 31 = 16 ∨ iAnd (sc X i) 31 = 17 ∨ iAnd (sc X i) 31 = 18 ∨ iAnd (sc X i) 31 = 19 ∨ iAnd (sc X i) 31 = 20 ∨ iAnd (sc X i) 31 = 21 ∨ 21 < iAnd (sc X i) 31) with hc | hc | hc | hc | hc | hc | hc | hc | hc | hc | hc | hc | hc | hc | hc | hc | hc | hc | hc | hc | hc | hc | hc
    · refine lp_tswIn (pc := 32) (off := 104) 136 dL_law_32 ⟨by omega, by omega⟩ (by omega) (by omega) (by rw [hc]; rfl) rfl ?_
      exact l_0 I h0 (by omega) hX back
    · refine lp_tswIn (pc := 32) (off := 147) 179 dL_law_32 ⟨by omega, by omega⟩ (by omega) (by omega) (by rw [hc]; rfl) rfl ?_
      exact l_1 I h0 (by omega) hX back
    · refine lp_tswIn (pc := 32) (off := 180) 212 dL_law_32 ⟨by omega, by omega⟩ (by omega) (by omega) (by rw [hc]; rfl) rfl ?_
      exact l_2 I h0 (by omega) hX back
    · refine lp_tswIn (pc := 32) (off := 213) 245 dL_law_32 ⟨by omega, by omega⟩ (by omega) (by omega) (by rw [hc]; rfl) rfl ?_
      exact l_3 I h0 (by omega) hX back
    · refine lp_tswIn (pc := 32) (off := 236) 268 dL_law_32 ⟨by omega, by omega⟩ (by omega) (by omega) (by rw [hc]; rfl) rfl ?_
      exact l_4 I h0 (by omega) hX back
    · refine lp_tswIn (pc := 32) (off := 249) 281 dL_law_32 ⟨by omega, by omega⟩ (by omega) (by omega) (by rw [hc]; rfl) rfl ?_
      exact l_5 I h0 (by omega) hX back
    · refine lp_tswIn (pc := 32) (off := 292) 324 dL_law_32 ⟨by omega, by omega⟩ (by omega) (by omega) (by rw [hc]; rfl) rfl ?_
      exact l_6 I h0 (by omega) hX back
    · refine lp_tswIn (pc := 32) (off := 325) 357 dL_law_32 ⟨by omega, by omega⟩ (by omega) (by omega) (by rw [hc]; rfl) rfl ?_
      exact l_7 I h0 (by omega) hX back
    · refine lp_tswIn (pc := 32) (off := 358) 390 dL_law_32 ⟨by omega, by omega⟩ (by omega) (by omega) (by rw [hc]; rfl) rfl ?_
      exact l_8 I h0 (by omega) hX back
    · refine lp_tswIn (pc := 32) (off := 381) 413 dL_law_32 ⟨by omega, by omega⟩ (by omega) (by omega) (by rw [hc]; rfl) rfl ?_
      exact l_9 I h0 (by omega) hX back
    · refine lp_tswIn (pc := 32) (off := 414) 446 dL_law_32 ⟨by omega, by omega⟩ (by omega) (by omega) (by rw [hc]; rfl) rfl ?_
      exact l_10 I h0 (by omega) hX back
    · refine lp_tswIn (pc := 32) (off := 447) 479 dL_law_32 ⟨by omega, by omega⟩ (by omega) (by omega) (by rw [hc]; rfl) rfl ?_
      exact l_11 I h0 (by omega) hX back
    · refine lp_tswIn (pc := 32) (off := 460) 492 dL_law_32 ⟨by omega, by omega⟩ (by omega) (by omega) (by rw [hc]; rfl) rfl ?_
      exact l_12 I h0 (by omega) hX back
    · refine lp_tswIn (pc := 32) (off := 493) 525 dL_law_32 ⟨by omega, by omega⟩ (by omega) (by omega) (by rw [hc]; rfl) rfl ?_
      exact l_13 I h0 (by omega) hX back
    · refine lp_tswIn (pc := 32) (off := 526) 558 dL_law_32 ⟨by omega, by omega⟩ (by omega) (by omega) (by rw [hc]; rfl) rfl ?_
      exact l_14 I h0 (by omega) hX back
    · refine lp_tswIn (pc := 32) (off := 539) 571 dL_law_32 ⟨by omega, by omega⟩ (by omega) (by omega) (by rw [hc]; rfl) rfl ?_
      exact l_15 I h0 (by omega) hX back
    · refine lp_tswIn (pc := 32) (off := 572) 604 dL_law_32 ⟨by omega, by omega⟩ (by omega) (by omega) (by rw [hc]; rfl) rfl ?_
      exact l_16 I h0 (by omega) hX back
    · refine lp_tswIn (pc := 32) (off := 585) 617 dL_law_32 ⟨by omega, by omega⟩ (by omega) (by omega) (by rw [hc]; rfl) rfl ?_
      exact l_17 I h0 (by omega) hX back
    · refine lp_tswIn (pc := 32) (off := 598) 630 dL_law_32 ⟨by omega, by omega⟩ (by omega) (by omega) (by rw [hc]; rfl) rfl ?_
      exact l_18 I h0 (by omega) hX back
    · refine lp_tswIn (pc := 32) (off := 621) 653 dL_law_32 ⟨by omega, by omega⟩ (by omega) (by omega) (by rw [hc]; rfl) rfl ?_
      exact l_19 I h0 (by omega) hX back
    · refine lp_tswIn (pc := 32) (off := 634) 666 dL_law_32 ⟨by omega, by omega⟩ (by omega) (by omega) (by rw [hc]; rfl) rfl ?_
      exact l_20 I h0 (by omega) hX back
    · refine lp_tswIn (pc := 32) (off := 657) 689 dL_law_32 ⟨by omega, by omega⟩ (by omega) (by omega) (by rw [hc]; rfl) rfl ?_
      exact l_21 I h0 (by omega) hX back
    · refine lp_tswOut (pc := 32) 702 dL_law_32 ⟨by omega, by omega⟩ (Or.inr hc) rfl ?_
      exact back m I
end LPS
/-- what both sides are at the start -/
theorem IN_start {m0 m1 m2 : AM} (c1 : ∀ (k : Nat) (j : Int), (3 ≤ k ∧ k ≤ 5) ∨ (7 ≤ k ∧ k ≤ 11) ∨ (13 ≤ k ∧ k ≤ 14) ∨ k = 16 → m1 k j = 0) (c2 : m1 2 3 = 0) (c3 : m1 15 0 = 3) (c4 : m1 15 1 = 2) (c5 : m1 15 2 = 120) (c6 : m1 17 1 = 0) (c7 : m1 17 2 = 0) (c8 : ∀ x : Int, 0 ≤ x → x < 64 → m1 93 x = stp x) (c9 : m1 98 1 = 0) (c10 : m1 0 6 = 1)
    (d1 : ∀ (k : Nat) (j : Int), k < 100 → m2 k j = m1 k j) (d2 : ∀ j : Int, m2 101 j = if j = 114 then 3 else if j = 115 then 2 else if j = 116 then 120 else 0) (d3 : m2 100 3 = 0) (d4 : m2 100 5 = 0) : IN m2 := by
  have r0 : ∀ j : Int, j ≠ 114 → j ≠ 115 → j ≠ 116 → m2 101 j = 0 := fun j a b c => by rw [d2, if_neg a, if_neg b, if_neg c]
  have r4 : m2 101 114 = 3 := by rw [d2, if_pos rfl]
  have r5 : m2 101 115 = 2 := by rw [d2, if_neg (by omega), if_pos rfl]
  have r6 : m2 101 116 = 120 := by rw [d2, if_neg (by omega), if_neg (by omega), if_pos rfl]
  have z : ∀ (k : Nat) (j : Int), (3 ≤ k ∧ k ≤ 5) ∨ (7 ≤ k ∧ k ≤ 11) ∨ (13 ≤ k ∧ k ≤ 14) ∨ k = 16 → m2 k j = 0 := fun k j h => (d1 k j (by omega)).trans (c1 k j h)
  have q0 : m2 101 0 = 0 := r0 0 (by omega) (by omega) (by omega)
  have qs : ∀ f : Int, 0 ≤ f → f < 7 → m2 101 (37 + 11 * f) = 0 := fun f a b => r0 _ (by omega) (by omega) (by omega)
  have qc : ∀ f : Int, 0 ≤ f → f < 7 → m2 101 (37 + 11 * f + 1) = 0 := fun f a b => r0 _ (by omega) (by omega) (by omega)
  have qw : ∀ f : Int, 0 ≤ f → f < 6 → m2 101 (126 + 4 * f) = 0 := fun f a b => r0 _ (by omega) (by omega) (by omega)
  have q7 : m2 101 117 = 0 := r0 117 (by omega) (by omega) (by omega)
  have e98 : m2 98 1 = 0 := (d1 98 1 (by omega)).trans c9
  refine ⟨⟨⟨⟨?_, fun c a b => ?_⟩, ⟨fun f a b => ?_, fun f l a b c d => ?_⟩, ?_, fun f a b => ?_⟩, ⟨⟨?_, fun c a b => ?_⟩, ⟨fun f a b => ?_, fun f l a b c d => ?_, fun f a b => ?_⟩, ⟨fun k a b => ?_, fun k a b => ?_⟩, fun f a b => ?_⟩⟩, ⟨?_, ⟨?_, ?_, ?_, fun k a b => ?_⟩, fun k a b => ?_⟩, ⟨?_, ?_, fun j a b => ?_⟩, ⟨fun x a b => ?_, Or.inr ?_, fun q => ?_⟩⟩
  · rw [q0]; omega
  · rw [q0] at b; omega
  · exact ⟨by show 0 ≤ m2 101 (37 + 11 * f) ∧ m2 101 (37 + 11 * f) ≤ 3; rw [qs f a b]; omega, Or.inl (qc f a b)⟩
  · exact absurd (show l < m2 101 (37 + 11 * f) from d) (by rw [qs f a b]; omega)
  · exact ⟨by rw [r4]; omega, by rw [r5]; omega, by rw [r6]; omega, by rw [q7]; omega, qc 6 (by omega) (by omega)⟩
  · rw [qw f a b]
    exact ⟨by omega, fun k x y => by omega⟩
  · rw [q0]; exact (d1 2 3 (by omega)).trans c2
  · rw [q0] at b; omega
  · exact (z 7 f (by omega)).trans (qs f a b).symm
  · exact absurd (show l < m2 101 (37 + 11 * f) from d) (by rw [qs f a b]; omega)
  · exact (z 11 f (by omega)).trans (qc f a (by omega)).symm
  · rcases (by omega : k = 0 ∨ k = 1 ∨ k = 2) with rfl | rfl | rfl
    · exact ((d1 15 0 (by omega)).trans c3).trans r4.symm
    · exact ((d1 15 1 (by omega)).trans c4).trans r5.symm
    · exact ((d1 15 2 (by omega)).trans c5).trans r6.symm
  · exact (z 16 k (by omega)).trans (r0 _ (by omega) (by omega) (by omega)).symm
  · rw [qw f a b]
    exact ⟨z 13 f (by omega), fun k x y => by omega⟩
  · rw [d3]; omega
  · rw [d3]; exact (d1 17 2 (by omega)).trans c7
  · rw [d3]; omega
  · rw [(d1 17 1 (by omega)).trans c6]; omega
  · rw [d3] at b; omega
  · rw [d3] at b; omega
  · rw [e98]; omega
  · rw [d4, e98]
  · rw [e98] at b; omega
  · exact (d1 93 x (by omega)).trans (c8 x a b)
  · exact (d1 0 6 (by omega)).trans c10
  · rw [(d1 0 6 (by omega)).trans c10] at q; omega
section LJS
variable {X : AX} {pc : Nat} {L : List (Option AV)} {S : List AV} {sh : List ShC} {m : AM}
theorem lj_new {idx ci N : Nat} {C : String} {T : u_T} {ty : Nat → FieldType} {fs : List ShF} (q : Nat) {sh' : List ShC} (hd : decode cL_law pc = .ok (.new idx, 3)) (hk : aCl ci C T N ty) (hl : Cond.classLink RL idx C ∈ GW) (hi : Cond.instantiable C N ∈ GW) (hini : Cond.initialized C ∈ GW) (hN : fs.length = N) (hfs : ∀ j, j < N → defaultValue (ty j) = vp_V (fs.map (fun f => match f with | none => .int 0 | some _ => .null)) j) (hnn : ∀ f ∈ fs, f = none ∨ f = some none) (hq : sh.length = q) (hlt : q < 1000) (hfr : aFresh q (sh ++ [.inl (ci, fs)]) L S = true) (hc1 : q + 1 ≤ 107) (hc2 : slS sh + N ≤ 10451) (hsh : sh ++ [.inl (ci, fs)] = sh')
    (k : LJ X (pc + 3) L (.inr q :: S) sh' (am_new m q)) : LJ X pc L S sh m := by
  subst hq; subst hsh
  exact aw_new hd hk hl hi hini hN hfs hnn hlt hfr hc1 hc2 k
theorem lj_inv {idx q nc ns K' : Nat} {M' : MI} {shE' : List ShC} {Q' : AM → Prop} (hd : decode cL_law pc = .ok (.invokespecial idx, 3)) (hb : aMI RL idx M' 0) (hM : CI K' M' nc ns [.inr q] sh m shE' Q') (hrest : S.length ≤ 8) (hK : K' + 1 ≤ 8) (hml : M'.2.2.1 ≤ 17) (hsml : sh.length + nc ≤ 1000) (ok : aKeep sh.length (sh.length + nc) L S = true) (hc1 : sh.length + nc ≤ 107) (hc2 : slS sh + ns ≤ 10451)
    (kk : ∀ m', Q' m' → LJ X (pc + 3) L S shE' m') : LJ X pc L (.inr q :: S) sh m := by
  obtain ⟨r1, r2, r3⟩ := rk_call (K := 8) (d := 10) (r := 366) ⟨by omega, by omega⟩ hK hml
  refine aw_invI hd hb rfl rfl hrest (hM X _ _ r1) r2 r3 hsml ok hc1 hc2 (fun v h' hq _ _ => ?_)
  obtain ⟨sh', m'⟩ := h'
  obtain ⟨rfl, e, hq⟩ := hq
  simp only at e hq
  subst e
  exact kk m' hq
theorem lj_dup {v : AV} (hd : decode cL_law pc = .ok (.dup, 1)) (k : LJ X (pc + 1) L (v :: v :: S) sh m) : LJ X pc L (v :: S) sh m := aw_dup hd k
theorem lj_ast {i : Nat} {j : Fin 4} {L' : List (Option AV)} {x : Nat} (hd : decode cL_law pc = .ok (.astore_n j, 1)) (hi : (j : Nat) = i) (hn : i < 4) (hL : L.set i (some (.inr x)) = L') (k : LJ X (pc + 1) L' S sh m) : LJ X pc L (.inr x :: S) sh m := aw_ast_n hd hi hn hL k
theorem lj_const {n : Int} (hd : decode cL_law pc = .ok (.iconst n, 1)) (k : LJ X (pc + 1) L (.inl n :: S) sh m) : LJ X pc L S sh m := aw_const hd k
theorem lj_ist {i : Nat} {j : Fin 4} {L' : List (Option AV)} {x : Int} (hd : decode cL_law pc = .ok (.istore_n j, 1)) (hi : (j : Nat) = i) (hn : i < 4) (hL : L.set i (some (.inl x)) = L') (k : LJ X (pc + 1) L' S sh m) : LJ X pc L (.inl x :: S) sh m := aw_ist_n hd hi hn hL k
end LJS
set_option maxHeartbeats 4000000 in
theorem law_all (X : AX) (hX : X.1 ≤ 2048) (m : AM) : LJ X 0 [some (.inr 1000), none, none, none] [] [] m := by
  refine lj_new (pc := 0) (fs := [some none, some none, some none, some none, some none, some none, none]) 0 (sh' := (pt 1 [(0, .inl (8, [some none, some none, some none, some none, some none, some none, none]))])) dL_law_0 kX8 kl_RL_7 ki_RX8 kn_RX8 rfl (fun j hj => by rcases (by omega : j = 0 ∨ j = 1 ∨ j = 2 ∨ j = 3 ∨ j = 4 ∨ j = 5 ∨ j = 6) with rfl | rfl | rfl | rfl | rfl | rfl | rfl <;> rfl) (by simp) (by decide) (by decide) (by decide +kernel) (by decide) (by decide) (by decide +kernel) ?_
  refine lj_dup (pc := 3) dL_law_3 ?_
  refine lj_inv (pc := 4) dL_law_4 mi_RL_9 (iX8_init_0 (am_new m 0)) (by decide) (by decide) (by decide) (by decide +kernel) (by decide +kernel) (by decide +kernel) (by decide +kernel) (fun m1 c => ?_)
  obtain ⟨c1, c2, c3, c4, c5, c6, c7, c8, c9, c10⟩ := c
  refine lj_ast (pc := 7) (L' := [some (.inr 1000), some (.inr 0), none, none]) dL_law_7 rfl (by decide) rfl ?_
  refine lj_new (pc := 8) (fs := [some none, some none, some none, none, some none, none, some none, some none, none, none, none, none]) 100 (sh' := (pt 101 [(100, .inl (9, [some none, some none, some none, none, some none, none, some none, some none, none, none, none, none]))])) dL_law_8 kX9 kl_RL_10 ki_RX9 kn_RX9 rfl (fun j hj => by rcases (by omega : j = 0 ∨ j = 1 ∨ j = 2 ∨ j = 3 ∨ j = 4 ∨ j = 5 ∨ j = 6 ∨ j = 7 ∨ j = 8 ∨ j = 9 ∨ j = 10 ∨ j = 11) with rfl | rfl | rfl | rfl | rfl | rfl | rfl | rfl | rfl | rfl | rfl | rfl <;> rfl) (by simp) (by decide +kernel) (by decide) (by decide +kernel) (by decide) (by decide +kernel) (by decide +kernel) ?_
  refine lj_dup (pc := 11) dL_law_11 ?_
  refine lj_inv (pc := 12) dL_law_12 mi_RL_12 (iX9_init_100 (am_new m1 100) (fun j => am_n0)) (by decide) (by decide) (by decide) (by decide +kernel) (by decide +kernel) (by decide +kernel) (by decide +kernel) (fun m2 d => ?_)
  obtain ⟨d1, d2, d3, d4⟩ := d
  refine lj_ast (pc := 15) (L' := [some (.inr 1000), some (.inr 0), some (.inr 100), none]) dL_law_15 rfl (by decide) rfl ?_
  refine lj_const (pc := 16) dL_law_16 ?_
  refine lj_ist (pc := 17) (L' := L4 0) dL_law_17 rfl (by decide) rfl ?_
  rw [show pt 107 [] = SH by decide +kernel]
  exact l_loop hX X.1 0 m2 (IN_start (m0 := m) c1 c2 c3 c4 c5 c6 c7 c8 c9 c10 (fun k j h => (d1 k j h).trans (am_nk (by omega))) d2 d3 d4) (by omega) (by omega) (by omega)

