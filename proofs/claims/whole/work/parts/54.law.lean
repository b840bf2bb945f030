/-! the law's own rows -/
def nC (c : Nat) : Nat := 80 + 25 * c
def nS : Nat → Nat
  | 0 => 119400
  | c + 1 => nS c + (48 * (c + 1) + 700)
theorem nS_mono {a b : Nat} (h : a ≤ b) : nS a ≤ nS b := by
  induction h with
  | refl => exact Nat.le_refl _
  | step _ ih => rw [nS]; omega
theorem nS_eq (c : Nat) : nS c = 119400 + 24 * (c * c) + 724 * c := by
  induction c with
  | zero => rfl
  | succ c ih =>
    rw [nS, ih]
    have : (c + 1) * (c + 1) = c * c + 2 * c + 1 := by rw [Nat.add_mul, Nat.mul_add]; omega
    omega
theorem nS_top {c : Nat} (h : c ≤ 512) : nS c ≤ 7000000 := by
  rw [nS_eq]
  have : c * c ≤ 512 * 512 := Nat.mul_le_mul h h
  omega
abbrev lvL (b : Nat) (ad : Nat → Nat) (v : Int32) : List (Nat × Value) := [(0, .ref b), (1, .ref (ad 0)), (2, .ref (ad 13)), (3, .ref (ad 12)), (4, .int v)]
/-- what the law's frame has: the script, how many of it, the room -/
def lCtx (x : zX) (b L : Nat) (xs : Nat → Int32) : Prop := va_X b L xs x.1.2.2.2.2 x.1.2.2.2.2.heap ∧ b < x.1.2.2.2.2.heap.size ∧ (¬ x.2.2.2.1 b) ∧ L < 2 ^ 31 ∧ L ≤ 4096 ∧ zNc x.1.2.2.2.2 ∧ (zcode x).maxLocals = 7 ∧ 12 ≤ (zRm x).frames ∧ 446 ≤ (zRm x).locals ∧ 601024 ≤ (zRm x).cells ∧ 7293034 ≤ (zRm x).slots
section LW
variable {x : zX} {cc : ByteArray} {own : String} {Ts : List Cond} {l : Launch} {D : va_G} {cl : List vw_C} {tys : List (ClassId × FieldType)} {ad : Nat → Nat} {ce : zW} {n i pc : Nat} {lv : List (Nat × Value)} {st : List Value}
theorem z_sld (hx : zOk x cc own Ts l D cl tys) {b L : Nat} {xs : Nat → Int32} (hX : va_X b L xs x.1.2.2.2.2 x.1.2.2.2.2.heap) (hbl : b < x.1.2.2.2.2.heap.size) (hbA : ¬ x.2.2.2.1 b) {k : Nat} (hk : k < L) (hL : L < 2 ^ 31) (hd : decode cc pc = .ok (.iaload, 1)) (kk : zV x ad ce n i lv (pc + 1) (.int (xs k) :: st)) : zV x ad ce n i lv pc (.int (nI k) :: .ref b :: st) := by
  obtain ⟨⟨p, l0, e, R, s⟩, ⟨m, args, below, meth, c⟩, ⟨D0, cl0, tys0⟩, A, Q⟩ := x
  obtain ⟨hexec, hb, hown, hts0, hK, hA, hlocks, hZ, hE1, hE⟩ := hx
  intro H locs ls hH hS hl
  refine va_sld hexec hb hX hbl hbA hS (vp_in_nI hk hL) hd ?_
  rw [nI_clamp (Nat.lt_trans hk hL)]
  exact kk H locs ls hH hS hl
theorem z_slen (hx : zOk x cc own Ts l D cl tys) {b L : Nat} {xs : Nat → Int32} (hX : va_X b L xs x.1.2.2.2.2 x.1.2.2.2.2.heap) (hbl : b < x.1.2.2.2.2.heap.size) (hbA : ¬ x.2.2.2.1 b) (hd : decode cc pc = .ok (.arraylength, 1)) (kk : zV x ad ce n i lv (pc + 1) (.int (nI L) :: st)) : zV x ad ce n i lv pc (.ref b :: st) := by
  obtain ⟨⟨p, l0, e, R, s⟩, ⟨m, args, below, meth, c⟩, ⟨D0, cl0, tys0⟩, A, Q⟩ := x
  obtain ⟨hexec, hb, hown, hts0, hK, hA, hlocks, hZ, hE1, hE⟩ := hx
  intro H locs ls hH hS hl
  exact va_slen hexec hb hX hbl hbA hS hd (kk H locs ls hH hS hl)
end LW
set_option maxRecDepth 20000 in
theorem law_arms {x : zX} {l : Launch} {D : va_G} {K : Nat → ClassId} {b L c : Nat} {xs : Nat → Int32} (hx : zOk x b_La_law "TrialDeskLaw" TB l D zcls (ztyl K)) (htr : l.stackTraces = false) (C : lCtx x b L xs) (hc : 8 * c + 8 ≤ L) {ad : Nat → Nat} {S : zSt} {g : Gh} (h : Rel g c S) (next : ∀ ad S g, Rel g (c + 1) S → zV x ad (Lay K ad S) (nC (c + 1)) (nS (c + 1)) (lvL b ad (nI (8 * c))) 1395 []) : zV x ad (Lay K ad S) (nC c) (nS c) (lvL b ad (nI (8 * c))) 132 [] := by
  obtain ⟨cL, cN, cM, cF, cO, cC, cS⟩ := C.2.2.2.2
  have hc5 : c < 512 := by omega
  have hns := nS_top (c := c + 1) (by omega)
  have hns2 : nS (c + 1) = nS c + (48 * (c + 1) + 700) := rfl
  refine z_aload_n hx 1 d_La_law_132 rfl ?_
  refine z_aload_n hx 0 d_La_law_133 rfl ?_
  refine z_iload hx 4 d_La_law_134 rfl ?_
  refine z_iconst (v := 1) hx d_La_law_136 rfl ?_
  refine z_iadd hx d_La_law_137 ?_
  refine z_top (b := nI (8 * c + 1)) (nI_add (8 * c) 1) ?_
  refine z_sld hx C.1 C.2.1 C.2.2.1 (k := 8 * c + 1) (by omega) C.2.2.2.1 d_La_law_138 ?_
  refine z_aload_n hx 0 d_La_law_139 rfl ?_
  refine z_iload hx 4 d_La_law_140 rfl ?_
  refine z_iconst (v := 2) hx d_La_law_142 rfl ?_
  refine z_iadd hx d_La_law_143 ?_
  refine z_top (b := nI (8 * c + 2)) (nI_add (8 * c) 2) ?_
  refine z_sld hx C.1 C.2.1 C.2.2.1 (k := 8 * c + 2) (by omega) C.2.2.2.1 d_La_law_144 ?_
  refine z_aload_n hx 0 d_La_law_145 rfl ?_
  refine z_iload hx 4 d_La_law_146 rfl ?_
  refine z_iconst (v := 3) hx d_La_law_148 rfl ?_
  refine z_iadd hx d_La_law_149 ?_
  refine z_top (b := nI (8 * c + 3)) (nI_add (8 * c) 3) ?_
  refine z_sld hx C.1 C.2.1 C.2.2.1 (k := 8 * c + 3) (by omega) C.2.2.2.1 d_La_law_150 ?_
  refine z_aload_n hx 0 d_La_law_151 rfl ?_
  refine z_iload hx 4 d_La_law_152 rfl ?_
  refine z_iconst (v := 4) hx d_La_law_154 rfl ?_
  refine z_iadd hx d_La_law_155 ?_
  refine z_top (b := nI (8 * c + 4)) (nI_add (8 * c) 4) ?_
  refine z_sld hx C.1 C.2.1 C.2.2.1 (k := 8 * c + 4) (by omega) C.2.2.2.1 d_La_law_156 ?_
  refine z_aload_n hx 0 d_La_law_157 rfl ?_
  refine z_iload hx 4 d_La_law_158 rfl ?_
  refine z_iconst (v := 5) hx d_La_law_160 rfl ?_
  refine z_iadd hx d_La_law_161 ?_
  refine z_top (b := nI (8 * c + 5)) (nI_add (8 * c) 5) ?_
  refine z_sld hx C.1 C.2.1 C.2.2.1 (k := 8 * c + 5) (by omega) C.2.2.2.1 d_La_law_162 ?_
  refine z_aload_n hx 0 d_La_law_163 rfl ?_
  refine z_iload hx 4 d_La_law_164 rfl ?_
  refine z_bipush (v := 6) hx d_La_law_166 rfl ?_
  refine z_iadd hx d_La_law_168 ?_
  refine z_top (b := nI (8 * c + 6)) (nI_add (8 * c) 6) ?_
  refine z_sld hx C.1 C.2.1 C.2.2.1 (k := 8 * c + 6) (by omega) C.2.2.2.1 d_La_law_169 ?_
  refine z_i2l hx d_La_law_170 ?_
  refine z_bipush (v := 32) hx d_La_law_171 rfl ?_
  refine z_lshl hx d_La_law_173 ?_
  refine z_aload_n hx 0 d_La_law_174 rfl ?_
  refine z_iload hx 4 d_La_law_175 rfl ?_
  refine z_bipush (v := 7) hx d_La_law_177 rfl ?_
  refine z_iadd hx d_La_law_179 ?_
  refine z_top (b := nI (8 * c + 7)) (nI_add (8 * c) 7) ?_
  refine z_sld hx C.1 C.2.1 C.2.2.1 (k := 8 * c + 7) (by omega) C.2.2.2.1 d_La_law_180 ?_
  refine z_i2l hx d_La_law_181 ?_
  refine z_ldc2 (v := 4294967295) hx d_La_law_182 a4_214 ?_
  refine z_land hx d_La_law_185 ?_
  refine z_lor hx d_La_law_186 ?_
  obtain ⟨rm, k, S1, hW, r1, r2, r3, r4, f, w, S2, g', hC, hf, hw, hk, hrel⟩ := sim_arms (D := D) (K := K) (ad := ad) htr h hc5 (a := xs (8 * c + 1)) (b := xs (8 * c + 2)) (cc := xs (8 * c + 3)) (d := xs (8 * c + 4)) (z := xs (8 * c + 5)) (w := ((xs (8 * c + 6)).toInt64 <<< ((32 : Int32).toInt64 &&& 63)) ||| ((xs (8 * c + 7)).toInt64 &&& 4294967295))
  refine z_retSW hx hW cN a1_161 a1_163 a1_0 ⟨by decide +kernel, by decide +kernel⟩ (fun sig h => by cases h; rfl) a1_162 rfl rfl d_La_law_187 ⟨by omega, by show 0 + (9 + 11) + rm.locals ≤ _; omega, by unfold nC; omega, by omega⟩ (fun E ad' ce' q => by cases q.1) (fun v ad' ce' q => ?_)
  obtain ⟨q1, rfl, rfl⟩ := q
  cases q1
  show zV x ad' (Lay K ad' S1) (nC c + rm.cells) (nS c + rm.slots) (lvL b ad' (nI (8 * c))) 190 [.int k]
  refine z_widen (n' := nC (c + 1)) (i' := nS (c + 1)) (by unfold nC; omega) (by omega) ?_
  refine z_istore hx [(5, .int k), (0, .ref b), (1, .ref (ad' 0)), (2, .ref (ad' 13)), (3, .ref (ad' 12)), (4, .int (nI (8 * c)))] d_La_law_190 (zN cM (by decide)) rfl ?_
  refine z_aload_n hx 3 d_La_law_192 rfl ?_
  refine z_aload_n hx 1 d_La_law_193 rfl ?_
  refine z_iload hx 5 d_La_law_194 rfl ?_
  refine z_iconst (v := 1) hx d_La_law_196 rfl ?_
  refine z_iadd hx d_La_law_197 ?_
  refine z_top (b := nI (8 * c + 1)) (nI_add (8 * c) 1) ?_
  refine z_sld hx C.1 C.2.1 C.2.2.1 (k := 8 * c + 1) (by omega) C.2.2.2.1 d_La_law_198 ?_
  refine z_aload_n hx 1 d_La_law_199 rfl ?_
  refine z_iload hx 5 d_La_law_200 rfl ?_
  refine z_iconst (v := 2) hx d_La_law_202 rfl ?_
  refine z_iadd hx d_La_law_203 ?_
  refine z_top (b := nI (8 * c + 2)) (nI_add (8 * c) 2) ?_
  refine z_sld hx C.1 C.2.1 C.2.2.1 (k := 8 * c + 2) (by omega) C.2.2.2.1 d_La_law_204 ?_
  refine z_aload_n hx 1 d_La_law_205 rfl ?_
  refine z_iload hx 5 d_La_law_206 rfl ?_
  refine z_iconst (v := 3) hx d_La_law_208 rfl ?_
  refine z_iadd hx d_La_law_209 ?_
  refine z_top (b := nI (8 * c + 3)) (nI_add (8 * c) 3) ?_
  refine z_sld hx C.1 C.2.1 C.2.2.1 (k := 8 * c + 3) (by omega) C.2.2.2.1 d_La_law_210 ?_
  refine z_aload_n hx 1 d_La_law_211 rfl ?_
  refine z_iload hx 5 d_La_law_212 rfl ?_
  refine z_iconst (v := 4) hx d_La_law_214 rfl ?_
  refine z_iadd hx d_La_law_215 ?_
  refine z_top (b := nI (8 * c + 4)) (nI_add (8 * c) 4) ?_
  refine z_sld hx C.1 C.2.1 C.2.2.1 (k := 8 * c + 4) (by omega) C.2.2.2.1 d_La_law_216 ?_
  refine z_aload_n hx 1 d_La_law_217 rfl ?_
  refine z_iload hx 5 d_La_law_218 rfl ?_
  refine z_iconst (v := 5) hx d_La_law_220 rfl ?_
  refine z_iadd hx d_La_law_221 ?_
  refine z_top (b := nI (8 * c + 5)) (nI_add (8 * c) 5) ?_
  refine z_sld hx C.1 C.2.1 C.2.2.1 (k := 8 * c + 5) (by omega) C.2.2.2.1 d_La_law_222 ?_
  refine z_aload_n hx 1 d_La_law_223 rfl ?_
  refine z_iload hx 5 d_La_law_224 rfl ?_
  refine z_bipush (v := 6) hx d_La_law_226 rfl ?_
  refine z_iadd hx d_La_law_228 ?_
  refine z_top (b := nI (8 * c + 6)) (nI_add (8 * c) 6) ?_
  refine z_sld hx C.1 C.2.1 C.2.2.1 (k := 8 * c + 6) (by omega) C.2.2.2.1 d_La_law_229 ?_
  refine z_i2l hx d_La_law_230 ?_
  refine z_bipush (v := 32) hx d_La_law_231 rfl ?_
  refine z_lshl hx d_La_law_233 ?_
  refine z_aload_n hx 1 d_La_law_234 rfl ?_
  refine z_iload hx 5 d_La_law_235 rfl ?_
  refine z_bipush (v := 7) hx d_La_law_237 rfl ?_
  refine z_iadd hx d_La_law_239 ?_
  refine z_top (b := nI (8 * c + 7)) (nI_add (8 * c) 7) ?_
  refine z_sld hx C.1 C.2.1 C.2.2.1 (k := 8 * c + 7) (by omega) C.2.2.2.1 d_La_law_240 ?_
  refine z_i2l hx d_La_law_241 ?_
  refine z_ldc2 (v := 4294967295) hx d_La_law_242 a4_214 ?_
  refine z_land hx d_La_law_245 ?_
  refine z_lor hx d_La_law_246 ?_
  refine z_cV hx hC k_Mo (t := 13) rfl ⟨a4_74, a4_77, a1_6, ⟨by decide +kernel, by decide +kernel⟩, fun sig h => by cases h; rfl⟩ a4_75 a4_76 rfl rfl d_La_law_247 ⟨by omega, by show 0 + (12 + 11) + w ≤ _; omega, by unfold nC; omega, by omega⟩ ?_
  refine z_aload_n hx 3 d_La_law_250 rfl ?_
  refine z_cV hx c_Mo_thrown k_Mo (t := 13) rfl ⟨a4_70, a4_73, a1_6, ⟨by decide +kernel, by decide +kernel⟩, fun sig h => by cases h; rfl⟩ a4_71 a4_72 rfl rfl d_La_law_251 ⟨by omega, by show 0 + (1 + 11) + 0 ≤ _; omega, by unfold nC; omega, by omega⟩ ?_
  refine z_top (b := k) hk ?_
  refine z_iload hx 0 d_La_law_254 rfl ?_
  refine z_icmp_eq (tgt := 261) hx d_La_law_256 (by decide) (fun _ => ?_) (fun q => absurd rfl q)
  refine z_goto (tgt := 1395) hx d_La_law_261 (by decide) ?_
  exact z_lv [1, 2, 3, 4, 5] _ rfl (next _ _ _ hrel)
set_option maxRecDepth 20000 in
theorem law_site {x : zX} {l : Launch} {D : va_G} {K : Nat → ClassId} {b L c : Nat} {xs : Nat → Int32} (hx : zOk x b_La_law "TrialDeskLaw" TB l D zcls (ztyl K)) (htr : l.stackTraces = false) (C : lCtx x b L xs) (hc : 8 * c + 8 ≤ L) {ad : Nat → Nat} {S : zSt} {g : Gh} (h : Rel g c S) (next : ∀ ad S g, Rel g (c + 1) S → zV x ad (Lay K ad S) (nC (c + 1)) (nS (c + 1)) (lvL b ad (nI (8 * c))) 1395 []) : zV x ad (Lay K ad S) (nC c) (nS c) (lvL b ad (nI (8 * c))) 264 [] := by
  obtain ⟨cL, cN, cM, cF, cO, cC, cS⟩ := C.2.2.2.2
  have hc5 : c < 512 := by omega
  have hns := nS_top (c := c + 1) (by omega)
  have hns2 : nS (c + 1) = nS c + (48 * (c + 1) + 700) := rfl
  refine z_aload_n hx 1 d_La_law_264 rfl ?_
  refine z_aload_n hx 0 d_La_law_265 rfl ?_
  refine z_iload hx 4 d_La_law_266 rfl ?_
  refine z_iconst (v := 1) hx d_La_law_268 rfl ?_
  refine z_iadd hx d_La_law_269 ?_
  refine z_top (b := nI (8 * c + 1)) (nI_add (8 * c) 1) ?_
  refine z_sld hx C.1 C.2.1 C.2.2.1 (k := 8 * c + 1) (by omega) C.2.2.2.1 d_La_law_270 ?_
  refine z_aload_n hx 3 d_La_law_271 rfl ?_
  obtain ⟨rm, post, hW, r1, r2, r3, r4, hk⟩ := sim_site (D := D) (K := K) (ad := ad) htr h hc5 (v0 := xs (8 * c + 1))
  refine z_retSW hx hW cN a2_53 a2_55 a1_0 ⟨by decide +kernel, by decide +kernel⟩ (fun sig h => by cases h; rfl) a2_54 rfl rfl d_La_law_272 ⟨by omega, by show 0 + (4 + 11) + rm.locals ≤ _; omega, by unfold nC; omega, by omega⟩ (fun E ad' ce' q => by obtain ⟨k, S1, q1, -⟩ := hk _ _ _ q; cases q1) (fun v ad' ce' q => ?_)
  obtain ⟨k, S1, q1, hlo, rfl, f, w, bb, S2, g', hC, hf, hw, hk13, hout, hrel⟩ := hk _ _ _ q
  cases q1
  show zV x ad' (Lay K ad' S1) (nC c + rm.cells) (nS c + rm.slots) (lvL b ad (nI (8 * c))) 275 [.int k]
  rw [show lvL b ad (nI (8 * c)) = lvL b ad' (nI (8 * c)) from by unfold lvL; rw [hlo 0 (by decide), hlo 13 (by decide), hlo 12 (by decide)]]
  refine z_widen (n' := nC (c + 1)) (i' := nS (c + 1)) (by unfold nC; omega) (by omega) ?_
  refine z_istore hx [(5, .int k), (0, .ref b), (1, .ref (ad' 0)), (2, .ref (ad' 13)), (3, .ref (ad' 12)), (4, .int (nI (8 * c)))] d_La_law_275 (zN cM (by decide)) rfl ?_
  refine z_aload_n hx 3 d_La_law_277 rfl ?_
  refine z_aload_n hx 1 d_La_law_278 rfl ?_
  refine z_iload hx 5 d_La_law_279 rfl ?_
  refine z_iconst (v := 1) hx d_La_law_281 rfl ?_
  refine z_iadd hx d_La_law_282 ?_
  refine z_top (b := nI (8 * c + 1)) (nI_add (8 * c) 1) ?_
  refine z_sld hx C.1 C.2.1 C.2.2.1 (k := 8 * c + 1) (by omega) C.2.2.2.1 d_La_law_283 ?_
  refine z_cV hx hC k_Mo (t := 13) rfl ⟨a4_90, a4_93, a1_6, ⟨by decide +kernel, by decide +kernel⟩, fun sig h => by cases h; rfl⟩ a4_91 a4_92 rfl rfl d_La_law_284 ⟨by omega, by show 0 + (5 + 11) + w ≤ _; omega, by unfold nC; omega, by omega⟩ ?_
  refine z_istore hx [(6, .int bb), (5, .int k), (0, .ref b), (1, .ref (ad' 0)), (2, .ref (ad' 13)), (3, .ref (ad' 12)), (4, .int (nI (8 * c)))] d_La_law_287 (zN cM (by decide)) rfl ?_
  refine z_aload_n hx 4 d_La_law_289 rfl ?_
  refine z_cV hx c_Mo_thrown k_Mo (t := 13) rfl ⟨a4_70, a4_73, a1_6, ⟨by decide +kernel, by decide +kernel⟩, fun sig h => by cases h; rfl⟩ a4_71 a4_72 rfl rfl d_La_law_290 ⟨by omega, by show 0 + (1 + 11) + 0 ≤ _; omega, by unfold nC; omega, by omega⟩ ?_
  refine z_top (b := k) hk13 ?_
  refine z_iload hx 1 d_La_law_293 rfl ?_
  refine z_icmp_eq (tgt := 300) hx d_La_law_295 (by decide) (fun _ => ?_) (fun q => absurd rfl q)
  refine z_iload hx 1 d_La_law_300 rfl ?_
  refine z_if_ne (tgt := 317) hx d_La_law_302 (by decide) (fun _ => ?_) (fun k0 => ?_)
  · refine z_goto (tgt := 1395) hx d_La_law_317 (by decide) ?_
    exact z_lv [2, 3, 4, 5, 6] _ rfl (next _ _ _ hrel)
  · refine z_aload_n hx 5 d_La_law_305 rfl ?_
    refine z_iconst (v := 0) hx d_La_law_306 rfl ?_
    refine z_laldK hx 1 rfl (t := 12) rfl (k := 0) (by decide) (by decide) d_La_law_307 ?_
    refine z_topL (b := bb.toInt64) (hout (by first | exact k0 | exact Decidable.byContradiction k0)) ?_
    refine z_iload hx 0 d_La_law_308 rfl ?_
    refine z_i2l hx d_La_law_310 ?_
    refine z_lcmp hx d_La_law_311 ?_
    refine z_if_eq (tgt := 317) hx d_La_law_312 (by decide) (fun _ => ?_) (fun q => absurd ((lg_cmp_eq _ _).mpr rfl) q)
    refine z_goto (tgt := 1395) hx d_La_law_317 (by decide) ?_
    exact z_lv [2, 3, 4, 5, 6] _ rfl (next _ _ _ hrel)
set_option maxRecDepth 20000 in
theorem law_kits {x : zX} {l : Launch} {D : va_G} {K : Nat → ClassId} {b L c : Nat} {xs : Nat → Int32} (hx : zOk x b_La_law "TrialDeskLaw" TB l D zcls (ztyl K)) (htr : l.stackTraces = false) (C : lCtx x b L xs) (hc : 8 * c + 8 ≤ L) {ad : Nat → Nat} {S : zSt} {g : Gh} (h : Rel g c S) (next : ∀ ad S g, Rel g (c + 1) S → zV x ad (Lay K ad S) (nC (c + 1)) (nS (c + 1)) (lvL b ad (nI (8 * c))) 1395 []) : zV x ad (Lay K ad S) (nC c) (nS c) (lvL b ad (nI (8 * c))) 320 [] := by
  obtain ⟨cL, cN, cM, cF, cO, cC, cS⟩ := C.2.2.2.2
  have hc5 : c < 512 := by omega
  have hns := nS_top (c := c + 1) (by omega)
  have hns2 : nS (c + 1) = nS c + (48 * (c + 1) + 700) := rfl
  refine z_aload_n hx 1 d_La_law_320 rfl ?_
  refine z_aload_n hx 0 d_La_law_321 rfl ?_
  refine z_iload hx 4 d_La_law_322 rfl ?_
  refine z_iconst (v := 1) hx d_La_law_324 rfl ?_
  refine z_iadd hx d_La_law_325 ?_
  refine z_top (b := nI (8 * c + 1)) (nI_add (8 * c) 1) ?_
  refine z_sld hx C.1 C.2.1 C.2.2.1 (k := 8 * c + 1) (by omega) C.2.2.2.1 d_La_law_326 ?_
  refine z_aload_n hx 0 d_La_law_327 rfl ?_
  refine z_iload hx 4 d_La_law_328 rfl ?_
  refine z_iconst (v := 2) hx d_La_law_330 rfl ?_
  refine z_iadd hx d_La_law_331 ?_
  refine z_top (b := nI (8 * c + 2)) (nI_add (8 * c) 2) ?_
  refine z_sld hx C.1 C.2.1 C.2.2.1 (k := 8 * c + 2) (by omega) C.2.2.2.1 d_La_law_332 ?_
  refine z_aload_n hx 0 d_La_law_333 rfl ?_
  refine z_iload hx 4 d_La_law_334 rfl ?_
  refine z_iconst (v := 3) hx d_La_law_336 rfl ?_
  refine z_iadd hx d_La_law_337 ?_
  refine z_top (b := nI (8 * c + 3)) (nI_add (8 * c) 3) ?_
  refine z_sld hx C.1 C.2.1 C.2.2.1 (k := 8 * c + 3) (by omega) C.2.2.2.1 d_La_law_338 ?_
  refine z_aload_n hx 0 d_La_law_339 rfl ?_
  refine z_iload hx 4 d_La_law_340 rfl ?_
  refine z_iconst (v := 4) hx d_La_law_342 rfl ?_
  refine z_iadd hx d_La_law_343 ?_
  refine z_top (b := nI (8 * c + 4)) (nI_add (8 * c) 4) ?_
  refine z_sld hx C.1 C.2.1 C.2.2.1 (k := 8 * c + 4) (by omega) C.2.2.2.1 d_La_law_344 ?_
  refine z_aload_n hx 3 d_La_law_345 rfl ?_
  obtain ⟨rm, post, hW, r1, r2, r3, r4, hk⟩ := sim_kits (D := D) (K := K) (ad := ad) htr h hc5 (v0 := xs (8 * c + 1)) (v1 := xs (8 * c + 2)) (v2 := xs (8 * c + 3)) (v3 := xs (8 * c + 4))
  refine z_retSW hx hW cN a2_106 a2_108 a1_0 ⟨by decide +kernel, by decide +kernel⟩ (fun sig h => by cases h; rfl) a2_107 rfl rfl d_La_law_346 ⟨by omega, by show 0 + (7 + 11) + rm.locals ≤ _; omega, by unfold nC; omega, by omega⟩ (fun E ad' ce' q => by obtain ⟨k, S1, q1, -⟩ := hk _ _ _ q; cases q1) (fun v ad' ce' q => ?_)
  obtain ⟨k, S1, q1, hlo, rfl, f, w, bb, S2, g', hC, hf, hw, hk13, hout, hrel⟩ := hk _ _ _ q
  cases q1
  show zV x ad' (Lay K ad' S1) (nC c + rm.cells) (nS c + rm.slots) (lvL b ad (nI (8 * c))) 349 [.int k]
  rw [show lvL b ad (nI (8 * c)) = lvL b ad' (nI (8 * c)) from by unfold lvL; rw [hlo 0 (by decide), hlo 13 (by decide), hlo 12 (by decide)]]
  refine z_widen (n' := nC (c + 1)) (i' := nS (c + 1)) (by unfold nC; omega) (by omega) ?_
  refine z_istore hx [(5, .int k), (0, .ref b), (1, .ref (ad' 0)), (2, .ref (ad' 13)), (3, .ref (ad' 12)), (4, .int (nI (8 * c)))] d_La_law_349 (zN cM (by decide)) rfl ?_
  refine z_aload_n hx 3 d_La_law_351 rfl ?_
  refine z_aload_n hx 1 d_La_law_352 rfl ?_
  refine z_iload hx 5 d_La_law_353 rfl ?_
  refine z_iconst (v := 1) hx d_La_law_355 rfl ?_
  refine z_iadd hx d_La_law_356 ?_
  refine z_top (b := nI (8 * c + 1)) (nI_add (8 * c) 1) ?_
  refine z_sld hx C.1 C.2.1 C.2.2.1 (k := 8 * c + 1) (by omega) C.2.2.2.1 d_La_law_357 ?_
  refine z_aload_n hx 1 d_La_law_358 rfl ?_
  refine z_iload hx 5 d_La_law_359 rfl ?_
  refine z_iconst (v := 2) hx d_La_law_361 rfl ?_
  refine z_iadd hx d_La_law_362 ?_
  refine z_top (b := nI (8 * c + 2)) (nI_add (8 * c) 2) ?_
  refine z_sld hx C.1 C.2.1 C.2.2.1 (k := 8 * c + 2) (by omega) C.2.2.2.1 d_La_law_363 ?_
  refine z_aload_n hx 1 d_La_law_364 rfl ?_
  refine z_iload hx 5 d_La_law_365 rfl ?_
  refine z_iconst (v := 3) hx d_La_law_367 rfl ?_
  refine z_iadd hx d_La_law_368 ?_
  refine z_top (b := nI (8 * c + 3)) (nI_add (8 * c) 3) ?_
  refine z_sld hx C.1 C.2.1 C.2.2.1 (k := 8 * c + 3) (by omega) C.2.2.2.1 d_La_law_369 ?_
  refine z_aload_n hx 1 d_La_law_370 rfl ?_
  refine z_iload hx 5 d_La_law_371 rfl ?_
  refine z_iconst (v := 4) hx d_La_law_373 rfl ?_
  refine z_iadd hx d_La_law_374 ?_
  refine z_top (b := nI (8 * c + 4)) (nI_add (8 * c) 4) ?_
  refine z_sld hx C.1 C.2.1 C.2.2.1 (k := 8 * c + 4) (by omega) C.2.2.2.1 d_La_law_375 ?_
  refine z_cV hx hC k_Mo (t := 13) rfl ⟨a4_94, a4_97, a1_6, ⟨by decide +kernel, by decide +kernel⟩, fun sig h => by cases h; rfl⟩ a4_95 a4_96 rfl rfl d_La_law_376 ⟨by omega, by show 0 + (7 + 11) + w ≤ _; omega, by unfold nC; omega, by omega⟩ ?_
  refine z_istore hx [(6, .int bb), (5, .int k), (0, .ref b), (1, .ref (ad' 0)), (2, .ref (ad' 13)), (3, .ref (ad' 12)), (4, .int (nI (8 * c)))] d_La_law_379 (zN cM (by decide)) rfl ?_
  refine z_aload_n hx 4 d_La_law_381 rfl ?_
  refine z_cV hx c_Mo_thrown k_Mo (t := 13) rfl ⟨a4_70, a4_73, a1_6, ⟨by decide +kernel, by decide +kernel⟩, fun sig h => by cases h; rfl⟩ a4_71 a4_72 rfl rfl d_La_law_382 ⟨by omega, by show 0 + (1 + 11) + 0 ≤ _; omega, by unfold nC; omega, by omega⟩ ?_
  refine z_top (b := k) hk13 ?_
  refine z_iload hx 1 d_La_law_385 rfl ?_
  refine z_icmp_eq (tgt := 392) hx d_La_law_387 (by decide) (fun _ => ?_) (fun q => absurd rfl q)
  refine z_iload hx 1 d_La_law_392 rfl ?_
  refine z_if_ne (tgt := 409) hx d_La_law_394 (by decide) (fun _ => ?_) (fun k0 => ?_)
  · refine z_goto (tgt := 1395) hx d_La_law_409 (by decide) ?_
    exact z_lv [2, 3, 4, 5, 6] _ rfl (next _ _ _ hrel)
  · refine z_aload_n hx 5 d_La_law_397 rfl ?_
    refine z_iconst (v := 0) hx d_La_law_398 rfl ?_
    refine z_laldK hx 1 rfl (t := 12) rfl (k := 0) (by decide) (by decide) d_La_law_399 ?_
    refine z_topL (b := bb.toInt64) (hout (by first | exact k0 | exact Decidable.byContradiction k0)) ?_
    refine z_iload hx 0 d_La_law_400 rfl ?_
    refine z_i2l hx d_La_law_402 ?_
    refine z_lcmp hx d_La_law_403 ?_
    refine z_if_eq (tgt := 409) hx d_La_law_404 (by decide) (fun _ => ?_) (fun q => absurd ((lg_cmp_eq _ _).mpr rfl) q)
    refine z_goto (tgt := 1395) hx d_La_law_409 (by decide) ?_
    exact z_lv [2, 3, 4, 5, 6] _ rfl (next _ _ _ hrel)
set_option maxRecDepth 20000 in
theorem law_allot {x : zX} {l : Launch} {D : va_G} {K : Nat → ClassId} {b L c : Nat} {xs : Nat → Int32} (hx : zOk x b_La_law "TrialDeskLaw" TB l D zcls (ztyl K)) (htr : l.stackTraces = false) (C : lCtx x b L xs) (hc : 8 * c + 8 ≤ L) {ad : Nat → Nat} {S : zSt} {g : Gh} (h : Rel g c S) (next : ∀ ad S g, Rel g (c + 1) S → zV x ad (Lay K ad S) (nC (c + 1)) (nS (c + 1)) (lvL b ad (nI (8 * c))) 1395 []) : zV x ad (Lay K ad S) (nC c) (nS c) (lvL b ad (nI (8 * c))) 412 [] := by
  obtain ⟨cL, cN, cM, cF, cO, cC, cS⟩ := C.2.2.2.2
  have hc5 : c < 512 := by omega
  have hns := nS_top (c := c + 1) (by omega)
  have hns2 : nS (c + 1) = nS c + (48 * (c + 1) + 700) := rfl
  refine z_aload_n hx 1 d_La_law_412 rfl ?_
  refine z_aload_n hx 0 d_La_law_413 rfl ?_
  refine z_iload hx 4 d_La_law_414 rfl ?_
  refine z_iconst (v := 1) hx d_La_law_416 rfl ?_
  refine z_iadd hx d_La_law_417 ?_
  refine z_top (b := nI (8 * c + 1)) (nI_add (8 * c) 1) ?_
  refine z_sld hx C.1 C.2.1 C.2.2.1 (k := 8 * c + 1) (by omega) C.2.2.2.1 d_La_law_418 ?_
  refine z_aload_n hx 0 d_La_law_419 rfl ?_
  refine z_iload hx 4 d_La_law_420 rfl ?_
  refine z_iconst (v := 2) hx d_La_law_422 rfl ?_
  refine z_iadd hx d_La_law_423 ?_
  refine z_top (b := nI (8 * c + 2)) (nI_add (8 * c) 2) ?_
  refine z_sld hx C.1 C.2.1 C.2.2.1 (k := 8 * c + 2) (by omega) C.2.2.2.1 d_La_law_424 ?_
  refine z_aload_n hx 0 d_La_law_425 rfl ?_
  refine z_iload hx 4 d_La_law_426 rfl ?_
  refine z_iconst (v := 3) hx d_La_law_428 rfl ?_
  refine z_iadd hx d_La_law_429 ?_
  refine z_top (b := nI (8 * c + 3)) (nI_add (8 * c) 3) ?_
  refine z_sld hx C.1 C.2.1 C.2.2.1 (k := 8 * c + 3) (by omega) C.2.2.2.1 d_La_law_430 ?_
  refine z_aload_n hx 3 d_La_law_431 rfl ?_
  obtain ⟨rm, post, hW, r1, r2, r3, r4, hk⟩ := sim_allot (D := D) (K := K) (ad := ad) htr h hc5 (v0 := xs (8 * c + 1)) (v1 := xs (8 * c + 2)) (v2 := xs (8 * c + 3))
  refine z_retSW hx hW cN a2_148 a2_150 a1_0 ⟨by decide +kernel, by decide +kernel⟩ (fun sig h => by cases h; rfl) a2_149 rfl rfl d_La_law_432 ⟨by omega, by show 0 + (6 + 11) + rm.locals ≤ _; omega, by unfold nC; omega, by omega⟩ (fun E ad' ce' q => by obtain ⟨k, S1, q1, -⟩ := hk _ _ _ q; cases q1) (fun v ad' ce' q => ?_)
  obtain ⟨k, S1, q1, hlo, rfl, f, w, bb, S2, g', hC, hf, hw, hk13, hout, hrel⟩ := hk _ _ _ q
  cases q1
  show zV x ad' (Lay K ad' S1) (nC c + rm.cells) (nS c + rm.slots) (lvL b ad (nI (8 * c))) 435 [.int k]
  rw [show lvL b ad (nI (8 * c)) = lvL b ad' (nI (8 * c)) from by unfold lvL; rw [hlo 0 (by decide), hlo 13 (by decide), hlo 12 (by decide)]]
  refine z_widen (n' := nC (c + 1)) (i' := nS (c + 1)) (by unfold nC; omega) (by omega) ?_
  refine z_istore hx [(5, .int k), (0, .ref b), (1, .ref (ad' 0)), (2, .ref (ad' 13)), (3, .ref (ad' 12)), (4, .int (nI (8 * c)))] d_La_law_435 (zN cM (by decide)) rfl ?_
  refine z_aload_n hx 3 d_La_law_437 rfl ?_
  refine z_aload_n hx 1 d_La_law_438 rfl ?_
  refine z_iload hx 5 d_La_law_439 rfl ?_
  refine z_iconst (v := 1) hx d_La_law_441 rfl ?_
  refine z_iadd hx d_La_law_442 ?_
  refine z_top (b := nI (8 * c + 1)) (nI_add (8 * c) 1) ?_
  refine z_sld hx C.1 C.2.1 C.2.2.1 (k := 8 * c + 1) (by omega) C.2.2.2.1 d_La_law_443 ?_
  refine z_aload_n hx 1 d_La_law_444 rfl ?_
  refine z_iload hx 5 d_La_law_445 rfl ?_
  refine z_iconst (v := 2) hx d_La_law_447 rfl ?_
  refine z_iadd hx d_La_law_448 ?_
  refine z_top (b := nI (8 * c + 2)) (nI_add (8 * c) 2) ?_
  refine z_sld hx C.1 C.2.1 C.2.2.1 (k := 8 * c + 2) (by omega) C.2.2.2.1 d_La_law_449 ?_
  refine z_aload_n hx 1 d_La_law_450 rfl ?_
  refine z_iload hx 5 d_La_law_451 rfl ?_
  refine z_iconst (v := 3) hx d_La_law_453 rfl ?_
  refine z_iadd hx d_La_law_454 ?_
  refine z_top (b := nI (8 * c + 3)) (nI_add (8 * c) 3) ?_
  refine z_sld hx C.1 C.2.1 C.2.2.1 (k := 8 * c + 3) (by omega) C.2.2.2.1 d_La_law_455 ?_
  refine z_cV hx hC k_Mo (t := 13) rfl ⟨a4_111, a4_114, a1_6, ⟨by decide +kernel, by decide +kernel⟩, fun sig h => by cases h; rfl⟩ a4_112 a4_113 rfl rfl d_La_law_456 ⟨by omega, by show 0 + (6 + 11) + w ≤ _; omega, by unfold nC; omega, by omega⟩ ?_
  refine z_istore hx [(6, .int bb), (5, .int k), (0, .ref b), (1, .ref (ad' 0)), (2, .ref (ad' 13)), (3, .ref (ad' 12)), (4, .int (nI (8 * c)))] d_La_law_459 (zN cM (by decide)) rfl ?_
  refine z_aload_n hx 4 d_La_law_461 rfl ?_
  refine z_cV hx c_Mo_thrown k_Mo (t := 13) rfl ⟨a4_70, a4_73, a1_6, ⟨by decide +kernel, by decide +kernel⟩, fun sig h => by cases h; rfl⟩ a4_71 a4_72 rfl rfl d_La_law_462 ⟨by omega, by show 0 + (1 + 11) + 0 ≤ _; omega, by unfold nC; omega, by omega⟩ ?_
  refine z_top (b := k) hk13 ?_
  refine z_iload hx 1 d_La_law_465 rfl ?_
  refine z_icmp_eq (tgt := 472) hx d_La_law_467 (by decide) (fun _ => ?_) (fun q => absurd rfl q)
  refine z_iload hx 1 d_La_law_472 rfl ?_
  refine z_if_ne (tgt := 489) hx d_La_law_474 (by decide) (fun _ => ?_) (fun k0 => ?_)
  · refine z_goto (tgt := 1395) hx d_La_law_489 (by decide) ?_
    exact z_lv [2, 3, 4, 5, 6] _ rfl (next _ _ _ hrel)
  · refine z_aload_n hx 5 d_La_law_477 rfl ?_
    refine z_iconst (v := 0) hx d_La_law_478 rfl ?_
    refine z_laldK hx 1 rfl (t := 12) rfl (k := 0) (by decide) (by decide) d_La_law_479 ?_
    refine z_topL (b := bb.toInt64) (hout (by first | exact k0 | exact Decidable.byContradiction k0)) ?_
    refine z_iload hx 0 d_La_law_480 rfl ?_
    refine z_i2l hx d_La_law_482 ?_
    refine z_lcmp hx d_La_law_483 ?_
    refine z_if_eq (tgt := 489) hx d_La_law_484 (by decide) (fun _ => ?_) (fun q => absurd ((lg_cmp_eq _ _).mpr rfl) q)
    refine z_goto (tgt := 1395) hx d_La_law_489 (by decide) ?_
    exact z_lv [2, 3, 4, 5, 6] _ rfl (next _ _ _ hrel)
set_option maxRecDepth 20000 in
theorem law_reserve {x : zX} {l : Launch} {D : va_G} {K : Nat → ClassId} {b L c : Nat} {xs : Nat → Int32} (hx : zOk x b_La_law "TrialDeskLaw" TB l D zcls (ztyl K)) (htr : l.stackTraces = false) (C : lCtx x b L xs) (hc : 8 * c + 8 ≤ L) {ad : Nat → Nat} {S : zSt} {g : Gh} (h : Rel g c S) (next : ∀ ad S g, Rel g (c + 1) S → zV x ad (Lay K ad S) (nC (c + 1)) (nS (c + 1)) (lvL b ad (nI (8 * c))) 1395 []) : zV x ad (Lay K ad S) (nC c) (nS c) (lvL b ad (nI (8 * c))) 492 [] := by
  obtain ⟨cL, cN, cM, cF, cO, cC, cS⟩ := C.2.2.2.2
  have hc5 : c < 512 := by omega
  have hns := nS_top (c := c + 1) (by omega)
  have hns2 : nS (c + 1) = nS c + (48 * (c + 1) + 700) := rfl
  refine z_aload_n hx 1 d_La_law_492 rfl ?_
  refine z_aload_n hx 0 d_La_law_493 rfl ?_
  refine z_iload hx 4 d_La_law_494 rfl ?_
  refine z_iconst (v := 1) hx d_La_law_496 rfl ?_
  refine z_iadd hx d_La_law_497 ?_
  refine z_top (b := nI (8 * c + 1)) (nI_add (8 * c) 1) ?_
  refine z_sld hx C.1 C.2.1 C.2.2.1 (k := 8 * c + 1) (by omega) C.2.2.2.1 d_La_law_498 ?_
  refine z_aload_n hx 0 d_La_law_499 rfl ?_
  refine z_iload hx 4 d_La_law_500 rfl ?_
  refine z_iconst (v := 2) hx d_La_law_502 rfl ?_
  refine z_iadd hx d_La_law_503 ?_
  refine z_top (b := nI (8 * c + 2)) (nI_add (8 * c) 2) ?_
  refine z_sld hx C.1 C.2.1 C.2.2.1 (k := 8 * c + 2) (by omega) C.2.2.2.1 d_La_law_504 ?_
  refine z_aload_n hx 3 d_La_law_505 rfl ?_
  obtain ⟨rm, post, hW, r1, r2, r3, r4, hk⟩ := sim_reserve (D := D) (K := K) (ad := ad) htr h hc5 (v0 := xs (8 * c + 1)) (v1 := xs (8 * c + 2))
  refine z_retSW hx hW cN a3_15 a3_17 a1_0 ⟨by decide +kernel, by decide +kernel⟩ (fun sig h => by cases h; rfl) a3_16 rfl rfl d_La_law_506 ⟨by omega, by show 0 + (5 + 11) + rm.locals ≤ _; omega, by unfold nC; omega, by omega⟩ (fun E ad' ce' q => by obtain ⟨k, S1, q1, -⟩ := hk _ _ _ q; cases q1) (fun v ad' ce' q => ?_)
  obtain ⟨k, S1, q1, hlo, rfl, f, w, bb, S2, g', hC, hf, hw, hk13, hout, hrel⟩ := hk _ _ _ q
  cases q1
  show zV x ad' (Lay K ad' S1) (nC c + rm.cells) (nS c + rm.slots) (lvL b ad (nI (8 * c))) 509 [.int k]
  rw [show lvL b ad (nI (8 * c)) = lvL b ad' (nI (8 * c)) from by unfold lvL; rw [hlo 0 (by decide), hlo 13 (by decide), hlo 12 (by decide)]]
  refine z_widen (n' := nC (c + 1)) (i' := nS (c + 1)) (by unfold nC; omega) (by omega) ?_
  refine z_istore hx [(5, .int k), (0, .ref b), (1, .ref (ad' 0)), (2, .ref (ad' 13)), (3, .ref (ad' 12)), (4, .int (nI (8 * c)))] d_La_law_509 (zN cM (by decide)) rfl ?_
  refine z_aload_n hx 3 d_La_law_511 rfl ?_
  refine z_aload_n hx 1 d_La_law_512 rfl ?_
  refine z_iload hx 5 d_La_law_513 rfl ?_
  refine z_iconst (v := 1) hx d_La_law_515 rfl ?_
  refine z_iadd hx d_La_law_516 ?_
  refine z_top (b := nI (8 * c + 1)) (nI_add (8 * c) 1) ?_
  refine z_sld hx C.1 C.2.1 C.2.2.1 (k := 8 * c + 1) (by omega) C.2.2.2.1 d_La_law_517 ?_
  refine z_aload_n hx 1 d_La_law_518 rfl ?_
  refine z_iload hx 5 d_La_law_519 rfl ?_
  refine z_iconst (v := 2) hx d_La_law_521 rfl ?_
  refine z_iadd hx d_La_law_522 ?_
  refine z_top (b := nI (8 * c + 2)) (nI_add (8 * c) 2) ?_
  refine z_sld hx C.1 C.2.1 C.2.2.1 (k := 8 * c + 2) (by omega) C.2.2.2.1 d_La_law_523 ?_
  refine z_cV hx hC k_Mo (t := 13) rfl ⟨a4_143, a4_146, a1_6, ⟨by decide +kernel, by decide +kernel⟩, fun sig h => by cases h; rfl⟩ a4_144 a4_145 rfl rfl d_La_law_524 ⟨by omega, by show 0 + (7 + 11) + w ≤ _; omega, by unfold nC; omega, by omega⟩ ?_
  refine z_istore hx [(6, .int bb), (5, .int k), (0, .ref b), (1, .ref (ad' 0)), (2, .ref (ad' 13)), (3, .ref (ad' 12)), (4, .int (nI (8 * c)))] d_La_law_527 (zN cM (by decide)) rfl ?_
  refine z_aload_n hx 4 d_La_law_529 rfl ?_
  refine z_cV hx c_Mo_thrown k_Mo (t := 13) rfl ⟨a4_70, a4_73, a1_6, ⟨by decide +kernel, by decide +kernel⟩, fun sig h => by cases h; rfl⟩ a4_71 a4_72 rfl rfl d_La_law_530 ⟨by omega, by show 0 + (1 + 11) + 0 ≤ _; omega, by unfold nC; omega, by omega⟩ ?_
  refine z_top (b := k) hk13 ?_
  refine z_iload hx 1 d_La_law_533 rfl ?_
  refine z_icmp_eq (tgt := 540) hx d_La_law_535 (by decide) (fun _ => ?_) (fun q => absurd rfl q)
  refine z_iload hx 1 d_La_law_540 rfl ?_
  refine z_if_ne (tgt := 557) hx d_La_law_542 (by decide) (fun _ => ?_) (fun k0 => ?_)
  · refine z_goto (tgt := 1395) hx d_La_law_557 (by decide) ?_
    exact z_lv [2, 3, 4, 5, 6] _ rfl (next _ _ _ hrel)
  · refine z_aload_n hx 5 d_La_law_545 rfl ?_
    refine z_iconst (v := 0) hx d_La_law_546 rfl ?_
    refine z_laldK hx 1 rfl (t := 12) rfl (k := 0) (by decide) (by decide) d_La_law_547 ?_
    refine z_topL (b := bb.toInt64) (hout (by first | exact k0 | exact Decidable.byContradiction k0)) ?_
    refine z_iload hx 0 d_La_law_548 rfl ?_
    refine z_i2l hx d_La_law_550 ?_
    refine z_lcmp hx d_La_law_551 ?_
    refine z_if_eq (tgt := 557) hx d_La_law_552 (by decide) (fun _ => ?_) (fun q => absurd ((lg_cmp_eq _ _).mpr rfl) q)
    refine z_goto (tgt := 1395) hx d_La_law_557 (by decide) ?_
    exact z_lv [2, 3, 4, 5, 6] _ rfl (next _ _ _ hrel)
set_option maxRecDepth 20000 in
theorem law_offline {x : zX} {l : Launch} {D : va_G} {K : Nat → ClassId} {b L c : Nat} {xs : Nat → Int32} (hx : zOk x b_La_law "TrialDeskLaw" TB l D zcls (ztyl K)) (htr : l.stackTraces = false) (C : lCtx x b L xs) (hc : 8 * c + 8 ≤ L) {ad : Nat → Nat} {S : zSt} {g : Gh} (h : Rel g c S) (next : ∀ ad S g, Rel g (c + 1) S → zV x ad (Lay K ad S) (nC (c + 1)) (nS (c + 1)) (lvL b ad (nI (8 * c))) 1395 []) : zV x ad (Lay K ad S) (nC c) (nS c) (lvL b ad (nI (8 * c))) 560 [] := by
  obtain ⟨cL, cN, cM, cF, cO, cC, cS⟩ := C.2.2.2.2
  have hc5 : c < 512 := by omega
  have hns := nS_top (c := c + 1) (by omega)
  have hns2 : nS (c + 1) = nS c + (48 * (c + 1) + 700) := rfl
  refine z_aload_n hx 1 d_La_law_560 rfl ?_
  refine z_aload_n hx 0 d_La_law_561 rfl ?_
  refine z_iload hx 4 d_La_law_562 rfl ?_
  refine z_iconst (v := 1) hx d_La_law_564 rfl ?_
  refine z_iadd hx d_La_law_565 ?_
  refine z_top (b := nI (8 * c + 1)) (nI_add (8 * c) 1) ?_
  refine z_sld hx C.1 C.2.1 C.2.2.1 (k := 8 * c + 1) (by omega) C.2.2.2.1 d_La_law_566 ?_
  refine z_aload_n hx 0 d_La_law_567 rfl ?_
  refine z_iload hx 4 d_La_law_568 rfl ?_
  refine z_iconst (v := 2) hx d_La_law_570 rfl ?_
  refine z_iadd hx d_La_law_571 ?_
  refine z_top (b := nI (8 * c + 2)) (nI_add (8 * c) 2) ?_
  refine z_sld hx C.1 C.2.1 C.2.2.1 (k := 8 * c + 2) (by omega) C.2.2.2.1 d_La_law_572 ?_
  refine z_aload_n hx 0 d_La_law_573 rfl ?_
  refine z_iload hx 4 d_La_law_574 rfl ?_
  refine z_iconst (v := 3) hx d_La_law_576 rfl ?_
  refine z_iadd hx d_La_law_577 ?_
  refine z_top (b := nI (8 * c + 3)) (nI_add (8 * c) 3) ?_
  refine z_sld hx C.1 C.2.1 C.2.2.1 (k := 8 * c + 3) (by omega) C.2.2.2.1 d_La_law_578 ?_
  refine z_aload_n hx 3 d_La_law_579 rfl ?_
  obtain ⟨rm, post, hW, r1, r2, r3, r4, hk⟩ := sim_offline (D := D) (K := K) (ad := ad) htr h hc5 (v0 := xs (8 * c + 1)) (v1 := xs (8 * c + 2)) (v2 := xs (8 * c + 3))
  refine z_retSW hx hW cN a3_42 a3_44 a1_0 ⟨by decide +kernel, by decide +kernel⟩ (fun sig h => by cases h; rfl) a3_43 rfl rfl d_La_law_580 ⟨by omega, by show 0 + (6 + 11) + rm.locals ≤ _; omega, by unfold nC; omega, by omega⟩ (fun E ad' ce' q => by obtain ⟨k, S1, q1, -⟩ := hk _ _ _ q; cases q1) (fun v ad' ce' q => ?_)
  obtain ⟨k, S1, q1, hlo, rfl, f, w, bb, S2, g', hC, hf, hw, hk13, hout, hrel⟩ := hk _ _ _ q
  cases q1
  show zV x ad' (Lay K ad' S1) (nC c + rm.cells) (nS c + rm.slots) (lvL b ad (nI (8 * c))) 583 [.int k]
  rw [show lvL b ad (nI (8 * c)) = lvL b ad' (nI (8 * c)) from by unfold lvL; rw [hlo 0 (by decide), hlo 13 (by decide), hlo 12 (by decide)]]
  refine z_widen (n' := nC (c + 1)) (i' := nS (c + 1)) (by unfold nC; omega) (by omega) ?_
  refine z_istore hx [(5, .int k), (0, .ref b), (1, .ref (ad' 0)), (2, .ref (ad' 13)), (3, .ref (ad' 12)), (4, .int (nI (8 * c)))] d_La_law_583 (zN cM (by decide)) rfl ?_
  refine z_aload_n hx 3 d_La_law_585 rfl ?_
  refine z_aload_n hx 1 d_La_law_586 rfl ?_
  refine z_iload hx 5 d_La_law_587 rfl ?_
  refine z_iconst (v := 1) hx d_La_law_589 rfl ?_
  refine z_iadd hx d_La_law_590 ?_
  refine z_top (b := nI (8 * c + 1)) (nI_add (8 * c) 1) ?_
  refine z_sld hx C.1 C.2.1 C.2.2.1 (k := 8 * c + 1) (by omega) C.2.2.2.1 d_La_law_591 ?_
  refine z_aload_n hx 1 d_La_law_592 rfl ?_
  refine z_iload hx 5 d_La_law_593 rfl ?_
  refine z_iconst (v := 2) hx d_La_law_595 rfl ?_
  refine z_iadd hx d_La_law_596 ?_
  refine z_top (b := nI (8 * c + 2)) (nI_add (8 * c) 2) ?_
  refine z_sld hx C.1 C.2.1 C.2.2.1 (k := 8 * c + 2) (by omega) C.2.2.2.1 d_La_law_597 ?_
  refine z_aload_n hx 1 d_La_law_598 rfl ?_
  refine z_iload hx 5 d_La_law_599 rfl ?_
  refine z_iconst (v := 3) hx d_La_law_601 rfl ?_
  refine z_iadd hx d_La_law_602 ?_
  refine z_top (b := nI (8 * c + 3)) (nI_add (8 * c) 3) ?_
  refine z_sld hx C.1 C.2.1 C.2.2.1 (k := 8 * c + 3) (by omega) C.2.2.2.1 d_La_law_603 ?_
  refine z_cV hx hC k_Mo (t := 13) rfl ⟨a4_147, a4_150, a1_6, ⟨by decide +kernel, by decide +kernel⟩, fun sig h => by cases h; rfl⟩ a4_148 a4_149 rfl rfl d_La_law_604 ⟨by omega, by show 0 + (6 + 11) + w ≤ _; omega, by unfold nC; omega, by omega⟩ ?_
  refine z_istore hx [(6, .int bb), (5, .int k), (0, .ref b), (1, .ref (ad' 0)), (2, .ref (ad' 13)), (3, .ref (ad' 12)), (4, .int (nI (8 * c)))] d_La_law_607 (zN cM (by decide)) rfl ?_
  refine z_aload_n hx 4 d_La_law_609 rfl ?_
  refine z_cV hx c_Mo_thrown k_Mo (t := 13) rfl ⟨a4_70, a4_73, a1_6, ⟨by decide +kernel, by decide +kernel⟩, fun sig h => by cases h; rfl⟩ a4_71 a4_72 rfl rfl d_La_law_610 ⟨by omega, by show 0 + (1 + 11) + 0 ≤ _; omega, by unfold nC; omega, by omega⟩ ?_
  refine z_top (b := k) hk13 ?_
  refine z_iload hx 1 d_La_law_613 rfl ?_
  refine z_icmp_eq (tgt := 620) hx d_La_law_615 (by decide) (fun _ => ?_) (fun q => absurd rfl q)
  refine z_iload hx 1 d_La_law_620 rfl ?_
  refine z_if_ne (tgt := 637) hx d_La_law_622 (by decide) (fun _ => ?_) (fun k0 => ?_)
  · refine z_goto (tgt := 1395) hx d_La_law_637 (by decide) ?_
    exact z_lv [2, 3, 4, 5, 6] _ rfl (next _ _ _ hrel)
  · refine z_aload_n hx 5 d_La_law_625 rfl ?_
    refine z_iconst (v := 0) hx d_La_law_626 rfl ?_
    refine z_laldK hx 1 rfl (t := 12) rfl (k := 0) (by decide) (by decide) d_La_law_627 ?_
    refine z_topL (b := bb.toInt64) (hout (by first | exact k0 | exact Decidable.byContradiction k0)) ?_
    refine z_iload hx 0 d_La_law_628 rfl ?_
    refine z_i2l hx d_La_law_630 ?_
    refine z_lcmp hx d_La_law_631 ?_
    refine z_if_eq (tgt := 637) hx d_La_law_632 (by decide) (fun _ => ?_) (fun q => absurd ((lg_cmp_eq _ _).mpr rfl) q)
    refine z_goto (tgt := 1395) hx d_La_law_637 (by decide) ?_
    exact z_lv [2, 3, 4, 5, 6] _ rfl (next _ _ _ hrel)
set_option maxRecDepth 20000 in
theorem law_report {x : zX} {l : Launch} {D : va_G} {K : Nat → ClassId} {b L c : Nat} {xs : Nat → Int32} (hx : zOk x b_La_law "TrialDeskLaw" TB l D zcls (ztyl K)) (htr : l.stackTraces = false) (C : lCtx x b L xs) (hc : 8 * c + 8 ≤ L) {ad : Nat → Nat} {S : zSt} {g : Gh} (h : Rel g c S) (next : ∀ ad S g, Rel g (c + 1) S → zV x ad (Lay K ad S) (nC (c + 1)) (nS (c + 1)) (lvL b ad (nI (8 * c))) 1395 []) : zV x ad (Lay K ad S) (nC c) (nS c) (lvL b ad (nI (8 * c))) 640 [] := by
  obtain ⟨cL, cN, cM, cF, cO, cC, cS⟩ := C.2.2.2.2
  have hc5 : c < 512 := by omega
  have hns := nS_top (c := c + 1) (by omega)
  have hns2 : nS (c + 1) = nS c + (48 * (c + 1) + 700) := rfl
  refine z_aload_n hx 1 d_La_law_640 rfl ?_
  refine z_aload_n hx 0 d_La_law_641 rfl ?_
  refine z_iload hx 4 d_La_law_642 rfl ?_
  refine z_iconst (v := 1) hx d_La_law_644 rfl ?_
  refine z_iadd hx d_La_law_645 ?_
  refine z_top (b := nI (8 * c + 1)) (nI_add (8 * c) 1) ?_
  refine z_sld hx C.1 C.2.1 C.2.2.1 (k := 8 * c + 1) (by omega) C.2.2.2.1 d_La_law_646 ?_
  refine z_aload_n hx 3 d_La_law_647 rfl ?_
  obtain ⟨rm, post, hW, r1, r2, r3, r4, hk⟩ := sim_report (D := D) (K := K) (ad := ad) htr h hc5 (v0 := xs (8 * c + 1))
  refine z_retSW hx hW cN a3_57 a3_59 a1_0 ⟨by decide +kernel, by decide +kernel⟩ (fun sig h => by cases h; rfl) a3_58 rfl rfl d_La_law_648 ⟨by omega, by show 0 + (4 + 11) + rm.locals ≤ _; omega, by unfold nC; omega, by omega⟩ (fun E ad' ce' q => by obtain ⟨k, S1, q1, -⟩ := hk _ _ _ q; cases q1) (fun v ad' ce' q => ?_)
  obtain ⟨k, S1, q1, hlo, rfl, f, w, bb, S2, g', hC, hf, hw, hk13, hout, hrel⟩ := hk _ _ _ q
  cases q1
  show zV x ad' (Lay K ad' S1) (nC c + rm.cells) (nS c + rm.slots) (lvL b ad (nI (8 * c))) 651 [.int k]
  rw [show lvL b ad (nI (8 * c)) = lvL b ad' (nI (8 * c)) from by unfold lvL; rw [hlo 0 (by decide), hlo 13 (by decide), hlo 12 (by decide)]]
  refine z_widen (n' := nC (c + 1)) (i' := nS (c + 1)) (by unfold nC; omega) (by omega) ?_
  refine z_istore hx [(5, .int k), (0, .ref b), (1, .ref (ad' 0)), (2, .ref (ad' 13)), (3, .ref (ad' 12)), (4, .int (nI (8 * c)))] d_La_law_651 (zN cM (by decide)) rfl ?_
  refine z_aload_n hx 3 d_La_law_653 rfl ?_
  refine z_aload_n hx 1 d_La_law_654 rfl ?_
  refine z_iload hx 5 d_La_law_655 rfl ?_
  refine z_iconst (v := 1) hx d_La_law_657 rfl ?_
  refine z_iadd hx d_La_law_658 ?_
  refine z_top (b := nI (8 * c + 1)) (nI_add (8 * c) 1) ?_
  refine z_sld hx C.1 C.2.1 C.2.2.1 (k := 8 * c + 1) (by omega) C.2.2.2.1 d_La_law_659 ?_
  refine z_cV hx hC k_Mo (t := 13) rfl ⟨a4_151, a4_154, a1_6, ⟨by decide +kernel, by decide +kernel⟩, fun sig h => by cases h; rfl⟩ a4_152 a4_153 rfl rfl d_La_law_660 ⟨by omega, by show 0 + (5 + 11) + w ≤ _; omega, by unfold nC; omega, by omega⟩ ?_
  refine z_istore hx [(6, .int bb), (5, .int k), (0, .ref b), (1, .ref (ad' 0)), (2, .ref (ad' 13)), (3, .ref (ad' 12)), (4, .int (nI (8 * c)))] d_La_law_663 (zN cM (by decide)) rfl ?_
  refine z_aload_n hx 4 d_La_law_665 rfl ?_
  refine z_cV hx c_Mo_thrown k_Mo (t := 13) rfl ⟨a4_70, a4_73, a1_6, ⟨by decide +kernel, by decide +kernel⟩, fun sig h => by cases h; rfl⟩ a4_71 a4_72 rfl rfl d_La_law_666 ⟨by omega, by show 0 + (1 + 11) + 0 ≤ _; omega, by unfold nC; omega, by omega⟩ ?_
  refine z_top (b := k) hk13 ?_
  refine z_iload hx 1 d_La_law_669 rfl ?_
  refine z_icmp_eq (tgt := 676) hx d_La_law_671 (by decide) (fun _ => ?_) (fun q => absurd rfl q)
  refine z_iload hx 1 d_La_law_676 rfl ?_
  refine z_if_ne (tgt := 693) hx d_La_law_678 (by decide) (fun _ => ?_) (fun k0 => ?_)
  · refine z_goto (tgt := 1395) hx d_La_law_693 (by decide) ?_
    exact z_lv [2, 3, 4, 5, 6] _ rfl (next _ _ _ hrel)
  · refine z_aload_n hx 5 d_La_law_681 rfl ?_
    refine z_iconst (v := 0) hx d_La_law_682 rfl ?_
    refine z_laldK hx 1 rfl (t := 12) rfl (k := 0) (by decide) (by decide) d_La_law_683 ?_
    refine z_topL (b := bb.toInt64) (hout (by first | exact k0 | exact Decidable.byContradiction k0)) ?_
    refine z_iload hx 0 d_La_law_684 rfl ?_
    refine z_i2l hx d_La_law_686 ?_
    refine z_lcmp hx d_La_law_687 ?_
    refine z_if_eq (tgt := 693) hx d_La_law_688 (by decide) (fun _ => ?_) (fun q => absurd ((lg_cmp_eq _ _).mpr rfl) q)
    refine z_goto (tgt := 1395) hx d_La_law_693 (by decide) ?_
    exact z_lv [2, 3, 4, 5, 6] _ rfl (next _ _ _ hrel)
set_option maxRecDepth 20000 in
theorem law_close {x : zX} {l : Launch} {D : va_G} {K : Nat → ClassId} {b L c : Nat} {xs : Nat → Int32} (hx : zOk x b_La_law "TrialDeskLaw" TB l D zcls (ztyl K)) (htr : l.stackTraces = false) (C : lCtx x b L xs) (hc : 8 * c + 8 ≤ L) {ad : Nat → Nat} {S : zSt} {g : Gh} (h : Rel g c S) (next : ∀ ad S g, Rel g (c + 1) S → zV x ad (Lay K ad S) (nC (c + 1)) (nS (c + 1)) (lvL b ad (nI (8 * c))) 1395 []) : zV x ad (Lay K ad S) (nC c) (nS c) (lvL b ad (nI (8 * c))) 696 [] := by
  obtain ⟨cL, cN, cM, cF, cO, cC, cS⟩ := C.2.2.2.2
  have hc5 : c < 512 := by omega
  have hns := nS_top (c := c + 1) (by omega)
  have hns2 : nS (c + 1) = nS c + (48 * (c + 1) + 700) := rfl
  refine z_aload_n hx 1 d_La_law_696 rfl ?_
  refine z_aload_n hx 0 d_La_law_697 rfl ?_
  refine z_iload hx 4 d_La_law_698 rfl ?_
  refine z_iconst (v := 1) hx d_La_law_700 rfl ?_
  refine z_iadd hx d_La_law_701 ?_
  refine z_top (b := nI (8 * c + 1)) (nI_add (8 * c) 1) ?_
  refine z_sld hx C.1 C.2.1 C.2.2.1 (k := 8 * c + 1) (by omega) C.2.2.2.1 d_La_law_702 ?_
  refine z_aload_n hx 3 d_La_law_703 rfl ?_
  obtain ⟨rm, post, hW, r1, r2, r3, r4, hk⟩ := sim_close (D := D) (K := K) (ad := ad) htr h hc5 (v0 := xs (8 * c + 1))
  refine z_retSW hx hW cN a3_89 a3_91 a1_0 ⟨by decide +kernel, by decide +kernel⟩ (fun sig h => by cases h; rfl) a3_90 rfl rfl d_La_law_704 ⟨by omega, by show 0 + (4 + 11) + rm.locals ≤ _; omega, by unfold nC; omega, by omega⟩ (fun E ad' ce' q => by obtain ⟨k, S1, q1, -⟩ := hk _ _ _ q; cases q1) (fun v ad' ce' q => ?_)
  obtain ⟨k, S1, q1, hlo, rfl, f, w, bb, S2, g', hC, hf, hw, hk13, hout, hrel⟩ := hk _ _ _ q
  cases q1
  show zV x ad' (Lay K ad' S1) (nC c + rm.cells) (nS c + rm.slots) (lvL b ad (nI (8 * c))) 707 [.int k]
  rw [show lvL b ad (nI (8 * c)) = lvL b ad' (nI (8 * c)) from by unfold lvL; rw [hlo 0 (by decide), hlo 13 (by decide), hlo 12 (by decide)]]
  refine z_widen (n' := nC (c + 1)) (i' := nS (c + 1)) (by unfold nC; omega) (by omega) ?_
  refine z_istore hx [(5, .int k), (0, .ref b), (1, .ref (ad' 0)), (2, .ref (ad' 13)), (3, .ref (ad' 12)), (4, .int (nI (8 * c)))] d_La_law_707 (zN cM (by decide)) rfl ?_
  refine z_aload_n hx 3 d_La_law_709 rfl ?_
  refine z_aload_n hx 1 d_La_law_710 rfl ?_
  refine z_iload hx 5 d_La_law_711 rfl ?_
  refine z_iconst (v := 1) hx d_La_law_713 rfl ?_
  refine z_iadd hx d_La_law_714 ?_
  refine z_top (b := nI (8 * c + 1)) (nI_add (8 * c) 1) ?_
  refine z_sld hx C.1 C.2.1 C.2.2.1 (k := 8 * c + 1) (by omega) C.2.2.2.1 d_La_law_715 ?_
  refine z_cV hx hC k_Mo (t := 13) rfl ⟨a4_155, a4_158, a1_6, ⟨by decide +kernel, by decide +kernel⟩, fun sig h => by cases h; rfl⟩ a4_156 a4_157 rfl rfl d_La_law_716 ⟨by omega, by show 0 + (4 + 11) + w ≤ _; omega, by unfold nC; omega, by omega⟩ ?_
  refine z_istore hx [(6, .int bb), (5, .int k), (0, .ref b), (1, .ref (ad' 0)), (2, .ref (ad' 13)), (3, .ref (ad' 12)), (4, .int (nI (8 * c)))] d_La_law_719 (zN cM (by decide)) rfl ?_
  refine z_aload_n hx 4 d_La_law_721 rfl ?_
  refine z_cV hx c_Mo_thrown k_Mo (t := 13) rfl ⟨a4_70, a4_73, a1_6, ⟨by decide +kernel, by decide +kernel⟩, fun sig h => by cases h; rfl⟩ a4_71 a4_72 rfl rfl d_La_law_722 ⟨by omega, by show 0 + (1 + 11) + 0 ≤ _; omega, by unfold nC; omega, by omega⟩ ?_
  refine z_top (b := k) hk13 ?_
  refine z_iload hx 1 d_La_law_725 rfl ?_
  refine z_icmp_eq (tgt := 732) hx d_La_law_727 (by decide) (fun _ => ?_) (fun q => absurd rfl q)
  refine z_iload hx 1 d_La_law_732 rfl ?_
  refine z_if_ne (tgt := 749) hx d_La_law_734 (by decide) (fun _ => ?_) (fun k0 => ?_)
  · refine z_goto (tgt := 1395) hx d_La_law_749 (by decide) ?_
    exact z_lv [2, 3, 4, 5, 6] _ rfl (next _ _ _ hrel)
  · refine z_aload_n hx 5 d_La_law_737 rfl ?_
    refine z_iconst (v := 0) hx d_La_law_738 rfl ?_
    refine z_laldK hx 1 rfl (t := 12) rfl (k := 0) (by decide) (by decide) d_La_law_739 ?_
    refine z_topL (b := bb.toInt64) (hout (by first | exact k0 | exact Decidable.byContradiction k0)) ?_
    refine z_iload hx 0 d_La_law_740 rfl ?_
    refine z_i2l hx d_La_law_742 ?_
    refine z_lcmp hx d_La_law_743 ?_
    refine z_if_eq (tgt := 749) hx d_La_law_744 (by decide) (fun _ => ?_) (fun q => absurd ((lg_cmp_eq _ _).mpr rfl) q)
    refine z_goto (tgt := 1395) hx d_La_law_749 (by decide) ?_
    exact z_lv [2, 3, 4, 5, 6] _ rfl (next _ _ _ hrel)
set_option maxRecDepth 20000 in
theorem law_key {x : zX} {l : Launch} {D : va_G} {K : Nat → ClassId} {b L c : Nat} {xs : Nat → Int32} (hx : zOk x b_La_law "TrialDeskLaw" TB l D zcls (ztyl K)) (htr : l.stackTraces = false) (C : lCtx x b L xs) (hc : 8 * c + 8 ≤ L) {ad : Nat → Nat} {S : zSt} {g : Gh} (h : Rel g c S) (next : ∀ ad S g, Rel g (c + 1) S → zV x ad (Lay K ad S) (nC (c + 1)) (nS (c + 1)) (lvL b ad (nI (8 * c))) 1395 []) : zV x ad (Lay K ad S) (nC c) (nS c) (lvL b ad (nI (8 * c))) 752 [] := by
  obtain ⟨cL, cN, cM, cF, cO, cC, cS⟩ := C.2.2.2.2
  have hc5 : c < 512 := by omega
  have hns := nS_top (c := c + 1) (by omega)
  have hns2 : nS (c + 1) = nS c + (48 * (c + 1) + 700) := rfl
  refine z_aload_n hx 1 d_La_law_752 rfl ?_
  refine z_aload_n hx 0 d_La_law_753 rfl ?_
  refine z_iload hx 4 d_La_law_754 rfl ?_
  refine z_iconst (v := 1) hx d_La_law_756 rfl ?_
  refine z_iadd hx d_La_law_757 ?_
  refine z_top (b := nI (8 * c + 1)) (nI_add (8 * c) 1) ?_
  refine z_sld hx C.1 C.2.1 C.2.2.1 (k := 8 * c + 1) (by omega) C.2.2.2.1 d_La_law_758 ?_
  refine z_aload_n hx 0 d_La_law_759 rfl ?_
  refine z_iload hx 4 d_La_law_760 rfl ?_
  refine z_iconst (v := 2) hx d_La_law_762 rfl ?_
  refine z_iadd hx d_La_law_763 ?_
  refine z_top (b := nI (8 * c + 2)) (nI_add (8 * c) 2) ?_
  refine z_sld hx C.1 C.2.1 C.2.2.1 (k := 8 * c + 2) (by omega) C.2.2.2.1 d_La_law_764 ?_
  refine z_aload_n hx 0 d_La_law_765 rfl ?_
  refine z_iload hx 4 d_La_law_766 rfl ?_
  refine z_iconst (v := 3) hx d_La_law_768 rfl ?_
  refine z_iadd hx d_La_law_769 ?_
  refine z_top (b := nI (8 * c + 3)) (nI_add (8 * c) 3) ?_
  refine z_sld hx C.1 C.2.1 C.2.2.1 (k := 8 * c + 3) (by omega) C.2.2.2.1 d_La_law_770 ?_
  refine z_aload_n hx 3 d_La_law_771 rfl ?_
  obtain ⟨rm, post, hW, r1, r2, r3, r4, hk⟩ := sim_key (D := D) (K := K) (ad := ad) htr h hc5 (v0 := xs (8 * c + 1)) (v1 := xs (8 * c + 2)) (v2 := xs (8 * c + 3))
  refine z_retSW hx hW cN a3_100 a3_102 a1_0 ⟨by decide +kernel, by decide +kernel⟩ (fun sig h => by cases h; rfl) a3_101 rfl rfl d_La_law_772 ⟨by omega, by show 0 + (6 + 11) + rm.locals ≤ _; omega, by unfold nC; omega, by omega⟩ (fun E ad' ce' q => by obtain ⟨k, S1, q1, -⟩ := hk _ _ _ q; cases q1) (fun v ad' ce' q => ?_)
  obtain ⟨k, S1, q1, hlo, rfl, f, w, bb, S2, g', hC, hf, hw, hk13, hout, hrel⟩ := hk _ _ _ q
  cases q1
  show zV x ad' (Lay K ad' S1) (nC c + rm.cells) (nS c + rm.slots) (lvL b ad (nI (8 * c))) 775 [.int k]
  rw [show lvL b ad (nI (8 * c)) = lvL b ad' (nI (8 * c)) from by unfold lvL; rw [hlo 0 (by decide), hlo 13 (by decide), hlo 12 (by decide)]]
  refine z_widen (n' := nC (c + 1)) (i' := nS (c + 1)) (by unfold nC; omega) (by omega) ?_
  refine z_istore hx [(5, .int k), (0, .ref b), (1, .ref (ad' 0)), (2, .ref (ad' 13)), (3, .ref (ad' 12)), (4, .int (nI (8 * c)))] d_La_law_775 (zN cM (by decide)) rfl ?_
  refine z_aload_n hx 3 d_La_law_777 rfl ?_
  refine z_aload_n hx 1 d_La_law_778 rfl ?_
  refine z_iload hx 5 d_La_law_779 rfl ?_
  refine z_iconst (v := 1) hx d_La_law_781 rfl ?_
  refine z_iadd hx d_La_law_782 ?_
  refine z_top (b := nI (8 * c + 1)) (nI_add (8 * c) 1) ?_
  refine z_sld hx C.1 C.2.1 C.2.2.1 (k := 8 * c + 1) (by omega) C.2.2.2.1 d_La_law_783 ?_
  refine z_aload_n hx 1 d_La_law_784 rfl ?_
  refine z_iload hx 5 d_La_law_785 rfl ?_
  refine z_iconst (v := 2) hx d_La_law_787 rfl ?_
  refine z_iadd hx d_La_law_788 ?_
  refine z_top (b := nI (8 * c + 2)) (nI_add (8 * c) 2) ?_
  refine z_sld hx C.1 C.2.1 C.2.2.1 (k := 8 * c + 2) (by omega) C.2.2.2.1 d_La_law_789 ?_
  refine z_aload_n hx 1 d_La_law_790 rfl ?_
  refine z_iload hx 5 d_La_law_791 rfl ?_
  refine z_iconst (v := 3) hx d_La_law_793 rfl ?_
  refine z_iadd hx d_La_law_794 ?_
  refine z_top (b := nI (8 * c + 3)) (nI_add (8 * c) 3) ?_
  refine z_sld hx C.1 C.2.1 C.2.2.1 (k := 8 * c + 3) (by omega) C.2.2.2.1 d_La_law_795 ?_
  refine z_cV hx hC k_Mo (t := 13) rfl ⟨a4_159, a4_162, a1_6, ⟨by decide +kernel, by decide +kernel⟩, fun sig h => by cases h; rfl⟩ a4_160 a4_161 rfl rfl d_La_law_796 ⟨by omega, by show 0 + (5 + 11) + w ≤ _; omega, by unfold nC; omega, by omega⟩ ?_
  refine z_istore hx [(6, .int bb), (5, .int k), (0, .ref b), (1, .ref (ad' 0)), (2, .ref (ad' 13)), (3, .ref (ad' 12)), (4, .int (nI (8 * c)))] d_La_law_799 (zN cM (by decide)) rfl ?_
  refine z_aload_n hx 4 d_La_law_801 rfl ?_
  refine z_cV hx c_Mo_thrown k_Mo (t := 13) rfl ⟨a4_70, a4_73, a1_6, ⟨by decide +kernel, by decide +kernel⟩, fun sig h => by cases h; rfl⟩ a4_71 a4_72 rfl rfl d_La_law_802 ⟨by omega, by show 0 + (1 + 11) + 0 ≤ _; omega, by unfold nC; omega, by omega⟩ ?_
  refine z_top (b := k) hk13 ?_
  refine z_iload hx 1 d_La_law_805 rfl ?_
  refine z_icmp_eq (tgt := 812) hx d_La_law_807 (by decide) (fun _ => ?_) (fun q => absurd rfl q)
  refine z_iload hx 1 d_La_law_812 rfl ?_
  refine z_if_ne (tgt := 829) hx d_La_law_814 (by decide) (fun _ => ?_) (fun k0 => ?_)
  · refine z_goto (tgt := 1395) hx d_La_law_829 (by decide) ?_
    exact z_lv [2, 3, 4, 5, 6] _ rfl (next _ _ _ hrel)
  · refine z_aload_n hx 5 d_La_law_817 rfl ?_
    refine z_iconst (v := 0) hx d_La_law_818 rfl ?_
    refine z_laldK hx 1 rfl (t := 12) rfl (k := 0) (by decide) (by decide) d_La_law_819 ?_
    refine z_topL (b := bb.toInt64) (hout (by first | exact k0 | exact Decidable.byContradiction k0)) ?_
    refine z_iload hx 0 d_La_law_820 rfl ?_
    refine z_i2l hx d_La_law_822 ?_
    refine z_lcmp hx d_La_law_823 ?_
    refine z_if_eq (tgt := 829) hx d_La_law_824 (by decide) (fun _ => ?_) (fun q => absurd ((lg_cmp_eq _ _).mpr rfl) q)
    refine z_goto (tgt := 1395) hx d_La_law_829 (by decide) ?_
    exact z_lv [2, 3, 4, 5, 6] _ rfl (next _ _ _ hrel)
set_option maxRecDepth 20000 in
theorem law_arm {x : zX} {l : Launch} {D : va_G} {K : Nat → ClassId} {b L c : Nat} {xs : Nat → Int32} (hx : zOk x b_La_law "TrialDeskLaw" TB l D zcls (ztyl K)) (htr : l.stackTraces = false) (C : lCtx x b L xs) (hc : 8 * c + 8 ≤ L) {ad : Nat → Nat} {S : zSt} {g : Gh} (h : Rel g c S) (next : ∀ ad S g, Rel g (c + 1) S → zV x ad (Lay K ad S) (nC (c + 1)) (nS (c + 1)) (lvL b ad (nI (8 * c))) 1395 []) : zV x ad (Lay K ad S) (nC c) (nS c) (lvL b ad (nI (8 * c))) 832 [] := by
  obtain ⟨cL, cN, cM, cF, cO, cC, cS⟩ := C.2.2.2.2
  have hc5 : c < 512 := by omega
  have hns := nS_top (c := c + 1) (by omega)
  have hns2 : nS (c + 1) = nS c + (48 * (c + 1) + 700) := rfl
  refine z_aload_n hx 1 d_La_law_832 rfl ?_
  refine z_aload_n hx 0 d_La_law_833 rfl ?_
  refine z_iload hx 4 d_La_law_834 rfl ?_
  refine z_iconst (v := 1) hx d_La_law_836 rfl ?_
  refine z_iadd hx d_La_law_837 ?_
  refine z_top (b := nI (8 * c + 1)) (nI_add (8 * c) 1) ?_
  refine z_sld hx C.1 C.2.1 C.2.2.1 (k := 8 * c + 1) (by omega) C.2.2.2.1 d_La_law_838 ?_
  refine z_aload_n hx 0 d_La_law_839 rfl ?_
  refine z_iload hx 4 d_La_law_840 rfl ?_
  refine z_iconst (v := 2) hx d_La_law_842 rfl ?_
  refine z_iadd hx d_La_law_843 ?_
  refine z_top (b := nI (8 * c + 2)) (nI_add (8 * c) 2) ?_
  refine z_sld hx C.1 C.2.1 C.2.2.1 (k := 8 * c + 2) (by omega) C.2.2.2.1 d_La_law_844 ?_
  refine z_aload_n hx 3 d_La_law_845 rfl ?_
  obtain ⟨rm, post, hW, r1, r2, r3, r4, hk⟩ := sim_arm (D := D) (K := K) (ad := ad) htr h hc5 (v0 := xs (8 * c + 1)) (v1 := xs (8 * c + 2))
  refine z_retSW hx hW cN a3_124 a3_126 a1_0 ⟨by decide +kernel, by decide +kernel⟩ (fun sig h => by cases h; rfl) a3_125 rfl rfl d_La_law_846 ⟨by omega, by show 0 + (5 + 11) + rm.locals ≤ _; omega, by unfold nC; omega, by omega⟩ (fun E ad' ce' q => by obtain ⟨k, S1, q1, -⟩ := hk _ _ _ q; cases q1) (fun v ad' ce' q => ?_)
  obtain ⟨k, S1, q1, hlo, rfl, f, w, bb, S2, g', hC, hf, hw, hk13, hout, hrel⟩ := hk _ _ _ q
  cases q1
  show zV x ad' (Lay K ad' S1) (nC c + rm.cells) (nS c + rm.slots) (lvL b ad (nI (8 * c))) 849 [.int k]
  rw [show lvL b ad (nI (8 * c)) = lvL b ad' (nI (8 * c)) from by unfold lvL; rw [hlo 0 (by decide), hlo 13 (by decide), hlo 12 (by decide)]]
  refine z_widen (n' := nC (c + 1)) (i' := nS (c + 1)) (by unfold nC; omega) (by omega) ?_
  refine z_istore hx [(5, .int k), (0, .ref b), (1, .ref (ad' 0)), (2, .ref (ad' 13)), (3, .ref (ad' 12)), (4, .int (nI (8 * c)))] d_La_law_849 (zN cM (by decide)) rfl ?_
  refine z_aload_n hx 3 d_La_law_851 rfl ?_
  refine z_aload_n hx 1 d_La_law_852 rfl ?_
  refine z_iload hx 5 d_La_law_853 rfl ?_
  refine z_iconst (v := 1) hx d_La_law_855 rfl ?_
  refine z_iadd hx d_La_law_856 ?_
  refine z_top (b := nI (8 * c + 1)) (nI_add (8 * c) 1) ?_
  refine z_sld hx C.1 C.2.1 C.2.2.1 (k := 8 * c + 1) (by omega) C.2.2.2.1 d_La_law_857 ?_
  refine z_aload_n hx 1 d_La_law_858 rfl ?_
  refine z_iload hx 5 d_La_law_859 rfl ?_
  refine z_iconst (v := 2) hx d_La_law_861 rfl ?_
  refine z_iadd hx d_La_law_862 ?_
  refine z_top (b := nI (8 * c + 2)) (nI_add (8 * c) 2) ?_
  refine z_sld hx C.1 C.2.1 C.2.2.1 (k := 8 * c + 2) (by omega) C.2.2.2.1 d_La_law_863 ?_
  refine z_cV hx hC k_Mo (t := 13) rfl ⟨a4_170, a4_173, a1_6, ⟨by decide +kernel, by decide +kernel⟩, fun sig h => by cases h; rfl⟩ a4_171 a4_172 rfl rfl d_La_law_864 ⟨by omega, by show 0 + (4 + 11) + w ≤ _; omega, by unfold nC; omega, by omega⟩ ?_
  refine z_istore hx [(6, .int bb), (5, .int k), (0, .ref b), (1, .ref (ad' 0)), (2, .ref (ad' 13)), (3, .ref (ad' 12)), (4, .int (nI (8 * c)))] d_La_law_867 (zN cM (by decide)) rfl ?_
  refine z_aload_n hx 4 d_La_law_869 rfl ?_
  refine z_cV hx c_Mo_thrown k_Mo (t := 13) rfl ⟨a4_70, a4_73, a1_6, ⟨by decide +kernel, by decide +kernel⟩, fun sig h => by cases h; rfl⟩ a4_71 a4_72 rfl rfl d_La_law_870 ⟨by omega, by show 0 + (1 + 11) + 0 ≤ _; omega, by unfold nC; omega, by omega⟩ ?_
  refine z_top (b := k) hk13 ?_
  refine z_iload hx 1 d_La_law_873 rfl ?_
  refine z_icmp_eq (tgt := 880) hx d_La_law_875 (by decide) (fun _ => ?_) (fun q => absurd rfl q)
  refine z_iload hx 1 d_La_law_880 rfl ?_
  refine z_if_ne (tgt := 897) hx d_La_law_882 (by decide) (fun _ => ?_) (fun k0 => ?_)
  · refine z_goto (tgt := 1395) hx d_La_law_897 (by decide) ?_
    exact z_lv [2, 3, 4, 5, 6] _ rfl (next _ _ _ hrel)
  · refine z_aload_n hx 5 d_La_law_885 rfl ?_
    refine z_iconst (v := 0) hx d_La_law_886 rfl ?_
    refine z_laldK hx 1 rfl (t := 12) rfl (k := 0) (by decide) (by decide) d_La_law_887 ?_
    refine z_topL (b := bb.toInt64) (hout (by first | exact k0 | exact Decidable.byContradiction k0)) ?_
    refine z_iload hx 0 d_La_law_888 rfl ?_
    refine z_i2l hx d_La_law_890 ?_
    refine z_lcmp hx d_La_law_891 ?_
    refine z_if_eq (tgt := 897) hx d_La_law_892 (by decide) (fun _ => ?_) (fun q => absurd ((lg_cmp_eq _ _).mpr rfl) q)
    refine z_goto (tgt := 1395) hx d_La_law_897 (by decide) ?_
    exact z_lv [2, 3, 4, 5, 6] _ rfl (next _ _ _ hrel)
set_option maxRecDepth 20000 in
theorem law_opn {x : zX} {l : Launch} {D : va_G} {K : Nat → ClassId} {b L c : Nat} {xs : Nat → Int32} (hx : zOk x b_La_law "TrialDeskLaw" TB l D zcls (ztyl K)) (htr : l.stackTraces = false) (C : lCtx x b L xs) (hc : 8 * c + 8 ≤ L) {ad : Nat → Nat} {S : zSt} {g : Gh} (h : Rel g c S) (next : ∀ ad S g, Rel g (c + 1) S → zV x ad (Lay K ad S) (nC (c + 1)) (nS (c + 1)) (lvL b ad (nI (8 * c))) 1395 []) : zV x ad (Lay K ad S) (nC c) (nS c) (lvL b ad (nI (8 * c))) 900 [] := by
  obtain ⟨cL, cN, cM, cF, cO, cC, cS⟩ := C.2.2.2.2
  have hc5 : c < 512 := by omega
  have hns := nS_top (c := c + 1) (by omega)
  have hns2 : nS (c + 1) = nS c + (48 * (c + 1) + 700) := rfl
  refine z_aload_n hx 1 d_La_law_900 rfl ?_
  refine z_aload_n hx 0 d_La_law_901 rfl ?_
  refine z_iload hx 4 d_La_law_902 rfl ?_
  refine z_iconst (v := 1) hx d_La_law_904 rfl ?_
  refine z_iadd hx d_La_law_905 ?_
  refine z_top (b := nI (8 * c + 1)) (nI_add (8 * c) 1) ?_
  refine z_sld hx C.1 C.2.1 C.2.2.1 (k := 8 * c + 1) (by omega) C.2.2.2.1 d_La_law_906 ?_
  refine z_aload_n hx 0 d_La_law_907 rfl ?_
  refine z_iload hx 4 d_La_law_908 rfl ?_
  refine z_iconst (v := 2) hx d_La_law_910 rfl ?_
  refine z_iadd hx d_La_law_911 ?_
  refine z_top (b := nI (8 * c + 2)) (nI_add (8 * c) 2) ?_
  refine z_sld hx C.1 C.2.1 C.2.2.1 (k := 8 * c + 2) (by omega) C.2.2.2.1 d_La_law_912 ?_
  refine z_aload_n hx 3 d_La_law_913 rfl ?_
  obtain ⟨rm, post, hW, r1, r2, r3, r4, hk⟩ := sim_opn (D := D) (K := K) (ad := ad) htr h hc5 (v0 := xs (8 * c + 1)) (v1 := xs (8 * c + 2))
  refine z_retSW hx hW cN a3_135 a3_137 a1_0 ⟨by decide +kernel, by decide +kernel⟩ (fun sig h => by cases h; rfl) a3_136 rfl rfl d_La_law_914 ⟨by omega, by show 0 + (5 + 11) + rm.locals ≤ _; omega, by unfold nC; omega, by omega⟩ (fun E ad' ce' q => by obtain ⟨k, S1, q1, -⟩ := hk _ _ _ q; cases q1) (fun v ad' ce' q => ?_)
  obtain ⟨k, S1, q1, hlo, rfl, f, w, bb, S2, g', hC, hf, hw, hk13, hout, hrel⟩ := hk _ _ _ q
  cases q1
  show zV x ad' (Lay K ad' S1) (nC c + rm.cells) (nS c + rm.slots) (lvL b ad (nI (8 * c))) 917 [.int k]
  rw [show lvL b ad (nI (8 * c)) = lvL b ad' (nI (8 * c)) from by unfold lvL; rw [hlo 0 (by decide), hlo 13 (by decide), hlo 12 (by decide)]]
  refine z_widen (n' := nC (c + 1)) (i' := nS (c + 1)) (by unfold nC; omega) (by omega) ?_
  refine z_istore hx [(5, .int k), (0, .ref b), (1, .ref (ad' 0)), (2, .ref (ad' 13)), (3, .ref (ad' 12)), (4, .int (nI (8 * c)))] d_La_law_917 (zN cM (by decide)) rfl ?_
  refine z_aload_n hx 3 d_La_law_919 rfl ?_
  refine z_aload_n hx 1 d_La_law_920 rfl ?_
  refine z_iload hx 5 d_La_law_921 rfl ?_
  refine z_iconst (v := 1) hx d_La_law_923 rfl ?_
  refine z_iadd hx d_La_law_924 ?_
  refine z_top (b := nI (8 * c + 1)) (nI_add (8 * c) 1) ?_
  refine z_sld hx C.1 C.2.1 C.2.2.1 (k := 8 * c + 1) (by omega) C.2.2.2.1 d_La_law_925 ?_
  refine z_aload_n hx 1 d_La_law_926 rfl ?_
  refine z_iload hx 5 d_La_law_927 rfl ?_
  refine z_iconst (v := 2) hx d_La_law_929 rfl ?_
  refine z_iadd hx d_La_law_930 ?_
  refine z_top (b := nI (8 * c + 2)) (nI_add (8 * c) 2) ?_
  refine z_sld hx C.1 C.2.1 C.2.2.1 (k := 8 * c + 2) (by omega) C.2.2.2.1 d_La_law_931 ?_
  refine z_cV hx hC k_Mo (t := 13) rfl ⟨a4_174, a4_177, a1_6, ⟨by decide +kernel, by decide +kernel⟩, fun sig h => by cases h; rfl⟩ a4_175 a4_176 rfl rfl d_La_law_932 ⟨by omega, by show 0 + (3 + 11) + w ≤ _; omega, by unfold nC; omega, by omega⟩ ?_
  refine z_istore hx [(6, .int bb), (5, .int k), (0, .ref b), (1, .ref (ad' 0)), (2, .ref (ad' 13)), (3, .ref (ad' 12)), (4, .int (nI (8 * c)))] d_La_law_935 (zN cM (by decide)) rfl ?_
  refine z_aload_n hx 4 d_La_law_937 rfl ?_
  refine z_cV hx c_Mo_thrown k_Mo (t := 13) rfl ⟨a4_70, a4_73, a1_6, ⟨by decide +kernel, by decide +kernel⟩, fun sig h => by cases h; rfl⟩ a4_71 a4_72 rfl rfl d_La_law_938 ⟨by omega, by show 0 + (1 + 11) + 0 ≤ _; omega, by unfold nC; omega, by omega⟩ ?_
  refine z_top (b := k) hk13 ?_
  refine z_iload hx 1 d_La_law_941 rfl ?_
  refine z_icmp_eq (tgt := 948) hx d_La_law_943 (by decide) (fun _ => ?_) (fun q => absurd rfl q)
  refine z_iload hx 1 d_La_law_948 rfl ?_
  refine z_if_ne (tgt := 965) hx d_La_law_950 (by decide) (fun _ => ?_) (fun k0 => ?_)
  · refine z_goto (tgt := 1395) hx d_La_law_965 (by decide) ?_
    exact z_lv [2, 3, 4, 5, 6] _ rfl (next _ _ _ hrel)
  · refine z_aload_n hx 5 d_La_law_953 rfl ?_
    refine z_iconst (v := 0) hx d_La_law_954 rfl ?_
    refine z_laldK hx 1 rfl (t := 12) rfl (k := 0) (by decide) (by decide) d_La_law_955 ?_
    refine z_topL (b := bb.toInt64) (hout (by first | exact k0 | exact Decidable.byContradiction k0)) ?_
    refine z_iload hx 0 d_La_law_956 rfl ?_
    refine z_i2l hx d_La_law_958 ?_
    refine z_lcmp hx d_La_law_959 ?_
    refine z_if_eq (tgt := 965) hx d_La_law_960 (by decide) (fun _ => ?_) (fun q => absurd ((lg_cmp_eq _ _).mpr rfl) q)
    refine z_goto (tgt := 1395) hx d_La_law_965 (by decide) ?_
    exact z_lv [2, 3, 4, 5, 6] _ rfl (next _ _ _ hrel)
set_option maxRecDepth 20000 in
theorem law_count {x : zX} {l : Launch} {D : va_G} {K : Nat → ClassId} {b L c : Nat} {xs : Nat → Int32} (hx : zOk x b_La_law "TrialDeskLaw" TB l D zcls (ztyl K)) (htr : l.stackTraces = false) (C : lCtx x b L xs) (hc : 8 * c + 8 ≤ L) {ad : Nat → Nat} {S : zSt} {g : Gh} (h : Rel g c S) (next : ∀ ad S g, Rel g (c + 1) S → zV x ad (Lay K ad S) (nC (c + 1)) (nS (c + 1)) (lvL b ad (nI (8 * c))) 1395 []) : zV x ad (Lay K ad S) (nC c) (nS c) (lvL b ad (nI (8 * c))) 968 [] := by
  obtain ⟨cL, cN, cM, cF, cO, cC, cS⟩ := C.2.2.2.2
  have hc5 : c < 512 := by omega
  have hns := nS_top (c := c + 1) (by omega)
  have hns2 : nS (c + 1) = nS c + (48 * (c + 1) + 700) := rfl
  refine z_aload_n hx 1 d_La_law_968 rfl ?_
  refine z_aload_n hx 0 d_La_law_969 rfl ?_
  refine z_iload hx 4 d_La_law_970 rfl ?_
  refine z_iconst (v := 1) hx d_La_law_972 rfl ?_
  refine z_iadd hx d_La_law_973 ?_
  refine z_top (b := nI (8 * c + 1)) (nI_add (8 * c) 1) ?_
  refine z_sld hx C.1 C.2.1 C.2.2.1 (k := 8 * c + 1) (by omega) C.2.2.2.1 d_La_law_974 ?_
  refine z_aload_n hx 0 d_La_law_975 rfl ?_
  refine z_iload hx 4 d_La_law_976 rfl ?_
  refine z_iconst (v := 2) hx d_La_law_978 rfl ?_
  refine z_iadd hx d_La_law_979 ?_
  refine z_top (b := nI (8 * c + 2)) (nI_add (8 * c) 2) ?_
  refine z_sld hx C.1 C.2.1 C.2.2.1 (k := 8 * c + 2) (by omega) C.2.2.2.1 d_La_law_980 ?_
  refine z_aload_n hx 3 d_La_law_981 rfl ?_
  obtain ⟨rm, post, hW, r1, r2, r3, r4, hk⟩ := sim_count (D := D) (K := K) (ad := ad) htr h hc5 (v0 := xs (8 * c + 1)) (v1 := xs (8 * c + 2))
  refine z_retSW hx hW cN a3_142 a3_144 a1_0 ⟨by decide +kernel, by decide +kernel⟩ (fun sig h => by cases h; rfl) a3_143 rfl rfl d_La_law_982 ⟨by omega, by show 0 + (5 + 11) + rm.locals ≤ _; omega, by unfold nC; omega, by omega⟩ (fun E ad' ce' q => by obtain ⟨k, S1, q1, -⟩ := hk _ _ _ q; cases q1) (fun v ad' ce' q => ?_)
  obtain ⟨k, S1, q1, hlo, rfl, f, w, bb, S2, g', hC, hf, hw, hk13, hout, hrel⟩ := hk _ _ _ q
  cases q1
  show zV x ad' (Lay K ad' S1) (nC c + rm.cells) (nS c + rm.slots) (lvL b ad (nI (8 * c))) 985 [.int k]
  rw [show lvL b ad (nI (8 * c)) = lvL b ad' (nI (8 * c)) from by unfold lvL; rw [hlo 0 (by decide), hlo 13 (by decide), hlo 12 (by decide)]]
  refine z_widen (n' := nC (c + 1)) (i' := nS (c + 1)) (by unfold nC; omega) (by omega) ?_
  refine z_istore hx [(5, .int k), (0, .ref b), (1, .ref (ad' 0)), (2, .ref (ad' 13)), (3, .ref (ad' 12)), (4, .int (nI (8 * c)))] d_La_law_985 (zN cM (by decide)) rfl ?_
  refine z_aload_n hx 3 d_La_law_987 rfl ?_
  refine z_aload_n hx 1 d_La_law_988 rfl ?_
  refine z_iload hx 5 d_La_law_989 rfl ?_
  refine z_iconst (v := 1) hx d_La_law_991 rfl ?_
  refine z_iadd hx d_La_law_992 ?_
  refine z_top (b := nI (8 * c + 1)) (nI_add (8 * c) 1) ?_
  refine z_sld hx C.1 C.2.1 C.2.2.1 (k := 8 * c + 1) (by omega) C.2.2.2.1 d_La_law_993 ?_
  refine z_aload_n hx 1 d_La_law_994 rfl ?_
  refine z_iload hx 5 d_La_law_995 rfl ?_
  refine z_iconst (v := 2) hx d_La_law_997 rfl ?_
  refine z_iadd hx d_La_law_998 ?_
  refine z_top (b := nI (8 * c + 2)) (nI_add (8 * c) 2) ?_
  refine z_sld hx C.1 C.2.1 C.2.2.1 (k := 8 * c + 2) (by omega) C.2.2.2.1 d_La_law_999 ?_
  refine z_cV hx hC k_Mo (t := 13) rfl ⟨a4_178, a4_181, a1_6, ⟨by decide +kernel, by decide +kernel⟩, fun sig h => by cases h; rfl⟩ a4_179 a4_180 rfl rfl d_La_law_1000 ⟨by omega, by show 0 + (3 + 11) + w ≤ _; omega, by unfold nC; omega, by omega⟩ ?_
  refine z_istore hx [(6, .int bb), (5, .int k), (0, .ref b), (1, .ref (ad' 0)), (2, .ref (ad' 13)), (3, .ref (ad' 12)), (4, .int (nI (8 * c)))] d_La_law_1003 (zN cM (by decide)) rfl ?_
  refine z_aload_n hx 4 d_La_law_1005 rfl ?_
  refine z_cV hx c_Mo_thrown k_Mo (t := 13) rfl ⟨a4_70, a4_73, a1_6, ⟨by decide +kernel, by decide +kernel⟩, fun sig h => by cases h; rfl⟩ a4_71 a4_72 rfl rfl d_La_law_1006 ⟨by omega, by show 0 + (1 + 11) + 0 ≤ _; omega, by unfold nC; omega, by omega⟩ ?_
  refine z_top (b := k) hk13 ?_
  refine z_iload hx 1 d_La_law_1009 rfl ?_
  refine z_icmp_eq (tgt := 1016) hx d_La_law_1011 (by decide) (fun _ => ?_) (fun q => absurd rfl q)
  refine z_iload hx 1 d_La_law_1016 rfl ?_
  refine z_if_ne (tgt := 1033) hx d_La_law_1018 (by decide) (fun _ => ?_) (fun k0 => ?_)
  · refine z_goto (tgt := 1395) hx d_La_law_1033 (by decide) ?_
    exact z_lv [2, 3, 4, 5, 6] _ rfl (next _ _ _ hrel)
  · refine z_aload_n hx 5 d_La_law_1021 rfl ?_
    refine z_iconst (v := 0) hx d_La_law_1022 rfl ?_
    refine z_laldK hx 1 rfl (t := 12) rfl (k := 0) (by decide) (by decide) d_La_law_1023 ?_
    refine z_topL (b := bb.toInt64) (hout (by first | exact k0 | exact Decidable.byContradiction k0)) ?_
    refine z_iload hx 0 d_La_law_1024 rfl ?_
    refine z_i2l hx d_La_law_1026 ?_
    refine z_lcmp hx d_La_law_1027 ?_
    refine z_if_eq (tgt := 1033) hx d_La_law_1028 (by decide) (fun _ => ?_) (fun q => absurd ((lg_cmp_eq _ _).mpr rfl) q)
    refine z_goto (tgt := 1395) hx d_La_law_1033 (by decide) ?_
    exact z_lv [2, 3, 4, 5, 6] _ rfl (next _ _ _ hrel)
set_option maxRecDepth 20000 in
theorem law_spread {x : zX} {l : Launch} {D : va_G} {K : Nat → ClassId} {b L c : Nat} {xs : Nat → Int32} (hx : zOk x b_La_law "TrialDeskLaw" TB l D zcls (ztyl K)) (htr : l.stackTraces = false) (C : lCtx x b L xs) (hc : 8 * c + 8 ≤ L) {ad : Nat → Nat} {S : zSt} {g : Gh} (h : Rel g c S) (next : ∀ ad S g, Rel g (c + 1) S → zV x ad (Lay K ad S) (nC (c + 1)) (nS (c + 1)) (lvL b ad (nI (8 * c))) 1395 []) : zV x ad (Lay K ad S) (nC c) (nS c) (lvL b ad (nI (8 * c))) 1036 [] := by
  obtain ⟨cL, cN, cM, cF, cO, cC, cS⟩ := C.2.2.2.2
  have hc5 : c < 512 := by omega
  have hns := nS_top (c := c + 1) (by omega)
  have hns2 : nS (c + 1) = nS c + (48 * (c + 1) + 700) := rfl
  refine z_aload_n hx 1 d_La_law_1036 rfl ?_
  refine z_aload_n hx 0 d_La_law_1037 rfl ?_
  refine z_iload hx 4 d_La_law_1038 rfl ?_
  refine z_iconst (v := 1) hx d_La_law_1040 rfl ?_
  refine z_iadd hx d_La_law_1041 ?_
  refine z_top (b := nI (8 * c + 1)) (nI_add (8 * c) 1) ?_
  refine z_sld hx C.1 C.2.1 C.2.2.1 (k := 8 * c + 1) (by omega) C.2.2.2.1 d_La_law_1042 ?_
  refine z_aload_n hx 3 d_La_law_1043 rfl ?_
  obtain ⟨rm, post, hW, r1, r2, r3, r4, hk⟩ := sim_spread (D := D) (K := K) (ad := ad) htr h hc5 (v0 := xs (8 * c + 1))
  refine z_retSW hx hW cN a3_153 a3_155 a1_0 ⟨by decide +kernel, by decide +kernel⟩ (fun sig h => by cases h; rfl) a3_154 rfl rfl d_La_law_1044 ⟨by omega, by show 0 + (4 + 11) + rm.locals ≤ _; omega, by unfold nC; omega, by omega⟩ (fun E ad' ce' q => by obtain ⟨k, S1, q1, -⟩ := hk _ _ _ q; cases q1) (fun v ad' ce' q => ?_)
  obtain ⟨k, S1, q1, hlo, rfl, f, w, bb, S2, g', hC, hf, hw, hk13, hout, hrel⟩ := hk _ _ _ q
  cases q1
  show zV x ad' (Lay K ad' S1) (nC c + rm.cells) (nS c + rm.slots) (lvL b ad (nI (8 * c))) 1047 [.int k]
  rw [show lvL b ad (nI (8 * c)) = lvL b ad' (nI (8 * c)) from by unfold lvL; rw [hlo 0 (by decide), hlo 13 (by decide), hlo 12 (by decide)]]
  refine z_widen (n' := nC (c + 1)) (i' := nS (c + 1)) (by unfold nC; omega) (by omega) ?_
  refine z_istore hx [(5, .int k), (0, .ref b), (1, .ref (ad' 0)), (2, .ref (ad' 13)), (3, .ref (ad' 12)), (4, .int (nI (8 * c)))] d_La_law_1047 (zN cM (by decide)) rfl ?_
  refine z_aload_n hx 3 d_La_law_1049 rfl ?_
  refine z_aload_n hx 1 d_La_law_1050 rfl ?_
  refine z_iload hx 5 d_La_law_1051 rfl ?_
  refine z_iconst (v := 1) hx d_La_law_1053 rfl ?_
  refine z_iadd hx d_La_law_1054 ?_
  refine z_top (b := nI (8 * c + 1)) (nI_add (8 * c) 1) ?_
  refine z_sld hx C.1 C.2.1 C.2.2.1 (k := 8 * c + 1) (by omega) C.2.2.2.1 d_La_law_1055 ?_
  refine z_cV hx hC k_Mo (t := 13) rfl ⟨a4_186, a4_189, a1_6, ⟨by decide +kernel, by decide +kernel⟩, fun sig h => by cases h; rfl⟩ a4_187 a4_188 rfl rfl d_La_law_1056 ⟨by omega, by show 0 + (6 + 11) + w ≤ _; omega, by unfold nC; omega, by omega⟩ ?_
  refine z_istore hx [(6, .int bb), (5, .int k), (0, .ref b), (1, .ref (ad' 0)), (2, .ref (ad' 13)), (3, .ref (ad' 12)), (4, .int (nI (8 * c)))] d_La_law_1059 (zN cM (by decide)) rfl ?_
  refine z_aload_n hx 4 d_La_law_1061 rfl ?_
  refine z_cV hx c_Mo_thrown k_Mo (t := 13) rfl ⟨a4_70, a4_73, a1_6, ⟨by decide +kernel, by decide +kernel⟩, fun sig h => by cases h; rfl⟩ a4_71 a4_72 rfl rfl d_La_law_1062 ⟨by omega, by show 0 + (1 + 11) + 0 ≤ _; omega, by unfold nC; omega, by omega⟩ ?_
  refine z_top (b := k) hk13 ?_
  refine z_iload hx 1 d_La_law_1065 rfl ?_
  refine z_icmp_eq (tgt := 1072) hx d_La_law_1067 (by decide) (fun _ => ?_) (fun q => absurd rfl q)
  refine z_iload hx 1 d_La_law_1072 rfl ?_
  refine z_if_ne (tgt := 1089) hx d_La_law_1074 (by decide) (fun _ => ?_) (fun k0 => ?_)
  · refine z_goto (tgt := 1395) hx d_La_law_1089 (by decide) ?_
    exact z_lv [2, 3, 4, 5, 6] _ rfl (next _ _ _ hrel)
  · refine z_aload_n hx 5 d_La_law_1077 rfl ?_
    refine z_iconst (v := 0) hx d_La_law_1078 rfl ?_
    refine z_laldK hx 1 rfl (t := 12) rfl (k := 0) (by decide) (by decide) d_La_law_1079 ?_
    refine z_topL (b := bb.toInt64) (hout (by first | exact k0 | exact Decidable.byContradiction k0)) ?_
    refine z_iload hx 0 d_La_law_1080 rfl ?_
    refine z_i2l hx d_La_law_1082 ?_
    refine z_lcmp hx d_La_law_1083 ?_
    refine z_if_eq (tgt := 1089) hx d_La_law_1084 (by decide) (fun _ => ?_) (fun q => absurd ((lg_cmp_eq _ _).mpr rfl) q)
    refine z_goto (tgt := 1395) hx d_La_law_1089 (by decide) ?_
    exact z_lv [2, 3, 4, 5, 6] _ rfl (next _ _ _ hrel)
set_option maxRecDepth 20000 in
theorem law_entry {x : zX} {l : Launch} {D : va_G} {K : Nat → ClassId} {b L c : Nat} {xs : Nat → Int32} (hx : zOk x b_La_law "TrialDeskLaw" TB l D zcls (ztyl K)) (htr : l.stackTraces = false) (C : lCtx x b L xs) (hc : 8 * c + 8 ≤ L) {ad : Nat → Nat} {S : zSt} {g : Gh} (h : Rel g c S) (next : ∀ ad S g, Rel g (c + 1) S → zV x ad (Lay K ad S) (nC (c + 1)) (nS (c + 1)) (lvL b ad (nI (8 * c))) 1395 []) : zV x ad (Lay K ad S) (nC c) (nS c) (lvL b ad (nI (8 * c))) 1092 [] := by
  obtain ⟨cL, cN, cM, cF, cO, cC, cS⟩ := C.2.2.2.2
  have hc5 : c < 512 := by omega
  have hns := nS_top (c := c + 1) (by omega)
  have hns2 : nS (c + 1) = nS c + (48 * (c + 1) + 700) := rfl
  refine z_aload_n hx 1 d_La_law_1092 rfl ?_
  refine z_aload_n hx 0 d_La_law_1093 rfl ?_
  refine z_iload hx 4 d_La_law_1094 rfl ?_
  refine z_iconst (v := 1) hx d_La_law_1096 rfl ?_
  refine z_iadd hx d_La_law_1097 ?_
  refine z_top (b := nI (8 * c + 1)) (nI_add (8 * c) 1) ?_
  refine z_sld hx C.1 C.2.1 C.2.2.1 (k := 8 * c + 1) (by omega) C.2.2.2.1 d_La_law_1098 ?_
  refine z_aload_n hx 0 d_La_law_1099 rfl ?_
  refine z_iload hx 4 d_La_law_1100 rfl ?_
  refine z_iconst (v := 2) hx d_La_law_1102 rfl ?_
  refine z_iadd hx d_La_law_1103 ?_
  refine z_top (b := nI (8 * c + 2)) (nI_add (8 * c) 2) ?_
  refine z_sld hx C.1 C.2.1 C.2.2.1 (k := 8 * c + 2) (by omega) C.2.2.2.1 d_La_law_1104 ?_
  refine z_aload_n hx 3 d_La_law_1105 rfl ?_
  obtain ⟨rm, post, hW, r1, r2, r3, r4, hk⟩ := sim_entry (D := D) (K := K) (ad := ad) htr h hc5 (v0 := xs (8 * c + 1)) (v1 := xs (8 * c + 2))
  refine z_retSW hx hW cN a3_169 a3_171 a1_0 ⟨by decide +kernel, by decide +kernel⟩ (fun sig h => by cases h; rfl) a3_170 rfl rfl d_La_law_1106 ⟨by omega, by show 0 + (5 + 11) + rm.locals ≤ _; omega, by unfold nC; omega, by omega⟩ (fun E ad' ce' q => by obtain ⟨k, S1, q1, -⟩ := hk _ _ _ q; cases q1) (fun v ad' ce' q => ?_)
  obtain ⟨k, S1, q1, hlo, rfl, f, w, bb, S2, g', hC, hf, hw, hk13, hout, hrel⟩ := hk _ _ _ q
  cases q1
  show zV x ad' (Lay K ad' S1) (nC c + rm.cells) (nS c + rm.slots) (lvL b ad (nI (8 * c))) 1109 [.int k]
  rw [show lvL b ad (nI (8 * c)) = lvL b ad' (nI (8 * c)) from by unfold lvL; rw [hlo 0 (by decide), hlo 13 (by decide), hlo 12 (by decide)]]
  refine z_widen (n' := nC (c + 1)) (i' := nS (c + 1)) (by unfold nC; omega) (by omega) ?_
  refine z_istore hx [(5, .int k), (0, .ref b), (1, .ref (ad' 0)), (2, .ref (ad' 13)), (3, .ref (ad' 12)), (4, .int (nI (8 * c)))] d_La_law_1109 (zN cM (by decide)) rfl ?_
  refine z_aload_n hx 3 d_La_law_1111 rfl ?_
  refine z_aload_n hx 1 d_La_law_1112 rfl ?_
  refine z_iload hx 5 d_La_law_1113 rfl ?_
  refine z_iconst (v := 1) hx d_La_law_1115 rfl ?_
  refine z_iadd hx d_La_law_1116 ?_
  refine z_top (b := nI (8 * c + 1)) (nI_add (8 * c) 1) ?_
  refine z_sld hx C.1 C.2.1 C.2.2.1 (k := 8 * c + 1) (by omega) C.2.2.2.1 d_La_law_1117 ?_
  refine z_aload_n hx 1 d_La_law_1118 rfl ?_
  refine z_iload hx 5 d_La_law_1119 rfl ?_
  refine z_iconst (v := 2) hx d_La_law_1121 rfl ?_
  refine z_iadd hx d_La_law_1122 ?_
  refine z_top (b := nI (8 * c + 2)) (nI_add (8 * c) 2) ?_
  refine z_sld hx C.1 C.2.1 C.2.2.1 (k := 8 * c + 2) (by omega) C.2.2.2.1 d_La_law_1123 ?_
  refine z_cV hx hC k_Mo (t := 13) rfl ⟨a4_190, a4_193, a1_6, ⟨by decide +kernel, by decide +kernel⟩, fun sig h => by cases h; rfl⟩ a4_191 a4_192 rfl rfl d_La_law_1124 ⟨by omega, by show 0 + (5 + 11) + w ≤ _; omega, by unfold nC; omega, by omega⟩ ?_
  refine z_istore hx [(6, .int bb), (5, .int k), (0, .ref b), (1, .ref (ad' 0)), (2, .ref (ad' 13)), (3, .ref (ad' 12)), (4, .int (nI (8 * c)))] d_La_law_1127 (zN cM (by decide)) rfl ?_
  refine z_aload_n hx 4 d_La_law_1129 rfl ?_
  refine z_cV hx c_Mo_thrown k_Mo (t := 13) rfl ⟨a4_70, a4_73, a1_6, ⟨by decide +kernel, by decide +kernel⟩, fun sig h => by cases h; rfl⟩ a4_71 a4_72 rfl rfl d_La_law_1130 ⟨by omega, by show 0 + (1 + 11) + 0 ≤ _; omega, by unfold nC; omega, by omega⟩ ?_
  refine z_top (b := k) hk13 ?_
  refine z_iload hx 1 d_La_law_1133 rfl ?_
  refine z_icmp_eq (tgt := 1140) hx d_La_law_1135 (by decide) (fun _ => ?_) (fun q => absurd rfl q)
  refine z_iload hx 1 d_La_law_1140 rfl ?_
  refine z_if_ne (tgt := 1157) hx d_La_law_1142 (by decide) (fun _ => ?_) (fun k0 => ?_)
  · refine z_goto (tgt := 1395) hx d_La_law_1157 (by decide) ?_
    exact z_lv [2, 3, 4, 5, 6] _ rfl (next _ _ _ hrel)
  · refine z_aload_n hx 5 d_La_law_1145 rfl ?_
    refine z_iconst (v := 0) hx d_La_law_1146 rfl ?_
    refine z_laldK hx 1 rfl (t := 12) rfl (k := 0) (by decide) (by decide) d_La_law_1147 ?_
    refine z_topL (b := bb.toInt64) (hout (by first | exact k0 | exact Decidable.byContradiction k0)) ?_
    refine z_iload hx 0 d_La_law_1148 rfl ?_
    refine z_i2l hx d_La_law_1150 ?_
    refine z_lcmp hx d_La_law_1151 ?_
    refine z_if_eq (tgt := 1157) hx d_La_law_1152 (by decide) (fun _ => ?_) (fun q => absurd ((lg_cmp_eq _ _).mpr rfl) q)
    refine z_goto (tgt := 1395) hx d_La_law_1157 (by decide) ?_
    exact z_lv [2, 3, 4, 5, 6] _ rfl (next _ _ _ hrel)
set_option maxRecDepth 20000 in
theorem law_blocks {x : zX} {l : Launch} {D : va_G} {K : Nat → ClassId} {b L c : Nat} {xs : Nat → Int32} (hx : zOk x b_La_law "TrialDeskLaw" TB l D zcls (ztyl K)) (htr : l.stackTraces = false) (C : lCtx x b L xs) (hc : 8 * c + 8 ≤ L) {ad : Nat → Nat} {S : zSt} {g : Gh} (h : Rel g c S) (next : ∀ ad S g, Rel g (c + 1) S → zV x ad (Lay K ad S) (nC (c + 1)) (nS (c + 1)) (lvL b ad (nI (8 * c))) 1395 []) : zV x ad (Lay K ad S) (nC c) (nS c) (lvL b ad (nI (8 * c))) 1160 [] := by
  obtain ⟨cL, cN, cM, cF, cO, cC, cS⟩ := C.2.2.2.2
  have hc5 : c < 512 := by omega
  have hns := nS_top (c := c + 1) (by omega)
  have hns2 : nS (c + 1) = nS c + (48 * (c + 1) + 700) := rfl
  refine z_aload_n hx 1 d_La_law_1160 rfl ?_
  refine z_aload_n hx 0 d_La_law_1161 rfl ?_
  refine z_iload hx 4 d_La_law_1162 rfl ?_
  refine z_iconst (v := 1) hx d_La_law_1164 rfl ?_
  refine z_iadd hx d_La_law_1165 ?_
  refine z_top (b := nI (8 * c + 1)) (nI_add (8 * c) 1) ?_
  refine z_sld hx C.1 C.2.1 C.2.2.1 (k := 8 * c + 1) (by omega) C.2.2.2.1 d_La_law_1166 ?_
  refine z_aload_n hx 3 d_La_law_1167 rfl ?_
  obtain ⟨rm, post, hW, r1, r2, r3, r4, hk⟩ := sim_blocks (D := D) (K := K) (ad := ad) htr h hc5 (v0 := xs (8 * c + 1))
  refine z_retSW hx hW cN a3_180 a3_182 a1_0 ⟨by decide +kernel, by decide +kernel⟩ (fun sig h => by cases h; rfl) a3_181 rfl rfl d_La_law_1168 ⟨by omega, by show 0 + (4 + 11) + rm.locals ≤ _; omega, by unfold nC; omega, by omega⟩ (fun E ad' ce' q => by obtain ⟨k, S1, q1, -⟩ := hk _ _ _ q; cases q1) (fun v ad' ce' q => ?_)
  obtain ⟨k, S1, q1, hlo, rfl, f, w, bb, S2, g', hC, hf, hw, hk13, hout, hrel⟩ := hk _ _ _ q
  cases q1
  show zV x ad' (Lay K ad' S1) (nC c + rm.cells) (nS c + rm.slots) (lvL b ad (nI (8 * c))) 1171 [.int k]
  rw [show lvL b ad (nI (8 * c)) = lvL b ad' (nI (8 * c)) from by unfold lvL; rw [hlo 0 (by decide), hlo 13 (by decide), hlo 12 (by decide)]]
  refine z_widen (n' := nC (c + 1)) (i' := nS (c + 1)) (by unfold nC; omega) (by omega) ?_
  refine z_istore hx [(5, .int k), (0, .ref b), (1, .ref (ad' 0)), (2, .ref (ad' 13)), (3, .ref (ad' 12)), (4, .int (nI (8 * c)))] d_La_law_1171 (zN cM (by decide)) rfl ?_
  refine z_aload_n hx 3 d_La_law_1173 rfl ?_
  refine z_aload_n hx 1 d_La_law_1174 rfl ?_
  refine z_iload hx 5 d_La_law_1175 rfl ?_
  refine z_iconst (v := 1) hx d_La_law_1177 rfl ?_
  refine z_iadd hx d_La_law_1178 ?_
  refine z_top (b := nI (8 * c + 1)) (nI_add (8 * c) 1) ?_
  refine z_sld hx C.1 C.2.1 C.2.2.1 (k := 8 * c + 1) (by omega) C.2.2.2.1 d_La_law_1179 ?_
  refine z_cV hx hC k_Mo (t := 13) rfl ⟨a4_194, a4_197, a1_6, ⟨by decide +kernel, by decide +kernel⟩, fun sig h => by cases h; rfl⟩ a4_195 a4_196 rfl rfl d_La_law_1180 ⟨by omega, by show 0 + (2 + 11) + w ≤ _; omega, by unfold nC; omega, by omega⟩ ?_
  refine z_istore hx [(6, .int bb), (5, .int k), (0, .ref b), (1, .ref (ad' 0)), (2, .ref (ad' 13)), (3, .ref (ad' 12)), (4, .int (nI (8 * c)))] d_La_law_1183 (zN cM (by decide)) rfl ?_
  refine z_aload_n hx 4 d_La_law_1185 rfl ?_
  refine z_cV hx c_Mo_thrown k_Mo (t := 13) rfl ⟨a4_70, a4_73, a1_6, ⟨by decide +kernel, by decide +kernel⟩, fun sig h => by cases h; rfl⟩ a4_71 a4_72 rfl rfl d_La_law_1186 ⟨by omega, by show 0 + (1 + 11) + 0 ≤ _; omega, by unfold nC; omega, by omega⟩ ?_
  refine z_top (b := k) hk13 ?_
  refine z_iload hx 1 d_La_law_1189 rfl ?_
  refine z_icmp_eq (tgt := 1196) hx d_La_law_1191 (by decide) (fun _ => ?_) (fun q => absurd rfl q)
  refine z_iload hx 1 d_La_law_1196 rfl ?_
  refine z_if_ne (tgt := 1213) hx d_La_law_1198 (by decide) (fun _ => ?_) (fun k0 => ?_)
  · refine z_goto (tgt := 1395) hx d_La_law_1213 (by decide) ?_
    exact z_lv [2, 3, 4, 5, 6] _ rfl (next _ _ _ hrel)
  · refine z_aload_n hx 5 d_La_law_1201 rfl ?_
    refine z_iconst (v := 0) hx d_La_law_1202 rfl ?_
    refine z_laldK hx 1 rfl (t := 12) rfl (k := 0) (by decide) (by decide) d_La_law_1203 ?_
    refine z_topL (b := bb.toInt64) (hout (by first | exact k0 | exact Decidable.byContradiction k0)) ?_
    refine z_iload hx 0 d_La_law_1204 rfl ?_
    refine z_i2l hx d_La_law_1206 ?_
    refine z_lcmp hx d_La_law_1207 ?_
    refine z_if_eq (tgt := 1213) hx d_La_law_1208 (by decide) (fun _ => ?_) (fun q => absurd ((lg_cmp_eq _ _).mpr rfl) q)
    refine z_goto (tgt := 1395) hx d_La_law_1213 (by decide) ?_
    exact z_lv [2, 3, 4, 5, 6] _ rfl (next _ _ _ hrel)
set_option maxRecDepth 20000 in
theorem law_stock {x : zX} {l : Launch} {D : va_G} {K : Nat → ClassId} {b L c : Nat} {xs : Nat → Int32} (hx : zOk x b_La_law "TrialDeskLaw" TB l D zcls (ztyl K)) (htr : l.stackTraces = false) (C : lCtx x b L xs) (hc : 8 * c + 8 ≤ L) {ad : Nat → Nat} {S : zSt} {g : Gh} (h : Rel g c S) (next : ∀ ad S g, Rel g (c + 1) S → zV x ad (Lay K ad S) (nC (c + 1)) (nS (c + 1)) (lvL b ad (nI (8 * c))) 1395 []) : zV x ad (Lay K ad S) (nC c) (nS c) (lvL b ad (nI (8 * c))) 1216 [] := by
  obtain ⟨cL, cN, cM, cF, cO, cC, cS⟩ := C.2.2.2.2
  have hc5 : c < 512 := by omega
  have hns := nS_top (c := c + 1) (by omega)
  have hns2 : nS (c + 1) = nS c + (48 * (c + 1) + 700) := rfl
  refine z_aload_n hx 1 d_La_law_1216 rfl ?_
  refine z_aload_n hx 0 d_La_law_1217 rfl ?_
  refine z_iload hx 4 d_La_law_1218 rfl ?_
  refine z_iconst (v := 1) hx d_La_law_1220 rfl ?_
  refine z_iadd hx d_La_law_1221 ?_
  refine z_top (b := nI (8 * c + 1)) (nI_add (8 * c) 1) ?_
  refine z_sld hx C.1 C.2.1 C.2.2.1 (k := 8 * c + 1) (by omega) C.2.2.2.1 d_La_law_1222 ?_
  refine z_aload_n hx 0 d_La_law_1223 rfl ?_
  refine z_iload hx 4 d_La_law_1224 rfl ?_
  refine z_iconst (v := 2) hx d_La_law_1226 rfl ?_
  refine z_iadd hx d_La_law_1227 ?_
  refine z_top (b := nI (8 * c + 2)) (nI_add (8 * c) 2) ?_
  refine z_sld hx C.1 C.2.1 C.2.2.1 (k := 8 * c + 2) (by omega) C.2.2.2.1 d_La_law_1228 ?_
  refine z_aload_n hx 3 d_La_law_1229 rfl ?_
  obtain ⟨rm, post, hW, r1, r2, r3, r4, hk⟩ := sim_stock (D := D) (K := K) (ad := ad) htr h hc5 (v0 := xs (8 * c + 1)) (v1 := xs (8 * c + 2))
  refine z_retSW hx hW cN a3_187 a3_189 a1_0 ⟨by decide +kernel, by decide +kernel⟩ (fun sig h => by cases h; rfl) a3_188 rfl rfl d_La_law_1230 ⟨by omega, by show 0 + (5 + 11) + rm.locals ≤ _; omega, by unfold nC; omega, by omega⟩ (fun E ad' ce' q => by obtain ⟨k, S1, q1, -⟩ := hk _ _ _ q; cases q1) (fun v ad' ce' q => ?_)
  obtain ⟨k, S1, q1, hlo, rfl, f, w, bb, S2, g', hC, hf, hw, hk13, hout, hrel⟩ := hk _ _ _ q
  cases q1
  show zV x ad' (Lay K ad' S1) (nC c + rm.cells) (nS c + rm.slots) (lvL b ad (nI (8 * c))) 1233 [.int k]
  rw [show lvL b ad (nI (8 * c)) = lvL b ad' (nI (8 * c)) from by unfold lvL; rw [hlo 0 (by decide), hlo 13 (by decide), hlo 12 (by decide)]]
  refine z_widen (n' := nC (c + 1)) (i' := nS (c + 1)) (by unfold nC; omega) (by omega) ?_
  refine z_istore hx [(5, .int k), (0, .ref b), (1, .ref (ad' 0)), (2, .ref (ad' 13)), (3, .ref (ad' 12)), (4, .int (nI (8 * c)))] d_La_law_1233 (zN cM (by decide)) rfl ?_
  refine z_aload_n hx 3 d_La_law_1235 rfl ?_
  refine z_aload_n hx 1 d_La_law_1236 rfl ?_
  refine z_iload hx 5 d_La_law_1237 rfl ?_
  refine z_iconst (v := 1) hx d_La_law_1239 rfl ?_
  refine z_iadd hx d_La_law_1240 ?_
  refine z_top (b := nI (8 * c + 1)) (nI_add (8 * c) 1) ?_
  refine z_sld hx C.1 C.2.1 C.2.2.1 (k := 8 * c + 1) (by omega) C.2.2.2.1 d_La_law_1241 ?_
  refine z_aload_n hx 1 d_La_law_1242 rfl ?_
  refine z_iload hx 5 d_La_law_1243 rfl ?_
  refine z_iconst (v := 2) hx d_La_law_1245 rfl ?_
  refine z_iadd hx d_La_law_1246 ?_
  refine z_top (b := nI (8 * c + 2)) (nI_add (8 * c) 2) ?_
  refine z_sld hx C.1 C.2.1 C.2.2.1 (k := 8 * c + 2) (by omega) C.2.2.2.1 d_La_law_1247 ?_
  refine z_cV hx hC k_Mo (t := 13) rfl ⟨a4_198, a4_201, a1_6, ⟨by decide +kernel, by decide +kernel⟩, fun sig h => by cases h; rfl⟩ a4_199 a4_200 rfl rfl d_La_law_1248 ⟨by omega, by show 0 + (5 + 11) + w ≤ _; omega, by unfold nC; omega, by omega⟩ ?_
  refine z_istore hx [(6, .int bb), (5, .int k), (0, .ref b), (1, .ref (ad' 0)), (2, .ref (ad' 13)), (3, .ref (ad' 12)), (4, .int (nI (8 * c)))] d_La_law_1251 (zN cM (by decide)) rfl ?_
  refine z_aload_n hx 4 d_La_law_1253 rfl ?_
  refine z_cV hx c_Mo_thrown k_Mo (t := 13) rfl ⟨a4_70, a4_73, a1_6, ⟨by decide +kernel, by decide +kernel⟩, fun sig h => by cases h; rfl⟩ a4_71 a4_72 rfl rfl d_La_law_1254 ⟨by omega, by show 0 + (1 + 11) + 0 ≤ _; omega, by unfold nC; omega, by omega⟩ ?_
  refine z_top (b := k) hk13 ?_
  refine z_iload hx 1 d_La_law_1257 rfl ?_
  refine z_icmp_eq (tgt := 1264) hx d_La_law_1259 (by decide) (fun _ => ?_) (fun q => absurd rfl q)
  refine z_iload hx 1 d_La_law_1264 rfl ?_
  refine z_if_ne (tgt := 1281) hx d_La_law_1266 (by decide) (fun _ => ?_) (fun k0 => ?_)
  · refine z_goto (tgt := 1395) hx d_La_law_1281 (by decide) ?_
    exact z_lv [2, 3, 4, 5, 6] _ rfl (next _ _ _ hrel)
  · refine z_aload_n hx 5 d_La_law_1269 rfl ?_
    refine z_iconst (v := 0) hx d_La_law_1270 rfl ?_
    refine z_laldK hx 1 rfl (t := 12) rfl (k := 0) (by decide) (by decide) d_La_law_1271 ?_
    refine z_topL (b := bb.toInt64) (hout (by first | exact k0 | exact Decidable.byContradiction k0)) ?_
    refine z_iload hx 0 d_La_law_1272 rfl ?_
    refine z_i2l hx d_La_law_1274 ?_
    refine z_lcmp hx d_La_law_1275 ?_
    refine z_if_eq (tgt := 1281) hx d_La_law_1276 (by decide) (fun _ => ?_) (fun q => absurd ((lg_cmp_eq _ _).mpr rfl) q)
    refine z_goto (tgt := 1395) hx d_La_law_1281 (by decide) ?_
    exact z_lv [2, 3, 4, 5, 6] _ rfl (next _ _ _ hrel)
set_option maxRecDepth 20000 in
theorem law_used {x : zX} {l : Launch} {D : va_G} {K : Nat → ClassId} {b L c : Nat} {xs : Nat → Int32} (hx : zOk x b_La_law "TrialDeskLaw" TB l D zcls (ztyl K)) (htr : l.stackTraces = false) (C : lCtx x b L xs) (hc : 8 * c + 8 ≤ L) {ad : Nat → Nat} {S : zSt} {g : Gh} (h : Rel g c S) (next : ∀ ad S g, Rel g (c + 1) S → zV x ad (Lay K ad S) (nC (c + 1)) (nS (c + 1)) (lvL b ad (nI (8 * c))) 1395 []) : zV x ad (Lay K ad S) (nC c) (nS c) (lvL b ad (nI (8 * c))) 1284 [] := by
  obtain ⟨cL, cN, cM, cF, cO, cC, cS⟩ := C.2.2.2.2
  have hc5 : c < 512 := by omega
  have hns := nS_top (c := c + 1) (by omega)
  have hns2 : nS (c + 1) = nS c + (48 * (c + 1) + 700) := rfl
  refine z_aload_n hx 1 d_La_law_1284 rfl ?_
  refine z_aload_n hx 0 d_La_law_1285 rfl ?_
  refine z_iload hx 4 d_La_law_1286 rfl ?_
  refine z_iconst (v := 1) hx d_La_law_1288 rfl ?_
  refine z_iadd hx d_La_law_1289 ?_
  refine z_top (b := nI (8 * c + 1)) (nI_add (8 * c) 1) ?_
  refine z_sld hx C.1 C.2.1 C.2.2.1 (k := 8 * c + 1) (by omega) C.2.2.2.1 d_La_law_1290 ?_
  refine z_aload_n hx 3 d_La_law_1291 rfl ?_
  obtain ⟨rm, post, hW, r1, r2, r3, r4, hk⟩ := sim_used (D := D) (K := K) (ad := ad) htr h hc5 (v0 := xs (8 * c + 1))
  refine z_retSW hx hW cN a3_198 a3_200 a1_0 ⟨by decide +kernel, by decide +kernel⟩ (fun sig h => by cases h; rfl) a3_199 rfl rfl d_La_law_1292 ⟨by omega, by show 0 + (4 + 11) + rm.locals ≤ _; omega, by unfold nC; omega, by omega⟩ (fun E ad' ce' q => by obtain ⟨k, S1, q1, -⟩ := hk _ _ _ q; cases q1) (fun v ad' ce' q => ?_)
  obtain ⟨k, S1, q1, hlo, rfl, f, w, bb, S2, g', hC, hf, hw, hk13, hout, hrel⟩ := hk _ _ _ q
  cases q1
  show zV x ad' (Lay K ad' S1) (nC c + rm.cells) (nS c + rm.slots) (lvL b ad (nI (8 * c))) 1295 [.int k]
  rw [show lvL b ad (nI (8 * c)) = lvL b ad' (nI (8 * c)) from by unfold lvL; rw [hlo 0 (by decide), hlo 13 (by decide), hlo 12 (by decide)]]
  refine z_widen (n' := nC (c + 1)) (i' := nS (c + 1)) (by unfold nC; omega) (by omega) ?_
  refine z_istore hx [(5, .int k), (0, .ref b), (1, .ref (ad' 0)), (2, .ref (ad' 13)), (3, .ref (ad' 12)), (4, .int (nI (8 * c)))] d_La_law_1295 (zN cM (by decide)) rfl ?_
  refine z_aload_n hx 3 d_La_law_1297 rfl ?_
  refine z_aload_n hx 1 d_La_law_1298 rfl ?_
  refine z_iload hx 5 d_La_law_1299 rfl ?_
  refine z_iconst (v := 1) hx d_La_law_1301 rfl ?_
  refine z_iadd hx d_La_law_1302 ?_
  refine z_top (b := nI (8 * c + 1)) (nI_add (8 * c) 1) ?_
  refine z_sld hx C.1 C.2.1 C.2.2.1 (k := 8 * c + 1) (by omega) C.2.2.2.1 d_La_law_1303 ?_
  refine z_cV hx hC k_Mo (t := 13) rfl ⟨a4_202, a4_205, a1_6, ⟨by decide +kernel, by decide +kernel⟩, fun sig h => by cases h; rfl⟩ a4_203 a4_204 rfl rfl d_La_law_1304 ⟨by omega, by show 0 + (3 + 11) + w ≤ _; omega, by unfold nC; omega, by omega⟩ ?_
  refine z_istore hx [(6, .int bb), (5, .int k), (0, .ref b), (1, .ref (ad' 0)), (2, .ref (ad' 13)), (3, .ref (ad' 12)), (4, .int (nI (8 * c)))] d_La_law_1307 (zN cM (by decide)) rfl ?_
  refine z_aload_n hx 4 d_La_law_1309 rfl ?_
  refine z_cV hx c_Mo_thrown k_Mo (t := 13) rfl ⟨a4_70, a4_73, a1_6, ⟨by decide +kernel, by decide +kernel⟩, fun sig h => by cases h; rfl⟩ a4_71 a4_72 rfl rfl d_La_law_1310 ⟨by omega, by show 0 + (1 + 11) + 0 ≤ _; omega, by unfold nC; omega, by omega⟩ ?_
  refine z_top (b := k) hk13 ?_
  refine z_iload hx 1 d_La_law_1313 rfl ?_
  refine z_icmp_eq (tgt := 1320) hx d_La_law_1315 (by decide) (fun _ => ?_) (fun q => absurd rfl q)
  refine z_iload hx 1 d_La_law_1320 rfl ?_
  refine z_if_ne (tgt := 1337) hx d_La_law_1322 (by decide) (fun _ => ?_) (fun k0 => ?_)
  · refine z_goto (tgt := 1395) hx d_La_law_1337 (by decide) ?_
    exact z_lv [2, 3, 4, 5, 6] _ rfl (next _ _ _ hrel)
  · refine z_aload_n hx 5 d_La_law_1325 rfl ?_
    refine z_iconst (v := 0) hx d_La_law_1326 rfl ?_
    refine z_laldK hx 1 rfl (t := 12) rfl (k := 0) (by decide) (by decide) d_La_law_1327 ?_
    refine z_topL (b := bb.toInt64) (hout (by first | exact k0 | exact Decidable.byContradiction k0)) ?_
    refine z_iload hx 0 d_La_law_1328 rfl ?_
    refine z_i2l hx d_La_law_1330 ?_
    refine z_lcmp hx d_La_law_1331 ?_
    refine z_if_eq (tgt := 1337) hx d_La_law_1332 (by decide) (fun _ => ?_) (fun q => absurd ((lg_cmp_eq _ _).mpr rfl) q)
    refine z_goto (tgt := 1395) hx d_La_law_1337 (by decide) ?_
    exact z_lv [2, 3, 4, 5, 6] _ rfl (next _ _ _ hrel)
set_option maxRecDepth 20000 in
theorem law_tear {x : zX} {l : Launch} {D : va_G} {K : Nat → ClassId} {b L c : Nat} {xs : Nat → Int32} (hx : zOk x b_La_law "TrialDeskLaw" TB l D zcls (ztyl K)) (htr : l.stackTraces = false) (C : lCtx x b L xs) (hc : 8 * c + 8 ≤ L) {ad : Nat → Nat} {S : zSt} {g : Gh} (h : Rel g c S) (next : ∀ ad S g, Rel g (c + 1) S → zV x ad (Lay K ad S) (nC (c + 1)) (nS (c + 1)) (lvL b ad (nI (8 * c))) 1395 []) : zV x ad (Lay K ad S) (nC c) (nS c) (lvL b ad (nI (8 * c))) 1340 [] := by
  obtain ⟨cL, cN, cM, cF, cO, cC, cS⟩ := C.2.2.2.2
  have hc5 : c < 512 := by omega
  have hns := nS_top (c := c + 1) (by omega)
  have hns2 : nS (c + 1) = nS c + (48 * (c + 1) + 700) := rfl
  refine z_aload_n hx 1 d_La_law_1340 rfl ?_
  refine z_cV hx c_TD_tear k_TD (t := 0) rfl ⟨a1_153, a1_156, a1_1, ⟨by decide +kernel, by decide +kernel⟩, fun sig h => by cases h; rfl⟩ a1_154 a1_155 rfl rfl d_La_law_1341 ⟨by omega, by show 0 + (1 + 11) + 20 ≤ _; omega, by unfold nC; omega, by omega⟩ ?_
  refine z_aload_n hx 2 d_La_law_1344 rfl ?_
  refine z_cV hx c_Mo_tear k_Mo (t := 13) rfl ⟨a4_206, a4_209, a1_6, ⟨by decide +kernel, by decide +kernel⟩, fun sig h => by cases h; rfl⟩ a4_207 a4_208 rfl rfl d_La_law_1345 ⟨by omega, by show 0 + (1 + 11) + 0 ≤ _; omega, by unfold nC; omega, by omega⟩ ?_
  refine z_goto (tgt := 1395) hx d_La_law_1348 (by decide) ?_
  refine z_widen (n' := nC (c + 1)) (i' := nS (c + 1)) (by unfold nC; omega) (by omega) ?_
  exact next _ _ _ (pu_tear h hc5).2
set_option maxRecDepth 20000 in
theorem law_mount {x : zX} {l : Launch} {D : va_G} {K : Nat → ClassId} {b L c : Nat} {xs : Nat → Int32} (hx : zOk x b_La_law "TrialDeskLaw" TB l D zcls (ztyl K)) (htr : l.stackTraces = false) (C : lCtx x b L xs) (hc : 8 * c + 8 ≤ L) {ad : Nat → Nat} {S : zSt} {g : Gh} (h : Rel g c S) (next : ∀ ad S g, Rel g (c + 1) S → zV x ad (Lay K ad S) (nC (c + 1)) (nS (c + 1)) (lvL b ad (nI (8 * c))) 1395 []) : zV x ad (Lay K ad S) (nC c) (nS c) (lvL b ad (nI (8 * c))) 1351 [] := by
  obtain ⟨cL, cN, cM, cF, cO, cC, cS⟩ := C.2.2.2.2
  have hc5 : c < 512 := by omega
  have hns := nS_top (c := c + 1) (by omega)
  have hns2 : nS (c + 1) = nS c + (48 * (c + 1) + 700) := rfl
  refine z_aload_n hx 1 d_La_law_1351 rfl ?_
  refine z_aload_n hx 3 d_La_law_1352 rfl ?_
  obtain ⟨rm, post, hW, r1, r2, r3, r4, hk⟩ := sim_mount (D := D) (K := K) (ad := ad) htr h hc5 
  refine z_retSW hx hW cN a3_209 a3_211 a1_0 ⟨by decide +kernel, by decide +kernel⟩ (fun sig h => by cases h; rfl) a3_210 rfl rfl d_La_law_1353 ⟨by omega, by show 0 + (3 + 11) + rm.locals ≤ _; omega, by unfold nC; omega, by omega⟩ (fun E ad' ce' q => by obtain ⟨k, S1, q1, -⟩ := hk _ _ _ q; cases q1) (fun v ad' ce' q => ?_)
  obtain ⟨k, S1, q1, hlo, rfl, f, w, bb, S2, g', hC, hf, hw, hk13, hout, hrel⟩ := hk _ _ _ q
  cases q1
  show zV x ad' (Lay K ad' S1) (nC c + rm.cells) (nS c + rm.slots) (lvL b ad (nI (8 * c))) 1356 [.int k]
  rw [show lvL b ad (nI (8 * c)) = lvL b ad' (nI (8 * c)) from by unfold lvL; rw [hlo 0 (by decide), hlo 13 (by decide), hlo 12 (by decide)]]
  refine z_widen (n' := nC (c + 1)) (i' := nS (c + 1)) (by unfold nC; omega) (by omega) ?_
  refine z_istore hx [(5, .int k), (0, .ref b), (1, .ref (ad' 0)), (2, .ref (ad' 13)), (3, .ref (ad' 12)), (4, .int (nI (8 * c)))] d_La_law_1356 (zN cM (by decide)) rfl ?_
  refine z_aload_n hx 3 d_La_law_1358 rfl ?_
  refine z_cV hx hC k_Mo (t := 13) rfl ⟨a4_210, a4_213, a1_6, ⟨by decide +kernel, by decide +kernel⟩, fun sig h => by cases h; rfl⟩ a4_211 a4_212 rfl rfl d_La_law_1359 ⟨by omega, by show 0 + (1 + 11) + w ≤ _; omega, by unfold nC; omega, by omega⟩ ?_
  refine z_istore hx [(6, .int bb), (5, .int k), (0, .ref b), (1, .ref (ad' 0)), (2, .ref (ad' 13)), (3, .ref (ad' 12)), (4, .int (nI (8 * c)))] d_La_law_1362 (zN cM (by decide)) rfl ?_
  refine z_aload_n hx 4 d_La_law_1364 rfl ?_
  refine z_cV hx c_Mo_thrown k_Mo (t := 13) rfl ⟨a4_70, a4_73, a1_6, ⟨by decide +kernel, by decide +kernel⟩, fun sig h => by cases h; rfl⟩ a4_71 a4_72 rfl rfl d_La_law_1365 ⟨by omega, by show 0 + (1 + 11) + 0 ≤ _; omega, by unfold nC; omega, by omega⟩ ?_
  refine z_top (b := k) hk13 ?_
  refine z_iload hx 1 d_La_law_1368 rfl ?_
  refine z_icmp_eq (tgt := 1375) hx d_La_law_1370 (by decide) (fun _ => ?_) (fun q => absurd rfl q)
  refine z_iload hx 1 d_La_law_1375 rfl ?_
  refine z_if_ne (tgt := 1392) hx d_La_law_1377 (by decide) (fun _ => ?_) (fun k0 => ?_)
  · refine z_goto (tgt := 1395) hx d_La_law_1392 (by decide) ?_
    exact z_lv [2, 3, 4, 5, 6] _ rfl (next _ _ _ hrel)
  · refine z_aload_n hx 5 d_La_law_1380 rfl ?_
    refine z_iconst (v := 0) hx d_La_law_1381 rfl ?_
    refine z_laldK hx 1 rfl (t := 12) rfl (k := 0) (by decide) (by decide) d_La_law_1382 ?_
    refine z_topL (b := bb.toInt64) (hout (by first | exact k0 | exact Decidable.byContradiction k0)) ?_
    refine z_iload hx 0 d_La_law_1383 rfl ?_
    refine z_i2l hx d_La_law_1385 ?_
    refine z_lcmp hx d_La_law_1386 ?_
    refine z_if_eq (tgt := 1392) hx d_La_law_1387 (by decide) (fun _ => ?_) (fun q => absurd ((lg_cmp_eq _ _).mpr rfl) q)
    refine z_goto (tgt := 1395) hx d_La_law_1392 (by decide) ?_
    exact z_lv [2, 3, 4, 5, 6] _ rfl (next _ _ _ hrel)
theorem and31 (v : Int32) : ∃ k, k < 32 ∧ v &&& 31 = nI k := by
  refine ⟨v.toBitVec.toNat % 32, by omega, ?_⟩
  refine Int32.toBitVec_inj.mp ?_
  rw [Int32.toBitVec_and]
  refine BitVec.eq_of_toNat_eq ?_
  rw [BitVec.toNat_and]
  show v.toBitVec.toNat &&& 31 = _
  rw [show (31 : Nat) = 2 ^ 5 - 1 from rfl, Nat.and_two_pow_sub_one_eq_mod]
  show _ = (BitVec.ofNat 32 (v.toBitVec.toNat % 32)).toNat
  rw [BitVec.toNat_ofNat]
  omega
theorem Rel_idle {g : Gh} {c : Nat} {S : zSt} (h : Rel g c S) (hc : c < 512) : Rel g (c + 1) S :=
  Rel_J h ⟨rfl, fun _ _ => rfl, fun _ _ _ _ => rfl, fun _ _ => rfl, fun _ _ => rfl⟩ (by omega) (by omega) h.j0 h.2.1 h.j2 h.o7
set_option maxRecDepth 20000 in
/-- one turn of the law's loop -/
theorem law_turn {x : zX} {l : Launch} {D : va_G} {K : Nat → ClassId} {b L c : Nat} {xs : Nat → Int32} (hx : zOk x b_La_law "TrialDeskLaw" TB l D zcls (ztyl K)) (htr : l.stackTraces = false) (C : lCtx x b L xs) (hc : 8 * c + 8 ≤ L) {ad : Nat → Nat} {S : zSt} {g : Gh} (h : Rel g c S) (next : ∀ ad S g, Rel g (c + 1) S → zV x ad (Lay K ad S) (nC (c + 1)) (nS (c + 1)) (lvL b ad (nI (8 * c))) 1395 []) : zV x ad (Lay K ad S) (nC c) (nS c) (lvL b ad (nI (8 * c))) 33 [] := by
  refine z_aload_n hx 0 d_La_law_33 rfl ?_
  refine z_iload hx 4 d_La_law_34 rfl ?_
  refine z_sld hx C.1 C.2.1 C.2.2.1 (k := 8 * c) (by omega) C.2.2.2.1 d_La_law_36 ?_
  refine z_bipush (v := 31) hx d_La_law_37 rfl ?_
  refine z_iand hx d_La_law_39 ?_
  obtain ⟨k, hk, e⟩ := and31 (xs (8 * c))
  refine z_top (b := nI k) e ?_
  have hki : (nI k).toInt = (k : Int) := nI_toInt (by omega)
  by_cases h19 : 19 ≤ k
  · refine z_tabOut (tgt := 1395) hx d_La_law_40 (Or.inr (by rw [hki]; omega)) (by decide) ?_
    refine z_widen (n' := nC (c + 1)) (i' := nS (c + 1)) (by unfold nC; omega) (by rw [nS]; omega) ?_
    exact next ad S g (Rel_idle h (by have := C.2.2.2.2.1; omega))
  have hcs : k = 0 ∨ k = 1 ∨ k = 2 ∨ k = 3 ∨ k = 4 ∨ k = 5 ∨ k = 6 ∨ k = 7 ∨ k = 8 ∨ k = 9 ∨ k = 10 ∨ k = 11 ∨ k = 12 ∨ k = 13 ∨ k = 14 ∨ k = 15 ∨ k = 16 ∨ k = 17 ∨ k = 18 := by omega
  rcases hcs with rfl | rfl | rfl | rfl | rfl | rfl | rfl | rfl | rfl | rfl | rfl | rfl | rfl | rfl | rfl | rfl | rfl | rfl | rfl
  · exact z_tabIn (tgt := 132) hx d_La_law_40 (by decide) (by decide) rfl (by decide) (law_arms hx htr C hc h next)
  · exact z_tabIn (tgt := 264) hx d_La_law_40 (by decide) (by decide) rfl (by decide) (law_site hx htr C hc h next)
  · exact z_tabIn (tgt := 320) hx d_La_law_40 (by decide) (by decide) rfl (by decide) (law_kits hx htr C hc h next)
  · exact z_tabIn (tgt := 412) hx d_La_law_40 (by decide) (by decide) rfl (by decide) (law_allot hx htr C hc h next)
  · exact z_tabIn (tgt := 492) hx d_La_law_40 (by decide) (by decide) rfl (by decide) (law_reserve hx htr C hc h next)
  · exact z_tabIn (tgt := 560) hx d_La_law_40 (by decide) (by decide) rfl (by decide) (law_offline hx htr C hc h next)
  · exact z_tabIn (tgt := 640) hx d_La_law_40 (by decide) (by decide) rfl (by decide) (law_report hx htr C hc h next)
  · exact z_tabIn (tgt := 696) hx d_La_law_40 (by decide) (by decide) rfl (by decide) (law_close hx htr C hc h next)
  · exact z_tabIn (tgt := 752) hx d_La_law_40 (by decide) (by decide) rfl (by decide) (law_key hx htr C hc h next)
  · exact z_tabIn (tgt := 832) hx d_La_law_40 (by decide) (by decide) rfl (by decide) (law_arm hx htr C hc h next)
  · exact z_tabIn (tgt := 900) hx d_La_law_40 (by decide) (by decide) rfl (by decide) (law_opn hx htr C hc h next)
  · exact z_tabIn (tgt := 968) hx d_La_law_40 (by decide) (by decide) rfl (by decide) (law_count hx htr C hc h next)
  · exact z_tabIn (tgt := 1036) hx d_La_law_40 (by decide) (by decide) rfl (by decide) (law_spread hx htr C hc h next)
  · exact z_tabIn (tgt := 1092) hx d_La_law_40 (by decide) (by decide) rfl (by decide) (law_entry hx htr C hc h next)
  · exact z_tabIn (tgt := 1160) hx d_La_law_40 (by decide) (by decide) rfl (by decide) (law_blocks hx htr C hc h next)
  · exact z_tabIn (tgt := 1216) hx d_La_law_40 (by decide) (by decide) rfl (by decide) (law_stock hx htr C hc h next)
  · exact z_tabIn (tgt := 1284) hx d_La_law_40 (by decide) (by decide) rfl (by decide) (law_used hx htr C hc h next)
  · exact z_tabIn (tgt := 1340) hx d_La_law_40 (by decide) (by decide) rfl (by decide) (law_tear hx htr C hc h next)
  · exact z_tabIn (tgt := 1351) hx d_La_law_40 (by decide) (by decide) rfl (by decide) (law_mount hx htr C hc h next)
