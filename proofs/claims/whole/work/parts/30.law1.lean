/-- '!= 0' as Java's boolean -/
def bZ (x : Int32) : Int32 := if x = 0 then 0 else 1
theorem bZ_01 (x : Int32) : bZ x = 0 ∨ bZ x = 1 := by
  unfold bZ
  split
  · exact Or.inl rfl
  · exact Or.inr rfl
theorem cmp_0 (x : Int64) : lg_cmp x x = 0 := by
  unfold lg_cmp
  simp
section Law1
variable {l : Launch} {D : va_G} {t : ty4} {b L : Nat} {xs : Nat → Int32} {q : Nat → Nat} {i : Nat → Int32} {a : Nat → Nat → Int32} {w : Int64} {d mc ms : Nat}
variable {M : mi_M} {pc : Nat} {lv : List (Option Value)} {st : List Value} {h : va_W} {Q : mi_O → va_W → Nat → Nat → Prop}
/-- script[m] -/
theorem MW.sj {m : Nat} (hd : decode M.2.1 pc = .ok (Instr.iaload, 1)) (hm : m < L) (hL : L < 2 ^ 31) (kk : MW (En l D t b L xs) M d (pc + 1) lv (.int (xs m) :: st) h mc ms Q) : MW (En l D t b L xs) M d pc lv (.int (nI m) :: .ref b :: st) h mc ms Q :=
  MW.sld (E := En l D t b L xs) hd (vp_in_nI hm hL) (by rw [nI_clamp (Nat.lt_trans hm hL)]; exact kk)
/-- out[0] -/
theorem MW.lo (hd : decode M.2.1 pc = .ok (Instr.laload, 1)) (kk : MW (En l D t b L xs) M d (pc + 1) lv (.long w :: st) (hw t q i a w) mc ms Q) : MW (En l D t b L xs) M d pc lv (.int 0 :: .ref (q 29) :: st) (hw t q i a w) mc ms Q :=
  MW.lald (E := En l D t b L xs) (h := hw t q i a w) (i := 0) hd 29 3 rfl rfl (vp_in_nI (n := 0) (by omega) (by omega)) kk
theorem jz_151 {x : Int32} (kk : MW (En l D t b L xs) ML_law d 159 lv (.int (bZ x) :: st) h mc ms Q) : MW (En l D t b L xs) ML_law d 151 lv (.int x :: st) h mc ms Q := by
  refine MW.if_eq 158 dL_law_151 (by decide) (fun hc => ?_) (fun hc => ?_)
  · refine MW.iconst (v := 0) dL_law_158 (by decide) ?_
    rw [show bZ x = 0 from if_pos hc] at kk
    exact kk
  · refine MW.iconst (v := 1) dL_law_154 (by decide) ?_
    refine MW.goto 159 dL_law_155 (by decide) ?_
    rw [show bZ x = 1 from if_neg hc] at kk
    exact kk
theorem jz_183 {x : Int32} (kk : MW (En l D t b L xs) ML_law d 191 lv (.int (bZ x) :: st) h mc ms Q) : MW (En l D t b L xs) ML_law d 183 lv (.int x :: st) h mc ms Q := by
  refine MW.if_eq 190 dL_law_183 (by decide) (fun hc => ?_) (fun hc => ?_)
  · refine MW.iconst (v := 0) dL_law_190 (by decide) ?_
    rw [show bZ x = 0 from if_pos hc] at kk
    exact kk
  · refine MW.iconst (v := 1) dL_law_186 (by decide) ?_
    refine MW.goto 191 dL_law_187 (by decide) ?_
    rw [show bZ x = 1 from if_neg hc] at kk
    exact kk
theorem jz_293 {x : Int32} (kk : MW (En l D t b L xs) ML_law d 301 lv (.int (bZ x) :: st) h mc ms Q) : MW (En l D t b L xs) ML_law d 293 lv (.int x :: st) h mc ms Q := by
  refine MW.if_eq 300 dL_law_293 (by decide) (fun hc => ?_) (fun hc => ?_)
  · refine MW.iconst (v := 0) dL_law_300 (by decide) ?_
    rw [show bZ x = 0 from if_pos hc] at kk
    exact kk
  · refine MW.iconst (v := 1) dL_law_296 (by decide) ?_
    refine MW.goto 301 dL_law_297 (by decide) ?_
    rw [show bZ x = 1 from if_neg hc] at kk
    exact kk
theorem jz_307 {x : Int32} (kk : MW (En l D t b L xs) ML_law d 315 lv (.int (bZ x) :: st) h mc ms Q) : MW (En l D t b L xs) ML_law d 307 lv (.int x :: st) h mc ms Q := by
  refine MW.if_eq 314 dL_law_307 (by decide) (fun hc => ?_) (fun hc => ?_)
  · refine MW.iconst (v := 0) dL_law_314 (by decide) ?_
    rw [show bZ x = 0 from if_pos hc] at kk
    exact kk
  · refine MW.iconst (v := 1) dL_law_310 (by decide) ?_
    refine MW.goto 315 dL_law_311 (by decide) ?_
    rw [show bZ x = 1 from if_neg hc] at kk
    exact kk
theorem jz_346 {x : Int32} (kk : MW (En l D t b L xs) ML_law d 354 lv (.int (bZ x) :: st) h mc ms Q) : MW (En l D t b L xs) ML_law d 346 lv (.int x :: st) h mc ms Q := by
  refine MW.if_eq 353 dL_law_346 (by decide) (fun hc => ?_) (fun hc => ?_)
  · refine MW.iconst (v := 0) dL_law_353 (by decide) ?_
    rw [show bZ x = 0 from if_pos hc] at kk
    exact kk
  · refine MW.iconst (v := 1) dL_law_349 (by decide) ?_
    refine MW.goto 354 dL_law_350 (by decide) ?_
    rw [show bZ x = 1 from if_neg hc] at kk
    exact kk
theorem jz_360 {x : Int32} (kk : MW (En l D t b L xs) ML_law d 368 lv (.int (bZ x) :: st) h mc ms Q) : MW (En l D t b L xs) ML_law d 360 lv (.int x :: st) h mc ms Q := by
  refine MW.if_eq 367 dL_law_360 (by decide) (fun hc => ?_) (fun hc => ?_)
  · refine MW.iconst (v := 0) dL_law_367 (by decide) ?_
    rw [show bZ x = 0 from if_pos hc] at kk
    exact kk
  · refine MW.iconst (v := 1) dL_law_363 (by decide) ?_
    refine MW.goto 368 dL_law_364 (by decide) ?_
    rw [show bZ x = 1 from if_neg hc] at kk
    exact kk
theorem jz_828 {x : Int32} (kk : MW (En l D t b L xs) ML_law d 836 lv (.int (bZ x) :: st) h mc ms Q) : MW (En l D t b L xs) ML_law d 828 lv (.int x :: st) h mc ms Q := by
  refine MW.if_eq 835 dL_law_828 (by decide) (fun hc => ?_) (fun hc => ?_)
  · refine MW.iconst (v := 0) dL_law_835 (by decide) ?_
    rw [show bZ x = 0 from if_pos hc] at kk
    exact kk
  · refine MW.iconst (v := 1) dL_law_831 (by decide) ?_
    refine MW.goto 836 dL_law_832 (by decide) ?_
    rw [show bZ x = 1 from if_neg hc] at kk
    exact kk
theorem jz_849 {x : Int32} (kk : MW (En l D t b L xs) ML_law d 857 lv (.int (bZ x) :: st) h mc ms Q) : MW (En l D t b L xs) ML_law d 849 lv (.int x :: st) h mc ms Q := by
  refine MW.if_eq 856 dL_law_849 (by decide) (fun hc => ?_) (fun hc => ?_)
  · refine MW.iconst (v := 0) dL_law_856 (by decide) ?_
    rw [show bZ x = 0 from if_pos hc] at kk
    exact kk
  · refine MW.iconst (v := 1) dL_law_852 (by decide) ?_
    refine MW.goto 857 dL_law_853 (by decide) ?_
    rw [show bZ x = 1 from if_neg hc] at kk
    exact kk
variable {p : Nat} {z5 z6 : Option Value} {i1 i2 : Nat → Int32} {a1 a2 : Nat → Nat → Int32} {w1 : Int64} {mc1 ms1 : Nat} {kk v : Int32}
set_option maxHeartbeats 2000000 in
theorem L_cell (hp : p + 5 < L) (hL : L < 2 ^ 31) (hc : MC (En l D t b L xs) ML_cell_ 21 [.ref (q 0), .int (xs (p + 1)), .int (xs (p + 2)), .int (bZ (xs (p + 3)))] (hw t q i a w) mc ms (rt (some (.int kk)) (hw t q i1 a1 w1) mc1 ms1)) (hm : MC (En l D t b L xs) MX6_cell 21 [.ref (q 18), .int (xs (p + 1)), .int (xs (p + 2)), .int (bZ (xs (p + 3)))] (hw t q i1 a1 w1) mc1 ms1 (rt none (hw t q i2 a2 w1) mc1 ms1)) (ht : i2 18 = kk) (hQ : ∀ z5 z6, MW (En l D t b L xs) ML_law 22 1156 [some (.ref b), some (.ref (q 0)), some (.ref (q 18)), some (.ref (q 29)), some (.int (nI p)), z5, z6] [] (hw t q i2 a2 w1) mc1 ms1 Q) : MW (En l D t b L xs) ML_law 22 132 [some (.ref b), some (.ref (q 0)), some (.ref (q 18)), some (.ref (q 29)), some (.int (nI p)), z5, z6] [] (hw t q i a w) mc ms Q := by
  refine MW.aload_n dL_law_132 rfl ?_
  refine MW.aload_n dL_law_133 rfl ?_
  refine MW.iload dL_law_134 rfl ?_
  refine MW.iconst (v := 1) dL_law_136 (by decide) ?_
  refine MW.iadd dL_law_137 ?_
  refine MW.top (v' := .int (nI (p + 1))) (by show Value.int (nI p + nI 1) = _; rw [nI_add]) ?_
  refine MW.sj dL_law_138 (by omega) hL ?_
  refine MW.aload_n dL_law_139 rfl ?_
  refine MW.iload dL_law_140 rfl ?_
  refine MW.iconst (v := 2) dL_law_142 (by decide) ?_
  refine MW.iadd dL_law_143 ?_
  refine MW.top (v' := .int (nI (p + 2))) (by show Value.int (nI p + nI 2) = _; rw [nI_add]) ?_
  refine MW.sj dL_law_144 (by omega) hL ?_
  refine MW.aload_n dL_law_145 rfl ?_
  refine MW.iload dL_law_146 rfl ?_
  refine MW.iconst (v := 3) dL_law_148 (by decide) ?_
  refine MW.iadd dL_law_149 ?_
  refine MW.top (v' := .int (nI (p + 3))) (by show Value.int (nI p + nI 3) = _; rw [nI_add]) ?_
  refine MW.sj dL_law_150 (by omega) hL ?_
  refine jz_151 ?_
  refine MW.callS1 fL_law_159 (hc) rfl rfl rfl rfl (Nat.le_of_ble_eq_true rfl) ?_
  refine MW.istore dL_law_162 rfl rfl ?_
  refine MW.aload_n dL_law_164 rfl ?_
  refine MW.aload_n dL_law_165 rfl ?_
  refine MW.iload dL_law_166 rfl ?_
  refine MW.iconst (v := 1) dL_law_168 (by decide) ?_
  refine MW.iadd dL_law_169 ?_
  refine MW.top (v' := .int (nI (p + 1))) (by show Value.int (nI p + nI 1) = _; rw [nI_add]) ?_
  refine MW.sj dL_law_170 (by omega) hL ?_
  refine MW.aload_n dL_law_171 rfl ?_
  refine MW.iload dL_law_172 rfl ?_
  refine MW.iconst (v := 2) dL_law_174 (by decide) ?_
  refine MW.iadd dL_law_175 ?_
  refine MW.top (v' := .int (nI (p + 2))) (by show Value.int (nI p + nI 2) = _; rw [nI_add]) ?_
  refine MW.sj dL_law_176 (by omega) hL ?_
  refine MW.aload_n dL_law_177 rfl ?_
  refine MW.iload dL_law_178 rfl ?_
  refine MW.iconst (v := 3) dL_law_180 (by decide) ?_
  refine MW.iadd dL_law_181 ?_
  refine MW.top (v' := .int (nI (p + 3))) (by show Value.int (nI p + nI 3) = _; rw [nI_add]) ?_
  refine MW.sj dL_law_182 (by omega) hL ?_
  refine jz_183 ?_
  refine MW.callV0 fL_law_191 18 rfl (hm) rfl rfl rfl rfl (Nat.le_of_ble_eq_true rfl) ?_
  refine MW.aload_n dL_law_194 rfl ?_
  refine MW.callV1 fL_law_195 18 rfl (m_thrown) rfl rfl rfl rfl (Nat.le_of_ble_eq_true rfl) ?_
  refine MW.iload dL_law_198 rfl ?_
  refine MW.icmp_eq 205 dL_law_200 (by decide) (fun hc200 => ?_) (fun hc200 => absurd ht hc200)
  refine MW.goto 1156 dL_law_205 (by decide) ?_
  exact hQ _ _
set_option maxHeartbeats 2000000 in
theorem L_axles (hp : p + 5 < L) (hL : L < 2 ^ 31) (hc : MC (En l D t b L xs) ML_axles 21 [.ref (q 0), .int (xs (p + 1)), .int (xs (p + 2)), .int (xs (p + 3)), .int (xs (p + 4))] (hw t q i a w) mc ms (rt (some (.int kk)) (hw t q i1 a1 w1) mc1 ms1)) (hm : MC (En l D t b L xs) MX6_axles 21 [.ref (q 18), .int (xs (p + 1)), .int (xs (p + 2)), .int (xs (p + 3)), .int (xs (p + 4))] (hw t q i1 a1 w1) mc1 ms1 (rt none (hw t q i2 a2 w1) mc1 ms1)) (ht : i2 18 = kk) (hQ : ∀ z5 z6, MW (En l D t b L xs) ML_law 22 1156 [some (.ref b), some (.ref (q 0)), some (.ref (q 18)), some (.ref (q 29)), some (.int (nI p)), z5, z6] [] (hw t q i2 a2 w1) mc1 ms1 Q) : MW (En l D t b L xs) ML_law 22 208 [some (.ref b), some (.ref (q 0)), some (.ref (q 18)), some (.ref (q 29)), some (.int (nI p)), z5, z6] [] (hw t q i a w) mc ms Q := by
  refine MW.aload_n dL_law_208 rfl ?_
  refine MW.aload_n dL_law_209 rfl ?_
  refine MW.iload dL_law_210 rfl ?_
  refine MW.iconst (v := 1) dL_law_212 (by decide) ?_
  refine MW.iadd dL_law_213 ?_
  refine MW.top (v' := .int (nI (p + 1))) (by show Value.int (nI p + nI 1) = _; rw [nI_add]) ?_
  refine MW.sj dL_law_214 (by omega) hL ?_
  refine MW.aload_n dL_law_215 rfl ?_
  refine MW.iload dL_law_216 rfl ?_
  refine MW.iconst (v := 2) dL_law_218 (by decide) ?_
  refine MW.iadd dL_law_219 ?_
  refine MW.top (v' := .int (nI (p + 2))) (by show Value.int (nI p + nI 2) = _; rw [nI_add]) ?_
  refine MW.sj dL_law_220 (by omega) hL ?_
  refine MW.aload_n dL_law_221 rfl ?_
  refine MW.iload dL_law_222 rfl ?_
  refine MW.iconst (v := 3) dL_law_224 (by decide) ?_
  refine MW.iadd dL_law_225 ?_
  refine MW.top (v' := .int (nI (p + 3))) (by show Value.int (nI p + nI 3) = _; rw [nI_add]) ?_
  refine MW.sj dL_law_226 (by omega) hL ?_
  refine MW.aload_n dL_law_227 rfl ?_
  refine MW.iload dL_law_228 rfl ?_
  refine MW.iconst (v := 4) dL_law_230 (by decide) ?_
  refine MW.iadd dL_law_231 ?_
  refine MW.top (v' := .int (nI (p + 4))) (by show Value.int (nI p + nI 4) = _; rw [nI_add]) ?_
  refine MW.sj dL_law_232 (by omega) hL ?_
  refine MW.callS1 fL_law_233 (hc) rfl rfl rfl rfl (Nat.le_of_ble_eq_true rfl) ?_
  refine MW.istore dL_law_236 rfl rfl ?_
  refine MW.aload_n dL_law_238 rfl ?_
  refine MW.aload_n dL_law_239 rfl ?_
  refine MW.iload dL_law_240 rfl ?_
  refine MW.iconst (v := 1) dL_law_242 (by decide) ?_
  refine MW.iadd dL_law_243 ?_
  refine MW.top (v' := .int (nI (p + 1))) (by show Value.int (nI p + nI 1) = _; rw [nI_add]) ?_
  refine MW.sj dL_law_244 (by omega) hL ?_
  refine MW.aload_n dL_law_245 rfl ?_
  refine MW.iload dL_law_246 rfl ?_
  refine MW.iconst (v := 2) dL_law_248 (by decide) ?_
  refine MW.iadd dL_law_249 ?_
  refine MW.top (v' := .int (nI (p + 2))) (by show Value.int (nI p + nI 2) = _; rw [nI_add]) ?_
  refine MW.sj dL_law_250 (by omega) hL ?_
  refine MW.aload_n dL_law_251 rfl ?_
  refine MW.iload dL_law_252 rfl ?_
  refine MW.iconst (v := 3) dL_law_254 (by decide) ?_
  refine MW.iadd dL_law_255 ?_
  refine MW.top (v' := .int (nI (p + 3))) (by show Value.int (nI p + nI 3) = _; rw [nI_add]) ?_
  refine MW.sj dL_law_256 (by omega) hL ?_
  refine MW.aload_n dL_law_257 rfl ?_
  refine MW.iload dL_law_258 rfl ?_
  refine MW.iconst (v := 4) dL_law_260 (by decide) ?_
  refine MW.iadd dL_law_261 ?_
  refine MW.top (v' := .int (nI (p + 4))) (by show Value.int (nI p + nI 4) = _; rw [nI_add]) ?_
  refine MW.sj dL_law_262 (by omega) hL ?_
  refine MW.callV0 fL_law_263 18 rfl (hm) rfl rfl rfl rfl (Nat.le_of_ble_eq_true rfl) ?_
  refine MW.aload_n dL_law_266 rfl ?_
  refine MW.callV1 fL_law_267 18 rfl (m_thrown) rfl rfl rfl rfl (Nat.le_of_ble_eq_true rfl) ?_
  refine MW.iload dL_law_270 rfl ?_
  refine MW.icmp_eq 277 dL_law_272 (by decide) (fun hc272 => ?_) (fun hc272 => absurd ht hc272)
  refine MW.goto 1156 dL_law_277 (by decide) ?_
  exact hQ _ _
set_option maxHeartbeats 2000000 in
theorem L_pallet (hp : p + 5 < L) (hL : L < 2 ^ 31) (hc : MC (En l D t b L xs) ML_pallet 21 [.ref (q 0), .int (xs (p + 1)), .int (bZ (xs (p + 2))), .int (bZ (xs (p + 3))), .int (xs (p + 4)), .int (xs (p + 5)), .ref (q 29)] (hw t q i a w) mc ms (rt (some (.int kk)) (hw t q i1 a1 w1) mc1 ms1)) (hm : MC (En l D t b L xs) MX6_pallet 21 [.ref (q 18), .int (xs (p + 1)), .int (bZ (xs (p + 2))), .int (bZ (xs (p + 3))), .int (xs (p + 4)), .int (xs (p + 5))] (hw t q i1 a1 w1) mc1 ms1 (rt (some (.int v)) (hw t q i2 a2 w1) mc1 ms1)) (ht : i2 18 = kk) (hv : kk = 0 → w1 = v.toInt64) (hQ : ∀ z5 z6, MW (En l D t b L xs) ML_law 22 1156 [some (.ref b), some (.ref (q 0)), some (.ref (q 18)), some (.ref (q 29)), some (.int (nI p)), z5, z6] [] (hw t q i2 a2 w1) mc1 ms1 Q) : MW (En l D t b L xs) ML_law 22 280 [some (.ref b), some (.ref (q 0)), some (.ref (q 18)), some (.ref (q 29)), some (.int (nI p)), z5, z6] [] (hw t q i a w) mc ms Q := by
  refine MW.aload_n dL_law_280 rfl ?_
  refine MW.aload_n dL_law_281 rfl ?_
  refine MW.iload dL_law_282 rfl ?_
  refine MW.iconst (v := 1) dL_law_284 (by decide) ?_
  refine MW.iadd dL_law_285 ?_
  refine MW.top (v' := .int (nI (p + 1))) (by show Value.int (nI p + nI 1) = _; rw [nI_add]) ?_
  refine MW.sj dL_law_286 (by omega) hL ?_
  refine MW.aload_n dL_law_287 rfl ?_
  refine MW.iload dL_law_288 rfl ?_
  refine MW.iconst (v := 2) dL_law_290 (by decide) ?_
  refine MW.iadd dL_law_291 ?_
  refine MW.top (v' := .int (nI (p + 2))) (by show Value.int (nI p + nI 2) = _; rw [nI_add]) ?_
  refine MW.sj dL_law_292 (by omega) hL ?_
  refine jz_293 ?_
  refine MW.aload_n dL_law_301 rfl ?_
  refine MW.iload dL_law_302 rfl ?_
  refine MW.iconst (v := 3) dL_law_304 (by decide) ?_
  refine MW.iadd dL_law_305 ?_
  refine MW.top (v' := .int (nI (p + 3))) (by show Value.int (nI p + nI 3) = _; rw [nI_add]) ?_
  refine MW.sj dL_law_306 (by omega) hL ?_
  refine jz_307 ?_
  refine MW.aload_n dL_law_315 rfl ?_
  refine MW.iload dL_law_316 rfl ?_
  refine MW.iconst (v := 4) dL_law_318 (by decide) ?_
  refine MW.iadd dL_law_319 ?_
  refine MW.top (v' := .int (nI (p + 4))) (by show Value.int (nI p + nI 4) = _; rw [nI_add]) ?_
  refine MW.sj dL_law_320 (by omega) hL ?_
  refine MW.aload_n dL_law_321 rfl ?_
  refine MW.iload dL_law_322 rfl ?_
  refine MW.iconst (v := 5) dL_law_324 (by decide) ?_
  refine MW.iadd dL_law_325 ?_
  refine MW.top (v' := .int (nI (p + 5))) (by show Value.int (nI p + nI 5) = _; rw [nI_add]) ?_
  refine MW.sj dL_law_326 (by omega) hL ?_
  refine MW.aload_n dL_law_327 rfl ?_
  refine MW.callS1 fL_law_328 (hc) rfl rfl rfl rfl (Nat.le_of_ble_eq_true rfl) ?_
  refine MW.istore dL_law_331 rfl rfl ?_
  refine MW.aload_n dL_law_333 rfl ?_
  refine MW.aload_n dL_law_334 rfl ?_
  refine MW.iload dL_law_335 rfl ?_
  refine MW.iconst (v := 1) dL_law_337 (by decide) ?_
  refine MW.iadd dL_law_338 ?_
  refine MW.top (v' := .int (nI (p + 1))) (by show Value.int (nI p + nI 1) = _; rw [nI_add]) ?_
  refine MW.sj dL_law_339 (by omega) hL ?_
  refine MW.aload_n dL_law_340 rfl ?_
  refine MW.iload dL_law_341 rfl ?_
  refine MW.iconst (v := 2) dL_law_343 (by decide) ?_
  refine MW.iadd dL_law_344 ?_
  refine MW.top (v' := .int (nI (p + 2))) (by show Value.int (nI p + nI 2) = _; rw [nI_add]) ?_
  refine MW.sj dL_law_345 (by omega) hL ?_
  refine jz_346 ?_
  refine MW.aload_n dL_law_354 rfl ?_
  refine MW.iload dL_law_355 rfl ?_
  refine MW.iconst (v := 3) dL_law_357 (by decide) ?_
  refine MW.iadd dL_law_358 ?_
  refine MW.top (v' := .int (nI (p + 3))) (by show Value.int (nI p + nI 3) = _; rw [nI_add]) ?_
  refine MW.sj dL_law_359 (by omega) hL ?_
  refine jz_360 ?_
  refine MW.aload_n dL_law_368 rfl ?_
  refine MW.iload dL_law_369 rfl ?_
  refine MW.iconst (v := 4) dL_law_371 (by decide) ?_
  refine MW.iadd dL_law_372 ?_
  refine MW.top (v' := .int (nI (p + 4))) (by show Value.int (nI p + nI 4) = _; rw [nI_add]) ?_
  refine MW.sj dL_law_373 (by omega) hL ?_
  refine MW.aload_n dL_law_374 rfl ?_
  refine MW.iload dL_law_375 rfl ?_
  refine MW.iconst (v := 5) dL_law_377 (by decide) ?_
  refine MW.iadd dL_law_378 ?_
  refine MW.top (v' := .int (nI (p + 5))) (by show Value.int (nI p + nI 5) = _; rw [nI_add]) ?_
  refine MW.sj dL_law_379 (by omega) hL ?_
  refine MW.callV1 fL_law_380 18 rfl (hm) rfl rfl rfl rfl (Nat.le_of_ble_eq_true rfl) ?_
  refine MW.istore dL_law_383 rfl rfl ?_
  refine MW.aload_n dL_law_385 rfl ?_
  refine MW.callV1 fL_law_386 18 rfl (m_thrown) rfl rfl rfl rfl (Nat.le_of_ble_eq_true rfl) ?_
  refine MW.iload dL_law_389 rfl ?_
  refine MW.icmp_eq 396 dL_law_391 (by decide) (fun hc391 => ?_) (fun hc391 => absurd ht hc391)
  refine MW.iload dL_law_396 rfl ?_
  refine MW.if_ne 413 dL_law_398 (by decide) (fun hc398 => ?_) (fun hc398 => ?_)
  · skip
    refine MW.goto 1156 dL_law_413 (by decide) ?_
    exact hQ _ _
  · skip
    refine MW.aload_n dL_law_401 rfl ?_
    refine MW.iconst (v := 0) dL_law_402 (by decide) ?_
    refine MW.lo dL_law_403 ?_
    refine MW.iload dL_law_404 rfl ?_
    refine MW.i2l dL_law_406 ?_
    refine MW.lcmp dL_law_407 ?_
    refine MW.if_eq 413 dL_law_408 (by decide) (fun hc408 => ?_) (fun hc408 => absurd (show lg_cmp w1 v.toInt64 = 0 by rw [hv hc398]; exact cmp_0 _) hc408)
    refine MW.goto 1156 dL_law_413 (by decide) ?_
    exact hQ _ _
set_option maxHeartbeats 2000000 in
theorem L_solve (hp : p + 5 < L) (hL : L < 2 ^ 31) (hc : MC (En l D t b L xs) ML_solve 21 [.ref (q 0), .int (xs (p + 1)), .ref (q 29)] (hw t q i a w) mc ms (rt (some (.int kk)) (hw t q i1 a1 w1) mc1 ms1)) (hm : MC (En l D t b L xs) MX6_solve 21 [.ref (q 18), .int (xs (p + 1))] (hw t q i1 a1 w1) mc1 ms1 (rt (some (.int v)) (hw t q i2 a2 w1) mc1 ms1)) (ht : i2 18 = kk) (hv : kk = 0 → w1 = v.toInt64) (hQ : ∀ z5 z6, MW (En l D t b L xs) ML_law 22 1156 [some (.ref b), some (.ref (q 0)), some (.ref (q 18)), some (.ref (q 29)), some (.int (nI p)), z5, z6] [] (hw t q i2 a2 w1) mc1 ms1 Q) : MW (En l D t b L xs) ML_law 22 416 [some (.ref b), some (.ref (q 0)), some (.ref (q 18)), some (.ref (q 29)), some (.int (nI p)), z5, z6] [] (hw t q i a w) mc ms Q := by
  refine MW.aload_n dL_law_416 rfl ?_
  refine MW.aload_n dL_law_417 rfl ?_
  refine MW.iload dL_law_418 rfl ?_
  refine MW.iconst (v := 1) dL_law_420 (by decide) ?_
  refine MW.iadd dL_law_421 ?_
  refine MW.top (v' := .int (nI (p + 1))) (by show Value.int (nI p + nI 1) = _; rw [nI_add]) ?_
  refine MW.sj dL_law_422 (by omega) hL ?_
  refine MW.aload_n dL_law_423 rfl ?_
  refine MW.callS1 fL_law_424 (hc) rfl rfl rfl rfl (Nat.le_of_ble_eq_true rfl) ?_
  refine MW.istore dL_law_427 rfl rfl ?_
  refine MW.aload_n dL_law_429 rfl ?_
  refine MW.aload_n dL_law_430 rfl ?_
  refine MW.iload dL_law_431 rfl ?_
  refine MW.iconst (v := 1) dL_law_433 (by decide) ?_
  refine MW.iadd dL_law_434 ?_
  refine MW.top (v' := .int (nI (p + 1))) (by show Value.int (nI p + nI 1) = _; rw [nI_add]) ?_
  refine MW.sj dL_law_435 (by omega) hL ?_
  refine MW.callV1 fL_law_436 18 rfl (hm) rfl rfl rfl rfl (Nat.le_of_ble_eq_true rfl) ?_
  refine MW.istore dL_law_439 rfl rfl ?_
  refine MW.aload_n dL_law_441 rfl ?_
  refine MW.callV1 fL_law_442 18 rfl (m_thrown) rfl rfl rfl rfl (Nat.le_of_ble_eq_true rfl) ?_
  refine MW.iload dL_law_445 rfl ?_
  refine MW.icmp_eq 452 dL_law_447 (by decide) (fun hc447 => ?_) (fun hc447 => absurd ht hc447)
  refine MW.iload dL_law_452 rfl ?_
  refine MW.if_ne 469 dL_law_454 (by decide) (fun hc454 => ?_) (fun hc454 => ?_)
  · skip
    refine MW.goto 1156 dL_law_469 (by decide) ?_
    exact hQ _ _
  · skip
    refine MW.aload_n dL_law_457 rfl ?_
    refine MW.iconst (v := 0) dL_law_458 (by decide) ?_
    refine MW.lo dL_law_459 ?_
    refine MW.iload dL_law_460 rfl ?_
    refine MW.i2l dL_law_462 ?_
    refine MW.lcmp dL_law_463 ?_
    refine MW.if_eq 469 dL_law_464 (by decide) (fun hc464 => ?_) (fun hc464 => absurd (show lg_cmp w1 v.toInt64 = 0 by rw [hv hc454]; exact cmp_0 _) hc464)
    refine MW.goto 1156 dL_law_469 (by decide) ?_
    exact hQ _ _
set_option maxHeartbeats 2000000 in
theorem L_place (hp : p + 5 < L) (hL : L < 2 ^ 31) (hc : MC (En l D t b L xs) ML_place 21 [.ref (q 0), .int (xs (p + 1)), .int (xs (p + 2)), .ref (q 29)] (hw t q i a w) mc ms (rt (some (.int kk)) (hw t q i1 a1 w1) mc1 ms1)) (hm : MC (En l D t b L xs) MX6_place 21 [.ref (q 18), .int (xs (p + 1)), .int (xs (p + 2))] (hw t q i1 a1 w1) mc1 ms1 (rt (some (.int v)) (hw t q i2 a2 w1) mc1 ms1)) (ht : i2 18 = kk) (hv : kk = 0 → w1 = v.toInt64) (hQ : ∀ z5 z6, MW (En l D t b L xs) ML_law 22 1156 [some (.ref b), some (.ref (q 0)), some (.ref (q 18)), some (.ref (q 29)), some (.int (nI p)), z5, z6] [] (hw t q i2 a2 w1) mc1 ms1 Q) : MW (En l D t b L xs) ML_law 22 498 [some (.ref b), some (.ref (q 0)), some (.ref (q 18)), some (.ref (q 29)), some (.int (nI p)), z5, z6] [] (hw t q i a w) mc ms Q := by
  refine MW.aload_n dL_law_498 rfl ?_
  refine MW.aload_n dL_law_499 rfl ?_
  refine MW.iload dL_law_500 rfl ?_
  refine MW.iconst (v := 1) dL_law_502 (by decide) ?_
  refine MW.iadd dL_law_503 ?_
  refine MW.top (v' := .int (nI (p + 1))) (by show Value.int (nI p + nI 1) = _; rw [nI_add]) ?_
  refine MW.sj dL_law_504 (by omega) hL ?_
  refine MW.aload_n dL_law_505 rfl ?_
  refine MW.iload dL_law_506 rfl ?_
  refine MW.iconst (v := 2) dL_law_508 (by decide) ?_
  refine MW.iadd dL_law_509 ?_
  refine MW.top (v' := .int (nI (p + 2))) (by show Value.int (nI p + nI 2) = _; rw [nI_add]) ?_
  refine MW.sj dL_law_510 (by omega) hL ?_
  refine MW.aload_n dL_law_511 rfl ?_
  refine MW.callS1 fL_law_512 (hc) rfl rfl rfl rfl (Nat.le_of_ble_eq_true rfl) ?_
  refine MW.istore dL_law_515 rfl rfl ?_
  refine MW.aload_n dL_law_517 rfl ?_
  refine MW.aload_n dL_law_518 rfl ?_
  refine MW.iload dL_law_519 rfl ?_
  refine MW.iconst (v := 1) dL_law_521 (by decide) ?_
  refine MW.iadd dL_law_522 ?_
  refine MW.top (v' := .int (nI (p + 1))) (by show Value.int (nI p + nI 1) = _; rw [nI_add]) ?_
  refine MW.sj dL_law_523 (by omega) hL ?_
  refine MW.aload_n dL_law_524 rfl ?_
  refine MW.iload dL_law_525 rfl ?_
  refine MW.iconst (v := 2) dL_law_527 (by decide) ?_
  refine MW.iadd dL_law_528 ?_
  refine MW.top (v' := .int (nI (p + 2))) (by show Value.int (nI p + nI 2) = _; rw [nI_add]) ?_
  refine MW.sj dL_law_529 (by omega) hL ?_
  refine MW.callV1 fL_law_530 18 rfl (hm) rfl rfl rfl rfl (Nat.le_of_ble_eq_true rfl) ?_
  refine MW.istore dL_law_533 rfl rfl ?_
  refine MW.aload_n dL_law_535 rfl ?_
  refine MW.callV1 fL_law_536 18 rfl (m_thrown) rfl rfl rfl rfl (Nat.le_of_ble_eq_true rfl) ?_
  refine MW.iload dL_law_539 rfl ?_
  refine MW.icmp_eq 546 dL_law_541 (by decide) (fun hc541 => ?_) (fun hc541 => absurd ht hc541)
  refine MW.iload dL_law_546 rfl ?_
  refine MW.if_ne 563 dL_law_548 (by decide) (fun hc548 => ?_) (fun hc548 => ?_)
  · skip
    refine MW.goto 1156 dL_law_563 (by decide) ?_
    exact hQ _ _
  · skip
    refine MW.aload_n dL_law_551 rfl ?_
    refine MW.iconst (v := 0) dL_law_552 (by decide) ?_
    refine MW.lo dL_law_553 ?_
    refine MW.iload dL_law_554 rfl ?_
    refine MW.i2l dL_law_556 ?_
    refine MW.lcmp dL_law_557 ?_
    refine MW.if_eq 563 dL_law_558 (by decide) (fun hc558 => ?_) (fun hc558 => absurd (show lg_cmp w1 v.toInt64 = 0 by rw [hv hc548]; exact cmp_0 _) hc558)
    refine MW.goto 1156 dL_law_563 (by decide) ?_
    exact hQ _ _
set_option maxHeartbeats 2000000 in
theorem L_at (hp : p + 5 < L) (hL : L < 2 ^ 31) (hc : MC (En l D t b L xs) ML_at 21 [.ref (q 0), .int (xs (p + 1)), .ref (q 29)] (hw t q i a w) mc ms (rt (some (.int kk)) (hw t q i1 a1 w1) mc1 ms1)) (hm : MC (En l D t b L xs) MX6_at 21 [.ref (q 18), .int (xs (p + 1))] (hw t q i1 a1 w1) mc1 ms1 (rt (some (.int v)) (hw t q i2 a2 w1) mc1 ms1)) (ht : i2 18 = kk) (hv : kk = 0 → w1 = v.toInt64) (hQ : ∀ z5 z6, MW (En l D t b L xs) ML_law 22 1156 [some (.ref b), some (.ref (q 0)), some (.ref (q 18)), some (.ref (q 29)), some (.int (nI p)), z5, z6] [] (hw t q i2 a2 w1) mc1 ms1 Q) : MW (En l D t b L xs) ML_law 22 566 [some (.ref b), some (.ref (q 0)), some (.ref (q 18)), some (.ref (q 29)), some (.int (nI p)), z5, z6] [] (hw t q i a w) mc ms Q := by
  refine MW.aload_n dL_law_566 rfl ?_
  refine MW.aload_n dL_law_567 rfl ?_
  refine MW.iload dL_law_568 rfl ?_
  refine MW.iconst (v := 1) dL_law_570 (by decide) ?_
  refine MW.iadd dL_law_571 ?_
  refine MW.top (v' := .int (nI (p + 1))) (by show Value.int (nI p + nI 1) = _; rw [nI_add]) ?_
  refine MW.sj dL_law_572 (by omega) hL ?_
  refine MW.aload_n dL_law_573 rfl ?_
  refine MW.callS1 fL_law_574 (hc) rfl rfl rfl rfl (Nat.le_of_ble_eq_true rfl) ?_
  refine MW.istore dL_law_577 rfl rfl ?_
  refine MW.aload_n dL_law_579 rfl ?_
  refine MW.aload_n dL_law_580 rfl ?_
  refine MW.iload dL_law_581 rfl ?_
  refine MW.iconst (v := 1) dL_law_583 (by decide) ?_
  refine MW.iadd dL_law_584 ?_
  refine MW.top (v' := .int (nI (p + 1))) (by show Value.int (nI p + nI 1) = _; rw [nI_add]) ?_
  refine MW.sj dL_law_585 (by omega) hL ?_
  refine MW.callV1 fL_law_586 18 rfl (hm) rfl rfl rfl rfl (Nat.le_of_ble_eq_true rfl) ?_
  refine MW.istore dL_law_589 rfl rfl ?_
  refine MW.aload_n dL_law_591 rfl ?_
  refine MW.callV1 fL_law_592 18 rfl (m_thrown) rfl rfl rfl rfl (Nat.le_of_ble_eq_true rfl) ?_
  refine MW.iload dL_law_595 rfl ?_
  refine MW.icmp_eq 602 dL_law_597 (by decide) (fun hc597 => ?_) (fun hc597 => absurd ht hc597)
  refine MW.iload dL_law_602 rfl ?_
  refine MW.if_ne 619 dL_law_604 (by decide) (fun hc604 => ?_) (fun hc604 => ?_)
  · skip
    refine MW.goto 1156 dL_law_619 (by decide) ?_
    exact hQ _ _
  · skip
    refine MW.aload_n dL_law_607 rfl ?_
    refine MW.iconst (v := 0) dL_law_608 (by decide) ?_
    refine MW.lo dL_law_609 ?_
    refine MW.iload dL_law_610 rfl ?_
    refine MW.i2l dL_law_612 ?_
    refine MW.lcmp dL_law_613 ?_
    refine MW.if_eq 619 dL_law_614 (by decide) (fun hc614 => ?_) (fun hc614 => absurd (show lg_cmp w1 v.toInt64 = 0 by rw [hv hc604]; exact cmp_0 _) hc614)
    refine MW.goto 1156 dL_law_619 (by decide) ?_
    exact hQ _ _
set_option maxHeartbeats 2000000 in
theorem L_axle (hp : p + 5 < L) (hL : L < 2 ^ 31) (hc : MC (En l D t b L xs) ML_axle 21 [.ref (q 0), .int (xs (p + 1)), .int (xs (p + 2)), .ref (q 29)] (hw t q i a w) mc ms (rt (some (.int kk)) (hw t q i1 a1 w1) mc1 ms1)) (hm : MC (En l D t b L xs) MX6_axle 21 [.ref (q 18), .int (xs (p + 1)), .int (xs (p + 2))] (hw t q i1 a1 w1) mc1 ms1 (rt (some (.int v)) (hw t q i2 a2 w1) mc1 ms1)) (ht : i2 18 = kk) (hv : kk = 0 → w1 = v.toInt64) (hQ : ∀ z5 z6, MW (En l D t b L xs) ML_law 22 1156 [some (.ref b), some (.ref (q 0)), some (.ref (q 18)), some (.ref (q 29)), some (.int (nI p)), z5, z6] [] (hw t q i2 a2 w1) mc1 ms1 Q) : MW (En l D t b L xs) ML_law 22 622 [some (.ref b), some (.ref (q 0)), some (.ref (q 18)), some (.ref (q 29)), some (.int (nI p)), z5, z6] [] (hw t q i a w) mc ms Q := by
  refine MW.aload_n dL_law_622 rfl ?_
  refine MW.aload_n dL_law_623 rfl ?_
  refine MW.iload dL_law_624 rfl ?_
  refine MW.iconst (v := 1) dL_law_626 (by decide) ?_
  refine MW.iadd dL_law_627 ?_
  refine MW.top (v' := .int (nI (p + 1))) (by show Value.int (nI p + nI 1) = _; rw [nI_add]) ?_
  refine MW.sj dL_law_628 (by omega) hL ?_
  refine MW.aload_n dL_law_629 rfl ?_
  refine MW.iload dL_law_630 rfl ?_
  refine MW.iconst (v := 2) dL_law_632 (by decide) ?_
  refine MW.iadd dL_law_633 ?_
  refine MW.top (v' := .int (nI (p + 2))) (by show Value.int (nI p + nI 2) = _; rw [nI_add]) ?_
  refine MW.sj dL_law_634 (by omega) hL ?_
  refine MW.aload_n dL_law_635 rfl ?_
  refine MW.callS1 fL_law_636 (hc) rfl rfl rfl rfl (Nat.le_of_ble_eq_true rfl) ?_
  refine MW.istore dL_law_639 rfl rfl ?_
  refine MW.aload_n dL_law_641 rfl ?_
  refine MW.aload_n dL_law_642 rfl ?_
  refine MW.iload dL_law_643 rfl ?_
  refine MW.iconst (v := 1) dL_law_645 (by decide) ?_
  refine MW.iadd dL_law_646 ?_
  refine MW.top (v' := .int (nI (p + 1))) (by show Value.int (nI p + nI 1) = _; rw [nI_add]) ?_
  refine MW.sj dL_law_647 (by omega) hL ?_
  refine MW.aload_n dL_law_648 rfl ?_
  refine MW.iload dL_law_649 rfl ?_
  refine MW.iconst (v := 2) dL_law_651 (by decide) ?_
  refine MW.iadd dL_law_652 ?_
  refine MW.top (v' := .int (nI (p + 2))) (by show Value.int (nI p + nI 2) = _; rw [nI_add]) ?_
  refine MW.sj dL_law_653 (by omega) hL ?_
  refine MW.callV1 fL_law_654 18 rfl (hm) rfl rfl rfl rfl (Nat.le_of_ble_eq_true rfl) ?_
  refine MW.istore dL_law_657 rfl rfl ?_
  refine MW.aload_n dL_law_659 rfl ?_
  refine MW.callV1 fL_law_660 18 rfl (m_thrown) rfl rfl rfl rfl (Nat.le_of_ble_eq_true rfl) ?_
  refine MW.iload dL_law_663 rfl ?_
  refine MW.icmp_eq 670 dL_law_665 (by decide) (fun hc665 => ?_) (fun hc665 => absurd ht hc665)
  refine MW.iload dL_law_670 rfl ?_
  refine MW.if_ne 687 dL_law_672 (by decide) (fun hc672 => ?_) (fun hc672 => ?_)
  · skip
    refine MW.goto 1156 dL_law_687 (by decide) ?_
    exact hQ _ _
  · skip
    refine MW.aload_n dL_law_675 rfl ?_
    refine MW.iconst (v := 0) dL_law_676 (by decide) ?_
    refine MW.lo dL_law_677 ?_
    refine MW.iload dL_law_678 rfl ?_
    refine MW.i2l dL_law_680 ?_
    refine MW.lcmp dL_law_681 ?_
    refine MW.if_eq 687 dL_law_682 (by decide) (fun hc682 => ?_) (fun hc682 => absurd (show lg_cmp w1 v.toInt64 = 0 by rw [hv hc672]; exact cmp_0 _) hc682)
    refine MW.goto 1156 dL_law_687 (by decide) ?_
    exact hQ _ _
set_option maxHeartbeats 2000000 in
theorem L_bar (hp : p + 5 < L) (hL : L < 2 ^ 31) (hc : MC (En l D t b L xs) ML_bar 21 [.ref (q 0), .int (xs (p + 1)), .ref (q 29)] (hw t q i a w) mc ms (rt (some (.int kk)) (hw t q i1 a1 w1) mc1 ms1)) (hm : MC (En l D t b L xs) MX6_bar 21 [.ref (q 18), .int (xs (p + 1))] (hw t q i1 a1 w1) mc1 ms1 (rt (some (.int v)) (hw t q i2 a2 w1) mc1 ms1)) (ht : i2 18 = kk) (hv : kk = 0 → w1 = v.toInt64) (hQ : ∀ z5 z6, MW (En l D t b L xs) ML_law 22 1156 [some (.ref b), some (.ref (q 0)), some (.ref (q 18)), some (.ref (q 29)), some (.int (nI p)), z5, z6] [] (hw t q i2 a2 w1) mc1 ms1 Q) : MW (En l D t b L xs) ML_law 22 690 [some (.ref b), some (.ref (q 0)), some (.ref (q 18)), some (.ref (q 29)), some (.int (nI p)), z5, z6] [] (hw t q i a w) mc ms Q := by
  refine MW.aload_n dL_law_690 rfl ?_
  refine MW.aload_n dL_law_691 rfl ?_
  refine MW.iload dL_law_692 rfl ?_
  refine MW.iconst (v := 1) dL_law_694 (by decide) ?_
  refine MW.iadd dL_law_695 ?_
  refine MW.top (v' := .int (nI (p + 1))) (by show Value.int (nI p + nI 1) = _; rw [nI_add]) ?_
  refine MW.sj dL_law_696 (by omega) hL ?_
  refine MW.aload_n dL_law_697 rfl ?_
  refine MW.callS1 fL_law_698 (hc) rfl rfl rfl rfl (Nat.le_of_ble_eq_true rfl) ?_
  refine MW.istore dL_law_701 rfl rfl ?_
  refine MW.aload_n dL_law_703 rfl ?_
  refine MW.aload_n dL_law_704 rfl ?_
  refine MW.iload dL_law_705 rfl ?_
  refine MW.iconst (v := 1) dL_law_707 (by decide) ?_
  refine MW.iadd dL_law_708 ?_
  refine MW.top (v' := .int (nI (p + 1))) (by show Value.int (nI p + nI 1) = _; rw [nI_add]) ?_
  refine MW.sj dL_law_709 (by omega) hL ?_
  refine MW.callV1 fL_law_710 18 rfl (hm) rfl rfl rfl rfl (Nat.le_of_ble_eq_true rfl) ?_
  refine MW.istore dL_law_713 rfl rfl ?_
  refine MW.aload_n dL_law_715 rfl ?_
  refine MW.callV1 fL_law_716 18 rfl (m_thrown) rfl rfl rfl rfl (Nat.le_of_ble_eq_true rfl) ?_
  refine MW.iload dL_law_719 rfl ?_
  refine MW.icmp_eq 726 dL_law_721 (by decide) (fun hc721 => ?_) (fun hc721 => absurd ht hc721)
  refine MW.iload dL_law_726 rfl ?_
  refine MW.if_ne 743 dL_law_728 (by decide) (fun hc728 => ?_) (fun hc728 => ?_)
  · skip
    refine MW.goto 1156 dL_law_743 (by decide) ?_
    exact hQ _ _
  · skip
    refine MW.aload_n dL_law_731 rfl ?_
    refine MW.iconst (v := 0) dL_law_732 (by decide) ?_
    refine MW.lo dL_law_733 ?_
    refine MW.iload dL_law_734 rfl ?_
    refine MW.i2l dL_law_736 ?_
    refine MW.lcmp dL_law_737 ?_
    refine MW.if_eq 743 dL_law_738 (by decide) (fun hc738 => ?_) (fun hc738 => absurd (show lg_cmp w1 v.toInt64 = 0 by rw [hv hc728]; exact cmp_0 _) hc738)
    refine MW.goto 1156 dL_law_743 (by decide) ?_
    exact hQ _ _
set_option maxHeartbeats 2000000 in
theorem L_change (hp : p + 5 < L) (hL : L < 2 ^ 31) (hc : MC (En l D t b L xs) ML_change 21 [.ref (q 0), .int (xs (p + 1)), .int (xs (p + 2)), .ref (q 29)] (hw t q i a w) mc ms (rt (some (.int kk)) (hw t q i1 a1 w1) mc1 ms1)) (hm : MC (En l D t b L xs) MX6_change 21 [.ref (q 18), .int (xs (p + 1)), .int (xs (p + 2))] (hw t q i1 a1 w1) mc1 ms1 (rt (some (.int v)) (hw t q i2 a2 w1) mc1 ms1)) (ht : i2 18 = kk) (hv : kk = 0 → w1 = bL v) (hQ : ∀ z5 z6, MW (En l D t b L xs) ML_law 22 1156 [some (.ref b), some (.ref (q 0)), some (.ref (q 18)), some (.ref (q 29)), some (.int (nI p)), z5, z6] [] (hw t q i2 a2 w1) mc1 ms1 Q) : MW (En l D t b L xs) ML_law 22 746 [some (.ref b), some (.ref (q 0)), some (.ref (q 18)), some (.ref (q 29)), some (.int (nI p)), z5, z6] [] (hw t q i a w) mc ms Q := by
  refine MW.aload_n dL_law_746 rfl ?_
  refine MW.aload_n dL_law_747 rfl ?_
  refine MW.iload dL_law_748 rfl ?_
  refine MW.iconst (v := 1) dL_law_750 (by decide) ?_
  refine MW.iadd dL_law_751 ?_
  refine MW.top (v' := .int (nI (p + 1))) (by show Value.int (nI p + nI 1) = _; rw [nI_add]) ?_
  refine MW.sj dL_law_752 (by omega) hL ?_
  refine MW.aload_n dL_law_753 rfl ?_
  refine MW.iload dL_law_754 rfl ?_
  refine MW.iconst (v := 2) dL_law_756 (by decide) ?_
  refine MW.iadd dL_law_757 ?_
  refine MW.top (v' := .int (nI (p + 2))) (by show Value.int (nI p + nI 2) = _; rw [nI_add]) ?_
  refine MW.sj dL_law_758 (by omega) hL ?_
  refine MW.aload_n dL_law_759 rfl ?_
  refine MW.callS1 fL_law_760 (hc) rfl rfl rfl rfl (Nat.le_of_ble_eq_true rfl) ?_
  refine MW.istore dL_law_763 rfl rfl ?_
  refine MW.aload_n dL_law_765 rfl ?_
  refine MW.aload_n dL_law_766 rfl ?_
  refine MW.iload dL_law_767 rfl ?_
  refine MW.iconst (v := 1) dL_law_769 (by decide) ?_
  refine MW.iadd dL_law_770 ?_
  refine MW.top (v' := .int (nI (p + 1))) (by show Value.int (nI p + nI 1) = _; rw [nI_add]) ?_
  refine MW.sj dL_law_771 (by omega) hL ?_
  refine MW.aload_n dL_law_772 rfl ?_
  refine MW.iload dL_law_773 rfl ?_
  refine MW.iconst (v := 2) dL_law_775 (by decide) ?_
  refine MW.iadd dL_law_776 ?_
  refine MW.top (v' := .int (nI (p + 2))) (by show Value.int (nI p + nI 2) = _; rw [nI_add]) ?_
  refine MW.sj dL_law_777 (by omega) hL ?_
  refine MW.callV1 fL_law_778 18 rfl (hm) rfl rfl rfl rfl (Nat.le_of_ble_eq_true rfl) ?_
  refine MW.istore dL_law_781 rfl rfl ?_
  refine MW.aload_n dL_law_783 rfl ?_
  refine MW.callV1 fL_law_784 18 rfl (m_thrown) rfl rfl rfl rfl (Nat.le_of_ble_eq_true rfl) ?_
  refine MW.iload dL_law_787 rfl ?_
  refine MW.icmp_eq 794 dL_law_789 (by decide) (fun hc789 => ?_) (fun hc789 => absurd ht hc789)
  refine MW.iload dL_law_794 rfl ?_
  refine MW.if_ne 818 dL_law_796 (by decide) (fun hc796 => ?_) (fun hc796 => ?_)
  · skip
    refine MW.goto 1156 dL_law_818 (by decide) ?_
    exact hQ _ _
  · skip
    refine MW.aload_n dL_law_799 rfl ?_
    refine MW.iconst (v := 0) dL_law_800 (by decide) ?_
    refine MW.lo dL_law_801 ?_
    refine MW.iload dL_law_802 rfl ?_
    refine MW.if_eq 811 dL_law_804 (by decide) (fun hc804 => ?_) (fun hc804 => ?_)
    · skip
      refine MW.lconst (v := 0) dL_law_811 (by decide) ?_
      refine MW.lcmp dL_law_812 ?_
      refine MW.if_eq 818 dL_law_813 (by decide) (fun hc813 => ?_) (fun hc813 => absurd (by first | (rw [hv hc796, show bL v = 1 from if_neg hc804]; exact cmp_0 _) | (rw [hv hc796, show bL v = 0 from if_pos hc804]; exact cmp_0 _)) hc813)
      refine MW.goto 1156 dL_law_818 (by decide) ?_
      exact hQ _ _
    · skip
      refine MW.lconst (v := 1) dL_law_807 (by decide) ?_
      refine MW.goto 812 dL_law_808 (by decide) ?_
      refine MW.lcmp dL_law_812 ?_
      refine MW.if_eq 818 dL_law_813 (by decide) (fun hc813 => ?_) (fun hc813 => absurd (by first | (rw [hv hc796, show bL v = 1 from if_neg hc804]; exact cmp_0 _) | (rw [hv hc796, show bL v = 0 from if_pos hc804]; exact cmp_0 _)) hc813)
      refine MW.goto 1156 dL_law_818 (by decide) ?_
      exact hQ _ _
set_option maxHeartbeats 2000000 in
theorem L_doors (hp : p + 5 < L) (hL : L < 2 ^ 31) (hc : MC (En l D t b L xs) ML_doors 21 [.ref (q 0), .int (bZ (xs (p + 1))), .ref (q 29)] (hw t q i a w) mc ms (rt (some (.int kk)) (hw t q i1 a1 w1) mc1 ms1)) (hm : MC (En l D t b L xs) MX6_doors 21 [.ref (q 18), .int (bZ (xs (p + 1)))] (hw t q i1 a1 w1) mc1 ms1 (rt (some (.int v)) (hw t q i2 a2 w1) mc1 ms1)) (ht : i2 18 = kk) (hv : kk = 0 → w1 = bL v) (hQ : ∀ z5 z6, MW (En l D t b L xs) ML_law 22 1156 [some (.ref b), some (.ref (q 0)), some (.ref (q 18)), some (.ref (q 29)), some (.int (nI p)), z5, z6] [] (hw t q i2 a2 w1) mc1 ms1 Q) : MW (En l D t b L xs) ML_law 22 821 [some (.ref b), some (.ref (q 0)), some (.ref (q 18)), some (.ref (q 29)), some (.int (nI p)), z5, z6] [] (hw t q i a w) mc ms Q := by
  refine MW.aload_n dL_law_821 rfl ?_
  refine MW.aload_n dL_law_822 rfl ?_
  refine MW.iload dL_law_823 rfl ?_
  refine MW.iconst (v := 1) dL_law_825 (by decide) ?_
  refine MW.iadd dL_law_826 ?_
  refine MW.top (v' := .int (nI (p + 1))) (by show Value.int (nI p + nI 1) = _; rw [nI_add]) ?_
  refine MW.sj dL_law_827 (by omega) hL ?_
  refine jz_828 ?_
  refine MW.aload_n dL_law_836 rfl ?_
  refine MW.callS1 fL_law_837 (hc) rfl rfl rfl rfl (Nat.le_of_ble_eq_true rfl) ?_
  refine MW.istore dL_law_840 rfl rfl ?_
  refine MW.aload_n dL_law_842 rfl ?_
  refine MW.aload_n dL_law_843 rfl ?_
  refine MW.iload dL_law_844 rfl ?_
  refine MW.iconst (v := 1) dL_law_846 (by decide) ?_
  refine MW.iadd dL_law_847 ?_
  refine MW.top (v' := .int (nI (p + 1))) (by show Value.int (nI p + nI 1) = _; rw [nI_add]) ?_
  refine MW.sj dL_law_848 (by omega) hL ?_
  refine jz_849 ?_
  refine MW.callV1 fL_law_857 18 rfl (hm) rfl rfl rfl rfl (Nat.le_of_ble_eq_true rfl) ?_
  refine MW.istore dL_law_860 rfl rfl ?_
  refine MW.aload_n dL_law_862 rfl ?_
  refine MW.callV1 fL_law_863 18 rfl (m_thrown) rfl rfl rfl rfl (Nat.le_of_ble_eq_true rfl) ?_
  refine MW.iload dL_law_866 rfl ?_
  refine MW.icmp_eq 873 dL_law_868 (by decide) (fun hc868 => ?_) (fun hc868 => absurd ht hc868)
  refine MW.iload dL_law_873 rfl ?_
  refine MW.if_ne 897 dL_law_875 (by decide) (fun hc875 => ?_) (fun hc875 => ?_)
  · skip
    refine MW.goto 1156 dL_law_897 (by decide) ?_
    exact hQ _ _
  · skip
    refine MW.aload_n dL_law_878 rfl ?_
    refine MW.iconst (v := 0) dL_law_879 (by decide) ?_
    refine MW.lo dL_law_880 ?_
    refine MW.iload dL_law_881 rfl ?_
    refine MW.if_eq 890 dL_law_883 (by decide) (fun hc883 => ?_) (fun hc883 => ?_)
    · skip
      refine MW.lconst (v := 0) dL_law_890 (by decide) ?_
      refine MW.lcmp dL_law_891 ?_
      refine MW.if_eq 897 dL_law_892 (by decide) (fun hc892 => ?_) (fun hc892 => absurd (by first | (rw [hv hc875, show bL v = 1 from if_neg hc883]; exact cmp_0 _) | (rw [hv hc875, show bL v = 0 from if_pos hc883]; exact cmp_0 _)) hc892)
      refine MW.goto 1156 dL_law_897 (by decide) ?_
      exact hQ _ _
    · skip
      refine MW.lconst (v := 1) dL_law_886 (by decide) ?_
      refine MW.goto 891 dL_law_887 (by decide) ?_
      refine MW.lcmp dL_law_891 ?_
      refine MW.if_eq 897 dL_law_892 (by decide) (fun hc892 => ?_) (fun hc892 => absurd (by first | (rw [hv hc875, show bL v = 1 from if_neg hc883]; exact cmp_0 _) | (rw [hv hc875, show bL v = 0 from if_pos hc883]; exact cmp_0 _)) hc892)
      refine MW.goto 1156 dL_law_897 (by decide) ?_
      exact hQ _ _
set_option maxHeartbeats 2000000 in
theorem L_seal (hp : p + 5 < L) (hL : L < 2 ^ 31) (hc : MC (En l D t b L xs) ML_seal 21 [.ref (q 0), .int (xs (p + 1)), .ref (q 29)] (hw t q i a w) mc ms (rt (some (.int kk)) (hw t q i1 a1 w1) mc1 ms1)) (hm : MC (En l D t b L xs) MX6_seal 21 [.ref (q 18), .int (xs (p + 1))] (hw t q i1 a1 w1) mc1 ms1 (rt (some (.int v)) (hw t q i2 a2 w1) mc1 ms1)) (ht : i2 18 = kk) (hv : kk = 0 → w1 = bL v) (hQ : ∀ z5 z6, MW (En l D t b L xs) ML_law 22 1156 [some (.ref b), some (.ref (q 0)), some (.ref (q 18)), some (.ref (q 29)), some (.int (nI p)), z5, z6] [] (hw t q i2 a2 w1) mc1 ms1 Q) : MW (En l D t b L xs) ML_law 22 900 [some (.ref b), some (.ref (q 0)), some (.ref (q 18)), some (.ref (q 29)), some (.int (nI p)), z5, z6] [] (hw t q i a w) mc ms Q := by
  refine MW.aload_n dL_law_900 rfl ?_
  refine MW.aload_n dL_law_901 rfl ?_
  refine MW.iload dL_law_902 rfl ?_
  refine MW.iconst (v := 1) dL_law_904 (by decide) ?_
  refine MW.iadd dL_law_905 ?_
  refine MW.top (v' := .int (nI (p + 1))) (by show Value.int (nI p + nI 1) = _; rw [nI_add]) ?_
  refine MW.sj dL_law_906 (by omega) hL ?_
  refine MW.aload_n dL_law_907 rfl ?_
  refine MW.callS1 fL_law_908 (hc) rfl rfl rfl rfl (Nat.le_of_ble_eq_true rfl) ?_
  refine MW.istore dL_law_911 rfl rfl ?_
  refine MW.aload_n dL_law_913 rfl ?_
  refine MW.aload_n dL_law_914 rfl ?_
  refine MW.iload dL_law_915 rfl ?_
  refine MW.iconst (v := 1) dL_law_917 (by decide) ?_
  refine MW.iadd dL_law_918 ?_
  refine MW.top (v' := .int (nI (p + 1))) (by show Value.int (nI p + nI 1) = _; rw [nI_add]) ?_
  refine MW.sj dL_law_919 (by omega) hL ?_
  refine MW.callV1 fL_law_920 18 rfl (hm) rfl rfl rfl rfl (Nat.le_of_ble_eq_true rfl) ?_
  refine MW.istore dL_law_923 rfl rfl ?_
  refine MW.aload_n dL_law_925 rfl ?_
  refine MW.callV1 fL_law_926 18 rfl (m_thrown) rfl rfl rfl rfl (Nat.le_of_ble_eq_true rfl) ?_
  refine MW.iload dL_law_929 rfl ?_
  refine MW.icmp_eq 936 dL_law_931 (by decide) (fun hc931 => ?_) (fun hc931 => absurd ht hc931)
  refine MW.iload dL_law_936 rfl ?_
  refine MW.if_ne 960 dL_law_938 (by decide) (fun hc938 => ?_) (fun hc938 => ?_)
  · skip
    refine MW.goto 1156 dL_law_960 (by decide) ?_
    exact hQ _ _
  · skip
    refine MW.aload_n dL_law_941 rfl ?_
    refine MW.iconst (v := 0) dL_law_942 (by decide) ?_
    refine MW.lo dL_law_943 ?_
    refine MW.iload dL_law_944 rfl ?_
    refine MW.if_eq 953 dL_law_946 (by decide) (fun hc946 => ?_) (fun hc946 => ?_)
    · skip
      refine MW.lconst (v := 0) dL_law_953 (by decide) ?_
      refine MW.lcmp dL_law_954 ?_
      refine MW.if_eq 960 dL_law_955 (by decide) (fun hc955 => ?_) (fun hc955 => absurd (by first | (rw [hv hc938, show bL v = 1 from if_neg hc946]; exact cmp_0 _) | (rw [hv hc938, show bL v = 0 from if_pos hc946]; exact cmp_0 _)) hc955)
      refine MW.goto 1156 dL_law_960 (by decide) ?_
      exact hQ _ _
    · skip
      refine MW.lconst (v := 1) dL_law_949 (by decide) ?_
      refine MW.goto 954 dL_law_950 (by decide) ?_
      refine MW.lcmp dL_law_954 ?_
      refine MW.if_eq 960 dL_law_955 (by decide) (fun hc955 => ?_) (fun hc955 => absurd (by first | (rw [hv hc938, show bL v = 1 from if_neg hc946]; exact cmp_0 _) | (rw [hv hc938, show bL v = 0 from if_pos hc946]; exact cmp_0 _)) hc955)
      refine MW.goto 1156 dL_law_960 (by decide) ?_
      exact hQ _ _
set_option maxHeartbeats 2000000 in
theorem L_broken (hp : p + 5 < L) (hL : L < 2 ^ 31) (hc : MC (En l D t b L xs) ML_broken 21 [.ref (q 0), .ref (q 29)] (hw t q i a w) mc ms (rt (some (.int kk)) (hw t q i1 a1 w1) mc1 ms1)) (hm : MC (En l D t b L xs) MX6_broken 21 [.ref (q 18)] (hw t q i1 a1 w1) mc1 ms1 (rt (some (.int v)) (hw t q i2 a2 w1) mc1 ms1)) (ht : i2 18 = kk) (hv : kk = 0 → w1 = v.toInt64) (hQ : ∀ z5 z6, MW (En l D t b L xs) ML_law 22 1156 [some (.ref b), some (.ref (q 0)), some (.ref (q 18)), some (.ref (q 29)), some (.int (nI p)), z5, z6] [] (hw t q i2 a2 w1) mc1 ms1 Q) : MW (En l D t b L xs) ML_law 22 963 [some (.ref b), some (.ref (q 0)), some (.ref (q 18)), some (.ref (q 29)), some (.int (nI p)), z5, z6] [] (hw t q i a w) mc ms Q := by
  refine MW.aload_n dL_law_963 rfl ?_
  refine MW.aload_n dL_law_964 rfl ?_
  refine MW.callS1 fL_law_965 (hc) rfl rfl rfl rfl (Nat.le_of_ble_eq_true rfl) ?_
  refine MW.istore dL_law_968 rfl rfl ?_
  refine MW.aload_n dL_law_970 rfl ?_
  refine MW.callV1 fL_law_971 18 rfl (hm) rfl rfl rfl rfl (Nat.le_of_ble_eq_true rfl) ?_
  refine MW.istore dL_law_974 rfl rfl ?_
  refine MW.aload_n dL_law_976 rfl ?_
  refine MW.callV1 fL_law_977 18 rfl (m_thrown) rfl rfl rfl rfl (Nat.le_of_ble_eq_true rfl) ?_
  refine MW.iload dL_law_980 rfl ?_
  refine MW.icmp_eq 987 dL_law_982 (by decide) (fun hc982 => ?_) (fun hc982 => absurd ht hc982)
  refine MW.iload dL_law_987 rfl ?_
  refine MW.if_ne 1004 dL_law_989 (by decide) (fun hc989 => ?_) (fun hc989 => ?_)
  · skip
    refine MW.goto 1156 dL_law_1004 (by decide) ?_
    exact hQ _ _
  · skip
    refine MW.aload_n dL_law_992 rfl ?_
    refine MW.iconst (v := 0) dL_law_993 (by decide) ?_
    refine MW.lo dL_law_994 ?_
    refine MW.iload dL_law_995 rfl ?_
    refine MW.i2l dL_law_997 ?_
    refine MW.lcmp dL_law_998 ?_
    refine MW.if_eq 1004 dL_law_999 (by decide) (fun hc999 => ?_) (fun hc999 => absurd (show lg_cmp w1 v.toInt64 = 0 by rw [hv hc989]; exact cmp_0 _) hc999)
    refine MW.goto 1156 dL_law_1004 (by decide) ?_
    exact hQ _ _
set_option maxHeartbeats 2000000 in
theorem L_order (hp : p + 5 < L) (hL : L < 2 ^ 31) (hc : MC (En l D t b L xs) ML_order 21 [.ref (q 0), .int (xs (p + 1)), .int (xs (p + 2)), .ref (q 29)] (hw t q i a w) mc ms (rt (some (.int kk)) (hw t q i1 a1 w1) mc1 ms1)) (hm : MC (En l D t b L xs) MX6_order 21 [.ref (q 18), .int (xs (p + 1)), .int (xs (p + 2))] (hw t q i1 a1 w1) mc1 ms1 (rt (some (.int v)) (hw t q i2 a2 w1) mc1 ms1)) (ht : i2 18 = kk) (hv : kk = 0 → w1 = v.toInt64) (hQ : ∀ z5 z6, MW (En l D t b L xs) ML_law 22 1156 [some (.ref b), some (.ref (q 0)), some (.ref (q 18)), some (.ref (q 29)), some (.int (nI p)), z5, z6] [] (hw t q i2 a2 w1) mc1 ms1 Q) : MW (En l D t b L xs) ML_law 22 1007 [some (.ref b), some (.ref (q 0)), some (.ref (q 18)), some (.ref (q 29)), some (.int (nI p)), z5, z6] [] (hw t q i a w) mc ms Q := by
  refine MW.aload_n dL_law_1007 rfl ?_
  refine MW.aload_n dL_law_1008 rfl ?_
  refine MW.iload dL_law_1009 rfl ?_
  refine MW.iconst (v := 1) dL_law_1011 (by decide) ?_
  refine MW.iadd dL_law_1012 ?_
  refine MW.top (v' := .int (nI (p + 1))) (by show Value.int (nI p + nI 1) = _; rw [nI_add]) ?_
  refine MW.sj dL_law_1013 (by omega) hL ?_
  refine MW.aload_n dL_law_1014 rfl ?_
  refine MW.iload dL_law_1015 rfl ?_
  refine MW.iconst (v := 2) dL_law_1017 (by decide) ?_
  refine MW.iadd dL_law_1018 ?_
  refine MW.top (v' := .int (nI (p + 2))) (by show Value.int (nI p + nI 2) = _; rw [nI_add]) ?_
  refine MW.sj dL_law_1019 (by omega) hL ?_
  refine MW.aload_n dL_law_1020 rfl ?_
  refine MW.callS1 fL_law_1021 (hc) rfl rfl rfl rfl (Nat.le_of_ble_eq_true rfl) ?_
  refine MW.istore dL_law_1024 rfl rfl ?_
  refine MW.aload_n dL_law_1026 rfl ?_
  refine MW.aload_n dL_law_1027 rfl ?_
  refine MW.iload dL_law_1028 rfl ?_
  refine MW.iconst (v := 1) dL_law_1030 (by decide) ?_
  refine MW.iadd dL_law_1031 ?_
  refine MW.top (v' := .int (nI (p + 1))) (by show Value.int (nI p + nI 1) = _; rw [nI_add]) ?_
  refine MW.sj dL_law_1032 (by omega) hL ?_
  refine MW.aload_n dL_law_1033 rfl ?_
  refine MW.iload dL_law_1034 rfl ?_
  refine MW.iconst (v := 2) dL_law_1036 (by decide) ?_
  refine MW.iadd dL_law_1037 ?_
  refine MW.top (v' := .int (nI (p + 2))) (by show Value.int (nI p + nI 2) = _; rw [nI_add]) ?_
  refine MW.sj dL_law_1038 (by omega) hL ?_
  refine MW.callV1 fL_law_1039 18 rfl (hm) rfl rfl rfl rfl (Nat.le_of_ble_eq_true rfl) ?_
  refine MW.istore dL_law_1042 rfl rfl ?_
  refine MW.aload_n dL_law_1044 rfl ?_
  refine MW.callV1 fL_law_1045 18 rfl (m_thrown) rfl rfl rfl rfl (Nat.le_of_ble_eq_true rfl) ?_
  refine MW.iload dL_law_1048 rfl ?_
  refine MW.icmp_eq 1055 dL_law_1050 (by decide) (fun hc1050 => ?_) (fun hc1050 => absurd ht hc1050)
  refine MW.iload dL_law_1055 rfl ?_
  refine MW.if_ne 1072 dL_law_1057 (by decide) (fun hc1057 => ?_) (fun hc1057 => ?_)
  · skip
    refine MW.goto 1156 dL_law_1072 (by decide) ?_
    exact hQ _ _
  · skip
    refine MW.aload_n dL_law_1060 rfl ?_
    refine MW.iconst (v := 0) dL_law_1061 (by decide) ?_
    refine MW.lo dL_law_1062 ?_
    refine MW.iload dL_law_1063 rfl ?_
    refine MW.i2l dL_law_1065 ?_
    refine MW.lcmp dL_law_1066 ?_
    refine MW.if_eq 1072 dL_law_1067 (by decide) (fun hc1067 => ?_) (fun hc1067 => absurd (show lg_cmp w1 v.toInt64 = 0 by rw [hv hc1057]; exact cmp_0 _) hc1067)
    refine MW.goto 1156 dL_law_1072 (by decide) ?_
    exact hQ _ _
set_option maxHeartbeats 2000000 in
theorem L_manifest (hp : p + 5 < L) (hL : L < 2 ^ 31) (hc : MC (En l D t b L xs) ML_manifest 21 [.ref (q 0), .int (xs (p + 1)), .ref (q 29)] (hw t q i a w) mc ms (rt (some (.int kk)) (hw t q i1 a1 w1) mc1 ms1)) (hm : MC (En l D t b L xs) MX6_manifest 21 [.ref (q 18), .int (xs (p + 1))] (hw t q i1 a1 w1) mc1 ms1 (rt (some (.int v)) (hw t q i2 a2 w1) mc1 ms1)) (ht : i2 18 = kk) (hv : kk = 0 → w1 = v.toInt64) (hQ : ∀ z5 z6, MW (En l D t b L xs) ML_law 22 1156 [some (.ref b), some (.ref (q 0)), some (.ref (q 18)), some (.ref (q 29)), some (.int (nI p)), z5, z6] [] (hw t q i2 a2 w1) mc1 ms1 Q) : MW (En l D t b L xs) ML_law 22 1075 [some (.ref b), some (.ref (q 0)), some (.ref (q 18)), some (.ref (q 29)), some (.int (nI p)), z5, z6] [] (hw t q i a w) mc ms Q := by
  refine MW.aload_n dL_law_1075 rfl ?_
  refine MW.aload_n dL_law_1076 rfl ?_
  refine MW.iload dL_law_1077 rfl ?_
  refine MW.iconst (v := 1) dL_law_1079 (by decide) ?_
  refine MW.iadd dL_law_1080 ?_
  refine MW.top (v' := .int (nI (p + 1))) (by show Value.int (nI p + nI 1) = _; rw [nI_add]) ?_
  refine MW.sj dL_law_1081 (by omega) hL ?_
  refine MW.aload_n dL_law_1082 rfl ?_
  refine MW.callS1 fL_law_1083 (hc) rfl rfl rfl rfl (Nat.le_of_ble_eq_true rfl) ?_
  refine MW.istore dL_law_1086 rfl rfl ?_
  refine MW.aload_n dL_law_1088 rfl ?_
  refine MW.aload_n dL_law_1089 rfl ?_
  refine MW.iload dL_law_1090 rfl ?_
  refine MW.iconst (v := 1) dL_law_1092 (by decide) ?_
  refine MW.iadd dL_law_1093 ?_
  refine MW.top (v' := .int (nI (p + 1))) (by show Value.int (nI p + nI 1) = _; rw [nI_add]) ?_
  refine MW.sj dL_law_1094 (by omega) hL ?_
  refine MW.callV1 fL_law_1095 18 rfl (hm) rfl rfl rfl rfl (Nat.le_of_ble_eq_true rfl) ?_
  refine MW.istore dL_law_1098 rfl rfl ?_
  refine MW.aload_n dL_law_1100 rfl ?_
  refine MW.callV1 fL_law_1101 18 rfl (m_thrown) rfl rfl rfl rfl (Nat.le_of_ble_eq_true rfl) ?_
  refine MW.iload dL_law_1104 rfl ?_
  refine MW.icmp_eq 1111 dL_law_1106 (by decide) (fun hc1106 => ?_) (fun hc1106 => absurd ht hc1106)
  refine MW.iload dL_law_1111 rfl ?_
  refine MW.if_ne 1128 dL_law_1113 (by decide) (fun hc1113 => ?_) (fun hc1113 => ?_)
  · skip
    refine MW.goto 1156 dL_law_1128 (by decide) ?_
    exact hQ _ _
  · skip
    refine MW.aload_n dL_law_1116 rfl ?_
    refine MW.iconst (v := 0) dL_law_1117 (by decide) ?_
    refine MW.lo dL_law_1118 ?_
    refine MW.iload dL_law_1119 rfl ?_
    refine MW.i2l dL_law_1121 ?_
    refine MW.lcmp dL_law_1122 ?_
    refine MW.if_eq 1128 dL_law_1123 (by decide) (fun hc1123 => ?_) (fun hc1123 => absurd (show lg_cmp w1 v.toInt64 = 0 by rw [hv hc1113]; exact cmp_0 _) hc1123)
    refine MW.goto 1156 dL_law_1128 (by decide) ?_
    exact hQ _ _
set_option maxHeartbeats 2000000 in
theorem L_exact (hp : p + 5 < L) (hL : L < 2 ^ 31) (hc : MC (En l D t b L xs) MX5_exact 21 [.ref (q 0)] (hw t q i a w) mc ms (rt (some (.int v)) (hw t q i1 a1 w1) mc1 ms1)) (hm : MC (En l D t b L xs) MX6_exact 21 [.ref (q 18)] (hw t q i1 a1 w1) mc1 ms1 (rt (some (.int v)) (hw t q i2 a2 w1) mc1 ms1)) (hQ : ∀ z5 z6, MW (En l D t b L xs) ML_law 22 1156 [some (.ref b), some (.ref (q 0)), some (.ref (q 18)), some (.ref (q 29)), some (.int (nI p)), z5, z6] [] (hw t q i2 a2 w1) mc1 ms1 Q) : MW (En l D t b L xs) ML_law 22 472 [some (.ref b), some (.ref (q 0)), some (.ref (q 18)), some (.ref (q 29)), some (.int (nI p)), z5, z6] [] (hw t q i a w) mc ms Q := by
  refine MW.aload_n dL_law_472 rfl ?_
  refine MW.callV1 fL_law_473 0 rfl (hc) rfl rfl rfl rfl (Nat.le_of_ble_eq_true rfl) ?_
  refine MW.aload_n dL_law_476 rfl ?_
  refine MW.callV1 fL_law_477 18 rfl (hm) rfl rfl rfl rfl (Nat.le_of_ble_eq_true rfl) ?_
  refine MW.icmp_eq 1156 dL_law_480 (by decide) (fun hc480 => ?_) (fun hc480 => absurd rfl hc480)
  exact hQ _ _
set_option maxHeartbeats 2000000 in
theorem L_bound (hp : p + 5 < L) (hL : L < 2 ^ 31) (hc : MC (En l D t b L xs) MX5_bound 21 [.ref (q 0)] (hw t q i a w) mc ms (rt (some (.int v)) (hw t q i1 a1 w1) mc1 ms1)) (hm : MC (En l D t b L xs) MX6_bound 21 [.ref (q 18)] (hw t q i1 a1 w1) mc1 ms1 (rt (some (.int v)) (hw t q i2 a2 w1) mc1 ms1)) (hQ : ∀ z5 z6, MW (En l D t b L xs) ML_law 22 1156 [some (.ref b), some (.ref (q 0)), some (.ref (q 18)), some (.ref (q 29)), some (.int (nI p)), z5, z6] [] (hw t q i2 a2 w1) mc1 ms1 Q) : MW (En l D t b L xs) ML_law 22 485 [some (.ref b), some (.ref (q 0)), some (.ref (q 18)), some (.ref (q 29)), some (.int (nI p)), z5, z6] [] (hw t q i a w) mc ms Q := by
  refine MW.aload_n dL_law_485 rfl ?_
  refine MW.callV1 fL_law_486 0 rfl (hc) rfl rfl rfl rfl (Nat.le_of_ble_eq_true rfl) ?_
  refine MW.aload_n dL_law_489 rfl ?_
  refine MW.callV1 fL_law_490 18 rfl (hm) rfl rfl rfl rfl (Nat.le_of_ble_eq_true rfl) ?_
  refine MW.icmp_eq 1156 dL_law_493 (by decide) (fun hc493 => ?_) (fun hc493 => absurd rfl hc493)
  exact hQ _ _
set_option maxHeartbeats 2000000 in
theorem L_count (hp : p + 5 < L) (hL : L < 2 ^ 31) (hc : MC (En l D t b L xs) MX5_count 21 [.ref (q 0), .int (xs (p + 1))] (hw t q i a w) mc ms (rt (some (.int v)) (hw t q i1 a1 w1) mc1 ms1)) (hm : MC (En l D t b L xs) MX6_count 21 [.ref (q 18), .int (xs (p + 1))] (hw t q i1 a1 w1) mc1 ms1 (rt (some (.int v)) (hw t q i2 a2 w1) mc1 ms1)) (hQ : ∀ z5 z6, MW (En l D t b L xs) ML_law 22 1156 [some (.ref b), some (.ref (q 0)), some (.ref (q 18)), some (.ref (q 29)), some (.int (nI p)), z5, z6] [] (hw t q i2 a2 w1) mc1 ms1 Q) : MW (En l D t b L xs) ML_law 22 1131 [some (.ref b), some (.ref (q 0)), some (.ref (q 18)), some (.ref (q 29)), some (.int (nI p)), z5, z6] [] (hw t q i a w) mc ms Q := by
  refine MW.aload_n dL_law_1131 rfl ?_
  refine MW.aload_n dL_law_1132 rfl ?_
  refine MW.iload dL_law_1133 rfl ?_
  refine MW.iconst (v := 1) dL_law_1135 (by decide) ?_
  refine MW.iadd dL_law_1136 ?_
  refine MW.top (v' := .int (nI (p + 1))) (by show Value.int (nI p + nI 1) = _; rw [nI_add]) ?_
  refine MW.sj dL_law_1137 (by omega) hL ?_
  refine MW.callV1 fL_law_1138 0 rfl (hc) rfl rfl rfl rfl (Nat.le_of_ble_eq_true rfl) ?_
  refine MW.aload_n dL_law_1141 rfl ?_
  refine MW.aload_n dL_law_1142 rfl ?_
  refine MW.iload dL_law_1143 rfl ?_
  refine MW.iconst (v := 1) dL_law_1145 (by decide) ?_
  refine MW.iadd dL_law_1146 ?_
  refine MW.top (v' := .int (nI (p + 1))) (by show Value.int (nI p + nI 1) = _; rw [nI_add]) ?_
  refine MW.sj dL_law_1147 (by omega) hL ?_
  refine MW.callV1 fL_law_1148 18 rfl (hm) rfl rfl rfl rfl (Nat.le_of_ble_eq_true rfl) ?_
  refine MW.icmp_eq 1156 dL_law_1151 (by decide) (fun hc1151 => ?_) (fun hc1151 => absurd rfl hc1151)
  exact hQ _ _
end Law1
