
section
variable {M : xD} {pc : Nat} {L : List (Nat × Value)} {st : List Value} {u : xU} {Q : Option Value → xM → Prop}
theorem xl_sld {Z : Nat → Int32} {N k : Nat} (hz : u.1 0 = Z) (hn : Z 0 = nI N) (hN : N ≤ 2560) (hk : k < N) (hd : decode M.2.1 pc = .ok (.iaload, 1)) (h : xE M (pc + 1) L (.int (Z (k + 1)) :: st) (xmm u) Q) : xE M pc L (.int (nI k) :: .ref 0 :: st) (xmm u) Q := by
  refine xe_sld hd (n := N) (by show u.1 0 0 = _; rw [hz, hn]; rfl) hN (nI_ix hk (by omega)) ?_
  rw [nI_nat (by omega)]
  show xE M (pc + 1) L (.int (u.1 0 (k + 1)) :: st) (xmm u) Q
  rw [hz]
  exact h
end
theorem lg_self (v : Int64) : lg_cmp v v = 0 := by
  unfold lg_cmp
  simp
theorem lw_room {N i : Nat} (hN : N ≤ 2560) (hi : i ≤ 2560) (h : ¬ nI N - nI 5 < nI i) : i + 5 ≤ N := by
  by_cases h5 : 5 ≤ N
  · rw [nI_sub h5] at h
    have h2 : ¬ N - 5 < i := fun z => h ((nI_ltn (a := N - 5) (b := i) (by omega) (by omega)).mpr z)
    omega
  · exfalso
    apply h
    have h0 : nI N - nI 5 < 0 := by
      have : N = 0 ∨ N = 1 ∨ N = 2 ∨ N = 3 ∨ N = 4 := by omega
      rcases this with rfl | rfl | rfl | rfl | rfl <;> decide
    rw [Int32.lt_iff_toInt_lt] at h0 ⊢
    have h1 := nI_nn (k := i) (by omega)
    rw [Int32.le_iff_toInt_le] at h1
    omega


def bz (x : Int32) : Int32 := if x = 0 then nI 0 else nI 1
theorem xl_bz {M : xD} {pc : Nat} {L : List (Nat × Value)} {st : List Value} {u : xU} {Q : Option Value → xM → Prop} {x : Int32} {off o2 : Int} (tgt meet : Nat) (hd : decode M.2.1 pc = .ok (.ifCond .eq off, 3)) (ht : (pc : Int) + off = (tgt : Int)) (h1 : decode M.2.1 (pc + 3) = .ok (.iconst 1, 1)) (h2 : decode M.2.1 (pc + 3 + 1) = .ok (.goto o2, 3)) (ht2 : ((pc + 3 + 1 : Nat) : Int) + o2 = (meet : Int)) (h3 : decode M.2.1 tgt = .ok (.iconst 0, 1)) (hm : tgt + 1 = meet) (h : xE M meet L (.int (bz x) :: st) (xmm u) Q) : xE M pc L (.int x :: st) (xmm u) Q := by
  subst hm
  refine xe_if_eq tgt hd ht (fun z => ?_) (fun z => ?_)
  · refine xe_iconst (v := nI 0) h3 xc0 ?_
    have e : bz x = nI 0 := if_pos z
    rw [← e]
    exact h
  · refine xe_iconst (v := nI 1) h1 xc1 (xe_goto _ h2 ht2 ?_)
    have e : bz x = nI 1 := if_neg z
    rw [← e]
    exact h

theorem lc_0 {Z : Nat → Int32} {N i : Nat} {u : xU} {Q : Option Value → xM → Prop} (hn : Z 0 = nI N) (hN : N ≤ 2560) (hi : i + 5 ≤ N) (hu : u.1 0 = Z) (next : ∀ u2 : xU, u2.1 0 = Z → LV u2 → xE mL_law 969 [(0, .ref 0), (1, .ref 1), (2, .ref 172), (3, .int (nI i))] [] (xmm u2) Q) (h : TW Value.int mX9_table mX10_table [.int (Z (i + 1 + 1)), .int (Z (i + 2 + 1))] u) : xE mL_law 152 [(0, .ref 0), (1, .ref 1), (2, .ref 172), (3, .int (nI i))] [] (xmm u) Q := by
  refine xe_aload_n 1 dL_law_152 rfl rfl ?_
  refine xe_aload_n 0 dL_law_153 rfl rfl ?_
  refine xe_iload_n 3 dL_law_154 rfl rfl ?_
  refine xe_iconst (v := nI 1) dL_law_155 xc1 ?_
  refine xn_iadd dL_law_156 ?_
  refine xl_sld hu hn hN (by omega) dL_law_157 ?_
  refine xe_aload_n 0 dL_law_158 rfl rfl ?_
  refine xe_iload_n 3 dL_law_159 rfl rfl ?_
  refine xe_iconst (v := nI 2) dL_law_160 xc2 ?_
  refine xn_iadd dL_law_161 ?_
  refine xl_sld hu hn hN (by omega) dL_law_162 ?_
  refine xe_callV (As := [.int (Z (i + 1 + 1)), .int (Z (i + 2 + 1))]) (rest := []) dL_law_163 wX9_table lL_13 iX9_table sX9_table ⟨by decide, by decide⟩ sh1 rfl (xin_mm (by decide)) rfl rfl (by simp [Value.category]) ?_
  refine h.mono ?_
  rintro r μ ⟨v, u1, rfl, rfl, hu1, h⟩
  refine xe_aload_n 2 dL_law_166 rfl rfl ?_
  refine xe_aload_n 0 dL_law_167 rfl rfl ?_
  refine xe_iload_n 3 dL_law_168 rfl rfl ?_
  refine xe_iconst (v := nI 1) dL_law_169 xc1 ?_
  refine xn_iadd dL_law_170 ?_
  refine xl_sld (hu1.trans hu) hn hN (by omega) dL_law_171 ?_
  refine xe_aload_n 0 dL_law_172 rfl rfl ?_
  refine xe_iload_n 3 dL_law_173 rfl rfl ?_
  refine xe_iconst (v := nI 2) dL_law_174 xc2 ?_
  refine xn_iadd dL_law_175 ?_
  refine xl_sld (hu1.trans hu) hn hN (by omega) dL_law_176 ?_
  refine xe_callV (As := [.int (Z (i + 1 + 1)), .int (Z (i + 2 + 1))]) (rest := [.int v]) dL_law_177 wX10_table lL_17 iX10_table sX10_table ⟨by decide, by decide⟩ sh172 rfl (xin_mm (by decide)) rfl rfl (by simp [Value.category]) ?_
  refine h.mono ?_
  rintro r μ ⟨rfl, u2, rfl, hu2, h⟩
  exact xe_icmp_eq 969 dL_law_180 (by decide) (fun _ => next u2 (hu2.trans hu) h) (fun q => absurd rfl q)
theorem lc_1 {Z : Nat → Int32} {N i : Nat} {u : xU} {Q : Option Value → xM → Prop} (hn : Z 0 = nI N) (hN : N ≤ 2560) (hi : i + 5 ≤ N) (hu : u.1 0 = Z) (next : ∀ u2 : xU, u2.1 0 = Z → LV u2 → xE mL_law 969 [(0, .ref 0), (1, .ref 1), (2, .ref 172), (3, .int (nI i))] [] (xmm u2) Q) (h : TW Value.int mX9_put mX10_put [.int (Z (i + 1 + 1)), .int (Z (i + 2 + 1)), .int (Z (i + 3 + 1)), .int (Z (i + 4 + 1))] u) : xE mL_law 185 [(0, .ref 0), (1, .ref 1), (2, .ref 172), (3, .int (nI i))] [] (xmm u) Q := by
  refine xe_aload_n 1 dL_law_185 rfl rfl ?_
  refine xe_aload_n 0 dL_law_186 rfl rfl ?_
  refine xe_iload_n 3 dL_law_187 rfl rfl ?_
  refine xe_iconst (v := nI 1) dL_law_188 xc1 ?_
  refine xn_iadd dL_law_189 ?_
  refine xl_sld hu hn hN (by omega) dL_law_190 ?_
  refine xe_aload_n 0 dL_law_191 rfl rfl ?_
  refine xe_iload_n 3 dL_law_192 rfl rfl ?_
  refine xe_iconst (v := nI 2) dL_law_193 xc2 ?_
  refine xn_iadd dL_law_194 ?_
  refine xl_sld hu hn hN (by omega) dL_law_195 ?_
  refine xe_aload_n 0 dL_law_196 rfl rfl ?_
  refine xe_iload_n 3 dL_law_197 rfl rfl ?_
  refine xe_iconst (v := nI 3) dL_law_198 xc3 ?_
  refine xn_iadd dL_law_199 ?_
  refine xl_sld hu hn hN (by omega) dL_law_200 ?_
  refine xe_aload_n 0 dL_law_201 rfl rfl ?_
  refine xe_iload_n 3 dL_law_202 rfl rfl ?_
  refine xe_iconst (v := nI 4) dL_law_203 xc4 ?_
  refine xn_iadd dL_law_204 ?_
  refine xl_sld hu hn hN (by omega) dL_law_205 ?_
  refine xe_callV (As := [.int (Z (i + 1 + 1)), .int (Z (i + 2 + 1)), .int (Z (i + 3 + 1)), .int (Z (i + 4 + 1))]) (rest := []) dL_law_206 wX9_put lL_18 iX9_put sX9_put ⟨by decide, by decide⟩ sh1 rfl (xin_mm (by decide)) rfl rfl (by simp [Value.category]) ?_
  refine h.mono ?_
  rintro r μ ⟨v, u1, rfl, rfl, hu1, h⟩
  refine xe_aload_n 2 dL_law_209 rfl rfl ?_
  refine xe_aload_n 0 dL_law_210 rfl rfl ?_
  refine xe_iload_n 3 dL_law_211 rfl rfl ?_
  refine xe_iconst (v := nI 1) dL_law_212 xc1 ?_
  refine xn_iadd dL_law_213 ?_
  refine xl_sld (hu1.trans hu) hn hN (by omega) dL_law_214 ?_
  refine xe_aload_n 0 dL_law_215 rfl rfl ?_
  refine xe_iload_n 3 dL_law_216 rfl rfl ?_
  refine xe_iconst (v := nI 2) dL_law_217 xc2 ?_
  refine xn_iadd dL_law_218 ?_
  refine xl_sld (hu1.trans hu) hn hN (by omega) dL_law_219 ?_
  refine xe_aload_n 0 dL_law_220 rfl rfl ?_
  refine xe_iload_n 3 dL_law_221 rfl rfl ?_
  refine xe_iconst (v := nI 3) dL_law_222 xc3 ?_
  refine xn_iadd dL_law_223 ?_
  refine xl_sld (hu1.trans hu) hn hN (by omega) dL_law_224 ?_
  refine xe_aload_n 0 dL_law_225 rfl rfl ?_
  refine xe_iload_n 3 dL_law_226 rfl rfl ?_
  refine xe_iconst (v := nI 4) dL_law_227 xc4 ?_
  refine xn_iadd dL_law_228 ?_
  refine xl_sld (hu1.trans hu) hn hN (by omega) dL_law_229 ?_
  refine xe_callV (As := [.int (Z (i + 1 + 1)), .int (Z (i + 2 + 1)), .int (Z (i + 3 + 1)), .int (Z (i + 4 + 1))]) (rest := [.int v]) dL_law_230 wX10_put lL_22 iX10_put sX10_put ⟨by decide, by decide⟩ sh172 rfl (xin_mm (by decide)) rfl rfl (by simp [Value.category]) ?_
  refine h.mono ?_
  rintro r μ ⟨rfl, u2, rfl, hu2, h⟩
  exact xe_icmp_eq 969 dL_law_233 (by decide) (fun _ => next u2 (hu2.trans hu) h) (fun q => absurd rfl q)
theorem lc_2 {Z : Nat → Int32} {N i : Nat} {u : xU} {Q : Option Value → xM → Prop} (hn : Z 0 = nI N) (hN : N ≤ 2560) (hi : i + 5 ≤ N) (hu : u.1 0 = Z) (next : ∀ u2 : xU, u2.1 0 = Z → LV u2 → xE mL_law 969 [(0, .ref 0), (1, .ref 1), (2, .ref 172), (3, .int (nI i))] [] (xmm u2) Q) (h : TW Value.int mX9_drop mX10_drop [.int (Z (i + 1 + 1)), .int (Z (i + 2 + 1)), .int (Z (i + 3 + 1)), .int (Z (i + 4 + 1))] u) : xE mL_law 238 [(0, .ref 0), (1, .ref 1), (2, .ref 172), (3, .int (nI i))] [] (xmm u) Q := by
  refine xe_aload_n 1 dL_law_238 rfl rfl ?_
  refine xe_aload_n 0 dL_law_239 rfl rfl ?_
  refine xe_iload_n 3 dL_law_240 rfl rfl ?_
  refine xe_iconst (v := nI 1) dL_law_241 xc1 ?_
  refine xn_iadd dL_law_242 ?_
  refine xl_sld hu hn hN (by omega) dL_law_243 ?_
  refine xe_aload_n 0 dL_law_244 rfl rfl ?_
  refine xe_iload_n 3 dL_law_245 rfl rfl ?_
  refine xe_iconst (v := nI 2) dL_law_246 xc2 ?_
  refine xn_iadd dL_law_247 ?_
  refine xl_sld hu hn hN (by omega) dL_law_248 ?_
  refine xe_aload_n 0 dL_law_249 rfl rfl ?_
  refine xe_iload_n 3 dL_law_250 rfl rfl ?_
  refine xe_iconst (v := nI 3) dL_law_251 xc3 ?_
  refine xn_iadd dL_law_252 ?_
  refine xl_sld hu hn hN (by omega) dL_law_253 ?_
  refine xe_aload_n 0 dL_law_254 rfl rfl ?_
  refine xe_iload_n 3 dL_law_255 rfl rfl ?_
  refine xe_iconst (v := nI 4) dL_law_256 xc4 ?_
  refine xn_iadd dL_law_257 ?_
  refine xl_sld hu hn hN (by omega) dL_law_258 ?_
  refine xe_callV (As := [.int (Z (i + 1 + 1)), .int (Z (i + 2 + 1)), .int (Z (i + 3 + 1)), .int (Z (i + 4 + 1))]) (rest := []) dL_law_259 wX9_drop lL_23 iX9_drop sX9_drop ⟨by decide, by decide⟩ sh1 rfl (xin_mm (by decide)) rfl rfl (by simp [Value.category]) ?_
  refine h.mono ?_
  rintro r μ ⟨v, u1, rfl, rfl, hu1, h⟩
  refine xe_aload_n 2 dL_law_262 rfl rfl ?_
  refine xe_aload_n 0 dL_law_263 rfl rfl ?_
  refine xe_iload_n 3 dL_law_264 rfl rfl ?_
  refine xe_iconst (v := nI 1) dL_law_265 xc1 ?_
  refine xn_iadd dL_law_266 ?_
  refine xl_sld (hu1.trans hu) hn hN (by omega) dL_law_267 ?_
  refine xe_aload_n 0 dL_law_268 rfl rfl ?_
  refine xe_iload_n 3 dL_law_269 rfl rfl ?_
  refine xe_iconst (v := nI 2) dL_law_270 xc2 ?_
  refine xn_iadd dL_law_271 ?_
  refine xl_sld (hu1.trans hu) hn hN (by omega) dL_law_272 ?_
  refine xe_aload_n 0 dL_law_273 rfl rfl ?_
  refine xe_iload_n 3 dL_law_274 rfl rfl ?_
  refine xe_iconst (v := nI 3) dL_law_275 xc3 ?_
  refine xn_iadd dL_law_276 ?_
  refine xl_sld (hu1.trans hu) hn hN (by omega) dL_law_277 ?_
  refine xe_aload_n 0 dL_law_278 rfl rfl ?_
  refine xe_iload_n 3 dL_law_279 rfl rfl ?_
  refine xe_iconst (v := nI 4) dL_law_280 xc4 ?_
  refine xn_iadd dL_law_281 ?_
  refine xl_sld (hu1.trans hu) hn hN (by omega) dL_law_282 ?_
  refine xe_callV (As := [.int (Z (i + 1 + 1)), .int (Z (i + 2 + 1)), .int (Z (i + 3 + 1)), .int (Z (i + 4 + 1))]) (rest := [.int v]) dL_law_283 wX10_drop lL_27 iX10_drop sX10_drop ⟨by decide, by decide⟩ sh172 rfl (xin_mm (by decide)) rfl rfl (by simp [Value.category]) ?_
  refine h.mono ?_
  rintro r μ ⟨rfl, u2, rfl, hu2, h⟩
  exact xe_icmp_eq 969 dL_law_286 (by decide) (fun _ => next u2 (hu2.trans hu) h) (fun q => absurd rfl q)
theorem lc_3 {Z : Nat → Int32} {N i : Nat} {u : xU} {Q : Option Value → xM → Prop} (hn : Z 0 = nI N) (hN : N ≤ 2560) (hi : i + 5 ≤ N) (hu : u.1 0 = Z) (next : ∀ u2 : xU, u2.1 0 = Z → LV u2 → xE mL_law 969 [(0, .ref 0), (1, .ref 1), (2, .ref 172), (3, .int (nI i))] [] (xmm u2) Q) (h : TW Value.int mX9_rows mX10_rows [.int (Z (i + 1 + 1))] u) : xE mL_law 291 [(0, .ref 0), (1, .ref 1), (2, .ref 172), (3, .int (nI i))] [] (xmm u) Q := by
  refine xe_aload_n 1 dL_law_291 rfl rfl ?_
  refine xe_aload_n 0 dL_law_292 rfl rfl ?_
  refine xe_iload_n 3 dL_law_293 rfl rfl ?_
  refine xe_iconst (v := nI 1) dL_law_294 xc1 ?_
  refine xn_iadd dL_law_295 ?_
  refine xl_sld hu hn hN (by omega) dL_law_296 ?_
  refine xe_callV (As := [.int (Z (i + 1 + 1))]) (rest := []) dL_law_297 wX9_rows lL_28 iX9_rows sX9_rows ⟨by decide, by decide⟩ sh1 rfl (xin_mm (by decide)) rfl rfl (by simp [Value.category]) ?_
  refine h.mono ?_
  rintro r μ ⟨v, u1, rfl, rfl, hu1, h⟩
  refine xe_aload_n 2 dL_law_300 rfl rfl ?_
  refine xe_aload_n 0 dL_law_301 rfl rfl ?_
  refine xe_iload_n 3 dL_law_302 rfl rfl ?_
  refine xe_iconst (v := nI 1) dL_law_303 xc1 ?_
  refine xn_iadd dL_law_304 ?_
  refine xl_sld (hu1.trans hu) hn hN (by omega) dL_law_305 ?_
  refine xe_callV (As := [.int (Z (i + 1 + 1))]) (rest := [.int v]) dL_law_306 wX10_rows lL_32 iX10_rows sX10_rows ⟨by decide, by decide⟩ sh172 rfl (xin_mm (by decide)) rfl rfl (by simp [Value.category]) ?_
  refine h.mono ?_
  rintro r μ ⟨rfl, u2, rfl, hu2, h⟩
  exact xe_icmp_eq 969 dL_law_309 (by decide) (fun _ => next u2 (hu2.trans hu) h) (fun q => absurd rfl q)
theorem lc_4 {Z : Nat → Int32} {N i : Nat} {u : xU} {Q : Option Value → xM → Prop} (hn : Z 0 = nI N) (hN : N ≤ 2560) (hi : i + 5 ≤ N) (hu : u.1 0 = Z) (next : ∀ u2 : xU, u2.1 0 = Z → LV u2 → xE mL_law 969 [(0, .ref 0), (1, .ref 1), (2, .ref 172), (3, .int (nI i))] [] (xmm u2) Q) (h : TW Value.int mX9_row mX10_row [.int (Z (i + 1 + 1)), .int (Z (i + 2 + 1)), .int (Z (i + 3 + 1))] u) : xE mL_law 314 [(0, .ref 0), (1, .ref 1), (2, .ref 172), (3, .int (nI i))] [] (xmm u) Q := by
  refine xe_aload_n 1 dL_law_314 rfl rfl ?_
  refine xe_aload_n 0 dL_law_315 rfl rfl ?_
  refine xe_iload_n 3 dL_law_316 rfl rfl ?_
  refine xe_iconst (v := nI 1) dL_law_317 xc1 ?_
  refine xn_iadd dL_law_318 ?_
  refine xl_sld hu hn hN (by omega) dL_law_319 ?_
  refine xe_aload_n 0 dL_law_320 rfl rfl ?_
  refine xe_iload_n 3 dL_law_321 rfl rfl ?_
  refine xe_iconst (v := nI 2) dL_law_322 xc2 ?_
  refine xn_iadd dL_law_323 ?_
  refine xl_sld hu hn hN (by omega) dL_law_324 ?_
  refine xe_aload_n 0 dL_law_325 rfl rfl ?_
  refine xe_iload_n 3 dL_law_326 rfl rfl ?_
  refine xe_iconst (v := nI 3) dL_law_327 xc3 ?_
  refine xn_iadd dL_law_328 ?_
  refine xl_sld hu hn hN (by omega) dL_law_329 ?_
  refine xe_callV (As := [.int (Z (i + 1 + 1)), .int (Z (i + 2 + 1)), .int (Z (i + 3 + 1))]) (rest := []) dL_law_330 wX9_row lL_33 iX9_row sX9_row ⟨by decide, by decide⟩ sh1 rfl (xin_mm (by decide)) rfl rfl (by simp [Value.category]) ?_
  refine h.mono ?_
  rintro r μ ⟨v, u1, rfl, rfl, hu1, h⟩
  refine xe_aload_n 2 dL_law_333 rfl rfl ?_
  refine xe_aload_n 0 dL_law_334 rfl rfl ?_
  refine xe_iload_n 3 dL_law_335 rfl rfl ?_
  refine xe_iconst (v := nI 1) dL_law_336 xc1 ?_
  refine xn_iadd dL_law_337 ?_
  refine xl_sld (hu1.trans hu) hn hN (by omega) dL_law_338 ?_
  refine xe_aload_n 0 dL_law_339 rfl rfl ?_
  refine xe_iload_n 3 dL_law_340 rfl rfl ?_
  refine xe_iconst (v := nI 2) dL_law_341 xc2 ?_
  refine xn_iadd dL_law_342 ?_
  refine xl_sld (hu1.trans hu) hn hN (by omega) dL_law_343 ?_
  refine xe_aload_n 0 dL_law_344 rfl rfl ?_
  refine xe_iload_n 3 dL_law_345 rfl rfl ?_
  refine xe_iconst (v := nI 3) dL_law_346 xc3 ?_
  refine xn_iadd dL_law_347 ?_
  refine xl_sld (hu1.trans hu) hn hN (by omega) dL_law_348 ?_
  refine xe_callV (As := [.int (Z (i + 1 + 1)), .int (Z (i + 2 + 1)), .int (Z (i + 3 + 1))]) (rest := [.int v]) dL_law_349 wX10_row lL_37 iX10_row sX10_row ⟨by decide, by decide⟩ sh172 rfl (xin_mm (by decide)) rfl rfl (by simp [Value.category]) ?_
  refine h.mono ?_
  rintro r μ ⟨rfl, u2, rfl, hu2, h⟩
  exact xe_icmp_eq 969 dL_law_352 (by decide) (fun _ => next u2 (hu2.trans hu) h) (fun q => absurd rfl q)
theorem lc_5 {Z : Nat → Int32} {N i : Nat} {u : xU} {Q : Option Value → xM → Prop} (hn : Z 0 = nI N) (hN : N ≤ 2560) (hi : i + 5 ≤ N) (hu : u.1 0 = Z) (next : ∀ u2 : xU, u2.1 0 = Z → LV u2 → xE mL_law 969 [(0, .ref 0), (1, .ref 1), (2, .ref 172), (3, .int (nI i))] [] (xmm u2) Q) (h : TW Value.int mX9_ask mX10_ask [.int (Z (i + 1 + 1))] u) : xE mL_law 357 [(0, .ref 0), (1, .ref 1), (2, .ref 172), (3, .int (nI i))] [] (xmm u) Q := by
  refine xe_aload_n 1 dL_law_357 rfl rfl ?_
  refine xe_aload_n 0 dL_law_358 rfl rfl ?_
  refine xe_iload_n 3 dL_law_359 rfl rfl ?_
  refine xe_iconst (v := nI 1) dL_law_360 xc1 ?_
  refine xn_iadd dL_law_361 ?_
  refine xl_sld hu hn hN (by omega) dL_law_362 ?_
  refine xe_callV (As := [.int (Z (i + 1 + 1))]) (rest := []) dL_law_363 wX9_ask lL_38 iX9_ask sX9_ask ⟨by decide, by decide⟩ sh1 rfl (xin_mm (by decide)) rfl rfl (by simp [Value.category]) ?_
  refine h.mono ?_
  rintro r μ ⟨v, u1, rfl, rfl, hu1, h⟩
  refine xe_aload_n 2 dL_law_366 rfl rfl ?_
  refine xe_aload_n 0 dL_law_367 rfl rfl ?_
  refine xe_iload_n 3 dL_law_368 rfl rfl ?_
  refine xe_iconst (v := nI 1) dL_law_369 xc1 ?_
  refine xn_iadd dL_law_370 ?_
  refine xl_sld (hu1.trans hu) hn hN (by omega) dL_law_371 ?_
  refine xe_callV (As := [.int (Z (i + 1 + 1))]) (rest := [.int v]) dL_law_372 wX10_ask lL_42 iX10_ask sX10_ask ⟨by decide, by decide⟩ sh172 rfl (xin_mm (by decide)) rfl rfl (by simp [Value.category]) ?_
  refine h.mono ?_
  rintro r μ ⟨rfl, u2, rfl, hu2, h⟩
  exact xe_icmp_eq 969 dL_law_375 (by decide) (fun _ => next u2 (hu2.trans hu) h) (fun q => absurd rfl q)
theorem lc_6 {Z : Nat → Int32} {N i : Nat} {u : xU} {Q : Option Value → xM → Prop} (hn : Z 0 = nI N) (hN : N ≤ 2560) (hi : i + 5 ≤ N) (hu : u.1 0 = Z) (next : ∀ u2 : xU, u2.1 0 = Z → LV u2 → xE mL_law 969 [(0, .ref 0), (1, .ref 1), (2, .ref 172), (3, .int (nI i))] [] (xmm u2) Q) (h : TW Value.int mX9_part mX10_part [.int (Z (i + 1 + 1)), .int (Z (i + 2 + 1))] u) : xE mL_law 380 [(0, .ref 0), (1, .ref 1), (2, .ref 172), (3, .int (nI i))] [] (xmm u) Q := by
  refine xe_aload_n 1 dL_law_380 rfl rfl ?_
  refine xe_aload_n 0 dL_law_381 rfl rfl ?_
  refine xe_iload_n 3 dL_law_382 rfl rfl ?_
  refine xe_iconst (v := nI 1) dL_law_383 xc1 ?_
  refine xn_iadd dL_law_384 ?_
  refine xl_sld hu hn hN (by omega) dL_law_385 ?_
  refine xe_aload_n 0 dL_law_386 rfl rfl ?_
  refine xe_iload_n 3 dL_law_387 rfl rfl ?_
  refine xe_iconst (v := nI 2) dL_law_388 xc2 ?_
  refine xn_iadd dL_law_389 ?_
  refine xl_sld hu hn hN (by omega) dL_law_390 ?_
  refine xe_callV (As := [.int (Z (i + 1 + 1)), .int (Z (i + 2 + 1))]) (rest := []) dL_law_391 wX9_part lL_43 iX9_part sX9_part ⟨by decide, by decide⟩ sh1 rfl (xin_mm (by decide)) rfl rfl (by simp [Value.category]) ?_
  refine h.mono ?_
  rintro r μ ⟨v, u1, rfl, rfl, hu1, h⟩
  refine xe_aload_n 2 dL_law_394 rfl rfl ?_
  refine xe_aload_n 0 dL_law_395 rfl rfl ?_
  refine xe_iload_n 3 dL_law_396 rfl rfl ?_
  refine xe_iconst (v := nI 1) dL_law_397 xc1 ?_
  refine xn_iadd dL_law_398 ?_
  refine xl_sld (hu1.trans hu) hn hN (by omega) dL_law_399 ?_
  refine xe_aload_n 0 dL_law_400 rfl rfl ?_
  refine xe_iload_n 3 dL_law_401 rfl rfl ?_
  refine xe_iconst (v := nI 2) dL_law_402 xc2 ?_
  refine xn_iadd dL_law_403 ?_
  refine xl_sld (hu1.trans hu) hn hN (by omega) dL_law_404 ?_
  refine xe_callV (As := [.int (Z (i + 1 + 1)), .int (Z (i + 2 + 1))]) (rest := [.int v]) dL_law_405 wX10_part lL_47 iX10_part sX10_part ⟨by decide, by decide⟩ sh172 rfl (xin_mm (by decide)) rfl rfl (by simp [Value.category]) ?_
  refine h.mono ?_
  rintro r μ ⟨rfl, u2, rfl, hu2, h⟩
  exact xe_icmp_eq 969 dL_law_408 (by decide) (fun _ => next u2 (hu2.trans hu) h) (fun q => absurd rfl q)
theorem lc_7 {Z : Nat → Int32} {N i : Nat} {u : xU} {Q : Option Value → xM → Prop} (hn : Z 0 = nI N) (hN : N ≤ 2560) (hi : i + 5 ≤ N) (hu : u.1 0 = Z) (next : ∀ u2 : xU, u2.1 0 = Z → LV u2 → xE mL_law 969 [(0, .ref 0), (1, .ref 1), (2, .ref 172), (3, .int (nI i))] [] (xmm u2) Q) (h : TW Value.int mX9_name mX10_name [.int (Z (i + 1 + 1))] u) : xE mL_law 413 [(0, .ref 0), (1, .ref 1), (2, .ref 172), (3, .int (nI i))] [] (xmm u) Q := by
  refine xe_aload_n 1 dL_law_413 rfl rfl ?_
  refine xe_aload_n 0 dL_law_414 rfl rfl ?_
  refine xe_iload_n 3 dL_law_415 rfl rfl ?_
  refine xe_iconst (v := nI 1) dL_law_416 xc1 ?_
  refine xn_iadd dL_law_417 ?_
  refine xl_sld hu hn hN (by omega) dL_law_418 ?_
  refine xe_callV (As := [.int (Z (i + 1 + 1))]) (rest := []) dL_law_419 wX9_name lL_48 iX9_name sX9_name ⟨by decide, by decide⟩ sh1 rfl (xin_mm (by decide)) rfl rfl (by simp [Value.category]) ?_
  refine h.mono ?_
  rintro r μ ⟨v, u1, rfl, rfl, hu1, h⟩
  refine xe_aload_n 2 dL_law_422 rfl rfl ?_
  refine xe_aload_n 0 dL_law_423 rfl rfl ?_
  refine xe_iload_n 3 dL_law_424 rfl rfl ?_
  refine xe_iconst (v := nI 1) dL_law_425 xc1 ?_
  refine xn_iadd dL_law_426 ?_
  refine xl_sld (hu1.trans hu) hn hN (by omega) dL_law_427 ?_
  refine xe_callV (As := [.int (Z (i + 1 + 1))]) (rest := [.int v]) dL_law_428 wX10_name lL_51 iX10_name sX10_name ⟨by decide, by decide⟩ sh172 rfl (xin_mm (by decide)) rfl rfl (by simp [Value.category]) ?_
  refine h.mono ?_
  rintro r μ ⟨rfl, u2, rfl, hu2, h⟩
  exact xe_icmp_eq 969 dL_law_431 (by decide) (fun _ => next u2 (hu2.trans hu) h) (fun q => absurd rfl q)
theorem lc_8 {Z : Nat → Int32} {N i : Nat} {u : xU} {Q : Option Value → xM → Prop} (hn : Z 0 = nI N) (hN : N ≤ 2560) (hi : i + 5 ≤ N) (hu : u.1 0 = Z) (next : ∀ u2 : xU, u2.1 0 = Z → LV u2 → xE mL_law 969 [(0, .ref 0), (1, .ref 1), (2, .ref 172), (3, .int (nI i))] [] (xmm u2) Q) (h : TW Value.int mX9_value mX10_value [.int (Z (i + 1 + 1))] u) : xE mL_law 436 [(0, .ref 0), (1, .ref 1), (2, .ref 172), (3, .int (nI i))] [] (xmm u) Q := by
  refine xe_aload_n 1 dL_law_436 rfl rfl ?_
  refine xe_aload_n 0 dL_law_437 rfl rfl ?_
  refine xe_iload_n 3 dL_law_438 rfl rfl ?_
  refine xe_iconst (v := nI 1) dL_law_439 xc1 ?_
  refine xn_iadd dL_law_440 ?_
  refine xl_sld hu hn hN (by omega) dL_law_441 ?_
  refine xe_callV (As := [.int (Z (i + 1 + 1))]) (rest := []) dL_law_442 wX9_value lL_52 iX9_value sX9_value ⟨by decide, by decide⟩ sh1 rfl (xin_mm (by decide)) rfl rfl (by simp [Value.category]) ?_
  refine h.mono ?_
  rintro r μ ⟨v, u1, rfl, rfl, hu1, h⟩
  refine xe_aload_n 2 dL_law_445 rfl rfl ?_
  refine xe_aload_n 0 dL_law_446 rfl rfl ?_
  refine xe_iload_n 3 dL_law_447 rfl rfl ?_
  refine xe_iconst (v := nI 1) dL_law_448 xc1 ?_
  refine xn_iadd dL_law_449 ?_
  refine xl_sld (hu1.trans hu) hn hN (by omega) dL_law_450 ?_
  refine xe_callV (As := [.int (Z (i + 1 + 1))]) (rest := [.int v]) dL_law_451 wX10_value lL_55 iX10_value sX10_value ⟨by decide, by decide⟩ sh172 rfl (xin_mm (by decide)) rfl rfl (by simp [Value.category]) ?_
  refine h.mono ?_
  rintro r μ ⟨rfl, u2, rfl, hu2, h⟩
  exact xe_icmp_eq 969 dL_law_454 (by decide) (fun _ => next u2 (hu2.trans hu) h) (fun q => absurd rfl q)
theorem lc_9 {Z : Nat → Int32} {N i : Nat} {u : xU} {Q : Option Value → xM → Prop} (hn : Z 0 = nI N) (hN : N ≤ 2560) (hi : i + 5 ≤ N) (hu : u.1 0 = Z) (next : ∀ u2 : xU, u2.1 0 = Z → LV u2 → xE mL_law 969 [(0, .ref 0), (1, .ref 1), (2, .ref 172), (3, .int (nI i))] [] (xmm u2) Q) (h : TW Value.int mX9_compare mX10_compare [.int (Z (i + 1 + 1)), .int (Z (i + 2 + 1)), .int (bz (Z (i + 3 + 1))), .int (Z (i + 4 + 1))] u) : xE mL_law 459 [(0, .ref 0), (1, .ref 1), (2, .ref 172), (3, .int (nI i))] [] (xmm u) Q := by
  refine xe_aload_n 1 dL_law_459 rfl rfl ?_
  refine xe_aload_n 0 dL_law_460 rfl rfl ?_
  refine xe_iload_n 3 dL_law_461 rfl rfl ?_
  refine xe_iconst (v := nI 1) dL_law_462 xc1 ?_
  refine xn_iadd dL_law_463 ?_
  refine xl_sld hu hn hN (by omega) dL_law_464 ?_
  refine xe_aload_n 0 dL_law_465 rfl rfl ?_
  refine xe_iload_n 3 dL_law_466 rfl rfl ?_
  refine xe_iconst (v := nI 2) dL_law_467 xc2 ?_
  refine xn_iadd dL_law_468 ?_
  refine xl_sld hu hn hN (by omega) dL_law_469 ?_
  refine xe_aload_n 0 dL_law_470 rfl rfl ?_
  refine xe_iload_n 3 dL_law_471 rfl rfl ?_
  refine xe_iconst (v := nI 3) dL_law_472 xc3 ?_
  refine xn_iadd dL_law_473 ?_
  refine xl_sld hu hn hN (by omega) dL_law_474 ?_
  refine xl_bz 482 483 dL_law_475 (by decide) dL_law_478 dL_law_479 (by decide) dL_law_482 (by decide) ?_
  refine xe_aload_n 0 dL_law_483 rfl rfl ?_
  refine xe_iload_n 3 dL_law_484 rfl rfl ?_
  refine xe_iconst (v := nI 4) dL_law_485 xc4 ?_
  refine xn_iadd dL_law_486 ?_
  refine xl_sld hu hn hN (by omega) dL_law_487 ?_
  refine xe_callV (As := [.int (Z (i + 1 + 1)), .int (Z (i + 2 + 1)), .int (bz (Z (i + 3 + 1))), .int (Z (i + 4 + 1))]) (rest := []) dL_law_488 wX9_compare lL_56 iX9_compare sX9_compare ⟨by decide, by decide⟩ sh1 rfl (xin_mm (by decide)) rfl rfl (by simp [Value.category]) ?_
  refine h.mono ?_
  rintro r μ ⟨v, u1, rfl, rfl, hu1, h⟩
  refine xe_aload_n 2 dL_law_491 rfl rfl ?_
  refine xe_aload_n 0 dL_law_492 rfl rfl ?_
  refine xe_iload_n 3 dL_law_493 rfl rfl ?_
  refine xe_iconst (v := nI 1) dL_law_494 xc1 ?_
  refine xn_iadd dL_law_495 ?_
  refine xl_sld (hu1.trans hu) hn hN (by omega) dL_law_496 ?_
  refine xe_aload_n 0 dL_law_497 rfl rfl ?_
  refine xe_iload_n 3 dL_law_498 rfl rfl ?_
  refine xe_iconst (v := nI 2) dL_law_499 xc2 ?_
  refine xn_iadd dL_law_500 ?_
  refine xl_sld (hu1.trans hu) hn hN (by omega) dL_law_501 ?_
  refine xe_aload_n 0 dL_law_502 rfl rfl ?_
  refine xe_iload_n 3 dL_law_503 rfl rfl ?_
  refine xe_iconst (v := nI 3) dL_law_504 xc3 ?_
  refine xn_iadd dL_law_505 ?_
  refine xl_sld (hu1.trans hu) hn hN (by omega) dL_law_506 ?_
  refine xl_bz 514 515 dL_law_507 (by decide) dL_law_510 dL_law_511 (by decide) dL_law_514 (by decide) ?_
  refine xe_aload_n 0 dL_law_515 rfl rfl ?_
  refine xe_iload_n 3 dL_law_516 rfl rfl ?_
  refine xe_iconst (v := nI 4) dL_law_517 xc4 ?_
  refine xn_iadd dL_law_518 ?_
  refine xl_sld (hu1.trans hu) hn hN (by omega) dL_law_519 ?_
  refine xe_callV (As := [.int (Z (i + 1 + 1)), .int (Z (i + 2 + 1)), .int (bz (Z (i + 3 + 1))), .int (Z (i + 4 + 1))]) (rest := [.int v]) dL_law_520 wX10_compare lL_60 iX10_compare sX10_compare ⟨by decide, by decide⟩ sh172 rfl (xin_mm (by decide)) rfl rfl (by simp [Value.category]) ?_
  refine h.mono ?_
  rintro r μ ⟨rfl, u2, rfl, hu2, h⟩
  exact xe_icmp_eq 969 dL_law_523 (by decide) (fun _ => next u2 (hu2.trans hu) h) (fun q => absurd rfl q)
theorem lc_10 {Z : Nat → Int32} {N i : Nat} {u : xU} {Q : Option Value → xM → Prop} (hn : Z 0 = nI N) (hN : N ≤ 2560) (hi : i + 5 ≤ N) (hu : u.1 0 = Z) (next : ∀ u2 : xU, u2.1 0 = Z → LV u2 → xE mL_law 969 [(0, .ref 0), (1, .ref 1), (2, .ref 172), (3, .int (nI i))] [] (xmm u2) Q) (h : TW Value.int mX9_order mX10_order [.int (Z (i + 1 + 1)), .int (Z (i + 2 + 1))] u) : xE mL_law 528 [(0, .ref 0), (1, .ref 1), (2, .ref 172), (3, .int (nI i))] [] (xmm u) Q := by
  refine xe_aload_n 1 dL_law_528 rfl rfl ?_
  refine xe_aload_n 0 dL_law_529 rfl rfl ?_
  refine xe_iload_n 3 dL_law_530 rfl rfl ?_
  refine xe_iconst (v := nI 1) dL_law_531 xc1 ?_
  refine xn_iadd dL_law_532 ?_
  refine xl_sld hu hn hN (by omega) dL_law_533 ?_
  refine xe_aload_n 0 dL_law_534 rfl rfl ?_
  refine xe_iload_n 3 dL_law_535 rfl rfl ?_
  refine xe_iconst (v := nI 2) dL_law_536 xc2 ?_
  refine xn_iadd dL_law_537 ?_
  refine xl_sld hu hn hN (by omega) dL_law_538 ?_
  refine xe_callV (As := [.int (Z (i + 1 + 1)), .int (Z (i + 2 + 1))]) (rest := []) dL_law_539 wX9_order lL_61 iX9_order sX9_order ⟨by decide, by decide⟩ sh1 rfl (xin_mm (by decide)) rfl rfl (by simp [Value.category]) ?_
  refine h.mono ?_
  rintro r μ ⟨v, u1, rfl, rfl, hu1, h⟩
  refine xe_aload_n 2 dL_law_542 rfl rfl ?_
  refine xe_aload_n 0 dL_law_543 rfl rfl ?_
  refine xe_iload_n 3 dL_law_544 rfl rfl ?_
  refine xe_iconst (v := nI 1) dL_law_545 xc1 ?_
  refine xn_iadd dL_law_546 ?_
  refine xl_sld (hu1.trans hu) hn hN (by omega) dL_law_547 ?_
  refine xe_aload_n 0 dL_law_548 rfl rfl ?_
  refine xe_iload_n 3 dL_law_549 rfl rfl ?_
  refine xe_iconst (v := nI 2) dL_law_550 xc2 ?_
  refine xn_iadd dL_law_551 ?_
  refine xl_sld (hu1.trans hu) hn hN (by omega) dL_law_552 ?_
  refine xe_callV (As := [.int (Z (i + 1 + 1)), .int (Z (i + 2 + 1))]) (rest := [.int v]) dL_law_553 wX10_order lL_64 iX10_order sX10_order ⟨by decide, by decide⟩ sh172 rfl (xin_mm (by decide)) rfl rfl (by simp [Value.category]) ?_
  refine h.mono ?_
  rintro r μ ⟨rfl, u2, rfl, hu2, h⟩
  exact xe_icmp_eq 969 dL_law_556 (by decide) (fun _ => next u2 (hu2.trans hu) h) (fun q => absurd rfl q)
theorem lc_11 {Z : Nat → Int32} {N i : Nat} {u : xU} {Q : Option Value → xM → Prop} (hn : Z 0 = nI N) (hN : N ≤ 2560) (hi : i + 5 ≤ N) (hu : u.1 0 = Z) (next : ∀ u2 : xU, u2.1 0 = Z → LV u2 → xE mL_law 969 [(0, .ref 0), (1, .ref 1), (2, .ref 172), (3, .int (nI i))] [] (xmm u2) Q) (h : TW Value.int mX9_weave mX10_weave [] u) : xE mL_law 561 [(0, .ref 0), (1, .ref 1), (2, .ref 172), (3, .int (nI i))] [] (xmm u) Q := by
  refine xe_aload_n 1 dL_law_561 rfl rfl ?_
  refine xe_callV (As := []) (rest := []) dL_law_562 wX9_weave lL_65 iX9_weave sX9_weave ⟨by decide, by decide⟩ sh1 rfl (xin_mm (by decide)) rfl rfl (by simp [Value.category]) ?_
  refine h.mono ?_
  rintro r μ ⟨v, u1, rfl, rfl, hu1, h⟩
  refine xe_aload_n 2 dL_law_565 rfl rfl ?_
  refine xe_callV (As := []) (rest := [.int v]) dL_law_566 wX10_weave lL_69 iX10_weave sX10_weave ⟨by decide, by decide⟩ sh172 rfl (xin_mm (by decide)) rfl rfl (by simp [Value.category]) ?_
  refine h.mono ?_
  rintro r μ ⟨rfl, u2, rfl, hu2, h⟩
  exact xe_icmp_eq 969 dL_law_569 (by decide) (fun _ => next u2 (hu2.trans hu) h) (fun q => absurd rfl q)
theorem lc_12 {Z : Nat → Int32} {N i : Nat} {u : xU} {Q : Option Value → xM → Prop} (hn : Z 0 = nI N) (hN : N ≤ 2560) (hi : i + 5 ≤ N) (hu : u.1 0 = Z) (next : ∀ u2 : xU, u2.1 0 = Z → LV u2 → xE mL_law 969 [(0, .ref 0), (1, .ref 1), (2, .ref 172), (3, .int (nI i))] [] (xmm u2) Q) (h : TW Value.int mX9_answer mX10_answer [.int (Z (i + 1 + 1)), .int (Z (i + 2 + 1))] u) : xE mL_law 574 [(0, .ref 0), (1, .ref 1), (2, .ref 172), (3, .int (nI i))] [] (xmm u) Q := by
  refine xe_aload_n 1 dL_law_574 rfl rfl ?_
  refine xe_aload_n 0 dL_law_575 rfl rfl ?_
  refine xe_iload_n 3 dL_law_576 rfl rfl ?_
  refine xe_iconst (v := nI 1) dL_law_577 xc1 ?_
  refine xn_iadd dL_law_578 ?_
  refine xl_sld hu hn hN (by omega) dL_law_579 ?_
  refine xe_aload_n 0 dL_law_580 rfl rfl ?_
  refine xe_iload_n 3 dL_law_581 rfl rfl ?_
  refine xe_iconst (v := nI 2) dL_law_582 xc2 ?_
  refine xn_iadd dL_law_583 ?_
  refine xl_sld hu hn hN (by omega) dL_law_584 ?_
  refine xe_callV (As := [.int (Z (i + 1 + 1)), .int (Z (i + 2 + 1))]) (rest := []) dL_law_585 wX9_answer lL_70 iX9_answer sX9_answer ⟨by decide, by decide⟩ sh1 rfl (xin_mm (by decide)) rfl rfl (by simp [Value.category]) ?_
  refine h.mono ?_
  rintro r μ ⟨v, u1, rfl, rfl, hu1, h⟩
  refine xe_aload_n 2 dL_law_588 rfl rfl ?_
  refine xe_aload_n 0 dL_law_589 rfl rfl ?_
  refine xe_iload_n 3 dL_law_590 rfl rfl ?_
  refine xe_iconst (v := nI 1) dL_law_591 xc1 ?_
  refine xn_iadd dL_law_592 ?_
  refine xl_sld (hu1.trans hu) hn hN (by omega) dL_law_593 ?_
  refine xe_aload_n 0 dL_law_594 rfl rfl ?_
  refine xe_iload_n 3 dL_law_595 rfl rfl ?_
  refine xe_iconst (v := nI 2) dL_law_596 xc2 ?_
  refine xn_iadd dL_law_597 ?_
  refine xl_sld (hu1.trans hu) hn hN (by omega) dL_law_598 ?_
  refine xe_callV (As := [.int (Z (i + 1 + 1)), .int (Z (i + 2 + 1))]) (rest := [.int v]) dL_law_599 wX10_answer lL_73 iX10_answer sX10_answer ⟨by decide, by decide⟩ sh172 rfl (xin_mm (by decide)) rfl rfl (by simp [Value.category]) ?_
  refine h.mono ?_
  rintro r μ ⟨rfl, u2, rfl, hu2, h⟩
  exact xe_icmp_eq 969 dL_law_602 (by decide) (fun _ => next u2 (hu2.trans hu) h) (fun q => absurd rfl q)
theorem lc_13 {Z : Nat → Int32} {N i : Nat} {u : xU} {Q : Option Value → xM → Prop} (hn : Z 0 = nI N) (hN : N ≤ 2560) (hi : i + 5 ≤ N) (hu : u.1 0 = Z) (next : ∀ u2 : xU, u2.1 0 = Z → LV u2 → xE mL_law 969 [(0, .ref 0), (1, .ref 1), (2, .ref 172), (3, .int (nI i))] [] (xmm u2) Q) (h : TW Value.int mX9_meetings mX10_meetings [.int (Z (i + 1 + 1))] u) : xE mL_law 607 [(0, .ref 0), (1, .ref 1), (2, .ref 172), (3, .int (nI i))] [] (xmm u) Q := by
  refine xe_aload_n 1 dL_law_607 rfl rfl ?_
  refine xe_aload_n 0 dL_law_608 rfl rfl ?_
  refine xe_iload_n 3 dL_law_609 rfl rfl ?_
  refine xe_iconst (v := nI 1) dL_law_610 xc1 ?_
  refine xn_iadd dL_law_611 ?_
  refine xl_sld hu hn hN (by omega) dL_law_612 ?_
  refine xe_callV (As := [.int (Z (i + 1 + 1))]) (rest := []) dL_law_613 wX9_meetings lL_74 iX9_meetings sX9_meetings ⟨by decide, by decide⟩ sh1 rfl (xin_mm (by decide)) rfl rfl (by simp [Value.category]) ?_
  refine h.mono ?_
  rintro r μ ⟨v, u1, rfl, rfl, hu1, h⟩
  refine xe_aload_n 2 dL_law_616 rfl rfl ?_
  refine xe_aload_n 0 dL_law_617 rfl rfl ?_
  refine xe_iload_n 3 dL_law_618 rfl rfl ?_
  refine xe_iconst (v := nI 1) dL_law_619 xc1 ?_
  refine xn_iadd dL_law_620 ?_
  refine xl_sld (hu1.trans hu) hn hN (by omega) dL_law_621 ?_
  refine xe_callV (As := [.int (Z (i + 1 + 1))]) (rest := [.int v]) dL_law_622 wX10_meetings lL_77 iX10_meetings sX10_meetings ⟨by decide, by decide⟩ sh172 rfl (xin_mm (by decide)) rfl rfl (by simp [Value.category]) ?_
  refine h.mono ?_
  rintro r μ ⟨rfl, u2, rfl, hu2, h⟩
  exact xe_icmp_eq 969 dL_law_625 (by decide) (fun _ => next u2 (hu2.trans hu) h) (fun q => absurd rfl q)
theorem lc_14 {Z : Nat → Int32} {N i : Nat} {u : xU} {Q : Option Value → xM → Prop} (hn : Z 0 = nI N) (hN : N ≤ 2560) (hi : i + 5 ≤ N) (hu : u.1 0 = Z) (next : ∀ u2 : xU, u2.1 0 = Z → LV u2 → xE mL_law 969 [(0, .ref 0), (1, .ref 1), (2, .ref 172), (3, .int (nI i))] [] (xmm u2) Q) (h : TW Value.int mX9_witness mX10_witness [.int (Z (i + 1 + 1)), .int (Z (i + 2 + 1))] u) : xE mL_law 630 [(0, .ref 0), (1, .ref 1), (2, .ref 172), (3, .int (nI i))] [] (xmm u) Q := by
  refine xe_aload_n 1 dL_law_630 rfl rfl ?_
  refine xe_aload_n 0 dL_law_631 rfl rfl ?_
  refine xe_iload_n 3 dL_law_632 rfl rfl ?_
  refine xe_iconst (v := nI 1) dL_law_633 xc1 ?_
  refine xn_iadd dL_law_634 ?_
  refine xl_sld hu hn hN (by omega) dL_law_635 ?_
  refine xe_aload_n 0 dL_law_636 rfl rfl ?_
  refine xe_iload_n 3 dL_law_637 rfl rfl ?_
  refine xe_iconst (v := nI 2) dL_law_638 xc2 ?_
  refine xn_iadd dL_law_639 ?_
  refine xl_sld hu hn hN (by omega) dL_law_640 ?_
  refine xe_callV (As := [.int (Z (i + 1 + 1)), .int (Z (i + 2 + 1))]) (rest := []) dL_law_641 wX9_witness lL_78 iX9_witness sX9_witness ⟨by decide, by decide⟩ sh1 rfl (xin_mm (by decide)) rfl rfl (by simp [Value.category]) ?_
  refine h.mono ?_
  rintro r μ ⟨v, u1, rfl, rfl, hu1, h⟩
  refine xe_aload_n 2 dL_law_644 rfl rfl ?_
  refine xe_aload_n 0 dL_law_645 rfl rfl ?_
  refine xe_iload_n 3 dL_law_646 rfl rfl ?_
  refine xe_iconst (v := nI 1) dL_law_647 xc1 ?_
  refine xn_iadd dL_law_648 ?_
  refine xl_sld (hu1.trans hu) hn hN (by omega) dL_law_649 ?_
  refine xe_aload_n 0 dL_law_650 rfl rfl ?_
  refine xe_iload_n 3 dL_law_651 rfl rfl ?_
  refine xe_iconst (v := nI 2) dL_law_652 xc2 ?_
  refine xn_iadd dL_law_653 ?_
  refine xl_sld (hu1.trans hu) hn hN (by omega) dL_law_654 ?_
  refine xe_callV (As := [.int (Z (i + 1 + 1)), .int (Z (i + 2 + 1))]) (rest := [.int v]) dL_law_655 wX10_witness lL_81 iX10_witness sX10_witness ⟨by decide, by decide⟩ sh172 rfl (xin_mm (by decide)) rfl rfl (by simp [Value.category]) ?_
  refine h.mono ?_
  rintro r μ ⟨rfl, u2, rfl, hu2, h⟩
  exact xe_icmp_eq 969 dL_law_658 (by decide) (fun _ => next u2 (hu2.trans hu) h) (fun q => absurd rfl q)
theorem lc_15 {Z : Nat → Int32} {N i : Nat} {u : xU} {Q : Option Value → xM → Prop} (hn : Z 0 = nI N) (hN : N ≤ 2560) (hi : i + 5 ≤ N) (hu : u.1 0 = Z) (next : ∀ u2 : xU, u2.1 0 = Z → LV u2 → xE mL_law 969 [(0, .ref 0), (1, .ref 1), (2, .ref 172), (3, .int (nI i))] [] (xmm u2) Q) (h : TW Value.long mX9_sum mX10_sum [.int (Z (i + 1 + 1)), .int (Z (i + 2 + 1))] u) : xE mL_law 663 [(0, .ref 0), (1, .ref 1), (2, .ref 172), (3, .int (nI i))] [] (xmm u) Q := by
  refine xe_aload_n 1 dL_law_663 rfl rfl ?_
  refine xe_aload_n 0 dL_law_664 rfl rfl ?_
  refine xe_iload_n 3 dL_law_665 rfl rfl ?_
  refine xe_iconst (v := nI 1) dL_law_666 xc1 ?_
  refine xn_iadd dL_law_667 ?_
  refine xl_sld hu hn hN (by omega) dL_law_668 ?_
  refine xe_aload_n 0 dL_law_669 rfl rfl ?_
  refine xe_iload_n 3 dL_law_670 rfl rfl ?_
  refine xe_iconst (v := nI 2) dL_law_671 xc2 ?_
  refine xn_iadd dL_law_672 ?_
  refine xl_sld hu hn hN (by omega) dL_law_673 ?_
  refine xe_callV (As := [.int (Z (i + 1 + 1)), .int (Z (i + 2 + 1))]) (rest := []) dL_law_674 wX9_sum lL_82 iX9_sum sX9_sum ⟨by decide, by decide⟩ sh1 rfl (xin_mm (by decide)) rfl rfl (by simp [Value.category]) ?_
  refine h.mono ?_
  rintro r μ ⟨v, u1, rfl, rfl, hu1, h⟩
  refine xe_aload_n 2 dL_law_677 rfl rfl ?_
  refine xe_aload_n 0 dL_law_678 rfl rfl ?_
  refine xe_iload_n 3 dL_law_679 rfl rfl ?_
  refine xe_iconst (v := nI 1) dL_law_680 xc1 ?_
  refine xn_iadd dL_law_681 ?_
  refine xl_sld (hu1.trans hu) hn hN (by omega) dL_law_682 ?_
  refine xe_aload_n 0 dL_law_683 rfl rfl ?_
  refine xe_iload_n 3 dL_law_684 rfl rfl ?_
  refine xe_iconst (v := nI 2) dL_law_685 xc2 ?_
  refine xn_iadd dL_law_686 ?_
  refine xl_sld (hu1.trans hu) hn hN (by omega) dL_law_687 ?_
  refine xe_callV (As := [.int (Z (i + 1 + 1)), .int (Z (i + 2 + 1))]) (rest := [.long v]) dL_law_688 wX10_sum lL_86 iX10_sum sX10_sum ⟨by decide, by decide⟩ sh172 rfl (xin_mm (by decide)) rfl rfl (by simp [Value.category]) ?_
  refine h.mono ?_
  rintro r μ ⟨rfl, u2, rfl, hu2, h⟩
  refine xe_lcmp dL_law_691 ?_
  rw [lg_self]
  exact xe_if_eq 969 dL_law_692 (by decide) (fun _ => next u2 (hu2.trans hu) h) (fun q => absurd rfl q)
theorem lc_16 {Z : Nat → Int32} {N i : Nat} {u : xU} {Q : Option Value → xM → Prop} (hn : Z 0 = nI N) (hN : N ≤ 2560) (hi : i + 5 ≤ N) (hu : u.1 0 = Z) (next : ∀ u2 : xU, u2.1 0 = Z → LV u2 → xE mL_law 969 [(0, .ref 0), (1, .ref 1), (2, .ref 172), (3, .int (nI i))] [] (xmm u2) Q) (h : TW Value.long mX9_group mX10_group [.int (Z (i + 1 + 1)), .int (Z (i + 2 + 1)), .int (Z (i + 3 + 1)), .int (Z (i + 4 + 1))] u) : xE mL_law 697 [(0, .ref 0), (1, .ref 1), (2, .ref 172), (3, .int (nI i))] [] (xmm u) Q := by
  refine xe_aload_n 1 dL_law_697 rfl rfl ?_
  refine xe_aload_n 0 dL_law_698 rfl rfl ?_
  refine xe_iload_n 3 dL_law_699 rfl rfl ?_
  refine xe_iconst (v := nI 1) dL_law_700 xc1 ?_
  refine xn_iadd dL_law_701 ?_
  refine xl_sld hu hn hN (by omega) dL_law_702 ?_
  refine xe_aload_n 0 dL_law_703 rfl rfl ?_
  refine xe_iload_n 3 dL_law_704 rfl rfl ?_
  refine xe_iconst (v := nI 2) dL_law_705 xc2 ?_
  refine xn_iadd dL_law_706 ?_
  refine xl_sld hu hn hN (by omega) dL_law_707 ?_
  refine xe_aload_n 0 dL_law_708 rfl rfl ?_
  refine xe_iload_n 3 dL_law_709 rfl rfl ?_
  refine xe_iconst (v := nI 3) dL_law_710 xc3 ?_
  refine xn_iadd dL_law_711 ?_
  refine xl_sld hu hn hN (by omega) dL_law_712 ?_
  refine xe_aload_n 0 dL_law_713 rfl rfl ?_
  refine xe_iload_n 3 dL_law_714 rfl rfl ?_
  refine xe_iconst (v := nI 4) dL_law_715 xc4 ?_
  refine xn_iadd dL_law_716 ?_
  refine xl_sld hu hn hN (by omega) dL_law_717 ?_
  refine xe_callV (As := [.int (Z (i + 1 + 1)), .int (Z (i + 2 + 1)), .int (Z (i + 3 + 1)), .int (Z (i + 4 + 1))]) (rest := []) dL_law_718 wX9_group lL_87 iX9_group sX9_group ⟨by decide, by decide⟩ sh1 rfl (xin_mm (by decide)) rfl rfl (by simp [Value.category]) ?_
  refine h.mono ?_
  rintro r μ ⟨v, u1, rfl, rfl, hu1, h⟩
  refine xe_aload_n 2 dL_law_721 rfl rfl ?_
  refine xe_aload_n 0 dL_law_722 rfl rfl ?_
  refine xe_iload_n 3 dL_law_723 rfl rfl ?_
  refine xe_iconst (v := nI 1) dL_law_724 xc1 ?_
  refine xn_iadd dL_law_725 ?_
  refine xl_sld (hu1.trans hu) hn hN (by omega) dL_law_726 ?_
  refine xe_aload_n 0 dL_law_727 rfl rfl ?_
  refine xe_iload_n 3 dL_law_728 rfl rfl ?_
  refine xe_iconst (v := nI 2) dL_law_729 xc2 ?_
  refine xn_iadd dL_law_730 ?_
  refine xl_sld (hu1.trans hu) hn hN (by omega) dL_law_731 ?_
  refine xe_aload_n 0 dL_law_732 rfl rfl ?_
  refine xe_iload_n 3 dL_law_733 rfl rfl ?_
  refine xe_iconst (v := nI 3) dL_law_734 xc3 ?_
  refine xn_iadd dL_law_735 ?_
  refine xl_sld (hu1.trans hu) hn hN (by omega) dL_law_736 ?_
  refine xe_aload_n 0 dL_law_737 rfl rfl ?_
  refine xe_iload_n 3 dL_law_738 rfl rfl ?_
  refine xe_iconst (v := nI 4) dL_law_739 xc4 ?_
  refine xn_iadd dL_law_740 ?_
  refine xl_sld (hu1.trans hu) hn hN (by omega) dL_law_741 ?_
  refine xe_callV (As := [.int (Z (i + 1 + 1)), .int (Z (i + 2 + 1)), .int (Z (i + 3 + 1)), .int (Z (i + 4 + 1))]) (rest := [.long v]) dL_law_742 wX10_group lL_91 iX10_group sX10_group ⟨by decide, by decide⟩ sh172 rfl (xin_mm (by decide)) rfl rfl (by simp [Value.category]) ?_
  refine h.mono ?_
  rintro r μ ⟨rfl, u2, rfl, hu2, h⟩
  refine xe_lcmp dL_law_745 ?_
  rw [lg_self]
  exact xe_if_eq 969 dL_law_746 (by decide) (fun _ => next u2 (hu2.trans hu) h) (fun q => absurd rfl q)
theorem lc_17 {Z : Nat → Int32} {N i : Nat} {u : xU} {Q : Option Value → xM → Prop} (hn : Z 0 = nI N) (hN : N ≤ 2560) (hi : i + 5 ≤ N) (hu : u.1 0 = Z) (next : ∀ u2 : xU, u2.1 0 = Z → LV u2 → xE mL_law 969 [(0, .ref 0), (1, .ref 1), (2, .ref 172), (3, .int (nI i))] [] (xmm u2) Q) (h : TW Value.int mX9_keep mX10_keep [] u) : xE mL_law 751 [(0, .ref 0), (1, .ref 1), (2, .ref 172), (3, .int (nI i))] [] (xmm u) Q := by
  refine xe_aload_n 1 dL_law_751 rfl rfl ?_
  refine xe_callV (As := []) (rest := []) dL_law_752 wX9_keep lL_92 iX9_keep sX9_keep ⟨by decide, by decide⟩ sh1 rfl (xin_mm (by decide)) rfl rfl (by simp [Value.category]) ?_
  refine h.mono ?_
  rintro r μ ⟨v, u1, rfl, rfl, hu1, h⟩
  refine xe_aload_n 2 dL_law_755 rfl rfl ?_
  refine xe_callV (As := []) (rest := [.int v]) dL_law_756 wX10_keep lL_95 iX10_keep sX10_keep ⟨by decide, by decide⟩ sh172 rfl (xin_mm (by decide)) rfl rfl (by simp [Value.category]) ?_
  refine h.mono ?_
  rintro r μ ⟨rfl, u2, rfl, hu2, h⟩
  exact xe_icmp_eq 969 dL_law_759 (by decide) (fun _ => next u2 (hu2.trans hu) h) (fun q => absurd rfl q)
theorem lc_18 {Z : Nat → Int32} {N i : Nat} {u : xU} {Q : Option Value → xM → Prop} (hn : Z 0 = nI N) (hN : N ≤ 2560) (hi : i + 5 ≤ N) (hu : u.1 0 = Z) (next : ∀ u2 : xU, u2.1 0 = Z → LV u2 → xE mL_law 969 [(0, .ref 0), (1, .ref 1), (2, .ref 172), (3, .int (nI i))] [] (xmm u2) Q) (h : TW Value.int mX9_delta mX10_delta [.int (Z (i + 1 + 1))] u) : xE mL_law 764 [(0, .ref 0), (1, .ref 1), (2, .ref 172), (3, .int (nI i))] [] (xmm u) Q := by
  refine xe_aload_n 1 dL_law_764 rfl rfl ?_
  refine xe_aload_n 0 dL_law_765 rfl rfl ?_
  refine xe_iload_n 3 dL_law_766 rfl rfl ?_
  refine xe_iconst (v := nI 1) dL_law_767 xc1 ?_
  refine xn_iadd dL_law_768 ?_
  refine xl_sld hu hn hN (by omega) dL_law_769 ?_
  refine xe_callV (As := [.int (Z (i + 1 + 1))]) (rest := []) dL_law_770 wX9_delta lL_96 iX9_delta sX9_delta ⟨by decide, by decide⟩ sh1 rfl (xin_mm (by decide)) rfl rfl (by simp [Value.category]) ?_
  refine h.mono ?_
  rintro r μ ⟨v, u1, rfl, rfl, hu1, h⟩
  refine xe_aload_n 2 dL_law_773 rfl rfl ?_
  refine xe_aload_n 0 dL_law_774 rfl rfl ?_
  refine xe_iload_n 3 dL_law_775 rfl rfl ?_
  refine xe_iconst (v := nI 1) dL_law_776 xc1 ?_
  refine xn_iadd dL_law_777 ?_
  refine xl_sld (hu1.trans hu) hn hN (by omega) dL_law_778 ?_
  refine xe_callV (As := [.int (Z (i + 1 + 1))]) (rest := [.int v]) dL_law_779 wX10_delta lL_99 iX10_delta sX10_delta ⟨by decide, by decide⟩ sh172 rfl (xin_mm (by decide)) rfl rfl (by simp [Value.category]) ?_
  refine h.mono ?_
  rintro r μ ⟨rfl, u2, rfl, hu2, h⟩
  exact xe_icmp_eq 969 dL_law_782 (by decide) (fun _ => next u2 (hu2.trans hu) h) (fun q => absurd rfl q)
theorem lc_19 {Z : Nat → Int32} {N i : Nat} {u : xU} {Q : Option Value → xM → Prop} (hn : Z 0 = nI N) (hN : N ≤ 2560) (hi : i + 5 ≤ N) (hu : u.1 0 = Z) (next : ∀ u2 : xU, u2.1 0 = Z → LV u2 → xE mL_law 969 [(0, .ref 0), (1, .ref 1), (2, .ref 172), (3, .int (nI i))] [] (xmm u2) Q) (h : TW Value.int mX9_change mX10_change [.int (Z (i + 1 + 1)), .int (Z (i + 2 + 1)), .int (Z (i + 3 + 1))] u) : xE mL_law 787 [(0, .ref 0), (1, .ref 1), (2, .ref 172), (3, .int (nI i))] [] (xmm u) Q := by
  refine xe_aload_n 1 dL_law_787 rfl rfl ?_
  refine xe_aload_n 0 dL_law_788 rfl rfl ?_
  refine xe_iload_n 3 dL_law_789 rfl rfl ?_
  refine xe_iconst (v := nI 1) dL_law_790 xc1 ?_
  refine xn_iadd dL_law_791 ?_
  refine xl_sld hu hn hN (by omega) dL_law_792 ?_
  refine xe_aload_n 0 dL_law_793 rfl rfl ?_
  refine xe_iload_n 3 dL_law_794 rfl rfl ?_
  refine xe_iconst (v := nI 2) dL_law_795 xc2 ?_
  refine xn_iadd dL_law_796 ?_
  refine xl_sld hu hn hN (by omega) dL_law_797 ?_
  refine xe_aload_n 0 dL_law_798 rfl rfl ?_
  refine xe_iload_n 3 dL_law_799 rfl rfl ?_
  refine xe_iconst (v := nI 3) dL_law_800 xc3 ?_
  refine xn_iadd dL_law_801 ?_
  refine xl_sld hu hn hN (by omega) dL_law_802 ?_
  refine xe_callV (As := [.int (Z (i + 1 + 1)), .int (Z (i + 2 + 1)), .int (Z (i + 3 + 1))]) (rest := []) dL_law_803 wX9_change lL_100 iX9_change sX9_change ⟨by decide, by decide⟩ sh1 rfl (xin_mm (by decide)) rfl rfl (by simp [Value.category]) ?_
  refine h.mono ?_
  rintro r μ ⟨v, u1, rfl, rfl, hu1, h⟩
  refine xe_aload_n 2 dL_law_806 rfl rfl ?_
  refine xe_aload_n 0 dL_law_807 rfl rfl ?_
  refine xe_iload_n 3 dL_law_808 rfl rfl ?_
  refine xe_iconst (v := nI 1) dL_law_809 xc1 ?_
  refine xn_iadd dL_law_810 ?_
  refine xl_sld (hu1.trans hu) hn hN (by omega) dL_law_811 ?_
  refine xe_aload_n 0 dL_law_812 rfl rfl ?_
  refine xe_iload_n 3 dL_law_813 rfl rfl ?_
  refine xe_iconst (v := nI 2) dL_law_814 xc2 ?_
  refine xn_iadd dL_law_815 ?_
  refine xl_sld (hu1.trans hu) hn hN (by omega) dL_law_816 ?_
  refine xe_aload_n 0 dL_law_817 rfl rfl ?_
  refine xe_iload_n 3 dL_law_818 rfl rfl ?_
  refine xe_iconst (v := nI 3) dL_law_819 xc3 ?_
  refine xn_iadd dL_law_820 ?_
  refine xl_sld (hu1.trans hu) hn hN (by omega) dL_law_821 ?_
  refine xe_callV (As := [.int (Z (i + 1 + 1)), .int (Z (i + 2 + 1)), .int (Z (i + 3 + 1))]) (rest := [.int v]) dL_law_822 wX10_change lL_103 iX10_change sX10_change ⟨by decide, by decide⟩ sh172 rfl (xin_mm (by decide)) rfl rfl (by simp [Value.category]) ?_
  refine h.mono ?_
  rintro r μ ⟨rfl, u2, rfl, hu2, h⟩
  exact xe_icmp_eq 969 dL_law_825 (by decide) (fun _ => next u2 (hu2.trans hu) h) (fun q => absurd rfl q)
theorem lc_20 {Z : Nat → Int32} {N i : Nat} {u : xU} {Q : Option Value → xM → Prop} (hn : Z 0 = nI N) (hN : N ≤ 2560) (hi : i + 5 ≤ N) (hu : u.1 0 = Z) (next : ∀ u2 : xU, u2.1 0 = Z → LV u2 → xE mL_law 969 [(0, .ref 0), (1, .ref 1), (2, .ref 172), (3, .int (nI i))] [] (xmm u2) Q) (h : TW Value.long mX9_bound mX10_bound [] u) : xE mL_law 830 [(0, .ref 0), (1, .ref 1), (2, .ref 172), (3, .int (nI i))] [] (xmm u) Q := by
  refine xe_aload_n 1 dL_law_830 rfl rfl ?_
  refine xe_callV (As := []) (rest := []) dL_law_831 wX9_bound lL_104 iX9_bound sX9_bound ⟨by decide, by decide⟩ sh1 rfl (xin_mm (by decide)) rfl rfl (by simp [Value.category]) ?_
  refine h.mono ?_
  rintro r μ ⟨v, u1, rfl, rfl, hu1, h⟩
  refine xe_aload_n 2 dL_law_834 rfl rfl ?_
  refine xe_callV (As := []) (rest := [.long v]) dL_law_835 wX10_bound lL_108 iX10_bound sX10_bound ⟨by decide, by decide⟩ sh172 rfl (xin_mm (by decide)) rfl rfl (by simp [Value.category]) ?_
  refine h.mono ?_
  rintro r μ ⟨rfl, u2, rfl, hu2, h⟩
  refine xe_lcmp dL_law_838 ?_
  rw [lg_self]
  exact xe_if_eq 969 dL_law_839 (by decide) (fun _ => next u2 (hu2.trans hu) h) (fun q => absurd rfl q)
theorem lc_21 {Z : Nat → Int32} {N i : Nat} {u : xU} {Q : Option Value → xM → Prop} (hn : Z 0 = nI N) (hN : N ≤ 2560) (hi : i + 5 ≤ N) (hu : u.1 0 = Z) (next : ∀ u2 : xU, u2.1 0 = Z → LV u2 → xE mL_law 969 [(0, .ref 0), (1, .ref 1), (2, .ref 172), (3, .int (nI i))] [] (xmm u2) Q) (h : TW Value.int mX9_cover mX10_cover [.int (Z (i + 1 + 1))] u) : xE mL_law 844 [(0, .ref 0), (1, .ref 1), (2, .ref 172), (3, .int (nI i))] [] (xmm u) Q := by
  refine xe_aload_n 1 dL_law_844 rfl rfl ?_
  refine xe_aload_n 0 dL_law_845 rfl rfl ?_
  refine xe_iload_n 3 dL_law_846 rfl rfl ?_
  refine xe_iconst (v := nI 1) dL_law_847 xc1 ?_
  refine xn_iadd dL_law_848 ?_
  refine xl_sld hu hn hN (by omega) dL_law_849 ?_
  refine xe_callV (As := [.int (Z (i + 1 + 1))]) (rest := []) dL_law_850 wX9_cover lL_109 iX9_cover sX9_cover ⟨by decide, by decide⟩ sh1 rfl (xin_mm (by decide)) rfl rfl (by simp [Value.category]) ?_
  refine h.mono ?_
  rintro r μ ⟨v, u1, rfl, rfl, hu1, h⟩
  refine xe_aload_n 2 dL_law_853 rfl rfl ?_
  refine xe_aload_n 0 dL_law_854 rfl rfl ?_
  refine xe_iload_n 3 dL_law_855 rfl rfl ?_
  refine xe_iconst (v := nI 1) dL_law_856 xc1 ?_
  refine xn_iadd dL_law_857 ?_
  refine xl_sld (hu1.trans hu) hn hN (by omega) dL_law_858 ?_
  refine xe_callV (As := [.int (Z (i + 1 + 1))]) (rest := [.int v]) dL_law_859 wX10_cover lL_112 iX10_cover sX10_cover ⟨by decide, by decide⟩ sh172 rfl (xin_mm (by decide)) rfl rfl (by simp [Value.category]) ?_
  refine h.mono ?_
  rintro r μ ⟨rfl, u2, rfl, hu2, h⟩
  exact xe_icmp_eq 969 dL_law_862 (by decide) (fun _ => next u2 (hu2.trans hu) h) (fun q => absurd rfl q)
theorem lc_22 {Z : Nat → Int32} {N i : Nat} {u : xU} {Q : Option Value → xM → Prop} (hn : Z 0 = nI N) (hN : N ≤ 2560) (hi : i + 5 ≤ N) (hu : u.1 0 = Z) (next : ∀ u2 : xU, u2.1 0 = Z → LV u2 → xE mL_law 969 [(0, .ref 0), (1, .ref 1), (2, .ref 172), (3, .int (nI i))] [] (xmm u2) Q) (h : TW Value.int mX9_best mX10_best [] u) : xE mL_law 867 [(0, .ref 0), (1, .ref 1), (2, .ref 172), (3, .int (nI i))] [] (xmm u) Q := by
  refine xe_aload_n 1 dL_law_867 rfl rfl ?_
  refine xe_callV (As := []) (rest := []) dL_law_868 wX9_best lL_113 iX9_best sX9_best ⟨by decide, by decide⟩ sh1 rfl (xin_mm (by decide)) rfl rfl (by simp [Value.category]) ?_
  refine h.mono ?_
  rintro r μ ⟨v, u1, rfl, rfl, hu1, h⟩
  refine xe_aload_n 2 dL_law_871 rfl rfl ?_
  refine xe_callV (As := []) (rest := [.int v]) dL_law_872 wX10_best lL_116 iX10_best sX10_best ⟨by decide, by decide⟩ sh172 rfl (xin_mm (by decide)) rfl rfl (by simp [Value.category]) ?_
  refine h.mono ?_
  rintro r μ ⟨rfl, u2, rfl, hu2, h⟩
  exact xe_icmp_eq 969 dL_law_875 (by decide) (fun _ => next u2 (hu2.trans hu) h) (fun q => absurd rfl q)
theorem lc_23 {Z : Nat → Int32} {N i : Nat} {u : xU} {Q : Option Value → xM → Prop} (hn : Z 0 = nI N) (hN : N ≤ 2560) (hi : i + 5 ≤ N) (hu : u.1 0 = Z) (next : ∀ u2 : xU, u2.1 0 = Z → LV u2 → xE mL_law 969 [(0, .ref 0), (1, .ref 1), (2, .ref 172), (3, .int (nI i))] [] (xmm u2) Q) (h : TW Value.int mX9_rings mX10_rings [.int (Z (i + 1 + 1))] u) : xE mL_law 880 [(0, .ref 0), (1, .ref 1), (2, .ref 172), (3, .int (nI i))] [] (xmm u) Q := by
  refine xe_aload_n 1 dL_law_880 rfl rfl ?_
  refine xe_aload_n 0 dL_law_881 rfl rfl ?_
  refine xe_iload_n 3 dL_law_882 rfl rfl ?_
  refine xe_iconst (v := nI 1) dL_law_883 xc1 ?_
  refine xn_iadd dL_law_884 ?_
  refine xl_sld hu hn hN (by omega) dL_law_885 ?_
  refine xe_callV (As := [.int (Z (i + 1 + 1))]) (rest := []) dL_law_886 wX9_rings lL_117 iX9_rings sX9_rings ⟨by decide, by decide⟩ sh1 rfl (xin_mm (by decide)) rfl rfl (by simp [Value.category]) ?_
  refine h.mono ?_
  rintro r μ ⟨v, u1, rfl, rfl, hu1, h⟩
  refine xe_aload_n 2 dL_law_889 rfl rfl ?_
  refine xe_aload_n 0 dL_law_890 rfl rfl ?_
  refine xe_iload_n 3 dL_law_891 rfl rfl ?_
  refine xe_iconst (v := nI 1) dL_law_892 xc1 ?_
  refine xn_iadd dL_law_893 ?_
  refine xl_sld (hu1.trans hu) hn hN (by omega) dL_law_894 ?_
  refine xe_callV (As := [.int (Z (i + 1 + 1))]) (rest := [.int v]) dL_law_895 wX10_rings lL_120 iX10_rings sX10_rings ⟨by decide, by decide⟩ sh172 rfl (xin_mm (by decide)) rfl rfl (by simp [Value.category]) ?_
  refine h.mono ?_
  rintro r μ ⟨rfl, u2, rfl, hu2, h⟩
  exact xe_icmp_eq 969 dL_law_898 (by decide) (fun _ => next u2 (hu2.trans hu) h) (fun q => absurd rfl q)
theorem lc_24 {Z : Nat → Int32} {N i : Nat} {u : xU} {Q : Option Value → xM → Prop} (hn : Z 0 = nI N) (hN : N ≤ 2560) (hi : i + 5 ≤ N) (hu : u.1 0 = Z) (next : ∀ u2 : xU, u2.1 0 = Z → LV u2 → xE mL_law 969 [(0, .ref 0), (1, .ref 1), (2, .ref 172), (3, .int (nI i))] [] (xmm u2) Q) (h : TW Value.int mX9_ring mX10_ring [.int (Z (i + 1 + 1)), .int (Z (i + 2 + 1)), .int (Z (i + 3 + 1))] u) : xE mL_law 903 [(0, .ref 0), (1, .ref 1), (2, .ref 172), (3, .int (nI i))] [] (xmm u) Q := by
  refine xe_aload_n 1 dL_law_903 rfl rfl ?_
  refine xe_aload_n 0 dL_law_904 rfl rfl ?_
  refine xe_iload_n 3 dL_law_905 rfl rfl ?_
  refine xe_iconst (v := nI 1) dL_law_906 xc1 ?_
  refine xn_iadd dL_law_907 ?_
  refine xl_sld hu hn hN (by omega) dL_law_908 ?_
  refine xe_aload_n 0 dL_law_909 rfl rfl ?_
  refine xe_iload_n 3 dL_law_910 rfl rfl ?_
  refine xe_iconst (v := nI 2) dL_law_911 xc2 ?_
  refine xn_iadd dL_law_912 ?_
  refine xl_sld hu hn hN (by omega) dL_law_913 ?_
  refine xe_aload_n 0 dL_law_914 rfl rfl ?_
  refine xe_iload_n 3 dL_law_915 rfl rfl ?_
  refine xe_iconst (v := nI 3) dL_law_916 xc3 ?_
  refine xn_iadd dL_law_917 ?_
  refine xl_sld hu hn hN (by omega) dL_law_918 ?_
  refine xe_callV (As := [.int (Z (i + 1 + 1)), .int (Z (i + 2 + 1)), .int (Z (i + 3 + 1))]) (rest := []) dL_law_919 wX9_ring lL_121 iX9_ring sX9_ring ⟨by decide, by decide⟩ sh1 rfl (xin_mm (by decide)) rfl rfl (by simp [Value.category]) ?_
  refine h.mono ?_
  rintro r μ ⟨v, u1, rfl, rfl, hu1, h⟩
  refine xe_aload_n 2 dL_law_922 rfl rfl ?_
  refine xe_aload_n 0 dL_law_923 rfl rfl ?_
  refine xe_iload_n 3 dL_law_924 rfl rfl ?_
  refine xe_iconst (v := nI 1) dL_law_925 xc1 ?_
  refine xn_iadd dL_law_926 ?_
  refine xl_sld (hu1.trans hu) hn hN (by omega) dL_law_927 ?_
  refine xe_aload_n 0 dL_law_928 rfl rfl ?_
  refine xe_iload_n 3 dL_law_929 rfl rfl ?_
  refine xe_iconst (v := nI 2) dL_law_930 xc2 ?_
  refine xn_iadd dL_law_931 ?_
  refine xl_sld (hu1.trans hu) hn hN (by omega) dL_law_932 ?_
  refine xe_aload_n 0 dL_law_933 rfl rfl ?_
  refine xe_iload_n 3 dL_law_934 rfl rfl ?_
  refine xe_iconst (v := nI 3) dL_law_935 xc3 ?_
  refine xn_iadd dL_law_936 ?_
  refine xl_sld (hu1.trans hu) hn hN (by omega) dL_law_937 ?_
  refine xe_callV (As := [.int (Z (i + 1 + 1)), .int (Z (i + 2 + 1)), .int (Z (i + 3 + 1))]) (rest := [.int v]) dL_law_938 wX10_ring lL_124 iX10_ring sX10_ring ⟨by decide, by decide⟩ sh172 rfl (xin_mm (by decide)) rfl rfl (by simp [Value.category]) ?_
  refine h.mono ?_
  rintro r μ ⟨rfl, u2, rfl, hu2, h⟩
  exact xe_icmp_eq 969 dL_law_941 (by decide) (fun _ => next u2 (hu2.trans hu) h) (fun q => absurd rfl q)
theorem lc_25 {Z : Nat → Int32} {N i : Nat} {u : xU} {Q : Option Value → xM → Prop} (hn : Z 0 = nI N) (hN : N ≤ 2560) (hi : i + 5 ≤ N) (hu : u.1 0 = Z) (next : ∀ u2 : xU, u2.1 0 = Z → LV u2 → xE mL_law 969 [(0, .ref 0), (1, .ref 1), (2, .ref 172), (3, .int (nI i))] [] (xmm u2) Q) (h : TW Value.int mX9_count mX10_count [.int (Z (i + 1 + 1))] u) : xE mL_law 946 [(0, .ref 0), (1, .ref 1), (2, .ref 172), (3, .int (nI i))] [] (xmm u) Q := by
  refine xe_aload_n 1 dL_law_946 rfl rfl ?_
  refine xe_aload_n 0 dL_law_947 rfl rfl ?_
  refine xe_iload_n 3 dL_law_948 rfl rfl ?_
  refine xe_iconst (v := nI 1) dL_law_949 xc1 ?_
  refine xn_iadd dL_law_950 ?_
  refine xl_sld hu hn hN (by omega) dL_law_951 ?_
  refine xe_callV (As := [.int (Z (i + 1 + 1))]) (rest := []) dL_law_952 wX9_count lL_125 iX9_count sX9_count ⟨by decide, by decide⟩ sh1 rfl (xin_mm (by decide)) rfl rfl (by simp [Value.category]) ?_
  refine h.mono ?_
  rintro r μ ⟨v, u1, rfl, rfl, hu1, h⟩
  refine xe_aload_n 2 dL_law_955 rfl rfl ?_
  refine xe_aload_n 0 dL_law_956 rfl rfl ?_
  refine xe_iload_n 3 dL_law_957 rfl rfl ?_
  refine xe_iconst (v := nI 1) dL_law_958 xc1 ?_
  refine xn_iadd dL_law_959 ?_
  refine xl_sld (hu1.trans hu) hn hN (by omega) dL_law_960 ?_
  refine xe_callV (As := [.int (Z (i + 1 + 1))]) (rest := [.int v]) dL_law_961 wX10_count lL_128 iX10_count sX10_count ⟨by decide, by decide⟩ sh172 rfl (xin_mm (by decide)) rfl rfl (by simp [Value.category]) ?_
  refine h.mono ?_
  rintro r μ ⟨rfl, u2, rfl, hu2, h⟩
  exact xe_icmp_eq 969 dL_law_964 (by decide) (fun _ => next u2 (hu2.trans hu) h) (fun q => absurd rfl q)
theorem lc_switch {Z : Nat → Int32} {N i : Nat} {u : xU} {Q : Option Value → xM → Prop} (hn : Z 0 = nI N) (hN : N ≤ 2560) (hi : i + 5 ≤ N) (hu : u.1 0 = Z) (next : ∀ u2 : xU, u2.1 0 = Z → LV u2 → xE mL_law 969 [(0, .ref 0), (1, .ref 1), (2, .ref 172), (3, .int (nI i))] [] (xmm u2) Q) (hl : LV u) : xE mL_law 32 [(0, .ref 0), (1, .ref 1), (2, .ref 172), (3, .int (nI i))] [.int (Z (i + 1) &&& nI 31)] (xmm u) Q := by
  obtain ⟨T, Q9, W, K, li, lc, lm⟩ := hl
  by_cases c0 : (Z (i + 1) &&& nI 31) = nI 0
  · exact xe_tableIn (off := 120) 152 dL_law_32 (by rw [c0]; decide) (by rw [c0]; decide) (by rw [c0]; decide) (by decide) (lc_0 hn hN hi hu next (tw_table li lc lm _ _))
  by_cases c1 : (Z (i + 1) &&& nI 31) = nI 1
  · exact xe_tableIn (off := 153) 185 dL_law_32 (by rw [c1]; decide) (by rw [c1]; decide) (by rw [c1]; decide) (by decide) (lc_1 hn hN hi hu next (tw_put li lc lm _ _ _ _))
  by_cases c2 : (Z (i + 1) &&& nI 31) = nI 2
  · exact xe_tableIn (off := 206) 238 dL_law_32 (by rw [c2]; decide) (by rw [c2]; decide) (by rw [c2]; decide) (by decide) (lc_2 hn hN hi hu next (tw_drop li lc lm _ _ _ _))
  by_cases c3 : (Z (i + 1) &&& nI 31) = nI 3
  · exact xe_tableIn (off := 259) 291 dL_law_32 (by rw [c3]; decide) (by rw [c3]; decide) (by rw [c3]; decide) (by decide) (lc_3 hn hN hi hu next (tw_rows li lc lm _))
  by_cases c4 : (Z (i + 1) &&& nI 31) = nI 4
  · exact xe_tableIn (off := 282) 314 dL_law_32 (by rw [c4]; decide) (by rw [c4]; decide) (by rw [c4]; decide) (by decide) (lc_4 hn hN hi hu next (tw_row li lc lm _ _ _))
  by_cases c5 : (Z (i + 1) &&& nI 31) = nI 5
  · exact xe_tableIn (off := 325) 357 dL_law_32 (by rw [c5]; decide) (by rw [c5]; decide) (by rw [c5]; decide) (by decide) (lc_5 hn hN hi hu next (tw_ask li lc lm _))
  by_cases c6 : (Z (i + 1) &&& nI 31) = nI 6
  · exact xe_tableIn (off := 348) 380 dL_law_32 (by rw [c6]; decide) (by rw [c6]; decide) (by rw [c6]; decide) (by decide) (lc_6 hn hN hi hu next (tw_part li lc lm _ _))
  by_cases c7 : (Z (i + 1) &&& nI 31) = nI 7
  · exact xe_tableIn (off := 381) 413 dL_law_32 (by rw [c7]; decide) (by rw [c7]; decide) (by rw [c7]; decide) (by decide) (lc_7 hn hN hi hu next (tw_name li lc lm _))
  by_cases c8 : (Z (i + 1) &&& nI 31) = nI 8
  · exact xe_tableIn (off := 404) 436 dL_law_32 (by rw [c8]; decide) (by rw [c8]; decide) (by rw [c8]; decide) (by decide) (lc_8 hn hN hi hu next (tw_value li lc lm _))
  by_cases c9 : (Z (i + 1) &&& nI 31) = nI 9
  · exact xe_tableIn (off := 427) 459 dL_law_32 (by rw [c9]; decide) (by rw [c9]; decide) (by rw [c9]; decide) (by decide) (lc_9 hn hN hi hu next (tw_compare li lc lm _ _ _ _))
  by_cases c10 : (Z (i + 1) &&& nI 31) = nI 10
  · exact xe_tableIn (off := 496) 528 dL_law_32 (by rw [c10]; decide) (by rw [c10]; decide) (by rw [c10]; decide) (by decide) (lc_10 hn hN hi hu next (tw_order li lc lm _ _))
  by_cases c11 : (Z (i + 1) &&& nI 31) = nI 11
  · exact xe_tableIn (off := 529) 561 dL_law_32 (by rw [c11]; decide) (by rw [c11]; decide) (by rw [c11]; decide) (by decide) (lc_11 hn hN hi hu next (tw_weave li lc lm ))
  by_cases c12 : (Z (i + 1) &&& nI 31) = nI 12
  · exact xe_tableIn (off := 542) 574 dL_law_32 (by rw [c12]; decide) (by rw [c12]; decide) (by rw [c12]; decide) (by decide) (lc_12 hn hN hi hu next (tw_answer li lc lm _ _))
  by_cases c13 : (Z (i + 1) &&& nI 31) = nI 13
  · exact xe_tableIn (off := 575) 607 dL_law_32 (by rw [c13]; decide) (by rw [c13]; decide) (by rw [c13]; decide) (by decide) (lc_13 hn hN hi hu next (tw_meetings li lc lm _))
  by_cases c14 : (Z (i + 1) &&& nI 31) = nI 14
  · exact xe_tableIn (off := 598) 630 dL_law_32 (by rw [c14]; decide) (by rw [c14]; decide) (by rw [c14]; decide) (by decide) (lc_14 hn hN hi hu next (tw_witness li lc lm _ _))
  by_cases c15 : (Z (i + 1) &&& nI 31) = nI 15
  · exact xe_tableIn (off := 631) 663 dL_law_32 (by rw [c15]; decide) (by rw [c15]; decide) (by rw [c15]; decide) (by decide) (lc_15 hn hN hi hu next (tw_sum li lc lm _ _))
  by_cases c16 : (Z (i + 1) &&& nI 31) = nI 16
  · exact xe_tableIn (off := 665) 697 dL_law_32 (by rw [c16]; decide) (by rw [c16]; decide) (by rw [c16]; decide) (by decide) (lc_16 hn hN hi hu next (tw_group li lc lm _ _ _ _))
  by_cases c17 : (Z (i + 1) &&& nI 31) = nI 17
  · exact xe_tableIn (off := 719) 751 dL_law_32 (by rw [c17]; decide) (by rw [c17]; decide) (by rw [c17]; decide) (by decide) (lc_17 hn hN hi hu next (tw_keep li lc lm ))
  by_cases c18 : (Z (i + 1) &&& nI 31) = nI 18
  · exact xe_tableIn (off := 732) 764 dL_law_32 (by rw [c18]; decide) (by rw [c18]; decide) (by rw [c18]; decide) (by decide) (lc_18 hn hN hi hu next (tw_delta li lc lm _))
  by_cases c19 : (Z (i + 1) &&& nI 31) = nI 19
  · exact xe_tableIn (off := 755) 787 dL_law_32 (by rw [c19]; decide) (by rw [c19]; decide) (by rw [c19]; decide) (by decide) (lc_19 hn hN hi hu next (tw_change li lc lm _ _ _))
  by_cases c20 : (Z (i + 1) &&& nI 31) = nI 20
  · exact xe_tableIn (off := 798) 830 dL_law_32 (by rw [c20]; decide) (by rw [c20]; decide) (by rw [c20]; decide) (by decide) (lc_20 hn hN hi hu next (tw_bound li lc lm ))
  by_cases c21 : (Z (i + 1) &&& nI 31) = nI 21
  · exact xe_tableIn (off := 812) 844 dL_law_32 (by rw [c21]; decide) (by rw [c21]; decide) (by rw [c21]; decide) (by decide) (lc_21 hn hN hi hu next (tw_cover li lc lm _))
  by_cases c22 : (Z (i + 1) &&& nI 31) = nI 22
  · exact xe_tableIn (off := 835) 867 dL_law_32 (by rw [c22]; decide) (by rw [c22]; decide) (by rw [c22]; decide) (by decide) (lc_22 hn hN hi hu next (tw_best li lc lm ))
  by_cases c23 : (Z (i + 1) &&& nI 31) = nI 23
  · exact xe_tableIn (off := 848) 880 dL_law_32 (by rw [c23]; decide) (by rw [c23]; decide) (by rw [c23]; decide) (by decide) (lc_23 hn hN hi hu next (tw_rings li lc lm _))
  by_cases c24 : (Z (i + 1) &&& nI 31) = nI 24
  · exact xe_tableIn (off := 871) 903 dL_law_32 (by rw [c24]; decide) (by rw [c24]; decide) (by rw [c24]; decide) (by decide) (lc_24 hn hN hi hu next (tw_ring li lc lm _ _ _))
  by_cases c25 : (Z (i + 1) &&& nI 31) = nI 25
  · exact xe_tableIn (off := 914) 946 dL_law_32 (by rw [c25]; decide) (by rw [c25]; decide) (by rw [c25]; decide) (by decide) (lc_25 hn hN hi hu next (tw_count li lc lm _))
  exact xe_tableOut 969 dL_law_32 (by have z0 := lv_neT c0 (show (nI 0).toInt = 0 from by decide); have z1 := lv_neT c1 (show (nI 1).toInt = 1 from by decide); have z2 := lv_neT c2 (show (nI 2).toInt = 2 from by decide); have z3 := lv_neT c3 (show (nI 3).toInt = 3 from by decide); have z4 := lv_neT c4 (show (nI 4).toInt = 4 from by decide); have z5 := lv_neT c5 (show (nI 5).toInt = 5 from by decide); have z6 := lv_neT c6 (show (nI 6).toInt = 6 from by decide); have z7 := lv_neT c7 (show (nI 7).toInt = 7 from by decide); have z8 := lv_neT c8 (show (nI 8).toInt = 8 from by decide); have z9 := lv_neT c9 (show (nI 9).toInt = 9 from by decide); have z10 := lv_neT c10 (show (nI 10).toInt = 10 from by decide); have z11 := lv_neT c11 (show (nI 11).toInt = 11 from by decide); have z12 := lv_neT c12 (show (nI 12).toInt = 12 from by decide); have z13 := lv_neT c13 (show (nI 13).toInt = 13 from by decide); have z14 := lv_neT c14 (show (nI 14).toInt = 14 from by decide); have z15 := lv_neT c15 (show (nI 15).toInt = 15 from by decide); have z16 := lv_neT c16 (show (nI 16).toInt = 16 from by decide); have z17 := lv_neT c17 (show (nI 17).toInt = 17 from by decide); have z18 := lv_neT c18 (show (nI 18).toInt = 18 from by decide); have z19 := lv_neT c19 (show (nI 19).toInt = 19 from by decide); have z20 := lv_neT c20 (show (nI 20).toInt = 20 from by decide); have z21 := lv_neT c21 (show (nI 21).toInt = 21 from by decide); have z22 := lv_neT c22 (show (nI 22).toInt = 22 from by decide); have z23 := lv_neT c23 (show (nI 23).toInt = 23 from by decide); have z24 := lv_neT c24 (show (nI 24).toInt = 24 from by decide); have z25 := lv_neT c25 (show (nI 25).toInt = 25 from by decide); omega) (by decide) (next u hu ⟨T, Q9, W, K, li, lc, lm⟩)
theorem lw_loop {Z : Nat → Int32} {N : Nat} {Q : Option Value → xM → Prop} (hn : Z 0 = nI N) (hN : N ≤ 2560) (hq : ∀ u : xU, Q (some (.int 1)) (xmm u)) : ∀ (d i : Nat) (u : xU), N = i + d ∨ N < i ∧ d = 0 → i ≤ 2560 → u.1 0 = Z → LV u → xE mL_law 18 [(0, .ref 0), (1, .ref 1), (2, .ref 172), (3, .int (nI i))] [] (xmm u) Q := by
  intro d
  induction d using Nat.strongRecOn with
  | ind d ih =>
    intro i u hd hi hu hl
    refine xe_iload_n 3 dL_law_18 rfl rfl ?_
    refine xe_aload_n 0 dL_law_19 rfl rfl ?_
    refine xe_slen dL_law_20 ?_
    show xE mL_law 21 [(0, .ref 0), (1, .ref 1), (2, .ref 172), (3, .int (nI i))] [.int (u.1 0 0), .int (nI i)] (xmm u) Q
    rw [hu, hn]
    refine xe_iconst (v := nI 5) dL_law_21 xc5 ?_
    refine xe_isub dL_law_22 ?_
    refine xe_icmp_gt 975 dL_law_23 (by decide) (fun _ => ?_) (fun z => ?_)
    · refine xe_iconst (v := nI 1) dL_law_975 xc1 ?_
      exact xe_ret (r := some (.int (nI 1))) dL_law_976 (Or.inr rfl) (hq u)
    · have hr := lw_room hN hi z
      refine xe_aload_n 0 dL_law_26 rfl rfl ?_
      refine xe_iload_n 3 dL_law_27 rfl rfl ?_
      refine xl_sld hu hn hN (by omega) dL_law_28 ?_
      refine xe_bipush (v := nI 31) dL_law_29 xcb31 ?_
      refine xe_iand dL_law_31 ?_
      refine lc_switch hn hN hr hu (fun u2 h2 l2 => ?_) hl
      refine xn_iinc (c := 5) (L2 := [(0, .ref 0), (1, .ref 1), (2, .ref 172), (3, .int (nI (i + 5)))]) 3 dL_law_969 rfl (by decide) rfl ?_
      refine xe_goto 18 dL_law_972 (by decide) ?_
      exact ih (N - (i + 5)) (by omega) (i + 5) u2 (by omega) (by omega) h2 l2
