/-! THE LAW: its cases -/
section LL3
variable {ZC ZM : CSp} {b L : Nat} {xs : Nat → Int32} {w v : Wd} {pc : Nat} {lv : List (Nat × Value)} {st : List Value}
theorem l_eq {x : Int32} {off : Int} {tgt : Nat} (d : decode code pc = .ok (.if_icmp .eq off, 3)) (ht : (pc : Int) + off = (tgt : Int)) (kk : Wl ZC ZM b L xs w v tgt lv st) : Wl ZC ZM b L xs w v pc lv (.int x :: .int x :: st) := fun p e s m below meth c H locs ls C h1 h2 h3 h4 hS hl => lv_icmp_eq C.1 C.2.1 d ht (fun _ => kk p e s m below meth c H locs ls C h1 h2 h3 h4 hS hl) (fun h9 => absurd rfl h9)
theorem l_lcmp {x : Int64} (d : decode code pc = .ok (.lcmp, 1)) (kk : Wl ZC ZM b L xs w v (pc + 1) lv (.int 0 :: st)) : Wl ZC ZM b L xs w v pc lv (.long x :: .long x :: st) := fun p e s m below meth c H locs ls C h1 h2 h3 h4 hS hl => W.lcmp C.1 C.2.1 d (by rw [show lg_cmp x x = 0 from by unfold lg_cmp; simp]; exact kk p e s m below meth c H locs ls C h1 h2 h3 h4 hS hl)
theorem l_if0 {off : Int} {tgt : Nat} (d : decode code pc = .ok (.ifCond .eq off, 3)) (ht : (pc : Int) + off = (tgt : Int)) (kk : Wl ZC ZM b L xs w v tgt lv st) : Wl ZC ZM b L xs w v pc lv (.int 0 :: st) := fun p e s m below meth c H locs ls C h1 h2 h3 h4 hS hl => lv_if_eq C.1 C.2.1 d ht (fun _ => kk p e s m below meth c H locs ls C h1 h2 h3 h4 hS hl) (fun h9 => absurd rfl h9)
end LL3
set_option maxRecDepth 100000 in
set_option maxHeartbeats 4000000 in
theorem ca_0 {ZC ZM : CSp} {b L i : Nat} {xs : Nat → Int32} {w v : Wd} (hs : Sim w v) (hi : i + 7 ≤ L) (hL : L ≤ 3584) (kk : ∀ w1 v1 : Wd, Sim w1 v1 → Wl ZC ZM b L xs w1 v1 1154 [(0, Value.ref b), (1, Value.ref (aC ZC 0)), (2, Value.ref (aC ZM 0)), (3, Value.int (nI i))] []) : Wl ZC ZM b L xs w v 152 [(0, Value.ref b), (1, Value.ref (aC ZC 0)), (2, Value.ref (aC ZM 0)), (3, Value.int (nI i))] [] := by
  refine l_aload dL_law_152 1 rfl ?_
  refine l_aload dL_law_153 0 rfl ?_
  refine l_iload dL_law_154 3 rfl ?_
  refine l_iconst (x := 1) dL_law_155 (by decide) ?_
  refine l_iadd dL_law_156 ?_
  refine l_sld (by rw [a_al]; exact i_n (by omega) (by omega)) dL_law_157 ?_
  refine l_aload dL_law_158 0 rfl ?_
  refine l_iload dL_law_159 3 rfl ?_
  refine l_iconst (x := 2) dL_law_160 (by decide) ?_
  refine l_iadd dL_law_161 ?_
  refine l_sld (by rw [a_al]; exact i_n (by omega) (by omega)) dL_law_162 ?_
  obtain ⟨r, w1, v1, e1, e2, hs1⟩ := s_grid hs (xs (nI i + 1).toNatClampNeg) (xs (nI i + 2).toNatClampNeg)
  refine l_callC [Value.int (xs (nI i + 1).toNatClampNeg), Value.int (xs (nI i + 2).toNatClampNeg)] cfX5_grid (m_X5_grid ZC w (xs (nI i + 1).toNatClampNeg) (xs (nI i + 2).toNatClampNeg)) km_L_13 ⟨rfl, rfl, Nat.le_of_ble_eq_true rfl, Nat.le_of_ble_eq_true rfl⟩ rfl rfl rfl (Nat.le_of_ble_eq_true rfl) ⟨Nat.le_of_ble_eq_true rfl, Nat.le_of_ble_eq_true rfl⟩ dL_law_163 (r, w1) e1 ?_
  refine l_aload dL_law_166 2 rfl ?_
  refine l_aload dL_law_167 0 rfl ?_
  refine l_iload dL_law_168 3 rfl ?_
  refine l_iconst (x := 1) dL_law_169 (by decide) ?_
  refine l_iadd dL_law_170 ?_
  refine l_sld (by rw [a_al]; exact i_n (by omega) (by omega)) dL_law_171 ?_
  refine l_aload dL_law_172 0 rfl ?_
  refine l_iload dL_law_173 3 rfl ?_
  refine l_iconst (x := 2) dL_law_174 (by decide) ?_
  refine l_iadd dL_law_175 ?_
  refine l_sld (by rw [a_al]; exact i_n (by omega) (by omega)) dL_law_176 ?_
  refine l_callM [Value.int (xs (nI i + 1).toNatClampNeg), Value.int (xs (nI i + 2).toNatClampNeg)] cfX6_grid (m_X6_grid ZM v (xs (nI i + 1).toNatClampNeg) (xs (nI i + 2).toNatClampNeg)) km_L_17 ⟨rfl, rfl, Nat.le_of_ble_eq_true rfl, Nat.le_of_ble_eq_true rfl⟩ rfl rfl rfl (Nat.le_of_ble_eq_true rfl) ⟨Nat.le_of_ble_eq_true rfl, Nat.le_of_ble_eq_true rfl⟩ dL_law_177 (r, v1) e2 ?_
  exact (l_eq (tgt := 1154) dL_law_180 (by decide) (kk w1 v1 hs1))
set_option maxRecDepth 100000 in
set_option maxHeartbeats 4000000 in
theorem ca_1 {ZC ZM : CSp} {b L i : Nat} {xs : Nat → Int32} {w v : Wd} (hs : Sim w v) (hi : i + 7 ≤ L) (hL : L ≤ 3584) (kk : ∀ w1 v1 : Wd, Sim w1 v1 → Wl ZC ZM b L xs w1 v1 1154 [(0, Value.ref b), (1, Value.ref (aC ZC 0)), (2, Value.ref (aC ZM 0)), (3, Value.int (nI i))] []) : Wl ZC ZM b L xs w v 185 [(0, Value.ref b), (1, Value.ref (aC ZC 0)), (2, Value.ref (aC ZM 0)), (3, Value.int (nI i))] [] := by
  refine l_aload dL_law_185 1 rfl ?_
  refine l_aload dL_law_186 0 rfl ?_
  refine l_iload dL_law_187 3 rfl ?_
  refine l_iconst (x := 1) dL_law_188 (by decide) ?_
  refine l_iadd dL_law_189 ?_
  refine l_sld (by rw [a_al]; exact i_n (by omega) (by omega)) dL_law_190 ?_
  refine l_aload dL_law_191 0 rfl ?_
  refine l_iload dL_law_192 3 rfl ?_
  refine l_iconst (x := 2) dL_law_193 (by decide) ?_
  refine l_iadd dL_law_194 ?_
  refine l_sld (by rw [a_al]; exact i_n (by omega) (by omega)) dL_law_195 ?_
  obtain ⟨r, w1, v1, e1, e2, hs1⟩ := s_wave hs (xs (nI i + 1).toNatClampNeg) (xs (nI i + 2).toNatClampNeg)
  refine l_callC [Value.int (xs (nI i + 1).toNatClampNeg), Value.int (xs (nI i + 2).toNatClampNeg)] cfX5_wave (m_X5_wave ZC w (xs (nI i + 1).toNatClampNeg) (xs (nI i + 2).toNatClampNeg)) km_L_18 ⟨rfl, rfl, Nat.le_of_ble_eq_true rfl, Nat.le_of_ble_eq_true rfl⟩ rfl rfl rfl (Nat.le_of_ble_eq_true rfl) ⟨Nat.le_of_ble_eq_true rfl, Nat.le_of_ble_eq_true rfl⟩ dL_law_196 (r, w1) e1 ?_
  refine l_aload dL_law_199 2 rfl ?_
  refine l_aload dL_law_200 0 rfl ?_
  refine l_iload dL_law_201 3 rfl ?_
  refine l_iconst (x := 1) dL_law_202 (by decide) ?_
  refine l_iadd dL_law_203 ?_
  refine l_sld (by rw [a_al]; exact i_n (by omega) (by omega)) dL_law_204 ?_
  refine l_aload dL_law_205 0 rfl ?_
  refine l_iload dL_law_206 3 rfl ?_
  refine l_iconst (x := 2) dL_law_207 (by decide) ?_
  refine l_iadd dL_law_208 ?_
  refine l_sld (by rw [a_al]; exact i_n (by omega) (by omega)) dL_law_209 ?_
  refine l_callM [Value.int (xs (nI i + 1).toNatClampNeg), Value.int (xs (nI i + 2).toNatClampNeg)] cfX6_wave (m_X6_wave ZM v (xs (nI i + 1).toNatClampNeg) (xs (nI i + 2).toNatClampNeg)) km_L_21 ⟨rfl, rfl, Nat.le_of_ble_eq_true rfl, Nat.le_of_ble_eq_true rfl⟩ rfl rfl rfl (Nat.le_of_ble_eq_true rfl) ⟨Nat.le_of_ble_eq_true rfl, Nat.le_of_ble_eq_true rfl⟩ dL_law_210 (r, v1) e2 ?_
  exact (l_eq (tgt := 1154) dL_law_213 (by decide) (kk w1 v1 hs1))
set_option maxRecDepth 100000 in
set_option maxHeartbeats 4000000 in
theorem ca_2 {ZC ZM : CSp} {b L i : Nat} {xs : Nat → Int32} {w v : Wd} (hs : Sim w v) (hi : i + 7 ≤ L) (hL : L ≤ 3584) (kk : ∀ w1 v1 : Wd, Sim w1 v1 → Wl ZC ZM b L xs w1 v1 1154 [(0, Value.ref b), (1, Value.ref (aC ZC 0)), (2, Value.ref (aC ZM 0)), (3, Value.int (nI i))] []) : Wl ZC ZM b L xs w v 218 [(0, Value.ref b), (1, Value.ref (aC ZC 0)), (2, Value.ref (aC ZM 0)), (3, Value.int (nI i))] [] := by
  refine l_aload dL_law_218 1 rfl ?_
  refine l_aload dL_law_219 0 rfl ?_
  refine l_iload dL_law_220 3 rfl ?_
  refine l_iconst (x := 1) dL_law_221 (by decide) ?_
  refine l_iadd dL_law_222 ?_
  refine l_sld (by rw [a_al]; exact i_n (by omega) (by omega)) dL_law_223 ?_
  refine l_aload dL_law_224 0 rfl ?_
  refine l_iload dL_law_225 3 rfl ?_
  refine l_iconst (x := 2) dL_law_226 (by decide) ?_
  refine l_iadd dL_law_227 ?_
  refine l_sld (by rw [a_al]; exact i_n (by omega) (by omega)) dL_law_228 ?_
  obtain ⟨r, w1, v1, e1, e2, hs1⟩ := s_sets hs (xs (nI i + 1).toNatClampNeg) (xs (nI i + 2).toNatClampNeg)
  refine l_callC [Value.int (xs (nI i + 1).toNatClampNeg), Value.int (xs (nI i + 2).toNatClampNeg)] cfX5_sets (m_X5_sets ZC w (xs (nI i + 1).toNatClampNeg) (xs (nI i + 2).toNatClampNeg)) km_L_22 ⟨rfl, rfl, Nat.le_of_ble_eq_true rfl, Nat.le_of_ble_eq_true rfl⟩ rfl rfl rfl (Nat.le_of_ble_eq_true rfl) ⟨Nat.le_of_ble_eq_true rfl, Nat.le_of_ble_eq_true rfl⟩ dL_law_229 (r, w1) e1 ?_
  refine l_aload dL_law_232 2 rfl ?_
  refine l_aload dL_law_233 0 rfl ?_
  refine l_iload dL_law_234 3 rfl ?_
  refine l_iconst (x := 1) dL_law_235 (by decide) ?_
  refine l_iadd dL_law_236 ?_
  refine l_sld (by rw [a_al]; exact i_n (by omega) (by omega)) dL_law_237 ?_
  refine l_aload dL_law_238 0 rfl ?_
  refine l_iload dL_law_239 3 rfl ?_
  refine l_iconst (x := 2) dL_law_240 (by decide) ?_
  refine l_iadd dL_law_241 ?_
  refine l_sld (by rw [a_al]; exact i_n (by omega) (by omega)) dL_law_242 ?_
  refine l_callM [Value.int (xs (nI i + 1).toNatClampNeg), Value.int (xs (nI i + 2).toNatClampNeg)] cfX6_sets (m_X6_sets ZM v (xs (nI i + 1).toNatClampNeg) (xs (nI i + 2).toNatClampNeg)) km_L_25 ⟨rfl, rfl, Nat.le_of_ble_eq_true rfl, Nat.le_of_ble_eq_true rfl⟩ rfl rfl rfl (Nat.le_of_ble_eq_true rfl) ⟨Nat.le_of_ble_eq_true rfl, Nat.le_of_ble_eq_true rfl⟩ dL_law_243 (r, v1) e2 ?_
  exact (l_eq (tgt := 1154) dL_law_246 (by decide) (kk w1 v1 hs1))
set_option maxRecDepth 100000 in
set_option maxHeartbeats 4000000 in
theorem ca_3 {ZC ZM : CSp} {b L i : Nat} {xs : Nat → Int32} {w v : Wd} (hs : Sim w v) (hi : i + 7 ≤ L) (hL : L ≤ 3584) (kk : ∀ w1 v1 : Wd, Sim w1 v1 → Wl ZC ZM b L xs w1 v1 1154 [(0, Value.ref b), (1, Value.ref (aC ZC 0)), (2, Value.ref (aC ZM 0)), (3, Value.int (nI i))] []) : Wl ZC ZM b L xs w v 251 [(0, Value.ref b), (1, Value.ref (aC ZC 0)), (2, Value.ref (aC ZM 0)), (3, Value.int (nI i))] [] := by
  refine l_aload dL_law_251 1 rfl ?_
  refine l_aload dL_law_252 0 rfl ?_
  refine l_iload dL_law_253 3 rfl ?_
  refine l_iconst (x := 1) dL_law_254 (by decide) ?_
  refine l_iadd dL_law_255 ?_
  refine l_sld (by rw [a_al]; exact i_n (by omega) (by omega)) dL_law_256 ?_
  refine l_aload dL_law_257 0 rfl ?_
  refine l_iload dL_law_258 3 rfl ?_
  refine l_iconst (x := 2) dL_law_259 (by decide) ?_
  refine l_iadd dL_law_260 ?_
  refine l_sld (by rw [a_al]; exact i_n (by omega) (by omega)) dL_law_261 ?_
  refine l_aload dL_law_262 0 rfl ?_
  refine l_iload dL_law_263 3 rfl ?_
  refine l_iconst (x := 3) dL_law_264 (by decide) ?_
  refine l_iadd dL_law_265 ?_
  refine l_sld (by rw [a_al]; exact i_n (by omega) (by omega)) dL_law_266 ?_
  refine l_aload dL_law_267 0 rfl ?_
  refine l_iload dL_law_268 3 rfl ?_
  refine l_iconst (x := 4) dL_law_269 (by decide) ?_
  refine l_iadd dL_law_270 ?_
  refine l_sld (by rw [a_al]; exact i_n (by omega) (by omega)) dL_law_271 ?_
  refine l_aload dL_law_272 0 rfl ?_
  refine l_iload dL_law_273 3 rfl ?_
  refine l_iconst (x := 5) dL_law_274 (by decide) ?_
  refine l_iadd dL_law_275 ?_
  refine l_sld (by rw [a_al]; exact i_n (by omega) (by omega)) dL_law_276 ?_
  refine l_aload dL_law_277 0 rfl ?_
  refine l_iload dL_law_278 3 rfl ?_
  refine l_bipush (x := 6) dL_law_279 (by decide) ?_
  refine l_iadd dL_law_281 ?_
  refine l_sld (by rw [a_al]; exact i_n (by omega) (by omega)) dL_law_282 ?_
  obtain ⟨r, w1, v1, e1, e2, hs1⟩ := s_sample hs (xs (nI i + 1).toNatClampNeg) (xs (nI i + 2).toNatClampNeg) (xs (nI i + 3).toNatClampNeg) (xs (nI i + 4).toNatClampNeg) (xs (nI i + 5).toNatClampNeg) (xs (nI i + 6).toNatClampNeg)
  refine l_callC [Value.int (xs (nI i + 1).toNatClampNeg), Value.int (xs (nI i + 2).toNatClampNeg), Value.int (xs (nI i + 3).toNatClampNeg), Value.int (xs (nI i + 4).toNatClampNeg), Value.int (xs (nI i + 5).toNatClampNeg), Value.int (xs (nI i + 6).toNatClampNeg)] cfX5_sample (m_X5_sample ZC w (xs (nI i + 1).toNatClampNeg) (xs (nI i + 2).toNatClampNeg) (xs (nI i + 3).toNatClampNeg) (xs (nI i + 4).toNatClampNeg) (xs (nI i + 5).toNatClampNeg) (xs (nI i + 6).toNatClampNeg)) km_L_26 ⟨rfl, rfl, Nat.le_of_ble_eq_true rfl, Nat.le_of_ble_eq_true rfl⟩ rfl rfl rfl (Nat.le_of_ble_eq_true rfl) ⟨Nat.le_of_ble_eq_true rfl, Nat.le_of_ble_eq_true rfl⟩ dL_law_283 (r, w1) e1 ?_
  refine l_aload dL_law_286 2 rfl ?_
  refine l_aload dL_law_287 0 rfl ?_
  refine l_iload dL_law_288 3 rfl ?_
  refine l_iconst (x := 1) dL_law_289 (by decide) ?_
  refine l_iadd dL_law_290 ?_
  refine l_sld (by rw [a_al]; exact i_n (by omega) (by omega)) dL_law_291 ?_
  refine l_aload dL_law_292 0 rfl ?_
  refine l_iload dL_law_293 3 rfl ?_
  refine l_iconst (x := 2) dL_law_294 (by decide) ?_
  refine l_iadd dL_law_295 ?_
  refine l_sld (by rw [a_al]; exact i_n (by omega) (by omega)) dL_law_296 ?_
  refine l_aload dL_law_297 0 rfl ?_
  refine l_iload dL_law_298 3 rfl ?_
  refine l_iconst (x := 3) dL_law_299 (by decide) ?_
  refine l_iadd dL_law_300 ?_
  refine l_sld (by rw [a_al]; exact i_n (by omega) (by omega)) dL_law_301 ?_
  refine l_aload dL_law_302 0 rfl ?_
  refine l_iload dL_law_303 3 rfl ?_
  refine l_iconst (x := 4) dL_law_304 (by decide) ?_
  refine l_iadd dL_law_305 ?_
  refine l_sld (by rw [a_al]; exact i_n (by omega) (by omega)) dL_law_306 ?_
  refine l_aload dL_law_307 0 rfl ?_
  refine l_iload dL_law_308 3 rfl ?_
  refine l_iconst (x := 5) dL_law_309 (by decide) ?_
  refine l_iadd dL_law_310 ?_
  refine l_sld (by rw [a_al]; exact i_n (by omega) (by omega)) dL_law_311 ?_
  refine l_aload dL_law_312 0 rfl ?_
  refine l_iload dL_law_313 3 rfl ?_
  refine l_bipush (x := 6) dL_law_314 (by decide) ?_
  refine l_iadd dL_law_316 ?_
  refine l_sld (by rw [a_al]; exact i_n (by omega) (by omega)) dL_law_317 ?_
  refine l_callM [Value.int (xs (nI i + 1).toNatClampNeg), Value.int (xs (nI i + 2).toNatClampNeg), Value.int (xs (nI i + 3).toNatClampNeg), Value.int (xs (nI i + 4).toNatClampNeg), Value.int (xs (nI i + 5).toNatClampNeg), Value.int (xs (nI i + 6).toNatClampNeg)] cfX6_sample (m_X6_sample ZM v (xs (nI i + 1).toNatClampNeg) (xs (nI i + 2).toNatClampNeg) (xs (nI i + 3).toNatClampNeg) (xs (nI i + 4).toNatClampNeg) (xs (nI i + 5).toNatClampNeg) (xs (nI i + 6).toNatClampNeg)) km_L_30 ⟨rfl, rfl, Nat.le_of_ble_eq_true rfl, Nat.le_of_ble_eq_true rfl⟩ rfl rfl rfl (Nat.le_of_ble_eq_true rfl) ⟨Nat.le_of_ble_eq_true rfl, Nat.le_of_ble_eq_true rfl⟩ dL_law_318 (r, v1) e2 ?_
  exact (l_eq (tgt := 1154) dL_law_321 (by decide) (kk w1 v1 hs1))
set_option maxRecDepth 100000 in
set_option maxHeartbeats 4000000 in
theorem ca_4 {ZC ZM : CSp} {b L i : Nat} {xs : Nat → Int32} {w v : Wd} (hs : Sim w v) (hi : i + 7 ≤ L) (hL : L ≤ 3584) (kk : ∀ w1 v1 : Wd, Sim w1 v1 → Wl ZC ZM b L xs w1 v1 1154 [(0, Value.ref b), (1, Value.ref (aC ZC 0)), (2, Value.ref (aC ZM 0)), (3, Value.int (nI i))] []) : Wl ZC ZM b L xs w v 326 [(0, Value.ref b), (1, Value.ref (aC ZC 0)), (2, Value.ref (aC ZM 0)), (3, Value.int (nI i))] [] := by
  refine l_aload dL_law_326 1 rfl ?_
  refine l_aload dL_law_327 0 rfl ?_
  refine l_iload dL_law_328 3 rfl ?_
  refine l_iconst (x := 1) dL_law_329 (by decide) ?_
  refine l_iadd dL_law_330 ?_
  refine l_sld (by rw [a_al]; exact i_n (by omega) (by omega)) dL_law_331 ?_
  refine l_aload dL_law_332 0 rfl ?_
  refine l_iload dL_law_333 3 rfl ?_
  refine l_iconst (x := 2) dL_law_334 (by decide) ?_
  refine l_iadd dL_law_335 ?_
  refine l_sld (by rw [a_al]; exact i_n (by omega) (by omega)) dL_law_336 ?_
  refine l_aload dL_law_337 0 rfl ?_
  refine l_iload dL_law_338 3 rfl ?_
  refine l_iconst (x := 3) dL_law_339 (by decide) ?_
  refine l_iadd dL_law_340 ?_
  refine l_sld (by rw [a_al]; exact i_n (by omega) (by omega)) dL_law_341 ?_
  refine l_aload dL_law_342 0 rfl ?_
  refine l_iload dL_law_343 3 rfl ?_
  refine l_iconst (x := 4) dL_law_344 (by decide) ?_
  refine l_iadd dL_law_345 ?_
  refine l_sld (by rw [a_al]; exact i_n (by omega) (by omega)) dL_law_346 ?_
  refine l_aload dL_law_347 0 rfl ?_
  refine l_iload dL_law_348 3 rfl ?_
  refine l_iconst (x := 5) dL_law_349 (by decide) ?_
  refine l_iadd dL_law_350 ?_
  refine l_sld (by rw [a_al]; exact i_n (by omega) (by omega)) dL_law_351 ?_
  obtain ⟨r, w1, v1, e1, e2, hs1⟩ := s_echo hs (xs (nI i + 1).toNatClampNeg) (xs (nI i + 2).toNatClampNeg) (xs (nI i + 3).toNatClampNeg) (xs (nI i + 4).toNatClampNeg) (xs (nI i + 5).toNatClampNeg)
  refine l_callC [Value.int (xs (nI i + 1).toNatClampNeg), Value.int (xs (nI i + 2).toNatClampNeg), Value.int (xs (nI i + 3).toNatClampNeg), Value.int (xs (nI i + 4).toNatClampNeg), Value.int (xs (nI i + 5).toNatClampNeg)] cfX5_echo (m_X5_echo ZC w (xs (nI i + 1).toNatClampNeg) (xs (nI i + 2).toNatClampNeg) (xs (nI i + 3).toNatClampNeg) (xs (nI i + 4).toNatClampNeg) (xs (nI i + 5).toNatClampNeg)) km_L_31 ⟨rfl, rfl, Nat.le_of_ble_eq_true rfl, Nat.le_of_ble_eq_true rfl⟩ rfl rfl rfl (Nat.le_of_ble_eq_true rfl) ⟨Nat.le_of_ble_eq_true rfl, Nat.le_of_ble_eq_true rfl⟩ dL_law_352 (r, w1) e1 ?_
  refine l_aload dL_law_355 2 rfl ?_
  refine l_aload dL_law_356 0 rfl ?_
  refine l_iload dL_law_357 3 rfl ?_
  refine l_iconst (x := 1) dL_law_358 (by decide) ?_
  refine l_iadd dL_law_359 ?_
  refine l_sld (by rw [a_al]; exact i_n (by omega) (by omega)) dL_law_360 ?_
  refine l_aload dL_law_361 0 rfl ?_
  refine l_iload dL_law_362 3 rfl ?_
  refine l_iconst (x := 2) dL_law_363 (by decide) ?_
  refine l_iadd dL_law_364 ?_
  refine l_sld (by rw [a_al]; exact i_n (by omega) (by omega)) dL_law_365 ?_
  refine l_aload dL_law_366 0 rfl ?_
  refine l_iload dL_law_367 3 rfl ?_
  refine l_iconst (x := 3) dL_law_368 (by decide) ?_
  refine l_iadd dL_law_369 ?_
  refine l_sld (by rw [a_al]; exact i_n (by omega) (by omega)) dL_law_370 ?_
  refine l_aload dL_law_371 0 rfl ?_
  refine l_iload dL_law_372 3 rfl ?_
  refine l_iconst (x := 4) dL_law_373 (by decide) ?_
  refine l_iadd dL_law_374 ?_
  refine l_sld (by rw [a_al]; exact i_n (by omega) (by omega)) dL_law_375 ?_
  refine l_aload dL_law_376 0 rfl ?_
  refine l_iload dL_law_377 3 rfl ?_
  refine l_iconst (x := 5) dL_law_378 (by decide) ?_
  refine l_iadd dL_law_379 ?_
  refine l_sld (by rw [a_al]; exact i_n (by omega) (by omega)) dL_law_380 ?_
  refine l_callM [Value.int (xs (nI i + 1).toNatClampNeg), Value.int (xs (nI i + 2).toNatClampNeg), Value.int (xs (nI i + 3).toNatClampNeg), Value.int (xs (nI i + 4).toNatClampNeg), Value.int (xs (nI i + 5).toNatClampNeg)] cfX6_echo (m_X6_echo ZM v (xs (nI i + 1).toNatClampNeg) (xs (nI i + 2).toNatClampNeg) (xs (nI i + 3).toNatClampNeg) (xs (nI i + 4).toNatClampNeg) (xs (nI i + 5).toNatClampNeg)) km_L_35 ⟨rfl, rfl, Nat.le_of_ble_eq_true rfl, Nat.le_of_ble_eq_true rfl⟩ rfl rfl rfl (Nat.le_of_ble_eq_true rfl) ⟨Nat.le_of_ble_eq_true rfl, Nat.le_of_ble_eq_true rfl⟩ dL_law_381 (r, v1) e2 ?_
  exact (l_eq (tgt := 1154) dL_law_384 (by decide) (kk w1 v1 hs1))
set_option maxRecDepth 100000 in
set_option maxHeartbeats 4000000 in
theorem ca_5 {ZC ZM : CSp} {b L i : Nat} {xs : Nat → Int32} {w v : Wd} (hs : Sim w v) (hi : i + 7 ≤ L) (hL : L ≤ 3584) (kk : ∀ w1 v1 : Wd, Sim w1 v1 → Wl ZC ZM b L xs w1 v1 1154 [(0, Value.ref b), (1, Value.ref (aC ZC 0)), (2, Value.ref (aC ZM 0)), (3, Value.int (nI i))] []) : Wl ZC ZM b L xs w v 389 [(0, Value.ref b), (1, Value.ref (aC ZC 0)), (2, Value.ref (aC ZM 0)), (3, Value.int (nI i))] [] := by
  refine l_aload dL_law_389 1 rfl ?_
  refine l_aload dL_law_390 0 rfl ?_
  refine l_iload dL_law_391 3 rfl ?_
  refine l_iconst (x := 1) dL_law_392 (by decide) ?_
  refine l_iadd dL_law_393 ?_
  refine l_sld (by rw [a_al]; exact i_n (by omega) (by omega)) dL_law_394 ?_
  refine l_aload dL_law_395 0 rfl ?_
  refine l_iload dL_law_396 3 rfl ?_
  refine l_iconst (x := 2) dL_law_397 (by decide) ?_
  refine l_iadd dL_law_398 ?_
  refine l_sld (by rw [a_al]; exact i_n (by omega) (by omega)) dL_law_399 ?_
  refine l_aload dL_law_400 0 rfl ?_
  refine l_iload dL_law_401 3 rfl ?_
  refine l_iconst (x := 3) dL_law_402 (by decide) ?_
  refine l_iadd dL_law_403 ?_
  refine l_sld (by rw [a_al]; exact i_n (by omega) (by omega)) dL_law_404 ?_
  refine l_aload dL_law_405 0 rfl ?_
  refine l_iload dL_law_406 3 rfl ?_
  refine l_iconst (x := 4) dL_law_407 (by decide) ?_
  refine l_iadd dL_law_408 ?_
  refine l_sld (by rw [a_al]; exact i_n (by omega) (by omega)) dL_law_409 ?_
  obtain ⟨r, w1, v1, e1, e2, hs1⟩ := s_shines hs (xs (nI i + 1).toNatClampNeg) (xs (nI i + 2).toNatClampNeg) (xs (nI i + 3).toNatClampNeg) (xs (nI i + 4).toNatClampNeg)
  refine l_callC [Value.int (xs (nI i + 1).toNatClampNeg), Value.int (xs (nI i + 2).toNatClampNeg), Value.int (xs (nI i + 3).toNatClampNeg), Value.int (xs (nI i + 4).toNatClampNeg)] cfX5_shines (m_X5_shines ZC w (xs (nI i + 1).toNatClampNeg) (xs (nI i + 2).toNatClampNeg) (xs (nI i + 3).toNatClampNeg) (xs (nI i + 4).toNatClampNeg)) km_L_36 ⟨rfl, rfl, Nat.le_of_ble_eq_true rfl, Nat.le_of_ble_eq_true rfl⟩ rfl rfl rfl (Nat.le_of_ble_eq_true rfl) ⟨Nat.le_of_ble_eq_true rfl, Nat.le_of_ble_eq_true rfl⟩ dL_law_410 (r, w1) e1 ?_
  refine l_aload dL_law_413 2 rfl ?_
  refine l_aload dL_law_414 0 rfl ?_
  refine l_iload dL_law_415 3 rfl ?_
  refine l_iconst (x := 1) dL_law_416 (by decide) ?_
  refine l_iadd dL_law_417 ?_
  refine l_sld (by rw [a_al]; exact i_n (by omega) (by omega)) dL_law_418 ?_
  refine l_aload dL_law_419 0 rfl ?_
  refine l_iload dL_law_420 3 rfl ?_
  refine l_iconst (x := 2) dL_law_421 (by decide) ?_
  refine l_iadd dL_law_422 ?_
  refine l_sld (by rw [a_al]; exact i_n (by omega) (by omega)) dL_law_423 ?_
  refine l_aload dL_law_424 0 rfl ?_
  refine l_iload dL_law_425 3 rfl ?_
  refine l_iconst (x := 3) dL_law_426 (by decide) ?_
  refine l_iadd dL_law_427 ?_
  refine l_sld (by rw [a_al]; exact i_n (by omega) (by omega)) dL_law_428 ?_
  refine l_aload dL_law_429 0 rfl ?_
  refine l_iload dL_law_430 3 rfl ?_
  refine l_iconst (x := 4) dL_law_431 (by decide) ?_
  refine l_iadd dL_law_432 ?_
  refine l_sld (by rw [a_al]; exact i_n (by omega) (by omega)) dL_law_433 ?_
  refine l_callM [Value.int (xs (nI i + 1).toNatClampNeg), Value.int (xs (nI i + 2).toNatClampNeg), Value.int (xs (nI i + 3).toNatClampNeg), Value.int (xs (nI i + 4).toNatClampNeg)] cfX6_shines (m_X6_shines ZM v (xs (nI i + 1).toNatClampNeg) (xs (nI i + 2).toNatClampNeg) (xs (nI i + 3).toNatClampNeg) (xs (nI i + 4).toNatClampNeg)) km_L_40 ⟨rfl, rfl, Nat.le_of_ble_eq_true rfl, Nat.le_of_ble_eq_true rfl⟩ rfl rfl rfl (Nat.le_of_ble_eq_true rfl) ⟨Nat.le_of_ble_eq_true rfl, Nat.le_of_ble_eq_true rfl⟩ dL_law_434 (r, v1) e2 ?_
  exact (l_eq (tgt := 1154) dL_law_437 (by decide) (kk w1 v1 hs1))
set_option maxRecDepth 100000 in
set_option maxHeartbeats 4000000 in
theorem ca_6 {ZC ZM : CSp} {b L i : Nat} {xs : Nat → Int32} {w v : Wd} (hs : Sim w v) (hi : i + 7 ≤ L) (hL : L ≤ 3584) (kk : ∀ w1 v1 : Wd, Sim w1 v1 → Wl ZC ZM b L xs w1 v1 1154 [(0, Value.ref b), (1, Value.ref (aC ZC 0)), (2, Value.ref (aC ZM 0)), (3, Value.int (nI i))] []) : Wl ZC ZM b L xs w v 442 [(0, Value.ref b), (1, Value.ref (aC ZC 0)), (2, Value.ref (aC ZM 0)), (3, Value.int (nI i))] [] := by
  refine l_aload dL_law_442 1 rfl ?_
  refine l_aload dL_law_443 0 rfl ?_
  refine l_iload dL_law_444 3 rfl ?_
  refine l_iconst (x := 1) dL_law_445 (by decide) ?_
  refine l_iadd dL_law_446 ?_
  refine l_sld (by rw [a_al]; exact i_n (by omega) (by omega)) dL_law_447 ?_
  refine l_aload dL_law_448 0 rfl ?_
  refine l_iload dL_law_449 3 rfl ?_
  refine l_iconst (x := 2) dL_law_450 (by decide) ?_
  refine l_iadd dL_law_451 ?_
  refine l_sld (by rw [a_al]; exact i_n (by omega) (by omega)) dL_law_452 ?_
  refine l_aload dL_law_453 0 rfl ?_
  refine l_iload dL_law_454 3 rfl ?_
  refine l_iconst (x := 3) dL_law_455 (by decide) ?_
  refine l_iadd dL_law_456 ?_
  refine l_sld (by rw [a_al]; exact i_n (by omega) (by omega)) dL_law_457 ?_
  obtain ⟨r, w1, v1, e1, e2, hs1⟩ := s_clears hs (xs (nI i + 1).toNatClampNeg) (xs (nI i + 2).toNatClampNeg) (xs (nI i + 3).toNatClampNeg)
  refine l_callC [Value.int (xs (nI i + 1).toNatClampNeg), Value.int (xs (nI i + 2).toNatClampNeg), Value.int (xs (nI i + 3).toNatClampNeg)] cfX5_clears (m_X5_clears ZC w (xs (nI i + 1).toNatClampNeg) (xs (nI i + 2).toNatClampNeg) (xs (nI i + 3).toNatClampNeg)) km_L_41 ⟨rfl, rfl, Nat.le_of_ble_eq_true rfl, Nat.le_of_ble_eq_true rfl⟩ rfl rfl rfl (Nat.le_of_ble_eq_true rfl) ⟨Nat.le_of_ble_eq_true rfl, Nat.le_of_ble_eq_true rfl⟩ dL_law_458 (r, w1) e1 ?_
  refine l_aload dL_law_461 2 rfl ?_
  refine l_aload dL_law_462 0 rfl ?_
  refine l_iload dL_law_463 3 rfl ?_
  refine l_iconst (x := 1) dL_law_464 (by decide) ?_
  refine l_iadd dL_law_465 ?_
  refine l_sld (by rw [a_al]; exact i_n (by omega) (by omega)) dL_law_466 ?_
  refine l_aload dL_law_467 0 rfl ?_
  refine l_iload dL_law_468 3 rfl ?_
  refine l_iconst (x := 2) dL_law_469 (by decide) ?_
  refine l_iadd dL_law_470 ?_
  refine l_sld (by rw [a_al]; exact i_n (by omega) (by omega)) dL_law_471 ?_
  refine l_aload dL_law_472 0 rfl ?_
  refine l_iload dL_law_473 3 rfl ?_
  refine l_iconst (x := 3) dL_law_474 (by decide) ?_
  refine l_iadd dL_law_475 ?_
  refine l_sld (by rw [a_al]; exact i_n (by omega) (by omega)) dL_law_476 ?_
  refine l_callM [Value.int (xs (nI i + 1).toNatClampNeg), Value.int (xs (nI i + 2).toNatClampNeg), Value.int (xs (nI i + 3).toNatClampNeg)] cfX6_clears (m_X6_clears ZM v (xs (nI i + 1).toNatClampNeg) (xs (nI i + 2).toNatClampNeg) (xs (nI i + 3).toNatClampNeg)) km_L_45 ⟨rfl, rfl, Nat.le_of_ble_eq_true rfl, Nat.le_of_ble_eq_true rfl⟩ rfl rfl rfl (Nat.le_of_ble_eq_true rfl) ⟨Nat.le_of_ble_eq_true rfl, Nat.le_of_ble_eq_true rfl⟩ dL_law_477 (r, v1) e2 ?_
  exact (l_eq (tgt := 1154) dL_law_480 (by decide) (kk w1 v1 hs1))
set_option maxRecDepth 100000 in
set_option maxHeartbeats 4000000 in
theorem ca_7 {ZC ZM : CSp} {b L i : Nat} {xs : Nat → Int32} {w v : Wd} (hs : Sim w v) (hi : i + 7 ≤ L) (hL : L ≤ 3584) (kk : ∀ w1 v1 : Wd, Sim w1 v1 → Wl ZC ZM b L xs w1 v1 1154 [(0, Value.ref b), (1, Value.ref (aC ZC 0)), (2, Value.ref (aC ZM 0)), (3, Value.int (nI i))] []) : Wl ZC ZM b L xs w v 485 [(0, Value.ref b), (1, Value.ref (aC ZC 0)), (2, Value.ref (aC ZM 0)), (3, Value.int (nI i))] [] := by
  refine l_aload dL_law_485 1 rfl ?_
  refine l_aload dL_law_486 0 rfl ?_
  refine l_iload dL_law_487 3 rfl ?_
  refine l_iconst (x := 1) dL_law_488 (by decide) ?_
  refine l_iadd dL_law_489 ?_
  refine l_sld (by rw [a_al]; exact i_n (by omega) (by omega)) dL_law_490 ?_
  refine l_aload dL_law_491 0 rfl ?_
  refine l_iload dL_law_492 3 rfl ?_
  refine l_iconst (x := 2) dL_law_493 (by decide) ?_
  refine l_iadd dL_law_494 ?_
  refine l_sld (by rw [a_al]; exact i_n (by omega) (by omega)) dL_law_495 ?_
  refine l_aload dL_law_496 0 rfl ?_
  refine l_iload dL_law_497 3 rfl ?_
  refine l_iconst (x := 3) dL_law_498 (by decide) ?_
  refine l_iadd dL_law_499 ?_
  refine l_sld (by rw [a_al]; exact i_n (by omega) (by omega)) dL_law_500 ?_
  refine l_aload dL_law_501 0 rfl ?_
  refine l_iload dL_law_502 3 rfl ?_
  refine l_iconst (x := 4) dL_law_503 (by decide) ?_
  refine l_iadd dL_law_504 ?_
  refine l_sld (by rw [a_al]; exact i_n (by omega) (by omega)) dL_law_505 ?_
  refine l_aload dL_law_506 0 rfl ?_
  refine l_iload dL_law_507 3 rfl ?_
  refine l_iconst (x := 5) dL_law_508 (by decide) ?_
  refine l_iadd dL_law_509 ?_
  refine l_sld (by rw [a_al]; exact i_n (by omega) (by omega)) dL_law_510 ?_
  obtain ⟨r, w1, v1, e1, e2, hs1⟩ := s_raw hs (xs (nI i + 1).toNatClampNeg) (xs (nI i + 2).toNatClampNeg) (xs (nI i + 3).toNatClampNeg) (xs (nI i + 4).toNatClampNeg) (xs (nI i + 5).toNatClampNeg)
  refine l_callC [Value.int (xs (nI i + 1).toNatClampNeg), Value.int (xs (nI i + 2).toNatClampNeg), Value.int (xs (nI i + 3).toNatClampNeg), Value.int (xs (nI i + 4).toNatClampNeg), Value.int (xs (nI i + 5).toNatClampNeg)] cfX5_raw (m_X5_raw ZC w (xs (nI i + 1).toNatClampNeg) (xs (nI i + 2).toNatClampNeg) (xs (nI i + 3).toNatClampNeg) (xs (nI i + 4).toNatClampNeg) (xs (nI i + 5).toNatClampNeg)) km_L_46 ⟨rfl, rfl, Nat.le_of_ble_eq_true rfl, Nat.le_of_ble_eq_true rfl⟩ rfl rfl rfl (Nat.le_of_ble_eq_true rfl) ⟨Nat.le_of_ble_eq_true rfl, Nat.le_of_ble_eq_true rfl⟩ dL_law_511 (r, w1) e1 ?_
  refine l_aload dL_law_514 2 rfl ?_
  refine l_aload dL_law_515 0 rfl ?_
  refine l_iload dL_law_516 3 rfl ?_
  refine l_iconst (x := 1) dL_law_517 (by decide) ?_
  refine l_iadd dL_law_518 ?_
  refine l_sld (by rw [a_al]; exact i_n (by omega) (by omega)) dL_law_519 ?_
  refine l_aload dL_law_520 0 rfl ?_
  refine l_iload dL_law_521 3 rfl ?_
  refine l_iconst (x := 2) dL_law_522 (by decide) ?_
  refine l_iadd dL_law_523 ?_
  refine l_sld (by rw [a_al]; exact i_n (by omega) (by omega)) dL_law_524 ?_
  refine l_aload dL_law_525 0 rfl ?_
  refine l_iload dL_law_526 3 rfl ?_
  refine l_iconst (x := 3) dL_law_527 (by decide) ?_
  refine l_iadd dL_law_528 ?_
  refine l_sld (by rw [a_al]; exact i_n (by omega) (by omega)) dL_law_529 ?_
  refine l_aload dL_law_530 0 rfl ?_
  refine l_iload dL_law_531 3 rfl ?_
  refine l_iconst (x := 4) dL_law_532 (by decide) ?_
  refine l_iadd dL_law_533 ?_
  refine l_sld (by rw [a_al]; exact i_n (by omega) (by omega)) dL_law_534 ?_
  refine l_aload dL_law_535 0 rfl ?_
  refine l_iload dL_law_536 3 rfl ?_
  refine l_iconst (x := 5) dL_law_537 (by decide) ?_
  refine l_iadd dL_law_538 ?_
  refine l_sld (by rw [a_al]; exact i_n (by omega) (by omega)) dL_law_539 ?_
  refine l_callM [Value.int (xs (nI i + 1).toNatClampNeg), Value.int (xs (nI i + 2).toNatClampNeg), Value.int (xs (nI i + 3).toNatClampNeg), Value.int (xs (nI i + 4).toNatClampNeg), Value.int (xs (nI i + 5).toNatClampNeg)] cfX6_raw (m_X6_raw ZM v (xs (nI i + 1).toNatClampNeg) (xs (nI i + 2).toNatClampNeg) (xs (nI i + 3).toNatClampNeg) (xs (nI i + 4).toNatClampNeg) (xs (nI i + 5).toNatClampNeg)) km_L_49 ⟨rfl, rfl, Nat.le_of_ble_eq_true rfl, Nat.le_of_ble_eq_true rfl⟩ rfl rfl rfl (Nat.le_of_ble_eq_true rfl) ⟨Nat.le_of_ble_eq_true rfl, Nat.le_of_ble_eq_true rfl⟩ dL_law_540 (r, v1) e2 ?_
  exact (l_eq (tgt := 1154) dL_law_543 (by decide) (kk w1 v1 hs1))
set_option maxRecDepth 100000 in
set_option maxHeartbeats 4000000 in
theorem ca_8 {ZC ZM : CSp} {b L i : Nat} {xs : Nat → Int32} {w v : Wd} (hs : Sim w v) (hi : i + 7 ≤ L) (hL : L ≤ 3584) (kk : ∀ w1 v1 : Wd, Sim w1 v1 → Wl ZC ZM b L xs w1 v1 1154 [(0, Value.ref b), (1, Value.ref (aC ZC 0)), (2, Value.ref (aC ZM 0)), (3, Value.int (nI i))] []) : Wl ZC ZM b L xs w v 548 [(0, Value.ref b), (1, Value.ref (aC ZC 0)), (2, Value.ref (aC ZM 0)), (3, Value.int (nI i))] [] := by
  refine l_aload dL_law_548 1 rfl ?_
  refine l_aload dL_law_549 0 rfl ?_
  refine l_iload dL_law_550 3 rfl ?_
  refine l_iconst (x := 1) dL_law_551 (by decide) ?_
  refine l_iadd dL_law_552 ?_
  refine l_sld (by rw [a_al]; exact i_n (by omega) (by omega)) dL_law_553 ?_
  refine l_aload dL_law_554 0 rfl ?_
  refine l_iload dL_law_555 3 rfl ?_
  refine l_iconst (x := 2) dL_law_556 (by decide) ?_
  refine l_iadd dL_law_557 ?_
  refine l_sld (by rw [a_al]; exact i_n (by omega) (by omega)) dL_law_558 ?_
  refine l_aload dL_law_559 0 rfl ?_
  refine l_iload dL_law_560 3 rfl ?_
  refine l_iconst (x := 3) dL_law_561 (by decide) ?_
  refine l_iadd dL_law_562 ?_
  refine l_sld (by rw [a_al]; exact i_n (by omega) (by omega)) dL_law_563 ?_
  refine l_aload dL_law_564 0 rfl ?_
  refine l_iload dL_law_565 3 rfl ?_
  refine l_iconst (x := 4) dL_law_566 (by decide) ?_
  refine l_iadd dL_law_567 ?_
  refine l_sld (by rw [a_al]; exact i_n (by omega) (by omega)) dL_law_568 ?_
  refine l_aload dL_law_569 0 rfl ?_
  refine l_iload dL_law_570 3 rfl ?_
  refine l_iconst (x := 5) dL_law_571 (by decide) ?_
  refine l_iadd dL_law_572 ?_
  refine l_sld (by rw [a_al]; exact i_n (by omega) (by omega)) dL_law_573 ?_
  obtain ⟨r, w1, v1, e1, e2, hs1⟩ := s_of hs (xs (nI i + 1).toNatClampNeg) (xs (nI i + 2).toNatClampNeg) (xs (nI i + 3).toNatClampNeg) (xs (nI i + 4).toNatClampNeg) (xs (nI i + 5).toNatClampNeg)
  refine l_callC [Value.int (xs (nI i + 1).toNatClampNeg), Value.int (xs (nI i + 2).toNatClampNeg), Value.int (xs (nI i + 3).toNatClampNeg), Value.int (xs (nI i + 4).toNatClampNeg), Value.int (xs (nI i + 5).toNatClampNeg)] cfX5_of (m_X5_of ZC w (xs (nI i + 1).toNatClampNeg) (xs (nI i + 2).toNatClampNeg) (xs (nI i + 3).toNatClampNeg) (xs (nI i + 4).toNatClampNeg) (xs (nI i + 5).toNatClampNeg)) km_L_50 ⟨rfl, rfl, Nat.le_of_ble_eq_true rfl, Nat.le_of_ble_eq_true rfl⟩ rfl rfl rfl (Nat.le_of_ble_eq_true rfl) ⟨Nat.le_of_ble_eq_true rfl, Nat.le_of_ble_eq_true rfl⟩ dL_law_574 (r, w1) e1 ?_
  refine l_aload dL_law_577 2 rfl ?_
  refine l_aload dL_law_578 0 rfl ?_
  refine l_iload dL_law_579 3 rfl ?_
  refine l_iconst (x := 1) dL_law_580 (by decide) ?_
  refine l_iadd dL_law_581 ?_
  refine l_sld (by rw [a_al]; exact i_n (by omega) (by omega)) dL_law_582 ?_
  refine l_aload dL_law_583 0 rfl ?_
  refine l_iload dL_law_584 3 rfl ?_
  refine l_iconst (x := 2) dL_law_585 (by decide) ?_
  refine l_iadd dL_law_586 ?_
  refine l_sld (by rw [a_al]; exact i_n (by omega) (by omega)) dL_law_587 ?_
  refine l_aload dL_law_588 0 rfl ?_
  refine l_iload dL_law_589 3 rfl ?_
  refine l_iconst (x := 3) dL_law_590 (by decide) ?_
  refine l_iadd dL_law_591 ?_
  refine l_sld (by rw [a_al]; exact i_n (by omega) (by omega)) dL_law_592 ?_
  refine l_aload dL_law_593 0 rfl ?_
  refine l_iload dL_law_594 3 rfl ?_
  refine l_iconst (x := 4) dL_law_595 (by decide) ?_
  refine l_iadd dL_law_596 ?_
  refine l_sld (by rw [a_al]; exact i_n (by omega) (by omega)) dL_law_597 ?_
  refine l_aload dL_law_598 0 rfl ?_
  refine l_iload dL_law_599 3 rfl ?_
  refine l_iconst (x := 5) dL_law_600 (by decide) ?_
  refine l_iadd dL_law_601 ?_
  refine l_sld (by rw [a_al]; exact i_n (by omega) (by omega)) dL_law_602 ?_
  refine l_callM [Value.int (xs (nI i + 1).toNatClampNeg), Value.int (xs (nI i + 2).toNatClampNeg), Value.int (xs (nI i + 3).toNatClampNeg), Value.int (xs (nI i + 4).toNatClampNeg), Value.int (xs (nI i + 5).toNatClampNeg)] cfX6_of (m_X6_of ZM v (xs (nI i + 1).toNatClampNeg) (xs (nI i + 2).toNatClampNeg) (xs (nI i + 3).toNatClampNeg) (xs (nI i + 4).toNatClampNeg) (xs (nI i + 5).toNatClampNeg)) km_L_53 ⟨rfl, rfl, Nat.le_of_ble_eq_true rfl, Nat.le_of_ble_eq_true rfl⟩ rfl rfl rfl (Nat.le_of_ble_eq_true rfl) ⟨Nat.le_of_ble_eq_true rfl, Nat.le_of_ble_eq_true rfl⟩ dL_law_603 (r, v1) e2 ?_
  exact (l_eq (tgt := 1154) dL_law_606 (by decide) (kk w1 v1 hs1))
set_option maxRecDepth 100000 in
set_option maxHeartbeats 4000000 in
theorem ca_9 {ZC ZM : CSp} {b L i : Nat} {xs : Nat → Int32} {w v : Wd} (hs : Sim w v) (hi : i + 7 ≤ L) (hL : L ≤ 3584) (kk : ∀ w1 v1 : Wd, Sim w1 v1 → Wl ZC ZM b L xs w1 v1 1154 [(0, Value.ref b), (1, Value.ref (aC ZC 0)), (2, Value.ref (aC ZM 0)), (3, Value.int (nI i))] []) : Wl ZC ZM b L xs w v 611 [(0, Value.ref b), (1, Value.ref (aC ZC 0)), (2, Value.ref (aC ZM 0)), (3, Value.int (nI i))] [] := by
  refine l_aload dL_law_611 1 rfl ?_
  refine l_aload dL_law_612 0 rfl ?_
  refine l_iload dL_law_613 3 rfl ?_
  refine l_iconst (x := 1) dL_law_614 (by decide) ?_
  refine l_iadd dL_law_615 ?_
  refine l_sld (by rw [a_al]; exact i_n (by omega) (by omega)) dL_law_616 ?_
  refine l_aload dL_law_617 0 rfl ?_
  refine l_iload dL_law_618 3 rfl ?_
  refine l_iconst (x := 2) dL_law_619 (by decide) ?_
  refine l_iadd dL_law_620 ?_
  refine l_sld (by rw [a_al]; exact i_n (by omega) (by omega)) dL_law_621 ?_
  refine l_aload dL_law_622 0 rfl ?_
  refine l_iload dL_law_623 3 rfl ?_
  refine l_iconst (x := 3) dL_law_624 (by decide) ?_
  refine l_iadd dL_law_625 ?_
  refine l_sld (by rw [a_al]; exact i_n (by omega) (by omega)) dL_law_626 ?_
  refine l_aload dL_law_627 0 rfl ?_
  refine l_iload dL_law_628 3 rfl ?_
  refine l_iconst (x := 4) dL_law_629 (by decide) ?_
  refine l_iadd dL_law_630 ?_
  refine l_sld (by rw [a_al]; exact i_n (by omega) (by omega)) dL_law_631 ?_
  refine l_aload dL_law_632 0 rfl ?_
  refine l_iload dL_law_633 3 rfl ?_
  refine l_iconst (x := 5) dL_law_634 (by decide) ?_
  refine l_iadd dL_law_635 ?_
  refine l_sld (by rw [a_al]; exact i_n (by omega) (by omega)) dL_law_636 ?_
  obtain ⟨r, w1, v1, e1, e2, hs1⟩ := s_bits hs (xs (nI i + 1).toNatClampNeg) (xs (nI i + 2).toNatClampNeg) (xs (nI i + 3).toNatClampNeg) (xs (nI i + 4).toNatClampNeg) (xs (nI i + 5).toNatClampNeg)
  refine l_callC [Value.int (xs (nI i + 1).toNatClampNeg), Value.int (xs (nI i + 2).toNatClampNeg), Value.int (xs (nI i + 3).toNatClampNeg), Value.int (xs (nI i + 4).toNatClampNeg), Value.int (xs (nI i + 5).toNatClampNeg)] cfX5_bits (m_X5_bits ZC w (xs (nI i + 1).toNatClampNeg) (xs (nI i + 2).toNatClampNeg) (xs (nI i + 3).toNatClampNeg) (xs (nI i + 4).toNatClampNeg) (xs (nI i + 5).toNatClampNeg)) km_L_54 ⟨rfl, rfl, Nat.le_of_ble_eq_true rfl, Nat.le_of_ble_eq_true rfl⟩ rfl rfl rfl (Nat.le_of_ble_eq_true rfl) ⟨Nat.le_of_ble_eq_true rfl, Nat.le_of_ble_eq_true rfl⟩ dL_law_637 (r, w1) e1 ?_
  refine l_aload dL_law_640 2 rfl ?_
  refine l_aload dL_law_641 0 rfl ?_
  refine l_iload dL_law_642 3 rfl ?_
  refine l_iconst (x := 1) dL_law_643 (by decide) ?_
  refine l_iadd dL_law_644 ?_
  refine l_sld (by rw [a_al]; exact i_n (by omega) (by omega)) dL_law_645 ?_
  refine l_aload dL_law_646 0 rfl ?_
  refine l_iload dL_law_647 3 rfl ?_
  refine l_iconst (x := 2) dL_law_648 (by decide) ?_
  refine l_iadd dL_law_649 ?_
  refine l_sld (by rw [a_al]; exact i_n (by omega) (by omega)) dL_law_650 ?_
  refine l_aload dL_law_651 0 rfl ?_
  refine l_iload dL_law_652 3 rfl ?_
  refine l_iconst (x := 3) dL_law_653 (by decide) ?_
  refine l_iadd dL_law_654 ?_
  refine l_sld (by rw [a_al]; exact i_n (by omega) (by omega)) dL_law_655 ?_
  refine l_aload dL_law_656 0 rfl ?_
  refine l_iload dL_law_657 3 rfl ?_
  refine l_iconst (x := 4) dL_law_658 (by decide) ?_
  refine l_iadd dL_law_659 ?_
  refine l_sld (by rw [a_al]; exact i_n (by omega) (by omega)) dL_law_660 ?_
  refine l_aload dL_law_661 0 rfl ?_
  refine l_iload dL_law_662 3 rfl ?_
  refine l_iconst (x := 5) dL_law_663 (by decide) ?_
  refine l_iadd dL_law_664 ?_
  refine l_sld (by rw [a_al]; exact i_n (by omega) (by omega)) dL_law_665 ?_
  refine l_callM [Value.int (xs (nI i + 1).toNatClampNeg), Value.int (xs (nI i + 2).toNatClampNeg), Value.int (xs (nI i + 3).toNatClampNeg), Value.int (xs (nI i + 4).toNatClampNeg), Value.int (xs (nI i + 5).toNatClampNeg)] cfX6_bits (m_X6_bits ZM v (xs (nI i + 1).toNatClampNeg) (xs (nI i + 2).toNatClampNeg) (xs (nI i + 3).toNatClampNeg) (xs (nI i + 4).toNatClampNeg) (xs (nI i + 5).toNatClampNeg)) km_L_57 ⟨rfl, rfl, Nat.le_of_ble_eq_true rfl, Nat.le_of_ble_eq_true rfl⟩ rfl rfl rfl (Nat.le_of_ble_eq_true rfl) ⟨Nat.le_of_ble_eq_true rfl, Nat.le_of_ble_eq_true rfl⟩ dL_law_666 (r, v1) e2 ?_
  exact (l_eq (tgt := 1154) dL_law_669 (by decide) (kk w1 v1 hs1))
set_option maxRecDepth 100000 in
set_option maxHeartbeats 4000000 in
theorem ca_10 {ZC ZM : CSp} {b L i : Nat} {xs : Nat → Int32} {w v : Wd} (hs : Sim w v) (hi : i + 7 ≤ L) (hL : L ≤ 3584) (kk : ∀ w1 v1 : Wd, Sim w1 v1 → Wl ZC ZM b L xs w1 v1 1154 [(0, Value.ref b), (1, Value.ref (aC ZC 0)), (2, Value.ref (aC ZM 0)), (3, Value.int (nI i))] []) : Wl ZC ZM b L xs w v 674 [(0, Value.ref b), (1, Value.ref (aC ZC 0)), (2, Value.ref (aC ZM 0)), (3, Value.int (nI i))] [] := by
  refine l_aload dL_law_674 1 rfl ?_
  refine l_aload dL_law_675 0 rfl ?_
  refine l_iload dL_law_676 3 rfl ?_
  refine l_iconst (x := 1) dL_law_677 (by decide) ?_
  refine l_iadd dL_law_678 ?_
  refine l_sld (by rw [a_al]; exact i_n (by omega) (by omega)) dL_law_679 ?_
  refine l_aload dL_law_680 0 rfl ?_
  refine l_iload dL_law_681 3 rfl ?_
  refine l_iconst (x := 2) dL_law_682 (by decide) ?_
  refine l_iadd dL_law_683 ?_
  refine l_sld (by rw [a_al]; exact i_n (by omega) (by omega)) dL_law_684 ?_
  refine l_aload dL_law_685 0 rfl ?_
  refine l_iload dL_law_686 3 rfl ?_
  refine l_iconst (x := 3) dL_law_687 (by decide) ?_
  refine l_iadd dL_law_688 ?_
  refine l_sld (by rw [a_al]; exact i_n (by omega) (by omega)) dL_law_689 ?_
  refine l_aload dL_law_690 0 rfl ?_
  refine l_iload dL_law_691 3 rfl ?_
  refine l_iconst (x := 4) dL_law_692 (by decide) ?_
  refine l_iadd dL_law_693 ?_
  refine l_sld (by rw [a_al]; exact i_n (by omega) (by omega)) dL_law_694 ?_
  obtain ⟨r, w1, v1, e1, e2, hs1⟩ := s_wraps hs (xs (nI i + 1).toNatClampNeg) (xs (nI i + 2).toNatClampNeg) (xs (nI i + 3).toNatClampNeg) (xs (nI i + 4).toNatClampNeg)
  refine l_callC [Value.int (xs (nI i + 1).toNatClampNeg), Value.int (xs (nI i + 2).toNatClampNeg), Value.int (xs (nI i + 3).toNatClampNeg), Value.int (xs (nI i + 4).toNatClampNeg)] cfX5_wraps (m_X5_wraps ZC w (xs (nI i + 1).toNatClampNeg) (xs (nI i + 2).toNatClampNeg) (xs (nI i + 3).toNatClampNeg) (xs (nI i + 4).toNatClampNeg)) km_L_58 ⟨rfl, rfl, Nat.le_of_ble_eq_true rfl, Nat.le_of_ble_eq_true rfl⟩ rfl rfl rfl (Nat.le_of_ble_eq_true rfl) ⟨Nat.le_of_ble_eq_true rfl, Nat.le_of_ble_eq_true rfl⟩ dL_law_695 (r, w1) e1 ?_
  refine l_aload dL_law_698 2 rfl ?_
  refine l_aload dL_law_699 0 rfl ?_
  refine l_iload dL_law_700 3 rfl ?_
  refine l_iconst (x := 1) dL_law_701 (by decide) ?_
  refine l_iadd dL_law_702 ?_
  refine l_sld (by rw [a_al]; exact i_n (by omega) (by omega)) dL_law_703 ?_
  refine l_aload dL_law_704 0 rfl ?_
  refine l_iload dL_law_705 3 rfl ?_
  refine l_iconst (x := 2) dL_law_706 (by decide) ?_
  refine l_iadd dL_law_707 ?_
  refine l_sld (by rw [a_al]; exact i_n (by omega) (by omega)) dL_law_708 ?_
  refine l_aload dL_law_709 0 rfl ?_
  refine l_iload dL_law_710 3 rfl ?_
  refine l_iconst (x := 3) dL_law_711 (by decide) ?_
  refine l_iadd dL_law_712 ?_
  refine l_sld (by rw [a_al]; exact i_n (by omega) (by omega)) dL_law_713 ?_
  refine l_aload dL_law_714 0 rfl ?_
  refine l_iload dL_law_715 3 rfl ?_
  refine l_iconst (x := 4) dL_law_716 (by decide) ?_
  refine l_iadd dL_law_717 ?_
  refine l_sld (by rw [a_al]; exact i_n (by omega) (by omega)) dL_law_718 ?_
  refine l_callM [Value.int (xs (nI i + 1).toNatClampNeg), Value.int (xs (nI i + 2).toNatClampNeg), Value.int (xs (nI i + 3).toNatClampNeg), Value.int (xs (nI i + 4).toNatClampNeg)] cfX6_wraps (m_X6_wraps ZM v (xs (nI i + 1).toNatClampNeg) (xs (nI i + 2).toNatClampNeg) (xs (nI i + 3).toNatClampNeg) (xs (nI i + 4).toNatClampNeg)) km_L_61 ⟨rfl, rfl, Nat.le_of_ble_eq_true rfl, Nat.le_of_ble_eq_true rfl⟩ rfl rfl rfl (Nat.le_of_ble_eq_true rfl) ⟨Nat.le_of_ble_eq_true rfl, Nat.le_of_ble_eq_true rfl⟩ dL_law_719 (r, v1) e2 ?_
  exact (l_eq (tgt := 1154) dL_law_722 (by decide) (kk w1 v1 hs1))
set_option maxRecDepth 100000 in
set_option maxHeartbeats 4000000 in
theorem ca_11 {ZC ZM : CSp} {b L i : Nat} {xs : Nat → Int32} {w v : Wd} (hs : Sim w v) (hi : i + 7 ≤ L) (hL : L ≤ 3584) (kk : ∀ w1 v1 : Wd, Sim w1 v1 → Wl ZC ZM b L xs w1 v1 1154 [(0, Value.ref b), (1, Value.ref (aC ZC 0)), (2, Value.ref (aC ZM 0)), (3, Value.int (nI i))] []) : Wl ZC ZM b L xs w v 727 [(0, Value.ref b), (1, Value.ref (aC ZC 0)), (2, Value.ref (aC ZM 0)), (3, Value.int (nI i))] [] := by
  refine l_aload dL_law_727 1 rfl ?_
  refine l_aload dL_law_728 0 rfl ?_
  refine l_iload dL_law_729 3 rfl ?_
  refine l_iconst (x := 1) dL_law_730 (by decide) ?_
  refine l_iadd dL_law_731 ?_
  refine l_sld (by rw [a_al]; exact i_n (by omega) (by omega)) dL_law_732 ?_
  refine l_aload dL_law_733 0 rfl ?_
  refine l_iload dL_law_734 3 rfl ?_
  refine l_iconst (x := 2) dL_law_735 (by decide) ?_
  refine l_iadd dL_law_736 ?_
  refine l_sld (by rw [a_al]; exact i_n (by omega) (by omega)) dL_law_737 ?_
  refine l_aload dL_law_738 0 rfl ?_
  refine l_iload dL_law_739 3 rfl ?_
  refine l_iconst (x := 3) dL_law_740 (by decide) ?_
  refine l_iadd dL_law_741 ?_
  refine l_sld (by rw [a_al]; exact i_n (by omega) (by omega)) dL_law_742 ?_
  refine l_aload dL_law_743 0 rfl ?_
  refine l_iload dL_law_744 3 rfl ?_
  refine l_iconst (x := 4) dL_law_745 (by decide) ?_
  refine l_iadd dL_law_746 ?_
  refine l_sld (by rw [a_al]; exact i_n (by omega) (by omega)) dL_law_747 ?_
  refine l_aload dL_law_748 0 rfl ?_
  refine l_iload dL_law_749 3 rfl ?_
  refine l_iconst (x := 5) dL_law_750 (by decide) ?_
  refine l_iadd dL_law_751 ?_
  refine l_sld (by rw [a_al]; exact i_n (by omega) (by omega)) dL_law_752 ?_
  obtain ⟨r, w1, v1, e1, e2, hs1⟩ := s_away hs (xs (nI i + 1).toNatClampNeg) (xs (nI i + 2).toNatClampNeg) (xs (nI i + 3).toNatClampNeg) (xs (nI i + 4).toNatClampNeg) (xs (nI i + 5).toNatClampNeg)
  refine l_callC [Value.int (xs (nI i + 1).toNatClampNeg), Value.int (xs (nI i + 2).toNatClampNeg), Value.int (xs (nI i + 3).toNatClampNeg), Value.int (xs (nI i + 4).toNatClampNeg), Value.int (xs (nI i + 5).toNatClampNeg)] cfX5_away (m_X5_away ZC w (xs (nI i + 1).toNatClampNeg) (xs (nI i + 2).toNatClampNeg) (xs (nI i + 3).toNatClampNeg) (xs (nI i + 4).toNatClampNeg) (xs (nI i + 5).toNatClampNeg)) km_L_62 ⟨rfl, rfl, Nat.le_of_ble_eq_true rfl, Nat.le_of_ble_eq_true rfl⟩ rfl rfl rfl (Nat.le_of_ble_eq_true rfl) ⟨Nat.le_of_ble_eq_true rfl, Nat.le_of_ble_eq_true rfl⟩ dL_law_753 (r, w1) e1 ?_
  refine l_aload dL_law_756 2 rfl ?_
  refine l_aload dL_law_757 0 rfl ?_
  refine l_iload dL_law_758 3 rfl ?_
  refine l_iconst (x := 1) dL_law_759 (by decide) ?_
  refine l_iadd dL_law_760 ?_
  refine l_sld (by rw [a_al]; exact i_n (by omega) (by omega)) dL_law_761 ?_
  refine l_aload dL_law_762 0 rfl ?_
  refine l_iload dL_law_763 3 rfl ?_
  refine l_iconst (x := 2) dL_law_764 (by decide) ?_
  refine l_iadd dL_law_765 ?_
  refine l_sld (by rw [a_al]; exact i_n (by omega) (by omega)) dL_law_766 ?_
  refine l_aload dL_law_767 0 rfl ?_
  refine l_iload dL_law_768 3 rfl ?_
  refine l_iconst (x := 3) dL_law_769 (by decide) ?_
  refine l_iadd dL_law_770 ?_
  refine l_sld (by rw [a_al]; exact i_n (by omega) (by omega)) dL_law_771 ?_
  refine l_aload dL_law_772 0 rfl ?_
  refine l_iload dL_law_773 3 rfl ?_
  refine l_iconst (x := 4) dL_law_774 (by decide) ?_
  refine l_iadd dL_law_775 ?_
  refine l_sld (by rw [a_al]; exact i_n (by omega) (by omega)) dL_law_776 ?_
  refine l_aload dL_law_777 0 rfl ?_
  refine l_iload dL_law_778 3 rfl ?_
  refine l_iconst (x := 5) dL_law_779 (by decide) ?_
  refine l_iadd dL_law_780 ?_
  refine l_sld (by rw [a_al]; exact i_n (by omega) (by omega)) dL_law_781 ?_
  refine l_callM [Value.int (xs (nI i + 1).toNatClampNeg), Value.int (xs (nI i + 2).toNatClampNeg), Value.int (xs (nI i + 3).toNatClampNeg), Value.int (xs (nI i + 4).toNatClampNeg), Value.int (xs (nI i + 5).toNatClampNeg)] cfX6_away (m_X6_away ZM v (xs (nI i + 1).toNatClampNeg) (xs (nI i + 2).toNatClampNeg) (xs (nI i + 3).toNatClampNeg) (xs (nI i + 4).toNatClampNeg) (xs (nI i + 5).toNatClampNeg)) km_L_65 ⟨rfl, rfl, Nat.le_of_ble_eq_true rfl, Nat.le_of_ble_eq_true rfl⟩ rfl rfl rfl (Nat.le_of_ble_eq_true rfl) ⟨Nat.le_of_ble_eq_true rfl, Nat.le_of_ble_eq_true rfl⟩ dL_law_782 (r, v1) e2 ?_
  exact (l_eq (tgt := 1154) dL_law_785 (by decide) (kk w1 v1 hs1))
set_option maxRecDepth 100000 in
set_option maxHeartbeats 4000000 in
theorem ca_12 {ZC ZM : CSp} {b L i : Nat} {xs : Nat → Int32} {w v : Wd} (hs : Sim w v) (hi : i + 7 ≤ L) (hL : L ≤ 3584) (kk : ∀ w1 v1 : Wd, Sim w1 v1 → Wl ZC ZM b L xs w1 v1 1154 [(0, Value.ref b), (1, Value.ref (aC ZC 0)), (2, Value.ref (aC ZM 0)), (3, Value.int (nI i))] []) : Wl ZC ZM b L xs w v 790 [(0, Value.ref b), (1, Value.ref (aC ZC 0)), (2, Value.ref (aC ZM 0)), (3, Value.int (nI i))] [] := by
  refine l_aload dL_law_790 1 rfl ?_
  refine l_aload dL_law_791 0 rfl ?_
  refine l_iload dL_law_792 3 rfl ?_
  refine l_iconst (x := 1) dL_law_793 (by decide) ?_
  refine l_iadd dL_law_794 ?_
  refine l_sld (by rw [a_al]; exact i_n (by omega) (by omega)) dL_law_795 ?_
  refine l_aload dL_law_796 0 rfl ?_
  refine l_iload dL_law_797 3 rfl ?_
  refine l_iconst (x := 2) dL_law_798 (by decide) ?_
  refine l_iadd dL_law_799 ?_
  refine l_sld (by rw [a_al]; exact i_n (by omega) (by omega)) dL_law_800 ?_
  refine l_aload dL_law_801 0 rfl ?_
  refine l_iload dL_law_802 3 rfl ?_
  refine l_iconst (x := 3) dL_law_803 (by decide) ?_
  refine l_iadd dL_law_804 ?_
  refine l_sld (by rw [a_al]; exact i_n (by omega) (by omega)) dL_law_805 ?_
  obtain ⟨r, w1, v1, e1, e2, hs1⟩ := s_mark hs (xs (nI i + 1).toNatClampNeg) (xs (nI i + 2).toNatClampNeg) (xs (nI i + 3).toNatClampNeg)
  refine l_callC [Value.int (xs (nI i + 1).toNatClampNeg), Value.int (xs (nI i + 2).toNatClampNeg), Value.int (xs (nI i + 3).toNatClampNeg)] cfX5_mark (m_X5_mark ZC w (xs (nI i + 1).toNatClampNeg) (xs (nI i + 2).toNatClampNeg) (xs (nI i + 3).toNatClampNeg)) km_L_66 ⟨rfl, rfl, Nat.le_of_ble_eq_true rfl, Nat.le_of_ble_eq_true rfl⟩ rfl rfl rfl (Nat.le_of_ble_eq_true rfl) ⟨Nat.le_of_ble_eq_true rfl, Nat.le_of_ble_eq_true rfl⟩ dL_law_806 (r, w1) e1 ?_
  refine l_aload dL_law_809 2 rfl ?_
  refine l_aload dL_law_810 0 rfl ?_
  refine l_iload dL_law_811 3 rfl ?_
  refine l_iconst (x := 1) dL_law_812 (by decide) ?_
  refine l_iadd dL_law_813 ?_
  refine l_sld (by rw [a_al]; exact i_n (by omega) (by omega)) dL_law_814 ?_
  refine l_aload dL_law_815 0 rfl ?_
  refine l_iload dL_law_816 3 rfl ?_
  refine l_iconst (x := 2) dL_law_817 (by decide) ?_
  refine l_iadd dL_law_818 ?_
  refine l_sld (by rw [a_al]; exact i_n (by omega) (by omega)) dL_law_819 ?_
  refine l_aload dL_law_820 0 rfl ?_
  refine l_iload dL_law_821 3 rfl ?_
  refine l_iconst (x := 3) dL_law_822 (by decide) ?_
  refine l_iadd dL_law_823 ?_
  refine l_sld (by rw [a_al]; exact i_n (by omega) (by omega)) dL_law_824 ?_
  refine l_callM [Value.int (xs (nI i + 1).toNatClampNeg), Value.int (xs (nI i + 2).toNatClampNeg), Value.int (xs (nI i + 3).toNatClampNeg)] cfX6_mark (m_X6_mark ZM v (xs (nI i + 1).toNatClampNeg) (xs (nI i + 2).toNatClampNeg) (xs (nI i + 3).toNatClampNeg)) km_L_69 ⟨rfl, rfl, Nat.le_of_ble_eq_true rfl, Nat.le_of_ble_eq_true rfl⟩ rfl rfl rfl (Nat.le_of_ble_eq_true rfl) ⟨Nat.le_of_ble_eq_true rfl, Nat.le_of_ble_eq_true rfl⟩ dL_law_825 (r, v1) e2 ?_
  exact (l_eq (tgt := 1154) dL_law_828 (by decide) (kk w1 v1 hs1))
set_option maxRecDepth 100000 in
set_option maxHeartbeats 4000000 in
theorem ca_13 {ZC ZM : CSp} {b L i : Nat} {xs : Nat → Int32} {w v : Wd} (hs : Sim w v) (hi : i + 7 ≤ L) (hL : L ≤ 3584) (kk : ∀ w1 v1 : Wd, Sim w1 v1 → Wl ZC ZM b L xs w1 v1 1154 [(0, Value.ref b), (1, Value.ref (aC ZC 0)), (2, Value.ref (aC ZM 0)), (3, Value.int (nI i))] []) : Wl ZC ZM b L xs w v 833 [(0, Value.ref b), (1, Value.ref (aC ZC 0)), (2, Value.ref (aC ZM 0)), (3, Value.int (nI i))] [] := by
  refine l_aload dL_law_833 1 rfl ?_
  refine l_aload dL_law_834 0 rfl ?_
  refine l_iload dL_law_835 3 rfl ?_
  refine l_iconst (x := 1) dL_law_836 (by decide) ?_
  refine l_iadd dL_law_837 ?_
  refine l_sld (by rw [a_al]; exact i_n (by omega) (by omega)) dL_law_838 ?_
  refine l_aload dL_law_839 0 rfl ?_
  refine l_iload dL_law_840 3 rfl ?_
  refine l_iconst (x := 2) dL_law_841 (by decide) ?_
  refine l_iadd dL_law_842 ?_
  refine l_sld (by rw [a_al]; exact i_n (by omega) (by omega)) dL_law_843 ?_
  refine l_aload dL_law_844 0 rfl ?_
  refine l_iload dL_law_845 3 rfl ?_
  refine l_iconst (x := 3) dL_law_846 (by decide) ?_
  refine l_iadd dL_law_847 ?_
  refine l_sld (by rw [a_al]; exact i_n (by omega) (by omega)) dL_law_848 ?_
  refine l_aload dL_law_849 0 rfl ?_
  refine l_iload dL_law_850 3 rfl ?_
  refine l_iconst (x := 4) dL_law_851 (by decide) ?_
  refine l_iadd dL_law_852 ?_
  refine l_sld (by rw [a_al]; exact i_n (by omega) (by omega)) dL_law_853 ?_
  obtain ⟨r, w1, v1, e1, e2, hs1⟩ := s_cell hs (xs (nI i + 1).toNatClampNeg) (xs (nI i + 2).toNatClampNeg) (xs (nI i + 3).toNatClampNeg) (xs (nI i + 4).toNatClampNeg)
  refine l_callC [Value.int (xs (nI i + 1).toNatClampNeg), Value.int (xs (nI i + 2).toNatClampNeg), Value.int (xs (nI i + 3).toNatClampNeg), Value.int (xs (nI i + 4).toNatClampNeg)] cfX5_cell (m_X5_cell ZC w (xs (nI i + 1).toNatClampNeg) (xs (nI i + 2).toNatClampNeg) (xs (nI i + 3).toNatClampNeg) (xs (nI i + 4).toNatClampNeg)) km_L_70 ⟨rfl, rfl, Nat.le_of_ble_eq_true rfl, Nat.le_of_ble_eq_true rfl⟩ rfl rfl rfl (Nat.le_of_ble_eq_true rfl) ⟨Nat.le_of_ble_eq_true rfl, Nat.le_of_ble_eq_true rfl⟩ dL_law_854 (r, w1) e1 ?_
  refine l_aload dL_law_857 2 rfl ?_
  refine l_aload dL_law_858 0 rfl ?_
  refine l_iload dL_law_859 3 rfl ?_
  refine l_iconst (x := 1) dL_law_860 (by decide) ?_
  refine l_iadd dL_law_861 ?_
  refine l_sld (by rw [a_al]; exact i_n (by omega) (by omega)) dL_law_862 ?_
  refine l_aload dL_law_863 0 rfl ?_
  refine l_iload dL_law_864 3 rfl ?_
  refine l_iconst (x := 2) dL_law_865 (by decide) ?_
  refine l_iadd dL_law_866 ?_
  refine l_sld (by rw [a_al]; exact i_n (by omega) (by omega)) dL_law_867 ?_
  refine l_aload dL_law_868 0 rfl ?_
  refine l_iload dL_law_869 3 rfl ?_
  refine l_iconst (x := 3) dL_law_870 (by decide) ?_
  refine l_iadd dL_law_871 ?_
  refine l_sld (by rw [a_al]; exact i_n (by omega) (by omega)) dL_law_872 ?_
  refine l_aload dL_law_873 0 rfl ?_
  refine l_iload dL_law_874 3 rfl ?_
  refine l_iconst (x := 4) dL_law_875 (by decide) ?_
  refine l_iadd dL_law_876 ?_
  refine l_sld (by rw [a_al]; exact i_n (by omega) (by omega)) dL_law_877 ?_
  refine l_callM [Value.int (xs (nI i + 1).toNatClampNeg), Value.int (xs (nI i + 2).toNatClampNeg), Value.int (xs (nI i + 3).toNatClampNeg), Value.int (xs (nI i + 4).toNatClampNeg)] cfX6_cell (m_X6_cell ZM v (xs (nI i + 1).toNatClampNeg) (xs (nI i + 2).toNatClampNeg) (xs (nI i + 3).toNatClampNeg) (xs (nI i + 4).toNatClampNeg)) km_L_73 ⟨rfl, rfl, Nat.le_of_ble_eq_true rfl, Nat.le_of_ble_eq_true rfl⟩ rfl rfl rfl (Nat.le_of_ble_eq_true rfl) ⟨Nat.le_of_ble_eq_true rfl, Nat.le_of_ble_eq_true rfl⟩ dL_law_878 (r, v1) e2 ?_
  exact (l_eq (tgt := 1154) dL_law_881 (by decide) (kk w1 v1 hs1))
set_option maxRecDepth 100000 in
set_option maxHeartbeats 4000000 in
theorem ca_14 {ZC ZM : CSp} {b L i : Nat} {xs : Nat → Int32} {w v : Wd} (hs : Sim w v) (hi : i + 7 ≤ L) (hL : L ≤ 3584) (kk : ∀ w1 v1 : Wd, Sim w1 v1 → Wl ZC ZM b L xs w1 v1 1154 [(0, Value.ref b), (1, Value.ref (aC ZC 0)), (2, Value.ref (aC ZM 0)), (3, Value.int (nI i))] []) : Wl ZC ZM b L xs w v 886 [(0, Value.ref b), (1, Value.ref (aC ZC 0)), (2, Value.ref (aC ZM 0)), (3, Value.int (nI i))] [] := by
  refine l_aload dL_law_886 1 rfl ?_
  refine l_aload dL_law_887 0 rfl ?_
  refine l_iload dL_law_888 3 rfl ?_
  refine l_iconst (x := 1) dL_law_889 (by decide) ?_
  refine l_iadd dL_law_890 ?_
  refine l_sld (by rw [a_al]; exact i_n (by omega) (by omega)) dL_law_891 ?_
  refine l_aload dL_law_892 0 rfl ?_
  refine l_iload dL_law_893 3 rfl ?_
  refine l_iconst (x := 2) dL_law_894 (by decide) ?_
  refine l_iadd dL_law_895 ?_
  refine l_sld (by rw [a_al]; exact i_n (by omega) (by omega)) dL_law_896 ?_
  refine l_aload dL_law_897 0 rfl ?_
  refine l_iload dL_law_898 3 rfl ?_
  refine l_iconst (x := 3) dL_law_899 (by decide) ?_
  refine l_iadd dL_law_900 ?_
  refine l_sld (by rw [a_al]; exact i_n (by omega) (by omega)) dL_law_901 ?_
  obtain ⟨r, w1, v1, e1, e2, hs1⟩ := s_glow hs (xs (nI i + 1).toNatClampNeg) (xs (nI i + 2).toNatClampNeg) (xs (nI i + 3).toNatClampNeg)
  refine l_callC [Value.int (xs (nI i + 1).toNatClampNeg), Value.int (xs (nI i + 2).toNatClampNeg), Value.int (xs (nI i + 3).toNatClampNeg)] cfX5_glow (m_X5_glow ZC w (xs (nI i + 1).toNatClampNeg) (xs (nI i + 2).toNatClampNeg) (xs (nI i + 3).toNatClampNeg)) km_L_74 ⟨rfl, rfl, Nat.le_of_ble_eq_true rfl, Nat.le_of_ble_eq_true rfl⟩ rfl rfl rfl (Nat.le_of_ble_eq_true rfl) ⟨Nat.le_of_ble_eq_true rfl, Nat.le_of_ble_eq_true rfl⟩ dL_law_902 (r, w1) e1 ?_
  refine l_aload dL_law_905 2 rfl ?_
  refine l_aload dL_law_906 0 rfl ?_
  refine l_iload dL_law_907 3 rfl ?_
  refine l_iconst (x := 1) dL_law_908 (by decide) ?_
  refine l_iadd dL_law_909 ?_
  refine l_sld (by rw [a_al]; exact i_n (by omega) (by omega)) dL_law_910 ?_
  refine l_aload dL_law_911 0 rfl ?_
  refine l_iload dL_law_912 3 rfl ?_
  refine l_iconst (x := 2) dL_law_913 (by decide) ?_
  refine l_iadd dL_law_914 ?_
  refine l_sld (by rw [a_al]; exact i_n (by omega) (by omega)) dL_law_915 ?_
  refine l_aload dL_law_916 0 rfl ?_
  refine l_iload dL_law_917 3 rfl ?_
  refine l_iconst (x := 3) dL_law_918 (by decide) ?_
  refine l_iadd dL_law_919 ?_
  refine l_sld (by rw [a_al]; exact i_n (by omega) (by omega)) dL_law_920 ?_
  refine l_callM [Value.int (xs (nI i + 1).toNatClampNeg), Value.int (xs (nI i + 2).toNatClampNeg), Value.int (xs (nI i + 3).toNatClampNeg)] cfX6_glow (m_X6_glow ZM v (xs (nI i + 1).toNatClampNeg) (xs (nI i + 2).toNatClampNeg) (xs (nI i + 3).toNatClampNeg)) km_L_77 ⟨rfl, rfl, Nat.le_of_ble_eq_true rfl, Nat.le_of_ble_eq_true rfl⟩ rfl rfl rfl (Nat.le_of_ble_eq_true rfl) ⟨Nat.le_of_ble_eq_true rfl, Nat.le_of_ble_eq_true rfl⟩ dL_law_921 (r, v1) e2 ?_
  exact (l_eq (tgt := 1154) dL_law_924 (by decide) (kk w1 v1 hs1))
set_option maxRecDepth 100000 in
set_option maxHeartbeats 4000000 in
theorem ca_15 {ZC ZM : CSp} {b L i : Nat} {xs : Nat → Int32} {w v : Wd} (hs : Sim w v) (hi : i + 7 ≤ L) (hL : L ≤ 3584) (kk : ∀ w1 v1 : Wd, Sim w1 v1 → Wl ZC ZM b L xs w1 v1 1154 [(0, Value.ref b), (1, Value.ref (aC ZC 0)), (2, Value.ref (aC ZM 0)), (3, Value.int (nI i))] []) : Wl ZC ZM b L xs w v 929 [(0, Value.ref b), (1, Value.ref (aC ZC 0)), (2, Value.ref (aC ZM 0)), (3, Value.int (nI i))] [] := by
  refine l_aload dL_law_929 1 rfl ?_
  refine l_aload dL_law_930 0 rfl ?_
  refine l_iload dL_law_931 3 rfl ?_
  refine l_iconst (x := 1) dL_law_932 (by decide) ?_
  refine l_iadd dL_law_933 ?_
  refine l_sld (by rw [a_al]; exact i_n (by omega) (by omega)) dL_law_934 ?_
  refine l_aload dL_law_935 0 rfl ?_
  refine l_iload dL_law_936 3 rfl ?_
  refine l_iconst (x := 2) dL_law_937 (by decide) ?_
  refine l_iadd dL_law_938 ?_
  refine l_sld (by rw [a_al]; exact i_n (by omega) (by omega)) dL_law_939 ?_
  obtain ⟨r, w1, v1, e1, e2, hs1⟩ := s_motion hs (xs (nI i + 1).toNatClampNeg) (xs (nI i + 2).toNatClampNeg)
  refine l_callC [Value.int (xs (nI i + 1).toNatClampNeg), Value.int (xs (nI i + 2).toNatClampNeg)] cfX5_motion (m_X5_motion ZC w (xs (nI i + 1).toNatClampNeg) (xs (nI i + 2).toNatClampNeg)) km_L_78 ⟨rfl, rfl, Nat.le_of_ble_eq_true rfl, Nat.le_of_ble_eq_true rfl⟩ rfl rfl rfl (Nat.le_of_ble_eq_true rfl) ⟨Nat.le_of_ble_eq_true rfl, Nat.le_of_ble_eq_true rfl⟩ dL_law_940 (r, w1) e1 ?_
  refine l_aload dL_law_943 2 rfl ?_
  refine l_aload dL_law_944 0 rfl ?_
  refine l_iload dL_law_945 3 rfl ?_
  refine l_iconst (x := 1) dL_law_946 (by decide) ?_
  refine l_iadd dL_law_947 ?_
  refine l_sld (by rw [a_al]; exact i_n (by omega) (by omega)) dL_law_948 ?_
  refine l_aload dL_law_949 0 rfl ?_
  refine l_iload dL_law_950 3 rfl ?_
  refine l_iconst (x := 2) dL_law_951 (by decide) ?_
  refine l_iadd dL_law_952 ?_
  refine l_sld (by rw [a_al]; exact i_n (by omega) (by omega)) dL_law_953 ?_
  refine l_callM [Value.int (xs (nI i + 1).toNatClampNeg), Value.int (xs (nI i + 2).toNatClampNeg)] cfX6_motion (m_X6_motion ZM v (xs (nI i + 1).toNatClampNeg) (xs (nI i + 2).toNatClampNeg)) km_L_81 ⟨rfl, rfl, Nat.le_of_ble_eq_true rfl, Nat.le_of_ble_eq_true rfl⟩ rfl rfl rfl (Nat.le_of_ble_eq_true rfl) ⟨Nat.le_of_ble_eq_true rfl, Nat.le_of_ble_eq_true rfl⟩ dL_law_954 (r, v1) e2 ?_
  exact (l_eq (tgt := 1154) dL_law_957 (by decide) (kk w1 v1 hs1))
set_option maxRecDepth 100000 in
set_option maxHeartbeats 4000000 in
theorem ca_16 {ZC ZM : CSp} {b L i : Nat} {xs : Nat → Int32} {w v : Wd} (hs : Sim w v) (hi : i + 7 ≤ L) (hL : L ≤ 3584) (kk : ∀ w1 v1 : Wd, Sim w1 v1 → Wl ZC ZM b L xs w1 v1 1154 [(0, Value.ref b), (1, Value.ref (aC ZC 0)), (2, Value.ref (aC ZM 0)), (3, Value.int (nI i))] []) : Wl ZC ZM b L xs w v 962 [(0, Value.ref b), (1, Value.ref (aC ZC 0)), (2, Value.ref (aC ZM 0)), (3, Value.int (nI i))] [] := by
  refine l_aload dL_law_962 1 rfl ?_
  refine l_aload dL_law_963 0 rfl ?_
  refine l_iload dL_law_964 3 rfl ?_
  refine l_iconst (x := 1) dL_law_965 (by decide) ?_
  refine l_iadd dL_law_966 ?_
  refine l_sld (by rw [a_al]; exact i_n (by omega) (by omega)) dL_law_967 ?_
  refine l_aload dL_law_968 0 rfl ?_
  refine l_iload dL_law_969 3 rfl ?_
  refine l_iconst (x := 2) dL_law_970 (by decide) ?_
  refine l_iadd dL_law_971 ?_
  refine l_sld (by rw [a_al]; exact i_n (by omega) (by omega)) dL_law_972 ?_
  obtain ⟨r, w1, v1, e1, e2, hs1⟩ := s_marks hs (xs (nI i + 1).toNatClampNeg) (xs (nI i + 2).toNatClampNeg)
  refine l_callC [Value.int (xs (nI i + 1).toNatClampNeg), Value.int (xs (nI i + 2).toNatClampNeg)] cfX5_marks (m_X5_marks ZC w (xs (nI i + 1).toNatClampNeg) (xs (nI i + 2).toNatClampNeg)) km_L_82 ⟨rfl, rfl, Nat.le_of_ble_eq_true rfl, Nat.le_of_ble_eq_true rfl⟩ rfl rfl rfl (Nat.le_of_ble_eq_true rfl) ⟨Nat.le_of_ble_eq_true rfl, Nat.le_of_ble_eq_true rfl⟩ dL_law_973 (r, w1) e1 ?_
  refine l_aload dL_law_976 2 rfl ?_
  refine l_aload dL_law_977 0 rfl ?_
  refine l_iload dL_law_978 3 rfl ?_
  refine l_iconst (x := 1) dL_law_979 (by decide) ?_
  refine l_iadd dL_law_980 ?_
  refine l_sld (by rw [a_al]; exact i_n (by omega) (by omega)) dL_law_981 ?_
  refine l_aload dL_law_982 0 rfl ?_
  refine l_iload dL_law_983 3 rfl ?_
  refine l_iconst (x := 2) dL_law_984 (by decide) ?_
  refine l_iadd dL_law_985 ?_
  refine l_sld (by rw [a_al]; exact i_n (by omega) (by omega)) dL_law_986 ?_
  refine l_callM [Value.int (xs (nI i + 1).toNatClampNeg), Value.int (xs (nI i + 2).toNatClampNeg)] cfX6_marks (m_X6_marks ZM v (xs (nI i + 1).toNatClampNeg) (xs (nI i + 2).toNatClampNeg)) km_L_85 ⟨rfl, rfl, Nat.le_of_ble_eq_true rfl, Nat.le_of_ble_eq_true rfl⟩ rfl rfl rfl (Nat.le_of_ble_eq_true rfl) ⟨Nat.le_of_ble_eq_true rfl, Nat.le_of_ble_eq_true rfl⟩ dL_law_987 (r, v1) e2 ?_
  exact (l_eq (tgt := 1154) dL_law_990 (by decide) (kk w1 v1 hs1))
set_option maxRecDepth 100000 in
set_option maxHeartbeats 4000000 in
theorem ca_17 {ZC ZM : CSp} {b L i : Nat} {xs : Nat → Int32} {w v : Wd} (hs : Sim w v) (hi : i + 7 ≤ L) (hL : L ≤ 3584) (kk : ∀ w1 v1 : Wd, Sim w1 v1 → Wl ZC ZM b L xs w1 v1 1154 [(0, Value.ref b), (1, Value.ref (aC ZC 0)), (2, Value.ref (aC ZM 0)), (3, Value.int (nI i))] []) : Wl ZC ZM b L xs w v 995 [(0, Value.ref b), (1, Value.ref (aC ZC 0)), (2, Value.ref (aC ZM 0)), (3, Value.int (nI i))] [] := by
  refine l_aload dL_law_995 1 rfl ?_
  obtain ⟨r, w1, v1, e1, e2, hs1⟩ := s_moved hs 
  refine l_callC [] cfX5_moved (m_X5_moved ZC w ) km_L_86 ⟨rfl, rfl, Nat.le_of_ble_eq_true rfl, Nat.le_of_ble_eq_true rfl⟩ rfl rfl rfl (Nat.le_of_ble_eq_true rfl) ⟨Nat.le_of_ble_eq_true rfl, Nat.le_of_ble_eq_true rfl⟩ dL_law_996 (r, w1) e1 ?_
  refine l_aload dL_law_999 2 rfl ?_
  refine l_callM [] cfX6_moved (m_X6_moved ZM v ) km_L_90 ⟨rfl, rfl, Nat.le_of_ble_eq_true rfl, Nat.le_of_ble_eq_true rfl⟩ rfl rfl rfl (Nat.le_of_ble_eq_true rfl) ⟨Nat.le_of_ble_eq_true rfl, Nat.le_of_ble_eq_true rfl⟩ dL_law_1000 (r, v1) e2 ?_
  exact (l_eq (tgt := 1154) dL_law_1003 (by decide) (kk w1 v1 hs1))
set_option maxRecDepth 100000 in
set_option maxHeartbeats 4000000 in
theorem ca_18 {ZC ZM : CSp} {b L i : Nat} {xs : Nat → Int32} {w v : Wd} (hs : Sim w v) (hi : i + 7 ≤ L) (hL : L ≤ 3584) (kk : ∀ w1 v1 : Wd, Sim w1 v1 → Wl ZC ZM b L xs w1 v1 1154 [(0, Value.ref b), (1, Value.ref (aC ZC 0)), (2, Value.ref (aC ZM 0)), (3, Value.int (nI i))] []) : Wl ZC ZM b L xs w v 1008 [(0, Value.ref b), (1, Value.ref (aC ZC 0)), (2, Value.ref (aC ZM 0)), (3, Value.int (nI i))] [] := by
  refine l_aload dL_law_1008 1 rfl ?_
  refine l_aload dL_law_1009 0 rfl ?_
  refine l_iload dL_law_1010 3 rfl ?_
  refine l_iconst (x := 1) dL_law_1011 (by decide) ?_
  refine l_iadd dL_law_1012 ?_
  refine l_sld (by rw [a_al]; exact i_n (by omega) (by omega)) dL_law_1013 ?_
  obtain ⟨r, w1, v1, e1, e2, hs1⟩ := s_mean hs (xs (nI i + 1).toNatClampNeg)
  refine l_callC [Value.int (xs (nI i + 1).toNatClampNeg)] cfX5_mean (m_X5_mean ZC w (xs (nI i + 1).toNatClampNeg)) km_L_91 ⟨rfl, rfl, Nat.le_of_ble_eq_true rfl, Nat.le_of_ble_eq_true rfl⟩ rfl rfl rfl (Nat.le_of_ble_eq_true rfl) ⟨Nat.le_of_ble_eq_true rfl, Nat.le_of_ble_eq_true rfl⟩ dL_law_1014 (r, w1) e1 ?_
  refine l_aload dL_law_1017 2 rfl ?_
  refine l_aload dL_law_1018 0 rfl ?_
  refine l_iload dL_law_1019 3 rfl ?_
  refine l_iconst (x := 1) dL_law_1020 (by decide) ?_
  refine l_iadd dL_law_1021 ?_
  refine l_sld (by rw [a_al]; exact i_n (by omega) (by omega)) dL_law_1022 ?_
  refine l_callM [Value.int (xs (nI i + 1).toNatClampNeg)] cfX6_mean (m_X6_mean ZM v (xs (nI i + 1).toNatClampNeg)) km_L_95 ⟨rfl, rfl, Nat.le_of_ble_eq_true rfl, Nat.le_of_ble_eq_true rfl⟩ rfl rfl rfl (Nat.le_of_ble_eq_true rfl) ⟨Nat.le_of_ble_eq_true rfl, Nat.le_of_ble_eq_true rfl⟩ dL_law_1023 (r, v1) e2 ?_
  refine l_lcmp dL_law_1026 ?_
  exact (l_if0 (tgt := 1154) dL_law_1027 (by decide) (kk w1 v1 hs1))
set_option maxRecDepth 100000 in
set_option maxHeartbeats 4000000 in
theorem ca_19 {ZC ZM : CSp} {b L i : Nat} {xs : Nat → Int32} {w v : Wd} (hs : Sim w v) (hi : i + 7 ≤ L) (hL : L ≤ 3584) (kk : ∀ w1 v1 : Wd, Sim w1 v1 → Wl ZC ZM b L xs w1 v1 1154 [(0, Value.ref b), (1, Value.ref (aC ZC 0)), (2, Value.ref (aC ZM 0)), (3, Value.int (nI i))] []) : Wl ZC ZM b L xs w v 1032 [(0, Value.ref b), (1, Value.ref (aC ZC 0)), (2, Value.ref (aC ZM 0)), (3, Value.int (nI i))] [] := by
  refine l_aload dL_law_1032 1 rfl ?_
  refine l_aload dL_law_1033 0 rfl ?_
  refine l_iload dL_law_1034 3 rfl ?_
  refine l_iconst (x := 1) dL_law_1035 (by decide) ?_
  refine l_iadd dL_law_1036 ?_
  refine l_sld (by rw [a_al]; exact i_n (by omega) (by omega)) dL_law_1037 ?_
  obtain ⟨r, w1, v1, e1, e2, hs1⟩ := s_told hs (xs (nI i + 1).toNatClampNeg)
  refine l_callC [Value.int (xs (nI i + 1).toNatClampNeg)] cfX5_told (m_X5_told ZC w (xs (nI i + 1).toNatClampNeg)) km_L_96 ⟨rfl, rfl, Nat.le_of_ble_eq_true rfl, Nat.le_of_ble_eq_true rfl⟩ rfl rfl rfl (Nat.le_of_ble_eq_true rfl) ⟨Nat.le_of_ble_eq_true rfl, Nat.le_of_ble_eq_true rfl⟩ dL_law_1038 (r, w1) e1 ?_
  refine l_aload dL_law_1041 2 rfl ?_
  refine l_aload dL_law_1042 0 rfl ?_
  refine l_iload dL_law_1043 3 rfl ?_
  refine l_iconst (x := 1) dL_law_1044 (by decide) ?_
  refine l_iadd dL_law_1045 ?_
  refine l_sld (by rw [a_al]; exact i_n (by omega) (by omega)) dL_law_1046 ?_
  refine l_callM [Value.int (xs (nI i + 1).toNatClampNeg)] cfX6_told (m_X6_told ZM v (xs (nI i + 1).toNatClampNeg)) km_L_100 ⟨rfl, rfl, Nat.le_of_ble_eq_true rfl, Nat.le_of_ble_eq_true rfl⟩ rfl rfl rfl (Nat.le_of_ble_eq_true rfl) ⟨Nat.le_of_ble_eq_true rfl, Nat.le_of_ble_eq_true rfl⟩ dL_law_1047 (r, v1) e2 ?_
  exact (l_eq (tgt := 1154) dL_law_1050 (by decide) (kk w1 v1 hs1))
set_option maxRecDepth 100000 in
set_option maxHeartbeats 4000000 in
theorem ca_20 {ZC ZM : CSp} {b L i : Nat} {xs : Nat → Int32} {w v : Wd} (hs : Sim w v) (hi : i + 7 ≤ L) (hL : L ≤ 3584) (kk : ∀ w1 v1 : Wd, Sim w1 v1 → Wl ZC ZM b L xs w1 v1 1154 [(0, Value.ref b), (1, Value.ref (aC ZC 0)), (2, Value.ref (aC ZM 0)), (3, Value.int (nI i))] []) : Wl ZC ZM b L xs w v 1055 [(0, Value.ref b), (1, Value.ref (aC ZC 0)), (2, Value.ref (aC ZM 0)), (3, Value.int (nI i))] [] := by
  refine l_aload dL_law_1055 1 rfl ?_
  refine l_aload dL_law_1056 0 rfl ?_
  refine l_iload dL_law_1057 3 rfl ?_
  refine l_iconst (x := 1) dL_law_1058 (by decide) ?_
  refine l_iadd dL_law_1059 ?_
  refine l_sld (by rw [a_al]; exact i_n (by omega) (by omega)) dL_law_1060 ?_
  obtain ⟨r, w1, v1, e1, e2, hs1⟩ := s_type hs (xs (nI i + 1).toNatClampNeg)
  refine l_callC [Value.int (xs (nI i + 1).toNatClampNeg)] cfX5_type (m_X5_type ZC w (xs (nI i + 1).toNatClampNeg)) km_L_101 ⟨rfl, rfl, Nat.le_of_ble_eq_true rfl, Nat.le_of_ble_eq_true rfl⟩ rfl rfl rfl (Nat.le_of_ble_eq_true rfl) ⟨Nat.le_of_ble_eq_true rfl, Nat.le_of_ble_eq_true rfl⟩ dL_law_1061 (r, w1) e1 ?_
  refine l_aload dL_law_1064 2 rfl ?_
  refine l_aload dL_law_1065 0 rfl ?_
  refine l_iload dL_law_1066 3 rfl ?_
  refine l_iconst (x := 1) dL_law_1067 (by decide) ?_
  refine l_iadd dL_law_1068 ?_
  refine l_sld (by rw [a_al]; exact i_n (by omega) (by omega)) dL_law_1069 ?_
  refine l_callM [Value.int (xs (nI i + 1).toNatClampNeg)] cfX6_type (m_X6_type ZM v (xs (nI i + 1).toNatClampNeg)) km_L_104 ⟨rfl, rfl, Nat.le_of_ble_eq_true rfl, Nat.le_of_ble_eq_true rfl⟩ rfl rfl rfl (Nat.le_of_ble_eq_true rfl) ⟨Nat.le_of_ble_eq_true rfl, Nat.le_of_ble_eq_true rfl⟩ dL_law_1070 (r, v1) e2 ?_
  exact (l_eq (tgt := 1154) dL_law_1073 (by decide) (kk w1 v1 hs1))
set_option maxRecDepth 100000 in
set_option maxHeartbeats 4000000 in
theorem ca_21 {ZC ZM : CSp} {b L i : Nat} {xs : Nat → Int32} {w v : Wd} (hs : Sim w v) (hi : i + 7 ≤ L) (hL : L ≤ 3584) (kk : ∀ w1 v1 : Wd, Sim w1 v1 → Wl ZC ZM b L xs w1 v1 1154 [(0, Value.ref b), (1, Value.ref (aC ZC 0)), (2, Value.ref (aC ZM 0)), (3, Value.int (nI i))] []) : Wl ZC ZM b L xs w v 1078 [(0, Value.ref b), (1, Value.ref (aC ZC 0)), (2, Value.ref (aC ZM 0)), (3, Value.int (nI i))] [] := by
  refine l_aload dL_law_1078 1 rfl ?_
  obtain ⟨r, w1, v1, e1, e2, hs1⟩ := s_clear hs 
  refine l_callC [] cfX5_clear (m_X5_clear ZC w ) km_L_105 ⟨rfl, rfl, Nat.le_of_ble_eq_true rfl, Nat.le_of_ble_eq_true rfl⟩ rfl rfl rfl (Nat.le_of_ble_eq_true rfl) ⟨Nat.le_of_ble_eq_true rfl, Nat.le_of_ble_eq_true rfl⟩ dL_law_1079 (r, w1) e1 ?_
  refine l_aload dL_law_1082 2 rfl ?_
  refine l_callM [] cfX6_clear (m_X6_clear ZM v ) km_L_108 ⟨rfl, rfl, Nat.le_of_ble_eq_true rfl, Nat.le_of_ble_eq_true rfl⟩ rfl rfl rfl (Nat.le_of_ble_eq_true rfl) ⟨Nat.le_of_ble_eq_true rfl, Nat.le_of_ble_eq_true rfl⟩ dL_law_1083 (r, v1) e2 ?_
  exact (l_eq (tgt := 1154) dL_law_1086 (by decide) (kk w1 v1 hs1))
set_option maxRecDepth 100000 in
set_option maxHeartbeats 4000000 in
theorem ca_22 {ZC ZM : CSp} {b L i : Nat} {xs : Nat → Int32} {w v : Wd} (hs : Sim w v) (hi : i + 7 ≤ L) (hL : L ≤ 3584) (kk : ∀ w1 v1 : Wd, Sim w1 v1 → Wl ZC ZM b L xs w1 v1 1154 [(0, Value.ref b), (1, Value.ref (aC ZC 0)), (2, Value.ref (aC ZM 0)), (3, Value.int (nI i))] []) : Wl ZC ZM b L xs w v 1091 [(0, Value.ref b), (1, Value.ref (aC ZC 0)), (2, Value.ref (aC ZM 0)), (3, Value.int (nI i))] [] := by
  refine l_aload dL_law_1091 1 rfl ?_
  obtain ⟨r, w1, v1, e1, e2, hs1⟩ := s_does hs 
  refine l_callC [] cfX5_does (m_X5_does ZC w ) km_L_109 ⟨rfl, rfl, Nat.le_of_ble_eq_true rfl, Nat.le_of_ble_eq_true rfl⟩ rfl rfl rfl (Nat.le_of_ble_eq_true rfl) ⟨Nat.le_of_ble_eq_true rfl, Nat.le_of_ble_eq_true rfl⟩ dL_law_1092 (r, w1) e1 ?_
  refine l_aload dL_law_1095 2 rfl ?_
  refine l_callM [] cfX6_does (m_X6_does ZM v ) km_L_112 ⟨rfl, rfl, Nat.le_of_ble_eq_true rfl, Nat.le_of_ble_eq_true rfl⟩ rfl rfl rfl (Nat.le_of_ble_eq_true rfl) ⟨Nat.le_of_ble_eq_true rfl, Nat.le_of_ble_eq_true rfl⟩ dL_law_1096 (r, v1) e2 ?_
  exact (l_eq (tgt := 1154) dL_law_1099 (by decide) (kk w1 v1 hs1))
set_option maxRecDepth 100000 in
set_option maxHeartbeats 4000000 in
theorem ca_23 {ZC ZM : CSp} {b L i : Nat} {xs : Nat → Int32} {w v : Wd} (hs : Sim w v) (hi : i + 7 ≤ L) (hL : L ≤ 3584) (kk : ∀ w1 v1 : Wd, Sim w1 v1 → Wl ZC ZM b L xs w1 v1 1154 [(0, Value.ref b), (1, Value.ref (aC ZC 0)), (2, Value.ref (aC ZM 0)), (3, Value.int (nI i))] []) : Wl ZC ZM b L xs w v 1104 [(0, Value.ref b), (1, Value.ref (aC ZC 0)), (2, Value.ref (aC ZM 0)), (3, Value.int (nI i))] [] := by
  refine l_aload dL_law_1104 1 rfl ?_
  obtain ⟨r, w1, v1, e1, e2, hs1⟩ := s_back hs 
  refine l_callC [] cfX5_back (m_X5_back ZC w ) km_L_113 ⟨rfl, rfl, Nat.le_of_ble_eq_true rfl, Nat.le_of_ble_eq_true rfl⟩ rfl rfl rfl (Nat.le_of_ble_eq_true rfl) ⟨Nat.le_of_ble_eq_true rfl, Nat.le_of_ble_eq_true rfl⟩ dL_law_1105 (r, w1) e1 ?_
  refine l_aload dL_law_1108 2 rfl ?_
  refine l_callM [] cfX6_back (m_X6_back ZM v ) km_L_116 ⟨rfl, rfl, Nat.le_of_ble_eq_true rfl, Nat.le_of_ble_eq_true rfl⟩ rfl rfl rfl (Nat.le_of_ble_eq_true rfl) ⟨Nat.le_of_ble_eq_true rfl, Nat.le_of_ble_eq_true rfl⟩ dL_law_1109 (r, v1) e2 ?_
  exact (l_eq (tgt := 1154) dL_law_1112 (by decide) (kk w1 v1 hs1))
set_option maxRecDepth 100000 in
set_option maxHeartbeats 4000000 in
theorem ca_24 {ZC ZM : CSp} {b L i : Nat} {xs : Nat → Int32} {w v : Wd} (hs : Sim w v) (hi : i + 7 ≤ L) (hL : L ≤ 3584) (kk : ∀ w1 v1 : Wd, Sim w1 v1 → Wl ZC ZM b L xs w1 v1 1154 [(0, Value.ref b), (1, Value.ref (aC ZC 0)), (2, Value.ref (aC ZM 0)), (3, Value.int (nI i))] []) : Wl ZC ZM b L xs w v 1117 [(0, Value.ref b), (1, Value.ref (aC ZC 0)), (2, Value.ref (aC ZM 0)), (3, Value.int (nI i))] [] := by
  refine l_aload dL_law_1117 1 rfl ?_
  refine l_aload dL_law_1118 0 rfl ?_
  refine l_iload dL_law_1119 3 rfl ?_
  refine l_iconst (x := 1) dL_law_1120 (by decide) ?_
  refine l_iadd dL_law_1121 ?_
  refine l_sld (by rw [a_al]; exact i_n (by omega) (by omega)) dL_law_1122 ?_
  obtain ⟨r, w1, v1, e1, e2, hs1⟩ := s_refused hs (xs (nI i + 1).toNatClampNeg)
  refine l_callC [Value.int (xs (nI i + 1).toNatClampNeg)] cfX5_refused (m_X5_refused ZC w (xs (nI i + 1).toNatClampNeg)) km_L_117 ⟨rfl, rfl, Nat.le_of_ble_eq_true rfl, Nat.le_of_ble_eq_true rfl⟩ rfl rfl rfl (Nat.le_of_ble_eq_true rfl) ⟨Nat.le_of_ble_eq_true rfl, Nat.le_of_ble_eq_true rfl⟩ dL_law_1123 (r, w1) e1 ?_
  refine l_aload dL_law_1126 2 rfl ?_
  refine l_aload dL_law_1127 0 rfl ?_
  refine l_iload dL_law_1128 3 rfl ?_
  refine l_iconst (x := 1) dL_law_1129 (by decide) ?_
  refine l_iadd dL_law_1130 ?_
  refine l_sld (by rw [a_al]; exact i_n (by omega) (by omega)) dL_law_1131 ?_
  refine l_callM [Value.int (xs (nI i + 1).toNatClampNeg)] cfX6_refused (m_X6_refused ZM v (xs (nI i + 1).toNatClampNeg)) km_L_120 ⟨rfl, rfl, Nat.le_of_ble_eq_true rfl, Nat.le_of_ble_eq_true rfl⟩ rfl rfl rfl (Nat.le_of_ble_eq_true rfl) ⟨Nat.le_of_ble_eq_true rfl, Nat.le_of_ble_eq_true rfl⟩ dL_law_1132 (r, v1) e2 ?_
  exact (l_eq (tgt := 1154) dL_law_1135 (by decide) (kk w1 v1 hs1))
set_option maxRecDepth 100000 in
set_option maxHeartbeats 4000000 in
theorem ca_25 {ZC ZM : CSp} {b L i : Nat} {xs : Nat → Int32} {w v : Wd} (hs : Sim w v) (hi : i + 7 ≤ L) (hL : L ≤ 3584) (kk : ∀ w1 v1 : Wd, Sim w1 v1 → Wl ZC ZM b L xs w1 v1 1154 [(0, Value.ref b), (1, Value.ref (aC ZC 0)), (2, Value.ref (aC ZM 0)), (3, Value.int (nI i))] []) : Wl ZC ZM b L xs w v 1140 [(0, Value.ref b), (1, Value.ref (aC ZC 0)), (2, Value.ref (aC ZM 0)), (3, Value.int (nI i))] [] := by
  refine l_aload dL_law_1140 1 rfl ?_
  obtain ⟨r, w1, v1, e1, e2, hs1⟩ := s_digest hs 
  refine l_callC [] cfX5_digest (m_X5_digest ZC w ) km_L_121 ⟨rfl, rfl, Nat.le_of_ble_eq_true rfl, Nat.le_of_ble_eq_true rfl⟩ rfl rfl rfl (Nat.le_of_ble_eq_true rfl) ⟨Nat.le_of_ble_eq_true rfl, Nat.le_of_ble_eq_true rfl⟩ dL_law_1141 (r, w1) e1 ?_
  refine l_aload dL_law_1144 2 rfl ?_
  refine l_callM [] cfX6_digest (m_X6_digest ZM v ) km_L_125 ⟨rfl, rfl, Nat.le_of_ble_eq_true rfl, Nat.le_of_ble_eq_true rfl⟩ rfl rfl rfl (Nat.le_of_ble_eq_true rfl) ⟨Nat.le_of_ble_eq_true rfl, Nat.le_of_ble_eq_true rfl⟩ dL_law_1145 (r, v1) e2 ?_
  refine l_lcmp dL_law_1148 ?_
  exact (l_if0 (tgt := 1154) dL_law_1149 (by decide) (kk w1 v1 hs1))
