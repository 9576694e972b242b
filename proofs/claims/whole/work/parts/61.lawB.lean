theorem lc_self (x : Int64) : (if x > x then (1 : Int32) else if x == x then 0 else -1) = 0 := by rw [if_neg (show ¬ x > x from Int64.lt_irrefl), if_pos (beq_self_eq_true x)]
set_option maxHeartbeats 1000000 in
theorem law_0 {X : Cxt} {l : Launch} {D : va_G} {cy : Nat → ClassId} {A : Nat → Nat → Nat} {mm : Nat → Nat} {b L i : Nat} {xs : Nat → Int32} (C : Cx X l D cy cL_law 4 wsL_law RL room_1) (hX : va_X b L xs (xS X) (xS X).heap) (hbl : b < (xS X).heap.size) (hbA : ¬ xA X b) (hL : L ≤ 448) (hi : i + 7 ≤ L) {σ : Sp} {u : XS} {v : MS} (hI : XI σ u) (hM : MI σ v) (next : ∀ (σ' : Sp) (u' : XS) (v' : MS), XI σ' u' → MI σ' v' → J X (wXu A cy u' ++ wMu mm cy v') 1139 [(0, .ref b), (1, .ref (A 3 0)), (2, .ref (mm 0)), (3, .int (nI i))] []) : J X (wXu A cy u ++ wMu mm cy v) 172 [(0, .ref b), (1, .ref (A 3 0)), (2, .ref (mm 0)), (3, .int (nI i))] [] := by
  refine j_aload_n C 1 dL_law_172 rfl rfl ?_
  refine j_aload_n C 0 dL_law_173 rfl rfl ?_
  refine j_iload_n C 3 dL_law_174 rfl rfl ?_
  refine j_iconst (v := nI 1) C dL_law_175 (by decide) ?_
  refine j_iadd (v := nI (i + 1)) C dL_law_176 (nI_add _ _) ?_
  refine j_sld C hX hbl hbA (by omega) (by omega) dL_law_177 ?_
  refine j_aload_n C 0 dL_law_178 rfl rfl ?_
  refine j_iload_n C 3 dL_law_179 rfl rfl ?_
  refine j_iconst (v := nI 2) C dL_law_180 (by decide) ?_
  refine j_iadd (v := nI (i + 2)) C dL_law_181 (nI_add _ _) ?_
  refine j_sld C hX hbl hbA (by omega) (by omega) dL_law_182 ?_
  refine j_aload_n C 0 dL_law_183 rfl rfl ?_
  refine j_iload_n C 3 dL_law_184 rfl rfl ?_
  refine j_iconst (v := nI 3) C dL_law_185 (by decide) ?_
  refine j_iadd (v := nI (i + 3)) C dL_law_186 (nI_add _ _) ?_
  refine j_sld C hX hbl hbA (by omega) (by omega) dL_law_187 ?_
  refine j_aload_n C 0 dL_law_188 rfl rfl ?_
  refine j_iload_n C 3 dL_law_189 rfl rfl ?_
  refine j_iconst (v := nI 4) C dL_law_190 (by decide) ?_
  refine j_iadd (v := nI (i + 4)) C dL_law_191 (nI_add _ _) ?_
  refine j_sld C hX hbl hbA (by omega) (by omega) dL_law_192 ?_
  refine law_X (As := [.int (xs (i + 1)), .int (xs (i + 2)), .int (xs (i + 3)), .int (xs (i + 4))]) (rest := []) C (k_X7_town A σ u hI (xs (i + 1)) (xs (i + 2)) (xs (i + 3)) (xs (i + 4))) gL_law_X7_town rfl 4 rfl (by decide +kernel) (by decide) (Nat.le_of_ble_eq_true rfl) dL_law_193 rfl (fun u1 hu1 => ?_)
  show J X (wXu A cy u1 ++ wMu mm cy v) 196 [(0, .ref b), (1, .ref (A 3 0)), (2, .ref (mm 0)), (3, .int (nI i))] [.int (m_town σ (xs (i + 1)) (xs (i + 2)) (xs (i + 3)) (xs (i + 4))).1]
  refine j_aload_n C 2 dL_law_196 rfl rfl ?_
  refine j_aload_n C 0 dL_law_197 rfl rfl ?_
  refine j_iload_n C 3 dL_law_198 rfl rfl ?_
  refine j_iconst (v := nI 1) C dL_law_199 (by decide) ?_
  refine j_iadd (v := nI (i + 1)) C dL_law_200 (nI_add _ _) ?_
  refine j_sld C hX hbl hbA (by omega) (by omega) dL_law_201 ?_
  refine j_aload_n C 0 dL_law_202 rfl rfl ?_
  refine j_iload_n C 3 dL_law_203 rfl rfl ?_
  refine j_iconst (v := nI 2) C dL_law_204 (by decide) ?_
  refine j_iadd (v := nI (i + 2)) C dL_law_205 (nI_add _ _) ?_
  refine j_sld C hX hbl hbA (by omega) (by omega) dL_law_206 ?_
  refine j_aload_n C 0 dL_law_207 rfl rfl ?_
  refine j_iload_n C 3 dL_law_208 rfl rfl ?_
  refine j_iconst (v := nI 3) C dL_law_209 (by decide) ?_
  refine j_iadd (v := nI (i + 3)) C dL_law_210 (nI_add _ _) ?_
  refine j_sld C hX hbl hbA (by omega) (by omega) dL_law_211 ?_
  refine j_aload_n C 0 dL_law_212 rfl rfl ?_
  refine j_iload_n C 3 dL_law_213 rfl rfl ?_
  refine j_iconst (v := nI 4) C dL_law_214 (by decide) ?_
  refine j_iadd (v := nI (i + 4)) C dL_law_215 (nI_add _ _) ?_
  refine j_sld C hX hbl hbA (by omega) (by omega) dL_law_216 ?_
  refine law_M (As := [.int (xs (i + 1)), .int (xs (i + 2)), .int (xs (i + 3)), .int (xs (i + 4))]) (rest := [.int (m_town σ (xs (i + 1)) (xs (i + 2)) (xs (i + 3)) (xs (i + 4))).1]) C (k_X8_town mm σ v hM (xs (i + 1)) (xs (i + 2)) (xs (i + 3)) (xs (i + 4))) gL_law_X8_town rfl 4 rfl (by decide +kernel) (by decide) (Nat.le_of_ble_eq_true rfl) dL_law_217 rfl (fun v1 hv1 => ?_)
  show J X (wXu A cy u1 ++ wMu mm cy v1) 220 [(0, .ref b), (1, .ref (A 3 0)), (2, .ref (mm 0)), (3, .int (nI i))] [.int (m_town σ (xs (i + 1)) (xs (i + 2)) (xs (i + 3)) (xs (i + 4))).1, .int (m_town σ (xs (i + 1)) (xs (i + 2)) (xs (i + 3)) (xs (i + 4))).1]
  refine j_icmp_eq (tgt := 1139) C dL_law_220 (by decide) (fun _ => ?_) (fun hne => absurd rfl hne)
  exact next _ u1 v1 hu1 hv1
set_option maxHeartbeats 1000000 in
theorem law_1 {X : Cxt} {l : Launch} {D : va_G} {cy : Nat → ClassId} {A : Nat → Nat → Nat} {mm : Nat → Nat} {b L i : Nat} {xs : Nat → Int32} (C : Cx X l D cy cL_law 4 wsL_law RL room_1) (hX : va_X b L xs (xS X) (xS X).heap) (hbl : b < (xS X).heap.size) (hbA : ¬ xA X b) (hL : L ≤ 448) (hi : i + 7 ≤ L) {σ : Sp} {u : XS} {v : MS} (hI : XI σ u) (hM : MI σ v) (next : ∀ (σ' : Sp) (u' : XS) (v' : MS), XI σ' u' → MI σ' v' → J X (wXu A cy u' ++ wMu mm cy v') 1139 [(0, .ref b), (1, .ref (A 3 0)), (2, .ref (mm 0)), (3, .int (nI i))] []) : J X (wXu A cy u ++ wMu mm cy v) 225 [(0, .ref b), (1, .ref (A 3 0)), (2, .ref (mm 0)), (3, .int (nI i))] [] := by
  refine j_aload_n C 1 dL_law_225 rfl rfl ?_
  refine j_aload_n C 0 dL_law_226 rfl rfl ?_
  refine j_iload_n C 3 dL_law_227 rfl rfl ?_
  refine j_iconst (v := nI 1) C dL_law_228 (by decide) ?_
  refine j_iadd (v := nI (i + 1)) C dL_law_229 (nI_add _ _) ?_
  refine j_sld C hX hbl hbA (by omega) (by omega) dL_law_230 ?_
  refine j_aload_n C 0 dL_law_231 rfl rfl ?_
  refine j_iload_n C 3 dL_law_232 rfl rfl ?_
  refine j_iconst (v := nI 2) C dL_law_233 (by decide) ?_
  refine j_iadd (v := nI (i + 2)) C dL_law_234 (nI_add _ _) ?_
  refine j_sld C hX hbl hbA (by omega) (by omega) dL_law_235 ?_
  refine law_X (As := [.int (xs (i + 1)), .int (xs (i + 2))]) (rest := []) C (k_X7_ofPerson A σ u hI (xs (i + 1)) (xs (i + 2))) gL_law_X7_ofPerson rfl 2 rfl (by decide +kernel) (by decide) (Nat.le_of_ble_eq_true rfl) dL_law_236 rfl (fun u1 hu1 => ?_)
  show J X (wXu A cy u1 ++ wMu mm cy v) 239 [(0, .ref b), (1, .ref (A 3 0)), (2, .ref (mm 0)), (3, .int (nI i))] [.int (m_ofPerson σ (xs (i + 1)) (xs (i + 2))).1]
  refine j_aload_n C 2 dL_law_239 rfl rfl ?_
  refine j_aload_n C 0 dL_law_240 rfl rfl ?_
  refine j_iload_n C 3 dL_law_241 rfl rfl ?_
  refine j_iconst (v := nI 1) C dL_law_242 (by decide) ?_
  refine j_iadd (v := nI (i + 1)) C dL_law_243 (nI_add _ _) ?_
  refine j_sld C hX hbl hbA (by omega) (by omega) dL_law_244 ?_
  refine j_aload_n C 0 dL_law_245 rfl rfl ?_
  refine j_iload_n C 3 dL_law_246 rfl rfl ?_
  refine j_iconst (v := nI 2) C dL_law_247 (by decide) ?_
  refine j_iadd (v := nI (i + 2)) C dL_law_248 (nI_add _ _) ?_
  refine j_sld C hX hbl hbA (by omega) (by omega) dL_law_249 ?_
  refine law_M (As := [.int (xs (i + 1)), .int (xs (i + 2))]) (rest := [.int (m_ofPerson σ (xs (i + 1)) (xs (i + 2))).1]) C (k_X8_ofPerson mm σ v hM (xs (i + 1)) (xs (i + 2))) gL_law_X8_ofPerson rfl 2 rfl (by decide +kernel) (by decide) (Nat.le_of_ble_eq_true rfl) dL_law_250 rfl (fun v1 hv1 => ?_)
  show J X (wXu A cy u1 ++ wMu mm cy v1) 253 [(0, .ref b), (1, .ref (A 3 0)), (2, .ref (mm 0)), (3, .int (nI i))] [.int (m_ofPerson σ (xs (i + 1)) (xs (i + 2))).1, .int (m_ofPerson σ (xs (i + 1)) (xs (i + 2))).1]
  refine j_icmp_eq (tgt := 1139) C dL_law_253 (by decide) (fun _ => ?_) (fun hne => absurd rfl hne)
  exact next _ u1 v1 hu1 hv1
set_option maxHeartbeats 1000000 in
theorem law_2 {X : Cxt} {l : Launch} {D : va_G} {cy : Nat → ClassId} {A : Nat → Nat → Nat} {mm : Nat → Nat} {b L i : Nat} {xs : Nat → Int32} (C : Cx X l D cy cL_law 4 wsL_law RL room_1) (hX : va_X b L xs (xS X) (xS X).heap) (hbl : b < (xS X).heap.size) (hbA : ¬ xA X b) (hL : L ≤ 448) (hi : i + 7 ≤ L) {σ : Sp} {u : XS} {v : MS} (hI : XI σ u) (hM : MI σ v) (next : ∀ (σ' : Sp) (u' : XS) (v' : MS), XI σ' u' → MI σ' v' → J X (wXu A cy u' ++ wMu mm cy v') 1139 [(0, .ref b), (1, .ref (A 3 0)), (2, .ref (mm 0)), (3, .int (nI i))] []) : J X (wXu A cy u ++ wMu mm cy v) 258 [(0, .ref b), (1, .ref (A 3 0)), (2, .ref (mm 0)), (3, .int (nI i))] [] := by
  refine j_aload_n C 1 dL_law_258 rfl rfl ?_
  refine j_aload_n C 0 dL_law_259 rfl rfl ?_
  refine j_iload_n C 3 dL_law_260 rfl rfl ?_
  refine j_iconst (v := nI 1) C dL_law_261 (by decide) ?_
  refine j_iadd (v := nI (i + 1)) C dL_law_262 (nI_add _ _) ?_
  refine j_sld C hX hbl hbA (by omega) (by omega) dL_law_263 ?_
  refine j_aload_n C 0 dL_law_264 rfl rfl ?_
  refine j_iload_n C 3 dL_law_265 rfl rfl ?_
  refine j_iconst (v := nI 2) C dL_law_266 (by decide) ?_
  refine j_iadd (v := nI (i + 2)) C dL_law_267 (nI_add _ _) ?_
  refine j_sld C hX hbl hbA (by omega) (by omega) dL_law_268 ?_
  refine j_aload_n C 0 dL_law_269 rfl rfl ?_
  refine j_iload_n C 3 dL_law_270 rfl rfl ?_
  refine j_iconst (v := nI 3) C dL_law_271 (by decide) ?_
  refine j_iadd (v := nI (i + 3)) C dL_law_272 (nI_add _ _) ?_
  refine j_sld C hX hbl hbA (by omega) (by omega) dL_law_273 ?_
  refine law_X (As := [.int (xs (i + 1)), .int (xs (i + 2)), .int (xs (i + 3))]) (rest := []) C (k_X7_owe A σ u hI (xs (i + 1)) (xs (i + 2)) (xs (i + 3))) gL_law_X7_owe rfl 3 rfl (by decide +kernel) (by decide) (Nat.le_of_ble_eq_true rfl) dL_law_274 rfl (fun u1 hu1 => ?_)
  show J X (wXu A cy u1 ++ wMu mm cy v) 277 [(0, .ref b), (1, .ref (A 3 0)), (2, .ref (mm 0)), (3, .int (nI i))] [.int (m_owe σ (xs (i + 1)) (xs (i + 2)) (xs (i + 3))).1]
  refine j_aload_n C 2 dL_law_277 rfl rfl ?_
  refine j_aload_n C 0 dL_law_278 rfl rfl ?_
  refine j_iload_n C 3 dL_law_279 rfl rfl ?_
  refine j_iconst (v := nI 1) C dL_law_280 (by decide) ?_
  refine j_iadd (v := nI (i + 1)) C dL_law_281 (nI_add _ _) ?_
  refine j_sld C hX hbl hbA (by omega) (by omega) dL_law_282 ?_
  refine j_aload_n C 0 dL_law_283 rfl rfl ?_
  refine j_iload_n C 3 dL_law_284 rfl rfl ?_
  refine j_iconst (v := nI 2) C dL_law_285 (by decide) ?_
  refine j_iadd (v := nI (i + 2)) C dL_law_286 (nI_add _ _) ?_
  refine j_sld C hX hbl hbA (by omega) (by omega) dL_law_287 ?_
  refine j_aload_n C 0 dL_law_288 rfl rfl ?_
  refine j_iload_n C 3 dL_law_289 rfl rfl ?_
  refine j_iconst (v := nI 3) C dL_law_290 (by decide) ?_
  refine j_iadd (v := nI (i + 3)) C dL_law_291 (nI_add _ _) ?_
  refine j_sld C hX hbl hbA (by omega) (by omega) dL_law_292 ?_
  refine law_M (As := [.int (xs (i + 1)), .int (xs (i + 2)), .int (xs (i + 3))]) (rest := [.int (m_owe σ (xs (i + 1)) (xs (i + 2)) (xs (i + 3))).1]) C (k_X8_owe mm σ v hM (xs (i + 1)) (xs (i + 2)) (xs (i + 3))) gL_law_X8_owe rfl 3 rfl (by decide +kernel) (by decide) (Nat.le_of_ble_eq_true rfl) dL_law_293 rfl (fun v1 hv1 => ?_)
  show J X (wXu A cy u1 ++ wMu mm cy v1) 296 [(0, .ref b), (1, .ref (A 3 0)), (2, .ref (mm 0)), (3, .int (nI i))] [.int (m_owe σ (xs (i + 1)) (xs (i + 2)) (xs (i + 3))).1, .int (m_owe σ (xs (i + 1)) (xs (i + 2)) (xs (i + 3))).1]
  refine j_icmp_eq (tgt := 1139) C dL_law_296 (by decide) (fun _ => ?_) (fun hne => absurd rfl hne)
  exact next _ u1 v1 hu1 hv1
set_option maxHeartbeats 1000000 in
theorem law_3 {X : Cxt} {l : Launch} {D : va_G} {cy : Nat → ClassId} {A : Nat → Nat → Nat} {mm : Nat → Nat} {b L i : Nat} {xs : Nat → Int32} (C : Cx X l D cy cL_law 4 wsL_law RL room_1) (hX : va_X b L xs (xS X) (xS X).heap) (hbl : b < (xS X).heap.size) (hbA : ¬ xA X b) (hL : L ≤ 448) (hi : i + 7 ≤ L) {σ : Sp} {u : XS} {v : MS} (hI : XI σ u) (hM : MI σ v) (next : ∀ (σ' : Sp) (u' : XS) (v' : MS), XI σ' u' → MI σ' v' → J X (wXu A cy u' ++ wMu mm cy v') 1139 [(0, .ref b), (1, .ref (A 3 0)), (2, .ref (mm 0)), (3, .int (nI i))] []) : J X (wXu A cy u ++ wMu mm cy v) 301 [(0, .ref b), (1, .ref (A 3 0)), (2, .ref (mm 0)), (3, .int (nI i))] [] := by
  refine j_aload_n C 1 dL_law_301 rfl rfl ?_
  refine j_aload_n C 0 dL_law_302 rfl rfl ?_
  refine j_iload_n C 3 dL_law_303 rfl rfl ?_
  refine j_iconst (v := nI 1) C dL_law_304 (by decide) ?_
  refine j_iadd (v := nI (i + 1)) C dL_law_305 (nI_add _ _) ?_
  refine j_sld C hX hbl hbA (by omega) (by omega) dL_law_306 ?_
  refine j_aload_n C 0 dL_law_307 rfl rfl ?_
  refine j_iload_n C 3 dL_law_308 rfl rfl ?_
  refine j_iconst (v := nI 2) C dL_law_309 (by decide) ?_
  refine j_iadd (v := nI (i + 2)) C dL_law_310 (nI_add _ _) ?_
  refine j_sld C hX hbl hbA (by omega) (by omega) dL_law_311 ?_
  refine law_X (As := [.int (xs (i + 1)), .int (xs (i + 2))]) (rest := []) C (k_X7_owes A σ u hI (xs (i + 1)) (xs (i + 2))) gL_law_X7_owes rfl 2 rfl (by decide +kernel) (by decide) (Nat.le_of_ble_eq_true rfl) dL_law_312 rfl (fun u1 hu1 => ?_)
  show J X (wXu A cy u1 ++ wMu mm cy v) 315 [(0, .ref b), (1, .ref (A 3 0)), (2, .ref (mm 0)), (3, .int (nI i))] [.int (m_owes σ (xs (i + 1)) (xs (i + 2))).1]
  refine j_aload_n C 2 dL_law_315 rfl rfl ?_
  refine j_aload_n C 0 dL_law_316 rfl rfl ?_
  refine j_iload_n C 3 dL_law_317 rfl rfl ?_
  refine j_iconst (v := nI 1) C dL_law_318 (by decide) ?_
  refine j_iadd (v := nI (i + 1)) C dL_law_319 (nI_add _ _) ?_
  refine j_sld C hX hbl hbA (by omega) (by omega) dL_law_320 ?_
  refine j_aload_n C 0 dL_law_321 rfl rfl ?_
  refine j_iload_n C 3 dL_law_322 rfl rfl ?_
  refine j_iconst (v := nI 2) C dL_law_323 (by decide) ?_
  refine j_iadd (v := nI (i + 2)) C dL_law_324 (nI_add _ _) ?_
  refine j_sld C hX hbl hbA (by omega) (by omega) dL_law_325 ?_
  refine law_M (As := [.int (xs (i + 1)), .int (xs (i + 2))]) (rest := [.int (m_owes σ (xs (i + 1)) (xs (i + 2))).1]) C (k_X8_owes mm σ v hM (xs (i + 1)) (xs (i + 2))) gL_law_X8_owes rfl 2 rfl (by decide +kernel) (by decide) (Nat.le_of_ble_eq_true rfl) dL_law_326 rfl (fun v1 hv1 => ?_)
  show J X (wXu A cy u1 ++ wMu mm cy v1) 329 [(0, .ref b), (1, .ref (A 3 0)), (2, .ref (mm 0)), (3, .int (nI i))] [.int (m_owes σ (xs (i + 1)) (xs (i + 2))).1, .int (m_owes σ (xs (i + 1)) (xs (i + 2))).1]
  refine j_icmp_eq (tgt := 1139) C dL_law_329 (by decide) (fun _ => ?_) (fun hne => absurd rfl hne)
  exact next _ u1 v1 hu1 hv1
set_option maxHeartbeats 1000000 in
theorem law_4 {X : Cxt} {l : Launch} {D : va_G} {cy : Nat → ClassId} {A : Nat → Nat → Nat} {mm : Nat → Nat} {b L i : Nat} {xs : Nat → Int32} (C : Cx X l D cy cL_law 4 wsL_law RL room_1) (hX : va_X b L xs (xS X) (xS X).heap) (hbl : b < (xS X).heap.size) (hbA : ¬ xA X b) (hL : L ≤ 448) (hi : i + 7 ≤ L) {σ : Sp} {u : XS} {v : MS} (hI : XI σ u) (hM : MI σ v) (next : ∀ (σ' : Sp) (u' : XS) (v' : MS), XI σ' u' → MI σ' v' → J X (wXu A cy u' ++ wMu mm cy v') 1139 [(0, .ref b), (1, .ref (A 3 0)), (2, .ref (mm 0)), (3, .int (nI i))] []) : J X (wXu A cy u ++ wMu mm cy v) 334 [(0, .ref b), (1, .ref (A 3 0)), (2, .ref (mm 0)), (3, .int (nI i))] [] := by
  refine j_aload_n C 1 dL_law_334 rfl rfl ?_
  refine j_aload_n C 0 dL_law_335 rfl rfl ?_
  refine j_iload_n C 3 dL_law_336 rfl rfl ?_
  refine j_iconst (v := nI 1) C dL_law_337 (by decide) ?_
  refine j_iadd (v := nI (i + 1)) C dL_law_338 (nI_add _ _) ?_
  refine j_sld C hX hbl hbA (by omega) (by omega) dL_law_339 ?_
  refine j_aload_n C 0 dL_law_340 rfl rfl ?_
  refine j_iload_n C 3 dL_law_341 rfl rfl ?_
  refine j_iconst (v := nI 2) C dL_law_342 (by decide) ?_
  refine j_iadd (v := nI (i + 2)) C dL_law_343 (nI_add _ _) ?_
  refine j_sld C hX hbl hbA (by omega) (by omega) dL_law_344 ?_
  refine law_X (As := [.int (xs (i + 1)), .int (xs (i + 2))]) (rest := []) C (k_X7_weight A σ u hI (xs (i + 1)) (xs (i + 2))) gL_law_X7_weight rfl 2 rfl (by decide +kernel) (by decide) (Nat.le_of_ble_eq_true rfl) dL_law_345 rfl (fun u1 hu1 => ?_)
  show J X (wXu A cy u1 ++ wMu mm cy v) 348 [(0, .ref b), (1, .ref (A 3 0)), (2, .ref (mm 0)), (3, .int (nI i))] [.int (m_weight σ (xs (i + 1)) (xs (i + 2))).1]
  refine j_aload_n C 2 dL_law_348 rfl rfl ?_
  refine j_aload_n C 0 dL_law_349 rfl rfl ?_
  refine j_iload_n C 3 dL_law_350 rfl rfl ?_
  refine j_iconst (v := nI 1) C dL_law_351 (by decide) ?_
  refine j_iadd (v := nI (i + 1)) C dL_law_352 (nI_add _ _) ?_
  refine j_sld C hX hbl hbA (by omega) (by omega) dL_law_353 ?_
  refine j_aload_n C 0 dL_law_354 rfl rfl ?_
  refine j_iload_n C 3 dL_law_355 rfl rfl ?_
  refine j_iconst (v := nI 2) C dL_law_356 (by decide) ?_
  refine j_iadd (v := nI (i + 2)) C dL_law_357 (nI_add _ _) ?_
  refine j_sld C hX hbl hbA (by omega) (by omega) dL_law_358 ?_
  refine law_M (As := [.int (xs (i + 1)), .int (xs (i + 2))]) (rest := [.int (m_weight σ (xs (i + 1)) (xs (i + 2))).1]) C (k_X8_weight mm σ v hM (xs (i + 1)) (xs (i + 2))) gL_law_X8_weight rfl 2 rfl (by decide +kernel) (by decide) (Nat.le_of_ble_eq_true rfl) dL_law_359 rfl (fun v1 hv1 => ?_)
  show J X (wXu A cy u1 ++ wMu mm cy v1) 362 [(0, .ref b), (1, .ref (A 3 0)), (2, .ref (mm 0)), (3, .int (nI i))] [.int (m_weight σ (xs (i + 1)) (xs (i + 2))).1, .int (m_weight σ (xs (i + 1)) (xs (i + 2))).1]
  refine j_icmp_eq (tgt := 1139) C dL_law_362 (by decide) (fun _ => ?_) (fun hne => absurd rfl hne)
  exact next _ u1 v1 hu1 hv1
set_option maxHeartbeats 1000000 in
theorem law_5 {X : Cxt} {l : Launch} {D : va_G} {cy : Nat → ClassId} {A : Nat → Nat → Nat} {mm : Nat → Nat} {b L i : Nat} {xs : Nat → Int32} (C : Cx X l D cy cL_law 4 wsL_law RL room_1) (hX : va_X b L xs (xS X) (xS X).heap) (hbl : b < (xS X).heap.size) (hbA : ¬ xA X b) (hL : L ≤ 448) (hi : i + 7 ≤ L) {σ : Sp} {u : XS} {v : MS} (hI : XI σ u) (hM : MI σ v) (next : ∀ (σ' : Sp) (u' : XS) (v' : MS), XI σ' u' → MI σ' v' → J X (wXu A cy u' ++ wMu mm cy v') 1139 [(0, .ref b), (1, .ref (A 3 0)), (2, .ref (mm 0)), (3, .int (nI i))] []) : J X (wXu A cy u ++ wMu mm cy v) 367 [(0, .ref b), (1, .ref (A 3 0)), (2, .ref (mm 0)), (3, .int (nI i))] [] := by
  refine j_aload_n C 1 dL_law_367 rfl rfl ?_
  refine j_aload_n C 0 dL_law_368 rfl rfl ?_
  refine j_iload_n C 3 dL_law_369 rfl rfl ?_
  refine j_iconst (v := nI 1) C dL_law_370 (by decide) ?_
  refine j_iadd (v := nI (i + 1)) C dL_law_371 (nI_add _ _) ?_
  refine j_sld C hX hbl hbA (by omega) (by omega) dL_law_372 ?_
  refine law_X (As := [.int (xs (i + 1))]) (rest := []) C (k_X7_bell A σ u hI (xs (i + 1))) gL_law_X7_bell rfl 1 rfl (by decide +kernel) (by decide) (Nat.le_of_ble_eq_true rfl) dL_law_373 rfl (fun u1 hu1 => ?_)
  show J X (wXu A cy u1 ++ wMu mm cy v) 376 [(0, .ref b), (1, .ref (A 3 0)), (2, .ref (mm 0)), (3, .int (nI i))] [.int (m_bell σ (xs (i + 1))).1]
  refine j_aload_n C 2 dL_law_376 rfl rfl ?_
  refine j_aload_n C 0 dL_law_377 rfl rfl ?_
  refine j_iload_n C 3 dL_law_378 rfl rfl ?_
  refine j_iconst (v := nI 1) C dL_law_379 (by decide) ?_
  refine j_iadd (v := nI (i + 1)) C dL_law_380 (nI_add _ _) ?_
  refine j_sld C hX hbl hbA (by omega) (by omega) dL_law_381 ?_
  refine law_M (As := [.int (xs (i + 1))]) (rest := [.int (m_bell σ (xs (i + 1))).1]) C (k_X8_bell mm σ v hM (xs (i + 1))) gL_law_X8_bell rfl 1 rfl (by decide +kernel) (by decide) (Nat.le_of_ble_eq_true rfl) dL_law_382 rfl (fun v1 hv1 => ?_)
  show J X (wXu A cy u1 ++ wMu mm cy v1) 385 [(0, .ref b), (1, .ref (A 3 0)), (2, .ref (mm 0)), (3, .int (nI i))] [.int (m_bell σ (xs (i + 1))).1, .int (m_bell σ (xs (i + 1))).1]
  refine j_icmp_eq (tgt := 1139) C dL_law_385 (by decide) (fun _ => ?_) (fun hne => absurd rfl hne)
  exact next _ u1 v1 hu1 hv1
set_option maxHeartbeats 1000000 in
theorem law_6 {X : Cxt} {l : Launch} {D : va_G} {cy : Nat → ClassId} {A : Nat → Nat → Nat} {mm : Nat → Nat} {b L i : Nat} {xs : Nat → Int32} (C : Cx X l D cy cL_law 4 wsL_law RL room_1) (hX : va_X b L xs (xS X) (xS X).heap) (hbl : b < (xS X).heap.size) (hbA : ¬ xA X b) (hL : L ≤ 448) (hi : i + 7 ≤ L) {σ : Sp} {u : XS} {v : MS} (hI : XI σ u) (hM : MI σ v) (next : ∀ (σ' : Sp) (u' : XS) (v' : MS), XI σ' u' → MI σ' v' → J X (wXu A cy u' ++ wMu mm cy v') 1139 [(0, .ref b), (1, .ref (A 3 0)), (2, .ref (mm 0)), (3, .int (nI i))] []) : J X (wXu A cy u ++ wMu mm cy v) 390 [(0, .ref b), (1, .ref (A 3 0)), (2, .ref (mm 0)), (3, .int (nI i))] [] := by
  refine j_aload_n C 1 dL_law_390 rfl rfl ?_
  refine j_aload_n C 0 dL_law_391 rfl rfl ?_
  refine j_iload_n C 3 dL_law_392 rfl rfl ?_
  refine j_iconst (v := nI 1) C dL_law_393 (by decide) ?_
  refine j_iadd (v := nI (i + 1)) C dL_law_394 (nI_add _ _) ?_
  refine j_sld C hX hbl hbA (by omega) (by omega) dL_law_395 ?_
  refine law_X (As := [.int (xs (i + 1))]) (rest := []) C (k_X7_lighter A σ u hI (xs (i + 1))) gL_law_X7_lighter rfl 1 rfl (by decide +kernel) (by decide) (Nat.le_of_ble_eq_true rfl) dL_law_396 rfl (fun u1 hu1 => ?_)
  show J X (wXu A cy u1 ++ wMu mm cy v) 399 [(0, .ref b), (1, .ref (A 3 0)), (2, .ref (mm 0)), (3, .int (nI i))] [.int (m_lighter σ (xs (i + 1))).1]
  refine j_aload_n C 2 dL_law_399 rfl rfl ?_
  refine j_aload_n C 0 dL_law_400 rfl rfl ?_
  refine j_iload_n C 3 dL_law_401 rfl rfl ?_
  refine j_iconst (v := nI 1) C dL_law_402 (by decide) ?_
  refine j_iadd (v := nI (i + 1)) C dL_law_403 (nI_add _ _) ?_
  refine j_sld C hX hbl hbA (by omega) (by omega) dL_law_404 ?_
  refine law_M (As := [.int (xs (i + 1))]) (rest := [.int (m_lighter σ (xs (i + 1))).1]) C (k_X8_lighter mm σ v hM (xs (i + 1))) gL_law_X8_lighter rfl 1 rfl (by decide +kernel) (by decide) (Nat.le_of_ble_eq_true rfl) dL_law_405 rfl (fun v1 hv1 => ?_)
  show J X (wXu A cy u1 ++ wMu mm cy v1) 408 [(0, .ref b), (1, .ref (A 3 0)), (2, .ref (mm 0)), (3, .int (nI i))] [.int (m_lighter σ (xs (i + 1))).1, .int (m_lighter σ (xs (i + 1))).1]
  refine j_icmp_eq (tgt := 1139) C dL_law_408 (by decide) (fun _ => ?_) (fun hne => absurd rfl hne)
  exact next _ u1 v1 hu1 hv1
set_option maxHeartbeats 1000000 in
theorem law_7 {X : Cxt} {l : Launch} {D : va_G} {cy : Nat → ClassId} {A : Nat → Nat → Nat} {mm : Nat → Nat} {b L i : Nat} {xs : Nat → Int32} (C : Cx X l D cy cL_law 4 wsL_law RL room_1) (hX : va_X b L xs (xS X) (xS X).heap) (hbl : b < (xS X).heap.size) (hbA : ¬ xA X b) (hL : L ≤ 448) (hi : i + 7 ≤ L) {σ : Sp} {u : XS} {v : MS} (hI : XI σ u) (hM : MI σ v) (next : ∀ (σ' : Sp) (u' : XS) (v' : MS), XI σ' u' → MI σ' v' → J X (wXu A cy u' ++ wMu mm cy v') 1139 [(0, .ref b), (1, .ref (A 3 0)), (2, .ref (mm 0)), (3, .int (nI i))] []) : J X (wXu A cy u ++ wMu mm cy v) 413 [(0, .ref b), (1, .ref (A 3 0)), (2, .ref (mm 0)), (3, .int (nI i))] [] := by
  refine j_aload_n C 1 dL_law_413 rfl rfl ?_
  refine j_aload_n C 0 dL_law_414 rfl rfl ?_
  refine j_iload_n C 3 dL_law_415 rfl rfl ?_
  refine j_iconst (v := nI 1) C dL_law_416 (by decide) ?_
  refine j_iadd (v := nI (i + 1)) C dL_law_417 (nI_add _ _) ?_
  refine j_sld C hX hbl hbA (by omega) (by omega) dL_law_418 ?_
  refine law_X (As := [.int (xs (i + 1))]) (rest := []) C (k_X7_dusks A σ u hI (xs (i + 1))) gL_law_X7_dusks rfl 1 rfl (by decide +kernel) (by decide) (Nat.le_of_ble_eq_true rfl) dL_law_419 rfl (fun u1 hu1 => ?_)
  show J X (wXu A cy u1 ++ wMu mm cy v) 422 [(0, .ref b), (1, .ref (A 3 0)), (2, .ref (mm 0)), (3, .int (nI i))] [.int (m_dusks σ (xs (i + 1))).1]
  refine j_aload_n C 2 dL_law_422 rfl rfl ?_
  refine j_aload_n C 0 dL_law_423 rfl rfl ?_
  refine j_iload_n C 3 dL_law_424 rfl rfl ?_
  refine j_iconst (v := nI 1) C dL_law_425 (by decide) ?_
  refine j_iadd (v := nI (i + 1)) C dL_law_426 (nI_add _ _) ?_
  refine j_sld C hX hbl hbA (by omega) (by omega) dL_law_427 ?_
  refine law_M (As := [.int (xs (i + 1))]) (rest := [.int (m_dusks σ (xs (i + 1))).1]) C (k_X8_dusks mm σ v hM (xs (i + 1))) gL_law_X8_dusks rfl 1 rfl (by decide +kernel) (by decide) (Nat.le_of_ble_eq_true rfl) dL_law_428 rfl (fun v1 hv1 => ?_)
  show J X (wXu A cy u1 ++ wMu mm cy v1) 431 [(0, .ref b), (1, .ref (A 3 0)), (2, .ref (mm 0)), (3, .int (nI i))] [.int (m_dusks σ (xs (i + 1))).1, .int (m_dusks σ (xs (i + 1))).1]
  refine j_icmp_eq (tgt := 1139) C dL_law_431 (by decide) (fun _ => ?_) (fun hne => absurd rfl hne)
  exact next _ u1 v1 hu1 hv1
set_option maxHeartbeats 1000000 in
theorem law_8 {X : Cxt} {l : Launch} {D : va_G} {cy : Nat → ClassId} {A : Nat → Nat → Nat} {mm : Nat → Nat} {b L i : Nat} {xs : Nat → Int32} (C : Cx X l D cy cL_law 4 wsL_law RL room_1) (hX : va_X b L xs (xS X) (xS X).heap) (hbl : b < (xS X).heap.size) (hbA : ¬ xA X b) (hL : L ≤ 448) (hi : i + 7 ≤ L) {σ : Sp} {u : XS} {v : MS} (hI : XI σ u) (hM : MI σ v) (next : ∀ (σ' : Sp) (u' : XS) (v' : MS), XI σ' u' → MI σ' v' → J X (wXu A cy u' ++ wMu mm cy v') 1139 [(0, .ref b), (1, .ref (A 3 0)), (2, .ref (mm 0)), (3, .int (nI i))] []) : J X (wXu A cy u ++ wMu mm cy v) 436 [(0, .ref b), (1, .ref (A 3 0)), (2, .ref (mm 0)), (3, .int (nI i))] [] := by
  refine j_aload_n C 1 dL_law_436 rfl rfl ?_
  refine j_aload_n C 0 dL_law_437 rfl rfl ?_
  refine j_iload_n C 3 dL_law_438 rfl rfl ?_
  refine j_iconst (v := nI 1) C dL_law_439 (by decide) ?_
  refine j_iadd (v := nI (i + 1)) C dL_law_440 (nI_add _ _) ?_
  refine j_sld C hX hbl hbA (by omega) (by omega) dL_law_441 ?_
  refine j_aload_n C 0 dL_law_442 rfl rfl ?_
  refine j_iload_n C 3 dL_law_443 rfl rfl ?_
  refine j_iconst (v := nI 2) C dL_law_444 (by decide) ?_
  refine j_iadd (v := nI (i + 2)) C dL_law_445 (nI_add _ _) ?_
  refine j_sld C hX hbl hbA (by omega) (by omega) dL_law_446 ?_
  refine law_X (As := [.int (xs (i + 1)), .int (xs (i + 2))]) (rest := []) C (k_X7_later A σ u hI (xs (i + 1)) (xs (i + 2))) gL_law_X7_later rfl 2 rfl (by decide +kernel) (by decide) (Nat.le_of_ble_eq_true rfl) dL_law_447 rfl (fun u1 hu1 => ?_)
  show J X (wXu A cy u1 ++ wMu mm cy v) 450 [(0, .ref b), (1, .ref (A 3 0)), (2, .ref (mm 0)), (3, .int (nI i))] [.int (m_later σ (xs (i + 1)) (xs (i + 2))).1]
  refine j_aload_n C 2 dL_law_450 rfl rfl ?_
  refine j_aload_n C 0 dL_law_451 rfl rfl ?_
  refine j_iload_n C 3 dL_law_452 rfl rfl ?_
  refine j_iconst (v := nI 1) C dL_law_453 (by decide) ?_
  refine j_iadd (v := nI (i + 1)) C dL_law_454 (nI_add _ _) ?_
  refine j_sld C hX hbl hbA (by omega) (by omega) dL_law_455 ?_
  refine j_aload_n C 0 dL_law_456 rfl rfl ?_
  refine j_iload_n C 3 dL_law_457 rfl rfl ?_
  refine j_iconst (v := nI 2) C dL_law_458 (by decide) ?_
  refine j_iadd (v := nI (i + 2)) C dL_law_459 (nI_add _ _) ?_
  refine j_sld C hX hbl hbA (by omega) (by omega) dL_law_460 ?_
  refine law_M (As := [.int (xs (i + 1)), .int (xs (i + 2))]) (rest := [.int (m_later σ (xs (i + 1)) (xs (i + 2))).1]) C (k_X8_later mm σ v hM (xs (i + 1)) (xs (i + 2))) gL_law_X8_later rfl 2 rfl (by decide +kernel) (by decide) (Nat.le_of_ble_eq_true rfl) dL_law_461 rfl (fun v1 hv1 => ?_)
  show J X (wXu A cy u1 ++ wMu mm cy v1) 464 [(0, .ref b), (1, .ref (A 3 0)), (2, .ref (mm 0)), (3, .int (nI i))] [.int (m_later σ (xs (i + 1)) (xs (i + 2))).1, .int (m_later σ (xs (i + 1)) (xs (i + 2))).1]
  refine j_icmp_eq (tgt := 1139) C dL_law_464 (by decide) (fun _ => ?_) (fun hne => absurd rfl hne)
  exact next _ u1 v1 hu1 hv1
set_option maxHeartbeats 1000000 in
theorem law_9 {X : Cxt} {l : Launch} {D : va_G} {cy : Nat → ClassId} {A : Nat → Nat → Nat} {mm : Nat → Nat} {b L i : Nat} {xs : Nat → Int32} (C : Cx X l D cy cL_law 4 wsL_law RL room_1) (hX : va_X b L xs (xS X) (xS X).heap) (hbl : b < (xS X).heap.size) (hbA : ¬ xA X b) (hL : L ≤ 448) (hi : i + 7 ≤ L) {σ : Sp} {u : XS} {v : MS} (hI : XI σ u) (hM : MI σ v) (next : ∀ (σ' : Sp) (u' : XS) (v' : MS), XI σ' u' → MI σ' v' → J X (wXu A cy u' ++ wMu mm cy v') 1139 [(0, .ref b), (1, .ref (A 3 0)), (2, .ref (mm 0)), (3, .int (nI i))] []) : J X (wXu A cy u ++ wMu mm cy v) 469 [(0, .ref b), (1, .ref (A 3 0)), (2, .ref (mm 0)), (3, .int (nI i))] [] := by
  refine j_aload_n C 1 dL_law_469 rfl rfl ?_
  refine law_X (As := []) (rest := []) C (k_X7_dark A σ u hI ) gL_law_X7_dark rfl 0 rfl (by decide +kernel) (by decide) (Nat.le_of_ble_eq_true rfl) dL_law_470 rfl (fun u1 hu1 => ?_)
  show J X (wXu A cy u1 ++ wMu mm cy v) 473 [(0, .ref b), (1, .ref (A 3 0)), (2, .ref (mm 0)), (3, .int (nI i))] [.int (m_dark σ ).1]
  refine j_aload_n C 2 dL_law_473 rfl rfl ?_
  refine law_M (As := []) (rest := [.int (m_dark σ ).1]) C (k_X8_dark mm σ v hM ) gL_law_X8_dark rfl 0 rfl (by decide +kernel) (by decide) (Nat.le_of_ble_eq_true rfl) dL_law_474 rfl (fun v1 hv1 => ?_)
  show J X (wXu A cy u1 ++ wMu mm cy v1) 477 [(0, .ref b), (1, .ref (A 3 0)), (2, .ref (mm 0)), (3, .int (nI i))] [.int (m_dark σ ).1, .int (m_dark σ ).1]
  refine j_icmp_eq (tgt := 1139) C dL_law_477 (by decide) (fun _ => ?_) (fun hne => absurd rfl hne)
  exact next _ u1 v1 hu1 hv1
set_option maxHeartbeats 1000000 in
theorem law_10 {X : Cxt} {l : Launch} {D : va_G} {cy : Nat → ClassId} {A : Nat → Nat → Nat} {mm : Nat → Nat} {b L i : Nat} {xs : Nat → Int32} (C : Cx X l D cy cL_law 4 wsL_law RL room_1) (hX : va_X b L xs (xS X) (xS X).heap) (hbl : b < (xS X).heap.size) (hbA : ¬ xA X b) (hL : L ≤ 448) (hi : i + 7 ≤ L) {σ : Sp} {u : XS} {v : MS} (hI : XI σ u) (hM : MI σ v) (next : ∀ (σ' : Sp) (u' : XS) (v' : MS), XI σ' u' → MI σ' v' → J X (wXu A cy u' ++ wMu mm cy v') 1139 [(0, .ref b), (1, .ref (A 3 0)), (2, .ref (mm 0)), (3, .int (nI i))] []) : J X (wXu A cy u ++ wMu mm cy v) 482 [(0, .ref b), (1, .ref (A 3 0)), (2, .ref (mm 0)), (3, .int (nI i))] [] := by
  refine j_aload_n C 1 dL_law_482 rfl rfl ?_
  refine j_aload_n C 0 dL_law_483 rfl rfl ?_
  refine j_iload_n C 3 dL_law_484 rfl rfl ?_
  refine j_iconst (v := nI 1) C dL_law_485 (by decide) ?_
  refine j_iadd (v := nI (i + 1)) C dL_law_486 (nI_add _ _) ?_
  refine j_sld C hX hbl hbA (by omega) (by omega) dL_law_487 ?_
  refine law_X (As := [.int (xs (i + 1))]) (rest := []) C (k_X7_ring A σ u hI (xs (i + 1))) gL_law_X7_ring rfl 1 rfl (by decide +kernel) (by decide) (Nat.le_of_ble_eq_true rfl) dL_law_488 rfl (fun u1 hu1 => ?_)
  show J X (wXu A cy u1 ++ wMu mm cy v) 491 [(0, .ref b), (1, .ref (A 3 0)), (2, .ref (mm 0)), (3, .int (nI i))] [.int (m_ring σ (xs (i + 1))).1]
  refine j_aload_n C 2 dL_law_491 rfl rfl ?_
  refine j_aload_n C 0 dL_law_492 rfl rfl ?_
  refine j_iload_n C 3 dL_law_493 rfl rfl ?_
  refine j_iconst (v := nI 1) C dL_law_494 (by decide) ?_
  refine j_iadd (v := nI (i + 1)) C dL_law_495 (nI_add _ _) ?_
  refine j_sld C hX hbl hbA (by omega) (by omega) dL_law_496 ?_
  refine law_M (As := [.int (xs (i + 1))]) (rest := [.int (m_ring σ (xs (i + 1))).1]) C (k_X8_ring mm σ v hM (xs (i + 1))) gL_law_X8_ring rfl 1 rfl (by decide +kernel) (by decide) (Nat.le_of_ble_eq_true rfl) dL_law_497 rfl (fun v1 hv1 => ?_)
  show J X (wXu A cy u1 ++ wMu mm cy v1) 500 [(0, .ref b), (1, .ref (A 3 0)), (2, .ref (mm 0)), (3, .int (nI i))] [.int (m_ring σ (xs (i + 1))).1, .int (m_ring σ (xs (i + 1))).1]
  refine j_icmp_eq (tgt := 1139) C dL_law_500 (by decide) (fun _ => ?_) (fun hne => absurd rfl hne)
  exact next _ u1 v1 hu1 hv1
set_option maxHeartbeats 1000000 in
theorem law_11 {X : Cxt} {l : Launch} {D : va_G} {cy : Nat → ClassId} {A : Nat → Nat → Nat} {mm : Nat → Nat} {b L i : Nat} {xs : Nat → Int32} (C : Cx X l D cy cL_law 4 wsL_law RL room_1) (hX : va_X b L xs (xS X) (xS X).heap) (hbl : b < (xS X).heap.size) (hbA : ¬ xA X b) (hL : L ≤ 448) (hi : i + 7 ≤ L) {σ : Sp} {u : XS} {v : MS} (hI : XI σ u) (hM : MI σ v) (next : ∀ (σ' : Sp) (u' : XS) (v' : MS), XI σ' u' → MI σ' v' → J X (wXu A cy u' ++ wMu mm cy v') 1139 [(0, .ref b), (1, .ref (A 3 0)), (2, .ref (mm 0)), (3, .int (nI i))] []) : J X (wXu A cy u ++ wMu mm cy v) 505 [(0, .ref b), (1, .ref (A 3 0)), (2, .ref (mm 0)), (3, .int (nI i))] [] := by
  refine j_aload_n C 1 dL_law_505 rfl rfl ?_
  refine j_aload_n C 0 dL_law_506 rfl rfl ?_
  refine j_iload_n C 3 dL_law_507 rfl rfl ?_
  refine j_iconst (v := nI 1) C dL_law_508 (by decide) ?_
  refine j_iadd (v := nI (i + 1)) C dL_law_509 (nI_add _ _) ?_
  refine j_sld C hX hbl hbA (by omega) (by omega) dL_law_510 ?_
  refine j_aload_n C 0 dL_law_511 rfl rfl ?_
  refine j_iload_n C 3 dL_law_512 rfl rfl ?_
  refine j_iconst (v := nI 2) C dL_law_513 (by decide) ?_
  refine j_iadd (v := nI (i + 2)) C dL_law_514 (nI_add _ _) ?_
  refine j_sld C hX hbl hbA (by omega) (by omega) dL_law_515 ?_
  refine j_aload_n C 0 dL_law_516 rfl rfl ?_
  refine j_iload_n C 3 dL_law_517 rfl rfl ?_
  refine j_iconst (v := nI 3) C dL_law_518 (by decide) ?_
  refine j_iadd (v := nI (i + 3)) C dL_law_519 (nI_add _ _) ?_
  refine j_sld C hX hbl hbA (by omega) (by omega) dL_law_520 ?_
  refine j_aload_n C 0 dL_law_521 rfl rfl ?_
  refine j_iload_n C 3 dL_law_522 rfl rfl ?_
  refine j_iconst (v := nI 4) C dL_law_523 (by decide) ?_
  refine j_iadd (v := nI (i + 4)) C dL_law_524 (nI_add _ _) ?_
  refine j_sld C hX hbl hbA (by omega) (by omega) dL_law_525 ?_
  refine j_aload_n C 0 dL_law_526 rfl rfl ?_
  refine j_iload_n C 3 dL_law_527 rfl rfl ?_
  refine j_iconst (v := nI 5) C dL_law_528 (by decide) ?_
  refine j_iadd (v := nI (i + 5)) C dL_law_529 (nI_add _ _) ?_
  refine j_sld C hX hbl hbA (by omega) (by omega) dL_law_530 ?_
  refine j_aload_n C 0 dL_law_531 rfl rfl ?_
  refine j_iload_n C 3 dL_law_532 rfl rfl ?_
  refine j_bipush (v := nI 6) C dL_law_533 (by decide) ?_
  refine j_iadd (v := nI (i + 6)) C dL_law_535 (nI_add _ _) ?_
  refine j_sld C hX hbl hbA (by omega) (by omega) dL_law_536 ?_
  refine law_X (As := [.int (xs (i + 1)), .int (xs (i + 2)), .int (xs (i + 3)), .int (xs (i + 4)), .int (xs (i + 5)), .int (xs (i + 6))]) (rest := []) C (k_X7_walk A σ u hI (xs (i + 1)) (xs (i + 2)) (xs (i + 3)) (xs (i + 4)) (xs (i + 5)) (xs (i + 6))) gL_law_X7_walk rfl 6 rfl (by decide +kernel) (by decide) (Nat.le_of_ble_eq_true rfl) dL_law_537 rfl (fun u1 hu1 => ?_)
  show J X (wXu A cy u1 ++ wMu mm cy v) 540 [(0, .ref b), (1, .ref (A 3 0)), (2, .ref (mm 0)), (3, .int (nI i))] [.int (m_walk σ (xs (i + 1)) (xs (i + 2)) (xs (i + 3)) (xs (i + 4)) (xs (i + 5)) (xs (i + 6))).1]
  refine j_aload_n C 2 dL_law_540 rfl rfl ?_
  refine j_aload_n C 0 dL_law_541 rfl rfl ?_
  refine j_iload_n C 3 dL_law_542 rfl rfl ?_
  refine j_iconst (v := nI 1) C dL_law_543 (by decide) ?_
  refine j_iadd (v := nI (i + 1)) C dL_law_544 (nI_add _ _) ?_
  refine j_sld C hX hbl hbA (by omega) (by omega) dL_law_545 ?_
  refine j_aload_n C 0 dL_law_546 rfl rfl ?_
  refine j_iload_n C 3 dL_law_547 rfl rfl ?_
  refine j_iconst (v := nI 2) C dL_law_548 (by decide) ?_
  refine j_iadd (v := nI (i + 2)) C dL_law_549 (nI_add _ _) ?_
  refine j_sld C hX hbl hbA (by omega) (by omega) dL_law_550 ?_
  refine j_aload_n C 0 dL_law_551 rfl rfl ?_
  refine j_iload_n C 3 dL_law_552 rfl rfl ?_
  refine j_iconst (v := nI 3) C dL_law_553 (by decide) ?_
  refine j_iadd (v := nI (i + 3)) C dL_law_554 (nI_add _ _) ?_
  refine j_sld C hX hbl hbA (by omega) (by omega) dL_law_555 ?_
  refine j_aload_n C 0 dL_law_556 rfl rfl ?_
  refine j_iload_n C 3 dL_law_557 rfl rfl ?_
  refine j_iconst (v := nI 4) C dL_law_558 (by decide) ?_
  refine j_iadd (v := nI (i + 4)) C dL_law_559 (nI_add _ _) ?_
  refine j_sld C hX hbl hbA (by omega) (by omega) dL_law_560 ?_
  refine j_aload_n C 0 dL_law_561 rfl rfl ?_
  refine j_iload_n C 3 dL_law_562 rfl rfl ?_
  refine j_iconst (v := nI 5) C dL_law_563 (by decide) ?_
  refine j_iadd (v := nI (i + 5)) C dL_law_564 (nI_add _ _) ?_
  refine j_sld C hX hbl hbA (by omega) (by omega) dL_law_565 ?_
  refine j_aload_n C 0 dL_law_566 rfl rfl ?_
  refine j_iload_n C 3 dL_law_567 rfl rfl ?_
  refine j_bipush (v := nI 6) C dL_law_568 (by decide) ?_
  refine j_iadd (v := nI (i + 6)) C dL_law_570 (nI_add _ _) ?_
  refine j_sld C hX hbl hbA (by omega) (by omega) dL_law_571 ?_
  refine law_M (As := [.int (xs (i + 1)), .int (xs (i + 2)), .int (xs (i + 3)), .int (xs (i + 4)), .int (xs (i + 5)), .int (xs (i + 6))]) (rest := [.int (m_walk σ (xs (i + 1)) (xs (i + 2)) (xs (i + 3)) (xs (i + 4)) (xs (i + 5)) (xs (i + 6))).1]) C (k_X8_walk mm σ v hM (xs (i + 1)) (xs (i + 2)) (xs (i + 3)) (xs (i + 4)) (xs (i + 5)) (xs (i + 6))) gL_law_X8_walk rfl 6 rfl (by decide +kernel) (by decide) (Nat.le_of_ble_eq_true rfl) dL_law_572 rfl (fun v1 hv1 => ?_)
  show J X (wXu A cy u1 ++ wMu mm cy v1) 575 [(0, .ref b), (1, .ref (A 3 0)), (2, .ref (mm 0)), (3, .int (nI i))] [.int (m_walk σ (xs (i + 1)) (xs (i + 2)) (xs (i + 3)) (xs (i + 4)) (xs (i + 5)) (xs (i + 6))).1, .int (m_walk σ (xs (i + 1)) (xs (i + 2)) (xs (i + 3)) (xs (i + 4)) (xs (i + 5)) (xs (i + 6))).1]
  refine j_icmp_eq (tgt := 1139) C dL_law_575 (by decide) (fun _ => ?_) (fun hne => absurd rfl hne)
  exact next _ u1 v1 hu1 hv1
set_option maxHeartbeats 1000000 in
theorem law_12 {X : Cxt} {l : Launch} {D : va_G} {cy : Nat → ClassId} {A : Nat → Nat → Nat} {mm : Nat → Nat} {b L i : Nat} {xs : Nat → Int32} (C : Cx X l D cy cL_law 4 wsL_law RL room_1) (hX : va_X b L xs (xS X) (xS X).heap) (hbl : b < (xS X).heap.size) (hbA : ¬ xA X b) (hL : L ≤ 448) (hi : i + 7 ≤ L) {σ : Sp} {u : XS} {v : MS} (hI : XI σ u) (hM : MI σ v) (next : ∀ (σ' : Sp) (u' : XS) (v' : MS), XI σ' u' → MI σ' v' → J X (wXu A cy u' ++ wMu mm cy v') 1139 [(0, .ref b), (1, .ref (A 3 0)), (2, .ref (mm 0)), (3, .int (nI i))] []) : J X (wXu A cy u ++ wMu mm cy v) 580 [(0, .ref b), (1, .ref (A 3 0)), (2, .ref (mm 0)), (3, .int (nI i))] [] := by
  refine j_aload_n C 1 dL_law_580 rfl rfl ?_
  refine j_aload_n C 0 dL_law_581 rfl rfl ?_
  refine j_iload_n C 3 dL_law_582 rfl rfl ?_
  refine j_iconst (v := nI 1) C dL_law_583 (by decide) ?_
  refine j_iadd (v := nI (i + 1)) C dL_law_584 (nI_add _ _) ?_
  refine j_sld C hX hbl hbA (by omega) (by omega) dL_law_585 ?_
  refine law_X (As := [.int (xs (i + 1))]) (rest := []) C (k_X7_free A σ u hI (xs (i + 1))) gL_law_X7_free rfl 1 rfl (by decide +kernel) (by decide) (Nat.le_of_ble_eq_true rfl) dL_law_586 rfl (fun u1 hu1 => ?_)
  show J X (wXu A cy u1 ++ wMu mm cy v) 589 [(0, .ref b), (1, .ref (A 3 0)), (2, .ref (mm 0)), (3, .int (nI i))] [.int (m_free σ (xs (i + 1))).1]
  refine j_aload_n C 2 dL_law_589 rfl rfl ?_
  refine j_aload_n C 0 dL_law_590 rfl rfl ?_
  refine j_iload_n C 3 dL_law_591 rfl rfl ?_
  refine j_iconst (v := nI 1) C dL_law_592 (by decide) ?_
  refine j_iadd (v := nI (i + 1)) C dL_law_593 (nI_add _ _) ?_
  refine j_sld C hX hbl hbA (by omega) (by omega) dL_law_594 ?_
  refine law_M (As := [.int (xs (i + 1))]) (rest := [.int (m_free σ (xs (i + 1))).1]) C (k_X8_free mm σ v hM (xs (i + 1))) gL_law_X8_free rfl 1 rfl (by decide +kernel) (by decide) (Nat.le_of_ble_eq_true rfl) dL_law_595 rfl (fun v1 hv1 => ?_)
  show J X (wXu A cy u1 ++ wMu mm cy v1) 598 [(0, .ref b), (1, .ref (A 3 0)), (2, .ref (mm 0)), (3, .int (nI i))] [.int (m_free σ (xs (i + 1))).1, .int (m_free σ (xs (i + 1))).1]
  refine j_icmp_eq (tgt := 1139) C dL_law_598 (by decide) (fun _ => ?_) (fun hne => absurd rfl hne)
  exact next _ u1 v1 hu1 hv1
set_option maxHeartbeats 1000000 in
theorem law_13 {X : Cxt} {l : Launch} {D : va_G} {cy : Nat → ClassId} {A : Nat → Nat → Nat} {mm : Nat → Nat} {b L i : Nat} {xs : Nat → Int32} (C : Cx X l D cy cL_law 4 wsL_law RL room_1) (hX : va_X b L xs (xS X) (xS X).heap) (hbl : b < (xS X).heap.size) (hbA : ¬ xA X b) (hL : L ≤ 448) (hi : i + 7 ≤ L) {σ : Sp} {u : XS} {v : MS} (hI : XI σ u) (hM : MI σ v) (next : ∀ (σ' : Sp) (u' : XS) (v' : MS), XI σ' u' → MI σ' v' → J X (wXu A cy u' ++ wMu mm cy v') 1139 [(0, .ref b), (1, .ref (A 3 0)), (2, .ref (mm 0)), (3, .int (nI i))] []) : J X (wXu A cy u ++ wMu mm cy v) 603 [(0, .ref b), (1, .ref (A 3 0)), (2, .ref (mm 0)), (3, .int (nI i))] [] := by
  refine j_aload_n C 1 dL_law_603 rfl rfl ?_
  refine law_X (As := []) (rest := []) C (k_X7_haste A σ u hI ) gL_law_X7_haste rfl 0 rfl (by decide +kernel) (by decide) (Nat.le_of_ble_eq_true rfl) dL_law_604 rfl (fun u1 hu1 => ?_)
  show J X (wXu A cy u1 ++ wMu mm cy v) 607 [(0, .ref b), (1, .ref (A 3 0)), (2, .ref (mm 0)), (3, .int (nI i))] [.int (m_haste σ ).1]
  refine j_aload_n C 2 dL_law_607 rfl rfl ?_
  refine law_M (As := []) (rest := [.int (m_haste σ ).1]) C (k_X8_haste mm σ v hM ) gL_law_X8_haste rfl 0 rfl (by decide +kernel) (by decide) (Nat.le_of_ble_eq_true rfl) dL_law_608 rfl (fun v1 hv1 => ?_)
  show J X (wXu A cy u1 ++ wMu mm cy v1) 611 [(0, .ref b), (1, .ref (A 3 0)), (2, .ref (mm 0)), (3, .int (nI i))] [.int (m_haste σ ).1, .int (m_haste σ ).1]
  refine j_icmp_eq (tgt := 1139) C dL_law_611 (by decide) (fun _ => ?_) (fun hne => absurd rfl hne)
  exact next _ u1 v1 hu1 hv1
set_option maxHeartbeats 1000000 in
theorem law_14 {X : Cxt} {l : Launch} {D : va_G} {cy : Nat → ClassId} {A : Nat → Nat → Nat} {mm : Nat → Nat} {b L i : Nat} {xs : Nat → Int32} (C : Cx X l D cy cL_law 4 wsL_law RL room_1) (hX : va_X b L xs (xS X) (xS X).heap) (hbl : b < (xS X).heap.size) (hbA : ¬ xA X b) (hL : L ≤ 448) (hi : i + 7 ≤ L) {σ : Sp} {u : XS} {v : MS} (hI : XI σ u) (hM : MI σ v) (next : ∀ (σ' : Sp) (u' : XS) (v' : MS), XI σ' u' → MI σ' v' → J X (wXu A cy u' ++ wMu mm cy v') 1139 [(0, .ref b), (1, .ref (A 3 0)), (2, .ref (mm 0)), (3, .int (nI i))] []) : J X (wXu A cy u ++ wMu mm cy v) 616 [(0, .ref b), (1, .ref (A 3 0)), (2, .ref (mm 0)), (3, .int (nI i))] [] := by
  refine j_aload_n C 1 dL_law_616 rfl rfl ?_
  refine j_aload_n C 0 dL_law_617 rfl rfl ?_
  refine j_iload_n C 3 dL_law_618 rfl rfl ?_
  refine j_iconst (v := nI 1) C dL_law_619 (by decide) ?_
  refine j_iadd (v := nI (i + 1)) C dL_law_620 (nI_add _ _) ?_
  refine j_sld C hX hbl hbA (by omega) (by omega) dL_law_621 ?_
  refine j_aload_n C 0 dL_law_622 rfl rfl ?_
  refine j_iload_n C 3 dL_law_623 rfl rfl ?_
  refine j_iconst (v := nI 2) C dL_law_624 (by decide) ?_
  refine j_iadd (v := nI (i + 2)) C dL_law_625 (nI_add _ _) ?_
  refine j_sld C hX hbl hbA (by omega) (by omega) dL_law_626 ?_
  refine j_aload_n C 0 dL_law_627 rfl rfl ?_
  refine j_iload_n C 3 dL_law_628 rfl rfl ?_
  refine j_iconst (v := nI 3) C dL_law_629 (by decide) ?_
  refine j_iadd (v := nI (i + 3)) C dL_law_630 (nI_add _ _) ?_
  refine j_sld C hX hbl hbA (by omega) (by omega) dL_law_631 ?_
  refine law_X (As := [.int (xs (i + 1)), .int (xs (i + 2)), .int (xs (i + 3))]) (rest := []) C (k_X7_reading A σ u hI (xs (i + 1)) (xs (i + 2)) (xs (i + 3))) gL_law_X7_reading rfl 3 rfl (by decide +kernel) (by decide) (Nat.le_of_ble_eq_true rfl) dL_law_632 rfl (fun u1 hu1 => ?_)
  show J X (wXu A cy u1 ++ wMu mm cy v) 635 [(0, .ref b), (1, .ref (A 3 0)), (2, .ref (mm 0)), (3, .int (nI i))] [.int (m_reading σ (xs (i + 1)) (xs (i + 2)) (xs (i + 3))).1]
  refine j_aload_n C 2 dL_law_635 rfl rfl ?_
  refine j_aload_n C 0 dL_law_636 rfl rfl ?_
  refine j_iload_n C 3 dL_law_637 rfl rfl ?_
  refine j_iconst (v := nI 1) C dL_law_638 (by decide) ?_
  refine j_iadd (v := nI (i + 1)) C dL_law_639 (nI_add _ _) ?_
  refine j_sld C hX hbl hbA (by omega) (by omega) dL_law_640 ?_
  refine j_aload_n C 0 dL_law_641 rfl rfl ?_
  refine j_iload_n C 3 dL_law_642 rfl rfl ?_
  refine j_iconst (v := nI 2) C dL_law_643 (by decide) ?_
  refine j_iadd (v := nI (i + 2)) C dL_law_644 (nI_add _ _) ?_
  refine j_sld C hX hbl hbA (by omega) (by omega) dL_law_645 ?_
  refine j_aload_n C 0 dL_law_646 rfl rfl ?_
  refine j_iload_n C 3 dL_law_647 rfl rfl ?_
  refine j_iconst (v := nI 3) C dL_law_648 (by decide) ?_
  refine j_iadd (v := nI (i + 3)) C dL_law_649 (nI_add _ _) ?_
  refine j_sld C hX hbl hbA (by omega) (by omega) dL_law_650 ?_
  refine law_M (As := [.int (xs (i + 1)), .int (xs (i + 2)), .int (xs (i + 3))]) (rest := [.int (m_reading σ (xs (i + 1)) (xs (i + 2)) (xs (i + 3))).1]) C (k_X8_reading mm σ v hM (xs (i + 1)) (xs (i + 2)) (xs (i + 3))) gL_law_X8_reading rfl 3 rfl (by decide +kernel) (by decide) (Nat.le_of_ble_eq_true rfl) dL_law_651 rfl (fun v1 hv1 => ?_)
  show J X (wXu A cy u1 ++ wMu mm cy v1) 654 [(0, .ref b), (1, .ref (A 3 0)), (2, .ref (mm 0)), (3, .int (nI i))] [.int (m_reading σ (xs (i + 1)) (xs (i + 2)) (xs (i + 3))).1, .int (m_reading σ (xs (i + 1)) (xs (i + 2)) (xs (i + 3))).1]
  refine j_icmp_eq (tgt := 1139) C dL_law_654 (by decide) (fun _ => ?_) (fun hne => absurd rfl hne)
  exact next _ u1 v1 hu1 hv1
set_option maxHeartbeats 1000000 in
theorem law_15 {X : Cxt} {l : Launch} {D : va_G} {cy : Nat → ClassId} {A : Nat → Nat → Nat} {mm : Nat → Nat} {b L i : Nat} {xs : Nat → Int32} (C : Cx X l D cy cL_law 4 wsL_law RL room_1) (hX : va_X b L xs (xS X) (xS X).heap) (hbl : b < (xS X).heap.size) (hbA : ¬ xA X b) (hL : L ≤ 448) (hi : i + 7 ≤ L) {σ : Sp} {u : XS} {v : MS} (hI : XI σ u) (hM : MI σ v) (next : ∀ (σ' : Sp) (u' : XS) (v' : MS), XI σ' u' → MI σ' v' → J X (wXu A cy u' ++ wMu mm cy v') 1139 [(0, .ref b), (1, .ref (A 3 0)), (2, .ref (mm 0)), (3, .int (nI i))] []) : J X (wXu A cy u ++ wMu mm cy v) 659 [(0, .ref b), (1, .ref (A 3 0)), (2, .ref (mm 0)), (3, .int (nI i))] [] := by
  refine j_aload_n C 1 dL_law_659 rfl rfl ?_
  refine j_aload_n C 0 dL_law_660 rfl rfl ?_
  refine j_iload_n C 3 dL_law_661 rfl rfl ?_
  refine j_iconst (v := nI 1) C dL_law_662 (by decide) ?_
  refine j_iadd (v := nI (i + 1)) C dL_law_663 (nI_add _ _) ?_
  refine j_sld C hX hbl hbA (by omega) (by omega) dL_law_664 ?_
  refine law_X (As := [.int (xs (i + 1))]) (rest := []) C (k_X7_back A σ u hI (xs (i + 1))) gL_law_X7_back rfl 1 rfl (by decide +kernel) (by decide) (Nat.le_of_ble_eq_true rfl) dL_law_665 rfl (fun u1 hu1 => ?_)
  show J X (wXu A cy u1 ++ wMu mm cy v) 668 [(0, .ref b), (1, .ref (A 3 0)), (2, .ref (mm 0)), (3, .int (nI i))] [.int (m_back σ (xs (i + 1))).1]
  refine j_aload_n C 2 dL_law_668 rfl rfl ?_
  refine j_aload_n C 0 dL_law_669 rfl rfl ?_
  refine j_iload_n C 3 dL_law_670 rfl rfl ?_
  refine j_iconst (v := nI 1) C dL_law_671 (by decide) ?_
  refine j_iadd (v := nI (i + 1)) C dL_law_672 (nI_add _ _) ?_
  refine j_sld C hX hbl hbA (by omega) (by omega) dL_law_673 ?_
  refine law_M (As := [.int (xs (i + 1))]) (rest := [.int (m_back σ (xs (i + 1))).1]) C (k_X8_back mm σ v hM (xs (i + 1))) gL_law_X8_back rfl 1 rfl (by decide +kernel) (by decide) (Nat.le_of_ble_eq_true rfl) dL_law_674 rfl (fun v1 hv1 => ?_)
  show J X (wXu A cy u1 ++ wMu mm cy v1) 677 [(0, .ref b), (1, .ref (A 3 0)), (2, .ref (mm 0)), (3, .int (nI i))] [.int (m_back σ (xs (i + 1))).1, .int (m_back σ (xs (i + 1))).1]
  refine j_icmp_eq (tgt := 1139) C dL_law_677 (by decide) (fun _ => ?_) (fun hne => absurd rfl hne)
  exact next _ u1 v1 hu1 hv1
set_option maxHeartbeats 1000000 in
theorem law_16 {X : Cxt} {l : Launch} {D : va_G} {cy : Nat → ClassId} {A : Nat → Nat → Nat} {mm : Nat → Nat} {b L i : Nat} {xs : Nat → Int32} (C : Cx X l D cy cL_law 4 wsL_law RL room_1) (hX : va_X b L xs (xS X) (xS X).heap) (hbl : b < (xS X).heap.size) (hbA : ¬ xA X b) (hL : L ≤ 448) (hi : i + 7 ≤ L) {σ : Sp} {u : XS} {v : MS} (hI : XI σ u) (hM : MI σ v) (next : ∀ (σ' : Sp) (u' : XS) (v' : MS), XI σ' u' → MI σ' v' → J X (wXu A cy u' ++ wMu mm cy v') 1139 [(0, .ref b), (1, .ref (A 3 0)), (2, .ref (mm 0)), (3, .int (nI i))] []) : J X (wXu A cy u ++ wMu mm cy v) 682 [(0, .ref b), (1, .ref (A 3 0)), (2, .ref (mm 0)), (3, .int (nI i))] [] := by
  refine j_aload_n C 1 dL_law_682 rfl rfl ?_
  refine j_aload_n C 0 dL_law_683 rfl rfl ?_
  refine j_iload_n C 3 dL_law_684 rfl rfl ?_
  refine j_iconst (v := nI 1) C dL_law_685 (by decide) ?_
  refine j_iadd (v := nI (i + 1)) C dL_law_686 (nI_add _ _) ?_
  refine j_sld C hX hbl hbA (by omega) (by omega) dL_law_687 ?_
  refine j_aload_n C 0 dL_law_688 rfl rfl ?_
  refine j_iload_n C 3 dL_law_689 rfl rfl ?_
  refine j_iconst (v := nI 2) C dL_law_690 (by decide) ?_
  refine j_iadd (v := nI (i + 2)) C dL_law_691 (nI_add _ _) ?_
  refine j_sld C hX hbl hbA (by omega) (by omega) dL_law_692 ?_
  refine law_X (As := [.int (xs (i + 1)), .int (xs (i + 2))]) (rest := []) C (k_X7_debts A σ u hI (xs (i + 1)) (xs (i + 2))) gL_law_X7_debts rfl 2 rfl (by decide +kernel) (by decide) (Nat.le_of_ble_eq_true rfl) dL_law_693 rfl (fun u1 hu1 => ?_)
  show J X (wXu A cy u1 ++ wMu mm cy v) 696 [(0, .ref b), (1, .ref (A 3 0)), (2, .ref (mm 0)), (3, .int (nI i))] [.int (m_debts σ (xs (i + 1)) (xs (i + 2))).1]
  refine j_aload_n C 2 dL_law_696 rfl rfl ?_
  refine j_aload_n C 0 dL_law_697 rfl rfl ?_
  refine j_iload_n C 3 dL_law_698 rfl rfl ?_
  refine j_iconst (v := nI 1) C dL_law_699 (by decide) ?_
  refine j_iadd (v := nI (i + 1)) C dL_law_700 (nI_add _ _) ?_
  refine j_sld C hX hbl hbA (by omega) (by omega) dL_law_701 ?_
  refine j_aload_n C 0 dL_law_702 rfl rfl ?_
  refine j_iload_n C 3 dL_law_703 rfl rfl ?_
  refine j_iconst (v := nI 2) C dL_law_704 (by decide) ?_
  refine j_iadd (v := nI (i + 2)) C dL_law_705 (nI_add _ _) ?_
  refine j_sld C hX hbl hbA (by omega) (by omega) dL_law_706 ?_
  refine law_M (As := [.int (xs (i + 1)), .int (xs (i + 2))]) (rest := [.int (m_debts σ (xs (i + 1)) (xs (i + 2))).1]) C (k_X8_debts mm σ v hM (xs (i + 1)) (xs (i + 2))) gL_law_X8_debts rfl 2 rfl (by decide +kernel) (by decide) (Nat.le_of_ble_eq_true rfl) dL_law_707 rfl (fun v1 hv1 => ?_)
  show J X (wXu A cy u1 ++ wMu mm cy v1) 710 [(0, .ref b), (1, .ref (A 3 0)), (2, .ref (mm 0)), (3, .int (nI i))] [.int (m_debts σ (xs (i + 1)) (xs (i + 2))).1, .int (m_debts σ (xs (i + 1)) (xs (i + 2))).1]
  refine j_icmp_eq (tgt := 1139) C dL_law_710 (by decide) (fun _ => ?_) (fun hne => absurd rfl hne)
  exact next _ u1 v1 hu1 hv1
set_option maxHeartbeats 1000000 in
theorem law_17 {X : Cxt} {l : Launch} {D : va_G} {cy : Nat → ClassId} {A : Nat → Nat → Nat} {mm : Nat → Nat} {b L i : Nat} {xs : Nat → Int32} (C : Cx X l D cy cL_law 4 wsL_law RL room_1) (hX : va_X b L xs (xS X) (xS X).heap) (hbl : b < (xS X).heap.size) (hbA : ¬ xA X b) (hL : L ≤ 448) (hi : i + 7 ≤ L) {σ : Sp} {u : XS} {v : MS} (hI : XI σ u) (hM : MI σ v) (next : ∀ (σ' : Sp) (u' : XS) (v' : MS), XI σ' u' → MI σ' v' → J X (wXu A cy u' ++ wMu mm cy v') 1139 [(0, .ref b), (1, .ref (A 3 0)), (2, .ref (mm 0)), (3, .int (nI i))] []) : J X (wXu A cy u ++ wMu mm cy v) 715 [(0, .ref b), (1, .ref (A 3 0)), (2, .ref (mm 0)), (3, .int (nI i))] [] := by
  refine j_aload_n C 1 dL_law_715 rfl rfl ?_
  refine j_aload_n C 0 dL_law_716 rfl rfl ?_
  refine j_iload_n C 3 dL_law_717 rfl rfl ?_
  refine j_iconst (v := nI 1) C dL_law_718 (by decide) ?_
  refine j_iadd (v := nI (i + 1)) C dL_law_719 (nI_add _ _) ?_
  refine j_sld C hX hbl hbA (by omega) (by omega) dL_law_720 ?_
  refine law_X (As := [.int (xs (i + 1))]) (rest := []) C (k_X7_kinds A σ u hI (xs (i + 1))) gL_law_X7_kinds rfl 1 rfl (by decide +kernel) (by decide) (Nat.le_of_ble_eq_true rfl) dL_law_721 rfl (fun u1 hu1 => ?_)
  show J X (wXu A cy u1 ++ wMu mm cy v) 724 [(0, .ref b), (1, .ref (A 3 0)), (2, .ref (mm 0)), (3, .int (nI i))] [.int (m_kinds σ (xs (i + 1))).1]
  refine j_aload_n C 2 dL_law_724 rfl rfl ?_
  refine j_aload_n C 0 dL_law_725 rfl rfl ?_
  refine j_iload_n C 3 dL_law_726 rfl rfl ?_
  refine j_iconst (v := nI 1) C dL_law_727 (by decide) ?_
  refine j_iadd (v := nI (i + 1)) C dL_law_728 (nI_add _ _) ?_
  refine j_sld C hX hbl hbA (by omega) (by omega) dL_law_729 ?_
  refine law_M (As := [.int (xs (i + 1))]) (rest := [.int (m_kinds σ (xs (i + 1))).1]) C (k_X8_kinds mm σ v hM (xs (i + 1))) gL_law_X8_kinds rfl 1 rfl (by decide +kernel) (by decide) (Nat.le_of_ble_eq_true rfl) dL_law_730 rfl (fun v1 hv1 => ?_)
  show J X (wXu A cy u1 ++ wMu mm cy v1) 733 [(0, .ref b), (1, .ref (A 3 0)), (2, .ref (mm 0)), (3, .int (nI i))] [.int (m_kinds σ (xs (i + 1))).1, .int (m_kinds σ (xs (i + 1))).1]
  refine j_icmp_eq (tgt := 1139) C dL_law_733 (by decide) (fun _ => ?_) (fun hne => absurd rfl hne)
  exact next _ u1 v1 hu1 hv1
set_option maxHeartbeats 1000000 in
theorem law_18 {X : Cxt} {l : Launch} {D : va_G} {cy : Nat → ClassId} {A : Nat → Nat → Nat} {mm : Nat → Nat} {b L i : Nat} {xs : Nat → Int32} (C : Cx X l D cy cL_law 4 wsL_law RL room_1) (hX : va_X b L xs (xS X) (xS X).heap) (hbl : b < (xS X).heap.size) (hbA : ¬ xA X b) (hL : L ≤ 448) (hi : i + 7 ≤ L) {σ : Sp} {u : XS} {v : MS} (hI : XI σ u) (hM : MI σ v) (next : ∀ (σ' : Sp) (u' : XS) (v' : MS), XI σ' u' → MI σ' v' → J X (wXu A cy u' ++ wMu mm cy v') 1139 [(0, .ref b), (1, .ref (A 3 0)), (2, .ref (mm 0)), (3, .int (nI i))] []) : J X (wXu A cy u ++ wMu mm cy v) 738 [(0, .ref b), (1, .ref (A 3 0)), (2, .ref (mm 0)), (3, .int (nI i))] [] := by
  refine j_aload_n C 1 dL_law_738 rfl rfl ?_
  refine law_X (As := []) (rest := []) C (k_X7_bells A σ u hI ) gL_law_X7_bells rfl 0 rfl (by decide +kernel) (by decide) (Nat.le_of_ble_eq_true rfl) dL_law_739 rfl (fun u1 hu1 => ?_)
  show J X (wXu A cy u1 ++ wMu mm cy v) 742 [(0, .ref b), (1, .ref (A 3 0)), (2, .ref (mm 0)), (3, .int (nI i))] [.int (m_bells σ ).1]
  refine j_aload_n C 2 dL_law_742 rfl rfl ?_
  refine law_M (As := []) (rest := [.int (m_bells σ ).1]) C (k_X8_bells mm σ v hM ) gL_law_X8_bells rfl 0 rfl (by decide +kernel) (by decide) (Nat.le_of_ble_eq_true rfl) dL_law_743 rfl (fun v1 hv1 => ?_)
  show J X (wXu A cy u1 ++ wMu mm cy v1) 746 [(0, .ref b), (1, .ref (A 3 0)), (2, .ref (mm 0)), (3, .int (nI i))] [.int (m_bells σ ).1, .int (m_bells σ ).1]
  refine j_icmp_eq (tgt := 1139) C dL_law_746 (by decide) (fun _ => ?_) (fun hne => absurd rfl hne)
  exact next _ u1 v1 hu1 hv1
set_option maxHeartbeats 1000000 in
theorem law_19 {X : Cxt} {l : Launch} {D : va_G} {cy : Nat → ClassId} {A : Nat → Nat → Nat} {mm : Nat → Nat} {b L i : Nat} {xs : Nat → Int32} (C : Cx X l D cy cL_law 4 wsL_law RL room_1) (hX : va_X b L xs (xS X) (xS X).heap) (hbl : b < (xS X).heap.size) (hbA : ¬ xA X b) (hL : L ≤ 448) (hi : i + 7 ≤ L) {σ : Sp} {u : XS} {v : MS} (hI : XI σ u) (hM : MI σ v) (next : ∀ (σ' : Sp) (u' : XS) (v' : MS), XI σ' u' → MI σ' v' → J X (wXu A cy u' ++ wMu mm cy v') 1139 [(0, .ref b), (1, .ref (A 3 0)), (2, .ref (mm 0)), (3, .int (nI i))] []) : J X (wXu A cy u ++ wMu mm cy v) 751 [(0, .ref b), (1, .ref (A 3 0)), (2, .ref (mm 0)), (3, .int (nI i))] [] := by
  refine j_aload_n C 1 dL_law_751 rfl rfl ?_
  refine j_aload_n C 0 dL_law_752 rfl rfl ?_
  refine j_iload_n C 3 dL_law_753 rfl rfl ?_
  refine j_iconst (v := nI 1) C dL_law_754 (by decide) ?_
  refine j_iadd (v := nI (i + 1)) C dL_law_755 (nI_add _ _) ?_
  refine j_sld C hX hbl hbA (by omega) (by omega) dL_law_756 ?_
  refine j_aload_n C 0 dL_law_757 rfl rfl ?_
  refine j_iload_n C 3 dL_law_758 rfl rfl ?_
  refine j_iconst (v := nI 2) C dL_law_759 (by decide) ?_
  refine j_iadd (v := nI (i + 2)) C dL_law_760 (nI_add _ _) ?_
  refine j_sld C hX hbl hbA (by omega) (by omega) dL_law_761 ?_
  refine j_aload_n C 0 dL_law_762 rfl rfl ?_
  refine j_iload_n C 3 dL_law_763 rfl rfl ?_
  refine j_iconst (v := nI 3) C dL_law_764 (by decide) ?_
  refine j_iadd (v := nI (i + 3)) C dL_law_765 (nI_add _ _) ?_
  refine j_sld C hX hbl hbA (by omega) (by omega) dL_law_766 ?_
  refine law_X (As := [.int (xs (i + 1)), .int (xs (i + 2)), .int (xs (i + 3))]) (rest := []) C (k_X7_odds A σ u hI (xs (i + 1)) (xs (i + 2)) (xs (i + 3))) gL_law_X7_odds rfl 3 rfl (by decide +kernel) (by decide) (Nat.le_of_ble_eq_true rfl) dL_law_767 rfl (fun u1 hu1 => ?_)
  show J X (wXu A cy u1 ++ wMu mm cy v) 770 [(0, .ref b), (1, .ref (A 3 0)), (2, .ref (mm 0)), (3, .int (nI i))] [.long (m_odds σ (xs (i + 1)) (xs (i + 2)) (xs (i + 3))).1]
  refine j_aload_n C 2 dL_law_770 rfl rfl ?_
  refine j_aload_n C 0 dL_law_771 rfl rfl ?_
  refine j_iload_n C 3 dL_law_772 rfl rfl ?_
  refine j_iconst (v := nI 1) C dL_law_773 (by decide) ?_
  refine j_iadd (v := nI (i + 1)) C dL_law_774 (nI_add _ _) ?_
  refine j_sld C hX hbl hbA (by omega) (by omega) dL_law_775 ?_
  refine j_aload_n C 0 dL_law_776 rfl rfl ?_
  refine j_iload_n C 3 dL_law_777 rfl rfl ?_
  refine j_iconst (v := nI 2) C dL_law_778 (by decide) ?_
  refine j_iadd (v := nI (i + 2)) C dL_law_779 (nI_add _ _) ?_
  refine j_sld C hX hbl hbA (by omega) (by omega) dL_law_780 ?_
  refine j_aload_n C 0 dL_law_781 rfl rfl ?_
  refine j_iload_n C 3 dL_law_782 rfl rfl ?_
  refine j_iconst (v := nI 3) C dL_law_783 (by decide) ?_
  refine j_iadd (v := nI (i + 3)) C dL_law_784 (nI_add _ _) ?_
  refine j_sld C hX hbl hbA (by omega) (by omega) dL_law_785 ?_
  refine law_M (As := [.int (xs (i + 1)), .int (xs (i + 2)), .int (xs (i + 3))]) (rest := [.long (m_odds σ (xs (i + 1)) (xs (i + 2)) (xs (i + 3))).1]) C (k_X8_odds mm σ v hM (xs (i + 1)) (xs (i + 2)) (xs (i + 3))) gL_law_X8_odds rfl 3 rfl (by decide +kernel) (by decide) (Nat.le_of_ble_eq_true rfl) dL_law_786 rfl (fun v1 hv1 => ?_)
  show J X (wXu A cy u1 ++ wMu mm cy v1) 789 [(0, .ref b), (1, .ref (A 3 0)), (2, .ref (mm 0)), (3, .int (nI i))] [.long (m_odds σ (xs (i + 1)) (xs (i + 2)) (xs (i + 3))).1, .long (m_odds σ (xs (i + 1)) (xs (i + 2)) (xs (i + 3))).1]
  refine j_lcmp (v := 0) C dL_law_789 (lc_self _) ?_
  refine j_if_eq (tgt := 1139) C dL_law_790 (by decide) (fun _ => ?_) (fun hne => absurd rfl hne)
  exact next _ u1 v1 hu1 hv1
set_option maxHeartbeats 1000000 in
theorem law_20 {X : Cxt} {l : Launch} {D : va_G} {cy : Nat → ClassId} {A : Nat → Nat → Nat} {mm : Nat → Nat} {b L i : Nat} {xs : Nat → Int32} (C : Cx X l D cy cL_law 4 wsL_law RL room_1) (hX : va_X b L xs (xS X) (xS X).heap) (hbl : b < (xS X).heap.size) (hbA : ¬ xA X b) (hL : L ≤ 448) (hi : i + 7 ≤ L) {σ : Sp} {u : XS} {v : MS} (hI : XI σ u) (hM : MI σ v) (next : ∀ (σ' : Sp) (u' : XS) (v' : MS), XI σ' u' → MI σ' v' → J X (wXu A cy u' ++ wMu mm cy v') 1139 [(0, .ref b), (1, .ref (A 3 0)), (2, .ref (mm 0)), (3, .int (nI i))] []) : J X (wXu A cy u ++ wMu mm cy v) 795 [(0, .ref b), (1, .ref (A 3 0)), (2, .ref (mm 0)), (3, .int (nI i))] [] := by
  refine j_aload_n C 1 dL_law_795 rfl rfl ?_
  refine j_aload_n C 0 dL_law_796 rfl rfl ?_
  refine j_iload_n C 3 dL_law_797 rfl rfl ?_
  refine j_iconst (v := nI 1) C dL_law_798 (by decide) ?_
  refine j_iadd (v := nI (i + 1)) C dL_law_799 (nI_add _ _) ?_
  refine j_sld C hX hbl hbA (by omega) (by omega) dL_law_800 ?_
  refine j_aload_n C 0 dL_law_801 rfl rfl ?_
  refine j_iload_n C 3 dL_law_802 rfl rfl ?_
  refine j_iconst (v := nI 2) C dL_law_803 (by decide) ?_
  refine j_iadd (v := nI (i + 2)) C dL_law_804 (nI_add _ _) ?_
  refine j_sld C hX hbl hbA (by omega) (by omega) dL_law_805 ?_
  refine j_aload_n C 0 dL_law_806 rfl rfl ?_
  refine j_iload_n C 3 dL_law_807 rfl rfl ?_
  refine j_iconst (v := nI 3) C dL_law_808 (by decide) ?_
  refine j_iadd (v := nI (i + 3)) C dL_law_809 (nI_add _ _) ?_
  refine j_sld C hX hbl hbA (by omega) (by omega) dL_law_810 ?_
  refine law_X (As := [.int (xs (i + 1)), .int (xs (i + 2)), .int (xs (i + 3))]) (rest := []) C (k_X7_sheet A σ u hI (xs (i + 1)) (xs (i + 2)) (xs (i + 3))) gL_law_X7_sheet rfl 3 rfl (by decide +kernel) (by decide) (Nat.le_of_ble_eq_true rfl) dL_law_811 rfl (fun u1 hu1 => ?_)
  show J X (wXu A cy u1 ++ wMu mm cy v) 814 [(0, .ref b), (1, .ref (A 3 0)), (2, .ref (mm 0)), (3, .int (nI i))] [.int (m_sheet σ (xs (i + 1)) (xs (i + 2)) (xs (i + 3))).1]
  refine j_aload_n C 2 dL_law_814 rfl rfl ?_
  refine j_aload_n C 0 dL_law_815 rfl rfl ?_
  refine j_iload_n C 3 dL_law_816 rfl rfl ?_
  refine j_iconst (v := nI 1) C dL_law_817 (by decide) ?_
  refine j_iadd (v := nI (i + 1)) C dL_law_818 (nI_add _ _) ?_
  refine j_sld C hX hbl hbA (by omega) (by omega) dL_law_819 ?_
  refine j_aload_n C 0 dL_law_820 rfl rfl ?_
  refine j_iload_n C 3 dL_law_821 rfl rfl ?_
  refine j_iconst (v := nI 2) C dL_law_822 (by decide) ?_
  refine j_iadd (v := nI (i + 2)) C dL_law_823 (nI_add _ _) ?_
  refine j_sld C hX hbl hbA (by omega) (by omega) dL_law_824 ?_
  refine j_aload_n C 0 dL_law_825 rfl rfl ?_
  refine j_iload_n C 3 dL_law_826 rfl rfl ?_
  refine j_iconst (v := nI 3) C dL_law_827 (by decide) ?_
  refine j_iadd (v := nI (i + 3)) C dL_law_828 (nI_add _ _) ?_
  refine j_sld C hX hbl hbA (by omega) (by omega) dL_law_829 ?_
  refine law_M (As := [.int (xs (i + 1)), .int (xs (i + 2)), .int (xs (i + 3))]) (rest := [.int (m_sheet σ (xs (i + 1)) (xs (i + 2)) (xs (i + 3))).1]) C (k_X8_sheet mm σ v hM (xs (i + 1)) (xs (i + 2)) (xs (i + 3))) gL_law_X8_sheet rfl 3 rfl (by decide +kernel) (by decide) (Nat.le_of_ble_eq_true rfl) dL_law_830 rfl (fun v1 hv1 => ?_)
  show J X (wXu A cy u1 ++ wMu mm cy v1) 833 [(0, .ref b), (1, .ref (A 3 0)), (2, .ref (mm 0)), (3, .int (nI i))] [.int (m_sheet σ (xs (i + 1)) (xs (i + 2)) (xs (i + 3))).1, .int (m_sheet σ (xs (i + 1)) (xs (i + 2)) (xs (i + 3))).1]
  refine j_icmp_eq (tgt := 1139) C dL_law_833 (by decide) (fun _ => ?_) (fun hne => absurd rfl hne)
  exact next _ u1 v1 hu1 hv1
set_option maxHeartbeats 1000000 in
theorem law_21 {X : Cxt} {l : Launch} {D : va_G} {cy : Nat → ClassId} {A : Nat → Nat → Nat} {mm : Nat → Nat} {b L i : Nat} {xs : Nat → Int32} (C : Cx X l D cy cL_law 4 wsL_law RL room_1) (hX : va_X b L xs (xS X) (xS X).heap) (hbl : b < (xS X).heap.size) (hbA : ¬ xA X b) (hL : L ≤ 448) (hi : i + 7 ≤ L) {σ : Sp} {u : XS} {v : MS} (hI : XI σ u) (hM : MI σ v) (next : ∀ (σ' : Sp) (u' : XS) (v' : MS), XI σ' u' → MI σ' v' → J X (wXu A cy u' ++ wMu mm cy v') 1139 [(0, .ref b), (1, .ref (A 3 0)), (2, .ref (mm 0)), (3, .int (nI i))] []) : J X (wXu A cy u ++ wMu mm cy v) 838 [(0, .ref b), (1, .ref (A 3 0)), (2, .ref (mm 0)), (3, .int (nI i))] [] := by
  refine j_aload_n C 1 dL_law_838 rfl rfl ?_
  refine j_aload_n C 0 dL_law_839 rfl rfl ?_
  refine j_iload_n C 3 dL_law_840 rfl rfl ?_
  refine j_iconst (v := nI 1) C dL_law_841 (by decide) ?_
  refine j_iadd (v := nI (i + 1)) C dL_law_842 (nI_add _ _) ?_
  refine j_sld C hX hbl hbA (by omega) (by omega) dL_law_843 ?_
  refine law_X (As := [.int (xs (i + 1))]) (rest := []) C (k_X7_lose A σ u hI (xs (i + 1))) gL_law_X7_lose rfl 1 rfl (by decide +kernel) (by decide) (Nat.le_of_ble_eq_true rfl) dL_law_844 rfl (fun u1 hu1 => ?_)
  show J X (wXu A cy u1 ++ wMu mm cy v) 847 [(0, .ref b), (1, .ref (A 3 0)), (2, .ref (mm 0)), (3, .int (nI i))] [.int (m_lose σ (xs (i + 1))).1]
  refine j_aload_n C 2 dL_law_847 rfl rfl ?_
  refine j_aload_n C 0 dL_law_848 rfl rfl ?_
  refine j_iload_n C 3 dL_law_849 rfl rfl ?_
  refine j_iconst (v := nI 1) C dL_law_850 (by decide) ?_
  refine j_iadd (v := nI (i + 1)) C dL_law_851 (nI_add _ _) ?_
  refine j_sld C hX hbl hbA (by omega) (by omega) dL_law_852 ?_
  refine law_M (As := [.int (xs (i + 1))]) (rest := [.int (m_lose σ (xs (i + 1))).1]) C (k_X8_lose mm σ v hM (xs (i + 1))) gL_law_X8_lose rfl 1 rfl (by decide +kernel) (by decide) (Nat.le_of_ble_eq_true rfl) dL_law_853 rfl (fun v1 hv1 => ?_)
  show J X (wXu A cy u1 ++ wMu mm cy v1) 856 [(0, .ref b), (1, .ref (A 3 0)), (2, .ref (mm 0)), (3, .int (nI i))] [.int (m_lose σ (xs (i + 1))).1, .int (m_lose σ (xs (i + 1))).1]
  refine j_icmp_eq (tgt := 1139) C dL_law_856 (by decide) (fun _ => ?_) (fun hne => absurd rfl hne)
  exact next _ u1 v1 hu1 hv1
set_option maxHeartbeats 1000000 in
theorem law_22 {X : Cxt} {l : Launch} {D : va_G} {cy : Nat → ClassId} {A : Nat → Nat → Nat} {mm : Nat → Nat} {b L i : Nat} {xs : Nat → Int32} (C : Cx X l D cy cL_law 4 wsL_law RL room_1) (hX : va_X b L xs (xS X) (xS X).heap) (hbl : b < (xS X).heap.size) (hbA : ¬ xA X b) (hL : L ≤ 448) (hi : i + 7 ≤ L) {σ : Sp} {u : XS} {v : MS} (hI : XI σ u) (hM : MI σ v) (next : ∀ (σ' : Sp) (u' : XS) (v' : MS), XI σ' u' → MI σ' v' → J X (wXu A cy u' ++ wMu mm cy v') 1139 [(0, .ref b), (1, .ref (A 3 0)), (2, .ref (mm 0)), (3, .int (nI i))] []) : J X (wXu A cy u ++ wMu mm cy v) 861 [(0, .ref b), (1, .ref (A 3 0)), (2, .ref (mm 0)), (3, .int (nI i))] [] := by
  refine j_aload_n C 1 dL_law_861 rfl rfl ?_
  refine j_aload_n C 0 dL_law_862 rfl rfl ?_
  refine j_iload_n C 3 dL_law_863 rfl rfl ?_
  refine j_iconst (v := nI 1) C dL_law_864 (by decide) ?_
  refine j_iadd (v := nI (i + 1)) C dL_law_865 (nI_add _ _) ?_
  refine j_sld C hX hbl hbA (by omega) (by omega) dL_law_866 ?_
  refine j_aload_n C 0 dL_law_867 rfl rfl ?_
  refine j_iload_n C 3 dL_law_868 rfl rfl ?_
  refine j_iconst (v := nI 2) C dL_law_869 (by decide) ?_
  refine j_iadd (v := nI (i + 2)) C dL_law_870 (nI_add _ _) ?_
  refine j_sld C hX hbl hbA (by omega) (by omega) dL_law_871 ?_
  refine j_aload_n C 0 dL_law_872 rfl rfl ?_
  refine j_iload_n C 3 dL_law_873 rfl rfl ?_
  refine j_iconst (v := nI 3) C dL_law_874 (by decide) ?_
  refine j_iadd (v := nI (i + 3)) C dL_law_875 (nI_add _ _) ?_
  refine j_sld C hX hbl hbA (by omega) (by omega) dL_law_876 ?_
  refine law_X (As := [.int (xs (i + 1)), .int (xs (i + 2)), .int (xs (i + 3))]) (rest := []) C (k_X7_put A σ u hI (xs (i + 1)) (xs (i + 2)) (xs (i + 3))) gL_law_X7_put rfl 3 rfl (by decide +kernel) (by decide) (Nat.le_of_ble_eq_true rfl) dL_law_877 rfl (fun u1 hu1 => ?_)
  show J X (wXu A cy u1 ++ wMu mm cy v) 880 [(0, .ref b), (1, .ref (A 3 0)), (2, .ref (mm 0)), (3, .int (nI i))] [.int (m_put σ (xs (i + 1)) (xs (i + 2)) (xs (i + 3))).1]
  refine j_aload_n C 2 dL_law_880 rfl rfl ?_
  refine j_aload_n C 0 dL_law_881 rfl rfl ?_
  refine j_iload_n C 3 dL_law_882 rfl rfl ?_
  refine j_iconst (v := nI 1) C dL_law_883 (by decide) ?_
  refine j_iadd (v := nI (i + 1)) C dL_law_884 (nI_add _ _) ?_
  refine j_sld C hX hbl hbA (by omega) (by omega) dL_law_885 ?_
  refine j_aload_n C 0 dL_law_886 rfl rfl ?_
  refine j_iload_n C 3 dL_law_887 rfl rfl ?_
  refine j_iconst (v := nI 2) C dL_law_888 (by decide) ?_
  refine j_iadd (v := nI (i + 2)) C dL_law_889 (nI_add _ _) ?_
  refine j_sld C hX hbl hbA (by omega) (by omega) dL_law_890 ?_
  refine j_aload_n C 0 dL_law_891 rfl rfl ?_
  refine j_iload_n C 3 dL_law_892 rfl rfl ?_
  refine j_iconst (v := nI 3) C dL_law_893 (by decide) ?_
  refine j_iadd (v := nI (i + 3)) C dL_law_894 (nI_add _ _) ?_
  refine j_sld C hX hbl hbA (by omega) (by omega) dL_law_895 ?_
  refine law_M (As := [.int (xs (i + 1)), .int (xs (i + 2)), .int (xs (i + 3))]) (rest := [.int (m_put σ (xs (i + 1)) (xs (i + 2)) (xs (i + 3))).1]) C (k_X8_put mm σ v hM (xs (i + 1)) (xs (i + 2)) (xs (i + 3))) gL_law_X8_put rfl 3 rfl (by decide +kernel) (by decide) (Nat.le_of_ble_eq_true rfl) dL_law_896 rfl (fun v1 hv1 => ?_)
  show J X (wXu A cy u1 ++ wMu mm cy v1) 899 [(0, .ref b), (1, .ref (A 3 0)), (2, .ref (mm 0)), (3, .int (nI i))] [.int (m_put σ (xs (i + 1)) (xs (i + 2)) (xs (i + 3))).1, .int (m_put σ (xs (i + 1)) (xs (i + 2)) (xs (i + 3))).1]
  refine j_icmp_eq (tgt := 1139) C dL_law_899 (by decide) (fun _ => ?_) (fun hne => absurd rfl hne)
  exact next _ u1 v1 hu1 hv1
set_option maxHeartbeats 1000000 in
theorem law_23 {X : Cxt} {l : Launch} {D : va_G} {cy : Nat → ClassId} {A : Nat → Nat → Nat} {mm : Nat → Nat} {b L i : Nat} {xs : Nat → Int32} (C : Cx X l D cy cL_law 4 wsL_law RL room_1) (hX : va_X b L xs (xS X) (xS X).heap) (hbl : b < (xS X).heap.size) (hbA : ¬ xA X b) (hL : L ≤ 448) (hi : i + 7 ≤ L) {σ : Sp} {u : XS} {v : MS} (hI : XI σ u) (hM : MI σ v) (next : ∀ (σ' : Sp) (u' : XS) (v' : MS), XI σ' u' → MI σ' v' → J X (wXu A cy u' ++ wMu mm cy v') 1139 [(0, .ref b), (1, .ref (A 3 0)), (2, .ref (mm 0)), (3, .int (nI i))] []) : J X (wXu A cy u ++ wMu mm cy v) 904 [(0, .ref b), (1, .ref (A 3 0)), (2, .ref (mm 0)), (3, .int (nI i))] [] := by
  refine j_aload_n C 1 dL_law_904 rfl rfl ?_
  refine j_aload_n C 0 dL_law_905 rfl rfl ?_
  refine j_iload_n C 3 dL_law_906 rfl rfl ?_
  refine j_iconst (v := nI 1) C dL_law_907 (by decide) ?_
  refine j_iadd (v := nI (i + 1)) C dL_law_908 (nI_add _ _) ?_
  refine j_sld C hX hbl hbA (by omega) (by omega) dL_law_909 ?_
  refine j_aload_n C 0 dL_law_910 rfl rfl ?_
  refine j_iload_n C 3 dL_law_911 rfl rfl ?_
  refine j_iconst (v := nI 2) C dL_law_912 (by decide) ?_
  refine j_iadd (v := nI (i + 2)) C dL_law_913 (nI_add _ _) ?_
  refine j_sld C hX hbl hbA (by omega) (by omega) dL_law_914 ?_
  refine j_aload_n C 0 dL_law_915 rfl rfl ?_
  refine j_iload_n C 3 dL_law_916 rfl rfl ?_
  refine j_iconst (v := nI 3) C dL_law_917 (by decide) ?_
  refine j_iadd (v := nI (i + 3)) C dL_law_918 (nI_add _ _) ?_
  refine j_sld C hX hbl hbA (by omega) (by omega) dL_law_919 ?_
  refine law_X (As := [.int (xs (i + 1)), .int (xs (i + 2)), .int (xs (i + 3))]) (rest := []) C (k_X7_cell A σ u hI (xs (i + 1)) (xs (i + 2)) (xs (i + 3))) gL_law_X7_cell rfl 3 rfl (by decide +kernel) (by decide) (Nat.le_of_ble_eq_true rfl) dL_law_920 rfl (fun u1 hu1 => ?_)
  show J X (wXu A cy u1 ++ wMu mm cy v) 923 [(0, .ref b), (1, .ref (A 3 0)), (2, .ref (mm 0)), (3, .int (nI i))] [.long (m_cell σ (xs (i + 1)) (xs (i + 2)) (xs (i + 3))).1]
  refine j_aload_n C 2 dL_law_923 rfl rfl ?_
  refine j_aload_n C 0 dL_law_924 rfl rfl ?_
  refine j_iload_n C 3 dL_law_925 rfl rfl ?_
  refine j_iconst (v := nI 1) C dL_law_926 (by decide) ?_
  refine j_iadd (v := nI (i + 1)) C dL_law_927 (nI_add _ _) ?_
  refine j_sld C hX hbl hbA (by omega) (by omega) dL_law_928 ?_
  refine j_aload_n C 0 dL_law_929 rfl rfl ?_
  refine j_iload_n C 3 dL_law_930 rfl rfl ?_
  refine j_iconst (v := nI 2) C dL_law_931 (by decide) ?_
  refine j_iadd (v := nI (i + 2)) C dL_law_932 (nI_add _ _) ?_
  refine j_sld C hX hbl hbA (by omega) (by omega) dL_law_933 ?_
  refine j_aload_n C 0 dL_law_934 rfl rfl ?_
  refine j_iload_n C 3 dL_law_935 rfl rfl ?_
  refine j_iconst (v := nI 3) C dL_law_936 (by decide) ?_
  refine j_iadd (v := nI (i + 3)) C dL_law_937 (nI_add _ _) ?_
  refine j_sld C hX hbl hbA (by omega) (by omega) dL_law_938 ?_
  refine law_M (As := [.int (xs (i + 1)), .int (xs (i + 2)), .int (xs (i + 3))]) (rest := [.long (m_cell σ (xs (i + 1)) (xs (i + 2)) (xs (i + 3))).1]) C (k_X8_cell mm σ v hM (xs (i + 1)) (xs (i + 2)) (xs (i + 3))) gL_law_X8_cell rfl 3 rfl (by decide +kernel) (by decide) (Nat.le_of_ble_eq_true rfl) dL_law_939 rfl (fun v1 hv1 => ?_)
  show J X (wXu A cy u1 ++ wMu mm cy v1) 942 [(0, .ref b), (1, .ref (A 3 0)), (2, .ref (mm 0)), (3, .int (nI i))] [.long (m_cell σ (xs (i + 1)) (xs (i + 2)) (xs (i + 3))).1, .long (m_cell σ (xs (i + 1)) (xs (i + 2)) (xs (i + 3))).1]
  refine j_lcmp (v := 0) C dL_law_942 (lc_self _) ?_
  refine j_if_eq (tgt := 1139) C dL_law_943 (by decide) (fun _ => ?_) (fun hne => absurd rfl hne)
  exact next _ u1 v1 hu1 hv1
set_option maxHeartbeats 1000000 in
theorem law_24 {X : Cxt} {l : Launch} {D : va_G} {cy : Nat → ClassId} {A : Nat → Nat → Nat} {mm : Nat → Nat} {b L i : Nat} {xs : Nat → Int32} (C : Cx X l D cy cL_law 4 wsL_law RL room_1) (hX : va_X b L xs (xS X) (xS X).heap) (hbl : b < (xS X).heap.size) (hbA : ¬ xA X b) (hL : L ≤ 448) (hi : i + 7 ≤ L) {σ : Sp} {u : XS} {v : MS} (hI : XI σ u) (hM : MI σ v) (next : ∀ (σ' : Sp) (u' : XS) (v' : MS), XI σ' u' → MI σ' v' → J X (wXu A cy u' ++ wMu mm cy v') 1139 [(0, .ref b), (1, .ref (A 3 0)), (2, .ref (mm 0)), (3, .int (nI i))] []) : J X (wXu A cy u ++ wMu mm cy v) 948 [(0, .ref b), (1, .ref (A 3 0)), (2, .ref (mm 0)), (3, .int (nI i))] [] := by
  refine j_aload_n C 1 dL_law_948 rfl rfl ?_
  refine j_aload_n C 0 dL_law_949 rfl rfl ?_
  refine j_iload_n C 3 dL_law_950 rfl rfl ?_
  refine j_iconst (v := nI 1) C dL_law_951 (by decide) ?_
  refine j_iadd (v := nI (i + 1)) C dL_law_952 (nI_add _ _) ?_
  refine j_sld C hX hbl hbA (by omega) (by omega) dL_law_953 ?_
  refine j_aload_n C 0 dL_law_954 rfl rfl ?_
  refine j_iload_n C 3 dL_law_955 rfl rfl ?_
  refine j_iconst (v := nI 2) C dL_law_956 (by decide) ?_
  refine j_iadd (v := nI (i + 2)) C dL_law_957 (nI_add _ _) ?_
  refine j_sld C hX hbl hbA (by omega) (by omega) dL_law_958 ?_
  refine j_aload_n C 0 dL_law_959 rfl rfl ?_
  refine j_iload_n C 3 dL_law_960 rfl rfl ?_
  refine j_iconst (v := nI 3) C dL_law_961 (by decide) ?_
  refine j_iadd (v := nI (i + 3)) C dL_law_962 (nI_add _ _) ?_
  refine j_sld C hX hbl hbA (by omega) (by omega) dL_law_963 ?_
  refine j_aload_n C 0 dL_law_964 rfl rfl ?_
  refine j_iload_n C 3 dL_law_965 rfl rfl ?_
  refine j_iconst (v := nI 4) C dL_law_966 (by decide) ?_
  refine j_iadd (v := nI (i + 4)) C dL_law_967 (nI_add _ _) ?_
  refine j_sld C hX hbl hbA (by omega) (by omega) dL_law_968 ?_
  refine j_aload_n C 0 dL_law_969 rfl rfl ?_
  refine j_iload_n C 3 dL_law_970 rfl rfl ?_
  refine j_iconst (v := nI 5) C dL_law_971 (by decide) ?_
  refine j_iadd (v := nI (i + 5)) C dL_law_972 (nI_add _ _) ?_
  refine j_sld C hX hbl hbA (by omega) (by omega) dL_law_973 ?_
  refine law_X (As := [.int (xs (i + 1)), .int (xs (i + 2)), .int (xs (i + 3)), .int (xs (i + 4)), .int (xs (i + 5))]) (rest := []) C (k_X7_copy A σ u hI (xs (i + 1)) (xs (i + 2)) (xs (i + 3)) (xs (i + 4)) (xs (i + 5))) gL_law_X7_copy rfl 5 rfl (by decide +kernel) (by decide) (Nat.le_of_ble_eq_true rfl) dL_law_974 rfl (fun u1 hu1 => ?_)
  show J X (wXu A cy u1 ++ wMu mm cy v) 977 [(0, .ref b), (1, .ref (A 3 0)), (2, .ref (mm 0)), (3, .int (nI i))] [.int (m_copy σ (xs (i + 1)) (xs (i + 2)) (xs (i + 3)) (xs (i + 4)) (xs (i + 5))).1]
  refine j_aload_n C 2 dL_law_977 rfl rfl ?_
  refine j_aload_n C 0 dL_law_978 rfl rfl ?_
  refine j_iload_n C 3 dL_law_979 rfl rfl ?_
  refine j_iconst (v := nI 1) C dL_law_980 (by decide) ?_
  refine j_iadd (v := nI (i + 1)) C dL_law_981 (nI_add _ _) ?_
  refine j_sld C hX hbl hbA (by omega) (by omega) dL_law_982 ?_
  refine j_aload_n C 0 dL_law_983 rfl rfl ?_
  refine j_iload_n C 3 dL_law_984 rfl rfl ?_
  refine j_iconst (v := nI 2) C dL_law_985 (by decide) ?_
  refine j_iadd (v := nI (i + 2)) C dL_law_986 (nI_add _ _) ?_
  refine j_sld C hX hbl hbA (by omega) (by omega) dL_law_987 ?_
  refine j_aload_n C 0 dL_law_988 rfl rfl ?_
  refine j_iload_n C 3 dL_law_989 rfl rfl ?_
  refine j_iconst (v := nI 3) C dL_law_990 (by decide) ?_
  refine j_iadd (v := nI (i + 3)) C dL_law_991 (nI_add _ _) ?_
  refine j_sld C hX hbl hbA (by omega) (by omega) dL_law_992 ?_
  refine j_aload_n C 0 dL_law_993 rfl rfl ?_
  refine j_iload_n C 3 dL_law_994 rfl rfl ?_
  refine j_iconst (v := nI 4) C dL_law_995 (by decide) ?_
  refine j_iadd (v := nI (i + 4)) C dL_law_996 (nI_add _ _) ?_
  refine j_sld C hX hbl hbA (by omega) (by omega) dL_law_997 ?_
  refine j_aload_n C 0 dL_law_998 rfl rfl ?_
  refine j_iload_n C 3 dL_law_999 rfl rfl ?_
  refine j_iconst (v := nI 5) C dL_law_1000 (by decide) ?_
  refine j_iadd (v := nI (i + 5)) C dL_law_1001 (nI_add _ _) ?_
  refine j_sld C hX hbl hbA (by omega) (by omega) dL_law_1002 ?_
  refine law_M (As := [.int (xs (i + 1)), .int (xs (i + 2)), .int (xs (i + 3)), .int (xs (i + 4)), .int (xs (i + 5))]) (rest := [.int (m_copy σ (xs (i + 1)) (xs (i + 2)) (xs (i + 3)) (xs (i + 4)) (xs (i + 5))).1]) C (k_X8_copy mm σ v hM (xs (i + 1)) (xs (i + 2)) (xs (i + 3)) (xs (i + 4)) (xs (i + 5))) gL_law_X8_copy rfl 5 rfl (by decide +kernel) (by decide) (Nat.le_of_ble_eq_true rfl) dL_law_1003 rfl (fun v1 hv1 => ?_)
  show J X (wXu A cy u1 ++ wMu mm cy v1) 1006 [(0, .ref b), (1, .ref (A 3 0)), (2, .ref (mm 0)), (3, .int (nI i))] [.int (m_copy σ (xs (i + 1)) (xs (i + 2)) (xs (i + 3)) (xs (i + 4)) (xs (i + 5))).1, .int (m_copy σ (xs (i + 1)) (xs (i + 2)) (xs (i + 3)) (xs (i + 4)) (xs (i + 5))).1]
  refine j_icmp_eq (tgt := 1139) C dL_law_1006 (by decide) (fun _ => ?_) (fun hne => absurd rfl hne)
  exact next _ u1 v1 hu1 hv1
set_option maxHeartbeats 1000000 in
theorem law_25 {X : Cxt} {l : Launch} {D : va_G} {cy : Nat → ClassId} {A : Nat → Nat → Nat} {mm : Nat → Nat} {b L i : Nat} {xs : Nat → Int32} (C : Cx X l D cy cL_law 4 wsL_law RL room_1) (hX : va_X b L xs (xS X) (xS X).heap) (hbl : b < (xS X).heap.size) (hbA : ¬ xA X b) (hL : L ≤ 448) (hi : i + 7 ≤ L) {σ : Sp} {u : XS} {v : MS} (hI : XI σ u) (hM : MI σ v) (next : ∀ (σ' : Sp) (u' : XS) (v' : MS), XI σ' u' → MI σ' v' → J X (wXu A cy u' ++ wMu mm cy v') 1139 [(0, .ref b), (1, .ref (A 3 0)), (2, .ref (mm 0)), (3, .int (nI i))] []) : J X (wXu A cy u ++ wMu mm cy v) 1011 [(0, .ref b), (1, .ref (A 3 0)), (2, .ref (mm 0)), (3, .int (nI i))] [] := by
  refine j_aload_n C 1 dL_law_1011 rfl rfl ?_
  refine j_aload_n C 0 dL_law_1012 rfl rfl ?_
  refine j_iload_n C 3 dL_law_1013 rfl rfl ?_
  refine j_iconst (v := nI 1) C dL_law_1014 (by decide) ?_
  refine j_iadd (v := nI (i + 1)) C dL_law_1015 (nI_add _ _) ?_
  refine j_sld C hX hbl hbA (by omega) (by omega) dL_law_1016 ?_
  refine law_X (As := [.int (xs (i + 1))]) (rest := []) C (k_X7_tell A σ u hI (xs (i + 1))) gL_law_X7_tell rfl 1 rfl (by decide +kernel) (by decide) (Nat.le_of_ble_eq_true rfl) dL_law_1017 rfl (fun u1 hu1 => ?_)
  show J X (wXu A cy u1 ++ wMu mm cy v) 1020 [(0, .ref b), (1, .ref (A 3 0)), (2, .ref (mm 0)), (3, .int (nI i))] [.int (m_tell σ (xs (i + 1))).1]
  refine j_aload_n C 2 dL_law_1020 rfl rfl ?_
  refine j_aload_n C 0 dL_law_1021 rfl rfl ?_
  refine j_iload_n C 3 dL_law_1022 rfl rfl ?_
  refine j_iconst (v := nI 1) C dL_law_1023 (by decide) ?_
  refine j_iadd (v := nI (i + 1)) C dL_law_1024 (nI_add _ _) ?_
  refine j_sld C hX hbl hbA (by omega) (by omega) dL_law_1025 ?_
  refine law_M (As := [.int (xs (i + 1))]) (rest := [.int (m_tell σ (xs (i + 1))).1]) C (k_X8_tell mm σ v hM (xs (i + 1))) gL_law_X8_tell rfl 1 rfl (by decide +kernel) (by decide) (Nat.le_of_ble_eq_true rfl) dL_law_1026 rfl (fun v1 hv1 => ?_)
  show J X (wXu A cy u1 ++ wMu mm cy v1) 1029 [(0, .ref b), (1, .ref (A 3 0)), (2, .ref (mm 0)), (3, .int (nI i))] [.int (m_tell σ (xs (i + 1))).1, .int (m_tell σ (xs (i + 1))).1]
  refine j_icmp_eq (tgt := 1139) C dL_law_1029 (by decide) (fun _ => ?_) (fun hne => absurd rfl hne)
  exact next _ u1 v1 hu1 hv1
set_option maxHeartbeats 1000000 in
theorem law_26 {X : Cxt} {l : Launch} {D : va_G} {cy : Nat → ClassId} {A : Nat → Nat → Nat} {mm : Nat → Nat} {b L i : Nat} {xs : Nat → Int32} (C : Cx X l D cy cL_law 4 wsL_law RL room_1) (hX : va_X b L xs (xS X) (xS X).heap) (hbl : b < (xS X).heap.size) (hbA : ¬ xA X b) (hL : L ≤ 448) (hi : i + 7 ≤ L) {σ : Sp} {u : XS} {v : MS} (hI : XI σ u) (hM : MI σ v) (next : ∀ (σ' : Sp) (u' : XS) (v' : MS), XI σ' u' → MI σ' v' → J X (wXu A cy u' ++ wMu mm cy v') 1139 [(0, .ref b), (1, .ref (A 3 0)), (2, .ref (mm 0)), (3, .int (nI i))] []) : J X (wXu A cy u ++ wMu mm cy v) 1034 [(0, .ref b), (1, .ref (A 3 0)), (2, .ref (mm 0)), (3, .int (nI i))] [] := by
  refine j_aload_n C 1 dL_law_1034 rfl rfl ?_
  refine j_aload_n C 0 dL_law_1035 rfl rfl ?_
  refine j_iload_n C 3 dL_law_1036 rfl rfl ?_
  refine j_iconst (v := nI 1) C dL_law_1037 (by decide) ?_
  refine j_iadd (v := nI (i + 1)) C dL_law_1038 (nI_add _ _) ?_
  refine j_sld C hX hbl hbA (by omega) (by omega) dL_law_1039 ?_
  refine law_X (As := [.int (xs (i + 1))]) (rest := []) C (k_X7_hail A σ u hI (xs (i + 1))) gL_law_X7_hail rfl 1 rfl (by decide +kernel) (by decide) (Nat.le_of_ble_eq_true rfl) dL_law_1040 rfl (fun u1 hu1 => ?_)
  show J X (wXu A cy u1 ++ wMu mm cy v) 1043 [(0, .ref b), (1, .ref (A 3 0)), (2, .ref (mm 0)), (3, .int (nI i))] [.int (m_hail σ (xs (i + 1))).1]
  refine j_aload_n C 2 dL_law_1043 rfl rfl ?_
  refine j_aload_n C 0 dL_law_1044 rfl rfl ?_
  refine j_iload_n C 3 dL_law_1045 rfl rfl ?_
  refine j_iconst (v := nI 1) C dL_law_1046 (by decide) ?_
  refine j_iadd (v := nI (i + 1)) C dL_law_1047 (nI_add _ _) ?_
  refine j_sld C hX hbl hbA (by omega) (by omega) dL_law_1048 ?_
  refine law_M (As := [.int (xs (i + 1))]) (rest := [.int (m_hail σ (xs (i + 1))).1]) C (k_X8_hail mm σ v hM (xs (i + 1))) gL_law_X8_hail rfl 1 rfl (by decide +kernel) (by decide) (Nat.le_of_ble_eq_true rfl) dL_law_1049 rfl (fun v1 hv1 => ?_)
  show J X (wXu A cy u1 ++ wMu mm cy v1) 1052 [(0, .ref b), (1, .ref (A 3 0)), (2, .ref (mm 0)), (3, .int (nI i))] [.int (m_hail σ (xs (i + 1))).1, .int (m_hail σ (xs (i + 1))).1]
  refine j_icmp_eq (tgt := 1139) C dL_law_1052 (by decide) (fun _ => ?_) (fun hne => absurd rfl hne)
  exact next _ u1 v1 hu1 hv1
set_option maxHeartbeats 1000000 in
theorem law_27 {X : Cxt} {l : Launch} {D : va_G} {cy : Nat → ClassId} {A : Nat → Nat → Nat} {mm : Nat → Nat} {b L i : Nat} {xs : Nat → Int32} (C : Cx X l D cy cL_law 4 wsL_law RL room_1) (hX : va_X b L xs (xS X) (xS X).heap) (hbl : b < (xS X).heap.size) (hbA : ¬ xA X b) (hL : L ≤ 448) (hi : i + 7 ≤ L) {σ : Sp} {u : XS} {v : MS} (hI : XI σ u) (hM : MI σ v) (next : ∀ (σ' : Sp) (u' : XS) (v' : MS), XI σ' u' → MI σ' v' → J X (wXu A cy u' ++ wMu mm cy v') 1139 [(0, .ref b), (1, .ref (A 3 0)), (2, .ref (mm 0)), (3, .int (nI i))] []) : J X (wXu A cy u ++ wMu mm cy v) 1057 [(0, .ref b), (1, .ref (A 3 0)), (2, .ref (mm 0)), (3, .int (nI i))] [] := by
  refine j_aload_n C 1 dL_law_1057 rfl rfl ?_
  refine j_aload_n C 0 dL_law_1058 rfl rfl ?_
  refine j_iload_n C 3 dL_law_1059 rfl rfl ?_
  refine j_iconst (v := nI 1) C dL_law_1060 (by decide) ?_
  refine j_iadd (v := nI (i + 1)) C dL_law_1061 (nI_add _ _) ?_
  refine j_sld C hX hbl hbA (by omega) (by omega) dL_law_1062 ?_
  refine j_aload_n C 0 dL_law_1063 rfl rfl ?_
  refine j_iload_n C 3 dL_law_1064 rfl rfl ?_
  refine j_iconst (v := nI 2) C dL_law_1065 (by decide) ?_
  refine j_iadd (v := nI (i + 2)) C dL_law_1066 (nI_add _ _) ?_
  refine j_sld C hX hbl hbA (by omega) (by omega) dL_law_1067 ?_
  refine law_X (As := [.int (xs (i + 1)), .int (xs (i + 2))]) (rest := []) C (k_X7_as A σ u hI (xs (i + 1)) (xs (i + 2))) gL_law_X7_as rfl 2 rfl (by decide +kernel) (by decide) (Nat.le_of_ble_eq_true rfl) dL_law_1068 rfl (fun u1 hu1 => ?_)
  show J X (wXu A cy u1 ++ wMu mm cy v) 1071 [(0, .ref b), (1, .ref (A 3 0)), (2, .ref (mm 0)), (3, .int (nI i))] [.int (m_as σ (xs (i + 1)) (xs (i + 2))).1]
  refine j_aload_n C 2 dL_law_1071 rfl rfl ?_
  refine j_aload_n C 0 dL_law_1072 rfl rfl ?_
  refine j_iload_n C 3 dL_law_1073 rfl rfl ?_
  refine j_iconst (v := nI 1) C dL_law_1074 (by decide) ?_
  refine j_iadd (v := nI (i + 1)) C dL_law_1075 (nI_add _ _) ?_
  refine j_sld C hX hbl hbA (by omega) (by omega) dL_law_1076 ?_
  refine j_aload_n C 0 dL_law_1077 rfl rfl ?_
  refine j_iload_n C 3 dL_law_1078 rfl rfl ?_
  refine j_iconst (v := nI 2) C dL_law_1079 (by decide) ?_
  refine j_iadd (v := nI (i + 2)) C dL_law_1080 (nI_add _ _) ?_
  refine j_sld C hX hbl hbA (by omega) (by omega) dL_law_1081 ?_
  refine law_M (As := [.int (xs (i + 1)), .int (xs (i + 2))]) (rest := [.int (m_as σ (xs (i + 1)) (xs (i + 2))).1]) C (k_X8_as mm σ v hM (xs (i + 1)) (xs (i + 2))) gL_law_X8_as rfl 2 rfl (by decide +kernel) (by decide) (Nat.le_of_ble_eq_true rfl) dL_law_1082 rfl (fun v1 hv1 => ?_)
  show J X (wXu A cy u1 ++ wMu mm cy v1) 1085 [(0, .ref b), (1, .ref (A 3 0)), (2, .ref (mm 0)), (3, .int (nI i))] [.int (m_as σ (xs (i + 1)) (xs (i + 2))).1, .int (m_as σ (xs (i + 1)) (xs (i + 2))).1]
  refine j_icmp_eq (tgt := 1139) C dL_law_1085 (by decide) (fun _ => ?_) (fun hne => absurd rfl hne)
  exact next _ u1 v1 hu1 hv1
set_option maxHeartbeats 1000000 in
theorem law_28 {X : Cxt} {l : Launch} {D : va_G} {cy : Nat → ClassId} {A : Nat → Nat → Nat} {mm : Nat → Nat} {b L i : Nat} {xs : Nat → Int32} (C : Cx X l D cy cL_law 4 wsL_law RL room_1) (hX : va_X b L xs (xS X) (xS X).heap) (hbl : b < (xS X).heap.size) (hbA : ¬ xA X b) (hL : L ≤ 448) (hi : i + 7 ≤ L) {σ : Sp} {u : XS} {v : MS} (hI : XI σ u) (hM : MI σ v) (next : ∀ (σ' : Sp) (u' : XS) (v' : MS), XI σ' u' → MI σ' v' → J X (wXu A cy u' ++ wMu mm cy v') 1139 [(0, .ref b), (1, .ref (A 3 0)), (2, .ref (mm 0)), (3, .int (nI i))] []) : J X (wXu A cy u ++ wMu mm cy v) 1090 [(0, .ref b), (1, .ref (A 3 0)), (2, .ref (mm 0)), (3, .int (nI i))] [] := by
  refine j_aload_n C 1 dL_law_1090 rfl rfl ?_
  refine law_X (As := []) (rest := []) C (k_X7_trace A σ u hI ) gL_law_X7_trace rfl 0 rfl (by decide +kernel) (by decide) (Nat.le_of_ble_eq_true rfl) dL_law_1091 rfl (fun u1 hu1 => ?_)
  show J X (wXu A cy u1 ++ wMu mm cy v) 1094 [(0, .ref b), (1, .ref (A 3 0)), (2, .ref (mm 0)), (3, .int (nI i))] [.int (m_trace σ ).1]
  refine j_aload_n C 2 dL_law_1094 rfl rfl ?_
  refine law_M (As := []) (rest := [.int (m_trace σ ).1]) C (k_X8_trace mm σ v hM ) gL_law_X8_trace rfl 0 rfl (by decide +kernel) (by decide) (Nat.le_of_ble_eq_true rfl) dL_law_1095 rfl (fun v1 hv1 => ?_)
  show J X (wXu A cy u1 ++ wMu mm cy v1) 1098 [(0, .ref b), (1, .ref (A 3 0)), (2, .ref (mm 0)), (3, .int (nI i))] [.int (m_trace σ ).1, .int (m_trace σ ).1]
  refine j_icmp_eq (tgt := 1139) C dL_law_1098 (by decide) (fun _ => ?_) (fun hne => absurd rfl hne)
  exact next _ u1 v1 hu1 hv1
set_option maxHeartbeats 1000000 in
theorem law_29 {X : Cxt} {l : Launch} {D : va_G} {cy : Nat → ClassId} {A : Nat → Nat → Nat} {mm : Nat → Nat} {b L i : Nat} {xs : Nat → Int32} (C : Cx X l D cy cL_law 4 wsL_law RL room_1) (hX : va_X b L xs (xS X) (xS X).heap) (hbl : b < (xS X).heap.size) (hbA : ¬ xA X b) (hL : L ≤ 448) (hi : i + 7 ≤ L) {σ : Sp} {u : XS} {v : MS} (hI : XI σ u) (hM : MI σ v) (next : ∀ (σ' : Sp) (u' : XS) (v' : MS), XI σ' u' → MI σ' v' → J X (wXu A cy u' ++ wMu mm cy v') 1139 [(0, .ref b), (1, .ref (A 3 0)), (2, .ref (mm 0)), (3, .int (nI i))] []) : J X (wXu A cy u ++ wMu mm cy v) 1103 [(0, .ref b), (1, .ref (A 3 0)), (2, .ref (mm 0)), (3, .int (nI i))] [] := by
  refine j_aload_n C 1 dL_law_1103 rfl rfl ?_
  refine law_X (As := []) (rest := []) C (k_X7_fault A σ u hI ) gL_law_X7_fault rfl 0 rfl (by decide +kernel) (by decide) (Nat.le_of_ble_eq_true rfl) dL_law_1104 rfl (fun u1 hu1 => ?_)
  show J X (wXu A cy u1 ++ wMu mm cy v) 1107 [(0, .ref b), (1, .ref (A 3 0)), (2, .ref (mm 0)), (3, .int (nI i))] [.int (m_fault σ ).1]
  refine j_aload_n C 2 dL_law_1107 rfl rfl ?_
  refine law_M (As := []) (rest := [.int (m_fault σ ).1]) C (k_X8_fault mm σ v hM ) gL_law_X8_fault rfl 0 rfl (by decide +kernel) (by decide) (Nat.le_of_ble_eq_true rfl) dL_law_1108 rfl (fun v1 hv1 => ?_)
  show J X (wXu A cy u1 ++ wMu mm cy v1) 1111 [(0, .ref b), (1, .ref (A 3 0)), (2, .ref (mm 0)), (3, .int (nI i))] [.int (m_fault σ ).1, .int (m_fault σ ).1]
  refine j_icmp_eq (tgt := 1139) C dL_law_1111 (by decide) (fun _ => ?_) (fun hne => absurd rfl hne)
  exact next _ u1 v1 hu1 hv1
set_option maxHeartbeats 1000000 in
theorem law_30 {X : Cxt} {l : Launch} {D : va_G} {cy : Nat → ClassId} {A : Nat → Nat → Nat} {mm : Nat → Nat} {b L i : Nat} {xs : Nat → Int32} (C : Cx X l D cy cL_law 4 wsL_law RL room_1) (hX : va_X b L xs (xS X) (xS X).heap) (hbl : b < (xS X).heap.size) (hbA : ¬ xA X b) (hL : L ≤ 448) (hi : i + 7 ≤ L) {σ : Sp} {u : XS} {v : MS} (hI : XI σ u) (hM : MI σ v) (next : ∀ (σ' : Sp) (u' : XS) (v' : MS), XI σ' u' → MI σ' v' → J X (wXu A cy u' ++ wMu mm cy v') 1139 [(0, .ref b), (1, .ref (A 3 0)), (2, .ref (mm 0)), (3, .int (nI i))] []) : J X (wXu A cy u ++ wMu mm cy v) 1116 [(0, .ref b), (1, .ref (A 3 0)), (2, .ref (mm 0)), (3, .int (nI i))] [] := by
  refine j_aload_n C 1 dL_law_1116 rfl rfl ?_
  refine j_aload_n C 0 dL_law_1117 rfl rfl ?_
  refine j_iload_n C 3 dL_law_1118 rfl rfl ?_
  refine j_iconst (v := nI 1) C dL_law_1119 (by decide) ?_
  refine j_iadd (v := nI (i + 1)) C dL_law_1120 (nI_add _ _) ?_
  refine j_sld C hX hbl hbA (by omega) (by omega) dL_law_1121 ?_
  refine law_X (As := [.int (xs (i + 1))]) (rest := []) C (k_X7_many A σ u hI (xs (i + 1))) gL_law_X7_many rfl 1 rfl (by decide +kernel) (by decide) (Nat.le_of_ble_eq_true rfl) dL_law_1122 rfl (fun u1 hu1 => ?_)
  show J X (wXu A cy u1 ++ wMu mm cy v) 1125 [(0, .ref b), (1, .ref (A 3 0)), (2, .ref (mm 0)), (3, .int (nI i))] [.int (m_many σ (xs (i + 1))).1]
  refine j_aload_n C 2 dL_law_1125 rfl rfl ?_
  refine j_aload_n C 0 dL_law_1126 rfl rfl ?_
  refine j_iload_n C 3 dL_law_1127 rfl rfl ?_
  refine j_iconst (v := nI 1) C dL_law_1128 (by decide) ?_
  refine j_iadd (v := nI (i + 1)) C dL_law_1129 (nI_add _ _) ?_
  refine j_sld C hX hbl hbA (by omega) (by omega) dL_law_1130 ?_
  refine law_M (As := [.int (xs (i + 1))]) (rest := [.int (m_many σ (xs (i + 1))).1]) C (k_X8_many mm σ v hM (xs (i + 1))) gL_law_X8_many rfl 1 rfl (by decide +kernel) (by decide) (Nat.le_of_ble_eq_true rfl) dL_law_1131 rfl (fun v1 hv1 => ?_)
  show J X (wXu A cy u1 ++ wMu mm cy v1) 1134 [(0, .ref b), (1, .ref (A 3 0)), (2, .ref (mm 0)), (3, .int (nI i))] [.int (m_many σ (xs (i + 1))).1, .int (m_many σ (xs (i + 1))).1]
  refine j_icmp_eq (tgt := 1139) C dL_law_1134 (by decide) (fun _ => ?_) (fun hne => absurd rfl hne)
  exact next _ u1 v1 hu1 hv1
