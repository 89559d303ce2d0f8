section NZL
variable {y : nz_Y} {g : nz_G} {k n : Nat} {ws ws' : va_W} {pc : Nat} {ls : List (Nat × Value)} {st rest : List Value} {cc : ByteArray} {nL : Nat} {Ts : List Cond} {own : String} {ret : Option FieldType} {rm : Room}
end NZL
set_option maxHeartbeats 4000000 in
set_option maxRecDepth 100000 in
theorem lc_row {ret : Option FieldType} {y : nz_Y} {g : nz_G} (F : nz_F y g cL_law 4 wsL_law RL ret room_1) {b L : Nat} {xs : Nat → Int32} (hX : va_X b L xs (yz_s y) (yz_s y).heap) (hbl : b < (yz_s y).heap.size) (hbA : ¬ yz_A y b) {a c : Nat → Nat} {X M : Nat → Nat → Int32} (hR : nz_Rel X M) {x3 : Int32} (hin : ∀ j : Int32, 0 ≤ j → j ≤ 5 → vp_in (x3 + j) L) (back : ∀ X' M', nz_Rel X' M' → nz_V y g 76 2804 (nz_wX g a X' ++ nz_wM g c M') 1038 [(3, .int x3), (2, .ref (c 0)), (1, .ref (a 0)), (0, .ref b)] []) : nz_V y g 76 2804 (nz_wX g a X ++ nz_wM g c M) 168 [(3, .int x3), (2, .ref (c 0)), (1, .ref (a 0)), (0, .ref b)] [] := by
  refine nz_aload_n F dL_law_168 rfl 2 rfl ?_
  refine nz_aload_n F dL_law_169 rfl 3 rfl ?_
  refine nz_iload_n F dL_law_170 rfl 0 rfl ?_
  refine nz_iconst (v := 1) F dL_law_171 (by decide) ?_
  refine nz_iadd F dL_law_172 ?_
  refine nz_sld F hX hbl hbA (hin 1 (by decide) (by decide)) dL_law_173 ?_
  refine nz_aload_n F dL_law_174 rfl 3 rfl ?_
  refine nz_iload_n F dL_law_175 rfl 0 rfl ?_
  refine nz_iconst (v := 2) F dL_law_176 (by decide) ?_
  refine nz_iadd F dL_law_177 ?_
  refine nz_sld F hX hbl hbA (hin 2 (by decide) (by decide)) dL_law_178 ?_
  refine nz_aload_n F dL_law_179 rfl 3 rfl ?_
  refine nz_iload_n F dL_law_180 rfl 0 rfl ?_
  refine nz_iconst (v := 3) F dL_law_181 (by decide) ?_
  refine nz_iadd F dL_law_182 ?_
  refine nz_sld F hX hbl hbA (hin 3 (by decide) (by decide)) dL_law_183 ?_
  have h := pub_row hR (xs (x3 + 1).toNatClampNeg) (xs (x3 + 2).toNatClampNeg) (xs (x3 + 3).toNatClampNeg)
  refine k_X7_row a X (xs (x3 + 1).toNatClampNeg) (xs (x3 + 2).toNatClampNeg) (xs (x3 + 3).toNatClampNeg) (fun hM => nz_runV F gL_law_X7_row rfl hd_X7_row rfl hM dL_law_184 (List.range' 0 62) (nz_mapR (nz_wX g a X) [] (nz_wM g c M)) nd_0_62 0 rfl rfl rfl (Nat.le_of_ble_eq_true rfl) rfl) h (fun X1 => nz_wX g a X1 ++ nz_wM g c M) (fun X1 => nz_mrgR (nz_wX g a X) (nz_wX g a X1) [] (nz_wM g c M) rfl) (fun r1 X1 h => ?_)
  refine nz_aload_n F dL_law_187 rfl 1 rfl ?_
  refine nz_aload_n F dL_law_188 rfl 3 rfl ?_
  refine nz_iload_n F dL_law_189 rfl 0 rfl ?_
  refine nz_iconst (v := 1) F dL_law_190 (by decide) ?_
  refine nz_iadd F dL_law_191 ?_
  refine nz_sld F hX hbl hbA (hin 1 (by decide) (by decide)) dL_law_192 ?_
  refine nz_aload_n F dL_law_193 rfl 3 rfl ?_
  refine nz_iload_n F dL_law_194 rfl 0 rfl ?_
  refine nz_iconst (v := 2) F dL_law_195 (by decide) ?_
  refine nz_iadd F dL_law_196 ?_
  refine nz_sld F hX hbl hbA (hin 2 (by decide) (by decide)) dL_law_197 ?_
  refine nz_aload_n F dL_law_198 rfl 3 rfl ?_
  refine nz_iload_n F dL_law_199 rfl 0 rfl ?_
  refine nz_iconst (v := 3) F dL_law_200 (by decide) ?_
  refine nz_iadd F dL_law_201 ?_
  refine nz_sld F hX hbl hbA (hin 3 (by decide) (by decide)) dL_law_202 ?_
  refine k_X8_row c M (xs (x3 + 1).toNatClampNeg) (xs (x3 + 2).toNatClampNeg) (xs (x3 + 3).toNatClampNeg) (fun hM => nz_runV F gL_law_X8_row rfl hd_X8_row rfl hM dL_law_203 (List.range' 62 14) (by rw [show nz_wX g a X1 ++ nz_wM g c M = nz_wX g a X1 ++ (nz_wM g c M ++ []) by rw [List.append_nil]]; exact nz_mapR (nz_wM g c M) (nz_wX g a X1) []) nd_62_14 62 rfl rfl rfl (Nat.le_of_ble_eq_true rfl) rfl) h (fun M1 => nz_wX g a X1 ++ nz_wM g c M1) (fun M1 => by rw [show nz_wX g a X1 ++ nz_wM g c M = nz_wX g a X1 ++ (nz_wM g c M ++ []) by rw [List.append_nil]]; exact (nz_mrgR (nz_wM g c M) (nz_wM g c M1) (nz_wX g a X1) [] rfl).trans (by rw [List.append_nil])) (fun r2 M1 h => ?_)
  obtain ⟨e, hR1⟩ := h
  exact nz_icmp_eq (tgt := 1038) F dL_law_206 (by decide) (fun _ => back X1 M1 hR1) (fun q => absurd e q)
set_option maxHeartbeats 4000000 in
set_option maxRecDepth 100000 in
theorem lc_set {ret : Option FieldType} {y : nz_Y} {g : nz_G} (F : nz_F y g cL_law 4 wsL_law RL ret room_1) {b L : Nat} {xs : Nat → Int32} (hX : va_X b L xs (yz_s y) (yz_s y).heap) (hbl : b < (yz_s y).heap.size) (hbA : ¬ yz_A y b) {a c : Nat → Nat} {X M : Nat → Nat → Int32} (hR : nz_Rel X M) {x3 : Int32} (hin : ∀ j : Int32, 0 ≤ j → j ≤ 5 → vp_in (x3 + j) L) (back : ∀ X' M', nz_Rel X' M' → nz_V y g 76 2804 (nz_wX g a X' ++ nz_wM g c M') 1038 [(3, .int x3), (2, .ref (c 0)), (1, .ref (a 0)), (0, .ref b)] []) : nz_V y g 76 2804 (nz_wX g a X ++ nz_wM g c M) 211 [(3, .int x3), (2, .ref (c 0)), (1, .ref (a 0)), (0, .ref b)] [] := by
  refine nz_aload_n F dL_law_211 rfl 2 rfl ?_
  refine nz_aload_n F dL_law_212 rfl 3 rfl ?_
  refine nz_iload_n F dL_law_213 rfl 0 rfl ?_
  refine nz_iconst (v := 1) F dL_law_214 (by decide) ?_
  refine nz_iadd F dL_law_215 ?_
  refine nz_sld F hX hbl hbA (hin 1 (by decide) (by decide)) dL_law_216 ?_
  refine nz_aload_n F dL_law_217 rfl 3 rfl ?_
  refine nz_iload_n F dL_law_218 rfl 0 rfl ?_
  refine nz_iconst (v := 2) F dL_law_219 (by decide) ?_
  refine nz_iadd F dL_law_220 ?_
  refine nz_sld F hX hbl hbA (hin 2 (by decide) (by decide)) dL_law_221 ?_
  refine nz_aload_n F dL_law_222 rfl 3 rfl ?_
  refine nz_iload_n F dL_law_223 rfl 0 rfl ?_
  refine nz_iconst (v := 3) F dL_law_224 (by decide) ?_
  refine nz_iadd F dL_law_225 ?_
  refine nz_sld F hX hbl hbA (hin 3 (by decide) (by decide)) dL_law_226 ?_
  have h := pub_set hR (xs (x3 + 1).toNatClampNeg) (xs (x3 + 2).toNatClampNeg) (xs (x3 + 3).toNatClampNeg)
  refine k_X7_set a X (xs (x3 + 1).toNatClampNeg) (xs (x3 + 2).toNatClampNeg) (xs (x3 + 3).toNatClampNeg) (fun hM => nz_runV F gL_law_X7_set rfl hd_X7_set rfl hM dL_law_227 (List.range' 0 62) (nz_mapR (nz_wX g a X) [] (nz_wM g c M)) nd_0_62 0 rfl rfl rfl (Nat.le_of_ble_eq_true rfl) rfl) h (fun X1 => nz_wX g a X1 ++ nz_wM g c M) (fun X1 => nz_mrgR (nz_wX g a X) (nz_wX g a X1) [] (nz_wM g c M) rfl) (fun r1 X1 h => ?_)
  refine nz_aload_n F dL_law_230 rfl 1 rfl ?_
  refine nz_aload_n F dL_law_231 rfl 3 rfl ?_
  refine nz_iload_n F dL_law_232 rfl 0 rfl ?_
  refine nz_iconst (v := 1) F dL_law_233 (by decide) ?_
  refine nz_iadd F dL_law_234 ?_
  refine nz_sld F hX hbl hbA (hin 1 (by decide) (by decide)) dL_law_235 ?_
  refine nz_aload_n F dL_law_236 rfl 3 rfl ?_
  refine nz_iload_n F dL_law_237 rfl 0 rfl ?_
  refine nz_iconst (v := 2) F dL_law_238 (by decide) ?_
  refine nz_iadd F dL_law_239 ?_
  refine nz_sld F hX hbl hbA (hin 2 (by decide) (by decide)) dL_law_240 ?_
  refine nz_aload_n F dL_law_241 rfl 3 rfl ?_
  refine nz_iload_n F dL_law_242 rfl 0 rfl ?_
  refine nz_iconst (v := 3) F dL_law_243 (by decide) ?_
  refine nz_iadd F dL_law_244 ?_
  refine nz_sld F hX hbl hbA (hin 3 (by decide) (by decide)) dL_law_245 ?_
  refine k_X8_set c M (xs (x3 + 1).toNatClampNeg) (xs (x3 + 2).toNatClampNeg) (xs (x3 + 3).toNatClampNeg) (fun hM => nz_runV F gL_law_X8_set rfl hd_X8_set rfl hM dL_law_246 (List.range' 62 14) (by rw [show nz_wX g a X1 ++ nz_wM g c M = nz_wX g a X1 ++ (nz_wM g c M ++ []) by rw [List.append_nil]]; exact nz_mapR (nz_wM g c M) (nz_wX g a X1) []) nd_62_14 62 rfl rfl rfl (Nat.le_of_ble_eq_true rfl) rfl) h (fun M1 => nz_wX g a X1 ++ nz_wM g c M1) (fun M1 => by rw [show nz_wX g a X1 ++ nz_wM g c M = nz_wX g a X1 ++ (nz_wM g c M ++ []) by rw [List.append_nil]]; exact (nz_mrgR (nz_wM g c M) (nz_wM g c M1) (nz_wX g a X1) [] rfl).trans (by rw [List.append_nil])) (fun r2 M1 h => ?_)
  obtain ⟨e, hR1⟩ := h
  exact nz_icmp_eq (tgt := 1038) F dL_law_249 (by decide) (fun _ => back X1 M1 hR1) (fun q => absurd e q)
set_option maxHeartbeats 4000000 in
set_option maxRecDepth 100000 in
theorem lc_copy {ret : Option FieldType} {y : nz_Y} {g : nz_G} (F : nz_F y g cL_law 4 wsL_law RL ret room_1) {b L : Nat} {xs : Nat → Int32} (hX : va_X b L xs (yz_s y) (yz_s y).heap) (hbl : b < (yz_s y).heap.size) (hbA : ¬ yz_A y b) {a c : Nat → Nat} {X M : Nat → Nat → Int32} (hR : nz_Rel X M) {x3 : Int32} (hin : ∀ j : Int32, 0 ≤ j → j ≤ 5 → vp_in (x3 + j) L) (back : ∀ X' M', nz_Rel X' M' → nz_V y g 76 2804 (nz_wX g a X' ++ nz_wM g c M') 1038 [(3, .int x3), (2, .ref (c 0)), (1, .ref (a 0)), (0, .ref b)] []) : nz_V y g 76 2804 (nz_wX g a X ++ nz_wM g c M) 254 [(3, .int x3), (2, .ref (c 0)), (1, .ref (a 0)), (0, .ref b)] [] := by
  refine nz_aload_n F dL_law_254 rfl 2 rfl ?_
  refine nz_aload_n F dL_law_255 rfl 3 rfl ?_
  refine nz_iload_n F dL_law_256 rfl 0 rfl ?_
  refine nz_iconst (v := 1) F dL_law_257 (by decide) ?_
  refine nz_iadd F dL_law_258 ?_
  refine nz_sld F hX hbl hbA (hin 1 (by decide) (by decide)) dL_law_259 ?_
  refine nz_aload_n F dL_law_260 rfl 3 rfl ?_
  refine nz_iload_n F dL_law_261 rfl 0 rfl ?_
  refine nz_iconst (v := 2) F dL_law_262 (by decide) ?_
  refine nz_iadd F dL_law_263 ?_
  refine nz_sld F hX hbl hbA (hin 2 (by decide) (by decide)) dL_law_264 ?_
  refine nz_aload_n F dL_law_265 rfl 3 rfl ?_
  refine nz_iload_n F dL_law_266 rfl 0 rfl ?_
  refine nz_iconst (v := 3) F dL_law_267 (by decide) ?_
  refine nz_iadd F dL_law_268 ?_
  refine nz_sld F hX hbl hbA (hin 3 (by decide) (by decide)) dL_law_269 ?_
  refine nz_aload_n F dL_law_270 rfl 3 rfl ?_
  refine nz_iload_n F dL_law_271 rfl 0 rfl ?_
  refine nz_iconst (v := 4) F dL_law_272 (by decide) ?_
  refine nz_iadd F dL_law_273 ?_
  refine nz_sld F hX hbl hbA (hin 4 (by decide) (by decide)) dL_law_274 ?_
  refine nz_aload_n F dL_law_275 rfl 3 rfl ?_
  refine nz_iload_n F dL_law_276 rfl 0 rfl ?_
  refine nz_iconst (v := 5) F dL_law_277 (by decide) ?_
  refine nz_iadd F dL_law_278 ?_
  refine nz_sld F hX hbl hbA (hin 5 (by decide) (by decide)) dL_law_279 ?_
  have h := pub_copy hR (xs (x3 + 1).toNatClampNeg) (xs (x3 + 2).toNatClampNeg) (xs (x3 + 3).toNatClampNeg) (xs (x3 + 4).toNatClampNeg) (xs (x3 + 5).toNatClampNeg)
  refine k_X7_copy a X (xs (x3 + 1).toNatClampNeg) (xs (x3 + 2).toNatClampNeg) (xs (x3 + 3).toNatClampNeg) (xs (x3 + 4).toNatClampNeg) (xs (x3 + 5).toNatClampNeg) (fun hM => nz_runV F gL_law_X7_copy rfl hd_X7_copy rfl hM dL_law_280 (List.range' 0 62) (nz_mapR (nz_wX g a X) [] (nz_wM g c M)) nd_0_62 0 rfl rfl rfl (Nat.le_of_ble_eq_true rfl) rfl) h (fun X1 => nz_wX g a X1 ++ nz_wM g c M) (fun X1 => nz_mrgR (nz_wX g a X) (nz_wX g a X1) [] (nz_wM g c M) rfl) (fun r1 X1 h => ?_)
  refine nz_aload_n F dL_law_283 rfl 1 rfl ?_
  refine nz_aload_n F dL_law_284 rfl 3 rfl ?_
  refine nz_iload_n F dL_law_285 rfl 0 rfl ?_
  refine nz_iconst (v := 1) F dL_law_286 (by decide) ?_
  refine nz_iadd F dL_law_287 ?_
  refine nz_sld F hX hbl hbA (hin 1 (by decide) (by decide)) dL_law_288 ?_
  refine nz_aload_n F dL_law_289 rfl 3 rfl ?_
  refine nz_iload_n F dL_law_290 rfl 0 rfl ?_
  refine nz_iconst (v := 2) F dL_law_291 (by decide) ?_
  refine nz_iadd F dL_law_292 ?_
  refine nz_sld F hX hbl hbA (hin 2 (by decide) (by decide)) dL_law_293 ?_
  refine nz_aload_n F dL_law_294 rfl 3 rfl ?_
  refine nz_iload_n F dL_law_295 rfl 0 rfl ?_
  refine nz_iconst (v := 3) F dL_law_296 (by decide) ?_
  refine nz_iadd F dL_law_297 ?_
  refine nz_sld F hX hbl hbA (hin 3 (by decide) (by decide)) dL_law_298 ?_
  refine nz_aload_n F dL_law_299 rfl 3 rfl ?_
  refine nz_iload_n F dL_law_300 rfl 0 rfl ?_
  refine nz_iconst (v := 4) F dL_law_301 (by decide) ?_
  refine nz_iadd F dL_law_302 ?_
  refine nz_sld F hX hbl hbA (hin 4 (by decide) (by decide)) dL_law_303 ?_
  refine nz_aload_n F dL_law_304 rfl 3 rfl ?_
  refine nz_iload_n F dL_law_305 rfl 0 rfl ?_
  refine nz_iconst (v := 5) F dL_law_306 (by decide) ?_
  refine nz_iadd F dL_law_307 ?_
  refine nz_sld F hX hbl hbA (hin 5 (by decide) (by decide)) dL_law_308 ?_
  refine k_X8_copy c M (xs (x3 + 1).toNatClampNeg) (xs (x3 + 2).toNatClampNeg) (xs (x3 + 3).toNatClampNeg) (xs (x3 + 4).toNatClampNeg) (xs (x3 + 5).toNatClampNeg) (fun hM => nz_runV F gL_law_X8_copy rfl hd_X8_copy rfl hM dL_law_309 (List.range' 62 14) (by rw [show nz_wX g a X1 ++ nz_wM g c M = nz_wX g a X1 ++ (nz_wM g c M ++ []) by rw [List.append_nil]]; exact nz_mapR (nz_wM g c M) (nz_wX g a X1) []) nd_62_14 62 rfl rfl rfl (Nat.le_of_ble_eq_true rfl) rfl) h (fun M1 => nz_wX g a X1 ++ nz_wM g c M1) (fun M1 => by rw [show nz_wX g a X1 ++ nz_wM g c M = nz_wX g a X1 ++ (nz_wM g c M ++ []) by rw [List.append_nil]]; exact (nz_mrgR (nz_wM g c M) (nz_wM g c M1) (nz_wX g a X1) [] rfl).trans (by rw [List.append_nil])) (fun r2 M1 h => ?_)
  obtain ⟨e, hR1⟩ := h
  exact nz_icmp_eq (tgt := 1038) F dL_law_312 (by decide) (fun _ => back X1 M1 hR1) (fun q => absurd e q)
set_option maxHeartbeats 4000000 in
set_option maxRecDepth 100000 in
theorem lc_drop {ret : Option FieldType} {y : nz_Y} {g : nz_G} (F : nz_F y g cL_law 4 wsL_law RL ret room_1) {b L : Nat} {xs : Nat → Int32} (hX : va_X b L xs (yz_s y) (yz_s y).heap) (hbl : b < (yz_s y).heap.size) (hbA : ¬ yz_A y b) {a c : Nat → Nat} {X M : Nat → Nat → Int32} (hR : nz_Rel X M) {x3 : Int32} (hin : ∀ j : Int32, 0 ≤ j → j ≤ 5 → vp_in (x3 + j) L) (back : ∀ X' M', nz_Rel X' M' → nz_V y g 76 2804 (nz_wX g a X' ++ nz_wM g c M') 1038 [(3, .int x3), (2, .ref (c 0)), (1, .ref (a 0)), (0, .ref b)] []) : nz_V y g 76 2804 (nz_wX g a X ++ nz_wM g c M) 317 [(3, .int x3), (2, .ref (c 0)), (1, .ref (a 0)), (0, .ref b)] [] := by
  refine nz_aload_n F dL_law_317 rfl 2 rfl ?_
  refine nz_aload_n F dL_law_318 rfl 3 rfl ?_
  refine nz_iload_n F dL_law_319 rfl 0 rfl ?_
  refine nz_iconst (v := 1) F dL_law_320 (by decide) ?_
  refine nz_iadd F dL_law_321 ?_
  refine nz_sld F hX hbl hbA (hin 1 (by decide) (by decide)) dL_law_322 ?_
  have h := pub_drop hR (xs (x3 + 1).toNatClampNeg)
  refine k_X7_drop a X (xs (x3 + 1).toNatClampNeg) (fun hM => nz_runV F gL_law_X7_drop rfl hd_X7_drop rfl hM dL_law_323 (List.range' 0 62) (nz_mapR (nz_wX g a X) [] (nz_wM g c M)) nd_0_62 0 rfl rfl rfl (Nat.le_of_ble_eq_true rfl) rfl) h (fun X1 => nz_wX g a X1 ++ nz_wM g c M) (fun X1 => nz_mrgR (nz_wX g a X) (nz_wX g a X1) [] (nz_wM g c M) rfl) (fun r1 X1 h => ?_)
  refine nz_aload_n F dL_law_326 rfl 1 rfl ?_
  refine nz_aload_n F dL_law_327 rfl 3 rfl ?_
  refine nz_iload_n F dL_law_328 rfl 0 rfl ?_
  refine nz_iconst (v := 1) F dL_law_329 (by decide) ?_
  refine nz_iadd F dL_law_330 ?_
  refine nz_sld F hX hbl hbA (hin 1 (by decide) (by decide)) dL_law_331 ?_
  refine k_X8_drop c M (xs (x3 + 1).toNatClampNeg) (fun hM => nz_runV F gL_law_X8_drop rfl hd_X8_drop rfl hM dL_law_332 (List.range' 62 14) (by rw [show nz_wX g a X1 ++ nz_wM g c M = nz_wX g a X1 ++ (nz_wM g c M ++ []) by rw [List.append_nil]]; exact nz_mapR (nz_wM g c M) (nz_wX g a X1) []) nd_62_14 62 rfl rfl rfl (Nat.le_of_ble_eq_true rfl) rfl) h (fun M1 => nz_wX g a X1 ++ nz_wM g c M1) (fun M1 => by rw [show nz_wX g a X1 ++ nz_wM g c M = nz_wX g a X1 ++ (nz_wM g c M ++ []) by rw [List.append_nil]]; exact (nz_mrgR (nz_wM g c M) (nz_wM g c M1) (nz_wX g a X1) [] rfl).trans (by rw [List.append_nil])) (fun r2 M1 h => ?_)
  obtain ⟨e, hR1⟩ := h
  exact nz_icmp_eq (tgt := 1038) F dL_law_335 (by decide) (fun _ => back X1 M1 hR1) (fun q => absurd e q)
set_option maxHeartbeats 4000000 in
set_option maxRecDepth 100000 in
theorem lc_feed {ret : Option FieldType} {y : nz_Y} {g : nz_G} (F : nz_F y g cL_law 4 wsL_law RL ret room_1) {b L : Nat} {xs : Nat → Int32} (hX : va_X b L xs (yz_s y) (yz_s y).heap) (hbl : b < (yz_s y).heap.size) (hbA : ¬ yz_A y b) {a c : Nat → Nat} {X M : Nat → Nat → Int32} (hR : nz_Rel X M) {x3 : Int32} (hin : ∀ j : Int32, 0 ≤ j → j ≤ 5 → vp_in (x3 + j) L) (back : ∀ X' M', nz_Rel X' M' → nz_V y g 76 2804 (nz_wX g a X' ++ nz_wM g c M') 1038 [(3, .int x3), (2, .ref (c 0)), (1, .ref (a 0)), (0, .ref b)] []) : nz_V y g 76 2804 (nz_wX g a X ++ nz_wM g c M) 340 [(3, .int x3), (2, .ref (c 0)), (1, .ref (a 0)), (0, .ref b)] [] := by
  refine nz_aload_n F dL_law_340 rfl 2 rfl ?_
  refine nz_aload_n F dL_law_341 rfl 3 rfl ?_
  refine nz_iload_n F dL_law_342 rfl 0 rfl ?_
  refine nz_iconst (v := 1) F dL_law_343 (by decide) ?_
  refine nz_iadd F dL_law_344 ?_
  refine nz_sld F hX hbl hbA (hin 1 (by decide) (by decide)) dL_law_345 ?_
  refine nz_i2l (v := (((xs (x3 + 1).toNatClampNeg) : Int32).toInt64)) F dL_law_346 rfl ?_
  refine nz_bipush (v := 32) F dL_law_347 (by decide) ?_
  refine nz_lshl (v := ((((xs (x3 + 1).toNatClampNeg) : Int32).toInt64) <<< ((32 : Int32).toInt64 &&& 63))) F dL_law_349 rfl ?_
  refine nz_aload_n F dL_law_350 rfl 3 rfl ?_
  refine nz_iload_n F dL_law_351 rfl 0 rfl ?_
  refine nz_iconst (v := 2) F dL_law_352 (by decide) ?_
  refine nz_iadd F dL_law_353 ?_
  refine nz_sld F hX hbl hbA (hin 2 (by decide) (by decide)) dL_law_354 ?_
  refine nz_i2l (v := (((xs (x3 + 2).toNatClampNeg) : Int32).toInt64)) F dL_law_355 rfl ?_
  refine nz_ldc2 (v := 4294967295) F wl_c32 dL_law_356 ?_
  refine nz_land F dL_law_359 ?_
  refine nz_lor F dL_law_360 ?_
  refine nz_aload_n F dL_law_361 rfl 3 rfl ?_
  refine nz_iload_n F dL_law_362 rfl 0 rfl ?_
  refine nz_iconst (v := 3) F dL_law_363 (by decide) ?_
  refine nz_iadd F dL_law_364 ?_
  refine nz_sld F hX hbl hbA (hin 3 (by decide) (by decide)) dL_law_365 ?_
  have h := pub_feed hR (((((xs (x3 + 1).toNatClampNeg) : Int32).toInt64) <<< ((32 : Int32).toInt64 &&& 63)) ||| ((((xs (x3 + 2).toNatClampNeg) : Int32).toInt64) &&& 4294967295)) (xs (x3 + 3).toNatClampNeg)
  refine k_X7_feed a X (((((xs (x3 + 1).toNatClampNeg) : Int32).toInt64) <<< ((32 : Int32).toInt64 &&& 63)) ||| ((((xs (x3 + 2).toNatClampNeg) : Int32).toInt64) &&& 4294967295)) (xs (x3 + 3).toNatClampNeg) (fun hM => nz_runV F gL_law_X7_feed rfl hd_X7_feed rfl hM dL_law_366 (List.range' 0 62) (nz_mapR (nz_wX g a X) [] (nz_wM g c M)) nd_0_62 0 rfl rfl rfl (Nat.le_of_ble_eq_true rfl) rfl) h (fun X1 => nz_wX g a X1 ++ nz_wM g c M) (fun X1 => nz_mrgR (nz_wX g a X) (nz_wX g a X1) [] (nz_wM g c M) rfl) (fun r1 X1 h => ?_)
  refine nz_aload_n F dL_law_369 rfl 1 rfl ?_
  refine nz_aload_n F dL_law_370 rfl 3 rfl ?_
  refine nz_iload_n F dL_law_371 rfl 0 rfl ?_
  refine nz_iconst (v := 1) F dL_law_372 (by decide) ?_
  refine nz_iadd F dL_law_373 ?_
  refine nz_sld F hX hbl hbA (hin 1 (by decide) (by decide)) dL_law_374 ?_
  refine nz_i2l (v := (((xs (x3 + 1).toNatClampNeg) : Int32).toInt64)) F dL_law_375 rfl ?_
  refine nz_bipush (v := 32) F dL_law_376 (by decide) ?_
  refine nz_lshl (v := ((((xs (x3 + 1).toNatClampNeg) : Int32).toInt64) <<< ((32 : Int32).toInt64 &&& 63))) F dL_law_378 rfl ?_
  refine nz_aload_n F dL_law_379 rfl 3 rfl ?_
  refine nz_iload_n F dL_law_380 rfl 0 rfl ?_
  refine nz_iconst (v := 2) F dL_law_381 (by decide) ?_
  refine nz_iadd F dL_law_382 ?_
  refine nz_sld F hX hbl hbA (hin 2 (by decide) (by decide)) dL_law_383 ?_
  refine nz_i2l (v := (((xs (x3 + 2).toNatClampNeg) : Int32).toInt64)) F dL_law_384 rfl ?_
  refine nz_ldc2 (v := 4294967295) F wl_c32 dL_law_385 ?_
  refine nz_land F dL_law_388 ?_
  refine nz_lor F dL_law_389 ?_
  refine nz_aload_n F dL_law_390 rfl 3 rfl ?_
  refine nz_iload_n F dL_law_391 rfl 0 rfl ?_
  refine nz_iconst (v := 3) F dL_law_392 (by decide) ?_
  refine nz_iadd F dL_law_393 ?_
  refine nz_sld F hX hbl hbA (hin 3 (by decide) (by decide)) dL_law_394 ?_
  refine k_X8_feed c M (((((xs (x3 + 1).toNatClampNeg) : Int32).toInt64) <<< ((32 : Int32).toInt64 &&& 63)) ||| ((((xs (x3 + 2).toNatClampNeg) : Int32).toInt64) &&& 4294967295)) (xs (x3 + 3).toNatClampNeg) (fun hM => nz_runV F gL_law_X8_feed rfl hd_X8_feed rfl hM dL_law_395 (List.range' 62 14) (by rw [show nz_wX g a X1 ++ nz_wM g c M = nz_wX g a X1 ++ (nz_wM g c M ++ []) by rw [List.append_nil]]; exact nz_mapR (nz_wM g c M) (nz_wX g a X1) []) nd_62_14 62 rfl rfl rfl (Nat.le_of_ble_eq_true rfl) rfl) h (fun M1 => nz_wX g a X1 ++ nz_wM g c M1) (fun M1 => by rw [show nz_wX g a X1 ++ nz_wM g c M = nz_wX g a X1 ++ (nz_wM g c M ++ []) by rw [List.append_nil]]; exact (nz_mrgR (nz_wM g c M) (nz_wM g c M1) (nz_wX g a X1) [] rfl).trans (by rw [List.append_nil])) (fun r2 M1 h => ?_)
  obtain ⟨e, hR1⟩ := h
  exact nz_icmp_eq (tgt := 1038) F dL_law_398 (by decide) (fun _ => back X1 M1 hR1) (fun q => absurd e q)
set_option maxHeartbeats 4000000 in
set_option maxRecDepth 100000 in
theorem lc_road {ret : Option FieldType} {y : nz_Y} {g : nz_G} (F : nz_F y g cL_law 4 wsL_law RL ret room_1) {b L : Nat} {xs : Nat → Int32} (hX : va_X b L xs (yz_s y) (yz_s y).heap) (hbl : b < (yz_s y).heap.size) (hbA : ¬ yz_A y b) {a c : Nat → Nat} {X M : Nat → Nat → Int32} (hR : nz_Rel X M) {x3 : Int32} (hin : ∀ j : Int32, 0 ≤ j → j ≤ 5 → vp_in (x3 + j) L) (back : ∀ X' M', nz_Rel X' M' → nz_V y g 76 2804 (nz_wX g a X' ++ nz_wM g c M') 1038 [(3, .int x3), (2, .ref (c 0)), (1, .ref (a 0)), (0, .ref b)] []) : nz_V y g 76 2804 (nz_wX g a X ++ nz_wM g c M) 403 [(3, .int x3), (2, .ref (c 0)), (1, .ref (a 0)), (0, .ref b)] [] := by
  refine nz_aload_n F dL_law_403 rfl 2 rfl ?_
  have h := pub_road hR
  refine k_X7_road a X  (fun hM => nz_runV F gL_law_X7_road rfl hd_X7_road rfl hM dL_law_404 (List.range' 0 62) (nz_mapR (nz_wX g a X) [] (nz_wM g c M)) nd_0_62 0 rfl rfl rfl (Nat.le_of_ble_eq_true rfl) rfl) h (fun X1 => nz_wX g a X1 ++ nz_wM g c M) (fun X1 => nz_mrgR (nz_wX g a X) (nz_wX g a X1) [] (nz_wM g c M) rfl) (fun r1 X1 h => ?_)
  refine nz_aload_n F dL_law_407 rfl 1 rfl ?_
  refine k_X8_road c M  (fun hM => nz_runV F gL_law_X8_road rfl hd_X8_road rfl hM dL_law_408 (List.range' 62 14) (by rw [show nz_wX g a X1 ++ nz_wM g c M = nz_wX g a X1 ++ (nz_wM g c M ++ []) by rw [List.append_nil]]; exact nz_mapR (nz_wM g c M) (nz_wX g a X1) []) nd_62_14 62 rfl rfl rfl (Nat.le_of_ble_eq_true rfl) rfl) h (fun M1 => nz_wX g a X1 ++ nz_wM g c M1) (fun M1 => by rw [show nz_wX g a X1 ++ nz_wM g c M = nz_wX g a X1 ++ (nz_wM g c M ++ []) by rw [List.append_nil]]; exact (nz_mrgR (nz_wM g c M) (nz_wM g c M1) (nz_wX g a X1) [] rfl).trans (by rw [List.append_nil])) (fun r2 M1 h => ?_)
  obtain ⟨e, hR1⟩ := h
  exact nz_icmp_eq (tgt := 1038) F dL_law_411 (by decide) (fun _ => back X1 M1 hR1) (fun q => absurd e q)
set_option maxHeartbeats 4000000 in
set_option maxRecDepth 100000 in
theorem lc_fault {ret : Option FieldType} {y : nz_Y} {g : nz_G} (F : nz_F y g cL_law 4 wsL_law RL ret room_1) {b L : Nat} {xs : Nat → Int32} (hX : va_X b L xs (yz_s y) (yz_s y).heap) (hbl : b < (yz_s y).heap.size) (hbA : ¬ yz_A y b) {a c : Nat → Nat} {X M : Nat → Nat → Int32} (hR : nz_Rel X M) {x3 : Int32} (hin : ∀ j : Int32, 0 ≤ j → j ≤ 5 → vp_in (x3 + j) L) (back : ∀ X' M', nz_Rel X' M' → nz_V y g 76 2804 (nz_wX g a X' ++ nz_wM g c M') 1038 [(3, .int x3), (2, .ref (c 0)), (1, .ref (a 0)), (0, .ref b)] []) : nz_V y g 76 2804 (nz_wX g a X ++ nz_wM g c M) 416 [(3, .int x3), (2, .ref (c 0)), (1, .ref (a 0)), (0, .ref b)] [] := by
  refine nz_aload_n F dL_law_416 rfl 2 rfl ?_
  have h := pub_fault hR
  refine k_X7_fault a X  (fun hM => nz_runV F gL_law_X7_fault rfl hd_X7_fault rfl hM dL_law_417 (List.range' 0 62) (nz_mapR (nz_wX g a X) [] (nz_wM g c M)) nd_0_62 0 rfl rfl rfl (Nat.le_of_ble_eq_true rfl) rfl) h (fun X1 => nz_wX g a X1 ++ nz_wM g c M) (fun X1 => nz_mrgR (nz_wX g a X) (nz_wX g a X1) [] (nz_wM g c M) rfl) (fun r1 X1 h => ?_)
  refine nz_aload_n F dL_law_420 rfl 1 rfl ?_
  refine k_X8_fault c M  (fun hM => nz_runV F gL_law_X8_fault rfl hd_X8_fault rfl hM dL_law_421 (List.range' 62 14) (by rw [show nz_wX g a X1 ++ nz_wM g c M = nz_wX g a X1 ++ (nz_wM g c M ++ []) by rw [List.append_nil]]; exact nz_mapR (nz_wM g c M) (nz_wX g a X1) []) nd_62_14 62 rfl rfl rfl (Nat.le_of_ble_eq_true rfl) rfl) h (fun M1 => nz_wX g a X1 ++ nz_wM g c M1) (fun M1 => by rw [show nz_wX g a X1 ++ nz_wM g c M = nz_wX g a X1 ++ (nz_wM g c M ++ []) by rw [List.append_nil]]; exact (nz_mrgR (nz_wM g c M) (nz_wM g c M1) (nz_wX g a X1) [] rfl).trans (by rw [List.append_nil])) (fun r2 M1 h => ?_)
  obtain ⟨e, hR1⟩ := h
  exact nz_icmp_eq (tgt := 1038) F dL_law_424 (by decide) (fun _ => back X1 M1 hR1) (fun q => absurd e q)
set_option maxHeartbeats 4000000 in
set_option maxRecDepth 100000 in
theorem lc_night {ret : Option FieldType} {y : nz_Y} {g : nz_G} (F : nz_F y g cL_law 4 wsL_law RL ret room_1) {b L : Nat} {xs : Nat → Int32} (hX : va_X b L xs (yz_s y) (yz_s y).heap) (hbl : b < (yz_s y).heap.size) (hbA : ¬ yz_A y b) {a c : Nat → Nat} {X M : Nat → Nat → Int32} (hR : nz_Rel X M) {x3 : Int32} (hin : ∀ j : Int32, 0 ≤ j → j ≤ 5 → vp_in (x3 + j) L) (back : ∀ X' M', nz_Rel X' M' → nz_V y g 76 2804 (nz_wX g a X' ++ nz_wM g c M') 1038 [(3, .int x3), (2, .ref (c 0)), (1, .ref (a 0)), (0, .ref b)] []) : nz_V y g 76 2804 (nz_wX g a X ++ nz_wM g c M) 429 [(3, .int x3), (2, .ref (c 0)), (1, .ref (a 0)), (0, .ref b)] [] := by
  refine nz_aload_n F dL_law_429 rfl 2 rfl ?_
  have h := pub_night hR
  refine k_X7_night a X  (fun hM => nz_runV F gL_law_X7_night rfl hd_X7_night rfl hM dL_law_430 (List.range' 0 62) (nz_mapR (nz_wX g a X) [] (nz_wM g c M)) nd_0_62 0 rfl rfl rfl (Nat.le_of_ble_eq_true rfl) rfl) h (fun X1 => nz_wX g a X1 ++ nz_wM g c M) (fun X1 => nz_mrgR (nz_wX g a X) (nz_wX g a X1) [] (nz_wM g c M) rfl) (fun r1 X1 h => ?_)
  refine nz_aload_n F dL_law_433 rfl 1 rfl ?_
  refine k_X8_night c M  (fun hM => nz_runV F gL_law_X8_night rfl hd_X8_night rfl hM dL_law_434 (List.range' 62 14) (by rw [show nz_wX g a X1 ++ nz_wM g c M = nz_wX g a X1 ++ (nz_wM g c M ++ []) by rw [List.append_nil]]; exact nz_mapR (nz_wM g c M) (nz_wX g a X1) []) nd_62_14 62 rfl rfl rfl (Nat.le_of_ble_eq_true rfl) rfl) h (fun M1 => nz_wX g a X1 ++ nz_wM g c M1) (fun M1 => by rw [show nz_wX g a X1 ++ nz_wM g c M = nz_wX g a X1 ++ (nz_wM g c M ++ []) by rw [List.append_nil]]; exact (nz_mrgR (nz_wM g c M) (nz_wM g c M1) (nz_wX g a X1) [] rfl).trans (by rw [List.append_nil])) (fun r2 M1 h => ?_)
  obtain ⟨e, hR1⟩ := h
  exact nz_icmp_eq (tgt := 1038) F dL_law_437 (by decide) (fun _ => back X1 M1 hR1) (fun q => absurd e q)
set_option maxHeartbeats 4000000 in
set_option maxRecDepth 100000 in
theorem lc_prove {ret : Option FieldType} {y : nz_Y} {g : nz_G} (F : nz_F y g cL_law 4 wsL_law RL ret room_1) {b L : Nat} {xs : Nat → Int32} (hX : va_X b L xs (yz_s y) (yz_s y).heap) (hbl : b < (yz_s y).heap.size) (hbA : ¬ yz_A y b) {a c : Nat → Nat} {X M : Nat → Nat → Int32} (hR : nz_Rel X M) {x3 : Int32} (hin : ∀ j : Int32, 0 ≤ j → j ≤ 5 → vp_in (x3 + j) L) (back : ∀ X' M', nz_Rel X' M' → nz_V y g 76 2804 (nz_wX g a X' ++ nz_wM g c M') 1038 [(3, .int x3), (2, .ref (c 0)), (1, .ref (a 0)), (0, .ref b)] []) : nz_V y g 76 2804 (nz_wX g a X ++ nz_wM g c M) 442 [(3, .int x3), (2, .ref (c 0)), (1, .ref (a 0)), (0, .ref b)] [] := by
  refine nz_aload_n F dL_law_442 rfl 2 rfl ?_
  refine nz_aload_n F dL_law_443 rfl 3 rfl ?_
  refine nz_iload_n F dL_law_444 rfl 0 rfl ?_
  refine nz_iconst (v := 1) F dL_law_445 (by decide) ?_
  refine nz_iadd F dL_law_446 ?_
  refine nz_sld F hX hbl hbA (hin 1 (by decide) (by decide)) dL_law_447 ?_
  have h := pub_prove hR (xs (x3 + 1).toNatClampNeg)
  refine k_X7_prove a X (xs (x3 + 1).toNatClampNeg) (fun hM => nz_runV F gL_law_X7_prove rfl hd_X7_prove rfl hM dL_law_448 (List.range' 0 62) (nz_mapR (nz_wX g a X) [] (nz_wM g c M)) nd_0_62 0 rfl rfl rfl (Nat.le_of_ble_eq_true rfl) rfl) h (fun X1 => nz_wX g a X1 ++ nz_wM g c M) (fun X1 => nz_mrgR (nz_wX g a X) (nz_wX g a X1) [] (nz_wM g c M) rfl) (fun r1 X1 h => ?_)
  refine nz_aload_n F dL_law_451 rfl 1 rfl ?_
  refine nz_aload_n F dL_law_452 rfl 3 rfl ?_
  refine nz_iload_n F dL_law_453 rfl 0 rfl ?_
  refine nz_iconst (v := 1) F dL_law_454 (by decide) ?_
  refine nz_iadd F dL_law_455 ?_
  refine nz_sld F hX hbl hbA (hin 1 (by decide) (by decide)) dL_law_456 ?_
  refine k_X8_prove c M (xs (x3 + 1).toNatClampNeg) (fun hM => nz_runV F gL_law_X8_prove rfl hd_X8_prove rfl hM dL_law_457 (List.range' 62 14) (by rw [show nz_wX g a X1 ++ nz_wM g c M = nz_wX g a X1 ++ (nz_wM g c M ++ []) by rw [List.append_nil]]; exact nz_mapR (nz_wM g c M) (nz_wX g a X1) []) nd_62_14 62 rfl rfl rfl (Nat.le_of_ble_eq_true rfl) rfl) h (fun M1 => nz_wX g a X1 ++ nz_wM g c M1) (fun M1 => by rw [show nz_wX g a X1 ++ nz_wM g c M = nz_wX g a X1 ++ (nz_wM g c M ++ []) by rw [List.append_nil]]; exact (nz_mrgR (nz_wM g c M) (nz_wM g c M1) (nz_wX g a X1) [] rfl).trans (by rw [List.append_nil])) (fun r2 M1 h => ?_)
  obtain ⟨e, hR1⟩ := h
  exact nz_icmp_eq (tgt := 1038) F dL_law_460 (by decide) (fun _ => back X1 M1 hR1) (fun q => absurd e q)
set_option maxHeartbeats 4000000 in
set_option maxRecDepth 100000 in
theorem lc_undo {ret : Option FieldType} {y : nz_Y} {g : nz_G} (F : nz_F y g cL_law 4 wsL_law RL ret room_1) {b L : Nat} {xs : Nat → Int32} (hX : va_X b L xs (yz_s y) (yz_s y).heap) (hbl : b < (yz_s y).heap.size) (hbA : ¬ yz_A y b) {a c : Nat → Nat} {X M : Nat → Nat → Int32} (hR : nz_Rel X M) {x3 : Int32} (hin : ∀ j : Int32, 0 ≤ j → j ≤ 5 → vp_in (x3 + j) L) (back : ∀ X' M', nz_Rel X' M' → nz_V y g 76 2804 (nz_wX g a X' ++ nz_wM g c M') 1038 [(3, .int x3), (2, .ref (c 0)), (1, .ref (a 0)), (0, .ref b)] []) : nz_V y g 76 2804 (nz_wX g a X ++ nz_wM g c M) 465 [(3, .int x3), (2, .ref (c 0)), (1, .ref (a 0)), (0, .ref b)] [] := by
  refine nz_aload_n F dL_law_465 rfl 2 rfl ?_
  have h := pub_undo hR
  refine k_X7_undo a X  (fun hM => nz_runV F gL_law_X7_undo rfl hd_X7_undo rfl hM dL_law_466 (List.range' 0 62) (nz_mapR (nz_wX g a X) [] (nz_wM g c M)) nd_0_62 0 rfl rfl rfl (Nat.le_of_ble_eq_true rfl) rfl) h (fun X1 => nz_wX g a X1 ++ nz_wM g c M) (fun X1 => nz_mrgR (nz_wX g a X) (nz_wX g a X1) [] (nz_wM g c M) rfl) (fun r1 X1 h => ?_)
  refine nz_aload_n F dL_law_469 rfl 1 rfl ?_
  refine k_X8_undo c M  (fun hM => nz_runV F gL_law_X8_undo rfl hd_X8_undo rfl hM dL_law_470 (List.range' 62 14) (by rw [show nz_wX g a X1 ++ nz_wM g c M = nz_wX g a X1 ++ (nz_wM g c M ++ []) by rw [List.append_nil]]; exact nz_mapR (nz_wM g c M) (nz_wX g a X1) []) nd_62_14 62 rfl rfl rfl (Nat.le_of_ble_eq_true rfl) rfl) h (fun M1 => nz_wX g a X1 ++ nz_wM g c M1) (fun M1 => by rw [show nz_wX g a X1 ++ nz_wM g c M = nz_wX g a X1 ++ (nz_wM g c M ++ []) by rw [List.append_nil]]; exact (nz_mrgR (nz_wM g c M) (nz_wM g c M1) (nz_wX g a X1) [] rfl).trans (by rw [List.append_nil])) (fun r2 M1 h => ?_)
  obtain ⟨e, hR1⟩ := h
  exact nz_icmp_eq (tgt := 1038) F dL_law_473 (by decide) (fun _ => back X1 M1 hR1) (fun q => absurd e q)
set_option maxHeartbeats 4000000 in
set_option maxRecDepth 100000 in
theorem lc_stone {ret : Option FieldType} {y : nz_Y} {g : nz_G} (F : nz_F y g cL_law 4 wsL_law RL ret room_1) {b L : Nat} {xs : Nat → Int32} (hX : va_X b L xs (yz_s y) (yz_s y).heap) (hbl : b < (yz_s y).heap.size) (hbA : ¬ yz_A y b) {a c : Nat → Nat} {X M : Nat → Nat → Int32} (hR : nz_Rel X M) {x3 : Int32} (hin : ∀ j : Int32, 0 ≤ j → j ≤ 5 → vp_in (x3 + j) L) (back : ∀ X' M', nz_Rel X' M' → nz_V y g 76 2804 (nz_wX g a X' ++ nz_wM g c M') 1038 [(3, .int x3), (2, .ref (c 0)), (1, .ref (a 0)), (0, .ref b)] []) : nz_V y g 76 2804 (nz_wX g a X ++ nz_wM g c M) 478 [(3, .int x3), (2, .ref (c 0)), (1, .ref (a 0)), (0, .ref b)] [] := by
  refine nz_aload_n F dL_law_478 rfl 2 rfl ?_
  refine nz_aload_n F dL_law_479 rfl 3 rfl ?_
  refine nz_iload_n F dL_law_480 rfl 0 rfl ?_
  refine nz_iconst (v := 1) F dL_law_481 (by decide) ?_
  refine nz_iadd F dL_law_482 ?_
  refine nz_sld F hX hbl hbA (hin 1 (by decide) (by decide)) dL_law_483 ?_
  refine nz_aload_n F dL_law_484 rfl 3 rfl ?_
  refine nz_iload_n F dL_law_485 rfl 0 rfl ?_
  refine nz_iconst (v := 2) F dL_law_486 (by decide) ?_
  refine nz_iadd F dL_law_487 ?_
  refine nz_sld F hX hbl hbA (hin 2 (by decide) (by decide)) dL_law_488 ?_
  have h := pub_stone hR (xs (x3 + 1).toNatClampNeg) (xs (x3 + 2).toNatClampNeg)
  refine k_X7_stone a X (xs (x3 + 1).toNatClampNeg) (xs (x3 + 2).toNatClampNeg) (fun hM => nz_runV F gL_law_X7_stone rfl hd_X7_stone rfl hM dL_law_489 (List.range' 0 62) (nz_mapR (nz_wX g a X) [] (nz_wM g c M)) nd_0_62 0 rfl rfl rfl (Nat.le_of_ble_eq_true rfl) rfl) h (fun X1 => nz_wX g a X1 ++ nz_wM g c M) (fun X1 => nz_mrgR (nz_wX g a X) (nz_wX g a X1) [] (nz_wM g c M) rfl) (fun r1 X1 h => ?_)
  refine nz_aload_n F dL_law_492 rfl 1 rfl ?_
  refine nz_aload_n F dL_law_493 rfl 3 rfl ?_
  refine nz_iload_n F dL_law_494 rfl 0 rfl ?_
  refine nz_iconst (v := 1) F dL_law_495 (by decide) ?_
  refine nz_iadd F dL_law_496 ?_
  refine nz_sld F hX hbl hbA (hin 1 (by decide) (by decide)) dL_law_497 ?_
  refine nz_aload_n F dL_law_498 rfl 3 rfl ?_
  refine nz_iload_n F dL_law_499 rfl 0 rfl ?_
  refine nz_iconst (v := 2) F dL_law_500 (by decide) ?_
  refine nz_iadd F dL_law_501 ?_
  refine nz_sld F hX hbl hbA (hin 2 (by decide) (by decide)) dL_law_502 ?_
  refine k_X8_stone c M (xs (x3 + 1).toNatClampNeg) (xs (x3 + 2).toNatClampNeg) (fun hM => nz_runV F gL_law_X8_stone rfl hd_X8_stone rfl hM dL_law_503 (List.range' 62 14) (by rw [show nz_wX g a X1 ++ nz_wM g c M = nz_wX g a X1 ++ (nz_wM g c M ++ []) by rw [List.append_nil]]; exact nz_mapR (nz_wM g c M) (nz_wX g a X1) []) nd_62_14 62 rfl rfl rfl (Nat.le_of_ble_eq_true rfl) rfl) h (fun M1 => nz_wX g a X1 ++ nz_wM g c M1) (fun M1 => by rw [show nz_wX g a X1 ++ nz_wM g c M = nz_wX g a X1 ++ (nz_wM g c M ++ []) by rw [List.append_nil]]; exact (nz_mrgR (nz_wM g c M) (nz_wM g c M1) (nz_wX g a X1) [] rfl).trans (by rw [List.append_nil])) (fun r2 M1 h => ?_)
  obtain ⟨e, hR1⟩ := h
  exact nz_icmp_eq (tgt := 1038) F dL_law_506 (by decide) (fun _ => back X1 M1 hR1) (fun q => absurd e q)
set_option maxHeartbeats 4000000 in
set_option maxRecDepth 100000 in
theorem lc_carry {ret : Option FieldType} {y : nz_Y} {g : nz_G} (F : nz_F y g cL_law 4 wsL_law RL ret room_1) {b L : Nat} {xs : Nat → Int32} (hX : va_X b L xs (yz_s y) (yz_s y).heap) (hbl : b < (yz_s y).heap.size) (hbA : ¬ yz_A y b) {a c : Nat → Nat} {X M : Nat → Nat → Int32} (hR : nz_Rel X M) {x3 : Int32} (hin : ∀ j : Int32, 0 ≤ j → j ≤ 5 → vp_in (x3 + j) L) (back : ∀ X' M', nz_Rel X' M' → nz_V y g 76 2804 (nz_wX g a X' ++ nz_wM g c M') 1038 [(3, .int x3), (2, .ref (c 0)), (1, .ref (a 0)), (0, .ref b)] []) : nz_V y g 76 2804 (nz_wX g a X ++ nz_wM g c M) 511 [(3, .int x3), (2, .ref (c 0)), (1, .ref (a 0)), (0, .ref b)] [] := by
  refine nz_aload_n F dL_law_511 rfl 2 rfl ?_
  refine nz_aload_n F dL_law_512 rfl 3 rfl ?_
  refine nz_iload_n F dL_law_513 rfl 0 rfl ?_
  refine nz_iconst (v := 1) F dL_law_514 (by decide) ?_
  refine nz_iadd F dL_law_515 ?_
  refine nz_sld F hX hbl hbA (hin 1 (by decide) (by decide)) dL_law_516 ?_
  refine nz_aload_n F dL_law_517 rfl 3 rfl ?_
  refine nz_iload_n F dL_law_518 rfl 0 rfl ?_
  refine nz_iconst (v := 2) F dL_law_519 (by decide) ?_
  refine nz_iadd F dL_law_520 ?_
  refine nz_sld F hX hbl hbA (hin 2 (by decide) (by decide)) dL_law_521 ?_
  refine nz_aload_n F dL_law_522 rfl 3 rfl ?_
  refine nz_iload_n F dL_law_523 rfl 0 rfl ?_
  refine nz_iconst (v := 3) F dL_law_524 (by decide) ?_
  refine nz_iadd F dL_law_525 ?_
  refine nz_sld F hX hbl hbA (hin 3 (by decide) (by decide)) dL_law_526 ?_
  have h := pub_carry hR (xs (x3 + 1).toNatClampNeg) (xs (x3 + 2).toNatClampNeg) (xs (x3 + 3).toNatClampNeg)
  refine k_X7_carry a X (xs (x3 + 1).toNatClampNeg) (xs (x3 + 2).toNatClampNeg) (xs (x3 + 3).toNatClampNeg) (fun hM => nz_runV F gL_law_X7_carry rfl hd_X7_carry rfl hM dL_law_527 (List.range' 0 62) (nz_mapR (nz_wX g a X) [] (nz_wM g c M)) nd_0_62 0 rfl rfl rfl (Nat.le_of_ble_eq_true rfl) rfl) h (fun X1 => nz_wX g a X1 ++ nz_wM g c M) (fun X1 => nz_mrgR (nz_wX g a X) (nz_wX g a X1) [] (nz_wM g c M) rfl) (fun r1 X1 h => ?_)
  refine nz_aload_n F dL_law_530 rfl 1 rfl ?_
  refine nz_aload_n F dL_law_531 rfl 3 rfl ?_
  refine nz_iload_n F dL_law_532 rfl 0 rfl ?_
  refine nz_iconst (v := 1) F dL_law_533 (by decide) ?_
  refine nz_iadd F dL_law_534 ?_
  refine nz_sld F hX hbl hbA (hin 1 (by decide) (by decide)) dL_law_535 ?_
  refine nz_aload_n F dL_law_536 rfl 3 rfl ?_
  refine nz_iload_n F dL_law_537 rfl 0 rfl ?_
  refine nz_iconst (v := 2) F dL_law_538 (by decide) ?_
  refine nz_iadd F dL_law_539 ?_
  refine nz_sld F hX hbl hbA (hin 2 (by decide) (by decide)) dL_law_540 ?_
  refine nz_aload_n F dL_law_541 rfl 3 rfl ?_
  refine nz_iload_n F dL_law_542 rfl 0 rfl ?_
  refine nz_iconst (v := 3) F dL_law_543 (by decide) ?_
  refine nz_iadd F dL_law_544 ?_
  refine nz_sld F hX hbl hbA (hin 3 (by decide) (by decide)) dL_law_545 ?_
  refine k_X8_carry c M (xs (x3 + 1).toNatClampNeg) (xs (x3 + 2).toNatClampNeg) (xs (x3 + 3).toNatClampNeg) (fun hM => nz_runV F gL_law_X8_carry rfl hd_X8_carry rfl hM dL_law_546 (List.range' 62 14) (by rw [show nz_wX g a X1 ++ nz_wM g c M = nz_wX g a X1 ++ (nz_wM g c M ++ []) by rw [List.append_nil]]; exact nz_mapR (nz_wM g c M) (nz_wX g a X1) []) nd_62_14 62 rfl rfl rfl (Nat.le_of_ble_eq_true rfl) rfl) h (fun M1 => nz_wX g a X1 ++ nz_wM g c M1) (fun M1 => by rw [show nz_wX g a X1 ++ nz_wM g c M = nz_wX g a X1 ++ (nz_wM g c M ++ []) by rw [List.append_nil]]; exact (nz_mrgR (nz_wM g c M) (nz_wM g c M1) (nz_wX g a X1) [] rfl).trans (by rw [List.append_nil])) (fun r2 M1 h => ?_)
  obtain ⟨e, hR1⟩ := h
  exact nz_icmp_eq (tgt := 1038) F dL_law_549 (by decide) (fun _ => back X1 M1 hR1) (fun q => absurd e q)
set_option maxHeartbeats 4000000 in
set_option maxRecDepth 100000 in
theorem lc_time {ret : Option FieldType} {y : nz_Y} {g : nz_G} (F : nz_F y g cL_law 4 wsL_law RL ret room_1) {b L : Nat} {xs : Nat → Int32} (hX : va_X b L xs (yz_s y) (yz_s y).heap) (hbl : b < (yz_s y).heap.size) (hbA : ¬ yz_A y b) {a c : Nat → Nat} {X M : Nat → Nat → Int32} (hR : nz_Rel X M) {x3 : Int32} (hin : ∀ j : Int32, 0 ≤ j → j ≤ 5 → vp_in (x3 + j) L) (back : ∀ X' M', nz_Rel X' M' → nz_V y g 76 2804 (nz_wX g a X' ++ nz_wM g c M') 1038 [(3, .int x3), (2, .ref (c 0)), (1, .ref (a 0)), (0, .ref b)] []) : nz_V y g 76 2804 (nz_wX g a X ++ nz_wM g c M) 554 [(3, .int x3), (2, .ref (c 0)), (1, .ref (a 0)), (0, .ref b)] [] := by
  refine nz_aload_n F dL_law_554 rfl 2 rfl ?_
  refine nz_aload_n F dL_law_555 rfl 3 rfl ?_
  refine nz_iload_n F dL_law_556 rfl 0 rfl ?_
  refine nz_iconst (v := 1) F dL_law_557 (by decide) ?_
  refine nz_iadd F dL_law_558 ?_
  refine nz_sld F hX hbl hbA (hin 1 (by decide) (by decide)) dL_law_559 ?_
  refine nz_aload_n F dL_law_560 rfl 3 rfl ?_
  refine nz_iload_n F dL_law_561 rfl 0 rfl ?_
  refine nz_iconst (v := 2) F dL_law_562 (by decide) ?_
  refine nz_iadd F dL_law_563 ?_
  refine nz_sld F hX hbl hbA (hin 2 (by decide) (by decide)) dL_law_564 ?_
  refine nz_aload_n F dL_law_565 rfl 3 rfl ?_
  refine nz_iload_n F dL_law_566 rfl 0 rfl ?_
  refine nz_iconst (v := 3) F dL_law_567 (by decide) ?_
  refine nz_iadd F dL_law_568 ?_
  refine nz_sld F hX hbl hbA (hin 3 (by decide) (by decide)) dL_law_569 ?_
  refine nz_aload_n F dL_law_570 rfl 3 rfl ?_
  refine nz_iload_n F dL_law_571 rfl 0 rfl ?_
  refine nz_iconst (v := 4) F dL_law_572 (by decide) ?_
  refine nz_iadd F dL_law_573 ?_
  refine nz_sld F hX hbl hbA (hin 4 (by decide) (by decide)) dL_law_574 ?_
  have h := pub_time hR (xs (x3 + 1).toNatClampNeg) (xs (x3 + 2).toNatClampNeg) (xs (x3 + 3).toNatClampNeg) (xs (x3 + 4).toNatClampNeg)
  refine k_X7_time a X (xs (x3 + 1).toNatClampNeg) (xs (x3 + 2).toNatClampNeg) (xs (x3 + 3).toNatClampNeg) (xs (x3 + 4).toNatClampNeg) (fun hM => nz_runV F gL_law_X7_time rfl hd_X7_time rfl hM dL_law_575 (List.range' 0 62) (nz_mapR (nz_wX g a X) [] (nz_wM g c M)) nd_0_62 0 rfl rfl rfl (Nat.le_of_ble_eq_true rfl) rfl) h (fun X1 => nz_wX g a X1 ++ nz_wM g c M) (fun X1 => nz_mrgR (nz_wX g a X) (nz_wX g a X1) [] (nz_wM g c M) rfl) (fun r1 X1 h => ?_)
  refine nz_aload_n F dL_law_578 rfl 1 rfl ?_
  refine nz_aload_n F dL_law_579 rfl 3 rfl ?_
  refine nz_iload_n F dL_law_580 rfl 0 rfl ?_
  refine nz_iconst (v := 1) F dL_law_581 (by decide) ?_
  refine nz_iadd F dL_law_582 ?_
  refine nz_sld F hX hbl hbA (hin 1 (by decide) (by decide)) dL_law_583 ?_
  refine nz_aload_n F dL_law_584 rfl 3 rfl ?_
  refine nz_iload_n F dL_law_585 rfl 0 rfl ?_
  refine nz_iconst (v := 2) F dL_law_586 (by decide) ?_
  refine nz_iadd F dL_law_587 ?_
  refine nz_sld F hX hbl hbA (hin 2 (by decide) (by decide)) dL_law_588 ?_
  refine nz_aload_n F dL_law_589 rfl 3 rfl ?_
  refine nz_iload_n F dL_law_590 rfl 0 rfl ?_
  refine nz_iconst (v := 3) F dL_law_591 (by decide) ?_
  refine nz_iadd F dL_law_592 ?_
  refine nz_sld F hX hbl hbA (hin 3 (by decide) (by decide)) dL_law_593 ?_
  refine nz_aload_n F dL_law_594 rfl 3 rfl ?_
  refine nz_iload_n F dL_law_595 rfl 0 rfl ?_
  refine nz_iconst (v := 4) F dL_law_596 (by decide) ?_
  refine nz_iadd F dL_law_597 ?_
  refine nz_sld F hX hbl hbA (hin 4 (by decide) (by decide)) dL_law_598 ?_
  refine k_X8_time c M (xs (x3 + 1).toNatClampNeg) (xs (x3 + 2).toNatClampNeg) (xs (x3 + 3).toNatClampNeg) (xs (x3 + 4).toNatClampNeg) (fun hM => nz_runV F gL_law_X8_time rfl hd_X8_time rfl hM dL_law_599 (List.range' 62 14) (by rw [show nz_wX g a X1 ++ nz_wM g c M = nz_wX g a X1 ++ (nz_wM g c M ++ []) by rw [List.append_nil]]; exact nz_mapR (nz_wM g c M) (nz_wX g a X1) []) nd_62_14 62 rfl rfl rfl (Nat.le_of_ble_eq_true rfl) rfl) h (fun M1 => nz_wX g a X1 ++ nz_wM g c M1) (fun M1 => by rw [show nz_wX g a X1 ++ nz_wM g c M = nz_wX g a X1 ++ (nz_wM g c M ++ []) by rw [List.append_nil]]; exact (nz_mrgR (nz_wM g c M) (nz_wM g c M1) (nz_wX g a X1) [] rfl).trans (by rw [List.append_nil])) (fun r2 M1 h => ?_)
  obtain ⟨e, hR1⟩ := h
  exact nz_icmp_eq (tgt := 1038) F dL_law_602 (by decide) (fun _ => back X1 M1 hR1) (fun q => absurd e q)
set_option maxHeartbeats 4000000 in
set_option maxRecDepth 100000 in
theorem lc_times {ret : Option FieldType} {y : nz_Y} {g : nz_G} (F : nz_F y g cL_law 4 wsL_law RL ret room_1) {b L : Nat} {xs : Nat → Int32} (hX : va_X b L xs (yz_s y) (yz_s y).heap) (hbl : b < (yz_s y).heap.size) (hbA : ¬ yz_A y b) {a c : Nat → Nat} {X M : Nat → Nat → Int32} (hR : nz_Rel X M) {x3 : Int32} (hin : ∀ j : Int32, 0 ≤ j → j ≤ 5 → vp_in (x3 + j) L) (back : ∀ X' M', nz_Rel X' M' → nz_V y g 76 2804 (nz_wX g a X' ++ nz_wM g c M') 1038 [(3, .int x3), (2, .ref (c 0)), (1, .ref (a 0)), (0, .ref b)] []) : nz_V y g 76 2804 (nz_wX g a X ++ nz_wM g c M) 607 [(3, .int x3), (2, .ref (c 0)), (1, .ref (a 0)), (0, .ref b)] [] := by
  refine nz_aload_n F dL_law_607 rfl 2 rfl ?_
  refine nz_aload_n F dL_law_608 rfl 3 rfl ?_
  refine nz_iload_n F dL_law_609 rfl 0 rfl ?_
  refine nz_iconst (v := 1) F dL_law_610 (by decide) ?_
  refine nz_iadd F dL_law_611 ?_
  refine nz_sld F hX hbl hbA (hin 1 (by decide) (by decide)) dL_law_612 ?_
  refine nz_aload_n F dL_law_613 rfl 3 rfl ?_
  refine nz_iload_n F dL_law_614 rfl 0 rfl ?_
  refine nz_iconst (v := 2) F dL_law_615 (by decide) ?_
  refine nz_iadd F dL_law_616 ?_
  refine nz_sld F hX hbl hbA (hin 2 (by decide) (by decide)) dL_law_617 ?_
  refine nz_aload_n F dL_law_618 rfl 3 rfl ?_
  refine nz_iload_n F dL_law_619 rfl 0 rfl ?_
  refine nz_iconst (v := 3) F dL_law_620 (by decide) ?_
  refine nz_iadd F dL_law_621 ?_
  refine nz_sld F hX hbl hbA (hin 3 (by decide) (by decide)) dL_law_622 ?_
  have h := pub_times hR (xs (x3 + 1).toNatClampNeg) (xs (x3 + 2).toNatClampNeg) (xs (x3 + 3).toNatClampNeg)
  refine k_X7_times a X (xs (x3 + 1).toNatClampNeg) (xs (x3 + 2).toNatClampNeg) (xs (x3 + 3).toNatClampNeg) (fun hM => nz_runV F gL_law_X7_times rfl hd_X7_times rfl hM dL_law_623 (List.range' 0 62) (nz_mapR (nz_wX g a X) [] (nz_wM g c M)) nd_0_62 0 rfl rfl rfl (Nat.le_of_ble_eq_true rfl) rfl) h (fun X1 => nz_wX g a X1 ++ nz_wM g c M) (fun X1 => nz_mrgR (nz_wX g a X) (nz_wX g a X1) [] (nz_wM g c M) rfl) (fun r1 X1 h => ?_)
  refine nz_aload_n F dL_law_626 rfl 1 rfl ?_
  refine nz_aload_n F dL_law_627 rfl 3 rfl ?_
  refine nz_iload_n F dL_law_628 rfl 0 rfl ?_
  refine nz_iconst (v := 1) F dL_law_629 (by decide) ?_
  refine nz_iadd F dL_law_630 ?_
  refine nz_sld F hX hbl hbA (hin 1 (by decide) (by decide)) dL_law_631 ?_
  refine nz_aload_n F dL_law_632 rfl 3 rfl ?_
  refine nz_iload_n F dL_law_633 rfl 0 rfl ?_
  refine nz_iconst (v := 2) F dL_law_634 (by decide) ?_
  refine nz_iadd F dL_law_635 ?_
  refine nz_sld F hX hbl hbA (hin 2 (by decide) (by decide)) dL_law_636 ?_
  refine nz_aload_n F dL_law_637 rfl 3 rfl ?_
  refine nz_iload_n F dL_law_638 rfl 0 rfl ?_
  refine nz_iconst (v := 3) F dL_law_639 (by decide) ?_
  refine nz_iadd F dL_law_640 ?_
  refine nz_sld F hX hbl hbA (hin 3 (by decide) (by decide)) dL_law_641 ?_
  refine k_X8_times c M (xs (x3 + 1).toNatClampNeg) (xs (x3 + 2).toNatClampNeg) (xs (x3 + 3).toNatClampNeg) (fun hM => nz_runV F gL_law_X8_times rfl hd_X8_times rfl hM dL_law_642 (List.range' 62 14) (by rw [show nz_wX g a X1 ++ nz_wM g c M = nz_wX g a X1 ++ (nz_wM g c M ++ []) by rw [List.append_nil]]; exact nz_mapR (nz_wM g c M) (nz_wX g a X1) []) nd_62_14 62 rfl rfl rfl (Nat.le_of_ble_eq_true rfl) rfl) h (fun M1 => nz_wX g a X1 ++ nz_wM g c M1) (fun M1 => by rw [show nz_wX g a X1 ++ nz_wM g c M = nz_wX g a X1 ++ (nz_wM g c M ++ []) by rw [List.append_nil]]; exact (nz_mrgR (nz_wM g c M) (nz_wM g c M1) (nz_wX g a X1) [] rfl).trans (by rw [List.append_nil])) (fun r2 M1 h => ?_)
  obtain ⟨e, hR1⟩ := h
  exact nz_icmp_eq (tgt := 1038) F dL_law_645 (by decide) (fun _ => back X1 M1 hR1) (fun q => absurd e q)
set_option maxHeartbeats 4000000 in
set_option maxRecDepth 100000 in
theorem lc_forget {ret : Option FieldType} {y : nz_Y} {g : nz_G} (F : nz_F y g cL_law 4 wsL_law RL ret room_1) {b L : Nat} {xs : Nat → Int32} (hX : va_X b L xs (yz_s y) (yz_s y).heap) (hbl : b < (yz_s y).heap.size) (hbA : ¬ yz_A y b) {a c : Nat → Nat} {X M : Nat → Nat → Int32} (hR : nz_Rel X M) {x3 : Int32} (hin : ∀ j : Int32, 0 ≤ j → j ≤ 5 → vp_in (x3 + j) L) (back : ∀ X' M', nz_Rel X' M' → nz_V y g 76 2804 (nz_wX g a X' ++ nz_wM g c M') 1038 [(3, .int x3), (2, .ref (c 0)), (1, .ref (a 0)), (0, .ref b)] []) : nz_V y g 76 2804 (nz_wX g a X ++ nz_wM g c M) 650 [(3, .int x3), (2, .ref (c 0)), (1, .ref (a 0)), (0, .ref b)] [] := by
  refine nz_aload_n F dL_law_650 rfl 2 rfl ?_
  have h := pub_forget hR
  refine k_X7_forget a X  (fun hM => nz_runV F gL_law_X7_forget rfl hd_X7_forget rfl hM dL_law_651 (List.range' 0 62) (nz_mapR (nz_wX g a X) [] (nz_wM g c M)) nd_0_62 0 rfl rfl rfl (Nat.le_of_ble_eq_true rfl) rfl) h (fun X1 => nz_wX g a X1 ++ nz_wM g c M) (fun X1 => nz_mrgR (nz_wX g a X) (nz_wX g a X1) [] (nz_wM g c M) rfl) (fun r1 X1 h => ?_)
  refine nz_aload_n F dL_law_654 rfl 1 rfl ?_
  refine k_X8_forget c M  (fun hM => nz_runV F gL_law_X8_forget rfl hd_X8_forget rfl hM dL_law_655 (List.range' 62 14) (by rw [show nz_wX g a X1 ++ nz_wM g c M = nz_wX g a X1 ++ (nz_wM g c M ++ []) by rw [List.append_nil]]; exact nz_mapR (nz_wM g c M) (nz_wX g a X1) []) nd_62_14 62 rfl rfl rfl (Nat.le_of_ble_eq_true rfl) rfl) h (fun M1 => nz_wX g a X1 ++ nz_wM g c M1) (fun M1 => by rw [show nz_wX g a X1 ++ nz_wM g c M = nz_wX g a X1 ++ (nz_wM g c M ++ []) by rw [List.append_nil]]; exact (nz_mrgR (nz_wM g c M) (nz_wM g c M1) (nz_wX g a X1) [] rfl).trans (by rw [List.append_nil])) (fun r2 M1 h => ?_)
  obtain ⟨e, hR1⟩ := h
  exact nz_icmp_eq (tgt := 1038) F dL_law_658 (by decide) (fun _ => back X1 M1 hR1) (fun q => absurd e q)
set_option maxHeartbeats 4000000 in
set_option maxRecDepth 100000 in
theorem lc_ends {ret : Option FieldType} {y : nz_Y} {g : nz_G} (F : nz_F y g cL_law 4 wsL_law RL ret room_1) {b L : Nat} {xs : Nat → Int32} (hX : va_X b L xs (yz_s y) (yz_s y).heap) (hbl : b < (yz_s y).heap.size) (hbA : ¬ yz_A y b) {a c : Nat → Nat} {X M : Nat → Nat → Int32} (hR : nz_Rel X M) {x3 : Int32} (hin : ∀ j : Int32, 0 ≤ j → j ≤ 5 → vp_in (x3 + j) L) (back : ∀ X' M', nz_Rel X' M' → nz_V y g 76 2804 (nz_wX g a X' ++ nz_wM g c M') 1038 [(3, .int x3), (2, .ref (c 0)), (1, .ref (a 0)), (0, .ref b)] []) : nz_V y g 76 2804 (nz_wX g a X ++ nz_wM g c M) 663 [(3, .int x3), (2, .ref (c 0)), (1, .ref (a 0)), (0, .ref b)] [] := by
  refine nz_aload_n F dL_law_663 rfl 2 rfl ?_
  refine nz_aload_n F dL_law_664 rfl 3 rfl ?_
  refine nz_iload_n F dL_law_665 rfl 0 rfl ?_
  refine nz_iconst (v := 1) F dL_law_666 (by decide) ?_
  refine nz_iadd F dL_law_667 ?_
  refine nz_sld F hX hbl hbA (hin 1 (by decide) (by decide)) dL_law_668 ?_
  refine nz_aload_n F dL_law_669 rfl 3 rfl ?_
  refine nz_iload_n F dL_law_670 rfl 0 rfl ?_
  refine nz_iconst (v := 2) F dL_law_671 (by decide) ?_
  refine nz_iadd F dL_law_672 ?_
  refine nz_sld F hX hbl hbA (hin 2 (by decide) (by decide)) dL_law_673 ?_
  refine nz_aload_n F dL_law_674 rfl 3 rfl ?_
  refine nz_iload_n F dL_law_675 rfl 0 rfl ?_
  refine nz_iconst (v := 3) F dL_law_676 (by decide) ?_
  refine nz_iadd F dL_law_677 ?_
  refine nz_sld F hX hbl hbA (hin 3 (by decide) (by decide)) dL_law_678 ?_
  have h := pub_ends hR (xs (x3 + 1).toNatClampNeg) (xs (x3 + 2).toNatClampNeg) (xs (x3 + 3).toNatClampNeg)
  refine k_X7_ends a X (xs (x3 + 1).toNatClampNeg) (xs (x3 + 2).toNatClampNeg) (xs (x3 + 3).toNatClampNeg) (fun hM => nz_runV F gL_law_X7_ends rfl hd_X7_ends rfl hM dL_law_679 (List.range' 0 62) (nz_mapR (nz_wX g a X) [] (nz_wM g c M)) nd_0_62 0 rfl rfl rfl (Nat.le_of_ble_eq_true rfl) rfl) h (fun X1 => nz_wX g a X1 ++ nz_wM g c M) (fun X1 => nz_mrgR (nz_wX g a X) (nz_wX g a X1) [] (nz_wM g c M) rfl) (fun r1 X1 h => ?_)
  refine nz_aload_n F dL_law_682 rfl 1 rfl ?_
  refine nz_aload_n F dL_law_683 rfl 3 rfl ?_
  refine nz_iload_n F dL_law_684 rfl 0 rfl ?_
  refine nz_iconst (v := 1) F dL_law_685 (by decide) ?_
  refine nz_iadd F dL_law_686 ?_
  refine nz_sld F hX hbl hbA (hin 1 (by decide) (by decide)) dL_law_687 ?_
  refine nz_aload_n F dL_law_688 rfl 3 rfl ?_
  refine nz_iload_n F dL_law_689 rfl 0 rfl ?_
  refine nz_iconst (v := 2) F dL_law_690 (by decide) ?_
  refine nz_iadd F dL_law_691 ?_
  refine nz_sld F hX hbl hbA (hin 2 (by decide) (by decide)) dL_law_692 ?_
  refine nz_aload_n F dL_law_693 rfl 3 rfl ?_
  refine nz_iload_n F dL_law_694 rfl 0 rfl ?_
  refine nz_iconst (v := 3) F dL_law_695 (by decide) ?_
  refine nz_iadd F dL_law_696 ?_
  refine nz_sld F hX hbl hbA (hin 3 (by decide) (by decide)) dL_law_697 ?_
  refine k_X8_ends c M (xs (x3 + 1).toNatClampNeg) (xs (x3 + 2).toNatClampNeg) (xs (x3 + 3).toNatClampNeg) (fun hM => nz_runV F gL_law_X8_ends rfl hd_X8_ends rfl hM dL_law_698 (List.range' 62 14) (by rw [show nz_wX g a X1 ++ nz_wM g c M = nz_wX g a X1 ++ (nz_wM g c M ++ []) by rw [List.append_nil]]; exact nz_mapR (nz_wM g c M) (nz_wX g a X1) []) nd_62_14 62 rfl rfl rfl (Nat.le_of_ble_eq_true rfl) rfl) h (fun M1 => nz_wX g a X1 ++ nz_wM g c M1) (fun M1 => by rw [show nz_wX g a X1 ++ nz_wM g c M = nz_wX g a X1 ++ (nz_wM g c M ++ []) by rw [List.append_nil]]; exact (nz_mrgR (nz_wM g c M) (nz_wM g c M1) (nz_wX g a X1) [] rfl).trans (by rw [List.append_nil])) (fun r2 M1 h => ?_)
  obtain ⟨e, hR1⟩ := h
  exact nz_icmp_eq (tgt := 1038) F dL_law_701 (by decide) (fun _ => back X1 M1 hR1) (fun q => absurd e q)
set_option maxHeartbeats 4000000 in
set_option maxRecDepth 100000 in
theorem lc_widest {ret : Option FieldType} {y : nz_Y} {g : nz_G} (F : nz_F y g cL_law 4 wsL_law RL ret room_1) {b L : Nat} {xs : Nat → Int32} (hX : va_X b L xs (yz_s y) (yz_s y).heap) (hbl : b < (yz_s y).heap.size) (hbA : ¬ yz_A y b) {a c : Nat → Nat} {X M : Nat → Nat → Int32} (hR : nz_Rel X M) {x3 : Int32} (hin : ∀ j : Int32, 0 ≤ j → j ≤ 5 → vp_in (x3 + j) L) (back : ∀ X' M', nz_Rel X' M' → nz_V y g 76 2804 (nz_wX g a X' ++ nz_wM g c M') 1038 [(3, .int x3), (2, .ref (c 0)), (1, .ref (a 0)), (0, .ref b)] []) : nz_V y g 76 2804 (nz_wX g a X ++ nz_wM g c M) 706 [(3, .int x3), (2, .ref (c 0)), (1, .ref (a 0)), (0, .ref b)] [] := by
  refine nz_aload_n F dL_law_706 rfl 2 rfl ?_
  have h := pub_widest hR
  refine k_X7_widest a X  (fun hM => nz_runV F gL_law_X7_widest rfl hd_X7_widest rfl hM dL_law_707 (List.range' 0 62) (nz_mapR (nz_wX g a X) [] (nz_wM g c M)) nd_0_62 0 rfl rfl rfl (Nat.le_of_ble_eq_true rfl) rfl) h (fun X1 => nz_wX g a X1 ++ nz_wM g c M) (fun X1 => nz_mrgR (nz_wX g a X) (nz_wX g a X1) [] (nz_wM g c M) rfl) (fun r1 X1 h => ?_)
  refine nz_aload_n F dL_law_710 rfl 1 rfl ?_
  refine k_X8_widest c M  (fun hM => nz_runV F gL_law_X8_widest rfl hd_X8_widest rfl hM dL_law_711 (List.range' 62 14) (by rw [show nz_wX g a X1 ++ nz_wM g c M = nz_wX g a X1 ++ (nz_wM g c M ++ []) by rw [List.append_nil]]; exact nz_mapR (nz_wM g c M) (nz_wX g a X1) []) nd_62_14 62 rfl rfl rfl (Nat.le_of_ble_eq_true rfl) rfl) h (fun M1 => nz_wX g a X1 ++ nz_wM g c M1) (fun M1 => by rw [show nz_wX g a X1 ++ nz_wM g c M = nz_wX g a X1 ++ (nz_wM g c M ++ []) by rw [List.append_nil]]; exact (nz_mrgR (nz_wM g c M) (nz_wM g c M1) (nz_wX g a X1) [] rfl).trans (by rw [List.append_nil])) (fun r2 M1 h => ?_)
  obtain ⟨e, hR1⟩ := h
  exact nz_icmp_eq (tgt := 1038) F dL_law_714 (by decide) (fun _ => back X1 M1 hR1) (fun q => absurd e q)
set_option maxHeartbeats 4000000 in
set_option maxRecDepth 100000 in
theorem lc_rest {ret : Option FieldType} {y : nz_Y} {g : nz_G} (F : nz_F y g cL_law 4 wsL_law RL ret room_1) {b L : Nat} {xs : Nat → Int32} (hX : va_X b L xs (yz_s y) (yz_s y).heap) (hbl : b < (yz_s y).heap.size) (hbA : ¬ yz_A y b) {a c : Nat → Nat} {X M : Nat → Nat → Int32} (hR : nz_Rel X M) {x3 : Int32} (hin : ∀ j : Int32, 0 ≤ j → j ≤ 5 → vp_in (x3 + j) L) (back : ∀ X' M', nz_Rel X' M' → nz_V y g 76 2804 (nz_wX g a X' ++ nz_wM g c M') 1038 [(3, .int x3), (2, .ref (c 0)), (1, .ref (a 0)), (0, .ref b)] []) : nz_V y g 76 2804 (nz_wX g a X ++ nz_wM g c M) 719 [(3, .int x3), (2, .ref (c 0)), (1, .ref (a 0)), (0, .ref b)] [] := by
  refine nz_aload_n F dL_law_719 rfl 2 rfl ?_
  have h := pub_rest hR
  refine k_X7_rest a X  (fun hM => nz_runV F gL_law_X7_rest rfl hd_X7_rest rfl hM dL_law_720 (List.range' 0 62) (nz_mapR (nz_wX g a X) [] (nz_wM g c M)) nd_0_62 0 rfl rfl rfl (Nat.le_of_ble_eq_true rfl) rfl) h (fun X1 => nz_wX g a X1 ++ nz_wM g c M) (fun X1 => nz_mrgR (nz_wX g a X) (nz_wX g a X1) [] (nz_wM g c M) rfl) (fun r1 X1 h => ?_)
  refine nz_aload_n F dL_law_723 rfl 1 rfl ?_
  refine k_X8_rest c M  (fun hM => nz_runV F gL_law_X8_rest rfl hd_X8_rest rfl hM dL_law_724 (List.range' 62 14) (by rw [show nz_wX g a X1 ++ nz_wM g c M = nz_wX g a X1 ++ (nz_wM g c M ++ []) by rw [List.append_nil]]; exact nz_mapR (nz_wM g c M) (nz_wX g a X1) []) nd_62_14 62 rfl rfl rfl (Nat.le_of_ble_eq_true rfl) rfl) h (fun M1 => nz_wX g a X1 ++ nz_wM g c M1) (fun M1 => by rw [show nz_wX g a X1 ++ nz_wM g c M = nz_wX g a X1 ++ (nz_wM g c M ++ []) by rw [List.append_nil]]; exact (nz_mrgR (nz_wM g c M) (nz_wM g c M1) (nz_wX g a X1) [] rfl).trans (by rw [List.append_nil])) (fun r2 M1 h => ?_)
  obtain ⟨e, hR1⟩ := h
  exact nz_icmp_eq (tgt := 1038) F dL_law_727 (by decide) (fun _ => back X1 M1 hR1) (fun q => absurd e q)
set_option maxHeartbeats 4000000 in
set_option maxRecDepth 100000 in
theorem lc_moved {ret : Option FieldType} {y : nz_Y} {g : nz_G} (F : nz_F y g cL_law 4 wsL_law RL ret room_1) {b L : Nat} {xs : Nat → Int32} (hX : va_X b L xs (yz_s y) (yz_s y).heap) (hbl : b < (yz_s y).heap.size) (hbA : ¬ yz_A y b) {a c : Nat → Nat} {X M : Nat → Nat → Int32} (hR : nz_Rel X M) {x3 : Int32} (hin : ∀ j : Int32, 0 ≤ j → j ≤ 5 → vp_in (x3 + j) L) (back : ∀ X' M', nz_Rel X' M' → nz_V y g 76 2804 (nz_wX g a X' ++ nz_wM g c M') 1038 [(3, .int x3), (2, .ref (c 0)), (1, .ref (a 0)), (0, .ref b)] []) : nz_V y g 76 2804 (nz_wX g a X ++ nz_wM g c M) 732 [(3, .int x3), (2, .ref (c 0)), (1, .ref (a 0)), (0, .ref b)] [] := by
  refine nz_aload_n F dL_law_732 rfl 2 rfl ?_
  refine nz_aload_n F dL_law_733 rfl 3 rfl ?_
  refine nz_iload_n F dL_law_734 rfl 0 rfl ?_
  refine nz_iconst (v := 1) F dL_law_735 (by decide) ?_
  refine nz_iadd F dL_law_736 ?_
  refine nz_sld F hX hbl hbA (hin 1 (by decide) (by decide)) dL_law_737 ?_
  have h := pub_moved hR (xs (x3 + 1).toNatClampNeg)
  refine k_X7_moved a X (xs (x3 + 1).toNatClampNeg) (fun hM => nz_runV F gL_law_X7_moved rfl hd_X7_moved rfl hM dL_law_738 (List.range' 0 62) (nz_mapR (nz_wX g a X) [] (nz_wM g c M)) nd_0_62 0 rfl rfl rfl (Nat.le_of_ble_eq_true rfl) rfl) h (fun X1 => nz_wX g a X1 ++ nz_wM g c M) (fun X1 => nz_mrgR (nz_wX g a X) (nz_wX g a X1) [] (nz_wM g c M) rfl) (fun r1 X1 h => ?_)
  refine nz_aload_n F dL_law_741 rfl 1 rfl ?_
  refine nz_aload_n F dL_law_742 rfl 3 rfl ?_
  refine nz_iload_n F dL_law_743 rfl 0 rfl ?_
  refine nz_iconst (v := 1) F dL_law_744 (by decide) ?_
  refine nz_iadd F dL_law_745 ?_
  refine nz_sld F hX hbl hbA (hin 1 (by decide) (by decide)) dL_law_746 ?_
  refine k_X8_moved c M (xs (x3 + 1).toNatClampNeg) (fun hM => nz_runV F gL_law_X8_moved rfl hd_X8_moved rfl hM dL_law_747 (List.range' 62 14) (by rw [show nz_wX g a X1 ++ nz_wM g c M = nz_wX g a X1 ++ (nz_wM g c M ++ []) by rw [List.append_nil]]; exact nz_mapR (nz_wM g c M) (nz_wX g a X1) []) nd_62_14 62 rfl rfl rfl (Nat.le_of_ble_eq_true rfl) rfl) h (fun M1 => nz_wX g a X1 ++ nz_wM g c M1) (fun M1 => by rw [show nz_wX g a X1 ++ nz_wM g c M = nz_wX g a X1 ++ (nz_wM g c M ++ []) by rw [List.append_nil]]; exact (nz_mrgR (nz_wM g c M) (nz_wM g c M1) (nz_wX g a X1) [] rfl).trans (by rw [List.append_nil])) (fun r2 M1 h => ?_)
  obtain ⟨e, hR1⟩ := h
  exact nz_icmp_eq (tgt := 1038) F dL_law_750 (by decide) (fun _ => back X1 M1 hR1) (fun q => absurd e q)
set_option maxHeartbeats 4000000 in
set_option maxRecDepth 100000 in
theorem lc_who {ret : Option FieldType} {y : nz_Y} {g : nz_G} (F : nz_F y g cL_law 4 wsL_law RL ret room_1) {b L : Nat} {xs : Nat → Int32} (hX : va_X b L xs (yz_s y) (yz_s y).heap) (hbl : b < (yz_s y).heap.size) (hbA : ¬ yz_A y b) {a c : Nat → Nat} {X M : Nat → Nat → Int32} (hR : nz_Rel X M) {x3 : Int32} (hin : ∀ j : Int32, 0 ≤ j → j ≤ 5 → vp_in (x3 + j) L) (back : ∀ X' M', nz_Rel X' M' → nz_V y g 76 2804 (nz_wX g a X' ++ nz_wM g c M') 1038 [(3, .int x3), (2, .ref (c 0)), (1, .ref (a 0)), (0, .ref b)] []) : nz_V y g 76 2804 (nz_wX g a X ++ nz_wM g c M) 755 [(3, .int x3), (2, .ref (c 0)), (1, .ref (a 0)), (0, .ref b)] [] := by
  refine nz_aload_n F dL_law_755 rfl 2 rfl ?_
  refine nz_aload_n F dL_law_756 rfl 3 rfl ?_
  refine nz_iload_n F dL_law_757 rfl 0 rfl ?_
  refine nz_iconst (v := 1) F dL_law_758 (by decide) ?_
  refine nz_iadd F dL_law_759 ?_
  refine nz_sld F hX hbl hbA (hin 1 (by decide) (by decide)) dL_law_760 ?_
  refine nz_aload_n F dL_law_761 rfl 3 rfl ?_
  refine nz_iload_n F dL_law_762 rfl 0 rfl ?_
  refine nz_iconst (v := 2) F dL_law_763 (by decide) ?_
  refine nz_iadd F dL_law_764 ?_
  refine nz_sld F hX hbl hbA (hin 2 (by decide) (by decide)) dL_law_765 ?_
  have h := pub_who hR (xs (x3 + 1).toNatClampNeg) (xs (x3 + 2).toNatClampNeg)
  refine k_X7_who a X (xs (x3 + 1).toNatClampNeg) (xs (x3 + 2).toNatClampNeg) (fun hM => nz_runV F gL_law_X7_who rfl hd_X7_who rfl hM dL_law_766 (List.range' 0 62) (nz_mapR (nz_wX g a X) [] (nz_wM g c M)) nd_0_62 0 rfl rfl rfl (Nat.le_of_ble_eq_true rfl) rfl) h (fun X1 => nz_wX g a X1 ++ nz_wM g c M) (fun X1 => nz_mrgR (nz_wX g a X) (nz_wX g a X1) [] (nz_wM g c M) rfl) (fun r1 X1 h => ?_)
  refine nz_aload_n F dL_law_769 rfl 1 rfl ?_
  refine nz_aload_n F dL_law_770 rfl 3 rfl ?_
  refine nz_iload_n F dL_law_771 rfl 0 rfl ?_
  refine nz_iconst (v := 1) F dL_law_772 (by decide) ?_
  refine nz_iadd F dL_law_773 ?_
  refine nz_sld F hX hbl hbA (hin 1 (by decide) (by decide)) dL_law_774 ?_
  refine nz_aload_n F dL_law_775 rfl 3 rfl ?_
  refine nz_iload_n F dL_law_776 rfl 0 rfl ?_
  refine nz_iconst (v := 2) F dL_law_777 (by decide) ?_
  refine nz_iadd F dL_law_778 ?_
  refine nz_sld F hX hbl hbA (hin 2 (by decide) (by decide)) dL_law_779 ?_
  refine k_X8_who c M (xs (x3 + 1).toNatClampNeg) (xs (x3 + 2).toNatClampNeg) (fun hM => nz_runV F gL_law_X8_who rfl hd_X8_who rfl hM dL_law_780 (List.range' 62 14) (by rw [show nz_wX g a X1 ++ nz_wM g c M = nz_wX g a X1 ++ (nz_wM g c M ++ []) by rw [List.append_nil]]; exact nz_mapR (nz_wM g c M) (nz_wX g a X1) []) nd_62_14 62 rfl rfl rfl (Nat.le_of_ble_eq_true rfl) rfl) h (fun M1 => nz_wX g a X1 ++ nz_wM g c M1) (fun M1 => by rw [show nz_wX g a X1 ++ nz_wM g c M = nz_wX g a X1 ++ (nz_wM g c M ++ []) by rw [List.append_nil]]; exact (nz_mrgR (nz_wM g c M) (nz_wM g c M1) (nz_wX g a X1) [] rfl).trans (by rw [List.append_nil])) (fun r2 M1 h => ?_)
  obtain ⟨e, hR1⟩ := h
  exact nz_icmp_eq (tgt := 1038) F dL_law_783 (by decide) (fun _ => back X1 M1 hR1) (fun q => absurd e q)
set_option maxHeartbeats 4000000 in
set_option maxRecDepth 100000 in
theorem lc_dare {ret : Option FieldType} {y : nz_Y} {g : nz_G} (F : nz_F y g cL_law 4 wsL_law RL ret room_1) {b L : Nat} {xs : Nat → Int32} (hX : va_X b L xs (yz_s y) (yz_s y).heap) (hbl : b < (yz_s y).heap.size) (hbA : ¬ yz_A y b) {a c : Nat → Nat} {X M : Nat → Nat → Int32} (hR : nz_Rel X M) {x3 : Int32} (hin : ∀ j : Int32, 0 ≤ j → j ≤ 5 → vp_in (x3 + j) L) (back : ∀ X' M', nz_Rel X' M' → nz_V y g 76 2804 (nz_wX g a X' ++ nz_wM g c M') 1038 [(3, .int x3), (2, .ref (c 0)), (1, .ref (a 0)), (0, .ref b)] []) : nz_V y g 76 2804 (nz_wX g a X ++ nz_wM g c M) 788 [(3, .int x3), (2, .ref (c 0)), (1, .ref (a 0)), (0, .ref b)] [] := by
  refine nz_aload_n F dL_law_788 rfl 2 rfl ?_
  refine nz_aload_n F dL_law_789 rfl 3 rfl ?_
  refine nz_iload_n F dL_law_790 rfl 0 rfl ?_
  refine nz_iconst (v := 1) F dL_law_791 (by decide) ?_
  refine nz_iadd F dL_law_792 ?_
  refine nz_sld F hX hbl hbA (hin 1 (by decide) (by decide)) dL_law_793 ?_
  refine nz_aload_n F dL_law_794 rfl 3 rfl ?_
  refine nz_iload_n F dL_law_795 rfl 0 rfl ?_
  refine nz_iconst (v := 2) F dL_law_796 (by decide) ?_
  refine nz_iadd F dL_law_797 ?_
  refine nz_sld F hX hbl hbA (hin 2 (by decide) (by decide)) dL_law_798 ?_
  have h := pub_dare hR (xs (x3 + 1).toNatClampNeg) (xs (x3 + 2).toNatClampNeg)
  refine k_X7_dare a X (xs (x3 + 1).toNatClampNeg) (xs (x3 + 2).toNatClampNeg) (fun hM => nz_runV F gL_law_X7_dare rfl hd_X7_dare rfl hM dL_law_799 (List.range' 0 62) (nz_mapR (nz_wX g a X) [] (nz_wM g c M)) nd_0_62 0 rfl rfl rfl (Nat.le_of_ble_eq_true rfl) rfl) h (fun X1 => nz_wX g a X1 ++ nz_wM g c M) (fun X1 => nz_mrgR (nz_wX g a X) (nz_wX g a X1) [] (nz_wM g c M) rfl) (fun r1 X1 h => ?_)
  refine nz_aload_n F dL_law_802 rfl 1 rfl ?_
  refine nz_aload_n F dL_law_803 rfl 3 rfl ?_
  refine nz_iload_n F dL_law_804 rfl 0 rfl ?_
  refine nz_iconst (v := 1) F dL_law_805 (by decide) ?_
  refine nz_iadd F dL_law_806 ?_
  refine nz_sld F hX hbl hbA (hin 1 (by decide) (by decide)) dL_law_807 ?_
  refine nz_aload_n F dL_law_808 rfl 3 rfl ?_
  refine nz_iload_n F dL_law_809 rfl 0 rfl ?_
  refine nz_iconst (v := 2) F dL_law_810 (by decide) ?_
  refine nz_iadd F dL_law_811 ?_
  refine nz_sld F hX hbl hbA (hin 2 (by decide) (by decide)) dL_law_812 ?_
  refine k_X8_dare c M (xs (x3 + 1).toNatClampNeg) (xs (x3 + 2).toNatClampNeg) (fun hM => nz_runV F gL_law_X8_dare rfl hd_X8_dare rfl hM dL_law_813 (List.range' 62 14) (by rw [show nz_wX g a X1 ++ nz_wM g c M = nz_wX g a X1 ++ (nz_wM g c M ++ []) by rw [List.append_nil]]; exact nz_mapR (nz_wM g c M) (nz_wX g a X1) []) nd_62_14 62 rfl rfl rfl (Nat.le_of_ble_eq_true rfl) rfl) h (fun M1 => nz_wX g a X1 ++ nz_wM g c M1) (fun M1 => by rw [show nz_wX g a X1 ++ nz_wM g c M = nz_wX g a X1 ++ (nz_wM g c M ++ []) by rw [List.append_nil]]; exact (nz_mrgR (nz_wM g c M) (nz_wM g c M1) (nz_wX g a X1) [] rfl).trans (by rw [List.append_nil])) (fun r2 M1 h => ?_)
  obtain ⟨e, hR1⟩ := h
  exact nz_icmp_eq (tgt := 1038) F dL_law_816 (by decide) (fun _ => back X1 M1 hR1) (fun q => absurd e q)
set_option maxHeartbeats 4000000 in
set_option maxRecDepth 100000 in
theorem lc_best {ret : Option FieldType} {y : nz_Y} {g : nz_G} (F : nz_F y g cL_law 4 wsL_law RL ret room_1) {b L : Nat} {xs : Nat → Int32} (hX : va_X b L xs (yz_s y) (yz_s y).heap) (hbl : b < (yz_s y).heap.size) (hbA : ¬ yz_A y b) {a c : Nat → Nat} {X M : Nat → Nat → Int32} (hR : nz_Rel X M) {x3 : Int32} (hin : ∀ j : Int32, 0 ≤ j → j ≤ 5 → vp_in (x3 + j) L) (back : ∀ X' M', nz_Rel X' M' → nz_V y g 76 2804 (nz_wX g a X' ++ nz_wM g c M') 1038 [(3, .int x3), (2, .ref (c 0)), (1, .ref (a 0)), (0, .ref b)] []) : nz_V y g 76 2804 (nz_wX g a X ++ nz_wM g c M) 821 [(3, .int x3), (2, .ref (c 0)), (1, .ref (a 0)), (0, .ref b)] [] := by
  refine nz_aload_n F dL_law_821 rfl 2 rfl ?_
  refine nz_aload_n F dL_law_822 rfl 3 rfl ?_
  refine nz_iload_n F dL_law_823 rfl 0 rfl ?_
  refine nz_iconst (v := 1) F dL_law_824 (by decide) ?_
  refine nz_iadd F dL_law_825 ?_
  refine nz_sld F hX hbl hbA (hin 1 (by decide) (by decide)) dL_law_826 ?_
  have h := pub_best hR (xs (x3 + 1).toNatClampNeg)
  refine k_X7_best a X (xs (x3 + 1).toNatClampNeg) (fun hM => nz_runV F gL_law_X7_best rfl hd_X7_best rfl hM dL_law_827 (List.range' 0 62) (nz_mapR (nz_wX g a X) [] (nz_wM g c M)) nd_0_62 0 rfl rfl rfl (Nat.le_of_ble_eq_true rfl) rfl) h (fun X1 => nz_wX g a X1 ++ nz_wM g c M) (fun X1 => nz_mrgR (nz_wX g a X) (nz_wX g a X1) [] (nz_wM g c M) rfl) (fun r1 X1 h => ?_)
  refine nz_aload_n F dL_law_830 rfl 1 rfl ?_
  refine nz_aload_n F dL_law_831 rfl 3 rfl ?_
  refine nz_iload_n F dL_law_832 rfl 0 rfl ?_
  refine nz_iconst (v := 1) F dL_law_833 (by decide) ?_
  refine nz_iadd F dL_law_834 ?_
  refine nz_sld F hX hbl hbA (hin 1 (by decide) (by decide)) dL_law_835 ?_
  refine k_X8_best c M (xs (x3 + 1).toNatClampNeg) (fun hM => nz_runV F gL_law_X8_best rfl hd_X8_best rfl hM dL_law_836 (List.range' 62 14) (by rw [show nz_wX g a X1 ++ nz_wM g c M = nz_wX g a X1 ++ (nz_wM g c M ++ []) by rw [List.append_nil]]; exact nz_mapR (nz_wM g c M) (nz_wX g a X1) []) nd_62_14 62 rfl rfl rfl (Nat.le_of_ble_eq_true rfl) rfl) h (fun M1 => nz_wX g a X1 ++ nz_wM g c M1) (fun M1 => by rw [show nz_wX g a X1 ++ nz_wM g c M = nz_wX g a X1 ++ (nz_wM g c M ++ []) by rw [List.append_nil]]; exact (nz_mrgR (nz_wM g c M) (nz_wM g c M1) (nz_wX g a X1) [] rfl).trans (by rw [List.append_nil])) (fun r2 M1 h => ?_)
  obtain ⟨e, hR1⟩ := h
  exact nz_icmp_eq (tgt := 1038) F dL_law_839 (by decide) (fun _ => back X1 M1 hR1) (fun q => absurd e q)
set_option maxHeartbeats 4000000 in
set_option maxRecDepth 100000 in
theorem lc_image {ret : Option FieldType} {y : nz_Y} {g : nz_G} (F : nz_F y g cL_law 4 wsL_law RL ret room_1) {b L : Nat} {xs : Nat → Int32} (hX : va_X b L xs (yz_s y) (yz_s y).heap) (hbl : b < (yz_s y).heap.size) (hbA : ¬ yz_A y b) {a c : Nat → Nat} {X M : Nat → Nat → Int32} (hR : nz_Rel X M) {x3 : Int32} (hin : ∀ j : Int32, 0 ≤ j → j ≤ 5 → vp_in (x3 + j) L) (back : ∀ X' M', nz_Rel X' M' → nz_V y g 76 2804 (nz_wX g a X' ++ nz_wM g c M') 1038 [(3, .int x3), (2, .ref (c 0)), (1, .ref (a 0)), (0, .ref b)] []) : nz_V y g 76 2804 (nz_wX g a X ++ nz_wM g c M) 844 [(3, .int x3), (2, .ref (c 0)), (1, .ref (a 0)), (0, .ref b)] [] := by
  refine nz_aload_n F dL_law_844 rfl 2 rfl ?_
  refine nz_aload_n F dL_law_845 rfl 3 rfl ?_
  refine nz_iload_n F dL_law_846 rfl 0 rfl ?_
  refine nz_iconst (v := 1) F dL_law_847 (by decide) ?_
  refine nz_iadd F dL_law_848 ?_
  refine nz_sld F hX hbl hbA (hin 1 (by decide) (by decide)) dL_law_849 ?_
  have h := pub_image hR (xs (x3 + 1).toNatClampNeg)
  refine k_X7_image a X (xs (x3 + 1).toNatClampNeg) (fun hM => nz_runV F gL_law_X7_image rfl hd_X7_image rfl hM dL_law_850 (List.range' 0 62) (nz_mapR (nz_wX g a X) [] (nz_wM g c M)) nd_0_62 0 rfl rfl rfl (Nat.le_of_ble_eq_true rfl) rfl) h (fun X1 => nz_wX g a X1 ++ nz_wM g c M) (fun X1 => nz_mrgR (nz_wX g a X) (nz_wX g a X1) [] (nz_wM g c M) rfl) (fun r1 X1 h => ?_)
  refine nz_aload_n F dL_law_853 rfl 1 rfl ?_
  refine nz_aload_n F dL_law_854 rfl 3 rfl ?_
  refine nz_iload_n F dL_law_855 rfl 0 rfl ?_
  refine nz_iconst (v := 1) F dL_law_856 (by decide) ?_
  refine nz_iadd F dL_law_857 ?_
  refine nz_sld F hX hbl hbA (hin 1 (by decide) (by decide)) dL_law_858 ?_
  refine k_X8_image c M (xs (x3 + 1).toNatClampNeg) (fun hM => nz_runV F gL_law_X8_image rfl hd_X8_image rfl hM dL_law_859 (List.range' 62 14) (by rw [show nz_wX g a X1 ++ nz_wM g c M = nz_wX g a X1 ++ (nz_wM g c M ++ []) by rw [List.append_nil]]; exact nz_mapR (nz_wM g c M) (nz_wX g a X1) []) nd_62_14 62 rfl rfl rfl (Nat.le_of_ble_eq_true rfl) rfl) h (fun M1 => nz_wX g a X1 ++ nz_wM g c M1) (fun M1 => by rw [show nz_wX g a X1 ++ nz_wM g c M = nz_wX g a X1 ++ (nz_wM g c M ++ []) by rw [List.append_nil]]; exact (nz_mrgR (nz_wM g c M) (nz_wM g c M1) (nz_wX g a X1) [] rfl).trans (by rw [List.append_nil])) (fun r2 M1 h => ?_)
  obtain ⟨e, hR1⟩ := h
  exact nz_icmp_eq (tgt := 1038) F dL_law_862 (by decide) (fun _ => back X1 M1 hR1) (fun q => absurd e q)
set_option maxHeartbeats 4000000 in
set_option maxRecDepth 100000 in
theorem lc_restore {ret : Option FieldType} {y : nz_Y} {g : nz_G} (F : nz_F y g cL_law 4 wsL_law RL ret room_1) {b L : Nat} {xs : Nat → Int32} (hX : va_X b L xs (yz_s y) (yz_s y).heap) (hbl : b < (yz_s y).heap.size) (hbA : ¬ yz_A y b) {a c : Nat → Nat} {X M : Nat → Nat → Int32} (hR : nz_Rel X M) {x3 : Int32} (hin : ∀ j : Int32, 0 ≤ j → j ≤ 5 → vp_in (x3 + j) L) (back : ∀ X' M', nz_Rel X' M' → nz_V y g 76 2804 (nz_wX g a X' ++ nz_wM g c M') 1038 [(3, .int x3), (2, .ref (c 0)), (1, .ref (a 0)), (0, .ref b)] []) : nz_V y g 76 2804 (nz_wX g a X ++ nz_wM g c M) 867 [(3, .int x3), (2, .ref (c 0)), (1, .ref (a 0)), (0, .ref b)] [] := by
  refine nz_aload_n F dL_law_867 rfl 2 rfl ?_
  refine nz_aload_n F dL_law_868 rfl 3 rfl ?_
  refine nz_iload_n F dL_law_869 rfl 0 rfl ?_
  refine nz_iconst (v := 1) F dL_law_870 (by decide) ?_
  refine nz_iadd F dL_law_871 ?_
  refine nz_sld F hX hbl hbA (hin 1 (by decide) (by decide)) dL_law_872 ?_
  have h := pub_restore hR (xs (x3 + 1).toNatClampNeg)
  refine k_X7_restore a X (xs (x3 + 1).toNatClampNeg) (fun hM => nz_runV F gL_law_X7_restore rfl hd_X7_restore rfl hM dL_law_873 (List.range' 0 62) (nz_mapR (nz_wX g a X) [] (nz_wM g c M)) nd_0_62 0 rfl rfl rfl (Nat.le_of_ble_eq_true rfl) rfl) h (fun X1 => nz_wX g a X1 ++ nz_wM g c M) (fun X1 => nz_mrgR (nz_wX g a X) (nz_wX g a X1) [] (nz_wM g c M) rfl) (fun r1 X1 h => ?_)
  refine nz_aload_n F dL_law_876 rfl 1 rfl ?_
  refine nz_aload_n F dL_law_877 rfl 3 rfl ?_
  refine nz_iload_n F dL_law_878 rfl 0 rfl ?_
  refine nz_iconst (v := 1) F dL_law_879 (by decide) ?_
  refine nz_iadd F dL_law_880 ?_
  refine nz_sld F hX hbl hbA (hin 1 (by decide) (by decide)) dL_law_881 ?_
  refine k_X8_restore c M (xs (x3 + 1).toNatClampNeg) (fun hM => nz_runV F gL_law_X8_restore rfl hd_X8_restore rfl hM dL_law_882 (List.range' 62 14) (by rw [show nz_wX g a X1 ++ nz_wM g c M = nz_wX g a X1 ++ (nz_wM g c M ++ []) by rw [List.append_nil]]; exact nz_mapR (nz_wM g c M) (nz_wX g a X1) []) nd_62_14 62 rfl rfl rfl (Nat.le_of_ble_eq_true rfl) rfl) h (fun M1 => nz_wX g a X1 ++ nz_wM g c M1) (fun M1 => by rw [show nz_wX g a X1 ++ nz_wM g c M = nz_wX g a X1 ++ (nz_wM g c M ++ []) by rw [List.append_nil]]; exact (nz_mrgR (nz_wM g c M) (nz_wM g c M1) (nz_wX g a X1) [] rfl).trans (by rw [List.append_nil])) (fun r2 M1 h => ?_)
  obtain ⟨e, hR1⟩ := h
  exact nz_icmp_eq (tgt := 1038) F dL_law_885 (by decide) (fun _ => back X1 M1 hR1) (fun q => absurd e q)
set_option maxHeartbeats 4000000 in
set_option maxRecDepth 100000 in
theorem lc_kind {ret : Option FieldType} {y : nz_Y} {g : nz_G} (F : nz_F y g cL_law 4 wsL_law RL ret room_1) {b L : Nat} {xs : Nat → Int32} (hX : va_X b L xs (yz_s y) (yz_s y).heap) (hbl : b < (yz_s y).heap.size) (hbA : ¬ yz_A y b) {a c : Nat → Nat} {X M : Nat → Nat → Int32} (hR : nz_Rel X M) {x3 : Int32} (hin : ∀ j : Int32, 0 ≤ j → j ≤ 5 → vp_in (x3 + j) L) (back : ∀ X' M', nz_Rel X' M' → nz_V y g 76 2804 (nz_wX g a X' ++ nz_wM g c M') 1038 [(3, .int x3), (2, .ref (c 0)), (1, .ref (a 0)), (0, .ref b)] []) : nz_V y g 76 2804 (nz_wX g a X ++ nz_wM g c M) 890 [(3, .int x3), (2, .ref (c 0)), (1, .ref (a 0)), (0, .ref b)] [] := by
  refine nz_aload_n F dL_law_890 rfl 2 rfl ?_
  refine nz_aload_n F dL_law_891 rfl 3 rfl ?_
  refine nz_iload_n F dL_law_892 rfl 0 rfl ?_
  refine nz_iconst (v := 1) F dL_law_893 (by decide) ?_
  refine nz_iadd F dL_law_894 ?_
  refine nz_sld F hX hbl hbA (hin 1 (by decide) (by decide)) dL_law_895 ?_
  have h := pub_kind hR (xs (x3 + 1).toNatClampNeg)
  refine k_X7_kind a X (xs (x3 + 1).toNatClampNeg) (fun hM => nz_runV F gL_law_X7_kind rfl hd_X7_kind rfl hM dL_law_896 (List.range' 0 62) (nz_mapR (nz_wX g a X) [] (nz_wM g c M)) nd_0_62 0 rfl rfl rfl (Nat.le_of_ble_eq_true rfl) rfl) h (fun X1 => nz_wX g a X1 ++ nz_wM g c M) (fun X1 => nz_mrgR (nz_wX g a X) (nz_wX g a X1) [] (nz_wM g c M) rfl) (fun r1 X1 h => ?_)
  refine nz_aload_n F dL_law_899 rfl 1 rfl ?_
  refine nz_aload_n F dL_law_900 rfl 3 rfl ?_
  refine nz_iload_n F dL_law_901 rfl 0 rfl ?_
  refine nz_iconst (v := 1) F dL_law_902 (by decide) ?_
  refine nz_iadd F dL_law_903 ?_
  refine nz_sld F hX hbl hbA (hin 1 (by decide) (by decide)) dL_law_904 ?_
  refine k_X8_kind c M (xs (x3 + 1).toNatClampNeg) (fun hM => nz_runV F gL_law_X8_kind rfl hd_X8_kind rfl hM dL_law_905 (List.range' 62 14) (by rw [show nz_wX g a X1 ++ nz_wM g c M = nz_wX g a X1 ++ (nz_wM g c M ++ []) by rw [List.append_nil]]; exact nz_mapR (nz_wM g c M) (nz_wX g a X1) []) nd_62_14 62 rfl rfl rfl (Nat.le_of_ble_eq_true rfl) rfl) h (fun M1 => nz_wX g a X1 ++ nz_wM g c M1) (fun M1 => by rw [show nz_wX g a X1 ++ nz_wM g c M = nz_wX g a X1 ++ (nz_wM g c M ++ []) by rw [List.append_nil]]; exact (nz_mrgR (nz_wM g c M) (nz_wM g c M1) (nz_wX g a X1) [] rfl).trans (by rw [List.append_nil])) (fun r2 M1 h => ?_)
  obtain ⟨e, hR1⟩ := h
  exact nz_icmp_eq (tgt := 1038) F dL_law_908 (by decide) (fun _ => back X1 M1 hR1) (fun q => absurd e q)
set_option maxHeartbeats 4000000 in
set_option maxRecDepth 100000 in
theorem lc_as {ret : Option FieldType} {y : nz_Y} {g : nz_G} (F : nz_F y g cL_law 4 wsL_law RL ret room_1) {b L : Nat} {xs : Nat → Int32} (hX : va_X b L xs (yz_s y) (yz_s y).heap) (hbl : b < (yz_s y).heap.size) (hbA : ¬ yz_A y b) {a c : Nat → Nat} {X M : Nat → Nat → Int32} (hR : nz_Rel X M) {x3 : Int32} (hin : ∀ j : Int32, 0 ≤ j → j ≤ 5 → vp_in (x3 + j) L) (back : ∀ X' M', nz_Rel X' M' → nz_V y g 76 2804 (nz_wX g a X' ++ nz_wM g c M') 1038 [(3, .int x3), (2, .ref (c 0)), (1, .ref (a 0)), (0, .ref b)] []) : nz_V y g 76 2804 (nz_wX g a X ++ nz_wM g c M) 913 [(3, .int x3), (2, .ref (c 0)), (1, .ref (a 0)), (0, .ref b)] [] := by
  refine nz_aload_n F dL_law_913 rfl 2 rfl ?_
  refine nz_aload_n F dL_law_914 rfl 3 rfl ?_
  refine nz_iload_n F dL_law_915 rfl 0 rfl ?_
  refine nz_iconst (v := 1) F dL_law_916 (by decide) ?_
  refine nz_iadd F dL_law_917 ?_
  refine nz_sld F hX hbl hbA (hin 1 (by decide) (by decide)) dL_law_918 ?_
  refine nz_aload_n F dL_law_919 rfl 3 rfl ?_
  refine nz_iload_n F dL_law_920 rfl 0 rfl ?_
  refine nz_iconst (v := 2) F dL_law_921 (by decide) ?_
  refine nz_iadd F dL_law_922 ?_
  refine nz_sld F hX hbl hbA (hin 2 (by decide) (by decide)) dL_law_923 ?_
  have h := pub_as hR (xs (x3 + 1).toNatClampNeg) (xs (x3 + 2).toNatClampNeg)
  refine k_X7_as a X (xs (x3 + 1).toNatClampNeg) (xs (x3 + 2).toNatClampNeg) (fun hM => nz_runV F gL_law_X7_as rfl hd_X7_as rfl hM dL_law_924 (List.range' 0 62) (nz_mapR (nz_wX g a X) [] (nz_wM g c M)) nd_0_62 0 rfl rfl rfl (Nat.le_of_ble_eq_true rfl) rfl) h (fun X1 => nz_wX g a X1 ++ nz_wM g c M) (fun X1 => nz_mrgR (nz_wX g a X) (nz_wX g a X1) [] (nz_wM g c M) rfl) (fun r1 X1 h => ?_)
  refine nz_aload_n F dL_law_927 rfl 1 rfl ?_
  refine nz_aload_n F dL_law_928 rfl 3 rfl ?_
  refine nz_iload_n F dL_law_929 rfl 0 rfl ?_
  refine nz_iconst (v := 1) F dL_law_930 (by decide) ?_
  refine nz_iadd F dL_law_931 ?_
  refine nz_sld F hX hbl hbA (hin 1 (by decide) (by decide)) dL_law_932 ?_
  refine nz_aload_n F dL_law_933 rfl 3 rfl ?_
  refine nz_iload_n F dL_law_934 rfl 0 rfl ?_
  refine nz_iconst (v := 2) F dL_law_935 (by decide) ?_
  refine nz_iadd F dL_law_936 ?_
  refine nz_sld F hX hbl hbA (hin 2 (by decide) (by decide)) dL_law_937 ?_
  refine k_X8_as c M (xs (x3 + 1).toNatClampNeg) (xs (x3 + 2).toNatClampNeg) (fun hM => nz_runV F gL_law_X8_as rfl hd_X8_as rfl hM dL_law_938 (List.range' 62 14) (by rw [show nz_wX g a X1 ++ nz_wM g c M = nz_wX g a X1 ++ (nz_wM g c M ++ []) by rw [List.append_nil]]; exact nz_mapR (nz_wM g c M) (nz_wX g a X1) []) nd_62_14 62 rfl rfl rfl (Nat.le_of_ble_eq_true rfl) rfl) h (fun M1 => nz_wX g a X1 ++ nz_wM g c M1) (fun M1 => by rw [show nz_wX g a X1 ++ nz_wM g c M = nz_wX g a X1 ++ (nz_wM g c M ++ []) by rw [List.append_nil]]; exact (nz_mrgR (nz_wM g c M) (nz_wM g c M1) (nz_wX g a X1) [] rfl).trans (by rw [List.append_nil])) (fun r2 M1 h => ?_)
  obtain ⟨e, hR1⟩ := h
  exact nz_icmp_eq (tgt := 1038) F dL_law_941 (by decide) (fun _ => back X1 M1 hR1) (fun q => absurd e q)
set_option maxHeartbeats 4000000 in
set_option maxRecDepth 100000 in
theorem lc_ask {ret : Option FieldType} {y : nz_Y} {g : nz_G} (F : nz_F y g cL_law 4 wsL_law RL ret room_1) {b L : Nat} {xs : Nat → Int32} (hX : va_X b L xs (yz_s y) (yz_s y).heap) (hbl : b < (yz_s y).heap.size) (hbA : ¬ yz_A y b) {a c : Nat → Nat} {X M : Nat → Nat → Int32} (hR : nz_Rel X M) {x3 : Int32} (hin : ∀ j : Int32, 0 ≤ j → j ≤ 5 → vp_in (x3 + j) L) (back : ∀ X' M', nz_Rel X' M' → nz_V y g 76 2804 (nz_wX g a X' ++ nz_wM g c M') 1038 [(3, .int x3), (2, .ref (c 0)), (1, .ref (a 0)), (0, .ref b)] []) : nz_V y g 76 2804 (nz_wX g a X ++ nz_wM g c M) 946 [(3, .int x3), (2, .ref (c 0)), (1, .ref (a 0)), (0, .ref b)] [] := by
  refine nz_aload_n F dL_law_946 rfl 2 rfl ?_
  refine nz_aload_n F dL_law_947 rfl 3 rfl ?_
  refine nz_iload_n F dL_law_948 rfl 0 rfl ?_
  refine nz_iconst (v := 1) F dL_law_949 (by decide) ?_
  refine nz_iadd F dL_law_950 ?_
  refine nz_sld F hX hbl hbA (hin 1 (by decide) (by decide)) dL_law_951 ?_
  refine nz_aload_n F dL_law_952 rfl 3 rfl ?_
  refine nz_iload_n F dL_law_953 rfl 0 rfl ?_
  refine nz_iconst (v := 2) F dL_law_954 (by decide) ?_
  refine nz_iadd F dL_law_955 ?_
  refine nz_sld F hX hbl hbA (hin 2 (by decide) (by decide)) dL_law_956 ?_
  have h := pub_ask hR (xs (x3 + 1).toNatClampNeg) (xs (x3 + 2).toNatClampNeg)
  refine k_X7_ask a X (xs (x3 + 1).toNatClampNeg) (xs (x3 + 2).toNatClampNeg) (fun hM => nz_runV F gL_law_X7_ask rfl hd_X7_ask rfl hM dL_law_957 (List.range' 0 62) (nz_mapR (nz_wX g a X) [] (nz_wM g c M)) nd_0_62 0 rfl rfl rfl (Nat.le_of_ble_eq_true rfl) rfl) h (fun X1 => nz_wX g a X1 ++ nz_wM g c M) (fun X1 => nz_mrgR (nz_wX g a X) (nz_wX g a X1) [] (nz_wM g c M) rfl) (fun r1 X1 h => ?_)
  refine nz_aload_n F dL_law_960 rfl 1 rfl ?_
  refine nz_aload_n F dL_law_961 rfl 3 rfl ?_
  refine nz_iload_n F dL_law_962 rfl 0 rfl ?_
  refine nz_iconst (v := 1) F dL_law_963 (by decide) ?_
  refine nz_iadd F dL_law_964 ?_
  refine nz_sld F hX hbl hbA (hin 1 (by decide) (by decide)) dL_law_965 ?_
  refine nz_aload_n F dL_law_966 rfl 3 rfl ?_
  refine nz_iload_n F dL_law_967 rfl 0 rfl ?_
  refine nz_iconst (v := 2) F dL_law_968 (by decide) ?_
  refine nz_iadd F dL_law_969 ?_
  refine nz_sld F hX hbl hbA (hin 2 (by decide) (by decide)) dL_law_970 ?_
  refine k_X8_ask c M (xs (x3 + 1).toNatClampNeg) (xs (x3 + 2).toNatClampNeg) (fun hM => nz_runV F gL_law_X8_ask rfl hd_X8_ask rfl hM dL_law_971 (List.range' 62 14) (by rw [show nz_wX g a X1 ++ nz_wM g c M = nz_wX g a X1 ++ (nz_wM g c M ++ []) by rw [List.append_nil]]; exact nz_mapR (nz_wM g c M) (nz_wX g a X1) []) nd_62_14 62 rfl rfl rfl (Nat.le_of_ble_eq_true rfl) rfl) h (fun M1 => nz_wX g a X1 ++ nz_wM g c M1) (fun M1 => by rw [show nz_wX g a X1 ++ nz_wM g c M = nz_wX g a X1 ++ (nz_wM g c M ++ []) by rw [List.append_nil]]; exact (nz_mrgR (nz_wM g c M) (nz_wM g c M1) (nz_wX g a X1) [] rfl).trans (by rw [List.append_nil])) (fun r2 M1 h => ?_)
  obtain ⟨e, hR1⟩ := h
  exact nz_icmp_eq (tgt := 1038) F dL_law_974 (by decide) (fun _ => back X1 M1 hR1) (fun q => absurd e q)
set_option maxHeartbeats 4000000 in
set_option maxRecDepth 100000 in
theorem lc_trace {ret : Option FieldType} {y : nz_Y} {g : nz_G} (F : nz_F y g cL_law 4 wsL_law RL ret room_1) {b L : Nat} {xs : Nat → Int32} (hX : va_X b L xs (yz_s y) (yz_s y).heap) (hbl : b < (yz_s y).heap.size) (hbA : ¬ yz_A y b) {a c : Nat → Nat} {X M : Nat → Nat → Int32} (hR : nz_Rel X M) {x3 : Int32} (hin : ∀ j : Int32, 0 ≤ j → j ≤ 5 → vp_in (x3 + j) L) (back : ∀ X' M', nz_Rel X' M' → nz_V y g 76 2804 (nz_wX g a X' ++ nz_wM g c M') 1038 [(3, .int x3), (2, .ref (c 0)), (1, .ref (a 0)), (0, .ref b)] []) : nz_V y g 76 2804 (nz_wX g a X ++ nz_wM g c M) 979 [(3, .int x3), (2, .ref (c 0)), (1, .ref (a 0)), (0, .ref b)] [] := by
  refine nz_aload_n F dL_law_979 rfl 2 rfl ?_
  refine nz_aload_n F dL_law_980 rfl 3 rfl ?_
  refine nz_iload_n F dL_law_981 rfl 0 rfl ?_
  refine nz_iconst (v := 1) F dL_law_982 (by decide) ?_
  refine nz_iadd F dL_law_983 ?_
  refine nz_sld F hX hbl hbA (hin 1 (by decide) (by decide)) dL_law_984 ?_
  have h := pub_trace hR (xs (x3 + 1).toNatClampNeg)
  refine k_X7_trace a X (xs (x3 + 1).toNatClampNeg) (fun hM => nz_runV F gL_law_X7_trace rfl hd_X7_trace rfl hM dL_law_985 (List.range' 0 62) (nz_mapR (nz_wX g a X) [] (nz_wM g c M)) nd_0_62 0 rfl rfl rfl (Nat.le_of_ble_eq_true rfl) rfl) h (fun X1 => nz_wX g a X1 ++ nz_wM g c M) (fun X1 => nz_mrgR (nz_wX g a X) (nz_wX g a X1) [] (nz_wM g c M) rfl) (fun r1 X1 h => ?_)
  refine nz_aload_n F dL_law_988 rfl 1 rfl ?_
  refine nz_aload_n F dL_law_989 rfl 3 rfl ?_
  refine nz_iload_n F dL_law_990 rfl 0 rfl ?_
  refine nz_iconst (v := 1) F dL_law_991 (by decide) ?_
  refine nz_iadd F dL_law_992 ?_
  refine nz_sld F hX hbl hbA (hin 1 (by decide) (by decide)) dL_law_993 ?_
  refine k_X8_trace c M (xs (x3 + 1).toNatClampNeg) (fun hM => nz_runV F gL_law_X8_trace rfl hd_X8_trace rfl hM dL_law_994 (List.range' 62 14) (by rw [show nz_wX g a X1 ++ nz_wM g c M = nz_wX g a X1 ++ (nz_wM g c M ++ []) by rw [List.append_nil]]; exact nz_mapR (nz_wM g c M) (nz_wX g a X1) []) nd_62_14 62 rfl rfl rfl (Nat.le_of_ble_eq_true rfl) rfl) h (fun M1 => nz_wX g a X1 ++ nz_wM g c M1) (fun M1 => by rw [show nz_wX g a X1 ++ nz_wM g c M = nz_wX g a X1 ++ (nz_wM g c M ++ []) by rw [List.append_nil]]; exact (nz_mrgR (nz_wM g c M) (nz_wM g c M1) (nz_wX g a X1) [] rfl).trans (by rw [List.append_nil])) (fun r2 M1 h => ?_)
  obtain ⟨e, hR1⟩ := h
  exact nz_icmp_eq (tgt := 1038) F dL_law_997 (by decide) (fun _ => back X1 M1 hR1) (fun q => absurd e q)
set_option maxHeartbeats 4000000 in
set_option maxRecDepth 100000 in
theorem lc_count {ret : Option FieldType} {y : nz_Y} {g : nz_G} (F : nz_F y g cL_law 4 wsL_law RL ret room_1) {b L : Nat} {xs : Nat → Int32} (hX : va_X b L xs (yz_s y) (yz_s y).heap) (hbl : b < (yz_s y).heap.size) (hbA : ¬ yz_A y b) {a c : Nat → Nat} {X M : Nat → Nat → Int32} (hR : nz_Rel X M) {x3 : Int32} (hin : ∀ j : Int32, 0 ≤ j → j ≤ 5 → vp_in (x3 + j) L) (back : ∀ X' M', nz_Rel X' M' → nz_V y g 76 2804 (nz_wX g a X' ++ nz_wM g c M') 1038 [(3, .int x3), (2, .ref (c 0)), (1, .ref (a 0)), (0, .ref b)] []) : nz_V y g 76 2804 (nz_wX g a X ++ nz_wM g c M) 1002 [(3, .int x3), (2, .ref (c 0)), (1, .ref (a 0)), (0, .ref b)] [] := by
  refine nz_aload_n F dL_law_1002 rfl 2 rfl ?_
  refine nz_aload_n F dL_law_1003 rfl 3 rfl ?_
  refine nz_iload_n F dL_law_1004 rfl 0 rfl ?_
  refine nz_iconst (v := 1) F dL_law_1005 (by decide) ?_
  refine nz_iadd F dL_law_1006 ?_
  refine nz_sld F hX hbl hbA (hin 1 (by decide) (by decide)) dL_law_1007 ?_
  have h := pub_count hR (xs (x3 + 1).toNatClampNeg)
  refine k_X7_count a X (xs (x3 + 1).toNatClampNeg) (fun hM => nz_runV F gL_law_X7_count rfl hd_X7_count rfl hM dL_law_1008 (List.range' 0 62) (nz_mapR (nz_wX g a X) [] (nz_wM g c M)) nd_0_62 0 rfl rfl rfl (Nat.le_of_ble_eq_true rfl) rfl) h (fun X1 => nz_wX g a X1 ++ nz_wM g c M) (fun X1 => nz_mrgR (nz_wX g a X) (nz_wX g a X1) [] (nz_wM g c M) rfl) (fun r1 X1 h => ?_)
  refine nz_aload_n F dL_law_1011 rfl 1 rfl ?_
  refine nz_aload_n F dL_law_1012 rfl 3 rfl ?_
  refine nz_iload_n F dL_law_1013 rfl 0 rfl ?_
  refine nz_iconst (v := 1) F dL_law_1014 (by decide) ?_
  refine nz_iadd F dL_law_1015 ?_
  refine nz_sld F hX hbl hbA (hin 1 (by decide) (by decide)) dL_law_1016 ?_
  refine k_X8_count c M (xs (x3 + 1).toNatClampNeg) (fun hM => nz_runV F gL_law_X8_count rfl hd_X8_count rfl hM dL_law_1017 (List.range' 62 14) (by rw [show nz_wX g a X1 ++ nz_wM g c M = nz_wX g a X1 ++ (nz_wM g c M ++ []) by rw [List.append_nil]]; exact nz_mapR (nz_wM g c M) (nz_wX g a X1) []) nd_62_14 62 rfl rfl rfl (Nat.le_of_ble_eq_true rfl) rfl) h (fun M1 => nz_wX g a X1 ++ nz_wM g c M1) (fun M1 => by rw [show nz_wX g a X1 ++ nz_wM g c M = nz_wX g a X1 ++ (nz_wM g c M ++ []) by rw [List.append_nil]]; exact (nz_mrgR (nz_wM g c M) (nz_wM g c M1) (nz_wX g a X1) [] rfl).trans (by rw [List.append_nil])) (fun r2 M1 h => ?_)
  obtain ⟨e, hR1⟩ := h
  exact nz_icmp_eq (tgt := 1038) F dL_law_1020 (by decide) (fun _ => back X1 M1 hR1) (fun q => absurd e q)
set_option maxHeartbeats 4000000 in
set_option maxRecDepth 100000 in
theorem lc_status {ret : Option FieldType} {y : nz_Y} {g : nz_G} (F : nz_F y g cL_law 4 wsL_law RL ret room_1) {b L : Nat} {xs : Nat → Int32} (hX : va_X b L xs (yz_s y) (yz_s y).heap) (hbl : b < (yz_s y).heap.size) (hbA : ¬ yz_A y b) {a c : Nat → Nat} {X M : Nat → Nat → Int32} (hR : nz_Rel X M) {x3 : Int32} (hin : ∀ j : Int32, 0 ≤ j → j ≤ 5 → vp_in (x3 + j) L) (back : ∀ X' M', nz_Rel X' M' → nz_V y g 76 2804 (nz_wX g a X' ++ nz_wM g c M') 1038 [(3, .int x3), (2, .ref (c 0)), (1, .ref (a 0)), (0, .ref b)] []) : nz_V y g 76 2804 (nz_wX g a X ++ nz_wM g c M) 1025 [(3, .int x3), (2, .ref (c 0)), (1, .ref (a 0)), (0, .ref b)] [] := by
  refine nz_aload_n F dL_law_1025 rfl 2 rfl ?_
  have h := pub_status hR
  refine k_X7_status a X  (fun hM => nz_runV F gL_law_X7_status rfl hd_X7_status rfl hM dL_law_1026 (List.range' 0 62) (nz_mapR (nz_wX g a X) [] (nz_wM g c M)) nd_0_62 0 rfl rfl rfl (Nat.le_of_ble_eq_true rfl) rfl) h (fun X1 => nz_wX g a X1 ++ nz_wM g c M) (fun X1 => nz_mrgR (nz_wX g a X) (nz_wX g a X1) [] (nz_wM g c M) rfl) (fun r1 X1 h => ?_)
  refine nz_aload_n F dL_law_1029 rfl 1 rfl ?_
  refine k_X8_status c M  (fun hM => nz_runV F gL_law_X8_status rfl hd_X8_status rfl hM dL_law_1030 (List.range' 62 14) (by rw [show nz_wX g a X1 ++ nz_wM g c M = nz_wX g a X1 ++ (nz_wM g c M ++ []) by rw [List.append_nil]]; exact nz_mapR (nz_wM g c M) (nz_wX g a X1) []) nd_62_14 62 rfl rfl rfl (Nat.le_of_ble_eq_true rfl) rfl) h (fun M1 => nz_wX g a X1 ++ nz_wM g c M1) (fun M1 => by rw [show nz_wX g a X1 ++ nz_wM g c M = nz_wX g a X1 ++ (nz_wM g c M ++ []) by rw [List.append_nil]]; exact (nz_mrgR (nz_wM g c M) (nz_wM g c M1) (nz_wX g a X1) [] rfl).trans (by rw [List.append_nil])) (fun r2 M1 h => ?_)
  obtain ⟨e, hR1⟩ := h
  exact nz_icmp_eq (tgt := 1038) F dL_law_1033 (by decide) (fun _ => back X1 M1 hR1) (fun q => absurd e q)

