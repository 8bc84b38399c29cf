set_option maxRecDepth 100000 in
set_option maxHeartbeats 16000000 in
theorem tL_law_L949 {G : gGG} {F : State → Heap → Prop} (hG : gOK G) (hF : gSb G F) (hX : gPX G) (hQ : gOQ G) (hM : gPM G) (hV : gVX G F) {b L : Nat} {xs : Nat → Int32} (hVs : gVS G F b L xs) {cl sl : Nat} (hcl : cl ≤ 600000 ∧ sl ≤ 7302250) (k18 : Int32 → gSt → Option (Unit)) (hk18 : ∀ (x3 : Int32) (S : gSt), Gof G F RL cL_law 4 wsL_law ret room_1 cl sl (gLQ G b) 18 [(0, .ref b), (1, .ref (gad G 0)), (2, .ref (gad G 77)), (3, .int x3)] [] S (k18 x3 S)) (x3 : Int32) (S : gSt) : Gof G F RL cL_law 4 wsL_law ret room_1 cl sl (gLQ G b) 949 [(0, .ref b), (1, .ref (gad G 0)), (2, .ref (gad G 77)), (3, .int x3)] [] S (fL_law_L949 k18 L xs x3 S) := by
  unfold fL_law_L949
  refine g_iinc 3 (v := (x3 + 4)) (env' := [(3, .int (x3 + 4)), (0, .ref b), (1, .ref (gad G 0)), (2, .ref (gad G 77))]) dL_law_949 rfl rfl (by decide) rfl ?_
  refine g_goto (tgt := 18) dL_law_952 (by decide) ?_
  refine g_env (env' := [(0, .ref b), (1, .ref (gad G 0)), (2, .ref (gad G 77)), (3, .int (x3 + 4))]) [1, 2, 3, 0] rfl ?_
  exact hk18 (x3 + 4) S
set_option maxRecDepth 100000 in
set_option maxHeartbeats 16000000 in
theorem tL_law_L18 {G : gGG} {F : State → Heap → Prop} (hG : gOK G) (hF : gSb G F) (hX : gPX G) (hQ : gOQ G) (hM : gPM G) (hV : gVX G F) {b L : Nat} {xs : Nat → Int32} (hVs : gVS G F b L xs) {cl sl : Nat} (hcl : cl ≤ 600000 ∧ sl ≤ 7302250) : ∀ (n : Nat) (x3 : Int32) (S : gSt), Gof G F RL cL_law 4 wsL_law ret room_1 cl sl (gLQ G b) 18 [(0, .ref b), (1, .ref (gad G 0)), (2, .ref (gad G 77)), (3, .int x3)] [] S (fL_law_L18 L xs n x3 S) := by
  intro n
  induction n with
  | zero => intro x3 S; exact g_none
  | succ n ih =>
    intro x3 S
    unfold fL_law_L18
    refine g_iload_n 3 dL_law_18 rfl ?_
    refine g_aload_n 0 dL_law_19 rfl ?_
    refine g_slen hVs dL_law_20 ?_
    refine g_iconst (v := 4) dL_law_21 (by decide) ?_
    refine g_isub dL_law_22 ?_
    refine g_icmp_gt (tgt := 955) dL_law_23 (by decide) (fun h_1 => ?_) (fun h_1 => ?_)
    · refine g_iconst (v := 1) dL_law_955 (by decide) ?_
      exact g_lawret hcl dL_law_956
    · refine g_aload_n 0 dL_law_26 rfl ?_
      refine g_iload_n 3 dL_law_27 rfl ?_
      refine g_sald hVs dL_law_28 ?_
      refine g_bipush (v := 31) dL_law_29 (by decide) ?_
      refine g_iand dL_law_31 ?_
      refine g_ite (c0 := ((xs (gN x3)) &&& 31) = 0) (fun h_2 => ?_) (fun h_2 => ?_)
      · refine g_tin (tgt := 168) dL_law_32 (by rw [h_2]; decide) (by rw [h_2]; decide) (by rw [h_2]; rfl) (by decide) ?_
        refine g_aload_n 1 dL_law_168 rfl ?_
        refine g_aload_n 0 dL_law_169 rfl ?_
        refine g_iload_n 3 dL_law_170 rfl ?_
        refine g_iconst (v := 1) dL_law_171 (by decide) ?_
        refine g_iadd dL_law_172 ?_
        refine g_sald hVs dL_law_173 ?_
        refine g_i2l dL_law_174 ?_
        refine g_bipush (v := 32) dL_law_175 (by decide) ?_
        refine g_lshl dL_law_177 ?_
        refine g_aload_n 0 dL_law_178 rfl ?_
        refine g_iload_n 3 dL_law_179 rfl ?_
        refine g_iconst (v := 2) dL_law_180 (by decide) ?_
        refine g_iadd dL_law_181 ?_
        refine g_sald hVs dL_law_182 ?_
        refine g_i2l dL_law_183 ?_
        refine g_ldc2 (List.mem_of_getElem? (i := 6) rfl) dL_law_184 ?_
        refine g_land dL_law_187 ?_
        refine g_lor dL_law_188 ?_
        refine g_aload_n 0 dL_law_189 rfl ?_
        refine g_iload_n 3 dL_law_190 rfl ?_
        refine g_iconst (v := 3) dL_law_191 (by decide) ?_
        refine g_iadd dL_law_192 ?_
        refine g_sald hVs dL_law_193 ?_
        refine g_cVi (ci := 10) (C0 := RX10) (T := TX10) (N := 13) (n := 2) (As := [.long ((((xs (gN (x3 + 1))).toInt64) <<< ((32 : Int32).toInt64 &&& 63)) ||| (((xs (gN (x3 + 2))).toInt64) &&& 4294967295)), .int (xs (gN (x3 + 3)))]) (rest := []) hF (tX10_type hG hF hX hQ ((((xs (gN (x3 + 1))).toInt64) <<< ((32 : Int32).toInt64 &&& 63)) ||| (((xs (gN (x3 + 2))).toInt64) &&& 4294967295)) (xs (gN (x3 + 3))) S) gL_law_X10_type rfl (hX 0 (by decide)) rfl rfl ⟨rfl, by decide +kernel, by decide +kernel, by decide +kernel⟩ rfl (gRm_law hcl (by decide) (by decide)) rfl (Nat.le_of_ble_eq_true rfl) dL_law_194 (fun v_1 S_2 => ?_)
        refine g_aload_n 2 dL_law_197 rfl ?_
        refine g_aload_n 0 dL_law_198 rfl ?_
        refine g_iload_n 3 dL_law_199 rfl ?_
        refine g_iconst (v := 1) dL_law_200 (by decide) ?_
        refine g_iadd dL_law_201 ?_
        refine g_sald hVs dL_law_202 ?_
        refine g_i2l dL_law_203 ?_
        refine g_bipush (v := 32) dL_law_204 (by decide) ?_
        refine g_lshl dL_law_206 ?_
        refine g_aload_n 0 dL_law_207 rfl ?_
        refine g_iload_n 3 dL_law_208 rfl ?_
        refine g_iconst (v := 2) dL_law_209 (by decide) ?_
        refine g_iadd dL_law_210 ?_
        refine g_sald hVs dL_law_211 ?_
        refine g_i2l dL_law_212 ?_
        refine g_ldc2 (List.mem_of_getElem? (i := 6) rfl) dL_law_213 ?_
        refine g_land dL_law_216 ?_
        refine g_lor dL_law_217 ?_
        refine g_aload_n 0 dL_law_218 rfl ?_
        refine g_iload_n 3 dL_law_219 rfl ?_
        refine g_iconst (v := 3) dL_law_220 (by decide) ?_
        refine g_iadd dL_law_221 ?_
        refine g_sald hVs dL_law_222 ?_
        refine g_cVi (ci := 11) (C0 := RX11) (T := TX11) (N := 17) (n := 2) (As := [.long ((((xs (gN (x3 + 1))).toInt64) <<< ((32 : Int32).toInt64 &&& 63)) ||| (((xs (gN (x3 + 2))).toInt64) &&& 4294967295)), .int (xs (gN (x3 + 3)))]) (rest := [.int v_1]) hF (tX11_type hG hF hM ((((xs (gN (x3 + 1))).toInt64) <<< ((32 : Int32).toInt64 &&& 63)) ||| (((xs (gN (x3 + 2))).toInt64) &&& 4294967295)) (xs (gN (x3 + 3))) S_2) gL_law_X11_type rfl (hM 77 (by decide)) rfl rfl ⟨rfl, by decide +kernel, by decide +kernel, by decide +kernel⟩ rfl (gRm_law hcl (by decide) (by decide)) rfl (Nat.le_of_ble_eq_true rfl) dL_law_223 (fun v_3 S_4 => ?_)
        refine g_icmp_eq (tgt := 949) dL_law_226 (by decide) (fun h_3 => ?_) (fun h_3 => ?_)
        · exact tL_law_L949 hG hF hX hQ hM hV hVs hcl (fL_law_L18 L xs n) ih x3 S_4
        · refine g_iconst (v := 0) dL_law_229 (by decide) ?_
          exact g_none
      refine g_ite (c0 := ((xs (gN x3)) &&& 31) = 1) (fun h_4 => ?_) (fun h_4 => ?_)
      · refine g_tin (tgt := 231) dL_law_32 (by rw [h_4]; decide) (by rw [h_4]; decide) (by rw [h_4]; rfl) (by decide) ?_
        refine g_aload_n 1 dL_law_231 rfl ?_
        refine g_cVi (ci := 10) (C0 := RX10) (T := TX10) (N := 13) (n := 0) (As := []) (rest := []) hF (tX10_clear hG hF hX hQ S) gL_law_X10_clear rfl (hX 0 (by decide)) rfl rfl ⟨rfl, by decide +kernel, by decide +kernel, by decide +kernel⟩ rfl (gRm_law hcl (by decide) (by decide)) rfl (Nat.le_of_ble_eq_true rfl) dL_law_232 (fun v_5 S_6 => ?_)
        refine g_aload_n 2 dL_law_235 rfl ?_
        refine g_cVi (ci := 11) (C0 := RX11) (T := TX11) (N := 17) (n := 0) (As := []) (rest := [.int v_5]) hF (tX11_clear hG hF hM S_6) gL_law_X11_clear rfl (hM 77 (by decide)) rfl rfl ⟨rfl, by decide +kernel, by decide +kernel, by decide +kernel⟩ rfl (gRm_law hcl (by decide) (by decide)) rfl (Nat.le_of_ble_eq_true rfl) dL_law_236 (fun v_7 S_8 => ?_)
        refine g_icmp_eq (tgt := 949) dL_law_239 (by decide) (fun h_5 => ?_) (fun h_5 => ?_)
        · exact tL_law_L949 hG hF hX hQ hM hV hVs hcl (fL_law_L18 L xs n) ih x3 S_8
        · refine g_iconst (v := 0) dL_law_242 (by decide) ?_
          exact g_none
      refine g_ite (c0 := ((xs (gN x3)) &&& 31) = 2) (fun h_6 => ?_) (fun h_6 => ?_)
      · refine g_tin (tgt := 244) dL_law_32 (by rw [h_6]; decide) (by rw [h_6]; decide) (by rw [h_6]; rfl) (by decide) ?_
        refine g_aload_n 1 dL_law_244 rfl ?_
        refine g_cVi (ci := 10) (C0 := RX10) (T := TX10) (N := 13) (n := 0) (As := []) (rest := []) hF (tX10_room hG hF hX hQ hV S) gL_law_X10_room rfl (hX 0 (by decide)) rfl rfl ⟨rfl, by decide +kernel, by decide +kernel, by decide +kernel⟩ rfl (gRm_law hcl (by decide) (by decide)) rfl (Nat.le_of_ble_eq_true rfl) dL_law_245 (fun v_9 S_10 => ?_)
        refine g_aload_n 2 dL_law_248 rfl ?_
        refine g_cVi (ci := 11) (C0 := RX11) (T := TX11) (N := 17) (n := 0) (As := []) (rest := [.int v_9]) hF (tX11_room hG hF hM S_10) gL_law_X11_room rfl (hM 77 (by decide)) rfl rfl ⟨rfl, by decide +kernel, by decide +kernel, by decide +kernel⟩ rfl (gRm_law hcl (by decide) (by decide)) rfl (Nat.le_of_ble_eq_true rfl) dL_law_249 (fun v_11 S_12 => ?_)
        refine g_icmp_eq (tgt := 949) dL_law_252 (by decide) (fun h_7 => ?_) (fun h_7 => ?_)
        · exact tL_law_L949 hG hF hX hQ hM hV hVs hcl (fL_law_L18 L xs n) ih x3 S_12
        · refine g_iconst (v := 0) dL_law_255 (by decide) ?_
          exact g_none
      refine g_ite (c0 := ((xs (gN x3)) &&& 31) = 3) (fun h_8 => ?_) (fun h_8 => ?_)
      · refine g_tin (tgt := 257) dL_law_32 (by rw [h_8]; decide) (by rw [h_8]; decide) (by rw [h_8]; rfl) (by decide) ?_
        refine g_aload_n 1 dL_law_257 rfl ?_
        refine g_aload_n 0 dL_law_258 rfl ?_
        refine g_iload_n 3 dL_law_259 rfl ?_
        refine g_iconst (v := 1) dL_law_260 (by decide) ?_
        refine g_iadd dL_law_261 ?_
        refine g_sald hVs dL_law_262 ?_
        refine g_cVp (ci := 10) (C0 := RX10) (T := TX10) (N := 13) (n := 1) (As := [.int (xs (gN (x3 + 1)))]) (rest := []) hF (tX10_law hG hF hX hQ (xs (gN (x3 + 1))) S) gL_law_X10_law rfl (hX 0 (by decide)) rfl rfl ⟨rfl, by decide +kernel, by decide +kernel, by decide +kernel⟩ rfl (gRm_law hcl (by decide) (by decide)) rfl (Nat.le_of_ble_eq_true rfl) dL_law_263 (fun v_13 => ?_)
        refine g_aload_n 2 dL_law_266 rfl ?_
        refine g_aload_n 0 dL_law_267 rfl ?_
        refine g_iload_n 3 dL_law_268 rfl ?_
        refine g_iconst (v := 1) dL_law_269 (by decide) ?_
        refine g_iadd dL_law_270 ?_
        refine g_sald hVs dL_law_271 ?_
        refine g_cVi (ci := 11) (C0 := RX11) (T := TX11) (N := 17) (n := 1) (As := [.int (xs (gN (x3 + 1)))]) (rest := [.int v_13]) hF (tX11_law hG hF hM (xs (gN (x3 + 1))) S) gL_law_X11_law rfl (hM 77 (by decide)) rfl rfl ⟨rfl, by decide +kernel, by decide +kernel, by decide +kernel⟩ rfl (gRm_law hcl (by decide) (by decide)) rfl (Nat.le_of_ble_eq_true rfl) dL_law_272 (fun v_14 S_15 => ?_)
        refine g_icmp_eq (tgt := 949) dL_law_275 (by decide) (fun h_9 => ?_) (fun h_9 => ?_)
        · exact tL_law_L949 hG hF hX hQ hM hV hVs hcl (fL_law_L18 L xs n) ih x3 S_15
        · refine g_iconst (v := 0) dL_law_278 (by decide) ?_
          exact g_none
      refine g_ite (c0 := ((xs (gN x3)) &&& 31) = 4) (fun h_10 => ?_) (fun h_10 => ?_)
      · refine g_tin (tgt := 280) dL_law_32 (by rw [h_10]; decide) (by rw [h_10]; decide) (by rw [h_10]; rfl) (by decide) ?_
        refine g_aload_n 1 dL_law_280 rfl ?_
        refine g_aload_n 0 dL_law_281 rfl ?_
        refine g_iload_n 3 dL_law_282 rfl ?_
        refine g_iconst (v := 1) dL_law_283 (by decide) ?_
        refine g_iadd dL_law_284 ?_
        refine g_sald hVs dL_law_285 ?_
        refine g_aload_n 0 dL_law_286 rfl ?_
        refine g_iload_n 3 dL_law_287 rfl ?_
        refine g_iconst (v := 2) dL_law_288 (by decide) ?_
        refine g_iadd dL_law_289 ?_
        refine g_sald hVs dL_law_290 ?_
        refine g_aload_n 0 dL_law_291 rfl ?_
        refine g_iload_n 3 dL_law_292 rfl ?_
        refine g_iconst (v := 3) dL_law_293 (by decide) ?_
        refine g_iadd dL_law_294 ?_
        refine g_sald hVs dL_law_295 ?_
        refine g_cVp (ci := 10) (C0 := RX10) (T := TX10) (N := 13) (n := 3) (As := [.int (xs (gN (x3 + 1))), .int (xs (gN (x3 + 2))), .int (xs (gN (x3 + 3)))]) (rest := []) hF (tX10_pair hG hF hX hQ (xs (gN (x3 + 1))) (xs (gN (x3 + 2))) (xs (gN (x3 + 3))) S) gL_law_X10_pair rfl (hX 0 (by decide)) rfl rfl ⟨rfl, by decide +kernel, by decide +kernel, by decide +kernel⟩ rfl (gRm_law hcl (by decide) (by decide)) rfl (Nat.le_of_ble_eq_true rfl) dL_law_296 (fun v_16 => ?_)
        refine g_aload_n 2 dL_law_299 rfl ?_
        refine g_aload_n 0 dL_law_300 rfl ?_
        refine g_iload_n 3 dL_law_301 rfl ?_
        refine g_iconst (v := 1) dL_law_302 (by decide) ?_
        refine g_iadd dL_law_303 ?_
        refine g_sald hVs dL_law_304 ?_
        refine g_aload_n 0 dL_law_305 rfl ?_
        refine g_iload_n 3 dL_law_306 rfl ?_
        refine g_iconst (v := 2) dL_law_307 (by decide) ?_
        refine g_iadd dL_law_308 ?_
        refine g_sald hVs dL_law_309 ?_
        refine g_aload_n 0 dL_law_310 rfl ?_
        refine g_iload_n 3 dL_law_311 rfl ?_
        refine g_iconst (v := 3) dL_law_312 (by decide) ?_
        refine g_iadd dL_law_313 ?_
        refine g_sald hVs dL_law_314 ?_
        refine g_cVi (ci := 11) (C0 := RX11) (T := TX11) (N := 17) (n := 3) (As := [.int (xs (gN (x3 + 1))), .int (xs (gN (x3 + 2))), .int (xs (gN (x3 + 3)))]) (rest := [.int v_16]) hF (tX11_pair hG hF hM (xs (gN (x3 + 1))) (xs (gN (x3 + 2))) (xs (gN (x3 + 3))) S) gL_law_X11_pair rfl (hM 77 (by decide)) rfl rfl ⟨rfl, by decide +kernel, by decide +kernel, by decide +kernel⟩ rfl (gRm_law hcl (by decide) (by decide)) rfl (Nat.le_of_ble_eq_true rfl) dL_law_315 (fun v_17 S_18 => ?_)
        refine g_icmp_eq (tgt := 949) dL_law_318 (by decide) (fun h_11 => ?_) (fun h_11 => ?_)
        · exact tL_law_L949 hG hF hX hQ hM hV hVs hcl (fL_law_L18 L xs n) ih x3 S_18
        · refine g_iconst (v := 0) dL_law_321 (by decide) ?_
          exact g_none
      refine g_ite (c0 := ((xs (gN x3)) &&& 31) = 5) (fun h_12 => ?_) (fun h_12 => ?_)
      · refine g_tin (tgt := 323) dL_law_32 (by rw [h_12]; decide) (by rw [h_12]; decide) (by rw [h_12]; rfl) (by decide) ?_
        refine g_aload_n 1 dL_law_323 rfl ?_
        refine g_aload_n 0 dL_law_324 rfl ?_
        refine g_iload_n 3 dL_law_325 rfl ?_
        refine g_iconst (v := 1) dL_law_326 (by decide) ?_
        refine g_iadd dL_law_327 ?_
        refine g_sald hVs dL_law_328 ?_
        refine g_cVp (ci := 10) (C0 := RX10) (T := TX10) (N := 13) (n := 1) (As := [.int (xs (gN (x3 + 1)))]) (rest := []) hF (tX10_party hG hF hX hQ (xs (gN (x3 + 1))) S) gL_law_X10_party rfl (hX 0 (by decide)) rfl rfl ⟨rfl, by decide +kernel, by decide +kernel, by decide +kernel⟩ rfl (gRm_law hcl (by decide) (by decide)) rfl (Nat.le_of_ble_eq_true rfl) dL_law_329 (fun v_19 => ?_)
        refine g_aload_n 2 dL_law_332 rfl ?_
        refine g_aload_n 0 dL_law_333 rfl ?_
        refine g_iload_n 3 dL_law_334 rfl ?_
        refine g_iconst (v := 1) dL_law_335 (by decide) ?_
        refine g_iadd dL_law_336 ?_
        refine g_sald hVs dL_law_337 ?_
        refine g_cVi (ci := 11) (C0 := RX11) (T := TX11) (N := 17) (n := 1) (As := [.int (xs (gN (x3 + 1)))]) (rest := [.int v_19]) hF (tX11_party hG hF hM (xs (gN (x3 + 1))) S) gL_law_X11_party rfl (hM 77 (by decide)) rfl rfl ⟨rfl, by decide +kernel, by decide +kernel, by decide +kernel⟩ rfl (gRm_law hcl (by decide) (by decide)) rfl (Nat.le_of_ble_eq_true rfl) dL_law_338 (fun v_20 S_21 => ?_)
        refine g_icmp_eq (tgt := 949) dL_law_341 (by decide) (fun h_13 => ?_) (fun h_13 => ?_)
        · exact tL_law_L949 hG hF hX hQ hM hV hVs hcl (fL_law_L18 L xs n) ih x3 S_21
        · refine g_iconst (v := 0) dL_law_344 (by decide) ?_
          exact g_none
      refine g_ite (c0 := ((xs (gN x3)) &&& 31) = 6) (fun h_14 => ?_) (fun h_14 => ?_)
      · refine g_tin (tgt := 346) dL_law_32 (by rw [h_14]; decide) (by rw [h_14]; decide) (by rw [h_14]; rfl) (by decide) ?_
        refine g_aload_n 1 dL_law_346 rfl ?_
        refine g_aload_n 0 dL_law_347 rfl ?_
        refine g_iload_n 3 dL_law_348 rfl ?_
        refine g_iconst (v := 1) dL_law_349 (by decide) ?_
        refine g_iadd dL_law_350 ?_
        refine g_sald hVs dL_law_351 ?_
        refine g_aload_n 0 dL_law_352 rfl ?_
        refine g_iload_n 3 dL_law_353 rfl ?_
        refine g_iconst (v := 2) dL_law_354 (by decide) ?_
        refine g_iadd dL_law_355 ?_
        refine g_sald hVs dL_law_356 ?_
        refine g_cVi (ci := 10) (C0 := RX10) (T := TX10) (N := 13) (n := 2) (As := [.int (xs (gN (x3 + 1))), .int (xs (gN (x3 + 2)))]) (rest := []) hF (tX10_goes hG hF hX hQ (xs (gN (x3 + 1))) (xs (gN (x3 + 2))) S) gL_law_X10_goes rfl (hX 0 (by decide)) rfl rfl ⟨rfl, by decide +kernel, by decide +kernel, by decide +kernel⟩ rfl (gRm_law hcl (by decide) (by decide)) rfl (Nat.le_of_ble_eq_true rfl) dL_law_357 (fun v_22 S_23 => ?_)
        refine g_aload_n 2 dL_law_360 rfl ?_
        refine g_aload_n 0 dL_law_361 rfl ?_
        refine g_iload_n 3 dL_law_362 rfl ?_
        refine g_iconst (v := 1) dL_law_363 (by decide) ?_
        refine g_iadd dL_law_364 ?_
        refine g_sald hVs dL_law_365 ?_
        refine g_aload_n 0 dL_law_366 rfl ?_
        refine g_iload_n 3 dL_law_367 rfl ?_
        refine g_iconst (v := 2) dL_law_368 (by decide) ?_
        refine g_iadd dL_law_369 ?_
        refine g_sald hVs dL_law_370 ?_
        refine g_cVi (ci := 11) (C0 := RX11) (T := TX11) (N := 17) (n := 2) (As := [.int (xs (gN (x3 + 1))), .int (xs (gN (x3 + 2)))]) (rest := [.int v_22]) hF (tX11_goes hG hF hM (xs (gN (x3 + 1))) (xs (gN (x3 + 2))) S_23) gL_law_X11_goes rfl (hM 77 (by decide)) rfl rfl ⟨rfl, by decide +kernel, by decide +kernel, by decide +kernel⟩ rfl (gRm_law hcl (by decide) (by decide)) rfl (Nat.le_of_ble_eq_true rfl) dL_law_371 (fun v_24 S_25 => ?_)
        refine g_icmp_eq (tgt := 949) dL_law_374 (by decide) (fun h_15 => ?_) (fun h_15 => ?_)
        · exact tL_law_L949 hG hF hX hQ hM hV hVs hcl (fL_law_L18 L xs n) ih x3 S_25
        · refine g_iconst (v := 0) dL_law_377 (by decide) ?_
          exact g_none
      refine g_ite (c0 := ((xs (gN x3)) &&& 31) = 7) (fun h_16 => ?_) (fun h_16 => ?_)
      · refine g_tin (tgt := 379) dL_law_32 (by rw [h_16]; decide) (by rw [h_16]; decide) (by rw [h_16]; rfl) (by decide) ?_
        refine g_aload_n 1 dL_law_379 rfl ?_
        refine g_aload_n 0 dL_law_380 rfl ?_
        refine g_iload_n 3 dL_law_381 rfl ?_
        refine g_iconst (v := 1) dL_law_382 (by decide) ?_
        refine g_iadd dL_law_383 ?_
        refine g_sald hVs dL_law_384 ?_
        refine g_aload_n 0 dL_law_385 rfl ?_
        refine g_iload_n 3 dL_law_386 rfl ?_
        refine g_iconst (v := 2) dL_law_387 (by decide) ?_
        refine g_iadd dL_law_388 ?_
        refine g_sald hVs dL_law_389 ?_
        refine g_cVi (ci := 10) (C0 := RX10) (T := TX10) (N := 13) (n := 2) (As := [.int (xs (gN (x3 + 1))), .int (xs (gN (x3 + 2)))]) (rest := []) hF (tX10_join hG hF hX hQ (xs (gN (x3 + 1))) (xs (gN (x3 + 2))) S) gL_law_X10_join rfl (hX 0 (by decide)) rfl rfl ⟨rfl, by decide +kernel, by decide +kernel, by decide +kernel⟩ rfl (gRm_law hcl (by decide) (by decide)) rfl (Nat.le_of_ble_eq_true rfl) dL_law_390 (fun v_26 S_27 => ?_)
        refine g_aload_n 2 dL_law_393 rfl ?_
        refine g_aload_n 0 dL_law_394 rfl ?_
        refine g_iload_n 3 dL_law_395 rfl ?_
        refine g_iconst (v := 1) dL_law_396 (by decide) ?_
        refine g_iadd dL_law_397 ?_
        refine g_sald hVs dL_law_398 ?_
        refine g_aload_n 0 dL_law_399 rfl ?_
        refine g_iload_n 3 dL_law_400 rfl ?_
        refine g_iconst (v := 2) dL_law_401 (by decide) ?_
        refine g_iadd dL_law_402 ?_
        refine g_sald hVs dL_law_403 ?_
        refine g_cVi (ci := 11) (C0 := RX11) (T := TX11) (N := 17) (n := 2) (As := [.int (xs (gN (x3 + 1))), .int (xs (gN (x3 + 2)))]) (rest := [.int v_26]) hF (tX11_join hG hF hM (xs (gN (x3 + 1))) (xs (gN (x3 + 2))) S_27) gL_law_X11_join rfl (hM 77 (by decide)) rfl rfl ⟨rfl, by decide +kernel, by decide +kernel, by decide +kernel⟩ rfl (gRm_law hcl (by decide) (by decide)) rfl (Nat.le_of_ble_eq_true rfl) dL_law_404 (fun v_28 S_29 => ?_)
        refine g_icmp_eq (tgt := 949) dL_law_407 (by decide) (fun h_17 => ?_) (fun h_17 => ?_)
        · exact tL_law_L949 hG hF hX hQ hM hV hVs hcl (fL_law_L18 L xs n) ih x3 S_29
        · refine g_iconst (v := 0) dL_law_410 (by decide) ?_
          exact g_none
      refine g_ite (c0 := ((xs (gN x3)) &&& 31) = 8) (fun h_18 => ?_) (fun h_18 => ?_)
      · refine g_tin (tgt := 412) dL_law_32 (by rw [h_18]; decide) (by rw [h_18]; decide) (by rw [h_18]; rfl) (by decide) ?_
        refine g_aload_n 1 dL_law_412 rfl ?_
        refine g_aload_n 0 dL_law_413 rfl ?_
        refine g_iload_n 3 dL_law_414 rfl ?_
        refine g_iconst (v := 1) dL_law_415 (by decide) ?_
        refine g_iadd dL_law_416 ?_
        refine g_sald hVs dL_law_417 ?_
        refine g_aload_n 0 dL_law_418 rfl ?_
        refine g_iload_n 3 dL_law_419 rfl ?_
        refine g_iconst (v := 2) dL_law_420 (by decide) ?_
        refine g_iadd dL_law_421 ?_
        refine g_sald hVs dL_law_422 ?_
        refine g_cVi (ci := 10) (C0 := RX10) (T := TX10) (N := 13) (n := 2) (As := [.int (xs (gN (x3 + 1))), .int (xs (gN (x3 + 2)))]) (rest := []) hF (tX10_part hG hF hX hQ (xs (gN (x3 + 1))) (xs (gN (x3 + 2))) S) gL_law_X10_part rfl (hX 0 (by decide)) rfl rfl ⟨rfl, by decide +kernel, by decide +kernel, by decide +kernel⟩ rfl (gRm_law hcl (by decide) (by decide)) rfl (Nat.le_of_ble_eq_true rfl) dL_law_423 (fun v_30 S_31 => ?_)
        refine g_aload_n 2 dL_law_426 rfl ?_
        refine g_aload_n 0 dL_law_427 rfl ?_
        refine g_iload_n 3 dL_law_428 rfl ?_
        refine g_iconst (v := 1) dL_law_429 (by decide) ?_
        refine g_iadd dL_law_430 ?_
        refine g_sald hVs dL_law_431 ?_
        refine g_aload_n 0 dL_law_432 rfl ?_
        refine g_iload_n 3 dL_law_433 rfl ?_
        refine g_iconst (v := 2) dL_law_434 (by decide) ?_
        refine g_iadd dL_law_435 ?_
        refine g_sald hVs dL_law_436 ?_
        refine g_cVi (ci := 11) (C0 := RX11) (T := TX11) (N := 17) (n := 2) (As := [.int (xs (gN (x3 + 1))), .int (xs (gN (x3 + 2)))]) (rest := [.int v_30]) hF (tX11_part hG hF hM (xs (gN (x3 + 1))) (xs (gN (x3 + 2))) S_31) gL_law_X11_part rfl (hM 77 (by decide)) rfl rfl ⟨rfl, by decide +kernel, by decide +kernel, by decide +kernel⟩ rfl (gRm_law hcl (by decide) (by decide)) rfl (Nat.le_of_ble_eq_true rfl) dL_law_437 (fun v_32 S_33 => ?_)
        refine g_icmp_eq (tgt := 949) dL_law_440 (by decide) (fun h_19 => ?_) (fun h_19 => ?_)
        · exact tL_law_L949 hG hF hX hQ hM hV hVs hcl (fL_law_L18 L xs n) ih x3 S_33
        · refine g_iconst (v := 0) dL_law_443 (by decide) ?_
          exact g_none
      refine g_ite (c0 := ((xs (gN x3)) &&& 31) = 9) (fun h_20 => ?_) (fun h_20 => ?_)
      · refine g_tin (tgt := 445) dL_law_32 (by rw [h_20]; decide) (by rw [h_20]; decide) (by rw [h_20]; rfl) (by decide) ?_
        refine g_aload_n 1 dL_law_445 rfl ?_
        refine g_aload_n 0 dL_law_446 rfl ?_
        refine g_iload_n 3 dL_law_447 rfl ?_
        refine g_iconst (v := 1) dL_law_448 (by decide) ?_
        refine g_iadd dL_law_449 ?_
        refine g_sald hVs dL_law_450 ?_
        refine g_cVi (ci := 10) (C0 := RX10) (T := TX10) (N := 13) (n := 1) (As := [.int (xs (gN (x3 + 1)))]) (rest := []) hF (tX10_now hG hF hX hQ (xs (gN (x3 + 1))) S) gL_law_X10_now rfl (hX 0 (by decide)) rfl rfl ⟨rfl, by decide +kernel, by decide +kernel, by decide +kernel⟩ rfl (gRm_law hcl (by decide) (by decide)) rfl (Nat.le_of_ble_eq_true rfl) dL_law_451 (fun v_34 S_35 => ?_)
        refine g_aload_n 2 dL_law_454 rfl ?_
        refine g_aload_n 0 dL_law_455 rfl ?_
        refine g_iload_n 3 dL_law_456 rfl ?_
        refine g_iconst (v := 1) dL_law_457 (by decide) ?_
        refine g_iadd dL_law_458 ?_
        refine g_sald hVs dL_law_459 ?_
        refine g_cVi (ci := 11) (C0 := RX11) (T := TX11) (N := 17) (n := 1) (As := [.int (xs (gN (x3 + 1)))]) (rest := [.int v_34]) hF (tX11_now hG hF hM (xs (gN (x3 + 1))) S_35) gL_law_X11_now rfl (hM 77 (by decide)) rfl rfl ⟨rfl, by decide +kernel, by decide +kernel, by decide +kernel⟩ rfl (gRm_law hcl (by decide) (by decide)) rfl (Nat.le_of_ble_eq_true rfl) dL_law_460 (fun v_36 S_37 => ?_)
        refine g_icmp_eq (tgt := 949) dL_law_463 (by decide) (fun h_21 => ?_) (fun h_21 => ?_)
        · exact tL_law_L949 hG hF hX hQ hM hV hVs hcl (fL_law_L18 L xs n) ih x3 S_37
        · refine g_iconst (v := 0) dL_law_466 (by decide) ?_
          exact g_none
      refine g_ite (c0 := ((xs (gN x3)) &&& 31) = 10) (fun h_22 => ?_) (fun h_22 => ?_)
      · refine g_tin (tgt := 468) dL_law_32 (by rw [h_22]; decide) (by rw [h_22]; decide) (by rw [h_22]; rfl) (by decide) ?_
        refine g_aload_n 1 dL_law_468 rfl ?_
        refine g_aload_n 0 dL_law_469 rfl ?_
        refine g_iload_n 3 dL_law_470 rfl ?_
        refine g_iconst (v := 1) dL_law_471 (by decide) ?_
        refine g_iadd dL_law_472 ?_
        refine g_sald hVs dL_law_473 ?_
        refine g_cVi (ci := 10) (C0 := RX10) (T := TX10) (N := 13) (n := 1) (As := [.int (xs (gN (x3 + 1)))]) (rest := []) hF (tX10_many hG hF hX hQ (xs (gN (x3 + 1))) S) gL_law_X10_many rfl (hX 0 (by decide)) rfl rfl ⟨rfl, by decide +kernel, by decide +kernel, by decide +kernel⟩ rfl (gRm_law hcl (by decide) (by decide)) rfl (Nat.le_of_ble_eq_true rfl) dL_law_474 (fun v_38 S_39 => ?_)
        refine g_aload_n 2 dL_law_477 rfl ?_
        refine g_aload_n 0 dL_law_478 rfl ?_
        refine g_iload_n 3 dL_law_479 rfl ?_
        refine g_iconst (v := 1) dL_law_480 (by decide) ?_
        refine g_iadd dL_law_481 ?_
        refine g_sald hVs dL_law_482 ?_
        refine g_cVi (ci := 11) (C0 := RX11) (T := TX11) (N := 17) (n := 1) (As := [.int (xs (gN (x3 + 1)))]) (rest := [.int v_38]) hF (tX11_many hG hF hM (xs (gN (x3 + 1))) S_39) gL_law_X11_many rfl (hM 77 (by decide)) rfl rfl ⟨rfl, by decide +kernel, by decide +kernel, by decide +kernel⟩ rfl (gRm_law hcl (by decide) (by decide)) rfl (Nat.le_of_ble_eq_true rfl) dL_law_483 (fun v_40 S_41 => ?_)
        refine g_icmp_eq (tgt := 949) dL_law_486 (by decide) (fun h_23 => ?_) (fun h_23 => ?_)
        · exact tL_law_L949 hG hF hX hQ hM hV hVs hcl (fL_law_L18 L xs n) ih x3 S_41
        · refine g_iconst (v := 0) dL_law_489 (by decide) ?_
          exact g_none
      refine g_ite (c0 := ((xs (gN x3)) &&& 31) = 11) (fun h_24 => ?_) (fun h_24 => ?_)
      · refine g_tin (tgt := 491) dL_law_32 (by rw [h_24]; decide) (by rw [h_24]; decide) (by rw [h_24]; rfl) (by decide) ?_
        refine g_aload_n 1 dL_law_491 rfl ?_
        refine g_cVi (ci := 10) (C0 := RX10) (T := TX10) (N := 13) (n := 0) (As := []) (rest := []) hF (tX10_rank hG hF hX hQ S) gL_law_X10_rank rfl (hX 0 (by decide)) rfl rfl ⟨rfl, by decide +kernel, by decide +kernel, by decide +kernel⟩ rfl (gRm_law hcl (by decide) (by decide)) rfl (Nat.le_of_ble_eq_true rfl) dL_law_492 (fun v_42 S_43 => ?_)
        refine g_aload_n 2 dL_law_495 rfl ?_
        refine g_cVi (ci := 11) (C0 := RX11) (T := TX11) (N := 17) (n := 0) (As := []) (rest := [.int v_42]) hF (tX11_rank hG hF hM S_43) gL_law_X11_rank rfl (hM 77 (by decide)) rfl rfl ⟨rfl, by decide +kernel, by decide +kernel, by decide +kernel⟩ rfl (gRm_law hcl (by decide) (by decide)) rfl (Nat.le_of_ble_eq_true rfl) dL_law_496 (fun v_44 S_45 => ?_)
        refine g_icmp_eq (tgt := 949) dL_law_499 (by decide) (fun h_25 => ?_) (fun h_25 => ?_)
        · exact tL_law_L949 hG hF hX hQ hM hV hVs hcl (fL_law_L18 L xs n) ih x3 S_45
        · refine g_iconst (v := 0) dL_law_502 (by decide) ?_
          exact g_none
      refine g_ite (c0 := ((xs (gN x3)) &&& 31) = 12) (fun h_26 => ?_) (fun h_26 => ?_)
      · refine g_tin (tgt := 504) dL_law_32 (by rw [h_26]; decide) (by rw [h_26]; decide) (by rw [h_26]; rfl) (by decide) ?_
        refine g_aload_n 1 dL_law_504 rfl ?_
        refine g_aload_n 0 dL_law_505 rfl ?_
        refine g_iload_n 3 dL_law_506 rfl ?_
        refine g_iconst (v := 1) dL_law_507 (by decide) ?_
        refine g_iadd dL_law_508 ?_
        refine g_sald hVs dL_law_509 ?_
        refine g_aload_n 0 dL_law_510 rfl ?_
        refine g_iload_n 3 dL_law_511 rfl ?_
        refine g_iconst (v := 2) dL_law_512 (by decide) ?_
        refine g_iadd dL_law_513 ?_
        refine g_sald hVs dL_law_514 ?_
        refine g_cVi (ci := 10) (C0 := RX10) (T := TX10) (N := 13) (n := 2) (As := [.int (xs (gN (x3 + 1))), .int (xs (gN (x3 + 2)))]) (rest := []) hF (tX10_nth hG hF hX hQ (xs (gN (x3 + 1))) (xs (gN (x3 + 2))) S) gL_law_X10_nth rfl (hX 0 (by decide)) rfl rfl ⟨rfl, by decide +kernel, by decide +kernel, by decide +kernel⟩ rfl (gRm_law hcl (by decide) (by decide)) rfl (Nat.le_of_ble_eq_true rfl) dL_law_515 (fun v_46 S_47 => ?_)
        refine g_aload_n 2 dL_law_518 rfl ?_
        refine g_aload_n 0 dL_law_519 rfl ?_
        refine g_iload_n 3 dL_law_520 rfl ?_
        refine g_iconst (v := 1) dL_law_521 (by decide) ?_
        refine g_iadd dL_law_522 ?_
        refine g_sald hVs dL_law_523 ?_
        refine g_aload_n 0 dL_law_524 rfl ?_
        refine g_iload_n 3 dL_law_525 rfl ?_
        refine g_iconst (v := 2) dL_law_526 (by decide) ?_
        refine g_iadd dL_law_527 ?_
        refine g_sald hVs dL_law_528 ?_
        refine g_cVi (ci := 11) (C0 := RX11) (T := TX11) (N := 17) (n := 2) (As := [.int (xs (gN (x3 + 1))), .int (xs (gN (x3 + 2)))]) (rest := [.int v_46]) hF (tX11_nth hG hF hM (xs (gN (x3 + 1))) (xs (gN (x3 + 2))) S_47) gL_law_X11_nth rfl (hM 77 (by decide)) rfl rfl ⟨rfl, by decide +kernel, by decide +kernel, by decide +kernel⟩ rfl (gRm_law hcl (by decide) (by decide)) rfl (Nat.le_of_ble_eq_true rfl) dL_law_529 (fun v_48 S_49 => ?_)
        refine g_icmp_eq (tgt := 949) dL_law_532 (by decide) (fun h_27 => ?_) (fun h_27 => ?_)
        · exact tL_law_L949 hG hF hX hQ hM hV hVs hcl (fL_law_L18 L xs n) ih x3 S_49
        · refine g_iconst (v := 0) dL_law_535 (by decide) ?_
          exact g_none
      refine g_ite (c0 := ((xs (gN x3)) &&& 31) = 13) (fun h_28 => ?_) (fun h_28 => ?_)
      · refine g_tin (tgt := 537) dL_law_32 (by rw [h_28]; decide) (by rw [h_28]; decide) (by rw [h_28]; rfl) (by decide) ?_
        refine g_aload_n 1 dL_law_537 rfl ?_
        refine g_cVi (ci := 10) (C0 := RX10) (T := TX10) (N := 13) (n := 0) (As := []) (rest := []) hF (tX10_draw hG hF hX hQ S) gL_law_X10_draw rfl (hX 0 (by decide)) rfl rfl ⟨rfl, by decide +kernel, by decide +kernel, by decide +kernel⟩ rfl (gRm_law hcl (by decide) (by decide)) rfl (Nat.le_of_ble_eq_true rfl) dL_law_538 (fun v_50 S_51 => ?_)
        refine g_aload_n 2 dL_law_541 rfl ?_
        refine g_cVi (ci := 11) (C0 := RX11) (T := TX11) (N := 17) (n := 0) (As := []) (rest := [.int v_50]) hF (tX11_draw hG hF hM S_51) gL_law_X11_draw rfl (hM 77 (by decide)) rfl rfl ⟨rfl, by decide +kernel, by decide +kernel, by decide +kernel⟩ rfl (gRm_law hcl (by decide) (by decide)) rfl (Nat.le_of_ble_eq_true rfl) dL_law_542 (fun v_52 S_53 => ?_)
        refine g_icmp_eq (tgt := 949) dL_law_545 (by decide) (fun h_29 => ?_) (fun h_29 => ?_)
        · exact tL_law_L949 hG hF hX hQ hM hV hVs hcl (fL_law_L18 L xs n) ih x3 S_53
        · refine g_iconst (v := 0) dL_law_548 (by decide) ?_
          exact g_none
      refine g_ite (c0 := ((xs (gN x3)) &&& 31) = 14) (fun h_30 => ?_) (fun h_30 => ?_)
      · refine g_tin (tgt := 550) dL_law_32 (by rw [h_30]; decide) (by rw [h_30]; decide) (by rw [h_30]; rfl) (by decide) ?_
        refine g_aload_n 1 dL_law_550 rfl ?_
        refine g_aload_n 0 dL_law_551 rfl ?_
        refine g_iload_n 3 dL_law_552 rfl ?_
        refine g_iconst (v := 1) dL_law_553 (by decide) ?_
        refine g_iadd dL_law_554 ?_
        refine g_sald hVs dL_law_555 ?_
        refine g_cVi (ci := 10) (C0 := RX10) (T := TX10) (N := 13) (n := 1) (As := [.int (xs (gN (x3 + 1)))]) (rest := []) hF (tX10_lot hG hF hX hQ (xs (gN (x3 + 1))) S) gL_law_X10_lot rfl (hX 0 (by decide)) rfl rfl ⟨rfl, by decide +kernel, by decide +kernel, by decide +kernel⟩ rfl (gRm_law hcl (by decide) (by decide)) rfl (Nat.le_of_ble_eq_true rfl) dL_law_556 (fun v_54 S_55 => ?_)
        refine g_aload_n 2 dL_law_559 rfl ?_
        refine g_aload_n 0 dL_law_560 rfl ?_
        refine g_iload_n 3 dL_law_561 rfl ?_
        refine g_iconst (v := 1) dL_law_562 (by decide) ?_
        refine g_iadd dL_law_563 ?_
        refine g_sald hVs dL_law_564 ?_
        refine g_cVi (ci := 11) (C0 := RX11) (T := TX11) (N := 17) (n := 1) (As := [.int (xs (gN (x3 + 1)))]) (rest := [.int v_54]) hF (tX11_lot hG hF hM (xs (gN (x3 + 1))) S_55) gL_law_X11_lot rfl (hM 77 (by decide)) rfl rfl ⟨rfl, by decide +kernel, by decide +kernel, by decide +kernel⟩ rfl (gRm_law hcl (by decide) (by decide)) rfl (Nat.le_of_ble_eq_true rfl) dL_law_565 (fun v_56 S_57 => ?_)
        refine g_icmp_eq (tgt := 949) dL_law_568 (by decide) (fun h_31 => ?_) (fun h_31 => ?_)
        · exact tL_law_L949 hG hF hX hQ hM hV hVs hcl (fL_law_L18 L xs n) ih x3 S_57
        · refine g_iconst (v := 0) dL_law_571 (by decide) ?_
          exact g_none
      refine g_ite (c0 := ((xs (gN x3)) &&& 31) = 15) (fun h_32 => ?_) (fun h_32 => ?_)
      · refine g_tin (tgt := 573) dL_law_32 (by rw [h_32]; decide) (by rw [h_32]; decide) (by rw [h_32]; rfl) (by decide) ?_
        refine g_aload_n 1 dL_law_573 rfl ?_
        refine g_aload_n 0 dL_law_574 rfl ?_
        refine g_iload_n 3 dL_law_575 rfl ?_
        refine g_iconst (v := 1) dL_law_576 (by decide) ?_
        refine g_iadd dL_law_577 ?_
        refine g_sald hVs dL_law_578 ?_
        refine g_aload_n 0 dL_law_579 rfl ?_
        refine g_iload_n 3 dL_law_580 rfl ?_
        refine g_iconst (v := 2) dL_law_581 (by decide) ?_
        refine g_iadd dL_law_582 ?_
        refine g_sald hVs dL_law_583 ?_
        refine g_aload_n 0 dL_law_584 rfl ?_
        refine g_iload_n 3 dL_law_585 rfl ?_
        refine g_iconst (v := 3) dL_law_586 (by decide) ?_
        refine g_iadd dL_law_587 ?_
        refine g_sald hVs dL_law_588 ?_
        refine g_cVi (ci := 10) (C0 := RX10) (T := TX10) (N := 13) (n := 3) (As := [.int (xs (gN (x3 + 1))), .int (xs (gN (x3 + 2))), .int (xs (gN (x3 + 3)))]) (rest := []) hF (tX10_saw hG hF hX hQ (xs (gN (x3 + 1))) (xs (gN (x3 + 2))) (xs (gN (x3 + 3))) S) gL_law_X10_saw rfl (hX 0 (by decide)) rfl rfl ⟨rfl, by decide +kernel, by decide +kernel, by decide +kernel⟩ rfl (gRm_law hcl (by decide) (by decide)) rfl (Nat.le_of_ble_eq_true rfl) dL_law_589 (fun v_58 S_59 => ?_)
        refine g_aload_n 2 dL_law_592 rfl ?_
        refine g_aload_n 0 dL_law_593 rfl ?_
        refine g_iload_n 3 dL_law_594 rfl ?_
        refine g_iconst (v := 1) dL_law_595 (by decide) ?_
        refine g_iadd dL_law_596 ?_
        refine g_sald hVs dL_law_597 ?_
        refine g_aload_n 0 dL_law_598 rfl ?_
        refine g_iload_n 3 dL_law_599 rfl ?_
        refine g_iconst (v := 2) dL_law_600 (by decide) ?_
        refine g_iadd dL_law_601 ?_
        refine g_sald hVs dL_law_602 ?_
        refine g_aload_n 0 dL_law_603 rfl ?_
        refine g_iload_n 3 dL_law_604 rfl ?_
        refine g_iconst (v := 3) dL_law_605 (by decide) ?_
        refine g_iadd dL_law_606 ?_
        refine g_sald hVs dL_law_607 ?_
        refine g_cVi (ci := 11) (C0 := RX11) (T := TX11) (N := 17) (n := 3) (As := [.int (xs (gN (x3 + 1))), .int (xs (gN (x3 + 2))), .int (xs (gN (x3 + 3)))]) (rest := [.int v_58]) hF (tX11_saw hG hF hM (xs (gN (x3 + 1))) (xs (gN (x3 + 2))) (xs (gN (x3 + 3))) S_59) gL_law_X11_saw rfl (hM 77 (by decide)) rfl rfl ⟨rfl, by decide +kernel, by decide +kernel, by decide +kernel⟩ rfl (gRm_law hcl (by decide) (by decide)) rfl (Nat.le_of_ble_eq_true rfl) dL_law_608 (fun v_60 S_61 => ?_)
        refine g_icmp_eq (tgt := 949) dL_law_611 (by decide) (fun h_33 => ?_) (fun h_33 => ?_)
        · exact tL_law_L949 hG hF hX hQ hM hV hVs hcl (fL_law_L18 L xs n) ih x3 S_61
        · refine g_iconst (v := 0) dL_law_614 (by decide) ?_
          exact g_none
      refine g_ite (c0 := ((xs (gN x3)) &&& 31) = 16) (fun h_34 => ?_) (fun h_34 => ?_)
      · refine g_tin (tgt := 616) dL_law_32 (by rw [h_34]; decide) (by rw [h_34]; decide) (by rw [h_34]; rfl) (by decide) ?_
        refine g_aload_n 1 dL_law_616 rfl ?_
        refine g_cVi (ci := 10) (C0 := RX10) (T := TX10) (N := 13) (n := 0) (As := []) (rest := []) hF (tX10_forget hG hF hX hQ S) gL_law_X10_forget rfl (hX 0 (by decide)) rfl rfl ⟨rfl, by decide +kernel, by decide +kernel, by decide +kernel⟩ rfl (gRm_law hcl (by decide) (by decide)) rfl (Nat.le_of_ble_eq_true rfl) dL_law_617 (fun v_62 S_63 => ?_)
        refine g_aload_n 2 dL_law_620 rfl ?_
        refine g_cVi (ci := 11) (C0 := RX11) (T := TX11) (N := 17) (n := 0) (As := []) (rest := [.int v_62]) hF (tX11_forget hG hF hM S_63) gL_law_X11_forget rfl (hM 77 (by decide)) rfl rfl ⟨rfl, by decide +kernel, by decide +kernel, by decide +kernel⟩ rfl (gRm_law hcl (by decide) (by decide)) rfl (Nat.le_of_ble_eq_true rfl) dL_law_621 (fun v_64 S_65 => ?_)
        refine g_icmp_eq (tgt := 949) dL_law_624 (by decide) (fun h_35 => ?_) (fun h_35 => ?_)
        · exact tL_law_L949 hG hF hX hQ hM hV hVs hcl (fL_law_L18 L xs n) ih x3 S_65
        · refine g_iconst (v := 0) dL_law_627 (by decide) ?_
          exact g_none
      refine g_ite (c0 := ((xs (gN x3)) &&& 31) = 17) (fun h_36 => ?_) (fun h_36 => ?_)
      · refine g_tin (tgt := 629) dL_law_32 (by rw [h_36]; decide) (by rw [h_36]; decide) (by rw [h_36]; rfl) (by decide) ?_
        refine g_aload_n 1 dL_law_629 rfl ?_
        refine g_cVi (ci := 10) (C0 := RX10) (T := TX10) (N := 13) (n := 0) (As := []) (rest := []) hF (tX10_left hG hF hX hQ S) gL_law_X10_left rfl (hX 0 (by decide)) rfl rfl ⟨rfl, by decide +kernel, by decide +kernel, by decide +kernel⟩ rfl (gRm_law hcl (by decide) (by decide)) rfl (Nat.le_of_ble_eq_true rfl) dL_law_630 (fun v_66 S_67 => ?_)
        refine g_aload_n 2 dL_law_633 rfl ?_
        refine g_cVi (ci := 11) (C0 := RX11) (T := TX11) (N := 17) (n := 0) (As := []) (rest := [.int v_66]) hF (tX11_left hG hF hM S_67) gL_law_X11_left rfl (hM 77 (by decide)) rfl rfl ⟨rfl, by decide +kernel, by decide +kernel, by decide +kernel⟩ rfl (gRm_law hcl (by decide) (by decide)) rfl (Nat.le_of_ble_eq_true rfl) dL_law_634 (fun v_68 S_69 => ?_)
        refine g_icmp_eq (tgt := 949) dL_law_637 (by decide) (fun h_37 => ?_) (fun h_37 => ?_)
        · exact tL_law_L949 hG hF hX hQ hM hV hVs hcl (fL_law_L18 L xs n) ih x3 S_69
        · refine g_iconst (v := 0) dL_law_640 (by decide) ?_
          exact g_none
      refine g_ite (c0 := ((xs (gN x3)) &&& 31) = 18) (fun h_38 => ?_) (fun h_38 => ?_)
      · refine g_tin (tgt := 642) dL_law_32 (by rw [h_38]; decide) (by rw [h_38]; decide) (by rw [h_38]; rfl) (by decide) ?_
        refine g_aload_n 1 dL_law_642 rfl ?_
        refine g_aload_n 0 dL_law_643 rfl ?_
        refine g_iload_n 3 dL_law_644 rfl ?_
        refine g_iconst (v := 1) dL_law_645 (by decide) ?_
        refine g_iadd dL_law_646 ?_
        refine g_sald hVs dL_law_647 ?_
        refine g_aload_n 0 dL_law_648 rfl ?_
        refine g_iload_n 3 dL_law_649 rfl ?_
        refine g_iconst (v := 2) dL_law_650 (by decide) ?_
        refine g_iadd dL_law_651 ?_
        refine g_sald hVs dL_law_652 ?_
        refine g_cVi (ci := 10) (C0 := RX10) (T := TX10) (N := 13) (n := 2) (As := [.int (xs (gN (x3 + 1))), .int (xs (gN (x3 + 2)))]) (rest := []) hF (tX10_sure hG hF hX hQ (xs (gN (x3 + 1))) (xs (gN (x3 + 2))) S) gL_law_X10_sure rfl (hX 0 (by decide)) rfl rfl ⟨rfl, by decide +kernel, by decide +kernel, by decide +kernel⟩ rfl (gRm_law hcl (by decide) (by decide)) rfl (Nat.le_of_ble_eq_true rfl) dL_law_653 (fun v_70 S_71 => ?_)
        refine g_aload_n 2 dL_law_656 rfl ?_
        refine g_aload_n 0 dL_law_657 rfl ?_
        refine g_iload_n 3 dL_law_658 rfl ?_
        refine g_iconst (v := 1) dL_law_659 (by decide) ?_
        refine g_iadd dL_law_660 ?_
        refine g_sald hVs dL_law_661 ?_
        refine g_aload_n 0 dL_law_662 rfl ?_
        refine g_iload_n 3 dL_law_663 rfl ?_
        refine g_iconst (v := 2) dL_law_664 (by decide) ?_
        refine g_iadd dL_law_665 ?_
        refine g_sald hVs dL_law_666 ?_
        refine g_cVi (ci := 11) (C0 := RX11) (T := TX11) (N := 17) (n := 2) (As := [.int (xs (gN (x3 + 1))), .int (xs (gN (x3 + 2)))]) (rest := [.int v_70]) hF (tX11_sure hG hF hM (xs (gN (x3 + 1))) (xs (gN (x3 + 2))) S_71) gL_law_X11_sure rfl (hM 77 (by decide)) rfl rfl ⟨rfl, by decide +kernel, by decide +kernel, by decide +kernel⟩ rfl (gRm_law hcl (by decide) (by decide)) rfl (Nat.le_of_ble_eq_true rfl) dL_law_667 (fun v_72 S_73 => ?_)
        refine g_icmp_eq (tgt := 949) dL_law_670 (by decide) (fun h_39 => ?_) (fun h_39 => ?_)
        · exact tL_law_L949 hG hF hX hQ hM hV hVs hcl (fL_law_L18 L xs n) ih x3 S_73
        · refine g_iconst (v := 0) dL_law_673 (by decide) ?_
          exact g_none
      refine g_ite (c0 := ((xs (gN x3)) &&& 31) = 19) (fun h_40 => ?_) (fun h_40 => ?_)
      · refine g_tin (tgt := 675) dL_law_32 (by rw [h_40]; decide) (by rw [h_40]; decide) (by rw [h_40]; rfl) (by decide) ?_
        refine g_aload_n 1 dL_law_675 rfl ?_
        refine g_aload_n 0 dL_law_676 rfl ?_
        refine g_iload_n 3 dL_law_677 rfl ?_
        refine g_iconst (v := 1) dL_law_678 (by decide) ?_
        refine g_iadd dL_law_679 ?_
        refine g_sald hVs dL_law_680 ?_
        refine g_aload_n 0 dL_law_681 rfl ?_
        refine g_iload_n 3 dL_law_682 rfl ?_
        refine g_iconst (v := 2) dL_law_683 (by decide) ?_
        refine g_iadd dL_law_684 ?_
        refine g_sald hVs dL_law_685 ?_
        refine g_aload_n 0 dL_law_686 rfl ?_
        refine g_iload_n 3 dL_law_687 rfl ?_
        refine g_iconst (v := 3) dL_law_688 (by decide) ?_
        refine g_iadd dL_law_689 ?_
        refine g_sald hVs dL_law_690 ?_
        refine g_cVi (ci := 10) (C0 := RX10) (T := TX10) (N := 13) (n := 3) (As := [.int (xs (gN (x3 + 1))), .int (xs (gN (x3 + 2))), .int (xs (gN (x3 + 3)))]) (rest := []) hF (tX10_two hG hF hX hQ (xs (gN (x3 + 1))) (xs (gN (x3 + 2))) (xs (gN (x3 + 3))) S) gL_law_X10_two rfl (hX 0 (by decide)) rfl rfl ⟨rfl, by decide +kernel, by decide +kernel, by decide +kernel⟩ rfl (gRm_law hcl (by decide) (by decide)) rfl (Nat.le_of_ble_eq_true rfl) dL_law_691 (fun v_74 S_75 => ?_)
        refine g_aload_n 2 dL_law_694 rfl ?_
        refine g_aload_n 0 dL_law_695 rfl ?_
        refine g_iload_n 3 dL_law_696 rfl ?_
        refine g_iconst (v := 1) dL_law_697 (by decide) ?_
        refine g_iadd dL_law_698 ?_
        refine g_sald hVs dL_law_699 ?_
        refine g_aload_n 0 dL_law_700 rfl ?_
        refine g_iload_n 3 dL_law_701 rfl ?_
        refine g_iconst (v := 2) dL_law_702 (by decide) ?_
        refine g_iadd dL_law_703 ?_
        refine g_sald hVs dL_law_704 ?_
        refine g_aload_n 0 dL_law_705 rfl ?_
        refine g_iload_n 3 dL_law_706 rfl ?_
        refine g_iconst (v := 3) dL_law_707 (by decide) ?_
        refine g_iadd dL_law_708 ?_
        refine g_sald hVs dL_law_709 ?_
        refine g_cVi (ci := 11) (C0 := RX11) (T := TX11) (N := 17) (n := 3) (As := [.int (xs (gN (x3 + 1))), .int (xs (gN (x3 + 2))), .int (xs (gN (x3 + 3)))]) (rest := [.int v_74]) hF (tX11_two hG hF hM (xs (gN (x3 + 1))) (xs (gN (x3 + 2))) (xs (gN (x3 + 3))) S_75) gL_law_X11_two rfl (hM 77 (by decide)) rfl rfl ⟨rfl, by decide +kernel, by decide +kernel, by decide +kernel⟩ rfl (gRm_law hcl (by decide) (by decide)) rfl (Nat.le_of_ble_eq_true rfl) dL_law_710 (fun v_76 S_77 => ?_)
        refine g_icmp_eq (tgt := 949) dL_law_713 (by decide) (fun h_41 => ?_) (fun h_41 => ?_)
        · exact tL_law_L949 hG hF hX hQ hM hV hVs hcl (fL_law_L18 L xs n) ih x3 S_77
        · refine g_iconst (v := 0) dL_law_716 (by decide) ?_
          exact g_none
      refine g_ite (c0 := ((xs (gN x3)) &&& 31) = 20) (fun h_42 => ?_) (fun h_42 => ?_)
      · refine g_tin (tgt := 718) dL_law_32 (by rw [h_42]; decide) (by rw [h_42]; decide) (by rw [h_42]; rfl) (by decide) ?_
        refine g_aload_n 1 dL_law_718 rfl ?_
        refine g_aload_n 0 dL_law_719 rfl ?_
        refine g_iload_n 3 dL_law_720 rfl ?_
        refine g_iconst (v := 1) dL_law_721 (by decide) ?_
        refine g_iadd dL_law_722 ?_
        refine g_sald hVs dL_law_723 ?_
        refine g_cVi (ci := 10) (C0 := RX10) (T := TX10) (N := 13) (n := 1) (As := [.int (xs (gN (x3 + 1)))]) (rest := []) hF (tX10_between hG hF hX hQ hV (xs (gN (x3 + 1))) S) gL_law_X10_between rfl (hX 0 (by decide)) rfl rfl ⟨rfl, by decide +kernel, by decide +kernel, by decide +kernel⟩ rfl (gRm_law hcl (by decide) (by decide)) rfl (Nat.le_of_ble_eq_true rfl) dL_law_724 (fun v_78 S_79 => ?_)
        refine g_aload_n 2 dL_law_727 rfl ?_
        refine g_aload_n 0 dL_law_728 rfl ?_
        refine g_iload_n 3 dL_law_729 rfl ?_
        refine g_iconst (v := 1) dL_law_730 (by decide) ?_
        refine g_iadd dL_law_731 ?_
        refine g_sald hVs dL_law_732 ?_
        refine g_cVi (ci := 11) (C0 := RX11) (T := TX11) (N := 17) (n := 1) (As := [.int (xs (gN (x3 + 1)))]) (rest := [.int v_78]) hF (tX11_between hG hF hM (xs (gN (x3 + 1))) S_79) gL_law_X11_between rfl (hM 77 (by decide)) rfl rfl ⟨rfl, by decide +kernel, by decide +kernel, by decide +kernel⟩ rfl (gRm_law hcl (by decide) (by decide)) rfl (Nat.le_of_ble_eq_true rfl) dL_law_733 (fun v_80 S_81 => ?_)
        refine g_icmp_eq (tgt := 949) dL_law_736 (by decide) (fun h_43 => ?_) (fun h_43 => ?_)
        · exact tL_law_L949 hG hF hX hQ hM hV hVs hcl (fL_law_L18 L xs n) ih x3 S_81
        · refine g_iconst (v := 0) dL_law_739 (by decide) ?_
          exact g_none
      refine g_ite (c0 := ((xs (gN x3)) &&& 31) = 21) (fun h_44 => ?_) (fun h_44 => ?_)
      · refine g_tin (tgt := 741) dL_law_32 (by rw [h_44]; decide) (by rw [h_44]; decide) (by rw [h_44]; rfl) (by decide) ?_
        refine g_aload_n 1 dL_law_741 rfl ?_
        refine g_aload_n 0 dL_law_742 rfl ?_
        refine g_iload_n 3 dL_law_743 rfl ?_
        refine g_iconst (v := 1) dL_law_744 (by decide) ?_
        refine g_iadd dL_law_745 ?_
        refine g_sald hVs dL_law_746 ?_
        refine g_cVp (ci := 10) (C0 := RX10) (T := TX10) (N := 13) (n := 1) (As := [.int (xs (gN (x3 + 1)))]) (rest := []) hF (tX10_fewest hG hF hX hQ (xs (gN (x3 + 1))) S) gL_law_X10_fewest rfl (hX 0 (by decide)) rfl rfl ⟨rfl, by decide +kernel, by decide +kernel, by decide +kernel⟩ rfl (gRm_law hcl (by decide) (by decide)) rfl (Nat.le_of_ble_eq_true rfl) dL_law_747 (fun v_82 => ?_)
        refine g_aload_n 2 dL_law_750 rfl ?_
        refine g_aload_n 0 dL_law_751 rfl ?_
        refine g_iload_n 3 dL_law_752 rfl ?_
        refine g_iconst (v := 1) dL_law_753 (by decide) ?_
        refine g_iadd dL_law_754 ?_
        refine g_sald hVs dL_law_755 ?_
        refine g_cVi (ci := 11) (C0 := RX11) (T := TX11) (N := 17) (n := 1) (As := [.int (xs (gN (x3 + 1)))]) (rest := [.int v_82]) hF (tX11_fewest hG hF hM (xs (gN (x3 + 1))) S) gL_law_X11_fewest rfl (hM 77 (by decide)) rfl rfl ⟨rfl, by decide +kernel, by decide +kernel, by decide +kernel⟩ rfl (gRm_law hcl (by decide) (by decide)) rfl (Nat.le_of_ble_eq_true rfl) dL_law_756 (fun v_83 S_84 => ?_)
        refine g_icmp_eq (tgt := 949) dL_law_759 (by decide) (fun h_45 => ?_) (fun h_45 => ?_)
        · exact tL_law_L949 hG hF hX hQ hM hV hVs hcl (fL_law_L18 L xs n) ih x3 S_84
        · refine g_iconst (v := 0) dL_law_762 (by decide) ?_
          exact g_none
      refine g_ite (c0 := ((xs (gN x3)) &&& 31) = 22) (fun h_46 => ?_) (fun h_46 => ?_)
      · refine g_tin (tgt := 764) dL_law_32 (by rw [h_46]; decide) (by rw [h_46]; decide) (by rw [h_46]; rfl) (by decide) ?_
        refine g_aload_n 1 dL_law_764 rfl ?_
        refine g_aload_n 0 dL_law_765 rfl ?_
        refine g_iload_n 3 dL_law_766 rfl ?_
        refine g_iconst (v := 1) dL_law_767 (by decide) ?_
        refine g_iadd dL_law_768 ?_
        refine g_sald hVs dL_law_769 ?_
        refine g_cVi (ci := 10) (C0 := RX10) (T := TX10) (N := 13) (n := 1) (As := [.int (xs (gN (x3 + 1)))]) (rest := []) hF (tX10_best hG hF hX hQ (xs (gN (x3 + 1))) S) gL_law_X10_best rfl (hX 0 (by decide)) rfl rfl ⟨rfl, by decide +kernel, by decide +kernel, by decide +kernel⟩ rfl (gRm_law hcl (by decide) (by decide)) rfl (Nat.le_of_ble_eq_true rfl) dL_law_770 (fun v_85 S_86 => ?_)
        refine g_aload_n 2 dL_law_773 rfl ?_
        refine g_aload_n 0 dL_law_774 rfl ?_
        refine g_iload_n 3 dL_law_775 rfl ?_
        refine g_iconst (v := 1) dL_law_776 (by decide) ?_
        refine g_iadd dL_law_777 ?_
        refine g_sald hVs dL_law_778 ?_
        refine g_cVi (ci := 11) (C0 := RX11) (T := TX11) (N := 17) (n := 1) (As := [.int (xs (gN (x3 + 1)))]) (rest := [.int v_85]) hF (tX11_best hG hF hM (xs (gN (x3 + 1))) S_86) gL_law_X11_best rfl (hM 77 (by decide)) rfl rfl ⟨rfl, by decide +kernel, by decide +kernel, by decide +kernel⟩ rfl (gRm_law hcl (by decide) (by decide)) rfl (Nat.le_of_ble_eq_true rfl) dL_law_779 (fun v_87 S_88 => ?_)
        refine g_icmp_eq (tgt := 949) dL_law_782 (by decide) (fun h_47 => ?_) (fun h_47 => ?_)
        · exact tL_law_L949 hG hF hX hQ hM hV hVs hcl (fL_law_L18 L xs n) ih x3 S_88
        · refine g_iconst (v := 0) dL_law_785 (by decide) ?_
          exact g_none
      refine g_ite (c0 := ((xs (gN x3)) &&& 31) = 23) (fun h_48 => ?_) (fun h_48 => ?_)
      · refine g_tin (tgt := 787) dL_law_32 (by rw [h_48]; decide) (by rw [h_48]; decide) (by rw [h_48]; rfl) (by decide) ?_
        refine g_aload_n 1 dL_law_787 rfl ?_
        refine g_aload_n 0 dL_law_788 rfl ?_
        refine g_iload_n 3 dL_law_789 rfl ?_
        refine g_iconst (v := 1) dL_law_790 (by decide) ?_
        refine g_iadd dL_law_791 ?_
        refine g_sald hVs dL_law_792 ?_
        refine g_cVi (ci := 10) (C0 := RX10) (T := TX10) (N := 13) (n := 1) (As := [.int (xs (gN (x3 + 1)))]) (rest := []) hF (tX10_leaving hG hF hX hQ (xs (gN (x3 + 1))) S) gL_law_X10_leaving rfl (hX 0 (by decide)) rfl rfl ⟨rfl, by decide +kernel, by decide +kernel, by decide +kernel⟩ rfl (gRm_law hcl (by decide) (by decide)) rfl (Nat.le_of_ble_eq_true rfl) dL_law_793 (fun v_89 S_90 => ?_)
        refine g_aload_n 2 dL_law_796 rfl ?_
        refine g_aload_n 0 dL_law_797 rfl ?_
        refine g_iload_n 3 dL_law_798 rfl ?_
        refine g_iconst (v := 1) dL_law_799 (by decide) ?_
        refine g_iadd dL_law_800 ?_
        refine g_sald hVs dL_law_801 ?_
        refine g_cVi (ci := 11) (C0 := RX11) (T := TX11) (N := 17) (n := 1) (As := [.int (xs (gN (x3 + 1)))]) (rest := [.int v_89]) hF (tX11_leaving hG hF hM (xs (gN (x3 + 1))) S_90) gL_law_X11_leaving rfl (hM 77 (by decide)) rfl rfl ⟨rfl, by decide +kernel, by decide +kernel, by decide +kernel⟩ rfl (gRm_law hcl (by decide) (by decide)) rfl (Nat.le_of_ble_eq_true rfl) dL_law_802 (fun v_91 S_92 => ?_)
        refine g_icmp_eq (tgt := 949) dL_law_805 (by decide) (fun h_49 => ?_) (fun h_49 => ?_)
        · exact tL_law_L949 hG hF hX hQ hM hV hVs hcl (fL_law_L18 L xs n) ih x3 S_92
        · refine g_iconst (v := 0) dL_law_808 (by decide) ?_
          exact g_none
      refine g_ite (c0 := ((xs (gN x3)) &&& 31) = 24) (fun h_50 => ?_) (fun h_50 => ?_)
      · refine g_tin (tgt := 810) dL_law_32 (by rw [h_50]; decide) (by rw [h_50]; decide) (by rw [h_50]; rfl) (by decide) ?_
        refine g_aload_n 1 dL_law_810 rfl ?_
        refine g_aload_n 0 dL_law_811 rfl ?_
        refine g_iload_n 3 dL_law_812 rfl ?_
        refine g_iconst (v := 1) dL_law_813 (by decide) ?_
        refine g_iadd dL_law_814 ?_
        refine g_sald hVs dL_law_815 ?_
        refine g_cVi (ci := 10) (C0 := RX10) (T := TX10) (N := 13) (n := 1) (As := [.int (xs (gN (x3 + 1)))]) (rest := []) hF (tX10_evening hG hF hX hQ (xs (gN (x3 + 1))) S) gL_law_X10_evening rfl (hX 0 (by decide)) rfl rfl ⟨rfl, by decide +kernel, by decide +kernel, by decide +kernel⟩ rfl (gRm_law hcl (by decide) (by decide)) rfl (Nat.le_of_ble_eq_true rfl) dL_law_816 (fun v_93 S_94 => ?_)
        refine g_aload_n 2 dL_law_819 rfl ?_
        refine g_aload_n 0 dL_law_820 rfl ?_
        refine g_iload_n 3 dL_law_821 rfl ?_
        refine g_iconst (v := 1) dL_law_822 (by decide) ?_
        refine g_iadd dL_law_823 ?_
        refine g_sald hVs dL_law_824 ?_
        refine g_cVi (ci := 11) (C0 := RX11) (T := TX11) (N := 17) (n := 1) (As := [.int (xs (gN (x3 + 1)))]) (rest := [.int v_93]) hF (tX11_evening hG hF hM (xs (gN (x3 + 1))) S_94) gL_law_X11_evening rfl (hM 77 (by decide)) rfl rfl ⟨rfl, by decide +kernel, by decide +kernel, by decide +kernel⟩ rfl (gRm_law hcl (by decide) (by decide)) rfl (Nat.le_of_ble_eq_true rfl) dL_law_825 (fun v_95 S_96 => ?_)
        refine g_icmp_eq (tgt := 949) dL_law_828 (by decide) (fun h_51 => ?_) (fun h_51 => ?_)
        · exact tL_law_L949 hG hF hX hQ hM hV hVs hcl (fL_law_L18 L xs n) ih x3 S_96
        · refine g_iconst (v := 0) dL_law_831 (by decide) ?_
          exact g_none
      refine g_ite (c0 := ((xs (gN x3)) &&& 31) = 25) (fun h_52 => ?_) (fun h_52 => ?_)
      · refine g_tin (tgt := 833) dL_law_32 (by rw [h_52]; decide) (by rw [h_52]; decide) (by rw [h_52]; rfl) (by decide) ?_
        refine g_aload_n 1 dL_law_833 rfl ?_
        refine g_aload_n 0 dL_law_834 rfl ?_
        refine g_iload_n 3 dL_law_835 rfl ?_
        refine g_iconst (v := 1) dL_law_836 (by decide) ?_
        refine g_iadd dL_law_837 ?_
        refine g_sald hVs dL_law_838 ?_
        refine g_aload_n 0 dL_law_839 rfl ?_
        refine g_iload_n 3 dL_law_840 rfl ?_
        refine g_iconst (v := 2) dL_law_841 (by decide) ?_
        refine g_iadd dL_law_842 ?_
        refine g_sald hVs dL_law_843 ?_
        refine g_cVi (ci := 10) (C0 := RX10) (T := TX10) (N := 13) (n := 2) (As := [.int (xs (gN (x3 + 1))), .int (xs (gN (x3 + 2)))]) (rest := []) hF (tX10_rate hG hF hX hQ (xs (gN (x3 + 1))) (xs (gN (x3 + 2))) S) gL_law_X10_rate rfl (hX 0 (by decide)) rfl rfl ⟨rfl, by decide +kernel, by decide +kernel, by decide +kernel⟩ rfl (gRm_law hcl (by decide) (by decide)) rfl (Nat.le_of_ble_eq_true rfl) dL_law_844 (fun v_97 S_98 => ?_)
        refine g_aload_n 2 dL_law_847 rfl ?_
        refine g_aload_n 0 dL_law_848 rfl ?_
        refine g_iload_n 3 dL_law_849 rfl ?_
        refine g_iconst (v := 1) dL_law_850 (by decide) ?_
        refine g_iadd dL_law_851 ?_
        refine g_sald hVs dL_law_852 ?_
        refine g_aload_n 0 dL_law_853 rfl ?_
        refine g_iload_n 3 dL_law_854 rfl ?_
        refine g_iconst (v := 2) dL_law_855 (by decide) ?_
        refine g_iadd dL_law_856 ?_
        refine g_sald hVs dL_law_857 ?_
        refine g_cVi (ci := 11) (C0 := RX11) (T := TX11) (N := 17) (n := 2) (As := [.int (xs (gN (x3 + 1))), .int (xs (gN (x3 + 2)))]) (rest := [.int v_97]) hF (tX11_rate hG hF hM (xs (gN (x3 + 1))) (xs (gN (x3 + 2))) S_98) gL_law_X11_rate rfl (hM 77 (by decide)) rfl rfl ⟨rfl, by decide +kernel, by decide +kernel, by decide +kernel⟩ rfl (gRm_law hcl (by decide) (by decide)) rfl (Nat.le_of_ble_eq_true rfl) dL_law_858 (fun v_99 S_100 => ?_)
        refine g_icmp_eq (tgt := 949) dL_law_861 (by decide) (fun h_53 => ?_) (fun h_53 => ?_)
        · exact tL_law_L949 hG hF hX hQ hM hV hVs hcl (fL_law_L18 L xs n) ih x3 S_100
        · refine g_iconst (v := 0) dL_law_864 (by decide) ?_
          exact g_none
      refine g_ite (c0 := ((xs (gN x3)) &&& 31) = 26) (fun h_54 => ?_) (fun h_54 => ?_)
      · refine g_tin (tgt := 866) dL_law_32 (by rw [h_54]; decide) (by rw [h_54]; decide) (by rw [h_54]; rfl) (by decide) ?_
        refine g_aload_n 1 dL_law_866 rfl ?_
        refine g_aload_n 0 dL_law_867 rfl ?_
        refine g_iload_n 3 dL_law_868 rfl ?_
        refine g_iconst (v := 1) dL_law_869 (by decide) ?_
        refine g_iadd dL_law_870 ?_
        refine g_sald hVs dL_law_871 ?_
        refine g_cVi (ci := 10) (C0 := RX10) (T := TX10) (N := 13) (n := 1) (As := [.int (xs (gN (x3 + 1)))]) (rest := []) hF (tX10_keep hG hF hX hQ (xs (gN (x3 + 1))) S) gL_law_X10_keep rfl (hX 0 (by decide)) rfl rfl ⟨rfl, by decide +kernel, by decide +kernel, by decide +kernel⟩ rfl (gRm_law hcl (by decide) (by decide)) rfl (Nat.le_of_ble_eq_true rfl) dL_law_872 (fun v_101 S_102 => ?_)
        refine g_aload_n 2 dL_law_875 rfl ?_
        refine g_aload_n 0 dL_law_876 rfl ?_
        refine g_iload_n 3 dL_law_877 rfl ?_
        refine g_iconst (v := 1) dL_law_878 (by decide) ?_
        refine g_iadd dL_law_879 ?_
        refine g_sald hVs dL_law_880 ?_
        refine g_cVi (ci := 11) (C0 := RX11) (T := TX11) (N := 17) (n := 1) (As := [.int (xs (gN (x3 + 1)))]) (rest := [.int v_101]) hF (tX11_keep hG hF hM (xs (gN (x3 + 1))) S_102) gL_law_X11_keep rfl (hM 77 (by decide)) rfl rfl ⟨rfl, by decide +kernel, by decide +kernel, by decide +kernel⟩ rfl (gRm_law hcl (by decide) (by decide)) rfl (Nat.le_of_ble_eq_true rfl) dL_law_881 (fun v_103 S_104 => ?_)
        refine g_icmp_eq (tgt := 949) dL_law_884 (by decide) (fun h_55 => ?_) (fun h_55 => ?_)
        · exact tL_law_L949 hG hF hX hQ hM hV hVs hcl (fL_law_L18 L xs n) ih x3 S_104
        · refine g_iconst (v := 0) dL_law_887 (by decide) ?_
          exact g_none
      refine g_ite (c0 := ((xs (gN x3)) &&& 31) = 27) (fun h_56 => ?_) (fun h_56 => ?_)
      · refine g_tin (tgt := 889) dL_law_32 (by rw [h_56]; decide) (by rw [h_56]; decide) (by rw [h_56]; rfl) (by decide) ?_
        refine g_aload_n 1 dL_law_889 rfl ?_
        refine g_aload_n 0 dL_law_890 rfl ?_
        refine g_iload_n 3 dL_law_891 rfl ?_
        refine g_iconst (v := 1) dL_law_892 (by decide) ?_
        refine g_iadd dL_law_893 ?_
        refine g_sald hVs dL_law_894 ?_
        refine g_cVi (ci := 10) (C0 := RX10) (T := TX10) (N := 13) (n := 1) (As := [.int (xs (gN (x3 + 1)))]) (rest := []) hF (tX10_back hG hF hX hQ (xs (gN (x3 + 1))) S) gL_law_X10_back rfl (hX 0 (by decide)) rfl rfl ⟨rfl, by decide +kernel, by decide +kernel, by decide +kernel⟩ rfl (gRm_law hcl (by decide) (by decide)) rfl (Nat.le_of_ble_eq_true rfl) dL_law_895 (fun v_105 S_106 => ?_)
        refine g_aload_n 2 dL_law_898 rfl ?_
        refine g_aload_n 0 dL_law_899 rfl ?_
        refine g_iload_n 3 dL_law_900 rfl ?_
        refine g_iconst (v := 1) dL_law_901 (by decide) ?_
        refine g_iadd dL_law_902 ?_
        refine g_sald hVs dL_law_903 ?_
        refine g_cVi (ci := 11) (C0 := RX11) (T := TX11) (N := 17) (n := 1) (As := [.int (xs (gN (x3 + 1)))]) (rest := [.int v_105]) hF (tX11_back hG hF hM (xs (gN (x3 + 1))) S_106) gL_law_X11_back rfl (hM 77 (by decide)) rfl rfl ⟨rfl, by decide +kernel, by decide +kernel, by decide +kernel⟩ rfl (gRm_law hcl (by decide) (by decide)) rfl (Nat.le_of_ble_eq_true rfl) dL_law_904 (fun v_107 S_108 => ?_)
        refine g_icmp_eq (tgt := 949) dL_law_907 (by decide) (fun h_57 => ?_) (fun h_57 => ?_)
        · exact tL_law_L949 hG hF hX hQ hM hV hVs hcl (fL_law_L18 L xs n) ih x3 S_108
        · refine g_iconst (v := 0) dL_law_910 (by decide) ?_
          exact g_none
      refine g_ite (c0 := ((xs (gN x3)) &&& 31) = 28) (fun h_58 => ?_) (fun h_58 => ?_)
      · refine g_tin (tgt := 912) dL_law_32 (by rw [h_58]; decide) (by rw [h_58]; decide) (by rw [h_58]; rfl) (by decide) ?_
        refine g_aload_n 1 dL_law_912 rfl ?_
        refine g_aload_n 0 dL_law_913 rfl ?_
        refine g_iload_n 3 dL_law_914 rfl ?_
        refine g_iconst (v := 1) dL_law_915 (by decide) ?_
        refine g_iadd dL_law_916 ?_
        refine g_sald hVs dL_law_917 ?_
        refine g_cVp (ci := 10) (C0 := RX10) (T := TX10) (N := 13) (n := 1) (As := [.int (xs (gN (x3 + 1)))]) (rest := []) hF (tX10_count hG hF hX hQ (xs (gN (x3 + 1))) S) gL_law_X10_count rfl (hX 0 (by decide)) rfl rfl ⟨rfl, by decide +kernel, by decide +kernel, by decide +kernel⟩ rfl (gRm_law hcl (by decide) (by decide)) rfl (Nat.le_of_ble_eq_true rfl) dL_law_918 (fun v_109 => ?_)
        refine g_aload_n 2 dL_law_921 rfl ?_
        refine g_aload_n 0 dL_law_922 rfl ?_
        refine g_iload_n 3 dL_law_923 rfl ?_
        refine g_iconst (v := 1) dL_law_924 (by decide) ?_
        refine g_iadd dL_law_925 ?_
        refine g_sald hVs dL_law_926 ?_
        refine g_cVi (ci := 11) (C0 := RX11) (T := TX11) (N := 17) (n := 1) (As := [.int (xs (gN (x3 + 1)))]) (rest := [.int v_109]) hF (tX11_count hG hF hM (xs (gN (x3 + 1))) S) gL_law_X11_count rfl (hM 77 (by decide)) rfl rfl ⟨rfl, by decide +kernel, by decide +kernel, by decide +kernel⟩ rfl (gRm_law hcl (by decide) (by decide)) rfl (Nat.le_of_ble_eq_true rfl) dL_law_927 (fun v_110 S_111 => ?_)
        refine g_icmp_eq (tgt := 949) dL_law_930 (by decide) (fun h_59 => ?_) (fun h_59 => ?_)
        · exact tL_law_L949 hG hF hX hQ hM hV hVs hcl (fL_law_L18 L xs n) ih x3 S_111
        · refine g_iconst (v := 0) dL_law_933 (by decide) ?_
          exact g_none
      refine g_ite (c0 := ((xs (gN x3)) &&& 31) = 29) (fun h_60 => ?_) (fun h_60 => ?_)
      · refine g_tin (tgt := 935) dL_law_32 (by rw [h_60]; decide) (by rw [h_60]; decide) (by rw [h_60]; rfl) (by decide) ?_
        refine g_aload_n 1 dL_law_935 rfl ?_
        refine g_cVj (ci := 10) (C0 := RX10) (T := TX10) (N := 13) (n := 0) (As := []) (rest := []) hF (tX10_trace hG hF hX hQ S) gL_law_X10_trace rfl (hX 0 (by decide)) rfl rfl ⟨rfl, by decide +kernel, by decide +kernel, by decide +kernel⟩ rfl (gRm_law hcl (by decide) (by decide)) rfl (Nat.le_of_ble_eq_true rfl) dL_law_936 (fun v_112 => ?_)
        refine g_aload_n 2 dL_law_939 rfl ?_
        refine g_cVk (ci := 11) (C0 := RX11) (T := TX11) (N := 17) (n := 0) (As := []) (rest := [.long v_112]) hF (tX11_trace hG hF hM S) gL_law_X11_trace rfl (hM 77 (by decide)) rfl rfl ⟨rfl, by decide +kernel, by decide +kernel, by decide +kernel⟩ rfl (gRm_law hcl (by decide) (by decide)) rfl (Nat.le_of_ble_eq_true rfl) dL_law_940 (fun v_113 S_114 => ?_)
        refine g_lcmp dL_law_943 ?_
        refine g_if_eq (tgt := 949) dL_law_944 (by decide) (fun h_61 => ?_) (fun h_61 => ?_)
        · exact tL_law_L949 hG hF hX hQ hM hV hVs hcl (fL_law_L18 L xs n) ih x3 S_114
        · refine g_iconst (v := 0) dL_law_947 (by decide) ?_
          exact g_none
      refine g_tout (tgt := 949) dL_law_32 (by have nh_2 := lv_neT (a := 0) h_2 (by decide); have nh_4 := lv_neT (a := 1) h_4 (by decide); have nh_6 := lv_neT (a := 2) h_6 (by decide); have nh_8 := lv_neT (a := 3) h_8 (by decide); have nh_10 := lv_neT (a := 4) h_10 (by decide); have nh_12 := lv_neT (a := 5) h_12 (by decide); have nh_14 := lv_neT (a := 6) h_14 (by decide); have nh_16 := lv_neT (a := 7) h_16 (by decide); have nh_18 := lv_neT (a := 8) h_18 (by decide); have nh_20 := lv_neT (a := 9) h_20 (by decide); have nh_22 := lv_neT (a := 10) h_22 (by decide); have nh_24 := lv_neT (a := 11) h_24 (by decide); have nh_26 := lv_neT (a := 12) h_26 (by decide); have nh_28 := lv_neT (a := 13) h_28 (by decide); have nh_30 := lv_neT (a := 14) h_30 (by decide); have nh_32 := lv_neT (a := 15) h_32 (by decide); have nh_34 := lv_neT (a := 16) h_34 (by decide); have nh_36 := lv_neT (a := 17) h_36 (by decide); have nh_38 := lv_neT (a := 18) h_38 (by decide); have nh_40 := lv_neT (a := 19) h_40 (by decide); have nh_42 := lv_neT (a := 20) h_42 (by decide); have nh_44 := lv_neT (a := 21) h_44 (by decide); have nh_46 := lv_neT (a := 22) h_46 (by decide); have nh_48 := lv_neT (a := 23) h_48 (by decide); have nh_50 := lv_neT (a := 24) h_50 (by decide); have nh_52 := lv_neT (a := 25) h_52 (by decide); have nh_54 := lv_neT (a := 26) h_54 (by decide); have nh_56 := lv_neT (a := 27) h_56 (by decide); have nh_58 := lv_neT (a := 28) h_58 (by decide); have nh_60 := lv_neT (a := 29) h_60 (by decide); omega) (by decide) ?_
      exact tL_law_L949 hG hF hX hQ hM hV hVs hcl (fL_law_L18 L xs n) ih x3 S
