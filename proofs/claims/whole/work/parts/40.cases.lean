/-! ===== the law: its calls ===== -/
set_option maxRecDepth 100000 in
set_option maxHeartbeats 4000000 in
theorem lawc_sample {E : XE} {K : XK} (C : XC E K cL_law 4 RL ret 11 414 600000 7302250) {b Ln : Nat} {xs : Nat → Int32} (hJ : LJ E K b Ln xs) {i c : Nat} (hi : i + 4 ≤ Ln) (hc : c ≤ 600) {G0 : GW} (kk : LKK E K b i 1495 G0 (c + 1) 689) : LKK E K b i 1495 G0 c 140 := by
  intro u s su n tx ny re ca p to h
  obtain ⟨tk, fi, a, ha, hS⟩ := h.1
  have hr := sam_ok h hc (xs (i + 1))
  refine x_aload_n C dL_law_140 2 rfl ?_
  refine x_arg C hJ 1 rfl (by omega) dL_law_141 dL_law_142 dL_law_143 dL_law_144 dL_law_145 ?_
  refine x_cV1 (As := [.int (xs (i + 1))]) C (c_X8_sample E _ (xB E) _ u (xs (i + 1)) (Nat.le_refl _) (by omega)) v_L_13 (Nat.le_add_right _ _) (Nat.le_refl _) (by omega) (ov_at (i := 0) rfl) rfl rfl rfl rfl rfl dL_law_146 ?_
  refine x_G (ov_comm (n := 56) (k := 5) rfl rfl (Or.inl (Nat.le_refl _))) ?_
  refine x_aload_n C dL_law_149 1 rfl ?_
  refine x_arg C hJ 1 rfl (by omega) dL_law_150 dL_law_151 dL_law_152 dL_law_153 dL_law_154 ?_
  refine x_cV1 (As := [.int (xs (i + 1))]) C (c_X9_sample E _ (xB E + 56) _ s su n tx (nI ny) re ca (nI p) to (xs (i + 1)) tk (gok_of hS) h.2.1.1 (Nat.le_add_right _ _) (by omega)) v_L_17 (Nat.le_add_right _ _) (Nat.le_add_right _ _) (by omega) (ov_at (i := 0) rfl) rfl rfl rfl rfl rfl dL_law_155 ?_
  refine x_G (ov_comm (n := 5) (k := 56) rfl rfl (Or.inr (Nat.le_refl _))) ?_
  exact x_icmp_eq C 689 dL_law_158 rfl (fun _ => kk (qSam u (xs (i + 1))) _ _ _ _ _ _ _ _ _ hr.2) (fun q => absurd hr.1 q)
set_option maxRecDepth 100000 in
set_option maxHeartbeats 4000000 in
theorem lawc_silence {E : XE} {K : XK} (C : XC E K cL_law 4 RL ret 11 414 600000 7302250) {b Ln : Nat} {xs : Nat → Int32} (hJ : LJ E K b Ln xs) {i c : Nat} (hi : i + 4 ≤ Ln) (hc : c ≤ 600) {G0 : GW} (kk : LKK E K b i 1495 G0 (c + 1) 689) : LKK E K b i 1495 G0 c 163 := by
  intro u s su n tx ny re ca p to h
  obtain ⟨tk, fi, a, ha, hS⟩ := h.1
  have hr := silc_ok h hc (xs (i + 1))
  refine x_aload_n C dL_law_163 2 rfl ?_
  refine x_arg C hJ 1 rfl (by omega) dL_law_164 dL_law_165 dL_law_166 dL_law_167 dL_law_168 ?_
  refine x_cV1 (As := [.int (xs (i + 1))]) C (c_X8_silence E _ (xB E) _ u (xs (i + 1)) (Nat.le_refl _) (by omega)) v_L_18 (Nat.le_add_right _ _) (Nat.le_refl _) (by omega) (ov_at (i := 0) rfl) rfl rfl rfl rfl rfl dL_law_169 ?_
  refine x_G (ov_comm (n := 56) (k := 5) rfl rfl (Or.inl (Nat.le_refl _))) ?_
  refine x_aload_n C dL_law_172 1 rfl ?_
  refine x_arg C hJ 1 rfl (by omega) dL_law_173 dL_law_174 dL_law_175 dL_law_176 dL_law_177 ?_
  refine x_cV1 (As := [.int (xs (i + 1))]) C (c_X9_silence E _ (xB E + 56) _ s su n tx (nI ny) re ca (nI p) to (xs (i + 1)) tk (gok_of hS) h.2.1.1 (Nat.le_add_right _ _) (by omega)) v_L_21 (Nat.le_add_right _ _) (Nat.le_add_right _ _) (by omega) (ov_at (i := 0) rfl) rfl rfl rfl rfl rfl dL_law_178 ?_
  refine x_G (ov_comm (n := 5) (k := 56) rfl rfl (Or.inr (Nat.le_refl _))) ?_
  exact x_icmp_eq C 689 dL_law_181 rfl (fun _ => kk (qSilc u (xs (i + 1))) _ _ _ _ _ _ _ _ _ hr.2) (fun q => absurd hr.1 q)
set_option maxRecDepth 100000 in
set_option maxHeartbeats 4000000 in
theorem lawc_tap {E : XE} {K : XK} (C : XC E K cL_law 4 RL ret 11 414 600000 7302250) {b Ln : Nat} {xs : Nat → Int32} (hJ : LJ E K b Ln xs) {i c : Nat} (hi : i + 4 ≤ Ln) (hc : c ≤ 600) {G0 : GW} (kk : LKK E K b i 1495 G0 (c + 1) 689) : LKK E K b i 1495 G0 c 186 := by
  intro u s su n tx ny re ca p to h
  obtain ⟨tk, fi, a, ha, hS⟩ := h.1
  have hr := tapc_ok h (xs (i + 1)) (xs (i + 2)) (xs (i + 3))
  refine x_aload_n C dL_law_186 2 rfl ?_
  refine x_arg C hJ 1 rfl (by omega) dL_law_187 dL_law_188 dL_law_189 dL_law_190 dL_law_191 ?_
  refine x_arg C hJ 2 rfl (by omega) dL_law_192 dL_law_193 dL_law_194 dL_law_195 dL_law_196 ?_
  refine x_arg C hJ 3 rfl (by omega) dL_law_197 dL_law_198 dL_law_199 dL_law_200 dL_law_201 ?_
  refine x_cV1 (As := [.int (xs (i + 1)), .int (xs (i + 2)), .int (xs (i + 3))]) C (c_X8_tap E _ (xB E) _ u (xs (i + 1)) (xs (i + 2)) (xs (i + 3)) (Nat.le_refl _) (by omega)) v_L_22 (Nat.le_add_right _ _) (Nat.le_refl _) (by omega) (ov_at (i := 0) rfl) rfl rfl rfl rfl rfl dL_law_202 ?_
  refine x_G (ov_comm (n := 56) (k := 5) rfl rfl (Or.inl (Nat.le_refl _))) ?_
  refine x_aload_n C dL_law_205 1 rfl ?_
  refine x_arg C hJ 1 rfl (by omega) dL_law_206 dL_law_207 dL_law_208 dL_law_209 dL_law_210 ?_
  refine x_arg C hJ 2 rfl (by omega) dL_law_211 dL_law_212 dL_law_213 dL_law_214 dL_law_215 ?_
  refine x_arg C hJ 3 rfl (by omega) dL_law_216 dL_law_217 dL_law_218 dL_law_219 dL_law_220 ?_
  refine x_cV1 (As := [.int (xs (i + 1)), .int (xs (i + 2)), .int (xs (i + 3))]) C (c_X9_tap E _ (xB E + 56) _ s su n tx (nI ny) re ca (nI p) to (xs (i + 1)) (xs (i + 2)) (xs (i + 3)) h.2.1.1 (Nat.le_add_right _ _) (by omega)) v_L_26 (Nat.le_add_right _ _) (Nat.le_add_right _ _) (by omega) (ov_at (i := 0) rfl) rfl rfl rfl rfl rfl dL_law_221 ?_
  refine x_G (ov_comm (n := 5) (k := 56) rfl rfl (Or.inr (Nat.le_refl _))) ?_
  exact x_icmp_eq C 689 dL_law_224 rfl (fun _ => kk (qTap u (xs (i + 1)) (xs (i + 2)) (xs (i + 3))) _ _ _ _ _ _ _ _ _ hr.2) (fun q => absurd hr.1 q)
set_option maxRecDepth 100000 in
set_option maxHeartbeats 4000000 in
theorem lawc_off {E : XE} {K : XK} (C : XC E K cL_law 4 RL ret 11 414 600000 7302250) {b Ln : Nat} {xs : Nat → Int32} (hJ : LJ E K b Ln xs) {i c : Nat} (hi : i + 4 ≤ Ln) (hc : c ≤ 600) {G0 : GW} (kk : LKK E K b i 1495 G0 (c + 1) 689) : LKK E K b i 1495 G0 c 229 := by
  intro u s su n tx ny re ca p to h
  obtain ⟨tk, fi, a, ha, hS⟩ := h.1
  have hr := offc_ok h (xs (i + 1))
  refine x_aload_n C dL_law_229 2 rfl ?_
  refine x_arg C hJ 1 rfl (by omega) dL_law_230 dL_law_231 dL_law_232 dL_law_233 dL_law_234 ?_
  refine x_cV1 (As := [.int (xs (i + 1))]) C (c_X8_off E _ (xB E) _ u (xs (i + 1)) (Nat.le_refl _) (by omega)) v_L_27 (Nat.le_add_right _ _) (Nat.le_refl _) (by omega) (ov_at (i := 0) rfl) rfl rfl rfl rfl rfl dL_law_235 ?_
  refine x_G (ov_comm (n := 56) (k := 5) rfl rfl (Or.inl (Nat.le_refl _))) ?_
  refine x_aload_n C dL_law_238 1 rfl ?_
  refine x_arg C hJ 1 rfl (by omega) dL_law_239 dL_law_240 dL_law_241 dL_law_242 dL_law_243 ?_
  refine x_cV1 (As := [.int (xs (i + 1))]) C (c_X9_off E _ (xB E + 56) _ s su n tx (nI ny) re ca (nI p) to (xs (i + 1)) h.2.1.1 (Nat.le_add_right _ _) (by omega)) v_L_30 (Nat.le_add_right _ _) (Nat.le_add_right _ _) (by omega) (ov_at (i := 0) rfl) rfl rfl rfl rfl rfl dL_law_244 ?_
  refine x_G (ov_comm (n := 5) (k := 56) rfl rfl (Or.inr (Nat.le_refl _))) ?_
  exact x_icmp_eq C 689 dL_law_247 rfl (fun _ => kk (qOff u (xs (i + 1))) _ _ _ _ _ _ _ _ _ hr.2) (fun q => absurd hr.1 q)
set_option maxRecDepth 100000 in
set_option maxHeartbeats 4000000 in
theorem lawc_feedback {E : XE} {K : XK} (C : XC E K cL_law 4 RL ret 11 414 600000 7302250) {b Ln : Nat} {xs : Nat → Int32} (hJ : LJ E K b Ln xs) {i c : Nat} (hi : i + 4 ≤ Ln) (hc : c ≤ 600) {G0 : GW} (kk : LKK E K b i 1495 G0 (c + 1) 689) : LKK E K b i 1495 G0 c 252 := by
  intro u s su n tx ny re ca p to h
  obtain ⟨tk, fi, a, ha, hS⟩ := h.1
  have hr := feec_ok h (xs (i + 1)) (xs (i + 2))
  refine x_aload_n C dL_law_252 2 rfl ?_
  refine x_arg C hJ 1 rfl (by omega) dL_law_253 dL_law_254 dL_law_255 dL_law_256 dL_law_257 ?_
  refine x_arg C hJ 2 rfl (by omega) dL_law_258 dL_law_259 dL_law_260 dL_law_261 dL_law_262 ?_
  refine x_cV1 (As := [.int (xs (i + 1)), .int (xs (i + 2))]) C (c_X8_feedback E _ (xB E) _ u (xs (i + 1)) (xs (i + 2)) (Nat.le_refl _) (by omega)) v_L_31 (Nat.le_add_right _ _) (Nat.le_refl _) (by omega) (ov_at (i := 0) rfl) rfl rfl rfl rfl rfl dL_law_263 ?_
  refine x_G (ov_comm (n := 56) (k := 5) rfl rfl (Or.inl (Nat.le_refl _))) ?_
  refine x_aload_n C dL_law_266 1 rfl ?_
  refine x_arg C hJ 1 rfl (by omega) dL_law_267 dL_law_268 dL_law_269 dL_law_270 dL_law_271 ?_
  refine x_arg C hJ 2 rfl (by omega) dL_law_272 dL_law_273 dL_law_274 dL_law_275 dL_law_276 ?_
  refine x_cV1 (As := [.int (xs (i + 1)), .int (xs (i + 2))]) C (c_X9_feedback E _ (xB E + 56) _ s su n tx (nI ny) re ca (nI p) to (xs (i + 1)) (xs (i + 2)) h.2.1.1 (Nat.le_add_right _ _) (by omega)) v_L_35 (Nat.le_add_right _ _) (Nat.le_add_right _ _) (by omega) (ov_at (i := 0) rfl) rfl rfl rfl rfl rfl dL_law_277 ?_
  refine x_G (ov_comm (n := 5) (k := 56) rfl rfl (Or.inr (Nat.le_refl _))) ?_
  exact x_icmp_eq C 689 dL_law_280 rfl (fun _ => kk (qFee u (xs (i + 1)) (xs (i + 2))) _ _ _ _ _ _ _ _ _ hr.2) (fun q => absurd hr.1 q)
set_option maxRecDepth 100000 in
set_option maxHeartbeats 4000000 in
theorem lawc_steal {E : XE} {K : XK} (C : XC E K cL_law 4 RL ret 11 414 600000 7302250) {b Ln : Nat} {xs : Nat → Int32} (hJ : LJ E K b Ln xs) {i c : Nat} (hi : i + 4 ≤ Ln) (hc : c ≤ 600) {G0 : GW} (kk : LKK E K b i 1495 G0 (c + 1) 689) : LKK E K b i 1495 G0 c 285 := by
  intro u s su n tx ny re ca p to h
  obtain ⟨tk, fi, a, ha, hS⟩ := h.1
  have hr := stec_ok h ha hS (xs (i + 1))
  refine x_aload_n C dL_law_285 2 rfl ?_
  refine x_arg C hJ 1 rfl (by omega) dL_law_286 dL_law_287 dL_law_288 dL_law_289 dL_law_290 ?_
  refine x_cV1 (As := [.int (xs (i + 1))]) C (c_X8_steal E _ (xB E) _ u (xs (i + 1)) (Nat.le_refl _) (by omega)) v_L_36 (Nat.le_add_right _ _) (Nat.le_refl _) (by omega) (ov_at (i := 0) rfl) rfl rfl rfl rfl rfl dL_law_291 ?_
  refine x_G (ov_comm (n := 56) (k := 5) rfl rfl (Or.inl (Nat.le_refl _))) ?_
  refine x_aload_n C dL_law_294 1 rfl ?_
  refine x_arg C hJ 1 rfl (by omega) dL_law_295 dL_law_296 dL_law_297 dL_law_298 dL_law_299 ?_
  refine x_cV1 (As := [.int (xs (i + 1))]) C (c_X9_steal E _ (xB E + 56) _ s su n tx (nI ny) re ca (nI p) to (xs (i + 1)) tk (gok_of hS) h.2.1.1 (Nat.le_add_right _ _) (by omega)) v_L_39 (Nat.le_add_right _ _) (Nat.le_add_right _ _) (by omega) (ov_at (i := 0) rfl) rfl rfl rfl rfl rfl dL_law_300 ?_
  refine x_G (ov_comm (n := 5) (k := 56) rfl rfl (Or.inr (Nat.le_refl _))) ?_
  exact x_icmp_eq C 689 dL_law_303 rfl (fun _ => kk (qSte u (xs (i + 1))) _ _ _ _ _ _ _ _ _ hr.2) (fun q => absurd hr.1 q)
set_option maxRecDepth 100000 in
set_option maxHeartbeats 4000000 in
theorem lawc_giveBack {E : XE} {K : XK} (C : XC E K cL_law 4 RL ret 11 414 600000 7302250) {b Ln : Nat} {xs : Nat → Int32} (hJ : LJ E K b Ln xs) {i c : Nat} (hi : i + 4 ≤ Ln) (hc : c ≤ 600) {G0 : GW} (kk : LKK E K b i 1495 G0 (c + 1) 689) : LKK E K b i 1495 G0 c 308 := by
  intro u s su n tx ny re ca p to h
  obtain ⟨tk, fi, a, ha, hS⟩ := h.1
  have hr := givc_ok h ha hS (xs (i + 1))
  refine x_aload_n C dL_law_308 2 rfl ?_
  refine x_arg C hJ 1 rfl (by omega) dL_law_309 dL_law_310 dL_law_311 dL_law_312 dL_law_313 ?_
  refine x_cV1 (As := [.int (xs (i + 1))]) C (c_X8_giveBack E _ (xB E) _ u (xs (i + 1)) (64 - tk) hS.1.2.2.1 (by omega) (Nat.le_refl _) (by omega)) v_L_40 (Nat.le_add_right _ _) (Nat.le_refl _) (by omega) (ov_at (i := 0) rfl) rfl rfl rfl rfl rfl dL_law_314 ?_
  refine x_G (ov_comm (n := 56) (k := 5) rfl rfl (Or.inl (Nat.le_refl _))) ?_
  refine x_aload_n C dL_law_317 1 rfl ?_
  refine x_arg C hJ 1 rfl (by omega) dL_law_318 dL_law_319 dL_law_320 dL_law_321 dL_law_322 ?_
  refine x_cV1 (As := [.int (xs (i + 1))]) C (c_X9_giveBack E _ (xB E + 56) _ s su n tx (nI ny) re ca (nI p) to (xs (i + 1)) tk (gok_of hS) h.2.1.1 (Nat.le_add_right _ _) (by omega)) v_L_43 (Nat.le_add_right _ _) (Nat.le_add_right _ _) (by omega) (ov_at (i := 0) rfl) rfl rfl rfl rfl rfl dL_law_323 ?_
  refine x_G (ov_comm (n := 5) (k := 56) rfl rfl (Or.inr (Nat.le_refl _))) ?_
  exact x_icmp_eq C 689 dL_law_326 rfl (fun _ => kk (qGiv u (64 - tk) (xs (i + 1))) _ _ _ _ _ _ _ _ _ hr.2) (fun q => absurd hr.1 q)
set_option maxRecDepth 100000 in
set_option maxHeartbeats 4000000 in
theorem lawc_set {E : XE} {K : XK} (C : XC E K cL_law 4 RL ret 11 414 600000 7302250) {b Ln : Nat} {xs : Nat → Int32} (hJ : LJ E K b Ln xs) {i c : Nat} (hi : i + 4 ≤ Ln) (hc : c ≤ 600) {G0 : GW} (kk : LKK E K b i 1495 G0 (c + 1) 689) : LKK E K b i 1495 G0 c 331 := by
  intro u s su n tx ny re ca p to h
  obtain ⟨tk, fi, a, ha, hS⟩ := h.1
  have hr := setc_ok h (xs (i + 1)) (xs (i + 2))
  refine x_aload_n C dL_law_331 2 rfl ?_
  refine x_arg C hJ 1 rfl (by omega) dL_law_332 dL_law_333 dL_law_334 dL_law_335 dL_law_336 ?_
  refine x_arg C hJ 2 rfl (by omega) dL_law_337 dL_law_338 dL_law_339 dL_law_340 dL_law_341 ?_
  refine x_cV1 (As := [.int (xs (i + 1)), .int (xs (i + 2))]) C (c_X8_set E _ (xB E) _ u (xs (i + 1)) (xs (i + 2)) (Nat.le_refl _) (by omega)) v_L_44 (Nat.le_add_right _ _) (Nat.le_refl _) (by omega) (ov_at (i := 0) rfl) rfl rfl rfl rfl rfl dL_law_342 ?_
  refine x_G (ov_comm (n := 56) (k := 5) rfl rfl (Or.inl (Nat.le_refl _))) ?_
  refine x_aload_n C dL_law_345 1 rfl ?_
  refine x_arg C hJ 1 rfl (by omega) dL_law_346 dL_law_347 dL_law_348 dL_law_349 dL_law_350 ?_
  refine x_arg C hJ 2 rfl (by omega) dL_law_351 dL_law_352 dL_law_353 dL_law_354 dL_law_355 ?_
  refine x_cV1 (As := [.int (xs (i + 1)), .int (xs (i + 2))]) C (c_X9_set E _ (xB E + 56) _ s su n tx (nI ny) re ca (nI p) to (xs (i + 1)) (xs (i + 2)) h.2.1.1 (Nat.le_add_right _ _) (by omega)) v_L_47 (Nat.le_add_right _ _) (Nat.le_add_right _ _) (by omega) (ov_at (i := 0) rfl) rfl rfl rfl rfl rfl dL_law_356 ?_
  refine x_G (ov_comm (n := 5) (k := 56) rfl rfl (Or.inr (Nat.le_refl _))) ?_
  exact x_icmp_eq C 689 dL_law_359 rfl (fun _ => kk (qSet u (xs (i + 1)) (xs (i + 2))) _ _ _ _ _ _ _ _ _ hr.2) (fun q => absurd hr.1 q)
set_option maxRecDepth 100000 in
set_option maxHeartbeats 4000000 in
theorem lawc_reset {E : XE} {K : XK} (C : XC E K cL_law 4 RL ret 11 414 600000 7302250) {b Ln : Nat} {xs : Nat → Int32} (hJ : LJ E K b Ln xs) {i c : Nat} (hi : i + 4 ≤ Ln) (hc : c ≤ 600) {G0 : GW} (kk : LKK E K b i 1495 G0 (c + 1) 689) : LKK E K b i 1495 G0 c 364 := by
  intro u s su n tx ny re ca p to h
  obtain ⟨tk, fi, a, ha, hS⟩ := h.1
  have hr := rstc_ok h hc
  refine x_aload_n C dL_law_364 2 rfl ?_
  refine x_cV1 (As := []) C (c_X8_reset E _ (xB E) _ u (Nat.le_refl _) (by omega)) v_L_48 (Nat.le_add_right _ _) (Nat.le_refl _) (by omega) (ov_at (i := 0) rfl) rfl rfl rfl rfl rfl dL_law_365 ?_
  refine x_G (ov_comm (n := 56) (k := 5) rfl rfl (Or.inl (Nat.le_refl _))) ?_
  refine x_aload_n C dL_law_368 1 rfl ?_
  refine x_cV1 (As := []) C (c_X9_reset E _ (xB E + 56) _ s su n tx (nI ny) re ca (nI p) to h.2.1.1 (Nat.le_add_right _ _) (by omega)) v_L_52 (Nat.le_add_right _ _) (Nat.le_add_right _ _) (by omega) (ov_at (i := 0) rfl) rfl rfl rfl rfl rfl dL_law_369 ?_
  refine x_G (ov_comm (n := 5) (k := 56) rfl rfl (Or.inr (Nat.le_refl _))) ?_
  exact x_icmp_eq C 689 dL_law_372 rfl (fun _ => kk (qSN (qKeep u) (sRst (qNow u))) _ _ _ _ _ _ _ _ _ hr.2) (fun q => absurd hr.1 q)
set_option maxRecDepth 100000 in
set_option maxHeartbeats 4000000 in
theorem lawc_tapOf {E : XE} {K : XK} (C : XC E K cL_law 4 RL ret 11 414 600000 7302250) {b Ln : Nat} {xs : Nat → Int32} (hJ : LJ E K b Ln xs) {i c : Nat} (hi : i + 4 ≤ Ln) (hc : c ≤ 600) {G0 : GW} (kk : LKK E K b i 1495 G0 (c + 1) 689) : LKK E K b i 1495 G0 c 377 := by
  intro u s su n tx ny re ca p to h
  obtain ⟨tk, fi, a, ha, hS⟩ := h.1
  have hr := tof_ok h (xs (i + 1)) (xs (i + 2))
  refine x_aload_n C dL_law_377 2 rfl ?_
  refine x_arg C hJ 1 rfl (by omega) dL_law_378 dL_law_379 dL_law_380 dL_law_381 dL_law_382 ?_
  refine x_arg C hJ 2 rfl (by omega) dL_law_383 dL_law_384 dL_law_385 dL_law_386 dL_law_387 ?_
  refine x_cV1 (As := [.int (xs (i + 1)), .int (xs (i + 2))]) C (c_X8_tapOf E _ (xB E) _ u (xs (i + 1)) (xs (i + 2)) (Nat.le_refl _) (by omega)) v_L_53 (Nat.le_add_right _ _) (Nat.le_refl _) (by omega) (ov_at (i := 0) rfl) rfl rfl rfl rfl rfl dL_law_388 ?_
  refine x_G (ov_comm (n := 56) (k := 5) rfl rfl (Or.inl (Nat.le_refl _))) ?_
  refine x_aload_n C dL_law_391 1 rfl ?_
  refine x_arg C hJ 1 rfl (by omega) dL_law_392 dL_law_393 dL_law_394 dL_law_395 dL_law_396 ?_
  refine x_arg C hJ 2 rfl (by omega) dL_law_397 dL_law_398 dL_law_399 dL_law_400 dL_law_401 ?_
  refine x_cV1 (As := [.int (xs (i + 1)), .int (xs (i + 2))]) C (c_X9_tapOf E _ (xB E + 56) _ s su n tx (nI ny) re ca (nI p) to (xs (i + 1)) (xs (i + 2)) tk (gok_of hS) (hB_of hS) (Nat.le_add_right _ _) (by omega)) v_L_56 (Nat.le_add_right _ _) (Nat.le_add_right _ _) (by omega) (ov_at (i := 0) rfl) rfl rfl rfl rfl rfl dL_law_402 ?_
  refine x_G (ov_comm (n := 5) (k := 56) rfl rfl (Or.inr (Nat.le_refl _))) ?_
  exact x_icmp_eq C 689 dL_law_405 rfl (fun _ => kk u _ _ _ _ _ _ _ _ _ (rq_mono h (Nat.le_succ c))) (fun q => absurd hr q)
set_option maxRecDepth 100000 in
set_option maxHeartbeats 4000000 in
theorem lawc_wordOf {E : XE} {K : XK} (C : XC E K cL_law 4 RL ret 11 414 600000 7302250) {b Ln : Nat} {xs : Nat → Int32} (hJ : LJ E K b Ln xs) {i c : Nat} (hi : i + 4 ≤ Ln) (hc : c ≤ 600) {G0 : GW} (kk : LKK E K b i 1495 G0 (c + 1) 689) : LKK E K b i 1495 G0 c 410 := by
  intro u s su n tx ny re ca p to h
  obtain ⟨tk, fi, a, ha, hS⟩ := h.1
  have hr := wof_ok h (xs (i + 1))
  refine x_aload_n C dL_law_410 2 rfl ?_
  refine x_arg C hJ 1 rfl (by omega) dL_law_411 dL_law_412 dL_law_413 dL_law_414 dL_law_415 ?_
  refine x_cV1 (As := [.int (xs (i + 1))]) C (c_X8_wordOf E _ (xB E) _ u (xs (i + 1)) (Nat.le_refl _) (by omega)) v_L_57 (Nat.le_add_right _ _) (Nat.le_refl _) (by omega) (ov_at (i := 0) rfl) rfl rfl rfl rfl rfl dL_law_416 ?_
  refine x_G (ov_comm (n := 56) (k := 5) rfl rfl (Or.inl (Nat.le_refl _))) ?_
  refine x_aload_n C dL_law_419 1 rfl ?_
  refine x_arg C hJ 1 rfl (by omega) dL_law_420 dL_law_421 dL_law_422 dL_law_423 dL_law_424 ?_
  refine x_cV1 (As := [.int (xs (i + 1))]) C (c_X9_wordOf E _ (xB E + 56) _ s su n tx (nI ny) re ca (nI p) to (xs (i + 1)) (Nat.le_add_right _ _) (by omega)) v_L_60 (Nat.le_add_right _ _) (Nat.le_add_right _ _) (by omega) (ov_at (i := 0) rfl) rfl rfl rfl rfl rfl dL_law_425 ?_
  refine x_G (ov_comm (n := 5) (k := 56) rfl rfl (Or.inr (Nat.le_refl _))) ?_
  exact x_icmp_eq C 689 dL_law_428 rfl (fun _ => kk u _ _ _ _ _ _ _ _ _ (rq_mono h (Nat.le_succ c))) (fun q => absurd hr q)
set_option maxRecDepth 100000 in
set_option maxHeartbeats 4000000 in
theorem lawc_outputOf {E : XE} {K : XK} (C : XC E K cL_law 4 RL ret 11 414 600000 7302250) {b Ln : Nat} {xs : Nat → Int32} (hJ : LJ E K b Ln xs) {i c : Nat} (hi : i + 4 ≤ Ln) (hc : c ≤ 600) {G0 : GW} (kk : LKK E K b i 1495 G0 (c + 1) 689) : LKK E K b i 1495 G0 c 433 := by
  intro u s su n tx ny re ca p to h
  obtain ⟨tk, fi, a, ha, hS⟩ := h.1
  obtain ⟨no, hno, hno2⟩ := hno_of hS
  have hr := oof_ok h (xs (i + 1))
  refine x_aload_n C dL_law_433 2 rfl ?_
  refine x_arg C hJ 1 rfl (by omega) dL_law_434 dL_law_435 dL_law_436 dL_law_437 dL_law_438 ?_
  refine x_cV1 (As := [.int (xs (i + 1))]) C (c_X8_outputOf E _ (xB E) _ u (xs (i + 1)) (Nat.le_refl _) (by omega)) v_L_61 (Nat.le_add_right _ _) (Nat.le_refl _) (by omega) (ov_at (i := 0) rfl) rfl rfl rfl rfl rfl dL_law_439 ?_
  refine x_G (ov_comm (n := 56) (k := 5) rfl rfl (Or.inl (Nat.le_refl _))) ?_
  refine x_aload_n C dL_law_442 1 rfl ?_
  refine x_arg C hJ 1 rfl (by omega) dL_law_443 dL_law_444 dL_law_445 dL_law_446 dL_law_447 ?_
  refine x_cV1 (As := [.int (xs (i + 1))]) C (c_X9_outputOf E _ (xB E + 56) _ s su n tx (nI ny) re ca (nI p) to (xs (i + 1)) no hno hno2 (Nat.le_add_right _ _) (by omega)) v_L_64 (Nat.le_add_right _ _) (Nat.le_add_right _ _) (by omega) (ov_at (i := 0) rfl) rfl rfl rfl rfl rfl dL_law_448 ?_
  refine x_G (ov_comm (n := 5) (k := 56) rfl rfl (Or.inr (Nat.le_refl _))) ?_
  exact x_icmp_eq C 689 dL_law_451 rfl (fun _ => kk u _ _ _ _ _ _ _ _ _ (rq_mono h (Nat.le_succ c))) (fun q => absurd hr q)
set_option maxRecDepth 100000 in
set_option maxHeartbeats 4000000 in
theorem lawc_meter {E : XE} {K : XK} (C : XC E K cL_law 4 RL ret 11 414 600000 7302250) {b Ln : Nat} {xs : Nat → Int32} (hJ : LJ E K b Ln xs) {i c : Nat} (hi : i + 4 ≤ Ln) (hc : c ≤ 600) {G0 : GW} (kk : LKK E K b i 1495 G0 (c + 1) 689) : LKK E K b i 1495 G0 c 456 := by
  intro u s su n tx ny re ca p to h
  obtain ⟨tk, fi, a, ha, hS⟩ := h.1
  have hr := met_ok h (xs (i + 1))
  refine x_aload_n C dL_law_456 2 rfl ?_
  refine x_arg C hJ 1 rfl (by omega) dL_law_457 dL_law_458 dL_law_459 dL_law_460 dL_law_461 ?_
  refine x_cV1 (As := [.int (xs (i + 1))]) C (c_X8_meter E _ (xB E) _ u (xs (i + 1)) (metM_ok h hc).1 (Nat.le_refl _) (by omega)) v_L_65 (Nat.le_add_right _ _) (Nat.le_refl _) (by omega) (ov_at (i := 0) rfl) rfl rfl rfl rfl rfl dL_law_462 ?_
  refine x_G (ov_comm (n := 56) (k := 5) rfl rfl (Or.inl (Nat.le_refl _))) ?_
  refine x_aload_n C dL_law_465 1 rfl ?_
  refine x_arg C hJ 1 rfl (by omega) dL_law_466 dL_law_467 dL_law_468 dL_law_469 dL_law_470 ?_
  refine x_cV1 (As := [.int (xs (i + 1))]) C (c_X9_meter E _ (xB E + 56) _ s su (nI n) tx (nI ny) re ca (nI p) to (xs (i + 1)) (metM_ok h hc).2 (Nat.le_add_right _ _) (by omega)) v_L_68 (Nat.le_add_right _ _) (Nat.le_add_right _ _) (by omega) (ov_at (i := 0) rfl) rfl rfl rfl rfl rfl dL_law_471 ?_
  refine x_G (ov_comm (n := 5) (k := 56) rfl rfl (Or.inr (Nat.le_refl _))) ?_
  exact x_icmp_eq C 689 dL_law_474 rfl (fun _ => kk u _ _ _ _ _ _ _ _ _ (rq_mono h (Nat.le_succ c))) (fun q => absurd hr q)
set_option maxRecDepth 100000 in
set_option maxHeartbeats 4000000 in
theorem lawc_echo {E : XE} {K : XK} (C : XC E K cL_law 4 RL ret 11 414 600000 7302250) {b Ln : Nat} {xs : Nat → Int32} (hJ : LJ E K b Ln xs) {i c : Nat} (hi : i + 4 ≤ Ln) (hc : c ≤ 600) {G0 : GW} (kk : LKK E K b i 1495 G0 (c + 1) 689) : LKK E K b i 1495 G0 c 479 := by
  intro u s su n tx ny re ca p to h
  obtain ⟨tk, fi, a, ha, hS⟩ := h.1
  have hr := echc_ok h hc (xs (i + 1)) (xs (i + 2))
  refine x_aload_n C dL_law_479 2 rfl ?_
  refine x_arg C hJ 1 rfl (by omega) dL_law_480 dL_law_481 dL_law_482 dL_law_483 dL_law_484 ?_
  refine x_arg C hJ 2 rfl (by omega) dL_law_485 dL_law_486 dL_law_487 dL_law_488 dL_law_489 ?_
  refine x_cV1 (As := [.int (xs (i + 1)), .int (xs (i + 2))]) C (c_X8_echo E _ (xB E) _ u (xs (i + 1)) (xs (i + 2)) (Nat.le_refl _) (by omega)) v_L_69 (Nat.le_add_right _ _) (Nat.le_refl _) (by omega) (ov_at (i := 0) rfl) rfl rfl rfl rfl rfl dL_law_490 ?_
  refine x_G (ov_comm (n := 56) (k := 5) rfl rfl (Or.inl (Nat.le_refl _))) ?_
  refine x_aload_n C dL_law_493 1 rfl ?_
  refine x_arg C hJ 1 rfl (by omega) dL_law_494 dL_law_495 dL_law_496 dL_law_497 dL_law_498 ?_
  refine x_arg C hJ 2 rfl (by omega) dL_law_499 dL_law_500 dL_law_501 dL_law_502 dL_law_503 ?_
  refine x_cV1 (As := [.int (xs (i + 1)), .int (xs (i + 2))]) C (c_X9_echo E _ (xB E + 56) _ s su n tx (nI ny) re ca (nI p) to (xs (i + 1)) (xs (i + 2)) tk (gok_of hS) (Nat.le_add_right _ _) (by omega)) v_L_72 (Nat.le_add_right _ _) (Nat.le_add_right _ _) (by omega) (ov_at (i := 0) rfl) rfl rfl rfl rfl rfl dL_law_504 ?_
  refine x_G (ov_comm (n := 5) (k := 56) rfl rfl (Or.inr (Nat.le_refl _))) ?_
  exact x_icmp_eq C 689 dL_law_507 rfl (fun _ => kk (qEch u (xs (i + 1)) (xs (i + 2))) _ _ _ _ _ _ _ _ _ hr.2) (fun q => absurd hr.1 q)
set_option maxRecDepth 100000 in
set_option maxHeartbeats 4000000 in
theorem lawc_quietAfter {E : XE} {K : XK} (C : XC E K cL_law 4 RL ret 11 414 600000 7302250) {b Ln : Nat} {xs : Nat → Int32} (hJ : LJ E K b Ln xs) {i c : Nat} (hi : i + 4 ≤ Ln) (hc : c ≤ 600) {G0 : GW} (kk : LKK E K b i 1495 G0 (c + 1) 689) : LKK E K b i 1495 G0 c 512 := by
  intro u s su n tx ny re ca p to h
  obtain ⟨tk, fi, a, ha, hS⟩ := h.1
  have hr := quac_ok h hS (xs (i + 1))
  refine x_aload_n C dL_law_512 2 rfl ?_
  refine x_arg C hJ 1 rfl (by omega) dL_law_513 dL_law_514 dL_law_515 dL_law_516 dL_law_517 ?_
  refine x_cV1 (As := [.int (xs (i + 1))]) C (c_X8_quietAfter E _ (xB E) _ u (xs (i + 1)) (64 - tk) hS.1.2.2.1 (by omega) (Nat.le_refl _) (by omega)) v_L_73 (Nat.le_add_right _ _) (Nat.le_refl _) (by omega) (ov_at (i := 0) rfl) rfl rfl rfl rfl rfl dL_law_518 ?_
  refine x_G (ov_comm (n := 56) (k := 5) rfl rfl (Or.inl (Nat.le_refl _))) ?_
  refine x_aload_n C dL_law_521 1 rfl ?_
  refine x_arg C hJ 1 rfl (by omega) dL_law_522 dL_law_523 dL_law_524 dL_law_525 dL_law_526 ?_
  refine x_cV1 (As := [.int (xs (i + 1))]) C (c_X9_quietAfter E _ (xB E + 56) _ s su n tx (nI ny) re ca (nI p) to (xs (i + 1)) tk (gok_of hS) (Nat.le_add_right _ _) (by omega)) v_L_76 (Nat.le_add_right _ _) (Nat.le_add_right _ _) (by omega) (ov_at (i := 0) rfl) rfl rfl rfl rfl rfl dL_law_527 ?_
  refine x_G (ov_comm (n := 5) (k := 56) rfl rfl (Or.inr (Nat.le_refl _))) ?_
  exact x_icmp_eq C 689 dL_law_530 rfl (fun _ => kk (qQua u (64 - tk) (xs (i + 1))) _ _ _ _ _ _ _ _ _ hr.2) (fun q => absurd hr.1 q)
set_option maxRecDepth 100000 in
set_option maxHeartbeats 4000000 in
theorem lawc_loudest {E : XE} {K : XK} (C : XC E K cL_law 4 RL ret 11 414 600000 7302250) {b Ln : Nat} {xs : Nat → Int32} (hJ : LJ E K b Ln xs) {i c : Nat} (hi : i + 4 ≤ Ln) (hc : c ≤ 600) {G0 : GW} (kk : LKK E K b i 1495 G0 (c + 1) 689) : LKK E K b i 1495 G0 c 535 := by
  intro u s su n tx ny re ca p to h
  obtain ⟨tk, fi, a, ha, hS⟩ := h.1
  have hr := ldc_ok h
  refine x_aload_n C dL_law_535 2 rfl ?_
  refine x_cV1 (As := []) C (c_X8_loudest E _ (xB E) _ u (Nat.le_refl _) (by omega)) v_L_77 (Nat.le_add_right _ _) (Nat.le_refl _) (by omega) (ov_at (i := 0) rfl) rfl rfl rfl rfl rfl dL_law_536 ?_
  refine x_G (ov_comm (n := 56) (k := 5) rfl rfl (Or.inl (Nat.le_refl _))) ?_
  refine x_aload_n C dL_law_539 1 rfl ?_
  refine x_cV1 (As := []) C (c_X9_loudest E _ (xB E + 56) _ s su n tx (nI ny) re ca (nI p) to (Nat.le_add_right _ _) (by omega)) v_L_80 (Nat.le_add_right _ _) (Nat.le_add_right _ _) (by omega) (ov_at (i := 0) rfl) rfl rfl rfl rfl rfl dL_law_540 ?_
  refine x_G (ov_comm (n := 5) (k := 56) rfl rfl (Or.inr (Nat.le_refl _))) ?_
  exact x_icmp_eq C 689 dL_law_543 rfl (fun _ => kk u _ _ _ _ _ _ _ _ _ (rq_mono h (Nat.le_succ c))) (fun q => absurd hr q)
set_option maxRecDepth 100000 in
set_option maxHeartbeats 4000000 in
theorem lawc_safeGain {E : XE} {K : XK} (C : XC E K cL_law 4 RL ret 11 414 600000 7302250) {b Ln : Nat} {xs : Nat → Int32} (hJ : LJ E K b Ln xs) {i c : Nat} (hi : i + 4 ≤ Ln) (hc : c ≤ 600) {G0 : GW} (kk : LKK E K b i 1495 G0 (c + 1) 689) : LKK E K b i 1495 G0 c 548 := by
  intro u s su n tx ny re ca p to h
  obtain ⟨tk, fi, a, ha, hS⟩ := h.1
  have hr := safc_ok h hS (xs (i + 1)) (xs (i + 2))
  refine x_aload_n C dL_law_548 2 rfl ?_
  refine x_arg C hJ 1 rfl (by omega) dL_law_549 dL_law_550 dL_law_551 dL_law_552 dL_law_553 ?_
  refine x_arg C hJ 2 rfl (by omega) dL_law_554 dL_law_555 dL_law_556 dL_law_557 dL_law_558 ?_
  refine x_cV1 (As := [.int (xs (i + 1)), .int (xs (i + 2))]) C (c_X8_safeGain E _ (xB E) _ u (xs (i + 1)) (xs (i + 2)) (64 - tk) hS.1.2.2.1 (by omega) (Nat.le_refl _) (by omega)) v_L_81 (Nat.le_add_right _ _) (Nat.le_refl _) (by omega) (ov_at (i := 0) rfl) rfl rfl rfl rfl rfl dL_law_559 ?_
  refine x_G (ov_comm (n := 56) (k := 5) rfl rfl (Or.inl (Nat.le_refl _))) ?_
  refine x_aload_n C dL_law_562 1 rfl ?_
  refine x_arg C hJ 1 rfl (by omega) dL_law_563 dL_law_564 dL_law_565 dL_law_566 dL_law_567 ?_
  refine x_arg C hJ 2 rfl (by omega) dL_law_568 dL_law_569 dL_law_570 dL_law_571 dL_law_572 ?_
  refine x_cV1 (As := [.int (xs (i + 1)), .int (xs (i + 2))]) C (c_X9_safeGain E _ (xB E + 56) _ s su n tx (nI ny) re ca (nI p) to (xs (i + 1)) (xs (i + 2)) tk (gok_of hS) (Nat.le_add_right _ _) (by omega)) v_L_84 (Nat.le_add_right _ _) (Nat.le_add_right _ _) (by omega) (ov_at (i := 0) rfl) rfl rfl rfl rfl rfl dL_law_573 ?_
  refine x_G (ov_comm (n := 5) (k := 56) rfl rfl (Or.inr (Nat.le_refl _))) ?_
  exact x_icmp_eq C 689 dL_law_576 rfl (fun _ => kk (qSaf u (64 - tk) (xs (i + 1)) (xs (i + 2))) _ _ _ _ _ _ _ _ _ hr.2) (fun q => absurd hr.1 q)
set_option maxRecDepth 100000 in
set_option maxHeartbeats 4000000 in
theorem lawc_count {E : XE} {K : XK} (C : XC E K cL_law 4 RL ret 11 414 600000 7302250) {b Ln : Nat} {xs : Nat → Int32} (hJ : LJ E K b Ln xs) {i c : Nat} (hi : i + 4 ≤ Ln) (hc : c ≤ 600) {G0 : GW} (kk : LKK E K b i 1495 G0 (c + 1) 689) : LKK E K b i 1495 G0 c 581 := by
  intro u s su n tx ny re ca p to h
  obtain ⟨tk, fi, a, ha, hS⟩ := h.1
  have hr := cntc_ok h hS (xs (i + 1))
  refine x_aload_n C dL_law_581 2 rfl ?_
  refine x_arg C hJ 1 rfl (by omega) dL_law_582 dL_law_583 dL_law_584 dL_law_585 dL_law_586 ?_
  refine x_cV1 (As := [.int (xs (i + 1))]) C (c_X8_count E _ (xB E) _ u (xs (i + 1)) (64 - tk) hS.1.2.2.1 (by omega) (Nat.le_refl _) (by omega)) v_L_85 (Nat.le_add_right _ _) (Nat.le_refl _) (by omega) (ov_at (i := 0) rfl) rfl rfl rfl rfl rfl dL_law_587 ?_
  refine x_G (ov_comm (n := 56) (k := 5) rfl rfl (Or.inl (Nat.le_refl _))) ?_
  refine x_aload_n C dL_law_590 1 rfl ?_
  refine x_arg C hJ 1 rfl (by omega) dL_law_591 dL_law_592 dL_law_593 dL_law_594 dL_law_595 ?_
  refine x_cV1 (As := [.int (xs (i + 1))]) C (c_X9_count E _ (xB E + 56) _ s su n tx (nI ny) re ca (nI p) to (xs (i + 1)) tk (gok_of hS) (Nat.le_add_right _ _) (by omega)) v_L_88 (Nat.le_add_right _ _) (Nat.le_add_right _ _) (by omega) (ov_at (i := 0) rfl) rfl rfl rfl rfl rfl dL_law_596 ?_
  refine x_G (ov_comm (n := 5) (k := 56) rfl rfl (Or.inr (Nat.le_refl _))) ?_
  exact x_icmp_eq C 689 dL_law_599 rfl (fun _ => kk u _ _ _ _ _ _ _ _ _ (rq_mono h (Nat.le_succ c))) (fun q => absurd hr q)
set_option maxRecDepth 100000 in
set_option maxHeartbeats 4000000 in
theorem lawc_undo {E : XE} {K : XK} (C : XC E K cL_law 4 RL ret 11 414 600000 7302250) {b Ln : Nat} {xs : Nat → Int32} (hJ : LJ E K b Ln xs) {i c : Nat} (hi : i + 4 ≤ Ln) (hc : c ≤ 600) {G0 : GW} (kk : LKK E K b i 1495 G0 (c + 1) 689) : LKK E K b i 1495 G0 c 604 := by
  intro u s su n tx ny re ca p to h
  obtain ⟨tk, fi, a, ha, hS⟩ := h.1
  have hr := und_ok h
  refine x_aload_n C dL_law_604 2 rfl ?_
  refine x_cV1 (As := []) C (c_X8_undo E _ (xB E) _ u (nI_nn (by have := h.2.1.1; omega) h.2.1.2.1) (Nat.le_refl _) (by omega)) v_L_89 (Nat.le_add_right _ _) (Nat.le_refl _) (by omega) (ov_at (i := 0) rfl) rfl rfl rfl rfl rfl dL_law_605 ?_
  refine x_G (ov_comm (n := 56) (k := 5) rfl rfl (Or.inl (Nat.le_refl _))) ?_
  refine x_aload_n C dL_law_608 1 rfl ?_
  refine x_cV1 (As := []) C (c_X9_undo E _ (xB E + 56) _ s su n tx (nI ny) re ca (nI p) to h.2.1.1 (Nat.le_add_right _ _) (by omega)) v_L_92 (Nat.le_add_right _ _) (Nat.le_add_right _ _) (by omega) (ov_at (i := 0) rfl) rfl rfl rfl rfl rfl dL_law_609 ?_
  refine x_G (ov_comm (n := 5) (k := 56) rfl rfl (Or.inr (Nat.le_refl _))) ?_
  exact x_icmp_eq C 689 dL_law_612 rfl (fun _ => kk (qUnd u) _ _ _ _ _ _ _ _ _ hr.2) (fun q => absurd hr.1 q)
set_option maxRecDepth 100000 in
set_option maxHeartbeats 4000000 in
theorem lawc_type {E : XE} {K : XK} (C : XC E K cL_law 4 RL ret 11 414 600000 7302250) {b Ln : Nat} {xs : Nat → Int32} (hJ : LJ E K b Ln xs) {i c : Nat} (hi : i + 4 ≤ Ln) (hc : c ≤ 600) {G0 : GW} (kk : LKK E K b i 1495 G0 (c + 1) 689) : LKK E K b i 1495 G0 c 617 := by
  intro u s su n tx ny re ca p to h
  obtain ⟨tk, fi, a, ha, hS⟩ := h.1
  have hr := typc_ok h (xs (i + 1))
  refine x_aload_n C dL_law_617 2 rfl ?_
  refine x_arg C hJ 1 rfl (by omega) dL_law_618 dL_law_619 dL_law_620 dL_law_621 dL_law_622 ?_
  refine x_cV1 (As := [.int (xs (i + 1))]) C (c_X8_type E _ (xB E) _ u (xs (i + 1)) (nI_nn (by have := h.2.2.1; omega) h.2.2.2.1) (Nat.le_refl _) (by omega)) v_L_93 (Nat.le_add_right _ _) (Nat.le_refl _) (by omega) (ov_at (i := 0) rfl) rfl rfl rfl rfl rfl dL_law_623 ?_
  refine x_G (ov_comm (n := 56) (k := 5) rfl rfl (Or.inl (Nat.le_refl _))) ?_
  refine x_aload_n C dL_law_626 1 rfl ?_
  refine x_arg C hJ 1 rfl (by omega) dL_law_627 dL_law_628 dL_law_629 dL_law_630 dL_law_631 ?_
  refine x_cV1 (As := [.int (xs (i + 1))]) C (c_X9_type E _ (xB E + 56) _ s su n tx ny re ca (nI p) to (xs (i + 1)) h.2.2.1 (Nat.le_add_right _ _) (by omega)) v_L_96 (Nat.le_add_right _ _) (Nat.le_add_right _ _) (by omega) (ov_at (i := 0) rfl) rfl rfl rfl rfl rfl dL_law_632 ?_
  refine x_G (ov_comm (n := 5) (k := 56) rfl rfl (Or.inr (Nat.le_refl _))) ?_
  exact x_icmp_eq C 689 dL_law_635 rfl (fun _ => kk (qTyp u (xs (i + 1))) _ _ _ _ _ _ _ _ _ hr.2) (fun q => absurd hr.1 q)
set_option maxRecDepth 100000 in
set_option maxHeartbeats 4000000 in
theorem lawc_clearText {E : XE} {K : XK} (C : XC E K cL_law 4 RL ret 11 414 600000 7302250) {b Ln : Nat} {xs : Nat → Int32} (hJ : LJ E K b Ln xs) {i c : Nat} (hi : i + 4 ≤ Ln) (hc : c ≤ 600) {G0 : GW} (kk : LKK E K b i 1495 G0 (c + 1) 689) : LKK E K b i 1495 G0 c 640 := by
  intro u s su n tx ny re ca p to h
  obtain ⟨tk, fi, a, ha, hS⟩ := h.1
  have hr := clr_ok h
  refine x_aload_n C dL_law_640 2 rfl ?_
  refine x_cV1 (As := []) C (c_X8_clearText E _ (xB E) _ u (Nat.le_refl _) (by omega)) v_L_97 (Nat.le_add_right _ _) (Nat.le_refl _) (by omega) (ov_at (i := 0) rfl) rfl rfl rfl rfl rfl dL_law_641 ?_
  refine x_G (ov_comm (n := 56) (k := 5) rfl rfl (Or.inl (Nat.le_refl _))) ?_
  refine x_aload_n C dL_law_644 1 rfl ?_
  refine x_cV1 (As := []) C (c_X9_clearText E _ (xB E + 56) _ s su n tx (nI ny) re ca (nI p) to (Nat.le_add_right _ _) (by omega)) v_L_100 (Nat.le_add_right _ _) (Nat.le_add_right _ _) (by omega) (ov_at (i := 0) rfl) rfl rfl rfl rfl rfl dL_law_645 ?_
  refine x_G (ov_comm (n := 5) (k := 56) rfl rfl (Or.inr (Nat.le_refl _))) ?_
  exact x_icmp_eq C 689 dL_law_648 rfl (fun _ => kk (qTxt u (qCh u) 0) _ _ _ _ 0 _ _ _ _ hr.2) (fun q => absurd hr.1 q)
set_option maxRecDepth 100000 in
set_option maxHeartbeats 4000000 in
theorem lawc_fault {E : XE} {K : XK} (C : XC E K cL_law 4 RL ret 11 414 600000 7302250) {b Ln : Nat} {xs : Nat → Int32} (hJ : LJ E K b Ln xs) {i c : Nat} (hi : i + 4 ≤ Ln) (hc : c ≤ 600) {G0 : GW} (kk : LKK E K b i 1495 G0 (c + 1) 689) : LKK E K b i 1495 G0 c 653 := by
  intro u s su n tx ny re ca p to h
  obtain ⟨tk, fi, a, ha, hS⟩ := h.1
  have hr := fauc_ok h hc ha hS p to re ca (xs (i + 1))
  refine x_aload_n C dL_law_653 2 rfl ?_
  refine x_arg C hJ 1 rfl (by omega) dL_law_654 dL_law_655 dL_law_656 dL_law_657 dL_law_658 ?_
  refine x_cV1 (As := [.int (xs (i + 1))]) C (c_X8_fault E _ (xB E) _ u (xs (i + 1)) (Nat.le_refl _) (by omega)) v_L_101 (Nat.le_add_right _ _) (Nat.le_refl _) (by omega) (ov_at (i := 0) rfl) rfl rfl rfl rfl rfl dL_law_659 ?_
  refine x_G (ov_comm (n := 56) (k := 5) rfl rfl (Or.inl (Nat.le_refl _))) ?_
  refine x_aload_n C dL_law_662 1 rfl ?_
  refine x_arg C hJ 1 rfl (by omega) dL_law_663 dL_law_664 dL_law_665 dL_law_666 dL_law_667 ?_
  refine x_cV1 (As := [.int (xs (i + 1))]) C (c_X9_fault E _ (xB E + 56) _ s su (nI n) tx ny re ca p to (xs (i + 1)) tk h.2.2.1 (gok_of hS) (Nat.le_add_right _ _) (by omega)) v_L_104 (Nat.le_add_right _ _) (Nat.le_add_right _ _) (by omega) (ov_at (i := 0) rfl) rfl rfl rfl rfl rfl dL_law_668 ?_
  refine x_G (ov_comm (n := 5) (k := 56) rfl rfl (Or.inr (Nat.le_refl _))) ?_
  exact x_icmp_eq C 689 dL_law_671 rfl (fun _ => kk (qFa u (xs (i + 1))) _ _ _ _ _ _ _ _ _ hr.2) (fun q => absurd hr.1 q)
set_option maxRecDepth 100000 in
set_option maxHeartbeats 4000000 in
theorem lawc_play {E : XE} {K : XK} (C : XC E K cL_law 4 RL ret 11 414 600000 7302250) {b Ln : Nat} {xs : Nat → Int32} (hJ : LJ E K b Ln xs) {i c : Nat} (hi : i + 4 ≤ Ln) (hc : c ≤ 600) {G0 : GW} (kk : LKK E K b i 1495 G0 (c + 1) 689) : LKK E K b i 1495 G0 c 676 := by
  intro u s su n tx ny re ca p to h
  obtain ⟨tk, fi, a, ha, hS⟩ := h.1
  have hr := plac_ok h hc ha hS to re ca
  refine x_aload_n C dL_law_676 2 rfl ?_
  refine x_cV1 (As := []) C (c_X8_play E _ (xB E) _ u hr.2.2 (Nat.le_refl _) (by omega)) v_L_105 (Nat.le_add_right _ _) (Nat.le_refl _) (by omega) (ov_at (i := 0) rfl) rfl rfl rfl rfl rfl dL_law_677 ?_
  refine x_G (ov_comm (n := 56) (k := 5) rfl rfl (Or.inl (Nat.le_refl _))) ?_
  refine x_aload_n C dL_law_680 1 rfl ?_
  refine x_cV1 (As := []) C (c_X9_play E _ (xB E + 56) _ s su n tx ny re ca p to tk h.2.2.1 h.2.1.1 (gok_of hS) (Nat.le_add_right _ _) (by omega)) v_L_108 (Nat.le_add_right _ _) (Nat.le_add_right _ _) (by omega) (ov_at (i := 0) rfl) rfl rfl rfl rfl rfl dL_law_681 ?_
  refine x_G (ov_comm (n := 5) (k := 56) rfl rfl (Or.inr (Nat.le_refl _))) ?_
  exact x_icmp_eq C 689 dL_law_684 rfl (fun _ => kk (qPla u) _ _ _ _ _ _ _ _ _ hr.2.1) (fun q => absurd hr.1 q)
