/-! ===== the law: the thirty-three calls ===== -/
section LAWC
variable {p : Program} {l : Launch} {e : Env} {s : State} {m : MethodId} {below : List Frame} {meth : Method} {c : Code} {Q : State → Prop} {P : mP} {D : va_G} {b L : Nat} {xs : Nat → Int32}
theorem lc_write (X : LX P D p s m c b L xs) {i : Nat} {σ : List mC} {I : mI} {S : Sx} {B : Int} (hI : LI σ I S) (hS : SxOk B S) (hB : 0 ≤ B ∧ B ≤ 1000000) (hi : i + 5 ≤ L) (hL : L ≤ 2560) (kk : ∀ (σ : List mC) (K : mI) (Z : Sx), LI σ K Z → SxOk (B + 24) Z → LW p l e s m below meth c Q P D b (lvI P b i) 1109 [] (σ, K)) : LW p l e s m below meth c Q P D b (lvI P b i) 180 [] (σ, I) := by
  have hZ : SxOk (B + 24) (z_write S (xs (i + 1)).toInt) := (ok_write hS).mono (by omega)
  obtain ⟨σ2, K, K2, c8, c9, hM, hI2⟩ := l_pair (A := a_write S (xs (i + 1)).toInt) hI hS hZ (f_write hI.2.1 hS ⟨Int32.le_toInt (xs (i + 1)), Int32.toInt_lt (xs (i + 1))⟩) (fun σ2 K hM => g_write hM hS ⟨Int32.le_toInt (xs (i + 1)), Int32.toInt_lt (xs (i + 1))⟩)
  refine l_aload X (a := 0) (q := 1) dL_law_180 rfl rfl ?_
  refine l_sub X (i := i) (k := 1) dL_law_181 dL_law_182 dL_law_183 dL_law_184 dL_law_185 rfl rfl (by omega) hL ?_
  refine l_callV X (r := 0) (ci := 8) (q := (RX8, TX8, 14)) [mi (xs (i + 1)).toInt] [] dL_law_186 co_L_13 ⟨Nat.le_of_ble_eq_true rfl, Nat.le_of_ble_eq_true rfl⟩ gw_440 gw_441 rfl hI.2.1.2.1.1 rfl rfl rfl (Nat.le_of_ble_eq_true rfl) c8 (ls_ok hI2.1) ?_
  refine l_aload X (a := 144) (q := 2) dL_law_189 rfl rfl ?_
  refine l_sub X (i := i) (k := 1) dL_law_190 dL_law_191 dL_law_192 dL_law_193 dL_law_194 rfl rfl (by omega) hL ?_
  refine l_callV X (r := 144) (ci := 9) (q := (RX9, TX9, 30)) [mi (xs (i + 1)).toInt] [mi (a_write S (xs (i + 1)).toInt)] dL_law_195 co_L_17 ⟨Nat.le_of_ble_eq_true rfl, Nat.le_of_ble_eq_true rfl⟩ gw_849 gw_850 rfl hM.1 rfl rfl rfl (Nat.le_of_ble_eq_true rfl) c9 (ls_ok hI2.1) ?_
  refine l_same X (tgt := 1109) dL_law_198 (by decide) ?_
  exact kk σ2 K2 (z_write S (xs (i + 1)).toInt) hI2 hZ
theorem lc_wipe (X : LX P D p s m c b L xs) {i : Nat} {σ : List mC} {I : mI} {S : Sx} {B : Int} (hI : LI σ I S) (hS : SxOk B S) (hB : 0 ≤ B ∧ B ≤ 1000000) (hi : i + 5 ≤ L) (hL : L ≤ 2560) (kk : ∀ (σ : List mC) (K : mI) (Z : Sx), LI σ K Z → SxOk (B + 24) Z → LW p l e s m below meth c Q P D b (lvI P b i) 1109 [] (σ, K)) : LW p l e s m below meth c Q P D b (lvI P b i) 203 [] (σ, I) := by
  have hZ : SxOk (B + 24) (z_wipe S) := (ok_wipe hS).mono (by omega)
  obtain ⟨σ2, K, K2, c8, c9, hM, hI2⟩ := l_pair (A := sLn S) hI hS hZ (f_wipe hI.2.1 hS) (fun σ2 K hM => g_wipe hM hS)
  refine l_aload X (a := 0) (q := 1) dL_law_203 rfl rfl ?_
  refine l_callV X (r := 0) (ci := 8) (q := (RX8, TX8, 14)) [] [] dL_law_204 co_L_18 ⟨Nat.le_of_ble_eq_true rfl, Nat.le_of_ble_eq_true rfl⟩ gw_445 gw_446 rfl hI.2.1.2.1.1 rfl rfl rfl (Nat.le_of_ble_eq_true rfl) c8 (ls_ok hI2.1) ?_
  refine l_aload X (a := 144) (q := 2) dL_law_207 rfl rfl ?_
  refine l_callV X (r := 144) (ci := 9) (q := (RX9, TX9, 30)) [] [mi (sLn S)] dL_law_208 co_L_22 ⟨Nat.le_of_ble_eq_true rfl, Nat.le_of_ble_eq_true rfl⟩ gw_858 gw_859 rfl hM.1 rfl rfl rfl (Nat.le_of_ble_eq_true rfl) c9 (ls_ok hI2.1) ?_
  refine l_same X (tgt := 1109) dL_law_211 (by decide) ?_
  exact kk σ2 K2 (z_wipe S) hI2 hZ
theorem lc_fault (X : LX P D p s m c b L xs) {i : Nat} {σ : List mC} {I : mI} {S : Sx} {B : Int} (hI : LI σ I S) (hS : SxOk B S) (hB : 0 ≤ B ∧ B ≤ 1000000) (hi : i + 5 ≤ L) (hL : L ≤ 2560) (kk : ∀ (σ : List mC) (K : mI) (Z : Sx), LI σ K Z → SxOk (B + 24) Z → LW p l e s m below meth c Q P D b (lvI P b i) 1109 [] (σ, K)) : LW p l e s m below meth c Q P D b (lvI P b i) 216 [] (σ, I) := by
  have hZ : SxOk (B + 24) (S) := hS.mono (by omega)
  obtain ⟨σ2, K, K2, c8, c9, hM, hI2⟩ := l_pair (A := a_fault S) hI hS hZ (f_fault hI.2.1 hS) (fun σ2 K hM => g_fault hM hS)
  refine l_aload X (a := 0) (q := 1) dL_law_216 rfl rfl ?_
  refine l_callV X (r := 0) (ci := 8) (q := (RX8, TX8, 14)) [] [] dL_law_217 co_L_23 ⟨Nat.le_of_ble_eq_true rfl, Nat.le_of_ble_eq_true rfl⟩ gw_449 gw_450 rfl hI.2.1.2.1.1 rfl rfl rfl (Nat.le_of_ble_eq_true rfl) c8 (ls_ok hI2.1) ?_
  refine l_aload X (a := 144) (q := 2) dL_law_220 rfl rfl ?_
  refine l_callV X (r := 144) (ci := 9) (q := (RX9, TX9, 30)) [] [mi (a_fault S)] dL_law_221 co_L_26 ⟨Nat.le_of_ble_eq_true rfl, Nat.le_of_ble_eq_true rfl⟩ gw_862 gw_863 rfl hM.1 rfl rfl rfl (Nat.le_of_ble_eq_true rfl) c9 (ls_ok hI2.1) ?_
  refine l_same X (tgt := 1109) dL_law_224 (by decide) ?_
  exact kk σ2 K2 (S) hI2 hZ
theorem lc_lay (X : LX P D p s m c b L xs) {i : Nat} {σ : List mC} {I : mI} {S : Sx} {B : Int} (hI : LI σ I S) (hS : SxOk B S) (hB : 0 ≤ B ∧ B ≤ 1000000) (hi : i + 5 ≤ L) (hL : L ≤ 2560) (kk : ∀ (σ : List mC) (K : mI) (Z : Sx), LI σ K Z → SxOk (B + 24) Z → LW p l e s m below meth c Q P D b (lvI P b i) 1109 [] (σ, K)) : LW p l e s m below meth c Q P D b (lvI P b i) 229 [] (σ, I) := by
  have hZ : SxOk (B + 24) (z_lay S) := (ok_lay hS hB.1).mono (by omega)
  obtain ⟨σ2, K, K2, c8, c9, hM, hI2⟩ := l_pair (A := a_lay S) hI hS hZ (f_lay hI.2.1 hS) (fun σ2 K hM => g_lay hM hS)
  refine l_aload X (a := 0) (q := 1) dL_law_229 rfl rfl ?_
  refine l_callV X (r := 0) (ci := 8) (q := (RX8, TX8, 14)) [] [] dL_law_230 co_L_27 ⟨Nat.le_of_ble_eq_true rfl, Nat.le_of_ble_eq_true rfl⟩ gw_453 gw_454 rfl hI.2.1.2.1.1 rfl rfl rfl (Nat.le_of_ble_eq_true rfl) c8 (ls_ok hI2.1) ?_
  refine l_aload X (a := 144) (q := 2) dL_law_233 rfl rfl ?_
  refine l_callV X (r := 144) (ci := 9) (q := (RX9, TX9, 30)) [] [mi (a_lay S)] dL_law_234 co_L_30 ⟨Nat.le_of_ble_eq_true rfl, Nat.le_of_ble_eq_true rfl⟩ gw_913 gw_914 rfl hM.1 rfl rfl rfl (Nat.le_of_ble_eq_true rfl) c9 (ls_ok hI2.1) ?_
  refine l_same X (tgt := 1109) dL_law_237 (by decide) ?_
  exact kk σ2 K2 (z_lay S) hI2 hZ
theorem lc_place (X : LX P D p s m c b L xs) {i : Nat} {σ : List mC} {I : mI} {S : Sx} {B : Int} (hI : LI σ I S) (hS : SxOk B S) (hB : 0 ≤ B ∧ B ≤ 1000000) (hi : i + 5 ≤ L) (hL : L ≤ 2560) (kk : ∀ (σ : List mC) (K : mI) (Z : Sx), LI σ K Z → SxOk (B + 24) Z → LW p l e s m below meth c Q P D b (lvI P b i) 1109 [] (σ, K)) : LW p l e s m below meth c Q P D b (lvI P b i) 242 [] (σ, I) := by
  have hZ : SxOk (B + 24) (S) := hS.mono (by omega)
  obtain ⟨σ2, K, K2, c8, c9, hM, hI2⟩ := l_pair (A := a_place S (xs (i + 1)).toInt) hI hS hZ (f_place hI.2.1 hS ⟨Int32.le_toInt (xs (i + 1)), Int32.toInt_lt (xs (i + 1))⟩) (fun σ2 K hM => g_place hM hS ⟨Int32.le_toInt (xs (i + 1)), Int32.toInt_lt (xs (i + 1))⟩)
  refine l_aload X (a := 0) (q := 1) dL_law_242 rfl rfl ?_
  refine l_sub X (i := i) (k := 1) dL_law_243 dL_law_244 dL_law_245 dL_law_246 dL_law_247 rfl rfl (by omega) hL ?_
  refine l_callV X (r := 0) (ci := 8) (q := (RX8, TX8, 14)) [mi (xs (i + 1)).toInt] [] dL_law_248 co_L_31 ⟨Nat.le_of_ble_eq_true rfl, Nat.le_of_ble_eq_true rfl⟩ gw_457 gw_458 rfl hI.2.1.2.1.1 rfl rfl rfl (Nat.le_of_ble_eq_true rfl) c8 (ls_ok hI2.1) ?_
  refine l_aload X (a := 144) (q := 2) dL_law_251 rfl rfl ?_
  refine l_sub X (i := i) (k := 1) dL_law_252 dL_law_253 dL_law_254 dL_law_255 dL_law_256 rfl rfl (by omega) hL ?_
  refine l_callV X (r := 144) (ci := 9) (q := (RX9, TX9, 30)) [mi (xs (i + 1)).toInt] [mi (a_place S (xs (i + 1)).toInt)] dL_law_257 co_L_34 ⟨Nat.le_of_ble_eq_true rfl, Nat.le_of_ble_eq_true rfl⟩ gw_917 gw_918 rfl hM.1 rfl rfl rfl (Nat.le_of_ble_eq_true rfl) c9 (ls_ok hI2.1) ?_
  refine l_same X (tgt := 1109) dL_law_260 (by decide) ?_
  exact kk σ2 K2 (S) hI2 hZ
theorem lc_drum (X : LX P D p s m c b L xs) {i : Nat} {σ : List mC} {I : mI} {S : Sx} {B : Int} (hI : LI σ I S) (hS : SxOk B S) (hB : 0 ≤ B ∧ B ≤ 1000000) (hi : i + 5 ≤ L) (hL : L ≤ 2560) (kk : ∀ (σ : List mC) (K : mI) (Z : Sx), LI σ K Z → SxOk (B + 24) Z → LW p l e s m below meth c Q P D b (lvI P b i) 1109 [] (σ, K)) : LW p l e s m below meth c Q P D b (lvI P b i) 265 [] (σ, I) := by
  have hZ : SxOk (B + 24) (S) := hS.mono (by omega)
  obtain ⟨σ2, K, K2, c8, c9, hM, hI2⟩ := l_pair (A := a_drum S (xs (i + 1)).toInt (xs (i + 2)).toInt (xs (i + 3)).toInt) hI hS hZ (f_drum hI.2.1 hS ⟨Int32.le_toInt (xs (i + 1)), Int32.toInt_lt (xs (i + 1))⟩ ⟨Int32.le_toInt (xs (i + 2)), Int32.toInt_lt (xs (i + 2))⟩ ⟨Int32.le_toInt (xs (i + 3)), Int32.toInt_lt (xs (i + 3))⟩) (fun σ2 K hM => g_drum hM hS ⟨Int32.le_toInt (xs (i + 1)), Int32.toInt_lt (xs (i + 1))⟩ ⟨Int32.le_toInt (xs (i + 2)), Int32.toInt_lt (xs (i + 2))⟩ ⟨Int32.le_toInt (xs (i + 3)), Int32.toInt_lt (xs (i + 3))⟩)
  refine l_aload X (a := 0) (q := 1) dL_law_265 rfl rfl ?_
  refine l_sub X (i := i) (k := 1) dL_law_266 dL_law_267 dL_law_268 dL_law_269 dL_law_270 rfl rfl (by omega) hL ?_
  refine l_sub X (i := i) (k := 2) dL_law_271 dL_law_272 dL_law_273 dL_law_274 dL_law_275 rfl rfl (by omega) hL ?_
  refine l_sub X (i := i) (k := 3) dL_law_276 dL_law_277 dL_law_278 dL_law_279 dL_law_280 rfl rfl (by omega) hL ?_
  refine l_callV X (r := 0) (ci := 8) (q := (RX8, TX8, 14)) [mi (xs (i + 1)).toInt, mi (xs (i + 2)).toInt, mi (xs (i + 3)).toInt] [] dL_law_281 co_L_35 ⟨Nat.le_of_ble_eq_true rfl, Nat.le_of_ble_eq_true rfl⟩ gw_463 gw_464 rfl hI.2.1.2.1.1 rfl rfl rfl (Nat.le_of_ble_eq_true rfl) c8 (ls_ok hI2.1) ?_
  refine l_aload X (a := 144) (q := 2) dL_law_284 rfl rfl ?_
  refine l_sub X (i := i) (k := 1) dL_law_285 dL_law_286 dL_law_287 dL_law_288 dL_law_289 rfl rfl (by omega) hL ?_
  refine l_sub X (i := i) (k := 2) dL_law_290 dL_law_291 dL_law_292 dL_law_293 dL_law_294 rfl rfl (by omega) hL ?_
  refine l_sub X (i := i) (k := 3) dL_law_295 dL_law_296 dL_law_297 dL_law_298 dL_law_299 rfl rfl (by omega) hL ?_
  refine l_callV X (r := 144) (ci := 9) (q := (RX9, TX9, 30)) [mi (xs (i + 1)).toInt, mi (xs (i + 2)).toInt, mi (xs (i + 3)).toInt] [mi (a_drum S (xs (i + 1)).toInt (xs (i + 2)).toInt (xs (i + 3)).toInt)] dL_law_300 co_L_39 ⟨Nat.le_of_ble_eq_true rfl, Nat.le_of_ble_eq_true rfl⟩ gw_925 gw_926 rfl hM.1 rfl rfl rfl (Nat.le_of_ble_eq_true rfl) c9 (ls_ok hI2.1) ?_
  refine l_same X (tgt := 1109) dL_law_303 (by decide) ?_
  exact kk σ2 K2 (S) hI2 hZ
theorem lc_kind (X : LX P D p s m c b L xs) {i : Nat} {σ : List mC} {I : mI} {S : Sx} {B : Int} (hI : LI σ I S) (hS : SxOk B S) (hB : 0 ≤ B ∧ B ≤ 1000000) (hi : i + 5 ≤ L) (hL : L ≤ 2560) (kk : ∀ (σ : List mC) (K : mI) (Z : Sx), LI σ K Z → SxOk (B + 24) Z → LW p l e s m below meth c Q P D b (lvI P b i) 1109 [] (σ, K)) : LW p l e s m below meth c Q P D b (lvI P b i) 308 [] (σ, I) := by
  have hZ : SxOk (B + 24) (S) := hS.mono (by omega)
  obtain ⟨σ2, K, K2, c8, c9, hM, hI2⟩ := l_pair (A := a_kind S (xs (i + 1)).toInt) hI hS hZ (f_kind hI.2.1 hS ⟨Int32.le_toInt (xs (i + 1)), Int32.toInt_lt (xs (i + 1))⟩) (fun σ2 K hM => g_kind hM hS ⟨Int32.le_toInt (xs (i + 1)), Int32.toInt_lt (xs (i + 1))⟩)
  refine l_aload X (a := 0) (q := 1) dL_law_308 rfl rfl ?_
  refine l_sub X (i := i) (k := 1) dL_law_309 dL_law_310 dL_law_311 dL_law_312 dL_law_313 rfl rfl (by omega) hL ?_
  refine l_callV X (r := 0) (ci := 8) (q := (RX8, TX8, 14)) [mi (xs (i + 1)).toInt] [] dL_law_314 co_L_40 ⟨Nat.le_of_ble_eq_true rfl, Nat.le_of_ble_eq_true rfl⟩ gw_481 gw_482 rfl hI.2.1.2.1.1 rfl rfl rfl (Nat.le_of_ble_eq_true rfl) c8 (ls_ok hI2.1) ?_
  refine l_aload X (a := 144) (q := 2) dL_law_317 rfl rfl ?_
  refine l_sub X (i := i) (k := 1) dL_law_318 dL_law_319 dL_law_320 dL_law_321 dL_law_322 rfl rfl (by omega) hL ?_
  refine l_callV X (r := 144) (ci := 9) (q := (RX9, TX9, 30)) [mi (xs (i + 1)).toInt] [mi (a_kind S (xs (i + 1)).toInt)] dL_law_323 co_L_43 ⟨Nat.le_of_ble_eq_true rfl, Nat.le_of_ble_eq_true rfl⟩ gw_941 gw_942 rfl hM.1 rfl rfl rfl (Nat.le_of_ble_eq_true rfl) c9 (ls_ok hI2.1) ?_
  refine l_same X (tgt := 1109) dL_law_326 (by decide) ?_
  exact kk σ2 K2 (S) hI2 hZ
theorem lc_traveller (X : LX P D p s m c b L xs) {i : Nat} {σ : List mC} {I : mI} {S : Sx} {B : Int} (hI : LI σ I S) (hS : SxOk B S) (hB : 0 ≤ B ∧ B ≤ 1000000) (hi : i + 5 ≤ L) (hL : L ≤ 2560) (kk : ∀ (σ : List mC) (K : mI) (Z : Sx), LI σ K Z → SxOk (B + 24) Z → LW p l e s m below meth c Q P D b (lvI P b i) 1109 [] (σ, K)) : LW p l e s m below meth c Q P D b (lvI P b i) 331 [] (σ, I) := by
  have hZ : SxOk (B + 24) (S) := hS.mono (by omega)
  obtain ⟨σ2, K, K2, c8, c9, hM, hI2⟩ := l_pair (A := a_traveller S (xs (i + 1)).toInt (xs (i + 2)).toInt) hI hS hZ (f_traveller hI.2.1 hS ⟨Int32.le_toInt (xs (i + 1)), Int32.toInt_lt (xs (i + 1))⟩ ⟨Int32.le_toInt (xs (i + 2)), Int32.toInt_lt (xs (i + 2))⟩) (fun σ2 K hM => g_traveller hM hS ⟨Int32.le_toInt (xs (i + 1)), Int32.toInt_lt (xs (i + 1))⟩ ⟨Int32.le_toInt (xs (i + 2)), Int32.toInt_lt (xs (i + 2))⟩)
  refine l_aload X (a := 0) (q := 1) dL_law_331 rfl rfl ?_
  refine l_sub X (i := i) (k := 1) dL_law_332 dL_law_333 dL_law_334 dL_law_335 dL_law_336 rfl rfl (by omega) hL ?_
  refine l_sub X (i := i) (k := 2) dL_law_337 dL_law_338 dL_law_339 dL_law_340 dL_law_341 rfl rfl (by omega) hL ?_
  refine l_callV X (r := 0) (ci := 8) (q := (RX8, TX8, 14)) [mi (xs (i + 1)).toInt, mi (xs (i + 2)).toInt] [] dL_law_342 co_L_44 ⟨Nat.le_of_ble_eq_true rfl, Nat.le_of_ble_eq_true rfl⟩ gw_485 gw_486 rfl hI.2.1.2.1.1 rfl rfl rfl (Nat.le_of_ble_eq_true rfl) c8 (ls_ok hI2.1) ?_
  refine l_aload X (a := 144) (q := 2) dL_law_345 rfl rfl ?_
  refine l_sub X (i := i) (k := 1) dL_law_346 dL_law_347 dL_law_348 dL_law_349 dL_law_350 rfl rfl (by omega) hL ?_
  refine l_sub X (i := i) (k := 2) dL_law_351 dL_law_352 dL_law_353 dL_law_354 dL_law_355 rfl rfl (by omega) hL ?_
  refine l_callV X (r := 144) (ci := 9) (q := (RX9, TX9, 30)) [mi (xs (i + 1)).toInt, mi (xs (i + 2)).toInt] [mi (a_traveller S (xs (i + 1)).toInt (xs (i + 2)).toInt)] dL_law_356 co_L_48 ⟨Nat.le_of_ble_eq_true rfl, Nat.le_of_ble_eq_true rfl⟩ gw_945 gw_946 rfl hM.1 rfl rfl rfl (Nat.le_of_ble_eq_true rfl) c9 (ls_ok hI2.1) ?_
  refine l_same X (tgt := 1109) dL_law_359 (by decide) ?_
  exact kk σ2 K2 (S) hI2 hZ
theorem lc_route (X : LX P D p s m c b L xs) {i : Nat} {σ : List mC} {I : mI} {S : Sx} {B : Int} (hI : LI σ I S) (hS : SxOk B S) (hB : 0 ≤ B ∧ B ≤ 1000000) (hi : i + 5 ≤ L) (hL : L ≤ 2560) (kk : ∀ (σ : List mC) (K : mI) (Z : Sx), LI σ K Z → SxOk (B + 24) Z → LW p l e s m below meth c Q P D b (lvI P b i) 1109 [] (σ, K)) : LW p l e s m below meth c Q P D b (lvI P b i) 364 [] (σ, I) := by
  have hZ : SxOk (B + 24) (S) := hS.mono (by omega)
  obtain ⟨σ2, K, K2, c8, c9, hM, hI2⟩ := l_pair (A := a_route S (xs (i + 1)).toInt (xs (i + 2)).toInt (xs (i + 3)).toInt (xs (i + 4)).toInt) hI hS hZ (f_route hI.2.1 hS ⟨Int32.le_toInt (xs (i + 1)), Int32.toInt_lt (xs (i + 1))⟩ ⟨Int32.le_toInt (xs (i + 2)), Int32.toInt_lt (xs (i + 2))⟩ ⟨Int32.le_toInt (xs (i + 3)), Int32.toInt_lt (xs (i + 3))⟩ ⟨Int32.le_toInt (xs (i + 4)), Int32.toInt_lt (xs (i + 4))⟩) (fun σ2 K hM => g_route hM hS ⟨Int32.le_toInt (xs (i + 1)), Int32.toInt_lt (xs (i + 1))⟩ ⟨Int32.le_toInt (xs (i + 2)), Int32.toInt_lt (xs (i + 2))⟩ ⟨Int32.le_toInt (xs (i + 3)), Int32.toInt_lt (xs (i + 3))⟩ ⟨Int32.le_toInt (xs (i + 4)), Int32.toInt_lt (xs (i + 4))⟩)
  refine l_aload X (a := 0) (q := 1) dL_law_364 rfl rfl ?_
  refine l_sub X (i := i) (k := 1) dL_law_365 dL_law_366 dL_law_367 dL_law_368 dL_law_369 rfl rfl (by omega) hL ?_
  refine l_sub X (i := i) (k := 2) dL_law_370 dL_law_371 dL_law_372 dL_law_373 dL_law_374 rfl rfl (by omega) hL ?_
  refine l_sub X (i := i) (k := 3) dL_law_375 dL_law_376 dL_law_377 dL_law_378 dL_law_379 rfl rfl (by omega) hL ?_
  refine l_sub X (i := i) (k := 4) dL_law_380 dL_law_381 dL_law_382 dL_law_383 dL_law_384 rfl rfl (by omega) hL ?_
  refine l_callV X (r := 0) (ci := 8) (q := (RX8, TX8, 14)) [mi (xs (i + 1)).toInt, mi (xs (i + 2)).toInt, mi (xs (i + 3)).toInt, mi (xs (i + 4)).toInt] [] dL_law_385 co_L_49 ⟨Nat.le_of_ble_eq_true rfl, Nat.le_of_ble_eq_true rfl⟩ gw_498 gw_499 rfl hI.2.1.2.1.1 rfl rfl rfl (Nat.le_of_ble_eq_true rfl) c8 (ls_ok hI2.1) ?_
  refine l_aload X (a := 144) (q := 2) dL_law_388 rfl rfl ?_
  refine l_sub X (i := i) (k := 1) dL_law_389 dL_law_390 dL_law_391 dL_law_392 dL_law_393 rfl rfl (by omega) hL ?_
  refine l_sub X (i := i) (k := 2) dL_law_394 dL_law_395 dL_law_396 dL_law_397 dL_law_398 rfl rfl (by omega) hL ?_
  refine l_sub X (i := i) (k := 3) dL_law_399 dL_law_400 dL_law_401 dL_law_402 dL_law_403 rfl rfl (by omega) hL ?_
  refine l_sub X (i := i) (k := 4) dL_law_404 dL_law_405 dL_law_406 dL_law_407 dL_law_408 rfl rfl (by omega) hL ?_
  refine l_callV X (r := 144) (ci := 9) (q := (RX9, TX9, 30)) [mi (xs (i + 1)).toInt, mi (xs (i + 2)).toInt, mi (xs (i + 3)).toInt, mi (xs (i + 4)).toInt] [mi (a_route S (xs (i + 1)).toInt (xs (i + 2)).toInt (xs (i + 3)).toInt (xs (i + 4)).toInt)] dL_law_409 co_L_53 ⟨Nat.le_of_ble_eq_true rfl, Nat.le_of_ble_eq_true rfl⟩ gw_954 gw_955 rfl hM.1 rfl rfl rfl (Nat.le_of_ble_eq_true rfl) c9 (ls_ok hI2.1) ?_
  refine l_same X (tgt := 1109) dL_law_412 (by decide) ?_
  exact kk σ2 K2 (S) hI2 hZ
theorem lc_truth (X : LX P D p s m c b L xs) {i : Nat} {σ : List mC} {I : mI} {S : Sx} {B : Int} (hI : LI σ I S) (hS : SxOk B S) (hB : 0 ≤ B ∧ B ≤ 1000000) (hi : i + 5 ≤ L) (hL : L ≤ 2560) (kk : ∀ (σ : List mC) (K : mI) (Z : Sx), LI σ K Z → SxOk (B + 24) Z → LW p l e s m below meth c Q P D b (lvI P b i) 1109 [] (σ, K)) : LW p l e s m below meth c Q P D b (lvI P b i) 417 [] (σ, I) := by
  have hZ : SxOk (B + 24) (S) := hS.mono (by omega)
  obtain ⟨σ2, K, K2, c8, c9, hM, hI2⟩ := l_pair (A := a_truth S (xs (i + 1)).toInt (xs (i + 2)).toInt) hI hS hZ (f_truth hI.2.1 hS ⟨Int32.le_toInt (xs (i + 1)), Int32.toInt_lt (xs (i + 1))⟩ ⟨Int32.le_toInt (xs (i + 2)), Int32.toInt_lt (xs (i + 2))⟩) (fun σ2 K hM => g_truth hM hS ⟨Int32.le_toInt (xs (i + 1)), Int32.toInt_lt (xs (i + 1))⟩ ⟨Int32.le_toInt (xs (i + 2)), Int32.toInt_lt (xs (i + 2))⟩)
  refine l_aload X (a := 0) (q := 1) dL_law_417 rfl rfl ?_
  refine l_sub X (i := i) (k := 1) dL_law_418 dL_law_419 dL_law_420 dL_law_421 dL_law_422 rfl rfl (by omega) hL ?_
  refine l_sub X (i := i) (k := 2) dL_law_423 dL_law_424 dL_law_425 dL_law_426 dL_law_427 rfl rfl (by omega) hL ?_
  refine l_callV X (r := 0) (ci := 8) (q := (RX8, TX8, 14)) [mi (xs (i + 1)).toInt, mi (xs (i + 2)).toInt] [] dL_law_428 co_L_54 ⟨Nat.le_of_ble_eq_true rfl, Nat.le_of_ble_eq_true rfl⟩ gw_535 gw_536 rfl hI.2.1.2.1.1 rfl rfl rfl (Nat.le_of_ble_eq_true rfl) c8 (ls_ok hI2.1) ?_
  refine l_aload X (a := 144) (q := 2) dL_law_431 rfl rfl ?_
  refine l_sub X (i := i) (k := 1) dL_law_432 dL_law_433 dL_law_434 dL_law_435 dL_law_436 rfl rfl (by omega) hL ?_
  refine l_sub X (i := i) (k := 2) dL_law_437 dL_law_438 dL_law_439 dL_law_440 dL_law_441 rfl rfl (by omega) hL ?_
  refine l_callV X (r := 144) (ci := 9) (q := (RX9, TX9, 30)) [mi (xs (i + 1)).toInt, mi (xs (i + 2)).toInt] [mi (a_truth S (xs (i + 1)).toInt (xs (i + 2)).toInt)] dL_law_442 co_L_57 ⟨Nat.le_of_ble_eq_true rfl, Nat.le_of_ble_eq_true rfl⟩ gw_982 gw_983 rfl hM.1 rfl rfl rfl (Nat.le_of_ble_eq_true rfl) c9 (ls_ok hI2.1) ?_
  refine l_same X (tgt := 1109) dL_law_445 (by decide) ?_
  exact kk σ2 K2 (S) hI2 hZ
theorem lc_pass (X : LX P D p s m c b L xs) {i : Nat} {σ : List mC} {I : mI} {S : Sx} {B : Int} (hI : LI σ I S) (hS : SxOk B S) (hB : 0 ≤ B ∧ B ≤ 1000000) (hi : i + 5 ≤ L) (hL : L ≤ 2560) (kk : ∀ (σ : List mC) (K : mI) (Z : Sx), LI σ K Z → SxOk (B + 24) Z → LW p l e s m below meth c Q P D b (lvI P b i) 1109 [] (σ, K)) : LW p l e s m below meth c Q P D b (lvI P b i) 450 [] (σ, I) := by
  have hZ : SxOk (B + 24) (z_pass S (xs (i + 1)).toInt) := ok_pass hS
  obtain ⟨σ2, K, K2, c8, c9, hM, hI2⟩ := l_pair (A := a_pass S (xs (i + 1)).toInt) hI hS hZ (f_pass hI.2.1 hS hB.2 ⟨Int32.le_toInt (xs (i + 1)), Int32.toInt_lt (xs (i + 1))⟩) (fun σ2 K hM => g_pass hM hS hB.2 ⟨Int32.le_toInt (xs (i + 1)), Int32.toInt_lt (xs (i + 1))⟩)
  refine l_aload X (a := 0) (q := 1) dL_law_450 rfl rfl ?_
  refine l_sub X (i := i) (k := 1) dL_law_451 dL_law_452 dL_law_453 dL_law_454 dL_law_455 rfl rfl (by omega) hL ?_
  refine l_callV X (r := 0) (ci := 8) (q := (RX8, TX8, 14)) [mi (xs (i + 1)).toInt] [] dL_law_456 co_L_58 ⟨Nat.le_of_ble_eq_true rfl, Nat.le_of_ble_eq_true rfl⟩ gw_543 gw_544 rfl hI.2.1.2.1.1 rfl rfl rfl (Nat.le_of_ble_eq_true rfl) c8 (ls_ok hI2.1) ?_
  refine l_aload X (a := 144) (q := 2) dL_law_459 rfl rfl ?_
  refine l_sub X (i := i) (k := 1) dL_law_460 dL_law_461 dL_law_462 dL_law_463 dL_law_464 rfl rfl (by omega) hL ?_
  refine l_callV X (r := 144) (ci := 9) (q := (RX9, TX9, 30)) [mi (xs (i + 1)).toInt] [mi (a_pass S (xs (i + 1)).toInt)] dL_law_465 co_L_61 ⟨Nat.le_of_ble_eq_true rfl, Nat.le_of_ble_eq_true rfl⟩ gw_986 gw_987 rfl hM.1 rfl rfl rfl (Nat.le_of_ble_eq_true rfl) c9 (ls_ok hI2.1) ?_
  refine l_same X (tgt := 1109) dL_law_468 (by decide) ?_
  exact kk σ2 K2 (z_pass S (xs (i + 1)).toInt) hI2 hZ
theorem lc_rain (X : LX P D p s m c b L xs) {i : Nat} {σ : List mC} {I : mI} {S : Sx} {B : Int} (hI : LI σ I S) (hS : SxOk B S) (hB : 0 ≤ B ∧ B ≤ 1000000) (hi : i + 5 ≤ L) (hL : L ≤ 2560) (kk : ∀ (σ : List mC) (K : mI) (Z : Sx), LI σ K Z → SxOk (B + 24) Z → LW p l e s m below meth c Q P D b (lvI P b i) 1109 [] (σ, K)) : LW p l e s m below meth c Q P D b (lvI P b i) 473 [] (σ, I) := by
  have hZ : SxOk (B + 24) (z_rain S (xs (i + 1)).toInt) := (ok_rain hS).mono (by omega)
  obtain ⟨σ2, K, K2, c8, c9, hM, hI2⟩ := l_pair (A := a_rain S (xs (i + 1)).toInt) hI hS hZ (f_rain hI.2.1 hS ⟨Int32.le_toInt (xs (i + 1)), Int32.toInt_lt (xs (i + 1))⟩) (fun σ2 K hM => g_rain hM hS ⟨Int32.le_toInt (xs (i + 1)), Int32.toInt_lt (xs (i + 1))⟩)
  refine l_aload X (a := 0) (q := 1) dL_law_473 rfl rfl ?_
  refine l_sub X (i := i) (k := 1) dL_law_474 dL_law_475 dL_law_476 dL_law_477 dL_law_478 rfl rfl (by omega) hL ?_
  refine l_callV X (r := 0) (ci := 8) (q := (RX8, TX8, 14)) [mi (xs (i + 1)).toInt] [] dL_law_479 co_L_62 ⟨Nat.le_of_ble_eq_true rfl, Nat.le_of_ble_eq_true rfl⟩ gw_581 gw_582 rfl hI.2.1.2.1.1 rfl rfl rfl (Nat.le_of_ble_eq_true rfl) c8 (ls_ok hI2.1) ?_
  refine l_aload X (a := 144) (q := 2) dL_law_482 rfl rfl ?_
  refine l_sub X (i := i) (k := 1) dL_law_483 dL_law_484 dL_law_485 dL_law_486 dL_law_487 rfl rfl (by omega) hL ?_
  refine l_callV X (r := 144) (ci := 9) (q := (RX9, TX9, 30)) [mi (xs (i + 1)).toInt] [mi (a_rain S (xs (i + 1)).toInt)] dL_law_488 co_L_65 ⟨Nat.le_of_ble_eq_true rfl, Nat.le_of_ble_eq_true rfl⟩ gw_1003 gw_1004 rfl hM.1 rfl rfl rfl (Nat.le_of_ble_eq_true rfl) c9 (ls_ok hI2.1) ?_
  refine l_same X (tgt := 1109) dL_law_491 (by decide) ?_
  exact kk σ2 K2 (z_rain S (xs (i + 1)).toInt) hI2 hZ
theorem lc_retune (X : LX P D p s m c b L xs) {i : Nat} {σ : List mC} {I : mI} {S : Sx} {B : Int} (hI : LI σ I S) (hS : SxOk B S) (hB : 0 ≤ B ∧ B ≤ 1000000) (hi : i + 5 ≤ L) (hL : L ≤ 2560) (kk : ∀ (σ : List mC) (K : mI) (Z : Sx), LI σ K Z → SxOk (B + 24) Z → LW p l e s m below meth c Q P D b (lvI P b i) 1109 [] (σ, K)) : LW p l e s m below meth c Q P D b (lvI P b i) 496 [] (σ, I) := by
  have hZ : SxOk (B + 24) (z_retune S (xs (i + 1)).toInt (xs (i + 2)).toInt (xs (i + 3)).toInt) := (ok_retune hS).mono (by omega)
  obtain ⟨σ2, K, K2, c8, c9, hM, hI2⟩ := l_pair (A := a_retune S (xs (i + 1)).toInt (xs (i + 2)).toInt (xs (i + 3)).toInt) hI hS hZ (f_retune hI.2.1 hS ⟨Int32.le_toInt (xs (i + 1)), Int32.toInt_lt (xs (i + 1))⟩ ⟨Int32.le_toInt (xs (i + 2)), Int32.toInt_lt (xs (i + 2))⟩ ⟨Int32.le_toInt (xs (i + 3)), Int32.toInt_lt (xs (i + 3))⟩) (fun σ2 K hM => g_retune hM hS ⟨Int32.le_toInt (xs (i + 1)), Int32.toInt_lt (xs (i + 1))⟩ ⟨Int32.le_toInt (xs (i + 2)), Int32.toInt_lt (xs (i + 2))⟩ ⟨Int32.le_toInt (xs (i + 3)), Int32.toInt_lt (xs (i + 3))⟩)
  refine l_aload X (a := 0) (q := 1) dL_law_496 rfl rfl ?_
  refine l_sub X (i := i) (k := 1) dL_law_497 dL_law_498 dL_law_499 dL_law_500 dL_law_501 rfl rfl (by omega) hL ?_
  refine l_sub X (i := i) (k := 2) dL_law_502 dL_law_503 dL_law_504 dL_law_505 dL_law_506 rfl rfl (by omega) hL ?_
  refine l_sub X (i := i) (k := 3) dL_law_507 dL_law_508 dL_law_509 dL_law_510 dL_law_511 rfl rfl (by omega) hL ?_
  refine l_callV X (r := 0) (ci := 8) (q := (RX8, TX8, 14)) [mi (xs (i + 1)).toInt, mi (xs (i + 2)).toInt, mi (xs (i + 3)).toInt] [] dL_law_512 co_L_66 ⟨Nat.le_of_ble_eq_true rfl, Nat.le_of_ble_eq_true rfl⟩ gw_585 gw_586 rfl hI.2.1.2.1.1 rfl rfl rfl (Nat.le_of_ble_eq_true rfl) c8 (ls_ok hI2.1) ?_
  refine l_aload X (a := 144) (q := 2) dL_law_515 rfl rfl ?_
  refine l_sub X (i := i) (k := 1) dL_law_516 dL_law_517 dL_law_518 dL_law_519 dL_law_520 rfl rfl (by omega) hL ?_
  refine l_sub X (i := i) (k := 2) dL_law_521 dL_law_522 dL_law_523 dL_law_524 dL_law_525 rfl rfl (by omega) hL ?_
  refine l_sub X (i := i) (k := 3) dL_law_526 dL_law_527 dL_law_528 dL_law_529 dL_law_530 rfl rfl (by omega) hL ?_
  refine l_callV X (r := 144) (ci := 9) (q := (RX9, TX9, 30)) [mi (xs (i + 1)).toInt, mi (xs (i + 2)).toInt, mi (xs (i + 3)).toInt] [mi (a_retune S (xs (i + 1)).toInt (xs (i + 2)).toInt (xs (i + 3)).toInt)] dL_law_531 co_L_69 ⟨Nat.le_of_ble_eq_true rfl, Nat.le_of_ble_eq_true rfl⟩ gw_1008 gw_1009 rfl hM.1 rfl rfl rfl (Nat.le_of_ble_eq_true rfl) c9 (ls_ok hI2.1) ?_
  refine l_same X (tgt := 1109) dL_law_534 (by decide) ?_
  exact kk σ2 K2 (z_retune S (xs (i + 1)).toInt (xs (i + 2)).toInt (xs (i + 3)).toInt) hI2 hZ
theorem lc_give (X : LX P D p s m c b L xs) {i : Nat} {σ : List mC} {I : mI} {S : Sx} {B : Int} (hI : LI σ I S) (hS : SxOk B S) (hB : 0 ≤ B ∧ B ≤ 1000000) (hi : i + 5 ≤ L) (hL : L ≤ 2560) (kk : ∀ (σ : List mC) (K : mI) (Z : Sx), LI σ K Z → SxOk (B + 24) Z → LW p l e s m below meth c Q P D b (lvI P b i) 1109 [] (σ, K)) : LW p l e s m below meth c Q P D b (lvI P b i) 539 [] (σ, I) := by
  have hZ : SxOk (B + 24) (z_give S (xs (i + 1)).toInt (xs (i + 2)).toInt) := (ok_give hS).mono (by omega)
  obtain ⟨σ2, K, K2, c8, c9, hM, hI2⟩ := l_pair (A := a_give S (xs (i + 1)).toInt (xs (i + 2)).toInt) hI hS hZ (f_give hI.2.1 hS ⟨Int32.le_toInt (xs (i + 1)), Int32.toInt_lt (xs (i + 1))⟩ ⟨Int32.le_toInt (xs (i + 2)), Int32.toInt_lt (xs (i + 2))⟩) (fun σ2 K hM => g_give hM hS ⟨Int32.le_toInt (xs (i + 1)), Int32.toInt_lt (xs (i + 1))⟩ ⟨Int32.le_toInt (xs (i + 2)), Int32.toInt_lt (xs (i + 2))⟩)
  refine l_aload X (a := 0) (q := 1) dL_law_539 rfl rfl ?_
  refine l_sub X (i := i) (k := 1) dL_law_540 dL_law_541 dL_law_542 dL_law_543 dL_law_544 rfl rfl (by omega) hL ?_
  refine l_sub X (i := i) (k := 2) dL_law_545 dL_law_546 dL_law_547 dL_law_548 dL_law_549 rfl rfl (by omega) hL ?_
  refine l_callV X (r := 0) (ci := 8) (q := (RX8, TX8, 14)) [mi (xs (i + 1)).toInt, mi (xs (i + 2)).toInt] [] dL_law_550 co_L_70 ⟨Nat.le_of_ble_eq_true rfl, Nat.le_of_ble_eq_true rfl⟩ gw_590 gw_591 rfl hI.2.1.2.1.1 rfl rfl rfl (Nat.le_of_ble_eq_true rfl) c8 (ls_ok hI2.1) ?_
  refine l_aload X (a := 144) (q := 2) dL_law_553 rfl rfl ?_
  refine l_sub X (i := i) (k := 1) dL_law_554 dL_law_555 dL_law_556 dL_law_557 dL_law_558 rfl rfl (by omega) hL ?_
  refine l_sub X (i := i) (k := 2) dL_law_559 dL_law_560 dL_law_561 dL_law_562 dL_law_563 rfl rfl (by omega) hL ?_
  refine l_callV X (r := 144) (ci := 9) (q := (RX9, TX9, 30)) [mi (xs (i + 1)).toInt, mi (xs (i + 2)).toInt] [mi (a_give S (xs (i + 1)).toInt (xs (i + 2)).toInt)] dL_law_564 co_L_73 ⟨Nat.le_of_ble_eq_true rfl, Nat.le_of_ble_eq_true rfl⟩ gw_1012 gw_1013 rfl hM.1 rfl rfl rfl (Nat.le_of_ble_eq_true rfl) c9 (ls_ok hI2.1) ?_
  refine l_same X (tgt := 1109) dL_law_567 (by decide) ?_
  exact kk σ2 K2 (z_give S (xs (i + 1)).toInt (xs (i + 2)).toInt) hI2 hZ
theorem lc_send (X : LX P D p s m c b L xs) {i : Nat} {σ : List mC} {I : mI} {S : Sx} {B : Int} (hI : LI σ I S) (hS : SxOk B S) (hB : 0 ≤ B ∧ B ≤ 1000000) (hi : i + 5 ≤ L) (hL : L ≤ 2560) (kk : ∀ (σ : List mC) (K : mI) (Z : Sx), LI σ K Z → SxOk (B + 24) Z → LW p l e s m below meth c Q P D b (lvI P b i) 1109 [] (σ, K)) : LW p l e s m below meth c Q P D b (lvI P b i) 572 [] (σ, I) := by
  have hZ : SxOk (B + 24) (z_send S (xs (i + 1)).toInt (xs (i + 2)).toInt) := (ok_send hS).mono (by omega)
  obtain ⟨σ2, K, K2, c8, c9, hM, hI2⟩ := l_pair (A := a_send S (xs (i + 1)).toInt (xs (i + 2)).toInt) hI hS hZ (f_send hI.2.1 hS ⟨Int32.le_toInt (xs (i + 1)), Int32.toInt_lt (xs (i + 1))⟩ ⟨Int32.le_toInt (xs (i + 2)), Int32.toInt_lt (xs (i + 2))⟩) (fun σ2 K hM => g_send hM hS ⟨Int32.le_toInt (xs (i + 1)), Int32.toInt_lt (xs (i + 1))⟩ ⟨Int32.le_toInt (xs (i + 2)), Int32.toInt_lt (xs (i + 2))⟩)
  refine l_aload X (a := 0) (q := 1) dL_law_572 rfl rfl ?_
  refine l_sub X (i := i) (k := 1) dL_law_573 dL_law_574 dL_law_575 dL_law_576 dL_law_577 rfl rfl (by omega) hL ?_
  refine l_sub X (i := i) (k := 2) dL_law_578 dL_law_579 dL_law_580 dL_law_581 dL_law_582 rfl rfl (by omega) hL ?_
  refine l_callV X (r := 0) (ci := 8) (q := (RX8, TX8, 14)) [mi (xs (i + 1)).toInt, mi (xs (i + 2)).toInt] [] dL_law_583 co_L_74 ⟨Nat.le_of_ble_eq_true rfl, Nat.le_of_ble_eq_true rfl⟩ gw_594 gw_595 rfl hI.2.1.2.1.1 rfl rfl rfl (Nat.le_of_ble_eq_true rfl) c8 (ls_ok hI2.1) ?_
  refine l_aload X (a := 144) (q := 2) dL_law_586 rfl rfl ?_
  refine l_sub X (i := i) (k := 1) dL_law_587 dL_law_588 dL_law_589 dL_law_590 dL_law_591 rfl rfl (by omega) hL ?_
  refine l_sub X (i := i) (k := 2) dL_law_592 dL_law_593 dL_law_594 dL_law_595 dL_law_596 rfl rfl (by omega) hL ?_
  refine l_callV X (r := 144) (ci := 9) (q := (RX9, TX9, 30)) [mi (xs (i + 1)).toInt, mi (xs (i + 2)).toInt] [mi (a_send S (xs (i + 1)).toInt (xs (i + 2)).toInt)] dL_law_597 co_L_77 ⟨Nat.le_of_ble_eq_true rfl, Nat.le_of_ble_eq_true rfl⟩ gw_1016 gw_1017 rfl hM.1 rfl rfl rfl (Nat.le_of_ble_eq_true rfl) c9 (ls_ok hI2.1) ?_
  refine l_same X (tgt := 1109) dL_law_600 (by decide) ?_
  exact kk σ2 K2 (z_send S (xs (i + 1)).toInt (xs (i + 2)).toInt) hI2 hZ
theorem lc_undo (X : LX P D p s m c b L xs) {i : Nat} {σ : List mC} {I : mI} {S : Sx} {B : Int} (hI : LI σ I S) (hS : SxOk B S) (hB : 0 ≤ B ∧ B ≤ 1000000) (hi : i + 5 ≤ L) (hL : L ≤ 2560) (kk : ∀ (σ : List mC) (K : mI) (Z : Sx), LI σ K Z → SxOk (B + 24) Z → LW p l e s m below meth c Q P D b (lvI P b i) 1109 [] (σ, K)) : LW p l e s m below meth c Q P D b (lvI P b i) 605 [] (σ, I) := by
  have hZ : SxOk (B + 24) (z_undo S) := (ok_undo hS).mono (by omega)
  obtain ⟨σ2, K, K2, c8, c9, hM, hI2⟩ := l_pair (A := a_undo S) hI hS hZ (f_undo hI.2.1 hS) (fun σ2 K hM => g_undo hM hS)
  refine l_aload X (a := 0) (q := 1) dL_law_605 rfl rfl ?_
  refine l_callV X (r := 0) (ci := 8) (q := (RX8, TX8, 14)) [] [] dL_law_606 co_L_78 ⟨Nat.le_of_ble_eq_true rfl, Nat.le_of_ble_eq_true rfl⟩ gw_599 gw_600 rfl hI.2.1.2.1.1 rfl rfl rfl (Nat.le_of_ble_eq_true rfl) c8 (ls_ok hI2.1) ?_
  refine l_aload X (a := 144) (q := 2) dL_law_609 rfl rfl ?_
  refine l_callV X (r := 144) (ci := 9) (q := (RX9, TX9, 30)) [] [mi (a_undo S)] dL_law_610 co_L_81 ⟨Nat.le_of_ble_eq_true rfl, Nat.le_of_ble_eq_true rfl⟩ gw_1023 gw_1024 rfl hM.1 rfl rfl rfl (Nat.le_of_ble_eq_true rfl) c9 (ls_ok hI2.1) ?_
  refine l_same X (tgt := 1109) dL_law_613 (by decide) ?_
  exact kk σ2 K2 (z_undo S) hI2 hZ
theorem lc_arrives (X : LX P D p s m c b L xs) {i : Nat} {σ : List mC} {I : mI} {S : Sx} {B : Int} (hI : LI σ I S) (hS : SxOk B S) (hB : 0 ≤ B ∧ B ≤ 1000000) (hi : i + 5 ≤ L) (hL : L ≤ 2560) (kk : ∀ (σ : List mC) (K : mI) (Z : Sx), LI σ K Z → SxOk (B + 24) Z → LW p l e s m below meth c Q P D b (lvI P b i) 1109 [] (σ, K)) : LW p l e s m below meth c Q P D b (lvI P b i) 618 [] (σ, I) := by
  have hZ : SxOk (B + 24) (S) := hS.mono (by omega)
  obtain ⟨σ2, K, K2, c8, c9, hM, hI2⟩ := l_pair (A := a_when S 1 (xs (i + 1)).toInt) hI hS hZ (f_arrives hI.2.1 hS ⟨Int32.le_toInt (xs (i + 1)), Int32.toInt_lt (xs (i + 1))⟩) (fun σ2 K hM => g_arrives hM hS ⟨Int32.le_toInt (xs (i + 1)), Int32.toInt_lt (xs (i + 1))⟩)
  refine l_aload X (a := 0) (q := 1) dL_law_618 rfl rfl ?_
  refine l_sub X (i := i) (k := 1) dL_law_619 dL_law_620 dL_law_621 dL_law_622 dL_law_623 rfl rfl (by omega) hL ?_
  refine l_callV X (r := 0) (ci := 8) (q := (RX8, TX8, 14)) [mi (xs (i + 1)).toInt] [] dL_law_624 co_L_82 ⟨Nat.le_of_ble_eq_true rfl, Nat.le_of_ble_eq_true rfl⟩ gw_607 gw_608 rfl hI.2.1.2.1.1 rfl rfl rfl (Nat.le_of_ble_eq_true rfl) c8 (ls_ok hI2.1) ?_
  refine l_aload X (a := 144) (q := 2) dL_law_627 rfl rfl ?_
  refine l_sub X (i := i) (k := 1) dL_law_628 dL_law_629 dL_law_630 dL_law_631 dL_law_632 rfl rfl (by omega) hL ?_
  refine l_callV X (r := 144) (ci := 9) (q := (RX9, TX9, 30)) [mi (xs (i + 1)).toInt] [mi (a_when S 1 (xs (i + 1)).toInt)] dL_law_633 co_L_85 ⟨Nat.le_of_ble_eq_true rfl, Nat.le_of_ble_eq_true rfl⟩ gw_1027 gw_1028 rfl hM.1 rfl rfl rfl (Nat.le_of_ble_eq_true rfl) c9 (ls_ok hI2.1) ?_
  refine l_same X (tgt := 1109) dL_law_636 (by decide) ?_
  exact kk σ2 K2 (S) hI2 hZ
theorem lc_loses (X : LX P D p s m c b L xs) {i : Nat} {σ : List mC} {I : mI} {S : Sx} {B : Int} (hI : LI σ I S) (hS : SxOk B S) (hB : 0 ≤ B ∧ B ≤ 1000000) (hi : i + 5 ≤ L) (hL : L ≤ 2560) (kk : ∀ (σ : List mC) (K : mI) (Z : Sx), LI σ K Z → SxOk (B + 24) Z → LW p l e s m below meth c Q P D b (lvI P b i) 1109 [] (σ, K)) : LW p l e s m below meth c Q P D b (lvI P b i) 641 [] (σ, I) := by
  have hZ : SxOk (B + 24) (S) := hS.mono (by omega)
  obtain ⟨σ2, K, K2, c8, c9, hM, hI2⟩ := l_pair (A := a_when S 2 (xs (i + 1)).toInt) hI hS hZ (f_loses hI.2.1 hS ⟨Int32.le_toInt (xs (i + 1)), Int32.toInt_lt (xs (i + 1))⟩) (fun σ2 K hM => g_loses hM hS ⟨Int32.le_toInt (xs (i + 1)), Int32.toInt_lt (xs (i + 1))⟩)
  refine l_aload X (a := 0) (q := 1) dL_law_641 rfl rfl ?_
  refine l_sub X (i := i) (k := 1) dL_law_642 dL_law_643 dL_law_644 dL_law_645 dL_law_646 rfl rfl (by omega) hL ?_
  refine l_callV X (r := 0) (ci := 8) (q := (RX8, TX8, 14)) [mi (xs (i + 1)).toInt] [] dL_law_647 co_L_86 ⟨Nat.le_of_ble_eq_true rfl, Nat.le_of_ble_eq_true rfl⟩ gw_616 gw_617 rfl hI.2.1.2.1.1 rfl rfl rfl (Nat.le_of_ble_eq_true rfl) c8 (ls_ok hI2.1) ?_
  refine l_aload X (a := 144) (q := 2) dL_law_650 rfl rfl ?_
  refine l_sub X (i := i) (k := 1) dL_law_651 dL_law_652 dL_law_653 dL_law_654 dL_law_655 rfl rfl (by omega) hL ?_
  refine l_callV X (r := 144) (ci := 9) (q := (RX9, TX9, 30)) [mi (xs (i + 1)).toInt] [mi (a_when S 2 (xs (i + 1)).toInt)] dL_law_656 co_L_89 ⟨Nat.le_of_ble_eq_true rfl, Nat.le_of_ble_eq_true rfl⟩ gw_1039 gw_1040 rfl hM.1 rfl rfl rfl (Nat.le_of_ble_eq_true rfl) c9 (ls_ok hI2.1) ?_
  refine l_same X (tgt := 1109) dL_law_659 (by decide) ?_
  exact kk σ2 K2 (S) hI2 hZ
theorem lc_led (X : LX P D p s m c b L xs) {i : Nat} {σ : List mC} {I : mI} {S : Sx} {B : Int} (hI : LI σ I S) (hS : SxOk B S) (hB : 0 ≤ B ∧ B ≤ 1000000) (hi : i + 5 ≤ L) (hL : L ≤ 2560) (kk : ∀ (σ : List mC) (K : mI) (Z : Sx), LI σ K Z → SxOk (B + 24) Z → LW p l e s m below meth c Q P D b (lvI P b i) 1109 [] (σ, K)) : LW p l e s m below meth c Q P D b (lvI P b i) 664 [] (σ, I) := by
  have hZ : SxOk (B + 24) (S) := hS.mono (by omega)
  obtain ⟨σ2, K, K2, c8, c9, hM, hI2⟩ := l_pair (A := a_led S (xs (i + 1)).toInt (xs (i + 2)).toInt (xs (i + 3)).toInt) hI hS hZ (f_led hI.2.1 hS ⟨Int32.le_toInt (xs (i + 1)), Int32.toInt_lt (xs (i + 1))⟩ ⟨Int32.le_toInt (xs (i + 2)), Int32.toInt_lt (xs (i + 2))⟩ ⟨Int32.le_toInt (xs (i + 3)), Int32.toInt_lt (xs (i + 3))⟩) (fun σ2 K hM => g_led hM hS ⟨Int32.le_toInt (xs (i + 1)), Int32.toInt_lt (xs (i + 1))⟩ ⟨Int32.le_toInt (xs (i + 2)), Int32.toInt_lt (xs (i + 2))⟩ ⟨Int32.le_toInt (xs (i + 3)), Int32.toInt_lt (xs (i + 3))⟩)
  refine l_aload X (a := 0) (q := 1) dL_law_664 rfl rfl ?_
  refine l_sub X (i := i) (k := 1) dL_law_665 dL_law_666 dL_law_667 dL_law_668 dL_law_669 rfl rfl (by omega) hL ?_
  refine l_sub X (i := i) (k := 2) dL_law_670 dL_law_671 dL_law_672 dL_law_673 dL_law_674 rfl rfl (by omega) hL ?_
  refine l_sub X (i := i) (k := 3) dL_law_675 dL_law_676 dL_law_677 dL_law_678 dL_law_679 rfl rfl (by omega) hL ?_
  refine l_callV X (r := 0) (ci := 8) (q := (RX8, TX8, 14)) [mi (xs (i + 1)).toInt, mi (xs (i + 2)).toInt, mi (xs (i + 3)).toInt] [] dL_law_680 co_L_90 ⟨Nat.le_of_ble_eq_true rfl, Nat.le_of_ble_eq_true rfl⟩ gw_620 gw_621 rfl hI.2.1.2.1.1 rfl rfl rfl (Nat.le_of_ble_eq_true rfl) c8 (ls_ok hI2.1) ?_
  refine l_aload X (a := 144) (q := 2) dL_law_683 rfl rfl ?_
  refine l_sub X (i := i) (k := 1) dL_law_684 dL_law_685 dL_law_686 dL_law_687 dL_law_688 rfl rfl (by omega) hL ?_
  refine l_sub X (i := i) (k := 2) dL_law_689 dL_law_690 dL_law_691 dL_law_692 dL_law_693 rfl rfl (by omega) hL ?_
  refine l_sub X (i := i) (k := 3) dL_law_694 dL_law_695 dL_law_696 dL_law_697 dL_law_698 rfl rfl (by omega) hL ?_
  refine l_callV X (r := 144) (ci := 9) (q := (RX9, TX9, 30)) [mi (xs (i + 1)).toInt, mi (xs (i + 2)).toInt, mi (xs (i + 3)).toInt] [mi (a_led S (xs (i + 1)).toInt (xs (i + 2)).toInt (xs (i + 3)).toInt)] dL_law_699 co_L_93 ⟨Nat.le_of_ble_eq_true rfl, Nat.le_of_ble_eq_true rfl⟩ gw_1043 gw_1044 rfl hM.1 rfl rfl rfl (Nat.le_of_ble_eq_true rfl) c9 (ls_ok hI2.1) ?_
  refine l_same X (tgt := 1109) dL_law_702 (by decide) ?_
  exact kk σ2 K2 (S) hI2 hZ
theorem lc_fastest (X : LX P D p s m c b L xs) {i : Nat} {σ : List mC} {I : mI} {S : Sx} {B : Int} (hI : LI σ I S) (hS : SxOk B S) (hB : 0 ≤ B ∧ B ≤ 1000000) (hi : i + 5 ≤ L) (hL : L ≤ 2560) (kk : ∀ (σ : List mC) (K : mI) (Z : Sx), LI σ K Z → SxOk (B + 24) Z → LW p l e s m below meth c Q P D b (lvI P b i) 1109 [] (σ, K)) : LW p l e s m below meth c Q P D b (lvI P b i) 707 [] (σ, I) := by
  have hZ : SxOk (B + 24) (S) := hS.mono (by omega)
  obtain ⟨σ2, K, K2, c8, c9, hM, hI2⟩ := l_pair (A := a_fastest S (xs (i + 1)).toInt) hI hS hZ (f_fastest hI.2.1 hS ⟨Int32.le_toInt (xs (i + 1)), Int32.toInt_lt (xs (i + 1))⟩) (fun σ2 K hM => g_fastest hM hS ⟨Int32.le_toInt (xs (i + 1)), Int32.toInt_lt (xs (i + 1))⟩)
  refine l_aload X (a := 0) (q := 1) dL_law_707 rfl rfl ?_
  refine l_sub X (i := i) (k := 1) dL_law_708 dL_law_709 dL_law_710 dL_law_711 dL_law_712 rfl rfl (by omega) hL ?_
  refine l_callV X (r := 0) (ci := 8) (q := (RX8, TX8, 14)) [mi (xs (i + 1)).toInt] [] dL_law_713 co_L_94 ⟨Nat.le_of_ble_eq_true rfl, Nat.le_of_ble_eq_true rfl⟩ gw_629 gw_630 rfl hI.2.1.2.1.1 rfl rfl rfl (Nat.le_of_ble_eq_true rfl) c8 (ls_ok hI2.1) ?_
  refine l_aload X (a := 144) (q := 2) dL_law_716 rfl rfl ?_
  refine l_sub X (i := i) (k := 1) dL_law_717 dL_law_718 dL_law_719 dL_law_720 dL_law_721 rfl rfl (by omega) hL ?_
  refine l_callV X (r := 144) (ci := 9) (q := (RX9, TX9, 30)) [mi (xs (i + 1)).toInt] [mi (a_fastest S (xs (i + 1)).toInt)] dL_law_722 co_L_97 ⟨Nat.le_of_ble_eq_true rfl, Nat.le_of_ble_eq_true rfl⟩ gw_1051 gw_1052 rfl hM.1 rfl rfl rfl (Nat.le_of_ble_eq_true rfl) c9 (ls_ok hI2.1) ?_
  refine l_same X (tgt := 1109) dL_law_725 (by decide) ?_
  exact kk σ2 K2 (S) hI2 hZ
theorem lc_tune (X : LX P D p s m c b L xs) {i : Nat} {σ : List mC} {I : mI} {S : Sx} {B : Int} (hI : LI σ I S) (hS : SxOk B S) (hB : 0 ≤ B ∧ B ≤ 1000000) (hi : i + 5 ≤ L) (hL : L ≤ 2560) (kk : ∀ (σ : List mC) (K : mI) (Z : Sx), LI σ K Z → SxOk (B + 24) Z → LW p l e s m below meth c Q P D b (lvI P b i) 1109 [] (σ, K)) : LW p l e s m below meth c Q P D b (lvI P b i) 730 [] (σ, I) := by
  have hZ : SxOk (B + 24) (S) := hS.mono (by omega)
  obtain ⟨σ2, K, K2, c8, c9, hM, hI2⟩ := l_pair (A := a_tune S (xs (i + 1)).toInt) hI hS hZ (f_tune hI.2.1 hS ⟨Int32.le_toInt (xs (i + 1)), Int32.toInt_lt (xs (i + 1))⟩) (fun σ2 K hM => g_tune hM hS ⟨Int32.le_toInt (xs (i + 1)), Int32.toInt_lt (xs (i + 1))⟩)
  refine l_aload X (a := 0) (q := 1) dL_law_730 rfl rfl ?_
  refine l_sub X (i := i) (k := 1) dL_law_731 dL_law_732 dL_law_733 dL_law_734 dL_law_735 rfl rfl (by omega) hL ?_
  refine l_callV X (r := 0) (ci := 8) (q := (RX8, TX8, 14)) [mi (xs (i + 1)).toInt] [] dL_law_736 co_L_98 ⟨Nat.le_of_ble_eq_true rfl, Nat.le_of_ble_eq_true rfl⟩ gw_637 gw_638 rfl hI.2.1.2.1.1 rfl rfl rfl (Nat.le_of_ble_eq_true rfl) c8 (ls_ok hI2.1) ?_
  refine l_aload X (a := 144) (q := 2) dL_law_739 rfl rfl ?_
  refine l_sub X (i := i) (k := 1) dL_law_740 dL_law_741 dL_law_742 dL_law_743 dL_law_744 rfl rfl (by omega) hL ?_
  refine l_callV X (r := 144) (ci := 9) (q := (RX9, TX9, 30)) [mi (xs (i + 1)).toInt] [mi (a_tune S (xs (i + 1)).toInt)] dL_law_745 co_L_101 ⟨Nat.le_of_ble_eq_true rfl, Nat.le_of_ble_eq_true rfl⟩ gw_1055 gw_1056 rfl hM.1 rfl rfl rfl (Nat.le_of_ble_eq_true rfl) c9 (ls_ok hI2.1) ?_
  refine l_same X (tgt := 1109) dL_law_748 (by decide) ?_
  exact kk σ2 K2 (S) hI2 hZ
theorem lc_meet (X : LX P D p s m c b L xs) {i : Nat} {σ : List mC} {I : mI} {S : Sx} {B : Int} (hI : LI σ I S) (hS : SxOk B S) (hB : 0 ≤ B ∧ B ≤ 1000000) (hi : i + 5 ≤ L) (hL : L ≤ 2560) (kk : ∀ (σ : List mC) (K : mI) (Z : Sx), LI σ K Z → SxOk (B + 24) Z → LW p l e s m below meth c Q P D b (lvI P b i) 1109 [] (σ, K)) : LW p l e s m below meth c Q P D b (lvI P b i) 753 [] (σ, I) := by
  have hZ : SxOk (B + 24) (S) := hS.mono (by omega)
  obtain ⟨σ2, K, K2, c8, c9, hM, hI2⟩ := l_pair (A := a_meet S (xs (i + 1)).toInt (xs (i + 2)).toInt) hI hS hZ (f_meet hI.2.1 hS ⟨Int32.le_toInt (xs (i + 1)), Int32.toInt_lt (xs (i + 1))⟩ ⟨Int32.le_toInt (xs (i + 2)), Int32.toInt_lt (xs (i + 2))⟩) (fun σ2 K hM => g_meet hM hS ⟨Int32.le_toInt (xs (i + 1)), Int32.toInt_lt (xs (i + 1))⟩ ⟨Int32.le_toInt (xs (i + 2)), Int32.toInt_lt (xs (i + 2))⟩)
  refine l_aload X (a := 0) (q := 1) dL_law_753 rfl rfl ?_
  refine l_sub X (i := i) (k := 1) dL_law_754 dL_law_755 dL_law_756 dL_law_757 dL_law_758 rfl rfl (by omega) hL ?_
  refine l_sub X (i := i) (k := 2) dL_law_759 dL_law_760 dL_law_761 dL_law_762 dL_law_763 rfl rfl (by omega) hL ?_
  refine l_callV X (r := 0) (ci := 8) (q := (RX8, TX8, 14)) [mi (xs (i + 1)).toInt, mi (xs (i + 2)).toInt] [] dL_law_764 co_L_102 ⟨Nat.le_of_ble_eq_true rfl, Nat.le_of_ble_eq_true rfl⟩ gw_641 gw_642 rfl hI.2.1.2.1.1 rfl rfl rfl (Nat.le_of_ble_eq_true rfl) c8 (ls_ok hI2.1) ?_
  refine l_aload X (a := 144) (q := 2) dL_law_767 rfl rfl ?_
  refine l_sub X (i := i) (k := 1) dL_law_768 dL_law_769 dL_law_770 dL_law_771 dL_law_772 rfl rfl (by omega) hL ?_
  refine l_sub X (i := i) (k := 2) dL_law_773 dL_law_774 dL_law_775 dL_law_776 dL_law_777 rfl rfl (by omega) hL ?_
  refine l_callV X (r := 144) (ci := 9) (q := (RX9, TX9, 30)) [mi (xs (i + 1)).toInt, mi (xs (i + 2)).toInt] [mi (a_meet S (xs (i + 1)).toInt (xs (i + 2)).toInt)] dL_law_778 co_L_105 ⟨Nat.le_of_ble_eq_true rfl, Nat.le_of_ble_eq_true rfl⟩ gw_1059 gw_1060 rfl hM.1 rfl rfl rfl (Nat.le_of_ble_eq_true rfl) c9 (ls_ok hI2.1) ?_
  refine l_same X (tgt := 1109) dL_law_781 (by decide) ?_
  exact kk σ2 K2 (S) hI2 hZ
theorem lc_clash (X : LX P D p s m c b L xs) {i : Nat} {σ : List mC} {I : mI} {S : Sx} {B : Int} (hI : LI σ I S) (hS : SxOk B S) (hB : 0 ≤ B ∧ B ≤ 1000000) (hi : i + 5 ≤ L) (hL : L ≤ 2560) (kk : ∀ (σ : List mC) (K : mI) (Z : Sx), LI σ K Z → SxOk (B + 24) Z → LW p l e s m below meth c Q P D b (lvI P b i) 1109 [] (σ, K)) : LW p l e s m below meth c Q P D b (lvI P b i) 786 [] (σ, I) := by
  have hZ : SxOk (B + 24) (S) := hS.mono (by omega)
  obtain ⟨σ2, K, K2, c8, c9, hM, hI2⟩ := l_pair (A := a_clash S (xs (i + 1)).toInt (xs (i + 2)).toInt (xs (i + 3)).toInt) hI hS hZ (f_clash hI.2.1 hS ⟨Int32.le_toInt (xs (i + 1)), Int32.toInt_lt (xs (i + 1))⟩ ⟨Int32.le_toInt (xs (i + 2)), Int32.toInt_lt (xs (i + 2))⟩ ⟨Int32.le_toInt (xs (i + 3)), Int32.toInt_lt (xs (i + 3))⟩) (fun σ2 K hM => g_clash hM hS ⟨Int32.le_toInt (xs (i + 1)), Int32.toInt_lt (xs (i + 1))⟩ ⟨Int32.le_toInt (xs (i + 2)), Int32.toInt_lt (xs (i + 2))⟩ ⟨Int32.le_toInt (xs (i + 3)), Int32.toInt_lt (xs (i + 3))⟩)
  refine l_aload X (a := 0) (q := 1) dL_law_786 rfl rfl ?_
  refine l_sub X (i := i) (k := 1) dL_law_787 dL_law_788 dL_law_789 dL_law_790 dL_law_791 rfl rfl (by omega) hL ?_
  refine l_sub X (i := i) (k := 2) dL_law_792 dL_law_793 dL_law_794 dL_law_795 dL_law_796 rfl rfl (by omega) hL ?_
  refine l_sub X (i := i) (k := 3) dL_law_797 dL_law_798 dL_law_799 dL_law_800 dL_law_801 rfl rfl (by omega) hL ?_
  refine l_callV X (r := 0) (ci := 8) (q := (RX8, TX8, 14)) [mi (xs (i + 1)).toInt, mi (xs (i + 2)).toInt, mi (xs (i + 3)).toInt] [] dL_law_802 co_L_106 ⟨Nat.le_of_ble_eq_true rfl, Nat.le_of_ble_eq_true rfl⟩ gw_649 gw_650 rfl hI.2.1.2.1.1 rfl rfl rfl (Nat.le_of_ble_eq_true rfl) c8 (ls_ok hI2.1) ?_
  refine l_aload X (a := 144) (q := 2) dL_law_805 rfl rfl ?_
  refine l_sub X (i := i) (k := 1) dL_law_806 dL_law_807 dL_law_808 dL_law_809 dL_law_810 rfl rfl (by omega) hL ?_
  refine l_sub X (i := i) (k := 2) dL_law_811 dL_law_812 dL_law_813 dL_law_814 dL_law_815 rfl rfl (by omega) hL ?_
  refine l_sub X (i := i) (k := 3) dL_law_816 dL_law_817 dL_law_818 dL_law_819 dL_law_820 rfl rfl (by omega) hL ?_
  refine l_callV X (r := 144) (ci := 9) (q := (RX9, TX9, 30)) [mi (xs (i + 1)).toInt, mi (xs (i + 2)).toInt, mi (xs (i + 3)).toInt] [mi (a_clash S (xs (i + 1)).toInt (xs (i + 2)).toInt (xs (i + 3)).toInt)] dL_law_821 co_L_109 ⟨Nat.le_of_ble_eq_true rfl, Nat.le_of_ble_eq_true rfl⟩ gw_1063 gw_1064 rfl hM.1 rfl rfl rfl (Nat.le_of_ble_eq_true rfl) c9 (ls_ok hI2.1) ?_
  refine l_same X (tgt := 1109) dL_law_824 (by decide) ?_
  exact kk σ2 K2 (S) hI2 hZ
theorem lc_right (X : LX P D p s m c b L xs) {i : Nat} {σ : List mC} {I : mI} {S : Sx} {B : Int} (hI : LI σ I S) (hS : SxOk B S) (hB : 0 ≤ B ∧ B ≤ 1000000) (hi : i + 5 ≤ L) (hL : L ≤ 2560) (kk : ∀ (σ : List mC) (K : mI) (Z : Sx), LI σ K Z → SxOk (B + 24) Z → LW p l e s m below meth c Q P D b (lvI P b i) 1109 [] (σ, K)) : LW p l e s m below meth c Q P D b (lvI P b i) 829 [] (σ, I) := by
  have hZ : SxOk (B + 24) (S) := hS.mono (by omega)
  obtain ⟨σ2, K, K2, c8, c9, hM, hI2⟩ := l_pair (A := a_right S (xs (i + 1)).toInt (xs (i + 2)).toInt) hI hS hZ (f_right hI.2.1 hS ⟨Int32.le_toInt (xs (i + 1)), Int32.toInt_lt (xs (i + 1))⟩ ⟨Int32.le_toInt (xs (i + 2)), Int32.toInt_lt (xs (i + 2))⟩) (fun σ2 K hM => g_right hM hS ⟨Int32.le_toInt (xs (i + 1)), Int32.toInt_lt (xs (i + 1))⟩ ⟨Int32.le_toInt (xs (i + 2)), Int32.toInt_lt (xs (i + 2))⟩)
  refine l_aload X (a := 0) (q := 1) dL_law_829 rfl rfl ?_
  refine l_sub X (i := i) (k := 1) dL_law_830 dL_law_831 dL_law_832 dL_law_833 dL_law_834 rfl rfl (by omega) hL ?_
  refine l_sub X (i := i) (k := 2) dL_law_835 dL_law_836 dL_law_837 dL_law_838 dL_law_839 rfl rfl (by omega) hL ?_
  refine l_callV X (r := 0) (ci := 8) (q := (RX8, TX8, 14)) [mi (xs (i + 1)).toInt, mi (xs (i + 2)).toInt] [] dL_law_840 co_L_110 ⟨Nat.le_of_ble_eq_true rfl, Nat.le_of_ble_eq_true rfl⟩ gw_653 gw_654 rfl hI.2.1.2.1.1 rfl rfl rfl (Nat.le_of_ble_eq_true rfl) c8 (ls_ok hI2.1) ?_
  refine l_aload X (a := 144) (q := 2) dL_law_843 rfl rfl ?_
  refine l_sub X (i := i) (k := 1) dL_law_844 dL_law_845 dL_law_846 dL_law_847 dL_law_848 rfl rfl (by omega) hL ?_
  refine l_sub X (i := i) (k := 2) dL_law_849 dL_law_850 dL_law_851 dL_law_852 dL_law_853 rfl rfl (by omega) hL ?_
  refine l_callV X (r := 144) (ci := 9) (q := (RX9, TX9, 30)) [mi (xs (i + 1)).toInt, mi (xs (i + 2)).toInt] [mi (a_right S (xs (i + 1)).toInt (xs (i + 2)).toInt)] dL_law_854 co_L_113 ⟨Nat.le_of_ble_eq_true rfl, Nat.le_of_ble_eq_true rfl⟩ gw_1067 gw_1068 rfl hM.1 rfl rfl rfl (Nat.le_of_ble_eq_true rfl) c9 (ls_ok hI2.1) ?_
  refine l_same X (tgt := 1109) dL_law_857 (by decide) ?_
  exact kk σ2 K2 (S) hI2 hZ
theorem lc_hear (X : LX P D p s m c b L xs) {i : Nat} {σ : List mC} {I : mI} {S : Sx} {B : Int} (hI : LI σ I S) (hS : SxOk B S) (hB : 0 ≤ B ∧ B ≤ 1000000) (hi : i + 5 ≤ L) (hL : L ≤ 2560) (kk : ∀ (σ : List mC) (K : mI) (Z : Sx), LI σ K Z → SxOk (B + 24) Z → LW p l e s m below meth c Q P D b (lvI P b i) 1109 [] (σ, K)) : LW p l e s m below meth c Q P D b (lvI P b i) 862 [] (σ, I) := by
  have hZ : SxOk (B + 24) (z_hear S (xs (i + 1)).toInt (xs (i + 2)).toInt) := (ok_hear hS).mono (by omega)
  obtain ⟨σ2, K, K2, c8, c9, hM, hI2⟩ := l_pair (A := a_hear S (xs (i + 1)).toInt (xs (i + 2)).toInt) hI hS hZ (f_hear hI.2.1 hS ⟨Int32.le_toInt (xs (i + 1)), Int32.toInt_lt (xs (i + 1))⟩ ⟨Int32.le_toInt (xs (i + 2)), Int32.toInt_lt (xs (i + 2))⟩) (fun σ2 K hM => g_hear hM hS ⟨Int32.le_toInt (xs (i + 1)), Int32.toInt_lt (xs (i + 1))⟩ ⟨Int32.le_toInt (xs (i + 2)), Int32.toInt_lt (xs (i + 2))⟩)
  refine l_aload X (a := 0) (q := 1) dL_law_862 rfl rfl ?_
  refine l_sub X (i := i) (k := 1) dL_law_863 dL_law_864 dL_law_865 dL_law_866 dL_law_867 rfl rfl (by omega) hL ?_
  refine l_sub X (i := i) (k := 2) dL_law_868 dL_law_869 dL_law_870 dL_law_871 dL_law_872 rfl rfl (by omega) hL ?_
  refine l_callV X (r := 0) (ci := 8) (q := (RX8, TX8, 14)) [mi (xs (i + 1)).toInt, mi (xs (i + 2)).toInt] [] dL_law_873 co_L_114 ⟨Nat.le_of_ble_eq_true rfl, Nat.le_of_ble_eq_true rfl⟩ gw_657 gw_658 rfl hI.2.1.2.1.1 rfl rfl rfl (Nat.le_of_ble_eq_true rfl) c8 (ls_ok hI2.1) ?_
  refine l_aload X (a := 144) (q := 2) dL_law_876 rfl rfl ?_
  refine l_sub X (i := i) (k := 1) dL_law_877 dL_law_878 dL_law_879 dL_law_880 dL_law_881 rfl rfl (by omega) hL ?_
  refine l_sub X (i := i) (k := 2) dL_law_882 dL_law_883 dL_law_884 dL_law_885 dL_law_886 rfl rfl (by omega) hL ?_
  refine l_callV X (r := 144) (ci := 9) (q := (RX9, TX9, 30)) [mi (xs (i + 1)).toInt, mi (xs (i + 2)).toInt] [mi (a_hear S (xs (i + 1)).toInt (xs (i + 2)).toInt)] dL_law_887 co_L_117 ⟨Nat.le_of_ble_eq_true rfl, Nat.le_of_ble_eq_true rfl⟩ gw_1071 gw_1072 rfl hM.1 rfl rfl rfl (Nat.le_of_ble_eq_true rfl) c9 (ls_ok hI2.1) ?_
  refine l_same X (tgt := 1109) dL_law_890 (by decide) ?_
  exact kk σ2 K2 (z_hear S (xs (i + 1)).toInt (xs (i + 2)).toInt) hI2 hZ
theorem lc_forget (X : LX P D p s m c b L xs) {i : Nat} {σ : List mC} {I : mI} {S : Sx} {B : Int} (hI : LI σ I S) (hS : SxOk B S) (hB : 0 ≤ B ∧ B ≤ 1000000) (hi : i + 5 ≤ L) (hL : L ≤ 2560) (kk : ∀ (σ : List mC) (K : mI) (Z : Sx), LI σ K Z → SxOk (B + 24) Z → LW p l e s m below meth c Q P D b (lvI P b i) 1109 [] (σ, K)) : LW p l e s m below meth c Q P D b (lvI P b i) 895 [] (σ, I) := by
  have hZ : SxOk (B + 24) (z_forget S) := (ok_forget hS).mono (by omega)
  obtain ⟨σ2, K, K2, c8, c9, hM, hI2⟩ := l_pair (A := ((sH S).1 : Int)) hI hS hZ (f_forget hI.2.1 hS) (fun σ2 K hM => g_forget hM hS)
  refine l_aload X (a := 0) (q := 1) dL_law_895 rfl rfl ?_
  refine l_callV X (r := 0) (ci := 8) (q := (RX8, TX8, 14)) [] [] dL_law_896 co_L_118 ⟨Nat.le_of_ble_eq_true rfl, Nat.le_of_ble_eq_true rfl⟩ gw_662 gw_663 rfl hI.2.1.2.1.1 rfl rfl rfl (Nat.le_of_ble_eq_true rfl) c8 (ls_ok hI2.1) ?_
  refine l_aload X (a := 144) (q := 2) dL_law_899 rfl rfl ?_
  refine l_callV X (r := 144) (ci := 9) (q := (RX9, TX9, 30)) [] [mi (((sH S).1 : Int))] dL_law_900 co_L_121 ⟨Nat.le_of_ble_eq_true rfl, Nat.le_of_ble_eq_true rfl⟩ gw_1075 gw_1076 rfl hM.1 rfl rfl rfl (Nat.le_of_ble_eq_true rfl) c9 (ls_ok hI2.1) ?_
  refine l_same X (tgt := 1109) dL_law_903 (by decide) ?_
  exact kk σ2 K2 (z_forget S) hI2 hZ
theorem lc_which (X : LX P D p s m c b L xs) {i : Nat} {σ : List mC} {I : mI} {S : Sx} {B : Int} (hI : LI σ I S) (hS : SxOk B S) (hB : 0 ≤ B ∧ B ≤ 1000000) (hi : i + 5 ≤ L) (hL : L ≤ 2560) (kk : ∀ (σ : List mC) (K : mI) (Z : Sx), LI σ K Z → SxOk (B + 24) Z → LW p l e s m below meth c Q P D b (lvI P b i) 1109 [] (σ, K)) : LW p l e s m below meth c Q P D b (lvI P b i) 908 [] (σ, I) := by
  have hZ : SxOk (B + 24) (S) := hS.mono (by omega)
  obtain ⟨σ2, K, K2, c8, c9, hM, hI2⟩ := l_pair (A := a_which S) hI hS hZ (f_which hI.2.1 hS) (fun σ2 K hM => g_which hM hS)
  refine l_aload X (a := 0) (q := 1) dL_law_908 rfl rfl ?_
  refine l_callV X (r := 0) (ci := 8) (q := (RX8, TX8, 14)) [] [] dL_law_909 co_L_122 ⟨Nat.le_of_ble_eq_true rfl, Nat.le_of_ble_eq_true rfl⟩ gw_666 gw_667 rfl hI.2.1.2.1.1 rfl rfl rfl (Nat.le_of_ble_eq_true rfl) c8 (ls_ok hI2.1) ?_
  refine l_aload X (a := 144) (q := 2) dL_law_912 rfl rfl ?_
  refine l_callV X (r := 144) (ci := 9) (q := (RX9, TX9, 30)) [] [mi (a_which S)] dL_law_913 co_L_125 ⟨Nat.le_of_ble_eq_true rfl, Nat.le_of_ble_eq_true rfl⟩ gw_1079 gw_1080 rfl hM.1 rfl rfl rfl (Nat.le_of_ble_eq_true rfl) c9 (ls_ok hI2.1) ?_
  refine l_same X (tgt := 1109) dL_law_916 (by decide) ?_
  exact kk σ2 K2 (S) hI2 hZ
theorem lc_seen (X : LX P D p s m c b L xs) {i : Nat} {σ : List mC} {I : mI} {S : Sx} {B : Int} (hI : LI σ I S) (hS : SxOk B S) (hB : 0 ≤ B ∧ B ≤ 1000000) (hi : i + 5 ≤ L) (hL : L ≤ 2560) (kk : ∀ (σ : List mC) (K : mI) (Z : Sx), LI σ K Z → SxOk (B + 24) Z → LW p l e s m below meth c Q P D b (lvI P b i) 1109 [] (σ, K)) : LW p l e s m below meth c Q P D b (lvI P b i) 921 [] (σ, I) := by
  have hZ : SxOk (B + 24) (S) := hS.mono (by omega)
  obtain ⟨σ2, K, K2, c8, c9, hM, hI2⟩ := l_pair (A := a_seen S (xs (i + 1)).toInt (xs (i + 2)).toInt (xs (i + 3)).toInt) hI hS hZ (f_seen hI.2.1 hS ⟨Int32.le_toInt (xs (i + 1)), Int32.toInt_lt (xs (i + 1))⟩ ⟨Int32.le_toInt (xs (i + 2)), Int32.toInt_lt (xs (i + 2))⟩ ⟨Int32.le_toInt (xs (i + 3)), Int32.toInt_lt (xs (i + 3))⟩) (fun σ2 K hM => g_seen hM hS ⟨Int32.le_toInt (xs (i + 1)), Int32.toInt_lt (xs (i + 1))⟩ ⟨Int32.le_toInt (xs (i + 2)), Int32.toInt_lt (xs (i + 2))⟩ ⟨Int32.le_toInt (xs (i + 3)), Int32.toInt_lt (xs (i + 3))⟩)
  refine l_aload X (a := 0) (q := 1) dL_law_921 rfl rfl ?_
  refine l_sub X (i := i) (k := 1) dL_law_922 dL_law_923 dL_law_924 dL_law_925 dL_law_926 rfl rfl (by omega) hL ?_
  refine l_sub X (i := i) (k := 2) dL_law_927 dL_law_928 dL_law_929 dL_law_930 dL_law_931 rfl rfl (by omega) hL ?_
  refine l_sub X (i := i) (k := 3) dL_law_932 dL_law_933 dL_law_934 dL_law_935 dL_law_936 rfl rfl (by omega) hL ?_
  refine l_callV X (r := 0) (ci := 8) (q := (RX8, TX8, 14)) [mi (xs (i + 1)).toInt, mi (xs (i + 2)).toInt, mi (xs (i + 3)).toInt] [] dL_law_937 co_L_126 ⟨Nat.le_of_ble_eq_true rfl, Nat.le_of_ble_eq_true rfl⟩ gw_674 gw_675 rfl hI.2.1.2.1.1 rfl rfl rfl (Nat.le_of_ble_eq_true rfl) c8 (ls_ok hI2.1) ?_
  refine l_aload X (a := 144) (q := 2) dL_law_940 rfl rfl ?_
  refine l_sub X (i := i) (k := 1) dL_law_941 dL_law_942 dL_law_943 dL_law_944 dL_law_945 rfl rfl (by omega) hL ?_
  refine l_sub X (i := i) (k := 2) dL_law_946 dL_law_947 dL_law_948 dL_law_949 dL_law_950 rfl rfl (by omega) hL ?_
  refine l_sub X (i := i) (k := 3) dL_law_951 dL_law_952 dL_law_953 dL_law_954 dL_law_955 rfl rfl (by omega) hL ?_
  refine l_callV X (r := 144) (ci := 9) (q := (RX9, TX9, 30)) [mi (xs (i + 1)).toInt, mi (xs (i + 2)).toInt, mi (xs (i + 3)).toInt] [mi (a_seen S (xs (i + 1)).toInt (xs (i + 2)).toInt (xs (i + 3)).toInt)] dL_law_956 co_L_129 ⟨Nat.le_of_ble_eq_true rfl, Nat.le_of_ble_eq_true rfl⟩ gw_1083 gw_1084 rfl hM.1 rfl rfl rfl (Nat.le_of_ble_eq_true rfl) c9 (ls_ok hI2.1) ?_
  refine l_same X (tgt := 1109) dL_law_959 (by decide) ?_
  exact kk σ2 K2 (S) hI2 hZ
theorem lc_rains (X : LX P D p s m c b L xs) {i : Nat} {σ : List mC} {I : mI} {S : Sx} {B : Int} (hI : LI σ I S) (hS : SxOk B S) (hB : 0 ≤ B ∧ B ≤ 1000000) (hi : i + 5 ≤ L) (hL : L ≤ 2560) (kk : ∀ (σ : List mC) (K : mI) (Z : Sx), LI σ K Z → SxOk (B + 24) Z → LW p l e s m below meth c Q P D b (lvI P b i) 1109 [] (σ, K)) : LW p l e s m below meth c Q P D b (lvI P b i) 964 [] (σ, I) := by
  have hZ : SxOk (B + 24) (S) := hS.mono (by omega)
  obtain ⟨σ2, K, K2, c8, c9, hM, hI2⟩ := l_pair (A := a_rains S (xs (i + 1)).toInt (xs (i + 2)).toInt (xs (i + 3)).toInt (xs (i + 4)).toInt) hI hS hZ (f_rains hI.2.1 hS ⟨Int32.le_toInt (xs (i + 1)), Int32.toInt_lt (xs (i + 1))⟩ ⟨Int32.le_toInt (xs (i + 2)), Int32.toInt_lt (xs (i + 2))⟩ ⟨Int32.le_toInt (xs (i + 3)), Int32.toInt_lt (xs (i + 3))⟩ ⟨Int32.le_toInt (xs (i + 4)), Int32.toInt_lt (xs (i + 4))⟩) (fun σ2 K hM => g_rains hM hS ⟨Int32.le_toInt (xs (i + 1)), Int32.toInt_lt (xs (i + 1))⟩ ⟨Int32.le_toInt (xs (i + 2)), Int32.toInt_lt (xs (i + 2))⟩ ⟨Int32.le_toInt (xs (i + 3)), Int32.toInt_lt (xs (i + 3))⟩ ⟨Int32.le_toInt (xs (i + 4)), Int32.toInt_lt (xs (i + 4))⟩)
  refine l_aload X (a := 0) (q := 1) dL_law_964 rfl rfl ?_
  refine l_sub X (i := i) (k := 1) dL_law_965 dL_law_966 dL_law_967 dL_law_968 dL_law_969 rfl rfl (by omega) hL ?_
  refine l_sub X (i := i) (k := 2) dL_law_970 dL_law_971 dL_law_972 dL_law_973 dL_law_974 rfl rfl (by omega) hL ?_
  refine l_sub X (i := i) (k := 3) dL_law_975 dL_law_976 dL_law_977 dL_law_978 dL_law_979 rfl rfl (by omega) hL ?_
  refine l_sub X (i := i) (k := 4) dL_law_980 dL_law_981 dL_law_982 dL_law_983 dL_law_984 rfl rfl (by omega) hL ?_
  refine l_callV X (r := 0) (ci := 8) (q := (RX8, TX8, 14)) [mi (xs (i + 1)).toInt, mi (xs (i + 2)).toInt, mi (xs (i + 3)).toInt, mi (xs (i + 4)).toInt] [] dL_law_985 co_L_130 ⟨Nat.le_of_ble_eq_true rfl, Nat.le_of_ble_eq_true rfl⟩ gw_682 gw_683 rfl hI.2.1.2.1.1 rfl rfl rfl (Nat.le_of_ble_eq_true rfl) c8 (ls_ok hI2.1) ?_
  refine l_aload X (a := 144) (q := 2) dL_law_988 rfl rfl ?_
  refine l_sub X (i := i) (k := 1) dL_law_989 dL_law_990 dL_law_991 dL_law_992 dL_law_993 rfl rfl (by omega) hL ?_
  refine l_sub X (i := i) (k := 2) dL_law_994 dL_law_995 dL_law_996 dL_law_997 dL_law_998 rfl rfl (by omega) hL ?_
  refine l_sub X (i := i) (k := 3) dL_law_999 dL_law_1000 dL_law_1001 dL_law_1002 dL_law_1003 rfl rfl (by omega) hL ?_
  refine l_sub X (i := i) (k := 4) dL_law_1004 dL_law_1005 dL_law_1006 dL_law_1007 dL_law_1008 rfl rfl (by omega) hL ?_
  refine l_callV X (r := 144) (ci := 9) (q := (RX9, TX9, 30)) [mi (xs (i + 1)).toInt, mi (xs (i + 2)).toInt, mi (xs (i + 3)).toInt, mi (xs (i + 4)).toInt] [mi (a_rains S (xs (i + 1)).toInt (xs (i + 2)).toInt (xs (i + 3)).toInt (xs (i + 4)).toInt)] dL_law_1009 co_L_133 ⟨Nat.le_of_ble_eq_true rfl, Nat.le_of_ble_eq_true rfl⟩ gw_1088 gw_1089 rfl hM.1 rfl rfl rfl (Nat.le_of_ble_eq_true rfl) c9 (ls_ok hI2.1) ?_
  refine l_same X (tgt := 1109) dL_law_1012 (by decide) ?_
  exact kk σ2 K2 (S) hI2 hZ
theorem lc_year (X : LX P D p s m c b L xs) {i : Nat} {σ : List mC} {I : mI} {S : Sx} {B : Int} (hI : LI σ I S) (hS : SxOk B S) (hB : 0 ≤ B ∧ B ≤ 1000000) (hi : i + 5 ≤ L) (hL : L ≤ 2560) (kk : ∀ (σ : List mC) (K : mI) (Z : Sx), LI σ K Z → SxOk (B + 24) Z → LW p l e s m below meth c Q P D b (lvI P b i) 1109 [] (σ, K)) : LW p l e s m below meth c Q P D b (lvI P b i) 1017 [] (σ, I) := by
  have hZ : SxOk (B + 24) (S) := hS.mono (by omega)
  obtain ⟨σ2, K, K2, c8, c9, hM, hI2⟩ := l_pair (A := a_year S (xs (i + 1)).toInt (xs (i + 2)).toInt (xs (i + 3)).toInt) hI hS hZ (f_year hI.2.1 hS hB.2 ⟨Int32.le_toInt (xs (i + 1)), Int32.toInt_lt (xs (i + 1))⟩ ⟨Int32.le_toInt (xs (i + 2)), Int32.toInt_lt (xs (i + 2))⟩ ⟨Int32.le_toInt (xs (i + 3)), Int32.toInt_lt (xs (i + 3))⟩) (fun σ2 K hM => g_year hM hS hB.2 ⟨Int32.le_toInt (xs (i + 1)), Int32.toInt_lt (xs (i + 1))⟩ ⟨Int32.le_toInt (xs (i + 2)), Int32.toInt_lt (xs (i + 2))⟩ ⟨Int32.le_toInt (xs (i + 3)), Int32.toInt_lt (xs (i + 3))⟩)
  refine l_aload X (a := 0) (q := 1) dL_law_1017 rfl rfl ?_
  refine l_sub X (i := i) (k := 1) dL_law_1018 dL_law_1019 dL_law_1020 dL_law_1021 dL_law_1022 rfl rfl (by omega) hL ?_
  refine l_sub X (i := i) (k := 2) dL_law_1023 dL_law_1024 dL_law_1025 dL_law_1026 dL_law_1027 rfl rfl (by omega) hL ?_
  refine l_sub X (i := i) (k := 3) dL_law_1028 dL_law_1029 dL_law_1030 dL_law_1031 dL_law_1032 rfl rfl (by omega) hL ?_
  refine l_callV X (r := 0) (ci := 8) (q := (RX8, TX8, 14)) [mi (xs (i + 1)).toInt, mi (xs (i + 2)).toInt, mi (xs (i + 3)).toInt] [] dL_law_1033 co_L_134 ⟨Nat.le_of_ble_eq_true rfl, Nat.le_of_ble_eq_true rfl⟩ gw_693 gw_694 rfl hI.2.1.2.1.1 rfl rfl rfl (Nat.le_of_ble_eq_true rfl) c8 (ls_ok hI2.1) ?_
  refine l_aload X (a := 144) (q := 2) dL_law_1036 rfl rfl ?_
  refine l_sub X (i := i) (k := 1) dL_law_1037 dL_law_1038 dL_law_1039 dL_law_1040 dL_law_1041 rfl rfl (by omega) hL ?_
  refine l_sub X (i := i) (k := 2) dL_law_1042 dL_law_1043 dL_law_1044 dL_law_1045 dL_law_1046 rfl rfl (by omega) hL ?_
  refine l_sub X (i := i) (k := 3) dL_law_1047 dL_law_1048 dL_law_1049 dL_law_1050 dL_law_1051 rfl rfl (by omega) hL ?_
  refine l_callV X (r := 144) (ci := 9) (q := (RX9, TX9, 30)) [mi (xs (i + 1)).toInt, mi (xs (i + 2)).toInt, mi (xs (i + 3)).toInt] [mi (a_year S (xs (i + 1)).toInt (xs (i + 2)).toInt (xs (i + 3)).toInt)] dL_law_1052 co_L_137 ⟨Nat.le_of_ble_eq_true rfl, Nat.le_of_ble_eq_true rfl⟩ gw_1100 gw_1101 rfl hM.1 rfl rfl rfl (Nat.le_of_ble_eq_true rfl) c9 (ls_ok hI2.1) ?_
  refine l_same X (tgt := 1109) dL_law_1055 (by decide) ?_
  exact kk σ2 K2 (S) hI2 hZ
theorem lc_keep (X : LX P D p s m c b L xs) {i : Nat} {σ : List mC} {I : mI} {S : Sx} {B : Int} (hI : LI σ I S) (hS : SxOk B S) (hB : 0 ≤ B ∧ B ≤ 1000000) (hi : i + 5 ≤ L) (hL : L ≤ 2560) (kk : ∀ (σ : List mC) (K : mI) (Z : Sx), LI σ K Z → SxOk (B + 24) Z → LW p l e s m below meth c Q P D b (lvI P b i) 1109 [] (σ, K)) : LW p l e s m below meth c Q P D b (lvI P b i) 1060 [] (σ, I) := by
  have hZ : SxOk (B + 24) (z_keep S) := (ok_keep hS).mono (by omega)
  obtain ⟨σ2, K, K2, c8, c9, hM, hI2⟩ := l_pair (A := a_keep S) hI hS hZ (f_keep hI.2.1 hS) (fun σ2 K hM => g_keep hM hS)
  refine l_aload X (a := 0) (q := 1) dL_law_1060 rfl rfl ?_
  refine l_callV X (r := 0) (ci := 8) (q := (RX8, TX8, 14)) [] [] dL_law_1061 co_L_138 ⟨Nat.le_of_ble_eq_true rfl, Nat.le_of_ble_eq_true rfl⟩ gw_716 gw_717 rfl hI.2.1.2.1.1 rfl rfl rfl (Nat.le_of_ble_eq_true rfl) c8 (ls_ok hI2.1) ?_
  refine l_aload X (a := 144) (q := 2) dL_law_1064 rfl rfl ?_
  refine l_callV X (r := 144) (ci := 9) (q := (RX9, TX9, 30)) [] [mi (a_keep S)] dL_law_1065 co_L_141 ⟨Nat.le_of_ble_eq_true rfl, Nat.le_of_ble_eq_true rfl⟩ gw_1117 gw_1118 rfl hM.1 rfl rfl rfl (Nat.le_of_ble_eq_true rfl) c9 (ls_ok hI2.1) ?_
  refine l_same X (tgt := 1109) dL_law_1068 (by decide) ?_
  exact kk σ2 K2 (z_keep S) hI2 hZ
theorem lc_back (X : LX P D p s m c b L xs) {i : Nat} {σ : List mC} {I : mI} {S : Sx} {B : Int} (hI : LI σ I S) (hS : SxOk B S) (hB : 0 ≤ B ∧ B ≤ 1000000) (hi : i + 5 ≤ L) (hL : L ≤ 2560) (kk : ∀ (σ : List mC) (K : mI) (Z : Sx), LI σ K Z → SxOk (B + 24) Z → LW p l e s m below meth c Q P D b (lvI P b i) 1109 [] (σ, K)) : LW p l e s m below meth c Q P D b (lvI P b i) 1073 [] (σ, I) := by
  have hZ : SxOk (B + 24) (z_back S) := (ok_back hS).mono (by omega)
  obtain ⟨σ2, K, K2, c8, c9, hM, hI2⟩ := l_pair (A := a_back S) hI hS hZ (f_back hI.2.1 hS) (fun σ2 K hM => g_back hM hS)
  refine l_aload X (a := 0) (q := 1) dL_law_1073 rfl rfl ?_
  refine l_callV X (r := 0) (ci := 8) (q := (RX8, TX8, 14)) [] [] dL_law_1074 co_L_142 ⟨Nat.le_of_ble_eq_true rfl, Nat.le_of_ble_eq_true rfl⟩ gw_721 gw_722 rfl hI.2.1.2.1.1 rfl rfl rfl (Nat.le_of_ble_eq_true rfl) c8 (ls_ok hI2.1) ?_
  refine l_aload X (a := 144) (q := 2) dL_law_1077 rfl rfl ?_
  refine l_callV X (r := 144) (ci := 9) (q := (RX9, TX9, 30)) [] [mi (a_back S)] dL_law_1078 co_L_145 ⟨Nat.le_of_ble_eq_true rfl, Nat.le_of_ble_eq_true rfl⟩ gw_1121 gw_1122 rfl hM.1 rfl rfl rfl (Nat.le_of_ble_eq_true rfl) c9 (ls_ok hI2.1) ?_
  refine l_same X (tgt := 1109) dL_law_1081 (by decide) ?_
  exact kk σ2 K2 (z_back S) hI2 hZ
theorem lc_count (X : LX P D p s m c b L xs) {i : Nat} {σ : List mC} {I : mI} {S : Sx} {B : Int} (hI : LI σ I S) (hS : SxOk B S) (hB : 0 ≤ B ∧ B ≤ 1000000) (hi : i + 5 ≤ L) (hL : L ≤ 2560) (kk : ∀ (σ : List mC) (K : mI) (Z : Sx), LI σ K Z → SxOk (B + 24) Z → LW p l e s m below meth c Q P D b (lvI P b i) 1109 [] (σ, K)) : LW p l e s m below meth c Q P D b (lvI P b i) 1086 [] (σ, I) := by
  have hZ : SxOk (B + 24) (S) := hS.mono (by omega)
  obtain ⟨σ2, K, K2, c8, c9, hM, hI2⟩ := l_pair (A := a_count S (xs (i + 1)).toInt) hI hS hZ (f_count hI.2.1 hS ⟨Int32.le_toInt (xs (i + 1)), Int32.toInt_lt (xs (i + 1))⟩) (fun σ2 K hM => g_count hM hS ⟨Int32.le_toInt (xs (i + 1)), Int32.toInt_lt (xs (i + 1))⟩)
  refine l_aload X (a := 0) (q := 1) dL_law_1086 rfl rfl ?_
  refine l_sub X (i := i) (k := 1) dL_law_1087 dL_law_1088 dL_law_1089 dL_law_1090 dL_law_1091 rfl rfl (by omega) hL ?_
  refine l_callV X (r := 0) (ci := 8) (q := (RX8, TX8, 14)) [mi (xs (i + 1)).toInt] [] dL_law_1092 co_L_146 ⟨Nat.le_of_ble_eq_true rfl, Nat.le_of_ble_eq_true rfl⟩ gw_725 gw_726 rfl hI.2.1.2.1.1 rfl rfl rfl (Nat.le_of_ble_eq_true rfl) c8 (ls_ok hI2.1) ?_
  refine l_aload X (a := 144) (q := 2) dL_law_1095 rfl rfl ?_
  refine l_sub X (i := i) (k := 1) dL_law_1096 dL_law_1097 dL_law_1098 dL_law_1099 dL_law_1100 rfl rfl (by omega) hL ?_
  refine l_callV X (r := 144) (ci := 9) (q := (RX9, TX9, 30)) [mi (xs (i + 1)).toInt] [mi (a_count S (xs (i + 1)).toInt)] dL_law_1101 co_L_149 ⟨Nat.le_of_ble_eq_true rfl, Nat.le_of_ble_eq_true rfl⟩ gw_1125 gw_1126 rfl hM.1 rfl rfl rfl (Nat.le_of_ble_eq_true rfl) c9 (ls_ok hI2.1) ?_
  refine l_same X (tgt := 1109) dL_law_1104 (by decide) ?_
  exact kk σ2 K2 (S) hI2 hZ
end LAWC
