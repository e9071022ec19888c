/-! THE LAW: its cases -/
theorem in_1 {k L : Nat} (h : k + 6 ≤ L) (hL : L ≤ 3072) : vp_in (nI k + 1) L := by rw [show nI k + 1 = nI (k + 1) from nI_add k 1]; exact vp_in_nI (by omega) (by omega)
theorem in_2 {k L : Nat} (h : k + 6 ≤ L) (hL : L ≤ 3072) : vp_in (nI k + 2) L := by rw [show nI k + 2 = nI (k + 2) from nI_add k 2]; exact vp_in_nI (by omega) (by omega)
theorem in_3 {k L : Nat} (h : k + 6 ≤ L) (hL : L ≤ 3072) : vp_in (nI k + 3) L := by rw [show nI k + 3 = nI (k + 3) from nI_add k 3]; exact vp_in_nI (by omega) (by omega)
theorem in_4 {k L : Nat} (h : k + 6 ≤ L) (hL : L ≤ 3072) : vp_in (nI k + 4) L := by rw [show nI k + 4 = nI (k + 4) from nI_add k 4]; exact vp_in_nI (by omega) (by omega)
theorem in_5 {k L : Nat} (h : k + 6 ≤ L) (hL : L ≤ 3072) : vp_in (nI k + 5) L := by rw [show nI k + 5 = nI (k + 5) from nI_add k 5]; exact vp_in_nI (by omega) (by omega)
/-- what the law's loop stands on -/
def LC (X : TX) (p : Program) (s : State) (mi : MethodId) (c : Code) (b L : Nat) (xs : Nat → Int32) : Prop := Cx X p s mi #[Value.ref b] c RL code 4 ∧ va_X b L xs s s.heap ∧ b < s.heap.size ∧ ¬ ar X b
/-- where a case ends -/
def CE (X : TX) (p : Program) (l : Launch) (e : Env) (s : State) (mi : MethodId) (below : List Frame) (meth : Method) (c : Code) (b i : Nat) (cells slots : Nat) (Q : State → Prop) : Prop := ∀ (m : Mem) (H : Heap) (locs : List Loc) (ls : Array Slot), Inv m → Wd X s m H locs → lv_has ls 4 [(0, .ref b), (1, .ref (ad X 0 0)), (2, .ref (ad X 20 0)), (3, .int (nI i))] → W p l e room_1 s mi #[Value.ref b] below meth c H locs cells slots Q (F0 mi 1492 ls [])
section LAW
variable {p : Program} {l : Launch} {e : Env} {s : State} {mi : MethodId} {below : List Frame} {meth : Method} {c : Code} {X : TX} {b L i : Nat} {xs : Nat → Int32} {cells slots : Nat} {Q : State → Prop} {m : Mem} {H : Heap} {locs : List Loc} {ls : Array Slot}
theorem lw_0 (K : LC X p s mi c b L xs) (hL : L ≤ 3072) (hi : i + 6 ≤ L) (hcs : cells ≤ room_1.cells ∧ slots ≤ room_1.slots) (kk : CE X p l e s mi below meth c b i cells slots Q) (hI : Inv m) (hW : Wd X s m H locs) (hl : lv_has ls 4 [(0, .ref b), (1, .ref (ad X 0 0)), (2, .ref (ad X 20 0)), (3, .int (nI i))]) : W p l e room_1 s mi #[Value.ref b] below meth c H locs cells slots Q (F0 mi 216 ls []) := by
  obtain ⟨C, hX, hbl, hbA⟩ := K
  obtain ⟨r, m1, m2, e1, e2, hI2⟩ := op_voice (fu := 2000) (x1 := (xs (nI i + 1).toNatClampNeg)) (x2 := (xs (nI i + 2).toNatClampNeg)) (x3 := (xs (nI i + 3).toNatClampNeg)) (by decide)  hI
  refine lv_aload_n C.1 C.2.1 dL_216 rfl (lv_at hl 1 rfl) ?_
  refine lv_aload_n C.1 C.2.1 dL_217 rfl (lv_at hl 0 rfl) ?_
  refine lv_iload_n C.1 C.2.1 dL_218 rfl (lv_at hl 3 rfl) ?_
  refine lv_iconst (v := 1) C.1 C.2.1 dL_219 rfl ?_
  refine lv_iadd C.1 C.2.1 dL_220 ?_
  refine va_sld C.1 C.2.1 hX hbl hbA hW.2 (in_1 hi hL) dL_221 ?_
  refine lv_aload_n C.1 C.2.1 dL_222 rfl (lv_at hl 0 rfl) ?_
  refine lv_iload_n C.1 C.2.1 dL_223 rfl (lv_at hl 3 rfl) ?_
  refine lv_iconst (v := 2) C.1 C.2.1 dL_224 rfl ?_
  refine lv_iadd C.1 C.2.1 dL_225 ?_
  refine va_sld C.1 C.2.1 hX hbl hbA hW.2 (in_2 hi hL) dL_226 ?_
  refine lv_aload_n C.1 C.2.1 dL_227 rfl (lv_at hl 0 rfl) ?_
  refine lv_iload_n C.1 C.2.1 dL_228 rfl (lv_at hl 3 rfl) ?_
  refine lv_iconst (v := 3) C.1 C.2.1 dL_229 rfl ?_
  refine lv_iadd C.1 C.2.1 dL_230 ?_
  refine va_sld C.1 C.2.1 hX hbl hbA hW.2 (in_3 hi hL) dL_231 ?_
  refine zr_cVI C hW (c_X8_voice (X := X) (l := l) e1) k_X8_voice (zr_recv C hW id_0 zco_0 rfl) w_394 ⟨Nat.le_of_ble_eq_true rfl, Nat.le_of_ble_eq_true rfl⟩ hcs rfl hl.1 (rest := []) rfl (Nat.le_of_ble_eq_true rfl) dL_232 (fun H locs hW => ?_)
  refine lv_aload_n C.1 C.2.1 dL_235 rfl (lv_at hl 2 rfl) ?_
  refine lv_aload_n C.1 C.2.1 dL_236 rfl (lv_at hl 0 rfl) ?_
  refine lv_iload_n C.1 C.2.1 dL_237 rfl (lv_at hl 3 rfl) ?_
  refine lv_iconst (v := 1) C.1 C.2.1 dL_238 rfl ?_
  refine lv_iadd C.1 C.2.1 dL_239 ?_
  refine va_sld C.1 C.2.1 hX hbl hbA hW.2 (in_1 hi hL) dL_240 ?_
  refine lv_aload_n C.1 C.2.1 dL_241 rfl (lv_at hl 0 rfl) ?_
  refine lv_iload_n C.1 C.2.1 dL_242 rfl (lv_at hl 3 rfl) ?_
  refine lv_iconst (v := 2) C.1 C.2.1 dL_243 rfl ?_
  refine lv_iadd C.1 C.2.1 dL_244 ?_
  refine va_sld C.1 C.2.1 hX hbl hbA hW.2 (in_2 hi hL) dL_245 ?_
  refine lv_aload_n C.1 C.2.1 dL_246 rfl (lv_at hl 0 rfl) ?_
  refine lv_iload_n C.1 C.2.1 dL_247 rfl (lv_at hl 3 rfl) ?_
  refine lv_iconst (v := 3) C.1 C.2.1 dL_248 rfl ?_
  refine lv_iadd C.1 C.2.1 dL_249 ?_
  refine va_sld C.1 C.2.1 hX hbl hbA hW.2 (in_3 hi hL) dL_250 ?_
  refine zr_cVI C hW (c_X9_voice (X := X) (l := l) e2) k_X9_voice (zr_recv C hW id_20 zco_20 rfl) w_1113 ⟨Nat.le_of_ble_eq_true rfl, Nat.le_of_ble_eq_true rfl⟩ hcs rfl hl.1 (rest := [.int r]) rfl (Nat.le_of_ble_eq_true rfl) dL_251 (fun H locs hW => ?_)
  refine lv_icmp_eq (tgt := 1492) C.1 C.2.1 dL_254 (by decide) (fun _ => ?_) (fun hc => absurd rfl hc)
  exact kk m2 H locs ls hI2 hW hl
theorem lw_1 (K : LC X p s mi c b L xs) (hL : L ≤ 3072) (hi : i + 6 ≤ L) (hcs : cells ≤ room_1.cells ∧ slots ≤ room_1.slots) (kk : CE X p l e s mi below meth c b i cells slots Q) (hI : Inv m) (hW : Wd X s m H locs) (hl : lv_has ls 4 [(0, .ref b), (1, .ref (ad X 0 0)), (2, .ref (ad X 20 0)), (3, .int (nI i))]) : W p l e room_1 s mi #[Value.ref b] below meth c H locs cells slots Q (F0 mi 259 ls []) := by
  obtain ⟨C, hX, hbl, hbA⟩ := K
  obtain ⟨r, m1, m2, e1, e2, hI2⟩ := op_told (fu := 2000) (x1 := (xs (nI i + 1).toNatClampNeg)) (x2 := (xs (nI i + 2).toNatClampNeg)) (by decide)  hI
  refine lv_aload_n C.1 C.2.1 dL_259 rfl (lv_at hl 1 rfl) ?_
  refine lv_aload_n C.1 C.2.1 dL_260 rfl (lv_at hl 0 rfl) ?_
  refine lv_iload_n C.1 C.2.1 dL_261 rfl (lv_at hl 3 rfl) ?_
  refine lv_iconst (v := 1) C.1 C.2.1 dL_262 rfl ?_
  refine lv_iadd C.1 C.2.1 dL_263 ?_
  refine va_sld C.1 C.2.1 hX hbl hbA hW.2 (in_1 hi hL) dL_264 ?_
  refine lv_aload_n C.1 C.2.1 dL_265 rfl (lv_at hl 0 rfl) ?_
  refine lv_iload_n C.1 C.2.1 dL_266 rfl (lv_at hl 3 rfl) ?_
  refine lv_iconst (v := 2) C.1 C.2.1 dL_267 rfl ?_
  refine lv_iadd C.1 C.2.1 dL_268 ?_
  refine va_sld C.1 C.2.1 hX hbl hbA hW.2 (in_2 hi hL) dL_269 ?_
  refine zr_cVI C hW (c_X8_told (X := X) (l := l) e1) k_X8_told (zr_recv C hW id_0 zco_0 rfl) w_418 ⟨Nat.le_of_ble_eq_true rfl, Nat.le_of_ble_eq_true rfl⟩ hcs rfl hl.1 (rest := []) rfl (Nat.le_of_ble_eq_true rfl) dL_270 (fun H locs hW => ?_)
  refine lv_aload_n C.1 C.2.1 dL_273 rfl (lv_at hl 2 rfl) ?_
  refine lv_aload_n C.1 C.2.1 dL_274 rfl (lv_at hl 0 rfl) ?_
  refine lv_iload_n C.1 C.2.1 dL_275 rfl (lv_at hl 3 rfl) ?_
  refine lv_iconst (v := 1) C.1 C.2.1 dL_276 rfl ?_
  refine lv_iadd C.1 C.2.1 dL_277 ?_
  refine va_sld C.1 C.2.1 hX hbl hbA hW.2 (in_1 hi hL) dL_278 ?_
  refine lv_aload_n C.1 C.2.1 dL_279 rfl (lv_at hl 0 rfl) ?_
  refine lv_iload_n C.1 C.2.1 dL_280 rfl (lv_at hl 3 rfl) ?_
  refine lv_iconst (v := 2) C.1 C.2.1 dL_281 rfl ?_
  refine lv_iadd C.1 C.2.1 dL_282 ?_
  refine va_sld C.1 C.2.1 hX hbl hbA hW.2 (in_2 hi hL) dL_283 ?_
  refine zr_cVI C hW (c_X9_told (X := X) (l := l) e2) k_X9_told (zr_recv C hW id_20 zco_20 rfl) w_1133 ⟨Nat.le_of_ble_eq_true rfl, Nat.le_of_ble_eq_true rfl⟩ hcs rfl hl.1 (rest := [.int r]) rfl (Nat.le_of_ble_eq_true rfl) dL_284 (fun H locs hW => ?_)
  refine lv_icmp_eq (tgt := 1492) C.1 C.2.1 dL_287 (by decide) (fun _ => ?_) (fun hc => absurd rfl hc)
  exact kk m2 H locs ls hI2 hW hl
theorem lw_2 (K : LC X p s mi c b L xs) (hL : L ≤ 3072) (hi : i + 6 ≤ L) (hcs : cells ≤ room_1.cells ∧ slots ≤ room_1.slots) (kk : CE X p l e s mi below meth c b i cells slots Q) (hI : Inv m) (hW : Wd X s m H locs) (hl : lv_has ls 4 [(0, .ref b), (1, .ref (ad X 0 0)), (2, .ref (ad X 20 0)), (3, .int (nI i))]) : W p l e room_1 s mi #[Value.ref b] below meth c H locs cells slots Q (F0 mi 292 ls []) := by
  obtain ⟨C, hX, hbl, hbA⟩ := K
  obtain ⟨r, m1, m2, e1, e2, hI2⟩ := op_as (fu := 2000) (x1 := (xs (nI i + 1).toNatClampNeg)) (x2 := (xs (nI i + 2).toNatClampNeg)) (by decide)  hI
  refine lv_aload_n C.1 C.2.1 dL_292 rfl (lv_at hl 1 rfl) ?_
  refine lv_aload_n C.1 C.2.1 dL_293 rfl (lv_at hl 0 rfl) ?_
  refine lv_iload_n C.1 C.2.1 dL_294 rfl (lv_at hl 3 rfl) ?_
  refine lv_iconst (v := 1) C.1 C.2.1 dL_295 rfl ?_
  refine lv_iadd C.1 C.2.1 dL_296 ?_
  refine va_sld C.1 C.2.1 hX hbl hbA hW.2 (in_1 hi hL) dL_297 ?_
  refine lv_aload_n C.1 C.2.1 dL_298 rfl (lv_at hl 0 rfl) ?_
  refine lv_iload_n C.1 C.2.1 dL_299 rfl (lv_at hl 3 rfl) ?_
  refine lv_iconst (v := 2) C.1 C.2.1 dL_300 rfl ?_
  refine lv_iadd C.1 C.2.1 dL_301 ?_
  refine va_sld C.1 C.2.1 hX hbl hbA hW.2 (in_2 hi hL) dL_302 ?_
  refine zr_cVI C hW (c_X8_as (X := X) (l := l) e1) k_X8_as (zr_recv C hW id_0 zco_0 rfl) w_445 ⟨Nat.le_of_ble_eq_true rfl, Nat.le_of_ble_eq_true rfl⟩ hcs rfl hl.1 (rest := []) rfl (Nat.le_of_ble_eq_true rfl) dL_303 (fun H locs hW => ?_)
  refine lv_aload_n C.1 C.2.1 dL_306 rfl (lv_at hl 2 rfl) ?_
  refine lv_aload_n C.1 C.2.1 dL_307 rfl (lv_at hl 0 rfl) ?_
  refine lv_iload_n C.1 C.2.1 dL_308 rfl (lv_at hl 3 rfl) ?_
  refine lv_iconst (v := 1) C.1 C.2.1 dL_309 rfl ?_
  refine lv_iadd C.1 C.2.1 dL_310 ?_
  refine va_sld C.1 C.2.1 hX hbl hbA hW.2 (in_1 hi hL) dL_311 ?_
  refine lv_aload_n C.1 C.2.1 dL_312 rfl (lv_at hl 0 rfl) ?_
  refine lv_iload_n C.1 C.2.1 dL_313 rfl (lv_at hl 3 rfl) ?_
  refine lv_iconst (v := 2) C.1 C.2.1 dL_314 rfl ?_
  refine lv_iadd C.1 C.2.1 dL_315 ?_
  refine va_sld C.1 C.2.1 hX hbl hbA hW.2 (in_2 hi hL) dL_316 ?_
  refine zr_cVI C hW (c_X9_as (X := X) (l := l) e2) k_X9_as (zr_recv C hW id_20 zco_20 rfl) w_1161 ⟨Nat.le_of_ble_eq_true rfl, Nat.le_of_ble_eq_true rfl⟩ hcs rfl hl.1 (rest := [.int r]) rfl (Nat.le_of_ble_eq_true rfl) dL_317 (fun H locs hW => ?_)
  refine lv_icmp_eq (tgt := 1492) C.1 C.2.1 dL_320 (by decide) (fun _ => ?_) (fun hc => absurd rfl hc)
  exact kk m2 H locs ls hI2 hW hl
theorem lw_3 (K : LC X p s mi c b L xs) (hL : L ≤ 3072) (hi : i + 6 ≤ L) (hcs : cells ≤ room_1.cells ∧ slots ≤ room_1.slots) (kk : CE X p l e s mi below meth c b i cells slots Q) (hI : Inv m) (hW : Wd X s m H locs) (hl : lv_has ls 4 [(0, .ref b), (1, .ref (ad X 0 0)), (2, .ref (ad X 20 0)), (3, .int (nI i))]) : W p l e room_1 s mi #[Value.ref b] below meth c H locs cells slots Q (F0 mi 325 ls []) := by
  obtain ⟨C, hX, hbl, hbA⟩ := K
  obtain ⟨r, m1, m2, e1, e2, hI2⟩ := op_turns (fu := 2000) (x1 := (xs (nI i + 1).toNatClampNeg)) (x2 := (xs (nI i + 2).toNatClampNeg)) (by decide)  hI
  refine lv_aload_n C.1 C.2.1 dL_325 rfl (lv_at hl 1 rfl) ?_
  refine lv_aload_n C.1 C.2.1 dL_326 rfl (lv_at hl 0 rfl) ?_
  refine lv_iload_n C.1 C.2.1 dL_327 rfl (lv_at hl 3 rfl) ?_
  refine lv_iconst (v := 1) C.1 C.2.1 dL_328 rfl ?_
  refine lv_iadd C.1 C.2.1 dL_329 ?_
  refine va_sld C.1 C.2.1 hX hbl hbA hW.2 (in_1 hi hL) dL_330 ?_
  refine lv_aload_n C.1 C.2.1 dL_331 rfl (lv_at hl 0 rfl) ?_
  refine lv_iload_n C.1 C.2.1 dL_332 rfl (lv_at hl 3 rfl) ?_
  refine lv_iconst (v := 2) C.1 C.2.1 dL_333 rfl ?_
  refine lv_iadd C.1 C.2.1 dL_334 ?_
  refine va_sld C.1 C.2.1 hX hbl hbA hW.2 (in_2 hi hL) dL_335 ?_
  refine zr_cVI C hW (c_X8_turns (X := X) (l := l) e1) k_X8_turns (zr_recv C hW id_0 zco_0 rfl) w_458 ⟨Nat.le_of_ble_eq_true rfl, Nat.le_of_ble_eq_true rfl⟩ hcs rfl hl.1 (rest := []) rfl (Nat.le_of_ble_eq_true rfl) dL_336 (fun H locs hW => ?_)
  refine lv_aload_n C.1 C.2.1 dL_339 rfl (lv_at hl 2 rfl) ?_
  refine lv_aload_n C.1 C.2.1 dL_340 rfl (lv_at hl 0 rfl) ?_
  refine lv_iload_n C.1 C.2.1 dL_341 rfl (lv_at hl 3 rfl) ?_
  refine lv_iconst (v := 1) C.1 C.2.1 dL_342 rfl ?_
  refine lv_iadd C.1 C.2.1 dL_343 ?_
  refine va_sld C.1 C.2.1 hX hbl hbA hW.2 (in_1 hi hL) dL_344 ?_
  refine lv_aload_n C.1 C.2.1 dL_345 rfl (lv_at hl 0 rfl) ?_
  refine lv_iload_n C.1 C.2.1 dL_346 rfl (lv_at hl 3 rfl) ?_
  refine lv_iconst (v := 2) C.1 C.2.1 dL_347 rfl ?_
  refine lv_iadd C.1 C.2.1 dL_348 ?_
  refine va_sld C.1 C.2.1 hX hbl hbA hW.2 (in_2 hi hL) dL_349 ?_
  refine zr_cVI C hW (c_X9_turns (X := X) (l := l) e2) k_X9_turns (zr_recv C hW id_20 zco_20 rfl) w_1169 ⟨Nat.le_of_ble_eq_true rfl, Nat.le_of_ble_eq_true rfl⟩ hcs rfl hl.1 (rest := [.int r]) rfl (Nat.le_of_ble_eq_true rfl) dL_350 (fun H locs hW => ?_)
  refine lv_icmp_eq (tgt := 1492) C.1 C.2.1 dL_353 (by decide) (fun _ => ?_) (fun hc => absurd rfl hc)
  exact kk m2 H locs ls hI2 hW hl
theorem lw_4 (K : LC X p s mi c b L xs) (hL : L ≤ 3072) (hi : i + 6 ≤ L) (hcs : cells ≤ room_1.cells ∧ slots ≤ room_1.slots) (kk : CE X p l e s mi below meth c b i cells slots Q) (hI : Inv m) (hW : Wd X s m H locs) (hl : lv_has ls 4 [(0, .ref b), (1, .ref (ad X 0 0)), (2, .ref (ad X 20 0)), (3, .int (nI i))]) : W p l e room_1 s mi #[Value.ref b] below meth c H locs cells slots Q (F0 mi 358 ls []) := by
  obtain ⟨C, hX, hbl, hbA⟩ := K
  obtain ⟨r, m1, m2, e1, e2, hI2⟩ := op_set (fu := 2000) (x1 := (xs (nI i + 1).toNatClampNeg)) (x2 := (xs (nI i + 2).toNatClampNeg)) (x3 := (xs (nI i + 3).toNatClampNeg)) (by decide)  hI
  refine lv_aload_n C.1 C.2.1 dL_358 rfl (lv_at hl 1 rfl) ?_
  refine lv_aload_n C.1 C.2.1 dL_359 rfl (lv_at hl 0 rfl) ?_
  refine lv_iload_n C.1 C.2.1 dL_360 rfl (lv_at hl 3 rfl) ?_
  refine lv_iconst (v := 1) C.1 C.2.1 dL_361 rfl ?_
  refine lv_iadd C.1 C.2.1 dL_362 ?_
  refine va_sld C.1 C.2.1 hX hbl hbA hW.2 (in_1 hi hL) dL_363 ?_
  refine lv_aload_n C.1 C.2.1 dL_364 rfl (lv_at hl 0 rfl) ?_
  refine lv_iload_n C.1 C.2.1 dL_365 rfl (lv_at hl 3 rfl) ?_
  refine lv_iconst (v := 2) C.1 C.2.1 dL_366 rfl ?_
  refine lv_iadd C.1 C.2.1 dL_367 ?_
  refine va_sld C.1 C.2.1 hX hbl hbA hW.2 (in_2 hi hL) dL_368 ?_
  refine lv_aload_n C.1 C.2.1 dL_369 rfl (lv_at hl 0 rfl) ?_
  refine lv_iload_n C.1 C.2.1 dL_370 rfl (lv_at hl 3 rfl) ?_
  refine lv_iconst (v := 3) C.1 C.2.1 dL_371 rfl ?_
  refine lv_iadd C.1 C.2.1 dL_372 ?_
  refine va_sld C.1 C.2.1 hX hbl hbA hW.2 (in_3 hi hL) dL_373 ?_
  refine zr_cVI C hW (c_X8_set (X := X) (l := l) e1) k_X8_set (zr_recv C hW id_0 zco_0 rfl) w_462 ⟨Nat.le_of_ble_eq_true rfl, Nat.le_of_ble_eq_true rfl⟩ hcs rfl hl.1 (rest := []) rfl (Nat.le_of_ble_eq_true rfl) dL_374 (fun H locs hW => ?_)
  refine lv_aload_n C.1 C.2.1 dL_377 rfl (lv_at hl 2 rfl) ?_
  refine lv_aload_n C.1 C.2.1 dL_378 rfl (lv_at hl 0 rfl) ?_
  refine lv_iload_n C.1 C.2.1 dL_379 rfl (lv_at hl 3 rfl) ?_
  refine lv_iconst (v := 1) C.1 C.2.1 dL_380 rfl ?_
  refine lv_iadd C.1 C.2.1 dL_381 ?_
  refine va_sld C.1 C.2.1 hX hbl hbA hW.2 (in_1 hi hL) dL_382 ?_
  refine lv_aload_n C.1 C.2.1 dL_383 rfl (lv_at hl 0 rfl) ?_
  refine lv_iload_n C.1 C.2.1 dL_384 rfl (lv_at hl 3 rfl) ?_
  refine lv_iconst (v := 2) C.1 C.2.1 dL_385 rfl ?_
  refine lv_iadd C.1 C.2.1 dL_386 ?_
  refine va_sld C.1 C.2.1 hX hbl hbA hW.2 (in_2 hi hL) dL_387 ?_
  refine lv_aload_n C.1 C.2.1 dL_388 rfl (lv_at hl 0 rfl) ?_
  refine lv_iload_n C.1 C.2.1 dL_389 rfl (lv_at hl 3 rfl) ?_
  refine lv_iconst (v := 3) C.1 C.2.1 dL_390 rfl ?_
  refine lv_iadd C.1 C.2.1 dL_391 ?_
  refine va_sld C.1 C.2.1 hX hbl hbA hW.2 (in_3 hi hL) dL_392 ?_
  refine zr_cVI C hW (c_X9_set (X := X) (l := l) e2) k_X9_set (zr_recv C hW id_20 zco_20 rfl) w_1177 ⟨Nat.le_of_ble_eq_true rfl, Nat.le_of_ble_eq_true rfl⟩ hcs rfl hl.1 (rest := [.int r]) rfl (Nat.le_of_ble_eq_true rfl) dL_393 (fun H locs hW => ?_)
  refine lv_icmp_eq (tgt := 1492) C.1 C.2.1 dL_396 (by decide) (fun _ => ?_) (fun hc => absurd rfl hc)
  exact kk m2 H locs ls hI2 hW hl
theorem lw_5 (K : LC X p s mi c b L xs) (hL : L ≤ 3072) (hi : i + 6 ≤ L) (hcs : cells ≤ room_1.cells ∧ slots ≤ room_1.slots) (kk : CE X p l e s mi below meth c b i cells slots Q) (hI : Inv m) (hW : Wd X s m H locs) (hl : lv_has ls 4 [(0, .ref b), (1, .ref (ad X 0 0)), (2, .ref (ad X 20 0)), (3, .int (nI i))]) : W p l e room_1 s mi #[Value.ref b] below meth c H locs cells slots Q (F0 mi 401 ls []) := by
  obtain ⟨C, hX, hbl, hbA⟩ := K
  obtain ⟨r, m1, m2, e1, e2, hI2⟩ := op_speak (fu := 2000) (x1 := (xs (nI i + 1).toNatClampNeg)) (x2 := (xs (nI i + 2).toNatClampNeg)) (by decide)  hI
  refine lv_aload_n C.1 C.2.1 dL_401 rfl (lv_at hl 1 rfl) ?_
  refine lv_aload_n C.1 C.2.1 dL_402 rfl (lv_at hl 0 rfl) ?_
  refine lv_iload_n C.1 C.2.1 dL_403 rfl (lv_at hl 3 rfl) ?_
  refine lv_iconst (v := 1) C.1 C.2.1 dL_404 rfl ?_
  refine lv_iadd C.1 C.2.1 dL_405 ?_
  refine va_sld C.1 C.2.1 hX hbl hbA hW.2 (in_1 hi hL) dL_406 ?_
  refine lv_aload_n C.1 C.2.1 dL_407 rfl (lv_at hl 0 rfl) ?_
  refine lv_iload_n C.1 C.2.1 dL_408 rfl (lv_at hl 3 rfl) ?_
  refine lv_iconst (v := 2) C.1 C.2.1 dL_409 rfl ?_
  refine lv_iadd C.1 C.2.1 dL_410 ?_
  refine va_sld C.1 C.2.1 hX hbl hbA hW.2 (in_2 hi hL) dL_411 ?_
  refine zr_cVI C hW (c_X8_speak (X := X) (l := l) e1) k_X8_speak (zr_recv C hW id_0 zco_0 rfl) w_470 ⟨Nat.le_of_ble_eq_true rfl, Nat.le_of_ble_eq_true rfl⟩ hcs rfl hl.1 (rest := []) rfl (Nat.le_of_ble_eq_true rfl) dL_412 (fun H locs hW => ?_)
  refine lv_aload_n C.1 C.2.1 dL_415 rfl (lv_at hl 2 rfl) ?_
  refine lv_aload_n C.1 C.2.1 dL_416 rfl (lv_at hl 0 rfl) ?_
  refine lv_iload_n C.1 C.2.1 dL_417 rfl (lv_at hl 3 rfl) ?_
  refine lv_iconst (v := 1) C.1 C.2.1 dL_418 rfl ?_
  refine lv_iadd C.1 C.2.1 dL_419 ?_
  refine va_sld C.1 C.2.1 hX hbl hbA hW.2 (in_1 hi hL) dL_420 ?_
  refine lv_aload_n C.1 C.2.1 dL_421 rfl (lv_at hl 0 rfl) ?_
  refine lv_iload_n C.1 C.2.1 dL_422 rfl (lv_at hl 3 rfl) ?_
  refine lv_iconst (v := 2) C.1 C.2.1 dL_423 rfl ?_
  refine lv_iadd C.1 C.2.1 dL_424 ?_
  refine va_sld C.1 C.2.1 hX hbl hbA hW.2 (in_2 hi hL) dL_425 ?_
  refine zr_cVI C hW (c_X9_speak (X := X) (l := l) e2) k_X9_speak (zr_recv C hW id_20 zco_20 rfl) w_1181 ⟨Nat.le_of_ble_eq_true rfl, Nat.le_of_ble_eq_true rfl⟩ hcs rfl hl.1 (rest := [.int r]) rfl (Nat.le_of_ble_eq_true rfl) dL_426 (fun H locs hW => ?_)
  refine lv_icmp_eq (tgt := 1492) C.1 C.2.1 dL_429 (by decide) (fun _ => ?_) (fun hc => absurd rfl hc)
  exact kk m2 H locs ls hI2 hW hl
theorem lw_6 (K : LC X p s mi c b L xs) (hL : L ≤ 3072) (hi : i + 6 ≤ L) (hcs : cells ≤ room_1.cells ∧ slots ≤ room_1.slots) (kk : CE X p l e s mi below meth c b i cells slots Q) (hI : Inv m) (hW : Wd X s m H locs) (hl : lv_has ls 4 [(0, .ref b), (1, .ref (ad X 0 0)), (2, .ref (ad X 20 0)), (3, .int (nI i))]) : W p l e room_1 s mi #[Value.ref b] below meth c H locs cells slots Q (F0 mi 434 ls []) := by
  obtain ⟨C, hX, hbl, hbA⟩ := K
  obtain ⟨r, m1, m2, e1, e2, hI2⟩ := op_hush (fu := 2000) (x1 := (xs (nI i + 1).toNatClampNeg)) (by decide)  hI
  refine lv_aload_n C.1 C.2.1 dL_434 rfl (lv_at hl 1 rfl) ?_
  refine lv_aload_n C.1 C.2.1 dL_435 rfl (lv_at hl 0 rfl) ?_
  refine lv_iload_n C.1 C.2.1 dL_436 rfl (lv_at hl 3 rfl) ?_
  refine lv_iconst (v := 1) C.1 C.2.1 dL_437 rfl ?_
  refine lv_iadd C.1 C.2.1 dL_438 ?_
  refine va_sld C.1 C.2.1 hX hbl hbA hW.2 (in_1 hi hL) dL_439 ?_
  refine zr_cVI C hW (c_X8_hush (X := X) (l := l) e1) k_X8_hush (zr_recv C hW id_0 zco_0 rfl) w_474 ⟨Nat.le_of_ble_eq_true rfl, Nat.le_of_ble_eq_true rfl⟩ hcs rfl hl.1 (rest := []) rfl (Nat.le_of_ble_eq_true rfl) dL_440 (fun H locs hW => ?_)
  refine lv_aload_n C.1 C.2.1 dL_443 rfl (lv_at hl 2 rfl) ?_
  refine lv_aload_n C.1 C.2.1 dL_444 rfl (lv_at hl 0 rfl) ?_
  refine lv_iload_n C.1 C.2.1 dL_445 rfl (lv_at hl 3 rfl) ?_
  refine lv_iconst (v := 1) C.1 C.2.1 dL_446 rfl ?_
  refine lv_iadd C.1 C.2.1 dL_447 ?_
  refine va_sld C.1 C.2.1 hX hbl hbA hW.2 (in_1 hi hL) dL_448 ?_
  refine zr_cVI C hW (c_X9_hush (X := X) (l := l) e2) k_X9_hush (zr_recv C hW id_20 zco_20 rfl) w_1185 ⟨Nat.le_of_ble_eq_true rfl, Nat.le_of_ble_eq_true rfl⟩ hcs rfl hl.1 (rest := [.int r]) rfl (Nat.le_of_ble_eq_true rfl) dL_449 (fun H locs hW => ?_)
  refine lv_icmp_eq (tgt := 1492) C.1 C.2.1 dL_452 (by decide) (fun _ => ?_) (fun hc => absurd rfl hc)
  exact kk m2 H locs ls hI2 hW hl
theorem lw_7 (K : LC X p s mi c b L xs) (hL : L ≤ 3072) (hi : i + 6 ≤ L) (hcs : cells ≤ room_1.cells ∧ slots ≤ room_1.slots) (kk : CE X p l e s mi below meth c b i cells slots Q) (hI : Inv m) (hW : Wd X s m H locs) (hl : lv_has ls 4 [(0, .ref b), (1, .ref (ad X 0 0)), (2, .ref (ad X 20 0)), (3, .int (nI i))]) : W p l e room_1 s mi #[Value.ref b] below meth c H locs cells slots Q (F0 mi 457 ls []) := by
  obtain ⟨C, hX, hbl, hbA⟩ := K
  obtain ⟨r, m1, m2, e1, e2, hI2⟩ := op_air (fu := 2000) (x1 := (xs (nI i + 1).toNatClampNeg)) (x2 := (xs (nI i + 2).toNatClampNeg)) (by decide)  hI
  refine lv_aload_n C.1 C.2.1 dL_457 rfl (lv_at hl 1 rfl) ?_
  refine lv_aload_n C.1 C.2.1 dL_458 rfl (lv_at hl 0 rfl) ?_
  refine lv_iload_n C.1 C.2.1 dL_459 rfl (lv_at hl 3 rfl) ?_
  refine lv_iconst (v := 1) C.1 C.2.1 dL_460 rfl ?_
  refine lv_iadd C.1 C.2.1 dL_461 ?_
  refine va_sld C.1 C.2.1 hX hbl hbA hW.2 (in_1 hi hL) dL_462 ?_
  refine lv_aload_n C.1 C.2.1 dL_463 rfl (lv_at hl 0 rfl) ?_
  refine lv_iload_n C.1 C.2.1 dL_464 rfl (lv_at hl 3 rfl) ?_
  refine lv_iconst (v := 2) C.1 C.2.1 dL_465 rfl ?_
  refine lv_iadd C.1 C.2.1 dL_466 ?_
  refine va_sld C.1 C.2.1 hX hbl hbA hW.2 (in_2 hi hL) dL_467 ?_
  refine zr_cVI C hW (c_X8_air (X := X) (l := l) e1) k_X8_air (zr_recv C hW id_0 zco_0 rfl) w_478 ⟨Nat.le_of_ble_eq_true rfl, Nat.le_of_ble_eq_true rfl⟩ hcs rfl hl.1 (rest := []) rfl (Nat.le_of_ble_eq_true rfl) dL_468 (fun H locs hW => ?_)
  refine lv_aload_n C.1 C.2.1 dL_471 rfl (lv_at hl 2 rfl) ?_
  refine lv_aload_n C.1 C.2.1 dL_472 rfl (lv_at hl 0 rfl) ?_
  refine lv_iload_n C.1 C.2.1 dL_473 rfl (lv_at hl 3 rfl) ?_
  refine lv_iconst (v := 1) C.1 C.2.1 dL_474 rfl ?_
  refine lv_iadd C.1 C.2.1 dL_475 ?_
  refine va_sld C.1 C.2.1 hX hbl hbA hW.2 (in_1 hi hL) dL_476 ?_
  refine lv_aload_n C.1 C.2.1 dL_477 rfl (lv_at hl 0 rfl) ?_
  refine lv_iload_n C.1 C.2.1 dL_478 rfl (lv_at hl 3 rfl) ?_
  refine lv_iconst (v := 2) C.1 C.2.1 dL_479 rfl ?_
  refine lv_iadd C.1 C.2.1 dL_480 ?_
  refine va_sld C.1 C.2.1 hX hbl hbA hW.2 (in_2 hi hL) dL_481 ?_
  refine zr_cVI C hW (c_X9_air (X := X) (l := l) e2) k_X9_air (zr_recv C hW id_20 zco_20 rfl) w_1189 ⟨Nat.le_of_ble_eq_true rfl, Nat.le_of_ble_eq_true rfl⟩ hcs rfl hl.1 (rest := [.int r]) rfl (Nat.le_of_ble_eq_true rfl) dL_482 (fun H locs hW => ?_)
  refine lv_icmp_eq (tgt := 1492) C.1 C.2.1 dL_485 (by decide) (fun _ => ?_) (fun hc => absurd rfl hc)
  exact kk m2 H locs ls hI2 hW hl
theorem lw_8 (K : LC X p s mi c b L xs) (hL : L ≤ 3072) (hi : i + 6 ≤ L) (hcs : cells ≤ room_1.cells ∧ slots ≤ room_1.slots) (kk : CE X p l e s mi below meth c b i cells slots Q) (hI : Inv m) (hW : Wd X s m H locs) (hl : lv_has ls 4 [(0, .ref b), (1, .ref (ad X 0 0)), (2, .ref (ad X 20 0)), (3, .int (nI i))]) : W p l e room_1 s mi #[Value.ref b] below meth c H locs cells slots Q (F0 mi 490 ls []) := by
  obtain ⟨C, hX, hbl, hbA⟩ := K
  obtain ⟨r, m1, m2, e1, e2, hI2⟩ := op_deal (fu := 2000) (x1 := (xs (nI i + 1).toNatClampNeg)) (by decide)  hI
  refine lv_aload_n C.1 C.2.1 dL_490 rfl (lv_at hl 1 rfl) ?_
  refine lv_aload_n C.1 C.2.1 dL_491 rfl (lv_at hl 0 rfl) ?_
  refine lv_iload_n C.1 C.2.1 dL_492 rfl (lv_at hl 3 rfl) ?_
  refine lv_iconst (v := 1) C.1 C.2.1 dL_493 rfl ?_
  refine lv_iadd C.1 C.2.1 dL_494 ?_
  refine va_sld C.1 C.2.1 hX hbl hbA hW.2 (in_1 hi hL) dL_495 ?_
  refine zr_cVI C hW (c_X8_deal (X := X) (l := l) e1) k_X8_deal (zr_recv C hW id_0 zco_0 rfl) w_490 ⟨Nat.le_of_ble_eq_true rfl, Nat.le_of_ble_eq_true rfl⟩ hcs rfl hl.1 (rest := []) rfl (Nat.le_of_ble_eq_true rfl) dL_496 (fun H locs hW => ?_)
  refine lv_aload_n C.1 C.2.1 dL_499 rfl (lv_at hl 2 rfl) ?_
  refine lv_aload_n C.1 C.2.1 dL_500 rfl (lv_at hl 0 rfl) ?_
  refine lv_iload_n C.1 C.2.1 dL_501 rfl (lv_at hl 3 rfl) ?_
  refine lv_iconst (v := 1) C.1 C.2.1 dL_502 rfl ?_
  refine lv_iadd C.1 C.2.1 dL_503 ?_
  refine va_sld C.1 C.2.1 hX hbl hbA hW.2 (in_1 hi hL) dL_504 ?_
  refine zr_cVI C hW (c_X9_deal (X := X) (l := l) e2) k_X9_deal (zr_recv C hW id_20 zco_20 rfl) w_1193 ⟨Nat.le_of_ble_eq_true rfl, Nat.le_of_ble_eq_true rfl⟩ hcs rfl hl.1 (rest := [.int r]) rfl (Nat.le_of_ble_eq_true rfl) dL_505 (fun H locs hW => ?_)
  refine lv_icmp_eq (tgt := 1492) C.1 C.2.1 dL_508 (by decide) (fun _ => ?_) (fun hc => absurd rfl hc)
  exact kk m2 H locs ls hI2 hW hl
theorem lw_9 (K : LC X p s mi c b L xs) (hL : L ≤ 3072) (hi : i + 6 ≤ L) (hcs : cells ≤ room_1.cells ∧ slots ≤ room_1.slots) (kk : CE X p l e s mi below meth c b i cells slots Q) (hI : Inv m) (hW : Wd X s m H locs) (hl : lv_has ls 4 [(0, .ref b), (1, .ref (ad X 0 0)), (2, .ref (ad X 20 0)), (3, .int (nI i))]) : W p l e room_1 s mi #[Value.ref b] below meth c H locs cells slots Q (F0 mi 513 ls []) := by
  obtain ⟨C, hX, hbl, hbA⟩ := K
  obtain ⟨r, m1, m2, e1, e2, hI2⟩ := op_seed (fu := 2000) (x1 := (xs (nI i + 1).toNatClampNeg))  hI
  refine lv_aload_n C.1 C.2.1 dL_513 rfl (lv_at hl 1 rfl) ?_
  refine lv_aload_n C.1 C.2.1 dL_514 rfl (lv_at hl 0 rfl) ?_
  refine lv_iload_n C.1 C.2.1 dL_515 rfl (lv_at hl 3 rfl) ?_
  refine lv_iconst (v := 1) C.1 C.2.1 dL_516 rfl ?_
  refine lv_iadd C.1 C.2.1 dL_517 ?_
  refine va_sld C.1 C.2.1 hX hbl hbA hW.2 (in_1 hi hL) dL_518 ?_
  refine zr_cVI C hW (c_X8_seed (X := X) (l := l) e1) k_X8_seed (zr_recv C hW id_0 zco_0 rfl) w_504 ⟨Nat.le_of_ble_eq_true rfl, Nat.le_of_ble_eq_true rfl⟩ hcs rfl hl.1 (rest := []) rfl (Nat.le_of_ble_eq_true rfl) dL_519 (fun H locs hW => ?_)
  refine lv_aload_n C.1 C.2.1 dL_522 rfl (lv_at hl 2 rfl) ?_
  refine lv_aload_n C.1 C.2.1 dL_523 rfl (lv_at hl 0 rfl) ?_
  refine lv_iload_n C.1 C.2.1 dL_524 rfl (lv_at hl 3 rfl) ?_
  refine lv_iconst (v := 1) C.1 C.2.1 dL_525 rfl ?_
  refine lv_iadd C.1 C.2.1 dL_526 ?_
  refine va_sld C.1 C.2.1 hX hbl hbA hW.2 (in_1 hi hL) dL_527 ?_
  refine zr_cVI C hW (c_X9_seed (X := X) (l := l) e2) k_X9_seed (zr_recv C hW id_20 zco_20 rfl) w_1202 ⟨Nat.le_of_ble_eq_true rfl, Nat.le_of_ble_eq_true rfl⟩ hcs rfl hl.1 (rest := [.int r]) rfl (Nat.le_of_ble_eq_true rfl) dL_528 (fun H locs hW => ?_)
  refine lv_icmp_eq (tgt := 1492) C.1 C.2.1 dL_531 (by decide) (fun _ => ?_) (fun hc => absurd rfl hc)
  exact kk m2 H locs ls hI2 hW hl
theorem lw_10 (K : LC X p s mi c b L xs) (hL : L ≤ 3072) (hi : i + 6 ≤ L) (hcs : cells ≤ room_1.cells ∧ slots ≤ room_1.slots) (kk : CE X p l e s mi below meth c b i cells slots Q) (hI : Inv m) (hW : Wd X s m H locs) (hl : lv_has ls 4 [(0, .ref b), (1, .ref (ad X 0 0)), (2, .ref (ad X 20 0)), (3, .int (nI i))]) : W p l e room_1 s mi #[Value.ref b] below meth c H locs cells slots Q (F0 mi 536 ls []) := by
  obtain ⟨C, hX, hbl, hbA⟩ := K
  obtain ⟨r, m1, m2, e1, e2, hI2⟩ := op_tenths (fu := 2000) (x1 := (xs (nI i + 1).toNatClampNeg)) (by decide)  hI
  refine lv_aload_n C.1 C.2.1 dL_536 rfl (lv_at hl 1 rfl) ?_
  refine lv_aload_n C.1 C.2.1 dL_537 rfl (lv_at hl 0 rfl) ?_
  refine lv_iload_n C.1 C.2.1 dL_538 rfl (lv_at hl 3 rfl) ?_
  refine lv_iconst (v := 1) C.1 C.2.1 dL_539 rfl ?_
  refine lv_iadd C.1 C.2.1 dL_540 ?_
  refine va_sld C.1 C.2.1 hX hbl hbA hW.2 (in_1 hi hL) dL_541 ?_
  refine zr_cVI C hW (c_X8_tenths (X := X) (l := l) e1) k_X8_tenths (zr_recv C hW id_0 zco_0 rfl) w_508 ⟨Nat.le_of_ble_eq_true rfl, Nat.le_of_ble_eq_true rfl⟩ hcs rfl hl.1 (rest := []) rfl (Nat.le_of_ble_eq_true rfl) dL_542 (fun H locs hW => ?_)
  refine lv_aload_n C.1 C.2.1 dL_545 rfl (lv_at hl 2 rfl) ?_
  refine lv_aload_n C.1 C.2.1 dL_546 rfl (lv_at hl 0 rfl) ?_
  refine lv_iload_n C.1 C.2.1 dL_547 rfl (lv_at hl 3 rfl) ?_
  refine lv_iconst (v := 1) C.1 C.2.1 dL_548 rfl ?_
  refine lv_iadd C.1 C.2.1 dL_549 ?_
  refine va_sld C.1 C.2.1 hX hbl hbA hW.2 (in_1 hi hL) dL_550 ?_
  refine zr_cVI C hW (c_X9_tenths (X := X) (l := l) e2) k_X9_tenths (zr_recv C hW id_20 zco_20 rfl) w_1206 ⟨Nat.le_of_ble_eq_true rfl, Nat.le_of_ble_eq_true rfl⟩ hcs rfl hl.1 (rest := [.int r]) rfl (Nat.le_of_ble_eq_true rfl) dL_551 (fun H locs hW => ?_)
  refine lv_icmp_eq (tgt := 1492) C.1 C.2.1 dL_554 (by decide) (fun _ => ?_) (fun hc => absurd rfl hc)
  exact kk m2 H locs ls hI2 hW hl
theorem lw_11 (K : LC X p s mi c b L xs) (hL : L ≤ 3072) (hi : i + 6 ≤ L) (hcs : cells ≤ room_1.cells ∧ slots ≤ room_1.slots) (kk : CE X p l e s mi below meth c b i cells slots Q) (hI : Inv m) (hW : Wd X s m H locs) (hl : lv_has ls 4 [(0, .ref b), (1, .ref (ad X 0 0)), (2, .ref (ad X 20 0)), (3, .int (nI i))]) : W p l e room_1 s mi #[Value.ref b] below meth c H locs cells slots Q (F0 mi 559 ls []) := by
  obtain ⟨C, hX, hbl, hbA⟩ := K
  obtain ⟨r, m1, m2, e1, e2, hI2⟩ := op_studio (fu := 2000) (x1 := (xs (nI i + 1).toNatClampNeg)) (by decide)  hI
  refine lv_aload_n C.1 C.2.1 dL_559 rfl (lv_at hl 1 rfl) ?_
  refine lv_aload_n C.1 C.2.1 dL_560 rfl (lv_at hl 0 rfl) ?_
  refine lv_iload_n C.1 C.2.1 dL_561 rfl (lv_at hl 3 rfl) ?_
  refine lv_iconst (v := 1) C.1 C.2.1 dL_562 rfl ?_
  refine lv_iadd C.1 C.2.1 dL_563 ?_
  refine va_sld C.1 C.2.1 hX hbl hbA hW.2 (in_1 hi hL) dL_564 ?_
  refine zr_cVI C hW (c_X8_studio (X := X) (l := l) e1) k_X8_studio (zr_recv C hW id_0 zco_0 rfl) w_577 ⟨Nat.le_of_ble_eq_true rfl, Nat.le_of_ble_eq_true rfl⟩ hcs rfl hl.1 (rest := []) rfl (Nat.le_of_ble_eq_true rfl) dL_565 (fun H locs hW => ?_)
  refine lv_aload_n C.1 C.2.1 dL_568 rfl (lv_at hl 2 rfl) ?_
  refine lv_aload_n C.1 C.2.1 dL_569 rfl (lv_at hl 0 rfl) ?_
  refine lv_iload_n C.1 C.2.1 dL_570 rfl (lv_at hl 3 rfl) ?_
  refine lv_iconst (v := 1) C.1 C.2.1 dL_571 rfl ?_
  refine lv_iadd C.1 C.2.1 dL_572 ?_
  refine va_sld C.1 C.2.1 hX hbl hbA hW.2 (in_1 hi hL) dL_573 ?_
  refine zr_cVI C hW (c_X9_studio (X := X) (l := l) e2) k_X9_studio (zr_recv C hW id_20 zco_20 rfl) w_1260 ⟨Nat.le_of_ble_eq_true rfl, Nat.le_of_ble_eq_true rfl⟩ hcs rfl hl.1 (rest := [.int r]) rfl (Nat.le_of_ble_eq_true rfl) dL_574 (fun H locs hW => ?_)
  refine lv_icmp_eq (tgt := 1492) C.1 C.2.1 dL_577 (by decide) (fun _ => ?_) (fun hc => absurd rfl hc)
  exact kk m2 H locs ls hI2 hW hl
theorem lw_12 (K : LC X p s mi c b L xs) (hL : L ≤ 3072) (hi : i + 6 ≤ L) (hcs : cells ≤ room_1.cells ∧ slots ≤ room_1.slots) (kk : CE X p l e s mi below meth c b i cells slots Q) (hI : Inv m) (hW : Wd X s m H locs) (hl : lv_has ls 4 [(0, .ref b), (1, .ref (ad X 0 0)), (2, .ref (ad X 20 0)), (3, .int (nI i))]) : W p l e room_1 s mi #[Value.ref b] below meth c H locs cells slots Q (F0 mi 582 ls []) := by
  obtain ⟨C, hX, hbl, hbA⟩ := K
  obtain ⟨r, m1, m2, e1, e2, hI2⟩ := op_behind (fu := 2000) (x1 := (xs (nI i + 1).toNatClampNeg)) (x2 := (xs (nI i + 2).toNatClampNeg)) (by decide)  hI
  refine lv_aload_n C.1 C.2.1 dL_582 rfl (lv_at hl 1 rfl) ?_
  refine lv_aload_n C.1 C.2.1 dL_583 rfl (lv_at hl 0 rfl) ?_
  refine lv_iload_n C.1 C.2.1 dL_584 rfl (lv_at hl 3 rfl) ?_
  refine lv_iconst (v := 1) C.1 C.2.1 dL_585 rfl ?_
  refine lv_iadd C.1 C.2.1 dL_586 ?_
  refine va_sld C.1 C.2.1 hX hbl hbA hW.2 (in_1 hi hL) dL_587 ?_
  refine lv_aload_n C.1 C.2.1 dL_588 rfl (lv_at hl 0 rfl) ?_
  refine lv_iload_n C.1 C.2.1 dL_589 rfl (lv_at hl 3 rfl) ?_
  refine lv_iconst (v := 2) C.1 C.2.1 dL_590 rfl ?_
  refine lv_iadd C.1 C.2.1 dL_591 ?_
  refine va_sld C.1 C.2.1 hX hbl hbA hW.2 (in_2 hi hL) dL_592 ?_
  refine zr_cVI C hW (c_X8_behind (X := X) (l := l) e1) k_X8_behind (zr_recv C hW id_0 zco_0 rfl) w_585 ⟨Nat.le_of_ble_eq_true rfl, Nat.le_of_ble_eq_true rfl⟩ hcs rfl hl.1 (rest := []) rfl (Nat.le_of_ble_eq_true rfl) dL_593 (fun H locs hW => ?_)
  refine lv_aload_n C.1 C.2.1 dL_596 rfl (lv_at hl 2 rfl) ?_
  refine lv_aload_n C.1 C.2.1 dL_597 rfl (lv_at hl 0 rfl) ?_
  refine lv_iload_n C.1 C.2.1 dL_598 rfl (lv_at hl 3 rfl) ?_
  refine lv_iconst (v := 1) C.1 C.2.1 dL_599 rfl ?_
  refine lv_iadd C.1 C.2.1 dL_600 ?_
  refine va_sld C.1 C.2.1 hX hbl hbA hW.2 (in_1 hi hL) dL_601 ?_
  refine lv_aload_n C.1 C.2.1 dL_602 rfl (lv_at hl 0 rfl) ?_
  refine lv_iload_n C.1 C.2.1 dL_603 rfl (lv_at hl 3 rfl) ?_
  refine lv_iconst (v := 2) C.1 C.2.1 dL_604 rfl ?_
  refine lv_iadd C.1 C.2.1 dL_605 ?_
  refine va_sld C.1 C.2.1 hX hbl hbA hW.2 (in_2 hi hL) dL_606 ?_
  refine zr_cVI C hW (c_X9_behind (X := X) (l := l) e2) k_X9_behind (zr_recv C hW id_20 zco_20 rfl) w_1264 ⟨Nat.le_of_ble_eq_true rfl, Nat.le_of_ble_eq_true rfl⟩ hcs rfl hl.1 (rest := [.int r]) rfl (Nat.le_of_ble_eq_true rfl) dL_607 (fun H locs hW => ?_)
  refine lv_icmp_eq (tgt := 1492) C.1 C.2.1 dL_610 (by decide) (fun _ => ?_) (fun hc => absurd rfl hc)
  exact kk m2 H locs ls hI2 hW hl
theorem lw_13 (K : LC X p s mi c b L xs) (hL : L ≤ 3072) (hi : i + 6 ≤ L) (hcs : cells ≤ room_1.cells ∧ slots ≤ room_1.slots) (kk : CE X p l e s mi below meth c b i cells slots Q) (hI : Inv m) (hW : Wd X s m H locs) (hl : lv_has ls 4 [(0, .ref b), (1, .ref (ad X 0 0)), (2, .ref (ad X 20 0)), (3, .int (nI i))]) : W p l e room_1 s mi #[Value.ref b] below meth c H locs cells slots Q (F0 mi 615 ls []) := by
  obtain ⟨C, hX, hbl, hbA⟩ := K
  obtain ⟨r, m1, m2, e1, e2, hI2⟩ := op_next (fu := 2000) (x1 := (xs (nI i + 1).toNatClampNeg)) (by decide)  hI
  refine lv_aload_n C.1 C.2.1 dL_615 rfl (lv_at hl 1 rfl) ?_
  refine lv_aload_n C.1 C.2.1 dL_616 rfl (lv_at hl 0 rfl) ?_
  refine lv_iload_n C.1 C.2.1 dL_617 rfl (lv_at hl 3 rfl) ?_
  refine lv_iconst (v := 1) C.1 C.2.1 dL_618 rfl ?_
  refine lv_iadd C.1 C.2.1 dL_619 ?_
  refine va_sld C.1 C.2.1 hX hbl hbA hW.2 (in_1 hi hL) dL_620 ?_
  refine zr_cVI C hW (c_X8_next (X := X) (l := l) e1) k_X8_next (zr_recv C hW id_0 zco_0 rfl) w_597 ⟨Nat.le_of_ble_eq_true rfl, Nat.le_of_ble_eq_true rfl⟩ hcs rfl hl.1 (rest := []) rfl (Nat.le_of_ble_eq_true rfl) dL_621 (fun H locs hW => ?_)
  refine lv_aload_n C.1 C.2.1 dL_624 rfl (lv_at hl 2 rfl) ?_
  refine lv_aload_n C.1 C.2.1 dL_625 rfl (lv_at hl 0 rfl) ?_
  refine lv_iload_n C.1 C.2.1 dL_626 rfl (lv_at hl 3 rfl) ?_
  refine lv_iconst (v := 1) C.1 C.2.1 dL_627 rfl ?_
  refine lv_iadd C.1 C.2.1 dL_628 ?_
  refine va_sld C.1 C.2.1 hX hbl hbA hW.2 (in_1 hi hL) dL_629 ?_
  refine zr_cVI C hW (c_X9_next (X := X) (l := l) e2) k_X9_next (zr_recv C hW id_20 zco_20 rfl) w_1276 ⟨Nat.le_of_ble_eq_true rfl, Nat.le_of_ble_eq_true rfl⟩ hcs rfl hl.1 (rest := [.int r]) rfl (Nat.le_of_ble_eq_true rfl) dL_630 (fun H locs hW => ?_)
  refine lv_icmp_eq (tgt := 1492) C.1 C.2.1 dL_633 (by decide) (fun _ => ?_) (fun hc => absurd rfl hc)
  exact kk m2 H locs ls hI2 hW hl
end LAW
