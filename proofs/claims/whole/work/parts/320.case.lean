set_option maxHeartbeats 4000000 in
set_option maxRecDepth 100000 in
theorem law_case_0 {p : Program} {l : Launch} {e : Env} {s : State} {m : MethodId} {below : List Frame} {meth : Method} {c : Code} {Q : State → Prop} (hl0 : l.stackTraces = false) {G : GP} {b L : Nat} {xs : Nat → Int32} (C : g_C p s m #[.ref b] c code 9 RL G) (hX : va_X b L xs s s.heap) (hbl : b < s.heap.size) (hbA : ¬ g_A G b) (hL : L ≤ 3072) {i : Nat} (hi : i + 6 ≤ L) {σ : Sto} {x : XP} {H : Heap} {locs : List Loc} {ls : Array Slot} {cells slots : Nat} (hM : g_M G x σ s H locs) (hl : lv_has ls 9 [(0, .ref b), (1, .ref (g_ad G 60)), (2, .ref (g_ad G 87)), (3, .ref (g_ad G 106)), (4, .ref (g_ad G 107)), (5, .int (nI i))]) (hroom : cells + 8 ≤ room_1.cells ∧ slots + 48 ≤ room_1.slots) (h : DL_0 xs i σ x (fun σ x => ∀ (H : Heap) (locs : List Loc) (ls : Array Slot), g_M G x σ s H locs → lv_has ls 9 [(0, .ref b), (1, .ref (g_ad G 60)), (2, .ref (g_ad G 87)), (3, .ref (g_ad G 106)), (4, .ref (g_ad G 107)), (5, .int (nI i))] → W p l e room_1 s m #[.ref b] below meth c H locs (cells + 8) (slots + 48) Q (F0 m 3015 ls []))) : W p l e room_1 s m #[.ref b] below meth c H locs cells slots Q (F0 m 252 ls []) := by
  unfold DL_0 at h
  have hx := C.1
  have hb := C.2.1
  refine lv_aload_n (pc := 252) hx hb dL_law_252 rfl (lv_at hl 1 rfl) ?_
  refine lv_aload_n (pc := 253) hx hb dL_law_253 rfl (lv_at hl 0 rfl) ?_
  refine lv_iload (pc := 254) hx hb dL_law_254 (lv_at hl 5 rfl) ?_
  refine lv_iconst (pc := 256) (v := 1) hx hb dL_law_256 (by decide) ?_
  refine lv_iadd (pc := 257) hx hb dL_law_257 ?_
  refine g_scr (pc := 258) (k := i + 1) C hX hbl hbA hM (sc_in1 hi hL) (sc_ix1 hi hL) dL_law_258 ?_
  refine lv_aload_n (pc := 259) hx hb dL_law_259 rfl (lv_at hl 0 rfl) ?_
  refine lv_iload (pc := 260) hx hb dL_law_260 (lv_at hl 5 rfl) ?_
  refine lv_iconst (pc := 262) (v := 2) hx hb dL_law_262 (by decide) ?_
  refine lv_iadd (pc := 263) hx hb dL_law_263 ?_
  refine g_scr (pc := 264) (k := i + 2) C hX hbl hbA hM (sc_in2 hi hL) (sc_ix2 hi hL) dL_law_264 ?_
  refine lv_if_eq (pc := 265) (tgt := 272) hx hb dL_law_265 (by decide) (fun c265 => ?_) (fun c265 => ?_)
  · have h := h.1 c265
    refine lv_iconst (pc := 272) (v := 0) hx hb dL_law_272 (by decide) ?_
    refine lv_aload_n (pc := 273) hx hb dL_law_273 rfl (lv_at hl 0 rfl) ?_
    refine lv_iload (pc := 274) hx hb dL_law_274 (lv_at hl 5 rfl) ?_
    refine lv_iconst (pc := 276) (v := 3) hx hb dL_law_276 (by decide) ?_
    refine lv_iadd (pc := 277) hx hb dL_law_277 ?_
    refine g_scr (pc := 278) (k := i + 3) C hX hbl hbA hM (sc_in3 hi hL) (sc_ix3 hi hL) dL_law_278 ?_
    refine lv_aload_n (pc := 279) hx hb dL_law_279 rfl (lv_at hl 3 rfl) ?_
    refine g_cSw (pc := 280) C hM hl.1 yw_L_addRule q2_103 (w_L_addRule l hl0 G (xs (i + 1)) 0 (xs (i + 3)) σ x _ h) rfl rfl ⟨⟨Nat.le_of_ble_eq_true rfl, Nat.le_of_ble_eq_true rfl⟩, Nat.le_trans (Nat.add_le_add_left (by decide) _) hroom.1, Nat.le_trans (Nat.add_le_add_left (by decide) _) hroom.2⟩ (Nat.le_of_ble_eq_true rfl) dL_law_280 (fun r280 u280 H locs h hM => ?_)
    refine W.widen (k := cells + 8) (n := slots + 48) (Nat.add_le_add_left (by decide) _) (Nat.add_le_add_left (by decide) _) ?_
    refine lv_istore (pc := 283) (lv' := [(6, .int r280), (0, .ref b), (1, .ref (g_ad G 60)), (2, .ref (g_ad G 87)), (3, .ref (g_ad G 106)), (4, .ref (g_ad G 107)), (5, .int (nI i))]) hx hb dL_law_283 hl (by decide) rfl (fun ls hl => ?_)
    refine lv_aload_n (pc := 285) hx hb dL_law_285 rfl (lv_at hl 3 rfl) ?_
    refine lv_aload_n (pc := 286) hx hb dL_law_286 rfl (lv_at hl 1 rfl) ?_
    refine lv_iload (pc := 287) hx hb dL_law_287 (lv_at hl 6 rfl) ?_
    refine lv_iconst (pc := 289) (v := 1) hx hb dL_law_289 (by decide) ?_
    refine lv_iadd (pc := 290) hx hb dL_law_290 ?_
    refine g_scr (pc := 291) (k := i + 1) C hX hbl hbA hM (sc_in1 hi hL) (sc_ix1 hi hL) dL_law_291 ?_
    refine lv_aload_n (pc := 292) hx hb dL_law_292 rfl (lv_at hl 1 rfl) ?_
    refine lv_iload (pc := 293) hx hb dL_law_293 (lv_at hl 6 rfl) ?_
    refine lv_iconst (pc := 295) (v := 2) hx hb dL_law_295 (by decide) ?_
    refine lv_iadd (pc := 296) hx hb dL_law_296 ?_
    refine g_scr (pc := 297) (k := i + 2) C hX hbl hbA hM (sc_in2 hi hL) (sc_ix2 hi hL) dL_law_297 ?_
    refine lv_if_eq (pc := 298) (tgt := 305) hx hb dL_law_298 (by decide) (fun c298 => ?_) (fun c298 => ?_)
    · have h := h.1 c298
      refine lv_iconst (pc := 305) (v := 0) hx hb dL_law_305 (by decide) ?_
      refine lv_aload_n (pc := 306) hx hb dL_law_306 rfl (lv_at hl 1 rfl) ?_
      refine lv_iload (pc := 307) hx hb dL_law_307 (lv_at hl 6 rfl) ?_
      refine lv_iconst (pc := 309) (v := 3) hx hb dL_law_309 (by decide) ?_
      refine lv_iadd (pc := 310) hx hb dL_law_310 ?_
      refine g_scr (pc := 311) (k := i + 3) C hX hbl hbA hM (sc_in3 hi hL) (sc_ix3 hi hL) dL_law_311 ?_
      refine g_cVi (pc := 312) C hM hl.1 yv_X12_addRule q6_101 (by decide) ce_87 rfl (w_X12_addRule l G u280.2 (xs (i + 1)) 0 (xs (i + 3)) u280.1 _ h) rfl rfl ⟨⟨Nat.le_of_ble_eq_true rfl, Nat.le_of_ble_eq_true rfl⟩, hroom.1, hroom.2⟩ (Nat.le_of_ble_eq_true rfl) dL_law_312 (fun r312 s312 H locs h hM => ?_)
      refine lv_istore (pc := 315) (lv' := [(7, .int r312), (6, .int r280), (0, .ref b), (1, .ref (g_ad G 60)), (2, .ref (g_ad G 87)), (3, .ref (g_ad G 106)), (4, .ref (g_ad G 107)), (5, .int (nI i))]) hx hb dL_law_315 hl (by decide) rfl (fun ls hl => ?_)
      refine lv_aload_n (pc := 317) hx hb dL_law_317 rfl (lv_at hl 4 rfl) ?_
      refine g_cVi (pc := 318) C hM hl.1 yv_X12_thrown q6_81 (by decide) ce_87 rfl (w_X12_thrown l G u280.2 s312 _ h) rfl rfl ⟨⟨Nat.le_of_ble_eq_true rfl, Nat.le_of_ble_eq_true rfl⟩, hroom.1, hroom.2⟩ (Nat.le_of_ble_eq_true rfl) dL_law_318 (fun r318 s318 H locs h hM => ?_)
      refine lv_iload (pc := 321) hx hb dL_law_321 (lv_at hl 1 rfl) ?_
      refine lv_icmp_eq (pc := 323) (tgt := 328) hx hb dL_law_323 (by decide) (fun c323 => ?_) (fun c323 => ?_)
      · have h := h.1 c323
        refine lv_iload (pc := 328) hx hb dL_law_328 (lv_at hl 1 rfl) ?_
        refine lv_if_ne (pc := 330) (tgt := 345) hx hb dL_law_330 (by decide) (fun c330 => ?_) (fun c330 => ?_)
        · have h := h.2 c330
          refine lv_goto (pc := 345) (tgt := 3015) hx hb dL_law_345 (by decide) ?_
          exact h _ _ _ hM (lv_sub hl [2, 3, 4, 5, 6, 7] rfl)
        · have h := h.1 c330
          refine lv_aload_n (pc := 333) hx hb dL_law_333 rfl (lv_at hl 5 rfl) ?_
          refine lv_iconst (pc := 334) (v := 0) hx hb dL_law_334 (by decide) ?_
          refine g_lald (pc := 335) C hM dL_law_335 ?_
          refine lv_iload (pc := 336) hx hb dL_law_336 (lv_at hl 0 rfl) ?_
          refine lv_i2l (pc := 338) (v := (r312).toInt64) hx hb dL_law_338 rfl ?_
          refine W.lcmp (pc := 339) hx hb dL_law_339 ?_
          refine lv_if_eq (pc := 340) (tgt := 345) hx hb dL_law_340 (by decide) (fun c340 => ?_) (fun c340 => ?_)
          · have h := h.1 c340
            refine lv_goto (pc := 345) (tgt := 3015) hx hb dL_law_345 (by decide) ?_
            exact h _ _ _ hM (lv_sub hl [2, 3, 4, 5, 6, 7] rfl)
          · have h := h.2 c340
            refine lv_iconst (pc := 343) (v := 0) hx hb dL_law_343 (by decide) ?_
            exact h.elim
      · have h := h.2 c323
        refine lv_iconst (pc := 326) (v := 0) hx hb dL_law_326 (by decide) ?_
        exact h.elim
    · have h := h.2 c298
      refine lv_iconst (pc := 301) (v := 1) hx hb dL_law_301 (by decide) ?_
      refine lv_goto (pc := 302) (tgt := 306) hx hb dL_law_302 (by decide) ?_
      refine lv_aload_n (pc := 306) hx hb dL_law_306 rfl (lv_at hl 1 rfl) ?_
      refine lv_iload (pc := 307) hx hb dL_law_307 (lv_at hl 6 rfl) ?_
      refine lv_iconst (pc := 309) (v := 3) hx hb dL_law_309 (by decide) ?_
      refine lv_iadd (pc := 310) hx hb dL_law_310 ?_
      refine g_scr (pc := 311) (k := i + 3) C hX hbl hbA hM (sc_in3 hi hL) (sc_ix3 hi hL) dL_law_311 ?_
      refine g_cVi (pc := 312) C hM hl.1 yv_X12_addRule q6_101 (by decide) ce_87 rfl (w_X12_addRule l G u280.2 (xs (i + 1)) 1 (xs (i + 3)) u280.1 _ h) rfl rfl ⟨⟨Nat.le_of_ble_eq_true rfl, Nat.le_of_ble_eq_true rfl⟩, hroom.1, hroom.2⟩ (Nat.le_of_ble_eq_true rfl) dL_law_312 (fun r312 s312 H locs h hM => ?_)
      refine lv_istore (pc := 315) (lv' := [(7, .int r312), (6, .int r280), (0, .ref b), (1, .ref (g_ad G 60)), (2, .ref (g_ad G 87)), (3, .ref (g_ad G 106)), (4, .ref (g_ad G 107)), (5, .int (nI i))]) hx hb dL_law_315 hl (by decide) rfl (fun ls hl => ?_)
      refine lv_aload_n (pc := 317) hx hb dL_law_317 rfl (lv_at hl 4 rfl) ?_
      refine g_cVi (pc := 318) C hM hl.1 yv_X12_thrown q6_81 (by decide) ce_87 rfl (w_X12_thrown l G u280.2 s312 _ h) rfl rfl ⟨⟨Nat.le_of_ble_eq_true rfl, Nat.le_of_ble_eq_true rfl⟩, hroom.1, hroom.2⟩ (Nat.le_of_ble_eq_true rfl) dL_law_318 (fun r318 s318 H locs h hM => ?_)
      refine lv_iload (pc := 321) hx hb dL_law_321 (lv_at hl 1 rfl) ?_
      refine lv_icmp_eq (pc := 323) (tgt := 328) hx hb dL_law_323 (by decide) (fun c323 => ?_) (fun c323 => ?_)
      · have h := h.1 c323
        refine lv_iload (pc := 328) hx hb dL_law_328 (lv_at hl 1 rfl) ?_
        refine lv_if_ne (pc := 330) (tgt := 345) hx hb dL_law_330 (by decide) (fun c330 => ?_) (fun c330 => ?_)
        · have h := h.2 c330
          refine lv_goto (pc := 345) (tgt := 3015) hx hb dL_law_345 (by decide) ?_
          exact h _ _ _ hM (lv_sub hl [2, 3, 4, 5, 6, 7] rfl)
        · have h := h.1 c330
          refine lv_aload_n (pc := 333) hx hb dL_law_333 rfl (lv_at hl 5 rfl) ?_
          refine lv_iconst (pc := 334) (v := 0) hx hb dL_law_334 (by decide) ?_
          refine g_lald (pc := 335) C hM dL_law_335 ?_
          refine lv_iload (pc := 336) hx hb dL_law_336 (lv_at hl 0 rfl) ?_
          refine lv_i2l (pc := 338) (v := (r312).toInt64) hx hb dL_law_338 rfl ?_
          refine W.lcmp (pc := 339) hx hb dL_law_339 ?_
          refine lv_if_eq (pc := 340) (tgt := 345) hx hb dL_law_340 (by decide) (fun c340 => ?_) (fun c340 => ?_)
          · have h := h.1 c340
            refine lv_goto (pc := 345) (tgt := 3015) hx hb dL_law_345 (by decide) ?_
            exact h _ _ _ hM (lv_sub hl [2, 3, 4, 5, 6, 7] rfl)
          · have h := h.2 c340
            refine lv_iconst (pc := 343) (v := 0) hx hb dL_law_343 (by decide) ?_
            exact h.elim
      · have h := h.2 c323
        refine lv_iconst (pc := 326) (v := 0) hx hb dL_law_326 (by decide) ?_
        exact h.elim
  · have h := h.2 c265
    refine lv_iconst (pc := 268) (v := 1) hx hb dL_law_268 (by decide) ?_
    refine lv_goto (pc := 269) (tgt := 273) hx hb dL_law_269 (by decide) ?_
    refine lv_aload_n (pc := 273) hx hb dL_law_273 rfl (lv_at hl 0 rfl) ?_
    refine lv_iload (pc := 274) hx hb dL_law_274 (lv_at hl 5 rfl) ?_
    refine lv_iconst (pc := 276) (v := 3) hx hb dL_law_276 (by decide) ?_
    refine lv_iadd (pc := 277) hx hb dL_law_277 ?_
    refine g_scr (pc := 278) (k := i + 3) C hX hbl hbA hM (sc_in3 hi hL) (sc_ix3 hi hL) dL_law_278 ?_
    refine lv_aload_n (pc := 279) hx hb dL_law_279 rfl (lv_at hl 3 rfl) ?_
    refine g_cSw (pc := 280) C hM hl.1 yw_L_addRule q2_103 (w_L_addRule l hl0 G (xs (i + 1)) 1 (xs (i + 3)) σ x _ h) rfl rfl ⟨⟨Nat.le_of_ble_eq_true rfl, Nat.le_of_ble_eq_true rfl⟩, Nat.le_trans (Nat.add_le_add_left (by decide) _) hroom.1, Nat.le_trans (Nat.add_le_add_left (by decide) _) hroom.2⟩ (Nat.le_of_ble_eq_true rfl) dL_law_280 (fun r280 u280 H locs h hM => ?_)
    refine W.widen (k := cells + 8) (n := slots + 48) (Nat.add_le_add_left (by decide) _) (Nat.add_le_add_left (by decide) _) ?_
    refine lv_istore (pc := 283) (lv' := [(6, .int r280), (0, .ref b), (1, .ref (g_ad G 60)), (2, .ref (g_ad G 87)), (3, .ref (g_ad G 106)), (4, .ref (g_ad G 107)), (5, .int (nI i))]) hx hb dL_law_283 hl (by decide) rfl (fun ls hl => ?_)
    refine lv_aload_n (pc := 285) hx hb dL_law_285 rfl (lv_at hl 3 rfl) ?_
    refine lv_aload_n (pc := 286) hx hb dL_law_286 rfl (lv_at hl 1 rfl) ?_
    refine lv_iload (pc := 287) hx hb dL_law_287 (lv_at hl 6 rfl) ?_
    refine lv_iconst (pc := 289) (v := 1) hx hb dL_law_289 (by decide) ?_
    refine lv_iadd (pc := 290) hx hb dL_law_290 ?_
    refine g_scr (pc := 291) (k := i + 1) C hX hbl hbA hM (sc_in1 hi hL) (sc_ix1 hi hL) dL_law_291 ?_
    refine lv_aload_n (pc := 292) hx hb dL_law_292 rfl (lv_at hl 1 rfl) ?_
    refine lv_iload (pc := 293) hx hb dL_law_293 (lv_at hl 6 rfl) ?_
    refine lv_iconst (pc := 295) (v := 2) hx hb dL_law_295 (by decide) ?_
    refine lv_iadd (pc := 296) hx hb dL_law_296 ?_
    refine g_scr (pc := 297) (k := i + 2) C hX hbl hbA hM (sc_in2 hi hL) (sc_ix2 hi hL) dL_law_297 ?_
    refine lv_if_eq (pc := 298) (tgt := 305) hx hb dL_law_298 (by decide) (fun c298 => ?_) (fun c298 => ?_)
    · have h := h.1 c298
      refine lv_iconst (pc := 305) (v := 0) hx hb dL_law_305 (by decide) ?_
      refine lv_aload_n (pc := 306) hx hb dL_law_306 rfl (lv_at hl 1 rfl) ?_
      refine lv_iload (pc := 307) hx hb dL_law_307 (lv_at hl 6 rfl) ?_
      refine lv_iconst (pc := 309) (v := 3) hx hb dL_law_309 (by decide) ?_
      refine lv_iadd (pc := 310) hx hb dL_law_310 ?_
      refine g_scr (pc := 311) (k := i + 3) C hX hbl hbA hM (sc_in3 hi hL) (sc_ix3 hi hL) dL_law_311 ?_
      refine g_cVi (pc := 312) C hM hl.1 yv_X12_addRule q6_101 (by decide) ce_87 rfl (w_X12_addRule l G u280.2 (xs (i + 1)) 0 (xs (i + 3)) u280.1 _ h) rfl rfl ⟨⟨Nat.le_of_ble_eq_true rfl, Nat.le_of_ble_eq_true rfl⟩, hroom.1, hroom.2⟩ (Nat.le_of_ble_eq_true rfl) dL_law_312 (fun r312 s312 H locs h hM => ?_)
      refine lv_istore (pc := 315) (lv' := [(7, .int r312), (6, .int r280), (0, .ref b), (1, .ref (g_ad G 60)), (2, .ref (g_ad G 87)), (3, .ref (g_ad G 106)), (4, .ref (g_ad G 107)), (5, .int (nI i))]) hx hb dL_law_315 hl (by decide) rfl (fun ls hl => ?_)
      refine lv_aload_n (pc := 317) hx hb dL_law_317 rfl (lv_at hl 4 rfl) ?_
      refine g_cVi (pc := 318) C hM hl.1 yv_X12_thrown q6_81 (by decide) ce_87 rfl (w_X12_thrown l G u280.2 s312 _ h) rfl rfl ⟨⟨Nat.le_of_ble_eq_true rfl, Nat.le_of_ble_eq_true rfl⟩, hroom.1, hroom.2⟩ (Nat.le_of_ble_eq_true rfl) dL_law_318 (fun r318 s318 H locs h hM => ?_)
      refine lv_iload (pc := 321) hx hb dL_law_321 (lv_at hl 1 rfl) ?_
      refine lv_icmp_eq (pc := 323) (tgt := 328) hx hb dL_law_323 (by decide) (fun c323 => ?_) (fun c323 => ?_)
      · have h := h.1 c323
        refine lv_iload (pc := 328) hx hb dL_law_328 (lv_at hl 1 rfl) ?_
        refine lv_if_ne (pc := 330) (tgt := 345) hx hb dL_law_330 (by decide) (fun c330 => ?_) (fun c330 => ?_)
        · have h := h.2 c330
          refine lv_goto (pc := 345) (tgt := 3015) hx hb dL_law_345 (by decide) ?_
          exact h _ _ _ hM (lv_sub hl [2, 3, 4, 5, 6, 7] rfl)
        · have h := h.1 c330
          refine lv_aload_n (pc := 333) hx hb dL_law_333 rfl (lv_at hl 5 rfl) ?_
          refine lv_iconst (pc := 334) (v := 0) hx hb dL_law_334 (by decide) ?_
          refine g_lald (pc := 335) C hM dL_law_335 ?_
          refine lv_iload (pc := 336) hx hb dL_law_336 (lv_at hl 0 rfl) ?_
          refine lv_i2l (pc := 338) (v := (r312).toInt64) hx hb dL_law_338 rfl ?_
          refine W.lcmp (pc := 339) hx hb dL_law_339 ?_
          refine lv_if_eq (pc := 340) (tgt := 345) hx hb dL_law_340 (by decide) (fun c340 => ?_) (fun c340 => ?_)
          · have h := h.1 c340
            refine lv_goto (pc := 345) (tgt := 3015) hx hb dL_law_345 (by decide) ?_
            exact h _ _ _ hM (lv_sub hl [2, 3, 4, 5, 6, 7] rfl)
          · have h := h.2 c340
            refine lv_iconst (pc := 343) (v := 0) hx hb dL_law_343 (by decide) ?_
            exact h.elim
      · have h := h.2 c323
        refine lv_iconst (pc := 326) (v := 0) hx hb dL_law_326 (by decide) ?_
        exact h.elim
    · have h := h.2 c298
      refine lv_iconst (pc := 301) (v := 1) hx hb dL_law_301 (by decide) ?_
      refine lv_goto (pc := 302) (tgt := 306) hx hb dL_law_302 (by decide) ?_
      refine lv_aload_n (pc := 306) hx hb dL_law_306 rfl (lv_at hl 1 rfl) ?_
      refine lv_iload (pc := 307) hx hb dL_law_307 (lv_at hl 6 rfl) ?_
      refine lv_iconst (pc := 309) (v := 3) hx hb dL_law_309 (by decide) ?_
      refine lv_iadd (pc := 310) hx hb dL_law_310 ?_
      refine g_scr (pc := 311) (k := i + 3) C hX hbl hbA hM (sc_in3 hi hL) (sc_ix3 hi hL) dL_law_311 ?_
      refine g_cVi (pc := 312) C hM hl.1 yv_X12_addRule q6_101 (by decide) ce_87 rfl (w_X12_addRule l G u280.2 (xs (i + 1)) 1 (xs (i + 3)) u280.1 _ h) rfl rfl ⟨⟨Nat.le_of_ble_eq_true rfl, Nat.le_of_ble_eq_true rfl⟩, hroom.1, hroom.2⟩ (Nat.le_of_ble_eq_true rfl) dL_law_312 (fun r312 s312 H locs h hM => ?_)
      refine lv_istore (pc := 315) (lv' := [(7, .int r312), (6, .int r280), (0, .ref b), (1, .ref (g_ad G 60)), (2, .ref (g_ad G 87)), (3, .ref (g_ad G 106)), (4, .ref (g_ad G 107)), (5, .int (nI i))]) hx hb dL_law_315 hl (by decide) rfl (fun ls hl => ?_)
      refine lv_aload_n (pc := 317) hx hb dL_law_317 rfl (lv_at hl 4 rfl) ?_
      refine g_cVi (pc := 318) C hM hl.1 yv_X12_thrown q6_81 (by decide) ce_87 rfl (w_X12_thrown l G u280.2 s312 _ h) rfl rfl ⟨⟨Nat.le_of_ble_eq_true rfl, Nat.le_of_ble_eq_true rfl⟩, hroom.1, hroom.2⟩ (Nat.le_of_ble_eq_true rfl) dL_law_318 (fun r318 s318 H locs h hM => ?_)
      refine lv_iload (pc := 321) hx hb dL_law_321 (lv_at hl 1 rfl) ?_
      refine lv_icmp_eq (pc := 323) (tgt := 328) hx hb dL_law_323 (by decide) (fun c323 => ?_) (fun c323 => ?_)
      · have h := h.1 c323
        refine lv_iload (pc := 328) hx hb dL_law_328 (lv_at hl 1 rfl) ?_
        refine lv_if_ne (pc := 330) (tgt := 345) hx hb dL_law_330 (by decide) (fun c330 => ?_) (fun c330 => ?_)
        · have h := h.2 c330
          refine lv_goto (pc := 345) (tgt := 3015) hx hb dL_law_345 (by decide) ?_
          exact h _ _ _ hM (lv_sub hl [2, 3, 4, 5, 6, 7] rfl)
        · have h := h.1 c330
          refine lv_aload_n (pc := 333) hx hb dL_law_333 rfl (lv_at hl 5 rfl) ?_
          refine lv_iconst (pc := 334) (v := 0) hx hb dL_law_334 (by decide) ?_
          refine g_lald (pc := 335) C hM dL_law_335 ?_
          refine lv_iload (pc := 336) hx hb dL_law_336 (lv_at hl 0 rfl) ?_
          refine lv_i2l (pc := 338) (v := (r312).toInt64) hx hb dL_law_338 rfl ?_
          refine W.lcmp (pc := 339) hx hb dL_law_339 ?_
          refine lv_if_eq (pc := 340) (tgt := 345) hx hb dL_law_340 (by decide) (fun c340 => ?_) (fun c340 => ?_)
          · have h := h.1 c340
            refine lv_goto (pc := 345) (tgt := 3015) hx hb dL_law_345 (by decide) ?_
            exact h _ _ _ hM (lv_sub hl [2, 3, 4, 5, 6, 7] rfl)
          · have h := h.2 c340
            refine lv_iconst (pc := 343) (v := 0) hx hb dL_law_343 (by decide) ?_
            exact h.elim
      · have h := h.2 c323
        refine lv_iconst (pc := 326) (v := 0) hx hb dL_law_326 (by decide) ?_
        exact h.elim
set_option maxHeartbeats 4000000 in
set_option maxRecDepth 100000 in
theorem law_case_1 {p : Program} {l : Launch} {e : Env} {s : State} {m : MethodId} {below : List Frame} {meth : Method} {c : Code} {Q : State → Prop} (hl0 : l.stackTraces = false) {G : GP} {b L : Nat} {xs : Nat → Int32} (C : g_C p s m #[.ref b] c code 9 RL G) (hX : va_X b L xs s s.heap) (hbl : b < s.heap.size) (hbA : ¬ g_A G b) (hL : L ≤ 3072) {i : Nat} (hi : i + 6 ≤ L) {σ : Sto} {x : XP} {H : Heap} {locs : List Loc} {ls : Array Slot} {cells slots : Nat} (hM : g_M G x σ s H locs) (hl : lv_has ls 9 [(0, .ref b), (1, .ref (g_ad G 60)), (2, .ref (g_ad G 87)), (3, .ref (g_ad G 106)), (4, .ref (g_ad G 107)), (5, .int (nI i))]) (hroom : cells + 8 ≤ room_1.cells ∧ slots + 48 ≤ room_1.slots) (h : DL_1 xs i σ x (fun σ x => ∀ (H : Heap) (locs : List Loc) (ls : Array Slot), g_M G x σ s H locs → lv_has ls 9 [(0, .ref b), (1, .ref (g_ad G 60)), (2, .ref (g_ad G 87)), (3, .ref (g_ad G 106)), (4, .ref (g_ad G 107)), (5, .int (nI i))] → W p l e room_1 s m #[.ref b] below meth c H locs (cells + 8) (slots + 48) Q (F0 m 3015 ls []))) : W p l e room_1 s m #[.ref b] below meth c H locs cells slots Q (F0 m 348 ls []) := by
  unfold DL_1 at h
  have hx := C.1
  have hb := C.2.1
  refine lv_aload_n (pc := 348) hx hb dL_law_348 rfl (lv_at hl 1 rfl) ?_
  refine lv_aload_n (pc := 349) hx hb dL_law_349 rfl (lv_at hl 0 rfl) ?_
  refine lv_iload (pc := 350) hx hb dL_law_350 (lv_at hl 5 rfl) ?_
  refine lv_iconst (pc := 352) (v := 1) hx hb dL_law_352 (by decide) ?_
  refine lv_iadd (pc := 353) hx hb dL_law_353 ?_
  refine g_scr (pc := 354) (k := i + 1) C hX hbl hbA hM (sc_in1 hi hL) (sc_ix1 hi hL) dL_law_354 ?_
  refine lv_aload_n (pc := 355) hx hb dL_law_355 rfl (lv_at hl 0 rfl) ?_
  refine lv_iload (pc := 356) hx hb dL_law_356 (lv_at hl 5 rfl) ?_
  refine lv_iconst (pc := 358) (v := 2) hx hb dL_law_358 (by decide) ?_
  refine lv_iadd (pc := 359) hx hb dL_law_359 ?_
  refine g_scr (pc := 360) (k := i + 2) C hX hbl hbA hM (sc_in2 hi hL) (sc_ix2 hi hL) dL_law_360 ?_
  refine lv_aload_n (pc := 361) hx hb dL_law_361 rfl (lv_at hl 0 rfl) ?_
  refine lv_iload (pc := 362) hx hb dL_law_362 (lv_at hl 5 rfl) ?_
  refine lv_iconst (pc := 364) (v := 3) hx hb dL_law_364 (by decide) ?_
  refine lv_iadd (pc := 365) hx hb dL_law_365 ?_
  refine g_scr (pc := 366) (k := i + 3) C hX hbl hbA hM (sc_in3 hi hL) (sc_ix3 hi hL) dL_law_366 ?_
  refine lv_aload_n (pc := 367) hx hb dL_law_367 rfl (lv_at hl 0 rfl) ?_
  refine lv_iload (pc := 368) hx hb dL_law_368 (lv_at hl 5 rfl) ?_
  refine lv_iconst (pc := 370) (v := 4) hx hb dL_law_370 (by decide) ?_
  refine lv_iadd (pc := 371) hx hb dL_law_371 ?_
  refine g_scr (pc := 372) (k := i + 4) C hX hbl hbA hM (sc_in4 hi hL) (sc_ix4 hi hL) dL_law_372 ?_
  refine lv_aload_n (pc := 373) hx hb dL_law_373 rfl (lv_at hl 3 rfl) ?_
  refine g_cSw (pc := 374) C hM hl.1 yw_L_addCondition q3_27 (w_L_addCondition l hl0 G (xs (i + 1)) (xs (i + 2)) (xs (i + 3)) (xs (i + 4)) σ x _ h) rfl rfl ⟨⟨Nat.le_of_ble_eq_true rfl, Nat.le_of_ble_eq_true rfl⟩, Nat.le_trans (Nat.add_le_add_left (by decide) _) hroom.1, Nat.le_trans (Nat.add_le_add_left (by decide) _) hroom.2⟩ (Nat.le_of_ble_eq_true rfl) dL_law_374 (fun r374 u374 H locs h hM => ?_)
  refine W.widen (k := cells + 8) (n := slots + 48) (Nat.add_le_add_left (by decide) _) (Nat.add_le_add_left (by decide) _) ?_
  refine lv_istore (pc := 377) (lv' := [(6, .int r374), (0, .ref b), (1, .ref (g_ad G 60)), (2, .ref (g_ad G 87)), (3, .ref (g_ad G 106)), (4, .ref (g_ad G 107)), (5, .int (nI i))]) hx hb dL_law_377 hl (by decide) rfl (fun ls hl => ?_)
  refine lv_aload_n (pc := 379) hx hb dL_law_379 rfl (lv_at hl 3 rfl) ?_
  refine lv_aload_n (pc := 380) hx hb dL_law_380 rfl (lv_at hl 1 rfl) ?_
  refine lv_iload (pc := 381) hx hb dL_law_381 (lv_at hl 6 rfl) ?_
  refine lv_iconst (pc := 383) (v := 1) hx hb dL_law_383 (by decide) ?_
  refine lv_iadd (pc := 384) hx hb dL_law_384 ?_
  refine g_scr (pc := 385) (k := i + 1) C hX hbl hbA hM (sc_in1 hi hL) (sc_ix1 hi hL) dL_law_385 ?_
  refine lv_aload_n (pc := 386) hx hb dL_law_386 rfl (lv_at hl 1 rfl) ?_
  refine lv_iload (pc := 387) hx hb dL_law_387 (lv_at hl 6 rfl) ?_
  refine lv_iconst (pc := 389) (v := 2) hx hb dL_law_389 (by decide) ?_
  refine lv_iadd (pc := 390) hx hb dL_law_390 ?_
  refine g_scr (pc := 391) (k := i + 2) C hX hbl hbA hM (sc_in2 hi hL) (sc_ix2 hi hL) dL_law_391 ?_
  refine lv_aload_n (pc := 392) hx hb dL_law_392 rfl (lv_at hl 1 rfl) ?_
  refine lv_iload (pc := 393) hx hb dL_law_393 (lv_at hl 6 rfl) ?_
  refine lv_iconst (pc := 395) (v := 3) hx hb dL_law_395 (by decide) ?_
  refine lv_iadd (pc := 396) hx hb dL_law_396 ?_
  refine g_scr (pc := 397) (k := i + 3) C hX hbl hbA hM (sc_in3 hi hL) (sc_ix3 hi hL) dL_law_397 ?_
  refine lv_aload_n (pc := 398) hx hb dL_law_398 rfl (lv_at hl 1 rfl) ?_
  refine lv_iload (pc := 399) hx hb dL_law_399 (lv_at hl 6 rfl) ?_
  refine lv_iconst (pc := 401) (v := 4) hx hb dL_law_401 (by decide) ?_
  refine lv_iadd (pc := 402) hx hb dL_law_402 ?_
  refine g_scr (pc := 403) (k := i + 4) C hX hbl hbA hM (sc_in4 hi hL) (sc_ix4 hi hL) dL_law_403 ?_
  refine g_cVi (pc := 404) C hM hl.1 yv_X12_addCondition q6_119 (by decide) ce_87 rfl (w_X12_addCondition l G u374.2 (xs (i + 1)) (xs (i + 2)) (xs (i + 3)) (xs (i + 4)) u374.1 _ h) rfl rfl ⟨⟨Nat.le_of_ble_eq_true rfl, Nat.le_of_ble_eq_true rfl⟩, hroom.1, hroom.2⟩ (Nat.le_of_ble_eq_true rfl) dL_law_404 (fun r404 s404 H locs h hM => ?_)
  refine lv_istore (pc := 407) (lv' := [(7, .int r404), (6, .int r374), (0, .ref b), (1, .ref (g_ad G 60)), (2, .ref (g_ad G 87)), (3, .ref (g_ad G 106)), (4, .ref (g_ad G 107)), (5, .int (nI i))]) hx hb dL_law_407 hl (by decide) rfl (fun ls hl => ?_)
  refine lv_aload_n (pc := 409) hx hb dL_law_409 rfl (lv_at hl 4 rfl) ?_
  refine g_cVi (pc := 410) C hM hl.1 yv_X12_thrown q6_81 (by decide) ce_87 rfl (w_X12_thrown l G u374.2 s404 _ h) rfl rfl ⟨⟨Nat.le_of_ble_eq_true rfl, Nat.le_of_ble_eq_true rfl⟩, hroom.1, hroom.2⟩ (Nat.le_of_ble_eq_true rfl) dL_law_410 (fun r410 s410 H locs h hM => ?_)
  refine lv_iload (pc := 413) hx hb dL_law_413 (lv_at hl 1 rfl) ?_
  refine lv_icmp_eq (pc := 415) (tgt := 420) hx hb dL_law_415 (by decide) (fun c415 => ?_) (fun c415 => ?_)
  · have h := h.1 c415
    refine lv_iload (pc := 420) hx hb dL_law_420 (lv_at hl 1 rfl) ?_
    refine lv_if_ne (pc := 422) (tgt := 437) hx hb dL_law_422 (by decide) (fun c422 => ?_) (fun c422 => ?_)
    · have h := h.2 c422
      refine lv_goto (pc := 437) (tgt := 3015) hx hb dL_law_437 (by decide) ?_
      exact h _ _ _ hM (lv_sub hl [2, 3, 4, 5, 6, 7] rfl)
    · have h := h.1 c422
      refine lv_aload_n (pc := 425) hx hb dL_law_425 rfl (lv_at hl 5 rfl) ?_
      refine lv_iconst (pc := 426) (v := 0) hx hb dL_law_426 (by decide) ?_
      refine g_lald (pc := 427) C hM dL_law_427 ?_
      refine lv_iload (pc := 428) hx hb dL_law_428 (lv_at hl 0 rfl) ?_
      refine lv_i2l (pc := 430) (v := (r404).toInt64) hx hb dL_law_430 rfl ?_
      refine W.lcmp (pc := 431) hx hb dL_law_431 ?_
      refine lv_if_eq (pc := 432) (tgt := 437) hx hb dL_law_432 (by decide) (fun c432 => ?_) (fun c432 => ?_)
      · have h := h.1 c432
        refine lv_goto (pc := 437) (tgt := 3015) hx hb dL_law_437 (by decide) ?_
        exact h _ _ _ hM (lv_sub hl [2, 3, 4, 5, 6, 7] rfl)
      · have h := h.2 c432
        refine lv_iconst (pc := 435) (v := 0) hx hb dL_law_435 (by decide) ?_
        exact h.elim
  · have h := h.2 c415
    refine lv_iconst (pc := 418) (v := 0) hx hb dL_law_418 (by decide) ?_
    exact h.elim
set_option maxHeartbeats 4000000 in
set_option maxRecDepth 100000 in
theorem law_case_2 {p : Program} {l : Launch} {e : Env} {s : State} {m : MethodId} {below : List Frame} {meth : Method} {c : Code} {Q : State → Prop} (hl0 : l.stackTraces = false) {G : GP} {b L : Nat} {xs : Nat → Int32} (C : g_C p s m #[.ref b] c code 9 RL G) (hX : va_X b L xs s s.heap) (hbl : b < s.heap.size) (hbA : ¬ g_A G b) (hL : L ≤ 3072) {i : Nat} (hi : i + 6 ≤ L) {σ : Sto} {x : XP} {H : Heap} {locs : List Loc} {ls : Array Slot} {cells slots : Nat} (hM : g_M G x σ s H locs) (hl : lv_has ls 9 [(0, .ref b), (1, .ref (g_ad G 60)), (2, .ref (g_ad G 87)), (3, .ref (g_ad G 106)), (4, .ref (g_ad G 107)), (5, .int (nI i))]) (hroom : cells + 8 ≤ room_1.cells ∧ slots + 48 ≤ room_1.slots) (h : DL_2 xs i σ x (fun σ x => ∀ (H : Heap) (locs : List Loc) (ls : Array Slot), g_M G x σ s H locs → lv_has ls 9 [(0, .ref b), (1, .ref (g_ad G 60)), (2, .ref (g_ad G 87)), (3, .ref (g_ad G 106)), (4, .ref (g_ad G 107)), (5, .int (nI i))] → W p l e room_1 s m #[.ref b] below meth c H locs (cells + 8) (slots + 48) Q (F0 m 3015 ls []))) : W p l e room_1 s m #[.ref b] below meth c H locs cells slots Q (F0 m 440 ls []) := by
  unfold DL_2 at h
  have hx := C.1
  have hb := C.2.1
  refine lv_aload_n (pc := 440) hx hb dL_law_440 rfl (lv_at hl 1 rfl) ?_
  refine lv_aload_n (pc := 441) hx hb dL_law_441 rfl (lv_at hl 0 rfl) ?_
  refine lv_iload (pc := 442) hx hb dL_law_442 (lv_at hl 5 rfl) ?_
  refine lv_iconst (pc := 444) (v := 1) hx hb dL_law_444 (by decide) ?_
  refine lv_iadd (pc := 445) hx hb dL_law_445 ?_
  refine g_scr (pc := 446) (k := i + 1) C hX hbl hbA hM (sc_in1 hi hL) (sc_ix1 hi hL) dL_law_446 ?_
  refine lv_aload_n (pc := 447) hx hb dL_law_447 rfl (lv_at hl 3 rfl) ?_
  refine g_cSw (pc := 448) C hM hl.1 yw_L_removeRule q3_54 (w_L_removeRule l hl0 G (xs (i + 1)) σ x _ h) rfl rfl ⟨⟨Nat.le_of_ble_eq_true rfl, Nat.le_of_ble_eq_true rfl⟩, Nat.le_trans (Nat.add_le_add_left (by decide) _) hroom.1, Nat.le_trans (Nat.add_le_add_left (by decide) _) hroom.2⟩ (Nat.le_of_ble_eq_true rfl) dL_law_448 (fun r448 u448 H locs h hM => ?_)
  refine W.widen (k := cells + 8) (n := slots + 48) (Nat.add_le_add_left (by decide) _) (Nat.add_le_add_left (by decide) _) ?_
  refine lv_istore (pc := 451) (lv' := [(6, .int r448), (0, .ref b), (1, .ref (g_ad G 60)), (2, .ref (g_ad G 87)), (3, .ref (g_ad G 106)), (4, .ref (g_ad G 107)), (5, .int (nI i))]) hx hb dL_law_451 hl (by decide) rfl (fun ls hl => ?_)
  refine lv_aload_n (pc := 453) hx hb dL_law_453 rfl (lv_at hl 3 rfl) ?_
  refine lv_aload_n (pc := 454) hx hb dL_law_454 rfl (lv_at hl 1 rfl) ?_
  refine lv_iload (pc := 455) hx hb dL_law_455 (lv_at hl 6 rfl) ?_
  refine lv_iconst (pc := 457) (v := 1) hx hb dL_law_457 (by decide) ?_
  refine lv_iadd (pc := 458) hx hb dL_law_458 ?_
  refine g_scr (pc := 459) (k := i + 1) C hX hbl hbA hM (sc_in1 hi hL) (sc_ix1 hi hL) dL_law_459 ?_
  refine g_cVi (pc := 460) C hM hl.1 yv_X12_removeRule q6_139 (by decide) ce_87 rfl (w_X12_removeRule l G u448.2 (xs (i + 1)) u448.1 _ h) rfl rfl ⟨⟨Nat.le_of_ble_eq_true rfl, Nat.le_of_ble_eq_true rfl⟩, hroom.1, hroom.2⟩ (Nat.le_of_ble_eq_true rfl) dL_law_460 (fun r460 s460 H locs h hM => ?_)
  refine lv_istore (pc := 463) (lv' := [(7, .int r460), (6, .int r448), (0, .ref b), (1, .ref (g_ad G 60)), (2, .ref (g_ad G 87)), (3, .ref (g_ad G 106)), (4, .ref (g_ad G 107)), (5, .int (nI i))]) hx hb dL_law_463 hl (by decide) rfl (fun ls hl => ?_)
  refine lv_aload_n (pc := 465) hx hb dL_law_465 rfl (lv_at hl 4 rfl) ?_
  refine g_cVi (pc := 466) C hM hl.1 yv_X12_thrown q6_81 (by decide) ce_87 rfl (w_X12_thrown l G u448.2 s460 _ h) rfl rfl ⟨⟨Nat.le_of_ble_eq_true rfl, Nat.le_of_ble_eq_true rfl⟩, hroom.1, hroom.2⟩ (Nat.le_of_ble_eq_true rfl) dL_law_466 (fun r466 s466 H locs h hM => ?_)
  refine lv_iload (pc := 469) hx hb dL_law_469 (lv_at hl 1 rfl) ?_
  refine lv_icmp_eq (pc := 471) (tgt := 476) hx hb dL_law_471 (by decide) (fun c471 => ?_) (fun c471 => ?_)
  · have h := h.1 c471
    refine lv_iload (pc := 476) hx hb dL_law_476 (lv_at hl 1 rfl) ?_
    refine lv_if_ne (pc := 478) (tgt := 493) hx hb dL_law_478 (by decide) (fun c478 => ?_) (fun c478 => ?_)
    · have h := h.2 c478
      refine lv_goto (pc := 493) (tgt := 3015) hx hb dL_law_493 (by decide) ?_
      exact h _ _ _ hM (lv_sub hl [2, 3, 4, 5, 6, 7] rfl)
    · have h := h.1 c478
      refine lv_aload_n (pc := 481) hx hb dL_law_481 rfl (lv_at hl 5 rfl) ?_
      refine lv_iconst (pc := 482) (v := 0) hx hb dL_law_482 (by decide) ?_
      refine g_lald (pc := 483) C hM dL_law_483 ?_
      refine lv_iload (pc := 484) hx hb dL_law_484 (lv_at hl 0 rfl) ?_
      refine lv_i2l (pc := 486) (v := (r460).toInt64) hx hb dL_law_486 rfl ?_
      refine W.lcmp (pc := 487) hx hb dL_law_487 ?_
      refine lv_if_eq (pc := 488) (tgt := 493) hx hb dL_law_488 (by decide) (fun c488 => ?_) (fun c488 => ?_)
      · have h := h.1 c488
        refine lv_goto (pc := 493) (tgt := 3015) hx hb dL_law_493 (by decide) ?_
        exact h _ _ _ hM (lv_sub hl [2, 3, 4, 5, 6, 7] rfl)
      · have h := h.2 c488
        refine lv_iconst (pc := 491) (v := 0) hx hb dL_law_491 (by decide) ?_
        exact h.elim
  · have h := h.2 c471
    refine lv_iconst (pc := 474) (v := 0) hx hb dL_law_474 (by decide) ?_
    exact h.elim
set_option maxHeartbeats 4000000 in
set_option maxRecDepth 100000 in
theorem law_case_3 {p : Program} {l : Launch} {e : Env} {s : State} {m : MethodId} {below : List Frame} {meth : Method} {c : Code} {Q : State → Prop} (hl0 : l.stackTraces = false) {G : GP} {b L : Nat} {xs : Nat → Int32} (C : g_C p s m #[.ref b] c code 9 RL G) (hX : va_X b L xs s s.heap) (hbl : b < s.heap.size) (hbA : ¬ g_A G b) (hL : L ≤ 3072) {i : Nat} (hi : i + 6 ≤ L) {σ : Sto} {x : XP} {H : Heap} {locs : List Loc} {ls : Array Slot} {cells slots : Nat} (hM : g_M G x σ s H locs) (hl : lv_has ls 9 [(0, .ref b), (1, .ref (g_ad G 60)), (2, .ref (g_ad G 87)), (3, .ref (g_ad G 106)), (4, .ref (g_ad G 107)), (5, .int (nI i))]) (hroom : cells + 8 ≤ room_1.cells ∧ slots + 48 ≤ room_1.slots) (h : DL_3 xs i σ x (fun σ x => ∀ (H : Heap) (locs : List Loc) (ls : Array Slot), g_M G x σ s H locs → lv_has ls 9 [(0, .ref b), (1, .ref (g_ad G 60)), (2, .ref (g_ad G 87)), (3, .ref (g_ad G 106)), (4, .ref (g_ad G 107)), (5, .int (nI i))] → W p l e room_1 s m #[.ref b] below meth c H locs (cells + 8) (slots + 48) Q (F0 m 3015 ls []))) : W p l e room_1 s m #[.ref b] below meth c H locs cells slots Q (F0 m 496 ls []) := by
  unfold DL_3 at h
  have hx := C.1
  have hb := C.2.1
  refine lv_aload_n (pc := 496) hx hb dL_law_496 rfl (lv_at hl 1 rfl) ?_
  refine lv_aload_n (pc := 497) hx hb dL_law_497 rfl (lv_at hl 0 rfl) ?_
  refine lv_iload (pc := 498) hx hb dL_law_498 (lv_at hl 5 rfl) ?_
  refine lv_iconst (pc := 500) (v := 1) hx hb dL_law_500 (by decide) ?_
  refine lv_iadd (pc := 501) hx hb dL_law_501 ?_
  refine g_scr (pc := 502) (k := i + 1) C hX hbl hbA hM (sc_in1 hi hL) (sc_ix1 hi hL) dL_law_502 ?_
  refine lv_aload_n (pc := 503) hx hb dL_law_503 rfl (lv_at hl 0 rfl) ?_
  refine lv_iload (pc := 504) hx hb dL_law_504 (lv_at hl 5 rfl) ?_
  refine lv_iconst (pc := 506) (v := 2) hx hb dL_law_506 (by decide) ?_
  refine lv_iadd (pc := 507) hx hb dL_law_507 ?_
  refine g_scr (pc := 508) (k := i + 2) C hX hbl hbA hM (sc_in2 hi hL) (sc_ix2 hi hL) dL_law_508 ?_
  refine lv_aload_n (pc := 509) hx hb dL_law_509 rfl (lv_at hl 3 rfl) ?_
  refine g_cSw (pc := 510) C hM hl.1 yw_L_setPriority q3_65 (w_L_setPriority l hl0 G (xs (i + 1)) (xs (i + 2)) σ x _ h) rfl rfl ⟨⟨Nat.le_of_ble_eq_true rfl, Nat.le_of_ble_eq_true rfl⟩, Nat.le_trans (Nat.add_le_add_left (by decide) _) hroom.1, Nat.le_trans (Nat.add_le_add_left (by decide) _) hroom.2⟩ (Nat.le_of_ble_eq_true rfl) dL_law_510 (fun r510 u510 H locs h hM => ?_)
  refine W.widen (k := cells + 8) (n := slots + 48) (Nat.add_le_add_left (by decide) _) (Nat.add_le_add_left (by decide) _) ?_
  refine lv_istore (pc := 513) (lv' := [(6, .int r510), (0, .ref b), (1, .ref (g_ad G 60)), (2, .ref (g_ad G 87)), (3, .ref (g_ad G 106)), (4, .ref (g_ad G 107)), (5, .int (nI i))]) hx hb dL_law_513 hl (by decide) rfl (fun ls hl => ?_)
  refine lv_aload_n (pc := 515) hx hb dL_law_515 rfl (lv_at hl 3 rfl) ?_
  refine lv_aload_n (pc := 516) hx hb dL_law_516 rfl (lv_at hl 1 rfl) ?_
  refine lv_iload (pc := 517) hx hb dL_law_517 (lv_at hl 6 rfl) ?_
  refine lv_iconst (pc := 519) (v := 1) hx hb dL_law_519 (by decide) ?_
  refine lv_iadd (pc := 520) hx hb dL_law_520 ?_
  refine g_scr (pc := 521) (k := i + 1) C hX hbl hbA hM (sc_in1 hi hL) (sc_ix1 hi hL) dL_law_521 ?_
  refine lv_aload_n (pc := 522) hx hb dL_law_522 rfl (lv_at hl 1 rfl) ?_
  refine lv_iload (pc := 523) hx hb dL_law_523 (lv_at hl 6 rfl) ?_
  refine lv_iconst (pc := 525) (v := 2) hx hb dL_law_525 (by decide) ?_
  refine lv_iadd (pc := 526) hx hb dL_law_526 ?_
  refine g_scr (pc := 527) (k := i + 2) C hX hbl hbA hM (sc_in2 hi hL) (sc_ix2 hi hL) dL_law_527 ?_
  refine g_cVi (pc := 528) C hM hl.1 yv_X12_setPriority q6_147 (by decide) ce_87 rfl (w_X12_setPriority l G u510.2 (xs (i + 1)) (xs (i + 2)) u510.1 _ h) rfl rfl ⟨⟨Nat.le_of_ble_eq_true rfl, Nat.le_of_ble_eq_true rfl⟩, hroom.1, hroom.2⟩ (Nat.le_of_ble_eq_true rfl) dL_law_528 (fun r528 s528 H locs h hM => ?_)
  refine lv_istore (pc := 531) (lv' := [(7, .int r528), (6, .int r510), (0, .ref b), (1, .ref (g_ad G 60)), (2, .ref (g_ad G 87)), (3, .ref (g_ad G 106)), (4, .ref (g_ad G 107)), (5, .int (nI i))]) hx hb dL_law_531 hl (by decide) rfl (fun ls hl => ?_)
  refine lv_aload_n (pc := 533) hx hb dL_law_533 rfl (lv_at hl 4 rfl) ?_
  refine g_cVi (pc := 534) C hM hl.1 yv_X12_thrown q6_81 (by decide) ce_87 rfl (w_X12_thrown l G u510.2 s528 _ h) rfl rfl ⟨⟨Nat.le_of_ble_eq_true rfl, Nat.le_of_ble_eq_true rfl⟩, hroom.1, hroom.2⟩ (Nat.le_of_ble_eq_true rfl) dL_law_534 (fun r534 s534 H locs h hM => ?_)
  refine lv_iload (pc := 537) hx hb dL_law_537 (lv_at hl 1 rfl) ?_
  refine lv_icmp_eq (pc := 539) (tgt := 544) hx hb dL_law_539 (by decide) (fun c539 => ?_) (fun c539 => ?_)
  · have h := h.1 c539
    refine lv_iload (pc := 544) hx hb dL_law_544 (lv_at hl 1 rfl) ?_
    refine lv_if_ne (pc := 546) (tgt := 561) hx hb dL_law_546 (by decide) (fun c546 => ?_) (fun c546 => ?_)
    · have h := h.2 c546
      refine lv_goto (pc := 561) (tgt := 3015) hx hb dL_law_561 (by decide) ?_
      exact h _ _ _ hM (lv_sub hl [2, 3, 4, 5, 6, 7] rfl)
    · have h := h.1 c546
      refine lv_aload_n (pc := 549) hx hb dL_law_549 rfl (lv_at hl 5 rfl) ?_
      refine lv_iconst (pc := 550) (v := 0) hx hb dL_law_550 (by decide) ?_
      refine g_lald (pc := 551) C hM dL_law_551 ?_
      refine lv_iload (pc := 552) hx hb dL_law_552 (lv_at hl 0 rfl) ?_
      refine lv_i2l (pc := 554) (v := (r528).toInt64) hx hb dL_law_554 rfl ?_
      refine W.lcmp (pc := 555) hx hb dL_law_555 ?_
      refine lv_if_eq (pc := 556) (tgt := 561) hx hb dL_law_556 (by decide) (fun c556 => ?_) (fun c556 => ?_)
      · have h := h.1 c556
        refine lv_goto (pc := 561) (tgt := 3015) hx hb dL_law_561 (by decide) ?_
        exact h _ _ _ hM (lv_sub hl [2, 3, 4, 5, 6, 7] rfl)
      · have h := h.2 c556
        refine lv_iconst (pc := 559) (v := 0) hx hb dL_law_559 (by decide) ?_
        exact h.elim
  · have h := h.2 c539
    refine lv_iconst (pc := 542) (v := 0) hx hb dL_law_542 (by decide) ?_
    exact h.elim
set_option maxHeartbeats 4000000 in
set_option maxRecDepth 100000 in
theorem law_case_4 {p : Program} {l : Launch} {e : Env} {s : State} {m : MethodId} {below : List Frame} {meth : Method} {c : Code} {Q : State → Prop} (hl0 : l.stackTraces = false) {G : GP} {b L : Nat} {xs : Nat → Int32} (C : g_C p s m #[.ref b] c code 9 RL G) (hX : va_X b L xs s s.heap) (hbl : b < s.heap.size) (hbA : ¬ g_A G b) (hL : L ≤ 3072) {i : Nat} (hi : i + 6 ≤ L) {σ : Sto} {x : XP} {H : Heap} {locs : List Loc} {ls : Array Slot} {cells slots : Nat} (hM : g_M G x σ s H locs) (hl : lv_has ls 9 [(0, .ref b), (1, .ref (g_ad G 60)), (2, .ref (g_ad G 87)), (3, .ref (g_ad G 106)), (4, .ref (g_ad G 107)), (5, .int (nI i))]) (hroom : cells + 8 ≤ room_1.cells ∧ slots + 48 ≤ room_1.slots) (h : DL_4 xs i σ x (fun σ x => ∀ (H : Heap) (locs : List Loc) (ls : Array Slot), g_M G x σ s H locs → lv_has ls 9 [(0, .ref b), (1, .ref (g_ad G 60)), (2, .ref (g_ad G 87)), (3, .ref (g_ad G 106)), (4, .ref (g_ad G 107)), (5, .int (nI i))] → W p l e room_1 s m #[.ref b] below meth c H locs (cells + 8) (slots + 48) Q (F0 m 3015 ls []))) : W p l e room_1 s m #[.ref b] below meth c H locs cells slots Q (F0 m 564 ls []) := by
  unfold DL_4 at h
  have hx := C.1
  have hb := C.2.1
  refine lv_aload_n (pc := 564) hx hb dL_law_564 rfl (lv_at hl 1 rfl) ?_
  refine lv_aload_n (pc := 565) hx hb dL_law_565 rfl (lv_at hl 0 rfl) ?_
  refine lv_iload (pc := 566) hx hb dL_law_566 (lv_at hl 5 rfl) ?_
  refine lv_iconst (pc := 568) (v := 1) hx hb dL_law_568 (by decide) ?_
  refine lv_iadd (pc := 569) hx hb dL_law_569 ?_
  refine g_scr (pc := 570) (k := i + 1) C hX hbl hbA hM (sc_in1 hi hL) (sc_ix1 hi hL) dL_law_570 ?_
  refine lv_aload_n (pc := 571) hx hb dL_law_571 rfl (lv_at hl 0 rfl) ?_
  refine lv_iload (pc := 572) hx hb dL_law_572 (lv_at hl 5 rfl) ?_
  refine lv_iconst (pc := 574) (v := 2) hx hb dL_law_574 (by decide) ?_
  refine lv_iadd (pc := 575) hx hb dL_law_575 ?_
  refine g_scr (pc := 576) (k := i + 2) C hX hbl hbA hM (sc_in2 hi hL) (sc_ix2 hi hL) dL_law_576 ?_
  refine lv_aload_n (pc := 577) hx hb dL_law_577 rfl (lv_at hl 3 rfl) ?_
  refine g_cSw (pc := 578) C hM hl.1 yw_L_setWay q3_76 (w_L_setWay l hl0 G (xs (i + 1)) (xs (i + 2)) σ x _ h) rfl rfl ⟨⟨Nat.le_of_ble_eq_true rfl, Nat.le_of_ble_eq_true rfl⟩, Nat.le_trans (Nat.add_le_add_left (by decide) _) hroom.1, Nat.le_trans (Nat.add_le_add_left (by decide) _) hroom.2⟩ (Nat.le_of_ble_eq_true rfl) dL_law_578 (fun r578 u578 H locs h hM => ?_)
  refine W.widen (k := cells + 8) (n := slots + 48) (Nat.add_le_add_left (by decide) _) (Nat.add_le_add_left (by decide) _) ?_
  refine lv_istore (pc := 581) (lv' := [(6, .int r578), (0, .ref b), (1, .ref (g_ad G 60)), (2, .ref (g_ad G 87)), (3, .ref (g_ad G 106)), (4, .ref (g_ad G 107)), (5, .int (nI i))]) hx hb dL_law_581 hl (by decide) rfl (fun ls hl => ?_)
  refine lv_aload_n (pc := 583) hx hb dL_law_583 rfl (lv_at hl 3 rfl) ?_
  refine lv_aload_n (pc := 584) hx hb dL_law_584 rfl (lv_at hl 1 rfl) ?_
  refine lv_iload (pc := 585) hx hb dL_law_585 (lv_at hl 6 rfl) ?_
  refine lv_iconst (pc := 587) (v := 1) hx hb dL_law_587 (by decide) ?_
  refine lv_iadd (pc := 588) hx hb dL_law_588 ?_
  refine g_scr (pc := 589) (k := i + 1) C hX hbl hbA hM (sc_in1 hi hL) (sc_ix1 hi hL) dL_law_589 ?_
  refine lv_aload_n (pc := 590) hx hb dL_law_590 rfl (lv_at hl 1 rfl) ?_
  refine lv_iload (pc := 591) hx hb dL_law_591 (lv_at hl 6 rfl) ?_
  refine lv_iconst (pc := 593) (v := 2) hx hb dL_law_593 (by decide) ?_
  refine lv_iadd (pc := 594) hx hb dL_law_594 ?_
  refine g_scr (pc := 595) (k := i + 2) C hX hbl hbA hM (sc_in2 hi hL) (sc_ix2 hi hL) dL_law_595 ?_
  refine g_cVi (pc := 596) C hM hl.1 yv_X12_setWay q6_151 (by decide) ce_87 rfl (w_X12_setWay l G u578.2 (xs (i + 1)) (xs (i + 2)) u578.1 _ h) rfl rfl ⟨⟨Nat.le_of_ble_eq_true rfl, Nat.le_of_ble_eq_true rfl⟩, hroom.1, hroom.2⟩ (Nat.le_of_ble_eq_true rfl) dL_law_596 (fun r596 s596 H locs h hM => ?_)
  refine lv_istore (pc := 599) (lv' := [(7, .int r596), (6, .int r578), (0, .ref b), (1, .ref (g_ad G 60)), (2, .ref (g_ad G 87)), (3, .ref (g_ad G 106)), (4, .ref (g_ad G 107)), (5, .int (nI i))]) hx hb dL_law_599 hl (by decide) rfl (fun ls hl => ?_)
  refine lv_aload_n (pc := 601) hx hb dL_law_601 rfl (lv_at hl 4 rfl) ?_
  refine g_cVi (pc := 602) C hM hl.1 yv_X12_thrown q6_81 (by decide) ce_87 rfl (w_X12_thrown l G u578.2 s596 _ h) rfl rfl ⟨⟨Nat.le_of_ble_eq_true rfl, Nat.le_of_ble_eq_true rfl⟩, hroom.1, hroom.2⟩ (Nat.le_of_ble_eq_true rfl) dL_law_602 (fun r602 s602 H locs h hM => ?_)
  refine lv_iload (pc := 605) hx hb dL_law_605 (lv_at hl 1 rfl) ?_
  refine lv_icmp_eq (pc := 607) (tgt := 612) hx hb dL_law_607 (by decide) (fun c607 => ?_) (fun c607 => ?_)
  · have h := h.1 c607
    refine lv_iload (pc := 612) hx hb dL_law_612 (lv_at hl 1 rfl) ?_
    refine lv_if_ne (pc := 614) (tgt := 629) hx hb dL_law_614 (by decide) (fun c614 => ?_) (fun c614 => ?_)
    · have h := h.2 c614
      refine lv_goto (pc := 629) (tgt := 3015) hx hb dL_law_629 (by decide) ?_
      exact h _ _ _ hM (lv_sub hl [2, 3, 4, 5, 6, 7] rfl)
    · have h := h.1 c614
      refine lv_aload_n (pc := 617) hx hb dL_law_617 rfl (lv_at hl 5 rfl) ?_
      refine lv_iconst (pc := 618) (v := 0) hx hb dL_law_618 (by decide) ?_
      refine g_lald (pc := 619) C hM dL_law_619 ?_
      refine lv_iload (pc := 620) hx hb dL_law_620 (lv_at hl 0 rfl) ?_
      refine lv_i2l (pc := 622) (v := (r596).toInt64) hx hb dL_law_622 rfl ?_
      refine W.lcmp (pc := 623) hx hb dL_law_623 ?_
      refine lv_if_eq (pc := 624) (tgt := 629) hx hb dL_law_624 (by decide) (fun c624 => ?_) (fun c624 => ?_)
      · have h := h.1 c624
        refine lv_goto (pc := 629) (tgt := 3015) hx hb dL_law_629 (by decide) ?_
        exact h _ _ _ hM (lv_sub hl [2, 3, 4, 5, 6, 7] rfl)
      · have h := h.2 c624
        refine lv_iconst (pc := 627) (v := 0) hx hb dL_law_627 (by decide) ?_
        exact h.elim
  · have h := h.2 c607
    refine lv_iconst (pc := 610) (v := 0) hx hb dL_law_610 (by decide) ?_
    exact h.elim
set_option maxHeartbeats 4000000 in
set_option maxRecDepth 100000 in
theorem law_case_5 {p : Program} {l : Launch} {e : Env} {s : State} {m : MethodId} {below : List Frame} {meth : Method} {c : Code} {Q : State → Prop} (hl0 : l.stackTraces = false) {G : GP} {b L : Nat} {xs : Nat → Int32} (C : g_C p s m #[.ref b] c code 9 RL G) (hX : va_X b L xs s s.heap) (hbl : b < s.heap.size) (hbA : ¬ g_A G b) (hL : L ≤ 3072) {i : Nat} (hi : i + 6 ≤ L) {σ : Sto} {x : XP} {H : Heap} {locs : List Loc} {ls : Array Slot} {cells slots : Nat} (hM : g_M G x σ s H locs) (hl : lv_has ls 9 [(0, .ref b), (1, .ref (g_ad G 60)), (2, .ref (g_ad G 87)), (3, .ref (g_ad G 106)), (4, .ref (g_ad G 107)), (5, .int (nI i))]) (hroom : cells + 8 ≤ room_1.cells ∧ slots + 48 ≤ room_1.slots) (h : DL_5 xs i σ x (fun σ x => ∀ (H : Heap) (locs : List Loc) (ls : Array Slot), g_M G x σ s H locs → lv_has ls 9 [(0, .ref b), (1, .ref (g_ad G 60)), (2, .ref (g_ad G 87)), (3, .ref (g_ad G 106)), (4, .ref (g_ad G 107)), (5, .int (nI i))] → W p l e room_1 s m #[.ref b] below meth c H locs (cells + 8) (slots + 48) Q (F0 m 3015 ls []))) : W p l e room_1 s m #[.ref b] below meth c H locs cells slots Q (F0 m 632 ls []) := by
  unfold DL_5 at h
  have hx := C.1
  have hb := C.2.1
  refine lv_aload_n (pc := 632) hx hb dL_law_632 rfl (lv_at hl 1 rfl) ?_
  refine lv_aload_n (pc := 633) hx hb dL_law_633 rfl (lv_at hl 0 rfl) ?_
  refine lv_iload (pc := 634) hx hb dL_law_634 (lv_at hl 5 rfl) ?_
  refine lv_iconst (pc := 636) (v := 1) hx hb dL_law_636 (by decide) ?_
  refine lv_iadd (pc := 637) hx hb dL_law_637 ?_
  refine g_scr (pc := 638) (k := i + 1) C hX hbl hbA hM (sc_in1 hi hL) (sc_ix1 hi hL) dL_law_638 ?_
  refine lv_aload_n (pc := 639) hx hb dL_law_639 rfl (lv_at hl 3 rfl) ?_
  refine g_cSw (pc := 640) C hM hl.1 yw_L_setTopWay q3_83 (w_L_setTopWay l hl0 G (xs (i + 1)) σ x _ h) rfl rfl ⟨⟨Nat.le_of_ble_eq_true rfl, Nat.le_of_ble_eq_true rfl⟩, Nat.le_trans (Nat.add_le_add_left (by decide) _) hroom.1, Nat.le_trans (Nat.add_le_add_left (by decide) _) hroom.2⟩ (Nat.le_of_ble_eq_true rfl) dL_law_640 (fun r640 u640 H locs h hM => ?_)
  refine W.widen (k := cells + 8) (n := slots + 48) (Nat.add_le_add_left (by decide) _) (Nat.add_le_add_left (by decide) _) ?_
  refine lv_istore (pc := 643) (lv' := [(6, .int r640), (0, .ref b), (1, .ref (g_ad G 60)), (2, .ref (g_ad G 87)), (3, .ref (g_ad G 106)), (4, .ref (g_ad G 107)), (5, .int (nI i))]) hx hb dL_law_643 hl (by decide) rfl (fun ls hl => ?_)
  refine lv_aload_n (pc := 645) hx hb dL_law_645 rfl (lv_at hl 3 rfl) ?_
  refine lv_aload_n (pc := 646) hx hb dL_law_646 rfl (lv_at hl 1 rfl) ?_
  refine lv_iload (pc := 647) hx hb dL_law_647 (lv_at hl 6 rfl) ?_
  refine lv_iconst (pc := 649) (v := 1) hx hb dL_law_649 (by decide) ?_
  refine lv_iadd (pc := 650) hx hb dL_law_650 ?_
  refine g_scr (pc := 651) (k := i + 1) C hX hbl hbA hM (sc_in1 hi hL) (sc_ix1 hi hL) dL_law_651 ?_
  refine g_cVi (pc := 652) C hM hl.1 yv_X12_setTopWay q6_159 (by decide) ce_87 rfl (w_X12_setTopWay l G u640.2 (xs (i + 1)) u640.1 _ h) rfl rfl ⟨⟨Nat.le_of_ble_eq_true rfl, Nat.le_of_ble_eq_true rfl⟩, hroom.1, hroom.2⟩ (Nat.le_of_ble_eq_true rfl) dL_law_652 (fun r652 s652 H locs h hM => ?_)
  refine lv_istore (pc := 655) (lv' := [(7, .int r652), (6, .int r640), (0, .ref b), (1, .ref (g_ad G 60)), (2, .ref (g_ad G 87)), (3, .ref (g_ad G 106)), (4, .ref (g_ad G 107)), (5, .int (nI i))]) hx hb dL_law_655 hl (by decide) rfl (fun ls hl => ?_)
  refine lv_aload_n (pc := 657) hx hb dL_law_657 rfl (lv_at hl 4 rfl) ?_
  refine g_cVi (pc := 658) C hM hl.1 yv_X12_thrown q6_81 (by decide) ce_87 rfl (w_X12_thrown l G u640.2 s652 _ h) rfl rfl ⟨⟨Nat.le_of_ble_eq_true rfl, Nat.le_of_ble_eq_true rfl⟩, hroom.1, hroom.2⟩ (Nat.le_of_ble_eq_true rfl) dL_law_658 (fun r658 s658 H locs h hM => ?_)
  refine lv_iload (pc := 661) hx hb dL_law_661 (lv_at hl 1 rfl) ?_
  refine lv_icmp_eq (pc := 663) (tgt := 668) hx hb dL_law_663 (by decide) (fun c663 => ?_) (fun c663 => ?_)
  · have h := h.1 c663
    refine lv_iload (pc := 668) hx hb dL_law_668 (lv_at hl 1 rfl) ?_
    refine lv_if_ne (pc := 670) (tgt := 685) hx hb dL_law_670 (by decide) (fun c670 => ?_) (fun c670 => ?_)
    · have h := h.2 c670
      refine lv_goto (pc := 685) (tgt := 3015) hx hb dL_law_685 (by decide) ?_
      exact h _ _ _ hM (lv_sub hl [2, 3, 4, 5, 6, 7] rfl)
    · have h := h.1 c670
      refine lv_aload_n (pc := 673) hx hb dL_law_673 rfl (lv_at hl 5 rfl) ?_
      refine lv_iconst (pc := 674) (v := 0) hx hb dL_law_674 (by decide) ?_
      refine g_lald (pc := 675) C hM dL_law_675 ?_
      refine lv_iload (pc := 676) hx hb dL_law_676 (lv_at hl 0 rfl) ?_
      refine lv_i2l (pc := 678) (v := (r652).toInt64) hx hb dL_law_678 rfl ?_
      refine W.lcmp (pc := 679) hx hb dL_law_679 ?_
      refine lv_if_eq (pc := 680) (tgt := 685) hx hb dL_law_680 (by decide) (fun c680 => ?_) (fun c680 => ?_)
      · have h := h.1 c680
        refine lv_goto (pc := 685) (tgt := 3015) hx hb dL_law_685 (by decide) ?_
        exact h _ _ _ hM (lv_sub hl [2, 3, 4, 5, 6, 7] rfl)
      · have h := h.2 c680
        refine lv_iconst (pc := 683) (v := 0) hx hb dL_law_683 (by decide) ?_
        exact h.elim
  · have h := h.2 c663
    refine lv_iconst (pc := 666) (v := 0) hx hb dL_law_666 (by decide) ?_
    exact h.elim
set_option maxHeartbeats 4000000 in
set_option maxRecDepth 100000 in
theorem law_case_6 {p : Program} {l : Launch} {e : Env} {s : State} {m : MethodId} {below : List Frame} {meth : Method} {c : Code} {Q : State → Prop} (hl0 : l.stackTraces = false) {G : GP} {b L : Nat} {xs : Nat → Int32} (C : g_C p s m #[.ref b] c code 9 RL G) (hX : va_X b L xs s s.heap) (hbl : b < s.heap.size) (hbA : ¬ g_A G b) (hL : L ≤ 3072) {i : Nat} (hi : i + 6 ≤ L) {σ : Sto} {x : XP} {H : Heap} {locs : List Loc} {ls : Array Slot} {cells slots : Nat} (hM : g_M G x σ s H locs) (hl : lv_has ls 9 [(0, .ref b), (1, .ref (g_ad G 60)), (2, .ref (g_ad G 87)), (3, .ref (g_ad G 106)), (4, .ref (g_ad G 107)), (5, .int (nI i))]) (hroom : cells + 8 ≤ room_1.cells ∧ slots + 48 ≤ room_1.slots) (h : DL_6 xs i σ x (fun σ x => ∀ (H : Heap) (locs : List Loc) (ls : Array Slot), g_M G x σ s H locs → lv_has ls 9 [(0, .ref b), (1, .ref (g_ad G 60)), (2, .ref (g_ad G 87)), (3, .ref (g_ad G 106)), (4, .ref (g_ad G 107)), (5, .int (nI i))] → W p l e room_1 s m #[.ref b] below meth c H locs (cells + 8) (slots + 48) Q (F0 m 3015 ls []))) : W p l e room_1 s m #[.ref b] below meth c H locs cells slots Q (F0 m 688 ls []) := by
  unfold DL_6 at h
  have hx := C.1
  have hb := C.2.1
  refine lv_aload_n (pc := 688) hx hb dL_law_688 rfl (lv_at hl 1 rfl) ?_
  refine g_cVi (pc := 689) C hM hl.1 yv_X11_ruleCount q2_54 (by decide) ce_60 rfl (w_X11_ruleCount l G x σ _ h) rfl rfl ⟨⟨Nat.le_of_ble_eq_true rfl, Nat.le_of_ble_eq_true rfl⟩, Nat.le_trans (Nat.le_add_right _ _) hroom.1, Nat.le_trans (Nat.le_add_right _ _) hroom.2⟩ (Nat.le_of_ble_eq_true rfl) dL_law_689 (fun r689 s689 H locs h hM => ?_)
  refine W.widen (k := cells + 8) (n := slots + 48) (Nat.add_le_add_left (by decide) _) (Nat.add_le_add_left (by decide) _) ?_
  refine lv_aload_n (pc := 692) hx hb dL_law_692 rfl (lv_at hl 2 rfl) ?_
  refine g_cVi (pc := 693) C hM hl.1 yv_X12_ruleCount q6_163 (by decide) ce_87 rfl (w_X12_ruleCount l G x s689 _ h) rfl rfl ⟨⟨Nat.le_of_ble_eq_true rfl, Nat.le_of_ble_eq_true rfl⟩, hroom.1, hroom.2⟩ (Nat.le_of_ble_eq_true rfl) dL_law_693 (fun r693 s693 H locs h hM => ?_)
  refine lv_icmp_eq (pc := 696) (tgt := 3015) hx hb dL_law_696 (by decide) (fun c696 => ?_) (fun c696 => ?_)
  · have h := h.1 c696
    exact h _ _ _ hM (lv_sub hl [0, 1, 2, 3, 4, 5] rfl)
  · have h := h.2 c696
    refine lv_iconst (pc := 699) (v := 0) hx hb dL_law_699 (by decide) ?_
    exact h.elim
set_option maxHeartbeats 4000000 in
set_option maxRecDepth 100000 in
theorem law_case_7 {p : Program} {l : Launch} {e : Env} {s : State} {m : MethodId} {below : List Frame} {meth : Method} {c : Code} {Q : State → Prop} (hl0 : l.stackTraces = false) {G : GP} {b L : Nat} {xs : Nat → Int32} (C : g_C p s m #[.ref b] c code 9 RL G) (hX : va_X b L xs s s.heap) (hbl : b < s.heap.size) (hbA : ¬ g_A G b) (hL : L ≤ 3072) {i : Nat} (hi : i + 6 ≤ L) {σ : Sto} {x : XP} {H : Heap} {locs : List Loc} {ls : Array Slot} {cells slots : Nat} (hM : g_M G x σ s H locs) (hl : lv_has ls 9 [(0, .ref b), (1, .ref (g_ad G 60)), (2, .ref (g_ad G 87)), (3, .ref (g_ad G 106)), (4, .ref (g_ad G 107)), (5, .int (nI i))]) (hroom : cells + 8 ≤ room_1.cells ∧ slots + 48 ≤ room_1.slots) (h : DL_7 xs i σ x (fun σ x => ∀ (H : Heap) (locs : List Loc) (ls : Array Slot), g_M G x σ s H locs → lv_has ls 9 [(0, .ref b), (1, .ref (g_ad G 60)), (2, .ref (g_ad G 87)), (3, .ref (g_ad G 106)), (4, .ref (g_ad G 107)), (5, .int (nI i))] → W p l e room_1 s m #[.ref b] below meth c H locs (cells + 8) (slots + 48) Q (F0 m 3015 ls []))) : W p l e room_1 s m #[.ref b] below meth c H locs cells slots Q (F0 m 701 ls []) := by
  unfold DL_7 at h
  have hx := C.1
  have hb := C.2.1
  refine lv_aload_n (pc := 701) hx hb dL_law_701 rfl (lv_at hl 1 rfl) ?_
  refine lv_aload_n (pc := 702) hx hb dL_law_702 rfl (lv_at hl 0 rfl) ?_
  refine lv_iload (pc := 703) hx hb dL_law_703 (lv_at hl 5 rfl) ?_
  refine lv_iconst (pc := 705) (v := 1) hx hb dL_law_705 (by decide) ?_
  refine lv_iadd (pc := 706) hx hb dL_law_706 ?_
  refine g_scr (pc := 707) (k := i + 1) C hX hbl hbA hM (sc_in1 hi hL) (sc_ix1 hi hL) dL_law_707 ?_
  refine lv_aload_n (pc := 708) hx hb dL_law_708 rfl (lv_at hl 0 rfl) ?_
  refine lv_iload (pc := 709) hx hb dL_law_709 (lv_at hl 5 rfl) ?_
  refine lv_iconst (pc := 711) (v := 2) hx hb dL_law_711 (by decide) ?_
  refine lv_iadd (pc := 712) hx hb dL_law_712 ?_
  refine g_scr (pc := 713) (k := i + 2) C hX hbl hbA hM (sc_in2 hi hL) (sc_ix2 hi hL) dL_law_713 ?_
  refine lv_aload_n (pc := 714) hx hb dL_law_714 rfl (lv_at hl 3 rfl) ?_
  refine g_cSw (pc := 715) C hM hl.1 yw_L_rule q3_90 (w_L_rule l hl0 G (xs (i + 1)) (xs (i + 2)) σ x _ h) rfl rfl ⟨⟨Nat.le_of_ble_eq_true rfl, Nat.le_of_ble_eq_true rfl⟩, Nat.le_trans (Nat.add_le_add_left (by decide) _) hroom.1, Nat.le_trans (Nat.add_le_add_left (by decide) _) hroom.2⟩ (Nat.le_of_ble_eq_true rfl) dL_law_715 (fun r715 u715 H locs h hM => ?_)
  refine W.widen (k := cells + 8) (n := slots + 48) (Nat.add_le_add_left (by decide) _) (Nat.add_le_add_left (by decide) _) ?_
  refine lv_istore (pc := 718) (lv' := [(6, .int r715), (0, .ref b), (1, .ref (g_ad G 60)), (2, .ref (g_ad G 87)), (3, .ref (g_ad G 106)), (4, .ref (g_ad G 107)), (5, .int (nI i))]) hx hb dL_law_718 hl (by decide) rfl (fun ls hl => ?_)
  refine lv_aload_n (pc := 720) hx hb dL_law_720 rfl (lv_at hl 3 rfl) ?_
  refine lv_aload_n (pc := 721) hx hb dL_law_721 rfl (lv_at hl 1 rfl) ?_
  refine lv_iload (pc := 722) hx hb dL_law_722 (lv_at hl 6 rfl) ?_
  refine lv_iconst (pc := 724) (v := 1) hx hb dL_law_724 (by decide) ?_
  refine lv_iadd (pc := 725) hx hb dL_law_725 ?_
  refine g_scr (pc := 726) (k := i + 1) C hX hbl hbA hM (sc_in1 hi hL) (sc_ix1 hi hL) dL_law_726 ?_
  refine lv_aload_n (pc := 727) hx hb dL_law_727 rfl (lv_at hl 1 rfl) ?_
  refine lv_iload (pc := 728) hx hb dL_law_728 (lv_at hl 6 rfl) ?_
  refine lv_iconst (pc := 730) (v := 2) hx hb dL_law_730 (by decide) ?_
  refine lv_iadd (pc := 731) hx hb dL_law_731 ?_
  refine g_scr (pc := 732) (k := i + 2) C hX hbl hbA hM (sc_in2 hi hL) (sc_ix2 hi hL) dL_law_732 ?_
  refine g_cVi (pc := 733) C hM hl.1 yv_X12_rule q6_167 (by decide) ce_87 rfl (w_X12_rule l G u715.2 (xs (i + 1)) (xs (i + 2)) u715.1 _ h) rfl rfl ⟨⟨Nat.le_of_ble_eq_true rfl, Nat.le_of_ble_eq_true rfl⟩, hroom.1, hroom.2⟩ (Nat.le_of_ble_eq_true rfl) dL_law_733 (fun r733 s733 H locs h hM => ?_)
  refine lv_istore (pc := 736) (lv' := [(7, .int r733), (6, .int r715), (0, .ref b), (1, .ref (g_ad G 60)), (2, .ref (g_ad G 87)), (3, .ref (g_ad G 106)), (4, .ref (g_ad G 107)), (5, .int (nI i))]) hx hb dL_law_736 hl (by decide) rfl (fun ls hl => ?_)
  refine lv_aload_n (pc := 738) hx hb dL_law_738 rfl (lv_at hl 4 rfl) ?_
  refine g_cVi (pc := 739) C hM hl.1 yv_X12_thrown q6_81 (by decide) ce_87 rfl (w_X12_thrown l G u715.2 s733 _ h) rfl rfl ⟨⟨Nat.le_of_ble_eq_true rfl, Nat.le_of_ble_eq_true rfl⟩, hroom.1, hroom.2⟩ (Nat.le_of_ble_eq_true rfl) dL_law_739 (fun r739 s739 H locs h hM => ?_)
  refine lv_iload (pc := 742) hx hb dL_law_742 (lv_at hl 1 rfl) ?_
  refine lv_icmp_eq (pc := 744) (tgt := 749) hx hb dL_law_744 (by decide) (fun c744 => ?_) (fun c744 => ?_)
  · have h := h.1 c744
    refine lv_iload (pc := 749) hx hb dL_law_749 (lv_at hl 1 rfl) ?_
    refine lv_if_ne (pc := 751) (tgt := 766) hx hb dL_law_751 (by decide) (fun c751 => ?_) (fun c751 => ?_)
    · have h := h.2 c751
      refine lv_goto (pc := 766) (tgt := 3015) hx hb dL_law_766 (by decide) ?_
      exact h _ _ _ hM (lv_sub hl [2, 3, 4, 5, 6, 7] rfl)
    · have h := h.1 c751
      refine lv_aload_n (pc := 754) hx hb dL_law_754 rfl (lv_at hl 5 rfl) ?_
      refine lv_iconst (pc := 755) (v := 0) hx hb dL_law_755 (by decide) ?_
      refine g_lald (pc := 756) C hM dL_law_756 ?_
      refine lv_iload (pc := 757) hx hb dL_law_757 (lv_at hl 0 rfl) ?_
      refine lv_i2l (pc := 759) (v := (r733).toInt64) hx hb dL_law_759 rfl ?_
      refine W.lcmp (pc := 760) hx hb dL_law_760 ?_
      refine lv_if_eq (pc := 761) (tgt := 766) hx hb dL_law_761 (by decide) (fun c761 => ?_) (fun c761 => ?_)
      · have h := h.1 c761
        refine lv_goto (pc := 766) (tgt := 3015) hx hb dL_law_766 (by decide) ?_
        exact h _ _ _ hM (lv_sub hl [2, 3, 4, 5, 6, 7] rfl)
      · have h := h.2 c761
        refine lv_iconst (pc := 764) (v := 0) hx hb dL_law_764 (by decide) ?_
        exact h.elim
  · have h := h.2 c744
    refine lv_iconst (pc := 747) (v := 0) hx hb dL_law_747 (by decide) ?_
    exact h.elim
set_option maxHeartbeats 4000000 in
set_option maxRecDepth 100000 in
theorem law_case_8 {p : Program} {l : Launch} {e : Env} {s : State} {m : MethodId} {below : List Frame} {meth : Method} {c : Code} {Q : State → Prop} (hl0 : l.stackTraces = false) {G : GP} {b L : Nat} {xs : Nat → Int32} (C : g_C p s m #[.ref b] c code 9 RL G) (hX : va_X b L xs s s.heap) (hbl : b < s.heap.size) (hbA : ¬ g_A G b) (hL : L ≤ 3072) {i : Nat} (hi : i + 6 ≤ L) {σ : Sto} {x : XP} {H : Heap} {locs : List Loc} {ls : Array Slot} {cells slots : Nat} (hM : g_M G x σ s H locs) (hl : lv_has ls 9 [(0, .ref b), (1, .ref (g_ad G 60)), (2, .ref (g_ad G 87)), (3, .ref (g_ad G 106)), (4, .ref (g_ad G 107)), (5, .int (nI i))]) (hroom : cells + 8 ≤ room_1.cells ∧ slots + 48 ≤ room_1.slots) (h : DL_8 xs i σ x (fun σ x => ∀ (H : Heap) (locs : List Loc) (ls : Array Slot), g_M G x σ s H locs → lv_has ls 9 [(0, .ref b), (1, .ref (g_ad G 60)), (2, .ref (g_ad G 87)), (3, .ref (g_ad G 106)), (4, .ref (g_ad G 107)), (5, .int (nI i))] → W p l e room_1 s m #[.ref b] below meth c H locs (cells + 8) (slots + 48) Q (F0 m 3015 ls []))) : W p l e room_1 s m #[.ref b] below meth c H locs cells slots Q (F0 m 769 ls []) := by
  unfold DL_8 at h
  have hx := C.1
  have hb := C.2.1
  refine lv_aload_n (pc := 769) hx hb dL_law_769 rfl (lv_at hl 1 rfl) ?_
  refine lv_aload_n (pc := 770) hx hb dL_law_770 rfl (lv_at hl 0 rfl) ?_
  refine lv_iload (pc := 771) hx hb dL_law_771 (lv_at hl 5 rfl) ?_
  refine lv_iconst (pc := 773) (v := 1) hx hb dL_law_773 (by decide) ?_
  refine lv_iadd (pc := 774) hx hb dL_law_774 ?_
  refine g_scr (pc := 775) (k := i + 1) C hX hbl hbA hM (sc_in1 hi hL) (sc_ix1 hi hL) dL_law_775 ?_
  refine lv_aload_n (pc := 776) hx hb dL_law_776 rfl (lv_at hl 0 rfl) ?_
  refine lv_iload (pc := 777) hx hb dL_law_777 (lv_at hl 5 rfl) ?_
  refine lv_iconst (pc := 779) (v := 2) hx hb dL_law_779 (by decide) ?_
  refine lv_iadd (pc := 780) hx hb dL_law_780 ?_
  refine g_scr (pc := 781) (k := i + 2) C hX hbl hbA hM (sc_in2 hi hL) (sc_ix2 hi hL) dL_law_781 ?_
  refine lv_aload_n (pc := 782) hx hb dL_law_782 rfl (lv_at hl 0 rfl) ?_
  refine lv_iload (pc := 783) hx hb dL_law_783 (lv_at hl 5 rfl) ?_
  refine lv_iconst (pc := 785) (v := 3) hx hb dL_law_785 (by decide) ?_
  refine lv_iadd (pc := 786) hx hb dL_law_786 ?_
  refine g_scr (pc := 787) (k := i + 3) C hX hbl hbA hM (sc_in3 hi hL) (sc_ix3 hi hL) dL_law_787 ?_
  refine lv_aload_n (pc := 788) hx hb dL_law_788 rfl (lv_at hl 3 rfl) ?_
  refine g_cSw (pc := 789) C hM hl.1 yw_L_condition q3_97 (w_L_condition l hl0 G (xs (i + 1)) (xs (i + 2)) (xs (i + 3)) σ x _ h) rfl rfl ⟨⟨Nat.le_of_ble_eq_true rfl, Nat.le_of_ble_eq_true rfl⟩, Nat.le_trans (Nat.add_le_add_left (by decide) _) hroom.1, Nat.le_trans (Nat.add_le_add_left (by decide) _) hroom.2⟩ (Nat.le_of_ble_eq_true rfl) dL_law_789 (fun r789 u789 H locs h hM => ?_)
  refine W.widen (k := cells + 8) (n := slots + 48) (Nat.add_le_add_left (by decide) _) (Nat.add_le_add_left (by decide) _) ?_
  refine lv_istore (pc := 792) (lv' := [(6, .int r789), (0, .ref b), (1, .ref (g_ad G 60)), (2, .ref (g_ad G 87)), (3, .ref (g_ad G 106)), (4, .ref (g_ad G 107)), (5, .int (nI i))]) hx hb dL_law_792 hl (by decide) rfl (fun ls hl => ?_)
  refine lv_aload_n (pc := 794) hx hb dL_law_794 rfl (lv_at hl 3 rfl) ?_
  refine lv_aload_n (pc := 795) hx hb dL_law_795 rfl (lv_at hl 1 rfl) ?_
  refine lv_iload (pc := 796) hx hb dL_law_796 (lv_at hl 6 rfl) ?_
  refine lv_iconst (pc := 798) (v := 1) hx hb dL_law_798 (by decide) ?_
  refine lv_iadd (pc := 799) hx hb dL_law_799 ?_
  refine g_scr (pc := 800) (k := i + 1) C hX hbl hbA hM (sc_in1 hi hL) (sc_ix1 hi hL) dL_law_800 ?_
  refine lv_aload_n (pc := 801) hx hb dL_law_801 rfl (lv_at hl 1 rfl) ?_
  refine lv_iload (pc := 802) hx hb dL_law_802 (lv_at hl 6 rfl) ?_
  refine lv_iconst (pc := 804) (v := 2) hx hb dL_law_804 (by decide) ?_
  refine lv_iadd (pc := 805) hx hb dL_law_805 ?_
  refine g_scr (pc := 806) (k := i + 2) C hX hbl hbA hM (sc_in2 hi hL) (sc_ix2 hi hL) dL_law_806 ?_
  refine lv_aload_n (pc := 807) hx hb dL_law_807 rfl (lv_at hl 1 rfl) ?_
  refine lv_iload (pc := 808) hx hb dL_law_808 (lv_at hl 6 rfl) ?_
  refine lv_iconst (pc := 810) (v := 3) hx hb dL_law_810 (by decide) ?_
  refine lv_iadd (pc := 811) hx hb dL_law_811 ?_
  refine g_scr (pc := 812) (k := i + 3) C hX hbl hbA hM (sc_in3 hi hL) (sc_ix3 hi hL) dL_law_812 ?_
  refine g_cVi (pc := 813) C hM hl.1 yv_X12_condition q6_171 (by decide) ce_87 rfl (w_X12_condition l G u789.2 (xs (i + 1)) (xs (i + 2)) (xs (i + 3)) u789.1 _ h) rfl rfl ⟨⟨Nat.le_of_ble_eq_true rfl, Nat.le_of_ble_eq_true rfl⟩, hroom.1, hroom.2⟩ (Nat.le_of_ble_eq_true rfl) dL_law_813 (fun r813 s813 H locs h hM => ?_)
  refine lv_istore (pc := 816) (lv' := [(7, .int r813), (6, .int r789), (0, .ref b), (1, .ref (g_ad G 60)), (2, .ref (g_ad G 87)), (3, .ref (g_ad G 106)), (4, .ref (g_ad G 107)), (5, .int (nI i))]) hx hb dL_law_816 hl (by decide) rfl (fun ls hl => ?_)
  refine lv_aload_n (pc := 818) hx hb dL_law_818 rfl (lv_at hl 4 rfl) ?_
  refine g_cVi (pc := 819) C hM hl.1 yv_X12_thrown q6_81 (by decide) ce_87 rfl (w_X12_thrown l G u789.2 s813 _ h) rfl rfl ⟨⟨Nat.le_of_ble_eq_true rfl, Nat.le_of_ble_eq_true rfl⟩, hroom.1, hroom.2⟩ (Nat.le_of_ble_eq_true rfl) dL_law_819 (fun r819 s819 H locs h hM => ?_)
  refine lv_iload (pc := 822) hx hb dL_law_822 (lv_at hl 1 rfl) ?_
  refine lv_icmp_eq (pc := 824) (tgt := 829) hx hb dL_law_824 (by decide) (fun c824 => ?_) (fun c824 => ?_)
  · have h := h.1 c824
    refine lv_iload (pc := 829) hx hb dL_law_829 (lv_at hl 1 rfl) ?_
    refine lv_if_ne (pc := 831) (tgt := 846) hx hb dL_law_831 (by decide) (fun c831 => ?_) (fun c831 => ?_)
    · have h := h.2 c831
      refine lv_goto (pc := 846) (tgt := 3015) hx hb dL_law_846 (by decide) ?_
      exact h _ _ _ hM (lv_sub hl [2, 3, 4, 5, 6, 7] rfl)
    · have h := h.1 c831
      refine lv_aload_n (pc := 834) hx hb dL_law_834 rfl (lv_at hl 5 rfl) ?_
      refine lv_iconst (pc := 835) (v := 0) hx hb dL_law_835 (by decide) ?_
      refine g_lald (pc := 836) C hM dL_law_836 ?_
      refine lv_iload (pc := 837) hx hb dL_law_837 (lv_at hl 0 rfl) ?_
      refine lv_i2l (pc := 839) (v := (r813).toInt64) hx hb dL_law_839 rfl ?_
      refine W.lcmp (pc := 840) hx hb dL_law_840 ?_
      refine lv_if_eq (pc := 841) (tgt := 846) hx hb dL_law_841 (by decide) (fun c841 => ?_) (fun c841 => ?_)
      · have h := h.1 c841
        refine lv_goto (pc := 846) (tgt := 3015) hx hb dL_law_846 (by decide) ?_
        exact h _ _ _ hM (lv_sub hl [2, 3, 4, 5, 6, 7] rfl)
      · have h := h.2 c841
        refine lv_iconst (pc := 844) (v := 0) hx hb dL_law_844 (by decide) ?_
        exact h.elim
  · have h := h.2 c824
    refine lv_iconst (pc := 827) (v := 0) hx hb dL_law_827 (by decide) ?_
    exact h.elim
set_option maxHeartbeats 4000000 in
set_option maxRecDepth 100000 in
theorem law_case_9 {p : Program} {l : Launch} {e : Env} {s : State} {m : MethodId} {below : List Frame} {meth : Method} {c : Code} {Q : State → Prop} (hl0 : l.stackTraces = false) {G : GP} {b L : Nat} {xs : Nat → Int32} (C : g_C p s m #[.ref b] c code 9 RL G) (hX : va_X b L xs s s.heap) (hbl : b < s.heap.size) (hbA : ¬ g_A G b) (hL : L ≤ 3072) {i : Nat} (hi : i + 6 ≤ L) {σ : Sto} {x : XP} {H : Heap} {locs : List Loc} {ls : Array Slot} {cells slots : Nat} (hM : g_M G x σ s H locs) (hl : lv_has ls 9 [(0, .ref b), (1, .ref (g_ad G 60)), (2, .ref (g_ad G 87)), (3, .ref (g_ad G 106)), (4, .ref (g_ad G 107)), (5, .int (nI i))]) (hroom : cells + 8 ≤ room_1.cells ∧ slots + 48 ≤ room_1.slots) (h : DL_9 xs i σ x (fun σ x => ∀ (H : Heap) (locs : List Loc) (ls : Array Slot), g_M G x σ s H locs → lv_has ls 9 [(0, .ref b), (1, .ref (g_ad G 60)), (2, .ref (g_ad G 87)), (3, .ref (g_ad G 106)), (4, .ref (g_ad G 107)), (5, .int (nI i))] → W p l e room_1 s m #[.ref b] below meth c H locs (cells + 8) (slots + 48) Q (F0 m 3015 ls []))) : W p l e room_1 s m #[.ref b] below meth c H locs cells slots Q (F0 m 849 ls []) := by
  unfold DL_9 at h
  have hx := C.1
  have hb := C.2.1
  refine lv_aload_n (pc := 849) hx hb dL_law_849 rfl (lv_at hl 1 rfl) ?_
  refine lv_aload_n (pc := 850) hx hb dL_law_850 rfl (lv_at hl 0 rfl) ?_
  refine lv_iload (pc := 851) hx hb dL_law_851 (lv_at hl 5 rfl) ?_
  refine lv_iconst (pc := 853) (v := 1) hx hb dL_law_853 (by decide) ?_
  refine lv_iadd (pc := 854) hx hb dL_law_854 ?_
  refine g_scr (pc := 855) (k := i + 1) C hX hbl hbA hM (sc_in1 hi hL) (sc_ix1 hi hL) dL_law_855 ?_
  refine lv_aload_n (pc := 856) hx hb dL_law_856 rfl (lv_at hl 0 rfl) ?_
  refine lv_iload (pc := 857) hx hb dL_law_857 (lv_at hl 5 rfl) ?_
  refine lv_iconst (pc := 859) (v := 2) hx hb dL_law_859 (by decide) ?_
  refine lv_iadd (pc := 860) hx hb dL_law_860 ?_
  refine g_scr (pc := 861) (k := i + 2) C hX hbl hbA hM (sc_in2 hi hL) (sc_ix2 hi hL) dL_law_861 ?_
  refine lv_aload_n (pc := 862) hx hb dL_law_862 rfl (lv_at hl 3 rfl) ?_
  refine g_cSw (pc := 863) C hM hl.1 yw_L_specialize q3_108 (w_L_specialize l hl0 G (xs (i + 1)) (xs (i + 2)) σ x _ h) rfl rfl ⟨⟨Nat.le_of_ble_eq_true rfl, Nat.le_of_ble_eq_true rfl⟩, Nat.le_trans (Nat.add_le_add_left (by decide) _) hroom.1, Nat.le_trans (Nat.add_le_add_left (by decide) _) hroom.2⟩ (Nat.le_of_ble_eq_true rfl) dL_law_863 (fun r863 u863 H locs h hM => ?_)
  refine W.widen (k := cells + 8) (n := slots + 48) (Nat.add_le_add_left (by decide) _) (Nat.add_le_add_left (by decide) _) ?_
  refine lv_istore (pc := 866) (lv' := [(6, .int r863), (0, .ref b), (1, .ref (g_ad G 60)), (2, .ref (g_ad G 87)), (3, .ref (g_ad G 106)), (4, .ref (g_ad G 107)), (5, .int (nI i))]) hx hb dL_law_866 hl (by decide) rfl (fun ls hl => ?_)
  refine lv_aload_n (pc := 868) hx hb dL_law_868 rfl (lv_at hl 3 rfl) ?_
  refine lv_aload_n (pc := 869) hx hb dL_law_869 rfl (lv_at hl 1 rfl) ?_
  refine lv_iload (pc := 870) hx hb dL_law_870 (lv_at hl 6 rfl) ?_
  refine lv_iconst (pc := 872) (v := 1) hx hb dL_law_872 (by decide) ?_
  refine lv_iadd (pc := 873) hx hb dL_law_873 ?_
  refine g_scr (pc := 874) (k := i + 1) C hX hbl hbA hM (sc_in1 hi hL) (sc_ix1 hi hL) dL_law_874 ?_
  refine lv_aload_n (pc := 875) hx hb dL_law_875 rfl (lv_at hl 1 rfl) ?_
  refine lv_iload (pc := 876) hx hb dL_law_876 (lv_at hl 6 rfl) ?_
  refine lv_iconst (pc := 878) (v := 2) hx hb dL_law_878 (by decide) ?_
  refine lv_iadd (pc := 879) hx hb dL_law_879 ?_
  refine g_scr (pc := 880) (k := i + 2) C hX hbl hbA hM (sc_in2 hi hL) (sc_ix2 hi hL) dL_law_880 ?_
  refine g_cVi (pc := 881) C hM hl.1 yv_X12_specialize q6_179 (by decide) ce_87 rfl (w_X12_specialize l G u863.2 (xs (i + 1)) (xs (i + 2)) u863.1 _ h) rfl rfl ⟨⟨Nat.le_of_ble_eq_true rfl, Nat.le_of_ble_eq_true rfl⟩, hroom.1, hroom.2⟩ (Nat.le_of_ble_eq_true rfl) dL_law_881 (fun r881 s881 H locs h hM => ?_)
  refine lv_istore (pc := 884) (lv' := [(7, .int r881), (6, .int r863), (0, .ref b), (1, .ref (g_ad G 60)), (2, .ref (g_ad G 87)), (3, .ref (g_ad G 106)), (4, .ref (g_ad G 107)), (5, .int (nI i))]) hx hb dL_law_884 hl (by decide) rfl (fun ls hl => ?_)
  refine lv_aload_n (pc := 886) hx hb dL_law_886 rfl (lv_at hl 4 rfl) ?_
  refine g_cVi (pc := 887) C hM hl.1 yv_X12_thrown q6_81 (by decide) ce_87 rfl (w_X12_thrown l G u863.2 s881 _ h) rfl rfl ⟨⟨Nat.le_of_ble_eq_true rfl, Nat.le_of_ble_eq_true rfl⟩, hroom.1, hroom.2⟩ (Nat.le_of_ble_eq_true rfl) dL_law_887 (fun r887 s887 H locs h hM => ?_)
  refine lv_iload (pc := 890) hx hb dL_law_890 (lv_at hl 1 rfl) ?_
  refine lv_icmp_eq (pc := 892) (tgt := 897) hx hb dL_law_892 (by decide) (fun c892 => ?_) (fun c892 => ?_)
  · have h := h.1 c892
    refine lv_iload (pc := 897) hx hb dL_law_897 (lv_at hl 1 rfl) ?_
    refine lv_if_ne (pc := 899) (tgt := 914) hx hb dL_law_899 (by decide) (fun c899 => ?_) (fun c899 => ?_)
    · have h := h.2 c899
      refine lv_goto (pc := 914) (tgt := 3015) hx hb dL_law_914 (by decide) ?_
      exact h _ _ _ hM (lv_sub hl [2, 3, 4, 5, 6, 7] rfl)
    · have h := h.1 c899
      refine lv_aload_n (pc := 902) hx hb dL_law_902 rfl (lv_at hl 5 rfl) ?_
      refine lv_iconst (pc := 903) (v := 0) hx hb dL_law_903 (by decide) ?_
      refine g_lald (pc := 904) C hM dL_law_904 ?_
      refine lv_iload (pc := 905) hx hb dL_law_905 (lv_at hl 0 rfl) ?_
      refine lv_i2l (pc := 907) (v := (r881).toInt64) hx hb dL_law_907 rfl ?_
      refine W.lcmp (pc := 908) hx hb dL_law_908 ?_
      refine lv_if_eq (pc := 909) (tgt := 914) hx hb dL_law_909 (by decide) (fun c909 => ?_) (fun c909 => ?_)
      · have h := h.1 c909
        refine lv_goto (pc := 914) (tgt := 3015) hx hb dL_law_914 (by decide) ?_
        exact h _ _ _ hM (lv_sub hl [2, 3, 4, 5, 6, 7] rfl)
      · have h := h.2 c909
        refine lv_iconst (pc := 912) (v := 0) hx hb dL_law_912 (by decide) ?_
        exact h.elim
  · have h := h.2 c892
    refine lv_iconst (pc := 895) (v := 0) hx hb dL_law_895 (by decide) ?_
    exact h.elim
set_option maxHeartbeats 4000000 in
set_option maxRecDepth 100000 in
theorem law_case_10 {p : Program} {l : Launch} {e : Env} {s : State} {m : MethodId} {below : List Frame} {meth : Method} {c : Code} {Q : State → Prop} (hl0 : l.stackTraces = false) {G : GP} {b L : Nat} {xs : Nat → Int32} (C : g_C p s m #[.ref b] c code 9 RL G) (hX : va_X b L xs s s.heap) (hbl : b < s.heap.size) (hbA : ¬ g_A G b) (hL : L ≤ 3072) {i : Nat} (hi : i + 6 ≤ L) {σ : Sto} {x : XP} {H : Heap} {locs : List Loc} {ls : Array Slot} {cells slots : Nat} (hM : g_M G x σ s H locs) (hl : lv_has ls 9 [(0, .ref b), (1, .ref (g_ad G 60)), (2, .ref (g_ad G 87)), (3, .ref (g_ad G 106)), (4, .ref (g_ad G 107)), (5, .int (nI i))]) (hroom : cells + 8 ≤ room_1.cells ∧ slots + 48 ≤ room_1.slots) (h : DL_10 xs i σ x (fun σ x => ∀ (H : Heap) (locs : List Loc) (ls : Array Slot), g_M G x σ s H locs → lv_has ls 9 [(0, .ref b), (1, .ref (g_ad G 60)), (2, .ref (g_ad G 87)), (3, .ref (g_ad G 106)), (4, .ref (g_ad G 107)), (5, .int (nI i))] → W p l e room_1 s m #[.ref b] below meth c H locs (cells + 8) (slots + 48) Q (F0 m 3015 ls []))) : W p l e room_1 s m #[.ref b] below meth c H locs cells slots Q (F0 m 917 ls []) := by
  unfold DL_10 at h
  have hx := C.1
  have hb := C.2.1
  refine lv_aload_n (pc := 917) hx hb dL_law_917 rfl (lv_at hl 1 rfl) ?_
  refine lv_aload_n (pc := 918) hx hb dL_law_918 rfl (lv_at hl 0 rfl) ?_
  refine lv_iload (pc := 919) hx hb dL_law_919 (lv_at hl 5 rfl) ?_
  refine lv_iconst (pc := 921) (v := 1) hx hb dL_law_921 (by decide) ?_
  refine lv_iadd (pc := 922) hx hb dL_law_922 ?_
  refine g_scr (pc := 923) (k := i + 1) C hX hbl hbA hM (sc_in1 hi hL) (sc_ix1 hi hL) dL_law_923 ?_
  refine lv_aload_n (pc := 924) hx hb dL_law_924 rfl (lv_at hl 0 rfl) ?_
  refine lv_iload (pc := 925) hx hb dL_law_925 (lv_at hl 5 rfl) ?_
  refine lv_iconst (pc := 927) (v := 2) hx hb dL_law_927 (by decide) ?_
  refine lv_iadd (pc := 928) hx hb dL_law_928 ?_
  refine g_scr (pc := 929) (k := i + 2) C hX hbl hbA hM (sc_in2 hi hL) (sc_ix2 hi hL) dL_law_929 ?_
  refine lv_aload_n (pc := 930) hx hb dL_law_930 rfl (lv_at hl 0 rfl) ?_
  refine lv_iload (pc := 931) hx hb dL_law_931 (lv_at hl 5 rfl) ?_
  refine lv_iconst (pc := 933) (v := 3) hx hb dL_law_933 (by decide) ?_
  refine lv_iadd (pc := 934) hx hb dL_law_934 ?_
  refine g_scr (pc := 935) (k := i + 3) C hX hbl hbA hM (sc_in3 hi hL) (sc_ix3 hi hL) dL_law_935 ?_
  refine lv_aload_n (pc := 936) hx hb dL_law_936 rfl (lv_at hl 0 rfl) ?_
  refine lv_iload (pc := 937) hx hb dL_law_937 (lv_at hl 5 rfl) ?_
  refine lv_iconst (pc := 939) (v := 4) hx hb dL_law_939 (by decide) ?_
  refine lv_iadd (pc := 940) hx hb dL_law_940 ?_
  refine g_scr (pc := 941) (k := i + 4) C hX hbl hbA hM (sc_in4 hi hL) (sc_ix4 hi hL) dL_law_941 ?_
  refine lv_aload_n (pc := 942) hx hb dL_law_942 rfl (lv_at hl 0 rfl) ?_
  refine lv_iload (pc := 943) hx hb dL_law_943 (lv_at hl 5 rfl) ?_
  refine lv_iconst (pc := 945) (v := 5) hx hb dL_law_945 (by decide) ?_
  refine lv_iadd (pc := 946) hx hb dL_law_946 ?_
  refine g_scr (pc := 947) (k := i + 5) C hX hbl hbA hM (sc_in5 hi hL) (sc_ix5 hi hL) dL_law_947 ?_
  refine lv_aload_n (pc := 948) hx hb dL_law_948 rfl (lv_at hl 3 rfl) ?_
  refine g_cSw (pc := 949) C hM hl.1 yw_L_grant q3_134 (w_L_grant l hl0 G (xs (i + 1)) (xs (i + 2)) (xs (i + 3)) (xs (i + 4)) (xs (i + 5)) σ x _ h) rfl rfl ⟨⟨Nat.le_of_ble_eq_true rfl, Nat.le_of_ble_eq_true rfl⟩, Nat.le_trans (Nat.add_le_add_left (by decide) _) hroom.1, Nat.le_trans (Nat.add_le_add_left (by decide) _) hroom.2⟩ (Nat.le_of_ble_eq_true rfl) dL_law_949 (fun r949 u949 H locs h hM => ?_)
  refine W.widen (k := cells + 8) (n := slots + 48) (Nat.add_le_add_left (by decide) _) (Nat.add_le_add_left (by decide) _) ?_
  refine lv_istore (pc := 952) (lv' := [(6, .int r949), (0, .ref b), (1, .ref (g_ad G 60)), (2, .ref (g_ad G 87)), (3, .ref (g_ad G 106)), (4, .ref (g_ad G 107)), (5, .int (nI i))]) hx hb dL_law_952 hl (by decide) rfl (fun ls hl => ?_)
  refine lv_aload_n (pc := 954) hx hb dL_law_954 rfl (lv_at hl 3 rfl) ?_
  refine lv_aload_n (pc := 955) hx hb dL_law_955 rfl (lv_at hl 1 rfl) ?_
  refine lv_iload (pc := 956) hx hb dL_law_956 (lv_at hl 6 rfl) ?_
  refine lv_iconst (pc := 958) (v := 1) hx hb dL_law_958 (by decide) ?_
  refine lv_iadd (pc := 959) hx hb dL_law_959 ?_
  refine g_scr (pc := 960) (k := i + 1) C hX hbl hbA hM (sc_in1 hi hL) (sc_ix1 hi hL) dL_law_960 ?_
  refine lv_aload_n (pc := 961) hx hb dL_law_961 rfl (lv_at hl 1 rfl) ?_
  refine lv_iload (pc := 962) hx hb dL_law_962 (lv_at hl 6 rfl) ?_
  refine lv_iconst (pc := 964) (v := 2) hx hb dL_law_964 (by decide) ?_
  refine lv_iadd (pc := 965) hx hb dL_law_965 ?_
  refine g_scr (pc := 966) (k := i + 2) C hX hbl hbA hM (sc_in2 hi hL) (sc_ix2 hi hL) dL_law_966 ?_
  refine lv_aload_n (pc := 967) hx hb dL_law_967 rfl (lv_at hl 1 rfl) ?_
  refine lv_iload (pc := 968) hx hb dL_law_968 (lv_at hl 6 rfl) ?_
  refine lv_iconst (pc := 970) (v := 3) hx hb dL_law_970 (by decide) ?_
  refine lv_iadd (pc := 971) hx hb dL_law_971 ?_
  refine g_scr (pc := 972) (k := i + 3) C hX hbl hbA hM (sc_in3 hi hL) (sc_ix3 hi hL) dL_law_972 ?_
  refine lv_aload_n (pc := 973) hx hb dL_law_973 rfl (lv_at hl 1 rfl) ?_
  refine lv_iload (pc := 974) hx hb dL_law_974 (lv_at hl 6 rfl) ?_
  refine lv_iconst (pc := 976) (v := 4) hx hb dL_law_976 (by decide) ?_
  refine lv_iadd (pc := 977) hx hb dL_law_977 ?_
  refine g_scr (pc := 978) (k := i + 4) C hX hbl hbA hM (sc_in4 hi hL) (sc_ix4 hi hL) dL_law_978 ?_
  refine lv_aload_n (pc := 979) hx hb dL_law_979 rfl (lv_at hl 1 rfl) ?_
  refine lv_iload (pc := 980) hx hb dL_law_980 (lv_at hl 6 rfl) ?_
  refine lv_iconst (pc := 982) (v := 5) hx hb dL_law_982 (by decide) ?_
  refine lv_iadd (pc := 983) hx hb dL_law_983 ?_
  refine g_scr (pc := 984) (k := i + 5) C hX hbl hbA hM (sc_in5 hi hL) (sc_ix5 hi hL) dL_law_984 ?_
  refine g_cVi (pc := 985) C hM hl.1 yv_X12_grant q6_201 (by decide) ce_87 rfl (w_X12_grant l G u949.2 (xs (i + 1)) (xs (i + 2)) (xs (i + 3)) (xs (i + 4)) (xs (i + 5)) u949.1 _ h) rfl rfl ⟨⟨Nat.le_of_ble_eq_true rfl, Nat.le_of_ble_eq_true rfl⟩, hroom.1, hroom.2⟩ (Nat.le_of_ble_eq_true rfl) dL_law_985 (fun r985 s985 H locs h hM => ?_)
  refine lv_istore (pc := 988) (lv' := [(7, .int r985), (6, .int r949), (0, .ref b), (1, .ref (g_ad G 60)), (2, .ref (g_ad G 87)), (3, .ref (g_ad G 106)), (4, .ref (g_ad G 107)), (5, .int (nI i))]) hx hb dL_law_988 hl (by decide) rfl (fun ls hl => ?_)
  refine lv_aload_n (pc := 990) hx hb dL_law_990 rfl (lv_at hl 4 rfl) ?_
  refine g_cVi (pc := 991) C hM hl.1 yv_X12_thrown q6_81 (by decide) ce_87 rfl (w_X12_thrown l G u949.2 s985 _ h) rfl rfl ⟨⟨Nat.le_of_ble_eq_true rfl, Nat.le_of_ble_eq_true rfl⟩, hroom.1, hroom.2⟩ (Nat.le_of_ble_eq_true rfl) dL_law_991 (fun r991 s991 H locs h hM => ?_)
  refine lv_iload (pc := 994) hx hb dL_law_994 (lv_at hl 1 rfl) ?_
  refine lv_icmp_eq (pc := 996) (tgt := 1001) hx hb dL_law_996 (by decide) (fun c996 => ?_) (fun c996 => ?_)
  · have h := h.1 c996
    refine lv_iload (pc := 1001) hx hb dL_law_1001 (lv_at hl 1 rfl) ?_
    refine lv_if_ne (pc := 1003) (tgt := 1018) hx hb dL_law_1003 (by decide) (fun c1003 => ?_) (fun c1003 => ?_)
    · have h := h.2 c1003
      refine lv_goto (pc := 1018) (tgt := 3015) hx hb dL_law_1018 (by decide) ?_
      exact h _ _ _ hM (lv_sub hl [2, 3, 4, 5, 6, 7] rfl)
    · have h := h.1 c1003
      refine lv_aload_n (pc := 1006) hx hb dL_law_1006 rfl (lv_at hl 5 rfl) ?_
      refine lv_iconst (pc := 1007) (v := 0) hx hb dL_law_1007 (by decide) ?_
      refine g_lald (pc := 1008) C hM dL_law_1008 ?_
      refine lv_iload (pc := 1009) hx hb dL_law_1009 (lv_at hl 0 rfl) ?_
      refine lv_i2l (pc := 1011) (v := (r985).toInt64) hx hb dL_law_1011 rfl ?_
      refine W.lcmp (pc := 1012) hx hb dL_law_1012 ?_
      refine lv_if_eq (pc := 1013) (tgt := 1018) hx hb dL_law_1013 (by decide) (fun c1013 => ?_) (fun c1013 => ?_)
      · have h := h.1 c1013
        refine lv_goto (pc := 1018) (tgt := 3015) hx hb dL_law_1018 (by decide) ?_
        exact h _ _ _ hM (lv_sub hl [2, 3, 4, 5, 6, 7] rfl)
      · have h := h.2 c1013
        refine lv_iconst (pc := 1016) (v := 0) hx hb dL_law_1016 (by decide) ?_
        exact h.elim
  · have h := h.2 c996
    refine lv_iconst (pc := 999) (v := 0) hx hb dL_law_999 (by decide) ?_
    exact h.elim
set_option maxHeartbeats 4000000 in
set_option maxRecDepth 100000 in
theorem law_case_11 {p : Program} {l : Launch} {e : Env} {s : State} {m : MethodId} {below : List Frame} {meth : Method} {c : Code} {Q : State → Prop} (hl0 : l.stackTraces = false) {G : GP} {b L : Nat} {xs : Nat → Int32} (C : g_C p s m #[.ref b] c code 9 RL G) (hX : va_X b L xs s s.heap) (hbl : b < s.heap.size) (hbA : ¬ g_A G b) (hL : L ≤ 3072) {i : Nat} (hi : i + 6 ≤ L) {σ : Sto} {x : XP} {H : Heap} {locs : List Loc} {ls : Array Slot} {cells slots : Nat} (hM : g_M G x σ s H locs) (hl : lv_has ls 9 [(0, .ref b), (1, .ref (g_ad G 60)), (2, .ref (g_ad G 87)), (3, .ref (g_ad G 106)), (4, .ref (g_ad G 107)), (5, .int (nI i))]) (hroom : cells + 8 ≤ room_1.cells ∧ slots + 48 ≤ room_1.slots) (h : DL_11 xs i σ x (fun σ x => ∀ (H : Heap) (locs : List Loc) (ls : Array Slot), g_M G x σ s H locs → lv_has ls 9 [(0, .ref b), (1, .ref (g_ad G 60)), (2, .ref (g_ad G 87)), (3, .ref (g_ad G 106)), (4, .ref (g_ad G 107)), (5, .int (nI i))] → W p l e room_1 s m #[.ref b] below meth c H locs (cells + 8) (slots + 48) Q (F0 m 3015 ls []))) : W p l e room_1 s m #[.ref b] below meth c H locs cells slots Q (F0 m 1021 ls []) := by
  unfold DL_11 at h
  have hx := C.1
  have hb := C.2.1
  refine lv_aload_n (pc := 1021) hx hb dL_law_1021 rfl (lv_at hl 1 rfl) ?_
  refine lv_aload_n (pc := 1022) hx hb dL_law_1022 rfl (lv_at hl 0 rfl) ?_
  refine lv_iload (pc := 1023) hx hb dL_law_1023 (lv_at hl 5 rfl) ?_
  refine lv_iconst (pc := 1025) (v := 1) hx hb dL_law_1025 (by decide) ?_
  refine lv_iadd (pc := 1026) hx hb dL_law_1026 ?_
  refine g_scr (pc := 1027) (k := i + 1) C hX hbl hbA hM (sc_in1 hi hL) (sc_ix1 hi hL) dL_law_1027 ?_
  refine lv_aload_n (pc := 1028) hx hb dL_law_1028 rfl (lv_at hl 0 rfl) ?_
  refine lv_iload (pc := 1029) hx hb dL_law_1029 (lv_at hl 5 rfl) ?_
  refine lv_iconst (pc := 1031) (v := 2) hx hb dL_law_1031 (by decide) ?_
  refine lv_iadd (pc := 1032) hx hb dL_law_1032 ?_
  refine g_scr (pc := 1033) (k := i + 2) C hX hbl hbA hM (sc_in2 hi hL) (sc_ix2 hi hL) dL_law_1033 ?_
  refine lv_aload_n (pc := 1034) hx hb dL_law_1034 rfl (lv_at hl 0 rfl) ?_
  refine lv_iload (pc := 1035) hx hb dL_law_1035 (lv_at hl 5 rfl) ?_
  refine lv_iconst (pc := 1037) (v := 3) hx hb dL_law_1037 (by decide) ?_
  refine lv_iadd (pc := 1038) hx hb dL_law_1038 ?_
  refine g_scr (pc := 1039) (k := i + 3) C hX hbl hbA hM (sc_in3 hi hL) (sc_ix3 hi hL) dL_law_1039 ?_
  refine lv_aload_n (pc := 1040) hx hb dL_law_1040 rfl (lv_at hl 3 rfl) ?_
  refine g_cSw (pc := 1041) C hM hl.1 yw_L_revoke q3_153 (w_L_revoke l hl0 G (xs (i + 1)) (xs (i + 2)) (xs (i + 3)) σ x _ h) rfl rfl ⟨⟨Nat.le_of_ble_eq_true rfl, Nat.le_of_ble_eq_true rfl⟩, Nat.le_trans (Nat.add_le_add_left (by decide) _) hroom.1, Nat.le_trans (Nat.add_le_add_left (by decide) _) hroom.2⟩ (Nat.le_of_ble_eq_true rfl) dL_law_1041 (fun r1041 u1041 H locs h hM => ?_)
  refine W.widen (k := cells + 8) (n := slots + 48) (Nat.add_le_add_left (by decide) _) (Nat.add_le_add_left (by decide) _) ?_
  refine lv_istore (pc := 1044) (lv' := [(6, .int r1041), (0, .ref b), (1, .ref (g_ad G 60)), (2, .ref (g_ad G 87)), (3, .ref (g_ad G 106)), (4, .ref (g_ad G 107)), (5, .int (nI i))]) hx hb dL_law_1044 hl (by decide) rfl (fun ls hl => ?_)
  refine lv_aload_n (pc := 1046) hx hb dL_law_1046 rfl (lv_at hl 3 rfl) ?_
  refine lv_aload_n (pc := 1047) hx hb dL_law_1047 rfl (lv_at hl 1 rfl) ?_
  refine lv_iload (pc := 1048) hx hb dL_law_1048 (lv_at hl 6 rfl) ?_
  refine lv_iconst (pc := 1050) (v := 1) hx hb dL_law_1050 (by decide) ?_
  refine lv_iadd (pc := 1051) hx hb dL_law_1051 ?_
  refine g_scr (pc := 1052) (k := i + 1) C hX hbl hbA hM (sc_in1 hi hL) (sc_ix1 hi hL) dL_law_1052 ?_
  refine lv_aload_n (pc := 1053) hx hb dL_law_1053 rfl (lv_at hl 1 rfl) ?_
  refine lv_iload (pc := 1054) hx hb dL_law_1054 (lv_at hl 6 rfl) ?_
  refine lv_iconst (pc := 1056) (v := 2) hx hb dL_law_1056 (by decide) ?_
  refine lv_iadd (pc := 1057) hx hb dL_law_1057 ?_
  refine g_scr (pc := 1058) (k := i + 2) C hX hbl hbA hM (sc_in2 hi hL) (sc_ix2 hi hL) dL_law_1058 ?_
  refine lv_aload_n (pc := 1059) hx hb dL_law_1059 rfl (lv_at hl 1 rfl) ?_
  refine lv_iload (pc := 1060) hx hb dL_law_1060 (lv_at hl 6 rfl) ?_
  refine lv_iconst (pc := 1062) (v := 3) hx hb dL_law_1062 (by decide) ?_
  refine lv_iadd (pc := 1063) hx hb dL_law_1063 ?_
  refine g_scr (pc := 1064) (k := i + 3) C hX hbl hbA hM (sc_in3 hi hL) (sc_ix3 hi hL) dL_law_1064 ?_
  refine g_cVi (pc := 1065) C hM hl.1 yv_X12_revoke q6_216 (by decide) ce_87 rfl (w_X12_revoke l G u1041.2 (xs (i + 1)) (xs (i + 2)) (xs (i + 3)) u1041.1 _ h) rfl rfl ⟨⟨Nat.le_of_ble_eq_true rfl, Nat.le_of_ble_eq_true rfl⟩, hroom.1, hroom.2⟩ (Nat.le_of_ble_eq_true rfl) dL_law_1065 (fun r1065 s1065 H locs h hM => ?_)
  refine lv_istore (pc := 1068) (lv' := [(7, .int r1065), (6, .int r1041), (0, .ref b), (1, .ref (g_ad G 60)), (2, .ref (g_ad G 87)), (3, .ref (g_ad G 106)), (4, .ref (g_ad G 107)), (5, .int (nI i))]) hx hb dL_law_1068 hl (by decide) rfl (fun ls hl => ?_)
  refine lv_aload_n (pc := 1070) hx hb dL_law_1070 rfl (lv_at hl 4 rfl) ?_
  refine g_cVi (pc := 1071) C hM hl.1 yv_X12_thrown q6_81 (by decide) ce_87 rfl (w_X12_thrown l G u1041.2 s1065 _ h) rfl rfl ⟨⟨Nat.le_of_ble_eq_true rfl, Nat.le_of_ble_eq_true rfl⟩, hroom.1, hroom.2⟩ (Nat.le_of_ble_eq_true rfl) dL_law_1071 (fun r1071 s1071 H locs h hM => ?_)
  refine lv_iload (pc := 1074) hx hb dL_law_1074 (lv_at hl 1 rfl) ?_
  refine lv_icmp_eq (pc := 1076) (tgt := 1081) hx hb dL_law_1076 (by decide) (fun c1076 => ?_) (fun c1076 => ?_)
  · have h := h.1 c1076
    refine lv_iload (pc := 1081) hx hb dL_law_1081 (lv_at hl 1 rfl) ?_
    refine lv_if_ne (pc := 1083) (tgt := 1098) hx hb dL_law_1083 (by decide) (fun c1083 => ?_) (fun c1083 => ?_)
    · have h := h.2 c1083
      refine lv_goto (pc := 1098) (tgt := 3015) hx hb dL_law_1098 (by decide) ?_
      exact h _ _ _ hM (lv_sub hl [2, 3, 4, 5, 6, 7] rfl)
    · have h := h.1 c1083
      refine lv_aload_n (pc := 1086) hx hb dL_law_1086 rfl (lv_at hl 5 rfl) ?_
      refine lv_iconst (pc := 1087) (v := 0) hx hb dL_law_1087 (by decide) ?_
      refine g_lald (pc := 1088) C hM dL_law_1088 ?_
      refine lv_iload (pc := 1089) hx hb dL_law_1089 (lv_at hl 0 rfl) ?_
      refine lv_i2l (pc := 1091) (v := (r1065).toInt64) hx hb dL_law_1091 rfl ?_
      refine W.lcmp (pc := 1092) hx hb dL_law_1092 ?_
      refine lv_if_eq (pc := 1093) (tgt := 1098) hx hb dL_law_1093 (by decide) (fun c1093 => ?_) (fun c1093 => ?_)
      · have h := h.1 c1093
        refine lv_goto (pc := 1098) (tgt := 3015) hx hb dL_law_1098 (by decide) ?_
        exact h _ _ _ hM (lv_sub hl [2, 3, 4, 5, 6, 7] rfl)
      · have h := h.2 c1093
        refine lv_iconst (pc := 1096) (v := 0) hx hb dL_law_1096 (by decide) ?_
        exact h.elim
  · have h := h.2 c1076
    refine lv_iconst (pc := 1079) (v := 0) hx hb dL_law_1079 (by decide) ?_
    exact h.elim
set_option maxHeartbeats 4000000 in
set_option maxRecDepth 100000 in
theorem law_case_12 {p : Program} {l : Launch} {e : Env} {s : State} {m : MethodId} {below : List Frame} {meth : Method} {c : Code} {Q : State → Prop} (hl0 : l.stackTraces = false) {G : GP} {b L : Nat} {xs : Nat → Int32} (C : g_C p s m #[.ref b] c code 9 RL G) (hX : va_X b L xs s s.heap) (hbl : b < s.heap.size) (hbA : ¬ g_A G b) (hL : L ≤ 3072) {i : Nat} (hi : i + 6 ≤ L) {σ : Sto} {x : XP} {H : Heap} {locs : List Loc} {ls : Array Slot} {cells slots : Nat} (hM : g_M G x σ s H locs) (hl : lv_has ls 9 [(0, .ref b), (1, .ref (g_ad G 60)), (2, .ref (g_ad G 87)), (3, .ref (g_ad G 106)), (4, .ref (g_ad G 107)), (5, .int (nI i))]) (hroom : cells + 8 ≤ room_1.cells ∧ slots + 48 ≤ room_1.slots) (h : DL_12 xs i σ x (fun σ x => ∀ (H : Heap) (locs : List Loc) (ls : Array Slot), g_M G x σ s H locs → lv_has ls 9 [(0, .ref b), (1, .ref (g_ad G 60)), (2, .ref (g_ad G 87)), (3, .ref (g_ad G 106)), (4, .ref (g_ad G 107)), (5, .int (nI i))] → W p l e room_1 s m #[.ref b] below meth c H locs (cells + 8) (slots + 48) Q (F0 m 3015 ls []))) : W p l e room_1 s m #[.ref b] below meth c H locs cells slots Q (F0 m 1101 ls []) := by
  unfold DL_12 at h
  have hx := C.1
  have hb := C.2.1
  refine lv_aload_n (pc := 1101) hx hb dL_law_1101 rfl (lv_at hl 1 rfl) ?_
  refine lv_aload_n (pc := 1102) hx hb dL_law_1102 rfl (lv_at hl 0 rfl) ?_
  refine lv_iload (pc := 1103) hx hb dL_law_1103 (lv_at hl 5 rfl) ?_
  refine lv_iconst (pc := 1105) (v := 1) hx hb dL_law_1105 (by decide) ?_
  refine lv_iadd (pc := 1106) hx hb dL_law_1106 ?_
  refine g_scr (pc := 1107) (k := i + 1) C hX hbl hbA hM (sc_in1 hi hL) (sc_ix1 hi hL) dL_law_1107 ?_
  refine lv_if_eq (pc := 1108) (tgt := 1115) hx hb dL_law_1108 (by decide) (fun c1108 => ?_) (fun c1108 => ?_)
  · have h := h.1 c1108
    refine lv_iconst (pc := 1115) (v := 0) hx hb dL_law_1115 (by decide) ?_
    refine g_cVi (pc := 1116) C hM hl.1 yv_X11_grantCount q2_58 (by decide) ce_60 rfl (w_X11_grantCount l G x 0 σ _ h) rfl rfl ⟨⟨Nat.le_of_ble_eq_true rfl, Nat.le_of_ble_eq_true rfl⟩, Nat.le_trans (Nat.le_add_right _ _) hroom.1, Nat.le_trans (Nat.le_add_right _ _) hroom.2⟩ (Nat.le_of_ble_eq_true rfl) dL_law_1116 (fun r1116 s1116 H locs h hM => ?_)
    refine W.widen (k := cells + 8) (n := slots + 48) (Nat.add_le_add_left (by decide) _) (Nat.add_le_add_left (by decide) _) ?_
    refine lv_aload_n (pc := 1119) hx hb dL_law_1119 rfl (lv_at hl 2 rfl) ?_
    refine lv_aload_n (pc := 1120) hx hb dL_law_1120 rfl (lv_at hl 0 rfl) ?_
    refine lv_iload (pc := 1121) hx hb dL_law_1121 (lv_at hl 5 rfl) ?_
    refine lv_iconst (pc := 1123) (v := 1) hx hb dL_law_1123 (by decide) ?_
    refine lv_iadd (pc := 1124) hx hb dL_law_1124 ?_
    refine g_scr (pc := 1125) (k := i + 1) C hX hbl hbA hM (sc_in1 hi hL) (sc_ix1 hi hL) dL_law_1125 ?_
    refine lv_if_eq (pc := 1126) (tgt := 1133) hx hb dL_law_1126 (by decide) (fun c1126 => ?_) (fun c1126 => ?_)
    · have h := h.1 c1126
      refine lv_iconst (pc := 1133) (v := 0) hx hb dL_law_1133 (by decide) ?_
      refine g_cVi (pc := 1134) C hM hl.1 yv_X12_grantCount q6_220 (by decide) ce_87 rfl (w_X12_grantCount l G x 0 s1116 _ h) rfl rfl ⟨⟨Nat.le_of_ble_eq_true rfl, Nat.le_of_ble_eq_true rfl⟩, hroom.1, hroom.2⟩ (Nat.le_of_ble_eq_true rfl) dL_law_1134 (fun r1134 s1134 H locs h hM => ?_)
      refine lv_icmp_eq (pc := 1137) (tgt := 3015) hx hb dL_law_1137 (by decide) (fun c1137 => ?_) (fun c1137 => ?_)
      · have h := h.1 c1137
        exact h _ _ _ hM (lv_sub hl [0, 1, 2, 3, 4, 5] rfl)
      · have h := h.2 c1137
        refine lv_iconst (pc := 1140) (v := 0) hx hb dL_law_1140 (by decide) ?_
        exact h.elim
    · have h := h.2 c1126
      refine lv_iconst (pc := 1129) (v := 1) hx hb dL_law_1129 (by decide) ?_
      refine lv_goto (pc := 1130) (tgt := 1134) hx hb dL_law_1130 (by decide) ?_
      refine g_cVi (pc := 1134) C hM hl.1 yv_X12_grantCount q6_220 (by decide) ce_87 rfl (w_X12_grantCount l G x 1 s1116 _ h) rfl rfl ⟨⟨Nat.le_of_ble_eq_true rfl, Nat.le_of_ble_eq_true rfl⟩, hroom.1, hroom.2⟩ (Nat.le_of_ble_eq_true rfl) dL_law_1134 (fun r1134 s1134 H locs h hM => ?_)
      refine lv_icmp_eq (pc := 1137) (tgt := 3015) hx hb dL_law_1137 (by decide) (fun c1137 => ?_) (fun c1137 => ?_)
      · have h := h.1 c1137
        exact h _ _ _ hM (lv_sub hl [0, 1, 2, 3, 4, 5] rfl)
      · have h := h.2 c1137
        refine lv_iconst (pc := 1140) (v := 0) hx hb dL_law_1140 (by decide) ?_
        exact h.elim
  · have h := h.2 c1108
    refine lv_iconst (pc := 1111) (v := 1) hx hb dL_law_1111 (by decide) ?_
    refine lv_goto (pc := 1112) (tgt := 1116) hx hb dL_law_1112 (by decide) ?_
    refine g_cVi (pc := 1116) C hM hl.1 yv_X11_grantCount q2_58 (by decide) ce_60 rfl (w_X11_grantCount l G x 1 σ _ h) rfl rfl ⟨⟨Nat.le_of_ble_eq_true rfl, Nat.le_of_ble_eq_true rfl⟩, Nat.le_trans (Nat.le_add_right _ _) hroom.1, Nat.le_trans (Nat.le_add_right _ _) hroom.2⟩ (Nat.le_of_ble_eq_true rfl) dL_law_1116 (fun r1116 s1116 H locs h hM => ?_)
    refine W.widen (k := cells + 8) (n := slots + 48) (Nat.add_le_add_left (by decide) _) (Nat.add_le_add_left (by decide) _) ?_
    refine lv_aload_n (pc := 1119) hx hb dL_law_1119 rfl (lv_at hl 2 rfl) ?_
    refine lv_aload_n (pc := 1120) hx hb dL_law_1120 rfl (lv_at hl 0 rfl) ?_
    refine lv_iload (pc := 1121) hx hb dL_law_1121 (lv_at hl 5 rfl) ?_
    refine lv_iconst (pc := 1123) (v := 1) hx hb dL_law_1123 (by decide) ?_
    refine lv_iadd (pc := 1124) hx hb dL_law_1124 ?_
    refine g_scr (pc := 1125) (k := i + 1) C hX hbl hbA hM (sc_in1 hi hL) (sc_ix1 hi hL) dL_law_1125 ?_
    refine lv_if_eq (pc := 1126) (tgt := 1133) hx hb dL_law_1126 (by decide) (fun c1126 => ?_) (fun c1126 => ?_)
    · have h := h.1 c1126
      refine lv_iconst (pc := 1133) (v := 0) hx hb dL_law_1133 (by decide) ?_
      refine g_cVi (pc := 1134) C hM hl.1 yv_X12_grantCount q6_220 (by decide) ce_87 rfl (w_X12_grantCount l G x 0 s1116 _ h) rfl rfl ⟨⟨Nat.le_of_ble_eq_true rfl, Nat.le_of_ble_eq_true rfl⟩, hroom.1, hroom.2⟩ (Nat.le_of_ble_eq_true rfl) dL_law_1134 (fun r1134 s1134 H locs h hM => ?_)
      refine lv_icmp_eq (pc := 1137) (tgt := 3015) hx hb dL_law_1137 (by decide) (fun c1137 => ?_) (fun c1137 => ?_)
      · have h := h.1 c1137
        exact h _ _ _ hM (lv_sub hl [0, 1, 2, 3, 4, 5] rfl)
      · have h := h.2 c1137
        refine lv_iconst (pc := 1140) (v := 0) hx hb dL_law_1140 (by decide) ?_
        exact h.elim
    · have h := h.2 c1126
      refine lv_iconst (pc := 1129) (v := 1) hx hb dL_law_1129 (by decide) ?_
      refine lv_goto (pc := 1130) (tgt := 1134) hx hb dL_law_1130 (by decide) ?_
      refine g_cVi (pc := 1134) C hM hl.1 yv_X12_grantCount q6_220 (by decide) ce_87 rfl (w_X12_grantCount l G x 1 s1116 _ h) rfl rfl ⟨⟨Nat.le_of_ble_eq_true rfl, Nat.le_of_ble_eq_true rfl⟩, hroom.1, hroom.2⟩ (Nat.le_of_ble_eq_true rfl) dL_law_1134 (fun r1134 s1134 H locs h hM => ?_)
      refine lv_icmp_eq (pc := 1137) (tgt := 3015) hx hb dL_law_1137 (by decide) (fun c1137 => ?_) (fun c1137 => ?_)
      · have h := h.1 c1137
        exact h _ _ _ hM (lv_sub hl [0, 1, 2, 3, 4, 5] rfl)
      · have h := h.2 c1137
        refine lv_iconst (pc := 1140) (v := 0) hx hb dL_law_1140 (by decide) ?_
        exact h.elim
set_option maxHeartbeats 4000000 in
set_option maxRecDepth 100000 in
theorem law_case_13 {p : Program} {l : Launch} {e : Env} {s : State} {m : MethodId} {below : List Frame} {meth : Method} {c : Code} {Q : State → Prop} (hl0 : l.stackTraces = false) {G : GP} {b L : Nat} {xs : Nat → Int32} (C : g_C p s m #[.ref b] c code 9 RL G) (hX : va_X b L xs s s.heap) (hbl : b < s.heap.size) (hbA : ¬ g_A G b) (hL : L ≤ 3072) {i : Nat} (hi : i + 6 ≤ L) {σ : Sto} {x : XP} {H : Heap} {locs : List Loc} {ls : Array Slot} {cells slots : Nat} (hM : g_M G x σ s H locs) (hl : lv_has ls 9 [(0, .ref b), (1, .ref (g_ad G 60)), (2, .ref (g_ad G 87)), (3, .ref (g_ad G 106)), (4, .ref (g_ad G 107)), (5, .int (nI i))]) (hroom : cells + 8 ≤ room_1.cells ∧ slots + 48 ≤ room_1.slots) (h : DL_13 xs i σ x (fun σ x => ∀ (H : Heap) (locs : List Loc) (ls : Array Slot), g_M G x σ s H locs → lv_has ls 9 [(0, .ref b), (1, .ref (g_ad G 60)), (2, .ref (g_ad G 87)), (3, .ref (g_ad G 106)), (4, .ref (g_ad G 107)), (5, .int (nI i))] → W p l e room_1 s m #[.ref b] below meth c H locs (cells + 8) (slots + 48) Q (F0 m 3015 ls []))) : W p l e room_1 s m #[.ref b] below meth c H locs cells slots Q (F0 m 1142 ls []) := by
  unfold DL_13 at h
  have hx := C.1
  have hb := C.2.1
  refine lv_aload_n (pc := 1142) hx hb dL_law_1142 rfl (lv_at hl 1 rfl) ?_
  refine lv_aload_n (pc := 1143) hx hb dL_law_1143 rfl (lv_at hl 0 rfl) ?_
  refine lv_iload (pc := 1144) hx hb dL_law_1144 (lv_at hl 5 rfl) ?_
  refine lv_iconst (pc := 1146) (v := 1) hx hb dL_law_1146 (by decide) ?_
  refine lv_iadd (pc := 1147) hx hb dL_law_1147 ?_
  refine g_scr (pc := 1148) (k := i + 1) C hX hbl hbA hM (sc_in1 hi hL) (sc_ix1 hi hL) dL_law_1148 ?_
  refine lv_aload_n (pc := 1149) hx hb dL_law_1149 rfl (lv_at hl 0 rfl) ?_
  refine lv_iload (pc := 1150) hx hb dL_law_1150 (lv_at hl 5 rfl) ?_
  refine lv_iconst (pc := 1152) (v := 2) hx hb dL_law_1152 (by decide) ?_
  refine lv_iadd (pc := 1153) hx hb dL_law_1153 ?_
  refine g_scr (pc := 1154) (k := i + 2) C hX hbl hbA hM (sc_in2 hi hL) (sc_ix2 hi hL) dL_law_1154 ?_
  refine lv_aload_n (pc := 1155) hx hb dL_law_1155 rfl (lv_at hl 3 rfl) ?_
  refine g_cSw (pc := 1156) C hM hl.1 yw_L_grantAt q3_183 (w_L_grantAt l hl0 G (xs (i + 1)) (xs (i + 2)) σ x _ h) rfl rfl ⟨⟨Nat.le_of_ble_eq_true rfl, Nat.le_of_ble_eq_true rfl⟩, Nat.le_trans (Nat.add_le_add_left (by decide) _) hroom.1, Nat.le_trans (Nat.add_le_add_left (by decide) _) hroom.2⟩ (Nat.le_of_ble_eq_true rfl) dL_law_1156 (fun r1156 u1156 H locs h hM => ?_)
  refine W.widen (k := cells + 8) (n := slots + 48) (Nat.add_le_add_left (by decide) _) (Nat.add_le_add_left (by decide) _) ?_
  refine lv_istore (pc := 1159) (lv' := [(6, .int r1156), (0, .ref b), (1, .ref (g_ad G 60)), (2, .ref (g_ad G 87)), (3, .ref (g_ad G 106)), (4, .ref (g_ad G 107)), (5, .int (nI i))]) hx hb dL_law_1159 hl (by decide) rfl (fun ls hl => ?_)
  refine lv_aload_n (pc := 1161) hx hb dL_law_1161 rfl (lv_at hl 3 rfl) ?_
  refine lv_aload_n (pc := 1162) hx hb dL_law_1162 rfl (lv_at hl 1 rfl) ?_
  refine lv_iload (pc := 1163) hx hb dL_law_1163 (lv_at hl 6 rfl) ?_
  refine lv_iconst (pc := 1165) (v := 1) hx hb dL_law_1165 (by decide) ?_
  refine lv_iadd (pc := 1166) hx hb dL_law_1166 ?_
  refine g_scr (pc := 1167) (k := i + 1) C hX hbl hbA hM (sc_in1 hi hL) (sc_ix1 hi hL) dL_law_1167 ?_
  refine lv_aload_n (pc := 1168) hx hb dL_law_1168 rfl (lv_at hl 1 rfl) ?_
  refine lv_iload (pc := 1169) hx hb dL_law_1169 (lv_at hl 6 rfl) ?_
  refine lv_iconst (pc := 1171) (v := 2) hx hb dL_law_1171 (by decide) ?_
  refine lv_iadd (pc := 1172) hx hb dL_law_1172 ?_
  refine g_scr (pc := 1173) (k := i + 2) C hX hbl hbA hM (sc_in2 hi hL) (sc_ix2 hi hL) dL_law_1173 ?_
  refine g_cVi (pc := 1174) C hM hl.1 yv_X12_grantAt q6_228 (by decide) ce_87 rfl (w_X12_grantAt l G u1156.2 (xs (i + 1)) (xs (i + 2)) u1156.1 _ h) rfl rfl ⟨⟨Nat.le_of_ble_eq_true rfl, Nat.le_of_ble_eq_true rfl⟩, hroom.1, hroom.2⟩ (Nat.le_of_ble_eq_true rfl) dL_law_1174 (fun r1174 s1174 H locs h hM => ?_)
  refine lv_istore (pc := 1177) (lv' := [(7, .int r1174), (6, .int r1156), (0, .ref b), (1, .ref (g_ad G 60)), (2, .ref (g_ad G 87)), (3, .ref (g_ad G 106)), (4, .ref (g_ad G 107)), (5, .int (nI i))]) hx hb dL_law_1177 hl (by decide) rfl (fun ls hl => ?_)
  refine lv_aload_n (pc := 1179) hx hb dL_law_1179 rfl (lv_at hl 4 rfl) ?_
  refine g_cVi (pc := 1180) C hM hl.1 yv_X12_thrown q6_81 (by decide) ce_87 rfl (w_X12_thrown l G u1156.2 s1174 _ h) rfl rfl ⟨⟨Nat.le_of_ble_eq_true rfl, Nat.le_of_ble_eq_true rfl⟩, hroom.1, hroom.2⟩ (Nat.le_of_ble_eq_true rfl) dL_law_1180 (fun r1180 s1180 H locs h hM => ?_)
  refine lv_iload (pc := 1183) hx hb dL_law_1183 (lv_at hl 1 rfl) ?_
  refine lv_icmp_eq (pc := 1185) (tgt := 1190) hx hb dL_law_1185 (by decide) (fun c1185 => ?_) (fun c1185 => ?_)
  · have h := h.1 c1185
    refine lv_iload (pc := 1190) hx hb dL_law_1190 (lv_at hl 1 rfl) ?_
    refine lv_if_ne (pc := 1192) (tgt := 1207) hx hb dL_law_1192 (by decide) (fun c1192 => ?_) (fun c1192 => ?_)
    · have h := h.2 c1192
      refine lv_goto (pc := 1207) (tgt := 3015) hx hb dL_law_1207 (by decide) ?_
      exact h _ _ _ hM (lv_sub hl [2, 3, 4, 5, 6, 7] rfl)
    · have h := h.1 c1192
      refine lv_aload_n (pc := 1195) hx hb dL_law_1195 rfl (lv_at hl 5 rfl) ?_
      refine lv_iconst (pc := 1196) (v := 0) hx hb dL_law_1196 (by decide) ?_
      refine g_lald (pc := 1197) C hM dL_law_1197 ?_
      refine lv_iload (pc := 1198) hx hb dL_law_1198 (lv_at hl 0 rfl) ?_
      refine lv_i2l (pc := 1200) (v := (r1174).toInt64) hx hb dL_law_1200 rfl ?_
      refine W.lcmp (pc := 1201) hx hb dL_law_1201 ?_
      refine lv_if_eq (pc := 1202) (tgt := 1207) hx hb dL_law_1202 (by decide) (fun c1202 => ?_) (fun c1202 => ?_)
      · have h := h.1 c1202
        refine lv_goto (pc := 1207) (tgt := 3015) hx hb dL_law_1207 (by decide) ?_
        exact h _ _ _ hM (lv_sub hl [2, 3, 4, 5, 6, 7] rfl)
      · have h := h.2 c1202
        refine lv_iconst (pc := 1205) (v := 0) hx hb dL_law_1205 (by decide) ?_
        exact h.elim
  · have h := h.2 c1185
    refine lv_iconst (pc := 1188) (v := 0) hx hb dL_law_1188 (by decide) ?_
    exact h.elim
set_option maxHeartbeats 4000000 in
set_option maxRecDepth 100000 in
theorem law_case_14 {p : Program} {l : Launch} {e : Env} {s : State} {m : MethodId} {below : List Frame} {meth : Method} {c : Code} {Q : State → Prop} (hl0 : l.stackTraces = false) {G : GP} {b L : Nat} {xs : Nat → Int32} (C : g_C p s m #[.ref b] c code 9 RL G) (hX : va_X b L xs s s.heap) (hbl : b < s.heap.size) (hbA : ¬ g_A G b) (hL : L ≤ 3072) {i : Nat} (hi : i + 6 ≤ L) {σ : Sto} {x : XP} {H : Heap} {locs : List Loc} {ls : Array Slot} {cells slots : Nat} (hM : g_M G x σ s H locs) (hl : lv_has ls 9 [(0, .ref b), (1, .ref (g_ad G 60)), (2, .ref (g_ad G 87)), (3, .ref (g_ad G 106)), (4, .ref (g_ad G 107)), (5, .int (nI i))]) (hroom : cells + 8 ≤ room_1.cells ∧ slots + 48 ≤ room_1.slots) (h : DL_14 xs i σ x (fun σ x => ∀ (H : Heap) (locs : List Loc) (ls : Array Slot), g_M G x σ s H locs → lv_has ls 9 [(0, .ref b), (1, .ref (g_ad G 60)), (2, .ref (g_ad G 87)), (3, .ref (g_ad G 106)), (4, .ref (g_ad G 107)), (5, .int (nI i))] → W p l e room_1 s m #[.ref b] below meth c H locs (cells + 8) (slots + 48) Q (F0 m 3015 ls []))) : W p l e room_1 s m #[.ref b] below meth c H locs cells slots Q (F0 m 1210 ls []) := by
  unfold DL_14 at h
  have hx := C.1
  have hb := C.2.1
  refine lv_aload_n (pc := 1210) hx hb dL_law_1210 rfl (lv_at hl 1 rfl) ?_
  refine lv_aload_n (pc := 1211) hx hb dL_law_1211 rfl (lv_at hl 0 rfl) ?_
  refine lv_iload (pc := 1212) hx hb dL_law_1212 (lv_at hl 5 rfl) ?_
  refine lv_iconst (pc := 1214) (v := 1) hx hb dL_law_1214 (by decide) ?_
  refine lv_iadd (pc := 1215) hx hb dL_law_1215 ?_
  refine g_scr (pc := 1216) (k := i + 1) C hX hbl hbA hM (sc_in1 hi hL) (sc_ix1 hi hL) dL_law_1216 ?_
  refine lv_aload_n (pc := 1217) hx hb dL_law_1217 rfl (lv_at hl 3 rfl) ?_
  refine g_cSw (pc := 1218) C hM hl.1 yw_L_policies q3_191 (w_L_policies l hl0 G (xs (i + 1)) σ x _ h) rfl rfl ⟨⟨Nat.le_of_ble_eq_true rfl, Nat.le_of_ble_eq_true rfl⟩, Nat.le_trans (Nat.add_le_add_left (by decide) _) hroom.1, Nat.le_trans (Nat.add_le_add_left (by decide) _) hroom.2⟩ (Nat.le_of_ble_eq_true rfl) dL_law_1218 (fun r1218 u1218 H locs h hM => ?_)
  refine W.widen (k := cells + 8) (n := slots + 48) (Nat.add_le_add_left (by decide) _) (Nat.add_le_add_left (by decide) _) ?_
  refine lv_istore (pc := 1221) (lv' := [(6, .int r1218), (0, .ref b), (1, .ref (g_ad G 60)), (2, .ref (g_ad G 87)), (3, .ref (g_ad G 106)), (4, .ref (g_ad G 107)), (5, .int (nI i))]) hx hb dL_law_1221 hl (by decide) rfl (fun ls hl => ?_)
  refine lv_aload_n (pc := 1223) hx hb dL_law_1223 rfl (lv_at hl 3 rfl) ?_
  refine lv_aload_n (pc := 1224) hx hb dL_law_1224 rfl (lv_at hl 1 rfl) ?_
  refine lv_iload (pc := 1225) hx hb dL_law_1225 (lv_at hl 6 rfl) ?_
  refine lv_iconst (pc := 1227) (v := 1) hx hb dL_law_1227 (by decide) ?_
  refine lv_iadd (pc := 1228) hx hb dL_law_1228 ?_
  refine g_scr (pc := 1229) (k := i + 1) C hX hbl hbA hM (sc_in1 hi hL) (sc_ix1 hi hL) dL_law_1229 ?_
  refine g_cVi (pc := 1230) C hM hl.1 yv_X12_policies q6_232 (by decide) ce_87 rfl (w_X12_policies l G u1218.2 (xs (i + 1)) u1218.1 _ h) rfl rfl ⟨⟨Nat.le_of_ble_eq_true rfl, Nat.le_of_ble_eq_true rfl⟩, hroom.1, hroom.2⟩ (Nat.le_of_ble_eq_true rfl) dL_law_1230 (fun r1230 s1230 H locs h hM => ?_)
  refine lv_istore (pc := 1233) (lv' := [(7, .int r1230), (6, .int r1218), (0, .ref b), (1, .ref (g_ad G 60)), (2, .ref (g_ad G 87)), (3, .ref (g_ad G 106)), (4, .ref (g_ad G 107)), (5, .int (nI i))]) hx hb dL_law_1233 hl (by decide) rfl (fun ls hl => ?_)
  refine lv_aload_n (pc := 1235) hx hb dL_law_1235 rfl (lv_at hl 4 rfl) ?_
  refine g_cVi (pc := 1236) C hM hl.1 yv_X12_thrown q6_81 (by decide) ce_87 rfl (w_X12_thrown l G u1218.2 s1230 _ h) rfl rfl ⟨⟨Nat.le_of_ble_eq_true rfl, Nat.le_of_ble_eq_true rfl⟩, hroom.1, hroom.2⟩ (Nat.le_of_ble_eq_true rfl) dL_law_1236 (fun r1236 s1236 H locs h hM => ?_)
  refine lv_iload (pc := 1239) hx hb dL_law_1239 (lv_at hl 1 rfl) ?_
  refine lv_icmp_eq (pc := 1241) (tgt := 1246) hx hb dL_law_1241 (by decide) (fun c1241 => ?_) (fun c1241 => ?_)
  · have h := h.1 c1241
    refine lv_iload (pc := 1246) hx hb dL_law_1246 (lv_at hl 1 rfl) ?_
    refine lv_if_ne (pc := 1248) (tgt := 1263) hx hb dL_law_1248 (by decide) (fun c1248 => ?_) (fun c1248 => ?_)
    · have h := h.2 c1248
      refine lv_goto (pc := 1263) (tgt := 3015) hx hb dL_law_1263 (by decide) ?_
      exact h _ _ _ hM (lv_sub hl [2, 3, 4, 5, 6, 7] rfl)
    · have h := h.1 c1248
      refine lv_aload_n (pc := 1251) hx hb dL_law_1251 rfl (lv_at hl 5 rfl) ?_
      refine lv_iconst (pc := 1252) (v := 0) hx hb dL_law_1252 (by decide) ?_
      refine g_lald (pc := 1253) C hM dL_law_1253 ?_
      refine lv_iload (pc := 1254) hx hb dL_law_1254 (lv_at hl 0 rfl) ?_
      refine lv_i2l (pc := 1256) (v := (r1230).toInt64) hx hb dL_law_1256 rfl ?_
      refine W.lcmp (pc := 1257) hx hb dL_law_1257 ?_
      refine lv_if_eq (pc := 1258) (tgt := 1263) hx hb dL_law_1258 (by decide) (fun c1258 => ?_) (fun c1258 => ?_)
      · have h := h.1 c1258
        refine lv_goto (pc := 1263) (tgt := 3015) hx hb dL_law_1263 (by decide) ?_
        exact h _ _ _ hM (lv_sub hl [2, 3, 4, 5, 6, 7] rfl)
      · have h := h.2 c1258
        refine lv_iconst (pc := 1261) (v := 0) hx hb dL_law_1261 (by decide) ?_
        exact h.elim
  · have h := h.2 c1241
    refine lv_iconst (pc := 1244) (v := 0) hx hb dL_law_1244 (by decide) ?_
    exact h.elim
set_option maxHeartbeats 4000000 in
set_option maxRecDepth 100000 in
theorem law_case_15 {p : Program} {l : Launch} {e : Env} {s : State} {m : MethodId} {below : List Frame} {meth : Method} {c : Code} {Q : State → Prop} (hl0 : l.stackTraces = false) {G : GP} {b L : Nat} {xs : Nat → Int32} (C : g_C p s m #[.ref b] c code 9 RL G) (hX : va_X b L xs s s.heap) (hbl : b < s.heap.size) (hbA : ¬ g_A G b) (hL : L ≤ 3072) {i : Nat} (hi : i + 6 ≤ L) {σ : Sto} {x : XP} {H : Heap} {locs : List Loc} {ls : Array Slot} {cells slots : Nat} (hM : g_M G x σ s H locs) (hl : lv_has ls 9 [(0, .ref b), (1, .ref (g_ad G 60)), (2, .ref (g_ad G 87)), (3, .ref (g_ad G 106)), (4, .ref (g_ad G 107)), (5, .int (nI i))]) (hroom : cells + 8 ≤ room_1.cells ∧ slots + 48 ≤ room_1.slots) (h : DL_15 xs i σ x (fun σ x => ∀ (H : Heap) (locs : List Loc) (ls : Array Slot), g_M G x σ s H locs → lv_has ls 9 [(0, .ref b), (1, .ref (g_ad G 60)), (2, .ref (g_ad G 87)), (3, .ref (g_ad G 106)), (4, .ref (g_ad G 107)), (5, .int (nI i))] → W p l e room_1 s m #[.ref b] below meth c H locs (cells + 8) (slots + 48) Q (F0 m 3015 ls []))) : W p l e room_1 s m #[.ref b] below meth c H locs cells slots Q (F0 m 1266 ls []) := by
  unfold DL_15 at h
  have hx := C.1
  have hb := C.2.1
  refine lv_aload_n (pc := 1266) hx hb dL_law_1266 rfl (lv_at hl 1 rfl) ?_
  refine lv_aload_n (pc := 1267) hx hb dL_law_1267 rfl (lv_at hl 0 rfl) ?_
  refine lv_iload (pc := 1268) hx hb dL_law_1268 (lv_at hl 5 rfl) ?_
  refine lv_iconst (pc := 1270) (v := 1) hx hb dL_law_1270 (by decide) ?_
  refine lv_iadd (pc := 1271) hx hb dL_law_1271 ?_
  refine g_scr (pc := 1272) (k := i + 1) C hX hbl hbA hM (sc_in1 hi hL) (sc_ix1 hi hL) dL_law_1272 ?_
  refine lv_aload_n (pc := 1273) hx hb dL_law_1273 rfl (lv_at hl 0 rfl) ?_
  refine lv_iload (pc := 1274) hx hb dL_law_1274 (lv_at hl 5 rfl) ?_
  refine lv_iconst (pc := 1276) (v := 2) hx hb dL_law_1276 (by decide) ?_
  refine lv_iadd (pc := 1277) hx hb dL_law_1277 ?_
  refine g_scr (pc := 1278) (k := i + 2) C hX hbl hbA hM (sc_in2 hi hL) (sc_ix2 hi hL) dL_law_1278 ?_
  refine lv_aload_n (pc := 1279) hx hb dL_law_1279 rfl (lv_at hl 3 rfl) ?_
  refine g_cSw (pc := 1280) C hM hl.1 yw_L_chainLength q3_211 (w_L_chainLength l hl0 G (xs (i + 1)) (xs (i + 2)) σ x _ h) rfl rfl ⟨⟨Nat.le_of_ble_eq_true rfl, Nat.le_of_ble_eq_true rfl⟩, Nat.le_trans (Nat.add_le_add_left (by decide) _) hroom.1, Nat.le_trans (Nat.add_le_add_left (by decide) _) hroom.2⟩ (Nat.le_of_ble_eq_true rfl) dL_law_1280 (fun r1280 u1280 H locs h hM => ?_)
  refine W.widen (k := cells + 8) (n := slots + 48) (Nat.add_le_add_left (by decide) _) (Nat.add_le_add_left (by decide) _) ?_
  refine lv_istore (pc := 1283) (lv' := [(6, .int r1280), (0, .ref b), (1, .ref (g_ad G 60)), (2, .ref (g_ad G 87)), (3, .ref (g_ad G 106)), (4, .ref (g_ad G 107)), (5, .int (nI i))]) hx hb dL_law_1283 hl (by decide) rfl (fun ls hl => ?_)
  refine lv_aload_n (pc := 1285) hx hb dL_law_1285 rfl (lv_at hl 3 rfl) ?_
  refine lv_aload_n (pc := 1286) hx hb dL_law_1286 rfl (lv_at hl 1 rfl) ?_
  refine lv_iload (pc := 1287) hx hb dL_law_1287 (lv_at hl 6 rfl) ?_
  refine lv_iconst (pc := 1289) (v := 1) hx hb dL_law_1289 (by decide) ?_
  refine lv_iadd (pc := 1290) hx hb dL_law_1290 ?_
  refine g_scr (pc := 1291) (k := i + 1) C hX hbl hbA hM (sc_in1 hi hL) (sc_ix1 hi hL) dL_law_1291 ?_
  refine lv_aload_n (pc := 1292) hx hb dL_law_1292 rfl (lv_at hl 1 rfl) ?_
  refine lv_iload (pc := 1293) hx hb dL_law_1293 (lv_at hl 6 rfl) ?_
  refine lv_iconst (pc := 1295) (v := 2) hx hb dL_law_1295 (by decide) ?_
  refine lv_iadd (pc := 1296) hx hb dL_law_1296 ?_
  refine g_scr (pc := 1297) (k := i + 2) C hX hbl hbA hM (sc_in2 hi hL) (sc_ix2 hi hL) dL_law_1297 ?_
  refine g_cVi (pc := 1298) C hM hl.1 yv_X12_chainLength q7_4 (by decide) ce_87 rfl (w_X12_chainLength l G u1280.2 (xs (i + 1)) (xs (i + 2)) u1280.1 _ h) rfl rfl ⟨⟨Nat.le_of_ble_eq_true rfl, Nat.le_of_ble_eq_true rfl⟩, hroom.1, hroom.2⟩ (Nat.le_of_ble_eq_true rfl) dL_law_1298 (fun r1298 s1298 H locs h hM => ?_)
  refine lv_istore (pc := 1301) (lv' := [(7, .int r1298), (6, .int r1280), (0, .ref b), (1, .ref (g_ad G 60)), (2, .ref (g_ad G 87)), (3, .ref (g_ad G 106)), (4, .ref (g_ad G 107)), (5, .int (nI i))]) hx hb dL_law_1301 hl (by decide) rfl (fun ls hl => ?_)
  refine lv_aload_n (pc := 1303) hx hb dL_law_1303 rfl (lv_at hl 4 rfl) ?_
  refine g_cVi (pc := 1304) C hM hl.1 yv_X12_thrown q6_81 (by decide) ce_87 rfl (w_X12_thrown l G u1280.2 s1298 _ h) rfl rfl ⟨⟨Nat.le_of_ble_eq_true rfl, Nat.le_of_ble_eq_true rfl⟩, hroom.1, hroom.2⟩ (Nat.le_of_ble_eq_true rfl) dL_law_1304 (fun r1304 s1304 H locs h hM => ?_)
  refine lv_iload (pc := 1307) hx hb dL_law_1307 (lv_at hl 1 rfl) ?_
  refine lv_icmp_eq (pc := 1309) (tgt := 1314) hx hb dL_law_1309 (by decide) (fun c1309 => ?_) (fun c1309 => ?_)
  · have h := h.1 c1309
    refine lv_iload (pc := 1314) hx hb dL_law_1314 (lv_at hl 1 rfl) ?_
    refine lv_if_ne (pc := 1316) (tgt := 1331) hx hb dL_law_1316 (by decide) (fun c1316 => ?_) (fun c1316 => ?_)
    · have h := h.2 c1316
      refine lv_goto (pc := 1331) (tgt := 3015) hx hb dL_law_1331 (by decide) ?_
      exact h _ _ _ hM (lv_sub hl [2, 3, 4, 5, 6, 7] rfl)
    · have h := h.1 c1316
      refine lv_aload_n (pc := 1319) hx hb dL_law_1319 rfl (lv_at hl 5 rfl) ?_
      refine lv_iconst (pc := 1320) (v := 0) hx hb dL_law_1320 (by decide) ?_
      refine g_lald (pc := 1321) C hM dL_law_1321 ?_
      refine lv_iload (pc := 1322) hx hb dL_law_1322 (lv_at hl 0 rfl) ?_
      refine lv_i2l (pc := 1324) (v := (r1298).toInt64) hx hb dL_law_1324 rfl ?_
      refine W.lcmp (pc := 1325) hx hb dL_law_1325 ?_
      refine lv_if_eq (pc := 1326) (tgt := 1331) hx hb dL_law_1326 (by decide) (fun c1326 => ?_) (fun c1326 => ?_)
      · have h := h.1 c1326
        refine lv_goto (pc := 1331) (tgt := 3015) hx hb dL_law_1331 (by decide) ?_
        exact h _ _ _ hM (lv_sub hl [2, 3, 4, 5, 6, 7] rfl)
      · have h := h.2 c1326
        refine lv_iconst (pc := 1329) (v := 0) hx hb dL_law_1329 (by decide) ?_
        exact h.elim
  · have h := h.2 c1309
    refine lv_iconst (pc := 1312) (v := 0) hx hb dL_law_1312 (by decide) ?_
    exact h.elim
