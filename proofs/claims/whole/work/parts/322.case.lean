set_option maxHeartbeats 4000000 in
set_option maxRecDepth 100000 in
theorem law_case_32 {p : Program} {l : Launch} {e : Env} {s : State} {m : MethodId} {below : List Frame} {meth : Method} {c : Code} {Q : State → Prop} (hl0 : l.stackTraces = false) {G : GP} {b L : Nat} {xs : Nat → Int32} (C : g_C p s m #[.ref b] c code 9 RL G) (hX : va_X b L xs s s.heap) (hbl : b < s.heap.size) (hbA : ¬ g_A G b) (hL : L ≤ 3072) {i : Nat} (hi : i + 6 ≤ L) {σ : Sto} {x : XP} {H : Heap} {locs : List Loc} {ls : Array Slot} {cells slots : Nat} (hM : g_M G x σ s H locs) (hl : lv_has ls 9 [(0, .ref b), (1, .ref (g_ad G 60)), (2, .ref (g_ad G 87)), (3, .ref (g_ad G 106)), (4, .ref (g_ad G 107)), (5, .int (nI i))]) (hroom : cells + 8 ≤ room_1.cells ∧ slots + 48 ≤ room_1.slots) (h : DL_32 xs i σ x (fun σ x => ∀ (H : Heap) (locs : List Loc) (ls : Array Slot), g_M G x σ s H locs → lv_has ls 9 [(0, .ref b), (1, .ref (g_ad G 60)), (2, .ref (g_ad G 87)), (3, .ref (g_ad G 106)), (4, .ref (g_ad G 107)), (5, .int (nI i))] → W p l e room_1 s m #[.ref b] below meth c H locs (cells + 8) (slots + 48) Q (F0 m 3015 ls []))) : W p l e room_1 s m #[.ref b] below meth c H locs cells slots Q (F0 m 2230 ls []) := by
  unfold DL_32 at h
  have hx := C.1
  have hb := C.2.1
  refine lv_aload_n (pc := 2230) hx hb dL_law_2230 rfl (lv_at hl 1 rfl) ?_
  refine lv_aload_n (pc := 2231) hx hb dL_law_2231 rfl (lv_at hl 0 rfl) ?_
  refine lv_iload (pc := 2232) hx hb dL_law_2232 (lv_at hl 5 rfl) ?_
  refine lv_iconst (pc := 2234) (v := 1) hx hb dL_law_2234 (by decide) ?_
  refine lv_iadd (pc := 2235) hx hb dL_law_2235 ?_
  refine g_scr (pc := 2236) (k := i + 1) C hX hbl hbA hM (sc_in1 hi hL) (sc_ix1 hi hL) dL_law_2236 ?_
  refine lv_aload_n (pc := 2237) hx hb dL_law_2237 rfl (lv_at hl 0 rfl) ?_
  refine lv_iload (pc := 2238) hx hb dL_law_2238 (lv_at hl 5 rfl) ?_
  refine lv_iconst (pc := 2240) (v := 2) hx hb dL_law_2240 (by decide) ?_
  refine lv_iadd (pc := 2241) hx hb dL_law_2241 ?_
  refine g_scr (pc := 2242) (k := i + 2) C hX hbl hbA hM (sc_in2 hi hL) (sc_ix2 hi hL) dL_law_2242 ?_
  refine lv_aload_n (pc := 2243) hx hb dL_law_2243 rfl (lv_at hl 3 rfl) ?_
  refine g_cSw (pc := 2244) C hM hl.1 yw_L_covers q4_201 (w_L_covers l hl0 G (xs (i + 1)) (xs (i + 2)) σ x _ h) rfl rfl ⟨⟨Nat.le_of_ble_eq_true rfl, Nat.le_of_ble_eq_true rfl⟩, Nat.le_trans (Nat.add_le_add_left (by decide) _) hroom.1, Nat.le_trans (Nat.add_le_add_left (by decide) _) hroom.2⟩ (Nat.le_of_ble_eq_true rfl) dL_law_2244 (fun r2244 u2244 H locs h hM => ?_)
  refine W.widen (k := cells + 8) (n := slots + 48) (Nat.add_le_add_left (by decide) _) (Nat.add_le_add_left (by decide) _) ?_
  refine lv_istore (pc := 2247) (lv' := [(6, .int r2244), (0, .ref b), (1, .ref (g_ad G 60)), (2, .ref (g_ad G 87)), (3, .ref (g_ad G 106)), (4, .ref (g_ad G 107)), (5, .int (nI i))]) hx hb dL_law_2247 hl (by decide) rfl (fun ls hl => ?_)
  refine lv_aload_n (pc := 2249) hx hb dL_law_2249 rfl (lv_at hl 3 rfl) ?_
  refine lv_aload_n (pc := 2250) hx hb dL_law_2250 rfl (lv_at hl 1 rfl) ?_
  refine lv_iload (pc := 2251) hx hb dL_law_2251 (lv_at hl 6 rfl) ?_
  refine lv_iconst (pc := 2253) (v := 1) hx hb dL_law_2253 (by decide) ?_
  refine lv_iadd (pc := 2254) hx hb dL_law_2254 ?_
  refine g_scr (pc := 2255) (k := i + 1) C hX hbl hbA hM (sc_in1 hi hL) (sc_ix1 hi hL) dL_law_2255 ?_
  refine lv_aload_n (pc := 2256) hx hb dL_law_2256 rfl (lv_at hl 1 rfl) ?_
  refine lv_iload (pc := 2257) hx hb dL_law_2257 (lv_at hl 6 rfl) ?_
  refine lv_iconst (pc := 2259) (v := 2) hx hb dL_law_2259 (by decide) ?_
  refine lv_iadd (pc := 2260) hx hb dL_law_2260 ?_
  refine g_scr (pc := 2261) (k := i + 2) C hX hbl hbA hM (sc_in2 hi hL) (sc_ix2 hi hL) dL_law_2261 ?_
  refine g_cVi (pc := 2262) C hM hl.1 yv_X12_covers q7_131 (by decide) ce_87 rfl (w_X12_covers l G u2244.2 (xs (i + 1)) (xs (i + 2)) u2244.1 _ h) rfl rfl ⟨⟨Nat.le_of_ble_eq_true rfl, Nat.le_of_ble_eq_true rfl⟩, hroom.1, hroom.2⟩ (Nat.le_of_ble_eq_true rfl) dL_law_2262 (fun r2262 s2262 H locs h hM => ?_)
  refine lv_istore (pc := 2265) (lv' := [(7, .int r2262), (6, .int r2244), (0, .ref b), (1, .ref (g_ad G 60)), (2, .ref (g_ad G 87)), (3, .ref (g_ad G 106)), (4, .ref (g_ad G 107)), (5, .int (nI i))]) hx hb dL_law_2265 hl (by decide) rfl (fun ls hl => ?_)
  refine lv_aload_n (pc := 2267) hx hb dL_law_2267 rfl (lv_at hl 4 rfl) ?_
  refine g_cVi (pc := 2268) C hM hl.1 yv_X12_thrown q6_81 (by decide) ce_87 rfl (w_X12_thrown l G u2244.2 s2262 _ h) rfl rfl ⟨⟨Nat.le_of_ble_eq_true rfl, Nat.le_of_ble_eq_true rfl⟩, hroom.1, hroom.2⟩ (Nat.le_of_ble_eq_true rfl) dL_law_2268 (fun r2268 s2268 H locs h hM => ?_)
  refine lv_iload (pc := 2271) hx hb dL_law_2271 (lv_at hl 1 rfl) ?_
  refine lv_icmp_eq (pc := 2273) (tgt := 2278) hx hb dL_law_2273 (by decide) (fun c2273 => ?_) (fun c2273 => ?_)
  · have h := h.1 c2273
    refine lv_iload (pc := 2278) hx hb dL_law_2278 (lv_at hl 1 rfl) ?_
    refine lv_if_ne (pc := 2280) (tgt := 2302) hx hb dL_law_2280 (by decide) (fun c2280 => ?_) (fun c2280 => ?_)
    · have h := h.2 c2280
      refine lv_goto (pc := 2302) (tgt := 3015) hx hb dL_law_2302 (by decide) ?_
      exact h _ _ _ hM (lv_sub hl [2, 3, 4, 5, 6, 7] rfl)
    · have h := h.1 c2280
      refine lv_aload_n (pc := 2283) hx hb dL_law_2283 rfl (lv_at hl 5 rfl) ?_
      refine lv_iconst (pc := 2284) (v := 0) hx hb dL_law_2284 (by decide) ?_
      refine g_lald (pc := 2285) C hM dL_law_2285 ?_
      refine lv_iload (pc := 2286) hx hb dL_law_2286 (lv_at hl 0 rfl) ?_
      refine lv_if_eq (pc := 2288) (tgt := 2295) hx hb dL_law_2288 (by decide) (fun c2288 => ?_) (fun c2288 => ?_)
      · have h := h.1 c2288
        refine lv_lconst (pc := 2295) (v := 0) hx hb dL_law_2295 (by decide) ?_
        refine W.lcmp (pc := 2296) hx hb dL_law_2296 ?_
        refine lv_if_eq (pc := 2297) (tgt := 2302) hx hb dL_law_2297 (by decide) (fun c2297 => ?_) (fun c2297 => ?_)
        · have h := h.1 c2297
          refine lv_goto (pc := 2302) (tgt := 3015) hx hb dL_law_2302 (by decide) ?_
          exact h _ _ _ hM (lv_sub hl [2, 3, 4, 5, 6, 7] rfl)
        · have h := h.2 c2297
          refine lv_iconst (pc := 2300) (v := 0) hx hb dL_law_2300 (by decide) ?_
          exact h.elim
      · have h := h.2 c2288
        refine lv_lconst (pc := 2291) (v := 1) hx hb dL_law_2291 (by decide) ?_
        refine lv_goto (pc := 2292) (tgt := 2296) hx hb dL_law_2292 (by decide) ?_
        refine W.lcmp (pc := 2296) hx hb dL_law_2296 ?_
        refine lv_if_eq (pc := 2297) (tgt := 2302) hx hb dL_law_2297 (by decide) (fun c2297 => ?_) (fun c2297 => ?_)
        · have h := h.1 c2297
          refine lv_goto (pc := 2302) (tgt := 3015) hx hb dL_law_2302 (by decide) ?_
          exact h _ _ _ hM (lv_sub hl [2, 3, 4, 5, 6, 7] rfl)
        · have h := h.2 c2297
          refine lv_iconst (pc := 2300) (v := 0) hx hb dL_law_2300 (by decide) ?_
          exact h.elim
  · have h := h.2 c2273
    refine lv_iconst (pc := 2276) (v := 0) hx hb dL_law_2276 (by decide) ?_
    exact h.elim
set_option maxHeartbeats 4000000 in
set_option maxRecDepth 100000 in
theorem law_case_33 {p : Program} {l : Launch} {e : Env} {s : State} {m : MethodId} {below : List Frame} {meth : Method} {c : Code} {Q : State → Prop} (hl0 : l.stackTraces = false) {G : GP} {b L : Nat} {xs : Nat → Int32} (C : g_C p s m #[.ref b] c code 9 RL G) (hX : va_X b L xs s s.heap) (hbl : b < s.heap.size) (hbA : ¬ g_A G b) (hL : L ≤ 3072) {i : Nat} (hi : i + 6 ≤ L) {σ : Sto} {x : XP} {H : Heap} {locs : List Loc} {ls : Array Slot} {cells slots : Nat} (hM : g_M G x σ s H locs) (hl : lv_has ls 9 [(0, .ref b), (1, .ref (g_ad G 60)), (2, .ref (g_ad G 87)), (3, .ref (g_ad G 106)), (4, .ref (g_ad G 107)), (5, .int (nI i))]) (hroom : cells + 8 ≤ room_1.cells ∧ slots + 48 ≤ room_1.slots) (h : DL_33 xs i σ x (fun σ x => ∀ (H : Heap) (locs : List Loc) (ls : Array Slot), g_M G x σ s H locs → lv_has ls 9 [(0, .ref b), (1, .ref (g_ad G 60)), (2, .ref (g_ad G 87)), (3, .ref (g_ad G 106)), (4, .ref (g_ad G 107)), (5, .int (nI i))] → W p l e room_1 s m #[.ref b] below meth c H locs (cells + 8) (slots + 48) Q (F0 m 3015 ls []))) : W p l e room_1 s m #[.ref b] below meth c H locs cells slots Q (F0 m 2305 ls []) := by
  unfold DL_33 at h
  have hx := C.1
  have hb := C.2.1
  refine lv_aload_n (pc := 2305) hx hb dL_law_2305 rfl (lv_at hl 1 rfl) ?_
  refine lv_aload_n (pc := 2306) hx hb dL_law_2306 rfl (lv_at hl 0 rfl) ?_
  refine lv_iload (pc := 2307) hx hb dL_law_2307 (lv_at hl 5 rfl) ?_
  refine lv_iconst (pc := 2309) (v := 1) hx hb dL_law_2309 (by decide) ?_
  refine lv_iadd (pc := 2310) hx hb dL_law_2310 ?_
  refine g_scr (pc := 2311) (k := i + 1) C hX hbl hbA hM (sc_in1 hi hL) (sc_ix1 hi hL) dL_law_2311 ?_
  refine lv_aload_n (pc := 2312) hx hb dL_law_2312 rfl (lv_at hl 3 rfl) ?_
  refine g_cSw (pc := 2313) C hM hl.1 yw_L_clashes q4_213 (w_L_clashes l hl0 G (xs (i + 1)) σ x _ h) rfl rfl ⟨⟨Nat.le_of_ble_eq_true rfl, Nat.le_of_ble_eq_true rfl⟩, Nat.le_trans (Nat.add_le_add_left (by decide) _) hroom.1, Nat.le_trans (Nat.add_le_add_left (by decide) _) hroom.2⟩ (Nat.le_of_ble_eq_true rfl) dL_law_2313 (fun r2313 u2313 H locs h hM => ?_)
  refine W.widen (k := cells + 8) (n := slots + 48) (Nat.add_le_add_left (by decide) _) (Nat.add_le_add_left (by decide) _) ?_
  refine lv_istore (pc := 2316) (lv' := [(6, .int r2313), (0, .ref b), (1, .ref (g_ad G 60)), (2, .ref (g_ad G 87)), (3, .ref (g_ad G 106)), (4, .ref (g_ad G 107)), (5, .int (nI i))]) hx hb dL_law_2316 hl (by decide) rfl (fun ls hl => ?_)
  refine lv_aload_n (pc := 2318) hx hb dL_law_2318 rfl (lv_at hl 3 rfl) ?_
  refine lv_aload_n (pc := 2319) hx hb dL_law_2319 rfl (lv_at hl 1 rfl) ?_
  refine lv_iload (pc := 2320) hx hb dL_law_2320 (lv_at hl 6 rfl) ?_
  refine lv_iconst (pc := 2322) (v := 1) hx hb dL_law_2322 (by decide) ?_
  refine lv_iadd (pc := 2323) hx hb dL_law_2323 ?_
  refine g_scr (pc := 2324) (k := i + 1) C hX hbl hbA hM (sc_in1 hi hL) (sc_ix1 hi hL) dL_law_2324 ?_
  refine g_cVi (pc := 2325) C hM hl.1 yv_X12_clashes q7_135 (by decide) ce_87 rfl (w_X12_clashes l G u2313.2 (xs (i + 1)) u2313.1 _ h) rfl rfl ⟨⟨Nat.le_of_ble_eq_true rfl, Nat.le_of_ble_eq_true rfl⟩, hroom.1, hroom.2⟩ (Nat.le_of_ble_eq_true rfl) dL_law_2325 (fun r2325 s2325 H locs h hM => ?_)
  refine lv_istore (pc := 2328) (lv' := [(7, .int r2325), (6, .int r2313), (0, .ref b), (1, .ref (g_ad G 60)), (2, .ref (g_ad G 87)), (3, .ref (g_ad G 106)), (4, .ref (g_ad G 107)), (5, .int (nI i))]) hx hb dL_law_2328 hl (by decide) rfl (fun ls hl => ?_)
  refine lv_aload_n (pc := 2330) hx hb dL_law_2330 rfl (lv_at hl 4 rfl) ?_
  refine g_cVi (pc := 2331) C hM hl.1 yv_X12_thrown q6_81 (by decide) ce_87 rfl (w_X12_thrown l G u2313.2 s2325 _ h) rfl rfl ⟨⟨Nat.le_of_ble_eq_true rfl, Nat.le_of_ble_eq_true rfl⟩, hroom.1, hroom.2⟩ (Nat.le_of_ble_eq_true rfl) dL_law_2331 (fun r2331 s2331 H locs h hM => ?_)
  refine lv_iload (pc := 2334) hx hb dL_law_2334 (lv_at hl 1 rfl) ?_
  refine lv_icmp_eq (pc := 2336) (tgt := 2341) hx hb dL_law_2336 (by decide) (fun c2336 => ?_) (fun c2336 => ?_)
  · have h := h.1 c2336
    refine lv_iload (pc := 2341) hx hb dL_law_2341 (lv_at hl 1 rfl) ?_
    refine lv_if_ne (pc := 2343) (tgt := 2358) hx hb dL_law_2343 (by decide) (fun c2343 => ?_) (fun c2343 => ?_)
    · have h := h.2 c2343
      refine lv_goto (pc := 2358) (tgt := 3015) hx hb dL_law_2358 (by decide) ?_
      exact h _ _ _ hM (lv_sub hl [2, 3, 4, 5, 6, 7] rfl)
    · have h := h.1 c2343
      refine lv_aload_n (pc := 2346) hx hb dL_law_2346 rfl (lv_at hl 5 rfl) ?_
      refine lv_iconst (pc := 2347) (v := 0) hx hb dL_law_2347 (by decide) ?_
      refine g_lald (pc := 2348) C hM dL_law_2348 ?_
      refine lv_iload (pc := 2349) hx hb dL_law_2349 (lv_at hl 0 rfl) ?_
      refine lv_i2l (pc := 2351) (v := (r2325).toInt64) hx hb dL_law_2351 rfl ?_
      refine W.lcmp (pc := 2352) hx hb dL_law_2352 ?_
      refine lv_if_eq (pc := 2353) (tgt := 2358) hx hb dL_law_2353 (by decide) (fun c2353 => ?_) (fun c2353 => ?_)
      · have h := h.1 c2353
        refine lv_goto (pc := 2358) (tgt := 3015) hx hb dL_law_2358 (by decide) ?_
        exact h _ _ _ hM (lv_sub hl [2, 3, 4, 5, 6, 7] rfl)
      · have h := h.2 c2353
        refine lv_iconst (pc := 2356) (v := 0) hx hb dL_law_2356 (by decide) ?_
        exact h.elim
  · have h := h.2 c2336
    refine lv_iconst (pc := 2339) (v := 0) hx hb dL_law_2339 (by decide) ?_
    exact h.elim
set_option maxHeartbeats 4000000 in
set_option maxRecDepth 100000 in
theorem law_case_34 {p : Program} {l : Launch} {e : Env} {s : State} {m : MethodId} {below : List Frame} {meth : Method} {c : Code} {Q : State → Prop} (hl0 : l.stackTraces = false) {G : GP} {b L : Nat} {xs : Nat → Int32} (C : g_C p s m #[.ref b] c code 9 RL G) (hX : va_X b L xs s s.heap) (hbl : b < s.heap.size) (hbA : ¬ g_A G b) (hL : L ≤ 3072) {i : Nat} (hi : i + 6 ≤ L) {σ : Sto} {x : XP} {H : Heap} {locs : List Loc} {ls : Array Slot} {cells slots : Nat} (hM : g_M G x σ s H locs) (hl : lv_has ls 9 [(0, .ref b), (1, .ref (g_ad G 60)), (2, .ref (g_ad G 87)), (3, .ref (g_ad G 106)), (4, .ref (g_ad G 107)), (5, .int (nI i))]) (hroom : cells + 8 ≤ room_1.cells ∧ slots + 48 ≤ room_1.slots) (h : DL_34 xs i σ x (fun σ x => ∀ (H : Heap) (locs : List Loc) (ls : Array Slot), g_M G x σ s H locs → lv_has ls 9 [(0, .ref b), (1, .ref (g_ad G 60)), (2, .ref (g_ad G 87)), (3, .ref (g_ad G 106)), (4, .ref (g_ad G 107)), (5, .int (nI i))] → W p l e room_1 s m #[.ref b] below meth c H locs (cells + 8) (slots + 48) Q (F0 m 3015 ls []))) : W p l e room_1 s m #[.ref b] below meth c H locs cells slots Q (F0 m 2361 ls []) := by
  unfold DL_34 at h
  have hx := C.1
  have hb := C.2.1
  refine lv_aload_n (pc := 2361) hx hb dL_law_2361 rfl (lv_at hl 1 rfl) ?_
  refine lv_aload_n (pc := 2362) hx hb dL_law_2362 rfl (lv_at hl 0 rfl) ?_
  refine lv_iload (pc := 2363) hx hb dL_law_2363 (lv_at hl 5 rfl) ?_
  refine lv_iconst (pc := 2365) (v := 1) hx hb dL_law_2365 (by decide) ?_
  refine lv_iadd (pc := 2366) hx hb dL_law_2366 ?_
  refine g_scr (pc := 2367) (k := i + 1) C hX hbl hbA hM (sc_in1 hi hL) (sc_ix1 hi hL) dL_law_2367 ?_
  refine lv_aload_n (pc := 2368) hx hb dL_law_2368 rfl (lv_at hl 3 rfl) ?_
  refine g_cSw (pc := 2369) C hM hl.1 yw_L_neverDeciding q4_229 (w_L_neverDeciding l hl0 G (xs (i + 1)) σ x _ h) rfl rfl ⟨⟨Nat.le_of_ble_eq_true rfl, Nat.le_of_ble_eq_true rfl⟩, Nat.le_trans (Nat.add_le_add_left (by decide) _) hroom.1, Nat.le_trans (Nat.add_le_add_left (by decide) _) hroom.2⟩ (Nat.le_of_ble_eq_true rfl) dL_law_2369 (fun r2369 u2369 H locs h hM => ?_)
  refine W.widen (k := cells + 8) (n := slots + 48) (Nat.add_le_add_left (by decide) _) (Nat.add_le_add_left (by decide) _) ?_
  refine lv_istore (pc := 2372) (lv' := [(6, .int r2369), (0, .ref b), (1, .ref (g_ad G 60)), (2, .ref (g_ad G 87)), (3, .ref (g_ad G 106)), (4, .ref (g_ad G 107)), (5, .int (nI i))]) hx hb dL_law_2372 hl (by decide) rfl (fun ls hl => ?_)
  refine lv_aload_n (pc := 2374) hx hb dL_law_2374 rfl (lv_at hl 3 rfl) ?_
  refine lv_aload_n (pc := 2375) hx hb dL_law_2375 rfl (lv_at hl 1 rfl) ?_
  refine lv_iload (pc := 2376) hx hb dL_law_2376 (lv_at hl 6 rfl) ?_
  refine lv_iconst (pc := 2378) (v := 1) hx hb dL_law_2378 (by decide) ?_
  refine lv_iadd (pc := 2379) hx hb dL_law_2379 ?_
  refine g_scr (pc := 2380) (k := i + 1) C hX hbl hbA hM (sc_in1 hi hL) (sc_ix1 hi hL) dL_law_2380 ?_
  refine g_cVi (pc := 2381) C hM hl.1 yv_X12_neverDeciding q7_139 (by decide) ce_87 rfl (w_X12_neverDeciding l G u2369.2 (xs (i + 1)) u2369.1 _ h) rfl rfl ⟨⟨Nat.le_of_ble_eq_true rfl, Nat.le_of_ble_eq_true rfl⟩, hroom.1, hroom.2⟩ (Nat.le_of_ble_eq_true rfl) dL_law_2381 (fun r2381 s2381 H locs h hM => ?_)
  refine lv_istore (pc := 2384) (lv' := [(7, .int r2381), (6, .int r2369), (0, .ref b), (1, .ref (g_ad G 60)), (2, .ref (g_ad G 87)), (3, .ref (g_ad G 106)), (4, .ref (g_ad G 107)), (5, .int (nI i))]) hx hb dL_law_2384 hl (by decide) rfl (fun ls hl => ?_)
  refine lv_aload_n (pc := 2386) hx hb dL_law_2386 rfl (lv_at hl 4 rfl) ?_
  refine g_cVi (pc := 2387) C hM hl.1 yv_X12_thrown q6_81 (by decide) ce_87 rfl (w_X12_thrown l G u2369.2 s2381 _ h) rfl rfl ⟨⟨Nat.le_of_ble_eq_true rfl, Nat.le_of_ble_eq_true rfl⟩, hroom.1, hroom.2⟩ (Nat.le_of_ble_eq_true rfl) dL_law_2387 (fun r2387 s2387 H locs h hM => ?_)
  refine lv_iload (pc := 2390) hx hb dL_law_2390 (lv_at hl 1 rfl) ?_
  refine lv_icmp_eq (pc := 2392) (tgt := 2397) hx hb dL_law_2392 (by decide) (fun c2392 => ?_) (fun c2392 => ?_)
  · have h := h.1 c2392
    refine lv_iload (pc := 2397) hx hb dL_law_2397 (lv_at hl 1 rfl) ?_
    refine lv_if_ne (pc := 2399) (tgt := 2414) hx hb dL_law_2399 (by decide) (fun c2399 => ?_) (fun c2399 => ?_)
    · have h := h.2 c2399
      refine lv_goto (pc := 2414) (tgt := 3015) hx hb dL_law_2414 (by decide) ?_
      exact h _ _ _ hM (lv_sub hl [2, 3, 4, 5, 6, 7] rfl)
    · have h := h.1 c2399
      refine lv_aload_n (pc := 2402) hx hb dL_law_2402 rfl (lv_at hl 5 rfl) ?_
      refine lv_iconst (pc := 2403) (v := 0) hx hb dL_law_2403 (by decide) ?_
      refine g_lald (pc := 2404) C hM dL_law_2404 ?_
      refine lv_iload (pc := 2405) hx hb dL_law_2405 (lv_at hl 0 rfl) ?_
      refine lv_i2l (pc := 2407) (v := (r2381).toInt64) hx hb dL_law_2407 rfl ?_
      refine W.lcmp (pc := 2408) hx hb dL_law_2408 ?_
      refine lv_if_eq (pc := 2409) (tgt := 2414) hx hb dL_law_2409 (by decide) (fun c2409 => ?_) (fun c2409 => ?_)
      · have h := h.1 c2409
        refine lv_goto (pc := 2414) (tgt := 3015) hx hb dL_law_2414 (by decide) ?_
        exact h _ _ _ hM (lv_sub hl [2, 3, 4, 5, 6, 7] rfl)
      · have h := h.2 c2409
        refine lv_iconst (pc := 2412) (v := 0) hx hb dL_law_2412 (by decide) ?_
        exact h.elim
  · have h := h.2 c2392
    refine lv_iconst (pc := 2395) (v := 0) hx hb dL_law_2395 (by decide) ?_
    exact h.elim
set_option maxHeartbeats 4000000 in
set_option maxRecDepth 100000 in
theorem law_case_35 {p : Program} {l : Launch} {e : Env} {s : State} {m : MethodId} {below : List Frame} {meth : Method} {c : Code} {Q : State → Prop} (hl0 : l.stackTraces = false) {G : GP} {b L : Nat} {xs : Nat → Int32} (C : g_C p s m #[.ref b] c code 9 RL G) (hX : va_X b L xs s s.heap) (hbl : b < s.heap.size) (hbA : ¬ g_A G b) (hL : L ≤ 3072) {i : Nat} (hi : i + 6 ≤ L) {σ : Sto} {x : XP} {H : Heap} {locs : List Loc} {ls : Array Slot} {cells slots : Nat} (hM : g_M G x σ s H locs) (hl : lv_has ls 9 [(0, .ref b), (1, .ref (g_ad G 60)), (2, .ref (g_ad G 87)), (3, .ref (g_ad G 106)), (4, .ref (g_ad G 107)), (5, .int (nI i))]) (hroom : cells + 8 ≤ room_1.cells ∧ slots + 48 ≤ room_1.slots) (h : DL_35 xs i σ x (fun σ x => ∀ (H : Heap) (locs : List Loc) (ls : Array Slot), g_M G x σ s H locs → lv_has ls 9 [(0, .ref b), (1, .ref (g_ad G 60)), (2, .ref (g_ad G 87)), (3, .ref (g_ad G 106)), (4, .ref (g_ad G 107)), (5, .int (nI i))] → W p l e room_1 s m #[.ref b] below meth c H locs (cells + 8) (slots + 48) Q (F0 m 3015 ls []))) : W p l e room_1 s m #[.ref b] below meth c H locs cells slots Q (F0 m 2417 ls []) := by
  unfold DL_35 at h
  have hx := C.1
  have hb := C.2.1
  refine lv_aload_n (pc := 2417) hx hb dL_law_2417 rfl (lv_at hl 1 rfl) ?_
  refine lv_aload_n (pc := 2418) hx hb dL_law_2418 rfl (lv_at hl 0 rfl) ?_
  refine lv_iload (pc := 2419) hx hb dL_law_2419 (lv_at hl 5 rfl) ?_
  refine lv_iconst (pc := 2421) (v := 1) hx hb dL_law_2421 (by decide) ?_
  refine lv_iadd (pc := 2422) hx hb dL_law_2422 ?_
  refine g_scr (pc := 2423) (k := i + 1) C hX hbl hbA hM (sc_in1 hi hL) (sc_ix1 hi hL) dL_law_2423 ?_
  refine lv_aload_n (pc := 2424) hx hb dL_law_2424 rfl (lv_at hl 0 rfl) ?_
  refine lv_iload (pc := 2425) hx hb dL_law_2425 (lv_at hl 5 rfl) ?_
  refine lv_iconst (pc := 2427) (v := 2) hx hb dL_law_2427 (by decide) ?_
  refine lv_iadd (pc := 2428) hx hb dL_law_2428 ?_
  refine g_scr (pc := 2429) (k := i + 2) C hX hbl hbA hM (sc_in2 hi hL) (sc_ix2 hi hL) dL_law_2429 ?_
  refine lv_aload_n (pc := 2430) hx hb dL_law_2430 rfl (lv_at hl 3 rfl) ?_
  refine g_cSw (pc := 2431) C hM hl.1 yw_L_witness q5_28 (w_L_witness l hl0 G (xs (i + 1)) (xs (i + 2)) σ x _ h) rfl rfl ⟨⟨Nat.le_of_ble_eq_true rfl, Nat.le_of_ble_eq_true rfl⟩, Nat.le_trans (Nat.add_le_add_left (by decide) _) hroom.1, Nat.le_trans (Nat.add_le_add_left (by decide) _) hroom.2⟩ (Nat.le_of_ble_eq_true rfl) dL_law_2431 (fun r2431 u2431 H locs h hM => ?_)
  refine W.widen (k := cells + 8) (n := slots + 48) (Nat.add_le_add_left (by decide) _) (Nat.add_le_add_left (by decide) _) ?_
  refine lv_istore (pc := 2434) (lv' := [(6, .int r2431), (0, .ref b), (1, .ref (g_ad G 60)), (2, .ref (g_ad G 87)), (3, .ref (g_ad G 106)), (4, .ref (g_ad G 107)), (5, .int (nI i))]) hx hb dL_law_2434 hl (by decide) rfl (fun ls hl => ?_)
  refine lv_aload_n (pc := 2436) hx hb dL_law_2436 rfl (lv_at hl 3 rfl) ?_
  refine lv_aload_n (pc := 2437) hx hb dL_law_2437 rfl (lv_at hl 1 rfl) ?_
  refine lv_iload (pc := 2438) hx hb dL_law_2438 (lv_at hl 6 rfl) ?_
  refine lv_iconst (pc := 2440) (v := 1) hx hb dL_law_2440 (by decide) ?_
  refine lv_iadd (pc := 2441) hx hb dL_law_2441 ?_
  refine g_scr (pc := 2442) (k := i + 1) C hX hbl hbA hM (sc_in1 hi hL) (sc_ix1 hi hL) dL_law_2442 ?_
  refine lv_aload_n (pc := 2443) hx hb dL_law_2443 rfl (lv_at hl 1 rfl) ?_
  refine lv_iload (pc := 2444) hx hb dL_law_2444 (lv_at hl 6 rfl) ?_
  refine lv_iconst (pc := 2446) (v := 2) hx hb dL_law_2446 (by decide) ?_
  refine lv_iadd (pc := 2447) hx hb dL_law_2447 ?_
  refine g_scr (pc := 2448) (k := i + 2) C hX hbl hbA hM (sc_in2 hi hL) (sc_ix2 hi hL) dL_law_2448 ?_
  refine g_cVi (pc := 2449) C hM hl.1 yv_X12_witness q7_167 (by decide) ce_87 rfl (w_X12_witness l G u2431.2 (xs (i + 1)) (xs (i + 2)) u2431.1 _ h) rfl rfl ⟨⟨Nat.le_of_ble_eq_true rfl, Nat.le_of_ble_eq_true rfl⟩, hroom.1, hroom.2⟩ (Nat.le_of_ble_eq_true rfl) dL_law_2449 (fun r2449 s2449 H locs h hM => ?_)
  refine lv_istore (pc := 2452) (lv' := [(7, .int r2449), (6, .int r2431), (0, .ref b), (1, .ref (g_ad G 60)), (2, .ref (g_ad G 87)), (3, .ref (g_ad G 106)), (4, .ref (g_ad G 107)), (5, .int (nI i))]) hx hb dL_law_2452 hl (by decide) rfl (fun ls hl => ?_)
  refine lv_aload_n (pc := 2454) hx hb dL_law_2454 rfl (lv_at hl 4 rfl) ?_
  refine g_cVi (pc := 2455) C hM hl.1 yv_X12_thrown q6_81 (by decide) ce_87 rfl (w_X12_thrown l G u2431.2 s2449 _ h) rfl rfl ⟨⟨Nat.le_of_ble_eq_true rfl, Nat.le_of_ble_eq_true rfl⟩, hroom.1, hroom.2⟩ (Nat.le_of_ble_eq_true rfl) dL_law_2455 (fun r2455 s2455 H locs h hM => ?_)
  refine lv_iload (pc := 2458) hx hb dL_law_2458 (lv_at hl 1 rfl) ?_
  refine lv_icmp_eq (pc := 2460) (tgt := 2465) hx hb dL_law_2460 (by decide) (fun c2460 => ?_) (fun c2460 => ?_)
  · have h := h.1 c2460
    refine lv_iload (pc := 2465) hx hb dL_law_2465 (lv_at hl 1 rfl) ?_
    refine lv_if_ne (pc := 2467) (tgt := 2482) hx hb dL_law_2467 (by decide) (fun c2467 => ?_) (fun c2467 => ?_)
    · have h := h.2 c2467
      refine lv_goto (pc := 2482) (tgt := 3015) hx hb dL_law_2482 (by decide) ?_
      exact h _ _ _ hM (lv_sub hl [2, 3, 4, 5, 6, 7] rfl)
    · have h := h.1 c2467
      refine lv_aload_n (pc := 2470) hx hb dL_law_2470 rfl (lv_at hl 5 rfl) ?_
      refine lv_iconst (pc := 2471) (v := 0) hx hb dL_law_2471 (by decide) ?_
      refine g_lald (pc := 2472) C hM dL_law_2472 ?_
      refine lv_iload (pc := 2473) hx hb dL_law_2473 (lv_at hl 0 rfl) ?_
      refine lv_i2l (pc := 2475) (v := (r2449).toInt64) hx hb dL_law_2475 rfl ?_
      refine W.lcmp (pc := 2476) hx hb dL_law_2476 ?_
      refine lv_if_eq (pc := 2477) (tgt := 2482) hx hb dL_law_2477 (by decide) (fun c2477 => ?_) (fun c2477 => ?_)
      · have h := h.1 c2477
        refine lv_goto (pc := 2482) (tgt := 3015) hx hb dL_law_2482 (by decide) ?_
        exact h _ _ _ hM (lv_sub hl [2, 3, 4, 5, 6, 7] rfl)
      · have h := h.2 c2477
        refine lv_iconst (pc := 2480) (v := 0) hx hb dL_law_2480 (by decide) ?_
        exact h.elim
  · have h := h.2 c2460
    refine lv_iconst (pc := 2463) (v := 0) hx hb dL_law_2463 (by decide) ?_
    exact h.elim
set_option maxHeartbeats 4000000 in
set_option maxRecDepth 100000 in
theorem law_case_36 {p : Program} {l : Launch} {e : Env} {s : State} {m : MethodId} {below : List Frame} {meth : Method} {c : Code} {Q : State → Prop} (hl0 : l.stackTraces = false) {G : GP} {b L : Nat} {xs : Nat → Int32} (C : g_C p s m #[.ref b] c code 9 RL G) (hX : va_X b L xs s s.heap) (hbl : b < s.heap.size) (hbA : ¬ g_A G b) (hL : L ≤ 3072) {i : Nat} (hi : i + 6 ≤ L) {σ : Sto} {x : XP} {H : Heap} {locs : List Loc} {ls : Array Slot} {cells slots : Nat} (hM : g_M G x σ s H locs) (hl : lv_has ls 9 [(0, .ref b), (1, .ref (g_ad G 60)), (2, .ref (g_ad G 87)), (3, .ref (g_ad G 106)), (4, .ref (g_ad G 107)), (5, .int (nI i))]) (hroom : cells + 8 ≤ room_1.cells ∧ slots + 48 ≤ room_1.slots) (h : DL_36 xs i σ x (fun σ x => ∀ (H : Heap) (locs : List Loc) (ls : Array Slot), g_M G x σ s H locs → lv_has ls 9 [(0, .ref b), (1, .ref (g_ad G 60)), (2, .ref (g_ad G 87)), (3, .ref (g_ad G 106)), (4, .ref (g_ad G 107)), (5, .int (nI i))] → W p l e room_1 s m #[.ref b] below meth c H locs (cells + 8) (slots + 48) Q (F0 m 3015 ls []))) : W p l e room_1 s m #[.ref b] below meth c H locs cells slots Q (F0 m 2485 ls []) := by
  unfold DL_36 at h
  have hx := C.1
  have hb := C.2.1
  refine lv_aload_n (pc := 2485) hx hb dL_law_2485 rfl (lv_at hl 1 rfl) ?_
  refine lv_aload_n (pc := 2486) hx hb dL_law_2486 rfl (lv_at hl 0 rfl) ?_
  refine lv_iload (pc := 2487) hx hb dL_law_2487 (lv_at hl 5 rfl) ?_
  refine lv_iconst (pc := 2489) (v := 1) hx hb dL_law_2489 (by decide) ?_
  refine lv_iadd (pc := 2490) hx hb dL_law_2490 ?_
  refine g_scr (pc := 2491) (k := i + 1) C hX hbl hbA hM (sc_in1 hi hL) (sc_ix1 hi hL) dL_law_2491 ?_
  refine lv_aload_n (pc := 2492) hx hb dL_law_2492 rfl (lv_at hl 3 rfl) ?_
  refine g_cSw (pc := 2493) C hM hl.1 yw_L_blocker q5_43 (w_L_blocker l hl0 G (xs (i + 1)) σ x _ h) rfl rfl ⟨⟨Nat.le_of_ble_eq_true rfl, Nat.le_of_ble_eq_true rfl⟩, Nat.le_trans (Nat.add_le_add_left (by decide) _) hroom.1, Nat.le_trans (Nat.add_le_add_left (by decide) _) hroom.2⟩ (Nat.le_of_ble_eq_true rfl) dL_law_2493 (fun r2493 u2493 H locs h hM => ?_)
  refine W.widen (k := cells + 8) (n := slots + 48) (Nat.add_le_add_left (by decide) _) (Nat.add_le_add_left (by decide) _) ?_
  refine lv_istore (pc := 2496) (lv' := [(6, .int r2493), (0, .ref b), (1, .ref (g_ad G 60)), (2, .ref (g_ad G 87)), (3, .ref (g_ad G 106)), (4, .ref (g_ad G 107)), (5, .int (nI i))]) hx hb dL_law_2496 hl (by decide) rfl (fun ls hl => ?_)
  refine lv_aload_n (pc := 2498) hx hb dL_law_2498 rfl (lv_at hl 3 rfl) ?_
  refine lv_aload_n (pc := 2499) hx hb dL_law_2499 rfl (lv_at hl 1 rfl) ?_
  refine lv_iload (pc := 2500) hx hb dL_law_2500 (lv_at hl 6 rfl) ?_
  refine lv_iconst (pc := 2502) (v := 1) hx hb dL_law_2502 (by decide) ?_
  refine lv_iadd (pc := 2503) hx hb dL_law_2503 ?_
  refine g_scr (pc := 2504) (k := i + 1) C hX hbl hbA hM (sc_in1 hi hL) (sc_ix1 hi hL) dL_law_2504 ?_
  refine g_cVi (pc := 2505) C hM hl.1 yv_X12_blocker q7_171 (by decide) ce_87 rfl (w_X12_blocker l G u2493.2 (xs (i + 1)) u2493.1 _ h) rfl rfl ⟨⟨Nat.le_of_ble_eq_true rfl, Nat.le_of_ble_eq_true rfl⟩, hroom.1, hroom.2⟩ (Nat.le_of_ble_eq_true rfl) dL_law_2505 (fun r2505 s2505 H locs h hM => ?_)
  refine lv_istore (pc := 2508) (lv' := [(7, .int r2505), (6, .int r2493), (0, .ref b), (1, .ref (g_ad G 60)), (2, .ref (g_ad G 87)), (3, .ref (g_ad G 106)), (4, .ref (g_ad G 107)), (5, .int (nI i))]) hx hb dL_law_2508 hl (by decide) rfl (fun ls hl => ?_)
  refine lv_aload_n (pc := 2510) hx hb dL_law_2510 rfl (lv_at hl 4 rfl) ?_
  refine g_cVi (pc := 2511) C hM hl.1 yv_X12_thrown q6_81 (by decide) ce_87 rfl (w_X12_thrown l G u2493.2 s2505 _ h) rfl rfl ⟨⟨Nat.le_of_ble_eq_true rfl, Nat.le_of_ble_eq_true rfl⟩, hroom.1, hroom.2⟩ (Nat.le_of_ble_eq_true rfl) dL_law_2511 (fun r2511 s2511 H locs h hM => ?_)
  refine lv_iload (pc := 2514) hx hb dL_law_2514 (lv_at hl 1 rfl) ?_
  refine lv_icmp_eq (pc := 2516) (tgt := 2521) hx hb dL_law_2516 (by decide) (fun c2516 => ?_) (fun c2516 => ?_)
  · have h := h.1 c2516
    refine lv_iload (pc := 2521) hx hb dL_law_2521 (lv_at hl 1 rfl) ?_
    refine lv_if_ne (pc := 2523) (tgt := 2538) hx hb dL_law_2523 (by decide) (fun c2523 => ?_) (fun c2523 => ?_)
    · have h := h.2 c2523
      refine lv_goto (pc := 2538) (tgt := 3015) hx hb dL_law_2538 (by decide) ?_
      exact h _ _ _ hM (lv_sub hl [2, 3, 4, 5, 6, 7] rfl)
    · have h := h.1 c2523
      refine lv_aload_n (pc := 2526) hx hb dL_law_2526 rfl (lv_at hl 5 rfl) ?_
      refine lv_iconst (pc := 2527) (v := 0) hx hb dL_law_2527 (by decide) ?_
      refine g_lald (pc := 2528) C hM dL_law_2528 ?_
      refine lv_iload (pc := 2529) hx hb dL_law_2529 (lv_at hl 0 rfl) ?_
      refine lv_i2l (pc := 2531) (v := (r2505).toInt64) hx hb dL_law_2531 rfl ?_
      refine W.lcmp (pc := 2532) hx hb dL_law_2532 ?_
      refine lv_if_eq (pc := 2533) (tgt := 2538) hx hb dL_law_2533 (by decide) (fun c2533 => ?_) (fun c2533 => ?_)
      · have h := h.1 c2533
        refine lv_goto (pc := 2538) (tgt := 3015) hx hb dL_law_2538 (by decide) ?_
        exact h _ _ _ hM (lv_sub hl [2, 3, 4, 5, 6, 7] rfl)
      · have h := h.2 c2533
        refine lv_iconst (pc := 2536) (v := 0) hx hb dL_law_2536 (by decide) ?_
        exact h.elim
  · have h := h.2 c2516
    refine lv_iconst (pc := 2519) (v := 0) hx hb dL_law_2519 (by decide) ?_
    exact h.elim
set_option maxHeartbeats 4000000 in
set_option maxRecDepth 100000 in
theorem law_case_37 {p : Program} {l : Launch} {e : Env} {s : State} {m : MethodId} {below : List Frame} {meth : Method} {c : Code} {Q : State → Prop} (hl0 : l.stackTraces = false) {G : GP} {b L : Nat} {xs : Nat → Int32} (C : g_C p s m #[.ref b] c code 9 RL G) (hX : va_X b L xs s s.heap) (hbl : b < s.heap.size) (hbA : ¬ g_A G b) (hL : L ≤ 3072) {i : Nat} (hi : i + 6 ≤ L) {σ : Sto} {x : XP} {H : Heap} {locs : List Loc} {ls : Array Slot} {cells slots : Nat} (hM : g_M G x σ s H locs) (hl : lv_has ls 9 [(0, .ref b), (1, .ref (g_ad G 60)), (2, .ref (g_ad G 87)), (3, .ref (g_ad G 106)), (4, .ref (g_ad G 107)), (5, .int (nI i))]) (hroom : cells + 8 ≤ room_1.cells ∧ slots + 48 ≤ room_1.slots) (h : DL_37 xs i σ x (fun σ x => ∀ (H : Heap) (locs : List Loc) (ls : Array Slot), g_M G x σ s H locs → lv_has ls 9 [(0, .ref b), (1, .ref (g_ad G 60)), (2, .ref (g_ad G 87)), (3, .ref (g_ad G 106)), (4, .ref (g_ad G 107)), (5, .int (nI i))] → W p l e room_1 s m #[.ref b] below meth c H locs (cells + 8) (slots + 48) Q (F0 m 3015 ls []))) : W p l e room_1 s m #[.ref b] below meth c H locs cells slots Q (F0 m 2541 ls []) := by
  unfold DL_37 at h
  have hx := C.1
  have hb := C.2.1
  refine lv_aload_n (pc := 2541) hx hb dL_law_2541 rfl (lv_at hl 1 rfl) ?_
  refine g_cVi (pc := 2542) C hM hl.1 yv_X11_auditCount q2_74 (by decide) ce_60 rfl (w_X11_auditCount l G x σ _ h) rfl rfl ⟨⟨Nat.le_of_ble_eq_true rfl, Nat.le_of_ble_eq_true rfl⟩, Nat.le_trans (Nat.le_add_right _ _) hroom.1, Nat.le_trans (Nat.le_add_right _ _) hroom.2⟩ (Nat.le_of_ble_eq_true rfl) dL_law_2542 (fun r2542 s2542 H locs h hM => ?_)
  refine W.widen (k := cells + 8) (n := slots + 48) (Nat.add_le_add_left (by decide) _) (Nat.add_le_add_left (by decide) _) ?_
  refine lv_aload_n (pc := 2545) hx hb dL_law_2545 rfl (lv_at hl 2 rfl) ?_
  refine g_cVi (pc := 2546) C hM hl.1 yv_X12_auditCount q7_175 (by decide) ce_87 rfl (w_X12_auditCount l G x s2542 _ h) rfl rfl ⟨⟨Nat.le_of_ble_eq_true rfl, Nat.le_of_ble_eq_true rfl⟩, hroom.1, hroom.2⟩ (Nat.le_of_ble_eq_true rfl) dL_law_2546 (fun r2546 s2546 H locs h hM => ?_)
  refine lv_icmp_eq (pc := 2549) (tgt := 3015) hx hb dL_law_2549 (by decide) (fun c2549 => ?_) (fun c2549 => ?_)
  · have h := h.1 c2549
    exact h _ _ _ hM (lv_sub hl [0, 1, 2, 3, 4, 5] rfl)
  · have h := h.2 c2549
    refine lv_iconst (pc := 2552) (v := 0) hx hb dL_law_2552 (by decide) ?_
    exact h.elim
set_option maxHeartbeats 4000000 in
set_option maxRecDepth 100000 in
theorem law_case_38 {p : Program} {l : Launch} {e : Env} {s : State} {m : MethodId} {below : List Frame} {meth : Method} {c : Code} {Q : State → Prop} (hl0 : l.stackTraces = false) {G : GP} {b L : Nat} {xs : Nat → Int32} (C : g_C p s m #[.ref b] c code 9 RL G) (hX : va_X b L xs s s.heap) (hbl : b < s.heap.size) (hbA : ¬ g_A G b) (hL : L ≤ 3072) {i : Nat} (hi : i + 6 ≤ L) {σ : Sto} {x : XP} {H : Heap} {locs : List Loc} {ls : Array Slot} {cells slots : Nat} (hM : g_M G x σ s H locs) (hl : lv_has ls 9 [(0, .ref b), (1, .ref (g_ad G 60)), (2, .ref (g_ad G 87)), (3, .ref (g_ad G 106)), (4, .ref (g_ad G 107)), (5, .int (nI i))]) (hroom : cells + 8 ≤ room_1.cells ∧ slots + 48 ≤ room_1.slots) (h : DL_38 xs i σ x (fun σ x => ∀ (H : Heap) (locs : List Loc) (ls : Array Slot), g_M G x σ s H locs → lv_has ls 9 [(0, .ref b), (1, .ref (g_ad G 60)), (2, .ref (g_ad G 87)), (3, .ref (g_ad G 106)), (4, .ref (g_ad G 107)), (5, .int (nI i))] → W p l e room_1 s m #[.ref b] below meth c H locs (cells + 8) (slots + 48) Q (F0 m 3015 ls []))) : W p l e room_1 s m #[.ref b] below meth c H locs cells slots Q (F0 m 2554 ls []) := by
  unfold DL_38 at h
  have hx := C.1
  have hb := C.2.1
  refine lv_aload_n (pc := 2554) hx hb dL_law_2554 rfl (lv_at hl 1 rfl) ?_
  refine lv_aload_n (pc := 2555) hx hb dL_law_2555 rfl (lv_at hl 0 rfl) ?_
  refine lv_iload (pc := 2556) hx hb dL_law_2556 (lv_at hl 5 rfl) ?_
  refine lv_iconst (pc := 2558) (v := 1) hx hb dL_law_2558 (by decide) ?_
  refine lv_iadd (pc := 2559) hx hb dL_law_2559 ?_
  refine g_scr (pc := 2560) (k := i + 1) C hX hbl hbA hM (sc_in1 hi hL) (sc_ix1 hi hL) dL_law_2560 ?_
  refine lv_aload_n (pc := 2561) hx hb dL_law_2561 rfl (lv_at hl 0 rfl) ?_
  refine lv_iload (pc := 2562) hx hb dL_law_2562 (lv_at hl 5 rfl) ?_
  refine lv_iconst (pc := 2564) (v := 2) hx hb dL_law_2564 (by decide) ?_
  refine lv_iadd (pc := 2565) hx hb dL_law_2565 ?_
  refine g_scr (pc := 2566) (k := i + 2) C hX hbl hbA hM (sc_in2 hi hL) (sc_ix2 hi hL) dL_law_2566 ?_
  refine lv_aload_n (pc := 2567) hx hb dL_law_2567 rfl (lv_at hl 3 rfl) ?_
  refine g_cSw (pc := 2568) C hM hl.1 yw_L_audit q5_58 (w_L_audit l hl0 G (xs (i + 1)) (xs (i + 2)) σ x _ h) rfl rfl ⟨⟨Nat.le_of_ble_eq_true rfl, Nat.le_of_ble_eq_true rfl⟩, Nat.le_trans (Nat.add_le_add_left (by decide) _) hroom.1, Nat.le_trans (Nat.add_le_add_left (by decide) _) hroom.2⟩ (Nat.le_of_ble_eq_true rfl) dL_law_2568 (fun r2568 u2568 H locs h hM => ?_)
  refine W.widen (k := cells + 8) (n := slots + 48) (Nat.add_le_add_left (by decide) _) (Nat.add_le_add_left (by decide) _) ?_
  refine lv_istore (pc := 2571) (lv' := [(6, .int r2568), (0, .ref b), (1, .ref (g_ad G 60)), (2, .ref (g_ad G 87)), (3, .ref (g_ad G 106)), (4, .ref (g_ad G 107)), (5, .int (nI i))]) hx hb dL_law_2571 hl (by decide) rfl (fun ls hl => ?_)
  refine lv_aload_n (pc := 2573) hx hb dL_law_2573 rfl (lv_at hl 3 rfl) ?_
  refine lv_aload_n (pc := 2574) hx hb dL_law_2574 rfl (lv_at hl 1 rfl) ?_
  refine lv_iload (pc := 2575) hx hb dL_law_2575 (lv_at hl 6 rfl) ?_
  refine lv_iconst (pc := 2577) (v := 1) hx hb dL_law_2577 (by decide) ?_
  refine lv_iadd (pc := 2578) hx hb dL_law_2578 ?_
  refine g_scr (pc := 2579) (k := i + 1) C hX hbl hbA hM (sc_in1 hi hL) (sc_ix1 hi hL) dL_law_2579 ?_
  refine lv_aload_n (pc := 2580) hx hb dL_law_2580 rfl (lv_at hl 1 rfl) ?_
  refine lv_iload (pc := 2581) hx hb dL_law_2581 (lv_at hl 6 rfl) ?_
  refine lv_iconst (pc := 2583) (v := 2) hx hb dL_law_2583 (by decide) ?_
  refine lv_iadd (pc := 2584) hx hb dL_law_2584 ?_
  refine g_scr (pc := 2585) (k := i + 2) C hX hbl hbA hM (sc_in2 hi hL) (sc_ix2 hi hL) dL_law_2585 ?_
  refine g_cVi (pc := 2586) C hM hl.1 yv_X12_audit q7_179 (by decide) ce_87 rfl (w_X12_audit l G u2568.2 (xs (i + 1)) (xs (i + 2)) u2568.1 _ h) rfl rfl ⟨⟨Nat.le_of_ble_eq_true rfl, Nat.le_of_ble_eq_true rfl⟩, hroom.1, hroom.2⟩ (Nat.le_of_ble_eq_true rfl) dL_law_2586 (fun r2586 s2586 H locs h hM => ?_)
  refine lv_istore (pc := 2589) (lv' := [(7, .int r2586), (6, .int r2568), (0, .ref b), (1, .ref (g_ad G 60)), (2, .ref (g_ad G 87)), (3, .ref (g_ad G 106)), (4, .ref (g_ad G 107)), (5, .int (nI i))]) hx hb dL_law_2589 hl (by decide) rfl (fun ls hl => ?_)
  refine lv_aload_n (pc := 2591) hx hb dL_law_2591 rfl (lv_at hl 4 rfl) ?_
  refine g_cVi (pc := 2592) C hM hl.1 yv_X12_thrown q6_81 (by decide) ce_87 rfl (w_X12_thrown l G u2568.2 s2586 _ h) rfl rfl ⟨⟨Nat.le_of_ble_eq_true rfl, Nat.le_of_ble_eq_true rfl⟩, hroom.1, hroom.2⟩ (Nat.le_of_ble_eq_true rfl) dL_law_2592 (fun r2592 s2592 H locs h hM => ?_)
  refine lv_iload (pc := 2595) hx hb dL_law_2595 (lv_at hl 1 rfl) ?_
  refine lv_icmp_eq (pc := 2597) (tgt := 2602) hx hb dL_law_2597 (by decide) (fun c2597 => ?_) (fun c2597 => ?_)
  · have h := h.1 c2597
    refine lv_iload (pc := 2602) hx hb dL_law_2602 (lv_at hl 1 rfl) ?_
    refine lv_if_ne (pc := 2604) (tgt := 2619) hx hb dL_law_2604 (by decide) (fun c2604 => ?_) (fun c2604 => ?_)
    · have h := h.2 c2604
      refine lv_goto (pc := 2619) (tgt := 3015) hx hb dL_law_2619 (by decide) ?_
      exact h _ _ _ hM (lv_sub hl [2, 3, 4, 5, 6, 7] rfl)
    · have h := h.1 c2604
      refine lv_aload_n (pc := 2607) hx hb dL_law_2607 rfl (lv_at hl 5 rfl) ?_
      refine lv_iconst (pc := 2608) (v := 0) hx hb dL_law_2608 (by decide) ?_
      refine g_lald (pc := 2609) C hM dL_law_2609 ?_
      refine lv_iload (pc := 2610) hx hb dL_law_2610 (lv_at hl 0 rfl) ?_
      refine lv_i2l (pc := 2612) (v := (r2586).toInt64) hx hb dL_law_2612 rfl ?_
      refine W.lcmp (pc := 2613) hx hb dL_law_2613 ?_
      refine lv_if_eq (pc := 2614) (tgt := 2619) hx hb dL_law_2614 (by decide) (fun c2614 => ?_) (fun c2614 => ?_)
      · have h := h.1 c2614
        refine lv_goto (pc := 2619) (tgt := 3015) hx hb dL_law_2619 (by decide) ?_
        exact h _ _ _ hM (lv_sub hl [2, 3, 4, 5, 6, 7] rfl)
      · have h := h.2 c2614
        refine lv_iconst (pc := 2617) (v := 0) hx hb dL_law_2617 (by decide) ?_
        exact h.elim
  · have h := h.2 c2597
    refine lv_iconst (pc := 2600) (v := 0) hx hb dL_law_2600 (by decide) ?_
    exact h.elim
set_option maxHeartbeats 4000000 in
set_option maxRecDepth 100000 in
theorem law_case_39 {p : Program} {l : Launch} {e : Env} {s : State} {m : MethodId} {below : List Frame} {meth : Method} {c : Code} {Q : State → Prop} (hl0 : l.stackTraces = false) {G : GP} {b L : Nat} {xs : Nat → Int32} (C : g_C p s m #[.ref b] c code 9 RL G) (hX : va_X b L xs s s.heap) (hbl : b < s.heap.size) (hbA : ¬ g_A G b) (hL : L ≤ 3072) {i : Nat} (hi : i + 6 ≤ L) {σ : Sto} {x : XP} {H : Heap} {locs : List Loc} {ls : Array Slot} {cells slots : Nat} (hM : g_M G x σ s H locs) (hl : lv_has ls 9 [(0, .ref b), (1, .ref (g_ad G 60)), (2, .ref (g_ad G 87)), (3, .ref (g_ad G 106)), (4, .ref (g_ad G 107)), (5, .int (nI i))]) (hroom : cells + 8 ≤ room_1.cells ∧ slots + 48 ≤ room_1.slots) (h : DL_39 xs i σ x (fun σ x => ∀ (H : Heap) (locs : List Loc) (ls : Array Slot), g_M G x σ s H locs → lv_has ls 9 [(0, .ref b), (1, .ref (g_ad G 60)), (2, .ref (g_ad G 87)), (3, .ref (g_ad G 106)), (4, .ref (g_ad G 107)), (5, .int (nI i))] → W p l e room_1 s m #[.ref b] below meth c H locs (cells + 8) (slots + 48) Q (F0 m 3015 ls []))) : W p l e room_1 s m #[.ref b] below meth c H locs cells slots Q (F0 m 2622 ls []) := by
  unfold DL_39 at h
  have hx := C.1
  have hb := C.2.1
  refine lv_aload_n (pc := 2622) hx hb dL_law_2622 rfl (lv_at hl 1 rfl) ?_
  refine lv_aload (pc := 2623) hx hb dL_law_2623 (lv_at hl 4 rfl) ?_
  refine g_cSw (pc := 2625) C hM hl.1 yw_L_permitShare q5_69 (w_L_permitShare l hl0 G σ x _ h) rfl rfl ⟨⟨Nat.le_of_ble_eq_true rfl, Nat.le_of_ble_eq_true rfl⟩, Nat.le_trans (Nat.add_le_add_left (by decide) _) hroom.1, Nat.le_trans (Nat.add_le_add_left (by decide) _) hroom.2⟩ (Nat.le_of_ble_eq_true rfl) dL_law_2625 (fun r2625 u2625 H locs h hM => ?_)
  refine W.widen (k := cells + 8) (n := slots + 48) (Nat.add_le_add_left (by decide) _) (Nat.add_le_add_left (by decide) _) ?_
  refine lv_istore (pc := 2628) (lv' := [(6, .int r2625), (0, .ref b), (1, .ref (g_ad G 60)), (2, .ref (g_ad G 87)), (3, .ref (g_ad G 106)), (4, .ref (g_ad G 107)), (5, .int (nI i))]) hx hb dL_law_2628 hl (by decide) rfl (fun ls hl => ?_)
  refine lv_aload_n (pc := 2630) hx hb dL_law_2630 rfl (lv_at hl 3 rfl) ?_
  refine g_cVd (pc := 2631) C hM hl.1 yv_X12_permitShare q7_183 (by decide) ce_87 rfl (w_X12_permitShare l G u2625.2 u2625.1 _ h) rfl rfl ⟨⟨Nat.le_of_ble_eq_true rfl, Nat.le_of_ble_eq_true rfl⟩, hroom.1, hroom.2⟩ (Nat.le_of_ble_eq_true rfl) dL_law_2631 (fun r2631 s2631 H locs h hM => ?_)
  refine lv_dstore (pc := 2634) (lv' := [(7, .double r2631), (6, .int r2625), (0, .ref b), (1, .ref (g_ad G 60)), (2, .ref (g_ad G 87)), (3, .ref (g_ad G 106)), (4, .ref (g_ad G 107)), (5, .int (nI i))]) hx hb dL_law_2634 hl (by decide) rfl (fun ls hl => ?_)
  refine lv_aload_n (pc := 2636) hx hb dL_law_2636 rfl (lv_at hl 4 rfl) ?_
  refine g_cVi (pc := 2637) C hM hl.1 yv_X12_thrown q6_81 (by decide) ce_87 rfl (w_X12_thrown l G u2625.2 s2631 _ h) rfl rfl ⟨⟨Nat.le_of_ble_eq_true rfl, Nat.le_of_ble_eq_true rfl⟩, hroom.1, hroom.2⟩ (Nat.le_of_ble_eq_true rfl) dL_law_2637 (fun r2637 s2637 H locs h hM => ?_)
  refine lv_iload (pc := 2640) hx hb dL_law_2640 (lv_at hl 1 rfl) ?_
  refine lv_icmp_eq (pc := 2642) (tgt := 2647) hx hb dL_law_2642 (by decide) (fun c2642 => ?_) (fun c2642 => ?_)
  · have h := h.1 c2642
    refine lv_iload (pc := 2647) hx hb dL_law_2647 (lv_at hl 1 rfl) ?_
    refine lv_if_ne (pc := 2649) (tgt := 2684) hx hb dL_law_2649 (by decide) (fun c2649 => ?_) (fun c2649 => ?_)
    · have h := h.2 c2649
      refine lv_goto (pc := 2684) (tgt := 3015) hx hb dL_law_2684 (by decide) ?_
      exact h _ _ _ hM (lv_sub hl [2, 3, 4, 5, 6, 7] rfl)
    · have h := h.1 c2649
      refine lv_aload (pc := 2652) hx hb dL_law_2652 (lv_at hl 6 rfl) ?_
      refine lv_iconst (pc := 2654) (v := 0) hx hb dL_law_2654 (by decide) ?_
      refine g_dald (pc := 2655) C hM dL_law_2655 ?_
      refine lv_dload (pc := 2656) hx hb dL_law_2656 (lv_at hl 0 rfl) ?_
      refine lv_dcmp (pc := 2658) hx hb dL_law_2658 ?_
      refine lv_if_eq (pc := 2659) (tgt := 2684) hx hb dL_law_2659 (by decide) (fun c2659 => ?_) (fun c2659 => ?_)
      · have h := h.1 c2659
        refine lv_goto (pc := 2684) (tgt := 3015) hx hb dL_law_2684 (by decide) ?_
        exact h _ _ _ hM (lv_sub hl [2, 3, 4, 5, 6, 7] rfl)
      · have h := h.2 c2659
        refine lv_aload (pc := 2662) hx hb dL_law_2662 (lv_at hl 6 rfl) ?_
        refine lv_iconst (pc := 2664) (v := 0) hx hb dL_law_2664 (by decide) ?_
        refine g_dald (pc := 2665) C hM dL_law_2665 ?_
        refine lv_aload (pc := 2666) hx hb dL_law_2666 (lv_at hl 6 rfl) ?_
        refine lv_iconst (pc := 2668) (v := 0) hx hb dL_law_2668 (by decide) ?_
        refine g_dald (pc := 2669) C hM dL_law_2669 ?_
        refine lv_dcmp (pc := 2670) hx hb dL_law_2670 ?_
        refine lv_if_eq (pc := 2671) (tgt := 2682) hx hb dL_law_2671 (by decide) (fun c2671 => ?_) (fun c2671 => ?_)
        · have h := h.1 c2671
          refine lv_iconst (pc := 2682) (v := 0) hx hb dL_law_2682 (by decide) ?_
          exact h.elim
        · have h := h.2 c2671
          refine lv_dload (pc := 2674) hx hb dL_law_2674 (lv_at hl 0 rfl) ?_
          refine lv_dload (pc := 2676) hx hb dL_law_2676 (lv_at hl 0 rfl) ?_
          refine lv_dcmp (pc := 2678) hx hb dL_law_2678 ?_
          refine lv_if_ne (pc := 2679) (tgt := 2684) hx hb dL_law_2679 (by decide) (fun c2679 => ?_) (fun c2679 => ?_)
          · have h := h.2 c2679
            refine lv_goto (pc := 2684) (tgt := 3015) hx hb dL_law_2684 (by decide) ?_
            exact h _ _ _ hM (lv_sub hl [2, 3, 4, 5, 6, 7] rfl)
          · have h := h.1 c2679
            refine lv_iconst (pc := 2682) (v := 0) hx hb dL_law_2682 (by decide) ?_
            exact h.elim
  · have h := h.2 c2642
    refine lv_iconst (pc := 2645) (v := 0) hx hb dL_law_2645 (by decide) ?_
    exact h.elim
set_option maxHeartbeats 4000000 in
set_option maxRecDepth 100000 in
theorem law_case_40 {p : Program} {l : Launch} {e : Env} {s : State} {m : MethodId} {below : List Frame} {meth : Method} {c : Code} {Q : State → Prop} (hl0 : l.stackTraces = false) {G : GP} {b L : Nat} {xs : Nat → Int32} (C : g_C p s m #[.ref b] c code 9 RL G) (hX : va_X b L xs s s.heap) (hbl : b < s.heap.size) (hbA : ¬ g_A G b) (hL : L ≤ 3072) {i : Nat} (hi : i + 6 ≤ L) {σ : Sto} {x : XP} {H : Heap} {locs : List Loc} {ls : Array Slot} {cells slots : Nat} (hM : g_M G x σ s H locs) (hl : lv_has ls 9 [(0, .ref b), (1, .ref (g_ad G 60)), (2, .ref (g_ad G 87)), (3, .ref (g_ad G 106)), (4, .ref (g_ad G 107)), (5, .int (nI i))]) (hroom : cells + 8 ≤ room_1.cells ∧ slots + 48 ≤ room_1.slots) (h : DL_40 xs i σ x (fun σ x => ∀ (H : Heap) (locs : List Loc) (ls : Array Slot), g_M G x σ s H locs → lv_has ls 9 [(0, .ref b), (1, .ref (g_ad G 60)), (2, .ref (g_ad G 87)), (3, .ref (g_ad G 106)), (4, .ref (g_ad G 107)), (5, .int (nI i))] → W p l e room_1 s m #[.ref b] below meth c H locs (cells + 8) (slots + 48) Q (F0 m 3015 ls []))) : W p l e room_1 s m #[.ref b] below meth c H locs cells slots Q (F0 m 2687 ls []) := by
  unfold DL_40 at h
  have hx := C.1
  have hb := C.2.1
  refine lv_aload_n (pc := 2687) hx hb dL_law_2687 rfl (lv_at hl 1 rfl) ?_
  refine g_cVi (pc := 2688) C hM hl.1 yv_X11_clearAudit q2_78 (by decide) ce_60 rfl (w_X11_clearAudit l G x σ _ h) rfl rfl ⟨⟨Nat.le_of_ble_eq_true rfl, Nat.le_of_ble_eq_true rfl⟩, Nat.le_trans (Nat.le_add_right _ _) hroom.1, Nat.le_trans (Nat.le_add_right _ _) hroom.2⟩ (Nat.le_of_ble_eq_true rfl) dL_law_2688 (fun r2688 s2688 H locs h hM => ?_)
  refine W.widen (k := cells + 8) (n := slots + 48) (Nat.add_le_add_left (by decide) _) (Nat.add_le_add_left (by decide) _) ?_
  refine lv_aload_n (pc := 2691) hx hb dL_law_2691 rfl (lv_at hl 2 rfl) ?_
  refine g_cVi (pc := 2692) C hM hl.1 yv_X12_clearAudit q7_187 (by decide) ce_87 rfl (w_X12_clearAudit l G x s2688 _ h) rfl rfl ⟨⟨Nat.le_of_ble_eq_true rfl, Nat.le_of_ble_eq_true rfl⟩, hroom.1, hroom.2⟩ (Nat.le_of_ble_eq_true rfl) dL_law_2692 (fun r2692 s2692 H locs h hM => ?_)
  refine lv_icmp_eq (pc := 2695) (tgt := 3015) hx hb dL_law_2695 (by decide) (fun c2695 => ?_) (fun c2695 => ?_)
  · have h := h.1 c2695
    exact h _ _ _ hM (lv_sub hl [0, 1, 2, 3, 4, 5] rfl)
  · have h := h.2 c2695
    refine lv_iconst (pc := 2698) (v := 0) hx hb dL_law_2698 (by decide) ?_
    exact h.elim
set_option maxHeartbeats 4000000 in
set_option maxRecDepth 100000 in
theorem law_case_41 {p : Program} {l : Launch} {e : Env} {s : State} {m : MethodId} {below : List Frame} {meth : Method} {c : Code} {Q : State → Prop} (hl0 : l.stackTraces = false) {G : GP} {b L : Nat} {xs : Nat → Int32} (C : g_C p s m #[.ref b] c code 9 RL G) (hX : va_X b L xs s s.heap) (hbl : b < s.heap.size) (hbA : ¬ g_A G b) (hL : L ≤ 3072) {i : Nat} (hi : i + 6 ≤ L) {σ : Sto} {x : XP} {H : Heap} {locs : List Loc} {ls : Array Slot} {cells slots : Nat} (hM : g_M G x σ s H locs) (hl : lv_has ls 9 [(0, .ref b), (1, .ref (g_ad G 60)), (2, .ref (g_ad G 87)), (3, .ref (g_ad G 106)), (4, .ref (g_ad G 107)), (5, .int (nI i))]) (hroom : cells + 8 ≤ room_1.cells ∧ slots + 48 ≤ room_1.slots) (h : DL_41 xs i σ x (fun σ x => ∀ (H : Heap) (locs : List Loc) (ls : Array Slot), g_M G x σ s H locs → lv_has ls 9 [(0, .ref b), (1, .ref (g_ad G 60)), (2, .ref (g_ad G 87)), (3, .ref (g_ad G 106)), (4, .ref (g_ad G 107)), (5, .int (nI i))] → W p l e room_1 s m #[.ref b] below meth c H locs (cells + 8) (slots + 48) Q (F0 m 3015 ls []))) : W p l e room_1 s m #[.ref b] below meth c H locs cells slots Q (F0 m 2700 ls []) := by
  unfold DL_41 at h
  have hx := C.1
  have hb := C.2.1
  refine lv_aload_n (pc := 2700) hx hb dL_law_2700 rfl (lv_at hl 1 rfl) ?_
  refine lv_aload_n (pc := 2701) hx hb dL_law_2701 rfl (lv_at hl 0 rfl) ?_
  refine lv_iload (pc := 2702) hx hb dL_law_2702 (lv_at hl 5 rfl) ?_
  refine lv_iconst (pc := 2704) (v := 1) hx hb dL_law_2704 (by decide) ?_
  refine lv_iadd (pc := 2705) hx hb dL_law_2705 ?_
  refine g_scr (pc := 2706) (k := i + 1) C hX hbl hbA hM (sc_in1 hi hL) (sc_ix1 hi hL) dL_law_2706 ?_
  refine lv_i2c (pc := 2707) hx hb dL_law_2707 rfl ?_
  refine lv_aload_n (pc := 2708) hx hb dL_law_2708 rfl (lv_at hl 3 rfl) ?_
  refine g_cSw (pc := 2709) C hM hl.1 yw_L_append q5_100 (w_L_append l hl0 G (((xs (i + 1)).toUInt32 % 65536).toInt32) σ x _ h) rfl rfl ⟨⟨Nat.le_of_ble_eq_true rfl, Nat.le_of_ble_eq_true rfl⟩, Nat.le_trans (Nat.add_le_add_left (by decide) _) hroom.1, Nat.le_trans (Nat.add_le_add_left (by decide) _) hroom.2⟩ (Nat.le_of_ble_eq_true rfl) dL_law_2709 (fun r2709 u2709 H locs h hM => ?_)
  refine W.widen (k := cells + 8) (n := slots + 48) (Nat.add_le_add_left (by decide) _) (Nat.add_le_add_left (by decide) _) ?_
  refine lv_istore (pc := 2712) (lv' := [(6, .int r2709), (0, .ref b), (1, .ref (g_ad G 60)), (2, .ref (g_ad G 87)), (3, .ref (g_ad G 106)), (4, .ref (g_ad G 107)), (5, .int (nI i))]) hx hb dL_law_2712 hl (by decide) rfl (fun ls hl => ?_)
  refine lv_aload_n (pc := 2714) hx hb dL_law_2714 rfl (lv_at hl 3 rfl) ?_
  refine lv_aload_n (pc := 2715) hx hb dL_law_2715 rfl (lv_at hl 1 rfl) ?_
  refine lv_iload (pc := 2716) hx hb dL_law_2716 (lv_at hl 6 rfl) ?_
  refine lv_iconst (pc := 2718) (v := 1) hx hb dL_law_2718 (by decide) ?_
  refine lv_iadd (pc := 2719) hx hb dL_law_2719 ?_
  refine g_scr (pc := 2720) (k := i + 1) C hX hbl hbA hM (sc_in1 hi hL) (sc_ix1 hi hL) dL_law_2720 ?_
  refine lv_i2c (pc := 2721) hx hb dL_law_2721 rfl ?_
  refine g_cVi (pc := 2722) C hM hl.1 yv_X12_append q7_191 (by decide) ce_87 rfl (w_X12_append l G u2709.2 (((xs (i + 1)).toUInt32 % 65536).toInt32) u2709.1 _ h) rfl rfl ⟨⟨Nat.le_of_ble_eq_true rfl, Nat.le_of_ble_eq_true rfl⟩, hroom.1, hroom.2⟩ (Nat.le_of_ble_eq_true rfl) dL_law_2722 (fun r2722 s2722 H locs h hM => ?_)
  refine lv_istore (pc := 2725) (lv' := [(7, .int r2722), (6, .int r2709), (0, .ref b), (1, .ref (g_ad G 60)), (2, .ref (g_ad G 87)), (3, .ref (g_ad G 106)), (4, .ref (g_ad G 107)), (5, .int (nI i))]) hx hb dL_law_2725 hl (by decide) rfl (fun ls hl => ?_)
  refine lv_aload_n (pc := 2727) hx hb dL_law_2727 rfl (lv_at hl 4 rfl) ?_
  refine g_cVi (pc := 2728) C hM hl.1 yv_X12_thrown q6_81 (by decide) ce_87 rfl (w_X12_thrown l G u2709.2 s2722 _ h) rfl rfl ⟨⟨Nat.le_of_ble_eq_true rfl, Nat.le_of_ble_eq_true rfl⟩, hroom.1, hroom.2⟩ (Nat.le_of_ble_eq_true rfl) dL_law_2728 (fun r2728 s2728 H locs h hM => ?_)
  refine lv_iload (pc := 2731) hx hb dL_law_2731 (lv_at hl 1 rfl) ?_
  refine lv_icmp_eq (pc := 2733) (tgt := 2738) hx hb dL_law_2733 (by decide) (fun c2733 => ?_) (fun c2733 => ?_)
  · have h := h.1 c2733
    refine lv_iload (pc := 2738) hx hb dL_law_2738 (lv_at hl 1 rfl) ?_
    refine lv_if_ne (pc := 2740) (tgt := 2755) hx hb dL_law_2740 (by decide) (fun c2740 => ?_) (fun c2740 => ?_)
    · have h := h.2 c2740
      refine lv_goto (pc := 2755) (tgt := 3015) hx hb dL_law_2755 (by decide) ?_
      exact h _ _ _ hM (lv_sub hl [2, 3, 4, 5, 6, 7] rfl)
    · have h := h.1 c2740
      refine lv_aload_n (pc := 2743) hx hb dL_law_2743 rfl (lv_at hl 5 rfl) ?_
      refine lv_iconst (pc := 2744) (v := 0) hx hb dL_law_2744 (by decide) ?_
      refine g_lald (pc := 2745) C hM dL_law_2745 ?_
      refine lv_iload (pc := 2746) hx hb dL_law_2746 (lv_at hl 0 rfl) ?_
      refine lv_i2l (pc := 2748) (v := (r2722).toInt64) hx hb dL_law_2748 rfl ?_
      refine W.lcmp (pc := 2749) hx hb dL_law_2749 ?_
      refine lv_if_eq (pc := 2750) (tgt := 2755) hx hb dL_law_2750 (by decide) (fun c2750 => ?_) (fun c2750 => ?_)
      · have h := h.1 c2750
        refine lv_goto (pc := 2755) (tgt := 3015) hx hb dL_law_2755 (by decide) ?_
        exact h _ _ _ hM (lv_sub hl [2, 3, 4, 5, 6, 7] rfl)
      · have h := h.2 c2750
        refine lv_iconst (pc := 2753) (v := 0) hx hb dL_law_2753 (by decide) ?_
        exact h.elim
  · have h := h.2 c2733
    refine lv_iconst (pc := 2736) (v := 0) hx hb dL_law_2736 (by decide) ?_
    exact h.elim
set_option maxHeartbeats 4000000 in
set_option maxRecDepth 100000 in
theorem law_case_42 {p : Program} {l : Launch} {e : Env} {s : State} {m : MethodId} {below : List Frame} {meth : Method} {c : Code} {Q : State → Prop} (hl0 : l.stackTraces = false) {G : GP} {b L : Nat} {xs : Nat → Int32} (C : g_C p s m #[.ref b] c code 9 RL G) (hX : va_X b L xs s s.heap) (hbl : b < s.heap.size) (hbA : ¬ g_A G b) (hL : L ≤ 3072) {i : Nat} (hi : i + 6 ≤ L) {σ : Sto} {x : XP} {H : Heap} {locs : List Loc} {ls : Array Slot} {cells slots : Nat} (hM : g_M G x σ s H locs) (hl : lv_has ls 9 [(0, .ref b), (1, .ref (g_ad G 60)), (2, .ref (g_ad G 87)), (3, .ref (g_ad G 106)), (4, .ref (g_ad G 107)), (5, .int (nI i))]) (hroom : cells + 8 ≤ room_1.cells ∧ slots + 48 ≤ room_1.slots) (h : DL_42 xs i σ x (fun σ x => ∀ (H : Heap) (locs : List Loc) (ls : Array Slot), g_M G x σ s H locs → lv_has ls 9 [(0, .ref b), (1, .ref (g_ad G 60)), (2, .ref (g_ad G 87)), (3, .ref (g_ad G 106)), (4, .ref (g_ad G 107)), (5, .int (nI i))] → W p l e room_1 s m #[.ref b] below meth c H locs (cells + 8) (slots + 48) Q (F0 m 3015 ls []))) : W p l e room_1 s m #[.ref b] below meth c H locs cells slots Q (F0 m 2758 ls []) := by
  unfold DL_42 at h
  have hx := C.1
  have hb := C.2.1
  refine lv_aload_n (pc := 2758) hx hb dL_law_2758 rfl (lv_at hl 1 rfl) ?_
  refine lv_aload_n (pc := 2759) hx hb dL_law_2759 rfl (lv_at hl 3 rfl) ?_
  refine g_cSw (pc := 2760) C hM hl.1 yw_L_read q5_111 (w_L_read l hl0 G σ x _ h) rfl rfl ⟨⟨Nat.le_of_ble_eq_true rfl, Nat.le_of_ble_eq_true rfl⟩, Nat.le_trans (Nat.add_le_add_left (by decide) _) hroom.1, Nat.le_trans (Nat.add_le_add_left (by decide) _) hroom.2⟩ (Nat.le_of_ble_eq_true rfl) dL_law_2760 (fun r2760 u2760 H locs h hM => ?_)
  refine W.widen (k := cells + 8) (n := slots + 48) (Nat.add_le_add_left (by decide) _) (Nat.add_le_add_left (by decide) _) ?_
  refine lv_istore (pc := 2763) (lv' := [(6, .int r2760), (0, .ref b), (1, .ref (g_ad G 60)), (2, .ref (g_ad G 87)), (3, .ref (g_ad G 106)), (4, .ref (g_ad G 107)), (5, .int (nI i))]) hx hb dL_law_2763 hl (by decide) rfl (fun ls hl => ?_)
  refine lv_aload_n (pc := 2765) hx hb dL_law_2765 rfl (lv_at hl 3 rfl) ?_
  refine g_cVi (pc := 2766) C hM hl.1 yv_X12_read q7_195 (by decide) ce_87 rfl (w_X12_read l G u2760.2 u2760.1 _ h) rfl rfl ⟨⟨Nat.le_of_ble_eq_true rfl, Nat.le_of_ble_eq_true rfl⟩, hroom.1, hroom.2⟩ (Nat.le_of_ble_eq_true rfl) dL_law_2766 (fun r2766 s2766 H locs h hM => ?_)
  refine lv_istore (pc := 2769) (lv' := [(7, .int r2766), (6, .int r2760), (0, .ref b), (1, .ref (g_ad G 60)), (2, .ref (g_ad G 87)), (3, .ref (g_ad G 106)), (4, .ref (g_ad G 107)), (5, .int (nI i))]) hx hb dL_law_2769 hl (by decide) rfl (fun ls hl => ?_)
  refine lv_aload_n (pc := 2771) hx hb dL_law_2771 rfl (lv_at hl 4 rfl) ?_
  refine g_cVi (pc := 2772) C hM hl.1 yv_X12_thrown q6_81 (by decide) ce_87 rfl (w_X12_thrown l G u2760.2 s2766 _ h) rfl rfl ⟨⟨Nat.le_of_ble_eq_true rfl, Nat.le_of_ble_eq_true rfl⟩, hroom.1, hroom.2⟩ (Nat.le_of_ble_eq_true rfl) dL_law_2772 (fun r2772 s2772 H locs h hM => ?_)
  refine lv_iload (pc := 2775) hx hb dL_law_2775 (lv_at hl 1 rfl) ?_
  refine lv_icmp_eq (pc := 2777) (tgt := 2782) hx hb dL_law_2777 (by decide) (fun c2777 => ?_) (fun c2777 => ?_)
  · have h := h.1 c2777
    refine lv_iload (pc := 2782) hx hb dL_law_2782 (lv_at hl 1 rfl) ?_
    refine lv_if_ne (pc := 2784) (tgt := 2799) hx hb dL_law_2784 (by decide) (fun c2784 => ?_) (fun c2784 => ?_)
    · have h := h.2 c2784
      refine lv_goto (pc := 2799) (tgt := 3015) hx hb dL_law_2799 (by decide) ?_
      exact h _ _ _ hM (lv_sub hl [2, 3, 4, 5, 6, 7] rfl)
    · have h := h.1 c2784
      refine lv_aload_n (pc := 2787) hx hb dL_law_2787 rfl (lv_at hl 5 rfl) ?_
      refine lv_iconst (pc := 2788) (v := 0) hx hb dL_law_2788 (by decide) ?_
      refine g_lald (pc := 2789) C hM dL_law_2789 ?_
      refine lv_iload (pc := 2790) hx hb dL_law_2790 (lv_at hl 0 rfl) ?_
      refine lv_i2l (pc := 2792) (v := (r2766).toInt64) hx hb dL_law_2792 rfl ?_
      refine W.lcmp (pc := 2793) hx hb dL_law_2793 ?_
      refine lv_if_eq (pc := 2794) (tgt := 2799) hx hb dL_law_2794 (by decide) (fun c2794 => ?_) (fun c2794 => ?_)
      · have h := h.1 c2794
        refine lv_goto (pc := 2799) (tgt := 3015) hx hb dL_law_2799 (by decide) ?_
        exact h _ _ _ hM (lv_sub hl [2, 3, 4, 5, 6, 7] rfl)
      · have h := h.2 c2794
        refine lv_iconst (pc := 2797) (v := 0) hx hb dL_law_2797 (by decide) ?_
        exact h.elim
  · have h := h.2 c2777
    refine lv_iconst (pc := 2780) (v := 0) hx hb dL_law_2780 (by decide) ?_
    exact h.elim
set_option maxHeartbeats 4000000 in
set_option maxRecDepth 100000 in
theorem law_case_43 {p : Program} {l : Launch} {e : Env} {s : State} {m : MethodId} {below : List Frame} {meth : Method} {c : Code} {Q : State → Prop} (hl0 : l.stackTraces = false) {G : GP} {b L : Nat} {xs : Nat → Int32} (C : g_C p s m #[.ref b] c code 9 RL G) (hX : va_X b L xs s s.heap) (hbl : b < s.heap.size) (hbA : ¬ g_A G b) (hL : L ≤ 3072) {i : Nat} (hi : i + 6 ≤ L) {σ : Sto} {x : XP} {H : Heap} {locs : List Loc} {ls : Array Slot} {cells slots : Nat} (hM : g_M G x σ s H locs) (hl : lv_has ls 9 [(0, .ref b), (1, .ref (g_ad G 60)), (2, .ref (g_ad G 87)), (3, .ref (g_ad G 106)), (4, .ref (g_ad G 107)), (5, .int (nI i))]) (hroom : cells + 8 ≤ room_1.cells ∧ slots + 48 ≤ room_1.slots) (h : DL_43 xs i σ x (fun σ x => ∀ (H : Heap) (locs : List Loc) (ls : Array Slot), g_M G x σ s H locs → lv_has ls 9 [(0, .ref b), (1, .ref (g_ad G 60)), (2, .ref (g_ad G 87)), (3, .ref (g_ad G 106)), (4, .ref (g_ad G 107)), (5, .int (nI i))] → W p l e room_1 s m #[.ref b] below meth c H locs (cells + 8) (slots + 48) Q (F0 m 3015 ls []))) : W p l e room_1 s m #[.ref b] below meth c H locs cells slots Q (F0 m 2802 ls []) := by
  unfold DL_43 at h
  have hx := C.1
  have hb := C.2.1
  refine lv_aload_n (pc := 2802) hx hb dL_law_2802 rfl (lv_at hl 1 rfl) ?_
  refine lv_aload_n (pc := 2803) hx hb dL_law_2803 rfl (lv_at hl 3 rfl) ?_
  refine g_cSw (pc := 2804) C hM hl.1 yw_L_errorPosition q5_161 (w_L_errorPosition l hl0 G σ x _ h) rfl rfl ⟨⟨Nat.le_of_ble_eq_true rfl, Nat.le_of_ble_eq_true rfl⟩, Nat.le_trans (Nat.add_le_add_left (by decide) _) hroom.1, Nat.le_trans (Nat.add_le_add_left (by decide) _) hroom.2⟩ (Nat.le_of_ble_eq_true rfl) dL_law_2804 (fun r2804 u2804 H locs h hM => ?_)
  refine W.widen (k := cells + 8) (n := slots + 48) (Nat.add_le_add_left (by decide) _) (Nat.add_le_add_left (by decide) _) ?_
  refine lv_istore (pc := 2807) (lv' := [(6, .int r2804), (0, .ref b), (1, .ref (g_ad G 60)), (2, .ref (g_ad G 87)), (3, .ref (g_ad G 106)), (4, .ref (g_ad G 107)), (5, .int (nI i))]) hx hb dL_law_2807 hl (by decide) rfl (fun ls hl => ?_)
  refine lv_aload_n (pc := 2809) hx hb dL_law_2809 rfl (lv_at hl 3 rfl) ?_
  refine g_cVi (pc := 2810) C hM hl.1 yv_X12_errorPosition q7_231 (by decide) ce_87 rfl (w_X12_errorPosition l G u2804.2 u2804.1 _ h) rfl rfl ⟨⟨Nat.le_of_ble_eq_true rfl, Nat.le_of_ble_eq_true rfl⟩, hroom.1, hroom.2⟩ (Nat.le_of_ble_eq_true rfl) dL_law_2810 (fun r2810 s2810 H locs h hM => ?_)
  refine lv_istore (pc := 2813) (lv' := [(7, .int r2810), (6, .int r2804), (0, .ref b), (1, .ref (g_ad G 60)), (2, .ref (g_ad G 87)), (3, .ref (g_ad G 106)), (4, .ref (g_ad G 107)), (5, .int (nI i))]) hx hb dL_law_2813 hl (by decide) rfl (fun ls hl => ?_)
  refine lv_aload_n (pc := 2815) hx hb dL_law_2815 rfl (lv_at hl 4 rfl) ?_
  refine g_cVi (pc := 2816) C hM hl.1 yv_X12_thrown q6_81 (by decide) ce_87 rfl (w_X12_thrown l G u2804.2 s2810 _ h) rfl rfl ⟨⟨Nat.le_of_ble_eq_true rfl, Nat.le_of_ble_eq_true rfl⟩, hroom.1, hroom.2⟩ (Nat.le_of_ble_eq_true rfl) dL_law_2816 (fun r2816 s2816 H locs h hM => ?_)
  refine lv_iload (pc := 2819) hx hb dL_law_2819 (lv_at hl 1 rfl) ?_
  refine lv_icmp_eq (pc := 2821) (tgt := 2826) hx hb dL_law_2821 (by decide) (fun c2821 => ?_) (fun c2821 => ?_)
  · have h := h.1 c2821
    refine lv_iload (pc := 2826) hx hb dL_law_2826 (lv_at hl 1 rfl) ?_
    refine lv_if_ne (pc := 2828) (tgt := 2843) hx hb dL_law_2828 (by decide) (fun c2828 => ?_) (fun c2828 => ?_)
    · have h := h.2 c2828
      refine lv_goto (pc := 2843) (tgt := 3015) hx hb dL_law_2843 (by decide) ?_
      exact h _ _ _ hM (lv_sub hl [2, 3, 4, 5, 6, 7] rfl)
    · have h := h.1 c2828
      refine lv_aload_n (pc := 2831) hx hb dL_law_2831 rfl (lv_at hl 5 rfl) ?_
      refine lv_iconst (pc := 2832) (v := 0) hx hb dL_law_2832 (by decide) ?_
      refine g_lald (pc := 2833) C hM dL_law_2833 ?_
      refine lv_iload (pc := 2834) hx hb dL_law_2834 (lv_at hl 0 rfl) ?_
      refine lv_i2l (pc := 2836) (v := (r2810).toInt64) hx hb dL_law_2836 rfl ?_
      refine W.lcmp (pc := 2837) hx hb dL_law_2837 ?_
      refine lv_if_eq (pc := 2838) (tgt := 2843) hx hb dL_law_2838 (by decide) (fun c2838 => ?_) (fun c2838 => ?_)
      · have h := h.1 c2838
        refine lv_goto (pc := 2843) (tgt := 3015) hx hb dL_law_2843 (by decide) ?_
        exact h _ _ _ hM (lv_sub hl [2, 3, 4, 5, 6, 7] rfl)
      · have h := h.2 c2838
        refine lv_iconst (pc := 2841) (v := 0) hx hb dL_law_2841 (by decide) ?_
        exact h.elim
  · have h := h.2 c2821
    refine lv_iconst (pc := 2824) (v := 0) hx hb dL_law_2824 (by decide) ?_
    exact h.elim
set_option maxHeartbeats 4000000 in
set_option maxRecDepth 100000 in
theorem law_case_44 {p : Program} {l : Launch} {e : Env} {s : State} {m : MethodId} {below : List Frame} {meth : Method} {c : Code} {Q : State → Prop} (hl0 : l.stackTraces = false) {G : GP} {b L : Nat} {xs : Nat → Int32} (C : g_C p s m #[.ref b] c code 9 RL G) (hX : va_X b L xs s s.heap) (hbl : b < s.heap.size) (hbA : ¬ g_A G b) (hL : L ≤ 3072) {i : Nat} (hi : i + 6 ≤ L) {σ : Sto} {x : XP} {H : Heap} {locs : List Loc} {ls : Array Slot} {cells slots : Nat} (hM : g_M G x σ s H locs) (hl : lv_has ls 9 [(0, .ref b), (1, .ref (g_ad G 60)), (2, .ref (g_ad G 87)), (3, .ref (g_ad G 106)), (4, .ref (g_ad G 107)), (5, .int (nI i))]) (hroom : cells + 8 ≤ room_1.cells ∧ slots + 48 ≤ room_1.slots) (h : DL_44 xs i σ x (fun σ x => ∀ (H : Heap) (locs : List Loc) (ls : Array Slot), g_M G x σ s H locs → lv_has ls 9 [(0, .ref b), (1, .ref (g_ad G 60)), (2, .ref (g_ad G 87)), (3, .ref (g_ad G 106)), (4, .ref (g_ad G 107)), (5, .int (nI i))] → W p l e room_1 s m #[.ref b] below meth c H locs (cells + 8) (slots + 48) Q (F0 m 3015 ls []))) : W p l e room_1 s m #[.ref b] below meth c H locs cells slots Q (F0 m 2846 ls []) := by
  unfold DL_44 at h
  have hx := C.1
  have hb := C.2.1
  refine lv_aload_n (pc := 2846) hx hb dL_law_2846 rfl (lv_at hl 1 rfl) ?_
  refine lv_aload_n (pc := 2847) hx hb dL_law_2847 rfl (lv_at hl 0 rfl) ?_
  refine lv_iload (pc := 2848) hx hb dL_law_2848 (lv_at hl 5 rfl) ?_
  refine lv_iconst (pc := 2850) (v := 1) hx hb dL_law_2850 (by decide) ?_
  refine lv_iadd (pc := 2851) hx hb dL_law_2851 ?_
  refine g_scr (pc := 2852) (k := i + 1) C hX hbl hbA hM (sc_in1 hi hL) (sc_ix1 hi hL) dL_law_2852 ?_
  refine lv_aload_n (pc := 2853) hx hb dL_law_2853 rfl (lv_at hl 0 rfl) ?_
  refine lv_iload (pc := 2854) hx hb dL_law_2854 (lv_at hl 5 rfl) ?_
  refine lv_iconst (pc := 2856) (v := 2) hx hb dL_law_2856 (by decide) ?_
  refine lv_iadd (pc := 2857) hx hb dL_law_2857 ?_
  refine g_scr (pc := 2858) (k := i + 2) C hX hbl hbA hM (sc_in2 hi hL) (sc_ix2 hi hL) dL_law_2858 ?_
  refine lv_aload_n (pc := 2859) hx hb dL_law_2859 rfl (lv_at hl 3 rfl) ?_
  refine g_cSw (pc := 2860) C hM hl.1 yw_L_describe q5_168 (w_L_describe l hl0 G (xs (i + 1)) (xs (i + 2)) σ x _ h) rfl rfl ⟨⟨Nat.le_of_ble_eq_true rfl, Nat.le_of_ble_eq_true rfl⟩, Nat.le_trans (Nat.add_le_add_left (by decide) _) hroom.1, Nat.le_trans (Nat.add_le_add_left (by decide) _) hroom.2⟩ (Nat.le_of_ble_eq_true rfl) dL_law_2860 (fun r2860 u2860 H locs h hM => ?_)
  refine W.widen (k := cells + 8) (n := slots + 48) (Nat.add_le_add_left (by decide) _) (Nat.add_le_add_left (by decide) _) ?_
  refine lv_istore (pc := 2863) (lv' := [(6, .int r2860), (0, .ref b), (1, .ref (g_ad G 60)), (2, .ref (g_ad G 87)), (3, .ref (g_ad G 106)), (4, .ref (g_ad G 107)), (5, .int (nI i))]) hx hb dL_law_2863 hl (by decide) rfl (fun ls hl => ?_)
  refine lv_aload_n (pc := 2865) hx hb dL_law_2865 rfl (lv_at hl 3 rfl) ?_
  refine lv_aload_n (pc := 2866) hx hb dL_law_2866 rfl (lv_at hl 1 rfl) ?_
  refine lv_iload (pc := 2867) hx hb dL_law_2867 (lv_at hl 6 rfl) ?_
  refine lv_iconst (pc := 2869) (v := 1) hx hb dL_law_2869 (by decide) ?_
  refine lv_iadd (pc := 2870) hx hb dL_law_2870 ?_
  refine g_scr (pc := 2871) (k := i + 1) C hX hbl hbA hM (sc_in1 hi hL) (sc_ix1 hi hL) dL_law_2871 ?_
  refine lv_aload_n (pc := 2872) hx hb dL_law_2872 rfl (lv_at hl 1 rfl) ?_
  refine lv_iload (pc := 2873) hx hb dL_law_2873 (lv_at hl 6 rfl) ?_
  refine lv_iconst (pc := 2875) (v := 2) hx hb dL_law_2875 (by decide) ?_
  refine lv_iadd (pc := 2876) hx hb dL_law_2876 ?_
  refine g_scr (pc := 2877) (k := i + 2) C hX hbl hbA hM (sc_in2 hi hL) (sc_ix2 hi hL) dL_law_2877 ?_
  refine g_cVi (pc := 2878) C hM hl.1 yv_X12_describe q7_235 (by decide) ce_87 rfl (w_X12_describe l G u2860.2 (xs (i + 1)) (xs (i + 2)) u2860.1 _ h) rfl rfl ⟨⟨Nat.le_of_ble_eq_true rfl, Nat.le_of_ble_eq_true rfl⟩, hroom.1, hroom.2⟩ (Nat.le_of_ble_eq_true rfl) dL_law_2878 (fun r2878 s2878 H locs h hM => ?_)
  refine lv_istore (pc := 2881) (lv' := [(7, .int r2878), (6, .int r2860), (0, .ref b), (1, .ref (g_ad G 60)), (2, .ref (g_ad G 87)), (3, .ref (g_ad G 106)), (4, .ref (g_ad G 107)), (5, .int (nI i))]) hx hb dL_law_2881 hl (by decide) rfl (fun ls hl => ?_)
  refine lv_aload_n (pc := 2883) hx hb dL_law_2883 rfl (lv_at hl 4 rfl) ?_
  refine g_cVi (pc := 2884) C hM hl.1 yv_X12_thrown q6_81 (by decide) ce_87 rfl (w_X12_thrown l G u2860.2 s2878 _ h) rfl rfl ⟨⟨Nat.le_of_ble_eq_true rfl, Nat.le_of_ble_eq_true rfl⟩, hroom.1, hroom.2⟩ (Nat.le_of_ble_eq_true rfl) dL_law_2884 (fun r2884 s2884 H locs h hM => ?_)
  refine lv_iload (pc := 2887) hx hb dL_law_2887 (lv_at hl 1 rfl) ?_
  refine lv_icmp_eq (pc := 2889) (tgt := 2894) hx hb dL_law_2889 (by decide) (fun c2889 => ?_) (fun c2889 => ?_)
  · have h := h.1 c2889
    refine lv_iload (pc := 2894) hx hb dL_law_2894 (lv_at hl 1 rfl) ?_
    refine lv_if_ne (pc := 2896) (tgt := 2911) hx hb dL_law_2896 (by decide) (fun c2896 => ?_) (fun c2896 => ?_)
    · have h := h.2 c2896
      refine lv_goto (pc := 2911) (tgt := 3015) hx hb dL_law_2911 (by decide) ?_
      exact h _ _ _ hM (lv_sub hl [2, 3, 4, 5, 6, 7] rfl)
    · have h := h.1 c2896
      refine lv_aload_n (pc := 2899) hx hb dL_law_2899 rfl (lv_at hl 5 rfl) ?_
      refine lv_iconst (pc := 2900) (v := 0) hx hb dL_law_2900 (by decide) ?_
      refine g_lald (pc := 2901) C hM dL_law_2901 ?_
      refine lv_iload (pc := 2902) hx hb dL_law_2902 (lv_at hl 0 rfl) ?_
      refine lv_i2l (pc := 2904) (v := (r2878).toInt64) hx hb dL_law_2904 rfl ?_
      refine W.lcmp (pc := 2905) hx hb dL_law_2905 ?_
      refine lv_if_eq (pc := 2906) (tgt := 2911) hx hb dL_law_2906 (by decide) (fun c2906 => ?_) (fun c2906 => ?_)
      · have h := h.1 c2906
        refine lv_goto (pc := 2911) (tgt := 3015) hx hb dL_law_2911 (by decide) ?_
        exact h _ _ _ hM (lv_sub hl [2, 3, 4, 5, 6, 7] rfl)
      · have h := h.2 c2906
        refine lv_iconst (pc := 2909) (v := 0) hx hb dL_law_2909 (by decide) ?_
        exact h.elim
  · have h := h.2 c2889
    refine lv_iconst (pc := 2892) (v := 0) hx hb dL_law_2892 (by decide) ?_
    exact h.elim
set_option maxHeartbeats 4000000 in
set_option maxRecDepth 100000 in
theorem law_case_45 {p : Program} {l : Launch} {e : Env} {s : State} {m : MethodId} {below : List Frame} {meth : Method} {c : Code} {Q : State → Prop} (hl0 : l.stackTraces = false) {G : GP} {b L : Nat} {xs : Nat → Int32} (C : g_C p s m #[.ref b] c code 9 RL G) (hX : va_X b L xs s s.heap) (hbl : b < s.heap.size) (hbA : ¬ g_A G b) (hL : L ≤ 3072) {i : Nat} (hi : i + 6 ≤ L) {σ : Sto} {x : XP} {H : Heap} {locs : List Loc} {ls : Array Slot} {cells slots : Nat} (hM : g_M G x σ s H locs) (hl : lv_has ls 9 [(0, .ref b), (1, .ref (g_ad G 60)), (2, .ref (g_ad G 87)), (3, .ref (g_ad G 106)), (4, .ref (g_ad G 107)), (5, .int (nI i))]) (hroom : cells + 8 ≤ room_1.cells ∧ slots + 48 ≤ room_1.slots) (h : DL_45 xs i σ x (fun σ x => ∀ (H : Heap) (locs : List Loc) (ls : Array Slot), g_M G x σ s H locs → lv_has ls 9 [(0, .ref b), (1, .ref (g_ad G 60)), (2, .ref (g_ad G 87)), (3, .ref (g_ad G 106)), (4, .ref (g_ad G 107)), (5, .int (nI i))] → W p l e room_1 s m #[.ref b] below meth c H locs (cells + 8) (slots + 48) Q (F0 m 3015 ls []))) : W p l e room_1 s m #[.ref b] below meth c H locs cells slots Q (F0 m 2914 ls []) := by
  unfold DL_45 at h
  have hx := C.1
  have hb := C.2.1
  refine lv_aload_n (pc := 2914) hx hb dL_law_2914 rfl (lv_at hl 1 rfl) ?_
  refine lv_aload_n (pc := 2915) hx hb dL_law_2915 rfl (lv_at hl 3 rfl) ?_
  refine g_cSw (pc := 2916) C hM hl.1 yw_L_undo q5_200 (w_L_undo l hl0 G σ x _ h) rfl rfl ⟨⟨Nat.le_of_ble_eq_true rfl, Nat.le_of_ble_eq_true rfl⟩, Nat.le_trans (Nat.add_le_add_left (by decide) _) hroom.1, Nat.le_trans (Nat.add_le_add_left (by decide) _) hroom.2⟩ (Nat.le_of_ble_eq_true rfl) dL_law_2916 (fun r2916 u2916 H locs h hM => ?_)
  refine W.widen (k := cells + 8) (n := slots + 48) (Nat.add_le_add_left (by decide) _) (Nat.add_le_add_left (by decide) _) ?_
  refine lv_istore (pc := 2919) (lv' := [(6, .int r2916), (0, .ref b), (1, .ref (g_ad G 60)), (2, .ref (g_ad G 87)), (3, .ref (g_ad G 106)), (4, .ref (g_ad G 107)), (5, .int (nI i))]) hx hb dL_law_2919 hl (by decide) rfl (fun ls hl => ?_)
  refine lv_aload_n (pc := 2921) hx hb dL_law_2921 rfl (lv_at hl 3 rfl) ?_
  refine g_cVi (pc := 2922) C hM hl.1 yv_X12_undo q6_85 (by decide) ce_87 rfl (w_X12_undo l G u2916.2 u2916.1 _ h) rfl rfl ⟨⟨Nat.le_of_ble_eq_true rfl, Nat.le_of_ble_eq_true rfl⟩, hroom.1, hroom.2⟩ (Nat.le_of_ble_eq_true rfl) dL_law_2922 (fun r2922 s2922 H locs h hM => ?_)
  refine lv_istore (pc := 2925) (lv' := [(7, .int r2922), (6, .int r2916), (0, .ref b), (1, .ref (g_ad G 60)), (2, .ref (g_ad G 87)), (3, .ref (g_ad G 106)), (4, .ref (g_ad G 107)), (5, .int (nI i))]) hx hb dL_law_2925 hl (by decide) rfl (fun ls hl => ?_)
  refine lv_aload_n (pc := 2927) hx hb dL_law_2927 rfl (lv_at hl 4 rfl) ?_
  refine g_cVi (pc := 2928) C hM hl.1 yv_X12_thrown q6_81 (by decide) ce_87 rfl (w_X12_thrown l G u2916.2 s2922 _ h) rfl rfl ⟨⟨Nat.le_of_ble_eq_true rfl, Nat.le_of_ble_eq_true rfl⟩, hroom.1, hroom.2⟩ (Nat.le_of_ble_eq_true rfl) dL_law_2928 (fun r2928 s2928 H locs h hM => ?_)
  refine lv_iload (pc := 2931) hx hb dL_law_2931 (lv_at hl 1 rfl) ?_
  refine lv_icmp_eq (pc := 2933) (tgt := 2938) hx hb dL_law_2933 (by decide) (fun c2933 => ?_) (fun c2933 => ?_)
  · have h := h.1 c2933
    refine lv_iload (pc := 2938) hx hb dL_law_2938 (lv_at hl 1 rfl) ?_
    refine lv_if_ne (pc := 2940) (tgt := 2955) hx hb dL_law_2940 (by decide) (fun c2940 => ?_) (fun c2940 => ?_)
    · have h := h.2 c2940
      refine lv_goto (pc := 2955) (tgt := 3015) hx hb dL_law_2955 (by decide) ?_
      exact h _ _ _ hM (lv_sub hl [2, 3, 4, 5, 6, 7] rfl)
    · have h := h.1 c2940
      refine lv_aload_n (pc := 2943) hx hb dL_law_2943 rfl (lv_at hl 5 rfl) ?_
      refine lv_iconst (pc := 2944) (v := 0) hx hb dL_law_2944 (by decide) ?_
      refine g_lald (pc := 2945) C hM dL_law_2945 ?_
      refine lv_iload (pc := 2946) hx hb dL_law_2946 (lv_at hl 0 rfl) ?_
      refine lv_i2l (pc := 2948) (v := (r2922).toInt64) hx hb dL_law_2948 rfl ?_
      refine W.lcmp (pc := 2949) hx hb dL_law_2949 ?_
      refine lv_if_eq (pc := 2950) (tgt := 2955) hx hb dL_law_2950 (by decide) (fun c2950 => ?_) (fun c2950 => ?_)
      · have h := h.1 c2950
        refine lv_goto (pc := 2955) (tgt := 3015) hx hb dL_law_2955 (by decide) ?_
        exact h _ _ _ hM (lv_sub hl [2, 3, 4, 5, 6, 7] rfl)
      · have h := h.2 c2950
        refine lv_iconst (pc := 2953) (v := 0) hx hb dL_law_2953 (by decide) ?_
        exact h.elim
  · have h := h.2 c2933
    refine lv_iconst (pc := 2936) (v := 0) hx hb dL_law_2936 (by decide) ?_
    exact h.elim
set_option maxHeartbeats 4000000 in
set_option maxRecDepth 100000 in
theorem law_case_46 {p : Program} {l : Launch} {e : Env} {s : State} {m : MethodId} {below : List Frame} {meth : Method} {c : Code} {Q : State → Prop} (hl0 : l.stackTraces = false) {G : GP} {b L : Nat} {xs : Nat → Int32} (C : g_C p s m #[.ref b] c code 9 RL G) (hX : va_X b L xs s s.heap) (hbl : b < s.heap.size) (hbA : ¬ g_A G b) (hL : L ≤ 3072) {i : Nat} (hi : i + 6 ≤ L) {σ : Sto} {x : XP} {H : Heap} {locs : List Loc} {ls : Array Slot} {cells slots : Nat} (hM : g_M G x σ s H locs) (hl : lv_has ls 9 [(0, .ref b), (1, .ref (g_ad G 60)), (2, .ref (g_ad G 87)), (3, .ref (g_ad G 106)), (4, .ref (g_ad G 107)), (5, .int (nI i))]) (hroom : cells + 8 ≤ room_1.cells ∧ slots + 48 ≤ room_1.slots) (h : DL_46 xs i σ x (fun σ x => ∀ (H : Heap) (locs : List Loc) (ls : Array Slot), g_M G x σ s H locs → lv_has ls 9 [(0, .ref b), (1, .ref (g_ad G 60)), (2, .ref (g_ad G 87)), (3, .ref (g_ad G 106)), (4, .ref (g_ad G 107)), (5, .int (nI i))] → W p l e room_1 s m #[.ref b] below meth c H locs (cells + 8) (slots + 48) Q (F0 m 3015 ls []))) : W p l e room_1 s m #[.ref b] below meth c H locs cells slots Q (F0 m 2958 ls []) := by
  unfold DL_46 at h
  have hx := C.1
  have hb := C.2.1
  refine lv_aload_n (pc := 2958) hx hb dL_law_2958 rfl (lv_at hl 1 rfl) ?_
  refine g_cVi (pc := 2959) C hM hl.1 yv_X11_save q2_82 (by decide) ce_60 rfl (w_X11_save l G x σ _ h) rfl rfl ⟨⟨Nat.le_of_ble_eq_true rfl, Nat.le_of_ble_eq_true rfl⟩, Nat.le_trans (Nat.le_add_right _ _) hroom.1, Nat.le_trans (Nat.le_add_right _ _) hroom.2⟩ (Nat.le_of_ble_eq_true rfl) dL_law_2959 (fun r2959 s2959 H locs h hM => ?_)
  refine W.widen (k := cells + 8) (n := slots + 48) (Nat.add_le_add_left (by decide) _) (Nat.add_le_add_left (by decide) _) ?_
  refine lv_aload_n (pc := 2962) hx hb dL_law_2962 rfl (lv_at hl 2 rfl) ?_
  refine g_cVi (pc := 2963) C hM hl.1 yv_X12_save q6_93 (by decide) ce_87 rfl (w_X12_save l G x s2959 _ h) rfl rfl ⟨⟨Nat.le_of_ble_eq_true rfl, Nat.le_of_ble_eq_true rfl⟩, hroom.1, hroom.2⟩ (Nat.le_of_ble_eq_true rfl) dL_law_2963 (fun r2963 s2963 H locs h hM => ?_)
  refine lv_icmp_eq (pc := 2966) (tgt := 3015) hx hb dL_law_2966 (by decide) (fun c2966 => ?_) (fun c2966 => ?_)
  · have h := h.1 c2966
    exact h _ _ _ hM (lv_sub hl [0, 1, 2, 3, 4, 5] rfl)
  · have h := h.2 c2966
    refine lv_iconst (pc := 2969) (v := 0) hx hb dL_law_2969 (by decide) ?_
    exact h.elim
set_option maxHeartbeats 4000000 in
set_option maxRecDepth 100000 in
theorem law_case_47 {p : Program} {l : Launch} {e : Env} {s : State} {m : MethodId} {below : List Frame} {meth : Method} {c : Code} {Q : State → Prop} (hl0 : l.stackTraces = false) {G : GP} {b L : Nat} {xs : Nat → Int32} (C : g_C p s m #[.ref b] c code 9 RL G) (hX : va_X b L xs s s.heap) (hbl : b < s.heap.size) (hbA : ¬ g_A G b) (hL : L ≤ 3072) {i : Nat} (hi : i + 6 ≤ L) {σ : Sto} {x : XP} {H : Heap} {locs : List Loc} {ls : Array Slot} {cells slots : Nat} (hM : g_M G x σ s H locs) (hl : lv_has ls 9 [(0, .ref b), (1, .ref (g_ad G 60)), (2, .ref (g_ad G 87)), (3, .ref (g_ad G 106)), (4, .ref (g_ad G 107)), (5, .int (nI i))]) (hroom : cells + 8 ≤ room_1.cells ∧ slots + 48 ≤ room_1.slots) (h : DL_47 xs i σ x (fun σ x => ∀ (H : Heap) (locs : List Loc) (ls : Array Slot), g_M G x σ s H locs → lv_has ls 9 [(0, .ref b), (1, .ref (g_ad G 60)), (2, .ref (g_ad G 87)), (3, .ref (g_ad G 106)), (4, .ref (g_ad G 107)), (5, .int (nI i))] → W p l e room_1 s m #[.ref b] below meth c H locs (cells + 8) (slots + 48) Q (F0 m 3015 ls []))) : W p l e room_1 s m #[.ref b] below meth c H locs cells slots Q (F0 m 2971 ls []) := by
  unfold DL_47 at h
  have hx := C.1
  have hb := C.2.1
  refine lv_aload_n (pc := 2971) hx hb dL_law_2971 rfl (lv_at hl 1 rfl) ?_
  refine lv_aload_n (pc := 2972) hx hb dL_law_2972 rfl (lv_at hl 3 rfl) ?_
  refine g_cSw (pc := 2973) C hM hl.1 yw_L_restore q5_211 (w_L_restore l hl0 G σ x _ h) rfl rfl ⟨⟨Nat.le_of_ble_eq_true rfl, Nat.le_of_ble_eq_true rfl⟩, Nat.le_trans (Nat.add_le_add_left (by decide) _) hroom.1, Nat.le_trans (Nat.add_le_add_left (by decide) _) hroom.2⟩ (Nat.le_of_ble_eq_true rfl) dL_law_2973 (fun r2973 u2973 H locs h hM => ?_)
  refine W.widen (k := cells + 8) (n := slots + 48) (Nat.add_le_add_left (by decide) _) (Nat.add_le_add_left (by decide) _) ?_
  refine lv_istore (pc := 2976) (lv' := [(6, .int r2973), (0, .ref b), (1, .ref (g_ad G 60)), (2, .ref (g_ad G 87)), (3, .ref (g_ad G 106)), (4, .ref (g_ad G 107)), (5, .int (nI i))]) hx hb dL_law_2976 hl (by decide) rfl (fun ls hl => ?_)
  refine lv_aload_n (pc := 2978) hx hb dL_law_2978 rfl (lv_at hl 3 rfl) ?_
  refine g_cVi (pc := 2979) C hM hl.1 yv_X12_restore q6_97 (by decide) ce_87 rfl (w_X12_restore l G u2973.2 u2973.1 _ h) rfl rfl ⟨⟨Nat.le_of_ble_eq_true rfl, Nat.le_of_ble_eq_true rfl⟩, hroom.1, hroom.2⟩ (Nat.le_of_ble_eq_true rfl) dL_law_2979 (fun r2979 s2979 H locs h hM => ?_)
  refine lv_istore (pc := 2982) (lv' := [(7, .int r2979), (6, .int r2973), (0, .ref b), (1, .ref (g_ad G 60)), (2, .ref (g_ad G 87)), (3, .ref (g_ad G 106)), (4, .ref (g_ad G 107)), (5, .int (nI i))]) hx hb dL_law_2982 hl (by decide) rfl (fun ls hl => ?_)
  refine lv_aload_n (pc := 2984) hx hb dL_law_2984 rfl (lv_at hl 4 rfl) ?_
  refine g_cVi (pc := 2985) C hM hl.1 yv_X12_thrown q6_81 (by decide) ce_87 rfl (w_X12_thrown l G u2973.2 s2979 _ h) rfl rfl ⟨⟨Nat.le_of_ble_eq_true rfl, Nat.le_of_ble_eq_true rfl⟩, hroom.1, hroom.2⟩ (Nat.le_of_ble_eq_true rfl) dL_law_2985 (fun r2985 s2985 H locs h hM => ?_)
  refine lv_iload (pc := 2988) hx hb dL_law_2988 (lv_at hl 1 rfl) ?_
  refine lv_icmp_eq (pc := 2990) (tgt := 2995) hx hb dL_law_2990 (by decide) (fun c2990 => ?_) (fun c2990 => ?_)
  · have h := h.1 c2990
    refine lv_iload (pc := 2995) hx hb dL_law_2995 (lv_at hl 1 rfl) ?_
    refine lv_if_ne (pc := 2997) (tgt := 3012) hx hb dL_law_2997 (by decide) (fun c2997 => ?_) (fun c2997 => ?_)
    · have h := h.2 c2997
      refine lv_goto (pc := 3012) (tgt := 3015) hx hb dL_law_3012 (by decide) ?_
      exact h _ _ _ hM (lv_sub hl [2, 3, 4, 5, 6, 7] rfl)
    · have h := h.1 c2997
      refine lv_aload_n (pc := 3000) hx hb dL_law_3000 rfl (lv_at hl 5 rfl) ?_
      refine lv_iconst (pc := 3001) (v := 0) hx hb dL_law_3001 (by decide) ?_
      refine g_lald (pc := 3002) C hM dL_law_3002 ?_
      refine lv_iload (pc := 3003) hx hb dL_law_3003 (lv_at hl 0 rfl) ?_
      refine lv_i2l (pc := 3005) (v := (r2979).toInt64) hx hb dL_law_3005 rfl ?_
      refine W.lcmp (pc := 3006) hx hb dL_law_3006 ?_
      refine lv_if_eq (pc := 3007) (tgt := 3012) hx hb dL_law_3007 (by decide) (fun c3007 => ?_) (fun c3007 => ?_)
      · have h := h.1 c3007
        refine lv_goto (pc := 3012) (tgt := 3015) hx hb dL_law_3012 (by decide) ?_
        exact h _ _ _ hM (lv_sub hl [2, 3, 4, 5, 6, 7] rfl)
      · have h := h.2 c3007
        refine lv_iconst (pc := 3010) (v := 0) hx hb dL_law_3010 (by decide) ?_
        exact h.elim
  · have h := h.2 c2990
    refine lv_iconst (pc := 2993) (v := 0) hx hb dL_law_2993 (by decide) ?_
    exact h.elim
