/-- one turn of the law: which call it is, and what the call asks -/
def DLs (xs : Nat → Int32) (i : Nat) (σ : Sto) (x : XP) (P : Sto → XP → Prop) : Prop :=
  (xs (i + 0) &&& 63 = 0 → DL_0 xs i σ x P) ∧ (xs (i + 0) &&& 63 = 1 → DL_1 xs i σ x P) ∧ (xs (i + 0) &&& 63 = 2 → DL_2 xs i σ x P) ∧ (xs (i + 0) &&& 63 = 3 → DL_3 xs i σ x P) ∧ (xs (i + 0) &&& 63 = 4 → DL_4 xs i σ x P) ∧ (xs (i + 0) &&& 63 = 5 → DL_5 xs i σ x P) ∧ (xs (i + 0) &&& 63 = 6 → DL_6 xs i σ x P) ∧ (xs (i + 0) &&& 63 = 7 → DL_7 xs i σ x P) ∧ (xs (i + 0) &&& 63 = 8 → DL_8 xs i σ x P) ∧ (xs (i + 0) &&& 63 = 9 → DL_9 xs i σ x P) ∧ (xs (i + 0) &&& 63 = 10 → DL_10 xs i σ x P) ∧ (xs (i + 0) &&& 63 = 11 → DL_11 xs i σ x P) ∧ (xs (i + 0) &&& 63 = 12 → DL_12 xs i σ x P) ∧ (xs (i + 0) &&& 63 = 13 → DL_13 xs i σ x P) ∧ (xs (i + 0) &&& 63 = 14 → DL_14 xs i σ x P) ∧ (xs (i + 0) &&& 63 = 15 → DL_15 xs i σ x P) ∧ (xs (i + 0) &&& 63 = 16 → DL_16 xs i σ x P) ∧ (xs (i + 0) &&& 63 = 17 → DL_17 xs i σ x P) ∧ (xs (i + 0) &&& 63 = 18 → DL_18 xs i σ x P) ∧ (xs (i + 0) &&& 63 = 19 → DL_19 xs i σ x P) ∧ (xs (i + 0) &&& 63 = 20 → DL_20 xs i σ x P) ∧ (xs (i + 0) &&& 63 = 21 → DL_21 xs i σ x P) ∧ (xs (i + 0) &&& 63 = 22 → DL_22 xs i σ x P) ∧ (xs (i + 0) &&& 63 = 23 → DL_23 xs i σ x P) ∧ (xs (i + 0) &&& 63 = 24 → DL_24 xs i σ x P) ∧ (xs (i + 0) &&& 63 = 25 → DL_25 xs i σ x P) ∧ (xs (i + 0) &&& 63 = 26 → DL_26 xs i σ x P) ∧ (xs (i + 0) &&& 63 = 27 → DL_27 xs i σ x P) ∧ (xs (i + 0) &&& 63 = 28 → DL_28 xs i σ x P) ∧ (xs (i + 0) &&& 63 = 29 → DL_29 xs i σ x P) ∧ (xs (i + 0) &&& 63 = 30 → DL_30 xs i σ x P) ∧ (xs (i + 0) &&& 63 = 31 → DL_31 xs i σ x P) ∧ (xs (i + 0) &&& 63 = 32 → DL_32 xs i σ x P) ∧ (xs (i + 0) &&& 63 = 33 → DL_33 xs i σ x P) ∧ (xs (i + 0) &&& 63 = 34 → DL_34 xs i σ x P) ∧ (xs (i + 0) &&& 63 = 35 → DL_35 xs i σ x P) ∧ (xs (i + 0) &&& 63 = 36 → DL_36 xs i σ x P) ∧ (xs (i + 0) &&& 63 = 37 → DL_37 xs i σ x P) ∧ (xs (i + 0) &&& 63 = 38 → DL_38 xs i σ x P) ∧ (xs (i + 0) &&& 63 = 39 → DL_39 xs i σ x P) ∧ (xs (i + 0) &&& 63 = 40 → DL_40 xs i σ x P) ∧ (xs (i + 0) &&& 63 = 41 → DL_41 xs i σ x P) ∧ (xs (i + 0) &&& 63 = 42 → DL_42 xs i σ x P) ∧ (xs (i + 0) &&& 63 = 43 → DL_43 xs i σ x P) ∧ (xs (i + 0) &&& 63 = 44 → DL_44 xs i σ x P) ∧ (xs (i + 0) &&& 63 = 45 → DL_45 xs i σ x P) ∧ (xs (i + 0) &&& 63 = 46 → DL_46 xs i σ x P) ∧ (xs (i + 0) &&& 63 = 47 → DL_47 xs i σ x P) ∧ ((∀ k : Nat, k < 48 → ¬ xs (i + 0) &&& 63 = nI k) → P σ x)
set_option maxHeartbeats 4000000 in
set_option maxRecDepth 100000 in
theorem law_step {p : Program} {l : Launch} {e : Env} {s : State} {m : MethodId} {below : List Frame} {meth : Method} {c : Code} {Q : State → Prop} (hl0 : l.stackTraces = false) {G : GP} {b L : Nat} {xs : Nat → Int32} (C : g_C p s m #[.ref b] c code 9 RL G) (hX : va_X b L xs s s.heap) (hbl : b < s.heap.size) (hbA : ¬ g_A G b) (hL : L ≤ 3072) {i : Nat} (hi : i + 6 ≤ L) {σ : Sto} {x : XP} {H : Heap} {locs : List Loc} {ls : Array Slot} {cells slots : Nat} (hM : g_M G x σ s H locs) (hl : lv_has ls 9 [(0, .ref b), (1, .ref (g_ad G 60)), (2, .ref (g_ad G 87)), (3, .ref (g_ad G 106)), (4, .ref (g_ad G 107)), (5, .int (nI i))]) (hroom : cells + 8 ≤ room_1.cells ∧ slots + 48 ≤ room_1.slots) (h : DLs xs i σ x (fun σ x => ∀ (H : Heap) (locs : List Loc) (ls : Array Slot), g_M G x σ s H locs → lv_has ls 9 [(0, .ref b), (1, .ref (g_ad G 60)), (2, .ref (g_ad G 87)), (3, .ref (g_ad G 106)), (4, .ref (g_ad G 107)), (5, .int (nI i))] → W p l e room_1 s m #[.ref b] below meth c H locs (cells + 8) (slots + 48) Q (F0 m 3015 ls []))) : W p l e room_1 s m #[.ref b] below meth c H locs cells slots Q (F0 m 38 ls []) := by
  unfold DLs at h
  obtain ⟨h0, h1, h2, h3, h4, h5, h6, h7, h8, h9, h10, h11, h12, h13, h14, h15, h16, h17, h18, h19, h20, h21, h22, h23, h24, h25, h26, h27, h28, h29, h30, h31, h32, h33, h34, h35, h36, h37, h38, h39, h40, h41, h42, h43, h44, h45, h46, h47, hd⟩ := h
  have hx := C.1
  have hb := C.2.1
  refine lv_aload_n (pc := 38) hx hb dL_law_38 rfl (lv_at hl 0 rfl) ?_
  refine lv_iload (pc := 39) hx hb dL_law_39 (lv_at hl 5 rfl) ?_
  refine g_scr (pc := 41) (k := i + 0) C hX hbl hbA hM (sc_in0 hi hL) (sc_ix0 hi hL) dL_law_41 ?_
  refine lv_bipush (pc := 42) (v := 63) hx hb dL_law_42 (by decide) ?_
  refine lv_iand (pc := 44) hx hb dL_law_44 ?_
  by_cases c0 : xs (i + 0) &&& 63 = 0
  · refine lv_tableIn (pc := 45) (tgt := 252) hx hb dL_law_45 (by rw [c0]; decide) (by rw [c0]; decide) (by rw [c0]; rfl) (by decide) ?_
    exact law_case_0 hl0 C hX hbl hbA hL hi hM hl hroom (h0 c0)
  by_cases c1 : xs (i + 0) &&& 63 = 1
  · refine lv_tableIn (pc := 45) (tgt := 348) hx hb dL_law_45 (by rw [c1]; decide) (by rw [c1]; decide) (by rw [c1]; rfl) (by decide) ?_
    exact law_case_1 hl0 C hX hbl hbA hL hi hM hl hroom (h1 c1)
  by_cases c2 : xs (i + 0) &&& 63 = 2
  · refine lv_tableIn (pc := 45) (tgt := 440) hx hb dL_law_45 (by rw [c2]; decide) (by rw [c2]; decide) (by rw [c2]; rfl) (by decide) ?_
    exact law_case_2 hl0 C hX hbl hbA hL hi hM hl hroom (h2 c2)
  by_cases c3 : xs (i + 0) &&& 63 = 3
  · refine lv_tableIn (pc := 45) (tgt := 496) hx hb dL_law_45 (by rw [c3]; decide) (by rw [c3]; decide) (by rw [c3]; rfl) (by decide) ?_
    exact law_case_3 hl0 C hX hbl hbA hL hi hM hl hroom (h3 c3)
  by_cases c4 : xs (i + 0) &&& 63 = 4
  · refine lv_tableIn (pc := 45) (tgt := 564) hx hb dL_law_45 (by rw [c4]; decide) (by rw [c4]; decide) (by rw [c4]; rfl) (by decide) ?_
    exact law_case_4 hl0 C hX hbl hbA hL hi hM hl hroom (h4 c4)
  by_cases c5 : xs (i + 0) &&& 63 = 5
  · refine lv_tableIn (pc := 45) (tgt := 632) hx hb dL_law_45 (by rw [c5]; decide) (by rw [c5]; decide) (by rw [c5]; rfl) (by decide) ?_
    exact law_case_5 hl0 C hX hbl hbA hL hi hM hl hroom (h5 c5)
  by_cases c6 : xs (i + 0) &&& 63 = 6
  · refine lv_tableIn (pc := 45) (tgt := 688) hx hb dL_law_45 (by rw [c6]; decide) (by rw [c6]; decide) (by rw [c6]; rfl) (by decide) ?_
    exact law_case_6 hl0 C hX hbl hbA hL hi hM hl hroom (h6 c6)
  by_cases c7 : xs (i + 0) &&& 63 = 7
  · refine lv_tableIn (pc := 45) (tgt := 701) hx hb dL_law_45 (by rw [c7]; decide) (by rw [c7]; decide) (by rw [c7]; rfl) (by decide) ?_
    exact law_case_7 hl0 C hX hbl hbA hL hi hM hl hroom (h7 c7)
  by_cases c8 : xs (i + 0) &&& 63 = 8
  · refine lv_tableIn (pc := 45) (tgt := 769) hx hb dL_law_45 (by rw [c8]; decide) (by rw [c8]; decide) (by rw [c8]; rfl) (by decide) ?_
    exact law_case_8 hl0 C hX hbl hbA hL hi hM hl hroom (h8 c8)
  by_cases c9 : xs (i + 0) &&& 63 = 9
  · refine lv_tableIn (pc := 45) (tgt := 849) hx hb dL_law_45 (by rw [c9]; decide) (by rw [c9]; decide) (by rw [c9]; rfl) (by decide) ?_
    exact law_case_9 hl0 C hX hbl hbA hL hi hM hl hroom (h9 c9)
  by_cases c10 : xs (i + 0) &&& 63 = 10
  · refine lv_tableIn (pc := 45) (tgt := 917) hx hb dL_law_45 (by rw [c10]; decide) (by rw [c10]; decide) (by rw [c10]; rfl) (by decide) ?_
    exact law_case_10 hl0 C hX hbl hbA hL hi hM hl hroom (h10 c10)
  by_cases c11 : xs (i + 0) &&& 63 = 11
  · refine lv_tableIn (pc := 45) (tgt := 1021) hx hb dL_law_45 (by rw [c11]; decide) (by rw [c11]; decide) (by rw [c11]; rfl) (by decide) ?_
    exact law_case_11 hl0 C hX hbl hbA hL hi hM hl hroom (h11 c11)
  by_cases c12 : xs (i + 0) &&& 63 = 12
  · refine lv_tableIn (pc := 45) (tgt := 1101) hx hb dL_law_45 (by rw [c12]; decide) (by rw [c12]; decide) (by rw [c12]; rfl) (by decide) ?_
    exact law_case_12 hl0 C hX hbl hbA hL hi hM hl hroom (h12 c12)
  by_cases c13 : xs (i + 0) &&& 63 = 13
  · refine lv_tableIn (pc := 45) (tgt := 1142) hx hb dL_law_45 (by rw [c13]; decide) (by rw [c13]; decide) (by rw [c13]; rfl) (by decide) ?_
    exact law_case_13 hl0 C hX hbl hbA hL hi hM hl hroom (h13 c13)
  by_cases c14 : xs (i + 0) &&& 63 = 14
  · refine lv_tableIn (pc := 45) (tgt := 1210) hx hb dL_law_45 (by rw [c14]; decide) (by rw [c14]; decide) (by rw [c14]; rfl) (by decide) ?_
    exact law_case_14 hl0 C hX hbl hbA hL hi hM hl hroom (h14 c14)
  by_cases c15 : xs (i + 0) &&& 63 = 15
  · refine lv_tableIn (pc := 45) (tgt := 1266) hx hb dL_law_45 (by rw [c15]; decide) (by rw [c15]; decide) (by rw [c15]; rfl) (by decide) ?_
    exact law_case_15 hl0 C hX hbl hbA hL hi hM hl hroom (h15 c15)
  by_cases c16 : xs (i + 0) &&& 63 = 16
  · refine lv_tableIn (pc := 45) (tgt := 1334) hx hb dL_law_45 (by rw [c16]; decide) (by rw [c16]; decide) (by rw [c16]; rfl) (by decide) ?_
    exact law_case_16 hl0 C hX hbl hbA hL hi hM hl hroom (h16 c16)
  by_cases c17 : xs (i + 0) &&& 63 = 17
  · refine lv_tableIn (pc := 45) (tgt := 1414) hx hb dL_law_45 (by rw [c17]; decide) (by rw [c17]; decide) (by rw [c17]; rfl) (by decide) ?_
    exact law_case_17 hl0 C hX hbl hbA hL hi hM hl hroom (h17 c17)
  by_cases c18 : xs (i + 0) &&& 63 = 18
  · refine lv_tableIn (pc := 45) (tgt := 1482) hx hb dL_law_45 (by rw [c18]; decide) (by rw [c18]; decide) (by rw [c18]; rfl) (by decide) ?_
    exact law_case_18 hl0 C hX hbl hbA hL hi hM hl hroom (h18 c18)
  by_cases c19 : xs (i + 0) &&& 63 = 19
  · refine lv_tableIn (pc := 45) (tgt := 1538) hx hb dL_law_45 (by rw [c19]; decide) (by rw [c19]; decide) (by rw [c19]; rfl) (by decide) ?_
    exact law_case_19 hl0 C hX hbl hbA hL hi hM hl hroom (h19 c19)
  by_cases c20 : xs (i + 0) &&& 63 = 20
  · refine lv_tableIn (pc := 45) (tgt := 1594) hx hb dL_law_45 (by rw [c20]; decide) (by rw [c20]; decide) (by rw [c20]; rfl) (by decide) ?_
    exact law_case_20 hl0 C hX hbl hbA hL hi hM hl hroom (h20 c20)
  by_cases c21 : xs (i + 0) &&& 63 = 21
  · refine lv_tableIn (pc := 45) (tgt := 1662) hx hb dL_law_45 (by rw [c21]; decide) (by rw [c21]; decide) (by rw [c21]; rfl) (by decide) ?_
    exact law_case_21 hl0 C hX hbl hbA hL hi hM hl hroom (h21 c21)
  by_cases c22 : xs (i + 0) &&& 63 = 22
  · refine lv_tableIn (pc := 45) (tgt := 1675) hx hb dL_law_45 (by rw [c22]; decide) (by rw [c22]; decide) (by rw [c22]; rfl) (by decide) ?_
    exact law_case_22 hl0 C hX hbl hbA hL hi hM hl hroom (h22 c22)
  by_cases c23 : xs (i + 0) &&& 63 = 23
  · refine lv_tableIn (pc := 45) (tgt := 1731) hx hb dL_law_45 (by rw [c23]; decide) (by rw [c23]; decide) (by rw [c23]; rfl) (by decide) ?_
    exact law_case_23 hl0 C hX hbl hbA hL hi hM hl hroom (h23 c23)
  by_cases c24 : xs (i + 0) &&& 63 = 24
  · refine lv_tableIn (pc := 45) (tgt := 1787) hx hb dL_law_45 (by rw [c24]; decide) (by rw [c24]; decide) (by rw [c24]; rfl) (by decide) ?_
    exact law_case_24 hl0 C hX hbl hbA hL hi hM hl hroom (h24 c24)
  by_cases c25 : xs (i + 0) &&& 63 = 25
  · refine lv_tableIn (pc := 45) (tgt := 1831) hx hb dL_law_45 (by rw [c25]; decide) (by rw [c25]; decide) (by rw [c25]; rfl) (by decide) ?_
    exact law_case_25 hl0 C hX hbl hbA hL hi hM hl hroom (h25 c25)
  by_cases c26 : xs (i + 0) &&& 63 = 26
  · refine lv_tableIn (pc := 45) (tgt := 1875) hx hb dL_law_45 (by rw [c26]; decide) (by rw [c26]; decide) (by rw [c26]; rfl) (by decide) ?_
    exact law_case_26 hl0 C hX hbl hbA hL hi hM hl hroom (h26 c26)
  by_cases c27 : xs (i + 0) &&& 63 = 27
  · refine lv_tableIn (pc := 45) (tgt := 1931) hx hb dL_law_45 (by rw [c27]; decide) (by rw [c27]; decide) (by rw [c27]; rfl) (by decide) ?_
    exact law_case_27 hl0 C hX hbl hbA hL hi hM hl hroom (h27 c27)
  by_cases c28 : xs (i + 0) &&& 63 = 28
  · refine lv_tableIn (pc := 45) (tgt := 1975) hx hb dL_law_45 (by rw [c28]; decide) (by rw [c28]; decide) (by rw [c28]; rfl) (by decide) ?_
    exact law_case_28 hl0 C hX hbl hbA hL hi hM hl hroom (h28 c28)
  by_cases c29 : xs (i + 0) &&& 63 = 29
  · refine lv_tableIn (pc := 45) (tgt := 2031) hx hb dL_law_45 (by rw [c29]; decide) (by rw [c29]; decide) (by rw [c29]; rfl) (by decide) ?_
    exact law_case_29 hl0 C hX hbl hbA hL hi hM hl hroom (h29 c29)
  by_cases c30 : xs (i + 0) &&& 63 = 30
  · refine lv_tableIn (pc := 45) (tgt := 2099) hx hb dL_law_45 (by rw [c30]; decide) (by rw [c30]; decide) (by rw [c30]; rfl) (by decide) ?_
    exact law_case_30 hl0 C hX hbl hbA hL hi hM hl hroom (h30 c30)
  by_cases c31 : xs (i + 0) &&& 63 = 31
  · refine lv_tableIn (pc := 45) (tgt := 2155) hx hb dL_law_45 (by rw [c31]; decide) (by rw [c31]; decide) (by rw [c31]; rfl) (by decide) ?_
    exact law_case_31 hl0 C hX hbl hbA hL hi hM hl hroom (h31 c31)
  by_cases c32 : xs (i + 0) &&& 63 = 32
  · refine lv_tableIn (pc := 45) (tgt := 2230) hx hb dL_law_45 (by rw [c32]; decide) (by rw [c32]; decide) (by rw [c32]; rfl) (by decide) ?_
    exact law_case_32 hl0 C hX hbl hbA hL hi hM hl hroom (h32 c32)
  by_cases c33 : xs (i + 0) &&& 63 = 33
  · refine lv_tableIn (pc := 45) (tgt := 2305) hx hb dL_law_45 (by rw [c33]; decide) (by rw [c33]; decide) (by rw [c33]; rfl) (by decide) ?_
    exact law_case_33 hl0 C hX hbl hbA hL hi hM hl hroom (h33 c33)
  by_cases c34 : xs (i + 0) &&& 63 = 34
  · refine lv_tableIn (pc := 45) (tgt := 2361) hx hb dL_law_45 (by rw [c34]; decide) (by rw [c34]; decide) (by rw [c34]; rfl) (by decide) ?_
    exact law_case_34 hl0 C hX hbl hbA hL hi hM hl hroom (h34 c34)
  by_cases c35 : xs (i + 0) &&& 63 = 35
  · refine lv_tableIn (pc := 45) (tgt := 2417) hx hb dL_law_45 (by rw [c35]; decide) (by rw [c35]; decide) (by rw [c35]; rfl) (by decide) ?_
    exact law_case_35 hl0 C hX hbl hbA hL hi hM hl hroom (h35 c35)
  by_cases c36 : xs (i + 0) &&& 63 = 36
  · refine lv_tableIn (pc := 45) (tgt := 2485) hx hb dL_law_45 (by rw [c36]; decide) (by rw [c36]; decide) (by rw [c36]; rfl) (by decide) ?_
    exact law_case_36 hl0 C hX hbl hbA hL hi hM hl hroom (h36 c36)
  by_cases c37 : xs (i + 0) &&& 63 = 37
  · refine lv_tableIn (pc := 45) (tgt := 2541) hx hb dL_law_45 (by rw [c37]; decide) (by rw [c37]; decide) (by rw [c37]; rfl) (by decide) ?_
    exact law_case_37 hl0 C hX hbl hbA hL hi hM hl hroom (h37 c37)
  by_cases c38 : xs (i + 0) &&& 63 = 38
  · refine lv_tableIn (pc := 45) (tgt := 2554) hx hb dL_law_45 (by rw [c38]; decide) (by rw [c38]; decide) (by rw [c38]; rfl) (by decide) ?_
    exact law_case_38 hl0 C hX hbl hbA hL hi hM hl hroom (h38 c38)
  by_cases c39 : xs (i + 0) &&& 63 = 39
  · refine lv_tableIn (pc := 45) (tgt := 2622) hx hb dL_law_45 (by rw [c39]; decide) (by rw [c39]; decide) (by rw [c39]; rfl) (by decide) ?_
    exact law_case_39 hl0 C hX hbl hbA hL hi hM hl hroom (h39 c39)
  by_cases c40 : xs (i + 0) &&& 63 = 40
  · refine lv_tableIn (pc := 45) (tgt := 2687) hx hb dL_law_45 (by rw [c40]; decide) (by rw [c40]; decide) (by rw [c40]; rfl) (by decide) ?_
    exact law_case_40 hl0 C hX hbl hbA hL hi hM hl hroom (h40 c40)
  by_cases c41 : xs (i + 0) &&& 63 = 41
  · refine lv_tableIn (pc := 45) (tgt := 2700) hx hb dL_law_45 (by rw [c41]; decide) (by rw [c41]; decide) (by rw [c41]; rfl) (by decide) ?_
    exact law_case_41 hl0 C hX hbl hbA hL hi hM hl hroom (h41 c41)
  by_cases c42 : xs (i + 0) &&& 63 = 42
  · refine lv_tableIn (pc := 45) (tgt := 2758) hx hb dL_law_45 (by rw [c42]; decide) (by rw [c42]; decide) (by rw [c42]; rfl) (by decide) ?_
    exact law_case_42 hl0 C hX hbl hbA hL hi hM hl hroom (h42 c42)
  by_cases c43 : xs (i + 0) &&& 63 = 43
  · refine lv_tableIn (pc := 45) (tgt := 2802) hx hb dL_law_45 (by rw [c43]; decide) (by rw [c43]; decide) (by rw [c43]; rfl) (by decide) ?_
    exact law_case_43 hl0 C hX hbl hbA hL hi hM hl hroom (h43 c43)
  by_cases c44 : xs (i + 0) &&& 63 = 44
  · refine lv_tableIn (pc := 45) (tgt := 2846) hx hb dL_law_45 (by rw [c44]; decide) (by rw [c44]; decide) (by rw [c44]; rfl) (by decide) ?_
    exact law_case_44 hl0 C hX hbl hbA hL hi hM hl hroom (h44 c44)
  by_cases c45 : xs (i + 0) &&& 63 = 45
  · refine lv_tableIn (pc := 45) (tgt := 2914) hx hb dL_law_45 (by rw [c45]; decide) (by rw [c45]; decide) (by rw [c45]; rfl) (by decide) ?_
    exact law_case_45 hl0 C hX hbl hbA hL hi hM hl hroom (h45 c45)
  by_cases c46 : xs (i + 0) &&& 63 = 46
  · refine lv_tableIn (pc := 45) (tgt := 2958) hx hb dL_law_45 (by rw [c46]; decide) (by rw [c46]; decide) (by rw [c46]; rfl) (by decide) ?_
    exact law_case_46 hl0 C hX hbl hbA hL hi hM hl hroom (h46 c46)
  by_cases c47 : xs (i + 0) &&& 63 = 47
  · refine lv_tableIn (pc := 45) (tgt := 2971) hx hb dL_law_45 (by rw [c47]; decide) (by rw [c47]; decide) (by rw [c47]; rfl) (by decide) ?_
    exact law_case_47 hl0 C hX hbl hbA hL hi hM hl hroom (h47 c47)
  have ht : (xs (i + 0) &&& 63).toInt < 0 ∨ 47 < (xs (i + 0) &&& 63).toInt := by
    have n0 := lv_neT c0 (a := 0) rfl
    have n1 := lv_neT c1 (a := 1) rfl
    have n2 := lv_neT c2 (a := 2) rfl
    have n3 := lv_neT c3 (a := 3) rfl
    have n4 := lv_neT c4 (a := 4) rfl
    have n5 := lv_neT c5 (a := 5) rfl
    have n6 := lv_neT c6 (a := 6) rfl
    have n7 := lv_neT c7 (a := 7) rfl
    have n8 := lv_neT c8 (a := 8) rfl
    have n9 := lv_neT c9 (a := 9) rfl
    have n10 := lv_neT c10 (a := 10) rfl
    have n11 := lv_neT c11 (a := 11) rfl
    have n12 := lv_neT c12 (a := 12) rfl
    have n13 := lv_neT c13 (a := 13) rfl
    have n14 := lv_neT c14 (a := 14) rfl
    have n15 := lv_neT c15 (a := 15) rfl
    have n16 := lv_neT c16 (a := 16) rfl
    have n17 := lv_neT c17 (a := 17) rfl
    have n18 := lv_neT c18 (a := 18) rfl
    have n19 := lv_neT c19 (a := 19) rfl
    have n20 := lv_neT c20 (a := 20) rfl
    have n21 := lv_neT c21 (a := 21) rfl
    have n22 := lv_neT c22 (a := 22) rfl
    have n23 := lv_neT c23 (a := 23) rfl
    have n24 := lv_neT c24 (a := 24) rfl
    have n25 := lv_neT c25 (a := 25) rfl
    have n26 := lv_neT c26 (a := 26) rfl
    have n27 := lv_neT c27 (a := 27) rfl
    have n28 := lv_neT c28 (a := 28) rfl
    have n29 := lv_neT c29 (a := 29) rfl
    have n30 := lv_neT c30 (a := 30) rfl
    have n31 := lv_neT c31 (a := 31) rfl
    have n32 := lv_neT c32 (a := 32) rfl
    have n33 := lv_neT c33 (a := 33) rfl
    have n34 := lv_neT c34 (a := 34) rfl
    have n35 := lv_neT c35 (a := 35) rfl
    have n36 := lv_neT c36 (a := 36) rfl
    have n37 := lv_neT c37 (a := 37) rfl
    have n38 := lv_neT c38 (a := 38) rfl
    have n39 := lv_neT c39 (a := 39) rfl
    have n40 := lv_neT c40 (a := 40) rfl
    have n41 := lv_neT c41 (a := 41) rfl
    have n42 := lv_neT c42 (a := 42) rfl
    have n43 := lv_neT c43 (a := 43) rfl
    have n44 := lv_neT c44 (a := 44) rfl
    have n45 := lv_neT c45 (a := 45) rfl
    have n46 := lv_neT c46 (a := 46) rfl
    have n47 := lv_neT c47 (a := 47) rfl
    omega
  refine lv_tableOut (pc := 45) (tgt := 3015) hx hb dL_law_45 ht (by decide) ?_
  refine W.widen (k := cells + 8) (n := slots + 48) (Nat.le_add_right _ _) (Nat.le_add_right _ _) ?_
  refine hd ?_ _ _ _ hM hl
  intro k hk
  match k, hk with
  | 0, _ => exact c0
  | 1, _ => exact c1
  | 2, _ => exact c2
  | 3, _ => exact c3
  | 4, _ => exact c4
  | 5, _ => exact c5
  | 6, _ => exact c6
  | 7, _ => exact c7
  | 8, _ => exact c8
  | 9, _ => exact c9
  | 10, _ => exact c10
  | 11, _ => exact c11
  | 12, _ => exact c12
  | 13, _ => exact c13
  | 14, _ => exact c14
  | 15, _ => exact c15
  | 16, _ => exact c16
  | 17, _ => exact c17
  | 18, _ => exact c18
  | 19, _ => exact c19
  | 20, _ => exact c20
  | 21, _ => exact c21
  | 22, _ => exact c22
  | 23, _ => exact c23
  | 24, _ => exact c24
  | 25, _ => exact c25
  | 26, _ => exact c26
  | 27, _ => exact c27
  | 28, _ => exact c28
  | 29, _ => exact c29
  | 30, _ => exact c30
  | 31, _ => exact c31
  | 32, _ => exact c32
  | 33, _ => exact c33
  | 34, _ => exact c34
  | 35, _ => exact c35
  | 36, _ => exact c36
  | 37, _ => exact c37
  | 38, _ => exact c38
  | 39, _ => exact c39
  | 40, _ => exact c40
  | 41, _ => exact c41
  | 42, _ => exact c42
  | 43, _ => exact c43
  | 44, _ => exact c44
  | 45, _ => exact c45
  | 46, _ => exact c46
  | 47, _ => exact c47
  | k + 48, hk => omega
theorem loop_in {i L : Nat} (hi : i ≤ 4000) (hL : L ≤ 3072) (h : ¬ Int32.ofNat L - 6 < nI i) : i + 6 ≤ L := by
  have e : (nI L - nI 6).toInt = (L : Int) - (6 : Nat) := pk_sub_toInt (by omega) (by omega)
  have e2 : (Int32.ofNat L - 6).toInt = (L : Int) - (6 : Nat) := e
  rw [Int32.lt_iff_toInt_lt, e2, nI_toInt (by omega)] at h
  omega
set_option maxHeartbeats 4000000 in
theorem law_loop {p : Program} {l : Launch} {e : Env} {s : State} {m : MethodId} {below : List Frame} {meth : Method} {c : Code} (hl0 : l.stackTraces = false) (hr : meth.sig.returnType = ret) (hlocks : meth.locks = false) {G : GP} {b L : Nat} {xs : Nat → Int32} (hG : G.1 = s.heap.size) (C : g_C p s m #[.ref b] c code 9 RL G) (hX : va_X b L xs s s.heap) (hbl : b < s.heap.size) (hbA : ¬ g_A G b) (hL : L ≤ 3072) (Inv : Sto → Prop) (hstep : ∀ (i : Nat) (σ : Sto) (x : XP) (P : Sto → XP → Prop), Inv σ → (∀ σ' x', Inv σ' → P σ' x') → DLs xs i σ x P) :
    ∀ (n i : Nat), L + 1 ≤ i + n → i ≤ L → ∀ (σ : Sto) (x : XP) (H : Heap) (locs : List Loc) (ls : Array Slot) (cells slots : Nat), cells ≤ 200 + 2 * i → slots ≤ 20000 + 8 * i → Inv σ → g_M G x σ s H locs → lv_has ls 9 [(0, .ref b), (1, .ref (g_ad G 60)), (2, .ref (g_ad G 87)), (3, .ref (g_ad G 106)), (4, .ref (g_ad G 107)), (5, .int (nI i))] → W p l e room_1 s m #[.ref b] below meth c H locs cells slots (lw_Z below #[.ref b] s) (F0 m 28 ls []) := by
  have hx := C.1
  have hb := C.2.1
  intro n
  induction n with
  | zero => intro i h1 h2; omega
  | succ n ih =>
    intro i h1 h2 σ x H locs ls cells slots hc hs hI hM hl
    have hrc : room_1.cells = 603072 := rfl
    have hrs : room_1.slots = 7198826 := rfl
    refine lv_iload (pc := 28) hx hb dL_law_28 (lv_at hl 5 rfl) ?_
    refine lv_aload_n (pc := 30) hx hb dL_law_30 rfl (lv_at hl 0 rfl) ?_
    refine va_slen (pc := 31) hx hb hX hbl hbA hM.2 dL_law_31 ?_
    refine lv_bipush (pc := 32) (v := 6) hx hb dL_law_32 (by decide) ?_
    refine lv_isub (pc := 34) hx hb dL_law_34 ?_
    refine lv_icmp_gt (pc := 35) (tgt := 3021) hx hb dL_law_35 (by decide) (fun c35 => ?_) (fun c35 => ?_)
    · refine lv_iconst (pc := 3021) (v := 1) hx hb dL_law_3021 (by decide) ?_
      refine va_forget (fun q hq => by rw [← hG]; exact hM.2.2.2 q hq) ?_
      refine W.widen (k := 603072) (n := 7198826) (by omega) (by omega) ?_
      refine W.base ?_
      exact lw_ret (Drawn.sameBut.refl s.drawn lw_cs) hx hb hr hlocks dL_law_3022
    · have hi := loop_in (by omega) hL c35
      refine law_step hl0 C hX hbl hbA hL hi hM hl ⟨by omega, by omega⟩ (hstep i σ x _ hI (fun σ' x' hI' H locs ls hM hl => ?_))
      refine lv_iinc (pc := 3015) (v := nI (i + 6)) (lv' := [(5, .int (nI (i + 6))), (0, .ref b), (1, .ref (g_ad G 60)), (2, .ref (g_ad G 87)), (3, .ref (g_ad G 106)), (4, .ref (g_ad G 107))]) hx hb dL_law_3015 hl (k := 5) rfl (nI_add i 6) (by decide) rfl (fun ls hl => ?_)
      refine lv_goto (pc := 3018) (tgt := 28) hx hb dL_law_3018 (by decide) ?_
      exact ih (i + 6) (by omega) hi σ' x' _ _ ls _ _ (by omega) (by omega) hI' hM (lv_sub hl [1, 2, 3, 4, 5, 0] rfl)
