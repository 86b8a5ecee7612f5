abbrev rm_J6_bitCount_0f7a4 : Room := { frames := 0, cells := 0, slots := 0, locals := 0 }
theorem dJ6_bitCount_0f7a4_0 : decode cJ6_bitCount_0f7a4 0 = .ok (.iload_n 0, 1) := by decide +kernel
theorem dJ6_bitCount_0f7a4_1 : decode cJ6_bitCount_0f7a4 1 = .ok (.iload_n 0, 1) := by decide +kernel
theorem dJ6_bitCount_0f7a4_2 : decode cJ6_bitCount_0f7a4 2 = .ok (.iconst 1, 1) := by decide +kernel
theorem dJ6_bitCount_0f7a4_3 : decode cJ6_bitCount_0f7a4 3 = .ok (.iushr, 1) := by decide +kernel
theorem dJ6_bitCount_0f7a4_4 : decode cJ6_bitCount_0f7a4 4 = .ok (.ldc_w 265, 3) := by decide +kernel
theorem dJ6_bitCount_0f7a4_7 : decode cJ6_bitCount_0f7a4 7 = .ok (.iand, 1) := by decide +kernel
theorem dJ6_bitCount_0f7a4_8 : decode cJ6_bitCount_0f7a4 8 = .ok (.isub, 1) := by decide +kernel
theorem dJ6_bitCount_0f7a4_9 : decode cJ6_bitCount_0f7a4 9 = .ok (.istore_n 0, 1) := by decide +kernel
theorem dJ6_bitCount_0f7a4_10 : decode cJ6_bitCount_0f7a4 10 = .ok (.iload_n 0, 1) := by decide +kernel
theorem dJ6_bitCount_0f7a4_11 : decode cJ6_bitCount_0f7a4 11 = .ok (.ldc_w 266, 3) := by decide +kernel
theorem dJ6_bitCount_0f7a4_14 : decode cJ6_bitCount_0f7a4 14 = .ok (.iand, 1) := by decide +kernel
theorem dJ6_bitCount_0f7a4_15 : decode cJ6_bitCount_0f7a4 15 = .ok (.iload_n 0, 1) := by decide +kernel
theorem dJ6_bitCount_0f7a4_16 : decode cJ6_bitCount_0f7a4 16 = .ok (.iconst 2, 1) := by decide +kernel
theorem dJ6_bitCount_0f7a4_17 : decode cJ6_bitCount_0f7a4 17 = .ok (.iushr, 1) := by decide +kernel
theorem dJ6_bitCount_0f7a4_18 : decode cJ6_bitCount_0f7a4 18 = .ok (.ldc_w 266, 3) := by decide +kernel
theorem dJ6_bitCount_0f7a4_21 : decode cJ6_bitCount_0f7a4 21 = .ok (.iand, 1) := by decide +kernel
theorem dJ6_bitCount_0f7a4_22 : decode cJ6_bitCount_0f7a4 22 = .ok (.iadd, 1) := by decide +kernel
theorem dJ6_bitCount_0f7a4_23 : decode cJ6_bitCount_0f7a4 23 = .ok (.istore_n 0, 1) := by decide +kernel
theorem dJ6_bitCount_0f7a4_24 : decode cJ6_bitCount_0f7a4 24 = .ok (.iload_n 0, 1) := by decide +kernel
theorem dJ6_bitCount_0f7a4_25 : decode cJ6_bitCount_0f7a4 25 = .ok (.iload_n 0, 1) := by decide +kernel
theorem dJ6_bitCount_0f7a4_26 : decode cJ6_bitCount_0f7a4 26 = .ok (.iconst 4, 1) := by decide +kernel
theorem dJ6_bitCount_0f7a4_27 : decode cJ6_bitCount_0f7a4 27 = .ok (.iushr, 1) := by decide +kernel
theorem dJ6_bitCount_0f7a4_28 : decode cJ6_bitCount_0f7a4 28 = .ok (.iadd, 1) := by decide +kernel
theorem dJ6_bitCount_0f7a4_29 : decode cJ6_bitCount_0f7a4 29 = .ok (.ldc_w 267, 3) := by decide +kernel
theorem dJ6_bitCount_0f7a4_32 : decode cJ6_bitCount_0f7a4 32 = .ok (.iand, 1) := by decide +kernel
theorem dJ6_bitCount_0f7a4_33 : decode cJ6_bitCount_0f7a4 33 = .ok (.istore_n 0, 1) := by decide +kernel
theorem dJ6_bitCount_0f7a4_34 : decode cJ6_bitCount_0f7a4 34 = .ok (.iload_n 0, 1) := by decide +kernel
theorem dJ6_bitCount_0f7a4_35 : decode cJ6_bitCount_0f7a4 35 = .ok (.iload_n 0, 1) := by decide +kernel
theorem dJ6_bitCount_0f7a4_36 : decode cJ6_bitCount_0f7a4 36 = .ok (.bipush 8, 2) := by decide +kernel
theorem dJ6_bitCount_0f7a4_38 : decode cJ6_bitCount_0f7a4 38 = .ok (.iushr, 1) := by decide +kernel
theorem dJ6_bitCount_0f7a4_39 : decode cJ6_bitCount_0f7a4 39 = .ok (.iadd, 1) := by decide +kernel
theorem dJ6_bitCount_0f7a4_40 : decode cJ6_bitCount_0f7a4 40 = .ok (.istore_n 0, 1) := by decide +kernel
theorem dJ6_bitCount_0f7a4_41 : decode cJ6_bitCount_0f7a4 41 = .ok (.iload_n 0, 1) := by decide +kernel
theorem dJ6_bitCount_0f7a4_42 : decode cJ6_bitCount_0f7a4 42 = .ok (.iload_n 0, 1) := by decide +kernel
theorem dJ6_bitCount_0f7a4_43 : decode cJ6_bitCount_0f7a4 43 = .ok (.bipush 16, 2) := by decide +kernel
theorem dJ6_bitCount_0f7a4_45 : decode cJ6_bitCount_0f7a4 45 = .ok (.iushr, 1) := by decide +kernel
theorem dJ6_bitCount_0f7a4_46 : decode cJ6_bitCount_0f7a4 46 = .ok (.iadd, 1) := by decide +kernel
theorem dJ6_bitCount_0f7a4_47 : decode cJ6_bitCount_0f7a4 47 = .ok (.istore_n 0, 1) := by decide +kernel
theorem dJ6_bitCount_0f7a4_48 : decode cJ6_bitCount_0f7a4 48 = .ok (.iload_n 0, 1) := by decide +kernel
theorem dJ6_bitCount_0f7a4_49 : decode cJ6_bitCount_0f7a4 49 = .ok (.bipush 63, 2) := by decide +kernel
theorem dJ6_bitCount_0f7a4_51 : decode cJ6_bitCount_0f7a4 51 = .ok (.iand, 1) := by decide +kernel
theorem dJ6_bitCount_0f7a4_52 : decode cJ6_bitCount_0f7a4 52 = .ok (.ireturn, 1) := by decide +kernel
set_option maxHeartbeats 4000000 in
set_option maxRecDepth 100000 in
theorem w_J6_bitCount_0f7a4 (l : Launch) (G : GP) (x : XP) (a0 : Int32) (σ : Sto) (P : Int32 → Sto → Prop) (h : D_J6_bitCount_0f7a4 a0 σ P) : g_Meti l yJ6_bitCount_0f7a4 cJ6_bitCount_0f7a4 1 (some .int) rm_J6_bitCount_0f7a4 G x [.int a0] σ P := by
  unfold D_J6_bitCount_0f7a4 at h
  refine g_ofWi (by decide +kernel) (Nat.le_of_ble_eq_true rfl) ?_
  intro p e s m args below meth c Q ls C hM hl hret
  have hx := C.1
  have hb := C.2.1
  have hl : lv_has ls 1 [(0, .int a0)] := hl
  refine lv_iload_n (pc := 0) hx hb dJ6_bitCount_0f7a4_0 rfl (lv_at hl 0 rfl) ?_
  refine lv_iload_n (pc := 1) hx hb dJ6_bitCount_0f7a4_1 rfl (lv_at hl 0 rfl) ?_
  refine lv_iconst (pc := 2) (v := 1) hx hb dJ6_bitCount_0f7a4_2 (by decide) ?_
  refine lv_iushr (pc := 3) hx hb dJ6_bitCount_0f7a4_3 rfl ?_
  refine lv_ldcw (pc := 4) (v := 1431655765) hx hb C.2.2.2.1 (C.2.2.2.2.1 _ q4_134) dJ6_bitCount_0f7a4_4 ?_
  refine lv_iand (pc := 7) hx hb dJ6_bitCount_0f7a4_7 ?_
  refine lv_isub (pc := 8) hx hb dJ6_bitCount_0f7a4_8 ?_
  refine lv_topi (fun v0_9 ev0_9 => ?_)
  have h := h v0_9 ev0_9
  refine lv_istore_n (pc := 9) (lv' := [(0, .int v0_9)]) hx hb dJ6_bitCount_0f7a4_9 rfl hl (by decide) rfl (fun ls hl => ?_)
  refine lv_iload_n (pc := 10) hx hb dJ6_bitCount_0f7a4_10 rfl (lv_at hl 0 rfl) ?_
  refine lv_ldcw (pc := 11) (v := 858993459) hx hb C.2.2.2.1 (C.2.2.2.2.1 _ q4_135) dJ6_bitCount_0f7a4_11 ?_
  refine lv_iand (pc := 14) hx hb dJ6_bitCount_0f7a4_14 ?_
  refine lv_iload_n (pc := 15) hx hb dJ6_bitCount_0f7a4_15 rfl (lv_at hl 0 rfl) ?_
  refine lv_iconst (pc := 16) (v := 2) hx hb dJ6_bitCount_0f7a4_16 (by decide) ?_
  refine lv_iushr (pc := 17) hx hb dJ6_bitCount_0f7a4_17 rfl ?_
  refine lv_ldcw (pc := 18) (v := 858993459) hx hb C.2.2.2.1 (C.2.2.2.2.1 _ q4_135) dJ6_bitCount_0f7a4_18 ?_
  refine lv_iand (pc := 21) hx hb dJ6_bitCount_0f7a4_21 ?_
  refine lv_iadd (pc := 22) hx hb dJ6_bitCount_0f7a4_22 ?_
  refine lv_topi (fun v0_23 ev0_23 => ?_)
  have h := h v0_23 ev0_23
  refine lv_istore_n (pc := 23) (lv' := [(0, .int v0_23)]) hx hb dJ6_bitCount_0f7a4_23 rfl hl (by decide) rfl (fun ls hl => ?_)
  refine lv_iload_n (pc := 24) hx hb dJ6_bitCount_0f7a4_24 rfl (lv_at hl 0 rfl) ?_
  refine lv_iload_n (pc := 25) hx hb dJ6_bitCount_0f7a4_25 rfl (lv_at hl 0 rfl) ?_
  refine lv_iconst (pc := 26) (v := 4) hx hb dJ6_bitCount_0f7a4_26 (by decide) ?_
  refine lv_iushr (pc := 27) hx hb dJ6_bitCount_0f7a4_27 rfl ?_
  refine lv_iadd (pc := 28) hx hb dJ6_bitCount_0f7a4_28 ?_
  refine lv_ldcw (pc := 29) (v := 252645135) hx hb C.2.2.2.1 (C.2.2.2.2.1 _ q4_136) dJ6_bitCount_0f7a4_29 ?_
  refine lv_iand (pc := 32) hx hb dJ6_bitCount_0f7a4_32 ?_
  refine lv_topi (fun v0_33 ev0_33 => ?_)
  have h := h v0_33 ev0_33
  refine lv_istore_n (pc := 33) (lv' := [(0, .int v0_33)]) hx hb dJ6_bitCount_0f7a4_33 rfl hl (by decide) rfl (fun ls hl => ?_)
  refine lv_iload_n (pc := 34) hx hb dJ6_bitCount_0f7a4_34 rfl (lv_at hl 0 rfl) ?_
  refine lv_iload_n (pc := 35) hx hb dJ6_bitCount_0f7a4_35 rfl (lv_at hl 0 rfl) ?_
  refine lv_bipush (pc := 36) (v := 8) hx hb dJ6_bitCount_0f7a4_36 (by decide) ?_
  refine lv_iushr (pc := 38) hx hb dJ6_bitCount_0f7a4_38 rfl ?_
  refine lv_iadd (pc := 39) hx hb dJ6_bitCount_0f7a4_39 ?_
  refine lv_topi (fun v0_40 ev0_40 => ?_)
  have h := h v0_40 ev0_40
  refine lv_istore_n (pc := 40) (lv' := [(0, .int v0_40)]) hx hb dJ6_bitCount_0f7a4_40 rfl hl (by decide) rfl (fun ls hl => ?_)
  refine lv_iload_n (pc := 41) hx hb dJ6_bitCount_0f7a4_41 rfl (lv_at hl 0 rfl) ?_
  refine lv_iload_n (pc := 42) hx hb dJ6_bitCount_0f7a4_42 rfl (lv_at hl 0 rfl) ?_
  refine lv_bipush (pc := 43) (v := 16) hx hb dJ6_bitCount_0f7a4_43 (by decide) ?_
  refine lv_iushr (pc := 45) hx hb dJ6_bitCount_0f7a4_45 rfl ?_
  refine lv_iadd (pc := 46) hx hb dJ6_bitCount_0f7a4_46 ?_
  refine lv_topi (fun v0_47 ev0_47 => ?_)
  have h := h v0_47 ev0_47
  refine lv_istore_n (pc := 47) (lv' := [(0, .int v0_47)]) hx hb dJ6_bitCount_0f7a4_47 rfl hl (by decide) rfl (fun ls hl => ?_)
  refine lv_iload_n (pc := 48) hx hb dJ6_bitCount_0f7a4_48 rfl (lv_at hl 0 rfl) ?_
  refine lv_bipush (pc := 49) (v := 63) hx hb dJ6_bitCount_0f7a4_49 (by decide) ?_
  refine lv_iand (pc := 51) hx hb dJ6_bitCount_0f7a4_51 ?_
  exact hret 52 _ _ _ _ _ dJ6_bitCount_0f7a4_52 (by rfl) h hM
abbrev rm_X3_forgetOldest : Room := { frames := 0, cells := 0, slots := 0, locals := 0 }
theorem dX3_forgetOldest_0 : decode cX3_forgetOldest 0 = .ok (.aload_n 0, 1) := by decide +kernel
theorem dX3_forgetOldest_1 : decode cX3_forgetOldest 1 = .ok (.getfield 11, 3) := by decide +kernel
theorem dX3_forgetOldest_4 : decode cX3_forgetOldest 4 = .ok (.iconst 0, 1) := by decide +kernel
theorem dX3_forgetOldest_5 : decode cX3_forgetOldest 5 = .ok (.aaload, 1) := by decide +kernel
theorem dX3_forgetOldest_6 : decode cX3_forgetOldest 6 = .ok (.astore_n 1, 1) := by decide +kernel
theorem dX3_forgetOldest_7 : decode cX3_forgetOldest 7 = .ok (.iconst 1, 1) := by decide +kernel
theorem dX3_forgetOldest_8 : decode cX3_forgetOldest 8 = .ok (.istore_n 2, 1) := by decide +kernel
theorem dX3_forgetOldest_9 : decode cX3_forgetOldest 9 = .ok (.iload_n 2, 1) := by decide +kernel
theorem dX3_forgetOldest_10 : decode cX3_forgetOldest 10 = .ok (.bipush 8, 2) := by decide +kernel
theorem dX3_forgetOldest_12 : decode cX3_forgetOldest 12 = .ok (.if_icmp .ge 23, 3) := by decide +kernel
theorem dX3_forgetOldest_15 : decode cX3_forgetOldest 15 = .ok (.aload_n 0, 1) := by decide +kernel
theorem dX3_forgetOldest_16 : decode cX3_forgetOldest 16 = .ok (.getfield 11, 3) := by decide +kernel
theorem dX3_forgetOldest_19 : decode cX3_forgetOldest 19 = .ok (.iload_n 2, 1) := by decide +kernel
theorem dX3_forgetOldest_20 : decode cX3_forgetOldest 20 = .ok (.iconst 1, 1) := by decide +kernel
theorem dX3_forgetOldest_21 : decode cX3_forgetOldest 21 = .ok (.isub, 1) := by decide +kernel
theorem dX3_forgetOldest_22 : decode cX3_forgetOldest 22 = .ok (.aload_n 0, 1) := by decide +kernel
theorem dX3_forgetOldest_23 : decode cX3_forgetOldest 23 = .ok (.getfield 11, 3) := by decide +kernel
theorem dX3_forgetOldest_26 : decode cX3_forgetOldest 26 = .ok (.iload_n 2, 1) := by decide +kernel
theorem dX3_forgetOldest_27 : decode cX3_forgetOldest 27 = .ok (.aaload, 1) := by decide +kernel
theorem dX3_forgetOldest_28 : decode cX3_forgetOldest 28 = .ok (.aastore, 1) := by decide +kernel
theorem dX3_forgetOldest_29 : decode cX3_forgetOldest 29 = .ok (.iinc 2 1, 3) := by decide +kernel
theorem dX3_forgetOldest_32 : decode cX3_forgetOldest 32 = .ok (.goto (-23), 3) := by decide +kernel
theorem dX3_forgetOldest_35 : decode cX3_forgetOldest 35 = .ok (.aload_n 0, 1) := by decide +kernel
theorem dX3_forgetOldest_36 : decode cX3_forgetOldest 36 = .ok (.getfield 11, 3) := by decide +kernel
theorem dX3_forgetOldest_39 : decode cX3_forgetOldest 39 = .ok (.bipush 7, 2) := by decide +kernel
theorem dX3_forgetOldest_41 : decode cX3_forgetOldest 41 = .ok (.aload_n 1, 1) := by decide +kernel
theorem dX3_forgetOldest_42 : decode cX3_forgetOldest 42 = .ok (.aastore, 1) := by decide +kernel
theorem dX3_forgetOldest_43 : decode cX3_forgetOldest 43 = .ok (.aload_n 0, 1) := by decide +kernel
theorem dX3_forgetOldest_44 : decode cX3_forgetOldest 44 = .ok (.bipush 7, 2) := by decide +kernel
theorem dX3_forgetOldest_46 : decode cX3_forgetOldest 46 = .ok (.putfield 18, 3) := by decide +kernel
theorem dX3_forgetOldest_49 : decode cX3_forgetOldest 49 = .ok (.return_, 1) := by decide +kernel
set_option maxHeartbeats 4000000 in
set_option maxRecDepth 100000 in
theorem w_X3_forgetOldest (l : Launch) (G : GP) (x : XP) (σ : Sto) (P : Sto → Prop) (h : D_X3_forgetOldest  σ P) : g_Metv l yX3_forgetOldest cX3_forgetOldest 3 rm_X3_forgetOldest G x [.ref (g_ad G 63)] σ P := by
  unfold D_X3_forgetOldest at h
  refine g_ofWv (by decide +kernel) (Nat.le_of_ble_eq_true rfl) ?_
  intro p e s m args below meth c Q ls C hM hl hret
  have hx := C.1
  have hb := C.2.1
  have hl : lv_has ls 3 [(0, .ref (g_ad G 63))] := hl
  have h := h (fun (v2 : Int32) (w1 : Nat) (σ : Sto) => isSt w1 → ∀ (H : Heap) (locs : List Loc) (ls : Array Slot), g_M G x σ s H locs → lv_has ls 3 [(0, .ref (g_ad G 63)), (1, .ref (g_ad G w1)), (2, .int v2)] → W p l e rm_X3_forgetOldest s m args below meth c H locs 0 0 Q (F0 m 9 ls []))
  have h := h (by
    intro v2 w1 σ h hw1 H locs ls hM hl
    refine lv_iload_n (pc := 9) hx hb dX3_forgetOldest_9 rfl (lv_at hl 2 rfl) ?_
    refine lv_bipush (pc := 10) (v := 8) hx hb dX3_forgetOldest_10 (by decide) ?_
    refine lv_icmp_ge (pc := 12) (tgt := 35) hx hb dX3_forgetOldest_12 (by decide) (fun c12 => ?_) (fun c12 => ?_)
    · have h := h.1 c12
      refine lv_aload_n (pc := 35) hx hb dX3_forgetOldest_35 rfl (lv_at hl 0 rfl) ?_
      refine g_get (pc := 36) (v := .ref (g_ad G 64)) C hM (by decide) ce_63 fl_RX3_11 rfl dX3_forgetOldest_36 ?_
      refine lv_bipush (pc := 39) (v := 7) hx hb dX3_forgetOldest_39 (by decide) ?_
      refine lv_aload_n (pc := 41) hx hb dX3_forgetOldest_41 rfl (lv_at hl 1 rfl) ?_
      refine g_aastE (pc := 42) (k := 7) hw1 C hM (vp_in_nI (n := 7) (by decide) (by decide)) rfl dX3_forgetOldest_42 (fun s42 es42 H locs hM => ?_)
      have h := h s42 es42
      refine lv_aload_n (pc := 43) hx hb dX3_forgetOldest_43 rfl (lv_at hl 0 rfl) ?_
      refine lv_bipush (pc := 44) (v := 7) hx hb dX3_forgetOldest_44 (by decide) ?_
      refine g_putE (pc := 46) C hM (by decide) ce_63 fp_RX3_18 rfl rfl (Nat.le_of_ble_eq_true rfl) rfl dX3_forgetOldest_46 (fun s46 es46 H locs hM => ?_)
      have h := h s46 es46
      exact hret 49 _ _ _ _ dX3_forgetOldest_49 h hM
    · have h := h.2 c12
      refine lv_aload_n (pc := 15) hx hb dX3_forgetOldest_15 rfl (lv_at hl 0 rfl) ?_
      refine g_get (pc := 16) (v := .ref (g_ad G 64)) C hM (by decide) ce_63 fl_RX3_11 rfl dX3_forgetOldest_16 ?_
      refine lv_iload_n (pc := 19) hx hb dX3_forgetOldest_19 rfl (lv_at hl 2 rfl) ?_
      refine lv_iconst (pc := 20) (v := 1) hx hb dX3_forgetOldest_20 (by decide) ?_
      refine lv_isub (pc := 21) hx hb dX3_forgetOldest_21 ?_
      refine lv_aload_n (pc := 22) hx hb dX3_forgetOldest_22 rfl (lv_at hl 0 rfl) ?_
      refine g_get (pc := 23) (v := .ref (g_ad G 64)) C hM (by decide) ce_63 fl_RX3_11 rfl dX3_forgetOldest_23 ?_
      refine lv_iload_n (pc := 26) hx hb dX3_forgetOldest_26 rfl (lv_at hl 2 rfl) ?_
      obtain ⟨hc, h⟩ := h
      refine g_aaldE (pc := 27) C hM hc rfl dX3_forgetOldest_27 (fun o27_ eo27_ => ?_)
      obtain ⟨ho27_, h⟩ := h o27_ eo27_
      obtain ⟨hc, h⟩ := h
      refine g_aastE (pc := 28) ho27_ C hM hc rfl dX3_forgetOldest_28 (fun s28 es28 H locs hM => ?_)
      have h := h s28 es28
      refine lv_iinc (pc := 29) (v := (v2 + 1)) (lv' := [(2, .int (v2 + 1)), (0, .ref (g_ad G 63)), (1, .ref (g_ad G w1))]) hx hb dX3_forgetOldest_29 hl (k := 2) rfl (by rfl) (by decide) rfl (fun ls hl => ?_)
      refine lv_goto (pc := 32) (tgt := 9) hx hb dX3_forgetOldest_32 (by decide) ?_
      exact h hw1 _ _ _ hM (lv_sub hl [1, 2, 0] rfl))
  refine lv_aload_n (pc := 0) hx hb dX3_forgetOldest_0 rfl (lv_at hl 0 rfl) ?_
  refine g_get (pc := 1) (v := .ref (g_ad G 64)) C hM (by decide) ce_63 fl_RX3_11 rfl dX3_forgetOldest_1 ?_
  refine lv_iconst (pc := 4) (v := 0) hx hb dX3_forgetOldest_4 (by decide) ?_
  refine g_aaldE (pc := 5) (k := 0) C hM (vp_in_nI (n := 0) (by decide) (by decide)) rfl dX3_forgetOldest_5 (fun o5_ eo5_ => ?_)
  obtain ⟨ho5_, h⟩ := h o5_ eo5_
  refine lv_astore_n (pc := 6) (lv' := [(1, .ref (g_ad G o5_)), (0, .ref (g_ad G 63))]) hx hb dX3_forgetOldest_6 rfl hl (by decide) rfl (fun ls hl => ?_)
  refine lv_iconst (pc := 7) (v := 1) hx hb dX3_forgetOldest_7 (by decide) ?_
  refine lv_istore_n (pc := 8) (lv' := [(2, .int 1), (1, .ref (g_ad G o5_)), (0, .ref (g_ad G 63))]) hx hb dX3_forgetOldest_8 rfl hl (by decide) rfl (fun ls hl => ?_)
  exact h ho5_ _ _ _ hM (lv_sub hl [2, 1, 0] rfl)
abbrev rm_X6_copyFrom : Room := { frames := 1, cells := 0, slots := 0, locals := 40 }
theorem dX6_copyFrom_0 : decode cX6_copyFrom 0 = .ok (.aload_n 1, 1) := by decide +kernel
theorem dX6_copyFrom_1 : decode cX6_copyFrom 1 = .ok (.getfield 9, 3) := by decide +kernel
theorem dX6_copyFrom_4 : decode cX6_copyFrom 4 = .ok (.iconst 0, 1) := by decide +kernel
theorem dX6_copyFrom_5 : decode cX6_copyFrom 5 = .ok (.aload_n 0, 1) := by decide +kernel
theorem dX6_copyFrom_6 : decode cX6_copyFrom 6 = .ok (.getfield 9, 3) := by decide +kernel
theorem dX6_copyFrom_9 : decode cX6_copyFrom 9 = .ok (.iconst 0, 1) := by decide +kernel
theorem dX6_copyFrom_10 : decode cX6_copyFrom 10 = .ok (.aload_n 1, 1) := by decide +kernel
theorem dX6_copyFrom_11 : decode cX6_copyFrom 11 = .ok (.getfield 24, 3) := by decide +kernel
theorem dX6_copyFrom_14 : decode cX6_copyFrom 14 = .ok (.bipush 16, 2) := by decide +kernel
theorem dX6_copyFrom_16 : decode cX6_copyFrom 16 = .ok (.imul, 1) := by decide +kernel
theorem dX6_copyFrom_17 : decode cX6_copyFrom 17 = .ok (.invokestatic 31, 3) := by decide +kernel
theorem dX6_copyFrom_20 : decode cX6_copyFrom 20 = .ok (.aload_n 0, 1) := by decide +kernel
theorem dX6_copyFrom_21 : decode cX6_copyFrom 21 = .ok (.aload_n 1, 1) := by decide +kernel
theorem dX6_copyFrom_22 : decode cX6_copyFrom 22 = .ok (.getfield 24, 3) := by decide +kernel
theorem dX6_copyFrom_25 : decode cX6_copyFrom 25 = .ok (.putfield 24, 3) := by decide +kernel
theorem dX6_copyFrom_28 : decode cX6_copyFrom 28 = .ok (.return_, 1) := by decide +kernel
set_option maxHeartbeats 4000000 in
set_option maxRecDepth 100000 in
theorem w_X6_copyFrom (l : Launch) (G : GP) (x : XP) (o0 : Nat) (o1 : Nat) (σ : Sto) (P : Sto → Prop) (h : D_X6_copyFrom o0 o1 σ P) : g_Metv l yX6_copyFrom cX6_copyFrom 2 rm_X6_copyFrom G x [.ref (g_ad G o0), .ref (g_ad G o1)] σ P := by
  unfold D_X6_copyFrom at h
  obtain ⟨ho0, h⟩ := h
  obtain ⟨ho1, h⟩ := h
  refine g_ofWv (by decide +kernel) (Nat.le_of_ble_eq_true rfl) ?_
  intro p e s m args below meth c Q ls C hM hl hret
  have hx := C.1
  have hb := C.2.1
  have hl : lv_has ls 2 [(0, .ref (g_ad G o0)), (1, .ref (g_ad G o1))] := hl
  refine lv_aload_n (pc := 0) hx hb dX6_copyFrom_0 rfl (lv_at hl 1 rfl) ?_
  refine g_get (pc := 1) (v := .ref (g_ad G (o1 + 1))) C hM (ru_lt ho1) (ce_ru ho1) fl_RX6_9 rfl dX6_copyFrom_1 ?_
  refine lv_iconst (pc := 4) (v := 0) hx hb dX6_copyFrom_4 (by decide) ?_
  refine lv_aload_n (pc := 5) hx hb dX6_copyFrom_5 rfl (lv_at hl 0 rfl) ?_
  refine g_get (pc := 6) (v := .ref (g_ad G (o0 + 1))) C hM (ru_lt ho0) (ce_ru ho0) fl_RX6_9 rfl dX6_copyFrom_6 ?_
  refine lv_iconst (pc := 9) (v := 0) hx hb dX6_copyFrom_9 (by decide) ?_
  refine lv_aload_n (pc := 10) hx hb dX6_copyFrom_10 rfl (lv_at hl 1 rfl) ?_
  refine g_get (pc := 11) (v := .int (σ o1 1)) C hM (ru_lt ho1) (ce_ru ho1) fl_RX6_24 rfl dX6_copyFrom_11 ?_
  refine lv_bipush (pc := 14) (v := 16) hx hb dX6_copyFrom_14 (by decide) ?_
  refine lv_imul (pc := 16) hx hb dX6_copyFrom_16 ?_
  obtain ⟨hc, h⟩ := h
  refine g_copyE (pc := 17) C hM hl.1 q2_94 ⟨q2_96, q2_95, q1_22⟩ (rc_lt ho1) (rc_lt ho0) (ce_rc ho1) (ce_rc ho0) hc ⟨Nat.le_of_ble_eq_true rfl, Nat.le_of_ble_eq_true rfl⟩ dX6_copyFrom_17 (fun s17 es17 H locs hM => ?_)
  have h := h s17 es17
  refine lv_aload_n (pc := 20) hx hb dX6_copyFrom_20 rfl (lv_at hl 0 rfl) ?_
  refine lv_aload_n (pc := 21) hx hb dX6_copyFrom_21 rfl (lv_at hl 1 rfl) ?_
  refine g_get (pc := 22) (v := .int (s17 o1 1)) C hM (ru_lt ho1) (ce_ru ho1) fl_RX6_24 rfl dX6_copyFrom_22 ?_
  refine g_putE (pc := 25) C hM (ru_lt ho0) (ce_ru ho0) fp_RX6_24 rfl rfl (Nat.le_of_ble_eq_true rfl) rfl dX6_copyFrom_25 (fun s25 es25 H locs hM => ?_)
  have h := h s25 es25
  exact hret 28 _ _ _ _ dX6_copyFrom_28 h hM
abbrev rm_X2_copyFrom : Room := { frames := 1, cells := 0, slots := 0, locals := 40 }
theorem dX2_copyFrom_0 : decode cX2_copyFrom 0 = .ok (.aload_n 1, 1) := by decide +kernel
theorem dX2_copyFrom_1 : decode cX2_copyFrom 1 = .ok (.getfield 9, 3) := by decide +kernel
theorem dX2_copyFrom_4 : decode cX2_copyFrom 4 = .ok (.iconst 0, 1) := by decide +kernel
theorem dX2_copyFrom_5 : decode cX2_copyFrom 5 = .ok (.aload_n 0, 1) := by decide +kernel
theorem dX2_copyFrom_6 : decode cX2_copyFrom 6 = .ok (.getfield 9, 3) := by decide +kernel
theorem dX2_copyFrom_9 : decode cX2_copyFrom 9 = .ok (.iconst 0, 1) := by decide +kernel
theorem dX2_copyFrom_10 : decode cX2_copyFrom 10 = .ok (.aload_n 1, 1) := by decide +kernel
theorem dX2_copyFrom_11 : decode cX2_copyFrom 11 = .ok (.getfield 15, 3) := by decide +kernel
theorem dX2_copyFrom_14 : decode cX2_copyFrom 14 = .ok (.iconst 5, 1) := by decide +kernel
theorem dX2_copyFrom_15 : decode cX2_copyFrom 15 = .ok (.imul, 1) := by decide +kernel
theorem dX2_copyFrom_16 : decode cX2_copyFrom 16 = .ok (.invokestatic 27, 3) := by decide +kernel
theorem dX2_copyFrom_19 : decode cX2_copyFrom 19 = .ok (.aload_n 0, 1) := by decide +kernel
theorem dX2_copyFrom_20 : decode cX2_copyFrom 20 = .ok (.aload_n 1, 1) := by decide +kernel
theorem dX2_copyFrom_21 : decode cX2_copyFrom 21 = .ok (.getfield 15, 3) := by decide +kernel
theorem dX2_copyFrom_24 : decode cX2_copyFrom 24 = .ok (.putfield 15, 3) := by decide +kernel
theorem dX2_copyFrom_27 : decode cX2_copyFrom 27 = .ok (.return_, 1) := by decide +kernel
set_option maxHeartbeats 4000000 in
set_option maxRecDepth 100000 in
theorem w_X2_copyFrom (l : Launch) (G : GP) (x : XP) (o0 : Nat) (o1 : Nat) (σ : Sto) (P : Sto → Prop) (h : D_X2_copyFrom o0 o1 σ P) : g_Metv l yX2_copyFrom cX2_copyFrom 2 rm_X2_copyFrom G x [.ref (g_ad G o0), .ref (g_ad G o1)] σ P := by
  unfold D_X2_copyFrom at h
  obtain ⟨ho0, h⟩ := h
  obtain ⟨ho1, h⟩ := h
  refine g_ofWv (by decide +kernel) (Nat.le_of_ble_eq_true rfl) ?_
  intro p e s m args below meth c Q ls C hM hl hret
  have hx := C.1
  have hb := C.2.1
  have hl : lv_has ls 2 [(0, .ref (g_ad G o0)), (1, .ref (g_ad G o1))] := hl
  refine lv_aload_n (pc := 0) hx hb dX2_copyFrom_0 rfl (lv_at hl 1 rfl) ?_
  refine g_get (pc := 1) (v := .ref (g_ad G (o1 + 1))) C hM (gr_lt ho1) (ce_gr ho1) fl_RX2_9 rfl dX2_copyFrom_1 ?_
  refine lv_iconst (pc := 4) (v := 0) hx hb dX2_copyFrom_4 (by decide) ?_
  refine lv_aload_n (pc := 5) hx hb dX2_copyFrom_5 rfl (lv_at hl 0 rfl) ?_
  refine g_get (pc := 6) (v := .ref (g_ad G (o0 + 1))) C hM (gr_lt ho0) (ce_gr ho0) fl_RX2_9 rfl dX2_copyFrom_6 ?_
  refine lv_iconst (pc := 9) (v := 0) hx hb dX2_copyFrom_9 (by decide) ?_
  refine lv_aload_n (pc := 10) hx hb dX2_copyFrom_10 rfl (lv_at hl 1 rfl) ?_
  refine g_get (pc := 11) (v := .int (σ o1 1)) C hM (gr_lt ho1) (ce_gr ho1) fl_RX2_15 rfl dX2_copyFrom_11 ?_
  refine lv_iconst (pc := 14) (v := 5) hx hb dX2_copyFrom_14 (by decide) ?_
  refine lv_imul (pc := 15) hx hb dX2_copyFrom_15 ?_
  obtain ⟨hc, h⟩ := h
  refine g_copyE (pc := 16) C hM hl.1 q2_101 ⟨q2_96, q2_95, q1_22⟩ (gc_lt ho1) (gc_lt ho0) (ce_gc ho1) (ce_gc ho0) hc ⟨Nat.le_of_ble_eq_true rfl, Nat.le_of_ble_eq_true rfl⟩ dX2_copyFrom_16 (fun s16 es16 H locs hM => ?_)
  have h := h s16 es16
  refine lv_aload_n (pc := 19) hx hb dX2_copyFrom_19 rfl (lv_at hl 0 rfl) ?_
  refine lv_aload_n (pc := 20) hx hb dX2_copyFrom_20 rfl (lv_at hl 1 rfl) ?_
  refine g_get (pc := 21) (v := .int (s16 o1 1)) C hM (gr_lt ho1) (ce_gr ho1) fl_RX2_15 rfl dX2_copyFrom_21 ?_
  refine g_putE (pc := 24) C hM (gr_lt ho0) (ce_gr ho0) fp_RX2_15 rfl rfl (Nat.le_of_ble_eq_true rfl) rfl dX2_copyFrom_24 (fun s24 es24 H locs hM => ?_)
  have h := h s24 es24
  exact hret 27 _ _ _ _ dX2_copyFrom_27 h hM
abbrev rm_X8_copyFrom : Room := { frames := 2, cells := 0, slots := 0, locals := 61 }
theorem dX8_copyFrom_0 : decode cX8_copyFrom 0 = .ok (.aload_n 0, 1) := by decide +kernel
theorem dX8_copyFrom_1 : decode cX8_copyFrom 1 = .ok (.getfield 12, 3) := by decide +kernel
theorem dX8_copyFrom_4 : decode cX8_copyFrom 4 = .ok (.aload_n 1, 1) := by decide +kernel
theorem dX8_copyFrom_5 : decode cX8_copyFrom 5 = .ok (.getfield 12, 3) := by decide +kernel
theorem dX8_copyFrom_8 : decode cX8_copyFrom 8 = .ok (.invokevirtual 29, 3) := by decide +kernel
theorem dX8_copyFrom_11 : decode cX8_copyFrom 11 = .ok (.aload_n 0, 1) := by decide +kernel
theorem dX8_copyFrom_12 : decode cX8_copyFrom 12 = .ok (.getfield 21, 3) := by decide +kernel
theorem dX8_copyFrom_15 : decode cX8_copyFrom 15 = .ok (.aload_n 1, 1) := by decide +kernel
theorem dX8_copyFrom_16 : decode cX8_copyFrom 16 = .ok (.getfield 21, 3) := by decide +kernel
theorem dX8_copyFrom_19 : decode cX8_copyFrom 19 = .ok (.invokevirtual 33, 3) := by decide +kernel
theorem dX8_copyFrom_22 : decode cX8_copyFrom 22 = .ok (.aload_n 1, 1) := by decide +kernel
theorem dX8_copyFrom_23 : decode cX8_copyFrom 23 = .ok (.getfield 25, 3) := by decide +kernel
theorem dX8_copyFrom_26 : decode cX8_copyFrom 26 = .ok (.iconst 0, 1) := by decide +kernel
theorem dX8_copyFrom_27 : decode cX8_copyFrom 27 = .ok (.aload_n 0, 1) := by decide +kernel
theorem dX8_copyFrom_28 : decode cX8_copyFrom 28 = .ok (.getfield 25, 3) := by decide +kernel
theorem dX8_copyFrom_31 : decode cX8_copyFrom 31 = .ok (.iconst 0, 1) := by decide +kernel
theorem dX8_copyFrom_32 : decode cX8_copyFrom 32 = .ok (.iconst 4, 1) := by decide +kernel
theorem dX8_copyFrom_33 : decode cX8_copyFrom 33 = .ok (.invokestatic 36, 3) := by decide +kernel
theorem dX8_copyFrom_36 : decode cX8_copyFrom 36 = .ok (.aload_n 0, 1) := by decide +kernel
theorem dX8_copyFrom_37 : decode cX8_copyFrom 37 = .ok (.aload_n 1, 1) := by decide +kernel
theorem dX8_copyFrom_38 : decode cX8_copyFrom 38 = .ok (.getfield 42, 3) := by decide +kernel
theorem dX8_copyFrom_41 : decode cX8_copyFrom 41 = .ok (.putfield 42, 3) := by decide +kernel
theorem dX8_copyFrom_44 : decode cX8_copyFrom 44 = .ok (.return_, 1) := by decide +kernel
set_option maxHeartbeats 4000000 in
set_option maxRecDepth 100000 in
theorem w_X8_copyFrom (l : Launch) (G : GP) (x : XP) (o0 : Nat) (o1 : Nat) (σ : Sto) (P : Sto → Prop) (h : D_X8_copyFrom o0 o1 σ P) : g_Metv l yX8_copyFrom cX8_copyFrom 2 rm_X8_copyFrom G x [.ref (g_ad G o0), .ref (g_ad G o1)] σ P := by
  unfold D_X8_copyFrom at h
  obtain ⟨ho0, h⟩ := h
  obtain ⟨ho1, h⟩ := h
  refine g_ofWv (by decide +kernel) (Nat.le_of_ble_eq_true rfl) ?_
  intro p e s m args below meth c Q ls C hM hl hret
  have hx := C.1
  have hb := C.2.1
  have hl : lv_has ls 2 [(0, .ref (g_ad G o0)), (1, .ref (g_ad G o1))] := hl
  refine lv_aload_n (pc := 0) hx hb dX8_copyFrom_0 rfl (lv_at hl 0 rfl) ?_
  refine g_get (pc := 1) (v := .ref (g_ad G (o0 + 1))) C hM (st_lt ho0) (ce_st ho0) fl_RX8_12 rfl dX8_copyFrom_1 ?_
  refine lv_aload_n (pc := 4) hx hb dX8_copyFrom_4 rfl (lv_at hl 1 rfl) ?_
  refine g_get (pc := 5) (v := .ref (g_ad G (o1 + 1))) C hM (st_lt ho1) (ce_st ho1) fl_RX8_12 rfl dX8_copyFrom_5 ?_
  refine g_cVv (pc := 8) C hM hl.1 yv_X6_copyFrom q2_90 (st_ru_lt ho0) (ce_st_ru ho0) rfl (w_X6_copyFrom l G x (o0 + 1) (o1 + 1) σ _ h) rfl rfl ⟨⟨by decide, by decide⟩, by decide, by decide⟩ (Nat.le_of_ble_eq_true rfl) dX8_copyFrom_8 (fun s8 H locs h hM => ?_)
  refine lv_aload_n (pc := 11) hx hb dX8_copyFrom_11 rfl (lv_at hl 0 rfl) ?_
  refine g_get (pc := 12) (v := .ref (g_ad G (o0 + 3))) C hM (st_lt ho0) (ce_st ho0) fl_RX8_21 rfl dX8_copyFrom_12 ?_
  refine lv_aload_n (pc := 15) hx hb dX8_copyFrom_15 rfl (lv_at hl 1 rfl) ?_
  refine g_get (pc := 16) (v := .ref (g_ad G (o1 + 3))) C hM (st_lt ho1) (ce_st ho1) fl_RX8_21 rfl dX8_copyFrom_16 ?_
  refine g_cVv (pc := 19) C hM hl.1 yv_X2_copyFrom q2_97 (st_gr_lt ho0) (ce_st_gr ho0) rfl (w_X2_copyFrom l G x (o0 + 3) (o1 + 3) s8 _ h) rfl rfl ⟨⟨by decide, by decide⟩, by decide, by decide⟩ (Nat.le_of_ble_eq_true rfl) dX8_copyFrom_19 (fun s19 H locs h hM => ?_)
  refine lv_aload_n (pc := 22) hx hb dX8_copyFrom_22 rfl (lv_at hl 1 rfl) ?_
  refine g_get (pc := 23) (v := .ref (g_ad G (o1 + 5))) C hM (st_lt ho1) (ce_st ho1) fl_RX8_25 rfl dX8_copyFrom_23 ?_
  refine lv_iconst (pc := 26) (v := 0) hx hb dX8_copyFrom_26 (by decide) ?_
  refine lv_aload_n (pc := 27) hx hb dX8_copyFrom_27 rfl (lv_at hl 0 rfl) ?_
  refine g_get (pc := 28) (v := .ref (g_ad G (o0 + 5))) C hM (st_lt ho0) (ce_st ho0) fl_RX8_25 rfl dX8_copyFrom_28 ?_
  refine lv_iconst (pc := 31) (v := 0) hx hb dX8_copyFrom_31 (by decide) ?_
  refine lv_iconst (pc := 32) (v := 4) hx hb dX8_copyFrom_32 (by decide) ?_
  obtain ⟨hc, h⟩ := h
  refine g_copyE (pc := 33) C hM hl.1 q2_102 ⟨q2_96, q2_95, q1_22⟩ (wy_lt ho1) (wy_lt ho0) (ce_wy ho1) (ce_wy ho0) hc ⟨Nat.le_of_ble_eq_true rfl, Nat.le_of_ble_eq_true rfl⟩ dX8_copyFrom_33 (fun s33 es33 H locs hM => ?_)
  have h := h s33 es33
  refine lv_aload_n (pc := 36) hx hb dX8_copyFrom_36 rfl (lv_at hl 0 rfl) ?_
  refine lv_aload_n (pc := 37) hx hb dX8_copyFrom_37 rfl (lv_at hl 1 rfl) ?_
  refine g_get (pc := 38) (v := .int (s33 o1 3)) C hM (st_lt ho1) (ce_st ho1) fl_RX8_42 rfl dX8_copyFrom_38 ?_
  refine g_putE (pc := 41) C hM (st_lt ho0) (ce_st ho0) fp_RX8_42 rfl rfl (Nat.le_of_ble_eq_true rfl) rfl dX8_copyFrom_41 (fun s41 es41 H locs hM => ?_)
  have h := h s41 es41
  exact hret 44 _ _ _ _ dX8_copyFrom_44 h hM
abbrev rm_X3_keep : Room := { frames := 3, cells := 0, slots := 0, locals := 82 }
theorem dX3_keep_0 : decode cX3_keep 0 = .ok (.aload_n 0, 1) := by decide +kernel
theorem dX3_keep_1 : decode cX3_keep 1 = .ok (.getfield 18, 3) := by decide +kernel
theorem dX3_keep_4 : decode cX3_keep 4 = .ok (.bipush 8, 2) := by decide +kernel
theorem dX3_keep_6 : decode cX3_keep 6 = .ok (.if_icmp .lt 7, 3) := by decide +kernel
theorem dX3_keep_9 : decode cX3_keep 9 = .ok (.aload_n 0, 1) := by decide +kernel
theorem dX3_keep_10 : decode cX3_keep 10 = .ok (.invokevirtual 22, 3) := by decide +kernel
theorem dX3_keep_13 : decode cX3_keep 13 = .ok (.aload_n 0, 1) := by decide +kernel
theorem dX3_keep_14 : decode cX3_keep 14 = .ok (.getfield 11, 3) := by decide +kernel
theorem dX3_keep_17 : decode cX3_keep 17 = .ok (.aload_n 0, 1) := by decide +kernel
theorem dX3_keep_18 : decode cX3_keep 18 = .ok (.getfield 18, 3) := by decide +kernel
theorem dX3_keep_21 : decode cX3_keep 21 = .ok (.aaload, 1) := by decide +kernel
theorem dX3_keep_22 : decode cX3_keep 22 = .ok (.aload_n 1, 1) := by decide +kernel
theorem dX3_keep_23 : decode cX3_keep 23 = .ok (.invokevirtual 25, 3) := by decide +kernel
theorem dX3_keep_26 : decode cX3_keep 26 = .ok (.aload_n 0, 1) := by decide +kernel
theorem dX3_keep_27 : decode cX3_keep 27 = .ok (.dup, 1) := by decide +kernel
theorem dX3_keep_28 : decode cX3_keep 28 = .ok (.getfield 18, 3) := by decide +kernel
theorem dX3_keep_31 : decode cX3_keep 31 = .ok (.iconst 1, 1) := by decide +kernel
theorem dX3_keep_32 : decode cX3_keep 32 = .ok (.iadd, 1) := by decide +kernel
theorem dX3_keep_33 : decode cX3_keep 33 = .ok (.putfield 18, 3) := by decide +kernel
theorem dX3_keep_36 : decode cX3_keep 36 = .ok (.return_, 1) := by decide +kernel
set_option maxHeartbeats 4000000 in
set_option maxRecDepth 100000 in
theorem w_X3_keep (l : Launch) (G : GP) (x : XP) (o1 : Nat) (σ : Sto) (P : Sto → Prop) (h : D_X3_keep o1 σ P) : g_Metv l yX3_keep cX3_keep 2 rm_X3_keep G x [.ref (g_ad G 63), .ref (g_ad G o1)] σ P := by
  unfold D_X3_keep at h
  obtain ⟨ho1, h⟩ := h
  refine g_ofWv (by decide +kernel) (Nat.le_of_ble_eq_true rfl) ?_
  intro p e s m args below meth c Q ls C hM hl hret
  have hx := C.1
  have hb := C.2.1
  have hl : lv_has ls 2 [(0, .ref (g_ad G 63)), (1, .ref (g_ad G o1))] := hl
  refine lv_aload_n (pc := 0) hx hb dX3_keep_0 rfl (lv_at hl 0 rfl) ?_
  refine g_get (pc := 1) (v := .int (σ 63 1)) C hM (by decide) ce_63 fl_RX3_18 rfl dX3_keep_1 ?_
  refine lv_bipush (pc := 4) (v := 8) hx hb dX3_keep_4 (by decide) ?_
  refine lv_icmp_lt (pc := 6) (tgt := 13) hx hb dX3_keep_6 (by decide) (fun c6 => ?_) (fun c6 => ?_)
  · have h := h.1 c6
    refine lv_aload_n (pc := 13) hx hb dX3_keep_13 rfl (lv_at hl 0 rfl) ?_
    refine g_get (pc := 14) (v := .ref (g_ad G 64)) C hM (by decide) ce_63 fl_RX3_11 rfl dX3_keep_14 ?_
    refine lv_aload_n (pc := 17) hx hb dX3_keep_17 rfl (lv_at hl 0 rfl) ?_
    refine g_get (pc := 18) (v := .int (σ 63 1)) C hM (by decide) ce_63 fl_RX3_18 rfl dX3_keep_18 ?_
    obtain ⟨hc, h⟩ := h
    refine g_aaldE (pc := 21) C hM hc rfl dX3_keep_21 (fun o21_ eo21_ => ?_)
    obtain ⟨ho21_, h⟩ := h o21_ eo21_
    refine lv_aload_n (pc := 22) hx hb dX3_keep_22 rfl (lv_at hl 1 rfl) ?_
    refine g_cVv (pc := 23) C hM hl.1 yv_X8_copyFrom q3_22 (st_lt ho21_) (ce_st ho21_) rfl (w_X8_copyFrom l G x o21_ o1 σ _ h) rfl rfl ⟨⟨by decide, by decide⟩, by decide, by decide⟩ (Nat.le_of_ble_eq_true rfl) dX3_keep_23 (fun s23 H locs h hM => ?_)
    refine lv_aload_n (pc := 26) hx hb dX3_keep_26 rfl (lv_at hl 0 rfl) ?_
    refine lv_dup (pc := 27) hx hb dX3_keep_27 rfl ?_
    refine g_get (pc := 28) (v := .int (s23 63 1)) C hM (by decide) ce_63 fl_RX3_18 rfl dX3_keep_28 ?_
    refine lv_iconst (pc := 31) (v := 1) hx hb dX3_keep_31 (by decide) ?_
    refine lv_iadd (pc := 32) hx hb dX3_keep_32 ?_
    refine g_putE (pc := 33) C hM (by decide) ce_63 fp_RX3_18 rfl rfl (Nat.le_of_ble_eq_true rfl) rfl dX3_keep_33 (fun s33 es33 H locs hM => ?_)
    have h := h s33 es33
    exact hret 36 _ _ _ _ dX3_keep_36 h hM
  · have h := h.2 c6
    refine lv_aload_n (pc := 9) hx hb dX3_keep_9 rfl (lv_at hl 0 rfl) ?_
    refine g_cVv (pc := 10) C hM hl.1 yv_X3_forgetOldest q3_18 (by decide) ce_63 rfl (w_X3_forgetOldest l G x  σ _ h) rfl rfl ⟨⟨by decide, by decide⟩, by decide, by decide⟩ (Nat.le_of_ble_eq_true rfl) dX3_keep_10 (fun s10 H locs h hM => ?_)
    refine lv_aload_n (pc := 13) hx hb dX3_keep_13 rfl (lv_at hl 0 rfl) ?_
    refine g_get (pc := 14) (v := .ref (g_ad G 64)) C hM (by decide) ce_63 fl_RX3_11 rfl dX3_keep_14 ?_
    refine lv_aload_n (pc := 17) hx hb dX3_keep_17 rfl (lv_at hl 0 rfl) ?_
    refine g_get (pc := 18) (v := .int (s10 63 1)) C hM (by decide) ce_63 fl_RX3_18 rfl dX3_keep_18 ?_
    obtain ⟨hc, h⟩ := h
    refine g_aaldE (pc := 21) C hM hc rfl dX3_keep_21 (fun o21_ eo21_ => ?_)
    obtain ⟨ho21_, h⟩ := h o21_ eo21_
    refine lv_aload_n (pc := 22) hx hb dX3_keep_22 rfl (lv_at hl 1 rfl) ?_
    refine g_cVv (pc := 23) C hM hl.1 yv_X8_copyFrom q3_22 (st_lt ho21_) (ce_st ho21_) rfl (w_X8_copyFrom l G x o21_ o1 s10 _ h) rfl rfl ⟨⟨by decide, by decide⟩, by decide, by decide⟩ (Nat.le_of_ble_eq_true rfl) dX3_keep_23 (fun s23 H locs h hM => ?_)
    refine lv_aload_n (pc := 26) hx hb dX3_keep_26 rfl (lv_at hl 0 rfl) ?_
    refine lv_dup (pc := 27) hx hb dX3_keep_27 rfl ?_
    refine g_get (pc := 28) (v := .int (s23 63 1)) C hM (by decide) ce_63 fl_RX3_18 rfl dX3_keep_28 ?_
    refine lv_iconst (pc := 31) (v := 1) hx hb dX3_keep_31 (by decide) ?_
    refine lv_iadd (pc := 32) hx hb dX3_keep_32 ?_
    refine g_putE (pc := 33) C hM (by decide) ce_63 fp_RX3_18 rfl rfl (Nat.le_of_ble_eq_true rfl) rfl dX3_keep_33 (fun s33 es33 H locs hM => ?_)
    have h := h s33 es33
    exact hret 36 _ _ _ _ dX3_keep_36 h hM
abbrev rm_X6_addOne : Room := { frames := 0, cells := 0, slots := 0, locals := 0 }
theorem dX6_addOne_0 : decode cX6_addOne 0 = .ok (.aload_n 0, 1) := by decide +kernel
theorem dX6_addOne_1 : decode cX6_addOne 1 = .ok (.getfield 24, 3) := by decide +kernel
theorem dX6_addOne_4 : decode cX6_addOne 4 = .ok (.bipush 16, 2) := by decide +kernel
theorem dX6_addOne_6 : decode cX6_addOne 6 = .ok (.imul, 1) := by decide +kernel
theorem dX6_addOne_7 : decode cX6_addOne 7 = .ok (.istore 4, 2) := by decide +kernel
theorem dX6_addOne_9 : decode cX6_addOne 9 = .ok (.aload_n 0, 1) := by decide +kernel
theorem dX6_addOne_10 : decode cX6_addOne 10 = .ok (.getfield 9, 3) := by decide +kernel
theorem dX6_addOne_13 : decode cX6_addOne 13 = .ok (.iload 4, 2) := by decide +kernel
theorem dX6_addOne_15 : decode cX6_addOne 15 = .ok (.iconst 0, 1) := by decide +kernel
theorem dX6_addOne_16 : decode cX6_addOne 16 = .ok (.iadd, 1) := by decide +kernel
theorem dX6_addOne_17 : decode cX6_addOne 17 = .ok (.iload_n 1, 1) := by decide +kernel
theorem dX6_addOne_18 : decode cX6_addOne 18 = .ok (.iastore, 1) := by decide +kernel
theorem dX6_addOne_19 : decode cX6_addOne 19 = .ok (.aload_n 0, 1) := by decide +kernel
theorem dX6_addOne_20 : decode cX6_addOne 20 = .ok (.getfield 9, 3) := by decide +kernel
theorem dX6_addOne_23 : decode cX6_addOne 23 = .ok (.iload 4, 2) := by decide +kernel
theorem dX6_addOne_25 : decode cX6_addOne 25 = .ok (.iconst 1, 1) := by decide +kernel
theorem dX6_addOne_26 : decode cX6_addOne 26 = .ok (.iadd, 1) := by decide +kernel
theorem dX6_addOne_27 : decode cX6_addOne 27 = .ok (.iload_n 2, 1) := by decide +kernel
theorem dX6_addOne_28 : decode cX6_addOne 28 = .ok (.iastore, 1) := by decide +kernel
theorem dX6_addOne_29 : decode cX6_addOne 29 = .ok (.aload_n 0, 1) := by decide +kernel
theorem dX6_addOne_30 : decode cX6_addOne 30 = .ok (.getfield 9, 3) := by decide +kernel
theorem dX6_addOne_33 : decode cX6_addOne 33 = .ok (.iload 4, 2) := by decide +kernel
theorem dX6_addOne_35 : decode cX6_addOne 35 = .ok (.iconst 2, 1) := by decide +kernel
theorem dX6_addOne_36 : decode cX6_addOne 36 = .ok (.iadd, 1) := by decide +kernel
theorem dX6_addOne_37 : decode cX6_addOne 37 = .ok (.iload_n 3, 1) := by decide +kernel
theorem dX6_addOne_38 : decode cX6_addOne 38 = .ok (.iastore, 1) := by decide +kernel
theorem dX6_addOne_39 : decode cX6_addOne 39 = .ok (.aload_n 0, 1) := by decide +kernel
theorem dX6_addOne_40 : decode cX6_addOne 40 = .ok (.getfield 9, 3) := by decide +kernel
theorem dX6_addOne_43 : decode cX6_addOne 43 = .ok (.iload 4, 2) := by decide +kernel
theorem dX6_addOne_45 : decode cX6_addOne 45 = .ok (.iconst 3, 1) := by decide +kernel
theorem dX6_addOne_46 : decode cX6_addOne 46 = .ok (.iadd, 1) := by decide +kernel
theorem dX6_addOne_47 : decode cX6_addOne 47 = .ok (.iconst 0, 1) := by decide +kernel
theorem dX6_addOne_48 : decode cX6_addOne 48 = .ok (.iastore, 1) := by decide +kernel
theorem dX6_addOne_49 : decode cX6_addOne 49 = .ok (.aload_n 0, 1) := by decide +kernel
theorem dX6_addOne_50 : decode cX6_addOne 50 = .ok (.dup, 1) := by decide +kernel
theorem dX6_addOne_51 : decode cX6_addOne 51 = .ok (.getfield 24, 3) := by decide +kernel
theorem dX6_addOne_54 : decode cX6_addOne 54 = .ok (.iconst 1, 1) := by decide +kernel
theorem dX6_addOne_55 : decode cX6_addOne 55 = .ok (.iadd, 1) := by decide +kernel
theorem dX6_addOne_56 : decode cX6_addOne 56 = .ok (.putfield 24, 3) := by decide +kernel
theorem dX6_addOne_59 : decode cX6_addOne 59 = .ok (.aload_n 0, 1) := by decide +kernel
theorem dX6_addOne_60 : decode cX6_addOne 60 = .ok (.getfield 24, 3) := by decide +kernel
theorem dX6_addOne_63 : decode cX6_addOne 63 = .ok (.iconst 1, 1) := by decide +kernel
theorem dX6_addOne_64 : decode cX6_addOne 64 = .ok (.isub, 1) := by decide +kernel
theorem dX6_addOne_65 : decode cX6_addOne 65 = .ok (.ireturn, 1) := by decide +kernel
set_option maxHeartbeats 4000000 in
set_option maxRecDepth 100000 in
theorem w_X6_addOne (l : Launch) (G : GP) (x : XP) (o0 : Nat) (a1 : Int32) (a2 : Int32) (a3 : Int32) (σ : Sto) (P : Int32 → Sto → Prop) (h : D_X6_addOne o0 a1 a2 a3 σ P) : g_Meti l yX6_addOne cX6_addOne 5 (some .int) rm_X6_addOne G x [.ref (g_ad G o0), .int a1, .int a2, .int a3] σ P := by
  unfold D_X6_addOne at h
  obtain ⟨ho0, h⟩ := h
  refine g_ofWi (by decide +kernel) (Nat.le_of_ble_eq_true rfl) ?_
  intro p e s m args below meth c Q ls C hM hl hret
  have hx := C.1
  have hb := C.2.1
  have hl : lv_has ls 5 [(0, .ref (g_ad G o0)), (1, .int a1), (2, .int a2), (3, .int a3)] := hl
  refine lv_aload_n (pc := 0) hx hb dX6_addOne_0 rfl (lv_at hl 0 rfl) ?_
  refine g_get (pc := 1) (v := .int (σ o0 1)) C hM (ru_lt ho0) (ce_ru ho0) fl_RX6_24 rfl dX6_addOne_1 ?_
  refine lv_bipush (pc := 4) (v := 16) hx hb dX6_addOne_4 (by decide) ?_
  refine lv_imul (pc := 6) hx hb dX6_addOne_6 ?_
  refine lv_istore (pc := 7) (lv' := [(4, .int ((σ o0 1) * 16)), (0, .ref (g_ad G o0)), (1, .int a1), (2, .int a2), (3, .int a3)]) hx hb dX6_addOne_7 hl (by decide) rfl (fun ls hl => ?_)
  refine lv_aload_n (pc := 9) hx hb dX6_addOne_9 rfl (lv_at hl 1 rfl) ?_
  refine g_get (pc := 10) (v := .ref (g_ad G (o0 + 1))) C hM (ru_lt ho0) (ce_ru ho0) fl_RX6_9 rfl dX6_addOne_10 ?_
  refine lv_iload (pc := 13) hx hb dX6_addOne_13 (lv_at hl 0 rfl) ?_
  refine lv_iconst (pc := 15) (v := 0) hx hb dX6_addOne_15 (by decide) ?_
  refine lv_iadd (pc := 16) hx hb dX6_addOne_16 ?_
  refine lv_iload_n (pc := 17) hx hb dX6_addOne_17 rfl (lv_at hl 2 rfl) ?_
  obtain ⟨hc, h⟩ := h
  refine g_iastE (pc := 18) C hM (rc_lt ho0) (ce_rc ho0) hc rfl dX6_addOne_18 (fun s18 es18 H locs hM => ?_)
  have h := h s18 es18
  refine lv_aload_n (pc := 19) hx hb dX6_addOne_19 rfl (lv_at hl 1 rfl) ?_
  refine g_get (pc := 20) (v := .ref (g_ad G (o0 + 1))) C hM (ru_lt ho0) (ce_ru ho0) fl_RX6_9 rfl dX6_addOne_20 ?_
  refine lv_iload (pc := 23) hx hb dX6_addOne_23 (lv_at hl 0 rfl) ?_
  refine lv_iconst (pc := 25) (v := 1) hx hb dX6_addOne_25 (by decide) ?_
  refine lv_iadd (pc := 26) hx hb dX6_addOne_26 ?_
  refine lv_iload_n (pc := 27) hx hb dX6_addOne_27 rfl (lv_at hl 3 rfl) ?_
  obtain ⟨hc, h⟩ := h
  refine g_iastE (pc := 28) C hM (rc_lt ho0) (ce_rc ho0) hc rfl dX6_addOne_28 (fun s28 es28 H locs hM => ?_)
  have h := h s28 es28
  refine lv_aload_n (pc := 29) hx hb dX6_addOne_29 rfl (lv_at hl 1 rfl) ?_
  refine g_get (pc := 30) (v := .ref (g_ad G (o0 + 1))) C hM (ru_lt ho0) (ce_ru ho0) fl_RX6_9 rfl dX6_addOne_30 ?_
  refine lv_iload (pc := 33) hx hb dX6_addOne_33 (lv_at hl 0 rfl) ?_
  refine lv_iconst (pc := 35) (v := 2) hx hb dX6_addOne_35 (by decide) ?_
  refine lv_iadd (pc := 36) hx hb dX6_addOne_36 ?_
  refine lv_iload_n (pc := 37) hx hb dX6_addOne_37 rfl (lv_at hl 4 rfl) ?_
  obtain ⟨hc, h⟩ := h
  refine g_iastE (pc := 38) C hM (rc_lt ho0) (ce_rc ho0) hc rfl dX6_addOne_38 (fun s38 es38 H locs hM => ?_)
  have h := h s38 es38
  refine lv_aload_n (pc := 39) hx hb dX6_addOne_39 rfl (lv_at hl 1 rfl) ?_
  refine g_get (pc := 40) (v := .ref (g_ad G (o0 + 1))) C hM (ru_lt ho0) (ce_ru ho0) fl_RX6_9 rfl dX6_addOne_40 ?_
  refine lv_iload (pc := 43) hx hb dX6_addOne_43 (lv_at hl 0 rfl) ?_
  refine lv_iconst (pc := 45) (v := 3) hx hb dX6_addOne_45 (by decide) ?_
  refine lv_iadd (pc := 46) hx hb dX6_addOne_46 ?_
  refine lv_iconst (pc := 47) (v := 0) hx hb dX6_addOne_47 (by decide) ?_
  obtain ⟨hc, h⟩ := h
  refine g_iastE (pc := 48) C hM (rc_lt ho0) (ce_rc ho0) hc rfl dX6_addOne_48 (fun s48 es48 H locs hM => ?_)
  have h := h s48 es48
  refine lv_aload_n (pc := 49) hx hb dX6_addOne_49 rfl (lv_at hl 1 rfl) ?_
  refine lv_dup (pc := 50) hx hb dX6_addOne_50 rfl ?_
  refine g_get (pc := 51) (v := .int (s48 o0 1)) C hM (ru_lt ho0) (ce_ru ho0) fl_RX6_24 rfl dX6_addOne_51 ?_
  refine lv_iconst (pc := 54) (v := 1) hx hb dX6_addOne_54 (by decide) ?_
  refine lv_iadd (pc := 55) hx hb dX6_addOne_55 ?_
  refine g_putE (pc := 56) C hM (ru_lt ho0) (ce_ru ho0) fp_RX6_24 rfl rfl (Nat.le_of_ble_eq_true rfl) rfl dX6_addOne_56 (fun s56 es56 H locs hM => ?_)
  have h := h s56 es56
  refine lv_aload_n (pc := 59) hx hb dX6_addOne_59 rfl (lv_at hl 1 rfl) ?_
  refine g_get (pc := 60) (v := .int (s56 o0 1)) C hM (ru_lt ho0) (ce_ru ho0) fl_RX6_24 rfl dX6_addOne_60 ?_
  refine lv_iconst (pc := 63) (v := 1) hx hb dX6_addOne_63 (by decide) ?_
  refine lv_isub (pc := 64) hx hb dX6_addOne_64 ?_
  exact hret 65 _ _ _ _ _ dX6_addOne_65 (by rfl) h hM
abbrev rm_X6_cell : Room := { frames := 0, cells := 0, slots := 0, locals := 0 }
theorem dX6_cell_0 : decode cX6_cell 0 = .ok (.aload_n 0, 1) := by decide +kernel
theorem dX6_cell_1 : decode cX6_cell 1 = .ok (.getfield 9, 3) := by decide +kernel
theorem dX6_cell_4 : decode cX6_cell 4 = .ok (.iload_n 1, 1) := by decide +kernel
theorem dX6_cell_5 : decode cX6_cell 5 = .ok (.bipush 16, 2) := by decide +kernel
theorem dX6_cell_7 : decode cX6_cell 7 = .ok (.imul, 1) := by decide +kernel
theorem dX6_cell_8 : decode cX6_cell 8 = .ok (.iload_n 2, 1) := by decide +kernel
theorem dX6_cell_9 : decode cX6_cell 9 = .ok (.iadd, 1) := by decide +kernel
theorem dX6_cell_10 : decode cX6_cell 10 = .ok (.iaload, 1) := by decide +kernel
theorem dX6_cell_11 : decode cX6_cell 11 = .ok (.ireturn, 1) := by decide +kernel
set_option maxHeartbeats 4000000 in
set_option maxRecDepth 100000 in
theorem w_X6_cell (l : Launch) (G : GP) (x : XP) (o0 : Nat) (a1 : Int32) (a2 : Int32) (σ : Sto) (P : Int32 → Sto → Prop) (h : D_X6_cell o0 a1 a2 σ P) : g_Meti l yX6_cell cX6_cell 3 (some .int) rm_X6_cell G x [.ref (g_ad G o0), .int a1, .int a2] σ P := by
  unfold D_X6_cell at h
  obtain ⟨ho0, h⟩ := h
  refine g_ofWi (by decide +kernel) (Nat.le_of_ble_eq_true rfl) ?_
  intro p e s m args below meth c Q ls C hM hl hret
  have hx := C.1
  have hb := C.2.1
  have hl : lv_has ls 3 [(0, .ref (g_ad G o0)), (1, .int a1), (2, .int a2)] := hl
  refine lv_aload_n (pc := 0) hx hb dX6_cell_0 rfl (lv_at hl 0 rfl) ?_
  refine g_get (pc := 1) (v := .ref (g_ad G (o0 + 1))) C hM (ru_lt ho0) (ce_ru ho0) fl_RX6_9 rfl dX6_cell_1 ?_
  refine lv_iload_n (pc := 4) hx hb dX6_cell_4 rfl (lv_at hl 1 rfl) ?_
  refine lv_bipush (pc := 5) (v := 16) hx hb dX6_cell_5 (by decide) ?_
  refine lv_imul (pc := 7) hx hb dX6_cell_7 ?_
  refine lv_iload_n (pc := 8) hx hb dX6_cell_8 rfl (lv_at hl 2 rfl) ?_
  refine lv_iadd (pc := 9) hx hb dX6_cell_9 ?_
  obtain ⟨hc, h⟩ := h
  refine g_ialdK (pc := 10) C hM (rc_lt ho0) (ce_rc ho0) hc rfl dX6_cell_10 ?_
  exact hret 11 _ _ _ _ _ dX6_cell_11 (by rfl) h hM
abbrev rm_X6_conditionStart : Room := { frames := 0, cells := 0, slots := 0, locals := 0 }
theorem dX6_conditionStart_0 : decode cX6_conditionStart 0 = .ok (.iload_n 0, 1) := by decide +kernel
theorem dX6_conditionStart_1 : decode cX6_conditionStart 1 = .ok (.bipush 16, 2) := by decide +kernel
theorem dX6_conditionStart_3 : decode cX6_conditionStart 3 = .ok (.imul, 1) := by decide +kernel
theorem dX6_conditionStart_4 : decode cX6_conditionStart 4 = .ok (.iconst 4, 1) := by decide +kernel
theorem dX6_conditionStart_5 : decode cX6_conditionStart 5 = .ok (.iadd, 1) := by decide +kernel
theorem dX6_conditionStart_6 : decode cX6_conditionStart 6 = .ok (.iload_n 1, 1) := by decide +kernel
theorem dX6_conditionStart_7 : decode cX6_conditionStart 7 = .ok (.iconst 3, 1) := by decide +kernel
theorem dX6_conditionStart_8 : decode cX6_conditionStart 8 = .ok (.imul, 1) := by decide +kernel
theorem dX6_conditionStart_9 : decode cX6_conditionStart 9 = .ok (.iadd, 1) := by decide +kernel
theorem dX6_conditionStart_10 : decode cX6_conditionStart 10 = .ok (.ireturn, 1) := by decide +kernel
set_option maxHeartbeats 4000000 in
set_option maxRecDepth 100000 in
theorem w_X6_conditionStart (l : Launch) (G : GP) (x : XP) (a0 : Int32) (a1 : Int32) (σ : Sto) (P : Int32 → Sto → Prop) (h : D_X6_conditionStart a0 a1 σ P) : g_Meti l yX6_conditionStart cX6_conditionStart 2 (some .int) rm_X6_conditionStart G x [.int a0, .int a1] σ P := by
  unfold D_X6_conditionStart at h
  refine g_ofWi (by decide +kernel) (Nat.le_of_ble_eq_true rfl) ?_
  intro p e s m args below meth c Q ls C hM hl hret
  have hx := C.1
  have hb := C.2.1
  have hl : lv_has ls 2 [(0, .int a0), (1, .int a1)] := hl
  refine lv_iload_n (pc := 0) hx hb dX6_conditionStart_0 rfl (lv_at hl 0 rfl) ?_
  refine lv_bipush (pc := 1) (v := 16) hx hb dX6_conditionStart_1 (by decide) ?_
  refine lv_imul (pc := 3) hx hb dX6_conditionStart_3 ?_
  refine lv_iconst (pc := 4) (v := 4) hx hb dX6_conditionStart_4 (by decide) ?_
  refine lv_iadd (pc := 5) hx hb dX6_conditionStart_5 ?_
  refine lv_iload_n (pc := 6) hx hb dX6_conditionStart_6 rfl (lv_at hl 1 rfl) ?_
  refine lv_iconst (pc := 7) (v := 3) hx hb dX6_conditionStart_7 (by decide) ?_
  refine lv_imul (pc := 8) hx hb dX6_conditionStart_8 ?_
  refine lv_iadd (pc := 9) hx hb dX6_conditionStart_9 ?_
  exact hret 10 _ _ _ _ _ dX6_conditionStart_10 (by rfl) h hM
abbrev rm_X6_addConditionTo : Room := { frames := 1, cells := 0, slots := 0, locals := 22 }
theorem dX6_addConditionTo_0 : decode cX6_addConditionTo 0 = .ok (.aload_n 0, 1) := by decide +kernel
theorem dX6_addConditionTo_1 : decode cX6_addConditionTo 1 = .ok (.iload_n 1, 1) := by decide +kernel
theorem dX6_addConditionTo_2 : decode cX6_addConditionTo 2 = .ok (.iconst 3, 1) := by decide +kernel
theorem dX6_addConditionTo_3 : decode cX6_addConditionTo 3 = .ok (.invokevirtual 28, 3) := by decide +kernel
theorem dX6_addConditionTo_6 : decode cX6_addConditionTo 6 = .ok (.istore 5, 2) := by decide +kernel
theorem dX6_addConditionTo_8 : decode cX6_addConditionTo 8 = .ok (.iload_n 1, 1) := by decide +kernel
theorem dX6_addConditionTo_9 : decode cX6_addConditionTo 9 = .ok (.iload 5, 2) := by decide +kernel
theorem dX6_addConditionTo_11 : decode cX6_addConditionTo 11 = .ok (.invokestatic 15, 3) := by decide +kernel
theorem dX6_addConditionTo_14 : decode cX6_addConditionTo 14 = .ok (.istore 6, 2) := by decide +kernel
theorem dX6_addConditionTo_16 : decode cX6_addConditionTo 16 = .ok (.aload_n 0, 1) := by decide +kernel
theorem dX6_addConditionTo_17 : decode cX6_addConditionTo 17 = .ok (.getfield 9, 3) := by decide +kernel
theorem dX6_addConditionTo_20 : decode cX6_addConditionTo 20 = .ok (.iload 6, 2) := by decide +kernel
theorem dX6_addConditionTo_22 : decode cX6_addConditionTo 22 = .ok (.iconst 0, 1) := by decide +kernel
theorem dX6_addConditionTo_23 : decode cX6_addConditionTo 23 = .ok (.iadd, 1) := by decide +kernel
theorem dX6_addConditionTo_24 : decode cX6_addConditionTo 24 = .ok (.iload_n 2, 1) := by decide +kernel
theorem dX6_addConditionTo_25 : decode cX6_addConditionTo 25 = .ok (.iastore, 1) := by decide +kernel
theorem dX6_addConditionTo_26 : decode cX6_addConditionTo 26 = .ok (.aload_n 0, 1) := by decide +kernel
theorem dX6_addConditionTo_27 : decode cX6_addConditionTo 27 = .ok (.getfield 9, 3) := by decide +kernel
theorem dX6_addConditionTo_30 : decode cX6_addConditionTo 30 = .ok (.iload 6, 2) := by decide +kernel
theorem dX6_addConditionTo_32 : decode cX6_addConditionTo 32 = .ok (.iconst 1, 1) := by decide +kernel
theorem dX6_addConditionTo_33 : decode cX6_addConditionTo 33 = .ok (.iadd, 1) := by decide +kernel
theorem dX6_addConditionTo_34 : decode cX6_addConditionTo 34 = .ok (.iload_n 3, 1) := by decide +kernel
theorem dX6_addConditionTo_35 : decode cX6_addConditionTo 35 = .ok (.iastore, 1) := by decide +kernel
theorem dX6_addConditionTo_36 : decode cX6_addConditionTo 36 = .ok (.aload_n 0, 1) := by decide +kernel
theorem dX6_addConditionTo_37 : decode cX6_addConditionTo 37 = .ok (.getfield 9, 3) := by decide +kernel
theorem dX6_addConditionTo_40 : decode cX6_addConditionTo 40 = .ok (.iload 6, 2) := by decide +kernel
theorem dX6_addConditionTo_42 : decode cX6_addConditionTo 42 = .ok (.iconst 2, 1) := by decide +kernel
theorem dX6_addConditionTo_43 : decode cX6_addConditionTo 43 = .ok (.iadd, 1) := by decide +kernel
theorem dX6_addConditionTo_44 : decode cX6_addConditionTo 44 = .ok (.iload 4, 2) := by decide +kernel
theorem dX6_addConditionTo_46 : decode cX6_addConditionTo 46 = .ok (.iastore, 1) := by decide +kernel
theorem dX6_addConditionTo_47 : decode cX6_addConditionTo 47 = .ok (.aload_n 0, 1) := by decide +kernel
theorem dX6_addConditionTo_48 : decode cX6_addConditionTo 48 = .ok (.getfield 9, 3) := by decide +kernel
theorem dX6_addConditionTo_51 : decode cX6_addConditionTo 51 = .ok (.iload_n 1, 1) := by decide +kernel
theorem dX6_addConditionTo_52 : decode cX6_addConditionTo 52 = .ok (.bipush 16, 2) := by decide +kernel
theorem dX6_addConditionTo_54 : decode cX6_addConditionTo 54 = .ok (.imul, 1) := by decide +kernel
theorem dX6_addConditionTo_55 : decode cX6_addConditionTo 55 = .ok (.iconst 3, 1) := by decide +kernel
theorem dX6_addConditionTo_56 : decode cX6_addConditionTo 56 = .ok (.iadd, 1) := by decide +kernel
theorem dX6_addConditionTo_57 : decode cX6_addConditionTo 57 = .ok (.iload 5, 2) := by decide +kernel
theorem dX6_addConditionTo_59 : decode cX6_addConditionTo 59 = .ok (.iconst 1, 1) := by decide +kernel
theorem dX6_addConditionTo_60 : decode cX6_addConditionTo 60 = .ok (.iadd, 1) := by decide +kernel
theorem dX6_addConditionTo_61 : decode cX6_addConditionTo 61 = .ok (.iastore, 1) := by decide +kernel
theorem dX6_addConditionTo_62 : decode cX6_addConditionTo 62 = .ok (.iload 5, 2) := by decide +kernel
theorem dX6_addConditionTo_64 : decode cX6_addConditionTo 64 = .ok (.iconst 1, 1) := by decide +kernel
theorem dX6_addConditionTo_65 : decode cX6_addConditionTo 65 = .ok (.iadd, 1) := by decide +kernel
theorem dX6_addConditionTo_66 : decode cX6_addConditionTo 66 = .ok (.ireturn, 1) := by decide +kernel
set_option maxHeartbeats 4000000 in
set_option maxRecDepth 100000 in
theorem w_X6_addConditionTo (l : Launch) (G : GP) (x : XP) (o0 : Nat) (a1 : Int32) (a2 : Int32) (a3 : Int32) (a4 : Int32) (σ : Sto) (P : Int32 → Sto → Prop) (h : D_X6_addConditionTo o0 a1 a2 a3 a4 σ P) : g_Meti l yX6_addConditionTo cX6_addConditionTo 7 (some .int) rm_X6_addConditionTo G x [.ref (g_ad G o0), .int a1, .int a2, .int a3, .int a4] σ P := by
  unfold D_X6_addConditionTo at h
  obtain ⟨ho0, h⟩ := h
  refine g_ofWi (by decide +kernel) (Nat.le_of_ble_eq_true rfl) ?_
  intro p e s m args below meth c Q ls C hM hl hret
  have hx := C.1
  have hb := C.2.1
  have hl : lv_has ls 7 [(0, .ref (g_ad G o0)), (1, .int a1), (2, .int a2), (3, .int a3), (4, .int a4)] := hl
  refine lv_aload_n (pc := 0) hx hb dX6_addConditionTo_0 rfl (lv_at hl 0 rfl) ?_
  refine lv_iload_n (pc := 1) hx hb dX6_addConditionTo_1 rfl (lv_at hl 1 rfl) ?_
  refine lv_iconst (pc := 2) (v := 3) hx hb dX6_addConditionTo_2 (by decide) ?_
  refine g_cVi (pc := 3) C hM hl.1 yv_X6_cell q3_50 (ru_lt ho0) (ce_ru ho0) rfl (w_X6_cell l G x o0 a1 3 σ _ h) rfl rfl ⟨⟨by decide, by decide⟩, by decide, by decide⟩ (Nat.le_of_ble_eq_true rfl) dX6_addConditionTo_3 (fun r3 s3 H locs h hM => ?_)
  refine lv_istore (pc := 6) (lv' := [(5, .int r3), (0, .ref (g_ad G o0)), (1, .int a1), (2, .int a2), (3, .int a3), (4, .int a4)]) hx hb dX6_addConditionTo_6 hl (by decide) rfl (fun ls hl => ?_)
  refine lv_iload_n (pc := 8) hx hb dX6_addConditionTo_8 rfl (lv_at hl 2 rfl) ?_
  refine lv_iload (pc := 9) hx hb dX6_addConditionTo_9 (lv_at hl 0 rfl) ?_
  refine g_cSi (pc := 11) C hM hl.1 ys_X6_conditionStart q3_51 (w_X6_conditionStart l G x a1 r3 s3 _ h) rfl rfl ⟨⟨by decide, by decide⟩, by decide, by decide⟩ (Nat.le_of_ble_eq_true rfl) dX6_addConditionTo_11 (fun r11 s11 H locs h hM => ?_)
  refine lv_istore (pc := 14) (lv' := [(6, .int r11), (5, .int r3), (0, .ref (g_ad G o0)), (1, .int a1), (2, .int a2), (3, .int a3), (4, .int a4)]) hx hb dX6_addConditionTo_14 hl (by decide) rfl (fun ls hl => ?_)
  refine lv_aload_n (pc := 16) hx hb dX6_addConditionTo_16 rfl (lv_at hl 2 rfl) ?_
  refine g_get (pc := 17) (v := .ref (g_ad G (o0 + 1))) C hM (ru_lt ho0) (ce_ru ho0) fl_RX6_9 rfl dX6_addConditionTo_17 ?_
  refine lv_iload (pc := 20) hx hb dX6_addConditionTo_20 (lv_at hl 0 rfl) ?_
  refine lv_iconst (pc := 22) (v := 0) hx hb dX6_addConditionTo_22 (by decide) ?_
  refine lv_iadd (pc := 23) hx hb dX6_addConditionTo_23 ?_
  refine lv_iload_n (pc := 24) hx hb dX6_addConditionTo_24 rfl (lv_at hl 4 rfl) ?_
  obtain ⟨hc, h⟩ := h
  refine g_iastE (pc := 25) C hM (rc_lt ho0) (ce_rc ho0) hc rfl dX6_addConditionTo_25 (fun s25 es25 H locs hM => ?_)
  have h := h s25 es25
  refine lv_aload_n (pc := 26) hx hb dX6_addConditionTo_26 rfl (lv_at hl 2 rfl) ?_
  refine g_get (pc := 27) (v := .ref (g_ad G (o0 + 1))) C hM (ru_lt ho0) (ce_ru ho0) fl_RX6_9 rfl dX6_addConditionTo_27 ?_
  refine lv_iload (pc := 30) hx hb dX6_addConditionTo_30 (lv_at hl 0 rfl) ?_
  refine lv_iconst (pc := 32) (v := 1) hx hb dX6_addConditionTo_32 (by decide) ?_
  refine lv_iadd (pc := 33) hx hb dX6_addConditionTo_33 ?_
  refine lv_iload_n (pc := 34) hx hb dX6_addConditionTo_34 rfl (lv_at hl 5 rfl) ?_
  obtain ⟨hc, h⟩ := h
  refine g_iastE (pc := 35) C hM (rc_lt ho0) (ce_rc ho0) hc rfl dX6_addConditionTo_35 (fun s35 es35 H locs hM => ?_)
  have h := h s35 es35
  refine lv_aload_n (pc := 36) hx hb dX6_addConditionTo_36 rfl (lv_at hl 2 rfl) ?_
  refine g_get (pc := 37) (v := .ref (g_ad G (o0 + 1))) C hM (ru_lt ho0) (ce_ru ho0) fl_RX6_9 rfl dX6_addConditionTo_37 ?_
  refine lv_iload (pc := 40) hx hb dX6_addConditionTo_40 (lv_at hl 0 rfl) ?_
  refine lv_iconst (pc := 42) (v := 2) hx hb dX6_addConditionTo_42 (by decide) ?_
  refine lv_iadd (pc := 43) hx hb dX6_addConditionTo_43 ?_
  refine lv_iload (pc := 44) hx hb dX6_addConditionTo_44 (lv_at hl 6 rfl) ?_
  obtain ⟨hc, h⟩ := h
  refine g_iastE (pc := 46) C hM (rc_lt ho0) (ce_rc ho0) hc rfl dX6_addConditionTo_46 (fun s46 es46 H locs hM => ?_)
  have h := h s46 es46
  refine lv_aload_n (pc := 47) hx hb dX6_addConditionTo_47 rfl (lv_at hl 2 rfl) ?_
  refine g_get (pc := 48) (v := .ref (g_ad G (o0 + 1))) C hM (ru_lt ho0) (ce_ru ho0) fl_RX6_9 rfl dX6_addConditionTo_48 ?_
  refine lv_iload_n (pc := 51) hx hb dX6_addConditionTo_51 rfl (lv_at hl 3 rfl) ?_
  refine lv_bipush (pc := 52) (v := 16) hx hb dX6_addConditionTo_52 (by decide) ?_
  refine lv_imul (pc := 54) hx hb dX6_addConditionTo_54 ?_
  refine lv_iconst (pc := 55) (v := 3) hx hb dX6_addConditionTo_55 (by decide) ?_
  refine lv_iadd (pc := 56) hx hb dX6_addConditionTo_56 ?_
  refine lv_iload (pc := 57) hx hb dX6_addConditionTo_57 (lv_at hl 1 rfl) ?_
  refine lv_iconst (pc := 59) (v := 1) hx hb dX6_addConditionTo_59 (by decide) ?_
  refine lv_iadd (pc := 60) hx hb dX6_addConditionTo_60 ?_
  obtain ⟨hc, h⟩ := h
  refine g_iastE (pc := 61) C hM (rc_lt ho0) (ce_rc ho0) hc rfl dX6_addConditionTo_61 (fun s61 es61 H locs hM => ?_)
  have h := h s61 es61
  refine lv_iload (pc := 62) hx hb dX6_addConditionTo_62 (lv_at hl 1 rfl) ?_
  refine lv_iconst (pc := 64) (v := 1) hx hb dX6_addConditionTo_64 (by decide) ?_
  refine lv_iadd (pc := 65) hx hb dX6_addConditionTo_65 ?_
  exact hret 66 _ _ _ _ _ dX6_addConditionTo_66 (by rfl) h hM
abbrev rm_X6_drop : Room := { frames := 1, cells := 0, slots := 0, locals := 40 }
theorem dX6_drop_0 : decode cX6_drop 0 = .ok (.iload_n 1, 1) := by decide +kernel
theorem dX6_drop_1 : decode cX6_drop 1 = .ok (.iconst 1, 1) := by decide +kernel
theorem dX6_drop_2 : decode cX6_drop 2 = .ok (.iadd, 1) := by decide +kernel
theorem dX6_drop_3 : decode cX6_drop 3 = .ok (.bipush 16, 2) := by decide +kernel
theorem dX6_drop_5 : decode cX6_drop 5 = .ok (.imul, 1) := by decide +kernel
theorem dX6_drop_6 : decode cX6_drop 6 = .ok (.istore_n 2, 1) := by decide +kernel
theorem dX6_drop_7 : decode cX6_drop 7 = .ok (.aload_n 0, 1) := by decide +kernel
theorem dX6_drop_8 : decode cX6_drop 8 = .ok (.getfield 9, 3) := by decide +kernel
theorem dX6_drop_11 : decode cX6_drop 11 = .ok (.iload_n 2, 1) := by decide +kernel
theorem dX6_drop_12 : decode cX6_drop 12 = .ok (.aload_n 0, 1) := by decide +kernel
theorem dX6_drop_13 : decode cX6_drop 13 = .ok (.getfield 9, 3) := by decide +kernel
theorem dX6_drop_16 : decode cX6_drop 16 = .ok (.iload_n 1, 1) := by decide +kernel
theorem dX6_drop_17 : decode cX6_drop 17 = .ok (.bipush 16, 2) := by decide +kernel
theorem dX6_drop_19 : decode cX6_drop 19 = .ok (.imul, 1) := by decide +kernel
theorem dX6_drop_20 : decode cX6_drop 20 = .ok (.aload_n 0, 1) := by decide +kernel
theorem dX6_drop_21 : decode cX6_drop 21 = .ok (.getfield 24, 3) := by decide +kernel
theorem dX6_drop_24 : decode cX6_drop 24 = .ok (.bipush 16, 2) := by decide +kernel
theorem dX6_drop_26 : decode cX6_drop 26 = .ok (.imul, 1) := by decide +kernel
theorem dX6_drop_27 : decode cX6_drop 27 = .ok (.iload_n 2, 1) := by decide +kernel
theorem dX6_drop_28 : decode cX6_drop 28 = .ok (.isub, 1) := by decide +kernel
theorem dX6_drop_29 : decode cX6_drop 29 = .ok (.invokestatic 31, 3) := by decide +kernel
theorem dX6_drop_32 : decode cX6_drop 32 = .ok (.aload_n 0, 1) := by decide +kernel
theorem dX6_drop_33 : decode cX6_drop 33 = .ok (.dup, 1) := by decide +kernel
theorem dX6_drop_34 : decode cX6_drop 34 = .ok (.getfield 24, 3) := by decide +kernel
theorem dX6_drop_37 : decode cX6_drop 37 = .ok (.iconst 1, 1) := by decide +kernel
theorem dX6_drop_38 : decode cX6_drop 38 = .ok (.isub, 1) := by decide +kernel
theorem dX6_drop_39 : decode cX6_drop 39 = .ok (.putfield 24, 3) := by decide +kernel
theorem dX6_drop_42 : decode cX6_drop 42 = .ok (.return_, 1) := by decide +kernel
set_option maxHeartbeats 4000000 in
set_option maxRecDepth 100000 in
theorem w_X6_drop (l : Launch) (G : GP) (x : XP) (o0 : Nat) (a1 : Int32) (σ : Sto) (P : Sto → Prop) (h : D_X6_drop o0 a1 σ P) : g_Metv l yX6_drop cX6_drop 3 rm_X6_drop G x [.ref (g_ad G o0), .int a1] σ P := by
  unfold D_X6_drop at h
  obtain ⟨ho0, h⟩ := h
  refine g_ofWv (by decide +kernel) (Nat.le_of_ble_eq_true rfl) ?_
  intro p e s m args below meth c Q ls C hM hl hret
  have hx := C.1
  have hb := C.2.1
  have hl : lv_has ls 3 [(0, .ref (g_ad G o0)), (1, .int a1)] := hl
  refine lv_iload_n (pc := 0) hx hb dX6_drop_0 rfl (lv_at hl 1 rfl) ?_
  refine lv_iconst (pc := 1) (v := 1) hx hb dX6_drop_1 (by decide) ?_
  refine lv_iadd (pc := 2) hx hb dX6_drop_2 ?_
  refine lv_bipush (pc := 3) (v := 16) hx hb dX6_drop_3 (by decide) ?_
  refine lv_imul (pc := 5) hx hb dX6_drop_5 ?_
  refine lv_istore_n (pc := 6) (lv' := [(2, .int ((a1 + 1) * 16)), (0, .ref (g_ad G o0)), (1, .int a1)]) hx hb dX6_drop_6 rfl hl (by decide) rfl (fun ls hl => ?_)
  refine lv_aload_n (pc := 7) hx hb dX6_drop_7 rfl (lv_at hl 1 rfl) ?_
  refine g_get (pc := 8) (v := .ref (g_ad G (o0 + 1))) C hM (ru_lt ho0) (ce_ru ho0) fl_RX6_9 rfl dX6_drop_8 ?_
  refine lv_iload_n (pc := 11) hx hb dX6_drop_11 rfl (lv_at hl 0 rfl) ?_
  refine lv_aload_n (pc := 12) hx hb dX6_drop_12 rfl (lv_at hl 1 rfl) ?_
  refine g_get (pc := 13) (v := .ref (g_ad G (o0 + 1))) C hM (ru_lt ho0) (ce_ru ho0) fl_RX6_9 rfl dX6_drop_13 ?_
  refine lv_iload_n (pc := 16) hx hb dX6_drop_16 rfl (lv_at hl 2 rfl) ?_
  refine lv_bipush (pc := 17) (v := 16) hx hb dX6_drop_17 (by decide) ?_
  refine lv_imul (pc := 19) hx hb dX6_drop_19 ?_
  refine lv_aload_n (pc := 20) hx hb dX6_drop_20 rfl (lv_at hl 1 rfl) ?_
  refine g_get (pc := 21) (v := .int (σ o0 1)) C hM (ru_lt ho0) (ce_ru ho0) fl_RX6_24 rfl dX6_drop_21 ?_
  refine lv_bipush (pc := 24) (v := 16) hx hb dX6_drop_24 (by decide) ?_
  refine lv_imul (pc := 26) hx hb dX6_drop_26 ?_
  refine lv_iload_n (pc := 27) hx hb dX6_drop_27 rfl (lv_at hl 0 rfl) ?_
  refine lv_isub (pc := 28) hx hb dX6_drop_28 ?_
  obtain ⟨hc, h⟩ := h
  refine g_copyE (pc := 29) C hM hl.1 q2_94 ⟨q2_96, q2_95, q1_22⟩ (rc_lt ho0) (rc_lt ho0) (ce_rc ho0) (ce_rc ho0) hc ⟨Nat.le_of_ble_eq_true rfl, Nat.le_of_ble_eq_true rfl⟩ dX6_drop_29 (fun s29 es29 H locs hM => ?_)
  have h := h s29 es29
  refine lv_aload_n (pc := 32) hx hb dX6_drop_32 rfl (lv_at hl 1 rfl) ?_
  refine lv_dup (pc := 33) hx hb dX6_drop_33 rfl ?_
  refine g_get (pc := 34) (v := .int (s29 o0 1)) C hM (ru_lt ho0) (ce_ru ho0) fl_RX6_24 rfl dX6_drop_34 ?_
  refine lv_iconst (pc := 37) (v := 1) hx hb dX6_drop_37 (by decide) ?_
  refine lv_isub (pc := 38) hx hb dX6_drop_38 ?_
  refine g_putE (pc := 39) C hM (ru_lt ho0) (ce_ru ho0) fp_RX6_24 rfl rfl (Nat.le_of_ble_eq_true rfl) rfl dX6_drop_39 (fun s39 es39 H locs hM => ?_)
  have h := h s39 es39
  exact hret 42 _ _ _ _ dX6_drop_42 h hM
abbrev rm_X6_putPriority : Room := { frames := 0, cells := 0, slots := 0, locals := 0 }
theorem dX6_putPriority_0 : decode cX6_putPriority 0 = .ok (.aload_n 0, 1) := by decide +kernel
theorem dX6_putPriority_1 : decode cX6_putPriority 1 = .ok (.getfield 9, 3) := by decide +kernel
theorem dX6_putPriority_4 : decode cX6_putPriority 4 = .ok (.iload_n 1, 1) := by decide +kernel
theorem dX6_putPriority_5 : decode cX6_putPriority 5 = .ok (.bipush 16, 2) := by decide +kernel
theorem dX6_putPriority_7 : decode cX6_putPriority 7 = .ok (.imul, 1) := by decide +kernel
theorem dX6_putPriority_8 : decode cX6_putPriority 8 = .ok (.iconst 2, 1) := by decide +kernel
theorem dX6_putPriority_9 : decode cX6_putPriority 9 = .ok (.iadd, 1) := by decide +kernel
theorem dX6_putPriority_10 : decode cX6_putPriority 10 = .ok (.iload_n 2, 1) := by decide +kernel
theorem dX6_putPriority_11 : decode cX6_putPriority 11 = .ok (.iastore, 1) := by decide +kernel
theorem dX6_putPriority_12 : decode cX6_putPriority 12 = .ok (.return_, 1) := by decide +kernel
set_option maxHeartbeats 4000000 in
set_option maxRecDepth 100000 in
theorem w_X6_putPriority (l : Launch) (G : GP) (x : XP) (o0 : Nat) (a1 : Int32) (a2 : Int32) (σ : Sto) (P : Sto → Prop) (h : D_X6_putPriority o0 a1 a2 σ P) : g_Metv l yX6_putPriority cX6_putPriority 3 rm_X6_putPriority G x [.ref (g_ad G o0), .int a1, .int a2] σ P := by
  unfold D_X6_putPriority at h
  obtain ⟨ho0, h⟩ := h
  refine g_ofWv (by decide +kernel) (Nat.le_of_ble_eq_true rfl) ?_
  intro p e s m args below meth c Q ls C hM hl hret
  have hx := C.1
  have hb := C.2.1
  have hl : lv_has ls 3 [(0, .ref (g_ad G o0)), (1, .int a1), (2, .int a2)] := hl
  refine lv_aload_n (pc := 0) hx hb dX6_putPriority_0 rfl (lv_at hl 0 rfl) ?_
  refine g_get (pc := 1) (v := .ref (g_ad G (o0 + 1))) C hM (ru_lt ho0) (ce_ru ho0) fl_RX6_9 rfl dX6_putPriority_1 ?_
  refine lv_iload_n (pc := 4) hx hb dX6_putPriority_4 rfl (lv_at hl 1 rfl) ?_
  refine lv_bipush (pc := 5) (v := 16) hx hb dX6_putPriority_5 (by decide) ?_
  refine lv_imul (pc := 7) hx hb dX6_putPriority_7 ?_
  refine lv_iconst (pc := 8) (v := 2) hx hb dX6_putPriority_8 (by decide) ?_
  refine lv_iadd (pc := 9) hx hb dX6_putPriority_9 ?_
  refine lv_iload_n (pc := 10) hx hb dX6_putPriority_10 rfl (lv_at hl 2 rfl) ?_
  obtain ⟨hc, h⟩ := h
  refine g_iastE (pc := 11) C hM (rc_lt ho0) (ce_rc ho0) hc rfl dX6_putPriority_11 (fun s11 es11 H locs hM => ?_)
  have h := h s11 es11
  exact hret 12 _ _ _ _ dX6_putPriority_12 h hM
abbrev rm_X6_conditionCell : Room := { frames := 1, cells := 0, slots := 0, locals := 21 }
theorem dX6_conditionCell_0 : decode cX6_conditionCell 0 = .ok (.aload_n 0, 1) := by decide +kernel
theorem dX6_conditionCell_1 : decode cX6_conditionCell 1 = .ok (.getfield 9, 3) := by decide +kernel
theorem dX6_conditionCell_4 : decode cX6_conditionCell 4 = .ok (.iload_n 1, 1) := by decide +kernel
theorem dX6_conditionCell_5 : decode cX6_conditionCell 5 = .ok (.iload_n 2, 1) := by decide +kernel
theorem dX6_conditionCell_6 : decode cX6_conditionCell 6 = .ok (.invokestatic 15, 3) := by decide +kernel
theorem dX6_conditionCell_9 : decode cX6_conditionCell 9 = .ok (.iload_n 3, 1) := by decide +kernel
theorem dX6_conditionCell_10 : decode cX6_conditionCell 10 = .ok (.iadd, 1) := by decide +kernel
theorem dX6_conditionCell_11 : decode cX6_conditionCell 11 = .ok (.iaload, 1) := by decide +kernel
theorem dX6_conditionCell_12 : decode cX6_conditionCell 12 = .ok (.ireturn, 1) := by decide +kernel
set_option maxHeartbeats 4000000 in
set_option maxRecDepth 100000 in
theorem w_X6_conditionCell (l : Launch) (G : GP) (x : XP) (o0 : Nat) (a1 : Int32) (a2 : Int32) (a3 : Int32) (σ : Sto) (P : Int32 → Sto → Prop) (h : D_X6_conditionCell o0 a1 a2 a3 σ P) : g_Meti l yX6_conditionCell cX6_conditionCell 4 (some .int) rm_X6_conditionCell G x [.ref (g_ad G o0), .int a1, .int a2, .int a3] σ P := by
  unfold D_X6_conditionCell at h
  obtain ⟨ho0, h⟩ := h
  refine g_ofWi (by decide +kernel) (Nat.le_of_ble_eq_true rfl) ?_
  intro p e s m args below meth c Q ls C hM hl hret
  have hx := C.1
  have hb := C.2.1
  have hl : lv_has ls 4 [(0, .ref (g_ad G o0)), (1, .int a1), (2, .int a2), (3, .int a3)] := hl
  refine lv_aload_n (pc := 0) hx hb dX6_conditionCell_0 rfl (lv_at hl 0 rfl) ?_
  refine g_get (pc := 1) (v := .ref (g_ad G (o0 + 1))) C hM (ru_lt ho0) (ce_ru ho0) fl_RX6_9 rfl dX6_conditionCell_1 ?_
  refine lv_iload_n (pc := 4) hx hb dX6_conditionCell_4 rfl (lv_at hl 1 rfl) ?_
  refine lv_iload_n (pc := 5) hx hb dX6_conditionCell_5 rfl (lv_at hl 2 rfl) ?_
  refine g_cSi (pc := 6) C hM hl.1 ys_X6_conditionStart q3_51 (w_X6_conditionStart l G x a1 a2 σ _ h) rfl rfl ⟨⟨by decide, by decide⟩, by decide, by decide⟩ (Nat.le_of_ble_eq_true rfl) dX6_conditionCell_6 (fun r6 s6 H locs h hM => ?_)
  refine lv_iload_n (pc := 9) hx hb dX6_conditionCell_9 rfl (lv_at hl 3 rfl) ?_
  refine lv_iadd (pc := 10) hx hb dX6_conditionCell_10 ?_
  obtain ⟨hc, h⟩ := h
  refine g_ialdK (pc := 11) C hM (rc_lt ho0) (ce_rc ho0) hc rfl dX6_conditionCell_11 ?_
  exact hret 12 _ _ _ _ _ dX6_conditionCell_12 (by rfl) h hM
abbrev rm_X6_valuesOf : Room := { frames := 2, cells := 0, slots := 0, locals := 44 }
theorem dX6_valuesOf_0 : decode cX6_valuesOf 0 = .ok (.aload_n 0, 1) := by decide +kernel
theorem dX6_valuesOf_1 : decode cX6_valuesOf 1 = .ok (.iload_n 1, 1) := by decide +kernel
theorem dX6_valuesOf_2 : decode cX6_valuesOf 2 = .ok (.iload_n 2, 1) := by decide +kernel
theorem dX6_valuesOf_3 : decode cX6_valuesOf 3 = .ok (.iconst 2, 1) := by decide +kernel
theorem dX6_valuesOf_4 : decode cX6_valuesOf 4 = .ok (.invokevirtual 19, 3) := by decide +kernel
theorem dX6_valuesOf_7 : decode cX6_valuesOf 7 = .ok (.istore_n 3, 1) := by decide +kernel
theorem dX6_valuesOf_8 : decode cX6_valuesOf 8 = .ok (.aload_n 0, 1) := by decide +kernel
theorem dX6_valuesOf_9 : decode cX6_valuesOf 9 = .ok (.iload_n 1, 1) := by decide +kernel
theorem dX6_valuesOf_10 : decode cX6_valuesOf 10 = .ok (.iload_n 2, 1) := by decide +kernel
theorem dX6_valuesOf_11 : decode cX6_valuesOf 11 = .ok (.iconst 1, 1) := by decide +kernel
theorem dX6_valuesOf_12 : decode cX6_valuesOf 12 = .ok (.invokevirtual 19, 3) := by decide +kernel
theorem dX6_valuesOf_15 : decode cX6_valuesOf 15 = .ok (.tableswitch 59 0 3 #[29, 33, 42, 48], 29) := by decide +kernel
theorem dX6_valuesOf_44 : decode cX6_valuesOf 44 = .ok (.iconst 1, 1) := by decide +kernel
theorem dX6_valuesOf_45 : decode cX6_valuesOf 45 = .ok (.iload_n 3, 1) := by decide +kernel
theorem dX6_valuesOf_46 : decode cX6_valuesOf 46 = .ok (.ishl, 1) := by decide +kernel
theorem dX6_valuesOf_47 : decode cX6_valuesOf 47 = .ok (.ireturn, 1) := by decide +kernel
theorem dX6_valuesOf_48 : decode cX6_valuesOf 48 = .ok (.ldc 23, 2) := by decide +kernel
theorem dX6_valuesOf_50 : decode cX6_valuesOf 50 = .ok (.iconst 1, 1) := by decide +kernel
theorem dX6_valuesOf_51 : decode cX6_valuesOf 51 = .ok (.iload_n 3, 1) := by decide +kernel
theorem dX6_valuesOf_52 : decode cX6_valuesOf 52 = .ok (.ishl, 1) := by decide +kernel
theorem dX6_valuesOf_53 : decode cX6_valuesOf 53 = .ok (.iconst (-1), 1) := by decide +kernel
theorem dX6_valuesOf_54 : decode cX6_valuesOf 54 = .ok (.ixor, 1) := by decide +kernel
theorem dX6_valuesOf_55 : decode cX6_valuesOf 55 = .ok (.iand, 1) := by decide +kernel
theorem dX6_valuesOf_56 : decode cX6_valuesOf 56 = .ok (.ireturn, 1) := by decide +kernel
theorem dX6_valuesOf_57 : decode cX6_valuesOf 57 = .ok (.iconst 1, 1) := by decide +kernel
theorem dX6_valuesOf_58 : decode cX6_valuesOf 58 = .ok (.iload_n 3, 1) := by decide +kernel
theorem dX6_valuesOf_59 : decode cX6_valuesOf 59 = .ok (.ishl, 1) := by decide +kernel
theorem dX6_valuesOf_60 : decode cX6_valuesOf 60 = .ok (.iconst 1, 1) := by decide +kernel
theorem dX6_valuesOf_61 : decode cX6_valuesOf 61 = .ok (.isub, 1) := by decide +kernel
theorem dX6_valuesOf_62 : decode cX6_valuesOf 62 = .ok (.ireturn, 1) := by decide +kernel
theorem dX6_valuesOf_63 : decode cX6_valuesOf 63 = .ok (.ldc 23, 2) := by decide +kernel
theorem dX6_valuesOf_65 : decode cX6_valuesOf 65 = .ok (.iconst 1, 1) := by decide +kernel
theorem dX6_valuesOf_66 : decode cX6_valuesOf 66 = .ok (.iload_n 3, 1) := by decide +kernel
theorem dX6_valuesOf_67 : decode cX6_valuesOf 67 = .ok (.ishl, 1) := by decide +kernel
theorem dX6_valuesOf_68 : decode cX6_valuesOf 68 = .ok (.iconst 1, 1) := by decide +kernel
theorem dX6_valuesOf_69 : decode cX6_valuesOf 69 = .ok (.isub, 1) := by decide +kernel
theorem dX6_valuesOf_70 : decode cX6_valuesOf 70 = .ok (.iconst (-1), 1) := by decide +kernel
theorem dX6_valuesOf_71 : decode cX6_valuesOf 71 = .ok (.ixor, 1) := by decide +kernel
theorem dX6_valuesOf_72 : decode cX6_valuesOf 72 = .ok (.iand, 1) := by decide +kernel
theorem dX6_valuesOf_73 : decode cX6_valuesOf 73 = .ok (.ireturn, 1) := by decide +kernel
theorem dX6_valuesOf_74 : decode cX6_valuesOf 74 = .ok (.iload_n 3, 1) := by decide +kernel
theorem dX6_valuesOf_75 : decode cX6_valuesOf 75 = .ok (.ireturn, 1) := by decide +kernel
set_option maxHeartbeats 4000000 in
set_option maxRecDepth 100000 in
theorem w_X6_valuesOf (l : Launch) (G : GP) (x : XP) (o0 : Nat) (a1 : Int32) (a2 : Int32) (σ : Sto) (P : Int32 → Sto → Prop) (h : D_X6_valuesOf o0 a1 a2 σ P) : g_Meti l yX6_valuesOf cX6_valuesOf 4 (some .int) rm_X6_valuesOf G x [.ref (g_ad G o0), .int a1, .int a2] σ P := by
  unfold D_X6_valuesOf at h
  obtain ⟨ho0, h⟩ := h
  refine g_ofWi (by decide +kernel) (Nat.le_of_ble_eq_true rfl) ?_
  intro p e s m args below meth c Q ls C hM hl hret
  have hx := C.1
  have hb := C.2.1
  have hl : lv_has ls 4 [(0, .ref (g_ad G o0)), (1, .int a1), (2, .int a2)] := hl
  refine lv_aload_n (pc := 0) hx hb dX6_valuesOf_0 rfl (lv_at hl 0 rfl) ?_
  refine lv_iload_n (pc := 1) hx hb dX6_valuesOf_1 rfl (lv_at hl 1 rfl) ?_
  refine lv_iload_n (pc := 2) hx hb dX6_valuesOf_2 rfl (lv_at hl 2 rfl) ?_
  refine lv_iconst (pc := 3) (v := 2) hx hb dX6_valuesOf_3 (by decide) ?_
  refine g_cVi (pc := 4) C hM hl.1 yv_X6_conditionCell q3_123 (ru_lt ho0) (ce_ru ho0) rfl (w_X6_conditionCell l G x o0 a1 a2 2 σ _ h) rfl rfl ⟨⟨by decide, by decide⟩, by decide, by decide⟩ (Nat.le_of_ble_eq_true rfl) dX6_valuesOf_4 (fun r4 s4 H locs h hM => ?_)
  refine lv_istore_n (pc := 7) (lv' := [(3, .int r4), (0, .ref (g_ad G o0)), (1, .int a1), (2, .int a2)]) hx hb dX6_valuesOf_7 rfl hl (by decide) rfl (fun ls hl => ?_)
  refine lv_aload_n (pc := 8) hx hb dX6_valuesOf_8 rfl (lv_at hl 1 rfl) ?_
  refine lv_iload_n (pc := 9) hx hb dX6_valuesOf_9 rfl (lv_at hl 2 rfl) ?_
  refine lv_iload_n (pc := 10) hx hb dX6_valuesOf_10 rfl (lv_at hl 3 rfl) ?_
  refine lv_iconst (pc := 11) (v := 1) hx hb dX6_valuesOf_11 (by decide) ?_
  refine g_cVi (pc := 12) C hM hl.1 yv_X6_conditionCell q3_123 (ru_lt ho0) (ce_ru ho0) rfl (w_X6_conditionCell l G x o0 a1 a2 1 s4 _ h) rfl rfl ⟨⟨by decide, by decide⟩, by decide, by decide⟩ (Nat.le_of_ble_eq_true rfl) dX6_valuesOf_12 (fun r12 s12 H locs h hM => ?_)
  by_cases c15_0 : r12 = 0
  · have h := h.1 c15_0
    refine lv_tableIn (pc := 15) (tgt := 44) hx hb dX6_valuesOf_15 (by rw [c15_0]; decide) (by rw [c15_0]; decide) (by rw [c15_0]; rfl) (by decide) ?_
    refine lv_iconst (pc := 44) (v := 1) hx hb dX6_valuesOf_44 (by decide) ?_
    refine lv_iload_n (pc := 45) hx hb dX6_valuesOf_45 rfl (lv_at hl 0 rfl) ?_
    refine lv_ishl (pc := 46) hx hb dX6_valuesOf_46 ?_
    exact hret 47 _ _ _ _ _ dX6_valuesOf_47 (by rfl) h hM
  · have h := h.2 c15_0
    by_cases c15_1 : r12 = 1
    · have h := h.1 c15_1
      refine lv_tableIn (pc := 15) (tgt := 48) hx hb dX6_valuesOf_15 (by rw [c15_1]; decide) (by rw [c15_1]; decide) (by rw [c15_1]; rfl) (by decide) ?_
      refine lv_ldc (pc := 48) (v := 65535) hx hb C.2.2.2.1 (C.2.2.2.2.1 _ q3_128) dX6_valuesOf_48 ?_
      refine lv_iconst (pc := 50) (v := 1) hx hb dX6_valuesOf_50 (by decide) ?_
      refine lv_iload_n (pc := 51) hx hb dX6_valuesOf_51 rfl (lv_at hl 0 rfl) ?_
      refine lv_ishl (pc := 52) hx hb dX6_valuesOf_52 ?_
      refine lv_iconst (pc := 53) (v := (-1)) hx hb dX6_valuesOf_53 (by decide) ?_
      refine lv_ixor (pc := 54) hx hb dX6_valuesOf_54 ?_
      refine lv_iand (pc := 55) hx hb dX6_valuesOf_55 ?_
      exact hret 56 _ _ _ _ _ dX6_valuesOf_56 (by rfl) h hM
    · have h := h.2 c15_1
      by_cases c15_2 : r12 = 2
      · have h := h.1 c15_2
        refine lv_tableIn (pc := 15) (tgt := 57) hx hb dX6_valuesOf_15 (by rw [c15_2]; decide) (by rw [c15_2]; decide) (by rw [c15_2]; rfl) (by decide) ?_
        refine lv_iconst (pc := 57) (v := 1) hx hb dX6_valuesOf_57 (by decide) ?_
        refine lv_iload_n (pc := 58) hx hb dX6_valuesOf_58 rfl (lv_at hl 0 rfl) ?_
        refine lv_ishl (pc := 59) hx hb dX6_valuesOf_59 ?_
        refine lv_iconst (pc := 60) (v := 1) hx hb dX6_valuesOf_60 (by decide) ?_
        refine lv_isub (pc := 61) hx hb dX6_valuesOf_61 ?_
        exact hret 62 _ _ _ _ _ dX6_valuesOf_62 (by rfl) h hM
      · have h := h.2 c15_2
        by_cases c15_3 : r12 = 3
        · have h := h.1 c15_3
          refine lv_tableIn (pc := 15) (tgt := 63) hx hb dX6_valuesOf_15 (by rw [c15_3]; decide) (by rw [c15_3]; decide) (by rw [c15_3]; rfl) (by decide) ?_
          refine lv_ldc (pc := 63) (v := 65535) hx hb C.2.2.2.1 (C.2.2.2.2.1 _ q3_128) dX6_valuesOf_63 ?_
          refine lv_iconst (pc := 65) (v := 1) hx hb dX6_valuesOf_65 (by decide) ?_
          refine lv_iload_n (pc := 66) hx hb dX6_valuesOf_66 rfl (lv_at hl 0 rfl) ?_
          refine lv_ishl (pc := 67) hx hb dX6_valuesOf_67 ?_
          refine lv_iconst (pc := 68) (v := 1) hx hb dX6_valuesOf_68 (by decide) ?_
          refine lv_isub (pc := 69) hx hb dX6_valuesOf_69 ?_
          refine lv_iconst (pc := 70) (v := (-1)) hx hb dX6_valuesOf_70 (by decide) ?_
          refine lv_ixor (pc := 71) hx hb dX6_valuesOf_71 ?_
          refine lv_iand (pc := 72) hx hb dX6_valuesOf_72 ?_
          exact hret 73 _ _ _ _ _ dX6_valuesOf_73 (by rfl) h hM
        · have h := h.2 c15_3
          have ht : (r12).toInt < 0 ∨ 3 < (r12).toInt := by
            have nc15_0 := lv_neT c15_0 (a := 0) rfl
            have nc15_1 := lv_neT c15_1 (a := 1) rfl
            have nc15_2 := lv_neT c15_2 (a := 2) rfl
            have nc15_3 := lv_neT c15_3 (a := 3) rfl
            omega
          refine lv_tableOut (pc := 15) (tgt := 74) hx hb dX6_valuesOf_15 ht (by decide) ?_
          refine lv_iload_n (pc := 74) hx hb dX6_valuesOf_74 rfl (lv_at hl 0 rfl) ?_
          exact hret 75 _ _ _ _ _ dX6_valuesOf_75 (by rfl) h hM
abbrev rm_X6_excludes : Room := { frames := 3, cells := 0, slots := 0, locals := 67 }
theorem dX6_excludes_0 : decode cX6_excludes 0 = .ok (.aload_n 0, 1) := by decide +kernel
theorem dX6_excludes_1 : decode cX6_excludes 1 = .ok (.iload_n 1, 1) := by decide +kernel
theorem dX6_excludes_2 : decode cX6_excludes 2 = .ok (.iconst 3, 1) := by decide +kernel
theorem dX6_excludes_3 : decode cX6_excludes 3 = .ok (.invokevirtual 28, 3) := by decide +kernel
theorem dX6_excludes_6 : decode cX6_excludes 6 = .ok (.istore 4, 2) := by decide +kernel
theorem dX6_excludes_8 : decode cX6_excludes 8 = .ok (.iconst 0, 1) := by decide +kernel
theorem dX6_excludes_9 : decode cX6_excludes 9 = .ok (.istore 5, 2) := by decide +kernel
theorem dX6_excludes_11 : decode cX6_excludes 11 = .ok (.iload 5, 2) := by decide +kernel
theorem dX6_excludes_13 : decode cX6_excludes 13 = .ok (.iload 4, 2) := by decide +kernel
theorem dX6_excludes_15 : decode cX6_excludes 15 = .ok (.if_icmp .ge 37, 3) := by decide +kernel
theorem dX6_excludes_18 : decode cX6_excludes 18 = .ok (.aload_n 0, 1) := by decide +kernel
theorem dX6_excludes_19 : decode cX6_excludes 19 = .ok (.iload_n 1, 1) := by decide +kernel
theorem dX6_excludes_20 : decode cX6_excludes 20 = .ok (.iload 5, 2) := by decide +kernel
theorem dX6_excludes_22 : decode cX6_excludes 22 = .ok (.iconst 0, 1) := by decide +kernel
theorem dX6_excludes_23 : decode cX6_excludes 23 = .ok (.invokevirtual 19, 3) := by decide +kernel
theorem dX6_excludes_26 : decode cX6_excludes 26 = .ok (.iload_n 2, 1) := by decide +kernel
theorem dX6_excludes_27 : decode cX6_excludes 27 = .ok (.if_icmp .ne 19, 3) := by decide +kernel
theorem dX6_excludes_30 : decode cX6_excludes 30 = .ok (.aload_n 0, 1) := by decide +kernel
theorem dX6_excludes_31 : decode cX6_excludes 31 = .ok (.iload_n 1, 1) := by decide +kernel
theorem dX6_excludes_32 : decode cX6_excludes 32 = .ok (.iload 5, 2) := by decide +kernel
theorem dX6_excludes_34 : decode cX6_excludes 34 = .ok (.invokevirtual 49, 3) := by decide +kernel
theorem dX6_excludes_37 : decode cX6_excludes 37 = .ok (.iconst 1, 1) := by decide +kernel
theorem dX6_excludes_38 : decode cX6_excludes 38 = .ok (.iload_n 3, 1) := by decide +kernel
theorem dX6_excludes_39 : decode cX6_excludes 39 = .ok (.ishl, 1) := by decide +kernel
theorem dX6_excludes_40 : decode cX6_excludes 40 = .ok (.iand, 1) := by decide +kernel
theorem dX6_excludes_41 : decode cX6_excludes 41 = .ok (.ifCond .ne 5, 3) := by decide +kernel
theorem dX6_excludes_44 : decode cX6_excludes 44 = .ok (.iconst 1, 1) := by decide +kernel
theorem dX6_excludes_45 : decode cX6_excludes 45 = .ok (.ireturn, 1) := by decide +kernel
theorem dX6_excludes_46 : decode cX6_excludes 46 = .ok (.iinc 5 1, 3) := by decide +kernel
theorem dX6_excludes_49 : decode cX6_excludes 49 = .ok (.goto (-38), 3) := by decide +kernel
theorem dX6_excludes_52 : decode cX6_excludes 52 = .ok (.iconst 0, 1) := by decide +kernel
theorem dX6_excludes_53 : decode cX6_excludes 53 = .ok (.ireturn, 1) := by decide +kernel
set_option maxHeartbeats 4000000 in
set_option maxRecDepth 100000 in
theorem w_X6_excludes (l : Launch) (G : GP) (x : XP) (o0 : Nat) (a1 : Int32) (a2 : Int32) (a3 : Int32) (σ : Sto) (P : Int32 → Sto → Prop) (h : D_X6_excludes o0 a1 a2 a3 σ P) : g_Meti l yX6_excludes cX6_excludes 6 (some .boolean) rm_X6_excludes G x [.ref (g_ad G o0), .int a1, .int a2, .int a3] σ P := by
  unfold D_X6_excludes at h
  obtain ⟨ho0, h⟩ := h
  refine g_ofWi (by decide +kernel) (Nat.le_of_ble_eq_true rfl) ?_
  intro p e s m args below meth c Q ls C hM hl hret
  have hx := C.1
  have hb := C.2.1
  have hl : lv_has ls 6 [(0, .ref (g_ad G o0)), (1, .int a1), (2, .int a2), (3, .int a3)] := hl
  have h := h (fun (v4 : Int32) (v5 : Int32) (σ : Sto) => ∀ (H : Heap) (locs : List Loc) (ls : Array Slot), g_M G x σ s H locs → lv_has ls 6 [(0, .ref (g_ad G o0)), (1, .int a1), (2, .int a2), (3, .int a3), (4, .int v4), (5, .int v5)] → W p l e rm_X6_excludes s m args below meth c H locs 0 0 Q (F0 m 11 ls []))
  have h := h (by
    intro v4 v5 σ h  H locs ls hM hl
    refine lv_iload (pc := 11) hx hb dX6_excludes_11 (lv_at hl 5 rfl) ?_
    refine lv_iload (pc := 13) hx hb dX6_excludes_13 (lv_at hl 4 rfl) ?_
    refine lv_icmp_ge (pc := 15) (tgt := 52) hx hb dX6_excludes_15 (by decide) (fun c15 => ?_) (fun c15 => ?_)
    · have h := h.1 c15
      refine lv_iconst (pc := 52) (v := 0) hx hb dX6_excludes_52 (by decide) ?_
      exact hret 53 _ _ _ _ _ dX6_excludes_53 (by rfl) h hM
    · have h := h.2 c15
      refine lv_aload_n (pc := 18) hx hb dX6_excludes_18 rfl (lv_at hl 0 rfl) ?_
      refine lv_iload_n (pc := 19) hx hb dX6_excludes_19 rfl (lv_at hl 1 rfl) ?_
      refine lv_iload (pc := 20) hx hb dX6_excludes_20 (lv_at hl 5 rfl) ?_
      refine lv_iconst (pc := 22) (v := 0) hx hb dX6_excludes_22 (by decide) ?_
      refine g_cVi (pc := 23) C hM hl.1 yv_X6_conditionCell q3_123 (ru_lt ho0) (ce_ru ho0) rfl (w_X6_conditionCell l G x o0 a1 v5 0 σ _ h) rfl rfl ⟨⟨by decide, by decide⟩, by decide, by decide⟩ (Nat.le_of_ble_eq_true rfl) dX6_excludes_23 (fun r23 s23 H locs h hM => ?_)
      refine lv_iload_n (pc := 26) hx hb dX6_excludes_26 rfl (lv_at hl 2 rfl) ?_
      refine lv_icmp_ne (pc := 27) (tgt := 46) hx hb dX6_excludes_27 (by decide) (fun c27 => ?_) (fun c27 => ?_)
      · have h := h.2 c27
        refine lv_iinc (pc := 46) (v := (v5 + 1)) (lv' := [(5, .int (v5 + 1)), (0, .ref (g_ad G o0)), (1, .int a1), (2, .int a2), (3, .int a3), (4, .int v4)]) hx hb dX6_excludes_46 hl (k := 5) rfl (by rfl) (by decide) rfl (fun ls hl => ?_)
        refine lv_goto (pc := 49) (tgt := 11) hx hb dX6_excludes_49 (by decide) ?_
        exact h _ _ _ hM (lv_sub hl [1, 2, 3, 4, 5, 0] rfl)
      · have h := h.1 c27
        refine lv_aload_n (pc := 30) hx hb dX6_excludes_30 rfl (lv_at hl 0 rfl) ?_
        refine lv_iload_n (pc := 31) hx hb dX6_excludes_31 rfl (lv_at hl 1 rfl) ?_
        refine lv_iload (pc := 32) hx hb dX6_excludes_32 (lv_at hl 5 rfl) ?_
        refine g_cVi (pc := 34) C hM hl.1 yv_X6_valuesOf q3_124 (ru_lt ho0) (ce_ru ho0) rfl (w_X6_valuesOf l G x o0 a1 v5 s23 _ h) rfl rfl ⟨⟨by decide, by decide⟩, by decide, by decide⟩ (Nat.le_of_ble_eq_true rfl) dX6_excludes_34 (fun r34 s34 H locs h hM => ?_)
        refine lv_iconst (pc := 37) (v := 1) hx hb dX6_excludes_37 (by decide) ?_
        refine lv_iload_n (pc := 38) hx hb dX6_excludes_38 rfl (lv_at hl 3 rfl) ?_
        refine lv_ishl (pc := 39) hx hb dX6_excludes_39 ?_
        refine lv_iand (pc := 40) hx hb dX6_excludes_40 ?_
        refine lv_if_ne (pc := 41) (tgt := 46) hx hb dX6_excludes_41 (by decide) (fun c41 => ?_) (fun c41 => ?_)
        · have h := h.2 c41
          refine lv_iinc (pc := 46) (v := (v5 + 1)) (lv' := [(5, .int (v5 + 1)), (0, .ref (g_ad G o0)), (1, .int a1), (2, .int a2), (3, .int a3), (4, .int v4)]) hx hb dX6_excludes_46 hl (k := 5) rfl (by rfl) (by decide) rfl (fun ls hl => ?_)
          refine lv_goto (pc := 49) (tgt := 11) hx hb dX6_excludes_49 (by decide) ?_
          exact h _ _ _ hM (lv_sub hl [1, 2, 3, 4, 5, 0] rfl)
        · have h := h.1 c41
          refine lv_iconst (pc := 44) (v := 1) hx hb dX6_excludes_44 (by decide) ?_
          exact hret 45 _ _ _ _ _ dX6_excludes_45 (by rfl) h hM)
  refine lv_aload_n (pc := 0) hx hb dX6_excludes_0 rfl (lv_at hl 0 rfl) ?_
  refine lv_iload_n (pc := 1) hx hb dX6_excludes_1 rfl (lv_at hl 1 rfl) ?_
  refine lv_iconst (pc := 2) (v := 3) hx hb dX6_excludes_2 (by decide) ?_
  refine g_cVi (pc := 3) C hM hl.1 yv_X6_cell q3_50 (ru_lt ho0) (ce_ru ho0) rfl (w_X6_cell l G x o0 a1 3 σ _ h) rfl rfl ⟨⟨by decide, by decide⟩, by decide, by decide⟩ (Nat.le_of_ble_eq_true rfl) dX6_excludes_3 (fun r3 s3 H locs h hM => ?_)
  refine lv_istore (pc := 6) (lv' := [(4, .int r3), (0, .ref (g_ad G o0)), (1, .int a1), (2, .int a2), (3, .int a3)]) hx hb dX6_excludes_6 hl (by decide) rfl (fun ls hl => ?_)
  refine lv_iconst (pc := 8) (v := 0) hx hb dX6_excludes_8 (by decide) ?_
  refine lv_istore (pc := 9) (lv' := [(5, .int 0), (4, .int r3), (0, .ref (g_ad G o0)), (1, .int a1), (2, .int a2), (3, .int a3)]) hx hb dX6_excludes_9 hl (by decide) rfl (fun ls hl => ?_)
  exact h _ _ _ hM (lv_sub hl [2, 3, 4, 5, 1, 0] rfl)
abbrev rm_X6_dropConditionsOn : Room := { frames := 2, cells := 0, slots := 0, locals := 44 }
theorem dX6_dropConditionsOn_0 : decode cX6_dropConditionsOn 0 = .ok (.aload_n 0, 1) := by decide +kernel
theorem dX6_dropConditionsOn_1 : decode cX6_dropConditionsOn 1 = .ok (.iload_n 1, 1) := by decide +kernel
theorem dX6_dropConditionsOn_2 : decode cX6_dropConditionsOn 2 = .ok (.iconst 3, 1) := by decide +kernel
theorem dX6_dropConditionsOn_3 : decode cX6_dropConditionsOn 3 = .ok (.invokevirtual 28, 3) := by decide +kernel
theorem dX6_dropConditionsOn_6 : decode cX6_dropConditionsOn 6 = .ok (.istore_n 3, 1) := by decide +kernel
theorem dX6_dropConditionsOn_7 : decode cX6_dropConditionsOn 7 = .ok (.iconst 0, 1) := by decide +kernel
theorem dX6_dropConditionsOn_8 : decode cX6_dropConditionsOn 8 = .ok (.istore 4, 2) := by decide +kernel
theorem dX6_dropConditionsOn_10 : decode cX6_dropConditionsOn 10 = .ok (.iconst 0, 1) := by decide +kernel
theorem dX6_dropConditionsOn_11 : decode cX6_dropConditionsOn 11 = .ok (.istore 5, 2) := by decide +kernel
theorem dX6_dropConditionsOn_13 : decode cX6_dropConditionsOn 13 = .ok (.iload 5, 2) := by decide +kernel
theorem dX6_dropConditionsOn_15 : decode cX6_dropConditionsOn 15 = .ok (.iload_n 3, 1) := by decide +kernel
theorem dX6_dropConditionsOn_16 : decode cX6_dropConditionsOn 16 = .ok (.if_icmp .ge 48, 3) := by decide +kernel
theorem dX6_dropConditionsOn_19 : decode cX6_dropConditionsOn 19 = .ok (.aload_n 0, 1) := by decide +kernel
theorem dX6_dropConditionsOn_20 : decode cX6_dropConditionsOn 20 = .ok (.iload_n 1, 1) := by decide +kernel
theorem dX6_dropConditionsOn_21 : decode cX6_dropConditionsOn 21 = .ok (.iload 5, 2) := by decide +kernel
theorem dX6_dropConditionsOn_23 : decode cX6_dropConditionsOn 23 = .ok (.iconst 0, 1) := by decide +kernel
theorem dX6_dropConditionsOn_24 : decode cX6_dropConditionsOn 24 = .ok (.invokevirtual 19, 3) := by decide +kernel
theorem dX6_dropConditionsOn_27 : decode cX6_dropConditionsOn 27 = .ok (.iload_n 2, 1) := by decide +kernel
theorem dX6_dropConditionsOn_28 : decode cX6_dropConditionsOn 28 = .ok (.if_icmp .eq 30, 3) := by decide +kernel
theorem dX6_dropConditionsOn_31 : decode cX6_dropConditionsOn 31 = .ok (.aload_n 0, 1) := by decide +kernel
theorem dX6_dropConditionsOn_32 : decode cX6_dropConditionsOn 32 = .ok (.getfield 9, 3) := by decide +kernel
theorem dX6_dropConditionsOn_35 : decode cX6_dropConditionsOn 35 = .ok (.iload_n 1, 1) := by decide +kernel
theorem dX6_dropConditionsOn_36 : decode cX6_dropConditionsOn 36 = .ok (.iload 5, 2) := by decide +kernel
theorem dX6_dropConditionsOn_38 : decode cX6_dropConditionsOn 38 = .ok (.invokestatic 15, 3) := by decide +kernel
theorem dX6_dropConditionsOn_41 : decode cX6_dropConditionsOn 41 = .ok (.aload_n 0, 1) := by decide +kernel
theorem dX6_dropConditionsOn_42 : decode cX6_dropConditionsOn 42 = .ok (.getfield 9, 3) := by decide +kernel
theorem dX6_dropConditionsOn_45 : decode cX6_dropConditionsOn 45 = .ok (.iload_n 1, 1) := by decide +kernel
theorem dX6_dropConditionsOn_46 : decode cX6_dropConditionsOn 46 = .ok (.iload 4, 2) := by decide +kernel
theorem dX6_dropConditionsOn_48 : decode cX6_dropConditionsOn 48 = .ok (.invokestatic 15, 3) := by decide +kernel
theorem dX6_dropConditionsOn_51 : decode cX6_dropConditionsOn 51 = .ok (.iconst 3, 1) := by decide +kernel
theorem dX6_dropConditionsOn_52 : decode cX6_dropConditionsOn 52 = .ok (.invokestatic 31, 3) := by decide +kernel
theorem dX6_dropConditionsOn_55 : decode cX6_dropConditionsOn 55 = .ok (.iinc 4 1, 3) := by decide +kernel
theorem dX6_dropConditionsOn_58 : decode cX6_dropConditionsOn 58 = .ok (.iinc 5 1, 3) := by decide +kernel
theorem dX6_dropConditionsOn_61 : decode cX6_dropConditionsOn 61 = .ok (.goto (-48), 3) := by decide +kernel
theorem dX6_dropConditionsOn_64 : decode cX6_dropConditionsOn 64 = .ok (.aload_n 0, 1) := by decide +kernel
theorem dX6_dropConditionsOn_65 : decode cX6_dropConditionsOn 65 = .ok (.getfield 9, 3) := by decide +kernel
theorem dX6_dropConditionsOn_68 : decode cX6_dropConditionsOn 68 = .ok (.iload_n 1, 1) := by decide +kernel
theorem dX6_dropConditionsOn_69 : decode cX6_dropConditionsOn 69 = .ok (.bipush 16, 2) := by decide +kernel
theorem dX6_dropConditionsOn_71 : decode cX6_dropConditionsOn 71 = .ok (.imul, 1) := by decide +kernel
theorem dX6_dropConditionsOn_72 : decode cX6_dropConditionsOn 72 = .ok (.iconst 3, 1) := by decide +kernel
theorem dX6_dropConditionsOn_73 : decode cX6_dropConditionsOn 73 = .ok (.iadd, 1) := by decide +kernel
theorem dX6_dropConditionsOn_74 : decode cX6_dropConditionsOn 74 = .ok (.iload 4, 2) := by decide +kernel
theorem dX6_dropConditionsOn_76 : decode cX6_dropConditionsOn 76 = .ok (.iastore, 1) := by decide +kernel
theorem dX6_dropConditionsOn_77 : decode cX6_dropConditionsOn 77 = .ok (.return_, 1) := by decide +kernel
set_option maxHeartbeats 4000000 in
set_option maxRecDepth 100000 in
theorem w_X6_dropConditionsOn (l : Launch) (G : GP) (x : XP) (o0 : Nat) (a1 : Int32) (a2 : Int32) (σ : Sto) (P : Sto → Prop) (h : D_X6_dropConditionsOn o0 a1 a2 σ P) : g_Metv l yX6_dropConditionsOn cX6_dropConditionsOn 6 rm_X6_dropConditionsOn G x [.ref (g_ad G o0), .int a1, .int a2] σ P := by
  unfold D_X6_dropConditionsOn at h
  obtain ⟨ho0, h⟩ := h
  refine g_ofWv (by decide +kernel) (Nat.le_of_ble_eq_true rfl) ?_
  intro p e s m args below meth c Q ls C hM hl hret
  have hx := C.1
  have hb := C.2.1
  have hl : lv_has ls 6 [(0, .ref (g_ad G o0)), (1, .int a1), (2, .int a2)] := hl
  have h := h (fun (v3 : Int32) (v4 : Int32) (v5 : Int32) (σ : Sto) => ∀ (H : Heap) (locs : List Loc) (ls : Array Slot), g_M G x σ s H locs → lv_has ls 6 [(0, .ref (g_ad G o0)), (1, .int a1), (2, .int a2), (3, .int v3), (4, .int v4), (5, .int v5)] → W p l e rm_X6_dropConditionsOn s m args below meth c H locs 0 0 Q (F0 m 13 ls []))
  have h := h (by
    intro v3 v4 v5 σ h  H locs ls hM hl
    refine lv_iload (pc := 13) hx hb dX6_dropConditionsOn_13 (lv_at hl 5 rfl) ?_
    refine lv_iload_n (pc := 15) hx hb dX6_dropConditionsOn_15 rfl (lv_at hl 3 rfl) ?_
    refine lv_icmp_ge (pc := 16) (tgt := 64) hx hb dX6_dropConditionsOn_16 (by decide) (fun c16 => ?_) (fun c16 => ?_)
    · have h := h.1 c16
      refine lv_aload_n (pc := 64) hx hb dX6_dropConditionsOn_64 rfl (lv_at hl 0 rfl) ?_
      refine g_get (pc := 65) (v := .ref (g_ad G (o0 + 1))) C hM (ru_lt ho0) (ce_ru ho0) fl_RX6_9 rfl dX6_dropConditionsOn_65 ?_
      refine lv_iload_n (pc := 68) hx hb dX6_dropConditionsOn_68 rfl (lv_at hl 1 rfl) ?_
      refine lv_bipush (pc := 69) (v := 16) hx hb dX6_dropConditionsOn_69 (by decide) ?_
      refine lv_imul (pc := 71) hx hb dX6_dropConditionsOn_71 ?_
      refine lv_iconst (pc := 72) (v := 3) hx hb dX6_dropConditionsOn_72 (by decide) ?_
      refine lv_iadd (pc := 73) hx hb dX6_dropConditionsOn_73 ?_
      refine lv_iload (pc := 74) hx hb dX6_dropConditionsOn_74 (lv_at hl 4 rfl) ?_
      obtain ⟨hc, h⟩ := h
      refine g_iastE (pc := 76) C hM (rc_lt ho0) (ce_rc ho0) hc rfl dX6_dropConditionsOn_76 (fun s76 es76 H locs hM => ?_)
      have h := h s76 es76
      exact hret 77 _ _ _ _ dX6_dropConditionsOn_77 h hM
    · have h := h.2 c16
      refine lv_aload_n (pc := 19) hx hb dX6_dropConditionsOn_19 rfl (lv_at hl 0 rfl) ?_
      refine lv_iload_n (pc := 20) hx hb dX6_dropConditionsOn_20 rfl (lv_at hl 1 rfl) ?_
      refine lv_iload (pc := 21) hx hb dX6_dropConditionsOn_21 (lv_at hl 5 rfl) ?_
      refine lv_iconst (pc := 23) (v := 0) hx hb dX6_dropConditionsOn_23 (by decide) ?_
      refine g_cVi (pc := 24) C hM hl.1 yv_X6_conditionCell q3_123 (ru_lt ho0) (ce_ru ho0) rfl (w_X6_conditionCell l G x o0 a1 v5 0 σ _ h) rfl rfl ⟨⟨by decide, by decide⟩, by decide, by decide⟩ (Nat.le_of_ble_eq_true rfl) dX6_dropConditionsOn_24 (fun r24 s24 H locs h hM => ?_)
      refine lv_iload_n (pc := 27) hx hb dX6_dropConditionsOn_27 rfl (lv_at hl 2 rfl) ?_
      refine lv_icmp_eq (pc := 28) (tgt := 58) hx hb dX6_dropConditionsOn_28 (by decide) (fun c28 => ?_) (fun c28 => ?_)
      · have h := h.1 c28
        refine lv_iinc (pc := 58) (v := (v5 + 1)) (lv' := [(5, .int (v5 + 1)), (0, .ref (g_ad G o0)), (1, .int a1), (2, .int a2), (3, .int v3), (4, .int v4)]) hx hb dX6_dropConditionsOn_58 hl (k := 5) rfl (by rfl) (by decide) rfl (fun ls hl => ?_)
        refine lv_goto (pc := 61) (tgt := 13) hx hb dX6_dropConditionsOn_61 (by decide) ?_
        exact h _ _ _ hM (lv_sub hl [1, 2, 3, 4, 5, 0] rfl)
      · have h := h.2 c28
        refine lv_aload_n (pc := 31) hx hb dX6_dropConditionsOn_31 rfl (lv_at hl 0 rfl) ?_
        refine g_get (pc := 32) (v := .ref (g_ad G (o0 + 1))) C hM (ru_lt ho0) (ce_ru ho0) fl_RX6_9 rfl dX6_dropConditionsOn_32 ?_
        refine lv_iload_n (pc := 35) hx hb dX6_dropConditionsOn_35 rfl (lv_at hl 1 rfl) ?_
        refine lv_iload (pc := 36) hx hb dX6_dropConditionsOn_36 (lv_at hl 5 rfl) ?_
        refine g_cSi (pc := 38) C hM hl.1 ys_X6_conditionStart q3_51 (w_X6_conditionStart l G x a1 v5 s24 _ h) rfl rfl ⟨⟨by decide, by decide⟩, by decide, by decide⟩ (Nat.le_of_ble_eq_true rfl) dX6_dropConditionsOn_38 (fun r38 s38 H locs h hM => ?_)
        refine lv_aload_n (pc := 41) hx hb dX6_dropConditionsOn_41 rfl (lv_at hl 0 rfl) ?_
        refine g_get (pc := 42) (v := .ref (g_ad G (o0 + 1))) C hM (ru_lt ho0) (ce_ru ho0) fl_RX6_9 rfl dX6_dropConditionsOn_42 ?_
        refine lv_iload_n (pc := 45) hx hb dX6_dropConditionsOn_45 rfl (lv_at hl 1 rfl) ?_
        refine lv_iload (pc := 46) hx hb dX6_dropConditionsOn_46 (lv_at hl 4 rfl) ?_
        refine g_cSi (pc := 48) C hM hl.1 ys_X6_conditionStart q3_51 (w_X6_conditionStart l G x a1 v4 s38 _ h) rfl rfl ⟨⟨by decide, by decide⟩, by decide, by decide⟩ (Nat.le_of_ble_eq_true rfl) dX6_dropConditionsOn_48 (fun r48 s48 H locs h hM => ?_)
        refine lv_iconst (pc := 51) (v := 3) hx hb dX6_dropConditionsOn_51 (by decide) ?_
        obtain ⟨hc, h⟩ := h
        refine g_copyE (pc := 52) C hM hl.1 q2_94 ⟨q2_96, q2_95, q1_22⟩ (rc_lt ho0) (rc_lt ho0) (ce_rc ho0) (ce_rc ho0) hc ⟨Nat.le_of_ble_eq_true rfl, Nat.le_of_ble_eq_true rfl⟩ dX6_dropConditionsOn_52 (fun s52 es52 H locs hM => ?_)
        have h := h s52 es52
        refine lv_iinc (pc := 55) (v := (v4 + 1)) (lv' := [(4, .int (v4 + 1)), (0, .ref (g_ad G o0)), (1, .int a1), (2, .int a2), (3, .int v3), (5, .int v5)]) hx hb dX6_dropConditionsOn_55 hl (k := 4) rfl (by rfl) (by decide) rfl (fun ls hl => ?_)
        refine lv_iinc (pc := 58) (v := (v5 + 1)) (lv' := [(5, .int (v5 + 1)), (4, .int (v4 + 1)), (0, .ref (g_ad G o0)), (1, .int a1), (2, .int a2), (3, .int v3)]) hx hb dX6_dropConditionsOn_58 hl (k := 5) rfl (by rfl) (by decide) rfl (fun ls hl => ?_)
        refine lv_goto (pc := 61) (tgt := 13) hx hb dX6_dropConditionsOn_61 (by decide) ?_
        exact h _ _ _ hM (lv_sub hl [2, 3, 4, 5, 1, 0] rfl))
  refine lv_aload_n (pc := 0) hx hb dX6_dropConditionsOn_0 rfl (lv_at hl 0 rfl) ?_
  refine lv_iload_n (pc := 1) hx hb dX6_dropConditionsOn_1 rfl (lv_at hl 1 rfl) ?_
  refine lv_iconst (pc := 2) (v := 3) hx hb dX6_dropConditionsOn_2 (by decide) ?_
  refine g_cVi (pc := 3) C hM hl.1 yv_X6_cell q3_50 (ru_lt ho0) (ce_ru ho0) rfl (w_X6_cell l G x o0 a1 3 σ _ h) rfl rfl ⟨⟨by decide, by decide⟩, by decide, by decide⟩ (Nat.le_of_ble_eq_true rfl) dX6_dropConditionsOn_3 (fun r3 s3 H locs h hM => ?_)
  refine lv_istore_n (pc := 6) (lv' := [(3, .int r3), (0, .ref (g_ad G o0)), (1, .int a1), (2, .int a2)]) hx hb dX6_dropConditionsOn_6 rfl hl (by decide) rfl (fun ls hl => ?_)
  refine lv_iconst (pc := 7) (v := 0) hx hb dX6_dropConditionsOn_7 (by decide) ?_
  refine lv_istore (pc := 8) (lv' := [(4, .int 0), (3, .int r3), (0, .ref (g_ad G o0)), (1, .int a1), (2, .int a2)]) hx hb dX6_dropConditionsOn_8 hl (by decide) rfl (fun ls hl => ?_)
  refine lv_iconst (pc := 10) (v := 0) hx hb dX6_dropConditionsOn_10 (by decide) ?_
  refine lv_istore (pc := 11) (lv' := [(5, .int 0), (4, .int 0), (3, .int r3), (0, .ref (g_ad G o0)), (1, .int a1), (2, .int a2)]) hx hb dX6_dropConditionsOn_11 hl (by decide) rfl (fun ls hl => ?_)
  exact h _ _ _ hM (lv_sub hl [3, 4, 5, 2, 1, 0] rfl)
abbrev rm_X6_narrow : Room := { frames := 4, cells := 0, slots := 0, locals := 92 }
theorem dX6_narrow_0 : decode cX6_narrow 0 = .ok (.iconst 0, 1) := by decide +kernel
theorem dX6_narrow_1 : decode cX6_narrow 1 = .ok (.istore_n 3, 1) := by decide +kernel
theorem dX6_narrow_2 : decode cX6_narrow 2 = .ok (.aload_n 0, 1) := by decide +kernel
theorem dX6_narrow_3 : decode cX6_narrow 3 = .ok (.getfield 24, 3) := by decide +kernel
theorem dX6_narrow_6 : decode cX6_narrow 6 = .ok (.iconst 1, 1) := by decide +kernel
theorem dX6_narrow_7 : decode cX6_narrow 7 = .ok (.isub, 1) := by decide +kernel
theorem dX6_narrow_8 : decode cX6_narrow 8 = .ok (.istore 4, 2) := by decide +kernel
theorem dX6_narrow_10 : decode cX6_narrow 10 = .ok (.iload 4, 2) := by decide +kernel
theorem dX6_narrow_12 : decode cX6_narrow 12 = .ok (.ifCond .lt 39, 3) := by decide +kernel
theorem dX6_narrow_15 : decode cX6_narrow 15 = .ok (.aload_n 0, 1) := by decide +kernel
theorem dX6_narrow_16 : decode cX6_narrow 16 = .ok (.iload 4, 2) := by decide +kernel
theorem dX6_narrow_18 : decode cX6_narrow 18 = .ok (.iload_n 1, 1) := by decide +kernel
theorem dX6_narrow_19 : decode cX6_narrow 19 = .ok (.iload_n 2, 1) := by decide +kernel
theorem dX6_narrow_20 : decode cX6_narrow 20 = .ok (.invokevirtual 37, 3) := by decide +kernel
theorem dX6_narrow_23 : decode cX6_narrow 23 = .ok (.ifCond .eq 15, 3) := by decide +kernel
theorem dX6_narrow_26 : decode cX6_narrow 26 = .ok (.aload_n 0, 1) := by decide +kernel
theorem dX6_narrow_27 : decode cX6_narrow 27 = .ok (.iload 4, 2) := by decide +kernel
theorem dX6_narrow_29 : decode cX6_narrow 29 = .ok (.invokevirtual 41, 3) := by decide +kernel
theorem dX6_narrow_32 : decode cX6_narrow 32 = .ok (.iinc 3 1, 3) := by decide +kernel
theorem dX6_narrow_35 : decode cX6_narrow 35 = .ok (.goto 10, 3) := by decide +kernel
theorem dX6_narrow_38 : decode cX6_narrow 38 = .ok (.aload_n 0, 1) := by decide +kernel
theorem dX6_narrow_39 : decode cX6_narrow 39 = .ok (.iload 4, 2) := by decide +kernel
theorem dX6_narrow_41 : decode cX6_narrow 41 = .ok (.iload_n 1, 1) := by decide +kernel
theorem dX6_narrow_42 : decode cX6_narrow 42 = .ok (.invokevirtual 45, 3) := by decide +kernel
theorem dX6_narrow_45 : decode cX6_narrow 45 = .ok (.iinc 4 (-1), 3) := by decide +kernel
theorem dX6_narrow_48 : decode cX6_narrow 48 = .ok (.goto (-38), 3) := by decide +kernel
theorem dX6_narrow_51 : decode cX6_narrow 51 = .ok (.iload_n 3, 1) := by decide +kernel
theorem dX6_narrow_52 : decode cX6_narrow 52 = .ok (.ireturn, 1) := by decide +kernel
set_option maxHeartbeats 4000000 in
set_option maxRecDepth 100000 in
theorem w_X6_narrow (l : Launch) (G : GP) (x : XP) (o0 : Nat) (a1 : Int32) (a2 : Int32) (σ : Sto) (P : Int32 → Sto → Prop) (h : D_X6_narrow o0 a1 a2 σ P) : g_Meti l yX6_narrow cX6_narrow 5 (some .int) rm_X6_narrow G x [.ref (g_ad G o0), .int a1, .int a2] σ P := by
  unfold D_X6_narrow at h
  obtain ⟨ho0, h⟩ := h
  refine g_ofWi (by decide +kernel) (Nat.le_of_ble_eq_true rfl) ?_
  intro p e s m args below meth c Q ls C hM hl hret
  have hx := C.1
  have hb := C.2.1
  have hl : lv_has ls 5 [(0, .ref (g_ad G o0)), (1, .int a1), (2, .int a2)] := hl
  have h := h (fun (v3 : Int32) (v4 : Int32) (σ : Sto) => ∀ (H : Heap) (locs : List Loc) (ls : Array Slot), g_M G x σ s H locs → lv_has ls 5 [(0, .ref (g_ad G o0)), (1, .int a1), (2, .int a2), (3, .int v3), (4, .int v4)] → W p l e rm_X6_narrow s m args below meth c H locs 0 0 Q (F0 m 10 ls []))
  have h := h (by
    intro v3 v4 σ h  H locs ls hM hl
    refine lv_iload (pc := 10) hx hb dX6_narrow_10 (lv_at hl 4 rfl) ?_
    refine lv_if_lt (pc := 12) (tgt := 51) hx hb dX6_narrow_12 (by decide) (fun c12 => ?_) (fun c12 => ?_)
    · have h := h.1 c12
      refine lv_iload_n (pc := 51) hx hb dX6_narrow_51 rfl (lv_at hl 3 rfl) ?_
      exact hret 52 _ _ _ _ _ dX6_narrow_52 (by rfl) h hM
    · have h := h.2 c12
      refine lv_aload_n (pc := 15) hx hb dX6_narrow_15 rfl (lv_at hl 0 rfl) ?_
      refine lv_iload (pc := 16) hx hb dX6_narrow_16 (lv_at hl 4 rfl) ?_
      refine lv_iload_n (pc := 18) hx hb dX6_narrow_18 rfl (lv_at hl 1 rfl) ?_
      refine lv_iload_n (pc := 19) hx hb dX6_narrow_19 rfl (lv_at hl 2 rfl) ?_
      refine g_cVi (pc := 20) C hM hl.1 yv_X6_excludes q3_119 (ru_lt ho0) (ce_ru ho0) rfl (w_X6_excludes l G x o0 v4 a1 a2 σ _ h) rfl rfl ⟨⟨by decide, by decide⟩, by decide, by decide⟩ (Nat.le_of_ble_eq_true rfl) dX6_narrow_20 (fun r20 s20 H locs h hM => ?_)
      refine lv_if_eq (pc := 23) (tgt := 38) hx hb dX6_narrow_23 (by decide) (fun c23 => ?_) (fun c23 => ?_)
      · have h := h.1 c23
        refine lv_aload_n (pc := 38) hx hb dX6_narrow_38 rfl (lv_at hl 0 rfl) ?_
        refine lv_iload (pc := 39) hx hb dX6_narrow_39 (lv_at hl 4 rfl) ?_
        refine lv_iload_n (pc := 41) hx hb dX6_narrow_41 rfl (lv_at hl 1 rfl) ?_
        refine g_cVv (pc := 42) C hM hl.1 yv_X6_dropConditionsOn q3_130 (ru_lt ho0) (ce_ru ho0) rfl (w_X6_dropConditionsOn l G x o0 v4 a1 s20 _ h) rfl rfl ⟨⟨by decide, by decide⟩, by decide, by decide⟩ (Nat.le_of_ble_eq_true rfl) dX6_narrow_42 (fun s42 H locs h hM => ?_)
        refine lv_iinc (pc := 45) (v := (v4 + (-1))) (lv' := [(4, .int (v4 + (-1))), (0, .ref (g_ad G o0)), (1, .int a1), (2, .int a2), (3, .int v3)]) hx hb dX6_narrow_45 hl (k := 4) rfl (by rfl) (by decide) rfl (fun ls hl => ?_)
        refine lv_goto (pc := 48) (tgt := 10) hx hb dX6_narrow_48 (by decide) ?_
        exact h _ _ _ hM (lv_sub hl [1, 2, 3, 4, 0] rfl)
      · have h := h.2 c23
        refine lv_aload_n (pc := 26) hx hb dX6_narrow_26 rfl (lv_at hl 0 rfl) ?_
        refine lv_iload (pc := 27) hx hb dX6_narrow_27 (lv_at hl 4 rfl) ?_
        refine g_cVv (pc := 29) C hM hl.1 yv_X6_drop q3_129 (ru_lt ho0) (ce_ru ho0) rfl (w_X6_drop l G x o0 v4 s20 _ h) rfl rfl ⟨⟨by decide, by decide⟩, by decide, by decide⟩ (Nat.le_of_ble_eq_true rfl) dX6_narrow_29 (fun s29 H locs h hM => ?_)
        refine lv_iinc (pc := 32) (v := (v3 + 1)) (lv' := [(3, .int (v3 + 1)), (0, .ref (g_ad G o0)), (1, .int a1), (2, .int a2), (4, .int v4)]) hx hb dX6_narrow_32 hl (k := 3) rfl (by rfl) (by decide) rfl (fun ls hl => ?_)
        refine lv_goto (pc := 35) (tgt := 45) hx hb dX6_narrow_35 (by decide) ?_
        refine lv_iinc (pc := 45) (v := (v4 + (-1))) (lv' := [(4, .int (v4 + (-1))), (3, .int (v3 + 1)), (0, .ref (g_ad G o0)), (1, .int a1), (2, .int a2)]) hx hb dX6_narrow_45 hl (k := 4) rfl (by rfl) (by decide) rfl (fun ls hl => ?_)
        refine lv_goto (pc := 48) (tgt := 10) hx hb dX6_narrow_48 (by decide) ?_
        exact h _ _ _ hM (lv_sub hl [2, 3, 4, 1, 0] rfl))
  refine lv_iconst (pc := 0) (v := 0) hx hb dX6_narrow_0 (by decide) ?_
  refine lv_istore_n (pc := 1) (lv' := [(3, .int 0), (0, .ref (g_ad G o0)), (1, .int a1), (2, .int a2)]) hx hb dX6_narrow_1 rfl hl (by decide) rfl (fun ls hl => ?_)
  refine lv_aload_n (pc := 2) hx hb dX6_narrow_2 rfl (lv_at hl 1 rfl) ?_
  refine g_get (pc := 3) (v := .int (σ o0 1)) C hM (ru_lt ho0) (ce_ru ho0) fl_RX6_24 rfl dX6_narrow_3 ?_
  refine lv_iconst (pc := 6) (v := 1) hx hb dX6_narrow_6 (by decide) ?_
  refine lv_isub (pc := 7) hx hb dX6_narrow_7 ?_
  refine lv_istore (pc := 8) (lv' := [(4, .int ((σ o0 1) - 1)), (3, .int 0), (0, .ref (g_ad G o0)), (1, .int a1), (2, .int a2)]) hx hb dX6_narrow_8 hl (by decide) rfl (fun ls hl => ?_)
  exact h _ _ _ hM (lv_sub hl [2, 3, 4, 1, 0] rfl)
abbrev rm_X2_cell : Room := { frames := 0, cells := 0, slots := 0, locals := 0 }
theorem dX2_cell_0 : decode cX2_cell 0 = .ok (.aload_n 0, 1) := by decide +kernel
theorem dX2_cell_1 : decode cX2_cell 1 = .ok (.getfield 9, 3) := by decide +kernel
theorem dX2_cell_4 : decode cX2_cell 4 = .ok (.iload_n 1, 1) := by decide +kernel
theorem dX2_cell_5 : decode cX2_cell 5 = .ok (.iconst 5, 1) := by decide +kernel
theorem dX2_cell_6 : decode cX2_cell 6 = .ok (.imul, 1) := by decide +kernel
theorem dX2_cell_7 : decode cX2_cell 7 = .ok (.iload_n 2, 1) := by decide +kernel
theorem dX2_cell_8 : decode cX2_cell 8 = .ok (.iadd, 1) := by decide +kernel
theorem dX2_cell_9 : decode cX2_cell 9 = .ok (.iaload, 1) := by decide +kernel
theorem dX2_cell_10 : decode cX2_cell 10 = .ok (.ireturn, 1) := by decide +kernel
set_option maxHeartbeats 4000000 in
set_option maxRecDepth 100000 in
theorem w_X2_cell (l : Launch) (G : GP) (x : XP) (o0 : Nat) (a1 : Int32) (a2 : Int32) (σ : Sto) (P : Int32 → Sto → Prop) (h : D_X2_cell o0 a1 a2 σ P) : g_Meti l yX2_cell cX2_cell 3 (some .int) rm_X2_cell G x [.ref (g_ad G o0), .int a1, .int a2] σ P := by
  unfold D_X2_cell at h
  obtain ⟨ho0, h⟩ := h
  refine g_ofWi (by decide +kernel) (Nat.le_of_ble_eq_true rfl) ?_
  intro p e s m args below meth c Q ls C hM hl hret
  have hx := C.1
  have hb := C.2.1
  have hl : lv_has ls 3 [(0, .ref (g_ad G o0)), (1, .int a1), (2, .int a2)] := hl
  refine lv_aload_n (pc := 0) hx hb dX2_cell_0 rfl (lv_at hl 0 rfl) ?_
  refine g_get (pc := 1) (v := .ref (g_ad G (o0 + 1))) C hM (gr_lt ho0) (ce_gr ho0) fl_RX2_9 rfl dX2_cell_1 ?_
  refine lv_iload_n (pc := 4) hx hb dX2_cell_4 rfl (lv_at hl 1 rfl) ?_
  refine lv_iconst (pc := 5) (v := 5) hx hb dX2_cell_5 (by decide) ?_
  refine lv_imul (pc := 6) hx hb dX2_cell_6 ?_
  refine lv_iload_n (pc := 7) hx hb dX2_cell_7 rfl (lv_at hl 2 rfl) ?_
  refine lv_iadd (pc := 8) hx hb dX2_cell_8 ?_
  obtain ⟨hc, h⟩ := h
  refine g_ialdK (pc := 9) C hM (gc_lt ho0) (ce_gc ho0) hc rfl dX2_cell_9 ?_
  exact hret 10 _ _ _ _ _ dX2_cell_10 (by rfl) h hM
abbrev rm_X2_find : Room := { frames := 1, cells := 0, slots := 0, locals := 22 }
theorem dX2_find_0 : decode cX2_find 0 = .ok (.iconst 0, 1) := by decide +kernel
theorem dX2_find_1 : decode cX2_find 1 = .ok (.istore 4, 2) := by decide +kernel
theorem dX2_find_3 : decode cX2_find 3 = .ok (.iload 4, 2) := by decide +kernel
theorem dX2_find_5 : decode cX2_find 5 = .ok (.aload_n 0, 1) := by decide +kernel
theorem dX2_find_6 : decode cX2_find 6 = .ok (.getfield 15, 3) := by decide +kernel
theorem dX2_find_9 : decode cX2_find 9 = .ok (.if_icmp .ge 45, 3) := by decide +kernel
theorem dX2_find_12 : decode cX2_find 12 = .ok (.aload_n 0, 1) := by decide +kernel
theorem dX2_find_13 : decode cX2_find 13 = .ok (.iload 4, 2) := by decide +kernel
theorem dX2_find_15 : decode cX2_find 15 = .ok (.iconst 0, 1) := by decide +kernel
theorem dX2_find_16 : decode cX2_find 16 = .ok (.invokevirtual 19, 3) := by decide +kernel
theorem dX2_find_19 : decode cX2_find 19 = .ok (.iload_n 1, 1) := by decide +kernel
theorem dX2_find_20 : decode cX2_find 20 = .ok (.if_icmp .ne 28, 3) := by decide +kernel
theorem dX2_find_23 : decode cX2_find 23 = .ok (.aload_n 0, 1) := by decide +kernel
theorem dX2_find_24 : decode cX2_find 24 = .ok (.iload 4, 2) := by decide +kernel
theorem dX2_find_26 : decode cX2_find 26 = .ok (.iconst 1, 1) := by decide +kernel
theorem dX2_find_27 : decode cX2_find 27 = .ok (.invokevirtual 19, 3) := by decide +kernel
theorem dX2_find_30 : decode cX2_find 30 = .ok (.iload_n 2, 1) := by decide +kernel
theorem dX2_find_31 : decode cX2_find 31 = .ok (.if_icmp .ne 17, 3) := by decide +kernel
theorem dX2_find_34 : decode cX2_find 34 = .ok (.aload_n 0, 1) := by decide +kernel
theorem dX2_find_35 : decode cX2_find 35 = .ok (.iload 4, 2) := by decide +kernel
theorem dX2_find_37 : decode cX2_find 37 = .ok (.iconst 2, 1) := by decide +kernel
theorem dX2_find_38 : decode cX2_find 38 = .ok (.invokevirtual 19, 3) := by decide +kernel
theorem dX2_find_41 : decode cX2_find 41 = .ok (.iload_n 3, 1) := by decide +kernel
theorem dX2_find_42 : decode cX2_find 42 = .ok (.if_icmp .ne 6, 3) := by decide +kernel
theorem dX2_find_45 : decode cX2_find 45 = .ok (.iload 4, 2) := by decide +kernel
theorem dX2_find_47 : decode cX2_find 47 = .ok (.ireturn, 1) := by decide +kernel
theorem dX2_find_48 : decode cX2_find 48 = .ok (.iinc 4 1, 3) := by decide +kernel
theorem dX2_find_51 : decode cX2_find 51 = .ok (.goto (-48), 3) := by decide +kernel
theorem dX2_find_54 : decode cX2_find 54 = .ok (.iconst (-1), 1) := by decide +kernel
theorem dX2_find_55 : decode cX2_find 55 = .ok (.ireturn, 1) := by decide +kernel
set_option maxHeartbeats 4000000 in
set_option maxRecDepth 100000 in
theorem w_X2_find (l : Launch) (G : GP) (x : XP) (o0 : Nat) (a1 : Int32) (a2 : Int32) (a3 : Int32) (σ : Sto) (P : Int32 → Sto → Prop) (h : D_X2_find o0 a1 a2 a3 σ P) : g_Meti l yX2_find cX2_find 5 (some .int) rm_X2_find G x [.ref (g_ad G o0), .int a1, .int a2, .int a3] σ P := by
  unfold D_X2_find at h
  obtain ⟨ho0, h⟩ := h
  refine g_ofWi (by decide +kernel) (Nat.le_of_ble_eq_true rfl) ?_
  intro p e s m args below meth c Q ls C hM hl hret
  have hx := C.1
  have hb := C.2.1
  have hl : lv_has ls 5 [(0, .ref (g_ad G o0)), (1, .int a1), (2, .int a2), (3, .int a3)] := hl
  have h := h (fun (v4 : Int32) (σ : Sto) => ∀ (H : Heap) (locs : List Loc) (ls : Array Slot), g_M G x σ s H locs → lv_has ls 5 [(0, .ref (g_ad G o0)), (1, .int a1), (2, .int a2), (3, .int a3), (4, .int v4)] → W p l e rm_X2_find s m args below meth c H locs 0 0 Q (F0 m 3 ls []))
  have h := h (by
    intro v4 σ h  H locs ls hM hl
    refine lv_iload (pc := 3) hx hb dX2_find_3 (lv_at hl 4 rfl) ?_
    refine lv_aload_n (pc := 5) hx hb dX2_find_5 rfl (lv_at hl 0 rfl) ?_
    refine g_get (pc := 6) (v := .int (σ o0 1)) C hM (gr_lt ho0) (ce_gr ho0) fl_RX2_15 rfl dX2_find_6 ?_
    refine lv_icmp_ge (pc := 9) (tgt := 54) hx hb dX2_find_9 (by decide) (fun c9 => ?_) (fun c9 => ?_)
    · have h := h.1 c9
      refine lv_iconst (pc := 54) (v := (-1)) hx hb dX2_find_54 (by decide) ?_
      exact hret 55 _ _ _ _ _ dX2_find_55 (by rfl) h hM
    · have h := h.2 c9
      refine lv_aload_n (pc := 12) hx hb dX2_find_12 rfl (lv_at hl 0 rfl) ?_
      refine lv_iload (pc := 13) hx hb dX2_find_13 (lv_at hl 4 rfl) ?_
      refine lv_iconst (pc := 15) (v := 0) hx hb dX2_find_15 (by decide) ?_
      refine g_cVi (pc := 16) C hM hl.1 yv_X2_cell q2_66 (gr_lt ho0) (ce_gr ho0) rfl (w_X2_cell l G x o0 v4 0 σ _ h) rfl rfl ⟨⟨by decide, by decide⟩, by decide, by decide⟩ (Nat.le_of_ble_eq_true rfl) dX2_find_16 (fun r16 s16 H locs h hM => ?_)
      refine lv_iload_n (pc := 19) hx hb dX2_find_19 rfl (lv_at hl 1 rfl) ?_
      refine lv_icmp_ne (pc := 20) (tgt := 48) hx hb dX2_find_20 (by decide) (fun c20 => ?_) (fun c20 => ?_)
      · have h := h.2 c20
        refine lv_iinc (pc := 48) (v := (v4 + 1)) (lv' := [(4, .int (v4 + 1)), (0, .ref (g_ad G o0)), (1, .int a1), (2, .int a2), (3, .int a3)]) hx hb dX2_find_48 hl (k := 4) rfl (by rfl) (by decide) rfl (fun ls hl => ?_)
        refine lv_goto (pc := 51) (tgt := 3) hx hb dX2_find_51 (by decide) ?_
        exact h _ _ _ hM (lv_sub hl [1, 2, 3, 4, 0] rfl)
      · have h := h.1 c20
        refine lv_aload_n (pc := 23) hx hb dX2_find_23 rfl (lv_at hl 0 rfl) ?_
        refine lv_iload (pc := 24) hx hb dX2_find_24 (lv_at hl 4 rfl) ?_
        refine lv_iconst (pc := 26) (v := 1) hx hb dX2_find_26 (by decide) ?_
        refine g_cVi (pc := 27) C hM hl.1 yv_X2_cell q2_66 (gr_lt ho0) (ce_gr ho0) rfl (w_X2_cell l G x o0 v4 1 s16 _ h) rfl rfl ⟨⟨by decide, by decide⟩, by decide, by decide⟩ (Nat.le_of_ble_eq_true rfl) dX2_find_27 (fun r27 s27 H locs h hM => ?_)
        refine lv_iload_n (pc := 30) hx hb dX2_find_30 rfl (lv_at hl 2 rfl) ?_
        refine lv_icmp_ne (pc := 31) (tgt := 48) hx hb dX2_find_31 (by decide) (fun c31 => ?_) (fun c31 => ?_)
        · have h := h.2 c31
          refine lv_iinc (pc := 48) (v := (v4 + 1)) (lv' := [(4, .int (v4 + 1)), (0, .ref (g_ad G o0)), (1, .int a1), (2, .int a2), (3, .int a3)]) hx hb dX2_find_48 hl (k := 4) rfl (by rfl) (by decide) rfl (fun ls hl => ?_)
          refine lv_goto (pc := 51) (tgt := 3) hx hb dX2_find_51 (by decide) ?_
          exact h _ _ _ hM (lv_sub hl [1, 2, 3, 4, 0] rfl)
        · have h := h.1 c31
          refine lv_aload_n (pc := 34) hx hb dX2_find_34 rfl (lv_at hl 0 rfl) ?_
          refine lv_iload (pc := 35) hx hb dX2_find_35 (lv_at hl 4 rfl) ?_
          refine lv_iconst (pc := 37) (v := 2) hx hb dX2_find_37 (by decide) ?_
          refine g_cVi (pc := 38) C hM hl.1 yv_X2_cell q2_66 (gr_lt ho0) (ce_gr ho0) rfl (w_X2_cell l G x o0 v4 2 s27 _ h) rfl rfl ⟨⟨by decide, by decide⟩, by decide, by decide⟩ (Nat.le_of_ble_eq_true rfl) dX2_find_38 (fun r38 s38 H locs h hM => ?_)
          refine lv_iload_n (pc := 41) hx hb dX2_find_41 rfl (lv_at hl 3 rfl) ?_
          refine lv_icmp_ne (pc := 42) (tgt := 48) hx hb dX2_find_42 (by decide) (fun c42 => ?_) (fun c42 => ?_)
          · have h := h.2 c42
            refine lv_iinc (pc := 48) (v := (v4 + 1)) (lv' := [(4, .int (v4 + 1)), (0, .ref (g_ad G o0)), (1, .int a1), (2, .int a2), (3, .int a3)]) hx hb dX2_find_48 hl (k := 4) rfl (by rfl) (by decide) rfl (fun ls hl => ?_)
            refine lv_goto (pc := 51) (tgt := 3) hx hb dX2_find_51 (by decide) ?_
            exact h _ _ _ hM (lv_sub hl [1, 2, 3, 4, 0] rfl)
          · have h := h.1 c42
            refine lv_iload (pc := 45) hx hb dX2_find_45 (lv_at hl 4 rfl) ?_
            exact hret 47 _ _ _ _ _ dX2_find_47 (by rfl) h hM)
  refine lv_iconst (pc := 0) (v := 0) hx hb dX2_find_0 (by decide) ?_
  refine lv_istore (pc := 1) (lv' := [(4, .int 0), (0, .ref (g_ad G o0)), (1, .int a1), (2, .int a2), (3, .int a3)]) hx hb dX2_find_1 hl (by decide) rfl (fun ls hl => ?_)
  exact h _ _ _ hM (lv_sub hl [1, 2, 3, 4, 0] rfl)
abbrev rm_X2_put : Room := { frames := 2, cells := 0, slots := 0, locals := 46 }
theorem dX2_put_0 : decode cX2_put 0 = .ok (.aload_n 0, 1) := by decide +kernel
theorem dX2_put_1 : decode cX2_put 1 = .ok (.iload_n 1, 1) := by decide +kernel
theorem dX2_put_2 : decode cX2_put 2 = .ok (.iload_n 2, 1) := by decide +kernel
theorem dX2_put_3 : decode cX2_put 3 = .ok (.iload_n 3, 1) := by decide +kernel
theorem dX2_put_4 : decode cX2_put 4 = .ok (.invokevirtual 23, 3) := by decide +kernel
theorem dX2_put_7 : decode cX2_put 7 = .ok (.istore 6, 2) := by decide +kernel
theorem dX2_put_9 : decode cX2_put 9 = .ok (.iload 6, 2) := by decide +kernel
theorem dX2_put_11 : decode cX2_put 11 = .ok (.ifCond .ge 19, 3) := by decide +kernel
theorem dX2_put_14 : decode cX2_put 14 = .ok (.aload_n 0, 1) := by decide +kernel
theorem dX2_put_15 : decode cX2_put 15 = .ok (.getfield 15, 3) := by decide +kernel
theorem dX2_put_18 : decode cX2_put 18 = .ok (.istore 6, 2) := by decide +kernel
theorem dX2_put_20 : decode cX2_put 20 = .ok (.aload_n 0, 1) := by decide +kernel
theorem dX2_put_21 : decode cX2_put 21 = .ok (.dup, 1) := by decide +kernel
theorem dX2_put_22 : decode cX2_put 22 = .ok (.getfield 15, 3) := by decide +kernel
theorem dX2_put_25 : decode cX2_put 25 = .ok (.iconst 1, 1) := by decide +kernel
theorem dX2_put_26 : decode cX2_put 26 = .ok (.iadd, 1) := by decide +kernel
theorem dX2_put_27 : decode cX2_put 27 = .ok (.putfield 15, 3) := by decide +kernel
theorem dX2_put_30 : decode cX2_put 30 = .ok (.iload 6, 2) := by decide +kernel
theorem dX2_put_32 : decode cX2_put 32 = .ok (.iconst 5, 1) := by decide +kernel
theorem dX2_put_33 : decode cX2_put 33 = .ok (.imul, 1) := by decide +kernel
theorem dX2_put_34 : decode cX2_put 34 = .ok (.istore 7, 2) := by decide +kernel
theorem dX2_put_36 : decode cX2_put 36 = .ok (.aload_n 0, 1) := by decide +kernel
theorem dX2_put_37 : decode cX2_put 37 = .ok (.getfield 9, 3) := by decide +kernel
theorem dX2_put_40 : decode cX2_put 40 = .ok (.iload 7, 2) := by decide +kernel
theorem dX2_put_42 : decode cX2_put 42 = .ok (.iconst 0, 1) := by decide +kernel
theorem dX2_put_43 : decode cX2_put 43 = .ok (.iadd, 1) := by decide +kernel
theorem dX2_put_44 : decode cX2_put 44 = .ok (.iload_n 1, 1) := by decide +kernel
theorem dX2_put_45 : decode cX2_put 45 = .ok (.iastore, 1) := by decide +kernel
theorem dX2_put_46 : decode cX2_put 46 = .ok (.aload_n 0, 1) := by decide +kernel
theorem dX2_put_47 : decode cX2_put 47 = .ok (.getfield 9, 3) := by decide +kernel
theorem dX2_put_50 : decode cX2_put 50 = .ok (.iload 7, 2) := by decide +kernel
theorem dX2_put_52 : decode cX2_put 52 = .ok (.iconst 1, 1) := by decide +kernel
theorem dX2_put_53 : decode cX2_put 53 = .ok (.iadd, 1) := by decide +kernel
theorem dX2_put_54 : decode cX2_put 54 = .ok (.iload_n 2, 1) := by decide +kernel
theorem dX2_put_55 : decode cX2_put 55 = .ok (.iastore, 1) := by decide +kernel
theorem dX2_put_56 : decode cX2_put 56 = .ok (.aload_n 0, 1) := by decide +kernel
theorem dX2_put_57 : decode cX2_put 57 = .ok (.getfield 9, 3) := by decide +kernel
theorem dX2_put_60 : decode cX2_put 60 = .ok (.iload 7, 2) := by decide +kernel
theorem dX2_put_62 : decode cX2_put 62 = .ok (.iconst 2, 1) := by decide +kernel
theorem dX2_put_63 : decode cX2_put 63 = .ok (.iadd, 1) := by decide +kernel
theorem dX2_put_64 : decode cX2_put 64 = .ok (.iload_n 3, 1) := by decide +kernel
theorem dX2_put_65 : decode cX2_put 65 = .ok (.iastore, 1) := by decide +kernel
theorem dX2_put_66 : decode cX2_put 66 = .ok (.aload_n 0, 1) := by decide +kernel
theorem dX2_put_67 : decode cX2_put 67 = .ok (.getfield 9, 3) := by decide +kernel
theorem dX2_put_70 : decode cX2_put 70 = .ok (.iload 7, 2) := by decide +kernel
theorem dX2_put_72 : decode cX2_put 72 = .ok (.iconst 3, 1) := by decide +kernel
theorem dX2_put_73 : decode cX2_put 73 = .ok (.iadd, 1) := by decide +kernel
theorem dX2_put_74 : decode cX2_put 74 = .ok (.iload 4, 2) := by decide +kernel
theorem dX2_put_76 : decode cX2_put 76 = .ok (.iastore, 1) := by decide +kernel
theorem dX2_put_77 : decode cX2_put 77 = .ok (.aload_n 0, 1) := by decide +kernel
theorem dX2_put_78 : decode cX2_put 78 = .ok (.getfield 9, 3) := by decide +kernel
theorem dX2_put_81 : decode cX2_put 81 = .ok (.iload 7, 2) := by decide +kernel
theorem dX2_put_83 : decode cX2_put 83 = .ok (.iconst 4, 1) := by decide +kernel
theorem dX2_put_84 : decode cX2_put 84 = .ok (.iadd, 1) := by decide +kernel
theorem dX2_put_85 : decode cX2_put 85 = .ok (.iload 5, 2) := by decide +kernel
theorem dX2_put_87 : decode cX2_put 87 = .ok (.iastore, 1) := by decide +kernel
theorem dX2_put_88 : decode cX2_put 88 = .ok (.return_, 1) := by decide +kernel
set_option maxHeartbeats 4000000 in
set_option maxRecDepth 100000 in
theorem w_X2_put (l : Launch) (G : GP) (x : XP) (o0 : Nat) (a1 : Int32) (a2 : Int32) (a3 : Int32) (a4 : Int32) (a5 : Int32) (σ : Sto) (P : Sto → Prop) (h : D_X2_put o0 a1 a2 a3 a4 a5 σ P) : g_Metv l yX2_put cX2_put 8 rm_X2_put G x [.ref (g_ad G o0), .int a1, .int a2, .int a3, .int a4, .int a5] σ P := by
  unfold D_X2_put at h
  obtain ⟨ho0, h⟩ := h
  refine g_ofWv (by decide +kernel) (Nat.le_of_ble_eq_true rfl) ?_
  intro p e s m args below meth c Q ls C hM hl hret
  have hx := C.1
  have hb := C.2.1
  have hl : lv_has ls 8 [(0, .ref (g_ad G o0)), (1, .int a1), (2, .int a2), (3, .int a3), (4, .int a4), (5, .int a5)] := hl
  have h := h (fun (v6 : Int32) (σ : Sto) => ∀ (H : Heap) (locs : List Loc) (ls : Array Slot), g_M G x σ s H locs → lv_has ls 8 [(0, .ref (g_ad G o0)), (1, .int a1), (2, .int a2), (3, .int a3), (4, .int a4), (5, .int a5), (6, .int v6)] → W p l e rm_X2_put s m args below meth c H locs 0 0 Q (F0 m 30 ls []))
  have h := h (by
    intro v6 σ h  H locs ls hM hl
    refine lv_iload (pc := 30) hx hb dX2_put_30 (lv_at hl 6 rfl) ?_
    refine lv_iconst (pc := 32) (v := 5) hx hb dX2_put_32 (by decide) ?_
    refine lv_imul (pc := 33) hx hb dX2_put_33 ?_
    refine lv_istore (pc := 34) (lv' := [(7, .int (v6 * 5)), (0, .ref (g_ad G o0)), (1, .int a1), (2, .int a2), (3, .int a3), (4, .int a4), (5, .int a5), (6, .int v6)]) hx hb dX2_put_34 hl (by decide) rfl (fun ls hl => ?_)
    refine lv_aload_n (pc := 36) hx hb dX2_put_36 rfl (lv_at hl 1 rfl) ?_
    refine g_get (pc := 37) (v := .ref (g_ad G (o0 + 1))) C hM (gr_lt ho0) (ce_gr ho0) fl_RX2_9 rfl dX2_put_37 ?_
    refine lv_iload (pc := 40) hx hb dX2_put_40 (lv_at hl 0 rfl) ?_
    refine lv_iconst (pc := 42) (v := 0) hx hb dX2_put_42 (by decide) ?_
    refine lv_iadd (pc := 43) hx hb dX2_put_43 ?_
    refine lv_iload_n (pc := 44) hx hb dX2_put_44 rfl (lv_at hl 2 rfl) ?_
    obtain ⟨hc, h⟩ := h
    refine g_iastE (pc := 45) C hM (gc_lt ho0) (ce_gc ho0) hc rfl dX2_put_45 (fun s45 es45 H locs hM => ?_)
    have h := h s45 es45
    refine lv_aload_n (pc := 46) hx hb dX2_put_46 rfl (lv_at hl 1 rfl) ?_
    refine g_get (pc := 47) (v := .ref (g_ad G (o0 + 1))) C hM (gr_lt ho0) (ce_gr ho0) fl_RX2_9 rfl dX2_put_47 ?_
    refine lv_iload (pc := 50) hx hb dX2_put_50 (lv_at hl 0 rfl) ?_
    refine lv_iconst (pc := 52) (v := 1) hx hb dX2_put_52 (by decide) ?_
    refine lv_iadd (pc := 53) hx hb dX2_put_53 ?_
    refine lv_iload_n (pc := 54) hx hb dX2_put_54 rfl (lv_at hl 3 rfl) ?_
    obtain ⟨hc, h⟩ := h
    refine g_iastE (pc := 55) C hM (gc_lt ho0) (ce_gc ho0) hc rfl dX2_put_55 (fun s55 es55 H locs hM => ?_)
    have h := h s55 es55
    refine lv_aload_n (pc := 56) hx hb dX2_put_56 rfl (lv_at hl 1 rfl) ?_
    refine g_get (pc := 57) (v := .ref (g_ad G (o0 + 1))) C hM (gr_lt ho0) (ce_gr ho0) fl_RX2_9 rfl dX2_put_57 ?_
    refine lv_iload (pc := 60) hx hb dX2_put_60 (lv_at hl 0 rfl) ?_
    refine lv_iconst (pc := 62) (v := 2) hx hb dX2_put_62 (by decide) ?_
    refine lv_iadd (pc := 63) hx hb dX2_put_63 ?_
    refine lv_iload_n (pc := 64) hx hb dX2_put_64 rfl (lv_at hl 4 rfl) ?_
    obtain ⟨hc, h⟩ := h
    refine g_iastE (pc := 65) C hM (gc_lt ho0) (ce_gc ho0) hc rfl dX2_put_65 (fun s65 es65 H locs hM => ?_)
    have h := h s65 es65
    refine lv_aload_n (pc := 66) hx hb dX2_put_66 rfl (lv_at hl 1 rfl) ?_
    refine g_get (pc := 67) (v := .ref (g_ad G (o0 + 1))) C hM (gr_lt ho0) (ce_gr ho0) fl_RX2_9 rfl dX2_put_67 ?_
    refine lv_iload (pc := 70) hx hb dX2_put_70 (lv_at hl 0 rfl) ?_
    refine lv_iconst (pc := 72) (v := 3) hx hb dX2_put_72 (by decide) ?_
    refine lv_iadd (pc := 73) hx hb dX2_put_73 ?_
    refine lv_iload (pc := 74) hx hb dX2_put_74 (lv_at hl 5 rfl) ?_
    obtain ⟨hc, h⟩ := h
    refine g_iastE (pc := 76) C hM (gc_lt ho0) (ce_gc ho0) hc rfl dX2_put_76 (fun s76 es76 H locs hM => ?_)
    have h := h s76 es76
    refine lv_aload_n (pc := 77) hx hb dX2_put_77 rfl (lv_at hl 1 rfl) ?_
    refine g_get (pc := 78) (v := .ref (g_ad G (o0 + 1))) C hM (gr_lt ho0) (ce_gr ho0) fl_RX2_9 rfl dX2_put_78 ?_
    refine lv_iload (pc := 81) hx hb dX2_put_81 (lv_at hl 0 rfl) ?_
    refine lv_iconst (pc := 83) (v := 4) hx hb dX2_put_83 (by decide) ?_
    refine lv_iadd (pc := 84) hx hb dX2_put_84 ?_
    refine lv_iload (pc := 85) hx hb dX2_put_85 (lv_at hl 6 rfl) ?_
    obtain ⟨hc, h⟩ := h
    refine g_iastE (pc := 87) C hM (gc_lt ho0) (ce_gc ho0) hc rfl dX2_put_87 (fun s87 es87 H locs hM => ?_)
    have h := h s87 es87
    exact hret 88 _ _ _ _ dX2_put_88 h hM)
  refine lv_aload_n (pc := 0) hx hb dX2_put_0 rfl (lv_at hl 0 rfl) ?_
  refine lv_iload_n (pc := 1) hx hb dX2_put_1 rfl (lv_at hl 1 rfl) ?_
  refine lv_iload_n (pc := 2) hx hb dX2_put_2 rfl (lv_at hl 2 rfl) ?_
  refine lv_iload_n (pc := 3) hx hb dX2_put_3 rfl (lv_at hl 3 rfl) ?_
  refine g_cVi (pc := 4) C hM hl.1 yv_X2_find q3_152 (gr_lt ho0) (ce_gr ho0) rfl (w_X2_find l G x o0 a1 a2 a3 σ _ h) rfl rfl ⟨⟨by decide, by decide⟩, by decide, by decide⟩ (Nat.le_of_ble_eq_true rfl) dX2_put_4 (fun r4 s4 H locs h hM => ?_)
  refine lv_istore (pc := 7) (lv' := [(6, .int r4), (0, .ref (g_ad G o0)), (1, .int a1), (2, .int a2), (3, .int a3), (4, .int a4), (5, .int a5)]) hx hb dX2_put_7 hl (by decide) rfl (fun ls hl => ?_)
  refine lv_iload (pc := 9) hx hb dX2_put_9 (lv_at hl 0 rfl) ?_
  refine lv_if_ge (pc := 11) (tgt := 30) hx hb dX2_put_11 (by decide) (fun c11 => ?_) (fun c11 => ?_)
  · have h := h.1 c11
    exact h _ _ _ hM (lv_sub hl [1, 2, 3, 4, 5, 6, 0] rfl)
  · have h := h.2 c11
    refine lv_aload_n (pc := 14) hx hb dX2_put_14 rfl (lv_at hl 1 rfl) ?_
    refine g_get (pc := 15) (v := .int (s4 o0 1)) C hM (gr_lt ho0) (ce_gr ho0) fl_RX2_15 rfl dX2_put_15 ?_
    refine lv_istore (pc := 18) (lv' := [(6, .int (s4 o0 1)), (0, .ref (g_ad G o0)), (1, .int a1), (2, .int a2), (3, .int a3), (4, .int a4), (5, .int a5)]) hx hb dX2_put_18 hl (by decide) rfl (fun ls hl => ?_)
    refine lv_aload_n (pc := 20) hx hb dX2_put_20 rfl (lv_at hl 1 rfl) ?_
    refine lv_dup (pc := 21) hx hb dX2_put_21 rfl ?_
    refine g_get (pc := 22) (v := .int (s4 o0 1)) C hM (gr_lt ho0) (ce_gr ho0) fl_RX2_15 rfl dX2_put_22 ?_
    refine lv_iconst (pc := 25) (v := 1) hx hb dX2_put_25 (by decide) ?_
    refine lv_iadd (pc := 26) hx hb dX2_put_26 ?_
    refine g_putE (pc := 27) C hM (gr_lt ho0) (ce_gr ho0) fp_RX2_15 rfl rfl (Nat.le_of_ble_eq_true rfl) rfl dX2_put_27 (fun s27 es27 H locs hM => ?_)
    have h := h s27 es27
    exact h _ _ _ hM (lv_sub hl [1, 2, 3, 4, 5, 6, 0] rfl)
