abbrev rm_X12_extentOf : Room := { frames := 1, cells := 0, slots := 0, locals := 22 }
theorem dX12_extentOf_0 : decode cX12_extentOf 0 = .ok (.iconst 1, 1) := by decide +kernel
theorem dX12_extentOf_1 : decode cX12_extentOf 1 = .ok (.istore_n 2, 1) := by decide +kernel
theorem dX12_extentOf_2 : decode cX12_extentOf 2 = .ok (.iconst 0, 1) := by decide +kernel
theorem dX12_extentOf_3 : decode cX12_extentOf 3 = .ok (.istore_n 3, 1) := by decide +kernel
theorem dX12_extentOf_4 : decode cX12_extentOf 4 = .ok (.iload_n 3, 1) := by decide +kernel
theorem dX12_extentOf_5 : decode cX12_extentOf 5 = .ok (.bipush 6, 2) := by decide +kernel
theorem dX12_extentOf_7 : decode cX12_extentOf 7 = .ok (.if_icmp .ge 26, 3) := by decide +kernel
theorem dX12_extentOf_10 : decode cX12_extentOf 10 = .ok (.iload_n 2, 1) := by decide +kernel
theorem dX12_extentOf_11 : decode cX12_extentOf 11 = .ok (.aload_n 0, 1) := by decide +kernel
theorem dX12_extentOf_12 : decode cX12_extentOf 12 = .ok (.getfield 25, 3) := by decide +kernel
theorem dX12_extentOf_15 : decode cX12_extentOf 15 = .ok (.bipush 6, 2) := by decide +kernel
theorem dX12_extentOf_17 : decode cX12_extentOf 17 = .ok (.iload_n 1, 1) := by decide +kernel
theorem dX12_extentOf_18 : decode cX12_extentOf 18 = .ok (.imul, 1) := by decide +kernel
theorem dX12_extentOf_19 : decode cX12_extentOf 19 = .ok (.iload_n 3, 1) := by decide +kernel
theorem dX12_extentOf_20 : decode cX12_extentOf 20 = .ok (.iadd, 1) := by decide +kernel
theorem dX12_extentOf_21 : decode cX12_extentOf 21 = .ok (.iaload, 1) := by decide +kernel
theorem dX12_extentOf_22 : decode cX12_extentOf 22 = .ok (.invokestatic 207, 3) := by decide +kernel
theorem dX12_extentOf_25 : decode cX12_extentOf 25 = .ok (.imul, 1) := by decide +kernel
theorem dX12_extentOf_26 : decode cX12_extentOf 26 = .ok (.istore_n 2, 1) := by decide +kernel
theorem dX12_extentOf_27 : decode cX12_extentOf 27 = .ok (.iinc 3 1, 3) := by decide +kernel
theorem dX12_extentOf_30 : decode cX12_extentOf 30 = .ok (.goto (-26), 3) := by decide +kernel
theorem dX12_extentOf_33 : decode cX12_extentOf 33 = .ok (.iload_n 2, 1) := by decide +kernel
theorem dX12_extentOf_34 : decode cX12_extentOf 34 = .ok (.ireturn, 1) := by decide +kernel
set_option maxHeartbeats 4000000 in
set_option maxRecDepth 100000 in
theorem w_X12_extentOf (l : Launch) (G : GP) (x : XP) (a1 : Int32) (σ : Sto) (P : Int32 → Sto → Prop) (h : D_X12_extentOf a1 σ P) : g_Meti l yX12_extentOf cX12_extentOf 4 (some .int) rm_X12_extentOf G x [.ref (g_ad G 87), .int a1] σ P := by
  unfold D_X12_extentOf at h
  refine g_ofWi (by decide +kernel) (Nat.le_of_ble_eq_true rfl) ?_
  intro p e s m args below meth c Q ls C hM hl hret
  have hx := C.1
  have hb := C.2.1
  have hl : lv_has ls 4 [(0, .ref (g_ad G 87)), (1, .int a1)] := hl
  have h := h (fun (v2 : Int32) (v3 : Int32) (σ : Sto) => ∀ (H : Heap) (locs : List Loc) (ls : Array Slot), g_M G x σ s H locs → lv_has ls 4 [(0, .ref (g_ad G 87)), (1, .int a1), (2, .int v2), (3, .int v3)] → W p l e rm_X12_extentOf s m args below meth c H locs 0 0 Q (F0 m 4 ls []))
  have h := h (by
    intro v2 v3 σ h  H locs ls hM hl
    refine lv_iload_n (pc := 4) hx hb dX12_extentOf_4 rfl (lv_at hl 3 rfl) ?_
    refine lv_bipush (pc := 5) (v := 6) hx hb dX12_extentOf_5 (by decide) ?_
    refine lv_icmp_ge (pc := 7) (tgt := 33) hx hb dX12_extentOf_7 (by decide) (fun c7 => ?_) (fun c7 => ?_)
    · have h := h.1 c7
      refine lv_iload_n (pc := 33) hx hb dX12_extentOf_33 rfl (lv_at hl 2 rfl) ?_
      exact hret 34 _ _ _ _ _ dX12_extentOf_34 (by rfl) h hM
    · have h := h.2 c7
      refine lv_iload_n (pc := 10) hx hb dX12_extentOf_10 rfl (lv_at hl 2 rfl) ?_
      refine lv_aload_n (pc := 11) hx hb dX12_extentOf_11 rfl (lv_at hl 0 rfl) ?_
      refine g_get (pc := 12) (v := .ref (g_ad G 93)) C hM (by decide) ce_87 fl_RX12_25 rfl dX12_extentOf_12 ?_
      refine lv_bipush (pc := 15) (v := 6) hx hb dX12_extentOf_15 (by decide) ?_
      refine lv_iload_n (pc := 17) hx hb dX12_extentOf_17 rfl (lv_at hl 1 rfl) ?_
      refine lv_imul (pc := 18) hx hb dX12_extentOf_18 ?_
      refine lv_iload_n (pc := 19) hx hb dX12_extentOf_19 rfl (lv_at hl 3 rfl) ?_
      refine lv_iadd (pc := 20) hx hb dX12_extentOf_20 ?_
      obtain ⟨hc, h⟩ := h
      refine g_ialdK (pc := 21) C hM (by decide) ce_93 hc rfl dX12_extentOf_21 ?_
      refine g_cSi (pc := 22) C hM hl.1 ys_X12_bits q7_96 (w_X12_bits l G x (σ 93 (ix ((6 * a1) + v3))) σ _ h) rfl rfl ⟨⟨by decide, by decide⟩, by decide, by decide⟩ (Nat.le_of_ble_eq_true rfl) dX12_extentOf_22 (fun r22 s22 H locs h hM => ?_)
      refine lv_imul (pc := 25) hx hb dX12_extentOf_25 ?_
      refine lv_istore_n (pc := 26) (lv' := [(2, .int (v2 * r22)), (0, .ref (g_ad G 87)), (1, .int a1), (3, .int v3)]) hx hb dX12_extentOf_26 rfl hl (by decide) rfl (fun ls hl => ?_)
      refine lv_iinc (pc := 27) (v := (v3 + 1)) (lv' := [(3, .int (v3 + 1)), (2, .int (v2 * r22)), (0, .ref (g_ad G 87)), (1, .int a1)]) hx hb dX12_extentOf_27 hl (k := 3) rfl (by rfl) (by decide) rfl (fun ls hl => ?_)
      refine lv_goto (pc := 30) (tgt := 4) hx hb dX12_extentOf_30 (by decide) ?_
      exact h _ _ _ hM (lv_sub hl [2, 3, 1, 0] rfl))
  refine lv_iconst (pc := 0) (v := 1) hx hb dX12_extentOf_0 (by decide) ?_
  refine lv_istore_n (pc := 1) (lv' := [(2, .int 1), (0, .ref (g_ad G 87)), (1, .int a1)]) hx hb dX12_extentOf_1 rfl hl (by decide) rfl (fun ls hl => ?_)
  refine lv_iconst (pc := 2) (v := 0) hx hb dX12_extentOf_2 (by decide) ?_
  refine lv_istore_n (pc := 3) (lv' := [(3, .int 0), (2, .int 1), (0, .ref (g_ad G 87)), (1, .int a1)]) hx hb dX12_extentOf_3 rfl hl (by decide) rfl (fun ls hl => ?_)
  exact h _ _ _ hM (lv_sub hl [2, 3, 1, 0] rfl)
abbrev rm_X12_extent : Room := { frames := 3, cells := 0, slots := 0, locals := 67 }
theorem dX12_extent_0 : decode cX12_extent 0 = .ok (.aload_n 0, 1) := by decide +kernel
theorem dX12_extent_1 : decode cX12_extent 1 = .ok (.aload_n 0, 1) := by decide +kernel
theorem dX12_extent_2 : decode cX12_extent 2 = .ok (.iload_n 1, 1) := by decide +kernel
theorem dX12_extent_3 : decode cX12_extent 3 = .ok (.invokevirtual 105, 3) := by decide +kernel
theorem dX12_extent_6 : decode cX12_extent 6 = .ok (.ifCond .eq 7, 3) := by decide +kernel
theorem dX12_extent_9 : decode cX12_extent 9 = .ok (.iconst 0, 1) := by decide +kernel
theorem dX12_extent_10 : decode cX12_extent 10 = .ok (.goto 4, 3) := by decide +kernel
theorem dX12_extent_13 : decode cX12_extent 13 = .ok (.iconst 1, 1) := by decide +kernel
theorem dX12_extent_14 : decode cX12_extent 14 = .ok (.putfield 68, 3) := by decide +kernel
theorem dX12_extent_17 : decode cX12_extent 17 = .ok (.aload_n 0, 1) := by decide +kernel
theorem dX12_extent_18 : decode cX12_extent 18 = .ok (.getfield 68, 3) := by decide +kernel
theorem dX12_extent_21 : decode cX12_extent 21 = .ok (.ifCond .le 5, 3) := by decide +kernel
theorem dX12_extent_24 : decode cX12_extent 24 = .ok (.iconst 0, 1) := by decide +kernel
theorem dX12_extent_25 : decode cX12_extent 25 = .ok (.ireturn, 1) := by decide +kernel
theorem dX12_extent_26 : decode cX12_extent 26 = .ok (.aload_n 0, 1) := by decide +kernel
theorem dX12_extent_27 : decode cX12_extent 27 = .ok (.invokevirtual 171, 3) := by decide +kernel
theorem dX12_extent_30 : decode cX12_extent 30 = .ok (.aload_n 0, 1) := by decide +kernel
theorem dX12_extent_31 : decode cX12_extent 31 = .ok (.iload_n 1, 1) := by decide +kernel
theorem dX12_extent_32 : decode cX12_extent 32 = .ok (.invokevirtual 213, 3) := by decide +kernel
theorem dX12_extent_35 : decode cX12_extent 35 = .ok (.ireturn, 1) := by decide +kernel
set_option maxHeartbeats 4000000 in
set_option maxRecDepth 100000 in
theorem w_X12_extent (l : Launch) (G : GP) (x : XP) (a1 : Int32) (σ : Sto) (P : Int32 → Sto → Prop) (h : D_X12_extent a1 σ P) : g_Meti l yX12_extent cX12_extent 2 (some .int) rm_X12_extent G x [.ref (g_ad G 87), .int a1] σ P := by
  unfold D_X12_extent at h
  refine g_ofWi (by decide +kernel) (Nat.le_of_ble_eq_true rfl) ?_
  intro p e s m args below meth c Q ls C hM hl hret
  have hx := C.1
  have hb := C.2.1
  have hl : lv_has ls 2 [(0, .ref (g_ad G 87)), (1, .int a1)] := hl
  refine lv_aload_n (pc := 0) hx hb dX12_extent_0 rfl (lv_at hl 0 rfl) ?_
  refine lv_aload_n (pc := 1) hx hb dX12_extent_1 rfl (lv_at hl 0 rfl) ?_
  refine lv_iload_n (pc := 2) hx hb dX12_extent_2 rfl (lv_at hl 1 rfl) ?_
  refine g_cVi (pc := 3) C hM hl.1 yv_X12_isRule q6_127 (by decide) ce_87 rfl (w_X12_isRule l G x a1 σ _ h) rfl rfl ⟨⟨by decide, by decide⟩, by decide, by decide⟩ (Nat.le_of_ble_eq_true rfl) dX12_extent_3 (fun r3 s3 H locs h hM => ?_)
  refine lv_if_eq (pc := 6) (tgt := 13) hx hb dX12_extent_6 (by decide) (fun c6 => ?_) (fun c6 => ?_)
  · have h := h.1 c6
    refine lv_iconst (pc := 13) (v := 1) hx hb dX12_extent_13 (by decide) ?_
    refine g_putE (pc := 14) C hM (by decide) ce_87 fp_RX12_68 rfl rfl (Nat.le_of_ble_eq_true rfl) rfl dX12_extent_14 (fun s14 es14 H locs hM => ?_)
    have h := h s14 es14
    refine lv_aload_n (pc := 17) hx hb dX12_extent_17 rfl (lv_at hl 0 rfl) ?_
    refine g_get (pc := 18) (v := .int (s14 87 8)) C hM (by decide) ce_87 fl_RX12_68 rfl dX12_extent_18 ?_
    refine lv_if_le (pc := 21) (tgt := 26) hx hb dX12_extent_21 (by decide) (fun c21 => ?_) (fun c21 => ?_)
    · have h := h.1 c21
      refine lv_aload_n (pc := 26) hx hb dX12_extent_26 rfl (lv_at hl 0 rfl) ?_
      refine g_cVv (pc := 27) C hM hl.1 yv_X12_laySets q7_44 (by decide) ce_87 rfl (w_X12_laySets l G x  s14 _ h) rfl rfl ⟨⟨by decide, by decide⟩, by decide, by decide⟩ (Nat.le_of_ble_eq_true rfl) dX12_extent_27 (fun s27 H locs h hM => ?_)
      refine lv_aload_n (pc := 30) hx hb dX12_extent_30 rfl (lv_at hl 0 rfl) ?_
      refine lv_iload_n (pc := 31) hx hb dX12_extent_31 rfl (lv_at hl 1 rfl) ?_
      refine g_cVi (pc := 32) C hM hl.1 yv_X12_extentOf q7_119 (by decide) ce_87 rfl (w_X12_extentOf l G x a1 s27 _ h) rfl rfl ⟨⟨by decide, by decide⟩, by decide, by decide⟩ (Nat.le_of_ble_eq_true rfl) dX12_extent_32 (fun r32 s32 H locs h hM => ?_)
      exact hret 35 _ _ _ _ _ dX12_extent_35 (by rfl) h hM
    · have h := h.2 c21
      refine lv_iconst (pc := 24) (v := 0) hx hb dX12_extent_24 (by decide) ?_
      exact hret 25 _ _ _ _ _ dX12_extent_25 (by rfl) h hM
  · have h := h.2 c6
    refine lv_iconst (pc := 9) (v := 0) hx hb dX12_extent_9 (by decide) ?_
    refine lv_goto (pc := 10) (tgt := 14) hx hb dX12_extent_10 (by decide) ?_
    refine g_putE (pc := 14) C hM (by decide) ce_87 fp_RX12_68 rfl rfl (Nat.le_of_ble_eq_true rfl) rfl dX12_extent_14 (fun s14 es14 H locs hM => ?_)
    have h := h s14 es14
    refine lv_aload_n (pc := 17) hx hb dX12_extent_17 rfl (lv_at hl 0 rfl) ?_
    refine g_get (pc := 18) (v := .int (s14 87 8)) C hM (by decide) ce_87 fl_RX12_68 rfl dX12_extent_18 ?_
    refine lv_if_le (pc := 21) (tgt := 26) hx hb dX12_extent_21 (by decide) (fun c21 => ?_) (fun c21 => ?_)
    · have h := h.1 c21
      refine lv_aload_n (pc := 26) hx hb dX12_extent_26 rfl (lv_at hl 0 rfl) ?_
      refine g_cVv (pc := 27) C hM hl.1 yv_X12_laySets q7_44 (by decide) ce_87 rfl (w_X12_laySets l G x  s14 _ h) rfl rfl ⟨⟨by decide, by decide⟩, by decide, by decide⟩ (Nat.le_of_ble_eq_true rfl) dX12_extent_27 (fun s27 H locs h hM => ?_)
      refine lv_aload_n (pc := 30) hx hb dX12_extent_30 rfl (lv_at hl 0 rfl) ?_
      refine lv_iload_n (pc := 31) hx hb dX12_extent_31 rfl (lv_at hl 1 rfl) ?_
      refine g_cVi (pc := 32) C hM hl.1 yv_X12_extentOf q7_119 (by decide) ce_87 rfl (w_X12_extentOf l G x a1 s27 _ h) rfl rfl ⟨⟨by decide, by decide⟩, by decide, by decide⟩ (Nat.le_of_ble_eq_true rfl) dX12_extent_32 (fun r32 s32 H locs h hM => ?_)
      exact hret 35 _ _ _ _ _ dX12_extent_35 (by rfl) h hM
    · have h := h.2 c21
      refine lv_iconst (pc := 24) (v := 0) hx hb dX12_extent_24 (by decide) ?_
      exact hret 25 _ _ _ _ _ dX12_extent_25 (by rfl) h hM
abbrev rm_X12_overlaps : Room := { frames := 0, cells := 0, slots := 0, locals := 0 }
theorem dX12_overlaps_0 : decode cX12_overlaps 0 = .ok (.iconst 0, 1) := by decide +kernel
theorem dX12_overlaps_1 : decode cX12_overlaps 1 = .ok (.istore_n 3, 1) := by decide +kernel
theorem dX12_overlaps_2 : decode cX12_overlaps 2 = .ok (.iload_n 3, 1) := by decide +kernel
theorem dX12_overlaps_3 : decode cX12_overlaps 3 = .ok (.bipush 6, 2) := by decide +kernel
theorem dX12_overlaps_5 : decode cX12_overlaps 5 = .ok (.if_icmp .ge 37, 3) := by decide +kernel
theorem dX12_overlaps_8 : decode cX12_overlaps 8 = .ok (.aload_n 0, 1) := by decide +kernel
theorem dX12_overlaps_9 : decode cX12_overlaps 9 = .ok (.getfield 25, 3) := by decide +kernel
theorem dX12_overlaps_12 : decode cX12_overlaps 12 = .ok (.bipush 6, 2) := by decide +kernel
theorem dX12_overlaps_14 : decode cX12_overlaps 14 = .ok (.iload_n 1, 1) := by decide +kernel
theorem dX12_overlaps_15 : decode cX12_overlaps 15 = .ok (.imul, 1) := by decide +kernel
theorem dX12_overlaps_16 : decode cX12_overlaps 16 = .ok (.iload_n 3, 1) := by decide +kernel
theorem dX12_overlaps_17 : decode cX12_overlaps 17 = .ok (.iadd, 1) := by decide +kernel
theorem dX12_overlaps_18 : decode cX12_overlaps 18 = .ok (.iaload, 1) := by decide +kernel
theorem dX12_overlaps_19 : decode cX12_overlaps 19 = .ok (.aload_n 0, 1) := by decide +kernel
theorem dX12_overlaps_20 : decode cX12_overlaps 20 = .ok (.getfield 25, 3) := by decide +kernel
theorem dX12_overlaps_23 : decode cX12_overlaps 23 = .ok (.bipush 6, 2) := by decide +kernel
theorem dX12_overlaps_25 : decode cX12_overlaps 25 = .ok (.iload_n 2, 1) := by decide +kernel
theorem dX12_overlaps_26 : decode cX12_overlaps 26 = .ok (.imul, 1) := by decide +kernel
theorem dX12_overlaps_27 : decode cX12_overlaps 27 = .ok (.iload_n 3, 1) := by decide +kernel
theorem dX12_overlaps_28 : decode cX12_overlaps 28 = .ok (.iadd, 1) := by decide +kernel
theorem dX12_overlaps_29 : decode cX12_overlaps 29 = .ok (.iaload, 1) := by decide +kernel
theorem dX12_overlaps_30 : decode cX12_overlaps 30 = .ok (.iand, 1) := by decide +kernel
theorem dX12_overlaps_31 : decode cX12_overlaps 31 = .ok (.ifCond .ne 5, 3) := by decide +kernel
theorem dX12_overlaps_34 : decode cX12_overlaps 34 = .ok (.iconst 0, 1) := by decide +kernel
theorem dX12_overlaps_35 : decode cX12_overlaps 35 = .ok (.ireturn, 1) := by decide +kernel
theorem dX12_overlaps_36 : decode cX12_overlaps 36 = .ok (.iinc 3 1, 3) := by decide +kernel
theorem dX12_overlaps_39 : decode cX12_overlaps 39 = .ok (.goto (-37), 3) := by decide +kernel
theorem dX12_overlaps_42 : decode cX12_overlaps 42 = .ok (.iconst 1, 1) := by decide +kernel
theorem dX12_overlaps_43 : decode cX12_overlaps 43 = .ok (.ireturn, 1) := by decide +kernel
set_option maxHeartbeats 4000000 in
set_option maxRecDepth 100000 in
theorem w_X12_overlaps (l : Launch) (G : GP) (x : XP) (a1 : Int32) (a2 : Int32) (σ : Sto) (P : Int32 → Sto → Prop) (h : D_X12_overlaps a1 a2 σ P) : g_Meti l yX12_overlaps cX12_overlaps 4 (some .boolean) rm_X12_overlaps G x [.ref (g_ad G 87), .int a1, .int a2] σ P := by
  unfold D_X12_overlaps at h
  refine g_ofWi (by decide +kernel) (Nat.le_of_ble_eq_true rfl) ?_
  intro p e s m args below meth c Q ls C hM hl hret
  have hx := C.1
  have hb := C.2.1
  have hl : lv_has ls 4 [(0, .ref (g_ad G 87)), (1, .int a1), (2, .int a2)] := hl
  have h := h (fun (v3 : Int32) (σ : Sto) => ∀ (H : Heap) (locs : List Loc) (ls : Array Slot), g_M G x σ s H locs → lv_has ls 4 [(0, .ref (g_ad G 87)), (1, .int a1), (2, .int a2), (3, .int v3)] → W p l e rm_X12_overlaps s m args below meth c H locs 0 0 Q (F0 m 2 ls []))
  have h := h (by
    intro v3 σ h  H locs ls hM hl
    refine lv_iload_n (pc := 2) hx hb dX12_overlaps_2 rfl (lv_at hl 3 rfl) ?_
    refine lv_bipush (pc := 3) (v := 6) hx hb dX12_overlaps_3 (by decide) ?_
    refine lv_icmp_ge (pc := 5) (tgt := 42) hx hb dX12_overlaps_5 (by decide) (fun c5 => ?_) (fun c5 => ?_)
    · have h := h.1 c5
      refine lv_iconst (pc := 42) (v := 1) hx hb dX12_overlaps_42 (by decide) ?_
      exact hret 43 _ _ _ _ _ dX12_overlaps_43 (by rfl) h hM
    · have h := h.2 c5
      refine lv_aload_n (pc := 8) hx hb dX12_overlaps_8 rfl (lv_at hl 0 rfl) ?_
      refine g_get (pc := 9) (v := .ref (g_ad G 93)) C hM (by decide) ce_87 fl_RX12_25 rfl dX12_overlaps_9 ?_
      refine lv_bipush (pc := 12) (v := 6) hx hb dX12_overlaps_12 (by decide) ?_
      refine lv_iload_n (pc := 14) hx hb dX12_overlaps_14 rfl (lv_at hl 1 rfl) ?_
      refine lv_imul (pc := 15) hx hb dX12_overlaps_15 ?_
      refine lv_iload_n (pc := 16) hx hb dX12_overlaps_16 rfl (lv_at hl 3 rfl) ?_
      refine lv_iadd (pc := 17) hx hb dX12_overlaps_17 ?_
      obtain ⟨hc, h⟩ := h
      refine g_ialdK (pc := 18) C hM (by decide) ce_93 hc rfl dX12_overlaps_18 ?_
      refine lv_aload_n (pc := 19) hx hb dX12_overlaps_19 rfl (lv_at hl 0 rfl) ?_
      refine g_get (pc := 20) (v := .ref (g_ad G 93)) C hM (by decide) ce_87 fl_RX12_25 rfl dX12_overlaps_20 ?_
      refine lv_bipush (pc := 23) (v := 6) hx hb dX12_overlaps_23 (by decide) ?_
      refine lv_iload_n (pc := 25) hx hb dX12_overlaps_25 rfl (lv_at hl 2 rfl) ?_
      refine lv_imul (pc := 26) hx hb dX12_overlaps_26 ?_
      refine lv_iload_n (pc := 27) hx hb dX12_overlaps_27 rfl (lv_at hl 3 rfl) ?_
      refine lv_iadd (pc := 28) hx hb dX12_overlaps_28 ?_
      obtain ⟨hc, h⟩ := h
      refine g_ialdK (pc := 29) C hM (by decide) ce_93 hc rfl dX12_overlaps_29 ?_
      refine lv_iand (pc := 30) hx hb dX12_overlaps_30 ?_
      refine lv_if_ne (pc := 31) (tgt := 36) hx hb dX12_overlaps_31 (by decide) (fun c31 => ?_) (fun c31 => ?_)
      · have h := h.2 c31
        refine lv_iinc (pc := 36) (v := (v3 + 1)) (lv' := [(3, .int (v3 + 1)), (0, .ref (g_ad G 87)), (1, .int a1), (2, .int a2)]) hx hb dX12_overlaps_36 hl (k := 3) rfl (by rfl) (by decide) rfl (fun ls hl => ?_)
        refine lv_goto (pc := 39) (tgt := 2) hx hb dX12_overlaps_39 (by decide) ?_
        exact h _ _ _ hM (lv_sub hl [1, 2, 3, 0] rfl)
      · have h := h.1 c31
        refine lv_iconst (pc := 34) (v := 0) hx hb dX12_overlaps_34 (by decide) ?_
        exact hret 35 _ _ _ _ _ dX12_overlaps_35 (by rfl) h hM)
  refine lv_iconst (pc := 0) (v := 0) hx hb dX12_overlaps_0 (by decide) ?_
  refine lv_istore_n (pc := 1) (lv' := [(3, .int 0), (0, .ref (g_ad G 87)), (1, .int a1), (2, .int a2)]) hx hb dX12_overlaps_1 rfl hl (by decide) rfl (fun ls hl => ?_)
  exact h _ _ _ hM (lv_sub hl [1, 2, 3, 0] rfl)
abbrev rm_X12_overlap : Room := { frames := 3, cells := 0, slots := 0, locals := 67 }
theorem dX12_overlap_0 : decode cX12_overlap 0 = .ok (.aload_n 0, 1) := by decide +kernel
theorem dX12_overlap_1 : decode cX12_overlap 1 = .ok (.aload_n 0, 1) := by decide +kernel
theorem dX12_overlap_2 : decode cX12_overlap 2 = .ok (.iload_n 1, 1) := by decide +kernel
theorem dX12_overlap_3 : decode cX12_overlap 3 = .ok (.invokevirtual 105, 3) := by decide +kernel
theorem dX12_overlap_6 : decode cX12_overlap 6 = .ok (.ifCond .eq 15, 3) := by decide +kernel
theorem dX12_overlap_9 : decode cX12_overlap 9 = .ok (.aload_n 0, 1) := by decide +kernel
theorem dX12_overlap_10 : decode cX12_overlap 10 = .ok (.iload_n 2, 1) := by decide +kernel
theorem dX12_overlap_11 : decode cX12_overlap 11 = .ok (.invokevirtual 105, 3) := by decide +kernel
theorem dX12_overlap_14 : decode cX12_overlap 14 = .ok (.ifCond .eq 7, 3) := by decide +kernel
theorem dX12_overlap_17 : decode cX12_overlap 17 = .ok (.iconst 0, 1) := by decide +kernel
theorem dX12_overlap_18 : decode cX12_overlap 18 = .ok (.goto 4, 3) := by decide +kernel
theorem dX12_overlap_21 : decode cX12_overlap 21 = .ok (.iconst 1, 1) := by decide +kernel
theorem dX12_overlap_22 : decode cX12_overlap 22 = .ok (.putfield 68, 3) := by decide +kernel
theorem dX12_overlap_25 : decode cX12_overlap 25 = .ok (.aload_n 0, 1) := by decide +kernel
theorem dX12_overlap_26 : decode cX12_overlap 26 = .ok (.getfield 68, 3) := by decide +kernel
theorem dX12_overlap_29 : decode cX12_overlap 29 = .ok (.ifCond .le 5, 3) := by decide +kernel
theorem dX12_overlap_32 : decode cX12_overlap 32 = .ok (.iconst 0, 1) := by decide +kernel
theorem dX12_overlap_33 : decode cX12_overlap 33 = .ok (.ireturn, 1) := by decide +kernel
theorem dX12_overlap_34 : decode cX12_overlap 34 = .ok (.aload_n 0, 1) := by decide +kernel
theorem dX12_overlap_35 : decode cX12_overlap 35 = .ok (.invokevirtual 171, 3) := by decide +kernel
theorem dX12_overlap_38 : decode cX12_overlap 38 = .ok (.aload_n 0, 1) := by decide +kernel
theorem dX12_overlap_39 : decode cX12_overlap 39 = .ok (.iload_n 1, 1) := by decide +kernel
theorem dX12_overlap_40 : decode cX12_overlap 40 = .ok (.iload_n 2, 1) := by decide +kernel
theorem dX12_overlap_41 : decode cX12_overlap 41 = .ok (.invokevirtual 216, 3) := by decide +kernel
theorem dX12_overlap_44 : decode cX12_overlap 44 = .ok (.ireturn, 1) := by decide +kernel
set_option maxHeartbeats 4000000 in
set_option maxRecDepth 100000 in
theorem w_X12_overlap (l : Launch) (G : GP) (x : XP) (a1 : Int32) (a2 : Int32) (σ : Sto) (P : Int32 → Sto → Prop) (h : D_X12_overlap a1 a2 σ P) : g_Meti l yX12_overlap cX12_overlap 3 (some .boolean) rm_X12_overlap G x [.ref (g_ad G 87), .int a1, .int a2] σ P := by
  unfold D_X12_overlap at h
  refine g_ofWi (by decide +kernel) (Nat.le_of_ble_eq_true rfl) ?_
  intro p e s m args below meth c Q ls C hM hl hret
  have hx := C.1
  have hb := C.2.1
  have hl : lv_has ls 3 [(0, .ref (g_ad G 87)), (1, .int a1), (2, .int a2)] := hl
  refine lv_aload_n (pc := 0) hx hb dX12_overlap_0 rfl (lv_at hl 0 rfl) ?_
  refine lv_aload_n (pc := 1) hx hb dX12_overlap_1 rfl (lv_at hl 0 rfl) ?_
  refine lv_iload_n (pc := 2) hx hb dX12_overlap_2 rfl (lv_at hl 1 rfl) ?_
  refine g_cVi (pc := 3) C hM hl.1 yv_X12_isRule q6_127 (by decide) ce_87 rfl (w_X12_isRule l G x a1 σ _ h) rfl rfl ⟨⟨by decide, by decide⟩, by decide, by decide⟩ (Nat.le_of_ble_eq_true rfl) dX12_overlap_3 (fun r3 s3 H locs h hM => ?_)
  refine lv_if_eq (pc := 6) (tgt := 21) hx hb dX12_overlap_6 (by decide) (fun c6 => ?_) (fun c6 => ?_)
  · have h := h.1 c6
    refine lv_iconst (pc := 21) (v := 1) hx hb dX12_overlap_21 (by decide) ?_
    refine g_putE (pc := 22) C hM (by decide) ce_87 fp_RX12_68 rfl rfl (Nat.le_of_ble_eq_true rfl) rfl dX12_overlap_22 (fun s22 es22 H locs hM => ?_)
    have h := h s22 es22
    refine lv_aload_n (pc := 25) hx hb dX12_overlap_25 rfl (lv_at hl 0 rfl) ?_
    refine g_get (pc := 26) (v := .int (s22 87 8)) C hM (by decide) ce_87 fl_RX12_68 rfl dX12_overlap_26 ?_
    refine lv_if_le (pc := 29) (tgt := 34) hx hb dX12_overlap_29 (by decide) (fun c29 => ?_) (fun c29 => ?_)
    · have h := h.1 c29
      refine lv_aload_n (pc := 34) hx hb dX12_overlap_34 rfl (lv_at hl 0 rfl) ?_
      refine g_cVv (pc := 35) C hM hl.1 yv_X12_laySets q7_44 (by decide) ce_87 rfl (w_X12_laySets l G x  s22 _ h) rfl rfl ⟨⟨by decide, by decide⟩, by decide, by decide⟩ (Nat.le_of_ble_eq_true rfl) dX12_overlap_35 (fun s35 H locs h hM => ?_)
      refine lv_aload_n (pc := 38) hx hb dX12_overlap_38 rfl (lv_at hl 0 rfl) ?_
      refine lv_iload_n (pc := 39) hx hb dX12_overlap_39 rfl (lv_at hl 1 rfl) ?_
      refine lv_iload_n (pc := 40) hx hb dX12_overlap_40 rfl (lv_at hl 2 rfl) ?_
      refine g_cVi (pc := 41) C hM hl.1 yv_X12_overlaps q7_127 (by decide) ce_87 rfl (w_X12_overlaps l G x a1 a2 s35 _ h) rfl rfl ⟨⟨by decide, by decide⟩, by decide, by decide⟩ (Nat.le_of_ble_eq_true rfl) dX12_overlap_41 (fun r41 s41 H locs h hM => ?_)
      exact hret 44 _ _ _ _ _ dX12_overlap_44 (nar_b h.1) h.2 hM
    · have h := h.2 c29
      refine lv_iconst (pc := 32) (v := 0) hx hb dX12_overlap_32 (by decide) ?_
      exact hret 33 _ _ _ _ _ dX12_overlap_33 (by rfl) h hM
  · have h := h.2 c6
    refine lv_aload_n (pc := 9) hx hb dX12_overlap_9 rfl (lv_at hl 0 rfl) ?_
    refine lv_iload_n (pc := 10) hx hb dX12_overlap_10 rfl (lv_at hl 2 rfl) ?_
    refine g_cVi (pc := 11) C hM hl.1 yv_X12_isRule q6_127 (by decide) ce_87 rfl (w_X12_isRule l G x a2 s3 _ h) rfl rfl ⟨⟨by decide, by decide⟩, by decide, by decide⟩ (Nat.le_of_ble_eq_true rfl) dX12_overlap_11 (fun r11 s11 H locs h hM => ?_)
    refine lv_if_eq (pc := 14) (tgt := 21) hx hb dX12_overlap_14 (by decide) (fun c14 => ?_) (fun c14 => ?_)
    · have h := h.1 c14
      refine lv_iconst (pc := 21) (v := 1) hx hb dX12_overlap_21 (by decide) ?_
      refine g_putE (pc := 22) C hM (by decide) ce_87 fp_RX12_68 rfl rfl (Nat.le_of_ble_eq_true rfl) rfl dX12_overlap_22 (fun s22 es22 H locs hM => ?_)
      have h := h s22 es22
      refine lv_aload_n (pc := 25) hx hb dX12_overlap_25 rfl (lv_at hl 0 rfl) ?_
      refine g_get (pc := 26) (v := .int (s22 87 8)) C hM (by decide) ce_87 fl_RX12_68 rfl dX12_overlap_26 ?_
      refine lv_if_le (pc := 29) (tgt := 34) hx hb dX12_overlap_29 (by decide) (fun c29 => ?_) (fun c29 => ?_)
      · have h := h.1 c29
        refine lv_aload_n (pc := 34) hx hb dX12_overlap_34 rfl (lv_at hl 0 rfl) ?_
        refine g_cVv (pc := 35) C hM hl.1 yv_X12_laySets q7_44 (by decide) ce_87 rfl (w_X12_laySets l G x  s22 _ h) rfl rfl ⟨⟨by decide, by decide⟩, by decide, by decide⟩ (Nat.le_of_ble_eq_true rfl) dX12_overlap_35 (fun s35 H locs h hM => ?_)
        refine lv_aload_n (pc := 38) hx hb dX12_overlap_38 rfl (lv_at hl 0 rfl) ?_
        refine lv_iload_n (pc := 39) hx hb dX12_overlap_39 rfl (lv_at hl 1 rfl) ?_
        refine lv_iload_n (pc := 40) hx hb dX12_overlap_40 rfl (lv_at hl 2 rfl) ?_
        refine g_cVi (pc := 41) C hM hl.1 yv_X12_overlaps q7_127 (by decide) ce_87 rfl (w_X12_overlaps l G x a1 a2 s35 _ h) rfl rfl ⟨⟨by decide, by decide⟩, by decide, by decide⟩ (Nat.le_of_ble_eq_true rfl) dX12_overlap_41 (fun r41 s41 H locs h hM => ?_)
        exact hret 44 _ _ _ _ _ dX12_overlap_44 (nar_b h.1) h.2 hM
      · have h := h.2 c29
        refine lv_iconst (pc := 32) (v := 0) hx hb dX12_overlap_32 (by decide) ?_
        exact hret 33 _ _ _ _ _ dX12_overlap_33 (by rfl) h hM
    · have h := h.2 c14
      refine lv_iconst (pc := 17) (v := 0) hx hb dX12_overlap_17 (by decide) ?_
      refine lv_goto (pc := 18) (tgt := 22) hx hb dX12_overlap_18 (by decide) ?_
      refine g_putE (pc := 22) C hM (by decide) ce_87 fp_RX12_68 rfl rfl (Nat.le_of_ble_eq_true rfl) rfl dX12_overlap_22 (fun s22 es22 H locs hM => ?_)
      have h := h s22 es22
      refine lv_aload_n (pc := 25) hx hb dX12_overlap_25 rfl (lv_at hl 0 rfl) ?_
      refine g_get (pc := 26) (v := .int (s22 87 8)) C hM (by decide) ce_87 fl_RX12_68 rfl dX12_overlap_26 ?_
      refine lv_if_le (pc := 29) (tgt := 34) hx hb dX12_overlap_29 (by decide) (fun c29 => ?_) (fun c29 => ?_)
      · have h := h.1 c29
        refine lv_aload_n (pc := 34) hx hb dX12_overlap_34 rfl (lv_at hl 0 rfl) ?_
        refine g_cVv (pc := 35) C hM hl.1 yv_X12_laySets q7_44 (by decide) ce_87 rfl (w_X12_laySets l G x  s22 _ h) rfl rfl ⟨⟨by decide, by decide⟩, by decide, by decide⟩ (Nat.le_of_ble_eq_true rfl) dX12_overlap_35 (fun s35 H locs h hM => ?_)
        refine lv_aload_n (pc := 38) hx hb dX12_overlap_38 rfl (lv_at hl 0 rfl) ?_
        refine lv_iload_n (pc := 39) hx hb dX12_overlap_39 rfl (lv_at hl 1 rfl) ?_
        refine lv_iload_n (pc := 40) hx hb dX12_overlap_40 rfl (lv_at hl 2 rfl) ?_
        refine g_cVi (pc := 41) C hM hl.1 yv_X12_overlaps q7_127 (by decide) ce_87 rfl (w_X12_overlaps l G x a1 a2 s35 _ h) rfl rfl ⟨⟨by decide, by decide⟩, by decide, by decide⟩ (Nat.le_of_ble_eq_true rfl) dX12_overlap_41 (fun r41 s41 H locs h hM => ?_)
        exact hret 44 _ _ _ _ _ dX12_overlap_44 (nar_b h.1) h.2 hM
      · have h := h.2 c29
        refine lv_iconst (pc := 32) (v := 0) hx hb dX12_overlap_32 (by decide) ?_
        exact hret 33 _ _ _ _ _ dX12_overlap_33 (by rfl) h hM
abbrev rm_X12_covers : Room := { frames := 3, cells := 0, slots := 0, locals := 67 }
theorem dX12_covers_0 : decode cX12_covers 0 = .ok (.aload_n 0, 1) := by decide +kernel
theorem dX12_covers_1 : decode cX12_covers 1 = .ok (.aload_n 0, 1) := by decide +kernel
theorem dX12_covers_2 : decode cX12_covers 2 = .ok (.iload_n 1, 1) := by decide +kernel
theorem dX12_covers_3 : decode cX12_covers 3 = .ok (.invokevirtual 105, 3) := by decide +kernel
theorem dX12_covers_6 : decode cX12_covers 6 = .ok (.ifCond .eq 15, 3) := by decide +kernel
theorem dX12_covers_9 : decode cX12_covers 9 = .ok (.aload_n 0, 1) := by decide +kernel
theorem dX12_covers_10 : decode cX12_covers 10 = .ok (.iload_n 2, 1) := by decide +kernel
theorem dX12_covers_11 : decode cX12_covers 11 = .ok (.invokevirtual 105, 3) := by decide +kernel
theorem dX12_covers_14 : decode cX12_covers 14 = .ok (.ifCond .eq 7, 3) := by decide +kernel
theorem dX12_covers_17 : decode cX12_covers 17 = .ok (.iconst 0, 1) := by decide +kernel
theorem dX12_covers_18 : decode cX12_covers 18 = .ok (.goto 4, 3) := by decide +kernel
theorem dX12_covers_21 : decode cX12_covers 21 = .ok (.iconst 1, 1) := by decide +kernel
theorem dX12_covers_22 : decode cX12_covers 22 = .ok (.putfield 68, 3) := by decide +kernel
theorem dX12_covers_25 : decode cX12_covers 25 = .ok (.aload_n 0, 1) := by decide +kernel
theorem dX12_covers_26 : decode cX12_covers 26 = .ok (.getfield 68, 3) := by decide +kernel
theorem dX12_covers_29 : decode cX12_covers 29 = .ok (.ifCond .le 5, 3) := by decide +kernel
theorem dX12_covers_32 : decode cX12_covers 32 = .ok (.iconst 0, 1) := by decide +kernel
theorem dX12_covers_33 : decode cX12_covers 33 = .ok (.ireturn, 1) := by decide +kernel
theorem dX12_covers_34 : decode cX12_covers 34 = .ok (.aload_n 0, 1) := by decide +kernel
theorem dX12_covers_35 : decode cX12_covers 35 = .ok (.invokevirtual 171, 3) := by decide +kernel
theorem dX12_covers_38 : decode cX12_covers 38 = .ok (.iconst 1, 1) := by decide +kernel
theorem dX12_covers_39 : decode cX12_covers 39 = .ok (.istore_n 3, 1) := by decide +kernel
theorem dX12_covers_40 : decode cX12_covers 40 = .ok (.iconst 0, 1) := by decide +kernel
theorem dX12_covers_41 : decode cX12_covers 41 = .ok (.istore 4, 2) := by decide +kernel
theorem dX12_covers_43 : decode cX12_covers 43 = .ok (.iload 4, 2) := by decide +kernel
theorem dX12_covers_45 : decode cX12_covers 45 = .ok (.bipush 6, 2) := by decide +kernel
theorem dX12_covers_47 : decode cX12_covers 47 = .ok (.if_icmp .ge 49, 3) := by decide +kernel
theorem dX12_covers_50 : decode cX12_covers 50 = .ok (.iload_n 3, 1) := by decide +kernel
theorem dX12_covers_51 : decode cX12_covers 51 = .ok (.ifCond .eq 37, 3) := by decide +kernel
theorem dX12_covers_54 : decode cX12_covers 54 = .ok (.aload_n 0, 1) := by decide +kernel
theorem dX12_covers_55 : decode cX12_covers 55 = .ok (.getfield 25, 3) := by decide +kernel
theorem dX12_covers_58 : decode cX12_covers 58 = .ok (.bipush 6, 2) := by decide +kernel
theorem dX12_covers_60 : decode cX12_covers 60 = .ok (.iload_n 2, 1) := by decide +kernel
theorem dX12_covers_61 : decode cX12_covers 61 = .ok (.imul, 1) := by decide +kernel
theorem dX12_covers_62 : decode cX12_covers 62 = .ok (.iload 4, 2) := by decide +kernel
theorem dX12_covers_64 : decode cX12_covers 64 = .ok (.iadd, 1) := by decide +kernel
theorem dX12_covers_65 : decode cX12_covers 65 = .ok (.iaload, 1) := by decide +kernel
theorem dX12_covers_66 : decode cX12_covers 66 = .ok (.aload_n 0, 1) := by decide +kernel
theorem dX12_covers_67 : decode cX12_covers 67 = .ok (.getfield 25, 3) := by decide +kernel
theorem dX12_covers_70 : decode cX12_covers 70 = .ok (.bipush 6, 2) := by decide +kernel
theorem dX12_covers_72 : decode cX12_covers 72 = .ok (.iload_n 1, 1) := by decide +kernel
theorem dX12_covers_73 : decode cX12_covers 73 = .ok (.imul, 1) := by decide +kernel
theorem dX12_covers_74 : decode cX12_covers 74 = .ok (.iload 4, 2) := by decide +kernel
theorem dX12_covers_76 : decode cX12_covers 76 = .ok (.iadd, 1) := by decide +kernel
theorem dX12_covers_77 : decode cX12_covers 77 = .ok (.iaload, 1) := by decide +kernel
theorem dX12_covers_78 : decode cX12_covers 78 = .ok (.iconst (-1), 1) := by decide +kernel
theorem dX12_covers_79 : decode cX12_covers 79 = .ok (.ixor, 1) := by decide +kernel
theorem dX12_covers_80 : decode cX12_covers 80 = .ok (.iand, 1) := by decide +kernel
theorem dX12_covers_81 : decode cX12_covers 81 = .ok (.ifCond .ne 7, 3) := by decide +kernel
theorem dX12_covers_84 : decode cX12_covers 84 = .ok (.iconst 1, 1) := by decide +kernel
theorem dX12_covers_85 : decode cX12_covers 85 = .ok (.goto 4, 3) := by decide +kernel
theorem dX12_covers_88 : decode cX12_covers 88 = .ok (.iconst 0, 1) := by decide +kernel
theorem dX12_covers_89 : decode cX12_covers 89 = .ok (.istore_n 3, 1) := by decide +kernel
theorem dX12_covers_90 : decode cX12_covers 90 = .ok (.iinc 4 1, 3) := by decide +kernel
theorem dX12_covers_93 : decode cX12_covers 93 = .ok (.goto (-50), 3) := by decide +kernel
theorem dX12_covers_96 : decode cX12_covers 96 = .ok (.iload_n 3, 1) := by decide +kernel
theorem dX12_covers_97 : decode cX12_covers 97 = .ok (.ifCond .ne 11, 3) := by decide +kernel
theorem dX12_covers_100 : decode cX12_covers 100 = .ok (.aload_n 0, 1) := by decide +kernel
theorem dX12_covers_101 : decode cX12_covers 101 = .ok (.iload_n 2, 1) := by decide +kernel
theorem dX12_covers_102 : decode cX12_covers 102 = .ok (.invokevirtual 213, 3) := by decide +kernel
theorem dX12_covers_105 : decode cX12_covers 105 = .ok (.ifCond .ne 7, 3) := by decide +kernel
theorem dX12_covers_108 : decode cX12_covers 108 = .ok (.iconst 1, 1) := by decide +kernel
theorem dX12_covers_109 : decode cX12_covers 109 = .ok (.goto 4, 3) := by decide +kernel
theorem dX12_covers_112 : decode cX12_covers 112 = .ok (.iconst 0, 1) := by decide +kernel
theorem dX12_covers_113 : decode cX12_covers 113 = .ok (.ireturn, 1) := by decide +kernel
set_option maxHeartbeats 4000000 in
set_option maxRecDepth 100000 in
theorem w_X12_covers (l : Launch) (G : GP) (x : XP) (a1 : Int32) (a2 : Int32) (σ : Sto) (P : Int32 → Sto → Prop) (h : D_X12_covers a1 a2 σ P) : g_Meti l yX12_covers cX12_covers 5 (some .boolean) rm_X12_covers G x [.ref (g_ad G 87), .int a1, .int a2] σ P := by
  unfold D_X12_covers at h
  refine g_ofWi (by decide +kernel) (Nat.le_of_ble_eq_true rfl) ?_
  intro p e s m args below meth c Q ls C hM hl hret
  have hx := C.1
  have hb := C.2.1
  have hl : lv_has ls 5 [(0, .ref (g_ad G 87)), (1, .int a1), (2, .int a2)] := hl
  have h := h (fun (v3 : Int32) (v4 : Int32) (σ : Sto) => ∀ (H : Heap) (locs : List Loc) (ls : Array Slot), g_M G x σ s H locs → lv_has ls 5 [(0, .ref (g_ad G 87)), (1, .int a1), (2, .int a2), (3, .int v3), (4, .int v4)] → W p l e rm_X12_covers s m args below meth c H locs 0 0 Q (F0 m 43 ls []))
  have h := h (by
    intro v3 v4 σ h  H locs ls hM hl
    refine lv_iload (pc := 43) hx hb dX12_covers_43 (lv_at hl 4 rfl) ?_
    refine lv_bipush (pc := 45) (v := 6) hx hb dX12_covers_45 (by decide) ?_
    refine lv_icmp_ge (pc := 47) (tgt := 96) hx hb dX12_covers_47 (by decide) (fun c47 => ?_) (fun c47 => ?_)
    · have h := h.1 c47
      refine lv_iload_n (pc := 96) hx hb dX12_covers_96 rfl (lv_at hl 3 rfl) ?_
      refine lv_if_ne (pc := 97) (tgt := 108) hx hb dX12_covers_97 (by decide) (fun c97 => ?_) (fun c97 => ?_)
      · have h := h.2 c97
        refine lv_iconst (pc := 108) (v := 1) hx hb dX12_covers_108 (by decide) ?_
        refine lv_goto (pc := 109) (tgt := 113) hx hb dX12_covers_109 (by decide) ?_
        exact hret 113 _ _ _ _ _ dX12_covers_113 (by rfl) h hM
      · have h := h.1 c97
        refine lv_aload_n (pc := 100) hx hb dX12_covers_100 rfl (lv_at hl 0 rfl) ?_
        refine lv_iload_n (pc := 101) hx hb dX12_covers_101 rfl (lv_at hl 2 rfl) ?_
        refine g_cVi (pc := 102) C hM hl.1 yv_X12_extentOf q7_119 (by decide) ce_87 rfl (w_X12_extentOf l G x a2 σ _ h) rfl rfl ⟨⟨by decide, by decide⟩, by decide, by decide⟩ (Nat.le_of_ble_eq_true rfl) dX12_covers_102 (fun r102 s102 H locs h hM => ?_)
        refine lv_if_ne (pc := 105) (tgt := 112) hx hb dX12_covers_105 (by decide) (fun c105 => ?_) (fun c105 => ?_)
        · have h := h.2 c105
          refine lv_iconst (pc := 112) (v := 0) hx hb dX12_covers_112 (by decide) ?_
          exact hret 113 _ _ _ _ _ dX12_covers_113 (by rfl) h hM
        · have h := h.1 c105
          refine lv_iconst (pc := 108) (v := 1) hx hb dX12_covers_108 (by decide) ?_
          refine lv_goto (pc := 109) (tgt := 113) hx hb dX12_covers_109 (by decide) ?_
          exact hret 113 _ _ _ _ _ dX12_covers_113 (by rfl) h hM
    · have h := h.2 c47
      refine lv_iload_n (pc := 50) hx hb dX12_covers_50 rfl (lv_at hl 3 rfl) ?_
      refine lv_if_eq (pc := 51) (tgt := 88) hx hb dX12_covers_51 (by decide) (fun c51 => ?_) (fun c51 => ?_)
      · have h := h.1 c51
        refine lv_iconst (pc := 88) (v := 0) hx hb dX12_covers_88 (by decide) ?_
        refine lv_istore_n (pc := 89) (lv' := [(3, .int 0), (0, .ref (g_ad G 87)), (1, .int a1), (2, .int a2), (4, .int v4)]) hx hb dX12_covers_89 rfl hl (by decide) rfl (fun ls hl => ?_)
        refine lv_iinc (pc := 90) (v := (v4 + 1)) (lv' := [(4, .int (v4 + 1)), (3, .int 0), (0, .ref (g_ad G 87)), (1, .int a1), (2, .int a2)]) hx hb dX12_covers_90 hl (k := 4) rfl (by rfl) (by decide) rfl (fun ls hl => ?_)
        refine lv_goto (pc := 93) (tgt := 43) hx hb dX12_covers_93 (by decide) ?_
        exact h _ _ _ hM (lv_sub hl [2, 3, 4, 1, 0] rfl)
      · have h := h.2 c51
        refine lv_aload_n (pc := 54) hx hb dX12_covers_54 rfl (lv_at hl 0 rfl) ?_
        refine g_get (pc := 55) (v := .ref (g_ad G 93)) C hM (by decide) ce_87 fl_RX12_25 rfl dX12_covers_55 ?_
        refine lv_bipush (pc := 58) (v := 6) hx hb dX12_covers_58 (by decide) ?_
        refine lv_iload_n (pc := 60) hx hb dX12_covers_60 rfl (lv_at hl 2 rfl) ?_
        refine lv_imul (pc := 61) hx hb dX12_covers_61 ?_
        refine lv_iload (pc := 62) hx hb dX12_covers_62 (lv_at hl 4 rfl) ?_
        refine lv_iadd (pc := 64) hx hb dX12_covers_64 ?_
        obtain ⟨hc, h⟩ := h
        refine g_ialdK (pc := 65) C hM (by decide) ce_93 hc rfl dX12_covers_65 ?_
        refine lv_aload_n (pc := 66) hx hb dX12_covers_66 rfl (lv_at hl 0 rfl) ?_
        refine g_get (pc := 67) (v := .ref (g_ad G 93)) C hM (by decide) ce_87 fl_RX12_25 rfl dX12_covers_67 ?_
        refine lv_bipush (pc := 70) (v := 6) hx hb dX12_covers_70 (by decide) ?_
        refine lv_iload_n (pc := 72) hx hb dX12_covers_72 rfl (lv_at hl 1 rfl) ?_
        refine lv_imul (pc := 73) hx hb dX12_covers_73 ?_
        refine lv_iload (pc := 74) hx hb dX12_covers_74 (lv_at hl 4 rfl) ?_
        refine lv_iadd (pc := 76) hx hb dX12_covers_76 ?_
        obtain ⟨hc, h⟩ := h
        refine g_ialdK (pc := 77) C hM (by decide) ce_93 hc rfl dX12_covers_77 ?_
        refine lv_iconst (pc := 78) (v := (-1)) hx hb dX12_covers_78 (by decide) ?_
        refine lv_ixor (pc := 79) hx hb dX12_covers_79 ?_
        refine lv_iand (pc := 80) hx hb dX12_covers_80 ?_
        refine lv_if_ne (pc := 81) (tgt := 88) hx hb dX12_covers_81 (by decide) (fun c81 => ?_) (fun c81 => ?_)
        · have h := h.2 c81
          refine lv_iconst (pc := 88) (v := 0) hx hb dX12_covers_88 (by decide) ?_
          refine lv_istore_n (pc := 89) (lv' := [(3, .int 0), (0, .ref (g_ad G 87)), (1, .int a1), (2, .int a2), (4, .int v4)]) hx hb dX12_covers_89 rfl hl (by decide) rfl (fun ls hl => ?_)
          refine lv_iinc (pc := 90) (v := (v4 + 1)) (lv' := [(4, .int (v4 + 1)), (3, .int 0), (0, .ref (g_ad G 87)), (1, .int a1), (2, .int a2)]) hx hb dX12_covers_90 hl (k := 4) rfl (by rfl) (by decide) rfl (fun ls hl => ?_)
          refine lv_goto (pc := 93) (tgt := 43) hx hb dX12_covers_93 (by decide) ?_
          exact h _ _ _ hM (lv_sub hl [2, 3, 4, 1, 0] rfl)
        · have h := h.1 c81
          refine lv_iconst (pc := 84) (v := 1) hx hb dX12_covers_84 (by decide) ?_
          refine lv_goto (pc := 85) (tgt := 89) hx hb dX12_covers_85 (by decide) ?_
          refine lv_istore_n (pc := 89) (lv' := [(3, .int 1), (0, .ref (g_ad G 87)), (1, .int a1), (2, .int a2), (4, .int v4)]) hx hb dX12_covers_89 rfl hl (by decide) rfl (fun ls hl => ?_)
          refine lv_iinc (pc := 90) (v := (v4 + 1)) (lv' := [(4, .int (v4 + 1)), (3, .int 1), (0, .ref (g_ad G 87)), (1, .int a1), (2, .int a2)]) hx hb dX12_covers_90 hl (k := 4) rfl (by rfl) (by decide) rfl (fun ls hl => ?_)
          refine lv_goto (pc := 93) (tgt := 43) hx hb dX12_covers_93 (by decide) ?_
          exact h _ _ _ hM (lv_sub hl [2, 3, 4, 1, 0] rfl))
  refine lv_aload_n (pc := 0) hx hb dX12_covers_0 rfl (lv_at hl 0 rfl) ?_
  refine lv_aload_n (pc := 1) hx hb dX12_covers_1 rfl (lv_at hl 0 rfl) ?_
  refine lv_iload_n (pc := 2) hx hb dX12_covers_2 rfl (lv_at hl 1 rfl) ?_
  refine g_cVi (pc := 3) C hM hl.1 yv_X12_isRule q6_127 (by decide) ce_87 rfl (w_X12_isRule l G x a1 σ _ h) rfl rfl ⟨⟨by decide, by decide⟩, by decide, by decide⟩ (Nat.le_of_ble_eq_true rfl) dX12_covers_3 (fun r3 s3 H locs h hM => ?_)
  refine lv_if_eq (pc := 6) (tgt := 21) hx hb dX12_covers_6 (by decide) (fun c6 => ?_) (fun c6 => ?_)
  · have h := h.1 c6
    refine lv_iconst (pc := 21) (v := 1) hx hb dX12_covers_21 (by decide) ?_
    refine g_putE (pc := 22) C hM (by decide) ce_87 fp_RX12_68 rfl rfl (Nat.le_of_ble_eq_true rfl) rfl dX12_covers_22 (fun s22 es22 H locs hM => ?_)
    have h := h s22 es22
    refine lv_aload_n (pc := 25) hx hb dX12_covers_25 rfl (lv_at hl 0 rfl) ?_
    refine g_get (pc := 26) (v := .int (s22 87 8)) C hM (by decide) ce_87 fl_RX12_68 rfl dX12_covers_26 ?_
    refine lv_if_le (pc := 29) (tgt := 34) hx hb dX12_covers_29 (by decide) (fun c29 => ?_) (fun c29 => ?_)
    · have h := h.1 c29
      refine lv_aload_n (pc := 34) hx hb dX12_covers_34 rfl (lv_at hl 0 rfl) ?_
      refine g_cVv (pc := 35) C hM hl.1 yv_X12_laySets q7_44 (by decide) ce_87 rfl (w_X12_laySets l G x  s22 _ h) rfl rfl ⟨⟨by decide, by decide⟩, by decide, by decide⟩ (Nat.le_of_ble_eq_true rfl) dX12_covers_35 (fun s35 H locs h hM => ?_)
      refine lv_iconst (pc := 38) (v := 1) hx hb dX12_covers_38 (by decide) ?_
      refine lv_istore_n (pc := 39) (lv' := [(3, .int 1), (0, .ref (g_ad G 87)), (1, .int a1), (2, .int a2)]) hx hb dX12_covers_39 rfl hl (by decide) rfl (fun ls hl => ?_)
      refine lv_iconst (pc := 40) (v := 0) hx hb dX12_covers_40 (by decide) ?_
      refine lv_istore (pc := 41) (lv' := [(4, .int 0), (3, .int 1), (0, .ref (g_ad G 87)), (1, .int a1), (2, .int a2)]) hx hb dX12_covers_41 hl (by decide) rfl (fun ls hl => ?_)
      exact h _ _ _ hM (lv_sub hl [2, 3, 4, 1, 0] rfl)
    · have h := h.2 c29
      refine lv_iconst (pc := 32) (v := 0) hx hb dX12_covers_32 (by decide) ?_
      exact hret 33 _ _ _ _ _ dX12_covers_33 (by rfl) h hM
  · have h := h.2 c6
    refine lv_aload_n (pc := 9) hx hb dX12_covers_9 rfl (lv_at hl 0 rfl) ?_
    refine lv_iload_n (pc := 10) hx hb dX12_covers_10 rfl (lv_at hl 2 rfl) ?_
    refine g_cVi (pc := 11) C hM hl.1 yv_X12_isRule q6_127 (by decide) ce_87 rfl (w_X12_isRule l G x a2 s3 _ h) rfl rfl ⟨⟨by decide, by decide⟩, by decide, by decide⟩ (Nat.le_of_ble_eq_true rfl) dX12_covers_11 (fun r11 s11 H locs h hM => ?_)
    refine lv_if_eq (pc := 14) (tgt := 21) hx hb dX12_covers_14 (by decide) (fun c14 => ?_) (fun c14 => ?_)
    · have h := h.1 c14
      refine lv_iconst (pc := 21) (v := 1) hx hb dX12_covers_21 (by decide) ?_
      refine g_putE (pc := 22) C hM (by decide) ce_87 fp_RX12_68 rfl rfl (Nat.le_of_ble_eq_true rfl) rfl dX12_covers_22 (fun s22 es22 H locs hM => ?_)
      have h := h s22 es22
      refine lv_aload_n (pc := 25) hx hb dX12_covers_25 rfl (lv_at hl 0 rfl) ?_
      refine g_get (pc := 26) (v := .int (s22 87 8)) C hM (by decide) ce_87 fl_RX12_68 rfl dX12_covers_26 ?_
      refine lv_if_le (pc := 29) (tgt := 34) hx hb dX12_covers_29 (by decide) (fun c29 => ?_) (fun c29 => ?_)
      · have h := h.1 c29
        refine lv_aload_n (pc := 34) hx hb dX12_covers_34 rfl (lv_at hl 0 rfl) ?_
        refine g_cVv (pc := 35) C hM hl.1 yv_X12_laySets q7_44 (by decide) ce_87 rfl (w_X12_laySets l G x  s22 _ h) rfl rfl ⟨⟨by decide, by decide⟩, by decide, by decide⟩ (Nat.le_of_ble_eq_true rfl) dX12_covers_35 (fun s35 H locs h hM => ?_)
        refine lv_iconst (pc := 38) (v := 1) hx hb dX12_covers_38 (by decide) ?_
        refine lv_istore_n (pc := 39) (lv' := [(3, .int 1), (0, .ref (g_ad G 87)), (1, .int a1), (2, .int a2)]) hx hb dX12_covers_39 rfl hl (by decide) rfl (fun ls hl => ?_)
        refine lv_iconst (pc := 40) (v := 0) hx hb dX12_covers_40 (by decide) ?_
        refine lv_istore (pc := 41) (lv' := [(4, .int 0), (3, .int 1), (0, .ref (g_ad G 87)), (1, .int a1), (2, .int a2)]) hx hb dX12_covers_41 hl (by decide) rfl (fun ls hl => ?_)
        exact h _ _ _ hM (lv_sub hl [2, 3, 4, 1, 0] rfl)
      · have h := h.2 c29
        refine lv_iconst (pc := 32) (v := 0) hx hb dX12_covers_32 (by decide) ?_
        exact hret 33 _ _ _ _ _ dX12_covers_33 (by rfl) h hM
    · have h := h.2 c14
      refine lv_iconst (pc := 17) (v := 0) hx hb dX12_covers_17 (by decide) ?_
      refine lv_goto (pc := 18) (tgt := 22) hx hb dX12_covers_18 (by decide) ?_
      refine g_putE (pc := 22) C hM (by decide) ce_87 fp_RX12_68 rfl rfl (Nat.le_of_ble_eq_true rfl) rfl dX12_covers_22 (fun s22 es22 H locs hM => ?_)
      have h := h s22 es22
      refine lv_aload_n (pc := 25) hx hb dX12_covers_25 rfl (lv_at hl 0 rfl) ?_
      refine g_get (pc := 26) (v := .int (s22 87 8)) C hM (by decide) ce_87 fl_RX12_68 rfl dX12_covers_26 ?_
      refine lv_if_le (pc := 29) (tgt := 34) hx hb dX12_covers_29 (by decide) (fun c29 => ?_) (fun c29 => ?_)
      · have h := h.1 c29
        refine lv_aload_n (pc := 34) hx hb dX12_covers_34 rfl (lv_at hl 0 rfl) ?_
        refine g_cVv (pc := 35) C hM hl.1 yv_X12_laySets q7_44 (by decide) ce_87 rfl (w_X12_laySets l G x  s22 _ h) rfl rfl ⟨⟨by decide, by decide⟩, by decide, by decide⟩ (Nat.le_of_ble_eq_true rfl) dX12_covers_35 (fun s35 H locs h hM => ?_)
        refine lv_iconst (pc := 38) (v := 1) hx hb dX12_covers_38 (by decide) ?_
        refine lv_istore_n (pc := 39) (lv' := [(3, .int 1), (0, .ref (g_ad G 87)), (1, .int a1), (2, .int a2)]) hx hb dX12_covers_39 rfl hl (by decide) rfl (fun ls hl => ?_)
        refine lv_iconst (pc := 40) (v := 0) hx hb dX12_covers_40 (by decide) ?_
        refine lv_istore (pc := 41) (lv' := [(4, .int 0), (3, .int 1), (0, .ref (g_ad G 87)), (1, .int a1), (2, .int a2)]) hx hb dX12_covers_41 hl (by decide) rfl (fun ls hl => ?_)
        exact h _ _ _ hM (lv_sub hl [2, 3, 4, 1, 0] rfl)
      · have h := h.2 c29
        refine lv_iconst (pc := 32) (v := 0) hx hb dX12_covers_32 (by decide) ?_
        exact hret 33 _ _ _ _ _ dX12_covers_33 (by rfl) h hM
abbrev rm_X12_clashes : Room := { frames := 3, cells := 0, slots := 0, locals := 67 }
theorem dX12_clashes_0 : decode cX12_clashes 0 = .ok (.aload_n 0, 1) := by decide +kernel
theorem dX12_clashes_1 : decode cX12_clashes 1 = .ok (.iload_n 1, 1) := by decide +kernel
theorem dX12_clashes_2 : decode cX12_clashes 2 = .ok (.invokestatic 86, 3) := by decide +kernel
theorem dX12_clashes_5 : decode cX12_clashes 5 = .ok (.ifCond .eq 7, 3) := by decide +kernel
theorem dX12_clashes_8 : decode cX12_clashes 8 = .ok (.iconst 0, 1) := by decide +kernel
theorem dX12_clashes_9 : decode cX12_clashes 9 = .ok (.goto 4, 3) := by decide +kernel
theorem dX12_clashes_12 : decode cX12_clashes 12 = .ok (.iconst 1, 1) := by decide +kernel
theorem dX12_clashes_13 : decode cX12_clashes 13 = .ok (.putfield 68, 3) := by decide +kernel
theorem dX12_clashes_16 : decode cX12_clashes 16 = .ok (.aload_n 0, 1) := by decide +kernel
theorem dX12_clashes_17 : decode cX12_clashes 17 = .ok (.getfield 68, 3) := by decide +kernel
theorem dX12_clashes_20 : decode cX12_clashes 20 = .ok (.ifCond .le 5, 3) := by decide +kernel
theorem dX12_clashes_23 : decode cX12_clashes 23 = .ok (.iconst 0, 1) := by decide +kernel
theorem dX12_clashes_24 : decode cX12_clashes 24 = .ok (.ireturn, 1) := by decide +kernel
theorem dX12_clashes_25 : decode cX12_clashes 25 = .ok (.aload_n 0, 1) := by decide +kernel
theorem dX12_clashes_26 : decode cX12_clashes 26 = .ok (.invokevirtual 171, 3) := by decide +kernel
theorem dX12_clashes_29 : decode cX12_clashes 29 = .ok (.iconst 0, 1) := by decide +kernel
theorem dX12_clashes_30 : decode cX12_clashes 30 = .ok (.istore_n 2, 1) := by decide +kernel
theorem dX12_clashes_31 : decode cX12_clashes 31 = .ok (.iconst 0, 1) := by decide +kernel
theorem dX12_clashes_32 : decode cX12_clashes 32 = .ok (.istore_n 3, 1) := by decide +kernel
theorem dX12_clashes_33 : decode cX12_clashes 33 = .ok (.iload_n 3, 1) := by decide +kernel
theorem dX12_clashes_34 : decode cX12_clashes 34 = .ok (.aload_n 0, 1) := by decide +kernel
theorem dX12_clashes_35 : decode cX12_clashes 35 = .ok (.getfield 7, 3) := by decide +kernel
theorem dX12_clashes_38 : decode cX12_clashes 38 = .ok (.iconst 0, 1) := by decide +kernel
theorem dX12_clashes_39 : decode cX12_clashes 39 = .ok (.iaload, 1) := by decide +kernel
theorem dX12_clashes_40 : decode cX12_clashes 40 = .ok (.if_icmp .ge 91, 3) := by decide +kernel
theorem dX12_clashes_43 : decode cX12_clashes 43 = .ok (.iconst 0, 1) := by decide +kernel
theorem dX12_clashes_44 : decode cX12_clashes 44 = .ok (.istore 4, 2) := by decide +kernel
theorem dX12_clashes_46 : decode cX12_clashes 46 = .ok (.iload 4, 2) := by decide +kernel
theorem dX12_clashes_48 : decode cX12_clashes 48 = .ok (.iload_n 3, 1) := by decide +kernel
theorem dX12_clashes_49 : decode cX12_clashes 49 = .ok (.if_icmp .ge 76, 3) := by decide +kernel
theorem dX12_clashes_52 : decode cX12_clashes 52 = .ok (.aload_n 0, 1) := by decide +kernel
theorem dX12_clashes_53 : decode cX12_clashes 53 = .ok (.iload_n 3, 1) := by decide +kernel
theorem dX12_clashes_54 : decode cX12_clashes 54 = .ok (.iconst 0, 1) := by decide +kernel
theorem dX12_clashes_55 : decode cX12_clashes 55 = .ok (.invokevirtual 97, 3) := by decide +kernel
theorem dX12_clashes_58 : decode cX12_clashes 58 = .ok (.iload_n 1, 1) := by decide +kernel
theorem dX12_clashes_59 : decode cX12_clashes 59 = .ok (.if_icmp .ne 34, 3) := by decide +kernel
theorem dX12_clashes_62 : decode cX12_clashes 62 = .ok (.aload_n 0, 1) := by decide +kernel
theorem dX12_clashes_63 : decode cX12_clashes 63 = .ok (.iload 4, 2) := by decide +kernel
theorem dX12_clashes_65 : decode cX12_clashes 65 = .ok (.iconst 0, 1) := by decide +kernel
theorem dX12_clashes_66 : decode cX12_clashes 66 = .ok (.invokevirtual 97, 3) := by decide +kernel
theorem dX12_clashes_69 : decode cX12_clashes 69 = .ok (.iload_n 1, 1) := by decide +kernel
theorem dX12_clashes_70 : decode cX12_clashes 70 = .ok (.if_icmp .ne 23, 3) := by decide +kernel
theorem dX12_clashes_73 : decode cX12_clashes 73 = .ok (.aload_n 0, 1) := by decide +kernel
theorem dX12_clashes_74 : decode cX12_clashes 74 = .ok (.iload_n 3, 1) := by decide +kernel
theorem dX12_clashes_75 : decode cX12_clashes 75 = .ok (.iconst 1, 1) := by decide +kernel
theorem dX12_clashes_76 : decode cX12_clashes 76 = .ok (.invokevirtual 97, 3) := by decide +kernel
theorem dX12_clashes_79 : decode cX12_clashes 79 = .ok (.aload_n 0, 1) := by decide +kernel
theorem dX12_clashes_80 : decode cX12_clashes 80 = .ok (.iload 4, 2) := by decide +kernel
theorem dX12_clashes_82 : decode cX12_clashes 82 = .ok (.iconst 1, 1) := by decide +kernel
theorem dX12_clashes_83 : decode cX12_clashes 83 = .ok (.invokevirtual 97, 3) := by decide +kernel
theorem dX12_clashes_86 : decode cX12_clashes 86 = .ok (.if_icmp .eq 7, 3) := by decide +kernel
theorem dX12_clashes_89 : decode cX12_clashes 89 = .ok (.iconst 1, 1) := by decide +kernel
theorem dX12_clashes_90 : decode cX12_clashes 90 = .ok (.goto 4, 3) := by decide +kernel
theorem dX12_clashes_93 : decode cX12_clashes 93 = .ok (.iconst 0, 1) := by decide +kernel
theorem dX12_clashes_94 : decode cX12_clashes 94 = .ok (.istore 5, 2) := by decide +kernel
theorem dX12_clashes_96 : decode cX12_clashes 96 = .ok (.iload_n 2, 1) := by decide +kernel
theorem dX12_clashes_97 : decode cX12_clashes 97 = .ok (.iload 5, 2) := by decide +kernel
theorem dX12_clashes_99 : decode cX12_clashes 99 = .ok (.ifCond .eq 17, 3) := by decide +kernel
theorem dX12_clashes_102 : decode cX12_clashes 102 = .ok (.aload_n 0, 1) := by decide +kernel
theorem dX12_clashes_103 : decode cX12_clashes 103 = .ok (.iload_n 3, 1) := by decide +kernel
theorem dX12_clashes_104 : decode cX12_clashes 104 = .ok (.iload 4, 2) := by decide +kernel
theorem dX12_clashes_106 : decode cX12_clashes 106 = .ok (.invokevirtual 216, 3) := by decide +kernel
theorem dX12_clashes_109 : decode cX12_clashes 109 = .ok (.ifCond .eq 7, 3) := by decide +kernel
theorem dX12_clashes_112 : decode cX12_clashes 112 = .ok (.iconst 1, 1) := by decide +kernel
theorem dX12_clashes_113 : decode cX12_clashes 113 = .ok (.goto 4, 3) := by decide +kernel
theorem dX12_clashes_116 : decode cX12_clashes 116 = .ok (.iconst 0, 1) := by decide +kernel
theorem dX12_clashes_117 : decode cX12_clashes 117 = .ok (.iadd, 1) := by decide +kernel
theorem dX12_clashes_118 : decode cX12_clashes 118 = .ok (.istore_n 2, 1) := by decide +kernel
theorem dX12_clashes_119 : decode cX12_clashes 119 = .ok (.iinc 4 1, 3) := by decide +kernel
theorem dX12_clashes_122 : decode cX12_clashes 122 = .ok (.goto (-76), 3) := by decide +kernel
theorem dX12_clashes_125 : decode cX12_clashes 125 = .ok (.iinc 3 1, 3) := by decide +kernel
theorem dX12_clashes_128 : decode cX12_clashes 128 = .ok (.goto (-95), 3) := by decide +kernel
theorem dX12_clashes_131 : decode cX12_clashes 131 = .ok (.iload_n 2, 1) := by decide +kernel
theorem dX12_clashes_132 : decode cX12_clashes 132 = .ok (.ireturn, 1) := by decide +kernel
set_option maxHeartbeats 4000000 in
set_option maxRecDepth 100000 in
theorem w_X12_clashes (l : Launch) (G : GP) (x : XP) (a1 : Int32) (σ : Sto) (P : Int32 → Sto → Prop) (h : D_X12_clashes a1 σ P) : g_Meti l yX12_clashes cX12_clashes 6 (some .int) rm_X12_clashes G x [.ref (g_ad G 87), .int a1] σ P := by
  unfold D_X12_clashes at h
  refine g_ofWi (by decide +kernel) (Nat.le_of_ble_eq_true rfl) ?_
  intro p e s m args below meth c Q ls C hM hl hret
  have hx := C.1
  have hb := C.2.1
  have hl : lv_has ls 6 [(0, .ref (g_ad G 87)), (1, .int a1)] := hl
  have h := h (fun (v2 : Int32) (v3 : Int32) (σ : Sto) => ∀ (H : Heap) (locs : List Loc) (ls : Array Slot), g_M G x σ s H locs → lv_has ls 6 [(0, .ref (g_ad G 87)), (1, .int a1), (2, .int v2), (3, .int v3)] → W p l e rm_X12_clashes s m args below meth c H locs 0 0 Q (F0 m 33 ls [])) (fun (v2 : Int32) (v3 : Int32) (v4 : Int32) (σ : Sto) => ∀ (H : Heap) (locs : List Loc) (ls : Array Slot), g_M G x σ s H locs → lv_has ls 6 [(0, .ref (g_ad G 87)), (1, .int a1), (2, .int v2), (3, .int v3), (4, .int v4)] → W p l e rm_X12_clashes s m args below meth c H locs 0 0 Q (F0 m 46 ls [])) (fun (v2 : Int32) (v3 : Int32) (v4 : Int32) (t0 : Int32) (σ : Sto) => ∀ (H : Heap) (locs : List Loc) (ls : Array Slot), g_M G x σ s H locs → lv_has ls 6 [(0, .ref (g_ad G 87)), (1, .int a1), (2, .int v2), (3, .int v3), (4, .int v4)] → W p l e rm_X12_clashes s m args below meth c H locs 0 0 Q (F0 m 94 ls [.int t0]))
  have h := h (by
    intro v2 v3 σ h  H locs ls hM hl
    refine lv_iload_n (pc := 33) hx hb dX12_clashes_33 rfl (lv_at hl 3 rfl) ?_
    refine lv_aload_n (pc := 34) hx hb dX12_clashes_34 rfl (lv_at hl 0 rfl) ?_
    refine g_get (pc := 35) (v := .ref (g_ad G 88)) C hM (by decide) ce_87 fl_RX12_7 rfl dX12_clashes_35 ?_
    refine lv_iconst (pc := 38) (v := 0) hx hb dX12_clashes_38 (by decide) ?_
    refine g_ialdK (pc := 39) (k := 0) C hM (by decide) ce_88 (vp_in_nI (n := 0) (by decide) (by decide)) rfl dX12_clashes_39 ?_
    refine lv_icmp_ge (pc := 40) (tgt := 131) hx hb dX12_clashes_40 (by decide) (fun c40 => ?_) (fun c40 => ?_)
    · have h := h.1 c40
      refine lv_iload_n (pc := 131) hx hb dX12_clashes_131 rfl (lv_at hl 2 rfl) ?_
      exact hret 132 _ _ _ _ _ dX12_clashes_132 (by rfl) h hM
    · have h := h.2 c40
      refine lv_iconst (pc := 43) (v := 0) hx hb dX12_clashes_43 (by decide) ?_
      refine lv_istore (pc := 44) (lv' := [(4, .int 0), (0, .ref (g_ad G 87)), (1, .int a1), (2, .int v2), (3, .int v3)]) hx hb dX12_clashes_44 hl (by decide) rfl (fun ls hl => ?_)
      exact h _ _ _ hM (lv_sub hl [1, 2, 3, 4, 0] rfl))
  have h := h (by
    intro v2 v3 v4 σ h  H locs ls hM hl
    refine lv_iload (pc := 46) hx hb dX12_clashes_46 (lv_at hl 4 rfl) ?_
    refine lv_iload_n (pc := 48) hx hb dX12_clashes_48 rfl (lv_at hl 3 rfl) ?_
    refine lv_icmp_ge (pc := 49) (tgt := 125) hx hb dX12_clashes_49 (by decide) (fun c49 => ?_) (fun c49 => ?_)
    · have h := h.1 c49
      refine lv_iinc (pc := 125) (v := (v3 + 1)) (lv' := [(3, .int (v3 + 1)), (0, .ref (g_ad G 87)), (1, .int a1), (2, .int v2), (4, .int v4)]) hx hb dX12_clashes_125 hl (k := 3) rfl (by rfl) (by decide) rfl (fun ls hl => ?_)
      refine lv_goto (pc := 128) (tgt := 33) hx hb dX12_clashes_128 (by decide) ?_
      exact h _ _ _ hM (lv_sub hl [1, 2, 3, 0] rfl)
    · have h := h.2 c49
      refine lv_aload_n (pc := 52) hx hb dX12_clashes_52 rfl (lv_at hl 0 rfl) ?_
      refine lv_iload_n (pc := 53) hx hb dX12_clashes_53 rfl (lv_at hl 3 rfl) ?_
      refine lv_iconst (pc := 54) (v := 0) hx hb dX12_clashes_54 (by decide) ?_
      refine g_cVi (pc := 55) C hM hl.1 yv_X12_of q6_131 (by decide) ce_87 rfl (w_X12_of l G x v3 0 σ _ h) rfl rfl ⟨⟨by decide, by decide⟩, by decide, by decide⟩ (Nat.le_of_ble_eq_true rfl) dX12_clashes_55 (fun r55 s55 H locs h hM => ?_)
      refine lv_iload_n (pc := 58) hx hb dX12_clashes_58 rfl (lv_at hl 1 rfl) ?_
      refine lv_icmp_ne (pc := 59) (tgt := 93) hx hb dX12_clashes_59 (by decide) (fun c59 => ?_) (fun c59 => ?_)
      · have h := h.2 c59
        refine lv_iconst (pc := 93) (v := 0) hx hb dX12_clashes_93 (by decide) ?_
        exact h _ _ _ hM (lv_sub hl [0, 1, 2, 3, 4] rfl)
      · have h := h.1 c59
        refine lv_aload_n (pc := 62) hx hb dX12_clashes_62 rfl (lv_at hl 0 rfl) ?_
        refine lv_iload (pc := 63) hx hb dX12_clashes_63 (lv_at hl 4 rfl) ?_
        refine lv_iconst (pc := 65) (v := 0) hx hb dX12_clashes_65 (by decide) ?_
        refine g_cVi (pc := 66) C hM hl.1 yv_X12_of q6_131 (by decide) ce_87 rfl (w_X12_of l G x v4 0 s55 _ h) rfl rfl ⟨⟨by decide, by decide⟩, by decide, by decide⟩ (Nat.le_of_ble_eq_true rfl) dX12_clashes_66 (fun r66 s66 H locs h hM => ?_)
        refine lv_iload_n (pc := 69) hx hb dX12_clashes_69 rfl (lv_at hl 1 rfl) ?_
        refine lv_icmp_ne (pc := 70) (tgt := 93) hx hb dX12_clashes_70 (by decide) (fun c70 => ?_) (fun c70 => ?_)
        · have h := h.2 c70
          refine lv_iconst (pc := 93) (v := 0) hx hb dX12_clashes_93 (by decide) ?_
          exact h _ _ _ hM (lv_sub hl [0, 1, 2, 3, 4] rfl)
        · have h := h.1 c70
          refine lv_aload_n (pc := 73) hx hb dX12_clashes_73 rfl (lv_at hl 0 rfl) ?_
          refine lv_iload_n (pc := 74) hx hb dX12_clashes_74 rfl (lv_at hl 3 rfl) ?_
          refine lv_iconst (pc := 75) (v := 1) hx hb dX12_clashes_75 (by decide) ?_
          refine g_cVi (pc := 76) C hM hl.1 yv_X12_of q6_131 (by decide) ce_87 rfl (w_X12_of l G x v3 1 s66 _ h) rfl rfl ⟨⟨by decide, by decide⟩, by decide, by decide⟩ (Nat.le_of_ble_eq_true rfl) dX12_clashes_76 (fun r76 s76 H locs h hM => ?_)
          refine lv_aload_n (pc := 79) hx hb dX12_clashes_79 rfl (lv_at hl 0 rfl) ?_
          refine lv_iload (pc := 80) hx hb dX12_clashes_80 (lv_at hl 4 rfl) ?_
          refine lv_iconst (pc := 82) (v := 1) hx hb dX12_clashes_82 (by decide) ?_
          refine g_cVi (pc := 83) C hM hl.1 yv_X12_of q6_131 (by decide) ce_87 rfl (w_X12_of l G x v4 1 s76 _ h) rfl rfl ⟨⟨by decide, by decide⟩, by decide, by decide⟩ (Nat.le_of_ble_eq_true rfl) dX12_clashes_83 (fun r83 s83 H locs h hM => ?_)
          refine lv_icmp_eq (pc := 86) (tgt := 93) hx hb dX12_clashes_86 (by decide) (fun c86 => ?_) (fun c86 => ?_)
          · have h := h.1 c86
            refine lv_iconst (pc := 93) (v := 0) hx hb dX12_clashes_93 (by decide) ?_
            exact h _ _ _ hM (lv_sub hl [0, 1, 2, 3, 4] rfl)
          · have h := h.2 c86
            refine lv_iconst (pc := 89) (v := 1) hx hb dX12_clashes_89 (by decide) ?_
            refine lv_goto (pc := 90) (tgt := 94) hx hb dX12_clashes_90 (by decide) ?_
            exact h _ _ _ hM (lv_sub hl [0, 1, 2, 3, 4] rfl))
  have h := h (by
    intro v2 v3 v4 t0 σ h  H locs ls hM hl
    refine lv_istore (pc := 94) (lv' := [(5, .int t0), (0, .ref (g_ad G 87)), (1, .int a1), (2, .int v2), (3, .int v3), (4, .int v4)]) hx hb dX12_clashes_94 hl (by decide) rfl (fun ls hl => ?_)
    refine lv_iload_n (pc := 96) hx hb dX12_clashes_96 rfl (lv_at hl 3 rfl) ?_
    refine lv_iload (pc := 97) hx hb dX12_clashes_97 (lv_at hl 0 rfl) ?_
    refine lv_if_eq (pc := 99) (tgt := 116) hx hb dX12_clashes_99 (by decide) (fun c99 => ?_) (fun c99 => ?_)
    · have h := h.1 c99
      refine lv_iconst (pc := 116) (v := 0) hx hb dX12_clashes_116 (by decide) ?_
      refine lv_iadd (pc := 117) hx hb dX12_clashes_117 ?_
      refine lv_istore_n (pc := 118) (lv' := [(2, .int (v2 + 0)), (5, .int t0), (0, .ref (g_ad G 87)), (1, .int a1), (3, .int v3), (4, .int v4)]) hx hb dX12_clashes_118 rfl hl (by decide) rfl (fun ls hl => ?_)
      refine lv_iinc (pc := 119) (v := (v4 + 1)) (lv' := [(4, .int (v4 + 1)), (2, .int (v2 + 0)), (5, .int t0), (0, .ref (g_ad G 87)), (1, .int a1), (3, .int v3)]) hx hb dX12_clashes_119 hl (k := 5) rfl (by rfl) (by decide) rfl (fun ls hl => ?_)
      refine lv_goto (pc := 122) (tgt := 46) hx hb dX12_clashes_122 (by decide) ?_
      exact h _ _ _ hM (lv_sub hl [3, 4, 1, 5, 0] rfl)
    · have h := h.2 c99
      refine lv_aload_n (pc := 102) hx hb dX12_clashes_102 rfl (lv_at hl 1 rfl) ?_
      refine lv_iload_n (pc := 103) hx hb dX12_clashes_103 rfl (lv_at hl 4 rfl) ?_
      refine lv_iload (pc := 104) hx hb dX12_clashes_104 (lv_at hl 5 rfl) ?_
      refine g_cVi (pc := 106) C hM hl.1 yv_X12_overlaps q7_127 (by decide) ce_87 rfl (w_X12_overlaps l G x v3 v4 σ _ h) rfl rfl ⟨⟨by decide, by decide⟩, by decide, by decide⟩ (Nat.le_of_ble_eq_true rfl) dX12_clashes_106 (fun r106 s106 H locs h hM => ?_)
      refine lv_if_eq (pc := 109) (tgt := 116) hx hb dX12_clashes_109 (by decide) (fun c109 => ?_) (fun c109 => ?_)
      · have h := h.1 c109
        refine lv_iconst (pc := 116) (v := 0) hx hb dX12_clashes_116 (by decide) ?_
        refine lv_iadd (pc := 117) hx hb dX12_clashes_117 ?_
        refine lv_istore_n (pc := 118) (lv' := [(2, .int (v2 + 0)), (5, .int t0), (0, .ref (g_ad G 87)), (1, .int a1), (3, .int v3), (4, .int v4)]) hx hb dX12_clashes_118 rfl hl (by decide) rfl (fun ls hl => ?_)
        refine lv_iinc (pc := 119) (v := (v4 + 1)) (lv' := [(4, .int (v4 + 1)), (2, .int (v2 + 0)), (5, .int t0), (0, .ref (g_ad G 87)), (1, .int a1), (3, .int v3)]) hx hb dX12_clashes_119 hl (k := 5) rfl (by rfl) (by decide) rfl (fun ls hl => ?_)
        refine lv_goto (pc := 122) (tgt := 46) hx hb dX12_clashes_122 (by decide) ?_
        exact h _ _ _ hM (lv_sub hl [3, 4, 1, 5, 0] rfl)
      · have h := h.2 c109
        refine lv_iconst (pc := 112) (v := 1) hx hb dX12_clashes_112 (by decide) ?_
        refine lv_goto (pc := 113) (tgt := 117) hx hb dX12_clashes_113 (by decide) ?_
        refine lv_iadd (pc := 117) hx hb dX12_clashes_117 ?_
        refine lv_istore_n (pc := 118) (lv' := [(2, .int (v2 + 1)), (5, .int t0), (0, .ref (g_ad G 87)), (1, .int a1), (3, .int v3), (4, .int v4)]) hx hb dX12_clashes_118 rfl hl (by decide) rfl (fun ls hl => ?_)
        refine lv_iinc (pc := 119) (v := (v4 + 1)) (lv' := [(4, .int (v4 + 1)), (2, .int (v2 + 1)), (5, .int t0), (0, .ref (g_ad G 87)), (1, .int a1), (3, .int v3)]) hx hb dX12_clashes_119 hl (k := 5) rfl (by rfl) (by decide) rfl (fun ls hl => ?_)
        refine lv_goto (pc := 122) (tgt := 46) hx hb dX12_clashes_122 (by decide) ?_
        exact h _ _ _ hM (lv_sub hl [3, 4, 1, 5, 0] rfl))
  refine lv_aload_n (pc := 0) hx hb dX12_clashes_0 rfl (lv_at hl 0 rfl) ?_
  refine lv_iload_n (pc := 1) hx hb dX12_clashes_1 rfl (lv_at hl 1 rfl) ?_
  refine g_cSi (pc := 2) C hM hl.1 ys_X12_isPolicy q6_105 (w_X12_isPolicy l G x a1 σ _ h) rfl rfl ⟨⟨by decide, by decide⟩, by decide, by decide⟩ (Nat.le_of_ble_eq_true rfl) dX12_clashes_2 (fun r2 s2 H locs h hM => ?_)
  refine lv_if_eq (pc := 5) (tgt := 12) hx hb dX12_clashes_5 (by decide) (fun c5 => ?_) (fun c5 => ?_)
  · have h := h.1 c5
    refine lv_iconst (pc := 12) (v := 1) hx hb dX12_clashes_12 (by decide) ?_
    refine g_putE (pc := 13) C hM (by decide) ce_87 fp_RX12_68 rfl rfl (Nat.le_of_ble_eq_true rfl) rfl dX12_clashes_13 (fun s13 es13 H locs hM => ?_)
    have h := h s13 es13
    refine lv_aload_n (pc := 16) hx hb dX12_clashes_16 rfl (lv_at hl 0 rfl) ?_
    refine g_get (pc := 17) (v := .int (s13 87 8)) C hM (by decide) ce_87 fl_RX12_68 rfl dX12_clashes_17 ?_
    refine lv_if_le (pc := 20) (tgt := 25) hx hb dX12_clashes_20 (by decide) (fun c20 => ?_) (fun c20 => ?_)
    · have h := h.1 c20
      refine lv_aload_n (pc := 25) hx hb dX12_clashes_25 rfl (lv_at hl 0 rfl) ?_
      refine g_cVv (pc := 26) C hM hl.1 yv_X12_laySets q7_44 (by decide) ce_87 rfl (w_X12_laySets l G x  s13 _ h) rfl rfl ⟨⟨by decide, by decide⟩, by decide, by decide⟩ (Nat.le_of_ble_eq_true rfl) dX12_clashes_26 (fun s26 H locs h hM => ?_)
      refine lv_iconst (pc := 29) (v := 0) hx hb dX12_clashes_29 (by decide) ?_
      refine lv_istore_n (pc := 30) (lv' := [(2, .int 0), (0, .ref (g_ad G 87)), (1, .int a1)]) hx hb dX12_clashes_30 rfl hl (by decide) rfl (fun ls hl => ?_)
      refine lv_iconst (pc := 31) (v := 0) hx hb dX12_clashes_31 (by decide) ?_
      refine lv_istore_n (pc := 32) (lv' := [(3, .int 0), (2, .int 0), (0, .ref (g_ad G 87)), (1, .int a1)]) hx hb dX12_clashes_32 rfl hl (by decide) rfl (fun ls hl => ?_)
      exact h _ _ _ hM (lv_sub hl [2, 3, 1, 0] rfl)
    · have h := h.2 c20
      refine lv_iconst (pc := 23) (v := 0) hx hb dX12_clashes_23 (by decide) ?_
      exact hret 24 _ _ _ _ _ dX12_clashes_24 (by rfl) h hM
  · have h := h.2 c5
    refine lv_iconst (pc := 8) (v := 0) hx hb dX12_clashes_8 (by decide) ?_
    refine lv_goto (pc := 9) (tgt := 13) hx hb dX12_clashes_9 (by decide) ?_
    refine g_putE (pc := 13) C hM (by decide) ce_87 fp_RX12_68 rfl rfl (Nat.le_of_ble_eq_true rfl) rfl dX12_clashes_13 (fun s13 es13 H locs hM => ?_)
    have h := h s13 es13
    refine lv_aload_n (pc := 16) hx hb dX12_clashes_16 rfl (lv_at hl 0 rfl) ?_
    refine g_get (pc := 17) (v := .int (s13 87 8)) C hM (by decide) ce_87 fl_RX12_68 rfl dX12_clashes_17 ?_
    refine lv_if_le (pc := 20) (tgt := 25) hx hb dX12_clashes_20 (by decide) (fun c20 => ?_) (fun c20 => ?_)
    · have h := h.1 c20
      refine lv_aload_n (pc := 25) hx hb dX12_clashes_25 rfl (lv_at hl 0 rfl) ?_
      refine g_cVv (pc := 26) C hM hl.1 yv_X12_laySets q7_44 (by decide) ce_87 rfl (w_X12_laySets l G x  s13 _ h) rfl rfl ⟨⟨by decide, by decide⟩, by decide, by decide⟩ (Nat.le_of_ble_eq_true rfl) dX12_clashes_26 (fun s26 H locs h hM => ?_)
      refine lv_iconst (pc := 29) (v := 0) hx hb dX12_clashes_29 (by decide) ?_
      refine lv_istore_n (pc := 30) (lv' := [(2, .int 0), (0, .ref (g_ad G 87)), (1, .int a1)]) hx hb dX12_clashes_30 rfl hl (by decide) rfl (fun ls hl => ?_)
      refine lv_iconst (pc := 31) (v := 0) hx hb dX12_clashes_31 (by decide) ?_
      refine lv_istore_n (pc := 32) (lv' := [(3, .int 0), (2, .int 0), (0, .ref (g_ad G 87)), (1, .int a1)]) hx hb dX12_clashes_32 rfl hl (by decide) rfl (fun ls hl => ?_)
      exact h _ _ _ hM (lv_sub hl [2, 3, 1, 0] rfl)
    · have h := h.2 c20
      refine lv_iconst (pc := 23) (v := 0) hx hb dX12_clashes_23 (by decide) ?_
      exact hret 24 _ _ _ _ _ dX12_clashes_24 (by rfl) h hM
abbrev rm_X12_isBeaten : Room := { frames := 2, cells := 0, slots := 0, locals := 44 }
theorem dX12_isBeaten_0 : decode cX12_isBeaten 0 = .ok (.iload_n 2, 1) := by decide +kernel
theorem dX12_isBeaten_1 : decode cX12_isBeaten 1 = .ok (.iload_n 1, 1) := by decide +kernel
theorem dX12_isBeaten_2 : decode cX12_isBeaten 2 = .ok (.if_icmp .eq 18, 3) := by decide +kernel
theorem dX12_isBeaten_5 : decode cX12_isBeaten 5 = .ok (.aload_n 0, 1) := by decide +kernel
theorem dX12_isBeaten_6 : decode cX12_isBeaten 6 = .ok (.iload_n 2, 1) := by decide +kernel
theorem dX12_isBeaten_7 : decode cX12_isBeaten 7 = .ok (.iconst 0, 1) := by decide +kernel
theorem dX12_isBeaten_8 : decode cX12_isBeaten 8 = .ok (.invokevirtual 97, 3) := by decide +kernel
theorem dX12_isBeaten_11 : decode cX12_isBeaten 11 = .ok (.aload_n 0, 1) := by decide +kernel
theorem dX12_isBeaten_12 : decode cX12_isBeaten 12 = .ok (.iload_n 1, 1) := by decide +kernel
theorem dX12_isBeaten_13 : decode cX12_isBeaten 13 = .ok (.iconst 0, 1) := by decide +kernel
theorem dX12_isBeaten_14 : decode cX12_isBeaten 14 = .ok (.invokevirtual 97, 3) := by decide +kernel
theorem dX12_isBeaten_17 : decode cX12_isBeaten 17 = .ok (.if_icmp .eq 5, 3) := by decide +kernel
theorem dX12_isBeaten_20 : decode cX12_isBeaten 20 = .ok (.iconst 0, 1) := by decide +kernel
theorem dX12_isBeaten_21 : decode cX12_isBeaten 21 = .ok (.ireturn, 1) := by decide +kernel
theorem dX12_isBeaten_22 : decode cX12_isBeaten 22 = .ok (.aload_n 0, 1) := by decide +kernel
theorem dX12_isBeaten_23 : decode cX12_isBeaten 23 = .ok (.getfield 7, 3) := by decide +kernel
theorem dX12_isBeaten_26 : decode cX12_isBeaten 26 = .ok (.iconst 1, 1) := by decide +kernel
theorem dX12_isBeaten_27 : decode cX12_isBeaten 27 = .ok (.aload_n 0, 1) := by decide +kernel
theorem dX12_isBeaten_28 : decode cX12_isBeaten 28 = .ok (.iload_n 1, 1) := by decide +kernel
theorem dX12_isBeaten_29 : decode cX12_isBeaten 29 = .ok (.iconst 0, 1) := by decide +kernel
theorem dX12_isBeaten_30 : decode cX12_isBeaten 30 = .ok (.invokevirtual 97, 3) := by decide +kernel
theorem dX12_isBeaten_33 : decode cX12_isBeaten 33 = .ok (.iadd, 1) := by decide +kernel
theorem dX12_isBeaten_34 : decode cX12_isBeaten 34 = .ok (.iaload, 1) := by decide +kernel
theorem dX12_isBeaten_35 : decode cX12_isBeaten 35 = .ok (.istore_n 3, 1) := by decide +kernel
theorem dX12_isBeaten_36 : decode cX12_isBeaten 36 = .ok (.iload_n 3, 1) := by decide +kernel
theorem dX12_isBeaten_37 : decode cX12_isBeaten 37 = .ok (.iconst 3, 1) := by decide +kernel
theorem dX12_isBeaten_38 : decode cX12_isBeaten 38 = .ok (.if_icmp .eq 8, 3) := by decide +kernel
theorem dX12_isBeaten_41 : decode cX12_isBeaten 41 = .ok (.iload_n 3, 1) := by decide +kernel
theorem dX12_isBeaten_42 : decode cX12_isBeaten 42 = .ok (.iconst 2, 1) := by decide +kernel
theorem dX12_isBeaten_43 : decode cX12_isBeaten 43 = .ok (.if_icmp .ne 23, 3) := by decide +kernel
theorem dX12_isBeaten_46 : decode cX12_isBeaten 46 = .ok (.iload_n 3, 1) := by decide +kernel
theorem dX12_isBeaten_47 : decode cX12_isBeaten 47 = .ok (.iconst 3, 1) := by decide +kernel
theorem dX12_isBeaten_48 : decode cX12_isBeaten 48 = .ok (.if_icmp .eq 12, 3) := by decide +kernel
theorem dX12_isBeaten_51 : decode cX12_isBeaten 51 = .ok (.aload_n 0, 1) := by decide +kernel
theorem dX12_isBeaten_52 : decode cX12_isBeaten 52 = .ok (.iload_n 2, 1) := by decide +kernel
theorem dX12_isBeaten_53 : decode cX12_isBeaten 53 = .ok (.iload_n 1, 1) := by decide +kernel
theorem dX12_isBeaten_54 : decode cX12_isBeaten 54 = .ok (.invokevirtual 180, 3) := by decide +kernel
theorem dX12_isBeaten_57 : decode cX12_isBeaten 57 = .ok (.ifCond .eq 7, 3) := by decide +kernel
theorem dX12_isBeaten_60 : decode cX12_isBeaten 60 = .ok (.iconst 1, 1) := by decide +kernel
theorem dX12_isBeaten_61 : decode cX12_isBeaten 61 = .ok (.goto 4, 3) := by decide +kernel
theorem dX12_isBeaten_64 : decode cX12_isBeaten 64 = .ok (.iconst 0, 1) := by decide +kernel
theorem dX12_isBeaten_65 : decode cX12_isBeaten 65 = .ok (.ireturn, 1) := by decide +kernel
theorem dX12_isBeaten_66 : decode cX12_isBeaten 66 = .ok (.aload_n 0, 1) := by decide +kernel
theorem dX12_isBeaten_67 : decode cX12_isBeaten 67 = .ok (.iload_n 2, 1) := by decide +kernel
theorem dX12_isBeaten_68 : decode cX12_isBeaten 68 = .ok (.iconst 1, 1) := by decide +kernel
theorem dX12_isBeaten_69 : decode cX12_isBeaten 69 = .ok (.invokevirtual 97, 3) := by decide +kernel
theorem dX12_isBeaten_72 : decode cX12_isBeaten 72 = .ok (.aload_n 0, 1) := by decide +kernel
theorem dX12_isBeaten_73 : decode cX12_isBeaten 73 = .ok (.iload_n 1, 1) := by decide +kernel
theorem dX12_isBeaten_74 : decode cX12_isBeaten 74 = .ok (.iconst 1, 1) := by decide +kernel
theorem dX12_isBeaten_75 : decode cX12_isBeaten 75 = .ok (.invokevirtual 97, 3) := by decide +kernel
theorem dX12_isBeaten_78 : decode cX12_isBeaten 78 = .ok (.if_icmp .ne 12, 3) := by decide +kernel
theorem dX12_isBeaten_81 : decode cX12_isBeaten 81 = .ok (.aload_n 0, 1) := by decide +kernel
theorem dX12_isBeaten_82 : decode cX12_isBeaten 82 = .ok (.iload_n 2, 1) := by decide +kernel
theorem dX12_isBeaten_83 : decode cX12_isBeaten 83 = .ok (.iload_n 1, 1) := by decide +kernel
theorem dX12_isBeaten_84 : decode cX12_isBeaten 84 = .ok (.invokevirtual 180, 3) := by decide +kernel
theorem dX12_isBeaten_87 : decode cX12_isBeaten 87 = .ok (.goto 20, 3) := by decide +kernel
theorem dX12_isBeaten_90 : decode cX12_isBeaten 90 = .ok (.aload_n 0, 1) := by decide +kernel
theorem dX12_isBeaten_91 : decode cX12_isBeaten 91 = .ok (.iload_n 2, 1) := by decide +kernel
theorem dX12_isBeaten_92 : decode cX12_isBeaten 92 = .ok (.iconst 1, 1) := by decide +kernel
theorem dX12_isBeaten_93 : decode cX12_isBeaten 93 = .ok (.invokevirtual 97, 3) := by decide +kernel
theorem dX12_isBeaten_96 : decode cX12_isBeaten 96 = .ok (.iconst 1, 1) := by decide +kernel
theorem dX12_isBeaten_97 : decode cX12_isBeaten 97 = .ok (.iload_n 3, 1) := by decide +kernel
theorem dX12_isBeaten_98 : decode cX12_isBeaten 98 = .ok (.isub, 1) := by decide +kernel
theorem dX12_isBeaten_99 : decode cX12_isBeaten 99 = .ok (.if_icmp .ne 7, 3) := by decide +kernel
theorem dX12_isBeaten_102 : decode cX12_isBeaten 102 = .ok (.iconst 1, 1) := by decide +kernel
theorem dX12_isBeaten_103 : decode cX12_isBeaten 103 = .ok (.goto 4, 3) := by decide +kernel
theorem dX12_isBeaten_106 : decode cX12_isBeaten 106 = .ok (.iconst 0, 1) := by decide +kernel
theorem dX12_isBeaten_107 : decode cX12_isBeaten 107 = .ok (.ireturn, 1) := by decide +kernel
set_option maxHeartbeats 4000000 in
set_option maxRecDepth 100000 in
theorem w_X12_isBeaten (l : Launch) (G : GP) (x : XP) (a1 : Int32) (a2 : Int32) (σ : Sto) (P : Int32 → Sto → Prop) (h : D_X12_isBeaten a1 a2 σ P) : g_Meti l yX12_isBeaten cX12_isBeaten 4 (some .boolean) rm_X12_isBeaten G x [.ref (g_ad G 87), .int a1, .int a2] σ P := by
  unfold D_X12_isBeaten at h
  refine g_ofWi (by decide +kernel) (Nat.le_of_ble_eq_true rfl) ?_
  intro p e s m args below meth c Q ls C hM hl hret
  have hx := C.1
  have hb := C.2.1
  have hl : lv_has ls 4 [(0, .ref (g_ad G 87)), (1, .int a1), (2, .int a2)] := hl
  have h := h (fun (v3 : Int32) (σ : Sto) => ∀ (H : Heap) (locs : List Loc) (ls : Array Slot), g_M G x σ s H locs → lv_has ls 4 [(0, .ref (g_ad G 87)), (1, .int a1), (2, .int a2), (3, .int v3)] → W p l e rm_X12_isBeaten s m args below meth c H locs 0 0 Q (F0 m 46 ls []))
  have h := h (by
    intro v3 σ h  H locs ls hM hl
    refine lv_iload_n (pc := 46) hx hb dX12_isBeaten_46 rfl (lv_at hl 3 rfl) ?_
    refine lv_iconst (pc := 47) (v := 3) hx hb dX12_isBeaten_47 (by decide) ?_
    refine lv_icmp_eq (pc := 48) (tgt := 60) hx hb dX12_isBeaten_48 (by decide) (fun c48 => ?_) (fun c48 => ?_)
    · have h := h.1 c48
      refine lv_iconst (pc := 60) (v := 1) hx hb dX12_isBeaten_60 (by decide) ?_
      refine lv_goto (pc := 61) (tgt := 65) hx hb dX12_isBeaten_61 (by decide) ?_
      exact hret 65 _ _ _ _ _ dX12_isBeaten_65 (by rfl) h hM
    · have h := h.2 c48
      refine lv_aload_n (pc := 51) hx hb dX12_isBeaten_51 rfl (lv_at hl 0 rfl) ?_
      refine lv_iload_n (pc := 52) hx hb dX12_isBeaten_52 rfl (lv_at hl 2 rfl) ?_
      refine lv_iload_n (pc := 53) hx hb dX12_isBeaten_53 rfl (lv_at hl 1 rfl) ?_
      refine g_cVi (pc := 54) C hM hl.1 yv_X12_isBefore q7_76 (by decide) ce_87 rfl (w_X12_isBefore l G x a2 a1 σ _ h) rfl rfl ⟨⟨by decide, by decide⟩, by decide, by decide⟩ (Nat.le_of_ble_eq_true rfl) dX12_isBeaten_54 (fun r54 s54 H locs h hM => ?_)
      refine lv_if_eq (pc := 57) (tgt := 64) hx hb dX12_isBeaten_57 (by decide) (fun c57 => ?_) (fun c57 => ?_)
      · have h := h.1 c57
        refine lv_iconst (pc := 64) (v := 0) hx hb dX12_isBeaten_64 (by decide) ?_
        exact hret 65 _ _ _ _ _ dX12_isBeaten_65 (by rfl) h hM
      · have h := h.2 c57
        refine lv_iconst (pc := 60) (v := 1) hx hb dX12_isBeaten_60 (by decide) ?_
        refine lv_goto (pc := 61) (tgt := 65) hx hb dX12_isBeaten_61 (by decide) ?_
        exact hret 65 _ _ _ _ _ dX12_isBeaten_65 (by rfl) h hM)
  refine lv_iload_n (pc := 0) hx hb dX12_isBeaten_0 rfl (lv_at hl 2 rfl) ?_
  refine lv_iload_n (pc := 1) hx hb dX12_isBeaten_1 rfl (lv_at hl 1 rfl) ?_
  refine lv_icmp_eq (pc := 2) (tgt := 20) hx hb dX12_isBeaten_2 (by decide) (fun c2 => ?_) (fun c2 => ?_)
  · have h := h.1 c2
    refine lv_iconst (pc := 20) (v := 0) hx hb dX12_isBeaten_20 (by decide) ?_
    exact hret 21 _ _ _ _ _ dX12_isBeaten_21 (by rfl) h hM
  · have h := h.2 c2
    refine lv_aload_n (pc := 5) hx hb dX12_isBeaten_5 rfl (lv_at hl 0 rfl) ?_
    refine lv_iload_n (pc := 6) hx hb dX12_isBeaten_6 rfl (lv_at hl 2 rfl) ?_
    refine lv_iconst (pc := 7) (v := 0) hx hb dX12_isBeaten_7 (by decide) ?_
    refine g_cVi (pc := 8) C hM hl.1 yv_X12_of q6_131 (by decide) ce_87 rfl (w_X12_of l G x a2 0 σ _ h) rfl rfl ⟨⟨by decide, by decide⟩, by decide, by decide⟩ (Nat.le_of_ble_eq_true rfl) dX12_isBeaten_8 (fun r8 s8 H locs h hM => ?_)
    refine lv_aload_n (pc := 11) hx hb dX12_isBeaten_11 rfl (lv_at hl 0 rfl) ?_
    refine lv_iload_n (pc := 12) hx hb dX12_isBeaten_12 rfl (lv_at hl 1 rfl) ?_
    refine lv_iconst (pc := 13) (v := 0) hx hb dX12_isBeaten_13 (by decide) ?_
    refine g_cVi (pc := 14) C hM hl.1 yv_X12_of q6_131 (by decide) ce_87 rfl (w_X12_of l G x a1 0 s8 _ h) rfl rfl ⟨⟨by decide, by decide⟩, by decide, by decide⟩ (Nat.le_of_ble_eq_true rfl) dX12_isBeaten_14 (fun r14 s14 H locs h hM => ?_)
    refine lv_icmp_eq (pc := 17) (tgt := 22) hx hb dX12_isBeaten_17 (by decide) (fun c17 => ?_) (fun c17 => ?_)
    · have h := h.1 c17
      refine lv_aload_n (pc := 22) hx hb dX12_isBeaten_22 rfl (lv_at hl 0 rfl) ?_
      refine g_get (pc := 23) (v := .ref (g_ad G 88)) C hM (by decide) ce_87 fl_RX12_7 rfl dX12_isBeaten_23 ?_
      refine lv_iconst (pc := 26) (v := 1) hx hb dX12_isBeaten_26 (by decide) ?_
      refine lv_aload_n (pc := 27) hx hb dX12_isBeaten_27 rfl (lv_at hl 0 rfl) ?_
      refine lv_iload_n (pc := 28) hx hb dX12_isBeaten_28 rfl (lv_at hl 1 rfl) ?_
      refine lv_iconst (pc := 29) (v := 0) hx hb dX12_isBeaten_29 (by decide) ?_
      refine g_cVi (pc := 30) C hM hl.1 yv_X12_of q6_131 (by decide) ce_87 rfl (w_X12_of l G x a1 0 s14 _ h) rfl rfl ⟨⟨by decide, by decide⟩, by decide, by decide⟩ (Nat.le_of_ble_eq_true rfl) dX12_isBeaten_30 (fun r30 s30 H locs h hM => ?_)
      refine lv_iadd (pc := 33) hx hb dX12_isBeaten_33 ?_
      obtain ⟨hc, h⟩ := h
      refine g_ialdK (pc := 34) C hM (by decide) ce_88 hc rfl dX12_isBeaten_34 ?_
      refine lv_istore_n (pc := 35) (lv' := [(3, .int (s30 88 (ix (1 + r30)))), (0, .ref (g_ad G 87)), (1, .int a1), (2, .int a2)]) hx hb dX12_isBeaten_35 rfl hl (by decide) rfl (fun ls hl => ?_)
      refine lv_iload_n (pc := 36) hx hb dX12_isBeaten_36 rfl (lv_at hl 0 rfl) ?_
      refine lv_iconst (pc := 37) (v := 3) hx hb dX12_isBeaten_37 (by decide) ?_
      refine lv_icmp_eq (pc := 38) (tgt := 46) hx hb dX12_isBeaten_38 (by decide) (fun c38 => ?_) (fun c38 => ?_)
      · have h := h.1 c38
        exact h _ _ _ hM (lv_sub hl [1, 2, 3, 0] rfl)
      · have h := h.2 c38
        refine lv_iload_n (pc := 41) hx hb dX12_isBeaten_41 rfl (lv_at hl 0 rfl) ?_
        refine lv_iconst (pc := 42) (v := 2) hx hb dX12_isBeaten_42 (by decide) ?_
        refine lv_icmp_ne (pc := 43) (tgt := 66) hx hb dX12_isBeaten_43 (by decide) (fun c43 => ?_) (fun c43 => ?_)
        · have h := h.2 c43
          refine lv_aload_n (pc := 66) hx hb dX12_isBeaten_66 rfl (lv_at hl 1 rfl) ?_
          refine lv_iload_n (pc := 67) hx hb dX12_isBeaten_67 rfl (lv_at hl 3 rfl) ?_
          refine lv_iconst (pc := 68) (v := 1) hx hb dX12_isBeaten_68 (by decide) ?_
          refine g_cVi (pc := 69) C hM hl.1 yv_X12_of q6_131 (by decide) ce_87 rfl (w_X12_of l G x a2 1 s30 _ h) rfl rfl ⟨⟨by decide, by decide⟩, by decide, by decide⟩ (Nat.le_of_ble_eq_true rfl) dX12_isBeaten_69 (fun r69 s69 H locs h hM => ?_)
          refine lv_aload_n (pc := 72) hx hb dX12_isBeaten_72 rfl (lv_at hl 1 rfl) ?_
          refine lv_iload_n (pc := 73) hx hb dX12_isBeaten_73 rfl (lv_at hl 2 rfl) ?_
          refine lv_iconst (pc := 74) (v := 1) hx hb dX12_isBeaten_74 (by decide) ?_
          refine g_cVi (pc := 75) C hM hl.1 yv_X12_of q6_131 (by decide) ce_87 rfl (w_X12_of l G x a1 1 s69 _ h) rfl rfl ⟨⟨by decide, by decide⟩, by decide, by decide⟩ (Nat.le_of_ble_eq_true rfl) dX12_isBeaten_75 (fun r75 s75 H locs h hM => ?_)
          refine lv_icmp_ne (pc := 78) (tgt := 90) hx hb dX12_isBeaten_78 (by decide) (fun c78 => ?_) (fun c78 => ?_)
          · have h := h.2 c78
            refine lv_aload_n (pc := 90) hx hb dX12_isBeaten_90 rfl (lv_at hl 1 rfl) ?_
            refine lv_iload_n (pc := 91) hx hb dX12_isBeaten_91 rfl (lv_at hl 3 rfl) ?_
            refine lv_iconst (pc := 92) (v := 1) hx hb dX12_isBeaten_92 (by decide) ?_
            refine g_cVi (pc := 93) C hM hl.1 yv_X12_of q6_131 (by decide) ce_87 rfl (w_X12_of l G x a2 1 s75 _ h) rfl rfl ⟨⟨by decide, by decide⟩, by decide, by decide⟩ (Nat.le_of_ble_eq_true rfl) dX12_isBeaten_93 (fun r93 s93 H locs h hM => ?_)
            refine lv_iconst (pc := 96) (v := 1) hx hb dX12_isBeaten_96 (by decide) ?_
            refine lv_iload_n (pc := 97) hx hb dX12_isBeaten_97 rfl (lv_at hl 0 rfl) ?_
            refine lv_isub (pc := 98) hx hb dX12_isBeaten_98 ?_
            refine lv_icmp_ne (pc := 99) (tgt := 106) hx hb dX12_isBeaten_99 (by decide) (fun c99 => ?_) (fun c99 => ?_)
            · have h := h.2 c99
              refine lv_iconst (pc := 106) (v := 0) hx hb dX12_isBeaten_106 (by decide) ?_
              exact hret 107 _ _ _ _ _ dX12_isBeaten_107 (by rfl) h hM
            · have h := h.1 c99
              refine lv_iconst (pc := 102) (v := 1) hx hb dX12_isBeaten_102 (by decide) ?_
              refine lv_goto (pc := 103) (tgt := 107) hx hb dX12_isBeaten_103 (by decide) ?_
              exact hret 107 _ _ _ _ _ dX12_isBeaten_107 (by rfl) h hM
          · have h := h.1 c78
            refine lv_aload_n (pc := 81) hx hb dX12_isBeaten_81 rfl (lv_at hl 1 rfl) ?_
            refine lv_iload_n (pc := 82) hx hb dX12_isBeaten_82 rfl (lv_at hl 3 rfl) ?_
            refine lv_iload_n (pc := 83) hx hb dX12_isBeaten_83 rfl (lv_at hl 2 rfl) ?_
            refine g_cVi (pc := 84) C hM hl.1 yv_X12_isBefore q7_76 (by decide) ce_87 rfl (w_X12_isBefore l G x a2 a1 s75 _ h) rfl rfl ⟨⟨by decide, by decide⟩, by decide, by decide⟩ (Nat.le_of_ble_eq_true rfl) dX12_isBeaten_84 (fun r84 s84 H locs h hM => ?_)
            refine lv_goto (pc := 87) (tgt := 107) hx hb dX12_isBeaten_87 (by decide) ?_
            exact hret 107 _ _ _ _ _ dX12_isBeaten_107 (nar_b h.1) h.2 hM
        · have h := h.1 c43
          exact h _ _ _ hM (lv_sub hl [1, 2, 3, 0] rfl)
    · have h := h.2 c17
      refine lv_iconst (pc := 20) (v := 0) hx hb dX12_isBeaten_20 (by decide) ?_
      exact hret 21 _ _ _ _ _ dX12_isBeaten_21 (by rfl) h hM
abbrev rm_X12_stays : Room := { frames := 1, cells := 0, slots := 0, locals := 21 }
theorem dX12_stays_0 : decode cX12_stays 0 = .ok (.iconst 0, 1) := by decide +kernel
theorem dX12_stays_1 : decode cX12_stays 1 = .ok (.istore 4, 2) := by decide +kernel
theorem dX12_stays_3 : decode cX12_stays 3 = .ok (.iconst 0, 1) := by decide +kernel
theorem dX12_stays_4 : decode cX12_stays 4 = .ok (.istore 5, 2) := by decide +kernel
theorem dX12_stays_6 : decode cX12_stays 6 = .ok (.iload 5, 2) := by decide +kernel
theorem dX12_stays_8 : decode cX12_stays 8 = .ok (.aload_n 0, 1) := by decide +kernel
theorem dX12_stays_9 : decode cX12_stays 9 = .ok (.getfield 7, 3) := by decide +kernel
theorem dX12_stays_12 : decode cX12_stays 12 = .ok (.iconst 0, 1) := by decide +kernel
theorem dX12_stays_13 : decode cX12_stays 13 = .ok (.iaload, 1) := by decide +kernel
theorem dX12_stays_14 : decode cX12_stays 14 = .ok (.if_icmp .ge 50, 3) := by decide +kernel
theorem dX12_stays_17 : decode cX12_stays 17 = .ok (.iload 4, 2) := by decide +kernel
theorem dX12_stays_19 : decode cX12_stays 19 = .ok (.iload_n 1, 1) := by decide +kernel
theorem dX12_stays_20 : decode cX12_stays 20 = .ok (.iload 5, 2) := by decide +kernel
theorem dX12_stays_22 : decode cX12_stays 22 = .ok (.invokestatic 129, 3) := by decide +kernel
theorem dX12_stays_25 : decode cX12_stays 25 = .ok (.ifCond .eq 29, 3) := by decide +kernel
theorem dX12_stays_28 : decode cX12_stays 28 = .ok (.aload_n 0, 1) := by decide +kernel
theorem dX12_stays_29 : decode cX12_stays 29 = .ok (.getfield 25, 3) := by decide +kernel
theorem dX12_stays_32 : decode cX12_stays 32 = .ok (.bipush 6, 2) := by decide +kernel
theorem dX12_stays_34 : decode cX12_stays 34 = .ok (.iload 5, 2) := by decide +kernel
theorem dX12_stays_36 : decode cX12_stays 36 = .ok (.imul, 1) := by decide +kernel
theorem dX12_stays_37 : decode cX12_stays 37 = .ok (.iload_n 2, 1) := by decide +kernel
theorem dX12_stays_38 : decode cX12_stays 38 = .ok (.iadd, 1) := by decide +kernel
theorem dX12_stays_39 : decode cX12_stays 39 = .ok (.iaload, 1) := by decide +kernel
theorem dX12_stays_40 : decode cX12_stays 40 = .ok (.iload_n 3, 1) := by decide +kernel
theorem dX12_stays_41 : decode cX12_stays 41 = .ok (.invokestatic 129, 3) := by decide +kernel
theorem dX12_stays_44 : decode cX12_stays 44 = .ok (.ifCond .eq 10, 3) := by decide +kernel
theorem dX12_stays_47 : decode cX12_stays 47 = .ok (.iconst 1, 1) := by decide +kernel
theorem dX12_stays_48 : decode cX12_stays 48 = .ok (.iload 5, 2) := by decide +kernel
theorem dX12_stays_50 : decode cX12_stays 50 = .ok (.ishl, 1) := by decide +kernel
theorem dX12_stays_51 : decode cX12_stays 51 = .ok (.goto 4, 3) := by decide +kernel
theorem dX12_stays_54 : decode cX12_stays 54 = .ok (.iconst 0, 1) := by decide +kernel
theorem dX12_stays_55 : decode cX12_stays 55 = .ok (.ior, 1) := by decide +kernel
theorem dX12_stays_56 : decode cX12_stays 56 = .ok (.istore 4, 2) := by decide +kernel
theorem dX12_stays_58 : decode cX12_stays 58 = .ok (.iinc 5 1, 3) := by decide +kernel
theorem dX12_stays_61 : decode cX12_stays 61 = .ok (.goto (-55), 3) := by decide +kernel
theorem dX12_stays_64 : decode cX12_stays 64 = .ok (.iload 4, 2) := by decide +kernel
theorem dX12_stays_66 : decode cX12_stays 66 = .ok (.ireturn, 1) := by decide +kernel
set_option maxHeartbeats 4000000 in
set_option maxRecDepth 100000 in
theorem w_X12_stays (l : Launch) (G : GP) (x : XP) (a1 : Int32) (a2 : Int32) (a3 : Int32) (σ : Sto) (P : Int32 → Sto → Prop) (h : D_X12_stays a1 a2 a3 σ P) : g_Meti l yX12_stays cX12_stays 6 (some .int) rm_X12_stays G x [.ref (g_ad G 87), .int a1, .int a2, .int a3] σ P := by
  unfold D_X12_stays at h
  refine g_ofWi (by decide +kernel) (Nat.le_of_ble_eq_true rfl) ?_
  intro p e s m args below meth c Q ls C hM hl hret
  have hx := C.1
  have hb := C.2.1
  have hl : lv_has ls 6 [(0, .ref (g_ad G 87)), (1, .int a1), (2, .int a2), (3, .int a3)] := hl
  have h := h (fun (v4 : Int32) (v5 : Int32) (σ : Sto) => ∀ (H : Heap) (locs : List Loc) (ls : Array Slot), g_M G x σ s H locs → lv_has ls 6 [(0, .ref (g_ad G 87)), (1, .int a1), (2, .int a2), (3, .int a3), (4, .int v4), (5, .int v5)] → W p l e rm_X12_stays s m args below meth c H locs 0 0 Q (F0 m 6 ls []))
  have h := h (by
    intro v4 v5 σ h  H locs ls hM hl
    refine lv_iload (pc := 6) hx hb dX12_stays_6 (lv_at hl 5 rfl) ?_
    refine lv_aload_n (pc := 8) hx hb dX12_stays_8 rfl (lv_at hl 0 rfl) ?_
    refine g_get (pc := 9) (v := .ref (g_ad G 88)) C hM (by decide) ce_87 fl_RX12_7 rfl dX12_stays_9 ?_
    refine lv_iconst (pc := 12) (v := 0) hx hb dX12_stays_12 (by decide) ?_
    refine g_ialdK (pc := 13) (k := 0) C hM (by decide) ce_88 (vp_in_nI (n := 0) (by decide) (by decide)) rfl dX12_stays_13 ?_
    refine lv_icmp_ge (pc := 14) (tgt := 64) hx hb dX12_stays_14 (by decide) (fun c14 => ?_) (fun c14 => ?_)
    · have h := h.1 c14
      refine lv_iload (pc := 64) hx hb dX12_stays_64 (lv_at hl 4 rfl) ?_
      exact hret 66 _ _ _ _ _ dX12_stays_66 (by rfl) h hM
    · have h := h.2 c14
      refine lv_iload (pc := 17) hx hb dX12_stays_17 (lv_at hl 4 rfl) ?_
      refine lv_iload_n (pc := 19) hx hb dX12_stays_19 rfl (lv_at hl 1 rfl) ?_
      refine lv_iload (pc := 20) hx hb dX12_stays_20 (lv_at hl 5 rfl) ?_
      refine g_cSi (pc := 22) C hM hl.1 ys_X12_has q6_194 (w_X12_has l G x a1 v5 σ _ h) rfl rfl ⟨⟨by decide, by decide⟩, by decide, by decide⟩ (Nat.le_of_ble_eq_true rfl) dX12_stays_22 (fun r22 s22 H locs h hM => ?_)
      refine lv_if_eq (pc := 25) (tgt := 54) hx hb dX12_stays_25 (by decide) (fun c25 => ?_) (fun c25 => ?_)
      · have h := h.1 c25
        refine lv_iconst (pc := 54) (v := 0) hx hb dX12_stays_54 (by decide) ?_
        refine lv_ior (pc := 55) hx hb dX12_stays_55 ?_
        refine lv_istore (pc := 56) (lv' := [(4, .int (v4 ||| 0)), (0, .ref (g_ad G 87)), (1, .int a1), (2, .int a2), (3, .int a3), (5, .int v5)]) hx hb dX12_stays_56 hl (by decide) rfl (fun ls hl => ?_)
        refine lv_iinc (pc := 58) (v := (v5 + 1)) (lv' := [(5, .int (v5 + 1)), (4, .int (v4 ||| 0)), (0, .ref (g_ad G 87)), (1, .int a1), (2, .int a2), (3, .int a3)]) hx hb dX12_stays_58 hl (k := 5) rfl (by rfl) (by decide) rfl (fun ls hl => ?_)
        refine lv_goto (pc := 61) (tgt := 6) hx hb dX12_stays_61 (by decide) ?_
        exact h _ _ _ hM (lv_sub hl [2, 3, 4, 5, 1, 0] rfl)
      · have h := h.2 c25
        refine lv_aload_n (pc := 28) hx hb dX12_stays_28 rfl (lv_at hl 0 rfl) ?_
        refine g_get (pc := 29) (v := .ref (g_ad G 93)) C hM (by decide) ce_87 fl_RX12_25 rfl dX12_stays_29 ?_
        refine lv_bipush (pc := 32) (v := 6) hx hb dX12_stays_32 (by decide) ?_
        refine lv_iload (pc := 34) hx hb dX12_stays_34 (lv_at hl 5 rfl) ?_
        refine lv_imul (pc := 36) hx hb dX12_stays_36 ?_
        refine lv_iload_n (pc := 37) hx hb dX12_stays_37 rfl (lv_at hl 2 rfl) ?_
        refine lv_iadd (pc := 38) hx hb dX12_stays_38 ?_
        obtain ⟨hc, h⟩ := h
        refine g_ialdK (pc := 39) C hM (by decide) ce_93 hc rfl dX12_stays_39 ?_
        refine lv_iload_n (pc := 40) hx hb dX12_stays_40 rfl (lv_at hl 3 rfl) ?_
        refine g_cSi (pc := 41) C hM hl.1 ys_X12_has q6_194 (w_X12_has l G x (s22 93 (ix ((6 * v5) + a2))) a3 s22 _ h) rfl rfl ⟨⟨by decide, by decide⟩, by decide, by decide⟩ (Nat.le_of_ble_eq_true rfl) dX12_stays_41 (fun r41 s41 H locs h hM => ?_)
        refine lv_if_eq (pc := 44) (tgt := 54) hx hb dX12_stays_44 (by decide) (fun c44 => ?_) (fun c44 => ?_)
        · have h := h.1 c44
          refine lv_iconst (pc := 54) (v := 0) hx hb dX12_stays_54 (by decide) ?_
          refine lv_ior (pc := 55) hx hb dX12_stays_55 ?_
          refine lv_istore (pc := 56) (lv' := [(4, .int (v4 ||| 0)), (0, .ref (g_ad G 87)), (1, .int a1), (2, .int a2), (3, .int a3), (5, .int v5)]) hx hb dX12_stays_56 hl (by decide) rfl (fun ls hl => ?_)
          refine lv_iinc (pc := 58) (v := (v5 + 1)) (lv' := [(5, .int (v5 + 1)), (4, .int (v4 ||| 0)), (0, .ref (g_ad G 87)), (1, .int a1), (2, .int a2), (3, .int a3)]) hx hb dX12_stays_58 hl (k := 5) rfl (by rfl) (by decide) rfl (fun ls hl => ?_)
          refine lv_goto (pc := 61) (tgt := 6) hx hb dX12_stays_61 (by decide) ?_
          exact h _ _ _ hM (lv_sub hl [2, 3, 4, 5, 1, 0] rfl)
        · have h := h.2 c44
          refine lv_iconst (pc := 47) (v := 1) hx hb dX12_stays_47 (by decide) ?_
          refine lv_iload (pc := 48) hx hb dX12_stays_48 (lv_at hl 5 rfl) ?_
          refine lv_ishl (pc := 50) hx hb dX12_stays_50 ?_
          refine lv_goto (pc := 51) (tgt := 55) hx hb dX12_stays_51 (by decide) ?_
          refine lv_ior (pc := 55) hx hb dX12_stays_55 ?_
          refine lv_topi (fun v4_56 ev4_56 => ?_)
          have h := h v4_56 ev4_56
          refine lv_istore (pc := 56) (lv' := [(4, .int v4_56), (0, .ref (g_ad G 87)), (1, .int a1), (2, .int a2), (3, .int a3), (5, .int v5)]) hx hb dX12_stays_56 hl (by decide) rfl (fun ls hl => ?_)
          refine lv_iinc (pc := 58) (v := (v5 + 1)) (lv' := [(5, .int (v5 + 1)), (4, .int v4_56), (0, .ref (g_ad G 87)), (1, .int a1), (2, .int a2), (3, .int a3)]) hx hb dX12_stays_58 hl (k := 5) rfl (by rfl) (by decide) rfl (fun ls hl => ?_)
          refine lv_goto (pc := 61) (tgt := 6) hx hb dX12_stays_61 (by decide) ?_
          exact h _ _ _ hM (lv_sub hl [2, 3, 4, 5, 1, 0] rfl))
  refine lv_iconst (pc := 0) (v := 0) hx hb dX12_stays_0 (by decide) ?_
  refine lv_istore (pc := 1) (lv' := [(4, .int 0), (0, .ref (g_ad G 87)), (1, .int a1), (2, .int a2), (3, .int a3)]) hx hb dX12_stays_1 hl (by decide) rfl (fun ls hl => ?_)
  refine lv_iconst (pc := 3) (v := 0) hx hb dX12_stays_3 (by decide) ?_
  refine lv_istore (pc := 4) (lv' := [(5, .int 0), (4, .int 0), (0, .ref (g_ad G 87)), (1, .int a1), (2, .int a2), (3, .int a3)]) hx hb dX12_stays_4 hl (by decide) rfl (fun ls hl => ?_)
  exact h _ _ _ hM (lv_sub hl [2, 3, 4, 5, 1, 0] rfl)
abbrev rm_X12_isHopeless : Room := { frames := 1, cells := 0, slots := 0, locals := 21 }
theorem dX12_isHopeless_0 : decode cX12_isHopeless 0 = .ok (.iconst 0, 1) := by decide +kernel
theorem dX12_isHopeless_1 : decode cX12_isHopeless 1 = .ok (.istore 4, 2) := by decide +kernel
theorem dX12_isHopeless_3 : decode cX12_isHopeless 3 = .ok (.iload 4, 2) := by decide +kernel
theorem dX12_isHopeless_5 : decode cX12_isHopeless 5 = .ok (.aload_n 0, 1) := by decide +kernel
theorem dX12_isHopeless_6 : decode cX12_isHopeless 6 = .ok (.getfield 7, 3) := by decide +kernel
theorem dX12_isHopeless_9 : decode cX12_isHopeless 9 = .ok (.iconst 0, 1) := by decide +kernel
theorem dX12_isHopeless_10 : decode cX12_isHopeless 10 = .ok (.iaload, 1) := by decide +kernel
theorem dX12_isHopeless_11 : decode cX12_isHopeless 11 = .ok (.if_icmp .ge 83, 3) := by decide +kernel
theorem dX12_isHopeless_14 : decode cX12_isHopeless 14 = .ok (.iload_n 1, 1) := by decide +kernel
theorem dX12_isHopeless_15 : decode cX12_isHopeless 15 = .ok (.iload 4, 2) := by decide +kernel
theorem dX12_isHopeless_17 : decode cX12_isHopeless 17 = .ok (.invokestatic 129, 3) := by decide +kernel
theorem dX12_isHopeless_20 : decode cX12_isHopeless 20 = .ok (.istore 5, 2) := by decide +kernel
theorem dX12_isHopeless_22 : decode cX12_isHopeless 22 = .ok (.iload_n 3, 1) := by decide +kernel
theorem dX12_isHopeless_23 : decode cX12_isHopeless 23 = .ok (.istore 6, 2) := by decide +kernel
theorem dX12_isHopeless_25 : decode cX12_isHopeless 25 = .ok (.iload 6, 2) := by decide +kernel
theorem dX12_isHopeless_27 : decode cX12_isHopeless 27 = .ok (.bipush 6, 2) := by decide +kernel
theorem dX12_isHopeless_29 : decode cX12_isHopeless 29 = .ok (.if_icmp .ge 52, 3) := by decide +kernel
theorem dX12_isHopeless_32 : decode cX12_isHopeless 32 = .ok (.iload 5, 2) := by decide +kernel
theorem dX12_isHopeless_34 : decode cX12_isHopeless 34 = .ok (.ifCond .eq 38, 3) := by decide +kernel
theorem dX12_isHopeless_37 : decode cX12_isHopeless 37 = .ok (.aload_n 0, 1) := by decide +kernel
theorem dX12_isHopeless_38 : decode cX12_isHopeless 38 = .ok (.getfield 25, 3) := by decide +kernel
theorem dX12_isHopeless_41 : decode cX12_isHopeless 41 = .ok (.bipush 6, 2) := by decide +kernel
theorem dX12_isHopeless_43 : decode cX12_isHopeless 43 = .ok (.iload_n 2, 1) := by decide +kernel
theorem dX12_isHopeless_44 : decode cX12_isHopeless 44 = .ok (.imul, 1) := by decide +kernel
theorem dX12_isHopeless_45 : decode cX12_isHopeless 45 = .ok (.iload 6, 2) := by decide +kernel
theorem dX12_isHopeless_47 : decode cX12_isHopeless 47 = .ok (.iadd, 1) := by decide +kernel
theorem dX12_isHopeless_48 : decode cX12_isHopeless 48 = .ok (.iaload, 1) := by decide +kernel
theorem dX12_isHopeless_49 : decode cX12_isHopeless 49 = .ok (.aload_n 0, 1) := by decide +kernel
theorem dX12_isHopeless_50 : decode cX12_isHopeless 50 = .ok (.getfield 25, 3) := by decide +kernel
theorem dX12_isHopeless_53 : decode cX12_isHopeless 53 = .ok (.bipush 6, 2) := by decide +kernel
theorem dX12_isHopeless_55 : decode cX12_isHopeless 55 = .ok (.iload 4, 2) := by decide +kernel
theorem dX12_isHopeless_57 : decode cX12_isHopeless 57 = .ok (.imul, 1) := by decide +kernel
theorem dX12_isHopeless_58 : decode cX12_isHopeless 58 = .ok (.iload 6, 2) := by decide +kernel
theorem dX12_isHopeless_60 : decode cX12_isHopeless 60 = .ok (.iadd, 1) := by decide +kernel
theorem dX12_isHopeless_61 : decode cX12_isHopeless 61 = .ok (.iaload, 1) := by decide +kernel
theorem dX12_isHopeless_62 : decode cX12_isHopeless 62 = .ok (.iconst (-1), 1) := by decide +kernel
theorem dX12_isHopeless_63 : decode cX12_isHopeless 63 = .ok (.ixor, 1) := by decide +kernel
theorem dX12_isHopeless_64 : decode cX12_isHopeless 64 = .ok (.iand, 1) := by decide +kernel
theorem dX12_isHopeless_65 : decode cX12_isHopeless 65 = .ok (.ifCond .ne 7, 3) := by decide +kernel
theorem dX12_isHopeless_68 : decode cX12_isHopeless 68 = .ok (.iconst 1, 1) := by decide +kernel
theorem dX12_isHopeless_69 : decode cX12_isHopeless 69 = .ok (.goto 4, 3) := by decide +kernel
theorem dX12_isHopeless_72 : decode cX12_isHopeless 72 = .ok (.iconst 0, 1) := by decide +kernel
theorem dX12_isHopeless_73 : decode cX12_isHopeless 73 = .ok (.istore 5, 2) := by decide +kernel
theorem dX12_isHopeless_75 : decode cX12_isHopeless 75 = .ok (.iinc 6 1, 3) := by decide +kernel
theorem dX12_isHopeless_78 : decode cX12_isHopeless 78 = .ok (.goto (-53), 3) := by decide +kernel
theorem dX12_isHopeless_81 : decode cX12_isHopeless 81 = .ok (.iload 5, 2) := by decide +kernel
theorem dX12_isHopeless_83 : decode cX12_isHopeless 83 = .ok (.ifCond .eq 5, 3) := by decide +kernel
theorem dX12_isHopeless_86 : decode cX12_isHopeless 86 = .ok (.iconst 1, 1) := by decide +kernel
theorem dX12_isHopeless_87 : decode cX12_isHopeless 87 = .ok (.ireturn, 1) := by decide +kernel
theorem dX12_isHopeless_88 : decode cX12_isHopeless 88 = .ok (.iinc 4 1, 3) := by decide +kernel
theorem dX12_isHopeless_91 : decode cX12_isHopeless 91 = .ok (.goto (-88), 3) := by decide +kernel
theorem dX12_isHopeless_94 : decode cX12_isHopeless 94 = .ok (.iconst 0, 1) := by decide +kernel
theorem dX12_isHopeless_95 : decode cX12_isHopeless 95 = .ok (.ireturn, 1) := by decide +kernel
set_option maxHeartbeats 4000000 in
set_option maxRecDepth 100000 in
theorem w_X12_isHopeless (l : Launch) (G : GP) (x : XP) (a1 : Int32) (a2 : Int32) (a3 : Int32) (σ : Sto) (P : Int32 → Sto → Prop) (h : D_X12_isHopeless a1 a2 a3 σ P) : g_Meti l yX12_isHopeless cX12_isHopeless 7 (some .boolean) rm_X12_isHopeless G x [.ref (g_ad G 87), .int a1, .int a2, .int a3] σ P := by
  unfold D_X12_isHopeless at h
  refine g_ofWi (by decide +kernel) (Nat.le_of_ble_eq_true rfl) ?_
  intro p e s m args below meth c Q ls C hM hl hret
  have hx := C.1
  have hb := C.2.1
  have hl : lv_has ls 7 [(0, .ref (g_ad G 87)), (1, .int a1), (2, .int a2), (3, .int a3)] := hl
  have h := h (fun (v4 : Int32) (σ : Sto) => ∀ (H : Heap) (locs : List Loc) (ls : Array Slot), g_M G x σ s H locs → lv_has ls 7 [(0, .ref (g_ad G 87)), (1, .int a1), (2, .int a2), (3, .int a3), (4, .int v4)] → W p l e rm_X12_isHopeless s m args below meth c H locs 0 0 Q (F0 m 3 ls [])) (fun (v4 : Int32) (v5 : Int32) (v6 : Int32) (σ : Sto) => ∀ (H : Heap) (locs : List Loc) (ls : Array Slot), g_M G x σ s H locs → lv_has ls 7 [(0, .ref (g_ad G 87)), (1, .int a1), (2, .int a2), (3, .int a3), (4, .int v4), (5, .int v5), (6, .int v6)] → W p l e rm_X12_isHopeless s m args below meth c H locs 0 0 Q (F0 m 25 ls []))
  have h := h (by
    intro v4 σ h  H locs ls hM hl
    refine lv_iload (pc := 3) hx hb dX12_isHopeless_3 (lv_at hl 4 rfl) ?_
    refine lv_aload_n (pc := 5) hx hb dX12_isHopeless_5 rfl (lv_at hl 0 rfl) ?_
    refine g_get (pc := 6) (v := .ref (g_ad G 88)) C hM (by decide) ce_87 fl_RX12_7 rfl dX12_isHopeless_6 ?_
    refine lv_iconst (pc := 9) (v := 0) hx hb dX12_isHopeless_9 (by decide) ?_
    refine g_ialdK (pc := 10) (k := 0) C hM (by decide) ce_88 (vp_in_nI (n := 0) (by decide) (by decide)) rfl dX12_isHopeless_10 ?_
    refine lv_icmp_ge (pc := 11) (tgt := 94) hx hb dX12_isHopeless_11 (by decide) (fun c11 => ?_) (fun c11 => ?_)
    · have h := h.1 c11
      refine lv_iconst (pc := 94) (v := 0) hx hb dX12_isHopeless_94 (by decide) ?_
      exact hret 95 _ _ _ _ _ dX12_isHopeless_95 (by rfl) h hM
    · have h := h.2 c11
      refine lv_iload_n (pc := 14) hx hb dX12_isHopeless_14 rfl (lv_at hl 1 rfl) ?_
      refine lv_iload (pc := 15) hx hb dX12_isHopeless_15 (lv_at hl 4 rfl) ?_
      refine g_cSi (pc := 17) C hM hl.1 ys_X12_has q6_194 (w_X12_has l G x a1 v4 σ _ h) rfl rfl ⟨⟨by decide, by decide⟩, by decide, by decide⟩ (Nat.le_of_ble_eq_true rfl) dX12_isHopeless_17 (fun r17 s17 H locs h hM => ?_)
      refine lv_istore (pc := 20) (lv' := [(5, .int r17), (0, .ref (g_ad G 87)), (1, .int a1), (2, .int a2), (3, .int a3), (4, .int v4)]) hx hb dX12_isHopeless_20 hl (by decide) rfl (fun ls hl => ?_)
      refine lv_iload_n (pc := 22) hx hb dX12_isHopeless_22 rfl (lv_at hl 4 rfl) ?_
      refine lv_istore (pc := 23) (lv' := [(6, .int a3), (5, .int r17), (0, .ref (g_ad G 87)), (1, .int a1), (2, .int a2), (3, .int a3), (4, .int v4)]) hx hb dX12_isHopeless_23 hl (by decide) rfl (fun ls hl => ?_)
      exact h _ _ _ hM (lv_sub hl [2, 3, 4, 5, 6, 1, 0] rfl))
  have h := h (by
    intro v4 v5 v6 σ h  H locs ls hM hl
    refine lv_iload (pc := 25) hx hb dX12_isHopeless_25 (lv_at hl 6 rfl) ?_
    refine lv_bipush (pc := 27) (v := 6) hx hb dX12_isHopeless_27 (by decide) ?_
    refine lv_icmp_ge (pc := 29) (tgt := 81) hx hb dX12_isHopeless_29 (by decide) (fun c29 => ?_) (fun c29 => ?_)
    · have h := h.1 c29
      refine lv_iload (pc := 81) hx hb dX12_isHopeless_81 (lv_at hl 5 rfl) ?_
      refine lv_if_eq (pc := 83) (tgt := 88) hx hb dX12_isHopeless_83 (by decide) (fun c83 => ?_) (fun c83 => ?_)
      · have h := h.1 c83
        refine lv_iinc (pc := 88) (v := (v4 + 1)) (lv' := [(4, .int (v4 + 1)), (0, .ref (g_ad G 87)), (1, .int a1), (2, .int a2), (3, .int a3), (5, .int v5), (6, .int v6)]) hx hb dX12_isHopeless_88 hl (k := 4) rfl (by rfl) (by decide) rfl (fun ls hl => ?_)
        refine lv_goto (pc := 91) (tgt := 3) hx hb dX12_isHopeless_91 (by decide) ?_
        exact h _ _ _ hM (lv_sub hl [1, 2, 3, 4, 0] rfl)
      · have h := h.2 c83
        refine lv_iconst (pc := 86) (v := 1) hx hb dX12_isHopeless_86 (by decide) ?_
        exact hret 87 _ _ _ _ _ dX12_isHopeless_87 (by rfl) h hM
    · have h := h.2 c29
      refine lv_iload (pc := 32) hx hb dX12_isHopeless_32 (lv_at hl 5 rfl) ?_
      refine lv_if_eq (pc := 34) (tgt := 72) hx hb dX12_isHopeless_34 (by decide) (fun c34 => ?_) (fun c34 => ?_)
      · have h := h.1 c34
        refine lv_iconst (pc := 72) (v := 0) hx hb dX12_isHopeless_72 (by decide) ?_
        refine lv_istore (pc := 73) (lv' := [(5, .int 0), (0, .ref (g_ad G 87)), (1, .int a1), (2, .int a2), (3, .int a3), (4, .int v4), (6, .int v6)]) hx hb dX12_isHopeless_73 hl (by decide) rfl (fun ls hl => ?_)
        refine lv_iinc (pc := 75) (v := (v6 + 1)) (lv' := [(6, .int (v6 + 1)), (5, .int 0), (0, .ref (g_ad G 87)), (1, .int a1), (2, .int a2), (3, .int a3), (4, .int v4)]) hx hb dX12_isHopeless_75 hl (k := 6) rfl (by rfl) (by decide) rfl (fun ls hl => ?_)
        refine lv_goto (pc := 78) (tgt := 25) hx hb dX12_isHopeless_78 (by decide) ?_
        exact h _ _ _ hM (lv_sub hl [2, 3, 4, 5, 6, 1, 0] rfl)
      · have h := h.2 c34
        refine lv_aload_n (pc := 37) hx hb dX12_isHopeless_37 rfl (lv_at hl 0 rfl) ?_
        refine g_get (pc := 38) (v := .ref (g_ad G 93)) C hM (by decide) ce_87 fl_RX12_25 rfl dX12_isHopeless_38 ?_
        refine lv_bipush (pc := 41) (v := 6) hx hb dX12_isHopeless_41 (by decide) ?_
        refine lv_iload_n (pc := 43) hx hb dX12_isHopeless_43 rfl (lv_at hl 2 rfl) ?_
        refine lv_imul (pc := 44) hx hb dX12_isHopeless_44 ?_
        refine lv_iload (pc := 45) hx hb dX12_isHopeless_45 (lv_at hl 6 rfl) ?_
        refine lv_iadd (pc := 47) hx hb dX12_isHopeless_47 ?_
        obtain ⟨hc, h⟩ := h
        refine g_ialdK (pc := 48) C hM (by decide) ce_93 hc rfl dX12_isHopeless_48 ?_
        refine lv_aload_n (pc := 49) hx hb dX12_isHopeless_49 rfl (lv_at hl 0 rfl) ?_
        refine g_get (pc := 50) (v := .ref (g_ad G 93)) C hM (by decide) ce_87 fl_RX12_25 rfl dX12_isHopeless_50 ?_
        refine lv_bipush (pc := 53) (v := 6) hx hb dX12_isHopeless_53 (by decide) ?_
        refine lv_iload (pc := 55) hx hb dX12_isHopeless_55 (lv_at hl 4 rfl) ?_
        refine lv_imul (pc := 57) hx hb dX12_isHopeless_57 ?_
        refine lv_iload (pc := 58) hx hb dX12_isHopeless_58 (lv_at hl 6 rfl) ?_
        refine lv_iadd (pc := 60) hx hb dX12_isHopeless_60 ?_
        obtain ⟨hc, h⟩ := h
        refine g_ialdK (pc := 61) C hM (by decide) ce_93 hc rfl dX12_isHopeless_61 ?_
        refine lv_iconst (pc := 62) (v := (-1)) hx hb dX12_isHopeless_62 (by decide) ?_
        refine lv_ixor (pc := 63) hx hb dX12_isHopeless_63 ?_
        refine lv_iand (pc := 64) hx hb dX12_isHopeless_64 ?_
        refine lv_if_ne (pc := 65) (tgt := 72) hx hb dX12_isHopeless_65 (by decide) (fun c65 => ?_) (fun c65 => ?_)
        · have h := h.2 c65
          refine lv_iconst (pc := 72) (v := 0) hx hb dX12_isHopeless_72 (by decide) ?_
          refine lv_istore (pc := 73) (lv' := [(5, .int 0), (0, .ref (g_ad G 87)), (1, .int a1), (2, .int a2), (3, .int a3), (4, .int v4), (6, .int v6)]) hx hb dX12_isHopeless_73 hl (by decide) rfl (fun ls hl => ?_)
          refine lv_iinc (pc := 75) (v := (v6 + 1)) (lv' := [(6, .int (v6 + 1)), (5, .int 0), (0, .ref (g_ad G 87)), (1, .int a1), (2, .int a2), (3, .int a3), (4, .int v4)]) hx hb dX12_isHopeless_75 hl (k := 6) rfl (by rfl) (by decide) rfl (fun ls hl => ?_)
          refine lv_goto (pc := 78) (tgt := 25) hx hb dX12_isHopeless_78 (by decide) ?_
          exact h _ _ _ hM (lv_sub hl [2, 3, 4, 5, 6, 1, 0] rfl)
        · have h := h.1 c65
          refine lv_iconst (pc := 68) (v := 1) hx hb dX12_isHopeless_68 (by decide) ?_
          refine lv_goto (pc := 69) (tgt := 73) hx hb dX12_isHopeless_69 (by decide) ?_
          refine lv_istore (pc := 73) (lv' := [(5, .int 1), (0, .ref (g_ad G 87)), (1, .int a1), (2, .int a2), (3, .int a3), (4, .int v4), (6, .int v6)]) hx hb dX12_isHopeless_73 hl (by decide) rfl (fun ls hl => ?_)
          refine lv_iinc (pc := 75) (v := (v6 + 1)) (lv' := [(6, .int (v6 + 1)), (5, .int 1), (0, .ref (g_ad G 87)), (1, .int a1), (2, .int a2), (3, .int a3), (4, .int v4)]) hx hb dX12_isHopeless_75 hl (k := 6) rfl (by rfl) (by decide) rfl (fun ls hl => ?_)
          refine lv_goto (pc := 78) (tgt := 25) hx hb dX12_isHopeless_78 (by decide) ?_
          exact h _ _ _ hM (lv_sub hl [2, 3, 4, 5, 6, 1, 0] rfl))
  refine lv_iconst (pc := 0) (v := 0) hx hb dX12_isHopeless_0 (by decide) ?_
  refine lv_istore (pc := 1) (lv' := [(4, .int 0), (0, .ref (g_ad G 87)), (1, .int a1), (2, .int a2), (3, .int a3)]) hx hb dX12_isHopeless_1 hl (by decide) rfl (fun ls hl => ?_)
  exact h _ _ _ hM (lv_sub hl [1, 2, 3, 4, 0] rfl)
abbrev rm_X12_wasVain : Room := { frames := 0, cells := 0, slots := 0, locals := 0 }
theorem dX12_wasVain_0 : decode cX12_wasVain 0 = .ok (.iconst 0, 1) := by decide +kernel
theorem dX12_wasVain_1 : decode cX12_wasVain 1 = .ok (.istore_n 3, 1) := by decide +kernel
theorem dX12_wasVain_2 : decode cX12_wasVain 2 = .ok (.iload_n 3, 1) := by decide +kernel
theorem dX12_wasVain_3 : decode cX12_wasVain 3 = .ok (.aload_n 0, 1) := by decide +kernel
theorem dX12_wasVain_4 : decode cX12_wasVain 4 = .ok (.getfield 52, 3) := by decide +kernel
theorem dX12_wasVain_7 : decode cX12_wasVain 7 = .ok (.iload_n 1, 1) := by decide +kernel
theorem dX12_wasVain_8 : decode cX12_wasVain 8 = .ok (.iaload, 1) := by decide +kernel
theorem dX12_wasVain_9 : decode cX12_wasVain 9 = .ok (.if_icmp .ge 26, 3) := by decide +kernel
theorem dX12_wasVain_12 : decode cX12_wasVain 12 = .ok (.aload_n 0, 1) := by decide +kernel
theorem dX12_wasVain_13 : decode cX12_wasVain 13 = .ok (.getfield 49, 3) := by decide +kernel
theorem dX12_wasVain_16 : decode cX12_wasVain 16 = .ok (.bipush 16, 2) := by decide +kernel
theorem dX12_wasVain_18 : decode cX12_wasVain 18 = .ok (.iload_n 1, 1) := by decide +kernel
theorem dX12_wasVain_19 : decode cX12_wasVain 19 = .ok (.imul, 1) := by decide +kernel
theorem dX12_wasVain_20 : decode cX12_wasVain 20 = .ok (.iload_n 3, 1) := by decide +kernel
theorem dX12_wasVain_21 : decode cX12_wasVain 21 = .ok (.iadd, 1) := by decide +kernel
theorem dX12_wasVain_22 : decode cX12_wasVain 22 = .ok (.iaload, 1) := by decide +kernel
theorem dX12_wasVain_23 : decode cX12_wasVain 23 = .ok (.iload_n 2, 1) := by decide +kernel
theorem dX12_wasVain_24 : decode cX12_wasVain 24 = .ok (.if_icmp .ne 5, 3) := by decide +kernel
theorem dX12_wasVain_27 : decode cX12_wasVain 27 = .ok (.iconst 1, 1) := by decide +kernel
theorem dX12_wasVain_28 : decode cX12_wasVain 28 = .ok (.ireturn, 1) := by decide +kernel
theorem dX12_wasVain_29 : decode cX12_wasVain 29 = .ok (.iinc 3 1, 3) := by decide +kernel
theorem dX12_wasVain_32 : decode cX12_wasVain 32 = .ok (.goto (-30), 3) := by decide +kernel
theorem dX12_wasVain_35 : decode cX12_wasVain 35 = .ok (.iconst 0, 1) := by decide +kernel
theorem dX12_wasVain_36 : decode cX12_wasVain 36 = .ok (.ireturn, 1) := by decide +kernel
set_option maxHeartbeats 4000000 in
set_option maxRecDepth 100000 in
theorem w_X12_wasVain (l : Launch) (G : GP) (x : XP) (a1 : Int32) (a2 : Int32) (σ : Sto) (P : Int32 → Sto → Prop) (h : D_X12_wasVain a1 a2 σ P) : g_Meti l yX12_wasVain cX12_wasVain 4 (some .boolean) rm_X12_wasVain G x [.ref (g_ad G 87), .int a1, .int a2] σ P := by
  unfold D_X12_wasVain at h
  refine g_ofWi (by decide +kernel) (Nat.le_of_ble_eq_true rfl) ?_
  intro p e s m args below meth c Q ls C hM hl hret
  have hx := C.1
  have hb := C.2.1
  have hl : lv_has ls 4 [(0, .ref (g_ad G 87)), (1, .int a1), (2, .int a2)] := hl
  have h := h (fun (v3 : Int32) (σ : Sto) => ∀ (H : Heap) (locs : List Loc) (ls : Array Slot), g_M G x σ s H locs → lv_has ls 4 [(0, .ref (g_ad G 87)), (1, .int a1), (2, .int a2), (3, .int v3)] → W p l e rm_X12_wasVain s m args below meth c H locs 0 0 Q (F0 m 2 ls []))
  have h := h (by
    intro v3 σ h  H locs ls hM hl
    refine lv_iload_n (pc := 2) hx hb dX12_wasVain_2 rfl (lv_at hl 3 rfl) ?_
    refine lv_aload_n (pc := 3) hx hb dX12_wasVain_3 rfl (lv_at hl 0 rfl) ?_
    refine g_get (pc := 4) (v := .ref (g_ad G 102)) C hM (by decide) ce_87 fl_RX12_52 rfl dX12_wasVain_4 ?_
    refine lv_iload_n (pc := 7) hx hb dX12_wasVain_7 rfl (lv_at hl 1 rfl) ?_
    obtain ⟨hc, h⟩ := h
    refine g_ialdK (pc := 8) C hM (by decide) ce_102 hc rfl dX12_wasVain_8 ?_
    refine lv_icmp_ge (pc := 9) (tgt := 35) hx hb dX12_wasVain_9 (by decide) (fun c9 => ?_) (fun c9 => ?_)
    · have h := h.1 c9
      refine lv_iconst (pc := 35) (v := 0) hx hb dX12_wasVain_35 (by decide) ?_
      exact hret 36 _ _ _ _ _ dX12_wasVain_36 (by rfl) h hM
    · have h := h.2 c9
      refine lv_aload_n (pc := 12) hx hb dX12_wasVain_12 rfl (lv_at hl 0 rfl) ?_
      refine g_get (pc := 13) (v := .ref (g_ad G 101)) C hM (by decide) ce_87 fl_RX12_49 rfl dX12_wasVain_13 ?_
      refine lv_bipush (pc := 16) (v := 16) hx hb dX12_wasVain_16 (by decide) ?_
      refine lv_iload_n (pc := 18) hx hb dX12_wasVain_18 rfl (lv_at hl 1 rfl) ?_
      refine lv_imul (pc := 19) hx hb dX12_wasVain_19 ?_
      refine lv_iload_n (pc := 20) hx hb dX12_wasVain_20 rfl (lv_at hl 3 rfl) ?_
      refine lv_iadd (pc := 21) hx hb dX12_wasVain_21 ?_
      obtain ⟨hc, h⟩ := h
      refine g_ialdK (pc := 22) C hM (by decide) ce_101 hc rfl dX12_wasVain_22 ?_
      refine lv_iload_n (pc := 23) hx hb dX12_wasVain_23 rfl (lv_at hl 2 rfl) ?_
      refine lv_icmp_ne (pc := 24) (tgt := 29) hx hb dX12_wasVain_24 (by decide) (fun c24 => ?_) (fun c24 => ?_)
      · have h := h.2 c24
        refine lv_iinc (pc := 29) (v := (v3 + 1)) (lv' := [(3, .int (v3 + 1)), (0, .ref (g_ad G 87)), (1, .int a1), (2, .int a2)]) hx hb dX12_wasVain_29 hl (k := 3) rfl (by rfl) (by decide) rfl (fun ls hl => ?_)
        refine lv_goto (pc := 32) (tgt := 2) hx hb dX12_wasVain_32 (by decide) ?_
        exact h _ _ _ hM (lv_sub hl [1, 2, 3, 0] rfl)
      · have h := h.1 c24
        refine lv_iconst (pc := 27) (v := 1) hx hb dX12_wasVain_27 (by decide) ?_
        exact hret 28 _ _ _ _ _ dX12_wasVain_28 (by rfl) h hM)
  refine lv_iconst (pc := 0) (v := 0) hx hb dX12_wasVain_0 (by decide) ?_
  refine lv_istore_n (pc := 1) (lv' := [(3, .int 0), (0, .ref (g_ad G 87)), (1, .int a1), (2, .int a2)]) hx hb dX12_wasVain_1 rfl hl (by decide) rfl (fun ls hl => ?_)
  exact h _ _ _ hM (lv_sub hl [1, 2, 3, 0] rfl)
abbrev rm_X12_finds (n : Nat) : Room := { frames := n + 8, cells := 0, slots := 0, locals := n * 60 + 400 }
theorem dX12_finds_0 : decode cX12_finds 0 = .ok (.iload_n 2, 1) := by decide +kernel
theorem dX12_finds_1 : decode cX12_finds 1 = .ok (.bipush 6, 2) := by decide +kernel
theorem dX12_finds_3 : decode cX12_finds 3 = .ok (.if_icmp .ne 18, 3) := by decide +kernel
theorem dX12_finds_6 : decode cX12_finds 6 = .ok (.aload_n 0, 1) := by decide +kernel
theorem dX12_finds_7 : decode cX12_finds 7 = .ok (.getfield 43, 3) := by decide +kernel
theorem dX12_finds_10 : decode cX12_finds 10 = .ok (.iload_n 2, 1) := by decide +kernel
theorem dX12_finds_11 : decode cX12_finds 11 = .ok (.iaload, 1) := by decide +kernel
theorem dX12_finds_12 : decode cX12_finds 12 = .ok (.ifCond .ne 7, 3) := by decide +kernel
theorem dX12_finds_15 : decode cX12_finds 15 = .ok (.iconst 1, 1) := by decide +kernel
theorem dX12_finds_16 : decode cX12_finds 16 = .ok (.goto 4, 3) := by decide +kernel
theorem dX12_finds_19 : decode cX12_finds 19 = .ok (.iconst 0, 1) := by decide +kernel
theorem dX12_finds_20 : decode cX12_finds 20 = .ok (.ireturn, 1) := by decide +kernel
theorem dX12_finds_21 : decode cX12_finds 21 = .ok (.aload_n 0, 1) := by decide +kernel
theorem dX12_finds_22 : decode cX12_finds 22 = .ok (.aload_n 0, 1) := by decide +kernel
theorem dX12_finds_23 : decode cX12_finds 23 = .ok (.getfield 43, 3) := by decide +kernel
theorem dX12_finds_26 : decode cX12_finds 26 = .ok (.iload_n 2, 1) := by decide +kernel
theorem dX12_finds_27 : decode cX12_finds 27 = .ok (.iaload, 1) := by decide +kernel
theorem dX12_finds_28 : decode cX12_finds 28 = .ok (.iload_n 1, 1) := by decide +kernel
theorem dX12_finds_29 : decode cX12_finds 29 = .ok (.iload_n 2, 1) := by decide +kernel
theorem dX12_finds_30 : decode cX12_finds 30 = .ok (.invokevirtual 219, 3) := by decide +kernel
theorem dX12_finds_33 : decode cX12_finds 33 = .ok (.ifCond .eq 5, 3) := by decide +kernel
theorem dX12_finds_36 : decode cX12_finds 36 = .ok (.iconst 0, 1) := by decide +kernel
theorem dX12_finds_37 : decode cX12_finds 37 = .ok (.ireturn, 1) := by decide +kernel
theorem dX12_finds_38 : decode cX12_finds 38 = .ok (.aload_n 0, 1) := by decide +kernel
theorem dX12_finds_39 : decode cX12_finds 39 = .ok (.getfield 52, 3) := by decide +kernel
theorem dX12_finds_42 : decode cX12_finds 42 = .ok (.iload_n 2, 1) := by decide +kernel
theorem dX12_finds_43 : decode cX12_finds 43 = .ok (.iconst 0, 1) := by decide +kernel
theorem dX12_finds_44 : decode cX12_finds 44 = .ok (.iastore, 1) := by decide +kernel
theorem dX12_finds_45 : decode cX12_finds 45 = .ok (.iconst 0, 1) := by decide +kernel
theorem dX12_finds_46 : decode cX12_finds 46 = .ok (.istore_n 3, 1) := by decide +kernel
theorem dX12_finds_47 : decode cX12_finds 47 = .ok (.iload_n 3, 1) := by decide +kernel
theorem dX12_finds_48 : decode cX12_finds 48 = .ok (.bipush 16, 2) := by decide +kernel
theorem dX12_finds_50 : decode cX12_finds 50 = .ok (.if_icmp .ge 121, 3) := by decide +kernel
theorem dX12_finds_53 : decode cX12_finds 53 = .ok (.aload_n 0, 1) := by decide +kernel
theorem dX12_finds_54 : decode cX12_finds 54 = .ok (.getfield 25, 3) := by decide +kernel
theorem dX12_finds_57 : decode cX12_finds 57 = .ok (.bipush 6, 2) := by decide +kernel
theorem dX12_finds_59 : decode cX12_finds 59 = .ok (.iload_n 1, 1) := by decide +kernel
theorem dX12_finds_60 : decode cX12_finds 60 = .ok (.imul, 1) := by decide +kernel
theorem dX12_finds_61 : decode cX12_finds 61 = .ok (.iload_n 2, 1) := by decide +kernel
theorem dX12_finds_62 : decode cX12_finds 62 = .ok (.iadd, 1) := by decide +kernel
theorem dX12_finds_63 : decode cX12_finds 63 = .ok (.iaload, 1) := by decide +kernel
theorem dX12_finds_64 : decode cX12_finds 64 = .ok (.iload_n 3, 1) := by decide +kernel
theorem dX12_finds_65 : decode cX12_finds 65 = .ok (.invokestatic 129, 3) := by decide +kernel
theorem dX12_finds_68 : decode cX12_finds 68 = .ok (.ifCond .eq 18, 3) := by decide +kernel
theorem dX12_finds_71 : decode cX12_finds 71 = .ok (.aload_n 0, 1) := by decide +kernel
theorem dX12_finds_72 : decode cX12_finds 72 = .ok (.aload_n 0, 1) := by decide +kernel
theorem dX12_finds_73 : decode cX12_finds 73 = .ok (.getfield 43, 3) := by decide +kernel
theorem dX12_finds_76 : decode cX12_finds 76 = .ok (.iload_n 2, 1) := by decide +kernel
theorem dX12_finds_77 : decode cX12_finds 77 = .ok (.iaload, 1) := by decide +kernel
theorem dX12_finds_78 : decode cX12_finds 78 = .ok (.iload_n 2, 1) := by decide +kernel
theorem dX12_finds_79 : decode cX12_finds 79 = .ok (.iload_n 3, 1) := by decide +kernel
theorem dX12_finds_80 : decode cX12_finds 80 = .ok (.invokevirtual 222, 3) := by decide +kernel
theorem dX12_finds_83 : decode cX12_finds 83 = .ok (.goto 4, 3) := by decide +kernel
theorem dX12_finds_86 : decode cX12_finds 86 = .ok (.iconst (-1), 1) := by decide +kernel
theorem dX12_finds_87 : decode cX12_finds 87 = .ok (.istore 4, 2) := by decide +kernel
theorem dX12_finds_89 : decode cX12_finds 89 = .ok (.iload 4, 2) := by decide +kernel
theorem dX12_finds_91 : decode cX12_finds 91 = .ok (.ifCond .lt 74, 3) := by decide +kernel
theorem dX12_finds_94 : decode cX12_finds 94 = .ok (.aload_n 0, 1) := by decide +kernel
theorem dX12_finds_95 : decode cX12_finds 95 = .ok (.iload_n 2, 1) := by decide +kernel
theorem dX12_finds_96 : decode cX12_finds 96 = .ok (.iload 4, 2) := by decide +kernel
theorem dX12_finds_98 : decode cX12_finds 98 = .ok (.invokevirtual 225, 3) := by decide +kernel
theorem dX12_finds_101 : decode cX12_finds 101 = .ok (.ifCond .eq 6, 3) := by decide +kernel
theorem dX12_finds_104 : decode cX12_finds 104 = .ok (.goto 61, 3) := by decide +kernel
theorem dX12_finds_107 : decode cX12_finds 107 = .ok (.aload_n 0, 1) := by decide +kernel
theorem dX12_finds_108 : decode cX12_finds 108 = .ok (.getfield 43, 3) := by decide +kernel
theorem dX12_finds_111 : decode cX12_finds 111 = .ok (.iload_n 2, 1) := by decide +kernel
theorem dX12_finds_112 : decode cX12_finds 112 = .ok (.iconst 1, 1) := by decide +kernel
theorem dX12_finds_113 : decode cX12_finds 113 = .ok (.iadd, 1) := by decide +kernel
theorem dX12_finds_114 : decode cX12_finds 114 = .ok (.iload 4, 2) := by decide +kernel
theorem dX12_finds_116 : decode cX12_finds 116 = .ok (.iastore, 1) := by decide +kernel
theorem dX12_finds_117 : decode cX12_finds 117 = .ok (.aload_n 0, 1) := by decide +kernel
theorem dX12_finds_118 : decode cX12_finds 118 = .ok (.getfield 46, 3) := by decide +kernel
theorem dX12_finds_121 : decode cX12_finds 121 = .ok (.iload_n 2, 1) := by decide +kernel
theorem dX12_finds_122 : decode cX12_finds 122 = .ok (.iload_n 3, 1) := by decide +kernel
theorem dX12_finds_123 : decode cX12_finds 123 = .ok (.iastore, 1) := by decide +kernel
theorem dX12_finds_124 : decode cX12_finds 124 = .ok (.aload_n 0, 1) := by decide +kernel
theorem dX12_finds_125 : decode cX12_finds 125 = .ok (.iload_n 1, 1) := by decide +kernel
theorem dX12_finds_126 : decode cX12_finds 126 = .ok (.iload_n 2, 1) := by decide +kernel
theorem dX12_finds_127 : decode cX12_finds 127 = .ok (.iconst 1, 1) := by decide +kernel
theorem dX12_finds_128 : decode cX12_finds 128 = .ok (.iadd, 1) := by decide +kernel
theorem dX12_finds_129 : decode cX12_finds 129 = .ok (.invokevirtual 228, 3) := by decide +kernel
theorem dX12_finds_132 : decode cX12_finds 132 = .ok (.ifCond .eq 5, 3) := by decide +kernel
theorem dX12_finds_135 : decode cX12_finds 135 = .ok (.iconst 1, 1) := by decide +kernel
theorem dX12_finds_136 : decode cX12_finds 136 = .ok (.ireturn, 1) := by decide +kernel
theorem dX12_finds_137 : decode cX12_finds 137 = .ok (.aload_n 0, 1) := by decide +kernel
theorem dX12_finds_138 : decode cX12_finds 138 = .ok (.getfield 49, 3) := by decide +kernel
theorem dX12_finds_141 : decode cX12_finds 141 = .ok (.bipush 16, 2) := by decide +kernel
theorem dX12_finds_143 : decode cX12_finds 143 = .ok (.iload_n 2, 1) := by decide +kernel
theorem dX12_finds_144 : decode cX12_finds 144 = .ok (.imul, 1) := by decide +kernel
theorem dX12_finds_145 : decode cX12_finds 145 = .ok (.aload_n 0, 1) := by decide +kernel
theorem dX12_finds_146 : decode cX12_finds 146 = .ok (.getfield 52, 3) := by decide +kernel
theorem dX12_finds_149 : decode cX12_finds 149 = .ok (.iload_n 2, 1) := by decide +kernel
theorem dX12_finds_150 : decode cX12_finds 150 = .ok (.iaload, 1) := by decide +kernel
theorem dX12_finds_151 : decode cX12_finds 151 = .ok (.iadd, 1) := by decide +kernel
theorem dX12_finds_152 : decode cX12_finds 152 = .ok (.iload 4, 2) := by decide +kernel
theorem dX12_finds_154 : decode cX12_finds 154 = .ok (.iastore, 1) := by decide +kernel
theorem dX12_finds_155 : decode cX12_finds 155 = .ok (.aload_n 0, 1) := by decide +kernel
theorem dX12_finds_156 : decode cX12_finds 156 = .ok (.getfield 52, 3) := by decide +kernel
theorem dX12_finds_159 : decode cX12_finds 159 = .ok (.iload_n 2, 1) := by decide +kernel
theorem dX12_finds_160 : decode cX12_finds 160 = .ok (.dup2, 1) := by decide +kernel
theorem dX12_finds_161 : decode cX12_finds 161 = .ok (.iaload, 1) := by decide +kernel
theorem dX12_finds_162 : decode cX12_finds 162 = .ok (.iconst 1, 1) := by decide +kernel
theorem dX12_finds_163 : decode cX12_finds 163 = .ok (.iadd, 1) := by decide +kernel
theorem dX12_finds_164 : decode cX12_finds 164 = .ok (.iastore, 1) := by decide +kernel
theorem dX12_finds_165 : decode cX12_finds 165 = .ok (.iinc 3 1, 3) := by decide +kernel
theorem dX12_finds_168 : decode cX12_finds 168 = .ok (.goto (-121), 3) := by decide +kernel
theorem dX12_finds_171 : decode cX12_finds 171 = .ok (.iconst 0, 1) := by decide +kernel
theorem dX12_finds_172 : decode cX12_finds 172 = .ok (.ireturn, 1) := by decide +kernel
set_option maxHeartbeats 4000000 in
set_option maxRecDepth 100000 in
theorem w_X12_finds (l : Launch) (G : GP) (x : XP) : ∀ (n : Nat) (a1 : Int32) (a2 : Int32) (σ : Sto) (P : Int32 → Sto → Prop), D_X12_finds n a1 a2 σ P → g_Meti l yX12_finds cX12_finds 5 (some .boolean) (rm_X12_finds n) G x [.ref (g_ad G 87), .int a1, .int a2] σ P := by
  intro n
  induction n with
  | zero => intro a1 a2 σ P h; exact h.elim
  | succ n ih =>
    intro a1 a2 σ P h
    rw [D_X12_finds] at h
    refine g_ofWi (by decide +kernel) (Nat.le_of_ble_eq_true rfl) ?_
    intro p e s m args below meth c Q ls C hM hl hret
    have hx := C.1
    have hb := C.2.1
    have hl : lv_has ls 5 [(0, .ref (g_ad G 87)), (1, .int a1), (2, .int a2)] := hl
    have h := h (fun (v3 : Int32) (σ : Sto) => ∀ (H : Heap) (locs : List Loc) (ls : Array Slot), g_M G x σ s H locs → lv_has ls 5 [(0, .ref (g_ad G 87)), (1, .int a1), (2, .int a2), (3, .int v3)] → W p l e (rm_X12_finds (n + 1)) s m args below meth c H locs 0 0 Q (F0 m 47 ls [])) (fun (v3 : Int32) (t0 : Int32) (σ : Sto) => ∀ (H : Heap) (locs : List Loc) (ls : Array Slot), g_M G x σ s H locs → lv_has ls 5 [(0, .ref (g_ad G 87)), (1, .int a1), (2, .int a2), (3, .int v3)] → W p l e (rm_X12_finds (n + 1)) s m args below meth c H locs 0 0 Q (F0 m 87 ls [.int t0]))
    have h := h (by
      intro v3 σ h  H locs ls hM hl
      refine lv_iload_n (pc := 47) hx hb dX12_finds_47 rfl (lv_at hl 3 rfl) ?_
      refine lv_bipush (pc := 48) (v := 16) hx hb dX12_finds_48 (by decide) ?_
      refine lv_icmp_ge (pc := 50) (tgt := 171) hx hb dX12_finds_50 (by decide) (fun c50 => ?_) (fun c50 => ?_)
      · have h := h.1 c50
        refine lv_iconst (pc := 171) (v := 0) hx hb dX12_finds_171 (by decide) ?_
        exact hret 172 _ _ _ _ _ dX12_finds_172 (by rfl) h hM
      · have h := h.2 c50
        refine lv_aload_n (pc := 53) hx hb dX12_finds_53 rfl (lv_at hl 0 rfl) ?_
        refine g_get (pc := 54) (v := .ref (g_ad G 93)) C hM (by decide) ce_87 fl_RX12_25 rfl dX12_finds_54 ?_
        refine lv_bipush (pc := 57) (v := 6) hx hb dX12_finds_57 (by decide) ?_
        refine lv_iload_n (pc := 59) hx hb dX12_finds_59 rfl (lv_at hl 1 rfl) ?_
        refine lv_imul (pc := 60) hx hb dX12_finds_60 ?_
        refine lv_iload_n (pc := 61) hx hb dX12_finds_61 rfl (lv_at hl 2 rfl) ?_
        refine lv_iadd (pc := 62) hx hb dX12_finds_62 ?_
        obtain ⟨hc, h⟩ := h
        refine g_ialdK (pc := 63) C hM (by decide) ce_93 hc rfl dX12_finds_63 ?_
        refine lv_iload_n (pc := 64) hx hb dX12_finds_64 rfl (lv_at hl 3 rfl) ?_
        refine g_cSi (pc := 65) C hM hl.1 ys_X12_has q6_194 (w_X12_has l G x (σ 93 (ix ((6 * a1) + a2))) v3 σ _ h) rfl rfl ⟨⟨by dsimp only [rm_X12_finds, rm_X12_has]; omega, by dsimp only [rm_X12_finds, rm_X12_has]; omega⟩, by dsimp only [rm_X12_finds, rm_X12_has]; omega, by dsimp only [rm_X12_finds, rm_X12_has]; omega⟩ (Nat.le_of_ble_eq_true rfl) dX12_finds_65 (fun r65 s65 H locs h hM => ?_)
        refine lv_if_eq (pc := 68) (tgt := 86) hx hb dX12_finds_68 (by decide) (fun c68 => ?_) (fun c68 => ?_)
        · have h := h.1 c68
          refine lv_iconst (pc := 86) (v := (-1)) hx hb dX12_finds_86 (by decide) ?_
          exact h _ _ _ hM (lv_sub hl [0, 1, 2, 3] rfl)
        · have h := h.2 c68
          refine lv_aload_n (pc := 71) hx hb dX12_finds_71 rfl (lv_at hl 0 rfl) ?_
          refine lv_aload_n (pc := 72) hx hb dX12_finds_72 rfl (lv_at hl 0 rfl) ?_
          refine g_get (pc := 73) (v := .ref (g_ad G 99)) C hM (by decide) ce_87 fl_RX12_43 rfl dX12_finds_73 ?_
          refine lv_iload_n (pc := 76) hx hb dX12_finds_76 rfl (lv_at hl 2 rfl) ?_
          obtain ⟨hc, h⟩ := h
          refine g_ialdK (pc := 77) C hM (by decide) ce_99 hc rfl dX12_finds_77 ?_
          refine lv_iload_n (pc := 78) hx hb dX12_finds_78 rfl (lv_at hl 2 rfl) ?_
          refine lv_iload_n (pc := 79) hx hb dX12_finds_79 rfl (lv_at hl 3 rfl) ?_
          refine g_cVi (pc := 80) C hM hl.1 yv_X12_stays q7_159 (by decide) ce_87 rfl (w_X12_stays l G x (s65 99 (ix a2)) a2 v3 s65 _ h) rfl rfl ⟨⟨by dsimp only [rm_X12_finds, rm_X12_stays]; omega, by dsimp only [rm_X12_finds, rm_X12_stays]; omega⟩, by dsimp only [rm_X12_finds, rm_X12_stays]; omega, by dsimp only [rm_X12_finds, rm_X12_stays]; omega⟩ (Nat.le_of_ble_eq_true rfl) dX12_finds_80 (fun r80 s80 H locs h hM => ?_)
          refine lv_goto (pc := 83) (tgt := 87) hx hb dX12_finds_83 (by decide) ?_
          exact h _ _ _ hM (lv_sub hl [0, 1, 2, 3] rfl))
    have h := h (by
      intro v3 t0 σ h  H locs ls hM hl
      refine lv_istore (pc := 87) (lv' := [(4, .int t0), (0, .ref (g_ad G 87)), (1, .int a1), (2, .int a2), (3, .int v3)]) hx hb dX12_finds_87 hl (by decide) rfl (fun ls hl => ?_)
      refine lv_iload (pc := 89) hx hb dX12_finds_89 (lv_at hl 0 rfl) ?_
      refine lv_if_lt (pc := 91) (tgt := 165) hx hb dX12_finds_91 (by decide) (fun c91 => ?_) (fun c91 => ?_)
      · have h := h.1 c91
        refine lv_iinc (pc := 165) (v := (v3 + 1)) (lv' := [(3, .int (v3 + 1)), (4, .int t0), (0, .ref (g_ad G 87)), (1, .int a1), (2, .int a2)]) hx hb dX12_finds_165 hl (k := 4) rfl (by rfl) (by decide) rfl (fun ls hl => ?_)
        refine lv_goto (pc := 168) (tgt := 47) hx hb dX12_finds_168 (by decide) ?_
        exact h _ _ _ hM (lv_sub hl [2, 3, 4, 0] rfl)
      · have h := h.2 c91
        refine lv_aload_n (pc := 94) hx hb dX12_finds_94 rfl (lv_at hl 1 rfl) ?_
        refine lv_iload_n (pc := 95) hx hb dX12_finds_95 rfl (lv_at hl 3 rfl) ?_
        refine lv_iload (pc := 96) hx hb dX12_finds_96 (lv_at hl 0 rfl) ?_
        refine g_cVi (pc := 98) C hM hl.1 yv_X12_wasVain q7_163 (by decide) ce_87 rfl (w_X12_wasVain l G x a2 t0 σ _ h) rfl rfl ⟨⟨by dsimp only [rm_X12_finds, rm_X12_wasVain]; omega, by dsimp only [rm_X12_finds, rm_X12_wasVain]; omega⟩, by dsimp only [rm_X12_finds, rm_X12_wasVain]; omega, by dsimp only [rm_X12_finds, rm_X12_wasVain]; omega⟩ (Nat.le_of_ble_eq_true rfl) dX12_finds_98 (fun r98 s98 H locs h hM => ?_)
        refine lv_if_eq (pc := 101) (tgt := 107) hx hb dX12_finds_101 (by decide) (fun c101 => ?_) (fun c101 => ?_)
        · have h := h.1 c101
          refine lv_aload_n (pc := 107) hx hb dX12_finds_107 rfl (lv_at hl 1 rfl) ?_
          refine g_get (pc := 108) (v := .ref (g_ad G 99)) C hM (by decide) ce_87 fl_RX12_43 rfl dX12_finds_108 ?_
          refine lv_iload_n (pc := 111) hx hb dX12_finds_111 rfl (lv_at hl 3 rfl) ?_
          refine lv_iconst (pc := 112) (v := 1) hx hb dX12_finds_112 (by decide) ?_
          refine lv_iadd (pc := 113) hx hb dX12_finds_113 ?_
          refine lv_iload (pc := 114) hx hb dX12_finds_114 (lv_at hl 0 rfl) ?_
          obtain ⟨hc, h⟩ := h
          refine g_iastE (pc := 116) C hM (by decide) ce_99 hc rfl dX12_finds_116 (fun s116 es116 H locs hM => ?_)
          have h := h s116 es116
          refine lv_aload_n (pc := 117) hx hb dX12_finds_117 rfl (lv_at hl 1 rfl) ?_
          refine g_get (pc := 118) (v := .ref (g_ad G 100)) C hM (by decide) ce_87 fl_RX12_46 rfl dX12_finds_118 ?_
          refine lv_iload_n (pc := 121) hx hb dX12_finds_121 rfl (lv_at hl 3 rfl) ?_
          refine lv_iload_n (pc := 122) hx hb dX12_finds_122 rfl (lv_at hl 4 rfl) ?_
          obtain ⟨hc, h⟩ := h
          refine g_iastE (pc := 123) C hM (by decide) ce_100 hc rfl dX12_finds_123 (fun s123 es123 H locs hM => ?_)
          have h := h s123 es123
          refine lv_aload_n (pc := 124) hx hb dX12_finds_124 rfl (lv_at hl 1 rfl) ?_
          refine lv_iload_n (pc := 125) hx hb dX12_finds_125 rfl (lv_at hl 2 rfl) ?_
          refine lv_iload_n (pc := 126) hx hb dX12_finds_126 rfl (lv_at hl 3 rfl) ?_
          refine lv_iconst (pc := 127) (v := 1) hx hb dX12_finds_127 (by decide) ?_
          refine lv_iadd (pc := 128) hx hb dX12_finds_128 ?_
          refine g_cVi (pc := 129) C hM hl.1 yv_X12_finds q7_151 (by decide) ce_87 rfl (ih a1 (a2 + 1) s123 _ h) rfl rfl ⟨⟨by dsimp only [rm_X12_finds]; omega, by dsimp only [rm_X12_finds]; omega⟩, by dsimp only [rm_X12_finds]; omega, by dsimp only [rm_X12_finds]; omega⟩ (Nat.le_of_ble_eq_true rfl) dX12_finds_129 (fun r129 s129 H locs h hM => ?_)
          refine lv_if_eq (pc := 132) (tgt := 137) hx hb dX12_finds_132 (by decide) (fun c132 => ?_) (fun c132 => ?_)
          · have h := h.1 c132
            refine lv_aload_n (pc := 137) hx hb dX12_finds_137 rfl (lv_at hl 1 rfl) ?_
            refine g_get (pc := 138) (v := .ref (g_ad G 101)) C hM (by decide) ce_87 fl_RX12_49 rfl dX12_finds_138 ?_
            refine lv_bipush (pc := 141) (v := 16) hx hb dX12_finds_141 (by decide) ?_
            refine lv_iload_n (pc := 143) hx hb dX12_finds_143 rfl (lv_at hl 3 rfl) ?_
            refine lv_imul (pc := 144) hx hb dX12_finds_144 ?_
            refine lv_aload_n (pc := 145) hx hb dX12_finds_145 rfl (lv_at hl 1 rfl) ?_
            refine g_get (pc := 146) (v := .ref (g_ad G 102)) C hM (by decide) ce_87 fl_RX12_52 rfl dX12_finds_146 ?_
            refine lv_iload_n (pc := 149) hx hb dX12_finds_149 rfl (lv_at hl 3 rfl) ?_
            obtain ⟨hc, h⟩ := h
            refine g_ialdK (pc := 150) C hM (by decide) ce_102 hc rfl dX12_finds_150 ?_
            refine lv_iadd (pc := 151) hx hb dX12_finds_151 ?_
            refine lv_iload (pc := 152) hx hb dX12_finds_152 (lv_at hl 0 rfl) ?_
            obtain ⟨hc, h⟩ := h
            refine g_iastE (pc := 154) C hM (by decide) ce_101 hc rfl dX12_finds_154 (fun s154 es154 H locs hM => ?_)
            have h := h s154 es154
            refine lv_aload_n (pc := 155) hx hb dX12_finds_155 rfl (lv_at hl 1 rfl) ?_
            refine g_get (pc := 156) (v := .ref (g_ad G 102)) C hM (by decide) ce_87 fl_RX12_52 rfl dX12_finds_156 ?_
            refine lv_iload_n (pc := 159) hx hb dX12_finds_159 rfl (lv_at hl 3 rfl) ?_
            refine lv_dup2_11 (pc := 160) hx hb dX12_finds_160 rfl rfl ?_
            obtain ⟨hc, h⟩ := h
            refine g_ialdK (pc := 161) C hM (by decide) ce_102 hc rfl dX12_finds_161 ?_
            refine lv_iconst (pc := 162) (v := 1) hx hb dX12_finds_162 (by decide) ?_
            refine lv_iadd (pc := 163) hx hb dX12_finds_163 ?_
            obtain ⟨hc, h⟩ := h
            refine g_iastE (pc := 164) C hM (by decide) ce_102 hc rfl dX12_finds_164 (fun s164 es164 H locs hM => ?_)
            have h := h s164 es164
            refine lv_iinc (pc := 165) (v := (v3 + 1)) (lv' := [(3, .int (v3 + 1)), (4, .int t0), (0, .ref (g_ad G 87)), (1, .int a1), (2, .int a2)]) hx hb dX12_finds_165 hl (k := 4) rfl (by rfl) (by decide) rfl (fun ls hl => ?_)
            refine lv_goto (pc := 168) (tgt := 47) hx hb dX12_finds_168 (by decide) ?_
            exact h _ _ _ hM (lv_sub hl [2, 3, 4, 0] rfl)
          · have h := h.2 c132
            refine lv_iconst (pc := 135) (v := 1) hx hb dX12_finds_135 (by decide) ?_
            exact hret 136 _ _ _ _ _ dX12_finds_136 (by rfl) h hM
        · have h := h.2 c101
          refine lv_goto (pc := 104) (tgt := 165) hx hb dX12_finds_104 (by decide) ?_
          refine lv_iinc (pc := 165) (v := (v3 + 1)) (lv' := [(3, .int (v3 + 1)), (4, .int t0), (0, .ref (g_ad G 87)), (1, .int a1), (2, .int a2)]) hx hb dX12_finds_165 hl (k := 4) rfl (by rfl) (by decide) rfl (fun ls hl => ?_)
          refine lv_goto (pc := 168) (tgt := 47) hx hb dX12_finds_168 (by decide) ?_
          exact h _ _ _ hM (lv_sub hl [2, 3, 4, 0] rfl))
    refine lv_iload_n (pc := 0) hx hb dX12_finds_0 rfl (lv_at hl 2 rfl) ?_
    refine lv_bipush (pc := 1) (v := 6) hx hb dX12_finds_1 (by decide) ?_
    refine lv_icmp_ne (pc := 3) (tgt := 21) hx hb dX12_finds_3 (by decide) (fun c3 => ?_) (fun c3 => ?_)
    · have h := h.2 c3
      refine lv_aload_n (pc := 21) hx hb dX12_finds_21 rfl (lv_at hl 0 rfl) ?_
      refine lv_aload_n (pc := 22) hx hb dX12_finds_22 rfl (lv_at hl 0 rfl) ?_
      refine g_get (pc := 23) (v := .ref (g_ad G 99)) C hM (by decide) ce_87 fl_RX12_43 rfl dX12_finds_23 ?_
      refine lv_iload_n (pc := 26) hx hb dX12_finds_26 rfl (lv_at hl 2 rfl) ?_
      obtain ⟨hc, h⟩ := h
      refine g_ialdK (pc := 27) C hM (by decide) ce_99 hc rfl dX12_finds_27 ?_
      refine lv_iload_n (pc := 28) hx hb dX12_finds_28 rfl (lv_at hl 1 rfl) ?_
      refine lv_iload_n (pc := 29) hx hb dX12_finds_29 rfl (lv_at hl 2 rfl) ?_
      refine g_cVi (pc := 30) C hM hl.1 yv_X12_isHopeless q7_155 (by decide) ce_87 rfl (w_X12_isHopeless l G x (σ 99 (ix a2)) a1 a2 σ _ h) rfl rfl ⟨⟨by dsimp only [rm_X12_finds, rm_X12_isHopeless]; omega, by dsimp only [rm_X12_finds, rm_X12_isHopeless]; omega⟩, by dsimp only [rm_X12_finds, rm_X12_isHopeless]; omega, by dsimp only [rm_X12_finds, rm_X12_isHopeless]; omega⟩ (Nat.le_of_ble_eq_true rfl) dX12_finds_30 (fun r30 s30 H locs h hM => ?_)
      refine lv_if_eq (pc := 33) (tgt := 38) hx hb dX12_finds_33 (by decide) (fun c33 => ?_) (fun c33 => ?_)
      · have h := h.1 c33
        refine lv_aload_n (pc := 38) hx hb dX12_finds_38 rfl (lv_at hl 0 rfl) ?_
        refine g_get (pc := 39) (v := .ref (g_ad G 102)) C hM (by decide) ce_87 fl_RX12_52 rfl dX12_finds_39 ?_
        refine lv_iload_n (pc := 42) hx hb dX12_finds_42 rfl (lv_at hl 2 rfl) ?_
        refine lv_iconst (pc := 43) (v := 0) hx hb dX12_finds_43 (by decide) ?_
        obtain ⟨hc, h⟩ := h
        refine g_iastE (pc := 44) C hM (by decide) ce_102 hc rfl dX12_finds_44 (fun s44 es44 H locs hM => ?_)
        have h := h s44 es44
        refine lv_iconst (pc := 45) (v := 0) hx hb dX12_finds_45 (by decide) ?_
        refine lv_istore_n (pc := 46) (lv' := [(3, .int 0), (0, .ref (g_ad G 87)), (1, .int a1), (2, .int a2)]) hx hb dX12_finds_46 rfl hl (by decide) rfl (fun ls hl => ?_)
        exact h _ _ _ hM (lv_sub hl [1, 2, 3, 0] rfl)
      · have h := h.2 c33
        refine lv_iconst (pc := 36) (v := 0) hx hb dX12_finds_36 (by decide) ?_
        exact hret 37 _ _ _ _ _ dX12_finds_37 (by rfl) h hM
    · have h := h.1 c3
      refine lv_aload_n (pc := 6) hx hb dX12_finds_6 rfl (lv_at hl 0 rfl) ?_
      refine g_get (pc := 7) (v := .ref (g_ad G 99)) C hM (by decide) ce_87 fl_RX12_43 rfl dX12_finds_7 ?_
      refine lv_iload_n (pc := 10) hx hb dX12_finds_10 rfl (lv_at hl 2 rfl) ?_
      obtain ⟨hc, h⟩ := h
      refine g_ialdK (pc := 11) C hM (by decide) ce_99 hc rfl dX12_finds_11 ?_
      refine lv_if_ne (pc := 12) (tgt := 19) hx hb dX12_finds_12 (by decide) (fun c12 => ?_) (fun c12 => ?_)
      · have h := h.2 c12
        refine lv_iconst (pc := 19) (v := 0) hx hb dX12_finds_19 (by decide) ?_
        exact hret 20 _ _ _ _ _ dX12_finds_20 (by rfl) h hM
      · have h := h.1 c12
        refine lv_iconst (pc := 15) (v := 1) hx hb dX12_finds_15 (by decide) ?_
        refine lv_goto (pc := 16) (tgt := 20) hx hb dX12_finds_16 (by decide) ?_
        exact hret 20 _ _ _ _ _ dX12_finds_20 (by rfl) h hM
