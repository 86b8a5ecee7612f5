abbrev rm_X11_requireIndex : Room := { frames := 6, cells := 1, slots := 6, locals := 100 }
theorem dX11_requireIndex_0 : decode cX11_requireIndex 0 = .ok (.iload_n 0, 1) := by decide +kernel
theorem dX11_requireIndex_1 : decode cX11_requireIndex 1 = .ok (.ifCond .lt 8, 3) := by decide +kernel
theorem dX11_requireIndex_4 : decode cX11_requireIndex 4 = .ok (.iload_n 0, 1) := by decide +kernel
theorem dX11_requireIndex_5 : decode cX11_requireIndex 5 = .ok (.iload_n 1, 1) := by decide +kernel
theorem dX11_requireIndex_6 : decode cX11_requireIndex 6 = .ok (.if_icmp .lt 11, 3) := by decide +kernel
theorem dX11_requireIndex_9 : decode cX11_requireIndex 9 = .ok (.new 321, 3) := by decide +kernel
theorem dX11_requireIndex_12 : decode cX11_requireIndex 12 = .ok (.dup, 1) := by decide +kernel
theorem dX11_requireIndex_13 : decode cX11_requireIndex 13 = .ok (.invokespecial 323, 3) := by decide +kernel
theorem dX11_requireIndex_16 : decode cX11_requireIndex 16 = .ok (.athrow, 1) := by decide +kernel
theorem dX11_requireIndex_17 : decode cX11_requireIndex 17 = .ok (.return_, 1) := by decide +kernel
theorem th_X11_requireIndex_9 : g_Th cX11_requireIndex RX11 9 "java/lang/IndexOutOfBoundsException" 321 323 := ⟨["java/lang/RuntimeException", "java/lang/Exception"], rfl, by decide +kernel, by decide +kernel, q2_194, q1_17, by decide +kernel, by decide +kernel, dX11_requireIndex_9, dX11_requireIndex_12, dX11_requireIndex_13, dX11_requireIndex_16⟩
set_option maxHeartbeats 4000000 in
set_option maxRecDepth 100000 in
theorem w_X11_requireIndex (l : Launch) (hl0 : l.stackTraces = false) (G : GP) (x : XP) (a0 : Int32) (a1 : Int32) (σ : Sto) (P : Sto → Prop) (PX : String → Sto → Prop) (h : D_X11_requireIndex a0 a1 σ P PX) : g_Mxv l yX11_requireIndex cX11_requireIndex 2 rm_X11_requireIndex G x [.int a0, .int a1] σ P PX := by
  unfold D_X11_requireIndex at h
  refine g_ofXv hl0 (by decide +kernel) (Nat.le_of_ble_eq_true rfl) (Or.inl (by decide)) ?_
  intro p e s m args below meth c Q ls C hM hl hret hprop hthrow
  have hx := C.1
  have hb := C.2.1
  have hl : lv_has ls 2 [(0, .int a0), (1, .int a1)] := hl
  refine lv_iload_n (pc := 0) hx hb dX11_requireIndex_0 rfl (lv_at hl 0 rfl) ?_
  refine lv_if_lt (pc := 1) (tgt := 9) hx hb dX11_requireIndex_1 (by decide) (fun c1 => ?_) (fun c1 => ?_)
  · have h := h.1 c1
    exact hthrow th_X11_requireIndex_9 h hM hl.1 (Nat.le_of_ble_eq_true rfl) ⟨by decide, by decide⟩
  · have h := h.2 c1
    refine lv_iload_n (pc := 4) hx hb dX11_requireIndex_4 rfl (lv_at hl 0 rfl) ?_
    refine lv_iload_n (pc := 5) hx hb dX11_requireIndex_5 rfl (lv_at hl 1 rfl) ?_
    refine lv_icmp_lt (pc := 6) (tgt := 17) hx hb dX11_requireIndex_6 (by decide) (fun c6 => ?_) (fun c6 => ?_)
    · have h := h.1 c6
      refine W.widen (k := 1) (n := 6) (by decide) (by decide) ?_
      exact hret 17 _ _ _ _ dX11_requireIndex_17 h hM
    · have h := h.2 c6
      exact hthrow th_X11_requireIndex_9 h hM hl.1 (Nat.le_of_ble_eq_true rfl) ⟨by decide, by decide⟩
abbrev rm_X11_isWithin : Room := { frames := 0, cells := 0, slots := 0, locals := 0 }
theorem dX11_isWithin_0 : decode cX11_isWithin 0 = .ok (.iload_n 0, 1) := by decide +kernel
theorem dX11_isWithin_1 : decode cX11_isWithin 1 = .ok (.iload_n 1, 1) := by decide +kernel
theorem dX11_isWithin_2 : decode cX11_isWithin 2 = .ok (.if_icmp .lt 12, 3) := by decide +kernel
theorem dX11_isWithin_5 : decode cX11_isWithin 5 = .ok (.iload_n 0, 1) := by decide +kernel
theorem dX11_isWithin_6 : decode cX11_isWithin 6 = .ok (.iload_n 2, 1) := by decide +kernel
theorem dX11_isWithin_7 : decode cX11_isWithin 7 = .ok (.if_icmp .gt 7, 3) := by decide +kernel
theorem dX11_isWithin_10 : decode cX11_isWithin 10 = .ok (.iconst 1, 1) := by decide +kernel
theorem dX11_isWithin_11 : decode cX11_isWithin 11 = .ok (.goto 4, 3) := by decide +kernel
theorem dX11_isWithin_14 : decode cX11_isWithin 14 = .ok (.iconst 0, 1) := by decide +kernel
theorem dX11_isWithin_15 : decode cX11_isWithin 15 = .ok (.ireturn, 1) := by decide +kernel
set_option maxHeartbeats 4000000 in
set_option maxRecDepth 100000 in
theorem w_X11_isWithin (l : Launch) (G : GP) (x : XP) (a0 : Int32) (a1 : Int32) (a2 : Int32) (σ : Sto) (P : Int32 → Sto → Prop) (h : D_X11_isWithin a0 a1 a2 σ P) : g_Meti l yX11_isWithin cX11_isWithin 3 (some .boolean) rm_X11_isWithin G x [.int a0, .int a1, .int a2] σ P := by
  unfold D_X11_isWithin at h
  refine g_ofWi (by decide +kernel) (Nat.le_of_ble_eq_true rfl) ?_
  intro p e s m args below meth c Q ls C hM hl hret
  have hx := C.1
  have hb := C.2.1
  have hl : lv_has ls 3 [(0, .int a0), (1, .int a1), (2, .int a2)] := hl
  refine lv_iload_n (pc := 0) hx hb dX11_isWithin_0 rfl (lv_at hl 0 rfl) ?_
  refine lv_iload_n (pc := 1) hx hb dX11_isWithin_1 rfl (lv_at hl 1 rfl) ?_
  refine lv_icmp_lt (pc := 2) (tgt := 14) hx hb dX11_isWithin_2 (by decide) (fun c2 => ?_) (fun c2 => ?_)
  · have h := h.1 c2
    refine lv_iconst (pc := 14) (v := 0) hx hb dX11_isWithin_14 (by decide) ?_
    exact hret 15 _ _ _ _ _ dX11_isWithin_15 (by rfl) h hM
  · have h := h.2 c2
    refine lv_iload_n (pc := 5) hx hb dX11_isWithin_5 rfl (lv_at hl 0 rfl) ?_
    refine lv_iload_n (pc := 6) hx hb dX11_isWithin_6 rfl (lv_at hl 2 rfl) ?_
    refine lv_icmp_gt (pc := 7) (tgt := 14) hx hb dX11_isWithin_7 (by decide) (fun c7 => ?_) (fun c7 => ?_)
    · have h := h.1 c7
      refine lv_iconst (pc := 14) (v := 0) hx hb dX11_isWithin_14 (by decide) ?_
      exact hret 15 _ _ _ _ _ dX11_isWithin_15 (by rfl) h hM
    · have h := h.2 c7
      refine lv_iconst (pc := 10) (v := 1) hx hb dX11_isWithin_10 (by decide) ?_
      refine lv_goto (pc := 11) (tgt := 15) hx hb dX11_isWithin_11 (by decide) ?_
      exact hret 15 _ _ _ _ _ dX11_isWithin_15 (by rfl) h hM
abbrev rm_X11_requireArgument : Room := { frames := 6, cells := 1, slots := 6, locals := 100 }
theorem dX11_requireArgument_0 : decode cX11_requireArgument 0 = .ok (.iload_n 0, 1) := by decide +kernel
theorem dX11_requireArgument_1 : decode cX11_requireArgument 1 = .ok (.ifCond .ne 11, 3) := by decide +kernel
theorem dX11_requireArgument_4 : decode cX11_requireArgument 4 = .ok (.new 324, 3) := by decide +kernel
theorem dX11_requireArgument_7 : decode cX11_requireArgument 7 = .ok (.dup, 1) := by decide +kernel
theorem dX11_requireArgument_8 : decode cX11_requireArgument 8 = .ok (.invokespecial 326, 3) := by decide +kernel
theorem dX11_requireArgument_11 : decode cX11_requireArgument 11 = .ok (.athrow, 1) := by decide +kernel
theorem dX11_requireArgument_12 : decode cX11_requireArgument 12 = .ok (.return_, 1) := by decide +kernel
theorem th_X11_requireArgument_4 : g_Th cX11_requireArgument RX11 4 "java/lang/IllegalArgumentException" 324 326 := ⟨["java/lang/RuntimeException", "java/lang/Exception"], rfl, by decide +kernel, by decide +kernel, q2_221, q1_20, by decide +kernel, by decide +kernel, dX11_requireArgument_4, dX11_requireArgument_7, dX11_requireArgument_8, dX11_requireArgument_11⟩
set_option maxHeartbeats 4000000 in
set_option maxRecDepth 100000 in
theorem w_X11_requireArgument (l : Launch) (hl0 : l.stackTraces = false) (G : GP) (x : XP) (a0 : Int32) (σ : Sto) (P : Sto → Prop) (PX : String → Sto → Prop) (h : D_X11_requireArgument a0 σ P PX) : g_Mxv l yX11_requireArgument cX11_requireArgument 1 rm_X11_requireArgument G x [.int a0] σ P PX := by
  unfold D_X11_requireArgument at h
  refine g_ofXv hl0 (by decide +kernel) (Nat.le_of_ble_eq_true rfl) (Or.inl (by decide)) ?_
  intro p e s m args below meth c Q ls C hM hl hret hprop hthrow
  have hx := C.1
  have hb := C.2.1
  have hl : lv_has ls 1 [(0, .int a0)] := hl
  refine lv_iload_n (pc := 0) hx hb dX11_requireArgument_0 rfl (lv_at hl 0 rfl) ?_
  refine lv_if_ne (pc := 1) (tgt := 12) hx hb dX11_requireArgument_1 (by decide) (fun c1 => ?_) (fun c1 => ?_)
  · have h := h.2 c1
    refine W.widen (k := 1) (n := 6) (by decide) (by decide) ?_
    exact hret 12 _ _ _ _ dX11_requireArgument_12 h hM
  · have h := h.1 c1
    exact hthrow th_X11_requireArgument_4 h hM hl.1 (Nat.le_of_ble_eq_true rfl) ⟨by decide, by decide⟩
abbrev rm_X11_requireState : Room := { frames := 6, cells := 1, slots := 6, locals := 100 }
theorem dX11_requireState_0 : decode cX11_requireState 0 = .ok (.iload_n 0, 1) := by decide +kernel
theorem dX11_requireState_1 : decode cX11_requireState 1 = .ok (.ifCond .ne 11, 3) := by decide +kernel
theorem dX11_requireState_4 : decode cX11_requireState 4 = .ok (.new 327, 3) := by decide +kernel
theorem dX11_requireState_7 : decode cX11_requireState 7 = .ok (.dup, 1) := by decide +kernel
theorem dX11_requireState_8 : decode cX11_requireState 8 = .ok (.invokespecial 329, 3) := by decide +kernel
theorem dX11_requireState_11 : decode cX11_requireState 11 = .ok (.athrow, 1) := by decide +kernel
theorem dX11_requireState_12 : decode cX11_requireState 12 = .ok (.return_, 1) := by decide +kernel
theorem th_X11_requireState_4 : g_Th cX11_requireState RX11 4 "java/lang/IllegalStateException" 327 329 := ⟨["java/lang/RuntimeException", "java/lang/Exception"], rfl, by decide +kernel, by decide +kernel, q2_239, q1_21, by decide +kernel, by decide +kernel, dX11_requireState_4, dX11_requireState_7, dX11_requireState_8, dX11_requireState_11⟩
set_option maxHeartbeats 4000000 in
set_option maxRecDepth 100000 in
theorem w_X11_requireState (l : Launch) (hl0 : l.stackTraces = false) (G : GP) (x : XP) (a0 : Int32) (σ : Sto) (P : Sto → Prop) (PX : String → Sto → Prop) (h : D_X11_requireState a0 σ P PX) : g_Mxv l yX11_requireState cX11_requireState 1 rm_X11_requireState G x [.int a0] σ P PX := by
  unfold D_X11_requireState at h
  refine g_ofXv hl0 (by decide +kernel) (Nat.le_of_ble_eq_true rfl) (Or.inl (by decide)) ?_
  intro p e s m args below meth c Q ls C hM hl hret hprop hthrow
  have hx := C.1
  have hb := C.2.1
  have hl : lv_has ls 1 [(0, .int a0)] := hl
  refine lv_iload_n (pc := 0) hx hb dX11_requireState_0 rfl (lv_at hl 0 rfl) ?_
  refine lv_if_ne (pc := 1) (tgt := 12) hx hb dX11_requireState_1 (by decide) (fun c1 => ?_) (fun c1 => ?_)
  · have h := h.2 c1
    refine W.widen (k := 1) (n := 6) (by decide) (by decide) ?_
    exact hret 12 _ _ _ _ dX11_requireState_12 h hM
  · have h := h.1 c1
    exact hthrow th_X11_requireState_4 h hM hl.1 (Nat.le_of_ble_eq_true rfl) ⟨by decide, by decide⟩
abbrev rm_X11_addRule : Room := { frames := 7, cells := 3, slots := 18, locals := 121 }
theorem dX11_addRule_0 : decode cX11_addRule 0 = .ok (.iload_n 1, 1) := by decide +kernel
theorem dX11_addRule_1 : decode cX11_addRule 1 = .ok (.iconst 4, 1) := by decide +kernel
theorem dX11_addRule_2 : decode cX11_addRule 2 = .ok (.invokestatic 92, 3) := by decide +kernel
theorem dX11_addRule_5 : decode cX11_addRule 5 = .ok (.iload_n 3, 1) := by decide +kernel
theorem dX11_addRule_6 : decode cX11_addRule 6 = .ok (.iconst 0, 1) := by decide +kernel
theorem dX11_addRule_7 : decode cX11_addRule 7 = .ok (.bipush 9, 2) := by decide +kernel
theorem dX11_addRule_9 : decode cX11_addRule 9 = .ok (.invokestatic 96, 3) := by decide +kernel
theorem dX11_addRule_12 : decode cX11_addRule 12 = .ok (.invokestatic 100, 3) := by decide +kernel
theorem dX11_addRule_15 : decode cX11_addRule 15 = .ok (.aload_n 0, 1) := by decide +kernel
theorem dX11_addRule_16 : decode cX11_addRule 16 = .ok (.getfield 12, 3) := by decide +kernel
theorem dX11_addRule_19 : decode cX11_addRule 19 = .ok (.getfield 104, 3) := by decide +kernel
theorem dX11_addRule_22 : decode cX11_addRule 22 = .ok (.getfield 108, 3) := by decide +kernel
theorem dX11_addRule_25 : decode cX11_addRule 25 = .ok (.bipush 24, 2) := by decide +kernel
theorem dX11_addRule_27 : decode cX11_addRule 27 = .ok (.if_icmp .ge 7, 3) := by decide +kernel
theorem dX11_addRule_30 : decode cX11_addRule 30 = .ok (.iconst 1, 1) := by decide +kernel
theorem dX11_addRule_31 : decode cX11_addRule 31 = .ok (.goto 4, 3) := by decide +kernel
theorem dX11_addRule_34 : decode cX11_addRule 34 = .ok (.iconst 0, 1) := by decide +kernel
theorem dX11_addRule_35 : decode cX11_addRule 35 = .ok (.invokestatic 114, 3) := by decide +kernel
theorem dX11_addRule_38 : decode cX11_addRule 38 = .ok (.aload_n 0, 1) := by decide +kernel
theorem dX11_addRule_39 : decode cX11_addRule 39 = .ok (.getfield 22, 3) := by decide +kernel
theorem dX11_addRule_42 : decode cX11_addRule 42 = .ok (.aload_n 0, 1) := by decide +kernel
theorem dX11_addRule_43 : decode cX11_addRule 43 = .ok (.getfield 12, 3) := by decide +kernel
theorem dX11_addRule_46 : decode cX11_addRule 46 = .ok (.invokevirtual 117, 3) := by decide +kernel
theorem dX11_addRule_49 : decode cX11_addRule 49 = .ok (.aload_n 0, 1) := by decide +kernel
theorem dX11_addRule_50 : decode cX11_addRule 50 = .ok (.getfield 12, 3) := by decide +kernel
theorem dX11_addRule_53 : decode cX11_addRule 53 = .ok (.getfield 104, 3) := by decide +kernel
theorem dX11_addRule_56 : decode cX11_addRule 56 = .ok (.iload_n 1, 1) := by decide +kernel
theorem dX11_addRule_57 : decode cX11_addRule 57 = .ok (.iload_n 2, 1) := by decide +kernel
theorem dX11_addRule_58 : decode cX11_addRule 58 = .ok (.ifCond .eq 7, 3) := by decide +kernel
theorem dX11_addRule_61 : decode cX11_addRule 61 = .ok (.iconst 1, 1) := by decide +kernel
theorem dX11_addRule_62 : decode cX11_addRule 62 = .ok (.goto 4, 3) := by decide +kernel
theorem dX11_addRule_65 : decode cX11_addRule 65 = .ok (.iconst 0, 1) := by decide +kernel
theorem dX11_addRule_66 : decode cX11_addRule 66 = .ok (.iload_n 3, 1) := by decide +kernel
theorem dX11_addRule_67 : decode cX11_addRule 67 = .ok (.invokevirtual 120, 3) := by decide +kernel
theorem dX11_addRule_70 : decode cX11_addRule 70 = .ok (.ireturn, 1) := by decide +kernel
set_option maxHeartbeats 4000000 in
set_option maxRecDepth 100000 in
theorem w_X11_addRule (l : Launch) (hl0 : l.stackTraces = false) (G : GP) (x : XP) (a1 : Int32) (a2 : Int32) (a3 : Int32) (σ : Sto) (P : Int32 → Sto → Prop) (PX : String → Sto → Prop) (h : D_X11_addRule a1 a2 a3 σ P PX) : g_Mxi l yX11_addRule cX11_addRule 4 (some .int) rm_X11_addRule G x [.ref (g_ad G 60), .int a1, .int a2, .int a3] σ P PX := by
  unfold D_X11_addRule at h
  refine g_ofXi hl0 (by decide +kernel) (Nat.le_of_ble_eq_true rfl) (Or.inl (by decide)) ?_
  intro p e s m args below meth c Q ls C hM hl hret hprop hthrow
  have hx := C.1
  have hb := C.2.1
  have hl : lv_has ls 4 [(0, .ref (g_ad G 60)), (1, .int a1), (2, .int a2), (3, .int a3)] := hl
  have h := h (fun (t0 : Int32) (σ : Sto) => ∀ (H : Heap) (locs : List Loc) (ls : Array Slot), g_M G x σ s H locs → lv_has ls 4 [(0, .ref (g_ad G 60)), (1, .int a1), (2, .int a2), (3, .int a3)] → W p l e rm_X11_addRule s m args below meth c H locs 2 12 Q (F0 m 35 ls [.int t0]))
  have h := h (by
    intro t0 σ h  H locs ls hM hl
    refine g_cxSv (pc := 35) C hM hl.1 ys_X11_requireState q2_236 (w_X11_requireState l hl0 G x t0 σ _ PX h) rfl rfl ⟨⟨by decide, by decide⟩, by decide, by decide⟩ (Nat.le_of_ble_eq_true rfl) dX11_addRule_35 hprop (fun s35 H locs h hM => ?_)
    refine lv_aload_n (pc := 38) hx hb dX11_addRule_38 rfl (lv_at hl 0 rfl) ?_
    refine g_get (pc := 39) (v := .ref (g_ad G 63)) C hM (by decide) ce_60 fl_RX11_22 rfl dX11_addRule_39 ?_
    refine lv_aload_n (pc := 42) hx hb dX11_addRule_42 rfl (lv_at hl 0 rfl) ?_
    refine g_get (pc := 43) (v := .ref (g_ad G 0)) C hM (by decide) ce_60 fl_RX11_12 rfl dX11_addRule_43 ?_
    refine g_cVv (pc := 46) C hM hl.1 yv_X3_keep q3_14 (by decide) ce_63 rfl (w_X3_keep l G x 0 s35 _ h) rfl rfl ⟨⟨by decide, by decide⟩, by decide, by decide⟩ (Nat.le_of_ble_eq_true rfl) dX11_addRule_46 (fun s46 H locs h hM => ?_)
    refine lv_aload_n (pc := 49) hx hb dX11_addRule_49 rfl (lv_at hl 0 rfl) ?_
    refine g_get (pc := 50) (v := .ref (g_ad G 0)) C hM (by decide) ce_60 fl_RX11_12 rfl dX11_addRule_50 ?_
    refine g_get (pc := 53) (v := .ref (g_ad G 1)) C hM (by decide) ce_0 fl_RX11_104 rfl dX11_addRule_53 ?_
    refine lv_iload_n (pc := 56) hx hb dX11_addRule_56 rfl (lv_at hl 1 rfl) ?_
    refine lv_iload_n (pc := 57) hx hb dX11_addRule_57 rfl (lv_at hl 2 rfl) ?_
    refine lv_if_eq (pc := 58) (tgt := 65) hx hb dX11_addRule_58 (by decide) (fun c58 => ?_) (fun c58 => ?_)
    · have h := h.1 c58
      refine lv_iconst (pc := 65) (v := 0) hx hb dX11_addRule_65 (by decide) ?_
      refine lv_iload_n (pc := 66) hx hb dX11_addRule_66 rfl (lv_at hl 3 rfl) ?_
      refine g_cVi (pc := 67) C hM hl.1 yv_X6_addOne q3_23 (by decide) ce_1 rfl (w_X6_addOne l G x 1 a1 0 a3 s46 _ h) rfl rfl ⟨⟨by decide, by decide⟩, by decide, by decide⟩ (Nat.le_of_ble_eq_true rfl) dX11_addRule_67 (fun r67 s67 H locs h hM => ?_)
      refine W.widen (k := 3) (n := 18) (by decide) (by decide) ?_
      exact hret 70 _ _ _ _ _ dX11_addRule_70 (by rfl) h hM
    · have h := h.2 c58
      refine lv_iconst (pc := 61) (v := 1) hx hb dX11_addRule_61 (by decide) ?_
      refine lv_goto (pc := 62) (tgt := 66) hx hb dX11_addRule_62 (by decide) ?_
      refine lv_iload_n (pc := 66) hx hb dX11_addRule_66 rfl (lv_at hl 3 rfl) ?_
      refine g_cVi (pc := 67) C hM hl.1 yv_X6_addOne q3_23 (by decide) ce_1 rfl (w_X6_addOne l G x 1 a1 1 a3 s46 _ h) rfl rfl ⟨⟨by decide, by decide⟩, by decide, by decide⟩ (Nat.le_of_ble_eq_true rfl) dX11_addRule_67 (fun r67 s67 H locs h hM => ?_)
      refine W.widen (k := 3) (n := 18) (by decide) (by decide) ?_
      exact hret 70 _ _ _ _ _ dX11_addRule_70 (by rfl) h hM)
  refine lv_iload_n (pc := 0) hx hb dX11_addRule_0 rfl (lv_at hl 1 rfl) ?_
  refine lv_iconst (pc := 1) (v := 4) hx hb dX11_addRule_1 (by decide) ?_
  refine g_cxSv (pc := 2) C hM hl.1 ys_X11_requireIndex q2_191 (w_X11_requireIndex l hl0 G x a1 4 σ _ PX h) rfl rfl ⟨⟨by decide, by decide⟩, by decide, by decide⟩ (Nat.le_of_ble_eq_true rfl) dX11_addRule_2 hprop (fun s2 H locs h hM => ?_)
  refine lv_iload_n (pc := 5) hx hb dX11_addRule_5 rfl (lv_at hl 3 rfl) ?_
  refine lv_iconst (pc := 6) (v := 0) hx hb dX11_addRule_6 (by decide) ?_
  refine lv_bipush (pc := 7) (v := 9) hx hb dX11_addRule_7 (by decide) ?_
  refine g_cSi (pc := 9) C hM hl.1 ys_X11_isWithin q2_215 (w_X11_isWithin l G x a3 0 9 s2 _ h) rfl rfl ⟨⟨by decide, by decide⟩, by decide, by decide⟩ (Nat.le_of_ble_eq_true rfl) dX11_addRule_9 (fun r9 s9 H locs h hM => ?_)
  refine g_cxSv (pc := 12) C hM hl.1 ys_X11_requireArgument q2_218 (w_X11_requireArgument l hl0 G x r9 s9 _ PX h) rfl rfl ⟨⟨by decide, by decide⟩, by decide, by decide⟩ (Nat.le_of_ble_eq_true rfl) dX11_addRule_12 hprop (fun s12 H locs h hM => ?_)
  refine lv_aload_n (pc := 15) hx hb dX11_addRule_15 rfl (lv_at hl 0 rfl) ?_
  refine g_get (pc := 16) (v := .ref (g_ad G 0)) C hM (by decide) ce_60 fl_RX11_12 rfl dX11_addRule_16 ?_
  refine g_get (pc := 19) (v := .ref (g_ad G 1)) C hM (by decide) ce_0 fl_RX11_104 rfl dX11_addRule_19 ?_
  refine g_get (pc := 22) (v := .int (s12 1 1)) C hM (by decide) ce_1 fl_RX11_108 rfl dX11_addRule_22 ?_
  refine lv_bipush (pc := 25) (v := 24) hx hb dX11_addRule_25 (by decide) ?_
  refine lv_icmp_ge (pc := 27) (tgt := 34) hx hb dX11_addRule_27 (by decide) (fun c27 => ?_) (fun c27 => ?_)
  · have h := h.1 c27
    refine lv_iconst (pc := 34) (v := 0) hx hb dX11_addRule_34 (by decide) ?_
    refine W.widen (k := 2) (n := 12) (by decide) (by decide) ?_
    exact h _ _ _ hM (lv_sub hl [0, 1, 2, 3] rfl)
  · have h := h.2 c27
    refine lv_iconst (pc := 30) (v := 1) hx hb dX11_addRule_30 (by decide) ?_
    refine lv_goto (pc := 31) (tgt := 35) hx hb dX11_addRule_31 (by decide) ?_
    refine W.widen (k := 2) (n := 12) (by decide) (by decide) ?_
    exact h _ _ _ hM (lv_sub hl [0, 1, 2, 3] rfl)
abbrev rm_X11_requireRule : Room := { frames := 7, cells := 1, slots := 6, locals := 121 }
theorem dX11_requireRule_0 : decode cX11_requireRule 0 = .ok (.iload_n 1, 1) := by decide +kernel
theorem dX11_requireRule_1 : decode cX11_requireRule 1 = .ok (.aload_n 0, 1) := by decide +kernel
theorem dX11_requireRule_2 : decode cX11_requireRule 2 = .ok (.getfield 12, 3) := by decide +kernel
theorem dX11_requireRule_5 : decode cX11_requireRule 5 = .ok (.getfield 104, 3) := by decide +kernel
theorem dX11_requireRule_8 : decode cX11_requireRule 8 = .ok (.getfield 108, 3) := by decide +kernel
theorem dX11_requireRule_11 : decode cX11_requireRule 11 = .ok (.invokestatic 92, 3) := by decide +kernel
theorem dX11_requireRule_14 : decode cX11_requireRule 14 = .ok (.return_, 1) := by decide +kernel
set_option maxHeartbeats 4000000 in
set_option maxRecDepth 100000 in
theorem w_X11_requireRule (l : Launch) (hl0 : l.stackTraces = false) (G : GP) (x : XP) (a1 : Int32) (σ : Sto) (P : Sto → Prop) (PX : String → Sto → Prop) (h : D_X11_requireRule a1 σ P PX) : g_Mxv l yX11_requireRule cX11_requireRule 2 rm_X11_requireRule G x [.ref (g_ad G 60), .int a1] σ P PX := by
  unfold D_X11_requireRule at h
  refine g_ofXv hl0 (by decide +kernel) (Nat.le_of_ble_eq_true rfl) (Or.inl (by decide)) ?_
  intro p e s m args below meth c Q ls C hM hl hret hprop hthrow
  have hx := C.1
  have hb := C.2.1
  have hl : lv_has ls 2 [(0, .ref (g_ad G 60)), (1, .int a1)] := hl
  refine lv_iload_n (pc := 0) hx hb dX11_requireRule_0 rfl (lv_at hl 1 rfl) ?_
  refine lv_aload_n (pc := 1) hx hb dX11_requireRule_1 rfl (lv_at hl 0 rfl) ?_
  refine g_get (pc := 2) (v := .ref (g_ad G 0)) C hM (by decide) ce_60 fl_RX11_12 rfl dX11_requireRule_2 ?_
  refine g_get (pc := 5) (v := .ref (g_ad G 1)) C hM (by decide) ce_0 fl_RX11_104 rfl dX11_requireRule_5 ?_
  refine g_get (pc := 8) (v := .int (σ 1 1)) C hM (by decide) ce_1 fl_RX11_108 rfl dX11_requireRule_8 ?_
  refine g_cxSv (pc := 11) C hM hl.1 ys_X11_requireIndex q2_191 (w_X11_requireIndex l hl0 G x a1 (σ 1 1) σ _ PX h) rfl rfl ⟨⟨by decide, by decide⟩, by decide, by decide⟩ (Nat.le_of_ble_eq_true rfl) dX11_requireRule_11 hprop (fun s11 H locs h hM => ?_)
  refine W.widen (k := 1) (n := 6) (by decide) (by decide) ?_
  exact hret 14 _ _ _ _ dX11_requireRule_14 h hM
abbrev rm_X11_isOperand : Room := { frames := 1, cells := 0, slots := 0, locals := 22 }
theorem dX11_isOperand_0 : decode cX11_isOperand 0 = .ok (.iload_n 0, 1) := by decide +kernel
theorem dX11_isOperand_1 : decode cX11_isOperand 1 = .ok (.iconst 4, 1) := by decide +kernel
theorem dX11_isOperand_2 : decode cX11_isOperand 2 = .ok (.if_icmp .ne 12, 3) := by decide +kernel
theorem dX11_isOperand_5 : decode cX11_isOperand 5 = .ok (.iload_n 1, 1) := by decide +kernel
theorem dX11_isOperand_6 : decode cX11_isOperand 6 = .ok (.iconst 1, 1) := by decide +kernel
theorem dX11_isOperand_7 : decode cX11_isOperand 7 = .ok (.ldc_w 320, 3) := by decide +kernel
theorem dX11_isOperand_10 : decode cX11_isOperand 10 = .ok (.invokestatic 96, 3) := by decide +kernel
theorem dX11_isOperand_13 : decode cX11_isOperand 13 = .ok (.ireturn, 1) := by decide +kernel
theorem dX11_isOperand_14 : decode cX11_isOperand 14 = .ok (.iload_n 0, 1) := by decide +kernel
theorem dX11_isOperand_15 : decode cX11_isOperand 15 = .ok (.iconst 0, 1) := by decide +kernel
theorem dX11_isOperand_16 : decode cX11_isOperand 16 = .ok (.iconst 3, 1) := by decide +kernel
theorem dX11_isOperand_17 : decode cX11_isOperand 17 = .ok (.invokestatic 96, 3) := by decide +kernel
theorem dX11_isOperand_20 : decode cX11_isOperand 20 = .ok (.ifCond .eq 17, 3) := by decide +kernel
theorem dX11_isOperand_23 : decode cX11_isOperand 23 = .ok (.iload_n 1, 1) := by decide +kernel
theorem dX11_isOperand_24 : decode cX11_isOperand 24 = .ok (.iconst 0, 1) := by decide +kernel
theorem dX11_isOperand_25 : decode cX11_isOperand 25 = .ok (.bipush 15, 2) := by decide +kernel
theorem dX11_isOperand_27 : decode cX11_isOperand 27 = .ok (.invokestatic 96, 3) := by decide +kernel
theorem dX11_isOperand_30 : decode cX11_isOperand 30 = .ok (.ifCond .eq 7, 3) := by decide +kernel
theorem dX11_isOperand_33 : decode cX11_isOperand 33 = .ok (.iconst 1, 1) := by decide +kernel
theorem dX11_isOperand_34 : decode cX11_isOperand 34 = .ok (.goto 4, 3) := by decide +kernel
theorem dX11_isOperand_37 : decode cX11_isOperand 37 = .ok (.iconst 0, 1) := by decide +kernel
theorem dX11_isOperand_38 : decode cX11_isOperand 38 = .ok (.ireturn, 1) := by decide +kernel
set_option maxHeartbeats 4000000 in
set_option maxRecDepth 100000 in
theorem w_X11_isOperand (l : Launch) (G : GP) (x : XP) (a0 : Int32) (a1 : Int32) (σ : Sto) (P : Int32 → Sto → Prop) (h : D_X11_isOperand a0 a1 σ P) : g_Meti l yX11_isOperand cX11_isOperand 2 (some .boolean) rm_X11_isOperand G x [.int a0, .int a1] σ P := by
  unfold D_X11_isOperand at h
  refine g_ofWi (by decide +kernel) (Nat.le_of_ble_eq_true rfl) ?_
  intro p e s m args below meth c Q ls C hM hl hret
  have hx := C.1
  have hb := C.2.1
  have hl : lv_has ls 2 [(0, .int a0), (1, .int a1)] := hl
  refine lv_iload_n (pc := 0) hx hb dX11_isOperand_0 rfl (lv_at hl 0 rfl) ?_
  refine lv_iconst (pc := 1) (v := 4) hx hb dX11_isOperand_1 (by decide) ?_
  refine lv_icmp_ne (pc := 2) (tgt := 14) hx hb dX11_isOperand_2 (by decide) (fun c2 => ?_) (fun c2 => ?_)
  · have h := h.2 c2
    refine lv_iload_n (pc := 14) hx hb dX11_isOperand_14 rfl (lv_at hl 0 rfl) ?_
    refine lv_iconst (pc := 15) (v := 0) hx hb dX11_isOperand_15 (by decide) ?_
    refine lv_iconst (pc := 16) (v := 3) hx hb dX11_isOperand_16 (by decide) ?_
    refine g_cSi (pc := 17) C hM hl.1 ys_X11_isWithin q2_215 (w_X11_isWithin l G x a0 0 3 σ _ h) rfl rfl ⟨⟨by decide, by decide⟩, by decide, by decide⟩ (Nat.le_of_ble_eq_true rfl) dX11_isOperand_17 (fun r17 s17 H locs h hM => ?_)
    refine lv_if_eq (pc := 20) (tgt := 37) hx hb dX11_isOperand_20 (by decide) (fun c20 => ?_) (fun c20 => ?_)
    · have h := h.1 c20
      refine lv_iconst (pc := 37) (v := 0) hx hb dX11_isOperand_37 (by decide) ?_
      exact hret 38 _ _ _ _ _ dX11_isOperand_38 (by rfl) h hM
    · have h := h.2 c20
      refine lv_iload_n (pc := 23) hx hb dX11_isOperand_23 rfl (lv_at hl 1 rfl) ?_
      refine lv_iconst (pc := 24) (v := 0) hx hb dX11_isOperand_24 (by decide) ?_
      refine lv_bipush (pc := 25) (v := 15) hx hb dX11_isOperand_25 (by decide) ?_
      refine g_cSi (pc := 27) C hM hl.1 ys_X11_isWithin q2_215 (w_X11_isWithin l G x a1 0 15 s17 _ h) rfl rfl ⟨⟨by decide, by decide⟩, by decide, by decide⟩ (Nat.le_of_ble_eq_true rfl) dX11_isOperand_27 (fun r27 s27 H locs h hM => ?_)
      refine lv_if_eq (pc := 30) (tgt := 37) hx hb dX11_isOperand_30 (by decide) (fun c30 => ?_) (fun c30 => ?_)
      · have h := h.1 c30
        refine lv_iconst (pc := 37) (v := 0) hx hb dX11_isOperand_37 (by decide) ?_
        exact hret 38 _ _ _ _ _ dX11_isOperand_38 (by rfl) h hM
      · have h := h.2 c30
        refine lv_iconst (pc := 33) (v := 1) hx hb dX11_isOperand_33 (by decide) ?_
        refine lv_goto (pc := 34) (tgt := 38) hx hb dX11_isOperand_34 (by decide) ?_
        exact hret 38 _ _ _ _ _ dX11_isOperand_38 (by rfl) h hM
  · have h := h.1 c2
    refine lv_iload_n (pc := 5) hx hb dX11_isOperand_5 rfl (lv_at hl 1 rfl) ?_
    refine lv_iconst (pc := 6) (v := 1) hx hb dX11_isOperand_6 (by decide) ?_
    refine lv_ldcw (pc := 7) (v := 65535) hx hb C.2.2.2.1 (C.2.2.2.2.1 _ q3_41) dX11_isOperand_7 ?_
    refine g_cSi (pc := 10) C hM hl.1 ys_X11_isWithin q2_215 (w_X11_isWithin l G x a1 1 65535 σ _ h) rfl rfl ⟨⟨by decide, by decide⟩, by decide, by decide⟩ (Nat.le_of_ble_eq_true rfl) dX11_isOperand_10 (fun r10 s10 H locs h hM => ?_)
    exact hret 13 _ _ _ _ _ dX11_isOperand_13 (nar_b h.1) h.2 hM
abbrev rm_X11_addCondition : Room := { frames := 8, cells := 3, slots := 18, locals := 142 }
theorem dX11_addCondition_0 : decode cX11_addCondition 0 = .ok (.aload_n 0, 1) := by decide +kernel
theorem dX11_addCondition_1 : decode cX11_addCondition 1 = .ok (.iload_n 1, 1) := by decide +kernel
theorem dX11_addCondition_2 : decode cX11_addCondition 2 = .ok (.invokevirtual 124, 3) := by decide +kernel
theorem dX11_addCondition_5 : decode cX11_addCondition 5 = .ok (.iload_n 2, 1) := by decide +kernel
theorem dX11_addCondition_6 : decode cX11_addCondition 6 = .ok (.iconst 0, 1) := by decide +kernel
theorem dX11_addCondition_7 : decode cX11_addCondition 7 = .ok (.iconst 5, 1) := by decide +kernel
theorem dX11_addCondition_8 : decode cX11_addCondition 8 = .ok (.invokestatic 96, 3) := by decide +kernel
theorem dX11_addCondition_11 : decode cX11_addCondition 11 = .ok (.ifCond .eq 16, 3) := by decide +kernel
theorem dX11_addCondition_14 : decode cX11_addCondition 14 = .ok (.iload_n 3, 1) := by decide +kernel
theorem dX11_addCondition_15 : decode cX11_addCondition 15 = .ok (.iload 4, 2) := by decide +kernel
theorem dX11_addCondition_17 : decode cX11_addCondition 17 = .ok (.invokestatic 128, 3) := by decide +kernel
theorem dX11_addCondition_20 : decode cX11_addCondition 20 = .ok (.ifCond .eq 7, 3) := by decide +kernel
theorem dX11_addCondition_23 : decode cX11_addCondition 23 = .ok (.iconst 1, 1) := by decide +kernel
theorem dX11_addCondition_24 : decode cX11_addCondition 24 = .ok (.goto 4, 3) := by decide +kernel
theorem dX11_addCondition_27 : decode cX11_addCondition 27 = .ok (.iconst 0, 1) := by decide +kernel
theorem dX11_addCondition_28 : decode cX11_addCondition 28 = .ok (.invokestatic 100, 3) := by decide +kernel
theorem dX11_addCondition_31 : decode cX11_addCondition 31 = .ok (.aload_n 0, 1) := by decide +kernel
theorem dX11_addCondition_32 : decode cX11_addCondition 32 = .ok (.getfield 12, 3) := by decide +kernel
theorem dX11_addCondition_35 : decode cX11_addCondition 35 = .ok (.getfield 104, 3) := by decide +kernel
theorem dX11_addCondition_38 : decode cX11_addCondition 38 = .ok (.iload_n 1, 1) := by decide +kernel
theorem dX11_addCondition_39 : decode cX11_addCondition 39 = .ok (.iconst 3, 1) := by decide +kernel
theorem dX11_addCondition_40 : decode cX11_addCondition 40 = .ok (.invokevirtual 132, 3) := by decide +kernel
theorem dX11_addCondition_43 : decode cX11_addCondition 43 = .ok (.iconst 4, 1) := by decide +kernel
theorem dX11_addCondition_44 : decode cX11_addCondition 44 = .ok (.if_icmp .ge 7, 3) := by decide +kernel
theorem dX11_addCondition_47 : decode cX11_addCondition 47 = .ok (.iconst 1, 1) := by decide +kernel
theorem dX11_addCondition_48 : decode cX11_addCondition 48 = .ok (.goto 4, 3) := by decide +kernel
theorem dX11_addCondition_51 : decode cX11_addCondition 51 = .ok (.iconst 0, 1) := by decide +kernel
theorem dX11_addCondition_52 : decode cX11_addCondition 52 = .ok (.invokestatic 114, 3) := by decide +kernel
theorem dX11_addCondition_55 : decode cX11_addCondition 55 = .ok (.aload_n 0, 1) := by decide +kernel
theorem dX11_addCondition_56 : decode cX11_addCondition 56 = .ok (.getfield 22, 3) := by decide +kernel
theorem dX11_addCondition_59 : decode cX11_addCondition 59 = .ok (.aload_n 0, 1) := by decide +kernel
theorem dX11_addCondition_60 : decode cX11_addCondition 60 = .ok (.getfield 12, 3) := by decide +kernel
theorem dX11_addCondition_63 : decode cX11_addCondition 63 = .ok (.invokevirtual 117, 3) := by decide +kernel
theorem dX11_addCondition_66 : decode cX11_addCondition 66 = .ok (.aload_n 0, 1) := by decide +kernel
theorem dX11_addCondition_67 : decode cX11_addCondition 67 = .ok (.getfield 12, 3) := by decide +kernel
theorem dX11_addCondition_70 : decode cX11_addCondition 70 = .ok (.getfield 104, 3) := by decide +kernel
theorem dX11_addCondition_73 : decode cX11_addCondition 73 = .ok (.iload_n 1, 1) := by decide +kernel
theorem dX11_addCondition_74 : decode cX11_addCondition 74 = .ok (.iload_n 2, 1) := by decide +kernel
theorem dX11_addCondition_75 : decode cX11_addCondition 75 = .ok (.iload_n 3, 1) := by decide +kernel
theorem dX11_addCondition_76 : decode cX11_addCondition 76 = .ok (.iload 4, 2) := by decide +kernel
theorem dX11_addCondition_78 : decode cX11_addCondition 78 = .ok (.invokevirtual 136, 3) := by decide +kernel
theorem dX11_addCondition_81 : decode cX11_addCondition 81 = .ok (.ireturn, 1) := by decide +kernel
set_option maxHeartbeats 4000000 in
set_option maxRecDepth 100000 in
theorem w_X11_addCondition (l : Launch) (hl0 : l.stackTraces = false) (G : GP) (x : XP) (a1 : Int32) (a2 : Int32) (a3 : Int32) (a4 : Int32) (σ : Sto) (P : Int32 → Sto → Prop) (PX : String → Sto → Prop) (h : D_X11_addCondition a1 a2 a3 a4 σ P PX) : g_Mxi l yX11_addCondition cX11_addCondition 5 (some .int) rm_X11_addCondition G x [.ref (g_ad G 60), .int a1, .int a2, .int a3, .int a4] σ P PX := by
  unfold D_X11_addCondition at h
  refine g_ofXi hl0 (by decide +kernel) (Nat.le_of_ble_eq_true rfl) (Or.inl (by decide)) ?_
  intro p e s m args below meth c Q ls C hM hl hret hprop hthrow
  have hx := C.1
  have hb := C.2.1
  have hl : lv_has ls 5 [(0, .ref (g_ad G 60)), (1, .int a1), (2, .int a2), (3, .int a3), (4, .int a4)] := hl
  have h := h (fun (σ : Sto) => ∀ (H : Heap) (locs : List Loc) (ls : Array Slot), g_M G x σ s H locs → lv_has ls 5 [(0, .ref (g_ad G 60)), (1, .int a1), (2, .int a2), (3, .int a3), (4, .int a4)] → W p l e rm_X11_addCondition s m args below meth c H locs 1 6 Q (F0 m 27 ls [])) (fun (t0 : Int32) (σ : Sto) => ∀ (H : Heap) (locs : List Loc) (ls : Array Slot), g_M G x σ s H locs → lv_has ls 5 [(0, .ref (g_ad G 60)), (1, .int a1), (2, .int a2), (3, .int a3), (4, .int a4)] → W p l e rm_X11_addCondition s m args below meth c H locs 2 12 Q (F0 m 52 ls [.int t0]))
  have h := h (by
    intro σ h  H locs ls hM hl
    refine lv_iconst (pc := 27) (v := 0) hx hb dX11_addCondition_27 (by decide) ?_
    refine g_cxSv (pc := 28) C hM hl.1 ys_X11_requireArgument q2_218 (w_X11_requireArgument l hl0 G x 0 σ _ PX h) rfl rfl ⟨⟨by decide, by decide⟩, by decide, by decide⟩ (Nat.le_of_ble_eq_true rfl) dX11_addCondition_28 hprop (fun s28 H locs h hM => ?_)
    refine lv_aload_n (pc := 31) hx hb dX11_addCondition_31 rfl (lv_at hl 0 rfl) ?_
    refine g_get (pc := 32) (v := .ref (g_ad G 0)) C hM (by decide) ce_60 fl_RX11_12 rfl dX11_addCondition_32 ?_
    refine g_get (pc := 35) (v := .ref (g_ad G 1)) C hM (by decide) ce_0 fl_RX11_104 rfl dX11_addCondition_35 ?_
    refine lv_iload_n (pc := 38) hx hb dX11_addCondition_38 rfl (lv_at hl 1 rfl) ?_
    refine lv_iconst (pc := 39) (v := 3) hx hb dX11_addCondition_39 (by decide) ?_
    refine g_cVi (pc := 40) C hM hl.1 yv_X6_cell q3_42 (by decide) ce_1 rfl (w_X6_cell l G x 1 a1 3 s28 _ h) rfl rfl ⟨⟨by decide, by decide⟩, by decide, by decide⟩ (Nat.le_of_ble_eq_true rfl) dX11_addCondition_40 (fun r40 s40 H locs h hM => ?_)
    refine lv_iconst (pc := 43) (v := 4) hx hb dX11_addCondition_43 (by decide) ?_
    refine lv_icmp_ge (pc := 44) (tgt := 51) hx hb dX11_addCondition_44 (by decide) (fun c44 => ?_) (fun c44 => ?_)
    · have h := h.1 c44
      refine lv_iconst (pc := 51) (v := 0) hx hb dX11_addCondition_51 (by decide) ?_
      refine W.widen (k := 2) (n := 12) (by decide) (by decide) ?_
      exact h _ _ _ hM (lv_sub hl [0, 1, 2, 3, 4] rfl)
    · have h := h.2 c44
      refine lv_iconst (pc := 47) (v := 1) hx hb dX11_addCondition_47 (by decide) ?_
      refine lv_goto (pc := 48) (tgt := 52) hx hb dX11_addCondition_48 (by decide) ?_
      refine W.widen (k := 2) (n := 12) (by decide) (by decide) ?_
      exact h _ _ _ hM (lv_sub hl [0, 1, 2, 3, 4] rfl))
  have h := h (by
    intro t0 σ h  H locs ls hM hl
    refine g_cxSv (pc := 52) C hM hl.1 ys_X11_requireState q2_236 (w_X11_requireState l hl0 G x t0 σ _ PX h) rfl rfl ⟨⟨by decide, by decide⟩, by decide, by decide⟩ (Nat.le_of_ble_eq_true rfl) dX11_addCondition_52 hprop (fun s52 H locs h hM => ?_)
    refine lv_aload_n (pc := 55) hx hb dX11_addCondition_55 rfl (lv_at hl 0 rfl) ?_
    refine g_get (pc := 56) (v := .ref (g_ad G 63)) C hM (by decide) ce_60 fl_RX11_22 rfl dX11_addCondition_56 ?_
    refine lv_aload_n (pc := 59) hx hb dX11_addCondition_59 rfl (lv_at hl 0 rfl) ?_
    refine g_get (pc := 60) (v := .ref (g_ad G 0)) C hM (by decide) ce_60 fl_RX11_12 rfl dX11_addCondition_60 ?_
    refine g_cVv (pc := 63) C hM hl.1 yv_X3_keep q3_14 (by decide) ce_63 rfl (w_X3_keep l G x 0 s52 _ h) rfl rfl ⟨⟨by decide, by decide⟩, by decide, by decide⟩ (Nat.le_of_ble_eq_true rfl) dX11_addCondition_63 (fun s63 H locs h hM => ?_)
    refine lv_aload_n (pc := 66) hx hb dX11_addCondition_66 rfl (lv_at hl 0 rfl) ?_
    refine g_get (pc := 67) (v := .ref (g_ad G 0)) C hM (by decide) ce_60 fl_RX11_12 rfl dX11_addCondition_67 ?_
    refine g_get (pc := 70) (v := .ref (g_ad G 1)) C hM (by decide) ce_0 fl_RX11_104 rfl dX11_addCondition_70 ?_
    refine lv_iload_n (pc := 73) hx hb dX11_addCondition_73 rfl (lv_at hl 1 rfl) ?_
    refine lv_iload_n (pc := 74) hx hb dX11_addCondition_74 rfl (lv_at hl 2 rfl) ?_
    refine lv_iload_n (pc := 75) hx hb dX11_addCondition_75 rfl (lv_at hl 3 rfl) ?_
    refine lv_iload (pc := 76) hx hb dX11_addCondition_76 (lv_at hl 4 rfl) ?_
    refine g_cVi (pc := 78) C hM hl.1 yv_X6_addConditionTo q3_46 (by decide) ce_1 rfl (w_X6_addConditionTo l G x 1 a1 a2 a3 a4 s63 _ h) rfl rfl ⟨⟨by decide, by decide⟩, by decide, by decide⟩ (Nat.le_of_ble_eq_true rfl) dX11_addCondition_78 (fun r78 s78 H locs h hM => ?_)
    refine W.widen (k := 3) (n := 18) (by decide) (by decide) ?_
    exact hret 81 _ _ _ _ _ dX11_addCondition_81 (by rfl) h hM)
  refine lv_aload_n (pc := 0) hx hb dX11_addCondition_0 rfl (lv_at hl 0 rfl) ?_
  refine lv_iload_n (pc := 1) hx hb dX11_addCondition_1 rfl (lv_at hl 1 rfl) ?_
  refine g_cxVv (pc := 2) C hM hl.1 yv_X11_requireRule q3_34 (by decide) ce_60 rfl (w_X11_requireRule l hl0 G x a1 σ _ PX h) rfl rfl ⟨⟨by decide, by decide⟩, by decide, by decide⟩ (Nat.le_of_ble_eq_true rfl) dX11_addCondition_2 hprop (fun s2 H locs h hM => ?_)
  refine lv_iload_n (pc := 5) hx hb dX11_addCondition_5 rfl (lv_at hl 2 rfl) ?_
  refine lv_iconst (pc := 6) (v := 0) hx hb dX11_addCondition_6 (by decide) ?_
  refine lv_iconst (pc := 7) (v := 5) hx hb dX11_addCondition_7 (by decide) ?_
  refine g_cSi (pc := 8) C hM hl.1 ys_X11_isWithin q2_215 (w_X11_isWithin l G x a2 0 5 s2 _ h) rfl rfl ⟨⟨by decide, by decide⟩, by decide, by decide⟩ (Nat.le_of_ble_eq_true rfl) dX11_addCondition_8 (fun r8 s8 H locs h hM => ?_)
  refine lv_if_eq (pc := 11) (tgt := 27) hx hb dX11_addCondition_11 (by decide) (fun c11 => ?_) (fun c11 => ?_)
  · have h := h.1 c11
    refine W.widen (k := 1) (n := 6) (by decide) (by decide) ?_
    exact h _ _ _ hM (lv_sub hl [0, 1, 2, 3, 4] rfl)
  · have h := h.2 c11
    refine lv_iload_n (pc := 14) hx hb dX11_addCondition_14 rfl (lv_at hl 3 rfl) ?_
    refine lv_iload (pc := 15) hx hb dX11_addCondition_15 (lv_at hl 4 rfl) ?_
    refine g_cSi (pc := 17) C hM hl.1 ys_X11_isOperand q3_38 (w_X11_isOperand l G x a3 a4 s8 _ h) rfl rfl ⟨⟨by decide, by decide⟩, by decide, by decide⟩ (Nat.le_of_ble_eq_true rfl) dX11_addCondition_17 (fun r17 s17 H locs h hM => ?_)
    refine lv_if_eq (pc := 20) (tgt := 27) hx hb dX11_addCondition_20 (by decide) (fun c20 => ?_) (fun c20 => ?_)
    · have h := h.1 c20
      refine W.widen (k := 1) (n := 6) (by decide) (by decide) ?_
      exact h _ _ _ hM (lv_sub hl [0, 1, 2, 3, 4] rfl)
    · have h := h.2 c20
      refine lv_iconst (pc := 23) (v := 1) hx hb dX11_addCondition_23 (by decide) ?_
      refine lv_goto (pc := 24) (tgt := 28) hx hb dX11_addCondition_24 (by decide) ?_
      refine g_cxSv (pc := 28) C hM hl.1 ys_X11_requireArgument q2_218 (w_X11_requireArgument l hl0 G x 1 s17 _ PX h) rfl rfl ⟨⟨by decide, by decide⟩, by decide, by decide⟩ (Nat.le_of_ble_eq_true rfl) dX11_addCondition_28 hprop (fun s28 H locs h hM => ?_)
      refine lv_aload_n (pc := 31) hx hb dX11_addCondition_31 rfl (lv_at hl 0 rfl) ?_
      refine g_get (pc := 32) (v := .ref (g_ad G 0)) C hM (by decide) ce_60 fl_RX11_12 rfl dX11_addCondition_32 ?_
      refine g_get (pc := 35) (v := .ref (g_ad G 1)) C hM (by decide) ce_0 fl_RX11_104 rfl dX11_addCondition_35 ?_
      refine lv_iload_n (pc := 38) hx hb dX11_addCondition_38 rfl (lv_at hl 1 rfl) ?_
      refine lv_iconst (pc := 39) (v := 3) hx hb dX11_addCondition_39 (by decide) ?_
      refine g_cVi (pc := 40) C hM hl.1 yv_X6_cell q3_42 (by decide) ce_1 rfl (w_X6_cell l G x 1 a1 3 s28 _ h) rfl rfl ⟨⟨by decide, by decide⟩, by decide, by decide⟩ (Nat.le_of_ble_eq_true rfl) dX11_addCondition_40 (fun r40 s40 H locs h hM => ?_)
      refine lv_iconst (pc := 43) (v := 4) hx hb dX11_addCondition_43 (by decide) ?_
      refine lv_icmp_ge (pc := 44) (tgt := 51) hx hb dX11_addCondition_44 (by decide) (fun c44 => ?_) (fun c44 => ?_)
      · have h := h.1 c44
        refine lv_iconst (pc := 51) (v := 0) hx hb dX11_addCondition_51 (by decide) ?_
        refine W.widen (k := 2) (n := 12) (by decide) (by decide) ?_
        exact h _ _ _ hM (lv_sub hl [0, 1, 2, 3, 4] rfl)
      · have h := h.2 c44
        refine lv_iconst (pc := 47) (v := 1) hx hb dX11_addCondition_47 (by decide) ?_
        refine lv_goto (pc := 48) (tgt := 52) hx hb dX11_addCondition_48 (by decide) ?_
        refine W.widen (k := 2) (n := 12) (by decide) (by decide) ?_
        exact h _ _ _ hM (lv_sub hl [0, 1, 2, 3, 4] rfl)
abbrev rm_X11_removeRule : Room := { frames := 8, cells := 1, slots := 6, locals := 142 }
theorem dX11_removeRule_0 : decode cX11_removeRule 0 = .ok (.aload_n 0, 1) := by decide +kernel
theorem dX11_removeRule_1 : decode cX11_removeRule 1 = .ok (.iload_n 1, 1) := by decide +kernel
theorem dX11_removeRule_2 : decode cX11_removeRule 2 = .ok (.invokevirtual 124, 3) := by decide +kernel
theorem dX11_removeRule_5 : decode cX11_removeRule 5 = .ok (.aload_n 0, 1) := by decide +kernel
theorem dX11_removeRule_6 : decode cX11_removeRule 6 = .ok (.getfield 22, 3) := by decide +kernel
theorem dX11_removeRule_9 : decode cX11_removeRule 9 = .ok (.aload_n 0, 1) := by decide +kernel
theorem dX11_removeRule_10 : decode cX11_removeRule 10 = .ok (.getfield 12, 3) := by decide +kernel
theorem dX11_removeRule_13 : decode cX11_removeRule 13 = .ok (.invokevirtual 117, 3) := by decide +kernel
theorem dX11_removeRule_16 : decode cX11_removeRule 16 = .ok (.aload_n 0, 1) := by decide +kernel
theorem dX11_removeRule_17 : decode cX11_removeRule 17 = .ok (.getfield 12, 3) := by decide +kernel
theorem dX11_removeRule_20 : decode cX11_removeRule 20 = .ok (.getfield 104, 3) := by decide +kernel
theorem dX11_removeRule_23 : decode cX11_removeRule 23 = .ok (.iload_n 1, 1) := by decide +kernel
theorem dX11_removeRule_24 : decode cX11_removeRule 24 = .ok (.invokevirtual 140, 3) := by decide +kernel
theorem dX11_removeRule_27 : decode cX11_removeRule 27 = .ok (.aload_n 0, 1) := by decide +kernel
theorem dX11_removeRule_28 : decode cX11_removeRule 28 = .ok (.getfield 12, 3) := by decide +kernel
theorem dX11_removeRule_31 : decode cX11_removeRule 31 = .ok (.getfield 104, 3) := by decide +kernel
theorem dX11_removeRule_34 : decode cX11_removeRule 34 = .ok (.getfield 108, 3) := by decide +kernel
theorem dX11_removeRule_37 : decode cX11_removeRule 37 = .ok (.ireturn, 1) := by decide +kernel
set_option maxHeartbeats 4000000 in
set_option maxRecDepth 100000 in
theorem w_X11_removeRule (l : Launch) (hl0 : l.stackTraces = false) (G : GP) (x : XP) (a1 : Int32) (σ : Sto) (P : Int32 → Sto → Prop) (PX : String → Sto → Prop) (h : D_X11_removeRule a1 σ P PX) : g_Mxi l yX11_removeRule cX11_removeRule 2 (some .int) rm_X11_removeRule G x [.ref (g_ad G 60), .int a1] σ P PX := by
  unfold D_X11_removeRule at h
  refine g_ofXi hl0 (by decide +kernel) (Nat.le_of_ble_eq_true rfl) (Or.inl (by decide)) ?_
  intro p e s m args below meth c Q ls C hM hl hret hprop hthrow
  have hx := C.1
  have hb := C.2.1
  have hl : lv_has ls 2 [(0, .ref (g_ad G 60)), (1, .int a1)] := hl
  refine lv_aload_n (pc := 0) hx hb dX11_removeRule_0 rfl (lv_at hl 0 rfl) ?_
  refine lv_iload_n (pc := 1) hx hb dX11_removeRule_1 rfl (lv_at hl 1 rfl) ?_
  refine g_cxVv (pc := 2) C hM hl.1 yv_X11_requireRule q3_34 (by decide) ce_60 rfl (w_X11_requireRule l hl0 G x a1 σ _ PX h) rfl rfl ⟨⟨by decide, by decide⟩, by decide, by decide⟩ (Nat.le_of_ble_eq_true rfl) dX11_removeRule_2 hprop (fun s2 H locs h hM => ?_)
  refine lv_aload_n (pc := 5) hx hb dX11_removeRule_5 rfl (lv_at hl 0 rfl) ?_
  refine g_get (pc := 6) (v := .ref (g_ad G 63)) C hM (by decide) ce_60 fl_RX11_22 rfl dX11_removeRule_6 ?_
  refine lv_aload_n (pc := 9) hx hb dX11_removeRule_9 rfl (lv_at hl 0 rfl) ?_
  refine g_get (pc := 10) (v := .ref (g_ad G 0)) C hM (by decide) ce_60 fl_RX11_12 rfl dX11_removeRule_10 ?_
  refine g_cVv (pc := 13) C hM hl.1 yv_X3_keep q3_14 (by decide) ce_63 rfl (w_X3_keep l G x 0 s2 _ h) rfl rfl ⟨⟨by decide, by decide⟩, by decide, by decide⟩ (Nat.le_of_ble_eq_true rfl) dX11_removeRule_13 (fun s13 H locs h hM => ?_)
  refine lv_aload_n (pc := 16) hx hb dX11_removeRule_16 rfl (lv_at hl 0 rfl) ?_
  refine g_get (pc := 17) (v := .ref (g_ad G 0)) C hM (by decide) ce_60 fl_RX11_12 rfl dX11_removeRule_17 ?_
  refine g_get (pc := 20) (v := .ref (g_ad G 1)) C hM (by decide) ce_0 fl_RX11_104 rfl dX11_removeRule_20 ?_
  refine lv_iload_n (pc := 23) hx hb dX11_removeRule_23 rfl (lv_at hl 1 rfl) ?_
  refine g_cVv (pc := 24) C hM hl.1 yv_X6_drop q3_61 (by decide) ce_1 rfl (w_X6_drop l G x 1 a1 s13 _ h) rfl rfl ⟨⟨by decide, by decide⟩, by decide, by decide⟩ (Nat.le_of_ble_eq_true rfl) dX11_removeRule_24 (fun s24 H locs h hM => ?_)
  refine lv_aload_n (pc := 27) hx hb dX11_removeRule_27 rfl (lv_at hl 0 rfl) ?_
  refine g_get (pc := 28) (v := .ref (g_ad G 0)) C hM (by decide) ce_60 fl_RX11_12 rfl dX11_removeRule_28 ?_
  refine g_get (pc := 31) (v := .ref (g_ad G 1)) C hM (by decide) ce_0 fl_RX11_104 rfl dX11_removeRule_31 ?_
  refine g_get (pc := 34) (v := .int (s24 1 1)) C hM (by decide) ce_1 fl_RX11_108 rfl dX11_removeRule_34 ?_
  refine W.widen (k := 1) (n := 6) (by decide) (by decide) ?_
  exact hret 37 _ _ _ _ _ dX11_removeRule_37 (by rfl) h hM
abbrev rm_X11_setPriority : Room := { frames := 8, cells := 2, slots := 12, locals := 142 }
theorem dX11_setPriority_0 : decode cX11_setPriority 0 = .ok (.aload_n 0, 1) := by decide +kernel
theorem dX11_setPriority_1 : decode cX11_setPriority 1 = .ok (.iload_n 1, 1) := by decide +kernel
theorem dX11_setPriority_2 : decode cX11_setPriority 2 = .ok (.invokevirtual 124, 3) := by decide +kernel
theorem dX11_setPriority_5 : decode cX11_setPriority 5 = .ok (.iload_n 2, 1) := by decide +kernel
theorem dX11_setPriority_6 : decode cX11_setPriority 6 = .ok (.iconst 0, 1) := by decide +kernel
theorem dX11_setPriority_7 : decode cX11_setPriority 7 = .ok (.bipush 9, 2) := by decide +kernel
theorem dX11_setPriority_9 : decode cX11_setPriority 9 = .ok (.invokestatic 96, 3) := by decide +kernel
theorem dX11_setPriority_12 : decode cX11_setPriority 12 = .ok (.invokestatic 100, 3) := by decide +kernel
theorem dX11_setPriority_15 : decode cX11_setPriority 15 = .ok (.aload_n 0, 1) := by decide +kernel
theorem dX11_setPriority_16 : decode cX11_setPriority 16 = .ok (.getfield 22, 3) := by decide +kernel
theorem dX11_setPriority_19 : decode cX11_setPriority 19 = .ok (.aload_n 0, 1) := by decide +kernel
theorem dX11_setPriority_20 : decode cX11_setPriority 20 = .ok (.getfield 12, 3) := by decide +kernel
theorem dX11_setPriority_23 : decode cX11_setPriority 23 = .ok (.invokevirtual 117, 3) := by decide +kernel
theorem dX11_setPriority_26 : decode cX11_setPriority 26 = .ok (.aload_n 0, 1) := by decide +kernel
theorem dX11_setPriority_27 : decode cX11_setPriority 27 = .ok (.getfield 12, 3) := by decide +kernel
theorem dX11_setPriority_30 : decode cX11_setPriority 30 = .ok (.getfield 104, 3) := by decide +kernel
theorem dX11_setPriority_33 : decode cX11_setPriority 33 = .ok (.iload_n 1, 1) := by decide +kernel
theorem dX11_setPriority_34 : decode cX11_setPriority 34 = .ok (.iconst 2, 1) := by decide +kernel
theorem dX11_setPriority_35 : decode cX11_setPriority 35 = .ok (.invokevirtual 132, 3) := by decide +kernel
theorem dX11_setPriority_38 : decode cX11_setPriority 38 = .ok (.istore_n 3, 1) := by decide +kernel
theorem dX11_setPriority_39 : decode cX11_setPriority 39 = .ok (.aload_n 0, 1) := by decide +kernel
theorem dX11_setPriority_40 : decode cX11_setPriority 40 = .ok (.getfield 12, 3) := by decide +kernel
theorem dX11_setPriority_43 : decode cX11_setPriority 43 = .ok (.getfield 104, 3) := by decide +kernel
theorem dX11_setPriority_46 : decode cX11_setPriority 46 = .ok (.iload_n 1, 1) := by decide +kernel
theorem dX11_setPriority_47 : decode cX11_setPriority 47 = .ok (.iload_n 2, 1) := by decide +kernel
theorem dX11_setPriority_48 : decode cX11_setPriority 48 = .ok (.invokevirtual 143, 3) := by decide +kernel
theorem dX11_setPriority_51 : decode cX11_setPriority 51 = .ok (.iload_n 3, 1) := by decide +kernel
theorem dX11_setPriority_52 : decode cX11_setPriority 52 = .ok (.ireturn, 1) := by decide +kernel
set_option maxHeartbeats 4000000 in
set_option maxRecDepth 100000 in
theorem w_X11_setPriority (l : Launch) (hl0 : l.stackTraces = false) (G : GP) (x : XP) (a1 : Int32) (a2 : Int32) (σ : Sto) (P : Int32 → Sto → Prop) (PX : String → Sto → Prop) (h : D_X11_setPriority a1 a2 σ P PX) : g_Mxi l yX11_setPriority cX11_setPriority 4 (some .int) rm_X11_setPriority G x [.ref (g_ad G 60), .int a1, .int a2] σ P PX := by
  unfold D_X11_setPriority at h
  refine g_ofXi hl0 (by decide +kernel) (Nat.le_of_ble_eq_true rfl) (Or.inl (by decide)) ?_
  intro p e s m args below meth c Q ls C hM hl hret hprop hthrow
  have hx := C.1
  have hb := C.2.1
  have hl : lv_has ls 4 [(0, .ref (g_ad G 60)), (1, .int a1), (2, .int a2)] := hl
  refine lv_aload_n (pc := 0) hx hb dX11_setPriority_0 rfl (lv_at hl 0 rfl) ?_
  refine lv_iload_n (pc := 1) hx hb dX11_setPriority_1 rfl (lv_at hl 1 rfl) ?_
  refine g_cxVv (pc := 2) C hM hl.1 yv_X11_requireRule q3_34 (by decide) ce_60 rfl (w_X11_requireRule l hl0 G x a1 σ _ PX h) rfl rfl ⟨⟨by decide, by decide⟩, by decide, by decide⟩ (Nat.le_of_ble_eq_true rfl) dX11_setPriority_2 hprop (fun s2 H locs h hM => ?_)
  refine lv_iload_n (pc := 5) hx hb dX11_setPriority_5 rfl (lv_at hl 2 rfl) ?_
  refine lv_iconst (pc := 6) (v := 0) hx hb dX11_setPriority_6 (by decide) ?_
  refine lv_bipush (pc := 7) (v := 9) hx hb dX11_setPriority_7 (by decide) ?_
  refine g_cSi (pc := 9) C hM hl.1 ys_X11_isWithin q2_215 (w_X11_isWithin l G x a2 0 9 s2 _ h) rfl rfl ⟨⟨by decide, by decide⟩, by decide, by decide⟩ (Nat.le_of_ble_eq_true rfl) dX11_setPriority_9 (fun r9 s9 H locs h hM => ?_)
  refine g_cxSv (pc := 12) C hM hl.1 ys_X11_requireArgument q2_218 (w_X11_requireArgument l hl0 G x r9 s9 _ PX h) rfl rfl ⟨⟨by decide, by decide⟩, by decide, by decide⟩ (Nat.le_of_ble_eq_true rfl) dX11_setPriority_12 hprop (fun s12 H locs h hM => ?_)
  refine lv_aload_n (pc := 15) hx hb dX11_setPriority_15 rfl (lv_at hl 0 rfl) ?_
  refine g_get (pc := 16) (v := .ref (g_ad G 63)) C hM (by decide) ce_60 fl_RX11_22 rfl dX11_setPriority_16 ?_
  refine lv_aload_n (pc := 19) hx hb dX11_setPriority_19 rfl (lv_at hl 0 rfl) ?_
  refine g_get (pc := 20) (v := .ref (g_ad G 0)) C hM (by decide) ce_60 fl_RX11_12 rfl dX11_setPriority_20 ?_
  refine g_cVv (pc := 23) C hM hl.1 yv_X3_keep q3_14 (by decide) ce_63 rfl (w_X3_keep l G x 0 s12 _ h) rfl rfl ⟨⟨by decide, by decide⟩, by decide, by decide⟩ (Nat.le_of_ble_eq_true rfl) dX11_setPriority_23 (fun s23 H locs h hM => ?_)
  refine lv_aload_n (pc := 26) hx hb dX11_setPriority_26 rfl (lv_at hl 0 rfl) ?_
  refine g_get (pc := 27) (v := .ref (g_ad G 0)) C hM (by decide) ce_60 fl_RX11_12 rfl dX11_setPriority_27 ?_
  refine g_get (pc := 30) (v := .ref (g_ad G 1)) C hM (by decide) ce_0 fl_RX11_104 rfl dX11_setPriority_30 ?_
  refine lv_iload_n (pc := 33) hx hb dX11_setPriority_33 rfl (lv_at hl 1 rfl) ?_
  refine lv_iconst (pc := 34) (v := 2) hx hb dX11_setPriority_34 (by decide) ?_
  refine g_cVi (pc := 35) C hM hl.1 yv_X6_cell q3_42 (by decide) ce_1 rfl (w_X6_cell l G x 1 a1 2 s23 _ h) rfl rfl ⟨⟨by decide, by decide⟩, by decide, by decide⟩ (Nat.le_of_ble_eq_true rfl) dX11_setPriority_35 (fun r35 s35 H locs h hM => ?_)
  refine lv_istore_n (pc := 38) (lv' := [(3, .int r35), (0, .ref (g_ad G 60)), (1, .int a1), (2, .int a2)]) hx hb dX11_setPriority_38 rfl hl (by decide) rfl (fun ls hl => ?_)
  refine lv_aload_n (pc := 39) hx hb dX11_setPriority_39 rfl (lv_at hl 1 rfl) ?_
  refine g_get (pc := 40) (v := .ref (g_ad G 0)) C hM (by decide) ce_60 fl_RX11_12 rfl dX11_setPriority_40 ?_
  refine g_get (pc := 43) (v := .ref (g_ad G 1)) C hM (by decide) ce_0 fl_RX11_104 rfl dX11_setPriority_43 ?_
  refine lv_iload_n (pc := 46) hx hb dX11_setPriority_46 rfl (lv_at hl 2 rfl) ?_
  refine lv_iload_n (pc := 47) hx hb dX11_setPriority_47 rfl (lv_at hl 3 rfl) ?_
  refine g_cVv (pc := 48) C hM hl.1 yv_X6_putPriority q3_72 (by decide) ce_1 rfl (w_X6_putPriority l G x 1 a1 a2 s35 _ h) rfl rfl ⟨⟨by decide, by decide⟩, by decide, by decide⟩ (Nat.le_of_ble_eq_true rfl) dX11_setPriority_48 (fun s48 H locs h hM => ?_)
  refine lv_iload_n (pc := 51) hx hb dX11_setPriority_51 rfl (lv_at hl 0 rfl) ?_
  refine W.widen (k := 2) (n := 12) (by decide) (by decide) ?_
  exact hret 52 _ _ _ _ _ dX11_setPriority_52 (by rfl) h hM
abbrev rm_X11_setWay : Room := { frames := 7, cells := 2, slots := 12, locals := 121 }
theorem dX11_setWay_0 : decode cX11_setWay 0 = .ok (.iload_n 1, 1) := by decide +kernel
theorem dX11_setWay_1 : decode cX11_setWay 1 = .ok (.iconst 4, 1) := by decide +kernel
theorem dX11_setWay_2 : decode cX11_setWay 2 = .ok (.invokestatic 92, 3) := by decide +kernel
theorem dX11_setWay_5 : decode cX11_setWay 5 = .ok (.iload_n 2, 1) := by decide +kernel
theorem dX11_setWay_6 : decode cX11_setWay 6 = .ok (.iconst 0, 1) := by decide +kernel
theorem dX11_setWay_7 : decode cX11_setWay 7 = .ok (.iconst 3, 1) := by decide +kernel
theorem dX11_setWay_8 : decode cX11_setWay 8 = .ok (.invokestatic 96, 3) := by decide +kernel
theorem dX11_setWay_11 : decode cX11_setWay 11 = .ok (.invokestatic 100, 3) := by decide +kernel
theorem dX11_setWay_14 : decode cX11_setWay 14 = .ok (.aload_n 0, 1) := by decide +kernel
theorem dX11_setWay_15 : decode cX11_setWay 15 = .ok (.getfield 22, 3) := by decide +kernel
theorem dX11_setWay_18 : decode cX11_setWay 18 = .ok (.aload_n 0, 1) := by decide +kernel
theorem dX11_setWay_19 : decode cX11_setWay 19 = .ok (.getfield 12, 3) := by decide +kernel
theorem dX11_setWay_22 : decode cX11_setWay 22 = .ok (.invokevirtual 117, 3) := by decide +kernel
theorem dX11_setWay_25 : decode cX11_setWay 25 = .ok (.aload_n 0, 1) := by decide +kernel
theorem dX11_setWay_26 : decode cX11_setWay 26 = .ok (.getfield 12, 3) := by decide +kernel
theorem dX11_setWay_29 : decode cX11_setWay 29 = .ok (.getfield 146, 3) := by decide +kernel
theorem dX11_setWay_32 : decode cX11_setWay 32 = .ok (.iload_n 1, 1) := by decide +kernel
theorem dX11_setWay_33 : decode cX11_setWay 33 = .ok (.iaload, 1) := by decide +kernel
theorem dX11_setWay_34 : decode cX11_setWay 34 = .ok (.istore_n 3, 1) := by decide +kernel
theorem dX11_setWay_35 : decode cX11_setWay 35 = .ok (.aload_n 0, 1) := by decide +kernel
theorem dX11_setWay_36 : decode cX11_setWay 36 = .ok (.getfield 12, 3) := by decide +kernel
theorem dX11_setWay_39 : decode cX11_setWay 39 = .ok (.getfield 146, 3) := by decide +kernel
theorem dX11_setWay_42 : decode cX11_setWay 42 = .ok (.iload_n 1, 1) := by decide +kernel
theorem dX11_setWay_43 : decode cX11_setWay 43 = .ok (.iload_n 2, 1) := by decide +kernel
theorem dX11_setWay_44 : decode cX11_setWay 44 = .ok (.iastore, 1) := by decide +kernel
theorem dX11_setWay_45 : decode cX11_setWay 45 = .ok (.iload_n 3, 1) := by decide +kernel
theorem dX11_setWay_46 : decode cX11_setWay 46 = .ok (.ireturn, 1) := by decide +kernel
set_option maxHeartbeats 4000000 in
set_option maxRecDepth 100000 in
theorem w_X11_setWay (l : Launch) (hl0 : l.stackTraces = false) (G : GP) (x : XP) (a1 : Int32) (a2 : Int32) (σ : Sto) (P : Int32 → Sto → Prop) (PX : String → Sto → Prop) (h : D_X11_setWay a1 a2 σ P PX) : g_Mxi l yX11_setWay cX11_setWay 4 (some .int) rm_X11_setWay G x [.ref (g_ad G 60), .int a1, .int a2] σ P PX := by
  unfold D_X11_setWay at h
  refine g_ofXi hl0 (by decide +kernel) (Nat.le_of_ble_eq_true rfl) (Or.inl (by decide)) ?_
  intro p e s m args below meth c Q ls C hM hl hret hprop hthrow
  have hx := C.1
  have hb := C.2.1
  have hl : lv_has ls 4 [(0, .ref (g_ad G 60)), (1, .int a1), (2, .int a2)] := hl
  refine lv_iload_n (pc := 0) hx hb dX11_setWay_0 rfl (lv_at hl 1 rfl) ?_
  refine lv_iconst (pc := 1) (v := 4) hx hb dX11_setWay_1 (by decide) ?_
  refine g_cxSv (pc := 2) C hM hl.1 ys_X11_requireIndex q2_191 (w_X11_requireIndex l hl0 G x a1 4 σ _ PX h) rfl rfl ⟨⟨by decide, by decide⟩, by decide, by decide⟩ (Nat.le_of_ble_eq_true rfl) dX11_setWay_2 hprop (fun s2 H locs h hM => ?_)
  refine lv_iload_n (pc := 5) hx hb dX11_setWay_5 rfl (lv_at hl 2 rfl) ?_
  refine lv_iconst (pc := 6) (v := 0) hx hb dX11_setWay_6 (by decide) ?_
  refine lv_iconst (pc := 7) (v := 3) hx hb dX11_setWay_7 (by decide) ?_
  refine g_cSi (pc := 8) C hM hl.1 ys_X11_isWithin q2_215 (w_X11_isWithin l G x a2 0 3 s2 _ h) rfl rfl ⟨⟨by decide, by decide⟩, by decide, by decide⟩ (Nat.le_of_ble_eq_true rfl) dX11_setWay_8 (fun r8 s8 H locs h hM => ?_)
  refine g_cxSv (pc := 11) C hM hl.1 ys_X11_requireArgument q2_218 (w_X11_requireArgument l hl0 G x r8 s8 _ PX h) rfl rfl ⟨⟨by decide, by decide⟩, by decide, by decide⟩ (Nat.le_of_ble_eq_true rfl) dX11_setWay_11 hprop (fun s11 H locs h hM => ?_)
  refine lv_aload_n (pc := 14) hx hb dX11_setWay_14 rfl (lv_at hl 0 rfl) ?_
  refine g_get (pc := 15) (v := .ref (g_ad G 63)) C hM (by decide) ce_60 fl_RX11_22 rfl dX11_setWay_15 ?_
  refine lv_aload_n (pc := 18) hx hb dX11_setWay_18 rfl (lv_at hl 0 rfl) ?_
  refine g_get (pc := 19) (v := .ref (g_ad G 0)) C hM (by decide) ce_60 fl_RX11_12 rfl dX11_setWay_19 ?_
  refine g_cVv (pc := 22) C hM hl.1 yv_X3_keep q3_14 (by decide) ce_63 rfl (w_X3_keep l G x 0 s11 _ h) rfl rfl ⟨⟨by decide, by decide⟩, by decide, by decide⟩ (Nat.le_of_ble_eq_true rfl) dX11_setWay_22 (fun s22 H locs h hM => ?_)
  refine lv_aload_n (pc := 25) hx hb dX11_setWay_25 rfl (lv_at hl 0 rfl) ?_
  refine g_get (pc := 26) (v := .ref (g_ad G 0)) C hM (by decide) ce_60 fl_RX11_12 rfl dX11_setWay_26 ?_
  refine g_get (pc := 29) (v := .ref (g_ad G 5)) C hM (by decide) ce_0 fl_RX11_146 rfl dX11_setWay_29 ?_
  refine lv_iload_n (pc := 32) hx hb dX11_setWay_32 rfl (lv_at hl 1 rfl) ?_
  obtain ⟨hc, h⟩ := h
  refine g_ialdK (pc := 33) C hM (by decide) ce_5 hc rfl dX11_setWay_33 ?_
  refine lv_istore_n (pc := 34) (lv' := [(3, .int (s22 5 (ix a1))), (0, .ref (g_ad G 60)), (1, .int a1), (2, .int a2)]) hx hb dX11_setWay_34 rfl hl (by decide) rfl (fun ls hl => ?_)
  refine lv_aload_n (pc := 35) hx hb dX11_setWay_35 rfl (lv_at hl 1 rfl) ?_
  refine g_get (pc := 36) (v := .ref (g_ad G 0)) C hM (by decide) ce_60 fl_RX11_12 rfl dX11_setWay_36 ?_
  refine g_get (pc := 39) (v := .ref (g_ad G 5)) C hM (by decide) ce_0 fl_RX11_146 rfl dX11_setWay_39 ?_
  refine lv_iload_n (pc := 42) hx hb dX11_setWay_42 rfl (lv_at hl 2 rfl) ?_
  refine lv_iload_n (pc := 43) hx hb dX11_setWay_43 rfl (lv_at hl 3 rfl) ?_
  obtain ⟨hc, h⟩ := h
  refine g_iastE (pc := 44) C hM (by decide) ce_5 hc rfl dX11_setWay_44 (fun s44 es44 H locs hM => ?_)
  have h := h s44 es44
  refine lv_iload_n (pc := 45) hx hb dX11_setWay_45 rfl (lv_at hl 0 rfl) ?_
  refine W.widen (k := 2) (n := 12) (by decide) (by decide) ?_
  exact hret 46 _ _ _ _ _ dX11_setWay_46 (by rfl) h hM
abbrev rm_X11_setTopWay : Room := { frames := 7, cells := 1, slots := 6, locals := 120 }
theorem dX11_setTopWay_0 : decode cX11_setTopWay 0 = .ok (.iload_n 1, 1) := by decide +kernel
theorem dX11_setTopWay_1 : decode cX11_setTopWay 1 = .ok (.iconst 0, 1) := by decide +kernel
theorem dX11_setTopWay_2 : decode cX11_setTopWay 2 = .ok (.iconst 3, 1) := by decide +kernel
theorem dX11_setTopWay_3 : decode cX11_setTopWay 3 = .ok (.invokestatic 96, 3) := by decide +kernel
theorem dX11_setTopWay_6 : decode cX11_setTopWay 6 = .ok (.invokestatic 100, 3) := by decide +kernel
theorem dX11_setTopWay_9 : decode cX11_setTopWay 9 = .ok (.aload_n 0, 1) := by decide +kernel
theorem dX11_setTopWay_10 : decode cX11_setTopWay 10 = .ok (.getfield 22, 3) := by decide +kernel
theorem dX11_setTopWay_13 : decode cX11_setTopWay 13 = .ok (.aload_n 0, 1) := by decide +kernel
theorem dX11_setTopWay_14 : decode cX11_setTopWay 14 = .ok (.getfield 12, 3) := by decide +kernel
theorem dX11_setTopWay_17 : decode cX11_setTopWay 17 = .ok (.invokevirtual 117, 3) := by decide +kernel
theorem dX11_setTopWay_20 : decode cX11_setTopWay 20 = .ok (.aload_n 0, 1) := by decide +kernel
theorem dX11_setTopWay_21 : decode cX11_setTopWay 21 = .ok (.getfield 12, 3) := by decide +kernel
theorem dX11_setTopWay_24 : decode cX11_setTopWay 24 = .ok (.getfield 149, 3) := by decide +kernel
theorem dX11_setTopWay_27 : decode cX11_setTopWay 27 = .ok (.istore_n 2, 1) := by decide +kernel
theorem dX11_setTopWay_28 : decode cX11_setTopWay 28 = .ok (.aload_n 0, 1) := by decide +kernel
theorem dX11_setTopWay_29 : decode cX11_setTopWay 29 = .ok (.getfield 12, 3) := by decide +kernel
theorem dX11_setTopWay_32 : decode cX11_setTopWay 32 = .ok (.iload_n 1, 1) := by decide +kernel
theorem dX11_setTopWay_33 : decode cX11_setTopWay 33 = .ok (.putfield 149, 3) := by decide +kernel
theorem dX11_setTopWay_36 : decode cX11_setTopWay 36 = .ok (.iload_n 2, 1) := by decide +kernel
theorem dX11_setTopWay_37 : decode cX11_setTopWay 37 = .ok (.ireturn, 1) := by decide +kernel
set_option maxHeartbeats 4000000 in
set_option maxRecDepth 100000 in
theorem w_X11_setTopWay (l : Launch) (hl0 : l.stackTraces = false) (G : GP) (x : XP) (a1 : Int32) (σ : Sto) (P : Int32 → Sto → Prop) (PX : String → Sto → Prop) (h : D_X11_setTopWay a1 σ P PX) : g_Mxi l yX11_setTopWay cX11_setTopWay 3 (some .int) rm_X11_setTopWay G x [.ref (g_ad G 60), .int a1] σ P PX := by
  unfold D_X11_setTopWay at h
  refine g_ofXi hl0 (by decide +kernel) (Nat.le_of_ble_eq_true rfl) (Or.inl (by decide)) ?_
  intro p e s m args below meth c Q ls C hM hl hret hprop hthrow
  have hx := C.1
  have hb := C.2.1
  have hl : lv_has ls 3 [(0, .ref (g_ad G 60)), (1, .int a1)] := hl
  refine lv_iload_n (pc := 0) hx hb dX11_setTopWay_0 rfl (lv_at hl 1 rfl) ?_
  refine lv_iconst (pc := 1) (v := 0) hx hb dX11_setTopWay_1 (by decide) ?_
  refine lv_iconst (pc := 2) (v := 3) hx hb dX11_setTopWay_2 (by decide) ?_
  refine g_cSi (pc := 3) C hM hl.1 ys_X11_isWithin q2_215 (w_X11_isWithin l G x a1 0 3 σ _ h) rfl rfl ⟨⟨by decide, by decide⟩, by decide, by decide⟩ (Nat.le_of_ble_eq_true rfl) dX11_setTopWay_3 (fun r3 s3 H locs h hM => ?_)
  refine g_cxSv (pc := 6) C hM hl.1 ys_X11_requireArgument q2_218 (w_X11_requireArgument l hl0 G x r3 s3 _ PX h) rfl rfl ⟨⟨by decide, by decide⟩, by decide, by decide⟩ (Nat.le_of_ble_eq_true rfl) dX11_setTopWay_6 hprop (fun s6 H locs h hM => ?_)
  refine lv_aload_n (pc := 9) hx hb dX11_setTopWay_9 rfl (lv_at hl 0 rfl) ?_
  refine g_get (pc := 10) (v := .ref (g_ad G 63)) C hM (by decide) ce_60 fl_RX11_22 rfl dX11_setTopWay_10 ?_
  refine lv_aload_n (pc := 13) hx hb dX11_setTopWay_13 rfl (lv_at hl 0 rfl) ?_
  refine g_get (pc := 14) (v := .ref (g_ad G 0)) C hM (by decide) ce_60 fl_RX11_12 rfl dX11_setTopWay_14 ?_
  refine g_cVv (pc := 17) C hM hl.1 yv_X3_keep q3_14 (by decide) ce_63 rfl (w_X3_keep l G x 0 s6 _ h) rfl rfl ⟨⟨by decide, by decide⟩, by decide, by decide⟩ (Nat.le_of_ble_eq_true rfl) dX11_setTopWay_17 (fun s17 H locs h hM => ?_)
  refine lv_aload_n (pc := 20) hx hb dX11_setTopWay_20 rfl (lv_at hl 0 rfl) ?_
  refine g_get (pc := 21) (v := .ref (g_ad G 0)) C hM (by decide) ce_60 fl_RX11_12 rfl dX11_setTopWay_21 ?_
  refine g_get (pc := 24) (v := .int (s17 0 3)) C hM (by decide) ce_0 fl_RX11_149 rfl dX11_setTopWay_24 ?_
  refine lv_istore_n (pc := 27) (lv' := [(2, .int (s17 0 3)), (0, .ref (g_ad G 60)), (1, .int a1)]) hx hb dX11_setTopWay_27 rfl hl (by decide) rfl (fun ls hl => ?_)
  refine lv_aload_n (pc := 28) hx hb dX11_setTopWay_28 rfl (lv_at hl 1 rfl) ?_
  refine g_get (pc := 29) (v := .ref (g_ad G 0)) C hM (by decide) ce_60 fl_RX11_12 rfl dX11_setTopWay_29 ?_
  refine lv_iload_n (pc := 32) hx hb dX11_setTopWay_32 rfl (lv_at hl 2 rfl) ?_
  refine g_putE (pc := 33) C hM (by decide) ce_0 fp_RX11_149 rfl rfl (Nat.le_of_ble_eq_true rfl) rfl dX11_setTopWay_33 (fun s33 es33 H locs hM => ?_)
  have h := h s33 es33
  refine lv_iload_n (pc := 36) hx hb dX11_setTopWay_36 rfl (lv_at hl 0 rfl) ?_
  refine W.widen (k := 1) (n := 6) (by decide) (by decide) ?_
  exact hret 37 _ _ _ _ _ dX11_setTopWay_37 (by rfl) h hM
abbrev rm_X11_ruleCount : Room := { frames := 0, cells := 0, slots := 0, locals := 0 }
theorem dX11_ruleCount_0 : decode cX11_ruleCount 0 = .ok (.aload_n 0, 1) := by decide +kernel
theorem dX11_ruleCount_1 : decode cX11_ruleCount 1 = .ok (.getfield 12, 3) := by decide +kernel
theorem dX11_ruleCount_4 : decode cX11_ruleCount 4 = .ok (.getfield 104, 3) := by decide +kernel
theorem dX11_ruleCount_7 : decode cX11_ruleCount 7 = .ok (.getfield 108, 3) := by decide +kernel
theorem dX11_ruleCount_10 : decode cX11_ruleCount 10 = .ok (.ireturn, 1) := by decide +kernel
set_option maxHeartbeats 4000000 in
set_option maxRecDepth 100000 in
theorem w_X11_ruleCount (l : Launch) (G : GP) (x : XP) (σ : Sto) (P : Int32 → Sto → Prop) (h : D_X11_ruleCount  σ P) : g_Meti l yX11_ruleCount cX11_ruleCount 1 (some .int) rm_X11_ruleCount G x [.ref (g_ad G 60)] σ P := by
  unfold D_X11_ruleCount at h
  refine g_ofWi (by decide +kernel) (Nat.le_of_ble_eq_true rfl) ?_
  intro p e s m args below meth c Q ls C hM hl hret
  have hx := C.1
  have hb := C.2.1
  have hl : lv_has ls 1 [(0, .ref (g_ad G 60))] := hl
  refine lv_aload_n (pc := 0) hx hb dX11_ruleCount_0 rfl (lv_at hl 0 rfl) ?_
  refine g_get (pc := 1) (v := .ref (g_ad G 0)) C hM (by decide) ce_60 fl_RX11_12 rfl dX11_ruleCount_1 ?_
  refine g_get (pc := 4) (v := .ref (g_ad G 1)) C hM (by decide) ce_0 fl_RX11_104 rfl dX11_ruleCount_4 ?_
  refine g_get (pc := 7) (v := .int (σ 1 1)) C hM (by decide) ce_1 fl_RX11_108 rfl dX11_ruleCount_7 ?_
  exact hret 10 _ _ _ _ _ dX11_ruleCount_10 (by rfl) h hM
abbrev rm_X11_rule : Room := { frames := 8, cells := 2, slots := 12, locals := 142 }
theorem dX11_rule_0 : decode cX11_rule 0 = .ok (.aload_n 0, 1) := by decide +kernel
theorem dX11_rule_1 : decode cX11_rule 1 = .ok (.iload_n 1, 1) := by decide +kernel
theorem dX11_rule_2 : decode cX11_rule 2 = .ok (.invokevirtual 124, 3) := by decide +kernel
theorem dX11_rule_5 : decode cX11_rule 5 = .ok (.iload_n 2, 1) := by decide +kernel
theorem dX11_rule_6 : decode cX11_rule 6 = .ok (.iconst 0, 1) := by decide +kernel
theorem dX11_rule_7 : decode cX11_rule 7 = .ok (.iconst 3, 1) := by decide +kernel
theorem dX11_rule_8 : decode cX11_rule 8 = .ok (.invokestatic 96, 3) := by decide +kernel
theorem dX11_rule_11 : decode cX11_rule 11 = .ok (.invokestatic 100, 3) := by decide +kernel
theorem dX11_rule_14 : decode cX11_rule 14 = .ok (.aload_n 0, 1) := by decide +kernel
theorem dX11_rule_15 : decode cX11_rule 15 = .ok (.getfield 12, 3) := by decide +kernel
theorem dX11_rule_18 : decode cX11_rule 18 = .ok (.getfield 104, 3) := by decide +kernel
theorem dX11_rule_21 : decode cX11_rule 21 = .ok (.iload_n 1, 1) := by decide +kernel
theorem dX11_rule_22 : decode cX11_rule 22 = .ok (.iload_n 2, 1) := by decide +kernel
theorem dX11_rule_23 : decode cX11_rule 23 = .ok (.invokevirtual 132, 3) := by decide +kernel
theorem dX11_rule_26 : decode cX11_rule 26 = .ok (.ireturn, 1) := by decide +kernel
set_option maxHeartbeats 4000000 in
set_option maxRecDepth 100000 in
theorem w_X11_rule (l : Launch) (hl0 : l.stackTraces = false) (G : GP) (x : XP) (a1 : Int32) (a2 : Int32) (σ : Sto) (P : Int32 → Sto → Prop) (PX : String → Sto → Prop) (h : D_X11_rule a1 a2 σ P PX) : g_Mxi l yX11_rule cX11_rule 3 (some .int) rm_X11_rule G x [.ref (g_ad G 60), .int a1, .int a2] σ P PX := by
  unfold D_X11_rule at h
  refine g_ofXi hl0 (by decide +kernel) (Nat.le_of_ble_eq_true rfl) (Or.inl (by decide)) ?_
  intro p e s m args below meth c Q ls C hM hl hret hprop hthrow
  have hx := C.1
  have hb := C.2.1
  have hl : lv_has ls 3 [(0, .ref (g_ad G 60)), (1, .int a1), (2, .int a2)] := hl
  refine lv_aload_n (pc := 0) hx hb dX11_rule_0 rfl (lv_at hl 0 rfl) ?_
  refine lv_iload_n (pc := 1) hx hb dX11_rule_1 rfl (lv_at hl 1 rfl) ?_
  refine g_cxVv (pc := 2) C hM hl.1 yv_X11_requireRule q3_34 (by decide) ce_60 rfl (w_X11_requireRule l hl0 G x a1 σ _ PX h) rfl rfl ⟨⟨by decide, by decide⟩, by decide, by decide⟩ (Nat.le_of_ble_eq_true rfl) dX11_rule_2 hprop (fun s2 H locs h hM => ?_)
  refine lv_iload_n (pc := 5) hx hb dX11_rule_5 rfl (lv_at hl 2 rfl) ?_
  refine lv_iconst (pc := 6) (v := 0) hx hb dX11_rule_6 (by decide) ?_
  refine lv_iconst (pc := 7) (v := 3) hx hb dX11_rule_7 (by decide) ?_
  refine g_cSi (pc := 8) C hM hl.1 ys_X11_isWithin q2_215 (w_X11_isWithin l G x a2 0 3 s2 _ h) rfl rfl ⟨⟨by decide, by decide⟩, by decide, by decide⟩ (Nat.le_of_ble_eq_true rfl) dX11_rule_8 (fun r8 s8 H locs h hM => ?_)
  refine g_cxSv (pc := 11) C hM hl.1 ys_X11_requireArgument q2_218 (w_X11_requireArgument l hl0 G x r8 s8 _ PX h) rfl rfl ⟨⟨by decide, by decide⟩, by decide, by decide⟩ (Nat.le_of_ble_eq_true rfl) dX11_rule_11 hprop (fun s11 H locs h hM => ?_)
  refine lv_aload_n (pc := 14) hx hb dX11_rule_14 rfl (lv_at hl 0 rfl) ?_
  refine g_get (pc := 15) (v := .ref (g_ad G 0)) C hM (by decide) ce_60 fl_RX11_12 rfl dX11_rule_15 ?_
  refine g_get (pc := 18) (v := .ref (g_ad G 1)) C hM (by decide) ce_0 fl_RX11_104 rfl dX11_rule_18 ?_
  refine lv_iload_n (pc := 21) hx hb dX11_rule_21 rfl (lv_at hl 1 rfl) ?_
  refine lv_iload_n (pc := 22) hx hb dX11_rule_22 rfl (lv_at hl 2 rfl) ?_
  refine g_cVi (pc := 23) C hM hl.1 yv_X6_cell q3_42 (by decide) ce_1 rfl (w_X6_cell l G x 1 a1 a2 s11 _ h) rfl rfl ⟨⟨by decide, by decide⟩, by decide, by decide⟩ (Nat.le_of_ble_eq_true rfl) dX11_rule_23 (fun r23 s23 H locs h hM => ?_)
  refine W.widen (k := 2) (n := 12) (by decide) (by decide) ?_
  exact hret 26 _ _ _ _ _ dX11_rule_26 (by rfl) h hM
abbrev rm_X11_condition : Room := { frames := 8, cells := 3, slots := 18, locals := 142 }
theorem dX11_condition_0 : decode cX11_condition 0 = .ok (.aload_n 0, 1) := by decide +kernel
theorem dX11_condition_1 : decode cX11_condition 1 = .ok (.iload_n 1, 1) := by decide +kernel
theorem dX11_condition_2 : decode cX11_condition 2 = .ok (.invokevirtual 124, 3) := by decide +kernel
theorem dX11_condition_5 : decode cX11_condition 5 = .ok (.iload_n 2, 1) := by decide +kernel
theorem dX11_condition_6 : decode cX11_condition 6 = .ok (.aload_n 0, 1) := by decide +kernel
theorem dX11_condition_7 : decode cX11_condition 7 = .ok (.getfield 12, 3) := by decide +kernel
theorem dX11_condition_10 : decode cX11_condition 10 = .ok (.getfield 104, 3) := by decide +kernel
theorem dX11_condition_13 : decode cX11_condition 13 = .ok (.iload_n 1, 1) := by decide +kernel
theorem dX11_condition_14 : decode cX11_condition 14 = .ok (.iconst 3, 1) := by decide +kernel
theorem dX11_condition_15 : decode cX11_condition 15 = .ok (.invokevirtual 132, 3) := by decide +kernel
theorem dX11_condition_18 : decode cX11_condition 18 = .ok (.invokestatic 92, 3) := by decide +kernel
theorem dX11_condition_21 : decode cX11_condition 21 = .ok (.iload_n 3, 1) := by decide +kernel
theorem dX11_condition_22 : decode cX11_condition 22 = .ok (.iconst 0, 1) := by decide +kernel
theorem dX11_condition_23 : decode cX11_condition 23 = .ok (.iconst 2, 1) := by decide +kernel
theorem dX11_condition_24 : decode cX11_condition 24 = .ok (.invokestatic 96, 3) := by decide +kernel
theorem dX11_condition_27 : decode cX11_condition 27 = .ok (.invokestatic 100, 3) := by decide +kernel
theorem dX11_condition_30 : decode cX11_condition 30 = .ok (.aload_n 0, 1) := by decide +kernel
theorem dX11_condition_31 : decode cX11_condition 31 = .ok (.getfield 12, 3) := by decide +kernel
theorem dX11_condition_34 : decode cX11_condition 34 = .ok (.getfield 104, 3) := by decide +kernel
theorem dX11_condition_37 : decode cX11_condition 37 = .ok (.iload_n 1, 1) := by decide +kernel
theorem dX11_condition_38 : decode cX11_condition 38 = .ok (.iload_n 2, 1) := by decide +kernel
theorem dX11_condition_39 : decode cX11_condition 39 = .ok (.iload_n 3, 1) := by decide +kernel
theorem dX11_condition_40 : decode cX11_condition 40 = .ok (.invokevirtual 152, 3) := by decide +kernel
theorem dX11_condition_43 : decode cX11_condition 43 = .ok (.ireturn, 1) := by decide +kernel
set_option maxHeartbeats 4000000 in
set_option maxRecDepth 100000 in
theorem w_X11_condition (l : Launch) (hl0 : l.stackTraces = false) (G : GP) (x : XP) (a1 : Int32) (a2 : Int32) (a3 : Int32) (σ : Sto) (P : Int32 → Sto → Prop) (PX : String → Sto → Prop) (h : D_X11_condition a1 a2 a3 σ P PX) : g_Mxi l yX11_condition cX11_condition 4 (some .int) rm_X11_condition G x [.ref (g_ad G 60), .int a1, .int a2, .int a3] σ P PX := by
  unfold D_X11_condition at h
  refine g_ofXi hl0 (by decide +kernel) (Nat.le_of_ble_eq_true rfl) (Or.inl (by decide)) ?_
  intro p e s m args below meth c Q ls C hM hl hret hprop hthrow
  have hx := C.1
  have hb := C.2.1
  have hl : lv_has ls 4 [(0, .ref (g_ad G 60)), (1, .int a1), (2, .int a2), (3, .int a3)] := hl
  refine lv_aload_n (pc := 0) hx hb dX11_condition_0 rfl (lv_at hl 0 rfl) ?_
  refine lv_iload_n (pc := 1) hx hb dX11_condition_1 rfl (lv_at hl 1 rfl) ?_
  refine g_cxVv (pc := 2) C hM hl.1 yv_X11_requireRule q3_34 (by decide) ce_60 rfl (w_X11_requireRule l hl0 G x a1 σ _ PX h) rfl rfl ⟨⟨by decide, by decide⟩, by decide, by decide⟩ (Nat.le_of_ble_eq_true rfl) dX11_condition_2 hprop (fun s2 H locs h hM => ?_)
  refine lv_iload_n (pc := 5) hx hb dX11_condition_5 rfl (lv_at hl 2 rfl) ?_
  refine lv_aload_n (pc := 6) hx hb dX11_condition_6 rfl (lv_at hl 0 rfl) ?_
  refine g_get (pc := 7) (v := .ref (g_ad G 0)) C hM (by decide) ce_60 fl_RX11_12 rfl dX11_condition_7 ?_
  refine g_get (pc := 10) (v := .ref (g_ad G 1)) C hM (by decide) ce_0 fl_RX11_104 rfl dX11_condition_10 ?_
  refine lv_iload_n (pc := 13) hx hb dX11_condition_13 rfl (lv_at hl 1 rfl) ?_
  refine lv_iconst (pc := 14) (v := 3) hx hb dX11_condition_14 (by decide) ?_
  refine g_cVi (pc := 15) C hM hl.1 yv_X6_cell q3_42 (by decide) ce_1 rfl (w_X6_cell l G x 1 a1 3 s2 _ h) rfl rfl ⟨⟨by decide, by decide⟩, by decide, by decide⟩ (Nat.le_of_ble_eq_true rfl) dX11_condition_15 (fun r15 s15 H locs h hM => ?_)
  refine g_cxSv (pc := 18) C hM hl.1 ys_X11_requireIndex q2_191 (w_X11_requireIndex l hl0 G x a2 r15 s15 _ PX h) rfl rfl ⟨⟨by decide, by decide⟩, by decide, by decide⟩ (Nat.le_of_ble_eq_true rfl) dX11_condition_18 hprop (fun s18 H locs h hM => ?_)
  refine lv_iload_n (pc := 21) hx hb dX11_condition_21 rfl (lv_at hl 3 rfl) ?_
  refine lv_iconst (pc := 22) (v := 0) hx hb dX11_condition_22 (by decide) ?_
  refine lv_iconst (pc := 23) (v := 2) hx hb dX11_condition_23 (by decide) ?_
  refine g_cSi (pc := 24) C hM hl.1 ys_X11_isWithin q2_215 (w_X11_isWithin l G x a3 0 2 s18 _ h) rfl rfl ⟨⟨by decide, by decide⟩, by decide, by decide⟩ (Nat.le_of_ble_eq_true rfl) dX11_condition_24 (fun r24 s24 H locs h hM => ?_)
  refine g_cxSv (pc := 27) C hM hl.1 ys_X11_requireArgument q2_218 (w_X11_requireArgument l hl0 G x r24 s24 _ PX h) rfl rfl ⟨⟨by decide, by decide⟩, by decide, by decide⟩ (Nat.le_of_ble_eq_true rfl) dX11_condition_27 hprop (fun s27 H locs h hM => ?_)
  refine lv_aload_n (pc := 30) hx hb dX11_condition_30 rfl (lv_at hl 0 rfl) ?_
  refine g_get (pc := 31) (v := .ref (g_ad G 0)) C hM (by decide) ce_60 fl_RX11_12 rfl dX11_condition_31 ?_
  refine g_get (pc := 34) (v := .ref (g_ad G 1)) C hM (by decide) ce_0 fl_RX11_104 rfl dX11_condition_34 ?_
  refine lv_iload_n (pc := 37) hx hb dX11_condition_37 rfl (lv_at hl 1 rfl) ?_
  refine lv_iload_n (pc := 38) hx hb dX11_condition_38 rfl (lv_at hl 2 rfl) ?_
  refine lv_iload_n (pc := 39) hx hb dX11_condition_39 rfl (lv_at hl 3 rfl) ?_
  refine g_cVi (pc := 40) C hM hl.1 yv_X6_conditionCell q3_104 (by decide) ce_1 rfl (w_X6_conditionCell l G x 1 a1 a2 a3 s27 _ h) rfl rfl ⟨⟨by decide, by decide⟩, by decide, by decide⟩ (Nat.le_of_ble_eq_true rfl) dX11_condition_40 (fun r40 s40 H locs h hM => ?_)
  refine W.widen (k := 3) (n := 18) (by decide) (by decide) ?_
  exact hret 43 _ _ _ _ _ dX11_condition_43 (by rfl) h hM
abbrev rm_X11_specialize : Room := { frames := 7, cells := 2, slots := 12, locals := 121 }
theorem dX11_specialize_0 : decode cX11_specialize 0 = .ok (.iload_n 1, 1) := by decide +kernel
theorem dX11_specialize_1 : decode cX11_specialize 1 = .ok (.bipush 6, 2) := by decide +kernel
theorem dX11_specialize_3 : decode cX11_specialize 3 = .ok (.invokestatic 92, 3) := by decide +kernel
theorem dX11_specialize_6 : decode cX11_specialize 6 = .ok (.iload_n 2, 1) := by decide +kernel
theorem dX11_specialize_7 : decode cX11_specialize 7 = .ok (.iconst 0, 1) := by decide +kernel
theorem dX11_specialize_8 : decode cX11_specialize 8 = .ok (.bipush 15, 2) := by decide +kernel
theorem dX11_specialize_10 : decode cX11_specialize 10 = .ok (.invokestatic 96, 3) := by decide +kernel
theorem dX11_specialize_13 : decode cX11_specialize 13 = .ok (.invokestatic 100, 3) := by decide +kernel
theorem dX11_specialize_16 : decode cX11_specialize 16 = .ok (.aload_n 0, 1) := by decide +kernel
theorem dX11_specialize_17 : decode cX11_specialize 17 = .ok (.getfield 22, 3) := by decide +kernel
theorem dX11_specialize_20 : decode cX11_specialize 20 = .ok (.aload_n 0, 1) := by decide +kernel
theorem dX11_specialize_21 : decode cX11_specialize 21 = .ok (.getfield 12, 3) := by decide +kernel
theorem dX11_specialize_24 : decode cX11_specialize 24 = .ok (.invokevirtual 117, 3) := by decide +kernel
theorem dX11_specialize_27 : decode cX11_specialize 27 = .ok (.aload_n 0, 1) := by decide +kernel
theorem dX11_specialize_28 : decode cX11_specialize 28 = .ok (.getfield 12, 3) := by decide +kernel
theorem dX11_specialize_31 : decode cX11_specialize 31 = .ok (.getfield 104, 3) := by decide +kernel
theorem dX11_specialize_34 : decode cX11_specialize 34 = .ok (.iload_n 1, 1) := by decide +kernel
theorem dX11_specialize_35 : decode cX11_specialize 35 = .ok (.iload_n 2, 1) := by decide +kernel
theorem dX11_specialize_36 : decode cX11_specialize 36 = .ok (.invokevirtual 155, 3) := by decide +kernel
theorem dX11_specialize_39 : decode cX11_specialize 39 = .ok (.ireturn, 1) := by decide +kernel
set_option maxHeartbeats 4000000 in
set_option maxRecDepth 100000 in
theorem w_X11_specialize (l : Launch) (hl0 : l.stackTraces = false) (G : GP) (x : XP) (a1 : Int32) (a2 : Int32) (σ : Sto) (P : Int32 → Sto → Prop) (PX : String → Sto → Prop) (h : D_X11_specialize a1 a2 σ P PX) : g_Mxi l yX11_specialize cX11_specialize 3 (some .int) rm_X11_specialize G x [.ref (g_ad G 60), .int a1, .int a2] σ P PX := by
  unfold D_X11_specialize at h
  refine g_ofXi hl0 (by decide +kernel) (Nat.le_of_ble_eq_true rfl) (Or.inl (by decide)) ?_
  intro p e s m args below meth c Q ls C hM hl hret hprop hthrow
  have hx := C.1
  have hb := C.2.1
  have hl : lv_has ls 3 [(0, .ref (g_ad G 60)), (1, .int a1), (2, .int a2)] := hl
  refine lv_iload_n (pc := 0) hx hb dX11_specialize_0 rfl (lv_at hl 1 rfl) ?_
  refine lv_bipush (pc := 1) (v := 6) hx hb dX11_specialize_1 (by decide) ?_
  refine g_cxSv (pc := 3) C hM hl.1 ys_X11_requireIndex q2_191 (w_X11_requireIndex l hl0 G x a1 6 σ _ PX h) rfl rfl ⟨⟨by decide, by decide⟩, by decide, by decide⟩ (Nat.le_of_ble_eq_true rfl) dX11_specialize_3 hprop (fun s3 H locs h hM => ?_)
  refine lv_iload_n (pc := 6) hx hb dX11_specialize_6 rfl (lv_at hl 2 rfl) ?_
  refine lv_iconst (pc := 7) (v := 0) hx hb dX11_specialize_7 (by decide) ?_
  refine lv_bipush (pc := 8) (v := 15) hx hb dX11_specialize_8 (by decide) ?_
  refine g_cSi (pc := 10) C hM hl.1 ys_X11_isWithin q2_215 (w_X11_isWithin l G x a2 0 15 s3 _ h) rfl rfl ⟨⟨by decide, by decide⟩, by decide, by decide⟩ (Nat.le_of_ble_eq_true rfl) dX11_specialize_10 (fun r10 s10 H locs h hM => ?_)
  refine g_cxSv (pc := 13) C hM hl.1 ys_X11_requireArgument q2_218 (w_X11_requireArgument l hl0 G x r10 s10 _ PX h) rfl rfl ⟨⟨by decide, by decide⟩, by decide, by decide⟩ (Nat.le_of_ble_eq_true rfl) dX11_specialize_13 hprop (fun s13 H locs h hM => ?_)
  refine lv_aload_n (pc := 16) hx hb dX11_specialize_16 rfl (lv_at hl 0 rfl) ?_
  refine g_get (pc := 17) (v := .ref (g_ad G 63)) C hM (by decide) ce_60 fl_RX11_22 rfl dX11_specialize_17 ?_
  refine lv_aload_n (pc := 20) hx hb dX11_specialize_20 rfl (lv_at hl 0 rfl) ?_
  refine g_get (pc := 21) (v := .ref (g_ad G 0)) C hM (by decide) ce_60 fl_RX11_12 rfl dX11_specialize_21 ?_
  refine g_cVv (pc := 24) C hM hl.1 yv_X3_keep q3_14 (by decide) ce_63 rfl (w_X3_keep l G x 0 s13 _ h) rfl rfl ⟨⟨by decide, by decide⟩, by decide, by decide⟩ (Nat.le_of_ble_eq_true rfl) dX11_specialize_24 (fun s24 H locs h hM => ?_)
  refine lv_aload_n (pc := 27) hx hb dX11_specialize_27 rfl (lv_at hl 0 rfl) ?_
  refine g_get (pc := 28) (v := .ref (g_ad G 0)) C hM (by decide) ce_60 fl_RX11_12 rfl dX11_specialize_28 ?_
  refine g_get (pc := 31) (v := .ref (g_ad G 1)) C hM (by decide) ce_0 fl_RX11_104 rfl dX11_specialize_31 ?_
  refine lv_iload_n (pc := 34) hx hb dX11_specialize_34 rfl (lv_at hl 1 rfl) ?_
  refine lv_iload_n (pc := 35) hx hb dX11_specialize_35 rfl (lv_at hl 2 rfl) ?_
  refine g_cVi (pc := 36) C hM hl.1 yv_X6_narrow q3_115 (by decide) ce_1 rfl (w_X6_narrow l G x 1 a1 a2 s24 _ h) rfl rfl ⟨⟨by decide, by decide⟩, by decide, by decide⟩ (Nat.le_of_ble_eq_true rfl) dX11_specialize_36 (fun r36 s36 H locs h hM => ?_)
  refine W.widen (k := 2) (n := 12) (by decide) (by decide) ?_
  exact hret 39 _ _ _ _ _ dX11_specialize_39 (by rfl) h hM
abbrev rm_X11_requireGrantKey : Room := { frames := 7, cells := 3, slots := 18, locals := 121 }
theorem dX11_requireGrantKey_0 : decode cX11_requireGrantKey 0 = .ok (.iload_n 0, 1) := by decide +kernel
theorem dX11_requireGrantKey_1 : decode cX11_requireGrantKey 1 = .ok (.bipush 10, 2) := by decide +kernel
theorem dX11_requireGrantKey_3 : decode cX11_requireGrantKey 3 = .ok (.invokestatic 92, 3) := by decide +kernel
theorem dX11_requireGrantKey_6 : decode cX11_requireGrantKey 6 = .ok (.iload_n 1, 1) := by decide +kernel
theorem dX11_requireGrantKey_7 : decode cX11_requireGrantKey 7 = .ok (.bipush 10, 2) := by decide +kernel
theorem dX11_requireGrantKey_9 : decode cX11_requireGrantKey 9 = .ok (.invokestatic 92, 3) := by decide +kernel
theorem dX11_requireGrantKey_12 : decode cX11_requireGrantKey 12 = .ok (.iload_n 2, 1) := by decide +kernel
theorem dX11_requireGrantKey_13 : decode cX11_requireGrantKey 13 = .ok (.iconst 4, 1) := by decide +kernel
theorem dX11_requireGrantKey_14 : decode cX11_requireGrantKey 14 = .ok (.invokestatic 92, 3) := by decide +kernel
theorem dX11_requireGrantKey_17 : decode cX11_requireGrantKey 17 = .ok (.return_, 1) := by decide +kernel
set_option maxHeartbeats 4000000 in
set_option maxRecDepth 100000 in
theorem w_X11_requireGrantKey (l : Launch) (hl0 : l.stackTraces = false) (G : GP) (x : XP) (a0 : Int32) (a1 : Int32) (a2 : Int32) (σ : Sto) (P : Sto → Prop) (PX : String → Sto → Prop) (h : D_X11_requireGrantKey a0 a1 a2 σ P PX) : g_Mxv l yX11_requireGrantKey cX11_requireGrantKey 3 rm_X11_requireGrantKey G x [.int a0, .int a1, .int a2] σ P PX := by
  unfold D_X11_requireGrantKey at h
  refine g_ofXv hl0 (by decide +kernel) (Nat.le_of_ble_eq_true rfl) (Or.inl (by decide)) ?_
  intro p e s m args below meth c Q ls C hM hl hret hprop hthrow
  have hx := C.1
  have hb := C.2.1
  have hl : lv_has ls 3 [(0, .int a0), (1, .int a1), (2, .int a2)] := hl
  refine lv_iload_n (pc := 0) hx hb dX11_requireGrantKey_0 rfl (lv_at hl 0 rfl) ?_
  refine lv_bipush (pc := 1) (v := 10) hx hb dX11_requireGrantKey_1 (by decide) ?_
  refine g_cxSv (pc := 3) C hM hl.1 ys_X11_requireIndex q2_191 (w_X11_requireIndex l hl0 G x a0 10 σ _ PX h) rfl rfl ⟨⟨by decide, by decide⟩, by decide, by decide⟩ (Nat.le_of_ble_eq_true rfl) dX11_requireGrantKey_3 hprop (fun s3 H locs h hM => ?_)
  refine lv_iload_n (pc := 6) hx hb dX11_requireGrantKey_6 rfl (lv_at hl 1 rfl) ?_
  refine lv_bipush (pc := 7) (v := 10) hx hb dX11_requireGrantKey_7 (by decide) ?_
  refine g_cxSv (pc := 9) C hM hl.1 ys_X11_requireIndex q2_191 (w_X11_requireIndex l hl0 G x a1 10 s3 _ PX h) rfl rfl ⟨⟨by decide, by decide⟩, by decide, by decide⟩ (Nat.le_of_ble_eq_true rfl) dX11_requireGrantKey_9 hprop (fun s9 H locs h hM => ?_)
  refine lv_iload_n (pc := 12) hx hb dX11_requireGrantKey_12 rfl (lv_at hl 2 rfl) ?_
  refine lv_iconst (pc := 13) (v := 4) hx hb dX11_requireGrantKey_13 (by decide) ?_
  refine g_cxSv (pc := 14) C hM hl.1 ys_X11_requireIndex q2_191 (w_X11_requireIndex l hl0 G x a2 4 s9 _ PX h) rfl rfl ⟨⟨by decide, by decide⟩, by decide, by decide⟩ (Nat.le_of_ble_eq_true rfl) dX11_requireGrantKey_14 hprop (fun s14 H locs h hM => ?_)
  refine W.widen (k := 3) (n := 18) (by decide) (by decide) ?_
  exact hret 17 _ _ _ _ dX11_requireGrantKey_17 h hM
abbrev rm_X11_grant : Room := { frames := 8, cells := 5, slots := 30, locals := 143 }
theorem dX11_grant_0 : decode cX11_grant 0 = .ok (.iload_n 1, 1) := by decide +kernel
theorem dX11_grant_1 : decode cX11_grant 1 = .ok (.iload_n 2, 1) := by decide +kernel
theorem dX11_grant_2 : decode cX11_grant 2 = .ok (.iload_n 3, 1) := by decide +kernel
theorem dX11_grant_3 : decode cX11_grant 3 = .ok (.invokestatic 158, 3) := by decide +kernel
theorem dX11_grant_6 : decode cX11_grant 6 = .ok (.iload_n 1, 1) := by decide +kernel
theorem dX11_grant_7 : decode cX11_grant 7 = .ok (.iload_n 2, 1) := by decide +kernel
theorem dX11_grant_8 : decode cX11_grant 8 = .ok (.if_icmp .eq 29, 3) := by decide +kernel
theorem dX11_grant_11 : decode cX11_grant 11 = .ok (.iload 4, 2) := by decide +kernel
theorem dX11_grant_13 : decode cX11_grant 13 = .ok (.iconst 0, 1) := by decide +kernel
theorem dX11_grant_14 : decode cX11_grant 14 = .ok (.iconst 5, 1) := by decide +kernel
theorem dX11_grant_15 : decode cX11_grant 15 = .ok (.invokestatic 96, 3) := by decide +kernel
theorem dX11_grant_18 : decode cX11_grant 18 = .ok (.ifCond .eq 19, 3) := by decide +kernel
theorem dX11_grant_21 : decode cX11_grant 21 = .ok (.iload 5, 2) := by decide +kernel
theorem dX11_grant_23 : decode cX11_grant 23 = .ok (.iconst 0, 1) := by decide +kernel
theorem dX11_grant_24 : decode cX11_grant 24 = .ok (.sipush 1000, 3) := by decide +kernel
theorem dX11_grant_27 : decode cX11_grant 27 = .ok (.invokestatic 96, 3) := by decide +kernel
theorem dX11_grant_30 : decode cX11_grant 30 = .ok (.ifCond .eq 7, 3) := by decide +kernel
theorem dX11_grant_33 : decode cX11_grant 33 = .ok (.iconst 1, 1) := by decide +kernel
theorem dX11_grant_34 : decode cX11_grant 34 = .ok (.goto 4, 3) := by decide +kernel
theorem dX11_grant_37 : decode cX11_grant 37 = .ok (.iconst 0, 1) := by decide +kernel
theorem dX11_grant_38 : decode cX11_grant 38 = .ok (.invokestatic 100, 3) := by decide +kernel
theorem dX11_grant_41 : decode cX11_grant 41 = .ok (.aload_n 0, 1) := by decide +kernel
theorem dX11_grant_42 : decode cX11_grant 42 = .ok (.getfield 12, 3) := by decide +kernel
theorem dX11_grant_45 : decode cX11_grant 45 = .ok (.getfield 53, 3) := by decide +kernel
theorem dX11_grant_48 : decode cX11_grant 48 = .ok (.getfield 162, 3) := by decide +kernel
theorem dX11_grant_51 : decode cX11_grant 51 = .ok (.bipush 30, 2) := by decide +kernel
theorem dX11_grant_53 : decode cX11_grant 53 = .ok (.if_icmp .lt 19, 3) := by decide +kernel
theorem dX11_grant_56 : decode cX11_grant 56 = .ok (.aload_n 0, 1) := by decide +kernel
theorem dX11_grant_57 : decode cX11_grant 57 = .ok (.getfield 12, 3) := by decide +kernel
theorem dX11_grant_60 : decode cX11_grant 60 = .ok (.getfield 53, 3) := by decide +kernel
theorem dX11_grant_63 : decode cX11_grant 63 = .ok (.iload_n 1, 1) := by decide +kernel
theorem dX11_grant_64 : decode cX11_grant 64 = .ok (.iload_n 2, 1) := by decide +kernel
theorem dX11_grant_65 : decode cX11_grant 65 = .ok (.iload_n 3, 1) := by decide +kernel
theorem dX11_grant_66 : decode cX11_grant 66 = .ok (.invokevirtual 165, 3) := by decide +kernel
theorem dX11_grant_69 : decode cX11_grant 69 = .ok (.ifCond .lt 7, 3) := by decide +kernel
theorem dX11_grant_72 : decode cX11_grant 72 = .ok (.iconst 1, 1) := by decide +kernel
theorem dX11_grant_73 : decode cX11_grant 73 = .ok (.goto 4, 3) := by decide +kernel
theorem dX11_grant_76 : decode cX11_grant 76 = .ok (.iconst 0, 1) := by decide +kernel
theorem dX11_grant_77 : decode cX11_grant 77 = .ok (.invokestatic 114, 3) := by decide +kernel
theorem dX11_grant_80 : decode cX11_grant 80 = .ok (.aload_n 0, 1) := by decide +kernel
theorem dX11_grant_81 : decode cX11_grant 81 = .ok (.getfield 22, 3) := by decide +kernel
theorem dX11_grant_84 : decode cX11_grant 84 = .ok (.aload_n 0, 1) := by decide +kernel
theorem dX11_grant_85 : decode cX11_grant 85 = .ok (.getfield 12, 3) := by decide +kernel
theorem dX11_grant_88 : decode cX11_grant 88 = .ok (.invokevirtual 117, 3) := by decide +kernel
theorem dX11_grant_91 : decode cX11_grant 91 = .ok (.aload_n 0, 1) := by decide +kernel
theorem dX11_grant_92 : decode cX11_grant 92 = .ok (.getfield 12, 3) := by decide +kernel
theorem dX11_grant_95 : decode cX11_grant 95 = .ok (.getfield 53, 3) := by decide +kernel
theorem dX11_grant_98 : decode cX11_grant 98 = .ok (.iload_n 1, 1) := by decide +kernel
theorem dX11_grant_99 : decode cX11_grant 99 = .ok (.iload_n 2, 1) := by decide +kernel
theorem dX11_grant_100 : decode cX11_grant 100 = .ok (.iload_n 3, 1) := by decide +kernel
theorem dX11_grant_101 : decode cX11_grant 101 = .ok (.iload 4, 2) := by decide +kernel
theorem dX11_grant_103 : decode cX11_grant 103 = .ok (.iload 5, 2) := by decide +kernel
theorem dX11_grant_105 : decode cX11_grant 105 = .ok (.invokevirtual 168, 3) := by decide +kernel
theorem dX11_grant_108 : decode cX11_grant 108 = .ok (.aload_n 0, 1) := by decide +kernel
theorem dX11_grant_109 : decode cX11_grant 109 = .ok (.getfield 12, 3) := by decide +kernel
theorem dX11_grant_112 : decode cX11_grant 112 = .ok (.getfield 53, 3) := by decide +kernel
theorem dX11_grant_115 : decode cX11_grant 115 = .ok (.getfield 162, 3) := by decide +kernel
theorem dX11_grant_118 : decode cX11_grant 118 = .ok (.ireturn, 1) := by decide +kernel
set_option maxHeartbeats 4000000 in
set_option maxRecDepth 100000 in
theorem w_X11_grant (l : Launch) (hl0 : l.stackTraces = false) (G : GP) (x : XP) (a1 : Int32) (a2 : Int32) (a3 : Int32) (a4 : Int32) (a5 : Int32) (σ : Sto) (P : Int32 → Sto → Prop) (PX : String → Sto → Prop) (h : D_X11_grant a1 a2 a3 a4 a5 σ P PX) : g_Mxi l yX11_grant cX11_grant 6 (some .int) rm_X11_grant G x [.ref (g_ad G 60), .int a1, .int a2, .int a3, .int a4, .int a5] σ P PX := by
  unfold D_X11_grant at h
  refine g_ofXi hl0 (by decide +kernel) (Nat.le_of_ble_eq_true rfl) (Or.inl (by decide)) ?_
  intro p e s m args below meth c Q ls C hM hl hret hprop hthrow
  have hx := C.1
  have hb := C.2.1
  have hl : lv_has ls 6 [(0, .ref (g_ad G 60)), (1, .int a1), (2, .int a2), (3, .int a3), (4, .int a4), (5, .int a5)] := hl
  have h := h (fun (t0 : Int32) (σ : Sto) => ∀ (H : Heap) (locs : List Loc) (ls : Array Slot), g_M G x σ s H locs → lv_has ls 6 [(0, .ref (g_ad G 60)), (1, .int a1), (2, .int a2), (3, .int a3), (4, .int a4), (5, .int a5)] → W p l e rm_X11_grant s m args below meth c H locs 3 18 Q (F0 m 38 ls [.int t0])) (fun (t0 : Int32) (σ : Sto) => ∀ (H : Heap) (locs : List Loc) (ls : Array Slot), g_M G x σ s H locs → lv_has ls 6 [(0, .ref (g_ad G 60)), (1, .int a1), (2, .int a2), (3, .int a3), (4, .int a4), (5, .int a5)] → W p l e rm_X11_grant s m args below meth c H locs 4 24 Q (F0 m 77 ls [.int t0]))
  have h := h (by
    intro t0 σ h  H locs ls hM hl
    refine g_cxSv (pc := 38) C hM hl.1 ys_X11_requireArgument q2_218 (w_X11_requireArgument l hl0 G x t0 σ _ PX h) rfl rfl ⟨⟨by decide, by decide⟩, by decide, by decide⟩ (Nat.le_of_ble_eq_true rfl) dX11_grant_38 hprop (fun s38 H locs h hM => ?_)
    refine lv_aload_n (pc := 41) hx hb dX11_grant_41 rfl (lv_at hl 0 rfl) ?_
    refine g_get (pc := 42) (v := .ref (g_ad G 0)) C hM (by decide) ce_60 fl_RX11_12 rfl dX11_grant_42 ?_
    refine g_get (pc := 45) (v := .ref (g_ad G 3)) C hM (by decide) ce_0 fl_RX11_53 rfl dX11_grant_45 ?_
    refine g_get (pc := 48) (v := .int (s38 3 1)) C hM (by decide) ce_3 fl_RX11_162 rfl dX11_grant_48 ?_
    refine lv_bipush (pc := 51) (v := 30) hx hb dX11_grant_51 (by decide) ?_
    refine lv_icmp_lt (pc := 53) (tgt := 72) hx hb dX11_grant_53 (by decide) (fun c53 => ?_) (fun c53 => ?_)
    · have h := h.1 c53
      refine lv_iconst (pc := 72) (v := 1) hx hb dX11_grant_72 (by decide) ?_
      refine lv_goto (pc := 73) (tgt := 77) hx hb dX11_grant_73 (by decide) ?_
      refine W.widen (k := 4) (n := 24) (by decide) (by decide) ?_
      exact h _ _ _ hM (lv_sub hl [0, 1, 2, 3, 4, 5] rfl)
    · have h := h.2 c53
      refine lv_aload_n (pc := 56) hx hb dX11_grant_56 rfl (lv_at hl 0 rfl) ?_
      refine g_get (pc := 57) (v := .ref (g_ad G 0)) C hM (by decide) ce_60 fl_RX11_12 rfl dX11_grant_57 ?_
      refine g_get (pc := 60) (v := .ref (g_ad G 3)) C hM (by decide) ce_0 fl_RX11_53 rfl dX11_grant_60 ?_
      refine lv_iload_n (pc := 63) hx hb dX11_grant_63 rfl (lv_at hl 1 rfl) ?_
      refine lv_iload_n (pc := 64) hx hb dX11_grant_64 rfl (lv_at hl 2 rfl) ?_
      refine lv_iload_n (pc := 65) hx hb dX11_grant_65 rfl (lv_at hl 3 rfl) ?_
      refine g_cVi (pc := 66) C hM hl.1 yv_X2_find q3_144 (by decide) ce_3 rfl (w_X2_find l G x 3 a1 a2 a3 s38 _ h) rfl rfl ⟨⟨by decide, by decide⟩, by decide, by decide⟩ (Nat.le_of_ble_eq_true rfl) dX11_grant_66 (fun r66 s66 H locs h hM => ?_)
      refine lv_if_lt (pc := 69) (tgt := 76) hx hb dX11_grant_69 (by decide) (fun c69 => ?_) (fun c69 => ?_)
      · have h := h.1 c69
        refine lv_iconst (pc := 76) (v := 0) hx hb dX11_grant_76 (by decide) ?_
        refine W.widen (k := 4) (n := 24) (by decide) (by decide) ?_
        exact h _ _ _ hM (lv_sub hl [0, 1, 2, 3, 4, 5] rfl)
      · have h := h.2 c69
        refine lv_iconst (pc := 72) (v := 1) hx hb dX11_grant_72 (by decide) ?_
        refine lv_goto (pc := 73) (tgt := 77) hx hb dX11_grant_73 (by decide) ?_
        refine W.widen (k := 4) (n := 24) (by decide) (by decide) ?_
        exact h _ _ _ hM (lv_sub hl [0, 1, 2, 3, 4, 5] rfl))
  have h := h (by
    intro t0 σ h  H locs ls hM hl
    refine g_cxSv (pc := 77) C hM hl.1 ys_X11_requireState q2_236 (w_X11_requireState l hl0 G x t0 σ _ PX h) rfl rfl ⟨⟨by decide, by decide⟩, by decide, by decide⟩ (Nat.le_of_ble_eq_true rfl) dX11_grant_77 hprop (fun s77 H locs h hM => ?_)
    refine lv_aload_n (pc := 80) hx hb dX11_grant_80 rfl (lv_at hl 0 rfl) ?_
    refine g_get (pc := 81) (v := .ref (g_ad G 63)) C hM (by decide) ce_60 fl_RX11_22 rfl dX11_grant_81 ?_
    refine lv_aload_n (pc := 84) hx hb dX11_grant_84 rfl (lv_at hl 0 rfl) ?_
    refine g_get (pc := 85) (v := .ref (g_ad G 0)) C hM (by decide) ce_60 fl_RX11_12 rfl dX11_grant_85 ?_
    refine g_cVv (pc := 88) C hM hl.1 yv_X3_keep q3_14 (by decide) ce_63 rfl (w_X3_keep l G x 0 s77 _ h) rfl rfl ⟨⟨by decide, by decide⟩, by decide, by decide⟩ (Nat.le_of_ble_eq_true rfl) dX11_grant_88 (fun s88 H locs h hM => ?_)
    refine lv_aload_n (pc := 91) hx hb dX11_grant_91 rfl (lv_at hl 0 rfl) ?_
    refine g_get (pc := 92) (v := .ref (g_ad G 0)) C hM (by decide) ce_60 fl_RX11_12 rfl dX11_grant_92 ?_
    refine g_get (pc := 95) (v := .ref (g_ad G 3)) C hM (by decide) ce_0 fl_RX11_53 rfl dX11_grant_95 ?_
    refine lv_iload_n (pc := 98) hx hb dX11_grant_98 rfl (lv_at hl 1 rfl) ?_
    refine lv_iload_n (pc := 99) hx hb dX11_grant_99 rfl (lv_at hl 2 rfl) ?_
    refine lv_iload_n (pc := 100) hx hb dX11_grant_100 rfl (lv_at hl 3 rfl) ?_
    refine lv_iload (pc := 101) hx hb dX11_grant_101 (lv_at hl 4 rfl) ?_
    refine lv_iload (pc := 103) hx hb dX11_grant_103 (lv_at hl 5 rfl) ?_
    refine g_cVv (pc := 105) C hM hl.1 yv_X2_put q3_148 (by decide) ce_3 rfl (w_X2_put l G x 3 a1 a2 a3 a4 a5 s88 _ h) rfl rfl ⟨⟨by decide, by decide⟩, by decide, by decide⟩ (Nat.le_of_ble_eq_true rfl) dX11_grant_105 (fun s105 H locs h hM => ?_)
    refine lv_aload_n (pc := 108) hx hb dX11_grant_108 rfl (lv_at hl 0 rfl) ?_
    refine g_get (pc := 109) (v := .ref (g_ad G 0)) C hM (by decide) ce_60 fl_RX11_12 rfl dX11_grant_109 ?_
    refine g_get (pc := 112) (v := .ref (g_ad G 3)) C hM (by decide) ce_0 fl_RX11_53 rfl dX11_grant_112 ?_
    refine g_get (pc := 115) (v := .int (s105 3 1)) C hM (by decide) ce_3 fl_RX11_162 rfl dX11_grant_115 ?_
    refine W.widen (k := 5) (n := 30) (by decide) (by decide) ?_
    exact hret 118 _ _ _ _ _ dX11_grant_118 (by rfl) h hM)
  refine lv_iload_n (pc := 0) hx hb dX11_grant_0 rfl (lv_at hl 1 rfl) ?_
  refine lv_iload_n (pc := 1) hx hb dX11_grant_1 rfl (lv_at hl 2 rfl) ?_
  refine lv_iload_n (pc := 2) hx hb dX11_grant_2 rfl (lv_at hl 3 rfl) ?_
  refine g_cxSv (pc := 3) C hM hl.1 ys_X11_requireGrantKey q3_141 (w_X11_requireGrantKey l hl0 G x a1 a2 a3 σ _ PX h) rfl rfl ⟨⟨by decide, by decide⟩, by decide, by decide⟩ (Nat.le_of_ble_eq_true rfl) dX11_grant_3 hprop (fun s3 H locs h hM => ?_)
  refine lv_iload_n (pc := 6) hx hb dX11_grant_6 rfl (lv_at hl 1 rfl) ?_
  refine lv_iload_n (pc := 7) hx hb dX11_grant_7 rfl (lv_at hl 2 rfl) ?_
  refine lv_icmp_eq (pc := 8) (tgt := 37) hx hb dX11_grant_8 (by decide) (fun c8 => ?_) (fun c8 => ?_)
  · have h := h.1 c8
    refine lv_iconst (pc := 37) (v := 0) hx hb dX11_grant_37 (by decide) ?_
    refine W.widen (k := 3) (n := 18) (by decide) (by decide) ?_
    exact h _ _ _ hM (lv_sub hl [0, 1, 2, 3, 4, 5] rfl)
  · have h := h.2 c8
    refine lv_iload (pc := 11) hx hb dX11_grant_11 (lv_at hl 4 rfl) ?_
    refine lv_iconst (pc := 13) (v := 0) hx hb dX11_grant_13 (by decide) ?_
    refine lv_iconst (pc := 14) (v := 5) hx hb dX11_grant_14 (by decide) ?_
    refine g_cSi (pc := 15) C hM hl.1 ys_X11_isWithin q2_215 (w_X11_isWithin l G x a4 0 5 s3 _ h) rfl rfl ⟨⟨by decide, by decide⟩, by decide, by decide⟩ (Nat.le_of_ble_eq_true rfl) dX11_grant_15 (fun r15 s15 H locs h hM => ?_)
    refine lv_if_eq (pc := 18) (tgt := 37) hx hb dX11_grant_18 (by decide) (fun c18 => ?_) (fun c18 => ?_)
    · have h := h.1 c18
      refine lv_iconst (pc := 37) (v := 0) hx hb dX11_grant_37 (by decide) ?_
      refine W.widen (k := 3) (n := 18) (by decide) (by decide) ?_
      exact h _ _ _ hM (lv_sub hl [0, 1, 2, 3, 4, 5] rfl)
    · have h := h.2 c18
      refine lv_iload (pc := 21) hx hb dX11_grant_21 (lv_at hl 5 rfl) ?_
      refine lv_iconst (pc := 23) (v := 0) hx hb dX11_grant_23 (by decide) ?_
      refine lv_sipush (pc := 24) (v := 1000) hx hb dX11_grant_24 (by decide) ?_
      refine g_cSi (pc := 27) C hM hl.1 ys_X11_isWithin q2_215 (w_X11_isWithin l G x a5 0 1000 s15 _ h) rfl rfl ⟨⟨by decide, by decide⟩, by decide, by decide⟩ (Nat.le_of_ble_eq_true rfl) dX11_grant_27 (fun r27 s27 H locs h hM => ?_)
      refine lv_if_eq (pc := 30) (tgt := 37) hx hb dX11_grant_30 (by decide) (fun c30 => ?_) (fun c30 => ?_)
      · have h := h.1 c30
        refine lv_iconst (pc := 37) (v := 0) hx hb dX11_grant_37 (by decide) ?_
        refine W.widen (k := 3) (n := 18) (by decide) (by decide) ?_
        exact h _ _ _ hM (lv_sub hl [0, 1, 2, 3, 4, 5] rfl)
      · have h := h.2 c30
        refine lv_iconst (pc := 33) (v := 1) hx hb dX11_grant_33 (by decide) ?_
        refine lv_goto (pc := 34) (tgt := 38) hx hb dX11_grant_34 (by decide) ?_
        refine W.widen (k := 3) (n := 18) (by decide) (by decide) ?_
        exact h _ _ _ hM (lv_sub hl [0, 1, 2, 3, 4, 5] rfl)
abbrev rm_X11_requireElement : Room := { frames := 6, cells := 1, slots := 6, locals := 100 }
theorem dX11_requireElement_0 : decode cX11_requireElement 0 = .ok (.iload_n 0, 1) := by decide +kernel
theorem dX11_requireElement_1 : decode cX11_requireElement 1 = .ok (.ifCond .ne 11, 3) := by decide +kernel
theorem dX11_requireElement_4 : decode cX11_requireElement 4 = .ok (.new 330, 3) := by decide +kernel
theorem dX11_requireElement_7 : decode cX11_requireElement 7 = .ok (.dup, 1) := by decide +kernel
theorem dX11_requireElement_8 : decode cX11_requireElement 8 = .ok (.invokespecial 332, 3) := by decide +kernel
theorem dX11_requireElement_11 : decode cX11_requireElement 11 = .ok (.athrow, 1) := by decide +kernel
theorem dX11_requireElement_12 : decode cX11_requireElement 12 = .ok (.return_, 1) := by decide +kernel
theorem th_X11_requireElement_4 : g_Th cX11_requireElement RX11 4 "java/util/NoSuchElementException" 330 332 := ⟨["java/lang/RuntimeException", "java/lang/Exception"], rfl, by decide +kernel, by decide +kernel, q3_164, q1_23, by decide +kernel, by decide +kernel, dX11_requireElement_4, dX11_requireElement_7, dX11_requireElement_8, dX11_requireElement_11⟩
set_option maxHeartbeats 4000000 in
set_option maxRecDepth 100000 in
theorem w_X11_requireElement (l : Launch) (hl0 : l.stackTraces = false) (G : GP) (x : XP) (a0 : Int32) (σ : Sto) (P : Sto → Prop) (PX : String → Sto → Prop) (h : D_X11_requireElement a0 σ P PX) : g_Mxv l yX11_requireElement cX11_requireElement 1 rm_X11_requireElement G x [.int a0] σ P PX := by
  unfold D_X11_requireElement at h
  refine g_ofXv hl0 (by decide +kernel) (Nat.le_of_ble_eq_true rfl) (Or.inl (by decide)) ?_
  intro p e s m args below meth c Q ls C hM hl hret hprop hthrow
  have hx := C.1
  have hb := C.2.1
  have hl : lv_has ls 1 [(0, .int a0)] := hl
  refine lv_iload_n (pc := 0) hx hb dX11_requireElement_0 rfl (lv_at hl 0 rfl) ?_
  refine lv_if_ne (pc := 1) (tgt := 12) hx hb dX11_requireElement_1 (by decide) (fun c1 => ?_) (fun c1 => ?_)
  · have h := h.2 c1
    refine W.widen (k := 1) (n := 6) (by decide) (by decide) ?_
    exact hret 12 _ _ _ _ dX11_requireElement_12 h hM
  · have h := h.1 c1
    exact hthrow th_X11_requireElement_4 h hM hl.1 (Nat.le_of_ble_eq_true rfl) ⟨by decide, by decide⟩
abbrev rm_X11_revoke : Room := { frames := 8, cells := 4, slots := 24, locals := 143 }
theorem dX11_revoke_0 : decode cX11_revoke 0 = .ok (.iload_n 1, 1) := by decide +kernel
theorem dX11_revoke_1 : decode cX11_revoke 1 = .ok (.iload_n 2, 1) := by decide +kernel
theorem dX11_revoke_2 : decode cX11_revoke 2 = .ok (.iload_n 3, 1) := by decide +kernel
theorem dX11_revoke_3 : decode cX11_revoke 3 = .ok (.invokestatic 158, 3) := by decide +kernel
theorem dX11_revoke_6 : decode cX11_revoke 6 = .ok (.aload_n 0, 1) := by decide +kernel
theorem dX11_revoke_7 : decode cX11_revoke 7 = .ok (.getfield 12, 3) := by decide +kernel
theorem dX11_revoke_10 : decode cX11_revoke 10 = .ok (.getfield 53, 3) := by decide +kernel
theorem dX11_revoke_13 : decode cX11_revoke 13 = .ok (.iload_n 1, 1) := by decide +kernel
theorem dX11_revoke_14 : decode cX11_revoke 14 = .ok (.iload_n 2, 1) := by decide +kernel
theorem dX11_revoke_15 : decode cX11_revoke 15 = .ok (.iload_n 3, 1) := by decide +kernel
theorem dX11_revoke_16 : decode cX11_revoke 16 = .ok (.invokevirtual 165, 3) := by decide +kernel
theorem dX11_revoke_19 : decode cX11_revoke 19 = .ok (.istore 4, 2) := by decide +kernel
theorem dX11_revoke_21 : decode cX11_revoke 21 = .ok (.iload 4, 2) := by decide +kernel
theorem dX11_revoke_23 : decode cX11_revoke 23 = .ok (.ifCond .lt 7, 3) := by decide +kernel
theorem dX11_revoke_26 : decode cX11_revoke 26 = .ok (.iconst 1, 1) := by decide +kernel
theorem dX11_revoke_27 : decode cX11_revoke 27 = .ok (.goto 4, 3) := by decide +kernel
theorem dX11_revoke_30 : decode cX11_revoke 30 = .ok (.iconst 0, 1) := by decide +kernel
theorem dX11_revoke_31 : decode cX11_revoke 31 = .ok (.invokestatic 172, 3) := by decide +kernel
theorem dX11_revoke_34 : decode cX11_revoke 34 = .ok (.aload_n 0, 1) := by decide +kernel
theorem dX11_revoke_35 : decode cX11_revoke 35 = .ok (.getfield 22, 3) := by decide +kernel
theorem dX11_revoke_38 : decode cX11_revoke 38 = .ok (.aload_n 0, 1) := by decide +kernel
theorem dX11_revoke_39 : decode cX11_revoke 39 = .ok (.getfield 12, 3) := by decide +kernel
theorem dX11_revoke_42 : decode cX11_revoke 42 = .ok (.invokevirtual 117, 3) := by decide +kernel
theorem dX11_revoke_45 : decode cX11_revoke 45 = .ok (.aload_n 0, 1) := by decide +kernel
theorem dX11_revoke_46 : decode cX11_revoke 46 = .ok (.getfield 12, 3) := by decide +kernel
theorem dX11_revoke_49 : decode cX11_revoke 49 = .ok (.getfield 53, 3) := by decide +kernel
theorem dX11_revoke_52 : decode cX11_revoke 52 = .ok (.iload 4, 2) := by decide +kernel
theorem dX11_revoke_54 : decode cX11_revoke 54 = .ok (.invokevirtual 175, 3) := by decide +kernel
theorem dX11_revoke_57 : decode cX11_revoke 57 = .ok (.aload_n 0, 1) := by decide +kernel
theorem dX11_revoke_58 : decode cX11_revoke 58 = .ok (.getfield 12, 3) := by decide +kernel
theorem dX11_revoke_61 : decode cX11_revoke 61 = .ok (.getfield 53, 3) := by decide +kernel
theorem dX11_revoke_64 : decode cX11_revoke 64 = .ok (.getfield 162, 3) := by decide +kernel
theorem dX11_revoke_67 : decode cX11_revoke 67 = .ok (.ireturn, 1) := by decide +kernel
set_option maxHeartbeats 4000000 in
set_option maxRecDepth 100000 in
theorem w_X11_revoke (l : Launch) (hl0 : l.stackTraces = false) (G : GP) (x : XP) (a1 : Int32) (a2 : Int32) (a3 : Int32) (σ : Sto) (P : Int32 → Sto → Prop) (PX : String → Sto → Prop) (h : D_X11_revoke a1 a2 a3 σ P PX) : g_Mxi l yX11_revoke cX11_revoke 5 (some .int) rm_X11_revoke G x [.ref (g_ad G 60), .int a1, .int a2, .int a3] σ P PX := by
  unfold D_X11_revoke at h
  refine g_ofXi hl0 (by decide +kernel) (Nat.le_of_ble_eq_true rfl) (Or.inl (by decide)) ?_
  intro p e s m args below meth c Q ls C hM hl hret hprop hthrow
  have hx := C.1
  have hb := C.2.1
  have hl : lv_has ls 5 [(0, .ref (g_ad G 60)), (1, .int a1), (2, .int a2), (3, .int a3)] := hl
  have h := h (fun (v4 : Int32) (t0 : Int32) (σ : Sto) => ∀ (H : Heap) (locs : List Loc) (ls : Array Slot), g_M G x σ s H locs → lv_has ls 5 [(0, .ref (g_ad G 60)), (4, .int v4)] → W p l e rm_X11_revoke s m args below meth c H locs 3 18 Q (F0 m 31 ls [.int t0]))
  have h := h (by
    intro v4 t0 σ h  H locs ls hM hl
    refine g_cxSv (pc := 31) C hM hl.1 ys_X11_requireElement q3_161 (w_X11_requireElement l hl0 G x t0 σ _ PX h) rfl rfl ⟨⟨by decide, by decide⟩, by decide, by decide⟩ (Nat.le_of_ble_eq_true rfl) dX11_revoke_31 hprop (fun s31 H locs h hM => ?_)
    refine lv_aload_n (pc := 34) hx hb dX11_revoke_34 rfl (lv_at hl 0 rfl) ?_
    refine g_get (pc := 35) (v := .ref (g_ad G 63)) C hM (by decide) ce_60 fl_RX11_22 rfl dX11_revoke_35 ?_
    refine lv_aload_n (pc := 38) hx hb dX11_revoke_38 rfl (lv_at hl 0 rfl) ?_
    refine g_get (pc := 39) (v := .ref (g_ad G 0)) C hM (by decide) ce_60 fl_RX11_12 rfl dX11_revoke_39 ?_
    refine g_cVv (pc := 42) C hM hl.1 yv_X3_keep q3_14 (by decide) ce_63 rfl (w_X3_keep l G x 0 s31 _ h) rfl rfl ⟨⟨by decide, by decide⟩, by decide, by decide⟩ (Nat.le_of_ble_eq_true rfl) dX11_revoke_42 (fun s42 H locs h hM => ?_)
    refine lv_aload_n (pc := 45) hx hb dX11_revoke_45 rfl (lv_at hl 0 rfl) ?_
    refine g_get (pc := 46) (v := .ref (g_ad G 0)) C hM (by decide) ce_60 fl_RX11_12 rfl dX11_revoke_46 ?_
    refine g_get (pc := 49) (v := .ref (g_ad G 3)) C hM (by decide) ce_0 fl_RX11_53 rfl dX11_revoke_49 ?_
    refine lv_iload (pc := 52) hx hb dX11_revoke_52 (lv_at hl 1 rfl) ?_
    refine g_cVv (pc := 54) C hM hl.1 yv_X2_drop q3_179 (by decide) ce_3 rfl (w_X2_drop l G x 3 v4 s42 _ h) rfl rfl ⟨⟨by decide, by decide⟩, by decide, by decide⟩ (Nat.le_of_ble_eq_true rfl) dX11_revoke_54 (fun s54 H locs h hM => ?_)
    refine lv_aload_n (pc := 57) hx hb dX11_revoke_57 rfl (lv_at hl 0 rfl) ?_
    refine g_get (pc := 58) (v := .ref (g_ad G 0)) C hM (by decide) ce_60 fl_RX11_12 rfl dX11_revoke_58 ?_
    refine g_get (pc := 61) (v := .ref (g_ad G 3)) C hM (by decide) ce_0 fl_RX11_53 rfl dX11_revoke_61 ?_
    refine g_get (pc := 64) (v := .int (s54 3 1)) C hM (by decide) ce_3 fl_RX11_162 rfl dX11_revoke_64 ?_
    refine W.widen (k := 4) (n := 24) (by decide) (by decide) ?_
    exact hret 67 _ _ _ _ _ dX11_revoke_67 (by rfl) h hM)
  refine lv_iload_n (pc := 0) hx hb dX11_revoke_0 rfl (lv_at hl 1 rfl) ?_
  refine lv_iload_n (pc := 1) hx hb dX11_revoke_1 rfl (lv_at hl 2 rfl) ?_
  refine lv_iload_n (pc := 2) hx hb dX11_revoke_2 rfl (lv_at hl 3 rfl) ?_
  refine g_cxSv (pc := 3) C hM hl.1 ys_X11_requireGrantKey q3_141 (w_X11_requireGrantKey l hl0 G x a1 a2 a3 σ _ PX h) rfl rfl ⟨⟨by decide, by decide⟩, by decide, by decide⟩ (Nat.le_of_ble_eq_true rfl) dX11_revoke_3 hprop (fun s3 H locs h hM => ?_)
  refine lv_aload_n (pc := 6) hx hb dX11_revoke_6 rfl (lv_at hl 0 rfl) ?_
  refine g_get (pc := 7) (v := .ref (g_ad G 0)) C hM (by decide) ce_60 fl_RX11_12 rfl dX11_revoke_7 ?_
  refine g_get (pc := 10) (v := .ref (g_ad G 3)) C hM (by decide) ce_0 fl_RX11_53 rfl dX11_revoke_10 ?_
  refine lv_iload_n (pc := 13) hx hb dX11_revoke_13 rfl (lv_at hl 1 rfl) ?_
  refine lv_iload_n (pc := 14) hx hb dX11_revoke_14 rfl (lv_at hl 2 rfl) ?_
  refine lv_iload_n (pc := 15) hx hb dX11_revoke_15 rfl (lv_at hl 3 rfl) ?_
  refine g_cVi (pc := 16) C hM hl.1 yv_X2_find q3_144 (by decide) ce_3 rfl (w_X2_find l G x 3 a1 a2 a3 s3 _ h) rfl rfl ⟨⟨by decide, by decide⟩, by decide, by decide⟩ (Nat.le_of_ble_eq_true rfl) dX11_revoke_16 (fun r16 s16 H locs h hM => ?_)
  refine lv_istore (pc := 19) (lv' := [(4, .int r16), (0, .ref (g_ad G 60)), (1, .int a1), (2, .int a2), (3, .int a3)]) hx hb dX11_revoke_19 hl (by decide) rfl (fun ls hl => ?_)
  refine lv_iload (pc := 21) hx hb dX11_revoke_21 (lv_at hl 0 rfl) ?_
  refine lv_if_lt (pc := 23) (tgt := 30) hx hb dX11_revoke_23 (by decide) (fun c23 => ?_) (fun c23 => ?_)
  · have h := h.1 c23
    refine lv_iconst (pc := 30) (v := 0) hx hb dX11_revoke_30 (by decide) ?_
    refine W.widen (k := 3) (n := 18) (by decide) (by decide) ?_
    exact h _ _ _ hM (lv_sub hl [1, 0] rfl)
  · have h := h.2 c23
    refine lv_iconst (pc := 26) (v := 1) hx hb dX11_revoke_26 (by decide) ?_
    refine lv_goto (pc := 27) (tgt := 31) hx hb dX11_revoke_27 (by decide) ?_
    refine W.widen (k := 3) (n := 18) (by decide) (by decide) ?_
    exact h _ _ _ hM (lv_sub hl [1, 0] rfl)
abbrev rm_X11_grantCount : Room := { frames := 2, cells := 0, slots := 0, locals := 45 }
theorem dX11_grantCount_0 : decode cX11_grantCount 0 = .ok (.iload_n 1, 1) := by decide +kernel
theorem dX11_grantCount_1 : decode cX11_grantCount 1 = .ok (.ifCond .eq 20, 3) := by decide +kernel
theorem dX11_grantCount_4 : decode cX11_grantCount 4 = .ok (.aload_n 0, 1) := by decide +kernel
theorem dX11_grantCount_5 : decode cX11_grantCount 5 = .ok (.getfield 12, 3) := by decide +kernel
theorem dX11_grantCount_8 : decode cX11_grantCount 8 = .ok (.getfield 53, 3) := by decide +kernel
theorem dX11_grantCount_11 : decode cX11_grantCount 11 = .ok (.aload_n 0, 1) := by decide +kernel
theorem dX11_grantCount_12 : decode cX11_grantCount 12 = .ok (.getfield 176, 3) := by decide +kernel
theorem dX11_grantCount_15 : decode cX11_grantCount 15 = .ok (.invokevirtual 179, 3) := by decide +kernel
theorem dX11_grantCount_18 : decode cX11_grantCount 18 = .ok (.goto 13, 3) := by decide +kernel
theorem dX11_grantCount_21 : decode cX11_grantCount 21 = .ok (.aload_n 0, 1) := by decide +kernel
theorem dX11_grantCount_22 : decode cX11_grantCount 22 = .ok (.getfield 12, 3) := by decide +kernel
theorem dX11_grantCount_25 : decode cX11_grantCount 25 = .ok (.getfield 53, 3) := by decide +kernel
theorem dX11_grantCount_28 : decode cX11_grantCount 28 = .ok (.getfield 162, 3) := by decide +kernel
theorem dX11_grantCount_31 : decode cX11_grantCount 31 = .ok (.ireturn, 1) := by decide +kernel
set_option maxHeartbeats 4000000 in
set_option maxRecDepth 100000 in
theorem w_X11_grantCount (l : Launch) (G : GP) (x : XP) (a1 : Int32) (σ : Sto) (P : Int32 → Sto → Prop) (h : D_X11_grantCount a1 σ P) : g_Meti l yX11_grantCount cX11_grantCount 2 (some .int) rm_X11_grantCount G x [.ref (g_ad G 60), .int a1] σ P := by
  unfold D_X11_grantCount at h
  refine g_ofWi (by decide +kernel) (Nat.le_of_ble_eq_true rfl) ?_
  intro p e s m args below meth c Q ls C hM hl hret
  have hx := C.1
  have hb := C.2.1
  have hl : lv_has ls 2 [(0, .ref (g_ad G 60)), (1, .int a1)] := hl
  refine lv_iload_n (pc := 0) hx hb dX11_grantCount_0 rfl (lv_at hl 1 rfl) ?_
  refine lv_if_eq (pc := 1) (tgt := 21) hx hb dX11_grantCount_1 (by decide) (fun c1 => ?_) (fun c1 => ?_)
  · have h := h.1 c1
    refine lv_aload_n (pc := 21) hx hb dX11_grantCount_21 rfl (lv_at hl 0 rfl) ?_
    refine g_get (pc := 22) (v := .ref (g_ad G 0)) C hM (by decide) ce_60 fl_RX11_12 rfl dX11_grantCount_22 ?_
    refine g_get (pc := 25) (v := .ref (g_ad G 3)) C hM (by decide) ce_0 fl_RX11_53 rfl dX11_grantCount_25 ?_
    refine g_get (pc := 28) (v := .int (σ 3 1)) C hM (by decide) ce_3 fl_RX11_162 rfl dX11_grantCount_28 ?_
    exact hret 31 _ _ _ _ _ dX11_grantCount_31 (by rfl) h hM
  · have h := h.2 c1
    refine lv_aload_n (pc := 4) hx hb dX11_grantCount_4 rfl (lv_at hl 0 rfl) ?_
    refine g_get (pc := 5) (v := .ref (g_ad G 0)) C hM (by decide) ce_60 fl_RX11_12 rfl dX11_grantCount_5 ?_
    refine g_get (pc := 8) (v := .ref (g_ad G 3)) C hM (by decide) ce_0 fl_RX11_53 rfl dX11_grantCount_8 ?_
    refine lv_aload_n (pc := 11) hx hb dX11_grantCount_11 rfl (lv_at hl 0 rfl) ?_
    refine g_get (pc := 12) (v := .int (σ 60 14)) C hM (by decide) ce_60 fl_RX11_176 rfl dX11_grantCount_12 ?_
    refine g_cVi (pc := 15) C hM hl.1 yv_X2_countValid q2_62 (by decide) ce_3 rfl (w_X2_countValid l G x 3 (σ 60 14) σ _ h) rfl rfl ⟨⟨by decide, by decide⟩, by decide, by decide⟩ (Nat.le_of_ble_eq_true rfl) dX11_grantCount_15 (fun r15 s15 H locs h hM => ?_)
    refine lv_goto (pc := 18) (tgt := 31) hx hb dX11_grantCount_18 (by decide) ?_
    exact hret 31 _ _ _ _ _ dX11_grantCount_31 (by rfl) h hM
abbrev rm_X11_grantAt : Room := { frames := 7, cells := 2, slots := 12, locals := 121 }
theorem dX11_grantAt_0 : decode cX11_grantAt 0 = .ok (.iload_n 1, 1) := by decide +kernel
theorem dX11_grantAt_1 : decode cX11_grantAt 1 = .ok (.aload_n 0, 1) := by decide +kernel
theorem dX11_grantAt_2 : decode cX11_grantAt 2 = .ok (.getfield 12, 3) := by decide +kernel
theorem dX11_grantAt_5 : decode cX11_grantAt 5 = .ok (.getfield 53, 3) := by decide +kernel
theorem dX11_grantAt_8 : decode cX11_grantAt 8 = .ok (.getfield 162, 3) := by decide +kernel
theorem dX11_grantAt_11 : decode cX11_grantAt 11 = .ok (.invokestatic 92, 3) := by decide +kernel
theorem dX11_grantAt_14 : decode cX11_grantAt 14 = .ok (.iload_n 2, 1) := by decide +kernel
theorem dX11_grantAt_15 : decode cX11_grantAt 15 = .ok (.iconst 0, 1) := by decide +kernel
theorem dX11_grantAt_16 : decode cX11_grantAt 16 = .ok (.iconst 4, 1) := by decide +kernel
theorem dX11_grantAt_17 : decode cX11_grantAt 17 = .ok (.invokestatic 96, 3) := by decide +kernel
theorem dX11_grantAt_20 : decode cX11_grantAt 20 = .ok (.invokestatic 100, 3) := by decide +kernel
theorem dX11_grantAt_23 : decode cX11_grantAt 23 = .ok (.aload_n 0, 1) := by decide +kernel
theorem dX11_grantAt_24 : decode cX11_grantAt 24 = .ok (.getfield 12, 3) := by decide +kernel
theorem dX11_grantAt_27 : decode cX11_grantAt 27 = .ok (.getfield 53, 3) := by decide +kernel
theorem dX11_grantAt_30 : decode cX11_grantAt 30 = .ok (.iload_n 1, 1) := by decide +kernel
theorem dX11_grantAt_31 : decode cX11_grantAt 31 = .ok (.iload_n 2, 1) := by decide +kernel
theorem dX11_grantAt_32 : decode cX11_grantAt 32 = .ok (.invokevirtual 183, 3) := by decide +kernel
theorem dX11_grantAt_35 : decode cX11_grantAt 35 = .ok (.ireturn, 1) := by decide +kernel
set_option maxHeartbeats 4000000 in
set_option maxRecDepth 100000 in
theorem w_X11_grantAt (l : Launch) (hl0 : l.stackTraces = false) (G : GP) (x : XP) (a1 : Int32) (a2 : Int32) (σ : Sto) (P : Int32 → Sto → Prop) (PX : String → Sto → Prop) (h : D_X11_grantAt a1 a2 σ P PX) : g_Mxi l yX11_grantAt cX11_grantAt 3 (some .int) rm_X11_grantAt G x [.ref (g_ad G 60), .int a1, .int a2] σ P PX := by
  unfold D_X11_grantAt at h
  refine g_ofXi hl0 (by decide +kernel) (Nat.le_of_ble_eq_true rfl) (Or.inl (by decide)) ?_
  intro p e s m args below meth c Q ls C hM hl hret hprop hthrow
  have hx := C.1
  have hb := C.2.1
  have hl : lv_has ls 3 [(0, .ref (g_ad G 60)), (1, .int a1), (2, .int a2)] := hl
  refine lv_iload_n (pc := 0) hx hb dX11_grantAt_0 rfl (lv_at hl 1 rfl) ?_
  refine lv_aload_n (pc := 1) hx hb dX11_grantAt_1 rfl (lv_at hl 0 rfl) ?_
  refine g_get (pc := 2) (v := .ref (g_ad G 0)) C hM (by decide) ce_60 fl_RX11_12 rfl dX11_grantAt_2 ?_
  refine g_get (pc := 5) (v := .ref (g_ad G 3)) C hM (by decide) ce_0 fl_RX11_53 rfl dX11_grantAt_5 ?_
  refine g_get (pc := 8) (v := .int (σ 3 1)) C hM (by decide) ce_3 fl_RX11_162 rfl dX11_grantAt_8 ?_
  refine g_cxSv (pc := 11) C hM hl.1 ys_X11_requireIndex q2_191 (w_X11_requireIndex l hl0 G x a1 (σ 3 1) σ _ PX h) rfl rfl ⟨⟨by decide, by decide⟩, by decide, by decide⟩ (Nat.le_of_ble_eq_true rfl) dX11_grantAt_11 hprop (fun s11 H locs h hM => ?_)
  refine lv_iload_n (pc := 14) hx hb dX11_grantAt_14 rfl (lv_at hl 2 rfl) ?_
  refine lv_iconst (pc := 15) (v := 0) hx hb dX11_grantAt_15 (by decide) ?_
  refine lv_iconst (pc := 16) (v := 4) hx hb dX11_grantAt_16 (by decide) ?_
  refine g_cSi (pc := 17) C hM hl.1 ys_X11_isWithin q2_215 (w_X11_isWithin l G x a2 0 4 s11 _ h) rfl rfl ⟨⟨by decide, by decide⟩, by decide, by decide⟩ (Nat.le_of_ble_eq_true rfl) dX11_grantAt_17 (fun r17 s17 H locs h hM => ?_)
  refine g_cxSv (pc := 20) C hM hl.1 ys_X11_requireArgument q2_218 (w_X11_requireArgument l hl0 G x r17 s17 _ PX h) rfl rfl ⟨⟨by decide, by decide⟩, by decide, by decide⟩ (Nat.le_of_ble_eq_true rfl) dX11_grantAt_20 hprop (fun s20 H locs h hM => ?_)
  refine lv_aload_n (pc := 23) hx hb dX11_grantAt_23 rfl (lv_at hl 0 rfl) ?_
  refine g_get (pc := 24) (v := .ref (g_ad G 0)) C hM (by decide) ce_60 fl_RX11_12 rfl dX11_grantAt_24 ?_
  refine g_get (pc := 27) (v := .ref (g_ad G 3)) C hM (by decide) ce_0 fl_RX11_53 rfl dX11_grantAt_27 ?_
  refine lv_iload_n (pc := 30) hx hb dX11_grantAt_30 rfl (lv_at hl 1 rfl) ?_
  refine lv_iload_n (pc := 31) hx hb dX11_grantAt_31 rfl (lv_at hl 2 rfl) ?_
  refine g_cVi (pc := 32) C hM hl.1 yv_X2_cell q3_190 (by decide) ce_3 rfl (w_X2_cell l G x 3 a1 a2 s20 _ h) rfl rfl ⟨⟨by decide, by decide⟩, by decide, by decide⟩ (Nat.le_of_ble_eq_true rfl) dX11_grantAt_32 (fun r32 s32 H locs h hM => ?_)
  refine W.widen (k := 2) (n := 12) (by decide) (by decide) ?_
  exact hret 35 _ _ _ _ _ dX11_grantAt_35 (by rfl) h hM
abbrev rm_X11_policies : Room := { frames := 7, cells := 1, slots := 6, locals := 121 }
theorem dX11_policies_0 : decode cX11_policies 0 = .ok (.iload_n 1, 1) := by decide +kernel
theorem dX11_policies_1 : decode cX11_policies 1 = .ok (.bipush 10, 2) := by decide +kernel
theorem dX11_policies_3 : decode cX11_policies 3 = .ok (.invokestatic 92, 3) := by decide +kernel
theorem dX11_policies_6 : decode cX11_policies 6 = .ok (.aload_n 0, 1) := by decide +kernel
theorem dX11_policies_7 : decode cX11_policies 7 = .ok (.getfield 60, 3) := by decide +kernel
theorem dX11_policies_10 : decode cX11_policies 10 = .ok (.iload_n 1, 1) := by decide +kernel
theorem dX11_policies_11 : decode cX11_policies 11 = .ok (.aload_n 0, 1) := by decide +kernel
theorem dX11_policies_12 : decode cX11_policies 12 = .ok (.getfield 176, 3) := by decide +kernel
theorem dX11_policies_15 : decode cX11_policies 15 = .ok (.invokevirtual 184, 3) := by decide +kernel
theorem dX11_policies_18 : decode cX11_policies 18 = .ok (.ireturn, 1) := by decide +kernel
set_option maxHeartbeats 4000000 in
set_option maxRecDepth 100000 in
theorem w_X11_policies (l : Launch) (hl0 : l.stackTraces = false) (G : GP) (x : XP) (a1 : Int32) (σ : Sto) (P : Int32 → Sto → Prop) (PX : String → Sto → Prop) (h : D_X11_policies a1 σ P PX) : g_Mxi l yX11_policies cX11_policies 2 (some .int) rm_X11_policies G x [.ref (g_ad G 60), .int a1] σ P PX := by
  unfold D_X11_policies at h
  refine g_ofXi hl0 (by decide +kernel) (Nat.le_of_ble_eq_true rfl) (Or.inl (by decide)) ?_
  intro p e s m args below meth c Q ls C hM hl hret hprop hthrow
  have hx := C.1
  have hb := C.2.1
  have hl : lv_has ls 2 [(0, .ref (g_ad G 60)), (1, .int a1)] := hl
  refine lv_iload_n (pc := 0) hx hb dX11_policies_0 rfl (lv_at hl 1 rfl) ?_
  refine lv_bipush (pc := 1) (v := 10) hx hb dX11_policies_1 (by decide) ?_
  refine g_cxSv (pc := 3) C hM hl.1 ys_X11_requireIndex q2_191 (w_X11_requireIndex l hl0 G x a1 10 σ _ PX h) rfl rfl ⟨⟨by decide, by decide⟩, by decide, by decide⟩ (Nat.le_of_ble_eq_true rfl) dX11_policies_3 hprop (fun s3 H locs h hM => ?_)
  refine lv_aload_n (pc := 6) hx hb dX11_policies_6 rfl (lv_at hl 0 rfl) ?_
  refine g_get (pc := 7) (v := .ref (g_ad G 77)) C hM (by decide) ce_60 fl_RX11_60 rfl dX11_policies_7 ?_
  refine lv_iload_n (pc := 10) hx hb dX11_policies_10 rfl (lv_at hl 1 rfl) ?_
  refine lv_aload_n (pc := 11) hx hb dX11_policies_11 rfl (lv_at hl 0 rfl) ?_
  refine g_get (pc := 12) (v := .int (s3 60 14)) C hM (by decide) ce_60 fl_RX11_176 rfl dX11_policies_12 ?_
  refine g_cVi (pc := 15) C hM hl.1 yv_X1_usable q3_198 (by decide) ce_77 rfl (w_X1_usable l G x a1 (s3 60 14) s3 _ h) rfl rfl ⟨⟨by decide, by decide⟩, by decide, by decide⟩ (Nat.le_of_ble_eq_true rfl) dX11_policies_15 (fun r15 s15 H locs h hM => ?_)
  refine W.widen (k := 1) (n := 6) (by decide) (by decide) ?_
  exact hret 18 _ _ _ _ _ dX11_policies_18 (by rfl) h hM
abbrev rm_X11_chainLength : Room := { frames := 7, cells := 3, slots := 18, locals := 121 }
theorem dX11_chainLength_0 : decode cX11_chainLength 0 = .ok (.iload_n 1, 1) := by decide +kernel
theorem dX11_chainLength_1 : decode cX11_chainLength 1 = .ok (.bipush 10, 2) := by decide +kernel
theorem dX11_chainLength_3 : decode cX11_chainLength 3 = .ok (.invokestatic 92, 3) := by decide +kernel
theorem dX11_chainLength_6 : decode cX11_chainLength 6 = .ok (.iload_n 2, 1) := by decide +kernel
theorem dX11_chainLength_7 : decode cX11_chainLength 7 = .ok (.iconst 4, 1) := by decide +kernel
theorem dX11_chainLength_8 : decode cX11_chainLength 8 = .ok (.invokestatic 92, 3) := by decide +kernel
theorem dX11_chainLength_11 : decode cX11_chainLength 11 = .ok (.aload_n 0, 1) := by decide +kernel
theorem dX11_chainLength_12 : decode cX11_chainLength 12 = .ok (.getfield 60, 3) := by decide +kernel
theorem dX11_chainLength_15 : decode cX11_chainLength 15 = .ok (.iload_n 1, 1) := by decide +kernel
theorem dX11_chainLength_16 : decode cX11_chainLength 16 = .ok (.iload_n 2, 1) := by decide +kernel
theorem dX11_chainLength_17 : decode cX11_chainLength 17 = .ok (.aload_n 0, 1) := by decide +kernel
theorem dX11_chainLength_18 : decode cX11_chainLength 18 = .ok (.getfield 176, 3) := by decide +kernel
theorem dX11_chainLength_21 : decode cX11_chainLength 21 = .ok (.invokevirtual 187, 3) := by decide +kernel
theorem dX11_chainLength_24 : decode cX11_chainLength 24 = .ok (.istore_n 3, 1) := by decide +kernel
theorem dX11_chainLength_25 : decode cX11_chainLength 25 = .ok (.iload_n 3, 1) := by decide +kernel
theorem dX11_chainLength_26 : decode cX11_chainLength 26 = .ok (.ifCond .lt 7, 3) := by decide +kernel
theorem dX11_chainLength_29 : decode cX11_chainLength 29 = .ok (.iconst 1, 1) := by decide +kernel
theorem dX11_chainLength_30 : decode cX11_chainLength 30 = .ok (.goto 4, 3) := by decide +kernel
theorem dX11_chainLength_33 : decode cX11_chainLength 33 = .ok (.iconst 0, 1) := by decide +kernel
theorem dX11_chainLength_34 : decode cX11_chainLength 34 = .ok (.invokestatic 172, 3) := by decide +kernel
theorem dX11_chainLength_37 : decode cX11_chainLength 37 = .ok (.iload_n 3, 1) := by decide +kernel
theorem dX11_chainLength_38 : decode cX11_chainLength 38 = .ok (.ireturn, 1) := by decide +kernel
set_option maxHeartbeats 4000000 in
set_option maxRecDepth 100000 in
theorem w_X11_chainLength (l : Launch) (hl0 : l.stackTraces = false) (G : GP) (x : XP) (a1 : Int32) (a2 : Int32) (σ : Sto) (P : Int32 → Sto → Prop) (PX : String → Sto → Prop) (h : D_X11_chainLength a1 a2 σ P PX) : g_Mxi l yX11_chainLength cX11_chainLength 4 (some .int) rm_X11_chainLength G x [.ref (g_ad G 60), .int a1, .int a2] σ P PX := by
  unfold D_X11_chainLength at h
  refine g_ofXi hl0 (by decide +kernel) (Nat.le_of_ble_eq_true rfl) (Or.inl (by decide)) ?_
  intro p e s m args below meth c Q ls C hM hl hret hprop hthrow
  have hx := C.1
  have hb := C.2.1
  have hl : lv_has ls 4 [(0, .ref (g_ad G 60)), (1, .int a1), (2, .int a2)] := hl
  refine lv_iload_n (pc := 0) hx hb dX11_chainLength_0 rfl (lv_at hl 1 rfl) ?_
  refine lv_bipush (pc := 1) (v := 10) hx hb dX11_chainLength_1 (by decide) ?_
  refine g_cxSv (pc := 3) C hM hl.1 ys_X11_requireIndex q2_191 (w_X11_requireIndex l hl0 G x a1 10 σ _ PX h) rfl rfl ⟨⟨by decide, by decide⟩, by decide, by decide⟩ (Nat.le_of_ble_eq_true rfl) dX11_chainLength_3 hprop (fun s3 H locs h hM => ?_)
  refine lv_iload_n (pc := 6) hx hb dX11_chainLength_6 rfl (lv_at hl 2 rfl) ?_
  refine lv_iconst (pc := 7) (v := 4) hx hb dX11_chainLength_7 (by decide) ?_
  refine g_cxSv (pc := 8) C hM hl.1 ys_X11_requireIndex q2_191 (w_X11_requireIndex l hl0 G x a2 4 s3 _ PX h) rfl rfl ⟨⟨by decide, by decide⟩, by decide, by decide⟩ (Nat.le_of_ble_eq_true rfl) dX11_chainLength_8 hprop (fun s8 H locs h hM => ?_)
  refine lv_aload_n (pc := 11) hx hb dX11_chainLength_11 rfl (lv_at hl 0 rfl) ?_
  refine g_get (pc := 12) (v := .ref (g_ad G 77)) C hM (by decide) ce_60 fl_RX11_60 rfl dX11_chainLength_12 ?_
  refine lv_iload_n (pc := 15) hx hb dX11_chainLength_15 rfl (lv_at hl 1 rfl) ?_
  refine lv_iload_n (pc := 16) hx hb dX11_chainLength_16 rfl (lv_at hl 2 rfl) ?_
  refine lv_aload_n (pc := 17) hx hb dX11_chainLength_17 rfl (lv_at hl 0 rfl) ?_
  refine g_get (pc := 18) (v := .int (s8 60 14)) C hM (by decide) ce_60 fl_RX11_176 rfl dX11_chainLength_18 ?_
  refine g_cVi (pc := 21) C hM hl.1 yv_X1_fewest q3_218 (by decide) ce_77 rfl (w_X1_fewest l G x a1 a2 (s8 60 14) s8 _ h) rfl rfl ⟨⟨by decide, by decide⟩, by decide, by decide⟩ (Nat.le_of_ble_eq_true rfl) dX11_chainLength_21 (fun r21 s21 H locs h hM => ?_)
  refine lv_istore_n (pc := 24) (lv' := [(3, .int r21), (0, .ref (g_ad G 60)), (1, .int a1), (2, .int a2)]) hx hb dX11_chainLength_24 rfl hl (by decide) rfl (fun ls hl => ?_)
  refine lv_iload_n (pc := 25) hx hb dX11_chainLength_25 rfl (lv_at hl 0 rfl) ?_
  refine lv_if_lt (pc := 26) (tgt := 33) hx hb dX11_chainLength_26 (by decide) (fun c26 => ?_) (fun c26 => ?_)
  · have h := h.1 c26
    refine lv_iconst (pc := 33) (v := 0) hx hb dX11_chainLength_33 (by decide) ?_
    refine g_cxSv (pc := 34) C hM hl.1 ys_X11_requireElement q3_161 (w_X11_requireElement l hl0 G x 0 s21 _ PX h) rfl rfl ⟨⟨by decide, by decide⟩, by decide, by decide⟩ (Nat.le_of_ble_eq_true rfl) dX11_chainLength_34 hprop (fun s34 H locs h hM => ?_)
    refine lv_iload_n (pc := 37) hx hb dX11_chainLength_37 rfl (lv_at hl 0 rfl) ?_
    refine W.widen (k := 3) (n := 18) (by decide) (by decide) ?_
    exact hret 38 _ _ _ _ _ dX11_chainLength_38 (by rfl) h hM
  · have h := h.2 c26
    refine lv_iconst (pc := 29) (v := 1) hx hb dX11_chainLength_29 (by decide) ?_
    refine lv_goto (pc := 30) (tgt := 34) hx hb dX11_chainLength_30 (by decide) ?_
    refine g_cxSv (pc := 34) C hM hl.1 ys_X11_requireElement q3_161 (w_X11_requireElement l hl0 G x 1 s21 _ PX h) rfl rfl ⟨⟨by decide, by decide⟩, by decide, by decide⟩ (Nat.le_of_ble_eq_true rfl) dX11_chainLength_34 hprop (fun s34 H locs h hM => ?_)
    refine lv_iload_n (pc := 37) hx hb dX11_chainLength_37 rfl (lv_at hl 0 rfl) ?_
    refine W.widen (k := 3) (n := 18) (by decide) (by decide) ?_
    exact hret 38 _ _ _ _ _ dX11_chainLength_38 (by rfl) h hM
abbrev rm_X11_chain : Room := { frames := 7, cells := 3, slots := 18, locals := 121 }
theorem dX11_chain_0 : decode cX11_chain 0 = .ok (.iload_n 1, 1) := by decide +kernel
theorem dX11_chain_1 : decode cX11_chain 1 = .ok (.bipush 10, 2) := by decide +kernel
theorem dX11_chain_3 : decode cX11_chain 3 = .ok (.invokestatic 92, 3) := by decide +kernel
theorem dX11_chain_6 : decode cX11_chain 6 = .ok (.iload_n 2, 1) := by decide +kernel
theorem dX11_chain_7 : decode cX11_chain 7 = .ok (.iconst 4, 1) := by decide +kernel
theorem dX11_chain_8 : decode cX11_chain 8 = .ok (.invokestatic 92, 3) := by decide +kernel
theorem dX11_chain_11 : decode cX11_chain 11 = .ok (.aload_n 0, 1) := by decide +kernel
theorem dX11_chain_12 : decode cX11_chain 12 = .ok (.getfield 60, 3) := by decide +kernel
theorem dX11_chain_15 : decode cX11_chain 15 = .ok (.iload_n 1, 1) := by decide +kernel
theorem dX11_chain_16 : decode cX11_chain 16 = .ok (.iload_n 2, 1) := by decide +kernel
theorem dX11_chain_17 : decode cX11_chain 17 = .ok (.aload_n 0, 1) := by decide +kernel
theorem dX11_chain_18 : decode cX11_chain 18 = .ok (.getfield 176, 3) := by decide +kernel
theorem dX11_chain_21 : decode cX11_chain 21 = .ok (.invokevirtual 187, 3) := by decide +kernel
theorem dX11_chain_24 : decode cX11_chain 24 = .ok (.istore 4, 2) := by decide +kernel
theorem dX11_chain_26 : decode cX11_chain 26 = .ok (.iload_n 3, 1) := by decide +kernel
theorem dX11_chain_27 : decode cX11_chain 27 = .ok (.iconst 0, 1) := by decide +kernel
theorem dX11_chain_28 : decode cX11_chain 28 = .ok (.iload 4, 2) := by decide +kernel
theorem dX11_chain_30 : decode cX11_chain 30 = .ok (.invokestatic 96, 3) := by decide +kernel
theorem dX11_chain_33 : decode cX11_chain 33 = .ok (.invokestatic 172, 3) := by decide +kernel
theorem dX11_chain_36 : decode cX11_chain 36 = .ok (.aload_n 0, 1) := by decide +kernel
theorem dX11_chain_37 : decode cX11_chain 37 = .ok (.getfield 60, 3) := by decide +kernel
theorem dX11_chain_40 : decode cX11_chain 40 = .ok (.iload_n 3, 1) := by decide +kernel
theorem dX11_chain_41 : decode cX11_chain 41 = .ok (.iload 4, 2) := by decide +kernel
theorem dX11_chain_43 : decode cX11_chain 43 = .ok (.iload_n 2, 1) := by decide +kernel
theorem dX11_chain_44 : decode cX11_chain 44 = .ok (.aload_n 0, 1) := by decide +kernel
theorem dX11_chain_45 : decode cX11_chain 45 = .ok (.getfield 176, 3) := by decide +kernel
theorem dX11_chain_48 : decode cX11_chain 48 = .ok (.invokevirtual 190, 3) := by decide +kernel
theorem dX11_chain_51 : decode cX11_chain 51 = .ok (.ireturn, 1) := by decide +kernel
set_option maxHeartbeats 4000000 in
set_option maxRecDepth 100000 in
theorem w_X11_chain (l : Launch) (hl0 : l.stackTraces = false) (G : GP) (x : XP) (a1 : Int32) (a2 : Int32) (a3 : Int32) (σ : Sto) (P : Int32 → Sto → Prop) (PX : String → Sto → Prop) (h : D_X11_chain a1 a2 a3 σ P PX) : g_Mxi l yX11_chain cX11_chain 5 (some .int) rm_X11_chain G x [.ref (g_ad G 60), .int a1, .int a2, .int a3] σ P PX := by
  unfold D_X11_chain at h
  refine g_ofXi hl0 (by decide +kernel) (Nat.le_of_ble_eq_true rfl) (Or.inl (by decide)) ?_
  intro p e s m args below meth c Q ls C hM hl hret hprop hthrow
  have hx := C.1
  have hb := C.2.1
  have hl : lv_has ls 5 [(0, .ref (g_ad G 60)), (1, .int a1), (2, .int a2), (3, .int a3)] := hl
  refine lv_iload_n (pc := 0) hx hb dX11_chain_0 rfl (lv_at hl 1 rfl) ?_
  refine lv_bipush (pc := 1) (v := 10) hx hb dX11_chain_1 (by decide) ?_
  refine g_cxSv (pc := 3) C hM hl.1 ys_X11_requireIndex q2_191 (w_X11_requireIndex l hl0 G x a1 10 σ _ PX h) rfl rfl ⟨⟨by decide, by decide⟩, by decide, by decide⟩ (Nat.le_of_ble_eq_true rfl) dX11_chain_3 hprop (fun s3 H locs h hM => ?_)
  refine lv_iload_n (pc := 6) hx hb dX11_chain_6 rfl (lv_at hl 2 rfl) ?_
  refine lv_iconst (pc := 7) (v := 4) hx hb dX11_chain_7 (by decide) ?_
  refine g_cxSv (pc := 8) C hM hl.1 ys_X11_requireIndex q2_191 (w_X11_requireIndex l hl0 G x a2 4 s3 _ PX h) rfl rfl ⟨⟨by decide, by decide⟩, by decide, by decide⟩ (Nat.le_of_ble_eq_true rfl) dX11_chain_8 hprop (fun s8 H locs h hM => ?_)
  refine lv_aload_n (pc := 11) hx hb dX11_chain_11 rfl (lv_at hl 0 rfl) ?_
  refine g_get (pc := 12) (v := .ref (g_ad G 77)) C hM (by decide) ce_60 fl_RX11_60 rfl dX11_chain_12 ?_
  refine lv_iload_n (pc := 15) hx hb dX11_chain_15 rfl (lv_at hl 1 rfl) ?_
  refine lv_iload_n (pc := 16) hx hb dX11_chain_16 rfl (lv_at hl 2 rfl) ?_
  refine lv_aload_n (pc := 17) hx hb dX11_chain_17 rfl (lv_at hl 0 rfl) ?_
  refine g_get (pc := 18) (v := .int (s8 60 14)) C hM (by decide) ce_60 fl_RX11_176 rfl dX11_chain_18 ?_
  refine g_cVi (pc := 21) C hM hl.1 yv_X1_fewest q3_218 (by decide) ce_77 rfl (w_X1_fewest l G x a1 a2 (s8 60 14) s8 _ h) rfl rfl ⟨⟨by decide, by decide⟩, by decide, by decide⟩ (Nat.le_of_ble_eq_true rfl) dX11_chain_21 (fun r21 s21 H locs h hM => ?_)
  refine lv_istore (pc := 24) (lv' := [(4, .int r21), (0, .ref (g_ad G 60)), (1, .int a1), (2, .int a2), (3, .int a3)]) hx hb dX11_chain_24 hl (by decide) rfl (fun ls hl => ?_)
  refine lv_iload_n (pc := 26) hx hb dX11_chain_26 rfl (lv_at hl 4 rfl) ?_
  refine lv_iconst (pc := 27) (v := 0) hx hb dX11_chain_27 (by decide) ?_
  refine lv_iload (pc := 28) hx hb dX11_chain_28 (lv_at hl 0 rfl) ?_
  refine g_cSi (pc := 30) C hM hl.1 ys_X11_isWithin q2_215 (w_X11_isWithin l G x a3 0 r21 s21 _ h) rfl rfl ⟨⟨by decide, by decide⟩, by decide, by decide⟩ (Nat.le_of_ble_eq_true rfl) dX11_chain_30 (fun r30 s30 H locs h hM => ?_)
  refine g_cxSv (pc := 33) C hM hl.1 ys_X11_requireElement q3_161 (w_X11_requireElement l hl0 G x r30 s30 _ PX h) rfl rfl ⟨⟨by decide, by decide⟩, by decide, by decide⟩ (Nat.le_of_ble_eq_true rfl) dX11_chain_33 hprop (fun s33 H locs h hM => ?_)
  refine lv_aload_n (pc := 36) hx hb dX11_chain_36 rfl (lv_at hl 1 rfl) ?_
  refine g_get (pc := 37) (v := .ref (g_ad G 77)) C hM (by decide) ce_60 fl_RX11_60 rfl dX11_chain_37 ?_
  refine lv_iload_n (pc := 40) hx hb dX11_chain_40 rfl (lv_at hl 4 rfl) ?_
  refine lv_iload (pc := 41) hx hb dX11_chain_41 (lv_at hl 0 rfl) ?_
  refine lv_iload_n (pc := 43) hx hb dX11_chain_43 rfl (lv_at hl 3 rfl) ?_
  refine lv_aload_n (pc := 44) hx hb dX11_chain_44 rfl (lv_at hl 1 rfl) ?_
  refine g_get (pc := 45) (v := .int (s33 60 14)) C hM (by decide) ce_60 fl_RX11_176 rfl dX11_chain_45 ?_
  refine g_cVi (pc := 48) C hM hl.1 yv_X1_subjectAt q3_226 (by decide) ce_77 rfl (w_X1_subjectAt l G x a3 r21 a2 (s33 60 14) s33 _ h) rfl rfl ⟨⟨by decide, by decide⟩, by decide, by decide⟩ (Nat.le_of_ble_eq_true rfl) dX11_chain_48 (fun r48 s48 H locs h hM => ?_)
  refine W.widen (k := 3) (n := 18) (by decide) (by decide) ?_
  exact hret 51 _ _ _ _ _ dX11_chain_51 (by rfl) h hM
abbrev rm_X11_lastsUntil : Room := { frames := 7, cells := 4, slots := 24, locals := 121 }
theorem dX11_lastsUntil_0 : decode cX11_lastsUntil 0 = .ok (.iload_n 1, 1) := by decide +kernel
theorem dX11_lastsUntil_1 : decode cX11_lastsUntil 1 = .ok (.bipush 10, 2) := by decide +kernel
theorem dX11_lastsUntil_3 : decode cX11_lastsUntil 3 = .ok (.invokestatic 92, 3) := by decide +kernel
theorem dX11_lastsUntil_6 : decode cX11_lastsUntil 6 = .ok (.iload_n 2, 1) := by decide +kernel
theorem dX11_lastsUntil_7 : decode cX11_lastsUntil 7 = .ok (.iconst 4, 1) := by decide +kernel
theorem dX11_lastsUntil_8 : decode cX11_lastsUntil 8 = .ok (.invokestatic 92, 3) := by decide +kernel
theorem dX11_lastsUntil_11 : decode cX11_lastsUntil 11 = .ok (.iload_n 1, 1) := by decide +kernel
theorem dX11_lastsUntil_12 : decode cX11_lastsUntil 12 = .ok (.ifCond .eq 7, 3) := by decide +kernel
theorem dX11_lastsUntil_15 : decode cX11_lastsUntil 15 = .ok (.iconst 1, 1) := by decide +kernel
theorem dX11_lastsUntil_16 : decode cX11_lastsUntil 16 = .ok (.goto 4, 3) := by decide +kernel
theorem dX11_lastsUntil_19 : decode cX11_lastsUntil 19 = .ok (.iconst 0, 1) := by decide +kernel
theorem dX11_lastsUntil_20 : decode cX11_lastsUntil 20 = .ok (.invokestatic 100, 3) := by decide +kernel
theorem dX11_lastsUntil_23 : decode cX11_lastsUntil 23 = .ok (.aload_n 0, 1) := by decide +kernel
theorem dX11_lastsUntil_24 : decode cX11_lastsUntil 24 = .ok (.getfield 60, 3) := by decide +kernel
theorem dX11_lastsUntil_27 : decode cX11_lastsUntil 27 = .ok (.iload_n 1, 1) := by decide +kernel
theorem dX11_lastsUntil_28 : decode cX11_lastsUntil 28 = .ok (.iload_n 2, 1) := by decide +kernel
theorem dX11_lastsUntil_29 : decode cX11_lastsUntil 29 = .ok (.aload_n 0, 1) := by decide +kernel
theorem dX11_lastsUntil_30 : decode cX11_lastsUntil 30 = .ok (.getfield 176, 3) := by decide +kernel
theorem dX11_lastsUntil_33 : decode cX11_lastsUntil 33 = .ok (.invokevirtual 187, 3) := by decide +kernel
theorem dX11_lastsUntil_36 : decode cX11_lastsUntil 36 = .ok (.ifCond .lt 7, 3) := by decide +kernel
theorem dX11_lastsUntil_39 : decode cX11_lastsUntil 39 = .ok (.iconst 1, 1) := by decide +kernel
theorem dX11_lastsUntil_40 : decode cX11_lastsUntil 40 = .ok (.goto 4, 3) := by decide +kernel
theorem dX11_lastsUntil_43 : decode cX11_lastsUntil 43 = .ok (.iconst 0, 1) := by decide +kernel
theorem dX11_lastsUntil_44 : decode cX11_lastsUntil 44 = .ok (.invokestatic 172, 3) := by decide +kernel
theorem dX11_lastsUntil_47 : decode cX11_lastsUntil 47 = .ok (.aload_n 0, 1) := by decide +kernel
theorem dX11_lastsUntil_48 : decode cX11_lastsUntil 48 = .ok (.getfield 60, 3) := by decide +kernel
theorem dX11_lastsUntil_51 : decode cX11_lastsUntil 51 = .ok (.iload_n 1, 1) := by decide +kernel
theorem dX11_lastsUntil_52 : decode cX11_lastsUntil 52 = .ok (.iload_n 2, 1) := by decide +kernel
theorem dX11_lastsUntil_53 : decode cX11_lastsUntil 53 = .ok (.aload_n 0, 1) := by decide +kernel
theorem dX11_lastsUntil_54 : decode cX11_lastsUntil 54 = .ok (.getfield 176, 3) := by decide +kernel
theorem dX11_lastsUntil_57 : decode cX11_lastsUntil 57 = .ok (.invokevirtual 193, 3) := by decide +kernel
theorem dX11_lastsUntil_60 : decode cX11_lastsUntil 60 = .ok (.ireturn, 1) := by decide +kernel
set_option maxHeartbeats 4000000 in
set_option maxRecDepth 100000 in
theorem w_X11_lastsUntil (l : Launch) (hl0 : l.stackTraces = false) (G : GP) (x : XP) (a1 : Int32) (a2 : Int32) (σ : Sto) (P : Int32 → Sto → Prop) (PX : String → Sto → Prop) (h : D_X11_lastsUntil a1 a2 σ P PX) : g_Mxi l yX11_lastsUntil cX11_lastsUntil 3 (some .int) rm_X11_lastsUntil G x [.ref (g_ad G 60), .int a1, .int a2] σ P PX := by
  unfold D_X11_lastsUntil at h
  refine g_ofXi hl0 (by decide +kernel) (Nat.le_of_ble_eq_true rfl) (Or.inl (by decide)) ?_
  intro p e s m args below meth c Q ls C hM hl hret hprop hthrow
  have hx := C.1
  have hb := C.2.1
  have hl : lv_has ls 3 [(0, .ref (g_ad G 60)), (1, .int a1), (2, .int a2)] := hl
  have h := h (fun (t0 : Int32) (σ : Sto) => ∀ (H : Heap) (locs : List Loc) (ls : Array Slot), g_M G x σ s H locs → lv_has ls 3 [(0, .ref (g_ad G 60)), (1, .int a1), (2, .int a2)] → W p l e rm_X11_lastsUntil s m args below meth c H locs 2 12 Q (F0 m 20 ls [.int t0]))
  have h := h (by
    intro t0 σ h  H locs ls hM hl
    refine g_cxSv (pc := 20) C hM hl.1 ys_X11_requireArgument q2_218 (w_X11_requireArgument l hl0 G x t0 σ _ PX h) rfl rfl ⟨⟨by decide, by decide⟩, by decide, by decide⟩ (Nat.le_of_ble_eq_true rfl) dX11_lastsUntil_20 hprop (fun s20 H locs h hM => ?_)
    refine lv_aload_n (pc := 23) hx hb dX11_lastsUntil_23 rfl (lv_at hl 0 rfl) ?_
    refine g_get (pc := 24) (v := .ref (g_ad G 77)) C hM (by decide) ce_60 fl_RX11_60 rfl dX11_lastsUntil_24 ?_
    refine lv_iload_n (pc := 27) hx hb dX11_lastsUntil_27 rfl (lv_at hl 1 rfl) ?_
    refine lv_iload_n (pc := 28) hx hb dX11_lastsUntil_28 rfl (lv_at hl 2 rfl) ?_
    refine lv_aload_n (pc := 29) hx hb dX11_lastsUntil_29 rfl (lv_at hl 0 rfl) ?_
    refine g_get (pc := 30) (v := .int (s20 60 14)) C hM (by decide) ce_60 fl_RX11_176 rfl dX11_lastsUntil_30 ?_
    refine g_cVi (pc := 33) C hM hl.1 yv_X1_fewest q3_218 (by decide) ce_77 rfl (w_X1_fewest l G x a1 a2 (s20 60 14) s20 _ h) rfl rfl ⟨⟨by decide, by decide⟩, by decide, by decide⟩ (Nat.le_of_ble_eq_true rfl) dX11_lastsUntil_33 (fun r33 s33 H locs h hM => ?_)
    refine lv_if_lt (pc := 36) (tgt := 43) hx hb dX11_lastsUntil_36 (by decide) (fun c36 => ?_) (fun c36 => ?_)
    · have h := h.1 c36
      refine lv_iconst (pc := 43) (v := 0) hx hb dX11_lastsUntil_43 (by decide) ?_
      refine g_cxSv (pc := 44) C hM hl.1 ys_X11_requireElement q3_161 (w_X11_requireElement l hl0 G x 0 s33 _ PX h) rfl rfl ⟨⟨by decide, by decide⟩, by decide, by decide⟩ (Nat.le_of_ble_eq_true rfl) dX11_lastsUntil_44 hprop (fun s44 H locs h hM => ?_)
      refine lv_aload_n (pc := 47) hx hb dX11_lastsUntil_47 rfl (lv_at hl 0 rfl) ?_
      refine g_get (pc := 48) (v := .ref (g_ad G 77)) C hM (by decide) ce_60 fl_RX11_60 rfl dX11_lastsUntil_48 ?_
      refine lv_iload_n (pc := 51) hx hb dX11_lastsUntil_51 rfl (lv_at hl 1 rfl) ?_
      refine lv_iload_n (pc := 52) hx hb dX11_lastsUntil_52 rfl (lv_at hl 2 rfl) ?_
      refine lv_aload_n (pc := 53) hx hb dX11_lastsUntil_53 rfl (lv_at hl 0 rfl) ?_
      refine g_get (pc := 54) (v := .int (s44 60 14)) C hM (by decide) ce_60 fl_RX11_176 rfl dX11_lastsUntil_54 ?_
      refine g_cVi (pc := 57) C hM hl.1 yv_X1_endOfUse q4_4 (by decide) ce_77 rfl (w_X1_endOfUse l G x a1 a2 (s44 60 14) s44 _ h) rfl rfl ⟨⟨by decide, by decide⟩, by decide, by decide⟩ (Nat.le_of_ble_eq_true rfl) dX11_lastsUntil_57 (fun r57 s57 H locs h hM => ?_)
      refine W.widen (k := 4) (n := 24) (by decide) (by decide) ?_
      exact hret 60 _ _ _ _ _ dX11_lastsUntil_60 (by rfl) h hM
    · have h := h.2 c36
      refine lv_iconst (pc := 39) (v := 1) hx hb dX11_lastsUntil_39 (by decide) ?_
      refine lv_goto (pc := 40) (tgt := 44) hx hb dX11_lastsUntil_40 (by decide) ?_
      refine g_cxSv (pc := 44) C hM hl.1 ys_X11_requireElement q3_161 (w_X11_requireElement l hl0 G x 1 s33 _ PX h) rfl rfl ⟨⟨by decide, by decide⟩, by decide, by decide⟩ (Nat.le_of_ble_eq_true rfl) dX11_lastsUntil_44 hprop (fun s44 H locs h hM => ?_)
      refine lv_aload_n (pc := 47) hx hb dX11_lastsUntil_47 rfl (lv_at hl 0 rfl) ?_
      refine g_get (pc := 48) (v := .ref (g_ad G 77)) C hM (by decide) ce_60 fl_RX11_60 rfl dX11_lastsUntil_48 ?_
      refine lv_iload_n (pc := 51) hx hb dX11_lastsUntil_51 rfl (lv_at hl 1 rfl) ?_
      refine lv_iload_n (pc := 52) hx hb dX11_lastsUntil_52 rfl (lv_at hl 2 rfl) ?_
      refine lv_aload_n (pc := 53) hx hb dX11_lastsUntil_53 rfl (lv_at hl 0 rfl) ?_
      refine g_get (pc := 54) (v := .int (s44 60 14)) C hM (by decide) ce_60 fl_RX11_176 rfl dX11_lastsUntil_54 ?_
      refine g_cVi (pc := 57) C hM hl.1 yv_X1_endOfUse q4_4 (by decide) ce_77 rfl (w_X1_endOfUse l G x a1 a2 (s44 60 14) s44 _ h) rfl rfl ⟨⟨by decide, by decide⟩, by decide, by decide⟩ (Nat.le_of_ble_eq_true rfl) dX11_lastsUntil_57 (fun r57 s57 H locs h hM => ?_)
      refine W.widen (k := 4) (n := 24) (by decide) (by decide) ?_
      exact hret 60 _ _ _ _ _ dX11_lastsUntil_60 (by rfl) h hM)
  refine lv_iload_n (pc := 0) hx hb dX11_lastsUntil_0 rfl (lv_at hl 1 rfl) ?_
  refine lv_bipush (pc := 1) (v := 10) hx hb dX11_lastsUntil_1 (by decide) ?_
  refine g_cxSv (pc := 3) C hM hl.1 ys_X11_requireIndex q2_191 (w_X11_requireIndex l hl0 G x a1 10 σ _ PX h) rfl rfl ⟨⟨by decide, by decide⟩, by decide, by decide⟩ (Nat.le_of_ble_eq_true rfl) dX11_lastsUntil_3 hprop (fun s3 H locs h hM => ?_)
  refine lv_iload_n (pc := 6) hx hb dX11_lastsUntil_6 rfl (lv_at hl 2 rfl) ?_
  refine lv_iconst (pc := 7) (v := 4) hx hb dX11_lastsUntil_7 (by decide) ?_
  refine g_cxSv (pc := 8) C hM hl.1 ys_X11_requireIndex q2_191 (w_X11_requireIndex l hl0 G x a2 4 s3 _ PX h) rfl rfl ⟨⟨by decide, by decide⟩, by decide, by decide⟩ (Nat.le_of_ble_eq_true rfl) dX11_lastsUntil_8 hprop (fun s8 H locs h hM => ?_)
  refine lv_iload_n (pc := 11) hx hb dX11_lastsUntil_11 rfl (lv_at hl 1 rfl) ?_
  refine lv_if_eq (pc := 12) (tgt := 19) hx hb dX11_lastsUntil_12 (by decide) (fun c12 => ?_) (fun c12 => ?_)
  · have h := h.1 c12
    refine lv_iconst (pc := 19) (v := 0) hx hb dX11_lastsUntil_19 (by decide) ?_
    refine W.widen (k := 2) (n := 12) (by decide) (by decide) ?_
    exact h _ _ _ hM (lv_sub hl [0, 1, 2] rfl)
  · have h := h.2 c12
    refine lv_iconst (pc := 15) (v := 1) hx hb dX11_lastsUntil_15 (by decide) ?_
    refine lv_goto (pc := 16) (tgt := 20) hx hb dX11_lastsUntil_16 (by decide) ?_
    refine W.widen (k := 2) (n := 12) (by decide) (by decide) ?_
    exact h _ _ _ hM (lv_sub hl [0, 1, 2] rfl)
