abbrev rm_X12_tick : Room := { frames := 2, cells := 0, slots := 0, locals := 44 }
theorem dX12_tick_0 : decode cX12_tick 0 = .ok (.aload_n 0, 1) := by decide +kernel
theorem dX12_tick_1 : decode cX12_tick 1 = .ok (.iconst 0, 1) := by decide +kernel
theorem dX12_tick_2 : decode cX12_tick 2 = .ok (.putfield 68, 3) := by decide +kernel
theorem dX12_tick_5 : decode cX12_tick 5 = .ok (.iload_n 1, 1) := by decide +kernel
theorem dX12_tick_6 : decode cX12_tick 6 = .ok (.iconst 1, 1) := by decide +kernel
theorem dX12_tick_7 : decode cX12_tick 7 = .ok (.bipush 100, 2) := by decide +kernel
theorem dX12_tick_9 : decode cX12_tick 9 = .ok (.invokestatic 71, 3) := by decide +kernel
theorem dX12_tick_12 : decode cX12_tick 12 = .ok (.ifCond .ne 9, 3) := by decide +kernel
theorem dX12_tick_15 : decode cX12_tick 15 = .ok (.aload_n 0, 1) := by decide +kernel
theorem dX12_tick_16 : decode cX12_tick 16 = .ok (.iconst 1, 1) := by decide +kernel
theorem dX12_tick_17 : decode cX12_tick 17 = .ok (.invokevirtual 78, 3) := by decide +kernel
theorem dX12_tick_20 : decode cX12_tick 20 = .ok (.ireturn, 1) := by decide +kernel
theorem dX12_tick_21 : decode cX12_tick 21 = .ok (.aload_n 0, 1) := by decide +kernel
theorem dX12_tick_22 : decode cX12_tick 22 = .ok (.getfield 149, 3) := by decide +kernel
theorem dX12_tick_25 : decode cX12_tick 25 = .ok (.iload_n 1, 1) := by decide +kernel
theorem dX12_tick_26 : decode cX12_tick 26 = .ok (.iadd, 1) := by decide +kernel
theorem dX12_tick_27 : decode cX12_tick 27 = .ok (.sipush 2000, 3) := by decide +kernel
theorem dX12_tick_30 : decode cX12_tick 30 = .ok (.if_icmp .le 9, 3) := by decide +kernel
theorem dX12_tick_33 : decode cX12_tick 33 = .ok (.aload_n 0, 1) := by decide +kernel
theorem dX12_tick_34 : decode cX12_tick 34 = .ok (.iconst 2, 1) := by decide +kernel
theorem dX12_tick_35 : decode cX12_tick 35 = .ok (.invokevirtual 78, 3) := by decide +kernel
theorem dX12_tick_38 : decode cX12_tick 38 = .ok (.ireturn, 1) := by decide +kernel
theorem dX12_tick_39 : decode cX12_tick 39 = .ok (.aload_n 0, 1) := by decide +kernel
theorem dX12_tick_40 : decode cX12_tick 40 = .ok (.dup, 1) := by decide +kernel
theorem dX12_tick_41 : decode cX12_tick 41 = .ok (.getfield 149, 3) := by decide +kernel
theorem dX12_tick_44 : decode cX12_tick 44 = .ok (.iload_n 1, 1) := by decide +kernel
theorem dX12_tick_45 : decode cX12_tick 45 = .ok (.iadd, 1) := by decide +kernel
theorem dX12_tick_46 : decode cX12_tick 46 = .ok (.putfield 149, 3) := by decide +kernel
theorem dX12_tick_49 : decode cX12_tick 49 = .ok (.aload_n 0, 1) := by decide +kernel
theorem dX12_tick_50 : decode cX12_tick 50 = .ok (.invokevirtual 152, 3) := by decide +kernel
theorem dX12_tick_53 : decode cX12_tick 53 = .ok (.ireturn, 1) := by decide +kernel
set_option maxHeartbeats 4000000 in
set_option maxRecDepth 100000 in
theorem w_X12_tick (l : Launch) (G : GP) (x : XP) (a1 : Int32) (σ : Sto) (P : Int32 → Sto → Prop) (h : D_X12_tick a1 σ P) : g_Meti l yX12_tick cX12_tick 2 (some .int) rm_X12_tick G x [.ref (g_ad G 87), .int a1] σ P := by
  unfold D_X12_tick at h
  refine g_ofWi (by decide +kernel) (Nat.le_of_ble_eq_true rfl) ?_
  intro p e s m args below meth c Q ls C hM hl hret
  have hx := C.1
  have hb := C.2.1
  have hl : lv_has ls 2 [(0, .ref (g_ad G 87)), (1, .int a1)] := hl
  refine lv_aload_n (pc := 0) hx hb dX12_tick_0 rfl (lv_at hl 0 rfl) ?_
  refine lv_iconst (pc := 1) (v := 0) hx hb dX12_tick_1 (by decide) ?_
  refine g_putE (pc := 2) C hM (by decide) ce_87 fp_RX12_68 rfl rfl (Nat.le_of_ble_eq_true rfl) rfl dX12_tick_2 (fun s2 es2 H locs hM => ?_)
  have h := h s2 es2
  refine lv_iload_n (pc := 5) hx hb dX12_tick_5 rfl (lv_at hl 1 rfl) ?_
  refine lv_iconst (pc := 6) (v := 1) hx hb dX12_tick_6 (by decide) ?_
  refine lv_bipush (pc := 7) (v := 100) hx hb dX12_tick_7 (by decide) ?_
  refine g_cSi (pc := 9) C hM hl.1 ys_X12_in q6_108 (w_X12_in l G x a1 1 100 s2 _ h) rfl rfl ⟨⟨by decide, by decide⟩, by decide, by decide⟩ (Nat.le_of_ble_eq_true rfl) dX12_tick_9 (fun r9 s9 H locs h hM => ?_)
  refine lv_if_ne (pc := 12) (tgt := 21) hx hb dX12_tick_12 (by decide) (fun c12 => ?_) (fun c12 => ?_)
  · have h := h.2 c12
    refine lv_aload_n (pc := 21) hx hb dX12_tick_21 rfl (lv_at hl 0 rfl) ?_
    refine g_get (pc := 22) (v := .int (s9 87 5)) C hM (by decide) ce_87 fl_RX12_149 rfl dX12_tick_22 ?_
    refine lv_iload_n (pc := 25) hx hb dX12_tick_25 rfl (lv_at hl 1 rfl) ?_
    refine lv_iadd (pc := 26) hx hb dX12_tick_26 ?_
    refine lv_sipush (pc := 27) (v := 2000) hx hb dX12_tick_27 (by decide) ?_
    refine lv_icmp_le (pc := 30) (tgt := 39) hx hb dX12_tick_30 (by decide) (fun c30 => ?_) (fun c30 => ?_)
    · have h := h.1 c30
      refine lv_aload_n (pc := 39) hx hb dX12_tick_39 rfl (lv_at hl 0 rfl) ?_
      refine lv_dup (pc := 40) hx hb dX12_tick_40 rfl ?_
      refine g_get (pc := 41) (v := .int (s9 87 5)) C hM (by decide) ce_87 fl_RX12_149 rfl dX12_tick_41 ?_
      refine lv_iload_n (pc := 44) hx hb dX12_tick_44 rfl (lv_at hl 1 rfl) ?_
      refine lv_iadd (pc := 45) hx hb dX12_tick_45 ?_
      refine g_putE (pc := 46) C hM (by decide) ce_87 fp_RX12_149 rfl rfl (Nat.le_of_ble_eq_true rfl) rfl dX12_tick_46 (fun s46 es46 H locs hM => ?_)
      have h := h s46 es46
      refine lv_aload_n (pc := 49) hx hb dX12_tick_49 rfl (lv_at hl 0 rfl) ?_
      refine g_cVi (pc := 50) C hM hl.1 yv_X12_validMany q6_224 (by decide) ce_87 rfl (w_X12_validMany l G x  s46 _ h) rfl rfl ⟨⟨by decide, by decide⟩, by decide, by decide⟩ (Nat.le_of_ble_eq_true rfl) dX12_tick_50 (fun r50 s50 H locs h hM => ?_)
      exact hret 53 _ _ _ _ _ dX12_tick_53 (by rfl) h hM
    · have h := h.2 c30
      refine lv_aload_n (pc := 33) hx hb dX12_tick_33 rfl (lv_at hl 0 rfl) ?_
      refine lv_iconst (pc := 34) (v := 2) hx hb dX12_tick_34 (by decide) ?_
      refine g_cVi (pc := 35) C hM hl.1 yv_X12_fails q6_89 (by decide) ce_87 rfl (w_X12_fails l G x 2 s9 _ h) rfl rfl ⟨⟨by decide, by decide⟩, by decide, by decide⟩ (Nat.le_of_ble_eq_true rfl) dX12_tick_35 (fun r35 s35 H locs h hM => ?_)
      exact hret 38 _ _ _ _ _ dX12_tick_38 (by rfl) h hM
  · have h := h.1 c12
    refine lv_aload_n (pc := 15) hx hb dX12_tick_15 rfl (lv_at hl 0 rfl) ?_
    refine lv_iconst (pc := 16) (v := 1) hx hb dX12_tick_16 (by decide) ?_
    refine g_cVi (pc := 17) C hM hl.1 yv_X12_fails q6_89 (by decide) ce_87 rfl (w_X12_fails l G x 1 s9 _ h) rfl rfl ⟨⟨by decide, by decide⟩, by decide, by decide⟩ (Nat.le_of_ble_eq_true rfl) dX12_tick_17 (fun r17 s17 H locs h hM => ?_)
    exact hret 20 _ _ _ _ _ dX12_tick_20 (by rfl) h hM
abbrev rm_X12_setSubject : Room := { frames := 2, cells := 0, slots := 0, locals := 42 }
theorem dX12_setSubject_0 : decode cX12_setSubject 0 = .ok (.aload_n 0, 1) := by decide +kernel
theorem dX12_setSubject_1 : decode cX12_setSubject 1 = .ok (.iconst 0, 1) := by decide +kernel
theorem dX12_setSubject_2 : decode cX12_setSubject 2 = .ok (.putfield 68, 3) := by decide +kernel
theorem dX12_setSubject_5 : decode cX12_setSubject 5 = .ok (.iload_n 1, 1) := by decide +kernel
theorem dX12_setSubject_6 : decode cX12_setSubject 6 = .ok (.invokestatic 146, 3) := by decide +kernel
theorem dX12_setSubject_9 : decode cX12_setSubject 9 = .ok (.ifCond .ne 9, 3) := by decide +kernel
theorem dX12_setSubject_12 : decode cX12_setSubject 12 = .ok (.aload_n 0, 1) := by decide +kernel
theorem dX12_setSubject_13 : decode cX12_setSubject 13 = .ok (.iconst 1, 1) := by decide +kernel
theorem dX12_setSubject_14 : decode cX12_setSubject 14 = .ok (.invokevirtual 78, 3) := by decide +kernel
theorem dX12_setSubject_17 : decode cX12_setSubject 17 = .ok (.ireturn, 1) := by decide +kernel
theorem dX12_setSubject_18 : decode cX12_setSubject 18 = .ok (.aload_n 0, 1) := by decide +kernel
theorem dX12_setSubject_19 : decode cX12_setSubject 19 = .ok (.getfield 165, 3) := by decide +kernel
theorem dX12_setSubject_22 : decode cX12_setSubject 22 = .ok (.istore_n 2, 1) := by decide +kernel
theorem dX12_setSubject_23 : decode cX12_setSubject 23 = .ok (.aload_n 0, 1) := by decide +kernel
theorem dX12_setSubject_24 : decode cX12_setSubject 24 = .ok (.iload_n 1, 1) := by decide +kernel
theorem dX12_setSubject_25 : decode cX12_setSubject 25 = .ok (.putfield 165, 3) := by decide +kernel
theorem dX12_setSubject_28 : decode cX12_setSubject 28 = .ok (.iload_n 2, 1) := by decide +kernel
theorem dX12_setSubject_29 : decode cX12_setSubject 29 = .ok (.ireturn, 1) := by decide +kernel
set_option maxHeartbeats 4000000 in
set_option maxRecDepth 100000 in
theorem w_X12_setSubject (l : Launch) (G : GP) (x : XP) (a1 : Int32) (σ : Sto) (P : Int32 → Sto → Prop) (h : D_X12_setSubject a1 σ P) : g_Meti l yX12_setSubject cX12_setSubject 3 (some .int) rm_X12_setSubject G x [.ref (g_ad G 87), .int a1] σ P := by
  unfold D_X12_setSubject at h
  refine g_ofWi (by decide +kernel) (Nat.le_of_ble_eq_true rfl) ?_
  intro p e s m args below meth c Q ls C hM hl hret
  have hx := C.1
  have hb := C.2.1
  have hl : lv_has ls 3 [(0, .ref (g_ad G 87)), (1, .int a1)] := hl
  refine lv_aload_n (pc := 0) hx hb dX12_setSubject_0 rfl (lv_at hl 0 rfl) ?_
  refine lv_iconst (pc := 1) (v := 0) hx hb dX12_setSubject_1 (by decide) ?_
  refine g_putE (pc := 2) C hM (by decide) ce_87 fp_RX12_68 rfl rfl (Nat.le_of_ble_eq_true rfl) rfl dX12_setSubject_2 (fun s2 es2 H locs hM => ?_)
  have h := h s2 es2
  refine lv_iload_n (pc := 5) hx hb dX12_setSubject_5 rfl (lv_at hl 1 rfl) ?_
  refine g_cSi (pc := 6) C hM hl.1 ys_X12_isSubject q6_213 (w_X12_isSubject l G x a1 s2 _ h) rfl rfl ⟨⟨by decide, by decide⟩, by decide, by decide⟩ (Nat.le_of_ble_eq_true rfl) dX12_setSubject_6 (fun r6 s6 H locs h hM => ?_)
  refine lv_if_ne (pc := 9) (tgt := 18) hx hb dX12_setSubject_9 (by decide) (fun c9 => ?_) (fun c9 => ?_)
  · have h := h.2 c9
    refine lv_aload_n (pc := 18) hx hb dX12_setSubject_18 rfl (lv_at hl 0 rfl) ?_
    refine g_get (pc := 19) (v := .int (s6 87 6)) C hM (by decide) ce_87 fl_RX12_165 rfl dX12_setSubject_19 ?_
    refine lv_istore_n (pc := 22) (lv' := [(2, .int (s6 87 6)), (0, .ref (g_ad G 87)), (1, .int a1)]) hx hb dX12_setSubject_22 rfl hl (by decide) rfl (fun ls hl => ?_)
    refine lv_aload_n (pc := 23) hx hb dX12_setSubject_23 rfl (lv_at hl 1 rfl) ?_
    refine lv_iload_n (pc := 24) hx hb dX12_setSubject_24 rfl (lv_at hl 2 rfl) ?_
    refine g_putE (pc := 25) C hM (by decide) ce_87 fp_RX12_165 rfl rfl (Nat.le_of_ble_eq_true rfl) rfl dX12_setSubject_25 (fun s25 es25 H locs hM => ?_)
    have h := h s25 es25
    refine lv_iload_n (pc := 28) hx hb dX12_setSubject_28 rfl (lv_at hl 0 rfl) ?_
    exact hret 29 _ _ _ _ _ dX12_setSubject_29 (by rfl) h hM
  · have h := h.1 c9
    refine lv_aload_n (pc := 12) hx hb dX12_setSubject_12 rfl (lv_at hl 0 rfl) ?_
    refine lv_iconst (pc := 13) (v := 1) hx hb dX12_setSubject_13 (by decide) ?_
    refine g_cVi (pc := 14) C hM hl.1 yv_X12_fails q6_89 (by decide) ce_87 rfl (w_X12_fails l G x 1 s6 _ h) rfl rfl ⟨⟨by decide, by decide⟩, by decide, by decide⟩ (Nat.le_of_ble_eq_true rfl) dX12_setSubject_14 (fun r14 s14 H locs h hM => ?_)
    exact hret 17 _ _ _ _ _ dX12_setSubject_17 (by rfl) h hM
abbrev rm_X12_setValue : Room := { frames := 2, cells := 0, slots := 0, locals := 42 }
theorem dX12_setValue_0 : decode cX12_setValue 0 = .ok (.aload_n 0, 1) := by decide +kernel
theorem dX12_setValue_1 : decode cX12_setValue 1 = .ok (.iload_n 1, 1) := by decide +kernel
theorem dX12_setValue_2 : decode cX12_setValue 2 = .ok (.invokestatic 101, 3) := by decide +kernel
theorem dX12_setValue_5 : decode cX12_setValue 5 = .ok (.ifCond .eq 21, 3) := by decide +kernel
theorem dX12_setValue_8 : decode cX12_setValue 8 = .ok (.iload_n 2, 1) := by decide +kernel
theorem dX12_setValue_9 : decode cX12_setValue 9 = .ok (.iconst (-1), 1) := by decide +kernel
theorem dX12_setValue_10 : decode cX12_setValue 10 = .ok (.bipush 15, 2) := by decide +kernel
theorem dX12_setValue_12 : decode cX12_setValue 12 = .ok (.invokestatic 71, 3) := by decide +kernel
theorem dX12_setValue_15 : decode cX12_setValue 15 = .ok (.ifCond .eq 7, 3) := by decide +kernel
theorem dX12_setValue_18 : decode cX12_setValue 18 = .ok (.iconst 0, 1) := by decide +kernel
theorem dX12_setValue_19 : decode cX12_setValue 19 = .ok (.goto 8, 3) := by decide +kernel
theorem dX12_setValue_22 : decode cX12_setValue 22 = .ok (.iconst 2, 1) := by decide +kernel
theorem dX12_setValue_23 : decode cX12_setValue 23 = .ok (.goto 4, 3) := by decide +kernel
theorem dX12_setValue_26 : decode cX12_setValue 26 = .ok (.iconst 1, 1) := by decide +kernel
theorem dX12_setValue_27 : decode cX12_setValue 27 = .ok (.putfield 68, 3) := by decide +kernel
theorem dX12_setValue_30 : decode cX12_setValue 30 = .ok (.aload_n 0, 1) := by decide +kernel
theorem dX12_setValue_31 : decode cX12_setValue 31 = .ok (.getfield 68, 3) := by decide +kernel
theorem dX12_setValue_34 : decode cX12_setValue 34 = .ok (.ifCond .le 5, 3) := by decide +kernel
theorem dX12_setValue_37 : decode cX12_setValue 37 = .ok (.iconst 0, 1) := by decide +kernel
theorem dX12_setValue_38 : decode cX12_setValue 38 = .ok (.ireturn, 1) := by decide +kernel
theorem dX12_setValue_39 : decode cX12_setValue 39 = .ok (.aload_n 0, 1) := by decide +kernel
theorem dX12_setValue_40 : decode cX12_setValue 40 = .ok (.getfield 19, 3) := by decide +kernel
theorem dX12_setValue_43 : decode cX12_setValue 43 = .ok (.iload_n 1, 1) := by decide +kernel
theorem dX12_setValue_44 : decode cX12_setValue 44 = .ok (.iaload, 1) := by decide +kernel
theorem dX12_setValue_45 : decode cX12_setValue 45 = .ok (.istore_n 3, 1) := by decide +kernel
theorem dX12_setValue_46 : decode cX12_setValue 46 = .ok (.aload_n 0, 1) := by decide +kernel
theorem dX12_setValue_47 : decode cX12_setValue 47 = .ok (.getfield 19, 3) := by decide +kernel
theorem dX12_setValue_50 : decode cX12_setValue 50 = .ok (.iload_n 1, 1) := by decide +kernel
theorem dX12_setValue_51 : decode cX12_setValue 51 = .ok (.iload_n 2, 1) := by decide +kernel
theorem dX12_setValue_52 : decode cX12_setValue 52 = .ok (.iastore, 1) := by decide +kernel
theorem dX12_setValue_53 : decode cX12_setValue 53 = .ok (.iload_n 3, 1) := by decide +kernel
theorem dX12_setValue_54 : decode cX12_setValue 54 = .ok (.ireturn, 1) := by decide +kernel
set_option maxHeartbeats 4000000 in
set_option maxRecDepth 100000 in
theorem w_X12_setValue (l : Launch) (G : GP) (x : XP) (a1 : Int32) (a2 : Int32) (σ : Sto) (P : Int32 → Sto → Prop) (h : D_X12_setValue a1 a2 σ P) : g_Meti l yX12_setValue cX12_setValue 4 (some .int) rm_X12_setValue G x [.ref (g_ad G 87), .int a1, .int a2] σ P := by
  unfold D_X12_setValue at h
  refine g_ofWi (by decide +kernel) (Nat.le_of_ble_eq_true rfl) ?_
  intro p e s m args below meth c Q ls C hM hl hret
  have hx := C.1
  have hb := C.2.1
  have hl : lv_has ls 4 [(0, .ref (g_ad G 87)), (1, .int a1), (2, .int a2)] := hl
  have h := h (fun (t0 : Int32) (σ : Sto) => ∀ (H : Heap) (locs : List Loc) (ls : Array Slot), g_M G x σ s H locs → lv_has ls 4 [(0, .ref (g_ad G 87)), (1, .int a1), (2, .int a2)] → W p l e rm_X12_setValue s m args below meth c H locs 0 0 Q (F0 m 27 ls [.int t0, .ref (g_ad G 87)]))
  have h := h (by
    intro t0 σ h  H locs ls hM hl
    refine g_putE (pc := 27) C hM (by decide) ce_87 fp_RX12_68 rfl rfl (Nat.le_of_ble_eq_true rfl) rfl dX12_setValue_27 (fun s27 es27 H locs hM => ?_)
    have h := h s27 es27
    refine lv_aload_n (pc := 30) hx hb dX12_setValue_30 rfl (lv_at hl 0 rfl) ?_
    refine g_get (pc := 31) (v := .int (s27 87 8)) C hM (by decide) ce_87 fl_RX12_68 rfl dX12_setValue_31 ?_
    refine lv_if_le (pc := 34) (tgt := 39) hx hb dX12_setValue_34 (by decide) (fun c34 => ?_) (fun c34 => ?_)
    · have h := h.1 c34
      refine lv_aload_n (pc := 39) hx hb dX12_setValue_39 rfl (lv_at hl 0 rfl) ?_
      refine g_get (pc := 40) (v := .ref (g_ad G 91)) C hM (by decide) ce_87 fl_RX12_19 rfl dX12_setValue_40 ?_
      refine lv_iload_n (pc := 43) hx hb dX12_setValue_43 rfl (lv_at hl 1 rfl) ?_
      obtain ⟨hc, h⟩ := h
      refine g_ialdK (pc := 44) C hM (by decide) ce_91 hc rfl dX12_setValue_44 ?_
      refine lv_istore_n (pc := 45) (lv' := [(3, .int (s27 91 (ix a1))), (0, .ref (g_ad G 87)), (1, .int a1), (2, .int a2)]) hx hb dX12_setValue_45 rfl hl (by decide) rfl (fun ls hl => ?_)
      refine lv_aload_n (pc := 46) hx hb dX12_setValue_46 rfl (lv_at hl 1 rfl) ?_
      refine g_get (pc := 47) (v := .ref (g_ad G 91)) C hM (by decide) ce_87 fl_RX12_19 rfl dX12_setValue_47 ?_
      refine lv_iload_n (pc := 50) hx hb dX12_setValue_50 rfl (lv_at hl 2 rfl) ?_
      refine lv_iload_n (pc := 51) hx hb dX12_setValue_51 rfl (lv_at hl 3 rfl) ?_
      obtain ⟨hc, h⟩ := h
      refine g_iastE (pc := 52) C hM (by decide) ce_91 hc rfl dX12_setValue_52 (fun s52 es52 H locs hM => ?_)
      have h := h s52 es52
      refine lv_iload_n (pc := 53) hx hb dX12_setValue_53 rfl (lv_at hl 0 rfl) ?_
      exact hret 54 _ _ _ _ _ dX12_setValue_54 (by rfl) h hM
    · have h := h.2 c34
      refine lv_iconst (pc := 37) (v := 0) hx hb dX12_setValue_37 (by decide) ?_
      exact hret 38 _ _ _ _ _ dX12_setValue_38 (by rfl) h hM)
  refine lv_aload_n (pc := 0) hx hb dX12_setValue_0 rfl (lv_at hl 0 rfl) ?_
  refine lv_iload_n (pc := 1) hx hb dX12_setValue_1 rfl (lv_at hl 1 rfl) ?_
  refine g_cSi (pc := 2) C hM hl.1 ys_X12_isAttribute q6_123 (w_X12_isAttribute l G x a1 σ _ h) rfl rfl ⟨⟨by decide, by decide⟩, by decide, by decide⟩ (Nat.le_of_ble_eq_true rfl) dX12_setValue_2 (fun r2 s2 H locs h hM => ?_)
  refine lv_if_eq (pc := 5) (tgt := 26) hx hb dX12_setValue_5 (by decide) (fun c5 => ?_) (fun c5 => ?_)
  · have h := h.1 c5
    refine lv_iconst (pc := 26) (v := 1) hx hb dX12_setValue_26 (by decide) ?_
    exact h _ _ _ hM (lv_sub hl [0, 1, 2] rfl)
  · have h := h.2 c5
    refine lv_iload_n (pc := 8) hx hb dX12_setValue_8 rfl (lv_at hl 2 rfl) ?_
    refine lv_iconst (pc := 9) (v := (-1)) hx hb dX12_setValue_9 (by decide) ?_
    refine lv_bipush (pc := 10) (v := 15) hx hb dX12_setValue_10 (by decide) ?_
    refine g_cSi (pc := 12) C hM hl.1 ys_X12_in q6_108 (w_X12_in l G x a2 (-1) 15 s2 _ h) rfl rfl ⟨⟨by decide, by decide⟩, by decide, by decide⟩ (Nat.le_of_ble_eq_true rfl) dX12_setValue_12 (fun r12 s12 H locs h hM => ?_)
    refine lv_if_eq (pc := 15) (tgt := 22) hx hb dX12_setValue_15 (by decide) (fun c15 => ?_) (fun c15 => ?_)
    · have h := h.1 c15
      refine lv_iconst (pc := 22) (v := 2) hx hb dX12_setValue_22 (by decide) ?_
      refine lv_goto (pc := 23) (tgt := 27) hx hb dX12_setValue_23 (by decide) ?_
      exact h _ _ _ hM (lv_sub hl [0, 1, 2] rfl)
    · have h := h.2 c15
      refine lv_iconst (pc := 18) (v := 0) hx hb dX12_setValue_18 (by decide) ?_
      refine lv_goto (pc := 19) (tgt := 27) hx hb dX12_setValue_19 (by decide) ?_
      exact h _ _ _ hM (lv_sub hl [0, 1, 2] rfl)
abbrev rm_X12_unknownSet : Room := { frames := 0, cells := 0, slots := 0, locals := 0 }
theorem dX12_unknownSet_0 : decode cX12_unknownSet 0 = .ok (.iconst 0, 1) := by decide +kernel
theorem dX12_unknownSet_1 : decode cX12_unknownSet 1 = .ok (.istore_n 1, 1) := by decide +kernel
theorem dX12_unknownSet_2 : decode cX12_unknownSet 2 = .ok (.iconst 0, 1) := by decide +kernel
theorem dX12_unknownSet_3 : decode cX12_unknownSet 3 = .ok (.istore_n 2, 1) := by decide +kernel
theorem dX12_unknownSet_4 : decode cX12_unknownSet 4 = .ok (.iload_n 2, 1) := by decide +kernel
theorem dX12_unknownSet_5 : decode cX12_unknownSet 5 = .ok (.bipush 6, 2) := by decide +kernel
theorem dX12_unknownSet_7 : decode cX12_unknownSet 7 = .ok (.if_icmp .ge 28, 3) := by decide +kernel
theorem dX12_unknownSet_10 : decode cX12_unknownSet 10 = .ok (.iload_n 1, 1) := by decide +kernel
theorem dX12_unknownSet_11 : decode cX12_unknownSet 11 = .ok (.aload_n 0, 1) := by decide +kernel
theorem dX12_unknownSet_12 : decode cX12_unknownSet 12 = .ok (.getfield 19, 3) := by decide +kernel
theorem dX12_unknownSet_15 : decode cX12_unknownSet 15 = .ok (.iload_n 2, 1) := by decide +kernel
theorem dX12_unknownSet_16 : decode cX12_unknownSet 16 = .ok (.iaload, 1) := by decide +kernel
theorem dX12_unknownSet_17 : decode cX12_unknownSet 17 = .ok (.ifCond .ge 9, 3) := by decide +kernel
theorem dX12_unknownSet_20 : decode cX12_unknownSet 20 = .ok (.iconst 1, 1) := by decide +kernel
theorem dX12_unknownSet_21 : decode cX12_unknownSet 21 = .ok (.iload_n 2, 1) := by decide +kernel
theorem dX12_unknownSet_22 : decode cX12_unknownSet 22 = .ok (.ishl, 1) := by decide +kernel
theorem dX12_unknownSet_23 : decode cX12_unknownSet 23 = .ok (.goto 4, 3) := by decide +kernel
theorem dX12_unknownSet_26 : decode cX12_unknownSet 26 = .ok (.iconst 0, 1) := by decide +kernel
theorem dX12_unknownSet_27 : decode cX12_unknownSet 27 = .ok (.ior, 1) := by decide +kernel
theorem dX12_unknownSet_28 : decode cX12_unknownSet 28 = .ok (.istore_n 1, 1) := by decide +kernel
theorem dX12_unknownSet_29 : decode cX12_unknownSet 29 = .ok (.iinc 2 1, 3) := by decide +kernel
theorem dX12_unknownSet_32 : decode cX12_unknownSet 32 = .ok (.goto (-28), 3) := by decide +kernel
theorem dX12_unknownSet_35 : decode cX12_unknownSet 35 = .ok (.iload_n 1, 1) := by decide +kernel
theorem dX12_unknownSet_36 : decode cX12_unknownSet 36 = .ok (.ireturn, 1) := by decide +kernel
set_option maxHeartbeats 4000000 in
set_option maxRecDepth 100000 in
theorem w_X12_unknownSet (l : Launch) (G : GP) (x : XP) (σ : Sto) (P : Int32 → Sto → Prop) (h : D_X12_unknownSet  σ P) : g_Meti l yX12_unknownSet cX12_unknownSet 3 (some .int) rm_X12_unknownSet G x [.ref (g_ad G 87)] σ P := by
  unfold D_X12_unknownSet at h
  refine g_ofWi (by decide +kernel) (Nat.le_of_ble_eq_true rfl) ?_
  intro p e s m args below meth c Q ls C hM hl hret
  have hx := C.1
  have hb := C.2.1
  have hl : lv_has ls 3 [(0, .ref (g_ad G 87))] := hl
  have h := h (fun (v1 : Int32) (v2 : Int32) (σ : Sto) => ∀ (H : Heap) (locs : List Loc) (ls : Array Slot), g_M G x σ s H locs → lv_has ls 3 [(0, .ref (g_ad G 87)), (1, .int v1), (2, .int v2)] → W p l e rm_X12_unknownSet s m args below meth c H locs 0 0 Q (F0 m 4 ls []))
  have h := h (by
    intro v1 v2 σ h  H locs ls hM hl
    refine lv_iload_n (pc := 4) hx hb dX12_unknownSet_4 rfl (lv_at hl 2 rfl) ?_
    refine lv_bipush (pc := 5) (v := 6) hx hb dX12_unknownSet_5 (by decide) ?_
    refine lv_icmp_ge (pc := 7) (tgt := 35) hx hb dX12_unknownSet_7 (by decide) (fun c7 => ?_) (fun c7 => ?_)
    · have h := h.1 c7
      refine lv_iload_n (pc := 35) hx hb dX12_unknownSet_35 rfl (lv_at hl 1 rfl) ?_
      exact hret 36 _ _ _ _ _ dX12_unknownSet_36 (by rfl) h hM
    · have h := h.2 c7
      refine lv_iload_n (pc := 10) hx hb dX12_unknownSet_10 rfl (lv_at hl 1 rfl) ?_
      refine lv_aload_n (pc := 11) hx hb dX12_unknownSet_11 rfl (lv_at hl 0 rfl) ?_
      refine g_get (pc := 12) (v := .ref (g_ad G 91)) C hM (by decide) ce_87 fl_RX12_19 rfl dX12_unknownSet_12 ?_
      refine lv_iload_n (pc := 15) hx hb dX12_unknownSet_15 rfl (lv_at hl 2 rfl) ?_
      obtain ⟨hc, h⟩ := h
      refine g_ialdK (pc := 16) C hM (by decide) ce_91 hc rfl dX12_unknownSet_16 ?_
      refine lv_if_ge (pc := 17) (tgt := 26) hx hb dX12_unknownSet_17 (by decide) (fun c17 => ?_) (fun c17 => ?_)
      · have h := h.1 c17
        refine lv_iconst (pc := 26) (v := 0) hx hb dX12_unknownSet_26 (by decide) ?_
        refine lv_ior (pc := 27) hx hb dX12_unknownSet_27 ?_
        refine lv_istore_n (pc := 28) (lv' := [(1, .int (v1 ||| 0)), (0, .ref (g_ad G 87)), (2, .int v2)]) hx hb dX12_unknownSet_28 rfl hl (by decide) rfl (fun ls hl => ?_)
        refine lv_iinc (pc := 29) (v := (v2 + 1)) (lv' := [(2, .int (v2 + 1)), (1, .int (v1 ||| 0)), (0, .ref (g_ad G 87))]) hx hb dX12_unknownSet_29 hl (k := 2) rfl (by rfl) (by decide) rfl (fun ls hl => ?_)
        refine lv_goto (pc := 32) (tgt := 4) hx hb dX12_unknownSet_32 (by decide) ?_
        exact h _ _ _ hM (lv_sub hl [2, 1, 0] rfl)
      · have h := h.2 c17
        refine lv_iconst (pc := 20) (v := 1) hx hb dX12_unknownSet_20 (by decide) ?_
        refine lv_iload_n (pc := 21) hx hb dX12_unknownSet_21 rfl (lv_at hl 2 rfl) ?_
        refine lv_ishl (pc := 22) hx hb dX12_unknownSet_22 ?_
        refine lv_goto (pc := 23) (tgt := 27) hx hb dX12_unknownSet_23 (by decide) ?_
        refine lv_ior (pc := 27) hx hb dX12_unknownSet_27 ?_
        refine lv_topi (fun v1_28 ev1_28 => ?_)
        have h := h v1_28 ev1_28
        refine lv_istore_n (pc := 28) (lv' := [(1, .int v1_28), (0, .ref (g_ad G 87)), (2, .int v2)]) hx hb dX12_unknownSet_28 rfl hl (by decide) rfl (fun ls hl => ?_)
        refine lv_iinc (pc := 29) (v := (v2 + 1)) (lv' := [(2, .int (v2 + 1)), (1, .int v1_28), (0, .ref (g_ad G 87))]) hx hb dX12_unknownSet_29 hl (k := 2) rfl (by rfl) (by decide) rfl (fun ls hl => ?_)
        refine lv_goto (pc := 32) (tgt := 4) hx hb dX12_unknownSet_32 (by decide) ?_
        exact h _ _ _ hM (lv_sub hl [2, 1, 0] rfl))
  refine lv_iconst (pc := 0) (v := 0) hx hb dX12_unknownSet_0 (by decide) ?_
  refine lv_istore_n (pc := 1) (lv' := [(1, .int 0), (0, .ref (g_ad G 87))]) hx hb dX12_unknownSet_1 rfl hl (by decide) rfl (fun ls hl => ?_)
  refine lv_iconst (pc := 2) (v := 0) hx hb dX12_unknownSet_2 (by decide) ?_
  refine lv_istore_n (pc := 3) (lv' := [(2, .int 0), (1, .int 0), (0, .ref (g_ad G 87))]) hx hb dX12_unknownSet_3 rfl hl (by decide) rfl (fun ls hl => ?_)
  exact h _ _ _ hM (lv_sub hl [2, 1, 0] rfl)
abbrev rm_X12_unknown : Room := { frames := 1, cells := 0, slots := 0, locals := 22 }
theorem dX12_unknown_0 : decode cX12_unknown 0 = .ok (.aload_n 0, 1) := by decide +kernel
theorem dX12_unknown_1 : decode cX12_unknown 1 = .ok (.iconst 0, 1) := by decide +kernel
theorem dX12_unknown_2 : decode cX12_unknown 2 = .ok (.putfield 68, 3) := by decide +kernel
theorem dX12_unknown_5 : decode cX12_unknown 5 = .ok (.aload_n 0, 1) := by decide +kernel
theorem dX12_unknown_6 : decode cX12_unknown 6 = .ok (.invokevirtual 168, 3) := by decide +kernel
theorem dX12_unknown_9 : decode cX12_unknown 9 = .ok (.ireturn, 1) := by decide +kernel
set_option maxHeartbeats 4000000 in
set_option maxRecDepth 100000 in
theorem w_X12_unknown (l : Launch) (G : GP) (x : XP) (σ : Sto) (P : Int32 → Sto → Prop) (h : D_X12_unknown  σ P) : g_Meti l yX12_unknown cX12_unknown 1 (some .int) rm_X12_unknown G x [.ref (g_ad G 87)] σ P := by
  unfold D_X12_unknown at h
  refine g_ofWi (by decide +kernel) (Nat.le_of_ble_eq_true rfl) ?_
  intro p e s m args below meth c Q ls C hM hl hret
  have hx := C.1
  have hb := C.2.1
  have hl : lv_has ls 1 [(0, .ref (g_ad G 87))] := hl
  refine lv_aload_n (pc := 0) hx hb dX12_unknown_0 rfl (lv_at hl 0 rfl) ?_
  refine lv_iconst (pc := 1) (v := 0) hx hb dX12_unknown_1 (by decide) ?_
  refine g_putE (pc := 2) C hM (by decide) ce_87 fp_RX12_68 rfl rfl (Nat.le_of_ble_eq_true rfl) rfl dX12_unknown_2 (fun s2 es2 H locs hM => ?_)
  have h := h s2 es2
  refine lv_aload_n (pc := 5) hx hb dX12_unknown_5 rfl (lv_at hl 0 rfl) ?_
  refine g_cVi (pc := 6) C hM hl.1 yv_X12_unknownSet q7_36 (by decide) ce_87 rfl (w_X12_unknownSet l G x  s2 _ h) rfl rfl ⟨⟨by decide, by decide⟩, by decide, by decide⟩ (Nat.le_of_ble_eq_true rfl) dX12_unknown_6 (fun r6 s6 H locs h hM => ?_)
  exact hret 9 _ _ _ _ _ dX12_unknown_9 (by rfl) h hM
abbrev rm_X12_laySets : Room := { frames := 2, cells := 0, slots := 0, locals := 45 }
theorem dX12_laySets_0 : decode cX12_laySets 0 = .ok (.iconst 0, 1) := by decide +kernel
theorem dX12_laySets_1 : decode cX12_laySets 1 = .ok (.istore_n 1, 1) := by decide +kernel
theorem dX12_laySets_2 : decode cX12_laySets 2 = .ok (.iload_n 1, 1) := by decide +kernel
theorem dX12_laySets_3 : decode cX12_laySets 3 = .ok (.aload_n 0, 1) := by decide +kernel
theorem dX12_laySets_4 : decode cX12_laySets 4 = .ok (.getfield 7, 3) := by decide +kernel
theorem dX12_laySets_7 : decode cX12_laySets 7 = .ok (.iconst 0, 1) := by decide +kernel
theorem dX12_laySets_8 : decode cX12_laySets 8 = .ok (.iaload, 1) := by decide +kernel
theorem dX12_laySets_9 : decode cX12_laySets 9 = .ok (.if_icmp .ge 80, 3) := by decide +kernel
theorem dX12_laySets_12 : decode cX12_laySets 12 = .ok (.iconst 0, 1) := by decide +kernel
theorem dX12_laySets_13 : decode cX12_laySets 13 = .ok (.istore_n 2, 1) := by decide +kernel
theorem dX12_laySets_14 : decode cX12_laySets 14 = .ok (.iload_n 2, 1) := by decide +kernel
theorem dX12_laySets_15 : decode cX12_laySets 15 = .ok (.bipush 6, 2) := by decide +kernel
theorem dX12_laySets_17 : decode cX12_laySets 17 = .ok (.if_icmp .ge 22, 3) := by decide +kernel
theorem dX12_laySets_20 : decode cX12_laySets 20 = .ok (.aload_n 0, 1) := by decide +kernel
theorem dX12_laySets_21 : decode cX12_laySets 21 = .ok (.getfield 25, 3) := by decide +kernel
theorem dX12_laySets_24 : decode cX12_laySets 24 = .ok (.bipush 6, 2) := by decide +kernel
theorem dX12_laySets_26 : decode cX12_laySets 26 = .ok (.iload_n 1, 1) := by decide +kernel
theorem dX12_laySets_27 : decode cX12_laySets 27 = .ok (.imul, 1) := by decide +kernel
theorem dX12_laySets_28 : decode cX12_laySets 28 = .ok (.iload_n 2, 1) := by decide +kernel
theorem dX12_laySets_29 : decode cX12_laySets 29 = .ok (.iadd, 1) := by decide +kernel
theorem dX12_laySets_30 : decode cX12_laySets 30 = .ok (.ldc 104, 2) := by decide +kernel
theorem dX12_laySets_32 : decode cX12_laySets 32 = .ok (.iastore, 1) := by decide +kernel
theorem dX12_laySets_33 : decode cX12_laySets 33 = .ok (.iinc 2 1, 3) := by decide +kernel
theorem dX12_laySets_36 : decode cX12_laySets 36 = .ok (.goto (-22), 3) := by decide +kernel
theorem dX12_laySets_39 : decode cX12_laySets 39 = .ok (.iconst 0, 1) := by decide +kernel
theorem dX12_laySets_40 : decode cX12_laySets 40 = .ok (.istore_n 2, 1) := by decide +kernel
theorem dX12_laySets_41 : decode cX12_laySets 41 = .ok (.iload_n 2, 1) := by decide +kernel
theorem dX12_laySets_42 : decode cX12_laySets 42 = .ok (.aload_n 0, 1) := by decide +kernel
theorem dX12_laySets_43 : decode cX12_laySets 43 = .ok (.iload_n 1, 1) := by decide +kernel
theorem dX12_laySets_44 : decode cX12_laySets 44 = .ok (.iconst 3, 1) := by decide +kernel
theorem dX12_laySets_45 : decode cX12_laySets 45 = .ok (.invokevirtual 97, 3) := by decide +kernel
theorem dX12_laySets_48 : decode cX12_laySets 48 = .ok (.if_icmp .ge 35, 3) := by decide +kernel
theorem dX12_laySets_51 : decode cX12_laySets 51 = .ok (.aload_n 0, 1) := by decide +kernel
theorem dX12_laySets_52 : decode cX12_laySets 52 = .ok (.getfield 25, 3) := by decide +kernel
theorem dX12_laySets_55 : decode cX12_laySets 55 = .ok (.bipush 6, 2) := by decide +kernel
theorem dX12_laySets_57 : decode cX12_laySets 57 = .ok (.iload_n 1, 1) := by decide +kernel
theorem dX12_laySets_58 : decode cX12_laySets 58 = .ok (.imul, 1) := by decide +kernel
theorem dX12_laySets_59 : decode cX12_laySets 59 = .ok (.aload_n 0, 1) := by decide +kernel
theorem dX12_laySets_60 : decode cX12_laySets 60 = .ok (.iload_n 1, 1) := by decide +kernel
theorem dX12_laySets_61 : decode cX12_laySets 61 = .ok (.iload_n 2, 1) := by decide +kernel
theorem dX12_laySets_62 : decode cX12_laySets 62 = .ok (.iconst 0, 1) := by decide +kernel
theorem dX12_laySets_63 : decode cX12_laySets 63 = .ok (.invokevirtual 119, 3) := by decide +kernel
theorem dX12_laySets_66 : decode cX12_laySets 66 = .ok (.iadd, 1) := by decide +kernel
theorem dX12_laySets_67 : decode cX12_laySets 67 = .ok (.dup2, 1) := by decide +kernel
theorem dX12_laySets_68 : decode cX12_laySets 68 = .ok (.iaload, 1) := by decide +kernel
theorem dX12_laySets_69 : decode cX12_laySets 69 = .ok (.aload_n 0, 1) := by decide +kernel
theorem dX12_laySets_70 : decode cX12_laySets 70 = .ok (.iload_n 1, 1) := by decide +kernel
theorem dX12_laySets_71 : decode cX12_laySets 71 = .ok (.iload_n 2, 1) := by decide +kernel
theorem dX12_laySets_72 : decode cX12_laySets 72 = .ok (.invokevirtual 126, 3) := by decide +kernel
theorem dX12_laySets_75 : decode cX12_laySets 75 = .ok (.iand, 1) := by decide +kernel
theorem dX12_laySets_76 : decode cX12_laySets 76 = .ok (.iastore, 1) := by decide +kernel
theorem dX12_laySets_77 : decode cX12_laySets 77 = .ok (.iinc 2 1, 3) := by decide +kernel
theorem dX12_laySets_80 : decode cX12_laySets 80 = .ok (.goto (-39), 3) := by decide +kernel
theorem dX12_laySets_83 : decode cX12_laySets 83 = .ok (.iinc 1 1, 3) := by decide +kernel
theorem dX12_laySets_86 : decode cX12_laySets 86 = .ok (.goto (-84), 3) := by decide +kernel
theorem dX12_laySets_89 : decode cX12_laySets 89 = .ok (.return_, 1) := by decide +kernel
set_option maxHeartbeats 4000000 in
set_option maxRecDepth 100000 in
theorem w_X12_laySets (l : Launch) (G : GP) (x : XP) (σ : Sto) (P : Sto → Prop) (h : D_X12_laySets  σ P) : g_Metv l yX12_laySets cX12_laySets 3 rm_X12_laySets G x [.ref (g_ad G 87)] σ P := by
  unfold D_X12_laySets at h
  refine g_ofWv (by decide +kernel) (Nat.le_of_ble_eq_true rfl) ?_
  intro p e s m args below meth c Q ls C hM hl hret
  have hx := C.1
  have hb := C.2.1
  have hl : lv_has ls 3 [(0, .ref (g_ad G 87))] := hl
  have h := h (fun (v1 : Int32) (σ : Sto) => ∀ (H : Heap) (locs : List Loc) (ls : Array Slot), g_M G x σ s H locs → lv_has ls 3 [(0, .ref (g_ad G 87)), (1, .int v1)] → W p l e rm_X12_laySets s m args below meth c H locs 0 0 Q (F0 m 2 ls [])) (fun (v1 : Int32) (v2 : Int32) (σ : Sto) => ∀ (H : Heap) (locs : List Loc) (ls : Array Slot), g_M G x σ s H locs → lv_has ls 3 [(0, .ref (g_ad G 87)), (1, .int v1), (2, .int v2)] → W p l e rm_X12_laySets s m args below meth c H locs 0 0 Q (F0 m 14 ls [])) (fun (v1 : Int32) (v2 : Int32) (σ : Sto) => ∀ (H : Heap) (locs : List Loc) (ls : Array Slot), g_M G x σ s H locs → lv_has ls 3 [(0, .ref (g_ad G 87)), (1, .int v1), (2, .int v2)] → W p l e rm_X12_laySets s m args below meth c H locs 0 0 Q (F0 m 41 ls []))
  have h := h (by
    intro v1 σ h  H locs ls hM hl
    refine lv_iload_n (pc := 2) hx hb dX12_laySets_2 rfl (lv_at hl 1 rfl) ?_
    refine lv_aload_n (pc := 3) hx hb dX12_laySets_3 rfl (lv_at hl 0 rfl) ?_
    refine g_get (pc := 4) (v := .ref (g_ad G 88)) C hM (by decide) ce_87 fl_RX12_7 rfl dX12_laySets_4 ?_
    refine lv_iconst (pc := 7) (v := 0) hx hb dX12_laySets_7 (by decide) ?_
    refine g_ialdK (pc := 8) (k := 0) C hM (by decide) ce_88 (vp_in_nI (n := 0) (by decide) (by decide)) rfl dX12_laySets_8 ?_
    refine lv_icmp_ge (pc := 9) (tgt := 89) hx hb dX12_laySets_9 (by decide) (fun c9 => ?_) (fun c9 => ?_)
    · have h := h.1 c9
      exact hret 89 _ _ _ _ dX12_laySets_89 h hM
    · have h := h.2 c9
      refine lv_iconst (pc := 12) (v := 0) hx hb dX12_laySets_12 (by decide) ?_
      refine lv_istore_n (pc := 13) (lv' := [(2, .int 0), (0, .ref (g_ad G 87)), (1, .int v1)]) hx hb dX12_laySets_13 rfl hl (by decide) rfl (fun ls hl => ?_)
      exact h _ _ _ hM (lv_sub hl [1, 2, 0] rfl))
  have h := h (by
    intro v1 v2 σ h  H locs ls hM hl
    refine lv_iload_n (pc := 14) hx hb dX12_laySets_14 rfl (lv_at hl 2 rfl) ?_
    refine lv_bipush (pc := 15) (v := 6) hx hb dX12_laySets_15 (by decide) ?_
    refine lv_icmp_ge (pc := 17) (tgt := 39) hx hb dX12_laySets_17 (by decide) (fun c17 => ?_) (fun c17 => ?_)
    · have h := h.1 c17
      refine lv_iconst (pc := 39) (v := 0) hx hb dX12_laySets_39 (by decide) ?_
      refine lv_istore_n (pc := 40) (lv' := [(2, .int 0), (0, .ref (g_ad G 87)), (1, .int v1)]) hx hb dX12_laySets_40 rfl hl (by decide) rfl (fun ls hl => ?_)
      exact h _ _ _ hM (lv_sub hl [1, 2, 0] rfl)
    · have h := h.2 c17
      refine lv_aload_n (pc := 20) hx hb dX12_laySets_20 rfl (lv_at hl 0 rfl) ?_
      refine g_get (pc := 21) (v := .ref (g_ad G 93)) C hM (by decide) ce_87 fl_RX12_25 rfl dX12_laySets_21 ?_
      refine lv_bipush (pc := 24) (v := 6) hx hb dX12_laySets_24 (by decide) ?_
      refine lv_iload_n (pc := 26) hx hb dX12_laySets_26 rfl (lv_at hl 1 rfl) ?_
      refine lv_imul (pc := 27) hx hb dX12_laySets_27 ?_
      refine lv_iload_n (pc := 28) hx hb dX12_laySets_28 rfl (lv_at hl 2 rfl) ?_
      refine lv_iadd (pc := 29) hx hb dX12_laySets_29 ?_
      refine lv_ldc (pc := 30) (v := 65535) hx hb C.2.2.2.1 (C.2.2.2.2.1 _ q6_126) dX12_laySets_30 ?_
      obtain ⟨hc, h⟩ := h
      refine g_iastE (pc := 32) C hM (by decide) ce_93 hc rfl dX12_laySets_32 (fun s32 es32 H locs hM => ?_)
      have h := h s32 es32
      refine lv_iinc (pc := 33) (v := (v2 + 1)) (lv' := [(2, .int (v2 + 1)), (0, .ref (g_ad G 87)), (1, .int v1)]) hx hb dX12_laySets_33 hl (k := 2) rfl (by rfl) (by decide) rfl (fun ls hl => ?_)
      refine lv_goto (pc := 36) (tgt := 14) hx hb dX12_laySets_36 (by decide) ?_
      exact h _ _ _ hM (lv_sub hl [1, 2, 0] rfl))
  have h := h (by
    intro v1 v2 σ h  H locs ls hM hl
    refine lv_iload_n (pc := 41) hx hb dX12_laySets_41 rfl (lv_at hl 2 rfl) ?_
    refine lv_aload_n (pc := 42) hx hb dX12_laySets_42 rfl (lv_at hl 0 rfl) ?_
    refine lv_iload_n (pc := 43) hx hb dX12_laySets_43 rfl (lv_at hl 1 rfl) ?_
    refine lv_iconst (pc := 44) (v := 3) hx hb dX12_laySets_44 (by decide) ?_
    refine g_cVi (pc := 45) C hM hl.1 yv_X12_of q6_131 (by decide) ce_87 rfl (w_X12_of l G x v1 3 σ _ h) rfl rfl ⟨⟨by decide, by decide⟩, by decide, by decide⟩ (Nat.le_of_ble_eq_true rfl) dX12_laySets_45 (fun r45 s45 H locs h hM => ?_)
    refine lv_icmp_ge (pc := 48) (tgt := 83) hx hb dX12_laySets_48 (by decide) (fun c48 => ?_) (fun c48 => ?_)
    · have h := h.1 c48
      refine lv_iinc (pc := 83) (v := (v1 + 1)) (lv' := [(1, .int (v1 + 1)), (0, .ref (g_ad G 87)), (2, .int v2)]) hx hb dX12_laySets_83 hl (k := 1) rfl (by rfl) (by decide) rfl (fun ls hl => ?_)
      refine lv_goto (pc := 86) (tgt := 2) hx hb dX12_laySets_86 (by decide) ?_
      exact h _ _ _ hM (lv_sub hl [1, 0] rfl)
    · have h := h.2 c48
      refine lv_aload_n (pc := 51) hx hb dX12_laySets_51 rfl (lv_at hl 0 rfl) ?_
      refine g_get (pc := 52) (v := .ref (g_ad G 93)) C hM (by decide) ce_87 fl_RX12_25 rfl dX12_laySets_52 ?_
      refine lv_bipush (pc := 55) (v := 6) hx hb dX12_laySets_55 (by decide) ?_
      refine lv_iload_n (pc := 57) hx hb dX12_laySets_57 rfl (lv_at hl 1 rfl) ?_
      refine lv_imul (pc := 58) hx hb dX12_laySets_58 ?_
      refine lv_aload_n (pc := 59) hx hb dX12_laySets_59 rfl (lv_at hl 0 rfl) ?_
      refine lv_iload_n (pc := 60) hx hb dX12_laySets_60 rfl (lv_at hl 1 rfl) ?_
      refine lv_iload_n (pc := 61) hx hb dX12_laySets_61 rfl (lv_at hl 2 rfl) ?_
      refine lv_iconst (pc := 62) (v := 0) hx hb dX12_laySets_62 (by decide) ?_
      refine g_cVi (pc := 63) C hM hl.1 yv_X12_part q6_175 (by decide) ce_87 rfl (w_X12_part l G x v1 v2 0 s45 _ h) rfl rfl ⟨⟨by decide, by decide⟩, by decide, by decide⟩ (Nat.le_of_ble_eq_true rfl) dX12_laySets_63 (fun r63 s63 H locs h hM => ?_)
      refine lv_iadd (pc := 66) hx hb dX12_laySets_66 ?_
      refine lv_dup2_11 (pc := 67) hx hb dX12_laySets_67 rfl rfl ?_
      obtain ⟨hc, h⟩ := h
      refine g_ialdK (pc := 68) C hM (by decide) ce_93 hc rfl dX12_laySets_68 ?_
      refine lv_aload_n (pc := 69) hx hb dX12_laySets_69 rfl (lv_at hl 0 rfl) ?_
      refine lv_iload_n (pc := 70) hx hb dX12_laySets_70 rfl (lv_at hl 1 rfl) ?_
      refine lv_iload_n (pc := 71) hx hb dX12_laySets_71 rfl (lv_at hl 2 rfl) ?_
      refine g_cVi (pc := 72) C hM hl.1 yv_X12_conditionSet q6_187 (by decide) ce_87 rfl (w_X12_conditionSet l G x v1 v2 s63 _ h) rfl rfl ⟨⟨by decide, by decide⟩, by decide, by decide⟩ (Nat.le_of_ble_eq_true rfl) dX12_laySets_72 (fun r72 s72 H locs h hM => ?_)
      refine lv_iand (pc := 75) hx hb dX12_laySets_75 ?_
      obtain ⟨hc, h⟩ := h
      refine g_iastE (pc := 76) C hM (by decide) ce_93 hc rfl dX12_laySets_76 (fun s76 es76 H locs hM => ?_)
      have h := h s76 es76
      refine lv_iinc (pc := 77) (v := (v2 + 1)) (lv' := [(2, .int (v2 + 1)), (0, .ref (g_ad G 87)), (1, .int v1)]) hx hb dX12_laySets_77 hl (k := 2) rfl (by rfl) (by decide) rfl (fun ls hl => ?_)
      refine lv_goto (pc := 80) (tgt := 41) hx hb dX12_laySets_80 (by decide) ?_
      exact h _ _ _ hM (lv_sub hl [1, 2, 0] rfl))
  refine lv_iconst (pc := 0) (v := 0) hx hb dX12_laySets_0 (by decide) ?_
  refine lv_istore_n (pc := 1) (lv' := [(1, .int 0), (0, .ref (g_ad G 87))]) hx hb dX12_laySets_1 rfl hl (by decide) rfl (fun ls hl => ?_)
  exact h _ _ _ hM (lv_sub hl [1, 0] rfl)
abbrev rm_X12_applies : Room := { frames := 3, cells := 0, slots := 0, locals := 67 }
theorem dX12_applies_0 : decode cX12_applies 0 = .ok (.aload_n 0, 1) := by decide +kernel
theorem dX12_applies_1 : decode cX12_applies 1 = .ok (.iconst 0, 1) := by decide +kernel
theorem dX12_applies_2 : decode cX12_applies 2 = .ok (.putfield 68, 3) := by decide +kernel
theorem dX12_applies_5 : decode cX12_applies 5 = .ok (.aload_n 0, 1) := by decide +kernel
theorem dX12_applies_6 : decode cX12_applies 6 = .ok (.iload_n 1, 1) := by decide +kernel
theorem dX12_applies_7 : decode cX12_applies 7 = .ok (.invokevirtual 105, 3) := by decide +kernel
theorem dX12_applies_10 : decode cX12_applies 10 = .ok (.ifCond .ne 9, 3) := by decide +kernel
theorem dX12_applies_13 : decode cX12_applies 13 = .ok (.aload_n 0, 1) := by decide +kernel
theorem dX12_applies_14 : decode cX12_applies 14 = .ok (.iconst 1, 1) := by decide +kernel
theorem dX12_applies_15 : decode cX12_applies 15 = .ok (.invokevirtual 78, 3) := by decide +kernel
theorem dX12_applies_18 : decode cX12_applies 18 = .ok (.ireturn, 1) := by decide +kernel
theorem dX12_applies_19 : decode cX12_applies 19 = .ok (.aload_n 0, 1) := by decide +kernel
theorem dX12_applies_20 : decode cX12_applies 20 = .ok (.invokevirtual 171, 3) := by decide +kernel
theorem dX12_applies_23 : decode cX12_applies 23 = .ok (.iconst 1, 1) := by decide +kernel
theorem dX12_applies_24 : decode cX12_applies 24 = .ok (.istore_n 2, 1) := by decide +kernel
theorem dX12_applies_25 : decode cX12_applies 25 = .ok (.iconst 0, 1) := by decide +kernel
theorem dX12_applies_26 : decode cX12_applies 26 = .ok (.istore_n 3, 1) := by decide +kernel
theorem dX12_applies_27 : decode cX12_applies 27 = .ok (.iload_n 3, 1) := by decide +kernel
theorem dX12_applies_28 : decode cX12_applies 28 = .ok (.bipush 6, 2) := by decide +kernel
theorem dX12_applies_30 : decode cX12_applies 30 = .ok (.if_icmp .ge 81, 3) := by decide +kernel
theorem dX12_applies_33 : decode cX12_applies 33 = .ok (.aload_n 0, 1) := by decide +kernel
theorem dX12_applies_34 : decode cX12_applies 34 = .ok (.getfield 25, 3) := by decide +kernel
theorem dX12_applies_37 : decode cX12_applies 37 = .ok (.bipush 6, 2) := by decide +kernel
theorem dX12_applies_39 : decode cX12_applies 39 = .ok (.iload_n 1, 1) := by decide +kernel
theorem dX12_applies_40 : decode cX12_applies 40 = .ok (.imul, 1) := by decide +kernel
theorem dX12_applies_41 : decode cX12_applies 41 = .ok (.iload_n 3, 1) := by decide +kernel
theorem dX12_applies_42 : decode cX12_applies 42 = .ok (.iadd, 1) := by decide +kernel
theorem dX12_applies_43 : decode cX12_applies 43 = .ok (.iaload, 1) := by decide +kernel
theorem dX12_applies_44 : decode cX12_applies 44 = .ok (.istore 4, 2) := by decide +kernel
theorem dX12_applies_46 : decode cX12_applies 46 = .ok (.aload_n 0, 1) := by decide +kernel
theorem dX12_applies_47 : decode cX12_applies 47 = .ok (.getfield 19, 3) := by decide +kernel
theorem dX12_applies_50 : decode cX12_applies 50 = .ok (.iload_n 3, 1) := by decide +kernel
theorem dX12_applies_51 : decode cX12_applies 51 = .ok (.iaload, 1) := by decide +kernel
theorem dX12_applies_52 : decode cX12_applies 52 = .ok (.ifCond .ge 11, 3) := by decide +kernel
theorem dX12_applies_55 : decode cX12_applies 55 = .ok (.iload 4, 2) := by decide +kernel
theorem dX12_applies_57 : decode cX12_applies 57 = .ok (.ifCond .ne 22, 3) := by decide +kernel
theorem dX12_applies_60 : decode cX12_applies 60 = .ok (.goto 17, 3) := by decide +kernel
theorem dX12_applies_63 : decode cX12_applies 63 = .ok (.iload 4, 2) := by decide +kernel
theorem dX12_applies_65 : decode cX12_applies 65 = .ok (.aload_n 0, 1) := by decide +kernel
theorem dX12_applies_66 : decode cX12_applies 66 = .ok (.getfield 19, 3) := by decide +kernel
theorem dX12_applies_69 : decode cX12_applies 69 = .ok (.iload_n 3, 1) := by decide +kernel
theorem dX12_applies_70 : decode cX12_applies 70 = .ok (.iaload, 1) := by decide +kernel
theorem dX12_applies_71 : decode cX12_applies 71 = .ok (.invokestatic 129, 3) := by decide +kernel
theorem dX12_applies_74 : decode cX12_applies 74 = .ok (.ifCond .ne 5, 3) := by decide +kernel
theorem dX12_applies_77 : decode cX12_applies 77 = .ok (.iconst 0, 1) := by decide +kernel
theorem dX12_applies_78 : decode cX12_applies 78 = .ok (.ireturn, 1) := by decide +kernel
theorem dX12_applies_79 : decode cX12_applies 79 = .ok (.iload_n 2, 1) := by decide +kernel
theorem dX12_applies_80 : decode cX12_applies 80 = .ok (.ifCond .eq 23, 3) := by decide +kernel
theorem dX12_applies_83 : decode cX12_applies 83 = .ok (.aload_n 0, 1) := by decide +kernel
theorem dX12_applies_84 : decode cX12_applies 84 = .ok (.getfield 19, 3) := by decide +kernel
theorem dX12_applies_87 : decode cX12_applies 87 = .ok (.iload_n 3, 1) := by decide +kernel
theorem dX12_applies_88 : decode cX12_applies 88 = .ok (.iaload, 1) := by decide +kernel
theorem dX12_applies_89 : decode cX12_applies 89 = .ok (.ifCond .ge 10, 3) := by decide +kernel
theorem dX12_applies_92 : decode cX12_applies 92 = .ok (.iload 4, 2) := by decide +kernel
theorem dX12_applies_94 : decode cX12_applies 94 = .ok (.ldc 104, 2) := by decide +kernel
theorem dX12_applies_96 : decode cX12_applies 96 = .ok (.if_icmp .ne 7, 3) := by decide +kernel
theorem dX12_applies_99 : decode cX12_applies 99 = .ok (.iconst 1, 1) := by decide +kernel
theorem dX12_applies_100 : decode cX12_applies 100 = .ok (.goto 4, 3) := by decide +kernel
theorem dX12_applies_103 : decode cX12_applies 103 = .ok (.iconst 0, 1) := by decide +kernel
theorem dX12_applies_104 : decode cX12_applies 104 = .ok (.istore_n 2, 1) := by decide +kernel
theorem dX12_applies_105 : decode cX12_applies 105 = .ok (.iinc 3 1, 3) := by decide +kernel
theorem dX12_applies_108 : decode cX12_applies 108 = .ok (.goto (-81), 3) := by decide +kernel
theorem dX12_applies_111 : decode cX12_applies 111 = .ok (.iload_n 2, 1) := by decide +kernel
theorem dX12_applies_112 : decode cX12_applies 112 = .ok (.ifCond .eq 7, 3) := by decide +kernel
theorem dX12_applies_115 : decode cX12_applies 115 = .ok (.iconst 1, 1) := by decide +kernel
theorem dX12_applies_116 : decode cX12_applies 116 = .ok (.goto 4, 3) := by decide +kernel
theorem dX12_applies_119 : decode cX12_applies 119 = .ok (.iconst 2, 1) := by decide +kernel
theorem dX12_applies_120 : decode cX12_applies 120 = .ok (.ireturn, 1) := by decide +kernel
set_option maxHeartbeats 4000000 in
set_option maxRecDepth 100000 in
theorem w_X12_applies (l : Launch) (G : GP) (x : XP) (a1 : Int32) (σ : Sto) (P : Int32 → Sto → Prop) (h : D_X12_applies a1 σ P) : g_Meti l yX12_applies cX12_applies 5 (some .int) rm_X12_applies G x [.ref (g_ad G 87), .int a1] σ P := by
  unfold D_X12_applies at h
  refine g_ofWi (by decide +kernel) (Nat.le_of_ble_eq_true rfl) ?_
  intro p e s m args below meth c Q ls C hM hl hret
  have hx := C.1
  have hb := C.2.1
  have hl : lv_has ls 5 [(0, .ref (g_ad G 87)), (1, .int a1)] := hl
  have h := h (fun (v2 : Int32) (v3 : Int32) (σ : Sto) => ∀ (H : Heap) (locs : List Loc) (ls : Array Slot), g_M G x σ s H locs → lv_has ls 5 [(0, .ref (g_ad G 87)), (1, .int a1), (2, .int v2), (3, .int v3)] → W p l e rm_X12_applies s m args below meth c H locs 0 0 Q (F0 m 27 ls [])) (fun (v2 : Int32) (v3 : Int32) (v4 : Int32) (σ : Sto) => ∀ (H : Heap) (locs : List Loc) (ls : Array Slot), g_M G x σ s H locs → lv_has ls 5 [(0, .ref (g_ad G 87)), (1, .int a1), (2, .int v2), (3, .int v3), (4, .int v4)] → W p l e rm_X12_applies s m args below meth c H locs 0 0 Q (F0 m 79 ls []))
  have h := h (by
    intro v2 v3 σ h  H locs ls hM hl
    refine lv_iload_n (pc := 27) hx hb dX12_applies_27 rfl (lv_at hl 3 rfl) ?_
    refine lv_bipush (pc := 28) (v := 6) hx hb dX12_applies_28 (by decide) ?_
    refine lv_icmp_ge (pc := 30) (tgt := 111) hx hb dX12_applies_30 (by decide) (fun c30 => ?_) (fun c30 => ?_)
    · have h := h.1 c30
      refine lv_iload_n (pc := 111) hx hb dX12_applies_111 rfl (lv_at hl 2 rfl) ?_
      refine lv_if_eq (pc := 112) (tgt := 119) hx hb dX12_applies_112 (by decide) (fun c112 => ?_) (fun c112 => ?_)
      · have h := h.1 c112
        refine lv_iconst (pc := 119) (v := 2) hx hb dX12_applies_119 (by decide) ?_
        exact hret 120 _ _ _ _ _ dX12_applies_120 (by rfl) h hM
      · have h := h.2 c112
        refine lv_iconst (pc := 115) (v := 1) hx hb dX12_applies_115 (by decide) ?_
        refine lv_goto (pc := 116) (tgt := 120) hx hb dX12_applies_116 (by decide) ?_
        exact hret 120 _ _ _ _ _ dX12_applies_120 (by rfl) h hM
    · have h := h.2 c30
      refine lv_aload_n (pc := 33) hx hb dX12_applies_33 rfl (lv_at hl 0 rfl) ?_
      refine g_get (pc := 34) (v := .ref (g_ad G 93)) C hM (by decide) ce_87 fl_RX12_25 rfl dX12_applies_34 ?_
      refine lv_bipush (pc := 37) (v := 6) hx hb dX12_applies_37 (by decide) ?_
      refine lv_iload_n (pc := 39) hx hb dX12_applies_39 rfl (lv_at hl 1 rfl) ?_
      refine lv_imul (pc := 40) hx hb dX12_applies_40 ?_
      refine lv_iload_n (pc := 41) hx hb dX12_applies_41 rfl (lv_at hl 3 rfl) ?_
      refine lv_iadd (pc := 42) hx hb dX12_applies_42 ?_
      obtain ⟨hc, h⟩ := h
      refine g_ialdK (pc := 43) C hM (by decide) ce_93 hc rfl dX12_applies_43 ?_
      refine lv_topi (fun v4_44 ev4_44 => ?_)
      have h := h v4_44 ev4_44
      refine lv_istore (pc := 44) (lv' := [(4, .int v4_44), (0, .ref (g_ad G 87)), (1, .int a1), (2, .int v2), (3, .int v3)]) hx hb dX12_applies_44 hl (by decide) rfl (fun ls hl => ?_)
      refine lv_aload_n (pc := 46) hx hb dX12_applies_46 rfl (lv_at hl 1 rfl) ?_
      refine g_get (pc := 47) (v := .ref (g_ad G 91)) C hM (by decide) ce_87 fl_RX12_19 rfl dX12_applies_47 ?_
      refine lv_iload_n (pc := 50) hx hb dX12_applies_50 rfl (lv_at hl 4 rfl) ?_
      obtain ⟨hc, h⟩ := h
      refine g_ialdK (pc := 51) C hM (by decide) ce_91 hc rfl dX12_applies_51 ?_
      refine lv_if_ge (pc := 52) (tgt := 63) hx hb dX12_applies_52 (by decide) (fun c52 => ?_) (fun c52 => ?_)
      · have h := h.1 c52
        refine lv_iload (pc := 63) hx hb dX12_applies_63 (lv_at hl 0 rfl) ?_
        refine lv_aload_n (pc := 65) hx hb dX12_applies_65 rfl (lv_at hl 1 rfl) ?_
        refine g_get (pc := 66) (v := .ref (g_ad G 91)) C hM (by decide) ce_87 fl_RX12_19 rfl dX12_applies_66 ?_
        refine lv_iload_n (pc := 69) hx hb dX12_applies_69 rfl (lv_at hl 4 rfl) ?_
        obtain ⟨hc, h⟩ := h
        refine g_ialdK (pc := 70) C hM (by decide) ce_91 hc rfl dX12_applies_70 ?_
        refine g_cSi (pc := 71) C hM hl.1 ys_X12_has q6_194 (w_X12_has l G x v4_44 (σ 91 (ix v3)) σ _ h) rfl rfl ⟨⟨by decide, by decide⟩, by decide, by decide⟩ (Nat.le_of_ble_eq_true rfl) dX12_applies_71 (fun r71 s71 H locs h hM => ?_)
        refine lv_if_ne (pc := 74) (tgt := 79) hx hb dX12_applies_74 (by decide) (fun c74 => ?_) (fun c74 => ?_)
        · have h := h.2 c74
          exact h _ _ _ hM (lv_sub hl [1, 2, 3, 4, 0] rfl)
        · have h := h.1 c74
          refine lv_iconst (pc := 77) (v := 0) hx hb dX12_applies_77 (by decide) ?_
          exact hret 78 _ _ _ _ _ dX12_applies_78 (by rfl) h hM
      · have h := h.2 c52
        refine lv_iload (pc := 55) hx hb dX12_applies_55 (lv_at hl 0 rfl) ?_
        refine lv_if_ne (pc := 57) (tgt := 79) hx hb dX12_applies_57 (by decide) (fun c57 => ?_) (fun c57 => ?_)
        · have h := h.2 c57
          exact h _ _ _ hM (lv_sub hl [1, 2, 3, 4, 0] rfl)
        · have h := h.1 c57
          refine lv_goto (pc := 60) (tgt := 77) hx hb dX12_applies_60 (by decide) ?_
          refine lv_iconst (pc := 77) (v := 0) hx hb dX12_applies_77 (by decide) ?_
          exact hret 78 _ _ _ _ _ dX12_applies_78 (by rfl) h hM)
  have h := h (by
    intro v2 v3 v4 σ h  H locs ls hM hl
    refine lv_iload_n (pc := 79) hx hb dX12_applies_79 rfl (lv_at hl 2 rfl) ?_
    refine lv_if_eq (pc := 80) (tgt := 103) hx hb dX12_applies_80 (by decide) (fun c80 => ?_) (fun c80 => ?_)
    · have h := h.1 c80
      refine lv_iconst (pc := 103) (v := 0) hx hb dX12_applies_103 (by decide) ?_
      refine lv_istore_n (pc := 104) (lv' := [(2, .int 0), (0, .ref (g_ad G 87)), (1, .int a1), (3, .int v3), (4, .int v4)]) hx hb dX12_applies_104 rfl hl (by decide) rfl (fun ls hl => ?_)
      refine lv_iinc (pc := 105) (v := (v3 + 1)) (lv' := [(3, .int (v3 + 1)), (2, .int 0), (0, .ref (g_ad G 87)), (1, .int a1), (4, .int v4)]) hx hb dX12_applies_105 hl (k := 3) rfl (by rfl) (by decide) rfl (fun ls hl => ?_)
      refine lv_goto (pc := 108) (tgt := 27) hx hb dX12_applies_108 (by decide) ?_
      exact h _ _ _ hM (lv_sub hl [2, 3, 1, 0] rfl)
    · have h := h.2 c80
      refine lv_aload_n (pc := 83) hx hb dX12_applies_83 rfl (lv_at hl 0 rfl) ?_
      refine g_get (pc := 84) (v := .ref (g_ad G 91)) C hM (by decide) ce_87 fl_RX12_19 rfl dX12_applies_84 ?_
      refine lv_iload_n (pc := 87) hx hb dX12_applies_87 rfl (lv_at hl 3 rfl) ?_
      obtain ⟨hc, h⟩ := h
      refine g_ialdK (pc := 88) C hM (by decide) ce_91 hc rfl dX12_applies_88 ?_
      refine lv_if_ge (pc := 89) (tgt := 99) hx hb dX12_applies_89 (by decide) (fun c89 => ?_) (fun c89 => ?_)
      · have h := h.1 c89
        refine lv_iconst (pc := 99) (v := 1) hx hb dX12_applies_99 (by decide) ?_
        refine lv_goto (pc := 100) (tgt := 104) hx hb dX12_applies_100 (by decide) ?_
        refine lv_istore_n (pc := 104) (lv' := [(2, .int 1), (0, .ref (g_ad G 87)), (1, .int a1), (3, .int v3), (4, .int v4)]) hx hb dX12_applies_104 rfl hl (by decide) rfl (fun ls hl => ?_)
        refine lv_iinc (pc := 105) (v := (v3 + 1)) (lv' := [(3, .int (v3 + 1)), (2, .int 1), (0, .ref (g_ad G 87)), (1, .int a1), (4, .int v4)]) hx hb dX12_applies_105 hl (k := 3) rfl (by rfl) (by decide) rfl (fun ls hl => ?_)
        refine lv_goto (pc := 108) (tgt := 27) hx hb dX12_applies_108 (by decide) ?_
        exact h _ _ _ hM (lv_sub hl [2, 3, 1, 0] rfl)
      · have h := h.2 c89
        refine lv_iload (pc := 92) hx hb dX12_applies_92 (lv_at hl 4 rfl) ?_
        refine lv_ldc (pc := 94) (v := 65535) hx hb C.2.2.2.1 (C.2.2.2.2.1 _ q6_126) dX12_applies_94 ?_
        refine lv_icmp_ne (pc := 96) (tgt := 103) hx hb dX12_applies_96 (by decide) (fun c96 => ?_) (fun c96 => ?_)
        · have h := h.2 c96
          refine lv_iconst (pc := 103) (v := 0) hx hb dX12_applies_103 (by decide) ?_
          refine lv_istore_n (pc := 104) (lv' := [(2, .int 0), (0, .ref (g_ad G 87)), (1, .int a1), (3, .int v3), (4, .int v4)]) hx hb dX12_applies_104 rfl hl (by decide) rfl (fun ls hl => ?_)
          refine lv_iinc (pc := 105) (v := (v3 + 1)) (lv' := [(3, .int (v3 + 1)), (2, .int 0), (0, .ref (g_ad G 87)), (1, .int a1), (4, .int v4)]) hx hb dX12_applies_105 hl (k := 3) rfl (by rfl) (by decide) rfl (fun ls hl => ?_)
          refine lv_goto (pc := 108) (tgt := 27) hx hb dX12_applies_108 (by decide) ?_
          exact h _ _ _ hM (lv_sub hl [2, 3, 1, 0] rfl)
        · have h := h.1 c96
          refine lv_iconst (pc := 99) (v := 1) hx hb dX12_applies_99 (by decide) ?_
          refine lv_goto (pc := 100) (tgt := 104) hx hb dX12_applies_100 (by decide) ?_
          refine lv_istore_n (pc := 104) (lv' := [(2, .int 1), (0, .ref (g_ad G 87)), (1, .int a1), (3, .int v3), (4, .int v4)]) hx hb dX12_applies_104 rfl hl (by decide) rfl (fun ls hl => ?_)
          refine lv_iinc (pc := 105) (v := (v3 + 1)) (lv' := [(3, .int (v3 + 1)), (2, .int 1), (0, .ref (g_ad G 87)), (1, .int a1), (4, .int v4)]) hx hb dX12_applies_105 hl (k := 3) rfl (by rfl) (by decide) rfl (fun ls hl => ?_)
          refine lv_goto (pc := 108) (tgt := 27) hx hb dX12_applies_108 (by decide) ?_
          exact h _ _ _ hM (lv_sub hl [2, 3, 1, 0] rfl))
  refine lv_aload_n (pc := 0) hx hb dX12_applies_0 rfl (lv_at hl 0 rfl) ?_
  refine lv_iconst (pc := 1) (v := 0) hx hb dX12_applies_1 (by decide) ?_
  refine g_putE (pc := 2) C hM (by decide) ce_87 fp_RX12_68 rfl rfl (Nat.le_of_ble_eq_true rfl) rfl dX12_applies_2 (fun s2 es2 H locs hM => ?_)
  have h := h s2 es2
  refine lv_aload_n (pc := 5) hx hb dX12_applies_5 rfl (lv_at hl 0 rfl) ?_
  refine lv_iload_n (pc := 6) hx hb dX12_applies_6 rfl (lv_at hl 1 rfl) ?_
  refine g_cVi (pc := 7) C hM hl.1 yv_X12_isRule q6_127 (by decide) ce_87 rfl (w_X12_isRule l G x a1 s2 _ h) rfl rfl ⟨⟨by decide, by decide⟩, by decide, by decide⟩ (Nat.le_of_ble_eq_true rfl) dX12_applies_7 (fun r7 s7 H locs h hM => ?_)
  refine lv_if_ne (pc := 10) (tgt := 19) hx hb dX12_applies_10 (by decide) (fun c10 => ?_) (fun c10 => ?_)
  · have h := h.2 c10
    refine lv_aload_n (pc := 19) hx hb dX12_applies_19 rfl (lv_at hl 0 rfl) ?_
    refine g_cVv (pc := 20) C hM hl.1 yv_X12_laySets q7_44 (by decide) ce_87 rfl (w_X12_laySets l G x  s7 _ h) rfl rfl ⟨⟨by decide, by decide⟩, by decide, by decide⟩ (Nat.le_of_ble_eq_true rfl) dX12_applies_20 (fun s20 H locs h hM => ?_)
    refine lv_iconst (pc := 23) (v := 1) hx hb dX12_applies_23 (by decide) ?_
    refine lv_istore_n (pc := 24) (lv' := [(2, .int 1), (0, .ref (g_ad G 87)), (1, .int a1)]) hx hb dX12_applies_24 rfl hl (by decide) rfl (fun ls hl => ?_)
    refine lv_iconst (pc := 25) (v := 0) hx hb dX12_applies_25 (by decide) ?_
    refine lv_istore_n (pc := 26) (lv' := [(3, .int 0), (2, .int 1), (0, .ref (g_ad G 87)), (1, .int a1)]) hx hb dX12_applies_26 rfl hl (by decide) rfl (fun ls hl => ?_)
    exact h _ _ _ hM (lv_sub hl [2, 3, 1, 0] rfl)
  · have h := h.1 c10
    refine lv_aload_n (pc := 13) hx hb dX12_applies_13 rfl (lv_at hl 0 rfl) ?_
    refine lv_iconst (pc := 14) (v := 1) hx hb dX12_applies_14 (by decide) ?_
    refine g_cVi (pc := 15) C hM hl.1 yv_X12_fails q6_89 (by decide) ce_87 rfl (w_X12_fails l G x 1 s7 _ h) rfl rfl ⟨⟨by decide, by decide⟩, by decide, by decide⟩ (Nat.le_of_ble_eq_true rfl) dX12_applies_15 (fun r15 s15 H locs h hM => ?_)
    exact hret 18 _ _ _ _ _ dX12_applies_18 (by rfl) h hM
abbrev rm_X12_failing : Room := { frames := 2, cells := 0, slots := 0, locals := 45 }
theorem dX12_failing_0 : decode cX12_failing 0 = .ok (.aload_n 0, 1) := by decide +kernel
theorem dX12_failing_1 : decode cX12_failing 1 = .ok (.iconst 0, 1) := by decide +kernel
theorem dX12_failing_2 : decode cX12_failing 2 = .ok (.putfield 68, 3) := by decide +kernel
theorem dX12_failing_5 : decode cX12_failing 5 = .ok (.aload_n 0, 1) := by decide +kernel
theorem dX12_failing_6 : decode cX12_failing 6 = .ok (.iload_n 1, 1) := by decide +kernel
theorem dX12_failing_7 : decode cX12_failing 7 = .ok (.invokevirtual 105, 3) := by decide +kernel
theorem dX12_failing_10 : decode cX12_failing 10 = .ok (.ifCond .ne 9, 3) := by decide +kernel
theorem dX12_failing_13 : decode cX12_failing 13 = .ok (.aload_n 0, 1) := by decide +kernel
theorem dX12_failing_14 : decode cX12_failing 14 = .ok (.iconst 1, 1) := by decide +kernel
theorem dX12_failing_15 : decode cX12_failing 15 = .ok (.invokevirtual 78, 3) := by decide +kernel
theorem dX12_failing_18 : decode cX12_failing 18 = .ok (.ireturn, 1) := by decide +kernel
theorem dX12_failing_19 : decode cX12_failing 19 = .ok (.iconst 0, 1) := by decide +kernel
theorem dX12_failing_20 : decode cX12_failing 20 = .ok (.istore_n 2, 1) := by decide +kernel
theorem dX12_failing_21 : decode cX12_failing 21 = .ok (.iload_n 2, 1) := by decide +kernel
theorem dX12_failing_22 : decode cX12_failing 22 = .ok (.aload_n 0, 1) := by decide +kernel
theorem dX12_failing_23 : decode cX12_failing 23 = .ok (.iload_n 1, 1) := by decide +kernel
theorem dX12_failing_24 : decode cX12_failing 24 = .ok (.iconst 3, 1) := by decide +kernel
theorem dX12_failing_25 : decode cX12_failing 25 = .ok (.invokevirtual 97, 3) := by decide +kernel
theorem dX12_failing_28 : decode cX12_failing 28 = .ok (.if_icmp .ge 53, 3) := by decide +kernel
theorem dX12_failing_31 : decode cX12_failing 31 = .ok (.aload_n 0, 1) := by decide +kernel
theorem dX12_failing_32 : decode cX12_failing 32 = .ok (.getfield 19, 3) := by decide +kernel
theorem dX12_failing_35 : decode cX12_failing 35 = .ok (.aload_n 0, 1) := by decide +kernel
theorem dX12_failing_36 : decode cX12_failing 36 = .ok (.iload_n 1, 1) := by decide +kernel
theorem dX12_failing_37 : decode cX12_failing 37 = .ok (.iload_n 2, 1) := by decide +kernel
theorem dX12_failing_38 : decode cX12_failing 38 = .ok (.iconst 0, 1) := by decide +kernel
theorem dX12_failing_39 : decode cX12_failing 39 = .ok (.invokevirtual 119, 3) := by decide +kernel
theorem dX12_failing_42 : decode cX12_failing 42 = .ok (.iaload, 1) := by decide +kernel
theorem dX12_failing_43 : decode cX12_failing 43 = .ok (.istore_n 3, 1) := by decide +kernel
theorem dX12_failing_44 : decode cX12_failing 44 = .ok (.iload_n 3, 1) := by decide +kernel
theorem dX12_failing_45 : decode cX12_failing 45 = .ok (.ifCond .ge 15, 3) := by decide +kernel
theorem dX12_failing_48 : decode cX12_failing 48 = .ok (.aload_n 0, 1) := by decide +kernel
theorem dX12_failing_49 : decode cX12_failing 49 = .ok (.iload_n 1, 1) := by decide +kernel
theorem dX12_failing_50 : decode cX12_failing 50 = .ok (.iload_n 2, 1) := by decide +kernel
theorem dX12_failing_51 : decode cX12_failing 51 = .ok (.invokevirtual 126, 3) := by decide +kernel
theorem dX12_failing_54 : decode cX12_failing 54 = .ok (.ifCond .ne 21, 3) := by decide +kernel
theorem dX12_failing_57 : decode cX12_failing 57 = .ok (.goto 16, 3) := by decide +kernel
theorem dX12_failing_60 : decode cX12_failing 60 = .ok (.aload_n 0, 1) := by decide +kernel
theorem dX12_failing_61 : decode cX12_failing 61 = .ok (.iload_n 1, 1) := by decide +kernel
theorem dX12_failing_62 : decode cX12_failing 62 = .ok (.iload_n 2, 1) := by decide +kernel
theorem dX12_failing_63 : decode cX12_failing 63 = .ok (.invokevirtual 126, 3) := by decide +kernel
theorem dX12_failing_66 : decode cX12_failing 66 = .ok (.iload_n 3, 1) := by decide +kernel
theorem dX12_failing_67 : decode cX12_failing 67 = .ok (.invokestatic 129, 3) := by decide +kernel
theorem dX12_failing_70 : decode cX12_failing 70 = .ok (.ifCond .ne 5, 3) := by decide +kernel
theorem dX12_failing_73 : decode cX12_failing 73 = .ok (.iload_n 2, 1) := by decide +kernel
theorem dX12_failing_74 : decode cX12_failing 74 = .ok (.ireturn, 1) := by decide +kernel
theorem dX12_failing_75 : decode cX12_failing 75 = .ok (.iinc 2 1, 3) := by decide +kernel
theorem dX12_failing_78 : decode cX12_failing 78 = .ok (.goto (-57), 3) := by decide +kernel
theorem dX12_failing_81 : decode cX12_failing 81 = .ok (.aload_n 0, 1) := by decide +kernel
theorem dX12_failing_82 : decode cX12_failing 82 = .ok (.iconst 2, 1) := by decide +kernel
theorem dX12_failing_83 : decode cX12_failing 83 = .ok (.invokevirtual 78, 3) := by decide +kernel
theorem dX12_failing_86 : decode cX12_failing 86 = .ok (.ireturn, 1) := by decide +kernel
set_option maxHeartbeats 4000000 in
set_option maxRecDepth 100000 in
theorem w_X12_failing (l : Launch) (G : GP) (x : XP) (a1 : Int32) (σ : Sto) (P : Int32 → Sto → Prop) (h : D_X12_failing a1 σ P) : g_Meti l yX12_failing cX12_failing 4 (some .int) rm_X12_failing G x [.ref (g_ad G 87), .int a1] σ P := by
  unfold D_X12_failing at h
  refine g_ofWi (by decide +kernel) (Nat.le_of_ble_eq_true rfl) ?_
  intro p e s m args below meth c Q ls C hM hl hret
  have hx := C.1
  have hb := C.2.1
  have hl : lv_has ls 4 [(0, .ref (g_ad G 87)), (1, .int a1)] := hl
  have h := h (fun (v2 : Int32) (σ : Sto) => ∀ (H : Heap) (locs : List Loc) (ls : Array Slot), g_M G x σ s H locs → lv_has ls 4 [(0, .ref (g_ad G 87)), (1, .int a1), (2, .int v2)] → W p l e rm_X12_failing s m args below meth c H locs 0 0 Q (F0 m 21 ls []))
  have h := h (by
    intro v2 σ h  H locs ls hM hl
    refine lv_iload_n (pc := 21) hx hb dX12_failing_21 rfl (lv_at hl 2 rfl) ?_
    refine lv_aload_n (pc := 22) hx hb dX12_failing_22 rfl (lv_at hl 0 rfl) ?_
    refine lv_iload_n (pc := 23) hx hb dX12_failing_23 rfl (lv_at hl 1 rfl) ?_
    refine lv_iconst (pc := 24) (v := 3) hx hb dX12_failing_24 (by decide) ?_
    refine g_cVi (pc := 25) C hM hl.1 yv_X12_of q6_131 (by decide) ce_87 rfl (w_X12_of l G x a1 3 σ _ h) rfl rfl ⟨⟨by decide, by decide⟩, by decide, by decide⟩ (Nat.le_of_ble_eq_true rfl) dX12_failing_25 (fun r25 s25 H locs h hM => ?_)
    refine lv_icmp_ge (pc := 28) (tgt := 81) hx hb dX12_failing_28 (by decide) (fun c28 => ?_) (fun c28 => ?_)
    · have h := h.1 c28
      refine lv_aload_n (pc := 81) hx hb dX12_failing_81 rfl (lv_at hl 0 rfl) ?_
      refine lv_iconst (pc := 82) (v := 2) hx hb dX12_failing_82 (by decide) ?_
      refine g_cVi (pc := 83) C hM hl.1 yv_X12_fails q6_89 (by decide) ce_87 rfl (w_X12_fails l G x 2 s25 _ h) rfl rfl ⟨⟨by decide, by decide⟩, by decide, by decide⟩ (Nat.le_of_ble_eq_true rfl) dX12_failing_83 (fun r83 s83 H locs h hM => ?_)
      exact hret 86 _ _ _ _ _ dX12_failing_86 (by rfl) h hM
    · have h := h.2 c28
      refine lv_aload_n (pc := 31) hx hb dX12_failing_31 rfl (lv_at hl 0 rfl) ?_
      refine g_get (pc := 32) (v := .ref (g_ad G 91)) C hM (by decide) ce_87 fl_RX12_19 rfl dX12_failing_32 ?_
      refine lv_aload_n (pc := 35) hx hb dX12_failing_35 rfl (lv_at hl 0 rfl) ?_
      refine lv_iload_n (pc := 36) hx hb dX12_failing_36 rfl (lv_at hl 1 rfl) ?_
      refine lv_iload_n (pc := 37) hx hb dX12_failing_37 rfl (lv_at hl 2 rfl) ?_
      refine lv_iconst (pc := 38) (v := 0) hx hb dX12_failing_38 (by decide) ?_
      refine g_cVi (pc := 39) C hM hl.1 yv_X12_part q6_175 (by decide) ce_87 rfl (w_X12_part l G x a1 v2 0 s25 _ h) rfl rfl ⟨⟨by decide, by decide⟩, by decide, by decide⟩ (Nat.le_of_ble_eq_true rfl) dX12_failing_39 (fun r39 s39 H locs h hM => ?_)
      obtain ⟨hc, h⟩ := h
      refine g_ialdK (pc := 42) C hM (by decide) ce_91 hc rfl dX12_failing_42 ?_
      refine lv_istore_n (pc := 43) (lv' := [(3, .int (s39 91 (ix r39))), (0, .ref (g_ad G 87)), (1, .int a1), (2, .int v2)]) hx hb dX12_failing_43 rfl hl (by decide) rfl (fun ls hl => ?_)
      refine lv_iload_n (pc := 44) hx hb dX12_failing_44 rfl (lv_at hl 0 rfl) ?_
      refine lv_if_ge (pc := 45) (tgt := 60) hx hb dX12_failing_45 (by decide) (fun c45 => ?_) (fun c45 => ?_)
      · have h := h.1 c45
        refine lv_aload_n (pc := 60) hx hb dX12_failing_60 rfl (lv_at hl 1 rfl) ?_
        refine lv_iload_n (pc := 61) hx hb dX12_failing_61 rfl (lv_at hl 2 rfl) ?_
        refine lv_iload_n (pc := 62) hx hb dX12_failing_62 rfl (lv_at hl 3 rfl) ?_
        refine g_cVi (pc := 63) C hM hl.1 yv_X12_conditionSet q6_187 (by decide) ce_87 rfl (w_X12_conditionSet l G x a1 v2 s39 _ h) rfl rfl ⟨⟨by decide, by decide⟩, by decide, by decide⟩ (Nat.le_of_ble_eq_true rfl) dX12_failing_63 (fun r63 s63 H locs h hM => ?_)
        refine lv_iload_n (pc := 66) hx hb dX12_failing_66 rfl (lv_at hl 0 rfl) ?_
        refine g_cSi (pc := 67) C hM hl.1 ys_X12_has q6_194 (w_X12_has l G x r63 (s39 91 (ix r39)) s63 _ h) rfl rfl ⟨⟨by decide, by decide⟩, by decide, by decide⟩ (Nat.le_of_ble_eq_true rfl) dX12_failing_67 (fun r67 s67 H locs h hM => ?_)
        refine lv_if_ne (pc := 70) (tgt := 75) hx hb dX12_failing_70 (by decide) (fun c70 => ?_) (fun c70 => ?_)
        · have h := h.2 c70
          refine lv_iinc (pc := 75) (v := (v2 + 1)) (lv' := [(2, .int (v2 + 1)), (3, .int (s39 91 (ix r39))), (0, .ref (g_ad G 87)), (1, .int a1)]) hx hb dX12_failing_75 hl (k := 3) rfl (by rfl) (by decide) rfl (fun ls hl => ?_)
          refine lv_goto (pc := 78) (tgt := 21) hx hb dX12_failing_78 (by decide) ?_
          exact h _ _ _ hM (lv_sub hl [2, 3, 0] rfl)
        · have h := h.1 c70
          refine lv_iload_n (pc := 73) hx hb dX12_failing_73 rfl (lv_at hl 3 rfl) ?_
          exact hret 74 _ _ _ _ _ dX12_failing_74 (by rfl) h hM
      · have h := h.2 c45
        refine lv_aload_n (pc := 48) hx hb dX12_failing_48 rfl (lv_at hl 1 rfl) ?_
        refine lv_iload_n (pc := 49) hx hb dX12_failing_49 rfl (lv_at hl 2 rfl) ?_
        refine lv_iload_n (pc := 50) hx hb dX12_failing_50 rfl (lv_at hl 3 rfl) ?_
        refine g_cVi (pc := 51) C hM hl.1 yv_X12_conditionSet q6_187 (by decide) ce_87 rfl (w_X12_conditionSet l G x a1 v2 s39 _ h) rfl rfl ⟨⟨by decide, by decide⟩, by decide, by decide⟩ (Nat.le_of_ble_eq_true rfl) dX12_failing_51 (fun r51 s51 H locs h hM => ?_)
        refine lv_if_ne (pc := 54) (tgt := 75) hx hb dX12_failing_54 (by decide) (fun c54 => ?_) (fun c54 => ?_)
        · have h := h.2 c54
          refine lv_iinc (pc := 75) (v := (v2 + 1)) (lv' := [(2, .int (v2 + 1)), (3, .int (s39 91 (ix r39))), (0, .ref (g_ad G 87)), (1, .int a1)]) hx hb dX12_failing_75 hl (k := 3) rfl (by rfl) (by decide) rfl (fun ls hl => ?_)
          refine lv_goto (pc := 78) (tgt := 21) hx hb dX12_failing_78 (by decide) ?_
          exact h _ _ _ hM (lv_sub hl [2, 3, 0] rfl)
        · have h := h.1 c54
          refine lv_goto (pc := 57) (tgt := 73) hx hb dX12_failing_57 (by decide) ?_
          refine lv_iload_n (pc := 73) hx hb dX12_failing_73 rfl (lv_at hl 3 rfl) ?_
          exact hret 74 _ _ _ _ _ dX12_failing_74 (by rfl) h hM)
  refine lv_aload_n (pc := 0) hx hb dX12_failing_0 rfl (lv_at hl 0 rfl) ?_
  refine lv_iconst (pc := 1) (v := 0) hx hb dX12_failing_1 (by decide) ?_
  refine g_putE (pc := 2) C hM (by decide) ce_87 fp_RX12_68 rfl rfl (Nat.le_of_ble_eq_true rfl) rfl dX12_failing_2 (fun s2 es2 H locs hM => ?_)
  have h := h s2 es2
  refine lv_aload_n (pc := 5) hx hb dX12_failing_5 rfl (lv_at hl 0 rfl) ?_
  refine lv_iload_n (pc := 6) hx hb dX12_failing_6 rfl (lv_at hl 1 rfl) ?_
  refine g_cVi (pc := 7) C hM hl.1 yv_X12_isRule q6_127 (by decide) ce_87 rfl (w_X12_isRule l G x a1 s2 _ h) rfl rfl ⟨⟨by decide, by decide⟩, by decide, by decide⟩ (Nat.le_of_ble_eq_true rfl) dX12_failing_7 (fun r7 s7 H locs h hM => ?_)
  refine lv_if_ne (pc := 10) (tgt := 19) hx hb dX12_failing_10 (by decide) (fun c10 => ?_) (fun c10 => ?_)
  · have h := h.2 c10
    refine lv_iconst (pc := 19) (v := 0) hx hb dX12_failing_19 (by decide) ?_
    refine lv_istore_n (pc := 20) (lv' := [(2, .int 0), (0, .ref (g_ad G 87)), (1, .int a1)]) hx hb dX12_failing_20 rfl hl (by decide) rfl (fun ls hl => ?_)
    exact h _ _ _ hM (lv_sub hl [1, 2, 0] rfl)
  · have h := h.1 c10
    refine lv_aload_n (pc := 13) hx hb dX12_failing_13 rfl (lv_at hl 0 rfl) ?_
    refine lv_iconst (pc := 14) (v := 1) hx hb dX12_failing_14 (by decide) ?_
    refine g_cVi (pc := 15) C hM hl.1 yv_X12_fails q6_89 (by decide) ce_87 rfl (w_X12_fails l G x 1 s7 _ h) rfl rfl ⟨⟨by decide, by decide⟩, by decide, by decide⟩ (Nat.le_of_ble_eq_true rfl) dX12_failing_15 (fun r15 s15 H locs h hM => ?_)
    exact hret 18 _ _ _ _ _ dX12_failing_18 (by rfl) h hM
abbrev rm_X12_appliesTo : Room := { frames := 1, cells := 0, slots := 0, locals := 21 }
theorem dX12_appliesTo_0 : decode cX12_appliesTo 0 = .ok (.iconst 0, 1) := by decide +kernel
theorem dX12_appliesTo_1 : decode cX12_appliesTo 1 = .ok (.istore_n 2, 1) := by decide +kernel
theorem dX12_appliesTo_2 : decode cX12_appliesTo 2 = .ok (.iload_n 2, 1) := by decide +kernel
theorem dX12_appliesTo_3 : decode cX12_appliesTo 3 = .ok (.bipush 6, 2) := by decide +kernel
theorem dX12_appliesTo_5 : decode cX12_appliesTo 5 = .ok (.if_icmp .ge 34, 3) := by decide +kernel
theorem dX12_appliesTo_8 : decode cX12_appliesTo 8 = .ok (.aload_n 0, 1) := by decide +kernel
theorem dX12_appliesTo_9 : decode cX12_appliesTo 9 = .ok (.getfield 25, 3) := by decide +kernel
theorem dX12_appliesTo_12 : decode cX12_appliesTo 12 = .ok (.bipush 6, 2) := by decide +kernel
theorem dX12_appliesTo_14 : decode cX12_appliesTo 14 = .ok (.iload_n 1, 1) := by decide +kernel
theorem dX12_appliesTo_15 : decode cX12_appliesTo 15 = .ok (.imul, 1) := by decide +kernel
theorem dX12_appliesTo_16 : decode cX12_appliesTo 16 = .ok (.iload_n 2, 1) := by decide +kernel
theorem dX12_appliesTo_17 : decode cX12_appliesTo 17 = .ok (.iadd, 1) := by decide +kernel
theorem dX12_appliesTo_18 : decode cX12_appliesTo 18 = .ok (.iaload, 1) := by decide +kernel
theorem dX12_appliesTo_19 : decode cX12_appliesTo 19 = .ok (.aload_n 0, 1) := by decide +kernel
theorem dX12_appliesTo_20 : decode cX12_appliesTo 20 = .ok (.getfield 28, 3) := by decide +kernel
theorem dX12_appliesTo_23 : decode cX12_appliesTo 23 = .ok (.iload_n 2, 1) := by decide +kernel
theorem dX12_appliesTo_24 : decode cX12_appliesTo 24 = .ok (.iaload, 1) := by decide +kernel
theorem dX12_appliesTo_25 : decode cX12_appliesTo 25 = .ok (.invokestatic 129, 3) := by decide +kernel
theorem dX12_appliesTo_28 : decode cX12_appliesTo 28 = .ok (.ifCond .ne 5, 3) := by decide +kernel
theorem dX12_appliesTo_31 : decode cX12_appliesTo 31 = .ok (.iconst 0, 1) := by decide +kernel
theorem dX12_appliesTo_32 : decode cX12_appliesTo 32 = .ok (.ireturn, 1) := by decide +kernel
theorem dX12_appliesTo_33 : decode cX12_appliesTo 33 = .ok (.iinc 2 1, 3) := by decide +kernel
theorem dX12_appliesTo_36 : decode cX12_appliesTo 36 = .ok (.goto (-34), 3) := by decide +kernel
theorem dX12_appliesTo_39 : decode cX12_appliesTo 39 = .ok (.iconst 1, 1) := by decide +kernel
theorem dX12_appliesTo_40 : decode cX12_appliesTo 40 = .ok (.ireturn, 1) := by decide +kernel
set_option maxHeartbeats 4000000 in
set_option maxRecDepth 100000 in
theorem w_X12_appliesTo (l : Launch) (G : GP) (x : XP) (a1 : Int32) (σ : Sto) (P : Int32 → Sto → Prop) (h : D_X12_appliesTo a1 σ P) : g_Meti l yX12_appliesTo cX12_appliesTo 3 (some .boolean) rm_X12_appliesTo G x [.ref (g_ad G 87), .int a1] σ P := by
  unfold D_X12_appliesTo at h
  refine g_ofWi (by decide +kernel) (Nat.le_of_ble_eq_true rfl) ?_
  intro p e s m args below meth c Q ls C hM hl hret
  have hx := C.1
  have hb := C.2.1
  have hl : lv_has ls 3 [(0, .ref (g_ad G 87)), (1, .int a1)] := hl
  have h := h (fun (v2 : Int32) (σ : Sto) => ∀ (H : Heap) (locs : List Loc) (ls : Array Slot), g_M G x σ s H locs → lv_has ls 3 [(0, .ref (g_ad G 87)), (1, .int a1), (2, .int v2)] → W p l e rm_X12_appliesTo s m args below meth c H locs 0 0 Q (F0 m 2 ls []))
  have h := h (by
    intro v2 σ h  H locs ls hM hl
    refine lv_iload_n (pc := 2) hx hb dX12_appliesTo_2 rfl (lv_at hl 2 rfl) ?_
    refine lv_bipush (pc := 3) (v := 6) hx hb dX12_appliesTo_3 (by decide) ?_
    refine lv_icmp_ge (pc := 5) (tgt := 39) hx hb dX12_appliesTo_5 (by decide) (fun c5 => ?_) (fun c5 => ?_)
    · have h := h.1 c5
      refine lv_iconst (pc := 39) (v := 1) hx hb dX12_appliesTo_39 (by decide) ?_
      exact hret 40 _ _ _ _ _ dX12_appliesTo_40 (by rfl) h hM
    · have h := h.2 c5
      refine lv_aload_n (pc := 8) hx hb dX12_appliesTo_8 rfl (lv_at hl 0 rfl) ?_
      refine g_get (pc := 9) (v := .ref (g_ad G 93)) C hM (by decide) ce_87 fl_RX12_25 rfl dX12_appliesTo_9 ?_
      refine lv_bipush (pc := 12) (v := 6) hx hb dX12_appliesTo_12 (by decide) ?_
      refine lv_iload_n (pc := 14) hx hb dX12_appliesTo_14 rfl (lv_at hl 1 rfl) ?_
      refine lv_imul (pc := 15) hx hb dX12_appliesTo_15 ?_
      refine lv_iload_n (pc := 16) hx hb dX12_appliesTo_16 rfl (lv_at hl 2 rfl) ?_
      refine lv_iadd (pc := 17) hx hb dX12_appliesTo_17 ?_
      obtain ⟨hc, h⟩ := h
      refine g_ialdK (pc := 18) C hM (by decide) ce_93 hc rfl dX12_appliesTo_18 ?_
      refine lv_aload_n (pc := 19) hx hb dX12_appliesTo_19 rfl (lv_at hl 0 rfl) ?_
      refine g_get (pc := 20) (v := .ref (g_ad G 94)) C hM (by decide) ce_87 fl_RX12_28 rfl dX12_appliesTo_20 ?_
      refine lv_iload_n (pc := 23) hx hb dX12_appliesTo_23 rfl (lv_at hl 2 rfl) ?_
      obtain ⟨hc, h⟩ := h
      refine g_ialdK (pc := 24) C hM (by decide) ce_94 hc rfl dX12_appliesTo_24 ?_
      refine g_cSi (pc := 25) C hM hl.1 ys_X12_has q6_194 (w_X12_has l G x (σ 93 (ix ((6 * a1) + v2))) (σ 94 (ix v2)) σ _ h) rfl rfl ⟨⟨by decide, by decide⟩, by decide, by decide⟩ (Nat.le_of_ble_eq_true rfl) dX12_appliesTo_25 (fun r25 s25 H locs h hM => ?_)
      refine lv_if_ne (pc := 28) (tgt := 33) hx hb dX12_appliesTo_28 (by decide) (fun c28 => ?_) (fun c28 => ?_)
      · have h := h.2 c28
        refine lv_iinc (pc := 33) (v := (v2 + 1)) (lv' := [(2, .int (v2 + 1)), (0, .ref (g_ad G 87)), (1, .int a1)]) hx hb dX12_appliesTo_33 hl (k := 2) rfl (by rfl) (by decide) rfl (fun ls hl => ?_)
        refine lv_goto (pc := 36) (tgt := 2) hx hb dX12_appliesTo_36 (by decide) ?_
        exact h _ _ _ hM (lv_sub hl [1, 2, 0] rfl)
      · have h := h.1 c28
        refine lv_iconst (pc := 31) (v := 0) hx hb dX12_appliesTo_31 (by decide) ?_
        exact hret 32 _ _ _ _ _ dX12_appliesTo_32 (by rfl) h hM)
  refine lv_iconst (pc := 0) (v := 0) hx hb dX12_appliesTo_0 (by decide) ?_
  refine lv_istore_n (pc := 1) (lv' := [(2, .int 0), (0, .ref (g_ad G 87)), (1, .int a1)]) hx hb dX12_appliesTo_1 rfl hl (by decide) rfl (fun ls hl => ?_)
  exact h _ _ _ hM (lv_sub hl [1, 2, 0] rfl)
abbrev rm_X12_isBefore : Room := { frames := 1, cells := 0, slots := 0, locals := 22 }
theorem dX12_isBefore_0 : decode cX12_isBefore 0 = .ok (.iload_n 2, 1) := by decide +kernel
theorem dX12_isBefore_1 : decode cX12_isBefore 1 = .ok (.ifCond .lt 38, 3) := by decide +kernel
theorem dX12_isBefore_4 : decode cX12_isBefore 4 = .ok (.aload_n 0, 1) := by decide +kernel
theorem dX12_isBefore_5 : decode cX12_isBefore 5 = .ok (.iload_n 1, 1) := by decide +kernel
theorem dX12_isBefore_6 : decode cX12_isBefore 6 = .ok (.iconst 2, 1) := by decide +kernel
theorem dX12_isBefore_7 : decode cX12_isBefore 7 = .ok (.invokevirtual 97, 3) := by decide +kernel
theorem dX12_isBefore_10 : decode cX12_isBefore 10 = .ok (.aload_n 0, 1) := by decide +kernel
theorem dX12_isBefore_11 : decode cX12_isBefore 11 = .ok (.iload_n 2, 1) := by decide +kernel
theorem dX12_isBefore_12 : decode cX12_isBefore 12 = .ok (.iconst 2, 1) := by decide +kernel
theorem dX12_isBefore_13 : decode cX12_isBefore 13 = .ok (.invokevirtual 97, 3) := by decide +kernel
theorem dX12_isBefore_16 : decode cX12_isBefore 16 = .ok (.if_icmp .gt 23, 3) := by decide +kernel
theorem dX12_isBefore_19 : decode cX12_isBefore 19 = .ok (.aload_n 0, 1) := by decide +kernel
theorem dX12_isBefore_20 : decode cX12_isBefore 20 = .ok (.iload_n 1, 1) := by decide +kernel
theorem dX12_isBefore_21 : decode cX12_isBefore 21 = .ok (.iconst 2, 1) := by decide +kernel
theorem dX12_isBefore_22 : decode cX12_isBefore 22 = .ok (.invokevirtual 97, 3) := by decide +kernel
theorem dX12_isBefore_25 : decode cX12_isBefore 25 = .ok (.aload_n 0, 1) := by decide +kernel
theorem dX12_isBefore_26 : decode cX12_isBefore 26 = .ok (.iload_n 2, 1) := by decide +kernel
theorem dX12_isBefore_27 : decode cX12_isBefore 27 = .ok (.iconst 2, 1) := by decide +kernel
theorem dX12_isBefore_28 : decode cX12_isBefore 28 = .ok (.invokevirtual 97, 3) := by decide +kernel
theorem dX12_isBefore_31 : decode cX12_isBefore 31 = .ok (.if_icmp .ne 12, 3) := by decide +kernel
theorem dX12_isBefore_34 : decode cX12_isBefore 34 = .ok (.iload_n 1, 1) := by decide +kernel
theorem dX12_isBefore_35 : decode cX12_isBefore 35 = .ok (.iload_n 2, 1) := by decide +kernel
theorem dX12_isBefore_36 : decode cX12_isBefore 36 = .ok (.if_icmp .ge 7, 3) := by decide +kernel
theorem dX12_isBefore_39 : decode cX12_isBefore 39 = .ok (.iconst 1, 1) := by decide +kernel
theorem dX12_isBefore_40 : decode cX12_isBefore 40 = .ok (.goto 4, 3) := by decide +kernel
theorem dX12_isBefore_43 : decode cX12_isBefore 43 = .ok (.iconst 0, 1) := by decide +kernel
theorem dX12_isBefore_44 : decode cX12_isBefore 44 = .ok (.ireturn, 1) := by decide +kernel
set_option maxHeartbeats 4000000 in
set_option maxRecDepth 100000 in
theorem w_X12_isBefore (l : Launch) (G : GP) (x : XP) (a1 : Int32) (a2 : Int32) (σ : Sto) (P : Int32 → Sto → Prop) (h : D_X12_isBefore a1 a2 σ P) : g_Meti l yX12_isBefore cX12_isBefore 3 (some .boolean) rm_X12_isBefore G x [.ref (g_ad G 87), .int a1, .int a2] σ P := by
  unfold D_X12_isBefore at h
  refine g_ofWi (by decide +kernel) (Nat.le_of_ble_eq_true rfl) ?_
  intro p e s m args below meth c Q ls C hM hl hret
  have hx := C.1
  have hb := C.2.1
  have hl : lv_has ls 3 [(0, .ref (g_ad G 87)), (1, .int a1), (2, .int a2)] := hl
  refine lv_iload_n (pc := 0) hx hb dX12_isBefore_0 rfl (lv_at hl 2 rfl) ?_
  refine lv_if_lt (pc := 1) (tgt := 39) hx hb dX12_isBefore_1 (by decide) (fun c1 => ?_) (fun c1 => ?_)
  · have h := h.1 c1
    refine lv_iconst (pc := 39) (v := 1) hx hb dX12_isBefore_39 (by decide) ?_
    refine lv_goto (pc := 40) (tgt := 44) hx hb dX12_isBefore_40 (by decide) ?_
    exact hret 44 _ _ _ _ _ dX12_isBefore_44 (by rfl) h hM
  · have h := h.2 c1
    refine lv_aload_n (pc := 4) hx hb dX12_isBefore_4 rfl (lv_at hl 0 rfl) ?_
    refine lv_iload_n (pc := 5) hx hb dX12_isBefore_5 rfl (lv_at hl 1 rfl) ?_
    refine lv_iconst (pc := 6) (v := 2) hx hb dX12_isBefore_6 (by decide) ?_
    refine g_cVi (pc := 7) C hM hl.1 yv_X12_of q6_131 (by decide) ce_87 rfl (w_X12_of l G x a1 2 σ _ h) rfl rfl ⟨⟨by decide, by decide⟩, by decide, by decide⟩ (Nat.le_of_ble_eq_true rfl) dX12_isBefore_7 (fun r7 s7 H locs h hM => ?_)
    refine lv_aload_n (pc := 10) hx hb dX12_isBefore_10 rfl (lv_at hl 0 rfl) ?_
    refine lv_iload_n (pc := 11) hx hb dX12_isBefore_11 rfl (lv_at hl 2 rfl) ?_
    refine lv_iconst (pc := 12) (v := 2) hx hb dX12_isBefore_12 (by decide) ?_
    refine g_cVi (pc := 13) C hM hl.1 yv_X12_of q6_131 (by decide) ce_87 rfl (w_X12_of l G x a2 2 s7 _ h) rfl rfl ⟨⟨by decide, by decide⟩, by decide, by decide⟩ (Nat.le_of_ble_eq_true rfl) dX12_isBefore_13 (fun r13 s13 H locs h hM => ?_)
    refine lv_icmp_gt (pc := 16) (tgt := 39) hx hb dX12_isBefore_16 (by decide) (fun c16 => ?_) (fun c16 => ?_)
    · have h := h.1 c16
      refine lv_iconst (pc := 39) (v := 1) hx hb dX12_isBefore_39 (by decide) ?_
      refine lv_goto (pc := 40) (tgt := 44) hx hb dX12_isBefore_40 (by decide) ?_
      exact hret 44 _ _ _ _ _ dX12_isBefore_44 (by rfl) h hM
    · have h := h.2 c16
      refine lv_aload_n (pc := 19) hx hb dX12_isBefore_19 rfl (lv_at hl 0 rfl) ?_
      refine lv_iload_n (pc := 20) hx hb dX12_isBefore_20 rfl (lv_at hl 1 rfl) ?_
      refine lv_iconst (pc := 21) (v := 2) hx hb dX12_isBefore_21 (by decide) ?_
      refine g_cVi (pc := 22) C hM hl.1 yv_X12_of q6_131 (by decide) ce_87 rfl (w_X12_of l G x a1 2 s13 _ h) rfl rfl ⟨⟨by decide, by decide⟩, by decide, by decide⟩ (Nat.le_of_ble_eq_true rfl) dX12_isBefore_22 (fun r22 s22 H locs h hM => ?_)
      refine lv_aload_n (pc := 25) hx hb dX12_isBefore_25 rfl (lv_at hl 0 rfl) ?_
      refine lv_iload_n (pc := 26) hx hb dX12_isBefore_26 rfl (lv_at hl 2 rfl) ?_
      refine lv_iconst (pc := 27) (v := 2) hx hb dX12_isBefore_27 (by decide) ?_
      refine g_cVi (pc := 28) C hM hl.1 yv_X12_of q6_131 (by decide) ce_87 rfl (w_X12_of l G x a2 2 s22 _ h) rfl rfl ⟨⟨by decide, by decide⟩, by decide, by decide⟩ (Nat.le_of_ble_eq_true rfl) dX12_isBefore_28 (fun r28 s28 H locs h hM => ?_)
      refine lv_icmp_ne (pc := 31) (tgt := 43) hx hb dX12_isBefore_31 (by decide) (fun c31 => ?_) (fun c31 => ?_)
      · have h := h.2 c31
        refine lv_iconst (pc := 43) (v := 0) hx hb dX12_isBefore_43 (by decide) ?_
        exact hret 44 _ _ _ _ _ dX12_isBefore_44 (by rfl) h hM
      · have h := h.1 c31
        refine lv_iload_n (pc := 34) hx hb dX12_isBefore_34 rfl (lv_at hl 1 rfl) ?_
        refine lv_iload_n (pc := 35) hx hb dX12_isBefore_35 rfl (lv_at hl 2 rfl) ?_
        refine lv_icmp_ge (pc := 36) (tgt := 43) hx hb dX12_isBefore_36 (by decide) (fun c36 => ?_) (fun c36 => ?_)
        · have h := h.1 c36
          refine lv_iconst (pc := 43) (v := 0) hx hb dX12_isBefore_43 (by decide) ?_
          exact hret 44 _ _ _ _ _ dX12_isBefore_44 (by rfl) h hM
        · have h := h.2 c36
          refine lv_iconst (pc := 39) (v := 1) hx hb dX12_isBefore_39 (by decide) ?_
          refine lv_goto (pc := 40) (tgt := 44) hx hb dX12_isBefore_40 (by decide) ?_
          exact hret 44 _ _ _ _ _ dX12_isBefore_44 (by rfl) h hM
abbrev rm_X12_decisionOf : Room := { frames := 2, cells := 0, slots := 0, locals := 44 }
theorem dX12_decisionOf_0 : decode cX12_decisionOf 0 = .ok (.aload_n 0, 1) := by decide +kernel
theorem dX12_decisionOf_1 : decode cX12_decisionOf 1 = .ok (.getfield 31, 3) := by decide +kernel
theorem dX12_decisionOf_4 : decode cX12_decisionOf 4 = .ok (.iconst 0, 1) := by decide +kernel
theorem dX12_decisionOf_5 : decode cX12_decisionOf 5 = .ok (.iconst (-1), 1) := by decide +kernel
theorem dX12_decisionOf_6 : decode cX12_decisionOf 6 = .ok (.iastore, 1) := by decide +kernel
theorem dX12_decisionOf_7 : decode cX12_decisionOf 7 = .ok (.aload_n 0, 1) := by decide +kernel
theorem dX12_decisionOf_8 : decode cX12_decisionOf 8 = .ok (.getfield 31, 3) := by decide +kernel
theorem dX12_decisionOf_11 : decode cX12_decisionOf 11 = .ok (.iconst 1, 1) := by decide +kernel
theorem dX12_decisionOf_12 : decode cX12_decisionOf 12 = .ok (.iconst (-1), 1) := by decide +kernel
theorem dX12_decisionOf_13 : decode cX12_decisionOf 13 = .ok (.iastore, 1) := by decide +kernel
theorem dX12_decisionOf_14 : decode cX12_decisionOf 14 = .ok (.aload_n 0, 1) := by decide +kernel
theorem dX12_decisionOf_15 : decode cX12_decisionOf 15 = .ok (.iconst 0, 1) := by decide +kernel
theorem dX12_decisionOf_16 : decode cX12_decisionOf 16 = .ok (.putfield 174, 3) := by decide +kernel
theorem dX12_decisionOf_19 : decode cX12_decisionOf 19 = .ok (.iconst 0, 1) := by decide +kernel
theorem dX12_decisionOf_20 : decode cX12_decisionOf 20 = .ok (.istore_n 2, 1) := by decide +kernel
theorem dX12_decisionOf_21 : decode cX12_decisionOf 21 = .ok (.iload_n 2, 1) := by decide +kernel
theorem dX12_decisionOf_22 : decode cX12_decisionOf 22 = .ok (.aload_n 0, 1) := by decide +kernel
theorem dX12_decisionOf_23 : decode cX12_decisionOf 23 = .ok (.getfield 7, 3) := by decide +kernel
theorem dX12_decisionOf_26 : decode cX12_decisionOf 26 = .ok (.iconst 0, 1) := by decide +kernel
theorem dX12_decisionOf_27 : decode cX12_decisionOf 27 = .ok (.iaload, 1) := by decide +kernel
theorem dX12_decisionOf_28 : decode cX12_decisionOf 28 = .ok (.if_icmp .ge 74, 3) := by decide +kernel
theorem dX12_decisionOf_31 : decode cX12_decisionOf 31 = .ok (.aload_n 0, 1) := by decide +kernel
theorem dX12_decisionOf_32 : decode cX12_decisionOf 32 = .ok (.iload_n 2, 1) := by decide +kernel
theorem dX12_decisionOf_33 : decode cX12_decisionOf 33 = .ok (.iconst 0, 1) := by decide +kernel
theorem dX12_decisionOf_34 : decode cX12_decisionOf 34 = .ok (.invokevirtual 97, 3) := by decide +kernel
theorem dX12_decisionOf_37 : decode cX12_decisionOf 37 = .ok (.iload_n 1, 1) := by decide +kernel
theorem dX12_decisionOf_38 : decode cX12_decisionOf 38 = .ok (.if_icmp .ne 58, 3) := by decide +kernel
theorem dX12_decisionOf_41 : decode cX12_decisionOf 41 = .ok (.aload_n 0, 1) := by decide +kernel
theorem dX12_decisionOf_42 : decode cX12_decisionOf 42 = .ok (.iload_n 2, 1) := by decide +kernel
theorem dX12_decisionOf_43 : decode cX12_decisionOf 43 = .ok (.invokevirtual 177, 3) := by decide +kernel
theorem dX12_decisionOf_46 : decode cX12_decisionOf 46 = .ok (.ifCond .eq 50, 3) := by decide +kernel
theorem dX12_decisionOf_49 : decode cX12_decisionOf 49 = .ok (.aload_n 0, 1) := by decide +kernel
theorem dX12_decisionOf_50 : decode cX12_decisionOf 50 = .ok (.iload_n 2, 1) := by decide +kernel
theorem dX12_decisionOf_51 : decode cX12_decisionOf 51 = .ok (.iconst 1, 1) := by decide +kernel
theorem dX12_decisionOf_52 : decode cX12_decisionOf 52 = .ok (.invokevirtual 97, 3) := by decide +kernel
theorem dX12_decisionOf_55 : decode cX12_decisionOf 55 = .ok (.istore_n 3, 1) := by decide +kernel
theorem dX12_decisionOf_56 : decode cX12_decisionOf 56 = .ok (.aload_n 0, 1) := by decide +kernel
theorem dX12_decisionOf_57 : decode cX12_decisionOf 57 = .ok (.getfield 31, 3) := by decide +kernel
theorem dX12_decisionOf_60 : decode cX12_decisionOf 60 = .ok (.iload_n 3, 1) := by decide +kernel
theorem dX12_decisionOf_61 : decode cX12_decisionOf 61 = .ok (.aload_n 0, 1) := by decide +kernel
theorem dX12_decisionOf_62 : decode cX12_decisionOf 62 = .ok (.iload_n 2, 1) := by decide +kernel
theorem dX12_decisionOf_63 : decode cX12_decisionOf 63 = .ok (.aload_n 0, 1) := by decide +kernel
theorem dX12_decisionOf_64 : decode cX12_decisionOf 64 = .ok (.getfield 31, 3) := by decide +kernel
theorem dX12_decisionOf_67 : decode cX12_decisionOf 67 = .ok (.iload_n 3, 1) := by decide +kernel
theorem dX12_decisionOf_68 : decode cX12_decisionOf 68 = .ok (.iaload, 1) := by decide +kernel
theorem dX12_decisionOf_69 : decode cX12_decisionOf 69 = .ok (.invokevirtual 180, 3) := by decide +kernel
theorem dX12_decisionOf_72 : decode cX12_decisionOf 72 = .ok (.ifCond .eq 7, 3) := by decide +kernel
theorem dX12_decisionOf_75 : decode cX12_decisionOf 75 = .ok (.iload_n 2, 1) := by decide +kernel
theorem dX12_decisionOf_76 : decode cX12_decisionOf 76 = .ok (.goto 9, 3) := by decide +kernel
theorem dX12_decisionOf_79 : decode cX12_decisionOf 79 = .ok (.aload_n 0, 1) := by decide +kernel
theorem dX12_decisionOf_80 : decode cX12_decisionOf 80 = .ok (.getfield 31, 3) := by decide +kernel
theorem dX12_decisionOf_83 : decode cX12_decisionOf 83 = .ok (.iload_n 3, 1) := by decide +kernel
theorem dX12_decisionOf_84 : decode cX12_decisionOf 84 = .ok (.iaload, 1) := by decide +kernel
theorem dX12_decisionOf_85 : decode cX12_decisionOf 85 = .ok (.iastore, 1) := by decide +kernel
theorem dX12_decisionOf_86 : decode cX12_decisionOf 86 = .ok (.aload_n 0, 1) := by decide +kernel
theorem dX12_decisionOf_87 : decode cX12_decisionOf 87 = .ok (.dup, 1) := by decide +kernel
theorem dX12_decisionOf_88 : decode cX12_decisionOf 88 = .ok (.getfield 174, 3) := by decide +kernel
theorem dX12_decisionOf_91 : decode cX12_decisionOf 91 = .ok (.iconst 1, 1) := by decide +kernel
theorem dX12_decisionOf_92 : decode cX12_decisionOf 92 = .ok (.iadd, 1) := by decide +kernel
theorem dX12_decisionOf_93 : decode cX12_decisionOf 93 = .ok (.putfield 174, 3) := by decide +kernel
theorem dX12_decisionOf_96 : decode cX12_decisionOf 96 = .ok (.iinc 2 1, 3) := by decide +kernel
theorem dX12_decisionOf_99 : decode cX12_decisionOf 99 = .ok (.goto (-78), 3) := by decide +kernel
theorem dX12_decisionOf_102 : decode cX12_decisionOf 102 = .ok (.aload_n 0, 1) := by decide +kernel
theorem dX12_decisionOf_103 : decode cX12_decisionOf 103 = .ok (.getfield 174, 3) := by decide +kernel
theorem dX12_decisionOf_106 : decode cX12_decisionOf 106 = .ok (.ifCond .ne 5, 3) := by decide +kernel
theorem dX12_decisionOf_109 : decode cX12_decisionOf 109 = .ok (.iconst 2, 1) := by decide +kernel
theorem dX12_decisionOf_110 : decode cX12_decisionOf 110 = .ok (.ireturn, 1) := by decide +kernel
theorem dX12_decisionOf_111 : decode cX12_decisionOf 111 = .ok (.aload_n 0, 1) := by decide +kernel
theorem dX12_decisionOf_112 : decode cX12_decisionOf 112 = .ok (.getfield 7, 3) := by decide +kernel
theorem dX12_decisionOf_115 : decode cX12_decisionOf 115 = .ok (.iconst 1, 1) := by decide +kernel
theorem dX12_decisionOf_116 : decode cX12_decisionOf 116 = .ok (.iload_n 1, 1) := by decide +kernel
theorem dX12_decisionOf_117 : decode cX12_decisionOf 117 = .ok (.iadd, 1) := by decide +kernel
theorem dX12_decisionOf_118 : decode cX12_decisionOf 118 = .ok (.iaload, 1) := by decide +kernel
theorem dX12_decisionOf_119 : decode cX12_decisionOf 119 = .ok (.tableswitch 98 0 2 #[25, 40, 55], 25) := by decide +kernel
theorem dX12_decisionOf_144 : decode cX12_decisionOf 144 = .ok (.aload_n 0, 1) := by decide +kernel
theorem dX12_decisionOf_145 : decode cX12_decisionOf 145 = .ok (.getfield 31, 3) := by decide +kernel
theorem dX12_decisionOf_148 : decode cX12_decisionOf 148 = .ok (.iconst 1, 1) := by decide +kernel
theorem dX12_decisionOf_149 : decode cX12_decisionOf 149 = .ok (.iaload, 1) := by decide +kernel
theorem dX12_decisionOf_150 : decode cX12_decisionOf 150 = .ok (.ifCond .lt 7, 3) := by decide +kernel
theorem dX12_decisionOf_153 : decode cX12_decisionOf 153 = .ok (.iconst 1, 1) := by decide +kernel
theorem dX12_decisionOf_154 : decode cX12_decisionOf 154 = .ok (.goto 4, 3) := by decide +kernel
theorem dX12_decisionOf_157 : decode cX12_decisionOf 157 = .ok (.iconst 0, 1) := by decide +kernel
theorem dX12_decisionOf_158 : decode cX12_decisionOf 158 = .ok (.ireturn, 1) := by decide +kernel
theorem dX12_decisionOf_159 : decode cX12_decisionOf 159 = .ok (.aload_n 0, 1) := by decide +kernel
theorem dX12_decisionOf_160 : decode cX12_decisionOf 160 = .ok (.getfield 31, 3) := by decide +kernel
theorem dX12_decisionOf_163 : decode cX12_decisionOf 163 = .ok (.iconst 0, 1) := by decide +kernel
theorem dX12_decisionOf_164 : decode cX12_decisionOf 164 = .ok (.iaload, 1) := by decide +kernel
theorem dX12_decisionOf_165 : decode cX12_decisionOf 165 = .ok (.ifCond .lt 7, 3) := by decide +kernel
theorem dX12_decisionOf_168 : decode cX12_decisionOf 168 = .ok (.iconst 0, 1) := by decide +kernel
theorem dX12_decisionOf_169 : decode cX12_decisionOf 169 = .ok (.goto 4, 3) := by decide +kernel
theorem dX12_decisionOf_172 : decode cX12_decisionOf 172 = .ok (.iconst 1, 1) := by decide +kernel
theorem dX12_decisionOf_173 : decode cX12_decisionOf 173 = .ok (.ireturn, 1) := by decide +kernel
theorem dX12_decisionOf_174 : decode cX12_decisionOf 174 = .ok (.aload_n 0, 1) := by decide +kernel
theorem dX12_decisionOf_175 : decode cX12_decisionOf 175 = .ok (.getfield 31, 3) := by decide +kernel
theorem dX12_decisionOf_178 : decode cX12_decisionOf 178 = .ok (.iconst 0, 1) := by decide +kernel
theorem dX12_decisionOf_179 : decode cX12_decisionOf 179 = .ok (.iaload, 1) := by decide +kernel
theorem dX12_decisionOf_180 : decode cX12_decisionOf 180 = .ok (.ifCond .lt 31, 3) := by decide +kernel
theorem dX12_decisionOf_183 : decode cX12_decisionOf 183 = .ok (.aload_n 0, 1) := by decide +kernel
theorem dX12_decisionOf_184 : decode cX12_decisionOf 184 = .ok (.getfield 31, 3) := by decide +kernel
theorem dX12_decisionOf_187 : decode cX12_decisionOf 187 = .ok (.iconst 1, 1) := by decide +kernel
theorem dX12_decisionOf_188 : decode cX12_decisionOf 188 = .ok (.iaload, 1) := by decide +kernel
theorem dX12_decisionOf_189 : decode cX12_decisionOf 189 = .ok (.ifCond .lt 26, 3) := by decide +kernel
theorem dX12_decisionOf_192 : decode cX12_decisionOf 192 = .ok (.aload_n 0, 1) := by decide +kernel
theorem dX12_decisionOf_193 : decode cX12_decisionOf 193 = .ok (.aload_n 0, 1) := by decide +kernel
theorem dX12_decisionOf_194 : decode cX12_decisionOf 194 = .ok (.getfield 31, 3) := by decide +kernel
theorem dX12_decisionOf_197 : decode cX12_decisionOf 197 = .ok (.iconst 1, 1) := by decide +kernel
theorem dX12_decisionOf_198 : decode cX12_decisionOf 198 = .ok (.iaload, 1) := by decide +kernel
theorem dX12_decisionOf_199 : decode cX12_decisionOf 199 = .ok (.aload_n 0, 1) := by decide +kernel
theorem dX12_decisionOf_200 : decode cX12_decisionOf 200 = .ok (.getfield 31, 3) := by decide +kernel
theorem dX12_decisionOf_203 : decode cX12_decisionOf 203 = .ok (.iconst 0, 1) := by decide +kernel
theorem dX12_decisionOf_204 : decode cX12_decisionOf 204 = .ok (.iaload, 1) := by decide +kernel
theorem dX12_decisionOf_205 : decode cX12_decisionOf 205 = .ok (.invokevirtual 180, 3) := by decide +kernel
theorem dX12_decisionOf_208 : decode cX12_decisionOf 208 = .ok (.ifCond .eq 7, 3) := by decide +kernel
theorem dX12_decisionOf_211 : decode cX12_decisionOf 211 = .ok (.iconst 1, 1) := by decide +kernel
theorem dX12_decisionOf_212 : decode cX12_decisionOf 212 = .ok (.goto 4, 3) := by decide +kernel
theorem dX12_decisionOf_215 : decode cX12_decisionOf 215 = .ok (.iconst 0, 1) := by decide +kernel
theorem dX12_decisionOf_216 : decode cX12_decisionOf 216 = .ok (.ireturn, 1) := by decide +kernel
theorem dX12_decisionOf_217 : decode cX12_decisionOf 217 = .ok (.aload_n 0, 1) := by decide +kernel
theorem dX12_decisionOf_218 : decode cX12_decisionOf 218 = .ok (.getfield 174, 3) := by decide +kernel
theorem dX12_decisionOf_221 : decode cX12_decisionOf 221 = .ok (.iconst 1, 1) := by decide +kernel
theorem dX12_decisionOf_222 : decode cX12_decisionOf 222 = .ok (.if_icmp .le 7, 3) := by decide +kernel
theorem dX12_decisionOf_225 : decode cX12_decisionOf 225 = .ok (.iconst 3, 1) := by decide +kernel
theorem dX12_decisionOf_226 : decode cX12_decisionOf 226 = .ok (.goto 17, 3) := by decide +kernel
theorem dX12_decisionOf_229 : decode cX12_decisionOf 229 = .ok (.aload_n 0, 1) := by decide +kernel
theorem dX12_decisionOf_230 : decode cX12_decisionOf 230 = .ok (.getfield 31, 3) := by decide +kernel
theorem dX12_decisionOf_233 : decode cX12_decisionOf 233 = .ok (.iconst 0, 1) := by decide +kernel
theorem dX12_decisionOf_234 : decode cX12_decisionOf 234 = .ok (.iaload, 1) := by decide +kernel
theorem dX12_decisionOf_235 : decode cX12_decisionOf 235 = .ok (.ifCond .lt 7, 3) := by decide +kernel
theorem dX12_decisionOf_238 : decode cX12_decisionOf 238 = .ok (.iconst 0, 1) := by decide +kernel
theorem dX12_decisionOf_239 : decode cX12_decisionOf 239 = .ok (.goto 4, 3) := by decide +kernel
theorem dX12_decisionOf_242 : decode cX12_decisionOf 242 = .ok (.iconst 1, 1) := by decide +kernel
theorem dX12_decisionOf_243 : decode cX12_decisionOf 243 = .ok (.ireturn, 1) := by decide +kernel
set_option maxHeartbeats 4000000 in
set_option maxRecDepth 100000 in
theorem w_X12_decisionOf (l : Launch) (G : GP) (x : XP) (a1 : Int32) (σ : Sto) (P : Int32 → Sto → Prop) (h : D_X12_decisionOf a1 σ P) : g_Meti l yX12_decisionOf cX12_decisionOf 4 (some .int) rm_X12_decisionOf G x [.ref (g_ad G 87), .int a1] σ P := by
  unfold D_X12_decisionOf at h
  refine g_ofWi (by decide +kernel) (Nat.le_of_ble_eq_true rfl) ?_
  intro p e s m args below meth c Q ls C hM hl hret
  have hx := C.1
  have hb := C.2.1
  have hl : lv_has ls 4 [(0, .ref (g_ad G 87)), (1, .int a1)] := hl
  have h := h (fun (v2 : Int32) (σ : Sto) => ∀ (H : Heap) (locs : List Loc) (ls : Array Slot), g_M G x σ s H locs → lv_has ls 4 [(0, .ref (g_ad G 87)), (1, .int a1), (2, .int v2)] → W p l e rm_X12_decisionOf s m args below meth c H locs 0 0 Q (F0 m 21 ls []))
  have h := h (by
    intro v2 σ h  H locs ls hM hl
    refine lv_iload_n (pc := 21) hx hb dX12_decisionOf_21 rfl (lv_at hl 2 rfl) ?_
    refine lv_aload_n (pc := 22) hx hb dX12_decisionOf_22 rfl (lv_at hl 0 rfl) ?_
    refine g_get (pc := 23) (v := .ref (g_ad G 88)) C hM (by decide) ce_87 fl_RX12_7 rfl dX12_decisionOf_23 ?_
    refine lv_iconst (pc := 26) (v := 0) hx hb dX12_decisionOf_26 (by decide) ?_
    refine g_ialdK (pc := 27) (k := 0) C hM (by decide) ce_88 (vp_in_nI (n := 0) (by decide) (by decide)) rfl dX12_decisionOf_27 ?_
    refine lv_icmp_ge (pc := 28) (tgt := 102) hx hb dX12_decisionOf_28 (by decide) (fun c28 => ?_) (fun c28 => ?_)
    · have h := h.1 c28
      refine lv_aload_n (pc := 102) hx hb dX12_decisionOf_102 rfl (lv_at hl 0 rfl) ?_
      refine g_get (pc := 103) (v := .int (σ 87 13)) C hM (by decide) ce_87 fl_RX12_174 rfl dX12_decisionOf_103 ?_
      refine lv_if_ne (pc := 106) (tgt := 111) hx hb dX12_decisionOf_106 (by decide) (fun c106 => ?_) (fun c106 => ?_)
      · have h := h.2 c106
        refine lv_aload_n (pc := 111) hx hb dX12_decisionOf_111 rfl (lv_at hl 0 rfl) ?_
        refine g_get (pc := 112) (v := .ref (g_ad G 88)) C hM (by decide) ce_87 fl_RX12_7 rfl dX12_decisionOf_112 ?_
        refine lv_iconst (pc := 115) (v := 1) hx hb dX12_decisionOf_115 (by decide) ?_
        refine lv_iload_n (pc := 116) hx hb dX12_decisionOf_116 rfl (lv_at hl 1 rfl) ?_
        refine lv_iadd (pc := 117) hx hb dX12_decisionOf_117 ?_
        obtain ⟨hc, h⟩ := h
        refine g_ialdK (pc := 118) C hM (by decide) ce_88 hc rfl dX12_decisionOf_118 ?_
        by_cases c119_0 : (σ 88 (ix (1 + a1))) = 0
        · have h := h.1 c119_0
          refine lv_tableIn (pc := 119) (tgt := 144) hx hb dX12_decisionOf_119 (by rw [c119_0]; decide) (by rw [c119_0]; decide) (by rw [c119_0]; rfl) (by decide) ?_
          refine lv_aload_n (pc := 144) hx hb dX12_decisionOf_144 rfl (lv_at hl 0 rfl) ?_
          refine g_get (pc := 145) (v := .ref (g_ad G 95)) C hM (by decide) ce_87 fl_RX12_31 rfl dX12_decisionOf_145 ?_
          refine lv_iconst (pc := 148) (v := 1) hx hb dX12_decisionOf_148 (by decide) ?_
          refine g_ialdK (pc := 149) (k := 1) C hM (by decide) ce_95 (vp_in_nI (n := 1) (by decide) (by decide)) rfl dX12_decisionOf_149 ?_
          refine lv_if_lt (pc := 150) (tgt := 157) hx hb dX12_decisionOf_150 (by decide) (fun c150 => ?_) (fun c150 => ?_)
          · have h := h.1 c150
            refine lv_iconst (pc := 157) (v := 0) hx hb dX12_decisionOf_157 (by decide) ?_
            exact hret 158 _ _ _ _ _ dX12_decisionOf_158 (by rfl) h hM
          · have h := h.2 c150
            refine lv_iconst (pc := 153) (v := 1) hx hb dX12_decisionOf_153 (by decide) ?_
            refine lv_goto (pc := 154) (tgt := 158) hx hb dX12_decisionOf_154 (by decide) ?_
            exact hret 158 _ _ _ _ _ dX12_decisionOf_158 (by rfl) h hM
        · have h := h.2 c119_0
          by_cases c119_1 : (σ 88 (ix (1 + a1))) = 1
          · have h := h.1 c119_1
            refine lv_tableIn (pc := 119) (tgt := 159) hx hb dX12_decisionOf_119 (by rw [c119_1]; decide) (by rw [c119_1]; decide) (by rw [c119_1]; rfl) (by decide) ?_
            refine lv_aload_n (pc := 159) hx hb dX12_decisionOf_159 rfl (lv_at hl 0 rfl) ?_
            refine g_get (pc := 160) (v := .ref (g_ad G 95)) C hM (by decide) ce_87 fl_RX12_31 rfl dX12_decisionOf_160 ?_
            refine lv_iconst (pc := 163) (v := 0) hx hb dX12_decisionOf_163 (by decide) ?_
            refine g_ialdK (pc := 164) (k := 0) C hM (by decide) ce_95 (vp_in_nI (n := 0) (by decide) (by decide)) rfl dX12_decisionOf_164 ?_
            refine lv_if_lt (pc := 165) (tgt := 172) hx hb dX12_decisionOf_165 (by decide) (fun c165 => ?_) (fun c165 => ?_)
            · have h := h.1 c165
              refine lv_iconst (pc := 172) (v := 1) hx hb dX12_decisionOf_172 (by decide) ?_
              exact hret 173 _ _ _ _ _ dX12_decisionOf_173 (by rfl) h hM
            · have h := h.2 c165
              refine lv_iconst (pc := 168) (v := 0) hx hb dX12_decisionOf_168 (by decide) ?_
              refine lv_goto (pc := 169) (tgt := 173) hx hb dX12_decisionOf_169 (by decide) ?_
              exact hret 173 _ _ _ _ _ dX12_decisionOf_173 (by rfl) h hM
          · have h := h.2 c119_1
            by_cases c119_2 : (σ 88 (ix (1 + a1))) = 2
            · have h := h.1 c119_2
              refine lv_tableIn (pc := 119) (tgt := 174) hx hb dX12_decisionOf_119 (by rw [c119_2]; decide) (by rw [c119_2]; decide) (by rw [c119_2]; rfl) (by decide) ?_
              refine lv_aload_n (pc := 174) hx hb dX12_decisionOf_174 rfl (lv_at hl 0 rfl) ?_
              refine g_get (pc := 175) (v := .ref (g_ad G 95)) C hM (by decide) ce_87 fl_RX12_31 rfl dX12_decisionOf_175 ?_
              refine lv_iconst (pc := 178) (v := 0) hx hb dX12_decisionOf_178 (by decide) ?_
              refine g_ialdK (pc := 179) (k := 0) C hM (by decide) ce_95 (vp_in_nI (n := 0) (by decide) (by decide)) rfl dX12_decisionOf_179 ?_
              refine lv_if_lt (pc := 180) (tgt := 211) hx hb dX12_decisionOf_180 (by decide) (fun c180 => ?_) (fun c180 => ?_)
              · have h := h.1 c180
                refine lv_iconst (pc := 211) (v := 1) hx hb dX12_decisionOf_211 (by decide) ?_
                refine lv_goto (pc := 212) (tgt := 216) hx hb dX12_decisionOf_212 (by decide) ?_
                exact hret 216 _ _ _ _ _ dX12_decisionOf_216 (by rfl) h hM
              · have h := h.2 c180
                refine lv_aload_n (pc := 183) hx hb dX12_decisionOf_183 rfl (lv_at hl 0 rfl) ?_
                refine g_get (pc := 184) (v := .ref (g_ad G 95)) C hM (by decide) ce_87 fl_RX12_31 rfl dX12_decisionOf_184 ?_
                refine lv_iconst (pc := 187) (v := 1) hx hb dX12_decisionOf_187 (by decide) ?_
                refine g_ialdK (pc := 188) (k := 1) C hM (by decide) ce_95 (vp_in_nI (n := 1) (by decide) (by decide)) rfl dX12_decisionOf_188 ?_
                refine lv_if_lt (pc := 189) (tgt := 215) hx hb dX12_decisionOf_189 (by decide) (fun c189 => ?_) (fun c189 => ?_)
                · have h := h.1 c189
                  refine lv_iconst (pc := 215) (v := 0) hx hb dX12_decisionOf_215 (by decide) ?_
                  exact hret 216 _ _ _ _ _ dX12_decisionOf_216 (by rfl) h hM
                · have h := h.2 c189
                  refine lv_aload_n (pc := 192) hx hb dX12_decisionOf_192 rfl (lv_at hl 0 rfl) ?_
                  refine lv_aload_n (pc := 193) hx hb dX12_decisionOf_193 rfl (lv_at hl 0 rfl) ?_
                  refine g_get (pc := 194) (v := .ref (g_ad G 95)) C hM (by decide) ce_87 fl_RX12_31 rfl dX12_decisionOf_194 ?_
                  refine lv_iconst (pc := 197) (v := 1) hx hb dX12_decisionOf_197 (by decide) ?_
                  refine g_ialdK (pc := 198) (k := 1) C hM (by decide) ce_95 (vp_in_nI (n := 1) (by decide) (by decide)) rfl dX12_decisionOf_198 ?_
                  refine lv_aload_n (pc := 199) hx hb dX12_decisionOf_199 rfl (lv_at hl 0 rfl) ?_
                  refine g_get (pc := 200) (v := .ref (g_ad G 95)) C hM (by decide) ce_87 fl_RX12_31 rfl dX12_decisionOf_200 ?_
                  refine lv_iconst (pc := 203) (v := 0) hx hb dX12_decisionOf_203 (by decide) ?_
                  refine g_ialdK (pc := 204) (k := 0) C hM (by decide) ce_95 (vp_in_nI (n := 0) (by decide) (by decide)) rfl dX12_decisionOf_204 ?_
                  refine g_cVi (pc := 205) C hM hl.1 yv_X12_isBefore q7_76 (by decide) ce_87 rfl (w_X12_isBefore l G x (σ 95 1) (σ 95 0) σ _ h) rfl rfl ⟨⟨by decide, by decide⟩, by decide, by decide⟩ (Nat.le_of_ble_eq_true rfl) dX12_decisionOf_205 (fun r205 s205 H locs h hM => ?_)
                  refine lv_if_eq (pc := 208) (tgt := 215) hx hb dX12_decisionOf_208 (by decide) (fun c208 => ?_) (fun c208 => ?_)
                  · have h := h.1 c208
                    refine lv_iconst (pc := 215) (v := 0) hx hb dX12_decisionOf_215 (by decide) ?_
                    exact hret 216 _ _ _ _ _ dX12_decisionOf_216 (by rfl) h hM
                  · have h := h.2 c208
                    refine lv_iconst (pc := 211) (v := 1) hx hb dX12_decisionOf_211 (by decide) ?_
                    refine lv_goto (pc := 212) (tgt := 216) hx hb dX12_decisionOf_212 (by decide) ?_
                    exact hret 216 _ _ _ _ _ dX12_decisionOf_216 (by rfl) h hM
            · have h := h.2 c119_2
              have ht : ((σ 88 (ix (1 + a1)))).toInt < 0 ∨ 2 < ((σ 88 (ix (1 + a1)))).toInt := by
                have nc119_0 := lv_neT c119_0 (a := 0) rfl
                have nc119_1 := lv_neT c119_1 (a := 1) rfl
                have nc119_2 := lv_neT c119_2 (a := 2) rfl
                omega
              refine lv_tableOut (pc := 119) (tgt := 217) hx hb dX12_decisionOf_119 ht (by decide) ?_
              refine lv_aload_n (pc := 217) hx hb dX12_decisionOf_217 rfl (lv_at hl 0 rfl) ?_
              refine g_get (pc := 218) (v := .int (σ 87 13)) C hM (by decide) ce_87 fl_RX12_174 rfl dX12_decisionOf_218 ?_
              refine lv_iconst (pc := 221) (v := 1) hx hb dX12_decisionOf_221 (by decide) ?_
              refine lv_icmp_le (pc := 222) (tgt := 229) hx hb dX12_decisionOf_222 (by decide) (fun c222 => ?_) (fun c222 => ?_)
              · have h := h.1 c222
                refine lv_aload_n (pc := 229) hx hb dX12_decisionOf_229 rfl (lv_at hl 0 rfl) ?_
                refine g_get (pc := 230) (v := .ref (g_ad G 95)) C hM (by decide) ce_87 fl_RX12_31 rfl dX12_decisionOf_230 ?_
                refine lv_iconst (pc := 233) (v := 0) hx hb dX12_decisionOf_233 (by decide) ?_
                refine g_ialdK (pc := 234) (k := 0) C hM (by decide) ce_95 (vp_in_nI (n := 0) (by decide) (by decide)) rfl dX12_decisionOf_234 ?_
                refine lv_if_lt (pc := 235) (tgt := 242) hx hb dX12_decisionOf_235 (by decide) (fun c235 => ?_) (fun c235 => ?_)
                · have h := h.1 c235
                  refine lv_iconst (pc := 242) (v := 1) hx hb dX12_decisionOf_242 (by decide) ?_
                  exact hret 243 _ _ _ _ _ dX12_decisionOf_243 (by rfl) h hM
                · have h := h.2 c235
                  refine lv_iconst (pc := 238) (v := 0) hx hb dX12_decisionOf_238 (by decide) ?_
                  refine lv_goto (pc := 239) (tgt := 243) hx hb dX12_decisionOf_239 (by decide) ?_
                  exact hret 243 _ _ _ _ _ dX12_decisionOf_243 (by rfl) h hM
              · have h := h.2 c222
                refine lv_iconst (pc := 225) (v := 3) hx hb dX12_decisionOf_225 (by decide) ?_
                refine lv_goto (pc := 226) (tgt := 243) hx hb dX12_decisionOf_226 (by decide) ?_
                exact hret 243 _ _ _ _ _ dX12_decisionOf_243 (by rfl) h hM
      · have h := h.1 c106
        refine lv_iconst (pc := 109) (v := 2) hx hb dX12_decisionOf_109 (by decide) ?_
        exact hret 110 _ _ _ _ _ dX12_decisionOf_110 (by rfl) h hM
    · have h := h.2 c28
      refine lv_aload_n (pc := 31) hx hb dX12_decisionOf_31 rfl (lv_at hl 0 rfl) ?_
      refine lv_iload_n (pc := 32) hx hb dX12_decisionOf_32 rfl (lv_at hl 2 rfl) ?_
      refine lv_iconst (pc := 33) (v := 0) hx hb dX12_decisionOf_33 (by decide) ?_
      refine g_cVi (pc := 34) C hM hl.1 yv_X12_of q6_131 (by decide) ce_87 rfl (w_X12_of l G x v2 0 σ _ h) rfl rfl ⟨⟨by decide, by decide⟩, by decide, by decide⟩ (Nat.le_of_ble_eq_true rfl) dX12_decisionOf_34 (fun r34 s34 H locs h hM => ?_)
      refine lv_iload_n (pc := 37) hx hb dX12_decisionOf_37 rfl (lv_at hl 1 rfl) ?_
      refine lv_icmp_ne (pc := 38) (tgt := 96) hx hb dX12_decisionOf_38 (by decide) (fun c38 => ?_) (fun c38 => ?_)
      · have h := h.2 c38
        refine lv_iinc (pc := 96) (v := (v2 + 1)) (lv' := [(2, .int (v2 + 1)), (0, .ref (g_ad G 87)), (1, .int a1)]) hx hb dX12_decisionOf_96 hl (k := 2) rfl (by rfl) (by decide) rfl (fun ls hl => ?_)
        refine lv_goto (pc := 99) (tgt := 21) hx hb dX12_decisionOf_99 (by decide) ?_
        exact h _ _ _ hM (lv_sub hl [1, 2, 0] rfl)
      · have h := h.1 c38
        refine lv_aload_n (pc := 41) hx hb dX12_decisionOf_41 rfl (lv_at hl 0 rfl) ?_
        refine lv_iload_n (pc := 42) hx hb dX12_decisionOf_42 rfl (lv_at hl 2 rfl) ?_
        refine g_cVi (pc := 43) C hM hl.1 yv_X12_appliesTo q7_72 (by decide) ce_87 rfl (w_X12_appliesTo l G x v2 s34 _ h) rfl rfl ⟨⟨by decide, by decide⟩, by decide, by decide⟩ (Nat.le_of_ble_eq_true rfl) dX12_decisionOf_43 (fun r43 s43 H locs h hM => ?_)
        refine lv_if_eq (pc := 46) (tgt := 96) hx hb dX12_decisionOf_46 (by decide) (fun c46 => ?_) (fun c46 => ?_)
        · have h := h.1 c46
          refine lv_iinc (pc := 96) (v := (v2 + 1)) (lv' := [(2, .int (v2 + 1)), (0, .ref (g_ad G 87)), (1, .int a1)]) hx hb dX12_decisionOf_96 hl (k := 2) rfl (by rfl) (by decide) rfl (fun ls hl => ?_)
          refine lv_goto (pc := 99) (tgt := 21) hx hb dX12_decisionOf_99 (by decide) ?_
          exact h _ _ _ hM (lv_sub hl [1, 2, 0] rfl)
        · have h := h.2 c46
          refine lv_aload_n (pc := 49) hx hb dX12_decisionOf_49 rfl (lv_at hl 0 rfl) ?_
          refine lv_iload_n (pc := 50) hx hb dX12_decisionOf_50 rfl (lv_at hl 2 rfl) ?_
          refine lv_iconst (pc := 51) (v := 1) hx hb dX12_decisionOf_51 (by decide) ?_
          refine g_cVi (pc := 52) C hM hl.1 yv_X12_of q6_131 (by decide) ce_87 rfl (w_X12_of l G x v2 1 s43 _ h) rfl rfl ⟨⟨by decide, by decide⟩, by decide, by decide⟩ (Nat.le_of_ble_eq_true rfl) dX12_decisionOf_52 (fun r52 s52 H locs h hM => ?_)
          refine lv_istore_n (pc := 55) (lv' := [(3, .int r52), (0, .ref (g_ad G 87)), (1, .int a1), (2, .int v2)]) hx hb dX12_decisionOf_55 rfl hl (by decide) rfl (fun ls hl => ?_)
          refine lv_aload_n (pc := 56) hx hb dX12_decisionOf_56 rfl (lv_at hl 1 rfl) ?_
          refine g_get (pc := 57) (v := .ref (g_ad G 95)) C hM (by decide) ce_87 fl_RX12_31 rfl dX12_decisionOf_57 ?_
          refine lv_iload_n (pc := 60) hx hb dX12_decisionOf_60 rfl (lv_at hl 0 rfl) ?_
          refine lv_aload_n (pc := 61) hx hb dX12_decisionOf_61 rfl (lv_at hl 1 rfl) ?_
          refine lv_iload_n (pc := 62) hx hb dX12_decisionOf_62 rfl (lv_at hl 3 rfl) ?_
          refine lv_aload_n (pc := 63) hx hb dX12_decisionOf_63 rfl (lv_at hl 1 rfl) ?_
          refine g_get (pc := 64) (v := .ref (g_ad G 95)) C hM (by decide) ce_87 fl_RX12_31 rfl dX12_decisionOf_64 ?_
          refine lv_iload_n (pc := 67) hx hb dX12_decisionOf_67 rfl (lv_at hl 0 rfl) ?_
          obtain ⟨hc, h⟩ := h
          refine g_ialdK (pc := 68) C hM (by decide) ce_95 hc rfl dX12_decisionOf_68 ?_
          refine g_cVi (pc := 69) C hM hl.1 yv_X12_isBefore q7_76 (by decide) ce_87 rfl (w_X12_isBefore l G x v2 (s52 95 (ix r52)) s52 _ h) rfl rfl ⟨⟨by decide, by decide⟩, by decide, by decide⟩ (Nat.le_of_ble_eq_true rfl) dX12_decisionOf_69 (fun r69 s69 H locs h hM => ?_)
          refine lv_if_eq (pc := 72) (tgt := 79) hx hb dX12_decisionOf_72 (by decide) (fun c72 => ?_) (fun c72 => ?_)
          · have h := h.1 c72
            refine lv_aload_n (pc := 79) hx hb dX12_decisionOf_79 rfl (lv_at hl 1 rfl) ?_
            refine g_get (pc := 80) (v := .ref (g_ad G 95)) C hM (by decide) ce_87 fl_RX12_31 rfl dX12_decisionOf_80 ?_
            refine lv_iload_n (pc := 83) hx hb dX12_decisionOf_83 rfl (lv_at hl 0 rfl) ?_
            obtain ⟨hc, h⟩ := h
            refine g_ialdK (pc := 84) C hM (by decide) ce_95 hc rfl dX12_decisionOf_84 ?_
            obtain ⟨hc, h⟩ := h
            refine g_iastE (pc := 85) C hM (by decide) ce_95 hc rfl dX12_decisionOf_85 (fun s85 es85 H locs hM => ?_)
            have h := h s85 es85
            refine lv_aload_n (pc := 86) hx hb dX12_decisionOf_86 rfl (lv_at hl 1 rfl) ?_
            refine lv_dup (pc := 87) hx hb dX12_decisionOf_87 rfl ?_
            refine g_get (pc := 88) (v := .int (s85 87 13)) C hM (by decide) ce_87 fl_RX12_174 rfl dX12_decisionOf_88 ?_
            refine lv_iconst (pc := 91) (v := 1) hx hb dX12_decisionOf_91 (by decide) ?_
            refine lv_iadd (pc := 92) hx hb dX12_decisionOf_92 ?_
            refine g_putE (pc := 93) C hM (by decide) ce_87 fp_RX12_174 rfl rfl (Nat.le_of_ble_eq_true rfl) rfl dX12_decisionOf_93 (fun s93 es93 H locs hM => ?_)
            have h := h s93 es93
            refine lv_iinc (pc := 96) (v := (v2 + 1)) (lv' := [(2, .int (v2 + 1)), (3, .int r52), (0, .ref (g_ad G 87)), (1, .int a1)]) hx hb dX12_decisionOf_96 hl (k := 3) rfl (by rfl) (by decide) rfl (fun ls hl => ?_)
            refine lv_goto (pc := 99) (tgt := 21) hx hb dX12_decisionOf_99 (by decide) ?_
            exact h _ _ _ hM (lv_sub hl [2, 3, 0] rfl)
          · have h := h.2 c72
            refine lv_iload_n (pc := 75) hx hb dX12_decisionOf_75 rfl (lv_at hl 3 rfl) ?_
            refine lv_goto (pc := 76) (tgt := 85) hx hb dX12_decisionOf_76 (by decide) ?_
            obtain ⟨hc, h⟩ := h
            refine g_iastE (pc := 85) C hM (by decide) ce_95 hc rfl dX12_decisionOf_85 (fun s85 es85 H locs hM => ?_)
            have h := h s85 es85
            refine lv_aload_n (pc := 86) hx hb dX12_decisionOf_86 rfl (lv_at hl 1 rfl) ?_
            refine lv_dup (pc := 87) hx hb dX12_decisionOf_87 rfl ?_
            refine g_get (pc := 88) (v := .int (s85 87 13)) C hM (by decide) ce_87 fl_RX12_174 rfl dX12_decisionOf_88 ?_
            refine lv_iconst (pc := 91) (v := 1) hx hb dX12_decisionOf_91 (by decide) ?_
            refine lv_iadd (pc := 92) hx hb dX12_decisionOf_92 ?_
            refine g_putE (pc := 93) C hM (by decide) ce_87 fp_RX12_174 rfl rfl (Nat.le_of_ble_eq_true rfl) rfl dX12_decisionOf_93 (fun s93 es93 H locs hM => ?_)
            have h := h s93 es93
            refine lv_iinc (pc := 96) (v := (v2 + 1)) (lv' := [(2, .int (v2 + 1)), (3, .int r52), (0, .ref (g_ad G 87)), (1, .int a1)]) hx hb dX12_decisionOf_96 hl (k := 3) rfl (by rfl) (by decide) rfl (fun ls hl => ?_)
            refine lv_goto (pc := 99) (tgt := 21) hx hb dX12_decisionOf_99 (by decide) ?_
            exact h _ _ _ hM (lv_sub hl [2, 3, 0] rfl))
  refine lv_aload_n (pc := 0) hx hb dX12_decisionOf_0 rfl (lv_at hl 0 rfl) ?_
  refine g_get (pc := 1) (v := .ref (g_ad G 95)) C hM (by decide) ce_87 fl_RX12_31 rfl dX12_decisionOf_1 ?_
  refine lv_iconst (pc := 4) (v := 0) hx hb dX12_decisionOf_4 (by decide) ?_
  refine lv_iconst (pc := 5) (v := (-1)) hx hb dX12_decisionOf_5 (by decide) ?_
  refine g_iastE (pc := 6) (k := 0) C hM (by decide) ce_95 (vp_in_nI (n := 0) (by decide) (by decide)) rfl dX12_decisionOf_6 (fun s6 es6 H locs hM => ?_)
  have h := h s6 es6
  refine lv_aload_n (pc := 7) hx hb dX12_decisionOf_7 rfl (lv_at hl 0 rfl) ?_
  refine g_get (pc := 8) (v := .ref (g_ad G 95)) C hM (by decide) ce_87 fl_RX12_31 rfl dX12_decisionOf_8 ?_
  refine lv_iconst (pc := 11) (v := 1) hx hb dX12_decisionOf_11 (by decide) ?_
  refine lv_iconst (pc := 12) (v := (-1)) hx hb dX12_decisionOf_12 (by decide) ?_
  refine g_iastE (pc := 13) (k := 1) C hM (by decide) ce_95 (vp_in_nI (n := 1) (by decide) (by decide)) rfl dX12_decisionOf_13 (fun s13 es13 H locs hM => ?_)
  have h := h s13 es13
  refine lv_aload_n (pc := 14) hx hb dX12_decisionOf_14 rfl (lv_at hl 0 rfl) ?_
  refine lv_iconst (pc := 15) (v := 0) hx hb dX12_decisionOf_15 (by decide) ?_
  refine g_putE (pc := 16) C hM (by decide) ce_87 fp_RX12_174 rfl rfl (Nat.le_of_ble_eq_true rfl) rfl dX12_decisionOf_16 (fun s16 es16 H locs hM => ?_)
  have h := h s16 es16
  refine lv_iconst (pc := 19) (v := 0) hx hb dX12_decisionOf_19 (by decide) ?_
  refine lv_istore_n (pc := 20) (lv' := [(2, .int 0), (0, .ref (g_ad G 87)), (1, .int a1)]) hx hb dX12_decisionOf_20 rfl hl (by decide) rfl (fun ls hl => ?_)
  exact h _ _ _ hM (lv_sub hl [1, 2, 0] rfl)
abbrev rm_X12_topDecision : Room := { frames := 1, cells := 0, slots := 0, locals := 21 }
theorem dX12_topDecision_0 : decode cX12_topDecision 0 = .ok (.iload_n 2, 1) := by decide +kernel
theorem dX12_topDecision_1 : decode cX12_topDecision 1 = .ok (.ifCond .ne 5, 3) := by decide +kernel
theorem dX12_topDecision_4 : decode cX12_topDecision 4 = .ok (.iconst 2, 1) := by decide +kernel
theorem dX12_topDecision_5 : decode cX12_topDecision 5 = .ok (.ireturn, 1) := by decide +kernel
theorem dX12_topDecision_6 : decode cX12_topDecision 6 = .ok (.aload_n 0, 1) := by decide +kernel
theorem dX12_topDecision_7 : decode cX12_topDecision 7 = .ok (.getfield 7, 3) := by decide +kernel
theorem dX12_topDecision_10 : decode cX12_topDecision 10 = .ok (.iconst 5, 1) := by decide +kernel
theorem dX12_topDecision_11 : decode cX12_topDecision 11 = .ok (.iaload, 1) := by decide +kernel
theorem dX12_topDecision_12 : decode cX12_topDecision 12 = .ok (.tableswitch 82 0 2 #[28, 54, 80], 28) := by decide +kernel
theorem dX12_topDecision_40 : decode cX12_topDecision 40 = .ok (.iload_n 1, 1) := by decide +kernel
theorem dX12_topDecision_41 : decode cX12_topDecision 41 = .ok (.iconst 1, 1) := by decide +kernel
theorem dX12_topDecision_42 : decode cX12_topDecision 42 = .ok (.invokestatic 129, 3) := by decide +kernel
theorem dX12_topDecision_45 : decode cX12_topDecision 45 = .ok (.ifCond .eq 7, 3) := by decide +kernel
theorem dX12_topDecision_48 : decode cX12_topDecision 48 = .ok (.iconst 1, 1) := by decide +kernel
theorem dX12_topDecision_49 : decode cX12_topDecision 49 = .ok (.goto 16, 3) := by decide +kernel
theorem dX12_topDecision_52 : decode cX12_topDecision 52 = .ok (.iload_n 1, 1) := by decide +kernel
theorem dX12_topDecision_53 : decode cX12_topDecision 53 = .ok (.iconst 3, 1) := by decide +kernel
theorem dX12_topDecision_54 : decode cX12_topDecision 54 = .ok (.invokestatic 129, 3) := by decide +kernel
theorem dX12_topDecision_57 : decode cX12_topDecision 57 = .ok (.ifCond .eq 7, 3) := by decide +kernel
theorem dX12_topDecision_60 : decode cX12_topDecision 60 = .ok (.iconst 3, 1) := by decide +kernel
theorem dX12_topDecision_61 : decode cX12_topDecision 61 = .ok (.goto 4, 3) := by decide +kernel
theorem dX12_topDecision_64 : decode cX12_topDecision 64 = .ok (.iconst 0, 1) := by decide +kernel
theorem dX12_topDecision_65 : decode cX12_topDecision 65 = .ok (.ireturn, 1) := by decide +kernel
theorem dX12_topDecision_66 : decode cX12_topDecision 66 = .ok (.iload_n 1, 1) := by decide +kernel
theorem dX12_topDecision_67 : decode cX12_topDecision 67 = .ok (.iconst 0, 1) := by decide +kernel
theorem dX12_topDecision_68 : decode cX12_topDecision 68 = .ok (.invokestatic 129, 3) := by decide +kernel
theorem dX12_topDecision_71 : decode cX12_topDecision 71 = .ok (.ifCond .eq 7, 3) := by decide +kernel
theorem dX12_topDecision_74 : decode cX12_topDecision 74 = .ok (.iconst 0, 1) := by decide +kernel
theorem dX12_topDecision_75 : decode cX12_topDecision 75 = .ok (.goto 16, 3) := by decide +kernel
theorem dX12_topDecision_78 : decode cX12_topDecision 78 = .ok (.iload_n 1, 1) := by decide +kernel
theorem dX12_topDecision_79 : decode cX12_topDecision 79 = .ok (.iconst 3, 1) := by decide +kernel
theorem dX12_topDecision_80 : decode cX12_topDecision 80 = .ok (.invokestatic 129, 3) := by decide +kernel
theorem dX12_topDecision_83 : decode cX12_topDecision 83 = .ok (.ifCond .eq 7, 3) := by decide +kernel
theorem dX12_topDecision_86 : decode cX12_topDecision 86 = .ok (.iconst 3, 1) := by decide +kernel
theorem dX12_topDecision_87 : decode cX12_topDecision 87 = .ok (.goto 4, 3) := by decide +kernel
theorem dX12_topDecision_90 : decode cX12_topDecision 90 = .ok (.iconst 1, 1) := by decide +kernel
theorem dX12_topDecision_91 : decode cX12_topDecision 91 = .ok (.ireturn, 1) := by decide +kernel
theorem dX12_topDecision_92 : decode cX12_topDecision 92 = .ok (.iload_n 3, 1) := by decide +kernel
theorem dX12_topDecision_93 : decode cX12_topDecision 93 = .ok (.ireturn, 1) := by decide +kernel
theorem dX12_topDecision_94 : decode cX12_topDecision 94 = .ok (.iload_n 2, 1) := by decide +kernel
theorem dX12_topDecision_95 : decode cX12_topDecision 95 = .ok (.iconst 1, 1) := by decide +kernel
theorem dX12_topDecision_96 : decode cX12_topDecision 96 = .ok (.if_icmp .le 7, 3) := by decide +kernel
theorem dX12_topDecision_99 : decode cX12_topDecision 99 = .ok (.iconst 3, 1) := by decide +kernel
theorem dX12_topDecision_100 : decode cX12_topDecision 100 = .ok (.goto 4, 3) := by decide +kernel
theorem dX12_topDecision_103 : decode cX12_topDecision 103 = .ok (.iload_n 3, 1) := by decide +kernel
theorem dX12_topDecision_104 : decode cX12_topDecision 104 = .ok (.ireturn, 1) := by decide +kernel
set_option maxHeartbeats 4000000 in
set_option maxRecDepth 100000 in
theorem w_X12_topDecision (l : Launch) (G : GP) (x : XP) (a1 : Int32) (a2 : Int32) (a3 : Int32) (σ : Sto) (P : Int32 → Sto → Prop) (h : D_X12_topDecision a1 a2 a3 σ P) : g_Meti l yX12_topDecision cX12_topDecision 4 (some .int) rm_X12_topDecision G x [.ref (g_ad G 87), .int a1, .int a2, .int a3] σ P := by
  unfold D_X12_topDecision at h
  refine g_ofWi (by decide +kernel) (Nat.le_of_ble_eq_true rfl) ?_
  intro p e s m args below meth c Q ls C hM hl hret
  have hx := C.1
  have hb := C.2.1
  have hl : lv_has ls 4 [(0, .ref (g_ad G 87)), (1, .int a1), (2, .int a2), (3, .int a3)] := hl
  refine lv_iload_n (pc := 0) hx hb dX12_topDecision_0 rfl (lv_at hl 2 rfl) ?_
  refine lv_if_ne (pc := 1) (tgt := 6) hx hb dX12_topDecision_1 (by decide) (fun c1 => ?_) (fun c1 => ?_)
  · have h := h.2 c1
    refine lv_aload_n (pc := 6) hx hb dX12_topDecision_6 rfl (lv_at hl 0 rfl) ?_
    refine g_get (pc := 7) (v := .ref (g_ad G 88)) C hM (by decide) ce_87 fl_RX12_7 rfl dX12_topDecision_7 ?_
    refine lv_iconst (pc := 10) (v := 5) hx hb dX12_topDecision_10 (by decide) ?_
    refine g_ialdK (pc := 11) (k := 5) C hM (by decide) ce_88 (vp_in_nI (n := 5) (by decide) (by decide)) rfl dX12_topDecision_11 ?_
    by_cases c12_0 : (σ 88 5) = 0
    · have h := h.1 c12_0
      refine lv_tableIn (pc := 12) (tgt := 40) hx hb dX12_topDecision_12 (by rw [c12_0]; decide) (by rw [c12_0]; decide) (by rw [c12_0]; rfl) (by decide) ?_
      refine lv_iload_n (pc := 40) hx hb dX12_topDecision_40 rfl (lv_at hl 1 rfl) ?_
      refine lv_iconst (pc := 41) (v := 1) hx hb dX12_topDecision_41 (by decide) ?_
      refine g_cSi (pc := 42) C hM hl.1 ys_X12_has q6_194 (w_X12_has l G x a1 1 σ _ h) rfl rfl ⟨⟨by decide, by decide⟩, by decide, by decide⟩ (Nat.le_of_ble_eq_true rfl) dX12_topDecision_42 (fun r42 s42 H locs h hM => ?_)
      refine lv_if_eq (pc := 45) (tgt := 52) hx hb dX12_topDecision_45 (by decide) (fun c45 => ?_) (fun c45 => ?_)
      · have h := h.1 c45
        refine lv_iload_n (pc := 52) hx hb dX12_topDecision_52 rfl (lv_at hl 1 rfl) ?_
        refine lv_iconst (pc := 53) (v := 3) hx hb dX12_topDecision_53 (by decide) ?_
        refine g_cSi (pc := 54) C hM hl.1 ys_X12_has q6_194 (w_X12_has l G x a1 3 s42 _ h) rfl rfl ⟨⟨by decide, by decide⟩, by decide, by decide⟩ (Nat.le_of_ble_eq_true rfl) dX12_topDecision_54 (fun r54 s54 H locs h hM => ?_)
        refine lv_if_eq (pc := 57) (tgt := 64) hx hb dX12_topDecision_57 (by decide) (fun c57 => ?_) (fun c57 => ?_)
        · have h := h.1 c57
          refine lv_iconst (pc := 64) (v := 0) hx hb dX12_topDecision_64 (by decide) ?_
          exact hret 65 _ _ _ _ _ dX12_topDecision_65 (by rfl) h hM
        · have h := h.2 c57
          refine lv_iconst (pc := 60) (v := 3) hx hb dX12_topDecision_60 (by decide) ?_
          refine lv_goto (pc := 61) (tgt := 65) hx hb dX12_topDecision_61 (by decide) ?_
          exact hret 65 _ _ _ _ _ dX12_topDecision_65 (by rfl) h hM
      · have h := h.2 c45
        refine lv_iconst (pc := 48) (v := 1) hx hb dX12_topDecision_48 (by decide) ?_
        refine lv_goto (pc := 49) (tgt := 65) hx hb dX12_topDecision_49 (by decide) ?_
        exact hret 65 _ _ _ _ _ dX12_topDecision_65 (by rfl) h hM
    · have h := h.2 c12_0
      by_cases c12_1 : (σ 88 5) = 1
      · have h := h.1 c12_1
        refine lv_tableIn (pc := 12) (tgt := 66) hx hb dX12_topDecision_12 (by rw [c12_1]; decide) (by rw [c12_1]; decide) (by rw [c12_1]; rfl) (by decide) ?_
        refine lv_iload_n (pc := 66) hx hb dX12_topDecision_66 rfl (lv_at hl 1 rfl) ?_
        refine lv_iconst (pc := 67) (v := 0) hx hb dX12_topDecision_67 (by decide) ?_
        refine g_cSi (pc := 68) C hM hl.1 ys_X12_has q6_194 (w_X12_has l G x a1 0 σ _ h) rfl rfl ⟨⟨by decide, by decide⟩, by decide, by decide⟩ (Nat.le_of_ble_eq_true rfl) dX12_topDecision_68 (fun r68 s68 H locs h hM => ?_)
        refine lv_if_eq (pc := 71) (tgt := 78) hx hb dX12_topDecision_71 (by decide) (fun c71 => ?_) (fun c71 => ?_)
        · have h := h.1 c71
          refine lv_iload_n (pc := 78) hx hb dX12_topDecision_78 rfl (lv_at hl 1 rfl) ?_
          refine lv_iconst (pc := 79) (v := 3) hx hb dX12_topDecision_79 (by decide) ?_
          refine g_cSi (pc := 80) C hM hl.1 ys_X12_has q6_194 (w_X12_has l G x a1 3 s68 _ h) rfl rfl ⟨⟨by decide, by decide⟩, by decide, by decide⟩ (Nat.le_of_ble_eq_true rfl) dX12_topDecision_80 (fun r80 s80 H locs h hM => ?_)
          refine lv_if_eq (pc := 83) (tgt := 90) hx hb dX12_topDecision_83 (by decide) (fun c83 => ?_) (fun c83 => ?_)
          · have h := h.1 c83
            refine lv_iconst (pc := 90) (v := 1) hx hb dX12_topDecision_90 (by decide) ?_
            exact hret 91 _ _ _ _ _ dX12_topDecision_91 (by rfl) h hM
          · have h := h.2 c83
            refine lv_iconst (pc := 86) (v := 3) hx hb dX12_topDecision_86 (by decide) ?_
            refine lv_goto (pc := 87) (tgt := 91) hx hb dX12_topDecision_87 (by decide) ?_
            exact hret 91 _ _ _ _ _ dX12_topDecision_91 (by rfl) h hM
        · have h := h.2 c71
          refine lv_iconst (pc := 74) (v := 0) hx hb dX12_topDecision_74 (by decide) ?_
          refine lv_goto (pc := 75) (tgt := 91) hx hb dX12_topDecision_75 (by decide) ?_
          exact hret 91 _ _ _ _ _ dX12_topDecision_91 (by rfl) h hM
      · have h := h.2 c12_1
        by_cases c12_2 : (σ 88 5) = 2
        · have h := h.1 c12_2
          refine lv_tableIn (pc := 12) (tgt := 92) hx hb dX12_topDecision_12 (by rw [c12_2]; decide) (by rw [c12_2]; decide) (by rw [c12_2]; rfl) (by decide) ?_
          refine lv_iload_n (pc := 92) hx hb dX12_topDecision_92 rfl (lv_at hl 3 rfl) ?_
          exact hret 93 _ _ _ _ _ dX12_topDecision_93 (by rfl) h hM
        · have h := h.2 c12_2
          have ht : ((σ 88 5)).toInt < 0 ∨ 2 < ((σ 88 5)).toInt := by
            have nc12_0 := lv_neT c12_0 (a := 0) rfl
            have nc12_1 := lv_neT c12_1 (a := 1) rfl
            have nc12_2 := lv_neT c12_2 (a := 2) rfl
            omega
          refine lv_tableOut (pc := 12) (tgt := 94) hx hb dX12_topDecision_12 ht (by decide) ?_
          refine lv_iload_n (pc := 94) hx hb dX12_topDecision_94 rfl (lv_at hl 2 rfl) ?_
          refine lv_iconst (pc := 95) (v := 1) hx hb dX12_topDecision_95 (by decide) ?_
          refine lv_icmp_le (pc := 96) (tgt := 103) hx hb dX12_topDecision_96 (by decide) (fun c96 => ?_) (fun c96 => ?_)
          · have h := h.1 c96
            refine lv_iload_n (pc := 103) hx hb dX12_topDecision_103 rfl (lv_at hl 3 rfl) ?_
            exact hret 104 _ _ _ _ _ dX12_topDecision_104 (by rfl) h hM
          · have h := h.2 c96
            refine lv_iconst (pc := 99) (v := 3) hx hb dX12_topDecision_99 (by decide) ?_
            refine lv_goto (pc := 100) (tgt := 104) hx hb dX12_topDecision_100 (by decide) ?_
            exact hret 104 _ _ _ _ _ dX12_topDecision_104 (by rfl) h hM
  · have h := h.1 c1
    refine lv_iconst (pc := 4) (v := 2) hx hb dX12_topDecision_4 (by decide) ?_
    exact hret 5 _ _ _ _ _ dX12_topDecision_5 (by rfl) h hM
