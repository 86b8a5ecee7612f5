abbrev rm_X11_tick : Room := { frames := 7, cells := 2, slots := 12, locals := 120 }
theorem dX11_tick_0 : decode cX11_tick 0 = .ok (.iload_n 1, 1) := by decide +kernel
theorem dX11_tick_1 : decode cX11_tick 1 = .ok (.iconst 1, 1) := by decide +kernel
theorem dX11_tick_2 : decode cX11_tick 2 = .ok (.bipush 100, 2) := by decide +kernel
theorem dX11_tick_4 : decode cX11_tick 4 = .ok (.invokestatic 96, 3) := by decide +kernel
theorem dX11_tick_7 : decode cX11_tick 7 = .ok (.invokestatic 100, 3) := by decide +kernel
theorem dX11_tick_10 : decode cX11_tick 10 = .ok (.aload_n 0, 1) := by decide +kernel
theorem dX11_tick_11 : decode cX11_tick 11 = .ok (.getfield 176, 3) := by decide +kernel
theorem dX11_tick_14 : decode cX11_tick 14 = .ok (.iload_n 1, 1) := by decide +kernel
theorem dX11_tick_15 : decode cX11_tick 15 = .ok (.iadd, 1) := by decide +kernel
theorem dX11_tick_16 : decode cX11_tick 16 = .ok (.sipush 2000, 3) := by decide +kernel
theorem dX11_tick_19 : decode cX11_tick 19 = .ok (.if_icmp .gt 7, 3) := by decide +kernel
theorem dX11_tick_22 : decode cX11_tick 22 = .ok (.iconst 1, 1) := by decide +kernel
theorem dX11_tick_23 : decode cX11_tick 23 = .ok (.goto 4, 3) := by decide +kernel
theorem dX11_tick_26 : decode cX11_tick 26 = .ok (.iconst 0, 1) := by decide +kernel
theorem dX11_tick_27 : decode cX11_tick 27 = .ok (.invokestatic 114, 3) := by decide +kernel
theorem dX11_tick_30 : decode cX11_tick 30 = .ok (.aload_n 0, 1) := by decide +kernel
theorem dX11_tick_31 : decode cX11_tick 31 = .ok (.dup, 1) := by decide +kernel
theorem dX11_tick_32 : decode cX11_tick 32 = .ok (.getfield 176, 3) := by decide +kernel
theorem dX11_tick_35 : decode cX11_tick 35 = .ok (.iload_n 1, 1) := by decide +kernel
theorem dX11_tick_36 : decode cX11_tick 36 = .ok (.iadd, 1) := by decide +kernel
theorem dX11_tick_37 : decode cX11_tick 37 = .ok (.putfield 176, 3) := by decide +kernel
theorem dX11_tick_40 : decode cX11_tick 40 = .ok (.aload_n 0, 1) := by decide +kernel
theorem dX11_tick_41 : decode cX11_tick 41 = .ok (.getfield 12, 3) := by decide +kernel
theorem dX11_tick_44 : decode cX11_tick 44 = .ok (.getfield 53, 3) := by decide +kernel
theorem dX11_tick_47 : decode cX11_tick 47 = .ok (.aload_n 0, 1) := by decide +kernel
theorem dX11_tick_48 : decode cX11_tick 48 = .ok (.getfield 176, 3) := by decide +kernel
theorem dX11_tick_51 : decode cX11_tick 51 = .ok (.invokevirtual 179, 3) := by decide +kernel
theorem dX11_tick_54 : decode cX11_tick 54 = .ok (.ireturn, 1) := by decide +kernel
set_option maxHeartbeats 4000000 in
set_option maxRecDepth 100000 in
theorem w_X11_tick (l : Launch) (hl0 : l.stackTraces = false) (G : GP) (x : XP) (a1 : Int32) (σ : Sto) (P : Int32 → Sto → Prop) (PX : String → Sto → Prop) (h : D_X11_tick a1 σ P PX) : g_Mxi l yX11_tick cX11_tick 2 (some .int) rm_X11_tick G x [.ref (g_ad G 60), .int a1] σ P PX := by
  unfold D_X11_tick at h
  refine g_ofXi hl0 (by decide +kernel) (Nat.le_of_ble_eq_true rfl) (Or.inl (by decide)) ?_
  intro p e s m args below meth c Q ls C hM hl hret hprop hthrow
  have hx := C.1
  have hb := C.2.1
  have hl : lv_has ls 2 [(0, .ref (g_ad G 60)), (1, .int a1)] := hl
  refine lv_iload_n (pc := 0) hx hb dX11_tick_0 rfl (lv_at hl 1 rfl) ?_
  refine lv_iconst (pc := 1) (v := 1) hx hb dX11_tick_1 (by decide) ?_
  refine lv_bipush (pc := 2) (v := 100) hx hb dX11_tick_2 (by decide) ?_
  refine g_cSi (pc := 4) C hM hl.1 ys_X11_isWithin q2_215 (w_X11_isWithin l G x a1 1 100 σ _ h) rfl rfl ⟨⟨by decide, by decide⟩, by decide, by decide⟩ (Nat.le_of_ble_eq_true rfl) dX11_tick_4 (fun r4 s4 H locs h hM => ?_)
  refine g_cxSv (pc := 7) C hM hl.1 ys_X11_requireArgument q2_218 (w_X11_requireArgument l hl0 G x r4 s4 _ PX h) rfl rfl ⟨⟨by decide, by decide⟩, by decide, by decide⟩ (Nat.le_of_ble_eq_true rfl) dX11_tick_7 hprop (fun s7 H locs h hM => ?_)
  refine lv_aload_n (pc := 10) hx hb dX11_tick_10 rfl (lv_at hl 0 rfl) ?_
  refine g_get (pc := 11) (v := .int (s7 60 14)) C hM (by decide) ce_60 fl_RX11_176 rfl dX11_tick_11 ?_
  refine lv_iload_n (pc := 14) hx hb dX11_tick_14 rfl (lv_at hl 1 rfl) ?_
  refine lv_iadd (pc := 15) hx hb dX11_tick_15 ?_
  refine lv_sipush (pc := 16) (v := 2000) hx hb dX11_tick_16 (by decide) ?_
  refine lv_icmp_gt (pc := 19) (tgt := 26) hx hb dX11_tick_19 (by decide) (fun c19 => ?_) (fun c19 => ?_)
  · have h := h.1 c19
    refine lv_iconst (pc := 26) (v := 0) hx hb dX11_tick_26 (by decide) ?_
    refine g_cxSv (pc := 27) C hM hl.1 ys_X11_requireState q2_236 (w_X11_requireState l hl0 G x 0 s7 _ PX h) rfl rfl ⟨⟨by decide, by decide⟩, by decide, by decide⟩ (Nat.le_of_ble_eq_true rfl) dX11_tick_27 hprop (fun s27 H locs h hM => ?_)
    refine lv_aload_n (pc := 30) hx hb dX11_tick_30 rfl (lv_at hl 0 rfl) ?_
    refine lv_dup (pc := 31) hx hb dX11_tick_31 rfl ?_
    refine g_get (pc := 32) (v := .int (s27 60 14)) C hM (by decide) ce_60 fl_RX11_176 rfl dX11_tick_32 ?_
    refine lv_iload_n (pc := 35) hx hb dX11_tick_35 rfl (lv_at hl 1 rfl) ?_
    refine lv_iadd (pc := 36) hx hb dX11_tick_36 ?_
    refine g_putE (pc := 37) C hM (by decide) ce_60 fp_RX11_176 rfl rfl (Nat.le_of_ble_eq_true rfl) rfl dX11_tick_37 (fun s37 es37 H locs hM => ?_)
    have h := h s37 es37
    refine lv_aload_n (pc := 40) hx hb dX11_tick_40 rfl (lv_at hl 0 rfl) ?_
    refine g_get (pc := 41) (v := .ref (g_ad G 0)) C hM (by decide) ce_60 fl_RX11_12 rfl dX11_tick_41 ?_
    refine g_get (pc := 44) (v := .ref (g_ad G 3)) C hM (by decide) ce_0 fl_RX11_53 rfl dX11_tick_44 ?_
    refine lv_aload_n (pc := 47) hx hb dX11_tick_47 rfl (lv_at hl 0 rfl) ?_
    refine g_get (pc := 48) (v := .int (s37 60 14)) C hM (by decide) ce_60 fl_RX11_176 rfl dX11_tick_48 ?_
    refine g_cVi (pc := 51) C hM hl.1 yv_X2_countValid q2_62 (by decide) ce_3 rfl (w_X2_countValid l G x 3 (s37 60 14) s37 _ h) rfl rfl ⟨⟨by decide, by decide⟩, by decide, by decide⟩ (Nat.le_of_ble_eq_true rfl) dX11_tick_51 (fun r51 s51 H locs h hM => ?_)
    refine W.widen (k := 2) (n := 12) (by decide) (by decide) ?_
    exact hret 54 _ _ _ _ _ dX11_tick_54 (by rfl) h hM
  · have h := h.2 c19
    refine lv_iconst (pc := 22) (v := 1) hx hb dX11_tick_22 (by decide) ?_
    refine lv_goto (pc := 23) (tgt := 27) hx hb dX11_tick_23 (by decide) ?_
    refine g_cxSv (pc := 27) C hM hl.1 ys_X11_requireState q2_236 (w_X11_requireState l hl0 G x 1 s7 _ PX h) rfl rfl ⟨⟨by decide, by decide⟩, by decide, by decide⟩ (Nat.le_of_ble_eq_true rfl) dX11_tick_27 hprop (fun s27 H locs h hM => ?_)
    refine lv_aload_n (pc := 30) hx hb dX11_tick_30 rfl (lv_at hl 0 rfl) ?_
    refine lv_dup (pc := 31) hx hb dX11_tick_31 rfl ?_
    refine g_get (pc := 32) (v := .int (s27 60 14)) C hM (by decide) ce_60 fl_RX11_176 rfl dX11_tick_32 ?_
    refine lv_iload_n (pc := 35) hx hb dX11_tick_35 rfl (lv_at hl 1 rfl) ?_
    refine lv_iadd (pc := 36) hx hb dX11_tick_36 ?_
    refine g_putE (pc := 37) C hM (by decide) ce_60 fp_RX11_176 rfl rfl (Nat.le_of_ble_eq_true rfl) rfl dX11_tick_37 (fun s37 es37 H locs hM => ?_)
    have h := h s37 es37
    refine lv_aload_n (pc := 40) hx hb dX11_tick_40 rfl (lv_at hl 0 rfl) ?_
    refine g_get (pc := 41) (v := .ref (g_ad G 0)) C hM (by decide) ce_60 fl_RX11_12 rfl dX11_tick_41 ?_
    refine g_get (pc := 44) (v := .ref (g_ad G 3)) C hM (by decide) ce_0 fl_RX11_53 rfl dX11_tick_44 ?_
    refine lv_aload_n (pc := 47) hx hb dX11_tick_47 rfl (lv_at hl 0 rfl) ?_
    refine g_get (pc := 48) (v := .int (s37 60 14)) C hM (by decide) ce_60 fl_RX11_176 rfl dX11_tick_48 ?_
    refine g_cVi (pc := 51) C hM hl.1 yv_X2_countValid q2_62 (by decide) ce_3 rfl (w_X2_countValid l G x 3 (s37 60 14) s37 _ h) rfl rfl ⟨⟨by decide, by decide⟩, by decide, by decide⟩ (Nat.le_of_ble_eq_true rfl) dX11_tick_51 (fun r51 s51 H locs h hM => ?_)
    refine W.widen (k := 2) (n := 12) (by decide) (by decide) ?_
    exact hret 54 _ _ _ _ _ dX11_tick_54 (by rfl) h hM
abbrev rm_X11_setSubject : Room := { frames := 7, cells := 1, slots := 6, locals := 121 }
theorem dX11_setSubject_0 : decode cX11_setSubject 0 = .ok (.iload_n 1, 1) := by decide +kernel
theorem dX11_setSubject_1 : decode cX11_setSubject 1 = .ok (.bipush 10, 2) := by decide +kernel
theorem dX11_setSubject_3 : decode cX11_setSubject 3 = .ok (.invokestatic 92, 3) := by decide +kernel
theorem dX11_setSubject_6 : decode cX11_setSubject 6 = .ok (.aload_n 0, 1) := by decide +kernel
theorem dX11_setSubject_7 : decode cX11_setSubject 7 = .ok (.getfield 196, 3) := by decide +kernel
theorem dX11_setSubject_10 : decode cX11_setSubject 10 = .ok (.istore_n 2, 1) := by decide +kernel
theorem dX11_setSubject_11 : decode cX11_setSubject 11 = .ok (.aload_n 0, 1) := by decide +kernel
theorem dX11_setSubject_12 : decode cX11_setSubject 12 = .ok (.iload_n 1, 1) := by decide +kernel
theorem dX11_setSubject_13 : decode cX11_setSubject 13 = .ok (.putfield 196, 3) := by decide +kernel
theorem dX11_setSubject_16 : decode cX11_setSubject 16 = .ok (.iload_n 2, 1) := by decide +kernel
theorem dX11_setSubject_17 : decode cX11_setSubject 17 = .ok (.ireturn, 1) := by decide +kernel
set_option maxHeartbeats 4000000 in
set_option maxRecDepth 100000 in
theorem w_X11_setSubject (l : Launch) (hl0 : l.stackTraces = false) (G : GP) (x : XP) (a1 : Int32) (σ : Sto) (P : Int32 → Sto → Prop) (PX : String → Sto → Prop) (h : D_X11_setSubject a1 σ P PX) : g_Mxi l yX11_setSubject cX11_setSubject 3 (some .int) rm_X11_setSubject G x [.ref (g_ad G 60), .int a1] σ P PX := by
  unfold D_X11_setSubject at h
  refine g_ofXi hl0 (by decide +kernel) (Nat.le_of_ble_eq_true rfl) (Or.inl (by decide)) ?_
  intro p e s m args below meth c Q ls C hM hl hret hprop hthrow
  have hx := C.1
  have hb := C.2.1
  have hl : lv_has ls 3 [(0, .ref (g_ad G 60)), (1, .int a1)] := hl
  refine lv_iload_n (pc := 0) hx hb dX11_setSubject_0 rfl (lv_at hl 1 rfl) ?_
  refine lv_bipush (pc := 1) (v := 10) hx hb dX11_setSubject_1 (by decide) ?_
  refine g_cxSv (pc := 3) C hM hl.1 ys_X11_requireIndex q2_191 (w_X11_requireIndex l hl0 G x a1 10 σ _ PX h) rfl rfl ⟨⟨by decide, by decide⟩, by decide, by decide⟩ (Nat.le_of_ble_eq_true rfl) dX11_setSubject_3 hprop (fun s3 H locs h hM => ?_)
  refine lv_aload_n (pc := 6) hx hb dX11_setSubject_6 rfl (lv_at hl 0 rfl) ?_
  refine g_get (pc := 7) (v := .int (s3 60 13)) C hM (by decide) ce_60 fl_RX11_196 rfl dX11_setSubject_7 ?_
  refine lv_istore_n (pc := 10) (lv' := [(2, .int (s3 60 13)), (0, .ref (g_ad G 60)), (1, .int a1)]) hx hb dX11_setSubject_10 rfl hl (by decide) rfl (fun ls hl => ?_)
  refine lv_aload_n (pc := 11) hx hb dX11_setSubject_11 rfl (lv_at hl 1 rfl) ?_
  refine lv_iload_n (pc := 12) hx hb dX11_setSubject_12 rfl (lv_at hl 2 rfl) ?_
  refine g_putE (pc := 13) C hM (by decide) ce_60 fp_RX11_196 rfl rfl (Nat.le_of_ble_eq_true rfl) rfl dX11_setSubject_13 (fun s13 es13 H locs hM => ?_)
  have h := h s13 es13
  refine lv_iload_n (pc := 16) hx hb dX11_setSubject_16 rfl (lv_at hl 0 rfl) ?_
  refine W.widen (k := 1) (n := 6) (by decide) (by decide) ?_
  exact hret 17 _ _ _ _ _ dX11_setSubject_17 (by rfl) h hM
abbrev rm_X11_setValue : Room := { frames := 7, cells := 2, slots := 12, locals := 121 }
theorem dX11_setValue_0 : decode cX11_setValue 0 = .ok (.iload_n 1, 1) := by decide +kernel
theorem dX11_setValue_1 : decode cX11_setValue 1 = .ok (.bipush 6, 2) := by decide +kernel
theorem dX11_setValue_3 : decode cX11_setValue 3 = .ok (.invokestatic 92, 3) := by decide +kernel
theorem dX11_setValue_6 : decode cX11_setValue 6 = .ok (.iload_n 2, 1) := by decide +kernel
theorem dX11_setValue_7 : decode cX11_setValue 7 = .ok (.iconst (-1), 1) := by decide +kernel
theorem dX11_setValue_8 : decode cX11_setValue 8 = .ok (.bipush 15, 2) := by decide +kernel
theorem dX11_setValue_10 : decode cX11_setValue 10 = .ok (.invokestatic 96, 3) := by decide +kernel
theorem dX11_setValue_13 : decode cX11_setValue 13 = .ok (.invokestatic 100, 3) := by decide +kernel
theorem dX11_setValue_16 : decode cX11_setValue 16 = .ok (.aload_n 0, 1) := by decide +kernel
theorem dX11_setValue_17 : decode cX11_setValue 17 = .ok (.getfield 85, 3) := by decide +kernel
theorem dX11_setValue_20 : decode cX11_setValue 20 = .ok (.iload_n 1, 1) := by decide +kernel
theorem dX11_setValue_21 : decode cX11_setValue 21 = .ok (.iaload, 1) := by decide +kernel
theorem dX11_setValue_22 : decode cX11_setValue 22 = .ok (.istore_n 3, 1) := by decide +kernel
theorem dX11_setValue_23 : decode cX11_setValue 23 = .ok (.aload_n 0, 1) := by decide +kernel
theorem dX11_setValue_24 : decode cX11_setValue 24 = .ok (.getfield 85, 3) := by decide +kernel
theorem dX11_setValue_27 : decode cX11_setValue 27 = .ok (.iload_n 1, 1) := by decide +kernel
theorem dX11_setValue_28 : decode cX11_setValue 28 = .ok (.iload_n 2, 1) := by decide +kernel
theorem dX11_setValue_29 : decode cX11_setValue 29 = .ok (.iastore, 1) := by decide +kernel
theorem dX11_setValue_30 : decode cX11_setValue 30 = .ok (.iload_n 3, 1) := by decide +kernel
theorem dX11_setValue_31 : decode cX11_setValue 31 = .ok (.ireturn, 1) := by decide +kernel
set_option maxHeartbeats 4000000 in
set_option maxRecDepth 100000 in
theorem w_X11_setValue (l : Launch) (hl0 : l.stackTraces = false) (G : GP) (x : XP) (a1 : Int32) (a2 : Int32) (σ : Sto) (P : Int32 → Sto → Prop) (PX : String → Sto → Prop) (h : D_X11_setValue a1 a2 σ P PX) : g_Mxi l yX11_setValue cX11_setValue 4 (some .int) rm_X11_setValue G x [.ref (g_ad G 60), .int a1, .int a2] σ P PX := by
  unfold D_X11_setValue at h
  refine g_ofXi hl0 (by decide +kernel) (Nat.le_of_ble_eq_true rfl) (Or.inl (by decide)) ?_
  intro p e s m args below meth c Q ls C hM hl hret hprop hthrow
  have hx := C.1
  have hb := C.2.1
  have hl : lv_has ls 4 [(0, .ref (g_ad G 60)), (1, .int a1), (2, .int a2)] := hl
  refine lv_iload_n (pc := 0) hx hb dX11_setValue_0 rfl (lv_at hl 1 rfl) ?_
  refine lv_bipush (pc := 1) (v := 6) hx hb dX11_setValue_1 (by decide) ?_
  refine g_cxSv (pc := 3) C hM hl.1 ys_X11_requireIndex q2_191 (w_X11_requireIndex l hl0 G x a1 6 σ _ PX h) rfl rfl ⟨⟨by decide, by decide⟩, by decide, by decide⟩ (Nat.le_of_ble_eq_true rfl) dX11_setValue_3 hprop (fun s3 H locs h hM => ?_)
  refine lv_iload_n (pc := 6) hx hb dX11_setValue_6 rfl (lv_at hl 2 rfl) ?_
  refine lv_iconst (pc := 7) (v := (-1)) hx hb dX11_setValue_7 (by decide) ?_
  refine lv_bipush (pc := 8) (v := 15) hx hb dX11_setValue_8 (by decide) ?_
  refine g_cSi (pc := 10) C hM hl.1 ys_X11_isWithin q2_215 (w_X11_isWithin l G x a2 (-1) 15 s3 _ h) rfl rfl ⟨⟨by decide, by decide⟩, by decide, by decide⟩ (Nat.le_of_ble_eq_true rfl) dX11_setValue_10 (fun r10 s10 H locs h hM => ?_)
  refine g_cxSv (pc := 13) C hM hl.1 ys_X11_requireArgument q2_218 (w_X11_requireArgument l hl0 G x r10 s10 _ PX h) rfl rfl ⟨⟨by decide, by decide⟩, by decide, by decide⟩ (Nat.le_of_ble_eq_true rfl) dX11_setValue_13 hprop (fun s13 H locs h hM => ?_)
  refine lv_aload_n (pc := 16) hx hb dX11_setValue_16 rfl (lv_at hl 0 rfl) ?_
  refine g_get (pc := 17) (v := .ref (g_ad G 85)) C hM (by decide) ce_60 fl_RX11_85 rfl dX11_setValue_17 ?_
  refine lv_iload_n (pc := 20) hx hb dX11_setValue_20 rfl (lv_at hl 1 rfl) ?_
  obtain ⟨hc, h⟩ := h
  refine g_ialdK (pc := 21) C hM (by decide) ce_85 hc rfl dX11_setValue_21 ?_
  refine lv_istore_n (pc := 22) (lv' := [(3, .int (s13 85 (ix a1))), (0, .ref (g_ad G 60)), (1, .int a1), (2, .int a2)]) hx hb dX11_setValue_22 rfl hl (by decide) rfl (fun ls hl => ?_)
  refine lv_aload_n (pc := 23) hx hb dX11_setValue_23 rfl (lv_at hl 1 rfl) ?_
  refine g_get (pc := 24) (v := .ref (g_ad G 85)) C hM (by decide) ce_60 fl_RX11_85 rfl dX11_setValue_24 ?_
  refine lv_iload_n (pc := 27) hx hb dX11_setValue_27 rfl (lv_at hl 2 rfl) ?_
  refine lv_iload_n (pc := 28) hx hb dX11_setValue_28 rfl (lv_at hl 3 rfl) ?_
  obtain ⟨hc, h⟩ := h
  refine g_iastE (pc := 29) C hM (by decide) ce_85 hc rfl dX11_setValue_29 (fun s29 es29 H locs hM => ?_)
  have h := h s29 es29
  refine lv_iload_n (pc := 30) hx hb dX11_setValue_30 rfl (lv_at hl 0 rfl) ?_
  refine W.widen (k := 2) (n := 12) (by decide) (by decide) ?_
  exact hret 31 _ _ _ _ _ dX11_setValue_31 (by rfl) h hM
abbrev rm_X11_unknown : Room := { frames := 0, cells := 0, slots := 0, locals := 0 }
theorem dX11_unknown_0 : decode cX11_unknown 0 = .ok (.iconst 0, 1) := by decide +kernel
theorem dX11_unknown_1 : decode cX11_unknown 1 = .ok (.istore_n 1, 1) := by decide +kernel
theorem dX11_unknown_2 : decode cX11_unknown 2 = .ok (.iconst 0, 1) := by decide +kernel
theorem dX11_unknown_3 : decode cX11_unknown 3 = .ok (.istore_n 2, 1) := by decide +kernel
theorem dX11_unknown_4 : decode cX11_unknown 4 = .ok (.iload_n 2, 1) := by decide +kernel
theorem dX11_unknown_5 : decode cX11_unknown 5 = .ok (.bipush 6, 2) := by decide +kernel
theorem dX11_unknown_7 : decode cX11_unknown 7 = .ok (.if_icmp .ge 24, 3) := by decide +kernel
theorem dX11_unknown_10 : decode cX11_unknown 10 = .ok (.aload_n 0, 1) := by decide +kernel
theorem dX11_unknown_11 : decode cX11_unknown 11 = .ok (.getfield 85, 3) := by decide +kernel
theorem dX11_unknown_14 : decode cX11_unknown 14 = .ok (.iload_n 2, 1) := by decide +kernel
theorem dX11_unknown_15 : decode cX11_unknown 15 = .ok (.iaload, 1) := by decide +kernel
theorem dX11_unknown_16 : decode cX11_unknown 16 = .ok (.ifCond .ge 9, 3) := by decide +kernel
theorem dX11_unknown_19 : decode cX11_unknown 19 = .ok (.iload_n 1, 1) := by decide +kernel
theorem dX11_unknown_20 : decode cX11_unknown 20 = .ok (.iconst 1, 1) := by decide +kernel
theorem dX11_unknown_21 : decode cX11_unknown 21 = .ok (.iload_n 2, 1) := by decide +kernel
theorem dX11_unknown_22 : decode cX11_unknown 22 = .ok (.ishl, 1) := by decide +kernel
theorem dX11_unknown_23 : decode cX11_unknown 23 = .ok (.ior, 1) := by decide +kernel
theorem dX11_unknown_24 : decode cX11_unknown 24 = .ok (.istore_n 1, 1) := by decide +kernel
theorem dX11_unknown_25 : decode cX11_unknown 25 = .ok (.iinc 2 1, 3) := by decide +kernel
theorem dX11_unknown_28 : decode cX11_unknown 28 = .ok (.goto (-24), 3) := by decide +kernel
theorem dX11_unknown_31 : decode cX11_unknown 31 = .ok (.iload_n 1, 1) := by decide +kernel
theorem dX11_unknown_32 : decode cX11_unknown 32 = .ok (.ireturn, 1) := by decide +kernel
set_option maxHeartbeats 4000000 in
set_option maxRecDepth 100000 in
theorem w_X11_unknown (l : Launch) (G : GP) (x : XP) (σ : Sto) (P : Int32 → Sto → Prop) (h : D_X11_unknown  σ P) : g_Meti l yX11_unknown cX11_unknown 3 (some .int) rm_X11_unknown G x [.ref (g_ad G 60)] σ P := by
  unfold D_X11_unknown at h
  refine g_ofWi (by decide +kernel) (Nat.le_of_ble_eq_true rfl) ?_
  intro p e s m args below meth c Q ls C hM hl hret
  have hx := C.1
  have hb := C.2.1
  have hl : lv_has ls 3 [(0, .ref (g_ad G 60))] := hl
  have h := h (fun (v1 : Int32) (v2 : Int32) (σ : Sto) => ∀ (H : Heap) (locs : List Loc) (ls : Array Slot), g_M G x σ s H locs → lv_has ls 3 [(0, .ref (g_ad G 60)), (1, .int v1), (2, .int v2)] → W p l e rm_X11_unknown s m args below meth c H locs 0 0 Q (F0 m 4 ls []))
  have h := h (by
    intro v1 v2 σ h  H locs ls hM hl
    refine lv_iload_n (pc := 4) hx hb dX11_unknown_4 rfl (lv_at hl 2 rfl) ?_
    refine lv_bipush (pc := 5) (v := 6) hx hb dX11_unknown_5 (by decide) ?_
    refine lv_icmp_ge (pc := 7) (tgt := 31) hx hb dX11_unknown_7 (by decide) (fun c7 => ?_) (fun c7 => ?_)
    · have h := h.1 c7
      refine lv_iload_n (pc := 31) hx hb dX11_unknown_31 rfl (lv_at hl 1 rfl) ?_
      exact hret 32 _ _ _ _ _ dX11_unknown_32 (by rfl) h hM
    · have h := h.2 c7
      refine lv_aload_n (pc := 10) hx hb dX11_unknown_10 rfl (lv_at hl 0 rfl) ?_
      refine g_get (pc := 11) (v := .ref (g_ad G 85)) C hM (by decide) ce_60 fl_RX11_85 rfl dX11_unknown_11 ?_
      refine lv_iload_n (pc := 14) hx hb dX11_unknown_14 rfl (lv_at hl 2 rfl) ?_
      obtain ⟨hc, h⟩ := h
      refine g_ialdK (pc := 15) C hM (by decide) ce_85 hc rfl dX11_unknown_15 ?_
      refine lv_if_ge (pc := 16) (tgt := 25) hx hb dX11_unknown_16 (by decide) (fun c16 => ?_) (fun c16 => ?_)
      · have h := h.1 c16
        refine lv_iinc (pc := 25) (v := (v2 + 1)) (lv' := [(2, .int (v2 + 1)), (0, .ref (g_ad G 60)), (1, .int v1)]) hx hb dX11_unknown_25 hl (k := 2) rfl (by rfl) (by decide) rfl (fun ls hl => ?_)
        refine lv_goto (pc := 28) (tgt := 4) hx hb dX11_unknown_28 (by decide) ?_
        exact h _ _ _ hM (lv_sub hl [1, 2, 0] rfl)
      · have h := h.2 c16
        refine lv_iload_n (pc := 19) hx hb dX11_unknown_19 rfl (lv_at hl 1 rfl) ?_
        refine lv_iconst (pc := 20) (v := 1) hx hb dX11_unknown_20 (by decide) ?_
        refine lv_iload_n (pc := 21) hx hb dX11_unknown_21 rfl (lv_at hl 2 rfl) ?_
        refine lv_ishl (pc := 22) hx hb dX11_unknown_22 ?_
        refine lv_ior (pc := 23) hx hb dX11_unknown_23 ?_
        refine lv_topi (fun v1_24 ev1_24 => ?_)
        have h := h v1_24 ev1_24
        refine lv_istore_n (pc := 24) (lv' := [(1, .int v1_24), (0, .ref (g_ad G 60)), (2, .int v2)]) hx hb dX11_unknown_24 rfl hl (by decide) rfl (fun ls hl => ?_)
        refine lv_iinc (pc := 25) (v := (v2 + 1)) (lv' := [(2, .int (v2 + 1)), (1, .int v1_24), (0, .ref (g_ad G 60))]) hx hb dX11_unknown_25 hl (k := 2) rfl (by rfl) (by decide) rfl (fun ls hl => ?_)
        refine lv_goto (pc := 28) (tgt := 4) hx hb dX11_unknown_28 (by decide) ?_
        exact h _ _ _ hM (lv_sub hl [2, 1, 0] rfl))
  refine lv_iconst (pc := 0) (v := 0) hx hb dX11_unknown_0 (by decide) ?_
  refine lv_istore_n (pc := 1) (lv' := [(1, .int 0), (0, .ref (g_ad G 60))]) hx hb dX11_unknown_1 rfl hl (by decide) rfl (fun ls hl => ?_)
  refine lv_iconst (pc := 2) (v := 0) hx hb dX11_unknown_2 (by decide) ?_
  refine lv_istore_n (pc := 3) (lv' := [(2, .int 0), (1, .int 0), (0, .ref (g_ad G 60))]) hx hb dX11_unknown_3 rfl hl (by decide) rfl (fun ls hl => ?_)
  exact h _ _ _ hM (lv_sub hl [2, 1, 0] rfl)
abbrev rm_X11_applies : Room := { frames := 8, cells := 1, slots := 6, locals := 142 }
theorem dX11_applies_0 : decode cX11_applies 0 = .ok (.aload_n 0, 1) := by decide +kernel
theorem dX11_applies_1 : decode cX11_applies 1 = .ok (.iload_n 1, 1) := by decide +kernel
theorem dX11_applies_2 : decode cX11_applies 2 = .ok (.invokevirtual 124, 3) := by decide +kernel
theorem dX11_applies_5 : decode cX11_applies 5 = .ok (.aload_n 0, 1) := by decide +kernel
theorem dX11_applies_6 : decode cX11_applies 6 = .ok (.getfield 31, 3) := by decide +kernel
theorem dX11_applies_9 : decode cX11_applies 9 = .ok (.invokevirtual 199, 3) := by decide +kernel
theorem dX11_applies_12 : decode cX11_applies 12 = .ok (.aload_n 0, 1) := by decide +kernel
theorem dX11_applies_13 : decode cX11_applies 13 = .ok (.getfield 31, 3) := by decide +kernel
theorem dX11_applies_16 : decode cX11_applies 16 = .ok (.aload_n 0, 1) := by decide +kernel
theorem dX11_applies_17 : decode cX11_applies 17 = .ok (.getfield 31, 3) := by decide +kernel
theorem dX11_applies_20 : decode cX11_applies 20 = .ok (.getfield 202, 3) := by decide +kernel
theorem dX11_applies_23 : decode cX11_applies 23 = .ok (.iload_n 1, 1) := by decide +kernel
theorem dX11_applies_24 : decode cX11_applies 24 = .ok (.iaload, 1) := by decide +kernel
theorem dX11_applies_25 : decode cX11_applies 25 = .ok (.aload_n 0, 1) := by decide +kernel
theorem dX11_applies_26 : decode cX11_applies 26 = .ok (.getfield 85, 3) := by decide +kernel
theorem dX11_applies_29 : decode cX11_applies 29 = .ok (.invokevirtual 205, 3) := by decide +kernel
theorem dX11_applies_32 : decode cX11_applies 32 = .ok (.ireturn, 1) := by decide +kernel
set_option maxHeartbeats 4000000 in
set_option maxRecDepth 100000 in
theorem w_X11_applies (l : Launch) (hl0 : l.stackTraces = false) (G : GP) (x : XP) (a1 : Int32) (σ : Sto) (P : Int32 → Sto → Prop) (PX : String → Sto → Prop) (h : D_X11_applies a1 σ P PX) : g_Mxi l yX11_applies cX11_applies 2 (some .int) rm_X11_applies G x [.ref (g_ad G 60), .int a1] σ P PX := by
  unfold D_X11_applies at h
  refine g_ofXi hl0 (by decide +kernel) (Nat.le_of_ble_eq_true rfl) (Or.inl (by decide)) ?_
  intro p e s m args below meth c Q ls C hM hl hret hprop hthrow
  have hx := C.1
  have hb := C.2.1
  have hl : lv_has ls 2 [(0, .ref (g_ad G 60)), (1, .int a1)] := hl
  refine lv_aload_n (pc := 0) hx hb dX11_applies_0 rfl (lv_at hl 0 rfl) ?_
  refine lv_iload_n (pc := 1) hx hb dX11_applies_1 rfl (lv_at hl 1 rfl) ?_
  refine g_cxVv (pc := 2) C hM hl.1 yv_X11_requireRule q3_34 (by decide) ce_60 rfl (w_X11_requireRule l hl0 G x a1 σ _ PX h) rfl rfl ⟨⟨by decide, by decide⟩, by decide, by decide⟩ (Nat.le_of_ble_eq_true rfl) dX11_applies_2 hprop (fun s2 H locs h hM => ?_)
  refine lv_aload_n (pc := 5) hx hb dX11_applies_5 rfl (lv_at hl 0 rfl) ?_
  refine g_get (pc := 6) (v := .ref (g_ad G 65)) C hM (by decide) ce_60 fl_RX11_31 rfl dX11_applies_6 ?_
  refine g_cVv (pc := 9) C hM hl.1 yv_X5_refresh q4_36 (by decide) ce_65 rfl (w_X5_refresh l G x  s2 _ h) rfl rfl ⟨⟨by decide, by decide⟩, by decide, by decide⟩ (Nat.le_of_ble_eq_true rfl) dX11_applies_9 (fun s9 H locs h hM => ?_)
  refine lv_aload_n (pc := 12) hx hb dX11_applies_12 rfl (lv_at hl 0 rfl) ?_
  refine g_get (pc := 13) (v := .ref (g_ad G 65)) C hM (by decide) ce_60 fl_RX11_31 rfl dX11_applies_13 ?_
  refine lv_aload_n (pc := 16) hx hb dX11_applies_16 rfl (lv_at hl 0 rfl) ?_
  refine g_get (pc := 17) (v := .ref (g_ad G 65)) C hM (by decide) ce_60 fl_RX11_31 rfl dX11_applies_17 ?_
  refine g_get (pc := 20) (v := .ref (g_ad G 66)) C hM (by decide) ce_65 fl_RX11_202 rfl dX11_applies_20 ?_
  refine lv_iload_n (pc := 23) hx hb dX11_applies_23 rfl (lv_at hl 1 rfl) ?_
  obtain ⟨hc, h⟩ := h
  refine g_ialdK (pc := 24) C hM (by decide) ce_66 hc rfl dX11_applies_24 ?_
  refine lv_aload_n (pc := 25) hx hb dX11_applies_25 rfl (lv_at hl 0 rfl) ?_
  refine g_get (pc := 26) (v := .ref (g_ad G 85)) C hM (by decide) ce_60 fl_RX11_85 rfl dX11_applies_26 ?_
  refine g_cVi (pc := 29) C hM hl.1 yv_X5_fit q4_48 (by decide) ce_65 rfl (w_X5_fit l G x (s9 66 (ix a1)) 85 s9 _ h) rfl rfl ⟨⟨by decide, by decide⟩, by decide, by decide⟩ (Nat.le_of_ble_eq_true rfl) dX11_applies_29 (fun r29 s29 H locs h hM => ?_)
  refine W.widen (k := 1) (n := 6) (by decide) (by decide) ?_
  exact hret 32 _ _ _ _ _ dX11_applies_32 (by rfl) h hM
abbrev rm_X11_firstFailing : Room := { frames := 3, cells := 0, slots := 0, locals := 67 }
theorem dX11_firstFailing_0 : decode cX11_firstFailing 0 = .ok (.aload_n 0, 1) := by decide +kernel
theorem dX11_firstFailing_1 : decode cX11_firstFailing 1 = .ok (.getfield 12, 3) := by decide +kernel
theorem dX11_firstFailing_4 : decode cX11_firstFailing 4 = .ok (.getfield 104, 3) := by decide +kernel
theorem dX11_firstFailing_7 : decode cX11_firstFailing 7 = .ok (.astore_n 2, 1) := by decide +kernel
theorem dX11_firstFailing_8 : decode cX11_firstFailing 8 = .ok (.aload_n 2, 1) := by decide +kernel
theorem dX11_firstFailing_9 : decode cX11_firstFailing 9 = .ok (.iload_n 1, 1) := by decide +kernel
theorem dX11_firstFailing_10 : decode cX11_firstFailing 10 = .ok (.iconst 3, 1) := by decide +kernel
theorem dX11_firstFailing_11 : decode cX11_firstFailing 11 = .ok (.invokevirtual 132, 3) := by decide +kernel
theorem dX11_firstFailing_14 : decode cX11_firstFailing 14 = .ok (.istore_n 3, 1) := by decide +kernel
theorem dX11_firstFailing_15 : decode cX11_firstFailing 15 = .ok (.iconst 0, 1) := by decide +kernel
theorem dX11_firstFailing_16 : decode cX11_firstFailing 16 = .ok (.istore 4, 2) := by decide +kernel
theorem dX11_firstFailing_18 : decode cX11_firstFailing 18 = .ok (.iload 4, 2) := by decide +kernel
theorem dX11_firstFailing_20 : decode cX11_firstFailing 20 = .ok (.iload_n 3, 1) := by decide +kernel
theorem dX11_firstFailing_21 : decode cX11_firstFailing 21 = .ok (.if_icmp .ge 57, 3) := by decide +kernel
theorem dX11_firstFailing_24 : decode cX11_firstFailing 24 = .ok (.aload_n 0, 1) := by decide +kernel
theorem dX11_firstFailing_25 : decode cX11_firstFailing 25 = .ok (.getfield 85, 3) := by decide +kernel
theorem dX11_firstFailing_28 : decode cX11_firstFailing 28 = .ok (.aload_n 2, 1) := by decide +kernel
theorem dX11_firstFailing_29 : decode cX11_firstFailing 29 = .ok (.iload_n 1, 1) := by decide +kernel
theorem dX11_firstFailing_30 : decode cX11_firstFailing 30 = .ok (.iload 4, 2) := by decide +kernel
theorem dX11_firstFailing_32 : decode cX11_firstFailing 32 = .ok (.iconst 0, 1) := by decide +kernel
theorem dX11_firstFailing_33 : decode cX11_firstFailing 33 = .ok (.invokevirtual 152, 3) := by decide +kernel
theorem dX11_firstFailing_36 : decode cX11_firstFailing 36 = .ok (.iaload, 1) := by decide +kernel
theorem dX11_firstFailing_37 : decode cX11_firstFailing 37 = .ok (.istore 5, 2) := by decide +kernel
theorem dX11_firstFailing_39 : decode cX11_firstFailing 39 = .ok (.iload 5, 2) := by decide +kernel
theorem dX11_firstFailing_41 : decode cX11_firstFailing 41 = .ok (.ifCond .ge 9, 3) := by decide +kernel
theorem dX11_firstFailing_44 : decode cX11_firstFailing 44 = .ok (.ldc_w 320, 3) := by decide +kernel
theorem dX11_firstFailing_47 : decode cX11_firstFailing 47 = .ok (.goto 7, 3) := by decide +kernel
theorem dX11_firstFailing_50 : decode cX11_firstFailing 50 = .ok (.iconst 1, 1) := by decide +kernel
theorem dX11_firstFailing_51 : decode cX11_firstFailing 51 = .ok (.iload 5, 2) := by decide +kernel
theorem dX11_firstFailing_53 : decode cX11_firstFailing 53 = .ok (.ishl, 1) := by decide +kernel
theorem dX11_firstFailing_54 : decode cX11_firstFailing 54 = .ok (.istore 6, 2) := by decide +kernel
theorem dX11_firstFailing_56 : decode cX11_firstFailing 56 = .ok (.aload_n 2, 1) := by decide +kernel
theorem dX11_firstFailing_57 : decode cX11_firstFailing 57 = .ok (.iload_n 1, 1) := by decide +kernel
theorem dX11_firstFailing_58 : decode cX11_firstFailing 58 = .ok (.iload 4, 2) := by decide +kernel
theorem dX11_firstFailing_60 : decode cX11_firstFailing 60 = .ok (.invokevirtual 333, 3) := by decide +kernel
theorem dX11_firstFailing_63 : decode cX11_firstFailing 63 = .ok (.iload 6, 2) := by decide +kernel
theorem dX11_firstFailing_65 : decode cX11_firstFailing 65 = .ok (.iand, 1) := by decide +kernel
theorem dX11_firstFailing_66 : decode cX11_firstFailing 66 = .ok (.ifCond .ne 6, 3) := by decide +kernel
theorem dX11_firstFailing_69 : decode cX11_firstFailing 69 = .ok (.iload 4, 2) := by decide +kernel
theorem dX11_firstFailing_71 : decode cX11_firstFailing 71 = .ok (.ireturn, 1) := by decide +kernel
theorem dX11_firstFailing_72 : decode cX11_firstFailing 72 = .ok (.iinc 4 1, 3) := by decide +kernel
theorem dX11_firstFailing_75 : decode cX11_firstFailing 75 = .ok (.goto (-57), 3) := by decide +kernel
theorem dX11_firstFailing_78 : decode cX11_firstFailing 78 = .ok (.iconst (-1), 1) := by decide +kernel
theorem dX11_firstFailing_79 : decode cX11_firstFailing 79 = .ok (.ireturn, 1) := by decide +kernel
set_option maxHeartbeats 4000000 in
set_option maxRecDepth 100000 in
theorem w_X11_firstFailing (l : Launch) (G : GP) (x : XP) (a1 : Int32) (σ : Sto) (P : Int32 → Sto → Prop) (h : D_X11_firstFailing a1 σ P) : g_Meti l yX11_firstFailing cX11_firstFailing 7 (some .int) rm_X11_firstFailing G x [.ref (g_ad G 60), .int a1] σ P := by
  unfold D_X11_firstFailing at h
  refine g_ofWi (by decide +kernel) (Nat.le_of_ble_eq_true rfl) ?_
  intro p e s m args below meth c Q ls C hM hl hret
  have hx := C.1
  have hb := C.2.1
  have hl : lv_has ls 7 [(0, .ref (g_ad G 60)), (1, .int a1)] := hl
  have h := h (fun (v3 : Int32) (v4 : Int32) (σ : Sto) => ∀ (H : Heap) (locs : List Loc) (ls : Array Slot), g_M G x σ s H locs → lv_has ls 7 [(0, .ref (g_ad G 60)), (1, .int a1), (2, .ref (g_ad G 1)), (3, .int v3), (4, .int v4)] → W p l e rm_X11_firstFailing s m args below meth c H locs 0 0 Q (F0 m 18 ls []))
  have h := h (by
    intro v3 v4 σ h  H locs ls hM hl
    refine lv_iload (pc := 18) hx hb dX11_firstFailing_18 (lv_at hl 4 rfl) ?_
    refine lv_iload_n (pc := 20) hx hb dX11_firstFailing_20 rfl (lv_at hl 3 rfl) ?_
    refine lv_icmp_ge (pc := 21) (tgt := 78) hx hb dX11_firstFailing_21 (by decide) (fun c21 => ?_) (fun c21 => ?_)
    · have h := h.1 c21
      refine lv_iconst (pc := 78) (v := (-1)) hx hb dX11_firstFailing_78 (by decide) ?_
      exact hret 79 _ _ _ _ _ dX11_firstFailing_79 (by rfl) h hM
    · have h := h.2 c21
      refine lv_aload_n (pc := 24) hx hb dX11_firstFailing_24 rfl (lv_at hl 0 rfl) ?_
      refine g_get (pc := 25) (v := .ref (g_ad G 85)) C hM (by decide) ce_60 fl_RX11_85 rfl dX11_firstFailing_25 ?_
      refine lv_aload_n (pc := 28) hx hb dX11_firstFailing_28 rfl (lv_at hl 2 rfl) ?_
      refine lv_iload_n (pc := 29) hx hb dX11_firstFailing_29 rfl (lv_at hl 1 rfl) ?_
      refine lv_iload (pc := 30) hx hb dX11_firstFailing_30 (lv_at hl 4 rfl) ?_
      refine lv_iconst (pc := 32) (v := 0) hx hb dX11_firstFailing_32 (by decide) ?_
      refine g_cVi (pc := 33) C hM hl.1 yv_X6_conditionCell q3_104 (by decide) ce_1 rfl (w_X6_conditionCell l G x 1 a1 v4 0 σ _ h) rfl rfl ⟨⟨by decide, by decide⟩, by decide, by decide⟩ (Nat.le_of_ble_eq_true rfl) dX11_firstFailing_33 (fun r33 s33 H locs h hM => ?_)
      obtain ⟨hc, h⟩ := h
      refine g_ialdK (pc := 36) C hM (by decide) ce_85 hc rfl dX11_firstFailing_36 ?_
      refine lv_istore (pc := 37) (lv' := [(5, .int (s33 85 (ix r33))), (0, .ref (g_ad G 60)), (1, .int a1), (2, .ref (g_ad G 1)), (3, .int v3), (4, .int v4)]) hx hb dX11_firstFailing_37 hl (by decide) rfl (fun ls hl => ?_)
      refine lv_iload (pc := 39) hx hb dX11_firstFailing_39 (lv_at hl 0 rfl) ?_
      refine lv_if_ge (pc := 41) (tgt := 50) hx hb dX11_firstFailing_41 (by decide) (fun c41 => ?_) (fun c41 => ?_)
      · have h := h.1 c41
        refine lv_iconst (pc := 50) (v := 1) hx hb dX11_firstFailing_50 (by decide) ?_
        refine lv_iload (pc := 51) hx hb dX11_firstFailing_51 (lv_at hl 0 rfl) ?_
        refine lv_ishl (pc := 53) hx hb dX11_firstFailing_53 ?_
        refine lv_topi (fun v6_54 ev6_54 => ?_)
        have h := h v6_54 ev6_54
        refine lv_istore (pc := 54) (lv' := [(6, .int v6_54), (5, .int (s33 85 (ix r33))), (0, .ref (g_ad G 60)), (1, .int a1), (2, .ref (g_ad G 1)), (3, .int v3), (4, .int v4)]) hx hb dX11_firstFailing_54 hl (by decide) rfl (fun ls hl => ?_)
        refine lv_aload_n (pc := 56) hx hb dX11_firstFailing_56 rfl (lv_at hl 4 rfl) ?_
        refine lv_iload_n (pc := 57) hx hb dX11_firstFailing_57 rfl (lv_at hl 3 rfl) ?_
        refine lv_iload (pc := 58) hx hb dX11_firstFailing_58 (lv_at hl 6 rfl) ?_
        refine g_cVi (pc := 60) C hM hl.1 yv_X6_valuesOf q4_67 (by decide) ce_1 rfl (w_X6_valuesOf l G x 1 a1 v4 s33 _ h) rfl rfl ⟨⟨by decide, by decide⟩, by decide, by decide⟩ (Nat.le_of_ble_eq_true rfl) dX11_firstFailing_60 (fun r60 s60 H locs h hM => ?_)
        refine lv_iload (pc := 63) hx hb dX11_firstFailing_63 (lv_at hl 0 rfl) ?_
        refine lv_iand (pc := 65) hx hb dX11_firstFailing_65 ?_
        refine lv_if_ne (pc := 66) (tgt := 72) hx hb dX11_firstFailing_66 (by decide) (fun c66 => ?_) (fun c66 => ?_)
        · have h := h.2 c66
          refine lv_iinc (pc := 72) (v := (v4 + 1)) (lv' := [(4, .int (v4 + 1)), (6, .int v6_54), (5, .int (s33 85 (ix r33))), (0, .ref (g_ad G 60)), (1, .int a1), (2, .ref (g_ad G 1)), (3, .int v3)]) hx hb dX11_firstFailing_72 hl (k := 6) rfl (by rfl) (by decide) rfl (fun ls hl => ?_)
          refine lv_goto (pc := 75) (tgt := 18) hx hb dX11_firstFailing_75 (by decide) ?_
          exact h _ _ _ hM (lv_sub hl [3, 4, 5, 6, 0] rfl)
        · have h := h.1 c66
          refine lv_iload (pc := 69) hx hb dX11_firstFailing_69 (lv_at hl 6 rfl) ?_
          exact hret 71 _ _ _ _ _ dX11_firstFailing_71 (by rfl) h hM
      · have h := h.2 c41
        refine lv_ldcw (pc := 44) (v := 65535) hx hb C.2.2.2.1 (C.2.2.2.2.1 _ q3_41) dX11_firstFailing_44 ?_
        refine lv_goto (pc := 47) (tgt := 54) hx hb dX11_firstFailing_47 (by decide) ?_
        refine lv_istore (pc := 54) (lv' := [(6, .int 65535), (5, .int (s33 85 (ix r33))), (0, .ref (g_ad G 60)), (1, .int a1), (2, .ref (g_ad G 1)), (3, .int v3), (4, .int v4)]) hx hb dX11_firstFailing_54 hl (by decide) rfl (fun ls hl => ?_)
        refine lv_aload_n (pc := 56) hx hb dX11_firstFailing_56 rfl (lv_at hl 4 rfl) ?_
        refine lv_iload_n (pc := 57) hx hb dX11_firstFailing_57 rfl (lv_at hl 3 rfl) ?_
        refine lv_iload (pc := 58) hx hb dX11_firstFailing_58 (lv_at hl 6 rfl) ?_
        refine g_cVi (pc := 60) C hM hl.1 yv_X6_valuesOf q4_67 (by decide) ce_1 rfl (w_X6_valuesOf l G x 1 a1 v4 s33 _ h) rfl rfl ⟨⟨by decide, by decide⟩, by decide, by decide⟩ (Nat.le_of_ble_eq_true rfl) dX11_firstFailing_60 (fun r60 s60 H locs h hM => ?_)
        refine lv_iload (pc := 63) hx hb dX11_firstFailing_63 (lv_at hl 0 rfl) ?_
        refine lv_iand (pc := 65) hx hb dX11_firstFailing_65 ?_
        refine lv_if_ne (pc := 66) (tgt := 72) hx hb dX11_firstFailing_66 (by decide) (fun c66 => ?_) (fun c66 => ?_)
        · have h := h.2 c66
          refine lv_iinc (pc := 72) (v := (v4 + 1)) (lv' := [(4, .int (v4 + 1)), (6, .int 65535), (5, .int (s33 85 (ix r33))), (0, .ref (g_ad G 60)), (1, .int a1), (2, .ref (g_ad G 1)), (3, .int v3)]) hx hb dX11_firstFailing_72 hl (k := 6) rfl (by rfl) (by decide) rfl (fun ls hl => ?_)
          refine lv_goto (pc := 75) (tgt := 18) hx hb dX11_firstFailing_75 (by decide) ?_
          exact h _ _ _ hM (lv_sub hl [3, 4, 5, 6, 0] rfl)
        · have h := h.1 c66
          refine lv_iload (pc := 69) hx hb dX11_firstFailing_69 (lv_at hl 6 rfl) ?_
          exact hret 71 _ _ _ _ _ dX11_firstFailing_71 (by rfl) h hM)
  refine lv_aload_n (pc := 0) hx hb dX11_firstFailing_0 rfl (lv_at hl 0 rfl) ?_
  refine g_get (pc := 1) (v := .ref (g_ad G 0)) C hM (by decide) ce_60 fl_RX11_12 rfl dX11_firstFailing_1 ?_
  refine g_get (pc := 4) (v := .ref (g_ad G 1)) C hM (by decide) ce_0 fl_RX11_104 rfl dX11_firstFailing_4 ?_
  refine lv_astore_n (pc := 7) (lv' := [(2, .ref (g_ad G 1)), (0, .ref (g_ad G 60)), (1, .int a1)]) hx hb dX11_firstFailing_7 rfl hl (by decide) rfl (fun ls hl => ?_)
  refine lv_aload_n (pc := 8) hx hb dX11_firstFailing_8 rfl (lv_at hl 0 rfl) ?_
  refine lv_iload_n (pc := 9) hx hb dX11_firstFailing_9 rfl (lv_at hl 2 rfl) ?_
  refine lv_iconst (pc := 10) (v := 3) hx hb dX11_firstFailing_10 (by decide) ?_
  refine g_cVi (pc := 11) C hM hl.1 yv_X6_cell q3_42 (by decide) ce_1 rfl (w_X6_cell l G x 1 a1 3 σ _ h) rfl rfl ⟨⟨by decide, by decide⟩, by decide, by decide⟩ (Nat.le_of_ble_eq_true rfl) dX11_firstFailing_11 (fun r11 s11 H locs h hM => ?_)
  refine lv_istore_n (pc := 14) (lv' := [(3, .int r11), (2, .ref (g_ad G 1)), (0, .ref (g_ad G 60)), (1, .int a1)]) hx hb dX11_firstFailing_14 rfl hl (by decide) rfl (fun ls hl => ?_)
  refine lv_iconst (pc := 15) (v := 0) hx hb dX11_firstFailing_15 (by decide) ?_
  refine lv_istore (pc := 16) (lv' := [(4, .int 0), (3, .int r11), (2, .ref (g_ad G 1)), (0, .ref (g_ad G 60)), (1, .int a1)]) hx hb dX11_firstFailing_16 hl (by decide) rfl (fun ls hl => ?_)
  exact h _ _ _ hM (lv_sub hl [3, 4, 2, 1, 0] rfl)
abbrev rm_X11_failing : Room := { frames := 8, cells := 2, slots := 12, locals := 142 }
theorem dX11_failing_0 : decode cX11_failing 0 = .ok (.aload_n 0, 1) := by decide +kernel
theorem dX11_failing_1 : decode cX11_failing 1 = .ok (.iload_n 1, 1) := by decide +kernel
theorem dX11_failing_2 : decode cX11_failing 2 = .ok (.invokevirtual 124, 3) := by decide +kernel
theorem dX11_failing_5 : decode cX11_failing 5 = .ok (.aload_n 0, 1) := by decide +kernel
theorem dX11_failing_6 : decode cX11_failing 6 = .ok (.iload_n 1, 1) := by decide +kernel
theorem dX11_failing_7 : decode cX11_failing 7 = .ok (.invokevirtual 209, 3) := by decide +kernel
theorem dX11_failing_10 : decode cX11_failing 10 = .ok (.istore_n 2, 1) := by decide +kernel
theorem dX11_failing_11 : decode cX11_failing 11 = .ok (.iload_n 2, 1) := by decide +kernel
theorem dX11_failing_12 : decode cX11_failing 12 = .ok (.ifCond .lt 7, 3) := by decide +kernel
theorem dX11_failing_15 : decode cX11_failing 15 = .ok (.iconst 1, 1) := by decide +kernel
theorem dX11_failing_16 : decode cX11_failing 16 = .ok (.goto 4, 3) := by decide +kernel
theorem dX11_failing_19 : decode cX11_failing 19 = .ok (.iconst 0, 1) := by decide +kernel
theorem dX11_failing_20 : decode cX11_failing 20 = .ok (.invokestatic 172, 3) := by decide +kernel
theorem dX11_failing_23 : decode cX11_failing 23 = .ok (.iload_n 2, 1) := by decide +kernel
theorem dX11_failing_24 : decode cX11_failing 24 = .ok (.ireturn, 1) := by decide +kernel
set_option maxHeartbeats 4000000 in
set_option maxRecDepth 100000 in
theorem w_X11_failing (l : Launch) (hl0 : l.stackTraces = false) (G : GP) (x : XP) (a1 : Int32) (σ : Sto) (P : Int32 → Sto → Prop) (PX : String → Sto → Prop) (h : D_X11_failing a1 σ P PX) : g_Mxi l yX11_failing cX11_failing 3 (some .int) rm_X11_failing G x [.ref (g_ad G 60), .int a1] σ P PX := by
  unfold D_X11_failing at h
  refine g_ofXi hl0 (by decide +kernel) (Nat.le_of_ble_eq_true rfl) (Or.inl (by decide)) ?_
  intro p e s m args below meth c Q ls C hM hl hret hprop hthrow
  have hx := C.1
  have hb := C.2.1
  have hl : lv_has ls 3 [(0, .ref (g_ad G 60)), (1, .int a1)] := hl
  refine lv_aload_n (pc := 0) hx hb dX11_failing_0 rfl (lv_at hl 0 rfl) ?_
  refine lv_iload_n (pc := 1) hx hb dX11_failing_1 rfl (lv_at hl 1 rfl) ?_
  refine g_cxVv (pc := 2) C hM hl.1 yv_X11_requireRule q3_34 (by decide) ce_60 rfl (w_X11_requireRule l hl0 G x a1 σ _ PX h) rfl rfl ⟨⟨by decide, by decide⟩, by decide, by decide⟩ (Nat.le_of_ble_eq_true rfl) dX11_failing_2 hprop (fun s2 H locs h hM => ?_)
  refine lv_aload_n (pc := 5) hx hb dX11_failing_5 rfl (lv_at hl 0 rfl) ?_
  refine lv_iload_n (pc := 6) hx hb dX11_failing_6 rfl (lv_at hl 1 rfl) ?_
  refine g_cVi (pc := 7) C hM hl.1 yv_X11_firstFailing q4_63 (by decide) ce_60 rfl (w_X11_firstFailing l G x a1 s2 _ h) rfl rfl ⟨⟨by decide, by decide⟩, by decide, by decide⟩ (Nat.le_of_ble_eq_true rfl) dX11_failing_7 (fun r7 s7 H locs h hM => ?_)
  refine lv_istore_n (pc := 10) (lv' := [(2, .int r7), (0, .ref (g_ad G 60)), (1, .int a1)]) hx hb dX11_failing_10 rfl hl (by decide) rfl (fun ls hl => ?_)
  refine lv_iload_n (pc := 11) hx hb dX11_failing_11 rfl (lv_at hl 0 rfl) ?_
  refine lv_if_lt (pc := 12) (tgt := 19) hx hb dX11_failing_12 (by decide) (fun c12 => ?_) (fun c12 => ?_)
  · have h := h.1 c12
    refine lv_iconst (pc := 19) (v := 0) hx hb dX11_failing_19 (by decide) ?_
    refine g_cxSv (pc := 20) C hM hl.1 ys_X11_requireElement q3_161 (w_X11_requireElement l hl0 G x 0 s7 _ PX h) rfl rfl ⟨⟨by decide, by decide⟩, by decide, by decide⟩ (Nat.le_of_ble_eq_true rfl) dX11_failing_20 hprop (fun s20 H locs h hM => ?_)
    refine lv_iload_n (pc := 23) hx hb dX11_failing_23 rfl (lv_at hl 0 rfl) ?_
    refine W.widen (k := 2) (n := 12) (by decide) (by decide) ?_
    exact hret 24 _ _ _ _ _ dX11_failing_24 (by rfl) h hM
  · have h := h.2 c12
    refine lv_iconst (pc := 15) (v := 1) hx hb dX11_failing_15 (by decide) ?_
    refine lv_goto (pc := 16) (tgt := 20) hx hb dX11_failing_16 (by decide) ?_
    refine g_cxSv (pc := 20) C hM hl.1 ys_X11_requireElement q3_161 (w_X11_requireElement l hl0 G x 1 s7 _ PX h) rfl rfl ⟨⟨by decide, by decide⟩, by decide, by decide⟩ (Nat.le_of_ble_eq_true rfl) dX11_failing_20 hprop (fun s20 H locs h hM => ?_)
    refine lv_iload_n (pc := 23) hx hb dX11_failing_23 rfl (lv_at hl 0 rfl) ?_
    refine W.widen (k := 2) (n := 12) (by decide) (by decide) ?_
    exact hret 24 _ _ _ _ _ dX11_failing_24 (by rfl) h hM
abbrev rm_X11_decide : Room := { frames := 7, cells := 1, slots := 6, locals := 120 }
theorem dX11_decide_0 : decode cX11_decide 0 = .ok (.aload_n 0, 1) := by decide +kernel
theorem dX11_decide_1 : decode cX11_decide 1 = .ok (.invokevirtual 212, 3) := by decide +kernel
theorem dX11_decide_4 : decode cX11_decide 4 = .ok (.ifCond .ne 7, 3) := by decide +kernel
theorem dX11_decide_7 : decode cX11_decide 7 = .ok (.iconst 1, 1) := by decide +kernel
theorem dX11_decide_8 : decode cX11_decide 8 = .ok (.goto 4, 3) := by decide +kernel
theorem dX11_decide_11 : decode cX11_decide 11 = .ok (.iconst 0, 1) := by decide +kernel
theorem dX11_decide_12 : decode cX11_decide 12 = .ok (.invokestatic 114, 3) := by decide +kernel
theorem dX11_decide_15 : decode cX11_decide 15 = .ok (.aload_n 0, 1) := by decide +kernel
theorem dX11_decide_16 : decode cX11_decide 16 = .ok (.getfield 31, 3) := by decide +kernel
theorem dX11_decide_19 : decode cX11_decide 19 = .ok (.invokevirtual 199, 3) := by decide +kernel
theorem dX11_decide_22 : decode cX11_decide 22 = .ok (.aload_n 0, 1) := by decide +kernel
theorem dX11_decide_23 : decode cX11_decide 23 = .ok (.getfield 60, 3) := by decide +kernel
theorem dX11_decide_26 : decode cX11_decide 26 = .ok (.aload_n 0, 1) := by decide +kernel
theorem dX11_decide_27 : decode cX11_decide 27 = .ok (.getfield 196, 3) := by decide +kernel
theorem dX11_decide_30 : decode cX11_decide 30 = .ok (.aload_n 0, 1) := by decide +kernel
theorem dX11_decide_31 : decode cX11_decide 31 = .ok (.getfield 176, 3) := by decide +kernel
theorem dX11_decide_34 : decode cX11_decide 34 = .ok (.invokevirtual 184, 3) := by decide +kernel
theorem dX11_decide_37 : decode cX11_decide 37 = .ok (.istore_n 1, 1) := by decide +kernel
theorem dX11_decide_38 : decode cX11_decide 38 = .ok (.aload_n 0, 1) := by decide +kernel
theorem dX11_decide_39 : decode cX11_decide 39 = .ok (.getfield 31, 3) := by decide +kernel
theorem dX11_decide_42 : decode cX11_decide 42 = .ok (.aload_n 0, 1) := by decide +kernel
theorem dX11_decide_43 : decode cX11_decide 43 = .ok (.getfield 85, 3) := by decide +kernel
theorem dX11_decide_46 : decode cX11_decide 46 = .ok (.invokevirtual 216, 3) := by decide +kernel
theorem dX11_decide_49 : decode cX11_decide 49 = .ok (.istore_n 2, 1) := by decide +kernel
theorem dX11_decide_50 : decode cX11_decide 50 = .ok (.aload_n 0, 1) := by decide +kernel
theorem dX11_decide_51 : decode cX11_decide 51 = .ok (.getfield 31, 3) := by decide +kernel
theorem dX11_decide_54 : decode cX11_decide 54 = .ok (.iload_n 2, 1) := by decide +kernel
theorem dX11_decide_55 : decode cX11_decide 55 = .ok (.iload_n 1, 1) := by decide +kernel
theorem dX11_decide_56 : decode cX11_decide 56 = .ok (.invokevirtual 220, 3) := by decide +kernel
theorem dX11_decide_59 : decode cX11_decide 59 = .ok (.istore_n 3, 1) := by decide +kernel
theorem dX11_decide_60 : decode cX11_decide 60 = .ok (.aload_n 0, 1) := by decide +kernel
theorem dX11_decide_61 : decode cX11_decide 61 = .ok (.getfield 67, 3) := by decide +kernel
theorem dX11_decide_64 : decode cX11_decide 64 = .ok (.aload_n 0, 1) := by decide +kernel
theorem dX11_decide_65 : decode cX11_decide 65 = .ok (.getfield 176, 3) := by decide +kernel
theorem dX11_decide_68 : decode cX11_decide 68 = .ok (.aload_n 0, 1) := by decide +kernel
theorem dX11_decide_69 : decode cX11_decide 69 = .ok (.getfield 196, 3) := by decide +kernel
theorem dX11_decide_72 : decode cX11_decide 72 = .ok (.iload_n 3, 1) := by decide +kernel
theorem dX11_decide_73 : decode cX11_decide 73 = .ok (.aload_n 0, 1) := by decide +kernel
theorem dX11_decide_74 : decode cX11_decide 74 = .ok (.getfield 31, 3) := by decide +kernel
theorem dX11_decide_77 : decode cX11_decide 77 = .ok (.iload_n 2, 1) := by decide +kernel
theorem dX11_decide_78 : decode cX11_decide 78 = .ok (.iload_n 1, 1) := by decide +kernel
theorem dX11_decide_79 : decode cX11_decide 79 = .ok (.iload_n 3, 1) := by decide +kernel
theorem dX11_decide_80 : decode cX11_decide 80 = .ok (.invokevirtual 223, 3) := by decide +kernel
theorem dX11_decide_83 : decode cX11_decide 83 = .ok (.invokevirtual 226, 3) := by decide +kernel
theorem dX11_decide_86 : decode cX11_decide 86 = .ok (.iload_n 3, 1) := by decide +kernel
theorem dX11_decide_87 : decode cX11_decide 87 = .ok (.ireturn, 1) := by decide +kernel
set_option maxHeartbeats 4000000 in
set_option maxRecDepth 100000 in
theorem w_X11_decide (l : Launch) (hl0 : l.stackTraces = false) (G : GP) (x : XP) (σ : Sto) (P : Int32 → Sto → Prop) (PX : String → Sto → Prop) (h : D_X11_decide  σ P PX) : g_Mxi l yX11_decide cX11_decide 4 (some .int) rm_X11_decide G x [.ref (g_ad G 60)] σ P PX := by
  unfold D_X11_decide at h
  refine g_ofXi hl0 (by decide +kernel) (Nat.le_of_ble_eq_true rfl) (Or.inl (by decide)) ?_
  intro p e s m args below meth c Q ls C hM hl hret hprop hthrow
  have hx := C.1
  have hb := C.2.1
  have hl : lv_has ls 4 [(0, .ref (g_ad G 60))] := hl
  have h := h (fun (t0 : Int32) (σ : Sto) => ∀ (H : Heap) (locs : List Loc) (ls : Array Slot), g_M G x σ s H locs → lv_has ls 4 [(0, .ref (g_ad G 60))] → W p l e rm_X11_decide s m args below meth c H locs 0 0 Q (F0 m 12 ls [.int t0]))
  have h := h (by
    intro t0 σ h  H locs ls hM hl
    refine g_cxSv (pc := 12) C hM hl.1 ys_X11_requireState q2_236 (w_X11_requireState l hl0 G x t0 σ _ PX h) rfl rfl ⟨⟨by decide, by decide⟩, by decide, by decide⟩ (Nat.le_of_ble_eq_true rfl) dX11_decide_12 hprop (fun s12 H locs h hM => ?_)
    refine lv_aload_n (pc := 15) hx hb dX11_decide_15 rfl (lv_at hl 0 rfl) ?_
    refine g_get (pc := 16) (v := .ref (g_ad G 65)) C hM (by decide) ce_60 fl_RX11_31 rfl dX11_decide_16 ?_
    refine g_cVv (pc := 19) C hM hl.1 yv_X5_refresh q4_36 (by decide) ce_65 rfl (w_X5_refresh l G x  s12 _ h) rfl rfl ⟨⟨by decide, by decide⟩, by decide, by decide⟩ (Nat.le_of_ble_eq_true rfl) dX11_decide_19 (fun s19 H locs h hM => ?_)
    refine lv_aload_n (pc := 22) hx hb dX11_decide_22 rfl (lv_at hl 0 rfl) ?_
    refine g_get (pc := 23) (v := .ref (g_ad G 77)) C hM (by decide) ce_60 fl_RX11_60 rfl dX11_decide_23 ?_
    refine lv_aload_n (pc := 26) hx hb dX11_decide_26 rfl (lv_at hl 0 rfl) ?_
    refine g_get (pc := 27) (v := .int (s19 60 13)) C hM (by decide) ce_60 fl_RX11_196 rfl dX11_decide_27 ?_
    refine lv_aload_n (pc := 30) hx hb dX11_decide_30 rfl (lv_at hl 0 rfl) ?_
    refine g_get (pc := 31) (v := .int (s19 60 14)) C hM (by decide) ce_60 fl_RX11_176 rfl dX11_decide_31 ?_
    refine g_cVi (pc := 34) C hM hl.1 yv_X1_usable q3_198 (by decide) ce_77 rfl (w_X1_usable l G x (s19 60 13) (s19 60 14) s19 _ h) rfl rfl ⟨⟨by decide, by decide⟩, by decide, by decide⟩ (Nat.le_of_ble_eq_true rfl) dX11_decide_34 (fun r34 s34 H locs h hM => ?_)
    refine lv_istore_n (pc := 37) (lv' := [(1, .int r34), (0, .ref (g_ad G 60))]) hx hb dX11_decide_37 rfl hl (by decide) rfl (fun ls hl => ?_)
    refine lv_aload_n (pc := 38) hx hb dX11_decide_38 rfl (lv_at hl 1 rfl) ?_
    refine g_get (pc := 39) (v := .ref (g_ad G 65)) C hM (by decide) ce_60 fl_RX11_31 rfl dX11_decide_39 ?_
    refine lv_aload_n (pc := 42) hx hb dX11_decide_42 rfl (lv_at hl 1 rfl) ?_
    refine g_get (pc := 43) (v := .ref (g_ad G 85)) C hM (by decide) ce_60 fl_RX11_85 rfl dX11_decide_43 ?_
    refine g_cVi (pc := 46) C hM hl.1 yv_X5_matching q4_76 (by decide) ce_65 rfl (w_X5_matching l G x 85 s34 _ h) rfl rfl ⟨⟨by decide, by decide⟩, by decide, by decide⟩ (Nat.le_of_ble_eq_true rfl) dX11_decide_46 (fun r46 s46 H locs h hM => ?_)
    refine lv_istore_n (pc := 49) (lv' := [(2, .int r46), (1, .int r34), (0, .ref (g_ad G 60))]) hx hb dX11_decide_49 rfl hl (by decide) rfl (fun ls hl => ?_)
    refine lv_aload_n (pc := 50) hx hb dX11_decide_50 rfl (lv_at hl 2 rfl) ?_
    refine g_get (pc := 51) (v := .ref (g_ad G 65)) C hM (by decide) ce_60 fl_RX11_31 rfl dX11_decide_51 ?_
    refine lv_iload_n (pc := 54) hx hb dX11_decide_54 rfl (lv_at hl 0 rfl) ?_
    refine lv_iload_n (pc := 55) hx hb dX11_decide_55 rfl (lv_at hl 1 rfl) ?_
    refine g_cVi (pc := 56) C hM hl.1 yv_X5_decisionOf q4_81 (by decide) ce_65 rfl (w_X5_decisionOf l G x r46 r34 s46 _ h) rfl rfl ⟨⟨by decide, by decide⟩, by decide, by decide⟩ (Nat.le_of_ble_eq_true rfl) dX11_decide_56 (fun r56 s56 H locs h hM => ?_)
    refine lv_istore_n (pc := 59) (lv' := [(3, .int r56), (2, .int r46), (1, .int r34), (0, .ref (g_ad G 60))]) hx hb dX11_decide_59 rfl hl (by decide) rfl (fun ls hl => ?_)
    refine lv_aload_n (pc := 60) hx hb dX11_decide_60 rfl (lv_at hl 3 rfl) ?_
    refine g_get (pc := 61) (v := .ref (g_ad G 79)) C hM (by decide) ce_60 fl_RX11_67 rfl dX11_decide_61 ?_
    refine lv_aload_n (pc := 64) hx hb dX11_decide_64 rfl (lv_at hl 3 rfl) ?_
    refine g_get (pc := 65) (v := .int (s56 60 14)) C hM (by decide) ce_60 fl_RX11_176 rfl dX11_decide_65 ?_
    refine lv_aload_n (pc := 68) hx hb dX11_decide_68 rfl (lv_at hl 3 rfl) ?_
    refine g_get (pc := 69) (v := .int (s56 60 13)) C hM (by decide) ce_60 fl_RX11_196 rfl dX11_decide_69 ?_
    refine lv_iload_n (pc := 72) hx hb dX11_decide_72 rfl (lv_at hl 0 rfl) ?_
    refine lv_aload_n (pc := 73) hx hb dX11_decide_73 rfl (lv_at hl 3 rfl) ?_
    refine g_get (pc := 74) (v := .ref (g_ad G 65)) C hM (by decide) ce_60 fl_RX11_31 rfl dX11_decide_74 ?_
    refine lv_iload_n (pc := 77) hx hb dX11_decide_77 rfl (lv_at hl 1 rfl) ?_
    refine lv_iload_n (pc := 78) hx hb dX11_decide_78 rfl (lv_at hl 2 rfl) ?_
    refine lv_iload_n (pc := 79) hx hb dX11_decide_79 rfl (lv_at hl 0 rfl) ?_
    refine g_cVi (pc := 80) C hM hl.1 yv_X5_deciderOf q4_96 (by decide) ce_65 rfl (w_X5_deciderOf l G x r46 r34 r56 s56 _ h) rfl rfl ⟨⟨by decide, by decide⟩, by decide, by decide⟩ (Nat.le_of_ble_eq_true rfl) dX11_decide_80 (fun r80 s80 H locs h hM => ?_)
    refine g_cVv (pc := 83) C hM hl.1 yv_X0_add q4_104 (by decide) ce_79 rfl (w_X0_add l G x (s56 60 14) (s56 60 13) r56 r80 s80 _ h) rfl rfl ⟨⟨by decide, by decide⟩, by decide, by decide⟩ (Nat.le_of_ble_eq_true rfl) dX11_decide_83 (fun s83 H locs h hM => ?_)
    refine lv_iload_n (pc := 86) hx hb dX11_decide_86 rfl (lv_at hl 0 rfl) ?_
    refine W.widen (k := 1) (n := 6) (by decide) (by decide) ?_
    exact hret 87 _ _ _ _ _ dX11_decide_87 (by rfl) h hM)
  refine lv_aload_n (pc := 0) hx hb dX11_decide_0 rfl (lv_at hl 0 rfl) ?_
  refine g_cVi (pc := 1) C hM hl.1 yv_X11_unknown q4_75 (by decide) ce_60 rfl (w_X11_unknown l G x  σ _ h) rfl rfl ⟨⟨by decide, by decide⟩, by decide, by decide⟩ (Nat.le_of_ble_eq_true rfl) dX11_decide_1 (fun r1 s1 H locs h hM => ?_)
  refine lv_if_ne (pc := 4) (tgt := 11) hx hb dX11_decide_4 (by decide) (fun c4 => ?_) (fun c4 => ?_)
  · have h := h.2 c4
    refine lv_iconst (pc := 11) (v := 0) hx hb dX11_decide_11 (by decide) ?_
    refine W.widen (k := 0) (n := 0) (by decide) (by decide) ?_
    exact h _ _ _ hM (lv_sub hl [0] rfl)
  · have h := h.1 c4
    refine lv_iconst (pc := 7) (v := 1) hx hb dX11_decide_7 (by decide) ?_
    refine lv_goto (pc := 8) (tgt := 12) hx hb dX11_decide_8 (by decide) ?_
    refine W.widen (k := 0) (n := 0) (by decide) (by decide) ?_
    exact h _ _ _ hM (lv_sub hl [0] rfl)
abbrev rm_X11_decidingRule : Room := { frames := 7, cells := 2, slots := 12, locals := 120 }
theorem dX11_decidingRule_0 : decode cX11_decidingRule 0 = .ok (.aload_n 0, 1) := by decide +kernel
theorem dX11_decidingRule_1 : decode cX11_decidingRule 1 = .ok (.invokevirtual 212, 3) := by decide +kernel
theorem dX11_decidingRule_4 : decode cX11_decidingRule 4 = .ok (.ifCond .ne 7, 3) := by decide +kernel
theorem dX11_decidingRule_7 : decode cX11_decidingRule 7 = .ok (.iconst 1, 1) := by decide +kernel
theorem dX11_decidingRule_8 : decode cX11_decidingRule 8 = .ok (.goto 4, 3) := by decide +kernel
theorem dX11_decidingRule_11 : decode cX11_decidingRule 11 = .ok (.iconst 0, 1) := by decide +kernel
theorem dX11_decidingRule_12 : decode cX11_decidingRule 12 = .ok (.invokestatic 114, 3) := by decide +kernel
theorem dX11_decidingRule_15 : decode cX11_decidingRule 15 = .ok (.aload_n 0, 1) := by decide +kernel
theorem dX11_decidingRule_16 : decode cX11_decidingRule 16 = .ok (.getfield 31, 3) := by decide +kernel
theorem dX11_decidingRule_19 : decode cX11_decidingRule 19 = .ok (.invokevirtual 199, 3) := by decide +kernel
theorem dX11_decidingRule_22 : decode cX11_decidingRule 22 = .ok (.aload_n 0, 1) := by decide +kernel
theorem dX11_decidingRule_23 : decode cX11_decidingRule 23 = .ok (.getfield 60, 3) := by decide +kernel
theorem dX11_decidingRule_26 : decode cX11_decidingRule 26 = .ok (.aload_n 0, 1) := by decide +kernel
theorem dX11_decidingRule_27 : decode cX11_decidingRule 27 = .ok (.getfield 196, 3) := by decide +kernel
theorem dX11_decidingRule_30 : decode cX11_decidingRule 30 = .ok (.aload_n 0, 1) := by decide +kernel
theorem dX11_decidingRule_31 : decode cX11_decidingRule 31 = .ok (.getfield 176, 3) := by decide +kernel
theorem dX11_decidingRule_34 : decode cX11_decidingRule 34 = .ok (.invokevirtual 184, 3) := by decide +kernel
theorem dX11_decidingRule_37 : decode cX11_decidingRule 37 = .ok (.istore_n 1, 1) := by decide +kernel
theorem dX11_decidingRule_38 : decode cX11_decidingRule 38 = .ok (.aload_n 0, 1) := by decide +kernel
theorem dX11_decidingRule_39 : decode cX11_decidingRule 39 = .ok (.getfield 31, 3) := by decide +kernel
theorem dX11_decidingRule_42 : decode cX11_decidingRule 42 = .ok (.aload_n 0, 1) := by decide +kernel
theorem dX11_decidingRule_43 : decode cX11_decidingRule 43 = .ok (.getfield 85, 3) := by decide +kernel
theorem dX11_decidingRule_46 : decode cX11_decidingRule 46 = .ok (.invokevirtual 216, 3) := by decide +kernel
theorem dX11_decidingRule_49 : decode cX11_decidingRule 49 = .ok (.istore_n 2, 1) := by decide +kernel
theorem dX11_decidingRule_50 : decode cX11_decidingRule 50 = .ok (.aload_n 0, 1) := by decide +kernel
theorem dX11_decidingRule_51 : decode cX11_decidingRule 51 = .ok (.getfield 31, 3) := by decide +kernel
theorem dX11_decidingRule_54 : decode cX11_decidingRule 54 = .ok (.iload_n 2, 1) := by decide +kernel
theorem dX11_decidingRule_55 : decode cX11_decidingRule 55 = .ok (.iload_n 1, 1) := by decide +kernel
theorem dX11_decidingRule_56 : decode cX11_decidingRule 56 = .ok (.aload_n 0, 1) := by decide +kernel
theorem dX11_decidingRule_57 : decode cX11_decidingRule 57 = .ok (.getfield 31, 3) := by decide +kernel
theorem dX11_decidingRule_60 : decode cX11_decidingRule 60 = .ok (.iload_n 2, 1) := by decide +kernel
theorem dX11_decidingRule_61 : decode cX11_decidingRule 61 = .ok (.iload_n 1, 1) := by decide +kernel
theorem dX11_decidingRule_62 : decode cX11_decidingRule 62 = .ok (.invokevirtual 220, 3) := by decide +kernel
theorem dX11_decidingRule_65 : decode cX11_decidingRule 65 = .ok (.invokevirtual 223, 3) := by decide +kernel
theorem dX11_decidingRule_68 : decode cX11_decidingRule 68 = .ok (.istore_n 3, 1) := by decide +kernel
theorem dX11_decidingRule_69 : decode cX11_decidingRule 69 = .ok (.iload_n 3, 1) := by decide +kernel
theorem dX11_decidingRule_70 : decode cX11_decidingRule 70 = .ok (.ifCond .lt 7, 3) := by decide +kernel
theorem dX11_decidingRule_73 : decode cX11_decidingRule 73 = .ok (.iconst 1, 1) := by decide +kernel
theorem dX11_decidingRule_74 : decode cX11_decidingRule 74 = .ok (.goto 4, 3) := by decide +kernel
theorem dX11_decidingRule_77 : decode cX11_decidingRule 77 = .ok (.iconst 0, 1) := by decide +kernel
theorem dX11_decidingRule_78 : decode cX11_decidingRule 78 = .ok (.invokestatic 172, 3) := by decide +kernel
theorem dX11_decidingRule_81 : decode cX11_decidingRule 81 = .ok (.iload_n 3, 1) := by decide +kernel
theorem dX11_decidingRule_82 : decode cX11_decidingRule 82 = .ok (.ireturn, 1) := by decide +kernel
set_option maxHeartbeats 4000000 in
set_option maxRecDepth 100000 in
theorem w_X11_decidingRule (l : Launch) (hl0 : l.stackTraces = false) (G : GP) (x : XP) (σ : Sto) (P : Int32 → Sto → Prop) (PX : String → Sto → Prop) (h : D_X11_decidingRule  σ P PX) : g_Mxi l yX11_decidingRule cX11_decidingRule 4 (some .int) rm_X11_decidingRule G x [.ref (g_ad G 60)] σ P PX := by
  unfold D_X11_decidingRule at h
  refine g_ofXi hl0 (by decide +kernel) (Nat.le_of_ble_eq_true rfl) (Or.inl (by decide)) ?_
  intro p e s m args below meth c Q ls C hM hl hret hprop hthrow
  have hx := C.1
  have hb := C.2.1
  have hl : lv_has ls 4 [(0, .ref (g_ad G 60))] := hl
  have h := h (fun (t0 : Int32) (σ : Sto) => ∀ (H : Heap) (locs : List Loc) (ls : Array Slot), g_M G x σ s H locs → lv_has ls 4 [(0, .ref (g_ad G 60))] → W p l e rm_X11_decidingRule s m args below meth c H locs 0 0 Q (F0 m 12 ls [.int t0]))
  have h := h (by
    intro t0 σ h  H locs ls hM hl
    refine g_cxSv (pc := 12) C hM hl.1 ys_X11_requireState q2_236 (w_X11_requireState l hl0 G x t0 σ _ PX h) rfl rfl ⟨⟨by decide, by decide⟩, by decide, by decide⟩ (Nat.le_of_ble_eq_true rfl) dX11_decidingRule_12 hprop (fun s12 H locs h hM => ?_)
    refine lv_aload_n (pc := 15) hx hb dX11_decidingRule_15 rfl (lv_at hl 0 rfl) ?_
    refine g_get (pc := 16) (v := .ref (g_ad G 65)) C hM (by decide) ce_60 fl_RX11_31 rfl dX11_decidingRule_16 ?_
    refine g_cVv (pc := 19) C hM hl.1 yv_X5_refresh q4_36 (by decide) ce_65 rfl (w_X5_refresh l G x  s12 _ h) rfl rfl ⟨⟨by decide, by decide⟩, by decide, by decide⟩ (Nat.le_of_ble_eq_true rfl) dX11_decidingRule_19 (fun s19 H locs h hM => ?_)
    refine lv_aload_n (pc := 22) hx hb dX11_decidingRule_22 rfl (lv_at hl 0 rfl) ?_
    refine g_get (pc := 23) (v := .ref (g_ad G 77)) C hM (by decide) ce_60 fl_RX11_60 rfl dX11_decidingRule_23 ?_
    refine lv_aload_n (pc := 26) hx hb dX11_decidingRule_26 rfl (lv_at hl 0 rfl) ?_
    refine g_get (pc := 27) (v := .int (s19 60 13)) C hM (by decide) ce_60 fl_RX11_196 rfl dX11_decidingRule_27 ?_
    refine lv_aload_n (pc := 30) hx hb dX11_decidingRule_30 rfl (lv_at hl 0 rfl) ?_
    refine g_get (pc := 31) (v := .int (s19 60 14)) C hM (by decide) ce_60 fl_RX11_176 rfl dX11_decidingRule_31 ?_
    refine g_cVi (pc := 34) C hM hl.1 yv_X1_usable q3_198 (by decide) ce_77 rfl (w_X1_usable l G x (s19 60 13) (s19 60 14) s19 _ h) rfl rfl ⟨⟨by decide, by decide⟩, by decide, by decide⟩ (Nat.le_of_ble_eq_true rfl) dX11_decidingRule_34 (fun r34 s34 H locs h hM => ?_)
    refine lv_istore_n (pc := 37) (lv' := [(1, .int r34), (0, .ref (g_ad G 60))]) hx hb dX11_decidingRule_37 rfl hl (by decide) rfl (fun ls hl => ?_)
    refine lv_aload_n (pc := 38) hx hb dX11_decidingRule_38 rfl (lv_at hl 1 rfl) ?_
    refine g_get (pc := 39) (v := .ref (g_ad G 65)) C hM (by decide) ce_60 fl_RX11_31 rfl dX11_decidingRule_39 ?_
    refine lv_aload_n (pc := 42) hx hb dX11_decidingRule_42 rfl (lv_at hl 1 rfl) ?_
    refine g_get (pc := 43) (v := .ref (g_ad G 85)) C hM (by decide) ce_60 fl_RX11_85 rfl dX11_decidingRule_43 ?_
    refine g_cVi (pc := 46) C hM hl.1 yv_X5_matching q4_76 (by decide) ce_65 rfl (w_X5_matching l G x 85 s34 _ h) rfl rfl ⟨⟨by decide, by decide⟩, by decide, by decide⟩ (Nat.le_of_ble_eq_true rfl) dX11_decidingRule_46 (fun r46 s46 H locs h hM => ?_)
    refine lv_istore_n (pc := 49) (lv' := [(2, .int r46), (1, .int r34), (0, .ref (g_ad G 60))]) hx hb dX11_decidingRule_49 rfl hl (by decide) rfl (fun ls hl => ?_)
    refine lv_aload_n (pc := 50) hx hb dX11_decidingRule_50 rfl (lv_at hl 2 rfl) ?_
    refine g_get (pc := 51) (v := .ref (g_ad G 65)) C hM (by decide) ce_60 fl_RX11_31 rfl dX11_decidingRule_51 ?_
    refine lv_iload_n (pc := 54) hx hb dX11_decidingRule_54 rfl (lv_at hl 0 rfl) ?_
    refine lv_iload_n (pc := 55) hx hb dX11_decidingRule_55 rfl (lv_at hl 1 rfl) ?_
    refine lv_aload_n (pc := 56) hx hb dX11_decidingRule_56 rfl (lv_at hl 2 rfl) ?_
    refine g_get (pc := 57) (v := .ref (g_ad G 65)) C hM (by decide) ce_60 fl_RX11_31 rfl dX11_decidingRule_57 ?_
    refine lv_iload_n (pc := 60) hx hb dX11_decidingRule_60 rfl (lv_at hl 0 rfl) ?_
    refine lv_iload_n (pc := 61) hx hb dX11_decidingRule_61 rfl (lv_at hl 1 rfl) ?_
    refine g_cVi (pc := 62) C hM hl.1 yv_X5_decisionOf q4_81 (by decide) ce_65 rfl (w_X5_decisionOf l G x r46 r34 s46 _ h) rfl rfl ⟨⟨by decide, by decide⟩, by decide, by decide⟩ (Nat.le_of_ble_eq_true rfl) dX11_decidingRule_62 (fun r62 s62 H locs h hM => ?_)
    refine g_cVi (pc := 65) C hM hl.1 yv_X5_deciderOf q4_96 (by decide) ce_65 rfl (w_X5_deciderOf l G x r46 r34 r62 s62 _ h) rfl rfl ⟨⟨by decide, by decide⟩, by decide, by decide⟩ (Nat.le_of_ble_eq_true rfl) dX11_decidingRule_65 (fun r65 s65 H locs h hM => ?_)
    refine lv_istore_n (pc := 68) (lv' := [(3, .int r65), (2, .int r46), (1, .int r34), (0, .ref (g_ad G 60))]) hx hb dX11_decidingRule_68 rfl hl (by decide) rfl (fun ls hl => ?_)
    refine lv_iload_n (pc := 69) hx hb dX11_decidingRule_69 rfl (lv_at hl 0 rfl) ?_
    refine lv_if_lt (pc := 70) (tgt := 77) hx hb dX11_decidingRule_70 (by decide) (fun c70 => ?_) (fun c70 => ?_)
    · have h := h.1 c70
      refine lv_iconst (pc := 77) (v := 0) hx hb dX11_decidingRule_77 (by decide) ?_
      refine g_cxSv (pc := 78) C hM hl.1 ys_X11_requireElement q3_161 (w_X11_requireElement l hl0 G x 0 s65 _ PX h) rfl rfl ⟨⟨by decide, by decide⟩, by decide, by decide⟩ (Nat.le_of_ble_eq_true rfl) dX11_decidingRule_78 hprop (fun s78 H locs h hM => ?_)
      refine lv_iload_n (pc := 81) hx hb dX11_decidingRule_81 rfl (lv_at hl 0 rfl) ?_
      refine W.widen (k := 2) (n := 12) (by decide) (by decide) ?_
      exact hret 82 _ _ _ _ _ dX11_decidingRule_82 (by rfl) h hM
    · have h := h.2 c70
      refine lv_iconst (pc := 73) (v := 1) hx hb dX11_decidingRule_73 (by decide) ?_
      refine lv_goto (pc := 74) (tgt := 78) hx hb dX11_decidingRule_74 (by decide) ?_
      refine g_cxSv (pc := 78) C hM hl.1 ys_X11_requireElement q3_161 (w_X11_requireElement l hl0 G x 1 s65 _ PX h) rfl rfl ⟨⟨by decide, by decide⟩, by decide, by decide⟩ (Nat.le_of_ble_eq_true rfl) dX11_decidingRule_78 hprop (fun s78 H locs h hM => ?_)
      refine lv_iload_n (pc := 81) hx hb dX11_decidingRule_81 rfl (lv_at hl 0 rfl) ?_
      refine W.widen (k := 2) (n := 12) (by decide) (by decide) ?_
      exact hret 82 _ _ _ _ _ dX11_decidingRule_82 (by rfl) h hM)
  refine lv_aload_n (pc := 0) hx hb dX11_decidingRule_0 rfl (lv_at hl 0 rfl) ?_
  refine g_cVi (pc := 1) C hM hl.1 yv_X11_unknown q4_75 (by decide) ce_60 rfl (w_X11_unknown l G x  σ _ h) rfl rfl ⟨⟨by decide, by decide⟩, by decide, by decide⟩ (Nat.le_of_ble_eq_true rfl) dX11_decidingRule_1 (fun r1 s1 H locs h hM => ?_)
  refine lv_if_ne (pc := 4) (tgt := 11) hx hb dX11_decidingRule_4 (by decide) (fun c4 => ?_) (fun c4 => ?_)
  · have h := h.2 c4
    refine lv_iconst (pc := 11) (v := 0) hx hb dX11_decidingRule_11 (by decide) ?_
    refine W.widen (k := 0) (n := 0) (by decide) (by decide) ?_
    exact h _ _ _ hM (lv_sub hl [0] rfl)
  · have h := h.1 c4
    refine lv_iconst (pc := 7) (v := 1) hx hb dX11_decidingRule_7 (by decide) ?_
    refine lv_goto (pc := 8) (tgt := 12) hx hb dX11_decidingRule_8 (by decide) ?_
    refine W.widen (k := 0) (n := 0) (by decide) (by decide) ?_
    exact h _ _ _ hM (lv_sub hl [0] rfl)
abbrev rm_X11_policyDecision : Room := { frames := 7, cells := 2, slots := 12, locals := 121 }
theorem dX11_policyDecision_0 : decode cX11_policyDecision 0 = .ok (.iload_n 1, 1) := by decide +kernel
theorem dX11_policyDecision_1 : decode cX11_policyDecision 1 = .ok (.iconst 4, 1) := by decide +kernel
theorem dX11_policyDecision_2 : decode cX11_policyDecision 2 = .ok (.invokestatic 92, 3) := by decide +kernel
theorem dX11_policyDecision_5 : decode cX11_policyDecision 5 = .ok (.aload_n 0, 1) := by decide +kernel
theorem dX11_policyDecision_6 : decode cX11_policyDecision 6 = .ok (.invokevirtual 212, 3) := by decide +kernel
theorem dX11_policyDecision_9 : decode cX11_policyDecision 9 = .ok (.ifCond .ne 7, 3) := by decide +kernel
theorem dX11_policyDecision_12 : decode cX11_policyDecision 12 = .ok (.iconst 1, 1) := by decide +kernel
theorem dX11_policyDecision_13 : decode cX11_policyDecision 13 = .ok (.goto 4, 3) := by decide +kernel
theorem dX11_policyDecision_16 : decode cX11_policyDecision 16 = .ok (.iconst 0, 1) := by decide +kernel
theorem dX11_policyDecision_17 : decode cX11_policyDecision 17 = .ok (.invokestatic 114, 3) := by decide +kernel
theorem dX11_policyDecision_20 : decode cX11_policyDecision 20 = .ok (.aload_n 0, 1) := by decide +kernel
theorem dX11_policyDecision_21 : decode cX11_policyDecision 21 = .ok (.getfield 31, 3) := by decide +kernel
theorem dX11_policyDecision_24 : decode cX11_policyDecision 24 = .ok (.invokevirtual 199, 3) := by decide +kernel
theorem dX11_policyDecision_27 : decode cX11_policyDecision 27 = .ok (.aload_n 0, 1) := by decide +kernel
theorem dX11_policyDecision_28 : decode cX11_policyDecision 28 = .ok (.getfield 31, 3) := by decide +kernel
theorem dX11_policyDecision_31 : decode cX11_policyDecision 31 = .ok (.iload_n 1, 1) := by decide +kernel
theorem dX11_policyDecision_32 : decode cX11_policyDecision 32 = .ok (.aload_n 0, 1) := by decide +kernel
theorem dX11_policyDecision_33 : decode cX11_policyDecision 33 = .ok (.getfield 31, 3) := by decide +kernel
theorem dX11_policyDecision_36 : decode cX11_policyDecision 36 = .ok (.aload_n 0, 1) := by decide +kernel
theorem dX11_policyDecision_37 : decode cX11_policyDecision 37 = .ok (.getfield 85, 3) := by decide +kernel
theorem dX11_policyDecision_40 : decode cX11_policyDecision 40 = .ok (.invokevirtual 216, 3) := by decide +kernel
theorem dX11_policyDecision_43 : decode cX11_policyDecision 43 = .ok (.invokevirtual 230, 3) := by decide +kernel
theorem dX11_policyDecision_46 : decode cX11_policyDecision 46 = .ok (.ireturn, 1) := by decide +kernel
set_option maxHeartbeats 4000000 in
set_option maxRecDepth 100000 in
theorem w_X11_policyDecision (l : Launch) (hl0 : l.stackTraces = false) (G : GP) (x : XP) (a1 : Int32) (σ : Sto) (P : Int32 → Sto → Prop) (PX : String → Sto → Prop) (h : D_X11_policyDecision a1 σ P PX) : g_Mxi l yX11_policyDecision cX11_policyDecision 2 (some .int) rm_X11_policyDecision G x [.ref (g_ad G 60), .int a1] σ P PX := by
  unfold D_X11_policyDecision at h
  refine g_ofXi hl0 (by decide +kernel) (Nat.le_of_ble_eq_true rfl) (Or.inl (by decide)) ?_
  intro p e s m args below meth c Q ls C hM hl hret hprop hthrow
  have hx := C.1
  have hb := C.2.1
  have hl : lv_has ls 2 [(0, .ref (g_ad G 60)), (1, .int a1)] := hl
  refine lv_iload_n (pc := 0) hx hb dX11_policyDecision_0 rfl (lv_at hl 1 rfl) ?_
  refine lv_iconst (pc := 1) (v := 4) hx hb dX11_policyDecision_1 (by decide) ?_
  refine g_cxSv (pc := 2) C hM hl.1 ys_X11_requireIndex q2_191 (w_X11_requireIndex l hl0 G x a1 4 σ _ PX h) rfl rfl ⟨⟨by decide, by decide⟩, by decide, by decide⟩ (Nat.le_of_ble_eq_true rfl) dX11_policyDecision_2 hprop (fun s2 H locs h hM => ?_)
  refine lv_aload_n (pc := 5) hx hb dX11_policyDecision_5 rfl (lv_at hl 0 rfl) ?_
  refine g_cVi (pc := 6) C hM hl.1 yv_X11_unknown q4_75 (by decide) ce_60 rfl (w_X11_unknown l G x  s2 _ h) rfl rfl ⟨⟨by decide, by decide⟩, by decide, by decide⟩ (Nat.le_of_ble_eq_true rfl) dX11_policyDecision_6 (fun r6 s6 H locs h hM => ?_)
  refine lv_if_ne (pc := 9) (tgt := 16) hx hb dX11_policyDecision_9 (by decide) (fun c9 => ?_) (fun c9 => ?_)
  · have h := h.2 c9
    refine lv_iconst (pc := 16) (v := 0) hx hb dX11_policyDecision_16 (by decide) ?_
    refine g_cxSv (pc := 17) C hM hl.1 ys_X11_requireState q2_236 (w_X11_requireState l hl0 G x 0 s6 _ PX h) rfl rfl ⟨⟨by decide, by decide⟩, by decide, by decide⟩ (Nat.le_of_ble_eq_true rfl) dX11_policyDecision_17 hprop (fun s17 H locs h hM => ?_)
    refine lv_aload_n (pc := 20) hx hb dX11_policyDecision_20 rfl (lv_at hl 0 rfl) ?_
    refine g_get (pc := 21) (v := .ref (g_ad G 65)) C hM (by decide) ce_60 fl_RX11_31 rfl dX11_policyDecision_21 ?_
    refine g_cVv (pc := 24) C hM hl.1 yv_X5_refresh q4_36 (by decide) ce_65 rfl (w_X5_refresh l G x  s17 _ h) rfl rfl ⟨⟨by decide, by decide⟩, by decide, by decide⟩ (Nat.le_of_ble_eq_true rfl) dX11_policyDecision_24 (fun s24 H locs h hM => ?_)
    refine lv_aload_n (pc := 27) hx hb dX11_policyDecision_27 rfl (lv_at hl 0 rfl) ?_
    refine g_get (pc := 28) (v := .ref (g_ad G 65)) C hM (by decide) ce_60 fl_RX11_31 rfl dX11_policyDecision_28 ?_
    refine lv_iload_n (pc := 31) hx hb dX11_policyDecision_31 rfl (lv_at hl 1 rfl) ?_
    refine lv_aload_n (pc := 32) hx hb dX11_policyDecision_32 rfl (lv_at hl 0 rfl) ?_
    refine g_get (pc := 33) (v := .ref (g_ad G 65)) C hM (by decide) ce_60 fl_RX11_31 rfl dX11_policyDecision_33 ?_
    refine lv_aload_n (pc := 36) hx hb dX11_policyDecision_36 rfl (lv_at hl 0 rfl) ?_
    refine g_get (pc := 37) (v := .ref (g_ad G 85)) C hM (by decide) ce_60 fl_RX11_85 rfl dX11_policyDecision_37 ?_
    refine g_cVi (pc := 40) C hM hl.1 yv_X5_matching q4_76 (by decide) ce_65 rfl (w_X5_matching l G x 85 s24 _ h) rfl rfl ⟨⟨by decide, by decide⟩, by decide, by decide⟩ (Nat.le_of_ble_eq_true rfl) dX11_policyDecision_40 (fun r40 s40 H locs h hM => ?_)
    refine g_cVi (pc := 43) C hM hl.1 yv_X5_policyDecisionOf q4_123 (by decide) ce_65 rfl (w_X5_policyDecisionOf l G x a1 r40 s40 _ h) rfl rfl ⟨⟨by decide, by decide⟩, by decide, by decide⟩ (Nat.le_of_ble_eq_true rfl) dX11_policyDecision_43 (fun r43 s43 H locs h hM => ?_)
    refine W.widen (k := 2) (n := 12) (by decide) (by decide) ?_
    exact hret 46 _ _ _ _ _ dX11_policyDecision_46 (by rfl) h hM
  · have h := h.1 c9
    refine lv_iconst (pc := 12) (v := 1) hx hb dX11_policyDecision_12 (by decide) ?_
    refine lv_goto (pc := 13) (tgt := 17) hx hb dX11_policyDecision_13 (by decide) ?_
    refine g_cxSv (pc := 17) C hM hl.1 ys_X11_requireState q2_236 (w_X11_requireState l hl0 G x 1 s6 _ PX h) rfl rfl ⟨⟨by decide, by decide⟩, by decide, by decide⟩ (Nat.le_of_ble_eq_true rfl) dX11_policyDecision_17 hprop (fun s17 H locs h hM => ?_)
    refine lv_aload_n (pc := 20) hx hb dX11_policyDecision_20 rfl (lv_at hl 0 rfl) ?_
    refine g_get (pc := 21) (v := .ref (g_ad G 65)) C hM (by decide) ce_60 fl_RX11_31 rfl dX11_policyDecision_21 ?_
    refine g_cVv (pc := 24) C hM hl.1 yv_X5_refresh q4_36 (by decide) ce_65 rfl (w_X5_refresh l G x  s17 _ h) rfl rfl ⟨⟨by decide, by decide⟩, by decide, by decide⟩ (Nat.le_of_ble_eq_true rfl) dX11_policyDecision_24 (fun s24 H locs h hM => ?_)
    refine lv_aload_n (pc := 27) hx hb dX11_policyDecision_27 rfl (lv_at hl 0 rfl) ?_
    refine g_get (pc := 28) (v := .ref (g_ad G 65)) C hM (by decide) ce_60 fl_RX11_31 rfl dX11_policyDecision_28 ?_
    refine lv_iload_n (pc := 31) hx hb dX11_policyDecision_31 rfl (lv_at hl 1 rfl) ?_
    refine lv_aload_n (pc := 32) hx hb dX11_policyDecision_32 rfl (lv_at hl 0 rfl) ?_
    refine g_get (pc := 33) (v := .ref (g_ad G 65)) C hM (by decide) ce_60 fl_RX11_31 rfl dX11_policyDecision_33 ?_
    refine lv_aload_n (pc := 36) hx hb dX11_policyDecision_36 rfl (lv_at hl 0 rfl) ?_
    refine g_get (pc := 37) (v := .ref (g_ad G 85)) C hM (by decide) ce_60 fl_RX11_85 rfl dX11_policyDecision_37 ?_
    refine g_cVi (pc := 40) C hM hl.1 yv_X5_matching q4_76 (by decide) ce_65 rfl (w_X5_matching l G x 85 s24 _ h) rfl rfl ⟨⟨by decide, by decide⟩, by decide, by decide⟩ (Nat.le_of_ble_eq_true rfl) dX11_policyDecision_40 (fun r40 s40 H locs h hM => ?_)
    refine g_cVi (pc := 43) C hM hl.1 yv_X5_policyDecisionOf q4_123 (by decide) ce_65 rfl (w_X5_policyDecisionOf l G x a1 r40 s40 _ h) rfl rfl ⟨⟨by decide, by decide⟩, by decide, by decide⟩ (Nat.le_of_ble_eq_true rfl) dX11_policyDecision_43 (fun r43 s43 H locs h hM => ?_)
    refine W.widen (k := 2) (n := 12) (by decide) (by decide) ?_
    exact hret 46 _ _ _ _ _ dX11_policyDecision_46 (by rfl) h hM
abbrev rm_X11_possible : Room := { frames := 7, cells := 1, slots := 6, locals := 122 }
theorem dX11_possible_0 : decode cX11_possible 0 = .ok (.aload_n 0, 1) := by decide +kernel
theorem dX11_possible_1 : decode cX11_possible 1 = .ok (.invokevirtual 212, 3) := by decide +kernel
theorem dX11_possible_4 : decode cX11_possible 4 = .ok (.invokestatic 233, 3) := by decide +kernel
theorem dX11_possible_7 : decode cX11_possible 7 = .ok (.iconst 3, 1) := by decide +kernel
theorem dX11_possible_8 : decode cX11_possible 8 = .ok (.if_icmp .gt 7, 3) := by decide +kernel
theorem dX11_possible_11 : decode cX11_possible 11 = .ok (.iconst 1, 1) := by decide +kernel
theorem dX11_possible_12 : decode cX11_possible 12 = .ok (.goto 4, 3) := by decide +kernel
theorem dX11_possible_15 : decode cX11_possible 15 = .ok (.iconst 0, 1) := by decide +kernel
theorem dX11_possible_16 : decode cX11_possible 16 = .ok (.invokestatic 114, 3) := by decide +kernel
theorem dX11_possible_19 : decode cX11_possible 19 = .ok (.aload_n 0, 1) := by decide +kernel
theorem dX11_possible_20 : decode cX11_possible 20 = .ok (.getfield 31, 3) := by decide +kernel
theorem dX11_possible_23 : decode cX11_possible 23 = .ok (.invokevirtual 199, 3) := by decide +kernel
theorem dX11_possible_26 : decode cX11_possible 26 = .ok (.aload_n 0, 1) := by decide +kernel
theorem dX11_possible_27 : decode cX11_possible 27 = .ok (.getfield 47, 3) := by decide +kernel
theorem dX11_possible_30 : decode cX11_possible 30 = .ok (.aload_n 0, 1) := by decide +kernel
theorem dX11_possible_31 : decode cX11_possible 31 = .ok (.getfield 85, 3) := by decide +kernel
theorem dX11_possible_34 : decode cX11_possible 34 = .ok (.aload_n 0, 1) := by decide +kernel
theorem dX11_possible_35 : decode cX11_possible 35 = .ok (.getfield 60, 3) := by decide +kernel
theorem dX11_possible_38 : decode cX11_possible 38 = .ok (.aload_n 0, 1) := by decide +kernel
theorem dX11_possible_39 : decode cX11_possible 39 = .ok (.getfield 196, 3) := by decide +kernel
theorem dX11_possible_42 : decode cX11_possible 42 = .ok (.aload_n 0, 1) := by decide +kernel
theorem dX11_possible_43 : decode cX11_possible 43 = .ok (.getfield 176, 3) := by decide +kernel
theorem dX11_possible_46 : decode cX11_possible 46 = .ok (.invokevirtual 184, 3) := by decide +kernel
theorem dX11_possible_49 : decode cX11_possible 49 = .ok (.invokevirtual 238, 3) := by decide +kernel
theorem dX11_possible_52 : decode cX11_possible 52 = .ok (.iconst 0, 1) := by decide +kernel
theorem dX11_possible_53 : decode cX11_possible 53 = .ok (.istore_n 1, 1) := by decide +kernel
theorem dX11_possible_54 : decode cX11_possible 54 = .ok (.iconst 0, 1) := by decide +kernel
theorem dX11_possible_55 : decode cX11_possible 55 = .ok (.istore_n 2, 1) := by decide +kernel
theorem dX11_possible_56 : decode cX11_possible 56 = .ok (.iload_n 2, 1) := by decide +kernel
theorem dX11_possible_57 : decode cX11_possible 57 = .ok (.iconst 4, 1) := by decide +kernel
theorem dX11_possible_58 : decode cX11_possible 58 = .ok (.if_icmp .ge 27, 3) := by decide +kernel
theorem dX11_possible_61 : decode cX11_possible 61 = .ok (.aload_n 0, 1) := by decide +kernel
theorem dX11_possible_62 : decode cX11_possible 62 = .ok (.getfield 47, 3) := by decide +kernel
theorem dX11_possible_65 : decode cX11_possible 65 = .ok (.getfield 241, 3) := by decide +kernel
theorem dX11_possible_68 : decode cX11_possible 68 = .ok (.iload_n 2, 1) := by decide +kernel
theorem dX11_possible_69 : decode cX11_possible 69 = .ok (.iaload, 1) := by decide +kernel
theorem dX11_possible_70 : decode cX11_possible 70 = .ok (.ifCond .le 9, 3) := by decide +kernel
theorem dX11_possible_73 : decode cX11_possible 73 = .ok (.iload_n 1, 1) := by decide +kernel
theorem dX11_possible_74 : decode cX11_possible 74 = .ok (.iconst 1, 1) := by decide +kernel
theorem dX11_possible_75 : decode cX11_possible 75 = .ok (.iload_n 2, 1) := by decide +kernel
theorem dX11_possible_76 : decode cX11_possible 76 = .ok (.ishl, 1) := by decide +kernel
theorem dX11_possible_77 : decode cX11_possible 77 = .ok (.ior, 1) := by decide +kernel
theorem dX11_possible_78 : decode cX11_possible 78 = .ok (.istore_n 1, 1) := by decide +kernel
theorem dX11_possible_79 : decode cX11_possible 79 = .ok (.iinc 2 1, 3) := by decide +kernel
theorem dX11_possible_82 : decode cX11_possible 82 = .ok (.goto (-26), 3) := by decide +kernel
theorem dX11_possible_85 : decode cX11_possible 85 = .ok (.iload_n 1, 1) := by decide +kernel
theorem dX11_possible_86 : decode cX11_possible 86 = .ok (.ireturn, 1) := by decide +kernel
set_option maxHeartbeats 4000000 in
set_option maxRecDepth 100000 in
theorem w_X11_possible (l : Launch) (hl0 : l.stackTraces = false) (G : GP) (x : XP) (σ : Sto) (P : Int32 → Sto → Prop) (PX : String → Sto → Prop) (h : D_X11_possible  σ P PX) : g_Mxi l yX11_possible cX11_possible 3 (some .int) rm_X11_possible G x [.ref (g_ad G 60)] σ P PX := by
  unfold D_X11_possible at h
  refine g_ofXi hl0 (by decide +kernel) (Nat.le_of_ble_eq_true rfl) (Or.inl (by decide)) ?_
  intro p e s m args below meth c Q ls C hM hl hret hprop hthrow
  have hx := C.1
  have hb := C.2.1
  have hl : lv_has ls 3 [(0, .ref (g_ad G 60))] := hl
  have h := h (fun (t0 : Int32) (σ : Sto) => ∀ (H : Heap) (locs : List Loc) (ls : Array Slot), g_M G x σ s H locs → lv_has ls 3 [(0, .ref (g_ad G 60))] → W p l e rm_X11_possible s m args below meth c H locs 0 0 Q (F0 m 16 ls [.int t0])) (fun (v1 : Int32) (v2 : Int32) (σ : Sto) => ∀ (H : Heap) (locs : List Loc) (ls : Array Slot), g_M G x σ s H locs → lv_has ls 3 [(0, .ref (g_ad G 60)), (1, .int v1), (2, .int v2)] → W p l e rm_X11_possible s m args below meth c H locs 1 6 Q (F0 m 56 ls []))
  have h := h (by
    intro t0 σ h  H locs ls hM hl
    refine g_cxSv (pc := 16) C hM hl.1 ys_X11_requireState q2_236 (w_X11_requireState l hl0 G x t0 σ _ PX h) rfl rfl ⟨⟨by decide, by decide⟩, by decide, by decide⟩ (Nat.le_of_ble_eq_true rfl) dX11_possible_16 hprop (fun s16 H locs h hM => ?_)
    refine lv_aload_n (pc := 19) hx hb dX11_possible_19 rfl (lv_at hl 0 rfl) ?_
    refine g_get (pc := 20) (v := .ref (g_ad G 65)) C hM (by decide) ce_60 fl_RX11_31 rfl dX11_possible_20 ?_
    refine g_cVv (pc := 23) C hM hl.1 yv_X5_refresh q4_36 (by decide) ce_65 rfl (w_X5_refresh l G x  s16 _ h) rfl rfl ⟨⟨by decide, by decide⟩, by decide, by decide⟩ (Nat.le_of_ble_eq_true rfl) dX11_possible_23 (fun s23 H locs h hM => ?_)
    refine lv_aload_n (pc := 26) hx hb dX11_possible_26 rfl (lv_at hl 0 rfl) ?_
    refine g_get (pc := 27) (v := .ref (g_ad G 72)) C hM (by decide) ce_60 fl_RX11_47 rfl dX11_possible_27 ?_
    refine lv_aload_n (pc := 30) hx hb dX11_possible_30 rfl (lv_at hl 0 rfl) ?_
    refine g_get (pc := 31) (v := .ref (g_ad G 85)) C hM (by decide) ce_60 fl_RX11_85 rfl dX11_possible_31 ?_
    refine lv_aload_n (pc := 34) hx hb dX11_possible_34 rfl (lv_at hl 0 rfl) ?_
    refine g_get (pc := 35) (v := .ref (g_ad G 77)) C hM (by decide) ce_60 fl_RX11_60 rfl dX11_possible_35 ?_
    refine lv_aload_n (pc := 38) hx hb dX11_possible_38 rfl (lv_at hl 0 rfl) ?_
    refine g_get (pc := 39) (v := .int (s23 60 13)) C hM (by decide) ce_60 fl_RX11_196 rfl dX11_possible_39 ?_
    refine lv_aload_n (pc := 42) hx hb dX11_possible_42 rfl (lv_at hl 0 rfl) ?_
    refine g_get (pc := 43) (v := .int (s23 60 14)) C hM (by decide) ce_60 fl_RX11_176 rfl dX11_possible_43 ?_
    refine g_cVi (pc := 46) C hM hl.1 yv_X1_usable q3_198 (by decide) ce_77 rfl (w_X1_usable l G x (s23 60 13) (s23 60 14) s23 _ h) rfl rfl ⟨⟨by decide, by decide⟩, by decide, by decide⟩ (Nat.le_of_ble_eq_true rfl) dX11_possible_46 (fun r46 s46 H locs h hM => ?_)
    refine g_cVv (pc := 49) C hM hl.1 yv_X9_count q4_137 (by decide) ce_72 rfl (w_X9_count l G x 85 r46 s46 _ h) rfl rfl ⟨⟨by decide, by decide⟩, by decide, by decide⟩ (Nat.le_of_ble_eq_true rfl) dX11_possible_49 (fun s49 H locs h hM => ?_)
    refine lv_iconst (pc := 52) (v := 0) hx hb dX11_possible_52 (by decide) ?_
    refine lv_istore_n (pc := 53) (lv' := [(1, .int 0), (0, .ref (g_ad G 60))]) hx hb dX11_possible_53 rfl hl (by decide) rfl (fun ls hl => ?_)
    refine lv_iconst (pc := 54) (v := 0) hx hb dX11_possible_54 (by decide) ?_
    refine lv_istore_n (pc := 55) (lv' := [(2, .int 0), (1, .int 0), (0, .ref (g_ad G 60))]) hx hb dX11_possible_55 rfl hl (by decide) rfl (fun ls hl => ?_)
    refine W.widen (k := 1) (n := 6) (by decide) (by decide) ?_
    exact h _ _ _ hM (lv_sub hl [2, 1, 0] rfl))
  have h := h (by
    intro v1 v2 σ h  H locs ls hM hl
    refine lv_iload_n (pc := 56) hx hb dX11_possible_56 rfl (lv_at hl 2 rfl) ?_
    refine lv_iconst (pc := 57) (v := 4) hx hb dX11_possible_57 (by decide) ?_
    refine lv_icmp_ge (pc := 58) (tgt := 85) hx hb dX11_possible_58 (by decide) (fun c58 => ?_) (fun c58 => ?_)
    · have h := h.1 c58
      refine lv_iload_n (pc := 85) hx hb dX11_possible_85 rfl (lv_at hl 1 rfl) ?_
      refine W.widen (k := 1) (n := 6) (by decide) (by decide) ?_
      exact hret 86 _ _ _ _ _ dX11_possible_86 (by rfl) h hM
    · have h := h.2 c58
      refine lv_aload_n (pc := 61) hx hb dX11_possible_61 rfl (lv_at hl 0 rfl) ?_
      refine g_get (pc := 62) (v := .ref (g_ad G 72)) C hM (by decide) ce_60 fl_RX11_47 rfl dX11_possible_62 ?_
      refine g_get (pc := 65) (v := .ref (g_ad G 73)) C hM (by decide) ce_72 fl_RX11_241 rfl dX11_possible_65 ?_
      refine lv_iload_n (pc := 68) hx hb dX11_possible_68 rfl (lv_at hl 2 rfl) ?_
      obtain ⟨hc, h⟩ := h
      refine g_ialdK (pc := 69) C hM (by decide) ce_73 hc rfl dX11_possible_69 ?_
      refine lv_if_le (pc := 70) (tgt := 79) hx hb dX11_possible_70 (by decide) (fun c70 => ?_) (fun c70 => ?_)
      · have h := h.1 c70
        refine lv_iinc (pc := 79) (v := (v2 + 1)) (lv' := [(2, .int (v2 + 1)), (0, .ref (g_ad G 60)), (1, .int v1)]) hx hb dX11_possible_79 hl (k := 2) rfl (by rfl) (by decide) rfl (fun ls hl => ?_)
        refine lv_goto (pc := 82) (tgt := 56) hx hb dX11_possible_82 (by decide) ?_
        refine W.widen (k := 1) (n := 6) (by decide) (by decide) ?_
        exact h _ _ _ hM (lv_sub hl [1, 2, 0] rfl)
      · have h := h.2 c70
        refine lv_iload_n (pc := 73) hx hb dX11_possible_73 rfl (lv_at hl 1 rfl) ?_
        refine lv_iconst (pc := 74) (v := 1) hx hb dX11_possible_74 (by decide) ?_
        refine lv_iload_n (pc := 75) hx hb dX11_possible_75 rfl (lv_at hl 2 rfl) ?_
        refine lv_ishl (pc := 76) hx hb dX11_possible_76 ?_
        refine lv_ior (pc := 77) hx hb dX11_possible_77 ?_
        refine lv_topi (fun v1_78 ev1_78 => ?_)
        have h := h v1_78 ev1_78
        refine lv_istore_n (pc := 78) (lv' := [(1, .int v1_78), (0, .ref (g_ad G 60)), (2, .int v2)]) hx hb dX11_possible_78 rfl hl (by decide) rfl (fun ls hl => ?_)
        refine lv_iinc (pc := 79) (v := (v2 + 1)) (lv' := [(2, .int (v2 + 1)), (1, .int v1_78), (0, .ref (g_ad G 60))]) hx hb dX11_possible_79 hl (k := 2) rfl (by rfl) (by decide) rfl (fun ls hl => ?_)
        refine lv_goto (pc := 82) (tgt := 56) hx hb dX11_possible_82 (by decide) ?_
        refine W.widen (k := 1) (n := 6) (by decide) (by decide) ?_
        exact h _ _ _ hM (lv_sub hl [2, 1, 0] rfl))
  refine lv_aload_n (pc := 0) hx hb dX11_possible_0 rfl (lv_at hl 0 rfl) ?_
  refine g_cVi (pc := 1) C hM hl.1 yv_X11_unknown q4_75 (by decide) ce_60 rfl (w_X11_unknown l G x  σ _ h) rfl rfl ⟨⟨by decide, by decide⟩, by decide, by decide⟩ (Nat.le_of_ble_eq_true rfl) dX11_possible_1 (fun r1 s1 H locs h hM => ?_)
  refine g_cSi (pc := 4) C hM hl.1 ys_J6_bitCount_0f7a4 q4_131 (w_J6_bitCount_0f7a4 l G x r1 s1 _ h) rfl rfl ⟨⟨by decide, by decide⟩, by decide, by decide⟩ (Nat.le_of_ble_eq_true rfl) dX11_possible_4 (fun r4 s4 H locs h hM => ?_)
  refine lv_iconst (pc := 7) (v := 3) hx hb dX11_possible_7 (by decide) ?_
  refine lv_icmp_gt (pc := 8) (tgt := 15) hx hb dX11_possible_8 (by decide) (fun c8 => ?_) (fun c8 => ?_)
  · have h := h.1 c8
    refine lv_iconst (pc := 15) (v := 0) hx hb dX11_possible_15 (by decide) ?_
    refine W.widen (k := 0) (n := 0) (by decide) (by decide) ?_
    exact h _ _ _ hM (lv_sub hl [0] rfl)
  · have h := h.2 c8
    refine lv_iconst (pc := 11) (v := 1) hx hb dX11_possible_11 (by decide) ?_
    refine lv_goto (pc := 12) (tgt := 16) hx hb dX11_possible_12 (by decide) ?_
    refine W.widen (k := 0) (n := 0) (by decide) (by decide) ?_
    exact h _ _ _ hM (lv_sub hl [0] rfl)
abbrev rm_X11_completions : Room := { frames := 7, cells := 2, slots := 12, locals := 122 }
theorem dX11_completions_0 : decode cX11_completions 0 = .ok (.iload_n 1, 1) := by decide +kernel
theorem dX11_completions_1 : decode cX11_completions 1 = .ok (.iconst 0, 1) := by decide +kernel
theorem dX11_completions_2 : decode cX11_completions 2 = .ok (.iconst 3, 1) := by decide +kernel
theorem dX11_completions_3 : decode cX11_completions 3 = .ok (.invokestatic 96, 3) := by decide +kernel
theorem dX11_completions_6 : decode cX11_completions 6 = .ok (.invokestatic 100, 3) := by decide +kernel
theorem dX11_completions_9 : decode cX11_completions 9 = .ok (.aload_n 0, 1) := by decide +kernel
theorem dX11_completions_10 : decode cX11_completions 10 = .ok (.invokevirtual 212, 3) := by decide +kernel
theorem dX11_completions_13 : decode cX11_completions 13 = .ok (.invokestatic 233, 3) := by decide +kernel
theorem dX11_completions_16 : decode cX11_completions 16 = .ok (.iconst 3, 1) := by decide +kernel
theorem dX11_completions_17 : decode cX11_completions 17 = .ok (.if_icmp .gt 7, 3) := by decide +kernel
theorem dX11_completions_20 : decode cX11_completions 20 = .ok (.iconst 1, 1) := by decide +kernel
theorem dX11_completions_21 : decode cX11_completions 21 = .ok (.goto 4, 3) := by decide +kernel
theorem dX11_completions_24 : decode cX11_completions 24 = .ok (.iconst 0, 1) := by decide +kernel
theorem dX11_completions_25 : decode cX11_completions 25 = .ok (.invokestatic 114, 3) := by decide +kernel
theorem dX11_completions_28 : decode cX11_completions 28 = .ok (.aload_n 0, 1) := by decide +kernel
theorem dX11_completions_29 : decode cX11_completions 29 = .ok (.getfield 31, 3) := by decide +kernel
theorem dX11_completions_32 : decode cX11_completions 32 = .ok (.invokevirtual 199, 3) := by decide +kernel
theorem dX11_completions_35 : decode cX11_completions 35 = .ok (.aload_n 0, 1) := by decide +kernel
theorem dX11_completions_36 : decode cX11_completions 36 = .ok (.getfield 47, 3) := by decide +kernel
theorem dX11_completions_39 : decode cX11_completions 39 = .ok (.aload_n 0, 1) := by decide +kernel
theorem dX11_completions_40 : decode cX11_completions 40 = .ok (.getfield 85, 3) := by decide +kernel
theorem dX11_completions_43 : decode cX11_completions 43 = .ok (.aload_n 0, 1) := by decide +kernel
theorem dX11_completions_44 : decode cX11_completions 44 = .ok (.getfield 60, 3) := by decide +kernel
theorem dX11_completions_47 : decode cX11_completions 47 = .ok (.aload_n 0, 1) := by decide +kernel
theorem dX11_completions_48 : decode cX11_completions 48 = .ok (.getfield 196, 3) := by decide +kernel
theorem dX11_completions_51 : decode cX11_completions 51 = .ok (.aload_n 0, 1) := by decide +kernel
theorem dX11_completions_52 : decode cX11_completions 52 = .ok (.getfield 176, 3) := by decide +kernel
theorem dX11_completions_55 : decode cX11_completions 55 = .ok (.invokevirtual 184, 3) := by decide +kernel
theorem dX11_completions_58 : decode cX11_completions 58 = .ok (.invokevirtual 238, 3) := by decide +kernel
theorem dX11_completions_61 : decode cX11_completions 61 = .ok (.aload_n 0, 1) := by decide +kernel
theorem dX11_completions_62 : decode cX11_completions 62 = .ok (.getfield 47, 3) := by decide +kernel
theorem dX11_completions_65 : decode cX11_completions 65 = .ok (.getfield 241, 3) := by decide +kernel
theorem dX11_completions_68 : decode cX11_completions 68 = .ok (.iload_n 1, 1) := by decide +kernel
theorem dX11_completions_69 : decode cX11_completions 69 = .ok (.iaload, 1) := by decide +kernel
theorem dX11_completions_70 : decode cX11_completions 70 = .ok (.ireturn, 1) := by decide +kernel
set_option maxHeartbeats 4000000 in
set_option maxRecDepth 100000 in
theorem w_X11_completions (l : Launch) (hl0 : l.stackTraces = false) (G : GP) (x : XP) (a1 : Int32) (σ : Sto) (P : Int32 → Sto → Prop) (PX : String → Sto → Prop) (h : D_X11_completions a1 σ P PX) : g_Mxi l yX11_completions cX11_completions 2 (some .int) rm_X11_completions G x [.ref (g_ad G 60), .int a1] σ P PX := by
  unfold D_X11_completions at h
  refine g_ofXi hl0 (by decide +kernel) (Nat.le_of_ble_eq_true rfl) (Or.inl (by decide)) ?_
  intro p e s m args below meth c Q ls C hM hl hret hprop hthrow
  have hx := C.1
  have hb := C.2.1
  have hl : lv_has ls 2 [(0, .ref (g_ad G 60)), (1, .int a1)] := hl
  have h := h (fun (t0 : Int32) (σ : Sto) => ∀ (H : Heap) (locs : List Loc) (ls : Array Slot), g_M G x σ s H locs → lv_has ls 2 [(0, .ref (g_ad G 60)), (1, .int a1)] → W p l e rm_X11_completions s m args below meth c H locs 1 6 Q (F0 m 25 ls [.int t0]))
  have h := h (by
    intro t0 σ h  H locs ls hM hl
    refine g_cxSv (pc := 25) C hM hl.1 ys_X11_requireState q2_236 (w_X11_requireState l hl0 G x t0 σ _ PX h) rfl rfl ⟨⟨by decide, by decide⟩, by decide, by decide⟩ (Nat.le_of_ble_eq_true rfl) dX11_completions_25 hprop (fun s25 H locs h hM => ?_)
    refine lv_aload_n (pc := 28) hx hb dX11_completions_28 rfl (lv_at hl 0 rfl) ?_
    refine g_get (pc := 29) (v := .ref (g_ad G 65)) C hM (by decide) ce_60 fl_RX11_31 rfl dX11_completions_29 ?_
    refine g_cVv (pc := 32) C hM hl.1 yv_X5_refresh q4_36 (by decide) ce_65 rfl (w_X5_refresh l G x  s25 _ h) rfl rfl ⟨⟨by decide, by decide⟩, by decide, by decide⟩ (Nat.le_of_ble_eq_true rfl) dX11_completions_32 (fun s32 H locs h hM => ?_)
    refine lv_aload_n (pc := 35) hx hb dX11_completions_35 rfl (lv_at hl 0 rfl) ?_
    refine g_get (pc := 36) (v := .ref (g_ad G 72)) C hM (by decide) ce_60 fl_RX11_47 rfl dX11_completions_36 ?_
    refine lv_aload_n (pc := 39) hx hb dX11_completions_39 rfl (lv_at hl 0 rfl) ?_
    refine g_get (pc := 40) (v := .ref (g_ad G 85)) C hM (by decide) ce_60 fl_RX11_85 rfl dX11_completions_40 ?_
    refine lv_aload_n (pc := 43) hx hb dX11_completions_43 rfl (lv_at hl 0 rfl) ?_
    refine g_get (pc := 44) (v := .ref (g_ad G 77)) C hM (by decide) ce_60 fl_RX11_60 rfl dX11_completions_44 ?_
    refine lv_aload_n (pc := 47) hx hb dX11_completions_47 rfl (lv_at hl 0 rfl) ?_
    refine g_get (pc := 48) (v := .int (s32 60 13)) C hM (by decide) ce_60 fl_RX11_196 rfl dX11_completions_48 ?_
    refine lv_aload_n (pc := 51) hx hb dX11_completions_51 rfl (lv_at hl 0 rfl) ?_
    refine g_get (pc := 52) (v := .int (s32 60 14)) C hM (by decide) ce_60 fl_RX11_176 rfl dX11_completions_52 ?_
    refine g_cVi (pc := 55) C hM hl.1 yv_X1_usable q3_198 (by decide) ce_77 rfl (w_X1_usable l G x (s32 60 13) (s32 60 14) s32 _ h) rfl rfl ⟨⟨by decide, by decide⟩, by decide, by decide⟩ (Nat.le_of_ble_eq_true rfl) dX11_completions_55 (fun r55 s55 H locs h hM => ?_)
    refine g_cVv (pc := 58) C hM hl.1 yv_X9_count q4_137 (by decide) ce_72 rfl (w_X9_count l G x 85 r55 s55 _ h) rfl rfl ⟨⟨by decide, by decide⟩, by decide, by decide⟩ (Nat.le_of_ble_eq_true rfl) dX11_completions_58 (fun s58 H locs h hM => ?_)
    refine lv_aload_n (pc := 61) hx hb dX11_completions_61 rfl (lv_at hl 0 rfl) ?_
    refine g_get (pc := 62) (v := .ref (g_ad G 72)) C hM (by decide) ce_60 fl_RX11_47 rfl dX11_completions_62 ?_
    refine g_get (pc := 65) (v := .ref (g_ad G 73)) C hM (by decide) ce_72 fl_RX11_241 rfl dX11_completions_65 ?_
    refine lv_iload_n (pc := 68) hx hb dX11_completions_68 rfl (lv_at hl 1 rfl) ?_
    obtain ⟨hc, h⟩ := h
    refine g_ialdK (pc := 69) C hM (by decide) ce_73 hc rfl dX11_completions_69 ?_
    refine W.widen (k := 2) (n := 12) (by decide) (by decide) ?_
    exact hret 70 _ _ _ _ _ dX11_completions_70 (by rfl) h hM)
  refine lv_iload_n (pc := 0) hx hb dX11_completions_0 rfl (lv_at hl 1 rfl) ?_
  refine lv_iconst (pc := 1) (v := 0) hx hb dX11_completions_1 (by decide) ?_
  refine lv_iconst (pc := 2) (v := 3) hx hb dX11_completions_2 (by decide) ?_
  refine g_cSi (pc := 3) C hM hl.1 ys_X11_isWithin q2_215 (w_X11_isWithin l G x a1 0 3 σ _ h) rfl rfl ⟨⟨by decide, by decide⟩, by decide, by decide⟩ (Nat.le_of_ble_eq_true rfl) dX11_completions_3 (fun r3 s3 H locs h hM => ?_)
  refine g_cxSv (pc := 6) C hM hl.1 ys_X11_requireArgument q2_218 (w_X11_requireArgument l hl0 G x r3 s3 _ PX h) rfl rfl ⟨⟨by decide, by decide⟩, by decide, by decide⟩ (Nat.le_of_ble_eq_true rfl) dX11_completions_6 hprop (fun s6 H locs h hM => ?_)
  refine lv_aload_n (pc := 9) hx hb dX11_completions_9 rfl (lv_at hl 0 rfl) ?_
  refine g_cVi (pc := 10) C hM hl.1 yv_X11_unknown q4_75 (by decide) ce_60 rfl (w_X11_unknown l G x  s6 _ h) rfl rfl ⟨⟨by decide, by decide⟩, by decide, by decide⟩ (Nat.le_of_ble_eq_true rfl) dX11_completions_10 (fun r10 s10 H locs h hM => ?_)
  refine g_cSi (pc := 13) C hM hl.1 ys_J6_bitCount_0f7a4 q4_131 (w_J6_bitCount_0f7a4 l G x r10 s10 _ h) rfl rfl ⟨⟨by decide, by decide⟩, by decide, by decide⟩ (Nat.le_of_ble_eq_true rfl) dX11_completions_13 (fun r13 s13 H locs h hM => ?_)
  refine lv_iconst (pc := 16) (v := 3) hx hb dX11_completions_16 (by decide) ?_
  refine lv_icmp_gt (pc := 17) (tgt := 24) hx hb dX11_completions_17 (by decide) (fun c17 => ?_) (fun c17 => ?_)
  · have h := h.1 c17
    refine lv_iconst (pc := 24) (v := 0) hx hb dX11_completions_24 (by decide) ?_
    refine W.widen (k := 1) (n := 6) (by decide) (by decide) ?_
    exact h _ _ _ hM (lv_sub hl [0, 1] rfl)
  · have h := h.2 c17
    refine lv_iconst (pc := 20) (v := 1) hx hb dX11_completions_20 (by decide) ?_
    refine lv_goto (pc := 21) (tgt := 25) hx hb dX11_completions_21 (by decide) ?_
    refine W.widen (k := 1) (n := 6) (by decide) (by decide) ?_
    exact h _ _ _ hM (lv_sub hl [0, 1] rfl)
abbrev rm_X11_valuesFor : Room := { frames := 7, cells := 3, slots := 18, locals := 122 }
theorem dX11_valuesFor_0 : decode cX11_valuesFor 0 = .ok (.iload_n 1, 1) := by decide +kernel
theorem dX11_valuesFor_1 : decode cX11_valuesFor 1 = .ok (.bipush 6, 2) := by decide +kernel
theorem dX11_valuesFor_3 : decode cX11_valuesFor 3 = .ok (.invokestatic 92, 3) := by decide +kernel
theorem dX11_valuesFor_6 : decode cX11_valuesFor 6 = .ok (.iload_n 2, 1) := by decide +kernel
theorem dX11_valuesFor_7 : decode cX11_valuesFor 7 = .ok (.iconst 0, 1) := by decide +kernel
theorem dX11_valuesFor_8 : decode cX11_valuesFor 8 = .ok (.iconst 3, 1) := by decide +kernel
theorem dX11_valuesFor_9 : decode cX11_valuesFor 9 = .ok (.invokestatic 96, 3) := by decide +kernel
theorem dX11_valuesFor_12 : decode cX11_valuesFor 12 = .ok (.invokestatic 100, 3) := by decide +kernel
theorem dX11_valuesFor_15 : decode cX11_valuesFor 15 = .ok (.aload_n 0, 1) := by decide +kernel
theorem dX11_valuesFor_16 : decode cX11_valuesFor 16 = .ok (.invokevirtual 212, 3) := by decide +kernel
theorem dX11_valuesFor_19 : decode cX11_valuesFor 19 = .ok (.iconst 1, 1) := by decide +kernel
theorem dX11_valuesFor_20 : decode cX11_valuesFor 20 = .ok (.iload_n 1, 1) := by decide +kernel
theorem dX11_valuesFor_21 : decode cX11_valuesFor 21 = .ok (.ishl, 1) := by decide +kernel
theorem dX11_valuesFor_22 : decode cX11_valuesFor 22 = .ok (.iconst (-1), 1) := by decide +kernel
theorem dX11_valuesFor_23 : decode cX11_valuesFor 23 = .ok (.ixor, 1) := by decide +kernel
theorem dX11_valuesFor_24 : decode cX11_valuesFor 24 = .ok (.iand, 1) := by decide +kernel
theorem dX11_valuesFor_25 : decode cX11_valuesFor 25 = .ok (.invokestatic 233, 3) := by decide +kernel
theorem dX11_valuesFor_28 : decode cX11_valuesFor 28 = .ok (.iconst 3, 1) := by decide +kernel
theorem dX11_valuesFor_29 : decode cX11_valuesFor 29 = .ok (.if_icmp .ge 7, 3) := by decide +kernel
theorem dX11_valuesFor_32 : decode cX11_valuesFor 32 = .ok (.iconst 1, 1) := by decide +kernel
theorem dX11_valuesFor_33 : decode cX11_valuesFor 33 = .ok (.goto 4, 3) := by decide +kernel
theorem dX11_valuesFor_36 : decode cX11_valuesFor 36 = .ok (.iconst 0, 1) := by decide +kernel
theorem dX11_valuesFor_37 : decode cX11_valuesFor 37 = .ok (.invokestatic 114, 3) := by decide +kernel
theorem dX11_valuesFor_40 : decode cX11_valuesFor 40 = .ok (.aload_n 0, 1) := by decide +kernel
theorem dX11_valuesFor_41 : decode cX11_valuesFor 41 = .ok (.getfield 31, 3) := by decide +kernel
theorem dX11_valuesFor_44 : decode cX11_valuesFor 44 = .ok (.invokevirtual 199, 3) := by decide +kernel
theorem dX11_valuesFor_47 : decode cX11_valuesFor 47 = .ok (.aload_n 0, 1) := by decide +kernel
theorem dX11_valuesFor_48 : decode cX11_valuesFor 48 = .ok (.getfield 60, 3) := by decide +kernel
theorem dX11_valuesFor_51 : decode cX11_valuesFor 51 = .ok (.aload_n 0, 1) := by decide +kernel
theorem dX11_valuesFor_52 : decode cX11_valuesFor 52 = .ok (.getfield 196, 3) := by decide +kernel
theorem dX11_valuesFor_55 : decode cX11_valuesFor 55 = .ok (.aload_n 0, 1) := by decide +kernel
theorem dX11_valuesFor_56 : decode cX11_valuesFor 56 = .ok (.getfield 176, 3) := by decide +kernel
theorem dX11_valuesFor_59 : decode cX11_valuesFor 59 = .ok (.invokevirtual 184, 3) := by decide +kernel
theorem dX11_valuesFor_62 : decode cX11_valuesFor 62 = .ok (.istore_n 3, 1) := by decide +kernel
theorem dX11_valuesFor_63 : decode cX11_valuesFor 63 = .ok (.aload_n 0, 1) := by decide +kernel
theorem dX11_valuesFor_64 : decode cX11_valuesFor 64 = .ok (.getfield 85, 3) := by decide +kernel
theorem dX11_valuesFor_67 : decode cX11_valuesFor 67 = .ok (.iconst 0, 1) := by decide +kernel
theorem dX11_valuesFor_68 : decode cX11_valuesFor 68 = .ok (.aload_n 0, 1) := by decide +kernel
theorem dX11_valuesFor_69 : decode cX11_valuesFor 69 = .ok (.getfield 89, 3) := by decide +kernel
theorem dX11_valuesFor_72 : decode cX11_valuesFor 72 = .ok (.iconst 0, 1) := by decide +kernel
theorem dX11_valuesFor_73 : decode cX11_valuesFor 73 = .ok (.bipush 6, 2) := by decide +kernel
theorem dX11_valuesFor_75 : decode cX11_valuesFor 75 = .ok (.invokestatic 244, 3) := by decide +kernel
theorem dX11_valuesFor_78 : decode cX11_valuesFor 78 = .ok (.iconst 0, 1) := by decide +kernel
theorem dX11_valuesFor_79 : decode cX11_valuesFor 79 = .ok (.istore 4, 2) := by decide +kernel
theorem dX11_valuesFor_81 : decode cX11_valuesFor 81 = .ok (.iconst 0, 1) := by decide +kernel
theorem dX11_valuesFor_82 : decode cX11_valuesFor 82 = .ok (.istore 5, 2) := by decide +kernel
theorem dX11_valuesFor_84 : decode cX11_valuesFor 84 = .ok (.iload 5, 2) := by decide +kernel
theorem dX11_valuesFor_86 : decode cX11_valuesFor 86 = .ok (.bipush 16, 2) := by decide +kernel
theorem dX11_valuesFor_88 : decode cX11_valuesFor 88 = .ok (.if_icmp .ge 50, 3) := by decide +kernel
theorem dX11_valuesFor_91 : decode cX11_valuesFor 91 = .ok (.aload_n 0, 1) := by decide +kernel
theorem dX11_valuesFor_92 : decode cX11_valuesFor 92 = .ok (.getfield 89, 3) := by decide +kernel
theorem dX11_valuesFor_95 : decode cX11_valuesFor 95 = .ok (.iload_n 1, 1) := by decide +kernel
theorem dX11_valuesFor_96 : decode cX11_valuesFor 96 = .ok (.iload 5, 2) := by decide +kernel
theorem dX11_valuesFor_98 : decode cX11_valuesFor 98 = .ok (.iastore, 1) := by decide +kernel
theorem dX11_valuesFor_99 : decode cX11_valuesFor 99 = .ok (.aload_n 0, 1) := by decide +kernel
theorem dX11_valuesFor_100 : decode cX11_valuesFor 100 = .ok (.getfield 47, 3) := by decide +kernel
theorem dX11_valuesFor_103 : decode cX11_valuesFor 103 = .ok (.aload_n 0, 1) := by decide +kernel
theorem dX11_valuesFor_104 : decode cX11_valuesFor 104 = .ok (.getfield 89, 3) := by decide +kernel
theorem dX11_valuesFor_107 : decode cX11_valuesFor 107 = .ok (.iload_n 3, 1) := by decide +kernel
theorem dX11_valuesFor_108 : decode cX11_valuesFor 108 = .ok (.invokevirtual 238, 3) := by decide +kernel
theorem dX11_valuesFor_111 : decode cX11_valuesFor 111 = .ok (.aload_n 0, 1) := by decide +kernel
theorem dX11_valuesFor_112 : decode cX11_valuesFor 112 = .ok (.getfield 47, 3) := by decide +kernel
theorem dX11_valuesFor_115 : decode cX11_valuesFor 115 = .ok (.getfield 241, 3) := by decide +kernel
theorem dX11_valuesFor_118 : decode cX11_valuesFor 118 = .ok (.iload_n 2, 1) := by decide +kernel
theorem dX11_valuesFor_119 : decode cX11_valuesFor 119 = .ok (.iaload, 1) := by decide +kernel
theorem dX11_valuesFor_120 : decode cX11_valuesFor 120 = .ok (.ifCond .le 12, 3) := by decide +kernel
theorem dX11_valuesFor_123 : decode cX11_valuesFor 123 = .ok (.iload 4, 2) := by decide +kernel
theorem dX11_valuesFor_125 : decode cX11_valuesFor 125 = .ok (.iconst 1, 1) := by decide +kernel
theorem dX11_valuesFor_126 : decode cX11_valuesFor 126 = .ok (.iload 5, 2) := by decide +kernel
theorem dX11_valuesFor_128 : decode cX11_valuesFor 128 = .ok (.ishl, 1) := by decide +kernel
theorem dX11_valuesFor_129 : decode cX11_valuesFor 129 = .ok (.ior, 1) := by decide +kernel
theorem dX11_valuesFor_130 : decode cX11_valuesFor 130 = .ok (.istore 4, 2) := by decide +kernel
theorem dX11_valuesFor_132 : decode cX11_valuesFor 132 = .ok (.iinc 5 1, 3) := by decide +kernel
theorem dX11_valuesFor_135 : decode cX11_valuesFor 135 = .ok (.goto (-51), 3) := by decide +kernel
theorem dX11_valuesFor_138 : decode cX11_valuesFor 138 = .ok (.iload 4, 2) := by decide +kernel
theorem dX11_valuesFor_140 : decode cX11_valuesFor 140 = .ok (.ireturn, 1) := by decide +kernel
set_option maxHeartbeats 4000000 in
set_option maxRecDepth 100000 in
theorem w_X11_valuesFor (l : Launch) (hl0 : l.stackTraces = false) (G : GP) (x : XP) (a1 : Int32) (a2 : Int32) (σ : Sto) (P : Int32 → Sto → Prop) (PX : String → Sto → Prop) (h : D_X11_valuesFor a1 a2 σ P PX) : g_Mxi l yX11_valuesFor cX11_valuesFor 6 (some .int) rm_X11_valuesFor G x [.ref (g_ad G 60), .int a1, .int a2] σ P PX := by
  unfold D_X11_valuesFor at h
  refine g_ofXi hl0 (by decide +kernel) (Nat.le_of_ble_eq_true rfl) (Or.inl (by decide)) ?_
  intro p e s m args below meth c Q ls C hM hl hret hprop hthrow
  have hx := C.1
  have hb := C.2.1
  have hl : lv_has ls 6 [(0, .ref (g_ad G 60)), (1, .int a1), (2, .int a2)] := hl
  have h := h (fun (t0 : Int32) (σ : Sto) => ∀ (H : Heap) (locs : List Loc) (ls : Array Slot), g_M G x σ s H locs → lv_has ls 6 [(0, .ref (g_ad G 60)), (1, .int a1), (2, .int a2)] → W p l e rm_X11_valuesFor s m args below meth c H locs 2 12 Q (F0 m 37 ls [.int t0])) (fun (v3 : Int32) (v4 : Int32) (v5 : Int32) (σ : Sto) => ∀ (H : Heap) (locs : List Loc) (ls : Array Slot), g_M G x σ s H locs → lv_has ls 6 [(0, .ref (g_ad G 60)), (1, .int a1), (2, .int a2), (3, .int v3), (4, .int v4), (5, .int v5)] → W p l e rm_X11_valuesFor s m args below meth c H locs 3 18 Q (F0 m 84 ls []))
  have h := h (by
    intro t0 σ h  H locs ls hM hl
    refine g_cxSv (pc := 37) C hM hl.1 ys_X11_requireState q2_236 (w_X11_requireState l hl0 G x t0 σ _ PX h) rfl rfl ⟨⟨by decide, by decide⟩, by decide, by decide⟩ (Nat.le_of_ble_eq_true rfl) dX11_valuesFor_37 hprop (fun s37 H locs h hM => ?_)
    refine lv_aload_n (pc := 40) hx hb dX11_valuesFor_40 rfl (lv_at hl 0 rfl) ?_
    refine g_get (pc := 41) (v := .ref (g_ad G 65)) C hM (by decide) ce_60 fl_RX11_31 rfl dX11_valuesFor_41 ?_
    refine g_cVv (pc := 44) C hM hl.1 yv_X5_refresh q4_36 (by decide) ce_65 rfl (w_X5_refresh l G x  s37 _ h) rfl rfl ⟨⟨by decide, by decide⟩, by decide, by decide⟩ (Nat.le_of_ble_eq_true rfl) dX11_valuesFor_44 (fun s44 H locs h hM => ?_)
    refine lv_aload_n (pc := 47) hx hb dX11_valuesFor_47 rfl (lv_at hl 0 rfl) ?_
    refine g_get (pc := 48) (v := .ref (g_ad G 77)) C hM (by decide) ce_60 fl_RX11_60 rfl dX11_valuesFor_48 ?_
    refine lv_aload_n (pc := 51) hx hb dX11_valuesFor_51 rfl (lv_at hl 0 rfl) ?_
    refine g_get (pc := 52) (v := .int (s44 60 13)) C hM (by decide) ce_60 fl_RX11_196 rfl dX11_valuesFor_52 ?_
    refine lv_aload_n (pc := 55) hx hb dX11_valuesFor_55 rfl (lv_at hl 0 rfl) ?_
    refine g_get (pc := 56) (v := .int (s44 60 14)) C hM (by decide) ce_60 fl_RX11_176 rfl dX11_valuesFor_56 ?_
    refine g_cVi (pc := 59) C hM hl.1 yv_X1_usable q3_198 (by decide) ce_77 rfl (w_X1_usable l G x (s44 60 13) (s44 60 14) s44 _ h) rfl rfl ⟨⟨by decide, by decide⟩, by decide, by decide⟩ (Nat.le_of_ble_eq_true rfl) dX11_valuesFor_59 (fun r59 s59 H locs h hM => ?_)
    refine lv_istore_n (pc := 62) (lv' := [(3, .int r59), (0, .ref (g_ad G 60)), (1, .int a1), (2, .int a2)]) hx hb dX11_valuesFor_62 rfl hl (by decide) rfl (fun ls hl => ?_)
    refine lv_aload_n (pc := 63) hx hb dX11_valuesFor_63 rfl (lv_at hl 1 rfl) ?_
    refine g_get (pc := 64) (v := .ref (g_ad G 85)) C hM (by decide) ce_60 fl_RX11_85 rfl dX11_valuesFor_64 ?_
    refine lv_iconst (pc := 67) (v := 0) hx hb dX11_valuesFor_67 (by decide) ?_
    refine lv_aload_n (pc := 68) hx hb dX11_valuesFor_68 rfl (lv_at hl 1 rfl) ?_
    refine g_get (pc := 69) (v := .ref (g_ad G 86)) C hM (by decide) ce_60 fl_RX11_89 rfl dX11_valuesFor_69 ?_
    refine lv_iconst (pc := 72) (v := 0) hx hb dX11_valuesFor_72 (by decide) ?_
    refine lv_bipush (pc := 73) (v := 6) hx hb dX11_valuesFor_73 (by decide) ?_
    obtain ⟨hc, h⟩ := h
    refine g_copyE (pc := 75) C hM hl.1 q4_177 ⟨q2_96, q2_95, q1_22⟩ (by decide) (by decide) ce_85 ce_86 hc ⟨Nat.le_of_ble_eq_true rfl, Nat.le_of_ble_eq_true rfl⟩ dX11_valuesFor_75 (fun s75 es75 H locs hM => ?_)
    have h := h s75 es75
    refine lv_iconst (pc := 78) (v := 0) hx hb dX11_valuesFor_78 (by decide) ?_
    refine lv_istore (pc := 79) (lv' := [(4, .int 0), (3, .int r59), (0, .ref (g_ad G 60)), (1, .int a1), (2, .int a2)]) hx hb dX11_valuesFor_79 hl (by decide) rfl (fun ls hl => ?_)
    refine lv_iconst (pc := 81) (v := 0) hx hb dX11_valuesFor_81 (by decide) ?_
    refine lv_istore (pc := 82) (lv' := [(5, .int 0), (4, .int 0), (3, .int r59), (0, .ref (g_ad G 60)), (1, .int a1), (2, .int a2)]) hx hb dX11_valuesFor_82 hl (by decide) rfl (fun ls hl => ?_)
    refine W.widen (k := 3) (n := 18) (by decide) (by decide) ?_
    exact h _ _ _ hM (lv_sub hl [3, 4, 5, 2, 1, 0] rfl))
  have h := h (by
    intro v3 v4 v5 σ h  H locs ls hM hl
    refine lv_iload (pc := 84) hx hb dX11_valuesFor_84 (lv_at hl 5 rfl) ?_
    refine lv_bipush (pc := 86) (v := 16) hx hb dX11_valuesFor_86 (by decide) ?_
    refine lv_icmp_ge (pc := 88) (tgt := 138) hx hb dX11_valuesFor_88 (by decide) (fun c88 => ?_) (fun c88 => ?_)
    · have h := h.1 c88
      refine lv_iload (pc := 138) hx hb dX11_valuesFor_138 (lv_at hl 4 rfl) ?_
      refine W.widen (k := 3) (n := 18) (by decide) (by decide) ?_
      exact hret 140 _ _ _ _ _ dX11_valuesFor_140 (by rfl) h hM
    · have h := h.2 c88
      refine lv_aload_n (pc := 91) hx hb dX11_valuesFor_91 rfl (lv_at hl 0 rfl) ?_
      refine g_get (pc := 92) (v := .ref (g_ad G 86)) C hM (by decide) ce_60 fl_RX11_89 rfl dX11_valuesFor_92 ?_
      refine lv_iload_n (pc := 95) hx hb dX11_valuesFor_95 rfl (lv_at hl 1 rfl) ?_
      refine lv_iload (pc := 96) hx hb dX11_valuesFor_96 (lv_at hl 5 rfl) ?_
      obtain ⟨hc, h⟩ := h
      refine g_iastE (pc := 98) C hM (by decide) ce_86 hc rfl dX11_valuesFor_98 (fun s98 es98 H locs hM => ?_)
      have h := h s98 es98
      refine lv_aload_n (pc := 99) hx hb dX11_valuesFor_99 rfl (lv_at hl 0 rfl) ?_
      refine g_get (pc := 100) (v := .ref (g_ad G 72)) C hM (by decide) ce_60 fl_RX11_47 rfl dX11_valuesFor_100 ?_
      refine lv_aload_n (pc := 103) hx hb dX11_valuesFor_103 rfl (lv_at hl 0 rfl) ?_
      refine g_get (pc := 104) (v := .ref (g_ad G 86)) C hM (by decide) ce_60 fl_RX11_89 rfl dX11_valuesFor_104 ?_
      refine lv_iload_n (pc := 107) hx hb dX11_valuesFor_107 rfl (lv_at hl 3 rfl) ?_
      refine g_cVv (pc := 108) C hM hl.1 yv_X9_count q4_137 (by decide) ce_72 rfl (w_X9_count l G x 86 v3 s98 _ h) rfl rfl ⟨⟨by decide, by decide⟩, by decide, by decide⟩ (Nat.le_of_ble_eq_true rfl) dX11_valuesFor_108 (fun s108 H locs h hM => ?_)
      refine lv_aload_n (pc := 111) hx hb dX11_valuesFor_111 rfl (lv_at hl 0 rfl) ?_
      refine g_get (pc := 112) (v := .ref (g_ad G 72)) C hM (by decide) ce_60 fl_RX11_47 rfl dX11_valuesFor_112 ?_
      refine g_get (pc := 115) (v := .ref (g_ad G 73)) C hM (by decide) ce_72 fl_RX11_241 rfl dX11_valuesFor_115 ?_
      refine lv_iload_n (pc := 118) hx hb dX11_valuesFor_118 rfl (lv_at hl 2 rfl) ?_
      obtain ⟨hc, h⟩ := h
      refine g_ialdK (pc := 119) C hM (by decide) ce_73 hc rfl dX11_valuesFor_119 ?_
      refine lv_if_le (pc := 120) (tgt := 132) hx hb dX11_valuesFor_120 (by decide) (fun c120 => ?_) (fun c120 => ?_)
      · have h := h.1 c120
        refine lv_iinc (pc := 132) (v := (v5 + 1)) (lv' := [(5, .int (v5 + 1)), (0, .ref (g_ad G 60)), (1, .int a1), (2, .int a2), (3, .int v3), (4, .int v4)]) hx hb dX11_valuesFor_132 hl (k := 5) rfl (by rfl) (by decide) rfl (fun ls hl => ?_)
        refine lv_goto (pc := 135) (tgt := 84) hx hb dX11_valuesFor_135 (by decide) ?_
        refine W.widen (k := 3) (n := 18) (by decide) (by decide) ?_
        exact h _ _ _ hM (lv_sub hl [1, 2, 3, 4, 5, 0] rfl)
      · have h := h.2 c120
        refine lv_iload (pc := 123) hx hb dX11_valuesFor_123 (lv_at hl 4 rfl) ?_
        refine lv_iconst (pc := 125) (v := 1) hx hb dX11_valuesFor_125 (by decide) ?_
        refine lv_iload (pc := 126) hx hb dX11_valuesFor_126 (lv_at hl 5 rfl) ?_
        refine lv_ishl (pc := 128) hx hb dX11_valuesFor_128 ?_
        refine lv_ior (pc := 129) hx hb dX11_valuesFor_129 ?_
        refine lv_topi (fun v4_130 ev4_130 => ?_)
        have h := h v4_130 ev4_130
        refine lv_istore (pc := 130) (lv' := [(4, .int v4_130), (0, .ref (g_ad G 60)), (1, .int a1), (2, .int a2), (3, .int v3), (5, .int v5)]) hx hb dX11_valuesFor_130 hl (by decide) rfl (fun ls hl => ?_)
        refine lv_iinc (pc := 132) (v := (v5 + 1)) (lv' := [(5, .int (v5 + 1)), (4, .int v4_130), (0, .ref (g_ad G 60)), (1, .int a1), (2, .int a2), (3, .int v3)]) hx hb dX11_valuesFor_132 hl (k := 5) rfl (by rfl) (by decide) rfl (fun ls hl => ?_)
        refine lv_goto (pc := 135) (tgt := 84) hx hb dX11_valuesFor_135 (by decide) ?_
        refine W.widen (k := 3) (n := 18) (by decide) (by decide) ?_
        exact h _ _ _ hM (lv_sub hl [2, 3, 4, 5, 1, 0] rfl))
  refine lv_iload_n (pc := 0) hx hb dX11_valuesFor_0 rfl (lv_at hl 1 rfl) ?_
  refine lv_bipush (pc := 1) (v := 6) hx hb dX11_valuesFor_1 (by decide) ?_
  refine g_cxSv (pc := 3) C hM hl.1 ys_X11_requireIndex q2_191 (w_X11_requireIndex l hl0 G x a1 6 σ _ PX h) rfl rfl ⟨⟨by decide, by decide⟩, by decide, by decide⟩ (Nat.le_of_ble_eq_true rfl) dX11_valuesFor_3 hprop (fun s3 H locs h hM => ?_)
  refine lv_iload_n (pc := 6) hx hb dX11_valuesFor_6 rfl (lv_at hl 2 rfl) ?_
  refine lv_iconst (pc := 7) (v := 0) hx hb dX11_valuesFor_7 (by decide) ?_
  refine lv_iconst (pc := 8) (v := 3) hx hb dX11_valuesFor_8 (by decide) ?_
  refine g_cSi (pc := 9) C hM hl.1 ys_X11_isWithin q2_215 (w_X11_isWithin l G x a2 0 3 s3 _ h) rfl rfl ⟨⟨by decide, by decide⟩, by decide, by decide⟩ (Nat.le_of_ble_eq_true rfl) dX11_valuesFor_9 (fun r9 s9 H locs h hM => ?_)
  refine g_cxSv (pc := 12) C hM hl.1 ys_X11_requireArgument q2_218 (w_X11_requireArgument l hl0 G x r9 s9 _ PX h) rfl rfl ⟨⟨by decide, by decide⟩, by decide, by decide⟩ (Nat.le_of_ble_eq_true rfl) dX11_valuesFor_12 hprop (fun s12 H locs h hM => ?_)
  refine lv_aload_n (pc := 15) hx hb dX11_valuesFor_15 rfl (lv_at hl 0 rfl) ?_
  refine g_cVi (pc := 16) C hM hl.1 yv_X11_unknown q4_75 (by decide) ce_60 rfl (w_X11_unknown l G x  s12 _ h) rfl rfl ⟨⟨by decide, by decide⟩, by decide, by decide⟩ (Nat.le_of_ble_eq_true rfl) dX11_valuesFor_16 (fun r16 s16 H locs h hM => ?_)
  refine lv_iconst (pc := 19) (v := 1) hx hb dX11_valuesFor_19 (by decide) ?_
  refine lv_iload_n (pc := 20) hx hb dX11_valuesFor_20 rfl (lv_at hl 1 rfl) ?_
  refine lv_ishl (pc := 21) hx hb dX11_valuesFor_21 ?_
  refine lv_iconst (pc := 22) (v := (-1)) hx hb dX11_valuesFor_22 (by decide) ?_
  refine lv_ixor (pc := 23) hx hb dX11_valuesFor_23 ?_
  refine lv_iand (pc := 24) hx hb dX11_valuesFor_24 ?_
  refine g_cSi (pc := 25) C hM hl.1 ys_J6_bitCount_0f7a4 q4_131 (w_J6_bitCount_0f7a4 l G x (r16 &&& (((1 : Int32) <<< (a1 &&& 31)) ^^^ (-1))) s16 _ h) rfl rfl ⟨⟨by decide, by decide⟩, by decide, by decide⟩ (Nat.le_of_ble_eq_true rfl) dX11_valuesFor_25 (fun r25 s25 H locs h hM => ?_)
  refine lv_iconst (pc := 28) (v := 3) hx hb dX11_valuesFor_28 (by decide) ?_
  refine lv_icmp_ge (pc := 29) (tgt := 36) hx hb dX11_valuesFor_29 (by decide) (fun c29 => ?_) (fun c29 => ?_)
  · have h := h.1 c29
    refine lv_iconst (pc := 36) (v := 0) hx hb dX11_valuesFor_36 (by decide) ?_
    refine W.widen (k := 2) (n := 12) (by decide) (by decide) ?_
    exact h _ _ _ hM (lv_sub hl [0, 1, 2] rfl)
  · have h := h.2 c29
    refine lv_iconst (pc := 32) (v := 1) hx hb dX11_valuesFor_32 (by decide) ?_
    refine lv_goto (pc := 33) (tgt := 37) hx hb dX11_valuesFor_33 (by decide) ?_
    refine W.widen (k := 2) (n := 12) (by decide) (by decide) ?_
    exact h _ _ _ hM (lv_sub hl [0, 1, 2] rfl)
abbrev rm_X11_extent : Room := { frames := 8, cells := 1, slots := 6, locals := 142 }
theorem dX11_extent_0 : decode cX11_extent 0 = .ok (.aload_n 0, 1) := by decide +kernel
theorem dX11_extent_1 : decode cX11_extent 1 = .ok (.iload_n 1, 1) := by decide +kernel
theorem dX11_extent_2 : decode cX11_extent 2 = .ok (.invokevirtual 124, 3) := by decide +kernel
theorem dX11_extent_5 : decode cX11_extent 5 = .ok (.aload_n 0, 1) := by decide +kernel
theorem dX11_extent_6 : decode cX11_extent 6 = .ok (.getfield 31, 3) := by decide +kernel
theorem dX11_extent_9 : decode cX11_extent 9 = .ok (.invokevirtual 199, 3) := by decide +kernel
theorem dX11_extent_12 : decode cX11_extent 12 = .ok (.aload_n 0, 1) := by decide +kernel
theorem dX11_extent_13 : decode cX11_extent 13 = .ok (.getfield 31, 3) := by decide +kernel
theorem dX11_extent_16 : decode cX11_extent 16 = .ok (.aload_n 0, 1) := by decide +kernel
theorem dX11_extent_17 : decode cX11_extent 17 = .ok (.getfield 31, 3) := by decide +kernel
theorem dX11_extent_20 : decode cX11_extent 20 = .ok (.getfield 202, 3) := by decide +kernel
theorem dX11_extent_23 : decode cX11_extent 23 = .ok (.iload_n 1, 1) := by decide +kernel
theorem dX11_extent_24 : decode cX11_extent 24 = .ok (.iaload, 1) := by decide +kernel
theorem dX11_extent_25 : decode cX11_extent 25 = .ok (.invokevirtual 250, 3) := by decide +kernel
theorem dX11_extent_28 : decode cX11_extent 28 = .ok (.ireturn, 1) := by decide +kernel
set_option maxHeartbeats 4000000 in
set_option maxRecDepth 100000 in
theorem w_X11_extent (l : Launch) (hl0 : l.stackTraces = false) (G : GP) (x : XP) (a1 : Int32) (σ : Sto) (P : Int32 → Sto → Prop) (PX : String → Sto → Prop) (h : D_X11_extent a1 σ P PX) : g_Mxi l yX11_extent cX11_extent 2 (some .int) rm_X11_extent G x [.ref (g_ad G 60), .int a1] σ P PX := by
  unfold D_X11_extent at h
  refine g_ofXi hl0 (by decide +kernel) (Nat.le_of_ble_eq_true rfl) (Or.inl (by decide)) ?_
  intro p e s m args below meth c Q ls C hM hl hret hprop hthrow
  have hx := C.1
  have hb := C.2.1
  have hl : lv_has ls 2 [(0, .ref (g_ad G 60)), (1, .int a1)] := hl
  refine lv_aload_n (pc := 0) hx hb dX11_extent_0 rfl (lv_at hl 0 rfl) ?_
  refine lv_iload_n (pc := 1) hx hb dX11_extent_1 rfl (lv_at hl 1 rfl) ?_
  refine g_cxVv (pc := 2) C hM hl.1 yv_X11_requireRule q3_34 (by decide) ce_60 rfl (w_X11_requireRule l hl0 G x a1 σ _ PX h) rfl rfl ⟨⟨by decide, by decide⟩, by decide, by decide⟩ (Nat.le_of_ble_eq_true rfl) dX11_extent_2 hprop (fun s2 H locs h hM => ?_)
  refine lv_aload_n (pc := 5) hx hb dX11_extent_5 rfl (lv_at hl 0 rfl) ?_
  refine g_get (pc := 6) (v := .ref (g_ad G 65)) C hM (by decide) ce_60 fl_RX11_31 rfl dX11_extent_6 ?_
  refine g_cVv (pc := 9) C hM hl.1 yv_X5_refresh q4_36 (by decide) ce_65 rfl (w_X5_refresh l G x  s2 _ h) rfl rfl ⟨⟨by decide, by decide⟩, by decide, by decide⟩ (Nat.le_of_ble_eq_true rfl) dX11_extent_9 (fun s9 H locs h hM => ?_)
  refine lv_aload_n (pc := 12) hx hb dX11_extent_12 rfl (lv_at hl 0 rfl) ?_
  refine g_get (pc := 13) (v := .ref (g_ad G 65)) C hM (by decide) ce_60 fl_RX11_31 rfl dX11_extent_13 ?_
  refine lv_aload_n (pc := 16) hx hb dX11_extent_16 rfl (lv_at hl 0 rfl) ?_
  refine g_get (pc := 17) (v := .ref (g_ad G 65)) C hM (by decide) ce_60 fl_RX11_31 rfl dX11_extent_17 ?_
  refine g_get (pc := 20) (v := .ref (g_ad G 66)) C hM (by decide) ce_65 fl_RX11_202 rfl dX11_extent_20 ?_
  refine lv_iload_n (pc := 23) hx hb dX11_extent_23 rfl (lv_at hl 1 rfl) ?_
  obtain ⟨hc, h⟩ := h
  refine g_ialdK (pc := 24) C hM (by decide) ce_66 hc rfl dX11_extent_24 ?_
  refine g_cVi (pc := 25) C hM hl.1 yv_X5_sizeOf q4_185 (by decide) ce_65 rfl (w_X5_sizeOf l G x (s9 66 (ix a1)) s9 _ h) rfl rfl ⟨⟨by decide, by decide⟩, by decide, by decide⟩ (Nat.le_of_ble_eq_true rfl) dX11_extent_25 (fun r25 s25 H locs h hM => ?_)
  refine W.widen (k := 1) (n := 6) (by decide) (by decide) ?_
  exact hret 28 _ _ _ _ _ dX11_extent_28 (by rfl) h hM
abbrev rm_X11_overlap : Room := { frames := 8, cells := 2, slots := 12, locals := 142 }
theorem dX11_overlap_0 : decode cX11_overlap 0 = .ok (.aload_n 0, 1) := by decide +kernel
theorem dX11_overlap_1 : decode cX11_overlap 1 = .ok (.iload_n 1, 1) := by decide +kernel
theorem dX11_overlap_2 : decode cX11_overlap 2 = .ok (.invokevirtual 124, 3) := by decide +kernel
theorem dX11_overlap_5 : decode cX11_overlap 5 = .ok (.aload_n 0, 1) := by decide +kernel
theorem dX11_overlap_6 : decode cX11_overlap 6 = .ok (.iload_n 2, 1) := by decide +kernel
theorem dX11_overlap_7 : decode cX11_overlap 7 = .ok (.invokevirtual 124, 3) := by decide +kernel
theorem dX11_overlap_10 : decode cX11_overlap 10 = .ok (.aload_n 0, 1) := by decide +kernel
theorem dX11_overlap_11 : decode cX11_overlap 11 = .ok (.getfield 31, 3) := by decide +kernel
theorem dX11_overlap_14 : decode cX11_overlap 14 = .ok (.invokevirtual 199, 3) := by decide +kernel
theorem dX11_overlap_17 : decode cX11_overlap 17 = .ok (.aload_n 0, 1) := by decide +kernel
theorem dX11_overlap_18 : decode cX11_overlap 18 = .ok (.getfield 31, 3) := by decide +kernel
theorem dX11_overlap_21 : decode cX11_overlap 21 = .ok (.aload_n 0, 1) := by decide +kernel
theorem dX11_overlap_22 : decode cX11_overlap 22 = .ok (.getfield 31, 3) := by decide +kernel
theorem dX11_overlap_25 : decode cX11_overlap 25 = .ok (.getfield 202, 3) := by decide +kernel
theorem dX11_overlap_28 : decode cX11_overlap 28 = .ok (.iload_n 1, 1) := by decide +kernel
theorem dX11_overlap_29 : decode cX11_overlap 29 = .ok (.iaload, 1) := by decide +kernel
theorem dX11_overlap_30 : decode cX11_overlap 30 = .ok (.aload_n 0, 1) := by decide +kernel
theorem dX11_overlap_31 : decode cX11_overlap 31 = .ok (.getfield 31, 3) := by decide +kernel
theorem dX11_overlap_34 : decode cX11_overlap 34 = .ok (.getfield 202, 3) := by decide +kernel
theorem dX11_overlap_37 : decode cX11_overlap 37 = .ok (.iload_n 2, 1) := by decide +kernel
theorem dX11_overlap_38 : decode cX11_overlap 38 = .ok (.iaload, 1) := by decide +kernel
theorem dX11_overlap_39 : decode cX11_overlap 39 = .ok (.invokevirtual 253, 3) := by decide +kernel
theorem dX11_overlap_42 : decode cX11_overlap 42 = .ok (.ireturn, 1) := by decide +kernel
set_option maxHeartbeats 4000000 in
set_option maxRecDepth 100000 in
theorem w_X11_overlap (l : Launch) (hl0 : l.stackTraces = false) (G : GP) (x : XP) (a1 : Int32) (a2 : Int32) (σ : Sto) (P : Int32 → Sto → Prop) (PX : String → Sto → Prop) (h : D_X11_overlap a1 a2 σ P PX) : g_Mxi l yX11_overlap cX11_overlap 3 (some .boolean) rm_X11_overlap G x [.ref (g_ad G 60), .int a1, .int a2] σ P PX := by
  unfold D_X11_overlap at h
  refine g_ofXi hl0 (by decide +kernel) (Nat.le_of_ble_eq_true rfl) (Or.inl (by decide)) ?_
  intro p e s m args below meth c Q ls C hM hl hret hprop hthrow
  have hx := C.1
  have hb := C.2.1
  have hl : lv_has ls 3 [(0, .ref (g_ad G 60)), (1, .int a1), (2, .int a2)] := hl
  refine lv_aload_n (pc := 0) hx hb dX11_overlap_0 rfl (lv_at hl 0 rfl) ?_
  refine lv_iload_n (pc := 1) hx hb dX11_overlap_1 rfl (lv_at hl 1 rfl) ?_
  refine g_cxVv (pc := 2) C hM hl.1 yv_X11_requireRule q3_34 (by decide) ce_60 rfl (w_X11_requireRule l hl0 G x a1 σ _ PX h) rfl rfl ⟨⟨by decide, by decide⟩, by decide, by decide⟩ (Nat.le_of_ble_eq_true rfl) dX11_overlap_2 hprop (fun s2 H locs h hM => ?_)
  refine lv_aload_n (pc := 5) hx hb dX11_overlap_5 rfl (lv_at hl 0 rfl) ?_
  refine lv_iload_n (pc := 6) hx hb dX11_overlap_6 rfl (lv_at hl 2 rfl) ?_
  refine g_cxVv (pc := 7) C hM hl.1 yv_X11_requireRule q3_34 (by decide) ce_60 rfl (w_X11_requireRule l hl0 G x a2 s2 _ PX h) rfl rfl ⟨⟨by decide, by decide⟩, by decide, by decide⟩ (Nat.le_of_ble_eq_true rfl) dX11_overlap_7 hprop (fun s7 H locs h hM => ?_)
  refine lv_aload_n (pc := 10) hx hb dX11_overlap_10 rfl (lv_at hl 0 rfl) ?_
  refine g_get (pc := 11) (v := .ref (g_ad G 65)) C hM (by decide) ce_60 fl_RX11_31 rfl dX11_overlap_11 ?_
  refine g_cVv (pc := 14) C hM hl.1 yv_X5_refresh q4_36 (by decide) ce_65 rfl (w_X5_refresh l G x  s7 _ h) rfl rfl ⟨⟨by decide, by decide⟩, by decide, by decide⟩ (Nat.le_of_ble_eq_true rfl) dX11_overlap_14 (fun s14 H locs h hM => ?_)
  refine lv_aload_n (pc := 17) hx hb dX11_overlap_17 rfl (lv_at hl 0 rfl) ?_
  refine g_get (pc := 18) (v := .ref (g_ad G 65)) C hM (by decide) ce_60 fl_RX11_31 rfl dX11_overlap_18 ?_
  refine lv_aload_n (pc := 21) hx hb dX11_overlap_21 rfl (lv_at hl 0 rfl) ?_
  refine g_get (pc := 22) (v := .ref (g_ad G 65)) C hM (by decide) ce_60 fl_RX11_31 rfl dX11_overlap_22 ?_
  refine g_get (pc := 25) (v := .ref (g_ad G 66)) C hM (by decide) ce_65 fl_RX11_202 rfl dX11_overlap_25 ?_
  refine lv_iload_n (pc := 28) hx hb dX11_overlap_28 rfl (lv_at hl 1 rfl) ?_
  obtain ⟨hc, h⟩ := h
  refine g_ialdK (pc := 29) C hM (by decide) ce_66 hc rfl dX11_overlap_29 ?_
  refine lv_aload_n (pc := 30) hx hb dX11_overlap_30 rfl (lv_at hl 0 rfl) ?_
  refine g_get (pc := 31) (v := .ref (g_ad G 65)) C hM (by decide) ce_60 fl_RX11_31 rfl dX11_overlap_31 ?_
  refine g_get (pc := 34) (v := .ref (g_ad G 66)) C hM (by decide) ce_65 fl_RX11_202 rfl dX11_overlap_34 ?_
  refine lv_iload_n (pc := 37) hx hb dX11_overlap_37 rfl (lv_at hl 2 rfl) ?_
  obtain ⟨hc, h⟩ := h
  refine g_ialdK (pc := 38) C hM (by decide) ce_66 hc rfl dX11_overlap_38 ?_
  refine g_cVi (pc := 39) C hM hl.1 yv_X5_meet q4_197 (by decide) ce_65 rfl (w_X5_meet l G x (s14 66 (ix a1)) (s14 66 (ix a2)) s14 _ h) rfl rfl ⟨⟨by decide, by decide⟩, by decide, by decide⟩ (Nat.le_of_ble_eq_true rfl) dX11_overlap_39 (fun r39 s39 H locs h hM => ?_)
  refine W.widen (k := 2) (n := 12) (by decide) (by decide) ?_
  exact hret 42 _ _ _ _ _ dX11_overlap_42 (nar_b h.1) h.2 hM
abbrev rm_X11_covers : Room := { frames := 8, cells := 2, slots := 12, locals := 142 }
theorem dX11_covers_0 : decode cX11_covers 0 = .ok (.aload_n 0, 1) := by decide +kernel
theorem dX11_covers_1 : decode cX11_covers 1 = .ok (.iload_n 1, 1) := by decide +kernel
theorem dX11_covers_2 : decode cX11_covers 2 = .ok (.invokevirtual 124, 3) := by decide +kernel
theorem dX11_covers_5 : decode cX11_covers 5 = .ok (.aload_n 0, 1) := by decide +kernel
theorem dX11_covers_6 : decode cX11_covers 6 = .ok (.iload_n 2, 1) := by decide +kernel
theorem dX11_covers_7 : decode cX11_covers 7 = .ok (.invokevirtual 124, 3) := by decide +kernel
theorem dX11_covers_10 : decode cX11_covers 10 = .ok (.aload_n 0, 1) := by decide +kernel
theorem dX11_covers_11 : decode cX11_covers 11 = .ok (.getfield 31, 3) := by decide +kernel
theorem dX11_covers_14 : decode cX11_covers 14 = .ok (.invokevirtual 199, 3) := by decide +kernel
theorem dX11_covers_17 : decode cX11_covers 17 = .ok (.aload_n 0, 1) := by decide +kernel
theorem dX11_covers_18 : decode cX11_covers 18 = .ok (.getfield 31, 3) := by decide +kernel
theorem dX11_covers_21 : decode cX11_covers 21 = .ok (.aload_n 0, 1) := by decide +kernel
theorem dX11_covers_22 : decode cX11_covers 22 = .ok (.getfield 31, 3) := by decide +kernel
theorem dX11_covers_25 : decode cX11_covers 25 = .ok (.getfield 202, 3) := by decide +kernel
theorem dX11_covers_28 : decode cX11_covers 28 = .ok (.iload_n 1, 1) := by decide +kernel
theorem dX11_covers_29 : decode cX11_covers 29 = .ok (.iaload, 1) := by decide +kernel
theorem dX11_covers_30 : decode cX11_covers 30 = .ok (.aload_n 0, 1) := by decide +kernel
theorem dX11_covers_31 : decode cX11_covers 31 = .ok (.getfield 31, 3) := by decide +kernel
theorem dX11_covers_34 : decode cX11_covers 34 = .ok (.getfield 202, 3) := by decide +kernel
theorem dX11_covers_37 : decode cX11_covers 37 = .ok (.iload_n 2, 1) := by decide +kernel
theorem dX11_covers_38 : decode cX11_covers 38 = .ok (.iaload, 1) := by decide +kernel
theorem dX11_covers_39 : decode cX11_covers 39 = .ok (.invokevirtual 256, 3) := by decide +kernel
theorem dX11_covers_42 : decode cX11_covers 42 = .ok (.ireturn, 1) := by decide +kernel
set_option maxHeartbeats 4000000 in
set_option maxRecDepth 100000 in
theorem w_X11_covers (l : Launch) (hl0 : l.stackTraces = false) (G : GP) (x : XP) (a1 : Int32) (a2 : Int32) (σ : Sto) (P : Int32 → Sto → Prop) (PX : String → Sto → Prop) (h : D_X11_covers a1 a2 σ P PX) : g_Mxi l yX11_covers cX11_covers 3 (some .boolean) rm_X11_covers G x [.ref (g_ad G 60), .int a1, .int a2] σ P PX := by
  unfold D_X11_covers at h
  refine g_ofXi hl0 (by decide +kernel) (Nat.le_of_ble_eq_true rfl) (Or.inl (by decide)) ?_
  intro p e s m args below meth c Q ls C hM hl hret hprop hthrow
  have hx := C.1
  have hb := C.2.1
  have hl : lv_has ls 3 [(0, .ref (g_ad G 60)), (1, .int a1), (2, .int a2)] := hl
  refine lv_aload_n (pc := 0) hx hb dX11_covers_0 rfl (lv_at hl 0 rfl) ?_
  refine lv_iload_n (pc := 1) hx hb dX11_covers_1 rfl (lv_at hl 1 rfl) ?_
  refine g_cxVv (pc := 2) C hM hl.1 yv_X11_requireRule q3_34 (by decide) ce_60 rfl (w_X11_requireRule l hl0 G x a1 σ _ PX h) rfl rfl ⟨⟨by decide, by decide⟩, by decide, by decide⟩ (Nat.le_of_ble_eq_true rfl) dX11_covers_2 hprop (fun s2 H locs h hM => ?_)
  refine lv_aload_n (pc := 5) hx hb dX11_covers_5 rfl (lv_at hl 0 rfl) ?_
  refine lv_iload_n (pc := 6) hx hb dX11_covers_6 rfl (lv_at hl 2 rfl) ?_
  refine g_cxVv (pc := 7) C hM hl.1 yv_X11_requireRule q3_34 (by decide) ce_60 rfl (w_X11_requireRule l hl0 G x a2 s2 _ PX h) rfl rfl ⟨⟨by decide, by decide⟩, by decide, by decide⟩ (Nat.le_of_ble_eq_true rfl) dX11_covers_7 hprop (fun s7 H locs h hM => ?_)
  refine lv_aload_n (pc := 10) hx hb dX11_covers_10 rfl (lv_at hl 0 rfl) ?_
  refine g_get (pc := 11) (v := .ref (g_ad G 65)) C hM (by decide) ce_60 fl_RX11_31 rfl dX11_covers_11 ?_
  refine g_cVv (pc := 14) C hM hl.1 yv_X5_refresh q4_36 (by decide) ce_65 rfl (w_X5_refresh l G x  s7 _ h) rfl rfl ⟨⟨by decide, by decide⟩, by decide, by decide⟩ (Nat.le_of_ble_eq_true rfl) dX11_covers_14 (fun s14 H locs h hM => ?_)
  refine lv_aload_n (pc := 17) hx hb dX11_covers_17 rfl (lv_at hl 0 rfl) ?_
  refine g_get (pc := 18) (v := .ref (g_ad G 65)) C hM (by decide) ce_60 fl_RX11_31 rfl dX11_covers_18 ?_
  refine lv_aload_n (pc := 21) hx hb dX11_covers_21 rfl (lv_at hl 0 rfl) ?_
  refine g_get (pc := 22) (v := .ref (g_ad G 65)) C hM (by decide) ce_60 fl_RX11_31 rfl dX11_covers_22 ?_
  refine g_get (pc := 25) (v := .ref (g_ad G 66)) C hM (by decide) ce_65 fl_RX11_202 rfl dX11_covers_25 ?_
  refine lv_iload_n (pc := 28) hx hb dX11_covers_28 rfl (lv_at hl 1 rfl) ?_
  obtain ⟨hc, h⟩ := h
  refine g_ialdK (pc := 29) C hM (by decide) ce_66 hc rfl dX11_covers_29 ?_
  refine lv_aload_n (pc := 30) hx hb dX11_covers_30 rfl (lv_at hl 0 rfl) ?_
  refine g_get (pc := 31) (v := .ref (g_ad G 65)) C hM (by decide) ce_60 fl_RX11_31 rfl dX11_covers_31 ?_
  refine g_get (pc := 34) (v := .ref (g_ad G 66)) C hM (by decide) ce_65 fl_RX11_202 rfl dX11_covers_34 ?_
  refine lv_iload_n (pc := 37) hx hb dX11_covers_37 rfl (lv_at hl 2 rfl) ?_
  obtain ⟨hc, h⟩ := h
  refine g_ialdK (pc := 38) C hM (by decide) ce_66 hc rfl dX11_covers_38 ?_
  refine g_cVi (pc := 39) C hM hl.1 yv_X5_contains q4_208 (by decide) ce_65 rfl (w_X5_contains l G x (s14 66 (ix a1)) (s14 66 (ix a2)) s14 _ h) rfl rfl ⟨⟨by decide, by decide⟩, by decide, by decide⟩ (Nat.le_of_ble_eq_true rfl) dX11_covers_39 (fun r39 s39 H locs h hM => ?_)
  refine W.widen (k := 2) (n := 12) (by decide) (by decide) ?_
  exact hret 42 _ _ _ _ _ dX11_covers_42 (nar_b h.1) h.2 hM
abbrev rm_X11_clashes : Room := { frames := 7, cells := 1, slots := 6, locals := 121 }
theorem dX11_clashes_0 : decode cX11_clashes 0 = .ok (.iload_n 1, 1) := by decide +kernel
theorem dX11_clashes_1 : decode cX11_clashes 1 = .ok (.iconst 4, 1) := by decide +kernel
theorem dX11_clashes_2 : decode cX11_clashes 2 = .ok (.invokestatic 92, 3) := by decide +kernel
theorem dX11_clashes_5 : decode cX11_clashes 5 = .ok (.aload_n 0, 1) := by decide +kernel
theorem dX11_clashes_6 : decode cX11_clashes 6 = .ok (.getfield 31, 3) := by decide +kernel
theorem dX11_clashes_9 : decode cX11_clashes 9 = .ok (.invokevirtual 199, 3) := by decide +kernel
theorem dX11_clashes_12 : decode cX11_clashes 12 = .ok (.aload_n 0, 1) := by decide +kernel
theorem dX11_clashes_13 : decode cX11_clashes 13 = .ok (.getfield 31, 3) := by decide +kernel
theorem dX11_clashes_16 : decode cX11_clashes 16 = .ok (.iload_n 1, 1) := by decide +kernel
theorem dX11_clashes_17 : decode cX11_clashes 17 = .ok (.invokevirtual 259, 3) := by decide +kernel
theorem dX11_clashes_20 : decode cX11_clashes 20 = .ok (.ireturn, 1) := by decide +kernel
set_option maxHeartbeats 4000000 in
set_option maxRecDepth 100000 in
theorem w_X11_clashes (l : Launch) (hl0 : l.stackTraces = false) (G : GP) (x : XP) (a1 : Int32) (σ : Sto) (P : Int32 → Sto → Prop) (PX : String → Sto → Prop) (h : D_X11_clashes a1 σ P PX) : g_Mxi l yX11_clashes cX11_clashes 2 (some .int) rm_X11_clashes G x [.ref (g_ad G 60), .int a1] σ P PX := by
  unfold D_X11_clashes at h
  refine g_ofXi hl0 (by decide +kernel) (Nat.le_of_ble_eq_true rfl) (Or.inl (by decide)) ?_
  intro p e s m args below meth c Q ls C hM hl hret hprop hthrow
  have hx := C.1
  have hb := C.2.1
  have hl : lv_has ls 2 [(0, .ref (g_ad G 60)), (1, .int a1)] := hl
  refine lv_iload_n (pc := 0) hx hb dX11_clashes_0 rfl (lv_at hl 1 rfl) ?_
  refine lv_iconst (pc := 1) (v := 4) hx hb dX11_clashes_1 (by decide) ?_
  refine g_cxSv (pc := 2) C hM hl.1 ys_X11_requireIndex q2_191 (w_X11_requireIndex l hl0 G x a1 4 σ _ PX h) rfl rfl ⟨⟨by decide, by decide⟩, by decide, by decide⟩ (Nat.le_of_ble_eq_true rfl) dX11_clashes_2 hprop (fun s2 H locs h hM => ?_)
  refine lv_aload_n (pc := 5) hx hb dX11_clashes_5 rfl (lv_at hl 0 rfl) ?_
  refine g_get (pc := 6) (v := .ref (g_ad G 65)) C hM (by decide) ce_60 fl_RX11_31 rfl dX11_clashes_6 ?_
  refine g_cVv (pc := 9) C hM hl.1 yv_X5_refresh q4_36 (by decide) ce_65 rfl (w_X5_refresh l G x  s2 _ h) rfl rfl ⟨⟨by decide, by decide⟩, by decide, by decide⟩ (Nat.le_of_ble_eq_true rfl) dX11_clashes_9 (fun s9 H locs h hM => ?_)
  refine lv_aload_n (pc := 12) hx hb dX11_clashes_12 rfl (lv_at hl 0 rfl) ?_
  refine g_get (pc := 13) (v := .ref (g_ad G 65)) C hM (by decide) ce_60 fl_RX11_31 rfl dX11_clashes_13 ?_
  refine lv_iload_n (pc := 16) hx hb dX11_clashes_16 rfl (lv_at hl 1 rfl) ?_
  refine g_cVi (pc := 17) C hM hl.1 yv_X5_clashesIn q4_220 (by decide) ce_65 rfl (w_X5_clashesIn l G x a1 s9 _ h) rfl rfl ⟨⟨by decide, by decide⟩, by decide, by decide⟩ (Nat.le_of_ble_eq_true rfl) dX11_clashes_17 (fun r17 s17 H locs h hM => ?_)
  refine W.widen (k := 1) (n := 6) (by decide) (by decide) ?_
  exact hret 20 _ _ _ _ _ dX11_clashes_20 (by rfl) h hM
abbrev rm_X11_neverDeciding : Room := { frames := 67, cells := 1, slots := 6, locals := 2671 }
theorem dX11_neverDeciding_0 : decode cX11_neverDeciding 0 = .ok (.iload_n 1, 1) := by decide +kernel
theorem dX11_neverDeciding_1 : decode cX11_neverDeciding 1 = .ok (.iconst 4, 1) := by decide +kernel
theorem dX11_neverDeciding_2 : decode cX11_neverDeciding 2 = .ok (.invokestatic 92, 3) := by decide +kernel
theorem dX11_neverDeciding_5 : decode cX11_neverDeciding 5 = .ok (.aload_n 0, 1) := by decide +kernel
theorem dX11_neverDeciding_6 : decode cX11_neverDeciding 6 = .ok (.getfield 31, 3) := by decide +kernel
theorem dX11_neverDeciding_9 : decode cX11_neverDeciding 9 = .ok (.invokevirtual 199, 3) := by decide +kernel
theorem dX11_neverDeciding_12 : decode cX11_neverDeciding 12 = .ok (.iconst 0, 1) := by decide +kernel
theorem dX11_neverDeciding_13 : decode cX11_neverDeciding 13 = .ok (.istore_n 2, 1) := by decide +kernel
theorem dX11_neverDeciding_14 : decode cX11_neverDeciding 14 = .ok (.iconst 0, 1) := by decide +kernel
theorem dX11_neverDeciding_15 : decode cX11_neverDeciding 15 = .ok (.istore_n 3, 1) := by decide +kernel
theorem dX11_neverDeciding_16 : decode cX11_neverDeciding 16 = .ok (.iload_n 3, 1) := by decide +kernel
theorem dX11_neverDeciding_17 : decode cX11_neverDeciding 17 = .ok (.aload_n 0, 1) := by decide +kernel
theorem dX11_neverDeciding_18 : decode cX11_neverDeciding 18 = .ok (.getfield 12, 3) := by decide +kernel
theorem dX11_neverDeciding_21 : decode cX11_neverDeciding 21 = .ok (.getfield 104, 3) := by decide +kernel
theorem dX11_neverDeciding_24 : decode cX11_neverDeciding 24 = .ok (.getfield 108, 3) := by decide +kernel
theorem dX11_neverDeciding_27 : decode cX11_neverDeciding 27 = .ok (.if_icmp .ge 47, 3) := by decide +kernel
theorem dX11_neverDeciding_30 : decode cX11_neverDeciding 30 = .ok (.aload_n 0, 1) := by decide +kernel
theorem dX11_neverDeciding_31 : decode cX11_neverDeciding 31 = .ok (.getfield 12, 3) := by decide +kernel
theorem dX11_neverDeciding_34 : decode cX11_neverDeciding 34 = .ok (.getfield 104, 3) := by decide +kernel
theorem dX11_neverDeciding_37 : decode cX11_neverDeciding 37 = .ok (.iload_n 3, 1) := by decide +kernel
theorem dX11_neverDeciding_38 : decode cX11_neverDeciding 38 = .ok (.iconst 0, 1) := by decide +kernel
theorem dX11_neverDeciding_39 : decode cX11_neverDeciding 39 = .ok (.invokevirtual 132, 3) := by decide +kernel
theorem dX11_neverDeciding_42 : decode cX11_neverDeciding 42 = .ok (.iload_n 1, 1) := by decide +kernel
theorem dX11_neverDeciding_43 : decode cX11_neverDeciding 43 = .ok (.if_icmp .ne 25, 3) := by decide +kernel
theorem dX11_neverDeciding_46 : decode cX11_neverDeciding 46 = .ok (.aload_n 0, 1) := by decide +kernel
theorem dX11_neverDeciding_47 : decode cX11_neverDeciding 47 = .ok (.getfield 40, 3) := by decide +kernel
theorem dX11_neverDeciding_50 : decode cX11_neverDeciding 50 = .ok (.aload_n 0, 1) := by decide +kernel
theorem dX11_neverDeciding_51 : decode cX11_neverDeciding 51 = .ok (.getfield 31, 3) := by decide +kernel
theorem dX11_neverDeciding_54 : decode cX11_neverDeciding 54 = .ok (.getfield 202, 3) := by decide +kernel
theorem dX11_neverDeciding_57 : decode cX11_neverDeciding 57 = .ok (.iload_n 3, 1) := by decide +kernel
theorem dX11_neverDeciding_58 : decode cX11_neverDeciding 58 = .ok (.iaload, 1) := by decide +kernel
theorem dX11_neverDeciding_59 : decode cX11_neverDeciding 59 = .ok (.invokevirtual 262, 3) := by decide +kernel
theorem dX11_neverDeciding_62 : decode cX11_neverDeciding 62 = .ok (.ifCond .ne 6, 3) := by decide +kernel
theorem dX11_neverDeciding_65 : decode cX11_neverDeciding 65 = .ok (.iinc 2 1, 3) := by decide +kernel
theorem dX11_neverDeciding_68 : decode cX11_neverDeciding 68 = .ok (.iinc 3 1, 3) := by decide +kernel
theorem dX11_neverDeciding_71 : decode cX11_neverDeciding 71 = .ok (.goto (-55), 3) := by decide +kernel
theorem dX11_neverDeciding_74 : decode cX11_neverDeciding 74 = .ok (.iload_n 2, 1) := by decide +kernel
theorem dX11_neverDeciding_75 : decode cX11_neverDeciding 75 = .ok (.ireturn, 1) := by decide +kernel
set_option maxHeartbeats 4000000 in
set_option maxRecDepth 100000 in
theorem w_X11_neverDeciding (l : Launch) (hl0 : l.stackTraces = false) (G : GP) (x : XP) (a1 : Int32) (σ : Sto) (P : Int32 → Sto → Prop) (PX : String → Sto → Prop) (h : D_X11_neverDeciding a1 σ P PX) : g_Mxi l yX11_neverDeciding cX11_neverDeciding 4 (some .int) rm_X11_neverDeciding G x [.ref (g_ad G 60), .int a1] σ P PX := by
  unfold D_X11_neverDeciding at h
  refine g_ofXi hl0 (by decide +kernel) (Nat.le_of_ble_eq_true rfl) (Or.inl (by decide)) ?_
  intro p e s m args below meth c Q ls C hM hl hret hprop hthrow
  have hx := C.1
  have hb := C.2.1
  have hl : lv_has ls 4 [(0, .ref (g_ad G 60)), (1, .int a1)] := hl
  have h := h (fun (v2 : Int32) (v3 : Int32) (σ : Sto) => ∀ (H : Heap) (locs : List Loc) (ls : Array Slot), g_M G x σ s H locs → lv_has ls 4 [(0, .ref (g_ad G 60)), (1, .int a1), (2, .int v2), (3, .int v3)] → W p l e rm_X11_neverDeciding s m args below meth c H locs 1 6 Q (F0 m 16 ls []))
  have h := h (by
    intro v2 v3 σ h  H locs ls hM hl
    refine lv_iload_n (pc := 16) hx hb dX11_neverDeciding_16 rfl (lv_at hl 3 rfl) ?_
    refine lv_aload_n (pc := 17) hx hb dX11_neverDeciding_17 rfl (lv_at hl 0 rfl) ?_
    refine g_get (pc := 18) (v := .ref (g_ad G 0)) C hM (by decide) ce_60 fl_RX11_12 rfl dX11_neverDeciding_18 ?_
    refine g_get (pc := 21) (v := .ref (g_ad G 1)) C hM (by decide) ce_0 fl_RX11_104 rfl dX11_neverDeciding_21 ?_
    refine g_get (pc := 24) (v := .int (σ 1 1)) C hM (by decide) ce_1 fl_RX11_108 rfl dX11_neverDeciding_24 ?_
    refine lv_icmp_ge (pc := 27) (tgt := 74) hx hb dX11_neverDeciding_27 (by decide) (fun c27 => ?_) (fun c27 => ?_)
    · have h := h.1 c27
      refine lv_iload_n (pc := 74) hx hb dX11_neverDeciding_74 rfl (lv_at hl 2 rfl) ?_
      refine W.widen (k := 1) (n := 6) (by decide) (by decide) ?_
      exact hret 75 _ _ _ _ _ dX11_neverDeciding_75 (by rfl) h hM
    · have h := h.2 c27
      refine lv_aload_n (pc := 30) hx hb dX11_neverDeciding_30 rfl (lv_at hl 0 rfl) ?_
      refine g_get (pc := 31) (v := .ref (g_ad G 0)) C hM (by decide) ce_60 fl_RX11_12 rfl dX11_neverDeciding_31 ?_
      refine g_get (pc := 34) (v := .ref (g_ad G 1)) C hM (by decide) ce_0 fl_RX11_104 rfl dX11_neverDeciding_34 ?_
      refine lv_iload_n (pc := 37) hx hb dX11_neverDeciding_37 rfl (lv_at hl 3 rfl) ?_
      refine lv_iconst (pc := 38) (v := 0) hx hb dX11_neverDeciding_38 (by decide) ?_
      refine g_cVi (pc := 39) C hM hl.1 yv_X6_cell q3_42 (by decide) ce_1 rfl (w_X6_cell l G x 1 v3 0 σ _ h) rfl rfl ⟨⟨by decide, by decide⟩, by decide, by decide⟩ (Nat.le_of_ble_eq_true rfl) dX11_neverDeciding_39 (fun r39 s39 H locs h hM => ?_)
      refine lv_iload_n (pc := 42) hx hb dX11_neverDeciding_42 rfl (lv_at hl 1 rfl) ?_
      refine lv_icmp_ne (pc := 43) (tgt := 68) hx hb dX11_neverDeciding_43 (by decide) (fun c43 => ?_) (fun c43 => ?_)
      · have h := h.2 c43
        refine lv_iinc (pc := 68) (v := (v3 + 1)) (lv' := [(3, .int (v3 + 1)), (0, .ref (g_ad G 60)), (1, .int a1), (2, .int v2)]) hx hb dX11_neverDeciding_68 hl (k := 3) rfl (by rfl) (by decide) rfl (fun ls hl => ?_)
        refine lv_goto (pc := 71) (tgt := 16) hx hb dX11_neverDeciding_71 (by decide) ?_
        refine W.widen (k := 1) (n := 6) (by decide) (by decide) ?_
        exact h _ _ _ hM (lv_sub hl [1, 2, 3, 0] rfl)
      · have h := h.1 c43
        refine lv_aload_n (pc := 46) hx hb dX11_neverDeciding_46 rfl (lv_at hl 0 rfl) ?_
        refine g_get (pc := 47) (v := .ref (g_ad G 70)) C hM (by decide) ce_60 fl_RX11_40 rfl dX11_neverDeciding_47 ?_
        refine lv_aload_n (pc := 50) hx hb dX11_neverDeciding_50 rfl (lv_at hl 0 rfl) ?_
        refine g_get (pc := 51) (v := .ref (g_ad G 65)) C hM (by decide) ce_60 fl_RX11_31 rfl dX11_neverDeciding_51 ?_
        refine g_get (pc := 54) (v := .ref (g_ad G 66)) C hM (by decide) ce_65 fl_RX11_202 rfl dX11_neverDeciding_54 ?_
        refine lv_iload_n (pc := 57) hx hb dX11_neverDeciding_57 rfl (lv_at hl 3 rfl) ?_
        obtain ⟨hc, h⟩ := h
        refine g_ialdK (pc := 58) C hM (by decide) ce_66 hc rfl dX11_neverDeciding_58 ?_
        refine g_cVi (pc := 59) C hM hl.1 yv_X7_canDecide q4_236 (by decide) ce_70 rfl (w_X7_canDecide l G x (s39 66 (ix v3)) s39 _ h) rfl rfl ⟨⟨by decide, by decide⟩, by decide, by decide⟩ (Nat.le_of_ble_eq_true rfl) dX11_neverDeciding_59 (fun r59 s59 H locs h hM => ?_)
        refine lv_if_ne (pc := 62) (tgt := 68) hx hb dX11_neverDeciding_62 (by decide) (fun c62 => ?_) (fun c62 => ?_)
        · have h := h.2 c62
          refine lv_iinc (pc := 68) (v := (v3 + 1)) (lv' := [(3, .int (v3 + 1)), (0, .ref (g_ad G 60)), (1, .int a1), (2, .int v2)]) hx hb dX11_neverDeciding_68 hl (k := 3) rfl (by rfl) (by decide) rfl (fun ls hl => ?_)
          refine lv_goto (pc := 71) (tgt := 16) hx hb dX11_neverDeciding_71 (by decide) ?_
          refine W.widen (k := 1) (n := 6) (by decide) (by decide) ?_
          exact h _ _ _ hM (lv_sub hl [1, 2, 3, 0] rfl)
        · have h := h.1 c62
          refine lv_iinc (pc := 65) (v := (v2 + 1)) (lv' := [(2, .int (v2 + 1)), (0, .ref (g_ad G 60)), (1, .int a1), (3, .int v3)]) hx hb dX11_neverDeciding_65 hl (k := 2) rfl (by rfl) (by decide) rfl (fun ls hl => ?_)
          refine lv_iinc (pc := 68) (v := (v3 + 1)) (lv' := [(3, .int (v3 + 1)), (2, .int (v2 + 1)), (0, .ref (g_ad G 60)), (1, .int a1)]) hx hb dX11_neverDeciding_68 hl (k := 3) rfl (by rfl) (by decide) rfl (fun ls hl => ?_)
          refine lv_goto (pc := 71) (tgt := 16) hx hb dX11_neverDeciding_71 (by decide) ?_
          refine W.widen (k := 1) (n := 6) (by decide) (by decide) ?_
          exact h _ _ _ hM (lv_sub hl [2, 3, 1, 0] rfl))
  refine lv_iload_n (pc := 0) hx hb dX11_neverDeciding_0 rfl (lv_at hl 1 rfl) ?_
  refine lv_iconst (pc := 1) (v := 4) hx hb dX11_neverDeciding_1 (by decide) ?_
  refine g_cxSv (pc := 2) C hM hl.1 ys_X11_requireIndex q2_191 (w_X11_requireIndex l hl0 G x a1 4 σ _ PX h) rfl rfl ⟨⟨by decide, by decide⟩, by decide, by decide⟩ (Nat.le_of_ble_eq_true rfl) dX11_neverDeciding_2 hprop (fun s2 H locs h hM => ?_)
  refine lv_aload_n (pc := 5) hx hb dX11_neverDeciding_5 rfl (lv_at hl 0 rfl) ?_
  refine g_get (pc := 6) (v := .ref (g_ad G 65)) C hM (by decide) ce_60 fl_RX11_31 rfl dX11_neverDeciding_6 ?_
  refine g_cVv (pc := 9) C hM hl.1 yv_X5_refresh q4_36 (by decide) ce_65 rfl (w_X5_refresh l G x  s2 _ h) rfl rfl ⟨⟨by decide, by decide⟩, by decide, by decide⟩ (Nat.le_of_ble_eq_true rfl) dX11_neverDeciding_9 (fun s9 H locs h hM => ?_)
  refine lv_iconst (pc := 12) (v := 0) hx hb dX11_neverDeciding_12 (by decide) ?_
  refine lv_istore_n (pc := 13) (lv' := [(2, .int 0), (0, .ref (g_ad G 60)), (1, .int a1)]) hx hb dX11_neverDeciding_13 rfl hl (by decide) rfl (fun ls hl => ?_)
  refine lv_iconst (pc := 14) (v := 0) hx hb dX11_neverDeciding_14 (by decide) ?_
  refine lv_istore_n (pc := 15) (lv' := [(3, .int 0), (2, .int 0), (0, .ref (g_ad G 60)), (1, .int a1)]) hx hb dX11_neverDeciding_15 rfl hl (by decide) rfl (fun ls hl => ?_)
  refine W.widen (k := 1) (n := 6) (by decide) (by decide) ?_
  exact h _ _ _ hM (lv_sub hl [2, 3, 1, 0] rfl)
