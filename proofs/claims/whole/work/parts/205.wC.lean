abbrev rm_X3_takeBack : Room := { frames := 3, cells := 0, slots := 0, locals := 82 }
theorem dX3_takeBack_0 : decode cX3_takeBack 0 = .ok (.aload_n 0, 1) := by decide +kernel
theorem dX3_takeBack_1 : decode cX3_takeBack 1 = .ok (.getfield 18, 3) := by decide +kernel
theorem dX3_takeBack_4 : decode cX3_takeBack 4 = .ok (.ifCond .le 26, 3) := by decide +kernel
theorem dX3_takeBack_7 : decode cX3_takeBack 7 = .ok (.aload_n 0, 1) := by decide +kernel
theorem dX3_takeBack_8 : decode cX3_takeBack 8 = .ok (.dup, 1) := by decide +kernel
theorem dX3_takeBack_9 : decode cX3_takeBack 9 = .ok (.getfield 18, 3) := by decide +kernel
theorem dX3_takeBack_12 : decode cX3_takeBack 12 = .ok (.iconst 1, 1) := by decide +kernel
theorem dX3_takeBack_13 : decode cX3_takeBack 13 = .ok (.isub, 1) := by decide +kernel
theorem dX3_takeBack_14 : decode cX3_takeBack 14 = .ok (.putfield 18, 3) := by decide +kernel
theorem dX3_takeBack_17 : decode cX3_takeBack 17 = .ok (.aload_n 1, 1) := by decide +kernel
theorem dX3_takeBack_18 : decode cX3_takeBack 18 = .ok (.aload_n 0, 1) := by decide +kernel
theorem dX3_takeBack_19 : decode cX3_takeBack 19 = .ok (.getfield 11, 3) := by decide +kernel
theorem dX3_takeBack_22 : decode cX3_takeBack 22 = .ok (.aload_n 0, 1) := by decide +kernel
theorem dX3_takeBack_23 : decode cX3_takeBack 23 = .ok (.getfield 18, 3) := by decide +kernel
theorem dX3_takeBack_26 : decode cX3_takeBack 26 = .ok (.aaload, 1) := by decide +kernel
theorem dX3_takeBack_27 : decode cX3_takeBack 27 = .ok (.invokevirtual 25, 3) := by decide +kernel
theorem dX3_takeBack_30 : decode cX3_takeBack 30 = .ok (.return_, 1) := by decide +kernel
set_option maxHeartbeats 4000000 in
set_option maxRecDepth 100000 in
theorem w_X3_takeBack (l : Launch) (G : GP) (x : XP) (o1 : Nat) (σ : Sto) (P : Sto → Prop) (h : D_X3_takeBack o1 σ P) : g_Metv l yX3_takeBack cX3_takeBack 2 rm_X3_takeBack G x [.ref (g_ad G 63), .ref (g_ad G o1)] σ P := by
  unfold D_X3_takeBack at h
  obtain ⟨ho1, h⟩ := h
  refine g_ofWv (by decide +kernel) (Nat.le_of_ble_eq_true rfl) ?_
  intro p e s m args below meth c Q ls C hM hl hret
  have hx := C.1
  have hb := C.2.1
  have hl : lv_has ls 2 [(0, .ref (g_ad G 63)), (1, .ref (g_ad G o1))] := hl
  refine lv_aload_n (pc := 0) hx hb dX3_takeBack_0 rfl (lv_at hl 0 rfl) ?_
  refine g_get (pc := 1) (v := .int (σ 63 1)) C hM (by decide) ce_63 fl_RX3_18 rfl dX3_takeBack_1 ?_
  refine lv_if_le (pc := 4) (tgt := 30) hx hb dX3_takeBack_4 (by decide) (fun c4 => ?_) (fun c4 => ?_)
  · have h := h.1 c4
    exact hret 30 _ _ _ _ dX3_takeBack_30 h hM
  · have h := h.2 c4
    refine lv_aload_n (pc := 7) hx hb dX3_takeBack_7 rfl (lv_at hl 0 rfl) ?_
    refine lv_dup (pc := 8) hx hb dX3_takeBack_8 rfl ?_
    refine g_get (pc := 9) (v := .int (σ 63 1)) C hM (by decide) ce_63 fl_RX3_18 rfl dX3_takeBack_9 ?_
    refine lv_iconst (pc := 12) (v := 1) hx hb dX3_takeBack_12 (by decide) ?_
    refine lv_isub (pc := 13) hx hb dX3_takeBack_13 ?_
    refine g_putE (pc := 14) C hM (by decide) ce_63 fp_RX3_18 rfl rfl (Nat.le_of_ble_eq_true rfl) rfl dX3_takeBack_14 (fun s14 es14 H locs hM => ?_)
    have h := h s14 es14
    refine lv_aload_n (pc := 17) hx hb dX3_takeBack_17 rfl (lv_at hl 1 rfl) ?_
    refine lv_aload_n (pc := 18) hx hb dX3_takeBack_18 rfl (lv_at hl 0 rfl) ?_
    refine g_get (pc := 19) (v := .ref (g_ad G 64)) C hM (by decide) ce_63 fl_RX3_11 rfl dX3_takeBack_19 ?_
    refine lv_aload_n (pc := 22) hx hb dX3_takeBack_22 rfl (lv_at hl 0 rfl) ?_
    refine g_get (pc := 23) (v := .int (s14 63 1)) C hM (by decide) ce_63 fl_RX3_18 rfl dX3_takeBack_23 ?_
    obtain ⟨hc, h⟩ := h
    refine g_aaldE (pc := 26) C hM hc rfl dX3_takeBack_26 (fun o26_ eo26_ => ?_)
    obtain ⟨ho26_, h⟩ := h o26_ eo26_
    refine g_cVv (pc := 27) C hM hl.1 yv_X8_copyFrom q3_22 (st_lt ho1) (ce_st ho1) rfl (w_X8_copyFrom l G x o1 o26_ s14 _ h) rfl rfl ⟨⟨by decide, by decide⟩, by decide, by decide⟩ (Nat.le_of_ble_eq_true rfl) dX3_takeBack_27 (fun s27 H locs h hM => ?_)
    exact hret 30 _ _ _ _ dX3_takeBack_30 h hM
