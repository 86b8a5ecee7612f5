abbrev rm_X12_wayBecomes : Room := { frames := 1, cells := 0, slots := 0, locals := 21 }
theorem dX12_wayBecomes_0 : decode cX12_wayBecomes 0 = .ok (.aload_n 0, 1) := by decide +kernel
theorem dX12_wayBecomes_1 : decode cX12_wayBecomes 1 = .ok (.invokevirtual 90, 3) := by decide +kernel
theorem dX12_wayBecomes_4 : decode cX12_wayBecomes 4 = .ok (.aload_n 0, 1) := by decide +kernel
theorem dX12_wayBecomes_5 : decode cX12_wayBecomes 5 = .ok (.getfield 7, 3) := by decide +kernel
theorem dX12_wayBecomes_8 : decode cX12_wayBecomes 8 = .ok (.iload_n 1, 1) := by decide +kernel
theorem dX12_wayBecomes_9 : decode cX12_wayBecomes 9 = .ok (.iaload, 1) := by decide +kernel
theorem dX12_wayBecomes_10 : decode cX12_wayBecomes 10 = .ok (.istore_n 3, 1) := by decide +kernel
theorem dX12_wayBecomes_11 : decode cX12_wayBecomes 11 = .ok (.aload_n 0, 1) := by decide +kernel
theorem dX12_wayBecomes_12 : decode cX12_wayBecomes 12 = .ok (.getfield 7, 3) := by decide +kernel
theorem dX12_wayBecomes_15 : decode cX12_wayBecomes 15 = .ok (.iload_n 1, 1) := by decide +kernel
theorem dX12_wayBecomes_16 : decode cX12_wayBecomes 16 = .ok (.iload_n 2, 1) := by decide +kernel
theorem dX12_wayBecomes_17 : decode cX12_wayBecomes 17 = .ok (.iastore, 1) := by decide +kernel
theorem dX12_wayBecomes_18 : decode cX12_wayBecomes 18 = .ok (.iload_n 3, 1) := by decide +kernel
theorem dX12_wayBecomes_19 : decode cX12_wayBecomes 19 = .ok (.ireturn, 1) := by decide +kernel
set_option maxHeartbeats 4000000 in
set_option maxRecDepth 100000 in
theorem w_X12_wayBecomes (l : Launch) (G : GP) (x : XP) (a1 : Int32) (a2 : Int32) (σ : Sto) (P : Int32 → Sto → Prop) (h : D_X12_wayBecomes a1 a2 σ P) : g_Meti l yX12_wayBecomes cX12_wayBecomes 4 (some .int) rm_X12_wayBecomes G x [.ref (g_ad G 87), .int a1, .int a2] σ P := by
  unfold D_X12_wayBecomes at h
  refine g_ofWi (by decide +kernel) (Nat.le_of_ble_eq_true rfl) ?_
  intro p e s m args below meth c Q ls C hM hl hret
  have hx := C.1
  have hb := C.2.1
  have hl : lv_has ls 4 [(0, .ref (g_ad G 87)), (1, .int a1), (2, .int a2)] := hl
  refine lv_aload_n (pc := 0) hx hb dX12_wayBecomes_0 rfl (lv_at hl 0 rfl) ?_
  refine g_cVv (pc := 1) C hM hl.1 yv_X12_changes q6_111 (by decide) ce_87 rfl (w_X12_changes l G x  σ _ h) rfl rfl ⟨⟨by decide, by decide⟩, by decide, by decide⟩ (Nat.le_of_ble_eq_true rfl) dX12_wayBecomes_1 (fun s1 H locs h hM => ?_)
  refine lv_aload_n (pc := 4) hx hb dX12_wayBecomes_4 rfl (lv_at hl 0 rfl) ?_
  refine g_get (pc := 5) (v := .ref (g_ad G 88)) C hM (by decide) ce_87 fl_RX12_7 rfl dX12_wayBecomes_5 ?_
  refine lv_iload_n (pc := 8) hx hb dX12_wayBecomes_8 rfl (lv_at hl 1 rfl) ?_
  obtain ⟨hc, h⟩ := h
  refine g_ialdK (pc := 9) C hM (by decide) ce_88 hc rfl dX12_wayBecomes_9 ?_
  refine lv_istore_n (pc := 10) (lv' := [(3, .int (s1 88 (ix a1))), (0, .ref (g_ad G 87)), (1, .int a1), (2, .int a2)]) hx hb dX12_wayBecomes_10 rfl hl (by decide) rfl (fun ls hl => ?_)
  refine lv_aload_n (pc := 11) hx hb dX12_wayBecomes_11 rfl (lv_at hl 1 rfl) ?_
  refine g_get (pc := 12) (v := .ref (g_ad G 88)) C hM (by decide) ce_87 fl_RX12_7 rfl dX12_wayBecomes_12 ?_
  refine lv_iload_n (pc := 15) hx hb dX12_wayBecomes_15 rfl (lv_at hl 2 rfl) ?_
  refine lv_iload_n (pc := 16) hx hb dX12_wayBecomes_16 rfl (lv_at hl 3 rfl) ?_
  obtain ⟨hc, h⟩ := h
  refine g_iastE (pc := 17) C hM (by decide) ce_88 hc rfl dX12_wayBecomes_17 (fun s17 es17 H locs hM => ?_)
  have h := h s17 es17
  refine lv_iload_n (pc := 18) hx hb dX12_wayBecomes_18 rfl (lv_at hl 0 rfl) ?_
  exact hret 19 _ _ _ _ _ dX12_wayBecomes_19 (by rfl) h hM
abbrev rm_X12_setWay : Room := { frames := 2, cells := 0, slots := 0, locals := 44 }
theorem dX12_setWay_0 : decode cX12_setWay 0 = .ok (.aload_n 0, 1) := by decide +kernel
theorem dX12_setWay_1 : decode cX12_setWay 1 = .ok (.iload_n 1, 1) := by decide +kernel
theorem dX12_setWay_2 : decode cX12_setWay 2 = .ok (.invokestatic 86, 3) := by decide +kernel
theorem dX12_setWay_5 : decode cX12_setWay 5 = .ok (.ifCond .eq 20, 3) := by decide +kernel
theorem dX12_setWay_8 : decode cX12_setWay 8 = .ok (.iload_n 2, 1) := by decide +kernel
theorem dX12_setWay_9 : decode cX12_setWay 9 = .ok (.iconst 0, 1) := by decide +kernel
theorem dX12_setWay_10 : decode cX12_setWay 10 = .ok (.iconst 3, 1) := by decide +kernel
theorem dX12_setWay_11 : decode cX12_setWay 11 = .ok (.invokestatic 71, 3) := by decide +kernel
theorem dX12_setWay_14 : decode cX12_setWay 14 = .ok (.ifCond .eq 7, 3) := by decide +kernel
theorem dX12_setWay_17 : decode cX12_setWay 17 = .ok (.iconst 0, 1) := by decide +kernel
theorem dX12_setWay_18 : decode cX12_setWay 18 = .ok (.goto 8, 3) := by decide +kernel
theorem dX12_setWay_21 : decode cX12_setWay 21 = .ok (.iconst 2, 1) := by decide +kernel
theorem dX12_setWay_22 : decode cX12_setWay 22 = .ok (.goto 4, 3) := by decide +kernel
theorem dX12_setWay_25 : decode cX12_setWay 25 = .ok (.iconst 1, 1) := by decide +kernel
theorem dX12_setWay_26 : decode cX12_setWay 26 = .ok (.putfield 68, 3) := by decide +kernel
theorem dX12_setWay_29 : decode cX12_setWay 29 = .ok (.aload_n 0, 1) := by decide +kernel
theorem dX12_setWay_30 : decode cX12_setWay 30 = .ok (.getfield 68, 3) := by decide +kernel
theorem dX12_setWay_33 : decode cX12_setWay 33 = .ok (.ifCond .le 7, 3) := by decide +kernel
theorem dX12_setWay_36 : decode cX12_setWay 36 = .ok (.iconst 0, 1) := by decide +kernel
theorem dX12_setWay_37 : decode cX12_setWay 37 = .ok (.goto 11, 3) := by decide +kernel
theorem dX12_setWay_40 : decode cX12_setWay 40 = .ok (.aload_n 0, 1) := by decide +kernel
theorem dX12_setWay_41 : decode cX12_setWay 41 = .ok (.iconst 1, 1) := by decide +kernel
theorem dX12_setWay_42 : decode cX12_setWay 42 = .ok (.iload_n 1, 1) := by decide +kernel
theorem dX12_setWay_43 : decode cX12_setWay 43 = .ok (.iadd, 1) := by decide +kernel
theorem dX12_setWay_44 : decode cX12_setWay 44 = .ok (.iload_n 2, 1) := by decide +kernel
theorem dX12_setWay_45 : decode cX12_setWay 45 = .ok (.invokevirtual 116, 3) := by decide +kernel
theorem dX12_setWay_48 : decode cX12_setWay 48 = .ok (.ireturn, 1) := by decide +kernel
set_option maxHeartbeats 4000000 in
set_option maxRecDepth 100000 in
theorem w_X12_setWay (l : Launch) (G : GP) (x : XP) (a1 : Int32) (a2 : Int32) (σ : Sto) (P : Int32 → Sto → Prop) (h : D_X12_setWay a1 a2 σ P) : g_Meti l yX12_setWay cX12_setWay 3 (some .int) rm_X12_setWay G x [.ref (g_ad G 87), .int a1, .int a2] σ P := by
  unfold D_X12_setWay at h
  refine g_ofWi (by decide +kernel) (Nat.le_of_ble_eq_true rfl) ?_
  intro p e s m args below meth c Q ls C hM hl hret
  have hx := C.1
  have hb := C.2.1
  have hl : lv_has ls 3 [(0, .ref (g_ad G 87)), (1, .int a1), (2, .int a2)] := hl
  refine lv_aload_n (pc := 0) hx hb dX12_setWay_0 rfl (lv_at hl 0 rfl) ?_
  refine lv_iload_n (pc := 1) hx hb dX12_setWay_1 rfl (lv_at hl 1 rfl) ?_
  refine g_cSi (pc := 2) C hM hl.1 ys_X12_isPolicy q6_105 (w_X12_isPolicy l G x a1 σ _ h) rfl rfl ⟨⟨by decide, by decide⟩, by decide, by decide⟩ (Nat.le_of_ble_eq_true rfl) dX12_setWay_2 (fun r2 s2 H locs h hM => ?_)
  refine lv_if_eq (pc := 5) (tgt := 25) hx hb dX12_setWay_5 (by decide) (fun c5 => ?_) (fun c5 => ?_)
  · have h := h.1 c5
    refine lv_iconst (pc := 25) (v := 1) hx hb dX12_setWay_25 (by decide) ?_
    refine g_putE (pc := 26) C hM (by decide) ce_87 fp_RX12_68 rfl rfl (Nat.le_of_ble_eq_true rfl) rfl dX12_setWay_26 (fun s26 es26 H locs hM => ?_)
    have h := h s26 es26
    refine lv_aload_n (pc := 29) hx hb dX12_setWay_29 rfl (lv_at hl 0 rfl) ?_
    refine g_get (pc := 30) (v := .int (s26 87 8)) C hM (by decide) ce_87 fl_RX12_68 rfl dX12_setWay_30 ?_
    refine lv_if_le (pc := 33) (tgt := 40) hx hb dX12_setWay_33 (by decide) (fun c33 => ?_) (fun c33 => ?_)
    · have h := h.1 c33
      refine lv_aload_n (pc := 40) hx hb dX12_setWay_40 rfl (lv_at hl 0 rfl) ?_
      refine lv_iconst (pc := 41) (v := 1) hx hb dX12_setWay_41 (by decide) ?_
      refine lv_iload_n (pc := 42) hx hb dX12_setWay_42 rfl (lv_at hl 1 rfl) ?_
      refine lv_iadd (pc := 43) hx hb dX12_setWay_43 ?_
      refine lv_iload_n (pc := 44) hx hb dX12_setWay_44 rfl (lv_at hl 2 rfl) ?_
      refine g_cVi (pc := 45) C hM hl.1 yv_X12_wayBecomes q6_155 (by decide) ce_87 rfl (w_X12_wayBecomes l G x (1 + a1) a2 s26 _ h) rfl rfl ⟨⟨by decide, by decide⟩, by decide, by decide⟩ (Nat.le_of_ble_eq_true rfl) dX12_setWay_45 (fun r45 s45 H locs h hM => ?_)
      exact hret 48 _ _ _ _ _ dX12_setWay_48 (by rfl) h hM
    · have h := h.2 c33
      refine lv_iconst (pc := 36) (v := 0) hx hb dX12_setWay_36 (by decide) ?_
      refine lv_goto (pc := 37) (tgt := 48) hx hb dX12_setWay_37 (by decide) ?_
      exact hret 48 _ _ _ _ _ dX12_setWay_48 (by rfl) h hM
  · have h := h.2 c5
    refine lv_iload_n (pc := 8) hx hb dX12_setWay_8 rfl (lv_at hl 2 rfl) ?_
    refine lv_iconst (pc := 9) (v := 0) hx hb dX12_setWay_9 (by decide) ?_
    refine lv_iconst (pc := 10) (v := 3) hx hb dX12_setWay_10 (by decide) ?_
    refine g_cSi (pc := 11) C hM hl.1 ys_X12_in q6_108 (w_X12_in l G x a2 0 3 s2 _ h) rfl rfl ⟨⟨by decide, by decide⟩, by decide, by decide⟩ (Nat.le_of_ble_eq_true rfl) dX12_setWay_11 (fun r11 s11 H locs h hM => ?_)
    refine lv_if_eq (pc := 14) (tgt := 21) hx hb dX12_setWay_14 (by decide) (fun c14 => ?_) (fun c14 => ?_)
    · have h := h.1 c14
      refine lv_iconst (pc := 21) (v := 2) hx hb dX12_setWay_21 (by decide) ?_
      refine lv_goto (pc := 22) (tgt := 26) hx hb dX12_setWay_22 (by decide) ?_
      refine g_putE (pc := 26) C hM (by decide) ce_87 fp_RX12_68 rfl rfl (Nat.le_of_ble_eq_true rfl) rfl dX12_setWay_26 (fun s26 es26 H locs hM => ?_)
      have h := h s26 es26
      refine lv_aload_n (pc := 29) hx hb dX12_setWay_29 rfl (lv_at hl 0 rfl) ?_
      refine g_get (pc := 30) (v := .int (s26 87 8)) C hM (by decide) ce_87 fl_RX12_68 rfl dX12_setWay_30 ?_
      refine lv_if_le (pc := 33) (tgt := 40) hx hb dX12_setWay_33 (by decide) (fun c33 => ?_) (fun c33 => ?_)
      · have h := h.1 c33
        refine lv_aload_n (pc := 40) hx hb dX12_setWay_40 rfl (lv_at hl 0 rfl) ?_
        refine lv_iconst (pc := 41) (v := 1) hx hb dX12_setWay_41 (by decide) ?_
        refine lv_iload_n (pc := 42) hx hb dX12_setWay_42 rfl (lv_at hl 1 rfl) ?_
        refine lv_iadd (pc := 43) hx hb dX12_setWay_43 ?_
        refine lv_iload_n (pc := 44) hx hb dX12_setWay_44 rfl (lv_at hl 2 rfl) ?_
        refine g_cVi (pc := 45) C hM hl.1 yv_X12_wayBecomes q6_155 (by decide) ce_87 rfl (w_X12_wayBecomes l G x (1 + a1) a2 s26 _ h) rfl rfl ⟨⟨by decide, by decide⟩, by decide, by decide⟩ (Nat.le_of_ble_eq_true rfl) dX12_setWay_45 (fun r45 s45 H locs h hM => ?_)
        exact hret 48 _ _ _ _ _ dX12_setWay_48 (by rfl) h hM
      · have h := h.2 c33
        refine lv_iconst (pc := 36) (v := 0) hx hb dX12_setWay_36 (by decide) ?_
        refine lv_goto (pc := 37) (tgt := 48) hx hb dX12_setWay_37 (by decide) ?_
        exact hret 48 _ _ _ _ _ dX12_setWay_48 (by rfl) h hM
    · have h := h.2 c14
      refine lv_iconst (pc := 17) (v := 0) hx hb dX12_setWay_17 (by decide) ?_
      refine lv_goto (pc := 18) (tgt := 26) hx hb dX12_setWay_18 (by decide) ?_
      refine g_putE (pc := 26) C hM (by decide) ce_87 fp_RX12_68 rfl rfl (Nat.le_of_ble_eq_true rfl) rfl dX12_setWay_26 (fun s26 es26 H locs hM => ?_)
      have h := h s26 es26
      refine lv_aload_n (pc := 29) hx hb dX12_setWay_29 rfl (lv_at hl 0 rfl) ?_
      refine g_get (pc := 30) (v := .int (s26 87 8)) C hM (by decide) ce_87 fl_RX12_68 rfl dX12_setWay_30 ?_
      refine lv_if_le (pc := 33) (tgt := 40) hx hb dX12_setWay_33 (by decide) (fun c33 => ?_) (fun c33 => ?_)
      · have h := h.1 c33
        refine lv_aload_n (pc := 40) hx hb dX12_setWay_40 rfl (lv_at hl 0 rfl) ?_
        refine lv_iconst (pc := 41) (v := 1) hx hb dX12_setWay_41 (by decide) ?_
        refine lv_iload_n (pc := 42) hx hb dX12_setWay_42 rfl (lv_at hl 1 rfl) ?_
        refine lv_iadd (pc := 43) hx hb dX12_setWay_43 ?_
        refine lv_iload_n (pc := 44) hx hb dX12_setWay_44 rfl (lv_at hl 2 rfl) ?_
        refine g_cVi (pc := 45) C hM hl.1 yv_X12_wayBecomes q6_155 (by decide) ce_87 rfl (w_X12_wayBecomes l G x (1 + a1) a2 s26 _ h) rfl rfl ⟨⟨by decide, by decide⟩, by decide, by decide⟩ (Nat.le_of_ble_eq_true rfl) dX12_setWay_45 (fun r45 s45 H locs h hM => ?_)
        exact hret 48 _ _ _ _ _ dX12_setWay_48 (by rfl) h hM
      · have h := h.2 c33
        refine lv_iconst (pc := 36) (v := 0) hx hb dX12_setWay_36 (by decide) ?_
        refine lv_goto (pc := 37) (tgt := 48) hx hb dX12_setWay_37 (by decide) ?_
        exact hret 48 _ _ _ _ _ dX12_setWay_48 (by rfl) h hM
abbrev rm_X12_setTopWay : Room := { frames := 2, cells := 0, slots := 0, locals := 44 }
theorem dX12_setTopWay_0 : decode cX12_setTopWay 0 = .ok (.aload_n 0, 1) := by decide +kernel
theorem dX12_setTopWay_1 : decode cX12_setTopWay 1 = .ok (.iload_n 1, 1) := by decide +kernel
theorem dX12_setTopWay_2 : decode cX12_setTopWay 2 = .ok (.iconst 0, 1) := by decide +kernel
theorem dX12_setTopWay_3 : decode cX12_setTopWay 3 = .ok (.iconst 3, 1) := by decide +kernel
theorem dX12_setTopWay_4 : decode cX12_setTopWay 4 = .ok (.invokestatic 71, 3) := by decide +kernel
theorem dX12_setTopWay_7 : decode cX12_setTopWay 7 = .ok (.ifCond .eq 7, 3) := by decide +kernel
theorem dX12_setTopWay_10 : decode cX12_setTopWay 10 = .ok (.iconst 0, 1) := by decide +kernel
theorem dX12_setTopWay_11 : decode cX12_setTopWay 11 = .ok (.goto 4, 3) := by decide +kernel
theorem dX12_setTopWay_14 : decode cX12_setTopWay 14 = .ok (.iconst 1, 1) := by decide +kernel
theorem dX12_setTopWay_15 : decode cX12_setTopWay 15 = .ok (.putfield 68, 3) := by decide +kernel
theorem dX12_setTopWay_18 : decode cX12_setTopWay 18 = .ok (.aload_n 0, 1) := by decide +kernel
theorem dX12_setTopWay_19 : decode cX12_setTopWay 19 = .ok (.getfield 68, 3) := by decide +kernel
theorem dX12_setTopWay_22 : decode cX12_setTopWay 22 = .ok (.ifCond .le 7, 3) := by decide +kernel
theorem dX12_setTopWay_25 : decode cX12_setTopWay 25 = .ok (.iconst 0, 1) := by decide +kernel
theorem dX12_setTopWay_26 : decode cX12_setTopWay 26 = .ok (.goto 9, 3) := by decide +kernel
theorem dX12_setTopWay_29 : decode cX12_setTopWay 29 = .ok (.aload_n 0, 1) := by decide +kernel
theorem dX12_setTopWay_30 : decode cX12_setTopWay 30 = .ok (.iconst 5, 1) := by decide +kernel
theorem dX12_setTopWay_31 : decode cX12_setTopWay 31 = .ok (.iload_n 1, 1) := by decide +kernel
theorem dX12_setTopWay_32 : decode cX12_setTopWay 32 = .ok (.invokevirtual 116, 3) := by decide +kernel
theorem dX12_setTopWay_35 : decode cX12_setTopWay 35 = .ok (.ireturn, 1) := by decide +kernel
set_option maxHeartbeats 4000000 in
set_option maxRecDepth 100000 in
theorem w_X12_setTopWay (l : Launch) (G : GP) (x : XP) (a1 : Int32) (σ : Sto) (P : Int32 → Sto → Prop) (h : D_X12_setTopWay a1 σ P) : g_Meti l yX12_setTopWay cX12_setTopWay 2 (some .int) rm_X12_setTopWay G x [.ref (g_ad G 87), .int a1] σ P := by
  unfold D_X12_setTopWay at h
  refine g_ofWi (by decide +kernel) (Nat.le_of_ble_eq_true rfl) ?_
  intro p e s m args below meth c Q ls C hM hl hret
  have hx := C.1
  have hb := C.2.1
  have hl : lv_has ls 2 [(0, .ref (g_ad G 87)), (1, .int a1)] := hl
  refine lv_aload_n (pc := 0) hx hb dX12_setTopWay_0 rfl (lv_at hl 0 rfl) ?_
  refine lv_iload_n (pc := 1) hx hb dX12_setTopWay_1 rfl (lv_at hl 1 rfl) ?_
  refine lv_iconst (pc := 2) (v := 0) hx hb dX12_setTopWay_2 (by decide) ?_
  refine lv_iconst (pc := 3) (v := 3) hx hb dX12_setTopWay_3 (by decide) ?_
  refine g_cSi (pc := 4) C hM hl.1 ys_X12_in q6_108 (w_X12_in l G x a1 0 3 σ _ h) rfl rfl ⟨⟨by decide, by decide⟩, by decide, by decide⟩ (Nat.le_of_ble_eq_true rfl) dX12_setTopWay_4 (fun r4 s4 H locs h hM => ?_)
  refine lv_if_eq (pc := 7) (tgt := 14) hx hb dX12_setTopWay_7 (by decide) (fun c7 => ?_) (fun c7 => ?_)
  · have h := h.1 c7
    refine lv_iconst (pc := 14) (v := 1) hx hb dX12_setTopWay_14 (by decide) ?_
    refine g_putE (pc := 15) C hM (by decide) ce_87 fp_RX12_68 rfl rfl (Nat.le_of_ble_eq_true rfl) rfl dX12_setTopWay_15 (fun s15 es15 H locs hM => ?_)
    have h := h s15 es15
    refine lv_aload_n (pc := 18) hx hb dX12_setTopWay_18 rfl (lv_at hl 0 rfl) ?_
    refine g_get (pc := 19) (v := .int (s15 87 8)) C hM (by decide) ce_87 fl_RX12_68 rfl dX12_setTopWay_19 ?_
    refine lv_if_le (pc := 22) (tgt := 29) hx hb dX12_setTopWay_22 (by decide) (fun c22 => ?_) (fun c22 => ?_)
    · have h := h.1 c22
      refine lv_aload_n (pc := 29) hx hb dX12_setTopWay_29 rfl (lv_at hl 0 rfl) ?_
      refine lv_iconst (pc := 30) (v := 5) hx hb dX12_setTopWay_30 (by decide) ?_
      refine lv_iload_n (pc := 31) hx hb dX12_setTopWay_31 rfl (lv_at hl 1 rfl) ?_
      refine g_cVi (pc := 32) C hM hl.1 yv_X12_wayBecomes q6_155 (by decide) ce_87 rfl (w_X12_wayBecomes l G x 5 a1 s15 _ h) rfl rfl ⟨⟨by decide, by decide⟩, by decide, by decide⟩ (Nat.le_of_ble_eq_true rfl) dX12_setTopWay_32 (fun r32 s32 H locs h hM => ?_)
      exact hret 35 _ _ _ _ _ dX12_setTopWay_35 (by rfl) h hM
    · have h := h.2 c22
      refine lv_iconst (pc := 25) (v := 0) hx hb dX12_setTopWay_25 (by decide) ?_
      refine lv_goto (pc := 26) (tgt := 35) hx hb dX12_setTopWay_26 (by decide) ?_
      exact hret 35 _ _ _ _ _ dX12_setTopWay_35 (by rfl) h hM
  · have h := h.2 c7
    refine lv_iconst (pc := 10) (v := 0) hx hb dX12_setTopWay_10 (by decide) ?_
    refine lv_goto (pc := 11) (tgt := 15) hx hb dX12_setTopWay_11 (by decide) ?_
    refine g_putE (pc := 15) C hM (by decide) ce_87 fp_RX12_68 rfl rfl (Nat.le_of_ble_eq_true rfl) rfl dX12_setTopWay_15 (fun s15 es15 H locs hM => ?_)
    have h := h s15 es15
    refine lv_aload_n (pc := 18) hx hb dX12_setTopWay_18 rfl (lv_at hl 0 rfl) ?_
    refine g_get (pc := 19) (v := .int (s15 87 8)) C hM (by decide) ce_87 fl_RX12_68 rfl dX12_setTopWay_19 ?_
    refine lv_if_le (pc := 22) (tgt := 29) hx hb dX12_setTopWay_22 (by decide) (fun c22 => ?_) (fun c22 => ?_)
    · have h := h.1 c22
      refine lv_aload_n (pc := 29) hx hb dX12_setTopWay_29 rfl (lv_at hl 0 rfl) ?_
      refine lv_iconst (pc := 30) (v := 5) hx hb dX12_setTopWay_30 (by decide) ?_
      refine lv_iload_n (pc := 31) hx hb dX12_setTopWay_31 rfl (lv_at hl 1 rfl) ?_
      refine g_cVi (pc := 32) C hM hl.1 yv_X12_wayBecomes q6_155 (by decide) ce_87 rfl (w_X12_wayBecomes l G x 5 a1 s15 _ h) rfl rfl ⟨⟨by decide, by decide⟩, by decide, by decide⟩ (Nat.le_of_ble_eq_true rfl) dX12_setTopWay_32 (fun r32 s32 H locs h hM => ?_)
      exact hret 35 _ _ _ _ _ dX12_setTopWay_35 (by rfl) h hM
    · have h := h.2 c22
      refine lv_iconst (pc := 25) (v := 0) hx hb dX12_setTopWay_25 (by decide) ?_
      refine lv_goto (pc := 26) (tgt := 35) hx hb dX12_setTopWay_26 (by decide) ?_
      exact hret 35 _ _ _ _ _ dX12_setTopWay_35 (by rfl) h hM
abbrev rm_X12_ruleCount : Room := { frames := 0, cells := 0, slots := 0, locals := 0 }
theorem dX12_ruleCount_0 : decode cX12_ruleCount 0 = .ok (.aload_n 0, 1) := by decide +kernel
theorem dX12_ruleCount_1 : decode cX12_ruleCount 1 = .ok (.iconst 0, 1) := by decide +kernel
theorem dX12_ruleCount_2 : decode cX12_ruleCount 2 = .ok (.putfield 68, 3) := by decide +kernel
theorem dX12_ruleCount_5 : decode cX12_ruleCount 5 = .ok (.aload_n 0, 1) := by decide +kernel
theorem dX12_ruleCount_6 : decode cX12_ruleCount 6 = .ok (.getfield 7, 3) := by decide +kernel
theorem dX12_ruleCount_9 : decode cX12_ruleCount 9 = .ok (.iconst 0, 1) := by decide +kernel
theorem dX12_ruleCount_10 : decode cX12_ruleCount 10 = .ok (.iaload, 1) := by decide +kernel
theorem dX12_ruleCount_11 : decode cX12_ruleCount 11 = .ok (.ireturn, 1) := by decide +kernel
set_option maxHeartbeats 4000000 in
set_option maxRecDepth 100000 in
theorem w_X12_ruleCount (l : Launch) (G : GP) (x : XP) (σ : Sto) (P : Int32 → Sto → Prop) (h : D_X12_ruleCount  σ P) : g_Meti l yX12_ruleCount cX12_ruleCount 1 (some .int) rm_X12_ruleCount G x [.ref (g_ad G 87)] σ P := by
  unfold D_X12_ruleCount at h
  refine g_ofWi (by decide +kernel) (Nat.le_of_ble_eq_true rfl) ?_
  intro p e s m args below meth c Q ls C hM hl hret
  have hx := C.1
  have hb := C.2.1
  have hl : lv_has ls 1 [(0, .ref (g_ad G 87))] := hl
  refine lv_aload_n (pc := 0) hx hb dX12_ruleCount_0 rfl (lv_at hl 0 rfl) ?_
  refine lv_iconst (pc := 1) (v := 0) hx hb dX12_ruleCount_1 (by decide) ?_
  refine g_putE (pc := 2) C hM (by decide) ce_87 fp_RX12_68 rfl rfl (Nat.le_of_ble_eq_true rfl) rfl dX12_ruleCount_2 (fun s2 es2 H locs hM => ?_)
  have h := h s2 es2
  refine lv_aload_n (pc := 5) hx hb dX12_ruleCount_5 rfl (lv_at hl 0 rfl) ?_
  refine g_get (pc := 6) (v := .ref (g_ad G 88)) C hM (by decide) ce_87 fl_RX12_7 rfl dX12_ruleCount_6 ?_
  refine lv_iconst (pc := 9) (v := 0) hx hb dX12_ruleCount_9 (by decide) ?_
  refine g_ialdK (pc := 10) (k := 0) C hM (by decide) ce_88 (vp_in_nI (n := 0) (by decide) (by decide)) rfl dX12_ruleCount_10 ?_
  exact hret 11 _ _ _ _ _ dX12_ruleCount_11 (by rfl) h hM
abbrev rm_X12_rule : Room := { frames := 2, cells := 0, slots := 0, locals := 43 }
theorem dX12_rule_0 : decode cX12_rule 0 = .ok (.aload_n 0, 1) := by decide +kernel
theorem dX12_rule_1 : decode cX12_rule 1 = .ok (.aload_n 0, 1) := by decide +kernel
theorem dX12_rule_2 : decode cX12_rule 2 = .ok (.iload_n 1, 1) := by decide +kernel
theorem dX12_rule_3 : decode cX12_rule 3 = .ok (.invokevirtual 105, 3) := by decide +kernel
theorem dX12_rule_6 : decode cX12_rule 6 = .ok (.ifCond .eq 20, 3) := by decide +kernel
theorem dX12_rule_9 : decode cX12_rule 9 = .ok (.iload_n 2, 1) := by decide +kernel
theorem dX12_rule_10 : decode cX12_rule 10 = .ok (.iconst 0, 1) := by decide +kernel
theorem dX12_rule_11 : decode cX12_rule 11 = .ok (.iconst 3, 1) := by decide +kernel
theorem dX12_rule_12 : decode cX12_rule 12 = .ok (.invokestatic 71, 3) := by decide +kernel
theorem dX12_rule_15 : decode cX12_rule 15 = .ok (.ifCond .eq 7, 3) := by decide +kernel
theorem dX12_rule_18 : decode cX12_rule 18 = .ok (.iconst 0, 1) := by decide +kernel
theorem dX12_rule_19 : decode cX12_rule 19 = .ok (.goto 8, 3) := by decide +kernel
theorem dX12_rule_22 : decode cX12_rule 22 = .ok (.iconst 2, 1) := by decide +kernel
theorem dX12_rule_23 : decode cX12_rule 23 = .ok (.goto 4, 3) := by decide +kernel
theorem dX12_rule_26 : decode cX12_rule 26 = .ok (.iconst 1, 1) := by decide +kernel
theorem dX12_rule_27 : decode cX12_rule 27 = .ok (.putfield 68, 3) := by decide +kernel
theorem dX12_rule_30 : decode cX12_rule 30 = .ok (.aload_n 0, 1) := by decide +kernel
theorem dX12_rule_31 : decode cX12_rule 31 = .ok (.getfield 68, 3) := by decide +kernel
theorem dX12_rule_34 : decode cX12_rule 34 = .ok (.ifCond .le 7, 3) := by decide +kernel
theorem dX12_rule_37 : decode cX12_rule 37 = .ok (.iconst 0, 1) := by decide +kernel
theorem dX12_rule_38 : decode cX12_rule 38 = .ok (.goto 9, 3) := by decide +kernel
theorem dX12_rule_41 : decode cX12_rule 41 = .ok (.aload_n 0, 1) := by decide +kernel
theorem dX12_rule_42 : decode cX12_rule 42 = .ok (.iload_n 1, 1) := by decide +kernel
theorem dX12_rule_43 : decode cX12_rule 43 = .ok (.iload_n 2, 1) := by decide +kernel
theorem dX12_rule_44 : decode cX12_rule 44 = .ok (.invokevirtual 97, 3) := by decide +kernel
theorem dX12_rule_47 : decode cX12_rule 47 = .ok (.ireturn, 1) := by decide +kernel
set_option maxHeartbeats 4000000 in
set_option maxRecDepth 100000 in
theorem w_X12_rule (l : Launch) (G : GP) (x : XP) (a1 : Int32) (a2 : Int32) (σ : Sto) (P : Int32 → Sto → Prop) (h : D_X12_rule a1 a2 σ P) : g_Meti l yX12_rule cX12_rule 3 (some .int) rm_X12_rule G x [.ref (g_ad G 87), .int a1, .int a2] σ P := by
  unfold D_X12_rule at h
  refine g_ofWi (by decide +kernel) (Nat.le_of_ble_eq_true rfl) ?_
  intro p e s m args below meth c Q ls C hM hl hret
  have hx := C.1
  have hb := C.2.1
  have hl : lv_has ls 3 [(0, .ref (g_ad G 87)), (1, .int a1), (2, .int a2)] := hl
  refine lv_aload_n (pc := 0) hx hb dX12_rule_0 rfl (lv_at hl 0 rfl) ?_
  refine lv_aload_n (pc := 1) hx hb dX12_rule_1 rfl (lv_at hl 0 rfl) ?_
  refine lv_iload_n (pc := 2) hx hb dX12_rule_2 rfl (lv_at hl 1 rfl) ?_
  refine g_cVi (pc := 3) C hM hl.1 yv_X12_isRule q6_127 (by decide) ce_87 rfl (w_X12_isRule l G x a1 σ _ h) rfl rfl ⟨⟨by decide, by decide⟩, by decide, by decide⟩ (Nat.le_of_ble_eq_true rfl) dX12_rule_3 (fun r3 s3 H locs h hM => ?_)
  refine lv_if_eq (pc := 6) (tgt := 26) hx hb dX12_rule_6 (by decide) (fun c6 => ?_) (fun c6 => ?_)
  · have h := h.1 c6
    refine lv_iconst (pc := 26) (v := 1) hx hb dX12_rule_26 (by decide) ?_
    refine g_putE (pc := 27) C hM (by decide) ce_87 fp_RX12_68 rfl rfl (Nat.le_of_ble_eq_true rfl) rfl dX12_rule_27 (fun s27 es27 H locs hM => ?_)
    have h := h s27 es27
    refine lv_aload_n (pc := 30) hx hb dX12_rule_30 rfl (lv_at hl 0 rfl) ?_
    refine g_get (pc := 31) (v := .int (s27 87 8)) C hM (by decide) ce_87 fl_RX12_68 rfl dX12_rule_31 ?_
    refine lv_if_le (pc := 34) (tgt := 41) hx hb dX12_rule_34 (by decide) (fun c34 => ?_) (fun c34 => ?_)
    · have h := h.1 c34
      refine lv_aload_n (pc := 41) hx hb dX12_rule_41 rfl (lv_at hl 0 rfl) ?_
      refine lv_iload_n (pc := 42) hx hb dX12_rule_42 rfl (lv_at hl 1 rfl) ?_
      refine lv_iload_n (pc := 43) hx hb dX12_rule_43 rfl (lv_at hl 2 rfl) ?_
      refine g_cVi (pc := 44) C hM hl.1 yv_X12_of q6_131 (by decide) ce_87 rfl (w_X12_of l G x a1 a2 s27 _ h) rfl rfl ⟨⟨by decide, by decide⟩, by decide, by decide⟩ (Nat.le_of_ble_eq_true rfl) dX12_rule_44 (fun r44 s44 H locs h hM => ?_)
      exact hret 47 _ _ _ _ _ dX12_rule_47 (by rfl) h hM
    · have h := h.2 c34
      refine lv_iconst (pc := 37) (v := 0) hx hb dX12_rule_37 (by decide) ?_
      refine lv_goto (pc := 38) (tgt := 47) hx hb dX12_rule_38 (by decide) ?_
      exact hret 47 _ _ _ _ _ dX12_rule_47 (by rfl) h hM
  · have h := h.2 c6
    refine lv_iload_n (pc := 9) hx hb dX12_rule_9 rfl (lv_at hl 2 rfl) ?_
    refine lv_iconst (pc := 10) (v := 0) hx hb dX12_rule_10 (by decide) ?_
    refine lv_iconst (pc := 11) (v := 3) hx hb dX12_rule_11 (by decide) ?_
    refine g_cSi (pc := 12) C hM hl.1 ys_X12_in q6_108 (w_X12_in l G x a2 0 3 s3 _ h) rfl rfl ⟨⟨by decide, by decide⟩, by decide, by decide⟩ (Nat.le_of_ble_eq_true rfl) dX12_rule_12 (fun r12 s12 H locs h hM => ?_)
    refine lv_if_eq (pc := 15) (tgt := 22) hx hb dX12_rule_15 (by decide) (fun c15 => ?_) (fun c15 => ?_)
    · have h := h.1 c15
      refine lv_iconst (pc := 22) (v := 2) hx hb dX12_rule_22 (by decide) ?_
      refine lv_goto (pc := 23) (tgt := 27) hx hb dX12_rule_23 (by decide) ?_
      refine g_putE (pc := 27) C hM (by decide) ce_87 fp_RX12_68 rfl rfl (Nat.le_of_ble_eq_true rfl) rfl dX12_rule_27 (fun s27 es27 H locs hM => ?_)
      have h := h s27 es27
      refine lv_aload_n (pc := 30) hx hb dX12_rule_30 rfl (lv_at hl 0 rfl) ?_
      refine g_get (pc := 31) (v := .int (s27 87 8)) C hM (by decide) ce_87 fl_RX12_68 rfl dX12_rule_31 ?_
      refine lv_if_le (pc := 34) (tgt := 41) hx hb dX12_rule_34 (by decide) (fun c34 => ?_) (fun c34 => ?_)
      · have h := h.1 c34
        refine lv_aload_n (pc := 41) hx hb dX12_rule_41 rfl (lv_at hl 0 rfl) ?_
        refine lv_iload_n (pc := 42) hx hb dX12_rule_42 rfl (lv_at hl 1 rfl) ?_
        refine lv_iload_n (pc := 43) hx hb dX12_rule_43 rfl (lv_at hl 2 rfl) ?_
        refine g_cVi (pc := 44) C hM hl.1 yv_X12_of q6_131 (by decide) ce_87 rfl (w_X12_of l G x a1 a2 s27 _ h) rfl rfl ⟨⟨by decide, by decide⟩, by decide, by decide⟩ (Nat.le_of_ble_eq_true rfl) dX12_rule_44 (fun r44 s44 H locs h hM => ?_)
        exact hret 47 _ _ _ _ _ dX12_rule_47 (by rfl) h hM
      · have h := h.2 c34
        refine lv_iconst (pc := 37) (v := 0) hx hb dX12_rule_37 (by decide) ?_
        refine lv_goto (pc := 38) (tgt := 47) hx hb dX12_rule_38 (by decide) ?_
        exact hret 47 _ _ _ _ _ dX12_rule_47 (by rfl) h hM
    · have h := h.2 c15
      refine lv_iconst (pc := 18) (v := 0) hx hb dX12_rule_18 (by decide) ?_
      refine lv_goto (pc := 19) (tgt := 27) hx hb dX12_rule_19 (by decide) ?_
      refine g_putE (pc := 27) C hM (by decide) ce_87 fp_RX12_68 rfl rfl (Nat.le_of_ble_eq_true rfl) rfl dX12_rule_27 (fun s27 es27 H locs hM => ?_)
      have h := h s27 es27
      refine lv_aload_n (pc := 30) hx hb dX12_rule_30 rfl (lv_at hl 0 rfl) ?_
      refine g_get (pc := 31) (v := .int (s27 87 8)) C hM (by decide) ce_87 fl_RX12_68 rfl dX12_rule_31 ?_
      refine lv_if_le (pc := 34) (tgt := 41) hx hb dX12_rule_34 (by decide) (fun c34 => ?_) (fun c34 => ?_)
      · have h := h.1 c34
        refine lv_aload_n (pc := 41) hx hb dX12_rule_41 rfl (lv_at hl 0 rfl) ?_
        refine lv_iload_n (pc := 42) hx hb dX12_rule_42 rfl (lv_at hl 1 rfl) ?_
        refine lv_iload_n (pc := 43) hx hb dX12_rule_43 rfl (lv_at hl 2 rfl) ?_
        refine g_cVi (pc := 44) C hM hl.1 yv_X12_of q6_131 (by decide) ce_87 rfl (w_X12_of l G x a1 a2 s27 _ h) rfl rfl ⟨⟨by decide, by decide⟩, by decide, by decide⟩ (Nat.le_of_ble_eq_true rfl) dX12_rule_44 (fun r44 s44 H locs h hM => ?_)
        exact hret 47 _ _ _ _ _ dX12_rule_47 (by rfl) h hM
      · have h := h.2 c34
        refine lv_iconst (pc := 37) (v := 0) hx hb dX12_rule_37 (by decide) ?_
        refine lv_goto (pc := 38) (tgt := 47) hx hb dX12_rule_38 (by decide) ?_
        exact hret 47 _ _ _ _ _ dX12_rule_47 (by rfl) h hM
abbrev rm_X12_condition : Room := { frames := 2, cells := 0, slots := 0, locals := 43 }
theorem dX12_condition_0 : decode cX12_condition 0 = .ok (.aload_n 0, 1) := by decide +kernel
theorem dX12_condition_1 : decode cX12_condition 1 = .ok (.aload_n 0, 1) := by decide +kernel
theorem dX12_condition_2 : decode cX12_condition 2 = .ok (.iload_n 1, 1) := by decide +kernel
theorem dX12_condition_3 : decode cX12_condition 3 = .ok (.invokevirtual 105, 3) := by decide +kernel
theorem dX12_condition_6 : decode cX12_condition 6 = .ok (.ifCond .eq 36, 3) := by decide +kernel
theorem dX12_condition_9 : decode cX12_condition 9 = .ok (.iload_n 2, 1) := by decide +kernel
theorem dX12_condition_10 : decode cX12_condition 10 = .ok (.iconst 0, 1) := by decide +kernel
theorem dX12_condition_11 : decode cX12_condition 11 = .ok (.aload_n 0, 1) := by decide +kernel
theorem dX12_condition_12 : decode cX12_condition 12 = .ok (.iload_n 1, 1) := by decide +kernel
theorem dX12_condition_13 : decode cX12_condition 13 = .ok (.iconst 3, 1) := by decide +kernel
theorem dX12_condition_14 : decode cX12_condition 14 = .ok (.invokevirtual 97, 3) := by decide +kernel
theorem dX12_condition_17 : decode cX12_condition 17 = .ok (.iconst 1, 1) := by decide +kernel
theorem dX12_condition_18 : decode cX12_condition 18 = .ok (.isub, 1) := by decide +kernel
theorem dX12_condition_19 : decode cX12_condition 19 = .ok (.invokestatic 71, 3) := by decide +kernel
theorem dX12_condition_22 : decode cX12_condition 22 = .ok (.ifCond .eq 20, 3) := by decide +kernel
theorem dX12_condition_25 : decode cX12_condition 25 = .ok (.iload_n 3, 1) := by decide +kernel
theorem dX12_condition_26 : decode cX12_condition 26 = .ok (.iconst 0, 1) := by decide +kernel
theorem dX12_condition_27 : decode cX12_condition 27 = .ok (.iconst 2, 1) := by decide +kernel
theorem dX12_condition_28 : decode cX12_condition 28 = .ok (.invokestatic 71, 3) := by decide +kernel
theorem dX12_condition_31 : decode cX12_condition 31 = .ok (.ifCond .eq 7, 3) := by decide +kernel
theorem dX12_condition_34 : decode cX12_condition 34 = .ok (.iconst 0, 1) := by decide +kernel
theorem dX12_condition_35 : decode cX12_condition 35 = .ok (.goto 8, 3) := by decide +kernel
theorem dX12_condition_38 : decode cX12_condition 38 = .ok (.iconst 2, 1) := by decide +kernel
theorem dX12_condition_39 : decode cX12_condition 39 = .ok (.goto 4, 3) := by decide +kernel
theorem dX12_condition_42 : decode cX12_condition 42 = .ok (.iconst 1, 1) := by decide +kernel
theorem dX12_condition_43 : decode cX12_condition 43 = .ok (.putfield 68, 3) := by decide +kernel
theorem dX12_condition_46 : decode cX12_condition 46 = .ok (.aload_n 0, 1) := by decide +kernel
theorem dX12_condition_47 : decode cX12_condition 47 = .ok (.getfield 68, 3) := by decide +kernel
theorem dX12_condition_50 : decode cX12_condition 50 = .ok (.ifCond .le 7, 3) := by decide +kernel
theorem dX12_condition_53 : decode cX12_condition 53 = .ok (.iconst 0, 1) := by decide +kernel
theorem dX12_condition_54 : decode cX12_condition 54 = .ok (.goto 10, 3) := by decide +kernel
theorem dX12_condition_57 : decode cX12_condition 57 = .ok (.aload_n 0, 1) := by decide +kernel
theorem dX12_condition_58 : decode cX12_condition 58 = .ok (.iload_n 1, 1) := by decide +kernel
theorem dX12_condition_59 : decode cX12_condition 59 = .ok (.iload_n 2, 1) := by decide +kernel
theorem dX12_condition_60 : decode cX12_condition 60 = .ok (.iload_n 3, 1) := by decide +kernel
theorem dX12_condition_61 : decode cX12_condition 61 = .ok (.invokevirtual 119, 3) := by decide +kernel
theorem dX12_condition_64 : decode cX12_condition 64 = .ok (.ireturn, 1) := by decide +kernel
set_option maxHeartbeats 4000000 in
set_option maxRecDepth 100000 in
theorem w_X12_condition (l : Launch) (G : GP) (x : XP) (a1 : Int32) (a2 : Int32) (a3 : Int32) (σ : Sto) (P : Int32 → Sto → Prop) (h : D_X12_condition a1 a2 a3 σ P) : g_Meti l yX12_condition cX12_condition 4 (some .int) rm_X12_condition G x [.ref (g_ad G 87), .int a1, .int a2, .int a3] σ P := by
  unfold D_X12_condition at h
  refine g_ofWi (by decide +kernel) (Nat.le_of_ble_eq_true rfl) ?_
  intro p e s m args below meth c Q ls C hM hl hret
  have hx := C.1
  have hb := C.2.1
  have hl : lv_has ls 4 [(0, .ref (g_ad G 87)), (1, .int a1), (2, .int a2), (3, .int a3)] := hl
  refine lv_aload_n (pc := 0) hx hb dX12_condition_0 rfl (lv_at hl 0 rfl) ?_
  refine lv_aload_n (pc := 1) hx hb dX12_condition_1 rfl (lv_at hl 0 rfl) ?_
  refine lv_iload_n (pc := 2) hx hb dX12_condition_2 rfl (lv_at hl 1 rfl) ?_
  refine g_cVi (pc := 3) C hM hl.1 yv_X12_isRule q6_127 (by decide) ce_87 rfl (w_X12_isRule l G x a1 σ _ h) rfl rfl ⟨⟨by decide, by decide⟩, by decide, by decide⟩ (Nat.le_of_ble_eq_true rfl) dX12_condition_3 (fun r3 s3 H locs h hM => ?_)
  refine lv_if_eq (pc := 6) (tgt := 42) hx hb dX12_condition_6 (by decide) (fun c6 => ?_) (fun c6 => ?_)
  · have h := h.1 c6
    refine lv_iconst (pc := 42) (v := 1) hx hb dX12_condition_42 (by decide) ?_
    refine g_putE (pc := 43) C hM (by decide) ce_87 fp_RX12_68 rfl rfl (Nat.le_of_ble_eq_true rfl) rfl dX12_condition_43 (fun s43 es43 H locs hM => ?_)
    have h := h s43 es43
    refine lv_aload_n (pc := 46) hx hb dX12_condition_46 rfl (lv_at hl 0 rfl) ?_
    refine g_get (pc := 47) (v := .int (s43 87 8)) C hM (by decide) ce_87 fl_RX12_68 rfl dX12_condition_47 ?_
    refine lv_if_le (pc := 50) (tgt := 57) hx hb dX12_condition_50 (by decide) (fun c50 => ?_) (fun c50 => ?_)
    · have h := h.1 c50
      refine lv_aload_n (pc := 57) hx hb dX12_condition_57 rfl (lv_at hl 0 rfl) ?_
      refine lv_iload_n (pc := 58) hx hb dX12_condition_58 rfl (lv_at hl 1 rfl) ?_
      refine lv_iload_n (pc := 59) hx hb dX12_condition_59 rfl (lv_at hl 2 rfl) ?_
      refine lv_iload_n (pc := 60) hx hb dX12_condition_60 rfl (lv_at hl 3 rfl) ?_
      refine g_cVi (pc := 61) C hM hl.1 yv_X12_part q6_175 (by decide) ce_87 rfl (w_X12_part l G x a1 a2 a3 s43 _ h) rfl rfl ⟨⟨by decide, by decide⟩, by decide, by decide⟩ (Nat.le_of_ble_eq_true rfl) dX12_condition_61 (fun r61 s61 H locs h hM => ?_)
      exact hret 64 _ _ _ _ _ dX12_condition_64 (by rfl) h hM
    · have h := h.2 c50
      refine lv_iconst (pc := 53) (v := 0) hx hb dX12_condition_53 (by decide) ?_
      refine lv_goto (pc := 54) (tgt := 64) hx hb dX12_condition_54 (by decide) ?_
      exact hret 64 _ _ _ _ _ dX12_condition_64 (by rfl) h hM
  · have h := h.2 c6
    refine lv_iload_n (pc := 9) hx hb dX12_condition_9 rfl (lv_at hl 2 rfl) ?_
    refine lv_iconst (pc := 10) (v := 0) hx hb dX12_condition_10 (by decide) ?_
    refine lv_aload_n (pc := 11) hx hb dX12_condition_11 rfl (lv_at hl 0 rfl) ?_
    refine lv_iload_n (pc := 12) hx hb dX12_condition_12 rfl (lv_at hl 1 rfl) ?_
    refine lv_iconst (pc := 13) (v := 3) hx hb dX12_condition_13 (by decide) ?_
    refine g_cVi (pc := 14) C hM hl.1 yv_X12_of q6_131 (by decide) ce_87 rfl (w_X12_of l G x a1 3 s3 _ h) rfl rfl ⟨⟨by decide, by decide⟩, by decide, by decide⟩ (Nat.le_of_ble_eq_true rfl) dX12_condition_14 (fun r14 s14 H locs h hM => ?_)
    refine lv_iconst (pc := 17) (v := 1) hx hb dX12_condition_17 (by decide) ?_
    refine lv_isub (pc := 18) hx hb dX12_condition_18 ?_
    refine g_cSi (pc := 19) C hM hl.1 ys_X12_in q6_108 (w_X12_in l G x a2 0 (r14 - 1) s14 _ h) rfl rfl ⟨⟨by decide, by decide⟩, by decide, by decide⟩ (Nat.le_of_ble_eq_true rfl) dX12_condition_19 (fun r19 s19 H locs h hM => ?_)
    refine lv_if_eq (pc := 22) (tgt := 42) hx hb dX12_condition_22 (by decide) (fun c22 => ?_) (fun c22 => ?_)
    · have h := h.1 c22
      refine lv_iconst (pc := 42) (v := 1) hx hb dX12_condition_42 (by decide) ?_
      refine g_putE (pc := 43) C hM (by decide) ce_87 fp_RX12_68 rfl rfl (Nat.le_of_ble_eq_true rfl) rfl dX12_condition_43 (fun s43 es43 H locs hM => ?_)
      have h := h s43 es43
      refine lv_aload_n (pc := 46) hx hb dX12_condition_46 rfl (lv_at hl 0 rfl) ?_
      refine g_get (pc := 47) (v := .int (s43 87 8)) C hM (by decide) ce_87 fl_RX12_68 rfl dX12_condition_47 ?_
      refine lv_if_le (pc := 50) (tgt := 57) hx hb dX12_condition_50 (by decide) (fun c50 => ?_) (fun c50 => ?_)
      · have h := h.1 c50
        refine lv_aload_n (pc := 57) hx hb dX12_condition_57 rfl (lv_at hl 0 rfl) ?_
        refine lv_iload_n (pc := 58) hx hb dX12_condition_58 rfl (lv_at hl 1 rfl) ?_
        refine lv_iload_n (pc := 59) hx hb dX12_condition_59 rfl (lv_at hl 2 rfl) ?_
        refine lv_iload_n (pc := 60) hx hb dX12_condition_60 rfl (lv_at hl 3 rfl) ?_
        refine g_cVi (pc := 61) C hM hl.1 yv_X12_part q6_175 (by decide) ce_87 rfl (w_X12_part l G x a1 a2 a3 s43 _ h) rfl rfl ⟨⟨by decide, by decide⟩, by decide, by decide⟩ (Nat.le_of_ble_eq_true rfl) dX12_condition_61 (fun r61 s61 H locs h hM => ?_)
        exact hret 64 _ _ _ _ _ dX12_condition_64 (by rfl) h hM
      · have h := h.2 c50
        refine lv_iconst (pc := 53) (v := 0) hx hb dX12_condition_53 (by decide) ?_
        refine lv_goto (pc := 54) (tgt := 64) hx hb dX12_condition_54 (by decide) ?_
        exact hret 64 _ _ _ _ _ dX12_condition_64 (by rfl) h hM
    · have h := h.2 c22
      refine lv_iload_n (pc := 25) hx hb dX12_condition_25 rfl (lv_at hl 3 rfl) ?_
      refine lv_iconst (pc := 26) (v := 0) hx hb dX12_condition_26 (by decide) ?_
      refine lv_iconst (pc := 27) (v := 2) hx hb dX12_condition_27 (by decide) ?_
      refine g_cSi (pc := 28) C hM hl.1 ys_X12_in q6_108 (w_X12_in l G x a3 0 2 s19 _ h) rfl rfl ⟨⟨by decide, by decide⟩, by decide, by decide⟩ (Nat.le_of_ble_eq_true rfl) dX12_condition_28 (fun r28 s28 H locs h hM => ?_)
      refine lv_if_eq (pc := 31) (tgt := 38) hx hb dX12_condition_31 (by decide) (fun c31 => ?_) (fun c31 => ?_)
      · have h := h.1 c31
        refine lv_iconst (pc := 38) (v := 2) hx hb dX12_condition_38 (by decide) ?_
        refine lv_goto (pc := 39) (tgt := 43) hx hb dX12_condition_39 (by decide) ?_
        refine g_putE (pc := 43) C hM (by decide) ce_87 fp_RX12_68 rfl rfl (Nat.le_of_ble_eq_true rfl) rfl dX12_condition_43 (fun s43 es43 H locs hM => ?_)
        have h := h s43 es43
        refine lv_aload_n (pc := 46) hx hb dX12_condition_46 rfl (lv_at hl 0 rfl) ?_
        refine g_get (pc := 47) (v := .int (s43 87 8)) C hM (by decide) ce_87 fl_RX12_68 rfl dX12_condition_47 ?_
        refine lv_if_le (pc := 50) (tgt := 57) hx hb dX12_condition_50 (by decide) (fun c50 => ?_) (fun c50 => ?_)
        · have h := h.1 c50
          refine lv_aload_n (pc := 57) hx hb dX12_condition_57 rfl (lv_at hl 0 rfl) ?_
          refine lv_iload_n (pc := 58) hx hb dX12_condition_58 rfl (lv_at hl 1 rfl) ?_
          refine lv_iload_n (pc := 59) hx hb dX12_condition_59 rfl (lv_at hl 2 rfl) ?_
          refine lv_iload_n (pc := 60) hx hb dX12_condition_60 rfl (lv_at hl 3 rfl) ?_
          refine g_cVi (pc := 61) C hM hl.1 yv_X12_part q6_175 (by decide) ce_87 rfl (w_X12_part l G x a1 a2 a3 s43 _ h) rfl rfl ⟨⟨by decide, by decide⟩, by decide, by decide⟩ (Nat.le_of_ble_eq_true rfl) dX12_condition_61 (fun r61 s61 H locs h hM => ?_)
          exact hret 64 _ _ _ _ _ dX12_condition_64 (by rfl) h hM
        · have h := h.2 c50
          refine lv_iconst (pc := 53) (v := 0) hx hb dX12_condition_53 (by decide) ?_
          refine lv_goto (pc := 54) (tgt := 64) hx hb dX12_condition_54 (by decide) ?_
          exact hret 64 _ _ _ _ _ dX12_condition_64 (by rfl) h hM
      · have h := h.2 c31
        refine lv_iconst (pc := 34) (v := 0) hx hb dX12_condition_34 (by decide) ?_
        refine lv_goto (pc := 35) (tgt := 43) hx hb dX12_condition_35 (by decide) ?_
        refine g_putE (pc := 43) C hM (by decide) ce_87 fp_RX12_68 rfl rfl (Nat.le_of_ble_eq_true rfl) rfl dX12_condition_43 (fun s43 es43 H locs hM => ?_)
        have h := h s43 es43
        refine lv_aload_n (pc := 46) hx hb dX12_condition_46 rfl (lv_at hl 0 rfl) ?_
        refine g_get (pc := 47) (v := .int (s43 87 8)) C hM (by decide) ce_87 fl_RX12_68 rfl dX12_condition_47 ?_
        refine lv_if_le (pc := 50) (tgt := 57) hx hb dX12_condition_50 (by decide) (fun c50 => ?_) (fun c50 => ?_)
        · have h := h.1 c50
          refine lv_aload_n (pc := 57) hx hb dX12_condition_57 rfl (lv_at hl 0 rfl) ?_
          refine lv_iload_n (pc := 58) hx hb dX12_condition_58 rfl (lv_at hl 1 rfl) ?_
          refine lv_iload_n (pc := 59) hx hb dX12_condition_59 rfl (lv_at hl 2 rfl) ?_
          refine lv_iload_n (pc := 60) hx hb dX12_condition_60 rfl (lv_at hl 3 rfl) ?_
          refine g_cVi (pc := 61) C hM hl.1 yv_X12_part q6_175 (by decide) ce_87 rfl (w_X12_part l G x a1 a2 a3 s43 _ h) rfl rfl ⟨⟨by decide, by decide⟩, by decide, by decide⟩ (Nat.le_of_ble_eq_true rfl) dX12_condition_61 (fun r61 s61 H locs h hM => ?_)
          exact hret 64 _ _ _ _ _ dX12_condition_64 (by rfl) h hM
        · have h := h.2 c50
          refine lv_iconst (pc := 53) (v := 0) hx hb dX12_condition_53 (by decide) ?_
          refine lv_goto (pc := 54) (tgt := 64) hx hb dX12_condition_54 (by decide) ?_
          exact hret 64 _ _ _ _ _ dX12_condition_64 (by rfl) h hM
abbrev rm_X12_setOf : Room := { frames := 0, cells := 0, slots := 0, locals := 0 }
theorem dX12_setOf_0 : decode cX12_setOf 0 = .ok (.iload_n 0, 1) := by decide +kernel
theorem dX12_setOf_1 : decode cX12_setOf 1 = .ok (.tableswitch 61 0 3 #[31, 35, 44, 50], 31) := by decide +kernel
theorem dX12_setOf_32 : decode cX12_setOf 32 = .ok (.iconst 1, 1) := by decide +kernel
theorem dX12_setOf_33 : decode cX12_setOf 33 = .ok (.iload_n 1, 1) := by decide +kernel
theorem dX12_setOf_34 : decode cX12_setOf 34 = .ok (.ishl, 1) := by decide +kernel
theorem dX12_setOf_35 : decode cX12_setOf 35 = .ok (.ireturn, 1) := by decide +kernel
theorem dX12_setOf_36 : decode cX12_setOf 36 = .ok (.ldc 104, 2) := by decide +kernel
theorem dX12_setOf_38 : decode cX12_setOf 38 = .ok (.iconst 1, 1) := by decide +kernel
theorem dX12_setOf_39 : decode cX12_setOf 39 = .ok (.iload_n 1, 1) := by decide +kernel
theorem dX12_setOf_40 : decode cX12_setOf 40 = .ok (.ishl, 1) := by decide +kernel
theorem dX12_setOf_41 : decode cX12_setOf 41 = .ok (.iconst (-1), 1) := by decide +kernel
theorem dX12_setOf_42 : decode cX12_setOf 42 = .ok (.ixor, 1) := by decide +kernel
theorem dX12_setOf_43 : decode cX12_setOf 43 = .ok (.iand, 1) := by decide +kernel
theorem dX12_setOf_44 : decode cX12_setOf 44 = .ok (.ireturn, 1) := by decide +kernel
theorem dX12_setOf_45 : decode cX12_setOf 45 = .ok (.iconst 1, 1) := by decide +kernel
theorem dX12_setOf_46 : decode cX12_setOf 46 = .ok (.iload_n 1, 1) := by decide +kernel
theorem dX12_setOf_47 : decode cX12_setOf 47 = .ok (.ishl, 1) := by decide +kernel
theorem dX12_setOf_48 : decode cX12_setOf 48 = .ok (.iconst 1, 1) := by decide +kernel
theorem dX12_setOf_49 : decode cX12_setOf 49 = .ok (.isub, 1) := by decide +kernel
theorem dX12_setOf_50 : decode cX12_setOf 50 = .ok (.ireturn, 1) := by decide +kernel
theorem dX12_setOf_51 : decode cX12_setOf 51 = .ok (.ldc 104, 2) := by decide +kernel
theorem dX12_setOf_53 : decode cX12_setOf 53 = .ok (.iconst 1, 1) := by decide +kernel
theorem dX12_setOf_54 : decode cX12_setOf 54 = .ok (.iload_n 1, 1) := by decide +kernel
theorem dX12_setOf_55 : decode cX12_setOf 55 = .ok (.ishl, 1) := by decide +kernel
theorem dX12_setOf_56 : decode cX12_setOf 56 = .ok (.iconst 1, 1) := by decide +kernel
theorem dX12_setOf_57 : decode cX12_setOf 57 = .ok (.isub, 1) := by decide +kernel
theorem dX12_setOf_58 : decode cX12_setOf 58 = .ok (.iconst (-1), 1) := by decide +kernel
theorem dX12_setOf_59 : decode cX12_setOf 59 = .ok (.ixor, 1) := by decide +kernel
theorem dX12_setOf_60 : decode cX12_setOf 60 = .ok (.iand, 1) := by decide +kernel
theorem dX12_setOf_61 : decode cX12_setOf 61 = .ok (.ireturn, 1) := by decide +kernel
theorem dX12_setOf_62 : decode cX12_setOf 62 = .ok (.iload_n 1, 1) := by decide +kernel
theorem dX12_setOf_63 : decode cX12_setOf 63 = .ok (.ireturn, 1) := by decide +kernel
set_option maxHeartbeats 4000000 in
set_option maxRecDepth 100000 in
theorem w_X12_setOf (l : Launch) (G : GP) (x : XP) (a0 : Int32) (a1 : Int32) (σ : Sto) (P : Int32 → Sto → Prop) (h : D_X12_setOf a0 a1 σ P) : g_Meti l yX12_setOf cX12_setOf 2 (some .int) rm_X12_setOf G x [.int a0, .int a1] σ P := by
  unfold D_X12_setOf at h
  refine g_ofWi (by decide +kernel) (Nat.le_of_ble_eq_true rfl) ?_
  intro p e s m args below meth c Q ls C hM hl hret
  have hx := C.1
  have hb := C.2.1
  have hl : lv_has ls 2 [(0, .int a0), (1, .int a1)] := hl
  refine lv_iload_n (pc := 0) hx hb dX12_setOf_0 rfl (lv_at hl 0 rfl) ?_
  by_cases c1_0 : a0 = 0
  · have h := h.1 c1_0
    refine lv_tableIn (pc := 1) (tgt := 32) hx hb dX12_setOf_1 (by rw [c1_0]; decide) (by rw [c1_0]; decide) (by rw [c1_0]; rfl) (by decide) ?_
    refine lv_iconst (pc := 32) (v := 1) hx hb dX12_setOf_32 (by decide) ?_
    refine lv_iload_n (pc := 33) hx hb dX12_setOf_33 rfl (lv_at hl 1 rfl) ?_
    refine lv_ishl (pc := 34) hx hb dX12_setOf_34 ?_
    exact hret 35 _ _ _ _ _ dX12_setOf_35 (by rfl) h hM
  · have h := h.2 c1_0
    by_cases c1_1 : a0 = 1
    · have h := h.1 c1_1
      refine lv_tableIn (pc := 1) (tgt := 36) hx hb dX12_setOf_1 (by rw [c1_1]; decide) (by rw [c1_1]; decide) (by rw [c1_1]; rfl) (by decide) ?_
      refine lv_ldc (pc := 36) (v := 65535) hx hb C.2.2.2.1 (C.2.2.2.2.1 _ q6_126) dX12_setOf_36 ?_
      refine lv_iconst (pc := 38) (v := 1) hx hb dX12_setOf_38 (by decide) ?_
      refine lv_iload_n (pc := 39) hx hb dX12_setOf_39 rfl (lv_at hl 1 rfl) ?_
      refine lv_ishl (pc := 40) hx hb dX12_setOf_40 ?_
      refine lv_iconst (pc := 41) (v := (-1)) hx hb dX12_setOf_41 (by decide) ?_
      refine lv_ixor (pc := 42) hx hb dX12_setOf_42 ?_
      refine lv_iand (pc := 43) hx hb dX12_setOf_43 ?_
      exact hret 44 _ _ _ _ _ dX12_setOf_44 (by rfl) h hM
    · have h := h.2 c1_1
      by_cases c1_2 : a0 = 2
      · have h := h.1 c1_2
        refine lv_tableIn (pc := 1) (tgt := 45) hx hb dX12_setOf_1 (by rw [c1_2]; decide) (by rw [c1_2]; decide) (by rw [c1_2]; rfl) (by decide) ?_
        refine lv_iconst (pc := 45) (v := 1) hx hb dX12_setOf_45 (by decide) ?_
        refine lv_iload_n (pc := 46) hx hb dX12_setOf_46 rfl (lv_at hl 1 rfl) ?_
        refine lv_ishl (pc := 47) hx hb dX12_setOf_47 ?_
        refine lv_iconst (pc := 48) (v := 1) hx hb dX12_setOf_48 (by decide) ?_
        refine lv_isub (pc := 49) hx hb dX12_setOf_49 ?_
        exact hret 50 _ _ _ _ _ dX12_setOf_50 (by rfl) h hM
      · have h := h.2 c1_2
        by_cases c1_3 : a0 = 3
        · have h := h.1 c1_3
          refine lv_tableIn (pc := 1) (tgt := 51) hx hb dX12_setOf_1 (by rw [c1_3]; decide) (by rw [c1_3]; decide) (by rw [c1_3]; rfl) (by decide) ?_
          refine lv_ldc (pc := 51) (v := 65535) hx hb C.2.2.2.1 (C.2.2.2.2.1 _ q6_126) dX12_setOf_51 ?_
          refine lv_iconst (pc := 53) (v := 1) hx hb dX12_setOf_53 (by decide) ?_
          refine lv_iload_n (pc := 54) hx hb dX12_setOf_54 rfl (lv_at hl 1 rfl) ?_
          refine lv_ishl (pc := 55) hx hb dX12_setOf_55 ?_
          refine lv_iconst (pc := 56) (v := 1) hx hb dX12_setOf_56 (by decide) ?_
          refine lv_isub (pc := 57) hx hb dX12_setOf_57 ?_
          refine lv_iconst (pc := 58) (v := (-1)) hx hb dX12_setOf_58 (by decide) ?_
          refine lv_ixor (pc := 59) hx hb dX12_setOf_59 ?_
          refine lv_iand (pc := 60) hx hb dX12_setOf_60 ?_
          exact hret 61 _ _ _ _ _ dX12_setOf_61 (by rfl) h hM
        · have h := h.2 c1_3
          have ht : (a0).toInt < 0 ∨ 3 < (a0).toInt := by
            have nc1_0 := lv_neT c1_0 (a := 0) rfl
            have nc1_1 := lv_neT c1_1 (a := 1) rfl
            have nc1_2 := lv_neT c1_2 (a := 2) rfl
            have nc1_3 := lv_neT c1_3 (a := 3) rfl
            omega
          refine lv_tableOut (pc := 1) (tgt := 62) hx hb dX12_setOf_1 ht (by decide) ?_
          refine lv_iload_n (pc := 62) hx hb dX12_setOf_62 rfl (lv_at hl 1 rfl) ?_
          exact hret 63 _ _ _ _ _ dX12_setOf_63 (by rfl) h hM
abbrev rm_X12_conditionSet : Room := { frames := 1, cells := 0, slots := 0, locals := 23 }
theorem dX12_conditionSet_0 : decode cX12_conditionSet 0 = .ok (.aload_n 0, 1) := by decide +kernel
theorem dX12_conditionSet_1 : decode cX12_conditionSet 1 = .ok (.iload_n 1, 1) := by decide +kernel
theorem dX12_conditionSet_2 : decode cX12_conditionSet 2 = .ok (.iload_n 2, 1) := by decide +kernel
theorem dX12_conditionSet_3 : decode cX12_conditionSet 3 = .ok (.iconst 1, 1) := by decide +kernel
theorem dX12_conditionSet_4 : decode cX12_conditionSet 4 = .ok (.invokevirtual 119, 3) := by decide +kernel
theorem dX12_conditionSet_7 : decode cX12_conditionSet 7 = .ok (.aload_n 0, 1) := by decide +kernel
theorem dX12_conditionSet_8 : decode cX12_conditionSet 8 = .ok (.iload_n 1, 1) := by decide +kernel
theorem dX12_conditionSet_9 : decode cX12_conditionSet 9 = .ok (.iload_n 2, 1) := by decide +kernel
theorem dX12_conditionSet_10 : decode cX12_conditionSet 10 = .ok (.iconst 2, 1) := by decide +kernel
theorem dX12_conditionSet_11 : decode cX12_conditionSet 11 = .ok (.invokevirtual 119, 3) := by decide +kernel
theorem dX12_conditionSet_14 : decode cX12_conditionSet 14 = .ok (.invokestatic 123, 3) := by decide +kernel
theorem dX12_conditionSet_17 : decode cX12_conditionSet 17 = .ok (.ireturn, 1) := by decide +kernel
set_option maxHeartbeats 4000000 in
set_option maxRecDepth 100000 in
theorem w_X12_conditionSet (l : Launch) (G : GP) (x : XP) (a1 : Int32) (a2 : Int32) (σ : Sto) (P : Int32 → Sto → Prop) (h : D_X12_conditionSet a1 a2 σ P) : g_Meti l yX12_conditionSet cX12_conditionSet 3 (some .int) rm_X12_conditionSet G x [.ref (g_ad G 87), .int a1, .int a2] σ P := by
  unfold D_X12_conditionSet at h
  refine g_ofWi (by decide +kernel) (Nat.le_of_ble_eq_true rfl) ?_
  intro p e s m args below meth c Q ls C hM hl hret
  have hx := C.1
  have hb := C.2.1
  have hl : lv_has ls 3 [(0, .ref (g_ad G 87)), (1, .int a1), (2, .int a2)] := hl
  refine lv_aload_n (pc := 0) hx hb dX12_conditionSet_0 rfl (lv_at hl 0 rfl) ?_
  refine lv_iload_n (pc := 1) hx hb dX12_conditionSet_1 rfl (lv_at hl 1 rfl) ?_
  refine lv_iload_n (pc := 2) hx hb dX12_conditionSet_2 rfl (lv_at hl 2 rfl) ?_
  refine lv_iconst (pc := 3) (v := 1) hx hb dX12_conditionSet_3 (by decide) ?_
  refine g_cVi (pc := 4) C hM hl.1 yv_X12_part q6_175 (by decide) ce_87 rfl (w_X12_part l G x a1 a2 1 σ _ h) rfl rfl ⟨⟨by decide, by decide⟩, by decide, by decide⟩ (Nat.le_of_ble_eq_true rfl) dX12_conditionSet_4 (fun r4 s4 H locs h hM => ?_)
  refine lv_aload_n (pc := 7) hx hb dX12_conditionSet_7 rfl (lv_at hl 0 rfl) ?_
  refine lv_iload_n (pc := 8) hx hb dX12_conditionSet_8 rfl (lv_at hl 1 rfl) ?_
  refine lv_iload_n (pc := 9) hx hb dX12_conditionSet_9 rfl (lv_at hl 2 rfl) ?_
  refine lv_iconst (pc := 10) (v := 2) hx hb dX12_conditionSet_10 (by decide) ?_
  refine g_cVi (pc := 11) C hM hl.1 yv_X12_part q6_175 (by decide) ce_87 rfl (w_X12_part l G x a1 a2 2 s4 _ h) rfl rfl ⟨⟨by decide, by decide⟩, by decide, by decide⟩ (Nat.le_of_ble_eq_true rfl) dX12_conditionSet_11 (fun r11 s11 H locs h hM => ?_)
  refine g_cSi (pc := 14) C hM hl.1 ys_X12_setOf q6_191 (w_X12_setOf l G x r4 r11 s11 _ h) rfl rfl ⟨⟨by decide, by decide⟩, by decide, by decide⟩ (Nat.le_of_ble_eq_true rfl) dX12_conditionSet_14 (fun r14 s14 H locs h hM => ?_)
  exact hret 17 _ _ _ _ _ dX12_conditionSet_17 (by rfl) h hM
abbrev rm_X12_isAgainst : Room := { frames := 2, cells := 0, slots := 0, locals := 45 }
theorem dX12_isAgainst_0 : decode cX12_isAgainst 0 = .ok (.iconst 0, 1) := by decide +kernel
theorem dX12_isAgainst_1 : decode cX12_isAgainst 1 = .ok (.istore 4, 2) := by decide +kernel
theorem dX12_isAgainst_3 : decode cX12_isAgainst 3 = .ok (.iload 4, 2) := by decide +kernel
theorem dX12_isAgainst_5 : decode cX12_isAgainst 5 = .ok (.aload_n 0, 1) := by decide +kernel
theorem dX12_isAgainst_6 : decode cX12_isAgainst 6 = .ok (.iload_n 1, 1) := by decide +kernel
theorem dX12_isAgainst_7 : decode cX12_isAgainst 7 = .ok (.iconst 3, 1) := by decide +kernel
theorem dX12_isAgainst_8 : decode cX12_isAgainst 8 = .ok (.invokevirtual 97, 3) := by decide +kernel
theorem dX12_isAgainst_11 : decode cX12_isAgainst 11 = .ok (.if_icmp .ge 37, 3) := by decide +kernel
theorem dX12_isAgainst_14 : decode cX12_isAgainst 14 = .ok (.aload_n 0, 1) := by decide +kernel
theorem dX12_isAgainst_15 : decode cX12_isAgainst 15 = .ok (.iload_n 1, 1) := by decide +kernel
theorem dX12_isAgainst_16 : decode cX12_isAgainst 16 = .ok (.iload 4, 2) := by decide +kernel
theorem dX12_isAgainst_18 : decode cX12_isAgainst 18 = .ok (.iconst 0, 1) := by decide +kernel
theorem dX12_isAgainst_19 : decode cX12_isAgainst 19 = .ok (.invokevirtual 119, 3) := by decide +kernel
theorem dX12_isAgainst_22 : decode cX12_isAgainst 22 = .ok (.iload_n 2, 1) := by decide +kernel
theorem dX12_isAgainst_23 : decode cX12_isAgainst 23 = .ok (.if_icmp .ne 19, 3) := by decide +kernel
theorem dX12_isAgainst_26 : decode cX12_isAgainst 26 = .ok (.aload_n 0, 1) := by decide +kernel
theorem dX12_isAgainst_27 : decode cX12_isAgainst 27 = .ok (.iload_n 1, 1) := by decide +kernel
theorem dX12_isAgainst_28 : decode cX12_isAgainst 28 = .ok (.iload 4, 2) := by decide +kernel
theorem dX12_isAgainst_30 : decode cX12_isAgainst 30 = .ok (.invokevirtual 126, 3) := by decide +kernel
theorem dX12_isAgainst_33 : decode cX12_isAgainst 33 = .ok (.iload_n 3, 1) := by decide +kernel
theorem dX12_isAgainst_34 : decode cX12_isAgainst 34 = .ok (.invokestatic 129, 3) := by decide +kernel
theorem dX12_isAgainst_37 : decode cX12_isAgainst 37 = .ok (.ifCond .ne 5, 3) := by decide +kernel
theorem dX12_isAgainst_40 : decode cX12_isAgainst 40 = .ok (.iconst 1, 1) := by decide +kernel
theorem dX12_isAgainst_41 : decode cX12_isAgainst 41 = .ok (.ireturn, 1) := by decide +kernel
theorem dX12_isAgainst_42 : decode cX12_isAgainst 42 = .ok (.iinc 4 1, 3) := by decide +kernel
theorem dX12_isAgainst_45 : decode cX12_isAgainst 45 = .ok (.goto (-42), 3) := by decide +kernel
theorem dX12_isAgainst_48 : decode cX12_isAgainst 48 = .ok (.iconst 0, 1) := by decide +kernel
theorem dX12_isAgainst_49 : decode cX12_isAgainst 49 = .ok (.ireturn, 1) := by decide +kernel
set_option maxHeartbeats 4000000 in
set_option maxRecDepth 100000 in
theorem w_X12_isAgainst (l : Launch) (G : GP) (x : XP) (a1 : Int32) (a2 : Int32) (a3 : Int32) (σ : Sto) (P : Int32 → Sto → Prop) (h : D_X12_isAgainst a1 a2 a3 σ P) : g_Meti l yX12_isAgainst cX12_isAgainst 5 (some .boolean) rm_X12_isAgainst G x [.ref (g_ad G 87), .int a1, .int a2, .int a3] σ P := by
  unfold D_X12_isAgainst at h
  refine g_ofWi (by decide +kernel) (Nat.le_of_ble_eq_true rfl) ?_
  intro p e s m args below meth c Q ls C hM hl hret
  have hx := C.1
  have hb := C.2.1
  have hl : lv_has ls 5 [(0, .ref (g_ad G 87)), (1, .int a1), (2, .int a2), (3, .int a3)] := hl
  have h := h (fun (v4 : Int32) (σ : Sto) => ∀ (H : Heap) (locs : List Loc) (ls : Array Slot), g_M G x σ s H locs → lv_has ls 5 [(0, .ref (g_ad G 87)), (1, .int a1), (2, .int a2), (3, .int a3), (4, .int v4)] → W p l e rm_X12_isAgainst s m args below meth c H locs 0 0 Q (F0 m 3 ls []))
  have h := h (by
    intro v4 σ h  H locs ls hM hl
    refine lv_iload (pc := 3) hx hb dX12_isAgainst_3 (lv_at hl 4 rfl) ?_
    refine lv_aload_n (pc := 5) hx hb dX12_isAgainst_5 rfl (lv_at hl 0 rfl) ?_
    refine lv_iload_n (pc := 6) hx hb dX12_isAgainst_6 rfl (lv_at hl 1 rfl) ?_
    refine lv_iconst (pc := 7) (v := 3) hx hb dX12_isAgainst_7 (by decide) ?_
    refine g_cVi (pc := 8) C hM hl.1 yv_X12_of q6_131 (by decide) ce_87 rfl (w_X12_of l G x a1 3 σ _ h) rfl rfl ⟨⟨by decide, by decide⟩, by decide, by decide⟩ (Nat.le_of_ble_eq_true rfl) dX12_isAgainst_8 (fun r8 s8 H locs h hM => ?_)
    refine lv_icmp_ge (pc := 11) (tgt := 48) hx hb dX12_isAgainst_11 (by decide) (fun c11 => ?_) (fun c11 => ?_)
    · have h := h.1 c11
      refine lv_iconst (pc := 48) (v := 0) hx hb dX12_isAgainst_48 (by decide) ?_
      exact hret 49 _ _ _ _ _ dX12_isAgainst_49 (by rfl) h hM
    · have h := h.2 c11
      refine lv_aload_n (pc := 14) hx hb dX12_isAgainst_14 rfl (lv_at hl 0 rfl) ?_
      refine lv_iload_n (pc := 15) hx hb dX12_isAgainst_15 rfl (lv_at hl 1 rfl) ?_
      refine lv_iload (pc := 16) hx hb dX12_isAgainst_16 (lv_at hl 4 rfl) ?_
      refine lv_iconst (pc := 18) (v := 0) hx hb dX12_isAgainst_18 (by decide) ?_
      refine g_cVi (pc := 19) C hM hl.1 yv_X12_part q6_175 (by decide) ce_87 rfl (w_X12_part l G x a1 v4 0 s8 _ h) rfl rfl ⟨⟨by decide, by decide⟩, by decide, by decide⟩ (Nat.le_of_ble_eq_true rfl) dX12_isAgainst_19 (fun r19 s19 H locs h hM => ?_)
      refine lv_iload_n (pc := 22) hx hb dX12_isAgainst_22 rfl (lv_at hl 2 rfl) ?_
      refine lv_icmp_ne (pc := 23) (tgt := 42) hx hb dX12_isAgainst_23 (by decide) (fun c23 => ?_) (fun c23 => ?_)
      · have h := h.2 c23
        refine lv_iinc (pc := 42) (v := (v4 + 1)) (lv' := [(4, .int (v4 + 1)), (0, .ref (g_ad G 87)), (1, .int a1), (2, .int a2), (3, .int a3)]) hx hb dX12_isAgainst_42 hl (k := 4) rfl (by rfl) (by decide) rfl (fun ls hl => ?_)
        refine lv_goto (pc := 45) (tgt := 3) hx hb dX12_isAgainst_45 (by decide) ?_
        exact h _ _ _ hM (lv_sub hl [1, 2, 3, 4, 0] rfl)
      · have h := h.1 c23
        refine lv_aload_n (pc := 26) hx hb dX12_isAgainst_26 rfl (lv_at hl 0 rfl) ?_
        refine lv_iload_n (pc := 27) hx hb dX12_isAgainst_27 rfl (lv_at hl 1 rfl) ?_
        refine lv_iload (pc := 28) hx hb dX12_isAgainst_28 (lv_at hl 4 rfl) ?_
        refine g_cVi (pc := 30) C hM hl.1 yv_X12_conditionSet q6_187 (by decide) ce_87 rfl (w_X12_conditionSet l G x a1 v4 s19 _ h) rfl rfl ⟨⟨by decide, by decide⟩, by decide, by decide⟩ (Nat.le_of_ble_eq_true rfl) dX12_isAgainst_30 (fun r30 s30 H locs h hM => ?_)
        refine lv_iload_n (pc := 33) hx hb dX12_isAgainst_33 rfl (lv_at hl 3 rfl) ?_
        refine g_cSi (pc := 34) C hM hl.1 ys_X12_has q6_194 (w_X12_has l G x r30 a3 s30 _ h) rfl rfl ⟨⟨by decide, by decide⟩, by decide, by decide⟩ (Nat.le_of_ble_eq_true rfl) dX12_isAgainst_34 (fun r34 s34 H locs h hM => ?_)
        refine lv_if_ne (pc := 37) (tgt := 42) hx hb dX12_isAgainst_37 (by decide) (fun c37 => ?_) (fun c37 => ?_)
        · have h := h.2 c37
          refine lv_iinc (pc := 42) (v := (v4 + 1)) (lv' := [(4, .int (v4 + 1)), (0, .ref (g_ad G 87)), (1, .int a1), (2, .int a2), (3, .int a3)]) hx hb dX12_isAgainst_42 hl (k := 4) rfl (by rfl) (by decide) rfl (fun ls hl => ?_)
          refine lv_goto (pc := 45) (tgt := 3) hx hb dX12_isAgainst_45 (by decide) ?_
          exact h _ _ _ hM (lv_sub hl [1, 2, 3, 4, 0] rfl)
        · have h := h.1 c37
          refine lv_iconst (pc := 40) (v := 1) hx hb dX12_isAgainst_40 (by decide) ?_
          exact hret 41 _ _ _ _ _ dX12_isAgainst_41 (by rfl) h hM)
  refine lv_iconst (pc := 0) (v := 0) hx hb dX12_isAgainst_0 (by decide) ?_
  refine lv_istore (pc := 1) (lv' := [(4, .int 0), (0, .ref (g_ad G 87)), (1, .int a1), (2, .int a2), (3, .int a3)]) hx hb dX12_isAgainst_1 hl (by decide) rfl (fun ls hl => ?_)
  exact h _ _ _ hM (lv_sub hl [1, 2, 3, 4, 0] rfl)
abbrev rm_X12_loses : Room := { frames := 1, cells := 0, slots := 0, locals := 23 }
theorem dX12_loses_0 : decode cX12_loses 0 = .ok (.iconst 0, 1) := by decide +kernel
theorem dX12_loses_1 : decode cX12_loses 1 = .ok (.istore_n 3, 1) := by decide +kernel
theorem dX12_loses_2 : decode cX12_loses 2 = .ok (.iconst 0, 1) := by decide +kernel
theorem dX12_loses_3 : decode cX12_loses 3 = .ok (.istore 4, 2) := by decide +kernel
theorem dX12_loses_5 : decode cX12_loses 5 = .ok (.iload 4, 2) := by decide +kernel
theorem dX12_loses_7 : decode cX12_loses 7 = .ok (.aload_n 0, 1) := by decide +kernel
theorem dX12_loses_8 : decode cX12_loses 8 = .ok (.iload_n 1, 1) := by decide +kernel
theorem dX12_loses_9 : decode cX12_loses 9 = .ok (.iconst 3, 1) := by decide +kernel
theorem dX12_loses_10 : decode cX12_loses 10 = .ok (.invokevirtual 97, 3) := by decide +kernel
theorem dX12_loses_13 : decode cX12_loses 13 = .ok (.if_icmp .ge 72, 3) := by decide +kernel
theorem dX12_loses_16 : decode cX12_loses 16 = .ok (.aload_n 0, 1) := by decide +kernel
theorem dX12_loses_17 : decode cX12_loses 17 = .ok (.iload_n 1, 1) := by decide +kernel
theorem dX12_loses_18 : decode cX12_loses 18 = .ok (.iload 4, 2) := by decide +kernel
theorem dX12_loses_20 : decode cX12_loses 20 = .ok (.iconst 0, 1) := by decide +kernel
theorem dX12_loses_21 : decode cX12_loses 21 = .ok (.invokevirtual 119, 3) := by decide +kernel
theorem dX12_loses_24 : decode cX12_loses 24 = .ok (.iload_n 2, 1) := by decide +kernel
theorem dX12_loses_25 : decode cX12_loses 25 = .ok (.if_icmp .ne 6, 3) := by decide +kernel
theorem dX12_loses_28 : decode cX12_loses 28 = .ok (.goto 51, 3) := by decide +kernel
theorem dX12_loses_31 : decode cX12_loses 31 = .ok (.iconst 0, 1) := by decide +kernel
theorem dX12_loses_32 : decode cX12_loses 32 = .ok (.istore 5, 2) := by decide +kernel
theorem dX12_loses_34 : decode cX12_loses 34 = .ok (.iload 5, 2) := by decide +kernel
theorem dX12_loses_36 : decode cX12_loses 36 = .ok (.iconst 3, 1) := by decide +kernel
theorem dX12_loses_37 : decode cX12_loses 37 = .ok (.if_icmp .ge 39, 3) := by decide +kernel
theorem dX12_loses_40 : decode cX12_loses 40 = .ok (.aload_n 0, 1) := by decide +kernel
theorem dX12_loses_41 : decode cX12_loses 41 = .ok (.getfield 7, 3) := by decide +kernel
theorem dX12_loses_44 : decode cX12_loses 44 = .ok (.bipush 10, 2) := by decide +kernel
theorem dX12_loses_46 : decode cX12_loses 46 = .ok (.bipush 16, 2) := by decide +kernel
theorem dX12_loses_48 : decode cX12_loses 48 = .ok (.iload_n 1, 1) := by decide +kernel
theorem dX12_loses_49 : decode cX12_loses 49 = .ok (.imul, 1) := by decide +kernel
theorem dX12_loses_50 : decode cX12_loses 50 = .ok (.iadd, 1) := by decide +kernel
theorem dX12_loses_51 : decode cX12_loses 51 = .ok (.iconst 4, 1) := by decide +kernel
theorem dX12_loses_52 : decode cX12_loses 52 = .ok (.iadd, 1) := by decide +kernel
theorem dX12_loses_53 : decode cX12_loses 53 = .ok (.iconst 3, 1) := by decide +kernel
theorem dX12_loses_54 : decode cX12_loses 54 = .ok (.iload_n 3, 1) := by decide +kernel
theorem dX12_loses_55 : decode cX12_loses 55 = .ok (.imul, 1) := by decide +kernel
theorem dX12_loses_56 : decode cX12_loses 56 = .ok (.iadd, 1) := by decide +kernel
theorem dX12_loses_57 : decode cX12_loses 57 = .ok (.iload 5, 2) := by decide +kernel
theorem dX12_loses_59 : decode cX12_loses 59 = .ok (.iadd, 1) := by decide +kernel
theorem dX12_loses_60 : decode cX12_loses 60 = .ok (.aload_n 0, 1) := by decide +kernel
theorem dX12_loses_61 : decode cX12_loses 61 = .ok (.iload_n 1, 1) := by decide +kernel
theorem dX12_loses_62 : decode cX12_loses 62 = .ok (.iload 4, 2) := by decide +kernel
theorem dX12_loses_64 : decode cX12_loses 64 = .ok (.iload 5, 2) := by decide +kernel
theorem dX12_loses_66 : decode cX12_loses 66 = .ok (.invokevirtual 119, 3) := by decide +kernel
theorem dX12_loses_69 : decode cX12_loses 69 = .ok (.iastore, 1) := by decide +kernel
theorem dX12_loses_70 : decode cX12_loses 70 = .ok (.iinc 5 1, 3) := by decide +kernel
theorem dX12_loses_73 : decode cX12_loses 73 = .ok (.goto (-39), 3) := by decide +kernel
theorem dX12_loses_76 : decode cX12_loses 76 = .ok (.iinc 3 1, 3) := by decide +kernel
theorem dX12_loses_79 : decode cX12_loses 79 = .ok (.iinc 4 1, 3) := by decide +kernel
theorem dX12_loses_82 : decode cX12_loses 82 = .ok (.goto (-77), 3) := by decide +kernel
theorem dX12_loses_85 : decode cX12_loses 85 = .ok (.aload_n 0, 1) := by decide +kernel
theorem dX12_loses_86 : decode cX12_loses 86 = .ok (.getfield 7, 3) := by decide +kernel
theorem dX12_loses_89 : decode cX12_loses 89 = .ok (.bipush 10, 2) := by decide +kernel
theorem dX12_loses_91 : decode cX12_loses 91 = .ok (.bipush 16, 2) := by decide +kernel
theorem dX12_loses_93 : decode cX12_loses 93 = .ok (.iload_n 1, 1) := by decide +kernel
theorem dX12_loses_94 : decode cX12_loses 94 = .ok (.imul, 1) := by decide +kernel
theorem dX12_loses_95 : decode cX12_loses 95 = .ok (.iadd, 1) := by decide +kernel
theorem dX12_loses_96 : decode cX12_loses 96 = .ok (.iconst 3, 1) := by decide +kernel
theorem dX12_loses_97 : decode cX12_loses 97 = .ok (.iadd, 1) := by decide +kernel
theorem dX12_loses_98 : decode cX12_loses 98 = .ok (.iload_n 3, 1) := by decide +kernel
theorem dX12_loses_99 : decode cX12_loses 99 = .ok (.iastore, 1) := by decide +kernel
theorem dX12_loses_100 : decode cX12_loses 100 = .ok (.return_, 1) := by decide +kernel
set_option maxHeartbeats 4000000 in
set_option maxRecDepth 100000 in
theorem w_X12_loses (l : Launch) (G : GP) (x : XP) (a1 : Int32) (a2 : Int32) (σ : Sto) (P : Sto → Prop) (h : D_X12_loses a1 a2 σ P) : g_Metv l yX12_loses cX12_loses 6 rm_X12_loses G x [.ref (g_ad G 87), .int a1, .int a2] σ P := by
  unfold D_X12_loses at h
  refine g_ofWv (by decide +kernel) (Nat.le_of_ble_eq_true rfl) ?_
  intro p e s m args below meth c Q ls C hM hl hret
  have hx := C.1
  have hb := C.2.1
  have hl : lv_has ls 6 [(0, .ref (g_ad G 87)), (1, .int a1), (2, .int a2)] := hl
  have h := h (fun (v3 : Int32) (v4 : Int32) (σ : Sto) => ∀ (H : Heap) (locs : List Loc) (ls : Array Slot), g_M G x σ s H locs → lv_has ls 6 [(0, .ref (g_ad G 87)), (1, .int a1), (2, .int a2), (3, .int v3), (4, .int v4)] → W p l e rm_X12_loses s m args below meth c H locs 0 0 Q (F0 m 5 ls [])) (fun (v3 : Int32) (v4 : Int32) (v5 : Int32) (σ : Sto) => ∀ (H : Heap) (locs : List Loc) (ls : Array Slot), g_M G x σ s H locs → lv_has ls 6 [(0, .ref (g_ad G 87)), (1, .int a1), (2, .int a2), (3, .int v3), (4, .int v4), (5, .int v5)] → W p l e rm_X12_loses s m args below meth c H locs 0 0 Q (F0 m 34 ls []))
  have h := h (by
    intro v3 v4 σ h  H locs ls hM hl
    refine lv_iload (pc := 5) hx hb dX12_loses_5 (lv_at hl 4 rfl) ?_
    refine lv_aload_n (pc := 7) hx hb dX12_loses_7 rfl (lv_at hl 0 rfl) ?_
    refine lv_iload_n (pc := 8) hx hb dX12_loses_8 rfl (lv_at hl 1 rfl) ?_
    refine lv_iconst (pc := 9) (v := 3) hx hb dX12_loses_9 (by decide) ?_
    refine g_cVi (pc := 10) C hM hl.1 yv_X12_of q6_131 (by decide) ce_87 rfl (w_X12_of l G x a1 3 σ _ h) rfl rfl ⟨⟨by decide, by decide⟩, by decide, by decide⟩ (Nat.le_of_ble_eq_true rfl) dX12_loses_10 (fun r10 s10 H locs h hM => ?_)
    refine lv_icmp_ge (pc := 13) (tgt := 85) hx hb dX12_loses_13 (by decide) (fun c13 => ?_) (fun c13 => ?_)
    · have h := h.1 c13
      refine lv_aload_n (pc := 85) hx hb dX12_loses_85 rfl (lv_at hl 0 rfl) ?_
      refine g_get (pc := 86) (v := .ref (g_ad G 88)) C hM (by decide) ce_87 fl_RX12_7 rfl dX12_loses_86 ?_
      refine lv_bipush (pc := 89) (v := 10) hx hb dX12_loses_89 (by decide) ?_
      refine lv_bipush (pc := 91) (v := 16) hx hb dX12_loses_91 (by decide) ?_
      refine lv_iload_n (pc := 93) hx hb dX12_loses_93 rfl (lv_at hl 1 rfl) ?_
      refine lv_imul (pc := 94) hx hb dX12_loses_94 ?_
      refine lv_iadd (pc := 95) hx hb dX12_loses_95 ?_
      refine lv_iconst (pc := 96) (v := 3) hx hb dX12_loses_96 (by decide) ?_
      refine lv_iadd (pc := 97) hx hb dX12_loses_97 ?_
      refine lv_iload_n (pc := 98) hx hb dX12_loses_98 rfl (lv_at hl 3 rfl) ?_
      obtain ⟨hc, h⟩ := h
      refine g_iastE (pc := 99) C hM (by decide) ce_88 hc rfl dX12_loses_99 (fun s99 es99 H locs hM => ?_)
      have h := h s99 es99
      exact hret 100 _ _ _ _ dX12_loses_100 h hM
    · have h := h.2 c13
      refine lv_aload_n (pc := 16) hx hb dX12_loses_16 rfl (lv_at hl 0 rfl) ?_
      refine lv_iload_n (pc := 17) hx hb dX12_loses_17 rfl (lv_at hl 1 rfl) ?_
      refine lv_iload (pc := 18) hx hb dX12_loses_18 (lv_at hl 4 rfl) ?_
      refine lv_iconst (pc := 20) (v := 0) hx hb dX12_loses_20 (by decide) ?_
      refine g_cVi (pc := 21) C hM hl.1 yv_X12_part q6_175 (by decide) ce_87 rfl (w_X12_part l G x a1 v4 0 s10 _ h) rfl rfl ⟨⟨by decide, by decide⟩, by decide, by decide⟩ (Nat.le_of_ble_eq_true rfl) dX12_loses_21 (fun r21 s21 H locs h hM => ?_)
      refine lv_iload_n (pc := 24) hx hb dX12_loses_24 rfl (lv_at hl 2 rfl) ?_
      refine lv_icmp_ne (pc := 25) (tgt := 31) hx hb dX12_loses_25 (by decide) (fun c25 => ?_) (fun c25 => ?_)
      · have h := h.2 c25
        refine lv_iconst (pc := 31) (v := 0) hx hb dX12_loses_31 (by decide) ?_
        refine lv_istore (pc := 32) (lv' := [(5, .int 0), (0, .ref (g_ad G 87)), (1, .int a1), (2, .int a2), (3, .int v3), (4, .int v4)]) hx hb dX12_loses_32 hl (by decide) rfl (fun ls hl => ?_)
        exact h _ _ _ hM (lv_sub hl [1, 2, 3, 4, 5, 0] rfl)
      · have h := h.1 c25
        refine lv_goto (pc := 28) (tgt := 79) hx hb dX12_loses_28 (by decide) ?_
        refine lv_iinc (pc := 79) (v := (v4 + 1)) (lv' := [(4, .int (v4 + 1)), (0, .ref (g_ad G 87)), (1, .int a1), (2, .int a2), (3, .int v3)]) hx hb dX12_loses_79 hl (k := 4) rfl (by rfl) (by decide) rfl (fun ls hl => ?_)
        refine lv_goto (pc := 82) (tgt := 5) hx hb dX12_loses_82 (by decide) ?_
        exact h _ _ _ hM (lv_sub hl [1, 2, 3, 4, 0] rfl))
  have h := h (by
    intro v3 v4 v5 σ h  H locs ls hM hl
    refine lv_iload (pc := 34) hx hb dX12_loses_34 (lv_at hl 5 rfl) ?_
    refine lv_iconst (pc := 36) (v := 3) hx hb dX12_loses_36 (by decide) ?_
    refine lv_icmp_ge (pc := 37) (tgt := 76) hx hb dX12_loses_37 (by decide) (fun c37 => ?_) (fun c37 => ?_)
    · have h := h.1 c37
      refine lv_iinc (pc := 76) (v := (v3 + 1)) (lv' := [(3, .int (v3 + 1)), (0, .ref (g_ad G 87)), (1, .int a1), (2, .int a2), (4, .int v4), (5, .int v5)]) hx hb dX12_loses_76 hl (k := 3) rfl (by rfl) (by decide) rfl (fun ls hl => ?_)
      refine lv_iinc (pc := 79) (v := (v4 + 1)) (lv' := [(4, .int (v4 + 1)), (3, .int (v3 + 1)), (0, .ref (g_ad G 87)), (1, .int a1), (2, .int a2), (5, .int v5)]) hx hb dX12_loses_79 hl (k := 4) rfl (by rfl) (by decide) rfl (fun ls hl => ?_)
      refine lv_goto (pc := 82) (tgt := 5) hx hb dX12_loses_82 (by decide) ?_
      exact h _ _ _ hM (lv_sub hl [2, 3, 4, 1, 0] rfl)
    · have h := h.2 c37
      refine lv_aload_n (pc := 40) hx hb dX12_loses_40 rfl (lv_at hl 0 rfl) ?_
      refine g_get (pc := 41) (v := .ref (g_ad G 88)) C hM (by decide) ce_87 fl_RX12_7 rfl dX12_loses_41 ?_
      refine lv_bipush (pc := 44) (v := 10) hx hb dX12_loses_44 (by decide) ?_
      refine lv_bipush (pc := 46) (v := 16) hx hb dX12_loses_46 (by decide) ?_
      refine lv_iload_n (pc := 48) hx hb dX12_loses_48 rfl (lv_at hl 1 rfl) ?_
      refine lv_imul (pc := 49) hx hb dX12_loses_49 ?_
      refine lv_iadd (pc := 50) hx hb dX12_loses_50 ?_
      refine lv_iconst (pc := 51) (v := 4) hx hb dX12_loses_51 (by decide) ?_
      refine lv_iadd (pc := 52) hx hb dX12_loses_52 ?_
      refine lv_iconst (pc := 53) (v := 3) hx hb dX12_loses_53 (by decide) ?_
      refine lv_iload_n (pc := 54) hx hb dX12_loses_54 rfl (lv_at hl 3 rfl) ?_
      refine lv_imul (pc := 55) hx hb dX12_loses_55 ?_
      refine lv_iadd (pc := 56) hx hb dX12_loses_56 ?_
      refine lv_iload (pc := 57) hx hb dX12_loses_57 (lv_at hl 5 rfl) ?_
      refine lv_iadd (pc := 59) hx hb dX12_loses_59 ?_
      refine lv_aload_n (pc := 60) hx hb dX12_loses_60 rfl (lv_at hl 0 rfl) ?_
      refine lv_iload_n (pc := 61) hx hb dX12_loses_61 rfl (lv_at hl 1 rfl) ?_
      refine lv_iload (pc := 62) hx hb dX12_loses_62 (lv_at hl 4 rfl) ?_
      refine lv_iload (pc := 64) hx hb dX12_loses_64 (lv_at hl 5 rfl) ?_
      refine g_cVi (pc := 66) C hM hl.1 yv_X12_part q6_175 (by decide) ce_87 rfl (w_X12_part l G x a1 v4 v5 σ _ h) rfl rfl ⟨⟨by decide, by decide⟩, by decide, by decide⟩ (Nat.le_of_ble_eq_true rfl) dX12_loses_66 (fun r66 s66 H locs h hM => ?_)
      obtain ⟨hc, h⟩ := h
      refine g_iastE (pc := 69) C hM (by decide) ce_88 hc rfl dX12_loses_69 (fun s69 es69 H locs hM => ?_)
      have h := h s69 es69
      refine lv_iinc (pc := 70) (v := (v5 + 1)) (lv' := [(5, .int (v5 + 1)), (0, .ref (g_ad G 87)), (1, .int a1), (2, .int a2), (3, .int v3), (4, .int v4)]) hx hb dX12_loses_70 hl (k := 5) rfl (by rfl) (by decide) rfl (fun ls hl => ?_)
      refine lv_goto (pc := 73) (tgt := 34) hx hb dX12_loses_73 (by decide) ?_
      exact h _ _ _ hM (lv_sub hl [1, 2, 3, 4, 5, 0] rfl))
  refine lv_iconst (pc := 0) (v := 0) hx hb dX12_loses_0 (by decide) ?_
  refine lv_istore_n (pc := 1) (lv' := [(3, .int 0), (0, .ref (g_ad G 87)), (1, .int a1), (2, .int a2)]) hx hb dX12_loses_1 rfl hl (by decide) rfl (fun ls hl => ?_)
  refine lv_iconst (pc := 2) (v := 0) hx hb dX12_loses_2 (by decide) ?_
  refine lv_istore (pc := 3) (lv' := [(4, .int 0), (3, .int 0), (0, .ref (g_ad G 87)), (1, .int a1), (2, .int a2)]) hx hb dX12_loses_3 hl (by decide) rfl (fun ls hl => ?_)
  exact h _ _ _ hM (lv_sub hl [2, 3, 4, 1, 0] rfl)
abbrev rm_X12_specialize : Room := { frames := 3, cells := 0, slots := 0, locals := 69 }
theorem dX12_specialize_0 : decode cX12_specialize 0 = .ok (.aload_n 0, 1) := by decide +kernel
theorem dX12_specialize_1 : decode cX12_specialize 1 = .ok (.iload_n 1, 1) := by decide +kernel
theorem dX12_specialize_2 : decode cX12_specialize 2 = .ok (.invokestatic 101, 3) := by decide +kernel
theorem dX12_specialize_5 : decode cX12_specialize 5 = .ok (.ifCond .eq 21, 3) := by decide +kernel
theorem dX12_specialize_8 : decode cX12_specialize 8 = .ok (.iload_n 2, 1) := by decide +kernel
theorem dX12_specialize_9 : decode cX12_specialize 9 = .ok (.iconst 0, 1) := by decide +kernel
theorem dX12_specialize_10 : decode cX12_specialize 10 = .ok (.bipush 15, 2) := by decide +kernel
theorem dX12_specialize_12 : decode cX12_specialize 12 = .ok (.invokestatic 71, 3) := by decide +kernel
theorem dX12_specialize_15 : decode cX12_specialize 15 = .ok (.ifCond .eq 7, 3) := by decide +kernel
theorem dX12_specialize_18 : decode cX12_specialize 18 = .ok (.iconst 0, 1) := by decide +kernel
theorem dX12_specialize_19 : decode cX12_specialize 19 = .ok (.goto 8, 3) := by decide +kernel
theorem dX12_specialize_22 : decode cX12_specialize 22 = .ok (.iconst 2, 1) := by decide +kernel
theorem dX12_specialize_23 : decode cX12_specialize 23 = .ok (.goto 4, 3) := by decide +kernel
theorem dX12_specialize_26 : decode cX12_specialize 26 = .ok (.iconst 1, 1) := by decide +kernel
theorem dX12_specialize_27 : decode cX12_specialize 27 = .ok (.putfield 68, 3) := by decide +kernel
theorem dX12_specialize_30 : decode cX12_specialize 30 = .ok (.aload_n 0, 1) := by decide +kernel
theorem dX12_specialize_31 : decode cX12_specialize 31 = .ok (.getfield 68, 3) := by decide +kernel
theorem dX12_specialize_34 : decode cX12_specialize 34 = .ok (.ifCond .le 5, 3) := by decide +kernel
theorem dX12_specialize_37 : decode cX12_specialize 37 = .ok (.iconst 0, 1) := by decide +kernel
theorem dX12_specialize_38 : decode cX12_specialize 38 = .ok (.ireturn, 1) := by decide +kernel
theorem dX12_specialize_39 : decode cX12_specialize 39 = .ok (.aload_n 0, 1) := by decide +kernel
theorem dX12_specialize_40 : decode cX12_specialize 40 = .ok (.invokevirtual 90, 3) := by decide +kernel
theorem dX12_specialize_43 : decode cX12_specialize 43 = .ok (.aload_n 0, 1) := by decide +kernel
theorem dX12_specialize_44 : decode cX12_specialize 44 = .ok (.getfield 7, 3) := by decide +kernel
theorem dX12_specialize_47 : decode cX12_specialize 47 = .ok (.iconst 0, 1) := by decide +kernel
theorem dX12_specialize_48 : decode cX12_specialize 48 = .ok (.iaload, 1) := by decide +kernel
theorem dX12_specialize_49 : decode cX12_specialize 49 = .ok (.istore_n 3, 1) := by decide +kernel
theorem dX12_specialize_50 : decode cX12_specialize 50 = .ok (.aload_n 0, 1) := by decide +kernel
theorem dX12_specialize_51 : decode cX12_specialize 51 = .ok (.getfield 7, 3) := by decide +kernel
theorem dX12_specialize_54 : decode cX12_specialize 54 = .ok (.iconst 0, 1) := by decide +kernel
theorem dX12_specialize_55 : decode cX12_specialize 55 = .ok (.iaload, 1) := by decide +kernel
theorem dX12_specialize_56 : decode cX12_specialize 56 = .ok (.iconst 1, 1) := by decide +kernel
theorem dX12_specialize_57 : decode cX12_specialize 57 = .ok (.isub, 1) := by decide +kernel
theorem dX12_specialize_58 : decode cX12_specialize 58 = .ok (.istore 4, 2) := by decide +kernel
theorem dX12_specialize_60 : decode cX12_specialize 60 = .ok (.iload 4, 2) := by decide +kernel
theorem dX12_specialize_62 : decode cX12_specialize 62 = .ok (.ifCond .lt 36, 3) := by decide +kernel
theorem dX12_specialize_65 : decode cX12_specialize 65 = .ok (.aload_n 0, 1) := by decide +kernel
theorem dX12_specialize_66 : decode cX12_specialize 66 = .ok (.iload 4, 2) := by decide +kernel
theorem dX12_specialize_68 : decode cX12_specialize 68 = .ok (.iload_n 1, 1) := by decide +kernel
theorem dX12_specialize_69 : decode cX12_specialize 69 = .ok (.iload_n 2, 1) := by decide +kernel
theorem dX12_specialize_70 : decode cX12_specialize 70 = .ok (.invokevirtual 133, 3) := by decide +kernel
theorem dX12_specialize_73 : decode cX12_specialize 73 = .ok (.ifCond .eq 12, 3) := by decide +kernel
theorem dX12_specialize_76 : decode cX12_specialize 76 = .ok (.aload_n 0, 1) := by decide +kernel
theorem dX12_specialize_77 : decode cX12_specialize 77 = .ok (.iload 4, 2) := by decide +kernel
theorem dX12_specialize_79 : decode cX12_specialize 79 = .ok (.invokevirtual 112, 3) := by decide +kernel
theorem dX12_specialize_82 : decode cX12_specialize 82 = .ok (.goto 10, 3) := by decide +kernel
theorem dX12_specialize_85 : decode cX12_specialize 85 = .ok (.aload_n 0, 1) := by decide +kernel
theorem dX12_specialize_86 : decode cX12_specialize 86 = .ok (.iload 4, 2) := by decide +kernel
theorem dX12_specialize_88 : decode cX12_specialize 88 = .ok (.iload_n 1, 1) := by decide +kernel
theorem dX12_specialize_89 : decode cX12_specialize 89 = .ok (.invokevirtual 136, 3) := by decide +kernel
theorem dX12_specialize_92 : decode cX12_specialize 92 = .ok (.iinc 4 (-1), 3) := by decide +kernel
theorem dX12_specialize_95 : decode cX12_specialize 95 = .ok (.goto (-35), 3) := by decide +kernel
theorem dX12_specialize_98 : decode cX12_specialize 98 = .ok (.iload_n 3, 1) := by decide +kernel
theorem dX12_specialize_99 : decode cX12_specialize 99 = .ok (.aload_n 0, 1) := by decide +kernel
theorem dX12_specialize_100 : decode cX12_specialize 100 = .ok (.getfield 7, 3) := by decide +kernel
theorem dX12_specialize_103 : decode cX12_specialize 103 = .ok (.iconst 0, 1) := by decide +kernel
theorem dX12_specialize_104 : decode cX12_specialize 104 = .ok (.iaload, 1) := by decide +kernel
theorem dX12_specialize_105 : decode cX12_specialize 105 = .ok (.isub, 1) := by decide +kernel
theorem dX12_specialize_106 : decode cX12_specialize 106 = .ok (.ireturn, 1) := by decide +kernel
set_option maxHeartbeats 4000000 in
set_option maxRecDepth 100000 in
theorem w_X12_specialize (l : Launch) (G : GP) (x : XP) (a1 : Int32) (a2 : Int32) (σ : Sto) (P : Int32 → Sto → Prop) (h : D_X12_specialize a1 a2 σ P) : g_Meti l yX12_specialize cX12_specialize 5 (some .int) rm_X12_specialize G x [.ref (g_ad G 87), .int a1, .int a2] σ P := by
  unfold D_X12_specialize at h
  refine g_ofWi (by decide +kernel) (Nat.le_of_ble_eq_true rfl) ?_
  intro p e s m args below meth c Q ls C hM hl hret
  have hx := C.1
  have hb := C.2.1
  have hl : lv_has ls 5 [(0, .ref (g_ad G 87)), (1, .int a1), (2, .int a2)] := hl
  have h := h (fun (t0 : Int32) (σ : Sto) => ∀ (H : Heap) (locs : List Loc) (ls : Array Slot), g_M G x σ s H locs → lv_has ls 5 [(0, .ref (g_ad G 87)), (1, .int a1), (2, .int a2)] → W p l e rm_X12_specialize s m args below meth c H locs 0 0 Q (F0 m 27 ls [.int t0, .ref (g_ad G 87)])) (fun (v3 : Int32) (v4 : Int32) (σ : Sto) => ∀ (H : Heap) (locs : List Loc) (ls : Array Slot), g_M G x σ s H locs → lv_has ls 5 [(0, .ref (g_ad G 87)), (1, .int a1), (2, .int a2), (3, .int v3), (4, .int v4)] → W p l e rm_X12_specialize s m args below meth c H locs 0 0 Q (F0 m 60 ls []))
  have h := h (by
    intro t0 σ h  H locs ls hM hl
    refine g_putE (pc := 27) C hM (by decide) ce_87 fp_RX12_68 rfl rfl (Nat.le_of_ble_eq_true rfl) rfl dX12_specialize_27 (fun s27 es27 H locs hM => ?_)
    have h := h s27 es27
    refine lv_aload_n (pc := 30) hx hb dX12_specialize_30 rfl (lv_at hl 0 rfl) ?_
    refine g_get (pc := 31) (v := .int (s27 87 8)) C hM (by decide) ce_87 fl_RX12_68 rfl dX12_specialize_31 ?_
    refine lv_if_le (pc := 34) (tgt := 39) hx hb dX12_specialize_34 (by decide) (fun c34 => ?_) (fun c34 => ?_)
    · have h := h.1 c34
      refine lv_aload_n (pc := 39) hx hb dX12_specialize_39 rfl (lv_at hl 0 rfl) ?_
      refine g_cVv (pc := 40) C hM hl.1 yv_X12_changes q6_111 (by decide) ce_87 rfl (w_X12_changes l G x  s27 _ h) rfl rfl ⟨⟨by decide, by decide⟩, by decide, by decide⟩ (Nat.le_of_ble_eq_true rfl) dX12_specialize_40 (fun s40 H locs h hM => ?_)
      refine lv_aload_n (pc := 43) hx hb dX12_specialize_43 rfl (lv_at hl 0 rfl) ?_
      refine g_get (pc := 44) (v := .ref (g_ad G 88)) C hM (by decide) ce_87 fl_RX12_7 rfl dX12_specialize_44 ?_
      refine lv_iconst (pc := 47) (v := 0) hx hb dX12_specialize_47 (by decide) ?_
      refine g_ialdK (pc := 48) (k := 0) C hM (by decide) ce_88 (vp_in_nI (n := 0) (by decide) (by decide)) rfl dX12_specialize_48 ?_
      refine lv_istore_n (pc := 49) (lv' := [(3, .int (s40 88 0)), (0, .ref (g_ad G 87)), (1, .int a1), (2, .int a2)]) hx hb dX12_specialize_49 rfl hl (by decide) rfl (fun ls hl => ?_)
      refine lv_aload_n (pc := 50) hx hb dX12_specialize_50 rfl (lv_at hl 1 rfl) ?_
      refine g_get (pc := 51) (v := .ref (g_ad G 88)) C hM (by decide) ce_87 fl_RX12_7 rfl dX12_specialize_51 ?_
      refine lv_iconst (pc := 54) (v := 0) hx hb dX12_specialize_54 (by decide) ?_
      refine g_ialdK (pc := 55) (k := 0) C hM (by decide) ce_88 (vp_in_nI (n := 0) (by decide) (by decide)) rfl dX12_specialize_55 ?_
      refine lv_iconst (pc := 56) (v := 1) hx hb dX12_specialize_56 (by decide) ?_
      refine lv_isub (pc := 57) hx hb dX12_specialize_57 ?_
      refine lv_istore (pc := 58) (lv' := [(4, .int ((s40 88 0) - 1)), (3, .int (s40 88 0)), (0, .ref (g_ad G 87)), (1, .int a1), (2, .int a2)]) hx hb dX12_specialize_58 hl (by decide) rfl (fun ls hl => ?_)
      exact h _ _ _ hM (lv_sub hl [2, 3, 4, 1, 0] rfl)
    · have h := h.2 c34
      refine lv_iconst (pc := 37) (v := 0) hx hb dX12_specialize_37 (by decide) ?_
      exact hret 38 _ _ _ _ _ dX12_specialize_38 (by rfl) h hM)
  have h := h (by
    intro v3 v4 σ h  H locs ls hM hl
    refine lv_iload (pc := 60) hx hb dX12_specialize_60 (lv_at hl 4 rfl) ?_
    refine lv_if_lt (pc := 62) (tgt := 98) hx hb dX12_specialize_62 (by decide) (fun c62 => ?_) (fun c62 => ?_)
    · have h := h.1 c62
      refine lv_iload_n (pc := 98) hx hb dX12_specialize_98 rfl (lv_at hl 3 rfl) ?_
      refine lv_aload_n (pc := 99) hx hb dX12_specialize_99 rfl (lv_at hl 0 rfl) ?_
      refine g_get (pc := 100) (v := .ref (g_ad G 88)) C hM (by decide) ce_87 fl_RX12_7 rfl dX12_specialize_100 ?_
      refine lv_iconst (pc := 103) (v := 0) hx hb dX12_specialize_103 (by decide) ?_
      refine g_ialdK (pc := 104) (k := 0) C hM (by decide) ce_88 (vp_in_nI (n := 0) (by decide) (by decide)) rfl dX12_specialize_104 ?_
      refine lv_isub (pc := 105) hx hb dX12_specialize_105 ?_
      exact hret 106 _ _ _ _ _ dX12_specialize_106 (by rfl) h hM
    · have h := h.2 c62
      refine lv_aload_n (pc := 65) hx hb dX12_specialize_65 rfl (lv_at hl 0 rfl) ?_
      refine lv_iload (pc := 66) hx hb dX12_specialize_66 (lv_at hl 4 rfl) ?_
      refine lv_iload_n (pc := 68) hx hb dX12_specialize_68 rfl (lv_at hl 1 rfl) ?_
      refine lv_iload_n (pc := 69) hx hb dX12_specialize_69 rfl (lv_at hl 2 rfl) ?_
      refine g_cVi (pc := 70) C hM hl.1 yv_X12_isAgainst q6_183 (by decide) ce_87 rfl (w_X12_isAgainst l G x v4 a1 a2 σ _ h) rfl rfl ⟨⟨by decide, by decide⟩, by decide, by decide⟩ (Nat.le_of_ble_eq_true rfl) dX12_specialize_70 (fun r70 s70 H locs h hM => ?_)
      refine lv_if_eq (pc := 73) (tgt := 85) hx hb dX12_specialize_73 (by decide) (fun c73 => ?_) (fun c73 => ?_)
      · have h := h.1 c73
        refine lv_aload_n (pc := 85) hx hb dX12_specialize_85 rfl (lv_at hl 0 rfl) ?_
        refine lv_iload (pc := 86) hx hb dX12_specialize_86 (lv_at hl 4 rfl) ?_
        refine lv_iload_n (pc := 88) hx hb dX12_specialize_88 rfl (lv_at hl 1 rfl) ?_
        refine g_cVv (pc := 89) C hM hl.1 yv_X12_loses q6_197 (by decide) ce_87 rfl (w_X12_loses l G x v4 a1 s70 _ h) rfl rfl ⟨⟨by decide, by decide⟩, by decide, by decide⟩ (Nat.le_of_ble_eq_true rfl) dX12_specialize_89 (fun s89 H locs h hM => ?_)
        refine lv_iinc (pc := 92) (v := (v4 + (-1))) (lv' := [(4, .int (v4 + (-1))), (0, .ref (g_ad G 87)), (1, .int a1), (2, .int a2), (3, .int v3)]) hx hb dX12_specialize_92 hl (k := 4) rfl (by rfl) (by decide) rfl (fun ls hl => ?_)
        refine lv_goto (pc := 95) (tgt := 60) hx hb dX12_specialize_95 (by decide) ?_
        exact h _ _ _ hM (lv_sub hl [1, 2, 3, 4, 0] rfl)
      · have h := h.2 c73
        refine lv_aload_n (pc := 76) hx hb dX12_specialize_76 rfl (lv_at hl 0 rfl) ?_
        refine lv_iload (pc := 77) hx hb dX12_specialize_77 (lv_at hl 4 rfl) ?_
        refine g_cVv (pc := 79) C hM hl.1 yv_X12_goes q6_143 (by decide) ce_87 rfl (w_X12_goes l G x v4 s70 _ h) rfl rfl ⟨⟨by decide, by decide⟩, by decide, by decide⟩ (Nat.le_of_ble_eq_true rfl) dX12_specialize_79 (fun s79 H locs h hM => ?_)
        refine lv_goto (pc := 82) (tgt := 92) hx hb dX12_specialize_82 (by decide) ?_
        refine lv_iinc (pc := 92) (v := (v4 + (-1))) (lv' := [(4, .int (v4 + (-1))), (0, .ref (g_ad G 87)), (1, .int a1), (2, .int a2), (3, .int v3)]) hx hb dX12_specialize_92 hl (k := 4) rfl (by rfl) (by decide) rfl (fun ls hl => ?_)
        refine lv_goto (pc := 95) (tgt := 60) hx hb dX12_specialize_95 (by decide) ?_
        exact h _ _ _ hM (lv_sub hl [1, 2, 3, 4, 0] rfl))
  refine lv_aload_n (pc := 0) hx hb dX12_specialize_0 rfl (lv_at hl 0 rfl) ?_
  refine lv_iload_n (pc := 1) hx hb dX12_specialize_1 rfl (lv_at hl 1 rfl) ?_
  refine g_cSi (pc := 2) C hM hl.1 ys_X12_isAttribute q6_123 (w_X12_isAttribute l G x a1 σ _ h) rfl rfl ⟨⟨by decide, by decide⟩, by decide, by decide⟩ (Nat.le_of_ble_eq_true rfl) dX12_specialize_2 (fun r2 s2 H locs h hM => ?_)
  refine lv_if_eq (pc := 5) (tgt := 26) hx hb dX12_specialize_5 (by decide) (fun c5 => ?_) (fun c5 => ?_)
  · have h := h.1 c5
    refine lv_iconst (pc := 26) (v := 1) hx hb dX12_specialize_26 (by decide) ?_
    exact h _ _ _ hM (lv_sub hl [0, 1, 2] rfl)
  · have h := h.2 c5
    refine lv_iload_n (pc := 8) hx hb dX12_specialize_8 rfl (lv_at hl 2 rfl) ?_
    refine lv_iconst (pc := 9) (v := 0) hx hb dX12_specialize_9 (by decide) ?_
    refine lv_bipush (pc := 10) (v := 15) hx hb dX12_specialize_10 (by decide) ?_
    refine g_cSi (pc := 12) C hM hl.1 ys_X12_in q6_108 (w_X12_in l G x a2 0 15 s2 _ h) rfl rfl ⟨⟨by decide, by decide⟩, by decide, by decide⟩ (Nat.le_of_ble_eq_true rfl) dX12_specialize_12 (fun r12 s12 H locs h hM => ?_)
    refine lv_if_eq (pc := 15) (tgt := 22) hx hb dX12_specialize_15 (by decide) (fun c15 => ?_) (fun c15 => ?_)
    · have h := h.1 c15
      refine lv_iconst (pc := 22) (v := 2) hx hb dX12_specialize_22 (by decide) ?_
      refine lv_goto (pc := 23) (tgt := 27) hx hb dX12_specialize_23 (by decide) ?_
      exact h _ _ _ hM (lv_sub hl [0, 1, 2] rfl)
    · have h := h.2 c15
      refine lv_iconst (pc := 18) (v := 0) hx hb dX12_specialize_18 (by decide) ?_
      refine lv_goto (pc := 19) (tgt := 27) hx hb dX12_specialize_19 (by decide) ?_
      exact h _ _ _ hM (lv_sub hl [0, 1, 2] rfl)
abbrev rm_X12_grantOf : Room := { frames := 0, cells := 0, slots := 0, locals := 0 }
theorem dX12_grantOf_0 : decode cX12_grantOf 0 = .ok (.aload_n 0, 1) := by decide +kernel
theorem dX12_grantOf_1 : decode cX12_grantOf 1 = .ok (.getfield 7, 3) := by decide +kernel
theorem dX12_grantOf_4 : decode cX12_grantOf 4 = .ok (.sipush 400, 3) := by decide +kernel
theorem dX12_grantOf_7 : decode cX12_grantOf 7 = .ok (.iconst 5, 1) := by decide +kernel
theorem dX12_grantOf_8 : decode cX12_grantOf 8 = .ok (.iload_n 1, 1) := by decide +kernel
theorem dX12_grantOf_9 : decode cX12_grantOf 9 = .ok (.imul, 1) := by decide +kernel
theorem dX12_grantOf_10 : decode cX12_grantOf 10 = .ok (.iadd, 1) := by decide +kernel
theorem dX12_grantOf_11 : decode cX12_grantOf 11 = .ok (.iload_n 2, 1) := by decide +kernel
theorem dX12_grantOf_12 : decode cX12_grantOf 12 = .ok (.iadd, 1) := by decide +kernel
theorem dX12_grantOf_13 : decode cX12_grantOf 13 = .ok (.iaload, 1) := by decide +kernel
theorem dX12_grantOf_14 : decode cX12_grantOf 14 = .ok (.ireturn, 1) := by decide +kernel
set_option maxHeartbeats 4000000 in
set_option maxRecDepth 100000 in
theorem w_X12_grantOf (l : Launch) (G : GP) (x : XP) (a1 : Int32) (a2 : Int32) (σ : Sto) (P : Int32 → Sto → Prop) (h : D_X12_grantOf a1 a2 σ P) : g_Meti l yX12_grantOf cX12_grantOf 3 (some .int) rm_X12_grantOf G x [.ref (g_ad G 87), .int a1, .int a2] σ P := by
  unfold D_X12_grantOf at h
  refine g_ofWi (by decide +kernel) (Nat.le_of_ble_eq_true rfl) ?_
  intro p e s m args below meth c Q ls C hM hl hret
  have hx := C.1
  have hb := C.2.1
  have hl : lv_has ls 3 [(0, .ref (g_ad G 87)), (1, .int a1), (2, .int a2)] := hl
  refine lv_aload_n (pc := 0) hx hb dX12_grantOf_0 rfl (lv_at hl 0 rfl) ?_
  refine g_get (pc := 1) (v := .ref (g_ad G 88)) C hM (by decide) ce_87 fl_RX12_7 rfl dX12_grantOf_1 ?_
  refine lv_sipush (pc := 4) (v := 400) hx hb dX12_grantOf_4 (by decide) ?_
  refine lv_iconst (pc := 7) (v := 5) hx hb dX12_grantOf_7 (by decide) ?_
  refine lv_iload_n (pc := 8) hx hb dX12_grantOf_8 rfl (lv_at hl 1 rfl) ?_
  refine lv_imul (pc := 9) hx hb dX12_grantOf_9 ?_
  refine lv_iadd (pc := 10) hx hb dX12_grantOf_10 ?_
  refine lv_iload_n (pc := 11) hx hb dX12_grantOf_11 rfl (lv_at hl 2 rfl) ?_
  refine lv_iadd (pc := 12) hx hb dX12_grantOf_12 ?_
  obtain ⟨hc, h⟩ := h
  refine g_ialdK (pc := 13) C hM (by decide) ce_88 hc rfl dX12_grantOf_13 ?_
  exact hret 14 _ _ _ _ _ dX12_grantOf_14 (by rfl) h hM
abbrev rm_X12_grantWith : Room := { frames := 1, cells := 0, slots := 0, locals := 22 }
theorem dX12_grantWith_0 : decode cX12_grantWith 0 = .ok (.iconst 0, 1) := by decide +kernel
theorem dX12_grantWith_1 : decode cX12_grantWith 1 = .ok (.istore 4, 2) := by decide +kernel
theorem dX12_grantWith_3 : decode cX12_grantWith 3 = .ok (.iload 4, 2) := by decide +kernel
theorem dX12_grantWith_5 : decode cX12_grantWith 5 = .ok (.aload_n 0, 1) := by decide +kernel
theorem dX12_grantWith_6 : decode cX12_grantWith 6 = .ok (.getfield 7, 3) := by decide +kernel
theorem dX12_grantWith_9 : decode cX12_grantWith 9 = .ok (.bipush 6, 2) := by decide +kernel
theorem dX12_grantWith_11 : decode cX12_grantWith 11 = .ok (.iaload, 1) := by decide +kernel
theorem dX12_grantWith_12 : decode cX12_grantWith 12 = .ok (.if_icmp .ge 45, 3) := by decide +kernel
theorem dX12_grantWith_15 : decode cX12_grantWith 15 = .ok (.aload_n 0, 1) := by decide +kernel
theorem dX12_grantWith_16 : decode cX12_grantWith 16 = .ok (.iload 4, 2) := by decide +kernel
theorem dX12_grantWith_18 : decode cX12_grantWith 18 = .ok (.iconst 0, 1) := by decide +kernel
theorem dX12_grantWith_19 : decode cX12_grantWith 19 = .ok (.invokevirtual 140, 3) := by decide +kernel
theorem dX12_grantWith_22 : decode cX12_grantWith 22 = .ok (.iload_n 1, 1) := by decide +kernel
theorem dX12_grantWith_23 : decode cX12_grantWith 23 = .ok (.if_icmp .ne 28, 3) := by decide +kernel
theorem dX12_grantWith_26 : decode cX12_grantWith 26 = .ok (.aload_n 0, 1) := by decide +kernel
theorem dX12_grantWith_27 : decode cX12_grantWith 27 = .ok (.iload 4, 2) := by decide +kernel
theorem dX12_grantWith_29 : decode cX12_grantWith 29 = .ok (.iconst 1, 1) := by decide +kernel
theorem dX12_grantWith_30 : decode cX12_grantWith 30 = .ok (.invokevirtual 140, 3) := by decide +kernel
theorem dX12_grantWith_33 : decode cX12_grantWith 33 = .ok (.iload_n 2, 1) := by decide +kernel
theorem dX12_grantWith_34 : decode cX12_grantWith 34 = .ok (.if_icmp .ne 17, 3) := by decide +kernel
theorem dX12_grantWith_37 : decode cX12_grantWith 37 = .ok (.aload_n 0, 1) := by decide +kernel
theorem dX12_grantWith_38 : decode cX12_grantWith 38 = .ok (.iload 4, 2) := by decide +kernel
theorem dX12_grantWith_40 : decode cX12_grantWith 40 = .ok (.iconst 2, 1) := by decide +kernel
theorem dX12_grantWith_41 : decode cX12_grantWith 41 = .ok (.invokevirtual 140, 3) := by decide +kernel
theorem dX12_grantWith_44 : decode cX12_grantWith 44 = .ok (.iload_n 3, 1) := by decide +kernel
theorem dX12_grantWith_45 : decode cX12_grantWith 45 = .ok (.if_icmp .ne 6, 3) := by decide +kernel
theorem dX12_grantWith_48 : decode cX12_grantWith 48 = .ok (.iload 4, 2) := by decide +kernel
theorem dX12_grantWith_50 : decode cX12_grantWith 50 = .ok (.ireturn, 1) := by decide +kernel
theorem dX12_grantWith_51 : decode cX12_grantWith 51 = .ok (.iinc 4 1, 3) := by decide +kernel
theorem dX12_grantWith_54 : decode cX12_grantWith 54 = .ok (.goto (-51), 3) := by decide +kernel
theorem dX12_grantWith_57 : decode cX12_grantWith 57 = .ok (.iconst (-1), 1) := by decide +kernel
theorem dX12_grantWith_58 : decode cX12_grantWith 58 = .ok (.ireturn, 1) := by decide +kernel
set_option maxHeartbeats 4000000 in
set_option maxRecDepth 100000 in
theorem w_X12_grantWith (l : Launch) (G : GP) (x : XP) (a1 : Int32) (a2 : Int32) (a3 : Int32) (σ : Sto) (P : Int32 → Sto → Prop) (h : D_X12_grantWith a1 a2 a3 σ P) : g_Meti l yX12_grantWith cX12_grantWith 5 (some .int) rm_X12_grantWith G x [.ref (g_ad G 87), .int a1, .int a2, .int a3] σ P := by
  unfold D_X12_grantWith at h
  refine g_ofWi (by decide +kernel) (Nat.le_of_ble_eq_true rfl) ?_
  intro p e s m args below meth c Q ls C hM hl hret
  have hx := C.1
  have hb := C.2.1
  have hl : lv_has ls 5 [(0, .ref (g_ad G 87)), (1, .int a1), (2, .int a2), (3, .int a3)] := hl
  have h := h (fun (v4 : Int32) (σ : Sto) => ∀ (H : Heap) (locs : List Loc) (ls : Array Slot), g_M G x σ s H locs → lv_has ls 5 [(0, .ref (g_ad G 87)), (1, .int a1), (2, .int a2), (3, .int a3), (4, .int v4)] → W p l e rm_X12_grantWith s m args below meth c H locs 0 0 Q (F0 m 3 ls []))
  have h := h (by
    intro v4 σ h  H locs ls hM hl
    refine lv_iload (pc := 3) hx hb dX12_grantWith_3 (lv_at hl 4 rfl) ?_
    refine lv_aload_n (pc := 5) hx hb dX12_grantWith_5 rfl (lv_at hl 0 rfl) ?_
    refine g_get (pc := 6) (v := .ref (g_ad G 88)) C hM (by decide) ce_87 fl_RX12_7 rfl dX12_grantWith_6 ?_
    refine lv_bipush (pc := 9) (v := 6) hx hb dX12_grantWith_9 (by decide) ?_
    refine g_ialdK (pc := 11) (k := 6) C hM (by decide) ce_88 (vp_in_nI (n := 6) (by decide) (by decide)) rfl dX12_grantWith_11 ?_
    refine lv_icmp_ge (pc := 12) (tgt := 57) hx hb dX12_grantWith_12 (by decide) (fun c12 => ?_) (fun c12 => ?_)
    · have h := h.1 c12
      refine lv_iconst (pc := 57) (v := (-1)) hx hb dX12_grantWith_57 (by decide) ?_
      exact hret 58 _ _ _ _ _ dX12_grantWith_58 (by rfl) h hM
    · have h := h.2 c12
      refine lv_aload_n (pc := 15) hx hb dX12_grantWith_15 rfl (lv_at hl 0 rfl) ?_
      refine lv_iload (pc := 16) hx hb dX12_grantWith_16 (lv_at hl 4 rfl) ?_
      refine lv_iconst (pc := 18) (v := 0) hx hb dX12_grantWith_18 (by decide) ?_
      refine g_cVi (pc := 19) C hM hl.1 yv_X12_grantOf q6_209 (by decide) ce_87 rfl (w_X12_grantOf l G x v4 0 σ _ h) rfl rfl ⟨⟨by decide, by decide⟩, by decide, by decide⟩ (Nat.le_of_ble_eq_true rfl) dX12_grantWith_19 (fun r19 s19 H locs h hM => ?_)
      refine lv_iload_n (pc := 22) hx hb dX12_grantWith_22 rfl (lv_at hl 1 rfl) ?_
      refine lv_icmp_ne (pc := 23) (tgt := 51) hx hb dX12_grantWith_23 (by decide) (fun c23 => ?_) (fun c23 => ?_)
      · have h := h.2 c23
        refine lv_iinc (pc := 51) (v := (v4 + 1)) (lv' := [(4, .int (v4 + 1)), (0, .ref (g_ad G 87)), (1, .int a1), (2, .int a2), (3, .int a3)]) hx hb dX12_grantWith_51 hl (k := 4) rfl (by rfl) (by decide) rfl (fun ls hl => ?_)
        refine lv_goto (pc := 54) (tgt := 3) hx hb dX12_grantWith_54 (by decide) ?_
        exact h _ _ _ hM (lv_sub hl [1, 2, 3, 4, 0] rfl)
      · have h := h.1 c23
        refine lv_aload_n (pc := 26) hx hb dX12_grantWith_26 rfl (lv_at hl 0 rfl) ?_
        refine lv_iload (pc := 27) hx hb dX12_grantWith_27 (lv_at hl 4 rfl) ?_
        refine lv_iconst (pc := 29) (v := 1) hx hb dX12_grantWith_29 (by decide) ?_
        refine g_cVi (pc := 30) C hM hl.1 yv_X12_grantOf q6_209 (by decide) ce_87 rfl (w_X12_grantOf l G x v4 1 s19 _ h) rfl rfl ⟨⟨by decide, by decide⟩, by decide, by decide⟩ (Nat.le_of_ble_eq_true rfl) dX12_grantWith_30 (fun r30 s30 H locs h hM => ?_)
        refine lv_iload_n (pc := 33) hx hb dX12_grantWith_33 rfl (lv_at hl 2 rfl) ?_
        refine lv_icmp_ne (pc := 34) (tgt := 51) hx hb dX12_grantWith_34 (by decide) (fun c34 => ?_) (fun c34 => ?_)
        · have h := h.2 c34
          refine lv_iinc (pc := 51) (v := (v4 + 1)) (lv' := [(4, .int (v4 + 1)), (0, .ref (g_ad G 87)), (1, .int a1), (2, .int a2), (3, .int a3)]) hx hb dX12_grantWith_51 hl (k := 4) rfl (by rfl) (by decide) rfl (fun ls hl => ?_)
          refine lv_goto (pc := 54) (tgt := 3) hx hb dX12_grantWith_54 (by decide) ?_
          exact h _ _ _ hM (lv_sub hl [1, 2, 3, 4, 0] rfl)
        · have h := h.1 c34
          refine lv_aload_n (pc := 37) hx hb dX12_grantWith_37 rfl (lv_at hl 0 rfl) ?_
          refine lv_iload (pc := 38) hx hb dX12_grantWith_38 (lv_at hl 4 rfl) ?_
          refine lv_iconst (pc := 40) (v := 2) hx hb dX12_grantWith_40 (by decide) ?_
          refine g_cVi (pc := 41) C hM hl.1 yv_X12_grantOf q6_209 (by decide) ce_87 rfl (w_X12_grantOf l G x v4 2 s30 _ h) rfl rfl ⟨⟨by decide, by decide⟩, by decide, by decide⟩ (Nat.le_of_ble_eq_true rfl) dX12_grantWith_41 (fun r41 s41 H locs h hM => ?_)
          refine lv_iload_n (pc := 44) hx hb dX12_grantWith_44 rfl (lv_at hl 3 rfl) ?_
          refine lv_icmp_ne (pc := 45) (tgt := 51) hx hb dX12_grantWith_45 (by decide) (fun c45 => ?_) (fun c45 => ?_)
          · have h := h.2 c45
            refine lv_iinc (pc := 51) (v := (v4 + 1)) (lv' := [(4, .int (v4 + 1)), (0, .ref (g_ad G 87)), (1, .int a1), (2, .int a2), (3, .int a3)]) hx hb dX12_grantWith_51 hl (k := 4) rfl (by rfl) (by decide) rfl (fun ls hl => ?_)
            refine lv_goto (pc := 54) (tgt := 3) hx hb dX12_grantWith_54 (by decide) ?_
            exact h _ _ _ hM (lv_sub hl [1, 2, 3, 4, 0] rfl)
          · have h := h.1 c45
            refine lv_iload (pc := 48) hx hb dX12_grantWith_48 (lv_at hl 4 rfl) ?_
            exact hret 50 _ _ _ _ _ dX12_grantWith_50 (by rfl) h hM)
  refine lv_iconst (pc := 0) (v := 0) hx hb dX12_grantWith_0 (by decide) ?_
  refine lv_istore (pc := 1) (lv' := [(4, .int 0), (0, .ref (g_ad G 87)), (1, .int a1), (2, .int a2), (3, .int a3)]) hx hb dX12_grantWith_1 hl (by decide) rfl (fun ls hl => ?_)
  exact h _ _ _ hM (lv_sub hl [1, 2, 3, 4, 0] rfl)
abbrev rm_X12_grant : Room := { frames := 2, cells := 0, slots := 0, locals := 46 }
theorem dX12_grant_0 : decode cX12_grant 0 = .ok (.iload_n 1, 1) := by decide +kernel
theorem dX12_grant_1 : decode cX12_grant 1 = .ok (.iload_n 2, 1) := by decide +kernel
theorem dX12_grant_2 : decode cX12_grant 2 = .ok (.if_icmp .eq 29, 3) := by decide +kernel
theorem dX12_grant_5 : decode cX12_grant 5 = .ok (.iload 4, 2) := by decide +kernel
theorem dX12_grant_7 : decode cX12_grant 7 = .ok (.iconst 0, 1) := by decide +kernel
theorem dX12_grant_8 : decode cX12_grant 8 = .ok (.iconst 5, 1) := by decide +kernel
theorem dX12_grant_9 : decode cX12_grant 9 = .ok (.invokestatic 71, 3) := by decide +kernel
theorem dX12_grant_12 : decode cX12_grant 12 = .ok (.ifCond .eq 19, 3) := by decide +kernel
theorem dX12_grant_15 : decode cX12_grant 15 = .ok (.iload 5, 2) := by decide +kernel
theorem dX12_grant_17 : decode cX12_grant 17 = .ok (.iconst 0, 1) := by decide +kernel
theorem dX12_grant_18 : decode cX12_grant 18 = .ok (.sipush 1000, 3) := by decide +kernel
theorem dX12_grant_21 : decode cX12_grant 21 = .ok (.invokestatic 71, 3) := by decide +kernel
theorem dX12_grant_24 : decode cX12_grant 24 = .ok (.ifCond .eq 7, 3) := by decide +kernel
theorem dX12_grant_27 : decode cX12_grant 27 = .ok (.iconst 1, 1) := by decide +kernel
theorem dX12_grant_28 : decode cX12_grant 28 = .ok (.goto 4, 3) := by decide +kernel
theorem dX12_grant_31 : decode cX12_grant 31 = .ok (.iconst 0, 1) := by decide +kernel
theorem dX12_grant_32 : decode cX12_grant 32 = .ok (.istore 6, 2) := by decide +kernel
theorem dX12_grant_34 : decode cX12_grant 34 = .ok (.aload_n 0, 1) := by decide +kernel
theorem dX12_grant_35 : decode cX12_grant 35 = .ok (.iload_n 1, 1) := by decide +kernel
theorem dX12_grant_36 : decode cX12_grant 36 = .ok (.iload_n 2, 1) := by decide +kernel
theorem dX12_grant_37 : decode cX12_grant 37 = .ok (.iload_n 3, 1) := by decide +kernel
theorem dX12_grant_38 : decode cX12_grant 38 = .ok (.invokevirtual 143, 3) := by decide +kernel
theorem dX12_grant_41 : decode cX12_grant 41 = .ok (.istore 7, 2) := by decide +kernel
theorem dX12_grant_43 : decode cX12_grant 43 = .ok (.aload_n 0, 1) := by decide +kernel
theorem dX12_grant_44 : decode cX12_grant 44 = .ok (.iload_n 1, 1) := by decide +kernel
theorem dX12_grant_45 : decode cX12_grant 45 = .ok (.invokestatic 146, 3) := by decide +kernel
theorem dX12_grant_48 : decode cX12_grant 48 = .ok (.ifCond .eq 17, 3) := by decide +kernel
theorem dX12_grant_51 : decode cX12_grant 51 = .ok (.iload_n 2, 1) := by decide +kernel
theorem dX12_grant_52 : decode cX12_grant 52 = .ok (.invokestatic 146, 3) := by decide +kernel
theorem dX12_grant_55 : decode cX12_grant 55 = .ok (.ifCond .eq 10, 3) := by decide +kernel
theorem dX12_grant_58 : decode cX12_grant 58 = .ok (.iload_n 3, 1) := by decide +kernel
theorem dX12_grant_59 : decode cX12_grant 59 = .ok (.invokestatic 86, 3) := by decide +kernel
theorem dX12_grant_62 : decode cX12_grant 62 = .ok (.ifCond .ne 7, 3) := by decide +kernel
theorem dX12_grant_65 : decode cX12_grant 65 = .ok (.iconst 1, 1) := by decide +kernel
theorem dX12_grant_66 : decode cX12_grant 66 = .ok (.goto 34, 3) := by decide +kernel
theorem dX12_grant_69 : decode cX12_grant 69 = .ok (.iload 6, 2) := by decide +kernel
theorem dX12_grant_71 : decode cX12_grant 71 = .ok (.ifCond .ne 7, 3) := by decide +kernel
theorem dX12_grant_74 : decode cX12_grant 74 = .ok (.iconst 2, 1) := by decide +kernel
theorem dX12_grant_75 : decode cX12_grant 75 = .ok (.goto 25, 3) := by decide +kernel
theorem dX12_grant_78 : decode cX12_grant 78 = .ok (.iload 7, 2) := by decide +kernel
theorem dX12_grant_80 : decode cX12_grant 80 = .ok (.ifCond .ge 19, 3) := by decide +kernel
theorem dX12_grant_83 : decode cX12_grant 83 = .ok (.aload_n 0, 1) := by decide +kernel
theorem dX12_grant_84 : decode cX12_grant 84 = .ok (.getfield 7, 3) := by decide +kernel
theorem dX12_grant_87 : decode cX12_grant 87 = .ok (.bipush 6, 2) := by decide +kernel
theorem dX12_grant_89 : decode cX12_grant 89 = .ok (.iaload, 1) := by decide +kernel
theorem dX12_grant_90 : decode cX12_grant 90 = .ok (.bipush 30, 2) := by decide +kernel
theorem dX12_grant_92 : decode cX12_grant 92 = .ok (.if_icmp .ne 7, 3) := by decide +kernel
theorem dX12_grant_95 : decode cX12_grant 95 = .ok (.iconst 3, 1) := by decide +kernel
theorem dX12_grant_96 : decode cX12_grant 96 = .ok (.goto 4, 3) := by decide +kernel
theorem dX12_grant_99 : decode cX12_grant 99 = .ok (.iconst 0, 1) := by decide +kernel
theorem dX12_grant_100 : decode cX12_grant 100 = .ok (.putfield 68, 3) := by decide +kernel
theorem dX12_grant_103 : decode cX12_grant 103 = .ok (.aload_n 0, 1) := by decide +kernel
theorem dX12_grant_104 : decode cX12_grant 104 = .ok (.getfield 68, 3) := by decide +kernel
theorem dX12_grant_107 : decode cX12_grant 107 = .ok (.ifCond .le 5, 3) := by decide +kernel
theorem dX12_grant_110 : decode cX12_grant 110 = .ok (.iconst 0, 1) := by decide +kernel
theorem dX12_grant_111 : decode cX12_grant 111 = .ok (.ireturn, 1) := by decide +kernel
theorem dX12_grant_112 : decode cX12_grant 112 = .ok (.aload_n 0, 1) := by decide +kernel
theorem dX12_grant_113 : decode cX12_grant 113 = .ok (.invokevirtual 90, 3) := by decide +kernel
theorem dX12_grant_116 : decode cX12_grant 116 = .ok (.iload 7, 2) := by decide +kernel
theorem dX12_grant_118 : decode cX12_grant 118 = .ok (.ifCond .ge 23, 3) := by decide +kernel
theorem dX12_grant_121 : decode cX12_grant 121 = .ok (.aload_n 0, 1) := by decide +kernel
theorem dX12_grant_122 : decode cX12_grant 122 = .ok (.getfield 7, 3) := by decide +kernel
theorem dX12_grant_125 : decode cX12_grant 125 = .ok (.bipush 6, 2) := by decide +kernel
theorem dX12_grant_127 : decode cX12_grant 127 = .ok (.iaload, 1) := by decide +kernel
theorem dX12_grant_128 : decode cX12_grant 128 = .ok (.istore 7, 2) := by decide +kernel
theorem dX12_grant_130 : decode cX12_grant 130 = .ok (.aload_n 0, 1) := by decide +kernel
theorem dX12_grant_131 : decode cX12_grant 131 = .ok (.getfield 7, 3) := by decide +kernel
theorem dX12_grant_134 : decode cX12_grant 134 = .ok (.bipush 6, 2) := by decide +kernel
theorem dX12_grant_136 : decode cX12_grant 136 = .ok (.dup2, 1) := by decide +kernel
theorem dX12_grant_137 : decode cX12_grant 137 = .ok (.iaload, 1) := by decide +kernel
theorem dX12_grant_138 : decode cX12_grant 138 = .ok (.iconst 1, 1) := by decide +kernel
theorem dX12_grant_139 : decode cX12_grant 139 = .ok (.iadd, 1) := by decide +kernel
theorem dX12_grant_140 : decode cX12_grant 140 = .ok (.iastore, 1) := by decide +kernel
theorem dX12_grant_141 : decode cX12_grant 141 = .ok (.aload_n 0, 1) := by decide +kernel
theorem dX12_grant_142 : decode cX12_grant 142 = .ok (.getfield 7, 3) := by decide +kernel
theorem dX12_grant_145 : decode cX12_grant 145 = .ok (.sipush 400, 3) := by decide +kernel
theorem dX12_grant_148 : decode cX12_grant 148 = .ok (.iconst 5, 1) := by decide +kernel
theorem dX12_grant_149 : decode cX12_grant 149 = .ok (.iload 7, 2) := by decide +kernel
theorem dX12_grant_151 : decode cX12_grant 151 = .ok (.imul, 1) := by decide +kernel
theorem dX12_grant_152 : decode cX12_grant 152 = .ok (.iadd, 1) := by decide +kernel
theorem dX12_grant_153 : decode cX12_grant 153 = .ok (.iload_n 1, 1) := by decide +kernel
theorem dX12_grant_154 : decode cX12_grant 154 = .ok (.iastore, 1) := by decide +kernel
theorem dX12_grant_155 : decode cX12_grant 155 = .ok (.aload_n 0, 1) := by decide +kernel
theorem dX12_grant_156 : decode cX12_grant 156 = .ok (.getfield 7, 3) := by decide +kernel
theorem dX12_grant_159 : decode cX12_grant 159 = .ok (.sipush 400, 3) := by decide +kernel
theorem dX12_grant_162 : decode cX12_grant 162 = .ok (.iconst 5, 1) := by decide +kernel
theorem dX12_grant_163 : decode cX12_grant 163 = .ok (.iload 7, 2) := by decide +kernel
theorem dX12_grant_165 : decode cX12_grant 165 = .ok (.imul, 1) := by decide +kernel
theorem dX12_grant_166 : decode cX12_grant 166 = .ok (.iadd, 1) := by decide +kernel
theorem dX12_grant_167 : decode cX12_grant 167 = .ok (.iconst 1, 1) := by decide +kernel
theorem dX12_grant_168 : decode cX12_grant 168 = .ok (.iadd, 1) := by decide +kernel
theorem dX12_grant_169 : decode cX12_grant 169 = .ok (.iload_n 2, 1) := by decide +kernel
theorem dX12_grant_170 : decode cX12_grant 170 = .ok (.iastore, 1) := by decide +kernel
theorem dX12_grant_171 : decode cX12_grant 171 = .ok (.aload_n 0, 1) := by decide +kernel
theorem dX12_grant_172 : decode cX12_grant 172 = .ok (.getfield 7, 3) := by decide +kernel
theorem dX12_grant_175 : decode cX12_grant 175 = .ok (.sipush 400, 3) := by decide +kernel
theorem dX12_grant_178 : decode cX12_grant 178 = .ok (.iconst 5, 1) := by decide +kernel
theorem dX12_grant_179 : decode cX12_grant 179 = .ok (.iload 7, 2) := by decide +kernel
theorem dX12_grant_181 : decode cX12_grant 181 = .ok (.imul, 1) := by decide +kernel
theorem dX12_grant_182 : decode cX12_grant 182 = .ok (.iadd, 1) := by decide +kernel
theorem dX12_grant_183 : decode cX12_grant 183 = .ok (.iconst 2, 1) := by decide +kernel
theorem dX12_grant_184 : decode cX12_grant 184 = .ok (.iadd, 1) := by decide +kernel
theorem dX12_grant_185 : decode cX12_grant 185 = .ok (.iload_n 3, 1) := by decide +kernel
theorem dX12_grant_186 : decode cX12_grant 186 = .ok (.iastore, 1) := by decide +kernel
theorem dX12_grant_187 : decode cX12_grant 187 = .ok (.aload_n 0, 1) := by decide +kernel
theorem dX12_grant_188 : decode cX12_grant 188 = .ok (.getfield 7, 3) := by decide +kernel
theorem dX12_grant_191 : decode cX12_grant 191 = .ok (.sipush 400, 3) := by decide +kernel
theorem dX12_grant_194 : decode cX12_grant 194 = .ok (.iconst 5, 1) := by decide +kernel
theorem dX12_grant_195 : decode cX12_grant 195 = .ok (.iload 7, 2) := by decide +kernel
theorem dX12_grant_197 : decode cX12_grant 197 = .ok (.imul, 1) := by decide +kernel
theorem dX12_grant_198 : decode cX12_grant 198 = .ok (.iadd, 1) := by decide +kernel
theorem dX12_grant_199 : decode cX12_grant 199 = .ok (.iconst 3, 1) := by decide +kernel
theorem dX12_grant_200 : decode cX12_grant 200 = .ok (.iadd, 1) := by decide +kernel
theorem dX12_grant_201 : decode cX12_grant 201 = .ok (.iload 4, 2) := by decide +kernel
theorem dX12_grant_203 : decode cX12_grant 203 = .ok (.iastore, 1) := by decide +kernel
theorem dX12_grant_204 : decode cX12_grant 204 = .ok (.aload_n 0, 1) := by decide +kernel
theorem dX12_grant_205 : decode cX12_grant 205 = .ok (.getfield 7, 3) := by decide +kernel
theorem dX12_grant_208 : decode cX12_grant 208 = .ok (.sipush 400, 3) := by decide +kernel
theorem dX12_grant_211 : decode cX12_grant 211 = .ok (.iconst 5, 1) := by decide +kernel
theorem dX12_grant_212 : decode cX12_grant 212 = .ok (.iload 7, 2) := by decide +kernel
theorem dX12_grant_214 : decode cX12_grant 214 = .ok (.imul, 1) := by decide +kernel
theorem dX12_grant_215 : decode cX12_grant 215 = .ok (.iadd, 1) := by decide +kernel
theorem dX12_grant_216 : decode cX12_grant 216 = .ok (.iconst 4, 1) := by decide +kernel
theorem dX12_grant_217 : decode cX12_grant 217 = .ok (.iadd, 1) := by decide +kernel
theorem dX12_grant_218 : decode cX12_grant 218 = .ok (.iload 5, 2) := by decide +kernel
theorem dX12_grant_220 : decode cX12_grant 220 = .ok (.iastore, 1) := by decide +kernel
theorem dX12_grant_221 : decode cX12_grant 221 = .ok (.aload_n 0, 1) := by decide +kernel
theorem dX12_grant_222 : decode cX12_grant 222 = .ok (.getfield 7, 3) := by decide +kernel
theorem dX12_grant_225 : decode cX12_grant 225 = .ok (.bipush 6, 2) := by decide +kernel
theorem dX12_grant_227 : decode cX12_grant 227 = .ok (.iaload, 1) := by decide +kernel
theorem dX12_grant_228 : decode cX12_grant 228 = .ok (.ireturn, 1) := by decide +kernel
set_option maxHeartbeats 4000000 in
set_option maxRecDepth 100000 in
theorem w_X12_grant (l : Launch) (G : GP) (x : XP) (a1 : Int32) (a2 : Int32) (a3 : Int32) (a4 : Int32) (a5 : Int32) (σ : Sto) (P : Int32 → Sto → Prop) (h : D_X12_grant a1 a2 a3 a4 a5 σ P) : g_Meti l yX12_grant cX12_grant 8 (some .int) rm_X12_grant G x [.ref (g_ad G 87), .int a1, .int a2, .int a3, .int a4, .int a5] σ P := by
  unfold D_X12_grant at h
  refine g_ofWi (by decide +kernel) (Nat.le_of_ble_eq_true rfl) ?_
  intro p e s m args below meth c Q ls C hM hl hret
  have hx := C.1
  have hb := C.2.1
  have hl : lv_has ls 8 [(0, .ref (g_ad G 87)), (1, .int a1), (2, .int a2), (3, .int a3), (4, .int a4), (5, .int a5)] := hl
  have h := h (fun (t0 : Int32) (σ : Sto) => ∀ (H : Heap) (locs : List Loc) (ls : Array Slot), g_M G x σ s H locs → lv_has ls 8 [(0, .ref (g_ad G 87)), (1, .int a1), (2, .int a2), (3, .int a3), (4, .int a4), (5, .int a5)] → W p l e rm_X12_grant s m args below meth c H locs 0 0 Q (F0 m 32 ls [.int t0])) (fun (v7 : Int32) (t0 : Int32) (σ : Sto) => ∀ (H : Heap) (locs : List Loc) (ls : Array Slot), g_M G x σ s H locs → lv_has ls 8 [(0, .ref (g_ad G 87)), (1, .int a1), (2, .int a2), (3, .int a3), (4, .int a4), (5, .int a5), (7, .int v7)] → W p l e rm_X12_grant s m args below meth c H locs 0 0 Q (F0 m 100 ls [.int t0, .ref (g_ad G 87)])) (fun (v7 : Int32) (σ : Sto) => ∀ (H : Heap) (locs : List Loc) (ls : Array Slot), g_M G x σ s H locs → lv_has ls 8 [(0, .ref (g_ad G 87)), (1, .int a1), (2, .int a2), (3, .int a3), (4, .int a4), (5, .int a5), (7, .int v7)] → W p l e rm_X12_grant s m args below meth c H locs 0 0 Q (F0 m 141 ls []))
  have h := h (by
    intro t0 σ h  H locs ls hM hl
    refine lv_istore (pc := 32) (lv' := [(6, .int t0), (0, .ref (g_ad G 87)), (1, .int a1), (2, .int a2), (3, .int a3), (4, .int a4), (5, .int a5)]) hx hb dX12_grant_32 hl (by decide) rfl (fun ls hl => ?_)
    refine lv_aload_n (pc := 34) hx hb dX12_grant_34 rfl (lv_at hl 1 rfl) ?_
    refine lv_iload_n (pc := 35) hx hb dX12_grant_35 rfl (lv_at hl 2 rfl) ?_
    refine lv_iload_n (pc := 36) hx hb dX12_grant_36 rfl (lv_at hl 3 rfl) ?_
    refine lv_iload_n (pc := 37) hx hb dX12_grant_37 rfl (lv_at hl 4 rfl) ?_
    refine g_cVi (pc := 38) C hM hl.1 yv_X12_grantWith q6_205 (by decide) ce_87 rfl (w_X12_grantWith l G x a1 a2 a3 σ _ h) rfl rfl ⟨⟨by decide, by decide⟩, by decide, by decide⟩ (Nat.le_of_ble_eq_true rfl) dX12_grant_38 (fun r38 s38 H locs h hM => ?_)
    refine lv_istore (pc := 41) (lv' := [(7, .int r38), (6, .int t0), (0, .ref (g_ad G 87)), (1, .int a1), (2, .int a2), (3, .int a3), (4, .int a4), (5, .int a5)]) hx hb dX12_grant_41 hl (by decide) rfl (fun ls hl => ?_)
    refine lv_aload_n (pc := 43) hx hb dX12_grant_43 rfl (lv_at hl 2 rfl) ?_
    refine lv_iload_n (pc := 44) hx hb dX12_grant_44 rfl (lv_at hl 3 rfl) ?_
    refine g_cSi (pc := 45) C hM hl.1 ys_X12_isSubject q6_213 (w_X12_isSubject l G x a1 s38 _ h) rfl rfl ⟨⟨by decide, by decide⟩, by decide, by decide⟩ (Nat.le_of_ble_eq_true rfl) dX12_grant_45 (fun r45 s45 H locs h hM => ?_)
    refine lv_if_eq (pc := 48) (tgt := 65) hx hb dX12_grant_48 (by decide) (fun c48 => ?_) (fun c48 => ?_)
    · have h := h.1 c48
      refine lv_iconst (pc := 65) (v := 1) hx hb dX12_grant_65 (by decide) ?_
      refine lv_goto (pc := 66) (tgt := 100) hx hb dX12_grant_66 (by decide) ?_
      exact h _ _ _ hM (lv_sub hl [2, 3, 4, 5, 6, 7, 0] rfl)
    · have h := h.2 c48
      refine lv_iload_n (pc := 51) hx hb dX12_grant_51 rfl (lv_at hl 4 rfl) ?_
      refine g_cSi (pc := 52) C hM hl.1 ys_X12_isSubject q6_213 (w_X12_isSubject l G x a2 s45 _ h) rfl rfl ⟨⟨by decide, by decide⟩, by decide, by decide⟩ (Nat.le_of_ble_eq_true rfl) dX12_grant_52 (fun r52 s52 H locs h hM => ?_)
      refine lv_if_eq (pc := 55) (tgt := 65) hx hb dX12_grant_55 (by decide) (fun c55 => ?_) (fun c55 => ?_)
      · have h := h.1 c55
        refine lv_iconst (pc := 65) (v := 1) hx hb dX12_grant_65 (by decide) ?_
        refine lv_goto (pc := 66) (tgt := 100) hx hb dX12_grant_66 (by decide) ?_
        exact h _ _ _ hM (lv_sub hl [2, 3, 4, 5, 6, 7, 0] rfl)
      · have h := h.2 c55
        refine lv_iload_n (pc := 58) hx hb dX12_grant_58 rfl (lv_at hl 5 rfl) ?_
        refine g_cSi (pc := 59) C hM hl.1 ys_X12_isPolicy q6_105 (w_X12_isPolicy l G x a3 s52 _ h) rfl rfl ⟨⟨by decide, by decide⟩, by decide, by decide⟩ (Nat.le_of_ble_eq_true rfl) dX12_grant_59 (fun r59 s59 H locs h hM => ?_)
        refine lv_if_ne (pc := 62) (tgt := 69) hx hb dX12_grant_62 (by decide) (fun c62 => ?_) (fun c62 => ?_)
        · have h := h.2 c62
          refine lv_iload (pc := 69) hx hb dX12_grant_69 (lv_at hl 1 rfl) ?_
          refine lv_if_ne (pc := 71) (tgt := 78) hx hb dX12_grant_71 (by decide) (fun c71 => ?_) (fun c71 => ?_)
          · have h := h.2 c71
            refine lv_iload (pc := 78) hx hb dX12_grant_78 (lv_at hl 0 rfl) ?_
            refine lv_if_ge (pc := 80) (tgt := 99) hx hb dX12_grant_80 (by decide) (fun c80 => ?_) (fun c80 => ?_)
            · have h := h.1 c80
              refine lv_iconst (pc := 99) (v := 0) hx hb dX12_grant_99 (by decide) ?_
              exact h _ _ _ hM (lv_sub hl [2, 3, 4, 5, 6, 7, 0] rfl)
            · have h := h.2 c80
              refine lv_aload_n (pc := 83) hx hb dX12_grant_83 rfl (lv_at hl 2 rfl) ?_
              refine g_get (pc := 84) (v := .ref (g_ad G 88)) C hM (by decide) ce_87 fl_RX12_7 rfl dX12_grant_84 ?_
              refine lv_bipush (pc := 87) (v := 6) hx hb dX12_grant_87 (by decide) ?_
              refine g_ialdK (pc := 89) (k := 6) C hM (by decide) ce_88 (vp_in_nI (n := 6) (by decide) (by decide)) rfl dX12_grant_89 ?_
              refine lv_bipush (pc := 90) (v := 30) hx hb dX12_grant_90 (by decide) ?_
              refine lv_icmp_ne (pc := 92) (tgt := 99) hx hb dX12_grant_92 (by decide) (fun c92 => ?_) (fun c92 => ?_)
              · have h := h.2 c92
                refine lv_iconst (pc := 99) (v := 0) hx hb dX12_grant_99 (by decide) ?_
                exact h _ _ _ hM (lv_sub hl [2, 3, 4, 5, 6, 7, 0] rfl)
              · have h := h.1 c92
                refine lv_iconst (pc := 95) (v := 3) hx hb dX12_grant_95 (by decide) ?_
                refine lv_goto (pc := 96) (tgt := 100) hx hb dX12_grant_96 (by decide) ?_
                exact h _ _ _ hM (lv_sub hl [2, 3, 4, 5, 6, 7, 0] rfl)
          · have h := h.1 c71
            refine lv_iconst (pc := 74) (v := 2) hx hb dX12_grant_74 (by decide) ?_
            refine lv_goto (pc := 75) (tgt := 100) hx hb dX12_grant_75 (by decide) ?_
            exact h _ _ _ hM (lv_sub hl [2, 3, 4, 5, 6, 7, 0] rfl)
        · have h := h.1 c62
          refine lv_iconst (pc := 65) (v := 1) hx hb dX12_grant_65 (by decide) ?_
          refine lv_goto (pc := 66) (tgt := 100) hx hb dX12_grant_66 (by decide) ?_
          exact h _ _ _ hM (lv_sub hl [2, 3, 4, 5, 6, 7, 0] rfl))
  have h := h (by
    intro v7 t0 σ h  H locs ls hM hl
    refine g_putE (pc := 100) C hM (by decide) ce_87 fp_RX12_68 rfl rfl (Nat.le_of_ble_eq_true rfl) rfl dX12_grant_100 (fun s100 es100 H locs hM => ?_)
    have h := h s100 es100
    refine lv_aload_n (pc := 103) hx hb dX12_grant_103 rfl (lv_at hl 0 rfl) ?_
    refine g_get (pc := 104) (v := .int (s100 87 8)) C hM (by decide) ce_87 fl_RX12_68 rfl dX12_grant_104 ?_
    refine lv_if_le (pc := 107) (tgt := 112) hx hb dX12_grant_107 (by decide) (fun c107 => ?_) (fun c107 => ?_)
    · have h := h.1 c107
      refine lv_aload_n (pc := 112) hx hb dX12_grant_112 rfl (lv_at hl 0 rfl) ?_
      refine g_cVv (pc := 113) C hM hl.1 yv_X12_changes q6_111 (by decide) ce_87 rfl (w_X12_changes l G x  s100 _ h) rfl rfl ⟨⟨by decide, by decide⟩, by decide, by decide⟩ (Nat.le_of_ble_eq_true rfl) dX12_grant_113 (fun s113 H locs h hM => ?_)
      refine lv_iload (pc := 116) hx hb dX12_grant_116 (lv_at hl 6 rfl) ?_
      refine lv_if_ge (pc := 118) (tgt := 141) hx hb dX12_grant_118 (by decide) (fun c118 => ?_) (fun c118 => ?_)
      · have h := h.1 c118
        exact h _ _ _ hM (lv_sub hl [0, 1, 2, 3, 4, 5, 6] rfl)
      · have h := h.2 c118
        refine lv_aload_n (pc := 121) hx hb dX12_grant_121 rfl (lv_at hl 0 rfl) ?_
        refine g_get (pc := 122) (v := .ref (g_ad G 88)) C hM (by decide) ce_87 fl_RX12_7 rfl dX12_grant_122 ?_
        refine lv_bipush (pc := 125) (v := 6) hx hb dX12_grant_125 (by decide) ?_
        refine g_ialdK (pc := 127) (k := 6) C hM (by decide) ce_88 (vp_in_nI (n := 6) (by decide) (by decide)) rfl dX12_grant_127 ?_
        refine lv_istore (pc := 128) (lv' := [(7, .int (s113 88 6)), (0, .ref (g_ad G 87)), (1, .int a1), (2, .int a2), (3, .int a3), (4, .int a4), (5, .int a5)]) hx hb dX12_grant_128 hl (by decide) rfl (fun ls hl => ?_)
        refine lv_aload_n (pc := 130) hx hb dX12_grant_130 rfl (lv_at hl 1 rfl) ?_
        refine g_get (pc := 131) (v := .ref (g_ad G 88)) C hM (by decide) ce_87 fl_RX12_7 rfl dX12_grant_131 ?_
        refine lv_bipush (pc := 134) (v := 6) hx hb dX12_grant_134 (by decide) ?_
        refine lv_dup2_11 (pc := 136) hx hb dX12_grant_136 rfl rfl ?_
        refine g_ialdK (pc := 137) (k := 6) C hM (by decide) ce_88 (vp_in_nI (n := 6) (by decide) (by decide)) rfl dX12_grant_137 ?_
        refine lv_iconst (pc := 138) (v := 1) hx hb dX12_grant_138 (by decide) ?_
        refine lv_iadd (pc := 139) hx hb dX12_grant_139 ?_
        refine g_iastE (pc := 140) (k := 6) C hM (by decide) ce_88 (vp_in_nI (n := 6) (by decide) (by decide)) rfl dX12_grant_140 (fun s140 es140 H locs hM => ?_)
        have h := h s140 es140
        exact h _ _ _ hM (lv_sub hl [1, 2, 3, 4, 5, 6, 0] rfl)
    · have h := h.2 c107
      refine lv_iconst (pc := 110) (v := 0) hx hb dX12_grant_110 (by decide) ?_
      exact hret 111 _ _ _ _ _ dX12_grant_111 (by rfl) h hM)
  have h := h (by
    intro v7 σ h  H locs ls hM hl
    refine lv_aload_n (pc := 141) hx hb dX12_grant_141 rfl (lv_at hl 0 rfl) ?_
    refine g_get (pc := 142) (v := .ref (g_ad G 88)) C hM (by decide) ce_87 fl_RX12_7 rfl dX12_grant_142 ?_
    refine lv_sipush (pc := 145) (v := 400) hx hb dX12_grant_145 (by decide) ?_
    refine lv_iconst (pc := 148) (v := 5) hx hb dX12_grant_148 (by decide) ?_
    refine lv_iload (pc := 149) hx hb dX12_grant_149 (lv_at hl 6 rfl) ?_
    refine lv_imul (pc := 151) hx hb dX12_grant_151 ?_
    refine lv_iadd (pc := 152) hx hb dX12_grant_152 ?_
    refine lv_iload_n (pc := 153) hx hb dX12_grant_153 rfl (lv_at hl 1 rfl) ?_
    obtain ⟨hc, h⟩ := h
    refine g_iastE (pc := 154) C hM (by decide) ce_88 hc rfl dX12_grant_154 (fun s154 es154 H locs hM => ?_)
    have h := h s154 es154
    refine lv_aload_n (pc := 155) hx hb dX12_grant_155 rfl (lv_at hl 0 rfl) ?_
    refine g_get (pc := 156) (v := .ref (g_ad G 88)) C hM (by decide) ce_87 fl_RX12_7 rfl dX12_grant_156 ?_
    refine lv_sipush (pc := 159) (v := 400) hx hb dX12_grant_159 (by decide) ?_
    refine lv_iconst (pc := 162) (v := 5) hx hb dX12_grant_162 (by decide) ?_
    refine lv_iload (pc := 163) hx hb dX12_grant_163 (lv_at hl 6 rfl) ?_
    refine lv_imul (pc := 165) hx hb dX12_grant_165 ?_
    refine lv_iadd (pc := 166) hx hb dX12_grant_166 ?_
    refine lv_iconst (pc := 167) (v := 1) hx hb dX12_grant_167 (by decide) ?_
    refine lv_iadd (pc := 168) hx hb dX12_grant_168 ?_
    refine lv_iload_n (pc := 169) hx hb dX12_grant_169 rfl (lv_at hl 2 rfl) ?_
    obtain ⟨hc, h⟩ := h
    refine g_iastE (pc := 170) C hM (by decide) ce_88 hc rfl dX12_grant_170 (fun s170 es170 H locs hM => ?_)
    have h := h s170 es170
    refine lv_aload_n (pc := 171) hx hb dX12_grant_171 rfl (lv_at hl 0 rfl) ?_
    refine g_get (pc := 172) (v := .ref (g_ad G 88)) C hM (by decide) ce_87 fl_RX12_7 rfl dX12_grant_172 ?_
    refine lv_sipush (pc := 175) (v := 400) hx hb dX12_grant_175 (by decide) ?_
    refine lv_iconst (pc := 178) (v := 5) hx hb dX12_grant_178 (by decide) ?_
    refine lv_iload (pc := 179) hx hb dX12_grant_179 (lv_at hl 6 rfl) ?_
    refine lv_imul (pc := 181) hx hb dX12_grant_181 ?_
    refine lv_iadd (pc := 182) hx hb dX12_grant_182 ?_
    refine lv_iconst (pc := 183) (v := 2) hx hb dX12_grant_183 (by decide) ?_
    refine lv_iadd (pc := 184) hx hb dX12_grant_184 ?_
    refine lv_iload_n (pc := 185) hx hb dX12_grant_185 rfl (lv_at hl 3 rfl) ?_
    obtain ⟨hc, h⟩ := h
    refine g_iastE (pc := 186) C hM (by decide) ce_88 hc rfl dX12_grant_186 (fun s186 es186 H locs hM => ?_)
    have h := h s186 es186
    refine lv_aload_n (pc := 187) hx hb dX12_grant_187 rfl (lv_at hl 0 rfl) ?_
    refine g_get (pc := 188) (v := .ref (g_ad G 88)) C hM (by decide) ce_87 fl_RX12_7 rfl dX12_grant_188 ?_
    refine lv_sipush (pc := 191) (v := 400) hx hb dX12_grant_191 (by decide) ?_
    refine lv_iconst (pc := 194) (v := 5) hx hb dX12_grant_194 (by decide) ?_
    refine lv_iload (pc := 195) hx hb dX12_grant_195 (lv_at hl 6 rfl) ?_
    refine lv_imul (pc := 197) hx hb dX12_grant_197 ?_
    refine lv_iadd (pc := 198) hx hb dX12_grant_198 ?_
    refine lv_iconst (pc := 199) (v := 3) hx hb dX12_grant_199 (by decide) ?_
    refine lv_iadd (pc := 200) hx hb dX12_grant_200 ?_
    refine lv_iload (pc := 201) hx hb dX12_grant_201 (lv_at hl 4 rfl) ?_
    obtain ⟨hc, h⟩ := h
    refine g_iastE (pc := 203) C hM (by decide) ce_88 hc rfl dX12_grant_203 (fun s203 es203 H locs hM => ?_)
    have h := h s203 es203
    refine lv_aload_n (pc := 204) hx hb dX12_grant_204 rfl (lv_at hl 0 rfl) ?_
    refine g_get (pc := 205) (v := .ref (g_ad G 88)) C hM (by decide) ce_87 fl_RX12_7 rfl dX12_grant_205 ?_
    refine lv_sipush (pc := 208) (v := 400) hx hb dX12_grant_208 (by decide) ?_
    refine lv_iconst (pc := 211) (v := 5) hx hb dX12_grant_211 (by decide) ?_
    refine lv_iload (pc := 212) hx hb dX12_grant_212 (lv_at hl 6 rfl) ?_
    refine lv_imul (pc := 214) hx hb dX12_grant_214 ?_
    refine lv_iadd (pc := 215) hx hb dX12_grant_215 ?_
    refine lv_iconst (pc := 216) (v := 4) hx hb dX12_grant_216 (by decide) ?_
    refine lv_iadd (pc := 217) hx hb dX12_grant_217 ?_
    refine lv_iload (pc := 218) hx hb dX12_grant_218 (lv_at hl 5 rfl) ?_
    obtain ⟨hc, h⟩ := h
    refine g_iastE (pc := 220) C hM (by decide) ce_88 hc rfl dX12_grant_220 (fun s220 es220 H locs hM => ?_)
    have h := h s220 es220
    refine lv_aload_n (pc := 221) hx hb dX12_grant_221 rfl (lv_at hl 0 rfl) ?_
    refine g_get (pc := 222) (v := .ref (g_ad G 88)) C hM (by decide) ce_87 fl_RX12_7 rfl dX12_grant_222 ?_
    refine lv_bipush (pc := 225) (v := 6) hx hb dX12_grant_225 (by decide) ?_
    refine g_ialdK (pc := 227) (k := 6) C hM (by decide) ce_88 (vp_in_nI (n := 6) (by decide) (by decide)) rfl dX12_grant_227 ?_
    exact hret 228 _ _ _ _ _ dX12_grant_228 (by rfl) h hM)
  refine lv_iload_n (pc := 0) hx hb dX12_grant_0 rfl (lv_at hl 1 rfl) ?_
  refine lv_iload_n (pc := 1) hx hb dX12_grant_1 rfl (lv_at hl 2 rfl) ?_
  refine lv_icmp_eq (pc := 2) (tgt := 31) hx hb dX12_grant_2 (by decide) (fun c2 => ?_) (fun c2 => ?_)
  · have h := h.1 c2
    refine lv_iconst (pc := 31) (v := 0) hx hb dX12_grant_31 (by decide) ?_
    exact h _ _ _ hM (lv_sub hl [0, 1, 2, 3, 4, 5] rfl)
  · have h := h.2 c2
    refine lv_iload (pc := 5) hx hb dX12_grant_5 (lv_at hl 4 rfl) ?_
    refine lv_iconst (pc := 7) (v := 0) hx hb dX12_grant_7 (by decide) ?_
    refine lv_iconst (pc := 8) (v := 5) hx hb dX12_grant_8 (by decide) ?_
    refine g_cSi (pc := 9) C hM hl.1 ys_X12_in q6_108 (w_X12_in l G x a4 0 5 σ _ h) rfl rfl ⟨⟨by decide, by decide⟩, by decide, by decide⟩ (Nat.le_of_ble_eq_true rfl) dX12_grant_9 (fun r9 s9 H locs h hM => ?_)
    refine lv_if_eq (pc := 12) (tgt := 31) hx hb dX12_grant_12 (by decide) (fun c12 => ?_) (fun c12 => ?_)
    · have h := h.1 c12
      refine lv_iconst (pc := 31) (v := 0) hx hb dX12_grant_31 (by decide) ?_
      exact h _ _ _ hM (lv_sub hl [0, 1, 2, 3, 4, 5] rfl)
    · have h := h.2 c12
      refine lv_iload (pc := 15) hx hb dX12_grant_15 (lv_at hl 5 rfl) ?_
      refine lv_iconst (pc := 17) (v := 0) hx hb dX12_grant_17 (by decide) ?_
      refine lv_sipush (pc := 18) (v := 1000) hx hb dX12_grant_18 (by decide) ?_
      refine g_cSi (pc := 21) C hM hl.1 ys_X12_in q6_108 (w_X12_in l G x a5 0 1000 s9 _ h) rfl rfl ⟨⟨by decide, by decide⟩, by decide, by decide⟩ (Nat.le_of_ble_eq_true rfl) dX12_grant_21 (fun r21 s21 H locs h hM => ?_)
      refine lv_if_eq (pc := 24) (tgt := 31) hx hb dX12_grant_24 (by decide) (fun c24 => ?_) (fun c24 => ?_)
      · have h := h.1 c24
        refine lv_iconst (pc := 31) (v := 0) hx hb dX12_grant_31 (by decide) ?_
        exact h _ _ _ hM (lv_sub hl [0, 1, 2, 3, 4, 5] rfl)
      · have h := h.2 c24
        refine lv_iconst (pc := 27) (v := 1) hx hb dX12_grant_27 (by decide) ?_
        refine lv_goto (pc := 28) (tgt := 32) hx hb dX12_grant_28 (by decide) ?_
        exact h _ _ _ hM (lv_sub hl [0, 1, 2, 3, 4, 5] rfl)
