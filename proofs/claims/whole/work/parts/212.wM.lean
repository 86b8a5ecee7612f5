abbrev rm_X12_decides : Room := { frames := 17, cells := 0, slots := 0, locals := 904 }
theorem dX12_decides_0 : decode cX12_decides 0 = .ok (.aload_n 0, 1) := by decide +kernel
theorem dX12_decides_1 : decode cX12_decides 1 = .ok (.getfield 43, 3) := by decide +kernel
theorem dX12_decides_4 : decode cX12_decides 4 = .ok (.iconst 0, 1) := by decide +kernel
theorem dX12_decides_5 : decode cX12_decides 5 = .ok (.iconst 0, 1) := by decide +kernel
theorem dX12_decides_6 : decode cX12_decides 6 = .ok (.iastore, 1) := by decide +kernel
theorem dX12_decides_7 : decode cX12_decides 7 = .ok (.iconst 0, 1) := by decide +kernel
theorem dX12_decides_8 : decode cX12_decides 8 = .ok (.istore_n 3, 1) := by decide +kernel
theorem dX12_decides_9 : decode cX12_decides 9 = .ok (.iload_n 3, 1) := by decide +kernel
theorem dX12_decides_10 : decode cX12_decides 10 = .ok (.aload_n 0, 1) := by decide +kernel
theorem dX12_decides_11 : decode cX12_decides 11 = .ok (.getfield 7, 3) := by decide +kernel
theorem dX12_decides_14 : decode cX12_decides 14 = .ok (.iconst 0, 1) := by decide +kernel
theorem dX12_decides_15 : decode cX12_decides 15 = .ok (.iaload, 1) := by decide +kernel
theorem dX12_decides_16 : decode cX12_decides 16 = .ok (.if_icmp .ge 39, 3) := by decide +kernel
theorem dX12_decides_19 : decode cX12_decides 19 = .ok (.aload_n 0, 1) := by decide +kernel
theorem dX12_decides_20 : decode cX12_decides 20 = .ok (.getfield 43, 3) := by decide +kernel
theorem dX12_decides_23 : decode cX12_decides 23 = .ok (.iconst 0, 1) := by decide +kernel
theorem dX12_decides_24 : decode cX12_decides 24 = .ok (.dup2, 1) := by decide +kernel
theorem dX12_decides_25 : decode cX12_decides 25 = .ok (.iaload, 1) := by decide +kernel
theorem dX12_decides_26 : decode cX12_decides 26 = .ok (.iload_n 3, 1) := by decide +kernel
theorem dX12_decides_27 : decode cX12_decides 27 = .ok (.iload_n 2, 1) := by decide +kernel
theorem dX12_decides_28 : decode cX12_decides 28 = .ok (.if_icmp .eq 18, 3) := by decide +kernel
theorem dX12_decides_31 : decode cX12_decides 31 = .ok (.aload_n 0, 1) := by decide +kernel
theorem dX12_decides_32 : decode cX12_decides 32 = .ok (.iload_n 1, 1) := by decide +kernel
theorem dX12_decides_33 : decode cX12_decides 33 = .ok (.iload_n 3, 1) := by decide +kernel
theorem dX12_decides_34 : decode cX12_decides 34 = .ok (.invokevirtual 231, 3) := by decide +kernel
theorem dX12_decides_37 : decode cX12_decides 37 = .ok (.ifCond .eq 9, 3) := by decide +kernel
theorem dX12_decides_40 : decode cX12_decides 40 = .ok (.iconst 1, 1) := by decide +kernel
theorem dX12_decides_41 : decode cX12_decides 41 = .ok (.iload_n 3, 1) := by decide +kernel
theorem dX12_decides_42 : decode cX12_decides 42 = .ok (.ishl, 1) := by decide +kernel
theorem dX12_decides_43 : decode cX12_decides 43 = .ok (.goto 4, 3) := by decide +kernel
theorem dX12_decides_46 : decode cX12_decides 46 = .ok (.iconst 0, 1) := by decide +kernel
theorem dX12_decides_47 : decode cX12_decides 47 = .ok (.ior, 1) := by decide +kernel
theorem dX12_decides_48 : decode cX12_decides 48 = .ok (.iastore, 1) := by decide +kernel
theorem dX12_decides_49 : decode cX12_decides 49 = .ok (.iinc 3 1, 3) := by decide +kernel
theorem dX12_decides_52 : decode cX12_decides 52 = .ok (.goto (-43), 3) := by decide +kernel
theorem dX12_decides_55 : decode cX12_decides 55 = .ok (.aload_n 0, 1) := by decide +kernel
theorem dX12_decides_56 : decode cX12_decides 56 = .ok (.iload_n 1, 1) := by decide +kernel
theorem dX12_decides_57 : decode cX12_decides 57 = .ok (.iconst 0, 1) := by decide +kernel
theorem dX12_decides_58 : decode cX12_decides 58 = .ok (.invokevirtual 228, 3) := by decide +kernel
theorem dX12_decides_61 : decode cX12_decides 61 = .ok (.ireturn, 1) := by decide +kernel
set_option maxHeartbeats 4000000 in
set_option maxRecDepth 100000 in
theorem w_X12_decides (l : Launch) (G : GP) (x : XP) (a1 : Int32) (a2 : Int32) (σ : Sto) (P : Int32 → Sto → Prop) (h : D_X12_decides a1 a2 σ P) : g_Meti l yX12_decides cX12_decides 4 (some .boolean) rm_X12_decides G x [.ref (g_ad G 87), .int a1, .int a2] σ P := by
  unfold D_X12_decides at h
  refine g_ofWi (by decide +kernel) (Nat.le_of_ble_eq_true rfl) ?_
  intro p e s m args below meth c Q ls C hM hl hret
  have hx := C.1
  have hb := C.2.1
  have hl : lv_has ls 4 [(0, .ref (g_ad G 87)), (1, .int a1), (2, .int a2)] := hl
  have h := h (fun (v3 : Int32) (σ : Sto) => ∀ (H : Heap) (locs : List Loc) (ls : Array Slot), g_M G x σ s H locs → lv_has ls 4 [(0, .ref (g_ad G 87)), (1, .int a1), (2, .int a2), (3, .int v3)] → W p l e rm_X12_decides s m args below meth c H locs 0 0 Q (F0 m 9 ls []))
  have h := h (by
    intro v3 σ h  H locs ls hM hl
    refine lv_iload_n (pc := 9) hx hb dX12_decides_9 rfl (lv_at hl 3 rfl) ?_
    refine lv_aload_n (pc := 10) hx hb dX12_decides_10 rfl (lv_at hl 0 rfl) ?_
    refine g_get (pc := 11) (v := .ref (g_ad G 88)) C hM (by decide) ce_87 fl_RX12_7 rfl dX12_decides_11 ?_
    refine lv_iconst (pc := 14) (v := 0) hx hb dX12_decides_14 (by decide) ?_
    refine g_ialdK (pc := 15) (k := 0) C hM (by decide) ce_88 (vp_in_nI (n := 0) (by decide) (by decide)) rfl dX12_decides_15 ?_
    refine lv_icmp_ge (pc := 16) (tgt := 55) hx hb dX12_decides_16 (by decide) (fun c16 => ?_) (fun c16 => ?_)
    · have h := h.1 c16
      refine lv_aload_n (pc := 55) hx hb dX12_decides_55 rfl (lv_at hl 0 rfl) ?_
      refine lv_iload_n (pc := 56) hx hb dX12_decides_56 rfl (lv_at hl 1 rfl) ?_
      refine lv_iconst (pc := 57) (v := 0) hx hb dX12_decides_57 (by decide) ?_
      refine g_cVi (pc := 58) C hM hl.1 yv_X12_finds q7_151 (by decide) ce_87 rfl (w_X12_finds l G x 8 a1 0 σ _ h) rfl rfl ⟨⟨by decide, by decide⟩, by decide, by decide⟩ (Nat.le_of_ble_eq_true rfl) dX12_decides_58 (fun r58 s58 H locs h hM => ?_)
      exact hret 61 _ _ _ _ _ dX12_decides_61 (nar_b h.1) h.2 hM
    · have h := h.2 c16
      refine lv_aload_n (pc := 19) hx hb dX12_decides_19 rfl (lv_at hl 0 rfl) ?_
      refine g_get (pc := 20) (v := .ref (g_ad G 99)) C hM (by decide) ce_87 fl_RX12_43 rfl dX12_decides_20 ?_
      refine lv_iconst (pc := 23) (v := 0) hx hb dX12_decides_23 (by decide) ?_
      refine lv_dup2_11 (pc := 24) hx hb dX12_decides_24 rfl rfl ?_
      refine g_ialdK (pc := 25) (k := 0) C hM (by decide) ce_99 (vp_in_nI (n := 0) (by decide) (by decide)) rfl dX12_decides_25 ?_
      refine lv_iload_n (pc := 26) hx hb dX12_decides_26 rfl (lv_at hl 3 rfl) ?_
      refine lv_iload_n (pc := 27) hx hb dX12_decides_27 rfl (lv_at hl 2 rfl) ?_
      refine lv_icmp_eq (pc := 28) (tgt := 46) hx hb dX12_decides_28 (by decide) (fun c28 => ?_) (fun c28 => ?_)
      · have h := h.1 c28
        refine lv_iconst (pc := 46) (v := 0) hx hb dX12_decides_46 (by decide) ?_
        refine lv_ior (pc := 47) hx hb dX12_decides_47 ?_
        refine g_iastE (pc := 48) (k := 0) C hM (by decide) ce_99 (vp_in_nI (n := 0) (by decide) (by decide)) rfl dX12_decides_48 (fun s48 es48 H locs hM => ?_)
        have h := h s48 es48
        refine lv_iinc (pc := 49) (v := (v3 + 1)) (lv' := [(3, .int (v3 + 1)), (0, .ref (g_ad G 87)), (1, .int a1), (2, .int a2)]) hx hb dX12_decides_49 hl (k := 3) rfl (by rfl) (by decide) rfl (fun ls hl => ?_)
        refine lv_goto (pc := 52) (tgt := 9) hx hb dX12_decides_52 (by decide) ?_
        exact h _ _ _ hM (lv_sub hl [1, 2, 3, 0] rfl)
      · have h := h.2 c28
        refine lv_aload_n (pc := 31) hx hb dX12_decides_31 rfl (lv_at hl 0 rfl) ?_
        refine lv_iload_n (pc := 32) hx hb dX12_decides_32 rfl (lv_at hl 1 rfl) ?_
        refine lv_iload_n (pc := 33) hx hb dX12_decides_33 rfl (lv_at hl 3 rfl) ?_
        refine g_cVi (pc := 34) C hM hl.1 yv_X12_isBeaten q7_147 (by decide) ce_87 rfl (w_X12_isBeaten l G x a1 v3 σ _ h) rfl rfl ⟨⟨by decide, by decide⟩, by decide, by decide⟩ (Nat.le_of_ble_eq_true rfl) dX12_decides_34 (fun r34 s34 H locs h hM => ?_)
        refine lv_if_eq (pc := 37) (tgt := 46) hx hb dX12_decides_37 (by decide) (fun c37 => ?_) (fun c37 => ?_)
        · have h := h.1 c37
          refine lv_iconst (pc := 46) (v := 0) hx hb dX12_decides_46 (by decide) ?_
          refine lv_ior (pc := 47) hx hb dX12_decides_47 ?_
          refine g_iastE (pc := 48) (k := 0) C hM (by decide) ce_99 (vp_in_nI (n := 0) (by decide) (by decide)) rfl dX12_decides_48 (fun s48 es48 H locs hM => ?_)
          have h := h s48 es48
          refine lv_iinc (pc := 49) (v := (v3 + 1)) (lv' := [(3, .int (v3 + 1)), (0, .ref (g_ad G 87)), (1, .int a1), (2, .int a2)]) hx hb dX12_decides_49 hl (k := 3) rfl (by rfl) (by decide) rfl (fun ls hl => ?_)
          refine lv_goto (pc := 52) (tgt := 9) hx hb dX12_decides_52 (by decide) ?_
          exact h _ _ _ hM (lv_sub hl [1, 2, 3, 0] rfl)
        · have h := h.2 c37
          refine lv_iconst (pc := 40) (v := 1) hx hb dX12_decides_40 (by decide) ?_
          refine lv_iload_n (pc := 41) hx hb dX12_decides_41 rfl (lv_at hl 3 rfl) ?_
          refine lv_ishl (pc := 42) hx hb dX12_decides_42 ?_
          refine lv_goto (pc := 43) (tgt := 47) hx hb dX12_decides_43 (by decide) ?_
          refine lv_ior (pc := 47) hx hb dX12_decides_47 ?_
          refine g_iastE (pc := 48) (k := 0) C hM (by decide) ce_99 (vp_in_nI (n := 0) (by decide) (by decide)) rfl dX12_decides_48 (fun s48 es48 H locs hM => ?_)
          have h := h s48 es48
          refine lv_iinc (pc := 49) (v := (v3 + 1)) (lv' := [(3, .int (v3 + 1)), (0, .ref (g_ad G 87)), (1, .int a1), (2, .int a2)]) hx hb dX12_decides_49 hl (k := 3) rfl (by rfl) (by decide) rfl (fun ls hl => ?_)
          refine lv_goto (pc := 52) (tgt := 9) hx hb dX12_decides_52 (by decide) ?_
          exact h _ _ _ hM (lv_sub hl [1, 2, 3, 0] rfl))
  refine lv_aload_n (pc := 0) hx hb dX12_decides_0 rfl (lv_at hl 0 rfl) ?_
  refine g_get (pc := 1) (v := .ref (g_ad G 99)) C hM (by decide) ce_87 fl_RX12_43 rfl dX12_decides_1 ?_
  refine lv_iconst (pc := 4) (v := 0) hx hb dX12_decides_4 (by decide) ?_
  refine lv_iconst (pc := 5) (v := 0) hx hb dX12_decides_5 (by decide) ?_
  refine g_iastE (pc := 6) (k := 0) C hM (by decide) ce_99 (vp_in_nI (n := 0) (by decide) (by decide)) rfl dX12_decides_6 (fun s6 es6 H locs hM => ?_)
  have h := h s6 es6
  refine lv_iconst (pc := 7) (v := 0) hx hb dX12_decides_7 (by decide) ?_
  refine lv_istore_n (pc := 8) (lv' := [(3, .int 0), (0, .ref (g_ad G 87)), (1, .int a1), (2, .int a2)]) hx hb dX12_decides_8 rfl hl (by decide) rfl (fun ls hl => ?_)
  exact h _ _ _ hM (lv_sub hl [1, 2, 3, 0] rfl)
abbrev rm_X12_neverDeciding : Room := { frames := 18, cells := 0, slots := 0, locals := 927 }
theorem dX12_neverDeciding_0 : decode cX12_neverDeciding 0 = .ok (.aload_n 0, 1) := by decide +kernel
theorem dX12_neverDeciding_1 : decode cX12_neverDeciding 1 = .ok (.iload_n 1, 1) := by decide +kernel
theorem dX12_neverDeciding_2 : decode cX12_neverDeciding 2 = .ok (.invokestatic 86, 3) := by decide +kernel
theorem dX12_neverDeciding_5 : decode cX12_neverDeciding 5 = .ok (.ifCond .eq 7, 3) := by decide +kernel
theorem dX12_neverDeciding_8 : decode cX12_neverDeciding 8 = .ok (.iconst 0, 1) := by decide +kernel
theorem dX12_neverDeciding_9 : decode cX12_neverDeciding 9 = .ok (.goto 4, 3) := by decide +kernel
theorem dX12_neverDeciding_12 : decode cX12_neverDeciding 12 = .ok (.iconst 1, 1) := by decide +kernel
theorem dX12_neverDeciding_13 : decode cX12_neverDeciding 13 = .ok (.putfield 68, 3) := by decide +kernel
theorem dX12_neverDeciding_16 : decode cX12_neverDeciding 16 = .ok (.aload_n 0, 1) := by decide +kernel
theorem dX12_neverDeciding_17 : decode cX12_neverDeciding 17 = .ok (.getfield 68, 3) := by decide +kernel
theorem dX12_neverDeciding_20 : decode cX12_neverDeciding 20 = .ok (.ifCond .le 5, 3) := by decide +kernel
theorem dX12_neverDeciding_23 : decode cX12_neverDeciding 23 = .ok (.iconst 0, 1) := by decide +kernel
theorem dX12_neverDeciding_24 : decode cX12_neverDeciding 24 = .ok (.ireturn, 1) := by decide +kernel
theorem dX12_neverDeciding_25 : decode cX12_neverDeciding 25 = .ok (.aload_n 0, 1) := by decide +kernel
theorem dX12_neverDeciding_26 : decode cX12_neverDeciding 26 = .ok (.invokevirtual 171, 3) := by decide +kernel
theorem dX12_neverDeciding_29 : decode cX12_neverDeciding 29 = .ok (.iconst 0, 1) := by decide +kernel
theorem dX12_neverDeciding_30 : decode cX12_neverDeciding 30 = .ok (.istore_n 2, 1) := by decide +kernel
theorem dX12_neverDeciding_31 : decode cX12_neverDeciding 31 = .ok (.iconst 0, 1) := by decide +kernel
theorem dX12_neverDeciding_32 : decode cX12_neverDeciding 32 = .ok (.istore_n 3, 1) := by decide +kernel
theorem dX12_neverDeciding_33 : decode cX12_neverDeciding 33 = .ok (.iload_n 3, 1) := by decide +kernel
theorem dX12_neverDeciding_34 : decode cX12_neverDeciding 34 = .ok (.aload_n 0, 1) := by decide +kernel
theorem dX12_neverDeciding_35 : decode cX12_neverDeciding 35 = .ok (.getfield 7, 3) := by decide +kernel
theorem dX12_neverDeciding_38 : decode cX12_neverDeciding 38 = .ok (.iconst 0, 1) := by decide +kernel
theorem dX12_neverDeciding_39 : decode cX12_neverDeciding 39 = .ok (.iaload, 1) := by decide +kernel
theorem dX12_neverDeciding_40 : decode cX12_neverDeciding 40 = .ok (.if_icmp .ge 36, 3) := by decide +kernel
theorem dX12_neverDeciding_43 : decode cX12_neverDeciding 43 = .ok (.iload_n 2, 1) := by decide +kernel
theorem dX12_neverDeciding_44 : decode cX12_neverDeciding 44 = .ok (.aload_n 0, 1) := by decide +kernel
theorem dX12_neverDeciding_45 : decode cX12_neverDeciding 45 = .ok (.iload_n 3, 1) := by decide +kernel
theorem dX12_neverDeciding_46 : decode cX12_neverDeciding 46 = .ok (.iconst 0, 1) := by decide +kernel
theorem dX12_neverDeciding_47 : decode cX12_neverDeciding 47 = .ok (.invokevirtual 97, 3) := by decide +kernel
theorem dX12_neverDeciding_50 : decode cX12_neverDeciding 50 = .ok (.iload_n 1, 1) := by decide +kernel
theorem dX12_neverDeciding_51 : decode cX12_neverDeciding 51 = .ok (.if_icmp .ne 16, 3) := by decide +kernel
theorem dX12_neverDeciding_54 : decode cX12_neverDeciding 54 = .ok (.aload_n 0, 1) := by decide +kernel
theorem dX12_neverDeciding_55 : decode cX12_neverDeciding 55 = .ok (.iload_n 3, 1) := by decide +kernel
theorem dX12_neverDeciding_56 : decode cX12_neverDeciding 56 = .ok (.iconst (-1), 1) := by decide +kernel
theorem dX12_neverDeciding_57 : decode cX12_neverDeciding 57 = .ok (.invokevirtual 234, 3) := by decide +kernel
theorem dX12_neverDeciding_60 : decode cX12_neverDeciding 60 = .ok (.ifCond .ne 7, 3) := by decide +kernel
theorem dX12_neverDeciding_63 : decode cX12_neverDeciding 63 = .ok (.iconst 1, 1) := by decide +kernel
theorem dX12_neverDeciding_64 : decode cX12_neverDeciding 64 = .ok (.goto 4, 3) := by decide +kernel
theorem dX12_neverDeciding_67 : decode cX12_neverDeciding 67 = .ok (.iconst 0, 1) := by decide +kernel
theorem dX12_neverDeciding_68 : decode cX12_neverDeciding 68 = .ok (.iadd, 1) := by decide +kernel
theorem dX12_neverDeciding_69 : decode cX12_neverDeciding 69 = .ok (.istore_n 2, 1) := by decide +kernel
theorem dX12_neverDeciding_70 : decode cX12_neverDeciding 70 = .ok (.iinc 3 1, 3) := by decide +kernel
theorem dX12_neverDeciding_73 : decode cX12_neverDeciding 73 = .ok (.goto (-40), 3) := by decide +kernel
theorem dX12_neverDeciding_76 : decode cX12_neverDeciding 76 = .ok (.iload_n 2, 1) := by decide +kernel
theorem dX12_neverDeciding_77 : decode cX12_neverDeciding 77 = .ok (.ireturn, 1) := by decide +kernel
set_option maxHeartbeats 4000000 in
set_option maxRecDepth 100000 in
theorem w_X12_neverDeciding (l : Launch) (G : GP) (x : XP) (a1 : Int32) (σ : Sto) (P : Int32 → Sto → Prop) (h : D_X12_neverDeciding a1 σ P) : g_Meti l yX12_neverDeciding cX12_neverDeciding 4 (some .int) rm_X12_neverDeciding G x [.ref (g_ad G 87), .int a1] σ P := by
  unfold D_X12_neverDeciding at h
  refine g_ofWi (by decide +kernel) (Nat.le_of_ble_eq_true rfl) ?_
  intro p e s m args below meth c Q ls C hM hl hret
  have hx := C.1
  have hb := C.2.1
  have hl : lv_has ls 4 [(0, .ref (g_ad G 87)), (1, .int a1)] := hl
  have h := h (fun (v2 : Int32) (v3 : Int32) (σ : Sto) => ∀ (H : Heap) (locs : List Loc) (ls : Array Slot), g_M G x σ s H locs → lv_has ls 4 [(0, .ref (g_ad G 87)), (1, .int a1), (2, .int v2), (3, .int v3)] → W p l e rm_X12_neverDeciding s m args below meth c H locs 0 0 Q (F0 m 33 ls []))
  have h := h (by
    intro v2 v3 σ h  H locs ls hM hl
    refine lv_iload_n (pc := 33) hx hb dX12_neverDeciding_33 rfl (lv_at hl 3 rfl) ?_
    refine lv_aload_n (pc := 34) hx hb dX12_neverDeciding_34 rfl (lv_at hl 0 rfl) ?_
    refine g_get (pc := 35) (v := .ref (g_ad G 88)) C hM (by decide) ce_87 fl_RX12_7 rfl dX12_neverDeciding_35 ?_
    refine lv_iconst (pc := 38) (v := 0) hx hb dX12_neverDeciding_38 (by decide) ?_
    refine g_ialdK (pc := 39) (k := 0) C hM (by decide) ce_88 (vp_in_nI (n := 0) (by decide) (by decide)) rfl dX12_neverDeciding_39 ?_
    refine lv_icmp_ge (pc := 40) (tgt := 76) hx hb dX12_neverDeciding_40 (by decide) (fun c40 => ?_) (fun c40 => ?_)
    · have h := h.1 c40
      refine lv_iload_n (pc := 76) hx hb dX12_neverDeciding_76 rfl (lv_at hl 2 rfl) ?_
      exact hret 77 _ _ _ _ _ dX12_neverDeciding_77 (by rfl) h hM
    · have h := h.2 c40
      refine lv_iload_n (pc := 43) hx hb dX12_neverDeciding_43 rfl (lv_at hl 2 rfl) ?_
      refine lv_aload_n (pc := 44) hx hb dX12_neverDeciding_44 rfl (lv_at hl 0 rfl) ?_
      refine lv_iload_n (pc := 45) hx hb dX12_neverDeciding_45 rfl (lv_at hl 3 rfl) ?_
      refine lv_iconst (pc := 46) (v := 0) hx hb dX12_neverDeciding_46 (by decide) ?_
      refine g_cVi (pc := 47) C hM hl.1 yv_X12_of q6_131 (by decide) ce_87 rfl (w_X12_of l G x v3 0 σ _ h) rfl rfl ⟨⟨by decide, by decide⟩, by decide, by decide⟩ (Nat.le_of_ble_eq_true rfl) dX12_neverDeciding_47 (fun r47 s47 H locs h hM => ?_)
      refine lv_iload_n (pc := 50) hx hb dX12_neverDeciding_50 rfl (lv_at hl 1 rfl) ?_
      refine lv_icmp_ne (pc := 51) (tgt := 67) hx hb dX12_neverDeciding_51 (by decide) (fun c51 => ?_) (fun c51 => ?_)
      · have h := h.2 c51
        refine lv_iconst (pc := 67) (v := 0) hx hb dX12_neverDeciding_67 (by decide) ?_
        refine lv_iadd (pc := 68) hx hb dX12_neverDeciding_68 ?_
        refine lv_istore_n (pc := 69) (lv' := [(2, .int (v2 + 0)), (0, .ref (g_ad G 87)), (1, .int a1), (3, .int v3)]) hx hb dX12_neverDeciding_69 rfl hl (by decide) rfl (fun ls hl => ?_)
        refine lv_iinc (pc := 70) (v := (v3 + 1)) (lv' := [(3, .int (v3 + 1)), (2, .int (v2 + 0)), (0, .ref (g_ad G 87)), (1, .int a1)]) hx hb dX12_neverDeciding_70 hl (k := 3) rfl (by rfl) (by decide) rfl (fun ls hl => ?_)
        refine lv_goto (pc := 73) (tgt := 33) hx hb dX12_neverDeciding_73 (by decide) ?_
        exact h _ _ _ hM (lv_sub hl [2, 3, 1, 0] rfl)
      · have h := h.1 c51
        refine lv_aload_n (pc := 54) hx hb dX12_neverDeciding_54 rfl (lv_at hl 0 rfl) ?_
        refine lv_iload_n (pc := 55) hx hb dX12_neverDeciding_55 rfl (lv_at hl 3 rfl) ?_
        refine lv_iconst (pc := 56) (v := (-1)) hx hb dX12_neverDeciding_56 (by decide) ?_
        refine g_cVi (pc := 57) C hM hl.1 yv_X12_decides q7_143 (by decide) ce_87 rfl (w_X12_decides l G x v3 (-1) s47 _ h) rfl rfl ⟨⟨by decide, by decide⟩, by decide, by decide⟩ (Nat.le_of_ble_eq_true rfl) dX12_neverDeciding_57 (fun r57 s57 H locs h hM => ?_)
        refine lv_if_ne (pc := 60) (tgt := 67) hx hb dX12_neverDeciding_60 (by decide) (fun c60 => ?_) (fun c60 => ?_)
        · have h := h.2 c60
          refine lv_iconst (pc := 67) (v := 0) hx hb dX12_neverDeciding_67 (by decide) ?_
          refine lv_iadd (pc := 68) hx hb dX12_neverDeciding_68 ?_
          refine lv_istore_n (pc := 69) (lv' := [(2, .int (v2 + 0)), (0, .ref (g_ad G 87)), (1, .int a1), (3, .int v3)]) hx hb dX12_neverDeciding_69 rfl hl (by decide) rfl (fun ls hl => ?_)
          refine lv_iinc (pc := 70) (v := (v3 + 1)) (lv' := [(3, .int (v3 + 1)), (2, .int (v2 + 0)), (0, .ref (g_ad G 87)), (1, .int a1)]) hx hb dX12_neverDeciding_70 hl (k := 3) rfl (by rfl) (by decide) rfl (fun ls hl => ?_)
          refine lv_goto (pc := 73) (tgt := 33) hx hb dX12_neverDeciding_73 (by decide) ?_
          exact h _ _ _ hM (lv_sub hl [2, 3, 1, 0] rfl)
        · have h := h.1 c60
          refine lv_iconst (pc := 63) (v := 1) hx hb dX12_neverDeciding_63 (by decide) ?_
          refine lv_goto (pc := 64) (tgt := 68) hx hb dX12_neverDeciding_64 (by decide) ?_
          refine lv_iadd (pc := 68) hx hb dX12_neverDeciding_68 ?_
          refine lv_istore_n (pc := 69) (lv' := [(2, .int (v2 + 1)), (0, .ref (g_ad G 87)), (1, .int a1), (3, .int v3)]) hx hb dX12_neverDeciding_69 rfl hl (by decide) rfl (fun ls hl => ?_)
          refine lv_iinc (pc := 70) (v := (v3 + 1)) (lv' := [(3, .int (v3 + 1)), (2, .int (v2 + 1)), (0, .ref (g_ad G 87)), (1, .int a1)]) hx hb dX12_neverDeciding_70 hl (k := 3) rfl (by rfl) (by decide) rfl (fun ls hl => ?_)
          refine lv_goto (pc := 73) (tgt := 33) hx hb dX12_neverDeciding_73 (by decide) ?_
          exact h _ _ _ hM (lv_sub hl [2, 3, 1, 0] rfl))
  refine lv_aload_n (pc := 0) hx hb dX12_neverDeciding_0 rfl (lv_at hl 0 rfl) ?_
  refine lv_iload_n (pc := 1) hx hb dX12_neverDeciding_1 rfl (lv_at hl 1 rfl) ?_
  refine g_cSi (pc := 2) C hM hl.1 ys_X12_isPolicy q6_105 (w_X12_isPolicy l G x a1 σ _ h) rfl rfl ⟨⟨by decide, by decide⟩, by decide, by decide⟩ (Nat.le_of_ble_eq_true rfl) dX12_neverDeciding_2 (fun r2 s2 H locs h hM => ?_)
  refine lv_if_eq (pc := 5) (tgt := 12) hx hb dX12_neverDeciding_5 (by decide) (fun c5 => ?_) (fun c5 => ?_)
  · have h := h.1 c5
    refine lv_iconst (pc := 12) (v := 1) hx hb dX12_neverDeciding_12 (by decide) ?_
    refine g_putE (pc := 13) C hM (by decide) ce_87 fp_RX12_68 rfl rfl (Nat.le_of_ble_eq_true rfl) rfl dX12_neverDeciding_13 (fun s13 es13 H locs hM => ?_)
    have h := h s13 es13
    refine lv_aload_n (pc := 16) hx hb dX12_neverDeciding_16 rfl (lv_at hl 0 rfl) ?_
    refine g_get (pc := 17) (v := .int (s13 87 8)) C hM (by decide) ce_87 fl_RX12_68 rfl dX12_neverDeciding_17 ?_
    refine lv_if_le (pc := 20) (tgt := 25) hx hb dX12_neverDeciding_20 (by decide) (fun c20 => ?_) (fun c20 => ?_)
    · have h := h.1 c20
      refine lv_aload_n (pc := 25) hx hb dX12_neverDeciding_25 rfl (lv_at hl 0 rfl) ?_
      refine g_cVv (pc := 26) C hM hl.1 yv_X12_laySets q7_44 (by decide) ce_87 rfl (w_X12_laySets l G x  s13 _ h) rfl rfl ⟨⟨by decide, by decide⟩, by decide, by decide⟩ (Nat.le_of_ble_eq_true rfl) dX12_neverDeciding_26 (fun s26 H locs h hM => ?_)
      refine lv_iconst (pc := 29) (v := 0) hx hb dX12_neverDeciding_29 (by decide) ?_
      refine lv_istore_n (pc := 30) (lv' := [(2, .int 0), (0, .ref (g_ad G 87)), (1, .int a1)]) hx hb dX12_neverDeciding_30 rfl hl (by decide) rfl (fun ls hl => ?_)
      refine lv_iconst (pc := 31) (v := 0) hx hb dX12_neverDeciding_31 (by decide) ?_
      refine lv_istore_n (pc := 32) (lv' := [(3, .int 0), (2, .int 0), (0, .ref (g_ad G 87)), (1, .int a1)]) hx hb dX12_neverDeciding_32 rfl hl (by decide) rfl (fun ls hl => ?_)
      exact h _ _ _ hM (lv_sub hl [2, 3, 1, 0] rfl)
    · have h := h.2 c20
      refine lv_iconst (pc := 23) (v := 0) hx hb dX12_neverDeciding_23 (by decide) ?_
      exact hret 24 _ _ _ _ _ dX12_neverDeciding_24 (by rfl) h hM
  · have h := h.2 c5
    refine lv_iconst (pc := 8) (v := 0) hx hb dX12_neverDeciding_8 (by decide) ?_
    refine lv_goto (pc := 9) (tgt := 13) hx hb dX12_neverDeciding_9 (by decide) ?_
    refine g_putE (pc := 13) C hM (by decide) ce_87 fp_RX12_68 rfl rfl (Nat.le_of_ble_eq_true rfl) rfl dX12_neverDeciding_13 (fun s13 es13 H locs hM => ?_)
    have h := h s13 es13
    refine lv_aload_n (pc := 16) hx hb dX12_neverDeciding_16 rfl (lv_at hl 0 rfl) ?_
    refine g_get (pc := 17) (v := .int (s13 87 8)) C hM (by decide) ce_87 fl_RX12_68 rfl dX12_neverDeciding_17 ?_
    refine lv_if_le (pc := 20) (tgt := 25) hx hb dX12_neverDeciding_20 (by decide) (fun c20 => ?_) (fun c20 => ?_)
    · have h := h.1 c20
      refine lv_aload_n (pc := 25) hx hb dX12_neverDeciding_25 rfl (lv_at hl 0 rfl) ?_
      refine g_cVv (pc := 26) C hM hl.1 yv_X12_laySets q7_44 (by decide) ce_87 rfl (w_X12_laySets l G x  s13 _ h) rfl rfl ⟨⟨by decide, by decide⟩, by decide, by decide⟩ (Nat.le_of_ble_eq_true rfl) dX12_neverDeciding_26 (fun s26 H locs h hM => ?_)
      refine lv_iconst (pc := 29) (v := 0) hx hb dX12_neverDeciding_29 (by decide) ?_
      refine lv_istore_n (pc := 30) (lv' := [(2, .int 0), (0, .ref (g_ad G 87)), (1, .int a1)]) hx hb dX12_neverDeciding_30 rfl hl (by decide) rfl (fun ls hl => ?_)
      refine lv_iconst (pc := 31) (v := 0) hx hb dX12_neverDeciding_31 (by decide) ?_
      refine lv_istore_n (pc := 32) (lv' := [(3, .int 0), (2, .int 0), (0, .ref (g_ad G 87)), (1, .int a1)]) hx hb dX12_neverDeciding_32 rfl hl (by decide) rfl (fun ls hl => ?_)
      exact h _ _ _ hM (lv_sub hl [2, 3, 1, 0] rfl)
    · have h := h.2 c20
      refine lv_iconst (pc := 23) (v := 0) hx hb dX12_neverDeciding_23 (by decide) ?_
      exact hret 24 _ _ _ _ _ dX12_neverDeciding_24 (by rfl) h hM
abbrev rm_X12_witness : Room := { frames := 18, cells := 0, slots := 0, locals := 927 }
theorem dX12_witness_0 : decode cX12_witness 0 = .ok (.aload_n 0, 1) := by decide +kernel
theorem dX12_witness_1 : decode cX12_witness 1 = .ok (.iconst 0, 1) := by decide +kernel
theorem dX12_witness_2 : decode cX12_witness 2 = .ok (.putfield 68, 3) := by decide +kernel
theorem dX12_witness_5 : decode cX12_witness 5 = .ok (.aload_n 0, 1) := by decide +kernel
theorem dX12_witness_6 : decode cX12_witness 6 = .ok (.iload_n 1, 1) := by decide +kernel
theorem dX12_witness_7 : decode cX12_witness 7 = .ok (.invokevirtual 105, 3) := by decide +kernel
theorem dX12_witness_10 : decode cX12_witness 10 = .ok (.ifCond .eq 10, 3) := by decide +kernel
theorem dX12_witness_13 : decode cX12_witness 13 = .ok (.iload_n 2, 1) := by decide +kernel
theorem dX12_witness_14 : decode cX12_witness 14 = .ok (.invokestatic 101, 3) := by decide +kernel
theorem dX12_witness_17 : decode cX12_witness 17 = .ok (.ifCond .ne 9, 3) := by decide +kernel
theorem dX12_witness_20 : decode cX12_witness 20 = .ok (.aload_n 0, 1) := by decide +kernel
theorem dX12_witness_21 : decode cX12_witness 21 = .ok (.iconst 1, 1) := by decide +kernel
theorem dX12_witness_22 : decode cX12_witness 22 = .ok (.invokevirtual 78, 3) := by decide +kernel
theorem dX12_witness_25 : decode cX12_witness 25 = .ok (.ireturn, 1) := by decide +kernel
theorem dX12_witness_26 : decode cX12_witness 26 = .ok (.aload_n 0, 1) := by decide +kernel
theorem dX12_witness_27 : decode cX12_witness 27 = .ok (.invokevirtual 171, 3) := by decide +kernel
theorem dX12_witness_30 : decode cX12_witness 30 = .ok (.aload_n 0, 1) := by decide +kernel
theorem dX12_witness_31 : decode cX12_witness 31 = .ok (.iload_n 1, 1) := by decide +kernel
theorem dX12_witness_32 : decode cX12_witness 32 = .ok (.iconst (-1), 1) := by decide +kernel
theorem dX12_witness_33 : decode cX12_witness 33 = .ok (.invokevirtual 234, 3) := by decide +kernel
theorem dX12_witness_36 : decode cX12_witness 36 = .ok (.ifCond .eq 12, 3) := by decide +kernel
theorem dX12_witness_39 : decode cX12_witness 39 = .ok (.aload_n 0, 1) := by decide +kernel
theorem dX12_witness_40 : decode cX12_witness 40 = .ok (.getfield 46, 3) := by decide +kernel
theorem dX12_witness_43 : decode cX12_witness 43 = .ok (.iload_n 2, 1) := by decide +kernel
theorem dX12_witness_44 : decode cX12_witness 44 = .ok (.iaload, 1) := by decide +kernel
theorem dX12_witness_45 : decode cX12_witness 45 = .ok (.goto 8, 3) := by decide +kernel
theorem dX12_witness_48 : decode cX12_witness 48 = .ok (.aload_n 0, 1) := by decide +kernel
theorem dX12_witness_49 : decode cX12_witness 49 = .ok (.iconst 2, 1) := by decide +kernel
theorem dX12_witness_50 : decode cX12_witness 50 = .ok (.invokevirtual 78, 3) := by decide +kernel
theorem dX12_witness_53 : decode cX12_witness 53 = .ok (.ireturn, 1) := by decide +kernel
set_option maxHeartbeats 4000000 in
set_option maxRecDepth 100000 in
theorem w_X12_witness (l : Launch) (G : GP) (x : XP) (a1 : Int32) (a2 : Int32) (σ : Sto) (P : Int32 → Sto → Prop) (h : D_X12_witness a1 a2 σ P) : g_Meti l yX12_witness cX12_witness 3 (some .int) rm_X12_witness G x [.ref (g_ad G 87), .int a1, .int a2] σ P := by
  unfold D_X12_witness at h
  refine g_ofWi (by decide +kernel) (Nat.le_of_ble_eq_true rfl) ?_
  intro p e s m args below meth c Q ls C hM hl hret
  have hx := C.1
  have hb := C.2.1
  have hl : lv_has ls 3 [(0, .ref (g_ad G 87)), (1, .int a1), (2, .int a2)] := hl
  refine lv_aload_n (pc := 0) hx hb dX12_witness_0 rfl (lv_at hl 0 rfl) ?_
  refine lv_iconst (pc := 1) (v := 0) hx hb dX12_witness_1 (by decide) ?_
  refine g_putE (pc := 2) C hM (by decide) ce_87 fp_RX12_68 rfl rfl (Nat.le_of_ble_eq_true rfl) rfl dX12_witness_2 (fun s2 es2 H locs hM => ?_)
  have h := h s2 es2
  refine lv_aload_n (pc := 5) hx hb dX12_witness_5 rfl (lv_at hl 0 rfl) ?_
  refine lv_iload_n (pc := 6) hx hb dX12_witness_6 rfl (lv_at hl 1 rfl) ?_
  refine g_cVi (pc := 7) C hM hl.1 yv_X12_isRule q6_127 (by decide) ce_87 rfl (w_X12_isRule l G x a1 s2 _ h) rfl rfl ⟨⟨by decide, by decide⟩, by decide, by decide⟩ (Nat.le_of_ble_eq_true rfl) dX12_witness_7 (fun r7 s7 H locs h hM => ?_)
  refine lv_if_eq (pc := 10) (tgt := 20) hx hb dX12_witness_10 (by decide) (fun c10 => ?_) (fun c10 => ?_)
  · have h := h.1 c10
    refine lv_aload_n (pc := 20) hx hb dX12_witness_20 rfl (lv_at hl 0 rfl) ?_
    refine lv_iconst (pc := 21) (v := 1) hx hb dX12_witness_21 (by decide) ?_
    refine g_cVi (pc := 22) C hM hl.1 yv_X12_fails q6_89 (by decide) ce_87 rfl (w_X12_fails l G x 1 s7 _ h) rfl rfl ⟨⟨by decide, by decide⟩, by decide, by decide⟩ (Nat.le_of_ble_eq_true rfl) dX12_witness_22 (fun r22 s22 H locs h hM => ?_)
    exact hret 25 _ _ _ _ _ dX12_witness_25 (by rfl) h hM
  · have h := h.2 c10
    refine lv_iload_n (pc := 13) hx hb dX12_witness_13 rfl (lv_at hl 2 rfl) ?_
    refine g_cSi (pc := 14) C hM hl.1 ys_X12_isAttribute q6_123 (w_X12_isAttribute l G x a2 s7 _ h) rfl rfl ⟨⟨by decide, by decide⟩, by decide, by decide⟩ (Nat.le_of_ble_eq_true rfl) dX12_witness_14 (fun r14 s14 H locs h hM => ?_)
    refine lv_if_ne (pc := 17) (tgt := 26) hx hb dX12_witness_17 (by decide) (fun c17 => ?_) (fun c17 => ?_)
    · have h := h.2 c17
      refine lv_aload_n (pc := 26) hx hb dX12_witness_26 rfl (lv_at hl 0 rfl) ?_
      refine g_cVv (pc := 27) C hM hl.1 yv_X12_laySets q7_44 (by decide) ce_87 rfl (w_X12_laySets l G x  s14 _ h) rfl rfl ⟨⟨by decide, by decide⟩, by decide, by decide⟩ (Nat.le_of_ble_eq_true rfl) dX12_witness_27 (fun s27 H locs h hM => ?_)
      refine lv_aload_n (pc := 30) hx hb dX12_witness_30 rfl (lv_at hl 0 rfl) ?_
      refine lv_iload_n (pc := 31) hx hb dX12_witness_31 rfl (lv_at hl 1 rfl) ?_
      refine lv_iconst (pc := 32) (v := (-1)) hx hb dX12_witness_32 (by decide) ?_
      refine g_cVi (pc := 33) C hM hl.1 yv_X12_decides q7_143 (by decide) ce_87 rfl (w_X12_decides l G x a1 (-1) s27 _ h) rfl rfl ⟨⟨by decide, by decide⟩, by decide, by decide⟩ (Nat.le_of_ble_eq_true rfl) dX12_witness_33 (fun r33 s33 H locs h hM => ?_)
      refine lv_if_eq (pc := 36) (tgt := 48) hx hb dX12_witness_36 (by decide) (fun c36 => ?_) (fun c36 => ?_)
      · have h := h.1 c36
        refine lv_aload_n (pc := 48) hx hb dX12_witness_48 rfl (lv_at hl 0 rfl) ?_
        refine lv_iconst (pc := 49) (v := 2) hx hb dX12_witness_49 (by decide) ?_
        refine g_cVi (pc := 50) C hM hl.1 yv_X12_fails q6_89 (by decide) ce_87 rfl (w_X12_fails l G x 2 s33 _ h) rfl rfl ⟨⟨by decide, by decide⟩, by decide, by decide⟩ (Nat.le_of_ble_eq_true rfl) dX12_witness_50 (fun r50 s50 H locs h hM => ?_)
        exact hret 53 _ _ _ _ _ dX12_witness_53 (by rfl) h hM
      · have h := h.2 c36
        refine lv_aload_n (pc := 39) hx hb dX12_witness_39 rfl (lv_at hl 0 rfl) ?_
        refine g_get (pc := 40) (v := .ref (g_ad G 100)) C hM (by decide) ce_87 fl_RX12_46 rfl dX12_witness_40 ?_
        refine lv_iload_n (pc := 43) hx hb dX12_witness_43 rfl (lv_at hl 2 rfl) ?_
        obtain ⟨hc, h⟩ := h
        refine g_ialdK (pc := 44) C hM (by decide) ce_100 hc rfl dX12_witness_44 ?_
        refine lv_goto (pc := 45) (tgt := 53) hx hb dX12_witness_45 (by decide) ?_
        exact hret 53 _ _ _ _ _ dX12_witness_53 (by rfl) h hM
    · have h := h.1 c17
      refine lv_aload_n (pc := 20) hx hb dX12_witness_20 rfl (lv_at hl 0 rfl) ?_
      refine lv_iconst (pc := 21) (v := 1) hx hb dX12_witness_21 (by decide) ?_
      refine g_cVi (pc := 22) C hM hl.1 yv_X12_fails q6_89 (by decide) ce_87 rfl (w_X12_fails l G x 1 s14 _ h) rfl rfl ⟨⟨by decide, by decide⟩, by decide, by decide⟩ (Nat.le_of_ble_eq_true rfl) dX12_witness_22 (fun r22 s22 H locs h hM => ?_)
      exact hret 25 _ _ _ _ _ dX12_witness_25 (by rfl) h hM
abbrev rm_X12_blocker : Room := { frames := 18, cells := 0, slots := 0, locals := 927 }
theorem dX12_blocker_0 : decode cX12_blocker 0 = .ok (.aload_n 0, 1) := by decide +kernel
theorem dX12_blocker_1 : decode cX12_blocker 1 = .ok (.iconst 0, 1) := by decide +kernel
theorem dX12_blocker_2 : decode cX12_blocker 2 = .ok (.putfield 68, 3) := by decide +kernel
theorem dX12_blocker_5 : decode cX12_blocker 5 = .ok (.aload_n 0, 1) := by decide +kernel
theorem dX12_blocker_6 : decode cX12_blocker 6 = .ok (.iload_n 1, 1) := by decide +kernel
theorem dX12_blocker_7 : decode cX12_blocker 7 = .ok (.invokevirtual 105, 3) := by decide +kernel
theorem dX12_blocker_10 : decode cX12_blocker 10 = .ok (.ifCond .ne 9, 3) := by decide +kernel
theorem dX12_blocker_13 : decode cX12_blocker 13 = .ok (.aload_n 0, 1) := by decide +kernel
theorem dX12_blocker_14 : decode cX12_blocker 14 = .ok (.iconst 1, 1) := by decide +kernel
theorem dX12_blocker_15 : decode cX12_blocker 15 = .ok (.invokevirtual 78, 3) := by decide +kernel
theorem dX12_blocker_18 : decode cX12_blocker 18 = .ok (.ireturn, 1) := by decide +kernel
theorem dX12_blocker_19 : decode cX12_blocker 19 = .ok (.aload_n 0, 1) := by decide +kernel
theorem dX12_blocker_20 : decode cX12_blocker 20 = .ok (.invokevirtual 171, 3) := by decide +kernel
theorem dX12_blocker_23 : decode cX12_blocker 23 = .ok (.aload_n 0, 1) := by decide +kernel
theorem dX12_blocker_24 : decode cX12_blocker 24 = .ok (.iload_n 1, 1) := by decide +kernel
theorem dX12_blocker_25 : decode cX12_blocker 25 = .ok (.iconst (-1), 1) := by decide +kernel
theorem dX12_blocker_26 : decode cX12_blocker 26 = .ok (.invokevirtual 234, 3) := by decide +kernel
theorem dX12_blocker_29 : decode cX12_blocker 29 = .ok (.ifCond .eq 9, 3) := by decide +kernel
theorem dX12_blocker_32 : decode cX12_blocker 32 = .ok (.aload_n 0, 1) := by decide +kernel
theorem dX12_blocker_33 : decode cX12_blocker 33 = .ok (.iconst 2, 1) := by decide +kernel
theorem dX12_blocker_34 : decode cX12_blocker 34 = .ok (.invokevirtual 78, 3) := by decide +kernel
theorem dX12_blocker_37 : decode cX12_blocker 37 = .ok (.ireturn, 1) := by decide +kernel
theorem dX12_blocker_38 : decode cX12_blocker 38 = .ok (.iconst 0, 1) := by decide +kernel
theorem dX12_blocker_39 : decode cX12_blocker 39 = .ok (.istore_n 2, 1) := by decide +kernel
theorem dX12_blocker_40 : decode cX12_blocker 40 = .ok (.iload_n 2, 1) := by decide +kernel
theorem dX12_blocker_41 : decode cX12_blocker 41 = .ok (.aload_n 0, 1) := by decide +kernel
theorem dX12_blocker_42 : decode cX12_blocker 42 = .ok (.getfield 7, 3) := by decide +kernel
theorem dX12_blocker_45 : decode cX12_blocker 45 = .ok (.iconst 0, 1) := by decide +kernel
theorem dX12_blocker_46 : decode cX12_blocker 46 = .ok (.iaload, 1) := by decide +kernel
theorem dX12_blocker_47 : decode cX12_blocker 47 = .ok (.if_icmp .ge 25, 3) := by decide +kernel
theorem dX12_blocker_50 : decode cX12_blocker 50 = .ok (.iload_n 2, 1) := by decide +kernel
theorem dX12_blocker_51 : decode cX12_blocker 51 = .ok (.iload_n 1, 1) := by decide +kernel
theorem dX12_blocker_52 : decode cX12_blocker 52 = .ok (.if_icmp .eq 14, 3) := by decide +kernel
theorem dX12_blocker_55 : decode cX12_blocker 55 = .ok (.aload_n 0, 1) := by decide +kernel
theorem dX12_blocker_56 : decode cX12_blocker 56 = .ok (.iload_n 1, 1) := by decide +kernel
theorem dX12_blocker_57 : decode cX12_blocker 57 = .ok (.iload_n 2, 1) := by decide +kernel
theorem dX12_blocker_58 : decode cX12_blocker 58 = .ok (.invokevirtual 234, 3) := by decide +kernel
theorem dX12_blocker_61 : decode cX12_blocker 61 = .ok (.ifCond .eq 5, 3) := by decide +kernel
theorem dX12_blocker_64 : decode cX12_blocker 64 = .ok (.iload_n 2, 1) := by decide +kernel
theorem dX12_blocker_65 : decode cX12_blocker 65 = .ok (.ireturn, 1) := by decide +kernel
theorem dX12_blocker_66 : decode cX12_blocker 66 = .ok (.iinc 2 1, 3) := by decide +kernel
theorem dX12_blocker_69 : decode cX12_blocker 69 = .ok (.goto (-29), 3) := by decide +kernel
theorem dX12_blocker_72 : decode cX12_blocker 72 = .ok (.aload_n 0, 1) := by decide +kernel
theorem dX12_blocker_73 : decode cX12_blocker 73 = .ok (.iconst 3, 1) := by decide +kernel
theorem dX12_blocker_74 : decode cX12_blocker 74 = .ok (.invokevirtual 78, 3) := by decide +kernel
theorem dX12_blocker_77 : decode cX12_blocker 77 = .ok (.ireturn, 1) := by decide +kernel
set_option maxHeartbeats 4000000 in
set_option maxRecDepth 100000 in
theorem w_X12_blocker (l : Launch) (G : GP) (x : XP) (a1 : Int32) (σ : Sto) (P : Int32 → Sto → Prop) (h : D_X12_blocker a1 σ P) : g_Meti l yX12_blocker cX12_blocker 3 (some .int) rm_X12_blocker G x [.ref (g_ad G 87), .int a1] σ P := by
  unfold D_X12_blocker at h
  refine g_ofWi (by decide +kernel) (Nat.le_of_ble_eq_true rfl) ?_
  intro p e s m args below meth c Q ls C hM hl hret
  have hx := C.1
  have hb := C.2.1
  have hl : lv_has ls 3 [(0, .ref (g_ad G 87)), (1, .int a1)] := hl
  have h := h (fun (v2 : Int32) (σ : Sto) => ∀ (H : Heap) (locs : List Loc) (ls : Array Slot), g_M G x σ s H locs → lv_has ls 3 [(0, .ref (g_ad G 87)), (1, .int a1), (2, .int v2)] → W p l e rm_X12_blocker s m args below meth c H locs 0 0 Q (F0 m 40 ls []))
  have h := h (by
    intro v2 σ h  H locs ls hM hl
    refine lv_iload_n (pc := 40) hx hb dX12_blocker_40 rfl (lv_at hl 2 rfl) ?_
    refine lv_aload_n (pc := 41) hx hb dX12_blocker_41 rfl (lv_at hl 0 rfl) ?_
    refine g_get (pc := 42) (v := .ref (g_ad G 88)) C hM (by decide) ce_87 fl_RX12_7 rfl dX12_blocker_42 ?_
    refine lv_iconst (pc := 45) (v := 0) hx hb dX12_blocker_45 (by decide) ?_
    refine g_ialdK (pc := 46) (k := 0) C hM (by decide) ce_88 (vp_in_nI (n := 0) (by decide) (by decide)) rfl dX12_blocker_46 ?_
    refine lv_icmp_ge (pc := 47) (tgt := 72) hx hb dX12_blocker_47 (by decide) (fun c47 => ?_) (fun c47 => ?_)
    · have h := h.1 c47
      refine lv_aload_n (pc := 72) hx hb dX12_blocker_72 rfl (lv_at hl 0 rfl) ?_
      refine lv_iconst (pc := 73) (v := 3) hx hb dX12_blocker_73 (by decide) ?_
      refine g_cVi (pc := 74) C hM hl.1 yv_X12_fails q6_89 (by decide) ce_87 rfl (w_X12_fails l G x 3 σ _ h) rfl rfl ⟨⟨by decide, by decide⟩, by decide, by decide⟩ (Nat.le_of_ble_eq_true rfl) dX12_blocker_74 (fun r74 s74 H locs h hM => ?_)
      exact hret 77 _ _ _ _ _ dX12_blocker_77 (by rfl) h hM
    · have h := h.2 c47
      refine lv_iload_n (pc := 50) hx hb dX12_blocker_50 rfl (lv_at hl 2 rfl) ?_
      refine lv_iload_n (pc := 51) hx hb dX12_blocker_51 rfl (lv_at hl 1 rfl) ?_
      refine lv_icmp_eq (pc := 52) (tgt := 66) hx hb dX12_blocker_52 (by decide) (fun c52 => ?_) (fun c52 => ?_)
      · have h := h.1 c52
        refine lv_iinc (pc := 66) (v := (v2 + 1)) (lv' := [(2, .int (v2 + 1)), (0, .ref (g_ad G 87)), (1, .int a1)]) hx hb dX12_blocker_66 hl (k := 2) rfl (by rfl) (by decide) rfl (fun ls hl => ?_)
        refine lv_goto (pc := 69) (tgt := 40) hx hb dX12_blocker_69 (by decide) ?_
        exact h _ _ _ hM (lv_sub hl [1, 2, 0] rfl)
      · have h := h.2 c52
        refine lv_aload_n (pc := 55) hx hb dX12_blocker_55 rfl (lv_at hl 0 rfl) ?_
        refine lv_iload_n (pc := 56) hx hb dX12_blocker_56 rfl (lv_at hl 1 rfl) ?_
        refine lv_iload_n (pc := 57) hx hb dX12_blocker_57 rfl (lv_at hl 2 rfl) ?_
        refine g_cVi (pc := 58) C hM hl.1 yv_X12_decides q7_143 (by decide) ce_87 rfl (w_X12_decides l G x a1 v2 σ _ h) rfl rfl ⟨⟨by decide, by decide⟩, by decide, by decide⟩ (Nat.le_of_ble_eq_true rfl) dX12_blocker_58 (fun r58 s58 H locs h hM => ?_)
        refine lv_if_eq (pc := 61) (tgt := 66) hx hb dX12_blocker_61 (by decide) (fun c61 => ?_) (fun c61 => ?_)
        · have h := h.1 c61
          refine lv_iinc (pc := 66) (v := (v2 + 1)) (lv' := [(2, .int (v2 + 1)), (0, .ref (g_ad G 87)), (1, .int a1)]) hx hb dX12_blocker_66 hl (k := 2) rfl (by rfl) (by decide) rfl (fun ls hl => ?_)
          refine lv_goto (pc := 69) (tgt := 40) hx hb dX12_blocker_69 (by decide) ?_
          exact h _ _ _ hM (lv_sub hl [1, 2, 0] rfl)
        · have h := h.2 c61
          refine lv_iload_n (pc := 64) hx hb dX12_blocker_64 rfl (lv_at hl 2 rfl) ?_
          exact hret 65 _ _ _ _ _ dX12_blocker_65 (by rfl) h hM)
  refine lv_aload_n (pc := 0) hx hb dX12_blocker_0 rfl (lv_at hl 0 rfl) ?_
  refine lv_iconst (pc := 1) (v := 0) hx hb dX12_blocker_1 (by decide) ?_
  refine g_putE (pc := 2) C hM (by decide) ce_87 fp_RX12_68 rfl rfl (Nat.le_of_ble_eq_true rfl) rfl dX12_blocker_2 (fun s2 es2 H locs hM => ?_)
  have h := h s2 es2
  refine lv_aload_n (pc := 5) hx hb dX12_blocker_5 rfl (lv_at hl 0 rfl) ?_
  refine lv_iload_n (pc := 6) hx hb dX12_blocker_6 rfl (lv_at hl 1 rfl) ?_
  refine g_cVi (pc := 7) C hM hl.1 yv_X12_isRule q6_127 (by decide) ce_87 rfl (w_X12_isRule l G x a1 s2 _ h) rfl rfl ⟨⟨by decide, by decide⟩, by decide, by decide⟩ (Nat.le_of_ble_eq_true rfl) dX12_blocker_7 (fun r7 s7 H locs h hM => ?_)
  refine lv_if_ne (pc := 10) (tgt := 19) hx hb dX12_blocker_10 (by decide) (fun c10 => ?_) (fun c10 => ?_)
  · have h := h.2 c10
    refine lv_aload_n (pc := 19) hx hb dX12_blocker_19 rfl (lv_at hl 0 rfl) ?_
    refine g_cVv (pc := 20) C hM hl.1 yv_X12_laySets q7_44 (by decide) ce_87 rfl (w_X12_laySets l G x  s7 _ h) rfl rfl ⟨⟨by decide, by decide⟩, by decide, by decide⟩ (Nat.le_of_ble_eq_true rfl) dX12_blocker_20 (fun s20 H locs h hM => ?_)
    refine lv_aload_n (pc := 23) hx hb dX12_blocker_23 rfl (lv_at hl 0 rfl) ?_
    refine lv_iload_n (pc := 24) hx hb dX12_blocker_24 rfl (lv_at hl 1 rfl) ?_
    refine lv_iconst (pc := 25) (v := (-1)) hx hb dX12_blocker_25 (by decide) ?_
    refine g_cVi (pc := 26) C hM hl.1 yv_X12_decides q7_143 (by decide) ce_87 rfl (w_X12_decides l G x a1 (-1) s20 _ h) rfl rfl ⟨⟨by decide, by decide⟩, by decide, by decide⟩ (Nat.le_of_ble_eq_true rfl) dX12_blocker_26 (fun r26 s26 H locs h hM => ?_)
    refine lv_if_eq (pc := 29) (tgt := 38) hx hb dX12_blocker_29 (by decide) (fun c29 => ?_) (fun c29 => ?_)
    · have h := h.1 c29
      refine lv_iconst (pc := 38) (v := 0) hx hb dX12_blocker_38 (by decide) ?_
      refine lv_istore_n (pc := 39) (lv' := [(2, .int 0), (0, .ref (g_ad G 87)), (1, .int a1)]) hx hb dX12_blocker_39 rfl hl (by decide) rfl (fun ls hl => ?_)
      exact h _ _ _ hM (lv_sub hl [1, 2, 0] rfl)
    · have h := h.2 c29
      refine lv_aload_n (pc := 32) hx hb dX12_blocker_32 rfl (lv_at hl 0 rfl) ?_
      refine lv_iconst (pc := 33) (v := 2) hx hb dX12_blocker_33 (by decide) ?_
      refine g_cVi (pc := 34) C hM hl.1 yv_X12_fails q6_89 (by decide) ce_87 rfl (w_X12_fails l G x 2 s26 _ h) rfl rfl ⟨⟨by decide, by decide⟩, by decide, by decide⟩ (Nat.le_of_ble_eq_true rfl) dX12_blocker_34 (fun r34 s34 H locs h hM => ?_)
      exact hret 37 _ _ _ _ _ dX12_blocker_37 (by rfl) h hM
  · have h := h.1 c10
    refine lv_aload_n (pc := 13) hx hb dX12_blocker_13 rfl (lv_at hl 0 rfl) ?_
    refine lv_iconst (pc := 14) (v := 1) hx hb dX12_blocker_14 (by decide) ?_
    refine g_cVi (pc := 15) C hM hl.1 yv_X12_fails q6_89 (by decide) ce_87 rfl (w_X12_fails l G x 1 s7 _ h) rfl rfl ⟨⟨by decide, by decide⟩, by decide, by decide⟩ (Nat.le_of_ble_eq_true rfl) dX12_blocker_15 (fun r15 s15 H locs h hM => ?_)
    exact hret 18 _ _ _ _ _ dX12_blocker_18 (by rfl) h hM
abbrev rm_X12_auditCount : Room := { frames := 0, cells := 0, slots := 0, locals := 0 }
theorem dX12_auditCount_0 : decode cX12_auditCount 0 = .ok (.aload_n 0, 1) := by decide +kernel
theorem dX12_auditCount_1 : decode cX12_auditCount 1 = .ok (.iconst 0, 1) := by decide +kernel
theorem dX12_auditCount_2 : decode cX12_auditCount 2 = .ok (.putfield 68, 3) := by decide +kernel
theorem dX12_auditCount_5 : decode cX12_auditCount 5 = .ok (.aload_n 0, 1) := by decide +kernel
theorem dX12_auditCount_6 : decode cX12_auditCount 6 = .ok (.getfield 201, 3) := by decide +kernel
theorem dX12_auditCount_9 : decode cX12_auditCount 9 = .ok (.ireturn, 1) := by decide +kernel
set_option maxHeartbeats 4000000 in
set_option maxRecDepth 100000 in
theorem w_X12_auditCount (l : Launch) (G : GP) (x : XP) (σ : Sto) (P : Int32 → Sto → Prop) (h : D_X12_auditCount  σ P) : g_Meti l yX12_auditCount cX12_auditCount 1 (some .int) rm_X12_auditCount G x [.ref (g_ad G 87)] σ P := by
  unfold D_X12_auditCount at h
  refine g_ofWi (by decide +kernel) (Nat.le_of_ble_eq_true rfl) ?_
  intro p e s m args below meth c Q ls C hM hl hret
  have hx := C.1
  have hb := C.2.1
  have hl : lv_has ls 1 [(0, .ref (g_ad G 87))] := hl
  refine lv_aload_n (pc := 0) hx hb dX12_auditCount_0 rfl (lv_at hl 0 rfl) ?_
  refine lv_iconst (pc := 1) (v := 0) hx hb dX12_auditCount_1 (by decide) ?_
  refine g_putE (pc := 2) C hM (by decide) ce_87 fp_RX12_68 rfl rfl (Nat.le_of_ble_eq_true rfl) rfl dX12_auditCount_2 (fun s2 es2 H locs hM => ?_)
  have h := h s2 es2
  refine lv_aload_n (pc := 5) hx hb dX12_auditCount_5 rfl (lv_at hl 0 rfl) ?_
  refine g_get (pc := 6) (v := .int (s2 87 16)) C hM (by decide) ce_87 fl_RX12_201 rfl dX12_auditCount_6 ?_
  exact hret 9 _ _ _ _ _ dX12_auditCount_9 (by rfl) h hM
abbrev rm_X12_audit : Room := { frames := 1, cells := 0, slots := 0, locals := 22 }
theorem dX12_audit_0 : decode cX12_audit 0 = .ok (.aload_n 0, 1) := by decide +kernel
theorem dX12_audit_1 : decode cX12_audit 1 = .ok (.iload_n 1, 1) := by decide +kernel
theorem dX12_audit_2 : decode cX12_audit 2 = .ok (.iconst 0, 1) := by decide +kernel
theorem dX12_audit_3 : decode cX12_audit 3 = .ok (.aload_n 0, 1) := by decide +kernel
theorem dX12_audit_4 : decode cX12_audit 4 = .ok (.getfield 201, 3) := by decide +kernel
theorem dX12_audit_7 : decode cX12_audit 7 = .ok (.iconst 1, 1) := by decide +kernel
theorem dX12_audit_8 : decode cX12_audit 8 = .ok (.isub, 1) := by decide +kernel
theorem dX12_audit_9 : decode cX12_audit 9 = .ok (.invokestatic 71, 3) := by decide +kernel
theorem dX12_audit_12 : decode cX12_audit 12 = .ok (.ifCond .eq 20, 3) := by decide +kernel
theorem dX12_audit_15 : decode cX12_audit 15 = .ok (.iload_n 2, 1) := by decide +kernel
theorem dX12_audit_16 : decode cX12_audit 16 = .ok (.iconst 0, 1) := by decide +kernel
theorem dX12_audit_17 : decode cX12_audit 17 = .ok (.iconst 3, 1) := by decide +kernel
theorem dX12_audit_18 : decode cX12_audit 18 = .ok (.invokestatic 71, 3) := by decide +kernel
theorem dX12_audit_21 : decode cX12_audit 21 = .ok (.ifCond .eq 7, 3) := by decide +kernel
theorem dX12_audit_24 : decode cX12_audit 24 = .ok (.iconst 0, 1) := by decide +kernel
theorem dX12_audit_25 : decode cX12_audit 25 = .ok (.goto 8, 3) := by decide +kernel
theorem dX12_audit_28 : decode cX12_audit 28 = .ok (.iconst 2, 1) := by decide +kernel
theorem dX12_audit_29 : decode cX12_audit 29 = .ok (.goto 4, 3) := by decide +kernel
theorem dX12_audit_32 : decode cX12_audit 32 = .ok (.iconst 1, 1) := by decide +kernel
theorem dX12_audit_33 : decode cX12_audit 33 = .ok (.putfield 68, 3) := by decide +kernel
theorem dX12_audit_36 : decode cX12_audit 36 = .ok (.aload_n 0, 1) := by decide +kernel
theorem dX12_audit_37 : decode cX12_audit 37 = .ok (.getfield 68, 3) := by decide +kernel
theorem dX12_audit_40 : decode cX12_audit 40 = .ok (.ifCond .le 7, 3) := by decide +kernel
theorem dX12_audit_43 : decode cX12_audit 43 = .ok (.iconst 0, 1) := by decide +kernel
theorem dX12_audit_44 : decode cX12_audit 44 = .ok (.goto 13, 3) := by decide +kernel
theorem dX12_audit_47 : decode cX12_audit 47 = .ok (.aload_n 0, 1) := by decide +kernel
theorem dX12_audit_48 : decode cX12_audit 48 = .ok (.getfield 34, 3) := by decide +kernel
theorem dX12_audit_51 : decode cX12_audit 51 = .ok (.iconst 4, 1) := by decide +kernel
theorem dX12_audit_52 : decode cX12_audit 52 = .ok (.iload_n 1, 1) := by decide +kernel
theorem dX12_audit_53 : decode cX12_audit 53 = .ok (.imul, 1) := by decide +kernel
theorem dX12_audit_54 : decode cX12_audit 54 = .ok (.iload_n 2, 1) := by decide +kernel
theorem dX12_audit_55 : decode cX12_audit 55 = .ok (.iadd, 1) := by decide +kernel
theorem dX12_audit_56 : decode cX12_audit 56 = .ok (.iaload, 1) := by decide +kernel
theorem dX12_audit_57 : decode cX12_audit 57 = .ok (.ireturn, 1) := by decide +kernel
set_option maxHeartbeats 4000000 in
set_option maxRecDepth 100000 in
theorem w_X12_audit (l : Launch) (G : GP) (x : XP) (a1 : Int32) (a2 : Int32) (σ : Sto) (P : Int32 → Sto → Prop) (h : D_X12_audit a1 a2 σ P) : g_Meti l yX12_audit cX12_audit 3 (some .int) rm_X12_audit G x [.ref (g_ad G 87), .int a1, .int a2] σ P := by
  unfold D_X12_audit at h
  refine g_ofWi (by decide +kernel) (Nat.le_of_ble_eq_true rfl) ?_
  intro p e s m args below meth c Q ls C hM hl hret
  have hx := C.1
  have hb := C.2.1
  have hl : lv_has ls 3 [(0, .ref (g_ad G 87)), (1, .int a1), (2, .int a2)] := hl
  have h := h (fun (t0 : Int32) (σ : Sto) => ∀ (H : Heap) (locs : List Loc) (ls : Array Slot), g_M G x σ s H locs → lv_has ls 3 [(0, .ref (g_ad G 87)), (1, .int a1), (2, .int a2)] → W p l e rm_X12_audit s m args below meth c H locs 0 0 Q (F0 m 33 ls [.int t0, .ref (g_ad G 87)]))
  have h := h (by
    intro t0 σ h  H locs ls hM hl
    refine g_putE (pc := 33) C hM (by decide) ce_87 fp_RX12_68 rfl rfl (Nat.le_of_ble_eq_true rfl) rfl dX12_audit_33 (fun s33 es33 H locs hM => ?_)
    have h := h s33 es33
    refine lv_aload_n (pc := 36) hx hb dX12_audit_36 rfl (lv_at hl 0 rfl) ?_
    refine g_get (pc := 37) (v := .int (s33 87 8)) C hM (by decide) ce_87 fl_RX12_68 rfl dX12_audit_37 ?_
    refine lv_if_le (pc := 40) (tgt := 47) hx hb dX12_audit_40 (by decide) (fun c40 => ?_) (fun c40 => ?_)
    · have h := h.1 c40
      refine lv_aload_n (pc := 47) hx hb dX12_audit_47 rfl (lv_at hl 0 rfl) ?_
      refine g_get (pc := 48) (v := .ref (g_ad G 96)) C hM (by decide) ce_87 fl_RX12_34 rfl dX12_audit_48 ?_
      refine lv_iconst (pc := 51) (v := 4) hx hb dX12_audit_51 (by decide) ?_
      refine lv_iload_n (pc := 52) hx hb dX12_audit_52 rfl (lv_at hl 1 rfl) ?_
      refine lv_imul (pc := 53) hx hb dX12_audit_53 ?_
      refine lv_iload_n (pc := 54) hx hb dX12_audit_54 rfl (lv_at hl 2 rfl) ?_
      refine lv_iadd (pc := 55) hx hb dX12_audit_55 ?_
      obtain ⟨hc, h⟩ := h
      refine g_ialdK (pc := 56) C hM (by decide) ce_96 hc rfl dX12_audit_56 ?_
      exact hret 57 _ _ _ _ _ dX12_audit_57 (by rfl) h hM
    · have h := h.2 c40
      refine lv_iconst (pc := 43) (v := 0) hx hb dX12_audit_43 (by decide) ?_
      refine lv_goto (pc := 44) (tgt := 57) hx hb dX12_audit_44 (by decide) ?_
      exact hret 57 _ _ _ _ _ dX12_audit_57 (by rfl) h hM)
  refine lv_aload_n (pc := 0) hx hb dX12_audit_0 rfl (lv_at hl 0 rfl) ?_
  refine lv_iload_n (pc := 1) hx hb dX12_audit_1 rfl (lv_at hl 1 rfl) ?_
  refine lv_iconst (pc := 2) (v := 0) hx hb dX12_audit_2 (by decide) ?_
  refine lv_aload_n (pc := 3) hx hb dX12_audit_3 rfl (lv_at hl 0 rfl) ?_
  refine g_get (pc := 4) (v := .int (σ 87 16)) C hM (by decide) ce_87 fl_RX12_201 rfl dX12_audit_4 ?_
  refine lv_iconst (pc := 7) (v := 1) hx hb dX12_audit_7 (by decide) ?_
  refine lv_isub (pc := 8) hx hb dX12_audit_8 ?_
  refine g_cSi (pc := 9) C hM hl.1 ys_X12_in q6_108 (w_X12_in l G x a1 0 ((σ 87 16) - 1) σ _ h) rfl rfl ⟨⟨by decide, by decide⟩, by decide, by decide⟩ (Nat.le_of_ble_eq_true rfl) dX12_audit_9 (fun r9 s9 H locs h hM => ?_)
  refine lv_if_eq (pc := 12) (tgt := 32) hx hb dX12_audit_12 (by decide) (fun c12 => ?_) (fun c12 => ?_)
  · have h := h.1 c12
    refine lv_iconst (pc := 32) (v := 1) hx hb dX12_audit_32 (by decide) ?_
    exact h _ _ _ hM (lv_sub hl [0, 1, 2] rfl)
  · have h := h.2 c12
    refine lv_iload_n (pc := 15) hx hb dX12_audit_15 rfl (lv_at hl 2 rfl) ?_
    refine lv_iconst (pc := 16) (v := 0) hx hb dX12_audit_16 (by decide) ?_
    refine lv_iconst (pc := 17) (v := 3) hx hb dX12_audit_17 (by decide) ?_
    refine g_cSi (pc := 18) C hM hl.1 ys_X12_in q6_108 (w_X12_in l G x a2 0 3 s9 _ h) rfl rfl ⟨⟨by decide, by decide⟩, by decide, by decide⟩ (Nat.le_of_ble_eq_true rfl) dX12_audit_18 (fun r18 s18 H locs h hM => ?_)
    refine lv_if_eq (pc := 21) (tgt := 28) hx hb dX12_audit_21 (by decide) (fun c21 => ?_) (fun c21 => ?_)
    · have h := h.1 c21
      refine lv_iconst (pc := 28) (v := 2) hx hb dX12_audit_28 (by decide) ?_
      refine lv_goto (pc := 29) (tgt := 33) hx hb dX12_audit_29 (by decide) ?_
      exact h _ _ _ hM (lv_sub hl [0, 1, 2] rfl)
    · have h := h.2 c21
      refine lv_iconst (pc := 24) (v := 0) hx hb dX12_audit_24 (by decide) ?_
      refine lv_goto (pc := 25) (tgt := 33) hx hb dX12_audit_25 (by decide) ?_
      exact h _ _ _ hM (lv_sub hl [0, 1, 2] rfl)
abbrev rm_X12_permitShare : Room := { frames := 0, cells := 0, slots := 0, locals := 0 }
theorem dX12_permitShare_0 : decode cX12_permitShare 0 = .ok (.aload_n 0, 1) := by decide +kernel
theorem dX12_permitShare_1 : decode cX12_permitShare 1 = .ok (.aload_n 0, 1) := by decide +kernel
theorem dX12_permitShare_2 : decode cX12_permitShare 2 = .ok (.getfield 201, 3) := by decide +kernel
theorem dX12_permitShare_5 : decode cX12_permitShare 5 = .ok (.ifCond .ne 7, 3) := by decide +kernel
theorem dX12_permitShare_8 : decode cX12_permitShare 8 = .ok (.iconst 1, 1) := by decide +kernel
theorem dX12_permitShare_9 : decode cX12_permitShare 9 = .ok (.goto 4, 3) := by decide +kernel
theorem dX12_permitShare_12 : decode cX12_permitShare 12 = .ok (.iconst 0, 1) := by decide +kernel
theorem dX12_permitShare_13 : decode cX12_permitShare 13 = .ok (.putfield 68, 3) := by decide +kernel
theorem dX12_permitShare_16 : decode cX12_permitShare 16 = .ok (.iconst 0, 1) := by decide +kernel
theorem dX12_permitShare_17 : decode cX12_permitShare 17 = .ok (.istore_n 1, 1) := by decide +kernel
theorem dX12_permitShare_18 : decode cX12_permitShare 18 = .ok (.iconst 0, 1) := by decide +kernel
theorem dX12_permitShare_19 : decode cX12_permitShare 19 = .ok (.istore_n 2, 1) := by decide +kernel
theorem dX12_permitShare_20 : decode cX12_permitShare 20 = .ok (.iload_n 2, 1) := by decide +kernel
theorem dX12_permitShare_21 : decode cX12_permitShare 21 = .ok (.aload_n 0, 1) := by decide +kernel
theorem dX12_permitShare_22 : decode cX12_permitShare 22 = .ok (.getfield 201, 3) := by decide +kernel
theorem dX12_permitShare_25 : decode cX12_permitShare 25 = .ok (.if_icmp .ge 30, 3) := by decide +kernel
theorem dX12_permitShare_28 : decode cX12_permitShare 28 = .ok (.iload_n 1, 1) := by decide +kernel
theorem dX12_permitShare_29 : decode cX12_permitShare 29 = .ok (.aload_n 0, 1) := by decide +kernel
theorem dX12_permitShare_30 : decode cX12_permitShare 30 = .ok (.getfield 34, 3) := by decide +kernel
theorem dX12_permitShare_33 : decode cX12_permitShare 33 = .ok (.iconst 4, 1) := by decide +kernel
theorem dX12_permitShare_34 : decode cX12_permitShare 34 = .ok (.iload_n 2, 1) := by decide +kernel
theorem dX12_permitShare_35 : decode cX12_permitShare 35 = .ok (.imul, 1) := by decide +kernel
theorem dX12_permitShare_36 : decode cX12_permitShare 36 = .ok (.iconst 2, 1) := by decide +kernel
theorem dX12_permitShare_37 : decode cX12_permitShare 37 = .ok (.iadd, 1) := by decide +kernel
theorem dX12_permitShare_38 : decode cX12_permitShare 38 = .ok (.iaload, 1) := by decide +kernel
theorem dX12_permitShare_39 : decode cX12_permitShare 39 = .ok (.ifCond .ne 7, 3) := by decide +kernel
theorem dX12_permitShare_42 : decode cX12_permitShare 42 = .ok (.iconst 1, 1) := by decide +kernel
theorem dX12_permitShare_43 : decode cX12_permitShare 43 = .ok (.goto 4, 3) := by decide +kernel
theorem dX12_permitShare_46 : decode cX12_permitShare 46 = .ok (.iconst 0, 1) := by decide +kernel
theorem dX12_permitShare_47 : decode cX12_permitShare 47 = .ok (.iadd, 1) := by decide +kernel
theorem dX12_permitShare_48 : decode cX12_permitShare 48 = .ok (.istore_n 1, 1) := by decide +kernel
theorem dX12_permitShare_49 : decode cX12_permitShare 49 = .ok (.iinc 2 1, 3) := by decide +kernel
theorem dX12_permitShare_52 : decode cX12_permitShare 52 = .ok (.goto (-32), 3) := by decide +kernel
theorem dX12_permitShare_55 : decode cX12_permitShare 55 = .ok (.aload_n 0, 1) := by decide +kernel
theorem dX12_permitShare_56 : decode cX12_permitShare 56 = .ok (.getfield 68, 3) := by decide +kernel
theorem dX12_permitShare_59 : decode cX12_permitShare 59 = .ok (.ifCond .le 7, 3) := by decide +kernel
theorem dX12_permitShare_62 : decode cX12_permitShare 62 = .ok (.dconst 0, 1) := by decide +kernel
theorem dX12_permitShare_63 : decode cX12_permitShare 63 = .ok (.goto 11, 3) := by decide +kernel
theorem dX12_permitShare_66 : decode cX12_permitShare 66 = .ok (.iload_n 1, 1) := by decide +kernel
theorem dX12_permitShare_67 : decode cX12_permitShare 67 = .ok (.i2d, 1) := by decide +kernel
theorem dX12_permitShare_68 : decode cX12_permitShare 68 = .ok (.aload_n 0, 1) := by decide +kernel
theorem dX12_permitShare_69 : decode cX12_permitShare 69 = .ok (.getfield 201, 3) := by decide +kernel
theorem dX12_permitShare_72 : decode cX12_permitShare 72 = .ok (.i2d, 1) := by decide +kernel
theorem dX12_permitShare_73 : decode cX12_permitShare 73 = .ok (.ddiv, 1) := by decide +kernel
theorem dX12_permitShare_74 : decode cX12_permitShare 74 = .ok (.dreturn, 1) := by decide +kernel
set_option maxHeartbeats 4000000 in
set_option maxRecDepth 100000 in
theorem w_X12_permitShare (l : Launch) (G : GP) (x : XP) (σ : Sto) (P : UInt64 → Sto → Prop) (h : D_X12_permitShare  σ P) : g_Metd l yX12_permitShare cX12_permitShare 3 rm_X12_permitShare G x [.ref (g_ad G 87)] σ P := by
  unfold D_X12_permitShare at h
  refine g_ofWd (by decide +kernel) (Nat.le_of_ble_eq_true rfl) ?_
  intro p e s m args below meth c Q ls C hM hl hret
  have hx := C.1
  have hb := C.2.1
  have hl : lv_has ls 3 [(0, .ref (g_ad G 87))] := hl
  have h := h (fun (v1 : Int32) (v2 : Int32) (σ : Sto) => ∀ (H : Heap) (locs : List Loc) (ls : Array Slot), g_M G x σ s H locs → lv_has ls 3 [(0, .ref (g_ad G 87)), (1, .int v1), (2, .int v2)] → W p l e rm_X12_permitShare s m args below meth c H locs 0 0 Q (F0 m 20 ls []))
  have h := h (by
    intro v1 v2 σ h  H locs ls hM hl
    refine lv_iload_n (pc := 20) hx hb dX12_permitShare_20 rfl (lv_at hl 2 rfl) ?_
    refine lv_aload_n (pc := 21) hx hb dX12_permitShare_21 rfl (lv_at hl 0 rfl) ?_
    refine g_get (pc := 22) (v := .int (σ 87 16)) C hM (by decide) ce_87 fl_RX12_201 rfl dX12_permitShare_22 ?_
    refine lv_icmp_ge (pc := 25) (tgt := 55) hx hb dX12_permitShare_25 (by decide) (fun c25 => ?_) (fun c25 => ?_)
    · have h := h.1 c25
      refine lv_aload_n (pc := 55) hx hb dX12_permitShare_55 rfl (lv_at hl 0 rfl) ?_
      refine g_get (pc := 56) (v := .int (σ 87 8)) C hM (by decide) ce_87 fl_RX12_68 rfl dX12_permitShare_56 ?_
      refine lv_if_le (pc := 59) (tgt := 66) hx hb dX12_permitShare_59 (by decide) (fun c59 => ?_) (fun c59 => ?_)
      · have h := h.1 c59
        refine lv_iload_n (pc := 66) hx hb dX12_permitShare_66 rfl (lv_at hl 1 rfl) ?_
        refine lv_i2d (pc := 67) hx hb dX12_permitShare_67 ?_
        refine lv_aload_n (pc := 68) hx hb dX12_permitShare_68 rfl (lv_at hl 0 rfl) ?_
        refine g_get (pc := 69) (v := .int (σ 87 16)) C hM (by decide) ce_87 fl_RX12_201 rfl dX12_permitShare_69 ?_
        refine lv_i2d (pc := 72) hx hb dX12_permitShare_72 ?_
        obtain ⟨hc, h⟩ := h
        refine lv_ddiv (pc := 73) hx hb dX12_permitShare_73 hc ?_
        exact hret 74 _ _ _ _ _ dX12_permitShare_74 h hM
      · have h := h.2 c59
        refine lv_dconst0 (pc := 62) hx hb dX12_permitShare_62 ?_
        refine lv_goto (pc := 63) (tgt := 74) hx hb dX12_permitShare_63 (by decide) ?_
        exact hret 74 _ _ _ _ _ dX12_permitShare_74 h hM
    · have h := h.2 c25
      refine lv_iload_n (pc := 28) hx hb dX12_permitShare_28 rfl (lv_at hl 1 rfl) ?_
      refine lv_aload_n (pc := 29) hx hb dX12_permitShare_29 rfl (lv_at hl 0 rfl) ?_
      refine g_get (pc := 30) (v := .ref (g_ad G 96)) C hM (by decide) ce_87 fl_RX12_34 rfl dX12_permitShare_30 ?_
      refine lv_iconst (pc := 33) (v := 4) hx hb dX12_permitShare_33 (by decide) ?_
      refine lv_iload_n (pc := 34) hx hb dX12_permitShare_34 rfl (lv_at hl 2 rfl) ?_
      refine lv_imul (pc := 35) hx hb dX12_permitShare_35 ?_
      refine lv_iconst (pc := 36) (v := 2) hx hb dX12_permitShare_36 (by decide) ?_
      refine lv_iadd (pc := 37) hx hb dX12_permitShare_37 ?_
      obtain ⟨hc, h⟩ := h
      refine g_ialdK (pc := 38) C hM (by decide) ce_96 hc rfl dX12_permitShare_38 ?_
      refine lv_if_ne (pc := 39) (tgt := 46) hx hb dX12_permitShare_39 (by decide) (fun c39 => ?_) (fun c39 => ?_)
      · have h := h.2 c39
        refine lv_iconst (pc := 46) (v := 0) hx hb dX12_permitShare_46 (by decide) ?_
        refine lv_iadd (pc := 47) hx hb dX12_permitShare_47 ?_
        refine lv_istore_n (pc := 48) (lv' := [(1, .int (v1 + 0)), (0, .ref (g_ad G 87)), (2, .int v2)]) hx hb dX12_permitShare_48 rfl hl (by decide) rfl (fun ls hl => ?_)
        refine lv_iinc (pc := 49) (v := (v2 + 1)) (lv' := [(2, .int (v2 + 1)), (1, .int (v1 + 0)), (0, .ref (g_ad G 87))]) hx hb dX12_permitShare_49 hl (k := 2) rfl (by rfl) (by decide) rfl (fun ls hl => ?_)
        refine lv_goto (pc := 52) (tgt := 20) hx hb dX12_permitShare_52 (by decide) ?_
        exact h _ _ _ hM (lv_sub hl [2, 1, 0] rfl)
      · have h := h.1 c39
        refine lv_iconst (pc := 42) (v := 1) hx hb dX12_permitShare_42 (by decide) ?_
        refine lv_goto (pc := 43) (tgt := 47) hx hb dX12_permitShare_43 (by decide) ?_
        refine lv_iadd (pc := 47) hx hb dX12_permitShare_47 ?_
        refine lv_istore_n (pc := 48) (lv' := [(1, .int (v1 + 1)), (0, .ref (g_ad G 87)), (2, .int v2)]) hx hb dX12_permitShare_48 rfl hl (by decide) rfl (fun ls hl => ?_)
        refine lv_iinc (pc := 49) (v := (v2 + 1)) (lv' := [(2, .int (v2 + 1)), (1, .int (v1 + 1)), (0, .ref (g_ad G 87))]) hx hb dX12_permitShare_49 hl (k := 2) rfl (by rfl) (by decide) rfl (fun ls hl => ?_)
        refine lv_goto (pc := 52) (tgt := 20) hx hb dX12_permitShare_52 (by decide) ?_
        exact h _ _ _ hM (lv_sub hl [2, 1, 0] rfl))
  refine lv_aload_n (pc := 0) hx hb dX12_permitShare_0 rfl (lv_at hl 0 rfl) ?_
  refine lv_aload_n (pc := 1) hx hb dX12_permitShare_1 rfl (lv_at hl 0 rfl) ?_
  refine g_get (pc := 2) (v := .int (σ 87 16)) C hM (by decide) ce_87 fl_RX12_201 rfl dX12_permitShare_2 ?_
  refine lv_if_ne (pc := 5) (tgt := 12) hx hb dX12_permitShare_5 (by decide) (fun c5 => ?_) (fun c5 => ?_)
  · have h := h.2 c5
    refine lv_iconst (pc := 12) (v := 0) hx hb dX12_permitShare_12 (by decide) ?_
    refine g_putE (pc := 13) C hM (by decide) ce_87 fp_RX12_68 rfl rfl (Nat.le_of_ble_eq_true rfl) rfl dX12_permitShare_13 (fun s13 es13 H locs hM => ?_)
    have h := h s13 es13
    refine lv_iconst (pc := 16) (v := 0) hx hb dX12_permitShare_16 (by decide) ?_
    refine lv_istore_n (pc := 17) (lv' := [(1, .int 0), (0, .ref (g_ad G 87))]) hx hb dX12_permitShare_17 rfl hl (by decide) rfl (fun ls hl => ?_)
    refine lv_iconst (pc := 18) (v := 0) hx hb dX12_permitShare_18 (by decide) ?_
    refine lv_istore_n (pc := 19) (lv' := [(2, .int 0), (1, .int 0), (0, .ref (g_ad G 87))]) hx hb dX12_permitShare_19 rfl hl (by decide) rfl (fun ls hl => ?_)
    exact h _ _ _ hM (lv_sub hl [2, 1, 0] rfl)
  · have h := h.1 c5
    refine lv_iconst (pc := 8) (v := 1) hx hb dX12_permitShare_8 (by decide) ?_
    refine lv_goto (pc := 9) (tgt := 13) hx hb dX12_permitShare_9 (by decide) ?_
    refine g_putE (pc := 13) C hM (by decide) ce_87 fp_RX12_68 rfl rfl (Nat.le_of_ble_eq_true rfl) rfl dX12_permitShare_13 (fun s13 es13 H locs hM => ?_)
    have h := h s13 es13
    refine lv_iconst (pc := 16) (v := 0) hx hb dX12_permitShare_16 (by decide) ?_
    refine lv_istore_n (pc := 17) (lv' := [(1, .int 0), (0, .ref (g_ad G 87))]) hx hb dX12_permitShare_17 rfl hl (by decide) rfl (fun ls hl => ?_)
    refine lv_iconst (pc := 18) (v := 0) hx hb dX12_permitShare_18 (by decide) ?_
    refine lv_istore_n (pc := 19) (lv' := [(2, .int 0), (1, .int 0), (0, .ref (g_ad G 87))]) hx hb dX12_permitShare_19 rfl hl (by decide) rfl (fun ls hl => ?_)
    exact h _ _ _ hM (lv_sub hl [2, 1, 0] rfl)
abbrev rm_X12_clearAudit : Room := { frames := 0, cells := 0, slots := 0, locals := 0 }
theorem dX12_clearAudit_0 : decode cX12_clearAudit 0 = .ok (.aload_n 0, 1) := by decide +kernel
theorem dX12_clearAudit_1 : decode cX12_clearAudit 1 = .ok (.iconst 0, 1) := by decide +kernel
theorem dX12_clearAudit_2 : decode cX12_clearAudit 2 = .ok (.putfield 68, 3) := by decide +kernel
theorem dX12_clearAudit_5 : decode cX12_clearAudit 5 = .ok (.aload_n 0, 1) := by decide +kernel
theorem dX12_clearAudit_6 : decode cX12_clearAudit 6 = .ok (.getfield 201, 3) := by decide +kernel
theorem dX12_clearAudit_9 : decode cX12_clearAudit 9 = .ok (.istore_n 1, 1) := by decide +kernel
theorem dX12_clearAudit_10 : decode cX12_clearAudit 10 = .ok (.aload_n 0, 1) := by decide +kernel
theorem dX12_clearAudit_11 : decode cX12_clearAudit 11 = .ok (.iconst 0, 1) := by decide +kernel
theorem dX12_clearAudit_12 : decode cX12_clearAudit 12 = .ok (.putfield 201, 3) := by decide +kernel
theorem dX12_clearAudit_15 : decode cX12_clearAudit 15 = .ok (.iload_n 1, 1) := by decide +kernel
theorem dX12_clearAudit_16 : decode cX12_clearAudit 16 = .ok (.ireturn, 1) := by decide +kernel
set_option maxHeartbeats 4000000 in
set_option maxRecDepth 100000 in
theorem w_X12_clearAudit (l : Launch) (G : GP) (x : XP) (σ : Sto) (P : Int32 → Sto → Prop) (h : D_X12_clearAudit  σ P) : g_Meti l yX12_clearAudit cX12_clearAudit 2 (some .int) rm_X12_clearAudit G x [.ref (g_ad G 87)] σ P := by
  unfold D_X12_clearAudit at h
  refine g_ofWi (by decide +kernel) (Nat.le_of_ble_eq_true rfl) ?_
  intro p e s m args below meth c Q ls C hM hl hret
  have hx := C.1
  have hb := C.2.1
  have hl : lv_has ls 2 [(0, .ref (g_ad G 87))] := hl
  refine lv_aload_n (pc := 0) hx hb dX12_clearAudit_0 rfl (lv_at hl 0 rfl) ?_
  refine lv_iconst (pc := 1) (v := 0) hx hb dX12_clearAudit_1 (by decide) ?_
  refine g_putE (pc := 2) C hM (by decide) ce_87 fp_RX12_68 rfl rfl (Nat.le_of_ble_eq_true rfl) rfl dX12_clearAudit_2 (fun s2 es2 H locs hM => ?_)
  have h := h s2 es2
  refine lv_aload_n (pc := 5) hx hb dX12_clearAudit_5 rfl (lv_at hl 0 rfl) ?_
  refine g_get (pc := 6) (v := .int (s2 87 16)) C hM (by decide) ce_87 fl_RX12_201 rfl dX12_clearAudit_6 ?_
  refine lv_istore_n (pc := 9) (lv' := [(1, .int (s2 87 16)), (0, .ref (g_ad G 87))]) hx hb dX12_clearAudit_9 rfl hl (by decide) rfl (fun ls hl => ?_)
  refine lv_aload_n (pc := 10) hx hb dX12_clearAudit_10 rfl (lv_at hl 1 rfl) ?_
  refine lv_iconst (pc := 11) (v := 0) hx hb dX12_clearAudit_11 (by decide) ?_
  refine g_putE (pc := 12) C hM (by decide) ce_87 fp_RX12_201 rfl rfl (Nat.le_of_ble_eq_true rfl) rfl dX12_clearAudit_12 (fun s12 es12 H locs hM => ?_)
  have h := h s12 es12
  refine lv_iload_n (pc := 15) hx hb dX12_clearAudit_15 rfl (lv_at hl 0 rfl) ?_
  exact hret 16 _ _ _ _ _ dX12_clearAudit_16 (by rfl) h hM
abbrev rm_X12_append : Room := { frames := 1, cells := 0, slots := 0, locals := 22 }
theorem dX12_append_0 : decode cX12_append 0 = .ok (.aload_n 0, 1) := by decide +kernel
theorem dX12_append_1 : decode cX12_append 1 = .ok (.iload_n 1, 1) := by decide +kernel
theorem dX12_append_2 : decode cX12_append 2 = .ok (.bipush 32, 2) := by decide +kernel
theorem dX12_append_4 : decode cX12_append 4 = .ok (.bipush 126, 2) := by decide +kernel
theorem dX12_append_6 : decode cX12_append 6 = .ok (.invokestatic 71, 3) := by decide +kernel
theorem dX12_append_9 : decode cX12_append 9 = .ok (.ifCond .eq 20, 3) := by decide +kernel
theorem dX12_append_12 : decode cX12_append 12 = .ok (.aload_n 0, 1) := by decide +kernel
theorem dX12_append_13 : decode cX12_append 13 = .ok (.getfield 237, 3) := by decide +kernel
theorem dX12_append_16 : decode cX12_append 16 = .ok (.bipush 70, 2) := by decide +kernel
theorem dX12_append_18 : decode cX12_append 18 = .ok (.if_icmp .ne 7, 3) := by decide +kernel
theorem dX12_append_21 : decode cX12_append 21 = .ok (.iconst 2, 1) := by decide +kernel
theorem dX12_append_22 : decode cX12_append 22 = .ok (.goto 8, 3) := by decide +kernel
theorem dX12_append_25 : decode cX12_append 25 = .ok (.iconst 0, 1) := by decide +kernel
theorem dX12_append_26 : decode cX12_append 26 = .ok (.goto 4, 3) := by decide +kernel
theorem dX12_append_29 : decode cX12_append 29 = .ok (.iconst 1, 1) := by decide +kernel
theorem dX12_append_30 : decode cX12_append 30 = .ok (.putfield 68, 3) := by decide +kernel
theorem dX12_append_33 : decode cX12_append 33 = .ok (.aload_n 0, 1) := by decide +kernel
theorem dX12_append_34 : decode cX12_append 34 = .ok (.getfield 68, 3) := by decide +kernel
theorem dX12_append_37 : decode cX12_append 37 = .ok (.ifCond .le 5, 3) := by decide +kernel
theorem dX12_append_40 : decode cX12_append 40 = .ok (.iconst 0, 1) := by decide +kernel
theorem dX12_append_41 : decode cX12_append 41 = .ok (.ireturn, 1) := by decide +kernel
theorem dX12_append_42 : decode cX12_append 42 = .ok (.aload_n 0, 1) := by decide +kernel
theorem dX12_append_43 : decode cX12_append 43 = .ok (.getfield 55, 3) := by decide +kernel
theorem dX12_append_46 : decode cX12_append 46 = .ok (.aload_n 0, 1) := by decide +kernel
theorem dX12_append_47 : decode cX12_append 47 = .ok (.getfield 237, 3) := by decide +kernel
theorem dX12_append_50 : decode cX12_append 50 = .ok (.iload_n 1, 1) := by decide +kernel
theorem dX12_append_51 : decode cX12_append 51 = .ok (.iastore, 1) := by decide +kernel
theorem dX12_append_52 : decode cX12_append 52 = .ok (.aload_n 0, 1) := by decide +kernel
theorem dX12_append_53 : decode cX12_append 53 = .ok (.dup, 1) := by decide +kernel
theorem dX12_append_54 : decode cX12_append 54 = .ok (.getfield 237, 3) := by decide +kernel
theorem dX12_append_57 : decode cX12_append 57 = .ok (.iconst 1, 1) := by decide +kernel
theorem dX12_append_58 : decode cX12_append 58 = .ok (.iadd, 1) := by decide +kernel
theorem dX12_append_59 : decode cX12_append 59 = .ok (.putfield 237, 3) := by decide +kernel
theorem dX12_append_62 : decode cX12_append 62 = .ok (.aload_n 0, 1) := by decide +kernel
theorem dX12_append_63 : decode cX12_append 63 = .ok (.getfield 237, 3) := by decide +kernel
theorem dX12_append_66 : decode cX12_append 66 = .ok (.ireturn, 1) := by decide +kernel
set_option maxHeartbeats 4000000 in
set_option maxRecDepth 100000 in
theorem w_X12_append (l : Launch) (G : GP) (x : XP) (a1 : Int32) (σ : Sto) (P : Int32 → Sto → Prop) (h : D_X12_append a1 σ P) : g_Meti l yX12_append cX12_append 2 (some .int) rm_X12_append G x [.ref (g_ad G 87), .int a1] σ P := by
  unfold D_X12_append at h
  refine g_ofWi (by decide +kernel) (Nat.le_of_ble_eq_true rfl) ?_
  intro p e s m args below meth c Q ls C hM hl hret
  have hx := C.1
  have hb := C.2.1
  have hl : lv_has ls 2 [(0, .ref (g_ad G 87)), (1, .int a1)] := hl
  have h := h (fun (t0 : Int32) (σ : Sto) => ∀ (H : Heap) (locs : List Loc) (ls : Array Slot), g_M G x σ s H locs → lv_has ls 2 [(0, .ref (g_ad G 87)), (1, .int a1)] → W p l e rm_X12_append s m args below meth c H locs 0 0 Q (F0 m 30 ls [.int t0, .ref (g_ad G 87)]))
  have h := h (by
    intro t0 σ h  H locs ls hM hl
    refine g_putE (pc := 30) C hM (by decide) ce_87 fp_RX12_68 rfl rfl (Nat.le_of_ble_eq_true rfl) rfl dX12_append_30 (fun s30 es30 H locs hM => ?_)
    have h := h s30 es30
    refine lv_aload_n (pc := 33) hx hb dX12_append_33 rfl (lv_at hl 0 rfl) ?_
    refine g_get (pc := 34) (v := .int (s30 87 8)) C hM (by decide) ce_87 fl_RX12_68 rfl dX12_append_34 ?_
    refine lv_if_le (pc := 37) (tgt := 42) hx hb dX12_append_37 (by decide) (fun c37 => ?_) (fun c37 => ?_)
    · have h := h.1 c37
      refine lv_aload_n (pc := 42) hx hb dX12_append_42 rfl (lv_at hl 0 rfl) ?_
      refine g_get (pc := 43) (v := .ref (g_ad G 103)) C hM (by decide) ce_87 fl_RX12_55 rfl dX12_append_43 ?_
      refine lv_aload_n (pc := 46) hx hb dX12_append_46 rfl (lv_at hl 0 rfl) ?_
      refine g_get (pc := 47) (v := .int (s30 87 24)) C hM (by decide) ce_87 fl_RX12_237 rfl dX12_append_47 ?_
      refine lv_iload_n (pc := 50) hx hb dX12_append_50 rfl (lv_at hl 1 rfl) ?_
      obtain ⟨hc, h⟩ := h
      refine g_iastE (pc := 51) C hM (by decide) ce_103 hc rfl dX12_append_51 (fun s51 es51 H locs hM => ?_)
      have h := h s51 es51
      refine lv_aload_n (pc := 52) hx hb dX12_append_52 rfl (lv_at hl 0 rfl) ?_
      refine lv_dup (pc := 53) hx hb dX12_append_53 rfl ?_
      refine g_get (pc := 54) (v := .int (s51 87 24)) C hM (by decide) ce_87 fl_RX12_237 rfl dX12_append_54 ?_
      refine lv_iconst (pc := 57) (v := 1) hx hb dX12_append_57 (by decide) ?_
      refine lv_iadd (pc := 58) hx hb dX12_append_58 ?_
      refine g_putE (pc := 59) C hM (by decide) ce_87 fp_RX12_237 rfl rfl (Nat.le_of_ble_eq_true rfl) rfl dX12_append_59 (fun s59 es59 H locs hM => ?_)
      have h := h s59 es59
      refine lv_aload_n (pc := 62) hx hb dX12_append_62 rfl (lv_at hl 0 rfl) ?_
      refine g_get (pc := 63) (v := .int (s59 87 24)) C hM (by decide) ce_87 fl_RX12_237 rfl dX12_append_63 ?_
      exact hret 66 _ _ _ _ _ dX12_append_66 (by rfl) h hM
    · have h := h.2 c37
      refine lv_iconst (pc := 40) (v := 0) hx hb dX12_append_40 (by decide) ?_
      exact hret 41 _ _ _ _ _ dX12_append_41 (by rfl) h hM)
  refine lv_aload_n (pc := 0) hx hb dX12_append_0 rfl (lv_at hl 0 rfl) ?_
  refine lv_iload_n (pc := 1) hx hb dX12_append_1 rfl (lv_at hl 1 rfl) ?_
  refine lv_bipush (pc := 2) (v := 32) hx hb dX12_append_2 (by decide) ?_
  refine lv_bipush (pc := 4) (v := 126) hx hb dX12_append_4 (by decide) ?_
  refine g_cSi (pc := 6) C hM hl.1 ys_X12_in q6_108 (w_X12_in l G x a1 32 126 σ _ h) rfl rfl ⟨⟨by decide, by decide⟩, by decide, by decide⟩ (Nat.le_of_ble_eq_true rfl) dX12_append_6 (fun r6 s6 H locs h hM => ?_)
  refine lv_if_eq (pc := 9) (tgt := 29) hx hb dX12_append_9 (by decide) (fun c9 => ?_) (fun c9 => ?_)
  · have h := h.1 c9
    refine lv_iconst (pc := 29) (v := 1) hx hb dX12_append_29 (by decide) ?_
    exact h _ _ _ hM (lv_sub hl [0, 1] rfl)
  · have h := h.2 c9
    refine lv_aload_n (pc := 12) hx hb dX12_append_12 rfl (lv_at hl 0 rfl) ?_
    refine g_get (pc := 13) (v := .int (s6 87 24)) C hM (by decide) ce_87 fl_RX12_237 rfl dX12_append_13 ?_
    refine lv_bipush (pc := 16) (v := 70) hx hb dX12_append_16 (by decide) ?_
    refine lv_icmp_ne (pc := 18) (tgt := 25) hx hb dX12_append_18 (by decide) (fun c18 => ?_) (fun c18 => ?_)
    · have h := h.2 c18
      refine lv_iconst (pc := 25) (v := 0) hx hb dX12_append_25 (by decide) ?_
      refine lv_goto (pc := 26) (tgt := 30) hx hb dX12_append_26 (by decide) ?_
      exact h _ _ _ hM (lv_sub hl [0, 1] rfl)
    · have h := h.1 c18
      refine lv_iconst (pc := 21) (v := 2) hx hb dX12_append_21 (by decide) ?_
      refine lv_goto (pc := 22) (tgt := 30) hx hb dX12_append_22 (by decide) ?_
      exact h _ _ _ hM (lv_sub hl [0, 1] rfl)
abbrev rm_X12_here : Room := { frames := 0, cells := 0, slots := 0, locals := 0 }
theorem dX12_here_0 : decode cX12_here 0 = .ok (.aload_n 0, 1) := by decide +kernel
theorem dX12_here_1 : decode cX12_here 1 = .ok (.getfield 240, 3) := by decide +kernel
theorem dX12_here_4 : decode cX12_here 4 = .ok (.aload_n 0, 1) := by decide +kernel
theorem dX12_here_5 : decode cX12_here 5 = .ok (.getfield 237, 3) := by decide +kernel
theorem dX12_here_8 : decode cX12_here 8 = .ok (.if_icmp .ge 15, 3) := by decide +kernel
theorem dX12_here_11 : decode cX12_here 11 = .ok (.aload_n 0, 1) := by decide +kernel
theorem dX12_here_12 : decode cX12_here 12 = .ok (.getfield 55, 3) := by decide +kernel
theorem dX12_here_15 : decode cX12_here 15 = .ok (.aload_n 0, 1) := by decide +kernel
theorem dX12_here_16 : decode cX12_here 16 = .ok (.getfield 240, 3) := by decide +kernel
theorem dX12_here_19 : decode cX12_here 19 = .ok (.iaload, 1) := by decide +kernel
theorem dX12_here_20 : decode cX12_here 20 = .ok (.goto 4, 3) := by decide +kernel
theorem dX12_here_23 : decode cX12_here 23 = .ok (.iconst (-1), 1) := by decide +kernel
theorem dX12_here_24 : decode cX12_here 24 = .ok (.ireturn, 1) := by decide +kernel
set_option maxHeartbeats 4000000 in
set_option maxRecDepth 100000 in
theorem w_X12_here (l : Launch) (G : GP) (x : XP) (σ : Sto) (P : Int32 → Sto → Prop) (h : D_X12_here  σ P) : g_Meti l yX12_here cX12_here 1 (some .int) rm_X12_here G x [.ref (g_ad G 87)] σ P := by
  unfold D_X12_here at h
  refine g_ofWi (by decide +kernel) (Nat.le_of_ble_eq_true rfl) ?_
  intro p e s m args below meth c Q ls C hM hl hret
  have hx := C.1
  have hb := C.2.1
  have hl : lv_has ls 1 [(0, .ref (g_ad G 87))] := hl
  refine lv_aload_n (pc := 0) hx hb dX12_here_0 rfl (lv_at hl 0 rfl) ?_
  refine g_get (pc := 1) (v := .int (σ 87 25)) C hM (by decide) ce_87 fl_RX12_240 rfl dX12_here_1 ?_
  refine lv_aload_n (pc := 4) hx hb dX12_here_4 rfl (lv_at hl 0 rfl) ?_
  refine g_get (pc := 5) (v := .int (σ 87 24)) C hM (by decide) ce_87 fl_RX12_237 rfl dX12_here_5 ?_
  refine lv_icmp_ge (pc := 8) (tgt := 23) hx hb dX12_here_8 (by decide) (fun c8 => ?_) (fun c8 => ?_)
  · have h := h.1 c8
    refine lv_iconst (pc := 23) (v := (-1)) hx hb dX12_here_23 (by decide) ?_
    exact hret 24 _ _ _ _ _ dX12_here_24 (by rfl) h hM
  · have h := h.2 c8
    refine lv_aload_n (pc := 11) hx hb dX12_here_11 rfl (lv_at hl 0 rfl) ?_
    refine g_get (pc := 12) (v := .ref (g_ad G 103)) C hM (by decide) ce_87 fl_RX12_55 rfl dX12_here_12 ?_
    refine lv_aload_n (pc := 15) hx hb dX12_here_15 rfl (lv_at hl 0 rfl) ?_
    refine g_get (pc := 16) (v := .int (σ 87 25)) C hM (by decide) ce_87 fl_RX12_240 rfl dX12_here_16 ?_
    obtain ⟨hc, h⟩ := h
    refine g_ialdK (pc := 19) C hM (by decide) ce_103 hc rfl dX12_here_19 ?_
    refine lv_goto (pc := 20) (tgt := 24) hx hb dX12_here_20 (by decide) ?_
    exact hret 24 _ _ _ _ _ dX12_here_24 (by rfl) h hM
abbrev rm_X12_skips : Room := { frames := 1, cells := 0, slots := 0, locals := 20 }
theorem dX12_skips_0 : decode cX12_skips 0 = .ok (.aload_n 0, 1) := by decide +kernel
theorem dX12_skips_1 : decode cX12_skips 1 = .ok (.invokevirtual 243, 3) := by decide +kernel
theorem dX12_skips_4 : decode cX12_skips 4 = .ok (.iload_n 1, 1) := by decide +kernel
theorem dX12_skips_5 : decode cX12_skips 5 = .ok (.if_icmp .eq 5, 3) := by decide +kernel
theorem dX12_skips_8 : decode cX12_skips 8 = .ok (.iconst 0, 1) := by decide +kernel
theorem dX12_skips_9 : decode cX12_skips 9 = .ok (.ireturn, 1) := by decide +kernel
theorem dX12_skips_10 : decode cX12_skips 10 = .ok (.aload_n 0, 1) := by decide +kernel
theorem dX12_skips_11 : decode cX12_skips 11 = .ok (.dup, 1) := by decide +kernel
theorem dX12_skips_12 : decode cX12_skips 12 = .ok (.getfield 240, 3) := by decide +kernel
theorem dX12_skips_15 : decode cX12_skips 15 = .ok (.iconst 1, 1) := by decide +kernel
theorem dX12_skips_16 : decode cX12_skips 16 = .ok (.iadd, 1) := by decide +kernel
theorem dX12_skips_17 : decode cX12_skips 17 = .ok (.putfield 240, 3) := by decide +kernel
theorem dX12_skips_20 : decode cX12_skips 20 = .ok (.iconst 1, 1) := by decide +kernel
theorem dX12_skips_21 : decode cX12_skips 21 = .ok (.ireturn, 1) := by decide +kernel
set_option maxHeartbeats 4000000 in
set_option maxRecDepth 100000 in
theorem w_X12_skips (l : Launch) (G : GP) (x : XP) (a1 : Int32) (σ : Sto) (P : Int32 → Sto → Prop) (h : D_X12_skips a1 σ P) : g_Meti l yX12_skips cX12_skips 2 (some .boolean) rm_X12_skips G x [.ref (g_ad G 87), .int a1] σ P := by
  unfold D_X12_skips at h
  refine g_ofWi (by decide +kernel) (Nat.le_of_ble_eq_true rfl) ?_
  intro p e s m args below meth c Q ls C hM hl hret
  have hx := C.1
  have hb := C.2.1
  have hl : lv_has ls 2 [(0, .ref (g_ad G 87)), (1, .int a1)] := hl
  refine lv_aload_n (pc := 0) hx hb dX12_skips_0 rfl (lv_at hl 0 rfl) ?_
  refine g_cVi (pc := 1) C hM hl.1 yv_X12_here q7_207 (by decide) ce_87 rfl (w_X12_here l G x  σ _ h) rfl rfl ⟨⟨by decide, by decide⟩, by decide, by decide⟩ (Nat.le_of_ble_eq_true rfl) dX12_skips_1 (fun r1 s1 H locs h hM => ?_)
  refine lv_iload_n (pc := 4) hx hb dX12_skips_4 rfl (lv_at hl 1 rfl) ?_
  refine lv_icmp_eq (pc := 5) (tgt := 10) hx hb dX12_skips_5 (by decide) (fun c5 => ?_) (fun c5 => ?_)
  · have h := h.1 c5
    refine lv_aload_n (pc := 10) hx hb dX12_skips_10 rfl (lv_at hl 0 rfl) ?_
    refine lv_dup (pc := 11) hx hb dX12_skips_11 rfl ?_
    refine g_get (pc := 12) (v := .int (s1 87 25)) C hM (by decide) ce_87 fl_RX12_240 rfl dX12_skips_12 ?_
    refine lv_iconst (pc := 15) (v := 1) hx hb dX12_skips_15 (by decide) ?_
    refine lv_iadd (pc := 16) hx hb dX12_skips_16 ?_
    refine g_putE (pc := 17) C hM (by decide) ce_87 fp_RX12_240 rfl rfl (Nat.le_of_ble_eq_true rfl) rfl dX12_skips_17 (fun s17 es17 H locs hM => ?_)
    have h := h s17 es17
    refine lv_iconst (pc := 20) (v := 1) hx hb dX12_skips_20 (by decide) ?_
    exact hret 21 _ _ _ _ _ dX12_skips_21 (by rfl) h hM
  · have h := h.2 c5
    refine lv_iconst (pc := 8) (v := 0) hx hb dX12_skips_8 (by decide) ?_
    exact hret 9 _ _ _ _ _ dX12_skips_9 (by rfl) h hM
abbrev rm_X12_number : Room := { frames := 1, cells := 0, slots := 0, locals := 22 }
theorem dX12_number_0 : decode cX12_number 0 = .ok (.aload_n 0, 1) := by decide +kernel
theorem dX12_number_1 : decode cX12_number 1 = .ok (.invokevirtual 243, 3) := by decide +kernel
theorem dX12_number_4 : decode cX12_number 4 = .ok (.bipush 48, 2) := by decide +kernel
theorem dX12_number_6 : decode cX12_number 6 = .ok (.bipush 57, 2) := by decide +kernel
theorem dX12_number_8 : decode cX12_number 8 = .ok (.invokestatic 71, 3) := by decide +kernel
theorem dX12_number_11 : decode cX12_number 11 = .ok (.ifCond .ne 5, 3) := by decide +kernel
theorem dX12_number_14 : decode cX12_number 14 = .ok (.iconst 0, 1) := by decide +kernel
theorem dX12_number_15 : decode cX12_number 15 = .ok (.ireturn, 1) := by decide +kernel
theorem dX12_number_16 : decode cX12_number 16 = .ok (.aload_n 0, 1) := by decide +kernel
theorem dX12_number_17 : decode cX12_number 17 = .ok (.aload_n 0, 1) := by decide +kernel
theorem dX12_number_18 : decode cX12_number 18 = .ok (.invokevirtual 243, 3) := by decide +kernel
theorem dX12_number_21 : decode cX12_number 21 = .ok (.bipush 48, 2) := by decide +kernel
theorem dX12_number_23 : decode cX12_number 23 = .ok (.isub, 1) := by decide +kernel
theorem dX12_number_24 : decode cX12_number 24 = .ok (.putfield 246, 3) := by decide +kernel
theorem dX12_number_27 : decode cX12_number 27 = .ok (.aload_n 0, 1) := by decide +kernel
theorem dX12_number_28 : decode cX12_number 28 = .ok (.dup, 1) := by decide +kernel
theorem dX12_number_29 : decode cX12_number 29 = .ok (.getfield 240, 3) := by decide +kernel
theorem dX12_number_32 : decode cX12_number 32 = .ok (.iconst 1, 1) := by decide +kernel
theorem dX12_number_33 : decode cX12_number 33 = .ok (.iadd, 1) := by decide +kernel
theorem dX12_number_34 : decode cX12_number 34 = .ok (.putfield 240, 3) := by decide +kernel
theorem dX12_number_37 : decode cX12_number 37 = .ok (.aload_n 0, 1) := by decide +kernel
theorem dX12_number_38 : decode cX12_number 38 = .ok (.invokevirtual 243, 3) := by decide +kernel
theorem dX12_number_41 : decode cX12_number 41 = .ok (.bipush 48, 2) := by decide +kernel
theorem dX12_number_43 : decode cX12_number 43 = .ok (.bipush 57, 2) := by decide +kernel
theorem dX12_number_45 : decode cX12_number 45 = .ok (.invokestatic 71, 3) := by decide +kernel
theorem dX12_number_48 : decode cX12_number 48 = .ok (.ifCond .ne 5, 3) := by decide +kernel
theorem dX12_number_51 : decode cX12_number 51 = .ok (.iconst 1, 1) := by decide +kernel
theorem dX12_number_52 : decode cX12_number 52 = .ok (.ireturn, 1) := by decide +kernel
theorem dX12_number_53 : decode cX12_number 53 = .ok (.aload_n 0, 1) := by decide +kernel
theorem dX12_number_54 : decode cX12_number 54 = .ok (.bipush 10, 2) := by decide +kernel
theorem dX12_number_56 : decode cX12_number 56 = .ok (.aload_n 0, 1) := by decide +kernel
theorem dX12_number_57 : decode cX12_number 57 = .ok (.getfield 246, 3) := by decide +kernel
theorem dX12_number_60 : decode cX12_number 60 = .ok (.imul, 1) := by decide +kernel
theorem dX12_number_61 : decode cX12_number 61 = .ok (.aload_n 0, 1) := by decide +kernel
theorem dX12_number_62 : decode cX12_number 62 = .ok (.invokevirtual 243, 3) := by decide +kernel
theorem dX12_number_65 : decode cX12_number 65 = .ok (.iadd, 1) := by decide +kernel
theorem dX12_number_66 : decode cX12_number 66 = .ok (.bipush 48, 2) := by decide +kernel
theorem dX12_number_68 : decode cX12_number 68 = .ok (.isub, 1) := by decide +kernel
theorem dX12_number_69 : decode cX12_number 69 = .ok (.putfield 246, 3) := by decide +kernel
theorem dX12_number_72 : decode cX12_number 72 = .ok (.aload_n 0, 1) := by decide +kernel
theorem dX12_number_73 : decode cX12_number 73 = .ok (.getfield 246, 3) := by decide +kernel
theorem dX12_number_76 : decode cX12_number 76 = .ok (.bipush 15, 2) := by decide +kernel
theorem dX12_number_78 : decode cX12_number 78 = .ok (.if_icmp .le 5, 3) := by decide +kernel
theorem dX12_number_81 : decode cX12_number 81 = .ok (.iconst 0, 1) := by decide +kernel
theorem dX12_number_82 : decode cX12_number 82 = .ok (.ireturn, 1) := by decide +kernel
theorem dX12_number_83 : decode cX12_number 83 = .ok (.aload_n 0, 1) := by decide +kernel
theorem dX12_number_84 : decode cX12_number 84 = .ok (.dup, 1) := by decide +kernel
theorem dX12_number_85 : decode cX12_number 85 = .ok (.getfield 240, 3) := by decide +kernel
theorem dX12_number_88 : decode cX12_number 88 = .ok (.iconst 1, 1) := by decide +kernel
theorem dX12_number_89 : decode cX12_number 89 = .ok (.iadd, 1) := by decide +kernel
theorem dX12_number_90 : decode cX12_number 90 = .ok (.putfield 240, 3) := by decide +kernel
theorem dX12_number_93 : decode cX12_number 93 = .ok (.iconst 1, 1) := by decide +kernel
theorem dX12_number_94 : decode cX12_number 94 = .ok (.ireturn, 1) := by decide +kernel
set_option maxHeartbeats 4000000 in
set_option maxRecDepth 100000 in
theorem w_X12_number (l : Launch) (G : GP) (x : XP) (σ : Sto) (P : Int32 → Sto → Prop) (h : D_X12_number  σ P) : g_Meti l yX12_number cX12_number 1 (some .boolean) rm_X12_number G x [.ref (g_ad G 87)] σ P := by
  unfold D_X12_number at h
  refine g_ofWi (by decide +kernel) (Nat.le_of_ble_eq_true rfl) ?_
  intro p e s m args below meth c Q ls C hM hl hret
  have hx := C.1
  have hb := C.2.1
  have hl : lv_has ls 1 [(0, .ref (g_ad G 87))] := hl
  refine lv_aload_n (pc := 0) hx hb dX12_number_0 rfl (lv_at hl 0 rfl) ?_
  refine g_cVi (pc := 1) C hM hl.1 yv_X12_here q7_207 (by decide) ce_87 rfl (w_X12_here l G x  σ _ h) rfl rfl ⟨⟨by decide, by decide⟩, by decide, by decide⟩ (Nat.le_of_ble_eq_true rfl) dX12_number_1 (fun r1 s1 H locs h hM => ?_)
  refine lv_bipush (pc := 4) (v := 48) hx hb dX12_number_4 (by decide) ?_
  refine lv_bipush (pc := 6) (v := 57) hx hb dX12_number_6 (by decide) ?_
  refine g_cSi (pc := 8) C hM hl.1 ys_X12_in q6_108 (w_X12_in l G x r1 48 57 s1 _ h) rfl rfl ⟨⟨by decide, by decide⟩, by decide, by decide⟩ (Nat.le_of_ble_eq_true rfl) dX12_number_8 (fun r8 s8 H locs h hM => ?_)
  refine lv_if_ne (pc := 11) (tgt := 16) hx hb dX12_number_11 (by decide) (fun c11 => ?_) (fun c11 => ?_)
  · have h := h.2 c11
    refine lv_aload_n (pc := 16) hx hb dX12_number_16 rfl (lv_at hl 0 rfl) ?_
    refine lv_aload_n (pc := 17) hx hb dX12_number_17 rfl (lv_at hl 0 rfl) ?_
    refine g_cVi (pc := 18) C hM hl.1 yv_X12_here q7_207 (by decide) ce_87 rfl (w_X12_here l G x  s8 _ h) rfl rfl ⟨⟨by decide, by decide⟩, by decide, by decide⟩ (Nat.le_of_ble_eq_true rfl) dX12_number_18 (fun r18 s18 H locs h hM => ?_)
    refine lv_bipush (pc := 21) (v := 48) hx hb dX12_number_21 (by decide) ?_
    refine lv_isub (pc := 23) hx hb dX12_number_23 ?_
    refine g_putE (pc := 24) C hM (by decide) ce_87 fp_RX12_246 rfl rfl (Nat.le_of_ble_eq_true rfl) rfl dX12_number_24 (fun s24 es24 H locs hM => ?_)
    have h := h s24 es24
    refine lv_aload_n (pc := 27) hx hb dX12_number_27 rfl (lv_at hl 0 rfl) ?_
    refine lv_dup (pc := 28) hx hb dX12_number_28 rfl ?_
    refine g_get (pc := 29) (v := .int (s24 87 25)) C hM (by decide) ce_87 fl_RX12_240 rfl dX12_number_29 ?_
    refine lv_iconst (pc := 32) (v := 1) hx hb dX12_number_32 (by decide) ?_
    refine lv_iadd (pc := 33) hx hb dX12_number_33 ?_
    refine g_putE (pc := 34) C hM (by decide) ce_87 fp_RX12_240 rfl rfl (Nat.le_of_ble_eq_true rfl) rfl dX12_number_34 (fun s34 es34 H locs hM => ?_)
    have h := h s34 es34
    refine lv_aload_n (pc := 37) hx hb dX12_number_37 rfl (lv_at hl 0 rfl) ?_
    refine g_cVi (pc := 38) C hM hl.1 yv_X12_here q7_207 (by decide) ce_87 rfl (w_X12_here l G x  s34 _ h) rfl rfl ⟨⟨by decide, by decide⟩, by decide, by decide⟩ (Nat.le_of_ble_eq_true rfl) dX12_number_38 (fun r38 s38 H locs h hM => ?_)
    refine lv_bipush (pc := 41) (v := 48) hx hb dX12_number_41 (by decide) ?_
    refine lv_bipush (pc := 43) (v := 57) hx hb dX12_number_43 (by decide) ?_
    refine g_cSi (pc := 45) C hM hl.1 ys_X12_in q6_108 (w_X12_in l G x r38 48 57 s38 _ h) rfl rfl ⟨⟨by decide, by decide⟩, by decide, by decide⟩ (Nat.le_of_ble_eq_true rfl) dX12_number_45 (fun r45 s45 H locs h hM => ?_)
    refine lv_if_ne (pc := 48) (tgt := 53) hx hb dX12_number_48 (by decide) (fun c48 => ?_) (fun c48 => ?_)
    · have h := h.2 c48
      refine lv_aload_n (pc := 53) hx hb dX12_number_53 rfl (lv_at hl 0 rfl) ?_
      refine lv_bipush (pc := 54) (v := 10) hx hb dX12_number_54 (by decide) ?_
      refine lv_aload_n (pc := 56) hx hb dX12_number_56 rfl (lv_at hl 0 rfl) ?_
      refine g_get (pc := 57) (v := .int (s45 87 26)) C hM (by decide) ce_87 fl_RX12_246 rfl dX12_number_57 ?_
      refine lv_imul (pc := 60) hx hb dX12_number_60 ?_
      refine lv_aload_n (pc := 61) hx hb dX12_number_61 rfl (lv_at hl 0 rfl) ?_
      refine g_cVi (pc := 62) C hM hl.1 yv_X12_here q7_207 (by decide) ce_87 rfl (w_X12_here l G x  s45 _ h) rfl rfl ⟨⟨by decide, by decide⟩, by decide, by decide⟩ (Nat.le_of_ble_eq_true rfl) dX12_number_62 (fun r62 s62 H locs h hM => ?_)
      refine lv_iadd (pc := 65) hx hb dX12_number_65 ?_
      refine lv_bipush (pc := 66) (v := 48) hx hb dX12_number_66 (by decide) ?_
      refine lv_isub (pc := 68) hx hb dX12_number_68 ?_
      refine g_putE (pc := 69) C hM (by decide) ce_87 fp_RX12_246 rfl rfl (Nat.le_of_ble_eq_true rfl) rfl dX12_number_69 (fun s69 es69 H locs hM => ?_)
      have h := h s69 es69
      refine lv_aload_n (pc := 72) hx hb dX12_number_72 rfl (lv_at hl 0 rfl) ?_
      refine g_get (pc := 73) (v := .int (s69 87 26)) C hM (by decide) ce_87 fl_RX12_246 rfl dX12_number_73 ?_
      refine lv_bipush (pc := 76) (v := 15) hx hb dX12_number_76 (by decide) ?_
      refine lv_icmp_le (pc := 78) (tgt := 83) hx hb dX12_number_78 (by decide) (fun c78 => ?_) (fun c78 => ?_)
      · have h := h.1 c78
        refine lv_aload_n (pc := 83) hx hb dX12_number_83 rfl (lv_at hl 0 rfl) ?_
        refine lv_dup (pc := 84) hx hb dX12_number_84 rfl ?_
        refine g_get (pc := 85) (v := .int (s69 87 25)) C hM (by decide) ce_87 fl_RX12_240 rfl dX12_number_85 ?_
        refine lv_iconst (pc := 88) (v := 1) hx hb dX12_number_88 (by decide) ?_
        refine lv_iadd (pc := 89) hx hb dX12_number_89 ?_
        refine g_putE (pc := 90) C hM (by decide) ce_87 fp_RX12_240 rfl rfl (Nat.le_of_ble_eq_true rfl) rfl dX12_number_90 (fun s90 es90 H locs hM => ?_)
        have h := h s90 es90
        refine lv_iconst (pc := 93) (v := 1) hx hb dX12_number_93 (by decide) ?_
        exact hret 94 _ _ _ _ _ dX12_number_94 (by rfl) h hM
      · have h := h.2 c78
        refine lv_iconst (pc := 81) (v := 0) hx hb dX12_number_81 (by decide) ?_
        exact hret 82 _ _ _ _ _ dX12_number_82 (by rfl) h hM
    · have h := h.1 c48
      refine lv_iconst (pc := 51) (v := 1) hx hb dX12_number_51 (by decide) ?_
      exact hret 52 _ _ _ _ _ dX12_number_52 (by rfl) h hM
  · have h := h.1 c11
    refine lv_iconst (pc := 14) (v := 0) hx hb dX12_number_14 (by decide) ?_
    exact hret 15 _ _ _ _ _ dX12_number_15 (by rfl) h hM
abbrev rm_X12_kindHere : Room := { frames := 1, cells := 0, slots := 0, locals := 20 }
theorem dX12_kindHere_0 : decode cX12_kindHere 0 = .ok (.aload_n 0, 1) := by decide +kernel
theorem dX12_kindHere_1 : decode cX12_kindHere 1 = .ok (.invokevirtual 243, 3) := by decide +kernel
theorem dX12_kindHere_4 : decode cX12_kindHere 4 = .ok (.lookupswitch 62 #[(35, 54), (60, 56), (61, 52), (62, 58), (123, 60)], 52) := by decide +kernel
theorem dX12_kindHere_56 : decode cX12_kindHere 56 = .ok (.iconst 0, 1) := by decide +kernel
theorem dX12_kindHere_57 : decode cX12_kindHere 57 = .ok (.ireturn, 1) := by decide +kernel
theorem dX12_kindHere_58 : decode cX12_kindHere 58 = .ok (.iconst 1, 1) := by decide +kernel
theorem dX12_kindHere_59 : decode cX12_kindHere 59 = .ok (.ireturn, 1) := by decide +kernel
theorem dX12_kindHere_60 : decode cX12_kindHere 60 = .ok (.iconst 2, 1) := by decide +kernel
theorem dX12_kindHere_61 : decode cX12_kindHere 61 = .ok (.ireturn, 1) := by decide +kernel
theorem dX12_kindHere_62 : decode cX12_kindHere 62 = .ok (.iconst 3, 1) := by decide +kernel
theorem dX12_kindHere_63 : decode cX12_kindHere 63 = .ok (.ireturn, 1) := by decide +kernel
theorem dX12_kindHere_64 : decode cX12_kindHere 64 = .ok (.iconst 4, 1) := by decide +kernel
theorem dX12_kindHere_65 : decode cX12_kindHere 65 = .ok (.ireturn, 1) := by decide +kernel
theorem dX12_kindHere_66 : decode cX12_kindHere 66 = .ok (.iconst (-1), 1) := by decide +kernel
theorem dX12_kindHere_67 : decode cX12_kindHere 67 = .ok (.ireturn, 1) := by decide +kernel
set_option maxHeartbeats 4000000 in
set_option maxRecDepth 100000 in
theorem w_X12_kindHere (l : Launch) (G : GP) (x : XP) (σ : Sto) (P : Int32 → Sto → Prop) (h : D_X12_kindHere  σ P) : g_Meti l yX12_kindHere cX12_kindHere 1 (some .int) rm_X12_kindHere G x [.ref (g_ad G 87)] σ P := by
  unfold D_X12_kindHere at h
  refine g_ofWi (by decide +kernel) (Nat.le_of_ble_eq_true rfl) ?_
  intro p e s m args below meth c Q ls C hM hl hret
  have hx := C.1
  have hb := C.2.1
  have hl : lv_has ls 1 [(0, .ref (g_ad G 87))] := hl
  refine lv_aload_n (pc := 0) hx hb dX12_kindHere_0 rfl (lv_at hl 0 rfl) ?_
  refine g_cVi (pc := 1) C hM hl.1 yv_X12_here q7_207 (by decide) ce_87 rfl (w_X12_here l G x  σ _ h) rfl rfl ⟨⟨by decide, by decide⟩, by decide, by decide⟩ (Nat.le_of_ble_eq_true rfl) dX12_kindHere_1 (fun r1 s1 H locs h hM => ?_)
  by_cases c4_35 : r1 = 35
  · have h := h.1 c4_35
    refine lv_lookup (pc := 4) (off := 54) (tgt := 58) hx hb dX12_kindHere_4 (by decide) (by rw [c4_35] <;> rfl) (by decide) ?_
    refine lv_iconst (pc := 58) (v := 1) hx hb dX12_kindHere_58 (by decide) ?_
    exact hret 59 _ _ _ _ _ dX12_kindHere_59 (by rfl) h hM
  · have h := h.2 c4_35
    by_cases c4_60 : r1 = 60
    · have h := h.1 c4_60
      refine lv_lookup (pc := 4) (off := 56) (tgt := 60) hx hb dX12_kindHere_4 (by decide) ((lv_osw c4_35 rfl).trans (by rw [c4_60] <;> rfl)) (by decide) ?_
      refine lv_iconst (pc := 60) (v := 2) hx hb dX12_kindHere_60 (by decide) ?_
      exact hret 61 _ _ _ _ _ dX12_kindHere_61 (by rfl) h hM
    · have h := h.2 c4_60
      by_cases c4_61 : r1 = 61
      · have h := h.1 c4_61
        refine lv_lookup (pc := 4) (off := 52) (tgt := 56) hx hb dX12_kindHere_4 (by decide) ((lv_osw c4_35 rfl).trans ((lv_osw c4_60 rfl).trans (by rw [c4_61] <;> rfl))) (by decide) ?_
        refine lv_iconst (pc := 56) (v := 0) hx hb dX12_kindHere_56 (by decide) ?_
        exact hret 57 _ _ _ _ _ dX12_kindHere_57 (by rfl) h hM
      · have h := h.2 c4_61
        by_cases c4_62 : r1 = 62
        · have h := h.1 c4_62
          refine lv_lookup (pc := 4) (off := 58) (tgt := 62) hx hb dX12_kindHere_4 (by decide) ((lv_osw c4_35 rfl).trans ((lv_osw c4_60 rfl).trans ((lv_osw c4_61 rfl).trans (by rw [c4_62] <;> rfl)))) (by decide) ?_
          refine lv_iconst (pc := 62) (v := 3) hx hb dX12_kindHere_62 (by decide) ?_
          exact hret 63 _ _ _ _ _ dX12_kindHere_63 (by rfl) h hM
        · have h := h.2 c4_62
          by_cases c4_123 : r1 = 123
          · have h := h.1 c4_123
            refine lv_lookup (pc := 4) (off := 60) (tgt := 64) hx hb dX12_kindHere_4 (by decide) ((lv_osw c4_35 rfl).trans ((lv_osw c4_60 rfl).trans ((lv_osw c4_61 rfl).trans ((lv_osw c4_62 rfl).trans (by rw [c4_123] <;> rfl))))) (by decide) ?_
            refine lv_iconst (pc := 64) (v := 4) hx hb dX12_kindHere_64 (by decide) ?_
            exact hret 65 _ _ _ _ _ dX12_kindHere_65 (by rfl) h hM
          · have h := h.2 c4_123
            refine lv_lookup (pc := 4) (off := 62) (tgt := 66) hx hb dX12_kindHere_4 (by decide) ((lv_osw c4_35 rfl).trans ((lv_osw c4_60 rfl).trans ((lv_osw c4_61 rfl).trans ((lv_osw c4_62 rfl).trans ((lv_osw c4_123 rfl).trans (rfl)))))) (by decide) ?_
            refine lv_iconst (pc := 66) (v := (-1)) hx hb dX12_kindHere_66 (by decide) ?_
            exact hret 67 _ _ _ _ _ dX12_kindHere_67 (by rfl) h hM
abbrev rm_X12_valuesHere : Room := { frames := 2, cells := 0, slots := 0, locals := 42 }
theorem dX12_valuesHere_0 : decode cX12_valuesHere 0 = .ok (.iconst 0, 1) := by decide +kernel
theorem dX12_valuesHere_1 : decode cX12_valuesHere 1 = .ok (.istore_n 1, 1) := by decide +kernel
theorem dX12_valuesHere_2 : decode cX12_valuesHere 2 = .ok (.aload_n 0, 1) := by decide +kernel
theorem dX12_valuesHere_3 : decode cX12_valuesHere 3 = .ok (.invokevirtual 249, 3) := by decide +kernel
theorem dX12_valuesHere_6 : decode cX12_valuesHere 6 = .ok (.ifCond .ne 5, 3) := by decide +kernel
theorem dX12_valuesHere_9 : decode cX12_valuesHere 9 = .ok (.iconst 0, 1) := by decide +kernel
theorem dX12_valuesHere_10 : decode cX12_valuesHere 10 = .ok (.ireturn, 1) := by decide +kernel
theorem dX12_valuesHere_11 : decode cX12_valuesHere 11 = .ok (.iload_n 1, 1) := by decide +kernel
theorem dX12_valuesHere_12 : decode cX12_valuesHere 12 = .ok (.iconst 1, 1) := by decide +kernel
theorem dX12_valuesHere_13 : decode cX12_valuesHere 13 = .ok (.aload_n 0, 1) := by decide +kernel
theorem dX12_valuesHere_14 : decode cX12_valuesHere 14 = .ok (.getfield 246, 3) := by decide +kernel
theorem dX12_valuesHere_17 : decode cX12_valuesHere 17 = .ok (.ishl, 1) := by decide +kernel
theorem dX12_valuesHere_18 : decode cX12_valuesHere 18 = .ok (.ior, 1) := by decide +kernel
theorem dX12_valuesHere_19 : decode cX12_valuesHere 19 = .ok (.istore_n 1, 1) := by decide +kernel
theorem dX12_valuesHere_20 : decode cX12_valuesHere 20 = .ok (.aload_n 0, 1) := by decide +kernel
theorem dX12_valuesHere_21 : decode cX12_valuesHere 21 = .ok (.bipush 44, 2) := by decide +kernel
theorem dX12_valuesHere_23 : decode cX12_valuesHere 23 = .ok (.invokevirtual 252, 3) := by decide +kernel
theorem dX12_valuesHere_26 : decode cX12_valuesHere 26 = .ok (.ifCond .ne (-24), 3) := by decide +kernel
theorem dX12_valuesHere_29 : decode cX12_valuesHere 29 = .ok (.aload_n 0, 1) := by decide +kernel
theorem dX12_valuesHere_30 : decode cX12_valuesHere 30 = .ok (.iload_n 1, 1) := by decide +kernel
theorem dX12_valuesHere_31 : decode cX12_valuesHere 31 = .ok (.putfield 246, 3) := by decide +kernel
theorem dX12_valuesHere_34 : decode cX12_valuesHere 34 = .ok (.aload_n 0, 1) := by decide +kernel
theorem dX12_valuesHere_35 : decode cX12_valuesHere 35 = .ok (.bipush 125, 2) := by decide +kernel
theorem dX12_valuesHere_37 : decode cX12_valuesHere 37 = .ok (.invokevirtual 252, 3) := by decide +kernel
theorem dX12_valuesHere_40 : decode cX12_valuesHere 40 = .ok (.ireturn, 1) := by decide +kernel
set_option maxHeartbeats 4000000 in
set_option maxRecDepth 100000 in
theorem w_X12_valuesHere (l : Launch) (G : GP) (x : XP) (σ : Sto) (P : Int32 → Sto → Prop) (h : D_X12_valuesHere  σ P) : g_Meti l yX12_valuesHere cX12_valuesHere 2 (some .boolean) rm_X12_valuesHere G x [.ref (g_ad G 87)] σ P := by
  unfold D_X12_valuesHere at h
  refine g_ofWi (by decide +kernel) (Nat.le_of_ble_eq_true rfl) ?_
  intro p e s m args below meth c Q ls C hM hl hret
  have hx := C.1
  have hb := C.2.1
  have hl : lv_has ls 2 [(0, .ref (g_ad G 87))] := hl
  have h := h (fun (v1 : Int32) (σ : Sto) => ∀ (H : Heap) (locs : List Loc) (ls : Array Slot), g_M G x σ s H locs → lv_has ls 2 [(0, .ref (g_ad G 87)), (1, .int v1)] → W p l e rm_X12_valuesHere s m args below meth c H locs 0 0 Q (F0 m 2 ls []))
  have h := h (by
    intro v1 σ h  H locs ls hM hl
    refine lv_aload_n (pc := 2) hx hb dX12_valuesHere_2 rfl (lv_at hl 0 rfl) ?_
    refine g_cVi (pc := 3) C hM hl.1 yv_X12_number q7_227 (by decide) ce_87 rfl (w_X12_number l G x  σ _ h) rfl rfl ⟨⟨by decide, by decide⟩, by decide, by decide⟩ (Nat.le_of_ble_eq_true rfl) dX12_valuesHere_3 (fun r3 s3 H locs h hM => ?_)
    refine lv_if_ne (pc := 6) (tgt := 11) hx hb dX12_valuesHere_6 (by decide) (fun c6 => ?_) (fun c6 => ?_)
    · have h := h.2 c6
      refine lv_iload_n (pc := 11) hx hb dX12_valuesHere_11 rfl (lv_at hl 1 rfl) ?_
      refine lv_iconst (pc := 12) (v := 1) hx hb dX12_valuesHere_12 (by decide) ?_
      refine lv_aload_n (pc := 13) hx hb dX12_valuesHere_13 rfl (lv_at hl 0 rfl) ?_
      refine g_get (pc := 14) (v := .int (s3 87 26)) C hM (by decide) ce_87 fl_RX12_246 rfl dX12_valuesHere_14 ?_
      refine lv_ishl (pc := 17) hx hb dX12_valuesHere_17 ?_
      refine lv_ior (pc := 18) hx hb dX12_valuesHere_18 ?_
      refine lv_topi (fun v1_19 ev1_19 => ?_)
      have h := h v1_19 ev1_19
      refine lv_istore_n (pc := 19) (lv' := [(1, .int v1_19), (0, .ref (g_ad G 87))]) hx hb dX12_valuesHere_19 rfl hl (by decide) rfl (fun ls hl => ?_)
      refine lv_aload_n (pc := 20) hx hb dX12_valuesHere_20 rfl (lv_at hl 1 rfl) ?_
      refine lv_bipush (pc := 21) (v := 44) hx hb dX12_valuesHere_21 (by decide) ?_
      refine g_cVi (pc := 23) C hM hl.1 yv_X12_skips q7_211 (by decide) ce_87 rfl (w_X12_skips l G x 44 s3 _ h) rfl rfl ⟨⟨by decide, by decide⟩, by decide, by decide⟩ (Nat.le_of_ble_eq_true rfl) dX12_valuesHere_23 (fun r23 s23 H locs h hM => ?_)
      refine lv_if_ne (pc := 26) (tgt := 2) hx hb dX12_valuesHere_26 (by decide) (fun c26 => ?_) (fun c26 => ?_)
      · have h := h.2 c26
        exact h _ _ _ hM (lv_sub hl [1, 0] rfl)
      · have h := h.1 c26
        refine lv_aload_n (pc := 29) hx hb dX12_valuesHere_29 rfl (lv_at hl 1 rfl) ?_
        refine lv_iload_n (pc := 30) hx hb dX12_valuesHere_30 rfl (lv_at hl 0 rfl) ?_
        refine g_putE (pc := 31) C hM (by decide) ce_87 fp_RX12_246 rfl rfl (Nat.le_of_ble_eq_true rfl) rfl dX12_valuesHere_31 (fun s31 es31 H locs hM => ?_)
        have h := h s31 es31
        refine lv_aload_n (pc := 34) hx hb dX12_valuesHere_34 rfl (lv_at hl 1 rfl) ?_
        refine lv_bipush (pc := 35) (v := 125) hx hb dX12_valuesHere_35 (by decide) ?_
        refine g_cVi (pc := 37) C hM hl.1 yv_X12_skips q7_211 (by decide) ce_87 rfl (w_X12_skips l G x 125 s31 _ h) rfl rfl ⟨⟨by decide, by decide⟩, by decide, by decide⟩ (Nat.le_of_ble_eq_true rfl) dX12_valuesHere_37 (fun r37 s37 H locs h hM => ?_)
        exact hret 40 _ _ _ _ _ dX12_valuesHere_40 (nar_b h.1) h.2 hM
    · have h := h.1 c6
      refine lv_iconst (pc := 9) (v := 0) hx hb dX12_valuesHere_9 (by decide) ?_
      exact hret 10 _ _ _ _ _ dX12_valuesHere_10 (by rfl) h hM)
  refine lv_iconst (pc := 0) (v := 0) hx hb dX12_valuesHere_0 (by decide) ?_
  refine lv_istore_n (pc := 1) (lv' := [(1, .int 0), (0, .ref (g_ad G 87))]) hx hb dX12_valuesHere_1 rfl hl (by decide) rfl (fun ls hl => ?_)
  exact h _ _ _ hM (lv_sub hl [1, 0] rfl)
abbrev rm_X12_conditionHere : Room := { frames := 3, cells := 0, slots := 0, locals := 63 }
theorem dX12_conditionHere_0 : decode cX12_conditionHere 0 = .ok (.aload_n 0, 1) := by decide +kernel
theorem dX12_conditionHere_1 : decode cX12_conditionHere 1 = .ok (.invokevirtual 243, 3) := by decide +kernel
theorem dX12_conditionHere_4 : decode cX12_conditionHere 4 = .ok (.bipush 97, 2) := by decide +kernel
theorem dX12_conditionHere_6 : decode cX12_conditionHere 6 = .ok (.bipush 102, 2) := by decide +kernel
theorem dX12_conditionHere_8 : decode cX12_conditionHere 8 = .ok (.invokestatic 71, 3) := by decide +kernel
theorem dX12_conditionHere_11 : decode cX12_conditionHere 11 = .ok (.ifCond .ne 5, 3) := by decide +kernel
theorem dX12_conditionHere_14 : decode cX12_conditionHere 14 = .ok (.iconst 0, 1) := by decide +kernel
theorem dX12_conditionHere_15 : decode cX12_conditionHere 15 = .ok (.ireturn, 1) := by decide +kernel
theorem dX12_conditionHere_16 : decode cX12_conditionHere 16 = .ok (.aload_n 0, 1) := by decide +kernel
theorem dX12_conditionHere_17 : decode cX12_conditionHere 17 = .ok (.invokevirtual 243, 3) := by decide +kernel
theorem dX12_conditionHere_20 : decode cX12_conditionHere 20 = .ok (.bipush 97, 2) := by decide +kernel
theorem dX12_conditionHere_22 : decode cX12_conditionHere 22 = .ok (.isub, 1) := by decide +kernel
theorem dX12_conditionHere_23 : decode cX12_conditionHere 23 = .ok (.istore_n 2, 1) := by decide +kernel
theorem dX12_conditionHere_24 : decode cX12_conditionHere 24 = .ok (.aload_n 0, 1) := by decide +kernel
theorem dX12_conditionHere_25 : decode cX12_conditionHere 25 = .ok (.dup, 1) := by decide +kernel
theorem dX12_conditionHere_26 : decode cX12_conditionHere 26 = .ok (.getfield 240, 3) := by decide +kernel
theorem dX12_conditionHere_29 : decode cX12_conditionHere 29 = .ok (.iconst 1, 1) := by decide +kernel
theorem dX12_conditionHere_30 : decode cX12_conditionHere 30 = .ok (.iadd, 1) := by decide +kernel
theorem dX12_conditionHere_31 : decode cX12_conditionHere 31 = .ok (.putfield 240, 3) := by decide +kernel
theorem dX12_conditionHere_34 : decode cX12_conditionHere 34 = .ok (.aload_n 0, 1) := by decide +kernel
theorem dX12_conditionHere_35 : decode cX12_conditionHere 35 = .ok (.invokevirtual 255, 3) := by decide +kernel
theorem dX12_conditionHere_38 : decode cX12_conditionHere 38 = .ok (.istore_n 3, 1) := by decide +kernel
theorem dX12_conditionHere_39 : decode cX12_conditionHere 39 = .ok (.iload_n 3, 1) := by decide +kernel
theorem dX12_conditionHere_40 : decode cX12_conditionHere 40 = .ok (.ifCond .ge 5, 3) := by decide +kernel
theorem dX12_conditionHere_43 : decode cX12_conditionHere 43 = .ok (.iconst 0, 1) := by decide +kernel
theorem dX12_conditionHere_44 : decode cX12_conditionHere 44 = .ok (.ireturn, 1) := by decide +kernel
theorem dX12_conditionHere_45 : decode cX12_conditionHere 45 = .ok (.aload_n 0, 1) := by decide +kernel
theorem dX12_conditionHere_46 : decode cX12_conditionHere 46 = .ok (.dup, 1) := by decide +kernel
theorem dX12_conditionHere_47 : decode cX12_conditionHere 47 = .ok (.getfield 240, 3) := by decide +kernel
theorem dX12_conditionHere_50 : decode cX12_conditionHere 50 = .ok (.iconst 1, 1) := by decide +kernel
theorem dX12_conditionHere_51 : decode cX12_conditionHere 51 = .ok (.iadd, 1) := by decide +kernel
theorem dX12_conditionHere_52 : decode cX12_conditionHere 52 = .ok (.putfield 240, 3) := by decide +kernel
theorem dX12_conditionHere_55 : decode cX12_conditionHere 55 = .ok (.iload_n 3, 1) := by decide +kernel
theorem dX12_conditionHere_56 : decode cX12_conditionHere 56 = .ok (.iconst 4, 1) := by decide +kernel
theorem dX12_conditionHere_57 : decode cX12_conditionHere 57 = .ok (.if_icmp .ne 13, 3) := by decide +kernel
theorem dX12_conditionHere_60 : decode cX12_conditionHere 60 = .ok (.aload_n 0, 1) := by decide +kernel
theorem dX12_conditionHere_61 : decode cX12_conditionHere 61 = .ok (.invokevirtual 258, 3) := by decide +kernel
theorem dX12_conditionHere_64 : decode cX12_conditionHere 64 = .ok (.ifCond .ne 15, 3) := by decide +kernel
theorem dX12_conditionHere_67 : decode cX12_conditionHere 67 = .ok (.goto 10, 3) := by decide +kernel
theorem dX12_conditionHere_70 : decode cX12_conditionHere 70 = .ok (.aload_n 0, 1) := by decide +kernel
theorem dX12_conditionHere_71 : decode cX12_conditionHere 71 = .ok (.invokevirtual 249, 3) := by decide +kernel
theorem dX12_conditionHere_74 : decode cX12_conditionHere 74 = .ok (.ifCond .ne 5, 3) := by decide +kernel
theorem dX12_conditionHere_77 : decode cX12_conditionHere 77 = .ok (.iconst 0, 1) := by decide +kernel
theorem dX12_conditionHere_78 : decode cX12_conditionHere 78 = .ok (.ireturn, 1) := by decide +kernel
theorem dX12_conditionHere_79 : decode cX12_conditionHere 79 = .ok (.iload_n 1, 1) := by decide +kernel
theorem dX12_conditionHere_80 : decode cX12_conditionHere 80 = .ok (.iconst 4, 1) := by decide +kernel
theorem dX12_conditionHere_81 : decode cX12_conditionHere 81 = .ok (.iadd, 1) := by decide +kernel
theorem dX12_conditionHere_82 : decode cX12_conditionHere 82 = .ok (.iconst 3, 1) := by decide +kernel
theorem dX12_conditionHere_83 : decode cX12_conditionHere 83 = .ok (.aload_n 0, 1) := by decide +kernel
theorem dX12_conditionHere_84 : decode cX12_conditionHere 84 = .ok (.getfield 62, 3) := by decide +kernel
theorem dX12_conditionHere_87 : decode cX12_conditionHere 87 = .ok (.iload_n 1, 1) := by decide +kernel
theorem dX12_conditionHere_88 : decode cX12_conditionHere 88 = .ok (.iconst 3, 1) := by decide +kernel
theorem dX12_conditionHere_89 : decode cX12_conditionHere 89 = .ok (.iadd, 1) := by decide +kernel
theorem dX12_conditionHere_90 : decode cX12_conditionHere 90 = .ok (.iaload, 1) := by decide +kernel
theorem dX12_conditionHere_91 : decode cX12_conditionHere 91 = .ok (.imul, 1) := by decide +kernel
theorem dX12_conditionHere_92 : decode cX12_conditionHere 92 = .ok (.iadd, 1) := by decide +kernel
theorem dX12_conditionHere_93 : decode cX12_conditionHere 93 = .ok (.istore 4, 2) := by decide +kernel
theorem dX12_conditionHere_95 : decode cX12_conditionHere 95 = .ok (.aload_n 0, 1) := by decide +kernel
theorem dX12_conditionHere_96 : decode cX12_conditionHere 96 = .ok (.getfield 62, 3) := by decide +kernel
theorem dX12_conditionHere_99 : decode cX12_conditionHere 99 = .ok (.iload 4, 2) := by decide +kernel
theorem dX12_conditionHere_101 : decode cX12_conditionHere 101 = .ok (.iload_n 2, 1) := by decide +kernel
theorem dX12_conditionHere_102 : decode cX12_conditionHere 102 = .ok (.iastore, 1) := by decide +kernel
theorem dX12_conditionHere_103 : decode cX12_conditionHere 103 = .ok (.aload_n 0, 1) := by decide +kernel
theorem dX12_conditionHere_104 : decode cX12_conditionHere 104 = .ok (.getfield 62, 3) := by decide +kernel
theorem dX12_conditionHere_107 : decode cX12_conditionHere 107 = .ok (.iload 4, 2) := by decide +kernel
theorem dX12_conditionHere_109 : decode cX12_conditionHere 109 = .ok (.iconst 1, 1) := by decide +kernel
theorem dX12_conditionHere_110 : decode cX12_conditionHere 110 = .ok (.iadd, 1) := by decide +kernel
theorem dX12_conditionHere_111 : decode cX12_conditionHere 111 = .ok (.iload_n 3, 1) := by decide +kernel
theorem dX12_conditionHere_112 : decode cX12_conditionHere 112 = .ok (.iastore, 1) := by decide +kernel
theorem dX12_conditionHere_113 : decode cX12_conditionHere 113 = .ok (.aload_n 0, 1) := by decide +kernel
theorem dX12_conditionHere_114 : decode cX12_conditionHere 114 = .ok (.getfield 62, 3) := by decide +kernel
theorem dX12_conditionHere_117 : decode cX12_conditionHere 117 = .ok (.iload 4, 2) := by decide +kernel
theorem dX12_conditionHere_119 : decode cX12_conditionHere 119 = .ok (.iconst 2, 1) := by decide +kernel
theorem dX12_conditionHere_120 : decode cX12_conditionHere 120 = .ok (.iadd, 1) := by decide +kernel
theorem dX12_conditionHere_121 : decode cX12_conditionHere 121 = .ok (.aload_n 0, 1) := by decide +kernel
theorem dX12_conditionHere_122 : decode cX12_conditionHere 122 = .ok (.getfield 246, 3) := by decide +kernel
theorem dX12_conditionHere_125 : decode cX12_conditionHere 125 = .ok (.iastore, 1) := by decide +kernel
theorem dX12_conditionHere_126 : decode cX12_conditionHere 126 = .ok (.aload_n 0, 1) := by decide +kernel
theorem dX12_conditionHere_127 : decode cX12_conditionHere 127 = .ok (.getfield 62, 3) := by decide +kernel
theorem dX12_conditionHere_130 : decode cX12_conditionHere 130 = .ok (.iload_n 1, 1) := by decide +kernel
theorem dX12_conditionHere_131 : decode cX12_conditionHere 131 = .ok (.iconst 3, 1) := by decide +kernel
theorem dX12_conditionHere_132 : decode cX12_conditionHere 132 = .ok (.iadd, 1) := by decide +kernel
theorem dX12_conditionHere_133 : decode cX12_conditionHere 133 = .ok (.dup2, 1) := by decide +kernel
theorem dX12_conditionHere_134 : decode cX12_conditionHere 134 = .ok (.iaload, 1) := by decide +kernel
theorem dX12_conditionHere_135 : decode cX12_conditionHere 135 = .ok (.iconst 1, 1) := by decide +kernel
theorem dX12_conditionHere_136 : decode cX12_conditionHere 136 = .ok (.iadd, 1) := by decide +kernel
theorem dX12_conditionHere_137 : decode cX12_conditionHere 137 = .ok (.iastore, 1) := by decide +kernel
theorem dX12_conditionHere_138 : decode cX12_conditionHere 138 = .ok (.iconst 1, 1) := by decide +kernel
theorem dX12_conditionHere_139 : decode cX12_conditionHere 139 = .ok (.ireturn, 1) := by decide +kernel
set_option maxHeartbeats 4000000 in
set_option maxRecDepth 100000 in
theorem w_X12_conditionHere (l : Launch) (G : GP) (x : XP) (a1 : Int32) (σ : Sto) (P : Int32 → Sto → Prop) (h : D_X12_conditionHere a1 σ P) : g_Meti l yX12_conditionHere cX12_conditionHere 5 (some .boolean) rm_X12_conditionHere G x [.ref (g_ad G 87), .int a1] σ P := by
  unfold D_X12_conditionHere at h
  refine g_ofWi (by decide +kernel) (Nat.le_of_ble_eq_true rfl) ?_
  intro p e s m args below meth c Q ls C hM hl hret
  have hx := C.1
  have hb := C.2.1
  have hl : lv_has ls 5 [(0, .ref (g_ad G 87)), (1, .int a1)] := hl
  have h := h (fun (v2 : Int32) (v3 : Int32) (σ : Sto) => ∀ (H : Heap) (locs : List Loc) (ls : Array Slot), g_M G x σ s H locs → lv_has ls 5 [(0, .ref (g_ad G 87)), (1, .int a1), (2, .int v2), (3, .int v3)] → W p l e rm_X12_conditionHere s m args below meth c H locs 0 0 Q (F0 m 79 ls []))
  have h := h (by
    intro v2 v3 σ h  H locs ls hM hl
    refine lv_iload_n (pc := 79) hx hb dX12_conditionHere_79 rfl (lv_at hl 1 rfl) ?_
    refine lv_iconst (pc := 80) (v := 4) hx hb dX12_conditionHere_80 (by decide) ?_
    refine lv_iadd (pc := 81) hx hb dX12_conditionHere_81 ?_
    refine lv_iconst (pc := 82) (v := 3) hx hb dX12_conditionHere_82 (by decide) ?_
    refine lv_aload_n (pc := 83) hx hb dX12_conditionHere_83 rfl (lv_at hl 0 rfl) ?_
    refine g_get (pc := 84) (v := .ref (g_ad G 104)) C hM (by decide) ce_87 fl_RX12_62 rfl dX12_conditionHere_84 ?_
    refine lv_iload_n (pc := 87) hx hb dX12_conditionHere_87 rfl (lv_at hl 1 rfl) ?_
    refine lv_iconst (pc := 88) (v := 3) hx hb dX12_conditionHere_88 (by decide) ?_
    refine lv_iadd (pc := 89) hx hb dX12_conditionHere_89 ?_
    obtain ⟨hc, h⟩ := h
    refine g_ialdK (pc := 90) C hM (by decide) ce_104 hc rfl dX12_conditionHere_90 ?_
    refine lv_imul (pc := 91) hx hb dX12_conditionHere_91 ?_
    refine lv_iadd (pc := 92) hx hb dX12_conditionHere_92 ?_
    refine lv_topi (fun v4_93 ev4_93 => ?_)
    have h := h v4_93 ev4_93
    refine lv_istore (pc := 93) (lv' := [(4, .int v4_93), (0, .ref (g_ad G 87)), (1, .int a1), (2, .int v2), (3, .int v3)]) hx hb dX12_conditionHere_93 hl (by decide) rfl (fun ls hl => ?_)
    refine lv_aload_n (pc := 95) hx hb dX12_conditionHere_95 rfl (lv_at hl 1 rfl) ?_
    refine g_get (pc := 96) (v := .ref (g_ad G 104)) C hM (by decide) ce_87 fl_RX12_62 rfl dX12_conditionHere_96 ?_
    refine lv_iload (pc := 99) hx hb dX12_conditionHere_99 (lv_at hl 0 rfl) ?_
    refine lv_iload_n (pc := 101) hx hb dX12_conditionHere_101 rfl (lv_at hl 3 rfl) ?_
    obtain ⟨hc, h⟩ := h
    refine g_iastE (pc := 102) C hM (by decide) ce_104 hc rfl dX12_conditionHere_102 (fun s102 es102 H locs hM => ?_)
    have h := h s102 es102
    refine lv_aload_n (pc := 103) hx hb dX12_conditionHere_103 rfl (lv_at hl 1 rfl) ?_
    refine g_get (pc := 104) (v := .ref (g_ad G 104)) C hM (by decide) ce_87 fl_RX12_62 rfl dX12_conditionHere_104 ?_
    refine lv_iload (pc := 107) hx hb dX12_conditionHere_107 (lv_at hl 0 rfl) ?_
    refine lv_iconst (pc := 109) (v := 1) hx hb dX12_conditionHere_109 (by decide) ?_
    refine lv_iadd (pc := 110) hx hb dX12_conditionHere_110 ?_
    refine lv_iload_n (pc := 111) hx hb dX12_conditionHere_111 rfl (lv_at hl 4 rfl) ?_
    obtain ⟨hc, h⟩ := h
    refine g_iastE (pc := 112) C hM (by decide) ce_104 hc rfl dX12_conditionHere_112 (fun s112 es112 H locs hM => ?_)
    have h := h s112 es112
    refine lv_aload_n (pc := 113) hx hb dX12_conditionHere_113 rfl (lv_at hl 1 rfl) ?_
    refine g_get (pc := 114) (v := .ref (g_ad G 104)) C hM (by decide) ce_87 fl_RX12_62 rfl dX12_conditionHere_114 ?_
    refine lv_iload (pc := 117) hx hb dX12_conditionHere_117 (lv_at hl 0 rfl) ?_
    refine lv_iconst (pc := 119) (v := 2) hx hb dX12_conditionHere_119 (by decide) ?_
    refine lv_iadd (pc := 120) hx hb dX12_conditionHere_120 ?_
    refine lv_aload_n (pc := 121) hx hb dX12_conditionHere_121 rfl (lv_at hl 1 rfl) ?_
    refine g_get (pc := 122) (v := .int (s112 87 26)) C hM (by decide) ce_87 fl_RX12_246 rfl dX12_conditionHere_122 ?_
    obtain ⟨hc, h⟩ := h
    refine g_iastE (pc := 125) C hM (by decide) ce_104 hc rfl dX12_conditionHere_125 (fun s125 es125 H locs hM => ?_)
    have h := h s125 es125
    refine lv_aload_n (pc := 126) hx hb dX12_conditionHere_126 rfl (lv_at hl 1 rfl) ?_
    refine g_get (pc := 127) (v := .ref (g_ad G 104)) C hM (by decide) ce_87 fl_RX12_62 rfl dX12_conditionHere_127 ?_
    refine lv_iload_n (pc := 130) hx hb dX12_conditionHere_130 rfl (lv_at hl 2 rfl) ?_
    refine lv_iconst (pc := 131) (v := 3) hx hb dX12_conditionHere_131 (by decide) ?_
    refine lv_iadd (pc := 132) hx hb dX12_conditionHere_132 ?_
    refine lv_dup2_11 (pc := 133) hx hb dX12_conditionHere_133 rfl rfl ?_
    obtain ⟨hc, h⟩ := h
    refine g_ialdK (pc := 134) C hM (by decide) ce_104 hc rfl dX12_conditionHere_134 ?_
    refine lv_iconst (pc := 135) (v := 1) hx hb dX12_conditionHere_135 (by decide) ?_
    refine lv_iadd (pc := 136) hx hb dX12_conditionHere_136 ?_
    obtain ⟨hc, h⟩ := h
    refine g_iastE (pc := 137) C hM (by decide) ce_104 hc rfl dX12_conditionHere_137 (fun s137 es137 H locs hM => ?_)
    have h := h s137 es137
    refine lv_iconst (pc := 138) (v := 1) hx hb dX12_conditionHere_138 (by decide) ?_
    exact hret 139 _ _ _ _ _ dX12_conditionHere_139 (by rfl) h hM)
  refine lv_aload_n (pc := 0) hx hb dX12_conditionHere_0 rfl (lv_at hl 0 rfl) ?_
  refine g_cVi (pc := 1) C hM hl.1 yv_X12_here q7_207 (by decide) ce_87 rfl (w_X12_here l G x  σ _ h) rfl rfl ⟨⟨by decide, by decide⟩, by decide, by decide⟩ (Nat.le_of_ble_eq_true rfl) dX12_conditionHere_1 (fun r1 s1 H locs h hM => ?_)
  refine lv_bipush (pc := 4) (v := 97) hx hb dX12_conditionHere_4 (by decide) ?_
  refine lv_bipush (pc := 6) (v := 102) hx hb dX12_conditionHere_6 (by decide) ?_
  refine g_cSi (pc := 8) C hM hl.1 ys_X12_in q6_108 (w_X12_in l G x r1 97 102 s1 _ h) rfl rfl ⟨⟨by decide, by decide⟩, by decide, by decide⟩ (Nat.le_of_ble_eq_true rfl) dX12_conditionHere_8 (fun r8 s8 H locs h hM => ?_)
  refine lv_if_ne (pc := 11) (tgt := 16) hx hb dX12_conditionHere_11 (by decide) (fun c11 => ?_) (fun c11 => ?_)
  · have h := h.2 c11
    refine lv_aload_n (pc := 16) hx hb dX12_conditionHere_16 rfl (lv_at hl 0 rfl) ?_
    refine g_cVi (pc := 17) C hM hl.1 yv_X12_here q7_207 (by decide) ce_87 rfl (w_X12_here l G x  s8 _ h) rfl rfl ⟨⟨by decide, by decide⟩, by decide, by decide⟩ (Nat.le_of_ble_eq_true rfl) dX12_conditionHere_17 (fun r17 s17 H locs h hM => ?_)
    refine lv_bipush (pc := 20) (v := 97) hx hb dX12_conditionHere_20 (by decide) ?_
    refine lv_isub (pc := 22) hx hb dX12_conditionHere_22 ?_
    refine lv_istore_n (pc := 23) (lv' := [(2, .int (r17 - 97)), (0, .ref (g_ad G 87)), (1, .int a1)]) hx hb dX12_conditionHere_23 rfl hl (by decide) rfl (fun ls hl => ?_)
    refine lv_aload_n (pc := 24) hx hb dX12_conditionHere_24 rfl (lv_at hl 1 rfl) ?_
    refine lv_dup (pc := 25) hx hb dX12_conditionHere_25 rfl ?_
    refine g_get (pc := 26) (v := .int (s17 87 25)) C hM (by decide) ce_87 fl_RX12_240 rfl dX12_conditionHere_26 ?_
    refine lv_iconst (pc := 29) (v := 1) hx hb dX12_conditionHere_29 (by decide) ?_
    refine lv_iadd (pc := 30) hx hb dX12_conditionHere_30 ?_
    refine g_putE (pc := 31) C hM (by decide) ce_87 fp_RX12_240 rfl rfl (Nat.le_of_ble_eq_true rfl) rfl dX12_conditionHere_31 (fun s31 es31 H locs hM => ?_)
    have h := h s31 es31
    refine lv_aload_n (pc := 34) hx hb dX12_conditionHere_34 rfl (lv_at hl 1 rfl) ?_
    refine g_cVi (pc := 35) C hM hl.1 yv_X12_kindHere q7_219 (by decide) ce_87 rfl (w_X12_kindHere l G x  s31 _ h) rfl rfl ⟨⟨by decide, by decide⟩, by decide, by decide⟩ (Nat.le_of_ble_eq_true rfl) dX12_conditionHere_35 (fun r35 s35 H locs h hM => ?_)
    refine lv_istore_n (pc := 38) (lv' := [(3, .int r35), (2, .int (r17 - 97)), (0, .ref (g_ad G 87)), (1, .int a1)]) hx hb dX12_conditionHere_38 rfl hl (by decide) rfl (fun ls hl => ?_)
    refine lv_iload_n (pc := 39) hx hb dX12_conditionHere_39 rfl (lv_at hl 0 rfl) ?_
    refine lv_if_ge (pc := 40) (tgt := 45) hx hb dX12_conditionHere_40 (by decide) (fun c40 => ?_) (fun c40 => ?_)
    · have h := h.1 c40
      refine lv_aload_n (pc := 45) hx hb dX12_conditionHere_45 rfl (lv_at hl 2 rfl) ?_
      refine lv_dup (pc := 46) hx hb dX12_conditionHere_46 rfl ?_
      refine g_get (pc := 47) (v := .int (s35 87 25)) C hM (by decide) ce_87 fl_RX12_240 rfl dX12_conditionHere_47 ?_
      refine lv_iconst (pc := 50) (v := 1) hx hb dX12_conditionHere_50 (by decide) ?_
      refine lv_iadd (pc := 51) hx hb dX12_conditionHere_51 ?_
      refine g_putE (pc := 52) C hM (by decide) ce_87 fp_RX12_240 rfl rfl (Nat.le_of_ble_eq_true rfl) rfl dX12_conditionHere_52 (fun s52 es52 H locs hM => ?_)
      have h := h s52 es52
      refine lv_iload_n (pc := 55) hx hb dX12_conditionHere_55 rfl (lv_at hl 0 rfl) ?_
      refine lv_iconst (pc := 56) (v := 4) hx hb dX12_conditionHere_56 (by decide) ?_
      refine lv_icmp_ne (pc := 57) (tgt := 70) hx hb dX12_conditionHere_57 (by decide) (fun c57 => ?_) (fun c57 => ?_)
      · have h := h.2 c57
        refine lv_aload_n (pc := 70) hx hb dX12_conditionHere_70 rfl (lv_at hl 2 rfl) ?_
        refine g_cVi (pc := 71) C hM hl.1 yv_X12_number q7_227 (by decide) ce_87 rfl (w_X12_number l G x  s52 _ h) rfl rfl ⟨⟨by decide, by decide⟩, by decide, by decide⟩ (Nat.le_of_ble_eq_true rfl) dX12_conditionHere_71 (fun r71 s71 H locs h hM => ?_)
        refine lv_if_ne (pc := 74) (tgt := 79) hx hb dX12_conditionHere_74 (by decide) (fun c74 => ?_) (fun c74 => ?_)
        · have h := h.2 c74
          exact h _ _ _ hM (lv_sub hl [2, 3, 1, 0] rfl)
        · have h := h.1 c74
          refine lv_iconst (pc := 77) (v := 0) hx hb dX12_conditionHere_77 (by decide) ?_
          exact hret 78 _ _ _ _ _ dX12_conditionHere_78 (by rfl) h hM
      · have h := h.1 c57
        refine lv_aload_n (pc := 60) hx hb dX12_conditionHere_60 rfl (lv_at hl 2 rfl) ?_
        refine g_cVi (pc := 61) C hM hl.1 yv_X12_valuesHere q7_223 (by decide) ce_87 rfl (w_X12_valuesHere l G x  s52 _ h) rfl rfl ⟨⟨by decide, by decide⟩, by decide, by decide⟩ (Nat.le_of_ble_eq_true rfl) dX12_conditionHere_61 (fun r61 s61 H locs h hM => ?_)
        refine lv_if_ne (pc := 64) (tgt := 79) hx hb dX12_conditionHere_64 (by decide) (fun c64 => ?_) (fun c64 => ?_)
        · have h := h.2 c64
          exact h _ _ _ hM (lv_sub hl [2, 3, 1, 0] rfl)
        · have h := h.1 c64
          refine lv_goto (pc := 67) (tgt := 77) hx hb dX12_conditionHere_67 (by decide) ?_
          refine lv_iconst (pc := 77) (v := 0) hx hb dX12_conditionHere_77 (by decide) ?_
          exact hret 78 _ _ _ _ _ dX12_conditionHere_78 (by rfl) h hM
    · have h := h.2 c40
      refine lv_iconst (pc := 43) (v := 0) hx hb dX12_conditionHere_43 (by decide) ?_
      exact hret 44 _ _ _ _ _ dX12_conditionHere_44 (by rfl) h hM
  · have h := h.1 c11
    refine lv_iconst (pc := 14) (v := 0) hx hb dX12_conditionHere_14 (by decide) ?_
    exact hret 15 _ _ _ _ _ dX12_conditionHere_15 (by rfl) h hM
abbrev rm_X12_ruleHere : Room := { frames := 4, cells := 0, slots := 0, locals := 87 }
theorem dX12_ruleHere_0 : decode cX12_ruleHere 0 = .ok (.bipush 16, 2) := by decide +kernel
theorem dX12_ruleHere_2 : decode cX12_ruleHere 2 = .ok (.aload_n 0, 1) := by decide +kernel
theorem dX12_ruleHere_3 : decode cX12_ruleHere 3 = .ok (.getfield 261, 3) := by decide +kernel
theorem dX12_ruleHere_6 : decode cX12_ruleHere 6 = .ok (.imul, 1) := by decide +kernel
theorem dX12_ruleHere_7 : decode cX12_ruleHere 7 = .ok (.istore_n 1, 1) := by decide +kernel
theorem dX12_ruleHere_8 : decode cX12_ruleHere 8 = .ok (.aload_n 0, 1) := by decide +kernel
theorem dX12_ruleHere_9 : decode cX12_ruleHere 9 = .ok (.invokevirtual 243, 3) := by decide +kernel
theorem dX12_ruleHere_12 : decode cX12_ruleHere 12 = .ok (.bipush 48, 2) := by decide +kernel
theorem dX12_ruleHere_14 : decode cX12_ruleHere 14 = .ok (.bipush 51, 2) := by decide +kernel
theorem dX12_ruleHere_16 : decode cX12_ruleHere 16 = .ok (.invokestatic 71, 3) := by decide +kernel
theorem dX12_ruleHere_19 : decode cX12_ruleHere 19 = .ok (.ifCond .ne 5, 3) := by decide +kernel
theorem dX12_ruleHere_22 : decode cX12_ruleHere 22 = .ok (.iconst 0, 1) := by decide +kernel
theorem dX12_ruleHere_23 : decode cX12_ruleHere 23 = .ok (.ireturn, 1) := by decide +kernel
theorem dX12_ruleHere_24 : decode cX12_ruleHere 24 = .ok (.aload_n 0, 1) := by decide +kernel
theorem dX12_ruleHere_25 : decode cX12_ruleHere 25 = .ok (.getfield 62, 3) := by decide +kernel
theorem dX12_ruleHere_28 : decode cX12_ruleHere 28 = .ok (.iload_n 1, 1) := by decide +kernel
theorem dX12_ruleHere_29 : decode cX12_ruleHere 29 = .ok (.aload_n 0, 1) := by decide +kernel
theorem dX12_ruleHere_30 : decode cX12_ruleHere 30 = .ok (.invokevirtual 243, 3) := by decide +kernel
theorem dX12_ruleHere_33 : decode cX12_ruleHere 33 = .ok (.bipush 48, 2) := by decide +kernel
theorem dX12_ruleHere_35 : decode cX12_ruleHere 35 = .ok (.isub, 1) := by decide +kernel
theorem dX12_ruleHere_36 : decode cX12_ruleHere 36 = .ok (.iastore, 1) := by decide +kernel
theorem dX12_ruleHere_37 : decode cX12_ruleHere 37 = .ok (.aload_n 0, 1) := by decide +kernel
theorem dX12_ruleHere_38 : decode cX12_ruleHere 38 = .ok (.dup, 1) := by decide +kernel
theorem dX12_ruleHere_39 : decode cX12_ruleHere 39 = .ok (.getfield 240, 3) := by decide +kernel
theorem dX12_ruleHere_42 : decode cX12_ruleHere 42 = .ok (.iconst 1, 1) := by decide +kernel
theorem dX12_ruleHere_43 : decode cX12_ruleHere 43 = .ok (.iadd, 1) := by decide +kernel
theorem dX12_ruleHere_44 : decode cX12_ruleHere 44 = .ok (.putfield 240, 3) := by decide +kernel
theorem dX12_ruleHere_47 : decode cX12_ruleHere 47 = .ok (.aload_n 0, 1) := by decide +kernel
theorem dX12_ruleHere_48 : decode cX12_ruleHere 48 = .ok (.invokevirtual 243, 3) := by decide +kernel
theorem dX12_ruleHere_51 : decode cX12_ruleHere 51 = .ok (.bipush 43, 2) := by decide +kernel
theorem dX12_ruleHere_53 : decode cX12_ruleHere 53 = .ok (.if_icmp .eq 14, 3) := by decide +kernel
theorem dX12_ruleHere_56 : decode cX12_ruleHere 56 = .ok (.aload_n 0, 1) := by decide +kernel
theorem dX12_ruleHere_57 : decode cX12_ruleHere 57 = .ok (.invokevirtual 243, 3) := by decide +kernel
theorem dX12_ruleHere_60 : decode cX12_ruleHere 60 = .ok (.bipush 45, 2) := by decide +kernel
theorem dX12_ruleHere_62 : decode cX12_ruleHere 62 = .ok (.if_icmp .eq 5, 3) := by decide +kernel
theorem dX12_ruleHere_65 : decode cX12_ruleHere 65 = .ok (.iconst 0, 1) := by decide +kernel
theorem dX12_ruleHere_66 : decode cX12_ruleHere 66 = .ok (.ireturn, 1) := by decide +kernel
theorem dX12_ruleHere_67 : decode cX12_ruleHere 67 = .ok (.aload_n 0, 1) := by decide +kernel
theorem dX12_ruleHere_68 : decode cX12_ruleHere 68 = .ok (.getfield 62, 3) := by decide +kernel
theorem dX12_ruleHere_71 : decode cX12_ruleHere 71 = .ok (.iload_n 1, 1) := by decide +kernel
theorem dX12_ruleHere_72 : decode cX12_ruleHere 72 = .ok (.iconst 1, 1) := by decide +kernel
theorem dX12_ruleHere_73 : decode cX12_ruleHere 73 = .ok (.iadd, 1) := by decide +kernel
theorem dX12_ruleHere_74 : decode cX12_ruleHere 74 = .ok (.aload_n 0, 1) := by decide +kernel
theorem dX12_ruleHere_75 : decode cX12_ruleHere 75 = .ok (.invokevirtual 243, 3) := by decide +kernel
theorem dX12_ruleHere_78 : decode cX12_ruleHere 78 = .ok (.bipush 45, 2) := by decide +kernel
theorem dX12_ruleHere_80 : decode cX12_ruleHere 80 = .ok (.if_icmp .ne 7, 3) := by decide +kernel
theorem dX12_ruleHere_83 : decode cX12_ruleHere 83 = .ok (.iconst 1, 1) := by decide +kernel
theorem dX12_ruleHere_84 : decode cX12_ruleHere 84 = .ok (.goto 4, 3) := by decide +kernel
theorem dX12_ruleHere_87 : decode cX12_ruleHere 87 = .ok (.iconst 0, 1) := by decide +kernel
theorem dX12_ruleHere_88 : decode cX12_ruleHere 88 = .ok (.iastore, 1) := by decide +kernel
theorem dX12_ruleHere_89 : decode cX12_ruleHere 89 = .ok (.aload_n 0, 1) := by decide +kernel
theorem dX12_ruleHere_90 : decode cX12_ruleHere 90 = .ok (.getfield 62, 3) := by decide +kernel
theorem dX12_ruleHere_93 : decode cX12_ruleHere 93 = .ok (.iload_n 1, 1) := by decide +kernel
theorem dX12_ruleHere_94 : decode cX12_ruleHere 94 = .ok (.iconst 3, 1) := by decide +kernel
theorem dX12_ruleHere_95 : decode cX12_ruleHere 95 = .ok (.iadd, 1) := by decide +kernel
theorem dX12_ruleHere_96 : decode cX12_ruleHere 96 = .ok (.iconst 0, 1) := by decide +kernel
theorem dX12_ruleHere_97 : decode cX12_ruleHere 97 = .ok (.iastore, 1) := by decide +kernel
theorem dX12_ruleHere_98 : decode cX12_ruleHere 98 = .ok (.aload_n 0, 1) := by decide +kernel
theorem dX12_ruleHere_99 : decode cX12_ruleHere 99 = .ok (.dup, 1) := by decide +kernel
theorem dX12_ruleHere_100 : decode cX12_ruleHere 100 = .ok (.getfield 240, 3) := by decide +kernel
theorem dX12_ruleHere_103 : decode cX12_ruleHere 103 = .ok (.iconst 1, 1) := by decide +kernel
theorem dX12_ruleHere_104 : decode cX12_ruleHere 104 = .ok (.iadd, 1) := by decide +kernel
theorem dX12_ruleHere_105 : decode cX12_ruleHere 105 = .ok (.putfield 240, 3) := by decide +kernel
theorem dX12_ruleHere_108 : decode cX12_ruleHere 108 = .ok (.aload_n 0, 1) := by decide +kernel
theorem dX12_ruleHere_109 : decode cX12_ruleHere 109 = .ok (.bipush 58, 2) := by decide +kernel
theorem dX12_ruleHere_111 : decode cX12_ruleHere 111 = .ok (.invokevirtual 252, 3) := by decide +kernel
theorem dX12_ruleHere_114 : decode cX12_ruleHere 114 = .ok (.ifCond .ne 45, 3) := by decide +kernel
theorem dX12_ruleHere_117 : decode cX12_ruleHere 117 = .ok (.aload_n 0, 1) := by decide +kernel
theorem dX12_ruleHere_118 : decode cX12_ruleHere 118 = .ok (.iload_n 1, 1) := by decide +kernel
theorem dX12_ruleHere_119 : decode cX12_ruleHere 119 = .ok (.invokevirtual 264, 3) := by decide +kernel
theorem dX12_ruleHere_122 : decode cX12_ruleHere 122 = .ok (.ifCond .ne 5, 3) := by decide +kernel
theorem dX12_ruleHere_125 : decode cX12_ruleHere 125 = .ok (.iconst 0, 1) := by decide +kernel
theorem dX12_ruleHere_126 : decode cX12_ruleHere 126 = .ok (.ireturn, 1) := by decide +kernel
theorem dX12_ruleHere_127 : decode cX12_ruleHere 127 = .ok (.aload_n 0, 1) := by decide +kernel
theorem dX12_ruleHere_128 : decode cX12_ruleHere 128 = .ok (.getfield 62, 3) := by decide +kernel
theorem dX12_ruleHere_131 : decode cX12_ruleHere 131 = .ok (.iload_n 1, 1) := by decide +kernel
theorem dX12_ruleHere_132 : decode cX12_ruleHere 132 = .ok (.iconst 3, 1) := by decide +kernel
theorem dX12_ruleHere_133 : decode cX12_ruleHere 133 = .ok (.iadd, 1) := by decide +kernel
theorem dX12_ruleHere_134 : decode cX12_ruleHere 134 = .ok (.iaload, 1) := by decide +kernel
theorem dX12_ruleHere_135 : decode cX12_ruleHere 135 = .ok (.iconst 4, 1) := by decide +kernel
theorem dX12_ruleHere_136 : decode cX12_ruleHere 136 = .ok (.if_icmp .ge 12, 3) := by decide +kernel
theorem dX12_ruleHere_139 : decode cX12_ruleHere 139 = .ok (.aload_n 0, 1) := by decide +kernel
theorem dX12_ruleHere_140 : decode cX12_ruleHere 140 = .ok (.bipush 38, 2) := by decide +kernel
theorem dX12_ruleHere_142 : decode cX12_ruleHere 142 = .ok (.invokevirtual 252, 3) := by decide +kernel
theorem dX12_ruleHere_145 : decode cX12_ruleHere 145 = .ok (.ifCond .ne (-28), 3) := by decide +kernel
theorem dX12_ruleHere_148 : decode cX12_ruleHere 148 = .ok (.aload_n 0, 1) := by decide +kernel
theorem dX12_ruleHere_149 : decode cX12_ruleHere 149 = .ok (.bipush 58, 2) := by decide +kernel
theorem dX12_ruleHere_151 : decode cX12_ruleHere 151 = .ok (.invokevirtual 252, 3) := by decide +kernel
theorem dX12_ruleHere_154 : decode cX12_ruleHere 154 = .ok (.ifCond .ne 5, 3) := by decide +kernel
theorem dX12_ruleHere_157 : decode cX12_ruleHere 157 = .ok (.iconst 0, 1) := by decide +kernel
theorem dX12_ruleHere_158 : decode cX12_ruleHere 158 = .ok (.ireturn, 1) := by decide +kernel
theorem dX12_ruleHere_159 : decode cX12_ruleHere 159 = .ok (.aload_n 0, 1) := by decide +kernel
theorem dX12_ruleHere_160 : decode cX12_ruleHere 160 = .ok (.invokevirtual 243, 3) := by decide +kernel
theorem dX12_ruleHere_163 : decode cX12_ruleHere 163 = .ok (.bipush 48, 2) := by decide +kernel
theorem dX12_ruleHere_165 : decode cX12_ruleHere 165 = .ok (.bipush 57, 2) := by decide +kernel
theorem dX12_ruleHere_167 : decode cX12_ruleHere 167 = .ok (.invokestatic 71, 3) := by decide +kernel
theorem dX12_ruleHere_170 : decode cX12_ruleHere 170 = .ok (.ifCond .ne 5, 3) := by decide +kernel
theorem dX12_ruleHere_173 : decode cX12_ruleHere 173 = .ok (.iconst 0, 1) := by decide +kernel
theorem dX12_ruleHere_174 : decode cX12_ruleHere 174 = .ok (.ireturn, 1) := by decide +kernel
theorem dX12_ruleHere_175 : decode cX12_ruleHere 175 = .ok (.aload_n 0, 1) := by decide +kernel
theorem dX12_ruleHere_176 : decode cX12_ruleHere 176 = .ok (.getfield 62, 3) := by decide +kernel
theorem dX12_ruleHere_179 : decode cX12_ruleHere 179 = .ok (.iload_n 1, 1) := by decide +kernel
theorem dX12_ruleHere_180 : decode cX12_ruleHere 180 = .ok (.iconst 2, 1) := by decide +kernel
theorem dX12_ruleHere_181 : decode cX12_ruleHere 181 = .ok (.iadd, 1) := by decide +kernel
theorem dX12_ruleHere_182 : decode cX12_ruleHere 182 = .ok (.aload_n 0, 1) := by decide +kernel
theorem dX12_ruleHere_183 : decode cX12_ruleHere 183 = .ok (.invokevirtual 243, 3) := by decide +kernel
theorem dX12_ruleHere_186 : decode cX12_ruleHere 186 = .ok (.bipush 48, 2) := by decide +kernel
theorem dX12_ruleHere_188 : decode cX12_ruleHere 188 = .ok (.isub, 1) := by decide +kernel
theorem dX12_ruleHere_189 : decode cX12_ruleHere 189 = .ok (.iastore, 1) := by decide +kernel
theorem dX12_ruleHere_190 : decode cX12_ruleHere 190 = .ok (.aload_n 0, 1) := by decide +kernel
theorem dX12_ruleHere_191 : decode cX12_ruleHere 191 = .ok (.dup, 1) := by decide +kernel
theorem dX12_ruleHere_192 : decode cX12_ruleHere 192 = .ok (.getfield 240, 3) := by decide +kernel
theorem dX12_ruleHere_195 : decode cX12_ruleHere 195 = .ok (.iconst 1, 1) := by decide +kernel
theorem dX12_ruleHere_196 : decode cX12_ruleHere 196 = .ok (.iadd, 1) := by decide +kernel
theorem dX12_ruleHere_197 : decode cX12_ruleHere 197 = .ok (.putfield 240, 3) := by decide +kernel
theorem dX12_ruleHere_200 : decode cX12_ruleHere 200 = .ok (.aload_n 0, 1) := by decide +kernel
theorem dX12_ruleHere_201 : decode cX12_ruleHere 201 = .ok (.dup, 1) := by decide +kernel
theorem dX12_ruleHere_202 : decode cX12_ruleHere 202 = .ok (.getfield 261, 3) := by decide +kernel
theorem dX12_ruleHere_205 : decode cX12_ruleHere 205 = .ok (.iconst 1, 1) := by decide +kernel
theorem dX12_ruleHere_206 : decode cX12_ruleHere 206 = .ok (.iadd, 1) := by decide +kernel
theorem dX12_ruleHere_207 : decode cX12_ruleHere 207 = .ok (.putfield 261, 3) := by decide +kernel
theorem dX12_ruleHere_210 : decode cX12_ruleHere 210 = .ok (.aload_n 0, 1) := by decide +kernel
theorem dX12_ruleHere_211 : decode cX12_ruleHere 211 = .ok (.bipush 59, 2) := by decide +kernel
theorem dX12_ruleHere_213 : decode cX12_ruleHere 213 = .ok (.invokevirtual 252, 3) := by decide +kernel
theorem dX12_ruleHere_216 : decode cX12_ruleHere 216 = .ok (.ireturn, 1) := by decide +kernel
set_option maxHeartbeats 4000000 in
set_option maxRecDepth 100000 in
theorem w_X12_ruleHere (l : Launch) (G : GP) (x : XP) (σ : Sto) (P : Int32 → Sto → Prop) (h : D_X12_ruleHere  σ P) : g_Meti l yX12_ruleHere cX12_ruleHere 2 (some .boolean) rm_X12_ruleHere G x [.ref (g_ad G 87)] σ P := by
  unfold D_X12_ruleHere at h
  refine g_ofWi (by decide +kernel) (Nat.le_of_ble_eq_true rfl) ?_
  intro p e s m args below meth c Q ls C hM hl hret
  have hx := C.1
  have hb := C.2.1
  have hl : lv_has ls 2 [(0, .ref (g_ad G 87))] := hl
  have h := h (fun (v1 : Int32) (t0 : Int32) (t1 : Int32) (σ : Sto) => ∀ (H : Heap) (locs : List Loc) (ls : Array Slot), g_M G x σ s H locs → lv_has ls 2 [(0, .ref (g_ad G 87)), (1, .int v1)] → W p l e rm_X12_ruleHere s m args below meth c H locs 0 0 Q (F0 m 88 ls [.int t1, .int t0, .ref (g_ad G 104)])) (fun (v1 : Int32) (σ : Sto) => ∀ (H : Heap) (locs : List Loc) (ls : Array Slot), g_M G x σ s H locs → lv_has ls 2 [(0, .ref (g_ad G 87)), (1, .int v1)] → W p l e rm_X12_ruleHere s m args below meth c H locs 0 0 Q (F0 m 117 ls [])) (fun (v1 : Int32) (σ : Sto) => ∀ (H : Heap) (locs : List Loc) (ls : Array Slot), g_M G x σ s H locs → lv_has ls 2 [(0, .ref (g_ad G 87)), (1, .int v1)] → W p l e rm_X12_ruleHere s m args below meth c H locs 0 0 Q (F0 m 159 ls []))
  have h := h (by
    intro v1 t0 t1 σ h  H locs ls hM hl
    obtain ⟨hc, h⟩ := h
    refine g_iastE (pc := 88) C hM (by decide) ce_104 hc rfl dX12_ruleHere_88 (fun s88 es88 H locs hM => ?_)
    have h := h s88 es88
    refine lv_aload_n (pc := 89) hx hb dX12_ruleHere_89 rfl (lv_at hl 0 rfl) ?_
    refine g_get (pc := 90) (v := .ref (g_ad G 104)) C hM (by decide) ce_87 fl_RX12_62 rfl dX12_ruleHere_90 ?_
    refine lv_iload_n (pc := 93) hx hb dX12_ruleHere_93 rfl (lv_at hl 1 rfl) ?_
    refine lv_iconst (pc := 94) (v := 3) hx hb dX12_ruleHere_94 (by decide) ?_
    refine lv_iadd (pc := 95) hx hb dX12_ruleHere_95 ?_
    refine lv_iconst (pc := 96) (v := 0) hx hb dX12_ruleHere_96 (by decide) ?_
    obtain ⟨hc, h⟩ := h
    refine g_iastE (pc := 97) C hM (by decide) ce_104 hc rfl dX12_ruleHere_97 (fun s97 es97 H locs hM => ?_)
    have h := h s97 es97
    refine lv_aload_n (pc := 98) hx hb dX12_ruleHere_98 rfl (lv_at hl 0 rfl) ?_
    refine lv_dup (pc := 99) hx hb dX12_ruleHere_99 rfl ?_
    refine g_get (pc := 100) (v := .int (s97 87 25)) C hM (by decide) ce_87 fl_RX12_240 rfl dX12_ruleHere_100 ?_
    refine lv_iconst (pc := 103) (v := 1) hx hb dX12_ruleHere_103 (by decide) ?_
    refine lv_iadd (pc := 104) hx hb dX12_ruleHere_104 ?_
    refine g_putE (pc := 105) C hM (by decide) ce_87 fp_RX12_240 rfl rfl (Nat.le_of_ble_eq_true rfl) rfl dX12_ruleHere_105 (fun s105 es105 H locs hM => ?_)
    have h := h s105 es105
    refine lv_aload_n (pc := 108) hx hb dX12_ruleHere_108 rfl (lv_at hl 0 rfl) ?_
    refine lv_bipush (pc := 109) (v := 58) hx hb dX12_ruleHere_109 (by decide) ?_
    refine g_cVi (pc := 111) C hM hl.1 yv_X12_skips q7_211 (by decide) ce_87 rfl (w_X12_skips l G x 58 s105 _ h) rfl rfl ⟨⟨by decide, by decide⟩, by decide, by decide⟩ (Nat.le_of_ble_eq_true rfl) dX12_ruleHere_111 (fun r111 s111 H locs h hM => ?_)
    refine lv_if_ne (pc := 114) (tgt := 159) hx hb dX12_ruleHere_114 (by decide) (fun c114 => ?_) (fun c114 => ?_)
    · have h := h.2 c114
      exact h _ _ _ hM (lv_sub hl [0, 1] rfl)
    · have h := h.1 c114
      exact h _ _ _ hM (lv_sub hl [0, 1] rfl))
  have h := h (by
    intro v1 σ h  H locs ls hM hl
    refine lv_aload_n (pc := 117) hx hb dX12_ruleHere_117 rfl (lv_at hl 0 rfl) ?_
    refine lv_iload_n (pc := 118) hx hb dX12_ruleHere_118 rfl (lv_at hl 1 rfl) ?_
    refine g_cVi (pc := 119) C hM hl.1 yv_X12_conditionHere q7_215 (by decide) ce_87 rfl (w_X12_conditionHere l G x v1 σ _ h) rfl rfl ⟨⟨by decide, by decide⟩, by decide, by decide⟩ (Nat.le_of_ble_eq_true rfl) dX12_ruleHere_119 (fun r119 s119 H locs h hM => ?_)
    refine lv_if_ne (pc := 122) (tgt := 127) hx hb dX12_ruleHere_122 (by decide) (fun c122 => ?_) (fun c122 => ?_)
    · have h := h.2 c122
      refine lv_aload_n (pc := 127) hx hb dX12_ruleHere_127 rfl (lv_at hl 0 rfl) ?_
      refine g_get (pc := 128) (v := .ref (g_ad G 104)) C hM (by decide) ce_87 fl_RX12_62 rfl dX12_ruleHere_128 ?_
      refine lv_iload_n (pc := 131) hx hb dX12_ruleHere_131 rfl (lv_at hl 1 rfl) ?_
      refine lv_iconst (pc := 132) (v := 3) hx hb dX12_ruleHere_132 (by decide) ?_
      refine lv_iadd (pc := 133) hx hb dX12_ruleHere_133 ?_
      obtain ⟨hc, h⟩ := h
      refine g_ialdK (pc := 134) C hM (by decide) ce_104 hc rfl dX12_ruleHere_134 ?_
      refine lv_iconst (pc := 135) (v := 4) hx hb dX12_ruleHere_135 (by decide) ?_
      refine lv_icmp_ge (pc := 136) (tgt := 148) hx hb dX12_ruleHere_136 (by decide) (fun c136 => ?_) (fun c136 => ?_)
      · have h := h.1 c136
        refine lv_aload_n (pc := 148) hx hb dX12_ruleHere_148 rfl (lv_at hl 0 rfl) ?_
        refine lv_bipush (pc := 149) (v := 58) hx hb dX12_ruleHere_149 (by decide) ?_
        refine g_cVi (pc := 151) C hM hl.1 yv_X12_skips q7_211 (by decide) ce_87 rfl (w_X12_skips l G x 58 s119 _ h) rfl rfl ⟨⟨by decide, by decide⟩, by decide, by decide⟩ (Nat.le_of_ble_eq_true rfl) dX12_ruleHere_151 (fun r151 s151 H locs h hM => ?_)
        refine lv_if_ne (pc := 154) (tgt := 159) hx hb dX12_ruleHere_154 (by decide) (fun c154 => ?_) (fun c154 => ?_)
        · have h := h.2 c154
          exact h _ _ _ hM (lv_sub hl [0, 1] rfl)
        · have h := h.1 c154
          refine lv_iconst (pc := 157) (v := 0) hx hb dX12_ruleHere_157 (by decide) ?_
          exact hret 158 _ _ _ _ _ dX12_ruleHere_158 (by rfl) h hM
      · have h := h.2 c136
        refine lv_aload_n (pc := 139) hx hb dX12_ruleHere_139 rfl (lv_at hl 0 rfl) ?_
        refine lv_bipush (pc := 140) (v := 38) hx hb dX12_ruleHere_140 (by decide) ?_
        refine g_cVi (pc := 142) C hM hl.1 yv_X12_skips q7_211 (by decide) ce_87 rfl (w_X12_skips l G x 38 s119 _ h) rfl rfl ⟨⟨by decide, by decide⟩, by decide, by decide⟩ (Nat.le_of_ble_eq_true rfl) dX12_ruleHere_142 (fun r142 s142 H locs h hM => ?_)
        refine lv_if_ne (pc := 145) (tgt := 117) hx hb dX12_ruleHere_145 (by decide) (fun c145 => ?_) (fun c145 => ?_)
        · have h := h.2 c145
          exact h _ _ _ hM (lv_sub hl [0, 1] rfl)
        · have h := h.1 c145
          refine lv_aload_n (pc := 148) hx hb dX12_ruleHere_148 rfl (lv_at hl 0 rfl) ?_
          refine lv_bipush (pc := 149) (v := 58) hx hb dX12_ruleHere_149 (by decide) ?_
          refine g_cVi (pc := 151) C hM hl.1 yv_X12_skips q7_211 (by decide) ce_87 rfl (w_X12_skips l G x 58 s142 _ h) rfl rfl ⟨⟨by decide, by decide⟩, by decide, by decide⟩ (Nat.le_of_ble_eq_true rfl) dX12_ruleHere_151 (fun r151 s151 H locs h hM => ?_)
          refine lv_if_ne (pc := 154) (tgt := 159) hx hb dX12_ruleHere_154 (by decide) (fun c154 => ?_) (fun c154 => ?_)
          · have h := h.2 c154
            exact h _ _ _ hM (lv_sub hl [0, 1] rfl)
          · have h := h.1 c154
            refine lv_iconst (pc := 157) (v := 0) hx hb dX12_ruleHere_157 (by decide) ?_
            exact hret 158 _ _ _ _ _ dX12_ruleHere_158 (by rfl) h hM
    · have h := h.1 c122
      refine lv_iconst (pc := 125) (v := 0) hx hb dX12_ruleHere_125 (by decide) ?_
      exact hret 126 _ _ _ _ _ dX12_ruleHere_126 (by rfl) h hM)
  have h := h (by
    intro v1 σ h  H locs ls hM hl
    refine lv_aload_n (pc := 159) hx hb dX12_ruleHere_159 rfl (lv_at hl 0 rfl) ?_
    refine g_cVi (pc := 160) C hM hl.1 yv_X12_here q7_207 (by decide) ce_87 rfl (w_X12_here l G x  σ _ h) rfl rfl ⟨⟨by decide, by decide⟩, by decide, by decide⟩ (Nat.le_of_ble_eq_true rfl) dX12_ruleHere_160 (fun r160 s160 H locs h hM => ?_)
    refine lv_bipush (pc := 163) (v := 48) hx hb dX12_ruleHere_163 (by decide) ?_
    refine lv_bipush (pc := 165) (v := 57) hx hb dX12_ruleHere_165 (by decide) ?_
    refine g_cSi (pc := 167) C hM hl.1 ys_X12_in q6_108 (w_X12_in l G x r160 48 57 s160 _ h) rfl rfl ⟨⟨by decide, by decide⟩, by decide, by decide⟩ (Nat.le_of_ble_eq_true rfl) dX12_ruleHere_167 (fun r167 s167 H locs h hM => ?_)
    refine lv_if_ne (pc := 170) (tgt := 175) hx hb dX12_ruleHere_170 (by decide) (fun c170 => ?_) (fun c170 => ?_)
    · have h := h.2 c170
      refine lv_aload_n (pc := 175) hx hb dX12_ruleHere_175 rfl (lv_at hl 0 rfl) ?_
      refine g_get (pc := 176) (v := .ref (g_ad G 104)) C hM (by decide) ce_87 fl_RX12_62 rfl dX12_ruleHere_176 ?_
      refine lv_iload_n (pc := 179) hx hb dX12_ruleHere_179 rfl (lv_at hl 1 rfl) ?_
      refine lv_iconst (pc := 180) (v := 2) hx hb dX12_ruleHere_180 (by decide) ?_
      refine lv_iadd (pc := 181) hx hb dX12_ruleHere_181 ?_
      refine lv_aload_n (pc := 182) hx hb dX12_ruleHere_182 rfl (lv_at hl 0 rfl) ?_
      refine g_cVi (pc := 183) C hM hl.1 yv_X12_here q7_207 (by decide) ce_87 rfl (w_X12_here l G x  s167 _ h) rfl rfl ⟨⟨by decide, by decide⟩, by decide, by decide⟩ (Nat.le_of_ble_eq_true rfl) dX12_ruleHere_183 (fun r183 s183 H locs h hM => ?_)
      refine lv_bipush (pc := 186) (v := 48) hx hb dX12_ruleHere_186 (by decide) ?_
      refine lv_isub (pc := 188) hx hb dX12_ruleHere_188 ?_
      obtain ⟨hc, h⟩ := h
      refine g_iastE (pc := 189) C hM (by decide) ce_104 hc rfl dX12_ruleHere_189 (fun s189 es189 H locs hM => ?_)
      have h := h s189 es189
      refine lv_aload_n (pc := 190) hx hb dX12_ruleHere_190 rfl (lv_at hl 0 rfl) ?_
      refine lv_dup (pc := 191) hx hb dX12_ruleHere_191 rfl ?_
      refine g_get (pc := 192) (v := .int (s189 87 25)) C hM (by decide) ce_87 fl_RX12_240 rfl dX12_ruleHere_192 ?_
      refine lv_iconst (pc := 195) (v := 1) hx hb dX12_ruleHere_195 (by decide) ?_
      refine lv_iadd (pc := 196) hx hb dX12_ruleHere_196 ?_
      refine g_putE (pc := 197) C hM (by decide) ce_87 fp_RX12_240 rfl rfl (Nat.le_of_ble_eq_true rfl) rfl dX12_ruleHere_197 (fun s197 es197 H locs hM => ?_)
      have h := h s197 es197
      refine lv_aload_n (pc := 200) hx hb dX12_ruleHere_200 rfl (lv_at hl 0 rfl) ?_
      refine lv_dup (pc := 201) hx hb dX12_ruleHere_201 rfl ?_
      refine g_get (pc := 202) (v := .int (s197 87 29)) C hM (by decide) ce_87 fl_RX12_261 rfl dX12_ruleHere_202 ?_
      refine lv_iconst (pc := 205) (v := 1) hx hb dX12_ruleHere_205 (by decide) ?_
      refine lv_iadd (pc := 206) hx hb dX12_ruleHere_206 ?_
      refine g_putE (pc := 207) C hM (by decide) ce_87 fp_RX12_261 rfl rfl (Nat.le_of_ble_eq_true rfl) rfl dX12_ruleHere_207 (fun s207 es207 H locs hM => ?_)
      have h := h s207 es207
      refine lv_aload_n (pc := 210) hx hb dX12_ruleHere_210 rfl (lv_at hl 0 rfl) ?_
      refine lv_bipush (pc := 211) (v := 59) hx hb dX12_ruleHere_211 (by decide) ?_
      refine g_cVi (pc := 213) C hM hl.1 yv_X12_skips q7_211 (by decide) ce_87 rfl (w_X12_skips l G x 59 s207 _ h) rfl rfl ⟨⟨by decide, by decide⟩, by decide, by decide⟩ (Nat.le_of_ble_eq_true rfl) dX12_ruleHere_213 (fun r213 s213 H locs h hM => ?_)
      exact hret 216 _ _ _ _ _ dX12_ruleHere_216 (nar_b h.1) h.2 hM
    · have h := h.1 c170
      refine lv_iconst (pc := 173) (v := 0) hx hb dX12_ruleHere_173 (by decide) ?_
      exact hret 174 _ _ _ _ _ dX12_ruleHere_174 (by rfl) h hM)
  refine lv_bipush (pc := 0) (v := 16) hx hb dX12_ruleHere_0 (by decide) ?_
  refine lv_aload_n (pc := 2) hx hb dX12_ruleHere_2 rfl (lv_at hl 0 rfl) ?_
  refine g_get (pc := 3) (v := .int (σ 87 29)) C hM (by decide) ce_87 fl_RX12_261 rfl dX12_ruleHere_3 ?_
  refine lv_imul (pc := 6) hx hb dX12_ruleHere_6 ?_
  refine lv_istore_n (pc := 7) (lv' := [(1, .int (16 * (σ 87 29))), (0, .ref (g_ad G 87))]) hx hb dX12_ruleHere_7 rfl hl (by decide) rfl (fun ls hl => ?_)
  refine lv_aload_n (pc := 8) hx hb dX12_ruleHere_8 rfl (lv_at hl 1 rfl) ?_
  refine g_cVi (pc := 9) C hM hl.1 yv_X12_here q7_207 (by decide) ce_87 rfl (w_X12_here l G x  σ _ h) rfl rfl ⟨⟨by decide, by decide⟩, by decide, by decide⟩ (Nat.le_of_ble_eq_true rfl) dX12_ruleHere_9 (fun r9 s9 H locs h hM => ?_)
  refine lv_bipush (pc := 12) (v := 48) hx hb dX12_ruleHere_12 (by decide) ?_
  refine lv_bipush (pc := 14) (v := 51) hx hb dX12_ruleHere_14 (by decide) ?_
  refine g_cSi (pc := 16) C hM hl.1 ys_X12_in q6_108 (w_X12_in l G x r9 48 51 s9 _ h) rfl rfl ⟨⟨by decide, by decide⟩, by decide, by decide⟩ (Nat.le_of_ble_eq_true rfl) dX12_ruleHere_16 (fun r16 s16 H locs h hM => ?_)
  refine lv_if_ne (pc := 19) (tgt := 24) hx hb dX12_ruleHere_19 (by decide) (fun c19 => ?_) (fun c19 => ?_)
  · have h := h.2 c19
    refine lv_aload_n (pc := 24) hx hb dX12_ruleHere_24 rfl (lv_at hl 1 rfl) ?_
    refine g_get (pc := 25) (v := .ref (g_ad G 104)) C hM (by decide) ce_87 fl_RX12_62 rfl dX12_ruleHere_25 ?_
    refine lv_iload_n (pc := 28) hx hb dX12_ruleHere_28 rfl (lv_at hl 0 rfl) ?_
    refine lv_aload_n (pc := 29) hx hb dX12_ruleHere_29 rfl (lv_at hl 1 rfl) ?_
    refine g_cVi (pc := 30) C hM hl.1 yv_X12_here q7_207 (by decide) ce_87 rfl (w_X12_here l G x  s16 _ h) rfl rfl ⟨⟨by decide, by decide⟩, by decide, by decide⟩ (Nat.le_of_ble_eq_true rfl) dX12_ruleHere_30 (fun r30 s30 H locs h hM => ?_)
    refine lv_bipush (pc := 33) (v := 48) hx hb dX12_ruleHere_33 (by decide) ?_
    refine lv_isub (pc := 35) hx hb dX12_ruleHere_35 ?_
    obtain ⟨hc, h⟩ := h
    refine g_iastE (pc := 36) C hM (by decide) ce_104 hc rfl dX12_ruleHere_36 (fun s36 es36 H locs hM => ?_)
    have h := h s36 es36
    refine lv_aload_n (pc := 37) hx hb dX12_ruleHere_37 rfl (lv_at hl 1 rfl) ?_
    refine lv_dup (pc := 38) hx hb dX12_ruleHere_38 rfl ?_
    refine g_get (pc := 39) (v := .int (s36 87 25)) C hM (by decide) ce_87 fl_RX12_240 rfl dX12_ruleHere_39 ?_
    refine lv_iconst (pc := 42) (v := 1) hx hb dX12_ruleHere_42 (by decide) ?_
    refine lv_iadd (pc := 43) hx hb dX12_ruleHere_43 ?_
    refine g_putE (pc := 44) C hM (by decide) ce_87 fp_RX12_240 rfl rfl (Nat.le_of_ble_eq_true rfl) rfl dX12_ruleHere_44 (fun s44 es44 H locs hM => ?_)
    have h := h s44 es44
    refine lv_aload_n (pc := 47) hx hb dX12_ruleHere_47 rfl (lv_at hl 1 rfl) ?_
    refine g_cVi (pc := 48) C hM hl.1 yv_X12_here q7_207 (by decide) ce_87 rfl (w_X12_here l G x  s44 _ h) rfl rfl ⟨⟨by decide, by decide⟩, by decide, by decide⟩ (Nat.le_of_ble_eq_true rfl) dX12_ruleHere_48 (fun r48 s48 H locs h hM => ?_)
    refine lv_bipush (pc := 51) (v := 43) hx hb dX12_ruleHere_51 (by decide) ?_
    refine lv_icmp_eq (pc := 53) (tgt := 67) hx hb dX12_ruleHere_53 (by decide) (fun c53 => ?_) (fun c53 => ?_)
    · have h := h.1 c53
      refine lv_aload_n (pc := 67) hx hb dX12_ruleHere_67 rfl (lv_at hl 1 rfl) ?_
      refine g_get (pc := 68) (v := .ref (g_ad G 104)) C hM (by decide) ce_87 fl_RX12_62 rfl dX12_ruleHere_68 ?_
      refine lv_iload_n (pc := 71) hx hb dX12_ruleHere_71 rfl (lv_at hl 0 rfl) ?_
      refine lv_iconst (pc := 72) (v := 1) hx hb dX12_ruleHere_72 (by decide) ?_
      refine lv_iadd (pc := 73) hx hb dX12_ruleHere_73 ?_
      refine lv_aload_n (pc := 74) hx hb dX12_ruleHere_74 rfl (lv_at hl 1 rfl) ?_
      refine g_cVi (pc := 75) C hM hl.1 yv_X12_here q7_207 (by decide) ce_87 rfl (w_X12_here l G x  s48 _ h) rfl rfl ⟨⟨by decide, by decide⟩, by decide, by decide⟩ (Nat.le_of_ble_eq_true rfl) dX12_ruleHere_75 (fun r75 s75 H locs h hM => ?_)
      refine lv_bipush (pc := 78) (v := 45) hx hb dX12_ruleHere_78 (by decide) ?_
      refine lv_icmp_ne (pc := 80) (tgt := 87) hx hb dX12_ruleHere_80 (by decide) (fun c80 => ?_) (fun c80 => ?_)
      · have h := h.2 c80
        refine lv_iconst (pc := 87) (v := 0) hx hb dX12_ruleHere_87 (by decide) ?_
        exact h _ _ _ hM (lv_sub hl [1, 0] rfl)
      · have h := h.1 c80
        refine lv_iconst (pc := 83) (v := 1) hx hb dX12_ruleHere_83 (by decide) ?_
        refine lv_goto (pc := 84) (tgt := 88) hx hb dX12_ruleHere_84 (by decide) ?_
        exact h _ _ _ hM (lv_sub hl [1, 0] rfl)
    · have h := h.2 c53
      refine lv_aload_n (pc := 56) hx hb dX12_ruleHere_56 rfl (lv_at hl 1 rfl) ?_
      refine g_cVi (pc := 57) C hM hl.1 yv_X12_here q7_207 (by decide) ce_87 rfl (w_X12_here l G x  s48 _ h) rfl rfl ⟨⟨by decide, by decide⟩, by decide, by decide⟩ (Nat.le_of_ble_eq_true rfl) dX12_ruleHere_57 (fun r57 s57 H locs h hM => ?_)
      refine lv_bipush (pc := 60) (v := 45) hx hb dX12_ruleHere_60 (by decide) ?_
      refine lv_icmp_eq (pc := 62) (tgt := 67) hx hb dX12_ruleHere_62 (by decide) (fun c62 => ?_) (fun c62 => ?_)
      · have h := h.1 c62
        refine lv_aload_n (pc := 67) hx hb dX12_ruleHere_67 rfl (lv_at hl 1 rfl) ?_
        refine g_get (pc := 68) (v := .ref (g_ad G 104)) C hM (by decide) ce_87 fl_RX12_62 rfl dX12_ruleHere_68 ?_
        refine lv_iload_n (pc := 71) hx hb dX12_ruleHere_71 rfl (lv_at hl 0 rfl) ?_
        refine lv_iconst (pc := 72) (v := 1) hx hb dX12_ruleHere_72 (by decide) ?_
        refine lv_iadd (pc := 73) hx hb dX12_ruleHere_73 ?_
        refine lv_aload_n (pc := 74) hx hb dX12_ruleHere_74 rfl (lv_at hl 1 rfl) ?_
        refine g_cVi (pc := 75) C hM hl.1 yv_X12_here q7_207 (by decide) ce_87 rfl (w_X12_here l G x  s57 _ h) rfl rfl ⟨⟨by decide, by decide⟩, by decide, by decide⟩ (Nat.le_of_ble_eq_true rfl) dX12_ruleHere_75 (fun r75 s75 H locs h hM => ?_)
        refine lv_bipush (pc := 78) (v := 45) hx hb dX12_ruleHere_78 (by decide) ?_
        refine lv_icmp_ne (pc := 80) (tgt := 87) hx hb dX12_ruleHere_80 (by decide) (fun c80 => ?_) (fun c80 => ?_)
        · have h := h.2 c80
          refine lv_iconst (pc := 87) (v := 0) hx hb dX12_ruleHere_87 (by decide) ?_
          exact h _ _ _ hM (lv_sub hl [1, 0] rfl)
        · have h := h.1 c80
          refine lv_iconst (pc := 83) (v := 1) hx hb dX12_ruleHere_83 (by decide) ?_
          refine lv_goto (pc := 84) (tgt := 88) hx hb dX12_ruleHere_84 (by decide) ?_
          exact h _ _ _ hM (lv_sub hl [1, 0] rfl)
      · have h := h.2 c62
        refine lv_iconst (pc := 65) (v := 0) hx hb dX12_ruleHere_65 (by decide) ?_
        exact hret 66 _ _ _ _ _ dX12_ruleHere_66 (by rfl) h hM
  · have h := h.1 c19
    refine lv_iconst (pc := 22) (v := 0) hx hb dX12_ruleHere_22 (by decide) ?_
    exact hret 23 _ _ _ _ _ dX12_ruleHere_23 (by rfl) h hM
