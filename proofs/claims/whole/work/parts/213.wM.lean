abbrev rm_X12_isText : Room := { frames := 5, cells := 0, slots := 0, locals := 108 }
theorem dX12_isText_0 : decode cX12_isText 0 = .ok (.aload_n 0, 1) := by decide +kernel
theorem dX12_isText_1 : decode cX12_isText 1 = .ok (.iconst 0, 1) := by decide +kernel
theorem dX12_isText_2 : decode cX12_isText 2 = .ok (.putfield 240, 3) := by decide +kernel
theorem dX12_isText_5 : decode cX12_isText 5 = .ok (.aload_n 0, 1) := by decide +kernel
theorem dX12_isText_6 : decode cX12_isText 6 = .ok (.iconst 0, 1) := by decide +kernel
theorem dX12_isText_7 : decode cX12_isText 7 = .ok (.putfield 261, 3) := by decide +kernel
theorem dX12_isText_10 : decode cX12_isText 10 = .ok (.aload_n 0, 1) := by decide +kernel
theorem dX12_isText_11 : decode cX12_isText 11 = .ok (.invokevirtual 267, 3) := by decide +kernel
theorem dX12_isText_14 : decode cX12_isText 14 = .ok (.ifCond .ne 5, 3) := by decide +kernel
theorem dX12_isText_17 : decode cX12_isText 17 = .ok (.iconst 0, 1) := by decide +kernel
theorem dX12_isText_18 : decode cX12_isText 18 = .ok (.ireturn, 1) := by decide +kernel
theorem dX12_isText_19 : decode cX12_isText 19 = .ok (.aload_n 0, 1) := by decide +kernel
theorem dX12_isText_20 : decode cX12_isText 20 = .ok (.getfield 240, 3) := by decide +kernel
theorem dX12_isText_23 : decode cX12_isText 23 = .ok (.aload_n 0, 1) := by decide +kernel
theorem dX12_isText_24 : decode cX12_isText 24 = .ok (.getfield 237, 3) := by decide +kernel
theorem dX12_isText_27 : decode cX12_isText 27 = .ok (.if_icmp .lt (-17), 3) := by decide +kernel
theorem dX12_isText_30 : decode cX12_isText 30 = .ok (.iconst 1, 1) := by decide +kernel
theorem dX12_isText_31 : decode cX12_isText 31 = .ok (.ireturn, 1) := by decide +kernel
set_option maxHeartbeats 4000000 in
set_option maxRecDepth 100000 in
theorem w_X12_isText (l : Launch) (G : GP) (x : XP) (σ : Sto) (P : Int32 → Sto → Prop) (h : D_X12_isText  σ P) : g_Meti l yX12_isText cX12_isText 1 (some .boolean) rm_X12_isText G x [.ref (g_ad G 87)] σ P := by
  unfold D_X12_isText at h
  refine g_ofWi (by decide +kernel) (Nat.le_of_ble_eq_true rfl) ?_
  intro p e s m args below meth c Q ls C hM hl hret
  have hx := C.1
  have hb := C.2.1
  have hl : lv_has ls 1 [(0, .ref (g_ad G 87))] := hl
  have h := h (fun (σ : Sto) => ∀ (H : Heap) (locs : List Loc) (ls : Array Slot), g_M G x σ s H locs → lv_has ls 1 [(0, .ref (g_ad G 87))] → W p l e rm_X12_isText s m args below meth c H locs 0 0 Q (F0 m 10 ls []))
  have h := h (by
    intro σ h  H locs ls hM hl
    refine lv_aload_n (pc := 10) hx hb dX12_isText_10 rfl (lv_at hl 0 rfl) ?_
    refine g_cVi (pc := 11) C hM hl.1 yv_X12_ruleHere q7_203 (by decide) ce_87 rfl (w_X12_ruleHere l G x  σ _ h) rfl rfl ⟨⟨by decide, by decide⟩, by decide, by decide⟩ (Nat.le_of_ble_eq_true rfl) dX12_isText_11 (fun r11 s11 H locs h hM => ?_)
    refine lv_if_ne (pc := 14) (tgt := 19) hx hb dX12_isText_14 (by decide) (fun c14 => ?_) (fun c14 => ?_)
    · have h := h.2 c14
      refine lv_aload_n (pc := 19) hx hb dX12_isText_19 rfl (lv_at hl 0 rfl) ?_
      refine g_get (pc := 20) (v := .int (s11 87 25)) C hM (by decide) ce_87 fl_RX12_240 rfl dX12_isText_20 ?_
      refine lv_aload_n (pc := 23) hx hb dX12_isText_23 rfl (lv_at hl 0 rfl) ?_
      refine g_get (pc := 24) (v := .int (s11 87 24)) C hM (by decide) ce_87 fl_RX12_237 rfl dX12_isText_24 ?_
      refine lv_icmp_lt (pc := 27) (tgt := 10) hx hb dX12_isText_27 (by decide) (fun c27 => ?_) (fun c27 => ?_)
      · have h := h.1 c27
        exact h _ _ _ hM (lv_sub hl [0] rfl)
      · have h := h.2 c27
        refine lv_iconst (pc := 30) (v := 1) hx hb dX12_isText_30 (by decide) ?_
        exact hret 31 _ _ _ _ _ dX12_isText_31 (by rfl) h hM
    · have h := h.1 c14
      refine lv_iconst (pc := 17) (v := 0) hx hb dX12_isText_17 (by decide) ?_
      exact hret 18 _ _ _ _ _ dX12_isText_18 (by rfl) h hM)
  refine lv_aload_n (pc := 0) hx hb dX12_isText_0 rfl (lv_at hl 0 rfl) ?_
  refine lv_iconst (pc := 1) (v := 0) hx hb dX12_isText_1 (by decide) ?_
  refine g_putE (pc := 2) C hM (by decide) ce_87 fp_RX12_240 rfl rfl (Nat.le_of_ble_eq_true rfl) rfl dX12_isText_2 (fun s2 es2 H locs hM => ?_)
  have h := h s2 es2
  refine lv_aload_n (pc := 5) hx hb dX12_isText_5 rfl (lv_at hl 0 rfl) ?_
  refine lv_iconst (pc := 6) (v := 0) hx hb dX12_isText_6 (by decide) ?_
  refine g_putE (pc := 7) C hM (by decide) ce_87 fp_RX12_261 rfl rfl (Nat.le_of_ble_eq_true rfl) rfl dX12_isText_7 (fun s7 es7 H locs hM => ?_)
  have h := h s7 es7
  exact h _ _ _ hM (lv_sub hl [0] rfl)
abbrev rm_X12_read : Room := { frames := 6, cells := 0, slots := 0, locals := 128 }
theorem dX12_read_0 : decode cX12_read 0 = .ok (.aload_n 0, 1) := by decide +kernel
theorem dX12_read_1 : decode cX12_read 1 = .ok (.iconst 0, 1) := by decide +kernel
theorem dX12_read_2 : decode cX12_read 2 = .ok (.putfield 68, 3) := by decide +kernel
theorem dX12_read_5 : decode cX12_read 5 = .ok (.aload_n 0, 1) := by decide +kernel
theorem dX12_read_6 : decode cX12_read 6 = .ok (.invokevirtual 270, 3) := by decide +kernel
theorem dX12_read_9 : decode cX12_read 9 = .ok (.istore_n 1, 1) := by decide +kernel
theorem dX12_read_10 : decode cX12_read 10 = .ok (.aload_n 0, 1) := by decide +kernel
theorem dX12_read_11 : decode cX12_read 11 = .ok (.iconst 0, 1) := by decide +kernel
theorem dX12_read_12 : decode cX12_read 12 = .ok (.putfield 237, 3) := by decide +kernel
theorem dX12_read_15 : decode cX12_read 15 = .ok (.iload_n 1, 1) := by decide +kernel
theorem dX12_read_16 : decode cX12_read 16 = .ok (.ifCond .ne 17, 3) := by decide +kernel
theorem dX12_read_19 : decode cX12_read 19 = .ok (.aload_n 0, 1) := by decide +kernel
theorem dX12_read_20 : decode cX12_read 20 = .ok (.aload_n 0, 1) := by decide +kernel
theorem dX12_read_21 : decode cX12_read 21 = .ok (.getfield 240, 3) := by decide +kernel
theorem dX12_read_24 : decode cX12_read 24 = .ok (.putfield 58, 3) := by decide +kernel
theorem dX12_read_27 : decode cX12_read 27 = .ok (.aload_n 0, 1) := by decide +kernel
theorem dX12_read_28 : decode cX12_read 28 = .ok (.iconst 1, 1) := by decide +kernel
theorem dX12_read_29 : decode cX12_read 29 = .ok (.invokevirtual 78, 3) := by decide +kernel
theorem dX12_read_32 : decode cX12_read 32 = .ok (.ireturn, 1) := by decide +kernel
theorem dX12_read_33 : decode cX12_read 33 = .ok (.aload_n 0, 1) := by decide +kernel
theorem dX12_read_34 : decode cX12_read 34 = .ok (.getfield 7, 3) := by decide +kernel
theorem dX12_read_37 : decode cX12_read 37 = .ok (.iconst 0, 1) := by decide +kernel
theorem dX12_read_38 : decode cX12_read 38 = .ok (.iaload, 1) := by decide +kernel
theorem dX12_read_39 : decode cX12_read 39 = .ok (.aload_n 0, 1) := by decide +kernel
theorem dX12_read_40 : decode cX12_read 40 = .ok (.getfield 261, 3) := by decide +kernel
theorem dX12_read_43 : decode cX12_read 43 = .ok (.iadd, 1) := by decide +kernel
theorem dX12_read_44 : decode cX12_read 44 = .ok (.bipush 24, 2) := by decide +kernel
theorem dX12_read_46 : decode cX12_read 46 = .ok (.if_icmp .le 9, 3) := by decide +kernel
theorem dX12_read_49 : decode cX12_read 49 = .ok (.aload_n 0, 1) := by decide +kernel
theorem dX12_read_50 : decode cX12_read 50 = .ok (.iconst 2, 1) := by decide +kernel
theorem dX12_read_51 : decode cX12_read 51 = .ok (.invokevirtual 78, 3) := by decide +kernel
theorem dX12_read_54 : decode cX12_read 54 = .ok (.ireturn, 1) := by decide +kernel
theorem dX12_read_55 : decode cX12_read 55 = .ok (.aload_n 0, 1) := by decide +kernel
theorem dX12_read_56 : decode cX12_read 56 = .ok (.invokevirtual 90, 3) := by decide +kernel
theorem dX12_read_59 : decode cX12_read 59 = .ok (.iconst 0, 1) := by decide +kernel
theorem dX12_read_60 : decode cX12_read 60 = .ok (.istore_n 2, 1) := by decide +kernel
theorem dX12_read_61 : decode cX12_read 61 = .ok (.iload_n 2, 1) := by decide +kernel
theorem dX12_read_62 : decode cX12_read 62 = .ok (.bipush 16, 2) := by decide +kernel
theorem dX12_read_64 : decode cX12_read 64 = .ok (.aload_n 0, 1) := by decide +kernel
theorem dX12_read_65 : decode cX12_read 65 = .ok (.getfield 261, 3) := by decide +kernel
theorem dX12_read_68 : decode cX12_read 68 = .ok (.imul, 1) := by decide +kernel
theorem dX12_read_69 : decode cX12_read 69 = .ok (.if_icmp .ge 34, 3) := by decide +kernel
theorem dX12_read_72 : decode cX12_read 72 = .ok (.aload_n 0, 1) := by decide +kernel
theorem dX12_read_73 : decode cX12_read 73 = .ok (.getfield 7, 3) := by decide +kernel
theorem dX12_read_76 : decode cX12_read 76 = .ok (.bipush 10, 2) := by decide +kernel
theorem dX12_read_78 : decode cX12_read 78 = .ok (.bipush 16, 2) := by decide +kernel
theorem dX12_read_80 : decode cX12_read 80 = .ok (.aload_n 0, 1) := by decide +kernel
theorem dX12_read_81 : decode cX12_read 81 = .ok (.getfield 7, 3) := by decide +kernel
theorem dX12_read_84 : decode cX12_read 84 = .ok (.iconst 0, 1) := by decide +kernel
theorem dX12_read_85 : decode cX12_read 85 = .ok (.iaload, 1) := by decide +kernel
theorem dX12_read_86 : decode cX12_read 86 = .ok (.imul, 1) := by decide +kernel
theorem dX12_read_87 : decode cX12_read 87 = .ok (.iadd, 1) := by decide +kernel
theorem dX12_read_88 : decode cX12_read 88 = .ok (.iload_n 2, 1) := by decide +kernel
theorem dX12_read_89 : decode cX12_read 89 = .ok (.iadd, 1) := by decide +kernel
theorem dX12_read_90 : decode cX12_read 90 = .ok (.aload_n 0, 1) := by decide +kernel
theorem dX12_read_91 : decode cX12_read 91 = .ok (.getfield 62, 3) := by decide +kernel
theorem dX12_read_94 : decode cX12_read 94 = .ok (.iload_n 2, 1) := by decide +kernel
theorem dX12_read_95 : decode cX12_read 95 = .ok (.iaload, 1) := by decide +kernel
theorem dX12_read_96 : decode cX12_read 96 = .ok (.iastore, 1) := by decide +kernel
theorem dX12_read_97 : decode cX12_read 97 = .ok (.iinc 2 1, 3) := by decide +kernel
theorem dX12_read_100 : decode cX12_read 100 = .ok (.goto (-39), 3) := by decide +kernel
theorem dX12_read_103 : decode cX12_read 103 = .ok (.aload_n 0, 1) := by decide +kernel
theorem dX12_read_104 : decode cX12_read 104 = .ok (.getfield 7, 3) := by decide +kernel
theorem dX12_read_107 : decode cX12_read 107 = .ok (.iconst 0, 1) := by decide +kernel
theorem dX12_read_108 : decode cX12_read 108 = .ok (.dup2, 1) := by decide +kernel
theorem dX12_read_109 : decode cX12_read 109 = .ok (.iaload, 1) := by decide +kernel
theorem dX12_read_110 : decode cX12_read 110 = .ok (.aload_n 0, 1) := by decide +kernel
theorem dX12_read_111 : decode cX12_read 111 = .ok (.getfield 261, 3) := by decide +kernel
theorem dX12_read_114 : decode cX12_read 114 = .ok (.iadd, 1) := by decide +kernel
theorem dX12_read_115 : decode cX12_read 115 = .ok (.iastore, 1) := by decide +kernel
theorem dX12_read_116 : decode cX12_read 116 = .ok (.aload_n 0, 1) := by decide +kernel
theorem dX12_read_117 : decode cX12_read 117 = .ok (.getfield 261, 3) := by decide +kernel
theorem dX12_read_120 : decode cX12_read 120 = .ok (.ireturn, 1) := by decide +kernel
set_option maxHeartbeats 4000000 in
set_option maxRecDepth 100000 in
theorem w_X12_read (l : Launch) (G : GP) (x : XP) (σ : Sto) (P : Int32 → Sto → Prop) (h : D_X12_read  σ P) : g_Meti l yX12_read cX12_read 3 (some .int) rm_X12_read G x [.ref (g_ad G 87)] σ P := by
  unfold D_X12_read at h
  refine g_ofWi (by decide +kernel) (Nat.le_of_ble_eq_true rfl) ?_
  intro p e s m args below meth c Q ls C hM hl hret
  have hx := C.1
  have hb := C.2.1
  have hl : lv_has ls 3 [(0, .ref (g_ad G 87))] := hl
  have h := h (fun (v2 : Int32) (σ : Sto) => ∀ (H : Heap) (locs : List Loc) (ls : Array Slot), g_M G x σ s H locs → lv_has ls 3 [(0, .ref (g_ad G 87)), (2, .int v2)] → W p l e rm_X12_read s m args below meth c H locs 0 0 Q (F0 m 61 ls []))
  have h := h (by
    intro v2 σ h  H locs ls hM hl
    refine lv_iload_n (pc := 61) hx hb dX12_read_61 rfl (lv_at hl 1 rfl) ?_
    refine lv_bipush (pc := 62) (v := 16) hx hb dX12_read_62 (by decide) ?_
    refine lv_aload_n (pc := 64) hx hb dX12_read_64 rfl (lv_at hl 0 rfl) ?_
    refine g_get (pc := 65) (v := .int (σ 87 29)) C hM (by decide) ce_87 fl_RX12_261 rfl dX12_read_65 ?_
    refine lv_imul (pc := 68) hx hb dX12_read_68 ?_
    refine lv_icmp_ge (pc := 69) (tgt := 103) hx hb dX12_read_69 (by decide) (fun c69 => ?_) (fun c69 => ?_)
    · have h := h.1 c69
      refine lv_aload_n (pc := 103) hx hb dX12_read_103 rfl (lv_at hl 0 rfl) ?_
      refine g_get (pc := 104) (v := .ref (g_ad G 88)) C hM (by decide) ce_87 fl_RX12_7 rfl dX12_read_104 ?_
      refine lv_iconst (pc := 107) (v := 0) hx hb dX12_read_107 (by decide) ?_
      refine lv_dup2_11 (pc := 108) hx hb dX12_read_108 rfl rfl ?_
      refine g_ialdK (pc := 109) (k := 0) C hM (by decide) ce_88 (vp_in_nI (n := 0) (by decide) (by decide)) rfl dX12_read_109 ?_
      refine lv_aload_n (pc := 110) hx hb dX12_read_110 rfl (lv_at hl 0 rfl) ?_
      refine g_get (pc := 111) (v := .int (σ 87 29)) C hM (by decide) ce_87 fl_RX12_261 rfl dX12_read_111 ?_
      refine lv_iadd (pc := 114) hx hb dX12_read_114 ?_
      refine g_iastE (pc := 115) (k := 0) C hM (by decide) ce_88 (vp_in_nI (n := 0) (by decide) (by decide)) rfl dX12_read_115 (fun s115 es115 H locs hM => ?_)
      have h := h s115 es115
      refine lv_aload_n (pc := 116) hx hb dX12_read_116 rfl (lv_at hl 0 rfl) ?_
      refine g_get (pc := 117) (v := .int (s115 87 29)) C hM (by decide) ce_87 fl_RX12_261 rfl dX12_read_117 ?_
      exact hret 120 _ _ _ _ _ dX12_read_120 (by rfl) h hM
    · have h := h.2 c69
      refine lv_aload_n (pc := 72) hx hb dX12_read_72 rfl (lv_at hl 0 rfl) ?_
      refine g_get (pc := 73) (v := .ref (g_ad G 88)) C hM (by decide) ce_87 fl_RX12_7 rfl dX12_read_73 ?_
      refine lv_bipush (pc := 76) (v := 10) hx hb dX12_read_76 (by decide) ?_
      refine lv_bipush (pc := 78) (v := 16) hx hb dX12_read_78 (by decide) ?_
      refine lv_aload_n (pc := 80) hx hb dX12_read_80 rfl (lv_at hl 0 rfl) ?_
      refine g_get (pc := 81) (v := .ref (g_ad G 88)) C hM (by decide) ce_87 fl_RX12_7 rfl dX12_read_81 ?_
      refine lv_iconst (pc := 84) (v := 0) hx hb dX12_read_84 (by decide) ?_
      refine g_ialdK (pc := 85) (k := 0) C hM (by decide) ce_88 (vp_in_nI (n := 0) (by decide) (by decide)) rfl dX12_read_85 ?_
      refine lv_imul (pc := 86) hx hb dX12_read_86 ?_
      refine lv_iadd (pc := 87) hx hb dX12_read_87 ?_
      refine lv_iload_n (pc := 88) hx hb dX12_read_88 rfl (lv_at hl 1 rfl) ?_
      refine lv_iadd (pc := 89) hx hb dX12_read_89 ?_
      refine lv_aload_n (pc := 90) hx hb dX12_read_90 rfl (lv_at hl 0 rfl) ?_
      refine g_get (pc := 91) (v := .ref (g_ad G 104)) C hM (by decide) ce_87 fl_RX12_62 rfl dX12_read_91 ?_
      refine lv_iload_n (pc := 94) hx hb dX12_read_94 rfl (lv_at hl 1 rfl) ?_
      obtain ⟨hc, h⟩ := h
      refine g_ialdK (pc := 95) C hM (by decide) ce_104 hc rfl dX12_read_95 ?_
      obtain ⟨hc, h⟩ := h
      refine g_iastE (pc := 96) C hM (by decide) ce_88 hc rfl dX12_read_96 (fun s96 es96 H locs hM => ?_)
      have h := h s96 es96
      refine lv_iinc (pc := 97) (v := (v2 + 1)) (lv' := [(2, .int (v2 + 1)), (0, .ref (g_ad G 87))]) hx hb dX12_read_97 hl (k := 1) rfl (by rfl) (by decide) rfl (fun ls hl => ?_)
      refine lv_goto (pc := 100) (tgt := 61) hx hb dX12_read_100 (by decide) ?_
      exact h _ _ _ hM (lv_sub hl [1, 0] rfl))
  refine lv_aload_n (pc := 0) hx hb dX12_read_0 rfl (lv_at hl 0 rfl) ?_
  refine lv_iconst (pc := 1) (v := 0) hx hb dX12_read_1 (by decide) ?_
  refine g_putE (pc := 2) C hM (by decide) ce_87 fp_RX12_68 rfl rfl (Nat.le_of_ble_eq_true rfl) rfl dX12_read_2 (fun s2 es2 H locs hM => ?_)
  have h := h s2 es2
  refine lv_aload_n (pc := 5) hx hb dX12_read_5 rfl (lv_at hl 0 rfl) ?_
  refine g_cVi (pc := 6) C hM hl.1 yv_X12_isText q7_199 (by decide) ce_87 rfl (w_X12_isText l G x  s2 _ h) rfl rfl ⟨⟨by decide, by decide⟩, by decide, by decide⟩ (Nat.le_of_ble_eq_true rfl) dX12_read_6 (fun r6 s6 H locs h hM => ?_)
  refine lv_istore_n (pc := 9) (lv' := [(1, .int r6), (0, .ref (g_ad G 87))]) hx hb dX12_read_9 rfl hl (by decide) rfl (fun ls hl => ?_)
  refine lv_aload_n (pc := 10) hx hb dX12_read_10 rfl (lv_at hl 1 rfl) ?_
  refine lv_iconst (pc := 11) (v := 0) hx hb dX12_read_11 (by decide) ?_
  refine g_putE (pc := 12) C hM (by decide) ce_87 fp_RX12_237 rfl rfl (Nat.le_of_ble_eq_true rfl) rfl dX12_read_12 (fun s12 es12 H locs hM => ?_)
  have h := h s12 es12
  refine lv_iload_n (pc := 15) hx hb dX12_read_15 rfl (lv_at hl 0 rfl) ?_
  refine lv_if_ne (pc := 16) (tgt := 33) hx hb dX12_read_16 (by decide) (fun c16 => ?_) (fun c16 => ?_)
  · have h := h.2 c16
    refine lv_aload_n (pc := 33) hx hb dX12_read_33 rfl (lv_at hl 1 rfl) ?_
    refine g_get (pc := 34) (v := .ref (g_ad G 88)) C hM (by decide) ce_87 fl_RX12_7 rfl dX12_read_34 ?_
    refine lv_iconst (pc := 37) (v := 0) hx hb dX12_read_37 (by decide) ?_
    refine g_ialdK (pc := 38) (k := 0) C hM (by decide) ce_88 (vp_in_nI (n := 0) (by decide) (by decide)) rfl dX12_read_38 ?_
    refine lv_aload_n (pc := 39) hx hb dX12_read_39 rfl (lv_at hl 1 rfl) ?_
    refine g_get (pc := 40) (v := .int (s12 87 29)) C hM (by decide) ce_87 fl_RX12_261 rfl dX12_read_40 ?_
    refine lv_iadd (pc := 43) hx hb dX12_read_43 ?_
    refine lv_bipush (pc := 44) (v := 24) hx hb dX12_read_44 (by decide) ?_
    refine lv_icmp_le (pc := 46) (tgt := 55) hx hb dX12_read_46 (by decide) (fun c46 => ?_) (fun c46 => ?_)
    · have h := h.1 c46
      refine lv_aload_n (pc := 55) hx hb dX12_read_55 rfl (lv_at hl 1 rfl) ?_
      refine g_cVv (pc := 56) C hM hl.1 yv_X12_changes q6_111 (by decide) ce_87 rfl (w_X12_changes l G x  s12 _ h) rfl rfl ⟨⟨by decide, by decide⟩, by decide, by decide⟩ (Nat.le_of_ble_eq_true rfl) dX12_read_56 (fun s56 H locs h hM => ?_)
      refine lv_iconst (pc := 59) (v := 0) hx hb dX12_read_59 (by decide) ?_
      refine lv_istore_n (pc := 60) (lv' := [(2, .int 0), (1, .int r6), (0, .ref (g_ad G 87))]) hx hb dX12_read_60 rfl hl (by decide) rfl (fun ls hl => ?_)
      exact h _ _ _ hM (lv_sub hl [2, 0] rfl)
    · have h := h.2 c46
      refine lv_aload_n (pc := 49) hx hb dX12_read_49 rfl (lv_at hl 1 rfl) ?_
      refine lv_iconst (pc := 50) (v := 2) hx hb dX12_read_50 (by decide) ?_
      refine g_cVi (pc := 51) C hM hl.1 yv_X12_fails q6_89 (by decide) ce_87 rfl (w_X12_fails l G x 2 s12 _ h) rfl rfl ⟨⟨by decide, by decide⟩, by decide, by decide⟩ (Nat.le_of_ble_eq_true rfl) dX12_read_51 (fun r51 s51 H locs h hM => ?_)
      exact hret 54 _ _ _ _ _ dX12_read_54 (by rfl) h hM
  · have h := h.1 c16
    refine lv_aload_n (pc := 19) hx hb dX12_read_19 rfl (lv_at hl 1 rfl) ?_
    refine lv_aload_n (pc := 20) hx hb dX12_read_20 rfl (lv_at hl 1 rfl) ?_
    refine g_get (pc := 21) (v := .int (s12 87 25)) C hM (by decide) ce_87 fl_RX12_240 rfl dX12_read_21 ?_
    refine g_putE (pc := 24) C hM (by decide) ce_87 fp_RX12_58 rfl rfl (Nat.le_of_ble_eq_true rfl) rfl dX12_read_24 (fun s24 es24 H locs hM => ?_)
    have h := h s24 es24
    refine lv_aload_n (pc := 27) hx hb dX12_read_27 rfl (lv_at hl 1 rfl) ?_
    refine lv_iconst (pc := 28) (v := 1) hx hb dX12_read_28 (by decide) ?_
    refine g_cVi (pc := 29) C hM hl.1 yv_X12_fails q6_89 (by decide) ce_87 rfl (w_X12_fails l G x 1 s24 _ h) rfl rfl ⟨⟨by decide, by decide⟩, by decide, by decide⟩ (Nat.le_of_ble_eq_true rfl) dX12_read_29 (fun r29 s29 H locs h hM => ?_)
    exact hret 32 _ _ _ _ _ dX12_read_32 (by rfl) h hM
abbrev rm_X12_errorPosition : Room := { frames := 1, cells := 0, slots := 0, locals := 21 }
theorem dX12_errorPosition_0 : decode cX12_errorPosition 0 = .ok (.aload_n 0, 1) := by decide +kernel
theorem dX12_errorPosition_1 : decode cX12_errorPosition 1 = .ok (.iconst 0, 1) := by decide +kernel
theorem dX12_errorPosition_2 : decode cX12_errorPosition 2 = .ok (.putfield 68, 3) := by decide +kernel
theorem dX12_errorPosition_5 : decode cX12_errorPosition 5 = .ok (.aload_n 0, 1) := by decide +kernel
theorem dX12_errorPosition_6 : decode cX12_errorPosition 6 = .ok (.getfield 58, 3) := by decide +kernel
theorem dX12_errorPosition_9 : decode cX12_errorPosition 9 = .ok (.ifCond .ge 11, 3) := by decide +kernel
theorem dX12_errorPosition_12 : decode cX12_errorPosition 12 = .ok (.aload_n 0, 1) := by decide +kernel
theorem dX12_errorPosition_13 : decode cX12_errorPosition 13 = .ok (.iconst 1, 1) := by decide +kernel
theorem dX12_errorPosition_14 : decode cX12_errorPosition 14 = .ok (.invokevirtual 78, 3) := by decide +kernel
theorem dX12_errorPosition_17 : decode cX12_errorPosition 17 = .ok (.goto 7, 3) := by decide +kernel
theorem dX12_errorPosition_20 : decode cX12_errorPosition 20 = .ok (.aload_n 0, 1) := by decide +kernel
theorem dX12_errorPosition_21 : decode cX12_errorPosition 21 = .ok (.getfield 58, 3) := by decide +kernel
theorem dX12_errorPosition_24 : decode cX12_errorPosition 24 = .ok (.ireturn, 1) := by decide +kernel
set_option maxHeartbeats 4000000 in
set_option maxRecDepth 100000 in
theorem w_X12_errorPosition (l : Launch) (G : GP) (x : XP) (σ : Sto) (P : Int32 → Sto → Prop) (h : D_X12_errorPosition  σ P) : g_Meti l yX12_errorPosition cX12_errorPosition 1 (some .int) rm_X12_errorPosition G x [.ref (g_ad G 87)] σ P := by
  unfold D_X12_errorPosition at h
  refine g_ofWi (by decide +kernel) (Nat.le_of_ble_eq_true rfl) ?_
  intro p e s m args below meth c Q ls C hM hl hret
  have hx := C.1
  have hb := C.2.1
  have hl : lv_has ls 1 [(0, .ref (g_ad G 87))] := hl
  refine lv_aload_n (pc := 0) hx hb dX12_errorPosition_0 rfl (lv_at hl 0 rfl) ?_
  refine lv_iconst (pc := 1) (v := 0) hx hb dX12_errorPosition_1 (by decide) ?_
  refine g_putE (pc := 2) C hM (by decide) ce_87 fp_RX12_68 rfl rfl (Nat.le_of_ble_eq_true rfl) rfl dX12_errorPosition_2 (fun s2 es2 H locs hM => ?_)
  have h := h s2 es2
  refine lv_aload_n (pc := 5) hx hb dX12_errorPosition_5 rfl (lv_at hl 0 rfl) ?_
  refine g_get (pc := 6) (v := .int (s2 87 27)) C hM (by decide) ce_87 fl_RX12_58 rfl dX12_errorPosition_6 ?_
  refine lv_if_ge (pc := 9) (tgt := 20) hx hb dX12_errorPosition_9 (by decide) (fun c9 => ?_) (fun c9 => ?_)
  · have h := h.1 c9
    refine lv_aload_n (pc := 20) hx hb dX12_errorPosition_20 rfl (lv_at hl 0 rfl) ?_
    refine g_get (pc := 21) (v := .int (s2 87 27)) C hM (by decide) ce_87 fl_RX12_58 rfl dX12_errorPosition_21 ?_
    exact hret 24 _ _ _ _ _ dX12_errorPosition_24 (by rfl) h hM
  · have h := h.2 c9
    refine lv_aload_n (pc := 12) hx hb dX12_errorPosition_12 rfl (lv_at hl 0 rfl) ?_
    refine lv_iconst (pc := 13) (v := 1) hx hb dX12_errorPosition_13 (by decide) ?_
    refine g_cVi (pc := 14) C hM hl.1 yv_X12_fails q6_89 (by decide) ce_87 rfl (w_X12_fails l G x 1 s2 _ h) rfl rfl ⟨⟨by decide, by decide⟩, by decide, by decide⟩ (Nat.le_of_ble_eq_true rfl) dX12_errorPosition_14 (fun r14 s14 H locs h hM => ?_)
    refine lv_goto (pc := 17) (tgt := 24) hx hb dX12_errorPosition_17 (by decide) ?_
    exact hret 24 _ _ _ _ _ dX12_errorPosition_24 (by rfl) h hM
abbrev rm_X12_puts : Room := { frames := 0, cells := 0, slots := 0, locals := 0 }
theorem dX12_puts_0 : decode cX12_puts 0 = .ok (.aload_n 0, 1) := by decide +kernel
theorem dX12_puts_1 : decode cX12_puts 1 = .ok (.getfield 65, 3) := by decide +kernel
theorem dX12_puts_4 : decode cX12_puts 4 = .ok (.aload_n 0, 1) := by decide +kernel
theorem dX12_puts_5 : decode cX12_puts 5 = .ok (.getfield 273, 3) := by decide +kernel
theorem dX12_puts_8 : decode cX12_puts 8 = .ok (.iload_n 1, 1) := by decide +kernel
theorem dX12_puts_9 : decode cX12_puts 9 = .ok (.iastore, 1) := by decide +kernel
theorem dX12_puts_10 : decode cX12_puts 10 = .ok (.aload_n 0, 1) := by decide +kernel
theorem dX12_puts_11 : decode cX12_puts 11 = .ok (.dup, 1) := by decide +kernel
theorem dX12_puts_12 : decode cX12_puts 12 = .ok (.getfield 273, 3) := by decide +kernel
theorem dX12_puts_15 : decode cX12_puts 15 = .ok (.iconst 1, 1) := by decide +kernel
theorem dX12_puts_16 : decode cX12_puts 16 = .ok (.iadd, 1) := by decide +kernel
theorem dX12_puts_17 : decode cX12_puts 17 = .ok (.putfield 273, 3) := by decide +kernel
theorem dX12_puts_20 : decode cX12_puts 20 = .ok (.return_, 1) := by decide +kernel
set_option maxHeartbeats 4000000 in
set_option maxRecDepth 100000 in
theorem w_X12_puts (l : Launch) (G : GP) (x : XP) (a1 : Int32) (σ : Sto) (P : Sto → Prop) (h : D_X12_puts a1 σ P) : g_Metv l yX12_puts cX12_puts 2 rm_X12_puts G x [.ref (g_ad G 87), .int a1] σ P := by
  unfold D_X12_puts at h
  refine g_ofWv (by decide +kernel) (Nat.le_of_ble_eq_true rfl) ?_
  intro p e s m args below meth c Q ls C hM hl hret
  have hx := C.1
  have hb := C.2.1
  have hl : lv_has ls 2 [(0, .ref (g_ad G 87)), (1, .int a1)] := hl
  refine lv_aload_n (pc := 0) hx hb dX12_puts_0 rfl (lv_at hl 0 rfl) ?_
  refine g_get (pc := 1) (v := .ref (g_ad G 105)) C hM (by decide) ce_87 fl_RX12_65 rfl dX12_puts_1 ?_
  refine lv_aload_n (pc := 4) hx hb dX12_puts_4 rfl (lv_at hl 0 rfl) ?_
  refine g_get (pc := 5) (v := .int (σ 87 31)) C hM (by decide) ce_87 fl_RX12_273 rfl dX12_puts_5 ?_
  refine lv_iload_n (pc := 8) hx hb dX12_puts_8 rfl (lv_at hl 1 rfl) ?_
  obtain ⟨hc, h⟩ := h
  refine g_iastE (pc := 9) C hM (by decide) ce_105 hc rfl dX12_puts_9 (fun s9 es9 H locs hM => ?_)
  have h := h s9 es9
  refine lv_aload_n (pc := 10) hx hb dX12_puts_10 rfl (lv_at hl 0 rfl) ?_
  refine lv_dup (pc := 11) hx hb dX12_puts_11 rfl ?_
  refine g_get (pc := 12) (v := .int (s9 87 31)) C hM (by decide) ce_87 fl_RX12_273 rfl dX12_puts_12 ?_
  refine lv_iconst (pc := 15) (v := 1) hx hb dX12_puts_15 (by decide) ?_
  refine lv_iadd (pc := 16) hx hb dX12_puts_16 ?_
  refine g_putE (pc := 17) C hM (by decide) ce_87 fp_RX12_273 rfl rfl (Nat.le_of_ble_eq_true rfl) rfl dX12_puts_17 (fun s17 es17 H locs hM => ?_)
  have h := h s17 es17
  exact hret 20 _ _ _ _ dX12_puts_20 h hM
abbrev rm_X12_putsNumber : Room := { frames := 1, cells := 0, slots := 0, locals := 21 }
theorem dX12_putsNumber_0 : decode cX12_putsNumber 0 = .ok (.iload_n 1, 1) := by decide +kernel
theorem dX12_putsNumber_1 : decode cX12_putsNumber 1 = .ok (.bipush 10, 2) := by decide +kernel
theorem dX12_putsNumber_3 : decode cX12_putsNumber 3 = .ok (.if_icmp .lt 9, 3) := by decide +kernel
theorem dX12_putsNumber_6 : decode cX12_putsNumber 6 = .ok (.aload_n 0, 1) := by decide +kernel
theorem dX12_putsNumber_7 : decode cX12_putsNumber 7 = .ok (.bipush 49, 2) := by decide +kernel
theorem dX12_putsNumber_9 : decode cX12_putsNumber 9 = .ok (.invokevirtual 276, 3) := by decide +kernel
theorem dX12_putsNumber_12 : decode cX12_putsNumber 12 = .ok (.aload_n 0, 1) := by decide +kernel
theorem dX12_putsNumber_13 : decode cX12_putsNumber 13 = .ok (.bipush 48, 2) := by decide +kernel
theorem dX12_putsNumber_15 : decode cX12_putsNumber 15 = .ok (.iload_n 1, 1) := by decide +kernel
theorem dX12_putsNumber_16 : decode cX12_putsNumber 16 = .ok (.bipush 10, 2) := by decide +kernel
theorem dX12_putsNumber_18 : decode cX12_putsNumber 18 = .ok (.irem, 1) := by decide +kernel
theorem dX12_putsNumber_19 : decode cX12_putsNumber 19 = .ok (.iadd, 1) := by decide +kernel
theorem dX12_putsNumber_20 : decode cX12_putsNumber 20 = .ok (.invokevirtual 276, 3) := by decide +kernel
theorem dX12_putsNumber_23 : decode cX12_putsNumber 23 = .ok (.return_, 1) := by decide +kernel
set_option maxHeartbeats 4000000 in
set_option maxRecDepth 100000 in
theorem w_X12_putsNumber (l : Launch) (G : GP) (x : XP) (a1 : Int32) (σ : Sto) (P : Sto → Prop) (h : D_X12_putsNumber a1 σ P) : g_Metv l yX12_putsNumber cX12_putsNumber 2 rm_X12_putsNumber G x [.ref (g_ad G 87), .int a1] σ P := by
  unfold D_X12_putsNumber at h
  refine g_ofWv (by decide +kernel) (Nat.le_of_ble_eq_true rfl) ?_
  intro p e s m args below meth c Q ls C hM hl hret
  have hx := C.1
  have hb := C.2.1
  have hl : lv_has ls 2 [(0, .ref (g_ad G 87)), (1, .int a1)] := hl
  refine lv_iload_n (pc := 0) hx hb dX12_putsNumber_0 rfl (lv_at hl 1 rfl) ?_
  refine lv_bipush (pc := 1) (v := 10) hx hb dX12_putsNumber_1 (by decide) ?_
  refine lv_icmp_lt (pc := 3) (tgt := 12) hx hb dX12_putsNumber_3 (by decide) (fun c3 => ?_) (fun c3 => ?_)
  · have h := h.1 c3
    refine lv_aload_n (pc := 12) hx hb dX12_putsNumber_12 rfl (lv_at hl 0 rfl) ?_
    refine lv_bipush (pc := 13) (v := 48) hx hb dX12_putsNumber_13 (by decide) ?_
    refine lv_iload_n (pc := 15) hx hb dX12_putsNumber_15 rfl (lv_at hl 1 rfl) ?_
    refine lv_bipush (pc := 16) (v := 10) hx hb dX12_putsNumber_16 (by decide) ?_
    refine lv_irem (pc := 18) hx hb dX12_putsNumber_18 (by decide) ?_
    refine lv_iadd (pc := 19) hx hb dX12_putsNumber_19 ?_
    refine g_cVv (pc := 20) C hM hl.1 yv_X12_puts q8_3 (by decide) ce_87 rfl (w_X12_puts l G x (48 + (a1 - a1 / 10 * 10)) σ _ h) rfl rfl ⟨⟨by decide, by decide⟩, by decide, by decide⟩ (Nat.le_of_ble_eq_true rfl) dX12_putsNumber_20 (fun s20 H locs h hM => ?_)
    exact hret 23 _ _ _ _ dX12_putsNumber_23 h hM
  · have h := h.2 c3
    refine lv_aload_n (pc := 6) hx hb dX12_putsNumber_6 rfl (lv_at hl 0 rfl) ?_
    refine lv_bipush (pc := 7) (v := 49) hx hb dX12_putsNumber_7 (by decide) ?_
    refine g_cVv (pc := 9) C hM hl.1 yv_X12_puts q8_3 (by decide) ce_87 rfl (w_X12_puts l G x 49 σ _ h) rfl rfl ⟨⟨by decide, by decide⟩, by decide, by decide⟩ (Nat.le_of_ble_eq_true rfl) dX12_putsNumber_9 (fun s9 H locs h hM => ?_)
    refine lv_aload_n (pc := 12) hx hb dX12_putsNumber_12 rfl (lv_at hl 0 rfl) ?_
    refine lv_bipush (pc := 13) (v := 48) hx hb dX12_putsNumber_13 (by decide) ?_
    refine lv_iload_n (pc := 15) hx hb dX12_putsNumber_15 rfl (lv_at hl 1 rfl) ?_
    refine lv_bipush (pc := 16) (v := 10) hx hb dX12_putsNumber_16 (by decide) ?_
    refine lv_irem (pc := 18) hx hb dX12_putsNumber_18 (by decide) ?_
    refine lv_iadd (pc := 19) hx hb dX12_putsNumber_19 ?_
    refine g_cVv (pc := 20) C hM hl.1 yv_X12_puts q8_3 (by decide) ce_87 rfl (w_X12_puts l G x (48 + (a1 - a1 / 10 * 10)) s9 _ h) rfl rfl ⟨⟨by decide, by decide⟩, by decide, by decide⟩ (Nat.le_of_ble_eq_true rfl) dX12_putsNumber_20 (fun s20 H locs h hM => ?_)
    exact hret 23 _ _ _ _ dX12_putsNumber_23 h hM
abbrev rm_X12_putsSet : Room := { frames := 2, cells := 0, slots := 0, locals := 42 }
theorem dX12_putsSet_0 : decode cX12_putsSet 0 = .ok (.iconst 0, 1) := by decide +kernel
theorem dX12_putsSet_1 : decode cX12_putsSet 1 = .ok (.istore_n 2, 1) := by decide +kernel
theorem dX12_putsSet_2 : decode cX12_putsSet 2 = .ok (.aload_n 0, 1) := by decide +kernel
theorem dX12_putsSet_3 : decode cX12_putsSet 3 = .ok (.bipush 123, 2) := by decide +kernel
theorem dX12_putsSet_5 : decode cX12_putsSet 5 = .ok (.invokevirtual 276, 3) := by decide +kernel
theorem dX12_putsSet_8 : decode cX12_putsSet 8 = .ok (.iconst 0, 1) := by decide +kernel
theorem dX12_putsSet_9 : decode cX12_putsSet 9 = .ok (.istore_n 3, 1) := by decide +kernel
theorem dX12_putsSet_10 : decode cX12_putsSet 10 = .ok (.iload_n 3, 1) := by decide +kernel
theorem dX12_putsSet_11 : decode cX12_putsSet 11 = .ok (.bipush 16, 2) := by decide +kernel
theorem dX12_putsSet_13 : decode cX12_putsSet 13 = .ok (.if_icmp .ge 34, 3) := by decide +kernel
theorem dX12_putsSet_16 : decode cX12_putsSet 16 = .ok (.iload_n 1, 1) := by decide +kernel
theorem dX12_putsSet_17 : decode cX12_putsSet 17 = .ok (.iload_n 3, 1) := by decide +kernel
theorem dX12_putsSet_18 : decode cX12_putsSet 18 = .ok (.invokestatic 129, 3) := by decide +kernel
theorem dX12_putsSet_21 : decode cX12_putsSet 21 = .ok (.ifCond .eq 20, 3) := by decide +kernel
theorem dX12_putsSet_24 : decode cX12_putsSet 24 = .ok (.iload_n 2, 1) := by decide +kernel
theorem dX12_putsSet_25 : decode cX12_putsSet 25 = .ok (.ifCond .eq 9, 3) := by decide +kernel
theorem dX12_putsSet_28 : decode cX12_putsSet 28 = .ok (.aload_n 0, 1) := by decide +kernel
theorem dX12_putsSet_29 : decode cX12_putsSet 29 = .ok (.bipush 44, 2) := by decide +kernel
theorem dX12_putsSet_31 : decode cX12_putsSet 31 = .ok (.invokevirtual 276, 3) := by decide +kernel
theorem dX12_putsSet_34 : decode cX12_putsSet 34 = .ok (.aload_n 0, 1) := by decide +kernel
theorem dX12_putsSet_35 : decode cX12_putsSet 35 = .ok (.iload_n 3, 1) := by decide +kernel
theorem dX12_putsSet_36 : decode cX12_putsSet 36 = .ok (.invokevirtual 279, 3) := by decide +kernel
theorem dX12_putsSet_39 : decode cX12_putsSet 39 = .ok (.iconst 1, 1) := by decide +kernel
theorem dX12_putsSet_40 : decode cX12_putsSet 40 = .ok (.istore_n 2, 1) := by decide +kernel
theorem dX12_putsSet_41 : decode cX12_putsSet 41 = .ok (.iinc 3 1, 3) := by decide +kernel
theorem dX12_putsSet_44 : decode cX12_putsSet 44 = .ok (.goto (-34), 3) := by decide +kernel
theorem dX12_putsSet_47 : decode cX12_putsSet 47 = .ok (.aload_n 0, 1) := by decide +kernel
theorem dX12_putsSet_48 : decode cX12_putsSet 48 = .ok (.bipush 125, 2) := by decide +kernel
theorem dX12_putsSet_50 : decode cX12_putsSet 50 = .ok (.invokevirtual 276, 3) := by decide +kernel
theorem dX12_putsSet_53 : decode cX12_putsSet 53 = .ok (.return_, 1) := by decide +kernel
set_option maxHeartbeats 4000000 in
set_option maxRecDepth 100000 in
theorem w_X12_putsSet (l : Launch) (G : GP) (x : XP) (a1 : Int32) (σ : Sto) (P : Sto → Prop) (h : D_X12_putsSet a1 σ P) : g_Metv l yX12_putsSet cX12_putsSet 4 rm_X12_putsSet G x [.ref (g_ad G 87), .int a1] σ P := by
  unfold D_X12_putsSet at h
  refine g_ofWv (by decide +kernel) (Nat.le_of_ble_eq_true rfl) ?_
  intro p e s m args below meth c Q ls C hM hl hret
  have hx := C.1
  have hb := C.2.1
  have hl : lv_has ls 4 [(0, .ref (g_ad G 87)), (1, .int a1)] := hl
  have h := h (fun (v2 : Int32) (v3 : Int32) (σ : Sto) => ∀ (H : Heap) (locs : List Loc) (ls : Array Slot), g_M G x σ s H locs → lv_has ls 4 [(0, .ref (g_ad G 87)), (1, .int a1), (2, .int v2), (3, .int v3)] → W p l e rm_X12_putsSet s m args below meth c H locs 0 0 Q (F0 m 10 ls []))
  have h := h (by
    intro v2 v3 σ h  H locs ls hM hl
    refine lv_iload_n (pc := 10) hx hb dX12_putsSet_10 rfl (lv_at hl 3 rfl) ?_
    refine lv_bipush (pc := 11) (v := 16) hx hb dX12_putsSet_11 (by decide) ?_
    refine lv_icmp_ge (pc := 13) (tgt := 47) hx hb dX12_putsSet_13 (by decide) (fun c13 => ?_) (fun c13 => ?_)
    · have h := h.1 c13
      refine lv_aload_n (pc := 47) hx hb dX12_putsSet_47 rfl (lv_at hl 0 rfl) ?_
      refine lv_bipush (pc := 48) (v := 125) hx hb dX12_putsSet_48 (by decide) ?_
      refine g_cVv (pc := 50) C hM hl.1 yv_X12_puts q8_3 (by decide) ce_87 rfl (w_X12_puts l G x 125 σ _ h) rfl rfl ⟨⟨by decide, by decide⟩, by decide, by decide⟩ (Nat.le_of_ble_eq_true rfl) dX12_putsSet_50 (fun s50 H locs h hM => ?_)
      exact hret 53 _ _ _ _ dX12_putsSet_53 h hM
    · have h := h.2 c13
      refine lv_iload_n (pc := 16) hx hb dX12_putsSet_16 rfl (lv_at hl 1 rfl) ?_
      refine lv_iload_n (pc := 17) hx hb dX12_putsSet_17 rfl (lv_at hl 3 rfl) ?_
      refine g_cSi (pc := 18) C hM hl.1 ys_X12_has q6_194 (w_X12_has l G x a1 v3 σ _ h) rfl rfl ⟨⟨by decide, by decide⟩, by decide, by decide⟩ (Nat.le_of_ble_eq_true rfl) dX12_putsSet_18 (fun r18 s18 H locs h hM => ?_)
      refine lv_if_eq (pc := 21) (tgt := 41) hx hb dX12_putsSet_21 (by decide) (fun c21 => ?_) (fun c21 => ?_)
      · have h := h.1 c21
        refine lv_iinc (pc := 41) (v := (v3 + 1)) (lv' := [(3, .int (v3 + 1)), (0, .ref (g_ad G 87)), (1, .int a1), (2, .int v2)]) hx hb dX12_putsSet_41 hl (k := 3) rfl (by rfl) (by decide) rfl (fun ls hl => ?_)
        refine lv_goto (pc := 44) (tgt := 10) hx hb dX12_putsSet_44 (by decide) ?_
        exact h _ _ _ hM (lv_sub hl [1, 2, 3, 0] rfl)
      · have h := h.2 c21
        refine lv_iload_n (pc := 24) hx hb dX12_putsSet_24 rfl (lv_at hl 2 rfl) ?_
        refine lv_if_eq (pc := 25) (tgt := 34) hx hb dX12_putsSet_25 (by decide) (fun c25 => ?_) (fun c25 => ?_)
        · have h := h.1 c25
          refine lv_aload_n (pc := 34) hx hb dX12_putsSet_34 rfl (lv_at hl 0 rfl) ?_
          refine lv_iload_n (pc := 35) hx hb dX12_putsSet_35 rfl (lv_at hl 3 rfl) ?_
          refine g_cVv (pc := 36) C hM hl.1 yv_X12_putsNumber q8_11 (by decide) ce_87 rfl (w_X12_putsNumber l G x v3 s18 _ h) rfl rfl ⟨⟨by decide, by decide⟩, by decide, by decide⟩ (Nat.le_of_ble_eq_true rfl) dX12_putsSet_36 (fun s36 H locs h hM => ?_)
          refine lv_iconst (pc := 39) (v := 1) hx hb dX12_putsSet_39 (by decide) ?_
          refine lv_istore_n (pc := 40) (lv' := [(2, .int 1), (0, .ref (g_ad G 87)), (1, .int a1), (3, .int v3)]) hx hb dX12_putsSet_40 rfl hl (by decide) rfl (fun ls hl => ?_)
          refine lv_iinc (pc := 41) (v := (v3 + 1)) (lv' := [(3, .int (v3 + 1)), (2, .int 1), (0, .ref (g_ad G 87)), (1, .int a1)]) hx hb dX12_putsSet_41 hl (k := 3) rfl (by rfl) (by decide) rfl (fun ls hl => ?_)
          refine lv_goto (pc := 44) (tgt := 10) hx hb dX12_putsSet_44 (by decide) ?_
          exact h _ _ _ hM (lv_sub hl [2, 3, 1, 0] rfl)
        · have h := h.2 c25
          refine lv_aload_n (pc := 28) hx hb dX12_putsSet_28 rfl (lv_at hl 0 rfl) ?_
          refine lv_bipush (pc := 29) (v := 44) hx hb dX12_putsSet_29 (by decide) ?_
          refine g_cVv (pc := 31) C hM hl.1 yv_X12_puts q8_3 (by decide) ce_87 rfl (w_X12_puts l G x 44 s18 _ h) rfl rfl ⟨⟨by decide, by decide⟩, by decide, by decide⟩ (Nat.le_of_ble_eq_true rfl) dX12_putsSet_31 (fun s31 H locs h hM => ?_)
          refine lv_aload_n (pc := 34) hx hb dX12_putsSet_34 rfl (lv_at hl 0 rfl) ?_
          refine lv_iload_n (pc := 35) hx hb dX12_putsSet_35 rfl (lv_at hl 3 rfl) ?_
          refine g_cVv (pc := 36) C hM hl.1 yv_X12_putsNumber q8_11 (by decide) ce_87 rfl (w_X12_putsNumber l G x v3 s31 _ h) rfl rfl ⟨⟨by decide, by decide⟩, by decide, by decide⟩ (Nat.le_of_ble_eq_true rfl) dX12_putsSet_36 (fun s36 H locs h hM => ?_)
          refine lv_iconst (pc := 39) (v := 1) hx hb dX12_putsSet_39 (by decide) ?_
          refine lv_istore_n (pc := 40) (lv' := [(2, .int 1), (0, .ref (g_ad G 87)), (1, .int a1), (3, .int v3)]) hx hb dX12_putsSet_40 rfl hl (by decide) rfl (fun ls hl => ?_)
          refine lv_iinc (pc := 41) (v := (v3 + 1)) (lv' := [(3, .int (v3 + 1)), (2, .int 1), (0, .ref (g_ad G 87)), (1, .int a1)]) hx hb dX12_putsSet_41 hl (k := 3) rfl (by rfl) (by decide) rfl (fun ls hl => ?_)
          refine lv_goto (pc := 44) (tgt := 10) hx hb dX12_putsSet_44 (by decide) ?_
          exact h _ _ _ hM (lv_sub hl [2, 3, 1, 0] rfl))
  refine lv_iconst (pc := 0) (v := 0) hx hb dX12_putsSet_0 (by decide) ?_
  refine lv_istore_n (pc := 1) (lv' := [(2, .int 0), (0, .ref (g_ad G 87)), (1, .int a1)]) hx hb dX12_putsSet_1 rfl hl (by decide) rfl (fun ls hl => ?_)
  refine lv_aload_n (pc := 2) hx hb dX12_putsSet_2 rfl (lv_at hl 1 rfl) ?_
  refine lv_bipush (pc := 3) (v := 123) hx hb dX12_putsSet_3 (by decide) ?_
  refine g_cVv (pc := 5) C hM hl.1 yv_X12_puts q8_3 (by decide) ce_87 rfl (w_X12_puts l G x 123 σ _ h) rfl rfl ⟨⟨by decide, by decide⟩, by decide, by decide⟩ (Nat.le_of_ble_eq_true rfl) dX12_putsSet_5 (fun s5 H locs h hM => ?_)
  refine lv_iconst (pc := 8) (v := 0) hx hb dX12_putsSet_8 (by decide) ?_
  refine lv_istore_n (pc := 9) (lv' := [(3, .int 0), (2, .int 0), (0, .ref (g_ad G 87)), (1, .int a1)]) hx hb dX12_putsSet_9 rfl hl (by decide) rfl (fun ls hl => ?_)
  exact h _ _ _ hM (lv_sub hl [2, 3, 1, 0] rfl)
abbrev rm_X12_signOf : Room := { frames := 0, cells := 0, slots := 0, locals := 0 }
theorem dX12_signOf_0 : decode cX12_signOf 0 = .ok (.iload_n 0, 1) := by decide +kernel
theorem dX12_signOf_1 : decode cX12_signOf 1 = .ok (.ifCond .ne 8, 3) := by decide +kernel
theorem dX12_signOf_4 : decode cX12_signOf 4 = .ok (.bipush 61, 2) := by decide +kernel
theorem dX12_signOf_6 : decode cX12_signOf 6 = .ok (.goto 25, 3) := by decide +kernel
theorem dX12_signOf_9 : decode cX12_signOf 9 = .ok (.iload_n 0, 1) := by decide +kernel
theorem dX12_signOf_10 : decode cX12_signOf 10 = .ok (.iconst 1, 1) := by decide +kernel
theorem dX12_signOf_11 : decode cX12_signOf 11 = .ok (.if_icmp .ne 8, 3) := by decide +kernel
theorem dX12_signOf_14 : decode cX12_signOf 14 = .ok (.bipush 35, 2) := by decide +kernel
theorem dX12_signOf_16 : decode cX12_signOf 16 = .ok (.goto 15, 3) := by decide +kernel
theorem dX12_signOf_19 : decode cX12_signOf 19 = .ok (.iload_n 0, 1) := by decide +kernel
theorem dX12_signOf_20 : decode cX12_signOf 20 = .ok (.iconst 2, 1) := by decide +kernel
theorem dX12_signOf_21 : decode cX12_signOf 21 = .ok (.if_icmp .ne 8, 3) := by decide +kernel
theorem dX12_signOf_24 : decode cX12_signOf 24 = .ok (.bipush 60, 2) := by decide +kernel
theorem dX12_signOf_26 : decode cX12_signOf 26 = .ok (.goto 5, 3) := by decide +kernel
theorem dX12_signOf_29 : decode cX12_signOf 29 = .ok (.bipush 62, 2) := by decide +kernel
theorem dX12_signOf_31 : decode cX12_signOf 31 = .ok (.ireturn, 1) := by decide +kernel
set_option maxHeartbeats 4000000 in
set_option maxRecDepth 100000 in
theorem w_X12_signOf (l : Launch) (G : GP) (x : XP) (a0 : Int32) (σ : Sto) (P : Int32 → Sto → Prop) (h : D_X12_signOf a0 σ P) : g_Meti l yX12_signOf cX12_signOf 1 (some .int) rm_X12_signOf G x [.int a0] σ P := by
  unfold D_X12_signOf at h
  refine g_ofWi (by decide +kernel) (Nat.le_of_ble_eq_true rfl) ?_
  intro p e s m args below meth c Q ls C hM hl hret
  have hx := C.1
  have hb := C.2.1
  have hl : lv_has ls 1 [(0, .int a0)] := hl
  refine lv_iload_n (pc := 0) hx hb dX12_signOf_0 rfl (lv_at hl 0 rfl) ?_
  refine lv_if_ne (pc := 1) (tgt := 9) hx hb dX12_signOf_1 (by decide) (fun c1 => ?_) (fun c1 => ?_)
  · have h := h.2 c1
    refine lv_iload_n (pc := 9) hx hb dX12_signOf_9 rfl (lv_at hl 0 rfl) ?_
    refine lv_iconst (pc := 10) (v := 1) hx hb dX12_signOf_10 (by decide) ?_
    refine lv_icmp_ne (pc := 11) (tgt := 19) hx hb dX12_signOf_11 (by decide) (fun c11 => ?_) (fun c11 => ?_)
    · have h := h.2 c11
      refine lv_iload_n (pc := 19) hx hb dX12_signOf_19 rfl (lv_at hl 0 rfl) ?_
      refine lv_iconst (pc := 20) (v := 2) hx hb dX12_signOf_20 (by decide) ?_
      refine lv_icmp_ne (pc := 21) (tgt := 29) hx hb dX12_signOf_21 (by decide) (fun c21 => ?_) (fun c21 => ?_)
      · have h := h.2 c21
        refine lv_bipush (pc := 29) (v := 62) hx hb dX12_signOf_29 (by decide) ?_
        exact hret 31 _ _ _ _ _ dX12_signOf_31 (by rfl) h hM
      · have h := h.1 c21
        refine lv_bipush (pc := 24) (v := 60) hx hb dX12_signOf_24 (by decide) ?_
        refine lv_goto (pc := 26) (tgt := 31) hx hb dX12_signOf_26 (by decide) ?_
        exact hret 31 _ _ _ _ _ dX12_signOf_31 (by rfl) h hM
    · have h := h.1 c11
      refine lv_bipush (pc := 14) (v := 35) hx hb dX12_signOf_14 (by decide) ?_
      refine lv_goto (pc := 16) (tgt := 31) hx hb dX12_signOf_16 (by decide) ?_
      exact hret 31 _ _ _ _ _ dX12_signOf_31 (by rfl) h hM
  · have h := h.1 c1
    refine lv_bipush (pc := 4) (v := 61) hx hb dX12_signOf_4 (by decide) ?_
    refine lv_goto (pc := 6) (tgt := 31) hx hb dX12_signOf_6 (by decide) ?_
    exact hret 31 _ _ _ _ _ dX12_signOf_31 (by rfl) h hM
abbrev rm_X12_tells : Room := { frames := 3, cells := 0, slots := 0, locals := 65 }
theorem dX12_tells_0 : decode cX12_tells 0 = .ok (.aload_n 0, 1) := by decide +kernel
theorem dX12_tells_1 : decode cX12_tells 1 = .ok (.iconst 0, 1) := by decide +kernel
theorem dX12_tells_2 : decode cX12_tells 2 = .ok (.putfield 273, 3) := by decide +kernel
theorem dX12_tells_5 : decode cX12_tells 5 = .ok (.aload_n 0, 1) := by decide +kernel
theorem dX12_tells_6 : decode cX12_tells 6 = .ok (.bipush 48, 2) := by decide +kernel
theorem dX12_tells_8 : decode cX12_tells 8 = .ok (.aload_n 0, 1) := by decide +kernel
theorem dX12_tells_9 : decode cX12_tells 9 = .ok (.iload_n 1, 1) := by decide +kernel
theorem dX12_tells_10 : decode cX12_tells 10 = .ok (.iconst 0, 1) := by decide +kernel
theorem dX12_tells_11 : decode cX12_tells 11 = .ok (.invokevirtual 97, 3) := by decide +kernel
theorem dX12_tells_14 : decode cX12_tells 14 = .ok (.iadd, 1) := by decide +kernel
theorem dX12_tells_15 : decode cX12_tells 15 = .ok (.invokevirtual 276, 3) := by decide +kernel
theorem dX12_tells_18 : decode cX12_tells 18 = .ok (.aload_n 0, 1) := by decide +kernel
theorem dX12_tells_19 : decode cX12_tells 19 = .ok (.aload_n 0, 1) := by decide +kernel
theorem dX12_tells_20 : decode cX12_tells 20 = .ok (.iload_n 1, 1) := by decide +kernel
theorem dX12_tells_21 : decode cX12_tells 21 = .ok (.iconst 1, 1) := by decide +kernel
theorem dX12_tells_22 : decode cX12_tells 22 = .ok (.invokevirtual 97, 3) := by decide +kernel
theorem dX12_tells_25 : decode cX12_tells 25 = .ok (.iconst 1, 1) := by decide +kernel
theorem dX12_tells_26 : decode cX12_tells 26 = .ok (.if_icmp .ne 8, 3) := by decide +kernel
theorem dX12_tells_29 : decode cX12_tells 29 = .ok (.bipush 45, 2) := by decide +kernel
theorem dX12_tells_31 : decode cX12_tells 31 = .ok (.goto 5, 3) := by decide +kernel
theorem dX12_tells_34 : decode cX12_tells 34 = .ok (.bipush 43, 2) := by decide +kernel
theorem dX12_tells_36 : decode cX12_tells 36 = .ok (.invokevirtual 276, 3) := by decide +kernel
theorem dX12_tells_39 : decode cX12_tells 39 = .ok (.iconst 0, 1) := by decide +kernel
theorem dX12_tells_40 : decode cX12_tells 40 = .ok (.istore_n 2, 1) := by decide +kernel
theorem dX12_tells_41 : decode cX12_tells 41 = .ok (.iload_n 2, 1) := by decide +kernel
theorem dX12_tells_42 : decode cX12_tells 42 = .ok (.aload_n 0, 1) := by decide +kernel
theorem dX12_tells_43 : decode cX12_tells 43 = .ok (.iload_n 1, 1) := by decide +kernel
theorem dX12_tells_44 : decode cX12_tells 44 = .ok (.iconst 3, 1) := by decide +kernel
theorem dX12_tells_45 : decode cX12_tells 45 = .ok (.invokevirtual 97, 3) := by decide +kernel
theorem dX12_tells_48 : decode cX12_tells 48 = .ok (.if_icmp .ge 83, 3) := by decide +kernel
theorem dX12_tells_51 : decode cX12_tells 51 = .ok (.iload_n 2, 1) := by decide +kernel
theorem dX12_tells_52 : decode cX12_tells 52 = .ok (.ifCond .le 9, 3) := by decide +kernel
theorem dX12_tells_55 : decode cX12_tells 55 = .ok (.aload_n 0, 1) := by decide +kernel
theorem dX12_tells_56 : decode cX12_tells 56 = .ok (.bipush 38, 2) := by decide +kernel
theorem dX12_tells_58 : decode cX12_tells 58 = .ok (.invokevirtual 276, 3) := by decide +kernel
theorem dX12_tells_61 : decode cX12_tells 61 = .ok (.aload_n 0, 1) := by decide +kernel
theorem dX12_tells_62 : decode cX12_tells 62 = .ok (.bipush 97, 2) := by decide +kernel
theorem dX12_tells_64 : decode cX12_tells 64 = .ok (.aload_n 0, 1) := by decide +kernel
theorem dX12_tells_65 : decode cX12_tells 65 = .ok (.iload_n 1, 1) := by decide +kernel
theorem dX12_tells_66 : decode cX12_tells 66 = .ok (.iload_n 2, 1) := by decide +kernel
theorem dX12_tells_67 : decode cX12_tells 67 = .ok (.iconst 0, 1) := by decide +kernel
theorem dX12_tells_68 : decode cX12_tells 68 = .ok (.invokevirtual 119, 3) := by decide +kernel
theorem dX12_tells_71 : decode cX12_tells 71 = .ok (.iadd, 1) := by decide +kernel
theorem dX12_tells_72 : decode cX12_tells 72 = .ok (.invokevirtual 276, 3) := by decide +kernel
theorem dX12_tells_75 : decode cX12_tells 75 = .ok (.aload_n 0, 1) := by decide +kernel
theorem dX12_tells_76 : decode cX12_tells 76 = .ok (.iload_n 1, 1) := by decide +kernel
theorem dX12_tells_77 : decode cX12_tells 77 = .ok (.iload_n 2, 1) := by decide +kernel
theorem dX12_tells_78 : decode cX12_tells 78 = .ok (.iconst 1, 1) := by decide +kernel
theorem dX12_tells_79 : decode cX12_tells 79 = .ok (.invokevirtual 119, 3) := by decide +kernel
theorem dX12_tells_82 : decode cX12_tells 82 = .ok (.iconst 4, 1) := by decide +kernel
theorem dX12_tells_83 : decode cX12_tells 83 = .ok (.if_icmp .ne 17, 3) := by decide +kernel
theorem dX12_tells_86 : decode cX12_tells 86 = .ok (.aload_n 0, 1) := by decide +kernel
theorem dX12_tells_87 : decode cX12_tells 87 = .ok (.aload_n 0, 1) := by decide +kernel
theorem dX12_tells_88 : decode cX12_tells 88 = .ok (.iload_n 1, 1) := by decide +kernel
theorem dX12_tells_89 : decode cX12_tells 89 = .ok (.iload_n 2, 1) := by decide +kernel
theorem dX12_tells_90 : decode cX12_tells 90 = .ok (.iconst 2, 1) := by decide +kernel
theorem dX12_tells_91 : decode cX12_tells 91 = .ok (.invokevirtual 119, 3) := by decide +kernel
theorem dX12_tells_94 : decode cX12_tells 94 = .ok (.invokevirtual 282, 3) := by decide +kernel
theorem dX12_tells_97 : decode cX12_tells 97 = .ok (.goto 28, 3) := by decide +kernel
theorem dX12_tells_100 : decode cX12_tells 100 = .ok (.aload_n 0, 1) := by decide +kernel
theorem dX12_tells_101 : decode cX12_tells 101 = .ok (.aload_n 0, 1) := by decide +kernel
theorem dX12_tells_102 : decode cX12_tells 102 = .ok (.iload_n 1, 1) := by decide +kernel
theorem dX12_tells_103 : decode cX12_tells 103 = .ok (.iload_n 2, 1) := by decide +kernel
theorem dX12_tells_104 : decode cX12_tells 104 = .ok (.iconst 1, 1) := by decide +kernel
theorem dX12_tells_105 : decode cX12_tells 105 = .ok (.invokevirtual 119, 3) := by decide +kernel
theorem dX12_tells_108 : decode cX12_tells 108 = .ok (.invokestatic 285, 3) := by decide +kernel
theorem dX12_tells_111 : decode cX12_tells 111 = .ok (.invokevirtual 276, 3) := by decide +kernel
theorem dX12_tells_114 : decode cX12_tells 114 = .ok (.aload_n 0, 1) := by decide +kernel
theorem dX12_tells_115 : decode cX12_tells 115 = .ok (.aload_n 0, 1) := by decide +kernel
theorem dX12_tells_116 : decode cX12_tells 116 = .ok (.iload_n 1, 1) := by decide +kernel
theorem dX12_tells_117 : decode cX12_tells 117 = .ok (.iload_n 2, 1) := by decide +kernel
theorem dX12_tells_118 : decode cX12_tells 118 = .ok (.iconst 2, 1) := by decide +kernel
theorem dX12_tells_119 : decode cX12_tells 119 = .ok (.invokevirtual 119, 3) := by decide +kernel
theorem dX12_tells_122 : decode cX12_tells 122 = .ok (.invokevirtual 279, 3) := by decide +kernel
theorem dX12_tells_125 : decode cX12_tells 125 = .ok (.iinc 2 1, 3) := by decide +kernel
theorem dX12_tells_128 : decode cX12_tells 128 = .ok (.goto (-87), 3) := by decide +kernel
theorem dX12_tells_131 : decode cX12_tells 131 = .ok (.aload_n 0, 1) := by decide +kernel
theorem dX12_tells_132 : decode cX12_tells 132 = .ok (.bipush 58, 2) := by decide +kernel
theorem dX12_tells_134 : decode cX12_tells 134 = .ok (.invokevirtual 276, 3) := by decide +kernel
theorem dX12_tells_137 : decode cX12_tells 137 = .ok (.aload_n 0, 1) := by decide +kernel
theorem dX12_tells_138 : decode cX12_tells 138 = .ok (.bipush 48, 2) := by decide +kernel
theorem dX12_tells_140 : decode cX12_tells 140 = .ok (.aload_n 0, 1) := by decide +kernel
theorem dX12_tells_141 : decode cX12_tells 141 = .ok (.iload_n 1, 1) := by decide +kernel
theorem dX12_tells_142 : decode cX12_tells 142 = .ok (.iconst 2, 1) := by decide +kernel
theorem dX12_tells_143 : decode cX12_tells 143 = .ok (.invokevirtual 97, 3) := by decide +kernel
theorem dX12_tells_146 : decode cX12_tells 146 = .ok (.iadd, 1) := by decide +kernel
theorem dX12_tells_147 : decode cX12_tells 147 = .ok (.invokevirtual 276, 3) := by decide +kernel
theorem dX12_tells_150 : decode cX12_tells 150 = .ok (.aload_n 0, 1) := by decide +kernel
theorem dX12_tells_151 : decode cX12_tells 151 = .ok (.bipush 59, 2) := by decide +kernel
theorem dX12_tells_153 : decode cX12_tells 153 = .ok (.invokevirtual 276, 3) := by decide +kernel
theorem dX12_tells_156 : decode cX12_tells 156 = .ok (.return_, 1) := by decide +kernel
set_option maxHeartbeats 4000000 in
set_option maxRecDepth 100000 in
theorem w_X12_tells (l : Launch) (G : GP) (x : XP) (a1 : Int32) (σ : Sto) (P : Sto → Prop) (h : D_X12_tells a1 σ P) : g_Metv l yX12_tells cX12_tells 3 rm_X12_tells G x [.ref (g_ad G 87), .int a1] σ P := by
  unfold D_X12_tells at h
  refine g_ofWv (by decide +kernel) (Nat.le_of_ble_eq_true rfl) ?_
  intro p e s m args below meth c Q ls C hM hl hret
  have hx := C.1
  have hb := C.2.1
  have hl : lv_has ls 3 [(0, .ref (g_ad G 87)), (1, .int a1)] := hl
  have h := h (fun (v2 : Int32) (σ : Sto) => ∀ (H : Heap) (locs : List Loc) (ls : Array Slot), g_M G x σ s H locs → lv_has ls 3 [(0, .ref (g_ad G 87)), (1, .int a1), (2, .int v2)] → W p l e rm_X12_tells s m args below meth c H locs 0 0 Q (F0 m 41 ls [])) (fun (v2 : Int32) (σ : Sto) => ∀ (H : Heap) (locs : List Loc) (ls : Array Slot), g_M G x σ s H locs → lv_has ls 3 [(0, .ref (g_ad G 87)), (1, .int a1), (2, .int v2)] → W p l e rm_X12_tells s m args below meth c H locs 0 0 Q (F0 m 61 ls []))
  have h := h (by
    intro v2 σ h  H locs ls hM hl
    refine lv_iload_n (pc := 41) hx hb dX12_tells_41 rfl (lv_at hl 2 rfl) ?_
    refine lv_aload_n (pc := 42) hx hb dX12_tells_42 rfl (lv_at hl 0 rfl) ?_
    refine lv_iload_n (pc := 43) hx hb dX12_tells_43 rfl (lv_at hl 1 rfl) ?_
    refine lv_iconst (pc := 44) (v := 3) hx hb dX12_tells_44 (by decide) ?_
    refine g_cVi (pc := 45) C hM hl.1 yv_X12_of q6_131 (by decide) ce_87 rfl (w_X12_of l G x a1 3 σ _ h) rfl rfl ⟨⟨by decide, by decide⟩, by decide, by decide⟩ (Nat.le_of_ble_eq_true rfl) dX12_tells_45 (fun r45 s45 H locs h hM => ?_)
    refine lv_icmp_ge (pc := 48) (tgt := 131) hx hb dX12_tells_48 (by decide) (fun c48 => ?_) (fun c48 => ?_)
    · have h := h.1 c48
      refine lv_aload_n (pc := 131) hx hb dX12_tells_131 rfl (lv_at hl 0 rfl) ?_
      refine lv_bipush (pc := 132) (v := 58) hx hb dX12_tells_132 (by decide) ?_
      refine g_cVv (pc := 134) C hM hl.1 yv_X12_puts q8_3 (by decide) ce_87 rfl (w_X12_puts l G x 58 s45 _ h) rfl rfl ⟨⟨by decide, by decide⟩, by decide, by decide⟩ (Nat.le_of_ble_eq_true rfl) dX12_tells_134 (fun s134 H locs h hM => ?_)
      refine lv_aload_n (pc := 137) hx hb dX12_tells_137 rfl (lv_at hl 0 rfl) ?_
      refine lv_bipush (pc := 138) (v := 48) hx hb dX12_tells_138 (by decide) ?_
      refine lv_aload_n (pc := 140) hx hb dX12_tells_140 rfl (lv_at hl 0 rfl) ?_
      refine lv_iload_n (pc := 141) hx hb dX12_tells_141 rfl (lv_at hl 1 rfl) ?_
      refine lv_iconst (pc := 142) (v := 2) hx hb dX12_tells_142 (by decide) ?_
      refine g_cVi (pc := 143) C hM hl.1 yv_X12_of q6_131 (by decide) ce_87 rfl (w_X12_of l G x a1 2 s134 _ h) rfl rfl ⟨⟨by decide, by decide⟩, by decide, by decide⟩ (Nat.le_of_ble_eq_true rfl) dX12_tells_143 (fun r143 s143 H locs h hM => ?_)
      refine lv_iadd (pc := 146) hx hb dX12_tells_146 ?_
      refine g_cVv (pc := 147) C hM hl.1 yv_X12_puts q8_3 (by decide) ce_87 rfl (w_X12_puts l G x (48 + r143) s143 _ h) rfl rfl ⟨⟨by decide, by decide⟩, by decide, by decide⟩ (Nat.le_of_ble_eq_true rfl) dX12_tells_147 (fun s147 H locs h hM => ?_)
      refine lv_aload_n (pc := 150) hx hb dX12_tells_150 rfl (lv_at hl 0 rfl) ?_
      refine lv_bipush (pc := 151) (v := 59) hx hb dX12_tells_151 (by decide) ?_
      refine g_cVv (pc := 153) C hM hl.1 yv_X12_puts q8_3 (by decide) ce_87 rfl (w_X12_puts l G x 59 s147 _ h) rfl rfl ⟨⟨by decide, by decide⟩, by decide, by decide⟩ (Nat.le_of_ble_eq_true rfl) dX12_tells_153 (fun s153 H locs h hM => ?_)
      exact hret 156 _ _ _ _ dX12_tells_156 h hM
    · have h := h.2 c48
      refine lv_iload_n (pc := 51) hx hb dX12_tells_51 rfl (lv_at hl 2 rfl) ?_
      refine lv_if_le (pc := 52) (tgt := 61) hx hb dX12_tells_52 (by decide) (fun c52 => ?_) (fun c52 => ?_)
      · have h := h.1 c52
        exact h _ _ _ hM (lv_sub hl [0, 1, 2] rfl)
      · have h := h.2 c52
        refine lv_aload_n (pc := 55) hx hb dX12_tells_55 rfl (lv_at hl 0 rfl) ?_
        refine lv_bipush (pc := 56) (v := 38) hx hb dX12_tells_56 (by decide) ?_
        refine g_cVv (pc := 58) C hM hl.1 yv_X12_puts q8_3 (by decide) ce_87 rfl (w_X12_puts l G x 38 s45 _ h) rfl rfl ⟨⟨by decide, by decide⟩, by decide, by decide⟩ (Nat.le_of_ble_eq_true rfl) dX12_tells_58 (fun s58 H locs h hM => ?_)
        exact h _ _ _ hM (lv_sub hl [0, 1, 2] rfl))
  have h := h (by
    intro v2 σ h  H locs ls hM hl
    refine lv_aload_n (pc := 61) hx hb dX12_tells_61 rfl (lv_at hl 0 rfl) ?_
    refine lv_bipush (pc := 62) (v := 97) hx hb dX12_tells_62 (by decide) ?_
    refine lv_aload_n (pc := 64) hx hb dX12_tells_64 rfl (lv_at hl 0 rfl) ?_
    refine lv_iload_n (pc := 65) hx hb dX12_tells_65 rfl (lv_at hl 1 rfl) ?_
    refine lv_iload_n (pc := 66) hx hb dX12_tells_66 rfl (lv_at hl 2 rfl) ?_
    refine lv_iconst (pc := 67) (v := 0) hx hb dX12_tells_67 (by decide) ?_
    refine g_cVi (pc := 68) C hM hl.1 yv_X12_part q6_175 (by decide) ce_87 rfl (w_X12_part l G x a1 v2 0 σ _ h) rfl rfl ⟨⟨by decide, by decide⟩, by decide, by decide⟩ (Nat.le_of_ble_eq_true rfl) dX12_tells_68 (fun r68 s68 H locs h hM => ?_)
    refine lv_iadd (pc := 71) hx hb dX12_tells_71 ?_
    refine g_cVv (pc := 72) C hM hl.1 yv_X12_puts q8_3 (by decide) ce_87 rfl (w_X12_puts l G x (97 + r68) s68 _ h) rfl rfl ⟨⟨by decide, by decide⟩, by decide, by decide⟩ (Nat.le_of_ble_eq_true rfl) dX12_tells_72 (fun s72 H locs h hM => ?_)
    refine lv_aload_n (pc := 75) hx hb dX12_tells_75 rfl (lv_at hl 0 rfl) ?_
    refine lv_iload_n (pc := 76) hx hb dX12_tells_76 rfl (lv_at hl 1 rfl) ?_
    refine lv_iload_n (pc := 77) hx hb dX12_tells_77 rfl (lv_at hl 2 rfl) ?_
    refine lv_iconst (pc := 78) (v := 1) hx hb dX12_tells_78 (by decide) ?_
    refine g_cVi (pc := 79) C hM hl.1 yv_X12_part q6_175 (by decide) ce_87 rfl (w_X12_part l G x a1 v2 1 s72 _ h) rfl rfl ⟨⟨by decide, by decide⟩, by decide, by decide⟩ (Nat.le_of_ble_eq_true rfl) dX12_tells_79 (fun r79 s79 H locs h hM => ?_)
    refine lv_iconst (pc := 82) (v := 4) hx hb dX12_tells_82 (by decide) ?_
    refine lv_icmp_ne (pc := 83) (tgt := 100) hx hb dX12_tells_83 (by decide) (fun c83 => ?_) (fun c83 => ?_)
    · have h := h.2 c83
      refine lv_aload_n (pc := 100) hx hb dX12_tells_100 rfl (lv_at hl 0 rfl) ?_
      refine lv_aload_n (pc := 101) hx hb dX12_tells_101 rfl (lv_at hl 0 rfl) ?_
      refine lv_iload_n (pc := 102) hx hb dX12_tells_102 rfl (lv_at hl 1 rfl) ?_
      refine lv_iload_n (pc := 103) hx hb dX12_tells_103 rfl (lv_at hl 2 rfl) ?_
      refine lv_iconst (pc := 104) (v := 1) hx hb dX12_tells_104 (by decide) ?_
      refine g_cVi (pc := 105) C hM hl.1 yv_X12_part q6_175 (by decide) ce_87 rfl (w_X12_part l G x a1 v2 1 s79 _ h) rfl rfl ⟨⟨by decide, by decide⟩, by decide, by decide⟩ (Nat.le_of_ble_eq_true rfl) dX12_tells_105 (fun r105 s105 H locs h hM => ?_)
      refine g_cSi (pc := 108) C hM hl.1 ys_X12_signOf q8_15 (w_X12_signOf l G x r105 s105 _ h) rfl rfl ⟨⟨by decide, by decide⟩, by decide, by decide⟩ (Nat.le_of_ble_eq_true rfl) dX12_tells_108 (fun r108 s108 H locs h hM => ?_)
      refine g_cVv (pc := 111) C hM hl.1 yv_X12_puts q8_3 (by decide) ce_87 rfl (w_X12_puts l G x r108 s108 _ h) rfl rfl ⟨⟨by decide, by decide⟩, by decide, by decide⟩ (Nat.le_of_ble_eq_true rfl) dX12_tells_111 (fun s111 H locs h hM => ?_)
      refine lv_aload_n (pc := 114) hx hb dX12_tells_114 rfl (lv_at hl 0 rfl) ?_
      refine lv_aload_n (pc := 115) hx hb dX12_tells_115 rfl (lv_at hl 0 rfl) ?_
      refine lv_iload_n (pc := 116) hx hb dX12_tells_116 rfl (lv_at hl 1 rfl) ?_
      refine lv_iload_n (pc := 117) hx hb dX12_tells_117 rfl (lv_at hl 2 rfl) ?_
      refine lv_iconst (pc := 118) (v := 2) hx hb dX12_tells_118 (by decide) ?_
      refine g_cVi (pc := 119) C hM hl.1 yv_X12_part q6_175 (by decide) ce_87 rfl (w_X12_part l G x a1 v2 2 s111 _ h) rfl rfl ⟨⟨by decide, by decide⟩, by decide, by decide⟩ (Nat.le_of_ble_eq_true rfl) dX12_tells_119 (fun r119 s119 H locs h hM => ?_)
      refine g_cVv (pc := 122) C hM hl.1 yv_X12_putsNumber q8_11 (by decide) ce_87 rfl (w_X12_putsNumber l G x r119 s119 _ h) rfl rfl ⟨⟨by decide, by decide⟩, by decide, by decide⟩ (Nat.le_of_ble_eq_true rfl) dX12_tells_122 (fun s122 H locs h hM => ?_)
      refine lv_iinc (pc := 125) (v := (v2 + 1)) (lv' := [(2, .int (v2 + 1)), (0, .ref (g_ad G 87)), (1, .int a1)]) hx hb dX12_tells_125 hl (k := 2) rfl (by rfl) (by decide) rfl (fun ls hl => ?_)
      refine lv_goto (pc := 128) (tgt := 41) hx hb dX12_tells_128 (by decide) ?_
      exact h _ _ _ hM (lv_sub hl [1, 2, 0] rfl)
    · have h := h.1 c83
      refine lv_aload_n (pc := 86) hx hb dX12_tells_86 rfl (lv_at hl 0 rfl) ?_
      refine lv_aload_n (pc := 87) hx hb dX12_tells_87 rfl (lv_at hl 0 rfl) ?_
      refine lv_iload_n (pc := 88) hx hb dX12_tells_88 rfl (lv_at hl 1 rfl) ?_
      refine lv_iload_n (pc := 89) hx hb dX12_tells_89 rfl (lv_at hl 2 rfl) ?_
      refine lv_iconst (pc := 90) (v := 2) hx hb dX12_tells_90 (by decide) ?_
      refine g_cVi (pc := 91) C hM hl.1 yv_X12_part q6_175 (by decide) ce_87 rfl (w_X12_part l G x a1 v2 2 s79 _ h) rfl rfl ⟨⟨by decide, by decide⟩, by decide, by decide⟩ (Nat.le_of_ble_eq_true rfl) dX12_tells_91 (fun r91 s91 H locs h hM => ?_)
      refine g_cVv (pc := 94) C hM hl.1 yv_X12_putsSet q8_7 (by decide) ce_87 rfl (w_X12_putsSet l G x r91 s91 _ h) rfl rfl ⟨⟨by decide, by decide⟩, by decide, by decide⟩ (Nat.le_of_ble_eq_true rfl) dX12_tells_94 (fun s94 H locs h hM => ?_)
      refine lv_goto (pc := 97) (tgt := 125) hx hb dX12_tells_97 (by decide) ?_
      refine lv_iinc (pc := 125) (v := (v2 + 1)) (lv' := [(2, .int (v2 + 1)), (0, .ref (g_ad G 87)), (1, .int a1)]) hx hb dX12_tells_125 hl (k := 2) rfl (by rfl) (by decide) rfl (fun ls hl => ?_)
      refine lv_goto (pc := 128) (tgt := 41) hx hb dX12_tells_128 (by decide) ?_
      exact h _ _ _ hM (lv_sub hl [1, 2, 0] rfl))
  refine lv_aload_n (pc := 0) hx hb dX12_tells_0 rfl (lv_at hl 0 rfl) ?_
  refine lv_iconst (pc := 1) (v := 0) hx hb dX12_tells_1 (by decide) ?_
  refine g_putE (pc := 2) C hM (by decide) ce_87 fp_RX12_273 rfl rfl (Nat.le_of_ble_eq_true rfl) rfl dX12_tells_2 (fun s2 es2 H locs hM => ?_)
  have h := h s2 es2
  refine lv_aload_n (pc := 5) hx hb dX12_tells_5 rfl (lv_at hl 0 rfl) ?_
  refine lv_bipush (pc := 6) (v := 48) hx hb dX12_tells_6 (by decide) ?_
  refine lv_aload_n (pc := 8) hx hb dX12_tells_8 rfl (lv_at hl 0 rfl) ?_
  refine lv_iload_n (pc := 9) hx hb dX12_tells_9 rfl (lv_at hl 1 rfl) ?_
  refine lv_iconst (pc := 10) (v := 0) hx hb dX12_tells_10 (by decide) ?_
  refine g_cVi (pc := 11) C hM hl.1 yv_X12_of q6_131 (by decide) ce_87 rfl (w_X12_of l G x a1 0 s2 _ h) rfl rfl ⟨⟨by decide, by decide⟩, by decide, by decide⟩ (Nat.le_of_ble_eq_true rfl) dX12_tells_11 (fun r11 s11 H locs h hM => ?_)
  refine lv_iadd (pc := 14) hx hb dX12_tells_14 ?_
  refine g_cVv (pc := 15) C hM hl.1 yv_X12_puts q8_3 (by decide) ce_87 rfl (w_X12_puts l G x (48 + r11) s11 _ h) rfl rfl ⟨⟨by decide, by decide⟩, by decide, by decide⟩ (Nat.le_of_ble_eq_true rfl) dX12_tells_15 (fun s15 H locs h hM => ?_)
  refine lv_aload_n (pc := 18) hx hb dX12_tells_18 rfl (lv_at hl 0 rfl) ?_
  refine lv_aload_n (pc := 19) hx hb dX12_tells_19 rfl (lv_at hl 0 rfl) ?_
  refine lv_iload_n (pc := 20) hx hb dX12_tells_20 rfl (lv_at hl 1 rfl) ?_
  refine lv_iconst (pc := 21) (v := 1) hx hb dX12_tells_21 (by decide) ?_
  refine g_cVi (pc := 22) C hM hl.1 yv_X12_of q6_131 (by decide) ce_87 rfl (w_X12_of l G x a1 1 s15 _ h) rfl rfl ⟨⟨by decide, by decide⟩, by decide, by decide⟩ (Nat.le_of_ble_eq_true rfl) dX12_tells_22 (fun r22 s22 H locs h hM => ?_)
  refine lv_iconst (pc := 25) (v := 1) hx hb dX12_tells_25 (by decide) ?_
  refine lv_icmp_ne (pc := 26) (tgt := 34) hx hb dX12_tells_26 (by decide) (fun c26 => ?_) (fun c26 => ?_)
  · have h := h.2 c26
    refine lv_bipush (pc := 34) (v := 43) hx hb dX12_tells_34 (by decide) ?_
    refine g_cVv (pc := 36) C hM hl.1 yv_X12_puts q8_3 (by decide) ce_87 rfl (w_X12_puts l G x 43 s22 _ h) rfl rfl ⟨⟨by decide, by decide⟩, by decide, by decide⟩ (Nat.le_of_ble_eq_true rfl) dX12_tells_36 (fun s36 H locs h hM => ?_)
    refine lv_iconst (pc := 39) (v := 0) hx hb dX12_tells_39 (by decide) ?_
    refine lv_istore_n (pc := 40) (lv' := [(2, .int 0), (0, .ref (g_ad G 87)), (1, .int a1)]) hx hb dX12_tells_40 rfl hl (by decide) rfl (fun ls hl => ?_)
    exact h _ _ _ hM (lv_sub hl [1, 2, 0] rfl)
  · have h := h.1 c26
    refine lv_bipush (pc := 29) (v := 45) hx hb dX12_tells_29 (by decide) ?_
    refine lv_goto (pc := 31) (tgt := 36) hx hb dX12_tells_31 (by decide) ?_
    refine g_cVv (pc := 36) C hM hl.1 yv_X12_puts q8_3 (by decide) ce_87 rfl (w_X12_puts l G x 45 s22 _ h) rfl rfl ⟨⟨by decide, by decide⟩, by decide, by decide⟩ (Nat.le_of_ble_eq_true rfl) dX12_tells_36 (fun s36 H locs h hM => ?_)
    refine lv_iconst (pc := 39) (v := 0) hx hb dX12_tells_39 (by decide) ?_
    refine lv_istore_n (pc := 40) (lv' := [(2, .int 0), (0, .ref (g_ad G 87)), (1, .int a1)]) hx hb dX12_tells_40 rfl hl (by decide) rfl (fun ls hl => ?_)
    exact h _ _ _ hM (lv_sub hl [1, 2, 0] rfl)
abbrev rm_X12_describe : Room := { frames := 4, cells := 0, slots := 0, locals := 87 }
theorem dX12_describe_0 : decode cX12_describe 0 = .ok (.aload_n 0, 1) := by decide +kernel
theorem dX12_describe_1 : decode cX12_describe 1 = .ok (.iconst 0, 1) := by decide +kernel
theorem dX12_describe_2 : decode cX12_describe 2 = .ok (.putfield 68, 3) := by decide +kernel
theorem dX12_describe_5 : decode cX12_describe 5 = .ok (.aload_n 0, 1) := by decide +kernel
theorem dX12_describe_6 : decode cX12_describe 6 = .ok (.iload_n 1, 1) := by decide +kernel
theorem dX12_describe_7 : decode cX12_describe 7 = .ok (.invokevirtual 105, 3) := by decide +kernel
theorem dX12_describe_10 : decode cX12_describe 10 = .ok (.ifCond .ne 9, 3) := by decide +kernel
theorem dX12_describe_13 : decode cX12_describe 13 = .ok (.aload_n 0, 1) := by decide +kernel
theorem dX12_describe_14 : decode cX12_describe 14 = .ok (.iconst 1, 1) := by decide +kernel
theorem dX12_describe_15 : decode cX12_describe 15 = .ok (.invokevirtual 78, 3) := by decide +kernel
theorem dX12_describe_18 : decode cX12_describe 18 = .ok (.ireturn, 1) := by decide +kernel
theorem dX12_describe_19 : decode cX12_describe 19 = .ok (.aload_n 0, 1) := by decide +kernel
theorem dX12_describe_20 : decode cX12_describe 20 = .ok (.iload_n 1, 1) := by decide +kernel
theorem dX12_describe_21 : decode cX12_describe 21 = .ok (.invokevirtual 288, 3) := by decide +kernel
theorem dX12_describe_24 : decode cX12_describe 24 = .ok (.iload_n 2, 1) := by decide +kernel
theorem dX12_describe_25 : decode cX12_describe 25 = .ok (.iconst (-1), 1) := by decide +kernel
theorem dX12_describe_26 : decode cX12_describe 26 = .ok (.if_icmp .ne 8, 3) := by decide +kernel
theorem dX12_describe_29 : decode cX12_describe 29 = .ok (.aload_n 0, 1) := by decide +kernel
theorem dX12_describe_30 : decode cX12_describe 30 = .ok (.getfield 273, 3) := by decide +kernel
theorem dX12_describe_33 : decode cX12_describe 33 = .ok (.ireturn, 1) := by decide +kernel
theorem dX12_describe_34 : decode cX12_describe 34 = .ok (.iload_n 2, 1) := by decide +kernel
theorem dX12_describe_35 : decode cX12_describe 35 = .ok (.iconst 0, 1) := by decide +kernel
theorem dX12_describe_36 : decode cX12_describe 36 = .ok (.aload_n 0, 1) := by decide +kernel
theorem dX12_describe_37 : decode cX12_describe 37 = .ok (.getfield 273, 3) := by decide +kernel
theorem dX12_describe_40 : decode cX12_describe 40 = .ok (.iconst 1, 1) := by decide +kernel
theorem dX12_describe_41 : decode cX12_describe 41 = .ok (.isub, 1) := by decide +kernel
theorem dX12_describe_42 : decode cX12_describe 42 = .ok (.invokestatic 71, 3) := by decide +kernel
theorem dX12_describe_45 : decode cX12_describe 45 = .ok (.ifCond .eq 12, 3) := by decide +kernel
theorem dX12_describe_48 : decode cX12_describe 48 = .ok (.aload_n 0, 1) := by decide +kernel
theorem dX12_describe_49 : decode cX12_describe 49 = .ok (.getfield 65, 3) := by decide +kernel
theorem dX12_describe_52 : decode cX12_describe 52 = .ok (.iload_n 2, 1) := by decide +kernel
theorem dX12_describe_53 : decode cX12_describe 53 = .ok (.iaload, 1) := by decide +kernel
theorem dX12_describe_54 : decode cX12_describe 54 = .ok (.goto 8, 3) := by decide +kernel
theorem dX12_describe_57 : decode cX12_describe 57 = .ok (.aload_n 0, 1) := by decide +kernel
theorem dX12_describe_58 : decode cX12_describe 58 = .ok (.iconst 2, 1) := by decide +kernel
theorem dX12_describe_59 : decode cX12_describe 59 = .ok (.invokevirtual 78, 3) := by decide +kernel
theorem dX12_describe_62 : decode cX12_describe 62 = .ok (.ireturn, 1) := by decide +kernel
set_option maxHeartbeats 4000000 in
set_option maxRecDepth 100000 in
theorem w_X12_describe (l : Launch) (G : GP) (x : XP) (a1 : Int32) (a2 : Int32) (σ : Sto) (P : Int32 → Sto → Prop) (h : D_X12_describe a1 a2 σ P) : g_Meti l yX12_describe cX12_describe 3 (some .int) rm_X12_describe G x [.ref (g_ad G 87), .int a1, .int a2] σ P := by
  unfold D_X12_describe at h
  refine g_ofWi (by decide +kernel) (Nat.le_of_ble_eq_true rfl) ?_
  intro p e s m args below meth c Q ls C hM hl hret
  have hx := C.1
  have hb := C.2.1
  have hl : lv_has ls 3 [(0, .ref (g_ad G 87)), (1, .int a1), (2, .int a2)] := hl
  refine lv_aload_n (pc := 0) hx hb dX12_describe_0 rfl (lv_at hl 0 rfl) ?_
  refine lv_iconst (pc := 1) (v := 0) hx hb dX12_describe_1 (by decide) ?_
  refine g_putE (pc := 2) C hM (by decide) ce_87 fp_RX12_68 rfl rfl (Nat.le_of_ble_eq_true rfl) rfl dX12_describe_2 (fun s2 es2 H locs hM => ?_)
  have h := h s2 es2
  refine lv_aload_n (pc := 5) hx hb dX12_describe_5 rfl (lv_at hl 0 rfl) ?_
  refine lv_iload_n (pc := 6) hx hb dX12_describe_6 rfl (lv_at hl 1 rfl) ?_
  refine g_cVi (pc := 7) C hM hl.1 yv_X12_isRule q6_127 (by decide) ce_87 rfl (w_X12_isRule l G x a1 s2 _ h) rfl rfl ⟨⟨by decide, by decide⟩, by decide, by decide⟩ (Nat.le_of_ble_eq_true rfl) dX12_describe_7 (fun r7 s7 H locs h hM => ?_)
  refine lv_if_ne (pc := 10) (tgt := 19) hx hb dX12_describe_10 (by decide) (fun c10 => ?_) (fun c10 => ?_)
  · have h := h.2 c10
    refine lv_aload_n (pc := 19) hx hb dX12_describe_19 rfl (lv_at hl 0 rfl) ?_
    refine lv_iload_n (pc := 20) hx hb dX12_describe_20 rfl (lv_at hl 1 rfl) ?_
    refine g_cVv (pc := 21) C hM hl.1 yv_X12_tells q7_239 (by decide) ce_87 rfl (w_X12_tells l G x a1 s7 _ h) rfl rfl ⟨⟨by decide, by decide⟩, by decide, by decide⟩ (Nat.le_of_ble_eq_true rfl) dX12_describe_21 (fun s21 H locs h hM => ?_)
    refine lv_iload_n (pc := 24) hx hb dX12_describe_24 rfl (lv_at hl 2 rfl) ?_
    refine lv_iconst (pc := 25) (v := (-1)) hx hb dX12_describe_25 (by decide) ?_
    refine lv_icmp_ne (pc := 26) (tgt := 34) hx hb dX12_describe_26 (by decide) (fun c26 => ?_) (fun c26 => ?_)
    · have h := h.2 c26
      refine lv_iload_n (pc := 34) hx hb dX12_describe_34 rfl (lv_at hl 2 rfl) ?_
      refine lv_iconst (pc := 35) (v := 0) hx hb dX12_describe_35 (by decide) ?_
      refine lv_aload_n (pc := 36) hx hb dX12_describe_36 rfl (lv_at hl 0 rfl) ?_
      refine g_get (pc := 37) (v := .int (s21 87 31)) C hM (by decide) ce_87 fl_RX12_273 rfl dX12_describe_37 ?_
      refine lv_iconst (pc := 40) (v := 1) hx hb dX12_describe_40 (by decide) ?_
      refine lv_isub (pc := 41) hx hb dX12_describe_41 ?_
      refine g_cSi (pc := 42) C hM hl.1 ys_X12_in q6_108 (w_X12_in l G x a2 0 ((s21 87 31) - 1) s21 _ h) rfl rfl ⟨⟨by decide, by decide⟩, by decide, by decide⟩ (Nat.le_of_ble_eq_true rfl) dX12_describe_42 (fun r42 s42 H locs h hM => ?_)
      refine lv_if_eq (pc := 45) (tgt := 57) hx hb dX12_describe_45 (by decide) (fun c45 => ?_) (fun c45 => ?_)
      · have h := h.1 c45
        refine lv_aload_n (pc := 57) hx hb dX12_describe_57 rfl (lv_at hl 0 rfl) ?_
        refine lv_iconst (pc := 58) (v := 2) hx hb dX12_describe_58 (by decide) ?_
        refine g_cVi (pc := 59) C hM hl.1 yv_X12_fails q6_89 (by decide) ce_87 rfl (w_X12_fails l G x 2 s42 _ h) rfl rfl ⟨⟨by decide, by decide⟩, by decide, by decide⟩ (Nat.le_of_ble_eq_true rfl) dX12_describe_59 (fun r59 s59 H locs h hM => ?_)
        exact hret 62 _ _ _ _ _ dX12_describe_62 (by rfl) h hM
      · have h := h.2 c45
        refine lv_aload_n (pc := 48) hx hb dX12_describe_48 rfl (lv_at hl 0 rfl) ?_
        refine g_get (pc := 49) (v := .ref (g_ad G 105)) C hM (by decide) ce_87 fl_RX12_65 rfl dX12_describe_49 ?_
        refine lv_iload_n (pc := 52) hx hb dX12_describe_52 rfl (lv_at hl 2 rfl) ?_
        obtain ⟨hc, h⟩ := h
        refine g_ialdK (pc := 53) C hM (by decide) ce_105 hc rfl dX12_describe_53 ?_
        refine lv_goto (pc := 54) (tgt := 62) hx hb dX12_describe_54 (by decide) ?_
        exact hret 62 _ _ _ _ _ dX12_describe_62 (by rfl) h hM
    · have h := h.1 c26
      refine lv_aload_n (pc := 29) hx hb dX12_describe_29 rfl (lv_at hl 0 rfl) ?_
      refine g_get (pc := 30) (v := .int (s21 87 31)) C hM (by decide) ce_87 fl_RX12_273 rfl dX12_describe_30 ?_
      exact hret 33 _ _ _ _ _ dX12_describe_33 (by rfl) h hM
  · have h := h.1 c10
    refine lv_aload_n (pc := 13) hx hb dX12_describe_13 rfl (lv_at hl 0 rfl) ?_
    refine lv_iconst (pc := 14) (v := 1) hx hb dX12_describe_14 (by decide) ?_
    refine g_cVi (pc := 15) C hM hl.1 yv_X12_fails q6_89 (by decide) ce_87 rfl (w_X12_fails l G x 1 s7 _ h) rfl rfl ⟨⟨by decide, by decide⟩, by decide, by decide⟩ (Nat.le_of_ble_eq_true rfl) dX12_describe_15 (fun r15 s15 H locs h hM => ?_)
    exact hret 18 _ _ _ _ _ dX12_describe_18 (by rfl) h hM
