abbrev rm_X12_revoke : Room := { frames := 2, cells := 0, slots := 0, locals := 46 }
theorem dX12_revoke_0 : decode cX12_revoke 0 = .ok (.aload_n 0, 1) := by decide +kernel
theorem dX12_revoke_1 : decode cX12_revoke 1 = .ok (.iload_n 1, 1) := by decide +kernel
theorem dX12_revoke_2 : decode cX12_revoke 2 = .ok (.iload_n 2, 1) := by decide +kernel
theorem dX12_revoke_3 : decode cX12_revoke 3 = .ok (.iload_n 3, 1) := by decide +kernel
theorem dX12_revoke_4 : decode cX12_revoke 4 = .ok (.invokevirtual 143, 3) := by decide +kernel
theorem dX12_revoke_7 : decode cX12_revoke 7 = .ok (.istore 4, 2) := by decide +kernel
theorem dX12_revoke_9 : decode cX12_revoke 9 = .ok (.aload_n 0, 1) := by decide +kernel
theorem dX12_revoke_10 : decode cX12_revoke 10 = .ok (.iload_n 1, 1) := by decide +kernel
theorem dX12_revoke_11 : decode cX12_revoke 11 = .ok (.invokestatic 146, 3) := by decide +kernel
theorem dX12_revoke_14 : decode cX12_revoke 14 = .ok (.ifCond .eq 17, 3) := by decide +kernel
theorem dX12_revoke_17 : decode cX12_revoke 17 = .ok (.iload_n 2, 1) := by decide +kernel
theorem dX12_revoke_18 : decode cX12_revoke 18 = .ok (.invokestatic 146, 3) := by decide +kernel
theorem dX12_revoke_21 : decode cX12_revoke 21 = .ok (.ifCond .eq 10, 3) := by decide +kernel
theorem dX12_revoke_24 : decode cX12_revoke 24 = .ok (.iload_n 3, 1) := by decide +kernel
theorem dX12_revoke_25 : decode cX12_revoke 25 = .ok (.invokestatic 86, 3) := by decide +kernel
theorem dX12_revoke_28 : decode cX12_revoke 28 = .ok (.ifCond .ne 7, 3) := by decide +kernel
theorem dX12_revoke_31 : decode cX12_revoke 31 = .ok (.iconst 1, 1) := by decide +kernel
theorem dX12_revoke_32 : decode cX12_revoke 32 = .ok (.goto 13, 3) := by decide +kernel
theorem dX12_revoke_35 : decode cX12_revoke 35 = .ok (.iload 4, 2) := by decide +kernel
theorem dX12_revoke_37 : decode cX12_revoke 37 = .ok (.ifCond .ge 7, 3) := by decide +kernel
theorem dX12_revoke_40 : decode cX12_revoke 40 = .ok (.iconst 2, 1) := by decide +kernel
theorem dX12_revoke_41 : decode cX12_revoke 41 = .ok (.goto 4, 3) := by decide +kernel
theorem dX12_revoke_44 : decode cX12_revoke 44 = .ok (.iconst 0, 1) := by decide +kernel
theorem dX12_revoke_45 : decode cX12_revoke 45 = .ok (.putfield 68, 3) := by decide +kernel
theorem dX12_revoke_48 : decode cX12_revoke 48 = .ok (.aload_n 0, 1) := by decide +kernel
theorem dX12_revoke_49 : decode cX12_revoke 49 = .ok (.getfield 68, 3) := by decide +kernel
theorem dX12_revoke_52 : decode cX12_revoke 52 = .ok (.ifCond .le 5, 3) := by decide +kernel
theorem dX12_revoke_55 : decode cX12_revoke 55 = .ok (.iconst 0, 1) := by decide +kernel
theorem dX12_revoke_56 : decode cX12_revoke 56 = .ok (.ireturn, 1) := by decide +kernel
theorem dX12_revoke_57 : decode cX12_revoke 57 = .ok (.aload_n 0, 1) := by decide +kernel
theorem dX12_revoke_58 : decode cX12_revoke 58 = .ok (.invokevirtual 90, 3) := by decide +kernel
theorem dX12_revoke_61 : decode cX12_revoke 61 = .ok (.aload_n 0, 1) := by decide +kernel
theorem dX12_revoke_62 : decode cX12_revoke 62 = .ok (.getfield 7, 3) := by decide +kernel
theorem dX12_revoke_65 : decode cX12_revoke 65 = .ok (.bipush 6, 2) := by decide +kernel
theorem dX12_revoke_67 : decode cX12_revoke 67 = .ok (.dup2, 1) := by decide +kernel
theorem dX12_revoke_68 : decode cX12_revoke 68 = .ok (.iaload, 1) := by decide +kernel
theorem dX12_revoke_69 : decode cX12_revoke 69 = .ok (.iconst 1, 1) := by decide +kernel
theorem dX12_revoke_70 : decode cX12_revoke 70 = .ok (.isub, 1) := by decide +kernel
theorem dX12_revoke_71 : decode cX12_revoke 71 = .ok (.iastore, 1) := by decide +kernel
theorem dX12_revoke_72 : decode cX12_revoke 72 = .ok (.sipush 400, 3) := by decide +kernel
theorem dX12_revoke_75 : decode cX12_revoke 75 = .ok (.iconst 5, 1) := by decide +kernel
theorem dX12_revoke_76 : decode cX12_revoke 76 = .ok (.iload 4, 2) := by decide +kernel
theorem dX12_revoke_78 : decode cX12_revoke 78 = .ok (.imul, 1) := by decide +kernel
theorem dX12_revoke_79 : decode cX12_revoke 79 = .ok (.iadd, 1) := by decide +kernel
theorem dX12_revoke_80 : decode cX12_revoke 80 = .ok (.istore 5, 2) := by decide +kernel
theorem dX12_revoke_82 : decode cX12_revoke 82 = .ok (.iload 5, 2) := by decide +kernel
theorem dX12_revoke_84 : decode cX12_revoke 84 = .ok (.sipush 400, 3) := by decide +kernel
theorem dX12_revoke_87 : decode cX12_revoke 87 = .ok (.iconst 5, 1) := by decide +kernel
theorem dX12_revoke_88 : decode cX12_revoke 88 = .ok (.aload_n 0, 1) := by decide +kernel
theorem dX12_revoke_89 : decode cX12_revoke 89 = .ok (.getfield 7, 3) := by decide +kernel
theorem dX12_revoke_92 : decode cX12_revoke 92 = .ok (.bipush 6, 2) := by decide +kernel
theorem dX12_revoke_94 : decode cX12_revoke 94 = .ok (.iaload, 1) := by decide +kernel
theorem dX12_revoke_95 : decode cX12_revoke 95 = .ok (.imul, 1) := by decide +kernel
theorem dX12_revoke_96 : decode cX12_revoke 96 = .ok (.iadd, 1) := by decide +kernel
theorem dX12_revoke_97 : decode cX12_revoke 97 = .ok (.if_icmp .ge 25, 3) := by decide +kernel
theorem dX12_revoke_100 : decode cX12_revoke 100 = .ok (.aload_n 0, 1) := by decide +kernel
theorem dX12_revoke_101 : decode cX12_revoke 101 = .ok (.getfield 7, 3) := by decide +kernel
theorem dX12_revoke_104 : decode cX12_revoke 104 = .ok (.iload 5, 2) := by decide +kernel
theorem dX12_revoke_106 : decode cX12_revoke 106 = .ok (.aload_n 0, 1) := by decide +kernel
theorem dX12_revoke_107 : decode cX12_revoke 107 = .ok (.getfield 7, 3) := by decide +kernel
theorem dX12_revoke_110 : decode cX12_revoke 110 = .ok (.iload 5, 2) := by decide +kernel
theorem dX12_revoke_112 : decode cX12_revoke 112 = .ok (.iconst 5, 1) := by decide +kernel
theorem dX12_revoke_113 : decode cX12_revoke 113 = .ok (.iadd, 1) := by decide +kernel
theorem dX12_revoke_114 : decode cX12_revoke 114 = .ok (.iaload, 1) := by decide +kernel
theorem dX12_revoke_115 : decode cX12_revoke 115 = .ok (.iastore, 1) := by decide +kernel
theorem dX12_revoke_116 : decode cX12_revoke 116 = .ok (.iinc 5 1, 3) := by decide +kernel
theorem dX12_revoke_119 : decode cX12_revoke 119 = .ok (.goto (-37), 3) := by decide +kernel
theorem dX12_revoke_122 : decode cX12_revoke 122 = .ok (.aload_n 0, 1) := by decide +kernel
theorem dX12_revoke_123 : decode cX12_revoke 123 = .ok (.getfield 7, 3) := by decide +kernel
theorem dX12_revoke_126 : decode cX12_revoke 126 = .ok (.bipush 6, 2) := by decide +kernel
theorem dX12_revoke_128 : decode cX12_revoke 128 = .ok (.iaload, 1) := by decide +kernel
theorem dX12_revoke_129 : decode cX12_revoke 129 = .ok (.ireturn, 1) := by decide +kernel
set_option maxHeartbeats 4000000 in
set_option maxRecDepth 100000 in
theorem w_X12_revoke (l : Launch) (G : GP) (x : XP) (a1 : Int32) (a2 : Int32) (a3 : Int32) (σ : Sto) (P : Int32 → Sto → Prop) (h : D_X12_revoke a1 a2 a3 σ P) : g_Meti l yX12_revoke cX12_revoke 6 (some .int) rm_X12_revoke G x [.ref (g_ad G 87), .int a1, .int a2, .int a3] σ P := by
  unfold D_X12_revoke at h
  refine g_ofWi (by decide +kernel) (Nat.le_of_ble_eq_true rfl) ?_
  intro p e s m args below meth c Q ls C hM hl hret
  have hx := C.1
  have hb := C.2.1
  have hl : lv_has ls 6 [(0, .ref (g_ad G 87)), (1, .int a1), (2, .int a2), (3, .int a3)] := hl
  have h := h (fun (v4 : Int32) (t0 : Int32) (σ : Sto) => ∀ (H : Heap) (locs : List Loc) (ls : Array Slot), g_M G x σ s H locs → lv_has ls 6 [(0, .ref (g_ad G 87)), (4, .int v4)] → W p l e rm_X12_revoke s m args below meth c H locs 0 0 Q (F0 m 45 ls [.int t0, .ref (g_ad G 87)])) (fun (v5 : Int32) (σ : Sto) => ∀ (H : Heap) (locs : List Loc) (ls : Array Slot), g_M G x σ s H locs → lv_has ls 6 [(0, .ref (g_ad G 87)), (5, .int v5)] → W p l e rm_X12_revoke s m args below meth c H locs 0 0 Q (F0 m 82 ls []))
  have h := h (by
    intro v4 t0 σ h  H locs ls hM hl
    refine g_putE (pc := 45) C hM (by decide) ce_87 fp_RX12_68 rfl rfl (Nat.le_of_ble_eq_true rfl) rfl dX12_revoke_45 (fun s45 es45 H locs hM => ?_)
    have h := h s45 es45
    refine lv_aload_n (pc := 48) hx hb dX12_revoke_48 rfl (lv_at hl 0 rfl) ?_
    refine g_get (pc := 49) (v := .int (s45 87 8)) C hM (by decide) ce_87 fl_RX12_68 rfl dX12_revoke_49 ?_
    refine lv_if_le (pc := 52) (tgt := 57) hx hb dX12_revoke_52 (by decide) (fun c52 => ?_) (fun c52 => ?_)
    · have h := h.1 c52
      refine lv_aload_n (pc := 57) hx hb dX12_revoke_57 rfl (lv_at hl 0 rfl) ?_
      refine g_cVv (pc := 58) C hM hl.1 yv_X12_changes q6_111 (by decide) ce_87 rfl (w_X12_changes l G x  s45 _ h) rfl rfl ⟨⟨by decide, by decide⟩, by decide, by decide⟩ (Nat.le_of_ble_eq_true rfl) dX12_revoke_58 (fun s58 H locs h hM => ?_)
      refine lv_aload_n (pc := 61) hx hb dX12_revoke_61 rfl (lv_at hl 0 rfl) ?_
      refine g_get (pc := 62) (v := .ref (g_ad G 88)) C hM (by decide) ce_87 fl_RX12_7 rfl dX12_revoke_62 ?_
      refine lv_bipush (pc := 65) (v := 6) hx hb dX12_revoke_65 (by decide) ?_
      refine lv_dup2_11 (pc := 67) hx hb dX12_revoke_67 rfl rfl ?_
      refine g_ialdK (pc := 68) (k := 6) C hM (by decide) ce_88 (vp_in_nI (n := 6) (by decide) (by decide)) rfl dX12_revoke_68 ?_
      refine lv_iconst (pc := 69) (v := 1) hx hb dX12_revoke_69 (by decide) ?_
      refine lv_isub (pc := 70) hx hb dX12_revoke_70 ?_
      refine g_iastE (pc := 71) (k := 6) C hM (by decide) ce_88 (vp_in_nI (n := 6) (by decide) (by decide)) rfl dX12_revoke_71 (fun s71 es71 H locs hM => ?_)
      have h := h s71 es71
      refine lv_sipush (pc := 72) (v := 400) hx hb dX12_revoke_72 (by decide) ?_
      refine lv_iconst (pc := 75) (v := 5) hx hb dX12_revoke_75 (by decide) ?_
      refine lv_iload (pc := 76) hx hb dX12_revoke_76 (lv_at hl 1 rfl) ?_
      refine lv_imul (pc := 78) hx hb dX12_revoke_78 ?_
      refine lv_iadd (pc := 79) hx hb dX12_revoke_79 ?_
      refine lv_istore (pc := 80) (lv' := [(5, .int (400 + (5 * v4))), (0, .ref (g_ad G 87)), (4, .int v4)]) hx hb dX12_revoke_80 hl (by decide) rfl (fun ls hl => ?_)
      exact h _ _ _ hM (lv_sub hl [1, 0] rfl)
    · have h := h.2 c52
      refine lv_iconst (pc := 55) (v := 0) hx hb dX12_revoke_55 (by decide) ?_
      exact hret 56 _ _ _ _ _ dX12_revoke_56 (by rfl) h hM)
  have h := h (by
    intro v5 σ h  H locs ls hM hl
    refine lv_iload (pc := 82) hx hb dX12_revoke_82 (lv_at hl 1 rfl) ?_
    refine lv_sipush (pc := 84) (v := 400) hx hb dX12_revoke_84 (by decide) ?_
    refine lv_iconst (pc := 87) (v := 5) hx hb dX12_revoke_87 (by decide) ?_
    refine lv_aload_n (pc := 88) hx hb dX12_revoke_88 rfl (lv_at hl 0 rfl) ?_
    refine g_get (pc := 89) (v := .ref (g_ad G 88)) C hM (by decide) ce_87 fl_RX12_7 rfl dX12_revoke_89 ?_
    refine lv_bipush (pc := 92) (v := 6) hx hb dX12_revoke_92 (by decide) ?_
    refine g_ialdK (pc := 94) (k := 6) C hM (by decide) ce_88 (vp_in_nI (n := 6) (by decide) (by decide)) rfl dX12_revoke_94 ?_
    refine lv_imul (pc := 95) hx hb dX12_revoke_95 ?_
    refine lv_iadd (pc := 96) hx hb dX12_revoke_96 ?_
    refine lv_icmp_ge (pc := 97) (tgt := 122) hx hb dX12_revoke_97 (by decide) (fun c97 => ?_) (fun c97 => ?_)
    · have h := h.1 c97
      refine lv_aload_n (pc := 122) hx hb dX12_revoke_122 rfl (lv_at hl 0 rfl) ?_
      refine g_get (pc := 123) (v := .ref (g_ad G 88)) C hM (by decide) ce_87 fl_RX12_7 rfl dX12_revoke_123 ?_
      refine lv_bipush (pc := 126) (v := 6) hx hb dX12_revoke_126 (by decide) ?_
      refine g_ialdK (pc := 128) (k := 6) C hM (by decide) ce_88 (vp_in_nI (n := 6) (by decide) (by decide)) rfl dX12_revoke_128 ?_
      exact hret 129 _ _ _ _ _ dX12_revoke_129 (by rfl) h hM
    · have h := h.2 c97
      refine lv_aload_n (pc := 100) hx hb dX12_revoke_100 rfl (lv_at hl 0 rfl) ?_
      refine g_get (pc := 101) (v := .ref (g_ad G 88)) C hM (by decide) ce_87 fl_RX12_7 rfl dX12_revoke_101 ?_
      refine lv_iload (pc := 104) hx hb dX12_revoke_104 (lv_at hl 1 rfl) ?_
      refine lv_aload_n (pc := 106) hx hb dX12_revoke_106 rfl (lv_at hl 0 rfl) ?_
      refine g_get (pc := 107) (v := .ref (g_ad G 88)) C hM (by decide) ce_87 fl_RX12_7 rfl dX12_revoke_107 ?_
      refine lv_iload (pc := 110) hx hb dX12_revoke_110 (lv_at hl 1 rfl) ?_
      refine lv_iconst (pc := 112) (v := 5) hx hb dX12_revoke_112 (by decide) ?_
      refine lv_iadd (pc := 113) hx hb dX12_revoke_113 ?_
      obtain ⟨hc, h⟩ := h
      refine g_ialdK (pc := 114) C hM (by decide) ce_88 hc rfl dX12_revoke_114 ?_
      obtain ⟨hc, h⟩ := h
      refine g_iastE (pc := 115) C hM (by decide) ce_88 hc rfl dX12_revoke_115 (fun s115 es115 H locs hM => ?_)
      have h := h s115 es115
      refine lv_iinc (pc := 116) (v := (v5 + 1)) (lv' := [(5, .int (v5 + 1)), (0, .ref (g_ad G 87))]) hx hb dX12_revoke_116 hl (k := 1) rfl (by rfl) (by decide) rfl (fun ls hl => ?_)
      refine lv_goto (pc := 119) (tgt := 82) hx hb dX12_revoke_119 (by decide) ?_
      exact h _ _ _ hM (lv_sub hl [1, 0] rfl))
  refine lv_aload_n (pc := 0) hx hb dX12_revoke_0 rfl (lv_at hl 0 rfl) ?_
  refine lv_iload_n (pc := 1) hx hb dX12_revoke_1 rfl (lv_at hl 1 rfl) ?_
  refine lv_iload_n (pc := 2) hx hb dX12_revoke_2 rfl (lv_at hl 2 rfl) ?_
  refine lv_iload_n (pc := 3) hx hb dX12_revoke_3 rfl (lv_at hl 3 rfl) ?_
  refine g_cVi (pc := 4) C hM hl.1 yv_X12_grantWith q6_205 (by decide) ce_87 rfl (w_X12_grantWith l G x a1 a2 a3 σ _ h) rfl rfl ⟨⟨by decide, by decide⟩, by decide, by decide⟩ (Nat.le_of_ble_eq_true rfl) dX12_revoke_4 (fun r4 s4 H locs h hM => ?_)
  refine lv_istore (pc := 7) (lv' := [(4, .int r4), (0, .ref (g_ad G 87)), (1, .int a1), (2, .int a2), (3, .int a3)]) hx hb dX12_revoke_7 hl (by decide) rfl (fun ls hl => ?_)
  refine lv_aload_n (pc := 9) hx hb dX12_revoke_9 rfl (lv_at hl 1 rfl) ?_
  refine lv_iload_n (pc := 10) hx hb dX12_revoke_10 rfl (lv_at hl 2 rfl) ?_
  refine g_cSi (pc := 11) C hM hl.1 ys_X12_isSubject q6_213 (w_X12_isSubject l G x a1 s4 _ h) rfl rfl ⟨⟨by decide, by decide⟩, by decide, by decide⟩ (Nat.le_of_ble_eq_true rfl) dX12_revoke_11 (fun r11 s11 H locs h hM => ?_)
  refine lv_if_eq (pc := 14) (tgt := 31) hx hb dX12_revoke_14 (by decide) (fun c14 => ?_) (fun c14 => ?_)
  · have h := h.1 c14
    refine lv_iconst (pc := 31) (v := 1) hx hb dX12_revoke_31 (by decide) ?_
    refine lv_goto (pc := 32) (tgt := 45) hx hb dX12_revoke_32 (by decide) ?_
    exact h _ _ _ hM (lv_sub hl [1, 0] rfl)
  · have h := h.2 c14
    refine lv_iload_n (pc := 17) hx hb dX12_revoke_17 rfl (lv_at hl 3 rfl) ?_
    refine g_cSi (pc := 18) C hM hl.1 ys_X12_isSubject q6_213 (w_X12_isSubject l G x a2 s11 _ h) rfl rfl ⟨⟨by decide, by decide⟩, by decide, by decide⟩ (Nat.le_of_ble_eq_true rfl) dX12_revoke_18 (fun r18 s18 H locs h hM => ?_)
    refine lv_if_eq (pc := 21) (tgt := 31) hx hb dX12_revoke_21 (by decide) (fun c21 => ?_) (fun c21 => ?_)
    · have h := h.1 c21
      refine lv_iconst (pc := 31) (v := 1) hx hb dX12_revoke_31 (by decide) ?_
      refine lv_goto (pc := 32) (tgt := 45) hx hb dX12_revoke_32 (by decide) ?_
      exact h _ _ _ hM (lv_sub hl [1, 0] rfl)
    · have h := h.2 c21
      refine lv_iload_n (pc := 24) hx hb dX12_revoke_24 rfl (lv_at hl 4 rfl) ?_
      refine g_cSi (pc := 25) C hM hl.1 ys_X12_isPolicy q6_105 (w_X12_isPolicy l G x a3 s18 _ h) rfl rfl ⟨⟨by decide, by decide⟩, by decide, by decide⟩ (Nat.le_of_ble_eq_true rfl) dX12_revoke_25 (fun r25 s25 H locs h hM => ?_)
      refine lv_if_ne (pc := 28) (tgt := 35) hx hb dX12_revoke_28 (by decide) (fun c28 => ?_) (fun c28 => ?_)
      · have h := h.2 c28
        refine lv_iload (pc := 35) hx hb dX12_revoke_35 (lv_at hl 0 rfl) ?_
        refine lv_if_ge (pc := 37) (tgt := 44) hx hb dX12_revoke_37 (by decide) (fun c37 => ?_) (fun c37 => ?_)
        · have h := h.1 c37
          refine lv_iconst (pc := 44) (v := 0) hx hb dX12_revoke_44 (by decide) ?_
          exact h _ _ _ hM (lv_sub hl [1, 0] rfl)
        · have h := h.2 c37
          refine lv_iconst (pc := 40) (v := 2) hx hb dX12_revoke_40 (by decide) ?_
          refine lv_goto (pc := 41) (tgt := 45) hx hb dX12_revoke_41 (by decide) ?_
          exact h _ _ _ hM (lv_sub hl [1, 0] rfl)
      · have h := h.1 c28
        refine lv_iconst (pc := 31) (v := 1) hx hb dX12_revoke_31 (by decide) ?_
        refine lv_goto (pc := 32) (tgt := 45) hx hb dX12_revoke_32 (by decide) ?_
        exact h _ _ _ hM (lv_sub hl [1, 0] rfl)
abbrev rm_X12_validMany : Room := { frames := 1, cells := 0, slots := 0, locals := 22 }
theorem dX12_validMany_0 : decode cX12_validMany 0 = .ok (.iconst 0, 1) := by decide +kernel
theorem dX12_validMany_1 : decode cX12_validMany 1 = .ok (.istore_n 1, 1) := by decide +kernel
theorem dX12_validMany_2 : decode cX12_validMany 2 = .ok (.iconst 0, 1) := by decide +kernel
theorem dX12_validMany_3 : decode cX12_validMany 3 = .ok (.istore_n 2, 1) := by decide +kernel
theorem dX12_validMany_4 : decode cX12_validMany 4 = .ok (.iload_n 2, 1) := by decide +kernel
theorem dX12_validMany_5 : decode cX12_validMany 5 = .ok (.aload_n 0, 1) := by decide +kernel
theorem dX12_validMany_6 : decode cX12_validMany 6 = .ok (.getfield 7, 3) := by decide +kernel
theorem dX12_validMany_9 : decode cX12_validMany 9 = .ok (.bipush 6, 2) := by decide +kernel
theorem dX12_validMany_11 : decode cX12_validMany 11 = .ok (.iaload, 1) := by decide +kernel
theorem dX12_validMany_12 : decode cX12_validMany 12 = .ok (.if_icmp .ge 30, 3) := by decide +kernel
theorem dX12_validMany_15 : decode cX12_validMany 15 = .ok (.iload_n 1, 1) := by decide +kernel
theorem dX12_validMany_16 : decode cX12_validMany 16 = .ok (.aload_n 0, 1) := by decide +kernel
theorem dX12_validMany_17 : decode cX12_validMany 17 = .ok (.iload_n 2, 1) := by decide +kernel
theorem dX12_validMany_18 : decode cX12_validMany 18 = .ok (.iconst 4, 1) := by decide +kernel
theorem dX12_validMany_19 : decode cX12_validMany 19 = .ok (.invokevirtual 140, 3) := by decide +kernel
theorem dX12_validMany_22 : decode cX12_validMany 22 = .ok (.aload_n 0, 1) := by decide +kernel
theorem dX12_validMany_23 : decode cX12_validMany 23 = .ok (.getfield 149, 3) := by decide +kernel
theorem dX12_validMany_26 : decode cX12_validMany 26 = .ok (.if_icmp .lt 7, 3) := by decide +kernel
theorem dX12_validMany_29 : decode cX12_validMany 29 = .ok (.iconst 1, 1) := by decide +kernel
theorem dX12_validMany_30 : decode cX12_validMany 30 = .ok (.goto 4, 3) := by decide +kernel
theorem dX12_validMany_33 : decode cX12_validMany 33 = .ok (.iconst 0, 1) := by decide +kernel
theorem dX12_validMany_34 : decode cX12_validMany 34 = .ok (.iadd, 1) := by decide +kernel
theorem dX12_validMany_35 : decode cX12_validMany 35 = .ok (.istore_n 1, 1) := by decide +kernel
theorem dX12_validMany_36 : decode cX12_validMany 36 = .ok (.iinc 2 1, 3) := by decide +kernel
theorem dX12_validMany_39 : decode cX12_validMany 39 = .ok (.goto (-35), 3) := by decide +kernel
theorem dX12_validMany_42 : decode cX12_validMany 42 = .ok (.iload_n 1, 1) := by decide +kernel
theorem dX12_validMany_43 : decode cX12_validMany 43 = .ok (.ireturn, 1) := by decide +kernel
set_option maxHeartbeats 4000000 in
set_option maxRecDepth 100000 in
theorem w_X12_validMany (l : Launch) (G : GP) (x : XP) (σ : Sto) (P : Int32 → Sto → Prop) (h : D_X12_validMany  σ P) : g_Meti l yX12_validMany cX12_validMany 3 (some .int) rm_X12_validMany G x [.ref (g_ad G 87)] σ P := by
  unfold D_X12_validMany at h
  refine g_ofWi (by decide +kernel) (Nat.le_of_ble_eq_true rfl) ?_
  intro p e s m args below meth c Q ls C hM hl hret
  have hx := C.1
  have hb := C.2.1
  have hl : lv_has ls 3 [(0, .ref (g_ad G 87))] := hl
  have h := h (fun (v1 : Int32) (v2 : Int32) (σ : Sto) => ∀ (H : Heap) (locs : List Loc) (ls : Array Slot), g_M G x σ s H locs → lv_has ls 3 [(0, .ref (g_ad G 87)), (1, .int v1), (2, .int v2)] → W p l e rm_X12_validMany s m args below meth c H locs 0 0 Q (F0 m 4 ls []))
  have h := h (by
    intro v1 v2 σ h  H locs ls hM hl
    refine lv_iload_n (pc := 4) hx hb dX12_validMany_4 rfl (lv_at hl 2 rfl) ?_
    refine lv_aload_n (pc := 5) hx hb dX12_validMany_5 rfl (lv_at hl 0 rfl) ?_
    refine g_get (pc := 6) (v := .ref (g_ad G 88)) C hM (by decide) ce_87 fl_RX12_7 rfl dX12_validMany_6 ?_
    refine lv_bipush (pc := 9) (v := 6) hx hb dX12_validMany_9 (by decide) ?_
    refine g_ialdK (pc := 11) (k := 6) C hM (by decide) ce_88 (vp_in_nI (n := 6) (by decide) (by decide)) rfl dX12_validMany_11 ?_
    refine lv_icmp_ge (pc := 12) (tgt := 42) hx hb dX12_validMany_12 (by decide) (fun c12 => ?_) (fun c12 => ?_)
    · have h := h.1 c12
      refine lv_iload_n (pc := 42) hx hb dX12_validMany_42 rfl (lv_at hl 1 rfl) ?_
      exact hret 43 _ _ _ _ _ dX12_validMany_43 (by rfl) h hM
    · have h := h.2 c12
      refine lv_iload_n (pc := 15) hx hb dX12_validMany_15 rfl (lv_at hl 1 rfl) ?_
      refine lv_aload_n (pc := 16) hx hb dX12_validMany_16 rfl (lv_at hl 0 rfl) ?_
      refine lv_iload_n (pc := 17) hx hb dX12_validMany_17 rfl (lv_at hl 2 rfl) ?_
      refine lv_iconst (pc := 18) (v := 4) hx hb dX12_validMany_18 (by decide) ?_
      refine g_cVi (pc := 19) C hM hl.1 yv_X12_grantOf q6_209 (by decide) ce_87 rfl (w_X12_grantOf l G x v2 4 σ _ h) rfl rfl ⟨⟨by decide, by decide⟩, by decide, by decide⟩ (Nat.le_of_ble_eq_true rfl) dX12_validMany_19 (fun r19 s19 H locs h hM => ?_)
      refine lv_aload_n (pc := 22) hx hb dX12_validMany_22 rfl (lv_at hl 0 rfl) ?_
      refine g_get (pc := 23) (v := .int (s19 87 5)) C hM (by decide) ce_87 fl_RX12_149 rfl dX12_validMany_23 ?_
      refine lv_icmp_lt (pc := 26) (tgt := 33) hx hb dX12_validMany_26 (by decide) (fun c26 => ?_) (fun c26 => ?_)
      · have h := h.1 c26
        refine lv_iconst (pc := 33) (v := 0) hx hb dX12_validMany_33 (by decide) ?_
        refine lv_iadd (pc := 34) hx hb dX12_validMany_34 ?_
        refine lv_istore_n (pc := 35) (lv' := [(1, .int (v1 + 0)), (0, .ref (g_ad G 87)), (2, .int v2)]) hx hb dX12_validMany_35 rfl hl (by decide) rfl (fun ls hl => ?_)
        refine lv_iinc (pc := 36) (v := (v2 + 1)) (lv' := [(2, .int (v2 + 1)), (1, .int (v1 + 0)), (0, .ref (g_ad G 87))]) hx hb dX12_validMany_36 hl (k := 2) rfl (by rfl) (by decide) rfl (fun ls hl => ?_)
        refine lv_goto (pc := 39) (tgt := 4) hx hb dX12_validMany_39 (by decide) ?_
        exact h _ _ _ hM (lv_sub hl [2, 1, 0] rfl)
      · have h := h.2 c26
        refine lv_iconst (pc := 29) (v := 1) hx hb dX12_validMany_29 (by decide) ?_
        refine lv_goto (pc := 30) (tgt := 34) hx hb dX12_validMany_30 (by decide) ?_
        refine lv_iadd (pc := 34) hx hb dX12_validMany_34 ?_
        refine lv_istore_n (pc := 35) (lv' := [(1, .int (v1 + 1)), (0, .ref (g_ad G 87)), (2, .int v2)]) hx hb dX12_validMany_35 rfl hl (by decide) rfl (fun ls hl => ?_)
        refine lv_iinc (pc := 36) (v := (v2 + 1)) (lv' := [(2, .int (v2 + 1)), (1, .int (v1 + 1)), (0, .ref (g_ad G 87))]) hx hb dX12_validMany_36 hl (k := 2) rfl (by rfl) (by decide) rfl (fun ls hl => ?_)
        refine lv_goto (pc := 39) (tgt := 4) hx hb dX12_validMany_39 (by decide) ?_
        exact h _ _ _ hM (lv_sub hl [2, 1, 0] rfl))
  refine lv_iconst (pc := 0) (v := 0) hx hb dX12_validMany_0 (by decide) ?_
  refine lv_istore_n (pc := 1) (lv' := [(1, .int 0), (0, .ref (g_ad G 87))]) hx hb dX12_validMany_1 rfl hl (by decide) rfl (fun ls hl => ?_)
  refine lv_iconst (pc := 2) (v := 0) hx hb dX12_validMany_2 (by decide) ?_
  refine lv_istore_n (pc := 3) (lv' := [(2, .int 0), (1, .int 0), (0, .ref (g_ad G 87))]) hx hb dX12_validMany_3 rfl hl (by decide) rfl (fun ls hl => ?_)
  exact h _ _ _ hM (lv_sub hl [2, 1, 0] rfl)
abbrev rm_X12_grantCount : Room := { frames := 2, cells := 0, slots := 0, locals := 44 }
theorem dX12_grantCount_0 : decode cX12_grantCount 0 = .ok (.aload_n 0, 1) := by decide +kernel
theorem dX12_grantCount_1 : decode cX12_grantCount 1 = .ok (.iconst 0, 1) := by decide +kernel
theorem dX12_grantCount_2 : decode cX12_grantCount 2 = .ok (.putfield 68, 3) := by decide +kernel
theorem dX12_grantCount_5 : decode cX12_grantCount 5 = .ok (.iload_n 1, 1) := by decide +kernel
theorem dX12_grantCount_6 : decode cX12_grantCount 6 = .ok (.ifCond .eq 10, 3) := by decide +kernel
theorem dX12_grantCount_9 : decode cX12_grantCount 9 = .ok (.aload_n 0, 1) := by decide +kernel
theorem dX12_grantCount_10 : decode cX12_grantCount 10 = .ok (.invokevirtual 152, 3) := by decide +kernel
theorem dX12_grantCount_13 : decode cX12_grantCount 13 = .ok (.goto 10, 3) := by decide +kernel
theorem dX12_grantCount_16 : decode cX12_grantCount 16 = .ok (.aload_n 0, 1) := by decide +kernel
theorem dX12_grantCount_17 : decode cX12_grantCount 17 = .ok (.getfield 7, 3) := by decide +kernel
theorem dX12_grantCount_20 : decode cX12_grantCount 20 = .ok (.bipush 6, 2) := by decide +kernel
theorem dX12_grantCount_22 : decode cX12_grantCount 22 = .ok (.iaload, 1) := by decide +kernel
theorem dX12_grantCount_23 : decode cX12_grantCount 23 = .ok (.ireturn, 1) := by decide +kernel
set_option maxHeartbeats 4000000 in
set_option maxRecDepth 100000 in
theorem w_X12_grantCount (l : Launch) (G : GP) (x : XP) (a1 : Int32) (σ : Sto) (P : Int32 → Sto → Prop) (h : D_X12_grantCount a1 σ P) : g_Meti l yX12_grantCount cX12_grantCount 2 (some .int) rm_X12_grantCount G x [.ref (g_ad G 87), .int a1] σ P := by
  unfold D_X12_grantCount at h
  refine g_ofWi (by decide +kernel) (Nat.le_of_ble_eq_true rfl) ?_
  intro p e s m args below meth c Q ls C hM hl hret
  have hx := C.1
  have hb := C.2.1
  have hl : lv_has ls 2 [(0, .ref (g_ad G 87)), (1, .int a1)] := hl
  refine lv_aload_n (pc := 0) hx hb dX12_grantCount_0 rfl (lv_at hl 0 rfl) ?_
  refine lv_iconst (pc := 1) (v := 0) hx hb dX12_grantCount_1 (by decide) ?_
  refine g_putE (pc := 2) C hM (by decide) ce_87 fp_RX12_68 rfl rfl (Nat.le_of_ble_eq_true rfl) rfl dX12_grantCount_2 (fun s2 es2 H locs hM => ?_)
  have h := h s2 es2
  refine lv_iload_n (pc := 5) hx hb dX12_grantCount_5 rfl (lv_at hl 1 rfl) ?_
  refine lv_if_eq (pc := 6) (tgt := 16) hx hb dX12_grantCount_6 (by decide) (fun c6 => ?_) (fun c6 => ?_)
  · have h := h.1 c6
    refine lv_aload_n (pc := 16) hx hb dX12_grantCount_16 rfl (lv_at hl 0 rfl) ?_
    refine g_get (pc := 17) (v := .ref (g_ad G 88)) C hM (by decide) ce_87 fl_RX12_7 rfl dX12_grantCount_17 ?_
    refine lv_bipush (pc := 20) (v := 6) hx hb dX12_grantCount_20 (by decide) ?_
    refine g_ialdK (pc := 22) (k := 6) C hM (by decide) ce_88 (vp_in_nI (n := 6) (by decide) (by decide)) rfl dX12_grantCount_22 ?_
    exact hret 23 _ _ _ _ _ dX12_grantCount_23 (by rfl) h hM
  · have h := h.2 c6
    refine lv_aload_n (pc := 9) hx hb dX12_grantCount_9 rfl (lv_at hl 0 rfl) ?_
    refine g_cVi (pc := 10) C hM hl.1 yv_X12_validMany q6_224 (by decide) ce_87 rfl (w_X12_validMany l G x  s2 _ h) rfl rfl ⟨⟨by decide, by decide⟩, by decide, by decide⟩ (Nat.le_of_ble_eq_true rfl) dX12_grantCount_10 (fun r10 s10 H locs h hM => ?_)
    refine lv_goto (pc := 13) (tgt := 23) hx hb dX12_grantCount_13 (by decide) ?_
    exact hret 23 _ _ _ _ _ dX12_grantCount_23 (by rfl) h hM
abbrev rm_X12_grantAt : Room := { frames := 1, cells := 0, slots := 0, locals := 22 }
theorem dX12_grantAt_0 : decode cX12_grantAt 0 = .ok (.aload_n 0, 1) := by decide +kernel
theorem dX12_grantAt_1 : decode cX12_grantAt 1 = .ok (.iload_n 1, 1) := by decide +kernel
theorem dX12_grantAt_2 : decode cX12_grantAt 2 = .ok (.iconst 0, 1) := by decide +kernel
theorem dX12_grantAt_3 : decode cX12_grantAt 3 = .ok (.aload_n 0, 1) := by decide +kernel
theorem dX12_grantAt_4 : decode cX12_grantAt 4 = .ok (.getfield 7, 3) := by decide +kernel
theorem dX12_grantAt_7 : decode cX12_grantAt 7 = .ok (.bipush 6, 2) := by decide +kernel
theorem dX12_grantAt_9 : decode cX12_grantAt 9 = .ok (.iaload, 1) := by decide +kernel
theorem dX12_grantAt_10 : decode cX12_grantAt 10 = .ok (.iconst 1, 1) := by decide +kernel
theorem dX12_grantAt_11 : decode cX12_grantAt 11 = .ok (.isub, 1) := by decide +kernel
theorem dX12_grantAt_12 : decode cX12_grantAt 12 = .ok (.invokestatic 71, 3) := by decide +kernel
theorem dX12_grantAt_15 : decode cX12_grantAt 15 = .ok (.ifCond .eq 20, 3) := by decide +kernel
theorem dX12_grantAt_18 : decode cX12_grantAt 18 = .ok (.iload_n 2, 1) := by decide +kernel
theorem dX12_grantAt_19 : decode cX12_grantAt 19 = .ok (.iconst 0, 1) := by decide +kernel
theorem dX12_grantAt_20 : decode cX12_grantAt 20 = .ok (.iconst 4, 1) := by decide +kernel
theorem dX12_grantAt_21 : decode cX12_grantAt 21 = .ok (.invokestatic 71, 3) := by decide +kernel
theorem dX12_grantAt_24 : decode cX12_grantAt 24 = .ok (.ifCond .eq 7, 3) := by decide +kernel
theorem dX12_grantAt_27 : decode cX12_grantAt 27 = .ok (.iconst 0, 1) := by decide +kernel
theorem dX12_grantAt_28 : decode cX12_grantAt 28 = .ok (.goto 8, 3) := by decide +kernel
theorem dX12_grantAt_31 : decode cX12_grantAt 31 = .ok (.iconst 2, 1) := by decide +kernel
theorem dX12_grantAt_32 : decode cX12_grantAt 32 = .ok (.goto 4, 3) := by decide +kernel
theorem dX12_grantAt_35 : decode cX12_grantAt 35 = .ok (.iconst 1, 1) := by decide +kernel
theorem dX12_grantAt_36 : decode cX12_grantAt 36 = .ok (.putfield 68, 3) := by decide +kernel
theorem dX12_grantAt_39 : decode cX12_grantAt 39 = .ok (.aload_n 0, 1) := by decide +kernel
theorem dX12_grantAt_40 : decode cX12_grantAt 40 = .ok (.getfield 68, 3) := by decide +kernel
theorem dX12_grantAt_43 : decode cX12_grantAt 43 = .ok (.ifCond .le 7, 3) := by decide +kernel
theorem dX12_grantAt_46 : decode cX12_grantAt 46 = .ok (.iconst 0, 1) := by decide +kernel
theorem dX12_grantAt_47 : decode cX12_grantAt 47 = .ok (.goto 9, 3) := by decide +kernel
theorem dX12_grantAt_50 : decode cX12_grantAt 50 = .ok (.aload_n 0, 1) := by decide +kernel
theorem dX12_grantAt_51 : decode cX12_grantAt 51 = .ok (.iload_n 1, 1) := by decide +kernel
theorem dX12_grantAt_52 : decode cX12_grantAt 52 = .ok (.iload_n 2, 1) := by decide +kernel
theorem dX12_grantAt_53 : decode cX12_grantAt 53 = .ok (.invokevirtual 140, 3) := by decide +kernel
theorem dX12_grantAt_56 : decode cX12_grantAt 56 = .ok (.ireturn, 1) := by decide +kernel
set_option maxHeartbeats 4000000 in
set_option maxRecDepth 100000 in
theorem w_X12_grantAt (l : Launch) (G : GP) (x : XP) (a1 : Int32) (a2 : Int32) (σ : Sto) (P : Int32 → Sto → Prop) (h : D_X12_grantAt a1 a2 σ P) : g_Meti l yX12_grantAt cX12_grantAt 3 (some .int) rm_X12_grantAt G x [.ref (g_ad G 87), .int a1, .int a2] σ P := by
  unfold D_X12_grantAt at h
  refine g_ofWi (by decide +kernel) (Nat.le_of_ble_eq_true rfl) ?_
  intro p e s m args below meth c Q ls C hM hl hret
  have hx := C.1
  have hb := C.2.1
  have hl : lv_has ls 3 [(0, .ref (g_ad G 87)), (1, .int a1), (2, .int a2)] := hl
  refine lv_aload_n (pc := 0) hx hb dX12_grantAt_0 rfl (lv_at hl 0 rfl) ?_
  refine lv_iload_n (pc := 1) hx hb dX12_grantAt_1 rfl (lv_at hl 1 rfl) ?_
  refine lv_iconst (pc := 2) (v := 0) hx hb dX12_grantAt_2 (by decide) ?_
  refine lv_aload_n (pc := 3) hx hb dX12_grantAt_3 rfl (lv_at hl 0 rfl) ?_
  refine g_get (pc := 4) (v := .ref (g_ad G 88)) C hM (by decide) ce_87 fl_RX12_7 rfl dX12_grantAt_4 ?_
  refine lv_bipush (pc := 7) (v := 6) hx hb dX12_grantAt_7 (by decide) ?_
  refine g_ialdK (pc := 9) (k := 6) C hM (by decide) ce_88 (vp_in_nI (n := 6) (by decide) (by decide)) rfl dX12_grantAt_9 ?_
  refine lv_iconst (pc := 10) (v := 1) hx hb dX12_grantAt_10 (by decide) ?_
  refine lv_isub (pc := 11) hx hb dX12_grantAt_11 ?_
  refine g_cSi (pc := 12) C hM hl.1 ys_X12_in q6_108 (w_X12_in l G x a1 0 ((σ 88 6) - 1) σ _ h) rfl rfl ⟨⟨by decide, by decide⟩, by decide, by decide⟩ (Nat.le_of_ble_eq_true rfl) dX12_grantAt_12 (fun r12 s12 H locs h hM => ?_)
  refine lv_if_eq (pc := 15) (tgt := 35) hx hb dX12_grantAt_15 (by decide) (fun c15 => ?_) (fun c15 => ?_)
  · have h := h.1 c15
    refine lv_iconst (pc := 35) (v := 1) hx hb dX12_grantAt_35 (by decide) ?_
    refine g_putE (pc := 36) C hM (by decide) ce_87 fp_RX12_68 rfl rfl (Nat.le_of_ble_eq_true rfl) rfl dX12_grantAt_36 (fun s36 es36 H locs hM => ?_)
    have h := h s36 es36
    refine lv_aload_n (pc := 39) hx hb dX12_grantAt_39 rfl (lv_at hl 0 rfl) ?_
    refine g_get (pc := 40) (v := .int (s36 87 8)) C hM (by decide) ce_87 fl_RX12_68 rfl dX12_grantAt_40 ?_
    refine lv_if_le (pc := 43) (tgt := 50) hx hb dX12_grantAt_43 (by decide) (fun c43 => ?_) (fun c43 => ?_)
    · have h := h.1 c43
      refine lv_aload_n (pc := 50) hx hb dX12_grantAt_50 rfl (lv_at hl 0 rfl) ?_
      refine lv_iload_n (pc := 51) hx hb dX12_grantAt_51 rfl (lv_at hl 1 rfl) ?_
      refine lv_iload_n (pc := 52) hx hb dX12_grantAt_52 rfl (lv_at hl 2 rfl) ?_
      refine g_cVi (pc := 53) C hM hl.1 yv_X12_grantOf q6_209 (by decide) ce_87 rfl (w_X12_grantOf l G x a1 a2 s36 _ h) rfl rfl ⟨⟨by decide, by decide⟩, by decide, by decide⟩ (Nat.le_of_ble_eq_true rfl) dX12_grantAt_53 (fun r53 s53 H locs h hM => ?_)
      exact hret 56 _ _ _ _ _ dX12_grantAt_56 (by rfl) h hM
    · have h := h.2 c43
      refine lv_iconst (pc := 46) (v := 0) hx hb dX12_grantAt_46 (by decide) ?_
      refine lv_goto (pc := 47) (tgt := 56) hx hb dX12_grantAt_47 (by decide) ?_
      exact hret 56 _ _ _ _ _ dX12_grantAt_56 (by rfl) h hM
  · have h := h.2 c15
    refine lv_iload_n (pc := 18) hx hb dX12_grantAt_18 rfl (lv_at hl 2 rfl) ?_
    refine lv_iconst (pc := 19) (v := 0) hx hb dX12_grantAt_19 (by decide) ?_
    refine lv_iconst (pc := 20) (v := 4) hx hb dX12_grantAt_20 (by decide) ?_
    refine g_cSi (pc := 21) C hM hl.1 ys_X12_in q6_108 (w_X12_in l G x a2 0 4 s12 _ h) rfl rfl ⟨⟨by decide, by decide⟩, by decide, by decide⟩ (Nat.le_of_ble_eq_true rfl) dX12_grantAt_21 (fun r21 s21 H locs h hM => ?_)
    refine lv_if_eq (pc := 24) (tgt := 31) hx hb dX12_grantAt_24 (by decide) (fun c24 => ?_) (fun c24 => ?_)
    · have h := h.1 c24
      refine lv_iconst (pc := 31) (v := 2) hx hb dX12_grantAt_31 (by decide) ?_
      refine lv_goto (pc := 32) (tgt := 36) hx hb dX12_grantAt_32 (by decide) ?_
      refine g_putE (pc := 36) C hM (by decide) ce_87 fp_RX12_68 rfl rfl (Nat.le_of_ble_eq_true rfl) rfl dX12_grantAt_36 (fun s36 es36 H locs hM => ?_)
      have h := h s36 es36
      refine lv_aload_n (pc := 39) hx hb dX12_grantAt_39 rfl (lv_at hl 0 rfl) ?_
      refine g_get (pc := 40) (v := .int (s36 87 8)) C hM (by decide) ce_87 fl_RX12_68 rfl dX12_grantAt_40 ?_
      refine lv_if_le (pc := 43) (tgt := 50) hx hb dX12_grantAt_43 (by decide) (fun c43 => ?_) (fun c43 => ?_)
      · have h := h.1 c43
        refine lv_aload_n (pc := 50) hx hb dX12_grantAt_50 rfl (lv_at hl 0 rfl) ?_
        refine lv_iload_n (pc := 51) hx hb dX12_grantAt_51 rfl (lv_at hl 1 rfl) ?_
        refine lv_iload_n (pc := 52) hx hb dX12_grantAt_52 rfl (lv_at hl 2 rfl) ?_
        refine g_cVi (pc := 53) C hM hl.1 yv_X12_grantOf q6_209 (by decide) ce_87 rfl (w_X12_grantOf l G x a1 a2 s36 _ h) rfl rfl ⟨⟨by decide, by decide⟩, by decide, by decide⟩ (Nat.le_of_ble_eq_true rfl) dX12_grantAt_53 (fun r53 s53 H locs h hM => ?_)
        exact hret 56 _ _ _ _ _ dX12_grantAt_56 (by rfl) h hM
      · have h := h.2 c43
        refine lv_iconst (pc := 46) (v := 0) hx hb dX12_grantAt_46 (by decide) ?_
        refine lv_goto (pc := 47) (tgt := 56) hx hb dX12_grantAt_47 (by decide) ?_
        exact hret 56 _ _ _ _ _ dX12_grantAt_56 (by rfl) h hM
    · have h := h.2 c24
      refine lv_iconst (pc := 27) (v := 0) hx hb dX12_grantAt_27 (by decide) ?_
      refine lv_goto (pc := 28) (tgt := 36) hx hb dX12_grantAt_28 (by decide) ?_
      refine g_putE (pc := 36) C hM (by decide) ce_87 fp_RX12_68 rfl rfl (Nat.le_of_ble_eq_true rfl) rfl dX12_grantAt_36 (fun s36 es36 H locs hM => ?_)
      have h := h s36 es36
      refine lv_aload_n (pc := 39) hx hb dX12_grantAt_39 rfl (lv_at hl 0 rfl) ?_
      refine g_get (pc := 40) (v := .int (s36 87 8)) C hM (by decide) ce_87 fl_RX12_68 rfl dX12_grantAt_40 ?_
      refine lv_if_le (pc := 43) (tgt := 50) hx hb dX12_grantAt_43 (by decide) (fun c43 => ?_) (fun c43 => ?_)
      · have h := h.1 c43
        refine lv_aload_n (pc := 50) hx hb dX12_grantAt_50 rfl (lv_at hl 0 rfl) ?_
        refine lv_iload_n (pc := 51) hx hb dX12_grantAt_51 rfl (lv_at hl 1 rfl) ?_
        refine lv_iload_n (pc := 52) hx hb dX12_grantAt_52 rfl (lv_at hl 2 rfl) ?_
        refine g_cVi (pc := 53) C hM hl.1 yv_X12_grantOf q6_209 (by decide) ce_87 rfl (w_X12_grantOf l G x a1 a2 s36 _ h) rfl rfl ⟨⟨by decide, by decide⟩, by decide, by decide⟩ (Nat.le_of_ble_eq_true rfl) dX12_grantAt_53 (fun r53 s53 H locs h hM => ?_)
        exact hret 56 _ _ _ _ _ dX12_grantAt_56 (by rfl) h hM
      · have h := h.2 c43
        refine lv_iconst (pc := 46) (v := 0) hx hb dX12_grantAt_46 (by decide) ?_
        refine lv_goto (pc := 47) (tgt := 56) hx hb dX12_grantAt_47 (by decide) ?_
        exact hret 56 _ _ _ _ _ dX12_grantAt_56 (by rfl) h hM
abbrev rm_X12_shortest : Room := { frames := 1, cells := 0, slots := 0, locals := 22 }
theorem dX12_shortest_0 : decode cX12_shortest 0 = .ok (.iload_n 1, 1) := by decide +kernel
theorem dX12_shortest_1 : decode cX12_shortest 1 = .ok (.ifCond .ne 5, 3) := by decide +kernel
theorem dX12_shortest_4 : decode cX12_shortest 4 = .ok (.iconst 0, 1) := by decide +kernel
theorem dX12_shortest_5 : decode cX12_shortest 5 = .ok (.ireturn, 1) := by decide +kernel
theorem dX12_shortest_6 : decode cX12_shortest 6 = .ok (.aload_n 0, 1) := by decide +kernel
theorem dX12_shortest_7 : decode cX12_shortest 7 = .ok (.getfield 22, 3) := by decide +kernel
theorem dX12_shortest_10 : decode cX12_shortest 10 = .ok (.iconst 0, 1) := by decide +kernel
theorem dX12_shortest_11 : decode cX12_shortest 11 = .ok (.iconst 1, 1) := by decide +kernel
theorem dX12_shortest_12 : decode cX12_shortest 12 = .ok (.iload_n 1, 1) := by decide +kernel
theorem dX12_shortest_13 : decode cX12_shortest 13 = .ok (.ishl, 1) := by decide +kernel
theorem dX12_shortest_14 : decode cX12_shortest 14 = .ok (.iastore, 1) := by decide +kernel
theorem dX12_shortest_15 : decode cX12_shortest 15 = .ok (.iconst 1, 1) := by decide +kernel
theorem dX12_shortest_16 : decode cX12_shortest 16 = .ok (.istore 4, 2) := by decide +kernel
theorem dX12_shortest_18 : decode cX12_shortest 18 = .ok (.iload 4, 2) := by decide +kernel
theorem dX12_shortest_20 : decode cX12_shortest 20 = .ok (.bipush 6, 2) := by decide +kernel
theorem dX12_shortest_22 : decode cX12_shortest 22 = .ok (.if_icmp .gt 148, 3) := by decide +kernel
theorem dX12_shortest_25 : decode cX12_shortest 25 = .ok (.aload_n 0, 1) := by decide +kernel
theorem dX12_shortest_26 : decode cX12_shortest 26 = .ok (.getfield 22, 3) := by decide +kernel
theorem dX12_shortest_29 : decode cX12_shortest 29 = .ok (.iload 4, 2) := by decide +kernel
theorem dX12_shortest_31 : decode cX12_shortest 31 = .ok (.iconst 0, 1) := by decide +kernel
theorem dX12_shortest_32 : decode cX12_shortest 32 = .ok (.iastore, 1) := by decide +kernel
theorem dX12_shortest_33 : decode cX12_shortest 33 = .ok (.iconst 0, 1) := by decide +kernel
theorem dX12_shortest_34 : decode cX12_shortest 34 = .ok (.istore 5, 2) := by decide +kernel
theorem dX12_shortest_36 : decode cX12_shortest 36 = .ok (.iload 5, 2) := by decide +kernel
theorem dX12_shortest_38 : decode cX12_shortest 38 = .ok (.aload_n 0, 1) := by decide +kernel
theorem dX12_shortest_39 : decode cX12_shortest 39 = .ok (.getfield 7, 3) := by decide +kernel
theorem dX12_shortest_42 : decode cX12_shortest 42 = .ok (.bipush 6, 2) := by decide +kernel
theorem dX12_shortest_44 : decode cX12_shortest 44 = .ok (.iaload, 1) := by decide +kernel
theorem dX12_shortest_45 : decode cX12_shortest 45 = .ok (.if_icmp .ge 102, 3) := by decide +kernel
theorem dX12_shortest_48 : decode cX12_shortest 48 = .ok (.aload_n 0, 1) := by decide +kernel
theorem dX12_shortest_49 : decode cX12_shortest 49 = .ok (.iload 5, 2) := by decide +kernel
theorem dX12_shortest_51 : decode cX12_shortest 51 = .ok (.iconst 2, 1) := by decide +kernel
theorem dX12_shortest_52 : decode cX12_shortest 52 = .ok (.invokevirtual 140, 3) := by decide +kernel
theorem dX12_shortest_55 : decode cX12_shortest 55 = .ok (.iload_n 2, 1) := by decide +kernel
theorem dX12_shortest_56 : decode cX12_shortest 56 = .ok (.if_icmp .ne 32, 3) := by decide +kernel
theorem dX12_shortest_59 : decode cX12_shortest 59 = .ok (.aload_n 0, 1) := by decide +kernel
theorem dX12_shortest_60 : decode cX12_shortest 60 = .ok (.iload 5, 2) := by decide +kernel
theorem dX12_shortest_62 : decode cX12_shortest 62 = .ok (.iconst 4, 1) := by decide +kernel
theorem dX12_shortest_63 : decode cX12_shortest 63 = .ok (.invokevirtual 140, 3) := by decide +kernel
theorem dX12_shortest_66 : decode cX12_shortest 66 = .ok (.iload_n 3, 1) := by decide +kernel
theorem dX12_shortest_67 : decode cX12_shortest 67 = .ok (.if_icmp .lt 21, 3) := by decide +kernel
theorem dX12_shortest_70 : decode cX12_shortest 70 = .ok (.aload_n 0, 1) := by decide +kernel
theorem dX12_shortest_71 : decode cX12_shortest 71 = .ok (.iload 5, 2) := by decide +kernel
theorem dX12_shortest_73 : decode cX12_shortest 73 = .ok (.iconst 3, 1) := by decide +kernel
theorem dX12_shortest_74 : decode cX12_shortest 74 = .ok (.invokevirtual 140, 3) := by decide +kernel
theorem dX12_shortest_77 : decode cX12_shortest 77 = .ok (.iload 4, 2) := by decide +kernel
theorem dX12_shortest_79 : decode cX12_shortest 79 = .ok (.iconst 1, 1) := by decide +kernel
theorem dX12_shortest_80 : decode cX12_shortest 80 = .ok (.isub, 1) := by decide +kernel
theorem dX12_shortest_81 : decode cX12_shortest 81 = .ok (.if_icmp .lt 7, 3) := by decide +kernel
theorem dX12_shortest_84 : decode cX12_shortest 84 = .ok (.iconst 1, 1) := by decide +kernel
theorem dX12_shortest_85 : decode cX12_shortest 85 = .ok (.goto 4, 3) := by decide +kernel
theorem dX12_shortest_88 : decode cX12_shortest 88 = .ok (.iconst 0, 1) := by decide +kernel
theorem dX12_shortest_89 : decode cX12_shortest 89 = .ok (.istore 6, 2) := by decide +kernel
theorem dX12_shortest_91 : decode cX12_shortest 91 = .ok (.aload_n 0, 1) := by decide +kernel
theorem dX12_shortest_92 : decode cX12_shortest 92 = .ok (.getfield 22, 3) := by decide +kernel
theorem dX12_shortest_95 : decode cX12_shortest 95 = .ok (.iload 4, 2) := by decide +kernel
theorem dX12_shortest_97 : decode cX12_shortest 97 = .ok (.dup2, 1) := by decide +kernel
theorem dX12_shortest_98 : decode cX12_shortest 98 = .ok (.iaload, 1) := by decide +kernel
theorem dX12_shortest_99 : decode cX12_shortest 99 = .ok (.iload 6, 2) := by decide +kernel
theorem dX12_shortest_101 : decode cX12_shortest 101 = .ok (.ifCond .eq 37, 3) := by decide +kernel
theorem dX12_shortest_104 : decode cX12_shortest 104 = .ok (.aload_n 0, 1) := by decide +kernel
theorem dX12_shortest_105 : decode cX12_shortest 105 = .ok (.getfield 22, 3) := by decide +kernel
theorem dX12_shortest_108 : decode cX12_shortest 108 = .ok (.iload 4, 2) := by decide +kernel
theorem dX12_shortest_110 : decode cX12_shortest 110 = .ok (.iconst 1, 1) := by decide +kernel
theorem dX12_shortest_111 : decode cX12_shortest 111 = .ok (.isub, 1) := by decide +kernel
theorem dX12_shortest_112 : decode cX12_shortest 112 = .ok (.iaload, 1) := by decide +kernel
theorem dX12_shortest_113 : decode cX12_shortest 113 = .ok (.aload_n 0, 1) := by decide +kernel
theorem dX12_shortest_114 : decode cX12_shortest 114 = .ok (.iload 5, 2) := by decide +kernel
theorem dX12_shortest_116 : decode cX12_shortest 116 = .ok (.iconst 1, 1) := by decide +kernel
theorem dX12_shortest_117 : decode cX12_shortest 117 = .ok (.invokevirtual 140, 3) := by decide +kernel
theorem dX12_shortest_120 : decode cX12_shortest 120 = .ok (.invokestatic 129, 3) := by decide +kernel
theorem dX12_shortest_123 : decode cX12_shortest 123 = .ok (.ifCond .eq 15, 3) := by decide +kernel
theorem dX12_shortest_126 : decode cX12_shortest 126 = .ok (.iconst 1, 1) := by decide +kernel
theorem dX12_shortest_127 : decode cX12_shortest 127 = .ok (.aload_n 0, 1) := by decide +kernel
theorem dX12_shortest_128 : decode cX12_shortest 128 = .ok (.iload 5, 2) := by decide +kernel
theorem dX12_shortest_130 : decode cX12_shortest 130 = .ok (.iconst 0, 1) := by decide +kernel
theorem dX12_shortest_131 : decode cX12_shortest 131 = .ok (.invokevirtual 140, 3) := by decide +kernel
theorem dX12_shortest_134 : decode cX12_shortest 134 = .ok (.ishl, 1) := by decide +kernel
theorem dX12_shortest_135 : decode cX12_shortest 135 = .ok (.goto 4, 3) := by decide +kernel
theorem dX12_shortest_138 : decode cX12_shortest 138 = .ok (.iconst 0, 1) := by decide +kernel
theorem dX12_shortest_139 : decode cX12_shortest 139 = .ok (.ior, 1) := by decide +kernel
theorem dX12_shortest_140 : decode cX12_shortest 140 = .ok (.iastore, 1) := by decide +kernel
theorem dX12_shortest_141 : decode cX12_shortest 141 = .ok (.iinc 5 1, 3) := by decide +kernel
theorem dX12_shortest_144 : decode cX12_shortest 144 = .ok (.goto (-108), 3) := by decide +kernel
theorem dX12_shortest_147 : decode cX12_shortest 147 = .ok (.aload_n 0, 1) := by decide +kernel
theorem dX12_shortest_148 : decode cX12_shortest 148 = .ok (.getfield 22, 3) := by decide +kernel
theorem dX12_shortest_151 : decode cX12_shortest 151 = .ok (.iload 4, 2) := by decide +kernel
theorem dX12_shortest_153 : decode cX12_shortest 153 = .ok (.iaload, 1) := by decide +kernel
theorem dX12_shortest_154 : decode cX12_shortest 154 = .ok (.iconst 0, 1) := by decide +kernel
theorem dX12_shortest_155 : decode cX12_shortest 155 = .ok (.invokestatic 129, 3) := by decide +kernel
theorem dX12_shortest_158 : decode cX12_shortest 158 = .ok (.ifCond .eq 6, 3) := by decide +kernel
theorem dX12_shortest_161 : decode cX12_shortest 161 = .ok (.iload 4, 2) := by decide +kernel
theorem dX12_shortest_163 : decode cX12_shortest 163 = .ok (.ireturn, 1) := by decide +kernel
theorem dX12_shortest_164 : decode cX12_shortest 164 = .ok (.iinc 4 1, 3) := by decide +kernel
theorem dX12_shortest_167 : decode cX12_shortest 167 = .ok (.goto (-149), 3) := by decide +kernel
theorem dX12_shortest_170 : decode cX12_shortest 170 = .ok (.iconst (-1), 1) := by decide +kernel
theorem dX12_shortest_171 : decode cX12_shortest 171 = .ok (.ireturn, 1) := by decide +kernel
set_option maxHeartbeats 4000000 in
set_option maxRecDepth 100000 in
theorem w_X12_shortest (l : Launch) (G : GP) (x : XP) (a1 : Int32) (a2 : Int32) (a3 : Int32) (σ : Sto) (P : Int32 → Sto → Prop) (h : D_X12_shortest a1 a2 a3 σ P) : g_Meti l yX12_shortest cX12_shortest 7 (some .int) rm_X12_shortest G x [.ref (g_ad G 87), .int a1, .int a2, .int a3] σ P := by
  unfold D_X12_shortest at h
  refine g_ofWi (by decide +kernel) (Nat.le_of_ble_eq_true rfl) ?_
  intro p e s m args below meth c Q ls C hM hl hret
  have hx := C.1
  have hb := C.2.1
  have hl : lv_has ls 7 [(0, .ref (g_ad G 87)), (1, .int a1), (2, .int a2), (3, .int a3)] := hl
  have h := h (fun (v4 : Int32) (σ : Sto) => ∀ (H : Heap) (locs : List Loc) (ls : Array Slot), g_M G x σ s H locs → lv_has ls 7 [(0, .ref (g_ad G 87)), (2, .int a2), (3, .int a3), (4, .int v4)] → W p l e rm_X12_shortest s m args below meth c H locs 0 0 Q (F0 m 18 ls [])) (fun (v4 : Int32) (v5 : Int32) (σ : Sto) => ∀ (H : Heap) (locs : List Loc) (ls : Array Slot), g_M G x σ s H locs → lv_has ls 7 [(0, .ref (g_ad G 87)), (2, .int a2), (3, .int a3), (4, .int v4), (5, .int v5)] → W p l e rm_X12_shortest s m args below meth c H locs 0 0 Q (F0 m 36 ls [])) (fun (v4 : Int32) (v5 : Int32) (t0 : Int32) (σ : Sto) => ∀ (H : Heap) (locs : List Loc) (ls : Array Slot), g_M G x σ s H locs → lv_has ls 7 [(0, .ref (g_ad G 87)), (2, .int a2), (3, .int a3), (4, .int v4), (5, .int v5)] → W p l e rm_X12_shortest s m args below meth c H locs 0 0 Q (F0 m 89 ls [.int t0]))
  have h := h (by
    intro v4 σ h  H locs ls hM hl
    refine lv_iload (pc := 18) hx hb dX12_shortest_18 (lv_at hl 3 rfl) ?_
    refine lv_bipush (pc := 20) (v := 6) hx hb dX12_shortest_20 (by decide) ?_
    refine lv_icmp_gt (pc := 22) (tgt := 170) hx hb dX12_shortest_22 (by decide) (fun c22 => ?_) (fun c22 => ?_)
    · have h := h.1 c22
      refine lv_iconst (pc := 170) (v := (-1)) hx hb dX12_shortest_170 (by decide) ?_
      exact hret 171 _ _ _ _ _ dX12_shortest_171 (by rfl) h hM
    · have h := h.2 c22
      refine lv_aload_n (pc := 25) hx hb dX12_shortest_25 rfl (lv_at hl 0 rfl) ?_
      refine g_get (pc := 26) (v := .ref (g_ad G 92)) C hM (by decide) ce_87 fl_RX12_22 rfl dX12_shortest_26 ?_
      refine lv_iload (pc := 29) hx hb dX12_shortest_29 (lv_at hl 3 rfl) ?_
      refine lv_iconst (pc := 31) (v := 0) hx hb dX12_shortest_31 (by decide) ?_
      obtain ⟨hc, h⟩ := h
      refine g_iastE (pc := 32) C hM (by decide) ce_92 hc rfl dX12_shortest_32 (fun s32 es32 H locs hM => ?_)
      have h := h s32 es32
      refine lv_iconst (pc := 33) (v := 0) hx hb dX12_shortest_33 (by decide) ?_
      refine lv_istore (pc := 34) (lv' := [(5, .int 0), (0, .ref (g_ad G 87)), (2, .int a2), (3, .int a3), (4, .int v4)]) hx hb dX12_shortest_34 hl (by decide) rfl (fun ls hl => ?_)
      exact h _ _ _ hM (lv_sub hl [1, 2, 3, 4, 0] rfl))
  have h := h (by
    intro v4 v5 σ h  H locs ls hM hl
    refine lv_iload (pc := 36) hx hb dX12_shortest_36 (lv_at hl 4 rfl) ?_
    refine lv_aload_n (pc := 38) hx hb dX12_shortest_38 rfl (lv_at hl 0 rfl) ?_
    refine g_get (pc := 39) (v := .ref (g_ad G 88)) C hM (by decide) ce_87 fl_RX12_7 rfl dX12_shortest_39 ?_
    refine lv_bipush (pc := 42) (v := 6) hx hb dX12_shortest_42 (by decide) ?_
    refine g_ialdK (pc := 44) (k := 6) C hM (by decide) ce_88 (vp_in_nI (n := 6) (by decide) (by decide)) rfl dX12_shortest_44 ?_
    refine lv_icmp_ge (pc := 45) (tgt := 147) hx hb dX12_shortest_45 (by decide) (fun c45 => ?_) (fun c45 => ?_)
    · have h := h.1 c45
      refine lv_aload_n (pc := 147) hx hb dX12_shortest_147 rfl (lv_at hl 0 rfl) ?_
      refine g_get (pc := 148) (v := .ref (g_ad G 92)) C hM (by decide) ce_87 fl_RX12_22 rfl dX12_shortest_148 ?_
      refine lv_iload (pc := 151) hx hb dX12_shortest_151 (lv_at hl 3 rfl) ?_
      obtain ⟨hc, h⟩ := h
      refine g_ialdK (pc := 153) C hM (by decide) ce_92 hc rfl dX12_shortest_153 ?_
      refine lv_iconst (pc := 154) (v := 0) hx hb dX12_shortest_154 (by decide) ?_
      refine g_cSi (pc := 155) C hM hl.1 ys_X12_has q6_194 (w_X12_has l G x (σ 92 (ix v4)) 0 σ _ h) rfl rfl ⟨⟨by decide, by decide⟩, by decide, by decide⟩ (Nat.le_of_ble_eq_true rfl) dX12_shortest_155 (fun r155 s155 H locs h hM => ?_)
      refine lv_if_eq (pc := 158) (tgt := 164) hx hb dX12_shortest_158 (by decide) (fun c158 => ?_) (fun c158 => ?_)
      · have h := h.1 c158
        refine lv_iinc (pc := 164) (v := (v4 + 1)) (lv' := [(4, .int (v4 + 1)), (0, .ref (g_ad G 87)), (2, .int a2), (3, .int a3), (5, .int v5)]) hx hb dX12_shortest_164 hl (k := 3) rfl (by rfl) (by decide) rfl (fun ls hl => ?_)
        refine lv_goto (pc := 167) (tgt := 18) hx hb dX12_shortest_167 (by decide) ?_
        exact h _ _ _ hM (lv_sub hl [1, 2, 3, 0] rfl)
      · have h := h.2 c158
        refine lv_iload (pc := 161) hx hb dX12_shortest_161 (lv_at hl 3 rfl) ?_
        exact hret 163 _ _ _ _ _ dX12_shortest_163 (by rfl) h hM
    · have h := h.2 c45
      refine lv_aload_n (pc := 48) hx hb dX12_shortest_48 rfl (lv_at hl 0 rfl) ?_
      refine lv_iload (pc := 49) hx hb dX12_shortest_49 (lv_at hl 4 rfl) ?_
      refine lv_iconst (pc := 51) (v := 2) hx hb dX12_shortest_51 (by decide) ?_
      refine g_cVi (pc := 52) C hM hl.1 yv_X12_grantOf q6_209 (by decide) ce_87 rfl (w_X12_grantOf l G x v5 2 σ _ h) rfl rfl ⟨⟨by decide, by decide⟩, by decide, by decide⟩ (Nat.le_of_ble_eq_true rfl) dX12_shortest_52 (fun r52 s52 H locs h hM => ?_)
      refine lv_iload_n (pc := 55) hx hb dX12_shortest_55 rfl (lv_at hl 1 rfl) ?_
      refine lv_icmp_ne (pc := 56) (tgt := 88) hx hb dX12_shortest_56 (by decide) (fun c56 => ?_) (fun c56 => ?_)
      · have h := h.2 c56
        refine lv_iconst (pc := 88) (v := 0) hx hb dX12_shortest_88 (by decide) ?_
        exact h _ _ _ hM (lv_sub hl [0, 1, 2, 3, 4] rfl)
      · have h := h.1 c56
        refine lv_aload_n (pc := 59) hx hb dX12_shortest_59 rfl (lv_at hl 0 rfl) ?_
        refine lv_iload (pc := 60) hx hb dX12_shortest_60 (lv_at hl 4 rfl) ?_
        refine lv_iconst (pc := 62) (v := 4) hx hb dX12_shortest_62 (by decide) ?_
        refine g_cVi (pc := 63) C hM hl.1 yv_X12_grantOf q6_209 (by decide) ce_87 rfl (w_X12_grantOf l G x v5 4 s52 _ h) rfl rfl ⟨⟨by decide, by decide⟩, by decide, by decide⟩ (Nat.le_of_ble_eq_true rfl) dX12_shortest_63 (fun r63 s63 H locs h hM => ?_)
        refine lv_iload_n (pc := 66) hx hb dX12_shortest_66 rfl (lv_at hl 2 rfl) ?_
        refine lv_icmp_lt (pc := 67) (tgt := 88) hx hb dX12_shortest_67 (by decide) (fun c67 => ?_) (fun c67 => ?_)
        · have h := h.1 c67
          refine lv_iconst (pc := 88) (v := 0) hx hb dX12_shortest_88 (by decide) ?_
          exact h _ _ _ hM (lv_sub hl [0, 1, 2, 3, 4] rfl)
        · have h := h.2 c67
          refine lv_aload_n (pc := 70) hx hb dX12_shortest_70 rfl (lv_at hl 0 rfl) ?_
          refine lv_iload (pc := 71) hx hb dX12_shortest_71 (lv_at hl 4 rfl) ?_
          refine lv_iconst (pc := 73) (v := 3) hx hb dX12_shortest_73 (by decide) ?_
          refine g_cVi (pc := 74) C hM hl.1 yv_X12_grantOf q6_209 (by decide) ce_87 rfl (w_X12_grantOf l G x v5 3 s63 _ h) rfl rfl ⟨⟨by decide, by decide⟩, by decide, by decide⟩ (Nat.le_of_ble_eq_true rfl) dX12_shortest_74 (fun r74 s74 H locs h hM => ?_)
          refine lv_iload (pc := 77) hx hb dX12_shortest_77 (lv_at hl 3 rfl) ?_
          refine lv_iconst (pc := 79) (v := 1) hx hb dX12_shortest_79 (by decide) ?_
          refine lv_isub (pc := 80) hx hb dX12_shortest_80 ?_
          refine lv_icmp_lt (pc := 81) (tgt := 88) hx hb dX12_shortest_81 (by decide) (fun c81 => ?_) (fun c81 => ?_)
          · have h := h.1 c81
            refine lv_iconst (pc := 88) (v := 0) hx hb dX12_shortest_88 (by decide) ?_
            exact h _ _ _ hM (lv_sub hl [0, 1, 2, 3, 4] rfl)
          · have h := h.2 c81
            refine lv_iconst (pc := 84) (v := 1) hx hb dX12_shortest_84 (by decide) ?_
            refine lv_goto (pc := 85) (tgt := 89) hx hb dX12_shortest_85 (by decide) ?_
            exact h _ _ _ hM (lv_sub hl [0, 1, 2, 3, 4] rfl))
  have h := h (by
    intro v4 v5 t0 σ h  H locs ls hM hl
    refine lv_istore (pc := 89) (lv' := [(6, .int t0), (0, .ref (g_ad G 87)), (2, .int a2), (3, .int a3), (4, .int v4), (5, .int v5)]) hx hb dX12_shortest_89 hl (by decide) rfl (fun ls hl => ?_)
    refine lv_aload_n (pc := 91) hx hb dX12_shortest_91 rfl (lv_at hl 1 rfl) ?_
    refine g_get (pc := 92) (v := .ref (g_ad G 92)) C hM (by decide) ce_87 fl_RX12_22 rfl dX12_shortest_92 ?_
    refine lv_iload (pc := 95) hx hb dX12_shortest_95 (lv_at hl 4 rfl) ?_
    refine lv_dup2_11 (pc := 97) hx hb dX12_shortest_97 rfl rfl ?_
    obtain ⟨hc, h⟩ := h
    refine g_ialdK (pc := 98) C hM (by decide) ce_92 hc rfl dX12_shortest_98 ?_
    refine lv_iload (pc := 99) hx hb dX12_shortest_99 (lv_at hl 0 rfl) ?_
    refine lv_if_eq (pc := 101) (tgt := 138) hx hb dX12_shortest_101 (by decide) (fun c101 => ?_) (fun c101 => ?_)
    · have h := h.1 c101
      refine lv_iconst (pc := 138) (v := 0) hx hb dX12_shortest_138 (by decide) ?_
      refine lv_ior (pc := 139) hx hb dX12_shortest_139 ?_
      obtain ⟨hc, h⟩ := h
      refine g_iastE (pc := 140) C hM (by decide) ce_92 hc rfl dX12_shortest_140 (fun s140 es140 H locs hM => ?_)
      have h := h s140 es140
      refine lv_iinc (pc := 141) (v := (v5 + 1)) (lv' := [(5, .int (v5 + 1)), (6, .int t0), (0, .ref (g_ad G 87)), (2, .int a2), (3, .int a3), (4, .int v4)]) hx hb dX12_shortest_141 hl (k := 5) rfl (by rfl) (by decide) rfl (fun ls hl => ?_)
      refine lv_goto (pc := 144) (tgt := 36) hx hb dX12_shortest_144 (by decide) ?_
      exact h _ _ _ hM (lv_sub hl [2, 3, 4, 5, 0] rfl)
    · have h := h.2 c101
      refine lv_aload_n (pc := 104) hx hb dX12_shortest_104 rfl (lv_at hl 1 rfl) ?_
      refine g_get (pc := 105) (v := .ref (g_ad G 92)) C hM (by decide) ce_87 fl_RX12_22 rfl dX12_shortest_105 ?_
      refine lv_iload (pc := 108) hx hb dX12_shortest_108 (lv_at hl 4 rfl) ?_
      refine lv_iconst (pc := 110) (v := 1) hx hb dX12_shortest_110 (by decide) ?_
      refine lv_isub (pc := 111) hx hb dX12_shortest_111 ?_
      obtain ⟨hc, h⟩ := h
      refine g_ialdK (pc := 112) C hM (by decide) ce_92 hc rfl dX12_shortest_112 ?_
      refine lv_aload_n (pc := 113) hx hb dX12_shortest_113 rfl (lv_at hl 1 rfl) ?_
      refine lv_iload (pc := 114) hx hb dX12_shortest_114 (lv_at hl 5 rfl) ?_
      refine lv_iconst (pc := 116) (v := 1) hx hb dX12_shortest_116 (by decide) ?_
      refine g_cVi (pc := 117) C hM hl.1 yv_X12_grantOf q6_209 (by decide) ce_87 rfl (w_X12_grantOf l G x v5 1 σ _ h) rfl rfl ⟨⟨by decide, by decide⟩, by decide, by decide⟩ (Nat.le_of_ble_eq_true rfl) dX12_shortest_117 (fun r117 s117 H locs h hM => ?_)
      refine g_cSi (pc := 120) C hM hl.1 ys_X12_has q6_194 (w_X12_has l G x (σ 92 (ix (v4 - 1))) r117 s117 _ h) rfl rfl ⟨⟨by decide, by decide⟩, by decide, by decide⟩ (Nat.le_of_ble_eq_true rfl) dX12_shortest_120 (fun r120 s120 H locs h hM => ?_)
      refine lv_if_eq (pc := 123) (tgt := 138) hx hb dX12_shortest_123 (by decide) (fun c123 => ?_) (fun c123 => ?_)
      · have h := h.1 c123
        refine lv_iconst (pc := 138) (v := 0) hx hb dX12_shortest_138 (by decide) ?_
        refine lv_ior (pc := 139) hx hb dX12_shortest_139 ?_
        obtain ⟨hc, h⟩ := h
        refine g_iastE (pc := 140) C hM (by decide) ce_92 hc rfl dX12_shortest_140 (fun s140 es140 H locs hM => ?_)
        have h := h s140 es140
        refine lv_iinc (pc := 141) (v := (v5 + 1)) (lv' := [(5, .int (v5 + 1)), (6, .int t0), (0, .ref (g_ad G 87)), (2, .int a2), (3, .int a3), (4, .int v4)]) hx hb dX12_shortest_141 hl (k := 5) rfl (by rfl) (by decide) rfl (fun ls hl => ?_)
        refine lv_goto (pc := 144) (tgt := 36) hx hb dX12_shortest_144 (by decide) ?_
        exact h _ _ _ hM (lv_sub hl [2, 3, 4, 5, 0] rfl)
      · have h := h.2 c123
        refine lv_iconst (pc := 126) (v := 1) hx hb dX12_shortest_126 (by decide) ?_
        refine lv_aload_n (pc := 127) hx hb dX12_shortest_127 rfl (lv_at hl 1 rfl) ?_
        refine lv_iload (pc := 128) hx hb dX12_shortest_128 (lv_at hl 5 rfl) ?_
        refine lv_iconst (pc := 130) (v := 0) hx hb dX12_shortest_130 (by decide) ?_
        refine g_cVi (pc := 131) C hM hl.1 yv_X12_grantOf q6_209 (by decide) ce_87 rfl (w_X12_grantOf l G x v5 0 s120 _ h) rfl rfl ⟨⟨by decide, by decide⟩, by decide, by decide⟩ (Nat.le_of_ble_eq_true rfl) dX12_shortest_131 (fun r131 s131 H locs h hM => ?_)
        refine lv_ishl (pc := 134) hx hb dX12_shortest_134 ?_
        refine lv_goto (pc := 135) (tgt := 139) hx hb dX12_shortest_135 (by decide) ?_
        refine lv_ior (pc := 139) hx hb dX12_shortest_139 ?_
        obtain ⟨hc, h⟩ := h
        refine g_iastE (pc := 140) C hM (by decide) ce_92 hc rfl dX12_shortest_140 (fun s140 es140 H locs hM => ?_)
        have h := h s140 es140
        refine lv_iinc (pc := 141) (v := (v5 + 1)) (lv' := [(5, .int (v5 + 1)), (6, .int t0), (0, .ref (g_ad G 87)), (2, .int a2), (3, .int a3), (4, .int v4)]) hx hb dX12_shortest_141 hl (k := 5) rfl (by rfl) (by decide) rfl (fun ls hl => ?_)
        refine lv_goto (pc := 144) (tgt := 36) hx hb dX12_shortest_144 (by decide) ?_
        exact h _ _ _ hM (lv_sub hl [2, 3, 4, 5, 0] rfl))
  refine lv_iload_n (pc := 0) hx hb dX12_shortest_0 rfl (lv_at hl 1 rfl) ?_
  refine lv_if_ne (pc := 1) (tgt := 6) hx hb dX12_shortest_1 (by decide) (fun c1 => ?_) (fun c1 => ?_)
  · have h := h.2 c1
    refine lv_aload_n (pc := 6) hx hb dX12_shortest_6 rfl (lv_at hl 0 rfl) ?_
    refine g_get (pc := 7) (v := .ref (g_ad G 92)) C hM (by decide) ce_87 fl_RX12_22 rfl dX12_shortest_7 ?_
    refine lv_iconst (pc := 10) (v := 0) hx hb dX12_shortest_10 (by decide) ?_
    refine lv_iconst (pc := 11) (v := 1) hx hb dX12_shortest_11 (by decide) ?_
    refine lv_iload_n (pc := 12) hx hb dX12_shortest_12 rfl (lv_at hl 1 rfl) ?_
    refine lv_ishl (pc := 13) hx hb dX12_shortest_13 ?_
    refine g_iastE (pc := 14) (k := 0) C hM (by decide) ce_92 (vp_in_nI (n := 0) (by decide) (by decide)) rfl dX12_shortest_14 (fun s14 es14 H locs hM => ?_)
    have h := h s14 es14
    refine lv_iconst (pc := 15) (v := 1) hx hb dX12_shortest_15 (by decide) ?_
    refine lv_istore (pc := 16) (lv' := [(4, .int 1), (0, .ref (g_ad G 87)), (1, .int a1), (2, .int a2), (3, .int a3)]) hx hb dX12_shortest_16 hl (by decide) rfl (fun ls hl => ?_)
    exact h _ _ _ hM (lv_sub hl [1, 3, 4, 0] rfl)
  · have h := h.1 c1
    refine lv_iconst (pc := 4) (v := 0) hx hb dX12_shortest_4 (by decide) ?_
    exact hret 5 _ _ _ _ _ dX12_shortest_5 (by rfl) h hM
abbrev rm_X12_onward : Room := { frames := 2, cells := 0, slots := 0, locals := 46 }
theorem dX12_onward_0 : decode cX12_onward 0 = .ok (.iconst 0, 1) := by decide +kernel
theorem dX12_onward_1 : decode cX12_onward 1 = .ok (.istore 4, 2) := by decide +kernel
theorem dX12_onward_3 : decode cX12_onward 3 = .ok (.iload 4, 2) := by decide +kernel
theorem dX12_onward_5 : decode cX12_onward 5 = .ok (.bipush 10, 2) := by decide +kernel
theorem dX12_onward_7 : decode cX12_onward 7 = .ok (.if_icmp .ge 70, 3) := by decide +kernel
theorem dX12_onward_10 : decode cX12_onward 10 = .ok (.aload_n 0, 1) := by decide +kernel
theorem dX12_onward_11 : decode cX12_onward 11 = .ok (.iload_n 1, 1) := by decide +kernel
theorem dX12_onward_12 : decode cX12_onward 12 = .ok (.iload 4, 2) := by decide +kernel
theorem dX12_onward_14 : decode cX12_onward 14 = .ok (.iload_n 2, 1) := by decide +kernel
theorem dX12_onward_15 : decode cX12_onward 15 = .ok (.invokevirtual 143, 3) := by decide +kernel
theorem dX12_onward_18 : decode cX12_onward 18 = .ok (.istore 5, 2) := by decide +kernel
theorem dX12_onward_20 : decode cX12_onward 20 = .ok (.iload 5, 2) := by decide +kernel
theorem dX12_onward_22 : decode cX12_onward 22 = .ok (.ifCond .lt 49, 3) := by decide +kernel
theorem dX12_onward_25 : decode cX12_onward 25 = .ok (.aload_n 0, 1) := by decide +kernel
theorem dX12_onward_26 : decode cX12_onward 26 = .ok (.iload 5, 2) := by decide +kernel
theorem dX12_onward_28 : decode cX12_onward 28 = .ok (.iconst 4, 1) := by decide +kernel
theorem dX12_onward_29 : decode cX12_onward 29 = .ok (.invokevirtual 140, 3) := by decide +kernel
theorem dX12_onward_32 : decode cX12_onward 32 = .ok (.aload_n 0, 1) := by decide +kernel
theorem dX12_onward_33 : decode cX12_onward 33 = .ok (.getfield 149, 3) := by decide +kernel
theorem dX12_onward_36 : decode cX12_onward 36 = .ok (.if_icmp .lt 35, 3) := by decide +kernel
theorem dX12_onward_39 : decode cX12_onward 39 = .ok (.aload_n 0, 1) := by decide +kernel
theorem dX12_onward_40 : decode cX12_onward 40 = .ok (.iload 5, 2) := by decide +kernel
theorem dX12_onward_42 : decode cX12_onward 42 = .ok (.iconst 3, 1) := by decide +kernel
theorem dX12_onward_43 : decode cX12_onward 43 = .ok (.invokevirtual 140, 3) := by decide +kernel
theorem dX12_onward_46 : decode cX12_onward 46 = .ok (.iload_n 3, 1) := by decide +kernel
theorem dX12_onward_47 : decode cX12_onward 47 = .ok (.iconst 1, 1) := by decide +kernel
theorem dX12_onward_48 : decode cX12_onward 48 = .ok (.isub, 1) := by decide +kernel
theorem dX12_onward_49 : decode cX12_onward 49 = .ok (.if_icmp .lt 22, 3) := by decide +kernel
theorem dX12_onward_52 : decode cX12_onward 52 = .ok (.aload_n 0, 1) := by decide +kernel
theorem dX12_onward_53 : decode cX12_onward 53 = .ok (.getfield 22, 3) := by decide +kernel
theorem dX12_onward_56 : decode cX12_onward 56 = .ok (.iload_n 3, 1) := by decide +kernel
theorem dX12_onward_57 : decode cX12_onward 57 = .ok (.iconst 1, 1) := by decide +kernel
theorem dX12_onward_58 : decode cX12_onward 58 = .ok (.isub, 1) := by decide +kernel
theorem dX12_onward_59 : decode cX12_onward 59 = .ok (.iaload, 1) := by decide +kernel
theorem dX12_onward_60 : decode cX12_onward 60 = .ok (.iload 4, 2) := by decide +kernel
theorem dX12_onward_62 : decode cX12_onward 62 = .ok (.invokestatic 129, 3) := by decide +kernel
theorem dX12_onward_65 : decode cX12_onward 65 = .ok (.ifCond .eq 6, 3) := by decide +kernel
theorem dX12_onward_68 : decode cX12_onward 68 = .ok (.iload 4, 2) := by decide +kernel
theorem dX12_onward_70 : decode cX12_onward 70 = .ok (.ireturn, 1) := by decide +kernel
theorem dX12_onward_71 : decode cX12_onward 71 = .ok (.iinc 4 1, 3) := by decide +kernel
theorem dX12_onward_74 : decode cX12_onward 74 = .ok (.goto (-71), 3) := by decide +kernel
theorem dX12_onward_77 : decode cX12_onward 77 = .ok (.iconst (-1), 1) := by decide +kernel
theorem dX12_onward_78 : decode cX12_onward 78 = .ok (.ireturn, 1) := by decide +kernel
set_option maxHeartbeats 4000000 in
set_option maxRecDepth 100000 in
theorem w_X12_onward (l : Launch) (G : GP) (x : XP) (a1 : Int32) (a2 : Int32) (a3 : Int32) (σ : Sto) (P : Int32 → Sto → Prop) (h : D_X12_onward a1 a2 a3 σ P) : g_Meti l yX12_onward cX12_onward 6 (some .int) rm_X12_onward G x [.ref (g_ad G 87), .int a1, .int a2, .int a3] σ P := by
  unfold D_X12_onward at h
  refine g_ofWi (by decide +kernel) (Nat.le_of_ble_eq_true rfl) ?_
  intro p e s m args below meth c Q ls C hM hl hret
  have hx := C.1
  have hb := C.2.1
  have hl : lv_has ls 6 [(0, .ref (g_ad G 87)), (1, .int a1), (2, .int a2), (3, .int a3)] := hl
  have h := h (fun (v4 : Int32) (σ : Sto) => ∀ (H : Heap) (locs : List Loc) (ls : Array Slot), g_M G x σ s H locs → lv_has ls 6 [(0, .ref (g_ad G 87)), (1, .int a1), (2, .int a2), (3, .int a3), (4, .int v4)] → W p l e rm_X12_onward s m args below meth c H locs 0 0 Q (F0 m 3 ls []))
  have h := h (by
    intro v4 σ h  H locs ls hM hl
    refine lv_iload (pc := 3) hx hb dX12_onward_3 (lv_at hl 4 rfl) ?_
    refine lv_bipush (pc := 5) (v := 10) hx hb dX12_onward_5 (by decide) ?_
    refine lv_icmp_ge (pc := 7) (tgt := 77) hx hb dX12_onward_7 (by decide) (fun c7 => ?_) (fun c7 => ?_)
    · have h := h.1 c7
      refine lv_iconst (pc := 77) (v := (-1)) hx hb dX12_onward_77 (by decide) ?_
      exact hret 78 _ _ _ _ _ dX12_onward_78 (by rfl) h hM
    · have h := h.2 c7
      refine lv_aload_n (pc := 10) hx hb dX12_onward_10 rfl (lv_at hl 0 rfl) ?_
      refine lv_iload_n (pc := 11) hx hb dX12_onward_11 rfl (lv_at hl 1 rfl) ?_
      refine lv_iload (pc := 12) hx hb dX12_onward_12 (lv_at hl 4 rfl) ?_
      refine lv_iload_n (pc := 14) hx hb dX12_onward_14 rfl (lv_at hl 2 rfl) ?_
      refine g_cVi (pc := 15) C hM hl.1 yv_X12_grantWith q6_205 (by decide) ce_87 rfl (w_X12_grantWith l G x a1 v4 a2 σ _ h) rfl rfl ⟨⟨by decide, by decide⟩, by decide, by decide⟩ (Nat.le_of_ble_eq_true rfl) dX12_onward_15 (fun r15 s15 H locs h hM => ?_)
      refine lv_istore (pc := 18) (lv' := [(5, .int r15), (0, .ref (g_ad G 87)), (1, .int a1), (2, .int a2), (3, .int a3), (4, .int v4)]) hx hb dX12_onward_18 hl (by decide) rfl (fun ls hl => ?_)
      refine lv_iload (pc := 20) hx hb dX12_onward_20 (lv_at hl 0 rfl) ?_
      refine lv_if_lt (pc := 22) (tgt := 71) hx hb dX12_onward_22 (by decide) (fun c22 => ?_) (fun c22 => ?_)
      · have h := h.1 c22
        refine lv_iinc (pc := 71) (v := (v4 + 1)) (lv' := [(4, .int (v4 + 1)), (5, .int r15), (0, .ref (g_ad G 87)), (1, .int a1), (2, .int a2), (3, .int a3)]) hx hb dX12_onward_71 hl (k := 5) rfl (by rfl) (by decide) rfl (fun ls hl => ?_)
        refine lv_goto (pc := 74) (tgt := 3) hx hb dX12_onward_74 (by decide) ?_
        exact h _ _ _ hM (lv_sub hl [2, 3, 4, 5, 0] rfl)
      · have h := h.2 c22
        refine lv_aload_n (pc := 25) hx hb dX12_onward_25 rfl (lv_at hl 1 rfl) ?_
        refine lv_iload (pc := 26) hx hb dX12_onward_26 (lv_at hl 0 rfl) ?_
        refine lv_iconst (pc := 28) (v := 4) hx hb dX12_onward_28 (by decide) ?_
        refine g_cVi (pc := 29) C hM hl.1 yv_X12_grantOf q6_209 (by decide) ce_87 rfl (w_X12_grantOf l G x r15 4 s15 _ h) rfl rfl ⟨⟨by decide, by decide⟩, by decide, by decide⟩ (Nat.le_of_ble_eq_true rfl) dX12_onward_29 (fun r29 s29 H locs h hM => ?_)
        refine lv_aload_n (pc := 32) hx hb dX12_onward_32 rfl (lv_at hl 1 rfl) ?_
        refine g_get (pc := 33) (v := .int (s29 87 5)) C hM (by decide) ce_87 fl_RX12_149 rfl dX12_onward_33 ?_
        refine lv_icmp_lt (pc := 36) (tgt := 71) hx hb dX12_onward_36 (by decide) (fun c36 => ?_) (fun c36 => ?_)
        · have h := h.1 c36
          refine lv_iinc (pc := 71) (v := (v4 + 1)) (lv' := [(4, .int (v4 + 1)), (5, .int r15), (0, .ref (g_ad G 87)), (1, .int a1), (2, .int a2), (3, .int a3)]) hx hb dX12_onward_71 hl (k := 5) rfl (by rfl) (by decide) rfl (fun ls hl => ?_)
          refine lv_goto (pc := 74) (tgt := 3) hx hb dX12_onward_74 (by decide) ?_
          exact h _ _ _ hM (lv_sub hl [2, 3, 4, 5, 0] rfl)
        · have h := h.2 c36
          refine lv_aload_n (pc := 39) hx hb dX12_onward_39 rfl (lv_at hl 1 rfl) ?_
          refine lv_iload (pc := 40) hx hb dX12_onward_40 (lv_at hl 0 rfl) ?_
          refine lv_iconst (pc := 42) (v := 3) hx hb dX12_onward_42 (by decide) ?_
          refine g_cVi (pc := 43) C hM hl.1 yv_X12_grantOf q6_209 (by decide) ce_87 rfl (w_X12_grantOf l G x r15 3 s29 _ h) rfl rfl ⟨⟨by decide, by decide⟩, by decide, by decide⟩ (Nat.le_of_ble_eq_true rfl) dX12_onward_43 (fun r43 s43 H locs h hM => ?_)
          refine lv_iload_n (pc := 46) hx hb dX12_onward_46 rfl (lv_at hl 4 rfl) ?_
          refine lv_iconst (pc := 47) (v := 1) hx hb dX12_onward_47 (by decide) ?_
          refine lv_isub (pc := 48) hx hb dX12_onward_48 ?_
          refine lv_icmp_lt (pc := 49) (tgt := 71) hx hb dX12_onward_49 (by decide) (fun c49 => ?_) (fun c49 => ?_)
          · have h := h.1 c49
            refine lv_iinc (pc := 71) (v := (v4 + 1)) (lv' := [(4, .int (v4 + 1)), (5, .int r15), (0, .ref (g_ad G 87)), (1, .int a1), (2, .int a2), (3, .int a3)]) hx hb dX12_onward_71 hl (k := 5) rfl (by rfl) (by decide) rfl (fun ls hl => ?_)
            refine lv_goto (pc := 74) (tgt := 3) hx hb dX12_onward_74 (by decide) ?_
            exact h _ _ _ hM (lv_sub hl [2, 3, 4, 5, 0] rfl)
          · have h := h.2 c49
            refine lv_aload_n (pc := 52) hx hb dX12_onward_52 rfl (lv_at hl 1 rfl) ?_
            refine g_get (pc := 53) (v := .ref (g_ad G 92)) C hM (by decide) ce_87 fl_RX12_22 rfl dX12_onward_53 ?_
            refine lv_iload_n (pc := 56) hx hb dX12_onward_56 rfl (lv_at hl 4 rfl) ?_
            refine lv_iconst (pc := 57) (v := 1) hx hb dX12_onward_57 (by decide) ?_
            refine lv_isub (pc := 58) hx hb dX12_onward_58 ?_
            obtain ⟨hc, h⟩ := h
            refine g_ialdK (pc := 59) C hM (by decide) ce_92 hc rfl dX12_onward_59 ?_
            refine lv_iload (pc := 60) hx hb dX12_onward_60 (lv_at hl 5 rfl) ?_
            refine g_cSi (pc := 62) C hM hl.1 ys_X12_has q6_194 (w_X12_has l G x (s43 92 (ix (a3 - 1))) v4 s43 _ h) rfl rfl ⟨⟨by decide, by decide⟩, by decide, by decide⟩ (Nat.le_of_ble_eq_true rfl) dX12_onward_62 (fun r62 s62 H locs h hM => ?_)
            refine lv_if_eq (pc := 65) (tgt := 71) hx hb dX12_onward_65 (by decide) (fun c65 => ?_) (fun c65 => ?_)
            · have h := h.1 c65
              refine lv_iinc (pc := 71) (v := (v4 + 1)) (lv' := [(4, .int (v4 + 1)), (5, .int r15), (0, .ref (g_ad G 87)), (1, .int a1), (2, .int a2), (3, .int a3)]) hx hb dX12_onward_71 hl (k := 5) rfl (by rfl) (by decide) rfl (fun ls hl => ?_)
              refine lv_goto (pc := 74) (tgt := 3) hx hb dX12_onward_74 (by decide) ?_
              exact h _ _ _ hM (lv_sub hl [2, 3, 4, 5, 0] rfl)
            · have h := h.2 c65
              refine lv_iload (pc := 68) hx hb dX12_onward_68 (lv_at hl 5 rfl) ?_
              exact hret 70 _ _ _ _ _ dX12_onward_70 (by rfl) h hM)
  refine lv_iconst (pc := 0) (v := 0) hx hb dX12_onward_0 (by decide) ?_
  refine lv_istore (pc := 1) (lv' := [(4, .int 0), (0, .ref (g_ad G 87)), (1, .int a1), (2, .int a2), (3, .int a3)]) hx hb dX12_onward_1 hl (by decide) rfl (fun ls hl => ?_)
  exact h _ _ _ hM (lv_sub hl [1, 2, 3, 4, 0] rfl)
abbrev rm_X12_usedBy : Room := { frames := 2, cells := 0, slots := 0, locals := 48 }
theorem dX12_usedBy_0 : decode cX12_usedBy 0 = .ok (.iconst 0, 1) := by decide +kernel
theorem dX12_usedBy_1 : decode cX12_usedBy 1 = .ok (.istore_n 2, 1) := by decide +kernel
theorem dX12_usedBy_2 : decode cX12_usedBy 2 = .ok (.iconst 0, 1) := by decide +kernel
theorem dX12_usedBy_3 : decode cX12_usedBy 3 = .ok (.istore_n 3, 1) := by decide +kernel
theorem dX12_usedBy_4 : decode cX12_usedBy 4 = .ok (.iload_n 3, 1) := by decide +kernel
theorem dX12_usedBy_5 : decode cX12_usedBy 5 = .ok (.iconst 4, 1) := by decide +kernel
theorem dX12_usedBy_6 : decode cX12_usedBy 6 = .ok (.if_icmp .ge 32, 3) := by decide +kernel
theorem dX12_usedBy_9 : decode cX12_usedBy 9 = .ok (.iload_n 2, 1) := by decide +kernel
theorem dX12_usedBy_10 : decode cX12_usedBy 10 = .ok (.aload_n 0, 1) := by decide +kernel
theorem dX12_usedBy_11 : decode cX12_usedBy 11 = .ok (.iload_n 1, 1) := by decide +kernel
theorem dX12_usedBy_12 : decode cX12_usedBy 12 = .ok (.iload_n 3, 1) := by decide +kernel
theorem dX12_usedBy_13 : decode cX12_usedBy 13 = .ok (.aload_n 0, 1) := by decide +kernel
theorem dX12_usedBy_14 : decode cX12_usedBy 14 = .ok (.getfield 149, 3) := by decide +kernel
theorem dX12_usedBy_17 : decode cX12_usedBy 17 = .ok (.invokevirtual 156, 3) := by decide +kernel
theorem dX12_usedBy_20 : decode cX12_usedBy 20 = .ok (.ifCond .lt 9, 3) := by decide +kernel
theorem dX12_usedBy_23 : decode cX12_usedBy 23 = .ok (.iconst 1, 1) := by decide +kernel
theorem dX12_usedBy_24 : decode cX12_usedBy 24 = .ok (.iload_n 3, 1) := by decide +kernel
theorem dX12_usedBy_25 : decode cX12_usedBy 25 = .ok (.ishl, 1) := by decide +kernel
theorem dX12_usedBy_26 : decode cX12_usedBy 26 = .ok (.goto 4, 3) := by decide +kernel
theorem dX12_usedBy_29 : decode cX12_usedBy 29 = .ok (.iconst 0, 1) := by decide +kernel
theorem dX12_usedBy_30 : decode cX12_usedBy 30 = .ok (.ior, 1) := by decide +kernel
theorem dX12_usedBy_31 : decode cX12_usedBy 31 = .ok (.istore_n 2, 1) := by decide +kernel
theorem dX12_usedBy_32 : decode cX12_usedBy 32 = .ok (.iinc 3 1, 3) := by decide +kernel
theorem dX12_usedBy_35 : decode cX12_usedBy 35 = .ok (.goto (-31), 3) := by decide +kernel
theorem dX12_usedBy_38 : decode cX12_usedBy 38 = .ok (.iload_n 2, 1) := by decide +kernel
theorem dX12_usedBy_39 : decode cX12_usedBy 39 = .ok (.ireturn, 1) := by decide +kernel
set_option maxHeartbeats 4000000 in
set_option maxRecDepth 100000 in
theorem w_X12_usedBy (l : Launch) (G : GP) (x : XP) (a1 : Int32) (σ : Sto) (P : Int32 → Sto → Prop) (h : D_X12_usedBy a1 σ P) : g_Meti l yX12_usedBy cX12_usedBy 4 (some .int) rm_X12_usedBy G x [.ref (g_ad G 87), .int a1] σ P := by
  unfold D_X12_usedBy at h
  refine g_ofWi (by decide +kernel) (Nat.le_of_ble_eq_true rfl) ?_
  intro p e s m args below meth c Q ls C hM hl hret
  have hx := C.1
  have hb := C.2.1
  have hl : lv_has ls 4 [(0, .ref (g_ad G 87)), (1, .int a1)] := hl
  have h := h (fun (v2 : Int32) (v3 : Int32) (σ : Sto) => ∀ (H : Heap) (locs : List Loc) (ls : Array Slot), g_M G x σ s H locs → lv_has ls 4 [(0, .ref (g_ad G 87)), (1, .int a1), (2, .int v2), (3, .int v3)] → W p l e rm_X12_usedBy s m args below meth c H locs 0 0 Q (F0 m 4 ls []))
  have h := h (by
    intro v2 v3 σ h  H locs ls hM hl
    refine lv_iload_n (pc := 4) hx hb dX12_usedBy_4 rfl (lv_at hl 3 rfl) ?_
    refine lv_iconst (pc := 5) (v := 4) hx hb dX12_usedBy_5 (by decide) ?_
    refine lv_icmp_ge (pc := 6) (tgt := 38) hx hb dX12_usedBy_6 (by decide) (fun c6 => ?_) (fun c6 => ?_)
    · have h := h.1 c6
      refine lv_iload_n (pc := 38) hx hb dX12_usedBy_38 rfl (lv_at hl 2 rfl) ?_
      exact hret 39 _ _ _ _ _ dX12_usedBy_39 (by rfl) h hM
    · have h := h.2 c6
      refine lv_iload_n (pc := 9) hx hb dX12_usedBy_9 rfl (lv_at hl 2 rfl) ?_
      refine lv_aload_n (pc := 10) hx hb dX12_usedBy_10 rfl (lv_at hl 0 rfl) ?_
      refine lv_iload_n (pc := 11) hx hb dX12_usedBy_11 rfl (lv_at hl 1 rfl) ?_
      refine lv_iload_n (pc := 12) hx hb dX12_usedBy_12 rfl (lv_at hl 3 rfl) ?_
      refine lv_aload_n (pc := 13) hx hb dX12_usedBy_13 rfl (lv_at hl 0 rfl) ?_
      refine g_get (pc := 14) (v := .int (σ 87 5)) C hM (by decide) ce_87 fl_RX12_149 rfl dX12_usedBy_14 ?_
      refine g_cVi (pc := 17) C hM hl.1 yv_X12_shortest q7_0 (by decide) ce_87 rfl (w_X12_shortest l G x a1 v3 (σ 87 5) σ _ h) rfl rfl ⟨⟨by decide, by decide⟩, by decide, by decide⟩ (Nat.le_of_ble_eq_true rfl) dX12_usedBy_17 (fun r17 s17 H locs h hM => ?_)
      refine lv_if_lt (pc := 20) (tgt := 29) hx hb dX12_usedBy_20 (by decide) (fun c20 => ?_) (fun c20 => ?_)
      · have h := h.1 c20
        refine lv_iconst (pc := 29) (v := 0) hx hb dX12_usedBy_29 (by decide) ?_
        refine lv_ior (pc := 30) hx hb dX12_usedBy_30 ?_
        refine lv_istore_n (pc := 31) (lv' := [(2, .int (v2 ||| 0)), (0, .ref (g_ad G 87)), (1, .int a1), (3, .int v3)]) hx hb dX12_usedBy_31 rfl hl (by decide) rfl (fun ls hl => ?_)
        refine lv_iinc (pc := 32) (v := (v3 + 1)) (lv' := [(3, .int (v3 + 1)), (2, .int (v2 ||| 0)), (0, .ref (g_ad G 87)), (1, .int a1)]) hx hb dX12_usedBy_32 hl (k := 3) rfl (by rfl) (by decide) rfl (fun ls hl => ?_)
        refine lv_goto (pc := 35) (tgt := 4) hx hb dX12_usedBy_35 (by decide) ?_
        exact h _ _ _ hM (lv_sub hl [2, 3, 1, 0] rfl)
      · have h := h.2 c20
        refine lv_iconst (pc := 23) (v := 1) hx hb dX12_usedBy_23 (by decide) ?_
        refine lv_iload_n (pc := 24) hx hb dX12_usedBy_24 rfl (lv_at hl 3 rfl) ?_
        refine lv_ishl (pc := 25) hx hb dX12_usedBy_25 ?_
        refine lv_goto (pc := 26) (tgt := 30) hx hb dX12_usedBy_26 (by decide) ?_
        refine lv_ior (pc := 30) hx hb dX12_usedBy_30 ?_
        refine lv_topi (fun v2_31 ev2_31 => ?_)
        have h := h v2_31 ev2_31
        refine lv_istore_n (pc := 31) (lv' := [(2, .int v2_31), (0, .ref (g_ad G 87)), (1, .int a1), (3, .int v3)]) hx hb dX12_usedBy_31 rfl hl (by decide) rfl (fun ls hl => ?_)
        refine lv_iinc (pc := 32) (v := (v3 + 1)) (lv' := [(3, .int (v3 + 1)), (2, .int v2_31), (0, .ref (g_ad G 87)), (1, .int a1)]) hx hb dX12_usedBy_32 hl (k := 3) rfl (by rfl) (by decide) rfl (fun ls hl => ?_)
        refine lv_goto (pc := 35) (tgt := 4) hx hb dX12_usedBy_35 (by decide) ?_
        exact h _ _ _ hM (lv_sub hl [2, 3, 1, 0] rfl))
  refine lv_iconst (pc := 0) (v := 0) hx hb dX12_usedBy_0 (by decide) ?_
  refine lv_istore_n (pc := 1) (lv' := [(2, .int 0), (0, .ref (g_ad G 87)), (1, .int a1)]) hx hb dX12_usedBy_1 rfl hl (by decide) rfl (fun ls hl => ?_)
  refine lv_iconst (pc := 2) (v := 0) hx hb dX12_usedBy_2 (by decide) ?_
  refine lv_istore_n (pc := 3) (lv' := [(3, .int 0), (2, .int 0), (0, .ref (g_ad G 87)), (1, .int a1)]) hx hb dX12_usedBy_3 rfl hl (by decide) rfl (fun ls hl => ?_)
  exact h _ _ _ hM (lv_sub hl [2, 3, 1, 0] rfl)
abbrev rm_X12_policies : Room := { frames := 3, cells := 0, slots := 0, locals := 71 }
theorem dX12_policies_0 : decode cX12_policies 0 = .ok (.aload_n 0, 1) := by decide +kernel
theorem dX12_policies_1 : decode cX12_policies 1 = .ok (.iload_n 1, 1) := by decide +kernel
theorem dX12_policies_2 : decode cX12_policies 2 = .ok (.invokestatic 146, 3) := by decide +kernel
theorem dX12_policies_5 : decode cX12_policies 5 = .ok (.ifCond .eq 7, 3) := by decide +kernel
theorem dX12_policies_8 : decode cX12_policies 8 = .ok (.iconst 0, 1) := by decide +kernel
theorem dX12_policies_9 : decode cX12_policies 9 = .ok (.goto 4, 3) := by decide +kernel
theorem dX12_policies_12 : decode cX12_policies 12 = .ok (.iconst 1, 1) := by decide +kernel
theorem dX12_policies_13 : decode cX12_policies 13 = .ok (.putfield 68, 3) := by decide +kernel
theorem dX12_policies_16 : decode cX12_policies 16 = .ok (.aload_n 0, 1) := by decide +kernel
theorem dX12_policies_17 : decode cX12_policies 17 = .ok (.getfield 68, 3) := by decide +kernel
theorem dX12_policies_20 : decode cX12_policies 20 = .ok (.ifCond .le 7, 3) := by decide +kernel
theorem dX12_policies_23 : decode cX12_policies 23 = .ok (.iconst 0, 1) := by decide +kernel
theorem dX12_policies_24 : decode cX12_policies 24 = .ok (.goto 8, 3) := by decide +kernel
theorem dX12_policies_27 : decode cX12_policies 27 = .ok (.aload_n 0, 1) := by decide +kernel
theorem dX12_policies_28 : decode cX12_policies 28 = .ok (.iload_n 1, 1) := by decide +kernel
theorem dX12_policies_29 : decode cX12_policies 29 = .ok (.invokevirtual 159, 3) := by decide +kernel
theorem dX12_policies_32 : decode cX12_policies 32 = .ok (.ireturn, 1) := by decide +kernel
set_option maxHeartbeats 4000000 in
set_option maxRecDepth 100000 in
theorem w_X12_policies (l : Launch) (G : GP) (x : XP) (a1 : Int32) (σ : Sto) (P : Int32 → Sto → Prop) (h : D_X12_policies a1 σ P) : g_Meti l yX12_policies cX12_policies 2 (some .int) rm_X12_policies G x [.ref (g_ad G 87), .int a1] σ P := by
  unfold D_X12_policies at h
  refine g_ofWi (by decide +kernel) (Nat.le_of_ble_eq_true rfl) ?_
  intro p e s m args below meth c Q ls C hM hl hret
  have hx := C.1
  have hb := C.2.1
  have hl : lv_has ls 2 [(0, .ref (g_ad G 87)), (1, .int a1)] := hl
  refine lv_aload_n (pc := 0) hx hb dX12_policies_0 rfl (lv_at hl 0 rfl) ?_
  refine lv_iload_n (pc := 1) hx hb dX12_policies_1 rfl (lv_at hl 1 rfl) ?_
  refine g_cSi (pc := 2) C hM hl.1 ys_X12_isSubject q6_213 (w_X12_isSubject l G x a1 σ _ h) rfl rfl ⟨⟨by decide, by decide⟩, by decide, by decide⟩ (Nat.le_of_ble_eq_true rfl) dX12_policies_2 (fun r2 s2 H locs h hM => ?_)
  refine lv_if_eq (pc := 5) (tgt := 12) hx hb dX12_policies_5 (by decide) (fun c5 => ?_) (fun c5 => ?_)
  · have h := h.1 c5
    refine lv_iconst (pc := 12) (v := 1) hx hb dX12_policies_12 (by decide) ?_
    refine g_putE (pc := 13) C hM (by decide) ce_87 fp_RX12_68 rfl rfl (Nat.le_of_ble_eq_true rfl) rfl dX12_policies_13 (fun s13 es13 H locs hM => ?_)
    have h := h s13 es13
    refine lv_aload_n (pc := 16) hx hb dX12_policies_16 rfl (lv_at hl 0 rfl) ?_
    refine g_get (pc := 17) (v := .int (s13 87 8)) C hM (by decide) ce_87 fl_RX12_68 rfl dX12_policies_17 ?_
    refine lv_if_le (pc := 20) (tgt := 27) hx hb dX12_policies_20 (by decide) (fun c20 => ?_) (fun c20 => ?_)
    · have h := h.1 c20
      refine lv_aload_n (pc := 27) hx hb dX12_policies_27 rfl (lv_at hl 0 rfl) ?_
      refine lv_iload_n (pc := 28) hx hb dX12_policies_28 rfl (lv_at hl 1 rfl) ?_
      refine g_cVi (pc := 29) C hM hl.1 yv_X12_usedBy q6_236 (by decide) ce_87 rfl (w_X12_usedBy l G x a1 s13 _ h) rfl rfl ⟨⟨by decide, by decide⟩, by decide, by decide⟩ (Nat.le_of_ble_eq_true rfl) dX12_policies_29 (fun r29 s29 H locs h hM => ?_)
      exact hret 32 _ _ _ _ _ dX12_policies_32 (by rfl) h hM
    · have h := h.2 c20
      refine lv_iconst (pc := 23) (v := 0) hx hb dX12_policies_23 (by decide) ?_
      refine lv_goto (pc := 24) (tgt := 32) hx hb dX12_policies_24 (by decide) ?_
      exact hret 32 _ _ _ _ _ dX12_policies_32 (by rfl) h hM
  · have h := h.2 c5
    refine lv_iconst (pc := 8) (v := 0) hx hb dX12_policies_8 (by decide) ?_
    refine lv_goto (pc := 9) (tgt := 13) hx hb dX12_policies_9 (by decide) ?_
    refine g_putE (pc := 13) C hM (by decide) ce_87 fp_RX12_68 rfl rfl (Nat.le_of_ble_eq_true rfl) rfl dX12_policies_13 (fun s13 es13 H locs hM => ?_)
    have h := h s13 es13
    refine lv_aload_n (pc := 16) hx hb dX12_policies_16 rfl (lv_at hl 0 rfl) ?_
    refine g_get (pc := 17) (v := .int (s13 87 8)) C hM (by decide) ce_87 fl_RX12_68 rfl dX12_policies_17 ?_
    refine lv_if_le (pc := 20) (tgt := 27) hx hb dX12_policies_20 (by decide) (fun c20 => ?_) (fun c20 => ?_)
    · have h := h.1 c20
      refine lv_aload_n (pc := 27) hx hb dX12_policies_27 rfl (lv_at hl 0 rfl) ?_
      refine lv_iload_n (pc := 28) hx hb dX12_policies_28 rfl (lv_at hl 1 rfl) ?_
      refine g_cVi (pc := 29) C hM hl.1 yv_X12_usedBy q6_236 (by decide) ce_87 rfl (w_X12_usedBy l G x a1 s13 _ h) rfl rfl ⟨⟨by decide, by decide⟩, by decide, by decide⟩ (Nat.le_of_ble_eq_true rfl) dX12_policies_29 (fun r29 s29 H locs h hM => ?_)
      exact hret 32 _ _ _ _ _ dX12_policies_32 (by rfl) h hM
    · have h := h.2 c20
      refine lv_iconst (pc := 23) (v := 0) hx hb dX12_policies_23 (by decide) ?_
      refine lv_goto (pc := 24) (tgt := 32) hx hb dX12_policies_24 (by decide) ?_
      exact hret 32 _ _ _ _ _ dX12_policies_32 (by rfl) h hM
abbrev rm_X12_chainLength : Room := { frames := 2, cells := 0, slots := 0, locals := 48 }
theorem dX12_chainLength_0 : decode cX12_chainLength 0 = .ok (.aload_n 0, 1) := by decide +kernel
theorem dX12_chainLength_1 : decode cX12_chainLength 1 = .ok (.iload_n 1, 1) := by decide +kernel
theorem dX12_chainLength_2 : decode cX12_chainLength 2 = .ok (.invokestatic 146, 3) := by decide +kernel
theorem dX12_chainLength_5 : decode cX12_chainLength 5 = .ok (.ifCond .eq 31, 3) := by decide +kernel
theorem dX12_chainLength_8 : decode cX12_chainLength 8 = .ok (.iload_n 2, 1) := by decide +kernel
theorem dX12_chainLength_9 : decode cX12_chainLength 9 = .ok (.invokestatic 86, 3) := by decide +kernel
theorem dX12_chainLength_12 : decode cX12_chainLength 12 = .ok (.ifCond .eq 24, 3) := by decide +kernel
theorem dX12_chainLength_15 : decode cX12_chainLength 15 = .ok (.aload_n 0, 1) := by decide +kernel
theorem dX12_chainLength_16 : decode cX12_chainLength 16 = .ok (.iload_n 1, 1) := by decide +kernel
theorem dX12_chainLength_17 : decode cX12_chainLength 17 = .ok (.iload_n 2, 1) := by decide +kernel
theorem dX12_chainLength_18 : decode cX12_chainLength 18 = .ok (.aload_n 0, 1) := by decide +kernel
theorem dX12_chainLength_19 : decode cX12_chainLength 19 = .ok (.getfield 149, 3) := by decide +kernel
theorem dX12_chainLength_22 : decode cX12_chainLength 22 = .ok (.invokevirtual 156, 3) := by decide +kernel
theorem dX12_chainLength_25 : decode cX12_chainLength 25 = .ok (.ifCond .ge 7, 3) := by decide +kernel
theorem dX12_chainLength_28 : decode cX12_chainLength 28 = .ok (.iconst 2, 1) := by decide +kernel
theorem dX12_chainLength_29 : decode cX12_chainLength 29 = .ok (.goto 8, 3) := by decide +kernel
theorem dX12_chainLength_32 : decode cX12_chainLength 32 = .ok (.iconst 0, 1) := by decide +kernel
theorem dX12_chainLength_33 : decode cX12_chainLength 33 = .ok (.goto 4, 3) := by decide +kernel
theorem dX12_chainLength_36 : decode cX12_chainLength 36 = .ok (.iconst 1, 1) := by decide +kernel
theorem dX12_chainLength_37 : decode cX12_chainLength 37 = .ok (.putfield 68, 3) := by decide +kernel
theorem dX12_chainLength_40 : decode cX12_chainLength 40 = .ok (.aload_n 0, 1) := by decide +kernel
theorem dX12_chainLength_41 : decode cX12_chainLength 41 = .ok (.getfield 68, 3) := by decide +kernel
theorem dX12_chainLength_44 : decode cX12_chainLength 44 = .ok (.ifCond .le 7, 3) := by decide +kernel
theorem dX12_chainLength_47 : decode cX12_chainLength 47 = .ok (.iconst 0, 1) := by decide +kernel
theorem dX12_chainLength_48 : decode cX12_chainLength 48 = .ok (.goto 13, 3) := by decide +kernel
theorem dX12_chainLength_51 : decode cX12_chainLength 51 = .ok (.aload_n 0, 1) := by decide +kernel
theorem dX12_chainLength_52 : decode cX12_chainLength 52 = .ok (.iload_n 1, 1) := by decide +kernel
theorem dX12_chainLength_53 : decode cX12_chainLength 53 = .ok (.iload_n 2, 1) := by decide +kernel
theorem dX12_chainLength_54 : decode cX12_chainLength 54 = .ok (.aload_n 0, 1) := by decide +kernel
theorem dX12_chainLength_55 : decode cX12_chainLength 55 = .ok (.getfield 149, 3) := by decide +kernel
theorem dX12_chainLength_58 : decode cX12_chainLength 58 = .ok (.invokevirtual 156, 3) := by decide +kernel
theorem dX12_chainLength_61 : decode cX12_chainLength 61 = .ok (.ireturn, 1) := by decide +kernel
set_option maxHeartbeats 4000000 in
set_option maxRecDepth 100000 in
theorem w_X12_chainLength (l : Launch) (G : GP) (x : XP) (a1 : Int32) (a2 : Int32) (σ : Sto) (P : Int32 → Sto → Prop) (h : D_X12_chainLength a1 a2 σ P) : g_Meti l yX12_chainLength cX12_chainLength 3 (some .int) rm_X12_chainLength G x [.ref (g_ad G 87), .int a1, .int a2] σ P := by
  unfold D_X12_chainLength at h
  refine g_ofWi (by decide +kernel) (Nat.le_of_ble_eq_true rfl) ?_
  intro p e s m args below meth c Q ls C hM hl hret
  have hx := C.1
  have hb := C.2.1
  have hl : lv_has ls 3 [(0, .ref (g_ad G 87)), (1, .int a1), (2, .int a2)] := hl
  have h := h (fun (σ : Sto) => ∀ (H : Heap) (locs : List Loc) (ls : Array Slot), g_M G x σ s H locs → lv_has ls 3 [(0, .ref (g_ad G 87)), (1, .int a1), (2, .int a2)] → W p l e rm_X12_chainLength s m args below meth c H locs 0 0 Q (F0 m 36 ls [.ref (g_ad G 87)]))
  have h := h (by
    intro σ h  H locs ls hM hl
    refine lv_iconst (pc := 36) (v := 1) hx hb dX12_chainLength_36 (by decide) ?_
    refine g_putE (pc := 37) C hM (by decide) ce_87 fp_RX12_68 rfl rfl (Nat.le_of_ble_eq_true rfl) rfl dX12_chainLength_37 (fun s37 es37 H locs hM => ?_)
    have h := h s37 es37
    refine lv_aload_n (pc := 40) hx hb dX12_chainLength_40 rfl (lv_at hl 0 rfl) ?_
    refine g_get (pc := 41) (v := .int (s37 87 8)) C hM (by decide) ce_87 fl_RX12_68 rfl dX12_chainLength_41 ?_
    refine lv_if_le (pc := 44) (tgt := 51) hx hb dX12_chainLength_44 (by decide) (fun c44 => ?_) (fun c44 => ?_)
    · have h := h.1 c44
      refine lv_aload_n (pc := 51) hx hb dX12_chainLength_51 rfl (lv_at hl 0 rfl) ?_
      refine lv_iload_n (pc := 52) hx hb dX12_chainLength_52 rfl (lv_at hl 1 rfl) ?_
      refine lv_iload_n (pc := 53) hx hb dX12_chainLength_53 rfl (lv_at hl 2 rfl) ?_
      refine lv_aload_n (pc := 54) hx hb dX12_chainLength_54 rfl (lv_at hl 0 rfl) ?_
      refine g_get (pc := 55) (v := .int (s37 87 5)) C hM (by decide) ce_87 fl_RX12_149 rfl dX12_chainLength_55 ?_
      refine g_cVi (pc := 58) C hM hl.1 yv_X12_shortest q7_0 (by decide) ce_87 rfl (w_X12_shortest l G x a1 a2 (s37 87 5) s37 _ h) rfl rfl ⟨⟨by decide, by decide⟩, by decide, by decide⟩ (Nat.le_of_ble_eq_true rfl) dX12_chainLength_58 (fun r58 s58 H locs h hM => ?_)
      exact hret 61 _ _ _ _ _ dX12_chainLength_61 (by rfl) h hM
    · have h := h.2 c44
      refine lv_iconst (pc := 47) (v := 0) hx hb dX12_chainLength_47 (by decide) ?_
      refine lv_goto (pc := 48) (tgt := 61) hx hb dX12_chainLength_48 (by decide) ?_
      exact hret 61 _ _ _ _ _ dX12_chainLength_61 (by rfl) h hM)
  refine lv_aload_n (pc := 0) hx hb dX12_chainLength_0 rfl (lv_at hl 0 rfl) ?_
  refine lv_iload_n (pc := 1) hx hb dX12_chainLength_1 rfl (lv_at hl 1 rfl) ?_
  refine g_cSi (pc := 2) C hM hl.1 ys_X12_isSubject q6_213 (w_X12_isSubject l G x a1 σ _ h) rfl rfl ⟨⟨by decide, by decide⟩, by decide, by decide⟩ (Nat.le_of_ble_eq_true rfl) dX12_chainLength_2 (fun r2 s2 H locs h hM => ?_)
  refine lv_if_eq (pc := 5) (tgt := 36) hx hb dX12_chainLength_5 (by decide) (fun c5 => ?_) (fun c5 => ?_)
  · have h := h.1 c5
    exact h _ _ _ hM (lv_sub hl [0, 1, 2] rfl)
  · have h := h.2 c5
    refine lv_iload_n (pc := 8) hx hb dX12_chainLength_8 rfl (lv_at hl 2 rfl) ?_
    refine g_cSi (pc := 9) C hM hl.1 ys_X12_isPolicy q6_105 (w_X12_isPolicy l G x a2 s2 _ h) rfl rfl ⟨⟨by decide, by decide⟩, by decide, by decide⟩ (Nat.le_of_ble_eq_true rfl) dX12_chainLength_9 (fun r9 s9 H locs h hM => ?_)
    refine lv_if_eq (pc := 12) (tgt := 36) hx hb dX12_chainLength_12 (by decide) (fun c12 => ?_) (fun c12 => ?_)
    · have h := h.1 c12
      exact h _ _ _ hM (lv_sub hl [0, 1, 2] rfl)
    · have h := h.2 c12
      refine lv_aload_n (pc := 15) hx hb dX12_chainLength_15 rfl (lv_at hl 0 rfl) ?_
      refine lv_iload_n (pc := 16) hx hb dX12_chainLength_16 rfl (lv_at hl 1 rfl) ?_
      refine lv_iload_n (pc := 17) hx hb dX12_chainLength_17 rfl (lv_at hl 2 rfl) ?_
      refine lv_aload_n (pc := 18) hx hb dX12_chainLength_18 rfl (lv_at hl 0 rfl) ?_
      refine g_get (pc := 19) (v := .int (s9 87 5)) C hM (by decide) ce_87 fl_RX12_149 rfl dX12_chainLength_19 ?_
      refine g_cVi (pc := 22) C hM hl.1 yv_X12_shortest q7_0 (by decide) ce_87 rfl (w_X12_shortest l G x a1 a2 (s9 87 5) s9 _ h) rfl rfl ⟨⟨by decide, by decide⟩, by decide, by decide⟩ (Nat.le_of_ble_eq_true rfl) dX12_chainLength_22 (fun r22 s22 H locs h hM => ?_)
      refine lv_if_ge (pc := 25) (tgt := 32) hx hb dX12_chainLength_25 (by decide) (fun c25 => ?_) (fun c25 => ?_)
      · have h := h.1 c25
        refine lv_iconst (pc := 32) (v := 0) hx hb dX12_chainLength_32 (by decide) ?_
        refine lv_goto (pc := 33) (tgt := 37) hx hb dX12_chainLength_33 (by decide) ?_
        refine g_putE (pc := 37) C hM (by decide) ce_87 fp_RX12_68 rfl rfl (Nat.le_of_ble_eq_true rfl) rfl dX12_chainLength_37 (fun s37 es37 H locs hM => ?_)
        have h := h s37 es37
        refine lv_aload_n (pc := 40) hx hb dX12_chainLength_40 rfl (lv_at hl 0 rfl) ?_
        refine g_get (pc := 41) (v := .int (s37 87 8)) C hM (by decide) ce_87 fl_RX12_68 rfl dX12_chainLength_41 ?_
        refine lv_if_le (pc := 44) (tgt := 51) hx hb dX12_chainLength_44 (by decide) (fun c44 => ?_) (fun c44 => ?_)
        · have h := h.1 c44
          refine lv_aload_n (pc := 51) hx hb dX12_chainLength_51 rfl (lv_at hl 0 rfl) ?_
          refine lv_iload_n (pc := 52) hx hb dX12_chainLength_52 rfl (lv_at hl 1 rfl) ?_
          refine lv_iload_n (pc := 53) hx hb dX12_chainLength_53 rfl (lv_at hl 2 rfl) ?_
          refine lv_aload_n (pc := 54) hx hb dX12_chainLength_54 rfl (lv_at hl 0 rfl) ?_
          refine g_get (pc := 55) (v := .int (s37 87 5)) C hM (by decide) ce_87 fl_RX12_149 rfl dX12_chainLength_55 ?_
          refine g_cVi (pc := 58) C hM hl.1 yv_X12_shortest q7_0 (by decide) ce_87 rfl (w_X12_shortest l G x a1 a2 (s37 87 5) s37 _ h) rfl rfl ⟨⟨by decide, by decide⟩, by decide, by decide⟩ (Nat.le_of_ble_eq_true rfl) dX12_chainLength_58 (fun r58 s58 H locs h hM => ?_)
          exact hret 61 _ _ _ _ _ dX12_chainLength_61 (by rfl) h hM
        · have h := h.2 c44
          refine lv_iconst (pc := 47) (v := 0) hx hb dX12_chainLength_47 (by decide) ?_
          refine lv_goto (pc := 48) (tgt := 61) hx hb dX12_chainLength_48 (by decide) ?_
          exact hret 61 _ _ _ _ _ dX12_chainLength_61 (by rfl) h hM
      · have h := h.2 c25
        refine lv_iconst (pc := 28) (v := 2) hx hb dX12_chainLength_28 (by decide) ?_
        refine lv_goto (pc := 29) (tgt := 37) hx hb dX12_chainLength_29 (by decide) ?_
        refine g_putE (pc := 37) C hM (by decide) ce_87 fp_RX12_68 rfl rfl (Nat.le_of_ble_eq_true rfl) rfl dX12_chainLength_37 (fun s37 es37 H locs hM => ?_)
        have h := h s37 es37
        refine lv_aload_n (pc := 40) hx hb dX12_chainLength_40 rfl (lv_at hl 0 rfl) ?_
        refine g_get (pc := 41) (v := .int (s37 87 8)) C hM (by decide) ce_87 fl_RX12_68 rfl dX12_chainLength_41 ?_
        refine lv_if_le (pc := 44) (tgt := 51) hx hb dX12_chainLength_44 (by decide) (fun c44 => ?_) (fun c44 => ?_)
        · have h := h.1 c44
          refine lv_aload_n (pc := 51) hx hb dX12_chainLength_51 rfl (lv_at hl 0 rfl) ?_
          refine lv_iload_n (pc := 52) hx hb dX12_chainLength_52 rfl (lv_at hl 1 rfl) ?_
          refine lv_iload_n (pc := 53) hx hb dX12_chainLength_53 rfl (lv_at hl 2 rfl) ?_
          refine lv_aload_n (pc := 54) hx hb dX12_chainLength_54 rfl (lv_at hl 0 rfl) ?_
          refine g_get (pc := 55) (v := .int (s37 87 5)) C hM (by decide) ce_87 fl_RX12_149 rfl dX12_chainLength_55 ?_
          refine g_cVi (pc := 58) C hM hl.1 yv_X12_shortest q7_0 (by decide) ce_87 rfl (w_X12_shortest l G x a1 a2 (s37 87 5) s37 _ h) rfl rfl ⟨⟨by decide, by decide⟩, by decide, by decide⟩ (Nat.le_of_ble_eq_true rfl) dX12_chainLength_58 (fun r58 s58 H locs h hM => ?_)
          exact hret 61 _ _ _ _ _ dX12_chainLength_61 (by rfl) h hM
        · have h := h.2 c44
          refine lv_iconst (pc := 47) (v := 0) hx hb dX12_chainLength_47 (by decide) ?_
          refine lv_goto (pc := 48) (tgt := 61) hx hb dX12_chainLength_48 (by decide) ?_
          exact hret 61 _ _ _ _ _ dX12_chainLength_61 (by rfl) h hM
abbrev rm_X12_chain : Room := { frames := 3, cells := 0, slots := 0, locals := 71 }
theorem dX12_chain_0 : decode cX12_chain 0 = .ok (.aload_n 0, 1) := by decide +kernel
theorem dX12_chain_1 : decode cX12_chain 1 = .ok (.iconst 0, 1) := by decide +kernel
theorem dX12_chain_2 : decode cX12_chain 2 = .ok (.putfield 68, 3) := by decide +kernel
theorem dX12_chain_5 : decode cX12_chain 5 = .ok (.iload_n 1, 1) := by decide +kernel
theorem dX12_chain_6 : decode cX12_chain 6 = .ok (.invokestatic 146, 3) := by decide +kernel
theorem dX12_chain_9 : decode cX12_chain 9 = .ok (.ifCond .eq 10, 3) := by decide +kernel
theorem dX12_chain_12 : decode cX12_chain 12 = .ok (.iload_n 2, 1) := by decide +kernel
theorem dX12_chain_13 : decode cX12_chain 13 = .ok (.invokestatic 86, 3) := by decide +kernel
theorem dX12_chain_16 : decode cX12_chain 16 = .ok (.ifCond .ne 9, 3) := by decide +kernel
theorem dX12_chain_19 : decode cX12_chain 19 = .ok (.aload_n 0, 1) := by decide +kernel
theorem dX12_chain_20 : decode cX12_chain 20 = .ok (.iconst 1, 1) := by decide +kernel
theorem dX12_chain_21 : decode cX12_chain 21 = .ok (.invokevirtual 78, 3) := by decide +kernel
theorem dX12_chain_24 : decode cX12_chain 24 = .ok (.ireturn, 1) := by decide +kernel
theorem dX12_chain_25 : decode cX12_chain 25 = .ok (.aload_n 0, 1) := by decide +kernel
theorem dX12_chain_26 : decode cX12_chain 26 = .ok (.iload_n 1, 1) := by decide +kernel
theorem dX12_chain_27 : decode cX12_chain 27 = .ok (.iload_n 2, 1) := by decide +kernel
theorem dX12_chain_28 : decode cX12_chain 28 = .ok (.aload_n 0, 1) := by decide +kernel
theorem dX12_chain_29 : decode cX12_chain 29 = .ok (.getfield 149, 3) := by decide +kernel
theorem dX12_chain_32 : decode cX12_chain 32 = .ok (.invokevirtual 156, 3) := by decide +kernel
theorem dX12_chain_35 : decode cX12_chain 35 = .ok (.istore 4, 2) := by decide +kernel
theorem dX12_chain_37 : decode cX12_chain 37 = .ok (.iload 4, 2) := by decide +kernel
theorem dX12_chain_39 : decode cX12_chain 39 = .ok (.ifCond .lt 13, 3) := by decide +kernel
theorem dX12_chain_42 : decode cX12_chain 42 = .ok (.iload_n 3, 1) := by decide +kernel
theorem dX12_chain_43 : decode cX12_chain 43 = .ok (.iconst 0, 1) := by decide +kernel
theorem dX12_chain_44 : decode cX12_chain 44 = .ok (.iload 4, 2) := by decide +kernel
theorem dX12_chain_46 : decode cX12_chain 46 = .ok (.invokestatic 71, 3) := by decide +kernel
theorem dX12_chain_49 : decode cX12_chain 49 = .ok (.ifCond .ne 9, 3) := by decide +kernel
theorem dX12_chain_52 : decode cX12_chain 52 = .ok (.aload_n 0, 1) := by decide +kernel
theorem dX12_chain_53 : decode cX12_chain 53 = .ok (.iconst 2, 1) := by decide +kernel
theorem dX12_chain_54 : decode cX12_chain 54 = .ok (.invokevirtual 78, 3) := by decide +kernel
theorem dX12_chain_57 : decode cX12_chain 57 = .ok (.ireturn, 1) := by decide +kernel
theorem dX12_chain_58 : decode cX12_chain 58 = .ok (.iconst 0, 1) := by decide +kernel
theorem dX12_chain_59 : decode cX12_chain 59 = .ok (.istore 5, 2) := by decide +kernel
theorem dX12_chain_61 : decode cX12_chain 61 = .ok (.iconst 0, 1) := by decide +kernel
theorem dX12_chain_62 : decode cX12_chain 62 = .ok (.istore 6, 2) := by decide +kernel
theorem dX12_chain_64 : decode cX12_chain 64 = .ok (.iload 6, 2) := by decide +kernel
theorem dX12_chain_66 : decode cX12_chain 66 = .ok (.iload_n 3, 1) := by decide +kernel
theorem dX12_chain_67 : decode cX12_chain 67 = .ok (.if_icmp .ge 23, 3) := by decide +kernel
theorem dX12_chain_70 : decode cX12_chain 70 = .ok (.aload_n 0, 1) := by decide +kernel
theorem dX12_chain_71 : decode cX12_chain 71 = .ok (.iload 5, 2) := by decide +kernel
theorem dX12_chain_73 : decode cX12_chain 73 = .ok (.iload_n 2, 1) := by decide +kernel
theorem dX12_chain_74 : decode cX12_chain 74 = .ok (.iload 4, 2) := by decide +kernel
theorem dX12_chain_76 : decode cX12_chain 76 = .ok (.iload 6, 2) := by decide +kernel
theorem dX12_chain_78 : decode cX12_chain 78 = .ok (.isub, 1) := by decide +kernel
theorem dX12_chain_79 : decode cX12_chain 79 = .ok (.invokevirtual 162, 3) := by decide +kernel
theorem dX12_chain_82 : decode cX12_chain 82 = .ok (.istore 5, 2) := by decide +kernel
theorem dX12_chain_84 : decode cX12_chain 84 = .ok (.iinc 6 1, 3) := by decide +kernel
theorem dX12_chain_87 : decode cX12_chain 87 = .ok (.goto (-23), 3) := by decide +kernel
theorem dX12_chain_90 : decode cX12_chain 90 = .ok (.iload 5, 2) := by decide +kernel
theorem dX12_chain_92 : decode cX12_chain 92 = .ok (.ireturn, 1) := by decide +kernel
set_option maxHeartbeats 4000000 in
set_option maxRecDepth 100000 in
theorem w_X12_chain (l : Launch) (G : GP) (x : XP) (a1 : Int32) (a2 : Int32) (a3 : Int32) (σ : Sto) (P : Int32 → Sto → Prop) (h : D_X12_chain a1 a2 a3 σ P) : g_Meti l yX12_chain cX12_chain 7 (some .int) rm_X12_chain G x [.ref (g_ad G 87), .int a1, .int a2, .int a3] σ P := by
  unfold D_X12_chain at h
  refine g_ofWi (by decide +kernel) (Nat.le_of_ble_eq_true rfl) ?_
  intro p e s m args below meth c Q ls C hM hl hret
  have hx := C.1
  have hb := C.2.1
  have hl : lv_has ls 7 [(0, .ref (g_ad G 87)), (1, .int a1), (2, .int a2), (3, .int a3)] := hl
  have h := h (fun (v4 : Int32) (v5 : Int32) (v6 : Int32) (σ : Sto) => ∀ (H : Heap) (locs : List Loc) (ls : Array Slot), g_M G x σ s H locs → lv_has ls 7 [(0, .ref (g_ad G 87)), (2, .int a2), (3, .int a3), (4, .int v4), (5, .int v5), (6, .int v6)] → W p l e rm_X12_chain s m args below meth c H locs 0 0 Q (F0 m 64 ls []))
  have h := h (by
    intro v4 v5 v6 σ h  H locs ls hM hl
    refine lv_iload (pc := 64) hx hb dX12_chain_64 (lv_at hl 5 rfl) ?_
    refine lv_iload_n (pc := 66) hx hb dX12_chain_66 rfl (lv_at hl 2 rfl) ?_
    refine lv_icmp_ge (pc := 67) (tgt := 90) hx hb dX12_chain_67 (by decide) (fun c67 => ?_) (fun c67 => ?_)
    · have h := h.1 c67
      refine lv_iload (pc := 90) hx hb dX12_chain_90 (lv_at hl 4 rfl) ?_
      exact hret 92 _ _ _ _ _ dX12_chain_92 (by rfl) h hM
    · have h := h.2 c67
      refine lv_aload_n (pc := 70) hx hb dX12_chain_70 rfl (lv_at hl 0 rfl) ?_
      refine lv_iload (pc := 71) hx hb dX12_chain_71 (lv_at hl 4 rfl) ?_
      refine lv_iload_n (pc := 73) hx hb dX12_chain_73 rfl (lv_at hl 1 rfl) ?_
      refine lv_iload (pc := 74) hx hb dX12_chain_74 (lv_at hl 3 rfl) ?_
      refine lv_iload (pc := 76) hx hb dX12_chain_76 (lv_at hl 5 rfl) ?_
      refine lv_isub (pc := 78) hx hb dX12_chain_78 ?_
      refine g_cVi (pc := 79) C hM hl.1 yv_X12_onward q7_12 (by decide) ce_87 rfl (w_X12_onward l G x v5 a2 (v4 - v6) σ _ h) rfl rfl ⟨⟨by decide, by decide⟩, by decide, by decide⟩ (Nat.le_of_ble_eq_true rfl) dX12_chain_79 (fun r79 s79 H locs h hM => ?_)
      refine lv_istore (pc := 82) (lv' := [(5, .int r79), (0, .ref (g_ad G 87)), (2, .int a2), (3, .int a3), (4, .int v4), (6, .int v6)]) hx hb dX12_chain_82 hl (by decide) rfl (fun ls hl => ?_)
      refine lv_iinc (pc := 84) (v := (v6 + 1)) (lv' := [(6, .int (v6 + 1)), (5, .int r79), (0, .ref (g_ad G 87)), (2, .int a2), (3, .int a3), (4, .int v4)]) hx hb dX12_chain_84 hl (k := 5) rfl (by rfl) (by decide) rfl (fun ls hl => ?_)
      refine lv_goto (pc := 87) (tgt := 64) hx hb dX12_chain_87 (by decide) ?_
      exact h _ _ _ hM (lv_sub hl [2, 3, 4, 5, 1, 0] rfl))
  refine lv_aload_n (pc := 0) hx hb dX12_chain_0 rfl (lv_at hl 0 rfl) ?_
  refine lv_iconst (pc := 1) (v := 0) hx hb dX12_chain_1 (by decide) ?_
  refine g_putE (pc := 2) C hM (by decide) ce_87 fp_RX12_68 rfl rfl (Nat.le_of_ble_eq_true rfl) rfl dX12_chain_2 (fun s2 es2 H locs hM => ?_)
  have h := h s2 es2
  refine lv_iload_n (pc := 5) hx hb dX12_chain_5 rfl (lv_at hl 1 rfl) ?_
  refine g_cSi (pc := 6) C hM hl.1 ys_X12_isSubject q6_213 (w_X12_isSubject l G x a1 s2 _ h) rfl rfl ⟨⟨by decide, by decide⟩, by decide, by decide⟩ (Nat.le_of_ble_eq_true rfl) dX12_chain_6 (fun r6 s6 H locs h hM => ?_)
  refine lv_if_eq (pc := 9) (tgt := 19) hx hb dX12_chain_9 (by decide) (fun c9 => ?_) (fun c9 => ?_)
  · have h := h.1 c9
    refine lv_aload_n (pc := 19) hx hb dX12_chain_19 rfl (lv_at hl 0 rfl) ?_
    refine lv_iconst (pc := 20) (v := 1) hx hb dX12_chain_20 (by decide) ?_
    refine g_cVi (pc := 21) C hM hl.1 yv_X12_fails q6_89 (by decide) ce_87 rfl (w_X12_fails l G x 1 s6 _ h) rfl rfl ⟨⟨by decide, by decide⟩, by decide, by decide⟩ (Nat.le_of_ble_eq_true rfl) dX12_chain_21 (fun r21 s21 H locs h hM => ?_)
    exact hret 24 _ _ _ _ _ dX12_chain_24 (by rfl) h hM
  · have h := h.2 c9
    refine lv_iload_n (pc := 12) hx hb dX12_chain_12 rfl (lv_at hl 2 rfl) ?_
    refine g_cSi (pc := 13) C hM hl.1 ys_X12_isPolicy q6_105 (w_X12_isPolicy l G x a2 s6 _ h) rfl rfl ⟨⟨by decide, by decide⟩, by decide, by decide⟩ (Nat.le_of_ble_eq_true rfl) dX12_chain_13 (fun r13 s13 H locs h hM => ?_)
    refine lv_if_ne (pc := 16) (tgt := 25) hx hb dX12_chain_16 (by decide) (fun c16 => ?_) (fun c16 => ?_)
    · have h := h.2 c16
      refine lv_aload_n (pc := 25) hx hb dX12_chain_25 rfl (lv_at hl 0 rfl) ?_
      refine lv_iload_n (pc := 26) hx hb dX12_chain_26 rfl (lv_at hl 1 rfl) ?_
      refine lv_iload_n (pc := 27) hx hb dX12_chain_27 rfl (lv_at hl 2 rfl) ?_
      refine lv_aload_n (pc := 28) hx hb dX12_chain_28 rfl (lv_at hl 0 rfl) ?_
      refine g_get (pc := 29) (v := .int (s13 87 5)) C hM (by decide) ce_87 fl_RX12_149 rfl dX12_chain_29 ?_
      refine g_cVi (pc := 32) C hM hl.1 yv_X12_shortest q7_0 (by decide) ce_87 rfl (w_X12_shortest l G x a1 a2 (s13 87 5) s13 _ h) rfl rfl ⟨⟨by decide, by decide⟩, by decide, by decide⟩ (Nat.le_of_ble_eq_true rfl) dX12_chain_32 (fun r32 s32 H locs h hM => ?_)
      refine lv_istore (pc := 35) (lv' := [(4, .int r32), (0, .ref (g_ad G 87)), (1, .int a1), (2, .int a2), (3, .int a3)]) hx hb dX12_chain_35 hl (by decide) rfl (fun ls hl => ?_)
      refine lv_iload (pc := 37) hx hb dX12_chain_37 (lv_at hl 0 rfl) ?_
      refine lv_if_lt (pc := 39) (tgt := 52) hx hb dX12_chain_39 (by decide) (fun c39 => ?_) (fun c39 => ?_)
      · have h := h.1 c39
        refine lv_aload_n (pc := 52) hx hb dX12_chain_52 rfl (lv_at hl 1 rfl) ?_
        refine lv_iconst (pc := 53) (v := 2) hx hb dX12_chain_53 (by decide) ?_
        refine g_cVi (pc := 54) C hM hl.1 yv_X12_fails q6_89 (by decide) ce_87 rfl (w_X12_fails l G x 2 s32 _ h) rfl rfl ⟨⟨by decide, by decide⟩, by decide, by decide⟩ (Nat.le_of_ble_eq_true rfl) dX12_chain_54 (fun r54 s54 H locs h hM => ?_)
        exact hret 57 _ _ _ _ _ dX12_chain_57 (by rfl) h hM
      · have h := h.2 c39
        refine lv_iload_n (pc := 42) hx hb dX12_chain_42 rfl (lv_at hl 4 rfl) ?_
        refine lv_iconst (pc := 43) (v := 0) hx hb dX12_chain_43 (by decide) ?_
        refine lv_iload (pc := 44) hx hb dX12_chain_44 (lv_at hl 0 rfl) ?_
        refine g_cSi (pc := 46) C hM hl.1 ys_X12_in q6_108 (w_X12_in l G x a3 0 r32 s32 _ h) rfl rfl ⟨⟨by decide, by decide⟩, by decide, by decide⟩ (Nat.le_of_ble_eq_true rfl) dX12_chain_46 (fun r46 s46 H locs h hM => ?_)
        refine lv_if_ne (pc := 49) (tgt := 58) hx hb dX12_chain_49 (by decide) (fun c49 => ?_) (fun c49 => ?_)
        · have h := h.2 c49
          refine lv_iconst (pc := 58) (v := 0) hx hb dX12_chain_58 (by decide) ?_
          refine lv_istore (pc := 59) (lv' := [(5, .int 0), (4, .int r32), (0, .ref (g_ad G 87)), (1, .int a1), (2, .int a2), (3, .int a3)]) hx hb dX12_chain_59 hl (by decide) rfl (fun ls hl => ?_)
          refine lv_iconst (pc := 61) (v := 0) hx hb dX12_chain_61 (by decide) ?_
          refine lv_istore (pc := 62) (lv' := [(6, .int 0), (5, .int 0), (4, .int r32), (0, .ref (g_ad G 87)), (1, .int a1), (2, .int a2), (3, .int a3)]) hx hb dX12_chain_62 hl (by decide) rfl (fun ls hl => ?_)
          exact h _ _ _ hM (lv_sub hl [3, 5, 6, 2, 1, 0] rfl)
        · have h := h.1 c49
          refine lv_aload_n (pc := 52) hx hb dX12_chain_52 rfl (lv_at hl 1 rfl) ?_
          refine lv_iconst (pc := 53) (v := 2) hx hb dX12_chain_53 (by decide) ?_
          refine g_cVi (pc := 54) C hM hl.1 yv_X12_fails q6_89 (by decide) ce_87 rfl (w_X12_fails l G x 2 s46 _ h) rfl rfl ⟨⟨by decide, by decide⟩, by decide, by decide⟩ (Nat.le_of_ble_eq_true rfl) dX12_chain_54 (fun r54 s54 H locs h hM => ?_)
          exact hret 57 _ _ _ _ _ dX12_chain_57 (by rfl) h hM
    · have h := h.1 c16
      refine lv_aload_n (pc := 19) hx hb dX12_chain_19 rfl (lv_at hl 0 rfl) ?_
      refine lv_iconst (pc := 20) (v := 1) hx hb dX12_chain_20 (by decide) ?_
      refine g_cVi (pc := 21) C hM hl.1 yv_X12_fails q6_89 (by decide) ce_87 rfl (w_X12_fails l G x 1 s13 _ h) rfl rfl ⟨⟨by decide, by decide⟩, by decide, by decide⟩ (Nat.le_of_ble_eq_true rfl) dX12_chain_21 (fun r21 s21 H locs h hM => ?_)
      exact hret 24 _ _ _ _ _ dX12_chain_24 (by rfl) h hM
abbrev rm_X12_lastsUntil : Room := { frames := 2, cells := 0, slots := 0, locals := 48 }
theorem dX12_lastsUntil_0 : decode cX12_lastsUntil 0 = .ok (.aload_n 0, 1) := by decide +kernel
theorem dX12_lastsUntil_1 : decode cX12_lastsUntil 1 = .ok (.iload_n 1, 1) := by decide +kernel
theorem dX12_lastsUntil_2 : decode cX12_lastsUntil 2 = .ok (.invokestatic 146, 3) := by decide +kernel
theorem dX12_lastsUntil_5 : decode cX12_lastsUntil 5 = .ok (.ifCond .eq 10, 3) := by decide +kernel
theorem dX12_lastsUntil_8 : decode cX12_lastsUntil 8 = .ok (.iload_n 2, 1) := by decide +kernel
theorem dX12_lastsUntil_9 : decode cX12_lastsUntil 9 = .ok (.invokestatic 86, 3) := by decide +kernel
theorem dX12_lastsUntil_12 : decode cX12_lastsUntil 12 = .ok (.ifCond .ne 7, 3) := by decide +kernel
theorem dX12_lastsUntil_15 : decode cX12_lastsUntil 15 = .ok (.iconst 1, 1) := by decide +kernel
theorem dX12_lastsUntil_16 : decode cX12_lastsUntil 16 = .ok (.goto 29, 3) := by decide +kernel
theorem dX12_lastsUntil_19 : decode cX12_lastsUntil 19 = .ok (.iload_n 1, 1) := by decide +kernel
theorem dX12_lastsUntil_20 : decode cX12_lastsUntil 20 = .ok (.ifCond .ne 7, 3) := by decide +kernel
theorem dX12_lastsUntil_23 : decode cX12_lastsUntil 23 = .ok (.iconst 2, 1) := by decide +kernel
theorem dX12_lastsUntil_24 : decode cX12_lastsUntil 24 = .ok (.goto 21, 3) := by decide +kernel
theorem dX12_lastsUntil_27 : decode cX12_lastsUntil 27 = .ok (.aload_n 0, 1) := by decide +kernel
theorem dX12_lastsUntil_28 : decode cX12_lastsUntil 28 = .ok (.iload_n 1, 1) := by decide +kernel
theorem dX12_lastsUntil_29 : decode cX12_lastsUntil 29 = .ok (.iload_n 2, 1) := by decide +kernel
theorem dX12_lastsUntil_30 : decode cX12_lastsUntil 30 = .ok (.aload_n 0, 1) := by decide +kernel
theorem dX12_lastsUntil_31 : decode cX12_lastsUntil 31 = .ok (.getfield 149, 3) := by decide +kernel
theorem dX12_lastsUntil_34 : decode cX12_lastsUntil 34 = .ok (.invokevirtual 156, 3) := by decide +kernel
theorem dX12_lastsUntil_37 : decode cX12_lastsUntil 37 = .ok (.ifCond .ge 7, 3) := by decide +kernel
theorem dX12_lastsUntil_40 : decode cX12_lastsUntil 40 = .ok (.iconst 3, 1) := by decide +kernel
theorem dX12_lastsUntil_41 : decode cX12_lastsUntil 41 = .ok (.goto 4, 3) := by decide +kernel
theorem dX12_lastsUntil_44 : decode cX12_lastsUntil 44 = .ok (.iconst 0, 1) := by decide +kernel
theorem dX12_lastsUntil_45 : decode cX12_lastsUntil 45 = .ok (.putfield 68, 3) := by decide +kernel
theorem dX12_lastsUntil_48 : decode cX12_lastsUntil 48 = .ok (.aload_n 0, 1) := by decide +kernel
theorem dX12_lastsUntil_49 : decode cX12_lastsUntil 49 = .ok (.getfield 68, 3) := by decide +kernel
theorem dX12_lastsUntil_52 : decode cX12_lastsUntil 52 = .ok (.ifCond .le 5, 3) := by decide +kernel
theorem dX12_lastsUntil_55 : decode cX12_lastsUntil 55 = .ok (.iconst 0, 1) := by decide +kernel
theorem dX12_lastsUntil_56 : decode cX12_lastsUntil 56 = .ok (.ireturn, 1) := by decide +kernel
theorem dX12_lastsUntil_57 : decode cX12_lastsUntil 57 = .ok (.aload_n 0, 1) := by decide +kernel
theorem dX12_lastsUntil_58 : decode cX12_lastsUntil 58 = .ok (.getfield 149, 3) := by decide +kernel
theorem dX12_lastsUntil_61 : decode cX12_lastsUntil 61 = .ok (.istore_n 3, 1) := by decide +kernel
theorem dX12_lastsUntil_62 : decode cX12_lastsUntil 62 = .ok (.aload_n 0, 1) := by decide +kernel
theorem dX12_lastsUntil_63 : decode cX12_lastsUntil 63 = .ok (.iload_n 1, 1) := by decide +kernel
theorem dX12_lastsUntil_64 : decode cX12_lastsUntil 64 = .ok (.iload_n 2, 1) := by decide +kernel
theorem dX12_lastsUntil_65 : decode cX12_lastsUntil 65 = .ok (.iload_n 3, 1) := by decide +kernel
theorem dX12_lastsUntil_66 : decode cX12_lastsUntil 66 = .ok (.invokevirtual 156, 3) := by decide +kernel
theorem dX12_lastsUntil_69 : decode cX12_lastsUntil 69 = .ok (.ifCond .lt 9, 3) := by decide +kernel
theorem dX12_lastsUntil_72 : decode cX12_lastsUntil 72 = .ok (.iinc 3 1, 3) := by decide +kernel
theorem dX12_lastsUntil_75 : decode cX12_lastsUntil 75 = .ok (.goto (-13), 3) := by decide +kernel
theorem dX12_lastsUntil_78 : decode cX12_lastsUntil 78 = .ok (.iload_n 3, 1) := by decide +kernel
theorem dX12_lastsUntil_79 : decode cX12_lastsUntil 79 = .ok (.ireturn, 1) := by decide +kernel
set_option maxHeartbeats 4000000 in
set_option maxRecDepth 100000 in
theorem w_X12_lastsUntil (l : Launch) (G : GP) (x : XP) (a1 : Int32) (a2 : Int32) (σ : Sto) (P : Int32 → Sto → Prop) (h : D_X12_lastsUntil a1 a2 σ P) : g_Meti l yX12_lastsUntil cX12_lastsUntil 4 (some .int) rm_X12_lastsUntil G x [.ref (g_ad G 87), .int a1, .int a2] σ P := by
  unfold D_X12_lastsUntil at h
  refine g_ofWi (by decide +kernel) (Nat.le_of_ble_eq_true rfl) ?_
  intro p e s m args below meth c Q ls C hM hl hret
  have hx := C.1
  have hb := C.2.1
  have hl : lv_has ls 4 [(0, .ref (g_ad G 87)), (1, .int a1), (2, .int a2)] := hl
  have h := h (fun (v3 : Int32) (σ : Sto) => ∀ (H : Heap) (locs : List Loc) (ls : Array Slot), g_M G x σ s H locs → lv_has ls 4 [(0, .ref (g_ad G 87)), (1, .int a1), (2, .int a2), (3, .int v3)] → W p l e rm_X12_lastsUntil s m args below meth c H locs 0 0 Q (F0 m 62 ls []))
  have h := h (by
    intro v3 σ h  H locs ls hM hl
    refine lv_aload_n (pc := 62) hx hb dX12_lastsUntil_62 rfl (lv_at hl 0 rfl) ?_
    refine lv_iload_n (pc := 63) hx hb dX12_lastsUntil_63 rfl (lv_at hl 1 rfl) ?_
    refine lv_iload_n (pc := 64) hx hb dX12_lastsUntil_64 rfl (lv_at hl 2 rfl) ?_
    refine lv_iload_n (pc := 65) hx hb dX12_lastsUntil_65 rfl (lv_at hl 3 rfl) ?_
    refine g_cVi (pc := 66) C hM hl.1 yv_X12_shortest q7_0 (by decide) ce_87 rfl (w_X12_shortest l G x a1 a2 v3 σ _ h) rfl rfl ⟨⟨by decide, by decide⟩, by decide, by decide⟩ (Nat.le_of_ble_eq_true rfl) dX12_lastsUntil_66 (fun r66 s66 H locs h hM => ?_)
    refine lv_if_lt (pc := 69) (tgt := 78) hx hb dX12_lastsUntil_69 (by decide) (fun c69 => ?_) (fun c69 => ?_)
    · have h := h.1 c69
      refine lv_iload_n (pc := 78) hx hb dX12_lastsUntil_78 rfl (lv_at hl 3 rfl) ?_
      exact hret 79 _ _ _ _ _ dX12_lastsUntil_79 (by rfl) h hM
    · have h := h.2 c69
      refine lv_iinc (pc := 72) (v := (v3 + 1)) (lv' := [(3, .int (v3 + 1)), (0, .ref (g_ad G 87)), (1, .int a1), (2, .int a2)]) hx hb dX12_lastsUntil_72 hl (k := 3) rfl (by rfl) (by decide) rfl (fun ls hl => ?_)
      refine lv_goto (pc := 75) (tgt := 62) hx hb dX12_lastsUntil_75 (by decide) ?_
      exact h _ _ _ hM (lv_sub hl [1, 2, 3, 0] rfl))
  refine lv_aload_n (pc := 0) hx hb dX12_lastsUntil_0 rfl (lv_at hl 0 rfl) ?_
  refine lv_iload_n (pc := 1) hx hb dX12_lastsUntil_1 rfl (lv_at hl 1 rfl) ?_
  refine g_cSi (pc := 2) C hM hl.1 ys_X12_isSubject q6_213 (w_X12_isSubject l G x a1 σ _ h) rfl rfl ⟨⟨by decide, by decide⟩, by decide, by decide⟩ (Nat.le_of_ble_eq_true rfl) dX12_lastsUntil_2 (fun r2 s2 H locs h hM => ?_)
  refine lv_if_eq (pc := 5) (tgt := 15) hx hb dX12_lastsUntil_5 (by decide) (fun c5 => ?_) (fun c5 => ?_)
  · have h := h.1 c5
    refine lv_iconst (pc := 15) (v := 1) hx hb dX12_lastsUntil_15 (by decide) ?_
    refine lv_goto (pc := 16) (tgt := 45) hx hb dX12_lastsUntil_16 (by decide) ?_
    refine g_putE (pc := 45) C hM (by decide) ce_87 fp_RX12_68 rfl rfl (Nat.le_of_ble_eq_true rfl) rfl dX12_lastsUntil_45 (fun s45 es45 H locs hM => ?_)
    have h := h s45 es45
    refine lv_aload_n (pc := 48) hx hb dX12_lastsUntil_48 rfl (lv_at hl 0 rfl) ?_
    refine g_get (pc := 49) (v := .int (s45 87 8)) C hM (by decide) ce_87 fl_RX12_68 rfl dX12_lastsUntil_49 ?_
    refine lv_if_le (pc := 52) (tgt := 57) hx hb dX12_lastsUntil_52 (by decide) (fun c52 => ?_) (fun c52 => ?_)
    · have h := h.1 c52
      refine lv_aload_n (pc := 57) hx hb dX12_lastsUntil_57 rfl (lv_at hl 0 rfl) ?_
      refine g_get (pc := 58) (v := .int (s45 87 5)) C hM (by decide) ce_87 fl_RX12_149 rfl dX12_lastsUntil_58 ?_
      refine lv_istore_n (pc := 61) (lv' := [(3, .int (s45 87 5)), (0, .ref (g_ad G 87)), (1, .int a1), (2, .int a2)]) hx hb dX12_lastsUntil_61 rfl hl (by decide) rfl (fun ls hl => ?_)
      exact h _ _ _ hM (lv_sub hl [1, 2, 3, 0] rfl)
    · have h := h.2 c52
      refine lv_iconst (pc := 55) (v := 0) hx hb dX12_lastsUntil_55 (by decide) ?_
      exact hret 56 _ _ _ _ _ dX12_lastsUntil_56 (by rfl) h hM
  · have h := h.2 c5
    refine lv_iload_n (pc := 8) hx hb dX12_lastsUntil_8 rfl (lv_at hl 2 rfl) ?_
    refine g_cSi (pc := 9) C hM hl.1 ys_X12_isPolicy q6_105 (w_X12_isPolicy l G x a2 s2 _ h) rfl rfl ⟨⟨by decide, by decide⟩, by decide, by decide⟩ (Nat.le_of_ble_eq_true rfl) dX12_lastsUntil_9 (fun r9 s9 H locs h hM => ?_)
    refine lv_if_ne (pc := 12) (tgt := 19) hx hb dX12_lastsUntil_12 (by decide) (fun c12 => ?_) (fun c12 => ?_)
    · have h := h.2 c12
      refine lv_iload_n (pc := 19) hx hb dX12_lastsUntil_19 rfl (lv_at hl 1 rfl) ?_
      refine lv_if_ne (pc := 20) (tgt := 27) hx hb dX12_lastsUntil_20 (by decide) (fun c20 => ?_) (fun c20 => ?_)
      · have h := h.2 c20
        refine lv_aload_n (pc := 27) hx hb dX12_lastsUntil_27 rfl (lv_at hl 0 rfl) ?_
        refine lv_iload_n (pc := 28) hx hb dX12_lastsUntil_28 rfl (lv_at hl 1 rfl) ?_
        refine lv_iload_n (pc := 29) hx hb dX12_lastsUntil_29 rfl (lv_at hl 2 rfl) ?_
        refine lv_aload_n (pc := 30) hx hb dX12_lastsUntil_30 rfl (lv_at hl 0 rfl) ?_
        refine g_get (pc := 31) (v := .int (s9 87 5)) C hM (by decide) ce_87 fl_RX12_149 rfl dX12_lastsUntil_31 ?_
        refine g_cVi (pc := 34) C hM hl.1 yv_X12_shortest q7_0 (by decide) ce_87 rfl (w_X12_shortest l G x a1 a2 (s9 87 5) s9 _ h) rfl rfl ⟨⟨by decide, by decide⟩, by decide, by decide⟩ (Nat.le_of_ble_eq_true rfl) dX12_lastsUntil_34 (fun r34 s34 H locs h hM => ?_)
        refine lv_if_ge (pc := 37) (tgt := 44) hx hb dX12_lastsUntil_37 (by decide) (fun c37 => ?_) (fun c37 => ?_)
        · have h := h.1 c37
          refine lv_iconst (pc := 44) (v := 0) hx hb dX12_lastsUntil_44 (by decide) ?_
          refine g_putE (pc := 45) C hM (by decide) ce_87 fp_RX12_68 rfl rfl (Nat.le_of_ble_eq_true rfl) rfl dX12_lastsUntil_45 (fun s45 es45 H locs hM => ?_)
          have h := h s45 es45
          refine lv_aload_n (pc := 48) hx hb dX12_lastsUntil_48 rfl (lv_at hl 0 rfl) ?_
          refine g_get (pc := 49) (v := .int (s45 87 8)) C hM (by decide) ce_87 fl_RX12_68 rfl dX12_lastsUntil_49 ?_
          refine lv_if_le (pc := 52) (tgt := 57) hx hb dX12_lastsUntil_52 (by decide) (fun c52 => ?_) (fun c52 => ?_)
          · have h := h.1 c52
            refine lv_aload_n (pc := 57) hx hb dX12_lastsUntil_57 rfl (lv_at hl 0 rfl) ?_
            refine g_get (pc := 58) (v := .int (s45 87 5)) C hM (by decide) ce_87 fl_RX12_149 rfl dX12_lastsUntil_58 ?_
            refine lv_istore_n (pc := 61) (lv' := [(3, .int (s45 87 5)), (0, .ref (g_ad G 87)), (1, .int a1), (2, .int a2)]) hx hb dX12_lastsUntil_61 rfl hl (by decide) rfl (fun ls hl => ?_)
            exact h _ _ _ hM (lv_sub hl [1, 2, 3, 0] rfl)
          · have h := h.2 c52
            refine lv_iconst (pc := 55) (v := 0) hx hb dX12_lastsUntil_55 (by decide) ?_
            exact hret 56 _ _ _ _ _ dX12_lastsUntil_56 (by rfl) h hM
        · have h := h.2 c37
          refine lv_iconst (pc := 40) (v := 3) hx hb dX12_lastsUntil_40 (by decide) ?_
          refine lv_goto (pc := 41) (tgt := 45) hx hb dX12_lastsUntil_41 (by decide) ?_
          refine g_putE (pc := 45) C hM (by decide) ce_87 fp_RX12_68 rfl rfl (Nat.le_of_ble_eq_true rfl) rfl dX12_lastsUntil_45 (fun s45 es45 H locs hM => ?_)
          have h := h s45 es45
          refine lv_aload_n (pc := 48) hx hb dX12_lastsUntil_48 rfl (lv_at hl 0 rfl) ?_
          refine g_get (pc := 49) (v := .int (s45 87 8)) C hM (by decide) ce_87 fl_RX12_68 rfl dX12_lastsUntil_49 ?_
          refine lv_if_le (pc := 52) (tgt := 57) hx hb dX12_lastsUntil_52 (by decide) (fun c52 => ?_) (fun c52 => ?_)
          · have h := h.1 c52
            refine lv_aload_n (pc := 57) hx hb dX12_lastsUntil_57 rfl (lv_at hl 0 rfl) ?_
            refine g_get (pc := 58) (v := .int (s45 87 5)) C hM (by decide) ce_87 fl_RX12_149 rfl dX12_lastsUntil_58 ?_
            refine lv_istore_n (pc := 61) (lv' := [(3, .int (s45 87 5)), (0, .ref (g_ad G 87)), (1, .int a1), (2, .int a2)]) hx hb dX12_lastsUntil_61 rfl hl (by decide) rfl (fun ls hl => ?_)
            exact h _ _ _ hM (lv_sub hl [1, 2, 3, 0] rfl)
          · have h := h.2 c52
            refine lv_iconst (pc := 55) (v := 0) hx hb dX12_lastsUntil_55 (by decide) ?_
            exact hret 56 _ _ _ _ _ dX12_lastsUntil_56 (by rfl) h hM
      · have h := h.1 c20
        refine lv_iconst (pc := 23) (v := 2) hx hb dX12_lastsUntil_23 (by decide) ?_
        refine lv_goto (pc := 24) (tgt := 45) hx hb dX12_lastsUntil_24 (by decide) ?_
        refine g_putE (pc := 45) C hM (by decide) ce_87 fp_RX12_68 rfl rfl (Nat.le_of_ble_eq_true rfl) rfl dX12_lastsUntil_45 (fun s45 es45 H locs hM => ?_)
        have h := h s45 es45
        refine lv_aload_n (pc := 48) hx hb dX12_lastsUntil_48 rfl (lv_at hl 0 rfl) ?_
        refine g_get (pc := 49) (v := .int (s45 87 8)) C hM (by decide) ce_87 fl_RX12_68 rfl dX12_lastsUntil_49 ?_
        refine lv_if_le (pc := 52) (tgt := 57) hx hb dX12_lastsUntil_52 (by decide) (fun c52 => ?_) (fun c52 => ?_)
        · have h := h.1 c52
          refine lv_aload_n (pc := 57) hx hb dX12_lastsUntil_57 rfl (lv_at hl 0 rfl) ?_
          refine g_get (pc := 58) (v := .int (s45 87 5)) C hM (by decide) ce_87 fl_RX12_149 rfl dX12_lastsUntil_58 ?_
          refine lv_istore_n (pc := 61) (lv' := [(3, .int (s45 87 5)), (0, .ref (g_ad G 87)), (1, .int a1), (2, .int a2)]) hx hb dX12_lastsUntil_61 rfl hl (by decide) rfl (fun ls hl => ?_)
          exact h _ _ _ hM (lv_sub hl [1, 2, 3, 0] rfl)
        · have h := h.2 c52
          refine lv_iconst (pc := 55) (v := 0) hx hb dX12_lastsUntil_55 (by decide) ?_
          exact hret 56 _ _ _ _ _ dX12_lastsUntil_56 (by rfl) h hM
    · have h := h.1 c12
      refine lv_iconst (pc := 15) (v := 1) hx hb dX12_lastsUntil_15 (by decide) ?_
      refine lv_goto (pc := 16) (tgt := 45) hx hb dX12_lastsUntil_16 (by decide) ?_
      refine g_putE (pc := 45) C hM (by decide) ce_87 fp_RX12_68 rfl rfl (Nat.le_of_ble_eq_true rfl) rfl dX12_lastsUntil_45 (fun s45 es45 H locs hM => ?_)
      have h := h s45 es45
      refine lv_aload_n (pc := 48) hx hb dX12_lastsUntil_48 rfl (lv_at hl 0 rfl) ?_
      refine g_get (pc := 49) (v := .int (s45 87 8)) C hM (by decide) ce_87 fl_RX12_68 rfl dX12_lastsUntil_49 ?_
      refine lv_if_le (pc := 52) (tgt := 57) hx hb dX12_lastsUntil_52 (by decide) (fun c52 => ?_) (fun c52 => ?_)
      · have h := h.1 c52
        refine lv_aload_n (pc := 57) hx hb dX12_lastsUntil_57 rfl (lv_at hl 0 rfl) ?_
        refine g_get (pc := 58) (v := .int (s45 87 5)) C hM (by decide) ce_87 fl_RX12_149 rfl dX12_lastsUntil_58 ?_
        refine lv_istore_n (pc := 61) (lv' := [(3, .int (s45 87 5)), (0, .ref (g_ad G 87)), (1, .int a1), (2, .int a2)]) hx hb dX12_lastsUntil_61 rfl hl (by decide) rfl (fun ls hl => ?_)
        exact h _ _ _ hM (lv_sub hl [1, 2, 3, 0] rfl)
      · have h := h.2 c52
        refine lv_iconst (pc := 55) (v := 0) hx hb dX12_lastsUntil_55 (by decide) ?_
        exact hret 56 _ _ _ _ _ dX12_lastsUntil_56 (by rfl) h hM
