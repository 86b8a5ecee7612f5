abbrev rm_X5_strongest : Room := { frames := 0, cells := 0, slots := 0, locals := 0 }
theorem dX5_strongest_0 : decode cX5_strongest 0 = .ok (.iload_n 0, 1) := by decide +kernel
theorem dX5_strongest_1 : decode cX5_strongest 1 = .ok (.iconst 1, 1) := by decide +kernel
theorem dX5_strongest_2 : decode cX5_strongest 2 = .ok (.iload_n 1, 1) := by decide +kernel
theorem dX5_strongest_3 : decode cX5_strongest 3 = .ok (.ishl, 1) := by decide +kernel
theorem dX5_strongest_4 : decode cX5_strongest 4 = .ok (.iand, 1) := by decide +kernel
theorem dX5_strongest_5 : decode cX5_strongest 5 = .ok (.ifCond .eq 5, 3) := by decide +kernel
theorem dX5_strongest_8 : decode cX5_strongest 8 = .ok (.iload_n 1, 1) := by decide +kernel
theorem dX5_strongest_9 : decode cX5_strongest 9 = .ok (.ireturn, 1) := by decide +kernel
theorem dX5_strongest_10 : decode cX5_strongest 10 = .ok (.iload_n 0, 1) := by decide +kernel
theorem dX5_strongest_11 : decode cX5_strongest 11 = .ok (.bipush 8, 2) := by decide +kernel
theorem dX5_strongest_13 : decode cX5_strongest 13 = .ok (.iand, 1) := by decide +kernel
theorem dX5_strongest_14 : decode cX5_strongest 14 = .ok (.ifCond .eq 7, 3) := by decide +kernel
theorem dX5_strongest_17 : decode cX5_strongest 17 = .ok (.iconst 3, 1) := by decide +kernel
theorem dX5_strongest_18 : decode cX5_strongest 18 = .ok (.goto 4, 3) := by decide +kernel
theorem dX5_strongest_21 : decode cX5_strongest 21 = .ok (.iload_n 2, 1) := by decide +kernel
theorem dX5_strongest_22 : decode cX5_strongest 22 = .ok (.ireturn, 1) := by decide +kernel
set_option maxHeartbeats 4000000 in
set_option maxRecDepth 100000 in
theorem w_X5_strongest (l : Launch) (G : GP) (x : XP) (a0 : Int32) (a1 : Int32) (a2 : Int32) (σ : Sto) (P : Int32 → Sto → Prop) (h : D_X5_strongest a0 a1 a2 σ P) : g_Meti l yX5_strongest cX5_strongest 3 (some .int) rm_X5_strongest G x [.int a0, .int a1, .int a2] σ P := by
  unfold D_X5_strongest at h
  refine g_ofWi (by decide +kernel) (Nat.le_of_ble_eq_true rfl) ?_
  intro p e s m args below meth c Q ls C hM hl hret
  have hx := C.1
  have hb := C.2.1
  have hl : lv_has ls 3 [(0, .int a0), (1, .int a1), (2, .int a2)] := hl
  refine lv_iload_n (pc := 0) hx hb dX5_strongest_0 rfl (lv_at hl 0 rfl) ?_
  refine lv_iconst (pc := 1) (v := 1) hx hb dX5_strongest_1 (by decide) ?_
  refine lv_iload_n (pc := 2) hx hb dX5_strongest_2 rfl (lv_at hl 1 rfl) ?_
  refine lv_ishl (pc := 3) hx hb dX5_strongest_3 ?_
  refine lv_iand (pc := 4) hx hb dX5_strongest_4 ?_
  refine lv_if_eq (pc := 5) (tgt := 10) hx hb dX5_strongest_5 (by decide) (fun c5 => ?_) (fun c5 => ?_)
  · have h := h.1 c5
    refine lv_iload_n (pc := 10) hx hb dX5_strongest_10 rfl (lv_at hl 0 rfl) ?_
    refine lv_bipush (pc := 11) (v := 8) hx hb dX5_strongest_11 (by decide) ?_
    refine lv_iand (pc := 13) hx hb dX5_strongest_13 ?_
    refine lv_if_eq (pc := 14) (tgt := 21) hx hb dX5_strongest_14 (by decide) (fun c14 => ?_) (fun c14 => ?_)
    · have h := h.1 c14
      refine lv_iload_n (pc := 21) hx hb dX5_strongest_21 rfl (lv_at hl 2 rfl) ?_
      exact hret 22 _ _ _ _ _ dX5_strongest_22 (by rfl) h hM
    · have h := h.2 c14
      refine lv_iconst (pc := 17) (v := 3) hx hb dX5_strongest_17 (by decide) ?_
      refine lv_goto (pc := 18) (tgt := 22) hx hb dX5_strongest_18 (by decide) ?_
      exact hret 22 _ _ _ _ _ dX5_strongest_22 (by rfl) h hM
  · have h := h.2 c5
    refine lv_iload_n (pc := 8) hx hb dX5_strongest_8 rfl (lv_at hl 1 rfl) ?_
    exact hret 9 _ _ _ _ _ dX5_strongest_9 (by rfl) h hM
abbrev rm_X5_combined : Room := { frames := 1, cells := 0, slots := 0, locals := 22 }
theorem dX5_combined_0 : decode cX5_combined 0 = .ok (.aload_n 0, 1) := by decide +kernel
theorem dX5_combined_1 : decode cX5_combined 1 = .ok (.getfield 24, 3) := by decide +kernel
theorem dX5_combined_4 : decode cX5_combined 4 = .ok (.getfield 76, 3) := by decide +kernel
theorem dX5_combined_7 : decode cX5_combined 7 = .ok (.tableswitch 41 0 2 #[25, 32, 39], 25) := by decide +kernel
theorem dX5_combined_32 : decode cX5_combined 32 = .ok (.iload_n 1, 1) := by decide +kernel
theorem dX5_combined_33 : decode cX5_combined 33 = .ok (.iconst 1, 1) := by decide +kernel
theorem dX5_combined_34 : decode cX5_combined 34 = .ok (.iconst 0, 1) := by decide +kernel
theorem dX5_combined_35 : decode cX5_combined 35 = .ok (.invokestatic 79, 3) := by decide +kernel
theorem dX5_combined_38 : decode cX5_combined 38 = .ok (.ireturn, 1) := by decide +kernel
theorem dX5_combined_39 : decode cX5_combined 39 = .ok (.iload_n 1, 1) := by decide +kernel
theorem dX5_combined_40 : decode cX5_combined 40 = .ok (.iconst 0, 1) := by decide +kernel
theorem dX5_combined_41 : decode cX5_combined 41 = .ok (.iconst 1, 1) := by decide +kernel
theorem dX5_combined_42 : decode cX5_combined 42 = .ok (.invokestatic 79, 3) := by decide +kernel
theorem dX5_combined_45 : decode cX5_combined 45 = .ok (.ireturn, 1) := by decide +kernel
theorem dX5_combined_46 : decode cX5_combined 46 = .ok (.iload_n 2, 1) := by decide +kernel
theorem dX5_combined_47 : decode cX5_combined 47 = .ok (.ireturn, 1) := by decide +kernel
theorem dX5_combined_48 : decode cX5_combined 48 = .ok (.iload_n 3, 1) := by decide +kernel
theorem dX5_combined_49 : decode cX5_combined 49 = .ok (.iconst 1, 1) := by decide +kernel
theorem dX5_combined_50 : decode cX5_combined 50 = .ok (.if_icmp .ne 7, 3) := by decide +kernel
theorem dX5_combined_53 : decode cX5_combined 53 = .ok (.iload_n 2, 1) := by decide +kernel
theorem dX5_combined_54 : decode cX5_combined 54 = .ok (.goto 4, 3) := by decide +kernel
theorem dX5_combined_57 : decode cX5_combined 57 = .ok (.iconst 3, 1) := by decide +kernel
theorem dX5_combined_58 : decode cX5_combined 58 = .ok (.ireturn, 1) := by decide +kernel
set_option maxHeartbeats 4000000 in
set_option maxRecDepth 100000 in
theorem w_X5_combined (l : Launch) (G : GP) (x : XP) (a1 : Int32) (a2 : Int32) (a3 : Int32) (σ : Sto) (P : Int32 → Sto → Prop) (h : D_X5_combined a1 a2 a3 σ P) : g_Meti l yX5_combined cX5_combined 4 (some .int) rm_X5_combined G x [.ref (g_ad G 65), .int a1, .int a2, .int a3] σ P := by
  unfold D_X5_combined at h
  refine g_ofWi (by decide +kernel) (Nat.le_of_ble_eq_true rfl) ?_
  intro p e s m args below meth c Q ls C hM hl hret
  have hx := C.1
  have hb := C.2.1
  have hl : lv_has ls 4 [(0, .ref (g_ad G 65)), (1, .int a1), (2, .int a2), (3, .int a3)] := hl
  refine lv_aload_n (pc := 0) hx hb dX5_combined_0 rfl (lv_at hl 0 rfl) ?_
  refine g_get (pc := 1) (v := .ref (g_ad G 0)) C hM (by decide) ce_65 fl_RX5_24 rfl dX5_combined_1 ?_
  refine g_get (pc := 4) (v := .int (σ 0 3)) C hM (by decide) ce_0 fl_RX5_76 rfl dX5_combined_4 ?_
  by_cases c7_0 : (σ 0 3) = 0
  · have h := h.1 c7_0
    refine lv_tableIn (pc := 7) (tgt := 32) hx hb dX5_combined_7 (by rw [c7_0]; decide) (by rw [c7_0]; decide) (by rw [c7_0]; rfl) (by decide) ?_
    refine lv_iload_n (pc := 32) hx hb dX5_combined_32 rfl (lv_at hl 1 rfl) ?_
    refine lv_iconst (pc := 33) (v := 1) hx hb dX5_combined_33 (by decide) ?_
    refine lv_iconst (pc := 34) (v := 0) hx hb dX5_combined_34 (by decide) ?_
    refine g_cSi (pc := 35) C hM hl.1 ys_X5_strongest q4_93 (w_X5_strongest l G x a1 1 0 σ _ h) rfl rfl ⟨⟨by decide, by decide⟩, by decide, by decide⟩ (Nat.le_of_ble_eq_true rfl) dX5_combined_35 (fun r35 s35 H locs h hM => ?_)
    exact hret 38 _ _ _ _ _ dX5_combined_38 (by rfl) h hM
  · have h := h.2 c7_0
    by_cases c7_1 : (σ 0 3) = 1
    · have h := h.1 c7_1
      refine lv_tableIn (pc := 7) (tgt := 39) hx hb dX5_combined_7 (by rw [c7_1]; decide) (by rw [c7_1]; decide) (by rw [c7_1]; rfl) (by decide) ?_
      refine lv_iload_n (pc := 39) hx hb dX5_combined_39 rfl (lv_at hl 1 rfl) ?_
      refine lv_iconst (pc := 40) (v := 0) hx hb dX5_combined_40 (by decide) ?_
      refine lv_iconst (pc := 41) (v := 1) hx hb dX5_combined_41 (by decide) ?_
      refine g_cSi (pc := 42) C hM hl.1 ys_X5_strongest q4_93 (w_X5_strongest l G x a1 0 1 σ _ h) rfl rfl ⟨⟨by decide, by decide⟩, by decide, by decide⟩ (Nat.le_of_ble_eq_true rfl) dX5_combined_42 (fun r42 s42 H locs h hM => ?_)
      exact hret 45 _ _ _ _ _ dX5_combined_45 (by rfl) h hM
    · have h := h.2 c7_1
      by_cases c7_2 : (σ 0 3) = 2
      · have h := h.1 c7_2
        refine lv_tableIn (pc := 7) (tgt := 46) hx hb dX5_combined_7 (by rw [c7_2]; decide) (by rw [c7_2]; decide) (by rw [c7_2]; rfl) (by decide) ?_
        refine lv_iload_n (pc := 46) hx hb dX5_combined_46 rfl (lv_at hl 2 rfl) ?_
        exact hret 47 _ _ _ _ _ dX5_combined_47 (by rfl) h hM
      · have h := h.2 c7_2
        have ht : ((σ 0 3)).toInt < 0 ∨ 2 < ((σ 0 3)).toInt := by
          have nc7_0 := lv_neT c7_0 (a := 0) rfl
          have nc7_1 := lv_neT c7_1 (a := 1) rfl
          have nc7_2 := lv_neT c7_2 (a := 2) rfl
          omega
        refine lv_tableOut (pc := 7) (tgt := 48) hx hb dX5_combined_7 ht (by decide) ?_
        refine lv_iload_n (pc := 48) hx hb dX5_combined_48 rfl (lv_at hl 3 rfl) ?_
        refine lv_iconst (pc := 49) (v := 1) hx hb dX5_combined_49 (by decide) ?_
        refine lv_icmp_ne (pc := 50) (tgt := 57) hx hb dX5_combined_50 (by decide) (fun c50 => ?_) (fun c50 => ?_)
        · have h := h.2 c50
          refine lv_iconst (pc := 57) (v := 3) hx hb dX5_combined_57 (by decide) ?_
          exact hret 58 _ _ _ _ _ dX5_combined_58 (by rfl) h hM
        · have h := h.1 c50
          refine lv_iload_n (pc := 53) hx hb dX5_combined_53 rfl (lv_at hl 2 rfl) ?_
          refine lv_goto (pc := 54) (tgt := 58) hx hb dX5_combined_54 (by decide) ?_
          exact hret 58 _ _ _ _ _ dX5_combined_58 (by rfl) h hM
abbrev rm_X5_decisionOf : Room := { frames := 2, cells := 0, slots := 0, locals := 45 }
theorem dX5_decisionOf_0 : decode cX5_decisionOf 0 = .ok (.iconst 0, 1) := by decide +kernel
theorem dX5_decisionOf_1 : decode cX5_decisionOf 1 = .ok (.istore_n 3, 1) := by decide +kernel
theorem dX5_decisionOf_2 : decode cX5_decisionOf 2 = .ok (.iconst 0, 1) := by decide +kernel
theorem dX5_decisionOf_3 : decode cX5_decisionOf 3 = .ok (.istore 4, 2) := by decide +kernel
theorem dX5_decisionOf_5 : decode cX5_decisionOf 5 = .ok (.iconst 2, 1) := by decide +kernel
theorem dX5_decisionOf_6 : decode cX5_decisionOf 6 = .ok (.istore 5, 2) := by decide +kernel
theorem dX5_decisionOf_8 : decode cX5_decisionOf 8 = .ok (.iconst 0, 1) := by decide +kernel
theorem dX5_decisionOf_9 : decode cX5_decisionOf 9 = .ok (.istore 6, 2) := by decide +kernel
theorem dX5_decisionOf_11 : decode cX5_decisionOf 11 = .ok (.iload 6, 2) := by decide +kernel
theorem dX5_decisionOf_13 : decode cX5_decisionOf 13 = .ok (.iconst 4, 1) := by decide +kernel
theorem dX5_decisionOf_14 : decode cX5_decisionOf 14 = .ok (.if_icmp .ge 62, 3) := by decide +kernel
theorem dX5_decisionOf_17 : decode cX5_decisionOf 17 = .ok (.iload_n 2, 1) := by decide +kernel
theorem dX5_decisionOf_18 : decode cX5_decisionOf 18 = .ok (.iconst 1, 1) := by decide +kernel
theorem dX5_decisionOf_19 : decode cX5_decisionOf 19 = .ok (.iload 6, 2) := by decide +kernel
theorem dX5_decisionOf_21 : decode cX5_decisionOf 21 = .ok (.ishl, 1) := by decide +kernel
theorem dX5_decisionOf_22 : decode cX5_decisionOf 22 = .ok (.iand, 1) := by decide +kernel
theorem dX5_decisionOf_23 : decode cX5_decisionOf 23 = .ok (.ifCond .eq 13, 3) := by decide +kernel
theorem dX5_decisionOf_26 : decode cX5_decisionOf 26 = .ok (.aload_n 0, 1) := by decide +kernel
theorem dX5_decisionOf_27 : decode cX5_decisionOf 27 = .ok (.iload 6, 2) := by decide +kernel
theorem dX5_decisionOf_29 : decode cX5_decisionOf 29 = .ok (.iload_n 1, 1) := by decide +kernel
theorem dX5_decisionOf_30 : decode cX5_decisionOf 30 = .ok (.invokevirtual 70, 3) := by decide +kernel
theorem dX5_decisionOf_33 : decode cX5_decisionOf 33 = .ok (.goto 4, 3) := by decide +kernel
theorem dX5_decisionOf_36 : decode cX5_decisionOf 36 = .ok (.iconst 2, 1) := by decide +kernel
theorem dX5_decisionOf_37 : decode cX5_decisionOf 37 = .ok (.istore 7, 2) := by decide +kernel
theorem dX5_decisionOf_39 : decode cX5_decisionOf 39 = .ok (.iload 7, 2) := by decide +kernel
theorem dX5_decisionOf_41 : decode cX5_decisionOf 41 = .ok (.iconst 2, 1) := by decide +kernel
theorem dX5_decisionOf_42 : decode cX5_decisionOf 42 = .ok (.if_icmp .eq 28, 3) := by decide +kernel
theorem dX5_decisionOf_45 : decode cX5_decisionOf 45 = .ok (.iload_n 3, 1) := by decide +kernel
theorem dX5_decisionOf_46 : decode cX5_decisionOf 46 = .ok (.iconst 1, 1) := by decide +kernel
theorem dX5_decisionOf_47 : decode cX5_decisionOf 47 = .ok (.iload 7, 2) := by decide +kernel
theorem dX5_decisionOf_49 : decode cX5_decisionOf 49 = .ok (.ishl, 1) := by decide +kernel
theorem dX5_decisionOf_50 : decode cX5_decisionOf 50 = .ok (.ior, 1) := by decide +kernel
theorem dX5_decisionOf_51 : decode cX5_decisionOf 51 = .ok (.istore_n 3, 1) := by decide +kernel
theorem dX5_decisionOf_52 : decode cX5_decisionOf 52 = .ok (.iinc 4 1, 3) := by decide +kernel
theorem dX5_decisionOf_55 : decode cX5_decisionOf 55 = .ok (.iload 4, 2) := by decide +kernel
theorem dX5_decisionOf_57 : decode cX5_decisionOf 57 = .ok (.iconst 1, 1) := by decide +kernel
theorem dX5_decisionOf_58 : decode cX5_decisionOf 58 = .ok (.if_icmp .ne 8, 3) := by decide +kernel
theorem dX5_decisionOf_61 : decode cX5_decisionOf 61 = .ok (.iload 7, 2) := by decide +kernel
theorem dX5_decisionOf_63 : decode cX5_decisionOf 63 = .ok (.goto 5, 3) := by decide +kernel
theorem dX5_decisionOf_66 : decode cX5_decisionOf 66 = .ok (.iload 5, 2) := by decide +kernel
theorem dX5_decisionOf_68 : decode cX5_decisionOf 68 = .ok (.istore 5, 2) := by decide +kernel
theorem dX5_decisionOf_70 : decode cX5_decisionOf 70 = .ok (.iinc 6 1, 3) := by decide +kernel
theorem dX5_decisionOf_73 : decode cX5_decisionOf 73 = .ok (.goto (-62), 3) := by decide +kernel
theorem dX5_decisionOf_76 : decode cX5_decisionOf 76 = .ok (.iload 4, 2) := by decide +kernel
theorem dX5_decisionOf_78 : decode cX5_decisionOf 78 = .ok (.ifCond .ne 7, 3) := by decide +kernel
theorem dX5_decisionOf_81 : decode cX5_decisionOf 81 = .ok (.iconst 2, 1) := by decide +kernel
theorem dX5_decisionOf_82 : decode cX5_decisionOf 82 = .ok (.goto 12, 3) := by decide +kernel
theorem dX5_decisionOf_85 : decode cX5_decisionOf 85 = .ok (.aload_n 0, 1) := by decide +kernel
theorem dX5_decisionOf_86 : decode cX5_decisionOf 86 = .ok (.iload_n 3, 1) := by decide +kernel
theorem dX5_decisionOf_87 : decode cX5_decisionOf 87 = .ok (.iload 5, 2) := by decide +kernel
theorem dX5_decisionOf_89 : decode cX5_decisionOf 89 = .ok (.iload 4, 2) := by decide +kernel
theorem dX5_decisionOf_91 : decode cX5_decisionOf 91 = .ok (.invokevirtual 73, 3) := by decide +kernel
theorem dX5_decisionOf_94 : decode cX5_decisionOf 94 = .ok (.ireturn, 1) := by decide +kernel
set_option maxHeartbeats 4000000 in
set_option maxRecDepth 100000 in
theorem w_X5_decisionOf (l : Launch) (G : GP) (x : XP) (a1 : Int32) (a2 : Int32) (σ : Sto) (P : Int32 → Sto → Prop) (h : D_X5_decisionOf a1 a2 σ P) : g_Meti l yX5_decisionOf cX5_decisionOf 8 (some .int) rm_X5_decisionOf G x [.ref (g_ad G 65), .int a1, .int a2] σ P := by
  unfold D_X5_decisionOf at h
  refine g_ofWi (by decide +kernel) (Nat.le_of_ble_eq_true rfl) ?_
  intro p e s m args below meth c Q ls C hM hl hret
  have hx := C.1
  have hb := C.2.1
  have hl : lv_has ls 8 [(0, .ref (g_ad G 65)), (1, .int a1), (2, .int a2)] := hl
  have h := h (fun (v3 : Int32) (v4 : Int32) (v5 : Int32) (v6 : Int32) (σ : Sto) => ∀ (H : Heap) (locs : List Loc) (ls : Array Slot), g_M G x σ s H locs → lv_has ls 8 [(0, .ref (g_ad G 65)), (1, .int a1), (2, .int a2), (3, .int v3), (4, .int v4), (5, .int v5), (6, .int v6)] → W p l e rm_X5_decisionOf s m args below meth c H locs 0 0 Q (F0 m 11 ls [])) (fun (v3 : Int32) (v4 : Int32) (v5 : Int32) (v6 : Int32) (t0 : Int32) (σ : Sto) => ∀ (H : Heap) (locs : List Loc) (ls : Array Slot), g_M G x σ s H locs → lv_has ls 8 [(0, .ref (g_ad G 65)), (1, .int a1), (2, .int a2), (3, .int v3), (4, .int v4), (5, .int v5), (6, .int v6)] → W p l e rm_X5_decisionOf s m args below meth c H locs 0 0 Q (F0 m 37 ls [.int t0]))
  have h := h (by
    intro v3 v4 v5 v6 σ h  H locs ls hM hl
    refine lv_iload (pc := 11) hx hb dX5_decisionOf_11 (lv_at hl 6 rfl) ?_
    refine lv_iconst (pc := 13) (v := 4) hx hb dX5_decisionOf_13 (by decide) ?_
    refine lv_icmp_ge (pc := 14) (tgt := 76) hx hb dX5_decisionOf_14 (by decide) (fun c14 => ?_) (fun c14 => ?_)
    · have h := h.1 c14
      refine lv_iload (pc := 76) hx hb dX5_decisionOf_76 (lv_at hl 4 rfl) ?_
      refine lv_if_ne (pc := 78) (tgt := 85) hx hb dX5_decisionOf_78 (by decide) (fun c78 => ?_) (fun c78 => ?_)
      · have h := h.2 c78
        refine lv_aload_n (pc := 85) hx hb dX5_decisionOf_85 rfl (lv_at hl 0 rfl) ?_
        refine lv_iload_n (pc := 86) hx hb dX5_decisionOf_86 rfl (lv_at hl 3 rfl) ?_
        refine lv_iload (pc := 87) hx hb dX5_decisionOf_87 (lv_at hl 5 rfl) ?_
        refine lv_iload (pc := 89) hx hb dX5_decisionOf_89 (lv_at hl 4 rfl) ?_
        refine g_cVi (pc := 91) C hM hl.1 yv_X5_combined q4_89 (by decide) ce_65 rfl (w_X5_combined l G x v3 v5 v4 σ _ h) rfl rfl ⟨⟨by decide, by decide⟩, by decide, by decide⟩ (Nat.le_of_ble_eq_true rfl) dX5_decisionOf_91 (fun r91 s91 H locs h hM => ?_)
        exact hret 94 _ _ _ _ _ dX5_decisionOf_94 (by rfl) h hM
      · have h := h.1 c78
        refine lv_iconst (pc := 81) (v := 2) hx hb dX5_decisionOf_81 (by decide) ?_
        refine lv_goto (pc := 82) (tgt := 94) hx hb dX5_decisionOf_82 (by decide) ?_
        exact hret 94 _ _ _ _ _ dX5_decisionOf_94 (by rfl) h hM
    · have h := h.2 c14
      refine lv_iload_n (pc := 17) hx hb dX5_decisionOf_17 rfl (lv_at hl 2 rfl) ?_
      refine lv_iconst (pc := 18) (v := 1) hx hb dX5_decisionOf_18 (by decide) ?_
      refine lv_iload (pc := 19) hx hb dX5_decisionOf_19 (lv_at hl 6 rfl) ?_
      refine lv_ishl (pc := 21) hx hb dX5_decisionOf_21 ?_
      refine lv_iand (pc := 22) hx hb dX5_decisionOf_22 ?_
      refine lv_if_eq (pc := 23) (tgt := 36) hx hb dX5_decisionOf_23 (by decide) (fun c23 => ?_) (fun c23 => ?_)
      · have h := h.1 c23
        refine lv_iconst (pc := 36) (v := 2) hx hb dX5_decisionOf_36 (by decide) ?_
        exact h _ _ _ hM (lv_sub hl [0, 1, 2, 3, 4, 5, 6] rfl)
      · have h := h.2 c23
        refine lv_aload_n (pc := 26) hx hb dX5_decisionOf_26 rfl (lv_at hl 0 rfl) ?_
        refine lv_iload (pc := 27) hx hb dX5_decisionOf_27 (lv_at hl 6 rfl) ?_
        refine lv_iload_n (pc := 29) hx hb dX5_decisionOf_29 rfl (lv_at hl 1 rfl) ?_
        refine g_cVi (pc := 30) C hM hl.1 yv_X5_policyDecisionOf q4_85 (by decide) ce_65 rfl (w_X5_policyDecisionOf l G x v6 a1 σ _ h) rfl rfl ⟨⟨by decide, by decide⟩, by decide, by decide⟩ (Nat.le_of_ble_eq_true rfl) dX5_decisionOf_30 (fun r30 s30 H locs h hM => ?_)
        refine lv_goto (pc := 33) (tgt := 37) hx hb dX5_decisionOf_33 (by decide) ?_
        exact h _ _ _ hM (lv_sub hl [0, 1, 2, 3, 4, 5, 6] rfl))
  have h := h (by
    intro v3 v4 v5 v6 t0 σ h  H locs ls hM hl
    refine lv_istore (pc := 37) (lv' := [(7, .int t0), (0, .ref (g_ad G 65)), (1, .int a1), (2, .int a2), (3, .int v3), (4, .int v4), (5, .int v5), (6, .int v6)]) hx hb dX5_decisionOf_37 hl (by decide) rfl (fun ls hl => ?_)
    refine lv_iload (pc := 39) hx hb dX5_decisionOf_39 (lv_at hl 0 rfl) ?_
    refine lv_iconst (pc := 41) (v := 2) hx hb dX5_decisionOf_41 (by decide) ?_
    refine lv_icmp_eq (pc := 42) (tgt := 70) hx hb dX5_decisionOf_42 (by decide) (fun c42 => ?_) (fun c42 => ?_)
    · have h := h.1 c42
      refine lv_iinc (pc := 70) (v := (v6 + 1)) (lv' := [(6, .int (v6 + 1)), (7, .int t0), (0, .ref (g_ad G 65)), (1, .int a1), (2, .int a2), (3, .int v3), (4, .int v4), (5, .int v5)]) hx hb dX5_decisionOf_70 hl (k := 7) rfl (by rfl) (by decide) rfl (fun ls hl => ?_)
      refine lv_goto (pc := 73) (tgt := 11) hx hb dX5_decisionOf_73 (by decide) ?_
      exact h _ _ _ hM (lv_sub hl [2, 3, 4, 5, 6, 7, 0] rfl)
    · have h := h.2 c42
      refine lv_iload_n (pc := 45) hx hb dX5_decisionOf_45 rfl (lv_at hl 4 rfl) ?_
      refine lv_iconst (pc := 46) (v := 1) hx hb dX5_decisionOf_46 (by decide) ?_
      refine lv_iload (pc := 47) hx hb dX5_decisionOf_47 (lv_at hl 0 rfl) ?_
      refine lv_ishl (pc := 49) hx hb dX5_decisionOf_49 ?_
      refine lv_ior (pc := 50) hx hb dX5_decisionOf_50 ?_
      refine lv_topi (fun v3_51 ev3_51 => ?_)
      have h := h v3_51 ev3_51
      refine lv_istore_n (pc := 51) (lv' := [(3, .int v3_51), (7, .int t0), (0, .ref (g_ad G 65)), (1, .int a1), (2, .int a2), (4, .int v4), (5, .int v5), (6, .int v6)]) hx hb dX5_decisionOf_51 rfl hl (by decide) rfl (fun ls hl => ?_)
      refine lv_iinc (pc := 52) (v := (v4 + 1)) (lv' := [(4, .int (v4 + 1)), (3, .int v3_51), (7, .int t0), (0, .ref (g_ad G 65)), (1, .int a1), (2, .int a2), (5, .int v5), (6, .int v6)]) hx hb dX5_decisionOf_52 hl (k := 5) rfl (by rfl) (by decide) rfl (fun ls hl => ?_)
      refine lv_iload (pc := 55) hx hb dX5_decisionOf_55 (lv_at hl 0 rfl) ?_
      refine lv_iconst (pc := 57) (v := 1) hx hb dX5_decisionOf_57 (by decide) ?_
      refine lv_icmp_ne (pc := 58) (tgt := 66) hx hb dX5_decisionOf_58 (by decide) (fun c58 => ?_) (fun c58 => ?_)
      · have h := h.2 c58
        refine lv_iload (pc := 66) hx hb dX5_decisionOf_66 (lv_at hl 6 rfl) ?_
        refine lv_istore (pc := 68) (lv' := [(5, .int v5), (4, .int (v4 + 1)), (3, .int v3_51), (7, .int t0), (0, .ref (g_ad G 65)), (1, .int a1), (2, .int a2), (6, .int v6)]) hx hb dX5_decisionOf_68 hl (by decide) rfl (fun ls hl => ?_)
        refine lv_iinc (pc := 70) (v := (v6 + 1)) (lv' := [(6, .int (v6 + 1)), (5, .int v5), (4, .int (v4 + 1)), (3, .int v3_51), (7, .int t0), (0, .ref (g_ad G 65)), (1, .int a1), (2, .int a2)]) hx hb dX5_decisionOf_70 hl (k := 7) rfl (by rfl) (by decide) rfl (fun ls hl => ?_)
        refine lv_goto (pc := 73) (tgt := 11) hx hb dX5_decisionOf_73 (by decide) ?_
        exact h _ _ _ hM (lv_sub hl [5, 6, 7, 3, 2, 1, 0] rfl)
      · have h := h.1 c58
        refine lv_iload (pc := 61) hx hb dX5_decisionOf_61 (lv_at hl 2 rfl) ?_
        refine lv_goto (pc := 63) (tgt := 68) hx hb dX5_decisionOf_63 (by decide) ?_
        refine lv_istore (pc := 68) (lv' := [(5, .int t0), (4, .int (v4 + 1)), (3, .int v3_51), (7, .int t0), (0, .ref (g_ad G 65)), (1, .int a1), (2, .int a2), (6, .int v6)]) hx hb dX5_decisionOf_68 hl (by decide) rfl (fun ls hl => ?_)
        refine lv_iinc (pc := 70) (v := (v6 + 1)) (lv' := [(6, .int (v6 + 1)), (5, .int t0), (4, .int (v4 + 1)), (3, .int v3_51), (7, .int t0), (0, .ref (g_ad G 65)), (1, .int a1), (2, .int a2)]) hx hb dX5_decisionOf_70 hl (k := 7) rfl (by rfl) (by decide) rfl (fun ls hl => ?_)
        refine lv_goto (pc := 73) (tgt := 11) hx hb dX5_decisionOf_73 (by decide) ?_
        exact h _ _ _ hM (lv_sub hl [5, 6, 7, 3, 2, 1, 0] rfl))
  refine lv_iconst (pc := 0) (v := 0) hx hb dX5_decisionOf_0 (by decide) ?_
  refine lv_istore_n (pc := 1) (lv' := [(3, .int 0), (0, .ref (g_ad G 65)), (1, .int a1), (2, .int a2)]) hx hb dX5_decisionOf_1 rfl hl (by decide) rfl (fun ls hl => ?_)
  refine lv_iconst (pc := 2) (v := 0) hx hb dX5_decisionOf_2 (by decide) ?_
  refine lv_istore (pc := 3) (lv' := [(4, .int 0), (3, .int 0), (0, .ref (g_ad G 65)), (1, .int a1), (2, .int a2)]) hx hb dX5_decisionOf_3 hl (by decide) rfl (fun ls hl => ?_)
  refine lv_iconst (pc := 5) (v := 2) hx hb dX5_decisionOf_5 (by decide) ?_
  refine lv_istore (pc := 6) (lv' := [(5, .int 2), (4, .int 0), (3, .int 0), (0, .ref (g_ad G 65)), (1, .int a1), (2, .int a2)]) hx hb dX5_decisionOf_6 hl (by decide) rfl (fun ls hl => ?_)
  refine lv_iconst (pc := 8) (v := 0) hx hb dX5_decisionOf_8 (by decide) ?_
  refine lv_istore (pc := 9) (lv' := [(6, .int 0), (5, .int 2), (4, .int 0), (3, .int 0), (0, .ref (g_ad G 65)), (1, .int a1), (2, .int a2)]) hx hb dX5_decisionOf_9 hl (by decide) rfl (fun ls hl => ?_)
  exact h _ _ _ hM (lv_sub hl [4, 5, 6, 3, 2, 1, 0] rfl)
abbrev rm_X5_lowest : Room := { frames := 0, cells := 0, slots := 0, locals := 0 }
theorem dX5_lowest_0 : decode cX5_lowest 0 = .ok (.iconst 0, 1) := by decide +kernel
theorem dX5_lowest_1 : decode cX5_lowest 1 = .ok (.istore_n 2, 1) := by decide +kernel
theorem dX5_lowest_2 : decode cX5_lowest 2 = .ok (.iload_n 2, 1) := by decide +kernel
theorem dX5_lowest_3 : decode cX5_lowest 3 = .ok (.aload_n 0, 1) := by decide +kernel
theorem dX5_lowest_4 : decode cX5_lowest 4 = .ok (.getfield 28, 3) := by decide +kernel
theorem dX5_lowest_7 : decode cX5_lowest 7 = .ok (.if_icmp .ge 24, 3) := by decide +kernel
theorem dX5_lowest_10 : decode cX5_lowest 10 = .ok (.iload_n 1, 1) := by decide +kernel
theorem dX5_lowest_11 : decode cX5_lowest 11 = .ok (.iconst 1, 1) := by decide +kernel
theorem dX5_lowest_12 : decode cX5_lowest 12 = .ok (.iload_n 2, 1) := by decide +kernel
theorem dX5_lowest_13 : decode cX5_lowest 13 = .ok (.ishl, 1) := by decide +kernel
theorem dX5_lowest_14 : decode cX5_lowest 14 = .ok (.iand, 1) := by decide +kernel
theorem dX5_lowest_15 : decode cX5_lowest 15 = .ok (.ifCond .eq 10, 3) := by decide +kernel
theorem dX5_lowest_18 : decode cX5_lowest 18 = .ok (.aload_n 0, 1) := by decide +kernel
theorem dX5_lowest_19 : decode cX5_lowest 19 = .ok (.getfield 15, 3) := by decide +kernel
theorem dX5_lowest_22 : decode cX5_lowest 22 = .ok (.iload_n 2, 1) := by decide +kernel
theorem dX5_lowest_23 : decode cX5_lowest 23 = .ok (.iaload, 1) := by decide +kernel
theorem dX5_lowest_24 : decode cX5_lowest 24 = .ok (.ireturn, 1) := by decide +kernel
theorem dX5_lowest_25 : decode cX5_lowest 25 = .ok (.iinc 2 1, 3) := by decide +kernel
theorem dX5_lowest_28 : decode cX5_lowest 28 = .ok (.goto (-26), 3) := by decide +kernel
theorem dX5_lowest_31 : decode cX5_lowest 31 = .ok (.iconst (-1), 1) := by decide +kernel
theorem dX5_lowest_32 : decode cX5_lowest 32 = .ok (.ireturn, 1) := by decide +kernel
set_option maxHeartbeats 4000000 in
set_option maxRecDepth 100000 in
theorem w_X5_lowest (l : Launch) (G : GP) (x : XP) (a1 : Int32) (σ : Sto) (P : Int32 → Sto → Prop) (h : D_X5_lowest a1 σ P) : g_Meti l yX5_lowest cX5_lowest 3 (some .int) rm_X5_lowest G x [.ref (g_ad G 65), .int a1] σ P := by
  unfold D_X5_lowest at h
  refine g_ofWi (by decide +kernel) (Nat.le_of_ble_eq_true rfl) ?_
  intro p e s m args below meth c Q ls C hM hl hret
  have hx := C.1
  have hb := C.2.1
  have hl : lv_has ls 3 [(0, .ref (g_ad G 65)), (1, .int a1)] := hl
  have h := h (fun (v2 : Int32) (σ : Sto) => ∀ (H : Heap) (locs : List Loc) (ls : Array Slot), g_M G x σ s H locs → lv_has ls 3 [(0, .ref (g_ad G 65)), (1, .int a1), (2, .int v2)] → W p l e rm_X5_lowest s m args below meth c H locs 0 0 Q (F0 m 2 ls []))
  have h := h (by
    intro v2 σ h  H locs ls hM hl
    refine lv_iload_n (pc := 2) hx hb dX5_lowest_2 rfl (lv_at hl 2 rfl) ?_
    refine lv_aload_n (pc := 3) hx hb dX5_lowest_3 rfl (lv_at hl 0 rfl) ?_
    refine g_get (pc := 4) (v := .int (σ 65 6)) C hM (by decide) ce_65 fl_RX5_28 rfl dX5_lowest_4 ?_
    refine lv_icmp_ge (pc := 7) (tgt := 31) hx hb dX5_lowest_7 (by decide) (fun c7 => ?_) (fun c7 => ?_)
    · have h := h.1 c7
      refine lv_iconst (pc := 31) (v := (-1)) hx hb dX5_lowest_31 (by decide) ?_
      exact hret 32 _ _ _ _ _ dX5_lowest_32 (by rfl) h hM
    · have h := h.2 c7
      refine lv_iload_n (pc := 10) hx hb dX5_lowest_10 rfl (lv_at hl 1 rfl) ?_
      refine lv_iconst (pc := 11) (v := 1) hx hb dX5_lowest_11 (by decide) ?_
      refine lv_iload_n (pc := 12) hx hb dX5_lowest_12 rfl (lv_at hl 2 rfl) ?_
      refine lv_ishl (pc := 13) hx hb dX5_lowest_13 ?_
      refine lv_iand (pc := 14) hx hb dX5_lowest_14 ?_
      refine lv_if_eq (pc := 15) (tgt := 25) hx hb dX5_lowest_15 (by decide) (fun c15 => ?_) (fun c15 => ?_)
      · have h := h.1 c15
        refine lv_iinc (pc := 25) (v := (v2 + 1)) (lv' := [(2, .int (v2 + 1)), (0, .ref (g_ad G 65)), (1, .int a1)]) hx hb dX5_lowest_25 hl (k := 2) rfl (by rfl) (by decide) rfl (fun ls hl => ?_)
        refine lv_goto (pc := 28) (tgt := 2) hx hb dX5_lowest_28 (by decide) ?_
        exact h _ _ _ hM (lv_sub hl [1, 2, 0] rfl)
      · have h := h.2 c15
        refine lv_aload_n (pc := 18) hx hb dX5_lowest_18 rfl (lv_at hl 0 rfl) ?_
        refine g_get (pc := 19) (v := .ref (g_ad G 67)) C hM (by decide) ce_65 fl_RX5_15 rfl dX5_lowest_19 ?_
        refine lv_iload_n (pc := 22) hx hb dX5_lowest_22 rfl (lv_at hl 2 rfl) ?_
        obtain ⟨hc, h⟩ := h
        refine g_ialdK (pc := 23) C hM (by decide) ce_67 hc rfl dX5_lowest_23 ?_
        exact hret 24 _ _ _ _ _ dX5_lowest_24 (by rfl) h hM)
  refine lv_iconst (pc := 0) (v := 0) hx hb dX5_lowest_0 (by decide) ?_
  refine lv_istore_n (pc := 1) (lv' := [(2, .int 0), (0, .ref (g_ad G 65)), (1, .int a1)]) hx hb dX5_lowest_1 rfl hl (by decide) rfl (fun ls hl => ?_)
  exact h _ _ _ hM (lv_sub hl [1, 2, 0] rfl)
abbrev rm_X5_deciderOf : Room := { frames := 1, cells := 0, slots := 0, locals := 23 }
theorem dX5_deciderOf_0 : decode cX5_deciderOf 0 = .ok (.iload_n 3, 1) := by decide +kernel
theorem dX5_deciderOf_1 : decode cX5_deciderOf 1 = .ok (.ifCond .eq 10, 3) := by decide +kernel
theorem dX5_deciderOf_4 : decode cX5_deciderOf 4 = .ok (.iload_n 3, 1) := by decide +kernel
theorem dX5_deciderOf_5 : decode cX5_deciderOf 5 = .ok (.iconst 1, 1) := by decide +kernel
theorem dX5_deciderOf_6 : decode cX5_deciderOf 6 = .ok (.if_icmp .eq 5, 3) := by decide +kernel
theorem dX5_deciderOf_9 : decode cX5_deciderOf 9 = .ok (.iconst (-1), 1) := by decide +kernel
theorem dX5_deciderOf_10 : decode cX5_deciderOf 10 = .ok (.ireturn, 1) := by decide +kernel
theorem dX5_deciderOf_11 : decode cX5_deciderOf 11 = .ok (.iconst 0, 1) := by decide +kernel
theorem dX5_deciderOf_12 : decode cX5_deciderOf 12 = .ok (.istore 4, 2) := by decide +kernel
theorem dX5_deciderOf_14 : decode cX5_deciderOf 14 = .ok (.iload 4, 2) := by decide +kernel
theorem dX5_deciderOf_16 : decode cX5_deciderOf 16 = .ok (.iconst 4, 1) := by decide +kernel
theorem dX5_deciderOf_17 : decode cX5_deciderOf 17 = .ok (.if_icmp .ge 66, 3) := by decide +kernel
theorem dX5_deciderOf_20 : decode cX5_deciderOf 20 = .ok (.iload_n 2, 1) := by decide +kernel
theorem dX5_deciderOf_21 : decode cX5_deciderOf 21 = .ok (.iconst 1, 1) := by decide +kernel
theorem dX5_deciderOf_22 : decode cX5_deciderOf 22 = .ok (.iload 4, 2) := by decide +kernel
theorem dX5_deciderOf_24 : decode cX5_deciderOf 24 = .ok (.ishl, 1) := by decide +kernel
theorem dX5_deciderOf_25 : decode cX5_deciderOf 25 = .ok (.iand, 1) := by decide +kernel
theorem dX5_deciderOf_26 : decode cX5_deciderOf 26 = .ok (.ifCond .eq 51, 3) := by decide +kernel
theorem dX5_deciderOf_29 : decode cX5_deciderOf 29 = .ok (.aload_n 0, 1) := by decide +kernel
theorem dX5_deciderOf_30 : decode cX5_deciderOf 30 = .ok (.iload 4, 2) := by decide +kernel
theorem dX5_deciderOf_32 : decode cX5_deciderOf 32 = .ok (.iload_n 1, 1) := by decide +kernel
theorem dX5_deciderOf_33 : decode cX5_deciderOf 33 = .ok (.invokevirtual 70, 3) := by decide +kernel
theorem dX5_deciderOf_36 : decode cX5_deciderOf 36 = .ok (.iload_n 3, 1) := by decide +kernel
theorem dX5_deciderOf_37 : decode cX5_deciderOf 37 = .ok (.if_icmp .ne 40, 3) := by decide +kernel
theorem dX5_deciderOf_40 : decode cX5_deciderOf 40 = .ok (.iload_n 3, 1) := by decide +kernel
theorem dX5_deciderOf_41 : decode cX5_deciderOf 41 = .ok (.iconst 1, 1) := by decide +kernel
theorem dX5_deciderOf_42 : decode cX5_deciderOf 42 = .ok (.if_icmp .ne 10, 3) := by decide +kernel
theorem dX5_deciderOf_45 : decode cX5_deciderOf 45 = .ok (.aload_n 0, 1) := by decide +kernel
theorem dX5_deciderOf_46 : decode cX5_deciderOf 46 = .ok (.getfield 32, 3) := by decide +kernel
theorem dX5_deciderOf_49 : decode cX5_deciderOf 49 = .ok (.goto 9, 3) := by decide +kernel
theorem dX5_deciderOf_52 : decode cX5_deciderOf 52 = .ok (.aload_n 0, 1) := by decide +kernel
theorem dX5_deciderOf_53 : decode cX5_deciderOf 53 = .ok (.getfield 32, 3) := by decide +kernel
theorem dX5_deciderOf_56 : decode cX5_deciderOf 56 = .ok (.iconst (-1), 1) := by decide +kernel
theorem dX5_deciderOf_57 : decode cX5_deciderOf 57 = .ok (.ixor, 1) := by decide +kernel
theorem dX5_deciderOf_58 : decode cX5_deciderOf 58 = .ok (.istore 5, 2) := by decide +kernel
theorem dX5_deciderOf_60 : decode cX5_deciderOf 60 = .ok (.aload_n 0, 1) := by decide +kernel
theorem dX5_deciderOf_61 : decode cX5_deciderOf 61 = .ok (.iload_n 1, 1) := by decide +kernel
theorem dX5_deciderOf_62 : decode cX5_deciderOf 62 = .ok (.aload_n 0, 1) := by decide +kernel
theorem dX5_deciderOf_63 : decode cX5_deciderOf 63 = .ok (.getfield 21, 3) := by decide +kernel
theorem dX5_deciderOf_66 : decode cX5_deciderOf 66 = .ok (.iload 4, 2) := by decide +kernel
theorem dX5_deciderOf_68 : decode cX5_deciderOf 68 = .ok (.iaload, 1) := by decide +kernel
theorem dX5_deciderOf_69 : decode cX5_deciderOf 69 = .ok (.iand, 1) := by decide +kernel
theorem dX5_deciderOf_70 : decode cX5_deciderOf 70 = .ok (.iload 5, 2) := by decide +kernel
theorem dX5_deciderOf_72 : decode cX5_deciderOf 72 = .ok (.iand, 1) := by decide +kernel
theorem dX5_deciderOf_73 : decode cX5_deciderOf 73 = .ok (.invokevirtual 82, 3) := by decide +kernel
theorem dX5_deciderOf_76 : decode cX5_deciderOf 76 = .ok (.ireturn, 1) := by decide +kernel
theorem dX5_deciderOf_77 : decode cX5_deciderOf 77 = .ok (.iinc 4 1, 3) := by decide +kernel
theorem dX5_deciderOf_80 : decode cX5_deciderOf 80 = .ok (.goto (-66), 3) := by decide +kernel
theorem dX5_deciderOf_83 : decode cX5_deciderOf 83 = .ok (.iconst (-1), 1) := by decide +kernel
theorem dX5_deciderOf_84 : decode cX5_deciderOf 84 = .ok (.ireturn, 1) := by decide +kernel
set_option maxHeartbeats 4000000 in
set_option maxRecDepth 100000 in
theorem w_X5_deciderOf (l : Launch) (G : GP) (x : XP) (a1 : Int32) (a2 : Int32) (a3 : Int32) (σ : Sto) (P : Int32 → Sto → Prop) (h : D_X5_deciderOf a1 a2 a3 σ P) : g_Meti l yX5_deciderOf cX5_deciderOf 6 (some .int) rm_X5_deciderOf G x [.ref (g_ad G 65), .int a1, .int a2, .int a3] σ P := by
  unfold D_X5_deciderOf at h
  refine g_ofWi (by decide +kernel) (Nat.le_of_ble_eq_true rfl) ?_
  intro p e s m args below meth c Q ls C hM hl hret
  have hx := C.1
  have hb := C.2.1
  have hl : lv_has ls 6 [(0, .ref (g_ad G 65)), (1, .int a1), (2, .int a2), (3, .int a3)] := hl
  have h := h (fun (v4 : Int32) (σ : Sto) => ∀ (H : Heap) (locs : List Loc) (ls : Array Slot), g_M G x σ s H locs → lv_has ls 6 [(0, .ref (g_ad G 65)), (1, .int a1), (2, .int a2), (3, .int a3), (4, .int v4)] → W p l e rm_X5_deciderOf s m args below meth c H locs 0 0 Q (F0 m 14 ls []))
  have h := h (by
    intro v4 σ h  H locs ls hM hl
    refine lv_iload (pc := 14) hx hb dX5_deciderOf_14 (lv_at hl 4 rfl) ?_
    refine lv_iconst (pc := 16) (v := 4) hx hb dX5_deciderOf_16 (by decide) ?_
    refine lv_icmp_ge (pc := 17) (tgt := 83) hx hb dX5_deciderOf_17 (by decide) (fun c17 => ?_) (fun c17 => ?_)
    · have h := h.1 c17
      refine lv_iconst (pc := 83) (v := (-1)) hx hb dX5_deciderOf_83 (by decide) ?_
      exact hret 84 _ _ _ _ _ dX5_deciderOf_84 (by rfl) h hM
    · have h := h.2 c17
      refine lv_iload_n (pc := 20) hx hb dX5_deciderOf_20 rfl (lv_at hl 2 rfl) ?_
      refine lv_iconst (pc := 21) (v := 1) hx hb dX5_deciderOf_21 (by decide) ?_
      refine lv_iload (pc := 22) hx hb dX5_deciderOf_22 (lv_at hl 4 rfl) ?_
      refine lv_ishl (pc := 24) hx hb dX5_deciderOf_24 ?_
      refine lv_iand (pc := 25) hx hb dX5_deciderOf_25 ?_
      refine lv_if_eq (pc := 26) (tgt := 77) hx hb dX5_deciderOf_26 (by decide) (fun c26 => ?_) (fun c26 => ?_)
      · have h := h.1 c26
        refine lv_iinc (pc := 77) (v := (v4 + 1)) (lv' := [(4, .int (v4 + 1)), (0, .ref (g_ad G 65)), (1, .int a1), (2, .int a2), (3, .int a3)]) hx hb dX5_deciderOf_77 hl (k := 4) rfl (by rfl) (by decide) rfl (fun ls hl => ?_)
        refine lv_goto (pc := 80) (tgt := 14) hx hb dX5_deciderOf_80 (by decide) ?_
        exact h _ _ _ hM (lv_sub hl [1, 2, 3, 4, 0] rfl)
      · have h := h.2 c26
        refine lv_aload_n (pc := 29) hx hb dX5_deciderOf_29 rfl (lv_at hl 0 rfl) ?_
        refine lv_iload (pc := 30) hx hb dX5_deciderOf_30 (lv_at hl 4 rfl) ?_
        refine lv_iload_n (pc := 32) hx hb dX5_deciderOf_32 rfl (lv_at hl 1 rfl) ?_
        refine g_cVi (pc := 33) C hM hl.1 yv_X5_policyDecisionOf q4_85 (by decide) ce_65 rfl (w_X5_policyDecisionOf l G x v4 a1 σ _ h) rfl rfl ⟨⟨by decide, by decide⟩, by decide, by decide⟩ (Nat.le_of_ble_eq_true rfl) dX5_deciderOf_33 (fun r33 s33 H locs h hM => ?_)
        refine lv_iload_n (pc := 36) hx hb dX5_deciderOf_36 rfl (lv_at hl 3 rfl) ?_
        refine lv_icmp_ne (pc := 37) (tgt := 77) hx hb dX5_deciderOf_37 (by decide) (fun c37 => ?_) (fun c37 => ?_)
        · have h := h.2 c37
          refine lv_iinc (pc := 77) (v := (v4 + 1)) (lv' := [(4, .int (v4 + 1)), (0, .ref (g_ad G 65)), (1, .int a1), (2, .int a2), (3, .int a3)]) hx hb dX5_deciderOf_77 hl (k := 4) rfl (by rfl) (by decide) rfl (fun ls hl => ?_)
          refine lv_goto (pc := 80) (tgt := 14) hx hb dX5_deciderOf_80 (by decide) ?_
          exact h _ _ _ hM (lv_sub hl [1, 2, 3, 4, 0] rfl)
        · have h := h.1 c37
          refine lv_iload_n (pc := 40) hx hb dX5_deciderOf_40 rfl (lv_at hl 3 rfl) ?_
          refine lv_iconst (pc := 41) (v := 1) hx hb dX5_deciderOf_41 (by decide) ?_
          refine lv_icmp_ne (pc := 42) (tgt := 52) hx hb dX5_deciderOf_42 (by decide) (fun c42 => ?_) (fun c42 => ?_)
          · have h := h.2 c42
            refine lv_aload_n (pc := 52) hx hb dX5_deciderOf_52 rfl (lv_at hl 0 rfl) ?_
            refine g_get (pc := 53) (v := .int (s33 65 5)) C hM (by decide) ce_65 fl_RX5_32 rfl dX5_deciderOf_53 ?_
            refine lv_iconst (pc := 56) (v := (-1)) hx hb dX5_deciderOf_56 (by decide) ?_
            refine lv_ixor (pc := 57) hx hb dX5_deciderOf_57 ?_
            refine lv_istore (pc := 58) (lv' := [(5, .int ((s33 65 5) ^^^ (-1))), (0, .ref (g_ad G 65)), (1, .int a1), (2, .int a2), (3, .int a3), (4, .int v4)]) hx hb dX5_deciderOf_58 hl (by decide) rfl (fun ls hl => ?_)
            refine lv_aload_n (pc := 60) hx hb dX5_deciderOf_60 rfl (lv_at hl 1 rfl) ?_
            refine lv_iload_n (pc := 61) hx hb dX5_deciderOf_61 rfl (lv_at hl 2 rfl) ?_
            refine lv_aload_n (pc := 62) hx hb dX5_deciderOf_62 rfl (lv_at hl 1 rfl) ?_
            refine g_get (pc := 63) (v := .ref (g_ad G 69)) C hM (by decide) ce_65 fl_RX5_21 rfl dX5_deciderOf_63 ?_
            refine lv_iload (pc := 66) hx hb dX5_deciderOf_66 (lv_at hl 5 rfl) ?_
            obtain ⟨hc, h⟩ := h
            refine g_ialdK (pc := 68) C hM (by decide) ce_69 hc rfl dX5_deciderOf_68 ?_
            refine lv_iand (pc := 69) hx hb dX5_deciderOf_69 ?_
            refine lv_iload (pc := 70) hx hb dX5_deciderOf_70 (lv_at hl 0 rfl) ?_
            refine lv_iand (pc := 72) hx hb dX5_deciderOf_72 ?_
            refine g_cVi (pc := 73) C hM hl.1 yv_X5_lowest q4_100 (by decide) ce_65 rfl (w_X5_lowest l G x ((a1 &&& (s33 69 (ix v4))) &&& ((s33 65 5) ^^^ (-1))) s33 _ h) rfl rfl ⟨⟨by decide, by decide⟩, by decide, by decide⟩ (Nat.le_of_ble_eq_true rfl) dX5_deciderOf_73 (fun r73 s73 H locs h hM => ?_)
            exact hret 76 _ _ _ _ _ dX5_deciderOf_76 (by rfl) h hM
          · have h := h.1 c42
            refine lv_aload_n (pc := 45) hx hb dX5_deciderOf_45 rfl (lv_at hl 0 rfl) ?_
            refine g_get (pc := 46) (v := .int (s33 65 5)) C hM (by decide) ce_65 fl_RX5_32 rfl dX5_deciderOf_46 ?_
            refine lv_goto (pc := 49) (tgt := 58) hx hb dX5_deciderOf_49 (by decide) ?_
            refine lv_istore (pc := 58) (lv' := [(5, .int (s33 65 5)), (0, .ref (g_ad G 65)), (1, .int a1), (2, .int a2), (3, .int a3), (4, .int v4)]) hx hb dX5_deciderOf_58 hl (by decide) rfl (fun ls hl => ?_)
            refine lv_aload_n (pc := 60) hx hb dX5_deciderOf_60 rfl (lv_at hl 1 rfl) ?_
            refine lv_iload_n (pc := 61) hx hb dX5_deciderOf_61 rfl (lv_at hl 2 rfl) ?_
            refine lv_aload_n (pc := 62) hx hb dX5_deciderOf_62 rfl (lv_at hl 1 rfl) ?_
            refine g_get (pc := 63) (v := .ref (g_ad G 69)) C hM (by decide) ce_65 fl_RX5_21 rfl dX5_deciderOf_63 ?_
            refine lv_iload (pc := 66) hx hb dX5_deciderOf_66 (lv_at hl 5 rfl) ?_
            obtain ⟨hc, h⟩ := h
            refine g_ialdK (pc := 68) C hM (by decide) ce_69 hc rfl dX5_deciderOf_68 ?_
            refine lv_iand (pc := 69) hx hb dX5_deciderOf_69 ?_
            refine lv_iload (pc := 70) hx hb dX5_deciderOf_70 (lv_at hl 0 rfl) ?_
            refine lv_iand (pc := 72) hx hb dX5_deciderOf_72 ?_
            refine g_cVi (pc := 73) C hM hl.1 yv_X5_lowest q4_100 (by decide) ce_65 rfl (w_X5_lowest l G x ((a1 &&& (s33 69 (ix v4))) &&& (s33 65 5)) s33 _ h) rfl rfl ⟨⟨by decide, by decide⟩, by decide, by decide⟩ (Nat.le_of_ble_eq_true rfl) dX5_deciderOf_73 (fun r73 s73 H locs h hM => ?_)
            exact hret 76 _ _ _ _ _ dX5_deciderOf_76 (by rfl) h hM)
  refine lv_iload_n (pc := 0) hx hb dX5_deciderOf_0 rfl (lv_at hl 3 rfl) ?_
  refine lv_if_eq (pc := 1) (tgt := 11) hx hb dX5_deciderOf_1 (by decide) (fun c1 => ?_) (fun c1 => ?_)
  · have h := h.1 c1
    refine lv_iconst (pc := 11) (v := 0) hx hb dX5_deciderOf_11 (by decide) ?_
    refine lv_istore (pc := 12) (lv' := [(4, .int 0), (0, .ref (g_ad G 65)), (1, .int a1), (2, .int a2), (3, .int a3)]) hx hb dX5_deciderOf_12 hl (by decide) rfl (fun ls hl => ?_)
    exact h _ _ _ hM (lv_sub hl [1, 2, 3, 4, 0] rfl)
  · have h := h.2 c1
    refine lv_iload_n (pc := 4) hx hb dX5_deciderOf_4 rfl (lv_at hl 3 rfl) ?_
    refine lv_iconst (pc := 5) (v := 1) hx hb dX5_deciderOf_5 (by decide) ?_
    refine lv_icmp_eq (pc := 6) (tgt := 11) hx hb dX5_deciderOf_6 (by decide) (fun c6 => ?_) (fun c6 => ?_)
    · have h := h.1 c6
      refine lv_iconst (pc := 11) (v := 0) hx hb dX5_deciderOf_11 (by decide) ?_
      refine lv_istore (pc := 12) (lv' := [(4, .int 0), (0, .ref (g_ad G 65)), (1, .int a1), (2, .int a2), (3, .int a3)]) hx hb dX5_deciderOf_12 hl (by decide) rfl (fun ls hl => ?_)
      exact h _ _ _ hM (lv_sub hl [1, 2, 3, 4, 0] rfl)
    · have h := h.2 c6
      refine lv_iconst (pc := 9) (v := (-1)) hx hb dX5_deciderOf_9 (by decide) ?_
      exact hret 10 _ _ _ _ _ dX5_deciderOf_10 (by rfl) h hM
abbrev rm_X0_add : Room := { frames := 1, cells := 0, slots := 0, locals := 40 }
theorem dX0_add_0 : decode cX0_add 0 = .ok (.aload_n 0, 1) := by decide +kernel
theorem dX0_add_1 : decode cX0_add 1 = .ok (.getfield 15, 3) := by decide +kernel
theorem dX0_add_4 : decode cX0_add 4 = .ok (.bipush 30, 2) := by decide +kernel
theorem dX0_add_6 : decode cX0_add 6 = .ok (.if_icmp .lt 24, 3) := by decide +kernel
theorem dX0_add_9 : decode cX0_add 9 = .ok (.aload_n 0, 1) := by decide +kernel
theorem dX0_add_10 : decode cX0_add 10 = .ok (.getfield 9, 3) := by decide +kernel
theorem dX0_add_13 : decode cX0_add 13 = .ok (.iconst 4, 1) := by decide +kernel
theorem dX0_add_14 : decode cX0_add 14 = .ok (.aload_n 0, 1) := by decide +kernel
theorem dX0_add_15 : decode cX0_add 15 = .ok (.getfield 9, 3) := by decide +kernel
theorem dX0_add_18 : decode cX0_add 18 = .ok (.iconst 0, 1) := by decide +kernel
theorem dX0_add_19 : decode cX0_add 19 = .ok (.bipush 116, 2) := by decide +kernel
theorem dX0_add_21 : decode cX0_add 21 = .ok (.invokestatic 19, 3) := by decide +kernel
theorem dX0_add_24 : decode cX0_add 24 = .ok (.aload_n 0, 1) := by decide +kernel
theorem dX0_add_25 : decode cX0_add 25 = .ok (.bipush 29, 2) := by decide +kernel
theorem dX0_add_27 : decode cX0_add 27 = .ok (.putfield 15, 3) := by decide +kernel
theorem dX0_add_30 : decode cX0_add 30 = .ok (.aload_n 0, 1) := by decide +kernel
theorem dX0_add_31 : decode cX0_add 31 = .ok (.getfield 15, 3) := by decide +kernel
theorem dX0_add_34 : decode cX0_add 34 = .ok (.iconst 4, 1) := by decide +kernel
theorem dX0_add_35 : decode cX0_add 35 = .ok (.imul, 1) := by decide +kernel
theorem dX0_add_36 : decode cX0_add 36 = .ok (.istore 5, 2) := by decide +kernel
theorem dX0_add_38 : decode cX0_add 38 = .ok (.aload_n 0, 1) := by decide +kernel
theorem dX0_add_39 : decode cX0_add 39 = .ok (.getfield 9, 3) := by decide +kernel
theorem dX0_add_42 : decode cX0_add 42 = .ok (.iload 5, 2) := by decide +kernel
theorem dX0_add_44 : decode cX0_add 44 = .ok (.iload_n 1, 1) := by decide +kernel
theorem dX0_add_45 : decode cX0_add 45 = .ok (.iastore, 1) := by decide +kernel
theorem dX0_add_46 : decode cX0_add 46 = .ok (.aload_n 0, 1) := by decide +kernel
theorem dX0_add_47 : decode cX0_add 47 = .ok (.getfield 9, 3) := by decide +kernel
theorem dX0_add_50 : decode cX0_add 50 = .ok (.iload 5, 2) := by decide +kernel
theorem dX0_add_52 : decode cX0_add 52 = .ok (.iconst 1, 1) := by decide +kernel
theorem dX0_add_53 : decode cX0_add 53 = .ok (.iadd, 1) := by decide +kernel
theorem dX0_add_54 : decode cX0_add 54 = .ok (.iload_n 2, 1) := by decide +kernel
theorem dX0_add_55 : decode cX0_add 55 = .ok (.iastore, 1) := by decide +kernel
theorem dX0_add_56 : decode cX0_add 56 = .ok (.aload_n 0, 1) := by decide +kernel
theorem dX0_add_57 : decode cX0_add 57 = .ok (.getfield 9, 3) := by decide +kernel
theorem dX0_add_60 : decode cX0_add 60 = .ok (.iload 5, 2) := by decide +kernel
theorem dX0_add_62 : decode cX0_add 62 = .ok (.iconst 2, 1) := by decide +kernel
theorem dX0_add_63 : decode cX0_add 63 = .ok (.iadd, 1) := by decide +kernel
theorem dX0_add_64 : decode cX0_add 64 = .ok (.iload_n 3, 1) := by decide +kernel
theorem dX0_add_65 : decode cX0_add 65 = .ok (.iastore, 1) := by decide +kernel
theorem dX0_add_66 : decode cX0_add 66 = .ok (.aload_n 0, 1) := by decide +kernel
theorem dX0_add_67 : decode cX0_add 67 = .ok (.getfield 9, 3) := by decide +kernel
theorem dX0_add_70 : decode cX0_add 70 = .ok (.iload 5, 2) := by decide +kernel
theorem dX0_add_72 : decode cX0_add 72 = .ok (.iconst 3, 1) := by decide +kernel
theorem dX0_add_73 : decode cX0_add 73 = .ok (.iadd, 1) := by decide +kernel
theorem dX0_add_74 : decode cX0_add 74 = .ok (.iload 4, 2) := by decide +kernel
theorem dX0_add_76 : decode cX0_add 76 = .ok (.iastore, 1) := by decide +kernel
theorem dX0_add_77 : decode cX0_add 77 = .ok (.aload_n 0, 1) := by decide +kernel
theorem dX0_add_78 : decode cX0_add 78 = .ok (.dup, 1) := by decide +kernel
theorem dX0_add_79 : decode cX0_add 79 = .ok (.getfield 15, 3) := by decide +kernel
theorem dX0_add_82 : decode cX0_add 82 = .ok (.iconst 1, 1) := by decide +kernel
theorem dX0_add_83 : decode cX0_add 83 = .ok (.iadd, 1) := by decide +kernel
theorem dX0_add_84 : decode cX0_add 84 = .ok (.putfield 15, 3) := by decide +kernel
theorem dX0_add_87 : decode cX0_add 87 = .ok (.return_, 1) := by decide +kernel
set_option maxHeartbeats 4000000 in
set_option maxRecDepth 100000 in
theorem w_X0_add (l : Launch) (G : GP) (x : XP) (a1 : Int32) (a2 : Int32) (a3 : Int32) (a4 : Int32) (σ : Sto) (P : Sto → Prop) (h : D_X0_add a1 a2 a3 a4 σ P) : g_Metv l yX0_add cX0_add 6 rm_X0_add G x [.ref (g_ad G 79), .int a1, .int a2, .int a3, .int a4] σ P := by
  unfold D_X0_add at h
  refine g_ofWv (by decide +kernel) (Nat.le_of_ble_eq_true rfl) ?_
  intro p e s m args below meth c Q ls C hM hl hret
  have hx := C.1
  have hb := C.2.1
  have hl : lv_has ls 6 [(0, .ref (g_ad G 79)), (1, .int a1), (2, .int a2), (3, .int a3), (4, .int a4)] := hl
  have h := h (fun (σ : Sto) => ∀ (H : Heap) (locs : List Loc) (ls : Array Slot), g_M G x σ s H locs → lv_has ls 6 [(0, .ref (g_ad G 79)), (1, .int a1), (2, .int a2), (3, .int a3), (4, .int a4)] → W p l e rm_X0_add s m args below meth c H locs 0 0 Q (F0 m 30 ls []))
  have h := h (by
    intro σ h  H locs ls hM hl
    refine lv_aload_n (pc := 30) hx hb dX0_add_30 rfl (lv_at hl 0 rfl) ?_
    refine g_get (pc := 31) (v := .int (σ 79 1)) C hM (by decide) ce_79 fl_RX0_15 rfl dX0_add_31 ?_
    refine lv_iconst (pc := 34) (v := 4) hx hb dX0_add_34 (by decide) ?_
    refine lv_imul (pc := 35) hx hb dX0_add_35 ?_
    refine lv_istore (pc := 36) (lv' := [(5, .int ((σ 79 1) * 4)), (0, .ref (g_ad G 79)), (1, .int a1), (2, .int a2), (3, .int a3), (4, .int a4)]) hx hb dX0_add_36 hl (by decide) rfl (fun ls hl => ?_)
    refine lv_aload_n (pc := 38) hx hb dX0_add_38 rfl (lv_at hl 1 rfl) ?_
    refine g_get (pc := 39) (v := .ref (g_ad G 80)) C hM (by decide) ce_79 fl_RX0_9 rfl dX0_add_39 ?_
    refine lv_iload (pc := 42) hx hb dX0_add_42 (lv_at hl 0 rfl) ?_
    refine lv_iload_n (pc := 44) hx hb dX0_add_44 rfl (lv_at hl 2 rfl) ?_
    obtain ⟨hc, h⟩ := h
    refine g_iastE (pc := 45) C hM (by decide) ce_80 hc rfl dX0_add_45 (fun s45 es45 H locs hM => ?_)
    have h := h s45 es45
    refine lv_aload_n (pc := 46) hx hb dX0_add_46 rfl (lv_at hl 1 rfl) ?_
    refine g_get (pc := 47) (v := .ref (g_ad G 80)) C hM (by decide) ce_79 fl_RX0_9 rfl dX0_add_47 ?_
    refine lv_iload (pc := 50) hx hb dX0_add_50 (lv_at hl 0 rfl) ?_
    refine lv_iconst (pc := 52) (v := 1) hx hb dX0_add_52 (by decide) ?_
    refine lv_iadd (pc := 53) hx hb dX0_add_53 ?_
    refine lv_iload_n (pc := 54) hx hb dX0_add_54 rfl (lv_at hl 3 rfl) ?_
    obtain ⟨hc, h⟩ := h
    refine g_iastE (pc := 55) C hM (by decide) ce_80 hc rfl dX0_add_55 (fun s55 es55 H locs hM => ?_)
    have h := h s55 es55
    refine lv_aload_n (pc := 56) hx hb dX0_add_56 rfl (lv_at hl 1 rfl) ?_
    refine g_get (pc := 57) (v := .ref (g_ad G 80)) C hM (by decide) ce_79 fl_RX0_9 rfl dX0_add_57 ?_
    refine lv_iload (pc := 60) hx hb dX0_add_60 (lv_at hl 0 rfl) ?_
    refine lv_iconst (pc := 62) (v := 2) hx hb dX0_add_62 (by decide) ?_
    refine lv_iadd (pc := 63) hx hb dX0_add_63 ?_
    refine lv_iload_n (pc := 64) hx hb dX0_add_64 rfl (lv_at hl 4 rfl) ?_
    obtain ⟨hc, h⟩ := h
    refine g_iastE (pc := 65) C hM (by decide) ce_80 hc rfl dX0_add_65 (fun s65 es65 H locs hM => ?_)
    have h := h s65 es65
    refine lv_aload_n (pc := 66) hx hb dX0_add_66 rfl (lv_at hl 1 rfl) ?_
    refine g_get (pc := 67) (v := .ref (g_ad G 80)) C hM (by decide) ce_79 fl_RX0_9 rfl dX0_add_67 ?_
    refine lv_iload (pc := 70) hx hb dX0_add_70 (lv_at hl 0 rfl) ?_
    refine lv_iconst (pc := 72) (v := 3) hx hb dX0_add_72 (by decide) ?_
    refine lv_iadd (pc := 73) hx hb dX0_add_73 ?_
    refine lv_iload (pc := 74) hx hb dX0_add_74 (lv_at hl 5 rfl) ?_
    obtain ⟨hc, h⟩ := h
    refine g_iastE (pc := 76) C hM (by decide) ce_80 hc rfl dX0_add_76 (fun s76 es76 H locs hM => ?_)
    have h := h s76 es76
    refine lv_aload_n (pc := 77) hx hb dX0_add_77 rfl (lv_at hl 1 rfl) ?_
    refine lv_dup (pc := 78) hx hb dX0_add_78 rfl ?_
    refine g_get (pc := 79) (v := .int (s76 79 1)) C hM (by decide) ce_79 fl_RX0_15 rfl dX0_add_79 ?_
    refine lv_iconst (pc := 82) (v := 1) hx hb dX0_add_82 (by decide) ?_
    refine lv_iadd (pc := 83) hx hb dX0_add_83 ?_
    refine g_putE (pc := 84) C hM (by decide) ce_79 fp_RX0_15 rfl rfl (Nat.le_of_ble_eq_true rfl) rfl dX0_add_84 (fun s84 es84 H locs hM => ?_)
    have h := h s84 es84
    exact hret 87 _ _ _ _ dX0_add_87 h hM)
  refine lv_aload_n (pc := 0) hx hb dX0_add_0 rfl (lv_at hl 0 rfl) ?_
  refine g_get (pc := 1) (v := .int (σ 79 1)) C hM (by decide) ce_79 fl_RX0_15 rfl dX0_add_1 ?_
  refine lv_bipush (pc := 4) (v := 30) hx hb dX0_add_4 (by decide) ?_
  refine lv_icmp_lt (pc := 6) (tgt := 30) hx hb dX0_add_6 (by decide) (fun c6 => ?_) (fun c6 => ?_)
  · have h := h.1 c6
    exact h _ _ _ hM (lv_sub hl [0, 1, 2, 3, 4] rfl)
  · have h := h.2 c6
    refine lv_aload_n (pc := 9) hx hb dX0_add_9 rfl (lv_at hl 0 rfl) ?_
    refine g_get (pc := 10) (v := .ref (g_ad G 80)) C hM (by decide) ce_79 fl_RX0_9 rfl dX0_add_10 ?_
    refine lv_iconst (pc := 13) (v := 4) hx hb dX0_add_13 (by decide) ?_
    refine lv_aload_n (pc := 14) hx hb dX0_add_14 rfl (lv_at hl 0 rfl) ?_
    refine g_get (pc := 15) (v := .ref (g_ad G 80)) C hM (by decide) ce_79 fl_RX0_9 rfl dX0_add_15 ?_
    refine lv_iconst (pc := 18) (v := 0) hx hb dX0_add_18 (by decide) ?_
    refine lv_bipush (pc := 19) (v := 116) hx hb dX0_add_19 (by decide) ?_
    obtain ⟨hc, h⟩ := h
    refine g_copyE (pc := 21) C hM hl.1 q4_108 ⟨q2_96, q2_95, q1_22⟩ (by decide) (by decide) ce_80 ce_80 hc ⟨Nat.le_of_ble_eq_true rfl, Nat.le_of_ble_eq_true rfl⟩ dX0_add_21 (fun s21 es21 H locs hM => ?_)
    have h := h s21 es21
    refine lv_aload_n (pc := 24) hx hb dX0_add_24 rfl (lv_at hl 0 rfl) ?_
    refine lv_bipush (pc := 25) (v := 29) hx hb dX0_add_25 (by decide) ?_
    refine g_putE (pc := 27) C hM (by decide) ce_79 fp_RX0_15 rfl rfl (Nat.le_of_ble_eq_true rfl) rfl dX0_add_27 (fun s27 es27 H locs hM => ?_)
    have h := h s27 es27
    exact h _ _ _ hM (lv_sub hl [0, 1, 2, 3, 4] rfl)
abbrev rm_X5_rulesOf : Room := { frames := 0, cells := 0, slots := 0, locals := 0 }
theorem dX5_rulesOf_0 : decode cX5_rulesOf 0 = .ok (.iconst 0, 1) := by decide +kernel
theorem dX5_rulesOf_1 : decode cX5_rulesOf 1 = .ok (.istore_n 2, 1) := by decide +kernel
theorem dX5_rulesOf_2 : decode cX5_rulesOf 2 = .ok (.iconst 0, 1) := by decide +kernel
theorem dX5_rulesOf_3 : decode cX5_rulesOf 3 = .ok (.istore_n 3, 1) := by decide +kernel
theorem dX5_rulesOf_4 : decode cX5_rulesOf 4 = .ok (.iload_n 3, 1) := by decide +kernel
theorem dX5_rulesOf_5 : decode cX5_rulesOf 5 = .ok (.iconst 4, 1) := by decide +kernel
theorem dX5_rulesOf_6 : decode cX5_rulesOf 6 = .ok (.if_icmp .ge 26, 3) := by decide +kernel
theorem dX5_rulesOf_9 : decode cX5_rulesOf 9 = .ok (.iload_n 1, 1) := by decide +kernel
theorem dX5_rulesOf_10 : decode cX5_rulesOf 10 = .ok (.iconst 1, 1) := by decide +kernel
theorem dX5_rulesOf_11 : decode cX5_rulesOf 11 = .ok (.iload_n 3, 1) := by decide +kernel
theorem dX5_rulesOf_12 : decode cX5_rulesOf 12 = .ok (.ishl, 1) := by decide +kernel
theorem dX5_rulesOf_13 : decode cX5_rulesOf 13 = .ok (.iand, 1) := by decide +kernel
theorem dX5_rulesOf_14 : decode cX5_rulesOf 14 = .ok (.ifCond .eq 12, 3) := by decide +kernel
theorem dX5_rulesOf_17 : decode cX5_rulesOf 17 = .ok (.iload_n 2, 1) := by decide +kernel
theorem dX5_rulesOf_18 : decode cX5_rulesOf 18 = .ok (.aload_n 0, 1) := by decide +kernel
theorem dX5_rulesOf_19 : decode cX5_rulesOf 19 = .ok (.getfield 21, 3) := by decide +kernel
theorem dX5_rulesOf_22 : decode cX5_rulesOf 22 = .ok (.iload_n 3, 1) := by decide +kernel
theorem dX5_rulesOf_23 : decode cX5_rulesOf 23 = .ok (.iaload, 1) := by decide +kernel
theorem dX5_rulesOf_24 : decode cX5_rulesOf 24 = .ok (.ior, 1) := by decide +kernel
theorem dX5_rulesOf_25 : decode cX5_rulesOf 25 = .ok (.istore_n 2, 1) := by decide +kernel
theorem dX5_rulesOf_26 : decode cX5_rulesOf 26 = .ok (.iinc 3 1, 3) := by decide +kernel
theorem dX5_rulesOf_29 : decode cX5_rulesOf 29 = .ok (.goto (-25), 3) := by decide +kernel
theorem dX5_rulesOf_32 : decode cX5_rulesOf 32 = .ok (.iload_n 2, 1) := by decide +kernel
theorem dX5_rulesOf_33 : decode cX5_rulesOf 33 = .ok (.ireturn, 1) := by decide +kernel
set_option maxHeartbeats 4000000 in
set_option maxRecDepth 100000 in
theorem w_X5_rulesOf (l : Launch) (G : GP) (x : XP) (a1 : Int32) (σ : Sto) (P : Int32 → Sto → Prop) (h : D_X5_rulesOf a1 σ P) : g_Meti l yX5_rulesOf cX5_rulesOf 4 (some .int) rm_X5_rulesOf G x [.ref (g_ad G 65), .int a1] σ P := by
  unfold D_X5_rulesOf at h
  refine g_ofWi (by decide +kernel) (Nat.le_of_ble_eq_true rfl) ?_
  intro p e s m args below meth c Q ls C hM hl hret
  have hx := C.1
  have hb := C.2.1
  have hl : lv_has ls 4 [(0, .ref (g_ad G 65)), (1, .int a1)] := hl
  have h := h (fun (v2 : Int32) (v3 : Int32) (σ : Sto) => ∀ (H : Heap) (locs : List Loc) (ls : Array Slot), g_M G x σ s H locs → lv_has ls 4 [(0, .ref (g_ad G 65)), (1, .int a1), (2, .int v2), (3, .int v3)] → W p l e rm_X5_rulesOf s m args below meth c H locs 0 0 Q (F0 m 4 ls []))
  have h := h (by
    intro v2 v3 σ h  H locs ls hM hl
    refine lv_iload_n (pc := 4) hx hb dX5_rulesOf_4 rfl (lv_at hl 3 rfl) ?_
    refine lv_iconst (pc := 5) (v := 4) hx hb dX5_rulesOf_5 (by decide) ?_
    refine lv_icmp_ge (pc := 6) (tgt := 32) hx hb dX5_rulesOf_6 (by decide) (fun c6 => ?_) (fun c6 => ?_)
    · have h := h.1 c6
      refine lv_iload_n (pc := 32) hx hb dX5_rulesOf_32 rfl (lv_at hl 2 rfl) ?_
      exact hret 33 _ _ _ _ _ dX5_rulesOf_33 (by rfl) h hM
    · have h := h.2 c6
      refine lv_iload_n (pc := 9) hx hb dX5_rulesOf_9 rfl (lv_at hl 1 rfl) ?_
      refine lv_iconst (pc := 10) (v := 1) hx hb dX5_rulesOf_10 (by decide) ?_
      refine lv_iload_n (pc := 11) hx hb dX5_rulesOf_11 rfl (lv_at hl 3 rfl) ?_
      refine lv_ishl (pc := 12) hx hb dX5_rulesOf_12 ?_
      refine lv_iand (pc := 13) hx hb dX5_rulesOf_13 ?_
      refine lv_if_eq (pc := 14) (tgt := 26) hx hb dX5_rulesOf_14 (by decide) (fun c14 => ?_) (fun c14 => ?_)
      · have h := h.1 c14
        refine lv_iinc (pc := 26) (v := (v3 + 1)) (lv' := [(3, .int (v3 + 1)), (0, .ref (g_ad G 65)), (1, .int a1), (2, .int v2)]) hx hb dX5_rulesOf_26 hl (k := 3) rfl (by rfl) (by decide) rfl (fun ls hl => ?_)
        refine lv_goto (pc := 29) (tgt := 4) hx hb dX5_rulesOf_29 (by decide) ?_
        exact h _ _ _ hM (lv_sub hl [1, 2, 3, 0] rfl)
      · have h := h.2 c14
        refine lv_iload_n (pc := 17) hx hb dX5_rulesOf_17 rfl (lv_at hl 2 rfl) ?_
        refine lv_aload_n (pc := 18) hx hb dX5_rulesOf_18 rfl (lv_at hl 0 rfl) ?_
        refine g_get (pc := 19) (v := .ref (g_ad G 69)) C hM (by decide) ce_65 fl_RX5_21 rfl dX5_rulesOf_19 ?_
        refine lv_iload_n (pc := 22) hx hb dX5_rulesOf_22 rfl (lv_at hl 3 rfl) ?_
        obtain ⟨hc, h⟩ := h
        refine g_ialdK (pc := 23) C hM (by decide) ce_69 hc rfl dX5_rulesOf_23 ?_
        refine lv_ior (pc := 24) hx hb dX5_rulesOf_24 ?_
        refine lv_istore_n (pc := 25) (lv' := [(2, .int (v2 ||| (σ 69 (ix v3)))), (0, .ref (g_ad G 65)), (1, .int a1), (3, .int v3)]) hx hb dX5_rulesOf_25 rfl hl (by decide) rfl (fun ls hl => ?_)
        refine lv_iinc (pc := 26) (v := (v3 + 1)) (lv' := [(3, .int (v3 + 1)), (2, .int (v2 ||| (σ 69 (ix v3)))), (0, .ref (g_ad G 65)), (1, .int a1)]) hx hb dX5_rulesOf_26 hl (k := 3) rfl (by rfl) (by decide) rfl (fun ls hl => ?_)
        refine lv_goto (pc := 29) (tgt := 4) hx hb dX5_rulesOf_29 (by decide) ?_
        exact h _ _ _ hM (lv_sub hl [2, 3, 1, 0] rfl))
  refine lv_iconst (pc := 0) (v := 0) hx hb dX5_rulesOf_0 (by decide) ?_
  refine lv_istore_n (pc := 1) (lv' := [(2, .int 0), (0, .ref (g_ad G 65)), (1, .int a1)]) hx hb dX5_rulesOf_1 rfl hl (by decide) rfl (fun ls hl => ?_)
  refine lv_iconst (pc := 2) (v := 0) hx hb dX5_rulesOf_2 (by decide) ?_
  refine lv_istore_n (pc := 3) (lv' := [(3, .int 0), (2, .int 0), (0, .ref (g_ad G 65)), (1, .int a1)]) hx hb dX5_rulesOf_3 rfl hl (by decide) rfl (fun ls hl => ?_)
  exact h _ _ _ hM (lv_sub hl [2, 3, 1, 0] rfl)
abbrev rm_X5_allowing : Room := { frames := 1, cells := 0, slots := 0, locals := 22 }
theorem dX5_allowing_0 : decode cX5_allowing 0 = .ok (.iload_n 1, 1) := by decide +kernel
theorem dX5_allowing_1 : decode cX5_allowing 1 = .ok (.istore 4, 2) := by decide +kernel
theorem dX5_allowing_3 : decode cX5_allowing 3 = .ok (.iconst 0, 1) := by decide +kernel
theorem dX5_allowing_4 : decode cX5_allowing 4 = .ok (.istore 5, 2) := by decide +kernel
theorem dX5_allowing_6 : decode cX5_allowing 6 = .ok (.iload 5, 2) := by decide +kernel
theorem dX5_allowing_8 : decode cX5_allowing 8 = .ok (.aload_n 0, 1) := by decide +kernel
theorem dX5_allowing_9 : decode cX5_allowing 9 = .ok (.getfield 28, 3) := by decide +kernel
theorem dX5_allowing_12 : decode cX5_allowing 12 = .ok (.if_icmp .ge 34, 3) := by decide +kernel
theorem dX5_allowing_15 : decode cX5_allowing 15 = .ok (.aload_n 0, 1) := by decide +kernel
theorem dX5_allowing_16 : decode cX5_allowing 16 = .ok (.iload 5, 2) := by decide +kernel
theorem dX5_allowing_18 : decode cX5_allowing 18 = .ok (.iload_n 2, 1) := by decide +kernel
theorem dX5_allowing_19 : decode cX5_allowing 19 = .ok (.invokevirtual 60, 3) := by decide +kernel
theorem dX5_allowing_22 : decode cX5_allowing 22 = .ok (.iconst 1, 1) := by decide +kernel
theorem dX5_allowing_23 : decode cX5_allowing 23 = .ok (.iload_n 3, 1) := by decide +kernel
theorem dX5_allowing_24 : decode cX5_allowing 24 = .ok (.ishl, 1) := by decide +kernel
theorem dX5_allowing_25 : decode cX5_allowing 25 = .ok (.iand, 1) := by decide +kernel
theorem dX5_allowing_26 : decode cX5_allowing 26 = .ok (.ifCond .ne 14, 3) := by decide +kernel
theorem dX5_allowing_29 : decode cX5_allowing 29 = .ok (.iload 4, 2) := by decide +kernel
theorem dX5_allowing_31 : decode cX5_allowing 31 = .ok (.iconst 1, 1) := by decide +kernel
theorem dX5_allowing_32 : decode cX5_allowing 32 = .ok (.iload 5, 2) := by decide +kernel
theorem dX5_allowing_34 : decode cX5_allowing 34 = .ok (.ishl, 1) := by decide +kernel
theorem dX5_allowing_35 : decode cX5_allowing 35 = .ok (.iconst (-1), 1) := by decide +kernel
theorem dX5_allowing_36 : decode cX5_allowing 36 = .ok (.ixor, 1) := by decide +kernel
theorem dX5_allowing_37 : decode cX5_allowing 37 = .ok (.iand, 1) := by decide +kernel
theorem dX5_allowing_38 : decode cX5_allowing 38 = .ok (.istore 4, 2) := by decide +kernel
theorem dX5_allowing_40 : decode cX5_allowing 40 = .ok (.iinc 5 1, 3) := by decide +kernel
theorem dX5_allowing_43 : decode cX5_allowing 43 = .ok (.goto (-37), 3) := by decide +kernel
theorem dX5_allowing_46 : decode cX5_allowing 46 = .ok (.iload 4, 2) := by decide +kernel
theorem dX5_allowing_48 : decode cX5_allowing 48 = .ok (.ireturn, 1) := by decide +kernel
set_option maxHeartbeats 4000000 in
set_option maxRecDepth 100000 in
theorem w_X5_allowing (l : Launch) (G : GP) (x : XP) (a1 : Int32) (a2 : Int32) (a3 : Int32) (σ : Sto) (P : Int32 → Sto → Prop) (h : D_X5_allowing a1 a2 a3 σ P) : g_Meti l yX5_allowing cX5_allowing 6 (some .int) rm_X5_allowing G x [.ref (g_ad G 65), .int a1, .int a2, .int a3] σ P := by
  unfold D_X5_allowing at h
  refine g_ofWi (by decide +kernel) (Nat.le_of_ble_eq_true rfl) ?_
  intro p e s m args below meth c Q ls C hM hl hret
  have hx := C.1
  have hb := C.2.1
  have hl : lv_has ls 6 [(0, .ref (g_ad G 65)), (1, .int a1), (2, .int a2), (3, .int a3)] := hl
  have h := h (fun (v4 : Int32) (v5 : Int32) (σ : Sto) => ∀ (H : Heap) (locs : List Loc) (ls : Array Slot), g_M G x σ s H locs → lv_has ls 6 [(0, .ref (g_ad G 65)), (2, .int a2), (3, .int a3), (4, .int v4), (5, .int v5)] → W p l e rm_X5_allowing s m args below meth c H locs 0 0 Q (F0 m 6 ls []))
  have h := h (by
    intro v4 v5 σ h  H locs ls hM hl
    refine lv_iload (pc := 6) hx hb dX5_allowing_6 (lv_at hl 4 rfl) ?_
    refine lv_aload_n (pc := 8) hx hb dX5_allowing_8 rfl (lv_at hl 0 rfl) ?_
    refine g_get (pc := 9) (v := .int (σ 65 6)) C hM (by decide) ce_65 fl_RX5_28 rfl dX5_allowing_9 ?_
    refine lv_icmp_ge (pc := 12) (tgt := 46) hx hb dX5_allowing_12 (by decide) (fun c12 => ?_) (fun c12 => ?_)
    · have h := h.1 c12
      refine lv_iload (pc := 46) hx hb dX5_allowing_46 (lv_at hl 3 rfl) ?_
      exact hret 48 _ _ _ _ _ dX5_allowing_48 (by rfl) h hM
    · have h := h.2 c12
      refine lv_aload_n (pc := 15) hx hb dX5_allowing_15 rfl (lv_at hl 0 rfl) ?_
      refine lv_iload (pc := 16) hx hb dX5_allowing_16 (lv_at hl 4 rfl) ?_
      refine lv_iload_n (pc := 18) hx hb dX5_allowing_18 rfl (lv_at hl 1 rfl) ?_
      refine g_cVi (pc := 19) C hM hl.1 yv_X5_box q4_52 (by decide) ce_65 rfl (w_X5_box l G x v5 a2 σ _ h) rfl rfl ⟨⟨by decide, by decide⟩, by decide, by decide⟩ (Nat.le_of_ble_eq_true rfl) dX5_allowing_19 (fun r19 s19 H locs h hM => ?_)
      refine lv_iconst (pc := 22) (v := 1) hx hb dX5_allowing_22 (by decide) ?_
      refine lv_iload_n (pc := 23) hx hb dX5_allowing_23 rfl (lv_at hl 2 rfl) ?_
      refine lv_ishl (pc := 24) hx hb dX5_allowing_24 ?_
      refine lv_iand (pc := 25) hx hb dX5_allowing_25 ?_
      refine lv_if_ne (pc := 26) (tgt := 40) hx hb dX5_allowing_26 (by decide) (fun c26 => ?_) (fun c26 => ?_)
      · have h := h.2 c26
        refine lv_iinc (pc := 40) (v := (v5 + 1)) (lv' := [(5, .int (v5 + 1)), (0, .ref (g_ad G 65)), (2, .int a2), (3, .int a3), (4, .int v4)]) hx hb dX5_allowing_40 hl (k := 4) rfl (by rfl) (by decide) rfl (fun ls hl => ?_)
        refine lv_goto (pc := 43) (tgt := 6) hx hb dX5_allowing_43 (by decide) ?_
        exact h _ _ _ hM (lv_sub hl [1, 2, 3, 4, 0] rfl)
      · have h := h.1 c26
        refine lv_iload (pc := 29) hx hb dX5_allowing_29 (lv_at hl 3 rfl) ?_
        refine lv_iconst (pc := 31) (v := 1) hx hb dX5_allowing_31 (by decide) ?_
        refine lv_iload (pc := 32) hx hb dX5_allowing_32 (lv_at hl 4 rfl) ?_
        refine lv_ishl (pc := 34) hx hb dX5_allowing_34 ?_
        refine lv_iconst (pc := 35) (v := (-1)) hx hb dX5_allowing_35 (by decide) ?_
        refine lv_ixor (pc := 36) hx hb dX5_allowing_36 ?_
        refine lv_iand (pc := 37) hx hb dX5_allowing_37 ?_
        refine lv_topi (fun v4_38 ev4_38 => ?_)
        have h := h v4_38 ev4_38
        refine lv_istore (pc := 38) (lv' := [(4, .int v4_38), (0, .ref (g_ad G 65)), (2, .int a2), (3, .int a3), (5, .int v5)]) hx hb dX5_allowing_38 hl (by decide) rfl (fun ls hl => ?_)
        refine lv_iinc (pc := 40) (v := (v5 + 1)) (lv' := [(5, .int (v5 + 1)), (4, .int v4_38), (0, .ref (g_ad G 65)), (2, .int a2), (3, .int a3)]) hx hb dX5_allowing_40 hl (k := 4) rfl (by rfl) (by decide) rfl (fun ls hl => ?_)
        refine lv_goto (pc := 43) (tgt := 6) hx hb dX5_allowing_43 (by decide) ?_
        exact h _ _ _ hM (lv_sub hl [2, 3, 4, 1, 0] rfl))
  refine lv_iload_n (pc := 0) hx hb dX5_allowing_0 rfl (lv_at hl 1 rfl) ?_
  refine lv_istore (pc := 1) (lv' := [(4, .int a1), (0, .ref (g_ad G 65)), (1, .int a1), (2, .int a2), (3, .int a3)]) hx hb dX5_allowing_1 hl (by decide) rfl (fun ls hl => ?_)
  refine lv_iconst (pc := 3) (v := 0) hx hb dX5_allowing_3 (by decide) ?_
  refine lv_istore (pc := 4) (lv' := [(5, .int 0), (4, .int a1), (0, .ref (g_ad G 65)), (1, .int a1), (2, .int a2), (3, .int a3)]) hx hb dX5_allowing_4 hl (by decide) rfl (fun ls hl => ?_)
  exact h _ _ _ hM (lv_sub hl [2, 4, 5, 1, 0] rfl)
abbrev rm_X9_putIntoGroup : Room := { frames := 0, cells := 0, slots := 0, locals := 0 }
theorem dX9_putIntoGroup_0 : decode cX9_putIntoGroup 0 = .ok (.aload_n 0, 1) := by decide +kernel
theorem dX9_putIntoGroup_1 : decode cX9_putIntoGroup 1 = .ok (.getfield 38, 3) := by decide +kernel
theorem dX9_putIntoGroup_4 : decode cX9_putIntoGroup 4 = .ok (.bipush 16, 2) := by decide +kernel
theorem dX9_putIntoGroup_6 : decode cX9_putIntoGroup 6 = .ok (.imul, 1) := by decide +kernel
theorem dX9_putIntoGroup_7 : decode cX9_putIntoGroup 7 = .ok (.istore_n 2, 1) := by decide +kernel
theorem dX9_putIntoGroup_8 : decode cX9_putIntoGroup 8 = .ok (.iload_n 2, 1) := by decide +kernel
theorem dX9_putIntoGroup_9 : decode cX9_putIntoGroup 9 = .ok (.aload_n 0, 1) := by decide +kernel
theorem dX9_putIntoGroup_10 : decode cX9_putIntoGroup 10 = .ok (.getfield 15, 3) := by decide +kernel
theorem dX9_putIntoGroup_13 : decode cX9_putIntoGroup 13 = .ok (.aload_n 0, 1) := by decide +kernel
theorem dX9_putIntoGroup_14 : decode cX9_putIntoGroup 14 = .ok (.getfield 38, 3) := by decide +kernel
theorem dX9_putIntoGroup_17 : decode cX9_putIntoGroup 17 = .ok (.iaload, 1) := by decide +kernel
theorem dX9_putIntoGroup_18 : decode cX9_putIntoGroup 18 = .ok (.iadd, 1) := by decide +kernel
theorem dX9_putIntoGroup_19 : decode cX9_putIntoGroup 19 = .ok (.istore_n 3, 1) := by decide +kernel
theorem dX9_putIntoGroup_20 : decode cX9_putIntoGroup 20 = .ok (.iload_n 2, 1) := by decide +kernel
theorem dX9_putIntoGroup_21 : decode cX9_putIntoGroup 21 = .ok (.istore 4, 2) := by decide +kernel
theorem dX9_putIntoGroup_23 : decode cX9_putIntoGroup 23 = .ok (.iload 4, 2) := by decide +kernel
theorem dX9_putIntoGroup_25 : decode cX9_putIntoGroup 25 = .ok (.iload_n 3, 1) := by decide +kernel
theorem dX9_putIntoGroup_26 : decode cX9_putIntoGroup 26 = .ok (.if_icmp .ge 32, 3) := by decide +kernel
theorem dX9_putIntoGroup_29 : decode cX9_putIntoGroup 29 = .ok (.aload_n 0, 1) := by decide +kernel
theorem dX9_putIntoGroup_30 : decode cX9_putIntoGroup 30 = .ok (.getfield 18, 3) := by decide +kernel
theorem dX9_putIntoGroup_33 : decode cX9_putIntoGroup 33 = .ok (.iload 4, 2) := by decide +kernel
theorem dX9_putIntoGroup_35 : decode cX9_putIntoGroup 35 = .ok (.iaload, 1) := by decide +kernel
theorem dX9_putIntoGroup_36 : decode cX9_putIntoGroup 36 = .ok (.iload_n 1, 1) := by decide +kernel
theorem dX9_putIntoGroup_37 : decode cX9_putIntoGroup 37 = .ok (.if_icmp .ne 15, 3) := by decide +kernel
theorem dX9_putIntoGroup_40 : decode cX9_putIntoGroup 40 = .ok (.aload_n 0, 1) := by decide +kernel
theorem dX9_putIntoGroup_41 : decode cX9_putIntoGroup 41 = .ok (.getfield 21, 3) := by decide +kernel
theorem dX9_putIntoGroup_44 : decode cX9_putIntoGroup 44 = .ok (.iload 4, 2) := by decide +kernel
theorem dX9_putIntoGroup_46 : decode cX9_putIntoGroup 46 = .ok (.dup2, 1) := by decide +kernel
theorem dX9_putIntoGroup_47 : decode cX9_putIntoGroup 47 = .ok (.iaload, 1) := by decide +kernel
theorem dX9_putIntoGroup_48 : decode cX9_putIntoGroup 48 = .ok (.iconst 1, 1) := by decide +kernel
theorem dX9_putIntoGroup_49 : decode cX9_putIntoGroup 49 = .ok (.iadd, 1) := by decide +kernel
theorem dX9_putIntoGroup_50 : decode cX9_putIntoGroup 50 = .ok (.iastore, 1) := by decide +kernel
theorem dX9_putIntoGroup_51 : decode cX9_putIntoGroup 51 = .ok (.return_, 1) := by decide +kernel
theorem dX9_putIntoGroup_52 : decode cX9_putIntoGroup 52 = .ok (.iinc 4 1, 3) := by decide +kernel
theorem dX9_putIntoGroup_55 : decode cX9_putIntoGroup 55 = .ok (.goto (-32), 3) := by decide +kernel
theorem dX9_putIntoGroup_58 : decode cX9_putIntoGroup 58 = .ok (.aload_n 0, 1) := by decide +kernel
theorem dX9_putIntoGroup_59 : decode cX9_putIntoGroup 59 = .ok (.getfield 18, 3) := by decide +kernel
theorem dX9_putIntoGroup_62 : decode cX9_putIntoGroup 62 = .ok (.iload_n 3, 1) := by decide +kernel
theorem dX9_putIntoGroup_63 : decode cX9_putIntoGroup 63 = .ok (.iload_n 1, 1) := by decide +kernel
theorem dX9_putIntoGroup_64 : decode cX9_putIntoGroup 64 = .ok (.iastore, 1) := by decide +kernel
theorem dX9_putIntoGroup_65 : decode cX9_putIntoGroup 65 = .ok (.aload_n 0, 1) := by decide +kernel
theorem dX9_putIntoGroup_66 : decode cX9_putIntoGroup 66 = .ok (.getfield 21, 3) := by decide +kernel
theorem dX9_putIntoGroup_69 : decode cX9_putIntoGroup 69 = .ok (.iload_n 3, 1) := by decide +kernel
theorem dX9_putIntoGroup_70 : decode cX9_putIntoGroup 70 = .ok (.iconst 1, 1) := by decide +kernel
theorem dX9_putIntoGroup_71 : decode cX9_putIntoGroup 71 = .ok (.iastore, 1) := by decide +kernel
theorem dX9_putIntoGroup_72 : decode cX9_putIntoGroup 72 = .ok (.aload_n 0, 1) := by decide +kernel
theorem dX9_putIntoGroup_73 : decode cX9_putIntoGroup 73 = .ok (.getfield 15, 3) := by decide +kernel
theorem dX9_putIntoGroup_76 : decode cX9_putIntoGroup 76 = .ok (.aload_n 0, 1) := by decide +kernel
theorem dX9_putIntoGroup_77 : decode cX9_putIntoGroup 77 = .ok (.getfield 38, 3) := by decide +kernel
theorem dX9_putIntoGroup_80 : decode cX9_putIntoGroup 80 = .ok (.dup2, 1) := by decide +kernel
theorem dX9_putIntoGroup_81 : decode cX9_putIntoGroup 81 = .ok (.iaload, 1) := by decide +kernel
theorem dX9_putIntoGroup_82 : decode cX9_putIntoGroup 82 = .ok (.iconst 1, 1) := by decide +kernel
theorem dX9_putIntoGroup_83 : decode cX9_putIntoGroup 83 = .ok (.iadd, 1) := by decide +kernel
theorem dX9_putIntoGroup_84 : decode cX9_putIntoGroup 84 = .ok (.iastore, 1) := by decide +kernel
theorem dX9_putIntoGroup_85 : decode cX9_putIntoGroup 85 = .ok (.return_, 1) := by decide +kernel
set_option maxHeartbeats 4000000 in
set_option maxRecDepth 100000 in
theorem w_X9_putIntoGroup (l : Launch) (G : GP) (x : XP) (a1 : Int32) (σ : Sto) (P : Sto → Prop) (h : D_X9_putIntoGroup a1 σ P) : g_Metv l yX9_putIntoGroup cX9_putIntoGroup 5 rm_X9_putIntoGroup G x [.ref (g_ad G 72), .int a1] σ P := by
  unfold D_X9_putIntoGroup at h
  refine g_ofWv (by decide +kernel) (Nat.le_of_ble_eq_true rfl) ?_
  intro p e s m args below meth c Q ls C hM hl hret
  have hx := C.1
  have hb := C.2.1
  have hl : lv_has ls 5 [(0, .ref (g_ad G 72)), (1, .int a1)] := hl
  have h := h (fun (v3 : Int32) (v4 : Int32) (σ : Sto) => ∀ (H : Heap) (locs : List Loc) (ls : Array Slot), g_M G x σ s H locs → lv_has ls 5 [(0, .ref (g_ad G 72)), (1, .int a1), (3, .int v3), (4, .int v4)] → W p l e rm_X9_putIntoGroup s m args below meth c H locs 0 0 Q (F0 m 23 ls []))
  have h := h (by
    intro v3 v4 σ h  H locs ls hM hl
    refine lv_iload (pc := 23) hx hb dX9_putIntoGroup_23 (lv_at hl 3 rfl) ?_
    refine lv_iload_n (pc := 25) hx hb dX9_putIntoGroup_25 rfl (lv_at hl 2 rfl) ?_
    refine lv_icmp_ge (pc := 26) (tgt := 58) hx hb dX9_putIntoGroup_26 (by decide) (fun c26 => ?_) (fun c26 => ?_)
    · have h := h.1 c26
      refine lv_aload_n (pc := 58) hx hb dX9_putIntoGroup_58 rfl (lv_at hl 0 rfl) ?_
      refine g_get (pc := 59) (v := .ref (g_ad G 75)) C hM (by decide) ce_72 fl_RX9_18 rfl dX9_putIntoGroup_59 ?_
      refine lv_iload_n (pc := 62) hx hb dX9_putIntoGroup_62 rfl (lv_at hl 2 rfl) ?_
      refine lv_iload_n (pc := 63) hx hb dX9_putIntoGroup_63 rfl (lv_at hl 1 rfl) ?_
      obtain ⟨hc, h⟩ := h
      refine g_iastE (pc := 64) C hM (by decide) ce_75 hc rfl dX9_putIntoGroup_64 (fun s64 es64 H locs hM => ?_)
      have h := h s64 es64
      refine lv_aload_n (pc := 65) hx hb dX9_putIntoGroup_65 rfl (lv_at hl 0 rfl) ?_
      refine g_get (pc := 66) (v := .ref (g_ad G 76)) C hM (by decide) ce_72 fl_RX9_21 rfl dX9_putIntoGroup_66 ?_
      refine lv_iload_n (pc := 69) hx hb dX9_putIntoGroup_69 rfl (lv_at hl 2 rfl) ?_
      refine lv_iconst (pc := 70) (v := 1) hx hb dX9_putIntoGroup_70 (by decide) ?_
      obtain ⟨hc, h⟩ := h
      refine g_iastE (pc := 71) C hM (by decide) ce_76 hc rfl dX9_putIntoGroup_71 (fun s71 es71 H locs hM => ?_)
      have h := h s71 es71
      refine lv_aload_n (pc := 72) hx hb dX9_putIntoGroup_72 rfl (lv_at hl 0 rfl) ?_
      refine g_get (pc := 73) (v := .ref (g_ad G 74)) C hM (by decide) ce_72 fl_RX9_15 rfl dX9_putIntoGroup_73 ?_
      refine lv_aload_n (pc := 76) hx hb dX9_putIntoGroup_76 rfl (lv_at hl 0 rfl) ?_
      refine g_get (pc := 77) (v := .int (s71 72 2)) C hM (by decide) ce_72 fl_RX9_38 rfl dX9_putIntoGroup_77 ?_
      refine lv_dup2_11 (pc := 80) hx hb dX9_putIntoGroup_80 rfl rfl ?_
      obtain ⟨hc, h⟩ := h
      refine g_ialdK (pc := 81) C hM (by decide) ce_74 hc rfl dX9_putIntoGroup_81 ?_
      refine lv_iconst (pc := 82) (v := 1) hx hb dX9_putIntoGroup_82 (by decide) ?_
      refine lv_iadd (pc := 83) hx hb dX9_putIntoGroup_83 ?_
      obtain ⟨hc, h⟩ := h
      refine g_iastE (pc := 84) C hM (by decide) ce_74 hc rfl dX9_putIntoGroup_84 (fun s84 es84 H locs hM => ?_)
      have h := h s84 es84
      exact hret 85 _ _ _ _ dX9_putIntoGroup_85 h hM
    · have h := h.2 c26
      refine lv_aload_n (pc := 29) hx hb dX9_putIntoGroup_29 rfl (lv_at hl 0 rfl) ?_
      refine g_get (pc := 30) (v := .ref (g_ad G 75)) C hM (by decide) ce_72 fl_RX9_18 rfl dX9_putIntoGroup_30 ?_
      refine lv_iload (pc := 33) hx hb dX9_putIntoGroup_33 (lv_at hl 3 rfl) ?_
      obtain ⟨hc, h⟩ := h
      refine g_ialdK (pc := 35) C hM (by decide) ce_75 hc rfl dX9_putIntoGroup_35 ?_
      refine lv_iload_n (pc := 36) hx hb dX9_putIntoGroup_36 rfl (lv_at hl 1 rfl) ?_
      refine lv_icmp_ne (pc := 37) (tgt := 52) hx hb dX9_putIntoGroup_37 (by decide) (fun c37 => ?_) (fun c37 => ?_)
      · have h := h.2 c37
        refine lv_iinc (pc := 52) (v := (v4 + 1)) (lv' := [(4, .int (v4 + 1)), (0, .ref (g_ad G 72)), (1, .int a1), (3, .int v3)]) hx hb dX9_putIntoGroup_52 hl (k := 3) rfl (by rfl) (by decide) rfl (fun ls hl => ?_)
        refine lv_goto (pc := 55) (tgt := 23) hx hb dX9_putIntoGroup_55 (by decide) ?_
        exact h _ _ _ hM (lv_sub hl [1, 2, 3, 0] rfl)
      · have h := h.1 c37
        refine lv_aload_n (pc := 40) hx hb dX9_putIntoGroup_40 rfl (lv_at hl 0 rfl) ?_
        refine g_get (pc := 41) (v := .ref (g_ad G 76)) C hM (by decide) ce_72 fl_RX9_21 rfl dX9_putIntoGroup_41 ?_
        refine lv_iload (pc := 44) hx hb dX9_putIntoGroup_44 (lv_at hl 3 rfl) ?_
        refine lv_dup2_11 (pc := 46) hx hb dX9_putIntoGroup_46 rfl rfl ?_
        obtain ⟨hc, h⟩ := h
        refine g_ialdK (pc := 47) C hM (by decide) ce_76 hc rfl dX9_putIntoGroup_47 ?_
        refine lv_iconst (pc := 48) (v := 1) hx hb dX9_putIntoGroup_48 (by decide) ?_
        refine lv_iadd (pc := 49) hx hb dX9_putIntoGroup_49 ?_
        obtain ⟨hc, h⟩ := h
        refine g_iastE (pc := 50) C hM (by decide) ce_76 hc rfl dX9_putIntoGroup_50 (fun s50 es50 H locs hM => ?_)
        have h := h s50 es50
        exact hret 51 _ _ _ _ dX9_putIntoGroup_51 h hM)
  refine lv_aload_n (pc := 0) hx hb dX9_putIntoGroup_0 rfl (lv_at hl 0 rfl) ?_
  refine g_get (pc := 1) (v := .int (σ 72 2)) C hM (by decide) ce_72 fl_RX9_38 rfl dX9_putIntoGroup_1 ?_
  refine lv_bipush (pc := 4) (v := 16) hx hb dX9_putIntoGroup_4 (by decide) ?_
  refine lv_imul (pc := 6) hx hb dX9_putIntoGroup_6 ?_
  refine lv_istore_n (pc := 7) (lv' := [(2, .int ((σ 72 2) * 16)), (0, .ref (g_ad G 72)), (1, .int a1)]) hx hb dX9_putIntoGroup_7 rfl hl (by decide) rfl (fun ls hl => ?_)
  refine lv_iload_n (pc := 8) hx hb dX9_putIntoGroup_8 rfl (lv_at hl 0 rfl) ?_
  refine lv_aload_n (pc := 9) hx hb dX9_putIntoGroup_9 rfl (lv_at hl 1 rfl) ?_
  refine g_get (pc := 10) (v := .ref (g_ad G 74)) C hM (by decide) ce_72 fl_RX9_15 rfl dX9_putIntoGroup_10 ?_
  refine lv_aload_n (pc := 13) hx hb dX9_putIntoGroup_13 rfl (lv_at hl 1 rfl) ?_
  refine g_get (pc := 14) (v := .int (σ 72 2)) C hM (by decide) ce_72 fl_RX9_38 rfl dX9_putIntoGroup_14 ?_
  obtain ⟨hc, h⟩ := h
  refine g_ialdK (pc := 17) C hM (by decide) ce_74 hc rfl dX9_putIntoGroup_17 ?_
  refine lv_iadd (pc := 18) hx hb dX9_putIntoGroup_18 ?_
  refine lv_topi (fun v3_19 ev3_19 => ?_)
  have h := h v3_19 ev3_19
  refine lv_istore_n (pc := 19) (lv' := [(3, .int v3_19), (2, .int ((σ 72 2) * 16)), (0, .ref (g_ad G 72)), (1, .int a1)]) hx hb dX9_putIntoGroup_19 rfl hl (by decide) rfl (fun ls hl => ?_)
  refine lv_iload_n (pc := 20) hx hb dX9_putIntoGroup_20 rfl (lv_at hl 1 rfl) ?_
  refine lv_istore (pc := 21) (lv' := [(4, .int ((σ 72 2) * 16)), (3, .int v3_19), (2, .int ((σ 72 2) * 16)), (0, .ref (g_ad G 72)), (1, .int a1)]) hx hb dX9_putIntoGroup_21 hl (by decide) rfl (fun ls hl => ?_)
  exact h _ _ _ hM (lv_sub hl [3, 4, 1, 0] rfl)
abbrev rm_X9_group : Room := { frames := 2, cells := 0, slots := 0, locals := 47 }
theorem dX9_group_0 : decode cX9_group 0 = .ok (.aload_n 0, 1) := by decide +kernel
theorem dX9_group_1 : decode cX9_group 1 = .ok (.getfield 15, 3) := by decide +kernel
theorem dX9_group_4 : decode cX9_group 4 = .ok (.aload_n 0, 1) := by decide +kernel
theorem dX9_group_5 : decode cX9_group 5 = .ok (.getfield 38, 3) := by decide +kernel
theorem dX9_group_8 : decode cX9_group 8 = .ok (.iconst 0, 1) := by decide +kernel
theorem dX9_group_9 : decode cX9_group 9 = .ok (.iastore, 1) := by decide +kernel
theorem dX9_group_10 : decode cX9_group 10 = .ok (.iconst 0, 1) := by decide +kernel
theorem dX9_group_11 : decode cX9_group 11 = .ok (.istore_n 3, 1) := by decide +kernel
theorem dX9_group_12 : decode cX9_group 12 = .ok (.iload_n 3, 1) := by decide +kernel
theorem dX9_group_13 : decode cX9_group 13 = .ok (.bipush 16, 2) := by decide +kernel
theorem dX9_group_15 : decode cX9_group 15 = .ok (.if_icmp .ge 23, 3) := by decide +kernel
theorem dX9_group_18 : decode cX9_group 18 = .ok (.aload_n 0, 1) := by decide +kernel
theorem dX9_group_19 : decode cX9_group 19 = .ok (.aload_n 0, 1) := by decide +kernel
theorem dX9_group_20 : decode cX9_group 20 = .ok (.getfield 24, 3) := by decide +kernel
theorem dX9_group_23 : decode cX9_group 23 = .ok (.iload_n 2, 1) := by decide +kernel
theorem dX9_group_24 : decode cX9_group 24 = .ok (.iload_n 1, 1) := by decide +kernel
theorem dX9_group_25 : decode cX9_group 25 = .ok (.iload_n 3, 1) := by decide +kernel
theorem dX9_group_26 : decode cX9_group 26 = .ok (.invokevirtual 50, 3) := by decide +kernel
theorem dX9_group_29 : decode cX9_group 29 = .ok (.invokevirtual 54, 3) := by decide +kernel
theorem dX9_group_32 : decode cX9_group 32 = .ok (.iinc 3 1, 3) := by decide +kernel
theorem dX9_group_35 : decode cX9_group 35 = .ok (.goto (-23), 3) := by decide +kernel
theorem dX9_group_38 : decode cX9_group 38 = .ok (.return_, 1) := by decide +kernel
set_option maxHeartbeats 4000000 in
set_option maxRecDepth 100000 in
theorem w_X9_group (l : Launch) (G : GP) (x : XP) (a1 : Int32) (a2 : Int32) (σ : Sto) (P : Sto → Prop) (h : D_X9_group a1 a2 σ P) : g_Metv l yX9_group cX9_group 4 rm_X9_group G x [.ref (g_ad G 72), .int a1, .int a2] σ P := by
  unfold D_X9_group at h
  refine g_ofWv (by decide +kernel) (Nat.le_of_ble_eq_true rfl) ?_
  intro p e s m args below meth c Q ls C hM hl hret
  have hx := C.1
  have hb := C.2.1
  have hl : lv_has ls 4 [(0, .ref (g_ad G 72)), (1, .int a1), (2, .int a2)] := hl
  have h := h (fun (v3 : Int32) (σ : Sto) => ∀ (H : Heap) (locs : List Loc) (ls : Array Slot), g_M G x σ s H locs → lv_has ls 4 [(0, .ref (g_ad G 72)), (1, .int a1), (2, .int a2), (3, .int v3)] → W p l e rm_X9_group s m args below meth c H locs 0 0 Q (F0 m 12 ls []))
  have h := h (by
    intro v3 σ h  H locs ls hM hl
    refine lv_iload_n (pc := 12) hx hb dX9_group_12 rfl (lv_at hl 3 rfl) ?_
    refine lv_bipush (pc := 13) (v := 16) hx hb dX9_group_13 (by decide) ?_
    refine lv_icmp_ge (pc := 15) (tgt := 38) hx hb dX9_group_15 (by decide) (fun c15 => ?_) (fun c15 => ?_)
    · have h := h.1 c15
      exact hret 38 _ _ _ _ dX9_group_38 h hM
    · have h := h.2 c15
      refine lv_aload_n (pc := 18) hx hb dX9_group_18 rfl (lv_at hl 0 rfl) ?_
      refine lv_aload_n (pc := 19) hx hb dX9_group_19 rfl (lv_at hl 0 rfl) ?_
      refine g_get (pc := 20) (v := .ref (g_ad G 65)) C hM (by decide) ce_72 fl_RX9_24 rfl dX9_group_20 ?_
      refine lv_iload_n (pc := 23) hx hb dX9_group_23 rfl (lv_at hl 2 rfl) ?_
      refine lv_iload_n (pc := 24) hx hb dX9_group_24 rfl (lv_at hl 1 rfl) ?_
      refine lv_iload_n (pc := 25) hx hb dX9_group_25 rfl (lv_at hl 3 rfl) ?_
      refine g_cVi (pc := 26) C hM hl.1 yv_X5_allowing q4_150 (by decide) ce_65 rfl (w_X5_allowing l G x a2 a1 v3 σ _ h) rfl rfl ⟨⟨by decide, by decide⟩, by decide, by decide⟩ (Nat.le_of_ble_eq_true rfl) dX9_group_26 (fun r26 s26 H locs h hM => ?_)
      refine g_cVv (pc := 29) C hM hl.1 yv_X9_putIntoGroup q4_154 (by decide) ce_72 rfl (w_X9_putIntoGroup l G x r26 s26 _ h) rfl rfl ⟨⟨by decide, by decide⟩, by decide, by decide⟩ (Nat.le_of_ble_eq_true rfl) dX9_group_29 (fun s29 H locs h hM => ?_)
      refine lv_iinc (pc := 32) (v := (v3 + 1)) (lv' := [(3, .int (v3 + 1)), (0, .ref (g_ad G 72)), (1, .int a1), (2, .int a2)]) hx hb dX9_group_32 hl (k := 3) rfl (by rfl) (by decide) rfl (fun ls hl => ?_)
      refine lv_goto (pc := 35) (tgt := 12) hx hb dX9_group_35 (by decide) ?_
      exact h _ _ _ hM (lv_sub hl [1, 2, 3, 0] rfl))
  refine lv_aload_n (pc := 0) hx hb dX9_group_0 rfl (lv_at hl 0 rfl) ?_
  refine g_get (pc := 1) (v := .ref (g_ad G 74)) C hM (by decide) ce_72 fl_RX9_15 rfl dX9_group_1 ?_
  refine lv_aload_n (pc := 4) hx hb dX9_group_4 rfl (lv_at hl 0 rfl) ?_
  refine g_get (pc := 5) (v := .int (σ 72 2)) C hM (by decide) ce_72 fl_RX9_38 rfl dX9_group_5 ?_
  refine lv_iconst (pc := 8) (v := 0) hx hb dX9_group_8 (by decide) ?_
  obtain ⟨hc, h⟩ := h
  refine g_iastE (pc := 9) C hM (by decide) ce_74 hc rfl dX9_group_9 (fun s9 es9 H locs hM => ?_)
  have h := h s9 es9
  refine lv_iconst (pc := 10) (v := 0) hx hb dX9_group_10 (by decide) ?_
  refine lv_istore_n (pc := 11) (lv' := [(3, .int 0), (0, .ref (g_ad G 72)), (1, .int a1), (2, .int a2)]) hx hb dX9_group_11 rfl hl (by decide) rfl (fun ls hl => ?_)
  exact h _ _ _ hM (lv_sub hl [1, 2, 3, 0] rfl)
abbrev rm_X9_spread : Room := { frames := 3, cells := 0, slots := 0, locals := 72 }
theorem dX9_spread_0 : decode cX9_spread 0 = .ok (.iconst 0, 1) := by decide +kernel
theorem dX9_spread_1 : decode cX9_spread 1 = .ok (.istore_n 2, 1) := by decide +kernel
theorem dX9_spread_2 : decode cX9_spread 2 = .ok (.iload_n 2, 1) := by decide +kernel
theorem dX9_spread_3 : decode cX9_spread 3 = .ok (.iconst 4, 1) := by decide +kernel
theorem dX9_spread_4 : decode cX9_spread 4 = .ok (.if_icmp .ge 16, 3) := by decide +kernel
theorem dX9_spread_7 : decode cX9_spread 7 = .ok (.aload_n 0, 1) := by decide +kernel
theorem dX9_spread_8 : decode cX9_spread 8 = .ok (.getfield 9, 3) := by decide +kernel
theorem dX9_spread_11 : decode cX9_spread 11 = .ok (.iload_n 2, 1) := by decide +kernel
theorem dX9_spread_12 : decode cX9_spread 12 = .ok (.iconst 0, 1) := by decide +kernel
theorem dX9_spread_13 : decode cX9_spread 13 = .ok (.iastore, 1) := by decide +kernel
theorem dX9_spread_14 : decode cX9_spread 14 = .ok (.iinc 2 1, 3) := by decide +kernel
theorem dX9_spread_17 : decode cX9_spread 17 = .ok (.goto (-15), 3) := by decide +kernel
theorem dX9_spread_20 : decode cX9_spread 20 = .ok (.iconst 0, 1) := by decide +kernel
theorem dX9_spread_21 : decode cX9_spread 21 = .ok (.istore_n 2, 1) := by decide +kernel
theorem dX9_spread_22 : decode cX9_spread 22 = .ok (.iload_n 2, 1) := by decide +kernel
theorem dX9_spread_23 : decode cX9_spread 23 = .ok (.aload_n 0, 1) := by decide +kernel
theorem dX9_spread_24 : decode cX9_spread 24 = .ok (.getfield 15, 3) := by decide +kernel
theorem dX9_spread_27 : decode cX9_spread 27 = .ok (.iconst 0, 1) := by decide +kernel
theorem dX9_spread_28 : decode cX9_spread 28 = .ok (.iaload, 1) := by decide +kernel
theorem dX9_spread_29 : decode cX9_spread 29 = .ok (.if_icmp .ge 121, 3) := by decide +kernel
theorem dX9_spread_32 : decode cX9_spread 32 = .ok (.bipush 16, 2) := by decide +kernel
theorem dX9_spread_34 : decode cX9_spread 34 = .ok (.istore_n 3, 1) := by decide +kernel
theorem dX9_spread_35 : decode cX9_spread 35 = .ok (.iload_n 3, 1) := by decide +kernel
theorem dX9_spread_36 : decode cX9_spread 36 = .ok (.bipush 16, 2) := by decide +kernel
theorem dX9_spread_38 : decode cX9_spread 38 = .ok (.aload_n 0, 1) := by decide +kernel
theorem dX9_spread_39 : decode cX9_spread 39 = .ok (.getfield 15, 3) := by decide +kernel
theorem dX9_spread_42 : decode cX9_spread 42 = .ok (.iconst 1, 1) := by decide +kernel
theorem dX9_spread_43 : decode cX9_spread 43 = .ok (.iaload, 1) := by decide +kernel
theorem dX9_spread_44 : decode cX9_spread 44 = .ok (.iadd, 1) := by decide +kernel
theorem dX9_spread_45 : decode cX9_spread 45 = .ok (.if_icmp .ge 99, 3) := by decide +kernel
theorem dX9_spread_48 : decode cX9_spread 48 = .ok (.aload_n 0, 1) := by decide +kernel
theorem dX9_spread_49 : decode cX9_spread 49 = .ok (.getfield 18, 3) := by decide +kernel
theorem dX9_spread_52 : decode cX9_spread 52 = .ok (.iload_n 2, 1) := by decide +kernel
theorem dX9_spread_53 : decode cX9_spread 53 = .ok (.iaload, 1) := by decide +kernel
theorem dX9_spread_54 : decode cX9_spread 54 = .ok (.aload_n 0, 1) := by decide +kernel
theorem dX9_spread_55 : decode cX9_spread 55 = .ok (.getfield 18, 3) := by decide +kernel
theorem dX9_spread_58 : decode cX9_spread 58 = .ok (.iload_n 3, 1) := by decide +kernel
theorem dX9_spread_59 : decode cX9_spread 59 = .ok (.iaload, 1) := by decide +kernel
theorem dX9_spread_60 : decode cX9_spread 60 = .ok (.iand, 1) := by decide +kernel
theorem dX9_spread_61 : decode cX9_spread 61 = .ok (.istore 4, 2) := by decide +kernel
theorem dX9_spread_63 : decode cX9_spread 63 = .ok (.aload_n 0, 1) := by decide +kernel
theorem dX9_spread_64 : decode cX9_spread 64 = .ok (.getfield 21, 3) := by decide +kernel
theorem dX9_spread_67 : decode cX9_spread 67 = .ok (.iload_n 2, 1) := by decide +kernel
theorem dX9_spread_68 : decode cX9_spread 68 = .ok (.iaload, 1) := by decide +kernel
theorem dX9_spread_69 : decode cX9_spread 69 = .ok (.aload_n 0, 1) := by decide +kernel
theorem dX9_spread_70 : decode cX9_spread 70 = .ok (.getfield 21, 3) := by decide +kernel
theorem dX9_spread_73 : decode cX9_spread 73 = .ok (.iload_n 3, 1) := by decide +kernel
theorem dX9_spread_74 : decode cX9_spread 74 = .ok (.iaload, 1) := by decide +kernel
theorem dX9_spread_75 : decode cX9_spread 75 = .ok (.imul, 1) := by decide +kernel
theorem dX9_spread_76 : decode cX9_spread 76 = .ok (.istore 5, 2) := by decide +kernel
theorem dX9_spread_78 : decode cX9_spread 78 = .ok (.bipush 32, 2) := by decide +kernel
theorem dX9_spread_80 : decode cX9_spread 80 = .ok (.istore 6, 2) := by decide +kernel
theorem dX9_spread_82 : decode cX9_spread 82 = .ok (.iload 6, 2) := by decide +kernel
theorem dX9_spread_84 : decode cX9_spread 84 = .ok (.bipush 32, 2) := by decide +kernel
theorem dX9_spread_86 : decode cX9_spread 86 = .ok (.aload_n 0, 1) := by decide +kernel
theorem dX9_spread_87 : decode cX9_spread 87 = .ok (.getfield 15, 3) := by decide +kernel
theorem dX9_spread_90 : decode cX9_spread 90 = .ok (.iconst 2, 1) := by decide +kernel
theorem dX9_spread_91 : decode cX9_spread 91 = .ok (.iaload, 1) := by decide +kernel
theorem dX9_spread_92 : decode cX9_spread 92 = .ok (.iadd, 1) := by decide +kernel
theorem dX9_spread_93 : decode cX9_spread 93 = .ok (.if_icmp .ge 45, 3) := by decide +kernel
theorem dX9_spread_96 : decode cX9_spread 96 = .ok (.aload_n 0, 1) := by decide +kernel
theorem dX9_spread_97 : decode cX9_spread 97 = .ok (.getfield 9, 3) := by decide +kernel
theorem dX9_spread_100 : decode cX9_spread 100 = .ok (.aload_n 0, 1) := by decide +kernel
theorem dX9_spread_101 : decode cX9_spread 101 = .ok (.getfield 24, 3) := by decide +kernel
theorem dX9_spread_104 : decode cX9_spread 104 = .ok (.iload 4, 2) := by decide +kernel
theorem dX9_spread_106 : decode cX9_spread 106 = .ok (.aload_n 0, 1) := by decide +kernel
theorem dX9_spread_107 : decode cX9_spread 107 = .ok (.getfield 18, 3) := by decide +kernel
theorem dX9_spread_110 : decode cX9_spread 110 = .ok (.iload 6, 2) := by decide +kernel
theorem dX9_spread_112 : decode cX9_spread 112 = .ok (.iaload, 1) := by decide +kernel
theorem dX9_spread_113 : decode cX9_spread 113 = .ok (.iand, 1) := by decide +kernel
theorem dX9_spread_114 : decode cX9_spread 114 = .ok (.iload_n 1, 1) := by decide +kernel
theorem dX9_spread_115 : decode cX9_spread 115 = .ok (.invokevirtual 57, 3) := by decide +kernel
theorem dX9_spread_118 : decode cX9_spread 118 = .ok (.dup2, 1) := by decide +kernel
theorem dX9_spread_119 : decode cX9_spread 119 = .ok (.iaload, 1) := by decide +kernel
theorem dX9_spread_120 : decode cX9_spread 120 = .ok (.iload 5, 2) := by decide +kernel
theorem dX9_spread_122 : decode cX9_spread 122 = .ok (.aload_n 0, 1) := by decide +kernel
theorem dX9_spread_123 : decode cX9_spread 123 = .ok (.getfield 21, 3) := by decide +kernel
theorem dX9_spread_126 : decode cX9_spread 126 = .ok (.iload 6, 2) := by decide +kernel
theorem dX9_spread_128 : decode cX9_spread 128 = .ok (.iaload, 1) := by decide +kernel
theorem dX9_spread_129 : decode cX9_spread 129 = .ok (.imul, 1) := by decide +kernel
theorem dX9_spread_130 : decode cX9_spread 130 = .ok (.iadd, 1) := by decide +kernel
theorem dX9_spread_131 : decode cX9_spread 131 = .ok (.iastore, 1) := by decide +kernel
theorem dX9_spread_132 : decode cX9_spread 132 = .ok (.iinc 6 1, 3) := by decide +kernel
theorem dX9_spread_135 : decode cX9_spread 135 = .ok (.goto (-53), 3) := by decide +kernel
theorem dX9_spread_138 : decode cX9_spread 138 = .ok (.iinc 3 1, 3) := by decide +kernel
theorem dX9_spread_141 : decode cX9_spread 141 = .ok (.goto (-106), 3) := by decide +kernel
theorem dX9_spread_144 : decode cX9_spread 144 = .ok (.iinc 2 1, 3) := by decide +kernel
theorem dX9_spread_147 : decode cX9_spread 147 = .ok (.goto (-125), 3) := by decide +kernel
theorem dX9_spread_150 : decode cX9_spread 150 = .ok (.return_, 1) := by decide +kernel
set_option maxHeartbeats 4000000 in
set_option maxRecDepth 100000 in
theorem w_X9_spread (l : Launch) (G : GP) (x : XP) (a1 : Int32) (σ : Sto) (P : Sto → Prop) (h : D_X9_spread a1 σ P) : g_Metv l yX9_spread cX9_spread 7 rm_X9_spread G x [.ref (g_ad G 72), .int a1] σ P := by
  unfold D_X9_spread at h
  refine g_ofWv (by decide +kernel) (Nat.le_of_ble_eq_true rfl) ?_
  intro p e s m args below meth c Q ls C hM hl hret
  have hx := C.1
  have hb := C.2.1
  have hl : lv_has ls 7 [(0, .ref (g_ad G 72)), (1, .int a1)] := hl
  have h := h (fun (v2 : Int32) (σ : Sto) => ∀ (H : Heap) (locs : List Loc) (ls : Array Slot), g_M G x σ s H locs → lv_has ls 7 [(0, .ref (g_ad G 72)), (1, .int a1), (2, .int v2)] → W p l e rm_X9_spread s m args below meth c H locs 0 0 Q (F0 m 2 ls [])) (fun (v2 : Int32) (σ : Sto) => ∀ (H : Heap) (locs : List Loc) (ls : Array Slot), g_M G x σ s H locs → lv_has ls 7 [(0, .ref (g_ad G 72)), (1, .int a1), (2, .int v2)] → W p l e rm_X9_spread s m args below meth c H locs 0 0 Q (F0 m 22 ls [])) (fun (v2 : Int32) (v3 : Int32) (σ : Sto) => ∀ (H : Heap) (locs : List Loc) (ls : Array Slot), g_M G x σ s H locs → lv_has ls 7 [(0, .ref (g_ad G 72)), (1, .int a1), (2, .int v2), (3, .int v3)] → W p l e rm_X9_spread s m args below meth c H locs 0 0 Q (F0 m 35 ls [])) (fun (v2 : Int32) (v3 : Int32) (v4 : Int32) (v5 : Int32) (v6 : Int32) (σ : Sto) => ∀ (H : Heap) (locs : List Loc) (ls : Array Slot), g_M G x σ s H locs → lv_has ls 7 [(0, .ref (g_ad G 72)), (1, .int a1), (2, .int v2), (3, .int v3), (4, .int v4), (5, .int v5), (6, .int v6)] → W p l e rm_X9_spread s m args below meth c H locs 0 0 Q (F0 m 82 ls []))
  have h := h (by
    intro v2 σ h  H locs ls hM hl
    refine lv_iload_n (pc := 2) hx hb dX9_spread_2 rfl (lv_at hl 2 rfl) ?_
    refine lv_iconst (pc := 3) (v := 4) hx hb dX9_spread_3 (by decide) ?_
    refine lv_icmp_ge (pc := 4) (tgt := 20) hx hb dX9_spread_4 (by decide) (fun c4 => ?_) (fun c4 => ?_)
    · have h := h.1 c4
      refine lv_iconst (pc := 20) (v := 0) hx hb dX9_spread_20 (by decide) ?_
      refine lv_istore_n (pc := 21) (lv' := [(2, .int 0), (0, .ref (g_ad G 72)), (1, .int a1)]) hx hb dX9_spread_21 rfl hl (by decide) rfl (fun ls hl => ?_)
      exact h _ _ _ hM (lv_sub hl [1, 2, 0] rfl)
    · have h := h.2 c4
      refine lv_aload_n (pc := 7) hx hb dX9_spread_7 rfl (lv_at hl 0 rfl) ?_
      refine g_get (pc := 8) (v := .ref (g_ad G 73)) C hM (by decide) ce_72 fl_RX9_9 rfl dX9_spread_8 ?_
      refine lv_iload_n (pc := 11) hx hb dX9_spread_11 rfl (lv_at hl 2 rfl) ?_
      refine lv_iconst (pc := 12) (v := 0) hx hb dX9_spread_12 (by decide) ?_
      obtain ⟨hc, h⟩ := h
      refine g_iastE (pc := 13) C hM (by decide) ce_73 hc rfl dX9_spread_13 (fun s13 es13 H locs hM => ?_)
      have h := h s13 es13
      refine lv_iinc (pc := 14) (v := (v2 + 1)) (lv' := [(2, .int (v2 + 1)), (0, .ref (g_ad G 72)), (1, .int a1)]) hx hb dX9_spread_14 hl (k := 2) rfl (by rfl) (by decide) rfl (fun ls hl => ?_)
      refine lv_goto (pc := 17) (tgt := 2) hx hb dX9_spread_17 (by decide) ?_
      exact h _ _ _ hM (lv_sub hl [1, 2, 0] rfl))
  have h := h (by
    intro v2 σ h  H locs ls hM hl
    refine lv_iload_n (pc := 22) hx hb dX9_spread_22 rfl (lv_at hl 2 rfl) ?_
    refine lv_aload_n (pc := 23) hx hb dX9_spread_23 rfl (lv_at hl 0 rfl) ?_
    refine g_get (pc := 24) (v := .ref (g_ad G 74)) C hM (by decide) ce_72 fl_RX9_15 rfl dX9_spread_24 ?_
    refine lv_iconst (pc := 27) (v := 0) hx hb dX9_spread_27 (by decide) ?_
    refine g_ialdK (pc := 28) (k := 0) C hM (by decide) ce_74 (vp_in_nI (n := 0) (by decide) (by decide)) rfl dX9_spread_28 ?_
    refine lv_icmp_ge (pc := 29) (tgt := 150) hx hb dX9_spread_29 (by decide) (fun c29 => ?_) (fun c29 => ?_)
    · have h := h.1 c29
      exact hret 150 _ _ _ _ dX9_spread_150 h hM
    · have h := h.2 c29
      refine lv_bipush (pc := 32) (v := 16) hx hb dX9_spread_32 (by decide) ?_
      refine lv_istore_n (pc := 34) (lv' := [(3, .int 16), (0, .ref (g_ad G 72)), (1, .int a1), (2, .int v2)]) hx hb dX9_spread_34 rfl hl (by decide) rfl (fun ls hl => ?_)
      exact h _ _ _ hM (lv_sub hl [1, 2, 3, 0] rfl))
  have h := h (by
    intro v2 v3 σ h  H locs ls hM hl
    refine lv_iload_n (pc := 35) hx hb dX9_spread_35 rfl (lv_at hl 3 rfl) ?_
    refine lv_bipush (pc := 36) (v := 16) hx hb dX9_spread_36 (by decide) ?_
    refine lv_aload_n (pc := 38) hx hb dX9_spread_38 rfl (lv_at hl 0 rfl) ?_
    refine g_get (pc := 39) (v := .ref (g_ad G 74)) C hM (by decide) ce_72 fl_RX9_15 rfl dX9_spread_39 ?_
    refine lv_iconst (pc := 42) (v := 1) hx hb dX9_spread_42 (by decide) ?_
    refine g_ialdK (pc := 43) (k := 1) C hM (by decide) ce_74 (vp_in_nI (n := 1) (by decide) (by decide)) rfl dX9_spread_43 ?_
    refine lv_iadd (pc := 44) hx hb dX9_spread_44 ?_
    refine lv_icmp_ge (pc := 45) (tgt := 144) hx hb dX9_spread_45 (by decide) (fun c45 => ?_) (fun c45 => ?_)
    · have h := h.1 c45
      refine lv_iinc (pc := 144) (v := (v2 + 1)) (lv' := [(2, .int (v2 + 1)), (0, .ref (g_ad G 72)), (1, .int a1), (3, .int v3)]) hx hb dX9_spread_144 hl (k := 2) rfl (by rfl) (by decide) rfl (fun ls hl => ?_)
      refine lv_goto (pc := 147) (tgt := 22) hx hb dX9_spread_147 (by decide) ?_
      exact h _ _ _ hM (lv_sub hl [1, 2, 0] rfl)
    · have h := h.2 c45
      refine lv_aload_n (pc := 48) hx hb dX9_spread_48 rfl (lv_at hl 0 rfl) ?_
      refine g_get (pc := 49) (v := .ref (g_ad G 75)) C hM (by decide) ce_72 fl_RX9_18 rfl dX9_spread_49 ?_
      refine lv_iload_n (pc := 52) hx hb dX9_spread_52 rfl (lv_at hl 2 rfl) ?_
      obtain ⟨hc, h⟩ := h
      refine g_ialdK (pc := 53) C hM (by decide) ce_75 hc rfl dX9_spread_53 ?_
      refine lv_aload_n (pc := 54) hx hb dX9_spread_54 rfl (lv_at hl 0 rfl) ?_
      refine g_get (pc := 55) (v := .ref (g_ad G 75)) C hM (by decide) ce_72 fl_RX9_18 rfl dX9_spread_55 ?_
      refine lv_iload_n (pc := 58) hx hb dX9_spread_58 rfl (lv_at hl 3 rfl) ?_
      obtain ⟨hc, h⟩ := h
      refine g_ialdK (pc := 59) C hM (by decide) ce_75 hc rfl dX9_spread_59 ?_
      refine lv_iand (pc := 60) hx hb dX9_spread_60 ?_
      refine lv_topi (fun v4_61 ev4_61 => ?_)
      have h := h v4_61 ev4_61
      refine lv_istore (pc := 61) (lv' := [(4, .int v4_61), (0, .ref (g_ad G 72)), (1, .int a1), (2, .int v2), (3, .int v3)]) hx hb dX9_spread_61 hl (by decide) rfl (fun ls hl => ?_)
      refine lv_aload_n (pc := 63) hx hb dX9_spread_63 rfl (lv_at hl 1 rfl) ?_
      refine g_get (pc := 64) (v := .ref (g_ad G 76)) C hM (by decide) ce_72 fl_RX9_21 rfl dX9_spread_64 ?_
      refine lv_iload_n (pc := 67) hx hb dX9_spread_67 rfl (lv_at hl 3 rfl) ?_
      obtain ⟨hc, h⟩ := h
      refine g_ialdK (pc := 68) C hM (by decide) ce_76 hc rfl dX9_spread_68 ?_
      refine lv_aload_n (pc := 69) hx hb dX9_spread_69 rfl (lv_at hl 1 rfl) ?_
      refine g_get (pc := 70) (v := .ref (g_ad G 76)) C hM (by decide) ce_72 fl_RX9_21 rfl dX9_spread_70 ?_
      refine lv_iload_n (pc := 73) hx hb dX9_spread_73 rfl (lv_at hl 4 rfl) ?_
      obtain ⟨hc, h⟩ := h
      refine g_ialdK (pc := 74) C hM (by decide) ce_76 hc rfl dX9_spread_74 ?_
      refine lv_imul (pc := 75) hx hb dX9_spread_75 ?_
      refine lv_topi (fun v5_76 ev5_76 => ?_)
      have h := h v5_76 ev5_76
      refine lv_istore (pc := 76) (lv' := [(5, .int v5_76), (4, .int v4_61), (0, .ref (g_ad G 72)), (1, .int a1), (2, .int v2), (3, .int v3)]) hx hb dX9_spread_76 hl (by decide) rfl (fun ls hl => ?_)
      refine lv_bipush (pc := 78) (v := 32) hx hb dX9_spread_78 (by decide) ?_
      refine lv_istore (pc := 80) (lv' := [(6, .int 32), (5, .int v5_76), (4, .int v4_61), (0, .ref (g_ad G 72)), (1, .int a1), (2, .int v2), (3, .int v3)]) hx hb dX9_spread_80 hl (by decide) rfl (fun ls hl => ?_)
      exact h _ _ _ hM (lv_sub hl [3, 4, 5, 6, 2, 1, 0] rfl))
  have h := h (by
    intro v2 v3 v4 v5 v6 σ h  H locs ls hM hl
    refine lv_iload (pc := 82) hx hb dX9_spread_82 (lv_at hl 6 rfl) ?_
    refine lv_bipush (pc := 84) (v := 32) hx hb dX9_spread_84 (by decide) ?_
    refine lv_aload_n (pc := 86) hx hb dX9_spread_86 rfl (lv_at hl 0 rfl) ?_
    refine g_get (pc := 87) (v := .ref (g_ad G 74)) C hM (by decide) ce_72 fl_RX9_15 rfl dX9_spread_87 ?_
    refine lv_iconst (pc := 90) (v := 2) hx hb dX9_spread_90 (by decide) ?_
    refine g_ialdK (pc := 91) (k := 2) C hM (by decide) ce_74 (vp_in_nI (n := 2) (by decide) (by decide)) rfl dX9_spread_91 ?_
    refine lv_iadd (pc := 92) hx hb dX9_spread_92 ?_
    refine lv_icmp_ge (pc := 93) (tgt := 138) hx hb dX9_spread_93 (by decide) (fun c93 => ?_) (fun c93 => ?_)
    · have h := h.1 c93
      refine lv_iinc (pc := 138) (v := (v3 + 1)) (lv' := [(3, .int (v3 + 1)), (0, .ref (g_ad G 72)), (1, .int a1), (2, .int v2), (4, .int v4), (5, .int v5), (6, .int v6)]) hx hb dX9_spread_138 hl (k := 3) rfl (by rfl) (by decide) rfl (fun ls hl => ?_)
      refine lv_goto (pc := 141) (tgt := 35) hx hb dX9_spread_141 (by decide) ?_
      exact h _ _ _ hM (lv_sub hl [1, 2, 3, 0] rfl)
    · have h := h.2 c93
      refine lv_aload_n (pc := 96) hx hb dX9_spread_96 rfl (lv_at hl 0 rfl) ?_
      refine g_get (pc := 97) (v := .ref (g_ad G 73)) C hM (by decide) ce_72 fl_RX9_9 rfl dX9_spread_97 ?_
      refine lv_aload_n (pc := 100) hx hb dX9_spread_100 rfl (lv_at hl 0 rfl) ?_
      refine g_get (pc := 101) (v := .ref (g_ad G 65)) C hM (by decide) ce_72 fl_RX9_24 rfl dX9_spread_101 ?_
      refine lv_iload (pc := 104) hx hb dX9_spread_104 (lv_at hl 4 rfl) ?_
      refine lv_aload_n (pc := 106) hx hb dX9_spread_106 rfl (lv_at hl 0 rfl) ?_
      refine g_get (pc := 107) (v := .ref (g_ad G 75)) C hM (by decide) ce_72 fl_RX9_18 rfl dX9_spread_107 ?_
      refine lv_iload (pc := 110) hx hb dX9_spread_110 (lv_at hl 6 rfl) ?_
      obtain ⟨hc, h⟩ := h
      refine g_ialdK (pc := 112) C hM (by decide) ce_75 hc rfl dX9_spread_112 ?_
      refine lv_iand (pc := 113) hx hb dX9_spread_113 ?_
      refine lv_iload_n (pc := 114) hx hb dX9_spread_114 rfl (lv_at hl 1 rfl) ?_
      refine g_cVi (pc := 115) C hM hl.1 yv_X5_decisionOf q4_162 (by decide) ce_65 rfl (w_X5_decisionOf l G x (v4 &&& (σ 75 (ix v6))) a1 σ _ h) rfl rfl ⟨⟨by decide, by decide⟩, by decide, by decide⟩ (Nat.le_of_ble_eq_true rfl) dX9_spread_115 (fun r115 s115 H locs h hM => ?_)
      refine lv_dup2_11 (pc := 118) hx hb dX9_spread_118 rfl rfl ?_
      obtain ⟨hc, h⟩ := h
      refine g_ialdK (pc := 119) C hM (by decide) ce_73 hc rfl dX9_spread_119 ?_
      refine lv_iload (pc := 120) hx hb dX9_spread_120 (lv_at hl 5 rfl) ?_
      refine lv_aload_n (pc := 122) hx hb dX9_spread_122 rfl (lv_at hl 0 rfl) ?_
      refine g_get (pc := 123) (v := .ref (g_ad G 76)) C hM (by decide) ce_72 fl_RX9_21 rfl dX9_spread_123 ?_
      refine lv_iload (pc := 126) hx hb dX9_spread_126 (lv_at hl 6 rfl) ?_
      obtain ⟨hc, h⟩ := h
      refine g_ialdK (pc := 128) C hM (by decide) ce_76 hc rfl dX9_spread_128 ?_
      refine lv_imul (pc := 129) hx hb dX9_spread_129 ?_
      refine lv_iadd (pc := 130) hx hb dX9_spread_130 ?_
      obtain ⟨hc, h⟩ := h
      refine g_iastE (pc := 131) C hM (by decide) ce_73 hc rfl dX9_spread_131 (fun s131 es131 H locs hM => ?_)
      have h := h s131 es131
      refine lv_iinc (pc := 132) (v := (v6 + 1)) (lv' := [(6, .int (v6 + 1)), (0, .ref (g_ad G 72)), (1, .int a1), (2, .int v2), (3, .int v3), (4, .int v4), (5, .int v5)]) hx hb dX9_spread_132 hl (k := 6) rfl (by rfl) (by decide) rfl (fun ls hl => ?_)
      refine lv_goto (pc := 135) (tgt := 82) hx hb dX9_spread_135 (by decide) ?_
      exact h _ _ _ hM (lv_sub hl [1, 2, 3, 4, 5, 6, 0] rfl))
  refine lv_iconst (pc := 0) (v := 0) hx hb dX9_spread_0 (by decide) ?_
  refine lv_istore_n (pc := 1) (lv' := [(2, .int 0), (0, .ref (g_ad G 72)), (1, .int a1)]) hx hb dX9_spread_1 rfl hl (by decide) rfl (fun ls hl => ?_)
  exact h _ _ _ hM (lv_sub hl [1, 2, 0] rfl)
abbrev rm_X9_count : Room := { frames := 4, cells := 0, slots := 0, locals := 98 }
theorem dX9_count_0 : decode cX9_count 0 = .ok (.aload_n 0, 1) := by decide +kernel
theorem dX9_count_1 : decode cX9_count 1 = .ok (.getfield 24, 3) := by decide +kernel
theorem dX9_count_4 : decode cX9_count 4 = .ok (.aload_n 1, 1) := by decide +kernel
theorem dX9_count_5 : decode cX9_count 5 = .ok (.invokevirtual 28, 3) := by decide +kernel
theorem dX9_count_8 : decode cX9_count 8 = .ok (.aload_n 0, 1) := by decide +kernel
theorem dX9_count_9 : decode cX9_count 9 = .ok (.getfield 24, 3) := by decide +kernel
theorem dX9_count_12 : decode cX9_count 12 = .ok (.iload_n 2, 1) := by decide +kernel
theorem dX9_count_13 : decode cX9_count 13 = .ok (.invokevirtual 34, 3) := by decide +kernel
theorem dX9_count_16 : decode cX9_count 16 = .ok (.iand, 1) := by decide +kernel
theorem dX9_count_17 : decode cX9_count 17 = .ok (.istore_n 3, 1) := by decide +kernel
theorem dX9_count_18 : decode cX9_count 18 = .ok (.aload_n 0, 1) := by decide +kernel
theorem dX9_count_19 : decode cX9_count 19 = .ok (.iconst 0, 1) := by decide +kernel
theorem dX9_count_20 : decode cX9_count 20 = .ok (.putfield 38, 3) := by decide +kernel
theorem dX9_count_23 : decode cX9_count 23 = .ok (.iconst 0, 1) := by decide +kernel
theorem dX9_count_24 : decode cX9_count 24 = .ok (.istore 4, 2) := by decide +kernel
theorem dX9_count_26 : decode cX9_count 26 = .ok (.iload 4, 2) := by decide +kernel
theorem dX9_count_28 : decode cX9_count 28 = .ok (.bipush 6, 2) := by decide +kernel
theorem dX9_count_30 : decode cX9_count 30 = .ok (.if_icmp .ge 41, 3) := by decide +kernel
theorem dX9_count_33 : decode cX9_count 33 = .ok (.aload_n 1, 1) := by decide +kernel
theorem dX9_count_34 : decode cX9_count 34 = .ok (.iload 4, 2) := by decide +kernel
theorem dX9_count_36 : decode cX9_count 36 = .ok (.iaload, 1) := by decide +kernel
theorem dX9_count_37 : decode cX9_count 37 = .ok (.ifCond .ge 28, 3) := by decide +kernel
theorem dX9_count_40 : decode cX9_count 40 = .ok (.aload_n 0, 1) := by decide +kernel
theorem dX9_count_41 : decode cX9_count 41 = .ok (.getfield 38, 3) := by decide +kernel
theorem dX9_count_44 : decode cX9_count 44 = .ok (.iconst 3, 1) := by decide +kernel
theorem dX9_count_45 : decode cX9_count 45 = .ok (.if_icmp .ge 20, 3) := by decide +kernel
theorem dX9_count_48 : decode cX9_count 48 = .ok (.aload_n 0, 1) := by decide +kernel
theorem dX9_count_49 : decode cX9_count 49 = .ok (.iload 4, 2) := by decide +kernel
theorem dX9_count_51 : decode cX9_count 51 = .ok (.iload_n 3, 1) := by decide +kernel
theorem dX9_count_52 : decode cX9_count 52 = .ok (.invokevirtual 42, 3) := by decide +kernel
theorem dX9_count_55 : decode cX9_count 55 = .ok (.aload_n 0, 1) := by decide +kernel
theorem dX9_count_56 : decode cX9_count 56 = .ok (.dup, 1) := by decide +kernel
theorem dX9_count_57 : decode cX9_count 57 = .ok (.getfield 38, 3) := by decide +kernel
theorem dX9_count_60 : decode cX9_count 60 = .ok (.iconst 1, 1) := by decide +kernel
theorem dX9_count_61 : decode cX9_count 61 = .ok (.iadd, 1) := by decide +kernel
theorem dX9_count_62 : decode cX9_count 62 = .ok (.putfield 38, 3) := by decide +kernel
theorem dX9_count_65 : decode cX9_count 65 = .ok (.iinc 4 1, 3) := by decide +kernel
theorem dX9_count_68 : decode cX9_count 68 = .ok (.goto (-42), 3) := by decide +kernel
theorem dX9_count_71 : decode cX9_count 71 = .ok (.aload_n 0, 1) := by decide +kernel
theorem dX9_count_72 : decode cX9_count 72 = .ok (.getfield 38, 3) := by decide +kernel
theorem dX9_count_75 : decode cX9_count 75 = .ok (.istore 4, 2) := by decide +kernel
theorem dX9_count_77 : decode cX9_count 77 = .ok (.iload 4, 2) := by decide +kernel
theorem dX9_count_79 : decode cX9_count 79 = .ok (.iconst 3, 1) := by decide +kernel
theorem dX9_count_80 : decode cX9_count 80 = .ok (.if_icmp .ge 39, 3) := by decide +kernel
theorem dX9_count_83 : decode cX9_count 83 = .ok (.aload_n 0, 1) := by decide +kernel
theorem dX9_count_84 : decode cX9_count 84 = .ok (.getfield 15, 3) := by decide +kernel
theorem dX9_count_87 : decode cX9_count 87 = .ok (.iload 4, 2) := by decide +kernel
theorem dX9_count_89 : decode cX9_count 89 = .ok (.iconst 1, 1) := by decide +kernel
theorem dX9_count_90 : decode cX9_count 90 = .ok (.iastore, 1) := by decide +kernel
theorem dX9_count_91 : decode cX9_count 91 = .ok (.aload_n 0, 1) := by decide +kernel
theorem dX9_count_92 : decode cX9_count 92 = .ok (.getfield 18, 3) := by decide +kernel
theorem dX9_count_95 : decode cX9_count 95 = .ok (.iload 4, 2) := by decide +kernel
theorem dX9_count_97 : decode cX9_count 97 = .ok (.bipush 16, 2) := by decide +kernel
theorem dX9_count_99 : decode cX9_count 99 = .ok (.imul, 1) := by decide +kernel
theorem dX9_count_100 : decode cX9_count 100 = .ok (.iload_n 3, 1) := by decide +kernel
theorem dX9_count_101 : decode cX9_count 101 = .ok (.iastore, 1) := by decide +kernel
theorem dX9_count_102 : decode cX9_count 102 = .ok (.aload_n 0, 1) := by decide +kernel
theorem dX9_count_103 : decode cX9_count 103 = .ok (.getfield 21, 3) := by decide +kernel
theorem dX9_count_106 : decode cX9_count 106 = .ok (.iload 4, 2) := by decide +kernel
theorem dX9_count_108 : decode cX9_count 108 = .ok (.bipush 16, 2) := by decide +kernel
theorem dX9_count_110 : decode cX9_count 110 = .ok (.imul, 1) := by decide +kernel
theorem dX9_count_111 : decode cX9_count 111 = .ok (.iconst 1, 1) := by decide +kernel
theorem dX9_count_112 : decode cX9_count 112 = .ok (.iastore, 1) := by decide +kernel
theorem dX9_count_113 : decode cX9_count 113 = .ok (.iinc 4 1, 3) := by decide +kernel
theorem dX9_count_116 : decode cX9_count 116 = .ok (.goto (-39), 3) := by decide +kernel
theorem dX9_count_119 : decode cX9_count 119 = .ok (.aload_n 0, 1) := by decide +kernel
theorem dX9_count_120 : decode cX9_count 120 = .ok (.iload_n 2, 1) := by decide +kernel
theorem dX9_count_121 : decode cX9_count 121 = .ok (.invokevirtual 46, 3) := by decide +kernel
theorem dX9_count_124 : decode cX9_count 124 = .ok (.return_, 1) := by decide +kernel
set_option maxHeartbeats 4000000 in
set_option maxRecDepth 100000 in
theorem w_X9_count (l : Launch) (G : GP) (x : XP) (v1 : Nat) (a2 : Int32) (σ : Sto) (P : Sto → Prop) (h : D_X9_count v1 a2 σ P) : g_Metv l yX9_count cX9_count 5 rm_X9_count G x [.ref (g_ad G 72), .ref (g_ad G v1), .int a2] σ P := by
  unfold D_X9_count at h
  obtain ⟨hv1, h⟩ := h
  refine g_ofWv (by decide +kernel) (Nat.le_of_ble_eq_true rfl) ?_
  intro p e s m args below meth c Q ls C hM hl hret
  have hx := C.1
  have hb := C.2.1
  have hl : lv_has ls 5 [(0, .ref (g_ad G 72)), (1, .ref (g_ad G v1)), (2, .int a2)] := hl
  have h := h (fun (v3 : Int32) (v4 : Int32) (σ : Sto) => ∀ (H : Heap) (locs : List Loc) (ls : Array Slot), g_M G x σ s H locs → lv_has ls 5 [(0, .ref (g_ad G 72)), (1, .ref (g_ad G v1)), (2, .int a2), (3, .int v3), (4, .int v4)] → W p l e rm_X9_count s m args below meth c H locs 0 0 Q (F0 m 26 ls [])) (fun (v3 : Int32) (v4 : Int32) (σ : Sto) => ∀ (H : Heap) (locs : List Loc) (ls : Array Slot), g_M G x σ s H locs → lv_has ls 5 [(0, .ref (g_ad G 72)), (2, .int a2), (3, .int v3), (4, .int v4)] → W p l e rm_X9_count s m args below meth c H locs 0 0 Q (F0 m 77 ls []))
  have h := h (by
    intro v3 v4 σ h  H locs ls hM hl
    refine lv_iload (pc := 26) hx hb dX9_count_26 (lv_at hl 4 rfl) ?_
    refine lv_bipush (pc := 28) (v := 6) hx hb dX9_count_28 (by decide) ?_
    refine lv_icmp_ge (pc := 30) (tgt := 71) hx hb dX9_count_30 (by decide) (fun c30 => ?_) (fun c30 => ?_)
    · have h := h.1 c30
      refine lv_aload_n (pc := 71) hx hb dX9_count_71 rfl (lv_at hl 0 rfl) ?_
      refine g_get (pc := 72) (v := .int (σ 72 2)) C hM (by decide) ce_72 fl_RX9_38 rfl dX9_count_72 ?_
      refine lv_istore (pc := 75) (lv' := [(4, .int (σ 72 2)), (0, .ref (g_ad G 72)), (1, .ref (g_ad G v1)), (2, .int a2), (3, .int v3)]) hx hb dX9_count_75 hl (by decide) rfl (fun ls hl => ?_)
      exact h _ _ _ hM (lv_sub hl [1, 3, 4, 0] rfl)
    · have h := h.2 c30
      refine lv_aload_n (pc := 33) hx hb dX9_count_33 rfl (lv_at hl 1 rfl) ?_
      refine lv_iload (pc := 34) hx hb dX9_count_34 (lv_at hl 4 rfl) ?_
      obtain ⟨hc, h⟩ := h
      refine g_ialdK (pc := 36) C hM (va_lt hv1) (ce_va hv1) hc rfl dX9_count_36 ?_
      refine lv_if_ge (pc := 37) (tgt := 65) hx hb dX9_count_37 (by decide) (fun c37 => ?_) (fun c37 => ?_)
      · have h := h.1 c37
        refine lv_iinc (pc := 65) (v := (v4 + 1)) (lv' := [(4, .int (v4 + 1)), (0, .ref (g_ad G 72)), (1, .ref (g_ad G v1)), (2, .int a2), (3, .int v3)]) hx hb dX9_count_65 hl (k := 4) rfl (by rfl) (by decide) rfl (fun ls hl => ?_)
        refine lv_goto (pc := 68) (tgt := 26) hx hb dX9_count_68 (by decide) ?_
        exact h _ _ _ hM (lv_sub hl [1, 2, 3, 4, 0] rfl)
      · have h := h.2 c37
        refine lv_aload_n (pc := 40) hx hb dX9_count_40 rfl (lv_at hl 0 rfl) ?_
        refine g_get (pc := 41) (v := .int (σ 72 2)) C hM (by decide) ce_72 fl_RX9_38 rfl dX9_count_41 ?_
        refine lv_iconst (pc := 44) (v := 3) hx hb dX9_count_44 (by decide) ?_
        refine lv_icmp_ge (pc := 45) (tgt := 65) hx hb dX9_count_45 (by decide) (fun c45 => ?_) (fun c45 => ?_)
        · have h := h.1 c45
          refine lv_iinc (pc := 65) (v := (v4 + 1)) (lv' := [(4, .int (v4 + 1)), (0, .ref (g_ad G 72)), (1, .ref (g_ad G v1)), (2, .int a2), (3, .int v3)]) hx hb dX9_count_65 hl (k := 4) rfl (by rfl) (by decide) rfl (fun ls hl => ?_)
          refine lv_goto (pc := 68) (tgt := 26) hx hb dX9_count_68 (by decide) ?_
          exact h _ _ _ hM (lv_sub hl [1, 2, 3, 4, 0] rfl)
        · have h := h.2 c45
          refine lv_aload_n (pc := 48) hx hb dX9_count_48 rfl (lv_at hl 0 rfl) ?_
          refine lv_iload (pc := 49) hx hb dX9_count_49 (lv_at hl 4 rfl) ?_
          refine lv_iload_n (pc := 51) hx hb dX9_count_51 rfl (lv_at hl 3 rfl) ?_
          refine g_cVv (pc := 52) C hM hl.1 yv_X9_group q4_146 (by decide) ce_72 rfl (w_X9_group l G x v4 v3 σ _ h) rfl rfl ⟨⟨by decide, by decide⟩, by decide, by decide⟩ (Nat.le_of_ble_eq_true rfl) dX9_count_52 (fun s52 H locs h hM => ?_)
          refine lv_aload_n (pc := 55) hx hb dX9_count_55 rfl (lv_at hl 0 rfl) ?_
          refine lv_dup (pc := 56) hx hb dX9_count_56 rfl ?_
          refine g_get (pc := 57) (v := .int (s52 72 2)) C hM (by decide) ce_72 fl_RX9_38 rfl dX9_count_57 ?_
          refine lv_iconst (pc := 60) (v := 1) hx hb dX9_count_60 (by decide) ?_
          refine lv_iadd (pc := 61) hx hb dX9_count_61 ?_
          refine g_putE (pc := 62) C hM (by decide) ce_72 fp_RX9_38 rfl rfl (Nat.le_of_ble_eq_true rfl) rfl dX9_count_62 (fun s62 es62 H locs hM => ?_)
          have h := h s62 es62
          refine lv_iinc (pc := 65) (v := (v4 + 1)) (lv' := [(4, .int (v4 + 1)), (0, .ref (g_ad G 72)), (1, .ref (g_ad G v1)), (2, .int a2), (3, .int v3)]) hx hb dX9_count_65 hl (k := 4) rfl (by rfl) (by decide) rfl (fun ls hl => ?_)
          refine lv_goto (pc := 68) (tgt := 26) hx hb dX9_count_68 (by decide) ?_
          exact h _ _ _ hM (lv_sub hl [1, 2, 3, 4, 0] rfl))
  have h := h (by
    intro v3 v4 σ h  H locs ls hM hl
    refine lv_iload (pc := 77) hx hb dX9_count_77 (lv_at hl 3 rfl) ?_
    refine lv_iconst (pc := 79) (v := 3) hx hb dX9_count_79 (by decide) ?_
    refine lv_icmp_ge (pc := 80) (tgt := 119) hx hb dX9_count_80 (by decide) (fun c80 => ?_) (fun c80 => ?_)
    · have h := h.1 c80
      refine lv_aload_n (pc := 119) hx hb dX9_count_119 rfl (lv_at hl 0 rfl) ?_
      refine lv_iload_n (pc := 120) hx hb dX9_count_120 rfl (lv_at hl 1 rfl) ?_
      refine g_cVv (pc := 121) C hM hl.1 yv_X9_spread q4_158 (by decide) ce_72 rfl (w_X9_spread l G x a2 σ _ h) rfl rfl ⟨⟨by decide, by decide⟩, by decide, by decide⟩ (Nat.le_of_ble_eq_true rfl) dX9_count_121 (fun s121 H locs h hM => ?_)
      exact hret 124 _ _ _ _ dX9_count_124 h hM
    · have h := h.2 c80
      refine lv_aload_n (pc := 83) hx hb dX9_count_83 rfl (lv_at hl 0 rfl) ?_
      refine g_get (pc := 84) (v := .ref (g_ad G 74)) C hM (by decide) ce_72 fl_RX9_15 rfl dX9_count_84 ?_
      refine lv_iload (pc := 87) hx hb dX9_count_87 (lv_at hl 3 rfl) ?_
      refine lv_iconst (pc := 89) (v := 1) hx hb dX9_count_89 (by decide) ?_
      obtain ⟨hc, h⟩ := h
      refine g_iastE (pc := 90) C hM (by decide) ce_74 hc rfl dX9_count_90 (fun s90 es90 H locs hM => ?_)
      have h := h s90 es90
      refine lv_aload_n (pc := 91) hx hb dX9_count_91 rfl (lv_at hl 0 rfl) ?_
      refine g_get (pc := 92) (v := .ref (g_ad G 75)) C hM (by decide) ce_72 fl_RX9_18 rfl dX9_count_92 ?_
      refine lv_iload (pc := 95) hx hb dX9_count_95 (lv_at hl 3 rfl) ?_
      refine lv_bipush (pc := 97) (v := 16) hx hb dX9_count_97 (by decide) ?_
      refine lv_imul (pc := 99) hx hb dX9_count_99 ?_
      refine lv_iload_n (pc := 100) hx hb dX9_count_100 rfl (lv_at hl 2 rfl) ?_
      obtain ⟨hc, h⟩ := h
      refine g_iastE (pc := 101) C hM (by decide) ce_75 hc rfl dX9_count_101 (fun s101 es101 H locs hM => ?_)
      have h := h s101 es101
      refine lv_aload_n (pc := 102) hx hb dX9_count_102 rfl (lv_at hl 0 rfl) ?_
      refine g_get (pc := 103) (v := .ref (g_ad G 76)) C hM (by decide) ce_72 fl_RX9_21 rfl dX9_count_103 ?_
      refine lv_iload (pc := 106) hx hb dX9_count_106 (lv_at hl 3 rfl) ?_
      refine lv_bipush (pc := 108) (v := 16) hx hb dX9_count_108 (by decide) ?_
      refine lv_imul (pc := 110) hx hb dX9_count_110 ?_
      refine lv_iconst (pc := 111) (v := 1) hx hb dX9_count_111 (by decide) ?_
      obtain ⟨hc, h⟩ := h
      refine g_iastE (pc := 112) C hM (by decide) ce_76 hc rfl dX9_count_112 (fun s112 es112 H locs hM => ?_)
      have h := h s112 es112
      refine lv_iinc (pc := 113) (v := (v4 + 1)) (lv' := [(4, .int (v4 + 1)), (0, .ref (g_ad G 72)), (2, .int a2), (3, .int v3)]) hx hb dX9_count_113 hl (k := 3) rfl (by rfl) (by decide) rfl (fun ls hl => ?_)
      refine lv_goto (pc := 116) (tgt := 77) hx hb dX9_count_116 (by decide) ?_
      exact h _ _ _ hM (lv_sub hl [1, 2, 3, 0] rfl))
  refine lv_aload_n (pc := 0) hx hb dX9_count_0 rfl (lv_at hl 0 rfl) ?_
  refine g_get (pc := 1) (v := .ref (g_ad G 65)) C hM (by decide) ce_72 fl_RX9_24 rfl dX9_count_1 ?_
  refine lv_aload_n (pc := 4) hx hb dX9_count_4 rfl (lv_at hl 1 rfl) ?_
  refine g_cVi (pc := 5) C hM hl.1 yv_X5_matching q4_141 (by decide) ce_65 rfl (w_X5_matching l G x v1 σ _ h) rfl rfl ⟨⟨by decide, by decide⟩, by decide, by decide⟩ (Nat.le_of_ble_eq_true rfl) dX9_count_5 (fun r5 s5 H locs h hM => ?_)
  refine lv_aload_n (pc := 8) hx hb dX9_count_8 rfl (lv_at hl 0 rfl) ?_
  refine g_get (pc := 9) (v := .ref (g_ad G 65)) C hM (by decide) ce_72 fl_RX9_24 rfl dX9_count_9 ?_
  refine lv_iload_n (pc := 12) hx hb dX9_count_12 rfl (lv_at hl 2 rfl) ?_
  refine g_cVi (pc := 13) C hM hl.1 yv_X5_rulesOf q4_142 (by decide) ce_65 rfl (w_X5_rulesOf l G x a2 s5 _ h) rfl rfl ⟨⟨by decide, by decide⟩, by decide, by decide⟩ (Nat.le_of_ble_eq_true rfl) dX9_count_13 (fun r13 s13 H locs h hM => ?_)
  refine lv_iand (pc := 16) hx hb dX9_count_16 ?_
  refine lv_istore_n (pc := 17) (lv' := [(3, .int (r5 &&& r13)), (0, .ref (g_ad G 72)), (1, .ref (g_ad G v1)), (2, .int a2)]) hx hb dX9_count_17 rfl hl (by decide) rfl (fun ls hl => ?_)
  refine lv_aload_n (pc := 18) hx hb dX9_count_18 rfl (lv_at hl 1 rfl) ?_
  refine lv_iconst (pc := 19) (v := 0) hx hb dX9_count_19 (by decide) ?_
  refine g_putE (pc := 20) C hM (by decide) ce_72 fp_RX9_38 rfl rfl (Nat.le_of_ble_eq_true rfl) rfl dX9_count_20 (fun s20 es20 H locs hM => ?_)
  have h := h s20 es20
  refine lv_iconst (pc := 23) (v := 0) hx hb dX9_count_23 (by decide) ?_
  refine lv_istore (pc := 24) (lv' := [(4, .int 0), (3, .int (r5 &&& r13)), (0, .ref (g_ad G 72)), (1, .ref (g_ad G v1)), (2, .int a2)]) hx hb dX9_count_24 hl (by decide) rfl (fun ls hl => ?_)
  exact h _ _ _ hM (lv_sub hl [2, 3, 4, 1, 0] rfl)
abbrev rm_X5_sizeOf : Room := { frames := 1, cells := 0, slots := 0, locals := 22 }
theorem dX5_sizeOf_0 : decode cX5_sizeOf 0 = .ok (.iconst 1, 1) := by decide +kernel
theorem dX5_sizeOf_1 : decode cX5_sizeOf 1 = .ok (.istore_n 2, 1) := by decide +kernel
theorem dX5_sizeOf_2 : decode cX5_sizeOf 2 = .ok (.iconst 0, 1) := by decide +kernel
theorem dX5_sizeOf_3 : decode cX5_sizeOf 3 = .ok (.istore_n 3, 1) := by decide +kernel
theorem dX5_sizeOf_4 : decode cX5_sizeOf 4 = .ok (.iload_n 3, 1) := by decide +kernel
theorem dX5_sizeOf_5 : decode cX5_sizeOf 5 = .ok (.bipush 6, 2) := by decide +kernel
theorem dX5_sizeOf_7 : decode cX5_sizeOf 7 = .ok (.if_icmp .ge 21, 3) := by decide +kernel
theorem dX5_sizeOf_10 : decode cX5_sizeOf 10 = .ok (.iload_n 2, 1) := by decide +kernel
theorem dX5_sizeOf_11 : decode cX5_sizeOf 11 = .ok (.aload_n 0, 1) := by decide +kernel
theorem dX5_sizeOf_12 : decode cX5_sizeOf 12 = .ok (.iload_n 1, 1) := by decide +kernel
theorem dX5_sizeOf_13 : decode cX5_sizeOf 13 = .ok (.iload_n 3, 1) := by decide +kernel
theorem dX5_sizeOf_14 : decode cX5_sizeOf 14 = .ok (.invokevirtual 60, 3) := by decide +kernel
theorem dX5_sizeOf_17 : decode cX5_sizeOf 17 = .ok (.invokestatic 86, 3) := by decide +kernel
theorem dX5_sizeOf_20 : decode cX5_sizeOf 20 = .ok (.imul, 1) := by decide +kernel
theorem dX5_sizeOf_21 : decode cX5_sizeOf 21 = .ok (.istore_n 2, 1) := by decide +kernel
theorem dX5_sizeOf_22 : decode cX5_sizeOf 22 = .ok (.iinc 3 1, 3) := by decide +kernel
theorem dX5_sizeOf_25 : decode cX5_sizeOf 25 = .ok (.goto (-21), 3) := by decide +kernel
theorem dX5_sizeOf_28 : decode cX5_sizeOf 28 = .ok (.iload_n 2, 1) := by decide +kernel
theorem dX5_sizeOf_29 : decode cX5_sizeOf 29 = .ok (.ireturn, 1) := by decide +kernel
set_option maxHeartbeats 4000000 in
set_option maxRecDepth 100000 in
theorem w_X5_sizeOf (l : Launch) (G : GP) (x : XP) (a1 : Int32) (σ : Sto) (P : Int32 → Sto → Prop) (h : D_X5_sizeOf a1 σ P) : g_Meti l yX5_sizeOf cX5_sizeOf 4 (some .int) rm_X5_sizeOf G x [.ref (g_ad G 65), .int a1] σ P := by
  unfold D_X5_sizeOf at h
  refine g_ofWi (by decide +kernel) (Nat.le_of_ble_eq_true rfl) ?_
  intro p e s m args below meth c Q ls C hM hl hret
  have hx := C.1
  have hb := C.2.1
  have hl : lv_has ls 4 [(0, .ref (g_ad G 65)), (1, .int a1)] := hl
  have h := h (fun (v2 : Int32) (v3 : Int32) (σ : Sto) => ∀ (H : Heap) (locs : List Loc) (ls : Array Slot), g_M G x σ s H locs → lv_has ls 4 [(0, .ref (g_ad G 65)), (1, .int a1), (2, .int v2), (3, .int v3)] → W p l e rm_X5_sizeOf s m args below meth c H locs 0 0 Q (F0 m 4 ls []))
  have h := h (by
    intro v2 v3 σ h  H locs ls hM hl
    refine lv_iload_n (pc := 4) hx hb dX5_sizeOf_4 rfl (lv_at hl 3 rfl) ?_
    refine lv_bipush (pc := 5) (v := 6) hx hb dX5_sizeOf_5 (by decide) ?_
    refine lv_icmp_ge (pc := 7) (tgt := 28) hx hb dX5_sizeOf_7 (by decide) (fun c7 => ?_) (fun c7 => ?_)
    · have h := h.1 c7
      refine lv_iload_n (pc := 28) hx hb dX5_sizeOf_28 rfl (lv_at hl 2 rfl) ?_
      exact hret 29 _ _ _ _ _ dX5_sizeOf_29 (by rfl) h hM
    · have h := h.2 c7
      refine lv_iload_n (pc := 10) hx hb dX5_sizeOf_10 rfl (lv_at hl 2 rfl) ?_
      refine lv_aload_n (pc := 11) hx hb dX5_sizeOf_11 rfl (lv_at hl 0 rfl) ?_
      refine lv_iload_n (pc := 12) hx hb dX5_sizeOf_12 rfl (lv_at hl 1 rfl) ?_
      refine lv_iload_n (pc := 13) hx hb dX5_sizeOf_13 rfl (lv_at hl 3 rfl) ?_
      refine g_cVi (pc := 14) C hM hl.1 yv_X5_box q4_52 (by decide) ce_65 rfl (w_X5_box l G x a1 v3 σ _ h) rfl rfl ⟨⟨by decide, by decide⟩, by decide, by decide⟩ (Nat.le_of_ble_eq_true rfl) dX5_sizeOf_14 (fun r14 s14 H locs h hM => ?_)
      refine g_cSi (pc := 17) C hM hl.1 ys_J6_bitCount_0f7a4 q4_189 (w_J6_bitCount_0f7a4 l G x r14 s14 _ h) rfl rfl ⟨⟨by decide, by decide⟩, by decide, by decide⟩ (Nat.le_of_ble_eq_true rfl) dX5_sizeOf_17 (fun r17 s17 H locs h hM => ?_)
      refine lv_imul (pc := 20) hx hb dX5_sizeOf_20 ?_
      refine lv_istore_n (pc := 21) (lv' := [(2, .int (v2 * r17)), (0, .ref (g_ad G 65)), (1, .int a1), (3, .int v3)]) hx hb dX5_sizeOf_21 rfl hl (by decide) rfl (fun ls hl => ?_)
      refine lv_iinc (pc := 22) (v := (v3 + 1)) (lv' := [(3, .int (v3 + 1)), (2, .int (v2 * r17)), (0, .ref (g_ad G 65)), (1, .int a1)]) hx hb dX5_sizeOf_22 hl (k := 3) rfl (by rfl) (by decide) rfl (fun ls hl => ?_)
      refine lv_goto (pc := 25) (tgt := 4) hx hb dX5_sizeOf_25 (by decide) ?_
      exact h _ _ _ hM (lv_sub hl [2, 3, 1, 0] rfl))
  refine lv_iconst (pc := 0) (v := 1) hx hb dX5_sizeOf_0 (by decide) ?_
  refine lv_istore_n (pc := 1) (lv' := [(2, .int 1), (0, .ref (g_ad G 65)), (1, .int a1)]) hx hb dX5_sizeOf_1 rfl hl (by decide) rfl (fun ls hl => ?_)
  refine lv_iconst (pc := 2) (v := 0) hx hb dX5_sizeOf_2 (by decide) ?_
  refine lv_istore_n (pc := 3) (lv' := [(3, .int 0), (2, .int 1), (0, .ref (g_ad G 65)), (1, .int a1)]) hx hb dX5_sizeOf_3 rfl hl (by decide) rfl (fun ls hl => ?_)
  exact h _ _ _ hM (lv_sub hl [2, 3, 1, 0] rfl)
abbrev rm_X5_meet : Room := { frames := 1, cells := 0, slots := 0, locals := 22 }
theorem dX5_meet_0 : decode cX5_meet 0 = .ok (.iconst 0, 1) := by decide +kernel
theorem dX5_meet_1 : decode cX5_meet 1 = .ok (.istore_n 3, 1) := by decide +kernel
theorem dX5_meet_2 : decode cX5_meet 2 = .ok (.iload_n 3, 1) := by decide +kernel
theorem dX5_meet_3 : decode cX5_meet 3 = .ok (.bipush 6, 2) := by decide +kernel
theorem dX5_meet_5 : decode cX5_meet 5 = .ok (.if_icmp .ge 27, 3) := by decide +kernel
theorem dX5_meet_8 : decode cX5_meet 8 = .ok (.aload_n 0, 1) := by decide +kernel
theorem dX5_meet_9 : decode cX5_meet 9 = .ok (.iload_n 1, 1) := by decide +kernel
theorem dX5_meet_10 : decode cX5_meet 10 = .ok (.iload_n 3, 1) := by decide +kernel
theorem dX5_meet_11 : decode cX5_meet 11 = .ok (.invokevirtual 60, 3) := by decide +kernel
theorem dX5_meet_14 : decode cX5_meet 14 = .ok (.aload_n 0, 1) := by decide +kernel
theorem dX5_meet_15 : decode cX5_meet 15 = .ok (.iload_n 2, 1) := by decide +kernel
theorem dX5_meet_16 : decode cX5_meet 16 = .ok (.iload_n 3, 1) := by decide +kernel
theorem dX5_meet_17 : decode cX5_meet 17 = .ok (.invokevirtual 60, 3) := by decide +kernel
theorem dX5_meet_20 : decode cX5_meet 20 = .ok (.iand, 1) := by decide +kernel
theorem dX5_meet_21 : decode cX5_meet 21 = .ok (.ifCond .ne 5, 3) := by decide +kernel
theorem dX5_meet_24 : decode cX5_meet 24 = .ok (.iconst 0, 1) := by decide +kernel
theorem dX5_meet_25 : decode cX5_meet 25 = .ok (.ireturn, 1) := by decide +kernel
theorem dX5_meet_26 : decode cX5_meet 26 = .ok (.iinc 3 1, 3) := by decide +kernel
theorem dX5_meet_29 : decode cX5_meet 29 = .ok (.goto (-27), 3) := by decide +kernel
theorem dX5_meet_32 : decode cX5_meet 32 = .ok (.iconst 1, 1) := by decide +kernel
theorem dX5_meet_33 : decode cX5_meet 33 = .ok (.ireturn, 1) := by decide +kernel
set_option maxHeartbeats 4000000 in
set_option maxRecDepth 100000 in
theorem w_X5_meet (l : Launch) (G : GP) (x : XP) (a1 : Int32) (a2 : Int32) (σ : Sto) (P : Int32 → Sto → Prop) (h : D_X5_meet a1 a2 σ P) : g_Meti l yX5_meet cX5_meet 4 (some .boolean) rm_X5_meet G x [.ref (g_ad G 65), .int a1, .int a2] σ P := by
  unfold D_X5_meet at h
  refine g_ofWi (by decide +kernel) (Nat.le_of_ble_eq_true rfl) ?_
  intro p e s m args below meth c Q ls C hM hl hret
  have hx := C.1
  have hb := C.2.1
  have hl : lv_has ls 4 [(0, .ref (g_ad G 65)), (1, .int a1), (2, .int a2)] := hl
  have h := h (fun (v3 : Int32) (σ : Sto) => ∀ (H : Heap) (locs : List Loc) (ls : Array Slot), g_M G x σ s H locs → lv_has ls 4 [(0, .ref (g_ad G 65)), (1, .int a1), (2, .int a2), (3, .int v3)] → W p l e rm_X5_meet s m args below meth c H locs 0 0 Q (F0 m 2 ls []))
  have h := h (by
    intro v3 σ h  H locs ls hM hl
    refine lv_iload_n (pc := 2) hx hb dX5_meet_2 rfl (lv_at hl 3 rfl) ?_
    refine lv_bipush (pc := 3) (v := 6) hx hb dX5_meet_3 (by decide) ?_
    refine lv_icmp_ge (pc := 5) (tgt := 32) hx hb dX5_meet_5 (by decide) (fun c5 => ?_) (fun c5 => ?_)
    · have h := h.1 c5
      refine lv_iconst (pc := 32) (v := 1) hx hb dX5_meet_32 (by decide) ?_
      exact hret 33 _ _ _ _ _ dX5_meet_33 (by rfl) h hM
    · have h := h.2 c5
      refine lv_aload_n (pc := 8) hx hb dX5_meet_8 rfl (lv_at hl 0 rfl) ?_
      refine lv_iload_n (pc := 9) hx hb dX5_meet_9 rfl (lv_at hl 1 rfl) ?_
      refine lv_iload_n (pc := 10) hx hb dX5_meet_10 rfl (lv_at hl 3 rfl) ?_
      refine g_cVi (pc := 11) C hM hl.1 yv_X5_box q4_52 (by decide) ce_65 rfl (w_X5_box l G x a1 v3 σ _ h) rfl rfl ⟨⟨by decide, by decide⟩, by decide, by decide⟩ (Nat.le_of_ble_eq_true rfl) dX5_meet_11 (fun r11 s11 H locs h hM => ?_)
      refine lv_aload_n (pc := 14) hx hb dX5_meet_14 rfl (lv_at hl 0 rfl) ?_
      refine lv_iload_n (pc := 15) hx hb dX5_meet_15 rfl (lv_at hl 2 rfl) ?_
      refine lv_iload_n (pc := 16) hx hb dX5_meet_16 rfl (lv_at hl 3 rfl) ?_
      refine g_cVi (pc := 17) C hM hl.1 yv_X5_box q4_52 (by decide) ce_65 rfl (w_X5_box l G x a2 v3 s11 _ h) rfl rfl ⟨⟨by decide, by decide⟩, by decide, by decide⟩ (Nat.le_of_ble_eq_true rfl) dX5_meet_17 (fun r17 s17 H locs h hM => ?_)
      refine lv_iand (pc := 20) hx hb dX5_meet_20 ?_
      refine lv_if_ne (pc := 21) (tgt := 26) hx hb dX5_meet_21 (by decide) (fun c21 => ?_) (fun c21 => ?_)
      · have h := h.2 c21
        refine lv_iinc (pc := 26) (v := (v3 + 1)) (lv' := [(3, .int (v3 + 1)), (0, .ref (g_ad G 65)), (1, .int a1), (2, .int a2)]) hx hb dX5_meet_26 hl (k := 3) rfl (by rfl) (by decide) rfl (fun ls hl => ?_)
        refine lv_goto (pc := 29) (tgt := 2) hx hb dX5_meet_29 (by decide) ?_
        exact h _ _ _ hM (lv_sub hl [1, 2, 3, 0] rfl)
      · have h := h.1 c21
        refine lv_iconst (pc := 24) (v := 0) hx hb dX5_meet_24 (by decide) ?_
        exact hret 25 _ _ _ _ _ dX5_meet_25 (by rfl) h hM)
  refine lv_iconst (pc := 0) (v := 0) hx hb dX5_meet_0 (by decide) ?_
  refine lv_istore_n (pc := 1) (lv' := [(3, .int 0), (0, .ref (g_ad G 65)), (1, .int a1), (2, .int a2)]) hx hb dX5_meet_1 rfl hl (by decide) rfl (fun ls hl => ?_)
  exact h _ _ _ hM (lv_sub hl [1, 2, 3, 0] rfl)
