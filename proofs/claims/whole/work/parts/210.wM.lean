abbrev rm_X12_decisionBy : Room := { frames := 3, cells := 0, slots := 0, locals := 67 }
theorem dX12_decisionBy_0 : decode cX12_decisionBy 0 = .ok (.iconst 0, 1) := by decide +kernel
theorem dX12_decisionBy_1 : decode cX12_decisionBy 1 = .ok (.istore_n 2, 1) := by decide +kernel
theorem dX12_decisionBy_2 : decode cX12_decisionBy 2 = .ok (.iconst 0, 1) := by decide +kernel
theorem dX12_decisionBy_3 : decode cX12_decisionBy 3 = .ok (.istore_n 3, 1) := by decide +kernel
theorem dX12_decisionBy_4 : decode cX12_decisionBy 4 = .ok (.iconst 2, 1) := by decide +kernel
theorem dX12_decisionBy_5 : decode cX12_decisionBy 5 = .ok (.istore 4, 2) := by decide +kernel
theorem dX12_decisionBy_7 : decode cX12_decisionBy 7 = .ok (.iconst (-1), 1) := by decide +kernel
theorem dX12_decisionBy_8 : decode cX12_decisionBy 8 = .ok (.istore 5, 2) := by decide +kernel
theorem dX12_decisionBy_10 : decode cX12_decisionBy 10 = .ok (.iconst (-1), 1) := by decide +kernel
theorem dX12_decisionBy_11 : decode cX12_decisionBy 11 = .ok (.istore 6, 2) := by decide +kernel
theorem dX12_decisionBy_13 : decode cX12_decisionBy 13 = .ok (.iconst 0, 1) := by decide +kernel
theorem dX12_decisionBy_14 : decode cX12_decisionBy 14 = .ok (.istore 7, 2) := by decide +kernel
theorem dX12_decisionBy_16 : decode cX12_decisionBy 16 = .ok (.iload 7, 2) := by decide +kernel
theorem dX12_decisionBy_18 : decode cX12_decisionBy 18 = .ok (.iconst 4, 1) := by decide +kernel
theorem dX12_decisionBy_19 : decode cX12_decisionBy 19 = .ok (.if_icmp .ge 109, 3) := by decide +kernel
theorem dX12_decisionBy_22 : decode cX12_decisionBy 22 = .ok (.iload_n 1, 1) := by decide +kernel
theorem dX12_decisionBy_23 : decode cX12_decisionBy 23 = .ok (.iload 7, 2) := by decide +kernel
theorem dX12_decisionBy_25 : decode cX12_decisionBy 25 = .ok (.invokestatic 129, 3) := by decide +kernel
theorem dX12_decisionBy_28 : decode cX12_decisionBy 28 = .ok (.ifCond .eq 12, 3) := by decide +kernel
theorem dX12_decisionBy_31 : decode cX12_decisionBy 31 = .ok (.aload_n 0, 1) := by decide +kernel
theorem dX12_decisionBy_32 : decode cX12_decisionBy 32 = .ok (.iload 7, 2) := by decide +kernel
theorem dX12_decisionBy_34 : decode cX12_decisionBy 34 = .ok (.invokevirtual 183, 3) := by decide +kernel
theorem dX12_decisionBy_37 : decode cX12_decisionBy 37 = .ok (.goto 4, 3) := by decide +kernel
theorem dX12_decisionBy_40 : decode cX12_decisionBy 40 = .ok (.iconst 2, 1) := by decide +kernel
theorem dX12_decisionBy_41 : decode cX12_decisionBy 41 = .ok (.istore 8, 2) := by decide +kernel
theorem dX12_decisionBy_43 : decode cX12_decisionBy 43 = .ok (.iload 8, 2) := by decide +kernel
theorem dX12_decisionBy_45 : decode cX12_decisionBy 45 = .ok (.iconst 2, 1) := by decide +kernel
theorem dX12_decisionBy_46 : decode cX12_decisionBy 46 = .ok (.if_icmp .ne 6, 3) := by decide +kernel
theorem dX12_decisionBy_49 : decode cX12_decisionBy 49 = .ok (.goto 73, 3) := by decide +kernel
theorem dX12_decisionBy_52 : decode cX12_decisionBy 52 = .ok (.iload_n 3, 1) := by decide +kernel
theorem dX12_decisionBy_53 : decode cX12_decisionBy 53 = .ok (.ifCond .ne 8, 3) := by decide +kernel
theorem dX12_decisionBy_56 : decode cX12_decisionBy 56 = .ok (.iload 8, 2) := by decide +kernel
theorem dX12_decisionBy_58 : decode cX12_decisionBy 58 = .ok (.goto 5, 3) := by decide +kernel
theorem dX12_decisionBy_61 : decode cX12_decisionBy 61 = .ok (.iload 4, 2) := by decide +kernel
theorem dX12_decisionBy_63 : decode cX12_decisionBy 63 = .ok (.istore 4, 2) := by decide +kernel
theorem dX12_decisionBy_65 : decode cX12_decisionBy 65 = .ok (.iinc 3 1, 3) := by decide +kernel
theorem dX12_decisionBy_68 : decode cX12_decisionBy 68 = .ok (.iload_n 2, 1) := by decide +kernel
theorem dX12_decisionBy_69 : decode cX12_decisionBy 69 = .ok (.iconst 1, 1) := by decide +kernel
theorem dX12_decisionBy_70 : decode cX12_decisionBy 70 = .ok (.iload 8, 2) := by decide +kernel
theorem dX12_decisionBy_72 : decode cX12_decisionBy 72 = .ok (.ishl, 1) := by decide +kernel
theorem dX12_decisionBy_73 : decode cX12_decisionBy 73 = .ok (.ior, 1) := by decide +kernel
theorem dX12_decisionBy_74 : decode cX12_decisionBy 74 = .ok (.istore_n 2, 1) := by decide +kernel
theorem dX12_decisionBy_75 : decode cX12_decisionBy 75 = .ok (.iload 8, 2) := by decide +kernel
theorem dX12_decisionBy_77 : decode cX12_decisionBy 77 = .ok (.ifCond .ne 17, 3) := by decide +kernel
theorem dX12_decisionBy_80 : decode cX12_decisionBy 80 = .ok (.iload 5, 2) := by decide +kernel
theorem dX12_decisionBy_82 : decode cX12_decisionBy 82 = .ok (.ifCond .ge 12, 3) := by decide +kernel
theorem dX12_decisionBy_85 : decode cX12_decisionBy 85 = .ok (.aload_n 0, 1) := by decide +kernel
theorem dX12_decisionBy_86 : decode cX12_decisionBy 86 = .ok (.getfield 31, 3) := by decide +kernel
theorem dX12_decisionBy_89 : decode cX12_decisionBy 89 = .ok (.iconst 0, 1) := by decide +kernel
theorem dX12_decisionBy_90 : decode cX12_decisionBy 90 = .ok (.iaload, 1) := by decide +kernel
theorem dX12_decisionBy_91 : decode cX12_decisionBy 91 = .ok (.goto 5, 3) := by decide +kernel
theorem dX12_decisionBy_94 : decode cX12_decisionBy 94 = .ok (.iload 5, 2) := by decide +kernel
theorem dX12_decisionBy_96 : decode cX12_decisionBy 96 = .ok (.istore 5, 2) := by decide +kernel
theorem dX12_decisionBy_98 : decode cX12_decisionBy 98 = .ok (.iload 8, 2) := by decide +kernel
theorem dX12_decisionBy_100 : decode cX12_decisionBy 100 = .ok (.iconst 1, 1) := by decide +kernel
theorem dX12_decisionBy_101 : decode cX12_decisionBy 101 = .ok (.if_icmp .ne 17, 3) := by decide +kernel
theorem dX12_decisionBy_104 : decode cX12_decisionBy 104 = .ok (.iload 6, 2) := by decide +kernel
theorem dX12_decisionBy_106 : decode cX12_decisionBy 106 = .ok (.ifCond .ge 12, 3) := by decide +kernel
theorem dX12_decisionBy_109 : decode cX12_decisionBy 109 = .ok (.aload_n 0, 1) := by decide +kernel
theorem dX12_decisionBy_110 : decode cX12_decisionBy 110 = .ok (.getfield 31, 3) := by decide +kernel
theorem dX12_decisionBy_113 : decode cX12_decisionBy 113 = .ok (.iconst 1, 1) := by decide +kernel
theorem dX12_decisionBy_114 : decode cX12_decisionBy 114 = .ok (.iaload, 1) := by decide +kernel
theorem dX12_decisionBy_115 : decode cX12_decisionBy 115 = .ok (.goto 5, 3) := by decide +kernel
theorem dX12_decisionBy_118 : decode cX12_decisionBy 118 = .ok (.iload 6, 2) := by decide +kernel
theorem dX12_decisionBy_120 : decode cX12_decisionBy 120 = .ok (.istore 6, 2) := by decide +kernel
theorem dX12_decisionBy_122 : decode cX12_decisionBy 122 = .ok (.iinc 7 1, 3) := by decide +kernel
theorem dX12_decisionBy_125 : decode cX12_decisionBy 125 = .ok (.goto (-109), 3) := by decide +kernel
theorem dX12_decisionBy_128 : decode cX12_decisionBy 128 = .ok (.aload_n 0, 1) := by decide +kernel
theorem dX12_decisionBy_129 : decode cX12_decisionBy 129 = .ok (.iload_n 2, 1) := by decide +kernel
theorem dX12_decisionBy_130 : decode cX12_decisionBy 130 = .ok (.iload_n 3, 1) := by decide +kernel
theorem dX12_decisionBy_131 : decode cX12_decisionBy 131 = .ok (.iload 4, 2) := by decide +kernel
theorem dX12_decisionBy_133 : decode cX12_decisionBy 133 = .ok (.invokevirtual 186, 3) := by decide +kernel
theorem dX12_decisionBy_136 : decode cX12_decisionBy 136 = .ok (.istore 7, 2) := by decide +kernel
theorem dX12_decisionBy_138 : decode cX12_decisionBy 138 = .ok (.aload_n 0, 1) := by decide +kernel
theorem dX12_decisionBy_139 : decode cX12_decisionBy 139 = .ok (.iload 7, 2) := by decide +kernel
theorem dX12_decisionBy_141 : decode cX12_decisionBy 141 = .ok (.ifCond .ne 8, 3) := by decide +kernel
theorem dX12_decisionBy_144 : decode cX12_decisionBy 144 = .ok (.iload 5, 2) := by decide +kernel
theorem dX12_decisionBy_146 : decode cX12_decisionBy 146 = .ok (.goto 15, 3) := by decide +kernel
theorem dX12_decisionBy_149 : decode cX12_decisionBy 149 = .ok (.iload 7, 2) := by decide +kernel
theorem dX12_decisionBy_151 : decode cX12_decisionBy 151 = .ok (.iconst 1, 1) := by decide +kernel
theorem dX12_decisionBy_152 : decode cX12_decisionBy 152 = .ok (.if_icmp .ne 8, 3) := by decide +kernel
theorem dX12_decisionBy_155 : decode cX12_decisionBy 155 = .ok (.iload 6, 2) := by decide +kernel
theorem dX12_decisionBy_157 : decode cX12_decisionBy 157 = .ok (.goto 4, 3) := by decide +kernel
theorem dX12_decisionBy_160 : decode cX12_decisionBy 160 = .ok (.iconst (-1), 1) := by decide +kernel
theorem dX12_decisionBy_161 : decode cX12_decisionBy 161 = .ok (.putfield 189, 3) := by decide +kernel
theorem dX12_decisionBy_164 : decode cX12_decisionBy 164 = .ok (.iload 7, 2) := by decide +kernel
theorem dX12_decisionBy_166 : decode cX12_decisionBy 166 = .ok (.ireturn, 1) := by decide +kernel
set_option maxHeartbeats 4000000 in
set_option maxRecDepth 100000 in
theorem w_X12_decisionBy (l : Launch) (G : GP) (x : XP) (a1 : Int32) (σ : Sto) (P : Int32 → Sto → Prop) (h : D_X12_decisionBy a1 σ P) : g_Meti l yX12_decisionBy cX12_decisionBy 9 (some .int) rm_X12_decisionBy G x [.ref (g_ad G 87), .int a1] σ P := by
  unfold D_X12_decisionBy at h
  refine g_ofWi (by decide +kernel) (Nat.le_of_ble_eq_true rfl) ?_
  intro p e s m args below meth c Q ls C hM hl hret
  have hx := C.1
  have hb := C.2.1
  have hl : lv_has ls 9 [(0, .ref (g_ad G 87)), (1, .int a1)] := hl
  have h := h (fun (v2 : Int32) (v3 : Int32) (v4 : Int32) (v5 : Int32) (v6 : Int32) (v7 : Int32) (σ : Sto) => ∀ (H : Heap) (locs : List Loc) (ls : Array Slot), g_M G x σ s H locs → lv_has ls 9 [(0, .ref (g_ad G 87)), (1, .int a1), (2, .int v2), (3, .int v3), (4, .int v4), (5, .int v5), (6, .int v6), (7, .int v7)] → W p l e rm_X12_decisionBy s m args below meth c H locs 0 0 Q (F0 m 16 ls [])) (fun (v2 : Int32) (v3 : Int32) (v4 : Int32) (v5 : Int32) (v6 : Int32) (v7 : Int32) (t0 : Int32) (σ : Sto) => ∀ (H : Heap) (locs : List Loc) (ls : Array Slot), g_M G x σ s H locs → lv_has ls 9 [(0, .ref (g_ad G 87)), (1, .int a1), (2, .int v2), (3, .int v3), (4, .int v4), (5, .int v5), (6, .int v6), (7, .int v7)] → W p l e rm_X12_decisionBy s m args below meth c H locs 0 0 Q (F0 m 41 ls [.int t0])) (fun (v2 : Int32) (v3 : Int32) (v5 : Int32) (v6 : Int32) (v7 : Int32) (v8 : Int32) (t0 : Int32) (σ : Sto) => ∀ (H : Heap) (locs : List Loc) (ls : Array Slot), g_M G x σ s H locs → lv_has ls 9 [(0, .ref (g_ad G 87)), (1, .int a1), (2, .int v2), (3, .int v3), (5, .int v5), (6, .int v6), (7, .int v7), (8, .int v8)] → W p l e rm_X12_decisionBy s m args below meth c H locs 0 0 Q (F0 m 63 ls [.int t0])) (fun (v2 : Int32) (v3 : Int32) (v4 : Int32) (v6 : Int32) (v7 : Int32) (v8 : Int32) (t0 : Int32) (σ : Sto) => ∀ (H : Heap) (locs : List Loc) (ls : Array Slot), g_M G x σ s H locs → lv_has ls 9 [(0, .ref (g_ad G 87)), (1, .int a1), (2, .int v2), (3, .int v3), (4, .int v4), (6, .int v6), (7, .int v7), (8, .int v8)] → W p l e rm_X12_decisionBy s m args below meth c H locs 0 0 Q (F0 m 96 ls [.int t0]))
  have h := h (by
    intro v2 v3 v4 v5 v6 v7 σ h  H locs ls hM hl
    refine lv_iload (pc := 16) hx hb dX12_decisionBy_16 (lv_at hl 7 rfl) ?_
    refine lv_iconst (pc := 18) (v := 4) hx hb dX12_decisionBy_18 (by decide) ?_
    refine lv_icmp_ge (pc := 19) (tgt := 128) hx hb dX12_decisionBy_19 (by decide) (fun c19 => ?_) (fun c19 => ?_)
    · have h := h.1 c19
      refine lv_aload_n (pc := 128) hx hb dX12_decisionBy_128 rfl (lv_at hl 0 rfl) ?_
      refine lv_iload_n (pc := 129) hx hb dX12_decisionBy_129 rfl (lv_at hl 2 rfl) ?_
      refine lv_iload_n (pc := 130) hx hb dX12_decisionBy_130 rfl (lv_at hl 3 rfl) ?_
      refine lv_iload (pc := 131) hx hb dX12_decisionBy_131 (lv_at hl 4 rfl) ?_
      refine g_cVi (pc := 133) C hM hl.1 yv_X12_topDecision q7_80 (by decide) ce_87 rfl (w_X12_topDecision l G x v2 v3 v4 σ _ h) rfl rfl ⟨⟨by decide, by decide⟩, by decide, by decide⟩ (Nat.le_of_ble_eq_true rfl) dX12_decisionBy_133 (fun r133 s133 H locs h hM => ?_)
      refine lv_istore (pc := 136) (lv' := [(7, .int r133), (0, .ref (g_ad G 87)), (1, .int a1), (2, .int v2), (3, .int v3), (4, .int v4), (5, .int v5), (6, .int v6)]) hx hb dX12_decisionBy_136 hl (by decide) rfl (fun ls hl => ?_)
      refine lv_aload_n (pc := 138) hx hb dX12_decisionBy_138 rfl (lv_at hl 1 rfl) ?_
      refine lv_iload (pc := 139) hx hb dX12_decisionBy_139 (lv_at hl 0 rfl) ?_
      refine lv_if_ne (pc := 141) (tgt := 149) hx hb dX12_decisionBy_141 (by decide) (fun c141 => ?_) (fun c141 => ?_)
      · have h := h.2 c141
        refine lv_iload (pc := 149) hx hb dX12_decisionBy_149 (lv_at hl 0 rfl) ?_
        refine lv_iconst (pc := 151) (v := 1) hx hb dX12_decisionBy_151 (by decide) ?_
        refine lv_icmp_ne (pc := 152) (tgt := 160) hx hb dX12_decisionBy_152 (by decide) (fun c152 => ?_) (fun c152 => ?_)
        · have h := h.2 c152
          refine lv_iconst (pc := 160) (v := (-1)) hx hb dX12_decisionBy_160 (by decide) ?_
          refine g_putE (pc := 161) C hM (by decide) ce_87 fp_RX12_189 rfl rfl (Nat.le_of_ble_eq_true rfl) rfl dX12_decisionBy_161 (fun s161 es161 H locs hM => ?_)
          have h := h s161 es161
          refine lv_iload (pc := 164) hx hb dX12_decisionBy_164 (lv_at hl 0 rfl) ?_
          exact hret 166 _ _ _ _ _ dX12_decisionBy_166 (by rfl) h hM
        · have h := h.1 c152
          refine lv_iload (pc := 155) hx hb dX12_decisionBy_155 (lv_at hl 7 rfl) ?_
          refine lv_goto (pc := 157) (tgt := 161) hx hb dX12_decisionBy_157 (by decide) ?_
          refine g_putE (pc := 161) C hM (by decide) ce_87 fp_RX12_189 rfl rfl (Nat.le_of_ble_eq_true rfl) rfl dX12_decisionBy_161 (fun s161 es161 H locs hM => ?_)
          have h := h s161 es161
          refine lv_iload (pc := 164) hx hb dX12_decisionBy_164 (lv_at hl 0 rfl) ?_
          exact hret 166 _ _ _ _ _ dX12_decisionBy_166 (by rfl) h hM
      · have h := h.1 c141
        refine lv_iload (pc := 144) hx hb dX12_decisionBy_144 (lv_at hl 6 rfl) ?_
        refine lv_goto (pc := 146) (tgt := 161) hx hb dX12_decisionBy_146 (by decide) ?_
        refine g_putE (pc := 161) C hM (by decide) ce_87 fp_RX12_189 rfl rfl (Nat.le_of_ble_eq_true rfl) rfl dX12_decisionBy_161 (fun s161 es161 H locs hM => ?_)
        have h := h s161 es161
        refine lv_iload (pc := 164) hx hb dX12_decisionBy_164 (lv_at hl 0 rfl) ?_
        exact hret 166 _ _ _ _ _ dX12_decisionBy_166 (by rfl) h hM
    · have h := h.2 c19
      refine lv_iload_n (pc := 22) hx hb dX12_decisionBy_22 rfl (lv_at hl 1 rfl) ?_
      refine lv_iload (pc := 23) hx hb dX12_decisionBy_23 (lv_at hl 7 rfl) ?_
      refine g_cSi (pc := 25) C hM hl.1 ys_X12_has q6_194 (w_X12_has l G x a1 v7 σ _ h) rfl rfl ⟨⟨by decide, by decide⟩, by decide, by decide⟩ (Nat.le_of_ble_eq_true rfl) dX12_decisionBy_25 (fun r25 s25 H locs h hM => ?_)
      refine lv_if_eq (pc := 28) (tgt := 40) hx hb dX12_decisionBy_28 (by decide) (fun c28 => ?_) (fun c28 => ?_)
      · have h := h.1 c28
        refine lv_iconst (pc := 40) (v := 2) hx hb dX12_decisionBy_40 (by decide) ?_
        exact h _ _ _ hM (lv_sub hl [0, 1, 2, 3, 4, 5, 6, 7] rfl)
      · have h := h.2 c28
        refine lv_aload_n (pc := 31) hx hb dX12_decisionBy_31 rfl (lv_at hl 0 rfl) ?_
        refine lv_iload (pc := 32) hx hb dX12_decisionBy_32 (lv_at hl 7 rfl) ?_
        refine g_cVi (pc := 34) C hM hl.1 yv_X12_decisionOf q7_68 (by decide) ce_87 rfl (w_X12_decisionOf l G x v7 s25 _ h) rfl rfl ⟨⟨by decide, by decide⟩, by decide, by decide⟩ (Nat.le_of_ble_eq_true rfl) dX12_decisionBy_34 (fun r34 s34 H locs h hM => ?_)
        refine lv_goto (pc := 37) (tgt := 41) hx hb dX12_decisionBy_37 (by decide) ?_
        exact h _ _ _ hM (lv_sub hl [0, 1, 2, 3, 4, 5, 6, 7] rfl))
  have h := h (by
    intro v2 v3 v4 v5 v6 v7 t0 σ h  H locs ls hM hl
    refine lv_istore (pc := 41) (lv' := [(8, .int t0), (0, .ref (g_ad G 87)), (1, .int a1), (2, .int v2), (3, .int v3), (4, .int v4), (5, .int v5), (6, .int v6), (7, .int v7)]) hx hb dX12_decisionBy_41 hl (by decide) rfl (fun ls hl => ?_)
    refine lv_iload (pc := 43) hx hb dX12_decisionBy_43 (lv_at hl 0 rfl) ?_
    refine lv_iconst (pc := 45) (v := 2) hx hb dX12_decisionBy_45 (by decide) ?_
    refine lv_icmp_ne (pc := 46) (tgt := 52) hx hb dX12_decisionBy_46 (by decide) (fun c46 => ?_) (fun c46 => ?_)
    · have h := h.2 c46
      refine lv_iload_n (pc := 52) hx hb dX12_decisionBy_52 rfl (lv_at hl 4 rfl) ?_
      refine lv_if_ne (pc := 53) (tgt := 61) hx hb dX12_decisionBy_53 (by decide) (fun c53 => ?_) (fun c53 => ?_)
      · have h := h.2 c53
        refine lv_iload (pc := 61) hx hb dX12_decisionBy_61 (lv_at hl 5 rfl) ?_
        exact h _ _ _ hM (lv_sub hl [1, 2, 3, 4, 6, 7, 8, 0] rfl)
      · have h := h.1 c53
        refine lv_iload (pc := 56) hx hb dX12_decisionBy_56 (lv_at hl 0 rfl) ?_
        refine lv_goto (pc := 58) (tgt := 63) hx hb dX12_decisionBy_58 (by decide) ?_
        exact h _ _ _ hM (lv_sub hl [1, 2, 3, 4, 6, 7, 8, 0] rfl)
    · have h := h.1 c46
      refine lv_goto (pc := 49) (tgt := 122) hx hb dX12_decisionBy_49 (by decide) ?_
      refine lv_iinc (pc := 122) (v := (v7 + 1)) (lv' := [(7, .int (v7 + 1)), (8, .int t0), (0, .ref (g_ad G 87)), (1, .int a1), (2, .int v2), (3, .int v3), (4, .int v4), (5, .int v5), (6, .int v6)]) hx hb dX12_decisionBy_122 hl (k := 8) rfl (by rfl) (by decide) rfl (fun ls hl => ?_)
      refine lv_goto (pc := 125) (tgt := 16) hx hb dX12_decisionBy_125 (by decide) ?_
      exact h _ _ _ hM (lv_sub hl [2, 3, 4, 5, 6, 7, 8, 0] rfl))
  have h := h (by
    intro v2 v3 v5 v6 v7 v8 t0 σ h  H locs ls hM hl
    refine lv_istore (pc := 63) (lv' := [(4, .int t0), (0, .ref (g_ad G 87)), (1, .int a1), (2, .int v2), (3, .int v3), (5, .int v5), (6, .int v6), (7, .int v7), (8, .int v8)]) hx hb dX12_decisionBy_63 hl (by decide) rfl (fun ls hl => ?_)
    refine lv_iinc (pc := 65) (v := (v3 + 1)) (lv' := [(3, .int (v3 + 1)), (4, .int t0), (0, .ref (g_ad G 87)), (1, .int a1), (2, .int v2), (5, .int v5), (6, .int v6), (7, .int v7), (8, .int v8)]) hx hb dX12_decisionBy_65 hl (k := 4) rfl (by rfl) (by decide) rfl (fun ls hl => ?_)
    refine lv_iload_n (pc := 68) hx hb dX12_decisionBy_68 rfl (lv_at hl 4 rfl) ?_
    refine lv_iconst (pc := 69) (v := 1) hx hb dX12_decisionBy_69 (by decide) ?_
    refine lv_iload (pc := 70) hx hb dX12_decisionBy_70 (lv_at hl 8 rfl) ?_
    refine lv_ishl (pc := 72) hx hb dX12_decisionBy_72 ?_
    refine lv_ior (pc := 73) hx hb dX12_decisionBy_73 ?_
    refine lv_topi (fun v2_74 ev2_74 => ?_)
    have h := h v2_74 ev2_74
    refine lv_istore_n (pc := 74) (lv' := [(2, .int v2_74), (3, .int (v3 + 1)), (4, .int t0), (0, .ref (g_ad G 87)), (1, .int a1), (5, .int v5), (6, .int v6), (7, .int v7), (8, .int v8)]) hx hb dX12_decisionBy_74 rfl hl (by decide) rfl (fun ls hl => ?_)
    refine lv_iload (pc := 75) hx hb dX12_decisionBy_75 (lv_at hl 8 rfl) ?_
    refine lv_if_ne (pc := 77) (tgt := 94) hx hb dX12_decisionBy_77 (by decide) (fun c77 => ?_) (fun c77 => ?_)
    · have h := h.2 c77
      refine lv_iload (pc := 94) hx hb dX12_decisionBy_94 (lv_at hl 5 rfl) ?_
      exact h _ _ _ hM (lv_sub hl [3, 4, 0, 1, 2, 6, 7, 8] rfl)
    · have h := h.1 c77
      refine lv_iload (pc := 80) hx hb dX12_decisionBy_80 (lv_at hl 5 rfl) ?_
      refine lv_if_ge (pc := 82) (tgt := 94) hx hb dX12_decisionBy_82 (by decide) (fun c82 => ?_) (fun c82 => ?_)
      · have h := h.1 c82
        refine lv_iload (pc := 94) hx hb dX12_decisionBy_94 (lv_at hl 5 rfl) ?_
        exact h _ _ _ hM (lv_sub hl [3, 4, 0, 1, 2, 6, 7, 8] rfl)
      · have h := h.2 c82
        refine lv_aload_n (pc := 85) hx hb dX12_decisionBy_85 rfl (lv_at hl 3 rfl) ?_
        refine g_get (pc := 86) (v := .ref (g_ad G 95)) C hM (by decide) ce_87 fl_RX12_31 rfl dX12_decisionBy_86 ?_
        refine lv_iconst (pc := 89) (v := 0) hx hb dX12_decisionBy_89 (by decide) ?_
        refine g_ialdK (pc := 90) (k := 0) C hM (by decide) ce_95 (vp_in_nI (n := 0) (by decide) (by decide)) rfl dX12_decisionBy_90 ?_
        refine lv_goto (pc := 91) (tgt := 96) hx hb dX12_decisionBy_91 (by decide) ?_
        exact h _ _ _ hM (lv_sub hl [3, 4, 0, 1, 2, 6, 7, 8] rfl))
  have h := h (by
    intro v2 v3 v4 v6 v7 v8 t0 σ h  H locs ls hM hl
    refine lv_istore (pc := 96) (lv' := [(5, .int t0), (0, .ref (g_ad G 87)), (1, .int a1), (2, .int v2), (3, .int v3), (4, .int v4), (6, .int v6), (7, .int v7), (8, .int v8)]) hx hb dX12_decisionBy_96 hl (by decide) rfl (fun ls hl => ?_)
    refine lv_iload (pc := 98) hx hb dX12_decisionBy_98 (lv_at hl 8 rfl) ?_
    refine lv_iconst (pc := 100) (v := 1) hx hb dX12_decisionBy_100 (by decide) ?_
    refine lv_icmp_ne (pc := 101) (tgt := 118) hx hb dX12_decisionBy_101 (by decide) (fun c101 => ?_) (fun c101 => ?_)
    · have h := h.2 c101
      refine lv_iload (pc := 118) hx hb dX12_decisionBy_118 (lv_at hl 6 rfl) ?_
      refine lv_istore (pc := 120) (lv' := [(6, .int v6), (5, .int t0), (0, .ref (g_ad G 87)), (1, .int a1), (2, .int v2), (3, .int v3), (4, .int v4), (7, .int v7), (8, .int v8)]) hx hb dX12_decisionBy_120 hl (by decide) rfl (fun ls hl => ?_)
      refine lv_iinc (pc := 122) (v := (v7 + 1)) (lv' := [(7, .int (v7 + 1)), (6, .int v6), (5, .int t0), (0, .ref (g_ad G 87)), (1, .int a1), (2, .int v2), (3, .int v3), (4, .int v4), (8, .int v8)]) hx hb dX12_decisionBy_122 hl (k := 7) rfl (by rfl) (by decide) rfl (fun ls hl => ?_)
      refine lv_goto (pc := 125) (tgt := 16) hx hb dX12_decisionBy_125 (by decide) ?_
      exact h _ _ _ hM (lv_sub hl [3, 4, 5, 6, 7, 2, 1, 0] rfl)
    · have h := h.1 c101
      refine lv_iload (pc := 104) hx hb dX12_decisionBy_104 (lv_at hl 6 rfl) ?_
      refine lv_if_ge (pc := 106) (tgt := 118) hx hb dX12_decisionBy_106 (by decide) (fun c106 => ?_) (fun c106 => ?_)
      · have h := h.1 c106
        refine lv_iload (pc := 118) hx hb dX12_decisionBy_118 (lv_at hl 6 rfl) ?_
        refine lv_istore (pc := 120) (lv' := [(6, .int v6), (5, .int t0), (0, .ref (g_ad G 87)), (1, .int a1), (2, .int v2), (3, .int v3), (4, .int v4), (7, .int v7), (8, .int v8)]) hx hb dX12_decisionBy_120 hl (by decide) rfl (fun ls hl => ?_)
        refine lv_iinc (pc := 122) (v := (v7 + 1)) (lv' := [(7, .int (v7 + 1)), (6, .int v6), (5, .int t0), (0, .ref (g_ad G 87)), (1, .int a1), (2, .int v2), (3, .int v3), (4, .int v4), (8, .int v8)]) hx hb dX12_decisionBy_122 hl (k := 7) rfl (by rfl) (by decide) rfl (fun ls hl => ?_)
        refine lv_goto (pc := 125) (tgt := 16) hx hb dX12_decisionBy_125 (by decide) ?_
        exact h _ _ _ hM (lv_sub hl [3, 4, 5, 6, 7, 2, 1, 0] rfl)
      · have h := h.2 c106
        refine lv_aload_n (pc := 109) hx hb dX12_decisionBy_109 rfl (lv_at hl 1 rfl) ?_
        refine g_get (pc := 110) (v := .ref (g_ad G 95)) C hM (by decide) ce_87 fl_RX12_31 rfl dX12_decisionBy_110 ?_
        refine lv_iconst (pc := 113) (v := 1) hx hb dX12_decisionBy_113 (by decide) ?_
        refine g_ialdK (pc := 114) (k := 1) C hM (by decide) ce_95 (vp_in_nI (n := 1) (by decide) (by decide)) rfl dX12_decisionBy_114 ?_
        refine lv_goto (pc := 115) (tgt := 120) hx hb dX12_decisionBy_115 (by decide) ?_
        refine lv_istore (pc := 120) (lv' := [(6, .int (σ 95 1)), (5, .int t0), (0, .ref (g_ad G 87)), (1, .int a1), (2, .int v2), (3, .int v3), (4, .int v4), (7, .int v7), (8, .int v8)]) hx hb dX12_decisionBy_120 hl (by decide) rfl (fun ls hl => ?_)
        refine lv_iinc (pc := 122) (v := (v7 + 1)) (lv' := [(7, .int (v7 + 1)), (6, .int (σ 95 1)), (5, .int t0), (0, .ref (g_ad G 87)), (1, .int a1), (2, .int v2), (3, .int v3), (4, .int v4), (8, .int v8)]) hx hb dX12_decisionBy_122 hl (k := 7) rfl (by rfl) (by decide) rfl (fun ls hl => ?_)
        refine lv_goto (pc := 125) (tgt := 16) hx hb dX12_decisionBy_125 (by decide) ?_
        exact h _ _ _ hM (lv_sub hl [3, 4, 5, 6, 7, 2, 1, 0] rfl))
  refine lv_iconst (pc := 0) (v := 0) hx hb dX12_decisionBy_0 (by decide) ?_
  refine lv_istore_n (pc := 1) (lv' := [(2, .int 0), (0, .ref (g_ad G 87)), (1, .int a1)]) hx hb dX12_decisionBy_1 rfl hl (by decide) rfl (fun ls hl => ?_)
  refine lv_iconst (pc := 2) (v := 0) hx hb dX12_decisionBy_2 (by decide) ?_
  refine lv_istore_n (pc := 3) (lv' := [(3, .int 0), (2, .int 0), (0, .ref (g_ad G 87)), (1, .int a1)]) hx hb dX12_decisionBy_3 rfl hl (by decide) rfl (fun ls hl => ?_)
  refine lv_iconst (pc := 4) (v := 2) hx hb dX12_decisionBy_4 (by decide) ?_
  refine lv_istore (pc := 5) (lv' := [(4, .int 2), (3, .int 0), (2, .int 0), (0, .ref (g_ad G 87)), (1, .int a1)]) hx hb dX12_decisionBy_5 hl (by decide) rfl (fun ls hl => ?_)
  refine lv_iconst (pc := 7) (v := (-1)) hx hb dX12_decisionBy_7 (by decide) ?_
  refine lv_istore (pc := 8) (lv' := [(5, .int (-1)), (4, .int 2), (3, .int 0), (2, .int 0), (0, .ref (g_ad G 87)), (1, .int a1)]) hx hb dX12_decisionBy_8 hl (by decide) rfl (fun ls hl => ?_)
  refine lv_iconst (pc := 10) (v := (-1)) hx hb dX12_decisionBy_10 (by decide) ?_
  refine lv_istore (pc := 11) (lv' := [(6, .int (-1)), (5, .int (-1)), (4, .int 2), (3, .int 0), (2, .int 0), (0, .ref (g_ad G 87)), (1, .int a1)]) hx hb dX12_decisionBy_11 hl (by decide) rfl (fun ls hl => ?_)
  refine lv_iconst (pc := 13) (v := 0) hx hb dX12_decisionBy_13 (by decide) ?_
  refine lv_istore (pc := 14) (lv' := [(7, .int 0), (6, .int (-1)), (5, .int (-1)), (4, .int 2), (3, .int 0), (2, .int 0), (0, .ref (g_ad G 87)), (1, .int a1)]) hx hb dX12_decisionBy_14 hl (by decide) rfl (fun ls hl => ?_)
  exact h _ _ _ hM (lv_sub hl [6, 7, 5, 4, 3, 2, 1, 0] rfl)
abbrev rm_X12_givesValues : Room := { frames := 3, cells := 0, slots := 0, locals := 67 }
theorem dX12_givesValues_0 : decode cX12_givesValues 0 = .ok (.aload_n 0, 1) := by decide +kernel
theorem dX12_givesValues_1 : decode cX12_givesValues 1 = .ok (.invokevirtual 171, 3) := by decide +kernel
theorem dX12_givesValues_4 : decode cX12_givesValues 4 = .ok (.iconst 0, 1) := by decide +kernel
theorem dX12_givesValues_5 : decode cX12_givesValues 5 = .ok (.istore_n 1, 1) := by decide +kernel
theorem dX12_givesValues_6 : decode cX12_givesValues 6 = .ok (.iload_n 1, 1) := by decide +kernel
theorem dX12_givesValues_7 : decode cX12_givesValues 7 = .ok (.bipush 6, 2) := by decide +kernel
theorem dX12_givesValues_9 : decode cX12_givesValues 9 = .ok (.if_icmp .ge 21, 3) := by decide +kernel
theorem dX12_givesValues_12 : decode cX12_givesValues 12 = .ok (.aload_n 0, 1) := by decide +kernel
theorem dX12_givesValues_13 : decode cX12_givesValues 13 = .ok (.getfield 28, 3) := by decide +kernel
theorem dX12_givesValues_16 : decode cX12_givesValues 16 = .ok (.iload_n 1, 1) := by decide +kernel
theorem dX12_givesValues_17 : decode cX12_givesValues 17 = .ok (.aload_n 0, 1) := by decide +kernel
theorem dX12_givesValues_18 : decode cX12_givesValues 18 = .ok (.getfield 19, 3) := by decide +kernel
theorem dX12_givesValues_21 : decode cX12_givesValues 21 = .ok (.iload_n 1, 1) := by decide +kernel
theorem dX12_givesValues_22 : decode cX12_givesValues 22 = .ok (.iaload, 1) := by decide +kernel
theorem dX12_givesValues_23 : decode cX12_givesValues 23 = .ok (.iastore, 1) := by decide +kernel
theorem dX12_givesValues_24 : decode cX12_givesValues 24 = .ok (.iinc 1 1, 3) := by decide +kernel
theorem dX12_givesValues_27 : decode cX12_givesValues 27 = .ok (.goto (-21), 3) := by decide +kernel
theorem dX12_givesValues_30 : decode cX12_givesValues 30 = .ok (.return_, 1) := by decide +kernel
set_option maxHeartbeats 4000000 in
set_option maxRecDepth 100000 in
theorem w_X12_givesValues (l : Launch) (G : GP) (x : XP) (σ : Sto) (P : Sto → Prop) (h : D_X12_givesValues  σ P) : g_Metv l yX12_givesValues cX12_givesValues 2 rm_X12_givesValues G x [.ref (g_ad G 87)] σ P := by
  unfold D_X12_givesValues at h
  refine g_ofWv (by decide +kernel) (Nat.le_of_ble_eq_true rfl) ?_
  intro p e s m args below meth c Q ls C hM hl hret
  have hx := C.1
  have hb := C.2.1
  have hl : lv_has ls 2 [(0, .ref (g_ad G 87))] := hl
  have h := h (fun (v1 : Int32) (σ : Sto) => ∀ (H : Heap) (locs : List Loc) (ls : Array Slot), g_M G x σ s H locs → lv_has ls 2 [(0, .ref (g_ad G 87)), (1, .int v1)] → W p l e rm_X12_givesValues s m args below meth c H locs 0 0 Q (F0 m 6 ls []))
  have h := h (by
    intro v1 σ h  H locs ls hM hl
    refine lv_iload_n (pc := 6) hx hb dX12_givesValues_6 rfl (lv_at hl 1 rfl) ?_
    refine lv_bipush (pc := 7) (v := 6) hx hb dX12_givesValues_7 (by decide) ?_
    refine lv_icmp_ge (pc := 9) (tgt := 30) hx hb dX12_givesValues_9 (by decide) (fun c9 => ?_) (fun c9 => ?_)
    · have h := h.1 c9
      exact hret 30 _ _ _ _ dX12_givesValues_30 h hM
    · have h := h.2 c9
      refine lv_aload_n (pc := 12) hx hb dX12_givesValues_12 rfl (lv_at hl 0 rfl) ?_
      refine g_get (pc := 13) (v := .ref (g_ad G 94)) C hM (by decide) ce_87 fl_RX12_28 rfl dX12_givesValues_13 ?_
      refine lv_iload_n (pc := 16) hx hb dX12_givesValues_16 rfl (lv_at hl 1 rfl) ?_
      refine lv_aload_n (pc := 17) hx hb dX12_givesValues_17 rfl (lv_at hl 0 rfl) ?_
      refine g_get (pc := 18) (v := .ref (g_ad G 91)) C hM (by decide) ce_87 fl_RX12_19 rfl dX12_givesValues_18 ?_
      refine lv_iload_n (pc := 21) hx hb dX12_givesValues_21 rfl (lv_at hl 1 rfl) ?_
      obtain ⟨hc, h⟩ := h
      refine g_ialdK (pc := 22) C hM (by decide) ce_91 hc rfl dX12_givesValues_22 ?_
      obtain ⟨hc, h⟩ := h
      refine g_iastE (pc := 23) C hM (by decide) ce_94 hc rfl dX12_givesValues_23 (fun s23 es23 H locs hM => ?_)
      have h := h s23 es23
      refine lv_iinc (pc := 24) (v := (v1 + 1)) (lv' := [(1, .int (v1 + 1)), (0, .ref (g_ad G 87))]) hx hb dX12_givesValues_24 hl (k := 1) rfl (by rfl) (by decide) rfl (fun ls hl => ?_)
      refine lv_goto (pc := 27) (tgt := 6) hx hb dX12_givesValues_27 (by decide) ?_
      exact h _ _ _ hM (lv_sub hl [1, 0] rfl))
  refine lv_aload_n (pc := 0) hx hb dX12_givesValues_0 rfl (lv_at hl 0 rfl) ?_
  refine g_cVv (pc := 1) C hM hl.1 yv_X12_laySets q7_44 (by decide) ce_87 rfl (w_X12_laySets l G x  σ _ h) rfl rfl ⟨⟨by decide, by decide⟩, by decide, by decide⟩ (Nat.le_of_ble_eq_true rfl) dX12_givesValues_1 (fun s1 H locs h hM => ?_)
  refine lv_iconst (pc := 4) (v := 0) hx hb dX12_givesValues_4 (by decide) ?_
  refine lv_istore_n (pc := 5) (lv' := [(1, .int 0), (0, .ref (g_ad G 87))]) hx hb dX12_givesValues_5 rfl hl (by decide) rfl (fun ls hl => ?_)
  exact h _ _ _ hM (lv_sub hl [1, 0] rfl)
abbrev rm_X12_decided : Room := { frames := 4, cells := 0, slots := 0, locals := 95 }
theorem dX12_decided_0 : decode cX12_decided 0 = .ok (.aload_n 0, 1) := by decide +kernel
theorem dX12_decided_1 : decode cX12_decided 1 = .ok (.invokevirtual 192, 3) := by decide +kernel
theorem dX12_decided_4 : decode cX12_decided 4 = .ok (.aload_n 0, 1) := by decide +kernel
theorem dX12_decided_5 : decode cX12_decided 5 = .ok (.aload_n 0, 1) := by decide +kernel
theorem dX12_decided_6 : decode cX12_decided 6 = .ok (.aload_n 0, 1) := by decide +kernel
theorem dX12_decided_7 : decode cX12_decided 7 = .ok (.getfield 165, 3) := by decide +kernel
theorem dX12_decided_10 : decode cX12_decided 10 = .ok (.invokevirtual 159, 3) := by decide +kernel
theorem dX12_decided_13 : decode cX12_decided 13 = .ok (.invokevirtual 195, 3) := by decide +kernel
theorem dX12_decided_16 : decode cX12_decided 16 = .ok (.ireturn, 1) := by decide +kernel
set_option maxHeartbeats 4000000 in
set_option maxRecDepth 100000 in
theorem w_X12_decided (l : Launch) (G : GP) (x : XP) (σ : Sto) (P : Int32 → Sto → Prop) (h : D_X12_decided  σ P) : g_Meti l yX12_decided cX12_decided 1 (some .int) rm_X12_decided G x [.ref (g_ad G 87)] σ P := by
  unfold D_X12_decided at h
  refine g_ofWi (by decide +kernel) (Nat.le_of_ble_eq_true rfl) ?_
  intro p e s m args below meth c Q ls C hM hl hret
  have hx := C.1
  have hb := C.2.1
  have hl : lv_has ls 1 [(0, .ref (g_ad G 87))] := hl
  refine lv_aload_n (pc := 0) hx hb dX12_decided_0 rfl (lv_at hl 0 rfl) ?_
  refine g_cVv (pc := 1) C hM hl.1 yv_X12_givesValues q7_60 (by decide) ce_87 rfl (w_X12_givesValues l G x  σ _ h) rfl rfl ⟨⟨by decide, by decide⟩, by decide, by decide⟩ (Nat.le_of_ble_eq_true rfl) dX12_decided_1 (fun s1 H locs h hM => ?_)
  refine lv_aload_n (pc := 4) hx hb dX12_decided_4 rfl (lv_at hl 0 rfl) ?_
  refine lv_aload_n (pc := 5) hx hb dX12_decided_5 rfl (lv_at hl 0 rfl) ?_
  refine lv_aload_n (pc := 6) hx hb dX12_decided_6 rfl (lv_at hl 0 rfl) ?_
  refine g_get (pc := 7) (v := .int (s1 87 6)) C hM (by decide) ce_87 fl_RX12_165 rfl dX12_decided_7 ?_
  refine g_cVi (pc := 10) C hM hl.1 yv_X12_usedBy q6_236 (by decide) ce_87 rfl (w_X12_usedBy l G x (s1 87 6) s1 _ h) rfl rfl ⟨⟨by decide, by decide⟩, by decide, by decide⟩ (Nat.le_of_ble_eq_true rfl) dX12_decided_10 (fun r10 s10 H locs h hM => ?_)
  refine g_cVi (pc := 13) C hM hl.1 yv_X12_decisionBy q7_64 (by decide) ce_87 rfl (w_X12_decisionBy l G x r10 s10 _ h) rfl rfl ⟨⟨by decide, by decide⟩, by decide, by decide⟩ (Nat.le_of_ble_eq_true rfl) dX12_decided_13 (fun r13 s13 H locs h hM => ?_)
  exact hret 16 _ _ _ _ _ dX12_decided_16 (by rfl) h hM
abbrev rm_X12_decide : Room := { frames := 5, cells := 0, slots := 0, locals := 115 }
theorem dX12_decide_0 : decode cX12_decide 0 = .ok (.aload_n 0, 1) := by decide +kernel
theorem dX12_decide_1 : decode cX12_decide 1 = .ok (.iconst 0, 1) := by decide +kernel
theorem dX12_decide_2 : decode cX12_decide 2 = .ok (.putfield 68, 3) := by decide +kernel
theorem dX12_decide_5 : decode cX12_decide 5 = .ok (.aload_n 0, 1) := by decide +kernel
theorem dX12_decide_6 : decode cX12_decide 6 = .ok (.invokevirtual 168, 3) := by decide +kernel
theorem dX12_decide_9 : decode cX12_decide 9 = .ok (.ifCond .eq 9, 3) := by decide +kernel
theorem dX12_decide_12 : decode cX12_decide 12 = .ok (.aload_n 0, 1) := by decide +kernel
theorem dX12_decide_13 : decode cX12_decide 13 = .ok (.iconst 1, 1) := by decide +kernel
theorem dX12_decide_14 : decode cX12_decide 14 = .ok (.invokevirtual 78, 3) := by decide +kernel
theorem dX12_decide_17 : decode cX12_decide 17 = .ok (.ireturn, 1) := by decide +kernel
theorem dX12_decide_18 : decode cX12_decide 18 = .ok (.aload_n 0, 1) := by decide +kernel
theorem dX12_decide_19 : decode cX12_decide 19 = .ok (.invokevirtual 198, 3) := by decide +kernel
theorem dX12_decide_22 : decode cX12_decide 22 = .ok (.istore_n 1, 1) := by decide +kernel
theorem dX12_decide_23 : decode cX12_decide 23 = .ok (.aload_n 0, 1) := by decide +kernel
theorem dX12_decide_24 : decode cX12_decide 24 = .ok (.getfield 201, 3) := by decide +kernel
theorem dX12_decide_27 : decode cX12_decide 27 = .ok (.bipush 30, 2) := by decide +kernel
theorem dX12_decide_29 : decode cX12_decide 29 = .ok (.if_icmp .ne 41, 3) := by decide +kernel
theorem dX12_decide_32 : decode cX12_decide 32 = .ok (.iconst 0, 1) := by decide +kernel
theorem dX12_decide_33 : decode cX12_decide 33 = .ok (.istore_n 2, 1) := by decide +kernel
theorem dX12_decide_34 : decode cX12_decide 34 = .ok (.iload_n 2, 1) := by decide +kernel
theorem dX12_decide_35 : decode cX12_decide 35 = .ok (.bipush 116, 2) := by decide +kernel
theorem dX12_decide_37 : decode cX12_decide 37 = .ok (.if_icmp .ge 23, 3) := by decide +kernel
theorem dX12_decide_40 : decode cX12_decide 40 = .ok (.aload_n 0, 1) := by decide +kernel
theorem dX12_decide_41 : decode cX12_decide 41 = .ok (.getfield 34, 3) := by decide +kernel
theorem dX12_decide_44 : decode cX12_decide 44 = .ok (.iload_n 2, 1) := by decide +kernel
theorem dX12_decide_45 : decode cX12_decide 45 = .ok (.aload_n 0, 1) := by decide +kernel
theorem dX12_decide_46 : decode cX12_decide 46 = .ok (.getfield 34, 3) := by decide +kernel
theorem dX12_decide_49 : decode cX12_decide 49 = .ok (.iload_n 2, 1) := by decide +kernel
theorem dX12_decide_50 : decode cX12_decide 50 = .ok (.iconst 4, 1) := by decide +kernel
theorem dX12_decide_51 : decode cX12_decide 51 = .ok (.iadd, 1) := by decide +kernel
theorem dX12_decide_52 : decode cX12_decide 52 = .ok (.iaload, 1) := by decide +kernel
theorem dX12_decide_53 : decode cX12_decide 53 = .ok (.iastore, 1) := by decide +kernel
theorem dX12_decide_54 : decode cX12_decide 54 = .ok (.iinc 2 1, 3) := by decide +kernel
theorem dX12_decide_57 : decode cX12_decide 57 = .ok (.goto (-23), 3) := by decide +kernel
theorem dX12_decide_60 : decode cX12_decide 60 = .ok (.aload_n 0, 1) := by decide +kernel
theorem dX12_decide_61 : decode cX12_decide 61 = .ok (.dup, 1) := by decide +kernel
theorem dX12_decide_62 : decode cX12_decide 62 = .ok (.getfield 201, 3) := by decide +kernel
theorem dX12_decide_65 : decode cX12_decide 65 = .ok (.iconst 1, 1) := by decide +kernel
theorem dX12_decide_66 : decode cX12_decide 66 = .ok (.isub, 1) := by decide +kernel
theorem dX12_decide_67 : decode cX12_decide 67 = .ok (.putfield 201, 3) := by decide +kernel
theorem dX12_decide_70 : decode cX12_decide 70 = .ok (.aload_n 0, 1) := by decide +kernel
theorem dX12_decide_71 : decode cX12_decide 71 = .ok (.getfield 34, 3) := by decide +kernel
theorem dX12_decide_74 : decode cX12_decide 74 = .ok (.iconst 4, 1) := by decide +kernel
theorem dX12_decide_75 : decode cX12_decide 75 = .ok (.aload_n 0, 1) := by decide +kernel
theorem dX12_decide_76 : decode cX12_decide 76 = .ok (.getfield 201, 3) := by decide +kernel
theorem dX12_decide_79 : decode cX12_decide 79 = .ok (.imul, 1) := by decide +kernel
theorem dX12_decide_80 : decode cX12_decide 80 = .ok (.aload_n 0, 1) := by decide +kernel
theorem dX12_decide_81 : decode cX12_decide 81 = .ok (.getfield 149, 3) := by decide +kernel
theorem dX12_decide_84 : decode cX12_decide 84 = .ok (.iastore, 1) := by decide +kernel
theorem dX12_decide_85 : decode cX12_decide 85 = .ok (.aload_n 0, 1) := by decide +kernel
theorem dX12_decide_86 : decode cX12_decide 86 = .ok (.getfield 34, 3) := by decide +kernel
theorem dX12_decide_89 : decode cX12_decide 89 = .ok (.iconst 4, 1) := by decide +kernel
theorem dX12_decide_90 : decode cX12_decide 90 = .ok (.aload_n 0, 1) := by decide +kernel
theorem dX12_decide_91 : decode cX12_decide 91 = .ok (.getfield 201, 3) := by decide +kernel
theorem dX12_decide_94 : decode cX12_decide 94 = .ok (.imul, 1) := by decide +kernel
theorem dX12_decide_95 : decode cX12_decide 95 = .ok (.iconst 1, 1) := by decide +kernel
theorem dX12_decide_96 : decode cX12_decide 96 = .ok (.iadd, 1) := by decide +kernel
theorem dX12_decide_97 : decode cX12_decide 97 = .ok (.aload_n 0, 1) := by decide +kernel
theorem dX12_decide_98 : decode cX12_decide 98 = .ok (.getfield 165, 3) := by decide +kernel
theorem dX12_decide_101 : decode cX12_decide 101 = .ok (.iastore, 1) := by decide +kernel
theorem dX12_decide_102 : decode cX12_decide 102 = .ok (.aload_n 0, 1) := by decide +kernel
theorem dX12_decide_103 : decode cX12_decide 103 = .ok (.getfield 34, 3) := by decide +kernel
theorem dX12_decide_106 : decode cX12_decide 106 = .ok (.iconst 4, 1) := by decide +kernel
theorem dX12_decide_107 : decode cX12_decide 107 = .ok (.aload_n 0, 1) := by decide +kernel
theorem dX12_decide_108 : decode cX12_decide 108 = .ok (.getfield 201, 3) := by decide +kernel
theorem dX12_decide_111 : decode cX12_decide 111 = .ok (.imul, 1) := by decide +kernel
theorem dX12_decide_112 : decode cX12_decide 112 = .ok (.iconst 2, 1) := by decide +kernel
theorem dX12_decide_113 : decode cX12_decide 113 = .ok (.iadd, 1) := by decide +kernel
theorem dX12_decide_114 : decode cX12_decide 114 = .ok (.iload_n 1, 1) := by decide +kernel
theorem dX12_decide_115 : decode cX12_decide 115 = .ok (.iastore, 1) := by decide +kernel
theorem dX12_decide_116 : decode cX12_decide 116 = .ok (.aload_n 0, 1) := by decide +kernel
theorem dX12_decide_117 : decode cX12_decide 117 = .ok (.getfield 34, 3) := by decide +kernel
theorem dX12_decide_120 : decode cX12_decide 120 = .ok (.iconst 4, 1) := by decide +kernel
theorem dX12_decide_121 : decode cX12_decide 121 = .ok (.aload_n 0, 1) := by decide +kernel
theorem dX12_decide_122 : decode cX12_decide 122 = .ok (.getfield 201, 3) := by decide +kernel
theorem dX12_decide_125 : decode cX12_decide 125 = .ok (.imul, 1) := by decide +kernel
theorem dX12_decide_126 : decode cX12_decide 126 = .ok (.iconst 3, 1) := by decide +kernel
theorem dX12_decide_127 : decode cX12_decide 127 = .ok (.iadd, 1) := by decide +kernel
theorem dX12_decide_128 : decode cX12_decide 128 = .ok (.aload_n 0, 1) := by decide +kernel
theorem dX12_decide_129 : decode cX12_decide 129 = .ok (.getfield 189, 3) := by decide +kernel
theorem dX12_decide_132 : decode cX12_decide 132 = .ok (.iastore, 1) := by decide +kernel
theorem dX12_decide_133 : decode cX12_decide 133 = .ok (.aload_n 0, 1) := by decide +kernel
theorem dX12_decide_134 : decode cX12_decide 134 = .ok (.dup, 1) := by decide +kernel
theorem dX12_decide_135 : decode cX12_decide 135 = .ok (.getfield 201, 3) := by decide +kernel
theorem dX12_decide_138 : decode cX12_decide 138 = .ok (.iconst 1, 1) := by decide +kernel
theorem dX12_decide_139 : decode cX12_decide 139 = .ok (.iadd, 1) := by decide +kernel
theorem dX12_decide_140 : decode cX12_decide 140 = .ok (.putfield 201, 3) := by decide +kernel
theorem dX12_decide_143 : decode cX12_decide 143 = .ok (.iload_n 1, 1) := by decide +kernel
theorem dX12_decide_144 : decode cX12_decide 144 = .ok (.ireturn, 1) := by decide +kernel
set_option maxHeartbeats 4000000 in
set_option maxRecDepth 100000 in
theorem w_X12_decide (l : Launch) (G : GP) (x : XP) (σ : Sto) (P : Int32 → Sto → Prop) (h : D_X12_decide  σ P) : g_Meti l yX12_decide cX12_decide 3 (some .int) rm_X12_decide G x [.ref (g_ad G 87)] σ P := by
  unfold D_X12_decide at h
  refine g_ofWi (by decide +kernel) (Nat.le_of_ble_eq_true rfl) ?_
  intro p e s m args below meth c Q ls C hM hl hret
  have hx := C.1
  have hb := C.2.1
  have hl : lv_has ls 3 [(0, .ref (g_ad G 87))] := hl
  have h := h (fun (v1 : Int32) (v2 : Int32) (σ : Sto) => ∀ (H : Heap) (locs : List Loc) (ls : Array Slot), g_M G x σ s H locs → lv_has ls 3 [(0, .ref (g_ad G 87)), (1, .int v1), (2, .int v2)] → W p l e rm_X12_decide s m args below meth c H locs 0 0 Q (F0 m 34 ls [])) (fun (v1 : Int32) (σ : Sto) => ∀ (H : Heap) (locs : List Loc) (ls : Array Slot), g_M G x σ s H locs → lv_has ls 3 [(0, .ref (g_ad G 87)), (1, .int v1)] → W p l e rm_X12_decide s m args below meth c H locs 0 0 Q (F0 m 70 ls []))
  have h := h (by
    intro v1 v2 σ h  H locs ls hM hl
    refine lv_iload_n (pc := 34) hx hb dX12_decide_34 rfl (lv_at hl 2 rfl) ?_
    refine lv_bipush (pc := 35) (v := 116) hx hb dX12_decide_35 (by decide) ?_
    refine lv_icmp_ge (pc := 37) (tgt := 60) hx hb dX12_decide_37 (by decide) (fun c37 => ?_) (fun c37 => ?_)
    · have h := h.1 c37
      refine lv_aload_n (pc := 60) hx hb dX12_decide_60 rfl (lv_at hl 0 rfl) ?_
      refine lv_dup (pc := 61) hx hb dX12_decide_61 rfl ?_
      refine g_get (pc := 62) (v := .int (σ 87 16)) C hM (by decide) ce_87 fl_RX12_201 rfl dX12_decide_62 ?_
      refine lv_iconst (pc := 65) (v := 1) hx hb dX12_decide_65 (by decide) ?_
      refine lv_isub (pc := 66) hx hb dX12_decide_66 ?_
      refine g_putE (pc := 67) C hM (by decide) ce_87 fp_RX12_201 rfl rfl (Nat.le_of_ble_eq_true rfl) rfl dX12_decide_67 (fun s67 es67 H locs hM => ?_)
      have h := h s67 es67
      exact h _ _ _ hM (lv_sub hl [0, 1] rfl)
    · have h := h.2 c37
      refine lv_aload_n (pc := 40) hx hb dX12_decide_40 rfl (lv_at hl 0 rfl) ?_
      refine g_get (pc := 41) (v := .ref (g_ad G 96)) C hM (by decide) ce_87 fl_RX12_34 rfl dX12_decide_41 ?_
      refine lv_iload_n (pc := 44) hx hb dX12_decide_44 rfl (lv_at hl 2 rfl) ?_
      refine lv_aload_n (pc := 45) hx hb dX12_decide_45 rfl (lv_at hl 0 rfl) ?_
      refine g_get (pc := 46) (v := .ref (g_ad G 96)) C hM (by decide) ce_87 fl_RX12_34 rfl dX12_decide_46 ?_
      refine lv_iload_n (pc := 49) hx hb dX12_decide_49 rfl (lv_at hl 2 rfl) ?_
      refine lv_iconst (pc := 50) (v := 4) hx hb dX12_decide_50 (by decide) ?_
      refine lv_iadd (pc := 51) hx hb dX12_decide_51 ?_
      obtain ⟨hc, h⟩ := h
      refine g_ialdK (pc := 52) C hM (by decide) ce_96 hc rfl dX12_decide_52 ?_
      obtain ⟨hc, h⟩ := h
      refine g_iastE (pc := 53) C hM (by decide) ce_96 hc rfl dX12_decide_53 (fun s53 es53 H locs hM => ?_)
      have h := h s53 es53
      refine lv_iinc (pc := 54) (v := (v2 + 1)) (lv' := [(2, .int (v2 + 1)), (0, .ref (g_ad G 87)), (1, .int v1)]) hx hb dX12_decide_54 hl (k := 2) rfl (by rfl) (by decide) rfl (fun ls hl => ?_)
      refine lv_goto (pc := 57) (tgt := 34) hx hb dX12_decide_57 (by decide) ?_
      exact h _ _ _ hM (lv_sub hl [1, 2, 0] rfl))
  have h := h (by
    intro v1 σ h  H locs ls hM hl
    refine lv_aload_n (pc := 70) hx hb dX12_decide_70 rfl (lv_at hl 0 rfl) ?_
    refine g_get (pc := 71) (v := .ref (g_ad G 96)) C hM (by decide) ce_87 fl_RX12_34 rfl dX12_decide_71 ?_
    refine lv_iconst (pc := 74) (v := 4) hx hb dX12_decide_74 (by decide) ?_
    refine lv_aload_n (pc := 75) hx hb dX12_decide_75 rfl (lv_at hl 0 rfl) ?_
    refine g_get (pc := 76) (v := .int (σ 87 16)) C hM (by decide) ce_87 fl_RX12_201 rfl dX12_decide_76 ?_
    refine lv_imul (pc := 79) hx hb dX12_decide_79 ?_
    refine lv_aload_n (pc := 80) hx hb dX12_decide_80 rfl (lv_at hl 0 rfl) ?_
    refine g_get (pc := 81) (v := .int (σ 87 5)) C hM (by decide) ce_87 fl_RX12_149 rfl dX12_decide_81 ?_
    obtain ⟨hc, h⟩ := h
    refine g_iastE (pc := 84) C hM (by decide) ce_96 hc rfl dX12_decide_84 (fun s84 es84 H locs hM => ?_)
    have h := h s84 es84
    refine lv_aload_n (pc := 85) hx hb dX12_decide_85 rfl (lv_at hl 0 rfl) ?_
    refine g_get (pc := 86) (v := .ref (g_ad G 96)) C hM (by decide) ce_87 fl_RX12_34 rfl dX12_decide_86 ?_
    refine lv_iconst (pc := 89) (v := 4) hx hb dX12_decide_89 (by decide) ?_
    refine lv_aload_n (pc := 90) hx hb dX12_decide_90 rfl (lv_at hl 0 rfl) ?_
    refine g_get (pc := 91) (v := .int (s84 87 16)) C hM (by decide) ce_87 fl_RX12_201 rfl dX12_decide_91 ?_
    refine lv_imul (pc := 94) hx hb dX12_decide_94 ?_
    refine lv_iconst (pc := 95) (v := 1) hx hb dX12_decide_95 (by decide) ?_
    refine lv_iadd (pc := 96) hx hb dX12_decide_96 ?_
    refine lv_aload_n (pc := 97) hx hb dX12_decide_97 rfl (lv_at hl 0 rfl) ?_
    refine g_get (pc := 98) (v := .int (s84 87 6)) C hM (by decide) ce_87 fl_RX12_165 rfl dX12_decide_98 ?_
    obtain ⟨hc, h⟩ := h
    refine g_iastE (pc := 101) C hM (by decide) ce_96 hc rfl dX12_decide_101 (fun s101 es101 H locs hM => ?_)
    have h := h s101 es101
    refine lv_aload_n (pc := 102) hx hb dX12_decide_102 rfl (lv_at hl 0 rfl) ?_
    refine g_get (pc := 103) (v := .ref (g_ad G 96)) C hM (by decide) ce_87 fl_RX12_34 rfl dX12_decide_103 ?_
    refine lv_iconst (pc := 106) (v := 4) hx hb dX12_decide_106 (by decide) ?_
    refine lv_aload_n (pc := 107) hx hb dX12_decide_107 rfl (lv_at hl 0 rfl) ?_
    refine g_get (pc := 108) (v := .int (s101 87 16)) C hM (by decide) ce_87 fl_RX12_201 rfl dX12_decide_108 ?_
    refine lv_imul (pc := 111) hx hb dX12_decide_111 ?_
    refine lv_iconst (pc := 112) (v := 2) hx hb dX12_decide_112 (by decide) ?_
    refine lv_iadd (pc := 113) hx hb dX12_decide_113 ?_
    refine lv_iload_n (pc := 114) hx hb dX12_decide_114 rfl (lv_at hl 1 rfl) ?_
    obtain ⟨hc, h⟩ := h
    refine g_iastE (pc := 115) C hM (by decide) ce_96 hc rfl dX12_decide_115 (fun s115 es115 H locs hM => ?_)
    have h := h s115 es115
    refine lv_aload_n (pc := 116) hx hb dX12_decide_116 rfl (lv_at hl 0 rfl) ?_
    refine g_get (pc := 117) (v := .ref (g_ad G 96)) C hM (by decide) ce_87 fl_RX12_34 rfl dX12_decide_117 ?_
    refine lv_iconst (pc := 120) (v := 4) hx hb dX12_decide_120 (by decide) ?_
    refine lv_aload_n (pc := 121) hx hb dX12_decide_121 rfl (lv_at hl 0 rfl) ?_
    refine g_get (pc := 122) (v := .int (s115 87 16)) C hM (by decide) ce_87 fl_RX12_201 rfl dX12_decide_122 ?_
    refine lv_imul (pc := 125) hx hb dX12_decide_125 ?_
    refine lv_iconst (pc := 126) (v := 3) hx hb dX12_decide_126 (by decide) ?_
    refine lv_iadd (pc := 127) hx hb dX12_decide_127 ?_
    refine lv_aload_n (pc := 128) hx hb dX12_decide_128 rfl (lv_at hl 0 rfl) ?_
    refine g_get (pc := 129) (v := .int (s115 87 14)) C hM (by decide) ce_87 fl_RX12_189 rfl dX12_decide_129 ?_
    obtain ⟨hc, h⟩ := h
    refine g_iastE (pc := 132) C hM (by decide) ce_96 hc rfl dX12_decide_132 (fun s132 es132 H locs hM => ?_)
    have h := h s132 es132
    refine lv_aload_n (pc := 133) hx hb dX12_decide_133 rfl (lv_at hl 0 rfl) ?_
    refine lv_dup (pc := 134) hx hb dX12_decide_134 rfl ?_
    refine g_get (pc := 135) (v := .int (s132 87 16)) C hM (by decide) ce_87 fl_RX12_201 rfl dX12_decide_135 ?_
    refine lv_iconst (pc := 138) (v := 1) hx hb dX12_decide_138 (by decide) ?_
    refine lv_iadd (pc := 139) hx hb dX12_decide_139 ?_
    refine g_putE (pc := 140) C hM (by decide) ce_87 fp_RX12_201 rfl rfl (Nat.le_of_ble_eq_true rfl) rfl dX12_decide_140 (fun s140 es140 H locs hM => ?_)
    have h := h s140 es140
    refine lv_iload_n (pc := 143) hx hb dX12_decide_143 rfl (lv_at hl 1 rfl) ?_
    exact hret 144 _ _ _ _ _ dX12_decide_144 (by rfl) h hM)
  refine lv_aload_n (pc := 0) hx hb dX12_decide_0 rfl (lv_at hl 0 rfl) ?_
  refine lv_iconst (pc := 1) (v := 0) hx hb dX12_decide_1 (by decide) ?_
  refine g_putE (pc := 2) C hM (by decide) ce_87 fp_RX12_68 rfl rfl (Nat.le_of_ble_eq_true rfl) rfl dX12_decide_2 (fun s2 es2 H locs hM => ?_)
  have h := h s2 es2
  refine lv_aload_n (pc := 5) hx hb dX12_decide_5 rfl (lv_at hl 0 rfl) ?_
  refine g_cVi (pc := 6) C hM hl.1 yv_X12_unknownSet q7_36 (by decide) ce_87 rfl (w_X12_unknownSet l G x  s2 _ h) rfl rfl ⟨⟨by decide, by decide⟩, by decide, by decide⟩ (Nat.le_of_ble_eq_true rfl) dX12_decide_6 (fun r6 s6 H locs h hM => ?_)
  refine lv_if_eq (pc := 9) (tgt := 18) hx hb dX12_decide_9 (by decide) (fun c9 => ?_) (fun c9 => ?_)
  · have h := h.1 c9
    refine lv_aload_n (pc := 18) hx hb dX12_decide_18 rfl (lv_at hl 0 rfl) ?_
    refine g_cVi (pc := 19) C hM hl.1 yv_X12_decided q7_56 (by decide) ce_87 rfl (w_X12_decided l G x  s6 _ h) rfl rfl ⟨⟨by decide, by decide⟩, by decide, by decide⟩ (Nat.le_of_ble_eq_true rfl) dX12_decide_19 (fun r19 s19 H locs h hM => ?_)
    refine lv_istore_n (pc := 22) (lv' := [(1, .int r19), (0, .ref (g_ad G 87))]) hx hb dX12_decide_22 rfl hl (by decide) rfl (fun ls hl => ?_)
    refine lv_aload_n (pc := 23) hx hb dX12_decide_23 rfl (lv_at hl 1 rfl) ?_
    refine g_get (pc := 24) (v := .int (s19 87 16)) C hM (by decide) ce_87 fl_RX12_201 rfl dX12_decide_24 ?_
    refine lv_bipush (pc := 27) (v := 30) hx hb dX12_decide_27 (by decide) ?_
    refine lv_icmp_ne (pc := 29) (tgt := 70) hx hb dX12_decide_29 (by decide) (fun c29 => ?_) (fun c29 => ?_)
    · have h := h.2 c29
      exact h _ _ _ hM (lv_sub hl [1, 0] rfl)
    · have h := h.1 c29
      refine lv_iconst (pc := 32) (v := 0) hx hb dX12_decide_32 (by decide) ?_
      refine lv_istore_n (pc := 33) (lv' := [(2, .int 0), (1, .int r19), (0, .ref (g_ad G 87))]) hx hb dX12_decide_33 rfl hl (by decide) rfl (fun ls hl => ?_)
      exact h _ _ _ hM (lv_sub hl [2, 1, 0] rfl)
  · have h := h.2 c9
    refine lv_aload_n (pc := 12) hx hb dX12_decide_12 rfl (lv_at hl 0 rfl) ?_
    refine lv_iconst (pc := 13) (v := 1) hx hb dX12_decide_13 (by decide) ?_
    refine g_cVi (pc := 14) C hM hl.1 yv_X12_fails q6_89 (by decide) ce_87 rfl (w_X12_fails l G x 1 s6 _ h) rfl rfl ⟨⟨by decide, by decide⟩, by decide, by decide⟩ (Nat.le_of_ble_eq_true rfl) dX12_decide_14 (fun r14 s14 H locs h hM => ?_)
    exact hret 17 _ _ _ _ _ dX12_decide_17 (by rfl) h hM
abbrev rm_X12_decidingRule : Room := { frames := 5, cells := 0, slots := 0, locals := 115 }
theorem dX12_decidingRule_0 : decode cX12_decidingRule 0 = .ok (.aload_n 0, 1) := by decide +kernel
theorem dX12_decidingRule_1 : decode cX12_decidingRule 1 = .ok (.iconst 0, 1) := by decide +kernel
theorem dX12_decidingRule_2 : decode cX12_decidingRule 2 = .ok (.putfield 68, 3) := by decide +kernel
theorem dX12_decidingRule_5 : decode cX12_decidingRule 5 = .ok (.aload_n 0, 1) := by decide +kernel
theorem dX12_decidingRule_6 : decode cX12_decidingRule 6 = .ok (.invokevirtual 168, 3) := by decide +kernel
theorem dX12_decidingRule_9 : decode cX12_decidingRule 9 = .ok (.ifCond .eq 9, 3) := by decide +kernel
theorem dX12_decidingRule_12 : decode cX12_decidingRule 12 = .ok (.aload_n 0, 1) := by decide +kernel
theorem dX12_decidingRule_13 : decode cX12_decidingRule 13 = .ok (.iconst 1, 1) := by decide +kernel
theorem dX12_decidingRule_14 : decode cX12_decidingRule 14 = .ok (.invokevirtual 78, 3) := by decide +kernel
theorem dX12_decidingRule_17 : decode cX12_decidingRule 17 = .ok (.ireturn, 1) := by decide +kernel
theorem dX12_decidingRule_18 : decode cX12_decidingRule 18 = .ok (.aload_n 0, 1) := by decide +kernel
theorem dX12_decidingRule_19 : decode cX12_decidingRule 19 = .ok (.invokevirtual 198, 3) := by decide +kernel
theorem dX12_decidingRule_22 : decode cX12_decidingRule 22 = .ok (.pop, 1) := by decide +kernel
theorem dX12_decidingRule_23 : decode cX12_decidingRule 23 = .ok (.aload_n 0, 1) := by decide +kernel
theorem dX12_decidingRule_24 : decode cX12_decidingRule 24 = .ok (.getfield 189, 3) := by decide +kernel
theorem dX12_decidingRule_27 : decode cX12_decidingRule 27 = .ok (.ifCond .ge 11, 3) := by decide +kernel
theorem dX12_decidingRule_30 : decode cX12_decidingRule 30 = .ok (.aload_n 0, 1) := by decide +kernel
theorem dX12_decidingRule_31 : decode cX12_decidingRule 31 = .ok (.iconst 2, 1) := by decide +kernel
theorem dX12_decidingRule_32 : decode cX12_decidingRule 32 = .ok (.invokevirtual 78, 3) := by decide +kernel
theorem dX12_decidingRule_35 : decode cX12_decidingRule 35 = .ok (.goto 7, 3) := by decide +kernel
theorem dX12_decidingRule_38 : decode cX12_decidingRule 38 = .ok (.aload_n 0, 1) := by decide +kernel
theorem dX12_decidingRule_39 : decode cX12_decidingRule 39 = .ok (.getfield 189, 3) := by decide +kernel
theorem dX12_decidingRule_42 : decode cX12_decidingRule 42 = .ok (.ireturn, 1) := by decide +kernel
set_option maxHeartbeats 4000000 in
set_option maxRecDepth 100000 in
theorem w_X12_decidingRule (l : Launch) (G : GP) (x : XP) (σ : Sto) (P : Int32 → Sto → Prop) (h : D_X12_decidingRule  σ P) : g_Meti l yX12_decidingRule cX12_decidingRule 1 (some .int) rm_X12_decidingRule G x [.ref (g_ad G 87)] σ P := by
  unfold D_X12_decidingRule at h
  refine g_ofWi (by decide +kernel) (Nat.le_of_ble_eq_true rfl) ?_
  intro p e s m args below meth c Q ls C hM hl hret
  have hx := C.1
  have hb := C.2.1
  have hl : lv_has ls 1 [(0, .ref (g_ad G 87))] := hl
  refine lv_aload_n (pc := 0) hx hb dX12_decidingRule_0 rfl (lv_at hl 0 rfl) ?_
  refine lv_iconst (pc := 1) (v := 0) hx hb dX12_decidingRule_1 (by decide) ?_
  refine g_putE (pc := 2) C hM (by decide) ce_87 fp_RX12_68 rfl rfl (Nat.le_of_ble_eq_true rfl) rfl dX12_decidingRule_2 (fun s2 es2 H locs hM => ?_)
  have h := h s2 es2
  refine lv_aload_n (pc := 5) hx hb dX12_decidingRule_5 rfl (lv_at hl 0 rfl) ?_
  refine g_cVi (pc := 6) C hM hl.1 yv_X12_unknownSet q7_36 (by decide) ce_87 rfl (w_X12_unknownSet l G x  s2 _ h) rfl rfl ⟨⟨by decide, by decide⟩, by decide, by decide⟩ (Nat.le_of_ble_eq_true rfl) dX12_decidingRule_6 (fun r6 s6 H locs h hM => ?_)
  refine lv_if_eq (pc := 9) (tgt := 18) hx hb dX12_decidingRule_9 (by decide) (fun c9 => ?_) (fun c9 => ?_)
  · have h := h.1 c9
    refine lv_aload_n (pc := 18) hx hb dX12_decidingRule_18 rfl (lv_at hl 0 rfl) ?_
    refine g_cVi (pc := 19) C hM hl.1 yv_X12_decided q7_56 (by decide) ce_87 rfl (w_X12_decided l G x  s6 _ h) rfl rfl ⟨⟨by decide, by decide⟩, by decide, by decide⟩ (Nat.le_of_ble_eq_true rfl) dX12_decidingRule_19 (fun r19 s19 H locs h hM => ?_)
    refine lv_pop (pc := 22) hx hb dX12_decidingRule_22 rfl ?_
    refine lv_aload_n (pc := 23) hx hb dX12_decidingRule_23 rfl (lv_at hl 0 rfl) ?_
    refine g_get (pc := 24) (v := .int (s19 87 14)) C hM (by decide) ce_87 fl_RX12_189 rfl dX12_decidingRule_24 ?_
    refine lv_if_ge (pc := 27) (tgt := 38) hx hb dX12_decidingRule_27 (by decide) (fun c27 => ?_) (fun c27 => ?_)
    · have h := h.1 c27
      refine lv_aload_n (pc := 38) hx hb dX12_decidingRule_38 rfl (lv_at hl 0 rfl) ?_
      refine g_get (pc := 39) (v := .int (s19 87 14)) C hM (by decide) ce_87 fl_RX12_189 rfl dX12_decidingRule_39 ?_
      exact hret 42 _ _ _ _ _ dX12_decidingRule_42 (by rfl) h hM
    · have h := h.2 c27
      refine lv_aload_n (pc := 30) hx hb dX12_decidingRule_30 rfl (lv_at hl 0 rfl) ?_
      refine lv_iconst (pc := 31) (v := 2) hx hb dX12_decidingRule_31 (by decide) ?_
      refine g_cVi (pc := 32) C hM hl.1 yv_X12_fails q6_89 (by decide) ce_87 rfl (w_X12_fails l G x 2 s19 _ h) rfl rfl ⟨⟨by decide, by decide⟩, by decide, by decide⟩ (Nat.le_of_ble_eq_true rfl) dX12_decidingRule_32 (fun r32 s32 H locs h hM => ?_)
      refine lv_goto (pc := 35) (tgt := 42) hx hb dX12_decidingRule_35 (by decide) ?_
      exact hret 42 _ _ _ _ _ dX12_decidingRule_42 (by rfl) h hM
  · have h := h.2 c9
    refine lv_aload_n (pc := 12) hx hb dX12_decidingRule_12 rfl (lv_at hl 0 rfl) ?_
    refine lv_iconst (pc := 13) (v := 1) hx hb dX12_decidingRule_13 (by decide) ?_
    refine g_cVi (pc := 14) C hM hl.1 yv_X12_fails q6_89 (by decide) ce_87 rfl (w_X12_fails l G x 1 s6 _ h) rfl rfl ⟨⟨by decide, by decide⟩, by decide, by decide⟩ (Nat.le_of_ble_eq_true rfl) dX12_decidingRule_14 (fun r14 s14 H locs h hM => ?_)
    exact hret 17 _ _ _ _ _ dX12_decidingRule_17 (by rfl) h hM
abbrev rm_X12_policyDecision : Room := { frames := 4, cells := 0, slots := 0, locals := 88 }
theorem dX12_policyDecision_0 : decode cX12_policyDecision 0 = .ok (.aload_n 0, 1) := by decide +kernel
theorem dX12_policyDecision_1 : decode cX12_policyDecision 1 = .ok (.iload_n 1, 1) := by decide +kernel
theorem dX12_policyDecision_2 : decode cX12_policyDecision 2 = .ok (.invokestatic 86, 3) := by decide +kernel
theorem dX12_policyDecision_5 : decode cX12_policyDecision 5 = .ok (.ifCond .eq 18, 3) := by decide +kernel
theorem dX12_policyDecision_8 : decode cX12_policyDecision 8 = .ok (.aload_n 0, 1) := by decide +kernel
theorem dX12_policyDecision_9 : decode cX12_policyDecision 9 = .ok (.invokevirtual 168, 3) := by decide +kernel
theorem dX12_policyDecision_12 : decode cX12_policyDecision 12 = .ok (.ifCond .ne 7, 3) := by decide +kernel
theorem dX12_policyDecision_15 : decode cX12_policyDecision 15 = .ok (.iconst 0, 1) := by decide +kernel
theorem dX12_policyDecision_16 : decode cX12_policyDecision 16 = .ok (.goto 8, 3) := by decide +kernel
theorem dX12_policyDecision_19 : decode cX12_policyDecision 19 = .ok (.iconst 2, 1) := by decide +kernel
theorem dX12_policyDecision_20 : decode cX12_policyDecision 20 = .ok (.goto 4, 3) := by decide +kernel
theorem dX12_policyDecision_23 : decode cX12_policyDecision 23 = .ok (.iconst 1, 1) := by decide +kernel
theorem dX12_policyDecision_24 : decode cX12_policyDecision 24 = .ok (.putfield 68, 3) := by decide +kernel
theorem dX12_policyDecision_27 : decode cX12_policyDecision 27 = .ok (.aload_n 0, 1) := by decide +kernel
theorem dX12_policyDecision_28 : decode cX12_policyDecision 28 = .ok (.getfield 68, 3) := by decide +kernel
theorem dX12_policyDecision_31 : decode cX12_policyDecision 31 = .ok (.ifCond .le 5, 3) := by decide +kernel
theorem dX12_policyDecision_34 : decode cX12_policyDecision 34 = .ok (.iconst 0, 1) := by decide +kernel
theorem dX12_policyDecision_35 : decode cX12_policyDecision 35 = .ok (.ireturn, 1) := by decide +kernel
theorem dX12_policyDecision_36 : decode cX12_policyDecision 36 = .ok (.aload_n 0, 1) := by decide +kernel
theorem dX12_policyDecision_37 : decode cX12_policyDecision 37 = .ok (.invokevirtual 192, 3) := by decide +kernel
theorem dX12_policyDecision_40 : decode cX12_policyDecision 40 = .ok (.aload_n 0, 1) := by decide +kernel
theorem dX12_policyDecision_41 : decode cX12_policyDecision 41 = .ok (.iload_n 1, 1) := by decide +kernel
theorem dX12_policyDecision_42 : decode cX12_policyDecision 42 = .ok (.invokevirtual 183, 3) := by decide +kernel
theorem dX12_policyDecision_45 : decode cX12_policyDecision 45 = .ok (.ireturn, 1) := by decide +kernel
set_option maxHeartbeats 4000000 in
set_option maxRecDepth 100000 in
theorem w_X12_policyDecision (l : Launch) (G : GP) (x : XP) (a1 : Int32) (σ : Sto) (P : Int32 → Sto → Prop) (h : D_X12_policyDecision a1 σ P) : g_Meti l yX12_policyDecision cX12_policyDecision 2 (some .int) rm_X12_policyDecision G x [.ref (g_ad G 87), .int a1] σ P := by
  unfold D_X12_policyDecision at h
  refine g_ofWi (by decide +kernel) (Nat.le_of_ble_eq_true rfl) ?_
  intro p e s m args below meth c Q ls C hM hl hret
  have hx := C.1
  have hb := C.2.1
  have hl : lv_has ls 2 [(0, .ref (g_ad G 87)), (1, .int a1)] := hl
  refine lv_aload_n (pc := 0) hx hb dX12_policyDecision_0 rfl (lv_at hl 0 rfl) ?_
  refine lv_iload_n (pc := 1) hx hb dX12_policyDecision_1 rfl (lv_at hl 1 rfl) ?_
  refine g_cSi (pc := 2) C hM hl.1 ys_X12_isPolicy q6_105 (w_X12_isPolicy l G x a1 σ _ h) rfl rfl ⟨⟨by decide, by decide⟩, by decide, by decide⟩ (Nat.le_of_ble_eq_true rfl) dX12_policyDecision_2 (fun r2 s2 H locs h hM => ?_)
  refine lv_if_eq (pc := 5) (tgt := 23) hx hb dX12_policyDecision_5 (by decide) (fun c5 => ?_) (fun c5 => ?_)
  · have h := h.1 c5
    refine lv_iconst (pc := 23) (v := 1) hx hb dX12_policyDecision_23 (by decide) ?_
    refine g_putE (pc := 24) C hM (by decide) ce_87 fp_RX12_68 rfl rfl (Nat.le_of_ble_eq_true rfl) rfl dX12_policyDecision_24 (fun s24 es24 H locs hM => ?_)
    have h := h s24 es24
    refine lv_aload_n (pc := 27) hx hb dX12_policyDecision_27 rfl (lv_at hl 0 rfl) ?_
    refine g_get (pc := 28) (v := .int (s24 87 8)) C hM (by decide) ce_87 fl_RX12_68 rfl dX12_policyDecision_28 ?_
    refine lv_if_le (pc := 31) (tgt := 36) hx hb dX12_policyDecision_31 (by decide) (fun c31 => ?_) (fun c31 => ?_)
    · have h := h.1 c31
      refine lv_aload_n (pc := 36) hx hb dX12_policyDecision_36 rfl (lv_at hl 0 rfl) ?_
      refine g_cVv (pc := 37) C hM hl.1 yv_X12_givesValues q7_60 (by decide) ce_87 rfl (w_X12_givesValues l G x  s24 _ h) rfl rfl ⟨⟨by decide, by decide⟩, by decide, by decide⟩ (Nat.le_of_ble_eq_true rfl) dX12_policyDecision_37 (fun s37 H locs h hM => ?_)
      refine lv_aload_n (pc := 40) hx hb dX12_policyDecision_40 rfl (lv_at hl 0 rfl) ?_
      refine lv_iload_n (pc := 41) hx hb dX12_policyDecision_41 rfl (lv_at hl 1 rfl) ?_
      refine g_cVi (pc := 42) C hM hl.1 yv_X12_decisionOf q7_68 (by decide) ce_87 rfl (w_X12_decisionOf l G x a1 s37 _ h) rfl rfl ⟨⟨by decide, by decide⟩, by decide, by decide⟩ (Nat.le_of_ble_eq_true rfl) dX12_policyDecision_42 (fun r42 s42 H locs h hM => ?_)
      exact hret 45 _ _ _ _ _ dX12_policyDecision_45 (by rfl) h hM
    · have h := h.2 c31
      refine lv_iconst (pc := 34) (v := 0) hx hb dX12_policyDecision_34 (by decide) ?_
      exact hret 35 _ _ _ _ _ dX12_policyDecision_35 (by rfl) h hM
  · have h := h.2 c5
    refine lv_aload_n (pc := 8) hx hb dX12_policyDecision_8 rfl (lv_at hl 0 rfl) ?_
    refine g_cVi (pc := 9) C hM hl.1 yv_X12_unknownSet q7_36 (by decide) ce_87 rfl (w_X12_unknownSet l G x  s2 _ h) rfl rfl ⟨⟨by decide, by decide⟩, by decide, by decide⟩ (Nat.le_of_ble_eq_true rfl) dX12_policyDecision_9 (fun r9 s9 H locs h hM => ?_)
    refine lv_if_ne (pc := 12) (tgt := 19) hx hb dX12_policyDecision_12 (by decide) (fun c12 => ?_) (fun c12 => ?_)
    · have h := h.2 c12
      refine lv_iconst (pc := 19) (v := 2) hx hb dX12_policyDecision_19 (by decide) ?_
      refine lv_goto (pc := 20) (tgt := 24) hx hb dX12_policyDecision_20 (by decide) ?_
      refine g_putE (pc := 24) C hM (by decide) ce_87 fp_RX12_68 rfl rfl (Nat.le_of_ble_eq_true rfl) rfl dX12_policyDecision_24 (fun s24 es24 H locs hM => ?_)
      have h := h s24 es24
      refine lv_aload_n (pc := 27) hx hb dX12_policyDecision_27 rfl (lv_at hl 0 rfl) ?_
      refine g_get (pc := 28) (v := .int (s24 87 8)) C hM (by decide) ce_87 fl_RX12_68 rfl dX12_policyDecision_28 ?_
      refine lv_if_le (pc := 31) (tgt := 36) hx hb dX12_policyDecision_31 (by decide) (fun c31 => ?_) (fun c31 => ?_)
      · have h := h.1 c31
        refine lv_aload_n (pc := 36) hx hb dX12_policyDecision_36 rfl (lv_at hl 0 rfl) ?_
        refine g_cVv (pc := 37) C hM hl.1 yv_X12_givesValues q7_60 (by decide) ce_87 rfl (w_X12_givesValues l G x  s24 _ h) rfl rfl ⟨⟨by decide, by decide⟩, by decide, by decide⟩ (Nat.le_of_ble_eq_true rfl) dX12_policyDecision_37 (fun s37 H locs h hM => ?_)
        refine lv_aload_n (pc := 40) hx hb dX12_policyDecision_40 rfl (lv_at hl 0 rfl) ?_
        refine lv_iload_n (pc := 41) hx hb dX12_policyDecision_41 rfl (lv_at hl 1 rfl) ?_
        refine g_cVi (pc := 42) C hM hl.1 yv_X12_decisionOf q7_68 (by decide) ce_87 rfl (w_X12_decisionOf l G x a1 s37 _ h) rfl rfl ⟨⟨by decide, by decide⟩, by decide, by decide⟩ (Nat.le_of_ble_eq_true rfl) dX12_policyDecision_42 (fun r42 s42 H locs h hM => ?_)
        exact hret 45 _ _ _ _ _ dX12_policyDecision_45 (by rfl) h hM
      · have h := h.2 c31
        refine lv_iconst (pc := 34) (v := 0) hx hb dX12_policyDecision_34 (by decide) ?_
        exact hret 35 _ _ _ _ _ dX12_policyDecision_35 (by rfl) h hM
    · have h := h.1 c12
      refine lv_iconst (pc := 15) (v := 0) hx hb dX12_policyDecision_15 (by decide) ?_
      refine lv_goto (pc := 16) (tgt := 24) hx hb dX12_policyDecision_16 (by decide) ?_
      refine g_putE (pc := 24) C hM (by decide) ce_87 fp_RX12_68 rfl rfl (Nat.le_of_ble_eq_true rfl) rfl dX12_policyDecision_24 (fun s24 es24 H locs hM => ?_)
      have h := h s24 es24
      refine lv_aload_n (pc := 27) hx hb dX12_policyDecision_27 rfl (lv_at hl 0 rfl) ?_
      refine g_get (pc := 28) (v := .int (s24 87 8)) C hM (by decide) ce_87 fl_RX12_68 rfl dX12_policyDecision_28 ?_
      refine lv_if_le (pc := 31) (tgt := 36) hx hb dX12_policyDecision_31 (by decide) (fun c31 => ?_) (fun c31 => ?_)
      · have h := h.1 c31
        refine lv_aload_n (pc := 36) hx hb dX12_policyDecision_36 rfl (lv_at hl 0 rfl) ?_
        refine g_cVv (pc := 37) C hM hl.1 yv_X12_givesValues q7_60 (by decide) ce_87 rfl (w_X12_givesValues l G x  s24 _ h) rfl rfl ⟨⟨by decide, by decide⟩, by decide, by decide⟩ (Nat.le_of_ble_eq_true rfl) dX12_policyDecision_37 (fun s37 H locs h hM => ?_)
        refine lv_aload_n (pc := 40) hx hb dX12_policyDecision_40 rfl (lv_at hl 0 rfl) ?_
        refine lv_iload_n (pc := 41) hx hb dX12_policyDecision_41 rfl (lv_at hl 1 rfl) ?_
        refine g_cVi (pc := 42) C hM hl.1 yv_X12_decisionOf q7_68 (by decide) ce_87 rfl (w_X12_decisionOf l G x a1 s37 _ h) rfl rfl ⟨⟨by decide, by decide⟩, by decide, by decide⟩ (Nat.le_of_ble_eq_true rfl) dX12_policyDecision_42 (fun r42 s42 H locs h hM => ?_)
        exact hret 45 _ _ _ _ _ dX12_policyDecision_45 (by rfl) h hM
      · have h := h.2 c31
        refine lv_iconst (pc := 34) (v := 0) hx hb dX12_policyDecision_34 (by decide) ?_
        exact hret 35 _ _ _ _ _ dX12_policyDecision_35 (by rfl) h hM
abbrev rm_X12_bits : Room := { frames := 0, cells := 0, slots := 0, locals := 0 }
theorem dX12_bits_0 : decode cX12_bits 0 = .ok (.iconst 0, 1) := by decide +kernel
theorem dX12_bits_1 : decode cX12_bits 1 = .ok (.istore_n 1, 1) := by decide +kernel
theorem dX12_bits_2 : decode cX12_bits 2 = .ok (.iconst 0, 1) := by decide +kernel
theorem dX12_bits_3 : decode cX12_bits 3 = .ok (.istore_n 2, 1) := by decide +kernel
theorem dX12_bits_4 : decode cX12_bits 4 = .ok (.iload_n 2, 1) := by decide +kernel
theorem dX12_bits_5 : decode cX12_bits 5 = .ok (.bipush 16, 2) := by decide +kernel
theorem dX12_bits_7 : decode cX12_bits 7 = .ok (.if_icmp .ge 17, 3) := by decide +kernel
theorem dX12_bits_10 : decode cX12_bits 10 = .ok (.iload_n 1, 1) := by decide +kernel
theorem dX12_bits_11 : decode cX12_bits 11 = .ok (.iload_n 0, 1) := by decide +kernel
theorem dX12_bits_12 : decode cX12_bits 12 = .ok (.iload_n 2, 1) := by decide +kernel
theorem dX12_bits_13 : decode cX12_bits 13 = .ok (.ishr, 1) := by decide +kernel
theorem dX12_bits_14 : decode cX12_bits 14 = .ok (.iconst 1, 1) := by decide +kernel
theorem dX12_bits_15 : decode cX12_bits 15 = .ok (.iand, 1) := by decide +kernel
theorem dX12_bits_16 : decode cX12_bits 16 = .ok (.iadd, 1) := by decide +kernel
theorem dX12_bits_17 : decode cX12_bits 17 = .ok (.istore_n 1, 1) := by decide +kernel
theorem dX12_bits_18 : decode cX12_bits 18 = .ok (.iinc 2 1, 3) := by decide +kernel
theorem dX12_bits_21 : decode cX12_bits 21 = .ok (.goto (-17), 3) := by decide +kernel
theorem dX12_bits_24 : decode cX12_bits 24 = .ok (.iload_n 1, 1) := by decide +kernel
theorem dX12_bits_25 : decode cX12_bits 25 = .ok (.ireturn, 1) := by decide +kernel
set_option maxHeartbeats 4000000 in
set_option maxRecDepth 100000 in
theorem w_X12_bits (l : Launch) (G : GP) (x : XP) (a0 : Int32) (σ : Sto) (P : Int32 → Sto → Prop) (h : D_X12_bits a0 σ P) : g_Meti l yX12_bits cX12_bits 3 (some .int) rm_X12_bits G x [.int a0] σ P := by
  unfold D_X12_bits at h
  refine g_ofWi (by decide +kernel) (Nat.le_of_ble_eq_true rfl) ?_
  intro p e s m args below meth c Q ls C hM hl hret
  have hx := C.1
  have hb := C.2.1
  have hl : lv_has ls 3 [(0, .int a0)] := hl
  have h := h (fun (v1 : Int32) (v2 : Int32) (σ : Sto) => ∀ (H : Heap) (locs : List Loc) (ls : Array Slot), g_M G x σ s H locs → lv_has ls 3 [(0, .int a0), (1, .int v1), (2, .int v2)] → W p l e rm_X12_bits s m args below meth c H locs 0 0 Q (F0 m 4 ls []))
  have h := h (by
    intro v1 v2 σ h  H locs ls hM hl
    refine lv_iload_n (pc := 4) hx hb dX12_bits_4 rfl (lv_at hl 2 rfl) ?_
    refine lv_bipush (pc := 5) (v := 16) hx hb dX12_bits_5 (by decide) ?_
    refine lv_icmp_ge (pc := 7) (tgt := 24) hx hb dX12_bits_7 (by decide) (fun c7 => ?_) (fun c7 => ?_)
    · have h := h.1 c7
      refine lv_iload_n (pc := 24) hx hb dX12_bits_24 rfl (lv_at hl 1 rfl) ?_
      exact hret 25 _ _ _ _ _ dX12_bits_25 (by rfl) h hM
    · have h := h.2 c7
      refine lv_iload_n (pc := 10) hx hb dX12_bits_10 rfl (lv_at hl 1 rfl) ?_
      refine lv_iload_n (pc := 11) hx hb dX12_bits_11 rfl (lv_at hl 0 rfl) ?_
      refine lv_iload_n (pc := 12) hx hb dX12_bits_12 rfl (lv_at hl 2 rfl) ?_
      refine lv_ishr (pc := 13) hx hb dX12_bits_13 ?_
      refine lv_iconst (pc := 14) (v := 1) hx hb dX12_bits_14 (by decide) ?_
      refine lv_iand (pc := 15) hx hb dX12_bits_15 ?_
      refine lv_iadd (pc := 16) hx hb dX12_bits_16 ?_
      refine lv_topi (fun v1_17 ev1_17 => ?_)
      have h := h v1_17 ev1_17
      refine lv_istore_n (pc := 17) (lv' := [(1, .int v1_17), (0, .int a0), (2, .int v2)]) hx hb dX12_bits_17 rfl hl (by decide) rfl (fun ls hl => ?_)
      refine lv_iinc (pc := 18) (v := (v2 + 1)) (lv' := [(2, .int (v2 + 1)), (1, .int v1_17), (0, .int a0)]) hx hb dX12_bits_18 hl (k := 2) rfl (by rfl) (by decide) rfl (fun ls hl => ?_)
      refine lv_goto (pc := 21) (tgt := 4) hx hb dX12_bits_21 (by decide) ?_
      exact h _ _ _ hM (lv_sub hl [2, 1, 0] rfl))
  refine lv_iconst (pc := 0) (v := 0) hx hb dX12_bits_0 (by decide) ?_
  refine lv_istore_n (pc := 1) (lv' := [(1, .int 0), (0, .int a0)]) hx hb dX12_bits_1 rfl hl (by decide) rfl (fun ls hl => ?_)
  refine lv_iconst (pc := 2) (v := 0) hx hb dX12_bits_2 (by decide) ?_
  refine lv_istore_n (pc := 3) (lv' := [(2, .int 0), (1, .int 0), (0, .int a0)]) hx hb dX12_bits_3 rfl hl (by decide) rfl (fun ls hl => ?_)
  exact h _ _ _ hM (lv_sub hl [2, 1, 0] rfl)
abbrev rm_X12_completes (n : Nat) : Room := { frames := n + 8, cells := 0, slots := 0, locals := n * 60 + 400 }
theorem dX12_completes_0 : decode cX12_completes 0 = .ok (.iload_n 1, 1) := by decide +kernel
theorem dX12_completes_1 : decode cX12_completes 1 = .ok (.bipush 6, 2) := by decide +kernel
theorem dX12_completes_3 : decode cX12_completes 3 = .ok (.if_icmp .ne 48, 3) := by decide +kernel
theorem dX12_completes_6 : decode cX12_completes 6 = .ok (.aload_n 0, 1) := by decide +kernel
theorem dX12_completes_7 : decode cX12_completes 7 = .ok (.iload_n 2, 1) := by decide +kernel
theorem dX12_completes_8 : decode cX12_completes 8 = .ok (.invokevirtual 195, 3) := by decide +kernel
theorem dX12_completes_11 : decode cX12_completes 11 = .ok (.istore 4, 2) := by decide +kernel
theorem dX12_completes_13 : decode cX12_completes 13 = .ok (.aload_n 0, 1) := by decide +kernel
theorem dX12_completes_14 : decode cX12_completes 14 = .ok (.getfield 37, 3) := by decide +kernel
theorem dX12_completes_17 : decode cX12_completes 17 = .ok (.iload 4, 2) := by decide +kernel
theorem dX12_completes_19 : decode cX12_completes 19 = .ok (.dup2, 1) := by decide +kernel
theorem dX12_completes_20 : decode cX12_completes 20 = .ok (.iaload, 1) := by decide +kernel
theorem dX12_completes_21 : decode cX12_completes 21 = .ok (.iconst 1, 1) := by decide +kernel
theorem dX12_completes_22 : decode cX12_completes 22 = .ok (.iadd, 1) := by decide +kernel
theorem dX12_completes_23 : decode cX12_completes 23 = .ok (.iastore, 1) := by decide +kernel
theorem dX12_completes_24 : decode cX12_completes 24 = .ok (.aload_n 0, 1) := by decide +kernel
theorem dX12_completes_25 : decode cX12_completes 25 = .ok (.getfield 40, 3) := by decide +kernel
theorem dX12_completes_28 : decode cX12_completes 28 = .ok (.iload 4, 2) := by decide +kernel
theorem dX12_completes_30 : decode cX12_completes 30 = .ok (.dup2, 1) := by decide +kernel
theorem dX12_completes_31 : decode cX12_completes 31 = .ok (.iaload, 1) := by decide +kernel
theorem dX12_completes_32 : decode cX12_completes 32 = .ok (.iload_n 3, 1) := by decide +kernel
theorem dX12_completes_33 : decode cX12_completes 33 = .ok (.ifCond .ge 7, 3) := by decide +kernel
theorem dX12_completes_36 : decode cX12_completes 36 = .ok (.iconst 0, 1) := by decide +kernel
theorem dX12_completes_37 : decode cX12_completes 37 = .ok (.goto 11, 3) := by decide +kernel
theorem dX12_completes_40 : decode cX12_completes 40 = .ok (.iconst 1, 1) := by decide +kernel
theorem dX12_completes_41 : decode cX12_completes 41 = .ok (.aload_n 0, 1) := by decide +kernel
theorem dX12_completes_42 : decode cX12_completes 42 = .ok (.getfield 28, 3) := by decide +kernel
theorem dX12_completes_45 : decode cX12_completes 45 = .ok (.iload_n 3, 1) := by decide +kernel
theorem dX12_completes_46 : decode cX12_completes 46 = .ok (.iaload, 1) := by decide +kernel
theorem dX12_completes_47 : decode cX12_completes 47 = .ok (.ishl, 1) := by decide +kernel
theorem dX12_completes_48 : decode cX12_completes 48 = .ok (.ior, 1) := by decide +kernel
theorem dX12_completes_49 : decode cX12_completes 49 = .ok (.iastore, 1) := by decide +kernel
theorem dX12_completes_50 : decode cX12_completes 50 = .ok (.return_, 1) := by decide +kernel
theorem dX12_completes_51 : decode cX12_completes 51 = .ok (.aload_n 0, 1) := by decide +kernel
theorem dX12_completes_52 : decode cX12_completes 52 = .ok (.getfield 19, 3) := by decide +kernel
theorem dX12_completes_55 : decode cX12_completes 55 = .ok (.iload_n 1, 1) := by decide +kernel
theorem dX12_completes_56 : decode cX12_completes 56 = .ok (.iaload, 1) := by decide +kernel
theorem dX12_completes_57 : decode cX12_completes 57 = .ok (.ifCond .lt 30, 3) := by decide +kernel
theorem dX12_completes_60 : decode cX12_completes 60 = .ok (.iload_n 1, 1) := by decide +kernel
theorem dX12_completes_61 : decode cX12_completes 61 = .ok (.iload_n 3, 1) := by decide +kernel
theorem dX12_completes_62 : decode cX12_completes 62 = .ok (.if_icmp .eq 25, 3) := by decide +kernel
theorem dX12_completes_65 : decode cX12_completes 65 = .ok (.aload_n 0, 1) := by decide +kernel
theorem dX12_completes_66 : decode cX12_completes 66 = .ok (.getfield 28, 3) := by decide +kernel
theorem dX12_completes_69 : decode cX12_completes 69 = .ok (.iload_n 1, 1) := by decide +kernel
theorem dX12_completes_70 : decode cX12_completes 70 = .ok (.aload_n 0, 1) := by decide +kernel
theorem dX12_completes_71 : decode cX12_completes 71 = .ok (.getfield 19, 3) := by decide +kernel
theorem dX12_completes_74 : decode cX12_completes 74 = .ok (.iload_n 1, 1) := by decide +kernel
theorem dX12_completes_75 : decode cX12_completes 75 = .ok (.iaload, 1) := by decide +kernel
theorem dX12_completes_76 : decode cX12_completes 76 = .ok (.iastore, 1) := by decide +kernel
theorem dX12_completes_77 : decode cX12_completes 77 = .ok (.aload_n 0, 1) := by decide +kernel
theorem dX12_completes_78 : decode cX12_completes 78 = .ok (.iload_n 1, 1) := by decide +kernel
theorem dX12_completes_79 : decode cX12_completes 79 = .ok (.iconst 1, 1) := by decide +kernel
theorem dX12_completes_80 : decode cX12_completes 80 = .ok (.iadd, 1) := by decide +kernel
theorem dX12_completes_81 : decode cX12_completes 81 = .ok (.iload_n 2, 1) := by decide +kernel
theorem dX12_completes_82 : decode cX12_completes 82 = .ok (.iload_n 3, 1) := by decide +kernel
theorem dX12_completes_83 : decode cX12_completes 83 = .ok (.invokevirtual 204, 3) := by decide +kernel
theorem dX12_completes_86 : decode cX12_completes 86 = .ok (.return_, 1) := by decide +kernel
theorem dX12_completes_87 : decode cX12_completes 87 = .ok (.iconst 0, 1) := by decide +kernel
theorem dX12_completes_88 : decode cX12_completes 88 = .ok (.istore 4, 2) := by decide +kernel
theorem dX12_completes_90 : decode cX12_completes 90 = .ok (.iload 4, 2) := by decide +kernel
theorem dX12_completes_92 : decode cX12_completes 92 = .ok (.bipush 16, 2) := by decide +kernel
theorem dX12_completes_94 : decode cX12_completes 94 = .ok (.if_icmp .ge 26, 3) := by decide +kernel
theorem dX12_completes_97 : decode cX12_completes 97 = .ok (.aload_n 0, 1) := by decide +kernel
theorem dX12_completes_98 : decode cX12_completes 98 = .ok (.getfield 28, 3) := by decide +kernel
theorem dX12_completes_101 : decode cX12_completes 101 = .ok (.iload_n 1, 1) := by decide +kernel
theorem dX12_completes_102 : decode cX12_completes 102 = .ok (.iload 4, 2) := by decide +kernel
theorem dX12_completes_104 : decode cX12_completes 104 = .ok (.iastore, 1) := by decide +kernel
theorem dX12_completes_105 : decode cX12_completes 105 = .ok (.aload_n 0, 1) := by decide +kernel
theorem dX12_completes_106 : decode cX12_completes 106 = .ok (.iload_n 1, 1) := by decide +kernel
theorem dX12_completes_107 : decode cX12_completes 107 = .ok (.iconst 1, 1) := by decide +kernel
theorem dX12_completes_108 : decode cX12_completes 108 = .ok (.iadd, 1) := by decide +kernel
theorem dX12_completes_109 : decode cX12_completes 109 = .ok (.iload_n 2, 1) := by decide +kernel
theorem dX12_completes_110 : decode cX12_completes 110 = .ok (.iload_n 3, 1) := by decide +kernel
theorem dX12_completes_111 : decode cX12_completes 111 = .ok (.invokevirtual 204, 3) := by decide +kernel
theorem dX12_completes_114 : decode cX12_completes 114 = .ok (.iinc 4 1, 3) := by decide +kernel
theorem dX12_completes_117 : decode cX12_completes 117 = .ok (.goto (-27), 3) := by decide +kernel
theorem dX12_completes_120 : decode cX12_completes 120 = .ok (.return_, 1) := by decide +kernel
set_option maxHeartbeats 4000000 in
set_option maxRecDepth 100000 in
theorem w_X12_completes (l : Launch) (G : GP) (x : XP) : ∀ (n : Nat) (a1 : Int32) (a2 : Int32) (a3 : Int32) (σ : Sto) (P : Sto → Prop), D_X12_completes n a1 a2 a3 σ P → g_Metv l yX12_completes cX12_completes 5 (rm_X12_completes n) G x [.ref (g_ad G 87), .int a1, .int a2, .int a3] σ P := by
  intro n
  induction n with
  | zero => intro a1 a2 a3 σ P h; exact h.elim
  | succ n ih =>
    intro a1 a2 a3 σ P h
    rw [D_X12_completes] at h
    refine g_ofWv (by decide +kernel) (Nat.le_of_ble_eq_true rfl) ?_
    intro p e s m args below meth c Q ls C hM hl hret
    have hx := C.1
    have hb := C.2.1
    have hl : lv_has ls 5 [(0, .ref (g_ad G 87)), (1, .int a1), (2, .int a2), (3, .int a3)] := hl
    have h := h (fun (v4 : Int32) (σ : Sto) => ∀ (H : Heap) (locs : List Loc) (ls : Array Slot), g_M G x σ s H locs → lv_has ls 5 [(0, .ref (g_ad G 87)), (1, .int a1), (2, .int a2), (3, .int a3), (4, .int v4)] → W p l e (rm_X12_completes (n + 1)) s m args below meth c H locs 0 0 Q (F0 m 90 ls []))
    have h := h (by
      intro v4 σ h  H locs ls hM hl
      refine lv_iload (pc := 90) hx hb dX12_completes_90 (lv_at hl 4 rfl) ?_
      refine lv_bipush (pc := 92) (v := 16) hx hb dX12_completes_92 (by decide) ?_
      refine lv_icmp_ge (pc := 94) (tgt := 120) hx hb dX12_completes_94 (by decide) (fun c94 => ?_) (fun c94 => ?_)
      · have h := h.1 c94
        exact hret 120 _ _ _ _ dX12_completes_120 h hM
      · have h := h.2 c94
        refine lv_aload_n (pc := 97) hx hb dX12_completes_97 rfl (lv_at hl 0 rfl) ?_
        refine g_get (pc := 98) (v := .ref (g_ad G 94)) C hM (by decide) ce_87 fl_RX12_28 rfl dX12_completes_98 ?_
        refine lv_iload_n (pc := 101) hx hb dX12_completes_101 rfl (lv_at hl 1 rfl) ?_
        refine lv_iload (pc := 102) hx hb dX12_completes_102 (lv_at hl 4 rfl) ?_
        obtain ⟨hc, h⟩ := h
        refine g_iastE (pc := 104) C hM (by decide) ce_94 hc rfl dX12_completes_104 (fun s104 es104 H locs hM => ?_)
        have h := h s104 es104
        refine lv_aload_n (pc := 105) hx hb dX12_completes_105 rfl (lv_at hl 0 rfl) ?_
        refine lv_iload_n (pc := 106) hx hb dX12_completes_106 rfl (lv_at hl 1 rfl) ?_
        refine lv_iconst (pc := 107) (v := 1) hx hb dX12_completes_107 (by decide) ?_
        refine lv_iadd (pc := 108) hx hb dX12_completes_108 ?_
        refine lv_iload_n (pc := 109) hx hb dX12_completes_109 rfl (lv_at hl 2 rfl) ?_
        refine lv_iload_n (pc := 110) hx hb dX12_completes_110 rfl (lv_at hl 3 rfl) ?_
        refine g_cVv (pc := 111) C hM hl.1 yv_X12_completes q7_103 (by decide) ce_87 rfl (ih (a1 + 1) a2 a3 s104 _ h) rfl rfl ⟨⟨by dsimp only [rm_X12_completes]; omega, by dsimp only [rm_X12_completes]; omega⟩, by dsimp only [rm_X12_completes]; omega, by dsimp only [rm_X12_completes]; omega⟩ (Nat.le_of_ble_eq_true rfl) dX12_completes_111 (fun s111 H locs h hM => ?_)
        refine lv_iinc (pc := 114) (v := (v4 + 1)) (lv' := [(4, .int (v4 + 1)), (0, .ref (g_ad G 87)), (1, .int a1), (2, .int a2), (3, .int a3)]) hx hb dX12_completes_114 hl (k := 4) rfl (by rfl) (by decide) rfl (fun ls hl => ?_)
        refine lv_goto (pc := 117) (tgt := 90) hx hb dX12_completes_117 (by decide) ?_
        exact h _ _ _ hM (lv_sub hl [1, 2, 3, 4, 0] rfl))
    refine lv_iload_n (pc := 0) hx hb dX12_completes_0 rfl (lv_at hl 1 rfl) ?_
    refine lv_bipush (pc := 1) (v := 6) hx hb dX12_completes_1 (by decide) ?_
    refine lv_icmp_ne (pc := 3) (tgt := 51) hx hb dX12_completes_3 (by decide) (fun c3 => ?_) (fun c3 => ?_)
    · have h := h.2 c3
      refine lv_aload_n (pc := 51) hx hb dX12_completes_51 rfl (lv_at hl 0 rfl) ?_
      refine g_get (pc := 52) (v := .ref (g_ad G 91)) C hM (by decide) ce_87 fl_RX12_19 rfl dX12_completes_52 ?_
      refine lv_iload_n (pc := 55) hx hb dX12_completes_55 rfl (lv_at hl 1 rfl) ?_
      obtain ⟨hc, h⟩ := h
      refine g_ialdK (pc := 56) C hM (by decide) ce_91 hc rfl dX12_completes_56 ?_
      refine lv_if_lt (pc := 57) (tgt := 87) hx hb dX12_completes_57 (by decide) (fun c57 => ?_) (fun c57 => ?_)
      · have h := h.1 c57
        refine lv_iconst (pc := 87) (v := 0) hx hb dX12_completes_87 (by decide) ?_
        refine lv_istore (pc := 88) (lv' := [(4, .int 0), (0, .ref (g_ad G 87)), (1, .int a1), (2, .int a2), (3, .int a3)]) hx hb dX12_completes_88 hl (by decide) rfl (fun ls hl => ?_)
        exact h _ _ _ hM (lv_sub hl [1, 2, 3, 4, 0] rfl)
      · have h := h.2 c57
        refine lv_iload_n (pc := 60) hx hb dX12_completes_60 rfl (lv_at hl 1 rfl) ?_
        refine lv_iload_n (pc := 61) hx hb dX12_completes_61 rfl (lv_at hl 3 rfl) ?_
        refine lv_icmp_eq (pc := 62) (tgt := 87) hx hb dX12_completes_62 (by decide) (fun c62 => ?_) (fun c62 => ?_)
        · have h := h.1 c62
          refine lv_iconst (pc := 87) (v := 0) hx hb dX12_completes_87 (by decide) ?_
          refine lv_istore (pc := 88) (lv' := [(4, .int 0), (0, .ref (g_ad G 87)), (1, .int a1), (2, .int a2), (3, .int a3)]) hx hb dX12_completes_88 hl (by decide) rfl (fun ls hl => ?_)
          exact h _ _ _ hM (lv_sub hl [1, 2, 3, 4, 0] rfl)
        · have h := h.2 c62
          refine lv_aload_n (pc := 65) hx hb dX12_completes_65 rfl (lv_at hl 0 rfl) ?_
          refine g_get (pc := 66) (v := .ref (g_ad G 94)) C hM (by decide) ce_87 fl_RX12_28 rfl dX12_completes_66 ?_
          refine lv_iload_n (pc := 69) hx hb dX12_completes_69 rfl (lv_at hl 1 rfl) ?_
          refine lv_aload_n (pc := 70) hx hb dX12_completes_70 rfl (lv_at hl 0 rfl) ?_
          refine g_get (pc := 71) (v := .ref (g_ad G 91)) C hM (by decide) ce_87 fl_RX12_19 rfl dX12_completes_71 ?_
          refine lv_iload_n (pc := 74) hx hb dX12_completes_74 rfl (lv_at hl 1 rfl) ?_
          obtain ⟨hc, h⟩ := h
          refine g_ialdK (pc := 75) C hM (by decide) ce_91 hc rfl dX12_completes_75 ?_
          obtain ⟨hc, h⟩ := h
          refine g_iastE (pc := 76) C hM (by decide) ce_94 hc rfl dX12_completes_76 (fun s76 es76 H locs hM => ?_)
          have h := h s76 es76
          refine lv_aload_n (pc := 77) hx hb dX12_completes_77 rfl (lv_at hl 0 rfl) ?_
          refine lv_iload_n (pc := 78) hx hb dX12_completes_78 rfl (lv_at hl 1 rfl) ?_
          refine lv_iconst (pc := 79) (v := 1) hx hb dX12_completes_79 (by decide) ?_
          refine lv_iadd (pc := 80) hx hb dX12_completes_80 ?_
          refine lv_iload_n (pc := 81) hx hb dX12_completes_81 rfl (lv_at hl 2 rfl) ?_
          refine lv_iload_n (pc := 82) hx hb dX12_completes_82 rfl (lv_at hl 3 rfl) ?_
          refine g_cVv (pc := 83) C hM hl.1 yv_X12_completes q7_103 (by decide) ce_87 rfl (ih (a1 + 1) a2 a3 s76 _ h) rfl rfl ⟨⟨by dsimp only [rm_X12_completes]; omega, by dsimp only [rm_X12_completes]; omega⟩, by dsimp only [rm_X12_completes]; omega, by dsimp only [rm_X12_completes]; omega⟩ (Nat.le_of_ble_eq_true rfl) dX12_completes_83 (fun s83 H locs h hM => ?_)
          exact hret 86 _ _ _ _ dX12_completes_86 h hM
    · have h := h.1 c3
      refine lv_aload_n (pc := 6) hx hb dX12_completes_6 rfl (lv_at hl 0 rfl) ?_
      refine lv_iload_n (pc := 7) hx hb dX12_completes_7 rfl (lv_at hl 2 rfl) ?_
      refine g_cVi (pc := 8) C hM hl.1 yv_X12_decisionBy q7_64 (by decide) ce_87 rfl (w_X12_decisionBy l G x a2 σ _ h) rfl rfl ⟨⟨by dsimp only [rm_X12_completes, rm_X12_decisionBy]; omega, by dsimp only [rm_X12_completes, rm_X12_decisionBy]; omega⟩, by dsimp only [rm_X12_completes, rm_X12_decisionBy]; omega, by dsimp only [rm_X12_completes, rm_X12_decisionBy]; omega⟩ (Nat.le_of_ble_eq_true rfl) dX12_completes_8 (fun r8 s8 H locs h hM => ?_)
      refine lv_istore (pc := 11) (lv' := [(4, .int r8), (0, .ref (g_ad G 87)), (1, .int a1), (2, .int a2), (3, .int a3)]) hx hb dX12_completes_11 hl (by decide) rfl (fun ls hl => ?_)
      refine lv_aload_n (pc := 13) hx hb dX12_completes_13 rfl (lv_at hl 1 rfl) ?_
      refine g_get (pc := 14) (v := .ref (g_ad G 97)) C hM (by decide) ce_87 fl_RX12_37 rfl dX12_completes_14 ?_
      refine lv_iload (pc := 17) hx hb dX12_completes_17 (lv_at hl 0 rfl) ?_
      refine lv_dup2_11 (pc := 19) hx hb dX12_completes_19 rfl rfl ?_
      obtain ⟨hc, h⟩ := h
      refine g_ialdK (pc := 20) C hM (by decide) ce_97 hc rfl dX12_completes_20 ?_
      refine lv_iconst (pc := 21) (v := 1) hx hb dX12_completes_21 (by decide) ?_
      refine lv_iadd (pc := 22) hx hb dX12_completes_22 ?_
      obtain ⟨hc, h⟩ := h
      refine g_iastE (pc := 23) C hM (by decide) ce_97 hc rfl dX12_completes_23 (fun s23 es23 H locs hM => ?_)
      have h := h s23 es23
      refine lv_aload_n (pc := 24) hx hb dX12_completes_24 rfl (lv_at hl 1 rfl) ?_
      refine g_get (pc := 25) (v := .ref (g_ad G 98)) C hM (by decide) ce_87 fl_RX12_40 rfl dX12_completes_25 ?_
      refine lv_iload (pc := 28) hx hb dX12_completes_28 (lv_at hl 0 rfl) ?_
      refine lv_dup2_11 (pc := 30) hx hb dX12_completes_30 rfl rfl ?_
      obtain ⟨hc, h⟩ := h
      refine g_ialdK (pc := 31) C hM (by decide) ce_98 hc rfl dX12_completes_31 ?_
      refine lv_iload_n (pc := 32) hx hb dX12_completes_32 rfl (lv_at hl 4 rfl) ?_
      refine lv_if_ge (pc := 33) (tgt := 40) hx hb dX12_completes_33 (by decide) (fun c33 => ?_) (fun c33 => ?_)
      · have h := h.1 c33
        refine lv_iconst (pc := 40) (v := 1) hx hb dX12_completes_40 (by decide) ?_
        refine lv_aload_n (pc := 41) hx hb dX12_completes_41 rfl (lv_at hl 1 rfl) ?_
        refine g_get (pc := 42) (v := .ref (g_ad G 94)) C hM (by decide) ce_87 fl_RX12_28 rfl dX12_completes_42 ?_
        refine lv_iload_n (pc := 45) hx hb dX12_completes_45 rfl (lv_at hl 4 rfl) ?_
        obtain ⟨hc, h⟩ := h
        refine g_ialdK (pc := 46) C hM (by decide) ce_94 hc rfl dX12_completes_46 ?_
        refine lv_ishl (pc := 47) hx hb dX12_completes_47 ?_
        refine lv_ior (pc := 48) hx hb dX12_completes_48 ?_
        obtain ⟨hc, h⟩ := h
        refine g_iastE (pc := 49) C hM (by decide) ce_98 hc rfl dX12_completes_49 (fun s49 es49 H locs hM => ?_)
        have h := h s49 es49
        exact hret 50 _ _ _ _ dX12_completes_50 h hM
      · have h := h.2 c33
        refine lv_iconst (pc := 36) (v := 0) hx hb dX12_completes_36 (by decide) ?_
        refine lv_goto (pc := 37) (tgt := 48) hx hb dX12_completes_37 (by decide) ?_
        refine lv_ior (pc := 48) hx hb dX12_completes_48 ?_
        obtain ⟨hc, h⟩ := h
        refine g_iastE (pc := 49) C hM (by decide) ce_98 hc rfl dX12_completes_49 (fun s49 es49 H locs hM => ?_)
        have h := h s49 es49
        exact hret 50 _ _ _ _ dX12_completes_50 h hM
abbrev rm_X12_completesAll : Room := { frames := 17, cells := 0, slots := 0, locals := 904 }
theorem dX12_completesAll_0 : decode cX12_completesAll 0 = .ok (.aload_n 0, 1) := by decide +kernel
theorem dX12_completesAll_1 : decode cX12_completesAll 1 = .ok (.invokevirtual 171, 3) := by decide +kernel
theorem dX12_completesAll_4 : decode cX12_completesAll 4 = .ok (.iconst 0, 1) := by decide +kernel
theorem dX12_completesAll_5 : decode cX12_completesAll 5 = .ok (.istore_n 2, 1) := by decide +kernel
theorem dX12_completesAll_6 : decode cX12_completesAll 6 = .ok (.iload_n 2, 1) := by decide +kernel
theorem dX12_completesAll_7 : decode cX12_completesAll 7 = .ok (.iconst 4, 1) := by decide +kernel
theorem dX12_completesAll_8 : decode cX12_completesAll 8 = .ok (.if_icmp .ge 23, 3) := by decide +kernel
theorem dX12_completesAll_11 : decode cX12_completesAll 11 = .ok (.aload_n 0, 1) := by decide +kernel
theorem dX12_completesAll_12 : decode cX12_completesAll 12 = .ok (.getfield 37, 3) := by decide +kernel
theorem dX12_completesAll_15 : decode cX12_completesAll 15 = .ok (.iload_n 2, 1) := by decide +kernel
theorem dX12_completesAll_16 : decode cX12_completesAll 16 = .ok (.iconst 0, 1) := by decide +kernel
theorem dX12_completesAll_17 : decode cX12_completesAll 17 = .ok (.iastore, 1) := by decide +kernel
theorem dX12_completesAll_18 : decode cX12_completesAll 18 = .ok (.aload_n 0, 1) := by decide +kernel
theorem dX12_completesAll_19 : decode cX12_completesAll 19 = .ok (.getfield 40, 3) := by decide +kernel
theorem dX12_completesAll_22 : decode cX12_completesAll 22 = .ok (.iload_n 2, 1) := by decide +kernel
theorem dX12_completesAll_23 : decode cX12_completesAll 23 = .ok (.iconst 0, 1) := by decide +kernel
theorem dX12_completesAll_24 : decode cX12_completesAll 24 = .ok (.iastore, 1) := by decide +kernel
theorem dX12_completesAll_25 : decode cX12_completesAll 25 = .ok (.iinc 2 1, 3) := by decide +kernel
theorem dX12_completesAll_28 : decode cX12_completesAll 28 = .ok (.goto (-22), 3) := by decide +kernel
theorem dX12_completesAll_31 : decode cX12_completesAll 31 = .ok (.aload_n 0, 1) := by decide +kernel
theorem dX12_completesAll_32 : decode cX12_completesAll 32 = .ok (.iconst 0, 1) := by decide +kernel
theorem dX12_completesAll_33 : decode cX12_completesAll 33 = .ok (.aload_n 0, 1) := by decide +kernel
theorem dX12_completesAll_34 : decode cX12_completesAll 34 = .ok (.aload_n 0, 1) := by decide +kernel
theorem dX12_completesAll_35 : decode cX12_completesAll 35 = .ok (.getfield 165, 3) := by decide +kernel
theorem dX12_completesAll_38 : decode cX12_completesAll 38 = .ok (.invokevirtual 159, 3) := by decide +kernel
theorem dX12_completesAll_41 : decode cX12_completesAll 41 = .ok (.iload_n 1, 1) := by decide +kernel
theorem dX12_completesAll_42 : decode cX12_completesAll 42 = .ok (.invokevirtual 204, 3) := by decide +kernel
theorem dX12_completesAll_45 : decode cX12_completesAll 45 = .ok (.return_, 1) := by decide +kernel
set_option maxHeartbeats 4000000 in
set_option maxRecDepth 100000 in
theorem w_X12_completesAll (l : Launch) (G : GP) (x : XP) (a1 : Int32) (σ : Sto) (P : Sto → Prop) (h : D_X12_completesAll a1 σ P) : g_Metv l yX12_completesAll cX12_completesAll 3 rm_X12_completesAll G x [.ref (g_ad G 87), .int a1] σ P := by
  unfold D_X12_completesAll at h
  refine g_ofWv (by decide +kernel) (Nat.le_of_ble_eq_true rfl) ?_
  intro p e s m args below meth c Q ls C hM hl hret
  have hx := C.1
  have hb := C.2.1
  have hl : lv_has ls 3 [(0, .ref (g_ad G 87)), (1, .int a1)] := hl
  have h := h (fun (v2 : Int32) (σ : Sto) => ∀ (H : Heap) (locs : List Loc) (ls : Array Slot), g_M G x σ s H locs → lv_has ls 3 [(0, .ref (g_ad G 87)), (1, .int a1), (2, .int v2)] → W p l e rm_X12_completesAll s m args below meth c H locs 0 0 Q (F0 m 6 ls []))
  have h := h (by
    intro v2 σ h  H locs ls hM hl
    refine lv_iload_n (pc := 6) hx hb dX12_completesAll_6 rfl (lv_at hl 2 rfl) ?_
    refine lv_iconst (pc := 7) (v := 4) hx hb dX12_completesAll_7 (by decide) ?_
    refine lv_icmp_ge (pc := 8) (tgt := 31) hx hb dX12_completesAll_8 (by decide) (fun c8 => ?_) (fun c8 => ?_)
    · have h := h.1 c8
      refine lv_aload_n (pc := 31) hx hb dX12_completesAll_31 rfl (lv_at hl 0 rfl) ?_
      refine lv_iconst (pc := 32) (v := 0) hx hb dX12_completesAll_32 (by decide) ?_
      refine lv_aload_n (pc := 33) hx hb dX12_completesAll_33 rfl (lv_at hl 0 rfl) ?_
      refine lv_aload_n (pc := 34) hx hb dX12_completesAll_34 rfl (lv_at hl 0 rfl) ?_
      refine g_get (pc := 35) (v := .int (σ 87 6)) C hM (by decide) ce_87 fl_RX12_165 rfl dX12_completesAll_35 ?_
      refine g_cVi (pc := 38) C hM hl.1 yv_X12_usedBy q6_236 (by decide) ce_87 rfl (w_X12_usedBy l G x (σ 87 6) σ _ h) rfl rfl ⟨⟨by decide, by decide⟩, by decide, by decide⟩ (Nat.le_of_ble_eq_true rfl) dX12_completesAll_38 (fun r38 s38 H locs h hM => ?_)
      refine lv_iload_n (pc := 41) hx hb dX12_completesAll_41 rfl (lv_at hl 1 rfl) ?_
      refine g_cVv (pc := 42) C hM hl.1 yv_X12_completes q7_103 (by decide) ce_87 rfl (w_X12_completes l G x 8 0 r38 a1 s38 _ h) rfl rfl ⟨⟨by decide, by decide⟩, by decide, by decide⟩ (Nat.le_of_ble_eq_true rfl) dX12_completesAll_42 (fun s42 H locs h hM => ?_)
      exact hret 45 _ _ _ _ dX12_completesAll_45 h hM
    · have h := h.2 c8
      refine lv_aload_n (pc := 11) hx hb dX12_completesAll_11 rfl (lv_at hl 0 rfl) ?_
      refine g_get (pc := 12) (v := .ref (g_ad G 97)) C hM (by decide) ce_87 fl_RX12_37 rfl dX12_completesAll_12 ?_
      refine lv_iload_n (pc := 15) hx hb dX12_completesAll_15 rfl (lv_at hl 2 rfl) ?_
      refine lv_iconst (pc := 16) (v := 0) hx hb dX12_completesAll_16 (by decide) ?_
      obtain ⟨hc, h⟩ := h
      refine g_iastE (pc := 17) C hM (by decide) ce_97 hc rfl dX12_completesAll_17 (fun s17 es17 H locs hM => ?_)
      have h := h s17 es17
      refine lv_aload_n (pc := 18) hx hb dX12_completesAll_18 rfl (lv_at hl 0 rfl) ?_
      refine g_get (pc := 19) (v := .ref (g_ad G 98)) C hM (by decide) ce_87 fl_RX12_40 rfl dX12_completesAll_19 ?_
      refine lv_iload_n (pc := 22) hx hb dX12_completesAll_22 rfl (lv_at hl 2 rfl) ?_
      refine lv_iconst (pc := 23) (v := 0) hx hb dX12_completesAll_23 (by decide) ?_
      obtain ⟨hc, h⟩ := h
      refine g_iastE (pc := 24) C hM (by decide) ce_98 hc rfl dX12_completesAll_24 (fun s24 es24 H locs hM => ?_)
      have h := h s24 es24
      refine lv_iinc (pc := 25) (v := (v2 + 1)) (lv' := [(2, .int (v2 + 1)), (0, .ref (g_ad G 87)), (1, .int a1)]) hx hb dX12_completesAll_25 hl (k := 2) rfl (by rfl) (by decide) rfl (fun ls hl => ?_)
      refine lv_goto (pc := 28) (tgt := 6) hx hb dX12_completesAll_28 (by decide) ?_
      exact h _ _ _ hM (lv_sub hl [1, 2, 0] rfl))
  refine lv_aload_n (pc := 0) hx hb dX12_completesAll_0 rfl (lv_at hl 0 rfl) ?_
  refine g_cVv (pc := 1) C hM hl.1 yv_X12_laySets q7_44 (by decide) ce_87 rfl (w_X12_laySets l G x  σ _ h) rfl rfl ⟨⟨by decide, by decide⟩, by decide, by decide⟩ (Nat.le_of_ble_eq_true rfl) dX12_completesAll_1 (fun s1 H locs h hM => ?_)
  refine lv_iconst (pc := 4) (v := 0) hx hb dX12_completesAll_4 (by decide) ?_
  refine lv_istore_n (pc := 5) (lv' := [(2, .int 0), (0, .ref (g_ad G 87)), (1, .int a1)]) hx hb dX12_completesAll_5 rfl hl (by decide) rfl (fun ls hl => ?_)
  exact h _ _ _ hM (lv_sub hl [1, 2, 0] rfl)
abbrev rm_X12_possible : Room := { frames := 18, cells := 0, slots := 0, locals := 926 }
theorem dX12_possible_0 : decode cX12_possible 0 = .ok (.aload_n 0, 1) := by decide +kernel
theorem dX12_possible_1 : decode cX12_possible 1 = .ok (.iconst 0, 1) := by decide +kernel
theorem dX12_possible_2 : decode cX12_possible 2 = .ok (.putfield 68, 3) := by decide +kernel
theorem dX12_possible_5 : decode cX12_possible 5 = .ok (.aload_n 0, 1) := by decide +kernel
theorem dX12_possible_6 : decode cX12_possible 6 = .ok (.invokevirtual 168, 3) := by decide +kernel
theorem dX12_possible_9 : decode cX12_possible 9 = .ok (.invokestatic 207, 3) := by decide +kernel
theorem dX12_possible_12 : decode cX12_possible 12 = .ok (.iconst 3, 1) := by decide +kernel
theorem dX12_possible_13 : decode cX12_possible 13 = .ok (.if_icmp .le 9, 3) := by decide +kernel
theorem dX12_possible_16 : decode cX12_possible 16 = .ok (.aload_n 0, 1) := by decide +kernel
theorem dX12_possible_17 : decode cX12_possible 17 = .ok (.iconst 1, 1) := by decide +kernel
theorem dX12_possible_18 : decode cX12_possible 18 = .ok (.invokevirtual 78, 3) := by decide +kernel
theorem dX12_possible_21 : decode cX12_possible 21 = .ok (.ireturn, 1) := by decide +kernel
theorem dX12_possible_22 : decode cX12_possible 22 = .ok (.aload_n 0, 1) := by decide +kernel
theorem dX12_possible_23 : decode cX12_possible 23 = .ok (.iconst (-1), 1) := by decide +kernel
theorem dX12_possible_24 : decode cX12_possible 24 = .ok (.invokevirtual 210, 3) := by decide +kernel
theorem dX12_possible_27 : decode cX12_possible 27 = .ok (.iconst 0, 1) := by decide +kernel
theorem dX12_possible_28 : decode cX12_possible 28 = .ok (.istore_n 1, 1) := by decide +kernel
theorem dX12_possible_29 : decode cX12_possible 29 = .ok (.iconst 0, 1) := by decide +kernel
theorem dX12_possible_30 : decode cX12_possible 30 = .ok (.istore_n 2, 1) := by decide +kernel
theorem dX12_possible_31 : decode cX12_possible 31 = .ok (.iload_n 2, 1) := by decide +kernel
theorem dX12_possible_32 : decode cX12_possible 32 = .ok (.iconst 4, 1) := by decide +kernel
theorem dX12_possible_33 : decode cX12_possible 33 = .ok (.if_icmp .ge 28, 3) := by decide +kernel
theorem dX12_possible_36 : decode cX12_possible 36 = .ok (.iload_n 1, 1) := by decide +kernel
theorem dX12_possible_37 : decode cX12_possible 37 = .ok (.aload_n 0, 1) := by decide +kernel
theorem dX12_possible_38 : decode cX12_possible 38 = .ok (.getfield 37, 3) := by decide +kernel
theorem dX12_possible_41 : decode cX12_possible 41 = .ok (.iload_n 2, 1) := by decide +kernel
theorem dX12_possible_42 : decode cX12_possible 42 = .ok (.iaload, 1) := by decide +kernel
theorem dX12_possible_43 : decode cX12_possible 43 = .ok (.ifCond .le 9, 3) := by decide +kernel
theorem dX12_possible_46 : decode cX12_possible 46 = .ok (.iconst 1, 1) := by decide +kernel
theorem dX12_possible_47 : decode cX12_possible 47 = .ok (.iload_n 2, 1) := by decide +kernel
theorem dX12_possible_48 : decode cX12_possible 48 = .ok (.ishl, 1) := by decide +kernel
theorem dX12_possible_49 : decode cX12_possible 49 = .ok (.goto 4, 3) := by decide +kernel
theorem dX12_possible_52 : decode cX12_possible 52 = .ok (.iconst 0, 1) := by decide +kernel
theorem dX12_possible_53 : decode cX12_possible 53 = .ok (.ior, 1) := by decide +kernel
theorem dX12_possible_54 : decode cX12_possible 54 = .ok (.istore_n 1, 1) := by decide +kernel
theorem dX12_possible_55 : decode cX12_possible 55 = .ok (.iinc 2 1, 3) := by decide +kernel
theorem dX12_possible_58 : decode cX12_possible 58 = .ok (.goto (-27), 3) := by decide +kernel
theorem dX12_possible_61 : decode cX12_possible 61 = .ok (.iload_n 1, 1) := by decide +kernel
theorem dX12_possible_62 : decode cX12_possible 62 = .ok (.ireturn, 1) := by decide +kernel
set_option maxHeartbeats 4000000 in
set_option maxRecDepth 100000 in
theorem w_X12_possible (l : Launch) (G : GP) (x : XP) (σ : Sto) (P : Int32 → Sto → Prop) (h : D_X12_possible  σ P) : g_Meti l yX12_possible cX12_possible 3 (some .int) rm_X12_possible G x [.ref (g_ad G 87)] σ P := by
  unfold D_X12_possible at h
  refine g_ofWi (by decide +kernel) (Nat.le_of_ble_eq_true rfl) ?_
  intro p e s m args below meth c Q ls C hM hl hret
  have hx := C.1
  have hb := C.2.1
  have hl : lv_has ls 3 [(0, .ref (g_ad G 87))] := hl
  have h := h (fun (v1 : Int32) (v2 : Int32) (σ : Sto) => ∀ (H : Heap) (locs : List Loc) (ls : Array Slot), g_M G x σ s H locs → lv_has ls 3 [(0, .ref (g_ad G 87)), (1, .int v1), (2, .int v2)] → W p l e rm_X12_possible s m args below meth c H locs 0 0 Q (F0 m 31 ls []))
  have h := h (by
    intro v1 v2 σ h  H locs ls hM hl
    refine lv_iload_n (pc := 31) hx hb dX12_possible_31 rfl (lv_at hl 2 rfl) ?_
    refine lv_iconst (pc := 32) (v := 4) hx hb dX12_possible_32 (by decide) ?_
    refine lv_icmp_ge (pc := 33) (tgt := 61) hx hb dX12_possible_33 (by decide) (fun c33 => ?_) (fun c33 => ?_)
    · have h := h.1 c33
      refine lv_iload_n (pc := 61) hx hb dX12_possible_61 rfl (lv_at hl 1 rfl) ?_
      exact hret 62 _ _ _ _ _ dX12_possible_62 (by rfl) h hM
    · have h := h.2 c33
      refine lv_iload_n (pc := 36) hx hb dX12_possible_36 rfl (lv_at hl 1 rfl) ?_
      refine lv_aload_n (pc := 37) hx hb dX12_possible_37 rfl (lv_at hl 0 rfl) ?_
      refine g_get (pc := 38) (v := .ref (g_ad G 97)) C hM (by decide) ce_87 fl_RX12_37 rfl dX12_possible_38 ?_
      refine lv_iload_n (pc := 41) hx hb dX12_possible_41 rfl (lv_at hl 2 rfl) ?_
      obtain ⟨hc, h⟩ := h
      refine g_ialdK (pc := 42) C hM (by decide) ce_97 hc rfl dX12_possible_42 ?_
      refine lv_if_le (pc := 43) (tgt := 52) hx hb dX12_possible_43 (by decide) (fun c43 => ?_) (fun c43 => ?_)
      · have h := h.1 c43
        refine lv_iconst (pc := 52) (v := 0) hx hb dX12_possible_52 (by decide) ?_
        refine lv_ior (pc := 53) hx hb dX12_possible_53 ?_
        refine lv_istore_n (pc := 54) (lv' := [(1, .int (v1 ||| 0)), (0, .ref (g_ad G 87)), (2, .int v2)]) hx hb dX12_possible_54 rfl hl (by decide) rfl (fun ls hl => ?_)
        refine lv_iinc (pc := 55) (v := (v2 + 1)) (lv' := [(2, .int (v2 + 1)), (1, .int (v1 ||| 0)), (0, .ref (g_ad G 87))]) hx hb dX12_possible_55 hl (k := 2) rfl (by rfl) (by decide) rfl (fun ls hl => ?_)
        refine lv_goto (pc := 58) (tgt := 31) hx hb dX12_possible_58 (by decide) ?_
        exact h _ _ _ hM (lv_sub hl [2, 1, 0] rfl)
      · have h := h.2 c43
        refine lv_iconst (pc := 46) (v := 1) hx hb dX12_possible_46 (by decide) ?_
        refine lv_iload_n (pc := 47) hx hb dX12_possible_47 rfl (lv_at hl 2 rfl) ?_
        refine lv_ishl (pc := 48) hx hb dX12_possible_48 ?_
        refine lv_goto (pc := 49) (tgt := 53) hx hb dX12_possible_49 (by decide) ?_
        refine lv_ior (pc := 53) hx hb dX12_possible_53 ?_
        refine lv_topi (fun v1_54 ev1_54 => ?_)
        have h := h v1_54 ev1_54
        refine lv_istore_n (pc := 54) (lv' := [(1, .int v1_54), (0, .ref (g_ad G 87)), (2, .int v2)]) hx hb dX12_possible_54 rfl hl (by decide) rfl (fun ls hl => ?_)
        refine lv_iinc (pc := 55) (v := (v2 + 1)) (lv' := [(2, .int (v2 + 1)), (1, .int v1_54), (0, .ref (g_ad G 87))]) hx hb dX12_possible_55 hl (k := 2) rfl (by rfl) (by decide) rfl (fun ls hl => ?_)
        refine lv_goto (pc := 58) (tgt := 31) hx hb dX12_possible_58 (by decide) ?_
        exact h _ _ _ hM (lv_sub hl [2, 1, 0] rfl))
  refine lv_aload_n (pc := 0) hx hb dX12_possible_0 rfl (lv_at hl 0 rfl) ?_
  refine lv_iconst (pc := 1) (v := 0) hx hb dX12_possible_1 (by decide) ?_
  refine g_putE (pc := 2) C hM (by decide) ce_87 fp_RX12_68 rfl rfl (Nat.le_of_ble_eq_true rfl) rfl dX12_possible_2 (fun s2 es2 H locs hM => ?_)
  have h := h s2 es2
  refine lv_aload_n (pc := 5) hx hb dX12_possible_5 rfl (lv_at hl 0 rfl) ?_
  refine g_cVi (pc := 6) C hM hl.1 yv_X12_unknownSet q7_36 (by decide) ce_87 rfl (w_X12_unknownSet l G x  s2 _ h) rfl rfl ⟨⟨by decide, by decide⟩, by decide, by decide⟩ (Nat.le_of_ble_eq_true rfl) dX12_possible_6 (fun r6 s6 H locs h hM => ?_)
  refine g_cSi (pc := 9) C hM hl.1 ys_X12_bits q7_96 (w_X12_bits l G x r6 s6 _ h) rfl rfl ⟨⟨by decide, by decide⟩, by decide, by decide⟩ (Nat.le_of_ble_eq_true rfl) dX12_possible_9 (fun r9 s9 H locs h hM => ?_)
  refine lv_iconst (pc := 12) (v := 3) hx hb dX12_possible_12 (by decide) ?_
  refine lv_icmp_le (pc := 13) (tgt := 22) hx hb dX12_possible_13 (by decide) (fun c13 => ?_) (fun c13 => ?_)
  · have h := h.1 c13
    refine lv_aload_n (pc := 22) hx hb dX12_possible_22 rfl (lv_at hl 0 rfl) ?_
    refine lv_iconst (pc := 23) (v := (-1)) hx hb dX12_possible_23 (by decide) ?_
    refine g_cVv (pc := 24) C hM hl.1 yv_X12_completesAll q7_99 (by decide) ce_87 rfl (w_X12_completesAll l G x (-1) s9 _ h) rfl rfl ⟨⟨by decide, by decide⟩, by decide, by decide⟩ (Nat.le_of_ble_eq_true rfl) dX12_possible_24 (fun s24 H locs h hM => ?_)
    refine lv_iconst (pc := 27) (v := 0) hx hb dX12_possible_27 (by decide) ?_
    refine lv_istore_n (pc := 28) (lv' := [(1, .int 0), (0, .ref (g_ad G 87))]) hx hb dX12_possible_28 rfl hl (by decide) rfl (fun ls hl => ?_)
    refine lv_iconst (pc := 29) (v := 0) hx hb dX12_possible_29 (by decide) ?_
    refine lv_istore_n (pc := 30) (lv' := [(2, .int 0), (1, .int 0), (0, .ref (g_ad G 87))]) hx hb dX12_possible_30 rfl hl (by decide) rfl (fun ls hl => ?_)
    exact h _ _ _ hM (lv_sub hl [2, 1, 0] rfl)
  · have h := h.2 c13
    refine lv_aload_n (pc := 16) hx hb dX12_possible_16 rfl (lv_at hl 0 rfl) ?_
    refine lv_iconst (pc := 17) (v := 1) hx hb dX12_possible_17 (by decide) ?_
    refine g_cVi (pc := 18) C hM hl.1 yv_X12_fails q6_89 (by decide) ce_87 rfl (w_X12_fails l G x 1 s9 _ h) rfl rfl ⟨⟨by decide, by decide⟩, by decide, by decide⟩ (Nat.le_of_ble_eq_true rfl) dX12_possible_18 (fun r18 s18 H locs h hM => ?_)
    exact hret 21 _ _ _ _ _ dX12_possible_21 (by rfl) h hM
abbrev rm_X12_completions : Room := { frames := 18, cells := 0, slots := 0, locals := 926 }
theorem dX12_completions_0 : decode cX12_completions 0 = .ok (.aload_n 0, 1) := by decide +kernel
theorem dX12_completions_1 : decode cX12_completions 1 = .ok (.iload_n 1, 1) := by decide +kernel
theorem dX12_completions_2 : decode cX12_completions 2 = .ok (.iconst 0, 1) := by decide +kernel
theorem dX12_completions_3 : decode cX12_completions 3 = .ok (.iconst 3, 1) := by decide +kernel
theorem dX12_completions_4 : decode cX12_completions 4 = .ok (.invokestatic 71, 3) := by decide +kernel
theorem dX12_completions_7 : decode cX12_completions 7 = .ok (.ifCond .eq 22, 3) := by decide +kernel
theorem dX12_completions_10 : decode cX12_completions 10 = .ok (.aload_n 0, 1) := by decide +kernel
theorem dX12_completions_11 : decode cX12_completions 11 = .ok (.invokevirtual 168, 3) := by decide +kernel
theorem dX12_completions_14 : decode cX12_completions 14 = .ok (.invokestatic 207, 3) := by decide +kernel
theorem dX12_completions_17 : decode cX12_completions 17 = .ok (.iconst 3, 1) := by decide +kernel
theorem dX12_completions_18 : decode cX12_completions 18 = .ok (.if_icmp .le 7, 3) := by decide +kernel
theorem dX12_completions_21 : decode cX12_completions 21 = .ok (.iconst 2, 1) := by decide +kernel
theorem dX12_completions_22 : decode cX12_completions 22 = .ok (.goto 8, 3) := by decide +kernel
theorem dX12_completions_25 : decode cX12_completions 25 = .ok (.iconst 0, 1) := by decide +kernel
theorem dX12_completions_26 : decode cX12_completions 26 = .ok (.goto 4, 3) := by decide +kernel
theorem dX12_completions_29 : decode cX12_completions 29 = .ok (.iconst 1, 1) := by decide +kernel
theorem dX12_completions_30 : decode cX12_completions 30 = .ok (.putfield 68, 3) := by decide +kernel
theorem dX12_completions_33 : decode cX12_completions 33 = .ok (.aload_n 0, 1) := by decide +kernel
theorem dX12_completions_34 : decode cX12_completions 34 = .ok (.getfield 68, 3) := by decide +kernel
theorem dX12_completions_37 : decode cX12_completions 37 = .ok (.ifCond .le 5, 3) := by decide +kernel
theorem dX12_completions_40 : decode cX12_completions 40 = .ok (.iconst 0, 1) := by decide +kernel
theorem dX12_completions_41 : decode cX12_completions 41 = .ok (.ireturn, 1) := by decide +kernel
theorem dX12_completions_42 : decode cX12_completions 42 = .ok (.aload_n 0, 1) := by decide +kernel
theorem dX12_completions_43 : decode cX12_completions 43 = .ok (.iconst (-1), 1) := by decide +kernel
theorem dX12_completions_44 : decode cX12_completions 44 = .ok (.invokevirtual 210, 3) := by decide +kernel
theorem dX12_completions_47 : decode cX12_completions 47 = .ok (.aload_n 0, 1) := by decide +kernel
theorem dX12_completions_48 : decode cX12_completions 48 = .ok (.getfield 37, 3) := by decide +kernel
theorem dX12_completions_51 : decode cX12_completions 51 = .ok (.iload_n 1, 1) := by decide +kernel
theorem dX12_completions_52 : decode cX12_completions 52 = .ok (.iaload, 1) := by decide +kernel
theorem dX12_completions_53 : decode cX12_completions 53 = .ok (.ireturn, 1) := by decide +kernel
set_option maxHeartbeats 4000000 in
set_option maxRecDepth 100000 in
theorem w_X12_completions (l : Launch) (G : GP) (x : XP) (a1 : Int32) (σ : Sto) (P : Int32 → Sto → Prop) (h : D_X12_completions a1 σ P) : g_Meti l yX12_completions cX12_completions 2 (some .int) rm_X12_completions G x [.ref (g_ad G 87), .int a1] σ P := by
  unfold D_X12_completions at h
  refine g_ofWi (by decide +kernel) (Nat.le_of_ble_eq_true rfl) ?_
  intro p e s m args below meth c Q ls C hM hl hret
  have hx := C.1
  have hb := C.2.1
  have hl : lv_has ls 2 [(0, .ref (g_ad G 87)), (1, .int a1)] := hl
  refine lv_aload_n (pc := 0) hx hb dX12_completions_0 rfl (lv_at hl 0 rfl) ?_
  refine lv_iload_n (pc := 1) hx hb dX12_completions_1 rfl (lv_at hl 1 rfl) ?_
  refine lv_iconst (pc := 2) (v := 0) hx hb dX12_completions_2 (by decide) ?_
  refine lv_iconst (pc := 3) (v := 3) hx hb dX12_completions_3 (by decide) ?_
  refine g_cSi (pc := 4) C hM hl.1 ys_X12_in q6_108 (w_X12_in l G x a1 0 3 σ _ h) rfl rfl ⟨⟨by decide, by decide⟩, by decide, by decide⟩ (Nat.le_of_ble_eq_true rfl) dX12_completions_4 (fun r4 s4 H locs h hM => ?_)
  refine lv_if_eq (pc := 7) (tgt := 29) hx hb dX12_completions_7 (by decide) (fun c7 => ?_) (fun c7 => ?_)
  · have h := h.1 c7
    refine lv_iconst (pc := 29) (v := 1) hx hb dX12_completions_29 (by decide) ?_
    refine g_putE (pc := 30) C hM (by decide) ce_87 fp_RX12_68 rfl rfl (Nat.le_of_ble_eq_true rfl) rfl dX12_completions_30 (fun s30 es30 H locs hM => ?_)
    have h := h s30 es30
    refine lv_aload_n (pc := 33) hx hb dX12_completions_33 rfl (lv_at hl 0 rfl) ?_
    refine g_get (pc := 34) (v := .int (s30 87 8)) C hM (by decide) ce_87 fl_RX12_68 rfl dX12_completions_34 ?_
    refine lv_if_le (pc := 37) (tgt := 42) hx hb dX12_completions_37 (by decide) (fun c37 => ?_) (fun c37 => ?_)
    · have h := h.1 c37
      refine lv_aload_n (pc := 42) hx hb dX12_completions_42 rfl (lv_at hl 0 rfl) ?_
      refine lv_iconst (pc := 43) (v := (-1)) hx hb dX12_completions_43 (by decide) ?_
      refine g_cVv (pc := 44) C hM hl.1 yv_X12_completesAll q7_99 (by decide) ce_87 rfl (w_X12_completesAll l G x (-1) s30 _ h) rfl rfl ⟨⟨by decide, by decide⟩, by decide, by decide⟩ (Nat.le_of_ble_eq_true rfl) dX12_completions_44 (fun s44 H locs h hM => ?_)
      refine lv_aload_n (pc := 47) hx hb dX12_completions_47 rfl (lv_at hl 0 rfl) ?_
      refine g_get (pc := 48) (v := .ref (g_ad G 97)) C hM (by decide) ce_87 fl_RX12_37 rfl dX12_completions_48 ?_
      refine lv_iload_n (pc := 51) hx hb dX12_completions_51 rfl (lv_at hl 1 rfl) ?_
      obtain ⟨hc, h⟩ := h
      refine g_ialdK (pc := 52) C hM (by decide) ce_97 hc rfl dX12_completions_52 ?_
      exact hret 53 _ _ _ _ _ dX12_completions_53 (by rfl) h hM
    · have h := h.2 c37
      refine lv_iconst (pc := 40) (v := 0) hx hb dX12_completions_40 (by decide) ?_
      exact hret 41 _ _ _ _ _ dX12_completions_41 (by rfl) h hM
  · have h := h.2 c7
    refine lv_aload_n (pc := 10) hx hb dX12_completions_10 rfl (lv_at hl 0 rfl) ?_
    refine g_cVi (pc := 11) C hM hl.1 yv_X12_unknownSet q7_36 (by decide) ce_87 rfl (w_X12_unknownSet l G x  s4 _ h) rfl rfl ⟨⟨by decide, by decide⟩, by decide, by decide⟩ (Nat.le_of_ble_eq_true rfl) dX12_completions_11 (fun r11 s11 H locs h hM => ?_)
    refine g_cSi (pc := 14) C hM hl.1 ys_X12_bits q7_96 (w_X12_bits l G x r11 s11 _ h) rfl rfl ⟨⟨by decide, by decide⟩, by decide, by decide⟩ (Nat.le_of_ble_eq_true rfl) dX12_completions_14 (fun r14 s14 H locs h hM => ?_)
    refine lv_iconst (pc := 17) (v := 3) hx hb dX12_completions_17 (by decide) ?_
    refine lv_icmp_le (pc := 18) (tgt := 25) hx hb dX12_completions_18 (by decide) (fun c18 => ?_) (fun c18 => ?_)
    · have h := h.1 c18
      refine lv_iconst (pc := 25) (v := 0) hx hb dX12_completions_25 (by decide) ?_
      refine lv_goto (pc := 26) (tgt := 30) hx hb dX12_completions_26 (by decide) ?_
      refine g_putE (pc := 30) C hM (by decide) ce_87 fp_RX12_68 rfl rfl (Nat.le_of_ble_eq_true rfl) rfl dX12_completions_30 (fun s30 es30 H locs hM => ?_)
      have h := h s30 es30
      refine lv_aload_n (pc := 33) hx hb dX12_completions_33 rfl (lv_at hl 0 rfl) ?_
      refine g_get (pc := 34) (v := .int (s30 87 8)) C hM (by decide) ce_87 fl_RX12_68 rfl dX12_completions_34 ?_
      refine lv_if_le (pc := 37) (tgt := 42) hx hb dX12_completions_37 (by decide) (fun c37 => ?_) (fun c37 => ?_)
      · have h := h.1 c37
        refine lv_aload_n (pc := 42) hx hb dX12_completions_42 rfl (lv_at hl 0 rfl) ?_
        refine lv_iconst (pc := 43) (v := (-1)) hx hb dX12_completions_43 (by decide) ?_
        refine g_cVv (pc := 44) C hM hl.1 yv_X12_completesAll q7_99 (by decide) ce_87 rfl (w_X12_completesAll l G x (-1) s30 _ h) rfl rfl ⟨⟨by decide, by decide⟩, by decide, by decide⟩ (Nat.le_of_ble_eq_true rfl) dX12_completions_44 (fun s44 H locs h hM => ?_)
        refine lv_aload_n (pc := 47) hx hb dX12_completions_47 rfl (lv_at hl 0 rfl) ?_
        refine g_get (pc := 48) (v := .ref (g_ad G 97)) C hM (by decide) ce_87 fl_RX12_37 rfl dX12_completions_48 ?_
        refine lv_iload_n (pc := 51) hx hb dX12_completions_51 rfl (lv_at hl 1 rfl) ?_
        obtain ⟨hc, h⟩ := h
        refine g_ialdK (pc := 52) C hM (by decide) ce_97 hc rfl dX12_completions_52 ?_
        exact hret 53 _ _ _ _ _ dX12_completions_53 (by rfl) h hM
      · have h := h.2 c37
        refine lv_iconst (pc := 40) (v := 0) hx hb dX12_completions_40 (by decide) ?_
        exact hret 41 _ _ _ _ _ dX12_completions_41 (by rfl) h hM
    · have h := h.2 c18
      refine lv_iconst (pc := 21) (v := 2) hx hb dX12_completions_21 (by decide) ?_
      refine lv_goto (pc := 22) (tgt := 30) hx hb dX12_completions_22 (by decide) ?_
      refine g_putE (pc := 30) C hM (by decide) ce_87 fp_RX12_68 rfl rfl (Nat.le_of_ble_eq_true rfl) rfl dX12_completions_30 (fun s30 es30 H locs hM => ?_)
      have h := h s30 es30
      refine lv_aload_n (pc := 33) hx hb dX12_completions_33 rfl (lv_at hl 0 rfl) ?_
      refine g_get (pc := 34) (v := .int (s30 87 8)) C hM (by decide) ce_87 fl_RX12_68 rfl dX12_completions_34 ?_
      refine lv_if_le (pc := 37) (tgt := 42) hx hb dX12_completions_37 (by decide) (fun c37 => ?_) (fun c37 => ?_)
      · have h := h.1 c37
        refine lv_aload_n (pc := 42) hx hb dX12_completions_42 rfl (lv_at hl 0 rfl) ?_
        refine lv_iconst (pc := 43) (v := (-1)) hx hb dX12_completions_43 (by decide) ?_
        refine g_cVv (pc := 44) C hM hl.1 yv_X12_completesAll q7_99 (by decide) ce_87 rfl (w_X12_completesAll l G x (-1) s30 _ h) rfl rfl ⟨⟨by decide, by decide⟩, by decide, by decide⟩ (Nat.le_of_ble_eq_true rfl) dX12_completions_44 (fun s44 H locs h hM => ?_)
        refine lv_aload_n (pc := 47) hx hb dX12_completions_47 rfl (lv_at hl 0 rfl) ?_
        refine g_get (pc := 48) (v := .ref (g_ad G 97)) C hM (by decide) ce_87 fl_RX12_37 rfl dX12_completions_48 ?_
        refine lv_iload_n (pc := 51) hx hb dX12_completions_51 rfl (lv_at hl 1 rfl) ?_
        obtain ⟨hc, h⟩ := h
        refine g_ialdK (pc := 52) C hM (by decide) ce_97 hc rfl dX12_completions_52 ?_
        exact hret 53 _ _ _ _ _ dX12_completions_53 (by rfl) h hM
      · have h := h.2 c37
        refine lv_iconst (pc := 40) (v := 0) hx hb dX12_completions_40 (by decide) ?_
        exact hret 41 _ _ _ _ _ dX12_completions_41 (by rfl) h hM
abbrev rm_X12_valuesFor : Room := { frames := 18, cells := 0, slots := 0, locals := 926 }
theorem dX12_valuesFor_0 : decode cX12_valuesFor 0 = .ok (.aload_n 0, 1) := by decide +kernel
theorem dX12_valuesFor_1 : decode cX12_valuesFor 1 = .ok (.iload_n 1, 1) := by decide +kernel
theorem dX12_valuesFor_2 : decode cX12_valuesFor 2 = .ok (.invokestatic 101, 3) := by decide +kernel
theorem dX12_valuesFor_5 : decode cX12_valuesFor 5 = .ok (.ifCond .eq 41, 3) := by decide +kernel
theorem dX12_valuesFor_8 : decode cX12_valuesFor 8 = .ok (.iload_n 2, 1) := by decide +kernel
theorem dX12_valuesFor_9 : decode cX12_valuesFor 9 = .ok (.iconst 0, 1) := by decide +kernel
theorem dX12_valuesFor_10 : decode cX12_valuesFor 10 = .ok (.iconst 3, 1) := by decide +kernel
theorem dX12_valuesFor_11 : decode cX12_valuesFor 11 = .ok (.invokestatic 71, 3) := by decide +kernel
theorem dX12_valuesFor_14 : decode cX12_valuesFor 14 = .ok (.ifCond .eq 28, 3) := by decide +kernel
theorem dX12_valuesFor_17 : decode cX12_valuesFor 17 = .ok (.aload_n 0, 1) := by decide +kernel
theorem dX12_valuesFor_18 : decode cX12_valuesFor 18 = .ok (.invokevirtual 168, 3) := by decide +kernel
theorem dX12_valuesFor_21 : decode cX12_valuesFor 21 = .ok (.iconst 1, 1) := by decide +kernel
theorem dX12_valuesFor_22 : decode cX12_valuesFor 22 = .ok (.iload_n 1, 1) := by decide +kernel
theorem dX12_valuesFor_23 : decode cX12_valuesFor 23 = .ok (.ishl, 1) := by decide +kernel
theorem dX12_valuesFor_24 : decode cX12_valuesFor 24 = .ok (.iconst (-1), 1) := by decide +kernel
theorem dX12_valuesFor_25 : decode cX12_valuesFor 25 = .ok (.ixor, 1) := by decide +kernel
theorem dX12_valuesFor_26 : decode cX12_valuesFor 26 = .ok (.iand, 1) := by decide +kernel
theorem dX12_valuesFor_27 : decode cX12_valuesFor 27 = .ok (.invokestatic 207, 3) := by decide +kernel
theorem dX12_valuesFor_30 : decode cX12_valuesFor 30 = .ok (.iconst 2, 1) := by decide +kernel
theorem dX12_valuesFor_31 : decode cX12_valuesFor 31 = .ok (.if_icmp .le 7, 3) := by decide +kernel
theorem dX12_valuesFor_34 : decode cX12_valuesFor 34 = .ok (.iconst 3, 1) := by decide +kernel
theorem dX12_valuesFor_35 : decode cX12_valuesFor 35 = .ok (.goto 12, 3) := by decide +kernel
theorem dX12_valuesFor_38 : decode cX12_valuesFor 38 = .ok (.iconst 0, 1) := by decide +kernel
theorem dX12_valuesFor_39 : decode cX12_valuesFor 39 = .ok (.goto 8, 3) := by decide +kernel
theorem dX12_valuesFor_42 : decode cX12_valuesFor 42 = .ok (.iconst 2, 1) := by decide +kernel
theorem dX12_valuesFor_43 : decode cX12_valuesFor 43 = .ok (.goto 4, 3) := by decide +kernel
theorem dX12_valuesFor_46 : decode cX12_valuesFor 46 = .ok (.iconst 1, 1) := by decide +kernel
theorem dX12_valuesFor_47 : decode cX12_valuesFor 47 = .ok (.putfield 68, 3) := by decide +kernel
theorem dX12_valuesFor_50 : decode cX12_valuesFor 50 = .ok (.aload_n 0, 1) := by decide +kernel
theorem dX12_valuesFor_51 : decode cX12_valuesFor 51 = .ok (.getfield 68, 3) := by decide +kernel
theorem dX12_valuesFor_54 : decode cX12_valuesFor 54 = .ok (.ifCond .le 5, 3) := by decide +kernel
theorem dX12_valuesFor_57 : decode cX12_valuesFor 57 = .ok (.iconst 0, 1) := by decide +kernel
theorem dX12_valuesFor_58 : decode cX12_valuesFor 58 = .ok (.ireturn, 1) := by decide +kernel
theorem dX12_valuesFor_59 : decode cX12_valuesFor 59 = .ok (.aload_n 0, 1) := by decide +kernel
theorem dX12_valuesFor_60 : decode cX12_valuesFor 60 = .ok (.iload_n 1, 1) := by decide +kernel
theorem dX12_valuesFor_61 : decode cX12_valuesFor 61 = .ok (.invokevirtual 210, 3) := by decide +kernel
theorem dX12_valuesFor_64 : decode cX12_valuesFor 64 = .ok (.aload_n 0, 1) := by decide +kernel
theorem dX12_valuesFor_65 : decode cX12_valuesFor 65 = .ok (.getfield 40, 3) := by decide +kernel
theorem dX12_valuesFor_68 : decode cX12_valuesFor 68 = .ok (.iload_n 2, 1) := by decide +kernel
theorem dX12_valuesFor_69 : decode cX12_valuesFor 69 = .ok (.iaload, 1) := by decide +kernel
theorem dX12_valuesFor_70 : decode cX12_valuesFor 70 = .ok (.ireturn, 1) := by decide +kernel
set_option maxHeartbeats 4000000 in
set_option maxRecDepth 100000 in
theorem w_X12_valuesFor (l : Launch) (G : GP) (x : XP) (a1 : Int32) (a2 : Int32) (σ : Sto) (P : Int32 → Sto → Prop) (h : D_X12_valuesFor a1 a2 σ P) : g_Meti l yX12_valuesFor cX12_valuesFor 3 (some .int) rm_X12_valuesFor G x [.ref (g_ad G 87), .int a1, .int a2] σ P := by
  unfold D_X12_valuesFor at h
  refine g_ofWi (by decide +kernel) (Nat.le_of_ble_eq_true rfl) ?_
  intro p e s m args below meth c Q ls C hM hl hret
  have hx := C.1
  have hb := C.2.1
  have hl : lv_has ls 3 [(0, .ref (g_ad G 87)), (1, .int a1), (2, .int a2)] := hl
  refine lv_aload_n (pc := 0) hx hb dX12_valuesFor_0 rfl (lv_at hl 0 rfl) ?_
  refine lv_iload_n (pc := 1) hx hb dX12_valuesFor_1 rfl (lv_at hl 1 rfl) ?_
  refine g_cSi (pc := 2) C hM hl.1 ys_X12_isAttribute q6_123 (w_X12_isAttribute l G x a1 σ _ h) rfl rfl ⟨⟨by decide, by decide⟩, by decide, by decide⟩ (Nat.le_of_ble_eq_true rfl) dX12_valuesFor_2 (fun r2 s2 H locs h hM => ?_)
  refine lv_if_eq (pc := 5) (tgt := 46) hx hb dX12_valuesFor_5 (by decide) (fun c5 => ?_) (fun c5 => ?_)
  · have h := h.1 c5
    refine lv_iconst (pc := 46) (v := 1) hx hb dX12_valuesFor_46 (by decide) ?_
    refine g_putE (pc := 47) C hM (by decide) ce_87 fp_RX12_68 rfl rfl (Nat.le_of_ble_eq_true rfl) rfl dX12_valuesFor_47 (fun s47 es47 H locs hM => ?_)
    have h := h s47 es47
    refine lv_aload_n (pc := 50) hx hb dX12_valuesFor_50 rfl (lv_at hl 0 rfl) ?_
    refine g_get (pc := 51) (v := .int (s47 87 8)) C hM (by decide) ce_87 fl_RX12_68 rfl dX12_valuesFor_51 ?_
    refine lv_if_le (pc := 54) (tgt := 59) hx hb dX12_valuesFor_54 (by decide) (fun c54 => ?_) (fun c54 => ?_)
    · have h := h.1 c54
      refine lv_aload_n (pc := 59) hx hb dX12_valuesFor_59 rfl (lv_at hl 0 rfl) ?_
      refine lv_iload_n (pc := 60) hx hb dX12_valuesFor_60 rfl (lv_at hl 1 rfl) ?_
      refine g_cVv (pc := 61) C hM hl.1 yv_X12_completesAll q7_99 (by decide) ce_87 rfl (w_X12_completesAll l G x a1 s47 _ h) rfl rfl ⟨⟨by decide, by decide⟩, by decide, by decide⟩ (Nat.le_of_ble_eq_true rfl) dX12_valuesFor_61 (fun s61 H locs h hM => ?_)
      refine lv_aload_n (pc := 64) hx hb dX12_valuesFor_64 rfl (lv_at hl 0 rfl) ?_
      refine g_get (pc := 65) (v := .ref (g_ad G 98)) C hM (by decide) ce_87 fl_RX12_40 rfl dX12_valuesFor_65 ?_
      refine lv_iload_n (pc := 68) hx hb dX12_valuesFor_68 rfl (lv_at hl 2 rfl) ?_
      obtain ⟨hc, h⟩ := h
      refine g_ialdK (pc := 69) C hM (by decide) ce_98 hc rfl dX12_valuesFor_69 ?_
      exact hret 70 _ _ _ _ _ dX12_valuesFor_70 (by rfl) h hM
    · have h := h.2 c54
      refine lv_iconst (pc := 57) (v := 0) hx hb dX12_valuesFor_57 (by decide) ?_
      exact hret 58 _ _ _ _ _ dX12_valuesFor_58 (by rfl) h hM
  · have h := h.2 c5
    refine lv_iload_n (pc := 8) hx hb dX12_valuesFor_8 rfl (lv_at hl 2 rfl) ?_
    refine lv_iconst (pc := 9) (v := 0) hx hb dX12_valuesFor_9 (by decide) ?_
    refine lv_iconst (pc := 10) (v := 3) hx hb dX12_valuesFor_10 (by decide) ?_
    refine g_cSi (pc := 11) C hM hl.1 ys_X12_in q6_108 (w_X12_in l G x a2 0 3 s2 _ h) rfl rfl ⟨⟨by decide, by decide⟩, by decide, by decide⟩ (Nat.le_of_ble_eq_true rfl) dX12_valuesFor_11 (fun r11 s11 H locs h hM => ?_)
    refine lv_if_eq (pc := 14) (tgt := 42) hx hb dX12_valuesFor_14 (by decide) (fun c14 => ?_) (fun c14 => ?_)
    · have h := h.1 c14
      refine lv_iconst (pc := 42) (v := 2) hx hb dX12_valuesFor_42 (by decide) ?_
      refine lv_goto (pc := 43) (tgt := 47) hx hb dX12_valuesFor_43 (by decide) ?_
      refine g_putE (pc := 47) C hM (by decide) ce_87 fp_RX12_68 rfl rfl (Nat.le_of_ble_eq_true rfl) rfl dX12_valuesFor_47 (fun s47 es47 H locs hM => ?_)
      have h := h s47 es47
      refine lv_aload_n (pc := 50) hx hb dX12_valuesFor_50 rfl (lv_at hl 0 rfl) ?_
      refine g_get (pc := 51) (v := .int (s47 87 8)) C hM (by decide) ce_87 fl_RX12_68 rfl dX12_valuesFor_51 ?_
      refine lv_if_le (pc := 54) (tgt := 59) hx hb dX12_valuesFor_54 (by decide) (fun c54 => ?_) (fun c54 => ?_)
      · have h := h.1 c54
        refine lv_aload_n (pc := 59) hx hb dX12_valuesFor_59 rfl (lv_at hl 0 rfl) ?_
        refine lv_iload_n (pc := 60) hx hb dX12_valuesFor_60 rfl (lv_at hl 1 rfl) ?_
        refine g_cVv (pc := 61) C hM hl.1 yv_X12_completesAll q7_99 (by decide) ce_87 rfl (w_X12_completesAll l G x a1 s47 _ h) rfl rfl ⟨⟨by decide, by decide⟩, by decide, by decide⟩ (Nat.le_of_ble_eq_true rfl) dX12_valuesFor_61 (fun s61 H locs h hM => ?_)
        refine lv_aload_n (pc := 64) hx hb dX12_valuesFor_64 rfl (lv_at hl 0 rfl) ?_
        refine g_get (pc := 65) (v := .ref (g_ad G 98)) C hM (by decide) ce_87 fl_RX12_40 rfl dX12_valuesFor_65 ?_
        refine lv_iload_n (pc := 68) hx hb dX12_valuesFor_68 rfl (lv_at hl 2 rfl) ?_
        obtain ⟨hc, h⟩ := h
        refine g_ialdK (pc := 69) C hM (by decide) ce_98 hc rfl dX12_valuesFor_69 ?_
        exact hret 70 _ _ _ _ _ dX12_valuesFor_70 (by rfl) h hM
      · have h := h.2 c54
        refine lv_iconst (pc := 57) (v := 0) hx hb dX12_valuesFor_57 (by decide) ?_
        exact hret 58 _ _ _ _ _ dX12_valuesFor_58 (by rfl) h hM
    · have h := h.2 c14
      refine lv_aload_n (pc := 17) hx hb dX12_valuesFor_17 rfl (lv_at hl 0 rfl) ?_
      refine g_cVi (pc := 18) C hM hl.1 yv_X12_unknownSet q7_36 (by decide) ce_87 rfl (w_X12_unknownSet l G x  s11 _ h) rfl rfl ⟨⟨by decide, by decide⟩, by decide, by decide⟩ (Nat.le_of_ble_eq_true rfl) dX12_valuesFor_18 (fun r18 s18 H locs h hM => ?_)
      refine lv_iconst (pc := 21) (v := 1) hx hb dX12_valuesFor_21 (by decide) ?_
      refine lv_iload_n (pc := 22) hx hb dX12_valuesFor_22 rfl (lv_at hl 1 rfl) ?_
      refine lv_ishl (pc := 23) hx hb dX12_valuesFor_23 ?_
      refine lv_iconst (pc := 24) (v := (-1)) hx hb dX12_valuesFor_24 (by decide) ?_
      refine lv_ixor (pc := 25) hx hb dX12_valuesFor_25 ?_
      refine lv_iand (pc := 26) hx hb dX12_valuesFor_26 ?_
      refine g_cSi (pc := 27) C hM hl.1 ys_X12_bits q7_96 (w_X12_bits l G x (r18 &&& (((1 : Int32) <<< (a1 &&& 31)) ^^^ (-1))) s18 _ h) rfl rfl ⟨⟨by decide, by decide⟩, by decide, by decide⟩ (Nat.le_of_ble_eq_true rfl) dX12_valuesFor_27 (fun r27 s27 H locs h hM => ?_)
      refine lv_iconst (pc := 30) (v := 2) hx hb dX12_valuesFor_30 (by decide) ?_
      refine lv_icmp_le (pc := 31) (tgt := 38) hx hb dX12_valuesFor_31 (by decide) (fun c31 => ?_) (fun c31 => ?_)
      · have h := h.1 c31
        refine lv_iconst (pc := 38) (v := 0) hx hb dX12_valuesFor_38 (by decide) ?_
        refine lv_goto (pc := 39) (tgt := 47) hx hb dX12_valuesFor_39 (by decide) ?_
        refine g_putE (pc := 47) C hM (by decide) ce_87 fp_RX12_68 rfl rfl (Nat.le_of_ble_eq_true rfl) rfl dX12_valuesFor_47 (fun s47 es47 H locs hM => ?_)
        have h := h s47 es47
        refine lv_aload_n (pc := 50) hx hb dX12_valuesFor_50 rfl (lv_at hl 0 rfl) ?_
        refine g_get (pc := 51) (v := .int (s47 87 8)) C hM (by decide) ce_87 fl_RX12_68 rfl dX12_valuesFor_51 ?_
        refine lv_if_le (pc := 54) (tgt := 59) hx hb dX12_valuesFor_54 (by decide) (fun c54 => ?_) (fun c54 => ?_)
        · have h := h.1 c54
          refine lv_aload_n (pc := 59) hx hb dX12_valuesFor_59 rfl (lv_at hl 0 rfl) ?_
          refine lv_iload_n (pc := 60) hx hb dX12_valuesFor_60 rfl (lv_at hl 1 rfl) ?_
          refine g_cVv (pc := 61) C hM hl.1 yv_X12_completesAll q7_99 (by decide) ce_87 rfl (w_X12_completesAll l G x a1 s47 _ h) rfl rfl ⟨⟨by decide, by decide⟩, by decide, by decide⟩ (Nat.le_of_ble_eq_true rfl) dX12_valuesFor_61 (fun s61 H locs h hM => ?_)
          refine lv_aload_n (pc := 64) hx hb dX12_valuesFor_64 rfl (lv_at hl 0 rfl) ?_
          refine g_get (pc := 65) (v := .ref (g_ad G 98)) C hM (by decide) ce_87 fl_RX12_40 rfl dX12_valuesFor_65 ?_
          refine lv_iload_n (pc := 68) hx hb dX12_valuesFor_68 rfl (lv_at hl 2 rfl) ?_
          obtain ⟨hc, h⟩ := h
          refine g_ialdK (pc := 69) C hM (by decide) ce_98 hc rfl dX12_valuesFor_69 ?_
          exact hret 70 _ _ _ _ _ dX12_valuesFor_70 (by rfl) h hM
        · have h := h.2 c54
          refine lv_iconst (pc := 57) (v := 0) hx hb dX12_valuesFor_57 (by decide) ?_
          exact hret 58 _ _ _ _ _ dX12_valuesFor_58 (by rfl) h hM
      · have h := h.2 c31
        refine lv_iconst (pc := 34) (v := 3) hx hb dX12_valuesFor_34 (by decide) ?_
        refine lv_goto (pc := 35) (tgt := 47) hx hb dX12_valuesFor_35 (by decide) ?_
        refine g_putE (pc := 47) C hM (by decide) ce_87 fp_RX12_68 rfl rfl (Nat.le_of_ble_eq_true rfl) rfl dX12_valuesFor_47 (fun s47 es47 H locs hM => ?_)
        have h := h s47 es47
        refine lv_aload_n (pc := 50) hx hb dX12_valuesFor_50 rfl (lv_at hl 0 rfl) ?_
        refine g_get (pc := 51) (v := .int (s47 87 8)) C hM (by decide) ce_87 fl_RX12_68 rfl dX12_valuesFor_51 ?_
        refine lv_if_le (pc := 54) (tgt := 59) hx hb dX12_valuesFor_54 (by decide) (fun c54 => ?_) (fun c54 => ?_)
        · have h := h.1 c54
          refine lv_aload_n (pc := 59) hx hb dX12_valuesFor_59 rfl (lv_at hl 0 rfl) ?_
          refine lv_iload_n (pc := 60) hx hb dX12_valuesFor_60 rfl (lv_at hl 1 rfl) ?_
          refine g_cVv (pc := 61) C hM hl.1 yv_X12_completesAll q7_99 (by decide) ce_87 rfl (w_X12_completesAll l G x a1 s47 _ h) rfl rfl ⟨⟨by decide, by decide⟩, by decide, by decide⟩ (Nat.le_of_ble_eq_true rfl) dX12_valuesFor_61 (fun s61 H locs h hM => ?_)
          refine lv_aload_n (pc := 64) hx hb dX12_valuesFor_64 rfl (lv_at hl 0 rfl) ?_
          refine g_get (pc := 65) (v := .ref (g_ad G 98)) C hM (by decide) ce_87 fl_RX12_40 rfl dX12_valuesFor_65 ?_
          refine lv_iload_n (pc := 68) hx hb dX12_valuesFor_68 rfl (lv_at hl 2 rfl) ?_
          obtain ⟨hc, h⟩ := h
          refine g_ialdK (pc := 69) C hM (by decide) ce_98 hc rfl dX12_valuesFor_69 ?_
          exact hret 70 _ _ _ _ _ dX12_valuesFor_70 (by rfl) h hM
        · have h := h.2 c54
          refine lv_iconst (pc := 57) (v := 0) hx hb dX12_valuesFor_57 (by decide) ?_
          exact hret 58 _ _ _ _ _ dX12_valuesFor_58 (by rfl) h hM
