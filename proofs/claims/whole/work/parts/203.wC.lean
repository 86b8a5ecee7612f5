abbrev rm_X5_contains : Room := { frames := 2, cells := 0, slots := 0, locals := 45 }
theorem dX5_contains_0 : decode cX5_contains 0 = .ok (.aload_n 0, 1) := by decide +kernel
theorem dX5_contains_1 : decode cX5_contains 1 = .ok (.iload_n 2, 1) := by decide +kernel
theorem dX5_contains_2 : decode cX5_contains 2 = .ok (.invokevirtual 91, 3) := by decide +kernel
theorem dX5_contains_5 : decode cX5_contains 5 = .ok (.ifCond .ne 5, 3) := by decide +kernel
theorem dX5_contains_8 : decode cX5_contains 8 = .ok (.iconst 1, 1) := by decide +kernel
theorem dX5_contains_9 : decode cX5_contains 9 = .ok (.ireturn, 1) := by decide +kernel
theorem dX5_contains_10 : decode cX5_contains 10 = .ok (.iconst 0, 1) := by decide +kernel
theorem dX5_contains_11 : decode cX5_contains 11 = .ok (.istore_n 3, 1) := by decide +kernel
theorem dX5_contains_12 : decode cX5_contains 12 = .ok (.iload_n 3, 1) := by decide +kernel
theorem dX5_contains_13 : decode cX5_contains 13 = .ok (.bipush 6, 2) := by decide +kernel
theorem dX5_contains_15 : decode cX5_contains 15 = .ok (.if_icmp .ge 29, 3) := by decide +kernel
theorem dX5_contains_18 : decode cX5_contains 18 = .ok (.aload_n 0, 1) := by decide +kernel
theorem dX5_contains_19 : decode cX5_contains 19 = .ok (.iload_n 2, 1) := by decide +kernel
theorem dX5_contains_20 : decode cX5_contains 20 = .ok (.iload_n 3, 1) := by decide +kernel
theorem dX5_contains_21 : decode cX5_contains 21 = .ok (.invokevirtual 60, 3) := by decide +kernel
theorem dX5_contains_24 : decode cX5_contains 24 = .ok (.aload_n 0, 1) := by decide +kernel
theorem dX5_contains_25 : decode cX5_contains 25 = .ok (.iload_n 1, 1) := by decide +kernel
theorem dX5_contains_26 : decode cX5_contains 26 = .ok (.iload_n 3, 1) := by decide +kernel
theorem dX5_contains_27 : decode cX5_contains 27 = .ok (.invokevirtual 60, 3) := by decide +kernel
theorem dX5_contains_30 : decode cX5_contains 30 = .ok (.iconst (-1), 1) := by decide +kernel
theorem dX5_contains_31 : decode cX5_contains 31 = .ok (.ixor, 1) := by decide +kernel
theorem dX5_contains_32 : decode cX5_contains 32 = .ok (.iand, 1) := by decide +kernel
theorem dX5_contains_33 : decode cX5_contains 33 = .ok (.ifCond .eq 5, 3) := by decide +kernel
theorem dX5_contains_36 : decode cX5_contains 36 = .ok (.iconst 0, 1) := by decide +kernel
theorem dX5_contains_37 : decode cX5_contains 37 = .ok (.ireturn, 1) := by decide +kernel
theorem dX5_contains_38 : decode cX5_contains 38 = .ok (.iinc 3 1, 3) := by decide +kernel
theorem dX5_contains_41 : decode cX5_contains 41 = .ok (.goto (-29), 3) := by decide +kernel
theorem dX5_contains_44 : decode cX5_contains 44 = .ok (.iconst 1, 1) := by decide +kernel
theorem dX5_contains_45 : decode cX5_contains 45 = .ok (.ireturn, 1) := by decide +kernel
set_option maxHeartbeats 4000000 in
set_option maxRecDepth 100000 in
theorem w_X5_contains (l : Launch) (G : GP) (x : XP) (a1 : Int32) (a2 : Int32) (σ : Sto) (P : Int32 → Sto → Prop) (h : D_X5_contains a1 a2 σ P) : g_Meti l yX5_contains cX5_contains 4 (some .boolean) rm_X5_contains G x [.ref (g_ad G 65), .int a1, .int a2] σ P := by
  unfold D_X5_contains at h
  refine g_ofWi (by decide +kernel) (Nat.le_of_ble_eq_true rfl) ?_
  intro p e s m args below meth c Q ls C hM hl hret
  have hx := C.1
  have hb := C.2.1
  have hl : lv_has ls 4 [(0, .ref (g_ad G 65)), (1, .int a1), (2, .int a2)] := hl
  have h := h (fun (v3 : Int32) (σ : Sto) => ∀ (H : Heap) (locs : List Loc) (ls : Array Slot), g_M G x σ s H locs → lv_has ls 4 [(0, .ref (g_ad G 65)), (1, .int a1), (2, .int a2), (3, .int v3)] → W p l e rm_X5_contains s m args below meth c H locs 0 0 Q (F0 m 12 ls []))
  have h := h (by
    intro v3 σ h  H locs ls hM hl
    refine lv_iload_n (pc := 12) hx hb dX5_contains_12 rfl (lv_at hl 3 rfl) ?_
    refine lv_bipush (pc := 13) (v := 6) hx hb dX5_contains_13 (by decide) ?_
    refine lv_icmp_ge (pc := 15) (tgt := 44) hx hb dX5_contains_15 (by decide) (fun c15 => ?_) (fun c15 => ?_)
    · have h := h.1 c15
      refine lv_iconst (pc := 44) (v := 1) hx hb dX5_contains_44 (by decide) ?_
      exact hret 45 _ _ _ _ _ dX5_contains_45 (by rfl) h hM
    · have h := h.2 c15
      refine lv_aload_n (pc := 18) hx hb dX5_contains_18 rfl (lv_at hl 0 rfl) ?_
      refine lv_iload_n (pc := 19) hx hb dX5_contains_19 rfl (lv_at hl 2 rfl) ?_
      refine lv_iload_n (pc := 20) hx hb dX5_contains_20 rfl (lv_at hl 3 rfl) ?_
      refine g_cVi (pc := 21) C hM hl.1 yv_X5_box q4_52 (by decide) ce_65 rfl (w_X5_box l G x a2 v3 σ _ h) rfl rfl ⟨⟨by decide, by decide⟩, by decide, by decide⟩ (Nat.le_of_ble_eq_true rfl) dX5_contains_21 (fun r21 s21 H locs h hM => ?_)
      refine lv_aload_n (pc := 24) hx hb dX5_contains_24 rfl (lv_at hl 0 rfl) ?_
      refine lv_iload_n (pc := 25) hx hb dX5_contains_25 rfl (lv_at hl 1 rfl) ?_
      refine lv_iload_n (pc := 26) hx hb dX5_contains_26 rfl (lv_at hl 3 rfl) ?_
      refine g_cVi (pc := 27) C hM hl.1 yv_X5_box q4_52 (by decide) ce_65 rfl (w_X5_box l G x a1 v3 s21 _ h) rfl rfl ⟨⟨by decide, by decide⟩, by decide, by decide⟩ (Nat.le_of_ble_eq_true rfl) dX5_contains_27 (fun r27 s27 H locs h hM => ?_)
      refine lv_iconst (pc := 30) (v := (-1)) hx hb dX5_contains_30 (by decide) ?_
      refine lv_ixor (pc := 31) hx hb dX5_contains_31 ?_
      refine lv_iand (pc := 32) hx hb dX5_contains_32 ?_
      refine lv_if_eq (pc := 33) (tgt := 38) hx hb dX5_contains_33 (by decide) (fun c33 => ?_) (fun c33 => ?_)
      · have h := h.1 c33
        refine lv_iinc (pc := 38) (v := (v3 + 1)) (lv' := [(3, .int (v3 + 1)), (0, .ref (g_ad G 65)), (1, .int a1), (2, .int a2)]) hx hb dX5_contains_38 hl (k := 3) rfl (by rfl) (by decide) rfl (fun ls hl => ?_)
        refine lv_goto (pc := 41) (tgt := 12) hx hb dX5_contains_41 (by decide) ?_
        exact h _ _ _ hM (lv_sub hl [1, 2, 3, 0] rfl)
      · have h := h.2 c33
        refine lv_iconst (pc := 36) (v := 0) hx hb dX5_contains_36 (by decide) ?_
        exact hret 37 _ _ _ _ _ dX5_contains_37 (by rfl) h hM)
  refine lv_aload_n (pc := 0) hx hb dX5_contains_0 rfl (lv_at hl 0 rfl) ?_
  refine lv_iload_n (pc := 1) hx hb dX5_contains_1 rfl (lv_at hl 2 rfl) ?_
  refine g_cVi (pc := 2) C hM hl.1 yv_X5_sizeOf q4_212 (by decide) ce_65 rfl (w_X5_sizeOf l G x a2 σ _ h) rfl rfl ⟨⟨by decide, by decide⟩, by decide, by decide⟩ (Nat.le_of_ble_eq_true rfl) dX5_contains_2 (fun r2 s2 H locs h hM => ?_)
  refine lv_if_ne (pc := 5) (tgt := 10) hx hb dX5_contains_5 (by decide) (fun c5 => ?_) (fun c5 => ?_)
  · have h := h.2 c5
    refine lv_iconst (pc := 10) (v := 0) hx hb dX5_contains_10 (by decide) ?_
    refine lv_istore_n (pc := 11) (lv' := [(3, .int 0), (0, .ref (g_ad G 65)), (1, .int a1), (2, .int a2)]) hx hb dX5_contains_11 rfl hl (by decide) rfl (fun ls hl => ?_)
    exact h _ _ _ hM (lv_sub hl [1, 2, 3, 0] rfl)
  · have h := h.1 c5
    refine lv_iconst (pc := 8) (v := 1) hx hb dX5_contains_8 (by decide) ?_
    exact hret 9 _ _ _ _ _ dX5_contains_9 (by rfl) h hM
abbrev rm_X5_areOpposed : Room := { frames := 0, cells := 0, slots := 0, locals := 0 }
theorem dX5_areOpposed_0 : decode cX5_areOpposed 0 = .ok (.iconst 1, 1) := by decide +kernel
theorem dX5_areOpposed_1 : decode cX5_areOpposed 1 = .ok (.iload_n 1, 1) := by decide +kernel
theorem dX5_areOpposed_2 : decode cX5_areOpposed 2 = .ok (.ishl, 1) := by decide +kernel
theorem dX5_areOpposed_3 : decode cX5_areOpposed 3 = .ok (.iconst 1, 1) := by decide +kernel
theorem dX5_areOpposed_4 : decode cX5_areOpposed 4 = .ok (.iload_n 2, 1) := by decide +kernel
theorem dX5_areOpposed_5 : decode cX5_areOpposed 5 = .ok (.ishl, 1) := by decide +kernel
theorem dX5_areOpposed_6 : decode cX5_areOpposed 6 = .ok (.ior, 1) := by decide +kernel
theorem dX5_areOpposed_7 : decode cX5_areOpposed 7 = .ok (.istore 4, 2) := by decide +kernel
theorem dX5_areOpposed_9 : decode cX5_areOpposed 9 = .ok (.iload 4, 2) := by decide +kernel
theorem dX5_areOpposed_11 : decode cX5_areOpposed 11 = .ok (.aload_n 0, 1) := by decide +kernel
theorem dX5_areOpposed_12 : decode cX5_areOpposed 12 = .ok (.getfield 32, 3) := by decide +kernel
theorem dX5_areOpposed_15 : decode cX5_areOpposed 15 = .ok (.iand, 1) := by decide +kernel
theorem dX5_areOpposed_16 : decode cX5_areOpposed 16 = .ok (.istore 5, 2) := by decide +kernel
theorem dX5_areOpposed_18 : decode cX5_areOpposed 18 = .ok (.iload 4, 2) := by decide +kernel
theorem dX5_areOpposed_20 : decode cX5_areOpposed 20 = .ok (.aload_n 0, 1) := by decide +kernel
theorem dX5_areOpposed_21 : decode cX5_areOpposed 21 = .ok (.getfield 21, 3) := by decide +kernel
theorem dX5_areOpposed_24 : decode cX5_areOpposed 24 = .ok (.iload_n 3, 1) := by decide +kernel
theorem dX5_areOpposed_25 : decode cX5_areOpposed 25 = .ok (.iaload, 1) := by decide +kernel
theorem dX5_areOpposed_26 : decode cX5_areOpposed 26 = .ok (.iconst (-1), 1) := by decide +kernel
theorem dX5_areOpposed_27 : decode cX5_areOpposed 27 = .ok (.ixor, 1) := by decide +kernel
theorem dX5_areOpposed_28 : decode cX5_areOpposed 28 = .ok (.iand, 1) := by decide +kernel
theorem dX5_areOpposed_29 : decode cX5_areOpposed 29 = .ok (.ifCond .ne 19, 3) := by decide +kernel
theorem dX5_areOpposed_32 : decode cX5_areOpposed 32 = .ok (.iload 5, 2) := by decide +kernel
theorem dX5_areOpposed_34 : decode cX5_areOpposed 34 = .ok (.ifCond .eq 14, 3) := by decide +kernel
theorem dX5_areOpposed_37 : decode cX5_areOpposed 37 = .ok (.iload 5, 2) := by decide +kernel
theorem dX5_areOpposed_39 : decode cX5_areOpposed 39 = .ok (.iload 4, 2) := by decide +kernel
theorem dX5_areOpposed_41 : decode cX5_areOpposed 41 = .ok (.if_icmp .eq 7, 3) := by decide +kernel
theorem dX5_areOpposed_44 : decode cX5_areOpposed 44 = .ok (.iconst 1, 1) := by decide +kernel
theorem dX5_areOpposed_45 : decode cX5_areOpposed 45 = .ok (.goto 4, 3) := by decide +kernel
theorem dX5_areOpposed_48 : decode cX5_areOpposed 48 = .ok (.iconst 0, 1) := by decide +kernel
theorem dX5_areOpposed_49 : decode cX5_areOpposed 49 = .ok (.ireturn, 1) := by decide +kernel
set_option maxHeartbeats 4000000 in
set_option maxRecDepth 100000 in
theorem w_X5_areOpposed (l : Launch) (G : GP) (x : XP) (a1 : Int32) (a2 : Int32) (a3 : Int32) (σ : Sto) (P : Int32 → Sto → Prop) (h : D_X5_areOpposed a1 a2 a3 σ P) : g_Meti l yX5_areOpposed cX5_areOpposed 6 (some .boolean) rm_X5_areOpposed G x [.ref (g_ad G 65), .int a1, .int a2, .int a3] σ P := by
  unfold D_X5_areOpposed at h
  refine g_ofWi (by decide +kernel) (Nat.le_of_ble_eq_true rfl) ?_
  intro p e s m args below meth c Q ls C hM hl hret
  have hx := C.1
  have hb := C.2.1
  have hl : lv_has ls 6 [(0, .ref (g_ad G 65)), (1, .int a1), (2, .int a2), (3, .int a3)] := hl
  refine lv_iconst (pc := 0) (v := 1) hx hb dX5_areOpposed_0 (by decide) ?_
  refine lv_iload_n (pc := 1) hx hb dX5_areOpposed_1 rfl (lv_at hl 1 rfl) ?_
  refine lv_ishl (pc := 2) hx hb dX5_areOpposed_2 ?_
  refine lv_iconst (pc := 3) (v := 1) hx hb dX5_areOpposed_3 (by decide) ?_
  refine lv_iload_n (pc := 4) hx hb dX5_areOpposed_4 rfl (lv_at hl 2 rfl) ?_
  refine lv_ishl (pc := 5) hx hb dX5_areOpposed_5 ?_
  refine lv_ior (pc := 6) hx hb dX5_areOpposed_6 ?_
  refine lv_topi (fun v4_7 ev4_7 => ?_)
  have h := h v4_7 ev4_7
  refine lv_istore (pc := 7) (lv' := [(4, .int v4_7), (0, .ref (g_ad G 65)), (1, .int a1), (2, .int a2), (3, .int a3)]) hx hb dX5_areOpposed_7 hl (by decide) rfl (fun ls hl => ?_)
  refine lv_iload (pc := 9) hx hb dX5_areOpposed_9 (lv_at hl 0 rfl) ?_
  refine lv_aload_n (pc := 11) hx hb dX5_areOpposed_11 rfl (lv_at hl 1 rfl) ?_
  refine g_get (pc := 12) (v := .int (σ 65 5)) C hM (by decide) ce_65 fl_RX5_32 rfl dX5_areOpposed_12 ?_
  refine lv_iand (pc := 15) hx hb dX5_areOpposed_15 ?_
  refine lv_istore (pc := 16) (lv' := [(5, .int (v4_7 &&& (σ 65 5))), (4, .int v4_7), (0, .ref (g_ad G 65)), (1, .int a1), (2, .int a2), (3, .int a3)]) hx hb dX5_areOpposed_16 hl (by decide) rfl (fun ls hl => ?_)
  refine lv_iload (pc := 18) hx hb dX5_areOpposed_18 (lv_at hl 1 rfl) ?_
  refine lv_aload_n (pc := 20) hx hb dX5_areOpposed_20 rfl (lv_at hl 2 rfl) ?_
  refine g_get (pc := 21) (v := .ref (g_ad G 69)) C hM (by decide) ce_65 fl_RX5_21 rfl dX5_areOpposed_21 ?_
  refine lv_iload_n (pc := 24) hx hb dX5_areOpposed_24 rfl (lv_at hl 5 rfl) ?_
  obtain ⟨hc, h⟩ := h
  refine g_ialdK (pc := 25) C hM (by decide) ce_69 hc rfl dX5_areOpposed_25 ?_
  refine lv_iconst (pc := 26) (v := (-1)) hx hb dX5_areOpposed_26 (by decide) ?_
  refine lv_ixor (pc := 27) hx hb dX5_areOpposed_27 ?_
  refine lv_iand (pc := 28) hx hb dX5_areOpposed_28 ?_
  refine lv_if_ne (pc := 29) (tgt := 48) hx hb dX5_areOpposed_29 (by decide) (fun c29 => ?_) (fun c29 => ?_)
  · have h := h.2 c29
    refine lv_iconst (pc := 48) (v := 0) hx hb dX5_areOpposed_48 (by decide) ?_
    exact hret 49 _ _ _ _ _ dX5_areOpposed_49 (by rfl) h hM
  · have h := h.1 c29
    refine lv_iload (pc := 32) hx hb dX5_areOpposed_32 (lv_at hl 0 rfl) ?_
    refine lv_if_eq (pc := 34) (tgt := 48) hx hb dX5_areOpposed_34 (by decide) (fun c34 => ?_) (fun c34 => ?_)
    · have h := h.1 c34
      refine lv_iconst (pc := 48) (v := 0) hx hb dX5_areOpposed_48 (by decide) ?_
      exact hret 49 _ _ _ _ _ dX5_areOpposed_49 (by rfl) h hM
    · have h := h.2 c34
      refine lv_iload (pc := 37) hx hb dX5_areOpposed_37 (lv_at hl 0 rfl) ?_
      refine lv_iload (pc := 39) hx hb dX5_areOpposed_39 (lv_at hl 1 rfl) ?_
      refine lv_icmp_eq (pc := 41) (tgt := 48) hx hb dX5_areOpposed_41 (by decide) (fun c41 => ?_) (fun c41 => ?_)
      · have h := h.1 c41
        refine lv_iconst (pc := 48) (v := 0) hx hb dX5_areOpposed_48 (by decide) ?_
        exact hret 49 _ _ _ _ _ dX5_areOpposed_49 (by rfl) h hM
      · have h := h.2 c41
        refine lv_iconst (pc := 44) (v := 1) hx hb dX5_areOpposed_44 (by decide) ?_
        refine lv_goto (pc := 45) (tgt := 49) hx hb dX5_areOpposed_45 (by decide) ?_
        exact hret 49 _ _ _ _ _ dX5_areOpposed_49 (by rfl) h hM
abbrev rm_X5_clashesIn : Room := { frames := 2, cells := 0, slots := 0, locals := 45 }
theorem dX5_clashesIn_0 : decode cX5_clashesIn 0 = .ok (.iconst 0, 1) := by decide +kernel
theorem dX5_clashesIn_1 : decode cX5_clashesIn 1 = .ok (.istore_n 2, 1) := by decide +kernel
theorem dX5_clashesIn_2 : decode cX5_clashesIn 2 = .ok (.iconst 0, 1) := by decide +kernel
theorem dX5_clashesIn_3 : decode cX5_clashesIn 3 = .ok (.istore_n 3, 1) := by decide +kernel
theorem dX5_clashesIn_4 : decode cX5_clashesIn 4 = .ok (.iload_n 3, 1) := by decide +kernel
theorem dX5_clashesIn_5 : decode cX5_clashesIn 5 = .ok (.aload_n 0, 1) := by decide +kernel
theorem dX5_clashesIn_6 : decode cX5_clashesIn 6 = .ok (.getfield 28, 3) := by decide +kernel
theorem dX5_clashesIn_9 : decode cX5_clashesIn 9 = .ok (.if_icmp .ge 53, 3) := by decide +kernel
theorem dX5_clashesIn_12 : decode cX5_clashesIn 12 = .ok (.iload_n 3, 1) := by decide +kernel
theorem dX5_clashesIn_13 : decode cX5_clashesIn 13 = .ok (.iconst 1, 1) := by decide +kernel
theorem dX5_clashesIn_14 : decode cX5_clashesIn 14 = .ok (.iadd, 1) := by decide +kernel
theorem dX5_clashesIn_15 : decode cX5_clashesIn 15 = .ok (.istore 4, 2) := by decide +kernel
theorem dX5_clashesIn_17 : decode cX5_clashesIn 17 = .ok (.iload 4, 2) := by decide +kernel
theorem dX5_clashesIn_19 : decode cX5_clashesIn 19 = .ok (.aload_n 0, 1) := by decide +kernel
theorem dX5_clashesIn_20 : decode cX5_clashesIn 20 = .ok (.getfield 28, 3) := by decide +kernel
theorem dX5_clashesIn_23 : decode cX5_clashesIn 23 = .ok (.if_icmp .ge 33, 3) := by decide +kernel
theorem dX5_clashesIn_26 : decode cX5_clashesIn 26 = .ok (.aload_n 0, 1) := by decide +kernel
theorem dX5_clashesIn_27 : decode cX5_clashesIn 27 = .ok (.iload_n 3, 1) := by decide +kernel
theorem dX5_clashesIn_28 : decode cX5_clashesIn 28 = .ok (.iload 4, 2) := by decide +kernel
theorem dX5_clashesIn_30 : decode cX5_clashesIn 30 = .ok (.iload_n 1, 1) := by decide +kernel
theorem dX5_clashesIn_31 : decode cX5_clashesIn 31 = .ok (.invokevirtual 94, 3) := by decide +kernel
theorem dX5_clashesIn_34 : decode cX5_clashesIn 34 = .ok (.ifCond .eq 16, 3) := by decide +kernel
theorem dX5_clashesIn_37 : decode cX5_clashesIn 37 = .ok (.aload_n 0, 1) := by decide +kernel
theorem dX5_clashesIn_38 : decode cX5_clashesIn 38 = .ok (.iload_n 3, 1) := by decide +kernel
theorem dX5_clashesIn_39 : decode cX5_clashesIn 39 = .ok (.iload 4, 2) := by decide +kernel
theorem dX5_clashesIn_41 : decode cX5_clashesIn 41 = .ok (.invokevirtual 98, 3) := by decide +kernel
theorem dX5_clashesIn_44 : decode cX5_clashesIn 44 = .ok (.ifCond .eq 6, 3) := by decide +kernel
theorem dX5_clashesIn_47 : decode cX5_clashesIn 47 = .ok (.iinc 2 1, 3) := by decide +kernel
theorem dX5_clashesIn_50 : decode cX5_clashesIn 50 = .ok (.iinc 4 1, 3) := by decide +kernel
theorem dX5_clashesIn_53 : decode cX5_clashesIn 53 = .ok (.goto (-36), 3) := by decide +kernel
theorem dX5_clashesIn_56 : decode cX5_clashesIn 56 = .ok (.iinc 3 1, 3) := by decide +kernel
theorem dX5_clashesIn_59 : decode cX5_clashesIn 59 = .ok (.goto (-55), 3) := by decide +kernel
theorem dX5_clashesIn_62 : decode cX5_clashesIn 62 = .ok (.iload_n 2, 1) := by decide +kernel
theorem dX5_clashesIn_63 : decode cX5_clashesIn 63 = .ok (.ireturn, 1) := by decide +kernel
set_option maxHeartbeats 4000000 in
set_option maxRecDepth 100000 in
theorem w_X5_clashesIn (l : Launch) (G : GP) (x : XP) (a1 : Int32) (σ : Sto) (P : Int32 → Sto → Prop) (h : D_X5_clashesIn a1 σ P) : g_Meti l yX5_clashesIn cX5_clashesIn 5 (some .int) rm_X5_clashesIn G x [.ref (g_ad G 65), .int a1] σ P := by
  unfold D_X5_clashesIn at h
  refine g_ofWi (by decide +kernel) (Nat.le_of_ble_eq_true rfl) ?_
  intro p e s m args below meth c Q ls C hM hl hret
  have hx := C.1
  have hb := C.2.1
  have hl : lv_has ls 5 [(0, .ref (g_ad G 65)), (1, .int a1)] := hl
  have h := h (fun (v2 : Int32) (v3 : Int32) (σ : Sto) => ∀ (H : Heap) (locs : List Loc) (ls : Array Slot), g_M G x σ s H locs → lv_has ls 5 [(0, .ref (g_ad G 65)), (1, .int a1), (2, .int v2), (3, .int v3)] → W p l e rm_X5_clashesIn s m args below meth c H locs 0 0 Q (F0 m 4 ls [])) (fun (v2 : Int32) (v3 : Int32) (v4 : Int32) (σ : Sto) => ∀ (H : Heap) (locs : List Loc) (ls : Array Slot), g_M G x σ s H locs → lv_has ls 5 [(0, .ref (g_ad G 65)), (1, .int a1), (2, .int v2), (3, .int v3), (4, .int v4)] → W p l e rm_X5_clashesIn s m args below meth c H locs 0 0 Q (F0 m 17 ls []))
  have h := h (by
    intro v2 v3 σ h  H locs ls hM hl
    refine lv_iload_n (pc := 4) hx hb dX5_clashesIn_4 rfl (lv_at hl 3 rfl) ?_
    refine lv_aload_n (pc := 5) hx hb dX5_clashesIn_5 rfl (lv_at hl 0 rfl) ?_
    refine g_get (pc := 6) (v := .int (σ 65 6)) C hM (by decide) ce_65 fl_RX5_28 rfl dX5_clashesIn_6 ?_
    refine lv_icmp_ge (pc := 9) (tgt := 62) hx hb dX5_clashesIn_9 (by decide) (fun c9 => ?_) (fun c9 => ?_)
    · have h := h.1 c9
      refine lv_iload_n (pc := 62) hx hb dX5_clashesIn_62 rfl (lv_at hl 2 rfl) ?_
      exact hret 63 _ _ _ _ _ dX5_clashesIn_63 (by rfl) h hM
    · have h := h.2 c9
      refine lv_iload_n (pc := 12) hx hb dX5_clashesIn_12 rfl (lv_at hl 3 rfl) ?_
      refine lv_iconst (pc := 13) (v := 1) hx hb dX5_clashesIn_13 (by decide) ?_
      refine lv_iadd (pc := 14) hx hb dX5_clashesIn_14 ?_
      refine lv_istore (pc := 15) (lv' := [(4, .int (v3 + 1)), (0, .ref (g_ad G 65)), (1, .int a1), (2, .int v2), (3, .int v3)]) hx hb dX5_clashesIn_15 hl (by decide) rfl (fun ls hl => ?_)
      exact h _ _ _ hM (lv_sub hl [1, 2, 3, 4, 0] rfl))
  have h := h (by
    intro v2 v3 v4 σ h  H locs ls hM hl
    refine lv_iload (pc := 17) hx hb dX5_clashesIn_17 (lv_at hl 4 rfl) ?_
    refine lv_aload_n (pc := 19) hx hb dX5_clashesIn_19 rfl (lv_at hl 0 rfl) ?_
    refine g_get (pc := 20) (v := .int (σ 65 6)) C hM (by decide) ce_65 fl_RX5_28 rfl dX5_clashesIn_20 ?_
    refine lv_icmp_ge (pc := 23) (tgt := 56) hx hb dX5_clashesIn_23 (by decide) (fun c23 => ?_) (fun c23 => ?_)
    · have h := h.1 c23
      refine lv_iinc (pc := 56) (v := (v3 + 1)) (lv' := [(3, .int (v3 + 1)), (0, .ref (g_ad G 65)), (1, .int a1), (2, .int v2), (4, .int v4)]) hx hb dX5_clashesIn_56 hl (k := 3) rfl (by rfl) (by decide) rfl (fun ls hl => ?_)
      refine lv_goto (pc := 59) (tgt := 4) hx hb dX5_clashesIn_59 (by decide) ?_
      exact h _ _ _ hM (lv_sub hl [1, 2, 3, 0] rfl)
    · have h := h.2 c23
      refine lv_aload_n (pc := 26) hx hb dX5_clashesIn_26 rfl (lv_at hl 0 rfl) ?_
      refine lv_iload_n (pc := 27) hx hb dX5_clashesIn_27 rfl (lv_at hl 3 rfl) ?_
      refine lv_iload (pc := 28) hx hb dX5_clashesIn_28 (lv_at hl 4 rfl) ?_
      refine lv_iload_n (pc := 30) hx hb dX5_clashesIn_30 rfl (lv_at hl 1 rfl) ?_
      refine g_cVi (pc := 31) C hM hl.1 yv_X5_areOpposed q4_224 (by decide) ce_65 rfl (w_X5_areOpposed l G x v3 v4 a1 σ _ h) rfl rfl ⟨⟨by decide, by decide⟩, by decide, by decide⟩ (Nat.le_of_ble_eq_true rfl) dX5_clashesIn_31 (fun r31 s31 H locs h hM => ?_)
      refine lv_if_eq (pc := 34) (tgt := 50) hx hb dX5_clashesIn_34 (by decide) (fun c34 => ?_) (fun c34 => ?_)
      · have h := h.1 c34
        refine lv_iinc (pc := 50) (v := (v4 + 1)) (lv' := [(4, .int (v4 + 1)), (0, .ref (g_ad G 65)), (1, .int a1), (2, .int v2), (3, .int v3)]) hx hb dX5_clashesIn_50 hl (k := 4) rfl (by rfl) (by decide) rfl (fun ls hl => ?_)
        refine lv_goto (pc := 53) (tgt := 17) hx hb dX5_clashesIn_53 (by decide) ?_
        exact h _ _ _ hM (lv_sub hl [1, 2, 3, 4, 0] rfl)
      · have h := h.2 c34
        refine lv_aload_n (pc := 37) hx hb dX5_clashesIn_37 rfl (lv_at hl 0 rfl) ?_
        refine lv_iload_n (pc := 38) hx hb dX5_clashesIn_38 rfl (lv_at hl 3 rfl) ?_
        refine lv_iload (pc := 39) hx hb dX5_clashesIn_39 (lv_at hl 4 rfl) ?_
        refine g_cVi (pc := 41) C hM hl.1 yv_X5_meet q4_228 (by decide) ce_65 rfl (w_X5_meet l G x v3 v4 s31 _ h) rfl rfl ⟨⟨by decide, by decide⟩, by decide, by decide⟩ (Nat.le_of_ble_eq_true rfl) dX5_clashesIn_41 (fun r41 s41 H locs h hM => ?_)
        refine lv_if_eq (pc := 44) (tgt := 50) hx hb dX5_clashesIn_44 (by decide) (fun c44 => ?_) (fun c44 => ?_)
        · have h := h.1 c44
          refine lv_iinc (pc := 50) (v := (v4 + 1)) (lv' := [(4, .int (v4 + 1)), (0, .ref (g_ad G 65)), (1, .int a1), (2, .int v2), (3, .int v3)]) hx hb dX5_clashesIn_50 hl (k := 4) rfl (by rfl) (by decide) rfl (fun ls hl => ?_)
          refine lv_goto (pc := 53) (tgt := 17) hx hb dX5_clashesIn_53 (by decide) ?_
          exact h _ _ _ hM (lv_sub hl [1, 2, 3, 4, 0] rfl)
        · have h := h.2 c44
          refine lv_iinc (pc := 47) (v := (v2 + 1)) (lv' := [(2, .int (v2 + 1)), (0, .ref (g_ad G 65)), (1, .int a1), (3, .int v3), (4, .int v4)]) hx hb dX5_clashesIn_47 hl (k := 2) rfl (by rfl) (by decide) rfl (fun ls hl => ?_)
          refine lv_iinc (pc := 50) (v := (v4 + 1)) (lv' := [(4, .int (v4 + 1)), (2, .int (v2 + 1)), (0, .ref (g_ad G 65)), (1, .int a1), (3, .int v3)]) hx hb dX5_clashesIn_50 hl (k := 4) rfl (by rfl) (by decide) rfl (fun ls hl => ?_)
          refine lv_goto (pc := 53) (tgt := 17) hx hb dX5_clashesIn_53 (by decide) ?_
          exact h _ _ _ hM (lv_sub hl [2, 3, 1, 4, 0] rfl))
  refine lv_iconst (pc := 0) (v := 0) hx hb dX5_clashesIn_0 (by decide) ?_
  refine lv_istore_n (pc := 1) (lv' := [(2, .int 0), (0, .ref (g_ad G 65)), (1, .int a1)]) hx hb dX5_clashesIn_1 rfl hl (by decide) rfl (fun ls hl => ?_)
  refine lv_iconst (pc := 2) (v := 0) hx hb dX5_clashesIn_2 (by decide) ?_
  refine lv_istore_n (pc := 3) (lv' := [(3, .int 0), (2, .int 0), (0, .ref (g_ad G 65)), (1, .int a1)]) hx hb dX5_clashesIn_3 rfl hl (by decide) rfl (fun ls hl => ?_)
  exact h _ _ _ hM (lv_sub hl [2, 3, 1, 0] rfl)
abbrev rm_X5_rivals : Room := { frames := 1, cells := 0, slots := 0, locals := 22 }
theorem dX5_rivals_0 : decode cX5_rivals 0 = .ok (.iconst 1, 1) := by decide +kernel
theorem dX5_rivals_1 : decode cX5_rivals 1 = .ok (.iload_n 1, 1) := by decide +kernel
theorem dX5_rivals_2 : decode cX5_rivals 2 = .ok (.ishl, 1) := by decide +kernel
theorem dX5_rivals_3 : decode cX5_rivals 3 = .ok (.istore_n 2, 1) := by decide +kernel
theorem dX5_rivals_4 : decode cX5_rivals 4 = .ok (.aload_n 0, 1) := by decide +kernel
theorem dX5_rivals_5 : decode cX5_rivals 5 = .ok (.getfield 24, 3) := by decide +kernel
theorem dX5_rivals_8 : decode cX5_rivals 8 = .ok (.getfield 35, 3) := by decide +kernel
theorem dX5_rivals_11 : decode cX5_rivals 11 = .ok (.aload_n 0, 1) := by decide +kernel
theorem dX5_rivals_12 : decode cX5_rivals 12 = .ok (.getfield 15, 3) := by decide +kernel
theorem dX5_rivals_15 : decode cX5_rivals 15 = .ok (.iload_n 1, 1) := by decide +kernel
theorem dX5_rivals_16 : decode cX5_rivals 16 = .ok (.iaload, 1) := by decide +kernel
theorem dX5_rivals_17 : decode cX5_rivals 17 = .ok (.iconst 0, 1) := by decide +kernel
theorem dX5_rivals_18 : decode cX5_rivals 18 = .ok (.invokevirtual 44, 3) := by decide +kernel
theorem dX5_rivals_21 : decode cX5_rivals 21 = .ok (.istore_n 3, 1) := by decide +kernel
theorem dX5_rivals_22 : decode cX5_rivals 22 = .ok (.aload_n 0, 1) := by decide +kernel
theorem dX5_rivals_23 : decode cX5_rivals 23 = .ok (.getfield 32, 3) := by decide +kernel
theorem dX5_rivals_26 : decode cX5_rivals 26 = .ok (.iload_n 2, 1) := by decide +kernel
theorem dX5_rivals_27 : decode cX5_rivals 27 = .ok (.iand, 1) := by decide +kernel
theorem dX5_rivals_28 : decode cX5_rivals 28 = .ok (.ifCond .eq 7, 3) := by decide +kernel
theorem dX5_rivals_31 : decode cX5_rivals 31 = .ok (.iconst 1, 1) := by decide +kernel
theorem dX5_rivals_32 : decode cX5_rivals 32 = .ok (.goto 4, 3) := by decide +kernel
theorem dX5_rivals_35 : decode cX5_rivals 35 = .ok (.iconst 0, 1) := by decide +kernel
theorem dX5_rivals_36 : decode cX5_rivals 36 = .ok (.istore 4, 2) := by decide +kernel
theorem dX5_rivals_38 : decode cX5_rivals 38 = .ok (.aload_n 0, 1) := by decide +kernel
theorem dX5_rivals_39 : decode cX5_rivals 39 = .ok (.getfield 21, 3) := by decide +kernel
theorem dX5_rivals_42 : decode cX5_rivals 42 = .ok (.iload_n 3, 1) := by decide +kernel
theorem dX5_rivals_43 : decode cX5_rivals 43 = .ok (.iaload, 1) := by decide +kernel
theorem dX5_rivals_44 : decode cX5_rivals 44 = .ok (.istore 5, 2) := by decide +kernel
theorem dX5_rivals_46 : decode cX5_rivals 46 = .ok (.iload 5, 2) := by decide +kernel
theorem dX5_rivals_48 : decode cX5_rivals 48 = .ok (.iload_n 2, 1) := by decide +kernel
theorem dX5_rivals_49 : decode cX5_rivals 49 = .ok (.iconst 1, 1) := by decide +kernel
theorem dX5_rivals_50 : decode cX5_rivals 50 = .ok (.isub, 1) := by decide +kernel
theorem dX5_rivals_51 : decode cX5_rivals 51 = .ok (.iand, 1) := by decide +kernel
theorem dX5_rivals_52 : decode cX5_rivals 52 = .ok (.istore 6, 2) := by decide +kernel
theorem dX5_rivals_54 : decode cX5_rivals 54 = .ok (.iload 5, 2) := by decide +kernel
theorem dX5_rivals_56 : decode cX5_rivals 56 = .ok (.iload 4, 2) := by decide +kernel
theorem dX5_rivals_58 : decode cX5_rivals 58 = .ok (.ifCond .eq 12, 3) := by decide +kernel
theorem dX5_rivals_61 : decode cX5_rivals 61 = .ok (.aload_n 0, 1) := by decide +kernel
theorem dX5_rivals_62 : decode cX5_rivals 62 = .ok (.getfield 32, 3) := by decide +kernel
theorem dX5_rivals_65 : decode cX5_rivals 65 = .ok (.iconst (-1), 1) := by decide +kernel
theorem dX5_rivals_66 : decode cX5_rivals 66 = .ok (.ixor, 1) := by decide +kernel
theorem dX5_rivals_67 : decode cX5_rivals 67 = .ok (.goto 7, 3) := by decide +kernel
theorem dX5_rivals_70 : decode cX5_rivals 70 = .ok (.aload_n 0, 1) := by decide +kernel
theorem dX5_rivals_71 : decode cX5_rivals 71 = .ok (.getfield 32, 3) := by decide +kernel
theorem dX5_rivals_74 : decode cX5_rivals 74 = .ok (.iand, 1) := by decide +kernel
theorem dX5_rivals_75 : decode cX5_rivals 75 = .ok (.istore 7, 2) := by decide +kernel
theorem dX5_rivals_77 : decode cX5_rivals 77 = .ok (.aload_n 0, 1) := by decide +kernel
theorem dX5_rivals_78 : decode cX5_rivals 78 = .ok (.getfield 24, 3) := by decide +kernel
theorem dX5_rivals_81 : decode cX5_rivals 81 = .ok (.getfield 67, 3) := by decide +kernel
theorem dX5_rivals_84 : decode cX5_rivals 84 = .ok (.iload_n 3, 1) := by decide +kernel
theorem dX5_rivals_85 : decode cX5_rivals 85 = .ok (.iaload, 1) := by decide +kernel
theorem dX5_rivals_86 : decode cX5_rivals 86 = .ok (.tableswitch 71 0 2 #[26, 47, 68], 26) := by decide +kernel
theorem dX5_rivals_112 : decode cX5_rivals 112 = .ok (.iload 4, 2) := by decide +kernel
theorem dX5_rivals_114 : decode cX5_rivals 114 = .ok (.ifCond .eq 13, 3) := by decide +kernel
theorem dX5_rivals_117 : decode cX5_rivals 117 = .ok (.iload 6, 2) := by decide +kernel
theorem dX5_rivals_119 : decode cX5_rivals 119 = .ok (.iload 7, 2) := by decide +kernel
theorem dX5_rivals_121 : decode cX5_rivals 121 = .ok (.iconst (-1), 1) := by decide +kernel
theorem dX5_rivals_122 : decode cX5_rivals 122 = .ok (.ixor, 1) := by decide +kernel
theorem dX5_rivals_123 : decode cX5_rivals 123 = .ok (.iand, 1) := by decide +kernel
theorem dX5_rivals_124 : decode cX5_rivals 124 = .ok (.goto 8, 3) := by decide +kernel
theorem dX5_rivals_127 : decode cX5_rivals 127 = .ok (.iload 6, 2) := by decide +kernel
theorem dX5_rivals_129 : decode cX5_rivals 129 = .ok (.iload 7, 2) := by decide +kernel
theorem dX5_rivals_131 : decode cX5_rivals 131 = .ok (.ior, 1) := by decide +kernel
theorem dX5_rivals_132 : decode cX5_rivals 132 = .ok (.ireturn, 1) := by decide +kernel
theorem dX5_rivals_133 : decode cX5_rivals 133 = .ok (.iload 4, 2) := by decide +kernel
theorem dX5_rivals_135 : decode cX5_rivals 135 = .ok (.ifCond .eq 11, 3) := by decide +kernel
theorem dX5_rivals_138 : decode cX5_rivals 138 = .ok (.iload 6, 2) := by decide +kernel
theorem dX5_rivals_140 : decode cX5_rivals 140 = .ok (.iload 7, 2) := by decide +kernel
theorem dX5_rivals_142 : decode cX5_rivals 142 = .ok (.ior, 1) := by decide +kernel
theorem dX5_rivals_143 : decode cX5_rivals 143 = .ok (.goto 10, 3) := by decide +kernel
theorem dX5_rivals_146 : decode cX5_rivals 146 = .ok (.iload 6, 2) := by decide +kernel
theorem dX5_rivals_148 : decode cX5_rivals 148 = .ok (.iload 7, 2) := by decide +kernel
theorem dX5_rivals_150 : decode cX5_rivals 150 = .ok (.iconst (-1), 1) := by decide +kernel
theorem dX5_rivals_151 : decode cX5_rivals 151 = .ok (.ixor, 1) := by decide +kernel
theorem dX5_rivals_152 : decode cX5_rivals 152 = .ok (.iand, 1) := by decide +kernel
theorem dX5_rivals_153 : decode cX5_rivals 153 = .ok (.ireturn, 1) := by decide +kernel
theorem dX5_rivals_154 : decode cX5_rivals 154 = .ok (.iload 6, 2) := by decide +kernel
theorem dX5_rivals_156 : decode cX5_rivals 156 = .ok (.ireturn, 1) := by decide +kernel
theorem dX5_rivals_157 : decode cX5_rivals 157 = .ok (.iload 5, 2) := by decide +kernel
theorem dX5_rivals_159 : decode cX5_rivals 159 = .ok (.iload_n 2, 1) := by decide +kernel
theorem dX5_rivals_160 : decode cX5_rivals 160 = .ok (.iconst (-1), 1) := by decide +kernel
theorem dX5_rivals_161 : decode cX5_rivals 161 = .ok (.ixor, 1) := by decide +kernel
theorem dX5_rivals_162 : decode cX5_rivals 162 = .ok (.iand, 1) := by decide +kernel
theorem dX5_rivals_163 : decode cX5_rivals 163 = .ok (.ireturn, 1) := by decide +kernel
set_option maxHeartbeats 4000000 in
set_option maxRecDepth 100000 in
theorem w_X5_rivals (l : Launch) (G : GP) (x : XP) (a1 : Int32) (σ : Sto) (P : Int32 → Sto → Prop) (h : D_X5_rivals a1 σ P) : g_Meti l yX5_rivals cX5_rivals 8 (some .int) rm_X5_rivals G x [.ref (g_ad G 65), .int a1] σ P := by
  unfold D_X5_rivals at h
  refine g_ofWi (by decide +kernel) (Nat.le_of_ble_eq_true rfl) ?_
  intro p e s m args below meth c Q ls C hM hl hret
  have hx := C.1
  have hb := C.2.1
  have hl : lv_has ls 8 [(0, .ref (g_ad G 65)), (1, .int a1)] := hl
  have h := h (fun (v2 : Int32) (v3 : Int32) (t0 : Int32) (σ : Sto) => ∀ (H : Heap) (locs : List Loc) (ls : Array Slot), g_M G x σ s H locs → lv_has ls 8 [(0, .ref (g_ad G 65)), (2, .int v2), (3, .int v3)] → W p l e rm_X5_rivals s m args below meth c H locs 0 0 Q (F0 m 36 ls [.int t0])) (fun (v2 : Int32) (v3 : Int32) (v4 : Int32) (v5 : Int32) (v6 : Int32) (t0 : Int32) (t1 : Int32) (σ : Sto) => ∀ (H : Heap) (locs : List Loc) (ls : Array Slot), g_M G x σ s H locs → lv_has ls 8 [(0, .ref (g_ad G 65)), (2, .int v2), (3, .int v3), (4, .int v4), (5, .int v5), (6, .int v6)] → W p l e rm_X5_rivals s m args below meth c H locs 0 0 Q (F0 m 74 ls [.int t1, .int t0]))
  have h := h (by
    intro v2 v3 t0 σ h  H locs ls hM hl
    refine lv_istore (pc := 36) (lv' := [(4, .int t0), (0, .ref (g_ad G 65)), (2, .int v2), (3, .int v3)]) hx hb dX5_rivals_36 hl (by decide) rfl (fun ls hl => ?_)
    refine lv_aload_n (pc := 38) hx hb dX5_rivals_38 rfl (lv_at hl 1 rfl) ?_
    refine g_get (pc := 39) (v := .ref (g_ad G 69)) C hM (by decide) ce_65 fl_RX5_21 rfl dX5_rivals_39 ?_
    refine lv_iload_n (pc := 42) hx hb dX5_rivals_42 rfl (lv_at hl 3 rfl) ?_
    obtain ⟨hc, h⟩ := h
    refine g_ialdK (pc := 43) C hM (by decide) ce_69 hc rfl dX5_rivals_43 ?_
    refine lv_istore (pc := 44) (lv' := [(5, .int (σ 69 (ix v3))), (4, .int t0), (0, .ref (g_ad G 65)), (2, .int v2), (3, .int v3)]) hx hb dX5_rivals_44 hl (by decide) rfl (fun ls hl => ?_)
    refine lv_iload (pc := 46) hx hb dX5_rivals_46 (lv_at hl 0 rfl) ?_
    refine lv_iload_n (pc := 48) hx hb dX5_rivals_48 rfl (lv_at hl 3 rfl) ?_
    refine lv_iconst (pc := 49) (v := 1) hx hb dX5_rivals_49 (by decide) ?_
    refine lv_isub (pc := 50) hx hb dX5_rivals_50 ?_
    refine lv_iand (pc := 51) hx hb dX5_rivals_51 ?_
    refine lv_topi (fun v6_52 ev6_52 => ?_)
    have h := h v6_52 ev6_52
    refine lv_istore (pc := 52) (lv' := [(6, .int v6_52), (5, .int (σ 69 (ix v3))), (4, .int t0), (0, .ref (g_ad G 65)), (2, .int v2), (3, .int v3)]) hx hb dX5_rivals_52 hl (by decide) rfl (fun ls hl => ?_)
    refine lv_iload (pc := 54) hx hb dX5_rivals_54 (lv_at hl 1 rfl) ?_
    refine lv_iload (pc := 56) hx hb dX5_rivals_56 (lv_at hl 2 rfl) ?_
    refine lv_if_eq (pc := 58) (tgt := 70) hx hb dX5_rivals_58 (by decide) (fun c58 => ?_) (fun c58 => ?_)
    · have h := h.1 c58
      refine lv_aload_n (pc := 70) hx hb dX5_rivals_70 rfl (lv_at hl 3 rfl) ?_
      refine g_get (pc := 71) (v := .int (σ 65 5)) C hM (by decide) ce_65 fl_RX5_32 rfl dX5_rivals_71 ?_
      exact h _ _ _ hM (lv_sub hl [3, 4, 5, 2, 1, 0] rfl)
    · have h := h.2 c58
      refine lv_aload_n (pc := 61) hx hb dX5_rivals_61 rfl (lv_at hl 3 rfl) ?_
      refine g_get (pc := 62) (v := .int (σ 65 5)) C hM (by decide) ce_65 fl_RX5_32 rfl dX5_rivals_62 ?_
      refine lv_iconst (pc := 65) (v := (-1)) hx hb dX5_rivals_65 (by decide) ?_
      refine lv_ixor (pc := 66) hx hb dX5_rivals_66 ?_
      refine lv_goto (pc := 67) (tgt := 74) hx hb dX5_rivals_67 (by decide) ?_
      exact h _ _ _ hM (lv_sub hl [3, 4, 5, 2, 1, 0] rfl))
  have h := h (by
    intro v2 v3 v4 v5 v6 t0 t1 σ h  H locs ls hM hl
    refine lv_iand (pc := 74) hx hb dX5_rivals_74 ?_
    refine lv_istore (pc := 75) (lv' := [(7, .int (t0 &&& t1)), (0, .ref (g_ad G 65)), (2, .int v2), (3, .int v3), (4, .int v4), (5, .int v5), (6, .int v6)]) hx hb dX5_rivals_75 hl (by decide) rfl (fun ls hl => ?_)
    refine lv_aload_n (pc := 77) hx hb dX5_rivals_77 rfl (lv_at hl 1 rfl) ?_
    refine g_get (pc := 78) (v := .ref (g_ad G 0)) C hM (by decide) ce_65 fl_RX5_24 rfl dX5_rivals_78 ?_
    refine g_get (pc := 81) (v := .ref (g_ad G 5)) C hM (by decide) ce_0 fl_RX5_67 rfl dX5_rivals_81 ?_
    refine lv_iload_n (pc := 84) hx hb dX5_rivals_84 rfl (lv_at hl 3 rfl) ?_
    obtain ⟨hc, h⟩ := h
    refine g_ialdK (pc := 85) C hM (by decide) ce_5 hc rfl dX5_rivals_85 ?_
    by_cases c86_0 : (σ 5 (ix v3)) = 0
    · have h := h.1 c86_0
      refine lv_tableIn (pc := 86) (tgt := 112) hx hb dX5_rivals_86 (by rw [c86_0]; decide) (by rw [c86_0]; decide) (by rw [c86_0]; rfl) (by decide) ?_
      refine lv_iload (pc := 112) hx hb dX5_rivals_112 (lv_at hl 4 rfl) ?_
      refine lv_if_eq (pc := 114) (tgt := 127) hx hb dX5_rivals_114 (by decide) (fun c114 => ?_) (fun c114 => ?_)
      · have h := h.1 c114
        refine lv_iload (pc := 127) hx hb dX5_rivals_127 (lv_at hl 6 rfl) ?_
        refine lv_iload (pc := 129) hx hb dX5_rivals_129 (lv_at hl 0 rfl) ?_
        refine lv_ior (pc := 131) hx hb dX5_rivals_131 ?_
        exact hret 132 _ _ _ _ _ dX5_rivals_132 (by rfl) h hM
      · have h := h.2 c114
        refine lv_iload (pc := 117) hx hb dX5_rivals_117 (lv_at hl 6 rfl) ?_
        refine lv_iload (pc := 119) hx hb dX5_rivals_119 (lv_at hl 0 rfl) ?_
        refine lv_iconst (pc := 121) (v := (-1)) hx hb dX5_rivals_121 (by decide) ?_
        refine lv_ixor (pc := 122) hx hb dX5_rivals_122 ?_
        refine lv_iand (pc := 123) hx hb dX5_rivals_123 ?_
        refine lv_goto (pc := 124) (tgt := 132) hx hb dX5_rivals_124 (by decide) ?_
        exact hret 132 _ _ _ _ _ dX5_rivals_132 (by rfl) h hM
    · have h := h.2 c86_0
      by_cases c86_1 : (σ 5 (ix v3)) = 1
      · have h := h.1 c86_1
        refine lv_tableIn (pc := 86) (tgt := 133) hx hb dX5_rivals_86 (by rw [c86_1]; decide) (by rw [c86_1]; decide) (by rw [c86_1]; rfl) (by decide) ?_
        refine lv_iload (pc := 133) hx hb dX5_rivals_133 (lv_at hl 4 rfl) ?_
        refine lv_if_eq (pc := 135) (tgt := 146) hx hb dX5_rivals_135 (by decide) (fun c135 => ?_) (fun c135 => ?_)
        · have h := h.1 c135
          refine lv_iload (pc := 146) hx hb dX5_rivals_146 (lv_at hl 6 rfl) ?_
          refine lv_iload (pc := 148) hx hb dX5_rivals_148 (lv_at hl 0 rfl) ?_
          refine lv_iconst (pc := 150) (v := (-1)) hx hb dX5_rivals_150 (by decide) ?_
          refine lv_ixor (pc := 151) hx hb dX5_rivals_151 ?_
          refine lv_iand (pc := 152) hx hb dX5_rivals_152 ?_
          exact hret 153 _ _ _ _ _ dX5_rivals_153 (by rfl) h hM
        · have h := h.2 c135
          refine lv_iload (pc := 138) hx hb dX5_rivals_138 (lv_at hl 6 rfl) ?_
          refine lv_iload (pc := 140) hx hb dX5_rivals_140 (lv_at hl 0 rfl) ?_
          refine lv_ior (pc := 142) hx hb dX5_rivals_142 ?_
          refine lv_goto (pc := 143) (tgt := 153) hx hb dX5_rivals_143 (by decide) ?_
          exact hret 153 _ _ _ _ _ dX5_rivals_153 (by rfl) h hM
      · have h := h.2 c86_1
        by_cases c86_2 : (σ 5 (ix v3)) = 2
        · have h := h.1 c86_2
          refine lv_tableIn (pc := 86) (tgt := 154) hx hb dX5_rivals_86 (by rw [c86_2]; decide) (by rw [c86_2]; decide) (by rw [c86_2]; rfl) (by decide) ?_
          refine lv_iload (pc := 154) hx hb dX5_rivals_154 (lv_at hl 6 rfl) ?_
          exact hret 156 _ _ _ _ _ dX5_rivals_156 (by rfl) h hM
        · have h := h.2 c86_2
          have ht : ((σ 5 (ix v3))).toInt < 0 ∨ 2 < ((σ 5 (ix v3))).toInt := by
            have nc86_0 := lv_neT c86_0 (a := 0) rfl
            have nc86_1 := lv_neT c86_1 (a := 1) rfl
            have nc86_2 := lv_neT c86_2 (a := 2) rfl
            omega
          refine lv_tableOut (pc := 86) (tgt := 157) hx hb dX5_rivals_86 ht (by decide) ?_
          refine lv_iload (pc := 157) hx hb dX5_rivals_157 (lv_at hl 5 rfl) ?_
          refine lv_iload_n (pc := 159) hx hb dX5_rivals_159 rfl (lv_at hl 2 rfl) ?_
          refine lv_iconst (pc := 160) (v := (-1)) hx hb dX5_rivals_160 (by decide) ?_
          refine lv_ixor (pc := 161) hx hb dX5_rivals_161 ?_
          refine lv_iand (pc := 162) hx hb dX5_rivals_162 ?_
          exact hret 163 _ _ _ _ _ dX5_rivals_163 (by rfl) h hM)
  refine lv_iconst (pc := 0) (v := 1) hx hb dX5_rivals_0 (by decide) ?_
  refine lv_iload_n (pc := 1) hx hb dX5_rivals_1 rfl (lv_at hl 1 rfl) ?_
  refine lv_ishl (pc := 2) hx hb dX5_rivals_2 ?_
  refine lv_topi (fun v2_3 ev2_3 => ?_)
  have h := h v2_3 ev2_3
  refine lv_istore_n (pc := 3) (lv' := [(2, .int v2_3), (0, .ref (g_ad G 65)), (1, .int a1)]) hx hb dX5_rivals_3 rfl hl (by decide) rfl (fun ls hl => ?_)
  refine lv_aload_n (pc := 4) hx hb dX5_rivals_4 rfl (lv_at hl 1 rfl) ?_
  refine g_get (pc := 5) (v := .ref (g_ad G 0)) C hM (by decide) ce_65 fl_RX5_24 rfl dX5_rivals_5 ?_
  refine g_get (pc := 8) (v := .ref (g_ad G 1)) C hM (by decide) ce_0 fl_RX5_35 rfl dX5_rivals_8 ?_
  refine lv_aload_n (pc := 11) hx hb dX5_rivals_11 rfl (lv_at hl 1 rfl) ?_
  refine g_get (pc := 12) (v := .ref (g_ad G 67)) C hM (by decide) ce_65 fl_RX5_15 rfl dX5_rivals_12 ?_
  refine lv_iload_n (pc := 15) hx hb dX5_rivals_15 rfl (lv_at hl 2 rfl) ?_
  obtain ⟨hc, h⟩ := h
  refine g_ialdK (pc := 16) C hM (by decide) ce_67 hc rfl dX5_rivals_16 ?_
  refine lv_iconst (pc := 17) (v := 0) hx hb dX5_rivals_17 (by decide) ?_
  refine g_cVi (pc := 18) C hM hl.1 yv_X6_cell q4_40 (by decide) ce_1 rfl (w_X6_cell l G x 1 (σ 67 (ix a1)) 0 σ _ h) rfl rfl ⟨⟨by decide, by decide⟩, by decide, by decide⟩ (Nat.le_of_ble_eq_true rfl) dX5_rivals_18 (fun r18 s18 H locs h hM => ?_)
  refine lv_istore_n (pc := 21) (lv' := [(3, .int r18), (2, .int v2_3), (0, .ref (g_ad G 65)), (1, .int a1)]) hx hb dX5_rivals_21 rfl hl (by decide) rfl (fun ls hl => ?_)
  refine lv_aload_n (pc := 22) hx hb dX5_rivals_22 rfl (lv_at hl 2 rfl) ?_
  refine g_get (pc := 23) (v := .int (s18 65 5)) C hM (by decide) ce_65 fl_RX5_32 rfl dX5_rivals_23 ?_
  refine lv_iload_n (pc := 26) hx hb dX5_rivals_26 rfl (lv_at hl 1 rfl) ?_
  refine lv_iand (pc := 27) hx hb dX5_rivals_27 ?_
  refine lv_if_eq (pc := 28) (tgt := 35) hx hb dX5_rivals_28 (by decide) (fun c28 => ?_) (fun c28 => ?_)
  · have h := h.1 c28
    refine lv_iconst (pc := 35) (v := 0) hx hb dX5_rivals_35 (by decide) ?_
    exact h _ _ _ hM (lv_sub hl [2, 1, 0] rfl)
  · have h := h.2 c28
    refine lv_iconst (pc := 31) (v := 1) hx hb dX5_rivals_31 (by decide) ?_
    refine lv_goto (pc := 32) (tgt := 36) hx hb dX5_rivals_32 (by decide) ?_
    exact h _ _ _ hM (lv_sub hl [2, 1, 0] rfl)
abbrev rm_X7_isAvoided : Room := { frames := 1, cells := 0, slots := 0, locals := 22 }
theorem dX7_isAvoided_0 : decode cX7_isAvoided 0 = .ok (.iload_n 1, 1) := by decide +kernel
theorem dX7_isAvoided_1 : decode cX7_isAvoided 1 = .ok (.bipush 6, 2) := by decide +kernel
theorem dX7_isAvoided_3 : decode cX7_isAvoided 3 = .ok (.imul, 1) := by decide +kernel
theorem dX7_isAvoided_4 : decode cX7_isAvoided 4 = .ok (.istore_n 3, 1) := by decide +kernel
theorem dX7_isAvoided_5 : decode cX7_isAvoided 5 = .ok (.iconst 0, 1) := by decide +kernel
theorem dX7_isAvoided_6 : decode cX7_isAvoided 6 = .ok (.istore 4, 2) := by decide +kernel
theorem dX7_isAvoided_8 : decode cX7_isAvoided 8 = .ok (.iload 4, 2) := by decide +kernel
theorem dX7_isAvoided_10 : decode cX7_isAvoided 10 = .ok (.bipush 6, 2) := by decide +kernel
theorem dX7_isAvoided_12 : decode cX7_isAvoided 12 = .ok (.if_icmp .ge 34, 3) := by decide +kernel
theorem dX7_isAvoided_15 : decode cX7_isAvoided 15 = .ok (.aload_n 0, 1) := by decide +kernel
theorem dX7_isAvoided_16 : decode cX7_isAvoided 16 = .ok (.getfield 9, 3) := by decide +kernel
theorem dX7_isAvoided_19 : decode cX7_isAvoided 19 = .ok (.iload_n 3, 1) := by decide +kernel
theorem dX7_isAvoided_20 : decode cX7_isAvoided 20 = .ok (.iload 4, 2) := by decide +kernel
theorem dX7_isAvoided_22 : decode cX7_isAvoided 22 = .ok (.iadd, 1) := by decide +kernel
theorem dX7_isAvoided_23 : decode cX7_isAvoided 23 = .ok (.iaload, 1) := by decide +kernel
theorem dX7_isAvoided_24 : decode cX7_isAvoided 24 = .ok (.aload_n 0, 1) := by decide +kernel
theorem dX7_isAvoided_25 : decode cX7_isAvoided 25 = .ok (.getfield 15, 3) := by decide +kernel
theorem dX7_isAvoided_28 : decode cX7_isAvoided 28 = .ok (.iload_n 2, 1) := by decide +kernel
theorem dX7_isAvoided_29 : decode cX7_isAvoided 29 = .ok (.iload 4, 2) := by decide +kernel
theorem dX7_isAvoided_31 : decode cX7_isAvoided 31 = .ok (.invokevirtual 29, 3) := by decide +kernel
theorem dX7_isAvoided_34 : decode cX7_isAvoided 34 = .ok (.iand, 1) := by decide +kernel
theorem dX7_isAvoided_35 : decode cX7_isAvoided 35 = .ok (.ifCond .ne 5, 3) := by decide +kernel
theorem dX7_isAvoided_38 : decode cX7_isAvoided 38 = .ok (.iconst 1, 1) := by decide +kernel
theorem dX7_isAvoided_39 : decode cX7_isAvoided 39 = .ok (.ireturn, 1) := by decide +kernel
theorem dX7_isAvoided_40 : decode cX7_isAvoided 40 = .ok (.iinc 4 1, 3) := by decide +kernel
theorem dX7_isAvoided_43 : decode cX7_isAvoided 43 = .ok (.goto (-35), 3) := by decide +kernel
theorem dX7_isAvoided_46 : decode cX7_isAvoided 46 = .ok (.iconst 0, 1) := by decide +kernel
theorem dX7_isAvoided_47 : decode cX7_isAvoided 47 = .ok (.ireturn, 1) := by decide +kernel
set_option maxHeartbeats 4000000 in
set_option maxRecDepth 100000 in
theorem w_X7_isAvoided (l : Launch) (G : GP) (x : XP) (a1 : Int32) (a2 : Int32) (σ : Sto) (P : Int32 → Sto → Prop) (h : D_X7_isAvoided a1 a2 σ P) : g_Meti l yX7_isAvoided cX7_isAvoided 5 (some .boolean) rm_X7_isAvoided G x [.ref (g_ad G 70), .int a1, .int a2] σ P := by
  unfold D_X7_isAvoided at h
  refine g_ofWi (by decide +kernel) (Nat.le_of_ble_eq_true rfl) ?_
  intro p e s m args below meth c Q ls C hM hl hret
  have hx := C.1
  have hb := C.2.1
  have hl : lv_has ls 5 [(0, .ref (g_ad G 70)), (1, .int a1), (2, .int a2)] := hl
  have h := h (fun (v3 : Int32) (v4 : Int32) (σ : Sto) => ∀ (H : Heap) (locs : List Loc) (ls : Array Slot), g_M G x σ s H locs → lv_has ls 5 [(0, .ref (g_ad G 70)), (2, .int a2), (3, .int v3), (4, .int v4)] → W p l e rm_X7_isAvoided s m args below meth c H locs 0 0 Q (F0 m 8 ls []))
  have h := h (by
    intro v3 v4 σ h  H locs ls hM hl
    refine lv_iload (pc := 8) hx hb dX7_isAvoided_8 (lv_at hl 3 rfl) ?_
    refine lv_bipush (pc := 10) (v := 6) hx hb dX7_isAvoided_10 (by decide) ?_
    refine lv_icmp_ge (pc := 12) (tgt := 46) hx hb dX7_isAvoided_12 (by decide) (fun c12 => ?_) (fun c12 => ?_)
    · have h := h.1 c12
      refine lv_iconst (pc := 46) (v := 0) hx hb dX7_isAvoided_46 (by decide) ?_
      exact hret 47 _ _ _ _ _ dX7_isAvoided_47 (by rfl) h hM
    · have h := h.2 c12
      refine lv_aload_n (pc := 15) hx hb dX7_isAvoided_15 rfl (lv_at hl 0 rfl) ?_
      refine g_get (pc := 16) (v := .ref (g_ad G 71)) C hM (by decide) ce_70 fl_RX7_9 rfl dX7_isAvoided_16 ?_
      refine lv_iload_n (pc := 19) hx hb dX7_isAvoided_19 rfl (lv_at hl 2 rfl) ?_
      refine lv_iload (pc := 20) hx hb dX7_isAvoided_20 (lv_at hl 3 rfl) ?_
      refine lv_iadd (pc := 22) hx hb dX7_isAvoided_22 ?_
      obtain ⟨hc, h⟩ := h
      refine g_ialdK (pc := 23) C hM (by decide) ce_71 hc rfl dX7_isAvoided_23 ?_
      refine lv_aload_n (pc := 24) hx hb dX7_isAvoided_24 rfl (lv_at hl 0 rfl) ?_
      refine g_get (pc := 25) (v := .ref (g_ad G 65)) C hM (by decide) ce_70 fl_RX7_15 rfl dX7_isAvoided_25 ?_
      refine lv_iload_n (pc := 28) hx hb dX7_isAvoided_28 rfl (lv_at hl 1 rfl) ?_
      refine lv_iload (pc := 29) hx hb dX7_isAvoided_29 (lv_at hl 3 rfl) ?_
      refine g_cVi (pc := 31) C hM hl.1 yv_X5_box q5_8 (by decide) ce_65 rfl (w_X5_box l G x a2 v4 σ _ h) rfl rfl ⟨⟨by decide, by decide⟩, by decide, by decide⟩ (Nat.le_of_ble_eq_true rfl) dX7_isAvoided_31 (fun r31 s31 H locs h hM => ?_)
      refine lv_iand (pc := 34) hx hb dX7_isAvoided_34 ?_
      refine lv_if_ne (pc := 35) (tgt := 40) hx hb dX7_isAvoided_35 (by decide) (fun c35 => ?_) (fun c35 => ?_)
      · have h := h.2 c35
        refine lv_iinc (pc := 40) (v := (v4 + 1)) (lv' := [(4, .int (v4 + 1)), (0, .ref (g_ad G 70)), (2, .int a2), (3, .int v3)]) hx hb dX7_isAvoided_40 hl (k := 3) rfl (by rfl) (by decide) rfl (fun ls hl => ?_)
        refine lv_goto (pc := 43) (tgt := 8) hx hb dX7_isAvoided_43 (by decide) ?_
        exact h _ _ _ hM (lv_sub hl [1, 2, 3, 0] rfl)
      · have h := h.1 c35
        refine lv_iconst (pc := 38) (v := 1) hx hb dX7_isAvoided_38 (by decide) ?_
        exact hret 39 _ _ _ _ _ dX7_isAvoided_39 (by rfl) h hM)
  refine lv_iload_n (pc := 0) hx hb dX7_isAvoided_0 rfl (lv_at hl 1 rfl) ?_
  refine lv_bipush (pc := 1) (v := 6) hx hb dX7_isAvoided_1 (by decide) ?_
  refine lv_imul (pc := 3) hx hb dX7_isAvoided_3 ?_
  refine lv_istore_n (pc := 4) (lv' := [(3, .int (a1 * 6)), (0, .ref (g_ad G 70)), (1, .int a1), (2, .int a2)]) hx hb dX7_isAvoided_4 rfl hl (by decide) rfl (fun ls hl => ?_)
  refine lv_iconst (pc := 5) (v := 0) hx hb dX7_isAvoided_5 (by decide) ?_
  refine lv_istore (pc := 6) (lv' := [(4, .int 0), (3, .int (a1 * 6)), (0, .ref (g_ad G 70)), (1, .int a1), (2, .int a2)]) hx hb dX7_isAvoided_6 hl (by decide) rfl (fun ls hl => ?_)
  exact h _ _ _ hM (lv_sub hl [2, 4, 1, 0] rfl)
abbrev rm_X7_escapes : Room := { frames := 1, cells := 0, slots := 0, locals := 22 }
theorem dX7_escapes_0 : decode cX7_escapes 0 = .ok (.iload_n 1, 1) := by decide +kernel
theorem dX7_escapes_1 : decode cX7_escapes 1 = .ok (.bipush 6, 2) := by decide +kernel
theorem dX7_escapes_3 : decode cX7_escapes 3 = .ok (.imul, 1) := by decide +kernel
theorem dX7_escapes_4 : decode cX7_escapes 4 = .ok (.istore_n 3, 1) := by decide +kernel
theorem dX7_escapes_5 : decode cX7_escapes 5 = .ok (.iconst 0, 1) := by decide +kernel
theorem dX7_escapes_6 : decode cX7_escapes 6 = .ok (.istore 4, 2) := by decide +kernel
theorem dX7_escapes_8 : decode cX7_escapes 8 = .ok (.iconst 0, 1) := by decide +kernel
theorem dX7_escapes_9 : decode cX7_escapes 9 = .ok (.istore 5, 2) := by decide +kernel
theorem dX7_escapes_11 : decode cX7_escapes 11 = .ok (.iload 5, 2) := by decide +kernel
theorem dX7_escapes_13 : decode cX7_escapes 13 = .ok (.bipush 6, 2) := by decide +kernel
theorem dX7_escapes_15 : decode cX7_escapes 15 = .ok (.if_icmp .ge 43, 3) := by decide +kernel
theorem dX7_escapes_18 : decode cX7_escapes 18 = .ok (.aload_n 0, 1) := by decide +kernel
theorem dX7_escapes_19 : decode cX7_escapes 19 = .ok (.getfield 9, 3) := by decide +kernel
theorem dX7_escapes_22 : decode cX7_escapes 22 = .ok (.iload_n 3, 1) := by decide +kernel
theorem dX7_escapes_23 : decode cX7_escapes 23 = .ok (.iload 5, 2) := by decide +kernel
theorem dX7_escapes_25 : decode cX7_escapes 25 = .ok (.iadd, 1) := by decide +kernel
theorem dX7_escapes_26 : decode cX7_escapes 26 = .ok (.iaload, 1) := by decide +kernel
theorem dX7_escapes_27 : decode cX7_escapes 27 = .ok (.aload_n 0, 1) := by decide +kernel
theorem dX7_escapes_28 : decode cX7_escapes 28 = .ok (.getfield 15, 3) := by decide +kernel
theorem dX7_escapes_31 : decode cX7_escapes 31 = .ok (.iload_n 2, 1) := by decide +kernel
theorem dX7_escapes_32 : decode cX7_escapes 32 = .ok (.iload 5, 2) := by decide +kernel
theorem dX7_escapes_34 : decode cX7_escapes 34 = .ok (.invokevirtual 29, 3) := by decide +kernel
theorem dX7_escapes_37 : decode cX7_escapes 37 = .ok (.iconst (-1), 1) := by decide +kernel
theorem dX7_escapes_38 : decode cX7_escapes 38 = .ok (.ixor, 1) := by decide +kernel
theorem dX7_escapes_39 : decode cX7_escapes 39 = .ok (.iand, 1) := by decide +kernel
theorem dX7_escapes_40 : decode cX7_escapes 40 = .ok (.ifCond .eq 12, 3) := by decide +kernel
theorem dX7_escapes_43 : decode cX7_escapes 43 = .ok (.iload 4, 2) := by decide +kernel
theorem dX7_escapes_45 : decode cX7_escapes 45 = .ok (.iconst 1, 1) := by decide +kernel
theorem dX7_escapes_46 : decode cX7_escapes 46 = .ok (.iload 5, 2) := by decide +kernel
theorem dX7_escapes_48 : decode cX7_escapes 48 = .ok (.ishl, 1) := by decide +kernel
theorem dX7_escapes_49 : decode cX7_escapes 49 = .ok (.ior, 1) := by decide +kernel
theorem dX7_escapes_50 : decode cX7_escapes 50 = .ok (.istore 4, 2) := by decide +kernel
theorem dX7_escapes_52 : decode cX7_escapes 52 = .ok (.iinc 5 1, 3) := by decide +kernel
theorem dX7_escapes_55 : decode cX7_escapes 55 = .ok (.goto (-44), 3) := by decide +kernel
theorem dX7_escapes_58 : decode cX7_escapes 58 = .ok (.iload 4, 2) := by decide +kernel
theorem dX7_escapes_60 : decode cX7_escapes 60 = .ok (.ireturn, 1) := by decide +kernel
set_option maxHeartbeats 4000000 in
set_option maxRecDepth 100000 in
theorem w_X7_escapes (l : Launch) (G : GP) (x : XP) (a1 : Int32) (a2 : Int32) (σ : Sto) (P : Int32 → Sto → Prop) (h : D_X7_escapes a1 a2 σ P) : g_Meti l yX7_escapes cX7_escapes 6 (some .int) rm_X7_escapes G x [.ref (g_ad G 70), .int a1, .int a2] σ P := by
  unfold D_X7_escapes at h
  refine g_ofWi (by decide +kernel) (Nat.le_of_ble_eq_true rfl) ?_
  intro p e s m args below meth c Q ls C hM hl hret
  have hx := C.1
  have hb := C.2.1
  have hl : lv_has ls 6 [(0, .ref (g_ad G 70)), (1, .int a1), (2, .int a2)] := hl
  have h := h (fun (v3 : Int32) (v4 : Int32) (v5 : Int32) (σ : Sto) => ∀ (H : Heap) (locs : List Loc) (ls : Array Slot), g_M G x σ s H locs → lv_has ls 6 [(0, .ref (g_ad G 70)), (2, .int a2), (3, .int v3), (4, .int v4), (5, .int v5)] → W p l e rm_X7_escapes s m args below meth c H locs 0 0 Q (F0 m 11 ls []))
  have h := h (by
    intro v3 v4 v5 σ h  H locs ls hM hl
    refine lv_iload (pc := 11) hx hb dX7_escapes_11 (lv_at hl 4 rfl) ?_
    refine lv_bipush (pc := 13) (v := 6) hx hb dX7_escapes_13 (by decide) ?_
    refine lv_icmp_ge (pc := 15) (tgt := 58) hx hb dX7_escapes_15 (by decide) (fun c15 => ?_) (fun c15 => ?_)
    · have h := h.1 c15
      refine lv_iload (pc := 58) hx hb dX7_escapes_58 (lv_at hl 3 rfl) ?_
      exact hret 60 _ _ _ _ _ dX7_escapes_60 (by rfl) h hM
    · have h := h.2 c15
      refine lv_aload_n (pc := 18) hx hb dX7_escapes_18 rfl (lv_at hl 0 rfl) ?_
      refine g_get (pc := 19) (v := .ref (g_ad G 71)) C hM (by decide) ce_70 fl_RX7_9 rfl dX7_escapes_19 ?_
      refine lv_iload_n (pc := 22) hx hb dX7_escapes_22 rfl (lv_at hl 2 rfl) ?_
      refine lv_iload (pc := 23) hx hb dX7_escapes_23 (lv_at hl 4 rfl) ?_
      refine lv_iadd (pc := 25) hx hb dX7_escapes_25 ?_
      obtain ⟨hc, h⟩ := h
      refine g_ialdK (pc := 26) C hM (by decide) ce_71 hc rfl dX7_escapes_26 ?_
      refine lv_aload_n (pc := 27) hx hb dX7_escapes_27 rfl (lv_at hl 0 rfl) ?_
      refine g_get (pc := 28) (v := .ref (g_ad G 65)) C hM (by decide) ce_70 fl_RX7_15 rfl dX7_escapes_28 ?_
      refine lv_iload_n (pc := 31) hx hb dX7_escapes_31 rfl (lv_at hl 1 rfl) ?_
      refine lv_iload (pc := 32) hx hb dX7_escapes_32 (lv_at hl 4 rfl) ?_
      refine g_cVi (pc := 34) C hM hl.1 yv_X5_box q5_8 (by decide) ce_65 rfl (w_X5_box l G x a2 v5 σ _ h) rfl rfl ⟨⟨by decide, by decide⟩, by decide, by decide⟩ (Nat.le_of_ble_eq_true rfl) dX7_escapes_34 (fun r34 s34 H locs h hM => ?_)
      refine lv_iconst (pc := 37) (v := (-1)) hx hb dX7_escapes_37 (by decide) ?_
      refine lv_ixor (pc := 38) hx hb dX7_escapes_38 ?_
      refine lv_iand (pc := 39) hx hb dX7_escapes_39 ?_
      refine lv_if_eq (pc := 40) (tgt := 52) hx hb dX7_escapes_40 (by decide) (fun c40 => ?_) (fun c40 => ?_)
      · have h := h.1 c40
        refine lv_iinc (pc := 52) (v := (v5 + 1)) (lv' := [(5, .int (v5 + 1)), (0, .ref (g_ad G 70)), (2, .int a2), (3, .int v3), (4, .int v4)]) hx hb dX7_escapes_52 hl (k := 4) rfl (by rfl) (by decide) rfl (fun ls hl => ?_)
        refine lv_goto (pc := 55) (tgt := 11) hx hb dX7_escapes_55 (by decide) ?_
        exact h _ _ _ hM (lv_sub hl [1, 2, 3, 4, 0] rfl)
      · have h := h.2 c40
        refine lv_iload (pc := 43) hx hb dX7_escapes_43 (lv_at hl 3 rfl) ?_
        refine lv_iconst (pc := 45) (v := 1) hx hb dX7_escapes_45 (by decide) ?_
        refine lv_iload (pc := 46) hx hb dX7_escapes_46 (lv_at hl 4 rfl) ?_
        refine lv_ishl (pc := 48) hx hb dX7_escapes_48 ?_
        refine lv_ior (pc := 49) hx hb dX7_escapes_49 ?_
        refine lv_topi (fun v4_50 ev4_50 => ?_)
        have h := h v4_50 ev4_50
        refine lv_istore (pc := 50) (lv' := [(4, .int v4_50), (0, .ref (g_ad G 70)), (2, .int a2), (3, .int v3), (5, .int v5)]) hx hb dX7_escapes_50 hl (by decide) rfl (fun ls hl => ?_)
        refine lv_iinc (pc := 52) (v := (v5 + 1)) (lv' := [(5, .int (v5 + 1)), (4, .int v4_50), (0, .ref (g_ad G 70)), (2, .int a2), (3, .int v3)]) hx hb dX7_escapes_52 hl (k := 4) rfl (by rfl) (by decide) rfl (fun ls hl => ?_)
        refine lv_goto (pc := 55) (tgt := 11) hx hb dX7_escapes_55 (by decide) ?_
        exact h _ _ _ hM (lv_sub hl [2, 3, 4, 1, 0] rfl))
  refine lv_iload_n (pc := 0) hx hb dX7_escapes_0 rfl (lv_at hl 1 rfl) ?_
  refine lv_bipush (pc := 1) (v := 6) hx hb dX7_escapes_1 (by decide) ?_
  refine lv_imul (pc := 3) hx hb dX7_escapes_3 ?_
  refine lv_istore_n (pc := 4) (lv' := [(3, .int (a1 * 6)), (0, .ref (g_ad G 70)), (1, .int a1), (2, .int a2)]) hx hb dX7_escapes_4 rfl hl (by decide) rfl (fun ls hl => ?_)
  refine lv_iconst (pc := 5) (v := 0) hx hb dX7_escapes_5 (by decide) ?_
  refine lv_istore (pc := 6) (lv' := [(4, .int 0), (3, .int (a1 * 6)), (0, .ref (g_ad G 70)), (1, .int a1), (2, .int a2)]) hx hb dX7_escapes_6 hl (by decide) rfl (fun ls hl => ?_)
  refine lv_iconst (pc := 8) (v := 0) hx hb dX7_escapes_8 (by decide) ?_
  refine lv_istore (pc := 9) (lv' := [(5, .int 0), (4, .int 0), (3, .int (a1 * 6)), (0, .ref (g_ad G 70)), (1, .int a1), (2, .int a2)]) hx hb dX7_escapes_9 hl (by decide) rfl (fun ls hl => ?_)
  exact h _ _ _ hM (lv_sub hl [3, 5, 2, 1, 0] rfl)
abbrev rm_X7_hasFree (n : Nat) : Room := { frames := 2 * n + 4, cells := 0, slots := 0, locals := n * 80 + 200 }
abbrev rm_X7_hasFreeBeside (n : Nat) : Room := { frames := 2 * n + 5, cells := 0, slots := 0, locals := n * 80 + 240 }
theorem dX7_hasFreeBeside_0 : decode cX7_hasFreeBeside 0 = .ok (.iload_n 1, 1) := by decide +kernel
theorem dX7_hasFreeBeside_1 : decode cX7_hasFreeBeside 1 = .ok (.bipush 6, 2) := by decide +kernel
theorem dX7_hasFreeBeside_3 : decode cX7_hasFreeBeside 3 = .ok (.imul, 1) := by decide +kernel
theorem dX7_hasFreeBeside_4 : decode cX7_hasFreeBeside 4 = .ok (.istore 5, 2) := by decide +kernel
theorem dX7_hasFreeBeside_6 : decode cX7_hasFreeBeside 6 = .ok (.aload_n 0, 1) := by decide +kernel
theorem dX7_hasFreeBeside_7 : decode cX7_hasFreeBeside 7 = .ok (.getfield 9, 3) := by decide +kernel
theorem dX7_hasFreeBeside_10 : decode cX7_hasFreeBeside 10 = .ok (.iload 5, 2) := by decide +kernel
theorem dX7_hasFreeBeside_12 : decode cX7_hasFreeBeside 12 = .ok (.bipush 6, 2) := by decide +kernel
theorem dX7_hasFreeBeside_14 : decode cX7_hasFreeBeside 14 = .ok (.isub, 1) := by decide +kernel
theorem dX7_hasFreeBeside_15 : decode cX7_hasFreeBeside 15 = .ok (.aload_n 0, 1) := by decide +kernel
theorem dX7_hasFreeBeside_16 : decode cX7_hasFreeBeside 16 = .ok (.getfield 9, 3) := by decide +kernel
theorem dX7_hasFreeBeside_19 : decode cX7_hasFreeBeside 19 = .ok (.iload 5, 2) := by decide +kernel
theorem dX7_hasFreeBeside_21 : decode cX7_hasFreeBeside 21 = .ok (.bipush 6, 2) := by decide +kernel
theorem dX7_hasFreeBeside_23 : decode cX7_hasFreeBeside 23 = .ok (.invokestatic 57, 3) := by decide +kernel
theorem dX7_hasFreeBeside_26 : decode cX7_hasFreeBeside 26 = .ok (.iconst 0, 1) := by decide +kernel
theorem dX7_hasFreeBeside_27 : decode cX7_hasFreeBeside 27 = .ok (.istore 6, 2) := by decide +kernel
theorem dX7_hasFreeBeside_29 : decode cX7_hasFreeBeside 29 = .ok (.iload 6, 2) := by decide +kernel
theorem dX7_hasFreeBeside_31 : decode cX7_hasFreeBeside 31 = .ok (.bipush 6, 2) := by decide +kernel
theorem dX7_hasFreeBeside_33 : decode cX7_hasFreeBeside 33 = .ok (.if_icmp .ge 89, 3) := by decide +kernel
theorem dX7_hasFreeBeside_36 : decode cX7_hasFreeBeside 36 = .ok (.iload 4, 2) := by decide +kernel
theorem dX7_hasFreeBeside_38 : decode cX7_hasFreeBeside 38 = .ok (.iconst 1, 1) := by decide +kernel
theorem dX7_hasFreeBeside_39 : decode cX7_hasFreeBeside 39 = .ok (.iload 6, 2) := by decide +kernel
theorem dX7_hasFreeBeside_41 : decode cX7_hasFreeBeside 41 = .ok (.ishl, 1) := by decide +kernel
theorem dX7_hasFreeBeside_42 : decode cX7_hasFreeBeside 42 = .ok (.iand, 1) := by decide +kernel
theorem dX7_hasFreeBeside_43 : decode cX7_hasFreeBeside 43 = .ok (.ifCond .ne 6, 3) := by decide +kernel
theorem dX7_hasFreeBeside_46 : decode cX7_hasFreeBeside 46 = .ok (.goto 70, 3) := by decide +kernel
theorem dX7_hasFreeBeside_49 : decode cX7_hasFreeBeside 49 = .ok (.aload_n 0, 1) := by decide +kernel
theorem dX7_hasFreeBeside_50 : decode cX7_hasFreeBeside 50 = .ok (.getfield 9, 3) := by decide +kernel
theorem dX7_hasFreeBeside_53 : decode cX7_hasFreeBeside 53 = .ok (.iload 5, 2) := by decide +kernel
theorem dX7_hasFreeBeside_55 : decode cX7_hasFreeBeside 55 = .ok (.iload 6, 2) := by decide +kernel
theorem dX7_hasFreeBeside_57 : decode cX7_hasFreeBeside 57 = .ok (.iadd, 1) := by decide +kernel
theorem dX7_hasFreeBeside_58 : decode cX7_hasFreeBeside 58 = .ok (.iaload, 1) := by decide +kernel
theorem dX7_hasFreeBeside_59 : decode cX7_hasFreeBeside 59 = .ok (.istore 7, 2) := by decide +kernel
theorem dX7_hasFreeBeside_61 : decode cX7_hasFreeBeside 61 = .ok (.aload_n 0, 1) := by decide +kernel
theorem dX7_hasFreeBeside_62 : decode cX7_hasFreeBeside 62 = .ok (.getfield 15, 3) := by decide +kernel
theorem dX7_hasFreeBeside_65 : decode cX7_hasFreeBeside 65 = .ok (.iload_n 3, 1) := by decide +kernel
theorem dX7_hasFreeBeside_66 : decode cX7_hasFreeBeside 66 = .ok (.iload 6, 2) := by decide +kernel
theorem dX7_hasFreeBeside_68 : decode cX7_hasFreeBeside 68 = .ok (.invokevirtual 29, 3) := by decide +kernel
theorem dX7_hasFreeBeside_71 : decode cX7_hasFreeBeside 71 = .ok (.istore 8, 2) := by decide +kernel
theorem dX7_hasFreeBeside_73 : decode cX7_hasFreeBeside 73 = .ok (.aload_n 0, 1) := by decide +kernel
theorem dX7_hasFreeBeside_74 : decode cX7_hasFreeBeside 74 = .ok (.getfield 9, 3) := by decide +kernel
theorem dX7_hasFreeBeside_77 : decode cX7_hasFreeBeside 77 = .ok (.iload 5, 2) := by decide +kernel
theorem dX7_hasFreeBeside_79 : decode cX7_hasFreeBeside 79 = .ok (.iload 6, 2) := by decide +kernel
theorem dX7_hasFreeBeside_81 : decode cX7_hasFreeBeside 81 = .ok (.iadd, 1) := by decide +kernel
theorem dX7_hasFreeBeside_82 : decode cX7_hasFreeBeside 82 = .ok (.iload 7, 2) := by decide +kernel
theorem dX7_hasFreeBeside_84 : decode cX7_hasFreeBeside 84 = .ok (.iload 8, 2) := by decide +kernel
theorem dX7_hasFreeBeside_86 : decode cX7_hasFreeBeside 86 = .ok (.iconst (-1), 1) := by decide +kernel
theorem dX7_hasFreeBeside_87 : decode cX7_hasFreeBeside 87 = .ok (.ixor, 1) := by decide +kernel
theorem dX7_hasFreeBeside_88 : decode cX7_hasFreeBeside 88 = .ok (.iand, 1) := by decide +kernel
theorem dX7_hasFreeBeside_89 : decode cX7_hasFreeBeside 89 = .ok (.iastore, 1) := by decide +kernel
theorem dX7_hasFreeBeside_90 : decode cX7_hasFreeBeside 90 = .ok (.aload_n 0, 1) := by decide +kernel
theorem dX7_hasFreeBeside_91 : decode cX7_hasFreeBeside 91 = .ok (.iload_n 1, 1) := by decide +kernel
theorem dX7_hasFreeBeside_92 : decode cX7_hasFreeBeside 92 = .ok (.iload_n 2, 1) := by decide +kernel
theorem dX7_hasFreeBeside_93 : decode cX7_hasFreeBeside 93 = .ok (.invokevirtual 36, 3) := by decide +kernel
theorem dX7_hasFreeBeside_96 : decode cX7_hasFreeBeside 96 = .ok (.ifCond .eq 5, 3) := by decide +kernel
theorem dX7_hasFreeBeside_99 : decode cX7_hasFreeBeside 99 = .ok (.iconst 1, 1) := by decide +kernel
theorem dX7_hasFreeBeside_100 : decode cX7_hasFreeBeside 100 = .ok (.ireturn, 1) := by decide +kernel
theorem dX7_hasFreeBeside_101 : decode cX7_hasFreeBeside 101 = .ok (.aload_n 0, 1) := by decide +kernel
theorem dX7_hasFreeBeside_102 : decode cX7_hasFreeBeside 102 = .ok (.getfield 9, 3) := by decide +kernel
theorem dX7_hasFreeBeside_105 : decode cX7_hasFreeBeside 105 = .ok (.iload 5, 2) := by decide +kernel
theorem dX7_hasFreeBeside_107 : decode cX7_hasFreeBeside 107 = .ok (.iload 6, 2) := by decide +kernel
theorem dX7_hasFreeBeside_109 : decode cX7_hasFreeBeside 109 = .ok (.iadd, 1) := by decide +kernel
theorem dX7_hasFreeBeside_110 : decode cX7_hasFreeBeside 110 = .ok (.iload 7, 2) := by decide +kernel
theorem dX7_hasFreeBeside_112 : decode cX7_hasFreeBeside 112 = .ok (.iload 8, 2) := by decide +kernel
theorem dX7_hasFreeBeside_114 : decode cX7_hasFreeBeside 114 = .ok (.iand, 1) := by decide +kernel
theorem dX7_hasFreeBeside_115 : decode cX7_hasFreeBeside 115 = .ok (.iastore, 1) := by decide +kernel
theorem dX7_hasFreeBeside_116 : decode cX7_hasFreeBeside 116 = .ok (.iinc 6 1, 3) := by decide +kernel
theorem dX7_hasFreeBeside_119 : decode cX7_hasFreeBeside 119 = .ok (.goto (-90), 3) := by decide +kernel
theorem dX7_hasFreeBeside_122 : decode cX7_hasFreeBeside 122 = .ok (.iconst 0, 1) := by decide +kernel
theorem dX7_hasFreeBeside_123 : decode cX7_hasFreeBeside 123 = .ok (.ireturn, 1) := by decide +kernel
set_option maxHeartbeats 4000000 in
set_option maxRecDepth 100000 in
theorem w_X7_hasFreeBeside (l : Launch) (G : GP) (x : XP) (n : Nat) (DF : Int32 → Int32 → Sto → (Int32 → Sto → Prop) → Prop) (hDF : ∀ (a1 a2 : Int32) (σ : Sto) (P : Int32 → Sto → Prop), DF a1 a2 σ P → g_Meti l yX7_hasFree cX7_hasFree 8 (some .boolean) (rm_X7_hasFree n) G x [.ref (g_ad G 70), .int a1, .int a2] σ P) (a1 : Int32) (a2 : Int32) (a3 : Int32) (a4 : Int32) (σ : Sto) (P : Int32 → Sto → Prop) (h : D_X7_hasFreeBeside DF a1 a2 a3 a4 σ P) : g_Meti l yX7_hasFreeBeside cX7_hasFreeBeside 9 (some .boolean) (rm_X7_hasFreeBeside n) G x [.ref (g_ad G 70), .int a1, .int a2, .int a3, .int a4] σ P := by
  unfold D_X7_hasFreeBeside at h
  refine g_ofWi (by decide +kernel) (Nat.le_of_ble_eq_true rfl) ?_
  intro p e s m args below meth c Q ls C hM hl hret
  have hx := C.1
  have hb := C.2.1
  have hl : lv_has ls 9 [(0, .ref (g_ad G 70)), (1, .int a1), (2, .int a2), (3, .int a3), (4, .int a4)] := hl
  have h := h (fun (v5 : Int32) (v6 : Int32) (σ : Sto) => ∀ (H : Heap) (locs : List Loc) (ls : Array Slot), g_M G x σ s H locs → lv_has ls 9 [(0, .ref (g_ad G 70)), (1, .int a1), (2, .int a2), (3, .int a3), (4, .int a4), (5, .int v5), (6, .int v6)] → W p l e (rm_X7_hasFreeBeside n) s m args below meth c H locs 0 0 Q (F0 m 29 ls []))
  have h := h (by
    intro v5 v6 σ h  H locs ls hM hl
    refine lv_iload (pc := 29) hx hb dX7_hasFreeBeside_29 (lv_at hl 6 rfl) ?_
    refine lv_bipush (pc := 31) (v := 6) hx hb dX7_hasFreeBeside_31 (by decide) ?_
    refine lv_icmp_ge (pc := 33) (tgt := 122) hx hb dX7_hasFreeBeside_33 (by decide) (fun c33 => ?_) (fun c33 => ?_)
    · have h := h.1 c33
      refine lv_iconst (pc := 122) (v := 0) hx hb dX7_hasFreeBeside_122 (by decide) ?_
      exact hret 123 _ _ _ _ _ dX7_hasFreeBeside_123 (by rfl) h hM
    · have h := h.2 c33
      refine lv_iload (pc := 36) hx hb dX7_hasFreeBeside_36 (lv_at hl 4 rfl) ?_
      refine lv_iconst (pc := 38) (v := 1) hx hb dX7_hasFreeBeside_38 (by decide) ?_
      refine lv_iload (pc := 39) hx hb dX7_hasFreeBeside_39 (lv_at hl 6 rfl) ?_
      refine lv_ishl (pc := 41) hx hb dX7_hasFreeBeside_41 ?_
      refine lv_iand (pc := 42) hx hb dX7_hasFreeBeside_42 ?_
      refine lv_if_ne (pc := 43) (tgt := 49) hx hb dX7_hasFreeBeside_43 (by decide) (fun c43 => ?_) (fun c43 => ?_)
      · have h := h.2 c43
        refine lv_aload_n (pc := 49) hx hb dX7_hasFreeBeside_49 rfl (lv_at hl 0 rfl) ?_
        refine g_get (pc := 50) (v := .ref (g_ad G 71)) C hM (by decide) ce_70 fl_RX7_9 rfl dX7_hasFreeBeside_50 ?_
        refine lv_iload (pc := 53) hx hb dX7_hasFreeBeside_53 (lv_at hl 5 rfl) ?_
        refine lv_iload (pc := 55) hx hb dX7_hasFreeBeside_55 (lv_at hl 6 rfl) ?_
        refine lv_iadd (pc := 57) hx hb dX7_hasFreeBeside_57 ?_
        obtain ⟨hc, h⟩ := h
        refine g_ialdK (pc := 58) C hM (by decide) ce_71 hc rfl dX7_hasFreeBeside_58 ?_
        refine lv_istore (pc := 59) (lv' := [(7, .int (σ 71 (ix (v5 + v6)))), (0, .ref (g_ad G 70)), (1, .int a1), (2, .int a2), (3, .int a3), (4, .int a4), (5, .int v5), (6, .int v6)]) hx hb dX7_hasFreeBeside_59 hl (by decide) rfl (fun ls hl => ?_)
        refine lv_aload_n (pc := 61) hx hb dX7_hasFreeBeside_61 rfl (lv_at hl 1 rfl) ?_
        refine g_get (pc := 62) (v := .ref (g_ad G 65)) C hM (by decide) ce_70 fl_RX7_15 rfl dX7_hasFreeBeside_62 ?_
        refine lv_iload_n (pc := 65) hx hb dX7_hasFreeBeside_65 rfl (lv_at hl 4 rfl) ?_
        refine lv_iload (pc := 66) hx hb dX7_hasFreeBeside_66 (lv_at hl 7 rfl) ?_
        refine g_cVi (pc := 68) C hM hl.1 yv_X5_box q5_8 (by decide) ce_65 rfl (w_X5_box l G x a3 v6 σ _ h) rfl rfl ⟨⟨by dsimp only [rm_X7_hasFreeBeside, rm_X7_hasFree, rm_X5_box]; omega, by dsimp only [rm_X7_hasFreeBeside, rm_X7_hasFree, rm_X5_box]; omega⟩, by dsimp only [rm_X7_hasFreeBeside, rm_X7_hasFree, rm_X5_box]; omega, by dsimp only [rm_X7_hasFreeBeside, rm_X7_hasFree, rm_X5_box]; omega⟩ (Nat.le_of_ble_eq_true rfl) dX7_hasFreeBeside_68 (fun r68 s68 H locs h hM => ?_)
        refine lv_istore (pc := 71) (lv' := [(8, .int r68), (7, .int (σ 71 (ix (v5 + v6)))), (0, .ref (g_ad G 70)), (1, .int a1), (2, .int a2), (3, .int a3), (4, .int a4), (5, .int v5), (6, .int v6)]) hx hb dX7_hasFreeBeside_71 hl (by decide) rfl (fun ls hl => ?_)
        refine lv_aload_n (pc := 73) hx hb dX7_hasFreeBeside_73 rfl (lv_at hl 2 rfl) ?_
        refine g_get (pc := 74) (v := .ref (g_ad G 71)) C hM (by decide) ce_70 fl_RX7_9 rfl dX7_hasFreeBeside_74 ?_
        refine lv_iload (pc := 77) hx hb dX7_hasFreeBeside_77 (lv_at hl 7 rfl) ?_
        refine lv_iload (pc := 79) hx hb dX7_hasFreeBeside_79 (lv_at hl 8 rfl) ?_
        refine lv_iadd (pc := 81) hx hb dX7_hasFreeBeside_81 ?_
        refine lv_iload (pc := 82) hx hb dX7_hasFreeBeside_82 (lv_at hl 1 rfl) ?_
        refine lv_iload (pc := 84) hx hb dX7_hasFreeBeside_84 (lv_at hl 0 rfl) ?_
        refine lv_iconst (pc := 86) (v := (-1)) hx hb dX7_hasFreeBeside_86 (by decide) ?_
        refine lv_ixor (pc := 87) hx hb dX7_hasFreeBeside_87 ?_
        refine lv_iand (pc := 88) hx hb dX7_hasFreeBeside_88 ?_
        obtain ⟨hc, h⟩ := h
        refine g_iastE (pc := 89) C hM (by decide) ce_71 hc rfl dX7_hasFreeBeside_89 (fun s89 es89 H locs hM => ?_)
        have h := h s89 es89
        refine lv_aload_n (pc := 90) hx hb dX7_hasFreeBeside_90 rfl (lv_at hl 2 rfl) ?_
        refine lv_iload_n (pc := 91) hx hb dX7_hasFreeBeside_91 rfl (lv_at hl 3 rfl) ?_
        refine lv_iload_n (pc := 92) hx hb dX7_hasFreeBeside_92 rfl (lv_at hl 4 rfl) ?_
        refine g_cVi (pc := 93) C hM hl.1 yv_X7_hasFree q5_10 (by decide) ce_70 rfl (hDF a1 a2 s89 _ h) rfl rfl ⟨⟨by dsimp only [rm_X7_hasFreeBeside, rm_X7_hasFree]; omega, by dsimp only [rm_X7_hasFreeBeside, rm_X7_hasFree]; omega⟩, by dsimp only [rm_X7_hasFreeBeside, rm_X7_hasFree]; omega, by dsimp only [rm_X7_hasFreeBeside, rm_X7_hasFree]; omega⟩ (Nat.le_of_ble_eq_true rfl) dX7_hasFreeBeside_93 (fun r93 s93 H locs h hM => ?_)
        refine lv_if_eq (pc := 96) (tgt := 101) hx hb dX7_hasFreeBeside_96 (by decide) (fun c96 => ?_) (fun c96 => ?_)
        · have h := h.1 c96
          refine lv_aload_n (pc := 101) hx hb dX7_hasFreeBeside_101 rfl (lv_at hl 2 rfl) ?_
          refine g_get (pc := 102) (v := .ref (g_ad G 71)) C hM (by decide) ce_70 fl_RX7_9 rfl dX7_hasFreeBeside_102 ?_
          refine lv_iload (pc := 105) hx hb dX7_hasFreeBeside_105 (lv_at hl 7 rfl) ?_
          refine lv_iload (pc := 107) hx hb dX7_hasFreeBeside_107 (lv_at hl 8 rfl) ?_
          refine lv_iadd (pc := 109) hx hb dX7_hasFreeBeside_109 ?_
          refine lv_iload (pc := 110) hx hb dX7_hasFreeBeside_110 (lv_at hl 1 rfl) ?_
          refine lv_iload (pc := 112) hx hb dX7_hasFreeBeside_112 (lv_at hl 0 rfl) ?_
          refine lv_iand (pc := 114) hx hb dX7_hasFreeBeside_114 ?_
          obtain ⟨hc, h⟩ := h
          refine g_iastE (pc := 115) C hM (by decide) ce_71 hc rfl dX7_hasFreeBeside_115 (fun s115 es115 H locs hM => ?_)
          have h := h s115 es115
          refine lv_iinc (pc := 116) (v := (v6 + 1)) (lv' := [(6, .int (v6 + 1)), (8, .int r68), (7, .int (σ 71 (ix (v5 + v6)))), (0, .ref (g_ad G 70)), (1, .int a1), (2, .int a2), (3, .int a3), (4, .int a4), (5, .int v5)]) hx hb dX7_hasFreeBeside_116 hl (k := 8) rfl (by rfl) (by decide) rfl (fun ls hl => ?_)
          refine lv_goto (pc := 119) (tgt := 29) hx hb dX7_hasFreeBeside_119 (by decide) ?_
          exact h _ _ _ hM (lv_sub hl [3, 4, 5, 6, 7, 8, 0] rfl)
        · have h := h.2 c96
          refine lv_iconst (pc := 99) (v := 1) hx hb dX7_hasFreeBeside_99 (by decide) ?_
          exact hret 100 _ _ _ _ _ dX7_hasFreeBeside_100 (by rfl) h hM
      · have h := h.1 c43
        refine lv_goto (pc := 46) (tgt := 116) hx hb dX7_hasFreeBeside_46 (by decide) ?_
        refine lv_iinc (pc := 116) (v := (v6 + 1)) (lv' := [(6, .int (v6 + 1)), (0, .ref (g_ad G 70)), (1, .int a1), (2, .int a2), (3, .int a3), (4, .int a4), (5, .int v5)]) hx hb dX7_hasFreeBeside_116 hl (k := 6) rfl (by rfl) (by decide) rfl (fun ls hl => ?_)
        refine lv_goto (pc := 119) (tgt := 29) hx hb dX7_hasFreeBeside_119 (by decide) ?_
        exact h _ _ _ hM (lv_sub hl [1, 2, 3, 4, 5, 6, 0] rfl))
  refine lv_iload_n (pc := 0) hx hb dX7_hasFreeBeside_0 rfl (lv_at hl 1 rfl) ?_
  refine lv_bipush (pc := 1) (v := 6) hx hb dX7_hasFreeBeside_1 (by decide) ?_
  refine lv_imul (pc := 3) hx hb dX7_hasFreeBeside_3 ?_
  refine lv_istore (pc := 4) (lv' := [(5, .int (a1 * 6)), (0, .ref (g_ad G 70)), (1, .int a1), (2, .int a2), (3, .int a3), (4, .int a4)]) hx hb dX7_hasFreeBeside_4 hl (by decide) rfl (fun ls hl => ?_)
  refine lv_aload_n (pc := 6) hx hb dX7_hasFreeBeside_6 rfl (lv_at hl 1 rfl) ?_
  refine g_get (pc := 7) (v := .ref (g_ad G 71)) C hM (by decide) ce_70 fl_RX7_9 rfl dX7_hasFreeBeside_7 ?_
  refine lv_iload (pc := 10) hx hb dX7_hasFreeBeside_10 (lv_at hl 0 rfl) ?_
  refine lv_bipush (pc := 12) (v := 6) hx hb dX7_hasFreeBeside_12 (by decide) ?_
  refine lv_isub (pc := 14) hx hb dX7_hasFreeBeside_14 ?_
  refine lv_aload_n (pc := 15) hx hb dX7_hasFreeBeside_15 rfl (lv_at hl 1 rfl) ?_
  refine g_get (pc := 16) (v := .ref (g_ad G 71)) C hM (by decide) ce_70 fl_RX7_9 rfl dX7_hasFreeBeside_16 ?_
  refine lv_iload (pc := 19) hx hb dX7_hasFreeBeside_19 (lv_at hl 0 rfl) ?_
  refine lv_bipush (pc := 21) (v := 6) hx hb dX7_hasFreeBeside_21 (by decide) ?_
  obtain ⟨hc, h⟩ := h
  refine g_copyE (pc := 23) C hM hl.1 q5_27 ⟨q2_96, q2_95, q1_22⟩ (by decide) (by decide) ce_71 ce_71 hc ⟨by dsimp only [rm_X7_hasFreeBeside, rm_X7_hasFree]; omega, by show 0 + 18 ≤ _; dsimp only [rm_X7_hasFreeBeside, rm_X7_hasFree]; omega⟩ dX7_hasFreeBeside_23 (fun s23 es23 H locs hM => ?_)
  have h := h s23 es23
  refine lv_iconst (pc := 26) (v := 0) hx hb dX7_hasFreeBeside_26 (by decide) ?_
  refine lv_istore (pc := 27) (lv' := [(6, .int 0), (5, .int (a1 * 6)), (0, .ref (g_ad G 70)), (1, .int a1), (2, .int a2), (3, .int a3), (4, .int a4)]) hx hb dX7_hasFreeBeside_27 hl (by decide) rfl (fun ls hl => ?_)
  exact h _ _ _ hM (lv_sub hl [2, 3, 4, 5, 6, 1, 0] rfl)

theorem dX7_hasFree_0 : decode cX7_hasFree 0 = .ok (.iconst 0, 1) := by decide +kernel
theorem dX7_hasFree_1 : decode cX7_hasFree 1 = .ok (.istore_n 3, 1) := by decide +kernel
theorem dX7_hasFree_2 : decode cX7_hasFree 2 = .ok (.iconst 0, 1) := by decide +kernel
theorem dX7_hasFree_3 : decode cX7_hasFree 3 = .ok (.istore 4, 2) := by decide +kernel
theorem dX7_hasFree_5 : decode cX7_hasFree 5 = .ok (.iconst 0, 1) := by decide +kernel
theorem dX7_hasFree_6 : decode cX7_hasFree 6 = .ok (.istore 5, 2) := by decide +kernel
theorem dX7_hasFree_8 : decode cX7_hasFree 8 = .ok (.iconst 0, 1) := by decide +kernel
theorem dX7_hasFree_9 : decode cX7_hasFree 9 = .ok (.istore 6, 2) := by decide +kernel
theorem dX7_hasFree_11 : decode cX7_hasFree 11 = .ok (.iload 6, 2) := by decide +kernel
theorem dX7_hasFree_13 : decode cX7_hasFree 13 = .ok (.bipush 24, 2) := by decide +kernel
theorem dX7_hasFree_15 : decode cX7_hasFree 15 = .ok (.if_icmp .ge 72, 3) := by decide +kernel
theorem dX7_hasFree_18 : decode cX7_hasFree 18 = .ok (.iload_n 2, 1) := by decide +kernel
theorem dX7_hasFree_19 : decode cX7_hasFree 19 = .ok (.iconst 1, 1) := by decide +kernel
theorem dX7_hasFree_20 : decode cX7_hasFree 20 = .ok (.iload 6, 2) := by decide +kernel
theorem dX7_hasFree_22 : decode cX7_hasFree 22 = .ok (.ishl, 1) := by decide +kernel
theorem dX7_hasFree_23 : decode cX7_hasFree 23 = .ok (.iand, 1) := by decide +kernel
theorem dX7_hasFree_24 : decode cX7_hasFree 24 = .ok (.ifCond .eq 57, 3) := by decide +kernel
theorem dX7_hasFree_27 : decode cX7_hasFree 27 = .ok (.aload_n 0, 1) := by decide +kernel
theorem dX7_hasFree_28 : decode cX7_hasFree 28 = .ok (.iload_n 1, 1) := by decide +kernel
theorem dX7_hasFree_29 : decode cX7_hasFree 29 = .ok (.iload 6, 2) := by decide +kernel
theorem dX7_hasFree_31 : decode cX7_hasFree 31 = .ok (.invokevirtual 42, 3) := by decide +kernel
theorem dX7_hasFree_34 : decode cX7_hasFree 34 = .ok (.ifCond .eq 6, 3) := by decide +kernel
theorem dX7_hasFree_37 : decode cX7_hasFree 37 = .ok (.goto 44, 3) := by decide +kernel
theorem dX7_hasFree_40 : decode cX7_hasFree 40 = .ok (.aload_n 0, 1) := by decide +kernel
theorem dX7_hasFree_41 : decode cX7_hasFree 41 = .ok (.iload_n 1, 1) := by decide +kernel
theorem dX7_hasFree_42 : decode cX7_hasFree 42 = .ok (.iload 6, 2) := by decide +kernel
theorem dX7_hasFree_44 : decode cX7_hasFree 44 = .ok (.invokevirtual 45, 3) := by decide +kernel
theorem dX7_hasFree_47 : decode cX7_hasFree 47 = .ok (.istore 7, 2) := by decide +kernel
theorem dX7_hasFree_49 : decode cX7_hasFree 49 = .ok (.iload_n 3, 1) := by decide +kernel
theorem dX7_hasFree_50 : decode cX7_hasFree 50 = .ok (.ifCond .eq 16, 3) := by decide +kernel
theorem dX7_hasFree_53 : decode cX7_hasFree 53 = .ok (.iload 7, 2) := by decide +kernel
theorem dX7_hasFree_55 : decode cX7_hasFree 55 = .ok (.invokestatic 48, 3) := by decide +kernel
theorem dX7_hasFree_58 : decode cX7_hasFree 58 = .ok (.iload 5, 2) := by decide +kernel
theorem dX7_hasFree_60 : decode cX7_hasFree 60 = .ok (.invokestatic 48, 3) := by decide +kernel
theorem dX7_hasFree_63 : decode cX7_hasFree 63 = .ok (.if_icmp .ge 11, 3) := by decide +kernel
theorem dX7_hasFree_66 : decode cX7_hasFree 66 = .ok (.iload 6, 2) := by decide +kernel
theorem dX7_hasFree_68 : decode cX7_hasFree 68 = .ok (.istore 4, 2) := by decide +kernel
theorem dX7_hasFree_70 : decode cX7_hasFree 70 = .ok (.iload 7, 2) := by decide +kernel
theorem dX7_hasFree_72 : decode cX7_hasFree 72 = .ok (.istore 5, 2) := by decide +kernel
theorem dX7_hasFree_74 : decode cX7_hasFree 74 = .ok (.iload_n 3, 1) := by decide +kernel
theorem dX7_hasFree_75 : decode cX7_hasFree 75 = .ok (.iconst 1, 1) := by decide +kernel
theorem dX7_hasFree_76 : decode cX7_hasFree 76 = .ok (.iload 6, 2) := by decide +kernel
theorem dX7_hasFree_78 : decode cX7_hasFree 78 = .ok (.ishl, 1) := by decide +kernel
theorem dX7_hasFree_79 : decode cX7_hasFree 79 = .ok (.ior, 1) := by decide +kernel
theorem dX7_hasFree_80 : decode cX7_hasFree 80 = .ok (.istore_n 3, 1) := by decide +kernel
theorem dX7_hasFree_81 : decode cX7_hasFree 81 = .ok (.iinc 6 1, 3) := by decide +kernel
theorem dX7_hasFree_84 : decode cX7_hasFree 84 = .ok (.goto (-73), 3) := by decide +kernel
theorem dX7_hasFree_87 : decode cX7_hasFree 87 = .ok (.iload_n 3, 1) := by decide +kernel
theorem dX7_hasFree_88 : decode cX7_hasFree 88 = .ok (.ifCond .ne 5, 3) := by decide +kernel
theorem dX7_hasFree_91 : decode cX7_hasFree 91 = .ok (.iconst 1, 1) := by decide +kernel
theorem dX7_hasFree_92 : decode cX7_hasFree 92 = .ok (.ireturn, 1) := by decide +kernel
theorem dX7_hasFree_93 : decode cX7_hasFree 93 = .ok (.iload_n 1, 1) := by decide +kernel
theorem dX7_hasFree_94 : decode cX7_hasFree 94 = .ok (.bipush 24, 2) := by decide +kernel
theorem dX7_hasFree_96 : decode cX7_hasFree 96 = .ok (.if_icmp .ge 29, 3) := by decide +kernel
theorem dX7_hasFree_99 : decode cX7_hasFree 99 = .ok (.aload_n 0, 1) := by decide +kernel
theorem dX7_hasFree_100 : decode cX7_hasFree 100 = .ok (.iload_n 1, 1) := by decide +kernel
theorem dX7_hasFree_101 : decode cX7_hasFree 101 = .ok (.iconst 1, 1) := by decide +kernel
theorem dX7_hasFree_102 : decode cX7_hasFree 102 = .ok (.iadd, 1) := by decide +kernel
theorem dX7_hasFree_103 : decode cX7_hasFree 103 = .ok (.iload_n 3, 1) := by decide +kernel
theorem dX7_hasFree_104 : decode cX7_hasFree 104 = .ok (.iconst 1, 1) := by decide +kernel
theorem dX7_hasFree_105 : decode cX7_hasFree 105 = .ok (.iload 4, 2) := by decide +kernel
theorem dX7_hasFree_107 : decode cX7_hasFree 107 = .ok (.ishl, 1) := by decide +kernel
theorem dX7_hasFree_108 : decode cX7_hasFree 108 = .ok (.iconst (-1), 1) := by decide +kernel
theorem dX7_hasFree_109 : decode cX7_hasFree 109 = .ok (.ixor, 1) := by decide +kernel
theorem dX7_hasFree_110 : decode cX7_hasFree 110 = .ok (.iand, 1) := by decide +kernel
theorem dX7_hasFree_111 : decode cX7_hasFree 111 = .ok (.iload 4, 2) := by decide +kernel
theorem dX7_hasFree_113 : decode cX7_hasFree 113 = .ok (.iload 5, 2) := by decide +kernel
theorem dX7_hasFree_115 : decode cX7_hasFree 115 = .ok (.invokevirtual 53, 3) := by decide +kernel
theorem dX7_hasFree_118 : decode cX7_hasFree 118 = .ok (.ifCond .eq 7, 3) := by decide +kernel
theorem dX7_hasFree_121 : decode cX7_hasFree 121 = .ok (.iconst 1, 1) := by decide +kernel
theorem dX7_hasFree_122 : decode cX7_hasFree 122 = .ok (.goto 4, 3) := by decide +kernel
theorem dX7_hasFree_125 : decode cX7_hasFree 125 = .ok (.iconst 0, 1) := by decide +kernel
theorem dX7_hasFree_126 : decode cX7_hasFree 126 = .ok (.ireturn, 1) := by decide +kernel
set_option maxHeartbeats 4000000 in
set_option maxRecDepth 100000 in
theorem w_X7_hasFree (l : Launch) (G : GP) (x : XP) : ∀ (n : Nat) (a1 : Int32) (a2 : Int32) (σ : Sto) (P : Int32 → Sto → Prop), D_X7_hasFree n a1 a2 σ P → g_Meti l yX7_hasFree cX7_hasFree 8 (some .boolean) (rm_X7_hasFree n) G x [.ref (g_ad G 70), .int a1, .int a2] σ P := by
  intro n
  induction n with
  | zero => intro a1 a2 σ P h; exact h.elim
  | succ n ih =>
    intro a1 a2 σ P h
    rw [D_X7_hasFree] at h
    refine g_ofWi (by decide +kernel) (Nat.le_of_ble_eq_true rfl) ?_
    intro p e s m args below meth c Q ls C hM hl hret
    have hx := C.1
    have hb := C.2.1
    have hl : lv_has ls 8 [(0, .ref (g_ad G 70)), (1, .int a1), (2, .int a2)] := hl
    have h := h (fun (v3 : Int32) (v4 : Int32) (v5 : Int32) (v6 : Int32) (σ : Sto) => ∀ (H : Heap) (locs : List Loc) (ls : Array Slot), g_M G x σ s H locs → lv_has ls 8 [(0, .ref (g_ad G 70)), (1, .int a1), (2, .int a2), (3, .int v3), (4, .int v4), (5, .int v5), (6, .int v6)] → W p l e (rm_X7_hasFree (n + 1)) s m args below meth c H locs 0 0 Q (F0 m 11 ls []))
    have h := h (by
      intro v3 v4 v5 v6 σ h  H locs ls hM hl
      refine lv_iload (pc := 11) hx hb dX7_hasFree_11 (lv_at hl 6 rfl) ?_
      refine lv_bipush (pc := 13) (v := 24) hx hb dX7_hasFree_13 (by decide) ?_
      refine lv_icmp_ge (pc := 15) (tgt := 87) hx hb dX7_hasFree_15 (by decide) (fun c15 => ?_) (fun c15 => ?_)
      · have h := h.1 c15
        refine lv_iload_n (pc := 87) hx hb dX7_hasFree_87 rfl (lv_at hl 3 rfl) ?_
        refine lv_if_ne (pc := 88) (tgt := 93) hx hb dX7_hasFree_88 (by decide) (fun c88 => ?_) (fun c88 => ?_)
        · have h := h.2 c88
          refine lv_iload_n (pc := 93) hx hb dX7_hasFree_93 rfl (lv_at hl 1 rfl) ?_
          refine lv_bipush (pc := 94) (v := 24) hx hb dX7_hasFree_94 (by decide) ?_
          refine lv_icmp_ge (pc := 96) (tgt := 125) hx hb dX7_hasFree_96 (by decide) (fun c96 => ?_) (fun c96 => ?_)
          · have h := h.1 c96
            refine lv_iconst (pc := 125) (v := 0) hx hb dX7_hasFree_125 (by decide) ?_
            exact hret 126 _ _ _ _ _ dX7_hasFree_126 (by rfl) h hM
          · have h := h.2 c96
            refine lv_aload_n (pc := 99) hx hb dX7_hasFree_99 rfl (lv_at hl 0 rfl) ?_
            refine lv_iload_n (pc := 100) hx hb dX7_hasFree_100 rfl (lv_at hl 1 rfl) ?_
            refine lv_iconst (pc := 101) (v := 1) hx hb dX7_hasFree_101 (by decide) ?_
            refine lv_iadd (pc := 102) hx hb dX7_hasFree_102 ?_
            refine lv_iload_n (pc := 103) hx hb dX7_hasFree_103 rfl (lv_at hl 3 rfl) ?_
            refine lv_iconst (pc := 104) (v := 1) hx hb dX7_hasFree_104 (by decide) ?_
            refine lv_iload (pc := 105) hx hb dX7_hasFree_105 (lv_at hl 4 rfl) ?_
            refine lv_ishl (pc := 107) hx hb dX7_hasFree_107 ?_
            refine lv_iconst (pc := 108) (v := (-1)) hx hb dX7_hasFree_108 (by decide) ?_
            refine lv_ixor (pc := 109) hx hb dX7_hasFree_109 ?_
            refine lv_iand (pc := 110) hx hb dX7_hasFree_110 ?_
            refine lv_iload (pc := 111) hx hb dX7_hasFree_111 (lv_at hl 4 rfl) ?_
            refine lv_iload (pc := 113) hx hb dX7_hasFree_113 (lv_at hl 5 rfl) ?_
            refine g_cVi (pc := 115) C hM hl.1 yv_X7_hasFreeBeside q5_23 (by decide) ce_70 rfl (w_X7_hasFreeBeside l G x n _ ih (a1 + 1) (v3 &&& (((1 : Int32) <<< (v4 &&& 31)) ^^^ (-1))) v4 v5 σ _ h) rfl rfl ⟨⟨by dsimp only [rm_X7_hasFree, rm_X7_hasFreeBeside]; omega, by dsimp only [rm_X7_hasFree, rm_X7_hasFreeBeside]; omega⟩, by dsimp only [rm_X7_hasFree, rm_X7_hasFreeBeside]; omega, by dsimp only [rm_X7_hasFree, rm_X7_hasFreeBeside]; omega⟩ (Nat.le_of_ble_eq_true rfl) dX7_hasFree_115 (fun r115 s115 H locs h hM => ?_)
            refine lv_if_eq (pc := 118) (tgt := 125) hx hb dX7_hasFree_118 (by decide) (fun c118 => ?_) (fun c118 => ?_)
            · have h := h.1 c118
              refine lv_iconst (pc := 125) (v := 0) hx hb dX7_hasFree_125 (by decide) ?_
              exact hret 126 _ _ _ _ _ dX7_hasFree_126 (by rfl) h hM
            · have h := h.2 c118
              refine lv_iconst (pc := 121) (v := 1) hx hb dX7_hasFree_121 (by decide) ?_
              refine lv_goto (pc := 122) (tgt := 126) hx hb dX7_hasFree_122 (by decide) ?_
              exact hret 126 _ _ _ _ _ dX7_hasFree_126 (by rfl) h hM
        · have h := h.1 c88
          refine lv_iconst (pc := 91) (v := 1) hx hb dX7_hasFree_91 (by decide) ?_
          exact hret 92 _ _ _ _ _ dX7_hasFree_92 (by rfl) h hM
      · have h := h.2 c15
        refine lv_iload_n (pc := 18) hx hb dX7_hasFree_18 rfl (lv_at hl 2 rfl) ?_
        refine lv_iconst (pc := 19) (v := 1) hx hb dX7_hasFree_19 (by decide) ?_
        refine lv_iload (pc := 20) hx hb dX7_hasFree_20 (lv_at hl 6 rfl) ?_
        refine lv_ishl (pc := 22) hx hb dX7_hasFree_22 ?_
        refine lv_iand (pc := 23) hx hb dX7_hasFree_23 ?_
        refine lv_if_eq (pc := 24) (tgt := 81) hx hb dX7_hasFree_24 (by decide) (fun c24 => ?_) (fun c24 => ?_)
        · have h := h.1 c24
          refine lv_iinc (pc := 81) (v := (v6 + 1)) (lv' := [(6, .int (v6 + 1)), (0, .ref (g_ad G 70)), (1, .int a1), (2, .int a2), (3, .int v3), (4, .int v4), (5, .int v5)]) hx hb dX7_hasFree_81 hl (k := 6) rfl (by rfl) (by decide) rfl (fun ls hl => ?_)
          refine lv_goto (pc := 84) (tgt := 11) hx hb dX7_hasFree_84 (by decide) ?_
          exact h _ _ _ hM (lv_sub hl [1, 2, 3, 4, 5, 6, 0] rfl)
        · have h := h.2 c24
          refine lv_aload_n (pc := 27) hx hb dX7_hasFree_27 rfl (lv_at hl 0 rfl) ?_
          refine lv_iload_n (pc := 28) hx hb dX7_hasFree_28 rfl (lv_at hl 1 rfl) ?_
          refine lv_iload (pc := 29) hx hb dX7_hasFree_29 (lv_at hl 6 rfl) ?_
          refine g_cVi (pc := 31) C hM hl.1 yv_X7_isAvoided q5_14 (by decide) ce_70 rfl (w_X7_isAvoided l G x a1 v6 σ _ h) rfl rfl ⟨⟨by dsimp only [rm_X7_hasFree, rm_X7_hasFreeBeside, rm_X7_isAvoided]; omega, by dsimp only [rm_X7_hasFree, rm_X7_hasFreeBeside, rm_X7_isAvoided]; omega⟩, by dsimp only [rm_X7_hasFree, rm_X7_hasFreeBeside, rm_X7_isAvoided]; omega, by dsimp only [rm_X7_hasFree, rm_X7_hasFreeBeside, rm_X7_isAvoided]; omega⟩ (Nat.le_of_ble_eq_true rfl) dX7_hasFree_31 (fun r31 s31 H locs h hM => ?_)
          refine lv_if_eq (pc := 34) (tgt := 40) hx hb dX7_hasFree_34 (by decide) (fun c34 => ?_) (fun c34 => ?_)
          · have h := h.1 c34
            refine lv_aload_n (pc := 40) hx hb dX7_hasFree_40 rfl (lv_at hl 0 rfl) ?_
            refine lv_iload_n (pc := 41) hx hb dX7_hasFree_41 rfl (lv_at hl 1 rfl) ?_
            refine lv_iload (pc := 42) hx hb dX7_hasFree_42 (lv_at hl 6 rfl) ?_
            refine g_cVi (pc := 44) C hM hl.1 yv_X7_escapes q5_18 (by decide) ce_70 rfl (w_X7_escapes l G x a1 v6 s31 _ h) rfl rfl ⟨⟨by dsimp only [rm_X7_hasFree, rm_X7_hasFreeBeside, rm_X7_escapes]; omega, by dsimp only [rm_X7_hasFree, rm_X7_hasFreeBeside, rm_X7_escapes]; omega⟩, by dsimp only [rm_X7_hasFree, rm_X7_hasFreeBeside, rm_X7_escapes]; omega, by dsimp only [rm_X7_hasFree, rm_X7_hasFreeBeside, rm_X7_escapes]; omega⟩ (Nat.le_of_ble_eq_true rfl) dX7_hasFree_44 (fun r44 s44 H locs h hM => ?_)
            refine lv_istore (pc := 47) (lv' := [(7, .int r44), (0, .ref (g_ad G 70)), (1, .int a1), (2, .int a2), (3, .int v3), (4, .int v4), (5, .int v5), (6, .int v6)]) hx hb dX7_hasFree_47 hl (by decide) rfl (fun ls hl => ?_)
            refine lv_iload_n (pc := 49) hx hb dX7_hasFree_49 rfl (lv_at hl 4 rfl) ?_
            refine lv_if_eq (pc := 50) (tgt := 66) hx hb dX7_hasFree_50 (by decide) (fun c50 => ?_) (fun c50 => ?_)
            · have h := h.1 c50
              refine lv_iload (pc := 66) hx hb dX7_hasFree_66 (lv_at hl 7 rfl) ?_
              refine lv_istore (pc := 68) (lv' := [(4, .int v6), (7, .int r44), (0, .ref (g_ad G 70)), (1, .int a1), (2, .int a2), (3, .int v3), (5, .int v5), (6, .int v6)]) hx hb dX7_hasFree_68 hl (by decide) rfl (fun ls hl => ?_)
              refine lv_iload (pc := 70) hx hb dX7_hasFree_70 (lv_at hl 1 rfl) ?_
              refine lv_istore (pc := 72) (lv' := [(5, .int r44), (4, .int v6), (7, .int r44), (0, .ref (g_ad G 70)), (1, .int a1), (2, .int a2), (3, .int v3), (6, .int v6)]) hx hb dX7_hasFree_72 hl (by decide) rfl (fun ls hl => ?_)
              refine lv_iload_n (pc := 74) hx hb dX7_hasFree_74 rfl (lv_at hl 6 rfl) ?_
              refine lv_iconst (pc := 75) (v := 1) hx hb dX7_hasFree_75 (by decide) ?_
              refine lv_iload (pc := 76) hx hb dX7_hasFree_76 (lv_at hl 7 rfl) ?_
              refine lv_ishl (pc := 78) hx hb dX7_hasFree_78 ?_
              refine lv_ior (pc := 79) hx hb dX7_hasFree_79 ?_
              refine lv_topi (fun v3_80 ev3_80 => ?_)
              have h := h v3_80 ev3_80
              refine lv_istore_n (pc := 80) (lv' := [(3, .int v3_80), (5, .int r44), (4, .int v6), (7, .int r44), (0, .ref (g_ad G 70)), (1, .int a1), (2, .int a2), (6, .int v6)]) hx hb dX7_hasFree_80 rfl hl (by decide) rfl (fun ls hl => ?_)
              refine lv_iinc (pc := 81) (v := (v6 + 1)) (lv' := [(6, .int (v6 + 1)), (3, .int v3_80), (5, .int r44), (4, .int v6), (7, .int r44), (0, .ref (g_ad G 70)), (1, .int a1), (2, .int a2)]) hx hb dX7_hasFree_81 hl (k := 7) rfl (by rfl) (by decide) rfl (fun ls hl => ?_)
              refine lv_goto (pc := 84) (tgt := 11) hx hb dX7_hasFree_84 (by decide) ?_
              exact h _ _ _ hM (lv_sub hl [5, 6, 7, 1, 3, 2, 0] rfl)
            · have h := h.2 c50
              refine lv_iload (pc := 53) hx hb dX7_hasFree_53 (lv_at hl 0 rfl) ?_
              refine g_cSi (pc := 55) C hM hl.1 ys_J6_bitCount_0f7a4 q5_22 (w_J6_bitCount_0f7a4 l G x r44 s44 _ h) rfl rfl ⟨⟨by dsimp only [rm_X7_hasFree, rm_X7_hasFreeBeside, rm_J6_bitCount_0f7a4]; omega, by dsimp only [rm_X7_hasFree, rm_X7_hasFreeBeside, rm_J6_bitCount_0f7a4]; omega⟩, by dsimp only [rm_X7_hasFree, rm_X7_hasFreeBeside, rm_J6_bitCount_0f7a4]; omega, by dsimp only [rm_X7_hasFree, rm_X7_hasFreeBeside, rm_J6_bitCount_0f7a4]; omega⟩ (Nat.le_of_ble_eq_true rfl) dX7_hasFree_55 (fun r55 s55 H locs h hM => ?_)
              refine lv_iload (pc := 58) hx hb dX7_hasFree_58 (lv_at hl 6 rfl) ?_
              refine g_cSi (pc := 60) C hM hl.1 ys_J6_bitCount_0f7a4 q5_22 (w_J6_bitCount_0f7a4 l G x v5 s55 _ h) rfl rfl ⟨⟨by dsimp only [rm_X7_hasFree, rm_X7_hasFreeBeside, rm_J6_bitCount_0f7a4]; omega, by dsimp only [rm_X7_hasFree, rm_X7_hasFreeBeside, rm_J6_bitCount_0f7a4]; omega⟩, by dsimp only [rm_X7_hasFree, rm_X7_hasFreeBeside, rm_J6_bitCount_0f7a4]; omega, by dsimp only [rm_X7_hasFree, rm_X7_hasFreeBeside, rm_J6_bitCount_0f7a4]; omega⟩ (Nat.le_of_ble_eq_true rfl) dX7_hasFree_60 (fun r60 s60 H locs h hM => ?_)
              refine lv_icmp_ge (pc := 63) (tgt := 74) hx hb dX7_hasFree_63 (by decide) (fun c63 => ?_) (fun c63 => ?_)
              · have h := h.1 c63
                refine lv_iload_n (pc := 74) hx hb dX7_hasFree_74 rfl (lv_at hl 4 rfl) ?_
                refine lv_iconst (pc := 75) (v := 1) hx hb dX7_hasFree_75 (by decide) ?_
                refine lv_iload (pc := 76) hx hb dX7_hasFree_76 (lv_at hl 7 rfl) ?_
                refine lv_ishl (pc := 78) hx hb dX7_hasFree_78 ?_
                refine lv_ior (pc := 79) hx hb dX7_hasFree_79 ?_
                refine lv_topi (fun v3_80 ev3_80 => ?_)
                have h := h v3_80 ev3_80
                refine lv_istore_n (pc := 80) (lv' := [(3, .int v3_80), (7, .int r44), (0, .ref (g_ad G 70)), (1, .int a1), (2, .int a2), (4, .int v4), (5, .int v5), (6, .int v6)]) hx hb dX7_hasFree_80 rfl hl (by decide) rfl (fun ls hl => ?_)
                refine lv_iinc (pc := 81) (v := (v6 + 1)) (lv' := [(6, .int (v6 + 1)), (3, .int v3_80), (7, .int r44), (0, .ref (g_ad G 70)), (1, .int a1), (2, .int a2), (4, .int v4), (5, .int v5)]) hx hb dX7_hasFree_81 hl (k := 7) rfl (by rfl) (by decide) rfl (fun ls hl => ?_)
                refine lv_goto (pc := 84) (tgt := 11) hx hb dX7_hasFree_84 (by decide) ?_
                exact h _ _ _ hM (lv_sub hl [3, 4, 5, 1, 6, 7, 0] rfl)
              · have h := h.2 c63
                refine lv_iload (pc := 66) hx hb dX7_hasFree_66 (lv_at hl 7 rfl) ?_
                refine lv_istore (pc := 68) (lv' := [(4, .int v6), (7, .int r44), (0, .ref (g_ad G 70)), (1, .int a1), (2, .int a2), (3, .int v3), (5, .int v5), (6, .int v6)]) hx hb dX7_hasFree_68 hl (by decide) rfl (fun ls hl => ?_)
                refine lv_iload (pc := 70) hx hb dX7_hasFree_70 (lv_at hl 1 rfl) ?_
                refine lv_istore (pc := 72) (lv' := [(5, .int r44), (4, .int v6), (7, .int r44), (0, .ref (g_ad G 70)), (1, .int a1), (2, .int a2), (3, .int v3), (6, .int v6)]) hx hb dX7_hasFree_72 hl (by decide) rfl (fun ls hl => ?_)
                refine lv_iload_n (pc := 74) hx hb dX7_hasFree_74 rfl (lv_at hl 6 rfl) ?_
                refine lv_iconst (pc := 75) (v := 1) hx hb dX7_hasFree_75 (by decide) ?_
                refine lv_iload (pc := 76) hx hb dX7_hasFree_76 (lv_at hl 7 rfl) ?_
                refine lv_ishl (pc := 78) hx hb dX7_hasFree_78 ?_
                refine lv_ior (pc := 79) hx hb dX7_hasFree_79 ?_
                refine lv_topi (fun v3_80 ev3_80 => ?_)
                have h := h v3_80 ev3_80
                refine lv_istore_n (pc := 80) (lv' := [(3, .int v3_80), (5, .int r44), (4, .int v6), (7, .int r44), (0, .ref (g_ad G 70)), (1, .int a1), (2, .int a2), (6, .int v6)]) hx hb dX7_hasFree_80 rfl hl (by decide) rfl (fun ls hl => ?_)
                refine lv_iinc (pc := 81) (v := (v6 + 1)) (lv' := [(6, .int (v6 + 1)), (3, .int v3_80), (5, .int r44), (4, .int v6), (7, .int r44), (0, .ref (g_ad G 70)), (1, .int a1), (2, .int a2)]) hx hb dX7_hasFree_81 hl (k := 7) rfl (by rfl) (by decide) rfl (fun ls hl => ?_)
                refine lv_goto (pc := 84) (tgt := 11) hx hb dX7_hasFree_84 (by decide) ?_
                exact h _ _ _ hM (lv_sub hl [5, 6, 7, 1, 3, 2, 0] rfl)
          · have h := h.2 c34
            refine lv_goto (pc := 37) (tgt := 81) hx hb dX7_hasFree_37 (by decide) ?_
            refine lv_iinc (pc := 81) (v := (v6 + 1)) (lv' := [(6, .int (v6 + 1)), (0, .ref (g_ad G 70)), (1, .int a1), (2, .int a2), (3, .int v3), (4, .int v4), (5, .int v5)]) hx hb dX7_hasFree_81 hl (k := 6) rfl (by rfl) (by decide) rfl (fun ls hl => ?_)
            refine lv_goto (pc := 84) (tgt := 11) hx hb dX7_hasFree_84 (by decide) ?_
            exact h _ _ _ hM (lv_sub hl [1, 2, 3, 4, 5, 6, 0] rfl))
    refine lv_iconst (pc := 0) (v := 0) hx hb dX7_hasFree_0 (by decide) ?_
    refine lv_istore_n (pc := 1) (lv' := [(3, .int 0), (0, .ref (g_ad G 70)), (1, .int a1), (2, .int a2)]) hx hb dX7_hasFree_1 rfl hl (by decide) rfl (fun ls hl => ?_)
    refine lv_iconst (pc := 2) (v := 0) hx hb dX7_hasFree_2 (by decide) ?_
    refine lv_istore (pc := 3) (lv' := [(4, .int 0), (3, .int 0), (0, .ref (g_ad G 70)), (1, .int a1), (2, .int a2)]) hx hb dX7_hasFree_3 hl (by decide) rfl (fun ls hl => ?_)
    refine lv_iconst (pc := 5) (v := 0) hx hb dX7_hasFree_5 (by decide) ?_
    refine lv_istore (pc := 6) (lv' := [(5, .int 0), (4, .int 0), (3, .int 0), (0, .ref (g_ad G 70)), (1, .int a1), (2, .int a2)]) hx hb dX7_hasFree_6 hl (by decide) rfl (fun ls hl => ?_)
    refine lv_iconst (pc := 8) (v := 0) hx hb dX7_hasFree_8 (by decide) ?_
    refine lv_istore (pc := 9) (lv' := [(6, .int 0), (5, .int 0), (4, .int 0), (3, .int 0), (0, .ref (g_ad G 70)), (1, .int a1), (2, .int a2)]) hx hb dX7_hasFree_9 hl (by decide) rfl (fun ls hl => ?_)
    exact h _ _ _ hM (lv_sub hl [4, 5, 6, 3, 2, 1, 0] rfl)
abbrev rm_X7_isFree : Room := { frames := 65, cells := 0, slots := 0, locals := 2627 }
theorem dX7_isFree_0 : decode cX7_isFree 0 = .ok (.iconst 0, 1) := by decide +kernel
theorem dX7_isFree_1 : decode cX7_isFree 1 = .ok (.istore_n 3, 1) := by decide +kernel
theorem dX7_isFree_2 : decode cX7_isFree 2 = .ok (.iload_n 3, 1) := by decide +kernel
theorem dX7_isFree_3 : decode cX7_isFree 3 = .ok (.bipush 6, 2) := by decide +kernel
theorem dX7_isFree_5 : decode cX7_isFree 5 = .ok (.if_icmp .ge 24, 3) := by decide +kernel
theorem dX7_isFree_8 : decode cX7_isFree 8 = .ok (.aload_n 0, 1) := by decide +kernel
theorem dX7_isFree_9 : decode cX7_isFree 9 = .ok (.getfield 9, 3) := by decide +kernel
theorem dX7_isFree_12 : decode cX7_isFree 12 = .ok (.iload_n 3, 1) := by decide +kernel
theorem dX7_isFree_13 : decode cX7_isFree 13 = .ok (.aload_n 0, 1) := by decide +kernel
theorem dX7_isFree_14 : decode cX7_isFree 14 = .ok (.getfield 15, 3) := by decide +kernel
theorem dX7_isFree_17 : decode cX7_isFree 17 = .ok (.iload_n 1, 1) := by decide +kernel
theorem dX7_isFree_18 : decode cX7_isFree 18 = .ok (.iload_n 3, 1) := by decide +kernel
theorem dX7_isFree_19 : decode cX7_isFree 19 = .ok (.invokevirtual 29, 3) := by decide +kernel
theorem dX7_isFree_22 : decode cX7_isFree 22 = .ok (.iastore, 1) := by decide +kernel
theorem dX7_isFree_23 : decode cX7_isFree 23 = .ok (.iinc 3 1, 3) := by decide +kernel
theorem dX7_isFree_26 : decode cX7_isFree 26 = .ok (.goto (-24), 3) := by decide +kernel
theorem dX7_isFree_29 : decode cX7_isFree 29 = .ok (.aload_n 0, 1) := by decide +kernel
theorem dX7_isFree_30 : decode cX7_isFree 30 = .ok (.getfield 15, 3) := by decide +kernel
theorem dX7_isFree_33 : decode cX7_isFree 33 = .ok (.iload_n 1, 1) := by decide +kernel
theorem dX7_isFree_34 : decode cX7_isFree 34 = .ok (.invokevirtual 33, 3) := by decide +kernel
theorem dX7_isFree_37 : decode cX7_isFree 37 = .ok (.ifCond .le 16, 3) := by decide +kernel
theorem dX7_isFree_40 : decode cX7_isFree 40 = .ok (.aload_n 0, 1) := by decide +kernel
theorem dX7_isFree_41 : decode cX7_isFree 41 = .ok (.iconst 0, 1) := by decide +kernel
theorem dX7_isFree_42 : decode cX7_isFree 42 = .ok (.iload_n 2, 1) := by decide +kernel
theorem dX7_isFree_43 : decode cX7_isFree 43 = .ok (.invokevirtual 36, 3) := by decide +kernel
theorem dX7_isFree_46 : decode cX7_isFree 46 = .ok (.ifCond .eq 7, 3) := by decide +kernel
theorem dX7_isFree_49 : decode cX7_isFree 49 = .ok (.iconst 1, 1) := by decide +kernel
theorem dX7_isFree_50 : decode cX7_isFree 50 = .ok (.goto 4, 3) := by decide +kernel
theorem dX7_isFree_53 : decode cX7_isFree 53 = .ok (.iconst 0, 1) := by decide +kernel
theorem dX7_isFree_54 : decode cX7_isFree 54 = .ok (.ireturn, 1) := by decide +kernel
set_option maxHeartbeats 4000000 in
set_option maxRecDepth 100000 in
theorem w_X7_isFree (l : Launch) (G : GP) (x : XP) (a1 : Int32) (a2 : Int32) (σ : Sto) (P : Int32 → Sto → Prop) (h : D_X7_isFree a1 a2 σ P) : g_Meti l yX7_isFree cX7_isFree 4 (some .boolean) rm_X7_isFree G x [.ref (g_ad G 70), .int a1, .int a2] σ P := by
  unfold D_X7_isFree at h
  refine g_ofWi (by decide +kernel) (Nat.le_of_ble_eq_true rfl) ?_
  intro p e s m args below meth c Q ls C hM hl hret
  have hx := C.1
  have hb := C.2.1
  have hl : lv_has ls 4 [(0, .ref (g_ad G 70)), (1, .int a1), (2, .int a2)] := hl
  have h := h (fun (v3 : Int32) (σ : Sto) => ∀ (H : Heap) (locs : List Loc) (ls : Array Slot), g_M G x σ s H locs → lv_has ls 4 [(0, .ref (g_ad G 70)), (1, .int a1), (2, .int a2), (3, .int v3)] → W p l e rm_X7_isFree s m args below meth c H locs 0 0 Q (F0 m 2 ls []))
  have h := h (by
    intro v3 σ h  H locs ls hM hl
    refine lv_iload_n (pc := 2) hx hb dX7_isFree_2 rfl (lv_at hl 3 rfl) ?_
    refine lv_bipush (pc := 3) (v := 6) hx hb dX7_isFree_3 (by decide) ?_
    refine lv_icmp_ge (pc := 5) (tgt := 29) hx hb dX7_isFree_5 (by decide) (fun c5 => ?_) (fun c5 => ?_)
    · have h := h.1 c5
      refine lv_aload_n (pc := 29) hx hb dX7_isFree_29 rfl (lv_at hl 0 rfl) ?_
      refine g_get (pc := 30) (v := .ref (g_ad G 65)) C hM (by decide) ce_70 fl_RX7_15 rfl dX7_isFree_30 ?_
      refine lv_iload_n (pc := 33) hx hb dX7_isFree_33 rfl (lv_at hl 1 rfl) ?_
      refine g_cVi (pc := 34) C hM hl.1 yv_X5_sizeOf q5_9 (by decide) ce_65 rfl (w_X5_sizeOf l G x a1 σ _ h) rfl rfl ⟨⟨by decide, by decide⟩, by decide, by decide⟩ (Nat.le_of_ble_eq_true rfl) dX7_isFree_34 (fun r34 s34 H locs h hM => ?_)
      refine lv_if_le (pc := 37) (tgt := 53) hx hb dX7_isFree_37 (by decide) (fun c37 => ?_) (fun c37 => ?_)
      · have h := h.1 c37
        refine lv_iconst (pc := 53) (v := 0) hx hb dX7_isFree_53 (by decide) ?_
        exact hret 54 _ _ _ _ _ dX7_isFree_54 (by rfl) h hM
      · have h := h.2 c37
        refine lv_aload_n (pc := 40) hx hb dX7_isFree_40 rfl (lv_at hl 0 rfl) ?_
        refine lv_iconst (pc := 41) (v := 0) hx hb dX7_isFree_41 (by decide) ?_
        refine lv_iload_n (pc := 42) hx hb dX7_isFree_42 rfl (lv_at hl 2 rfl) ?_
        refine g_cVi (pc := 43) C hM hl.1 yv_X7_hasFree q5_10 (by decide) ce_70 rfl (w_X7_hasFree l G x 30 0 a2 s34 _ h) rfl rfl ⟨⟨by decide, by decide⟩, by decide, by decide⟩ (Nat.le_of_ble_eq_true rfl) dX7_isFree_43 (fun r43 s43 H locs h hM => ?_)
        refine lv_if_eq (pc := 46) (tgt := 53) hx hb dX7_isFree_46 (by decide) (fun c46 => ?_) (fun c46 => ?_)
        · have h := h.1 c46
          refine lv_iconst (pc := 53) (v := 0) hx hb dX7_isFree_53 (by decide) ?_
          exact hret 54 _ _ _ _ _ dX7_isFree_54 (by rfl) h hM
        · have h := h.2 c46
          refine lv_iconst (pc := 49) (v := 1) hx hb dX7_isFree_49 (by decide) ?_
          refine lv_goto (pc := 50) (tgt := 54) hx hb dX7_isFree_50 (by decide) ?_
          exact hret 54 _ _ _ _ _ dX7_isFree_54 (by rfl) h hM
    · have h := h.2 c5
      refine lv_aload_n (pc := 8) hx hb dX7_isFree_8 rfl (lv_at hl 0 rfl) ?_
      refine g_get (pc := 9) (v := .ref (g_ad G 71)) C hM (by decide) ce_70 fl_RX7_9 rfl dX7_isFree_9 ?_
      refine lv_iload_n (pc := 12) hx hb dX7_isFree_12 rfl (lv_at hl 3 rfl) ?_
      refine lv_aload_n (pc := 13) hx hb dX7_isFree_13 rfl (lv_at hl 0 rfl) ?_
      refine g_get (pc := 14) (v := .ref (g_ad G 65)) C hM (by decide) ce_70 fl_RX7_15 rfl dX7_isFree_14 ?_
      refine lv_iload_n (pc := 17) hx hb dX7_isFree_17 rfl (lv_at hl 1 rfl) ?_
      refine lv_iload_n (pc := 18) hx hb dX7_isFree_18 rfl (lv_at hl 3 rfl) ?_
      refine g_cVi (pc := 19) C hM hl.1 yv_X5_box q5_8 (by decide) ce_65 rfl (w_X5_box l G x a1 v3 σ _ h) rfl rfl ⟨⟨by decide, by decide⟩, by decide, by decide⟩ (Nat.le_of_ble_eq_true rfl) dX7_isFree_19 (fun r19 s19 H locs h hM => ?_)
      obtain ⟨hc, h⟩ := h
      refine g_iastE (pc := 22) C hM (by decide) ce_71 hc rfl dX7_isFree_22 (fun s22 es22 H locs hM => ?_)
      have h := h s22 es22
      refine lv_iinc (pc := 23) (v := (v3 + 1)) (lv' := [(3, .int (v3 + 1)), (0, .ref (g_ad G 70)), (1, .int a1), (2, .int a2)]) hx hb dX7_isFree_23 hl (k := 3) rfl (by rfl) (by decide) rfl (fun ls hl => ?_)
      refine lv_goto (pc := 26) (tgt := 2) hx hb dX7_isFree_26 (by decide) ?_
      exact h _ _ _ hM (lv_sub hl [1, 2, 3, 0] rfl))
  refine lv_iconst (pc := 0) (v := 0) hx hb dX7_isFree_0 (by decide) ?_
  refine lv_istore_n (pc := 1) (lv' := [(3, .int 0), (0, .ref (g_ad G 70)), (1, .int a1), (2, .int a2)]) hx hb dX7_isFree_1 rfl hl (by decide) rfl (fun ls hl => ?_)
  exact h _ _ _ hM (lv_sub hl [1, 2, 3, 0] rfl)
abbrev rm_X7_canDecide : Room := { frames := 66, cells := 0, slots := 0, locals := 2650 }
theorem dX7_canDecide_0 : decode cX7_canDecide 0 = .ok (.aload_n 0, 1) := by decide +kernel
theorem dX7_canDecide_1 : decode cX7_canDecide 1 = .ok (.iload_n 1, 1) := by decide +kernel
theorem dX7_canDecide_2 : decode cX7_canDecide 2 = .ok (.aload_n 0, 1) := by decide +kernel
theorem dX7_canDecide_3 : decode cX7_canDecide 3 = .ok (.getfield 15, 3) := by decide +kernel
theorem dX7_canDecide_6 : decode cX7_canDecide 6 = .ok (.iload_n 1, 1) := by decide +kernel
theorem dX7_canDecide_7 : decode cX7_canDecide 7 = .ok (.invokevirtual 19, 3) := by decide +kernel
theorem dX7_canDecide_10 : decode cX7_canDecide 10 = .ok (.invokevirtual 25, 3) := by decide +kernel
theorem dX7_canDecide_13 : decode cX7_canDecide 13 = .ok (.ireturn, 1) := by decide +kernel
set_option maxHeartbeats 4000000 in
set_option maxRecDepth 100000 in
theorem w_X7_canDecide (l : Launch) (G : GP) (x : XP) (a1 : Int32) (σ : Sto) (P : Int32 → Sto → Prop) (h : D_X7_canDecide a1 σ P) : g_Meti l yX7_canDecide cX7_canDecide 2 (some .boolean) rm_X7_canDecide G x [.ref (g_ad G 70), .int a1] σ P := by
  unfold D_X7_canDecide at h
  refine g_ofWi (by decide +kernel) (Nat.le_of_ble_eq_true rfl) ?_
  intro p e s m args below meth c Q ls C hM hl hret
  have hx := C.1
  have hb := C.2.1
  have hl : lv_has ls 2 [(0, .ref (g_ad G 70)), (1, .int a1)] := hl
  refine lv_aload_n (pc := 0) hx hb dX7_canDecide_0 rfl (lv_at hl 0 rfl) ?_
  refine lv_iload_n (pc := 1) hx hb dX7_canDecide_1 rfl (lv_at hl 1 rfl) ?_
  refine lv_aload_n (pc := 2) hx hb dX7_canDecide_2 rfl (lv_at hl 0 rfl) ?_
  refine g_get (pc := 3) (v := .ref (g_ad G 65)) C hM (by decide) ce_70 fl_RX7_15 rfl dX7_canDecide_3 ?_
  refine lv_iload_n (pc := 6) hx hb dX7_canDecide_6 rfl (lv_at hl 1 rfl) ?_
  refine g_cVi (pc := 7) C hM hl.1 yv_X5_rivals q5_0 (by decide) ce_65 rfl (w_X5_rivals l G x a1 σ _ h) rfl rfl ⟨⟨by decide, by decide⟩, by decide, by decide⟩ (Nat.le_of_ble_eq_true rfl) dX7_canDecide_7 (fun r7 s7 H locs h hM => ?_)
  refine g_cVi (pc := 10) C hM hl.1 yv_X7_isFree q5_4 (by decide) ce_70 rfl (w_X7_isFree l G x a1 r7 s7 _ h) rfl rfl ⟨⟨by decide, by decide⟩, by decide, by decide⟩ (Nat.le_of_ble_eq_true rfl) dX7_canDecide_10 (fun r10 s10 H locs h hM => ?_)
  exact hret 13 _ _ _ _ _ dX7_canDecide_13 (nar_b h.1) h.2 hM
abbrev rm_X7_fixFirst : Room := { frames := 65, cells := 0, slots := 0, locals := 2627 }
theorem dX7_fixFirst_0 : decode cX7_fixFirst 0 = .ok (.aload_n 0, 1) := by decide +kernel
theorem dX7_fixFirst_1 : decode cX7_fixFirst 1 = .ok (.getfield 9, 3) := by decide +kernel
theorem dX7_fixFirst_4 : decode cX7_fixFirst 4 = .ok (.iload_n 1, 1) := by decide +kernel
theorem dX7_fixFirst_5 : decode cX7_fixFirst 5 = .ok (.iaload, 1) := by decide +kernel
theorem dX7_fixFirst_6 : decode cX7_fixFirst 6 = .ok (.istore_n 3, 1) := by decide +kernel
theorem dX7_fixFirst_7 : decode cX7_fixFirst 7 = .ok (.iconst 0, 1) := by decide +kernel
theorem dX7_fixFirst_8 : decode cX7_fixFirst 8 = .ok (.istore 4, 2) := by decide +kernel
theorem dX7_fixFirst_10 : decode cX7_fixFirst 10 = .ok (.iload 4, 2) := by decide +kernel
theorem dX7_fixFirst_12 : decode cX7_fixFirst 12 = .ok (.bipush 16, 2) := by decide +kernel
theorem dX7_fixFirst_14 : decode cX7_fixFirst 14 = .ok (.if_icmp .ge 42, 3) := by decide +kernel
theorem dX7_fixFirst_17 : decode cX7_fixFirst 17 = .ok (.aload_n 0, 1) := by decide +kernel
theorem dX7_fixFirst_18 : decode cX7_fixFirst 18 = .ok (.getfield 9, 3) := by decide +kernel
theorem dX7_fixFirst_21 : decode cX7_fixFirst 21 = .ok (.iload_n 1, 1) := by decide +kernel
theorem dX7_fixFirst_22 : decode cX7_fixFirst 22 = .ok (.iload_n 3, 1) := by decide +kernel
theorem dX7_fixFirst_23 : decode cX7_fixFirst 23 = .ok (.iconst 1, 1) := by decide +kernel
theorem dX7_fixFirst_24 : decode cX7_fixFirst 24 = .ok (.iload 4, 2) := by decide +kernel
theorem dX7_fixFirst_26 : decode cX7_fixFirst 26 = .ok (.ishl, 1) := by decide +kernel
theorem dX7_fixFirst_27 : decode cX7_fixFirst 27 = .ok (.iand, 1) := by decide +kernel
theorem dX7_fixFirst_28 : decode cX7_fixFirst 28 = .ok (.iastore, 1) := by decide +kernel
theorem dX7_fixFirst_29 : decode cX7_fixFirst 29 = .ok (.aload_n 0, 1) := by decide +kernel
theorem dX7_fixFirst_30 : decode cX7_fixFirst 30 = .ok (.getfield 9, 3) := by decide +kernel
theorem dX7_fixFirst_33 : decode cX7_fixFirst 33 = .ok (.iload_n 1, 1) := by decide +kernel
theorem dX7_fixFirst_34 : decode cX7_fixFirst 34 = .ok (.iaload, 1) := by decide +kernel
theorem dX7_fixFirst_35 : decode cX7_fixFirst 35 = .ok (.ifCond .eq 15, 3) := by decide +kernel
theorem dX7_fixFirst_38 : decode cX7_fixFirst 38 = .ok (.aload_n 0, 1) := by decide +kernel
theorem dX7_fixFirst_39 : decode cX7_fixFirst 39 = .ok (.iconst 0, 1) := by decide +kernel
theorem dX7_fixFirst_40 : decode cX7_fixFirst 40 = .ok (.iload_n 2, 1) := by decide +kernel
theorem dX7_fixFirst_41 : decode cX7_fixFirst 41 = .ok (.invokevirtual 36, 3) := by decide +kernel
theorem dX7_fixFirst_44 : decode cX7_fixFirst 44 = .ok (.ifCond .eq 6, 3) := by decide +kernel
theorem dX7_fixFirst_47 : decode cX7_fixFirst 47 = .ok (.iload 4, 2) := by decide +kernel
theorem dX7_fixFirst_49 : decode cX7_fixFirst 49 = .ok (.ireturn, 1) := by decide +kernel
theorem dX7_fixFirst_50 : decode cX7_fixFirst 50 = .ok (.iinc 4 1, 3) := by decide +kernel
theorem dX7_fixFirst_53 : decode cX7_fixFirst 53 = .ok (.goto (-43), 3) := by decide +kernel
theorem dX7_fixFirst_56 : decode cX7_fixFirst 56 = .ok (.iconst 0, 1) := by decide +kernel
theorem dX7_fixFirst_57 : decode cX7_fixFirst 57 = .ok (.ireturn, 1) := by decide +kernel
set_option maxHeartbeats 4000000 in
set_option maxRecDepth 100000 in
theorem w_X7_fixFirst (l : Launch) (G : GP) (x : XP) (a1 : Int32) (a2 : Int32) (σ : Sto) (P : Int32 → Sto → Prop) (h : D_X7_fixFirst a1 a2 σ P) : g_Meti l yX7_fixFirst cX7_fixFirst 5 (some .int) rm_X7_fixFirst G x [.ref (g_ad G 70), .int a1, .int a2] σ P := by
  unfold D_X7_fixFirst at h
  refine g_ofWi (by decide +kernel) (Nat.le_of_ble_eq_true rfl) ?_
  intro p e s m args below meth c Q ls C hM hl hret
  have hx := C.1
  have hb := C.2.1
  have hl : lv_has ls 5 [(0, .ref (g_ad G 70)), (1, .int a1), (2, .int a2)] := hl
  have h := h (fun (v3 : Int32) (v4 : Int32) (σ : Sto) => ∀ (H : Heap) (locs : List Loc) (ls : Array Slot), g_M G x σ s H locs → lv_has ls 5 [(0, .ref (g_ad G 70)), (1, .int a1), (2, .int a2), (3, .int v3), (4, .int v4)] → W p l e rm_X7_fixFirst s m args below meth c H locs 0 0 Q (F0 m 10 ls []))
  have h := h (by
    intro v3 v4 σ h  H locs ls hM hl
    refine lv_iload (pc := 10) hx hb dX7_fixFirst_10 (lv_at hl 4 rfl) ?_
    refine lv_bipush (pc := 12) (v := 16) hx hb dX7_fixFirst_12 (by decide) ?_
    refine lv_icmp_ge (pc := 14) (tgt := 56) hx hb dX7_fixFirst_14 (by decide) (fun c14 => ?_) (fun c14 => ?_)
    · have h := h.1 c14
      refine lv_iconst (pc := 56) (v := 0) hx hb dX7_fixFirst_56 (by decide) ?_
      exact hret 57 _ _ _ _ _ dX7_fixFirst_57 (by rfl) h hM
    · have h := h.2 c14
      refine lv_aload_n (pc := 17) hx hb dX7_fixFirst_17 rfl (lv_at hl 0 rfl) ?_
      refine g_get (pc := 18) (v := .ref (g_ad G 71)) C hM (by decide) ce_70 fl_RX7_9 rfl dX7_fixFirst_18 ?_
      refine lv_iload_n (pc := 21) hx hb dX7_fixFirst_21 rfl (lv_at hl 1 rfl) ?_
      refine lv_iload_n (pc := 22) hx hb dX7_fixFirst_22 rfl (lv_at hl 3 rfl) ?_
      refine lv_iconst (pc := 23) (v := 1) hx hb dX7_fixFirst_23 (by decide) ?_
      refine lv_iload (pc := 24) hx hb dX7_fixFirst_24 (lv_at hl 4 rfl) ?_
      refine lv_ishl (pc := 26) hx hb dX7_fixFirst_26 ?_
      refine lv_iand (pc := 27) hx hb dX7_fixFirst_27 ?_
      obtain ⟨hc, h⟩ := h
      refine g_iastE (pc := 28) C hM (by decide) ce_71 hc rfl dX7_fixFirst_28 (fun s28 es28 H locs hM => ?_)
      have h := h s28 es28
      refine lv_aload_n (pc := 29) hx hb dX7_fixFirst_29 rfl (lv_at hl 0 rfl) ?_
      refine g_get (pc := 30) (v := .ref (g_ad G 71)) C hM (by decide) ce_70 fl_RX7_9 rfl dX7_fixFirst_30 ?_
      refine lv_iload_n (pc := 33) hx hb dX7_fixFirst_33 rfl (lv_at hl 1 rfl) ?_
      obtain ⟨hc, h⟩ := h
      refine g_ialdK (pc := 34) C hM (by decide) ce_71 hc rfl dX7_fixFirst_34 ?_
      refine lv_if_eq (pc := 35) (tgt := 50) hx hb dX7_fixFirst_35 (by decide) (fun c35 => ?_) (fun c35 => ?_)
      · have h := h.1 c35
        refine lv_iinc (pc := 50) (v := (v4 + 1)) (lv' := [(4, .int (v4 + 1)), (0, .ref (g_ad G 70)), (1, .int a1), (2, .int a2), (3, .int v3)]) hx hb dX7_fixFirst_50 hl (k := 4) rfl (by rfl) (by decide) rfl (fun ls hl => ?_)
        refine lv_goto (pc := 53) (tgt := 10) hx hb dX7_fixFirst_53 (by decide) ?_
        exact h _ _ _ hM (lv_sub hl [1, 2, 3, 4, 0] rfl)
      · have h := h.2 c35
        refine lv_aload_n (pc := 38) hx hb dX7_fixFirst_38 rfl (lv_at hl 0 rfl) ?_
        refine lv_iconst (pc := 39) (v := 0) hx hb dX7_fixFirst_39 (by decide) ?_
        refine lv_iload_n (pc := 40) hx hb dX7_fixFirst_40 rfl (lv_at hl 2 rfl) ?_
        refine g_cVi (pc := 41) C hM hl.1 yv_X7_hasFree q5_10 (by decide) ce_70 rfl (w_X7_hasFree l G x 30 0 a2 s28 _ h) rfl rfl ⟨⟨by decide, by decide⟩, by decide, by decide⟩ (Nat.le_of_ble_eq_true rfl) dX7_fixFirst_41 (fun r41 s41 H locs h hM => ?_)
        refine lv_if_eq (pc := 44) (tgt := 50) hx hb dX7_fixFirst_44 (by decide) (fun c44 => ?_) (fun c44 => ?_)
        · have h := h.1 c44
          refine lv_iinc (pc := 50) (v := (v4 + 1)) (lv' := [(4, .int (v4 + 1)), (0, .ref (g_ad G 70)), (1, .int a1), (2, .int a2), (3, .int v3)]) hx hb dX7_fixFirst_50 hl (k := 4) rfl (by rfl) (by decide) rfl (fun ls hl => ?_)
          refine lv_goto (pc := 53) (tgt := 10) hx hb dX7_fixFirst_53 (by decide) ?_
          exact h _ _ _ hM (lv_sub hl [1, 2, 3, 4, 0] rfl)
        · have h := h.2 c44
          refine lv_iload (pc := 47) hx hb dX7_fixFirst_47 (lv_at hl 4 rfl) ?_
          exact hret 49 _ _ _ _ _ dX7_fixFirst_49 (by rfl) h hM)
  refine lv_aload_n (pc := 0) hx hb dX7_fixFirst_0 rfl (lv_at hl 0 rfl) ?_
  refine g_get (pc := 1) (v := .ref (g_ad G 71)) C hM (by decide) ce_70 fl_RX7_9 rfl dX7_fixFirst_1 ?_
  refine lv_iload_n (pc := 4) hx hb dX7_fixFirst_4 rfl (lv_at hl 1 rfl) ?_
  obtain ⟨hc, h⟩ := h
  refine g_ialdK (pc := 5) C hM (by decide) ce_71 hc rfl dX7_fixFirst_5 ?_
  refine lv_istore_n (pc := 6) (lv' := [(3, .int (σ 71 (ix a1))), (0, .ref (g_ad G 70)), (1, .int a1), (2, .int a2)]) hx hb dX7_fixFirst_6 rfl hl (by decide) rfl (fun ls hl => ?_)
  refine lv_iconst (pc := 7) (v := 0) hx hb dX7_fixFirst_7 (by decide) ?_
  refine lv_istore (pc := 8) (lv' := [(4, .int 0), (3, .int (σ 71 (ix a1))), (0, .ref (g_ad G 70)), (1, .int a1), (2, .int a2)]) hx hb dX7_fixFirst_8 hl (by decide) rfl (fun ls hl => ?_)
  exact h _ _ _ hM (lv_sub hl [2, 3, 4, 1, 0] rfl)
abbrev rm_X7_witnessValue : Room := { frames := 66, cells := 0, slots := 0, locals := 2651 }
theorem dX7_witnessValue_0 : decode cX7_witnessValue 0 = .ok (.aload_n 0, 1) := by decide +kernel
theorem dX7_witnessValue_1 : decode cX7_witnessValue 1 = .ok (.getfield 15, 3) := by decide +kernel
theorem dX7_witnessValue_4 : decode cX7_witnessValue 4 = .ok (.iload_n 1, 1) := by decide +kernel
theorem dX7_witnessValue_5 : decode cX7_witnessValue 5 = .ok (.invokevirtual 19, 3) := by decide +kernel
theorem dX7_witnessValue_8 : decode cX7_witnessValue 8 = .ok (.istore_n 3, 1) := by decide +kernel
theorem dX7_witnessValue_9 : decode cX7_witnessValue 9 = .ok (.aload_n 0, 1) := by decide +kernel
theorem dX7_witnessValue_10 : decode cX7_witnessValue 10 = .ok (.iload_n 1, 1) := by decide +kernel
theorem dX7_witnessValue_11 : decode cX7_witnessValue 11 = .ok (.iload_n 3, 1) := by decide +kernel
theorem dX7_witnessValue_12 : decode cX7_witnessValue 12 = .ok (.invokevirtual 25, 3) := by decide +kernel
theorem dX7_witnessValue_15 : decode cX7_witnessValue 15 = .ok (.ifCond .ne 5, 3) := by decide +kernel
theorem dX7_witnessValue_18 : decode cX7_witnessValue 18 = .ok (.iconst (-1), 1) := by decide +kernel
theorem dX7_witnessValue_19 : decode cX7_witnessValue 19 = .ok (.ireturn, 1) := by decide +kernel
theorem dX7_witnessValue_20 : decode cX7_witnessValue 20 = .ok (.iconst 0, 1) := by decide +kernel
theorem dX7_witnessValue_21 : decode cX7_witnessValue 21 = .ok (.istore 4, 2) := by decide +kernel
theorem dX7_witnessValue_23 : decode cX7_witnessValue 23 = .ok (.iconst 0, 1) := by decide +kernel
theorem dX7_witnessValue_24 : decode cX7_witnessValue 24 = .ok (.istore 5, 2) := by decide +kernel
theorem dX7_witnessValue_26 : decode cX7_witnessValue 26 = .ok (.iload 5, 2) := by decide +kernel
theorem dX7_witnessValue_28 : decode cX7_witnessValue 28 = .ok (.iload_n 2, 1) := by decide +kernel
theorem dX7_witnessValue_29 : decode cX7_witnessValue 29 = .ok (.if_icmp .gt 18, 3) := by decide +kernel
theorem dX7_witnessValue_32 : decode cX7_witnessValue 32 = .ok (.aload_n 0, 1) := by decide +kernel
theorem dX7_witnessValue_33 : decode cX7_witnessValue 33 = .ok (.iload 5, 2) := by decide +kernel
theorem dX7_witnessValue_35 : decode cX7_witnessValue 35 = .ok (.iload_n 3, 1) := by decide +kernel
theorem dX7_witnessValue_36 : decode cX7_witnessValue 36 = .ok (.invokevirtual 39, 3) := by decide +kernel
theorem dX7_witnessValue_39 : decode cX7_witnessValue 39 = .ok (.istore 4, 2) := by decide +kernel
theorem dX7_witnessValue_41 : decode cX7_witnessValue 41 = .ok (.iinc 5 1, 3) := by decide +kernel
theorem dX7_witnessValue_44 : decode cX7_witnessValue 44 = .ok (.goto (-18), 3) := by decide +kernel
theorem dX7_witnessValue_47 : decode cX7_witnessValue 47 = .ok (.iload 4, 2) := by decide +kernel
theorem dX7_witnessValue_49 : decode cX7_witnessValue 49 = .ok (.ireturn, 1) := by decide +kernel
set_option maxHeartbeats 4000000 in
set_option maxRecDepth 100000 in
theorem w_X7_witnessValue (l : Launch) (G : GP) (x : XP) (a1 : Int32) (a2 : Int32) (σ : Sto) (P : Int32 → Sto → Prop) (h : D_X7_witnessValue a1 a2 σ P) : g_Meti l yX7_witnessValue cX7_witnessValue 6 (some .int) rm_X7_witnessValue G x [.ref (g_ad G 70), .int a1, .int a2] σ P := by
  unfold D_X7_witnessValue at h
  refine g_ofWi (by decide +kernel) (Nat.le_of_ble_eq_true rfl) ?_
  intro p e s m args below meth c Q ls C hM hl hret
  have hx := C.1
  have hb := C.2.1
  have hl : lv_has ls 6 [(0, .ref (g_ad G 70)), (1, .int a1), (2, .int a2)] := hl
  have h := h (fun (v3 : Int32) (v4 : Int32) (v5 : Int32) (σ : Sto) => ∀ (H : Heap) (locs : List Loc) (ls : Array Slot), g_M G x σ s H locs → lv_has ls 6 [(0, .ref (g_ad G 70)), (2, .int a2), (3, .int v3), (4, .int v4), (5, .int v5)] → W p l e rm_X7_witnessValue s m args below meth c H locs 0 0 Q (F0 m 26 ls []))
  have h := h (by
    intro v3 v4 v5 σ h  H locs ls hM hl
    refine lv_iload (pc := 26) hx hb dX7_witnessValue_26 (lv_at hl 4 rfl) ?_
    refine lv_iload_n (pc := 28) hx hb dX7_witnessValue_28 rfl (lv_at hl 1 rfl) ?_
    refine lv_icmp_gt (pc := 29) (tgt := 47) hx hb dX7_witnessValue_29 (by decide) (fun c29 => ?_) (fun c29 => ?_)
    · have h := h.1 c29
      refine lv_iload (pc := 47) hx hb dX7_witnessValue_47 (lv_at hl 3 rfl) ?_
      exact hret 49 _ _ _ _ _ dX7_witnessValue_49 (by rfl) h hM
    · have h := h.2 c29
      refine lv_aload_n (pc := 32) hx hb dX7_witnessValue_32 rfl (lv_at hl 0 rfl) ?_
      refine lv_iload (pc := 33) hx hb dX7_witnessValue_33 (lv_at hl 4 rfl) ?_
      refine lv_iload_n (pc := 35) hx hb dX7_witnessValue_35 rfl (lv_at hl 2 rfl) ?_
      refine g_cVi (pc := 36) C hM hl.1 yv_X7_fixFirst q5_39 (by decide) ce_70 rfl (w_X7_fixFirst l G x v5 v3 σ _ h) rfl rfl ⟨⟨by decide, by decide⟩, by decide, by decide⟩ (Nat.le_of_ble_eq_true rfl) dX7_witnessValue_36 (fun r36 s36 H locs h hM => ?_)
      refine lv_istore (pc := 39) (lv' := [(4, .int r36), (0, .ref (g_ad G 70)), (2, .int a2), (3, .int v3), (5, .int v5)]) hx hb dX7_witnessValue_39 hl (by decide) rfl (fun ls hl => ?_)
      refine lv_iinc (pc := 41) (v := (v5 + 1)) (lv' := [(5, .int (v5 + 1)), (4, .int r36), (0, .ref (g_ad G 70)), (2, .int a2), (3, .int v3)]) hx hb dX7_witnessValue_41 hl (k := 4) rfl (by rfl) (by decide) rfl (fun ls hl => ?_)
      refine lv_goto (pc := 44) (tgt := 26) hx hb dX7_witnessValue_44 (by decide) ?_
      exact h _ _ _ hM (lv_sub hl [2, 3, 4, 1, 0] rfl))
  refine lv_aload_n (pc := 0) hx hb dX7_witnessValue_0 rfl (lv_at hl 0 rfl) ?_
  refine g_get (pc := 1) (v := .ref (g_ad G 65)) C hM (by decide) ce_70 fl_RX7_15 rfl dX7_witnessValue_1 ?_
  refine lv_iload_n (pc := 4) hx hb dX7_witnessValue_4 rfl (lv_at hl 1 rfl) ?_
  refine g_cVi (pc := 5) C hM hl.1 yv_X5_rivals q5_0 (by decide) ce_65 rfl (w_X5_rivals l G x a1 σ _ h) rfl rfl ⟨⟨by decide, by decide⟩, by decide, by decide⟩ (Nat.le_of_ble_eq_true rfl) dX7_witnessValue_5 (fun r5 s5 H locs h hM => ?_)
  refine lv_istore_n (pc := 8) (lv' := [(3, .int r5), (0, .ref (g_ad G 70)), (1, .int a1), (2, .int a2)]) hx hb dX7_witnessValue_8 rfl hl (by decide) rfl (fun ls hl => ?_)
  refine lv_aload_n (pc := 9) hx hb dX7_witnessValue_9 rfl (lv_at hl 1 rfl) ?_
  refine lv_iload_n (pc := 10) hx hb dX7_witnessValue_10 rfl (lv_at hl 2 rfl) ?_
  refine lv_iload_n (pc := 11) hx hb dX7_witnessValue_11 rfl (lv_at hl 0 rfl) ?_
  refine g_cVi (pc := 12) C hM hl.1 yv_X7_isFree q5_4 (by decide) ce_70 rfl (w_X7_isFree l G x a1 r5 s5 _ h) rfl rfl ⟨⟨by decide, by decide⟩, by decide, by decide⟩ (Nat.le_of_ble_eq_true rfl) dX7_witnessValue_12 (fun r12 s12 H locs h hM => ?_)
  refine lv_if_ne (pc := 15) (tgt := 20) hx hb dX7_witnessValue_15 (by decide) (fun c15 => ?_) (fun c15 => ?_)
  · have h := h.2 c15
    refine lv_iconst (pc := 20) (v := 0) hx hb dX7_witnessValue_20 (by decide) ?_
    refine lv_istore (pc := 21) (lv' := [(4, .int 0), (3, .int r5), (0, .ref (g_ad G 70)), (1, .int a1), (2, .int a2)]) hx hb dX7_witnessValue_21 hl (by decide) rfl (fun ls hl => ?_)
    refine lv_iconst (pc := 23) (v := 0) hx hb dX7_witnessValue_23 (by decide) ?_
    refine lv_istore (pc := 24) (lv' := [(5, .int 0), (4, .int 0), (3, .int r5), (0, .ref (g_ad G 70)), (1, .int a1), (2, .int a2)]) hx hb dX7_witnessValue_24 hl (by decide) rfl (fun ls hl => ?_)
    exact h _ _ _ hM (lv_sub hl [3, 5, 2, 1, 0] rfl)
  · have h := h.1 c15
    refine lv_iconst (pc := 18) (v := (-1)) hx hb dX7_witnessValue_18 (by decide) ?_
    exact hret 19 _ _ _ _ _ dX7_witnessValue_19 (by rfl) h hM
abbrev rm_X7_canDecideWithout : Room := { frames := 66, cells := 0, slots := 0, locals := 2650 }
theorem dX7_canDecideWithout_0 : decode cX7_canDecideWithout 0 = .ok (.aload_n 0, 1) := by decide +kernel
theorem dX7_canDecideWithout_1 : decode cX7_canDecideWithout 1 = .ok (.iload_n 1, 1) := by decide +kernel
theorem dX7_canDecideWithout_2 : decode cX7_canDecideWithout 2 = .ok (.aload_n 0, 1) := by decide +kernel
theorem dX7_canDecideWithout_3 : decode cX7_canDecideWithout 3 = .ok (.getfield 15, 3) := by decide +kernel
theorem dX7_canDecideWithout_6 : decode cX7_canDecideWithout 6 = .ok (.iload_n 1, 1) := by decide +kernel
theorem dX7_canDecideWithout_7 : decode cX7_canDecideWithout 7 = .ok (.invokevirtual 19, 3) := by decide +kernel
theorem dX7_canDecideWithout_10 : decode cX7_canDecideWithout 10 = .ok (.iconst 1, 1) := by decide +kernel
theorem dX7_canDecideWithout_11 : decode cX7_canDecideWithout 11 = .ok (.iload_n 2, 1) := by decide +kernel
theorem dX7_canDecideWithout_12 : decode cX7_canDecideWithout 12 = .ok (.ishl, 1) := by decide +kernel
theorem dX7_canDecideWithout_13 : decode cX7_canDecideWithout 13 = .ok (.iconst (-1), 1) := by decide +kernel
theorem dX7_canDecideWithout_14 : decode cX7_canDecideWithout 14 = .ok (.ixor, 1) := by decide +kernel
theorem dX7_canDecideWithout_15 : decode cX7_canDecideWithout 15 = .ok (.iand, 1) := by decide +kernel
theorem dX7_canDecideWithout_16 : decode cX7_canDecideWithout 16 = .ok (.invokevirtual 25, 3) := by decide +kernel
theorem dX7_canDecideWithout_19 : decode cX7_canDecideWithout 19 = .ok (.ireturn, 1) := by decide +kernel
set_option maxHeartbeats 4000000 in
set_option maxRecDepth 100000 in
theorem w_X7_canDecideWithout (l : Launch) (G : GP) (x : XP) (a1 : Int32) (a2 : Int32) (σ : Sto) (P : Int32 → Sto → Prop) (h : D_X7_canDecideWithout a1 a2 σ P) : g_Meti l yX7_canDecideWithout cX7_canDecideWithout 3 (some .boolean) rm_X7_canDecideWithout G x [.ref (g_ad G 70), .int a1, .int a2] σ P := by
  unfold D_X7_canDecideWithout at h
  refine g_ofWi (by decide +kernel) (Nat.le_of_ble_eq_true rfl) ?_
  intro p e s m args below meth c Q ls C hM hl hret
  have hx := C.1
  have hb := C.2.1
  have hl : lv_has ls 3 [(0, .ref (g_ad G 70)), (1, .int a1), (2, .int a2)] := hl
  refine lv_aload_n (pc := 0) hx hb dX7_canDecideWithout_0 rfl (lv_at hl 0 rfl) ?_
  refine lv_iload_n (pc := 1) hx hb dX7_canDecideWithout_1 rfl (lv_at hl 1 rfl) ?_
  refine lv_aload_n (pc := 2) hx hb dX7_canDecideWithout_2 rfl (lv_at hl 0 rfl) ?_
  refine g_get (pc := 3) (v := .ref (g_ad G 65)) C hM (by decide) ce_70 fl_RX7_15 rfl dX7_canDecideWithout_3 ?_
  refine lv_iload_n (pc := 6) hx hb dX7_canDecideWithout_6 rfl (lv_at hl 1 rfl) ?_
  refine g_cVi (pc := 7) C hM hl.1 yv_X5_rivals q5_0 (by decide) ce_65 rfl (w_X5_rivals l G x a1 σ _ h) rfl rfl ⟨⟨by decide, by decide⟩, by decide, by decide⟩ (Nat.le_of_ble_eq_true rfl) dX7_canDecideWithout_7 (fun r7 s7 H locs h hM => ?_)
  refine lv_iconst (pc := 10) (v := 1) hx hb dX7_canDecideWithout_10 (by decide) ?_
  refine lv_iload_n (pc := 11) hx hb dX7_canDecideWithout_11 rfl (lv_at hl 2 rfl) ?_
  refine lv_ishl (pc := 12) hx hb dX7_canDecideWithout_12 ?_
  refine lv_iconst (pc := 13) (v := (-1)) hx hb dX7_canDecideWithout_13 (by decide) ?_
  refine lv_ixor (pc := 14) hx hb dX7_canDecideWithout_14 ?_
  refine lv_iand (pc := 15) hx hb dX7_canDecideWithout_15 ?_
  refine g_cVi (pc := 16) C hM hl.1 yv_X7_isFree q5_4 (by decide) ce_70 rfl (w_X7_isFree l G x a1 (r7 &&& (((1 : Int32) <<< (a2 &&& 31)) ^^^ (-1))) s7 _ h) rfl rfl ⟨⟨by decide, by decide⟩, by decide, by decide⟩ (Nat.le_of_ble_eq_true rfl) dX7_canDecideWithout_16 (fun r16 s16 H locs h hM => ?_)
  exact hret 19 _ _ _ _ _ dX7_canDecideWithout_19 (nar_b h.1) h.2 hM
abbrev rm_X0_cell : Room := { frames := 0, cells := 0, slots := 0, locals := 0 }
theorem dX0_cell_0 : decode cX0_cell 0 = .ok (.aload_n 0, 1) := by decide +kernel
theorem dX0_cell_1 : decode cX0_cell 1 = .ok (.getfield 9, 3) := by decide +kernel
theorem dX0_cell_4 : decode cX0_cell 4 = .ok (.iload_n 1, 1) := by decide +kernel
theorem dX0_cell_5 : decode cX0_cell 5 = .ok (.iconst 4, 1) := by decide +kernel
theorem dX0_cell_6 : decode cX0_cell 6 = .ok (.imul, 1) := by decide +kernel
theorem dX0_cell_7 : decode cX0_cell 7 = .ok (.iload_n 2, 1) := by decide +kernel
theorem dX0_cell_8 : decode cX0_cell 8 = .ok (.iadd, 1) := by decide +kernel
theorem dX0_cell_9 : decode cX0_cell 9 = .ok (.iaload, 1) := by decide +kernel
theorem dX0_cell_10 : decode cX0_cell 10 = .ok (.ireturn, 1) := by decide +kernel
set_option maxHeartbeats 4000000 in
set_option maxRecDepth 100000 in
theorem w_X0_cell (l : Launch) (G : GP) (x : XP) (a1 : Int32) (a2 : Int32) (σ : Sto) (P : Int32 → Sto → Prop) (h : D_X0_cell a1 a2 σ P) : g_Meti l yX0_cell cX0_cell 3 (some .int) rm_X0_cell G x [.ref (g_ad G 79), .int a1, .int a2] σ P := by
  unfold D_X0_cell at h
  refine g_ofWi (by decide +kernel) (Nat.le_of_ble_eq_true rfl) ?_
  intro p e s m args below meth c Q ls C hM hl hret
  have hx := C.1
  have hb := C.2.1
  have hl : lv_has ls 3 [(0, .ref (g_ad G 79)), (1, .int a1), (2, .int a2)] := hl
  refine lv_aload_n (pc := 0) hx hb dX0_cell_0 rfl (lv_at hl 0 rfl) ?_
  refine g_get (pc := 1) (v := .ref (g_ad G 80)) C hM (by decide) ce_79 fl_RX0_9 rfl dX0_cell_1 ?_
  refine lv_iload_n (pc := 4) hx hb dX0_cell_4 rfl (lv_at hl 1 rfl) ?_
  refine lv_iconst (pc := 5) (v := 4) hx hb dX0_cell_5 (by decide) ?_
  refine lv_imul (pc := 6) hx hb dX0_cell_6 ?_
  refine lv_iload_n (pc := 7) hx hb dX0_cell_7 rfl (lv_at hl 2 rfl) ?_
  refine lv_iadd (pc := 8) hx hb dX0_cell_8 ?_
  obtain ⟨hc, h⟩ := h
  refine g_ialdK (pc := 9) C hM (by decide) ce_80 hc rfl dX0_cell_9 ?_
  exact hret 10 _ _ _ _ _ dX0_cell_10 (by rfl) h hM
abbrev rm_X0_permits : Room := { frames := 1, cells := 0, slots := 0, locals := 22 }
theorem dX0_permits_0 : decode cX0_permits 0 = .ok (.iconst 0, 1) := by decide +kernel
theorem dX0_permits_1 : decode cX0_permits 1 = .ok (.istore_n 1, 1) := by decide +kernel
theorem dX0_permits_2 : decode cX0_permits 2 = .ok (.iconst 0, 1) := by decide +kernel
theorem dX0_permits_3 : decode cX0_permits 3 = .ok (.istore_n 2, 1) := by decide +kernel
theorem dX0_permits_4 : decode cX0_permits 4 = .ok (.iload_n 2, 1) := by decide +kernel
theorem dX0_permits_5 : decode cX0_permits 5 = .ok (.aload_n 0, 1) := by decide +kernel
theorem dX0_permits_6 : decode cX0_permits 6 = .ok (.getfield 15, 3) := by decide +kernel
theorem dX0_permits_9 : decode cX0_permits 9 = .ok (.if_icmp .ge 21, 3) := by decide +kernel
theorem dX0_permits_12 : decode cX0_permits 12 = .ok (.aload_n 0, 1) := by decide +kernel
theorem dX0_permits_13 : decode cX0_permits 13 = .ok (.iload_n 2, 1) := by decide +kernel
theorem dX0_permits_14 : decode cX0_permits 14 = .ok (.iconst 2, 1) := by decide +kernel
theorem dX0_permits_15 : decode cX0_permits 15 = .ok (.invokevirtual 25, 3) := by decide +kernel
theorem dX0_permits_18 : decode cX0_permits 18 = .ok (.ifCond .ne 6, 3) := by decide +kernel
theorem dX0_permits_21 : decode cX0_permits 21 = .ok (.iinc 1 1, 3) := by decide +kernel
theorem dX0_permits_24 : decode cX0_permits 24 = .ok (.iinc 2 1, 3) := by decide +kernel
theorem dX0_permits_27 : decode cX0_permits 27 = .ok (.goto (-23), 3) := by decide +kernel
theorem dX0_permits_30 : decode cX0_permits 30 = .ok (.iload_n 1, 1) := by decide +kernel
theorem dX0_permits_31 : decode cX0_permits 31 = .ok (.ireturn, 1) := by decide +kernel
set_option maxHeartbeats 4000000 in
set_option maxRecDepth 100000 in
theorem w_X0_permits (l : Launch) (G : GP) (x : XP) (σ : Sto) (P : Int32 → Sto → Prop) (h : D_X0_permits  σ P) : g_Meti l yX0_permits cX0_permits 3 (some .int) rm_X0_permits G x [.ref (g_ad G 79)] σ P := by
  unfold D_X0_permits at h
  refine g_ofWi (by decide +kernel) (Nat.le_of_ble_eq_true rfl) ?_
  intro p e s m args below meth c Q ls C hM hl hret
  have hx := C.1
  have hb := C.2.1
  have hl : lv_has ls 3 [(0, .ref (g_ad G 79))] := hl
  have h := h (fun (v1 : Int32) (v2 : Int32) (σ : Sto) => ∀ (H : Heap) (locs : List Loc) (ls : Array Slot), g_M G x σ s H locs → lv_has ls 3 [(0, .ref (g_ad G 79)), (1, .int v1), (2, .int v2)] → W p l e rm_X0_permits s m args below meth c H locs 0 0 Q (F0 m 4 ls []))
  have h := h (by
    intro v1 v2 σ h  H locs ls hM hl
    refine lv_iload_n (pc := 4) hx hb dX0_permits_4 rfl (lv_at hl 2 rfl) ?_
    refine lv_aload_n (pc := 5) hx hb dX0_permits_5 rfl (lv_at hl 0 rfl) ?_
    refine g_get (pc := 6) (v := .int (σ 79 1)) C hM (by decide) ce_79 fl_RX0_15 rfl dX0_permits_6 ?_
    refine lv_icmp_ge (pc := 9) (tgt := 30) hx hb dX0_permits_9 (by decide) (fun c9 => ?_) (fun c9 => ?_)
    · have h := h.1 c9
      refine lv_iload_n (pc := 30) hx hb dX0_permits_30 rfl (lv_at hl 1 rfl) ?_
      exact hret 31 _ _ _ _ _ dX0_permits_31 (by rfl) h hM
    · have h := h.2 c9
      refine lv_aload_n (pc := 12) hx hb dX0_permits_12 rfl (lv_at hl 0 rfl) ?_
      refine lv_iload_n (pc := 13) hx hb dX0_permits_13 rfl (lv_at hl 2 rfl) ?_
      refine lv_iconst (pc := 14) (v := 2) hx hb dX0_permits_14 (by decide) ?_
      refine g_cVi (pc := 15) C hM hl.1 yv_X0_cell q5_99 (by decide) ce_79 rfl (w_X0_cell l G x v2 2 σ _ h) rfl rfl ⟨⟨by decide, by decide⟩, by decide, by decide⟩ (Nat.le_of_ble_eq_true rfl) dX0_permits_15 (fun r15 s15 H locs h hM => ?_)
      refine lv_if_ne (pc := 18) (tgt := 24) hx hb dX0_permits_18 (by decide) (fun c18 => ?_) (fun c18 => ?_)
      · have h := h.2 c18
        refine lv_iinc (pc := 24) (v := (v2 + 1)) (lv' := [(2, .int (v2 + 1)), (0, .ref (g_ad G 79)), (1, .int v1)]) hx hb dX0_permits_24 hl (k := 2) rfl (by rfl) (by decide) rfl (fun ls hl => ?_)
        refine lv_goto (pc := 27) (tgt := 4) hx hb dX0_permits_27 (by decide) ?_
        exact h _ _ _ hM (lv_sub hl [1, 2, 0] rfl)
      · have h := h.1 c18
        refine lv_iinc (pc := 21) (v := (v1 + 1)) (lv' := [(1, .int (v1 + 1)), (0, .ref (g_ad G 79)), (2, .int v2)]) hx hb dX0_permits_21 hl (k := 1) rfl (by rfl) (by decide) rfl (fun ls hl => ?_)
        refine lv_iinc (pc := 24) (v := (v2 + 1)) (lv' := [(2, .int (v2 + 1)), (1, .int (v1 + 1)), (0, .ref (g_ad G 79))]) hx hb dX0_permits_24 hl (k := 2) rfl (by rfl) (by decide) rfl (fun ls hl => ?_)
        refine lv_goto (pc := 27) (tgt := 4) hx hb dX0_permits_27 (by decide) ?_
        exact h _ _ _ hM (lv_sub hl [2, 1, 0] rfl))
  refine lv_iconst (pc := 0) (v := 0) hx hb dX0_permits_0 (by decide) ?_
  refine lv_istore_n (pc := 1) (lv' := [(1, .int 0), (0, .ref (g_ad G 79))]) hx hb dX0_permits_1 rfl hl (by decide) rfl (fun ls hl => ?_)
  refine lv_iconst (pc := 2) (v := 0) hx hb dX0_permits_2 (by decide) ?_
  refine lv_istore_n (pc := 3) (lv' := [(2, .int 0), (1, .int 0), (0, .ref (g_ad G 79))]) hx hb dX0_permits_3 rfl hl (by decide) rfl (fun ls hl => ?_)
  exact h _ _ _ hM (lv_sub hl [2, 1, 0] rfl)
