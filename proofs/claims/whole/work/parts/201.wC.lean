abbrev rm_X2_drop : Room := { frames := 1, cells := 0, slots := 0, locals := 40 }
theorem dX2_drop_0 : decode cX2_drop 0 = .ok (.iload_n 1, 1) := by decide +kernel
theorem dX2_drop_1 : decode cX2_drop 1 = .ok (.iconst 1, 1) := by decide +kernel
theorem dX2_drop_2 : decode cX2_drop 2 = .ok (.iadd, 1) := by decide +kernel
theorem dX2_drop_3 : decode cX2_drop 3 = .ok (.iconst 5, 1) := by decide +kernel
theorem dX2_drop_4 : decode cX2_drop 4 = .ok (.imul, 1) := by decide +kernel
theorem dX2_drop_5 : decode cX2_drop 5 = .ok (.istore_n 2, 1) := by decide +kernel
theorem dX2_drop_6 : decode cX2_drop 6 = .ok (.aload_n 0, 1) := by decide +kernel
theorem dX2_drop_7 : decode cX2_drop 7 = .ok (.getfield 9, 3) := by decide +kernel
theorem dX2_drop_10 : decode cX2_drop 10 = .ok (.iload_n 2, 1) := by decide +kernel
theorem dX2_drop_11 : decode cX2_drop 11 = .ok (.aload_n 0, 1) := by decide +kernel
theorem dX2_drop_12 : decode cX2_drop 12 = .ok (.getfield 9, 3) := by decide +kernel
theorem dX2_drop_15 : decode cX2_drop 15 = .ok (.iload_n 1, 1) := by decide +kernel
theorem dX2_drop_16 : decode cX2_drop 16 = .ok (.iconst 5, 1) := by decide +kernel
theorem dX2_drop_17 : decode cX2_drop 17 = .ok (.imul, 1) := by decide +kernel
theorem dX2_drop_18 : decode cX2_drop 18 = .ok (.aload_n 0, 1) := by decide +kernel
theorem dX2_drop_19 : decode cX2_drop 19 = .ok (.getfield 15, 3) := by decide +kernel
theorem dX2_drop_22 : decode cX2_drop 22 = .ok (.iconst 5, 1) := by decide +kernel
theorem dX2_drop_23 : decode cX2_drop 23 = .ok (.imul, 1) := by decide +kernel
theorem dX2_drop_24 : decode cX2_drop 24 = .ok (.iload_n 2, 1) := by decide +kernel
theorem dX2_drop_25 : decode cX2_drop 25 = .ok (.isub, 1) := by decide +kernel
theorem dX2_drop_26 : decode cX2_drop 26 = .ok (.invokestatic 27, 3) := by decide +kernel
theorem dX2_drop_29 : decode cX2_drop 29 = .ok (.aload_n 0, 1) := by decide +kernel
theorem dX2_drop_30 : decode cX2_drop 30 = .ok (.dup, 1) := by decide +kernel
theorem dX2_drop_31 : decode cX2_drop 31 = .ok (.getfield 15, 3) := by decide +kernel
theorem dX2_drop_34 : decode cX2_drop 34 = .ok (.iconst 1, 1) := by decide +kernel
theorem dX2_drop_35 : decode cX2_drop 35 = .ok (.isub, 1) := by decide +kernel
theorem dX2_drop_36 : decode cX2_drop 36 = .ok (.putfield 15, 3) := by decide +kernel
theorem dX2_drop_39 : decode cX2_drop 39 = .ok (.return_, 1) := by decide +kernel
set_option maxHeartbeats 4000000 in
set_option maxRecDepth 100000 in
theorem w_X2_drop (l : Launch) (G : GP) (x : XP) (o0 : Nat) (a1 : Int32) (σ : Sto) (P : Sto → Prop) (h : D_X2_drop o0 a1 σ P) : g_Metv l yX2_drop cX2_drop 3 rm_X2_drop G x [.ref (g_ad G o0), .int a1] σ P := by
  unfold D_X2_drop at h
  obtain ⟨ho0, h⟩ := h
  refine g_ofWv (by decide +kernel) (Nat.le_of_ble_eq_true rfl) ?_
  intro p e s m args below meth c Q ls C hM hl hret
  have hx := C.1
  have hb := C.2.1
  have hl : lv_has ls 3 [(0, .ref (g_ad G o0)), (1, .int a1)] := hl
  refine lv_iload_n (pc := 0) hx hb dX2_drop_0 rfl (lv_at hl 1 rfl) ?_
  refine lv_iconst (pc := 1) (v := 1) hx hb dX2_drop_1 (by decide) ?_
  refine lv_iadd (pc := 2) hx hb dX2_drop_2 ?_
  refine lv_iconst (pc := 3) (v := 5) hx hb dX2_drop_3 (by decide) ?_
  refine lv_imul (pc := 4) hx hb dX2_drop_4 ?_
  refine lv_istore_n (pc := 5) (lv' := [(2, .int ((a1 + 1) * 5)), (0, .ref (g_ad G o0)), (1, .int a1)]) hx hb dX2_drop_5 rfl hl (by decide) rfl (fun ls hl => ?_)
  refine lv_aload_n (pc := 6) hx hb dX2_drop_6 rfl (lv_at hl 1 rfl) ?_
  refine g_get (pc := 7) (v := .ref (g_ad G (o0 + 1))) C hM (gr_lt ho0) (ce_gr ho0) fl_RX2_9 rfl dX2_drop_7 ?_
  refine lv_iload_n (pc := 10) hx hb dX2_drop_10 rfl (lv_at hl 0 rfl) ?_
  refine lv_aload_n (pc := 11) hx hb dX2_drop_11 rfl (lv_at hl 1 rfl) ?_
  refine g_get (pc := 12) (v := .ref (g_ad G (o0 + 1))) C hM (gr_lt ho0) (ce_gr ho0) fl_RX2_9 rfl dX2_drop_12 ?_
  refine lv_iload_n (pc := 15) hx hb dX2_drop_15 rfl (lv_at hl 2 rfl) ?_
  refine lv_iconst (pc := 16) (v := 5) hx hb dX2_drop_16 (by decide) ?_
  refine lv_imul (pc := 17) hx hb dX2_drop_17 ?_
  refine lv_aload_n (pc := 18) hx hb dX2_drop_18 rfl (lv_at hl 1 rfl) ?_
  refine g_get (pc := 19) (v := .int (σ o0 1)) C hM (gr_lt ho0) (ce_gr ho0) fl_RX2_15 rfl dX2_drop_19 ?_
  refine lv_iconst (pc := 22) (v := 5) hx hb dX2_drop_22 (by decide) ?_
  refine lv_imul (pc := 23) hx hb dX2_drop_23 ?_
  refine lv_iload_n (pc := 24) hx hb dX2_drop_24 rfl (lv_at hl 0 rfl) ?_
  refine lv_isub (pc := 25) hx hb dX2_drop_25 ?_
  obtain ⟨hc, h⟩ := h
  refine g_copyE (pc := 26) C hM hl.1 q2_101 ⟨q2_96, q2_95, q1_22⟩ (gc_lt ho0) (gc_lt ho0) (ce_gc ho0) (ce_gc ho0) hc ⟨Nat.le_of_ble_eq_true rfl, Nat.le_of_ble_eq_true rfl⟩ dX2_drop_26 (fun s26 es26 H locs hM => ?_)
  have h := h s26 es26
  refine lv_aload_n (pc := 29) hx hb dX2_drop_29 rfl (lv_at hl 1 rfl) ?_
  refine lv_dup (pc := 30) hx hb dX2_drop_30 rfl ?_
  refine g_get (pc := 31) (v := .int (s26 o0 1)) C hM (gr_lt ho0) (ce_gr ho0) fl_RX2_15 rfl dX2_drop_31 ?_
  refine lv_iconst (pc := 34) (v := 1) hx hb dX2_drop_34 (by decide) ?_
  refine lv_isub (pc := 35) hx hb dX2_drop_35 ?_
  refine g_putE (pc := 36) C hM (gr_lt ho0) (ce_gr ho0) fp_RX2_15 rfl rfl (Nat.le_of_ble_eq_true rfl) rfl dX2_drop_36 (fun s36 es36 H locs hM => ?_)
  have h := h s36 es36
  exact hret 39 _ _ _ _ dX2_drop_39 h hM
abbrev rm_X2_countValid : Room := { frames := 1, cells := 0, slots := 0, locals := 22 }
theorem dX2_countValid_0 : decode cX2_countValid 0 = .ok (.iconst 0, 1) := by decide +kernel
theorem dX2_countValid_1 : decode cX2_countValid 1 = .ok (.istore_n 2, 1) := by decide +kernel
theorem dX2_countValid_2 : decode cX2_countValid 2 = .ok (.iconst 0, 1) := by decide +kernel
theorem dX2_countValid_3 : decode cX2_countValid 3 = .ok (.istore_n 3, 1) := by decide +kernel
theorem dX2_countValid_4 : decode cX2_countValid 4 = .ok (.iload_n 3, 1) := by decide +kernel
theorem dX2_countValid_5 : decode cX2_countValid 5 = .ok (.aload_n 0, 1) := by decide +kernel
theorem dX2_countValid_6 : decode cX2_countValid 6 = .ok (.getfield 15, 3) := by decide +kernel
theorem dX2_countValid_9 : decode cX2_countValid 9 = .ok (.if_icmp .ge 22, 3) := by decide +kernel
theorem dX2_countValid_12 : decode cX2_countValid 12 = .ok (.aload_n 0, 1) := by decide +kernel
theorem dX2_countValid_13 : decode cX2_countValid 13 = .ok (.iload_n 3, 1) := by decide +kernel
theorem dX2_countValid_14 : decode cX2_countValid 14 = .ok (.iconst 4, 1) := by decide +kernel
theorem dX2_countValid_15 : decode cX2_countValid 15 = .ok (.invokevirtual 19, 3) := by decide +kernel
theorem dX2_countValid_18 : decode cX2_countValid 18 = .ok (.iload_n 1, 1) := by decide +kernel
theorem dX2_countValid_19 : decode cX2_countValid 19 = .ok (.if_icmp .lt 6, 3) := by decide +kernel
theorem dX2_countValid_22 : decode cX2_countValid 22 = .ok (.iinc 2 1, 3) := by decide +kernel
theorem dX2_countValid_25 : decode cX2_countValid 25 = .ok (.iinc 3 1, 3) := by decide +kernel
theorem dX2_countValid_28 : decode cX2_countValid 28 = .ok (.goto (-24), 3) := by decide +kernel
theorem dX2_countValid_31 : decode cX2_countValid 31 = .ok (.iload_n 2, 1) := by decide +kernel
theorem dX2_countValid_32 : decode cX2_countValid 32 = .ok (.ireturn, 1) := by decide +kernel
set_option maxHeartbeats 4000000 in
set_option maxRecDepth 100000 in
theorem w_X2_countValid (l : Launch) (G : GP) (x : XP) (o0 : Nat) (a1 : Int32) (σ : Sto) (P : Int32 → Sto → Prop) (h : D_X2_countValid o0 a1 σ P) : g_Meti l yX2_countValid cX2_countValid 4 (some .int) rm_X2_countValid G x [.ref (g_ad G o0), .int a1] σ P := by
  unfold D_X2_countValid at h
  obtain ⟨ho0, h⟩ := h
  refine g_ofWi (by decide +kernel) (Nat.le_of_ble_eq_true rfl) ?_
  intro p e s m args below meth c Q ls C hM hl hret
  have hx := C.1
  have hb := C.2.1
  have hl : lv_has ls 4 [(0, .ref (g_ad G o0)), (1, .int a1)] := hl
  have h := h (fun (v2 : Int32) (v3 : Int32) (σ : Sto) => ∀ (H : Heap) (locs : List Loc) (ls : Array Slot), g_M G x σ s H locs → lv_has ls 4 [(0, .ref (g_ad G o0)), (1, .int a1), (2, .int v2), (3, .int v3)] → W p l e rm_X2_countValid s m args below meth c H locs 0 0 Q (F0 m 4 ls []))
  have h := h (by
    intro v2 v3 σ h  H locs ls hM hl
    refine lv_iload_n (pc := 4) hx hb dX2_countValid_4 rfl (lv_at hl 3 rfl) ?_
    refine lv_aload_n (pc := 5) hx hb dX2_countValid_5 rfl (lv_at hl 0 rfl) ?_
    refine g_get (pc := 6) (v := .int (σ o0 1)) C hM (gr_lt ho0) (ce_gr ho0) fl_RX2_15 rfl dX2_countValid_6 ?_
    refine lv_icmp_ge (pc := 9) (tgt := 31) hx hb dX2_countValid_9 (by decide) (fun c9 => ?_) (fun c9 => ?_)
    · have h := h.1 c9
      refine lv_iload_n (pc := 31) hx hb dX2_countValid_31 rfl (lv_at hl 2 rfl) ?_
      exact hret 32 _ _ _ _ _ dX2_countValid_32 (by rfl) h hM
    · have h := h.2 c9
      refine lv_aload_n (pc := 12) hx hb dX2_countValid_12 rfl (lv_at hl 0 rfl) ?_
      refine lv_iload_n (pc := 13) hx hb dX2_countValid_13 rfl (lv_at hl 3 rfl) ?_
      refine lv_iconst (pc := 14) (v := 4) hx hb dX2_countValid_14 (by decide) ?_
      refine g_cVi (pc := 15) C hM hl.1 yv_X2_cell q2_66 (gr_lt ho0) (ce_gr ho0) rfl (w_X2_cell l G x o0 v3 4 σ _ h) rfl rfl ⟨⟨by decide, by decide⟩, by decide, by decide⟩ (Nat.le_of_ble_eq_true rfl) dX2_countValid_15 (fun r15 s15 H locs h hM => ?_)
      refine lv_iload_n (pc := 18) hx hb dX2_countValid_18 rfl (lv_at hl 1 rfl) ?_
      refine lv_icmp_lt (pc := 19) (tgt := 25) hx hb dX2_countValid_19 (by decide) (fun c19 => ?_) (fun c19 => ?_)
      · have h := h.1 c19
        refine lv_iinc (pc := 25) (v := (v3 + 1)) (lv' := [(3, .int (v3 + 1)), (0, .ref (g_ad G o0)), (1, .int a1), (2, .int v2)]) hx hb dX2_countValid_25 hl (k := 3) rfl (by rfl) (by decide) rfl (fun ls hl => ?_)
        refine lv_goto (pc := 28) (tgt := 4) hx hb dX2_countValid_28 (by decide) ?_
        exact h _ _ _ hM (lv_sub hl [1, 2, 3, 0] rfl)
      · have h := h.2 c19
        refine lv_iinc (pc := 22) (v := (v2 + 1)) (lv' := [(2, .int (v2 + 1)), (0, .ref (g_ad G o0)), (1, .int a1), (3, .int v3)]) hx hb dX2_countValid_22 hl (k := 2) rfl (by rfl) (by decide) rfl (fun ls hl => ?_)
        refine lv_iinc (pc := 25) (v := (v3 + 1)) (lv' := [(3, .int (v3 + 1)), (2, .int (v2 + 1)), (0, .ref (g_ad G o0)), (1, .int a1)]) hx hb dX2_countValid_25 hl (k := 3) rfl (by rfl) (by decide) rfl (fun ls hl => ?_)
        refine lv_goto (pc := 28) (tgt := 4) hx hb dX2_countValid_28 (by decide) ?_
        exact h _ _ _ hM (lv_sub hl [2, 3, 1, 0] rfl))
  refine lv_iconst (pc := 0) (v := 0) hx hb dX2_countValid_0 (by decide) ?_
  refine lv_istore_n (pc := 1) (lv' := [(2, .int 0), (0, .ref (g_ad G o0)), (1, .int a1)]) hx hb dX2_countValid_1 rfl hl (by decide) rfl (fun ls hl => ?_)
  refine lv_iconst (pc := 2) (v := 0) hx hb dX2_countValid_2 (by decide) ?_
  refine lv_istore_n (pc := 3) (lv' := [(3, .int 0), (2, .int 0), (0, .ref (g_ad G o0)), (1, .int a1)]) hx hb dX2_countValid_3 rfl hl (by decide) rfl (fun ls hl => ?_)
  exact h _ _ _ hM (lv_sub hl [2, 3, 1, 0] rfl)
abbrev rm_X1_continues : Room := { frames := 1, cells := 0, slots := 0, locals := 22 }
theorem dX1_continues_0 : decode cX1_continues 0 = .ok (.aload_n 0, 1) := by decide +kernel
theorem dX1_continues_1 : decode cX1_continues 1 = .ok (.getfield 15, 3) := by decide +kernel
theorem dX1_continues_4 : decode cX1_continues 4 = .ok (.iload_n 1, 1) := by decide +kernel
theorem dX1_continues_5 : decode cX1_continues 5 = .ok (.iconst 2, 1) := by decide +kernel
theorem dX1_continues_6 : decode cX1_continues 6 = .ok (.invokevirtual 33, 3) := by decide +kernel
theorem dX1_continues_9 : decode cX1_continues 9 = .ok (.iload_n 3, 1) := by decide +kernel
theorem dX1_continues_10 : decode cX1_continues 10 = .ok (.if_icmp .ne 55, 3) := by decide +kernel
theorem dX1_continues_13 : decode cX1_continues 13 = .ok (.aload_n 0, 1) := by decide +kernel
theorem dX1_continues_14 : decode cX1_continues 14 = .ok (.getfield 15, 3) := by decide +kernel
theorem dX1_continues_17 : decode cX1_continues 17 = .ok (.iload_n 1, 1) := by decide +kernel
theorem dX1_continues_18 : decode cX1_continues 18 = .ok (.iconst 4, 1) := by decide +kernel
theorem dX1_continues_19 : decode cX1_continues 19 = .ok (.invokevirtual 33, 3) := by decide +kernel
theorem dX1_continues_22 : decode cX1_continues 22 = .ok (.iload 4, 2) := by decide +kernel
theorem dX1_continues_24 : decode cX1_continues 24 = .ok (.if_icmp .lt 41, 3) := by decide +kernel
theorem dX1_continues_27 : decode cX1_continues 27 = .ok (.aload_n 0, 1) := by decide +kernel
theorem dX1_continues_28 : decode cX1_continues 28 = .ok (.getfield 15, 3) := by decide +kernel
theorem dX1_continues_31 : decode cX1_continues 31 = .ok (.iload_n 1, 1) := by decide +kernel
theorem dX1_continues_32 : decode cX1_continues 32 = .ok (.iconst 3, 1) := by decide +kernel
theorem dX1_continues_33 : decode cX1_continues 33 = .ok (.invokevirtual 33, 3) := by decide +kernel
theorem dX1_continues_36 : decode cX1_continues 36 = .ok (.iload_n 2, 1) := by decide +kernel
theorem dX1_continues_37 : decode cX1_continues 37 = .ok (.if_icmp .lt 28, 3) := by decide +kernel
theorem dX1_continues_40 : decode cX1_continues 40 = .ok (.aload_n 0, 1) := by decide +kernel
theorem dX1_continues_41 : decode cX1_continues 41 = .ok (.getfield 9, 3) := by decide +kernel
theorem dX1_continues_44 : decode cX1_continues 44 = .ok (.iload_n 2, 1) := by decide +kernel
theorem dX1_continues_45 : decode cX1_continues 45 = .ok (.iaload, 1) := by decide +kernel
theorem dX1_continues_46 : decode cX1_continues 46 = .ok (.iconst 1, 1) := by decide +kernel
theorem dX1_continues_47 : decode cX1_continues 47 = .ok (.aload_n 0, 1) := by decide +kernel
theorem dX1_continues_48 : decode cX1_continues 48 = .ok (.getfield 15, 3) := by decide +kernel
theorem dX1_continues_51 : decode cX1_continues 51 = .ok (.iload_n 1, 1) := by decide +kernel
theorem dX1_continues_52 : decode cX1_continues 52 = .ok (.iconst 1, 1) := by decide +kernel
theorem dX1_continues_53 : decode cX1_continues 53 = .ok (.invokevirtual 33, 3) := by decide +kernel
theorem dX1_continues_56 : decode cX1_continues 56 = .ok (.ishl, 1) := by decide +kernel
theorem dX1_continues_57 : decode cX1_continues 57 = .ok (.iand, 1) := by decide +kernel
theorem dX1_continues_58 : decode cX1_continues 58 = .ok (.ifCond .eq 7, 3) := by decide +kernel
theorem dX1_continues_61 : decode cX1_continues 61 = .ok (.iconst 1, 1) := by decide +kernel
theorem dX1_continues_62 : decode cX1_continues 62 = .ok (.goto 4, 3) := by decide +kernel
theorem dX1_continues_65 : decode cX1_continues 65 = .ok (.iconst 0, 1) := by decide +kernel
theorem dX1_continues_66 : decode cX1_continues 66 = .ok (.ireturn, 1) := by decide +kernel
set_option maxHeartbeats 4000000 in
set_option maxRecDepth 100000 in
theorem w_X1_continues (l : Launch) (G : GP) (x : XP) (a1 : Int32) (a2 : Int32) (a3 : Int32) (a4 : Int32) (σ : Sto) (P : Int32 → Sto → Prop) (h : D_X1_continues a1 a2 a3 a4 σ P) : g_Meti l yX1_continues cX1_continues 5 (some .boolean) rm_X1_continues G x [.ref (g_ad G 77), .int a1, .int a2, .int a3, .int a4] σ P := by
  unfold D_X1_continues at h
  refine g_ofWi (by decide +kernel) (Nat.le_of_ble_eq_true rfl) ?_
  intro p e s m args below meth c Q ls C hM hl hret
  have hx := C.1
  have hb := C.2.1
  have hl : lv_has ls 5 [(0, .ref (g_ad G 77)), (1, .int a1), (2, .int a2), (3, .int a3), (4, .int a4)] := hl
  refine lv_aload_n (pc := 0) hx hb dX1_continues_0 rfl (lv_at hl 0 rfl) ?_
  refine g_get (pc := 1) (v := .ref (g_ad G 3)) C hM (by decide) ce_77 fl_RX1_15 rfl dX1_continues_1 ?_
  refine lv_iload_n (pc := 4) hx hb dX1_continues_4 rfl (lv_at hl 1 rfl) ?_
  refine lv_iconst (pc := 5) (v := 2) hx hb dX1_continues_5 (by decide) ?_
  refine g_cVi (pc := 6) C hM hl.1 yv_X2_cell q3_210 (by decide) ce_3 rfl (w_X2_cell l G x 3 a1 2 σ _ h) rfl rfl ⟨⟨by decide, by decide⟩, by decide, by decide⟩ (Nat.le_of_ble_eq_true rfl) dX1_continues_6 (fun r6 s6 H locs h hM => ?_)
  refine lv_iload_n (pc := 9) hx hb dX1_continues_9 rfl (lv_at hl 3 rfl) ?_
  refine lv_icmp_ne (pc := 10) (tgt := 65) hx hb dX1_continues_10 (by decide) (fun c10 => ?_) (fun c10 => ?_)
  · have h := h.2 c10
    refine lv_iconst (pc := 65) (v := 0) hx hb dX1_continues_65 (by decide) ?_
    exact hret 66 _ _ _ _ _ dX1_continues_66 (by rfl) h hM
  · have h := h.1 c10
    refine lv_aload_n (pc := 13) hx hb dX1_continues_13 rfl (lv_at hl 0 rfl) ?_
    refine g_get (pc := 14) (v := .ref (g_ad G 3)) C hM (by decide) ce_77 fl_RX1_15 rfl dX1_continues_14 ?_
    refine lv_iload_n (pc := 17) hx hb dX1_continues_17 rfl (lv_at hl 1 rfl) ?_
    refine lv_iconst (pc := 18) (v := 4) hx hb dX1_continues_18 (by decide) ?_
    refine g_cVi (pc := 19) C hM hl.1 yv_X2_cell q3_210 (by decide) ce_3 rfl (w_X2_cell l G x 3 a1 4 s6 _ h) rfl rfl ⟨⟨by decide, by decide⟩, by decide, by decide⟩ (Nat.le_of_ble_eq_true rfl) dX1_continues_19 (fun r19 s19 H locs h hM => ?_)
    refine lv_iload (pc := 22) hx hb dX1_continues_22 (lv_at hl 4 rfl) ?_
    refine lv_icmp_lt (pc := 24) (tgt := 65) hx hb dX1_continues_24 (by decide) (fun c24 => ?_) (fun c24 => ?_)
    · have h := h.1 c24
      refine lv_iconst (pc := 65) (v := 0) hx hb dX1_continues_65 (by decide) ?_
      exact hret 66 _ _ _ _ _ dX1_continues_66 (by rfl) h hM
    · have h := h.2 c24
      refine lv_aload_n (pc := 27) hx hb dX1_continues_27 rfl (lv_at hl 0 rfl) ?_
      refine g_get (pc := 28) (v := .ref (g_ad G 3)) C hM (by decide) ce_77 fl_RX1_15 rfl dX1_continues_28 ?_
      refine lv_iload_n (pc := 31) hx hb dX1_continues_31 rfl (lv_at hl 1 rfl) ?_
      refine lv_iconst (pc := 32) (v := 3) hx hb dX1_continues_32 (by decide) ?_
      refine g_cVi (pc := 33) C hM hl.1 yv_X2_cell q3_210 (by decide) ce_3 rfl (w_X2_cell l G x 3 a1 3 s19 _ h) rfl rfl ⟨⟨by decide, by decide⟩, by decide, by decide⟩ (Nat.le_of_ble_eq_true rfl) dX1_continues_33 (fun r33 s33 H locs h hM => ?_)
      refine lv_iload_n (pc := 36) hx hb dX1_continues_36 rfl (lv_at hl 2 rfl) ?_
      refine lv_icmp_lt (pc := 37) (tgt := 65) hx hb dX1_continues_37 (by decide) (fun c37 => ?_) (fun c37 => ?_)
      · have h := h.1 c37
        refine lv_iconst (pc := 65) (v := 0) hx hb dX1_continues_65 (by decide) ?_
        exact hret 66 _ _ _ _ _ dX1_continues_66 (by rfl) h hM
      · have h := h.2 c37
        refine lv_aload_n (pc := 40) hx hb dX1_continues_40 rfl (lv_at hl 0 rfl) ?_
        refine g_get (pc := 41) (v := .ref (g_ad G 78)) C hM (by decide) ce_77 fl_RX1_9 rfl dX1_continues_41 ?_
        refine lv_iload_n (pc := 44) hx hb dX1_continues_44 rfl (lv_at hl 2 rfl) ?_
        obtain ⟨hc, h⟩ := h
        refine g_ialdK (pc := 45) C hM (by decide) ce_78 hc rfl dX1_continues_45 ?_
        refine lv_iconst (pc := 46) (v := 1) hx hb dX1_continues_46 (by decide) ?_
        refine lv_aload_n (pc := 47) hx hb dX1_continues_47 rfl (lv_at hl 0 rfl) ?_
        refine g_get (pc := 48) (v := .ref (g_ad G 3)) C hM (by decide) ce_77 fl_RX1_15 rfl dX1_continues_48 ?_
        refine lv_iload_n (pc := 51) hx hb dX1_continues_51 rfl (lv_at hl 1 rfl) ?_
        refine lv_iconst (pc := 52) (v := 1) hx hb dX1_continues_52 (by decide) ?_
        refine g_cVi (pc := 53) C hM hl.1 yv_X2_cell q3_210 (by decide) ce_3 rfl (w_X2_cell l G x 3 a1 1 s33 _ h) rfl rfl ⟨⟨by decide, by decide⟩, by decide, by decide⟩ (Nat.le_of_ble_eq_true rfl) dX1_continues_53 (fun r53 s53 H locs h hM => ?_)
        refine lv_ishl (pc := 56) hx hb dX1_continues_56 ?_
        refine lv_iand (pc := 57) hx hb dX1_continues_57 ?_
        refine lv_if_eq (pc := 58) (tgt := 65) hx hb dX1_continues_58 (by decide) (fun c58 => ?_) (fun c58 => ?_)
        · have h := h.1 c58
          refine lv_iconst (pc := 65) (v := 0) hx hb dX1_continues_65 (by decide) ?_
          exact hret 66 _ _ _ _ _ dX1_continues_66 (by rfl) h hM
        · have h := h.2 c58
          refine lv_iconst (pc := 61) (v := 1) hx hb dX1_continues_61 (by decide) ?_
          refine lv_goto (pc := 62) (tgt := 66) hx hb dX1_continues_62 (by decide) ?_
          exact hret 66 _ _ _ _ _ dX1_continues_66 (by rfl) h hM
abbrev rm_X1_fewest : Room := { frames := 2, cells := 0, slots := 0, locals := 46 }
theorem dX1_fewest_0 : decode cX1_fewest 0 = .ok (.aload_n 0, 1) := by decide +kernel
theorem dX1_fewest_1 : decode cX1_fewest 1 = .ok (.getfield 9, 3) := by decide +kernel
theorem dX1_fewest_4 : decode cX1_fewest 4 = .ok (.iconst 0, 1) := by decide +kernel
theorem dX1_fewest_5 : decode cX1_fewest 5 = .ok (.iconst 1, 1) := by decide +kernel
theorem dX1_fewest_6 : decode cX1_fewest 6 = .ok (.iload_n 1, 1) := by decide +kernel
theorem dX1_fewest_7 : decode cX1_fewest 7 = .ok (.ishl, 1) := by decide +kernel
theorem dX1_fewest_8 : decode cX1_fewest 8 = .ok (.iastore, 1) := by decide +kernel
theorem dX1_fewest_9 : decode cX1_fewest 9 = .ok (.iload_n 1, 1) := by decide +kernel
theorem dX1_fewest_10 : decode cX1_fewest 10 = .ok (.ifCond .ne 5, 3) := by decide +kernel
theorem dX1_fewest_13 : decode cX1_fewest 13 = .ok (.iconst 0, 1) := by decide +kernel
theorem dX1_fewest_14 : decode cX1_fewest 14 = .ok (.ireturn, 1) := by decide +kernel
theorem dX1_fewest_15 : decode cX1_fewest 15 = .ok (.iconst 1, 1) := by decide +kernel
theorem dX1_fewest_16 : decode cX1_fewest 16 = .ok (.istore 4, 2) := by decide +kernel
theorem dX1_fewest_18 : decode cX1_fewest 18 = .ok (.iload 4, 2) := by decide +kernel
theorem dX1_fewest_20 : decode cX1_fewest 20 = .ok (.bipush 6, 2) := by decide +kernel
theorem dX1_fewest_22 : decode cX1_fewest 22 = .ok (.if_icmp .gt 90, 3) := by decide +kernel
theorem dX1_fewest_25 : decode cX1_fewest 25 = .ok (.aload_n 0, 1) := by decide +kernel
theorem dX1_fewest_26 : decode cX1_fewest 26 = .ok (.getfield 9, 3) := by decide +kernel
theorem dX1_fewest_29 : decode cX1_fewest 29 = .ok (.iload 4, 2) := by decide +kernel
theorem dX1_fewest_31 : decode cX1_fewest 31 = .ok (.iconst 0, 1) := by decide +kernel
theorem dX1_fewest_32 : decode cX1_fewest 32 = .ok (.iastore, 1) := by decide +kernel
theorem dX1_fewest_33 : decode cX1_fewest 33 = .ok (.iconst 0, 1) := by decide +kernel
theorem dX1_fewest_34 : decode cX1_fewest 34 = .ok (.istore 5, 2) := by decide +kernel
theorem dX1_fewest_36 : decode cX1_fewest 36 = .ok (.iload 5, 2) := by decide +kernel
theorem dX1_fewest_38 : decode cX1_fewest 38 = .ok (.aload_n 0, 1) := by decide +kernel
theorem dX1_fewest_39 : decode cX1_fewest 39 = .ok (.getfield 15, 3) := by decide +kernel
theorem dX1_fewest_42 : decode cX1_fewest 42 = .ok (.getfield 23, 3) := by decide +kernel
theorem dX1_fewest_45 : decode cX1_fewest 45 = .ok (.if_icmp .ge 46, 3) := by decide +kernel
theorem dX1_fewest_48 : decode cX1_fewest 48 = .ok (.aload_n 0, 1) := by decide +kernel
theorem dX1_fewest_49 : decode cX1_fewest 49 = .ok (.iload 5, 2) := by decide +kernel
theorem dX1_fewest_51 : decode cX1_fewest 51 = .ok (.iload 4, 2) := by decide +kernel
theorem dX1_fewest_53 : decode cX1_fewest 53 = .ok (.iconst 1, 1) := by decide +kernel
theorem dX1_fewest_54 : decode cX1_fewest 54 = .ok (.isub, 1) := by decide +kernel
theorem dX1_fewest_55 : decode cX1_fewest 55 = .ok (.iload_n 2, 1) := by decide +kernel
theorem dX1_fewest_56 : decode cX1_fewest 56 = .ok (.iload_n 3, 1) := by decide +kernel
theorem dX1_fewest_57 : decode cX1_fewest 57 = .ok (.invokevirtual 29, 3) := by decide +kernel
theorem dX1_fewest_60 : decode cX1_fewest 60 = .ok (.ifCond .eq 25, 3) := by decide +kernel
theorem dX1_fewest_63 : decode cX1_fewest 63 = .ok (.aload_n 0, 1) := by decide +kernel
theorem dX1_fewest_64 : decode cX1_fewest 64 = .ok (.getfield 9, 3) := by decide +kernel
theorem dX1_fewest_67 : decode cX1_fewest 67 = .ok (.iload 4, 2) := by decide +kernel
theorem dX1_fewest_69 : decode cX1_fewest 69 = .ok (.dup2, 1) := by decide +kernel
theorem dX1_fewest_70 : decode cX1_fewest 70 = .ok (.iaload, 1) := by decide +kernel
theorem dX1_fewest_71 : decode cX1_fewest 71 = .ok (.iconst 1, 1) := by decide +kernel
theorem dX1_fewest_72 : decode cX1_fewest 72 = .ok (.aload_n 0, 1) := by decide +kernel
theorem dX1_fewest_73 : decode cX1_fewest 73 = .ok (.getfield 15, 3) := by decide +kernel
theorem dX1_fewest_76 : decode cX1_fewest 76 = .ok (.iload 5, 2) := by decide +kernel
theorem dX1_fewest_78 : decode cX1_fewest 78 = .ok (.iconst 0, 1) := by decide +kernel
theorem dX1_fewest_79 : decode cX1_fewest 79 = .ok (.invokevirtual 33, 3) := by decide +kernel
theorem dX1_fewest_82 : decode cX1_fewest 82 = .ok (.ishl, 1) := by decide +kernel
theorem dX1_fewest_83 : decode cX1_fewest 83 = .ok (.ior, 1) := by decide +kernel
theorem dX1_fewest_84 : decode cX1_fewest 84 = .ok (.iastore, 1) := by decide +kernel
theorem dX1_fewest_85 : decode cX1_fewest 85 = .ok (.iinc 5 1, 3) := by decide +kernel
theorem dX1_fewest_88 : decode cX1_fewest 88 = .ok (.goto (-52), 3) := by decide +kernel
theorem dX1_fewest_91 : decode cX1_fewest 91 = .ok (.aload_n 0, 1) := by decide +kernel
theorem dX1_fewest_92 : decode cX1_fewest 92 = .ok (.getfield 9, 3) := by decide +kernel
theorem dX1_fewest_95 : decode cX1_fewest 95 = .ok (.iload 4, 2) := by decide +kernel
theorem dX1_fewest_97 : decode cX1_fewest 97 = .ok (.iaload, 1) := by decide +kernel
theorem dX1_fewest_98 : decode cX1_fewest 98 = .ok (.iconst 1, 1) := by decide +kernel
theorem dX1_fewest_99 : decode cX1_fewest 99 = .ok (.iand, 1) := by decide +kernel
theorem dX1_fewest_100 : decode cX1_fewest 100 = .ok (.ifCond .eq 6, 3) := by decide +kernel
theorem dX1_fewest_103 : decode cX1_fewest 103 = .ok (.iload 4, 2) := by decide +kernel
theorem dX1_fewest_105 : decode cX1_fewest 105 = .ok (.ireturn, 1) := by decide +kernel
theorem dX1_fewest_106 : decode cX1_fewest 106 = .ok (.iinc 4 1, 3) := by decide +kernel
theorem dX1_fewest_109 : decode cX1_fewest 109 = .ok (.goto (-91), 3) := by decide +kernel
theorem dX1_fewest_112 : decode cX1_fewest 112 = .ok (.iconst (-1), 1) := by decide +kernel
theorem dX1_fewest_113 : decode cX1_fewest 113 = .ok (.ireturn, 1) := by decide +kernel
set_option maxHeartbeats 4000000 in
set_option maxRecDepth 100000 in
theorem w_X1_fewest (l : Launch) (G : GP) (x : XP) (a1 : Int32) (a2 : Int32) (a3 : Int32) (σ : Sto) (P : Int32 → Sto → Prop) (h : D_X1_fewest a1 a2 a3 σ P) : g_Meti l yX1_fewest cX1_fewest 6 (some .int) rm_X1_fewest G x [.ref (g_ad G 77), .int a1, .int a2, .int a3] σ P := by
  unfold D_X1_fewest at h
  refine g_ofWi (by decide +kernel) (Nat.le_of_ble_eq_true rfl) ?_
  intro p e s m args below meth c Q ls C hM hl hret
  have hx := C.1
  have hb := C.2.1
  have hl : lv_has ls 6 [(0, .ref (g_ad G 77)), (1, .int a1), (2, .int a2), (3, .int a3)] := hl
  have h := h (fun (v4 : Int32) (σ : Sto) => ∀ (H : Heap) (locs : List Loc) (ls : Array Slot), g_M G x σ s H locs → lv_has ls 6 [(0, .ref (g_ad G 77)), (2, .int a2), (3, .int a3), (4, .int v4)] → W p l e rm_X1_fewest s m args below meth c H locs 0 0 Q (F0 m 18 ls [])) (fun (v4 : Int32) (v5 : Int32) (σ : Sto) => ∀ (H : Heap) (locs : List Loc) (ls : Array Slot), g_M G x σ s H locs → lv_has ls 6 [(0, .ref (g_ad G 77)), (2, .int a2), (3, .int a3), (4, .int v4), (5, .int v5)] → W p l e rm_X1_fewest s m args below meth c H locs 0 0 Q (F0 m 36 ls []))
  have h := h (by
    intro v4 σ h  H locs ls hM hl
    refine lv_iload (pc := 18) hx hb dX1_fewest_18 (lv_at hl 3 rfl) ?_
    refine lv_bipush (pc := 20) (v := 6) hx hb dX1_fewest_20 (by decide) ?_
    refine lv_icmp_gt (pc := 22) (tgt := 112) hx hb dX1_fewest_22 (by decide) (fun c22 => ?_) (fun c22 => ?_)
    · have h := h.1 c22
      refine lv_iconst (pc := 112) (v := (-1)) hx hb dX1_fewest_112 (by decide) ?_
      exact hret 113 _ _ _ _ _ dX1_fewest_113 (by rfl) h hM
    · have h := h.2 c22
      refine lv_aload_n (pc := 25) hx hb dX1_fewest_25 rfl (lv_at hl 0 rfl) ?_
      refine g_get (pc := 26) (v := .ref (g_ad G 78)) C hM (by decide) ce_77 fl_RX1_9 rfl dX1_fewest_26 ?_
      refine lv_iload (pc := 29) hx hb dX1_fewest_29 (lv_at hl 3 rfl) ?_
      refine lv_iconst (pc := 31) (v := 0) hx hb dX1_fewest_31 (by decide) ?_
      obtain ⟨hc, h⟩ := h
      refine g_iastE (pc := 32) C hM (by decide) ce_78 hc rfl dX1_fewest_32 (fun s32 es32 H locs hM => ?_)
      have h := h s32 es32
      refine lv_iconst (pc := 33) (v := 0) hx hb dX1_fewest_33 (by decide) ?_
      refine lv_istore (pc := 34) (lv' := [(5, .int 0), (0, .ref (g_ad G 77)), (2, .int a2), (3, .int a3), (4, .int v4)]) hx hb dX1_fewest_34 hl (by decide) rfl (fun ls hl => ?_)
      exact h _ _ _ hM (lv_sub hl [1, 2, 3, 4, 0] rfl))
  have h := h (by
    intro v4 v5 σ h  H locs ls hM hl
    refine lv_iload (pc := 36) hx hb dX1_fewest_36 (lv_at hl 4 rfl) ?_
    refine lv_aload_n (pc := 38) hx hb dX1_fewest_38 rfl (lv_at hl 0 rfl) ?_
    refine g_get (pc := 39) (v := .ref (g_ad G 3)) C hM (by decide) ce_77 fl_RX1_15 rfl dX1_fewest_39 ?_
    refine g_get (pc := 42) (v := .int (σ 3 1)) C hM (by decide) ce_3 fl_RX1_23 rfl dX1_fewest_42 ?_
    refine lv_icmp_ge (pc := 45) (tgt := 91) hx hb dX1_fewest_45 (by decide) (fun c45 => ?_) (fun c45 => ?_)
    · have h := h.1 c45
      refine lv_aload_n (pc := 91) hx hb dX1_fewest_91 rfl (lv_at hl 0 rfl) ?_
      refine g_get (pc := 92) (v := .ref (g_ad G 78)) C hM (by decide) ce_77 fl_RX1_9 rfl dX1_fewest_92 ?_
      refine lv_iload (pc := 95) hx hb dX1_fewest_95 (lv_at hl 3 rfl) ?_
      obtain ⟨hc, h⟩ := h
      refine g_ialdK (pc := 97) C hM (by decide) ce_78 hc rfl dX1_fewest_97 ?_
      refine lv_iconst (pc := 98) (v := 1) hx hb dX1_fewest_98 (by decide) ?_
      refine lv_iand (pc := 99) hx hb dX1_fewest_99 ?_
      refine lv_if_eq (pc := 100) (tgt := 106) hx hb dX1_fewest_100 (by decide) (fun c100 => ?_) (fun c100 => ?_)
      · have h := h.1 c100
        refine lv_iinc (pc := 106) (v := (v4 + 1)) (lv' := [(4, .int (v4 + 1)), (0, .ref (g_ad G 77)), (2, .int a2), (3, .int a3), (5, .int v5)]) hx hb dX1_fewest_106 hl (k := 3) rfl (by rfl) (by decide) rfl (fun ls hl => ?_)
        refine lv_goto (pc := 109) (tgt := 18) hx hb dX1_fewest_109 (by decide) ?_
        exact h _ _ _ hM (lv_sub hl [1, 2, 3, 0] rfl)
      · have h := h.2 c100
        refine lv_iload (pc := 103) hx hb dX1_fewest_103 (lv_at hl 3 rfl) ?_
        exact hret 105 _ _ _ _ _ dX1_fewest_105 (by rfl) h hM
    · have h := h.2 c45
      refine lv_aload_n (pc := 48) hx hb dX1_fewest_48 rfl (lv_at hl 0 rfl) ?_
      refine lv_iload (pc := 49) hx hb dX1_fewest_49 (lv_at hl 4 rfl) ?_
      refine lv_iload (pc := 51) hx hb dX1_fewest_51 (lv_at hl 3 rfl) ?_
      refine lv_iconst (pc := 53) (v := 1) hx hb dX1_fewest_53 (by decide) ?_
      refine lv_isub (pc := 54) hx hb dX1_fewest_54 ?_
      refine lv_iload_n (pc := 55) hx hb dX1_fewest_55 rfl (lv_at hl 1 rfl) ?_
      refine lv_iload_n (pc := 56) hx hb dX1_fewest_56 rfl (lv_at hl 2 rfl) ?_
      refine g_cVi (pc := 57) C hM hl.1 yv_X1_continues q3_206 (by decide) ce_77 rfl (w_X1_continues l G x v5 (v4 - 1) a2 a3 σ _ h) rfl rfl ⟨⟨by decide, by decide⟩, by decide, by decide⟩ (Nat.le_of_ble_eq_true rfl) dX1_fewest_57 (fun r57 s57 H locs h hM => ?_)
      refine lv_if_eq (pc := 60) (tgt := 85) hx hb dX1_fewest_60 (by decide) (fun c60 => ?_) (fun c60 => ?_)
      · have h := h.1 c60
        refine lv_iinc (pc := 85) (v := (v5 + 1)) (lv' := [(5, .int (v5 + 1)), (0, .ref (g_ad G 77)), (2, .int a2), (3, .int a3), (4, .int v4)]) hx hb dX1_fewest_85 hl (k := 4) rfl (by rfl) (by decide) rfl (fun ls hl => ?_)
        refine lv_goto (pc := 88) (tgt := 36) hx hb dX1_fewest_88 (by decide) ?_
        exact h _ _ _ hM (lv_sub hl [1, 2, 3, 4, 0] rfl)
      · have h := h.2 c60
        refine lv_aload_n (pc := 63) hx hb dX1_fewest_63 rfl (lv_at hl 0 rfl) ?_
        refine g_get (pc := 64) (v := .ref (g_ad G 78)) C hM (by decide) ce_77 fl_RX1_9 rfl dX1_fewest_64 ?_
        refine lv_iload (pc := 67) hx hb dX1_fewest_67 (lv_at hl 3 rfl) ?_
        refine lv_dup2_11 (pc := 69) hx hb dX1_fewest_69 rfl rfl ?_
        obtain ⟨hc, h⟩ := h
        refine g_ialdK (pc := 70) C hM (by decide) ce_78 hc rfl dX1_fewest_70 ?_
        refine lv_iconst (pc := 71) (v := 1) hx hb dX1_fewest_71 (by decide) ?_
        refine lv_aload_n (pc := 72) hx hb dX1_fewest_72 rfl (lv_at hl 0 rfl) ?_
        refine g_get (pc := 73) (v := .ref (g_ad G 3)) C hM (by decide) ce_77 fl_RX1_15 rfl dX1_fewest_73 ?_
        refine lv_iload (pc := 76) hx hb dX1_fewest_76 (lv_at hl 4 rfl) ?_
        refine lv_iconst (pc := 78) (v := 0) hx hb dX1_fewest_78 (by decide) ?_
        refine g_cVi (pc := 79) C hM hl.1 yv_X2_cell q3_210 (by decide) ce_3 rfl (w_X2_cell l G x 3 v5 0 s57 _ h) rfl rfl ⟨⟨by decide, by decide⟩, by decide, by decide⟩ (Nat.le_of_ble_eq_true rfl) dX1_fewest_79 (fun r79 s79 H locs h hM => ?_)
        refine lv_ishl (pc := 82) hx hb dX1_fewest_82 ?_
        refine lv_ior (pc := 83) hx hb dX1_fewest_83 ?_
        obtain ⟨hc, h⟩ := h
        refine g_iastE (pc := 84) C hM (by decide) ce_78 hc rfl dX1_fewest_84 (fun s84 es84 H locs hM => ?_)
        have h := h s84 es84
        refine lv_iinc (pc := 85) (v := (v5 + 1)) (lv' := [(5, .int (v5 + 1)), (0, .ref (g_ad G 77)), (2, .int a2), (3, .int a3), (4, .int v4)]) hx hb dX1_fewest_85 hl (k := 4) rfl (by rfl) (by decide) rfl (fun ls hl => ?_)
        refine lv_goto (pc := 88) (tgt := 36) hx hb dX1_fewest_88 (by decide) ?_
        exact h _ _ _ hM (lv_sub hl [1, 2, 3, 4, 0] rfl))
  refine lv_aload_n (pc := 0) hx hb dX1_fewest_0 rfl (lv_at hl 0 rfl) ?_
  refine g_get (pc := 1) (v := .ref (g_ad G 78)) C hM (by decide) ce_77 fl_RX1_9 rfl dX1_fewest_1 ?_
  refine lv_iconst (pc := 4) (v := 0) hx hb dX1_fewest_4 (by decide) ?_
  refine lv_iconst (pc := 5) (v := 1) hx hb dX1_fewest_5 (by decide) ?_
  refine lv_iload_n (pc := 6) hx hb dX1_fewest_6 rfl (lv_at hl 1 rfl) ?_
  refine lv_ishl (pc := 7) hx hb dX1_fewest_7 ?_
  refine g_iastE (pc := 8) (k := 0) C hM (by decide) ce_78 (vp_in_nI (n := 0) (by decide) (by decide)) rfl dX1_fewest_8 (fun s8 es8 H locs hM => ?_)
  have h := h s8 es8
  refine lv_iload_n (pc := 9) hx hb dX1_fewest_9 rfl (lv_at hl 1 rfl) ?_
  refine lv_if_ne (pc := 10) (tgt := 15) hx hb dX1_fewest_10 (by decide) (fun c10 => ?_) (fun c10 => ?_)
  · have h := h.2 c10
    refine lv_iconst (pc := 15) (v := 1) hx hb dX1_fewest_15 (by decide) ?_
    refine lv_istore (pc := 16) (lv' := [(4, .int 1), (0, .ref (g_ad G 77)), (1, .int a1), (2, .int a2), (3, .int a3)]) hx hb dX1_fewest_16 hl (by decide) rfl (fun ls hl => ?_)
    exact h _ _ _ hM (lv_sub hl [1, 3, 4, 0] rfl)
  · have h := h.1 c10
    refine lv_iconst (pc := 13) (v := 0) hx hb dX1_fewest_13 (by decide) ?_
    exact hret 14 _ _ _ _ _ dX1_fewest_14 (by rfl) h hM
abbrev rm_X1_usable : Room := { frames := 3, cells := 0, slots := 0, locals := 71 }
theorem dX1_usable_0 : decode cX1_usable 0 = .ok (.iconst 0, 1) := by decide +kernel
theorem dX1_usable_1 : decode cX1_usable 1 = .ok (.istore_n 3, 1) := by decide +kernel
theorem dX1_usable_2 : decode cX1_usable 2 = .ok (.iconst 0, 1) := by decide +kernel
theorem dX1_usable_3 : decode cX1_usable 3 = .ok (.istore 4, 2) := by decide +kernel
theorem dX1_usable_5 : decode cX1_usable 5 = .ok (.iload 4, 2) := by decide +kernel
theorem dX1_usable_7 : decode cX1_usable 7 = .ok (.iconst 4, 1) := by decide +kernel
theorem dX1_usable_8 : decode cX1_usable 8 = .ok (.if_icmp .ge 27, 3) := by decide +kernel
theorem dX1_usable_11 : decode cX1_usable 11 = .ok (.aload_n 0, 1) := by decide +kernel
theorem dX1_usable_12 : decode cX1_usable 12 = .ok (.iload_n 1, 1) := by decide +kernel
theorem dX1_usable_13 : decode cX1_usable 13 = .ok (.iload 4, 2) := by decide +kernel
theorem dX1_usable_15 : decode cX1_usable 15 = .ok (.iload_n 2, 1) := by decide +kernel
theorem dX1_usable_16 : decode cX1_usable 16 = .ok (.invokevirtual 19, 3) := by decide +kernel
theorem dX1_usable_19 : decode cX1_usable 19 = .ok (.ifCond .lt 10, 3) := by decide +kernel
theorem dX1_usable_22 : decode cX1_usable 22 = .ok (.iload_n 3, 1) := by decide +kernel
theorem dX1_usable_23 : decode cX1_usable 23 = .ok (.iconst 1, 1) := by decide +kernel
theorem dX1_usable_24 : decode cX1_usable 24 = .ok (.iload 4, 2) := by decide +kernel
theorem dX1_usable_26 : decode cX1_usable 26 = .ok (.ishl, 1) := by decide +kernel
theorem dX1_usable_27 : decode cX1_usable 27 = .ok (.ior, 1) := by decide +kernel
theorem dX1_usable_28 : decode cX1_usable 28 = .ok (.istore_n 3, 1) := by decide +kernel
theorem dX1_usable_29 : decode cX1_usable 29 = .ok (.iinc 4 1, 3) := by decide +kernel
theorem dX1_usable_32 : decode cX1_usable 32 = .ok (.goto (-27), 3) := by decide +kernel
theorem dX1_usable_35 : decode cX1_usable 35 = .ok (.iload_n 3, 1) := by decide +kernel
theorem dX1_usable_36 : decode cX1_usable 36 = .ok (.ireturn, 1) := by decide +kernel
set_option maxHeartbeats 4000000 in
set_option maxRecDepth 100000 in
theorem w_X1_usable (l : Launch) (G : GP) (x : XP) (a1 : Int32) (a2 : Int32) (σ : Sto) (P : Int32 → Sto → Prop) (h : D_X1_usable a1 a2 σ P) : g_Meti l yX1_usable cX1_usable 5 (some .int) rm_X1_usable G x [.ref (g_ad G 77), .int a1, .int a2] σ P := by
  unfold D_X1_usable at h
  refine g_ofWi (by decide +kernel) (Nat.le_of_ble_eq_true rfl) ?_
  intro p e s m args below meth c Q ls C hM hl hret
  have hx := C.1
  have hb := C.2.1
  have hl : lv_has ls 5 [(0, .ref (g_ad G 77)), (1, .int a1), (2, .int a2)] := hl
  have h := h (fun (v3 : Int32) (v4 : Int32) (σ : Sto) => ∀ (H : Heap) (locs : List Loc) (ls : Array Slot), g_M G x σ s H locs → lv_has ls 5 [(0, .ref (g_ad G 77)), (1, .int a1), (2, .int a2), (3, .int v3), (4, .int v4)] → W p l e rm_X1_usable s m args below meth c H locs 0 0 Q (F0 m 5 ls []))
  have h := h (by
    intro v3 v4 σ h  H locs ls hM hl
    refine lv_iload (pc := 5) hx hb dX1_usable_5 (lv_at hl 4 rfl) ?_
    refine lv_iconst (pc := 7) (v := 4) hx hb dX1_usable_7 (by decide) ?_
    refine lv_icmp_ge (pc := 8) (tgt := 35) hx hb dX1_usable_8 (by decide) (fun c8 => ?_) (fun c8 => ?_)
    · have h := h.1 c8
      refine lv_iload_n (pc := 35) hx hb dX1_usable_35 rfl (lv_at hl 3 rfl) ?_
      exact hret 36 _ _ _ _ _ dX1_usable_36 (by rfl) h hM
    · have h := h.2 c8
      refine lv_aload_n (pc := 11) hx hb dX1_usable_11 rfl (lv_at hl 0 rfl) ?_
      refine lv_iload_n (pc := 12) hx hb dX1_usable_12 rfl (lv_at hl 1 rfl) ?_
      refine lv_iload (pc := 13) hx hb dX1_usable_13 (lv_at hl 4 rfl) ?_
      refine lv_iload_n (pc := 15) hx hb dX1_usable_15 rfl (lv_at hl 2 rfl) ?_
      refine g_cVi (pc := 16) C hM hl.1 yv_X1_fewest q3_202 (by decide) ce_77 rfl (w_X1_fewest l G x a1 v4 a2 σ _ h) rfl rfl ⟨⟨by decide, by decide⟩, by decide, by decide⟩ (Nat.le_of_ble_eq_true rfl) dX1_usable_16 (fun r16 s16 H locs h hM => ?_)
      refine lv_if_lt (pc := 19) (tgt := 29) hx hb dX1_usable_19 (by decide) (fun c19 => ?_) (fun c19 => ?_)
      · have h := h.1 c19
        refine lv_iinc (pc := 29) (v := (v4 + 1)) (lv' := [(4, .int (v4 + 1)), (0, .ref (g_ad G 77)), (1, .int a1), (2, .int a2), (3, .int v3)]) hx hb dX1_usable_29 hl (k := 4) rfl (by rfl) (by decide) rfl (fun ls hl => ?_)
        refine lv_goto (pc := 32) (tgt := 5) hx hb dX1_usable_32 (by decide) ?_
        exact h _ _ _ hM (lv_sub hl [1, 2, 3, 4, 0] rfl)
      · have h := h.2 c19
        refine lv_iload_n (pc := 22) hx hb dX1_usable_22 rfl (lv_at hl 3 rfl) ?_
        refine lv_iconst (pc := 23) (v := 1) hx hb dX1_usable_23 (by decide) ?_
        refine lv_iload (pc := 24) hx hb dX1_usable_24 (lv_at hl 4 rfl) ?_
        refine lv_ishl (pc := 26) hx hb dX1_usable_26 ?_
        refine lv_ior (pc := 27) hx hb dX1_usable_27 ?_
        refine lv_topi (fun v3_28 ev3_28 => ?_)
        have h := h v3_28 ev3_28
        refine lv_istore_n (pc := 28) (lv' := [(3, .int v3_28), (0, .ref (g_ad G 77)), (1, .int a1), (2, .int a2), (4, .int v4)]) hx hb dX1_usable_28 rfl hl (by decide) rfl (fun ls hl => ?_)
        refine lv_iinc (pc := 29) (v := (v4 + 1)) (lv' := [(4, .int (v4 + 1)), (3, .int v3_28), (0, .ref (g_ad G 77)), (1, .int a1), (2, .int a2)]) hx hb dX1_usable_29 hl (k := 4) rfl (by rfl) (by decide) rfl (fun ls hl => ?_)
        refine lv_goto (pc := 32) (tgt := 5) hx hb dX1_usable_32 (by decide) ?_
        exact h _ _ _ hM (lv_sub hl [2, 3, 4, 1, 0] rfl))
  refine lv_iconst (pc := 0) (v := 0) hx hb dX1_usable_0 (by decide) ?_
  refine lv_istore_n (pc := 1) (lv' := [(3, .int 0), (0, .ref (g_ad G 77)), (1, .int a1), (2, .int a2)]) hx hb dX1_usable_1 rfl hl (by decide) rfl (fun ls hl => ?_)
  refine lv_iconst (pc := 2) (v := 0) hx hb dX1_usable_2 (by decide) ?_
  refine lv_istore (pc := 3) (lv' := [(4, .int 0), (3, .int 0), (0, .ref (g_ad G 77)), (1, .int a1), (2, .int a2)]) hx hb dX1_usable_3 hl (by decide) rfl (fun ls hl => ?_)
  exact h _ _ _ hM (lv_sub hl [2, 3, 4, 1, 0] rfl)
abbrev rm_X1_lowestNext : Room := { frames := 2, cells := 0, slots := 0, locals := 46 }
theorem dX1_lowestNext_0 : decode cX1_lowestNext 0 = .ok (.bipush 10, 2) := by decide +kernel
theorem dX1_lowestNext_2 : decode cX1_lowestNext 2 = .ok (.istore 5, 2) := by decide +kernel
theorem dX1_lowestNext_4 : decode cX1_lowestNext 4 = .ok (.iconst 0, 1) := by decide +kernel
theorem dX1_lowestNext_5 : decode cX1_lowestNext 5 = .ok (.istore 6, 2) := by decide +kernel
theorem dX1_lowestNext_7 : decode cX1_lowestNext 7 = .ok (.iload 6, 2) := by decide +kernel
theorem dX1_lowestNext_9 : decode cX1_lowestNext 9 = .ok (.aload_n 0, 1) := by decide +kernel
theorem dX1_lowestNext_10 : decode cX1_lowestNext 10 = .ok (.getfield 15, 3) := by decide +kernel
theorem dX1_lowestNext_13 : decode cX1_lowestNext 13 = .ok (.getfield 23, 3) := by decide +kernel
theorem dX1_lowestNext_16 : decode cX1_lowestNext 16 = .ok (.if_icmp .ge 53, 3) := by decide +kernel
theorem dX1_lowestNext_19 : decode cX1_lowestNext 19 = .ok (.aload_n 0, 1) := by decide +kernel
theorem dX1_lowestNext_20 : decode cX1_lowestNext 20 = .ok (.getfield 15, 3) := by decide +kernel
theorem dX1_lowestNext_23 : decode cX1_lowestNext 23 = .ok (.iload 6, 2) := by decide +kernel
theorem dX1_lowestNext_25 : decode cX1_lowestNext 25 = .ok (.iconst 0, 1) := by decide +kernel
theorem dX1_lowestNext_26 : decode cX1_lowestNext 26 = .ok (.invokevirtual 33, 3) := by decide +kernel
theorem dX1_lowestNext_29 : decode cX1_lowestNext 29 = .ok (.iload_n 1, 1) := by decide +kernel
theorem dX1_lowestNext_30 : decode cX1_lowestNext 30 = .ok (.if_icmp .ne 33, 3) := by decide +kernel
theorem dX1_lowestNext_33 : decode cX1_lowestNext 33 = .ok (.aload_n 0, 1) := by decide +kernel
theorem dX1_lowestNext_34 : decode cX1_lowestNext 34 = .ok (.iload 6, 2) := by decide +kernel
theorem dX1_lowestNext_36 : decode cX1_lowestNext 36 = .ok (.iload_n 2, 1) := by decide +kernel
theorem dX1_lowestNext_37 : decode cX1_lowestNext 37 = .ok (.iload_n 3, 1) := by decide +kernel
theorem dX1_lowestNext_38 : decode cX1_lowestNext 38 = .ok (.iload 4, 2) := by decide +kernel
theorem dX1_lowestNext_40 : decode cX1_lowestNext 40 = .ok (.invokevirtual 29, 3) := by decide +kernel
theorem dX1_lowestNext_43 : decode cX1_lowestNext 43 = .ok (.ifCond .eq 20, 3) := by decide +kernel
theorem dX1_lowestNext_46 : decode cX1_lowestNext 46 = .ok (.iload 5, 2) := by decide +kernel
theorem dX1_lowestNext_48 : decode cX1_lowestNext 48 = .ok (.aload_n 0, 1) := by decide +kernel
theorem dX1_lowestNext_49 : decode cX1_lowestNext 49 = .ok (.getfield 15, 3) := by decide +kernel
theorem dX1_lowestNext_52 : decode cX1_lowestNext 52 = .ok (.iload 6, 2) := by decide +kernel
theorem dX1_lowestNext_54 : decode cX1_lowestNext 54 = .ok (.iconst 1, 1) := by decide +kernel
theorem dX1_lowestNext_55 : decode cX1_lowestNext 55 = .ok (.invokevirtual 33, 3) := by decide +kernel
theorem dX1_lowestNext_58 : decode cX1_lowestNext 58 = .ok (.invokestatic 41, 3) := by decide +kernel
theorem dX1_lowestNext_61 : decode cX1_lowestNext 61 = .ok (.istore 5, 2) := by decide +kernel
theorem dX1_lowestNext_63 : decode cX1_lowestNext 63 = .ok (.iinc 6 1, 3) := by decide +kernel
theorem dX1_lowestNext_66 : decode cX1_lowestNext 66 = .ok (.goto (-59), 3) := by decide +kernel
theorem dX1_lowestNext_69 : decode cX1_lowestNext 69 = .ok (.iload 5, 2) := by decide +kernel
theorem dX1_lowestNext_71 : decode cX1_lowestNext 71 = .ok (.ireturn, 1) := by decide +kernel
set_option maxHeartbeats 4000000 in
set_option maxRecDepth 100000 in
theorem w_X1_lowestNext (l : Launch) (G : GP) (x : XP) (a1 : Int32) (a2 : Int32) (a3 : Int32) (a4 : Int32) (σ : Sto) (P : Int32 → Sto → Prop) (h : D_X1_lowestNext a1 a2 a3 a4 σ P) : g_Meti l yX1_lowestNext cX1_lowestNext 7 (some .int) rm_X1_lowestNext G x [.ref (g_ad G 77), .int a1, .int a2, .int a3, .int a4] σ P := by
  unfold D_X1_lowestNext at h
  refine g_ofWi (by decide +kernel) (Nat.le_of_ble_eq_true rfl) ?_
  intro p e s m args below meth c Q ls C hM hl hret
  have hx := C.1
  have hb := C.2.1
  have hl : lv_has ls 7 [(0, .ref (g_ad G 77)), (1, .int a1), (2, .int a2), (3, .int a3), (4, .int a4)] := hl
  have h := h (fun (v5 : Int32) (v6 : Int32) (σ : Sto) => ∀ (H : Heap) (locs : List Loc) (ls : Array Slot), g_M G x σ s H locs → lv_has ls 7 [(0, .ref (g_ad G 77)), (1, .int a1), (2, .int a2), (3, .int a3), (4, .int a4), (5, .int v5), (6, .int v6)] → W p l e rm_X1_lowestNext s m args below meth c H locs 0 0 Q (F0 m 7 ls []))
  have h := h (by
    intro v5 v6 σ h  H locs ls hM hl
    refine lv_iload (pc := 7) hx hb dX1_lowestNext_7 (lv_at hl 6 rfl) ?_
    refine lv_aload_n (pc := 9) hx hb dX1_lowestNext_9 rfl (lv_at hl 0 rfl) ?_
    refine g_get (pc := 10) (v := .ref (g_ad G 3)) C hM (by decide) ce_77 fl_RX1_15 rfl dX1_lowestNext_10 ?_
    refine g_get (pc := 13) (v := .int (σ 3 1)) C hM (by decide) ce_3 fl_RX1_23 rfl dX1_lowestNext_13 ?_
    refine lv_icmp_ge (pc := 16) (tgt := 69) hx hb dX1_lowestNext_16 (by decide) (fun c16 => ?_) (fun c16 => ?_)
    · have h := h.1 c16
      refine lv_iload (pc := 69) hx hb dX1_lowestNext_69 (lv_at hl 5 rfl) ?_
      exact hret 71 _ _ _ _ _ dX1_lowestNext_71 (by rfl) h hM
    · have h := h.2 c16
      refine lv_aload_n (pc := 19) hx hb dX1_lowestNext_19 rfl (lv_at hl 0 rfl) ?_
      refine g_get (pc := 20) (v := .ref (g_ad G 3)) C hM (by decide) ce_77 fl_RX1_15 rfl dX1_lowestNext_20 ?_
      refine lv_iload (pc := 23) hx hb dX1_lowestNext_23 (lv_at hl 6 rfl) ?_
      refine lv_iconst (pc := 25) (v := 0) hx hb dX1_lowestNext_25 (by decide) ?_
      refine g_cVi (pc := 26) C hM hl.1 yv_X2_cell q3_210 (by decide) ce_3 rfl (w_X2_cell l G x 3 v6 0 σ _ h) rfl rfl ⟨⟨by decide, by decide⟩, by decide, by decide⟩ (Nat.le_of_ble_eq_true rfl) dX1_lowestNext_26 (fun r26 s26 H locs h hM => ?_)
      refine lv_iload_n (pc := 29) hx hb dX1_lowestNext_29 rfl (lv_at hl 1 rfl) ?_
      refine lv_icmp_ne (pc := 30) (tgt := 63) hx hb dX1_lowestNext_30 (by decide) (fun c30 => ?_) (fun c30 => ?_)
      · have h := h.2 c30
        refine lv_iinc (pc := 63) (v := (v6 + 1)) (lv' := [(6, .int (v6 + 1)), (0, .ref (g_ad G 77)), (1, .int a1), (2, .int a2), (3, .int a3), (4, .int a4), (5, .int v5)]) hx hb dX1_lowestNext_63 hl (k := 6) rfl (by rfl) (by decide) rfl (fun ls hl => ?_)
        refine lv_goto (pc := 66) (tgt := 7) hx hb dX1_lowestNext_66 (by decide) ?_
        exact h _ _ _ hM (lv_sub hl [1, 2, 3, 4, 5, 6, 0] rfl)
      · have h := h.1 c30
        refine lv_aload_n (pc := 33) hx hb dX1_lowestNext_33 rfl (lv_at hl 0 rfl) ?_
        refine lv_iload (pc := 34) hx hb dX1_lowestNext_34 (lv_at hl 6 rfl) ?_
        refine lv_iload_n (pc := 36) hx hb dX1_lowestNext_36 rfl (lv_at hl 2 rfl) ?_
        refine lv_iload_n (pc := 37) hx hb dX1_lowestNext_37 rfl (lv_at hl 3 rfl) ?_
        refine lv_iload (pc := 38) hx hb dX1_lowestNext_38 (lv_at hl 4 rfl) ?_
        refine g_cVi (pc := 40) C hM hl.1 yv_X1_continues q3_206 (by decide) ce_77 rfl (w_X1_continues l G x v6 a2 a3 a4 s26 _ h) rfl rfl ⟨⟨by decide, by decide⟩, by decide, by decide⟩ (Nat.le_of_ble_eq_true rfl) dX1_lowestNext_40 (fun r40 s40 H locs h hM => ?_)
        refine lv_if_eq (pc := 43) (tgt := 63) hx hb dX1_lowestNext_43 (by decide) (fun c43 => ?_) (fun c43 => ?_)
        · have h := h.1 c43
          refine lv_iinc (pc := 63) (v := (v6 + 1)) (lv' := [(6, .int (v6 + 1)), (0, .ref (g_ad G 77)), (1, .int a1), (2, .int a2), (3, .int a3), (4, .int a4), (5, .int v5)]) hx hb dX1_lowestNext_63 hl (k := 6) rfl (by rfl) (by decide) rfl (fun ls hl => ?_)
          refine lv_goto (pc := 66) (tgt := 7) hx hb dX1_lowestNext_66 (by decide) ?_
          exact h _ _ _ hM (lv_sub hl [1, 2, 3, 4, 5, 6, 0] rfl)
        · have h := h.2 c43
          refine lv_iload (pc := 46) hx hb dX1_lowestNext_46 (lv_at hl 5 rfl) ?_
          refine lv_aload_n (pc := 48) hx hb dX1_lowestNext_48 rfl (lv_at hl 0 rfl) ?_
          refine g_get (pc := 49) (v := .ref (g_ad G 3)) C hM (by decide) ce_77 fl_RX1_15 rfl dX1_lowestNext_49 ?_
          refine lv_iload (pc := 52) hx hb dX1_lowestNext_52 (lv_at hl 6 rfl) ?_
          refine lv_iconst (pc := 54) (v := 1) hx hb dX1_lowestNext_54 (by decide) ?_
          refine g_cVi (pc := 55) C hM hl.1 yv_X2_cell q3_210 (by decide) ce_3 rfl (w_X2_cell l G x 3 v6 1 s40 _ h) rfl rfl ⟨⟨by decide, by decide⟩, by decide, by decide⟩ (Nat.le_of_ble_eq_true rfl) dX1_lowestNext_55 (fun r55 s55 H locs h hM => ?_)
          refine g_min (pc := 58) C hl.1 ⟨q3_234, q3_235, q1_24, q3_236⟩ ⟨⟨by decide, by decide⟩, by decide, by decide⟩ dX1_lowestNext_58 ?_
          refine lv_topi (fun v5_61 ev5_61 => ?_)
          have h := h v5_61 ev5_61
          refine lv_istore (pc := 61) (lv' := [(5, .int v5_61), (0, .ref (g_ad G 77)), (1, .int a1), (2, .int a2), (3, .int a3), (4, .int a4), (6, .int v6)]) hx hb dX1_lowestNext_61 hl (by decide) rfl (fun ls hl => ?_)
          refine lv_iinc (pc := 63) (v := (v6 + 1)) (lv' := [(6, .int (v6 + 1)), (5, .int v5_61), (0, .ref (g_ad G 77)), (1, .int a1), (2, .int a2), (3, .int a3), (4, .int a4)]) hx hb dX1_lowestNext_63 hl (k := 6) rfl (by rfl) (by decide) rfl (fun ls hl => ?_)
          refine lv_goto (pc := 66) (tgt := 7) hx hb dX1_lowestNext_66 (by decide) ?_
          exact h _ _ _ hM (lv_sub hl [2, 3, 4, 5, 6, 1, 0] rfl))
  refine lv_bipush (pc := 0) (v := 10) hx hb dX1_lowestNext_0 (by decide) ?_
  refine lv_istore (pc := 2) (lv' := [(5, .int 10), (0, .ref (g_ad G 77)), (1, .int a1), (2, .int a2), (3, .int a3), (4, .int a4)]) hx hb dX1_lowestNext_2 hl (by decide) rfl (fun ls hl => ?_)
  refine lv_iconst (pc := 4) (v := 0) hx hb dX1_lowestNext_4 (by decide) ?_
  refine lv_istore (pc := 5) (lv' := [(6, .int 0), (5, .int 10), (0, .ref (g_ad G 77)), (1, .int a1), (2, .int a2), (3, .int a3), (4, .int a4)]) hx hb dX1_lowestNext_5 hl (by decide) rfl (fun ls hl => ?_)
  exact h _ _ _ hM (lv_sub hl [2, 3, 4, 5, 6, 1, 0] rfl)
abbrev rm_X1_subjectAt : Room := { frames := 3, cells := 0, slots := 0, locals := 72 }
theorem dX1_subjectAt_0 : decode cX1_subjectAt 0 = .ok (.iconst 0, 1) := by decide +kernel
theorem dX1_subjectAt_1 : decode cX1_subjectAt 1 = .ok (.istore 5, 2) := by decide +kernel
theorem dX1_subjectAt_3 : decode cX1_subjectAt 3 = .ok (.iconst 1, 1) := by decide +kernel
theorem dX1_subjectAt_4 : decode cX1_subjectAt 4 = .ok (.istore 6, 2) := by decide +kernel
theorem dX1_subjectAt_6 : decode cX1_subjectAt 6 = .ok (.iload 6, 2) := by decide +kernel
theorem dX1_subjectAt_8 : decode cX1_subjectAt 8 = .ok (.iload_n 1, 1) := by decide +kernel
theorem dX1_subjectAt_9 : decode cX1_subjectAt 9 = .ok (.if_icmp .gt 24, 3) := by decide +kernel
theorem dX1_subjectAt_12 : decode cX1_subjectAt 12 = .ok (.aload_n 0, 1) := by decide +kernel
theorem dX1_subjectAt_13 : decode cX1_subjectAt 13 = .ok (.iload 5, 2) := by decide +kernel
theorem dX1_subjectAt_15 : decode cX1_subjectAt 15 = .ok (.iload_n 2, 1) := by decide +kernel
theorem dX1_subjectAt_16 : decode cX1_subjectAt 16 = .ok (.iload 6, 2) := by decide +kernel
theorem dX1_subjectAt_18 : decode cX1_subjectAt 18 = .ok (.isub, 1) := by decide +kernel
theorem dX1_subjectAt_19 : decode cX1_subjectAt 19 = .ok (.iload_n 3, 1) := by decide +kernel
theorem dX1_subjectAt_20 : decode cX1_subjectAt 20 = .ok (.iload 4, 2) := by decide +kernel
theorem dX1_subjectAt_22 : decode cX1_subjectAt 22 = .ok (.invokevirtual 37, 3) := by decide +kernel
theorem dX1_subjectAt_25 : decode cX1_subjectAt 25 = .ok (.istore 5, 2) := by decide +kernel
theorem dX1_subjectAt_27 : decode cX1_subjectAt 27 = .ok (.iinc 6 1, 3) := by decide +kernel
theorem dX1_subjectAt_30 : decode cX1_subjectAt 30 = .ok (.goto (-24), 3) := by decide +kernel
theorem dX1_subjectAt_33 : decode cX1_subjectAt 33 = .ok (.iload 5, 2) := by decide +kernel
theorem dX1_subjectAt_35 : decode cX1_subjectAt 35 = .ok (.ireturn, 1) := by decide +kernel
set_option maxHeartbeats 4000000 in
set_option maxRecDepth 100000 in
theorem w_X1_subjectAt (l : Launch) (G : GP) (x : XP) (a1 : Int32) (a2 : Int32) (a3 : Int32) (a4 : Int32) (σ : Sto) (P : Int32 → Sto → Prop) (h : D_X1_subjectAt a1 a2 a3 a4 σ P) : g_Meti l yX1_subjectAt cX1_subjectAt 7 (some .int) rm_X1_subjectAt G x [.ref (g_ad G 77), .int a1, .int a2, .int a3, .int a4] σ P := by
  unfold D_X1_subjectAt at h
  refine g_ofWi (by decide +kernel) (Nat.le_of_ble_eq_true rfl) ?_
  intro p e s m args below meth c Q ls C hM hl hret
  have hx := C.1
  have hb := C.2.1
  have hl : lv_has ls 7 [(0, .ref (g_ad G 77)), (1, .int a1), (2, .int a2), (3, .int a3), (4, .int a4)] := hl
  have h := h (fun (v5 : Int32) (v6 : Int32) (σ : Sto) => ∀ (H : Heap) (locs : List Loc) (ls : Array Slot), g_M G x σ s H locs → lv_has ls 7 [(0, .ref (g_ad G 77)), (1, .int a1), (2, .int a2), (3, .int a3), (4, .int a4), (5, .int v5), (6, .int v6)] → W p l e rm_X1_subjectAt s m args below meth c H locs 0 0 Q (F0 m 6 ls []))
  have h := h (by
    intro v5 v6 σ h  H locs ls hM hl
    refine lv_iload (pc := 6) hx hb dX1_subjectAt_6 (lv_at hl 6 rfl) ?_
    refine lv_iload_n (pc := 8) hx hb dX1_subjectAt_8 rfl (lv_at hl 1 rfl) ?_
    refine lv_icmp_gt (pc := 9) (tgt := 33) hx hb dX1_subjectAt_9 (by decide) (fun c9 => ?_) (fun c9 => ?_)
    · have h := h.1 c9
      refine lv_iload (pc := 33) hx hb dX1_subjectAt_33 (lv_at hl 5 rfl) ?_
      exact hret 35 _ _ _ _ _ dX1_subjectAt_35 (by rfl) h hM
    · have h := h.2 c9
      refine lv_aload_n (pc := 12) hx hb dX1_subjectAt_12 rfl (lv_at hl 0 rfl) ?_
      refine lv_iload (pc := 13) hx hb dX1_subjectAt_13 (lv_at hl 5 rfl) ?_
      refine lv_iload_n (pc := 15) hx hb dX1_subjectAt_15 rfl (lv_at hl 2 rfl) ?_
      refine lv_iload (pc := 16) hx hb dX1_subjectAt_16 (lv_at hl 6 rfl) ?_
      refine lv_isub (pc := 18) hx hb dX1_subjectAt_18 ?_
      refine lv_iload_n (pc := 19) hx hb dX1_subjectAt_19 rfl (lv_at hl 3 rfl) ?_
      refine lv_iload (pc := 20) hx hb dX1_subjectAt_20 (lv_at hl 4 rfl) ?_
      refine g_cVi (pc := 22) C hM hl.1 yv_X1_lowestNext q3_230 (by decide) ce_77 rfl (w_X1_lowestNext l G x v5 (a2 - v6) a3 a4 σ _ h) rfl rfl ⟨⟨by decide, by decide⟩, by decide, by decide⟩ (Nat.le_of_ble_eq_true rfl) dX1_subjectAt_22 (fun r22 s22 H locs h hM => ?_)
      refine lv_istore (pc := 25) (lv' := [(5, .int r22), (0, .ref (g_ad G 77)), (1, .int a1), (2, .int a2), (3, .int a3), (4, .int a4), (6, .int v6)]) hx hb dX1_subjectAt_25 hl (by decide) rfl (fun ls hl => ?_)
      refine lv_iinc (pc := 27) (v := (v6 + 1)) (lv' := [(6, .int (v6 + 1)), (5, .int r22), (0, .ref (g_ad G 77)), (1, .int a1), (2, .int a2), (3, .int a3), (4, .int a4)]) hx hb dX1_subjectAt_27 hl (k := 6) rfl (by rfl) (by decide) rfl (fun ls hl => ?_)
      refine lv_goto (pc := 30) (tgt := 6) hx hb dX1_subjectAt_30 (by decide) ?_
      exact h _ _ _ hM (lv_sub hl [2, 3, 4, 5, 6, 1, 0] rfl))
  refine lv_iconst (pc := 0) (v := 0) hx hb dX1_subjectAt_0 (by decide) ?_
  refine lv_istore (pc := 1) (lv' := [(5, .int 0), (0, .ref (g_ad G 77)), (1, .int a1), (2, .int a2), (3, .int a3), (4, .int a4)]) hx hb dX1_subjectAt_1 hl (by decide) rfl (fun ls hl => ?_)
  refine lv_iconst (pc := 3) (v := 1) hx hb dX1_subjectAt_3 (by decide) ?_
  refine lv_istore (pc := 4) (lv' := [(6, .int 1), (5, .int 0), (0, .ref (g_ad G 77)), (1, .int a1), (2, .int a2), (3, .int a3), (4, .int a4)]) hx hb dX1_subjectAt_4 hl (by decide) rfl (fun ls hl => ?_)
  exact h _ _ _ hM (lv_sub hl [2, 3, 4, 5, 6, 1, 0] rfl)
abbrev rm_X1_endOfUse : Room := { frames := 3, cells := 0, slots := 0, locals := 71 }
theorem dX1_endOfUse_0 : decode cX1_endOfUse 0 = .ok (.sipush 1001, 3) := by decide +kernel
theorem dX1_endOfUse_3 : decode cX1_endOfUse 3 = .ok (.istore 4, 2) := by decide +kernel
theorem dX1_endOfUse_5 : decode cX1_endOfUse 5 = .ok (.iconst 0, 1) := by decide +kernel
theorem dX1_endOfUse_6 : decode cX1_endOfUse 6 = .ok (.istore 5, 2) := by decide +kernel
theorem dX1_endOfUse_8 : decode cX1_endOfUse 8 = .ok (.iload 5, 2) := by decide +kernel
theorem dX1_endOfUse_10 : decode cX1_endOfUse 10 = .ok (.aload_n 0, 1) := by decide +kernel
theorem dX1_endOfUse_11 : decode cX1_endOfUse 11 = .ok (.getfield 15, 3) := by decide +kernel
theorem dX1_endOfUse_14 : decode cX1_endOfUse 14 = .ok (.getfield 23, 3) := by decide +kernel
theorem dX1_endOfUse_17 : decode cX1_endOfUse 17 = .ok (.if_icmp .ge 51, 3) := by decide +kernel
theorem dX1_endOfUse_20 : decode cX1_endOfUse 20 = .ok (.aload_n 0, 1) := by decide +kernel
theorem dX1_endOfUse_21 : decode cX1_endOfUse 21 = .ok (.getfield 15, 3) := by decide +kernel
theorem dX1_endOfUse_24 : decode cX1_endOfUse 24 = .ok (.iload 5, 2) := by decide +kernel
theorem dX1_endOfUse_26 : decode cX1_endOfUse 26 = .ok (.iconst 4, 1) := by decide +kernel
theorem dX1_endOfUse_27 : decode cX1_endOfUse 27 = .ok (.invokevirtual 33, 3) := by decide +kernel
theorem dX1_endOfUse_30 : decode cX1_endOfUse 30 = .ok (.iconst 1, 1) := by decide +kernel
theorem dX1_endOfUse_31 : decode cX1_endOfUse 31 = .ok (.iadd, 1) := by decide +kernel
theorem dX1_endOfUse_32 : decode cX1_endOfUse 32 = .ok (.istore 6, 2) := by decide +kernel
theorem dX1_endOfUse_34 : decode cX1_endOfUse 34 = .ok (.iload 6, 2) := by decide +kernel
theorem dX1_endOfUse_36 : decode cX1_endOfUse 36 = .ok (.iload_n 3, 1) := by decide +kernel
theorem dX1_endOfUse_37 : decode cX1_endOfUse 37 = .ok (.if_icmp .le 25, 3) := by decide +kernel
theorem dX1_endOfUse_40 : decode cX1_endOfUse 40 = .ok (.iload 6, 2) := by decide +kernel
theorem dX1_endOfUse_42 : decode cX1_endOfUse 42 = .ok (.iload 4, 2) := by decide +kernel
theorem dX1_endOfUse_44 : decode cX1_endOfUse 44 = .ok (.if_icmp .ge 18, 3) := by decide +kernel
theorem dX1_endOfUse_47 : decode cX1_endOfUse 47 = .ok (.aload_n 0, 1) := by decide +kernel
theorem dX1_endOfUse_48 : decode cX1_endOfUse 48 = .ok (.iload_n 1, 1) := by decide +kernel
theorem dX1_endOfUse_49 : decode cX1_endOfUse 49 = .ok (.iload_n 2, 1) := by decide +kernel
theorem dX1_endOfUse_50 : decode cX1_endOfUse 50 = .ok (.iload 6, 2) := by decide +kernel
theorem dX1_endOfUse_52 : decode cX1_endOfUse 52 = .ok (.invokevirtual 19, 3) := by decide +kernel
theorem dX1_endOfUse_55 : decode cX1_endOfUse 55 = .ok (.ifCond .ge 7, 3) := by decide +kernel
theorem dX1_endOfUse_58 : decode cX1_endOfUse 58 = .ok (.iload 6, 2) := by decide +kernel
theorem dX1_endOfUse_60 : decode cX1_endOfUse 60 = .ok (.istore 4, 2) := by decide +kernel
theorem dX1_endOfUse_62 : decode cX1_endOfUse 62 = .ok (.iinc 5 1, 3) := by decide +kernel
theorem dX1_endOfUse_65 : decode cX1_endOfUse 65 = .ok (.goto (-57), 3) := by decide +kernel
theorem dX1_endOfUse_68 : decode cX1_endOfUse 68 = .ok (.iload 4, 2) := by decide +kernel
theorem dX1_endOfUse_70 : decode cX1_endOfUse 70 = .ok (.ireturn, 1) := by decide +kernel
set_option maxHeartbeats 4000000 in
set_option maxRecDepth 100000 in
theorem w_X1_endOfUse (l : Launch) (G : GP) (x : XP) (a1 : Int32) (a2 : Int32) (a3 : Int32) (σ : Sto) (P : Int32 → Sto → Prop) (h : D_X1_endOfUse a1 a2 a3 σ P) : g_Meti l yX1_endOfUse cX1_endOfUse 7 (some .int) rm_X1_endOfUse G x [.ref (g_ad G 77), .int a1, .int a2, .int a3] σ P := by
  unfold D_X1_endOfUse at h
  refine g_ofWi (by decide +kernel) (Nat.le_of_ble_eq_true rfl) ?_
  intro p e s m args below meth c Q ls C hM hl hret
  have hx := C.1
  have hb := C.2.1
  have hl : lv_has ls 7 [(0, .ref (g_ad G 77)), (1, .int a1), (2, .int a2), (3, .int a3)] := hl
  have h := h (fun (v4 : Int32) (v5 : Int32) (σ : Sto) => ∀ (H : Heap) (locs : List Loc) (ls : Array Slot), g_M G x σ s H locs → lv_has ls 7 [(0, .ref (g_ad G 77)), (1, .int a1), (2, .int a2), (3, .int a3), (4, .int v4), (5, .int v5)] → W p l e rm_X1_endOfUse s m args below meth c H locs 0 0 Q (F0 m 8 ls []))
  have h := h (by
    intro v4 v5 σ h  H locs ls hM hl
    refine lv_iload (pc := 8) hx hb dX1_endOfUse_8 (lv_at hl 5 rfl) ?_
    refine lv_aload_n (pc := 10) hx hb dX1_endOfUse_10 rfl (lv_at hl 0 rfl) ?_
    refine g_get (pc := 11) (v := .ref (g_ad G 3)) C hM (by decide) ce_77 fl_RX1_15 rfl dX1_endOfUse_11 ?_
    refine g_get (pc := 14) (v := .int (σ 3 1)) C hM (by decide) ce_3 fl_RX1_23 rfl dX1_endOfUse_14 ?_
    refine lv_icmp_ge (pc := 17) (tgt := 68) hx hb dX1_endOfUse_17 (by decide) (fun c17 => ?_) (fun c17 => ?_)
    · have h := h.1 c17
      refine lv_iload (pc := 68) hx hb dX1_endOfUse_68 (lv_at hl 4 rfl) ?_
      exact hret 70 _ _ _ _ _ dX1_endOfUse_70 (by rfl) h hM
    · have h := h.2 c17
      refine lv_aload_n (pc := 20) hx hb dX1_endOfUse_20 rfl (lv_at hl 0 rfl) ?_
      refine g_get (pc := 21) (v := .ref (g_ad G 3)) C hM (by decide) ce_77 fl_RX1_15 rfl dX1_endOfUse_21 ?_
      refine lv_iload (pc := 24) hx hb dX1_endOfUse_24 (lv_at hl 5 rfl) ?_
      refine lv_iconst (pc := 26) (v := 4) hx hb dX1_endOfUse_26 (by decide) ?_
      refine g_cVi (pc := 27) C hM hl.1 yv_X2_cell q3_210 (by decide) ce_3 rfl (w_X2_cell l G x 3 v5 4 σ _ h) rfl rfl ⟨⟨by decide, by decide⟩, by decide, by decide⟩ (Nat.le_of_ble_eq_true rfl) dX1_endOfUse_27 (fun r27 s27 H locs h hM => ?_)
      refine lv_iconst (pc := 30) (v := 1) hx hb dX1_endOfUse_30 (by decide) ?_
      refine lv_iadd (pc := 31) hx hb dX1_endOfUse_31 ?_
      refine lv_istore (pc := 32) (lv' := [(6, .int (r27 + 1)), (0, .ref (g_ad G 77)), (1, .int a1), (2, .int a2), (3, .int a3), (4, .int v4), (5, .int v5)]) hx hb dX1_endOfUse_32 hl (by decide) rfl (fun ls hl => ?_)
      refine lv_iload (pc := 34) hx hb dX1_endOfUse_34 (lv_at hl 0 rfl) ?_
      refine lv_iload_n (pc := 36) hx hb dX1_endOfUse_36 rfl (lv_at hl 4 rfl) ?_
      refine lv_icmp_le (pc := 37) (tgt := 62) hx hb dX1_endOfUse_37 (by decide) (fun c37 => ?_) (fun c37 => ?_)
      · have h := h.1 c37
        refine lv_iinc (pc := 62) (v := (v5 + 1)) (lv' := [(5, .int (v5 + 1)), (6, .int (r27 + 1)), (0, .ref (g_ad G 77)), (1, .int a1), (2, .int a2), (3, .int a3), (4, .int v4)]) hx hb dX1_endOfUse_62 hl (k := 6) rfl (by rfl) (by decide) rfl (fun ls hl => ?_)
        refine lv_goto (pc := 65) (tgt := 8) hx hb dX1_endOfUse_65 (by decide) ?_
        exact h _ _ _ hM (lv_sub hl [2, 3, 4, 5, 6, 0] rfl)
      · have h := h.2 c37
        refine lv_iload (pc := 40) hx hb dX1_endOfUse_40 (lv_at hl 0 rfl) ?_
        refine lv_iload (pc := 42) hx hb dX1_endOfUse_42 (lv_at hl 5 rfl) ?_
        refine lv_icmp_ge (pc := 44) (tgt := 62) hx hb dX1_endOfUse_44 (by decide) (fun c44 => ?_) (fun c44 => ?_)
        · have h := h.1 c44
          refine lv_iinc (pc := 62) (v := (v5 + 1)) (lv' := [(5, .int (v5 + 1)), (6, .int (r27 + 1)), (0, .ref (g_ad G 77)), (1, .int a1), (2, .int a2), (3, .int a3), (4, .int v4)]) hx hb dX1_endOfUse_62 hl (k := 6) rfl (by rfl) (by decide) rfl (fun ls hl => ?_)
          refine lv_goto (pc := 65) (tgt := 8) hx hb dX1_endOfUse_65 (by decide) ?_
          exact h _ _ _ hM (lv_sub hl [2, 3, 4, 5, 6, 0] rfl)
        · have h := h.2 c44
          refine lv_aload_n (pc := 47) hx hb dX1_endOfUse_47 rfl (lv_at hl 1 rfl) ?_
          refine lv_iload_n (pc := 48) hx hb dX1_endOfUse_48 rfl (lv_at hl 2 rfl) ?_
          refine lv_iload_n (pc := 49) hx hb dX1_endOfUse_49 rfl (lv_at hl 3 rfl) ?_
          refine lv_iload (pc := 50) hx hb dX1_endOfUse_50 (lv_at hl 0 rfl) ?_
          refine g_cVi (pc := 52) C hM hl.1 yv_X1_fewest q3_202 (by decide) ce_77 rfl (w_X1_fewest l G x a1 a2 (r27 + 1) s27 _ h) rfl rfl ⟨⟨by decide, by decide⟩, by decide, by decide⟩ (Nat.le_of_ble_eq_true rfl) dX1_endOfUse_52 (fun r52 s52 H locs h hM => ?_)
          refine lv_if_ge (pc := 55) (tgt := 62) hx hb dX1_endOfUse_55 (by decide) (fun c55 => ?_) (fun c55 => ?_)
          · have h := h.1 c55
            refine lv_iinc (pc := 62) (v := (v5 + 1)) (lv' := [(5, .int (v5 + 1)), (6, .int (r27 + 1)), (0, .ref (g_ad G 77)), (1, .int a1), (2, .int a2), (3, .int a3), (4, .int v4)]) hx hb dX1_endOfUse_62 hl (k := 6) rfl (by rfl) (by decide) rfl (fun ls hl => ?_)
            refine lv_goto (pc := 65) (tgt := 8) hx hb dX1_endOfUse_65 (by decide) ?_
            exact h _ _ _ hM (lv_sub hl [2, 3, 4, 5, 6, 0] rfl)
          · have h := h.2 c55
            refine lv_iload (pc := 58) hx hb dX1_endOfUse_58 (lv_at hl 0 rfl) ?_
            refine lv_istore (pc := 60) (lv' := [(4, .int (r27 + 1)), (6, .int (r27 + 1)), (0, .ref (g_ad G 77)), (1, .int a1), (2, .int a2), (3, .int a3), (5, .int v5)]) hx hb dX1_endOfUse_60 hl (by decide) rfl (fun ls hl => ?_)
            refine lv_iinc (pc := 62) (v := (v5 + 1)) (lv' := [(5, .int (v5 + 1)), (4, .int (r27 + 1)), (6, .int (r27 + 1)), (0, .ref (g_ad G 77)), (1, .int a1), (2, .int a2), (3, .int a3)]) hx hb dX1_endOfUse_62 hl (k := 6) rfl (by rfl) (by decide) rfl (fun ls hl => ?_)
            refine lv_goto (pc := 65) (tgt := 8) hx hb dX1_endOfUse_65 (by decide) ?_
            exact h _ _ _ hM (lv_sub hl [3, 4, 5, 6, 1, 0] rfl))
  refine lv_sipush (pc := 0) (v := 1001) hx hb dX1_endOfUse_0 (by decide) ?_
  refine lv_istore (pc := 3) (lv' := [(4, .int 1001), (0, .ref (g_ad G 77)), (1, .int a1), (2, .int a2), (3, .int a3)]) hx hb dX1_endOfUse_3 hl (by decide) rfl (fun ls hl => ?_)
  refine lv_iconst (pc := 5) (v := 0) hx hb dX1_endOfUse_5 (by decide) ?_
  refine lv_istore (pc := 6) (lv' := [(5, .int 0), (4, .int 1001), (0, .ref (g_ad G 77)), (1, .int a1), (2, .int a2), (3, .int a3)]) hx hb dX1_endOfUse_6 hl (by decide) rfl (fun ls hl => ?_)
  exact h _ _ _ hM (lv_sub hl [2, 3, 4, 5, 1, 0] rfl)
abbrev rm_X5_place : Room := { frames := 3, cells := 0, slots := 0, locals := 67 }
theorem dX5_place_0 : decode cX5_place 0 = .ok (.aload_n 0, 1) := by decide +kernel
theorem dX5_place_1 : decode cX5_place 1 = .ok (.getfield 28, 3) := by decide +kernel
theorem dX5_place_4 : decode cX5_place 4 = .ok (.istore_n 2, 1) := by decide +kernel
theorem dX5_place_5 : decode cX5_place 5 = .ok (.aload_n 0, 1) := by decide +kernel
theorem dX5_place_6 : decode cX5_place 6 = .ok (.dup, 1) := by decide +kernel
theorem dX5_place_7 : decode cX5_place 7 = .ok (.getfield 28, 3) := by decide +kernel
theorem dX5_place_10 : decode cX5_place 10 = .ok (.iconst 1, 1) := by decide +kernel
theorem dX5_place_11 : decode cX5_place 11 = .ok (.iadd, 1) := by decide +kernel
theorem dX5_place_12 : decode cX5_place 12 = .ok (.putfield 28, 3) := by decide +kernel
theorem dX5_place_15 : decode cX5_place 15 = .ok (.aload_n 0, 1) := by decide +kernel
theorem dX5_place_16 : decode cX5_place 16 = .ok (.getfield 9, 3) := by decide +kernel
theorem dX5_place_19 : decode cX5_place 19 = .ok (.iload_n 1, 1) := by decide +kernel
theorem dX5_place_20 : decode cX5_place 20 = .ok (.iload_n 2, 1) := by decide +kernel
theorem dX5_place_21 : decode cX5_place 21 = .ok (.iastore, 1) := by decide +kernel
theorem dX5_place_22 : decode cX5_place 22 = .ok (.aload_n 0, 1) := by decide +kernel
theorem dX5_place_23 : decode cX5_place 23 = .ok (.getfield 15, 3) := by decide +kernel
theorem dX5_place_26 : decode cX5_place 26 = .ok (.iload_n 2, 1) := by decide +kernel
theorem dX5_place_27 : decode cX5_place 27 = .ok (.iload_n 1, 1) := by decide +kernel
theorem dX5_place_28 : decode cX5_place 28 = .ok (.iastore, 1) := by decide +kernel
theorem dX5_place_29 : decode cX5_place 29 = .ok (.aload_n 0, 1) := by decide +kernel
theorem dX5_place_30 : decode cX5_place 30 = .ok (.getfield 21, 3) := by decide +kernel
theorem dX5_place_33 : decode cX5_place 33 = .ok (.aload_n 0, 1) := by decide +kernel
theorem dX5_place_34 : decode cX5_place 34 = .ok (.getfield 24, 3) := by decide +kernel
theorem dX5_place_37 : decode cX5_place 37 = .ok (.getfield 35, 3) := by decide +kernel
theorem dX5_place_40 : decode cX5_place 40 = .ok (.iload_n 1, 1) := by decide +kernel
theorem dX5_place_41 : decode cX5_place 41 = .ok (.iconst 0, 1) := by decide +kernel
theorem dX5_place_42 : decode cX5_place 42 = .ok (.invokevirtual 44, 3) := by decide +kernel
theorem dX5_place_45 : decode cX5_place 45 = .ok (.dup2, 1) := by decide +kernel
theorem dX5_place_46 : decode cX5_place 46 = .ok (.iaload, 1) := by decide +kernel
theorem dX5_place_47 : decode cX5_place 47 = .ok (.iconst 1, 1) := by decide +kernel
theorem dX5_place_48 : decode cX5_place 48 = .ok (.iload_n 2, 1) := by decide +kernel
theorem dX5_place_49 : decode cX5_place 49 = .ok (.ishl, 1) := by decide +kernel
theorem dX5_place_50 : decode cX5_place 50 = .ok (.ior, 1) := by decide +kernel
theorem dX5_place_51 : decode cX5_place 51 = .ok (.iastore, 1) := by decide +kernel
theorem dX5_place_52 : decode cX5_place 52 = .ok (.aload_n 0, 1) := by decide +kernel
theorem dX5_place_53 : decode cX5_place 53 = .ok (.getfield 24, 3) := by decide +kernel
theorem dX5_place_56 : decode cX5_place 56 = .ok (.getfield 35, 3) := by decide +kernel
theorem dX5_place_59 : decode cX5_place 59 = .ok (.iload_n 1, 1) := by decide +kernel
theorem dX5_place_60 : decode cX5_place 60 = .ok (.iconst 1, 1) := by decide +kernel
theorem dX5_place_61 : decode cX5_place 61 = .ok (.invokevirtual 44, 3) := by decide +kernel
theorem dX5_place_64 : decode cX5_place 64 = .ok (.iconst 1, 1) := by decide +kernel
theorem dX5_place_65 : decode cX5_place 65 = .ok (.if_icmp .ne 15, 3) := by decide +kernel
theorem dX5_place_68 : decode cX5_place 68 = .ok (.aload_n 0, 1) := by decide +kernel
theorem dX5_place_69 : decode cX5_place 69 = .ok (.dup, 1) := by decide +kernel
theorem dX5_place_70 : decode cX5_place 70 = .ok (.getfield 32, 3) := by decide +kernel
theorem dX5_place_73 : decode cX5_place 73 = .ok (.iconst 1, 1) := by decide +kernel
theorem dX5_place_74 : decode cX5_place 74 = .ok (.iload_n 2, 1) := by decide +kernel
theorem dX5_place_75 : decode cX5_place 75 = .ok (.ishl, 1) := by decide +kernel
theorem dX5_place_76 : decode cX5_place 76 = .ok (.ior, 1) := by decide +kernel
theorem dX5_place_77 : decode cX5_place 77 = .ok (.putfield 32, 3) := by decide +kernel
theorem dX5_place_80 : decode cX5_place 80 = .ok (.iload_n 2, 1) := by decide +kernel
theorem dX5_place_81 : decode cX5_place 81 = .ok (.bipush 6, 2) := by decide +kernel
theorem dX5_place_83 : decode cX5_place 83 = .ok (.imul, 1) := by decide +kernel
theorem dX5_place_84 : decode cX5_place 84 = .ok (.istore_n 3, 1) := by decide +kernel
theorem dX5_place_85 : decode cX5_place 85 = .ok (.iconst 0, 1) := by decide +kernel
theorem dX5_place_86 : decode cX5_place 86 = .ok (.istore 4, 2) := by decide +kernel
theorem dX5_place_88 : decode cX5_place 88 = .ok (.iload 4, 2) := by decide +kernel
theorem dX5_place_90 : decode cX5_place 90 = .ok (.bipush 6, 2) := by decide +kernel
theorem dX5_place_92 : decode cX5_place 92 = .ok (.if_icmp .ge 20, 3) := by decide +kernel
theorem dX5_place_95 : decode cX5_place 95 = .ok (.aload_n 0, 1) := by decide +kernel
theorem dX5_place_96 : decode cX5_place 96 = .ok (.getfield 18, 3) := by decide +kernel
theorem dX5_place_99 : decode cX5_place 99 = .ok (.iload_n 3, 1) := by decide +kernel
theorem dX5_place_100 : decode cX5_place 100 = .ok (.iload 4, 2) := by decide +kernel
theorem dX5_place_102 : decode cX5_place 102 = .ok (.iadd, 1) := by decide +kernel
theorem dX5_place_103 : decode cX5_place 103 = .ok (.ldc 52, 2) := by decide +kernel
theorem dX5_place_105 : decode cX5_place 105 = .ok (.iastore, 1) := by decide +kernel
theorem dX5_place_106 : decode cX5_place 106 = .ok (.iinc 4 1, 3) := by decide +kernel
theorem dX5_place_109 : decode cX5_place 109 = .ok (.goto (-21), 3) := by decide +kernel
theorem dX5_place_112 : decode cX5_place 112 = .ok (.aload_n 0, 1) := by decide +kernel
theorem dX5_place_113 : decode cX5_place 113 = .ok (.getfield 24, 3) := by decide +kernel
theorem dX5_place_116 : decode cX5_place 116 = .ok (.getfield 35, 3) := by decide +kernel
theorem dX5_place_119 : decode cX5_place 119 = .ok (.iload_n 1, 1) := by decide +kernel
theorem dX5_place_120 : decode cX5_place 120 = .ok (.iconst 3, 1) := by decide +kernel
theorem dX5_place_121 : decode cX5_place 121 = .ok (.invokevirtual 44, 3) := by decide +kernel
theorem dX5_place_124 : decode cX5_place 124 = .ok (.istore 4, 2) := by decide +kernel
theorem dX5_place_126 : decode cX5_place 126 = .ok (.iconst 0, 1) := by decide +kernel
theorem dX5_place_127 : decode cX5_place 127 = .ok (.istore 5, 2) := by decide +kernel
theorem dX5_place_129 : decode cX5_place 129 = .ok (.iload 5, 2) := by decide +kernel
theorem dX5_place_131 : decode cX5_place 131 = .ok (.iload 4, 2) := by decide +kernel
theorem dX5_place_133 : decode cX5_place 133 = .ok (.if_icmp .ge 46, 3) := by decide +kernel
theorem dX5_place_136 : decode cX5_place 136 = .ok (.aload_n 0, 1) := by decide +kernel
theorem dX5_place_137 : decode cX5_place 137 = .ok (.getfield 18, 3) := by decide +kernel
theorem dX5_place_140 : decode cX5_place 140 = .ok (.iload_n 3, 1) := by decide +kernel
theorem dX5_place_141 : decode cX5_place 141 = .ok (.aload_n 0, 1) := by decide +kernel
theorem dX5_place_142 : decode cX5_place 142 = .ok (.getfield 24, 3) := by decide +kernel
theorem dX5_place_145 : decode cX5_place 145 = .ok (.getfield 35, 3) := by decide +kernel
theorem dX5_place_148 : decode cX5_place 148 = .ok (.iload_n 1, 1) := by decide +kernel
theorem dX5_place_149 : decode cX5_place 149 = .ok (.iload 5, 2) := by decide +kernel
theorem dX5_place_151 : decode cX5_place 151 = .ok (.iconst 0, 1) := by decide +kernel
theorem dX5_place_152 : decode cX5_place 152 = .ok (.invokevirtual 53, 3) := by decide +kernel
theorem dX5_place_155 : decode cX5_place 155 = .ok (.iadd, 1) := by decide +kernel
theorem dX5_place_156 : decode cX5_place 156 = .ok (.dup2, 1) := by decide +kernel
theorem dX5_place_157 : decode cX5_place 157 = .ok (.iaload, 1) := by decide +kernel
theorem dX5_place_158 : decode cX5_place 158 = .ok (.aload_n 0, 1) := by decide +kernel
theorem dX5_place_159 : decode cX5_place 159 = .ok (.getfield 24, 3) := by decide +kernel
theorem dX5_place_162 : decode cX5_place 162 = .ok (.getfield 35, 3) := by decide +kernel
theorem dX5_place_165 : decode cX5_place 165 = .ok (.iload_n 1, 1) := by decide +kernel
theorem dX5_place_166 : decode cX5_place 166 = .ok (.iload 5, 2) := by decide +kernel
theorem dX5_place_168 : decode cX5_place 168 = .ok (.invokevirtual 57, 3) := by decide +kernel
theorem dX5_place_171 : decode cX5_place 171 = .ok (.iand, 1) := by decide +kernel
theorem dX5_place_172 : decode cX5_place 172 = .ok (.iastore, 1) := by decide +kernel
theorem dX5_place_173 : decode cX5_place 173 = .ok (.iinc 5 1, 3) := by decide +kernel
theorem dX5_place_176 : decode cX5_place 176 = .ok (.goto (-47), 3) := by decide +kernel
theorem dX5_place_179 : decode cX5_place 179 = .ok (.return_, 1) := by decide +kernel
set_option maxHeartbeats 4000000 in
set_option maxRecDepth 100000 in
theorem w_X5_place (l : Launch) (G : GP) (x : XP) (a1 : Int32) (σ : Sto) (P : Sto → Prop) (h : D_X5_place a1 σ P) : g_Metv l yX5_place cX5_place 6 rm_X5_place G x [.ref (g_ad G 65), .int a1] σ P := by
  unfold D_X5_place at h
  refine g_ofWv (by decide +kernel) (Nat.le_of_ble_eq_true rfl) ?_
  intro p e s m args below meth c Q ls C hM hl hret
  have hx := C.1
  have hb := C.2.1
  have hl : lv_has ls 6 [(0, .ref (g_ad G 65)), (1, .int a1)] := hl
  have h := h (fun (v3 : Int32) (v4 : Int32) (σ : Sto) => ∀ (H : Heap) (locs : List Loc) (ls : Array Slot), g_M G x σ s H locs → lv_has ls 6 [(0, .ref (g_ad G 65)), (1, .int a1), (3, .int v3), (4, .int v4)] → W p l e rm_X5_place s m args below meth c H locs 0 0 Q (F0 m 88 ls [])) (fun (v3 : Int32) (v4 : Int32) (v5 : Int32) (σ : Sto) => ∀ (H : Heap) (locs : List Loc) (ls : Array Slot), g_M G x σ s H locs → lv_has ls 6 [(0, .ref (g_ad G 65)), (1, .int a1), (3, .int v3), (4, .int v4), (5, .int v5)] → W p l e rm_X5_place s m args below meth c H locs 0 0 Q (F0 m 129 ls []))
  have h := h (by
    intro v3 v4 σ h  H locs ls hM hl
    refine lv_iload (pc := 88) hx hb dX5_place_88 (lv_at hl 3 rfl) ?_
    refine lv_bipush (pc := 90) (v := 6) hx hb dX5_place_90 (by decide) ?_
    refine lv_icmp_ge (pc := 92) (tgt := 112) hx hb dX5_place_92 (by decide) (fun c92 => ?_) (fun c92 => ?_)
    · have h := h.1 c92
      refine lv_aload_n (pc := 112) hx hb dX5_place_112 rfl (lv_at hl 0 rfl) ?_
      refine g_get (pc := 113) (v := .ref (g_ad G 0)) C hM (by decide) ce_65 fl_RX5_24 rfl dX5_place_113 ?_
      refine g_get (pc := 116) (v := .ref (g_ad G 1)) C hM (by decide) ce_0 fl_RX5_35 rfl dX5_place_116 ?_
      refine lv_iload_n (pc := 119) hx hb dX5_place_119 rfl (lv_at hl 1 rfl) ?_
      refine lv_iconst (pc := 120) (v := 3) hx hb dX5_place_120 (by decide) ?_
      refine g_cVi (pc := 121) C hM hl.1 yv_X6_cell q4_40 (by decide) ce_1 rfl (w_X6_cell l G x 1 a1 3 σ _ h) rfl rfl ⟨⟨by decide, by decide⟩, by decide, by decide⟩ (Nat.le_of_ble_eq_true rfl) dX5_place_121 (fun r121 s121 H locs h hM => ?_)
      refine lv_istore (pc := 124) (lv' := [(4, .int r121), (0, .ref (g_ad G 65)), (1, .int a1), (3, .int v3)]) hx hb dX5_place_124 hl (by decide) rfl (fun ls hl => ?_)
      refine lv_iconst (pc := 126) (v := 0) hx hb dX5_place_126 (by decide) ?_
      refine lv_istore (pc := 127) (lv' := [(5, .int 0), (4, .int r121), (0, .ref (g_ad G 65)), (1, .int a1), (3, .int v3)]) hx hb dX5_place_127 hl (by decide) rfl (fun ls hl => ?_)
      exact h _ _ _ hM (lv_sub hl [2, 3, 4, 1, 0] rfl)
    · have h := h.2 c92
      refine lv_aload_n (pc := 95) hx hb dX5_place_95 rfl (lv_at hl 0 rfl) ?_
      refine g_get (pc := 96) (v := .ref (g_ad G 68)) C hM (by decide) ce_65 fl_RX5_18 rfl dX5_place_96 ?_
      refine lv_iload_n (pc := 99) hx hb dX5_place_99 rfl (lv_at hl 2 rfl) ?_
      refine lv_iload (pc := 100) hx hb dX5_place_100 (lv_at hl 3 rfl) ?_
      refine lv_iadd (pc := 102) hx hb dX5_place_102 ?_
      refine lv_ldc (pc := 103) (v := 65535) hx hb C.2.2.2.1 (C.2.2.2.2.1 _ q4_45) dX5_place_103 ?_
      obtain ⟨hc, h⟩ := h
      refine g_iastE (pc := 105) C hM (by decide) ce_68 hc rfl dX5_place_105 (fun s105 es105 H locs hM => ?_)
      have h := h s105 es105
      refine lv_iinc (pc := 106) (v := (v4 + 1)) (lv' := [(4, .int (v4 + 1)), (0, .ref (g_ad G 65)), (1, .int a1), (3, .int v3)]) hx hb dX5_place_106 hl (k := 3) rfl (by rfl) (by decide) rfl (fun ls hl => ?_)
      refine lv_goto (pc := 109) (tgt := 88) hx hb dX5_place_109 (by decide) ?_
      exact h _ _ _ hM (lv_sub hl [1, 2, 3, 0] rfl))
  have h := h (by
    intro v3 v4 v5 σ h  H locs ls hM hl
    refine lv_iload (pc := 129) hx hb dX5_place_129 (lv_at hl 4 rfl) ?_
    refine lv_iload (pc := 131) hx hb dX5_place_131 (lv_at hl 3 rfl) ?_
    refine lv_icmp_ge (pc := 133) (tgt := 179) hx hb dX5_place_133 (by decide) (fun c133 => ?_) (fun c133 => ?_)
    · have h := h.1 c133
      exact hret 179 _ _ _ _ dX5_place_179 h hM
    · have h := h.2 c133
      refine lv_aload_n (pc := 136) hx hb dX5_place_136 rfl (lv_at hl 0 rfl) ?_
      refine g_get (pc := 137) (v := .ref (g_ad G 68)) C hM (by decide) ce_65 fl_RX5_18 rfl dX5_place_137 ?_
      refine lv_iload_n (pc := 140) hx hb dX5_place_140 rfl (lv_at hl 2 rfl) ?_
      refine lv_aload_n (pc := 141) hx hb dX5_place_141 rfl (lv_at hl 0 rfl) ?_
      refine g_get (pc := 142) (v := .ref (g_ad G 0)) C hM (by decide) ce_65 fl_RX5_24 rfl dX5_place_142 ?_
      refine g_get (pc := 145) (v := .ref (g_ad G 1)) C hM (by decide) ce_0 fl_RX5_35 rfl dX5_place_145 ?_
      refine lv_iload_n (pc := 148) hx hb dX5_place_148 rfl (lv_at hl 1 rfl) ?_
      refine lv_iload (pc := 149) hx hb dX5_place_149 (lv_at hl 4 rfl) ?_
      refine lv_iconst (pc := 151) (v := 0) hx hb dX5_place_151 (by decide) ?_
      refine g_cVi (pc := 152) C hM hl.1 yv_X6_conditionCell q4_46 (by decide) ce_1 rfl (w_X6_conditionCell l G x 1 a1 v5 0 σ _ h) rfl rfl ⟨⟨by decide, by decide⟩, by decide, by decide⟩ (Nat.le_of_ble_eq_true rfl) dX5_place_152 (fun r152 s152 H locs h hM => ?_)
      refine lv_iadd (pc := 155) hx hb dX5_place_155 ?_
      refine lv_dup2_11 (pc := 156) hx hb dX5_place_156 rfl rfl ?_
      obtain ⟨hc, h⟩ := h
      refine g_ialdK (pc := 157) C hM (by decide) ce_68 hc rfl dX5_place_157 ?_
      refine lv_aload_n (pc := 158) hx hb dX5_place_158 rfl (lv_at hl 0 rfl) ?_
      refine g_get (pc := 159) (v := .ref (g_ad G 0)) C hM (by decide) ce_65 fl_RX5_24 rfl dX5_place_159 ?_
      refine g_get (pc := 162) (v := .ref (g_ad G 1)) C hM (by decide) ce_0 fl_RX5_35 rfl dX5_place_162 ?_
      refine lv_iload_n (pc := 165) hx hb dX5_place_165 rfl (lv_at hl 1 rfl) ?_
      refine lv_iload (pc := 166) hx hb dX5_place_166 (lv_at hl 4 rfl) ?_
      refine g_cVi (pc := 168) C hM hl.1 yv_X6_valuesOf q4_47 (by decide) ce_1 rfl (w_X6_valuesOf l G x 1 a1 v5 s152 _ h) rfl rfl ⟨⟨by decide, by decide⟩, by decide, by decide⟩ (Nat.le_of_ble_eq_true rfl) dX5_place_168 (fun r168 s168 H locs h hM => ?_)
      refine lv_iand (pc := 171) hx hb dX5_place_171 ?_
      obtain ⟨hc, h⟩ := h
      refine g_iastE (pc := 172) C hM (by decide) ce_68 hc rfl dX5_place_172 (fun s172 es172 H locs hM => ?_)
      have h := h s172 es172
      refine lv_iinc (pc := 173) (v := (v5 + 1)) (lv' := [(5, .int (v5 + 1)), (0, .ref (g_ad G 65)), (1, .int a1), (3, .int v3), (4, .int v4)]) hx hb dX5_place_173 hl (k := 4) rfl (by rfl) (by decide) rfl (fun ls hl => ?_)
      refine lv_goto (pc := 176) (tgt := 129) hx hb dX5_place_176 (by decide) ?_
      exact h _ _ _ hM (lv_sub hl [1, 2, 3, 4, 0] rfl))
  refine lv_aload_n (pc := 0) hx hb dX5_place_0 rfl (lv_at hl 0 rfl) ?_
  refine g_get (pc := 1) (v := .int (σ 65 6)) C hM (by decide) ce_65 fl_RX5_28 rfl dX5_place_1 ?_
  refine lv_istore_n (pc := 4) (lv' := [(2, .int (σ 65 6)), (0, .ref (g_ad G 65)), (1, .int a1)]) hx hb dX5_place_4 rfl hl (by decide) rfl (fun ls hl => ?_)
  refine lv_aload_n (pc := 5) hx hb dX5_place_5 rfl (lv_at hl 1 rfl) ?_
  refine lv_dup (pc := 6) hx hb dX5_place_6 rfl ?_
  refine g_get (pc := 7) (v := .int (σ 65 6)) C hM (by decide) ce_65 fl_RX5_28 rfl dX5_place_7 ?_
  refine lv_iconst (pc := 10) (v := 1) hx hb dX5_place_10 (by decide) ?_
  refine lv_iadd (pc := 11) hx hb dX5_place_11 ?_
  refine g_putE (pc := 12) C hM (by decide) ce_65 fp_RX5_28 rfl rfl (Nat.le_of_ble_eq_true rfl) rfl dX5_place_12 (fun s12 es12 H locs hM => ?_)
  have h := h s12 es12
  refine lv_aload_n (pc := 15) hx hb dX5_place_15 rfl (lv_at hl 1 rfl) ?_
  refine g_get (pc := 16) (v := .ref (g_ad G 66)) C hM (by decide) ce_65 fl_RX5_9 rfl dX5_place_16 ?_
  refine lv_iload_n (pc := 19) hx hb dX5_place_19 rfl (lv_at hl 2 rfl) ?_
  refine lv_iload_n (pc := 20) hx hb dX5_place_20 rfl (lv_at hl 0 rfl) ?_
  obtain ⟨hc, h⟩ := h
  refine g_iastE (pc := 21) C hM (by decide) ce_66 hc rfl dX5_place_21 (fun s21 es21 H locs hM => ?_)
  have h := h s21 es21
  refine lv_aload_n (pc := 22) hx hb dX5_place_22 rfl (lv_at hl 1 rfl) ?_
  refine g_get (pc := 23) (v := .ref (g_ad G 67)) C hM (by decide) ce_65 fl_RX5_15 rfl dX5_place_23 ?_
  refine lv_iload_n (pc := 26) hx hb dX5_place_26 rfl (lv_at hl 0 rfl) ?_
  refine lv_iload_n (pc := 27) hx hb dX5_place_27 rfl (lv_at hl 2 rfl) ?_
  obtain ⟨hc, h⟩ := h
  refine g_iastE (pc := 28) C hM (by decide) ce_67 hc rfl dX5_place_28 (fun s28 es28 H locs hM => ?_)
  have h := h s28 es28
  refine lv_aload_n (pc := 29) hx hb dX5_place_29 rfl (lv_at hl 1 rfl) ?_
  refine g_get (pc := 30) (v := .ref (g_ad G 69)) C hM (by decide) ce_65 fl_RX5_21 rfl dX5_place_30 ?_
  refine lv_aload_n (pc := 33) hx hb dX5_place_33 rfl (lv_at hl 1 rfl) ?_
  refine g_get (pc := 34) (v := .ref (g_ad G 0)) C hM (by decide) ce_65 fl_RX5_24 rfl dX5_place_34 ?_
  refine g_get (pc := 37) (v := .ref (g_ad G 1)) C hM (by decide) ce_0 fl_RX5_35 rfl dX5_place_37 ?_
  refine lv_iload_n (pc := 40) hx hb dX5_place_40 rfl (lv_at hl 2 rfl) ?_
  refine lv_iconst (pc := 41) (v := 0) hx hb dX5_place_41 (by decide) ?_
  refine g_cVi (pc := 42) C hM hl.1 yv_X6_cell q4_40 (by decide) ce_1 rfl (w_X6_cell l G x 1 a1 0 s28 _ h) rfl rfl ⟨⟨by decide, by decide⟩, by decide, by decide⟩ (Nat.le_of_ble_eq_true rfl) dX5_place_42 (fun r42 s42 H locs h hM => ?_)
  refine lv_dup2_11 (pc := 45) hx hb dX5_place_45 rfl rfl ?_
  obtain ⟨hc, h⟩ := h
  refine g_ialdK (pc := 46) C hM (by decide) ce_69 hc rfl dX5_place_46 ?_
  refine lv_iconst (pc := 47) (v := 1) hx hb dX5_place_47 (by decide) ?_
  refine lv_iload_n (pc := 48) hx hb dX5_place_48 rfl (lv_at hl 0 rfl) ?_
  refine lv_ishl (pc := 49) hx hb dX5_place_49 ?_
  refine lv_ior (pc := 50) hx hb dX5_place_50 ?_
  obtain ⟨hc, h⟩ := h
  refine g_iastE (pc := 51) C hM (by decide) ce_69 hc rfl dX5_place_51 (fun s51 es51 H locs hM => ?_)
  have h := h s51 es51
  refine lv_aload_n (pc := 52) hx hb dX5_place_52 rfl (lv_at hl 1 rfl) ?_
  refine g_get (pc := 53) (v := .ref (g_ad G 0)) C hM (by decide) ce_65 fl_RX5_24 rfl dX5_place_53 ?_
  refine g_get (pc := 56) (v := .ref (g_ad G 1)) C hM (by decide) ce_0 fl_RX5_35 rfl dX5_place_56 ?_
  refine lv_iload_n (pc := 59) hx hb dX5_place_59 rfl (lv_at hl 2 rfl) ?_
  refine lv_iconst (pc := 60) (v := 1) hx hb dX5_place_60 (by decide) ?_
  refine g_cVi (pc := 61) C hM hl.1 yv_X6_cell q4_40 (by decide) ce_1 rfl (w_X6_cell l G x 1 a1 1 s51 _ h) rfl rfl ⟨⟨by decide, by decide⟩, by decide, by decide⟩ (Nat.le_of_ble_eq_true rfl) dX5_place_61 (fun r61 s61 H locs h hM => ?_)
  refine lv_iconst (pc := 64) (v := 1) hx hb dX5_place_64 (by decide) ?_
  refine lv_icmp_ne (pc := 65) (tgt := 80) hx hb dX5_place_65 (by decide) (fun c65 => ?_) (fun c65 => ?_)
  · have h := h.2 c65
    refine lv_iload_n (pc := 80) hx hb dX5_place_80 rfl (lv_at hl 0 rfl) ?_
    refine lv_bipush (pc := 81) (v := 6) hx hb dX5_place_81 (by decide) ?_
    refine lv_imul (pc := 83) hx hb dX5_place_83 ?_
    refine lv_istore_n (pc := 84) (lv' := [(3, .int ((σ 65 6) * 6)), (2, .int (σ 65 6)), (0, .ref (g_ad G 65)), (1, .int a1)]) hx hb dX5_place_84 rfl hl (by decide) rfl (fun ls hl => ?_)
    refine lv_iconst (pc := 85) (v := 0) hx hb dX5_place_85 (by decide) ?_
    refine lv_istore (pc := 86) (lv' := [(4, .int 0), (3, .int ((σ 65 6) * 6)), (2, .int (σ 65 6)), (0, .ref (g_ad G 65)), (1, .int a1)]) hx hb dX5_place_86 hl (by decide) rfl (fun ls hl => ?_)
    exact h _ _ _ hM (lv_sub hl [3, 4, 1, 0] rfl)
  · have h := h.1 c65
    refine lv_aload_n (pc := 68) hx hb dX5_place_68 rfl (lv_at hl 1 rfl) ?_
    refine lv_dup (pc := 69) hx hb dX5_place_69 rfl ?_
    refine g_get (pc := 70) (v := .int (s61 65 5)) C hM (by decide) ce_65 fl_RX5_32 rfl dX5_place_70 ?_
    refine lv_iconst (pc := 73) (v := 1) hx hb dX5_place_73 (by decide) ?_
    refine lv_iload_n (pc := 74) hx hb dX5_place_74 rfl (lv_at hl 0 rfl) ?_
    refine lv_ishl (pc := 75) hx hb dX5_place_75 ?_
    refine lv_ior (pc := 76) hx hb dX5_place_76 ?_
    refine g_putE (pc := 77) C hM (by decide) ce_65 fp_RX5_32 rfl rfl (Nat.le_of_ble_eq_true rfl) rfl dX5_place_77 (fun s77 es77 H locs hM => ?_)
    have h := h s77 es77
    refine lv_iload_n (pc := 80) hx hb dX5_place_80 rfl (lv_at hl 0 rfl) ?_
    refine lv_bipush (pc := 81) (v := 6) hx hb dX5_place_81 (by decide) ?_
    refine lv_imul (pc := 83) hx hb dX5_place_83 ?_
    refine lv_istore_n (pc := 84) (lv' := [(3, .int ((σ 65 6) * 6)), (2, .int (σ 65 6)), (0, .ref (g_ad G 65)), (1, .int a1)]) hx hb dX5_place_84 rfl hl (by decide) rfl (fun ls hl => ?_)
    refine lv_iconst (pc := 85) (v := 0) hx hb dX5_place_85 (by decide) ?_
    refine lv_istore (pc := 86) (lv' := [(4, .int 0), (3, .int ((σ 65 6) * 6)), (2, .int (σ 65 6)), (0, .ref (g_ad G 65)), (1, .int a1)]) hx hb dX5_place_86 hl (by decide) rfl (fun ls hl => ?_)
    exact h _ _ _ hM (lv_sub hl [3, 4, 1, 0] rfl)
abbrev rm_X5_refresh : Room := { frames := 4, cells := 0, slots := 0, locals := 92 }
theorem dX5_refresh_0 : decode cX5_refresh 0 = .ok (.aload_n 0, 1) := by decide +kernel
theorem dX5_refresh_1 : decode cX5_refresh 1 = .ok (.iconst 0, 1) := by decide +kernel
theorem dX5_refresh_2 : decode cX5_refresh 2 = .ok (.putfield 28, 3) := by decide +kernel
theorem dX5_refresh_5 : decode cX5_refresh 5 = .ok (.aload_n 0, 1) := by decide +kernel
theorem dX5_refresh_6 : decode cX5_refresh 6 = .ok (.iconst 0, 1) := by decide +kernel
theorem dX5_refresh_7 : decode cX5_refresh 7 = .ok (.putfield 32, 3) := by decide +kernel
theorem dX5_refresh_10 : decode cX5_refresh 10 = .ok (.iconst 0, 1) := by decide +kernel
theorem dX5_refresh_11 : decode cX5_refresh 11 = .ok (.istore_n 1, 1) := by decide +kernel
theorem dX5_refresh_12 : decode cX5_refresh 12 = .ok (.iload_n 1, 1) := by decide +kernel
theorem dX5_refresh_13 : decode cX5_refresh 13 = .ok (.iconst 4, 1) := by decide +kernel
theorem dX5_refresh_14 : decode cX5_refresh 14 = .ok (.if_icmp .ge 16, 3) := by decide +kernel
theorem dX5_refresh_17 : decode cX5_refresh 17 = .ok (.aload_n 0, 1) := by decide +kernel
theorem dX5_refresh_18 : decode cX5_refresh 18 = .ok (.getfield 21, 3) := by decide +kernel
theorem dX5_refresh_21 : decode cX5_refresh 21 = .ok (.iload_n 1, 1) := by decide +kernel
theorem dX5_refresh_22 : decode cX5_refresh 22 = .ok (.iconst 0, 1) := by decide +kernel
theorem dX5_refresh_23 : decode cX5_refresh 23 = .ok (.iastore, 1) := by decide +kernel
theorem dX5_refresh_24 : decode cX5_refresh 24 = .ok (.iinc 1 1, 3) := by decide +kernel
theorem dX5_refresh_27 : decode cX5_refresh 27 = .ok (.goto (-15), 3) := by decide +kernel
theorem dX5_refresh_30 : decode cX5_refresh 30 = .ok (.bipush 9, 2) := by decide +kernel
theorem dX5_refresh_32 : decode cX5_refresh 32 = .ok (.istore_n 1, 1) := by decide +kernel
theorem dX5_refresh_33 : decode cX5_refresh 33 = .ok (.iload_n 1, 1) := by decide +kernel
theorem dX5_refresh_34 : decode cX5_refresh 34 = .ok (.ifCond .lt 52, 3) := by decide +kernel
theorem dX5_refresh_37 : decode cX5_refresh 37 = .ok (.iconst 0, 1) := by decide +kernel
theorem dX5_refresh_38 : decode cX5_refresh 38 = .ok (.istore_n 2, 1) := by decide +kernel
theorem dX5_refresh_39 : decode cX5_refresh 39 = .ok (.iload_n 2, 1) := by decide +kernel
theorem dX5_refresh_40 : decode cX5_refresh 40 = .ok (.aload_n 0, 1) := by decide +kernel
theorem dX5_refresh_41 : decode cX5_refresh 41 = .ok (.getfield 24, 3) := by decide +kernel
theorem dX5_refresh_44 : decode cX5_refresh 44 = .ok (.getfield 35, 3) := by decide +kernel
theorem dX5_refresh_47 : decode cX5_refresh 47 = .ok (.getfield 41, 3) := by decide +kernel
theorem dX5_refresh_50 : decode cX5_refresh 50 = .ok (.if_icmp .ge 30, 3) := by decide +kernel
theorem dX5_refresh_53 : decode cX5_refresh 53 = .ok (.aload_n 0, 1) := by decide +kernel
theorem dX5_refresh_54 : decode cX5_refresh 54 = .ok (.getfield 24, 3) := by decide +kernel
theorem dX5_refresh_57 : decode cX5_refresh 57 = .ok (.getfield 35, 3) := by decide +kernel
theorem dX5_refresh_60 : decode cX5_refresh 60 = .ok (.iload_n 2, 1) := by decide +kernel
theorem dX5_refresh_61 : decode cX5_refresh 61 = .ok (.iconst 2, 1) := by decide +kernel
theorem dX5_refresh_62 : decode cX5_refresh 62 = .ok (.invokevirtual 44, 3) := by decide +kernel
theorem dX5_refresh_65 : decode cX5_refresh 65 = .ok (.iload_n 1, 1) := by decide +kernel
theorem dX5_refresh_66 : decode cX5_refresh 66 = .ok (.if_icmp .ne 8, 3) := by decide +kernel
theorem dX5_refresh_69 : decode cX5_refresh 69 = .ok (.aload_n 0, 1) := by decide +kernel
theorem dX5_refresh_70 : decode cX5_refresh 70 = .ok (.iload_n 2, 1) := by decide +kernel
theorem dX5_refresh_71 : decode cX5_refresh 71 = .ok (.invokevirtual 48, 3) := by decide +kernel
theorem dX5_refresh_74 : decode cX5_refresh 74 = .ok (.iinc 2 1, 3) := by decide +kernel
theorem dX5_refresh_77 : decode cX5_refresh 77 = .ok (.goto (-38), 3) := by decide +kernel
theorem dX5_refresh_80 : decode cX5_refresh 80 = .ok (.iinc 1 (-1), 3) := by decide +kernel
theorem dX5_refresh_83 : decode cX5_refresh 83 = .ok (.goto (-50), 3) := by decide +kernel
theorem dX5_refresh_86 : decode cX5_refresh 86 = .ok (.return_, 1) := by decide +kernel
set_option maxHeartbeats 4000000 in
set_option maxRecDepth 100000 in
theorem w_X5_refresh (l : Launch) (G : GP) (x : XP) (σ : Sto) (P : Sto → Prop) (h : D_X5_refresh  σ P) : g_Metv l yX5_refresh cX5_refresh 3 rm_X5_refresh G x [.ref (g_ad G 65)] σ P := by
  unfold D_X5_refresh at h
  refine g_ofWv (by decide +kernel) (Nat.le_of_ble_eq_true rfl) ?_
  intro p e s m args below meth c Q ls C hM hl hret
  have hx := C.1
  have hb := C.2.1
  have hl : lv_has ls 3 [(0, .ref (g_ad G 65))] := hl
  have h := h (fun (v1 : Int32) (σ : Sto) => ∀ (H : Heap) (locs : List Loc) (ls : Array Slot), g_M G x σ s H locs → lv_has ls 3 [(0, .ref (g_ad G 65)), (1, .int v1)] → W p l e rm_X5_refresh s m args below meth c H locs 0 0 Q (F0 m 12 ls [])) (fun (v1 : Int32) (σ : Sto) => ∀ (H : Heap) (locs : List Loc) (ls : Array Slot), g_M G x σ s H locs → lv_has ls 3 [(0, .ref (g_ad G 65)), (1, .int v1)] → W p l e rm_X5_refresh s m args below meth c H locs 0 0 Q (F0 m 33 ls [])) (fun (v1 : Int32) (v2 : Int32) (σ : Sto) => ∀ (H : Heap) (locs : List Loc) (ls : Array Slot), g_M G x σ s H locs → lv_has ls 3 [(0, .ref (g_ad G 65)), (1, .int v1), (2, .int v2)] → W p l e rm_X5_refresh s m args below meth c H locs 0 0 Q (F0 m 39 ls []))
  have h := h (by
    intro v1 σ h  H locs ls hM hl
    refine lv_iload_n (pc := 12) hx hb dX5_refresh_12 rfl (lv_at hl 1 rfl) ?_
    refine lv_iconst (pc := 13) (v := 4) hx hb dX5_refresh_13 (by decide) ?_
    refine lv_icmp_ge (pc := 14) (tgt := 30) hx hb dX5_refresh_14 (by decide) (fun c14 => ?_) (fun c14 => ?_)
    · have h := h.1 c14
      refine lv_bipush (pc := 30) (v := 9) hx hb dX5_refresh_30 (by decide) ?_
      refine lv_istore_n (pc := 32) (lv' := [(1, .int 9), (0, .ref (g_ad G 65))]) hx hb dX5_refresh_32 rfl hl (by decide) rfl (fun ls hl => ?_)
      exact h _ _ _ hM (lv_sub hl [1, 0] rfl)
    · have h := h.2 c14
      refine lv_aload_n (pc := 17) hx hb dX5_refresh_17 rfl (lv_at hl 0 rfl) ?_
      refine g_get (pc := 18) (v := .ref (g_ad G 69)) C hM (by decide) ce_65 fl_RX5_21 rfl dX5_refresh_18 ?_
      refine lv_iload_n (pc := 21) hx hb dX5_refresh_21 rfl (lv_at hl 1 rfl) ?_
      refine lv_iconst (pc := 22) (v := 0) hx hb dX5_refresh_22 (by decide) ?_
      obtain ⟨hc, h⟩ := h
      refine g_iastE (pc := 23) C hM (by decide) ce_69 hc rfl dX5_refresh_23 (fun s23 es23 H locs hM => ?_)
      have h := h s23 es23
      refine lv_iinc (pc := 24) (v := (v1 + 1)) (lv' := [(1, .int (v1 + 1)), (0, .ref (g_ad G 65))]) hx hb dX5_refresh_24 hl (k := 1) rfl (by rfl) (by decide) rfl (fun ls hl => ?_)
      refine lv_goto (pc := 27) (tgt := 12) hx hb dX5_refresh_27 (by decide) ?_
      exact h _ _ _ hM (lv_sub hl [1, 0] rfl))
  have h := h (by
    intro v1 σ h  H locs ls hM hl
    refine lv_iload_n (pc := 33) hx hb dX5_refresh_33 rfl (lv_at hl 1 rfl) ?_
    refine lv_if_lt (pc := 34) (tgt := 86) hx hb dX5_refresh_34 (by decide) (fun c34 => ?_) (fun c34 => ?_)
    · have h := h.1 c34
      exact hret 86 _ _ _ _ dX5_refresh_86 h hM
    · have h := h.2 c34
      refine lv_iconst (pc := 37) (v := 0) hx hb dX5_refresh_37 (by decide) ?_
      refine lv_istore_n (pc := 38) (lv' := [(2, .int 0), (0, .ref (g_ad G 65)), (1, .int v1)]) hx hb dX5_refresh_38 rfl hl (by decide) rfl (fun ls hl => ?_)
      exact h _ _ _ hM (lv_sub hl [1, 2, 0] rfl))
  have h := h (by
    intro v1 v2 σ h  H locs ls hM hl
    refine lv_iload_n (pc := 39) hx hb dX5_refresh_39 rfl (lv_at hl 2 rfl) ?_
    refine lv_aload_n (pc := 40) hx hb dX5_refresh_40 rfl (lv_at hl 0 rfl) ?_
    refine g_get (pc := 41) (v := .ref (g_ad G 0)) C hM (by decide) ce_65 fl_RX5_24 rfl dX5_refresh_41 ?_
    refine g_get (pc := 44) (v := .ref (g_ad G 1)) C hM (by decide) ce_0 fl_RX5_35 rfl dX5_refresh_44 ?_
    refine g_get (pc := 47) (v := .int (σ 1 1)) C hM (by decide) ce_1 fl_RX5_41 rfl dX5_refresh_47 ?_
    refine lv_icmp_ge (pc := 50) (tgt := 80) hx hb dX5_refresh_50 (by decide) (fun c50 => ?_) (fun c50 => ?_)
    · have h := h.1 c50
      refine lv_iinc (pc := 80) (v := (v1 + (-1))) (lv' := [(1, .int (v1 + (-1))), (0, .ref (g_ad G 65)), (2, .int v2)]) hx hb dX5_refresh_80 hl (k := 1) rfl (by rfl) (by decide) rfl (fun ls hl => ?_)
      refine lv_goto (pc := 83) (tgt := 33) hx hb dX5_refresh_83 (by decide) ?_
      exact h _ _ _ hM (lv_sub hl [1, 0] rfl)
    · have h := h.2 c50
      refine lv_aload_n (pc := 53) hx hb dX5_refresh_53 rfl (lv_at hl 0 rfl) ?_
      refine g_get (pc := 54) (v := .ref (g_ad G 0)) C hM (by decide) ce_65 fl_RX5_24 rfl dX5_refresh_54 ?_
      refine g_get (pc := 57) (v := .ref (g_ad G 1)) C hM (by decide) ce_0 fl_RX5_35 rfl dX5_refresh_57 ?_
      refine lv_iload_n (pc := 60) hx hb dX5_refresh_60 rfl (lv_at hl 2 rfl) ?_
      refine lv_iconst (pc := 61) (v := 2) hx hb dX5_refresh_61 (by decide) ?_
      refine g_cVi (pc := 62) C hM hl.1 yv_X6_cell q4_40 (by decide) ce_1 rfl (w_X6_cell l G x 1 v2 2 σ _ h) rfl rfl ⟨⟨by decide, by decide⟩, by decide, by decide⟩ (Nat.le_of_ble_eq_true rfl) dX5_refresh_62 (fun r62 s62 H locs h hM => ?_)
      refine lv_iload_n (pc := 65) hx hb dX5_refresh_65 rfl (lv_at hl 1 rfl) ?_
      refine lv_icmp_ne (pc := 66) (tgt := 74) hx hb dX5_refresh_66 (by decide) (fun c66 => ?_) (fun c66 => ?_)
      · have h := h.2 c66
        refine lv_iinc (pc := 74) (v := (v2 + 1)) (lv' := [(2, .int (v2 + 1)), (0, .ref (g_ad G 65)), (1, .int v1)]) hx hb dX5_refresh_74 hl (k := 2) rfl (by rfl) (by decide) rfl (fun ls hl => ?_)
        refine lv_goto (pc := 77) (tgt := 39) hx hb dX5_refresh_77 (by decide) ?_
        exact h _ _ _ hM (lv_sub hl [1, 2, 0] rfl)
      · have h := h.1 c66
        refine lv_aload_n (pc := 69) hx hb dX5_refresh_69 rfl (lv_at hl 0 rfl) ?_
        refine lv_iload_n (pc := 70) hx hb dX5_refresh_70 rfl (lv_at hl 2 rfl) ?_
        refine g_cVv (pc := 71) C hM hl.1 yv_X5_place q4_41 (by decide) ce_65 rfl (w_X5_place l G x v2 s62 _ h) rfl rfl ⟨⟨by decide, by decide⟩, by decide, by decide⟩ (Nat.le_of_ble_eq_true rfl) dX5_refresh_71 (fun s71 H locs h hM => ?_)
        refine lv_iinc (pc := 74) (v := (v2 + 1)) (lv' := [(2, .int (v2 + 1)), (0, .ref (g_ad G 65)), (1, .int v1)]) hx hb dX5_refresh_74 hl (k := 2) rfl (by rfl) (by decide) rfl (fun ls hl => ?_)
        refine lv_goto (pc := 77) (tgt := 39) hx hb dX5_refresh_77 (by decide) ?_
        exact h _ _ _ hM (lv_sub hl [1, 2, 0] rfl))
  refine lv_aload_n (pc := 0) hx hb dX5_refresh_0 rfl (lv_at hl 0 rfl) ?_
  refine lv_iconst (pc := 1) (v := 0) hx hb dX5_refresh_1 (by decide) ?_
  refine g_putE (pc := 2) C hM (by decide) ce_65 fp_RX5_28 rfl rfl (Nat.le_of_ble_eq_true rfl) rfl dX5_refresh_2 (fun s2 es2 H locs hM => ?_)
  have h := h s2 es2
  refine lv_aload_n (pc := 5) hx hb dX5_refresh_5 rfl (lv_at hl 0 rfl) ?_
  refine lv_iconst (pc := 6) (v := 0) hx hb dX5_refresh_6 (by decide) ?_
  refine g_putE (pc := 7) C hM (by decide) ce_65 fp_RX5_32 rfl rfl (Nat.le_of_ble_eq_true rfl) rfl dX5_refresh_7 (fun s7 es7 H locs hM => ?_)
  have h := h s7 es7
  refine lv_iconst (pc := 10) (v := 0) hx hb dX5_refresh_10 (by decide) ?_
  refine lv_istore_n (pc := 11) (lv' := [(1, .int 0), (0, .ref (g_ad G 65))]) hx hb dX5_refresh_11 rfl hl (by decide) rfl (fun ls hl => ?_)
  exact h _ _ _ hM (lv_sub hl [1, 0] rfl)
abbrev rm_X5_box : Room := { frames := 0, cells := 0, slots := 0, locals := 0 }
theorem dX5_box_0 : decode cX5_box 0 = .ok (.aload_n 0, 1) := by decide +kernel
theorem dX5_box_1 : decode cX5_box 1 = .ok (.getfield 18, 3) := by decide +kernel
theorem dX5_box_4 : decode cX5_box 4 = .ok (.iload_n 1, 1) := by decide +kernel
theorem dX5_box_5 : decode cX5_box 5 = .ok (.bipush 6, 2) := by decide +kernel
theorem dX5_box_7 : decode cX5_box 7 = .ok (.imul, 1) := by decide +kernel
theorem dX5_box_8 : decode cX5_box 8 = .ok (.iload_n 2, 1) := by decide +kernel
theorem dX5_box_9 : decode cX5_box 9 = .ok (.iadd, 1) := by decide +kernel
theorem dX5_box_10 : decode cX5_box 10 = .ok (.iaload, 1) := by decide +kernel
theorem dX5_box_11 : decode cX5_box 11 = .ok (.ireturn, 1) := by decide +kernel
set_option maxHeartbeats 4000000 in
set_option maxRecDepth 100000 in
theorem w_X5_box (l : Launch) (G : GP) (x : XP) (a1 : Int32) (a2 : Int32) (σ : Sto) (P : Int32 → Sto → Prop) (h : D_X5_box a1 a2 σ P) : g_Meti l yX5_box cX5_box 3 (some .int) rm_X5_box G x [.ref (g_ad G 65), .int a1, .int a2] σ P := by
  unfold D_X5_box at h
  refine g_ofWi (by decide +kernel) (Nat.le_of_ble_eq_true rfl) ?_
  intro p e s m args below meth c Q ls C hM hl hret
  have hx := C.1
  have hb := C.2.1
  have hl : lv_has ls 3 [(0, .ref (g_ad G 65)), (1, .int a1), (2, .int a2)] := hl
  refine lv_aload_n (pc := 0) hx hb dX5_box_0 rfl (lv_at hl 0 rfl) ?_
  refine g_get (pc := 1) (v := .ref (g_ad G 68)) C hM (by decide) ce_65 fl_RX5_18 rfl dX5_box_1 ?_
  refine lv_iload_n (pc := 4) hx hb dX5_box_4 rfl (lv_at hl 1 rfl) ?_
  refine lv_bipush (pc := 5) (v := 6) hx hb dX5_box_5 (by decide) ?_
  refine lv_imul (pc := 7) hx hb dX5_box_7 ?_
  refine lv_iload_n (pc := 8) hx hb dX5_box_8 rfl (lv_at hl 2 rfl) ?_
  refine lv_iadd (pc := 9) hx hb dX5_box_9 ?_
  obtain ⟨hc, h⟩ := h
  refine g_ialdK (pc := 10) C hM (by decide) ce_68 hc rfl dX5_box_10 ?_
  exact hret 11 _ _ _ _ _ dX5_box_11 (by rfl) h hM
abbrev rm_X5_fit : Room := { frames := 1, cells := 0, slots := 0, locals := 22 }
theorem dX5_fit_0 : decode cX5_fit 0 = .ok (.iconst 1, 1) := by decide +kernel
theorem dX5_fit_1 : decode cX5_fit 1 = .ok (.istore_n 3, 1) := by decide +kernel
theorem dX5_fit_2 : decode cX5_fit 2 = .ok (.iconst 0, 1) := by decide +kernel
theorem dX5_fit_3 : decode cX5_fit 3 = .ok (.istore 4, 2) := by decide +kernel
theorem dX5_fit_5 : decode cX5_fit 5 = .ok (.iload 4, 2) := by decide +kernel
theorem dX5_fit_7 : decode cX5_fit 7 = .ok (.bipush 6, 2) := by decide +kernel
theorem dX5_fit_9 : decode cX5_fit 9 = .ok (.if_icmp .ge 57, 3) := by decide +kernel
theorem dX5_fit_12 : decode cX5_fit 12 = .ok (.aload_n 2, 1) := by decide +kernel
theorem dX5_fit_13 : decode cX5_fit 13 = .ok (.iload 4, 2) := by decide +kernel
theorem dX5_fit_15 : decode cX5_fit 15 = .ok (.iaload, 1) := by decide +kernel
theorem dX5_fit_16 : decode cX5_fit 16 = .ok (.ifCond .ge 8, 3) := by decide +kernel
theorem dX5_fit_19 : decode cX5_fit 19 = .ok (.ldc 52, 2) := by decide +kernel
theorem dX5_fit_21 : decode cX5_fit 21 = .ok (.goto 9, 3) := by decide +kernel
theorem dX5_fit_24 : decode cX5_fit 24 = .ok (.iconst 1, 1) := by decide +kernel
theorem dX5_fit_25 : decode cX5_fit 25 = .ok (.aload_n 2, 1) := by decide +kernel
theorem dX5_fit_26 : decode cX5_fit 26 = .ok (.iload 4, 2) := by decide +kernel
theorem dX5_fit_28 : decode cX5_fit 28 = .ok (.iaload, 1) := by decide +kernel
theorem dX5_fit_29 : decode cX5_fit 29 = .ok (.ishl, 1) := by decide +kernel
theorem dX5_fit_30 : decode cX5_fit 30 = .ok (.istore 5, 2) := by decide +kernel
theorem dX5_fit_32 : decode cX5_fit 32 = .ok (.aload_n 0, 1) := by decide +kernel
theorem dX5_fit_33 : decode cX5_fit 33 = .ok (.iload_n 1, 1) := by decide +kernel
theorem dX5_fit_34 : decode cX5_fit 34 = .ok (.iload 4, 2) := by decide +kernel
theorem dX5_fit_36 : decode cX5_fit 36 = .ok (.invokevirtual 60, 3) := by decide +kernel
theorem dX5_fit_39 : decode cX5_fit 39 = .ok (.iload 5, 2) := by decide +kernel
theorem dX5_fit_41 : decode cX5_fit 41 = .ok (.iand, 1) := by decide +kernel
theorem dX5_fit_42 : decode cX5_fit 42 = .ok (.istore 6, 2) := by decide +kernel
theorem dX5_fit_44 : decode cX5_fit 44 = .ok (.iload 6, 2) := by decide +kernel
theorem dX5_fit_46 : decode cX5_fit 46 = .ok (.ifCond .ne 5, 3) := by decide +kernel
theorem dX5_fit_49 : decode cX5_fit 49 = .ok (.iconst 0, 1) := by decide +kernel
theorem dX5_fit_50 : decode cX5_fit 50 = .ok (.ireturn, 1) := by decide +kernel
theorem dX5_fit_51 : decode cX5_fit 51 = .ok (.iload 6, 2) := by decide +kernel
theorem dX5_fit_53 : decode cX5_fit 53 = .ok (.iload 5, 2) := by decide +kernel
theorem dX5_fit_55 : decode cX5_fit 55 = .ok (.if_icmp .eq 5, 3) := by decide +kernel
theorem dX5_fit_58 : decode cX5_fit 58 = .ok (.iconst 2, 1) := by decide +kernel
theorem dX5_fit_59 : decode cX5_fit 59 = .ok (.istore_n 3, 1) := by decide +kernel
theorem dX5_fit_60 : decode cX5_fit 60 = .ok (.iinc 4 1, 3) := by decide +kernel
theorem dX5_fit_63 : decode cX5_fit 63 = .ok (.goto (-58), 3) := by decide +kernel
theorem dX5_fit_66 : decode cX5_fit 66 = .ok (.iload_n 3, 1) := by decide +kernel
theorem dX5_fit_67 : decode cX5_fit 67 = .ok (.ireturn, 1) := by decide +kernel
set_option maxHeartbeats 4000000 in
set_option maxRecDepth 100000 in
theorem w_X5_fit (l : Launch) (G : GP) (x : XP) (a1 : Int32) (v2 : Nat) (σ : Sto) (P : Int32 → Sto → Prop) (h : D_X5_fit a1 v2 σ P) : g_Meti l yX5_fit cX5_fit 7 (some .int) rm_X5_fit G x [.ref (g_ad G 65), .int a1, .ref (g_ad G v2)] σ P := by
  unfold D_X5_fit at h
  obtain ⟨hv2, h⟩ := h
  refine g_ofWi (by decide +kernel) (Nat.le_of_ble_eq_true rfl) ?_
  intro p e s m args below meth c Q ls C hM hl hret
  have hx := C.1
  have hb := C.2.1
  have hl : lv_has ls 7 [(0, .ref (g_ad G 65)), (1, .int a1), (2, .ref (g_ad G v2))] := hl
  have h := h (fun (v3 : Int32) (v4 : Int32) (σ : Sto) => ∀ (H : Heap) (locs : List Loc) (ls : Array Slot), g_M G x σ s H locs → lv_has ls 7 [(0, .ref (g_ad G 65)), (1, .int a1), (2, .ref (g_ad G v2)), (3, .int v3), (4, .int v4)] → W p l e rm_X5_fit s m args below meth c H locs 0 0 Q (F0 m 5 ls [])) (fun (v3 : Int32) (v4 : Int32) (t0 : Int32) (σ : Sto) => ∀ (H : Heap) (locs : List Loc) (ls : Array Slot), g_M G x σ s H locs → lv_has ls 7 [(0, .ref (g_ad G 65)), (1, .int a1), (2, .ref (g_ad G v2)), (3, .int v3), (4, .int v4)] → W p l e rm_X5_fit s m args below meth c H locs 0 0 Q (F0 m 30 ls [.int t0]))
  have h := h (by
    intro v3 v4 σ h  H locs ls hM hl
    refine lv_iload (pc := 5) hx hb dX5_fit_5 (lv_at hl 4 rfl) ?_
    refine lv_bipush (pc := 7) (v := 6) hx hb dX5_fit_7 (by decide) ?_
    refine lv_icmp_ge (pc := 9) (tgt := 66) hx hb dX5_fit_9 (by decide) (fun c9 => ?_) (fun c9 => ?_)
    · have h := h.1 c9
      refine lv_iload_n (pc := 66) hx hb dX5_fit_66 rfl (lv_at hl 3 rfl) ?_
      exact hret 67 _ _ _ _ _ dX5_fit_67 (by rfl) h hM
    · have h := h.2 c9
      refine lv_aload_n (pc := 12) hx hb dX5_fit_12 rfl (lv_at hl 2 rfl) ?_
      refine lv_iload (pc := 13) hx hb dX5_fit_13 (lv_at hl 4 rfl) ?_
      obtain ⟨hc, h⟩ := h
      refine g_ialdK (pc := 15) C hM (va_lt hv2) (ce_va hv2) hc rfl dX5_fit_15 ?_
      refine lv_if_ge (pc := 16) (tgt := 24) hx hb dX5_fit_16 (by decide) (fun c16 => ?_) (fun c16 => ?_)
      · have h := h.1 c16
        refine lv_iconst (pc := 24) (v := 1) hx hb dX5_fit_24 (by decide) ?_
        refine lv_aload_n (pc := 25) hx hb dX5_fit_25 rfl (lv_at hl 2 rfl) ?_
        refine lv_iload (pc := 26) hx hb dX5_fit_26 (lv_at hl 4 rfl) ?_
        obtain ⟨hc, h⟩ := h
        refine g_ialdK (pc := 28) C hM (va_lt hv2) (ce_va hv2) hc rfl dX5_fit_28 ?_
        refine lv_ishl (pc := 29) hx hb dX5_fit_29 ?_
        exact h _ _ _ hM (lv_sub hl [0, 1, 2, 3, 4] rfl)
      · have h := h.2 c16
        refine lv_ldc (pc := 19) (v := 65535) hx hb C.2.2.2.1 (C.2.2.2.2.1 _ q4_45) dX5_fit_19 ?_
        refine lv_goto (pc := 21) (tgt := 30) hx hb dX5_fit_21 (by decide) ?_
        exact h _ _ _ hM (lv_sub hl [0, 1, 2, 3, 4] rfl))
  have h := h (by
    intro v3 v4 t0 σ h  H locs ls hM hl
    refine lv_istore (pc := 30) (lv' := [(5, .int t0), (0, .ref (g_ad G 65)), (1, .int a1), (2, .ref (g_ad G v2)), (3, .int v3), (4, .int v4)]) hx hb dX5_fit_30 hl (by decide) rfl (fun ls hl => ?_)
    refine lv_aload_n (pc := 32) hx hb dX5_fit_32 rfl (lv_at hl 1 rfl) ?_
    refine lv_iload_n (pc := 33) hx hb dX5_fit_33 rfl (lv_at hl 2 rfl) ?_
    refine lv_iload (pc := 34) hx hb dX5_fit_34 (lv_at hl 5 rfl) ?_
    refine g_cVi (pc := 36) C hM hl.1 yv_X5_box q4_52 (by decide) ce_65 rfl (w_X5_box l G x a1 v4 σ _ h) rfl rfl ⟨⟨by decide, by decide⟩, by decide, by decide⟩ (Nat.le_of_ble_eq_true rfl) dX5_fit_36 (fun r36 s36 H locs h hM => ?_)
    refine lv_iload (pc := 39) hx hb dX5_fit_39 (lv_at hl 0 rfl) ?_
    refine lv_iand (pc := 41) hx hb dX5_fit_41 ?_
    refine lv_istore (pc := 42) (lv' := [(6, .int (r36 &&& t0)), (5, .int t0), (0, .ref (g_ad G 65)), (1, .int a1), (2, .ref (g_ad G v2)), (3, .int v3), (4, .int v4)]) hx hb dX5_fit_42 hl (by decide) rfl (fun ls hl => ?_)
    refine lv_iload (pc := 44) hx hb dX5_fit_44 (lv_at hl 0 rfl) ?_
    refine lv_if_ne (pc := 46) (tgt := 51) hx hb dX5_fit_46 (by decide) (fun c46 => ?_) (fun c46 => ?_)
    · have h := h.2 c46
      refine lv_iload (pc := 51) hx hb dX5_fit_51 (lv_at hl 0 rfl) ?_
      refine lv_iload (pc := 53) hx hb dX5_fit_53 (lv_at hl 1 rfl) ?_
      refine lv_icmp_eq (pc := 55) (tgt := 60) hx hb dX5_fit_55 (by decide) (fun c55 => ?_) (fun c55 => ?_)
      · have h := h.1 c55
        refine lv_iinc (pc := 60) (v := (v4 + 1)) (lv' := [(4, .int (v4 + 1)), (6, .int (r36 &&& t0)), (5, .int t0), (0, .ref (g_ad G 65)), (1, .int a1), (2, .ref (g_ad G v2)), (3, .int v3)]) hx hb dX5_fit_60 hl (k := 6) rfl (by rfl) (by decide) rfl (fun ls hl => ?_)
        refine lv_goto (pc := 63) (tgt := 5) hx hb dX5_fit_63 (by decide) ?_
        exact h _ _ _ hM (lv_sub hl [3, 4, 5, 6, 0] rfl)
      · have h := h.2 c55
        refine lv_iconst (pc := 58) (v := 2) hx hb dX5_fit_58 (by decide) ?_
        refine lv_istore_n (pc := 59) (lv' := [(3, .int 2), (6, .int (r36 &&& t0)), (5, .int t0), (0, .ref (g_ad G 65)), (1, .int a1), (2, .ref (g_ad G v2)), (4, .int v4)]) hx hb dX5_fit_59 rfl hl (by decide) rfl (fun ls hl => ?_)
        refine lv_iinc (pc := 60) (v := (v4 + 1)) (lv' := [(4, .int (v4 + 1)), (3, .int 2), (6, .int (r36 &&& t0)), (5, .int t0), (0, .ref (g_ad G 65)), (1, .int a1), (2, .ref (g_ad G v2))]) hx hb dX5_fit_60 hl (k := 6) rfl (by rfl) (by decide) rfl (fun ls hl => ?_)
        refine lv_goto (pc := 63) (tgt := 5) hx hb dX5_fit_63 (by decide) ?_
        exact h _ _ _ hM (lv_sub hl [4, 5, 6, 1, 0] rfl)
    · have h := h.1 c46
      refine lv_iconst (pc := 49) (v := 0) hx hb dX5_fit_49 (by decide) ?_
      exact hret 50 _ _ _ _ _ dX5_fit_50 (by rfl) h hM)
  refine lv_iconst (pc := 0) (v := 1) hx hb dX5_fit_0 (by decide) ?_
  refine lv_istore_n (pc := 1) (lv' := [(3, .int 1), (0, .ref (g_ad G 65)), (1, .int a1), (2, .ref (g_ad G v2))]) hx hb dX5_fit_1 rfl hl (by decide) rfl (fun ls hl => ?_)
  refine lv_iconst (pc := 2) (v := 0) hx hb dX5_fit_2 (by decide) ?_
  refine lv_istore (pc := 3) (lv' := [(4, .int 0), (3, .int 1), (0, .ref (g_ad G 65)), (1, .int a1), (2, .ref (g_ad G v2))]) hx hb dX5_fit_3 hl (by decide) rfl (fun ls hl => ?_)
  exact h _ _ _ hM (lv_sub hl [2, 3, 4, 1, 0] rfl)
abbrev rm_X5_matching : Room := { frames := 2, cells := 0, slots := 0, locals := 48 }
theorem dX5_matching_0 : decode cX5_matching 0 = .ok (.iconst 0, 1) := by decide +kernel
theorem dX5_matching_1 : decode cX5_matching 1 = .ok (.istore_n 2, 1) := by decide +kernel
theorem dX5_matching_2 : decode cX5_matching 2 = .ok (.iconst 0, 1) := by decide +kernel
theorem dX5_matching_3 : decode cX5_matching 3 = .ok (.istore_n 3, 1) := by decide +kernel
theorem dX5_matching_4 : decode cX5_matching 4 = .ok (.iload_n 3, 1) := by decide +kernel
theorem dX5_matching_5 : decode cX5_matching 5 = .ok (.aload_n 0, 1) := by decide +kernel
theorem dX5_matching_6 : decode cX5_matching 6 = .ok (.getfield 28, 3) := by decide +kernel
theorem dX5_matching_9 : decode cX5_matching 9 = .ok (.if_icmp .ge 24, 3) := by decide +kernel
theorem dX5_matching_12 : decode cX5_matching 12 = .ok (.aload_n 0, 1) := by decide +kernel
theorem dX5_matching_13 : decode cX5_matching 13 = .ok (.iload_n 3, 1) := by decide +kernel
theorem dX5_matching_14 : decode cX5_matching 14 = .ok (.aload_n 1, 1) := by decide +kernel
theorem dX5_matching_15 : decode cX5_matching 15 = .ok (.invokevirtual 63, 3) := by decide +kernel
theorem dX5_matching_18 : decode cX5_matching 18 = .ok (.ifCond .eq 9, 3) := by decide +kernel
theorem dX5_matching_21 : decode cX5_matching 21 = .ok (.iload_n 2, 1) := by decide +kernel
theorem dX5_matching_22 : decode cX5_matching 22 = .ok (.iconst 1, 1) := by decide +kernel
theorem dX5_matching_23 : decode cX5_matching 23 = .ok (.iload_n 3, 1) := by decide +kernel
theorem dX5_matching_24 : decode cX5_matching 24 = .ok (.ishl, 1) := by decide +kernel
theorem dX5_matching_25 : decode cX5_matching 25 = .ok (.ior, 1) := by decide +kernel
theorem dX5_matching_26 : decode cX5_matching 26 = .ok (.istore_n 2, 1) := by decide +kernel
theorem dX5_matching_27 : decode cX5_matching 27 = .ok (.iinc 3 1, 3) := by decide +kernel
theorem dX5_matching_30 : decode cX5_matching 30 = .ok (.goto (-26), 3) := by decide +kernel
theorem dX5_matching_33 : decode cX5_matching 33 = .ok (.iload_n 2, 1) := by decide +kernel
theorem dX5_matching_34 : decode cX5_matching 34 = .ok (.ireturn, 1) := by decide +kernel
set_option maxHeartbeats 4000000 in
set_option maxRecDepth 100000 in
theorem w_X5_matching (l : Launch) (G : GP) (x : XP) (v1 : Nat) (σ : Sto) (P : Int32 → Sto → Prop) (h : D_X5_matching v1 σ P) : g_Meti l yX5_matching cX5_matching 4 (some .int) rm_X5_matching G x [.ref (g_ad G 65), .ref (g_ad G v1)] σ P := by
  unfold D_X5_matching at h
  obtain ⟨hv1, h⟩ := h
  refine g_ofWi (by decide +kernel) (Nat.le_of_ble_eq_true rfl) ?_
  intro p e s m args below meth c Q ls C hM hl hret
  have hx := C.1
  have hb := C.2.1
  have hl : lv_has ls 4 [(0, .ref (g_ad G 65)), (1, .ref (g_ad G v1))] := hl
  have h := h (fun (v2 : Int32) (v3 : Int32) (σ : Sto) => ∀ (H : Heap) (locs : List Loc) (ls : Array Slot), g_M G x σ s H locs → lv_has ls 4 [(0, .ref (g_ad G 65)), (1, .ref (g_ad G v1)), (2, .int v2), (3, .int v3)] → W p l e rm_X5_matching s m args below meth c H locs 0 0 Q (F0 m 4 ls []))
  have h := h (by
    intro v2 v3 σ h  H locs ls hM hl
    refine lv_iload_n (pc := 4) hx hb dX5_matching_4 rfl (lv_at hl 3 rfl) ?_
    refine lv_aload_n (pc := 5) hx hb dX5_matching_5 rfl (lv_at hl 0 rfl) ?_
    refine g_get (pc := 6) (v := .int (σ 65 6)) C hM (by decide) ce_65 fl_RX5_28 rfl dX5_matching_6 ?_
    refine lv_icmp_ge (pc := 9) (tgt := 33) hx hb dX5_matching_9 (by decide) (fun c9 => ?_) (fun c9 => ?_)
    · have h := h.1 c9
      refine lv_iload_n (pc := 33) hx hb dX5_matching_33 rfl (lv_at hl 2 rfl) ?_
      exact hret 34 _ _ _ _ _ dX5_matching_34 (by rfl) h hM
    · have h := h.2 c9
      refine lv_aload_n (pc := 12) hx hb dX5_matching_12 rfl (lv_at hl 0 rfl) ?_
      refine lv_iload_n (pc := 13) hx hb dX5_matching_13 rfl (lv_at hl 3 rfl) ?_
      refine lv_aload_n (pc := 14) hx hb dX5_matching_14 rfl (lv_at hl 1 rfl) ?_
      refine g_cVi (pc := 15) C hM hl.1 yv_X5_fit q4_80 (by decide) ce_65 rfl (w_X5_fit l G x v3 v1 σ _ h) rfl rfl ⟨⟨by decide, by decide⟩, by decide, by decide⟩ (Nat.le_of_ble_eq_true rfl) dX5_matching_15 (fun r15 s15 H locs h hM => ?_)
      refine lv_if_eq (pc := 18) (tgt := 27) hx hb dX5_matching_18 (by decide) (fun c18 => ?_) (fun c18 => ?_)
      · have h := h.1 c18
        refine lv_iinc (pc := 27) (v := (v3 + 1)) (lv' := [(3, .int (v3 + 1)), (0, .ref (g_ad G 65)), (1, .ref (g_ad G v1)), (2, .int v2)]) hx hb dX5_matching_27 hl (k := 3) rfl (by rfl) (by decide) rfl (fun ls hl => ?_)
        refine lv_goto (pc := 30) (tgt := 4) hx hb dX5_matching_30 (by decide) ?_
        exact h _ _ _ hM (lv_sub hl [1, 2, 3, 0] rfl)
      · have h := h.2 c18
        refine lv_iload_n (pc := 21) hx hb dX5_matching_21 rfl (lv_at hl 2 rfl) ?_
        refine lv_iconst (pc := 22) (v := 1) hx hb dX5_matching_22 (by decide) ?_
        refine lv_iload_n (pc := 23) hx hb dX5_matching_23 rfl (lv_at hl 3 rfl) ?_
        refine lv_ishl (pc := 24) hx hb dX5_matching_24 ?_
        refine lv_ior (pc := 25) hx hb dX5_matching_25 ?_
        refine lv_topi (fun v2_26 ev2_26 => ?_)
        have h := h v2_26 ev2_26
        refine lv_istore_n (pc := 26) (lv' := [(2, .int v2_26), (0, .ref (g_ad G 65)), (1, .ref (g_ad G v1)), (3, .int v3)]) hx hb dX5_matching_26 rfl hl (by decide) rfl (fun ls hl => ?_)
        refine lv_iinc (pc := 27) (v := (v3 + 1)) (lv' := [(3, .int (v3 + 1)), (2, .int v2_26), (0, .ref (g_ad G 65)), (1, .ref (g_ad G v1))]) hx hb dX5_matching_27 hl (k := 3) rfl (by rfl) (by decide) rfl (fun ls hl => ?_)
        refine lv_goto (pc := 30) (tgt := 4) hx hb dX5_matching_30 (by decide) ?_
        exact h _ _ _ hM (lv_sub hl [2, 3, 1, 0] rfl))
  refine lv_iconst (pc := 0) (v := 0) hx hb dX5_matching_0 (by decide) ?_
  refine lv_istore_n (pc := 1) (lv' := [(2, .int 0), (0, .ref (g_ad G 65)), (1, .ref (g_ad G v1))]) hx hb dX5_matching_1 rfl hl (by decide) rfl (fun ls hl => ?_)
  refine lv_iconst (pc := 2) (v := 0) hx hb dX5_matching_2 (by decide) ?_
  refine lv_istore_n (pc := 3) (lv' := [(3, .int 0), (2, .int 0), (0, .ref (g_ad G 65)), (1, .ref (g_ad G v1))]) hx hb dX5_matching_3 rfl hl (by decide) rfl (fun ls hl => ?_)
  exact h _ _ _ hM (lv_sub hl [2, 3, 1, 0] rfl)
abbrev rm_X5_policyDecisionOf : Room := { frames := 0, cells := 0, slots := 0, locals := 0 }
theorem dX5_policyDecisionOf_0 : decode cX5_policyDecisionOf 0 = .ok (.iload_n 2, 1) := by decide +kernel
theorem dX5_policyDecisionOf_1 : decode cX5_policyDecisionOf 1 = .ok (.aload_n 0, 1) := by decide +kernel
theorem dX5_policyDecisionOf_2 : decode cX5_policyDecisionOf 2 = .ok (.getfield 21, 3) := by decide +kernel
theorem dX5_policyDecisionOf_5 : decode cX5_policyDecisionOf 5 = .ok (.iload_n 1, 1) := by decide +kernel
theorem dX5_policyDecisionOf_6 : decode cX5_policyDecisionOf 6 = .ok (.iaload, 1) := by decide +kernel
theorem dX5_policyDecisionOf_7 : decode cX5_policyDecisionOf 7 = .ok (.iand, 1) := by decide +kernel
theorem dX5_policyDecisionOf_8 : decode cX5_policyDecisionOf 8 = .ok (.istore_n 3, 1) := by decide +kernel
theorem dX5_policyDecisionOf_9 : decode cX5_policyDecisionOf 9 = .ok (.iload_n 3, 1) := by decide +kernel
theorem dX5_policyDecisionOf_10 : decode cX5_policyDecisionOf 10 = .ok (.ifCond .ne 5, 3) := by decide +kernel
theorem dX5_policyDecisionOf_13 : decode cX5_policyDecisionOf 13 = .ok (.iconst 2, 1) := by decide +kernel
theorem dX5_policyDecisionOf_14 : decode cX5_policyDecisionOf 14 = .ok (.ireturn, 1) := by decide +kernel
theorem dX5_policyDecisionOf_15 : decode cX5_policyDecisionOf 15 = .ok (.aload_n 0, 1) := by decide +kernel
theorem dX5_policyDecisionOf_16 : decode cX5_policyDecisionOf 16 = .ok (.getfield 24, 3) := by decide +kernel
theorem dX5_policyDecisionOf_19 : decode cX5_policyDecisionOf 19 = .ok (.getfield 67, 3) := by decide +kernel
theorem dX5_policyDecisionOf_22 : decode cX5_policyDecisionOf 22 = .ok (.iload_n 1, 1) := by decide +kernel
theorem dX5_policyDecisionOf_23 : decode cX5_policyDecisionOf 23 = .ok (.iaload, 1) := by decide +kernel
theorem dX5_policyDecisionOf_24 : decode cX5_policyDecisionOf 24 = .ok (.tableswitch 78 0 2 #[28, 43, 60], 28) := by decide +kernel
theorem dX5_policyDecisionOf_52 : decode cX5_policyDecisionOf 52 = .ok (.iload_n 3, 1) := by decide +kernel
theorem dX5_policyDecisionOf_53 : decode cX5_policyDecisionOf 53 = .ok (.aload_n 0, 1) := by decide +kernel
theorem dX5_policyDecisionOf_54 : decode cX5_policyDecisionOf 54 = .ok (.getfield 32, 3) := by decide +kernel
theorem dX5_policyDecisionOf_57 : decode cX5_policyDecisionOf 57 = .ok (.iand, 1) := by decide +kernel
theorem dX5_policyDecisionOf_58 : decode cX5_policyDecisionOf 58 = .ok (.ifCond .eq 7, 3) := by decide +kernel
theorem dX5_policyDecisionOf_61 : decode cX5_policyDecisionOf 61 = .ok (.iconst 1, 1) := by decide +kernel
theorem dX5_policyDecisionOf_62 : decode cX5_policyDecisionOf 62 = .ok (.goto 4, 3) := by decide +kernel
theorem dX5_policyDecisionOf_65 : decode cX5_policyDecisionOf 65 = .ok (.iconst 0, 1) := by decide +kernel
theorem dX5_policyDecisionOf_66 : decode cX5_policyDecisionOf 66 = .ok (.ireturn, 1) := by decide +kernel
theorem dX5_policyDecisionOf_67 : decode cX5_policyDecisionOf 67 = .ok (.iload_n 3, 1) := by decide +kernel
theorem dX5_policyDecisionOf_68 : decode cX5_policyDecisionOf 68 = .ok (.aload_n 0, 1) := by decide +kernel
theorem dX5_policyDecisionOf_69 : decode cX5_policyDecisionOf 69 = .ok (.getfield 32, 3) := by decide +kernel
theorem dX5_policyDecisionOf_72 : decode cX5_policyDecisionOf 72 = .ok (.iconst (-1), 1) := by decide +kernel
theorem dX5_policyDecisionOf_73 : decode cX5_policyDecisionOf 73 = .ok (.ixor, 1) := by decide +kernel
theorem dX5_policyDecisionOf_74 : decode cX5_policyDecisionOf 74 = .ok (.iand, 1) := by decide +kernel
theorem dX5_policyDecisionOf_75 : decode cX5_policyDecisionOf 75 = .ok (.ifCond .eq 7, 3) := by decide +kernel
theorem dX5_policyDecisionOf_78 : decode cX5_policyDecisionOf 78 = .ok (.iconst 0, 1) := by decide +kernel
theorem dX5_policyDecisionOf_79 : decode cX5_policyDecisionOf 79 = .ok (.goto 4, 3) := by decide +kernel
theorem dX5_policyDecisionOf_82 : decode cX5_policyDecisionOf 82 = .ok (.iconst 1, 1) := by decide +kernel
theorem dX5_policyDecisionOf_83 : decode cX5_policyDecisionOf 83 = .ok (.ireturn, 1) := by decide +kernel
theorem dX5_policyDecisionOf_84 : decode cX5_policyDecisionOf 84 = .ok (.iload_n 3, 1) := by decide +kernel
theorem dX5_policyDecisionOf_85 : decode cX5_policyDecisionOf 85 = .ok (.iload_n 3, 1) := by decide +kernel
theorem dX5_policyDecisionOf_86 : decode cX5_policyDecisionOf 86 = .ok (.ineg, 1) := by decide +kernel
theorem dX5_policyDecisionOf_87 : decode cX5_policyDecisionOf 87 = .ok (.iand, 1) := by decide +kernel
theorem dX5_policyDecisionOf_88 : decode cX5_policyDecisionOf 88 = .ok (.aload_n 0, 1) := by decide +kernel
theorem dX5_policyDecisionOf_89 : decode cX5_policyDecisionOf 89 = .ok (.getfield 32, 3) := by decide +kernel
theorem dX5_policyDecisionOf_92 : decode cX5_policyDecisionOf 92 = .ok (.iand, 1) := by decide +kernel
theorem dX5_policyDecisionOf_93 : decode cX5_policyDecisionOf 93 = .ok (.ifCond .eq 7, 3) := by decide +kernel
theorem dX5_policyDecisionOf_96 : decode cX5_policyDecisionOf 96 = .ok (.iconst 1, 1) := by decide +kernel
theorem dX5_policyDecisionOf_97 : decode cX5_policyDecisionOf 97 = .ok (.goto 4, 3) := by decide +kernel
theorem dX5_policyDecisionOf_100 : decode cX5_policyDecisionOf 100 = .ok (.iconst 0, 1) := by decide +kernel
theorem dX5_policyDecisionOf_101 : decode cX5_policyDecisionOf 101 = .ok (.ireturn, 1) := by decide +kernel
theorem dX5_policyDecisionOf_102 : decode cX5_policyDecisionOf 102 = .ok (.iload_n 3, 1) := by decide +kernel
theorem dX5_policyDecisionOf_103 : decode cX5_policyDecisionOf 103 = .ok (.iload_n 3, 1) := by decide +kernel
theorem dX5_policyDecisionOf_104 : decode cX5_policyDecisionOf 104 = .ok (.iconst 1, 1) := by decide +kernel
theorem dX5_policyDecisionOf_105 : decode cX5_policyDecisionOf 105 = .ok (.isub, 1) := by decide +kernel
theorem dX5_policyDecisionOf_106 : decode cX5_policyDecisionOf 106 = .ok (.iand, 1) := by decide +kernel
theorem dX5_policyDecisionOf_107 : decode cX5_policyDecisionOf 107 = .ok (.ifCond .eq 7, 3) := by decide +kernel
theorem dX5_policyDecisionOf_110 : decode cX5_policyDecisionOf 110 = .ok (.iconst 3, 1) := by decide +kernel
theorem dX5_policyDecisionOf_111 : decode cX5_policyDecisionOf 111 = .ok (.goto 17, 3) := by decide +kernel
theorem dX5_policyDecisionOf_114 : decode cX5_policyDecisionOf 114 = .ok (.iload_n 3, 1) := by decide +kernel
theorem dX5_policyDecisionOf_115 : decode cX5_policyDecisionOf 115 = .ok (.aload_n 0, 1) := by decide +kernel
theorem dX5_policyDecisionOf_116 : decode cX5_policyDecisionOf 116 = .ok (.getfield 32, 3) := by decide +kernel
theorem dX5_policyDecisionOf_119 : decode cX5_policyDecisionOf 119 = .ok (.iand, 1) := by decide +kernel
theorem dX5_policyDecisionOf_120 : decode cX5_policyDecisionOf 120 = .ok (.ifCond .eq 7, 3) := by decide +kernel
theorem dX5_policyDecisionOf_123 : decode cX5_policyDecisionOf 123 = .ok (.iconst 1, 1) := by decide +kernel
theorem dX5_policyDecisionOf_124 : decode cX5_policyDecisionOf 124 = .ok (.goto 4, 3) := by decide +kernel
theorem dX5_policyDecisionOf_127 : decode cX5_policyDecisionOf 127 = .ok (.iconst 0, 1) := by decide +kernel
theorem dX5_policyDecisionOf_128 : decode cX5_policyDecisionOf 128 = .ok (.ireturn, 1) := by decide +kernel
set_option maxHeartbeats 4000000 in
set_option maxRecDepth 100000 in
theorem w_X5_policyDecisionOf (l : Launch) (G : GP) (x : XP) (a1 : Int32) (a2 : Int32) (σ : Sto) (P : Int32 → Sto → Prop) (h : D_X5_policyDecisionOf a1 a2 σ P) : g_Meti l yX5_policyDecisionOf cX5_policyDecisionOf 4 (some .int) rm_X5_policyDecisionOf G x [.ref (g_ad G 65), .int a1, .int a2] σ P := by
  unfold D_X5_policyDecisionOf at h
  refine g_ofWi (by decide +kernel) (Nat.le_of_ble_eq_true rfl) ?_
  intro p e s m args below meth c Q ls C hM hl hret
  have hx := C.1
  have hb := C.2.1
  have hl : lv_has ls 4 [(0, .ref (g_ad G 65)), (1, .int a1), (2, .int a2)] := hl
  refine lv_iload_n (pc := 0) hx hb dX5_policyDecisionOf_0 rfl (lv_at hl 2 rfl) ?_
  refine lv_aload_n (pc := 1) hx hb dX5_policyDecisionOf_1 rfl (lv_at hl 0 rfl) ?_
  refine g_get (pc := 2) (v := .ref (g_ad G 69)) C hM (by decide) ce_65 fl_RX5_21 rfl dX5_policyDecisionOf_2 ?_
  refine lv_iload_n (pc := 5) hx hb dX5_policyDecisionOf_5 rfl (lv_at hl 1 rfl) ?_
  obtain ⟨hc, h⟩ := h
  refine g_ialdK (pc := 6) C hM (by decide) ce_69 hc rfl dX5_policyDecisionOf_6 ?_
  refine lv_iand (pc := 7) hx hb dX5_policyDecisionOf_7 ?_
  refine lv_istore_n (pc := 8) (lv' := [(3, .int (a2 &&& (σ 69 (ix a1)))), (0, .ref (g_ad G 65)), (1, .int a1), (2, .int a2)]) hx hb dX5_policyDecisionOf_8 rfl hl (by decide) rfl (fun ls hl => ?_)
  refine lv_iload_n (pc := 9) hx hb dX5_policyDecisionOf_9 rfl (lv_at hl 0 rfl) ?_
  refine lv_if_ne (pc := 10) (tgt := 15) hx hb dX5_policyDecisionOf_10 (by decide) (fun c10 => ?_) (fun c10 => ?_)
  · have h := h.2 c10
    refine lv_aload_n (pc := 15) hx hb dX5_policyDecisionOf_15 rfl (lv_at hl 1 rfl) ?_
    refine g_get (pc := 16) (v := .ref (g_ad G 0)) C hM (by decide) ce_65 fl_RX5_24 rfl dX5_policyDecisionOf_16 ?_
    refine g_get (pc := 19) (v := .ref (g_ad G 5)) C hM (by decide) ce_0 fl_RX5_67 rfl dX5_policyDecisionOf_19 ?_
    refine lv_iload_n (pc := 22) hx hb dX5_policyDecisionOf_22 rfl (lv_at hl 2 rfl) ?_
    obtain ⟨hc, h⟩ := h
    refine g_ialdK (pc := 23) C hM (by decide) ce_5 hc rfl dX5_policyDecisionOf_23 ?_
    by_cases c24_0 : (σ 5 (ix a1)) = 0
    · have h := h.1 c24_0
      refine lv_tableIn (pc := 24) (tgt := 52) hx hb dX5_policyDecisionOf_24 (by rw [c24_0]; decide) (by rw [c24_0]; decide) (by rw [c24_0]; rfl) (by decide) ?_
      refine lv_iload_n (pc := 52) hx hb dX5_policyDecisionOf_52 rfl (lv_at hl 0 rfl) ?_
      refine lv_aload_n (pc := 53) hx hb dX5_policyDecisionOf_53 rfl (lv_at hl 1 rfl) ?_
      refine g_get (pc := 54) (v := .int (σ 65 5)) C hM (by decide) ce_65 fl_RX5_32 rfl dX5_policyDecisionOf_54 ?_
      refine lv_iand (pc := 57) hx hb dX5_policyDecisionOf_57 ?_
      refine lv_if_eq (pc := 58) (tgt := 65) hx hb dX5_policyDecisionOf_58 (by decide) (fun c58 => ?_) (fun c58 => ?_)
      · have h := h.1 c58
        refine lv_iconst (pc := 65) (v := 0) hx hb dX5_policyDecisionOf_65 (by decide) ?_
        exact hret 66 _ _ _ _ _ dX5_policyDecisionOf_66 (by rfl) h hM
      · have h := h.2 c58
        refine lv_iconst (pc := 61) (v := 1) hx hb dX5_policyDecisionOf_61 (by decide) ?_
        refine lv_goto (pc := 62) (tgt := 66) hx hb dX5_policyDecisionOf_62 (by decide) ?_
        exact hret 66 _ _ _ _ _ dX5_policyDecisionOf_66 (by rfl) h hM
    · have h := h.2 c24_0
      by_cases c24_1 : (σ 5 (ix a1)) = 1
      · have h := h.1 c24_1
        refine lv_tableIn (pc := 24) (tgt := 67) hx hb dX5_policyDecisionOf_24 (by rw [c24_1]; decide) (by rw [c24_1]; decide) (by rw [c24_1]; rfl) (by decide) ?_
        refine lv_iload_n (pc := 67) hx hb dX5_policyDecisionOf_67 rfl (lv_at hl 0 rfl) ?_
        refine lv_aload_n (pc := 68) hx hb dX5_policyDecisionOf_68 rfl (lv_at hl 1 rfl) ?_
        refine g_get (pc := 69) (v := .int (σ 65 5)) C hM (by decide) ce_65 fl_RX5_32 rfl dX5_policyDecisionOf_69 ?_
        refine lv_iconst (pc := 72) (v := (-1)) hx hb dX5_policyDecisionOf_72 (by decide) ?_
        refine lv_ixor (pc := 73) hx hb dX5_policyDecisionOf_73 ?_
        refine lv_iand (pc := 74) hx hb dX5_policyDecisionOf_74 ?_
        refine lv_if_eq (pc := 75) (tgt := 82) hx hb dX5_policyDecisionOf_75 (by decide) (fun c75 => ?_) (fun c75 => ?_)
        · have h := h.1 c75
          refine lv_iconst (pc := 82) (v := 1) hx hb dX5_policyDecisionOf_82 (by decide) ?_
          exact hret 83 _ _ _ _ _ dX5_policyDecisionOf_83 (by rfl) h hM
        · have h := h.2 c75
          refine lv_iconst (pc := 78) (v := 0) hx hb dX5_policyDecisionOf_78 (by decide) ?_
          refine lv_goto (pc := 79) (tgt := 83) hx hb dX5_policyDecisionOf_79 (by decide) ?_
          exact hret 83 _ _ _ _ _ dX5_policyDecisionOf_83 (by rfl) h hM
      · have h := h.2 c24_1
        by_cases c24_2 : (σ 5 (ix a1)) = 2
        · have h := h.1 c24_2
          refine lv_tableIn (pc := 24) (tgt := 84) hx hb dX5_policyDecisionOf_24 (by rw [c24_2]; decide) (by rw [c24_2]; decide) (by rw [c24_2]; rfl) (by decide) ?_
          refine lv_iload_n (pc := 84) hx hb dX5_policyDecisionOf_84 rfl (lv_at hl 0 rfl) ?_
          refine lv_iload_n (pc := 85) hx hb dX5_policyDecisionOf_85 rfl (lv_at hl 0 rfl) ?_
          refine lv_ineg (pc := 86) hx hb dX5_policyDecisionOf_86 ?_
          refine lv_iand (pc := 87) hx hb dX5_policyDecisionOf_87 ?_
          refine lv_aload_n (pc := 88) hx hb dX5_policyDecisionOf_88 rfl (lv_at hl 1 rfl) ?_
          refine g_get (pc := 89) (v := .int (σ 65 5)) C hM (by decide) ce_65 fl_RX5_32 rfl dX5_policyDecisionOf_89 ?_
          refine lv_iand (pc := 92) hx hb dX5_policyDecisionOf_92 ?_
          refine lv_if_eq (pc := 93) (tgt := 100) hx hb dX5_policyDecisionOf_93 (by decide) (fun c93 => ?_) (fun c93 => ?_)
          · have h := h.1 c93
            refine lv_iconst (pc := 100) (v := 0) hx hb dX5_policyDecisionOf_100 (by decide) ?_
            exact hret 101 _ _ _ _ _ dX5_policyDecisionOf_101 (by rfl) h hM
          · have h := h.2 c93
            refine lv_iconst (pc := 96) (v := 1) hx hb dX5_policyDecisionOf_96 (by decide) ?_
            refine lv_goto (pc := 97) (tgt := 101) hx hb dX5_policyDecisionOf_97 (by decide) ?_
            exact hret 101 _ _ _ _ _ dX5_policyDecisionOf_101 (by rfl) h hM
        · have h := h.2 c24_2
          have ht : ((σ 5 (ix a1))).toInt < 0 ∨ 2 < ((σ 5 (ix a1))).toInt := by
            have nc24_0 := lv_neT c24_0 (a := 0) rfl
            have nc24_1 := lv_neT c24_1 (a := 1) rfl
            have nc24_2 := lv_neT c24_2 (a := 2) rfl
            omega
          refine lv_tableOut (pc := 24) (tgt := 102) hx hb dX5_policyDecisionOf_24 ht (by decide) ?_
          refine lv_iload_n (pc := 102) hx hb dX5_policyDecisionOf_102 rfl (lv_at hl 0 rfl) ?_
          refine lv_iload_n (pc := 103) hx hb dX5_policyDecisionOf_103 rfl (lv_at hl 0 rfl) ?_
          refine lv_iconst (pc := 104) (v := 1) hx hb dX5_policyDecisionOf_104 (by decide) ?_
          refine lv_isub (pc := 105) hx hb dX5_policyDecisionOf_105 ?_
          refine lv_iand (pc := 106) hx hb dX5_policyDecisionOf_106 ?_
          refine lv_if_eq (pc := 107) (tgt := 114) hx hb dX5_policyDecisionOf_107 (by decide) (fun c107 => ?_) (fun c107 => ?_)
          · have h := h.1 c107
            refine lv_iload_n (pc := 114) hx hb dX5_policyDecisionOf_114 rfl (lv_at hl 0 rfl) ?_
            refine lv_aload_n (pc := 115) hx hb dX5_policyDecisionOf_115 rfl (lv_at hl 1 rfl) ?_
            refine g_get (pc := 116) (v := .int (σ 65 5)) C hM (by decide) ce_65 fl_RX5_32 rfl dX5_policyDecisionOf_116 ?_
            refine lv_iand (pc := 119) hx hb dX5_policyDecisionOf_119 ?_
            refine lv_if_eq (pc := 120) (tgt := 127) hx hb dX5_policyDecisionOf_120 (by decide) (fun c120 => ?_) (fun c120 => ?_)
            · have h := h.1 c120
              refine lv_iconst (pc := 127) (v := 0) hx hb dX5_policyDecisionOf_127 (by decide) ?_
              exact hret 128 _ _ _ _ _ dX5_policyDecisionOf_128 (by rfl) h hM
            · have h := h.2 c120
              refine lv_iconst (pc := 123) (v := 1) hx hb dX5_policyDecisionOf_123 (by decide) ?_
              refine lv_goto (pc := 124) (tgt := 128) hx hb dX5_policyDecisionOf_124 (by decide) ?_
              exact hret 128 _ _ _ _ _ dX5_policyDecisionOf_128 (by rfl) h hM
          · have h := h.2 c107
            refine lv_iconst (pc := 110) (v := 3) hx hb dX5_policyDecisionOf_110 (by decide) ?_
            refine lv_goto (pc := 111) (tgt := 128) hx hb dX5_policyDecisionOf_111 (by decide) ?_
            exact hret 128 _ _ _ _ _ dX5_policyDecisionOf_128 (by rfl) h hM
  · have h := h.1 c10
    refine lv_iconst (pc := 13) (v := 2) hx hb dX5_policyDecisionOf_13 (by decide) ?_
    exact hret 14 _ _ _ _ _ dX5_policyDecisionOf_14 (by rfl) h hM
