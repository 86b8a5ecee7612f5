abbrev rm_X4_add : Room := { frames := 0, cells := 0, slots := 0, locals := 0 }
theorem dX4_add_0 : decode cX4_add 0 = .ok (.aload_n 0, 1) := by decide +kernel
theorem dX4_add_1 : decode cX4_add 1 = .ok (.getfield 9, 3) := by decide +kernel
theorem dX4_add_4 : decode cX4_add 4 = .ok (.aload_n 0, 1) := by decide +kernel
theorem dX4_add_5 : decode cX4_add 5 = .ok (.getfield 26, 3) := by decide +kernel
theorem dX4_add_8 : decode cX4_add 8 = .ok (.iload_n 1, 1) := by decide +kernel
theorem dX4_add_9 : decode cX4_add 9 = .ok (.castore, 1) := by decide +kernel
theorem dX4_add_10 : decode cX4_add 10 = .ok (.aload_n 0, 1) := by decide +kernel
theorem dX4_add_11 : decode cX4_add 11 = .ok (.dup, 1) := by decide +kernel
theorem dX4_add_12 : decode cX4_add 12 = .ok (.getfield 26, 3) := by decide +kernel
theorem dX4_add_15 : decode cX4_add 15 = .ok (.iconst 1, 1) := by decide +kernel
theorem dX4_add_16 : decode cX4_add 16 = .ok (.iadd, 1) := by decide +kernel
theorem dX4_add_17 : decode cX4_add 17 = .ok (.putfield 26, 3) := by decide +kernel
theorem dX4_add_20 : decode cX4_add 20 = .ok (.aload_n 0, 1) := by decide +kernel
theorem dX4_add_21 : decode cX4_add 21 = .ok (.getfield 26, 3) := by decide +kernel
theorem dX4_add_24 : decode cX4_add 24 = .ok (.ireturn, 1) := by decide +kernel
set_option maxHeartbeats 4000000 in
set_option maxRecDepth 100000 in
theorem w_X4_add (l : Launch) (G : GP) (x : XP) (a1 : Int32) (σ : Sto) (P : Int32 → Sto → Prop) (h : D_X4_add a1 σ P) : g_Meti l yX4_add cX4_add 2 (some .int) rm_X4_add G x [.ref (g_ad G 81), .int a1] σ P := by
  unfold D_X4_add at h
  refine g_ofWi (by decide +kernel) (Nat.le_of_ble_eq_true rfl) ?_
  intro p e s m args below meth c Q ls C hM hl hret
  have hx := C.1
  have hb := C.2.1
  have hl : lv_has ls 2 [(0, .ref (g_ad G 81)), (1, .int a1)] := hl
  refine lv_aload_n (pc := 0) hx hb dX4_add_0 rfl (lv_at hl 0 rfl) ?_
  refine g_get (pc := 1) (v := .ref (g_ad G 82)) C hM (by decide) ce_81 fl_RX4_9 rfl dX4_add_1 ?_
  refine lv_aload_n (pc := 4) hx hb dX4_add_4 rfl (lv_at hl 0 rfl) ?_
  refine g_get (pc := 5) (v := .int (σ 81 1)) C hM (by decide) ce_81 fl_RX4_26 rfl dX4_add_5 ?_
  refine lv_iload_n (pc := 8) hx hb dX4_add_8 rfl (lv_at hl 1 rfl) ?_
  obtain ⟨hc, h⟩ := h
  refine g_castE (pc := 9) C hM (by decide) ce_82 hc rfl dX4_add_9 (fun s9 es9 H locs hM => ?_)
  have h := h s9 es9
  refine lv_aload_n (pc := 10) hx hb dX4_add_10 rfl (lv_at hl 0 rfl) ?_
  refine lv_dup (pc := 11) hx hb dX4_add_11 rfl ?_
  refine g_get (pc := 12) (v := .int (s9 81 1)) C hM (by decide) ce_81 fl_RX4_26 rfl dX4_add_12 ?_
  refine lv_iconst (pc := 15) (v := 1) hx hb dX4_add_15 (by decide) ?_
  refine lv_iadd (pc := 16) hx hb dX4_add_16 ?_
  refine g_putE (pc := 17) C hM (by decide) ce_81 fp_RX4_26 rfl rfl (Nat.le_of_ble_eq_true rfl) rfl dX4_add_17 (fun s17 es17 H locs hM => ?_)
  have h := h s17 es17
  refine lv_aload_n (pc := 20) hx hb dX4_add_20 rfl (lv_at hl 0 rfl) ?_
  refine g_get (pc := 21) (v := .int (s17 81 1)) C hM (by decide) ce_81 fl_RX4_26 rfl dX4_add_21 ?_
  exact hret 24 _ _ _ _ _ dX4_add_24 (by rfl) h hM
abbrev rm_X4_acceptFrom : Room := { frames := 0, cells := 0, slots := 0, locals := 0 }
theorem dX4_acceptFrom_0 : decode cX4_acceptFrom 0 = .ok (.aload_n 0, 1) := by decide +kernel
theorem dX4_acceptFrom_1 : decode cX4_acceptFrom 1 = .ok (.getfield 29, 3) := by decide +kernel
theorem dX4_acceptFrom_4 : decode cX4_acceptFrom 4 = .ok (.aload_n 0, 1) := by decide +kernel
theorem dX4_acceptFrom_5 : decode cX4_acceptFrom 5 = .ok (.getfield 26, 3) := by decide +kernel
theorem dX4_acceptFrom_8 : decode cX4_acceptFrom 8 = .ok (.if_icmp .ge 17, 3) := by decide +kernel
theorem dX4_acceptFrom_11 : decode cX4_acceptFrom 11 = .ok (.aload_n 0, 1) := by decide +kernel
theorem dX4_acceptFrom_12 : decode cX4_acceptFrom 12 = .ok (.getfield 9, 3) := by decide +kernel
theorem dX4_acceptFrom_15 : decode cX4_acceptFrom 15 = .ok (.aload_n 0, 1) := by decide +kernel
theorem dX4_acceptFrom_16 : decode cX4_acceptFrom 16 = .ok (.getfield 29, 3) := by decide +kernel
theorem dX4_acceptFrom_19 : decode cX4_acceptFrom 19 = .ok (.caload, 1) := by decide +kernel
theorem dX4_acceptFrom_20 : decode cX4_acceptFrom 20 = .ok (.iload_n 1, 1) := by decide +kernel
theorem dX4_acceptFrom_21 : decode cX4_acceptFrom 21 = .ok (.isub, 1) := by decide +kernel
theorem dX4_acceptFrom_22 : decode cX4_acceptFrom 22 = .ok (.goto 4, 3) := by decide +kernel
theorem dX4_acceptFrom_25 : decode cX4_acceptFrom 25 = .ok (.iconst (-1), 1) := by decide +kernel
theorem dX4_acceptFrom_26 : decode cX4_acceptFrom 26 = .ok (.istore_n 3, 1) := by decide +kernel
theorem dX4_acceptFrom_27 : decode cX4_acceptFrom 27 = .ok (.iload_n 3, 1) := by decide +kernel
theorem dX4_acceptFrom_28 : decode cX4_acceptFrom 28 = .ok (.ifCond .lt 8, 3) := by decide +kernel
theorem dX4_acceptFrom_31 : decode cX4_acceptFrom 31 = .ok (.iload_n 3, 1) := by decide +kernel
theorem dX4_acceptFrom_32 : decode cX4_acceptFrom 32 = .ok (.iload_n 2, 1) := by decide +kernel
theorem dX4_acceptFrom_33 : decode cX4_acceptFrom 33 = .ok (.if_icmp .lt 5, 3) := by decide +kernel
theorem dX4_acceptFrom_36 : decode cX4_acceptFrom 36 = .ok (.iconst (-1), 1) := by decide +kernel
theorem dX4_acceptFrom_37 : decode cX4_acceptFrom 37 = .ok (.ireturn, 1) := by decide +kernel
theorem dX4_acceptFrom_38 : decode cX4_acceptFrom 38 = .ok (.aload_n 0, 1) := by decide +kernel
theorem dX4_acceptFrom_39 : decode cX4_acceptFrom 39 = .ok (.dup, 1) := by decide +kernel
theorem dX4_acceptFrom_40 : decode cX4_acceptFrom 40 = .ok (.getfield 29, 3) := by decide +kernel
theorem dX4_acceptFrom_43 : decode cX4_acceptFrom 43 = .ok (.iconst 1, 1) := by decide +kernel
theorem dX4_acceptFrom_44 : decode cX4_acceptFrom 44 = .ok (.iadd, 1) := by decide +kernel
theorem dX4_acceptFrom_45 : decode cX4_acceptFrom 45 = .ok (.putfield 29, 3) := by decide +kernel
theorem dX4_acceptFrom_48 : decode cX4_acceptFrom 48 = .ok (.iload_n 3, 1) := by decide +kernel
theorem dX4_acceptFrom_49 : decode cX4_acceptFrom 49 = .ok (.ireturn, 1) := by decide +kernel
set_option maxHeartbeats 4000000 in
set_option maxRecDepth 100000 in
theorem w_X4_acceptFrom (l : Launch) (G : GP) (x : XP) (a1 : Int32) (a2 : Int32) (σ : Sto) (P : Int32 → Sto → Prop) (h : D_X4_acceptFrom a1 a2 σ P) : g_Meti l yX4_acceptFrom cX4_acceptFrom 4 (some .int) rm_X4_acceptFrom G x [.ref (g_ad G 81), .int a1, .int a2] σ P := by
  unfold D_X4_acceptFrom at h
  refine g_ofWi (by decide +kernel) (Nat.le_of_ble_eq_true rfl) ?_
  intro p e s m args below meth c Q ls C hM hl hret
  have hx := C.1
  have hb := C.2.1
  have hl : lv_has ls 4 [(0, .ref (g_ad G 81)), (1, .int a1), (2, .int a2)] := hl
  have h := h (fun (t0 : Int32) (σ : Sto) => ∀ (H : Heap) (locs : List Loc) (ls : Array Slot), g_M G x σ s H locs → lv_has ls 4 [(0, .ref (g_ad G 81)), (2, .int a2)] → W p l e rm_X4_acceptFrom s m args below meth c H locs 0 0 Q (F0 m 26 ls [.int t0]))
  have h := h (by
    intro t0 σ h  H locs ls hM hl
    refine lv_istore_n (pc := 26) (lv' := [(3, .int t0), (0, .ref (g_ad G 81)), (2, .int a2)]) hx hb dX4_acceptFrom_26 rfl hl (by decide) rfl (fun ls hl => ?_)
    refine lv_iload_n (pc := 27) hx hb dX4_acceptFrom_27 rfl (lv_at hl 0 rfl) ?_
    refine lv_if_lt (pc := 28) (tgt := 36) hx hb dX4_acceptFrom_28 (by decide) (fun c28 => ?_) (fun c28 => ?_)
    · have h := h.1 c28
      refine lv_iconst (pc := 36) (v := (-1)) hx hb dX4_acceptFrom_36 (by decide) ?_
      exact hret 37 _ _ _ _ _ dX4_acceptFrom_37 (by rfl) h hM
    · have h := h.2 c28
      refine lv_iload_n (pc := 31) hx hb dX4_acceptFrom_31 rfl (lv_at hl 0 rfl) ?_
      refine lv_iload_n (pc := 32) hx hb dX4_acceptFrom_32 rfl (lv_at hl 2 rfl) ?_
      refine lv_icmp_lt (pc := 33) (tgt := 38) hx hb dX4_acceptFrom_33 (by decide) (fun c33 => ?_) (fun c33 => ?_)
      · have h := h.1 c33
        refine lv_aload_n (pc := 38) hx hb dX4_acceptFrom_38 rfl (lv_at hl 1 rfl) ?_
        refine lv_dup (pc := 39) hx hb dX4_acceptFrom_39 rfl ?_
        refine g_get (pc := 40) (v := .int (σ 81 2)) C hM (by decide) ce_81 fl_RX4_29 rfl dX4_acceptFrom_40 ?_
        refine lv_iconst (pc := 43) (v := 1) hx hb dX4_acceptFrom_43 (by decide) ?_
        refine lv_iadd (pc := 44) hx hb dX4_acceptFrom_44 ?_
        refine g_putE (pc := 45) C hM (by decide) ce_81 fp_RX4_29 rfl rfl (Nat.le_of_ble_eq_true rfl) rfl dX4_acceptFrom_45 (fun s45 es45 H locs hM => ?_)
        have h := h s45 es45
        refine lv_iload_n (pc := 48) hx hb dX4_acceptFrom_48 rfl (lv_at hl 0 rfl) ?_
        exact hret 49 _ _ _ _ _ dX4_acceptFrom_49 (by rfl) h hM
      · have h := h.2 c33
        refine lv_iconst (pc := 36) (v := (-1)) hx hb dX4_acceptFrom_36 (by decide) ?_
        exact hret 37 _ _ _ _ _ dX4_acceptFrom_37 (by rfl) h hM)
  refine lv_aload_n (pc := 0) hx hb dX4_acceptFrom_0 rfl (lv_at hl 0 rfl) ?_
  refine g_get (pc := 1) (v := .int (σ 81 2)) C hM (by decide) ce_81 fl_RX4_29 rfl dX4_acceptFrom_1 ?_
  refine lv_aload_n (pc := 4) hx hb dX4_acceptFrom_4 rfl (lv_at hl 0 rfl) ?_
  refine g_get (pc := 5) (v := .int (σ 81 1)) C hM (by decide) ce_81 fl_RX4_26 rfl dX4_acceptFrom_5 ?_
  refine lv_icmp_ge (pc := 8) (tgt := 25) hx hb dX4_acceptFrom_8 (by decide) (fun c8 => ?_) (fun c8 => ?_)
  · have h := h.1 c8
    refine lv_iconst (pc := 25) (v := (-1)) hx hb dX4_acceptFrom_25 (by decide) ?_
    exact h _ _ _ hM (lv_sub hl [0, 2] rfl)
  · have h := h.2 c8
    refine lv_aload_n (pc := 11) hx hb dX4_acceptFrom_11 rfl (lv_at hl 0 rfl) ?_
    refine g_get (pc := 12) (v := .ref (g_ad G 82)) C hM (by decide) ce_81 fl_RX4_9 rfl dX4_acceptFrom_12 ?_
    refine lv_aload_n (pc := 15) hx hb dX4_acceptFrom_15 rfl (lv_at hl 0 rfl) ?_
    refine g_get (pc := 16) (v := .int (σ 81 2)) C hM (by decide) ce_81 fl_RX4_29 rfl dX4_acceptFrom_16 ?_
    obtain ⟨hc, h⟩ := h
    refine g_caldK (pc := 19) C hM (by decide) ce_82 hc rfl dX4_acceptFrom_19 ?_
    refine lv_iload_n (pc := 20) hx hb dX4_acceptFrom_20 rfl (lv_at hl 1 rfl) ?_
    refine lv_isub (pc := 21) hx hb dX4_acceptFrom_21 ?_
    refine lv_goto (pc := 22) (tgt := 26) hx hb dX4_acceptFrom_22 (by decide) ?_
    exact h _ _ _ hM (lv_sub hl [0, 2] rfl)
abbrev rm_X4_accept : Room := { frames := 0, cells := 0, slots := 0, locals := 0 }
theorem dX4_accept_0 : decode cX4_accept 0 = .ok (.aload_n 0, 1) := by decide +kernel
theorem dX4_accept_1 : decode cX4_accept 1 = .ok (.getfield 29, 3) := by decide +kernel
theorem dX4_accept_4 : decode cX4_accept 4 = .ok (.aload_n 0, 1) := by decide +kernel
theorem dX4_accept_5 : decode cX4_accept 5 = .ok (.getfield 26, 3) := by decide +kernel
theorem dX4_accept_8 : decode cX4_accept 8 = .ok (.if_icmp .ge 16, 3) := by decide +kernel
theorem dX4_accept_11 : decode cX4_accept 11 = .ok (.aload_n 0, 1) := by decide +kernel
theorem dX4_accept_12 : decode cX4_accept 12 = .ok (.getfield 9, 3) := by decide +kernel
theorem dX4_accept_15 : decode cX4_accept 15 = .ok (.aload_n 0, 1) := by decide +kernel
theorem dX4_accept_16 : decode cX4_accept 16 = .ok (.getfield 29, 3) := by decide +kernel
theorem dX4_accept_19 : decode cX4_accept 19 = .ok (.caload, 1) := by decide +kernel
theorem dX4_accept_20 : decode cX4_accept 20 = .ok (.iload_n 1, 1) := by decide +kernel
theorem dX4_accept_21 : decode cX4_accept 21 = .ok (.if_icmp .eq 5, 3) := by decide +kernel
theorem dX4_accept_24 : decode cX4_accept 24 = .ok (.iconst 0, 1) := by decide +kernel
theorem dX4_accept_25 : decode cX4_accept 25 = .ok (.ireturn, 1) := by decide +kernel
theorem dX4_accept_26 : decode cX4_accept 26 = .ok (.aload_n 0, 1) := by decide +kernel
theorem dX4_accept_27 : decode cX4_accept 27 = .ok (.dup, 1) := by decide +kernel
theorem dX4_accept_28 : decode cX4_accept 28 = .ok (.getfield 29, 3) := by decide +kernel
theorem dX4_accept_31 : decode cX4_accept 31 = .ok (.iconst 1, 1) := by decide +kernel
theorem dX4_accept_32 : decode cX4_accept 32 = .ok (.iadd, 1) := by decide +kernel
theorem dX4_accept_33 : decode cX4_accept 33 = .ok (.putfield 29, 3) := by decide +kernel
theorem dX4_accept_36 : decode cX4_accept 36 = .ok (.iconst 1, 1) := by decide +kernel
theorem dX4_accept_37 : decode cX4_accept 37 = .ok (.ireturn, 1) := by decide +kernel
set_option maxHeartbeats 4000000 in
set_option maxRecDepth 100000 in
theorem w_X4_accept (l : Launch) (G : GP) (x : XP) (a1 : Int32) (σ : Sto) (P : Int32 → Sto → Prop) (h : D_X4_accept a1 σ P) : g_Meti l yX4_accept cX4_accept 2 (some .boolean) rm_X4_accept G x [.ref (g_ad G 81), .int a1] σ P := by
  unfold D_X4_accept at h
  refine g_ofWi (by decide +kernel) (Nat.le_of_ble_eq_true rfl) ?_
  intro p e s m args below meth c Q ls C hM hl hret
  have hx := C.1
  have hb := C.2.1
  have hl : lv_has ls 2 [(0, .ref (g_ad G 81)), (1, .int a1)] := hl
  refine lv_aload_n (pc := 0) hx hb dX4_accept_0 rfl (lv_at hl 0 rfl) ?_
  refine g_get (pc := 1) (v := .int (σ 81 2)) C hM (by decide) ce_81 fl_RX4_29 rfl dX4_accept_1 ?_
  refine lv_aload_n (pc := 4) hx hb dX4_accept_4 rfl (lv_at hl 0 rfl) ?_
  refine g_get (pc := 5) (v := .int (σ 81 1)) C hM (by decide) ce_81 fl_RX4_26 rfl dX4_accept_5 ?_
  refine lv_icmp_ge (pc := 8) (tgt := 24) hx hb dX4_accept_8 (by decide) (fun c8 => ?_) (fun c8 => ?_)
  · have h := h.1 c8
    refine lv_iconst (pc := 24) (v := 0) hx hb dX4_accept_24 (by decide) ?_
    exact hret 25 _ _ _ _ _ dX4_accept_25 (by rfl) h hM
  · have h := h.2 c8
    refine lv_aload_n (pc := 11) hx hb dX4_accept_11 rfl (lv_at hl 0 rfl) ?_
    refine g_get (pc := 12) (v := .ref (g_ad G 82)) C hM (by decide) ce_81 fl_RX4_9 rfl dX4_accept_12 ?_
    refine lv_aload_n (pc := 15) hx hb dX4_accept_15 rfl (lv_at hl 0 rfl) ?_
    refine g_get (pc := 16) (v := .int (σ 81 2)) C hM (by decide) ce_81 fl_RX4_29 rfl dX4_accept_16 ?_
    obtain ⟨hc, h⟩ := h
    refine g_caldK (pc := 19) C hM (by decide) ce_82 hc rfl dX4_accept_19 ?_
    refine lv_iload_n (pc := 20) hx hb dX4_accept_20 rfl (lv_at hl 1 rfl) ?_
    refine lv_icmp_eq (pc := 21) (tgt := 26) hx hb dX4_accept_21 (by decide) (fun c21 => ?_) (fun c21 => ?_)
    · have h := h.1 c21
      refine lv_aload_n (pc := 26) hx hb dX4_accept_26 rfl (lv_at hl 0 rfl) ?_
      refine lv_dup (pc := 27) hx hb dX4_accept_27 rfl ?_
      refine g_get (pc := 28) (v := .int (σ 81 2)) C hM (by decide) ce_81 fl_RX4_29 rfl dX4_accept_28 ?_
      refine lv_iconst (pc := 31) (v := 1) hx hb dX4_accept_31 (by decide) ?_
      refine lv_iadd (pc := 32) hx hb dX4_accept_32 ?_
      refine g_putE (pc := 33) C hM (by decide) ce_81 fp_RX4_29 rfl rfl (Nat.le_of_ble_eq_true rfl) rfl dX4_accept_33 (fun s33 es33 H locs hM => ?_)
      have h := h s33 es33
      refine lv_iconst (pc := 36) (v := 1) hx hb dX4_accept_36 (by decide) ?_
      exact hret 37 _ _ _ _ _ dX4_accept_37 (by rfl) h hM
    · have h := h.2 c21
      refine lv_iconst (pc := 24) (v := 0) hx hb dX4_accept_24 (by decide) ?_
      exact hret 25 _ _ _ _ _ dX4_accept_25 (by rfl) h hM
abbrev rm_X4_acceptKind : Room := { frames := 1, cells := 0, slots := 0, locals := 21 }
theorem dX4_acceptKind_0 : decode cX4_acceptKind 0 = .ok (.aload_n 0, 1) := by decide +kernel
theorem dX4_acceptKind_1 : decode cX4_acceptKind 1 = .ok (.bipush 61, 2) := by decide +kernel
theorem dX4_acceptKind_3 : decode cX4_acceptKind 3 = .ok (.invokevirtual 43, 3) := by decide +kernel
theorem dX4_acceptKind_6 : decode cX4_acceptKind 6 = .ok (.ifCond .eq 5, 3) := by decide +kernel
theorem dX4_acceptKind_9 : decode cX4_acceptKind 9 = .ok (.iconst 0, 1) := by decide +kernel
theorem dX4_acceptKind_10 : decode cX4_acceptKind 10 = .ok (.ireturn, 1) := by decide +kernel
theorem dX4_acceptKind_11 : decode cX4_acceptKind 11 = .ok (.aload_n 0, 1) := by decide +kernel
theorem dX4_acceptKind_12 : decode cX4_acceptKind 12 = .ok (.bipush 35, 2) := by decide +kernel
theorem dX4_acceptKind_14 : decode cX4_acceptKind 14 = .ok (.invokevirtual 43, 3) := by decide +kernel
theorem dX4_acceptKind_17 : decode cX4_acceptKind 17 = .ok (.ifCond .eq 5, 3) := by decide +kernel
theorem dX4_acceptKind_20 : decode cX4_acceptKind 20 = .ok (.iconst 1, 1) := by decide +kernel
theorem dX4_acceptKind_21 : decode cX4_acceptKind 21 = .ok (.ireturn, 1) := by decide +kernel
theorem dX4_acceptKind_22 : decode cX4_acceptKind 22 = .ok (.aload_n 0, 1) := by decide +kernel
theorem dX4_acceptKind_23 : decode cX4_acceptKind 23 = .ok (.bipush 60, 2) := by decide +kernel
theorem dX4_acceptKind_25 : decode cX4_acceptKind 25 = .ok (.invokevirtual 43, 3) := by decide +kernel
theorem dX4_acceptKind_28 : decode cX4_acceptKind 28 = .ok (.ifCond .eq 5, 3) := by decide +kernel
theorem dX4_acceptKind_31 : decode cX4_acceptKind 31 = .ok (.iconst 2, 1) := by decide +kernel
theorem dX4_acceptKind_32 : decode cX4_acceptKind 32 = .ok (.ireturn, 1) := by decide +kernel
theorem dX4_acceptKind_33 : decode cX4_acceptKind 33 = .ok (.aload_n 0, 1) := by decide +kernel
theorem dX4_acceptKind_34 : decode cX4_acceptKind 34 = .ok (.bipush 62, 2) := by decide +kernel
theorem dX4_acceptKind_36 : decode cX4_acceptKind 36 = .ok (.invokevirtual 43, 3) := by decide +kernel
theorem dX4_acceptKind_39 : decode cX4_acceptKind 39 = .ok (.ifCond .eq 5, 3) := by decide +kernel
theorem dX4_acceptKind_42 : decode cX4_acceptKind 42 = .ok (.iconst 3, 1) := by decide +kernel
theorem dX4_acceptKind_43 : decode cX4_acceptKind 43 = .ok (.ireturn, 1) := by decide +kernel
theorem dX4_acceptKind_44 : decode cX4_acceptKind 44 = .ok (.aload_n 0, 1) := by decide +kernel
theorem dX4_acceptKind_45 : decode cX4_acceptKind 45 = .ok (.bipush 123, 2) := by decide +kernel
theorem dX4_acceptKind_47 : decode cX4_acceptKind 47 = .ok (.invokevirtual 43, 3) := by decide +kernel
theorem dX4_acceptKind_50 : decode cX4_acceptKind 50 = .ok (.ifCond .eq 7, 3) := by decide +kernel
theorem dX4_acceptKind_53 : decode cX4_acceptKind 53 = .ok (.iconst 4, 1) := by decide +kernel
theorem dX4_acceptKind_54 : decode cX4_acceptKind 54 = .ok (.goto 4, 3) := by decide +kernel
theorem dX4_acceptKind_57 : decode cX4_acceptKind 57 = .ok (.iconst (-1), 1) := by decide +kernel
theorem dX4_acceptKind_58 : decode cX4_acceptKind 58 = .ok (.ireturn, 1) := by decide +kernel
set_option maxHeartbeats 4000000 in
set_option maxRecDepth 100000 in
theorem w_X4_acceptKind (l : Launch) (G : GP) (x : XP) (σ : Sto) (P : Int32 → Sto → Prop) (h : D_X4_acceptKind  σ P) : g_Meti l yX4_acceptKind cX4_acceptKind 1 (some .int) rm_X4_acceptKind G x [.ref (g_ad G 81)] σ P := by
  unfold D_X4_acceptKind at h
  refine g_ofWi (by decide +kernel) (Nat.le_of_ble_eq_true rfl) ?_
  intro p e s m args below meth c Q ls C hM hl hret
  have hx := C.1
  have hb := C.2.1
  have hl : lv_has ls 1 [(0, .ref (g_ad G 81))] := hl
  refine lv_aload_n (pc := 0) hx hb dX4_acceptKind_0 rfl (lv_at hl 0 rfl) ?_
  refine lv_bipush (pc := 1) (v := 61) hx hb dX4_acceptKind_1 (by decide) ?_
  refine g_cVi (pc := 3) C hM hl.1 yv_X4_accept q5_130 (by decide) ce_81 rfl (w_X4_accept l G x 61 σ _ h) rfl rfl ⟨⟨by decide, by decide⟩, by decide, by decide⟩ (Nat.le_of_ble_eq_true rfl) dX4_acceptKind_3 (fun r3 s3 H locs h hM => ?_)
  refine lv_if_eq (pc := 6) (tgt := 11) hx hb dX4_acceptKind_6 (by decide) (fun c6 => ?_) (fun c6 => ?_)
  · have h := h.1 c6
    refine lv_aload_n (pc := 11) hx hb dX4_acceptKind_11 rfl (lv_at hl 0 rfl) ?_
    refine lv_bipush (pc := 12) (v := 35) hx hb dX4_acceptKind_12 (by decide) ?_
    refine g_cVi (pc := 14) C hM hl.1 yv_X4_accept q5_130 (by decide) ce_81 rfl (w_X4_accept l G x 35 s3 _ h) rfl rfl ⟨⟨by decide, by decide⟩, by decide, by decide⟩ (Nat.le_of_ble_eq_true rfl) dX4_acceptKind_14 (fun r14 s14 H locs h hM => ?_)
    refine lv_if_eq (pc := 17) (tgt := 22) hx hb dX4_acceptKind_17 (by decide) (fun c17 => ?_) (fun c17 => ?_)
    · have h := h.1 c17
      refine lv_aload_n (pc := 22) hx hb dX4_acceptKind_22 rfl (lv_at hl 0 rfl) ?_
      refine lv_bipush (pc := 23) (v := 60) hx hb dX4_acceptKind_23 (by decide) ?_
      refine g_cVi (pc := 25) C hM hl.1 yv_X4_accept q5_130 (by decide) ce_81 rfl (w_X4_accept l G x 60 s14 _ h) rfl rfl ⟨⟨by decide, by decide⟩, by decide, by decide⟩ (Nat.le_of_ble_eq_true rfl) dX4_acceptKind_25 (fun r25 s25 H locs h hM => ?_)
      refine lv_if_eq (pc := 28) (tgt := 33) hx hb dX4_acceptKind_28 (by decide) (fun c28 => ?_) (fun c28 => ?_)
      · have h := h.1 c28
        refine lv_aload_n (pc := 33) hx hb dX4_acceptKind_33 rfl (lv_at hl 0 rfl) ?_
        refine lv_bipush (pc := 34) (v := 62) hx hb dX4_acceptKind_34 (by decide) ?_
        refine g_cVi (pc := 36) C hM hl.1 yv_X4_accept q5_130 (by decide) ce_81 rfl (w_X4_accept l G x 62 s25 _ h) rfl rfl ⟨⟨by decide, by decide⟩, by decide, by decide⟩ (Nat.le_of_ble_eq_true rfl) dX4_acceptKind_36 (fun r36 s36 H locs h hM => ?_)
        refine lv_if_eq (pc := 39) (tgt := 44) hx hb dX4_acceptKind_39 (by decide) (fun c39 => ?_) (fun c39 => ?_)
        · have h := h.1 c39
          refine lv_aload_n (pc := 44) hx hb dX4_acceptKind_44 rfl (lv_at hl 0 rfl) ?_
          refine lv_bipush (pc := 45) (v := 123) hx hb dX4_acceptKind_45 (by decide) ?_
          refine g_cVi (pc := 47) C hM hl.1 yv_X4_accept q5_130 (by decide) ce_81 rfl (w_X4_accept l G x 123 s36 _ h) rfl rfl ⟨⟨by decide, by decide⟩, by decide, by decide⟩ (Nat.le_of_ble_eq_true rfl) dX4_acceptKind_47 (fun r47 s47 H locs h hM => ?_)
          refine lv_if_eq (pc := 50) (tgt := 57) hx hb dX4_acceptKind_50 (by decide) (fun c50 => ?_) (fun c50 => ?_)
          · have h := h.1 c50
            refine lv_iconst (pc := 57) (v := (-1)) hx hb dX4_acceptKind_57 (by decide) ?_
            exact hret 58 _ _ _ _ _ dX4_acceptKind_58 (by rfl) h hM
          · have h := h.2 c50
            refine lv_iconst (pc := 53) (v := 4) hx hb dX4_acceptKind_53 (by decide) ?_
            refine lv_goto (pc := 54) (tgt := 58) hx hb dX4_acceptKind_54 (by decide) ?_
            exact hret 58 _ _ _ _ _ dX4_acceptKind_58 (by rfl) h hM
        · have h := h.2 c39
          refine lv_iconst (pc := 42) (v := 3) hx hb dX4_acceptKind_42 (by decide) ?_
          exact hret 43 _ _ _ _ _ dX4_acceptKind_43 (by rfl) h hM
      · have h := h.2 c28
        refine lv_iconst (pc := 31) (v := 2) hx hb dX4_acceptKind_31 (by decide) ?_
        exact hret 32 _ _ _ _ _ dX4_acceptKind_32 (by rfl) h hM
    · have h := h.2 c17
      refine lv_iconst (pc := 20) (v := 1) hx hb dX4_acceptKind_20 (by decide) ?_
      exact hret 21 _ _ _ _ _ dX4_acceptKind_21 (by rfl) h hM
  · have h := h.2 c6
    refine lv_iconst (pc := 9) (v := 0) hx hb dX4_acceptKind_9 (by decide) ?_
    exact hret 10 _ _ _ _ _ dX4_acceptKind_10 (by rfl) h hM
abbrev rm_X4_readNumber : Room := { frames := 1, cells := 0, slots := 0, locals := 23 }
theorem dX4_readNumber_0 : decode cX4_readNumber 0 = .ok (.aload_n 0, 1) := by decide +kernel
theorem dX4_readNumber_1 : decode cX4_readNumber 1 = .ok (.bipush 48, 2) := by decide +kernel
theorem dX4_readNumber_3 : decode cX4_readNumber 3 = .ok (.bipush 10, 2) := by decide +kernel
theorem dX4_readNumber_5 : decode cX4_readNumber 5 = .ok (.invokevirtual 39, 3) := by decide +kernel
theorem dX4_readNumber_8 : decode cX4_readNumber 8 = .ok (.istore_n 1, 1) := by decide +kernel
theorem dX4_readNumber_9 : decode cX4_readNumber 9 = .ok (.iload_n 1, 1) := by decide +kernel
theorem dX4_readNumber_10 : decode cX4_readNumber 10 = .ok (.ifCond .ge 5, 3) := by decide +kernel
theorem dX4_readNumber_13 : decode cX4_readNumber 13 = .ok (.iconst (-1), 1) := by decide +kernel
theorem dX4_readNumber_14 : decode cX4_readNumber 14 = .ok (.ireturn, 1) := by decide +kernel
theorem dX4_readNumber_15 : decode cX4_readNumber 15 = .ok (.aload_n 0, 1) := by decide +kernel
theorem dX4_readNumber_16 : decode cX4_readNumber 16 = .ok (.getfield 29, 3) := by decide +kernel
theorem dX4_readNumber_19 : decode cX4_readNumber 19 = .ok (.aload_n 0, 1) := by decide +kernel
theorem dX4_readNumber_20 : decode cX4_readNumber 20 = .ok (.getfield 26, 3) := by decide +kernel
theorem dX4_readNumber_23 : decode cX4_readNumber 23 = .ok (.if_icmp .ge 18, 3) := by decide +kernel
theorem dX4_readNumber_26 : decode cX4_readNumber 26 = .ok (.aload_n 0, 1) := by decide +kernel
theorem dX4_readNumber_27 : decode cX4_readNumber 27 = .ok (.getfield 9, 3) := by decide +kernel
theorem dX4_readNumber_30 : decode cX4_readNumber 30 = .ok (.aload_n 0, 1) := by decide +kernel
theorem dX4_readNumber_31 : decode cX4_readNumber 31 = .ok (.getfield 29, 3) := by decide +kernel
theorem dX4_readNumber_34 : decode cX4_readNumber 34 = .ok (.caload, 1) := by decide +kernel
theorem dX4_readNumber_35 : decode cX4_readNumber 35 = .ok (.bipush 48, 2) := by decide +kernel
theorem dX4_readNumber_37 : decode cX4_readNumber 37 = .ok (.isub, 1) := by decide +kernel
theorem dX4_readNumber_38 : decode cX4_readNumber 38 = .ok (.goto 4, 3) := by decide +kernel
theorem dX4_readNumber_41 : decode cX4_readNumber 41 = .ok (.iconst (-1), 1) := by decide +kernel
theorem dX4_readNumber_42 : decode cX4_readNumber 42 = .ok (.istore_n 2, 1) := by decide +kernel
theorem dX4_readNumber_43 : decode cX4_readNumber 43 = .ok (.iload_n 2, 1) := by decide +kernel
theorem dX4_readNumber_44 : decode cX4_readNumber 44 = .ok (.ifCond .lt 9, 3) := by decide +kernel
theorem dX4_readNumber_47 : decode cX4_readNumber 47 = .ok (.iload_n 2, 1) := by decide +kernel
theorem dX4_readNumber_48 : decode cX4_readNumber 48 = .ok (.bipush 9, 2) := by decide +kernel
theorem dX4_readNumber_50 : decode cX4_readNumber 50 = .ok (.if_icmp .le 5, 3) := by decide +kernel
theorem dX4_readNumber_53 : decode cX4_readNumber 53 = .ok (.iload_n 1, 1) := by decide +kernel
theorem dX4_readNumber_54 : decode cX4_readNumber 54 = .ok (.ireturn, 1) := by decide +kernel
theorem dX4_readNumber_55 : decode cX4_readNumber 55 = .ok (.iload_n 1, 1) := by decide +kernel
theorem dX4_readNumber_56 : decode cX4_readNumber 56 = .ok (.bipush 10, 2) := by decide +kernel
theorem dX4_readNumber_58 : decode cX4_readNumber 58 = .ok (.imul, 1) := by decide +kernel
theorem dX4_readNumber_59 : decode cX4_readNumber 59 = .ok (.iload_n 2, 1) := by decide +kernel
theorem dX4_readNumber_60 : decode cX4_readNumber 60 = .ok (.iadd, 1) := by decide +kernel
theorem dX4_readNumber_61 : decode cX4_readNumber 61 = .ok (.istore_n 1, 1) := by decide +kernel
theorem dX4_readNumber_62 : decode cX4_readNumber 62 = .ok (.iload_n 1, 1) := by decide +kernel
theorem dX4_readNumber_63 : decode cX4_readNumber 63 = .ok (.bipush 16, 2) := by decide +kernel
theorem dX4_readNumber_65 : decode cX4_readNumber 65 = .ok (.if_icmp .lt 5, 3) := by decide +kernel
theorem dX4_readNumber_68 : decode cX4_readNumber 68 = .ok (.iconst (-1), 1) := by decide +kernel
theorem dX4_readNumber_69 : decode cX4_readNumber 69 = .ok (.ireturn, 1) := by decide +kernel
theorem dX4_readNumber_70 : decode cX4_readNumber 70 = .ok (.aload_n 0, 1) := by decide +kernel
theorem dX4_readNumber_71 : decode cX4_readNumber 71 = .ok (.dup, 1) := by decide +kernel
theorem dX4_readNumber_72 : decode cX4_readNumber 72 = .ok (.getfield 29, 3) := by decide +kernel
theorem dX4_readNumber_75 : decode cX4_readNumber 75 = .ok (.iconst 1, 1) := by decide +kernel
theorem dX4_readNumber_76 : decode cX4_readNumber 76 = .ok (.iadd, 1) := by decide +kernel
theorem dX4_readNumber_77 : decode cX4_readNumber 77 = .ok (.putfield 29, 3) := by decide +kernel
theorem dX4_readNumber_80 : decode cX4_readNumber 80 = .ok (.iload_n 1, 1) := by decide +kernel
theorem dX4_readNumber_81 : decode cX4_readNumber 81 = .ok (.ireturn, 1) := by decide +kernel
set_option maxHeartbeats 4000000 in
set_option maxRecDepth 100000 in
theorem w_X4_readNumber (l : Launch) (G : GP) (x : XP) (σ : Sto) (P : Int32 → Sto → Prop) (h : D_X4_readNumber  σ P) : g_Meti l yX4_readNumber cX4_readNumber 3 (some .int) rm_X4_readNumber G x [.ref (g_ad G 81)] σ P := by
  unfold D_X4_readNumber at h
  refine g_ofWi (by decide +kernel) (Nat.le_of_ble_eq_true rfl) ?_
  intro p e s m args below meth c Q ls C hM hl hret
  have hx := C.1
  have hb := C.2.1
  have hl : lv_has ls 3 [(0, .ref (g_ad G 81))] := hl
  have h := h (fun (v1 : Int32) (t0 : Int32) (σ : Sto) => ∀ (H : Heap) (locs : List Loc) (ls : Array Slot), g_M G x σ s H locs → lv_has ls 3 [(0, .ref (g_ad G 81)), (1, .int v1)] → W p l e rm_X4_readNumber s m args below meth c H locs 0 0 Q (F0 m 42 ls [.int t0]))
  have h := h (by
    intro v1 t0 σ h  H locs ls hM hl
    refine lv_istore_n (pc := 42) (lv' := [(2, .int t0), (0, .ref (g_ad G 81)), (1, .int v1)]) hx hb dX4_readNumber_42 rfl hl (by decide) rfl (fun ls hl => ?_)
    refine lv_iload_n (pc := 43) hx hb dX4_readNumber_43 rfl (lv_at hl 0 rfl) ?_
    refine lv_if_lt (pc := 44) (tgt := 53) hx hb dX4_readNumber_44 (by decide) (fun c44 => ?_) (fun c44 => ?_)
    · have h := h.1 c44
      refine lv_iload_n (pc := 53) hx hb dX4_readNumber_53 rfl (lv_at hl 2 rfl) ?_
      exact hret 54 _ _ _ _ _ dX4_readNumber_54 (by rfl) h hM
    · have h := h.2 c44
      refine lv_iload_n (pc := 47) hx hb dX4_readNumber_47 rfl (lv_at hl 0 rfl) ?_
      refine lv_bipush (pc := 48) (v := 9) hx hb dX4_readNumber_48 (by decide) ?_
      refine lv_icmp_le (pc := 50) (tgt := 55) hx hb dX4_readNumber_50 (by decide) (fun c50 => ?_) (fun c50 => ?_)
      · have h := h.1 c50
        refine lv_iload_n (pc := 55) hx hb dX4_readNumber_55 rfl (lv_at hl 2 rfl) ?_
        refine lv_bipush (pc := 56) (v := 10) hx hb dX4_readNumber_56 (by decide) ?_
        refine lv_imul (pc := 58) hx hb dX4_readNumber_58 ?_
        refine lv_iload_n (pc := 59) hx hb dX4_readNumber_59 rfl (lv_at hl 0 rfl) ?_
        refine lv_iadd (pc := 60) hx hb dX4_readNumber_60 ?_
        refine lv_istore_n (pc := 61) (lv' := [(1, .int ((v1 * 10) + t0)), (2, .int t0), (0, .ref (g_ad G 81))]) hx hb dX4_readNumber_61 rfl hl (by decide) rfl (fun ls hl => ?_)
        refine lv_iload_n (pc := 62) hx hb dX4_readNumber_62 rfl (lv_at hl 0 rfl) ?_
        refine lv_bipush (pc := 63) (v := 16) hx hb dX4_readNumber_63 (by decide) ?_
        refine lv_icmp_lt (pc := 65) (tgt := 70) hx hb dX4_readNumber_65 (by decide) (fun c65 => ?_) (fun c65 => ?_)
        · have h := h.1 c65
          refine lv_aload_n (pc := 70) hx hb dX4_readNumber_70 rfl (lv_at hl 2 rfl) ?_
          refine lv_dup (pc := 71) hx hb dX4_readNumber_71 rfl ?_
          refine g_get (pc := 72) (v := .int (σ 81 2)) C hM (by decide) ce_81 fl_RX4_29 rfl dX4_readNumber_72 ?_
          refine lv_iconst (pc := 75) (v := 1) hx hb dX4_readNumber_75 (by decide) ?_
          refine lv_iadd (pc := 76) hx hb dX4_readNumber_76 ?_
          refine g_putE (pc := 77) C hM (by decide) ce_81 fp_RX4_29 rfl rfl (Nat.le_of_ble_eq_true rfl) rfl dX4_readNumber_77 (fun s77 es77 H locs hM => ?_)
          have h := h s77 es77
          refine lv_iload_n (pc := 80) hx hb dX4_readNumber_80 rfl (lv_at hl 0 rfl) ?_
          exact hret 81 _ _ _ _ _ dX4_readNumber_81 (by rfl) h hM
        · have h := h.2 c65
          refine lv_iconst (pc := 68) (v := (-1)) hx hb dX4_readNumber_68 (by decide) ?_
          exact hret 69 _ _ _ _ _ dX4_readNumber_69 (by rfl) h hM
      · have h := h.2 c50
        refine lv_iload_n (pc := 53) hx hb dX4_readNumber_53 rfl (lv_at hl 2 rfl) ?_
        exact hret 54 _ _ _ _ _ dX4_readNumber_54 (by rfl) h hM)
  refine lv_aload_n (pc := 0) hx hb dX4_readNumber_0 rfl (lv_at hl 0 rfl) ?_
  refine lv_bipush (pc := 1) (v := 48) hx hb dX4_readNumber_1 (by decide) ?_
  refine lv_bipush (pc := 3) (v := 10) hx hb dX4_readNumber_3 (by decide) ?_
  refine g_cVi (pc := 5) C hM hl.1 yv_X4_acceptFrom q5_126 (by decide) ce_81 rfl (w_X4_acceptFrom l G x 48 10 σ _ h) rfl rfl ⟨⟨by decide, by decide⟩, by decide, by decide⟩ (Nat.le_of_ble_eq_true rfl) dX4_readNumber_5 (fun r5 s5 H locs h hM => ?_)
  refine lv_istore_n (pc := 8) (lv' := [(1, .int r5), (0, .ref (g_ad G 81))]) hx hb dX4_readNumber_8 rfl hl (by decide) rfl (fun ls hl => ?_)
  refine lv_iload_n (pc := 9) hx hb dX4_readNumber_9 rfl (lv_at hl 0 rfl) ?_
  refine lv_if_ge (pc := 10) (tgt := 15) hx hb dX4_readNumber_10 (by decide) (fun c10 => ?_) (fun c10 => ?_)
  · have h := h.1 c10
    refine lv_aload_n (pc := 15) hx hb dX4_readNumber_15 rfl (lv_at hl 1 rfl) ?_
    refine g_get (pc := 16) (v := .int (s5 81 2)) C hM (by decide) ce_81 fl_RX4_29 rfl dX4_readNumber_16 ?_
    refine lv_aload_n (pc := 19) hx hb dX4_readNumber_19 rfl (lv_at hl 1 rfl) ?_
    refine g_get (pc := 20) (v := .int (s5 81 1)) C hM (by decide) ce_81 fl_RX4_26 rfl dX4_readNumber_20 ?_
    refine lv_icmp_ge (pc := 23) (tgt := 41) hx hb dX4_readNumber_23 (by decide) (fun c23 => ?_) (fun c23 => ?_)
    · have h := h.1 c23
      refine lv_iconst (pc := 41) (v := (-1)) hx hb dX4_readNumber_41 (by decide) ?_
      exact h _ _ _ hM (lv_sub hl [1, 0] rfl)
    · have h := h.2 c23
      refine lv_aload_n (pc := 26) hx hb dX4_readNumber_26 rfl (lv_at hl 1 rfl) ?_
      refine g_get (pc := 27) (v := .ref (g_ad G 82)) C hM (by decide) ce_81 fl_RX4_9 rfl dX4_readNumber_27 ?_
      refine lv_aload_n (pc := 30) hx hb dX4_readNumber_30 rfl (lv_at hl 1 rfl) ?_
      refine g_get (pc := 31) (v := .int (s5 81 2)) C hM (by decide) ce_81 fl_RX4_29 rfl dX4_readNumber_31 ?_
      obtain ⟨hc, h⟩ := h
      refine g_caldK (pc := 34) C hM (by decide) ce_82 hc rfl dX4_readNumber_34 ?_
      refine lv_bipush (pc := 35) (v := 48) hx hb dX4_readNumber_35 (by decide) ?_
      refine lv_isub (pc := 37) hx hb dX4_readNumber_37 ?_
      refine lv_goto (pc := 38) (tgt := 42) hx hb dX4_readNumber_38 (by decide) ?_
      exact h _ _ _ hM (lv_sub hl [1, 0] rfl)
  · have h := h.2 c10
    refine lv_iconst (pc := 13) (v := (-1)) hx hb dX4_readNumber_13 (by decide) ?_
    exact hret 14 _ _ _ _ _ dX4_readNumber_14 (by rfl) h hM
abbrev rm_X4_readSet : Room := { frames := 2, cells := 0, slots := 0, locals := 45 }
theorem dX4_readSet_0 : decode cX4_readSet 0 = .ok (.iconst 0, 1) := by decide +kernel
theorem dX4_readSet_1 : decode cX4_readSet 1 = .ok (.istore_n 1, 1) := by decide +kernel
theorem dX4_readSet_2 : decode cX4_readSet 2 = .ok (.iconst 0, 1) := by decide +kernel
theorem dX4_readSet_3 : decode cX4_readSet 3 = .ok (.istore_n 2, 1) := by decide +kernel
theorem dX4_readSet_4 : decode cX4_readSet 4 = .ok (.iload_n 2, 1) := by decide +kernel
theorem dX4_readSet_5 : decode cX4_readSet 5 = .ok (.bipush 70, 2) := by decide +kernel
theorem dX4_readSet_7 : decode cX4_readSet 7 = .ok (.if_icmp .ge 48, 3) := by decide +kernel
theorem dX4_readSet_10 : decode cX4_readSet 10 = .ok (.aload_n 0, 1) := by decide +kernel
theorem dX4_readSet_11 : decode cX4_readSet 11 = .ok (.invokevirtual 69, 3) := by decide +kernel
theorem dX4_readSet_14 : decode cX4_readSet 14 = .ok (.istore_n 3, 1) := by decide +kernel
theorem dX4_readSet_15 : decode cX4_readSet 15 = .ok (.iload_n 3, 1) := by decide +kernel
theorem dX4_readSet_16 : decode cX4_readSet 16 = .ok (.ifCond .ge 5, 3) := by decide +kernel
theorem dX4_readSet_19 : decode cX4_readSet 19 = .ok (.iconst (-1), 1) := by decide +kernel
theorem dX4_readSet_20 : decode cX4_readSet 20 = .ok (.ireturn, 1) := by decide +kernel
theorem dX4_readSet_21 : decode cX4_readSet 21 = .ok (.iload_n 1, 1) := by decide +kernel
theorem dX4_readSet_22 : decode cX4_readSet 22 = .ok (.iconst 1, 1) := by decide +kernel
theorem dX4_readSet_23 : decode cX4_readSet 23 = .ok (.iload_n 3, 1) := by decide +kernel
theorem dX4_readSet_24 : decode cX4_readSet 24 = .ok (.ishl, 1) := by decide +kernel
theorem dX4_readSet_25 : decode cX4_readSet 25 = .ok (.ior, 1) := by decide +kernel
theorem dX4_readSet_26 : decode cX4_readSet 26 = .ok (.istore_n 1, 1) := by decide +kernel
theorem dX4_readSet_27 : decode cX4_readSet 27 = .ok (.aload_n 0, 1) := by decide +kernel
theorem dX4_readSet_28 : decode cX4_readSet 28 = .ok (.bipush 125, 2) := by decide +kernel
theorem dX4_readSet_30 : decode cX4_readSet 30 = .ok (.invokevirtual 43, 3) := by decide +kernel
theorem dX4_readSet_33 : decode cX4_readSet 33 = .ok (.ifCond .eq 5, 3) := by decide +kernel
theorem dX4_readSet_36 : decode cX4_readSet 36 = .ok (.iload_n 1, 1) := by decide +kernel
theorem dX4_readSet_37 : decode cX4_readSet 37 = .ok (.ireturn, 1) := by decide +kernel
theorem dX4_readSet_38 : decode cX4_readSet 38 = .ok (.aload_n 0, 1) := by decide +kernel
theorem dX4_readSet_39 : decode cX4_readSet 39 = .ok (.bipush 44, 2) := by decide +kernel
theorem dX4_readSet_41 : decode cX4_readSet 41 = .ok (.invokevirtual 43, 3) := by decide +kernel
theorem dX4_readSet_44 : decode cX4_readSet 44 = .ok (.ifCond .ne 5, 3) := by decide +kernel
theorem dX4_readSet_47 : decode cX4_readSet 47 = .ok (.iconst (-1), 1) := by decide +kernel
theorem dX4_readSet_48 : decode cX4_readSet 48 = .ok (.ireturn, 1) := by decide +kernel
theorem dX4_readSet_49 : decode cX4_readSet 49 = .ok (.iinc 2 1, 3) := by decide +kernel
theorem dX4_readSet_52 : decode cX4_readSet 52 = .ok (.goto (-48), 3) := by decide +kernel
theorem dX4_readSet_55 : decode cX4_readSet 55 = .ok (.iconst (-1), 1) := by decide +kernel
theorem dX4_readSet_56 : decode cX4_readSet 56 = .ok (.ireturn, 1) := by decide +kernel
set_option maxHeartbeats 4000000 in
set_option maxRecDepth 100000 in
theorem w_X4_readSet (l : Launch) (G : GP) (x : XP) (σ : Sto) (P : Int32 → Sto → Prop) (h : D_X4_readSet  σ P) : g_Meti l yX4_readSet cX4_readSet 4 (some .int) rm_X4_readSet G x [.ref (g_ad G 81)] σ P := by
  unfold D_X4_readSet at h
  refine g_ofWi (by decide +kernel) (Nat.le_of_ble_eq_true rfl) ?_
  intro p e s m args below meth c Q ls C hM hl hret
  have hx := C.1
  have hb := C.2.1
  have hl : lv_has ls 4 [(0, .ref (g_ad G 81))] := hl
  have h := h (fun (v1 : Int32) (v2 : Int32) (σ : Sto) => ∀ (H : Heap) (locs : List Loc) (ls : Array Slot), g_M G x σ s H locs → lv_has ls 4 [(0, .ref (g_ad G 81)), (1, .int v1), (2, .int v2)] → W p l e rm_X4_readSet s m args below meth c H locs 0 0 Q (F0 m 4 ls []))
  have h := h (by
    intro v1 v2 σ h  H locs ls hM hl
    refine lv_iload_n (pc := 4) hx hb dX4_readSet_4 rfl (lv_at hl 2 rfl) ?_
    refine lv_bipush (pc := 5) (v := 70) hx hb dX4_readSet_5 (by decide) ?_
    refine lv_icmp_ge (pc := 7) (tgt := 55) hx hb dX4_readSet_7 (by decide) (fun c7 => ?_) (fun c7 => ?_)
    · have h := h.1 c7
      refine lv_iconst (pc := 55) (v := (-1)) hx hb dX4_readSet_55 (by decide) ?_
      exact hret 56 _ _ _ _ _ dX4_readSet_56 (by rfl) h hM
    · have h := h.2 c7
      refine lv_aload_n (pc := 10) hx hb dX4_readSet_10 rfl (lv_at hl 0 rfl) ?_
      refine g_cVi (pc := 11) C hM hl.1 yv_X4_readNumber q5_151 (by decide) ce_81 rfl (w_X4_readNumber l G x  σ _ h) rfl rfl ⟨⟨by decide, by decide⟩, by decide, by decide⟩ (Nat.le_of_ble_eq_true rfl) dX4_readSet_11 (fun r11 s11 H locs h hM => ?_)
      refine lv_istore_n (pc := 14) (lv' := [(3, .int r11), (0, .ref (g_ad G 81)), (1, .int v1), (2, .int v2)]) hx hb dX4_readSet_14 rfl hl (by decide) rfl (fun ls hl => ?_)
      refine lv_iload_n (pc := 15) hx hb dX4_readSet_15 rfl (lv_at hl 0 rfl) ?_
      refine lv_if_ge (pc := 16) (tgt := 21) hx hb dX4_readSet_16 (by decide) (fun c16 => ?_) (fun c16 => ?_)
      · have h := h.1 c16
        refine lv_iload_n (pc := 21) hx hb dX4_readSet_21 rfl (lv_at hl 2 rfl) ?_
        refine lv_iconst (pc := 22) (v := 1) hx hb dX4_readSet_22 (by decide) ?_
        refine lv_iload_n (pc := 23) hx hb dX4_readSet_23 rfl (lv_at hl 0 rfl) ?_
        refine lv_ishl (pc := 24) hx hb dX4_readSet_24 ?_
        refine lv_ior (pc := 25) hx hb dX4_readSet_25 ?_
        refine lv_topi (fun v1_26 ev1_26 => ?_)
        have h := h v1_26 ev1_26
        refine lv_istore_n (pc := 26) (lv' := [(1, .int v1_26), (3, .int r11), (0, .ref (g_ad G 81)), (2, .int v2)]) hx hb dX4_readSet_26 rfl hl (by decide) rfl (fun ls hl => ?_)
        refine lv_aload_n (pc := 27) hx hb dX4_readSet_27 rfl (lv_at hl 2 rfl) ?_
        refine lv_bipush (pc := 28) (v := 125) hx hb dX4_readSet_28 (by decide) ?_
        refine g_cVi (pc := 30) C hM hl.1 yv_X4_accept q5_130 (by decide) ce_81 rfl (w_X4_accept l G x 125 s11 _ h) rfl rfl ⟨⟨by decide, by decide⟩, by decide, by decide⟩ (Nat.le_of_ble_eq_true rfl) dX4_readSet_30 (fun r30 s30 H locs h hM => ?_)
        refine lv_if_eq (pc := 33) (tgt := 38) hx hb dX4_readSet_33 (by decide) (fun c33 => ?_) (fun c33 => ?_)
        · have h := h.1 c33
          refine lv_aload_n (pc := 38) hx hb dX4_readSet_38 rfl (lv_at hl 2 rfl) ?_
          refine lv_bipush (pc := 39) (v := 44) hx hb dX4_readSet_39 (by decide) ?_
          refine g_cVi (pc := 41) C hM hl.1 yv_X4_accept q5_130 (by decide) ce_81 rfl (w_X4_accept l G x 44 s30 _ h) rfl rfl ⟨⟨by decide, by decide⟩, by decide, by decide⟩ (Nat.le_of_ble_eq_true rfl) dX4_readSet_41 (fun r41 s41 H locs h hM => ?_)
          refine lv_if_ne (pc := 44) (tgt := 49) hx hb dX4_readSet_44 (by decide) (fun c44 => ?_) (fun c44 => ?_)
          · have h := h.2 c44
            refine lv_iinc (pc := 49) (v := (v2 + 1)) (lv' := [(2, .int (v2 + 1)), (1, .int v1_26), (3, .int r11), (0, .ref (g_ad G 81))]) hx hb dX4_readSet_49 hl (k := 3) rfl (by rfl) (by decide) rfl (fun ls hl => ?_)
            refine lv_goto (pc := 52) (tgt := 4) hx hb dX4_readSet_52 (by decide) ?_
            exact h _ _ _ hM (lv_sub hl [3, 1, 0] rfl)
          · have h := h.1 c44
            refine lv_iconst (pc := 47) (v := (-1)) hx hb dX4_readSet_47 (by decide) ?_
            exact hret 48 _ _ _ _ _ dX4_readSet_48 (by rfl) h hM
        · have h := h.2 c33
          refine lv_iload_n (pc := 36) hx hb dX4_readSet_36 rfl (lv_at hl 0 rfl) ?_
          exact hret 37 _ _ _ _ _ dX4_readSet_37 (by rfl) h hM
      · have h := h.2 c16
        refine lv_iconst (pc := 19) (v := (-1)) hx hb dX4_readSet_19 (by decide) ?_
        exact hret 20 _ _ _ _ _ dX4_readSet_20 (by rfl) h hM)
  refine lv_iconst (pc := 0) (v := 0) hx hb dX4_readSet_0 (by decide) ?_
  refine lv_istore_n (pc := 1) (lv' := [(1, .int 0), (0, .ref (g_ad G 81))]) hx hb dX4_readSet_1 rfl hl (by decide) rfl (fun ls hl => ?_)
  refine lv_iconst (pc := 2) (v := 0) hx hb dX4_readSet_2 (by decide) ?_
  refine lv_istore_n (pc := 3) (lv' := [(2, .int 0), (1, .int 0), (0, .ref (g_ad G 81))]) hx hb dX4_readSet_3 rfl hl (by decide) rfl (fun ls hl => ?_)
  exact h _ _ _ hM (lv_sub hl [2, 1, 0] rfl)
abbrev rm_X4_readCondition : Room := { frames := 3, cells := 0, slots := 0, locals := 68 }
theorem dX4_readCondition_0 : decode cX4_readCondition 0 = .ok (.aload_n 0, 1) := by decide +kernel
theorem dX4_readCondition_1 : decode cX4_readCondition 1 = .ok (.bipush 97, 2) := by decide +kernel
theorem dX4_readCondition_3 : decode cX4_readCondition 3 = .ok (.bipush 6, 2) := by decide +kernel
theorem dX4_readCondition_5 : decode cX4_readCondition 5 = .ok (.invokevirtual 39, 3) := by decide +kernel
theorem dX4_readCondition_8 : decode cX4_readCondition 8 = .ok (.istore_n 2, 1) := by decide +kernel
theorem dX4_readCondition_9 : decode cX4_readCondition 9 = .ok (.iload_n 2, 1) := by decide +kernel
theorem dX4_readCondition_10 : decode cX4_readCondition 10 = .ok (.ifCond .ge 5, 3) := by decide +kernel
theorem dX4_readCondition_13 : decode cX4_readCondition 13 = .ok (.iconst 0, 1) := by decide +kernel
theorem dX4_readCondition_14 : decode cX4_readCondition 14 = .ok (.ireturn, 1) := by decide +kernel
theorem dX4_readCondition_15 : decode cX4_readCondition 15 = .ok (.aload_n 0, 1) := by decide +kernel
theorem dX4_readCondition_16 : decode cX4_readCondition 16 = .ok (.invokevirtual 62, 3) := by decide +kernel
theorem dX4_readCondition_19 : decode cX4_readCondition 19 = .ok (.istore_n 3, 1) := by decide +kernel
theorem dX4_readCondition_20 : decode cX4_readCondition 20 = .ok (.iload_n 3, 1) := by decide +kernel
theorem dX4_readCondition_21 : decode cX4_readCondition 21 = .ok (.iconst 4, 1) := by decide +kernel
theorem dX4_readCondition_22 : decode cX4_readCondition 22 = .ok (.if_icmp .ne 10, 3) := by decide +kernel
theorem dX4_readCondition_25 : decode cX4_readCondition 25 = .ok (.aload_n 0, 1) := by decide +kernel
theorem dX4_readCondition_26 : decode cX4_readCondition 26 = .ok (.invokevirtual 66, 3) := by decide +kernel
theorem dX4_readCondition_29 : decode cX4_readCondition 29 = .ok (.goto 15, 3) := by decide +kernel
theorem dX4_readCondition_32 : decode cX4_readCondition 32 = .ok (.iload_n 3, 1) := by decide +kernel
theorem dX4_readCondition_33 : decode cX4_readCondition 33 = .ok (.ifCond .ge 7, 3) := by decide +kernel
theorem dX4_readCondition_36 : decode cX4_readCondition 36 = .ok (.iconst (-1), 1) := by decide +kernel
theorem dX4_readCondition_37 : decode cX4_readCondition 37 = .ok (.goto 7, 3) := by decide +kernel
theorem dX4_readCondition_40 : decode cX4_readCondition 40 = .ok (.aload_n 0, 1) := by decide +kernel
theorem dX4_readCondition_41 : decode cX4_readCondition 41 = .ok (.invokevirtual 69, 3) := by decide +kernel
theorem dX4_readCondition_44 : decode cX4_readCondition 44 = .ok (.istore 4, 2) := by decide +kernel
theorem dX4_readCondition_46 : decode cX4_readCondition 46 = .ok (.iload 4, 2) := by decide +kernel
theorem dX4_readCondition_48 : decode cX4_readCondition 48 = .ok (.ifCond .ge 5, 3) := by decide +kernel
theorem dX4_readCondition_51 : decode cX4_readCondition 51 = .ok (.iconst 0, 1) := by decide +kernel
theorem dX4_readCondition_52 : decode cX4_readCondition 52 = .ok (.ireturn, 1) := by decide +kernel
theorem dX4_readCondition_53 : decode cX4_readCondition 53 = .ok (.aload_n 0, 1) := by decide +kernel
theorem dX4_readCondition_54 : decode cX4_readCondition 54 = .ok (.getfield 18, 3) := by decide +kernel
theorem dX4_readCondition_57 : decode cX4_readCondition 57 = .ok (.iload_n 1, 1) := by decide +kernel
theorem dX4_readCondition_58 : decode cX4_readCondition 58 = .ok (.iload_n 2, 1) := by decide +kernel
theorem dX4_readCondition_59 : decode cX4_readCondition 59 = .ok (.iload_n 3, 1) := by decide +kernel
theorem dX4_readCondition_60 : decode cX4_readCondition 60 = .ok (.iload 4, 2) := by decide +kernel
theorem dX4_readCondition_62 : decode cX4_readCondition 62 = .ok (.invokevirtual 72, 3) := by decide +kernel
theorem dX4_readCondition_65 : decode cX4_readCondition 65 = .ok (.pop, 1) := by decide +kernel
theorem dX4_readCondition_66 : decode cX4_readCondition 66 = .ok (.iconst 1, 1) := by decide +kernel
theorem dX4_readCondition_67 : decode cX4_readCondition 67 = .ok (.ireturn, 1) := by decide +kernel
set_option maxHeartbeats 4000000 in
set_option maxRecDepth 100000 in
theorem w_X4_readCondition (l : Launch) (G : GP) (x : XP) (a1 : Int32) (σ : Sto) (P : Int32 → Sto → Prop) (h : D_X4_readCondition a1 σ P) : g_Meti l yX4_readCondition cX4_readCondition 5 (some .boolean) rm_X4_readCondition G x [.ref (g_ad G 81), .int a1] σ P := by
  unfold D_X4_readCondition at h
  refine g_ofWi (by decide +kernel) (Nat.le_of_ble_eq_true rfl) ?_
  intro p e s m args below meth c Q ls C hM hl hret
  have hx := C.1
  have hb := C.2.1
  have hl : lv_has ls 5 [(0, .ref (g_ad G 81)), (1, .int a1)] := hl
  have h := h (fun (v2 : Int32) (v3 : Int32) (t0 : Int32) (σ : Sto) => ∀ (H : Heap) (locs : List Loc) (ls : Array Slot), g_M G x σ s H locs → lv_has ls 5 [(0, .ref (g_ad G 81)), (1, .int a1), (2, .int v2), (3, .int v3)] → W p l e rm_X4_readCondition s m args below meth c H locs 0 0 Q (F0 m 44 ls [.int t0]))
  have h := h (by
    intro v2 v3 t0 σ h  H locs ls hM hl
    refine lv_istore (pc := 44) (lv' := [(4, .int t0), (0, .ref (g_ad G 81)), (1, .int a1), (2, .int v2), (3, .int v3)]) hx hb dX4_readCondition_44 hl (by decide) rfl (fun ls hl => ?_)
    refine lv_iload (pc := 46) hx hb dX4_readCondition_46 (lv_at hl 0 rfl) ?_
    refine lv_if_ge (pc := 48) (tgt := 53) hx hb dX4_readCondition_48 (by decide) (fun c48 => ?_) (fun c48 => ?_)
    · have h := h.1 c48
      refine lv_aload_n (pc := 53) hx hb dX4_readCondition_53 rfl (lv_at hl 1 rfl) ?_
      refine g_get (pc := 54) (v := .ref (g_ad G 61)) C hM (by decide) ce_81 fl_RX4_18 rfl dX4_readCondition_54 ?_
      refine lv_iload_n (pc := 57) hx hb dX4_readCondition_57 rfl (lv_at hl 2 rfl) ?_
      refine lv_iload_n (pc := 58) hx hb dX4_readCondition_58 rfl (lv_at hl 3 rfl) ?_
      refine lv_iload_n (pc := 59) hx hb dX4_readCondition_59 rfl (lv_at hl 4 rfl) ?_
      refine lv_iload (pc := 60) hx hb dX4_readCondition_60 (lv_at hl 0 rfl) ?_
      refine g_cVi (pc := 62) C hM hl.1 yv_X6_addConditionTo q5_155 (by decide) ce_61 rfl (w_X6_addConditionTo l G x 61 a1 v2 v3 t0 σ _ h) rfl rfl ⟨⟨by decide, by decide⟩, by decide, by decide⟩ (Nat.le_of_ble_eq_true rfl) dX4_readCondition_62 (fun r62 s62 H locs h hM => ?_)
      refine lv_pop (pc := 65) hx hb dX4_readCondition_65 rfl ?_
      refine lv_iconst (pc := 66) (v := 1) hx hb dX4_readCondition_66 (by decide) ?_
      exact hret 67 _ _ _ _ _ dX4_readCondition_67 (by rfl) h hM
    · have h := h.2 c48
      refine lv_iconst (pc := 51) (v := 0) hx hb dX4_readCondition_51 (by decide) ?_
      exact hret 52 _ _ _ _ _ dX4_readCondition_52 (by rfl) h hM)
  refine lv_aload_n (pc := 0) hx hb dX4_readCondition_0 rfl (lv_at hl 0 rfl) ?_
  refine lv_bipush (pc := 1) (v := 97) hx hb dX4_readCondition_1 (by decide) ?_
  refine lv_bipush (pc := 3) (v := 6) hx hb dX4_readCondition_3 (by decide) ?_
  refine g_cVi (pc := 5) C hM hl.1 yv_X4_acceptFrom q5_126 (by decide) ce_81 rfl (w_X4_acceptFrom l G x 97 6 σ _ h) rfl rfl ⟨⟨by decide, by decide⟩, by decide, by decide⟩ (Nat.le_of_ble_eq_true rfl) dX4_readCondition_5 (fun r5 s5 H locs h hM => ?_)
  refine lv_istore_n (pc := 8) (lv' := [(2, .int r5), (0, .ref (g_ad G 81)), (1, .int a1)]) hx hb dX4_readCondition_8 rfl hl (by decide) rfl (fun ls hl => ?_)
  refine lv_iload_n (pc := 9) hx hb dX4_readCondition_9 rfl (lv_at hl 0 rfl) ?_
  refine lv_if_ge (pc := 10) (tgt := 15) hx hb dX4_readCondition_10 (by decide) (fun c10 => ?_) (fun c10 => ?_)
  · have h := h.1 c10
    refine lv_aload_n (pc := 15) hx hb dX4_readCondition_15 rfl (lv_at hl 1 rfl) ?_
    refine g_cVi (pc := 16) C hM hl.1 yv_X4_acceptKind q5_143 (by decide) ce_81 rfl (w_X4_acceptKind l G x  s5 _ h) rfl rfl ⟨⟨by decide, by decide⟩, by decide, by decide⟩ (Nat.le_of_ble_eq_true rfl) dX4_readCondition_16 (fun r16 s16 H locs h hM => ?_)
    refine lv_istore_n (pc := 19) (lv' := [(3, .int r16), (2, .int r5), (0, .ref (g_ad G 81)), (1, .int a1)]) hx hb dX4_readCondition_19 rfl hl (by decide) rfl (fun ls hl => ?_)
    refine lv_iload_n (pc := 20) hx hb dX4_readCondition_20 rfl (lv_at hl 0 rfl) ?_
    refine lv_iconst (pc := 21) (v := 4) hx hb dX4_readCondition_21 (by decide) ?_
    refine lv_icmp_ne (pc := 22) (tgt := 32) hx hb dX4_readCondition_22 (by decide) (fun c22 => ?_) (fun c22 => ?_)
    · have h := h.2 c22
      refine lv_iload_n (pc := 32) hx hb dX4_readCondition_32 rfl (lv_at hl 0 rfl) ?_
      refine lv_if_ge (pc := 33) (tgt := 40) hx hb dX4_readCondition_33 (by decide) (fun c33 => ?_) (fun c33 => ?_)
      · have h := h.1 c33
        refine lv_aload_n (pc := 40) hx hb dX4_readCondition_40 rfl (lv_at hl 2 rfl) ?_
        refine g_cVi (pc := 41) C hM hl.1 yv_X4_readNumber q5_151 (by decide) ce_81 rfl (w_X4_readNumber l G x  s16 _ h) rfl rfl ⟨⟨by decide, by decide⟩, by decide, by decide⟩ (Nat.le_of_ble_eq_true rfl) dX4_readCondition_41 (fun r41 s41 H locs h hM => ?_)
        exact h _ _ _ hM (lv_sub hl [2, 3, 1, 0] rfl)
      · have h := h.2 c33
        refine lv_iconst (pc := 36) (v := (-1)) hx hb dX4_readCondition_36 (by decide) ?_
        refine lv_goto (pc := 37) (tgt := 44) hx hb dX4_readCondition_37 (by decide) ?_
        exact h _ _ _ hM (lv_sub hl [2, 3, 1, 0] rfl)
    · have h := h.1 c22
      refine lv_aload_n (pc := 25) hx hb dX4_readCondition_25 rfl (lv_at hl 2 rfl) ?_
      refine g_cVi (pc := 26) C hM hl.1 yv_X4_readSet q5_147 (by decide) ce_81 rfl (w_X4_readSet l G x  s16 _ h) rfl rfl ⟨⟨by decide, by decide⟩, by decide, by decide⟩ (Nat.le_of_ble_eq_true rfl) dX4_readCondition_26 (fun r26 s26 H locs h hM => ?_)
      refine lv_goto (pc := 29) (tgt := 44) hx hb dX4_readCondition_29 (by decide) ?_
      exact h _ _ _ hM (lv_sub hl [2, 3, 1, 0] rfl)
  · have h := h.2 c10
    refine lv_iconst (pc := 13) (v := 0) hx hb dX4_readCondition_13 (by decide) ?_
    exact hret 14 _ _ _ _ _ dX4_readCondition_14 (by rfl) h hM
abbrev rm_X4_readConditions : Room := { frames := 4, cells := 0, slots := 0, locals := 92 }
theorem dX4_readConditions_0 : decode cX4_readConditions 0 = .ok (.aload_n 0, 1) := by decide +kernel
theorem dX4_readConditions_1 : decode cX4_readConditions 1 = .ok (.bipush 58, 2) := by decide +kernel
theorem dX4_readConditions_3 : decode cX4_readConditions 3 = .ok (.invokevirtual 43, 3) := by decide +kernel
theorem dX4_readConditions_6 : decode cX4_readConditions 6 = .ok (.ifCond .eq 5, 3) := by decide +kernel
theorem dX4_readConditions_9 : decode cX4_readConditions 9 = .ok (.iconst 1, 1) := by decide +kernel
theorem dX4_readConditions_10 : decode cX4_readConditions 10 = .ok (.ireturn, 1) := by decide +kernel
theorem dX4_readConditions_11 : decode cX4_readConditions 11 = .ok (.iconst 0, 1) := by decide +kernel
theorem dX4_readConditions_12 : decode cX4_readConditions 12 = .ok (.istore_n 2, 1) := by decide +kernel
theorem dX4_readConditions_13 : decode cX4_readConditions 13 = .ok (.iload_n 2, 1) := by decide +kernel
theorem dX4_readConditions_14 : decode cX4_readConditions 14 = .ok (.iconst 4, 1) := by decide +kernel
theorem dX4_readConditions_15 : decode cX4_readConditions 15 = .ok (.if_icmp .ge 45, 3) := by decide +kernel
theorem dX4_readConditions_18 : decode cX4_readConditions 18 = .ok (.iload_n 2, 1) := by decide +kernel
theorem dX4_readConditions_19 : decode cX4_readConditions 19 = .ok (.ifCond .le 14, 3) := by decide +kernel
theorem dX4_readConditions_22 : decode cX4_readConditions 22 = .ok (.aload_n 0, 1) := by decide +kernel
theorem dX4_readConditions_23 : decode cX4_readConditions 23 = .ok (.bipush 38, 2) := by decide +kernel
theorem dX4_readConditions_25 : decode cX4_readConditions 25 = .ok (.invokevirtual 43, 3) := by decide +kernel
theorem dX4_readConditions_28 : decode cX4_readConditions 28 = .ok (.ifCond .ne 5, 3) := by decide +kernel
theorem dX4_readConditions_31 : decode cX4_readConditions 31 = .ok (.iconst 0, 1) := by decide +kernel
theorem dX4_readConditions_32 : decode cX4_readConditions 32 = .ok (.ireturn, 1) := by decide +kernel
theorem dX4_readConditions_33 : decode cX4_readConditions 33 = .ok (.aload_n 0, 1) := by decide +kernel
theorem dX4_readConditions_34 : decode cX4_readConditions 34 = .ok (.iload_n 1, 1) := by decide +kernel
theorem dX4_readConditions_35 : decode cX4_readConditions 35 = .ok (.invokevirtual 59, 3) := by decide +kernel
theorem dX4_readConditions_38 : decode cX4_readConditions 38 = .ok (.ifCond .ne 5, 3) := by decide +kernel
theorem dX4_readConditions_41 : decode cX4_readConditions 41 = .ok (.iconst 0, 1) := by decide +kernel
theorem dX4_readConditions_42 : decode cX4_readConditions 42 = .ok (.ireturn, 1) := by decide +kernel
theorem dX4_readConditions_43 : decode cX4_readConditions 43 = .ok (.aload_n 0, 1) := by decide +kernel
theorem dX4_readConditions_44 : decode cX4_readConditions 44 = .ok (.bipush 58, 2) := by decide +kernel
theorem dX4_readConditions_46 : decode cX4_readConditions 46 = .ok (.invokevirtual 43, 3) := by decide +kernel
theorem dX4_readConditions_49 : decode cX4_readConditions 49 = .ok (.ifCond .eq 5, 3) := by decide +kernel
theorem dX4_readConditions_52 : decode cX4_readConditions 52 = .ok (.iconst 1, 1) := by decide +kernel
theorem dX4_readConditions_53 : decode cX4_readConditions 53 = .ok (.ireturn, 1) := by decide +kernel
theorem dX4_readConditions_54 : decode cX4_readConditions 54 = .ok (.iinc 2 1, 3) := by decide +kernel
theorem dX4_readConditions_57 : decode cX4_readConditions 57 = .ok (.goto (-44), 3) := by decide +kernel
theorem dX4_readConditions_60 : decode cX4_readConditions 60 = .ok (.iconst 0, 1) := by decide +kernel
theorem dX4_readConditions_61 : decode cX4_readConditions 61 = .ok (.ireturn, 1) := by decide +kernel
set_option maxHeartbeats 4000000 in
set_option maxRecDepth 100000 in
theorem w_X4_readConditions (l : Launch) (G : GP) (x : XP) (a1 : Int32) (σ : Sto) (P : Int32 → Sto → Prop) (h : D_X4_readConditions a1 σ P) : g_Meti l yX4_readConditions cX4_readConditions 3 (some .boolean) rm_X4_readConditions G x [.ref (g_ad G 81), .int a1] σ P := by
  unfold D_X4_readConditions at h
  refine g_ofWi (by decide +kernel) (Nat.le_of_ble_eq_true rfl) ?_
  intro p e s m args below meth c Q ls C hM hl hret
  have hx := C.1
  have hb := C.2.1
  have hl : lv_has ls 3 [(0, .ref (g_ad G 81)), (1, .int a1)] := hl
  have h := h (fun (v2 : Int32) (σ : Sto) => ∀ (H : Heap) (locs : List Loc) (ls : Array Slot), g_M G x σ s H locs → lv_has ls 3 [(0, .ref (g_ad G 81)), (1, .int a1), (2, .int v2)] → W p l e rm_X4_readConditions s m args below meth c H locs 0 0 Q (F0 m 13 ls [])) (fun (v2 : Int32) (σ : Sto) => ∀ (H : Heap) (locs : List Loc) (ls : Array Slot), g_M G x σ s H locs → lv_has ls 3 [(0, .ref (g_ad G 81)), (1, .int a1), (2, .int v2)] → W p l e rm_X4_readConditions s m args below meth c H locs 0 0 Q (F0 m 33 ls []))
  have h := h (by
    intro v2 σ h  H locs ls hM hl
    refine lv_iload_n (pc := 13) hx hb dX4_readConditions_13 rfl (lv_at hl 2 rfl) ?_
    refine lv_iconst (pc := 14) (v := 4) hx hb dX4_readConditions_14 (by decide) ?_
    refine lv_icmp_ge (pc := 15) (tgt := 60) hx hb dX4_readConditions_15 (by decide) (fun c15 => ?_) (fun c15 => ?_)
    · have h := h.1 c15
      refine lv_iconst (pc := 60) (v := 0) hx hb dX4_readConditions_60 (by decide) ?_
      exact hret 61 _ _ _ _ _ dX4_readConditions_61 (by rfl) h hM
    · have h := h.2 c15
      refine lv_iload_n (pc := 18) hx hb dX4_readConditions_18 rfl (lv_at hl 2 rfl) ?_
      refine lv_if_le (pc := 19) (tgt := 33) hx hb dX4_readConditions_19 (by decide) (fun c19 => ?_) (fun c19 => ?_)
      · have h := h.1 c19
        exact h _ _ _ hM (lv_sub hl [0, 1, 2] rfl)
      · have h := h.2 c19
        refine lv_aload_n (pc := 22) hx hb dX4_readConditions_22 rfl (lv_at hl 0 rfl) ?_
        refine lv_bipush (pc := 23) (v := 38) hx hb dX4_readConditions_23 (by decide) ?_
        refine g_cVi (pc := 25) C hM hl.1 yv_X4_accept q5_130 (by decide) ce_81 rfl (w_X4_accept l G x 38 σ _ h) rfl rfl ⟨⟨by decide, by decide⟩, by decide, by decide⟩ (Nat.le_of_ble_eq_true rfl) dX4_readConditions_25 (fun r25 s25 H locs h hM => ?_)
        refine lv_if_ne (pc := 28) (tgt := 33) hx hb dX4_readConditions_28 (by decide) (fun c28 => ?_) (fun c28 => ?_)
        · have h := h.2 c28
          exact h _ _ _ hM (lv_sub hl [0, 1, 2] rfl)
        · have h := h.1 c28
          refine lv_iconst (pc := 31) (v := 0) hx hb dX4_readConditions_31 (by decide) ?_
          exact hret 32 _ _ _ _ _ dX4_readConditions_32 (by rfl) h hM)
  have h := h (by
    intro v2 σ h  H locs ls hM hl
    refine lv_aload_n (pc := 33) hx hb dX4_readConditions_33 rfl (lv_at hl 0 rfl) ?_
    refine lv_iload_n (pc := 34) hx hb dX4_readConditions_34 rfl (lv_at hl 1 rfl) ?_
    refine g_cVi (pc := 35) C hM hl.1 yv_X4_readCondition q5_139 (by decide) ce_81 rfl (w_X4_readCondition l G x a1 σ _ h) rfl rfl ⟨⟨by decide, by decide⟩, by decide, by decide⟩ (Nat.le_of_ble_eq_true rfl) dX4_readConditions_35 (fun r35 s35 H locs h hM => ?_)
    refine lv_if_ne (pc := 38) (tgt := 43) hx hb dX4_readConditions_38 (by decide) (fun c38 => ?_) (fun c38 => ?_)
    · have h := h.2 c38
      refine lv_aload_n (pc := 43) hx hb dX4_readConditions_43 rfl (lv_at hl 0 rfl) ?_
      refine lv_bipush (pc := 44) (v := 58) hx hb dX4_readConditions_44 (by decide) ?_
      refine g_cVi (pc := 46) C hM hl.1 yv_X4_accept q5_130 (by decide) ce_81 rfl (w_X4_accept l G x 58 s35 _ h) rfl rfl ⟨⟨by decide, by decide⟩, by decide, by decide⟩ (Nat.le_of_ble_eq_true rfl) dX4_readConditions_46 (fun r46 s46 H locs h hM => ?_)
      refine lv_if_eq (pc := 49) (tgt := 54) hx hb dX4_readConditions_49 (by decide) (fun c49 => ?_) (fun c49 => ?_)
      · have h := h.1 c49
        refine lv_iinc (pc := 54) (v := (v2 + 1)) (lv' := [(2, .int (v2 + 1)), (0, .ref (g_ad G 81)), (1, .int a1)]) hx hb dX4_readConditions_54 hl (k := 2) rfl (by rfl) (by decide) rfl (fun ls hl => ?_)
        refine lv_goto (pc := 57) (tgt := 13) hx hb dX4_readConditions_57 (by decide) ?_
        exact h _ _ _ hM (lv_sub hl [1, 2, 0] rfl)
      · have h := h.2 c49
        refine lv_iconst (pc := 52) (v := 1) hx hb dX4_readConditions_52 (by decide) ?_
        exact hret 53 _ _ _ _ _ dX4_readConditions_53 (by rfl) h hM
    · have h := h.1 c38
      refine lv_iconst (pc := 41) (v := 0) hx hb dX4_readConditions_41 (by decide) ?_
      exact hret 42 _ _ _ _ _ dX4_readConditions_42 (by rfl) h hM)
  refine lv_aload_n (pc := 0) hx hb dX4_readConditions_0 rfl (lv_at hl 0 rfl) ?_
  refine lv_bipush (pc := 1) (v := 58) hx hb dX4_readConditions_1 (by decide) ?_
  refine g_cVi (pc := 3) C hM hl.1 yv_X4_accept q5_130 (by decide) ce_81 rfl (w_X4_accept l G x 58 σ _ h) rfl rfl ⟨⟨by decide, by decide⟩, by decide, by decide⟩ (Nat.le_of_ble_eq_true rfl) dX4_readConditions_3 (fun r3 s3 H locs h hM => ?_)
  refine lv_if_eq (pc := 6) (tgt := 11) hx hb dX4_readConditions_6 (by decide) (fun c6 => ?_) (fun c6 => ?_)
  · have h := h.1 c6
    refine lv_iconst (pc := 11) (v := 0) hx hb dX4_readConditions_11 (by decide) ?_
    refine lv_istore_n (pc := 12) (lv' := [(2, .int 0), (0, .ref (g_ad G 81)), (1, .int a1)]) hx hb dX4_readConditions_12 rfl hl (by decide) rfl (fun ls hl => ?_)
    exact h _ _ _ hM (lv_sub hl [1, 2, 0] rfl)
  · have h := h.2 c6
    refine lv_iconst (pc := 9) (v := 1) hx hb dX4_readConditions_9 (by decide) ?_
    exact hret 10 _ _ _ _ _ dX4_readConditions_10 (by rfl) h hM
abbrev rm_X4_readRule : Room := { frames := 5, cells := 0, slots := 0, locals := 114 }
theorem dX4_readRule_0 : decode cX4_readRule 0 = .ok (.aload_n 0, 1) := by decide +kernel
theorem dX4_readRule_1 : decode cX4_readRule 1 = .ok (.bipush 48, 2) := by decide +kernel
theorem dX4_readRule_3 : decode cX4_readRule 3 = .ok (.iconst 4, 1) := by decide +kernel
theorem dX4_readRule_4 : decode cX4_readRule 4 = .ok (.invokevirtual 39, 3) := by decide +kernel
theorem dX4_readRule_7 : decode cX4_readRule 7 = .ok (.istore_n 1, 1) := by decide +kernel
theorem dX4_readRule_8 : decode cX4_readRule 8 = .ok (.iload_n 1, 1) := by decide +kernel
theorem dX4_readRule_9 : decode cX4_readRule 9 = .ok (.ifCond .ge 5, 3) := by decide +kernel
theorem dX4_readRule_12 : decode cX4_readRule 12 = .ok (.iconst 0, 1) := by decide +kernel
theorem dX4_readRule_13 : decode cX4_readRule 13 = .ok (.ireturn, 1) := by decide +kernel
theorem dX4_readRule_14 : decode cX4_readRule 14 = .ok (.aload_n 0, 1) := by decide +kernel
theorem dX4_readRule_15 : decode cX4_readRule 15 = .ok (.bipush 45, 2) := by decide +kernel
theorem dX4_readRule_17 : decode cX4_readRule 17 = .ok (.invokevirtual 43, 3) := by decide +kernel
theorem dX4_readRule_20 : decode cX4_readRule 20 = .ok (.istore_n 2, 1) := by decide +kernel
theorem dX4_readRule_21 : decode cX4_readRule 21 = .ok (.iload_n 2, 1) := by decide +kernel
theorem dX4_readRule_22 : decode cX4_readRule 22 = .ok (.ifCond .ne 14, 3) := by decide +kernel
theorem dX4_readRule_25 : decode cX4_readRule 25 = .ok (.aload_n 0, 1) := by decide +kernel
theorem dX4_readRule_26 : decode cX4_readRule 26 = .ok (.bipush 43, 2) := by decide +kernel
theorem dX4_readRule_28 : decode cX4_readRule 28 = .ok (.invokevirtual 43, 3) := by decide +kernel
theorem dX4_readRule_31 : decode cX4_readRule 31 = .ok (.ifCond .ne 5, 3) := by decide +kernel
theorem dX4_readRule_34 : decode cX4_readRule 34 = .ok (.iconst 0, 1) := by decide +kernel
theorem dX4_readRule_35 : decode cX4_readRule 35 = .ok (.ireturn, 1) := by decide +kernel
theorem dX4_readRule_36 : decode cX4_readRule 36 = .ok (.aload_n 0, 1) := by decide +kernel
theorem dX4_readRule_37 : decode cX4_readRule 37 = .ok (.getfield 18, 3) := by decide +kernel
theorem dX4_readRule_40 : decode cX4_readRule 40 = .ok (.iload_n 1, 1) := by decide +kernel
theorem dX4_readRule_41 : decode cX4_readRule 41 = .ok (.iload_n 2, 1) := by decide +kernel
theorem dX4_readRule_42 : decode cX4_readRule 42 = .ok (.ifCond .eq 7, 3) := by decide +kernel
theorem dX4_readRule_45 : decode cX4_readRule 45 = .ok (.iconst 1, 1) := by decide +kernel
theorem dX4_readRule_46 : decode cX4_readRule 46 = .ok (.goto 4, 3) := by decide +kernel
theorem dX4_readRule_49 : decode cX4_readRule 49 = .ok (.iconst 0, 1) := by decide +kernel
theorem dX4_readRule_50 : decode cX4_readRule 50 = .ok (.iconst 0, 1) := by decide +kernel
theorem dX4_readRule_51 : decode cX4_readRule 51 = .ok (.invokevirtual 47, 3) := by decide +kernel
theorem dX4_readRule_54 : decode cX4_readRule 54 = .ok (.istore_n 3, 1) := by decide +kernel
theorem dX4_readRule_55 : decode cX4_readRule 55 = .ok (.aload_n 0, 1) := by decide +kernel
theorem dX4_readRule_56 : decode cX4_readRule 56 = .ok (.iload_n 3, 1) := by decide +kernel
theorem dX4_readRule_57 : decode cX4_readRule 57 = .ok (.invokevirtual 51, 3) := by decide +kernel
theorem dX4_readRule_60 : decode cX4_readRule 60 = .ok (.ifCond .ne 5, 3) := by decide +kernel
theorem dX4_readRule_63 : decode cX4_readRule 63 = .ok (.iconst 0, 1) := by decide +kernel
theorem dX4_readRule_64 : decode cX4_readRule 64 = .ok (.ireturn, 1) := by decide +kernel
theorem dX4_readRule_65 : decode cX4_readRule 65 = .ok (.aload_n 0, 1) := by decide +kernel
theorem dX4_readRule_66 : decode cX4_readRule 66 = .ok (.bipush 48, 2) := by decide +kernel
theorem dX4_readRule_68 : decode cX4_readRule 68 = .ok (.bipush 10, 2) := by decide +kernel
theorem dX4_readRule_70 : decode cX4_readRule 70 = .ok (.invokevirtual 39, 3) := by decide +kernel
theorem dX4_readRule_73 : decode cX4_readRule 73 = .ok (.istore 4, 2) := by decide +kernel
theorem dX4_readRule_75 : decode cX4_readRule 75 = .ok (.iload 4, 2) := by decide +kernel
theorem dX4_readRule_77 : decode cX4_readRule 77 = .ok (.ifCond .ge 5, 3) := by decide +kernel
theorem dX4_readRule_80 : decode cX4_readRule 80 = .ok (.iconst 0, 1) := by decide +kernel
theorem dX4_readRule_81 : decode cX4_readRule 81 = .ok (.ireturn, 1) := by decide +kernel
theorem dX4_readRule_82 : decode cX4_readRule 82 = .ok (.aload_n 0, 1) := by decide +kernel
theorem dX4_readRule_83 : decode cX4_readRule 83 = .ok (.getfield 18, 3) := by decide +kernel
theorem dX4_readRule_86 : decode cX4_readRule 86 = .ok (.iload_n 3, 1) := by decide +kernel
theorem dX4_readRule_87 : decode cX4_readRule 87 = .ok (.iload 4, 2) := by decide +kernel
theorem dX4_readRule_89 : decode cX4_readRule 89 = .ok (.invokevirtual 55, 3) := by decide +kernel
theorem dX4_readRule_92 : decode cX4_readRule 92 = .ok (.aload_n 0, 1) := by decide +kernel
theorem dX4_readRule_93 : decode cX4_readRule 93 = .ok (.bipush 59, 2) := by decide +kernel
theorem dX4_readRule_95 : decode cX4_readRule 95 = .ok (.invokevirtual 43, 3) := by decide +kernel
theorem dX4_readRule_98 : decode cX4_readRule 98 = .ok (.ireturn, 1) := by decide +kernel
set_option maxHeartbeats 4000000 in
set_option maxRecDepth 100000 in
theorem w_X4_readRule (l : Launch) (G : GP) (x : XP) (σ : Sto) (P : Int32 → Sto → Prop) (h : D_X4_readRule  σ P) : g_Meti l yX4_readRule cX4_readRule 5 (some .boolean) rm_X4_readRule G x [.ref (g_ad G 81)] σ P := by
  unfold D_X4_readRule at h
  refine g_ofWi (by decide +kernel) (Nat.le_of_ble_eq_true rfl) ?_
  intro p e s m args below meth c Q ls C hM hl hret
  have hx := C.1
  have hb := C.2.1
  have hl : lv_has ls 5 [(0, .ref (g_ad G 81))] := hl
  have h := h (fun (t0 : Int32) (t1 : Int32) (σ : Sto) => ∀ (H : Heap) (locs : List Loc) (ls : Array Slot), g_M G x σ s H locs → lv_has ls 5 [(0, .ref (g_ad G 81))] → W p l e rm_X4_readRule s m args below meth c H locs 0 0 Q (F0 m 50 ls [.int t1, .int t0, .ref (g_ad G 61)]))
  have h := h (by
    intro t0 t1 σ h  H locs ls hM hl
    refine lv_iconst (pc := 50) (v := 0) hx hb dX4_readRule_50 (by decide) ?_
    refine g_cVi (pc := 51) C hM hl.1 yv_X6_addOne q5_134 (by decide) ce_61 rfl (w_X6_addOne l G x 61 t0 t1 0 σ _ h) rfl rfl ⟨⟨by decide, by decide⟩, by decide, by decide⟩ (Nat.le_of_ble_eq_true rfl) dX4_readRule_51 (fun r51 s51 H locs h hM => ?_)
    refine lv_istore_n (pc := 54) (lv' := [(3, .int r51), (0, .ref (g_ad G 81))]) hx hb dX4_readRule_54 rfl hl (by decide) rfl (fun ls hl => ?_)
    refine lv_aload_n (pc := 55) hx hb dX4_readRule_55 rfl (lv_at hl 1 rfl) ?_
    refine lv_iload_n (pc := 56) hx hb dX4_readRule_56 rfl (lv_at hl 0 rfl) ?_
    refine g_cVi (pc := 57) C hM hl.1 yv_X4_readConditions q5_135 (by decide) ce_81 rfl (w_X4_readConditions l G x r51 s51 _ h) rfl rfl ⟨⟨by decide, by decide⟩, by decide, by decide⟩ (Nat.le_of_ble_eq_true rfl) dX4_readRule_57 (fun r57 s57 H locs h hM => ?_)
    refine lv_if_ne (pc := 60) (tgt := 65) hx hb dX4_readRule_60 (by decide) (fun c60 => ?_) (fun c60 => ?_)
    · have h := h.2 c60
      refine lv_aload_n (pc := 65) hx hb dX4_readRule_65 rfl (lv_at hl 1 rfl) ?_
      refine lv_bipush (pc := 66) (v := 48) hx hb dX4_readRule_66 (by decide) ?_
      refine lv_bipush (pc := 68) (v := 10) hx hb dX4_readRule_68 (by decide) ?_
      refine g_cVi (pc := 70) C hM hl.1 yv_X4_acceptFrom q5_126 (by decide) ce_81 rfl (w_X4_acceptFrom l G x 48 10 s57 _ h) rfl rfl ⟨⟨by decide, by decide⟩, by decide, by decide⟩ (Nat.le_of_ble_eq_true rfl) dX4_readRule_70 (fun r70 s70 H locs h hM => ?_)
      refine lv_istore (pc := 73) (lv' := [(4, .int r70), (3, .int r51), (0, .ref (g_ad G 81))]) hx hb dX4_readRule_73 hl (by decide) rfl (fun ls hl => ?_)
      refine lv_iload (pc := 75) hx hb dX4_readRule_75 (lv_at hl 0 rfl) ?_
      refine lv_if_ge (pc := 77) (tgt := 82) hx hb dX4_readRule_77 (by decide) (fun c77 => ?_) (fun c77 => ?_)
      · have h := h.1 c77
        refine lv_aload_n (pc := 82) hx hb dX4_readRule_82 rfl (lv_at hl 2 rfl) ?_
        refine g_get (pc := 83) (v := .ref (g_ad G 61)) C hM (by decide) ce_81 fl_RX4_18 rfl dX4_readRule_83 ?_
        refine lv_iload_n (pc := 86) hx hb dX4_readRule_86 rfl (lv_at hl 1 rfl) ?_
        refine lv_iload (pc := 87) hx hb dX4_readRule_87 (lv_at hl 0 rfl) ?_
        refine g_cVv (pc := 89) C hM hl.1 yv_X6_putPriority q5_156 (by decide) ce_61 rfl (w_X6_putPriority l G x 61 r51 r70 s70 _ h) rfl rfl ⟨⟨by decide, by decide⟩, by decide, by decide⟩ (Nat.le_of_ble_eq_true rfl) dX4_readRule_89 (fun s89 H locs h hM => ?_)
        refine lv_aload_n (pc := 92) hx hb dX4_readRule_92 rfl (lv_at hl 2 rfl) ?_
        refine lv_bipush (pc := 93) (v := 59) hx hb dX4_readRule_93 (by decide) ?_
        refine g_cVi (pc := 95) C hM hl.1 yv_X4_accept q5_130 (by decide) ce_81 rfl (w_X4_accept l G x 59 s89 _ h) rfl rfl ⟨⟨by decide, by decide⟩, by decide, by decide⟩ (Nat.le_of_ble_eq_true rfl) dX4_readRule_95 (fun r95 s95 H locs h hM => ?_)
        exact hret 98 _ _ _ _ _ dX4_readRule_98 (nar_b h.1) h.2 hM
      · have h := h.2 c77
        refine lv_iconst (pc := 80) (v := 0) hx hb dX4_readRule_80 (by decide) ?_
        exact hret 81 _ _ _ _ _ dX4_readRule_81 (by rfl) h hM
    · have h := h.1 c60
      refine lv_iconst (pc := 63) (v := 0) hx hb dX4_readRule_63 (by decide) ?_
      exact hret 64 _ _ _ _ _ dX4_readRule_64 (by rfl) h hM)
  refine lv_aload_n (pc := 0) hx hb dX4_readRule_0 rfl (lv_at hl 0 rfl) ?_
  refine lv_bipush (pc := 1) (v := 48) hx hb dX4_readRule_1 (by decide) ?_
  refine lv_iconst (pc := 3) (v := 4) hx hb dX4_readRule_3 (by decide) ?_
  refine g_cVi (pc := 4) C hM hl.1 yv_X4_acceptFrom q5_126 (by decide) ce_81 rfl (w_X4_acceptFrom l G x 48 4 σ _ h) rfl rfl ⟨⟨by decide, by decide⟩, by decide, by decide⟩ (Nat.le_of_ble_eq_true rfl) dX4_readRule_4 (fun r4 s4 H locs h hM => ?_)
  refine lv_istore_n (pc := 7) (lv' := [(1, .int r4), (0, .ref (g_ad G 81))]) hx hb dX4_readRule_7 rfl hl (by decide) rfl (fun ls hl => ?_)
  refine lv_iload_n (pc := 8) hx hb dX4_readRule_8 rfl (lv_at hl 0 rfl) ?_
  refine lv_if_ge (pc := 9) (tgt := 14) hx hb dX4_readRule_9 (by decide) (fun c9 => ?_) (fun c9 => ?_)
  · have h := h.1 c9
    refine lv_aload_n (pc := 14) hx hb dX4_readRule_14 rfl (lv_at hl 1 rfl) ?_
    refine lv_bipush (pc := 15) (v := 45) hx hb dX4_readRule_15 (by decide) ?_
    refine g_cVi (pc := 17) C hM hl.1 yv_X4_accept q5_130 (by decide) ce_81 rfl (w_X4_accept l G x 45 s4 _ h) rfl rfl ⟨⟨by decide, by decide⟩, by decide, by decide⟩ (Nat.le_of_ble_eq_true rfl) dX4_readRule_17 (fun r17 s17 H locs h hM => ?_)
    refine lv_istore_n (pc := 20) (lv' := [(2, .int r17), (1, .int r4), (0, .ref (g_ad G 81))]) hx hb dX4_readRule_20 rfl hl (by decide) rfl (fun ls hl => ?_)
    refine lv_iload_n (pc := 21) hx hb dX4_readRule_21 rfl (lv_at hl 0 rfl) ?_
    refine lv_if_ne (pc := 22) (tgt := 36) hx hb dX4_readRule_22 (by decide) (fun c22 => ?_) (fun c22 => ?_)
    · have h := h.2 c22
      refine lv_aload_n (pc := 36) hx hb dX4_readRule_36 rfl (lv_at hl 2 rfl) ?_
      refine g_get (pc := 37) (v := .ref (g_ad G 61)) C hM (by decide) ce_81 fl_RX4_18 rfl dX4_readRule_37 ?_
      refine lv_iload_n (pc := 40) hx hb dX4_readRule_40 rfl (lv_at hl 1 rfl) ?_
      refine lv_iload_n (pc := 41) hx hb dX4_readRule_41 rfl (lv_at hl 0 rfl) ?_
      refine lv_if_eq (pc := 42) (tgt := 49) hx hb dX4_readRule_42 (by decide) (fun c42 => ?_) (fun c42 => ?_)
      · have h := h.1 c42
        refine lv_iconst (pc := 49) (v := 0) hx hb dX4_readRule_49 (by decide) ?_
        exact h _ _ _ hM (lv_sub hl [2] rfl)
      · have h := h.2 c42
        refine lv_iconst (pc := 45) (v := 1) hx hb dX4_readRule_45 (by decide) ?_
        refine lv_goto (pc := 46) (tgt := 50) hx hb dX4_readRule_46 (by decide) ?_
        exact h _ _ _ hM (lv_sub hl [2] rfl)
    · have h := h.1 c22
      refine lv_aload_n (pc := 25) hx hb dX4_readRule_25 rfl (lv_at hl 2 rfl) ?_
      refine lv_bipush (pc := 26) (v := 43) hx hb dX4_readRule_26 (by decide) ?_
      refine g_cVi (pc := 28) C hM hl.1 yv_X4_accept q5_130 (by decide) ce_81 rfl (w_X4_accept l G x 43 s17 _ h) rfl rfl ⟨⟨by decide, by decide⟩, by decide, by decide⟩ (Nat.le_of_ble_eq_true rfl) dX4_readRule_28 (fun r28 s28 H locs h hM => ?_)
      refine lv_if_ne (pc := 31) (tgt := 36) hx hb dX4_readRule_31 (by decide) (fun c31 => ?_) (fun c31 => ?_)
      · have h := h.2 c31
        refine lv_aload_n (pc := 36) hx hb dX4_readRule_36 rfl (lv_at hl 2 rfl) ?_
        refine g_get (pc := 37) (v := .ref (g_ad G 61)) C hM (by decide) ce_81 fl_RX4_18 rfl dX4_readRule_37 ?_
        refine lv_iload_n (pc := 40) hx hb dX4_readRule_40 rfl (lv_at hl 1 rfl) ?_
        refine lv_iload_n (pc := 41) hx hb dX4_readRule_41 rfl (lv_at hl 0 rfl) ?_
        refine lv_if_eq (pc := 42) (tgt := 49) hx hb dX4_readRule_42 (by decide) (fun c42 => ?_) (fun c42 => ?_)
        · have h := h.1 c42
          refine lv_iconst (pc := 49) (v := 0) hx hb dX4_readRule_49 (by decide) ?_
          exact h _ _ _ hM (lv_sub hl [2] rfl)
        · have h := h.2 c42
          refine lv_iconst (pc := 45) (v := 1) hx hb dX4_readRule_45 (by decide) ?_
          refine lv_goto (pc := 46) (tgt := 50) hx hb dX4_readRule_46 (by decide) ?_
          exact h _ _ _ hM (lv_sub hl [2] rfl)
      · have h := h.1 c31
        refine lv_iconst (pc := 34) (v := 0) hx hb dX4_readRule_34 (by decide) ?_
        exact hret 35 _ _ _ _ _ dX4_readRule_35 (by rfl) h hM
  · have h := h.2 c9
    refine lv_iconst (pc := 12) (v := 0) hx hb dX4_readRule_12 (by decide) ?_
    exact hret 13 _ _ _ _ _ dX4_readRule_13 (by rfl) h hM
abbrev rm_X4_take : Room := { frames := 6, cells := 0, slots := 0, locals := 138 }
theorem dX4_take_0 : decode cX4_take 0 = .ok (.aload_n 0, 1) := by decide +kernel
theorem dX4_take_1 : decode cX4_take 1 = .ok (.iconst 0, 1) := by decide +kernel
theorem dX4_take_2 : decode cX4_take 2 = .ok (.putfield 29, 3) := by decide +kernel
theorem dX4_take_5 : decode cX4_take 5 = .ok (.aload_n 0, 1) := by decide +kernel
theorem dX4_take_6 : decode cX4_take 6 = .ok (.getfield 18, 3) := by decide +kernel
theorem dX4_take_9 : decode cX4_take 9 = .ok (.iconst 0, 1) := by decide +kernel
theorem dX4_take_10 : decode cX4_take 10 = .ok (.putfield 32, 3) := by decide +kernel
theorem dX4_take_13 : decode cX4_take 13 = .ok (.aload_n 0, 1) := by decide +kernel
theorem dX4_take_14 : decode cX4_take 14 = .ok (.invokevirtual 35, 3) := by decide +kernel
theorem dX4_take_17 : decode cX4_take 17 = .ok (.istore_n 1, 1) := by decide +kernel
theorem dX4_take_18 : decode cX4_take 18 = .ok (.iconst 1, 1) := by decide +kernel
theorem dX4_take_19 : decode cX4_take 19 = .ok (.istore_n 2, 1) := by decide +kernel
theorem dX4_take_20 : decode cX4_take 20 = .ok (.iload_n 2, 1) := by decide +kernel
theorem dX4_take_21 : decode cX4_take 21 = .ok (.bipush 24, 2) := by decide +kernel
theorem dX4_take_23 : decode cX4_take 23 = .ok (.if_icmp .ge 29, 3) := by decide +kernel
theorem dX4_take_26 : decode cX4_take 26 = .ok (.iload_n 1, 1) := by decide +kernel
theorem dX4_take_27 : decode cX4_take 27 = .ok (.ifCond .eq 25, 3) := by decide +kernel
theorem dX4_take_30 : decode cX4_take 30 = .ok (.aload_n 0, 1) := by decide +kernel
theorem dX4_take_31 : decode cX4_take 31 = .ok (.getfield 29, 3) := by decide +kernel
theorem dX4_take_34 : decode cX4_take 34 = .ok (.aload_n 0, 1) := by decide +kernel
theorem dX4_take_35 : decode cX4_take 35 = .ok (.getfield 26, 3) := by decide +kernel
theorem dX4_take_38 : decode cX4_take 38 = .ok (.if_icmp .ge 14, 3) := by decide +kernel
theorem dX4_take_41 : decode cX4_take 41 = .ok (.aload_n 0, 1) := by decide +kernel
theorem dX4_take_42 : decode cX4_take 42 = .ok (.invokevirtual 35, 3) := by decide +kernel
theorem dX4_take_45 : decode cX4_take 45 = .ok (.istore_n 1, 1) := by decide +kernel
theorem dX4_take_46 : decode cX4_take 46 = .ok (.iinc 2 1, 3) := by decide +kernel
theorem dX4_take_49 : decode cX4_take 49 = .ok (.goto (-29), 3) := by decide +kernel
theorem dX4_take_52 : decode cX4_take 52 = .ok (.aload_n 0, 1) := by decide +kernel
theorem dX4_take_53 : decode cX4_take 53 = .ok (.iconst 0, 1) := by decide +kernel
theorem dX4_take_54 : decode cX4_take 54 = .ok (.putfield 26, 3) := by decide +kernel
theorem dX4_take_57 : decode cX4_take 57 = .ok (.iload_n 1, 1) := by decide +kernel
theorem dX4_take_58 : decode cX4_take 58 = .ok (.ifCond .ne 11, 3) := by decide +kernel
theorem dX4_take_61 : decode cX4_take 61 = .ok (.aload_n 0, 1) := by decide +kernel
theorem dX4_take_62 : decode cX4_take 62 = .ok (.aload_n 0, 1) := by decide +kernel
theorem dX4_take_63 : decode cX4_take 63 = .ok (.getfield 29, 3) := by decide +kernel
theorem dX4_take_66 : decode cX4_take 66 = .ok (.putfield 22, 3) := by decide +kernel
theorem dX4_take_69 : decode cX4_take 69 = .ok (.iload_n 1, 1) := by decide +kernel
theorem dX4_take_70 : decode cX4_take 70 = .ok (.ireturn, 1) := by decide +kernel
set_option maxHeartbeats 4000000 in
set_option maxRecDepth 100000 in
theorem w_X4_take (l : Launch) (G : GP) (x : XP) (σ : Sto) (P : Int32 → Sto → Prop) (h : D_X4_take  σ P) : g_Meti l yX4_take cX4_take 3 (some .boolean) rm_X4_take G x [.ref (g_ad G 81)] σ P := by
  unfold D_X4_take at h
  refine g_ofWi (by decide +kernel) (Nat.le_of_ble_eq_true rfl) ?_
  intro p e s m args below meth c Q ls C hM hl hret
  have hx := C.1
  have hb := C.2.1
  have hl : lv_has ls 3 [(0, .ref (g_ad G 81))] := hl
  have h := h (fun (v1 : Int32) (v2 : Int32) (σ : Sto) => ∀ (H : Heap) (locs : List Loc) (ls : Array Slot), g_M G x σ s H locs → lv_has ls 3 [(0, .ref (g_ad G 81)), (1, .int v1), (2, .int v2)] → W p l e rm_X4_take s m args below meth c H locs 0 0 Q (F0 m 20 ls []))
  have h := h (by
    intro v1 v2 σ h  H locs ls hM hl
    refine lv_iload_n (pc := 20) hx hb dX4_take_20 rfl (lv_at hl 2 rfl) ?_
    refine lv_bipush (pc := 21) (v := 24) hx hb dX4_take_21 (by decide) ?_
    refine lv_icmp_ge (pc := 23) (tgt := 52) hx hb dX4_take_23 (by decide) (fun c23 => ?_) (fun c23 => ?_)
    · have h := h.1 c23
      refine lv_aload_n (pc := 52) hx hb dX4_take_52 rfl (lv_at hl 0 rfl) ?_
      refine lv_iconst (pc := 53) (v := 0) hx hb dX4_take_53 (by decide) ?_
      refine g_putE (pc := 54) C hM (by decide) ce_81 fp_RX4_26 rfl rfl (Nat.le_of_ble_eq_true rfl) rfl dX4_take_54 (fun s54 es54 H locs hM => ?_)
      have h := h s54 es54
      refine lv_iload_n (pc := 57) hx hb dX4_take_57 rfl (lv_at hl 1 rfl) ?_
      refine lv_if_ne (pc := 58) (tgt := 69) hx hb dX4_take_58 (by decide) (fun c58 => ?_) (fun c58 => ?_)
      · have h := h.2 c58
        refine lv_iload_n (pc := 69) hx hb dX4_take_69 rfl (lv_at hl 1 rfl) ?_
        exact hret 70 _ _ _ _ _ dX4_take_70 (nar_b h.1) h.2 hM
      · have h := h.1 c58
        refine lv_aload_n (pc := 61) hx hb dX4_take_61 rfl (lv_at hl 0 rfl) ?_
        refine lv_aload_n (pc := 62) hx hb dX4_take_62 rfl (lv_at hl 0 rfl) ?_
        refine g_get (pc := 63) (v := .int (s54 81 2)) C hM (by decide) ce_81 fl_RX4_29 rfl dX4_take_63 ?_
        refine g_putE (pc := 66) C hM (by decide) ce_81 fp_RX4_22 rfl rfl (Nat.le_of_ble_eq_true rfl) rfl dX4_take_66 (fun s66 es66 H locs hM => ?_)
        have h := h s66 es66
        refine lv_iload_n (pc := 69) hx hb dX4_take_69 rfl (lv_at hl 1 rfl) ?_
        exact hret 70 _ _ _ _ _ dX4_take_70 (nar_b h.1) h.2 hM
    · have h := h.2 c23
      refine lv_iload_n (pc := 26) hx hb dX4_take_26 rfl (lv_at hl 1 rfl) ?_
      refine lv_if_eq (pc := 27) (tgt := 52) hx hb dX4_take_27 (by decide) (fun c27 => ?_) (fun c27 => ?_)
      · have h := h.1 c27
        refine lv_aload_n (pc := 52) hx hb dX4_take_52 rfl (lv_at hl 0 rfl) ?_
        refine lv_iconst (pc := 53) (v := 0) hx hb dX4_take_53 (by decide) ?_
        refine g_putE (pc := 54) C hM (by decide) ce_81 fp_RX4_26 rfl rfl (Nat.le_of_ble_eq_true rfl) rfl dX4_take_54 (fun s54 es54 H locs hM => ?_)
        have h := h s54 es54
        refine lv_iload_n (pc := 57) hx hb dX4_take_57 rfl (lv_at hl 1 rfl) ?_
        refine lv_if_ne (pc := 58) (tgt := 69) hx hb dX4_take_58 (by decide) (fun c58 => ?_) (fun c58 => ?_)
        · have h := h.2 c58
          refine lv_iload_n (pc := 69) hx hb dX4_take_69 rfl (lv_at hl 1 rfl) ?_
          exact hret 70 _ _ _ _ _ dX4_take_70 (nar_b h.1) h.2 hM
        · have h := h.1 c58
          refine lv_aload_n (pc := 61) hx hb dX4_take_61 rfl (lv_at hl 0 rfl) ?_
          refine lv_aload_n (pc := 62) hx hb dX4_take_62 rfl (lv_at hl 0 rfl) ?_
          refine g_get (pc := 63) (v := .int (s54 81 2)) C hM (by decide) ce_81 fl_RX4_29 rfl dX4_take_63 ?_
          refine g_putE (pc := 66) C hM (by decide) ce_81 fp_RX4_22 rfl rfl (Nat.le_of_ble_eq_true rfl) rfl dX4_take_66 (fun s66 es66 H locs hM => ?_)
          have h := h s66 es66
          refine lv_iload_n (pc := 69) hx hb dX4_take_69 rfl (lv_at hl 1 rfl) ?_
          exact hret 70 _ _ _ _ _ dX4_take_70 (nar_b h.1) h.2 hM
      · have h := h.2 c27
        refine lv_aload_n (pc := 30) hx hb dX4_take_30 rfl (lv_at hl 0 rfl) ?_
        refine g_get (pc := 31) (v := .int (σ 81 2)) C hM (by decide) ce_81 fl_RX4_29 rfl dX4_take_31 ?_
        refine lv_aload_n (pc := 34) hx hb dX4_take_34 rfl (lv_at hl 0 rfl) ?_
        refine g_get (pc := 35) (v := .int (σ 81 1)) C hM (by decide) ce_81 fl_RX4_26 rfl dX4_take_35 ?_
        refine lv_icmp_ge (pc := 38) (tgt := 52) hx hb dX4_take_38 (by decide) (fun c38 => ?_) (fun c38 => ?_)
        · have h := h.1 c38
          refine lv_aload_n (pc := 52) hx hb dX4_take_52 rfl (lv_at hl 0 rfl) ?_
          refine lv_iconst (pc := 53) (v := 0) hx hb dX4_take_53 (by decide) ?_
          refine g_putE (pc := 54) C hM (by decide) ce_81 fp_RX4_26 rfl rfl (Nat.le_of_ble_eq_true rfl) rfl dX4_take_54 (fun s54 es54 H locs hM => ?_)
          have h := h s54 es54
          refine lv_iload_n (pc := 57) hx hb dX4_take_57 rfl (lv_at hl 1 rfl) ?_
          refine lv_if_ne (pc := 58) (tgt := 69) hx hb dX4_take_58 (by decide) (fun c58 => ?_) (fun c58 => ?_)
          · have h := h.2 c58
            refine lv_iload_n (pc := 69) hx hb dX4_take_69 rfl (lv_at hl 1 rfl) ?_
            exact hret 70 _ _ _ _ _ dX4_take_70 (nar_b h.1) h.2 hM
          · have h := h.1 c58
            refine lv_aload_n (pc := 61) hx hb dX4_take_61 rfl (lv_at hl 0 rfl) ?_
            refine lv_aload_n (pc := 62) hx hb dX4_take_62 rfl (lv_at hl 0 rfl) ?_
            refine g_get (pc := 63) (v := .int (s54 81 2)) C hM (by decide) ce_81 fl_RX4_29 rfl dX4_take_63 ?_
            refine g_putE (pc := 66) C hM (by decide) ce_81 fp_RX4_22 rfl rfl (Nat.le_of_ble_eq_true rfl) rfl dX4_take_66 (fun s66 es66 H locs hM => ?_)
            have h := h s66 es66
            refine lv_iload_n (pc := 69) hx hb dX4_take_69 rfl (lv_at hl 1 rfl) ?_
            exact hret 70 _ _ _ _ _ dX4_take_70 (nar_b h.1) h.2 hM
        · have h := h.2 c38
          refine lv_aload_n (pc := 41) hx hb dX4_take_41 rfl (lv_at hl 0 rfl) ?_
          refine g_cVi (pc := 42) C hM hl.1 yv_X4_readRule q5_122 (by decide) ce_81 rfl (w_X4_readRule l G x  σ _ h) rfl rfl ⟨⟨by decide, by decide⟩, by decide, by decide⟩ (Nat.le_of_ble_eq_true rfl) dX4_take_42 (fun r42 s42 H locs h hM => ?_)
          refine lv_istore_n (pc := 45) (lv' := [(1, .int r42), (0, .ref (g_ad G 81)), (2, .int v2)]) hx hb dX4_take_45 rfl hl (by decide) rfl (fun ls hl => ?_)
          refine lv_iinc (pc := 46) (v := (v2 + 1)) (lv' := [(2, .int (v2 + 1)), (1, .int r42), (0, .ref (g_ad G 81))]) hx hb dX4_take_46 hl (k := 2) rfl (by rfl) (by decide) rfl (fun ls hl => ?_)
          refine lv_goto (pc := 49) (tgt := 20) hx hb dX4_take_49 (by decide) ?_
          exact h _ _ _ hM (lv_sub hl [2, 1, 0] rfl))
  refine lv_aload_n (pc := 0) hx hb dX4_take_0 rfl (lv_at hl 0 rfl) ?_
  refine lv_iconst (pc := 1) (v := 0) hx hb dX4_take_1 (by decide) ?_
  refine g_putE (pc := 2) C hM (by decide) ce_81 fp_RX4_29 rfl rfl (Nat.le_of_ble_eq_true rfl) rfl dX4_take_2 (fun s2 es2 H locs hM => ?_)
  have h := h s2 es2
  refine lv_aload_n (pc := 5) hx hb dX4_take_5 rfl (lv_at hl 0 rfl) ?_
  refine g_get (pc := 6) (v := .ref (g_ad G 61)) C hM (by decide) ce_81 fl_RX4_18 rfl dX4_take_6 ?_
  refine lv_iconst (pc := 9) (v := 0) hx hb dX4_take_9 (by decide) ?_
  refine g_putE (pc := 10) C hM (by decide) ce_61 fp_RX4_32 rfl rfl (Nat.le_of_ble_eq_true rfl) rfl dX4_take_10 (fun s10 es10 H locs hM => ?_)
  have h := h s10 es10
  refine lv_aload_n (pc := 13) hx hb dX4_take_13 rfl (lv_at hl 0 rfl) ?_
  refine g_cVi (pc := 14) C hM hl.1 yv_X4_readRule q5_122 (by decide) ce_81 rfl (w_X4_readRule l G x  s10 _ h) rfl rfl ⟨⟨by decide, by decide⟩, by decide, by decide⟩ (Nat.le_of_ble_eq_true rfl) dX4_take_14 (fun r14 s14 H locs h hM => ?_)
  refine lv_istore_n (pc := 17) (lv' := [(1, .int r14), (0, .ref (g_ad G 81))]) hx hb dX4_take_17 rfl hl (by decide) rfl (fun ls hl => ?_)
  refine lv_iconst (pc := 18) (v := 1) hx hb dX4_take_18 (by decide) ?_
  refine lv_istore_n (pc := 19) (lv' := [(2, .int 1), (1, .int r14), (0, .ref (g_ad G 81))]) hx hb dX4_take_19 rfl hl (by decide) rfl (fun ls hl => ?_)
  exact h _ _ _ hM (lv_sub hl [2, 1, 0] rfl)
abbrev rm_X6_addAll : Room := { frames := 1, cells := 0, slots := 0, locals := 40 }
theorem dX6_addAll_0 : decode cX6_addAll 0 = .ok (.aload_n 1, 1) := by decide +kernel
theorem dX6_addAll_1 : decode cX6_addAll 1 = .ok (.getfield 9, 3) := by decide +kernel
theorem dX6_addAll_4 : decode cX6_addAll 4 = .ok (.iconst 0, 1) := by decide +kernel
theorem dX6_addAll_5 : decode cX6_addAll 5 = .ok (.aload_n 0, 1) := by decide +kernel
theorem dX6_addAll_6 : decode cX6_addAll 6 = .ok (.getfield 9, 3) := by decide +kernel
theorem dX6_addAll_9 : decode cX6_addAll 9 = .ok (.aload_n 0, 1) := by decide +kernel
theorem dX6_addAll_10 : decode cX6_addAll 10 = .ok (.getfield 24, 3) := by decide +kernel
theorem dX6_addAll_13 : decode cX6_addAll 13 = .ok (.bipush 16, 2) := by decide +kernel
theorem dX6_addAll_15 : decode cX6_addAll 15 = .ok (.imul, 1) := by decide +kernel
theorem dX6_addAll_16 : decode cX6_addAll 16 = .ok (.aload_n 1, 1) := by decide +kernel
theorem dX6_addAll_17 : decode cX6_addAll 17 = .ok (.getfield 24, 3) := by decide +kernel
theorem dX6_addAll_20 : decode cX6_addAll 20 = .ok (.bipush 16, 2) := by decide +kernel
theorem dX6_addAll_22 : decode cX6_addAll 22 = .ok (.imul, 1) := by decide +kernel
theorem dX6_addAll_23 : decode cX6_addAll 23 = .ok (.invokestatic 31, 3) := by decide +kernel
theorem dX6_addAll_26 : decode cX6_addAll 26 = .ok (.aload_n 0, 1) := by decide +kernel
theorem dX6_addAll_27 : decode cX6_addAll 27 = .ok (.dup, 1) := by decide +kernel
theorem dX6_addAll_28 : decode cX6_addAll 28 = .ok (.getfield 24, 3) := by decide +kernel
theorem dX6_addAll_31 : decode cX6_addAll 31 = .ok (.aload_n 1, 1) := by decide +kernel
theorem dX6_addAll_32 : decode cX6_addAll 32 = .ok (.getfield 24, 3) := by decide +kernel
theorem dX6_addAll_35 : decode cX6_addAll 35 = .ok (.iadd, 1) := by decide +kernel
theorem dX6_addAll_36 : decode cX6_addAll 36 = .ok (.putfield 24, 3) := by decide +kernel
theorem dX6_addAll_39 : decode cX6_addAll 39 = .ok (.return_, 1) := by decide +kernel
set_option maxHeartbeats 4000000 in
set_option maxRecDepth 100000 in
theorem w_X6_addAll (l : Launch) (G : GP) (x : XP) (o0 : Nat) (o1 : Nat) (σ : Sto) (P : Sto → Prop) (h : D_X6_addAll o0 o1 σ P) : g_Metv l yX6_addAll cX6_addAll 2 rm_X6_addAll G x [.ref (g_ad G o0), .ref (g_ad G o1)] σ P := by
  unfold D_X6_addAll at h
  obtain ⟨ho0, h⟩ := h
  obtain ⟨ho1, h⟩ := h
  refine g_ofWv (by decide +kernel) (Nat.le_of_ble_eq_true rfl) ?_
  intro p e s m args below meth c Q ls C hM hl hret
  have hx := C.1
  have hb := C.2.1
  have hl : lv_has ls 2 [(0, .ref (g_ad G o0)), (1, .ref (g_ad G o1))] := hl
  refine lv_aload_n (pc := 0) hx hb dX6_addAll_0 rfl (lv_at hl 1 rfl) ?_
  refine g_get (pc := 1) (v := .ref (g_ad G (o1 + 1))) C hM (ru_lt ho1) (ce_ru ho1) fl_RX6_9 rfl dX6_addAll_1 ?_
  refine lv_iconst (pc := 4) (v := 0) hx hb dX6_addAll_4 (by decide) ?_
  refine lv_aload_n (pc := 5) hx hb dX6_addAll_5 rfl (lv_at hl 0 rfl) ?_
  refine g_get (pc := 6) (v := .ref (g_ad G (o0 + 1))) C hM (ru_lt ho0) (ce_ru ho0) fl_RX6_9 rfl dX6_addAll_6 ?_
  refine lv_aload_n (pc := 9) hx hb dX6_addAll_9 rfl (lv_at hl 0 rfl) ?_
  refine g_get (pc := 10) (v := .int (σ o0 1)) C hM (ru_lt ho0) (ce_ru ho0) fl_RX6_24 rfl dX6_addAll_10 ?_
  refine lv_bipush (pc := 13) (v := 16) hx hb dX6_addAll_13 (by decide) ?_
  refine lv_imul (pc := 15) hx hb dX6_addAll_15 ?_
  refine lv_aload_n (pc := 16) hx hb dX6_addAll_16 rfl (lv_at hl 1 rfl) ?_
  refine g_get (pc := 17) (v := .int (σ o1 1)) C hM (ru_lt ho1) (ce_ru ho1) fl_RX6_24 rfl dX6_addAll_17 ?_
  refine lv_bipush (pc := 20) (v := 16) hx hb dX6_addAll_20 (by decide) ?_
  refine lv_imul (pc := 22) hx hb dX6_addAll_22 ?_
  obtain ⟨hc, h⟩ := h
  refine g_copyE (pc := 23) C hM hl.1 q2_94 ⟨q2_96, q2_95, q1_22⟩ (rc_lt ho1) (rc_lt ho0) (ce_rc ho1) (ce_rc ho0) hc ⟨Nat.le_of_ble_eq_true rfl, Nat.le_of_ble_eq_true rfl⟩ dX6_addAll_23 (fun s23 es23 H locs hM => ?_)
  have h := h s23 es23
  refine lv_aload_n (pc := 26) hx hb dX6_addAll_26 rfl (lv_at hl 0 rfl) ?_
  refine lv_dup (pc := 27) hx hb dX6_addAll_27 rfl ?_
  refine g_get (pc := 28) (v := .int (s23 o0 1)) C hM (ru_lt ho0) (ce_ru ho0) fl_RX6_24 rfl dX6_addAll_28 ?_
  refine lv_aload_n (pc := 31) hx hb dX6_addAll_31 rfl (lv_at hl 1 rfl) ?_
  refine g_get (pc := 32) (v := .int (s23 o1 1)) C hM (ru_lt ho1) (ce_ru ho1) fl_RX6_24 rfl dX6_addAll_32 ?_
  refine lv_iadd (pc := 35) hx hb dX6_addAll_35 ?_
  refine g_putE (pc := 36) C hM (ru_lt ho0) (ce_ru ho0) fp_RX6_24 rfl rfl (Nat.le_of_ble_eq_true rfl) rfl dX6_addAll_36 (fun s36 es36 H locs hM => ?_)
  have h := h s36 es36
  exact hret 39 _ _ _ _ dX6_addAll_39 h hM
abbrev rm_X10_put : Room := { frames := 0, cells := 0, slots := 0, locals := 0 }
theorem dX10_put_0 : decode cX10_put 0 = .ok (.aload_n 0, 1) := by decide +kernel
theorem dX10_put_1 : decode cX10_put 1 = .ok (.getfield 15, 3) := by decide +kernel
theorem dX10_put_4 : decode cX10_put 4 = .ok (.aload_n 0, 1) := by decide +kernel
theorem dX10_put_5 : decode cX10_put 5 = .ok (.getfield 9, 3) := by decide +kernel
theorem dX10_put_8 : decode cX10_put 8 = .ok (.arraylength, 1) := by decide +kernel
theorem dX10_put_9 : decode cX10_put 9 = .ok (.if_icmp .ge 23, 3) := by decide +kernel
theorem dX10_put_12 : decode cX10_put 12 = .ok (.aload_n 0, 1) := by decide +kernel
theorem dX10_put_13 : decode cX10_put 13 = .ok (.getfield 9, 3) := by decide +kernel
theorem dX10_put_16 : decode cX10_put 16 = .ok (.aload_n 0, 1) := by decide +kernel
theorem dX10_put_17 : decode cX10_put 17 = .ok (.getfield 15, 3) := by decide +kernel
theorem dX10_put_20 : decode cX10_put 20 = .ok (.iload_n 1, 1) := by decide +kernel
theorem dX10_put_21 : decode cX10_put 21 = .ok (.castore, 1) := by decide +kernel
theorem dX10_put_22 : decode cX10_put 22 = .ok (.aload_n 0, 1) := by decide +kernel
theorem dX10_put_23 : decode cX10_put 23 = .ok (.dup, 1) := by decide +kernel
theorem dX10_put_24 : decode cX10_put 24 = .ok (.getfield 15, 3) := by decide +kernel
theorem dX10_put_27 : decode cX10_put 27 = .ok (.iconst 1, 1) := by decide +kernel
theorem dX10_put_28 : decode cX10_put 28 = .ok (.iadd, 1) := by decide +kernel
theorem dX10_put_29 : decode cX10_put 29 = .ok (.putfield 15, 3) := by decide +kernel
theorem dX10_put_32 : decode cX10_put 32 = .ok (.return_, 1) := by decide +kernel
set_option maxHeartbeats 4000000 in
set_option maxRecDepth 100000 in
theorem w_X10_put (l : Launch) (G : GP) (x : XP) (a1 : Int32) (σ : Sto) (P : Sto → Prop) (h : D_X10_put a1 σ P) : g_Metv l yX10_put cX10_put 2 rm_X10_put G x [.ref (g_ad G 83), .int a1] σ P := by
  unfold D_X10_put at h
  refine g_ofWv (by decide +kernel) (Nat.le_of_ble_eq_true rfl) ?_
  intro p e s m args below meth c Q ls C hM hl hret
  have hx := C.1
  have hb := C.2.1
  have hl : lv_has ls 2 [(0, .ref (g_ad G 83)), (1, .int a1)] := hl
  refine lv_aload_n (pc := 0) hx hb dX10_put_0 rfl (lv_at hl 0 rfl) ?_
  refine g_get (pc := 1) (v := .int (σ 83 1)) C hM (by decide) ce_83 fl_RX10_15 rfl dX10_put_1 ?_
  refine lv_aload_n (pc := 4) hx hb dX10_put_4 rfl (lv_at hl 0 rfl) ?_
  refine g_get (pc := 5) (v := .ref (g_ad G 84)) C hM (by decide) ce_83 fl_RX10_9 rfl dX10_put_5 ?_
  refine g_alen (pc := 8) (v := 200) (t0 := 1) C hM (by decide) ce_84 rfl rfl dX10_put_8 ?_
  refine lv_icmp_ge (pc := 9) (tgt := 32) hx hb dX10_put_9 (by decide) (fun c9 => ?_) (fun c9 => ?_)
  · have h := h.1 c9
    exact hret 32 _ _ _ _ dX10_put_32 h hM
  · have h := h.2 c9
    refine lv_aload_n (pc := 12) hx hb dX10_put_12 rfl (lv_at hl 0 rfl) ?_
    refine g_get (pc := 13) (v := .ref (g_ad G 84)) C hM (by decide) ce_83 fl_RX10_9 rfl dX10_put_13 ?_
    refine lv_aload_n (pc := 16) hx hb dX10_put_16 rfl (lv_at hl 0 rfl) ?_
    refine g_get (pc := 17) (v := .int (σ 83 1)) C hM (by decide) ce_83 fl_RX10_15 rfl dX10_put_17 ?_
    refine lv_iload_n (pc := 20) hx hb dX10_put_20 rfl (lv_at hl 1 rfl) ?_
    obtain ⟨hc, h⟩ := h
    refine g_castE (pc := 21) C hM (by decide) ce_84 hc rfl dX10_put_21 (fun s21 es21 H locs hM => ?_)
    have h := h s21 es21
    refine lv_aload_n (pc := 22) hx hb dX10_put_22 rfl (lv_at hl 0 rfl) ?_
    refine lv_dup (pc := 23) hx hb dX10_put_23 rfl ?_
    refine g_get (pc := 24) (v := .int (s21 83 1)) C hM (by decide) ce_83 fl_RX10_15 rfl dX10_put_24 ?_
    refine lv_iconst (pc := 27) (v := 1) hx hb dX10_put_27 (by decide) ?_
    refine lv_iadd (pc := 28) hx hb dX10_put_28 ?_
    refine g_putE (pc := 29) C hM (by decide) ce_83 fp_RX10_15 rfl rfl (Nat.le_of_ble_eq_true rfl) rfl dX10_put_29 (fun s29 es29 H locs hM => ?_)
    have h := h s29 es29
    exact hret 32 _ _ _ _ dX10_put_32 h hM
abbrev rm_X10_putNumber : Room := { frames := 1, cells := 0, slots := 0, locals := 21 }
theorem dX10_putNumber_0 : decode cX10_putNumber 0 = .ok (.iload_n 1, 1) := by decide +kernel
theorem dX10_putNumber_1 : decode cX10_putNumber 1 = .ok (.bipush 10, 2) := by decide +kernel
theorem dX10_putNumber_3 : decode cX10_putNumber 3 = .ok (.if_icmp .lt 9, 3) := by decide +kernel
theorem dX10_putNumber_6 : decode cX10_putNumber 6 = .ok (.aload_n 0, 1) := by decide +kernel
theorem dX10_putNumber_7 : decode cX10_putNumber 7 = .ok (.bipush 49, 2) := by decide +kernel
theorem dX10_putNumber_9 : decode cX10_putNumber 9 = .ok (.invokevirtual 29, 3) := by decide +kernel
theorem dX10_putNumber_12 : decode cX10_putNumber 12 = .ok (.aload_n 0, 1) := by decide +kernel
theorem dX10_putNumber_13 : decode cX10_putNumber 13 = .ok (.bipush 48, 2) := by decide +kernel
theorem dX10_putNumber_15 : decode cX10_putNumber 15 = .ok (.iload_n 1, 1) := by decide +kernel
theorem dX10_putNumber_16 : decode cX10_putNumber 16 = .ok (.bipush 10, 2) := by decide +kernel
theorem dX10_putNumber_18 : decode cX10_putNumber 18 = .ok (.if_icmp .lt 10, 3) := by decide +kernel
theorem dX10_putNumber_21 : decode cX10_putNumber 21 = .ok (.iload_n 1, 1) := by decide +kernel
theorem dX10_putNumber_22 : decode cX10_putNumber 22 = .ok (.bipush 10, 2) := by decide +kernel
theorem dX10_putNumber_24 : decode cX10_putNumber 24 = .ok (.isub, 1) := by decide +kernel
theorem dX10_putNumber_25 : decode cX10_putNumber 25 = .ok (.goto 4, 3) := by decide +kernel
theorem dX10_putNumber_28 : decode cX10_putNumber 28 = .ok (.iload_n 1, 1) := by decide +kernel
theorem dX10_putNumber_29 : decode cX10_putNumber 29 = .ok (.iadd, 1) := by decide +kernel
theorem dX10_putNumber_30 : decode cX10_putNumber 30 = .ok (.i2c, 1) := by decide +kernel
theorem dX10_putNumber_31 : decode cX10_putNumber 31 = .ok (.invokevirtual 29, 3) := by decide +kernel
theorem dX10_putNumber_34 : decode cX10_putNumber 34 = .ok (.return_, 1) := by decide +kernel
set_option maxHeartbeats 4000000 in
set_option maxRecDepth 100000 in
theorem w_X10_putNumber (l : Launch) (G : GP) (x : XP) (a1 : Int32) (σ : Sto) (P : Sto → Prop) (h : D_X10_putNumber a1 σ P) : g_Metv l yX10_putNumber cX10_putNumber 2 rm_X10_putNumber G x [.ref (g_ad G 83), .int a1] σ P := by
  unfold D_X10_putNumber at h
  refine g_ofWv (by decide +kernel) (Nat.le_of_ble_eq_true rfl) ?_
  intro p e s m args below meth c Q ls C hM hl hret
  have hx := C.1
  have hb := C.2.1
  have hl : lv_has ls 2 [(0, .ref (g_ad G 83)), (1, .int a1)] := hl
  have h := h (fun (σ : Sto) => ∀ (H : Heap) (locs : List Loc) (ls : Array Slot), g_M G x σ s H locs → lv_has ls 2 [(0, .ref (g_ad G 83)), (1, .int a1)] → W p l e rm_X10_putNumber s m args below meth c H locs 0 0 Q (F0 m 12 ls []))
  have h := h (by
    intro σ h  H locs ls hM hl
    refine lv_aload_n (pc := 12) hx hb dX10_putNumber_12 rfl (lv_at hl 0 rfl) ?_
    refine lv_bipush (pc := 13) (v := 48) hx hb dX10_putNumber_13 (by decide) ?_
    refine lv_iload_n (pc := 15) hx hb dX10_putNumber_15 rfl (lv_at hl 1 rfl) ?_
    refine lv_bipush (pc := 16) (v := 10) hx hb dX10_putNumber_16 (by decide) ?_
    refine lv_icmp_lt (pc := 18) (tgt := 28) hx hb dX10_putNumber_18 (by decide) (fun c18 => ?_) (fun c18 => ?_)
    · have h := h.1 c18
      refine lv_iload_n (pc := 28) hx hb dX10_putNumber_28 rfl (lv_at hl 1 rfl) ?_
      refine lv_iadd (pc := 29) hx hb dX10_putNumber_29 ?_
      refine lv_i2c (pc := 30) hx hb dX10_putNumber_30 rfl ?_
      refine g_cVv (pc := 31) C hM hl.1 yv_X10_put q5_184 (by decide) ce_83 rfl (w_X10_put l G x ((((48 + a1)).toUInt32 % 65536).toInt32) σ _ h) rfl rfl ⟨⟨by decide, by decide⟩, by decide, by decide⟩ (Nat.le_of_ble_eq_true rfl) dX10_putNumber_31 (fun s31 H locs h hM => ?_)
      exact hret 34 _ _ _ _ dX10_putNumber_34 h hM
    · have h := h.2 c18
      refine lv_iload_n (pc := 21) hx hb dX10_putNumber_21 rfl (lv_at hl 1 rfl) ?_
      refine lv_bipush (pc := 22) (v := 10) hx hb dX10_putNumber_22 (by decide) ?_
      refine lv_isub (pc := 24) hx hb dX10_putNumber_24 ?_
      refine lv_goto (pc := 25) (tgt := 29) hx hb dX10_putNumber_25 (by decide) ?_
      refine lv_iadd (pc := 29) hx hb dX10_putNumber_29 ?_
      refine lv_i2c (pc := 30) hx hb dX10_putNumber_30 rfl ?_
      refine g_cVv (pc := 31) C hM hl.1 yv_X10_put q5_184 (by decide) ce_83 rfl (w_X10_put l G x ((((48 + (a1 - 10))).toUInt32 % 65536).toInt32) σ _ h) rfl rfl ⟨⟨by decide, by decide⟩, by decide, by decide⟩ (Nat.le_of_ble_eq_true rfl) dX10_putNumber_31 (fun s31 H locs h hM => ?_)
      exact hret 34 _ _ _ _ dX10_putNumber_34 h hM)
  refine lv_iload_n (pc := 0) hx hb dX10_putNumber_0 rfl (lv_at hl 1 rfl) ?_
  refine lv_bipush (pc := 1) (v := 10) hx hb dX10_putNumber_1 (by decide) ?_
  refine lv_icmp_lt (pc := 3) (tgt := 12) hx hb dX10_putNumber_3 (by decide) (fun c3 => ?_) (fun c3 => ?_)
  · have h := h.1 c3
    exact h _ _ _ hM (lv_sub hl [0, 1] rfl)
  · have h := h.2 c3
    refine lv_aload_n (pc := 6) hx hb dX10_putNumber_6 rfl (lv_at hl 0 rfl) ?_
    refine lv_bipush (pc := 7) (v := 49) hx hb dX10_putNumber_7 (by decide) ?_
    refine g_cVv (pc := 9) C hM hl.1 yv_X10_put q5_184 (by decide) ce_83 rfl (w_X10_put l G x 49 σ _ h) rfl rfl ⟨⟨by decide, by decide⟩, by decide, by decide⟩ (Nat.le_of_ble_eq_true rfl) dX10_putNumber_9 (fun s9 H locs h hM => ?_)
    exact h _ _ _ hM (lv_sub hl [0, 1] rfl)
abbrev rm_X10_putSet : Room := { frames := 2, cells := 0, slots := 0, locals := 42 }
theorem dX10_putSet_0 : decode cX10_putSet 0 = .ok (.bipush 123, 2) := by decide +kernel
theorem dX10_putSet_2 : decode cX10_putSet 2 = .ok (.istore_n 2, 1) := by decide +kernel
theorem dX10_putSet_3 : decode cX10_putSet 3 = .ok (.iconst 0, 1) := by decide +kernel
theorem dX10_putSet_4 : decode cX10_putSet 4 = .ok (.istore_n 3, 1) := by decide +kernel
theorem dX10_putSet_5 : decode cX10_putSet 5 = .ok (.iload_n 3, 1) := by decide +kernel
theorem dX10_putSet_6 : decode cX10_putSet 6 = .ok (.bipush 16, 2) := by decide +kernel
theorem dX10_putSet_8 : decode cX10_putSet 8 = .ok (.if_icmp .ge 30, 3) := by decide +kernel
theorem dX10_putSet_11 : decode cX10_putSet 11 = .ok (.iload_n 1, 1) := by decide +kernel
theorem dX10_putSet_12 : decode cX10_putSet 12 = .ok (.iconst 1, 1) := by decide +kernel
theorem dX10_putSet_13 : decode cX10_putSet 13 = .ok (.iload_n 3, 1) := by decide +kernel
theorem dX10_putSet_14 : decode cX10_putSet 14 = .ok (.ishl, 1) := by decide +kernel
theorem dX10_putSet_15 : decode cX10_putSet 15 = .ok (.iand, 1) := by decide +kernel
theorem dX10_putSet_16 : decode cX10_putSet 16 = .ok (.ifCond .eq 16, 3) := by decide +kernel
theorem dX10_putSet_19 : decode cX10_putSet 19 = .ok (.aload_n 0, 1) := by decide +kernel
theorem dX10_putSet_20 : decode cX10_putSet 20 = .ok (.iload_n 2, 1) := by decide +kernel
theorem dX10_putSet_21 : decode cX10_putSet 21 = .ok (.invokevirtual 29, 3) := by decide +kernel
theorem dX10_putSet_24 : decode cX10_putSet 24 = .ok (.aload_n 0, 1) := by decide +kernel
theorem dX10_putSet_25 : decode cX10_putSet 25 = .ok (.iload_n 3, 1) := by decide +kernel
theorem dX10_putSet_26 : decode cX10_putSet 26 = .ok (.invokevirtual 25, 3) := by decide +kernel
theorem dX10_putSet_29 : decode cX10_putSet 29 = .ok (.bipush 44, 2) := by decide +kernel
theorem dX10_putSet_31 : decode cX10_putSet 31 = .ok (.istore_n 2, 1) := by decide +kernel
theorem dX10_putSet_32 : decode cX10_putSet 32 = .ok (.iinc 3 1, 3) := by decide +kernel
theorem dX10_putSet_35 : decode cX10_putSet 35 = .ok (.goto (-30), 3) := by decide +kernel
theorem dX10_putSet_38 : decode cX10_putSet 38 = .ok (.aload_n 0, 1) := by decide +kernel
theorem dX10_putSet_39 : decode cX10_putSet 39 = .ok (.bipush 125, 2) := by decide +kernel
theorem dX10_putSet_41 : decode cX10_putSet 41 = .ok (.invokevirtual 29, 3) := by decide +kernel
theorem dX10_putSet_44 : decode cX10_putSet 44 = .ok (.return_, 1) := by decide +kernel
set_option maxHeartbeats 4000000 in
set_option maxRecDepth 100000 in
theorem w_X10_putSet (l : Launch) (G : GP) (x : XP) (a1 : Int32) (σ : Sto) (P : Sto → Prop) (h : D_X10_putSet a1 σ P) : g_Metv l yX10_putSet cX10_putSet 4 rm_X10_putSet G x [.ref (g_ad G 83), .int a1] σ P := by
  unfold D_X10_putSet at h
  refine g_ofWv (by decide +kernel) (Nat.le_of_ble_eq_true rfl) ?_
  intro p e s m args below meth c Q ls C hM hl hret
  have hx := C.1
  have hb := C.2.1
  have hl : lv_has ls 4 [(0, .ref (g_ad G 83)), (1, .int a1)] := hl
  have h := h (fun (v2 : Int32) (v3 : Int32) (σ : Sto) => ∀ (H : Heap) (locs : List Loc) (ls : Array Slot), g_M G x σ s H locs → lv_has ls 4 [(0, .ref (g_ad G 83)), (1, .int a1), (2, .int v2), (3, .int v3)] → W p l e rm_X10_putSet s m args below meth c H locs 0 0 Q (F0 m 5 ls []))
  have h := h (by
    intro v2 v3 σ h  H locs ls hM hl
    refine lv_iload_n (pc := 5) hx hb dX10_putSet_5 rfl (lv_at hl 3 rfl) ?_
    refine lv_bipush (pc := 6) (v := 16) hx hb dX10_putSet_6 (by decide) ?_
    refine lv_icmp_ge (pc := 8) (tgt := 38) hx hb dX10_putSet_8 (by decide) (fun c8 => ?_) (fun c8 => ?_)
    · have h := h.1 c8
      refine lv_aload_n (pc := 38) hx hb dX10_putSet_38 rfl (lv_at hl 0 rfl) ?_
      refine lv_bipush (pc := 39) (v := 125) hx hb dX10_putSet_39 (by decide) ?_
      refine g_cVv (pc := 41) C hM hl.1 yv_X10_put q5_184 (by decide) ce_83 rfl (w_X10_put l G x 125 σ _ h) rfl rfl ⟨⟨by decide, by decide⟩, by decide, by decide⟩ (Nat.le_of_ble_eq_true rfl) dX10_putSet_41 (fun s41 H locs h hM => ?_)
      exact hret 44 _ _ _ _ dX10_putSet_44 h hM
    · have h := h.2 c8
      refine lv_iload_n (pc := 11) hx hb dX10_putSet_11 rfl (lv_at hl 1 rfl) ?_
      refine lv_iconst (pc := 12) (v := 1) hx hb dX10_putSet_12 (by decide) ?_
      refine lv_iload_n (pc := 13) hx hb dX10_putSet_13 rfl (lv_at hl 3 rfl) ?_
      refine lv_ishl (pc := 14) hx hb dX10_putSet_14 ?_
      refine lv_iand (pc := 15) hx hb dX10_putSet_15 ?_
      refine lv_if_eq (pc := 16) (tgt := 32) hx hb dX10_putSet_16 (by decide) (fun c16 => ?_) (fun c16 => ?_)
      · have h := h.1 c16
        refine lv_iinc (pc := 32) (v := (v3 + 1)) (lv' := [(3, .int (v3 + 1)), (0, .ref (g_ad G 83)), (1, .int a1), (2, .int v2)]) hx hb dX10_putSet_32 hl (k := 3) rfl (by rfl) (by decide) rfl (fun ls hl => ?_)
        refine lv_goto (pc := 35) (tgt := 5) hx hb dX10_putSet_35 (by decide) ?_
        exact h _ _ _ hM (lv_sub hl [1, 2, 3, 0] rfl)
      · have h := h.2 c16
        refine lv_aload_n (pc := 19) hx hb dX10_putSet_19 rfl (lv_at hl 0 rfl) ?_
        refine lv_iload_n (pc := 20) hx hb dX10_putSet_20 rfl (lv_at hl 2 rfl) ?_
        refine g_cVv (pc := 21) C hM hl.1 yv_X10_put q5_184 (by decide) ce_83 rfl (w_X10_put l G x v2 σ _ h) rfl rfl ⟨⟨by decide, by decide⟩, by decide, by decide⟩ (Nat.le_of_ble_eq_true rfl) dX10_putSet_21 (fun s21 H locs h hM => ?_)
        refine lv_aload_n (pc := 24) hx hb dX10_putSet_24 rfl (lv_at hl 0 rfl) ?_
        refine lv_iload_n (pc := 25) hx hb dX10_putSet_25 rfl (lv_at hl 3 rfl) ?_
        refine g_cVv (pc := 26) C hM hl.1 yv_X10_putNumber q5_180 (by decide) ce_83 rfl (w_X10_putNumber l G x v3 s21 _ h) rfl rfl ⟨⟨by decide, by decide⟩, by decide, by decide⟩ (Nat.le_of_ble_eq_true rfl) dX10_putSet_26 (fun s26 H locs h hM => ?_)
        refine lv_bipush (pc := 29) (v := 44) hx hb dX10_putSet_29 (by decide) ?_
        refine lv_istore_n (pc := 31) (lv' := [(2, .int 44), (0, .ref (g_ad G 83)), (1, .int a1), (3, .int v3)]) hx hb dX10_putSet_31 rfl hl (by decide) rfl (fun ls hl => ?_)
        refine lv_iinc (pc := 32) (v := (v3 + 1)) (lv' := [(3, .int (v3 + 1)), (2, .int 44), (0, .ref (g_ad G 83)), (1, .int a1)]) hx hb dX10_putSet_32 hl (k := 3) rfl (by rfl) (by decide) rfl (fun ls hl => ?_)
        refine lv_goto (pc := 35) (tgt := 5) hx hb dX10_putSet_35 (by decide) ?_
        exact h _ _ _ hM (lv_sub hl [2, 3, 1, 0] rfl))
  refine lv_bipush (pc := 0) (v := 123) hx hb dX10_putSet_0 (by decide) ?_
  refine lv_istore_n (pc := 2) (lv' := [(2, .int 123), (0, .ref (g_ad G 83)), (1, .int a1)]) hx hb dX10_putSet_2 rfl hl (by decide) rfl (fun ls hl => ?_)
  refine lv_iconst (pc := 3) (v := 0) hx hb dX10_putSet_3 (by decide) ?_
  refine lv_istore_n (pc := 4) (lv' := [(3, .int 0), (2, .int 123), (0, .ref (g_ad G 83)), (1, .int a1)]) hx hb dX10_putSet_4 rfl hl (by decide) rfl (fun ls hl => ?_)
  exact h _ _ _ hM (lv_sub hl [2, 3, 1, 0] rfl)
abbrev rm_X10_signOf : Room := { frames := 0, cells := 0, slots := 0, locals := 0 }
theorem dX10_signOf_0 : decode cX10_signOf 0 = .ok (.iload_n 0, 1) := by decide +kernel
theorem dX10_signOf_1 : decode cX10_signOf 1 = .ok (.tableswitch 36 0 2 #[27, 30, 33], 27) := by decide +kernel
theorem dX10_signOf_28 : decode cX10_signOf 28 = .ok (.bipush 61, 2) := by decide +kernel
theorem dX10_signOf_30 : decode cX10_signOf 30 = .ok (.ireturn, 1) := by decide +kernel
theorem dX10_signOf_31 : decode cX10_signOf 31 = .ok (.bipush 35, 2) := by decide +kernel
theorem dX10_signOf_33 : decode cX10_signOf 33 = .ok (.ireturn, 1) := by decide +kernel
theorem dX10_signOf_34 : decode cX10_signOf 34 = .ok (.bipush 60, 2) := by decide +kernel
theorem dX10_signOf_36 : decode cX10_signOf 36 = .ok (.ireturn, 1) := by decide +kernel
theorem dX10_signOf_37 : decode cX10_signOf 37 = .ok (.bipush 62, 2) := by decide +kernel
theorem dX10_signOf_39 : decode cX10_signOf 39 = .ok (.ireturn, 1) := by decide +kernel
set_option maxHeartbeats 4000000 in
set_option maxRecDepth 100000 in
theorem w_X10_signOf (l : Launch) (G : GP) (x : XP) (a0 : Int32) (σ : Sto) (P : Int32 → Sto → Prop) (h : D_X10_signOf a0 σ P) : g_Meti l yX10_signOf cX10_signOf 1 (some .char) rm_X10_signOf G x [.int a0] σ P := by
  unfold D_X10_signOf at h
  refine g_ofWi (by decide +kernel) (Nat.le_of_ble_eq_true rfl) ?_
  intro p e s m args below meth c Q ls C hM hl hret
  have hx := C.1
  have hb := C.2.1
  have hl : lv_has ls 1 [(0, .int a0)] := hl
  refine lv_iload_n (pc := 0) hx hb dX10_signOf_0 rfl (lv_at hl 0 rfl) ?_
  by_cases c1_0 : a0 = 0
  · have h := h.1 c1_0
    refine lv_tableIn (pc := 1) (tgt := 28) hx hb dX10_signOf_1 (by rw [c1_0]; decide) (by rw [c1_0]; decide) (by rw [c1_0]; rfl) (by decide) ?_
    refine lv_bipush (pc := 28) (v := 61) hx hb dX10_signOf_28 (by decide) ?_
    exact hret 30 _ _ _ _ _ dX10_signOf_30 (by rfl) h hM
  · have h := h.2 c1_0
    by_cases c1_1 : a0 = 1
    · have h := h.1 c1_1
      refine lv_tableIn (pc := 1) (tgt := 31) hx hb dX10_signOf_1 (by rw [c1_1]; decide) (by rw [c1_1]; decide) (by rw [c1_1]; rfl) (by decide) ?_
      refine lv_bipush (pc := 31) (v := 35) hx hb dX10_signOf_31 (by decide) ?_
      exact hret 33 _ _ _ _ _ dX10_signOf_33 (by rfl) h hM
    · have h := h.2 c1_1
      by_cases c1_2 : a0 = 2
      · have h := h.1 c1_2
        refine lv_tableIn (pc := 1) (tgt := 34) hx hb dX10_signOf_1 (by rw [c1_2]; decide) (by rw [c1_2]; decide) (by rw [c1_2]; rfl) (by decide) ?_
        refine lv_bipush (pc := 34) (v := 60) hx hb dX10_signOf_34 (by decide) ?_
        exact hret 36 _ _ _ _ _ dX10_signOf_36 (by rfl) h hM
      · have h := h.2 c1_2
        have ht : (a0).toInt < 0 ∨ 2 < (a0).toInt := by
          have nc1_0 := lv_neT c1_0 (a := 0) rfl
          have nc1_1 := lv_neT c1_1 (a := 1) rfl
          have nc1_2 := lv_neT c1_2 (a := 2) rfl
          omega
        refine lv_tableOut (pc := 1) (tgt := 37) hx hb dX10_signOf_1 ht (by decide) ?_
        refine lv_bipush (pc := 37) (v := 62) hx hb dX10_signOf_37 (by decide) ?_
        exact hret 39 _ _ _ _ _ dX10_signOf_39 (by rfl) h hM
abbrev rm_X10_putCondition : Room := { frames := 3, cells := 0, slots := 0, locals := 65 }
theorem dX10_putCondition_0 : decode cX10_putCondition 0 = .ok (.aload_n 0, 1) := by decide +kernel
theorem dX10_putCondition_1 : decode cX10_putCondition 1 = .ok (.bipush 97, 2) := by decide +kernel
theorem dX10_putCondition_3 : decode cX10_putCondition 3 = .ok (.aload_n 1, 1) := by decide +kernel
theorem dX10_putCondition_4 : decode cX10_putCondition 4 = .ok (.iload_n 2, 1) := by decide +kernel
theorem dX10_putCondition_5 : decode cX10_putCondition 5 = .ok (.iload_n 3, 1) := by decide +kernel
theorem dX10_putCondition_6 : decode cX10_putCondition 6 = .ok (.iconst 0, 1) := by decide +kernel
theorem dX10_putCondition_7 : decode cX10_putCondition 7 = .ok (.invokevirtual 37, 3) := by decide +kernel
theorem dX10_putCondition_10 : decode cX10_putCondition 10 = .ok (.iadd, 1) := by decide +kernel
theorem dX10_putCondition_11 : decode cX10_putCondition 11 = .ok (.i2c, 1) := by decide +kernel
theorem dX10_putCondition_12 : decode cX10_putCondition 12 = .ok (.invokevirtual 29, 3) := by decide +kernel
theorem dX10_putCondition_15 : decode cX10_putCondition 15 = .ok (.aload_n 1, 1) := by decide +kernel
theorem dX10_putCondition_16 : decode cX10_putCondition 16 = .ok (.iload_n 2, 1) := by decide +kernel
theorem dX10_putCondition_17 : decode cX10_putCondition 17 = .ok (.iload_n 3, 1) := by decide +kernel
theorem dX10_putCondition_18 : decode cX10_putCondition 18 = .ok (.iconst 2, 1) := by decide +kernel
theorem dX10_putCondition_19 : decode cX10_putCondition 19 = .ok (.invokevirtual 37, 3) := by decide +kernel
theorem dX10_putCondition_22 : decode cX10_putCondition 22 = .ok (.istore 4, 2) := by decide +kernel
theorem dX10_putCondition_24 : decode cX10_putCondition 24 = .ok (.aload_n 1, 1) := by decide +kernel
theorem dX10_putCondition_25 : decode cX10_putCondition 25 = .ok (.iload_n 2, 1) := by decide +kernel
theorem dX10_putCondition_26 : decode cX10_putCondition 26 = .ok (.iload_n 3, 1) := by decide +kernel
theorem dX10_putCondition_27 : decode cX10_putCondition 27 = .ok (.iconst 1, 1) := by decide +kernel
theorem dX10_putCondition_28 : decode cX10_putCondition 28 = .ok (.invokevirtual 37, 3) := by decide +kernel
theorem dX10_putCondition_31 : decode cX10_putCondition 31 = .ok (.istore 5, 2) := by decide +kernel
theorem dX10_putCondition_33 : decode cX10_putCondition 33 = .ok (.iload 5, 2) := by decide +kernel
theorem dX10_putCondition_35 : decode cX10_putCondition 35 = .ok (.iconst 4, 1) := by decide +kernel
theorem dX10_putCondition_36 : decode cX10_putCondition 36 = .ok (.if_icmp .ne 12, 3) := by decide +kernel
theorem dX10_putCondition_39 : decode cX10_putCondition 39 = .ok (.aload_n 0, 1) := by decide +kernel
theorem dX10_putCondition_40 : decode cX10_putCondition 40 = .ok (.iload 4, 2) := by decide +kernel
theorem dX10_putCondition_42 : decode cX10_putCondition 42 = .ok (.invokevirtual 41, 3) := by decide +kernel
theorem dX10_putCondition_45 : decode cX10_putCondition 45 = .ok (.goto 18, 3) := by decide +kernel
theorem dX10_putCondition_48 : decode cX10_putCondition 48 = .ok (.aload_n 0, 1) := by decide +kernel
theorem dX10_putCondition_49 : decode cX10_putCondition 49 = .ok (.iload 5, 2) := by decide +kernel
theorem dX10_putCondition_51 : decode cX10_putCondition 51 = .ok (.invokestatic 44, 3) := by decide +kernel
theorem dX10_putCondition_54 : decode cX10_putCondition 54 = .ok (.invokevirtual 29, 3) := by decide +kernel
theorem dX10_putCondition_57 : decode cX10_putCondition 57 = .ok (.aload_n 0, 1) := by decide +kernel
theorem dX10_putCondition_58 : decode cX10_putCondition 58 = .ok (.iload 4, 2) := by decide +kernel
theorem dX10_putCondition_60 : decode cX10_putCondition 60 = .ok (.invokevirtual 25, 3) := by decide +kernel
theorem dX10_putCondition_63 : decode cX10_putCondition 63 = .ok (.return_, 1) := by decide +kernel
set_option maxHeartbeats 4000000 in
set_option maxRecDepth 100000 in
theorem w_X10_putCondition (l : Launch) (G : GP) (x : XP) (o1 : Nat) (a2 : Int32) (a3 : Int32) (σ : Sto) (P : Sto → Prop) (h : D_X10_putCondition o1 a2 a3 σ P) : g_Metv l yX10_putCondition cX10_putCondition 6 rm_X10_putCondition G x [.ref (g_ad G 83), .ref (g_ad G o1), .int a2, .int a3] σ P := by
  unfold D_X10_putCondition at h
  obtain ⟨ho1, h⟩ := h
  refine g_ofWv (by decide +kernel) (Nat.le_of_ble_eq_true rfl) ?_
  intro p e s m args below meth c Q ls C hM hl hret
  have hx := C.1
  have hb := C.2.1
  have hl : lv_has ls 6 [(0, .ref (g_ad G 83)), (1, .ref (g_ad G o1)), (2, .int a2), (3, .int a3)] := hl
  refine lv_aload_n (pc := 0) hx hb dX10_putCondition_0 rfl (lv_at hl 0 rfl) ?_
  refine lv_bipush (pc := 1) (v := 97) hx hb dX10_putCondition_1 (by decide) ?_
  refine lv_aload_n (pc := 3) hx hb dX10_putCondition_3 rfl (lv_at hl 1 rfl) ?_
  refine lv_iload_n (pc := 4) hx hb dX10_putCondition_4 rfl (lv_at hl 2 rfl) ?_
  refine lv_iload_n (pc := 5) hx hb dX10_putCondition_5 rfl (lv_at hl 3 rfl) ?_
  refine lv_iconst (pc := 6) (v := 0) hx hb dX10_putCondition_6 (by decide) ?_
  refine g_cVi (pc := 7) C hM hl.1 yv_X6_conditionCell q5_192 (ru_lt ho1) (ce_ru ho1) rfl (w_X6_conditionCell l G x o1 a2 a3 0 σ _ h) rfl rfl ⟨⟨by decide, by decide⟩, by decide, by decide⟩ (Nat.le_of_ble_eq_true rfl) dX10_putCondition_7 (fun r7 s7 H locs h hM => ?_)
  refine lv_iadd (pc := 10) hx hb dX10_putCondition_10 ?_
  refine lv_i2c (pc := 11) hx hb dX10_putCondition_11 rfl ?_
  refine g_cVv (pc := 12) C hM hl.1 yv_X10_put q5_184 (by decide) ce_83 rfl (w_X10_put l G x ((((97 + r7)).toUInt32 % 65536).toInt32) s7 _ h) rfl rfl ⟨⟨by decide, by decide⟩, by decide, by decide⟩ (Nat.le_of_ble_eq_true rfl) dX10_putCondition_12 (fun s12 H locs h hM => ?_)
  refine lv_aload_n (pc := 15) hx hb dX10_putCondition_15 rfl (lv_at hl 1 rfl) ?_
  refine lv_iload_n (pc := 16) hx hb dX10_putCondition_16 rfl (lv_at hl 2 rfl) ?_
  refine lv_iload_n (pc := 17) hx hb dX10_putCondition_17 rfl (lv_at hl 3 rfl) ?_
  refine lv_iconst (pc := 18) (v := 2) hx hb dX10_putCondition_18 (by decide) ?_
  refine g_cVi (pc := 19) C hM hl.1 yv_X6_conditionCell q5_192 (ru_lt ho1) (ce_ru ho1) rfl (w_X6_conditionCell l G x o1 a2 a3 2 s12 _ h) rfl rfl ⟨⟨by decide, by decide⟩, by decide, by decide⟩ (Nat.le_of_ble_eq_true rfl) dX10_putCondition_19 (fun r19 s19 H locs h hM => ?_)
  refine lv_istore (pc := 22) (lv' := [(4, .int r19), (0, .ref (g_ad G 83)), (1, .ref (g_ad G o1)), (2, .int a2), (3, .int a3)]) hx hb dX10_putCondition_22 hl (by decide) rfl (fun ls hl => ?_)
  refine lv_aload_n (pc := 24) hx hb dX10_putCondition_24 rfl (lv_at hl 2 rfl) ?_
  refine lv_iload_n (pc := 25) hx hb dX10_putCondition_25 rfl (lv_at hl 3 rfl) ?_
  refine lv_iload_n (pc := 26) hx hb dX10_putCondition_26 rfl (lv_at hl 4 rfl) ?_
  refine lv_iconst (pc := 27) (v := 1) hx hb dX10_putCondition_27 (by decide) ?_
  refine g_cVi (pc := 28) C hM hl.1 yv_X6_conditionCell q5_192 (ru_lt ho1) (ce_ru ho1) rfl (w_X6_conditionCell l G x o1 a2 a3 1 s19 _ h) rfl rfl ⟨⟨by decide, by decide⟩, by decide, by decide⟩ (Nat.le_of_ble_eq_true rfl) dX10_putCondition_28 (fun r28 s28 H locs h hM => ?_)
  refine lv_istore (pc := 31) (lv' := [(5, .int r28), (4, .int r19), (0, .ref (g_ad G 83)), (1, .ref (g_ad G o1)), (2, .int a2), (3, .int a3)]) hx hb dX10_putCondition_31 hl (by decide) rfl (fun ls hl => ?_)
  refine lv_iload (pc := 33) hx hb dX10_putCondition_33 (lv_at hl 0 rfl) ?_
  refine lv_iconst (pc := 35) (v := 4) hx hb dX10_putCondition_35 (by decide) ?_
  refine lv_icmp_ne (pc := 36) (tgt := 48) hx hb dX10_putCondition_36 (by decide) (fun c36 => ?_) (fun c36 => ?_)
  · have h := h.2 c36
    refine lv_aload_n (pc := 48) hx hb dX10_putCondition_48 rfl (lv_at hl 2 rfl) ?_
    refine lv_iload (pc := 49) hx hb dX10_putCondition_49 (lv_at hl 0 rfl) ?_
    refine g_cSi (pc := 51) C hM hl.1 ys_X10_signOf q5_197 (w_X10_signOf l G x r28 s28 _ h) rfl rfl ⟨⟨by decide, by decide⟩, by decide, by decide⟩ (Nat.le_of_ble_eq_true rfl) dX10_putCondition_51 (fun r51 s51 H locs h hM => ?_)
    refine g_cVv (pc := 54) C hM hl.1 yv_X10_put q5_184 (by decide) ce_83 rfl (w_X10_put l G x r51 s51 _ h) rfl rfl ⟨⟨by decide, by decide⟩, by decide, by decide⟩ (Nat.le_of_ble_eq_true rfl) dX10_putCondition_54 (fun s54 H locs h hM => ?_)
    refine lv_aload_n (pc := 57) hx hb dX10_putCondition_57 rfl (lv_at hl 2 rfl) ?_
    refine lv_iload (pc := 58) hx hb dX10_putCondition_58 (lv_at hl 1 rfl) ?_
    refine g_cVv (pc := 60) C hM hl.1 yv_X10_putNumber q5_180 (by decide) ce_83 rfl (w_X10_putNumber l G x r19 s54 _ h) rfl rfl ⟨⟨by decide, by decide⟩, by decide, by decide⟩ (Nat.le_of_ble_eq_true rfl) dX10_putCondition_60 (fun s60 H locs h hM => ?_)
    exact hret 63 _ _ _ _ dX10_putCondition_63 h hM
  · have h := h.1 c36
    refine lv_aload_n (pc := 39) hx hb dX10_putCondition_39 rfl (lv_at hl 2 rfl) ?_
    refine lv_iload (pc := 40) hx hb dX10_putCondition_40 (lv_at hl 1 rfl) ?_
    refine g_cVv (pc := 42) C hM hl.1 yv_X10_putSet q5_193 (by decide) ce_83 rfl (w_X10_putSet l G x r19 s28 _ h) rfl rfl ⟨⟨by decide, by decide⟩, by decide, by decide⟩ (Nat.le_of_ble_eq_true rfl) dX10_putCondition_42 (fun s42 H locs h hM => ?_)
    refine lv_goto (pc := 45) (tgt := 63) hx hb dX10_putCondition_45 (by decide) ?_
    exact hret 63 _ _ _ _ dX10_putCondition_63 h hM
abbrev rm_X10_write : Room := { frames := 4, cells := 0, slots := 0, locals := 90 }
theorem dX10_write_0 : decode cX10_write 0 = .ok (.aload_n 0, 1) := by decide +kernel
theorem dX10_write_1 : decode cX10_write 1 = .ok (.iconst 0, 1) := by decide +kernel
theorem dX10_write_2 : decode cX10_write 2 = .ok (.putfield 15, 3) := by decide +kernel
theorem dX10_write_5 : decode cX10_write 5 = .ok (.aload_n 0, 1) := by decide +kernel
theorem dX10_write_6 : decode cX10_write 6 = .ok (.aload_n 1, 1) := by decide +kernel
theorem dX10_write_7 : decode cX10_write 7 = .ok (.iload_n 2, 1) := by decide +kernel
theorem dX10_write_8 : decode cX10_write 8 = .ok (.iconst 0, 1) := by decide +kernel
theorem dX10_write_9 : decode cX10_write 9 = .ok (.invokevirtual 19, 3) := by decide +kernel
theorem dX10_write_12 : decode cX10_write 12 = .ok (.invokevirtual 25, 3) := by decide +kernel
theorem dX10_write_15 : decode cX10_write 15 = .ok (.aload_n 0, 1) := by decide +kernel
theorem dX10_write_16 : decode cX10_write 16 = .ok (.aload_n 1, 1) := by decide +kernel
theorem dX10_write_17 : decode cX10_write 17 = .ok (.iload_n 2, 1) := by decide +kernel
theorem dX10_write_18 : decode cX10_write 18 = .ok (.iconst 1, 1) := by decide +kernel
theorem dX10_write_19 : decode cX10_write 19 = .ok (.invokevirtual 19, 3) := by decide +kernel
theorem dX10_write_22 : decode cX10_write 22 = .ok (.iconst 1, 1) := by decide +kernel
theorem dX10_write_23 : decode cX10_write 23 = .ok (.if_icmp .ne 8, 3) := by decide +kernel
theorem dX10_write_26 : decode cX10_write 26 = .ok (.bipush 45, 2) := by decide +kernel
theorem dX10_write_28 : decode cX10_write 28 = .ok (.goto 5, 3) := by decide +kernel
theorem dX10_write_31 : decode cX10_write 31 = .ok (.bipush 43, 2) := by decide +kernel
theorem dX10_write_33 : decode cX10_write 33 = .ok (.invokevirtual 29, 3) := by decide +kernel
theorem dX10_write_36 : decode cX10_write 36 = .ok (.aload_n 1, 1) := by decide +kernel
theorem dX10_write_37 : decode cX10_write 37 = .ok (.iload_n 2, 1) := by decide +kernel
theorem dX10_write_38 : decode cX10_write 38 = .ok (.iconst 3, 1) := by decide +kernel
theorem dX10_write_39 : decode cX10_write 39 = .ok (.invokevirtual 19, 3) := by decide +kernel
theorem dX10_write_42 : decode cX10_write 42 = .ok (.istore_n 3, 1) := by decide +kernel
theorem dX10_write_43 : decode cX10_write 43 = .ok (.iconst 0, 1) := by decide +kernel
theorem dX10_write_44 : decode cX10_write 44 = .ok (.istore 4, 2) := by decide +kernel
theorem dX10_write_46 : decode cX10_write 46 = .ok (.iload 4, 2) := by decide +kernel
theorem dX10_write_48 : decode cX10_write 48 = .ok (.iload_n 3, 1) := by decide +kernel
theorem dX10_write_49 : decode cX10_write 49 = .ok (.if_icmp .ge 28, 3) := by decide +kernel
theorem dX10_write_52 : decode cX10_write 52 = .ok (.iload 4, 2) := by decide +kernel
theorem dX10_write_54 : decode cX10_write 54 = .ok (.ifCond .le 9, 3) := by decide +kernel
theorem dX10_write_57 : decode cX10_write 57 = .ok (.aload_n 0, 1) := by decide +kernel
theorem dX10_write_58 : decode cX10_write 58 = .ok (.bipush 38, 2) := by decide +kernel
theorem dX10_write_60 : decode cX10_write 60 = .ok (.invokevirtual 29, 3) := by decide +kernel
theorem dX10_write_63 : decode cX10_write 63 = .ok (.aload_n 0, 1) := by decide +kernel
theorem dX10_write_64 : decode cX10_write 64 = .ok (.aload_n 1, 1) := by decide +kernel
theorem dX10_write_65 : decode cX10_write 65 = .ok (.iload_n 2, 1) := by decide +kernel
theorem dX10_write_66 : decode cX10_write 66 = .ok (.iload 4, 2) := by decide +kernel
theorem dX10_write_68 : decode cX10_write 68 = .ok (.invokevirtual 33, 3) := by decide +kernel
theorem dX10_write_71 : decode cX10_write 71 = .ok (.iinc 4 1, 3) := by decide +kernel
theorem dX10_write_74 : decode cX10_write 74 = .ok (.goto (-28), 3) := by decide +kernel
theorem dX10_write_77 : decode cX10_write 77 = .ok (.aload_n 0, 1) := by decide +kernel
theorem dX10_write_78 : decode cX10_write 78 = .ok (.bipush 58, 2) := by decide +kernel
theorem dX10_write_80 : decode cX10_write 80 = .ok (.invokevirtual 29, 3) := by decide +kernel
theorem dX10_write_83 : decode cX10_write 83 = .ok (.aload_n 0, 1) := by decide +kernel
theorem dX10_write_84 : decode cX10_write 84 = .ok (.aload_n 1, 1) := by decide +kernel
theorem dX10_write_85 : decode cX10_write 85 = .ok (.iload_n 2, 1) := by decide +kernel
theorem dX10_write_86 : decode cX10_write 86 = .ok (.iconst 2, 1) := by decide +kernel
theorem dX10_write_87 : decode cX10_write 87 = .ok (.invokevirtual 19, 3) := by decide +kernel
theorem dX10_write_90 : decode cX10_write 90 = .ok (.invokevirtual 25, 3) := by decide +kernel
theorem dX10_write_93 : decode cX10_write 93 = .ok (.aload_n 0, 1) := by decide +kernel
theorem dX10_write_94 : decode cX10_write 94 = .ok (.bipush 59, 2) := by decide +kernel
theorem dX10_write_96 : decode cX10_write 96 = .ok (.invokevirtual 29, 3) := by decide +kernel
theorem dX10_write_99 : decode cX10_write 99 = .ok (.return_, 1) := by decide +kernel
set_option maxHeartbeats 4000000 in
set_option maxRecDepth 100000 in
theorem w_X10_write (l : Launch) (G : GP) (x : XP) (o1 : Nat) (a2 : Int32) (σ : Sto) (P : Sto → Prop) (h : D_X10_write o1 a2 σ P) : g_Metv l yX10_write cX10_write 5 rm_X10_write G x [.ref (g_ad G 83), .ref (g_ad G o1), .int a2] σ P := by
  unfold D_X10_write at h
  obtain ⟨ho1, h⟩ := h
  refine g_ofWv (by decide +kernel) (Nat.le_of_ble_eq_true rfl) ?_
  intro p e s m args below meth c Q ls C hM hl hret
  have hx := C.1
  have hb := C.2.1
  have hl : lv_has ls 5 [(0, .ref (g_ad G 83)), (1, .ref (g_ad G o1)), (2, .int a2)] := hl
  have h := h (fun (v3 : Int32) (v4 : Int32) (σ : Sto) => ∀ (H : Heap) (locs : List Loc) (ls : Array Slot), g_M G x σ s H locs → lv_has ls 5 [(0, .ref (g_ad G 83)), (1, .ref (g_ad G o1)), (2, .int a2), (3, .int v3), (4, .int v4)] → W p l e rm_X10_write s m args below meth c H locs 0 0 Q (F0 m 46 ls []))
  have h := h (by
    intro v3 v4 σ h  H locs ls hM hl
    refine lv_iload (pc := 46) hx hb dX10_write_46 (lv_at hl 4 rfl) ?_
    refine lv_iload_n (pc := 48) hx hb dX10_write_48 rfl (lv_at hl 3 rfl) ?_
    refine lv_icmp_ge (pc := 49) (tgt := 77) hx hb dX10_write_49 (by decide) (fun c49 => ?_) (fun c49 => ?_)
    · have h := h.1 c49
      refine lv_aload_n (pc := 77) hx hb dX10_write_77 rfl (lv_at hl 0 rfl) ?_
      refine lv_bipush (pc := 78) (v := 58) hx hb dX10_write_78 (by decide) ?_
      refine g_cVv (pc := 80) C hM hl.1 yv_X10_put q5_184 (by decide) ce_83 rfl (w_X10_put l G x 58 σ _ h) rfl rfl ⟨⟨by decide, by decide⟩, by decide, by decide⟩ (Nat.le_of_ble_eq_true rfl) dX10_write_80 (fun s80 H locs h hM => ?_)
      refine lv_aload_n (pc := 83) hx hb dX10_write_83 rfl (lv_at hl 0 rfl) ?_
      refine lv_aload_n (pc := 84) hx hb dX10_write_84 rfl (lv_at hl 1 rfl) ?_
      refine lv_iload_n (pc := 85) hx hb dX10_write_85 rfl (lv_at hl 2 rfl) ?_
      refine lv_iconst (pc := 86) (v := 2) hx hb dX10_write_86 (by decide) ?_
      refine g_cVi (pc := 87) C hM hl.1 yv_X6_cell q5_179 (ru_lt ho1) (ce_ru ho1) rfl (w_X6_cell l G x o1 a2 2 s80 _ h) rfl rfl ⟨⟨by decide, by decide⟩, by decide, by decide⟩ (Nat.le_of_ble_eq_true rfl) dX10_write_87 (fun r87 s87 H locs h hM => ?_)
      refine g_cVv (pc := 90) C hM hl.1 yv_X10_putNumber q5_180 (by decide) ce_83 rfl (w_X10_putNumber l G x r87 s87 _ h) rfl rfl ⟨⟨by decide, by decide⟩, by decide, by decide⟩ (Nat.le_of_ble_eq_true rfl) dX10_write_90 (fun s90 H locs h hM => ?_)
      refine lv_aload_n (pc := 93) hx hb dX10_write_93 rfl (lv_at hl 0 rfl) ?_
      refine lv_bipush (pc := 94) (v := 59) hx hb dX10_write_94 (by decide) ?_
      refine g_cVv (pc := 96) C hM hl.1 yv_X10_put q5_184 (by decide) ce_83 rfl (w_X10_put l G x 59 s90 _ h) rfl rfl ⟨⟨by decide, by decide⟩, by decide, by decide⟩ (Nat.le_of_ble_eq_true rfl) dX10_write_96 (fun s96 H locs h hM => ?_)
      exact hret 99 _ _ _ _ dX10_write_99 h hM
    · have h := h.2 c49
      refine lv_iload (pc := 52) hx hb dX10_write_52 (lv_at hl 4 rfl) ?_
      refine lv_if_le (pc := 54) (tgt := 63) hx hb dX10_write_54 (by decide) (fun c54 => ?_) (fun c54 => ?_)
      · have h := h.1 c54
        refine lv_aload_n (pc := 63) hx hb dX10_write_63 rfl (lv_at hl 0 rfl) ?_
        refine lv_aload_n (pc := 64) hx hb dX10_write_64 rfl (lv_at hl 1 rfl) ?_
        refine lv_iload_n (pc := 65) hx hb dX10_write_65 rfl (lv_at hl 2 rfl) ?_
        refine lv_iload (pc := 66) hx hb dX10_write_66 (lv_at hl 4 rfl) ?_
        refine g_cVv (pc := 68) C hM hl.1 yv_X10_putCondition q5_188 (by decide) ce_83 rfl (w_X10_putCondition l G x o1 a2 v4 σ _ h) rfl rfl ⟨⟨by decide, by decide⟩, by decide, by decide⟩ (Nat.le_of_ble_eq_true rfl) dX10_write_68 (fun s68 H locs h hM => ?_)
        refine lv_iinc (pc := 71) (v := (v4 + 1)) (lv' := [(4, .int (v4 + 1)), (0, .ref (g_ad G 83)), (1, .ref (g_ad G o1)), (2, .int a2), (3, .int v3)]) hx hb dX10_write_71 hl (k := 4) rfl (by rfl) (by decide) rfl (fun ls hl => ?_)
        refine lv_goto (pc := 74) (tgt := 46) hx hb dX10_write_74 (by decide) ?_
        exact h _ _ _ hM (lv_sub hl [1, 2, 3, 4, 0] rfl)
      · have h := h.2 c54
        refine lv_aload_n (pc := 57) hx hb dX10_write_57 rfl (lv_at hl 0 rfl) ?_
        refine lv_bipush (pc := 58) (v := 38) hx hb dX10_write_58 (by decide) ?_
        refine g_cVv (pc := 60) C hM hl.1 yv_X10_put q5_184 (by decide) ce_83 rfl (w_X10_put l G x 38 σ _ h) rfl rfl ⟨⟨by decide, by decide⟩, by decide, by decide⟩ (Nat.le_of_ble_eq_true rfl) dX10_write_60 (fun s60 H locs h hM => ?_)
        refine lv_aload_n (pc := 63) hx hb dX10_write_63 rfl (lv_at hl 0 rfl) ?_
        refine lv_aload_n (pc := 64) hx hb dX10_write_64 rfl (lv_at hl 1 rfl) ?_
        refine lv_iload_n (pc := 65) hx hb dX10_write_65 rfl (lv_at hl 2 rfl) ?_
        refine lv_iload (pc := 66) hx hb dX10_write_66 (lv_at hl 4 rfl) ?_
        refine g_cVv (pc := 68) C hM hl.1 yv_X10_putCondition q5_188 (by decide) ce_83 rfl (w_X10_putCondition l G x o1 a2 v4 s60 _ h) rfl rfl ⟨⟨by decide, by decide⟩, by decide, by decide⟩ (Nat.le_of_ble_eq_true rfl) dX10_write_68 (fun s68 H locs h hM => ?_)
        refine lv_iinc (pc := 71) (v := (v4 + 1)) (lv' := [(4, .int (v4 + 1)), (0, .ref (g_ad G 83)), (1, .ref (g_ad G o1)), (2, .int a2), (3, .int v3)]) hx hb dX10_write_71 hl (k := 4) rfl (by rfl) (by decide) rfl (fun ls hl => ?_)
        refine lv_goto (pc := 74) (tgt := 46) hx hb dX10_write_74 (by decide) ?_
        exact h _ _ _ hM (lv_sub hl [1, 2, 3, 4, 0] rfl))
  refine lv_aload_n (pc := 0) hx hb dX10_write_0 rfl (lv_at hl 0 rfl) ?_
  refine lv_iconst (pc := 1) (v := 0) hx hb dX10_write_1 (by decide) ?_
  refine g_putE (pc := 2) C hM (by decide) ce_83 fp_RX10_15 rfl rfl (Nat.le_of_ble_eq_true rfl) rfl dX10_write_2 (fun s2 es2 H locs hM => ?_)
  have h := h s2 es2
  refine lv_aload_n (pc := 5) hx hb dX10_write_5 rfl (lv_at hl 0 rfl) ?_
  refine lv_aload_n (pc := 6) hx hb dX10_write_6 rfl (lv_at hl 1 rfl) ?_
  refine lv_iload_n (pc := 7) hx hb dX10_write_7 rfl (lv_at hl 2 rfl) ?_
  refine lv_iconst (pc := 8) (v := 0) hx hb dX10_write_8 (by decide) ?_
  refine g_cVi (pc := 9) C hM hl.1 yv_X6_cell q5_179 (ru_lt ho1) (ce_ru ho1) rfl (w_X6_cell l G x o1 a2 0 s2 _ h) rfl rfl ⟨⟨by decide, by decide⟩, by decide, by decide⟩ (Nat.le_of_ble_eq_true rfl) dX10_write_9 (fun r9 s9 H locs h hM => ?_)
  refine g_cVv (pc := 12) C hM hl.1 yv_X10_putNumber q5_180 (by decide) ce_83 rfl (w_X10_putNumber l G x r9 s9 _ h) rfl rfl ⟨⟨by decide, by decide⟩, by decide, by decide⟩ (Nat.le_of_ble_eq_true rfl) dX10_write_12 (fun s12 H locs h hM => ?_)
  refine lv_aload_n (pc := 15) hx hb dX10_write_15 rfl (lv_at hl 0 rfl) ?_
  refine lv_aload_n (pc := 16) hx hb dX10_write_16 rfl (lv_at hl 1 rfl) ?_
  refine lv_iload_n (pc := 17) hx hb dX10_write_17 rfl (lv_at hl 2 rfl) ?_
  refine lv_iconst (pc := 18) (v := 1) hx hb dX10_write_18 (by decide) ?_
  refine g_cVi (pc := 19) C hM hl.1 yv_X6_cell q5_179 (ru_lt ho1) (ce_ru ho1) rfl (w_X6_cell l G x o1 a2 1 s12 _ h) rfl rfl ⟨⟨by decide, by decide⟩, by decide, by decide⟩ (Nat.le_of_ble_eq_true rfl) dX10_write_19 (fun r19 s19 H locs h hM => ?_)
  refine lv_iconst (pc := 22) (v := 1) hx hb dX10_write_22 (by decide) ?_
  refine lv_icmp_ne (pc := 23) (tgt := 31) hx hb dX10_write_23 (by decide) (fun c23 => ?_) (fun c23 => ?_)
  · have h := h.2 c23
    refine lv_bipush (pc := 31) (v := 43) hx hb dX10_write_31 (by decide) ?_
    refine g_cVv (pc := 33) C hM hl.1 yv_X10_put q5_184 (by decide) ce_83 rfl (w_X10_put l G x 43 s19 _ h) rfl rfl ⟨⟨by decide, by decide⟩, by decide, by decide⟩ (Nat.le_of_ble_eq_true rfl) dX10_write_33 (fun s33 H locs h hM => ?_)
    refine lv_aload_n (pc := 36) hx hb dX10_write_36 rfl (lv_at hl 1 rfl) ?_
    refine lv_iload_n (pc := 37) hx hb dX10_write_37 rfl (lv_at hl 2 rfl) ?_
    refine lv_iconst (pc := 38) (v := 3) hx hb dX10_write_38 (by decide) ?_
    refine g_cVi (pc := 39) C hM hl.1 yv_X6_cell q5_179 (ru_lt ho1) (ce_ru ho1) rfl (w_X6_cell l G x o1 a2 3 s33 _ h) rfl rfl ⟨⟨by decide, by decide⟩, by decide, by decide⟩ (Nat.le_of_ble_eq_true rfl) dX10_write_39 (fun r39 s39 H locs h hM => ?_)
    refine lv_istore_n (pc := 42) (lv' := [(3, .int r39), (0, .ref (g_ad G 83)), (1, .ref (g_ad G o1)), (2, .int a2)]) hx hb dX10_write_42 rfl hl (by decide) rfl (fun ls hl => ?_)
    refine lv_iconst (pc := 43) (v := 0) hx hb dX10_write_43 (by decide) ?_
    refine lv_istore (pc := 44) (lv' := [(4, .int 0), (3, .int r39), (0, .ref (g_ad G 83)), (1, .ref (g_ad G o1)), (2, .int a2)]) hx hb dX10_write_44 hl (by decide) rfl (fun ls hl => ?_)
    exact h _ _ _ hM (lv_sub hl [2, 3, 4, 1, 0] rfl)
  · have h := h.1 c23
    refine lv_bipush (pc := 26) (v := 45) hx hb dX10_write_26 (by decide) ?_
    refine lv_goto (pc := 28) (tgt := 33) hx hb dX10_write_28 (by decide) ?_
    refine g_cVv (pc := 33) C hM hl.1 yv_X10_put q5_184 (by decide) ce_83 rfl (w_X10_put l G x 45 s19 _ h) rfl rfl ⟨⟨by decide, by decide⟩, by decide, by decide⟩ (Nat.le_of_ble_eq_true rfl) dX10_write_33 (fun s33 H locs h hM => ?_)
    refine lv_aload_n (pc := 36) hx hb dX10_write_36 rfl (lv_at hl 1 rfl) ?_
    refine lv_iload_n (pc := 37) hx hb dX10_write_37 rfl (lv_at hl 2 rfl) ?_
    refine lv_iconst (pc := 38) (v := 3) hx hb dX10_write_38 (by decide) ?_
    refine g_cVi (pc := 39) C hM hl.1 yv_X6_cell q5_179 (ru_lt ho1) (ce_ru ho1) rfl (w_X6_cell l G x o1 a2 3 s33 _ h) rfl rfl ⟨⟨by decide, by decide⟩, by decide, by decide⟩ (Nat.le_of_ble_eq_true rfl) dX10_write_39 (fun r39 s39 H locs h hM => ?_)
    refine lv_istore_n (pc := 42) (lv' := [(3, .int r39), (0, .ref (g_ad G 83)), (1, .ref (g_ad G o1)), (2, .int a2)]) hx hb dX10_write_42 rfl hl (by decide) rfl (fun ls hl => ?_)
    refine lv_iconst (pc := 43) (v := 0) hx hb dX10_write_43 (by decide) ?_
    refine lv_istore (pc := 44) (lv' := [(4, .int 0), (3, .int r39), (0, .ref (g_ad G 83)), (1, .ref (g_ad G o1)), (2, .int a2)]) hx hb dX10_write_44 hl (by decide) rfl (fun ls hl => ?_)
    exact h _ _ _ hM (lv_sub hl [2, 3, 4, 1, 0] rfl)
