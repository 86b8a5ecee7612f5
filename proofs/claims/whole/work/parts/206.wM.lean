abbrev rm_X12_thrown : Room := { frames := 0, cells := 0, slots := 0, locals := 0 }
theorem dX12_thrown_0 : decode cX12_thrown 0 = .ok (.aload_n 0, 1) := by decide +kernel
theorem dX12_thrown_1 : decode cX12_thrown 1 = .ok (.getfield 68, 3) := by decide +kernel
theorem dX12_thrown_4 : decode cX12_thrown 4 = .ok (.ireturn, 1) := by decide +kernel
set_option maxHeartbeats 4000000 in
set_option maxRecDepth 100000 in
theorem w_X12_thrown (l : Launch) (G : GP) (x : XP) (σ : Sto) (P : Int32 → Sto → Prop) (h : D_X12_thrown  σ P) : g_Meti l yX12_thrown cX12_thrown 1 (some .int) rm_X12_thrown G x [.ref (g_ad G 87)] σ P := by
  unfold D_X12_thrown at h
  refine g_ofWi (by decide +kernel) (Nat.le_of_ble_eq_true rfl) ?_
  intro p e s m args below meth c Q ls C hM hl hret
  have hx := C.1
  have hb := C.2.1
  have hl : lv_has ls 1 [(0, .ref (g_ad G 87))] := hl
  refine lv_aload_n (pc := 0) hx hb dX12_thrown_0 rfl (lv_at hl 0 rfl) ?_
  refine g_get (pc := 1) (v := .int (σ 87 8)) C hM (by decide) ce_87 fl_RX12_68 rfl dX12_thrown_1 ?_
  exact hret 4 _ _ _ _ _ dX12_thrown_4 (by rfl) h hM
abbrev rm_X12_fails : Room := { frames := 0, cells := 0, slots := 0, locals := 0 }
theorem dX12_fails_0 : decode cX12_fails 0 = .ok (.aload_n 0, 1) := by decide +kernel
theorem dX12_fails_1 : decode cX12_fails 1 = .ok (.iload_n 1, 1) := by decide +kernel
theorem dX12_fails_2 : decode cX12_fails 2 = .ok (.putfield 68, 3) := by decide +kernel
theorem dX12_fails_5 : decode cX12_fails 5 = .ok (.iconst 0, 1) := by decide +kernel
theorem dX12_fails_6 : decode cX12_fails 6 = .ok (.ireturn, 1) := by decide +kernel
set_option maxHeartbeats 4000000 in
set_option maxRecDepth 100000 in
theorem w_X12_fails (l : Launch) (G : GP) (x : XP) (a1 : Int32) (σ : Sto) (P : Int32 → Sto → Prop) (h : D_X12_fails a1 σ P) : g_Meti l yX12_fails cX12_fails 2 (some .int) rm_X12_fails G x [.ref (g_ad G 87), .int a1] σ P := by
  unfold D_X12_fails at h
  refine g_ofWi (by decide +kernel) (Nat.le_of_ble_eq_true rfl) ?_
  intro p e s m args below meth c Q ls C hM hl hret
  have hx := C.1
  have hb := C.2.1
  have hl : lv_has ls 2 [(0, .ref (g_ad G 87)), (1, .int a1)] := hl
  refine lv_aload_n (pc := 0) hx hb dX12_fails_0 rfl (lv_at hl 0 rfl) ?_
  refine lv_iload_n (pc := 1) hx hb dX12_fails_1 rfl (lv_at hl 1 rfl) ?_
  refine g_putE (pc := 2) C hM (by decide) ce_87 fp_RX12_68 rfl rfl (Nat.le_of_ble_eq_true rfl) rfl dX12_fails_2 (fun s2 es2 H locs hM => ?_)
  have h := h s2 es2
  refine lv_iconst (pc := 5) (v := 0) hx hb dX12_fails_5 (by decide) ?_
  exact hret 6 _ _ _ _ _ dX12_fails_6 (by rfl) h hM
abbrev rm_X12_in : Room := { frames := 0, cells := 0, slots := 0, locals := 0 }
theorem dX12_in_0 : decode cX12_in 0 = .ok (.iload_n 0, 1) := by decide +kernel
theorem dX12_in_1 : decode cX12_in 1 = .ok (.iload_n 1, 1) := by decide +kernel
theorem dX12_in_2 : decode cX12_in 2 = .ok (.if_icmp .lt 12, 3) := by decide +kernel
theorem dX12_in_5 : decode cX12_in 5 = .ok (.iload_n 0, 1) := by decide +kernel
theorem dX12_in_6 : decode cX12_in 6 = .ok (.iload_n 2, 1) := by decide +kernel
theorem dX12_in_7 : decode cX12_in 7 = .ok (.if_icmp .gt 7, 3) := by decide +kernel
theorem dX12_in_10 : decode cX12_in 10 = .ok (.iconst 1, 1) := by decide +kernel
theorem dX12_in_11 : decode cX12_in 11 = .ok (.goto 4, 3) := by decide +kernel
theorem dX12_in_14 : decode cX12_in 14 = .ok (.iconst 0, 1) := by decide +kernel
theorem dX12_in_15 : decode cX12_in 15 = .ok (.ireturn, 1) := by decide +kernel
set_option maxHeartbeats 4000000 in
set_option maxRecDepth 100000 in
theorem w_X12_in (l : Launch) (G : GP) (x : XP) (a0 : Int32) (a1 : Int32) (a2 : Int32) (σ : Sto) (P : Int32 → Sto → Prop) (h : D_X12_in a0 a1 a2 σ P) : g_Meti l yX12_in cX12_in 3 (some .boolean) rm_X12_in G x [.int a0, .int a1, .int a2] σ P := by
  unfold D_X12_in at h
  refine g_ofWi (by decide +kernel) (Nat.le_of_ble_eq_true rfl) ?_
  intro p e s m args below meth c Q ls C hM hl hret
  have hx := C.1
  have hb := C.2.1
  have hl : lv_has ls 3 [(0, .int a0), (1, .int a1), (2, .int a2)] := hl
  refine lv_iload_n (pc := 0) hx hb dX12_in_0 rfl (lv_at hl 0 rfl) ?_
  refine lv_iload_n (pc := 1) hx hb dX12_in_1 rfl (lv_at hl 1 rfl) ?_
  refine lv_icmp_lt (pc := 2) (tgt := 14) hx hb dX12_in_2 (by decide) (fun c2 => ?_) (fun c2 => ?_)
  · have h := h.1 c2
    refine lv_iconst (pc := 14) (v := 0) hx hb dX12_in_14 (by decide) ?_
    exact hret 15 _ _ _ _ _ dX12_in_15 (by rfl) h hM
  · have h := h.2 c2
    refine lv_iload_n (pc := 5) hx hb dX12_in_5 rfl (lv_at hl 0 rfl) ?_
    refine lv_iload_n (pc := 6) hx hb dX12_in_6 rfl (lv_at hl 2 rfl) ?_
    refine lv_icmp_gt (pc := 7) (tgt := 14) hx hb dX12_in_7 (by decide) (fun c7 => ?_) (fun c7 => ?_)
    · have h := h.1 c7
      refine lv_iconst (pc := 14) (v := 0) hx hb dX12_in_14 (by decide) ?_
      exact hret 15 _ _ _ _ _ dX12_in_15 (by rfl) h hM
    · have h := h.2 c7
      refine lv_iconst (pc := 10) (v := 1) hx hb dX12_in_10 (by decide) ?_
      refine lv_goto (pc := 11) (tgt := 15) hx hb dX12_in_11 (by decide) ?_
      exact hret 15 _ _ _ _ _ dX12_in_15 (by rfl) h hM
abbrev rm_X12_has : Room := { frames := 0, cells := 0, slots := 0, locals := 0 }
theorem dX12_has_0 : decode cX12_has 0 = .ok (.iload_n 0, 1) := by decide +kernel
theorem dX12_has_1 : decode cX12_has 1 = .ok (.iload_n 1, 1) := by decide +kernel
theorem dX12_has_2 : decode cX12_has 2 = .ok (.ishr, 1) := by decide +kernel
theorem dX12_has_3 : decode cX12_has 3 = .ok (.iconst 1, 1) := by decide +kernel
theorem dX12_has_4 : decode cX12_has 4 = .ok (.iand, 1) := by decide +kernel
theorem dX12_has_5 : decode cX12_has 5 = .ok (.iconst 1, 1) := by decide +kernel
theorem dX12_has_6 : decode cX12_has 6 = .ok (.if_icmp .ne 7, 3) := by decide +kernel
theorem dX12_has_9 : decode cX12_has 9 = .ok (.iconst 1, 1) := by decide +kernel
theorem dX12_has_10 : decode cX12_has 10 = .ok (.goto 4, 3) := by decide +kernel
theorem dX12_has_13 : decode cX12_has 13 = .ok (.iconst 0, 1) := by decide +kernel
theorem dX12_has_14 : decode cX12_has 14 = .ok (.ireturn, 1) := by decide +kernel
set_option maxHeartbeats 4000000 in
set_option maxRecDepth 100000 in
theorem w_X12_has (l : Launch) (G : GP) (x : XP) (a0 : Int32) (a1 : Int32) (σ : Sto) (P : Int32 → Sto → Prop) (h : D_X12_has a0 a1 σ P) : g_Meti l yX12_has cX12_has 2 (some .boolean) rm_X12_has G x [.int a0, .int a1] σ P := by
  unfold D_X12_has at h
  refine g_ofWi (by decide +kernel) (Nat.le_of_ble_eq_true rfl) ?_
  intro p e s m args below meth c Q ls C hM hl hret
  have hx := C.1
  have hb := C.2.1
  have hl : lv_has ls 2 [(0, .int a0), (1, .int a1)] := hl
  refine lv_iload_n (pc := 0) hx hb dX12_has_0 rfl (lv_at hl 0 rfl) ?_
  refine lv_iload_n (pc := 1) hx hb dX12_has_1 rfl (lv_at hl 1 rfl) ?_
  refine lv_ishr (pc := 2) hx hb dX12_has_2 ?_
  refine lv_iconst (pc := 3) (v := 1) hx hb dX12_has_3 (by decide) ?_
  refine lv_iand (pc := 4) hx hb dX12_has_4 ?_
  refine lv_iconst (pc := 5) (v := 1) hx hb dX12_has_5 (by decide) ?_
  refine lv_icmp_ne (pc := 6) (tgt := 13) hx hb dX12_has_6 (by decide) (fun c6 => ?_) (fun c6 => ?_)
  · have h := h.2 c6
    refine lv_iconst (pc := 13) (v := 0) hx hb dX12_has_13 (by decide) ?_
    exact hret 14 _ _ _ _ _ dX12_has_14 (by rfl) h hM
  · have h := h.1 c6
    refine lv_iconst (pc := 9) (v := 1) hx hb dX12_has_9 (by decide) ?_
    refine lv_goto (pc := 10) (tgt := 14) hx hb dX12_has_10 (by decide) ?_
    exact hret 14 _ _ _ _ _ dX12_has_14 (by rfl) h hM
abbrev rm_X12_isPolicy : Room := { frames := 1, cells := 0, slots := 0, locals := 22 }
theorem dX12_isPolicy_0 : decode cX12_isPolicy 0 = .ok (.iload_n 0, 1) := by decide +kernel
theorem dX12_isPolicy_1 : decode cX12_isPolicy 1 = .ok (.iconst 0, 1) := by decide +kernel
theorem dX12_isPolicy_2 : decode cX12_isPolicy 2 = .ok (.iconst 3, 1) := by decide +kernel
theorem dX12_isPolicy_3 : decode cX12_isPolicy 3 = .ok (.invokestatic 71, 3) := by decide +kernel
theorem dX12_isPolicy_6 : decode cX12_isPolicy 6 = .ok (.ireturn, 1) := by decide +kernel
set_option maxHeartbeats 4000000 in
set_option maxRecDepth 100000 in
theorem w_X12_isPolicy (l : Launch) (G : GP) (x : XP) (a0 : Int32) (σ : Sto) (P : Int32 → Sto → Prop) (h : D_X12_isPolicy a0 σ P) : g_Meti l yX12_isPolicy cX12_isPolicy 1 (some .boolean) rm_X12_isPolicy G x [.int a0] σ P := by
  unfold D_X12_isPolicy at h
  refine g_ofWi (by decide +kernel) (Nat.le_of_ble_eq_true rfl) ?_
  intro p e s m args below meth c Q ls C hM hl hret
  have hx := C.1
  have hb := C.2.1
  have hl : lv_has ls 1 [(0, .int a0)] := hl
  refine lv_iload_n (pc := 0) hx hb dX12_isPolicy_0 rfl (lv_at hl 0 rfl) ?_
  refine lv_iconst (pc := 1) (v := 0) hx hb dX12_isPolicy_1 (by decide) ?_
  refine lv_iconst (pc := 2) (v := 3) hx hb dX12_isPolicy_2 (by decide) ?_
  refine g_cSi (pc := 3) C hM hl.1 ys_X12_in q6_108 (w_X12_in l G x a0 0 3 σ _ h) rfl rfl ⟨⟨by decide, by decide⟩, by decide, by decide⟩ (Nat.le_of_ble_eq_true rfl) dX12_isPolicy_3 (fun r3 s3 H locs h hM => ?_)
  exact hret 6 _ _ _ _ _ dX12_isPolicy_6 (nar_b h.1) h.2 hM
abbrev rm_X12_isSubject : Room := { frames := 1, cells := 0, slots := 0, locals := 22 }
theorem dX12_isSubject_0 : decode cX12_isSubject 0 = .ok (.iload_n 0, 1) := by decide +kernel
theorem dX12_isSubject_1 : decode cX12_isSubject 1 = .ok (.iconst 0, 1) := by decide +kernel
theorem dX12_isSubject_2 : decode cX12_isSubject 2 = .ok (.bipush 9, 2) := by decide +kernel
theorem dX12_isSubject_4 : decode cX12_isSubject 4 = .ok (.invokestatic 71, 3) := by decide +kernel
theorem dX12_isSubject_7 : decode cX12_isSubject 7 = .ok (.ireturn, 1) := by decide +kernel
set_option maxHeartbeats 4000000 in
set_option maxRecDepth 100000 in
theorem w_X12_isSubject (l : Launch) (G : GP) (x : XP) (a0 : Int32) (σ : Sto) (P : Int32 → Sto → Prop) (h : D_X12_isSubject a0 σ P) : g_Meti l yX12_isSubject cX12_isSubject 1 (some .boolean) rm_X12_isSubject G x [.int a0] σ P := by
  unfold D_X12_isSubject at h
  refine g_ofWi (by decide +kernel) (Nat.le_of_ble_eq_true rfl) ?_
  intro p e s m args below meth c Q ls C hM hl hret
  have hx := C.1
  have hb := C.2.1
  have hl : lv_has ls 1 [(0, .int a0)] := hl
  refine lv_iload_n (pc := 0) hx hb dX12_isSubject_0 rfl (lv_at hl 0 rfl) ?_
  refine lv_iconst (pc := 1) (v := 0) hx hb dX12_isSubject_1 (by decide) ?_
  refine lv_bipush (pc := 2) (v := 9) hx hb dX12_isSubject_2 (by decide) ?_
  refine g_cSi (pc := 4) C hM hl.1 ys_X12_in q6_108 (w_X12_in l G x a0 0 9 σ _ h) rfl rfl ⟨⟨by decide, by decide⟩, by decide, by decide⟩ (Nat.le_of_ble_eq_true rfl) dX12_isSubject_4 (fun r4 s4 H locs h hM => ?_)
  exact hret 7 _ _ _ _ _ dX12_isSubject_7 (nar_b h.1) h.2 hM
abbrev rm_X12_isAttribute : Room := { frames := 1, cells := 0, slots := 0, locals := 22 }
theorem dX12_isAttribute_0 : decode cX12_isAttribute 0 = .ok (.iload_n 0, 1) := by decide +kernel
theorem dX12_isAttribute_1 : decode cX12_isAttribute 1 = .ok (.iconst 0, 1) := by decide +kernel
theorem dX12_isAttribute_2 : decode cX12_isAttribute 2 = .ok (.iconst 5, 1) := by decide +kernel
theorem dX12_isAttribute_3 : decode cX12_isAttribute 3 = .ok (.invokestatic 71, 3) := by decide +kernel
theorem dX12_isAttribute_6 : decode cX12_isAttribute 6 = .ok (.ireturn, 1) := by decide +kernel
set_option maxHeartbeats 4000000 in
set_option maxRecDepth 100000 in
theorem w_X12_isAttribute (l : Launch) (G : GP) (x : XP) (a0 : Int32) (σ : Sto) (P : Int32 → Sto → Prop) (h : D_X12_isAttribute a0 σ P) : g_Meti l yX12_isAttribute cX12_isAttribute 1 (some .boolean) rm_X12_isAttribute G x [.int a0] σ P := by
  unfold D_X12_isAttribute at h
  refine g_ofWi (by decide +kernel) (Nat.le_of_ble_eq_true rfl) ?_
  intro p e s m args below meth c Q ls C hM hl hret
  have hx := C.1
  have hb := C.2.1
  have hl : lv_has ls 1 [(0, .int a0)] := hl
  refine lv_iload_n (pc := 0) hx hb dX12_isAttribute_0 rfl (lv_at hl 0 rfl) ?_
  refine lv_iconst (pc := 1) (v := 0) hx hb dX12_isAttribute_1 (by decide) ?_
  refine lv_iconst (pc := 2) (v := 5) hx hb dX12_isAttribute_2 (by decide) ?_
  refine g_cSi (pc := 3) C hM hl.1 ys_X12_in q6_108 (w_X12_in l G x a0 0 5 σ _ h) rfl rfl ⟨⟨by decide, by decide⟩, by decide, by decide⟩ (Nat.le_of_ble_eq_true rfl) dX12_isAttribute_3 (fun r3 s3 H locs h hM => ?_)
  exact hret 6 _ _ _ _ _ dX12_isAttribute_6 (nar_b h.1) h.2 hM
abbrev rm_X12_isRule : Room := { frames := 1, cells := 0, slots := 0, locals := 22 }
theorem dX12_isRule_0 : decode cX12_isRule 0 = .ok (.iload_n 1, 1) := by decide +kernel
theorem dX12_isRule_1 : decode cX12_isRule 1 = .ok (.iconst 0, 1) := by decide +kernel
theorem dX12_isRule_2 : decode cX12_isRule 2 = .ok (.aload_n 0, 1) := by decide +kernel
theorem dX12_isRule_3 : decode cX12_isRule 3 = .ok (.getfield 7, 3) := by decide +kernel
theorem dX12_isRule_6 : decode cX12_isRule 6 = .ok (.iconst 0, 1) := by decide +kernel
theorem dX12_isRule_7 : decode cX12_isRule 7 = .ok (.iaload, 1) := by decide +kernel
theorem dX12_isRule_8 : decode cX12_isRule 8 = .ok (.iconst 1, 1) := by decide +kernel
theorem dX12_isRule_9 : decode cX12_isRule 9 = .ok (.isub, 1) := by decide +kernel
theorem dX12_isRule_10 : decode cX12_isRule 10 = .ok (.invokestatic 71, 3) := by decide +kernel
theorem dX12_isRule_13 : decode cX12_isRule 13 = .ok (.ireturn, 1) := by decide +kernel
set_option maxHeartbeats 4000000 in
set_option maxRecDepth 100000 in
theorem w_X12_isRule (l : Launch) (G : GP) (x : XP) (a1 : Int32) (σ : Sto) (P : Int32 → Sto → Prop) (h : D_X12_isRule a1 σ P) : g_Meti l yX12_isRule cX12_isRule 2 (some .boolean) rm_X12_isRule G x [.ref (g_ad G 87), .int a1] σ P := by
  unfold D_X12_isRule at h
  refine g_ofWi (by decide +kernel) (Nat.le_of_ble_eq_true rfl) ?_
  intro p e s m args below meth c Q ls C hM hl hret
  have hx := C.1
  have hb := C.2.1
  have hl : lv_has ls 2 [(0, .ref (g_ad G 87)), (1, .int a1)] := hl
  refine lv_iload_n (pc := 0) hx hb dX12_isRule_0 rfl (lv_at hl 1 rfl) ?_
  refine lv_iconst (pc := 1) (v := 0) hx hb dX12_isRule_1 (by decide) ?_
  refine lv_aload_n (pc := 2) hx hb dX12_isRule_2 rfl (lv_at hl 0 rfl) ?_
  refine g_get (pc := 3) (v := .ref (g_ad G 88)) C hM (by decide) ce_87 fl_RX12_7 rfl dX12_isRule_3 ?_
  refine lv_iconst (pc := 6) (v := 0) hx hb dX12_isRule_6 (by decide) ?_
  refine g_ialdK (pc := 7) (k := 0) C hM (by decide) ce_88 (vp_in_nI (n := 0) (by decide) (by decide)) rfl dX12_isRule_7 ?_
  refine lv_iconst (pc := 8) (v := 1) hx hb dX12_isRule_8 (by decide) ?_
  refine lv_isub (pc := 9) hx hb dX12_isRule_9 ?_
  refine g_cSi (pc := 10) C hM hl.1 ys_X12_in q6_108 (w_X12_in l G x a1 0 ((σ 88 0) - 1) σ _ h) rfl rfl ⟨⟨by decide, by decide⟩, by decide, by decide⟩ (Nat.le_of_ble_eq_true rfl) dX12_isRule_10 (fun r10 s10 H locs h hM => ?_)
  exact hret 13 _ _ _ _ _ dX12_isRule_13 (nar_b h.1) h.2 hM
abbrev rm_X12_of : Room := { frames := 0, cells := 0, slots := 0, locals := 0 }
theorem dX12_of_0 : decode cX12_of 0 = .ok (.aload_n 0, 1) := by decide +kernel
theorem dX12_of_1 : decode cX12_of 1 = .ok (.getfield 7, 3) := by decide +kernel
theorem dX12_of_4 : decode cX12_of 4 = .ok (.bipush 10, 2) := by decide +kernel
theorem dX12_of_6 : decode cX12_of 6 = .ok (.bipush 16, 2) := by decide +kernel
theorem dX12_of_8 : decode cX12_of 8 = .ok (.iload_n 1, 1) := by decide +kernel
theorem dX12_of_9 : decode cX12_of 9 = .ok (.imul, 1) := by decide +kernel
theorem dX12_of_10 : decode cX12_of 10 = .ok (.iadd, 1) := by decide +kernel
theorem dX12_of_11 : decode cX12_of 11 = .ok (.iload_n 2, 1) := by decide +kernel
theorem dX12_of_12 : decode cX12_of 12 = .ok (.iadd, 1) := by decide +kernel
theorem dX12_of_13 : decode cX12_of 13 = .ok (.iaload, 1) := by decide +kernel
theorem dX12_of_14 : decode cX12_of 14 = .ok (.ireturn, 1) := by decide +kernel
set_option maxHeartbeats 4000000 in
set_option maxRecDepth 100000 in
theorem w_X12_of (l : Launch) (G : GP) (x : XP) (a1 : Int32) (a2 : Int32) (σ : Sto) (P : Int32 → Sto → Prop) (h : D_X12_of a1 a2 σ P) : g_Meti l yX12_of cX12_of 3 (some .int) rm_X12_of G x [.ref (g_ad G 87), .int a1, .int a2] σ P := by
  unfold D_X12_of at h
  refine g_ofWi (by decide +kernel) (Nat.le_of_ble_eq_true rfl) ?_
  intro p e s m args below meth c Q ls C hM hl hret
  have hx := C.1
  have hb := C.2.1
  have hl : lv_has ls 3 [(0, .ref (g_ad G 87)), (1, .int a1), (2, .int a2)] := hl
  refine lv_aload_n (pc := 0) hx hb dX12_of_0 rfl (lv_at hl 0 rfl) ?_
  refine g_get (pc := 1) (v := .ref (g_ad G 88)) C hM (by decide) ce_87 fl_RX12_7 rfl dX12_of_1 ?_
  refine lv_bipush (pc := 4) (v := 10) hx hb dX12_of_4 (by decide) ?_
  refine lv_bipush (pc := 6) (v := 16) hx hb dX12_of_6 (by decide) ?_
  refine lv_iload_n (pc := 8) hx hb dX12_of_8 rfl (lv_at hl 1 rfl) ?_
  refine lv_imul (pc := 9) hx hb dX12_of_9 ?_
  refine lv_iadd (pc := 10) hx hb dX12_of_10 ?_
  refine lv_iload_n (pc := 11) hx hb dX12_of_11 rfl (lv_at hl 2 rfl) ?_
  refine lv_iadd (pc := 12) hx hb dX12_of_12 ?_
  obtain ⟨hc, h⟩ := h
  refine g_ialdK (pc := 13) C hM (by decide) ce_88 hc rfl dX12_of_13 ?_
  exact hret 14 _ _ _ _ _ dX12_of_14 (by rfl) h hM
abbrev rm_X12_part : Room := { frames := 0, cells := 0, slots := 0, locals := 0 }
theorem dX12_part_0 : decode cX12_part 0 = .ok (.aload_n 0, 1) := by decide +kernel
theorem dX12_part_1 : decode cX12_part 1 = .ok (.getfield 7, 3) := by decide +kernel
theorem dX12_part_4 : decode cX12_part 4 = .ok (.bipush 10, 2) := by decide +kernel
theorem dX12_part_6 : decode cX12_part 6 = .ok (.bipush 16, 2) := by decide +kernel
theorem dX12_part_8 : decode cX12_part 8 = .ok (.iload_n 1, 1) := by decide +kernel
theorem dX12_part_9 : decode cX12_part 9 = .ok (.imul, 1) := by decide +kernel
theorem dX12_part_10 : decode cX12_part 10 = .ok (.iadd, 1) := by decide +kernel
theorem dX12_part_11 : decode cX12_part 11 = .ok (.iconst 4, 1) := by decide +kernel
theorem dX12_part_12 : decode cX12_part 12 = .ok (.iadd, 1) := by decide +kernel
theorem dX12_part_13 : decode cX12_part 13 = .ok (.iconst 3, 1) := by decide +kernel
theorem dX12_part_14 : decode cX12_part 14 = .ok (.iload_n 2, 1) := by decide +kernel
theorem dX12_part_15 : decode cX12_part 15 = .ok (.imul, 1) := by decide +kernel
theorem dX12_part_16 : decode cX12_part 16 = .ok (.iadd, 1) := by decide +kernel
theorem dX12_part_17 : decode cX12_part 17 = .ok (.iload_n 3, 1) := by decide +kernel
theorem dX12_part_18 : decode cX12_part 18 = .ok (.iadd, 1) := by decide +kernel
theorem dX12_part_19 : decode cX12_part 19 = .ok (.iaload, 1) := by decide +kernel
theorem dX12_part_20 : decode cX12_part 20 = .ok (.ireturn, 1) := by decide +kernel
set_option maxHeartbeats 4000000 in
set_option maxRecDepth 100000 in
theorem w_X12_part (l : Launch) (G : GP) (x : XP) (a1 : Int32) (a2 : Int32) (a3 : Int32) (σ : Sto) (P : Int32 → Sto → Prop) (h : D_X12_part a1 a2 a3 σ P) : g_Meti l yX12_part cX12_part 4 (some .int) rm_X12_part G x [.ref (g_ad G 87), .int a1, .int a2, .int a3] σ P := by
  unfold D_X12_part at h
  refine g_ofWi (by decide +kernel) (Nat.le_of_ble_eq_true rfl) ?_
  intro p e s m args below meth c Q ls C hM hl hret
  have hx := C.1
  have hb := C.2.1
  have hl : lv_has ls 4 [(0, .ref (g_ad G 87)), (1, .int a1), (2, .int a2), (3, .int a3)] := hl
  refine lv_aload_n (pc := 0) hx hb dX12_part_0 rfl (lv_at hl 0 rfl) ?_
  refine g_get (pc := 1) (v := .ref (g_ad G 88)) C hM (by decide) ce_87 fl_RX12_7 rfl dX12_part_1 ?_
  refine lv_bipush (pc := 4) (v := 10) hx hb dX12_part_4 (by decide) ?_
  refine lv_bipush (pc := 6) (v := 16) hx hb dX12_part_6 (by decide) ?_
  refine lv_iload_n (pc := 8) hx hb dX12_part_8 rfl (lv_at hl 1 rfl) ?_
  refine lv_imul (pc := 9) hx hb dX12_part_9 ?_
  refine lv_iadd (pc := 10) hx hb dX12_part_10 ?_
  refine lv_iconst (pc := 11) (v := 4) hx hb dX12_part_11 (by decide) ?_
  refine lv_iadd (pc := 12) hx hb dX12_part_12 ?_
  refine lv_iconst (pc := 13) (v := 3) hx hb dX12_part_13 (by decide) ?_
  refine lv_iload_n (pc := 14) hx hb dX12_part_14 rfl (lv_at hl 2 rfl) ?_
  refine lv_imul (pc := 15) hx hb dX12_part_15 ?_
  refine lv_iadd (pc := 16) hx hb dX12_part_16 ?_
  refine lv_iload_n (pc := 17) hx hb dX12_part_17 rfl (lv_at hl 3 rfl) ?_
  refine lv_iadd (pc := 18) hx hb dX12_part_18 ?_
  obtain ⟨hc, h⟩ := h
  refine g_ialdK (pc := 19) C hM (by decide) ce_88 hc rfl dX12_part_19 ?_
  exact hret 20 _ _ _ _ _ dX12_part_20 (by rfl) h hM
abbrev rm_X12_changes : Room := { frames := 0, cells := 0, slots := 0, locals := 0 }
theorem dX12_changes_0 : decode cX12_changes 0 = .ok (.aload_n 0, 1) := by decide +kernel
theorem dX12_changes_1 : decode cX12_changes 1 = .ok (.getfield 75, 3) := by decide +kernel
theorem dX12_changes_4 : decode cX12_changes 4 = .ok (.bipush 8, 2) := by decide +kernel
theorem dX12_changes_6 : decode cX12_changes 6 = .ok (.if_icmp .ne 44, 3) := by decide +kernel
theorem dX12_changes_9 : decode cX12_changes 9 = .ok (.iconst 0, 1) := by decide +kernel
theorem dX12_changes_10 : decode cX12_changes 10 = .ok (.istore_n 1, 1) := by decide +kernel
theorem dX12_changes_11 : decode cX12_changes 11 = .ok (.iload_n 1, 1) := by decide +kernel
theorem dX12_changes_12 : decode cX12_changes 12 = .ok (.sipush 3850, 3) := by decide +kernel
theorem dX12_changes_15 : decode cX12_changes 15 = .ok (.if_icmp .ge 25, 3) := by decide +kernel
theorem dX12_changes_18 : decode cX12_changes 18 = .ok (.aload_n 0, 1) := by decide +kernel
theorem dX12_changes_19 : decode cX12_changes 19 = .ok (.getfield 16, 3) := by decide +kernel
theorem dX12_changes_22 : decode cX12_changes 22 = .ok (.iload_n 1, 1) := by decide +kernel
theorem dX12_changes_23 : decode cX12_changes 23 = .ok (.aload_n 0, 1) := by decide +kernel
theorem dX12_changes_24 : decode cX12_changes 24 = .ok (.getfield 16, 3) := by decide +kernel
theorem dX12_changes_27 : decode cX12_changes 27 = .ok (.iload_n 1, 1) := by decide +kernel
theorem dX12_changes_28 : decode cX12_changes 28 = .ok (.sipush 550, 3) := by decide +kernel
theorem dX12_changes_31 : decode cX12_changes 31 = .ok (.iadd, 1) := by decide +kernel
theorem dX12_changes_32 : decode cX12_changes 32 = .ok (.iaload, 1) := by decide +kernel
theorem dX12_changes_33 : decode cX12_changes 33 = .ok (.iastore, 1) := by decide +kernel
theorem dX12_changes_34 : decode cX12_changes 34 = .ok (.iinc 1 1, 3) := by decide +kernel
theorem dX12_changes_37 : decode cX12_changes 37 = .ok (.goto (-26), 3) := by decide +kernel
theorem dX12_changes_40 : decode cX12_changes 40 = .ok (.aload_n 0, 1) := by decide +kernel
theorem dX12_changes_41 : decode cX12_changes 41 = .ok (.dup, 1) := by decide +kernel
theorem dX12_changes_42 : decode cX12_changes 42 = .ok (.getfield 75, 3) := by decide +kernel
theorem dX12_changes_45 : decode cX12_changes 45 = .ok (.iconst 1, 1) := by decide +kernel
theorem dX12_changes_46 : decode cX12_changes 46 = .ok (.isub, 1) := by decide +kernel
theorem dX12_changes_47 : decode cX12_changes 47 = .ok (.putfield 75, 3) := by decide +kernel
theorem dX12_changes_50 : decode cX12_changes 50 = .ok (.iconst 0, 1) := by decide +kernel
theorem dX12_changes_51 : decode cX12_changes 51 = .ok (.istore_n 1, 1) := by decide +kernel
theorem dX12_changes_52 : decode cX12_changes 52 = .ok (.iload_n 1, 1) := by decide +kernel
theorem dX12_changes_53 : decode cX12_changes 53 = .ok (.sipush 550, 3) := by decide +kernel
theorem dX12_changes_56 : decode cX12_changes 56 = .ok (.if_icmp .ge 30, 3) := by decide +kernel
theorem dX12_changes_59 : decode cX12_changes 59 = .ok (.aload_n 0, 1) := by decide +kernel
theorem dX12_changes_60 : decode cX12_changes 60 = .ok (.getfield 16, 3) := by decide +kernel
theorem dX12_changes_63 : decode cX12_changes 63 = .ok (.sipush 550, 3) := by decide +kernel
theorem dX12_changes_66 : decode cX12_changes 66 = .ok (.aload_n 0, 1) := by decide +kernel
theorem dX12_changes_67 : decode cX12_changes 67 = .ok (.getfield 75, 3) := by decide +kernel
theorem dX12_changes_70 : decode cX12_changes 70 = .ok (.imul, 1) := by decide +kernel
theorem dX12_changes_71 : decode cX12_changes 71 = .ok (.iload_n 1, 1) := by decide +kernel
theorem dX12_changes_72 : decode cX12_changes 72 = .ok (.iadd, 1) := by decide +kernel
theorem dX12_changes_73 : decode cX12_changes 73 = .ok (.aload_n 0, 1) := by decide +kernel
theorem dX12_changes_74 : decode cX12_changes 74 = .ok (.getfield 7, 3) := by decide +kernel
theorem dX12_changes_77 : decode cX12_changes 77 = .ok (.iload_n 1, 1) := by decide +kernel
theorem dX12_changes_78 : decode cX12_changes 78 = .ok (.iaload, 1) := by decide +kernel
theorem dX12_changes_79 : decode cX12_changes 79 = .ok (.iastore, 1) := by decide +kernel
theorem dX12_changes_80 : decode cX12_changes 80 = .ok (.iinc 1 1, 3) := by decide +kernel
theorem dX12_changes_83 : decode cX12_changes 83 = .ok (.goto (-31), 3) := by decide +kernel
theorem dX12_changes_86 : decode cX12_changes 86 = .ok (.aload_n 0, 1) := by decide +kernel
theorem dX12_changes_87 : decode cX12_changes 87 = .ok (.dup, 1) := by decide +kernel
theorem dX12_changes_88 : decode cX12_changes 88 = .ok (.getfield 75, 3) := by decide +kernel
theorem dX12_changes_91 : decode cX12_changes 91 = .ok (.iconst 1, 1) := by decide +kernel
theorem dX12_changes_92 : decode cX12_changes 92 = .ok (.iadd, 1) := by decide +kernel
theorem dX12_changes_93 : decode cX12_changes 93 = .ok (.putfield 75, 3) := by decide +kernel
theorem dX12_changes_96 : decode cX12_changes 96 = .ok (.return_, 1) := by decide +kernel
set_option maxHeartbeats 4000000 in
set_option maxRecDepth 100000 in
theorem w_X12_changes (l : Launch) (G : GP) (x : XP) (σ : Sto) (P : Sto → Prop) (h : D_X12_changes  σ P) : g_Metv l yX12_changes cX12_changes 2 rm_X12_changes G x [.ref (g_ad G 87)] σ P := by
  unfold D_X12_changes at h
  refine g_ofWv (by decide +kernel) (Nat.le_of_ble_eq_true rfl) ?_
  intro p e s m args below meth c Q ls C hM hl hret
  have hx := C.1
  have hb := C.2.1
  have hl : lv_has ls 2 [(0, .ref (g_ad G 87))] := hl
  have h := h (fun (v1 : Int32) (σ : Sto) => ∀ (H : Heap) (locs : List Loc) (ls : Array Slot), g_M G x σ s H locs → lv_has ls 2 [(0, .ref (g_ad G 87)), (1, .int v1)] → W p l e rm_X12_changes s m args below meth c H locs 0 0 Q (F0 m 11 ls [])) (fun (v1 : Int32) (σ : Sto) => ∀ (H : Heap) (locs : List Loc) (ls : Array Slot), g_M G x σ s H locs → lv_has ls 2 [(0, .ref (g_ad G 87)), (1, .int v1)] → W p l e rm_X12_changes s m args below meth c H locs 0 0 Q (F0 m 52 ls []))
  have h := h (by
    intro v1 σ h  H locs ls hM hl
    refine lv_iload_n (pc := 11) hx hb dX12_changes_11 rfl (lv_at hl 1 rfl) ?_
    refine lv_sipush (pc := 12) (v := 3850) hx hb dX12_changes_12 (by decide) ?_
    refine lv_icmp_ge (pc := 15) (tgt := 40) hx hb dX12_changes_15 (by decide) (fun c15 => ?_) (fun c15 => ?_)
    · have h := h.1 c15
      refine lv_aload_n (pc := 40) hx hb dX12_changes_40 rfl (lv_at hl 0 rfl) ?_
      refine lv_dup (pc := 41) hx hb dX12_changes_41 rfl ?_
      refine g_get (pc := 42) (v := .int (σ 87 4)) C hM (by decide) ce_87 fl_RX12_75 rfl dX12_changes_42 ?_
      refine lv_iconst (pc := 45) (v := 1) hx hb dX12_changes_45 (by decide) ?_
      refine lv_isub (pc := 46) hx hb dX12_changes_46 ?_
      refine g_putE (pc := 47) C hM (by decide) ce_87 fp_RX12_75 rfl rfl (Nat.le_of_ble_eq_true rfl) rfl dX12_changes_47 (fun s47 es47 H locs hM => ?_)
      have h := h s47 es47
      refine lv_iconst (pc := 50) (v := 0) hx hb dX12_changes_50 (by decide) ?_
      refine lv_istore_n (pc := 51) (lv' := [(1, .int 0), (0, .ref (g_ad G 87))]) hx hb dX12_changes_51 rfl hl (by decide) rfl (fun ls hl => ?_)
      exact h _ _ _ hM (lv_sub hl [1, 0] rfl)
    · have h := h.2 c15
      refine lv_aload_n (pc := 18) hx hb dX12_changes_18 rfl (lv_at hl 0 rfl) ?_
      refine g_get (pc := 19) (v := .ref (g_ad G 90)) C hM (by decide) ce_87 fl_RX12_16 rfl dX12_changes_19 ?_
      refine lv_iload_n (pc := 22) hx hb dX12_changes_22 rfl (lv_at hl 1 rfl) ?_
      refine lv_aload_n (pc := 23) hx hb dX12_changes_23 rfl (lv_at hl 0 rfl) ?_
      refine g_get (pc := 24) (v := .ref (g_ad G 90)) C hM (by decide) ce_87 fl_RX12_16 rfl dX12_changes_24 ?_
      refine lv_iload_n (pc := 27) hx hb dX12_changes_27 rfl (lv_at hl 1 rfl) ?_
      refine lv_sipush (pc := 28) (v := 550) hx hb dX12_changes_28 (by decide) ?_
      refine lv_iadd (pc := 31) hx hb dX12_changes_31 ?_
      obtain ⟨hc, h⟩ := h
      refine g_ialdK (pc := 32) C hM (by decide) ce_90 hc rfl dX12_changes_32 ?_
      obtain ⟨hc, h⟩ := h
      refine g_iastE (pc := 33) C hM (by decide) ce_90 hc rfl dX12_changes_33 (fun s33 es33 H locs hM => ?_)
      have h := h s33 es33
      refine lv_iinc (pc := 34) (v := (v1 + 1)) (lv' := [(1, .int (v1 + 1)), (0, .ref (g_ad G 87))]) hx hb dX12_changes_34 hl (k := 1) rfl (by rfl) (by decide) rfl (fun ls hl => ?_)
      refine lv_goto (pc := 37) (tgt := 11) hx hb dX12_changes_37 (by decide) ?_
      exact h _ _ _ hM (lv_sub hl [1, 0] rfl))
  have h := h (by
    intro v1 σ h  H locs ls hM hl
    refine lv_iload_n (pc := 52) hx hb dX12_changes_52 rfl (lv_at hl 1 rfl) ?_
    refine lv_sipush (pc := 53) (v := 550) hx hb dX12_changes_53 (by decide) ?_
    refine lv_icmp_ge (pc := 56) (tgt := 86) hx hb dX12_changes_56 (by decide) (fun c56 => ?_) (fun c56 => ?_)
    · have h := h.1 c56
      refine lv_aload_n (pc := 86) hx hb dX12_changes_86 rfl (lv_at hl 0 rfl) ?_
      refine lv_dup (pc := 87) hx hb dX12_changes_87 rfl ?_
      refine g_get (pc := 88) (v := .int (σ 87 4)) C hM (by decide) ce_87 fl_RX12_75 rfl dX12_changes_88 ?_
      refine lv_iconst (pc := 91) (v := 1) hx hb dX12_changes_91 (by decide) ?_
      refine lv_iadd (pc := 92) hx hb dX12_changes_92 ?_
      refine g_putE (pc := 93) C hM (by decide) ce_87 fp_RX12_75 rfl rfl (Nat.le_of_ble_eq_true rfl) rfl dX12_changes_93 (fun s93 es93 H locs hM => ?_)
      have h := h s93 es93
      exact hret 96 _ _ _ _ dX12_changes_96 h hM
    · have h := h.2 c56
      refine lv_aload_n (pc := 59) hx hb dX12_changes_59 rfl (lv_at hl 0 rfl) ?_
      refine g_get (pc := 60) (v := .ref (g_ad G 90)) C hM (by decide) ce_87 fl_RX12_16 rfl dX12_changes_60 ?_
      refine lv_sipush (pc := 63) (v := 550) hx hb dX12_changes_63 (by decide) ?_
      refine lv_aload_n (pc := 66) hx hb dX12_changes_66 rfl (lv_at hl 0 rfl) ?_
      refine g_get (pc := 67) (v := .int (σ 87 4)) C hM (by decide) ce_87 fl_RX12_75 rfl dX12_changes_67 ?_
      refine lv_imul (pc := 70) hx hb dX12_changes_70 ?_
      refine lv_iload_n (pc := 71) hx hb dX12_changes_71 rfl (lv_at hl 1 rfl) ?_
      refine lv_iadd (pc := 72) hx hb dX12_changes_72 ?_
      refine lv_aload_n (pc := 73) hx hb dX12_changes_73 rfl (lv_at hl 0 rfl) ?_
      refine g_get (pc := 74) (v := .ref (g_ad G 88)) C hM (by decide) ce_87 fl_RX12_7 rfl dX12_changes_74 ?_
      refine lv_iload_n (pc := 77) hx hb dX12_changes_77 rfl (lv_at hl 1 rfl) ?_
      obtain ⟨hc, h⟩ := h
      refine g_ialdK (pc := 78) C hM (by decide) ce_88 hc rfl dX12_changes_78 ?_
      obtain ⟨hc, h⟩ := h
      refine g_iastE (pc := 79) C hM (by decide) ce_90 hc rfl dX12_changes_79 (fun s79 es79 H locs hM => ?_)
      have h := h s79 es79
      refine lv_iinc (pc := 80) (v := (v1 + 1)) (lv' := [(1, .int (v1 + 1)), (0, .ref (g_ad G 87))]) hx hb dX12_changes_80 hl (k := 1) rfl (by rfl) (by decide) rfl (fun ls hl => ?_)
      refine lv_goto (pc := 83) (tgt := 52) hx hb dX12_changes_83 (by decide) ?_
      exact h _ _ _ hM (lv_sub hl [1, 0] rfl))
  refine lv_aload_n (pc := 0) hx hb dX12_changes_0 rfl (lv_at hl 0 rfl) ?_
  refine g_get (pc := 1) (v := .int (σ 87 4)) C hM (by decide) ce_87 fl_RX12_75 rfl dX12_changes_1 ?_
  refine lv_bipush (pc := 4) (v := 8) hx hb dX12_changes_4 (by decide) ?_
  refine lv_icmp_ne (pc := 6) (tgt := 50) hx hb dX12_changes_6 (by decide) (fun c6 => ?_) (fun c6 => ?_)
  · have h := h.2 c6
    refine lv_iconst (pc := 50) (v := 0) hx hb dX12_changes_50 (by decide) ?_
    refine lv_istore_n (pc := 51) (lv' := [(1, .int 0), (0, .ref (g_ad G 87))]) hx hb dX12_changes_51 rfl hl (by decide) rfl (fun ls hl => ?_)
    exact h _ _ _ hM (lv_sub hl [1, 0] rfl)
  · have h := h.1 c6
    refine lv_iconst (pc := 9) (v := 0) hx hb dX12_changes_9 (by decide) ?_
    refine lv_istore_n (pc := 10) (lv' := [(1, .int 0), (0, .ref (g_ad G 87))]) hx hb dX12_changes_10 rfl hl (by decide) rfl (fun ls hl => ?_)
    exact h _ _ _ hM (lv_sub hl [1, 0] rfl)
abbrev rm_X12_undo : Room := { frames := 1, cells := 0, slots := 0, locals := 21 }
theorem dX12_undo_0 : decode cX12_undo 0 = .ok (.aload_n 0, 1) := by decide +kernel
theorem dX12_undo_1 : decode cX12_undo 1 = .ok (.iconst 0, 1) := by decide +kernel
theorem dX12_undo_2 : decode cX12_undo 2 = .ok (.putfield 68, 3) := by decide +kernel
theorem dX12_undo_5 : decode cX12_undo 5 = .ok (.aload_n 0, 1) := by decide +kernel
theorem dX12_undo_6 : decode cX12_undo 6 = .ok (.getfield 75, 3) := by decide +kernel
theorem dX12_undo_9 : decode cX12_undo 9 = .ok (.ifCond .ne 9, 3) := by decide +kernel
theorem dX12_undo_12 : decode cX12_undo 12 = .ok (.aload_n 0, 1) := by decide +kernel
theorem dX12_undo_13 : decode cX12_undo 13 = .ok (.iconst 1, 1) := by decide +kernel
theorem dX12_undo_14 : decode cX12_undo 14 = .ok (.invokevirtual 78, 3) := by decide +kernel
theorem dX12_undo_17 : decode cX12_undo 17 = .ok (.ireturn, 1) := by decide +kernel
theorem dX12_undo_18 : decode cX12_undo 18 = .ok (.aload_n 0, 1) := by decide +kernel
theorem dX12_undo_19 : decode cX12_undo 19 = .ok (.dup, 1) := by decide +kernel
theorem dX12_undo_20 : decode cX12_undo 20 = .ok (.getfield 75, 3) := by decide +kernel
theorem dX12_undo_23 : decode cX12_undo 23 = .ok (.iconst 1, 1) := by decide +kernel
theorem dX12_undo_24 : decode cX12_undo 24 = .ok (.isub, 1) := by decide +kernel
theorem dX12_undo_25 : decode cX12_undo 25 = .ok (.putfield 75, 3) := by decide +kernel
theorem dX12_undo_28 : decode cX12_undo 28 = .ok (.iconst 0, 1) := by decide +kernel
theorem dX12_undo_29 : decode cX12_undo 29 = .ok (.istore_n 1, 1) := by decide +kernel
theorem dX12_undo_30 : decode cX12_undo 30 = .ok (.iload_n 1, 1) := by decide +kernel
theorem dX12_undo_31 : decode cX12_undo 31 = .ok (.sipush 550, 3) := by decide +kernel
theorem dX12_undo_34 : decode cX12_undo 34 = .ok (.if_icmp .ge 30, 3) := by decide +kernel
theorem dX12_undo_37 : decode cX12_undo 37 = .ok (.aload_n 0, 1) := by decide +kernel
theorem dX12_undo_38 : decode cX12_undo 38 = .ok (.getfield 7, 3) := by decide +kernel
theorem dX12_undo_41 : decode cX12_undo 41 = .ok (.iload_n 1, 1) := by decide +kernel
theorem dX12_undo_42 : decode cX12_undo 42 = .ok (.aload_n 0, 1) := by decide +kernel
theorem dX12_undo_43 : decode cX12_undo 43 = .ok (.getfield 16, 3) := by decide +kernel
theorem dX12_undo_46 : decode cX12_undo 46 = .ok (.sipush 550, 3) := by decide +kernel
theorem dX12_undo_49 : decode cX12_undo 49 = .ok (.aload_n 0, 1) := by decide +kernel
theorem dX12_undo_50 : decode cX12_undo 50 = .ok (.getfield 75, 3) := by decide +kernel
theorem dX12_undo_53 : decode cX12_undo 53 = .ok (.imul, 1) := by decide +kernel
theorem dX12_undo_54 : decode cX12_undo 54 = .ok (.iload_n 1, 1) := by decide +kernel
theorem dX12_undo_55 : decode cX12_undo 55 = .ok (.iadd, 1) := by decide +kernel
theorem dX12_undo_56 : decode cX12_undo 56 = .ok (.iaload, 1) := by decide +kernel
theorem dX12_undo_57 : decode cX12_undo 57 = .ok (.iastore, 1) := by decide +kernel
theorem dX12_undo_58 : decode cX12_undo 58 = .ok (.iinc 1 1, 3) := by decide +kernel
theorem dX12_undo_61 : decode cX12_undo 61 = .ok (.goto (-31), 3) := by decide +kernel
theorem dX12_undo_64 : decode cX12_undo 64 = .ok (.aload_n 0, 1) := by decide +kernel
theorem dX12_undo_65 : decode cX12_undo 65 = .ok (.getfield 75, 3) := by decide +kernel
theorem dX12_undo_68 : decode cX12_undo 68 = .ok (.ireturn, 1) := by decide +kernel
set_option maxHeartbeats 4000000 in
set_option maxRecDepth 100000 in
theorem w_X12_undo (l : Launch) (G : GP) (x : XP) (σ : Sto) (P : Int32 → Sto → Prop) (h : D_X12_undo  σ P) : g_Meti l yX12_undo cX12_undo 2 (some .int) rm_X12_undo G x [.ref (g_ad G 87)] σ P := by
  unfold D_X12_undo at h
  refine g_ofWi (by decide +kernel) (Nat.le_of_ble_eq_true rfl) ?_
  intro p e s m args below meth c Q ls C hM hl hret
  have hx := C.1
  have hb := C.2.1
  have hl : lv_has ls 2 [(0, .ref (g_ad G 87))] := hl
  have h := h (fun (v1 : Int32) (σ : Sto) => ∀ (H : Heap) (locs : List Loc) (ls : Array Slot), g_M G x σ s H locs → lv_has ls 2 [(0, .ref (g_ad G 87)), (1, .int v1)] → W p l e rm_X12_undo s m args below meth c H locs 0 0 Q (F0 m 30 ls []))
  have h := h (by
    intro v1 σ h  H locs ls hM hl
    refine lv_iload_n (pc := 30) hx hb dX12_undo_30 rfl (lv_at hl 1 rfl) ?_
    refine lv_sipush (pc := 31) (v := 550) hx hb dX12_undo_31 (by decide) ?_
    refine lv_icmp_ge (pc := 34) (tgt := 64) hx hb dX12_undo_34 (by decide) (fun c34 => ?_) (fun c34 => ?_)
    · have h := h.1 c34
      refine lv_aload_n (pc := 64) hx hb dX12_undo_64 rfl (lv_at hl 0 rfl) ?_
      refine g_get (pc := 65) (v := .int (σ 87 4)) C hM (by decide) ce_87 fl_RX12_75 rfl dX12_undo_65 ?_
      exact hret 68 _ _ _ _ _ dX12_undo_68 (by rfl) h hM
    · have h := h.2 c34
      refine lv_aload_n (pc := 37) hx hb dX12_undo_37 rfl (lv_at hl 0 rfl) ?_
      refine g_get (pc := 38) (v := .ref (g_ad G 88)) C hM (by decide) ce_87 fl_RX12_7 rfl dX12_undo_38 ?_
      refine lv_iload_n (pc := 41) hx hb dX12_undo_41 rfl (lv_at hl 1 rfl) ?_
      refine lv_aload_n (pc := 42) hx hb dX12_undo_42 rfl (lv_at hl 0 rfl) ?_
      refine g_get (pc := 43) (v := .ref (g_ad G 90)) C hM (by decide) ce_87 fl_RX12_16 rfl dX12_undo_43 ?_
      refine lv_sipush (pc := 46) (v := 550) hx hb dX12_undo_46 (by decide) ?_
      refine lv_aload_n (pc := 49) hx hb dX12_undo_49 rfl (lv_at hl 0 rfl) ?_
      refine g_get (pc := 50) (v := .int (σ 87 4)) C hM (by decide) ce_87 fl_RX12_75 rfl dX12_undo_50 ?_
      refine lv_imul (pc := 53) hx hb dX12_undo_53 ?_
      refine lv_iload_n (pc := 54) hx hb dX12_undo_54 rfl (lv_at hl 1 rfl) ?_
      refine lv_iadd (pc := 55) hx hb dX12_undo_55 ?_
      obtain ⟨hc, h⟩ := h
      refine g_ialdK (pc := 56) C hM (by decide) ce_90 hc rfl dX12_undo_56 ?_
      obtain ⟨hc, h⟩ := h
      refine g_iastE (pc := 57) C hM (by decide) ce_88 hc rfl dX12_undo_57 (fun s57 es57 H locs hM => ?_)
      have h := h s57 es57
      refine lv_iinc (pc := 58) (v := (v1 + 1)) (lv' := [(1, .int (v1 + 1)), (0, .ref (g_ad G 87))]) hx hb dX12_undo_58 hl (k := 1) rfl (by rfl) (by decide) rfl (fun ls hl => ?_)
      refine lv_goto (pc := 61) (tgt := 30) hx hb dX12_undo_61 (by decide) ?_
      exact h _ _ _ hM (lv_sub hl [1, 0] rfl))
  refine lv_aload_n (pc := 0) hx hb dX12_undo_0 rfl (lv_at hl 0 rfl) ?_
  refine lv_iconst (pc := 1) (v := 0) hx hb dX12_undo_1 (by decide) ?_
  refine g_putE (pc := 2) C hM (by decide) ce_87 fp_RX12_68 rfl rfl (Nat.le_of_ble_eq_true rfl) rfl dX12_undo_2 (fun s2 es2 H locs hM => ?_)
  have h := h s2 es2
  refine lv_aload_n (pc := 5) hx hb dX12_undo_5 rfl (lv_at hl 0 rfl) ?_
  refine g_get (pc := 6) (v := .int (s2 87 4)) C hM (by decide) ce_87 fl_RX12_75 rfl dX12_undo_6 ?_
  refine lv_if_ne (pc := 9) (tgt := 18) hx hb dX12_undo_9 (by decide) (fun c9 => ?_) (fun c9 => ?_)
  · have h := h.2 c9
    refine lv_aload_n (pc := 18) hx hb dX12_undo_18 rfl (lv_at hl 0 rfl) ?_
    refine lv_dup (pc := 19) hx hb dX12_undo_19 rfl ?_
    refine g_get (pc := 20) (v := .int (s2 87 4)) C hM (by decide) ce_87 fl_RX12_75 rfl dX12_undo_20 ?_
    refine lv_iconst (pc := 23) (v := 1) hx hb dX12_undo_23 (by decide) ?_
    refine lv_isub (pc := 24) hx hb dX12_undo_24 ?_
    refine g_putE (pc := 25) C hM (by decide) ce_87 fp_RX12_75 rfl rfl (Nat.le_of_ble_eq_true rfl) rfl dX12_undo_25 (fun s25 es25 H locs hM => ?_)
    have h := h s25 es25
    refine lv_iconst (pc := 28) (v := 0) hx hb dX12_undo_28 (by decide) ?_
    refine lv_istore_n (pc := 29) (lv' := [(1, .int 0), (0, .ref (g_ad G 87))]) hx hb dX12_undo_29 rfl hl (by decide) rfl (fun ls hl => ?_)
    exact h _ _ _ hM (lv_sub hl [1, 0] rfl)
  · have h := h.1 c9
    refine lv_aload_n (pc := 12) hx hb dX12_undo_12 rfl (lv_at hl 0 rfl) ?_
    refine lv_iconst (pc := 13) (v := 1) hx hb dX12_undo_13 (by decide) ?_
    refine g_cVi (pc := 14) C hM hl.1 yv_X12_fails q6_89 (by decide) ce_87 rfl (w_X12_fails l G x 1 s2 _ h) rfl rfl ⟨⟨by decide, by decide⟩, by decide, by decide⟩ (Nat.le_of_ble_eq_true rfl) dX12_undo_14 (fun r14 s14 H locs h hM => ?_)
    exact hret 17 _ _ _ _ _ dX12_undo_17 (by rfl) h hM
abbrev rm_X12_save : Room := { frames := 0, cells := 0, slots := 0, locals := 0 }
theorem dX12_save_0 : decode cX12_save 0 = .ok (.aload_n 0, 1) := by decide +kernel
theorem dX12_save_1 : decode cX12_save 1 = .ok (.iconst 0, 1) := by decide +kernel
theorem dX12_save_2 : decode cX12_save 2 = .ok (.putfield 68, 3) := by decide +kernel
theorem dX12_save_5 : decode cX12_save 5 = .ok (.aload_n 0, 1) := by decide +kernel
theorem dX12_save_6 : decode cX12_save 6 = .ok (.iconst 1, 1) := by decide +kernel
theorem dX12_save_7 : decode cX12_save 7 = .ok (.putfield 82, 3) := by decide +kernel
theorem dX12_save_10 : decode cX12_save 10 = .ok (.iconst 0, 1) := by decide +kernel
theorem dX12_save_11 : decode cX12_save 11 = .ok (.istore_n 1, 1) := by decide +kernel
theorem dX12_save_12 : decode cX12_save 12 = .ok (.iload_n 1, 1) := by decide +kernel
theorem dX12_save_13 : decode cX12_save 13 = .ok (.sipush 550, 3) := by decide +kernel
theorem dX12_save_16 : decode cX12_save 16 = .ok (.if_icmp .ge 21, 3) := by decide +kernel
theorem dX12_save_19 : decode cX12_save 19 = .ok (.aload_n 0, 1) := by decide +kernel
theorem dX12_save_20 : decode cX12_save 20 = .ok (.getfield 13, 3) := by decide +kernel
theorem dX12_save_23 : decode cX12_save 23 = .ok (.iload_n 1, 1) := by decide +kernel
theorem dX12_save_24 : decode cX12_save 24 = .ok (.aload_n 0, 1) := by decide +kernel
theorem dX12_save_25 : decode cX12_save 25 = .ok (.getfield 7, 3) := by decide +kernel
theorem dX12_save_28 : decode cX12_save 28 = .ok (.iload_n 1, 1) := by decide +kernel
theorem dX12_save_29 : decode cX12_save 29 = .ok (.iaload, 1) := by decide +kernel
theorem dX12_save_30 : decode cX12_save 30 = .ok (.iastore, 1) := by decide +kernel
theorem dX12_save_31 : decode cX12_save 31 = .ok (.iinc 1 1, 3) := by decide +kernel
theorem dX12_save_34 : decode cX12_save 34 = .ok (.goto (-22), 3) := by decide +kernel
theorem dX12_save_37 : decode cX12_save 37 = .ok (.aload_n 0, 1) := by decide +kernel
theorem dX12_save_38 : decode cX12_save 38 = .ok (.getfield 7, 3) := by decide +kernel
theorem dX12_save_41 : decode cX12_save 41 = .ok (.iconst 0, 1) := by decide +kernel
theorem dX12_save_42 : decode cX12_save 42 = .ok (.iaload, 1) := by decide +kernel
theorem dX12_save_43 : decode cX12_save 43 = .ok (.ireturn, 1) := by decide +kernel
set_option maxHeartbeats 4000000 in
set_option maxRecDepth 100000 in
theorem w_X12_save (l : Launch) (G : GP) (x : XP) (σ : Sto) (P : Int32 → Sto → Prop) (h : D_X12_save  σ P) : g_Meti l yX12_save cX12_save 2 (some .int) rm_X12_save G x [.ref (g_ad G 87)] σ P := by
  unfold D_X12_save at h
  refine g_ofWi (by decide +kernel) (Nat.le_of_ble_eq_true rfl) ?_
  intro p e s m args below meth c Q ls C hM hl hret
  have hx := C.1
  have hb := C.2.1
  have hl : lv_has ls 2 [(0, .ref (g_ad G 87))] := hl
  have h := h (fun (v1 : Int32) (σ : Sto) => ∀ (H : Heap) (locs : List Loc) (ls : Array Slot), g_M G x σ s H locs → lv_has ls 2 [(0, .ref (g_ad G 87)), (1, .int v1)] → W p l e rm_X12_save s m args below meth c H locs 0 0 Q (F0 m 12 ls []))
  have h := h (by
    intro v1 σ h  H locs ls hM hl
    refine lv_iload_n (pc := 12) hx hb dX12_save_12 rfl (lv_at hl 1 rfl) ?_
    refine lv_sipush (pc := 13) (v := 550) hx hb dX12_save_13 (by decide) ?_
    refine lv_icmp_ge (pc := 16) (tgt := 37) hx hb dX12_save_16 (by decide) (fun c16 => ?_) (fun c16 => ?_)
    · have h := h.1 c16
      refine lv_aload_n (pc := 37) hx hb dX12_save_37 rfl (lv_at hl 0 rfl) ?_
      refine g_get (pc := 38) (v := .ref (g_ad G 88)) C hM (by decide) ce_87 fl_RX12_7 rfl dX12_save_38 ?_
      refine lv_iconst (pc := 41) (v := 0) hx hb dX12_save_41 (by decide) ?_
      refine g_ialdK (pc := 42) (k := 0) C hM (by decide) ce_88 (vp_in_nI (n := 0) (by decide) (by decide)) rfl dX12_save_42 ?_
      exact hret 43 _ _ _ _ _ dX12_save_43 (by rfl) h hM
    · have h := h.2 c16
      refine lv_aload_n (pc := 19) hx hb dX12_save_19 rfl (lv_at hl 0 rfl) ?_
      refine g_get (pc := 20) (v := .ref (g_ad G 89)) C hM (by decide) ce_87 fl_RX12_13 rfl dX12_save_20 ?_
      refine lv_iload_n (pc := 23) hx hb dX12_save_23 rfl (lv_at hl 1 rfl) ?_
      refine lv_aload_n (pc := 24) hx hb dX12_save_24 rfl (lv_at hl 0 rfl) ?_
      refine g_get (pc := 25) (v := .ref (g_ad G 88)) C hM (by decide) ce_87 fl_RX12_7 rfl dX12_save_25 ?_
      refine lv_iload_n (pc := 28) hx hb dX12_save_28 rfl (lv_at hl 1 rfl) ?_
      obtain ⟨hc, h⟩ := h
      refine g_ialdK (pc := 29) C hM (by decide) ce_88 hc rfl dX12_save_29 ?_
      obtain ⟨hc, h⟩ := h
      refine g_iastE (pc := 30) C hM (by decide) ce_89 hc rfl dX12_save_30 (fun s30 es30 H locs hM => ?_)
      have h := h s30 es30
      refine lv_iinc (pc := 31) (v := (v1 + 1)) (lv' := [(1, .int (v1 + 1)), (0, .ref (g_ad G 87))]) hx hb dX12_save_31 hl (k := 1) rfl (by rfl) (by decide) rfl (fun ls hl => ?_)
      refine lv_goto (pc := 34) (tgt := 12) hx hb dX12_save_34 (by decide) ?_
      exact h _ _ _ hM (lv_sub hl [1, 0] rfl))
  refine lv_aload_n (pc := 0) hx hb dX12_save_0 rfl (lv_at hl 0 rfl) ?_
  refine lv_iconst (pc := 1) (v := 0) hx hb dX12_save_1 (by decide) ?_
  refine g_putE (pc := 2) C hM (by decide) ce_87 fp_RX12_68 rfl rfl (Nat.le_of_ble_eq_true rfl) rfl dX12_save_2 (fun s2 es2 H locs hM => ?_)
  have h := h s2 es2
  refine lv_aload_n (pc := 5) hx hb dX12_save_5 rfl (lv_at hl 0 rfl) ?_
  refine lv_iconst (pc := 6) (v := 1) hx hb dX12_save_6 (by decide) ?_
  refine g_putE (pc := 7) C hM (by decide) ce_87 fp_RX12_82 rfl rfl (Nat.le_of_ble_eq_true rfl) rfl dX12_save_7 (fun s7 es7 H locs hM => ?_)
  have h := h s7 es7
  refine lv_iconst (pc := 10) (v := 0) hx hb dX12_save_10 (by decide) ?_
  refine lv_istore_n (pc := 11) (lv' := [(1, .int 0), (0, .ref (g_ad G 87))]) hx hb dX12_save_11 rfl hl (by decide) rfl (fun ls hl => ?_)
  exact h _ _ _ hM (lv_sub hl [1, 0] rfl)
abbrev rm_X12_restore : Room := { frames := 1, cells := 0, slots := 0, locals := 21 }
theorem dX12_restore_0 : decode cX12_restore 0 = .ok (.aload_n 0, 1) := by decide +kernel
theorem dX12_restore_1 : decode cX12_restore 1 = .ok (.iconst 0, 1) := by decide +kernel
theorem dX12_restore_2 : decode cX12_restore 2 = .ok (.putfield 68, 3) := by decide +kernel
theorem dX12_restore_5 : decode cX12_restore 5 = .ok (.aload_n 0, 1) := by decide +kernel
theorem dX12_restore_6 : decode cX12_restore 6 = .ok (.getfield 82, 3) := by decide +kernel
theorem dX12_restore_9 : decode cX12_restore 9 = .ok (.ifCond .ne 9, 3) := by decide +kernel
theorem dX12_restore_12 : decode cX12_restore 12 = .ok (.aload_n 0, 1) := by decide +kernel
theorem dX12_restore_13 : decode cX12_restore 13 = .ok (.iconst 1, 1) := by decide +kernel
theorem dX12_restore_14 : decode cX12_restore 14 = .ok (.invokevirtual 78, 3) := by decide +kernel
theorem dX12_restore_17 : decode cX12_restore 17 = .ok (.ireturn, 1) := by decide +kernel
theorem dX12_restore_18 : decode cX12_restore 18 = .ok (.aload_n 0, 1) := by decide +kernel
theorem dX12_restore_19 : decode cX12_restore 19 = .ok (.iconst 0, 1) := by decide +kernel
theorem dX12_restore_20 : decode cX12_restore 20 = .ok (.putfield 75, 3) := by decide +kernel
theorem dX12_restore_23 : decode cX12_restore 23 = .ok (.iconst 0, 1) := by decide +kernel
theorem dX12_restore_24 : decode cX12_restore 24 = .ok (.istore_n 1, 1) := by decide +kernel
theorem dX12_restore_25 : decode cX12_restore 25 = .ok (.iload_n 1, 1) := by decide +kernel
theorem dX12_restore_26 : decode cX12_restore 26 = .ok (.sipush 550, 3) := by decide +kernel
theorem dX12_restore_29 : decode cX12_restore 29 = .ok (.if_icmp .ge 21, 3) := by decide +kernel
theorem dX12_restore_32 : decode cX12_restore 32 = .ok (.aload_n 0, 1) := by decide +kernel
theorem dX12_restore_33 : decode cX12_restore 33 = .ok (.getfield 7, 3) := by decide +kernel
theorem dX12_restore_36 : decode cX12_restore 36 = .ok (.iload_n 1, 1) := by decide +kernel
theorem dX12_restore_37 : decode cX12_restore 37 = .ok (.aload_n 0, 1) := by decide +kernel
theorem dX12_restore_38 : decode cX12_restore 38 = .ok (.getfield 13, 3) := by decide +kernel
theorem dX12_restore_41 : decode cX12_restore 41 = .ok (.iload_n 1, 1) := by decide +kernel
theorem dX12_restore_42 : decode cX12_restore 42 = .ok (.iaload, 1) := by decide +kernel
theorem dX12_restore_43 : decode cX12_restore 43 = .ok (.iastore, 1) := by decide +kernel
theorem dX12_restore_44 : decode cX12_restore 44 = .ok (.iinc 1 1, 3) := by decide +kernel
theorem dX12_restore_47 : decode cX12_restore 47 = .ok (.goto (-22), 3) := by decide +kernel
theorem dX12_restore_50 : decode cX12_restore 50 = .ok (.aload_n 0, 1) := by decide +kernel
theorem dX12_restore_51 : decode cX12_restore 51 = .ok (.getfield 7, 3) := by decide +kernel
theorem dX12_restore_54 : decode cX12_restore 54 = .ok (.iconst 0, 1) := by decide +kernel
theorem dX12_restore_55 : decode cX12_restore 55 = .ok (.iaload, 1) := by decide +kernel
theorem dX12_restore_56 : decode cX12_restore 56 = .ok (.ireturn, 1) := by decide +kernel
set_option maxHeartbeats 4000000 in
set_option maxRecDepth 100000 in
theorem w_X12_restore (l : Launch) (G : GP) (x : XP) (σ : Sto) (P : Int32 → Sto → Prop) (h : D_X12_restore  σ P) : g_Meti l yX12_restore cX12_restore 2 (some .int) rm_X12_restore G x [.ref (g_ad G 87)] σ P := by
  unfold D_X12_restore at h
  refine g_ofWi (by decide +kernel) (Nat.le_of_ble_eq_true rfl) ?_
  intro p e s m args below meth c Q ls C hM hl hret
  have hx := C.1
  have hb := C.2.1
  have hl : lv_has ls 2 [(0, .ref (g_ad G 87))] := hl
  have h := h (fun (v1 : Int32) (σ : Sto) => ∀ (H : Heap) (locs : List Loc) (ls : Array Slot), g_M G x σ s H locs → lv_has ls 2 [(0, .ref (g_ad G 87)), (1, .int v1)] → W p l e rm_X12_restore s m args below meth c H locs 0 0 Q (F0 m 25 ls []))
  have h := h (by
    intro v1 σ h  H locs ls hM hl
    refine lv_iload_n (pc := 25) hx hb dX12_restore_25 rfl (lv_at hl 1 rfl) ?_
    refine lv_sipush (pc := 26) (v := 550) hx hb dX12_restore_26 (by decide) ?_
    refine lv_icmp_ge (pc := 29) (tgt := 50) hx hb dX12_restore_29 (by decide) (fun c29 => ?_) (fun c29 => ?_)
    · have h := h.1 c29
      refine lv_aload_n (pc := 50) hx hb dX12_restore_50 rfl (lv_at hl 0 rfl) ?_
      refine g_get (pc := 51) (v := .ref (g_ad G 88)) C hM (by decide) ce_87 fl_RX12_7 rfl dX12_restore_51 ?_
      refine lv_iconst (pc := 54) (v := 0) hx hb dX12_restore_54 (by decide) ?_
      refine g_ialdK (pc := 55) (k := 0) C hM (by decide) ce_88 (vp_in_nI (n := 0) (by decide) (by decide)) rfl dX12_restore_55 ?_
      exact hret 56 _ _ _ _ _ dX12_restore_56 (by rfl) h hM
    · have h := h.2 c29
      refine lv_aload_n (pc := 32) hx hb dX12_restore_32 rfl (lv_at hl 0 rfl) ?_
      refine g_get (pc := 33) (v := .ref (g_ad G 88)) C hM (by decide) ce_87 fl_RX12_7 rfl dX12_restore_33 ?_
      refine lv_iload_n (pc := 36) hx hb dX12_restore_36 rfl (lv_at hl 1 rfl) ?_
      refine lv_aload_n (pc := 37) hx hb dX12_restore_37 rfl (lv_at hl 0 rfl) ?_
      refine g_get (pc := 38) (v := .ref (g_ad G 89)) C hM (by decide) ce_87 fl_RX12_13 rfl dX12_restore_38 ?_
      refine lv_iload_n (pc := 41) hx hb dX12_restore_41 rfl (lv_at hl 1 rfl) ?_
      obtain ⟨hc, h⟩ := h
      refine g_ialdK (pc := 42) C hM (by decide) ce_89 hc rfl dX12_restore_42 ?_
      obtain ⟨hc, h⟩ := h
      refine g_iastE (pc := 43) C hM (by decide) ce_88 hc rfl dX12_restore_43 (fun s43 es43 H locs hM => ?_)
      have h := h s43 es43
      refine lv_iinc (pc := 44) (v := (v1 + 1)) (lv' := [(1, .int (v1 + 1)), (0, .ref (g_ad G 87))]) hx hb dX12_restore_44 hl (k := 1) rfl (by rfl) (by decide) rfl (fun ls hl => ?_)
      refine lv_goto (pc := 47) (tgt := 25) hx hb dX12_restore_47 (by decide) ?_
      exact h _ _ _ hM (lv_sub hl [1, 0] rfl))
  refine lv_aload_n (pc := 0) hx hb dX12_restore_0 rfl (lv_at hl 0 rfl) ?_
  refine lv_iconst (pc := 1) (v := 0) hx hb dX12_restore_1 (by decide) ?_
  refine g_putE (pc := 2) C hM (by decide) ce_87 fp_RX12_68 rfl rfl (Nat.le_of_ble_eq_true rfl) rfl dX12_restore_2 (fun s2 es2 H locs hM => ?_)
  have h := h s2 es2
  refine lv_aload_n (pc := 5) hx hb dX12_restore_5 rfl (lv_at hl 0 rfl) ?_
  refine g_get (pc := 6) (v := .int (s2 87 2)) C hM (by decide) ce_87 fl_RX12_82 rfl dX12_restore_6 ?_
  refine lv_if_ne (pc := 9) (tgt := 18) hx hb dX12_restore_9 (by decide) (fun c9 => ?_) (fun c9 => ?_)
  · have h := h.2 c9
    refine lv_aload_n (pc := 18) hx hb dX12_restore_18 rfl (lv_at hl 0 rfl) ?_
    refine lv_iconst (pc := 19) (v := 0) hx hb dX12_restore_19 (by decide) ?_
    refine g_putE (pc := 20) C hM (by decide) ce_87 fp_RX12_75 rfl rfl (Nat.le_of_ble_eq_true rfl) rfl dX12_restore_20 (fun s20 es20 H locs hM => ?_)
    have h := h s20 es20
    refine lv_iconst (pc := 23) (v := 0) hx hb dX12_restore_23 (by decide) ?_
    refine lv_istore_n (pc := 24) (lv' := [(1, .int 0), (0, .ref (g_ad G 87))]) hx hb dX12_restore_24 rfl hl (by decide) rfl (fun ls hl => ?_)
    exact h _ _ _ hM (lv_sub hl [1, 0] rfl)
  · have h := h.1 c9
    refine lv_aload_n (pc := 12) hx hb dX12_restore_12 rfl (lv_at hl 0 rfl) ?_
    refine lv_iconst (pc := 13) (v := 1) hx hb dX12_restore_13 (by decide) ?_
    refine g_cVi (pc := 14) C hM hl.1 yv_X12_fails q6_89 (by decide) ce_87 rfl (w_X12_fails l G x 1 s2 _ h) rfl rfl ⟨⟨by decide, by decide⟩, by decide, by decide⟩ (Nat.le_of_ble_eq_true rfl) dX12_restore_14 (fun r14 s14 H locs h hM => ?_)
    exact hret 17 _ _ _ _ _ dX12_restore_17 (by rfl) h hM
abbrev rm_X12_comes : Room := { frames := 0, cells := 0, slots := 0, locals := 0 }
theorem dX12_comes_0 : decode cX12_comes 0 = .ok (.bipush 10, 2) := by decide +kernel
theorem dX12_comes_2 : decode cX12_comes 2 = .ok (.bipush 16, 2) := by decide +kernel
theorem dX12_comes_4 : decode cX12_comes 4 = .ok (.aload_n 0, 1) := by decide +kernel
theorem dX12_comes_5 : decode cX12_comes 5 = .ok (.getfield 7, 3) := by decide +kernel
theorem dX12_comes_8 : decode cX12_comes 8 = .ok (.iconst 0, 1) := by decide +kernel
theorem dX12_comes_9 : decode cX12_comes 9 = .ok (.iaload, 1) := by decide +kernel
theorem dX12_comes_10 : decode cX12_comes 10 = .ok (.imul, 1) := by decide +kernel
theorem dX12_comes_11 : decode cX12_comes 11 = .ok (.iadd, 1) := by decide +kernel
theorem dX12_comes_12 : decode cX12_comes 12 = .ok (.istore 4, 2) := by decide +kernel
theorem dX12_comes_14 : decode cX12_comes 14 = .ok (.aload_n 0, 1) := by decide +kernel
theorem dX12_comes_15 : decode cX12_comes 15 = .ok (.getfield 7, 3) := by decide +kernel
theorem dX12_comes_18 : decode cX12_comes 18 = .ok (.iload 4, 2) := by decide +kernel
theorem dX12_comes_20 : decode cX12_comes 20 = .ok (.iload_n 1, 1) := by decide +kernel
theorem dX12_comes_21 : decode cX12_comes 21 = .ok (.iastore, 1) := by decide +kernel
theorem dX12_comes_22 : decode cX12_comes 22 = .ok (.aload_n 0, 1) := by decide +kernel
theorem dX12_comes_23 : decode cX12_comes 23 = .ok (.getfield 7, 3) := by decide +kernel
theorem dX12_comes_26 : decode cX12_comes 26 = .ok (.iload 4, 2) := by decide +kernel
theorem dX12_comes_28 : decode cX12_comes 28 = .ok (.iconst 1, 1) := by decide +kernel
theorem dX12_comes_29 : decode cX12_comes 29 = .ok (.iadd, 1) := by decide +kernel
theorem dX12_comes_30 : decode cX12_comes 30 = .ok (.iload_n 2, 1) := by decide +kernel
theorem dX12_comes_31 : decode cX12_comes 31 = .ok (.iastore, 1) := by decide +kernel
theorem dX12_comes_32 : decode cX12_comes 32 = .ok (.aload_n 0, 1) := by decide +kernel
theorem dX12_comes_33 : decode cX12_comes 33 = .ok (.getfield 7, 3) := by decide +kernel
theorem dX12_comes_36 : decode cX12_comes 36 = .ok (.iload 4, 2) := by decide +kernel
theorem dX12_comes_38 : decode cX12_comes 38 = .ok (.iconst 2, 1) := by decide +kernel
theorem dX12_comes_39 : decode cX12_comes 39 = .ok (.iadd, 1) := by decide +kernel
theorem dX12_comes_40 : decode cX12_comes 40 = .ok (.iload_n 3, 1) := by decide +kernel
theorem dX12_comes_41 : decode cX12_comes 41 = .ok (.iastore, 1) := by decide +kernel
theorem dX12_comes_42 : decode cX12_comes 42 = .ok (.aload_n 0, 1) := by decide +kernel
theorem dX12_comes_43 : decode cX12_comes 43 = .ok (.getfield 7, 3) := by decide +kernel
theorem dX12_comes_46 : decode cX12_comes 46 = .ok (.iload 4, 2) := by decide +kernel
theorem dX12_comes_48 : decode cX12_comes 48 = .ok (.iconst 3, 1) := by decide +kernel
theorem dX12_comes_49 : decode cX12_comes 49 = .ok (.iadd, 1) := by decide +kernel
theorem dX12_comes_50 : decode cX12_comes 50 = .ok (.iconst 0, 1) := by decide +kernel
theorem dX12_comes_51 : decode cX12_comes 51 = .ok (.iastore, 1) := by decide +kernel
theorem dX12_comes_52 : decode cX12_comes 52 = .ok (.aload_n 0, 1) := by decide +kernel
theorem dX12_comes_53 : decode cX12_comes 53 = .ok (.getfield 7, 3) := by decide +kernel
theorem dX12_comes_56 : decode cX12_comes 56 = .ok (.iconst 0, 1) := by decide +kernel
theorem dX12_comes_57 : decode cX12_comes 57 = .ok (.dup2, 1) := by decide +kernel
theorem dX12_comes_58 : decode cX12_comes 58 = .ok (.iaload, 1) := by decide +kernel
theorem dX12_comes_59 : decode cX12_comes 59 = .ok (.iconst 1, 1) := by decide +kernel
theorem dX12_comes_60 : decode cX12_comes 60 = .ok (.iadd, 1) := by decide +kernel
theorem dX12_comes_61 : decode cX12_comes 61 = .ok (.iastore, 1) := by decide +kernel
theorem dX12_comes_62 : decode cX12_comes 62 = .ok (.return_, 1) := by decide +kernel
set_option maxHeartbeats 4000000 in
set_option maxRecDepth 100000 in
theorem w_X12_comes (l : Launch) (G : GP) (x : XP) (a1 : Int32) (a2 : Int32) (a3 : Int32) (σ : Sto) (P : Sto → Prop) (h : D_X12_comes a1 a2 a3 σ P) : g_Metv l yX12_comes cX12_comes 5 rm_X12_comes G x [.ref (g_ad G 87), .int a1, .int a2, .int a3] σ P := by
  unfold D_X12_comes at h
  refine g_ofWv (by decide +kernel) (Nat.le_of_ble_eq_true rfl) ?_
  intro p e s m args below meth c Q ls C hM hl hret
  have hx := C.1
  have hb := C.2.1
  have hl : lv_has ls 5 [(0, .ref (g_ad G 87)), (1, .int a1), (2, .int a2), (3, .int a3)] := hl
  refine lv_bipush (pc := 0) (v := 10) hx hb dX12_comes_0 (by decide) ?_
  refine lv_bipush (pc := 2) (v := 16) hx hb dX12_comes_2 (by decide) ?_
  refine lv_aload_n (pc := 4) hx hb dX12_comes_4 rfl (lv_at hl 0 rfl) ?_
  refine g_get (pc := 5) (v := .ref (g_ad G 88)) C hM (by decide) ce_87 fl_RX12_7 rfl dX12_comes_5 ?_
  refine lv_iconst (pc := 8) (v := 0) hx hb dX12_comes_8 (by decide) ?_
  refine g_ialdK (pc := 9) (k := 0) C hM (by decide) ce_88 (vp_in_nI (n := 0) (by decide) (by decide)) rfl dX12_comes_9 ?_
  refine lv_imul (pc := 10) hx hb dX12_comes_10 ?_
  refine lv_iadd (pc := 11) hx hb dX12_comes_11 ?_
  refine lv_istore (pc := 12) (lv' := [(4, .int (10 + (16 * (σ 88 0)))), (0, .ref (g_ad G 87)), (1, .int a1), (2, .int a2), (3, .int a3)]) hx hb dX12_comes_12 hl (by decide) rfl (fun ls hl => ?_)
  refine lv_aload_n (pc := 14) hx hb dX12_comes_14 rfl (lv_at hl 1 rfl) ?_
  refine g_get (pc := 15) (v := .ref (g_ad G 88)) C hM (by decide) ce_87 fl_RX12_7 rfl dX12_comes_15 ?_
  refine lv_iload (pc := 18) hx hb dX12_comes_18 (lv_at hl 0 rfl) ?_
  refine lv_iload_n (pc := 20) hx hb dX12_comes_20 rfl (lv_at hl 2 rfl) ?_
  obtain ⟨hc, h⟩ := h
  refine g_iastE (pc := 21) C hM (by decide) ce_88 hc rfl dX12_comes_21 (fun s21 es21 H locs hM => ?_)
  have h := h s21 es21
  refine lv_aload_n (pc := 22) hx hb dX12_comes_22 rfl (lv_at hl 1 rfl) ?_
  refine g_get (pc := 23) (v := .ref (g_ad G 88)) C hM (by decide) ce_87 fl_RX12_7 rfl dX12_comes_23 ?_
  refine lv_iload (pc := 26) hx hb dX12_comes_26 (lv_at hl 0 rfl) ?_
  refine lv_iconst (pc := 28) (v := 1) hx hb dX12_comes_28 (by decide) ?_
  refine lv_iadd (pc := 29) hx hb dX12_comes_29 ?_
  refine lv_iload_n (pc := 30) hx hb dX12_comes_30 rfl (lv_at hl 3 rfl) ?_
  obtain ⟨hc, h⟩ := h
  refine g_iastE (pc := 31) C hM (by decide) ce_88 hc rfl dX12_comes_31 (fun s31 es31 H locs hM => ?_)
  have h := h s31 es31
  refine lv_aload_n (pc := 32) hx hb dX12_comes_32 rfl (lv_at hl 1 rfl) ?_
  refine g_get (pc := 33) (v := .ref (g_ad G 88)) C hM (by decide) ce_87 fl_RX12_7 rfl dX12_comes_33 ?_
  refine lv_iload (pc := 36) hx hb dX12_comes_36 (lv_at hl 0 rfl) ?_
  refine lv_iconst (pc := 38) (v := 2) hx hb dX12_comes_38 (by decide) ?_
  refine lv_iadd (pc := 39) hx hb dX12_comes_39 ?_
  refine lv_iload_n (pc := 40) hx hb dX12_comes_40 rfl (lv_at hl 4 rfl) ?_
  obtain ⟨hc, h⟩ := h
  refine g_iastE (pc := 41) C hM (by decide) ce_88 hc rfl dX12_comes_41 (fun s41 es41 H locs hM => ?_)
  have h := h s41 es41
  refine lv_aload_n (pc := 42) hx hb dX12_comes_42 rfl (lv_at hl 1 rfl) ?_
  refine g_get (pc := 43) (v := .ref (g_ad G 88)) C hM (by decide) ce_87 fl_RX12_7 rfl dX12_comes_43 ?_
  refine lv_iload (pc := 46) hx hb dX12_comes_46 (lv_at hl 0 rfl) ?_
  refine lv_iconst (pc := 48) (v := 3) hx hb dX12_comes_48 (by decide) ?_
  refine lv_iadd (pc := 49) hx hb dX12_comes_49 ?_
  refine lv_iconst (pc := 50) (v := 0) hx hb dX12_comes_50 (by decide) ?_
  obtain ⟨hc, h⟩ := h
  refine g_iastE (pc := 51) C hM (by decide) ce_88 hc rfl dX12_comes_51 (fun s51 es51 H locs hM => ?_)
  have h := h s51 es51
  refine lv_aload_n (pc := 52) hx hb dX12_comes_52 rfl (lv_at hl 1 rfl) ?_
  refine g_get (pc := 53) (v := .ref (g_ad G 88)) C hM (by decide) ce_87 fl_RX12_7 rfl dX12_comes_53 ?_
  refine lv_iconst (pc := 56) (v := 0) hx hb dX12_comes_56 (by decide) ?_
  refine lv_dup2_11 (pc := 57) hx hb dX12_comes_57 rfl rfl ?_
  refine g_ialdK (pc := 58) (k := 0) C hM (by decide) ce_88 (vp_in_nI (n := 0) (by decide) (by decide)) rfl dX12_comes_58 ?_
  refine lv_iconst (pc := 59) (v := 1) hx hb dX12_comes_59 (by decide) ?_
  refine lv_iadd (pc := 60) hx hb dX12_comes_60 ?_
  refine g_iastE (pc := 61) (k := 0) C hM (by decide) ce_88 (vp_in_nI (n := 0) (by decide) (by decide)) rfl dX12_comes_61 (fun s61 es61 H locs hM => ?_)
  have h := h s61 es61
  exact hret 62 _ _ _ _ dX12_comes_62 h hM
abbrev rm_X12_addRule : Room := { frames := 2, cells := 0, slots := 0, locals := 42 }
theorem dX12_addRule_0 : decode cX12_addRule 0 = .ok (.aload_n 0, 1) := by decide +kernel
theorem dX12_addRule_1 : decode cX12_addRule 1 = .ok (.iload_n 1, 1) := by decide +kernel
theorem dX12_addRule_2 : decode cX12_addRule 2 = .ok (.invokestatic 86, 3) := by decide +kernel
theorem dX12_addRule_5 : decode cX12_addRule 5 = .ok (.ifCond .eq 36, 3) := by decide +kernel
theorem dX12_addRule_8 : decode cX12_addRule 8 = .ok (.iload_n 3, 1) := by decide +kernel
theorem dX12_addRule_9 : decode cX12_addRule 9 = .ok (.iconst 0, 1) := by decide +kernel
theorem dX12_addRule_10 : decode cX12_addRule 10 = .ok (.bipush 9, 2) := by decide +kernel
theorem dX12_addRule_12 : decode cX12_addRule 12 = .ok (.invokestatic 71, 3) := by decide +kernel
theorem dX12_addRule_15 : decode cX12_addRule 15 = .ok (.ifCond .eq 22, 3) := by decide +kernel
theorem dX12_addRule_18 : decode cX12_addRule 18 = .ok (.aload_n 0, 1) := by decide +kernel
theorem dX12_addRule_19 : decode cX12_addRule 19 = .ok (.getfield 7, 3) := by decide +kernel
theorem dX12_addRule_22 : decode cX12_addRule 22 = .ok (.iconst 0, 1) := by decide +kernel
theorem dX12_addRule_23 : decode cX12_addRule 23 = .ok (.iaload, 1) := by decide +kernel
theorem dX12_addRule_24 : decode cX12_addRule 24 = .ok (.bipush 24, 2) := by decide +kernel
theorem dX12_addRule_26 : decode cX12_addRule 26 = .ok (.if_icmp .ne 7, 3) := by decide +kernel
theorem dX12_addRule_29 : decode cX12_addRule 29 = .ok (.iconst 3, 1) := by decide +kernel
theorem dX12_addRule_30 : decode cX12_addRule 30 = .ok (.goto 12, 3) := by decide +kernel
theorem dX12_addRule_33 : decode cX12_addRule 33 = .ok (.iconst 0, 1) := by decide +kernel
theorem dX12_addRule_34 : decode cX12_addRule 34 = .ok (.goto 8, 3) := by decide +kernel
theorem dX12_addRule_37 : decode cX12_addRule 37 = .ok (.iconst 2, 1) := by decide +kernel
theorem dX12_addRule_38 : decode cX12_addRule 38 = .ok (.goto 4, 3) := by decide +kernel
theorem dX12_addRule_41 : decode cX12_addRule 41 = .ok (.iconst 1, 1) := by decide +kernel
theorem dX12_addRule_42 : decode cX12_addRule 42 = .ok (.putfield 68, 3) := by decide +kernel
theorem dX12_addRule_45 : decode cX12_addRule 45 = .ok (.aload_n 0, 1) := by decide +kernel
theorem dX12_addRule_46 : decode cX12_addRule 46 = .ok (.getfield 68, 3) := by decide +kernel
theorem dX12_addRule_49 : decode cX12_addRule 49 = .ok (.ifCond .le 5, 3) := by decide +kernel
theorem dX12_addRule_52 : decode cX12_addRule 52 = .ok (.iconst 0, 1) := by decide +kernel
theorem dX12_addRule_53 : decode cX12_addRule 53 = .ok (.ireturn, 1) := by decide +kernel
theorem dX12_addRule_54 : decode cX12_addRule 54 = .ok (.aload_n 0, 1) := by decide +kernel
theorem dX12_addRule_55 : decode cX12_addRule 55 = .ok (.invokevirtual 90, 3) := by decide +kernel
theorem dX12_addRule_58 : decode cX12_addRule 58 = .ok (.aload_n 0, 1) := by decide +kernel
theorem dX12_addRule_59 : decode cX12_addRule 59 = .ok (.iload_n 1, 1) := by decide +kernel
theorem dX12_addRule_60 : decode cX12_addRule 60 = .ok (.iload_n 2, 1) := by decide +kernel
theorem dX12_addRule_61 : decode cX12_addRule 61 = .ok (.ifCond .eq 7, 3) := by decide +kernel
theorem dX12_addRule_64 : decode cX12_addRule 64 = .ok (.iconst 1, 1) := by decide +kernel
theorem dX12_addRule_65 : decode cX12_addRule 65 = .ok (.goto 4, 3) := by decide +kernel
theorem dX12_addRule_68 : decode cX12_addRule 68 = .ok (.iconst 0, 1) := by decide +kernel
theorem dX12_addRule_69 : decode cX12_addRule 69 = .ok (.iload_n 3, 1) := by decide +kernel
theorem dX12_addRule_70 : decode cX12_addRule 70 = .ok (.invokevirtual 93, 3) := by decide +kernel
theorem dX12_addRule_73 : decode cX12_addRule 73 = .ok (.aload_n 0, 1) := by decide +kernel
theorem dX12_addRule_74 : decode cX12_addRule 74 = .ok (.getfield 7, 3) := by decide +kernel
theorem dX12_addRule_77 : decode cX12_addRule 77 = .ok (.iconst 0, 1) := by decide +kernel
theorem dX12_addRule_78 : decode cX12_addRule 78 = .ok (.iaload, 1) := by decide +kernel
theorem dX12_addRule_79 : decode cX12_addRule 79 = .ok (.iconst 1, 1) := by decide +kernel
theorem dX12_addRule_80 : decode cX12_addRule 80 = .ok (.isub, 1) := by decide +kernel
theorem dX12_addRule_81 : decode cX12_addRule 81 = .ok (.ireturn, 1) := by decide +kernel
set_option maxHeartbeats 4000000 in
set_option maxRecDepth 100000 in
theorem w_X12_addRule (l : Launch) (G : GP) (x : XP) (a1 : Int32) (a2 : Int32) (a3 : Int32) (σ : Sto) (P : Int32 → Sto → Prop) (h : D_X12_addRule a1 a2 a3 σ P) : g_Meti l yX12_addRule cX12_addRule 4 (some .int) rm_X12_addRule G x [.ref (g_ad G 87), .int a1, .int a2, .int a3] σ P := by
  unfold D_X12_addRule at h
  refine g_ofWi (by decide +kernel) (Nat.le_of_ble_eq_true rfl) ?_
  intro p e s m args below meth c Q ls C hM hl hret
  have hx := C.1
  have hb := C.2.1
  have hl : lv_has ls 4 [(0, .ref (g_ad G 87)), (1, .int a1), (2, .int a2), (3, .int a3)] := hl
  have h := h (fun (t0 : Int32) (σ : Sto) => ∀ (H : Heap) (locs : List Loc) (ls : Array Slot), g_M G x σ s H locs → lv_has ls 4 [(0, .ref (g_ad G 87)), (1, .int a1), (2, .int a2), (3, .int a3)] → W p l e rm_X12_addRule s m args below meth c H locs 0 0 Q (F0 m 42 ls [.int t0, .ref (g_ad G 87)]))
  have h := h (by
    intro t0 σ h  H locs ls hM hl
    refine g_putE (pc := 42) C hM (by decide) ce_87 fp_RX12_68 rfl rfl (Nat.le_of_ble_eq_true rfl) rfl dX12_addRule_42 (fun s42 es42 H locs hM => ?_)
    have h := h s42 es42
    refine lv_aload_n (pc := 45) hx hb dX12_addRule_45 rfl (lv_at hl 0 rfl) ?_
    refine g_get (pc := 46) (v := .int (s42 87 8)) C hM (by decide) ce_87 fl_RX12_68 rfl dX12_addRule_46 ?_
    refine lv_if_le (pc := 49) (tgt := 54) hx hb dX12_addRule_49 (by decide) (fun c49 => ?_) (fun c49 => ?_)
    · have h := h.1 c49
      refine lv_aload_n (pc := 54) hx hb dX12_addRule_54 rfl (lv_at hl 0 rfl) ?_
      refine g_cVv (pc := 55) C hM hl.1 yv_X12_changes q6_111 (by decide) ce_87 rfl (w_X12_changes l G x  s42 _ h) rfl rfl ⟨⟨by decide, by decide⟩, by decide, by decide⟩ (Nat.le_of_ble_eq_true rfl) dX12_addRule_55 (fun s55 H locs h hM => ?_)
      refine lv_aload_n (pc := 58) hx hb dX12_addRule_58 rfl (lv_at hl 0 rfl) ?_
      refine lv_iload_n (pc := 59) hx hb dX12_addRule_59 rfl (lv_at hl 1 rfl) ?_
      refine lv_iload_n (pc := 60) hx hb dX12_addRule_60 rfl (lv_at hl 2 rfl) ?_
      refine lv_if_eq (pc := 61) (tgt := 68) hx hb dX12_addRule_61 (by decide) (fun c61 => ?_) (fun c61 => ?_)
      · have h := h.1 c61
        refine lv_iconst (pc := 68) (v := 0) hx hb dX12_addRule_68 (by decide) ?_
        refine lv_iload_n (pc := 69) hx hb dX12_addRule_69 rfl (lv_at hl 3 rfl) ?_
        refine g_cVv (pc := 70) C hM hl.1 yv_X12_comes q6_115 (by decide) ce_87 rfl (w_X12_comes l G x a1 0 a3 s55 _ h) rfl rfl ⟨⟨by decide, by decide⟩, by decide, by decide⟩ (Nat.le_of_ble_eq_true rfl) dX12_addRule_70 (fun s70 H locs h hM => ?_)
        refine lv_aload_n (pc := 73) hx hb dX12_addRule_73 rfl (lv_at hl 0 rfl) ?_
        refine g_get (pc := 74) (v := .ref (g_ad G 88)) C hM (by decide) ce_87 fl_RX12_7 rfl dX12_addRule_74 ?_
        refine lv_iconst (pc := 77) (v := 0) hx hb dX12_addRule_77 (by decide) ?_
        refine g_ialdK (pc := 78) (k := 0) C hM (by decide) ce_88 (vp_in_nI (n := 0) (by decide) (by decide)) rfl dX12_addRule_78 ?_
        refine lv_iconst (pc := 79) (v := 1) hx hb dX12_addRule_79 (by decide) ?_
        refine lv_isub (pc := 80) hx hb dX12_addRule_80 ?_
        exact hret 81 _ _ _ _ _ dX12_addRule_81 (by rfl) h hM
      · have h := h.2 c61
        refine lv_iconst (pc := 64) (v := 1) hx hb dX12_addRule_64 (by decide) ?_
        refine lv_goto (pc := 65) (tgt := 69) hx hb dX12_addRule_65 (by decide) ?_
        refine lv_iload_n (pc := 69) hx hb dX12_addRule_69 rfl (lv_at hl 3 rfl) ?_
        refine g_cVv (pc := 70) C hM hl.1 yv_X12_comes q6_115 (by decide) ce_87 rfl (w_X12_comes l G x a1 1 a3 s55 _ h) rfl rfl ⟨⟨by decide, by decide⟩, by decide, by decide⟩ (Nat.le_of_ble_eq_true rfl) dX12_addRule_70 (fun s70 H locs h hM => ?_)
        refine lv_aload_n (pc := 73) hx hb dX12_addRule_73 rfl (lv_at hl 0 rfl) ?_
        refine g_get (pc := 74) (v := .ref (g_ad G 88)) C hM (by decide) ce_87 fl_RX12_7 rfl dX12_addRule_74 ?_
        refine lv_iconst (pc := 77) (v := 0) hx hb dX12_addRule_77 (by decide) ?_
        refine g_ialdK (pc := 78) (k := 0) C hM (by decide) ce_88 (vp_in_nI (n := 0) (by decide) (by decide)) rfl dX12_addRule_78 ?_
        refine lv_iconst (pc := 79) (v := 1) hx hb dX12_addRule_79 (by decide) ?_
        refine lv_isub (pc := 80) hx hb dX12_addRule_80 ?_
        exact hret 81 _ _ _ _ _ dX12_addRule_81 (by rfl) h hM
    · have h := h.2 c49
      refine lv_iconst (pc := 52) (v := 0) hx hb dX12_addRule_52 (by decide) ?_
      exact hret 53 _ _ _ _ _ dX12_addRule_53 (by rfl) h hM)
  refine lv_aload_n (pc := 0) hx hb dX12_addRule_0 rfl (lv_at hl 0 rfl) ?_
  refine lv_iload_n (pc := 1) hx hb dX12_addRule_1 rfl (lv_at hl 1 rfl) ?_
  refine g_cSi (pc := 2) C hM hl.1 ys_X12_isPolicy q6_105 (w_X12_isPolicy l G x a1 σ _ h) rfl rfl ⟨⟨by decide, by decide⟩, by decide, by decide⟩ (Nat.le_of_ble_eq_true rfl) dX12_addRule_2 (fun r2 s2 H locs h hM => ?_)
  refine lv_if_eq (pc := 5) (tgt := 41) hx hb dX12_addRule_5 (by decide) (fun c5 => ?_) (fun c5 => ?_)
  · have h := h.1 c5
    refine lv_iconst (pc := 41) (v := 1) hx hb dX12_addRule_41 (by decide) ?_
    exact h _ _ _ hM (lv_sub hl [0, 1, 2, 3] rfl)
  · have h := h.2 c5
    refine lv_iload_n (pc := 8) hx hb dX12_addRule_8 rfl (lv_at hl 3 rfl) ?_
    refine lv_iconst (pc := 9) (v := 0) hx hb dX12_addRule_9 (by decide) ?_
    refine lv_bipush (pc := 10) (v := 9) hx hb dX12_addRule_10 (by decide) ?_
    refine g_cSi (pc := 12) C hM hl.1 ys_X12_in q6_108 (w_X12_in l G x a3 0 9 s2 _ h) rfl rfl ⟨⟨by decide, by decide⟩, by decide, by decide⟩ (Nat.le_of_ble_eq_true rfl) dX12_addRule_12 (fun r12 s12 H locs h hM => ?_)
    refine lv_if_eq (pc := 15) (tgt := 37) hx hb dX12_addRule_15 (by decide) (fun c15 => ?_) (fun c15 => ?_)
    · have h := h.1 c15
      refine lv_iconst (pc := 37) (v := 2) hx hb dX12_addRule_37 (by decide) ?_
      refine lv_goto (pc := 38) (tgt := 42) hx hb dX12_addRule_38 (by decide) ?_
      exact h _ _ _ hM (lv_sub hl [0, 1, 2, 3] rfl)
    · have h := h.2 c15
      refine lv_aload_n (pc := 18) hx hb dX12_addRule_18 rfl (lv_at hl 0 rfl) ?_
      refine g_get (pc := 19) (v := .ref (g_ad G 88)) C hM (by decide) ce_87 fl_RX12_7 rfl dX12_addRule_19 ?_
      refine lv_iconst (pc := 22) (v := 0) hx hb dX12_addRule_22 (by decide) ?_
      refine g_ialdK (pc := 23) (k := 0) C hM (by decide) ce_88 (vp_in_nI (n := 0) (by decide) (by decide)) rfl dX12_addRule_23 ?_
      refine lv_bipush (pc := 24) (v := 24) hx hb dX12_addRule_24 (by decide) ?_
      refine lv_icmp_ne (pc := 26) (tgt := 33) hx hb dX12_addRule_26 (by decide) (fun c26 => ?_) (fun c26 => ?_)
      · have h := h.2 c26
        refine lv_iconst (pc := 33) (v := 0) hx hb dX12_addRule_33 (by decide) ?_
        refine lv_goto (pc := 34) (tgt := 42) hx hb dX12_addRule_34 (by decide) ?_
        exact h _ _ _ hM (lv_sub hl [0, 1, 2, 3] rfl)
      · have h := h.1 c26
        refine lv_iconst (pc := 29) (v := 3) hx hb dX12_addRule_29 (by decide) ?_
        refine lv_goto (pc := 30) (tgt := 42) hx hb dX12_addRule_30 (by decide) ?_
        exact h _ _ _ hM (lv_sub hl [0, 1, 2, 3] rfl)
abbrev rm_X12_conditionComes : Room := { frames := 1, cells := 0, slots := 0, locals := 22 }
theorem dX12_conditionComes_0 : decode cX12_conditionComes 0 = .ok (.bipush 10, 2) := by decide +kernel
theorem dX12_conditionComes_2 : decode cX12_conditionComes 2 = .ok (.bipush 16, 2) := by decide +kernel
theorem dX12_conditionComes_4 : decode cX12_conditionComes 4 = .ok (.iload_n 1, 1) := by decide +kernel
theorem dX12_conditionComes_5 : decode cX12_conditionComes 5 = .ok (.imul, 1) := by decide +kernel
theorem dX12_conditionComes_6 : decode cX12_conditionComes 6 = .ok (.iadd, 1) := by decide +kernel
theorem dX12_conditionComes_7 : decode cX12_conditionComes 7 = .ok (.iconst 4, 1) := by decide +kernel
theorem dX12_conditionComes_8 : decode cX12_conditionComes 8 = .ok (.iadd, 1) := by decide +kernel
theorem dX12_conditionComes_9 : decode cX12_conditionComes 9 = .ok (.iconst 3, 1) := by decide +kernel
theorem dX12_conditionComes_10 : decode cX12_conditionComes 10 = .ok (.aload_n 0, 1) := by decide +kernel
theorem dX12_conditionComes_11 : decode cX12_conditionComes 11 = .ok (.iload_n 1, 1) := by decide +kernel
theorem dX12_conditionComes_12 : decode cX12_conditionComes 12 = .ok (.iconst 3, 1) := by decide +kernel
theorem dX12_conditionComes_13 : decode cX12_conditionComes 13 = .ok (.invokevirtual 97, 3) := by decide +kernel
theorem dX12_conditionComes_16 : decode cX12_conditionComes 16 = .ok (.imul, 1) := by decide +kernel
theorem dX12_conditionComes_17 : decode cX12_conditionComes 17 = .ok (.iadd, 1) := by decide +kernel
theorem dX12_conditionComes_18 : decode cX12_conditionComes 18 = .ok (.istore 5, 2) := by decide +kernel
theorem dX12_conditionComes_20 : decode cX12_conditionComes 20 = .ok (.aload_n 0, 1) := by decide +kernel
theorem dX12_conditionComes_21 : decode cX12_conditionComes 21 = .ok (.getfield 7, 3) := by decide +kernel
theorem dX12_conditionComes_24 : decode cX12_conditionComes 24 = .ok (.iload 5, 2) := by decide +kernel
theorem dX12_conditionComes_26 : decode cX12_conditionComes 26 = .ok (.iload_n 2, 1) := by decide +kernel
theorem dX12_conditionComes_27 : decode cX12_conditionComes 27 = .ok (.iastore, 1) := by decide +kernel
theorem dX12_conditionComes_28 : decode cX12_conditionComes 28 = .ok (.aload_n 0, 1) := by decide +kernel
theorem dX12_conditionComes_29 : decode cX12_conditionComes 29 = .ok (.getfield 7, 3) := by decide +kernel
theorem dX12_conditionComes_32 : decode cX12_conditionComes 32 = .ok (.iload 5, 2) := by decide +kernel
theorem dX12_conditionComes_34 : decode cX12_conditionComes 34 = .ok (.iconst 1, 1) := by decide +kernel
theorem dX12_conditionComes_35 : decode cX12_conditionComes 35 = .ok (.iadd, 1) := by decide +kernel
theorem dX12_conditionComes_36 : decode cX12_conditionComes 36 = .ok (.iload_n 3, 1) := by decide +kernel
theorem dX12_conditionComes_37 : decode cX12_conditionComes 37 = .ok (.iastore, 1) := by decide +kernel
theorem dX12_conditionComes_38 : decode cX12_conditionComes 38 = .ok (.aload_n 0, 1) := by decide +kernel
theorem dX12_conditionComes_39 : decode cX12_conditionComes 39 = .ok (.getfield 7, 3) := by decide +kernel
theorem dX12_conditionComes_42 : decode cX12_conditionComes 42 = .ok (.iload 5, 2) := by decide +kernel
theorem dX12_conditionComes_44 : decode cX12_conditionComes 44 = .ok (.iconst 2, 1) := by decide +kernel
theorem dX12_conditionComes_45 : decode cX12_conditionComes 45 = .ok (.iadd, 1) := by decide +kernel
theorem dX12_conditionComes_46 : decode cX12_conditionComes 46 = .ok (.iload 4, 2) := by decide +kernel
theorem dX12_conditionComes_48 : decode cX12_conditionComes 48 = .ok (.iastore, 1) := by decide +kernel
theorem dX12_conditionComes_49 : decode cX12_conditionComes 49 = .ok (.aload_n 0, 1) := by decide +kernel
theorem dX12_conditionComes_50 : decode cX12_conditionComes 50 = .ok (.getfield 7, 3) := by decide +kernel
theorem dX12_conditionComes_53 : decode cX12_conditionComes 53 = .ok (.bipush 10, 2) := by decide +kernel
theorem dX12_conditionComes_55 : decode cX12_conditionComes 55 = .ok (.bipush 16, 2) := by decide +kernel
theorem dX12_conditionComes_57 : decode cX12_conditionComes 57 = .ok (.iload_n 1, 1) := by decide +kernel
theorem dX12_conditionComes_58 : decode cX12_conditionComes 58 = .ok (.imul, 1) := by decide +kernel
theorem dX12_conditionComes_59 : decode cX12_conditionComes 59 = .ok (.iadd, 1) := by decide +kernel
theorem dX12_conditionComes_60 : decode cX12_conditionComes 60 = .ok (.iconst 3, 1) := by decide +kernel
theorem dX12_conditionComes_61 : decode cX12_conditionComes 61 = .ok (.iadd, 1) := by decide +kernel
theorem dX12_conditionComes_62 : decode cX12_conditionComes 62 = .ok (.dup2, 1) := by decide +kernel
theorem dX12_conditionComes_63 : decode cX12_conditionComes 63 = .ok (.iaload, 1) := by decide +kernel
theorem dX12_conditionComes_64 : decode cX12_conditionComes 64 = .ok (.iconst 1, 1) := by decide +kernel
theorem dX12_conditionComes_65 : decode cX12_conditionComes 65 = .ok (.iadd, 1) := by decide +kernel
theorem dX12_conditionComes_66 : decode cX12_conditionComes 66 = .ok (.iastore, 1) := by decide +kernel
theorem dX12_conditionComes_67 : decode cX12_conditionComes 67 = .ok (.return_, 1) := by decide +kernel
set_option maxHeartbeats 4000000 in
set_option maxRecDepth 100000 in
theorem w_X12_conditionComes (l : Launch) (G : GP) (x : XP) (a1 : Int32) (a2 : Int32) (a3 : Int32) (a4 : Int32) (σ : Sto) (P : Sto → Prop) (h : D_X12_conditionComes a1 a2 a3 a4 σ P) : g_Metv l yX12_conditionComes cX12_conditionComes 6 rm_X12_conditionComes G x [.ref (g_ad G 87), .int a1, .int a2, .int a3, .int a4] σ P := by
  unfold D_X12_conditionComes at h
  refine g_ofWv (by decide +kernel) (Nat.le_of_ble_eq_true rfl) ?_
  intro p e s m args below meth c Q ls C hM hl hret
  have hx := C.1
  have hb := C.2.1
  have hl : lv_has ls 6 [(0, .ref (g_ad G 87)), (1, .int a1), (2, .int a2), (3, .int a3), (4, .int a4)] := hl
  refine lv_bipush (pc := 0) (v := 10) hx hb dX12_conditionComes_0 (by decide) ?_
  refine lv_bipush (pc := 2) (v := 16) hx hb dX12_conditionComes_2 (by decide) ?_
  refine lv_iload_n (pc := 4) hx hb dX12_conditionComes_4 rfl (lv_at hl 1 rfl) ?_
  refine lv_imul (pc := 5) hx hb dX12_conditionComes_5 ?_
  refine lv_iadd (pc := 6) hx hb dX12_conditionComes_6 ?_
  refine lv_iconst (pc := 7) (v := 4) hx hb dX12_conditionComes_7 (by decide) ?_
  refine lv_iadd (pc := 8) hx hb dX12_conditionComes_8 ?_
  refine lv_iconst (pc := 9) (v := 3) hx hb dX12_conditionComes_9 (by decide) ?_
  refine lv_aload_n (pc := 10) hx hb dX12_conditionComes_10 rfl (lv_at hl 0 rfl) ?_
  refine lv_iload_n (pc := 11) hx hb dX12_conditionComes_11 rfl (lv_at hl 1 rfl) ?_
  refine lv_iconst (pc := 12) (v := 3) hx hb dX12_conditionComes_12 (by decide) ?_
  refine g_cVi (pc := 13) C hM hl.1 yv_X12_of q6_131 (by decide) ce_87 rfl (w_X12_of l G x a1 3 σ _ h) rfl rfl ⟨⟨by decide, by decide⟩, by decide, by decide⟩ (Nat.le_of_ble_eq_true rfl) dX12_conditionComes_13 (fun r13 s13 H locs h hM => ?_)
  refine lv_imul (pc := 16) hx hb dX12_conditionComes_16 ?_
  refine lv_iadd (pc := 17) hx hb dX12_conditionComes_17 ?_
  refine lv_topi (fun v5_18 ev5_18 => ?_)
  have h := h v5_18 ev5_18
  refine lv_istore (pc := 18) (lv' := [(5, .int v5_18), (0, .ref (g_ad G 87)), (1, .int a1), (2, .int a2), (3, .int a3), (4, .int a4)]) hx hb dX12_conditionComes_18 hl (by decide) rfl (fun ls hl => ?_)
  refine lv_aload_n (pc := 20) hx hb dX12_conditionComes_20 rfl (lv_at hl 1 rfl) ?_
  refine g_get (pc := 21) (v := .ref (g_ad G 88)) C hM (by decide) ce_87 fl_RX12_7 rfl dX12_conditionComes_21 ?_
  refine lv_iload (pc := 24) hx hb dX12_conditionComes_24 (lv_at hl 0 rfl) ?_
  refine lv_iload_n (pc := 26) hx hb dX12_conditionComes_26 rfl (lv_at hl 3 rfl) ?_
  obtain ⟨hc, h⟩ := h
  refine g_iastE (pc := 27) C hM (by decide) ce_88 hc rfl dX12_conditionComes_27 (fun s27 es27 H locs hM => ?_)
  have h := h s27 es27
  refine lv_aload_n (pc := 28) hx hb dX12_conditionComes_28 rfl (lv_at hl 1 rfl) ?_
  refine g_get (pc := 29) (v := .ref (g_ad G 88)) C hM (by decide) ce_87 fl_RX12_7 rfl dX12_conditionComes_29 ?_
  refine lv_iload (pc := 32) hx hb dX12_conditionComes_32 (lv_at hl 0 rfl) ?_
  refine lv_iconst (pc := 34) (v := 1) hx hb dX12_conditionComes_34 (by decide) ?_
  refine lv_iadd (pc := 35) hx hb dX12_conditionComes_35 ?_
  refine lv_iload_n (pc := 36) hx hb dX12_conditionComes_36 rfl (lv_at hl 4 rfl) ?_
  obtain ⟨hc, h⟩ := h
  refine g_iastE (pc := 37) C hM (by decide) ce_88 hc rfl dX12_conditionComes_37 (fun s37 es37 H locs hM => ?_)
  have h := h s37 es37
  refine lv_aload_n (pc := 38) hx hb dX12_conditionComes_38 rfl (lv_at hl 1 rfl) ?_
  refine g_get (pc := 39) (v := .ref (g_ad G 88)) C hM (by decide) ce_87 fl_RX12_7 rfl dX12_conditionComes_39 ?_
  refine lv_iload (pc := 42) hx hb dX12_conditionComes_42 (lv_at hl 0 rfl) ?_
  refine lv_iconst (pc := 44) (v := 2) hx hb dX12_conditionComes_44 (by decide) ?_
  refine lv_iadd (pc := 45) hx hb dX12_conditionComes_45 ?_
  refine lv_iload (pc := 46) hx hb dX12_conditionComes_46 (lv_at hl 5 rfl) ?_
  obtain ⟨hc, h⟩ := h
  refine g_iastE (pc := 48) C hM (by decide) ce_88 hc rfl dX12_conditionComes_48 (fun s48 es48 H locs hM => ?_)
  have h := h s48 es48
  refine lv_aload_n (pc := 49) hx hb dX12_conditionComes_49 rfl (lv_at hl 1 rfl) ?_
  refine g_get (pc := 50) (v := .ref (g_ad G 88)) C hM (by decide) ce_87 fl_RX12_7 rfl dX12_conditionComes_50 ?_
  refine lv_bipush (pc := 53) (v := 10) hx hb dX12_conditionComes_53 (by decide) ?_
  refine lv_bipush (pc := 55) (v := 16) hx hb dX12_conditionComes_55 (by decide) ?_
  refine lv_iload_n (pc := 57) hx hb dX12_conditionComes_57 rfl (lv_at hl 2 rfl) ?_
  refine lv_imul (pc := 58) hx hb dX12_conditionComes_58 ?_
  refine lv_iadd (pc := 59) hx hb dX12_conditionComes_59 ?_
  refine lv_iconst (pc := 60) (v := 3) hx hb dX12_conditionComes_60 (by decide) ?_
  refine lv_iadd (pc := 61) hx hb dX12_conditionComes_61 ?_
  refine lv_dup2_11 (pc := 62) hx hb dX12_conditionComes_62 rfl rfl ?_
  obtain ⟨hc, h⟩ := h
  refine g_ialdK (pc := 63) C hM (by decide) ce_88 hc rfl dX12_conditionComes_63 ?_
  refine lv_iconst (pc := 64) (v := 1) hx hb dX12_conditionComes_64 (by decide) ?_
  refine lv_iadd (pc := 65) hx hb dX12_conditionComes_65 ?_
  obtain ⟨hc, h⟩ := h
  refine g_iastE (pc := 66) C hM (by decide) ce_88 hc rfl dX12_conditionComes_66 (fun s66 es66 H locs hM => ?_)
  have h := h s66 es66
  exact hret 67 _ _ _ _ dX12_conditionComes_67 h hM
abbrev rm_X12_addCondition : Room := { frames := 2, cells := 0, slots := 0, locals := 47 }
theorem dX12_addCondition_0 : decode cX12_addCondition 0 = .ok (.iload_n 2, 1) := by decide +kernel
theorem dX12_addCondition_1 : decode cX12_addCondition 1 = .ok (.invokestatic 101, 3) := by decide +kernel
theorem dX12_addCondition_4 : decode cX12_addCondition 4 = .ok (.ifCond .eq 46, 3) := by decide +kernel
theorem dX12_addCondition_7 : decode cX12_addCondition 7 = .ok (.iload_n 3, 1) := by decide +kernel
theorem dX12_addCondition_8 : decode cX12_addCondition 8 = .ok (.iconst 0, 1) := by decide +kernel
theorem dX12_addCondition_9 : decode cX12_addCondition 9 = .ok (.iconst 4, 1) := by decide +kernel
theorem dX12_addCondition_10 : decode cX12_addCondition 10 = .ok (.invokestatic 71, 3) := by decide +kernel
theorem dX12_addCondition_13 : decode cX12_addCondition 13 = .ok (.ifCond .eq 37, 3) := by decide +kernel
theorem dX12_addCondition_16 : decode cX12_addCondition 16 = .ok (.iload_n 3, 1) := by decide +kernel
theorem dX12_addCondition_17 : decode cX12_addCondition 17 = .ok (.iconst 4, 1) := by decide +kernel
theorem dX12_addCondition_18 : decode cX12_addCondition 18 = .ok (.if_icmp .ne 17, 3) := by decide +kernel
theorem dX12_addCondition_21 : decode cX12_addCondition 21 = .ok (.iload 4, 2) := by decide +kernel
theorem dX12_addCondition_23 : decode cX12_addCondition 23 = .ok (.iconst 1, 1) := by decide +kernel
theorem dX12_addCondition_24 : decode cX12_addCondition 24 = .ok (.ldc 104, 2) := by decide +kernel
theorem dX12_addCondition_26 : decode cX12_addCondition 26 = .ok (.invokestatic 71, 3) := by decide +kernel
theorem dX12_addCondition_29 : decode cX12_addCondition 29 = .ok (.ifCond .eq 21, 3) := by decide +kernel
theorem dX12_addCondition_32 : decode cX12_addCondition 32 = .ok (.goto 14, 3) := by decide +kernel
theorem dX12_addCondition_35 : decode cX12_addCondition 35 = .ok (.iload 4, 2) := by decide +kernel
theorem dX12_addCondition_37 : decode cX12_addCondition 37 = .ok (.iconst 0, 1) := by decide +kernel
theorem dX12_addCondition_38 : decode cX12_addCondition 38 = .ok (.bipush 15, 2) := by decide +kernel
theorem dX12_addCondition_40 : decode cX12_addCondition 40 = .ok (.invokestatic 71, 3) := by decide +kernel
theorem dX12_addCondition_43 : decode cX12_addCondition 43 = .ok (.ifCond .eq 7, 3) := by decide +kernel
theorem dX12_addCondition_46 : decode cX12_addCondition 46 = .ok (.iconst 1, 1) := by decide +kernel
theorem dX12_addCondition_47 : decode cX12_addCondition 47 = .ok (.goto 4, 3) := by decide +kernel
theorem dX12_addCondition_50 : decode cX12_addCondition 50 = .ok (.iconst 0, 1) := by decide +kernel
theorem dX12_addCondition_51 : decode cX12_addCondition 51 = .ok (.istore 5, 2) := by decide +kernel
theorem dX12_addCondition_53 : decode cX12_addCondition 53 = .ok (.aload_n 0, 1) := by decide +kernel
theorem dX12_addCondition_54 : decode cX12_addCondition 54 = .ok (.aload_n 0, 1) := by decide +kernel
theorem dX12_addCondition_55 : decode cX12_addCondition 55 = .ok (.iload_n 1, 1) := by decide +kernel
theorem dX12_addCondition_56 : decode cX12_addCondition 56 = .ok (.invokevirtual 105, 3) := by decide +kernel
theorem dX12_addCondition_59 : decode cX12_addCondition 59 = .ok (.ifCond .eq 30, 3) := by decide +kernel
theorem dX12_addCondition_62 : decode cX12_addCondition 62 = .ok (.iload 5, 2) := by decide +kernel
theorem dX12_addCondition_64 : decode cX12_addCondition 64 = .ok (.ifCond .eq 21, 3) := by decide +kernel
theorem dX12_addCondition_67 : decode cX12_addCondition 67 = .ok (.aload_n 0, 1) := by decide +kernel
theorem dX12_addCondition_68 : decode cX12_addCondition 68 = .ok (.iload_n 1, 1) := by decide +kernel
theorem dX12_addCondition_69 : decode cX12_addCondition 69 = .ok (.iconst 3, 1) := by decide +kernel
theorem dX12_addCondition_70 : decode cX12_addCondition 70 = .ok (.invokevirtual 97, 3) := by decide +kernel
theorem dX12_addCondition_73 : decode cX12_addCondition 73 = .ok (.iconst 4, 1) := by decide +kernel
theorem dX12_addCondition_74 : decode cX12_addCondition 74 = .ok (.if_icmp .ne 7, 3) := by decide +kernel
theorem dX12_addCondition_77 : decode cX12_addCondition 77 = .ok (.iconst 3, 1) := by decide +kernel
theorem dX12_addCondition_78 : decode cX12_addCondition 78 = .ok (.goto 12, 3) := by decide +kernel
theorem dX12_addCondition_81 : decode cX12_addCondition 81 = .ok (.iconst 0, 1) := by decide +kernel
theorem dX12_addCondition_82 : decode cX12_addCondition 82 = .ok (.goto 8, 3) := by decide +kernel
theorem dX12_addCondition_85 : decode cX12_addCondition 85 = .ok (.iconst 2, 1) := by decide +kernel
theorem dX12_addCondition_86 : decode cX12_addCondition 86 = .ok (.goto 4, 3) := by decide +kernel
theorem dX12_addCondition_89 : decode cX12_addCondition 89 = .ok (.iconst 1, 1) := by decide +kernel
theorem dX12_addCondition_90 : decode cX12_addCondition 90 = .ok (.putfield 68, 3) := by decide +kernel
theorem dX12_addCondition_93 : decode cX12_addCondition 93 = .ok (.aload_n 0, 1) := by decide +kernel
theorem dX12_addCondition_94 : decode cX12_addCondition 94 = .ok (.getfield 68, 3) := by decide +kernel
theorem dX12_addCondition_97 : decode cX12_addCondition 97 = .ok (.ifCond .le 5, 3) := by decide +kernel
theorem dX12_addCondition_100 : decode cX12_addCondition 100 = .ok (.iconst 0, 1) := by decide +kernel
theorem dX12_addCondition_101 : decode cX12_addCondition 101 = .ok (.ireturn, 1) := by decide +kernel
theorem dX12_addCondition_102 : decode cX12_addCondition 102 = .ok (.aload_n 0, 1) := by decide +kernel
theorem dX12_addCondition_103 : decode cX12_addCondition 103 = .ok (.invokevirtual 90, 3) := by decide +kernel
theorem dX12_addCondition_106 : decode cX12_addCondition 106 = .ok (.aload_n 0, 1) := by decide +kernel
theorem dX12_addCondition_107 : decode cX12_addCondition 107 = .ok (.iload_n 1, 1) := by decide +kernel
theorem dX12_addCondition_108 : decode cX12_addCondition 108 = .ok (.iload_n 2, 1) := by decide +kernel
theorem dX12_addCondition_109 : decode cX12_addCondition 109 = .ok (.iload_n 3, 1) := by decide +kernel
theorem dX12_addCondition_110 : decode cX12_addCondition 110 = .ok (.iload 4, 2) := by decide +kernel
theorem dX12_addCondition_112 : decode cX12_addCondition 112 = .ok (.invokevirtual 108, 3) := by decide +kernel
theorem dX12_addCondition_115 : decode cX12_addCondition 115 = .ok (.aload_n 0, 1) := by decide +kernel
theorem dX12_addCondition_116 : decode cX12_addCondition 116 = .ok (.iload_n 1, 1) := by decide +kernel
theorem dX12_addCondition_117 : decode cX12_addCondition 117 = .ok (.iconst 3, 1) := by decide +kernel
theorem dX12_addCondition_118 : decode cX12_addCondition 118 = .ok (.invokevirtual 97, 3) := by decide +kernel
theorem dX12_addCondition_121 : decode cX12_addCondition 121 = .ok (.ireturn, 1) := by decide +kernel
set_option maxHeartbeats 4000000 in
set_option maxRecDepth 100000 in
theorem w_X12_addCondition (l : Launch) (G : GP) (x : XP) (a1 : Int32) (a2 : Int32) (a3 : Int32) (a4 : Int32) (σ : Sto) (P : Int32 → Sto → Prop) (h : D_X12_addCondition a1 a2 a3 a4 σ P) : g_Meti l yX12_addCondition cX12_addCondition 6 (some .int) rm_X12_addCondition G x [.ref (g_ad G 87), .int a1, .int a2, .int a3, .int a4] σ P := by
  unfold D_X12_addCondition at h
  refine g_ofWi (by decide +kernel) (Nat.le_of_ble_eq_true rfl) ?_
  intro p e s m args below meth c Q ls C hM hl hret
  have hx := C.1
  have hb := C.2.1
  have hl : lv_has ls 6 [(0, .ref (g_ad G 87)), (1, .int a1), (2, .int a2), (3, .int a3), (4, .int a4)] := hl
  have h := h (fun (t0 : Int32) (σ : Sto) => ∀ (H : Heap) (locs : List Loc) (ls : Array Slot), g_M G x σ s H locs → lv_has ls 6 [(0, .ref (g_ad G 87)), (1, .int a1), (2, .int a2), (3, .int a3), (4, .int a4)] → W p l e rm_X12_addCondition s m args below meth c H locs 0 0 Q (F0 m 51 ls [.int t0])) (fun (t0 : Int32) (σ : Sto) => ∀ (H : Heap) (locs : List Loc) (ls : Array Slot), g_M G x σ s H locs → lv_has ls 6 [(0, .ref (g_ad G 87)), (1, .int a1), (2, .int a2), (3, .int a3), (4, .int a4)] → W p l e rm_X12_addCondition s m args below meth c H locs 0 0 Q (F0 m 90 ls [.int t0, .ref (g_ad G 87)]))
  have h := h (by
    intro t0 σ h  H locs ls hM hl
    refine lv_istore (pc := 51) (lv' := [(5, .int t0), (0, .ref (g_ad G 87)), (1, .int a1), (2, .int a2), (3, .int a3), (4, .int a4)]) hx hb dX12_addCondition_51 hl (by decide) rfl (fun ls hl => ?_)
    refine lv_aload_n (pc := 53) hx hb dX12_addCondition_53 rfl (lv_at hl 1 rfl) ?_
    refine lv_aload_n (pc := 54) hx hb dX12_addCondition_54 rfl (lv_at hl 1 rfl) ?_
    refine lv_iload_n (pc := 55) hx hb dX12_addCondition_55 rfl (lv_at hl 2 rfl) ?_
    refine g_cVi (pc := 56) C hM hl.1 yv_X12_isRule q6_127 (by decide) ce_87 rfl (w_X12_isRule l G x a1 σ _ h) rfl rfl ⟨⟨by decide, by decide⟩, by decide, by decide⟩ (Nat.le_of_ble_eq_true rfl) dX12_addCondition_56 (fun r56 s56 H locs h hM => ?_)
    refine lv_if_eq (pc := 59) (tgt := 89) hx hb dX12_addCondition_59 (by decide) (fun c59 => ?_) (fun c59 => ?_)
    · have h := h.1 c59
      refine lv_iconst (pc := 89) (v := 1) hx hb dX12_addCondition_89 (by decide) ?_
      exact h _ _ _ hM (lv_sub hl [1, 2, 3, 4, 5] rfl)
    · have h := h.2 c59
      refine lv_iload (pc := 62) hx hb dX12_addCondition_62 (lv_at hl 0 rfl) ?_
      refine lv_if_eq (pc := 64) (tgt := 85) hx hb dX12_addCondition_64 (by decide) (fun c64 => ?_) (fun c64 => ?_)
      · have h := h.1 c64
        refine lv_iconst (pc := 85) (v := 2) hx hb dX12_addCondition_85 (by decide) ?_
        refine lv_goto (pc := 86) (tgt := 90) hx hb dX12_addCondition_86 (by decide) ?_
        exact h _ _ _ hM (lv_sub hl [1, 2, 3, 4, 5] rfl)
      · have h := h.2 c64
        refine lv_aload_n (pc := 67) hx hb dX12_addCondition_67 rfl (lv_at hl 1 rfl) ?_
        refine lv_iload_n (pc := 68) hx hb dX12_addCondition_68 rfl (lv_at hl 2 rfl) ?_
        refine lv_iconst (pc := 69) (v := 3) hx hb dX12_addCondition_69 (by decide) ?_
        refine g_cVi (pc := 70) C hM hl.1 yv_X12_of q6_131 (by decide) ce_87 rfl (w_X12_of l G x a1 3 s56 _ h) rfl rfl ⟨⟨by decide, by decide⟩, by decide, by decide⟩ (Nat.le_of_ble_eq_true rfl) dX12_addCondition_70 (fun r70 s70 H locs h hM => ?_)
        refine lv_iconst (pc := 73) (v := 4) hx hb dX12_addCondition_73 (by decide) ?_
        refine lv_icmp_ne (pc := 74) (tgt := 81) hx hb dX12_addCondition_74 (by decide) (fun c74 => ?_) (fun c74 => ?_)
        · have h := h.2 c74
          refine lv_iconst (pc := 81) (v := 0) hx hb dX12_addCondition_81 (by decide) ?_
          refine lv_goto (pc := 82) (tgt := 90) hx hb dX12_addCondition_82 (by decide) ?_
          exact h _ _ _ hM (lv_sub hl [1, 2, 3, 4, 5] rfl)
        · have h := h.1 c74
          refine lv_iconst (pc := 77) (v := 3) hx hb dX12_addCondition_77 (by decide) ?_
          refine lv_goto (pc := 78) (tgt := 90) hx hb dX12_addCondition_78 (by decide) ?_
          exact h _ _ _ hM (lv_sub hl [1, 2, 3, 4, 5] rfl))
  have h := h (by
    intro t0 σ h  H locs ls hM hl
    refine g_putE (pc := 90) C hM (by decide) ce_87 fp_RX12_68 rfl rfl (Nat.le_of_ble_eq_true rfl) rfl dX12_addCondition_90 (fun s90 es90 H locs hM => ?_)
    have h := h s90 es90
    refine lv_aload_n (pc := 93) hx hb dX12_addCondition_93 rfl (lv_at hl 0 rfl) ?_
    refine g_get (pc := 94) (v := .int (s90 87 8)) C hM (by decide) ce_87 fl_RX12_68 rfl dX12_addCondition_94 ?_
    refine lv_if_le (pc := 97) (tgt := 102) hx hb dX12_addCondition_97 (by decide) (fun c97 => ?_) (fun c97 => ?_)
    · have h := h.1 c97
      refine lv_aload_n (pc := 102) hx hb dX12_addCondition_102 rfl (lv_at hl 0 rfl) ?_
      refine g_cVv (pc := 103) C hM hl.1 yv_X12_changes q6_111 (by decide) ce_87 rfl (w_X12_changes l G x  s90 _ h) rfl rfl ⟨⟨by decide, by decide⟩, by decide, by decide⟩ (Nat.le_of_ble_eq_true rfl) dX12_addCondition_103 (fun s103 H locs h hM => ?_)
      refine lv_aload_n (pc := 106) hx hb dX12_addCondition_106 rfl (lv_at hl 0 rfl) ?_
      refine lv_iload_n (pc := 107) hx hb dX12_addCondition_107 rfl (lv_at hl 1 rfl) ?_
      refine lv_iload_n (pc := 108) hx hb dX12_addCondition_108 rfl (lv_at hl 2 rfl) ?_
      refine lv_iload_n (pc := 109) hx hb dX12_addCondition_109 rfl (lv_at hl 3 rfl) ?_
      refine lv_iload (pc := 110) hx hb dX12_addCondition_110 (lv_at hl 4 rfl) ?_
      refine g_cVv (pc := 112) C hM hl.1 yv_X12_conditionComes q6_135 (by decide) ce_87 rfl (w_X12_conditionComes l G x a1 a2 a3 a4 s103 _ h) rfl rfl ⟨⟨by decide, by decide⟩, by decide, by decide⟩ (Nat.le_of_ble_eq_true rfl) dX12_addCondition_112 (fun s112 H locs h hM => ?_)
      refine lv_aload_n (pc := 115) hx hb dX12_addCondition_115 rfl (lv_at hl 0 rfl) ?_
      refine lv_iload_n (pc := 116) hx hb dX12_addCondition_116 rfl (lv_at hl 1 rfl) ?_
      refine lv_iconst (pc := 117) (v := 3) hx hb dX12_addCondition_117 (by decide) ?_
      refine g_cVi (pc := 118) C hM hl.1 yv_X12_of q6_131 (by decide) ce_87 rfl (w_X12_of l G x a1 3 s112 _ h) rfl rfl ⟨⟨by decide, by decide⟩, by decide, by decide⟩ (Nat.le_of_ble_eq_true rfl) dX12_addCondition_118 (fun r118 s118 H locs h hM => ?_)
      exact hret 121 _ _ _ _ _ dX12_addCondition_121 (by rfl) h hM
    · have h := h.2 c97
      refine lv_iconst (pc := 100) (v := 0) hx hb dX12_addCondition_100 (by decide) ?_
      exact hret 101 _ _ _ _ _ dX12_addCondition_101 (by rfl) h hM)
  refine lv_iload_n (pc := 0) hx hb dX12_addCondition_0 rfl (lv_at hl 2 rfl) ?_
  refine g_cSi (pc := 1) C hM hl.1 ys_X12_isAttribute q6_123 (w_X12_isAttribute l G x a2 σ _ h) rfl rfl ⟨⟨by decide, by decide⟩, by decide, by decide⟩ (Nat.le_of_ble_eq_true rfl) dX12_addCondition_1 (fun r1 s1 H locs h hM => ?_)
  refine lv_if_eq (pc := 4) (tgt := 50) hx hb dX12_addCondition_4 (by decide) (fun c4 => ?_) (fun c4 => ?_)
  · have h := h.1 c4
    refine lv_iconst (pc := 50) (v := 0) hx hb dX12_addCondition_50 (by decide) ?_
    exact h _ _ _ hM (lv_sub hl [0, 1, 2, 3, 4] rfl)
  · have h := h.2 c4
    refine lv_iload_n (pc := 7) hx hb dX12_addCondition_7 rfl (lv_at hl 3 rfl) ?_
    refine lv_iconst (pc := 8) (v := 0) hx hb dX12_addCondition_8 (by decide) ?_
    refine lv_iconst (pc := 9) (v := 4) hx hb dX12_addCondition_9 (by decide) ?_
    refine g_cSi (pc := 10) C hM hl.1 ys_X12_in q6_108 (w_X12_in l G x a3 0 4 s1 _ h) rfl rfl ⟨⟨by decide, by decide⟩, by decide, by decide⟩ (Nat.le_of_ble_eq_true rfl) dX12_addCondition_10 (fun r10 s10 H locs h hM => ?_)
    refine lv_if_eq (pc := 13) (tgt := 50) hx hb dX12_addCondition_13 (by decide) (fun c13 => ?_) (fun c13 => ?_)
    · have h := h.1 c13
      refine lv_iconst (pc := 50) (v := 0) hx hb dX12_addCondition_50 (by decide) ?_
      exact h _ _ _ hM (lv_sub hl [0, 1, 2, 3, 4] rfl)
    · have h := h.2 c13
      refine lv_iload_n (pc := 16) hx hb dX12_addCondition_16 rfl (lv_at hl 3 rfl) ?_
      refine lv_iconst (pc := 17) (v := 4) hx hb dX12_addCondition_17 (by decide) ?_
      refine lv_icmp_ne (pc := 18) (tgt := 35) hx hb dX12_addCondition_18 (by decide) (fun c18 => ?_) (fun c18 => ?_)
      · have h := h.2 c18
        refine lv_iload (pc := 35) hx hb dX12_addCondition_35 (lv_at hl 4 rfl) ?_
        refine lv_iconst (pc := 37) (v := 0) hx hb dX12_addCondition_37 (by decide) ?_
        refine lv_bipush (pc := 38) (v := 15) hx hb dX12_addCondition_38 (by decide) ?_
        refine g_cSi (pc := 40) C hM hl.1 ys_X12_in q6_108 (w_X12_in l G x a4 0 15 s10 _ h) rfl rfl ⟨⟨by decide, by decide⟩, by decide, by decide⟩ (Nat.le_of_ble_eq_true rfl) dX12_addCondition_40 (fun r40 s40 H locs h hM => ?_)
        refine lv_if_eq (pc := 43) (tgt := 50) hx hb dX12_addCondition_43 (by decide) (fun c43 => ?_) (fun c43 => ?_)
        · have h := h.1 c43
          refine lv_iconst (pc := 50) (v := 0) hx hb dX12_addCondition_50 (by decide) ?_
          exact h _ _ _ hM (lv_sub hl [0, 1, 2, 3, 4] rfl)
        · have h := h.2 c43
          refine lv_iconst (pc := 46) (v := 1) hx hb dX12_addCondition_46 (by decide) ?_
          refine lv_goto (pc := 47) (tgt := 51) hx hb dX12_addCondition_47 (by decide) ?_
          exact h _ _ _ hM (lv_sub hl [0, 1, 2, 3, 4] rfl)
      · have h := h.1 c18
        refine lv_iload (pc := 21) hx hb dX12_addCondition_21 (lv_at hl 4 rfl) ?_
        refine lv_iconst (pc := 23) (v := 1) hx hb dX12_addCondition_23 (by decide) ?_
        refine lv_ldc (pc := 24) (v := 65535) hx hb C.2.2.2.1 (C.2.2.2.2.1 _ q6_126) dX12_addCondition_24 ?_
        refine g_cSi (pc := 26) C hM hl.1 ys_X12_in q6_108 (w_X12_in l G x a4 1 65535 s10 _ h) rfl rfl ⟨⟨by decide, by decide⟩, by decide, by decide⟩ (Nat.le_of_ble_eq_true rfl) dX12_addCondition_26 (fun r26 s26 H locs h hM => ?_)
        refine lv_if_eq (pc := 29) (tgt := 50) hx hb dX12_addCondition_29 (by decide) (fun c29 => ?_) (fun c29 => ?_)
        · have h := h.1 c29
          refine lv_iconst (pc := 50) (v := 0) hx hb dX12_addCondition_50 (by decide) ?_
          exact h _ _ _ hM (lv_sub hl [0, 1, 2, 3, 4] rfl)
        · have h := h.2 c29
          refine lv_goto (pc := 32) (tgt := 46) hx hb dX12_addCondition_32 (by decide) ?_
          refine lv_iconst (pc := 46) (v := 1) hx hb dX12_addCondition_46 (by decide) ?_
          refine lv_goto (pc := 47) (tgt := 51) hx hb dX12_addCondition_47 (by decide) ?_
          exact h _ _ _ hM (lv_sub hl [0, 1, 2, 3, 4] rfl)
abbrev rm_X12_goes : Room := { frames := 0, cells := 0, slots := 0, locals := 0 }
theorem dX12_goes_0 : decode cX12_goes 0 = .ok (.aload_n 0, 1) := by decide +kernel
theorem dX12_goes_1 : decode cX12_goes 1 = .ok (.getfield 7, 3) := by decide +kernel
theorem dX12_goes_4 : decode cX12_goes 4 = .ok (.iconst 0, 1) := by decide +kernel
theorem dX12_goes_5 : decode cX12_goes 5 = .ok (.dup2, 1) := by decide +kernel
theorem dX12_goes_6 : decode cX12_goes 6 = .ok (.iaload, 1) := by decide +kernel
theorem dX12_goes_7 : decode cX12_goes 7 = .ok (.iconst 1, 1) := by decide +kernel
theorem dX12_goes_8 : decode cX12_goes 8 = .ok (.isub, 1) := by decide +kernel
theorem dX12_goes_9 : decode cX12_goes 9 = .ok (.iastore, 1) := by decide +kernel
theorem dX12_goes_10 : decode cX12_goes 10 = .ok (.bipush 10, 2) := by decide +kernel
theorem dX12_goes_12 : decode cX12_goes 12 = .ok (.bipush 16, 2) := by decide +kernel
theorem dX12_goes_14 : decode cX12_goes 14 = .ok (.iload_n 1, 1) := by decide +kernel
theorem dX12_goes_15 : decode cX12_goes 15 = .ok (.imul, 1) := by decide +kernel
theorem dX12_goes_16 : decode cX12_goes 16 = .ok (.iadd, 1) := by decide +kernel
theorem dX12_goes_17 : decode cX12_goes 17 = .ok (.istore_n 2, 1) := by decide +kernel
theorem dX12_goes_18 : decode cX12_goes 18 = .ok (.iload_n 2, 1) := by decide +kernel
theorem dX12_goes_19 : decode cX12_goes 19 = .ok (.bipush 10, 2) := by decide +kernel
theorem dX12_goes_21 : decode cX12_goes 21 = .ok (.bipush 16, 2) := by decide +kernel
theorem dX12_goes_23 : decode cX12_goes 23 = .ok (.aload_n 0, 1) := by decide +kernel
theorem dX12_goes_24 : decode cX12_goes 24 = .ok (.getfield 7, 3) := by decide +kernel
theorem dX12_goes_27 : decode cX12_goes 27 = .ok (.iconst 0, 1) := by decide +kernel
theorem dX12_goes_28 : decode cX12_goes 28 = .ok (.iaload, 1) := by decide +kernel
theorem dX12_goes_29 : decode cX12_goes 29 = .ok (.imul, 1) := by decide +kernel
theorem dX12_goes_30 : decode cX12_goes 30 = .ok (.iadd, 1) := by decide +kernel
theorem dX12_goes_31 : decode cX12_goes 31 = .ok (.if_icmp .ge 24, 3) := by decide +kernel
theorem dX12_goes_34 : decode cX12_goes 34 = .ok (.aload_n 0, 1) := by decide +kernel
theorem dX12_goes_35 : decode cX12_goes 35 = .ok (.getfield 7, 3) := by decide +kernel
theorem dX12_goes_38 : decode cX12_goes 38 = .ok (.iload_n 2, 1) := by decide +kernel
theorem dX12_goes_39 : decode cX12_goes 39 = .ok (.aload_n 0, 1) := by decide +kernel
theorem dX12_goes_40 : decode cX12_goes 40 = .ok (.getfield 7, 3) := by decide +kernel
theorem dX12_goes_43 : decode cX12_goes 43 = .ok (.iload_n 2, 1) := by decide +kernel
theorem dX12_goes_44 : decode cX12_goes 44 = .ok (.bipush 16, 2) := by decide +kernel
theorem dX12_goes_46 : decode cX12_goes 46 = .ok (.iadd, 1) := by decide +kernel
theorem dX12_goes_47 : decode cX12_goes 47 = .ok (.iaload, 1) := by decide +kernel
theorem dX12_goes_48 : decode cX12_goes 48 = .ok (.iastore, 1) := by decide +kernel
theorem dX12_goes_49 : decode cX12_goes 49 = .ok (.iinc 2 1, 3) := by decide +kernel
theorem dX12_goes_52 : decode cX12_goes 52 = .ok (.goto (-34), 3) := by decide +kernel
theorem dX12_goes_55 : decode cX12_goes 55 = .ok (.return_, 1) := by decide +kernel
set_option maxHeartbeats 4000000 in
set_option maxRecDepth 100000 in
theorem w_X12_goes (l : Launch) (G : GP) (x : XP) (a1 : Int32) (σ : Sto) (P : Sto → Prop) (h : D_X12_goes a1 σ P) : g_Metv l yX12_goes cX12_goes 3 rm_X12_goes G x [.ref (g_ad G 87), .int a1] σ P := by
  unfold D_X12_goes at h
  refine g_ofWv (by decide +kernel) (Nat.le_of_ble_eq_true rfl) ?_
  intro p e s m args below meth c Q ls C hM hl hret
  have hx := C.1
  have hb := C.2.1
  have hl : lv_has ls 3 [(0, .ref (g_ad G 87)), (1, .int a1)] := hl
  have h := h (fun (v2 : Int32) (σ : Sto) => ∀ (H : Heap) (locs : List Loc) (ls : Array Slot), g_M G x σ s H locs → lv_has ls 3 [(0, .ref (g_ad G 87)), (2, .int v2)] → W p l e rm_X12_goes s m args below meth c H locs 0 0 Q (F0 m 18 ls []))
  have h := h (by
    intro v2 σ h  H locs ls hM hl
    refine lv_iload_n (pc := 18) hx hb dX12_goes_18 rfl (lv_at hl 1 rfl) ?_
    refine lv_bipush (pc := 19) (v := 10) hx hb dX12_goes_19 (by decide) ?_
    refine lv_bipush (pc := 21) (v := 16) hx hb dX12_goes_21 (by decide) ?_
    refine lv_aload_n (pc := 23) hx hb dX12_goes_23 rfl (lv_at hl 0 rfl) ?_
    refine g_get (pc := 24) (v := .ref (g_ad G 88)) C hM (by decide) ce_87 fl_RX12_7 rfl dX12_goes_24 ?_
    refine lv_iconst (pc := 27) (v := 0) hx hb dX12_goes_27 (by decide) ?_
    refine g_ialdK (pc := 28) (k := 0) C hM (by decide) ce_88 (vp_in_nI (n := 0) (by decide) (by decide)) rfl dX12_goes_28 ?_
    refine lv_imul (pc := 29) hx hb dX12_goes_29 ?_
    refine lv_iadd (pc := 30) hx hb dX12_goes_30 ?_
    refine lv_icmp_ge (pc := 31) (tgt := 55) hx hb dX12_goes_31 (by decide) (fun c31 => ?_) (fun c31 => ?_)
    · have h := h.1 c31
      exact hret 55 _ _ _ _ dX12_goes_55 h hM
    · have h := h.2 c31
      refine lv_aload_n (pc := 34) hx hb dX12_goes_34 rfl (lv_at hl 0 rfl) ?_
      refine g_get (pc := 35) (v := .ref (g_ad G 88)) C hM (by decide) ce_87 fl_RX12_7 rfl dX12_goes_35 ?_
      refine lv_iload_n (pc := 38) hx hb dX12_goes_38 rfl (lv_at hl 1 rfl) ?_
      refine lv_aload_n (pc := 39) hx hb dX12_goes_39 rfl (lv_at hl 0 rfl) ?_
      refine g_get (pc := 40) (v := .ref (g_ad G 88)) C hM (by decide) ce_87 fl_RX12_7 rfl dX12_goes_40 ?_
      refine lv_iload_n (pc := 43) hx hb dX12_goes_43 rfl (lv_at hl 1 rfl) ?_
      refine lv_bipush (pc := 44) (v := 16) hx hb dX12_goes_44 (by decide) ?_
      refine lv_iadd (pc := 46) hx hb dX12_goes_46 ?_
      obtain ⟨hc, h⟩ := h
      refine g_ialdK (pc := 47) C hM (by decide) ce_88 hc rfl dX12_goes_47 ?_
      obtain ⟨hc, h⟩ := h
      refine g_iastE (pc := 48) C hM (by decide) ce_88 hc rfl dX12_goes_48 (fun s48 es48 H locs hM => ?_)
      have h := h s48 es48
      refine lv_iinc (pc := 49) (v := (v2 + 1)) (lv' := [(2, .int (v2 + 1)), (0, .ref (g_ad G 87))]) hx hb dX12_goes_49 hl (k := 1) rfl (by rfl) (by decide) rfl (fun ls hl => ?_)
      refine lv_goto (pc := 52) (tgt := 18) hx hb dX12_goes_52 (by decide) ?_
      exact h _ _ _ hM (lv_sub hl [1, 0] rfl))
  refine lv_aload_n (pc := 0) hx hb dX12_goes_0 rfl (lv_at hl 0 rfl) ?_
  refine g_get (pc := 1) (v := .ref (g_ad G 88)) C hM (by decide) ce_87 fl_RX12_7 rfl dX12_goes_1 ?_
  refine lv_iconst (pc := 4) (v := 0) hx hb dX12_goes_4 (by decide) ?_
  refine lv_dup2_11 (pc := 5) hx hb dX12_goes_5 rfl rfl ?_
  refine g_ialdK (pc := 6) (k := 0) C hM (by decide) ce_88 (vp_in_nI (n := 0) (by decide) (by decide)) rfl dX12_goes_6 ?_
  refine lv_iconst (pc := 7) (v := 1) hx hb dX12_goes_7 (by decide) ?_
  refine lv_isub (pc := 8) hx hb dX12_goes_8 ?_
  refine g_iastE (pc := 9) (k := 0) C hM (by decide) ce_88 (vp_in_nI (n := 0) (by decide) (by decide)) rfl dX12_goes_9 (fun s9 es9 H locs hM => ?_)
  have h := h s9 es9
  refine lv_bipush (pc := 10) (v := 10) hx hb dX12_goes_10 (by decide) ?_
  refine lv_bipush (pc := 12) (v := 16) hx hb dX12_goes_12 (by decide) ?_
  refine lv_iload_n (pc := 14) hx hb dX12_goes_14 rfl (lv_at hl 1 rfl) ?_
  refine lv_imul (pc := 15) hx hb dX12_goes_15 ?_
  refine lv_iadd (pc := 16) hx hb dX12_goes_16 ?_
  refine lv_istore_n (pc := 17) (lv' := [(2, .int (10 + (16 * a1))), (0, .ref (g_ad G 87)), (1, .int a1)]) hx hb dX12_goes_17 rfl hl (by decide) rfl (fun ls hl => ?_)
  exact h _ _ _ hM (lv_sub hl [1, 0] rfl)
abbrev rm_X12_removeRule : Room := { frames := 2, cells := 0, slots := 0, locals := 43 }
theorem dX12_removeRule_0 : decode cX12_removeRule 0 = .ok (.aload_n 0, 1) := by decide +kernel
theorem dX12_removeRule_1 : decode cX12_removeRule 1 = .ok (.iconst 0, 1) := by decide +kernel
theorem dX12_removeRule_2 : decode cX12_removeRule 2 = .ok (.putfield 68, 3) := by decide +kernel
theorem dX12_removeRule_5 : decode cX12_removeRule 5 = .ok (.aload_n 0, 1) := by decide +kernel
theorem dX12_removeRule_6 : decode cX12_removeRule 6 = .ok (.iload_n 1, 1) := by decide +kernel
theorem dX12_removeRule_7 : decode cX12_removeRule 7 = .ok (.invokevirtual 105, 3) := by decide +kernel
theorem dX12_removeRule_10 : decode cX12_removeRule 10 = .ok (.ifCond .ne 9, 3) := by decide +kernel
theorem dX12_removeRule_13 : decode cX12_removeRule 13 = .ok (.aload_n 0, 1) := by decide +kernel
theorem dX12_removeRule_14 : decode cX12_removeRule 14 = .ok (.iconst 1, 1) := by decide +kernel
theorem dX12_removeRule_15 : decode cX12_removeRule 15 = .ok (.invokevirtual 78, 3) := by decide +kernel
theorem dX12_removeRule_18 : decode cX12_removeRule 18 = .ok (.ireturn, 1) := by decide +kernel
theorem dX12_removeRule_19 : decode cX12_removeRule 19 = .ok (.aload_n 0, 1) := by decide +kernel
theorem dX12_removeRule_20 : decode cX12_removeRule 20 = .ok (.invokevirtual 90, 3) := by decide +kernel
theorem dX12_removeRule_23 : decode cX12_removeRule 23 = .ok (.aload_n 0, 1) := by decide +kernel
theorem dX12_removeRule_24 : decode cX12_removeRule 24 = .ok (.iload_n 1, 1) := by decide +kernel
theorem dX12_removeRule_25 : decode cX12_removeRule 25 = .ok (.invokevirtual 112, 3) := by decide +kernel
theorem dX12_removeRule_28 : decode cX12_removeRule 28 = .ok (.aload_n 0, 1) := by decide +kernel
theorem dX12_removeRule_29 : decode cX12_removeRule 29 = .ok (.getfield 7, 3) := by decide +kernel
theorem dX12_removeRule_32 : decode cX12_removeRule 32 = .ok (.iconst 0, 1) := by decide +kernel
theorem dX12_removeRule_33 : decode cX12_removeRule 33 = .ok (.iaload, 1) := by decide +kernel
theorem dX12_removeRule_34 : decode cX12_removeRule 34 = .ok (.ireturn, 1) := by decide +kernel
set_option maxHeartbeats 4000000 in
set_option maxRecDepth 100000 in
theorem w_X12_removeRule (l : Launch) (G : GP) (x : XP) (a1 : Int32) (σ : Sto) (P : Int32 → Sto → Prop) (h : D_X12_removeRule a1 σ P) : g_Meti l yX12_removeRule cX12_removeRule 2 (some .int) rm_X12_removeRule G x [.ref (g_ad G 87), .int a1] σ P := by
  unfold D_X12_removeRule at h
  refine g_ofWi (by decide +kernel) (Nat.le_of_ble_eq_true rfl) ?_
  intro p e s m args below meth c Q ls C hM hl hret
  have hx := C.1
  have hb := C.2.1
  have hl : lv_has ls 2 [(0, .ref (g_ad G 87)), (1, .int a1)] := hl
  refine lv_aload_n (pc := 0) hx hb dX12_removeRule_0 rfl (lv_at hl 0 rfl) ?_
  refine lv_iconst (pc := 1) (v := 0) hx hb dX12_removeRule_1 (by decide) ?_
  refine g_putE (pc := 2) C hM (by decide) ce_87 fp_RX12_68 rfl rfl (Nat.le_of_ble_eq_true rfl) rfl dX12_removeRule_2 (fun s2 es2 H locs hM => ?_)
  have h := h s2 es2
  refine lv_aload_n (pc := 5) hx hb dX12_removeRule_5 rfl (lv_at hl 0 rfl) ?_
  refine lv_iload_n (pc := 6) hx hb dX12_removeRule_6 rfl (lv_at hl 1 rfl) ?_
  refine g_cVi (pc := 7) C hM hl.1 yv_X12_isRule q6_127 (by decide) ce_87 rfl (w_X12_isRule l G x a1 s2 _ h) rfl rfl ⟨⟨by decide, by decide⟩, by decide, by decide⟩ (Nat.le_of_ble_eq_true rfl) dX12_removeRule_7 (fun r7 s7 H locs h hM => ?_)
  refine lv_if_ne (pc := 10) (tgt := 19) hx hb dX12_removeRule_10 (by decide) (fun c10 => ?_) (fun c10 => ?_)
  · have h := h.2 c10
    refine lv_aload_n (pc := 19) hx hb dX12_removeRule_19 rfl (lv_at hl 0 rfl) ?_
    refine g_cVv (pc := 20) C hM hl.1 yv_X12_changes q6_111 (by decide) ce_87 rfl (w_X12_changes l G x  s7 _ h) rfl rfl ⟨⟨by decide, by decide⟩, by decide, by decide⟩ (Nat.le_of_ble_eq_true rfl) dX12_removeRule_20 (fun s20 H locs h hM => ?_)
    refine lv_aload_n (pc := 23) hx hb dX12_removeRule_23 rfl (lv_at hl 0 rfl) ?_
    refine lv_iload_n (pc := 24) hx hb dX12_removeRule_24 rfl (lv_at hl 1 rfl) ?_
    refine g_cVv (pc := 25) C hM hl.1 yv_X12_goes q6_143 (by decide) ce_87 rfl (w_X12_goes l G x a1 s20 _ h) rfl rfl ⟨⟨by decide, by decide⟩, by decide, by decide⟩ (Nat.le_of_ble_eq_true rfl) dX12_removeRule_25 (fun s25 H locs h hM => ?_)
    refine lv_aload_n (pc := 28) hx hb dX12_removeRule_28 rfl (lv_at hl 0 rfl) ?_
    refine g_get (pc := 29) (v := .ref (g_ad G 88)) C hM (by decide) ce_87 fl_RX12_7 rfl dX12_removeRule_29 ?_
    refine lv_iconst (pc := 32) (v := 0) hx hb dX12_removeRule_32 (by decide) ?_
    refine g_ialdK (pc := 33) (k := 0) C hM (by decide) ce_88 (vp_in_nI (n := 0) (by decide) (by decide)) rfl dX12_removeRule_33 ?_
    exact hret 34 _ _ _ _ _ dX12_removeRule_34 (by rfl) h hM
  · have h := h.1 c10
    refine lv_aload_n (pc := 13) hx hb dX12_removeRule_13 rfl (lv_at hl 0 rfl) ?_
    refine lv_iconst (pc := 14) (v := 1) hx hb dX12_removeRule_14 (by decide) ?_
    refine g_cVi (pc := 15) C hM hl.1 yv_X12_fails q6_89 (by decide) ce_87 rfl (w_X12_fails l G x 1 s7 _ h) rfl rfl ⟨⟨by decide, by decide⟩, by decide, by decide⟩ (Nat.le_of_ble_eq_true rfl) dX12_removeRule_15 (fun r15 s15 H locs h hM => ?_)
    exact hret 18 _ _ _ _ _ dX12_removeRule_18 (by rfl) h hM
abbrev rm_X12_setPriority : Room := { frames := 2, cells := 0, slots := 0, locals := 43 }
theorem dX12_setPriority_0 : decode cX12_setPriority 0 = .ok (.aload_n 0, 1) := by decide +kernel
theorem dX12_setPriority_1 : decode cX12_setPriority 1 = .ok (.aload_n 0, 1) := by decide +kernel
theorem dX12_setPriority_2 : decode cX12_setPriority 2 = .ok (.iload_n 1, 1) := by decide +kernel
theorem dX12_setPriority_3 : decode cX12_setPriority 3 = .ok (.invokevirtual 105, 3) := by decide +kernel
theorem dX12_setPriority_6 : decode cX12_setPriority 6 = .ok (.ifCond .eq 21, 3) := by decide +kernel
theorem dX12_setPriority_9 : decode cX12_setPriority 9 = .ok (.iload_n 2, 1) := by decide +kernel
theorem dX12_setPriority_10 : decode cX12_setPriority 10 = .ok (.iconst 0, 1) := by decide +kernel
theorem dX12_setPriority_11 : decode cX12_setPriority 11 = .ok (.bipush 9, 2) := by decide +kernel
theorem dX12_setPriority_13 : decode cX12_setPriority 13 = .ok (.invokestatic 71, 3) := by decide +kernel
theorem dX12_setPriority_16 : decode cX12_setPriority 16 = .ok (.ifCond .eq 7, 3) := by decide +kernel
theorem dX12_setPriority_19 : decode cX12_setPriority 19 = .ok (.iconst 0, 1) := by decide +kernel
theorem dX12_setPriority_20 : decode cX12_setPriority 20 = .ok (.goto 8, 3) := by decide +kernel
theorem dX12_setPriority_23 : decode cX12_setPriority 23 = .ok (.iconst 2, 1) := by decide +kernel
theorem dX12_setPriority_24 : decode cX12_setPriority 24 = .ok (.goto 4, 3) := by decide +kernel
theorem dX12_setPriority_27 : decode cX12_setPriority 27 = .ok (.iconst 1, 1) := by decide +kernel
theorem dX12_setPriority_28 : decode cX12_setPriority 28 = .ok (.putfield 68, 3) := by decide +kernel
theorem dX12_setPriority_31 : decode cX12_setPriority 31 = .ok (.aload_n 0, 1) := by decide +kernel
theorem dX12_setPriority_32 : decode cX12_setPriority 32 = .ok (.getfield 68, 3) := by decide +kernel
theorem dX12_setPriority_35 : decode cX12_setPriority 35 = .ok (.ifCond .le 5, 3) := by decide +kernel
theorem dX12_setPriority_38 : decode cX12_setPriority 38 = .ok (.iconst 0, 1) := by decide +kernel
theorem dX12_setPriority_39 : decode cX12_setPriority 39 = .ok (.ireturn, 1) := by decide +kernel
theorem dX12_setPriority_40 : decode cX12_setPriority 40 = .ok (.aload_n 0, 1) := by decide +kernel
theorem dX12_setPriority_41 : decode cX12_setPriority 41 = .ok (.invokevirtual 90, 3) := by decide +kernel
theorem dX12_setPriority_44 : decode cX12_setPriority 44 = .ok (.aload_n 0, 1) := by decide +kernel
theorem dX12_setPriority_45 : decode cX12_setPriority 45 = .ok (.iload_n 1, 1) := by decide +kernel
theorem dX12_setPriority_46 : decode cX12_setPriority 46 = .ok (.iconst 2, 1) := by decide +kernel
theorem dX12_setPriority_47 : decode cX12_setPriority 47 = .ok (.invokevirtual 97, 3) := by decide +kernel
theorem dX12_setPriority_50 : decode cX12_setPriority 50 = .ok (.istore_n 3, 1) := by decide +kernel
theorem dX12_setPriority_51 : decode cX12_setPriority 51 = .ok (.aload_n 0, 1) := by decide +kernel
theorem dX12_setPriority_52 : decode cX12_setPriority 52 = .ok (.getfield 7, 3) := by decide +kernel
theorem dX12_setPriority_55 : decode cX12_setPriority 55 = .ok (.bipush 10, 2) := by decide +kernel
theorem dX12_setPriority_57 : decode cX12_setPriority 57 = .ok (.bipush 16, 2) := by decide +kernel
theorem dX12_setPriority_59 : decode cX12_setPriority 59 = .ok (.iload_n 1, 1) := by decide +kernel
theorem dX12_setPriority_60 : decode cX12_setPriority 60 = .ok (.imul, 1) := by decide +kernel
theorem dX12_setPriority_61 : decode cX12_setPriority 61 = .ok (.iadd, 1) := by decide +kernel
theorem dX12_setPriority_62 : decode cX12_setPriority 62 = .ok (.iconst 2, 1) := by decide +kernel
theorem dX12_setPriority_63 : decode cX12_setPriority 63 = .ok (.iadd, 1) := by decide +kernel
theorem dX12_setPriority_64 : decode cX12_setPriority 64 = .ok (.iload_n 2, 1) := by decide +kernel
theorem dX12_setPriority_65 : decode cX12_setPriority 65 = .ok (.iastore, 1) := by decide +kernel
theorem dX12_setPriority_66 : decode cX12_setPriority 66 = .ok (.iload_n 3, 1) := by decide +kernel
theorem dX12_setPriority_67 : decode cX12_setPriority 67 = .ok (.ireturn, 1) := by decide +kernel
set_option maxHeartbeats 4000000 in
set_option maxRecDepth 100000 in
theorem w_X12_setPriority (l : Launch) (G : GP) (x : XP) (a1 : Int32) (a2 : Int32) (σ : Sto) (P : Int32 → Sto → Prop) (h : D_X12_setPriority a1 a2 σ P) : g_Meti l yX12_setPriority cX12_setPriority 4 (some .int) rm_X12_setPriority G x [.ref (g_ad G 87), .int a1, .int a2] σ P := by
  unfold D_X12_setPriority at h
  refine g_ofWi (by decide +kernel) (Nat.le_of_ble_eq_true rfl) ?_
  intro p e s m args below meth c Q ls C hM hl hret
  have hx := C.1
  have hb := C.2.1
  have hl : lv_has ls 4 [(0, .ref (g_ad G 87)), (1, .int a1), (2, .int a2)] := hl
  have h := h (fun (t0 : Int32) (σ : Sto) => ∀ (H : Heap) (locs : List Loc) (ls : Array Slot), g_M G x σ s H locs → lv_has ls 4 [(0, .ref (g_ad G 87)), (1, .int a1), (2, .int a2)] → W p l e rm_X12_setPriority s m args below meth c H locs 0 0 Q (F0 m 28 ls [.int t0, .ref (g_ad G 87)]))
  have h := h (by
    intro t0 σ h  H locs ls hM hl
    refine g_putE (pc := 28) C hM (by decide) ce_87 fp_RX12_68 rfl rfl (Nat.le_of_ble_eq_true rfl) rfl dX12_setPriority_28 (fun s28 es28 H locs hM => ?_)
    have h := h s28 es28
    refine lv_aload_n (pc := 31) hx hb dX12_setPriority_31 rfl (lv_at hl 0 rfl) ?_
    refine g_get (pc := 32) (v := .int (s28 87 8)) C hM (by decide) ce_87 fl_RX12_68 rfl dX12_setPriority_32 ?_
    refine lv_if_le (pc := 35) (tgt := 40) hx hb dX12_setPriority_35 (by decide) (fun c35 => ?_) (fun c35 => ?_)
    · have h := h.1 c35
      refine lv_aload_n (pc := 40) hx hb dX12_setPriority_40 rfl (lv_at hl 0 rfl) ?_
      refine g_cVv (pc := 41) C hM hl.1 yv_X12_changes q6_111 (by decide) ce_87 rfl (w_X12_changes l G x  s28 _ h) rfl rfl ⟨⟨by decide, by decide⟩, by decide, by decide⟩ (Nat.le_of_ble_eq_true rfl) dX12_setPriority_41 (fun s41 H locs h hM => ?_)
      refine lv_aload_n (pc := 44) hx hb dX12_setPriority_44 rfl (lv_at hl 0 rfl) ?_
      refine lv_iload_n (pc := 45) hx hb dX12_setPriority_45 rfl (lv_at hl 1 rfl) ?_
      refine lv_iconst (pc := 46) (v := 2) hx hb dX12_setPriority_46 (by decide) ?_
      refine g_cVi (pc := 47) C hM hl.1 yv_X12_of q6_131 (by decide) ce_87 rfl (w_X12_of l G x a1 2 s41 _ h) rfl rfl ⟨⟨by decide, by decide⟩, by decide, by decide⟩ (Nat.le_of_ble_eq_true rfl) dX12_setPriority_47 (fun r47 s47 H locs h hM => ?_)
      refine lv_istore_n (pc := 50) (lv' := [(3, .int r47), (0, .ref (g_ad G 87)), (1, .int a1), (2, .int a2)]) hx hb dX12_setPriority_50 rfl hl (by decide) rfl (fun ls hl => ?_)
      refine lv_aload_n (pc := 51) hx hb dX12_setPriority_51 rfl (lv_at hl 1 rfl) ?_
      refine g_get (pc := 52) (v := .ref (g_ad G 88)) C hM (by decide) ce_87 fl_RX12_7 rfl dX12_setPriority_52 ?_
      refine lv_bipush (pc := 55) (v := 10) hx hb dX12_setPriority_55 (by decide) ?_
      refine lv_bipush (pc := 57) (v := 16) hx hb dX12_setPriority_57 (by decide) ?_
      refine lv_iload_n (pc := 59) hx hb dX12_setPriority_59 rfl (lv_at hl 2 rfl) ?_
      refine lv_imul (pc := 60) hx hb dX12_setPriority_60 ?_
      refine lv_iadd (pc := 61) hx hb dX12_setPriority_61 ?_
      refine lv_iconst (pc := 62) (v := 2) hx hb dX12_setPriority_62 (by decide) ?_
      refine lv_iadd (pc := 63) hx hb dX12_setPriority_63 ?_
      refine lv_iload_n (pc := 64) hx hb dX12_setPriority_64 rfl (lv_at hl 3 rfl) ?_
      obtain ⟨hc, h⟩ := h
      refine g_iastE (pc := 65) C hM (by decide) ce_88 hc rfl dX12_setPriority_65 (fun s65 es65 H locs hM => ?_)
      have h := h s65 es65
      refine lv_iload_n (pc := 66) hx hb dX12_setPriority_66 rfl (lv_at hl 0 rfl) ?_
      exact hret 67 _ _ _ _ _ dX12_setPriority_67 (by rfl) h hM
    · have h := h.2 c35
      refine lv_iconst (pc := 38) (v := 0) hx hb dX12_setPriority_38 (by decide) ?_
      exact hret 39 _ _ _ _ _ dX12_setPriority_39 (by rfl) h hM)
  refine lv_aload_n (pc := 0) hx hb dX12_setPriority_0 rfl (lv_at hl 0 rfl) ?_
  refine lv_aload_n (pc := 1) hx hb dX12_setPriority_1 rfl (lv_at hl 0 rfl) ?_
  refine lv_iload_n (pc := 2) hx hb dX12_setPriority_2 rfl (lv_at hl 1 rfl) ?_
  refine g_cVi (pc := 3) C hM hl.1 yv_X12_isRule q6_127 (by decide) ce_87 rfl (w_X12_isRule l G x a1 σ _ h) rfl rfl ⟨⟨by decide, by decide⟩, by decide, by decide⟩ (Nat.le_of_ble_eq_true rfl) dX12_setPriority_3 (fun r3 s3 H locs h hM => ?_)
  refine lv_if_eq (pc := 6) (tgt := 27) hx hb dX12_setPriority_6 (by decide) (fun c6 => ?_) (fun c6 => ?_)
  · have h := h.1 c6
    refine lv_iconst (pc := 27) (v := 1) hx hb dX12_setPriority_27 (by decide) ?_
    exact h _ _ _ hM (lv_sub hl [0, 1, 2] rfl)
  · have h := h.2 c6
    refine lv_iload_n (pc := 9) hx hb dX12_setPriority_9 rfl (lv_at hl 2 rfl) ?_
    refine lv_iconst (pc := 10) (v := 0) hx hb dX12_setPriority_10 (by decide) ?_
    refine lv_bipush (pc := 11) (v := 9) hx hb dX12_setPriority_11 (by decide) ?_
    refine g_cSi (pc := 13) C hM hl.1 ys_X12_in q6_108 (w_X12_in l G x a2 0 9 s3 _ h) rfl rfl ⟨⟨by decide, by decide⟩, by decide, by decide⟩ (Nat.le_of_ble_eq_true rfl) dX12_setPriority_13 (fun r13 s13 H locs h hM => ?_)
    refine lv_if_eq (pc := 16) (tgt := 23) hx hb dX12_setPriority_16 (by decide) (fun c16 => ?_) (fun c16 => ?_)
    · have h := h.1 c16
      refine lv_iconst (pc := 23) (v := 2) hx hb dX12_setPriority_23 (by decide) ?_
      refine lv_goto (pc := 24) (tgt := 28) hx hb dX12_setPriority_24 (by decide) ?_
      exact h _ _ _ hM (lv_sub hl [0, 1, 2] rfl)
    · have h := h.2 c16
      refine lv_iconst (pc := 19) (v := 0) hx hb dX12_setPriority_19 (by decide) ?_
      refine lv_goto (pc := 20) (tgt := 28) hx hb dX12_setPriority_20 (by decide) ?_
      exact h _ _ _ hM (lv_sub hl [0, 1, 2] rfl)
