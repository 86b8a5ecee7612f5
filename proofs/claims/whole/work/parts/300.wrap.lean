abbrev rm_L_addRule : Room := { frames := 8, cells := 3, slots := 18, locals := 144 }
theorem dL_addRule_0 : decode cL_addRule 0 = .ok (.aload 4, 2) := by decide +kernel
theorem dL_addRule_2 : decode cL_addRule 2 = .ok (.iconst 0, 1) := by decide +kernel
theorem dL_addRule_3 : decode cL_addRule 3 = .ok (.aload_n 0, 1) := by decide +kernel
theorem dL_addRule_4 : decode cL_addRule 4 = .ok (.iload_n 1, 1) := by decide +kernel
theorem dL_addRule_5 : decode cL_addRule 5 = .ok (.iload_n 2, 1) := by decide +kernel
theorem dL_addRule_6 : decode cL_addRule 6 = .ok (.iload_n 3, 1) := by decide +kernel
theorem dL_addRule_7 : decode cL_addRule 7 = .ok (.invokevirtual 7, 3) := by decide +kernel
theorem dL_addRule_10 : decode cL_addRule 10 = .ok (.i2l, 1) := by decide +kernel
theorem dL_addRule_11 : decode cL_addRule 11 = .ok (.lastore, 1) := by decide +kernel
theorem dL_addRule_12 : decode cL_addRule 12 = .ok (.goto 15, 3) := by decide +kernel
theorem dL_addRule_15 : decode cL_addRule 15 = .ok (.astore 5, 2) := by decide +kernel
theorem dL_addRule_17 : decode cL_addRule 17 = .ok (.iconst 1, 1) := by decide +kernel
theorem dL_addRule_18 : decode cL_addRule 18 = .ok (.ireturn, 1) := by decide +kernel
theorem dL_addRule_19 : decode cL_addRule 19 = .ok (.astore 5, 2) := by decide +kernel
theorem dL_addRule_21 : decode cL_addRule 21 = .ok (.iconst 2, 1) := by decide +kernel
theorem dL_addRule_22 : decode cL_addRule 22 = .ok (.ireturn, 1) := by decide +kernel
theorem dL_addRule_23 : decode cL_addRule 23 = .ok (.astore 5, 2) := by decide +kernel
theorem dL_addRule_25 : decode cL_addRule 25 = .ok (.iconst 3, 1) := by decide +kernel
theorem dL_addRule_26 : decode cL_addRule 26 = .ok (.ireturn, 1) := by decide +kernel
theorem dL_addRule_27 : decode cL_addRule 27 = .ok (.iconst 0, 1) := by decide +kernel
theorem dL_addRule_28 : decode cL_addRule 28 = .ok (.ireturn, 1) := by decide +kernel
set_option maxHeartbeats 4000000 in
set_option maxRecDepth 100000 in
theorem w_L_addRule (l : Launch) (hl0 : l.stackTraces = false) (G : GP) (a1 : Int32) (a2 : Int32) (a3 : Int32) (σ : Sto) (x : XP) (P : Int32 → Sto × XP → Prop) (h : D_L_addRule a1 a2 a3 σ x P) : g_Metw l yL_addRule cL_addRule 6 [(0, 12, 15, 13), (0, 12, 19, 15), (0, 12, 23, 17)] rm_L_addRule G [.ref (g_ad G 60), .int a1, .int a2, .int a3, .ref (g_ad G 106)] σ x P := by
  unfold D_L_addRule at h
  refine g_ofWw (by decide +kernel) (Nat.le_of_ble_eq_true rfl) ?_
  intro p e s m args below meth c Q ls C htab hM hl hret
  have hx := C.1
  have hb := C.2.1
  have hw := C.2.2.2.2.2.2.2.2.2.2.2
  have hl : lv_has ls 6 [(0, .ref (g_ad G 60)), (1, .int a1), (2, .int a2), (3, .int a3), (4, .ref (g_ad G 106))] := hl
  refine lv_aload (pc := 0) hx hb dL_addRule_0 (lv_at hl 4 rfl) ?_
  refine lv_iconst (pc := 2) (v := 0) hx hb dL_addRule_2 (by decide) ?_
  refine lv_aload_n (pc := 3) hx hb dL_addRule_3 rfl (lv_at hl 0 rfl) ?_
  refine lv_iload_n (pc := 4) hx hb dL_addRule_4 rfl (lv_at hl 1 rfl) ?_
  refine lv_iload_n (pc := 5) hx hb dL_addRule_5 rfl (lv_at hl 2 rfl) ?_
  refine lv_iload_n (pc := 6) hx hb dL_addRule_6 rfl (lv_at hl 3 rfl) ?_
  refine g_wVi (pc := 7) C hM hl.1 yv_X11_addRule q2_187 (by decide) ce_60 rfl (w_X11_addRule l hl0 G x a1 a2 a3 σ _ _ h) rfl rfl ⟨⟨by decide, by decide⟩, by decide, by decide⟩ (Nat.le_of_ble_eq_true rfl) dL_addRule_7 (fun E ce q9 s7 H locs h hM h1 h2 h3 => ?_) (fun r s7 H locs h hM => ?_)
  · rcases h with ⟨rfl, h⟩ | ⟨rfl, h⟩ | ⟨rfl, h⟩
    · refine vx_catch (own := RL) (name := "java/lang/IndexOutOfBoundsException") C.2.2.2.1 [] ⟨0, 12, 15, 13⟩ [⟨0, 12, 19, 15⟩, ⟨0, 12, 23, 17⟩] (htab.trans rfl) (fun _ h => absurd h List.not_mem_nil) (by decide) (by decide) (C.2.2.2.2.1 _ q2_106) (va_Nw.use rfl (hw.1 _ (List.mem_of_getElem? (i := 0) rfl))) h1 h2 h3 ?_
      refine W.eq (g2 := F0 m 15 ls [.ref q9]) rfl ?_
      refine lv_astore (pc := 15) (lv' := [(5, .ref q9), (0, .ref (g_ad G 60)), (1, .int a1), (2, .int a2), (3, .int a3), (4, .ref (g_ad G 106))]) hx hb dL_addRule_15 hl (by decide) rfl (fun ls hl => ?_)
      refine lv_iconst (pc := 17) (v := 1) hx hb dL_addRule_17 (by decide) ?_
      refine W.widen (k := 3) (n := 18) (by decide) (by decide) ?_
      exact hret 18 _ _ _ _ s7 x dL_addRule_18 h hM
    · refine vx_catch (own := RL) (name := "java/lang/IllegalArgumentException") C.2.2.2.1 [⟨0, 12, 15, 13⟩] ⟨0, 12, 19, 15⟩ [⟨0, 12, 23, 17⟩] (htab.trans rfl) (List.forall_mem_cons.mpr ⟨Or.inr ⟨by decide, "java/lang/IndexOutOfBoundsException", C.2.2.2.2.1 _ q2_106, hw.2.2 _ (List.mem_of_getElem? (i := 0) rfl)⟩, fun _ h => absurd h List.not_mem_nil⟩) (by decide) (by decide) (C.2.2.2.2.1 _ q2_185) (va_Nw.use rfl (hw.1 _ (List.mem_of_getElem? (i := 1) rfl))) h1 h2 h3 ?_
      refine W.eq (g2 := F0 m 19 ls [.ref q9]) rfl ?_
      refine lv_astore (pc := 19) (lv' := [(5, .ref q9), (0, .ref (g_ad G 60)), (1, .int a1), (2, .int a2), (3, .int a3), (4, .ref (g_ad G 106))]) hx hb dL_addRule_19 hl (by decide) rfl (fun ls hl => ?_)
      refine lv_iconst (pc := 21) (v := 2) hx hb dL_addRule_21 (by decide) ?_
      refine W.widen (k := 3) (n := 18) (by decide) (by decide) ?_
      exact hret 22 _ _ _ _ s7 x dL_addRule_22 h hM
    · refine vx_catch (own := RL) (name := "java/lang/IllegalStateException") C.2.2.2.1 [⟨0, 12, 15, 13⟩, ⟨0, 12, 19, 15⟩] ⟨0, 12, 23, 17⟩ [] (htab.trans rfl) (List.forall_mem_cons.mpr ⟨Or.inr ⟨by decide, "java/lang/IndexOutOfBoundsException", C.2.2.2.2.1 _ q2_106, hw.2.2 _ (List.mem_of_getElem? (i := 1) rfl)⟩, List.forall_mem_cons.mpr ⟨Or.inr ⟨by decide, "java/lang/IllegalArgumentException", C.2.2.2.2.1 _ q2_185, hw.2.2 _ (List.mem_of_getElem? (i := 2) rfl)⟩, fun _ h => absurd h List.not_mem_nil⟩⟩) (by decide) (by decide) (C.2.2.2.2.1 _ q2_186) (va_Nw.use rfl (hw.1 _ (List.mem_of_getElem? (i := 2) rfl))) h1 h2 h3 ?_
      refine W.eq (g2 := F0 m 23 ls [.ref q9]) rfl ?_
      refine lv_astore (pc := 23) (lv' := [(5, .ref q9), (0, .ref (g_ad G 60)), (1, .int a1), (2, .int a2), (3, .int a3), (4, .ref (g_ad G 106))]) hx hb dL_addRule_23 hl (by decide) rfl (fun ls hl => ?_)
      refine lv_iconst (pc := 25) (v := 3) hx hb dL_addRule_25 (by decide) ?_
      refine W.widen (k := 3) (n := 18) (by decide) (by decide) ?_
      exact hret 26 _ _ _ _ s7 x dL_addRule_26 h hM
  · refine lv_i2l (pc := 10) (v := r.toInt64) hx hb dL_addRule_10 rfl ?_
    refine g_last (pc := 11) C hM dL_addRule_11 (fun H locs hM => ?_)
    refine lv_goto (pc := 12) (tgt := 27) hx hb dL_addRule_12 (by decide) ?_
    refine lv_iconst (pc := 27) (v := 0) hx hb dL_addRule_27 (by decide) ?_
    refine W.widen (k := 3) (n := 18) (by decide) (by decide) ?_
    exact hret 28 _ _ _ _ s7 (r.toInt64, x.2) dL_addRule_28 h hM
abbrev rm_L_addCondition : Room := { frames := 9, cells := 3, slots := 18, locals := 166 }
theorem dL_addCondition_0 : decode cL_addCondition 0 = .ok (.aload 5, 2) := by decide +kernel
theorem dL_addCondition_2 : decode cL_addCondition 2 = .ok (.iconst 0, 1) := by decide +kernel
theorem dL_addCondition_3 : decode cL_addCondition 3 = .ok (.aload_n 0, 1) := by decide +kernel
theorem dL_addCondition_4 : decode cL_addCondition 4 = .ok (.iload_n 1, 1) := by decide +kernel
theorem dL_addCondition_5 : decode cL_addCondition 5 = .ok (.iload_n 2, 1) := by decide +kernel
theorem dL_addCondition_6 : decode cL_addCondition 6 = .ok (.iload_n 3, 1) := by decide +kernel
theorem dL_addCondition_7 : decode cL_addCondition 7 = .ok (.iload 4, 2) := by decide +kernel
theorem dL_addCondition_9 : decode cL_addCondition 9 = .ok (.invokevirtual 19, 3) := by decide +kernel
theorem dL_addCondition_12 : decode cL_addCondition 12 = .ok (.i2l, 1) := by decide +kernel
theorem dL_addCondition_13 : decode cL_addCondition 13 = .ok (.lastore, 1) := by decide +kernel
theorem dL_addCondition_14 : decode cL_addCondition 14 = .ok (.goto 15, 3) := by decide +kernel
theorem dL_addCondition_17 : decode cL_addCondition 17 = .ok (.astore 6, 2) := by decide +kernel
theorem dL_addCondition_19 : decode cL_addCondition 19 = .ok (.iconst 1, 1) := by decide +kernel
theorem dL_addCondition_20 : decode cL_addCondition 20 = .ok (.ireturn, 1) := by decide +kernel
theorem dL_addCondition_21 : decode cL_addCondition 21 = .ok (.astore 6, 2) := by decide +kernel
theorem dL_addCondition_23 : decode cL_addCondition 23 = .ok (.iconst 2, 1) := by decide +kernel
theorem dL_addCondition_24 : decode cL_addCondition 24 = .ok (.ireturn, 1) := by decide +kernel
theorem dL_addCondition_25 : decode cL_addCondition 25 = .ok (.astore 6, 2) := by decide +kernel
theorem dL_addCondition_27 : decode cL_addCondition 27 = .ok (.iconst 3, 1) := by decide +kernel
theorem dL_addCondition_28 : decode cL_addCondition 28 = .ok (.ireturn, 1) := by decide +kernel
theorem dL_addCondition_29 : decode cL_addCondition 29 = .ok (.iconst 0, 1) := by decide +kernel
theorem dL_addCondition_30 : decode cL_addCondition 30 = .ok (.ireturn, 1) := by decide +kernel
set_option maxHeartbeats 4000000 in
set_option maxRecDepth 100000 in
theorem w_L_addCondition (l : Launch) (hl0 : l.stackTraces = false) (G : GP) (a1 : Int32) (a2 : Int32) (a3 : Int32) (a4 : Int32) (σ : Sto) (x : XP) (P : Int32 → Sto × XP → Prop) (h : D_L_addCondition a1 a2 a3 a4 σ x P) : g_Metw l yL_addCondition cL_addCondition 7 [(0, 14, 17, 13), (0, 14, 21, 15), (0, 14, 25, 17)] rm_L_addCondition G [.ref (g_ad G 60), .int a1, .int a2, .int a3, .int a4, .ref (g_ad G 106)] σ x P := by
  unfold D_L_addCondition at h
  refine g_ofWw (by decide +kernel) (Nat.le_of_ble_eq_true rfl) ?_
  intro p e s m args below meth c Q ls C htab hM hl hret
  have hx := C.1
  have hb := C.2.1
  have hw := C.2.2.2.2.2.2.2.2.2.2.2
  have hl : lv_has ls 7 [(0, .ref (g_ad G 60)), (1, .int a1), (2, .int a2), (3, .int a3), (4, .int a4), (5, .ref (g_ad G 106))] := hl
  refine lv_aload (pc := 0) hx hb dL_addCondition_0 (lv_at hl 5 rfl) ?_
  refine lv_iconst (pc := 2) (v := 0) hx hb dL_addCondition_2 (by decide) ?_
  refine lv_aload_n (pc := 3) hx hb dL_addCondition_3 rfl (lv_at hl 0 rfl) ?_
  refine lv_iload_n (pc := 4) hx hb dL_addCondition_4 rfl (lv_at hl 1 rfl) ?_
  refine lv_iload_n (pc := 5) hx hb dL_addCondition_5 rfl (lv_at hl 2 rfl) ?_
  refine lv_iload_n (pc := 6) hx hb dL_addCondition_6 rfl (lv_at hl 3 rfl) ?_
  refine lv_iload (pc := 7) hx hb dL_addCondition_7 (lv_at hl 4 rfl) ?_
  refine g_wVi (pc := 9) C hM hl.1 yv_X11_addCondition q3_30 (by decide) ce_60 rfl (w_X11_addCondition l hl0 G x a1 a2 a3 a4 σ _ _ h) rfl rfl ⟨⟨by decide, by decide⟩, by decide, by decide⟩ (Nat.le_of_ble_eq_true rfl) dL_addCondition_9 (fun E ce q9 s7 H locs h hM h1 h2 h3 => ?_) (fun r s7 H locs h hM => ?_)
  · rcases h with ⟨rfl, h⟩ | ⟨rfl, h⟩ | ⟨rfl, h⟩
    · refine vx_catch (own := RL) (name := "java/lang/IndexOutOfBoundsException") C.2.2.2.1 [] ⟨0, 14, 17, 13⟩ [⟨0, 14, 21, 15⟩, ⟨0, 14, 25, 17⟩] (htab.trans rfl) (fun _ h => absurd h List.not_mem_nil) (by decide) (by decide) (C.2.2.2.2.1 _ q2_106) (va_Nw.use rfl (hw.1 _ (List.mem_of_getElem? (i := 0) rfl))) h1 h2 h3 ?_
      refine W.eq (g2 := F0 m 17 ls [.ref q9]) rfl ?_
      refine lv_astore (pc := 17) (lv' := [(6, .ref q9), (0, .ref (g_ad G 60)), (1, .int a1), (2, .int a2), (3, .int a3), (4, .int a4), (5, .ref (g_ad G 106))]) hx hb dL_addCondition_17 hl (by decide) rfl (fun ls hl => ?_)
      refine lv_iconst (pc := 19) (v := 1) hx hb dL_addCondition_19 (by decide) ?_
      refine W.widen (k := 3) (n := 18) (by decide) (by decide) ?_
      exact hret 20 _ _ _ _ s7 x dL_addCondition_20 h hM
    · refine vx_catch (own := RL) (name := "java/lang/IllegalArgumentException") C.2.2.2.1 [⟨0, 14, 17, 13⟩] ⟨0, 14, 21, 15⟩ [⟨0, 14, 25, 17⟩] (htab.trans rfl) (List.forall_mem_cons.mpr ⟨Or.inr ⟨by decide, "java/lang/IndexOutOfBoundsException", C.2.2.2.2.1 _ q2_106, hw.2.2 _ (List.mem_of_getElem? (i := 0) rfl)⟩, fun _ h => absurd h List.not_mem_nil⟩) (by decide) (by decide) (C.2.2.2.2.1 _ q2_185) (va_Nw.use rfl (hw.1 _ (List.mem_of_getElem? (i := 1) rfl))) h1 h2 h3 ?_
      refine W.eq (g2 := F0 m 21 ls [.ref q9]) rfl ?_
      refine lv_astore (pc := 21) (lv' := [(6, .ref q9), (0, .ref (g_ad G 60)), (1, .int a1), (2, .int a2), (3, .int a3), (4, .int a4), (5, .ref (g_ad G 106))]) hx hb dL_addCondition_21 hl (by decide) rfl (fun ls hl => ?_)
      refine lv_iconst (pc := 23) (v := 2) hx hb dL_addCondition_23 (by decide) ?_
      refine W.widen (k := 3) (n := 18) (by decide) (by decide) ?_
      exact hret 24 _ _ _ _ s7 x dL_addCondition_24 h hM
    · refine vx_catch (own := RL) (name := "java/lang/IllegalStateException") C.2.2.2.1 [⟨0, 14, 17, 13⟩, ⟨0, 14, 21, 15⟩] ⟨0, 14, 25, 17⟩ [] (htab.trans rfl) (List.forall_mem_cons.mpr ⟨Or.inr ⟨by decide, "java/lang/IndexOutOfBoundsException", C.2.2.2.2.1 _ q2_106, hw.2.2 _ (List.mem_of_getElem? (i := 1) rfl)⟩, List.forall_mem_cons.mpr ⟨Or.inr ⟨by decide, "java/lang/IllegalArgumentException", C.2.2.2.2.1 _ q2_185, hw.2.2 _ (List.mem_of_getElem? (i := 2) rfl)⟩, fun _ h => absurd h List.not_mem_nil⟩⟩) (by decide) (by decide) (C.2.2.2.2.1 _ q2_186) (va_Nw.use rfl (hw.1 _ (List.mem_of_getElem? (i := 2) rfl))) h1 h2 h3 ?_
      refine W.eq (g2 := F0 m 25 ls [.ref q9]) rfl ?_
      refine lv_astore (pc := 25) (lv' := [(6, .ref q9), (0, .ref (g_ad G 60)), (1, .int a1), (2, .int a2), (3, .int a3), (4, .int a4), (5, .ref (g_ad G 106))]) hx hb dL_addCondition_25 hl (by decide) rfl (fun ls hl => ?_)
      refine lv_iconst (pc := 27) (v := 3) hx hb dL_addCondition_27 (by decide) ?_
      refine W.widen (k := 3) (n := 18) (by decide) (by decide) ?_
      exact hret 28 _ _ _ _ s7 x dL_addCondition_28 h hM
  · refine lv_i2l (pc := 12) (v := r.toInt64) hx hb dL_addCondition_12 rfl ?_
    refine g_last (pc := 13) C hM dL_addCondition_13 (fun H locs hM => ?_)
    refine lv_goto (pc := 14) (tgt := 29) hx hb dL_addCondition_14 (by decide) ?_
    refine lv_iconst (pc := 29) (v := 0) hx hb dL_addCondition_29 (by decide) ?_
    refine W.widen (k := 3) (n := 18) (by decide) (by decide) ?_
    exact hret 30 _ _ _ _ s7 (r.toInt64, x.2) dL_addCondition_30 h hM
abbrev rm_L_removeRule : Room := { frames := 9, cells := 1, slots := 6, locals := 163 }
theorem dL_removeRule_0 : decode cL_removeRule 0 = .ok (.aload_n 2, 1) := by decide +kernel
theorem dL_removeRule_1 : decode cL_removeRule 1 = .ok (.iconst 0, 1) := by decide +kernel
theorem dL_removeRule_2 : decode cL_removeRule 2 = .ok (.aload_n 0, 1) := by decide +kernel
theorem dL_removeRule_3 : decode cL_removeRule 3 = .ok (.iload_n 1, 1) := by decide +kernel
theorem dL_removeRule_4 : decode cL_removeRule 4 = .ok (.invokevirtual 23, 3) := by decide +kernel
theorem dL_removeRule_7 : decode cL_removeRule 7 = .ok (.i2l, 1) := by decide +kernel
theorem dL_removeRule_8 : decode cL_removeRule 8 = .ok (.lastore, 1) := by decide +kernel
theorem dL_removeRule_9 : decode cL_removeRule 9 = .ok (.goto 6, 3) := by decide +kernel
theorem dL_removeRule_12 : decode cL_removeRule 12 = .ok (.astore_n 3, 1) := by decide +kernel
theorem dL_removeRule_13 : decode cL_removeRule 13 = .ok (.iconst 1, 1) := by decide +kernel
theorem dL_removeRule_14 : decode cL_removeRule 14 = .ok (.ireturn, 1) := by decide +kernel
theorem dL_removeRule_15 : decode cL_removeRule 15 = .ok (.iconst 0, 1) := by decide +kernel
theorem dL_removeRule_16 : decode cL_removeRule 16 = .ok (.ireturn, 1) := by decide +kernel
set_option maxHeartbeats 4000000 in
set_option maxRecDepth 100000 in
theorem w_L_removeRule (l : Launch) (hl0 : l.stackTraces = false) (G : GP) (a1 : Int32) (σ : Sto) (x : XP) (P : Int32 → Sto × XP → Prop) (h : D_L_removeRule a1 σ x P) : g_Metw l yL_removeRule cL_removeRule 4 [(0, 9, 12, 13)] rm_L_removeRule G [.ref (g_ad G 60), .int a1, .ref (g_ad G 106)] σ x P := by
  unfold D_L_removeRule at h
  refine g_ofWw (by decide +kernel) (Nat.le_of_ble_eq_true rfl) ?_
  intro p e s m args below meth c Q ls C htab hM hl hret
  have hx := C.1
  have hb := C.2.1
  have hw := C.2.2.2.2.2.2.2.2.2.2.2
  have hl : lv_has ls 4 [(0, .ref (g_ad G 60)), (1, .int a1), (2, .ref (g_ad G 106))] := hl
  refine lv_aload_n (pc := 0) hx hb dL_removeRule_0 rfl (lv_at hl 2 rfl) ?_
  refine lv_iconst (pc := 1) (v := 0) hx hb dL_removeRule_1 (by decide) ?_
  refine lv_aload_n (pc := 2) hx hb dL_removeRule_2 rfl (lv_at hl 0 rfl) ?_
  refine lv_iload_n (pc := 3) hx hb dL_removeRule_3 rfl (lv_at hl 1 rfl) ?_
  refine g_wVi (pc := 4) C hM hl.1 yv_X11_removeRule q3_57 (by decide) ce_60 rfl (w_X11_removeRule l hl0 G x a1 σ _ _ h) rfl rfl ⟨⟨by decide, by decide⟩, by decide, by decide⟩ (Nat.le_of_ble_eq_true rfl) dL_removeRule_4 (fun E ce q9 s7 H locs h hM h1 h2 h3 => ?_) (fun r s7 H locs h hM => ?_)
  · obtain ⟨rfl, h⟩ := h
    refine vx_catch (own := RL) (name := "java/lang/IndexOutOfBoundsException") C.2.2.2.1 [] ⟨0, 9, 12, 13⟩ [] (htab.trans rfl) (fun _ h => absurd h List.not_mem_nil) (by decide) (by decide) (C.2.2.2.2.1 _ q2_106) (va_Nw.use rfl (hw.1 _ (List.mem_of_getElem? (i := 0) rfl))) h1 h2 h3 ?_
    refine W.eq (g2 := F0 m 12 ls [.ref q9]) rfl ?_
    refine lv_astore_n (pc := 12) (lv' := [(3, .ref q9), (0, .ref (g_ad G 60)), (1, .int a1), (2, .ref (g_ad G 106))]) hx hb dL_removeRule_12 rfl hl (by decide) rfl (fun ls hl => ?_)
    refine lv_iconst (pc := 13) (v := 1) hx hb dL_removeRule_13 (by decide) ?_
    refine W.widen (k := 1) (n := 6) (by decide) (by decide) ?_
    exact hret 14 _ _ _ _ s7 x dL_removeRule_14 h hM
  · refine lv_i2l (pc := 7) (v := r.toInt64) hx hb dL_removeRule_7 rfl ?_
    refine g_last (pc := 8) C hM dL_removeRule_8 (fun H locs hM => ?_)
    refine lv_goto (pc := 9) (tgt := 15) hx hb dL_removeRule_9 (by decide) ?_
    refine lv_iconst (pc := 15) (v := 0) hx hb dL_removeRule_15 (by decide) ?_
    refine W.widen (k := 1) (n := 6) (by decide) (by decide) ?_
    exact hret 16 _ _ _ _ s7 (r.toInt64, x.2) dL_removeRule_16 h hM
abbrev rm_L_setPriority : Room := { frames := 9, cells := 2, slots := 12, locals := 165 }
theorem dL_setPriority_0 : decode cL_setPriority 0 = .ok (.aload_n 3, 1) := by decide +kernel
theorem dL_setPriority_1 : decode cL_setPriority 1 = .ok (.iconst 0, 1) := by decide +kernel
theorem dL_setPriority_2 : decode cL_setPriority 2 = .ok (.aload_n 0, 1) := by decide +kernel
theorem dL_setPriority_3 : decode cL_setPriority 3 = .ok (.iload_n 1, 1) := by decide +kernel
theorem dL_setPriority_4 : decode cL_setPriority 4 = .ok (.iload_n 2, 1) := by decide +kernel
theorem dL_setPriority_5 : decode cL_setPriority 5 = .ok (.invokevirtual 27, 3) := by decide +kernel
theorem dL_setPriority_8 : decode cL_setPriority 8 = .ok (.i2l, 1) := by decide +kernel
theorem dL_setPriority_9 : decode cL_setPriority 9 = .ok (.lastore, 1) := by decide +kernel
theorem dL_setPriority_10 : decode cL_setPriority 10 = .ok (.goto 11, 3) := by decide +kernel
theorem dL_setPriority_13 : decode cL_setPriority 13 = .ok (.astore 4, 2) := by decide +kernel
theorem dL_setPriority_15 : decode cL_setPriority 15 = .ok (.iconst 1, 1) := by decide +kernel
theorem dL_setPriority_16 : decode cL_setPriority 16 = .ok (.ireturn, 1) := by decide +kernel
theorem dL_setPriority_17 : decode cL_setPriority 17 = .ok (.astore 4, 2) := by decide +kernel
theorem dL_setPriority_19 : decode cL_setPriority 19 = .ok (.iconst 2, 1) := by decide +kernel
theorem dL_setPriority_20 : decode cL_setPriority 20 = .ok (.ireturn, 1) := by decide +kernel
theorem dL_setPriority_21 : decode cL_setPriority 21 = .ok (.iconst 0, 1) := by decide +kernel
theorem dL_setPriority_22 : decode cL_setPriority 22 = .ok (.ireturn, 1) := by decide +kernel
set_option maxHeartbeats 4000000 in
set_option maxRecDepth 100000 in
theorem w_L_setPriority (l : Launch) (hl0 : l.stackTraces = false) (G : GP) (a1 : Int32) (a2 : Int32) (σ : Sto) (x : XP) (P : Int32 → Sto × XP → Prop) (h : D_L_setPriority a1 a2 σ x P) : g_Metw l yL_setPriority cL_setPriority 5 [(0, 10, 13, 13), (0, 10, 17, 15)] rm_L_setPriority G [.ref (g_ad G 60), .int a1, .int a2, .ref (g_ad G 106)] σ x P := by
  unfold D_L_setPriority at h
  refine g_ofWw (by decide +kernel) (Nat.le_of_ble_eq_true rfl) ?_
  intro p e s m args below meth c Q ls C htab hM hl hret
  have hx := C.1
  have hb := C.2.1
  have hw := C.2.2.2.2.2.2.2.2.2.2.2
  have hl : lv_has ls 5 [(0, .ref (g_ad G 60)), (1, .int a1), (2, .int a2), (3, .ref (g_ad G 106))] := hl
  refine lv_aload_n (pc := 0) hx hb dL_setPriority_0 rfl (lv_at hl 3 rfl) ?_
  refine lv_iconst (pc := 1) (v := 0) hx hb dL_setPriority_1 (by decide) ?_
  refine lv_aload_n (pc := 2) hx hb dL_setPriority_2 rfl (lv_at hl 0 rfl) ?_
  refine lv_iload_n (pc := 3) hx hb dL_setPriority_3 rfl (lv_at hl 1 rfl) ?_
  refine lv_iload_n (pc := 4) hx hb dL_setPriority_4 rfl (lv_at hl 2 rfl) ?_
  refine g_wVi (pc := 5) C hM hl.1 yv_X11_setPriority q3_68 (by decide) ce_60 rfl (w_X11_setPriority l hl0 G x a1 a2 σ _ _ h) rfl rfl ⟨⟨by decide, by decide⟩, by decide, by decide⟩ (Nat.le_of_ble_eq_true rfl) dL_setPriority_5 (fun E ce q9 s7 H locs h hM h1 h2 h3 => ?_) (fun r s7 H locs h hM => ?_)
  · rcases h with ⟨rfl, h⟩ | ⟨rfl, h⟩
    · refine vx_catch (own := RL) (name := "java/lang/IndexOutOfBoundsException") C.2.2.2.1 [] ⟨0, 10, 13, 13⟩ [⟨0, 10, 17, 15⟩] (htab.trans rfl) (fun _ h => absurd h List.not_mem_nil) (by decide) (by decide) (C.2.2.2.2.1 _ q2_106) (va_Nw.use rfl (hw.1 _ (List.mem_of_getElem? (i := 0) rfl))) h1 h2 h3 ?_
      refine W.eq (g2 := F0 m 13 ls [.ref q9]) rfl ?_
      refine lv_astore (pc := 13) (lv' := [(4, .ref q9), (0, .ref (g_ad G 60)), (1, .int a1), (2, .int a2), (3, .ref (g_ad G 106))]) hx hb dL_setPriority_13 hl (by decide) rfl (fun ls hl => ?_)
      refine lv_iconst (pc := 15) (v := 1) hx hb dL_setPriority_15 (by decide) ?_
      refine W.widen (k := 2) (n := 12) (by decide) (by decide) ?_
      exact hret 16 _ _ _ _ s7 x dL_setPriority_16 h hM
    · refine vx_catch (own := RL) (name := "java/lang/IllegalArgumentException") C.2.2.2.1 [⟨0, 10, 13, 13⟩] ⟨0, 10, 17, 15⟩ [] (htab.trans rfl) (List.forall_mem_cons.mpr ⟨Or.inr ⟨by decide, "java/lang/IndexOutOfBoundsException", C.2.2.2.2.1 _ q2_106, hw.2.2 _ (List.mem_of_getElem? (i := 0) rfl)⟩, fun _ h => absurd h List.not_mem_nil⟩) (by decide) (by decide) (C.2.2.2.2.1 _ q2_185) (va_Nw.use rfl (hw.1 _ (List.mem_of_getElem? (i := 1) rfl))) h1 h2 h3 ?_
      refine W.eq (g2 := F0 m 17 ls [.ref q9]) rfl ?_
      refine lv_astore (pc := 17) (lv' := [(4, .ref q9), (0, .ref (g_ad G 60)), (1, .int a1), (2, .int a2), (3, .ref (g_ad G 106))]) hx hb dL_setPriority_17 hl (by decide) rfl (fun ls hl => ?_)
      refine lv_iconst (pc := 19) (v := 2) hx hb dL_setPriority_19 (by decide) ?_
      refine W.widen (k := 2) (n := 12) (by decide) (by decide) ?_
      exact hret 20 _ _ _ _ s7 x dL_setPriority_20 h hM
  · refine lv_i2l (pc := 8) (v := r.toInt64) hx hb dL_setPriority_8 rfl ?_
    refine g_last (pc := 9) C hM dL_setPriority_9 (fun H locs hM => ?_)
    refine lv_goto (pc := 10) (tgt := 21) hx hb dL_setPriority_10 (by decide) ?_
    refine lv_iconst (pc := 21) (v := 0) hx hb dL_setPriority_21 (by decide) ?_
    refine W.widen (k := 2) (n := 12) (by decide) (by decide) ?_
    exact hret 22 _ _ _ _ s7 (r.toInt64, x.2) dL_setPriority_22 h hM
abbrev rm_L_setWay : Room := { frames := 8, cells := 2, slots := 12, locals := 144 }
theorem dL_setWay_0 : decode cL_setWay 0 = .ok (.aload_n 3, 1) := by decide +kernel
theorem dL_setWay_1 : decode cL_setWay 1 = .ok (.iconst 0, 1) := by decide +kernel
theorem dL_setWay_2 : decode cL_setWay 2 = .ok (.aload_n 0, 1) := by decide +kernel
theorem dL_setWay_3 : decode cL_setWay 3 = .ok (.iload_n 1, 1) := by decide +kernel
theorem dL_setWay_4 : decode cL_setWay 4 = .ok (.iload_n 2, 1) := by decide +kernel
theorem dL_setWay_5 : decode cL_setWay 5 = .ok (.invokevirtual 31, 3) := by decide +kernel
theorem dL_setWay_8 : decode cL_setWay 8 = .ok (.i2l, 1) := by decide +kernel
theorem dL_setWay_9 : decode cL_setWay 9 = .ok (.lastore, 1) := by decide +kernel
theorem dL_setWay_10 : decode cL_setWay 10 = .ok (.goto 11, 3) := by decide +kernel
theorem dL_setWay_13 : decode cL_setWay 13 = .ok (.astore 4, 2) := by decide +kernel
theorem dL_setWay_15 : decode cL_setWay 15 = .ok (.iconst 1, 1) := by decide +kernel
theorem dL_setWay_16 : decode cL_setWay 16 = .ok (.ireturn, 1) := by decide +kernel
theorem dL_setWay_17 : decode cL_setWay 17 = .ok (.astore 4, 2) := by decide +kernel
theorem dL_setWay_19 : decode cL_setWay 19 = .ok (.iconst 2, 1) := by decide +kernel
theorem dL_setWay_20 : decode cL_setWay 20 = .ok (.ireturn, 1) := by decide +kernel
theorem dL_setWay_21 : decode cL_setWay 21 = .ok (.iconst 0, 1) := by decide +kernel
theorem dL_setWay_22 : decode cL_setWay 22 = .ok (.ireturn, 1) := by decide +kernel
set_option maxHeartbeats 4000000 in
set_option maxRecDepth 100000 in
theorem w_L_setWay (l : Launch) (hl0 : l.stackTraces = false) (G : GP) (a1 : Int32) (a2 : Int32) (σ : Sto) (x : XP) (P : Int32 → Sto × XP → Prop) (h : D_L_setWay a1 a2 σ x P) : g_Metw l yL_setWay cL_setWay 5 [(0, 10, 13, 13), (0, 10, 17, 15)] rm_L_setWay G [.ref (g_ad G 60), .int a1, .int a2, .ref (g_ad G 106)] σ x P := by
  unfold D_L_setWay at h
  refine g_ofWw (by decide +kernel) (Nat.le_of_ble_eq_true rfl) ?_
  intro p e s m args below meth c Q ls C htab hM hl hret
  have hx := C.1
  have hb := C.2.1
  have hw := C.2.2.2.2.2.2.2.2.2.2.2
  have hl : lv_has ls 5 [(0, .ref (g_ad G 60)), (1, .int a1), (2, .int a2), (3, .ref (g_ad G 106))] := hl
  refine lv_aload_n (pc := 0) hx hb dL_setWay_0 rfl (lv_at hl 3 rfl) ?_
  refine lv_iconst (pc := 1) (v := 0) hx hb dL_setWay_1 (by decide) ?_
  refine lv_aload_n (pc := 2) hx hb dL_setWay_2 rfl (lv_at hl 0 rfl) ?_
  refine lv_iload_n (pc := 3) hx hb dL_setWay_3 rfl (lv_at hl 1 rfl) ?_
  refine lv_iload_n (pc := 4) hx hb dL_setWay_4 rfl (lv_at hl 2 rfl) ?_
  refine g_wVi (pc := 5) C hM hl.1 yv_X11_setWay q3_79 (by decide) ce_60 rfl (w_X11_setWay l hl0 G x a1 a2 σ _ _ h) rfl rfl ⟨⟨by decide, by decide⟩, by decide, by decide⟩ (Nat.le_of_ble_eq_true rfl) dL_setWay_5 (fun E ce q9 s7 H locs h hM h1 h2 h3 => ?_) (fun r s7 H locs h hM => ?_)
  · rcases h with ⟨rfl, h⟩ | ⟨rfl, h⟩
    · refine vx_catch (own := RL) (name := "java/lang/IndexOutOfBoundsException") C.2.2.2.1 [] ⟨0, 10, 13, 13⟩ [⟨0, 10, 17, 15⟩] (htab.trans rfl) (fun _ h => absurd h List.not_mem_nil) (by decide) (by decide) (C.2.2.2.2.1 _ q2_106) (va_Nw.use rfl (hw.1 _ (List.mem_of_getElem? (i := 0) rfl))) h1 h2 h3 ?_
      refine W.eq (g2 := F0 m 13 ls [.ref q9]) rfl ?_
      refine lv_astore (pc := 13) (lv' := [(4, .ref q9), (0, .ref (g_ad G 60)), (1, .int a1), (2, .int a2), (3, .ref (g_ad G 106))]) hx hb dL_setWay_13 hl (by decide) rfl (fun ls hl => ?_)
      refine lv_iconst (pc := 15) (v := 1) hx hb dL_setWay_15 (by decide) ?_
      refine W.widen (k := 2) (n := 12) (by decide) (by decide) ?_
      exact hret 16 _ _ _ _ s7 x dL_setWay_16 h hM
    · refine vx_catch (own := RL) (name := "java/lang/IllegalArgumentException") C.2.2.2.1 [⟨0, 10, 13, 13⟩] ⟨0, 10, 17, 15⟩ [] (htab.trans rfl) (List.forall_mem_cons.mpr ⟨Or.inr ⟨by decide, "java/lang/IndexOutOfBoundsException", C.2.2.2.2.1 _ q2_106, hw.2.2 _ (List.mem_of_getElem? (i := 0) rfl)⟩, fun _ h => absurd h List.not_mem_nil⟩) (by decide) (by decide) (C.2.2.2.2.1 _ q2_185) (va_Nw.use rfl (hw.1 _ (List.mem_of_getElem? (i := 1) rfl))) h1 h2 h3 ?_
      refine W.eq (g2 := F0 m 17 ls [.ref q9]) rfl ?_
      refine lv_astore (pc := 17) (lv' := [(4, .ref q9), (0, .ref (g_ad G 60)), (1, .int a1), (2, .int a2), (3, .ref (g_ad G 106))]) hx hb dL_setWay_17 hl (by decide) rfl (fun ls hl => ?_)
      refine lv_iconst (pc := 19) (v := 2) hx hb dL_setWay_19 (by decide) ?_
      refine W.widen (k := 2) (n := 12) (by decide) (by decide) ?_
      exact hret 20 _ _ _ _ s7 x dL_setWay_20 h hM
  · refine lv_i2l (pc := 8) (v := r.toInt64) hx hb dL_setWay_8 rfl ?_
    refine g_last (pc := 9) C hM dL_setWay_9 (fun H locs hM => ?_)
    refine lv_goto (pc := 10) (tgt := 21) hx hb dL_setWay_10 (by decide) ?_
    refine lv_iconst (pc := 21) (v := 0) hx hb dL_setWay_21 (by decide) ?_
    refine W.widen (k := 2) (n := 12) (by decide) (by decide) ?_
    exact hret 22 _ _ _ _ s7 (r.toInt64, x.2) dL_setWay_22 h hM
abbrev rm_L_setTopWay : Room := { frames := 8, cells := 1, slots := 6, locals := 142 }
theorem dL_setTopWay_0 : decode cL_setTopWay 0 = .ok (.aload_n 2, 1) := by decide +kernel
theorem dL_setTopWay_1 : decode cL_setTopWay 1 = .ok (.iconst 0, 1) := by decide +kernel
theorem dL_setTopWay_2 : decode cL_setTopWay 2 = .ok (.aload_n 0, 1) := by decide +kernel
theorem dL_setTopWay_3 : decode cL_setTopWay 3 = .ok (.iload_n 1, 1) := by decide +kernel
theorem dL_setTopWay_4 : decode cL_setTopWay 4 = .ok (.invokevirtual 34, 3) := by decide +kernel
theorem dL_setTopWay_7 : decode cL_setTopWay 7 = .ok (.i2l, 1) := by decide +kernel
theorem dL_setTopWay_8 : decode cL_setTopWay 8 = .ok (.lastore, 1) := by decide +kernel
theorem dL_setTopWay_9 : decode cL_setTopWay 9 = .ok (.goto 6, 3) := by decide +kernel
theorem dL_setTopWay_12 : decode cL_setTopWay 12 = .ok (.astore_n 3, 1) := by decide +kernel
theorem dL_setTopWay_13 : decode cL_setTopWay 13 = .ok (.iconst 1, 1) := by decide +kernel
theorem dL_setTopWay_14 : decode cL_setTopWay 14 = .ok (.ireturn, 1) := by decide +kernel
theorem dL_setTopWay_15 : decode cL_setTopWay 15 = .ok (.iconst 0, 1) := by decide +kernel
theorem dL_setTopWay_16 : decode cL_setTopWay 16 = .ok (.ireturn, 1) := by decide +kernel
set_option maxHeartbeats 4000000 in
set_option maxRecDepth 100000 in
theorem w_L_setTopWay (l : Launch) (hl0 : l.stackTraces = false) (G : GP) (a1 : Int32) (σ : Sto) (x : XP) (P : Int32 → Sto × XP → Prop) (h : D_L_setTopWay a1 σ x P) : g_Metw l yL_setTopWay cL_setTopWay 4 [(0, 9, 12, 15)] rm_L_setTopWay G [.ref (g_ad G 60), .int a1, .ref (g_ad G 106)] σ x P := by
  unfold D_L_setTopWay at h
  refine g_ofWw (by decide +kernel) (Nat.le_of_ble_eq_true rfl) ?_
  intro p e s m args below meth c Q ls C htab hM hl hret
  have hx := C.1
  have hb := C.2.1
  have hw := C.2.2.2.2.2.2.2.2.2.2.2
  have hl : lv_has ls 4 [(0, .ref (g_ad G 60)), (1, .int a1), (2, .ref (g_ad G 106))] := hl
  refine lv_aload_n (pc := 0) hx hb dL_setTopWay_0 rfl (lv_at hl 2 rfl) ?_
  refine lv_iconst (pc := 1) (v := 0) hx hb dL_setTopWay_1 (by decide) ?_
  refine lv_aload_n (pc := 2) hx hb dL_setTopWay_2 rfl (lv_at hl 0 rfl) ?_
  refine lv_iload_n (pc := 3) hx hb dL_setTopWay_3 rfl (lv_at hl 1 rfl) ?_
  refine g_wVi (pc := 4) C hM hl.1 yv_X11_setTopWay q3_86 (by decide) ce_60 rfl (w_X11_setTopWay l hl0 G x a1 σ _ _ h) rfl rfl ⟨⟨by decide, by decide⟩, by decide, by decide⟩ (Nat.le_of_ble_eq_true rfl) dL_setTopWay_4 (fun E ce q9 s7 H locs h hM h1 h2 h3 => ?_) (fun r s7 H locs h hM => ?_)
  · obtain ⟨rfl, h⟩ := h
    refine vx_catch (own := RL) (name := "java/lang/IllegalArgumentException") C.2.2.2.1 [] ⟨0, 9, 12, 15⟩ [] (htab.trans rfl) (fun _ h => absurd h List.not_mem_nil) (by decide) (by decide) (C.2.2.2.2.1 _ q2_185) (va_Nw.use rfl (hw.1 _ (List.mem_of_getElem? (i := 1) rfl))) h1 h2 h3 ?_
    refine W.eq (g2 := F0 m 12 ls [.ref q9]) rfl ?_
    refine lv_astore_n (pc := 12) (lv' := [(3, .ref q9), (0, .ref (g_ad G 60)), (1, .int a1), (2, .ref (g_ad G 106))]) hx hb dL_setTopWay_12 rfl hl (by decide) rfl (fun ls hl => ?_)
    refine lv_iconst (pc := 13) (v := 1) hx hb dL_setTopWay_13 (by decide) ?_
    refine W.widen (k := 1) (n := 6) (by decide) (by decide) ?_
    exact hret 14 _ _ _ _ s7 x dL_setTopWay_14 h hM
  · refine lv_i2l (pc := 7) (v := r.toInt64) hx hb dL_setTopWay_7 rfl ?_
    refine g_last (pc := 8) C hM dL_setTopWay_8 (fun H locs hM => ?_)
    refine lv_goto (pc := 9) (tgt := 15) hx hb dL_setTopWay_9 (by decide) ?_
    refine lv_iconst (pc := 15) (v := 0) hx hb dL_setTopWay_15 (by decide) ?_
    refine W.widen (k := 1) (n := 6) (by decide) (by decide) ?_
    exact hret 16 _ _ _ _ s7 (r.toInt64, x.2) dL_setTopWay_16 h hM
abbrev rm_L_rule : Room := { frames := 9, cells := 2, slots := 12, locals := 164 }
theorem dL_rule_0 : decode cL_rule 0 = .ok (.aload_n 3, 1) := by decide +kernel
theorem dL_rule_1 : decode cL_rule 1 = .ok (.iconst 0, 1) := by decide +kernel
theorem dL_rule_2 : decode cL_rule 2 = .ok (.aload_n 0, 1) := by decide +kernel
theorem dL_rule_3 : decode cL_rule 3 = .ok (.iload_n 1, 1) := by decide +kernel
theorem dL_rule_4 : decode cL_rule 4 = .ok (.iload_n 2, 1) := by decide +kernel
theorem dL_rule_5 : decode cL_rule 5 = .ok (.invokevirtual 37, 3) := by decide +kernel
theorem dL_rule_8 : decode cL_rule 8 = .ok (.i2l, 1) := by decide +kernel
theorem dL_rule_9 : decode cL_rule 9 = .ok (.lastore, 1) := by decide +kernel
theorem dL_rule_10 : decode cL_rule 10 = .ok (.goto 11, 3) := by decide +kernel
theorem dL_rule_13 : decode cL_rule 13 = .ok (.astore 4, 2) := by decide +kernel
theorem dL_rule_15 : decode cL_rule 15 = .ok (.iconst 1, 1) := by decide +kernel
theorem dL_rule_16 : decode cL_rule 16 = .ok (.ireturn, 1) := by decide +kernel
theorem dL_rule_17 : decode cL_rule 17 = .ok (.astore 4, 2) := by decide +kernel
theorem dL_rule_19 : decode cL_rule 19 = .ok (.iconst 2, 1) := by decide +kernel
theorem dL_rule_20 : decode cL_rule 20 = .ok (.ireturn, 1) := by decide +kernel
theorem dL_rule_21 : decode cL_rule 21 = .ok (.iconst 0, 1) := by decide +kernel
theorem dL_rule_22 : decode cL_rule 22 = .ok (.ireturn, 1) := by decide +kernel
set_option maxHeartbeats 4000000 in
set_option maxRecDepth 100000 in
theorem w_L_rule (l : Launch) (hl0 : l.stackTraces = false) (G : GP) (a1 : Int32) (a2 : Int32) (σ : Sto) (x : XP) (P : Int32 → Sto × XP → Prop) (h : D_L_rule a1 a2 σ x P) : g_Metw l yL_rule cL_rule 5 [(0, 10, 13, 13), (0, 10, 17, 15)] rm_L_rule G [.ref (g_ad G 60), .int a1, .int a2, .ref (g_ad G 106)] σ x P := by
  unfold D_L_rule at h
  refine g_ofWw (by decide +kernel) (Nat.le_of_ble_eq_true rfl) ?_
  intro p e s m args below meth c Q ls C htab hM hl hret
  have hx := C.1
  have hb := C.2.1
  have hw := C.2.2.2.2.2.2.2.2.2.2.2
  have hl : lv_has ls 5 [(0, .ref (g_ad G 60)), (1, .int a1), (2, .int a2), (3, .ref (g_ad G 106))] := hl
  refine lv_aload_n (pc := 0) hx hb dL_rule_0 rfl (lv_at hl 3 rfl) ?_
  refine lv_iconst (pc := 1) (v := 0) hx hb dL_rule_1 (by decide) ?_
  refine lv_aload_n (pc := 2) hx hb dL_rule_2 rfl (lv_at hl 0 rfl) ?_
  refine lv_iload_n (pc := 3) hx hb dL_rule_3 rfl (lv_at hl 1 rfl) ?_
  refine lv_iload_n (pc := 4) hx hb dL_rule_4 rfl (lv_at hl 2 rfl) ?_
  refine g_wVi (pc := 5) C hM hl.1 yv_X11_rule q3_93 (by decide) ce_60 rfl (w_X11_rule l hl0 G x a1 a2 σ _ _ h) rfl rfl ⟨⟨by decide, by decide⟩, by decide, by decide⟩ (Nat.le_of_ble_eq_true rfl) dL_rule_5 (fun E ce q9 s7 H locs h hM h1 h2 h3 => ?_) (fun r s7 H locs h hM => ?_)
  · rcases h with ⟨rfl, h⟩ | ⟨rfl, h⟩
    · refine vx_catch (own := RL) (name := "java/lang/IndexOutOfBoundsException") C.2.2.2.1 [] ⟨0, 10, 13, 13⟩ [⟨0, 10, 17, 15⟩] (htab.trans rfl) (fun _ h => absurd h List.not_mem_nil) (by decide) (by decide) (C.2.2.2.2.1 _ q2_106) (va_Nw.use rfl (hw.1 _ (List.mem_of_getElem? (i := 0) rfl))) h1 h2 h3 ?_
      refine W.eq (g2 := F0 m 13 ls [.ref q9]) rfl ?_
      refine lv_astore (pc := 13) (lv' := [(4, .ref q9), (0, .ref (g_ad G 60)), (1, .int a1), (2, .int a2), (3, .ref (g_ad G 106))]) hx hb dL_rule_13 hl (by decide) rfl (fun ls hl => ?_)
      refine lv_iconst (pc := 15) (v := 1) hx hb dL_rule_15 (by decide) ?_
      refine W.widen (k := 2) (n := 12) (by decide) (by decide) ?_
      exact hret 16 _ _ _ _ s7 x dL_rule_16 h hM
    · refine vx_catch (own := RL) (name := "java/lang/IllegalArgumentException") C.2.2.2.1 [⟨0, 10, 13, 13⟩] ⟨0, 10, 17, 15⟩ [] (htab.trans rfl) (List.forall_mem_cons.mpr ⟨Or.inr ⟨by decide, "java/lang/IndexOutOfBoundsException", C.2.2.2.2.1 _ q2_106, hw.2.2 _ (List.mem_of_getElem? (i := 0) rfl)⟩, fun _ h => absurd h List.not_mem_nil⟩) (by decide) (by decide) (C.2.2.2.2.1 _ q2_185) (va_Nw.use rfl (hw.1 _ (List.mem_of_getElem? (i := 1) rfl))) h1 h2 h3 ?_
      refine W.eq (g2 := F0 m 17 ls [.ref q9]) rfl ?_
      refine lv_astore (pc := 17) (lv' := [(4, .ref q9), (0, .ref (g_ad G 60)), (1, .int a1), (2, .int a2), (3, .ref (g_ad G 106))]) hx hb dL_rule_17 hl (by decide) rfl (fun ls hl => ?_)
      refine lv_iconst (pc := 19) (v := 2) hx hb dL_rule_19 (by decide) ?_
      refine W.widen (k := 2) (n := 12) (by decide) (by decide) ?_
      exact hret 20 _ _ _ _ s7 x dL_rule_20 h hM
  · refine lv_i2l (pc := 8) (v := r.toInt64) hx hb dL_rule_8 rfl ?_
    refine g_last (pc := 9) C hM dL_rule_9 (fun H locs hM => ?_)
    refine lv_goto (pc := 10) (tgt := 21) hx hb dL_rule_10 (by decide) ?_
    refine lv_iconst (pc := 21) (v := 0) hx hb dL_rule_21 (by decide) ?_
    refine W.widen (k := 2) (n := 12) (by decide) (by decide) ?_
    exact hret 22 _ _ _ _ s7 (r.toInt64, x.2) dL_rule_22 h hM
abbrev rm_L_condition : Room := { frames := 9, cells := 3, slots := 18, locals := 165 }
theorem dL_condition_0 : decode cL_condition 0 = .ok (.aload 4, 2) := by decide +kernel
theorem dL_condition_2 : decode cL_condition 2 = .ok (.iconst 0, 1) := by decide +kernel
theorem dL_condition_3 : decode cL_condition 3 = .ok (.aload_n 0, 1) := by decide +kernel
theorem dL_condition_4 : decode cL_condition 4 = .ok (.iload_n 1, 1) := by decide +kernel
theorem dL_condition_5 : decode cL_condition 5 = .ok (.iload_n 2, 1) := by decide +kernel
theorem dL_condition_6 : decode cL_condition 6 = .ok (.iload_n 3, 1) := by decide +kernel
theorem dL_condition_7 : decode cL_condition 7 = .ok (.invokevirtual 40, 3) := by decide +kernel
theorem dL_condition_10 : decode cL_condition 10 = .ok (.i2l, 1) := by decide +kernel
theorem dL_condition_11 : decode cL_condition 11 = .ok (.lastore, 1) := by decide +kernel
theorem dL_condition_12 : decode cL_condition 12 = .ok (.goto 11, 3) := by decide +kernel
theorem dL_condition_15 : decode cL_condition 15 = .ok (.astore 5, 2) := by decide +kernel
theorem dL_condition_17 : decode cL_condition 17 = .ok (.iconst 1, 1) := by decide +kernel
theorem dL_condition_18 : decode cL_condition 18 = .ok (.ireturn, 1) := by decide +kernel
theorem dL_condition_19 : decode cL_condition 19 = .ok (.astore 5, 2) := by decide +kernel
theorem dL_condition_21 : decode cL_condition 21 = .ok (.iconst 2, 1) := by decide +kernel
theorem dL_condition_22 : decode cL_condition 22 = .ok (.ireturn, 1) := by decide +kernel
theorem dL_condition_23 : decode cL_condition 23 = .ok (.iconst 0, 1) := by decide +kernel
theorem dL_condition_24 : decode cL_condition 24 = .ok (.ireturn, 1) := by decide +kernel
set_option maxHeartbeats 4000000 in
set_option maxRecDepth 100000 in
theorem w_L_condition (l : Launch) (hl0 : l.stackTraces = false) (G : GP) (a1 : Int32) (a2 : Int32) (a3 : Int32) (σ : Sto) (x : XP) (P : Int32 → Sto × XP → Prop) (h : D_L_condition a1 a2 a3 σ x P) : g_Metw l yL_condition cL_condition 6 [(0, 12, 15, 13), (0, 12, 19, 15)] rm_L_condition G [.ref (g_ad G 60), .int a1, .int a2, .int a3, .ref (g_ad G 106)] σ x P := by
  unfold D_L_condition at h
  refine g_ofWw (by decide +kernel) (Nat.le_of_ble_eq_true rfl) ?_
  intro p e s m args below meth c Q ls C htab hM hl hret
  have hx := C.1
  have hb := C.2.1
  have hw := C.2.2.2.2.2.2.2.2.2.2.2
  have hl : lv_has ls 6 [(0, .ref (g_ad G 60)), (1, .int a1), (2, .int a2), (3, .int a3), (4, .ref (g_ad G 106))] := hl
  refine lv_aload (pc := 0) hx hb dL_condition_0 (lv_at hl 4 rfl) ?_
  refine lv_iconst (pc := 2) (v := 0) hx hb dL_condition_2 (by decide) ?_
  refine lv_aload_n (pc := 3) hx hb dL_condition_3 rfl (lv_at hl 0 rfl) ?_
  refine lv_iload_n (pc := 4) hx hb dL_condition_4 rfl (lv_at hl 1 rfl) ?_
  refine lv_iload_n (pc := 5) hx hb dL_condition_5 rfl (lv_at hl 2 rfl) ?_
  refine lv_iload_n (pc := 6) hx hb dL_condition_6 rfl (lv_at hl 3 rfl) ?_
  refine g_wVi (pc := 7) C hM hl.1 yv_X11_condition q3_100 (by decide) ce_60 rfl (w_X11_condition l hl0 G x a1 a2 a3 σ _ _ h) rfl rfl ⟨⟨by decide, by decide⟩, by decide, by decide⟩ (Nat.le_of_ble_eq_true rfl) dL_condition_7 (fun E ce q9 s7 H locs h hM h1 h2 h3 => ?_) (fun r s7 H locs h hM => ?_)
  · rcases h with ⟨rfl, h⟩ | ⟨rfl, h⟩
    · refine vx_catch (own := RL) (name := "java/lang/IndexOutOfBoundsException") C.2.2.2.1 [] ⟨0, 12, 15, 13⟩ [⟨0, 12, 19, 15⟩] (htab.trans rfl) (fun _ h => absurd h List.not_mem_nil) (by decide) (by decide) (C.2.2.2.2.1 _ q2_106) (va_Nw.use rfl (hw.1 _ (List.mem_of_getElem? (i := 0) rfl))) h1 h2 h3 ?_
      refine W.eq (g2 := F0 m 15 ls [.ref q9]) rfl ?_
      refine lv_astore (pc := 15) (lv' := [(5, .ref q9), (0, .ref (g_ad G 60)), (1, .int a1), (2, .int a2), (3, .int a3), (4, .ref (g_ad G 106))]) hx hb dL_condition_15 hl (by decide) rfl (fun ls hl => ?_)
      refine lv_iconst (pc := 17) (v := 1) hx hb dL_condition_17 (by decide) ?_
      refine W.widen (k := 3) (n := 18) (by decide) (by decide) ?_
      exact hret 18 _ _ _ _ s7 x dL_condition_18 h hM
    · refine vx_catch (own := RL) (name := "java/lang/IllegalArgumentException") C.2.2.2.1 [⟨0, 12, 15, 13⟩] ⟨0, 12, 19, 15⟩ [] (htab.trans rfl) (List.forall_mem_cons.mpr ⟨Or.inr ⟨by decide, "java/lang/IndexOutOfBoundsException", C.2.2.2.2.1 _ q2_106, hw.2.2 _ (List.mem_of_getElem? (i := 0) rfl)⟩, fun _ h => absurd h List.not_mem_nil⟩) (by decide) (by decide) (C.2.2.2.2.1 _ q2_185) (va_Nw.use rfl (hw.1 _ (List.mem_of_getElem? (i := 1) rfl))) h1 h2 h3 ?_
      refine W.eq (g2 := F0 m 19 ls [.ref q9]) rfl ?_
      refine lv_astore (pc := 19) (lv' := [(5, .ref q9), (0, .ref (g_ad G 60)), (1, .int a1), (2, .int a2), (3, .int a3), (4, .ref (g_ad G 106))]) hx hb dL_condition_19 hl (by decide) rfl (fun ls hl => ?_)
      refine lv_iconst (pc := 21) (v := 2) hx hb dL_condition_21 (by decide) ?_
      refine W.widen (k := 3) (n := 18) (by decide) (by decide) ?_
      exact hret 22 _ _ _ _ s7 x dL_condition_22 h hM
  · refine lv_i2l (pc := 10) (v := r.toInt64) hx hb dL_condition_10 rfl ?_
    refine g_last (pc := 11) C hM dL_condition_11 (fun H locs hM => ?_)
    refine lv_goto (pc := 12) (tgt := 23) hx hb dL_condition_12 (by decide) ?_
    refine lv_iconst (pc := 23) (v := 0) hx hb dL_condition_23 (by decide) ?_
    refine W.widen (k := 3) (n := 18) (by decide) (by decide) ?_
    exact hret 24 _ _ _ _ s7 (r.toInt64, x.2) dL_condition_24 h hM
abbrev rm_L_specialize : Room := { frames := 8, cells := 2, slots := 12, locals := 143 }
theorem dL_specialize_0 : decode cL_specialize 0 = .ok (.aload_n 3, 1) := by decide +kernel
theorem dL_specialize_1 : decode cL_specialize 1 = .ok (.iconst 0, 1) := by decide +kernel
theorem dL_specialize_2 : decode cL_specialize 2 = .ok (.aload_n 0, 1) := by decide +kernel
theorem dL_specialize_3 : decode cL_specialize 3 = .ok (.iload_n 1, 1) := by decide +kernel
theorem dL_specialize_4 : decode cL_specialize 4 = .ok (.iload_n 2, 1) := by decide +kernel
theorem dL_specialize_5 : decode cL_specialize 5 = .ok (.invokevirtual 44, 3) := by decide +kernel
theorem dL_specialize_8 : decode cL_specialize 8 = .ok (.i2l, 1) := by decide +kernel
theorem dL_specialize_9 : decode cL_specialize 9 = .ok (.lastore, 1) := by decide +kernel
theorem dL_specialize_10 : decode cL_specialize 10 = .ok (.goto 11, 3) := by decide +kernel
theorem dL_specialize_13 : decode cL_specialize 13 = .ok (.astore 4, 2) := by decide +kernel
theorem dL_specialize_15 : decode cL_specialize 15 = .ok (.iconst 1, 1) := by decide +kernel
theorem dL_specialize_16 : decode cL_specialize 16 = .ok (.ireturn, 1) := by decide +kernel
theorem dL_specialize_17 : decode cL_specialize 17 = .ok (.astore 4, 2) := by decide +kernel
theorem dL_specialize_19 : decode cL_specialize 19 = .ok (.iconst 2, 1) := by decide +kernel
theorem dL_specialize_20 : decode cL_specialize 20 = .ok (.ireturn, 1) := by decide +kernel
theorem dL_specialize_21 : decode cL_specialize 21 = .ok (.iconst 0, 1) := by decide +kernel
theorem dL_specialize_22 : decode cL_specialize 22 = .ok (.ireturn, 1) := by decide +kernel
set_option maxHeartbeats 4000000 in
set_option maxRecDepth 100000 in
theorem w_L_specialize (l : Launch) (hl0 : l.stackTraces = false) (G : GP) (a1 : Int32) (a2 : Int32) (σ : Sto) (x : XP) (P : Int32 → Sto × XP → Prop) (h : D_L_specialize a1 a2 σ x P) : g_Metw l yL_specialize cL_specialize 5 [(0, 10, 13, 13), (0, 10, 17, 15)] rm_L_specialize G [.ref (g_ad G 60), .int a1, .int a2, .ref (g_ad G 106)] σ x P := by
  unfold D_L_specialize at h
  refine g_ofWw (by decide +kernel) (Nat.le_of_ble_eq_true rfl) ?_
  intro p e s m args below meth c Q ls C htab hM hl hret
  have hx := C.1
  have hb := C.2.1
  have hw := C.2.2.2.2.2.2.2.2.2.2.2
  have hl : lv_has ls 5 [(0, .ref (g_ad G 60)), (1, .int a1), (2, .int a2), (3, .ref (g_ad G 106))] := hl
  refine lv_aload_n (pc := 0) hx hb dL_specialize_0 rfl (lv_at hl 3 rfl) ?_
  refine lv_iconst (pc := 1) (v := 0) hx hb dL_specialize_1 (by decide) ?_
  refine lv_aload_n (pc := 2) hx hb dL_specialize_2 rfl (lv_at hl 0 rfl) ?_
  refine lv_iload_n (pc := 3) hx hb dL_specialize_3 rfl (lv_at hl 1 rfl) ?_
  refine lv_iload_n (pc := 4) hx hb dL_specialize_4 rfl (lv_at hl 2 rfl) ?_
  refine g_wVi (pc := 5) C hM hl.1 yv_X11_specialize q3_111 (by decide) ce_60 rfl (w_X11_specialize l hl0 G x a1 a2 σ _ _ h) rfl rfl ⟨⟨by decide, by decide⟩, by decide, by decide⟩ (Nat.le_of_ble_eq_true rfl) dL_specialize_5 (fun E ce q9 s7 H locs h hM h1 h2 h3 => ?_) (fun r s7 H locs h hM => ?_)
  · rcases h with ⟨rfl, h⟩ | ⟨rfl, h⟩
    · refine vx_catch (own := RL) (name := "java/lang/IndexOutOfBoundsException") C.2.2.2.1 [] ⟨0, 10, 13, 13⟩ [⟨0, 10, 17, 15⟩] (htab.trans rfl) (fun _ h => absurd h List.not_mem_nil) (by decide) (by decide) (C.2.2.2.2.1 _ q2_106) (va_Nw.use rfl (hw.1 _ (List.mem_of_getElem? (i := 0) rfl))) h1 h2 h3 ?_
      refine W.eq (g2 := F0 m 13 ls [.ref q9]) rfl ?_
      refine lv_astore (pc := 13) (lv' := [(4, .ref q9), (0, .ref (g_ad G 60)), (1, .int a1), (2, .int a2), (3, .ref (g_ad G 106))]) hx hb dL_specialize_13 hl (by decide) rfl (fun ls hl => ?_)
      refine lv_iconst (pc := 15) (v := 1) hx hb dL_specialize_15 (by decide) ?_
      refine W.widen (k := 2) (n := 12) (by decide) (by decide) ?_
      exact hret 16 _ _ _ _ s7 x dL_specialize_16 h hM
    · refine vx_catch (own := RL) (name := "java/lang/IllegalArgumentException") C.2.2.2.1 [⟨0, 10, 13, 13⟩] ⟨0, 10, 17, 15⟩ [] (htab.trans rfl) (List.forall_mem_cons.mpr ⟨Or.inr ⟨by decide, "java/lang/IndexOutOfBoundsException", C.2.2.2.2.1 _ q2_106, hw.2.2 _ (List.mem_of_getElem? (i := 0) rfl)⟩, fun _ h => absurd h List.not_mem_nil⟩) (by decide) (by decide) (C.2.2.2.2.1 _ q2_185) (va_Nw.use rfl (hw.1 _ (List.mem_of_getElem? (i := 1) rfl))) h1 h2 h3 ?_
      refine W.eq (g2 := F0 m 17 ls [.ref q9]) rfl ?_
      refine lv_astore (pc := 17) (lv' := [(4, .ref q9), (0, .ref (g_ad G 60)), (1, .int a1), (2, .int a2), (3, .ref (g_ad G 106))]) hx hb dL_specialize_17 hl (by decide) rfl (fun ls hl => ?_)
      refine lv_iconst (pc := 19) (v := 2) hx hb dL_specialize_19 (by decide) ?_
      refine W.widen (k := 2) (n := 12) (by decide) (by decide) ?_
      exact hret 20 _ _ _ _ s7 x dL_specialize_20 h hM
  · refine lv_i2l (pc := 8) (v := r.toInt64) hx hb dL_specialize_8 rfl ?_
    refine g_last (pc := 9) C hM dL_specialize_9 (fun H locs hM => ?_)
    refine lv_goto (pc := 10) (tgt := 21) hx hb dL_specialize_10 (by decide) ?_
    refine lv_iconst (pc := 21) (v := 0) hx hb dL_specialize_21 (by decide) ?_
    refine W.widen (k := 2) (n := 12) (by decide) (by decide) ?_
    exact hret 22 _ _ _ _ s7 (r.toInt64, x.2) dL_specialize_22 h hM
abbrev rm_L_grant : Room := { frames := 9, cells := 5, slots := 30, locals := 168 }
theorem dL_grant_0 : decode cL_grant 0 = .ok (.aload 6, 2) := by decide +kernel
theorem dL_grant_2 : decode cL_grant 2 = .ok (.iconst 0, 1) := by decide +kernel
theorem dL_grant_3 : decode cL_grant 3 = .ok (.aload_n 0, 1) := by decide +kernel
theorem dL_grant_4 : decode cL_grant 4 = .ok (.iload_n 1, 1) := by decide +kernel
theorem dL_grant_5 : decode cL_grant 5 = .ok (.iload_n 2, 1) := by decide +kernel
theorem dL_grant_6 : decode cL_grant 6 = .ok (.iload_n 3, 1) := by decide +kernel
theorem dL_grant_7 : decode cL_grant 7 = .ok (.iload 4, 2) := by decide +kernel
theorem dL_grant_9 : decode cL_grant 9 = .ok (.iload 5, 2) := by decide +kernel
theorem dL_grant_11 : decode cL_grant 11 = .ok (.invokevirtual 47, 3) := by decide +kernel
theorem dL_grant_14 : decode cL_grant 14 = .ok (.i2l, 1) := by decide +kernel
theorem dL_grant_15 : decode cL_grant 15 = .ok (.lastore, 1) := by decide +kernel
theorem dL_grant_16 : decode cL_grant 16 = .ok (.goto 15, 3) := by decide +kernel
theorem dL_grant_19 : decode cL_grant 19 = .ok (.astore 7, 2) := by decide +kernel
theorem dL_grant_21 : decode cL_grant 21 = .ok (.iconst 1, 1) := by decide +kernel
theorem dL_grant_22 : decode cL_grant 22 = .ok (.ireturn, 1) := by decide +kernel
theorem dL_grant_23 : decode cL_grant 23 = .ok (.astore 7, 2) := by decide +kernel
theorem dL_grant_25 : decode cL_grant 25 = .ok (.iconst 2, 1) := by decide +kernel
theorem dL_grant_26 : decode cL_grant 26 = .ok (.ireturn, 1) := by decide +kernel
theorem dL_grant_27 : decode cL_grant 27 = .ok (.astore 7, 2) := by decide +kernel
theorem dL_grant_29 : decode cL_grant 29 = .ok (.iconst 3, 1) := by decide +kernel
theorem dL_grant_30 : decode cL_grant 30 = .ok (.ireturn, 1) := by decide +kernel
theorem dL_grant_31 : decode cL_grant 31 = .ok (.iconst 0, 1) := by decide +kernel
theorem dL_grant_32 : decode cL_grant 32 = .ok (.ireturn, 1) := by decide +kernel
set_option maxHeartbeats 4000000 in
set_option maxRecDepth 100000 in
theorem w_L_grant (l : Launch) (hl0 : l.stackTraces = false) (G : GP) (a1 : Int32) (a2 : Int32) (a3 : Int32) (a4 : Int32) (a5 : Int32) (σ : Sto) (x : XP) (P : Int32 → Sto × XP → Prop) (h : D_L_grant a1 a2 a3 a4 a5 σ x P) : g_Metw l yL_grant cL_grant 8 [(0, 16, 19, 13), (0, 16, 23, 15), (0, 16, 27, 17)] rm_L_grant G [.ref (g_ad G 60), .int a1, .int a2, .int a3, .int a4, .int a5, .ref (g_ad G 106)] σ x P := by
  unfold D_L_grant at h
  refine g_ofWw (by decide +kernel) (Nat.le_of_ble_eq_true rfl) ?_
  intro p e s m args below meth c Q ls C htab hM hl hret
  have hx := C.1
  have hb := C.2.1
  have hw := C.2.2.2.2.2.2.2.2.2.2.2
  have hl : lv_has ls 8 [(0, .ref (g_ad G 60)), (1, .int a1), (2, .int a2), (3, .int a3), (4, .int a4), (5, .int a5), (6, .ref (g_ad G 106))] := hl
  refine lv_aload (pc := 0) hx hb dL_grant_0 (lv_at hl 6 rfl) ?_
  refine lv_iconst (pc := 2) (v := 0) hx hb dL_grant_2 (by decide) ?_
  refine lv_aload_n (pc := 3) hx hb dL_grant_3 rfl (lv_at hl 0 rfl) ?_
  refine lv_iload_n (pc := 4) hx hb dL_grant_4 rfl (lv_at hl 1 rfl) ?_
  refine lv_iload_n (pc := 5) hx hb dL_grant_5 rfl (lv_at hl 2 rfl) ?_
  refine lv_iload_n (pc := 6) hx hb dL_grant_6 rfl (lv_at hl 3 rfl) ?_
  refine lv_iload (pc := 7) hx hb dL_grant_7 (lv_at hl 4 rfl) ?_
  refine lv_iload (pc := 9) hx hb dL_grant_9 (lv_at hl 5 rfl) ?_
  refine g_wVi (pc := 11) C hM hl.1 yv_X11_grant q3_137 (by decide) ce_60 rfl (w_X11_grant l hl0 G x a1 a2 a3 a4 a5 σ _ _ h) rfl rfl ⟨⟨by decide, by decide⟩, by decide, by decide⟩ (Nat.le_of_ble_eq_true rfl) dL_grant_11 (fun E ce q9 s7 H locs h hM h1 h2 h3 => ?_) (fun r s7 H locs h hM => ?_)
  · rcases h with ⟨rfl, h⟩ | ⟨rfl, h⟩ | ⟨rfl, h⟩
    · refine vx_catch (own := RL) (name := "java/lang/IndexOutOfBoundsException") C.2.2.2.1 [] ⟨0, 16, 19, 13⟩ [⟨0, 16, 23, 15⟩, ⟨0, 16, 27, 17⟩] (htab.trans rfl) (fun _ h => absurd h List.not_mem_nil) (by decide) (by decide) (C.2.2.2.2.1 _ q2_106) (va_Nw.use rfl (hw.1 _ (List.mem_of_getElem? (i := 0) rfl))) h1 h2 h3 ?_
      refine W.eq (g2 := F0 m 19 ls [.ref q9]) rfl ?_
      refine lv_astore (pc := 19) (lv' := [(7, .ref q9), (0, .ref (g_ad G 60)), (1, .int a1), (2, .int a2), (3, .int a3), (4, .int a4), (5, .int a5), (6, .ref (g_ad G 106))]) hx hb dL_grant_19 hl (by decide) rfl (fun ls hl => ?_)
      refine lv_iconst (pc := 21) (v := 1) hx hb dL_grant_21 (by decide) ?_
      refine W.widen (k := 5) (n := 30) (by decide) (by decide) ?_
      exact hret 22 _ _ _ _ s7 x dL_grant_22 h hM
    · refine vx_catch (own := RL) (name := "java/lang/IllegalArgumentException") C.2.2.2.1 [⟨0, 16, 19, 13⟩] ⟨0, 16, 23, 15⟩ [⟨0, 16, 27, 17⟩] (htab.trans rfl) (List.forall_mem_cons.mpr ⟨Or.inr ⟨by decide, "java/lang/IndexOutOfBoundsException", C.2.2.2.2.1 _ q2_106, hw.2.2 _ (List.mem_of_getElem? (i := 0) rfl)⟩, fun _ h => absurd h List.not_mem_nil⟩) (by decide) (by decide) (C.2.2.2.2.1 _ q2_185) (va_Nw.use rfl (hw.1 _ (List.mem_of_getElem? (i := 1) rfl))) h1 h2 h3 ?_
      refine W.eq (g2 := F0 m 23 ls [.ref q9]) rfl ?_
      refine lv_astore (pc := 23) (lv' := [(7, .ref q9), (0, .ref (g_ad G 60)), (1, .int a1), (2, .int a2), (3, .int a3), (4, .int a4), (5, .int a5), (6, .ref (g_ad G 106))]) hx hb dL_grant_23 hl (by decide) rfl (fun ls hl => ?_)
      refine lv_iconst (pc := 25) (v := 2) hx hb dL_grant_25 (by decide) ?_
      refine W.widen (k := 5) (n := 30) (by decide) (by decide) ?_
      exact hret 26 _ _ _ _ s7 x dL_grant_26 h hM
    · refine vx_catch (own := RL) (name := "java/lang/IllegalStateException") C.2.2.2.1 [⟨0, 16, 19, 13⟩, ⟨0, 16, 23, 15⟩] ⟨0, 16, 27, 17⟩ [] (htab.trans rfl) (List.forall_mem_cons.mpr ⟨Or.inr ⟨by decide, "java/lang/IndexOutOfBoundsException", C.2.2.2.2.1 _ q2_106, hw.2.2 _ (List.mem_of_getElem? (i := 1) rfl)⟩, List.forall_mem_cons.mpr ⟨Or.inr ⟨by decide, "java/lang/IllegalArgumentException", C.2.2.2.2.1 _ q2_185, hw.2.2 _ (List.mem_of_getElem? (i := 2) rfl)⟩, fun _ h => absurd h List.not_mem_nil⟩⟩) (by decide) (by decide) (C.2.2.2.2.1 _ q2_186) (va_Nw.use rfl (hw.1 _ (List.mem_of_getElem? (i := 2) rfl))) h1 h2 h3 ?_
      refine W.eq (g2 := F0 m 27 ls [.ref q9]) rfl ?_
      refine lv_astore (pc := 27) (lv' := [(7, .ref q9), (0, .ref (g_ad G 60)), (1, .int a1), (2, .int a2), (3, .int a3), (4, .int a4), (5, .int a5), (6, .ref (g_ad G 106))]) hx hb dL_grant_27 hl (by decide) rfl (fun ls hl => ?_)
      refine lv_iconst (pc := 29) (v := 3) hx hb dL_grant_29 (by decide) ?_
      refine W.widen (k := 5) (n := 30) (by decide) (by decide) ?_
      exact hret 30 _ _ _ _ s7 x dL_grant_30 h hM
  · refine lv_i2l (pc := 14) (v := r.toInt64) hx hb dL_grant_14 rfl ?_
    refine g_last (pc := 15) C hM dL_grant_15 (fun H locs hM => ?_)
    refine lv_goto (pc := 16) (tgt := 31) hx hb dL_grant_16 (by decide) ?_
    refine lv_iconst (pc := 31) (v := 0) hx hb dL_grant_31 (by decide) ?_
    refine W.widen (k := 5) (n := 30) (by decide) (by decide) ?_
    exact hret 32 _ _ _ _ s7 (r.toInt64, x.2) dL_grant_32 h hM
abbrev rm_L_revoke : Room := { frames := 9, cells := 4, slots := 24, locals := 167 }
theorem dL_revoke_0 : decode cL_revoke 0 = .ok (.aload 4, 2) := by decide +kernel
theorem dL_revoke_2 : decode cL_revoke 2 = .ok (.iconst 0, 1) := by decide +kernel
theorem dL_revoke_3 : decode cL_revoke 3 = .ok (.aload_n 0, 1) := by decide +kernel
theorem dL_revoke_4 : decode cL_revoke 4 = .ok (.iload_n 1, 1) := by decide +kernel
theorem dL_revoke_5 : decode cL_revoke 5 = .ok (.iload_n 2, 1) := by decide +kernel
theorem dL_revoke_6 : decode cL_revoke 6 = .ok (.iload_n 3, 1) := by decide +kernel
theorem dL_revoke_7 : decode cL_revoke 7 = .ok (.invokevirtual 51, 3) := by decide +kernel
theorem dL_revoke_10 : decode cL_revoke 10 = .ok (.i2l, 1) := by decide +kernel
theorem dL_revoke_11 : decode cL_revoke 11 = .ok (.lastore, 1) := by decide +kernel
theorem dL_revoke_12 : decode cL_revoke 12 = .ok (.goto 11, 3) := by decide +kernel
theorem dL_revoke_15 : decode cL_revoke 15 = .ok (.astore 5, 2) := by decide +kernel
theorem dL_revoke_17 : decode cL_revoke 17 = .ok (.iconst 1, 1) := by decide +kernel
theorem dL_revoke_18 : decode cL_revoke 18 = .ok (.ireturn, 1) := by decide +kernel
theorem dL_revoke_19 : decode cL_revoke 19 = .ok (.astore 5, 2) := by decide +kernel
theorem dL_revoke_21 : decode cL_revoke 21 = .ok (.iconst 2, 1) := by decide +kernel
theorem dL_revoke_22 : decode cL_revoke 22 = .ok (.ireturn, 1) := by decide +kernel
theorem dL_revoke_23 : decode cL_revoke 23 = .ok (.iconst 0, 1) := by decide +kernel
theorem dL_revoke_24 : decode cL_revoke 24 = .ok (.ireturn, 1) := by decide +kernel
set_option maxHeartbeats 4000000 in
set_option maxRecDepth 100000 in
theorem w_L_revoke (l : Launch) (hl0 : l.stackTraces = false) (G : GP) (a1 : Int32) (a2 : Int32) (a3 : Int32) (σ : Sto) (x : XP) (P : Int32 → Sto × XP → Prop) (h : D_L_revoke a1 a2 a3 σ x P) : g_Metw l yL_revoke cL_revoke 6 [(0, 12, 15, 13), (0, 12, 19, 54)] rm_L_revoke G [.ref (g_ad G 60), .int a1, .int a2, .int a3, .ref (g_ad G 106)] σ x P := by
  unfold D_L_revoke at h
  refine g_ofWw (by decide +kernel) (Nat.le_of_ble_eq_true rfl) ?_
  intro p e s m args below meth c Q ls C htab hM hl hret
  have hx := C.1
  have hb := C.2.1
  have hw := C.2.2.2.2.2.2.2.2.2.2.2
  have hl : lv_has ls 6 [(0, .ref (g_ad G 60)), (1, .int a1), (2, .int a2), (3, .int a3), (4, .ref (g_ad G 106))] := hl
  refine lv_aload (pc := 0) hx hb dL_revoke_0 (lv_at hl 4 rfl) ?_
  refine lv_iconst (pc := 2) (v := 0) hx hb dL_revoke_2 (by decide) ?_
  refine lv_aload_n (pc := 3) hx hb dL_revoke_3 rfl (lv_at hl 0 rfl) ?_
  refine lv_iload_n (pc := 4) hx hb dL_revoke_4 rfl (lv_at hl 1 rfl) ?_
  refine lv_iload_n (pc := 5) hx hb dL_revoke_5 rfl (lv_at hl 2 rfl) ?_
  refine lv_iload_n (pc := 6) hx hb dL_revoke_6 rfl (lv_at hl 3 rfl) ?_
  refine g_wVi (pc := 7) C hM hl.1 yv_X11_revoke q3_157 (by decide) ce_60 rfl (w_X11_revoke l hl0 G x a1 a2 a3 σ _ _ h) rfl rfl ⟨⟨by decide, by decide⟩, by decide, by decide⟩ (Nat.le_of_ble_eq_true rfl) dL_revoke_7 (fun E ce q9 s7 H locs h hM h1 h2 h3 => ?_) (fun r s7 H locs h hM => ?_)
  · rcases h with ⟨rfl, h⟩ | ⟨rfl, h⟩
    · refine vx_catch (own := RL) (name := "java/lang/IndexOutOfBoundsException") C.2.2.2.1 [] ⟨0, 12, 15, 13⟩ [⟨0, 12, 19, 54⟩] (htab.trans rfl) (fun _ h => absurd h List.not_mem_nil) (by decide) (by decide) (C.2.2.2.2.1 _ q2_106) (va_Nw.use rfl (hw.1 _ (List.mem_of_getElem? (i := 0) rfl))) h1 h2 h3 ?_
      refine W.eq (g2 := F0 m 15 ls [.ref q9]) rfl ?_
      refine lv_astore (pc := 15) (lv' := [(5, .ref q9), (0, .ref (g_ad G 60)), (1, .int a1), (2, .int a2), (3, .int a3), (4, .ref (g_ad G 106))]) hx hb dL_revoke_15 hl (by decide) rfl (fun ls hl => ?_)
      refine lv_iconst (pc := 17) (v := 1) hx hb dL_revoke_17 (by decide) ?_
      refine W.widen (k := 4) (n := 24) (by decide) (by decide) ?_
      exact hret 18 _ _ _ _ s7 x dL_revoke_18 h hM
    · refine vx_catch (own := RL) (name := "java/util/NoSuchElementException") C.2.2.2.1 [⟨0, 12, 15, 13⟩] ⟨0, 12, 19, 54⟩ [] (htab.trans rfl) (List.forall_mem_cons.mpr ⟨Or.inr ⟨by decide, "java/lang/IndexOutOfBoundsException", C.2.2.2.2.1 _ q2_106, hw.2.2 _ (List.mem_of_getElem? (i := 3) rfl)⟩, fun _ h => absurd h List.not_mem_nil⟩) (by decide) (by decide) (C.2.2.2.2.1 _ q3_156) (va_Nw.use rfl (hw.1 _ (List.mem_of_getElem? (i := 3) rfl))) h1 h2 h3 ?_
      refine W.eq (g2 := F0 m 19 ls [.ref q9]) rfl ?_
      refine lv_astore (pc := 19) (lv' := [(5, .ref q9), (0, .ref (g_ad G 60)), (1, .int a1), (2, .int a2), (3, .int a3), (4, .ref (g_ad G 106))]) hx hb dL_revoke_19 hl (by decide) rfl (fun ls hl => ?_)
      refine lv_iconst (pc := 21) (v := 2) hx hb dL_revoke_21 (by decide) ?_
      refine W.widen (k := 4) (n := 24) (by decide) (by decide) ?_
      exact hret 22 _ _ _ _ s7 x dL_revoke_22 h hM
  · refine lv_i2l (pc := 10) (v := r.toInt64) hx hb dL_revoke_10 rfl ?_
    refine g_last (pc := 11) C hM dL_revoke_11 (fun H locs hM => ?_)
    refine lv_goto (pc := 12) (tgt := 23) hx hb dL_revoke_12 (by decide) ?_
    refine lv_iconst (pc := 23) (v := 0) hx hb dL_revoke_23 (by decide) ?_
    refine W.widen (k := 4) (n := 24) (by decide) (by decide) ?_
    exact hret 24 _ _ _ _ s7 (r.toInt64, x.2) dL_revoke_24 h hM
abbrev rm_L_grantAt : Room := { frames := 8, cells := 2, slots := 12, locals := 143 }
theorem dL_grantAt_0 : decode cL_grantAt 0 = .ok (.aload_n 3, 1) := by decide +kernel
theorem dL_grantAt_1 : decode cL_grantAt 1 = .ok (.iconst 0, 1) := by decide +kernel
theorem dL_grantAt_2 : decode cL_grantAt 2 = .ok (.aload_n 0, 1) := by decide +kernel
theorem dL_grantAt_3 : decode cL_grantAt 3 = .ok (.iload_n 1, 1) := by decide +kernel
theorem dL_grantAt_4 : decode cL_grantAt 4 = .ok (.iload_n 2, 1) := by decide +kernel
theorem dL_grantAt_5 : decode cL_grantAt 5 = .ok (.invokevirtual 56, 3) := by decide +kernel
theorem dL_grantAt_8 : decode cL_grantAt 8 = .ok (.i2l, 1) := by decide +kernel
theorem dL_grantAt_9 : decode cL_grantAt 9 = .ok (.lastore, 1) := by decide +kernel
theorem dL_grantAt_10 : decode cL_grantAt 10 = .ok (.goto 11, 3) := by decide +kernel
theorem dL_grantAt_13 : decode cL_grantAt 13 = .ok (.astore 4, 2) := by decide +kernel
theorem dL_grantAt_15 : decode cL_grantAt 15 = .ok (.iconst 1, 1) := by decide +kernel
theorem dL_grantAt_16 : decode cL_grantAt 16 = .ok (.ireturn, 1) := by decide +kernel
theorem dL_grantAt_17 : decode cL_grantAt 17 = .ok (.astore 4, 2) := by decide +kernel
theorem dL_grantAt_19 : decode cL_grantAt 19 = .ok (.iconst 2, 1) := by decide +kernel
theorem dL_grantAt_20 : decode cL_grantAt 20 = .ok (.ireturn, 1) := by decide +kernel
theorem dL_grantAt_21 : decode cL_grantAt 21 = .ok (.iconst 0, 1) := by decide +kernel
theorem dL_grantAt_22 : decode cL_grantAt 22 = .ok (.ireturn, 1) := by decide +kernel
set_option maxHeartbeats 4000000 in
set_option maxRecDepth 100000 in
theorem w_L_grantAt (l : Launch) (hl0 : l.stackTraces = false) (G : GP) (a1 : Int32) (a2 : Int32) (σ : Sto) (x : XP) (P : Int32 → Sto × XP → Prop) (h : D_L_grantAt a1 a2 σ x P) : g_Metw l yL_grantAt cL_grantAt 5 [(0, 10, 13, 13), (0, 10, 17, 15)] rm_L_grantAt G [.ref (g_ad G 60), .int a1, .int a2, .ref (g_ad G 106)] σ x P := by
  unfold D_L_grantAt at h
  refine g_ofWw (by decide +kernel) (Nat.le_of_ble_eq_true rfl) ?_
  intro p e s m args below meth c Q ls C htab hM hl hret
  have hx := C.1
  have hb := C.2.1
  have hw := C.2.2.2.2.2.2.2.2.2.2.2
  have hl : lv_has ls 5 [(0, .ref (g_ad G 60)), (1, .int a1), (2, .int a2), (3, .ref (g_ad G 106))] := hl
  refine lv_aload_n (pc := 0) hx hb dL_grantAt_0 rfl (lv_at hl 3 rfl) ?_
  refine lv_iconst (pc := 1) (v := 0) hx hb dL_grantAt_1 (by decide) ?_
  refine lv_aload_n (pc := 2) hx hb dL_grantAt_2 rfl (lv_at hl 0 rfl) ?_
  refine lv_iload_n (pc := 3) hx hb dL_grantAt_3 rfl (lv_at hl 1 rfl) ?_
  refine lv_iload_n (pc := 4) hx hb dL_grantAt_4 rfl (lv_at hl 2 rfl) ?_
  refine g_wVi (pc := 5) C hM hl.1 yv_X11_grantAt q3_186 (by decide) ce_60 rfl (w_X11_grantAt l hl0 G x a1 a2 σ _ _ h) rfl rfl ⟨⟨by decide, by decide⟩, by decide, by decide⟩ (Nat.le_of_ble_eq_true rfl) dL_grantAt_5 (fun E ce q9 s7 H locs h hM h1 h2 h3 => ?_) (fun r s7 H locs h hM => ?_)
  · rcases h with ⟨rfl, h⟩ | ⟨rfl, h⟩
    · refine vx_catch (own := RL) (name := "java/lang/IndexOutOfBoundsException") C.2.2.2.1 [] ⟨0, 10, 13, 13⟩ [⟨0, 10, 17, 15⟩] (htab.trans rfl) (fun _ h => absurd h List.not_mem_nil) (by decide) (by decide) (C.2.2.2.2.1 _ q2_106) (va_Nw.use rfl (hw.1 _ (List.mem_of_getElem? (i := 0) rfl))) h1 h2 h3 ?_
      refine W.eq (g2 := F0 m 13 ls [.ref q9]) rfl ?_
      refine lv_astore (pc := 13) (lv' := [(4, .ref q9), (0, .ref (g_ad G 60)), (1, .int a1), (2, .int a2), (3, .ref (g_ad G 106))]) hx hb dL_grantAt_13 hl (by decide) rfl (fun ls hl => ?_)
      refine lv_iconst (pc := 15) (v := 1) hx hb dL_grantAt_15 (by decide) ?_
      refine W.widen (k := 2) (n := 12) (by decide) (by decide) ?_
      exact hret 16 _ _ _ _ s7 x dL_grantAt_16 h hM
    · refine vx_catch (own := RL) (name := "java/lang/IllegalArgumentException") C.2.2.2.1 [⟨0, 10, 13, 13⟩] ⟨0, 10, 17, 15⟩ [] (htab.trans rfl) (List.forall_mem_cons.mpr ⟨Or.inr ⟨by decide, "java/lang/IndexOutOfBoundsException", C.2.2.2.2.1 _ q2_106, hw.2.2 _ (List.mem_of_getElem? (i := 0) rfl)⟩, fun _ h => absurd h List.not_mem_nil⟩) (by decide) (by decide) (C.2.2.2.2.1 _ q2_185) (va_Nw.use rfl (hw.1 _ (List.mem_of_getElem? (i := 1) rfl))) h1 h2 h3 ?_
      refine W.eq (g2 := F0 m 17 ls [.ref q9]) rfl ?_
      refine lv_astore (pc := 17) (lv' := [(4, .ref q9), (0, .ref (g_ad G 60)), (1, .int a1), (2, .int a2), (3, .ref (g_ad G 106))]) hx hb dL_grantAt_17 hl (by decide) rfl (fun ls hl => ?_)
      refine lv_iconst (pc := 19) (v := 2) hx hb dL_grantAt_19 (by decide) ?_
      refine W.widen (k := 2) (n := 12) (by decide) (by decide) ?_
      exact hret 20 _ _ _ _ s7 x dL_grantAt_20 h hM
  · refine lv_i2l (pc := 8) (v := r.toInt64) hx hb dL_grantAt_8 rfl ?_
    refine g_last (pc := 9) C hM dL_grantAt_9 (fun H locs hM => ?_)
    refine lv_goto (pc := 10) (tgt := 21) hx hb dL_grantAt_10 (by decide) ?_
    refine lv_iconst (pc := 21) (v := 0) hx hb dL_grantAt_21 (by decide) ?_
    refine W.widen (k := 2) (n := 12) (by decide) (by decide) ?_
    exact hret 22 _ _ _ _ s7 (r.toInt64, x.2) dL_grantAt_22 h hM
abbrev rm_L_policies : Room := { frames := 8, cells := 1, slots := 6, locals := 142 }
theorem dL_policies_0 : decode cL_policies 0 = .ok (.aload_n 2, 1) := by decide +kernel
theorem dL_policies_1 : decode cL_policies 1 = .ok (.iconst 0, 1) := by decide +kernel
theorem dL_policies_2 : decode cL_policies 2 = .ok (.aload_n 0, 1) := by decide +kernel
theorem dL_policies_3 : decode cL_policies 3 = .ok (.iload_n 1, 1) := by decide +kernel
theorem dL_policies_4 : decode cL_policies 4 = .ok (.invokevirtual 59, 3) := by decide +kernel
theorem dL_policies_7 : decode cL_policies 7 = .ok (.i2l, 1) := by decide +kernel
theorem dL_policies_8 : decode cL_policies 8 = .ok (.lastore, 1) := by decide +kernel
theorem dL_policies_9 : decode cL_policies 9 = .ok (.goto 6, 3) := by decide +kernel
theorem dL_policies_12 : decode cL_policies 12 = .ok (.astore_n 3, 1) := by decide +kernel
theorem dL_policies_13 : decode cL_policies 13 = .ok (.iconst 1, 1) := by decide +kernel
theorem dL_policies_14 : decode cL_policies 14 = .ok (.ireturn, 1) := by decide +kernel
theorem dL_policies_15 : decode cL_policies 15 = .ok (.iconst 0, 1) := by decide +kernel
theorem dL_policies_16 : decode cL_policies 16 = .ok (.ireturn, 1) := by decide +kernel
set_option maxHeartbeats 4000000 in
set_option maxRecDepth 100000 in
theorem w_L_policies (l : Launch) (hl0 : l.stackTraces = false) (G : GP) (a1 : Int32) (σ : Sto) (x : XP) (P : Int32 → Sto × XP → Prop) (h : D_L_policies a1 σ x P) : g_Metw l yL_policies cL_policies 4 [(0, 9, 12, 13)] rm_L_policies G [.ref (g_ad G 60), .int a1, .ref (g_ad G 106)] σ x P := by
  unfold D_L_policies at h
  refine g_ofWw (by decide +kernel) (Nat.le_of_ble_eq_true rfl) ?_
  intro p e s m args below meth c Q ls C htab hM hl hret
  have hx := C.1
  have hb := C.2.1
  have hw := C.2.2.2.2.2.2.2.2.2.2.2
  have hl : lv_has ls 4 [(0, .ref (g_ad G 60)), (1, .int a1), (2, .ref (g_ad G 106))] := hl
  refine lv_aload_n (pc := 0) hx hb dL_policies_0 rfl (lv_at hl 2 rfl) ?_
  refine lv_iconst (pc := 1) (v := 0) hx hb dL_policies_1 (by decide) ?_
  refine lv_aload_n (pc := 2) hx hb dL_policies_2 rfl (lv_at hl 0 rfl) ?_
  refine lv_iload_n (pc := 3) hx hb dL_policies_3 rfl (lv_at hl 1 rfl) ?_
  refine g_wVi (pc := 4) C hM hl.1 yv_X11_policies q3_194 (by decide) ce_60 rfl (w_X11_policies l hl0 G x a1 σ _ _ h) rfl rfl ⟨⟨by decide, by decide⟩, by decide, by decide⟩ (Nat.le_of_ble_eq_true rfl) dL_policies_4 (fun E ce q9 s7 H locs h hM h1 h2 h3 => ?_) (fun r s7 H locs h hM => ?_)
  · obtain ⟨rfl, h⟩ := h
    refine vx_catch (own := RL) (name := "java/lang/IndexOutOfBoundsException") C.2.2.2.1 [] ⟨0, 9, 12, 13⟩ [] (htab.trans rfl) (fun _ h => absurd h List.not_mem_nil) (by decide) (by decide) (C.2.2.2.2.1 _ q2_106) (va_Nw.use rfl (hw.1 _ (List.mem_of_getElem? (i := 0) rfl))) h1 h2 h3 ?_
    refine W.eq (g2 := F0 m 12 ls [.ref q9]) rfl ?_
    refine lv_astore_n (pc := 12) (lv' := [(3, .ref q9), (0, .ref (g_ad G 60)), (1, .int a1), (2, .ref (g_ad G 106))]) hx hb dL_policies_12 rfl hl (by decide) rfl (fun ls hl => ?_)
    refine lv_iconst (pc := 13) (v := 1) hx hb dL_policies_13 (by decide) ?_
    refine W.widen (k := 1) (n := 6) (by decide) (by decide) ?_
    exact hret 14 _ _ _ _ s7 x dL_policies_14 h hM
  · refine lv_i2l (pc := 7) (v := r.toInt64) hx hb dL_policies_7 rfl ?_
    refine g_last (pc := 8) C hM dL_policies_8 (fun H locs hM => ?_)
    refine lv_goto (pc := 9) (tgt := 15) hx hb dL_policies_9 (by decide) ?_
    refine lv_iconst (pc := 15) (v := 0) hx hb dL_policies_15 (by decide) ?_
    refine W.widen (k := 1) (n := 6) (by decide) (by decide) ?_
    exact hret 16 _ _ _ _ s7 (r.toInt64, x.2) dL_policies_16 h hM
abbrev rm_L_chainLength : Room := { frames := 8, cells := 3, slots := 18, locals := 144 }
theorem dL_chainLength_0 : decode cL_chainLength 0 = .ok (.aload_n 3, 1) := by decide +kernel
theorem dL_chainLength_1 : decode cL_chainLength 1 = .ok (.iconst 0, 1) := by decide +kernel
theorem dL_chainLength_2 : decode cL_chainLength 2 = .ok (.aload_n 0, 1) := by decide +kernel
theorem dL_chainLength_3 : decode cL_chainLength 3 = .ok (.iload_n 1, 1) := by decide +kernel
theorem dL_chainLength_4 : decode cL_chainLength 4 = .ok (.iload_n 2, 1) := by decide +kernel
theorem dL_chainLength_5 : decode cL_chainLength 5 = .ok (.invokevirtual 62, 3) := by decide +kernel
theorem dL_chainLength_8 : decode cL_chainLength 8 = .ok (.i2l, 1) := by decide +kernel
theorem dL_chainLength_9 : decode cL_chainLength 9 = .ok (.lastore, 1) := by decide +kernel
theorem dL_chainLength_10 : decode cL_chainLength 10 = .ok (.goto 11, 3) := by decide +kernel
theorem dL_chainLength_13 : decode cL_chainLength 13 = .ok (.astore 4, 2) := by decide +kernel
theorem dL_chainLength_15 : decode cL_chainLength 15 = .ok (.iconst 1, 1) := by decide +kernel
theorem dL_chainLength_16 : decode cL_chainLength 16 = .ok (.ireturn, 1) := by decide +kernel
theorem dL_chainLength_17 : decode cL_chainLength 17 = .ok (.astore 4, 2) := by decide +kernel
theorem dL_chainLength_19 : decode cL_chainLength 19 = .ok (.iconst 2, 1) := by decide +kernel
theorem dL_chainLength_20 : decode cL_chainLength 20 = .ok (.ireturn, 1) := by decide +kernel
theorem dL_chainLength_21 : decode cL_chainLength 21 = .ok (.iconst 0, 1) := by decide +kernel
theorem dL_chainLength_22 : decode cL_chainLength 22 = .ok (.ireturn, 1) := by decide +kernel
set_option maxHeartbeats 4000000 in
set_option maxRecDepth 100000 in
theorem w_L_chainLength (l : Launch) (hl0 : l.stackTraces = false) (G : GP) (a1 : Int32) (a2 : Int32) (σ : Sto) (x : XP) (P : Int32 → Sto × XP → Prop) (h : D_L_chainLength a1 a2 σ x P) : g_Metw l yL_chainLength cL_chainLength 5 [(0, 10, 13, 13), (0, 10, 17, 54)] rm_L_chainLength G [.ref (g_ad G 60), .int a1, .int a2, .ref (g_ad G 106)] σ x P := by
  unfold D_L_chainLength at h
  refine g_ofWw (by decide +kernel) (Nat.le_of_ble_eq_true rfl) ?_
  intro p e s m args below meth c Q ls C htab hM hl hret
  have hx := C.1
  have hb := C.2.1
  have hw := C.2.2.2.2.2.2.2.2.2.2.2
  have hl : lv_has ls 5 [(0, .ref (g_ad G 60)), (1, .int a1), (2, .int a2), (3, .ref (g_ad G 106))] := hl
  refine lv_aload_n (pc := 0) hx hb dL_chainLength_0 rfl (lv_at hl 3 rfl) ?_
  refine lv_iconst (pc := 1) (v := 0) hx hb dL_chainLength_1 (by decide) ?_
  refine lv_aload_n (pc := 2) hx hb dL_chainLength_2 rfl (lv_at hl 0 rfl) ?_
  refine lv_iload_n (pc := 3) hx hb dL_chainLength_3 rfl (lv_at hl 1 rfl) ?_
  refine lv_iload_n (pc := 4) hx hb dL_chainLength_4 rfl (lv_at hl 2 rfl) ?_
  refine g_wVi (pc := 5) C hM hl.1 yv_X11_chainLength q3_214 (by decide) ce_60 rfl (w_X11_chainLength l hl0 G x a1 a2 σ _ _ h) rfl rfl ⟨⟨by decide, by decide⟩, by decide, by decide⟩ (Nat.le_of_ble_eq_true rfl) dL_chainLength_5 (fun E ce q9 s7 H locs h hM h1 h2 h3 => ?_) (fun r s7 H locs h hM => ?_)
  · rcases h with ⟨rfl, h⟩ | ⟨rfl, h⟩
    · refine vx_catch (own := RL) (name := "java/lang/IndexOutOfBoundsException") C.2.2.2.1 [] ⟨0, 10, 13, 13⟩ [⟨0, 10, 17, 54⟩] (htab.trans rfl) (fun _ h => absurd h List.not_mem_nil) (by decide) (by decide) (C.2.2.2.2.1 _ q2_106) (va_Nw.use rfl (hw.1 _ (List.mem_of_getElem? (i := 0) rfl))) h1 h2 h3 ?_
      refine W.eq (g2 := F0 m 13 ls [.ref q9]) rfl ?_
      refine lv_astore (pc := 13) (lv' := [(4, .ref q9), (0, .ref (g_ad G 60)), (1, .int a1), (2, .int a2), (3, .ref (g_ad G 106))]) hx hb dL_chainLength_13 hl (by decide) rfl (fun ls hl => ?_)
      refine lv_iconst (pc := 15) (v := 1) hx hb dL_chainLength_15 (by decide) ?_
      refine W.widen (k := 3) (n := 18) (by decide) (by decide) ?_
      exact hret 16 _ _ _ _ s7 x dL_chainLength_16 h hM
    · refine vx_catch (own := RL) (name := "java/util/NoSuchElementException") C.2.2.2.1 [⟨0, 10, 13, 13⟩] ⟨0, 10, 17, 54⟩ [] (htab.trans rfl) (List.forall_mem_cons.mpr ⟨Or.inr ⟨by decide, "java/lang/IndexOutOfBoundsException", C.2.2.2.2.1 _ q2_106, hw.2.2 _ (List.mem_of_getElem? (i := 3) rfl)⟩, fun _ h => absurd h List.not_mem_nil⟩) (by decide) (by decide) (C.2.2.2.2.1 _ q3_156) (va_Nw.use rfl (hw.1 _ (List.mem_of_getElem? (i := 3) rfl))) h1 h2 h3 ?_
      refine W.eq (g2 := F0 m 17 ls [.ref q9]) rfl ?_
      refine lv_astore (pc := 17) (lv' := [(4, .ref q9), (0, .ref (g_ad G 60)), (1, .int a1), (2, .int a2), (3, .ref (g_ad G 106))]) hx hb dL_chainLength_17 hl (by decide) rfl (fun ls hl => ?_)
      refine lv_iconst (pc := 19) (v := 2) hx hb dL_chainLength_19 (by decide) ?_
      refine W.widen (k := 3) (n := 18) (by decide) (by decide) ?_
      exact hret 20 _ _ _ _ s7 x dL_chainLength_20 h hM
  · refine lv_i2l (pc := 8) (v := r.toInt64) hx hb dL_chainLength_8 rfl ?_
    refine g_last (pc := 9) C hM dL_chainLength_9 (fun H locs hM => ?_)
    refine lv_goto (pc := 10) (tgt := 21) hx hb dL_chainLength_10 (by decide) ?_
    refine lv_iconst (pc := 21) (v := 0) hx hb dL_chainLength_21 (by decide) ?_
    refine W.widen (k := 3) (n := 18) (by decide) (by decide) ?_
    exact hret 22 _ _ _ _ s7 (r.toInt64, x.2) dL_chainLength_22 h hM
abbrev rm_L_chain : Room := { frames := 8, cells := 3, slots := 18, locals := 145 }
theorem dL_chain_0 : decode cL_chain 0 = .ok (.aload 4, 2) := by decide +kernel
theorem dL_chain_2 : decode cL_chain 2 = .ok (.iconst 0, 1) := by decide +kernel
theorem dL_chain_3 : decode cL_chain 3 = .ok (.aload_n 0, 1) := by decide +kernel
theorem dL_chain_4 : decode cL_chain 4 = .ok (.iload_n 1, 1) := by decide +kernel
theorem dL_chain_5 : decode cL_chain 5 = .ok (.iload_n 2, 1) := by decide +kernel
theorem dL_chain_6 : decode cL_chain 6 = .ok (.iload_n 3, 1) := by decide +kernel
theorem dL_chain_7 : decode cL_chain 7 = .ok (.invokevirtual 65, 3) := by decide +kernel
theorem dL_chain_10 : decode cL_chain 10 = .ok (.i2l, 1) := by decide +kernel
theorem dL_chain_11 : decode cL_chain 11 = .ok (.lastore, 1) := by decide +kernel
theorem dL_chain_12 : decode cL_chain 12 = .ok (.goto 11, 3) := by decide +kernel
theorem dL_chain_15 : decode cL_chain 15 = .ok (.astore 5, 2) := by decide +kernel
theorem dL_chain_17 : decode cL_chain 17 = .ok (.iconst 1, 1) := by decide +kernel
theorem dL_chain_18 : decode cL_chain 18 = .ok (.ireturn, 1) := by decide +kernel
theorem dL_chain_19 : decode cL_chain 19 = .ok (.astore 5, 2) := by decide +kernel
theorem dL_chain_21 : decode cL_chain 21 = .ok (.iconst 2, 1) := by decide +kernel
theorem dL_chain_22 : decode cL_chain 22 = .ok (.ireturn, 1) := by decide +kernel
theorem dL_chain_23 : decode cL_chain 23 = .ok (.iconst 0, 1) := by decide +kernel
theorem dL_chain_24 : decode cL_chain 24 = .ok (.ireturn, 1) := by decide +kernel
set_option maxHeartbeats 4000000 in
set_option maxRecDepth 100000 in
theorem w_L_chain (l : Launch) (hl0 : l.stackTraces = false) (G : GP) (a1 : Int32) (a2 : Int32) (a3 : Int32) (σ : Sto) (x : XP) (P : Int32 → Sto × XP → Prop) (h : D_L_chain a1 a2 a3 σ x P) : g_Metw l yL_chain cL_chain 6 [(0, 12, 15, 13), (0, 12, 19, 54)] rm_L_chain G [.ref (g_ad G 60), .int a1, .int a2, .int a3, .ref (g_ad G 106)] σ x P := by
  unfold D_L_chain at h
  refine g_ofWw (by decide +kernel) (Nat.le_of_ble_eq_true rfl) ?_
  intro p e s m args below meth c Q ls C htab hM hl hret
  have hx := C.1
  have hb := C.2.1
  have hw := C.2.2.2.2.2.2.2.2.2.2.2
  have hl : lv_has ls 6 [(0, .ref (g_ad G 60)), (1, .int a1), (2, .int a2), (3, .int a3), (4, .ref (g_ad G 106))] := hl
  refine lv_aload (pc := 0) hx hb dL_chain_0 (lv_at hl 4 rfl) ?_
  refine lv_iconst (pc := 2) (v := 0) hx hb dL_chain_2 (by decide) ?_
  refine lv_aload_n (pc := 3) hx hb dL_chain_3 rfl (lv_at hl 0 rfl) ?_
  refine lv_iload_n (pc := 4) hx hb dL_chain_4 rfl (lv_at hl 1 rfl) ?_
  refine lv_iload_n (pc := 5) hx hb dL_chain_5 rfl (lv_at hl 2 rfl) ?_
  refine lv_iload_n (pc := 6) hx hb dL_chain_6 rfl (lv_at hl 3 rfl) ?_
  refine g_wVi (pc := 7) C hM hl.1 yv_X11_chain q3_222 (by decide) ce_60 rfl (w_X11_chain l hl0 G x a1 a2 a3 σ _ _ h) rfl rfl ⟨⟨by decide, by decide⟩, by decide, by decide⟩ (Nat.le_of_ble_eq_true rfl) dL_chain_7 (fun E ce q9 s7 H locs h hM h1 h2 h3 => ?_) (fun r s7 H locs h hM => ?_)
  · rcases h with ⟨rfl, h⟩ | ⟨rfl, h⟩
    · refine vx_catch (own := RL) (name := "java/lang/IndexOutOfBoundsException") C.2.2.2.1 [] ⟨0, 12, 15, 13⟩ [⟨0, 12, 19, 54⟩] (htab.trans rfl) (fun _ h => absurd h List.not_mem_nil) (by decide) (by decide) (C.2.2.2.2.1 _ q2_106) (va_Nw.use rfl (hw.1 _ (List.mem_of_getElem? (i := 0) rfl))) h1 h2 h3 ?_
      refine W.eq (g2 := F0 m 15 ls [.ref q9]) rfl ?_
      refine lv_astore (pc := 15) (lv' := [(5, .ref q9), (0, .ref (g_ad G 60)), (1, .int a1), (2, .int a2), (3, .int a3), (4, .ref (g_ad G 106))]) hx hb dL_chain_15 hl (by decide) rfl (fun ls hl => ?_)
      refine lv_iconst (pc := 17) (v := 1) hx hb dL_chain_17 (by decide) ?_
      refine W.widen (k := 3) (n := 18) (by decide) (by decide) ?_
      exact hret 18 _ _ _ _ s7 x dL_chain_18 h hM
    · refine vx_catch (own := RL) (name := "java/util/NoSuchElementException") C.2.2.2.1 [⟨0, 12, 15, 13⟩] ⟨0, 12, 19, 54⟩ [] (htab.trans rfl) (List.forall_mem_cons.mpr ⟨Or.inr ⟨by decide, "java/lang/IndexOutOfBoundsException", C.2.2.2.2.1 _ q2_106, hw.2.2 _ (List.mem_of_getElem? (i := 3) rfl)⟩, fun _ h => absurd h List.not_mem_nil⟩) (by decide) (by decide) (C.2.2.2.2.1 _ q3_156) (va_Nw.use rfl (hw.1 _ (List.mem_of_getElem? (i := 3) rfl))) h1 h2 h3 ?_
      refine W.eq (g2 := F0 m 19 ls [.ref q9]) rfl ?_
      refine lv_astore (pc := 19) (lv' := [(5, .ref q9), (0, .ref (g_ad G 60)), (1, .int a1), (2, .int a2), (3, .int a3), (4, .ref (g_ad G 106))]) hx hb dL_chain_19 hl (by decide) rfl (fun ls hl => ?_)
      refine lv_iconst (pc := 21) (v := 2) hx hb dL_chain_21 (by decide) ?_
      refine W.widen (k := 3) (n := 18) (by decide) (by decide) ?_
      exact hret 22 _ _ _ _ s7 x dL_chain_22 h hM
  · refine lv_i2l (pc := 10) (v := r.toInt64) hx hb dL_chain_10 rfl ?_
    refine g_last (pc := 11) C hM dL_chain_11 (fun H locs hM => ?_)
    refine lv_goto (pc := 12) (tgt := 23) hx hb dL_chain_12 (by decide) ?_
    refine lv_iconst (pc := 23) (v := 0) hx hb dL_chain_23 (by decide) ?_
    refine W.widen (k := 3) (n := 18) (by decide) (by decide) ?_
    exact hret 24 _ _ _ _ s7 (r.toInt64, x.2) dL_chain_24 h hM
abbrev rm_L_lastsUntil : Room := { frames := 8, cells := 4, slots := 24, locals := 143 }
theorem dL_lastsUntil_0 : decode cL_lastsUntil 0 = .ok (.aload_n 3, 1) := by decide +kernel
theorem dL_lastsUntil_1 : decode cL_lastsUntil 1 = .ok (.iconst 0, 1) := by decide +kernel
theorem dL_lastsUntil_2 : decode cL_lastsUntil 2 = .ok (.aload_n 0, 1) := by decide +kernel
theorem dL_lastsUntil_3 : decode cL_lastsUntil 3 = .ok (.iload_n 1, 1) := by decide +kernel
theorem dL_lastsUntil_4 : decode cL_lastsUntil 4 = .ok (.iload_n 2, 1) := by decide +kernel
theorem dL_lastsUntil_5 : decode cL_lastsUntil 5 = .ok (.invokevirtual 68, 3) := by decide +kernel
theorem dL_lastsUntil_8 : decode cL_lastsUntil 8 = .ok (.i2l, 1) := by decide +kernel
theorem dL_lastsUntil_9 : decode cL_lastsUntil 9 = .ok (.lastore, 1) := by decide +kernel
theorem dL_lastsUntil_10 : decode cL_lastsUntil 10 = .ok (.goto 15, 3) := by decide +kernel
theorem dL_lastsUntil_13 : decode cL_lastsUntil 13 = .ok (.astore 4, 2) := by decide +kernel
theorem dL_lastsUntil_15 : decode cL_lastsUntil 15 = .ok (.iconst 1, 1) := by decide +kernel
theorem dL_lastsUntil_16 : decode cL_lastsUntil 16 = .ok (.ireturn, 1) := by decide +kernel
theorem dL_lastsUntil_17 : decode cL_lastsUntil 17 = .ok (.astore 4, 2) := by decide +kernel
theorem dL_lastsUntil_19 : decode cL_lastsUntil 19 = .ok (.iconst 2, 1) := by decide +kernel
theorem dL_lastsUntil_20 : decode cL_lastsUntil 20 = .ok (.ireturn, 1) := by decide +kernel
theorem dL_lastsUntil_21 : decode cL_lastsUntil 21 = .ok (.astore 4, 2) := by decide +kernel
theorem dL_lastsUntil_23 : decode cL_lastsUntil 23 = .ok (.iconst 3, 1) := by decide +kernel
theorem dL_lastsUntil_24 : decode cL_lastsUntil 24 = .ok (.ireturn, 1) := by decide +kernel
theorem dL_lastsUntil_25 : decode cL_lastsUntil 25 = .ok (.iconst 0, 1) := by decide +kernel
theorem dL_lastsUntil_26 : decode cL_lastsUntil 26 = .ok (.ireturn, 1) := by decide +kernel
set_option maxHeartbeats 4000000 in
set_option maxRecDepth 100000 in
theorem w_L_lastsUntil (l : Launch) (hl0 : l.stackTraces = false) (G : GP) (a1 : Int32) (a2 : Int32) (σ : Sto) (x : XP) (P : Int32 → Sto × XP → Prop) (h : D_L_lastsUntil a1 a2 σ x P) : g_Metw l yL_lastsUntil cL_lastsUntil 5 [(0, 10, 13, 13), (0, 10, 17, 15), (0, 10, 21, 54)] rm_L_lastsUntil G [.ref (g_ad G 60), .int a1, .int a2, .ref (g_ad G 106)] σ x P := by
  unfold D_L_lastsUntil at h
  refine g_ofWw (by decide +kernel) (Nat.le_of_ble_eq_true rfl) ?_
  intro p e s m args below meth c Q ls C htab hM hl hret
  have hx := C.1
  have hb := C.2.1
  have hw := C.2.2.2.2.2.2.2.2.2.2.2
  have hl : lv_has ls 5 [(0, .ref (g_ad G 60)), (1, .int a1), (2, .int a2), (3, .ref (g_ad G 106))] := hl
  refine lv_aload_n (pc := 0) hx hb dL_lastsUntil_0 rfl (lv_at hl 3 rfl) ?_
  refine lv_iconst (pc := 1) (v := 0) hx hb dL_lastsUntil_1 (by decide) ?_
  refine lv_aload_n (pc := 2) hx hb dL_lastsUntil_2 rfl (lv_at hl 0 rfl) ?_
  refine lv_iload_n (pc := 3) hx hb dL_lastsUntil_3 rfl (lv_at hl 1 rfl) ?_
  refine lv_iload_n (pc := 4) hx hb dL_lastsUntil_4 rfl (lv_at hl 2 rfl) ?_
  refine g_wVi (pc := 5) C hM hl.1 yv_X11_lastsUntil q4_0 (by decide) ce_60 rfl (w_X11_lastsUntil l hl0 G x a1 a2 σ _ _ h) rfl rfl ⟨⟨by decide, by decide⟩, by decide, by decide⟩ (Nat.le_of_ble_eq_true rfl) dL_lastsUntil_5 (fun E ce q9 s7 H locs h hM h1 h2 h3 => ?_) (fun r s7 H locs h hM => ?_)
  · rcases h with ⟨rfl, h⟩ | ⟨rfl, h⟩ | ⟨rfl, h⟩
    · refine vx_catch (own := RL) (name := "java/lang/IndexOutOfBoundsException") C.2.2.2.1 [] ⟨0, 10, 13, 13⟩ [⟨0, 10, 17, 15⟩, ⟨0, 10, 21, 54⟩] (htab.trans rfl) (fun _ h => absurd h List.not_mem_nil) (by decide) (by decide) (C.2.2.2.2.1 _ q2_106) (va_Nw.use rfl (hw.1 _ (List.mem_of_getElem? (i := 0) rfl))) h1 h2 h3 ?_
      refine W.eq (g2 := F0 m 13 ls [.ref q9]) rfl ?_
      refine lv_astore (pc := 13) (lv' := [(4, .ref q9), (0, .ref (g_ad G 60)), (1, .int a1), (2, .int a2), (3, .ref (g_ad G 106))]) hx hb dL_lastsUntil_13 hl (by decide) rfl (fun ls hl => ?_)
      refine lv_iconst (pc := 15) (v := 1) hx hb dL_lastsUntil_15 (by decide) ?_
      refine W.widen (k := 4) (n := 24) (by decide) (by decide) ?_
      exact hret 16 _ _ _ _ s7 x dL_lastsUntil_16 h hM
    · refine vx_catch (own := RL) (name := "java/lang/IllegalArgumentException") C.2.2.2.1 [⟨0, 10, 13, 13⟩] ⟨0, 10, 17, 15⟩ [⟨0, 10, 21, 54⟩] (htab.trans rfl) (List.forall_mem_cons.mpr ⟨Or.inr ⟨by decide, "java/lang/IndexOutOfBoundsException", C.2.2.2.2.1 _ q2_106, hw.2.2 _ (List.mem_of_getElem? (i := 0) rfl)⟩, fun _ h => absurd h List.not_mem_nil⟩) (by decide) (by decide) (C.2.2.2.2.1 _ q2_185) (va_Nw.use rfl (hw.1 _ (List.mem_of_getElem? (i := 1) rfl))) h1 h2 h3 ?_
      refine W.eq (g2 := F0 m 17 ls [.ref q9]) rfl ?_
      refine lv_astore (pc := 17) (lv' := [(4, .ref q9), (0, .ref (g_ad G 60)), (1, .int a1), (2, .int a2), (3, .ref (g_ad G 106))]) hx hb dL_lastsUntil_17 hl (by decide) rfl (fun ls hl => ?_)
      refine lv_iconst (pc := 19) (v := 2) hx hb dL_lastsUntil_19 (by decide) ?_
      refine W.widen (k := 4) (n := 24) (by decide) (by decide) ?_
      exact hret 20 _ _ _ _ s7 x dL_lastsUntil_20 h hM
    · refine vx_catch (own := RL) (name := "java/util/NoSuchElementException") C.2.2.2.1 [⟨0, 10, 13, 13⟩, ⟨0, 10, 17, 15⟩] ⟨0, 10, 21, 54⟩ [] (htab.trans rfl) (List.forall_mem_cons.mpr ⟨Or.inr ⟨by decide, "java/lang/IndexOutOfBoundsException", C.2.2.2.2.1 _ q2_106, hw.2.2 _ (List.mem_of_getElem? (i := 3) rfl)⟩, List.forall_mem_cons.mpr ⟨Or.inr ⟨by decide, "java/lang/IllegalArgumentException", C.2.2.2.2.1 _ q2_185, hw.2.2 _ (List.mem_of_getElem? (i := 4) rfl)⟩, fun _ h => absurd h List.not_mem_nil⟩⟩) (by decide) (by decide) (C.2.2.2.2.1 _ q3_156) (va_Nw.use rfl (hw.1 _ (List.mem_of_getElem? (i := 3) rfl))) h1 h2 h3 ?_
      refine W.eq (g2 := F0 m 21 ls [.ref q9]) rfl ?_
      refine lv_astore (pc := 21) (lv' := [(4, .ref q9), (0, .ref (g_ad G 60)), (1, .int a1), (2, .int a2), (3, .ref (g_ad G 106))]) hx hb dL_lastsUntil_21 hl (by decide) rfl (fun ls hl => ?_)
      refine lv_iconst (pc := 23) (v := 3) hx hb dL_lastsUntil_23 (by decide) ?_
      refine W.widen (k := 4) (n := 24) (by decide) (by decide) ?_
      exact hret 24 _ _ _ _ s7 x dL_lastsUntil_24 h hM
  · refine lv_i2l (pc := 8) (v := r.toInt64) hx hb dL_lastsUntil_8 rfl ?_
    refine g_last (pc := 9) C hM dL_lastsUntil_9 (fun H locs hM => ?_)
    refine lv_goto (pc := 10) (tgt := 25) hx hb dL_lastsUntil_10 (by decide) ?_
    refine lv_iconst (pc := 25) (v := 0) hx hb dL_lastsUntil_25 (by decide) ?_
    refine W.widen (k := 4) (n := 24) (by decide) (by decide) ?_
    exact hret 26 _ _ _ _ s7 (r.toInt64, x.2) dL_lastsUntil_26 h hM
abbrev rm_L_tick : Room := { frames := 8, cells := 2, slots := 12, locals := 141 }
theorem dL_tick_0 : decode cL_tick 0 = .ok (.aload_n 2, 1) := by decide +kernel
theorem dL_tick_1 : decode cL_tick 1 = .ok (.iconst 0, 1) := by decide +kernel
theorem dL_tick_2 : decode cL_tick 2 = .ok (.aload_n 0, 1) := by decide +kernel
theorem dL_tick_3 : decode cL_tick 3 = .ok (.iload_n 1, 1) := by decide +kernel
theorem dL_tick_4 : decode cL_tick 4 = .ok (.invokevirtual 71, 3) := by decide +kernel
theorem dL_tick_7 : decode cL_tick 7 = .ok (.i2l, 1) := by decide +kernel
theorem dL_tick_8 : decode cL_tick 8 = .ok (.lastore, 1) := by decide +kernel
theorem dL_tick_9 : decode cL_tick 9 = .ok (.goto 9, 3) := by decide +kernel
theorem dL_tick_12 : decode cL_tick 12 = .ok (.astore_n 3, 1) := by decide +kernel
theorem dL_tick_13 : decode cL_tick 13 = .ok (.iconst 1, 1) := by decide +kernel
theorem dL_tick_14 : decode cL_tick 14 = .ok (.ireturn, 1) := by decide +kernel
theorem dL_tick_15 : decode cL_tick 15 = .ok (.astore_n 3, 1) := by decide +kernel
theorem dL_tick_16 : decode cL_tick 16 = .ok (.iconst 2, 1) := by decide +kernel
theorem dL_tick_17 : decode cL_tick 17 = .ok (.ireturn, 1) := by decide +kernel
theorem dL_tick_18 : decode cL_tick 18 = .ok (.iconst 0, 1) := by decide +kernel
theorem dL_tick_19 : decode cL_tick 19 = .ok (.ireturn, 1) := by decide +kernel
set_option maxHeartbeats 4000000 in
set_option maxRecDepth 100000 in
theorem w_L_tick (l : Launch) (hl0 : l.stackTraces = false) (G : GP) (a1 : Int32) (σ : Sto) (x : XP) (P : Int32 → Sto × XP → Prop) (h : D_L_tick a1 σ x P) : g_Metw l yL_tick cL_tick 4 [(0, 9, 12, 15), (0, 9, 15, 17)] rm_L_tick G [.ref (g_ad G 60), .int a1, .ref (g_ad G 106)] σ x P := by
  unfold D_L_tick at h
  refine g_ofWw (by decide +kernel) (Nat.le_of_ble_eq_true rfl) ?_
  intro p e s m args below meth c Q ls C htab hM hl hret
  have hx := C.1
  have hb := C.2.1
  have hw := C.2.2.2.2.2.2.2.2.2.2.2
  have hl : lv_has ls 4 [(0, .ref (g_ad G 60)), (1, .int a1), (2, .ref (g_ad G 106))] := hl
  refine lv_aload_n (pc := 0) hx hb dL_tick_0 rfl (lv_at hl 2 rfl) ?_
  refine lv_iconst (pc := 1) (v := 0) hx hb dL_tick_1 (by decide) ?_
  refine lv_aload_n (pc := 2) hx hb dL_tick_2 rfl (lv_at hl 0 rfl) ?_
  refine lv_iload_n (pc := 3) hx hb dL_tick_3 rfl (lv_at hl 1 rfl) ?_
  refine g_wVi (pc := 4) C hM hl.1 yv_X11_tick q4_11 (by decide) ce_60 rfl (w_X11_tick l hl0 G x a1 σ _ _ h) rfl rfl ⟨⟨by decide, by decide⟩, by decide, by decide⟩ (Nat.le_of_ble_eq_true rfl) dL_tick_4 (fun E ce q9 s7 H locs h hM h1 h2 h3 => ?_) (fun r s7 H locs h hM => ?_)
  · rcases h with ⟨rfl, h⟩ | ⟨rfl, h⟩
    · refine vx_catch (own := RL) (name := "java/lang/IllegalArgumentException") C.2.2.2.1 [] ⟨0, 9, 12, 15⟩ [⟨0, 9, 15, 17⟩] (htab.trans rfl) (fun _ h => absurd h List.not_mem_nil) (by decide) (by decide) (C.2.2.2.2.1 _ q2_185) (va_Nw.use rfl (hw.1 _ (List.mem_of_getElem? (i := 1) rfl))) h1 h2 h3 ?_
      refine W.eq (g2 := F0 m 12 ls [.ref q9]) rfl ?_
      refine lv_astore_n (pc := 12) (lv' := [(3, .ref q9), (0, .ref (g_ad G 60)), (1, .int a1), (2, .ref (g_ad G 106))]) hx hb dL_tick_12 rfl hl (by decide) rfl (fun ls hl => ?_)
      refine lv_iconst (pc := 13) (v := 1) hx hb dL_tick_13 (by decide) ?_
      refine W.widen (k := 2) (n := 12) (by decide) (by decide) ?_
      exact hret 14 _ _ _ _ s7 x dL_tick_14 h hM
    · refine vx_catch (own := RL) (name := "java/lang/IllegalStateException") C.2.2.2.1 [⟨0, 9, 12, 15⟩] ⟨0, 9, 15, 17⟩ [] (htab.trans rfl) (List.forall_mem_cons.mpr ⟨Or.inr ⟨by decide, "java/lang/IllegalArgumentException", C.2.2.2.2.1 _ q2_185, hw.2.2 _ (List.mem_of_getElem? (i := 2) rfl)⟩, fun _ h => absurd h List.not_mem_nil⟩) (by decide) (by decide) (C.2.2.2.2.1 _ q2_186) (va_Nw.use rfl (hw.1 _ (List.mem_of_getElem? (i := 2) rfl))) h1 h2 h3 ?_
      refine W.eq (g2 := F0 m 15 ls [.ref q9]) rfl ?_
      refine lv_astore_n (pc := 15) (lv' := [(3, .ref q9), (0, .ref (g_ad G 60)), (1, .int a1), (2, .ref (g_ad G 106))]) hx hb dL_tick_15 rfl hl (by decide) rfl (fun ls hl => ?_)
      refine lv_iconst (pc := 16) (v := 2) hx hb dL_tick_16 (by decide) ?_
      refine W.widen (k := 2) (n := 12) (by decide) (by decide) ?_
      exact hret 17 _ _ _ _ s7 x dL_tick_17 h hM
  · refine lv_i2l (pc := 7) (v := r.toInt64) hx hb dL_tick_7 rfl ?_
    refine g_last (pc := 8) C hM dL_tick_8 (fun H locs hM => ?_)
    refine lv_goto (pc := 9) (tgt := 18) hx hb dL_tick_9 (by decide) ?_
    refine lv_iconst (pc := 18) (v := 0) hx hb dL_tick_18 (by decide) ?_
    refine W.widen (k := 2) (n := 12) (by decide) (by decide) ?_
    exact hret 19 _ _ _ _ s7 (r.toInt64, x.2) dL_tick_19 h hM
abbrev rm_L_setSubject : Room := { frames := 8, cells := 1, slots := 6, locals := 143 }
theorem dL_setSubject_0 : decode cL_setSubject 0 = .ok (.aload_n 2, 1) := by decide +kernel
theorem dL_setSubject_1 : decode cL_setSubject 1 = .ok (.iconst 0, 1) := by decide +kernel
theorem dL_setSubject_2 : decode cL_setSubject 2 = .ok (.aload_n 0, 1) := by decide +kernel
theorem dL_setSubject_3 : decode cL_setSubject 3 = .ok (.iload_n 1, 1) := by decide +kernel
theorem dL_setSubject_4 : decode cL_setSubject 4 = .ok (.invokevirtual 74, 3) := by decide +kernel
theorem dL_setSubject_7 : decode cL_setSubject 7 = .ok (.i2l, 1) := by decide +kernel
theorem dL_setSubject_8 : decode cL_setSubject 8 = .ok (.lastore, 1) := by decide +kernel
theorem dL_setSubject_9 : decode cL_setSubject 9 = .ok (.goto 6, 3) := by decide +kernel
theorem dL_setSubject_12 : decode cL_setSubject 12 = .ok (.astore_n 3, 1) := by decide +kernel
theorem dL_setSubject_13 : decode cL_setSubject 13 = .ok (.iconst 1, 1) := by decide +kernel
theorem dL_setSubject_14 : decode cL_setSubject 14 = .ok (.ireturn, 1) := by decide +kernel
theorem dL_setSubject_15 : decode cL_setSubject 15 = .ok (.iconst 0, 1) := by decide +kernel
theorem dL_setSubject_16 : decode cL_setSubject 16 = .ok (.ireturn, 1) := by decide +kernel
set_option maxHeartbeats 4000000 in
set_option maxRecDepth 100000 in
theorem w_L_setSubject (l : Launch) (hl0 : l.stackTraces = false) (G : GP) (a1 : Int32) (σ : Sto) (x : XP) (P : Int32 → Sto × XP → Prop) (h : D_L_setSubject a1 σ x P) : g_Metw l yL_setSubject cL_setSubject 4 [(0, 9, 12, 13)] rm_L_setSubject G [.ref (g_ad G 60), .int a1, .ref (g_ad G 106)] σ x P := by
  unfold D_L_setSubject at h
  refine g_ofWw (by decide +kernel) (Nat.le_of_ble_eq_true rfl) ?_
  intro p e s m args below meth c Q ls C htab hM hl hret
  have hx := C.1
  have hb := C.2.1
  have hw := C.2.2.2.2.2.2.2.2.2.2.2
  have hl : lv_has ls 4 [(0, .ref (g_ad G 60)), (1, .int a1), (2, .ref (g_ad G 106))] := hl
  refine lv_aload_n (pc := 0) hx hb dL_setSubject_0 rfl (lv_at hl 2 rfl) ?_
  refine lv_iconst (pc := 1) (v := 0) hx hb dL_setSubject_1 (by decide) ?_
  refine lv_aload_n (pc := 2) hx hb dL_setSubject_2 rfl (lv_at hl 0 rfl) ?_
  refine lv_iload_n (pc := 3) hx hb dL_setSubject_3 rfl (lv_at hl 1 rfl) ?_
  refine g_wVi (pc := 4) C hM hl.1 yv_X11_setSubject q4_18 (by decide) ce_60 rfl (w_X11_setSubject l hl0 G x a1 σ _ _ h) rfl rfl ⟨⟨by decide, by decide⟩, by decide, by decide⟩ (Nat.le_of_ble_eq_true rfl) dL_setSubject_4 (fun E ce q9 s7 H locs h hM h1 h2 h3 => ?_) (fun r s7 H locs h hM => ?_)
  · obtain ⟨rfl, h⟩ := h
    refine vx_catch (own := RL) (name := "java/lang/IndexOutOfBoundsException") C.2.2.2.1 [] ⟨0, 9, 12, 13⟩ [] (htab.trans rfl) (fun _ h => absurd h List.not_mem_nil) (by decide) (by decide) (C.2.2.2.2.1 _ q2_106) (va_Nw.use rfl (hw.1 _ (List.mem_of_getElem? (i := 0) rfl))) h1 h2 h3 ?_
    refine W.eq (g2 := F0 m 12 ls [.ref q9]) rfl ?_
    refine lv_astore_n (pc := 12) (lv' := [(3, .ref q9), (0, .ref (g_ad G 60)), (1, .int a1), (2, .ref (g_ad G 106))]) hx hb dL_setSubject_12 rfl hl (by decide) rfl (fun ls hl => ?_)
    refine lv_iconst (pc := 13) (v := 1) hx hb dL_setSubject_13 (by decide) ?_
    refine W.widen (k := 1) (n := 6) (by decide) (by decide) ?_
    exact hret 14 _ _ _ _ s7 x dL_setSubject_14 h hM
  · refine lv_i2l (pc := 7) (v := r.toInt64) hx hb dL_setSubject_7 rfl ?_
    refine g_last (pc := 8) C hM dL_setSubject_8 (fun H locs hM => ?_)
    refine lv_goto (pc := 9) (tgt := 15) hx hb dL_setSubject_9 (by decide) ?_
    refine lv_iconst (pc := 15) (v := 0) hx hb dL_setSubject_15 (by decide) ?_
    refine W.widen (k := 1) (n := 6) (by decide) (by decide) ?_
    exact hret 16 _ _ _ _ s7 (r.toInt64, x.2) dL_setSubject_16 h hM
abbrev rm_L_setValue : Room := { frames := 8, cells := 2, slots := 12, locals := 144 }
theorem dL_setValue_0 : decode cL_setValue 0 = .ok (.aload_n 3, 1) := by decide +kernel
theorem dL_setValue_1 : decode cL_setValue 1 = .ok (.iconst 0, 1) := by decide +kernel
theorem dL_setValue_2 : decode cL_setValue 2 = .ok (.aload_n 0, 1) := by decide +kernel
theorem dL_setValue_3 : decode cL_setValue 3 = .ok (.iload_n 1, 1) := by decide +kernel
theorem dL_setValue_4 : decode cL_setValue 4 = .ok (.iload_n 2, 1) := by decide +kernel
theorem dL_setValue_5 : decode cL_setValue 5 = .ok (.invokevirtual 77, 3) := by decide +kernel
theorem dL_setValue_8 : decode cL_setValue 8 = .ok (.i2l, 1) := by decide +kernel
theorem dL_setValue_9 : decode cL_setValue 9 = .ok (.lastore, 1) := by decide +kernel
theorem dL_setValue_10 : decode cL_setValue 10 = .ok (.goto 11, 3) := by decide +kernel
theorem dL_setValue_13 : decode cL_setValue 13 = .ok (.astore 4, 2) := by decide +kernel
theorem dL_setValue_15 : decode cL_setValue 15 = .ok (.iconst 1, 1) := by decide +kernel
theorem dL_setValue_16 : decode cL_setValue 16 = .ok (.ireturn, 1) := by decide +kernel
theorem dL_setValue_17 : decode cL_setValue 17 = .ok (.astore 4, 2) := by decide +kernel
theorem dL_setValue_19 : decode cL_setValue 19 = .ok (.iconst 2, 1) := by decide +kernel
theorem dL_setValue_20 : decode cL_setValue 20 = .ok (.ireturn, 1) := by decide +kernel
theorem dL_setValue_21 : decode cL_setValue 21 = .ok (.iconst 0, 1) := by decide +kernel
theorem dL_setValue_22 : decode cL_setValue 22 = .ok (.ireturn, 1) := by decide +kernel
set_option maxHeartbeats 4000000 in
set_option maxRecDepth 100000 in
theorem w_L_setValue (l : Launch) (hl0 : l.stackTraces = false) (G : GP) (a1 : Int32) (a2 : Int32) (σ : Sto) (x : XP) (P : Int32 → Sto × XP → Prop) (h : D_L_setValue a1 a2 σ x P) : g_Metw l yL_setValue cL_setValue 5 [(0, 10, 13, 13), (0, 10, 17, 15)] rm_L_setValue G [.ref (g_ad G 60), .int a1, .int a2, .ref (g_ad G 106)] σ x P := by
  unfold D_L_setValue at h
  refine g_ofWw (by decide +kernel) (Nat.le_of_ble_eq_true rfl) ?_
  intro p e s m args below meth c Q ls C htab hM hl hret
  have hx := C.1
  have hb := C.2.1
  have hw := C.2.2.2.2.2.2.2.2.2.2.2
  have hl : lv_has ls 5 [(0, .ref (g_ad G 60)), (1, .int a1), (2, .int a2), (3, .ref (g_ad G 106))] := hl
  refine lv_aload_n (pc := 0) hx hb dL_setValue_0 rfl (lv_at hl 3 rfl) ?_
  refine lv_iconst (pc := 1) (v := 0) hx hb dL_setValue_1 (by decide) ?_
  refine lv_aload_n (pc := 2) hx hb dL_setValue_2 rfl (lv_at hl 0 rfl) ?_
  refine lv_iload_n (pc := 3) hx hb dL_setValue_3 rfl (lv_at hl 1 rfl) ?_
  refine lv_iload_n (pc := 4) hx hb dL_setValue_4 rfl (lv_at hl 2 rfl) ?_
  refine g_wVi (pc := 5) C hM hl.1 yv_X11_setValue q4_25 (by decide) ce_60 rfl (w_X11_setValue l hl0 G x a1 a2 σ _ _ h) rfl rfl ⟨⟨by decide, by decide⟩, by decide, by decide⟩ (Nat.le_of_ble_eq_true rfl) dL_setValue_5 (fun E ce q9 s7 H locs h hM h1 h2 h3 => ?_) (fun r s7 H locs h hM => ?_)
  · rcases h with ⟨rfl, h⟩ | ⟨rfl, h⟩
    · refine vx_catch (own := RL) (name := "java/lang/IndexOutOfBoundsException") C.2.2.2.1 [] ⟨0, 10, 13, 13⟩ [⟨0, 10, 17, 15⟩] (htab.trans rfl) (fun _ h => absurd h List.not_mem_nil) (by decide) (by decide) (C.2.2.2.2.1 _ q2_106) (va_Nw.use rfl (hw.1 _ (List.mem_of_getElem? (i := 0) rfl))) h1 h2 h3 ?_
      refine W.eq (g2 := F0 m 13 ls [.ref q9]) rfl ?_
      refine lv_astore (pc := 13) (lv' := [(4, .ref q9), (0, .ref (g_ad G 60)), (1, .int a1), (2, .int a2), (3, .ref (g_ad G 106))]) hx hb dL_setValue_13 hl (by decide) rfl (fun ls hl => ?_)
      refine lv_iconst (pc := 15) (v := 1) hx hb dL_setValue_15 (by decide) ?_
      refine W.widen (k := 2) (n := 12) (by decide) (by decide) ?_
      exact hret 16 _ _ _ _ s7 x dL_setValue_16 h hM
    · refine vx_catch (own := RL) (name := "java/lang/IllegalArgumentException") C.2.2.2.1 [⟨0, 10, 13, 13⟩] ⟨0, 10, 17, 15⟩ [] (htab.trans rfl) (List.forall_mem_cons.mpr ⟨Or.inr ⟨by decide, "java/lang/IndexOutOfBoundsException", C.2.2.2.2.1 _ q2_106, hw.2.2 _ (List.mem_of_getElem? (i := 0) rfl)⟩, fun _ h => absurd h List.not_mem_nil⟩) (by decide) (by decide) (C.2.2.2.2.1 _ q2_185) (va_Nw.use rfl (hw.1 _ (List.mem_of_getElem? (i := 1) rfl))) h1 h2 h3 ?_
      refine W.eq (g2 := F0 m 17 ls [.ref q9]) rfl ?_
      refine lv_astore (pc := 17) (lv' := [(4, .ref q9), (0, .ref (g_ad G 60)), (1, .int a1), (2, .int a2), (3, .ref (g_ad G 106))]) hx hb dL_setValue_17 hl (by decide) rfl (fun ls hl => ?_)
      refine lv_iconst (pc := 19) (v := 2) hx hb dL_setValue_19 (by decide) ?_
      refine W.widen (k := 2) (n := 12) (by decide) (by decide) ?_
      exact hret 20 _ _ _ _ s7 x dL_setValue_20 h hM
  · refine lv_i2l (pc := 8) (v := r.toInt64) hx hb dL_setValue_8 rfl ?_
    refine g_last (pc := 9) C hM dL_setValue_9 (fun H locs hM => ?_)
    refine lv_goto (pc := 10) (tgt := 21) hx hb dL_setValue_10 (by decide) ?_
    refine lv_iconst (pc := 21) (v := 0) hx hb dL_setValue_21 (by decide) ?_
    refine W.widen (k := 2) (n := 12) (by decide) (by decide) ?_
    exact hret 22 _ _ _ _ s7 (r.toInt64, x.2) dL_setValue_22 h hM
abbrev rm_L_applies : Room := { frames := 9, cells := 1, slots := 6, locals := 163 }
theorem dL_applies_0 : decode cL_applies 0 = .ok (.aload_n 2, 1) := by decide +kernel
theorem dL_applies_1 : decode cL_applies 1 = .ok (.iconst 0, 1) := by decide +kernel
theorem dL_applies_2 : decode cL_applies 2 = .ok (.aload_n 0, 1) := by decide +kernel
theorem dL_applies_3 : decode cL_applies 3 = .ok (.iload_n 1, 1) := by decide +kernel
theorem dL_applies_4 : decode cL_applies 4 = .ok (.invokevirtual 80, 3) := by decide +kernel
theorem dL_applies_7 : decode cL_applies 7 = .ok (.i2l, 1) := by decide +kernel
theorem dL_applies_8 : decode cL_applies 8 = .ok (.lastore, 1) := by decide +kernel
theorem dL_applies_9 : decode cL_applies 9 = .ok (.goto 6, 3) := by decide +kernel
theorem dL_applies_12 : decode cL_applies 12 = .ok (.astore_n 3, 1) := by decide +kernel
theorem dL_applies_13 : decode cL_applies 13 = .ok (.iconst 1, 1) := by decide +kernel
theorem dL_applies_14 : decode cL_applies 14 = .ok (.ireturn, 1) := by decide +kernel
theorem dL_applies_15 : decode cL_applies 15 = .ok (.iconst 0, 1) := by decide +kernel
theorem dL_applies_16 : decode cL_applies 16 = .ok (.ireturn, 1) := by decide +kernel
set_option maxHeartbeats 4000000 in
set_option maxRecDepth 100000 in
theorem w_L_applies (l : Launch) (hl0 : l.stackTraces = false) (G : GP) (a1 : Int32) (σ : Sto) (x : XP) (P : Int32 → Sto × XP → Prop) (h : D_L_applies a1 σ x P) : g_Metw l yL_applies cL_applies 4 [(0, 9, 12, 13)] rm_L_applies G [.ref (g_ad G 60), .int a1, .ref (g_ad G 106)] σ x P := by
  unfold D_L_applies at h
  refine g_ofWw (by decide +kernel) (Nat.le_of_ble_eq_true rfl) ?_
  intro p e s m args below meth c Q ls C htab hM hl hret
  have hx := C.1
  have hb := C.2.1
  have hw := C.2.2.2.2.2.2.2.2.2.2.2
  have hl : lv_has ls 4 [(0, .ref (g_ad G 60)), (1, .int a1), (2, .ref (g_ad G 106))] := hl
  refine lv_aload_n (pc := 0) hx hb dL_applies_0 rfl (lv_at hl 2 rfl) ?_
  refine lv_iconst (pc := 1) (v := 0) hx hb dL_applies_1 (by decide) ?_
  refine lv_aload_n (pc := 2) hx hb dL_applies_2 rfl (lv_at hl 0 rfl) ?_
  refine lv_iload_n (pc := 3) hx hb dL_applies_3 rfl (lv_at hl 1 rfl) ?_
  refine g_wVi (pc := 4) C hM hl.1 yv_X11_applies q4_32 (by decide) ce_60 rfl (w_X11_applies l hl0 G x a1 σ _ _ h) rfl rfl ⟨⟨by decide, by decide⟩, by decide, by decide⟩ (Nat.le_of_ble_eq_true rfl) dL_applies_4 (fun E ce q9 s7 H locs h hM h1 h2 h3 => ?_) (fun r s7 H locs h hM => ?_)
  · obtain ⟨rfl, h⟩ := h
    refine vx_catch (own := RL) (name := "java/lang/IndexOutOfBoundsException") C.2.2.2.1 [] ⟨0, 9, 12, 13⟩ [] (htab.trans rfl) (fun _ h => absurd h List.not_mem_nil) (by decide) (by decide) (C.2.2.2.2.1 _ q2_106) (va_Nw.use rfl (hw.1 _ (List.mem_of_getElem? (i := 0) rfl))) h1 h2 h3 ?_
    refine W.eq (g2 := F0 m 12 ls [.ref q9]) rfl ?_
    refine lv_astore_n (pc := 12) (lv' := [(3, .ref q9), (0, .ref (g_ad G 60)), (1, .int a1), (2, .ref (g_ad G 106))]) hx hb dL_applies_12 rfl hl (by decide) rfl (fun ls hl => ?_)
    refine lv_iconst (pc := 13) (v := 1) hx hb dL_applies_13 (by decide) ?_
    refine W.widen (k := 1) (n := 6) (by decide) (by decide) ?_
    exact hret 14 _ _ _ _ s7 x dL_applies_14 h hM
  · refine lv_i2l (pc := 7) (v := r.toInt64) hx hb dL_applies_7 rfl ?_
    refine g_last (pc := 8) C hM dL_applies_8 (fun H locs hM => ?_)
    refine lv_goto (pc := 9) (tgt := 15) hx hb dL_applies_9 (by decide) ?_
    refine lv_iconst (pc := 15) (v := 0) hx hb dL_applies_15 (by decide) ?_
    refine W.widen (k := 1) (n := 6) (by decide) (by decide) ?_
    exact hret 16 _ _ _ _ s7 (r.toInt64, x.2) dL_applies_16 h hM
abbrev rm_L_failing : Room := { frames := 9, cells := 2, slots := 12, locals := 164 }
theorem dL_failing_0 : decode cL_failing 0 = .ok (.aload_n 2, 1) := by decide +kernel
theorem dL_failing_1 : decode cL_failing 1 = .ok (.iconst 0, 1) := by decide +kernel
theorem dL_failing_2 : decode cL_failing 2 = .ok (.aload_n 0, 1) := by decide +kernel
theorem dL_failing_3 : decode cL_failing 3 = .ok (.iload_n 1, 1) := by decide +kernel
theorem dL_failing_4 : decode cL_failing 4 = .ok (.invokevirtual 83, 3) := by decide +kernel
theorem dL_failing_7 : decode cL_failing 7 = .ok (.i2l, 1) := by decide +kernel
theorem dL_failing_8 : decode cL_failing 8 = .ok (.lastore, 1) := by decide +kernel
theorem dL_failing_9 : decode cL_failing 9 = .ok (.goto 9, 3) := by decide +kernel
theorem dL_failing_12 : decode cL_failing 12 = .ok (.astore_n 3, 1) := by decide +kernel
theorem dL_failing_13 : decode cL_failing 13 = .ok (.iconst 1, 1) := by decide +kernel
theorem dL_failing_14 : decode cL_failing 14 = .ok (.ireturn, 1) := by decide +kernel
theorem dL_failing_15 : decode cL_failing 15 = .ok (.astore_n 3, 1) := by decide +kernel
theorem dL_failing_16 : decode cL_failing 16 = .ok (.iconst 2, 1) := by decide +kernel
theorem dL_failing_17 : decode cL_failing 17 = .ok (.ireturn, 1) := by decide +kernel
theorem dL_failing_18 : decode cL_failing 18 = .ok (.iconst 0, 1) := by decide +kernel
theorem dL_failing_19 : decode cL_failing 19 = .ok (.ireturn, 1) := by decide +kernel
set_option maxHeartbeats 4000000 in
set_option maxRecDepth 100000 in
theorem w_L_failing (l : Launch) (hl0 : l.stackTraces = false) (G : GP) (a1 : Int32) (σ : Sto) (x : XP) (P : Int32 → Sto × XP → Prop) (h : D_L_failing a1 σ x P) : g_Metw l yL_failing cL_failing 4 [(0, 9, 12, 13), (0, 9, 15, 54)] rm_L_failing G [.ref (g_ad G 60), .int a1, .ref (g_ad G 106)] σ x P := by
  unfold D_L_failing at h
  refine g_ofWw (by decide +kernel) (Nat.le_of_ble_eq_true rfl) ?_
  intro p e s m args below meth c Q ls C htab hM hl hret
  have hx := C.1
  have hb := C.2.1
  have hw := C.2.2.2.2.2.2.2.2.2.2.2
  have hl : lv_has ls 4 [(0, .ref (g_ad G 60)), (1, .int a1), (2, .ref (g_ad G 106))] := hl
  refine lv_aload_n (pc := 0) hx hb dL_failing_0 rfl (lv_at hl 2 rfl) ?_
  refine lv_iconst (pc := 1) (v := 0) hx hb dL_failing_1 (by decide) ?_
  refine lv_aload_n (pc := 2) hx hb dL_failing_2 rfl (lv_at hl 0 rfl) ?_
  refine lv_iload_n (pc := 3) hx hb dL_failing_3 rfl (lv_at hl 1 rfl) ?_
  refine g_wVi (pc := 4) C hM hl.1 yv_X11_failing q4_59 (by decide) ce_60 rfl (w_X11_failing l hl0 G x a1 σ _ _ h) rfl rfl ⟨⟨by decide, by decide⟩, by decide, by decide⟩ (Nat.le_of_ble_eq_true rfl) dL_failing_4 (fun E ce q9 s7 H locs h hM h1 h2 h3 => ?_) (fun r s7 H locs h hM => ?_)
  · rcases h with ⟨rfl, h⟩ | ⟨rfl, h⟩
    · refine vx_catch (own := RL) (name := "java/lang/IndexOutOfBoundsException") C.2.2.2.1 [] ⟨0, 9, 12, 13⟩ [⟨0, 9, 15, 54⟩] (htab.trans rfl) (fun _ h => absurd h List.not_mem_nil) (by decide) (by decide) (C.2.2.2.2.1 _ q2_106) (va_Nw.use rfl (hw.1 _ (List.mem_of_getElem? (i := 0) rfl))) h1 h2 h3 ?_
      refine W.eq (g2 := F0 m 12 ls [.ref q9]) rfl ?_
      refine lv_astore_n (pc := 12) (lv' := [(3, .ref q9), (0, .ref (g_ad G 60)), (1, .int a1), (2, .ref (g_ad G 106))]) hx hb dL_failing_12 rfl hl (by decide) rfl (fun ls hl => ?_)
      refine lv_iconst (pc := 13) (v := 1) hx hb dL_failing_13 (by decide) ?_
      refine W.widen (k := 2) (n := 12) (by decide) (by decide) ?_
      exact hret 14 _ _ _ _ s7 x dL_failing_14 h hM
    · refine vx_catch (own := RL) (name := "java/util/NoSuchElementException") C.2.2.2.1 [⟨0, 9, 12, 13⟩] ⟨0, 9, 15, 54⟩ [] (htab.trans rfl) (List.forall_mem_cons.mpr ⟨Or.inr ⟨by decide, "java/lang/IndexOutOfBoundsException", C.2.2.2.2.1 _ q2_106, hw.2.2 _ (List.mem_of_getElem? (i := 3) rfl)⟩, fun _ h => absurd h List.not_mem_nil⟩) (by decide) (by decide) (C.2.2.2.2.1 _ q3_156) (va_Nw.use rfl (hw.1 _ (List.mem_of_getElem? (i := 3) rfl))) h1 h2 h3 ?_
      refine W.eq (g2 := F0 m 15 ls [.ref q9]) rfl ?_
      refine lv_astore_n (pc := 15) (lv' := [(3, .ref q9), (0, .ref (g_ad G 60)), (1, .int a1), (2, .ref (g_ad G 106))]) hx hb dL_failing_15 rfl hl (by decide) rfl (fun ls hl => ?_)
      refine lv_iconst (pc := 16) (v := 2) hx hb dL_failing_16 (by decide) ?_
      refine W.widen (k := 2) (n := 12) (by decide) (by decide) ?_
      exact hret 17 _ _ _ _ s7 x dL_failing_17 h hM
  · refine lv_i2l (pc := 7) (v := r.toInt64) hx hb dL_failing_7 rfl ?_
    refine g_last (pc := 8) C hM dL_failing_8 (fun H locs hM => ?_)
    refine lv_goto (pc := 9) (tgt := 18) hx hb dL_failing_9 (by decide) ?_
    refine lv_iconst (pc := 18) (v := 0) hx hb dL_failing_18 (by decide) ?_
    refine W.widen (k := 2) (n := 12) (by decide) (by decide) ?_
    exact hret 19 _ _ _ _ s7 (r.toInt64, x.2) dL_failing_19 h hM
abbrev rm_L_decide : Room := { frames := 8, cells := 1, slots := 6, locals := 143 }
theorem dL_decide_0 : decode cL_decide 0 = .ok (.aload_n 1, 1) := by decide +kernel
theorem dL_decide_1 : decode cL_decide 1 = .ok (.iconst 0, 1) := by decide +kernel
theorem dL_decide_2 : decode cL_decide 2 = .ok (.aload_n 0, 1) := by decide +kernel
theorem dL_decide_3 : decode cL_decide 3 = .ok (.invokevirtual 86, 3) := by decide +kernel
theorem dL_decide_6 : decode cL_decide 6 = .ok (.i2l, 1) := by decide +kernel
theorem dL_decide_7 : decode cL_decide 7 = .ok (.lastore, 1) := by decide +kernel
theorem dL_decide_8 : decode cL_decide 8 = .ok (.goto 6, 3) := by decide +kernel
theorem dL_decide_11 : decode cL_decide 11 = .ok (.astore_n 2, 1) := by decide +kernel
theorem dL_decide_12 : decode cL_decide 12 = .ok (.iconst 1, 1) := by decide +kernel
theorem dL_decide_13 : decode cL_decide 13 = .ok (.ireturn, 1) := by decide +kernel
theorem dL_decide_14 : decode cL_decide 14 = .ok (.iconst 0, 1) := by decide +kernel
theorem dL_decide_15 : decode cL_decide 15 = .ok (.ireturn, 1) := by decide +kernel
set_option maxHeartbeats 4000000 in
set_option maxRecDepth 100000 in
theorem w_L_decide (l : Launch) (hl0 : l.stackTraces = false) (G : GP) (σ : Sto) (x : XP) (P : Int32 → Sto × XP → Prop) (h : D_L_decide  σ x P) : g_Metw l yL_decide cL_decide 3 [(0, 8, 11, 17)] rm_L_decide G [.ref (g_ad G 60), .ref (g_ad G 106)] σ x P := by
  unfold D_L_decide at h
  refine g_ofWw (by decide +kernel) (Nat.le_of_ble_eq_true rfl) ?_
  intro p e s m args below meth c Q ls C htab hM hl hret
  have hx := C.1
  have hb := C.2.1
  have hw := C.2.2.2.2.2.2.2.2.2.2.2
  have hl : lv_has ls 3 [(0, .ref (g_ad G 60)), (1, .ref (g_ad G 106))] := hl
  refine lv_aload_n (pc := 0) hx hb dL_decide_0 rfl (lv_at hl 1 rfl) ?_
  refine lv_iconst (pc := 1) (v := 0) hx hb dL_decide_1 (by decide) ?_
  refine lv_aload_n (pc := 2) hx hb dL_decide_2 rfl (lv_at hl 0 rfl) ?_
  refine g_wVi (pc := 3) C hM hl.1 yv_X11_decide q4_71 (by decide) ce_60 rfl (w_X11_decide l hl0 G x  σ _ _ h) rfl rfl ⟨⟨by decide, by decide⟩, by decide, by decide⟩ (Nat.le_of_ble_eq_true rfl) dL_decide_3 (fun E ce q9 s7 H locs h hM h1 h2 h3 => ?_) (fun r s7 H locs h hM => ?_)
  · obtain ⟨rfl, h⟩ := h
    refine vx_catch (own := RL) (name := "java/lang/IllegalStateException") C.2.2.2.1 [] ⟨0, 8, 11, 17⟩ [] (htab.trans rfl) (fun _ h => absurd h List.not_mem_nil) (by decide) (by decide) (C.2.2.2.2.1 _ q2_186) (va_Nw.use rfl (hw.1 _ (List.mem_of_getElem? (i := 2) rfl))) h1 h2 h3 ?_
    refine W.eq (g2 := F0 m 11 ls [.ref q9]) rfl ?_
    refine lv_astore_n (pc := 11) (lv' := [(2, .ref q9), (0, .ref (g_ad G 60)), (1, .ref (g_ad G 106))]) hx hb dL_decide_11 rfl hl (by decide) rfl (fun ls hl => ?_)
    refine lv_iconst (pc := 12) (v := 1) hx hb dL_decide_12 (by decide) ?_
    refine W.widen (k := 1) (n := 6) (by decide) (by decide) ?_
    exact hret 13 _ _ _ _ s7 x dL_decide_13 h hM
  · refine lv_i2l (pc := 6) (v := r.toInt64) hx hb dL_decide_6 rfl ?_
    refine g_last (pc := 7) C hM dL_decide_7 (fun H locs hM => ?_)
    refine lv_goto (pc := 8) (tgt := 14) hx hb dL_decide_8 (by decide) ?_
    refine lv_iconst (pc := 14) (v := 0) hx hb dL_decide_14 (by decide) ?_
    refine W.widen (k := 1) (n := 6) (by decide) (by decide) ?_
    exact hret 15 _ _ _ _ s7 (r.toInt64, x.2) dL_decide_15 h hM
abbrev rm_L_decidingRule : Room := { frames := 8, cells := 2, slots := 12, locals := 143 }
theorem dL_decidingRule_0 : decode cL_decidingRule 0 = .ok (.aload_n 1, 1) := by decide +kernel
theorem dL_decidingRule_1 : decode cL_decidingRule 1 = .ok (.iconst 0, 1) := by decide +kernel
theorem dL_decidingRule_2 : decode cL_decidingRule 2 = .ok (.aload_n 0, 1) := by decide +kernel
theorem dL_decidingRule_3 : decode cL_decidingRule 3 = .ok (.invokevirtual 90, 3) := by decide +kernel
theorem dL_decidingRule_6 : decode cL_decidingRule 6 = .ok (.i2l, 1) := by decide +kernel
theorem dL_decidingRule_7 : decode cL_decidingRule 7 = .ok (.lastore, 1) := by decide +kernel
theorem dL_decidingRule_8 : decode cL_decidingRule 8 = .ok (.goto 9, 3) := by decide +kernel
theorem dL_decidingRule_11 : decode cL_decidingRule 11 = .ok (.astore_n 2, 1) := by decide +kernel
theorem dL_decidingRule_12 : decode cL_decidingRule 12 = .ok (.iconst 1, 1) := by decide +kernel
theorem dL_decidingRule_13 : decode cL_decidingRule 13 = .ok (.ireturn, 1) := by decide +kernel
theorem dL_decidingRule_14 : decode cL_decidingRule 14 = .ok (.astore_n 2, 1) := by decide +kernel
theorem dL_decidingRule_15 : decode cL_decidingRule 15 = .ok (.iconst 2, 1) := by decide +kernel
theorem dL_decidingRule_16 : decode cL_decidingRule 16 = .ok (.ireturn, 1) := by decide +kernel
theorem dL_decidingRule_17 : decode cL_decidingRule 17 = .ok (.iconst 0, 1) := by decide +kernel
theorem dL_decidingRule_18 : decode cL_decidingRule 18 = .ok (.ireturn, 1) := by decide +kernel
set_option maxHeartbeats 4000000 in
set_option maxRecDepth 100000 in
theorem w_L_decidingRule (l : Launch) (hl0 : l.stackTraces = false) (G : GP) (σ : Sto) (x : XP) (P : Int32 → Sto × XP → Prop) (h : D_L_decidingRule  σ x P) : g_Metw l yL_decidingRule cL_decidingRule 3 [(0, 8, 11, 17), (0, 8, 14, 54)] rm_L_decidingRule G [.ref (g_ad G 60), .ref (g_ad G 106)] σ x P := by
  unfold D_L_decidingRule at h
  refine g_ofWw (by decide +kernel) (Nat.le_of_ble_eq_true rfl) ?_
  intro p e s m args below meth c Q ls C htab hM hl hret
  have hx := C.1
  have hb := C.2.1
  have hw := C.2.2.2.2.2.2.2.2.2.2.2
  have hl : lv_has ls 3 [(0, .ref (g_ad G 60)), (1, .ref (g_ad G 106))] := hl
  refine lv_aload_n (pc := 0) hx hb dL_decidingRule_0 rfl (lv_at hl 1 rfl) ?_
  refine lv_iconst (pc := 1) (v := 0) hx hb dL_decidingRule_1 (by decide) ?_
  refine lv_aload_n (pc := 2) hx hb dL_decidingRule_2 rfl (lv_at hl 0 rfl) ?_
  refine g_wVi (pc := 3) C hM hl.1 yv_X11_decidingRule q4_112 (by decide) ce_60 rfl (w_X11_decidingRule l hl0 G x  σ _ _ h) rfl rfl ⟨⟨by decide, by decide⟩, by decide, by decide⟩ (Nat.le_of_ble_eq_true rfl) dL_decidingRule_3 (fun E ce q9 s7 H locs h hM h1 h2 h3 => ?_) (fun r s7 H locs h hM => ?_)
  · rcases h with ⟨rfl, h⟩ | ⟨rfl, h⟩
    · refine vx_catch (own := RL) (name := "java/lang/IllegalStateException") C.2.2.2.1 [] ⟨0, 8, 11, 17⟩ [⟨0, 8, 14, 54⟩] (htab.trans rfl) (fun _ h => absurd h List.not_mem_nil) (by decide) (by decide) (C.2.2.2.2.1 _ q2_186) (va_Nw.use rfl (hw.1 _ (List.mem_of_getElem? (i := 2) rfl))) h1 h2 h3 ?_
      refine W.eq (g2 := F0 m 11 ls [.ref q9]) rfl ?_
      refine lv_astore_n (pc := 11) (lv' := [(2, .ref q9), (0, .ref (g_ad G 60)), (1, .ref (g_ad G 106))]) hx hb dL_decidingRule_11 rfl hl (by decide) rfl (fun ls hl => ?_)
      refine lv_iconst (pc := 12) (v := 1) hx hb dL_decidingRule_12 (by decide) ?_
      refine W.widen (k := 2) (n := 12) (by decide) (by decide) ?_
      exact hret 13 _ _ _ _ s7 x dL_decidingRule_13 h hM
    · refine vx_catch (own := RL) (name := "java/util/NoSuchElementException") C.2.2.2.1 [⟨0, 8, 11, 17⟩] ⟨0, 8, 14, 54⟩ [] (htab.trans rfl) (List.forall_mem_cons.mpr ⟨Or.inr ⟨by decide, "java/lang/IllegalStateException", C.2.2.2.2.1 _ q2_186, hw.2.2 _ (List.mem_of_getElem? (i := 5) rfl)⟩, fun _ h => absurd h List.not_mem_nil⟩) (by decide) (by decide) (C.2.2.2.2.1 _ q3_156) (va_Nw.use rfl (hw.1 _ (List.mem_of_getElem? (i := 3) rfl))) h1 h2 h3 ?_
      refine W.eq (g2 := F0 m 14 ls [.ref q9]) rfl ?_
      refine lv_astore_n (pc := 14) (lv' := [(2, .ref q9), (0, .ref (g_ad G 60)), (1, .ref (g_ad G 106))]) hx hb dL_decidingRule_14 rfl hl (by decide) rfl (fun ls hl => ?_)
      refine lv_iconst (pc := 15) (v := 2) hx hb dL_decidingRule_15 (by decide) ?_
      refine W.widen (k := 2) (n := 12) (by decide) (by decide) ?_
      exact hret 16 _ _ _ _ s7 x dL_decidingRule_16 h hM
  · refine lv_i2l (pc := 6) (v := r.toInt64) hx hb dL_decidingRule_6 rfl ?_
    refine g_last (pc := 7) C hM dL_decidingRule_7 (fun H locs hM => ?_)
    refine lv_goto (pc := 8) (tgt := 17) hx hb dL_decidingRule_8 (by decide) ?_
    refine lv_iconst (pc := 17) (v := 0) hx hb dL_decidingRule_17 (by decide) ?_
    refine W.widen (k := 2) (n := 12) (by decide) (by decide) ?_
    exact hret 18 _ _ _ _ s7 (r.toInt64, x.2) dL_decidingRule_18 h hM
abbrev rm_L_policyDecision : Room := { frames := 8, cells := 2, slots := 12, locals := 142 }
theorem dL_policyDecision_0 : decode cL_policyDecision 0 = .ok (.aload_n 2, 1) := by decide +kernel
theorem dL_policyDecision_1 : decode cL_policyDecision 1 = .ok (.iconst 0, 1) := by decide +kernel
theorem dL_policyDecision_2 : decode cL_policyDecision 2 = .ok (.aload_n 0, 1) := by decide +kernel
theorem dL_policyDecision_3 : decode cL_policyDecision 3 = .ok (.iload_n 1, 1) := by decide +kernel
theorem dL_policyDecision_4 : decode cL_policyDecision 4 = .ok (.invokevirtual 93, 3) := by decide +kernel
theorem dL_policyDecision_7 : decode cL_policyDecision 7 = .ok (.i2l, 1) := by decide +kernel
theorem dL_policyDecision_8 : decode cL_policyDecision 8 = .ok (.lastore, 1) := by decide +kernel
theorem dL_policyDecision_9 : decode cL_policyDecision 9 = .ok (.goto 9, 3) := by decide +kernel
theorem dL_policyDecision_12 : decode cL_policyDecision 12 = .ok (.astore_n 3, 1) := by decide +kernel
theorem dL_policyDecision_13 : decode cL_policyDecision 13 = .ok (.iconst 1, 1) := by decide +kernel
theorem dL_policyDecision_14 : decode cL_policyDecision 14 = .ok (.ireturn, 1) := by decide +kernel
theorem dL_policyDecision_15 : decode cL_policyDecision 15 = .ok (.astore_n 3, 1) := by decide +kernel
theorem dL_policyDecision_16 : decode cL_policyDecision 16 = .ok (.iconst 2, 1) := by decide +kernel
theorem dL_policyDecision_17 : decode cL_policyDecision 17 = .ok (.ireturn, 1) := by decide +kernel
theorem dL_policyDecision_18 : decode cL_policyDecision 18 = .ok (.iconst 0, 1) := by decide +kernel
theorem dL_policyDecision_19 : decode cL_policyDecision 19 = .ok (.ireturn, 1) := by decide +kernel
set_option maxHeartbeats 4000000 in
set_option maxRecDepth 100000 in
theorem w_L_policyDecision (l : Launch) (hl0 : l.stackTraces = false) (G : GP) (a1 : Int32) (σ : Sto) (x : XP) (P : Int32 → Sto × XP → Prop) (h : D_L_policyDecision a1 σ x P) : g_Metw l yL_policyDecision cL_policyDecision 4 [(0, 9, 12, 13), (0, 9, 15, 17)] rm_L_policyDecision G [.ref (g_ad G 60), .int a1, .ref (g_ad G 106)] σ x P := by
  unfold D_L_policyDecision at h
  refine g_ofWw (by decide +kernel) (Nat.le_of_ble_eq_true rfl) ?_
  intro p e s m args below meth c Q ls C htab hM hl hret
  have hx := C.1
  have hb := C.2.1
  have hw := C.2.2.2.2.2.2.2.2.2.2.2
  have hl : lv_has ls 4 [(0, .ref (g_ad G 60)), (1, .int a1), (2, .ref (g_ad G 106))] := hl
  refine lv_aload_n (pc := 0) hx hb dL_policyDecision_0 rfl (lv_at hl 2 rfl) ?_
  refine lv_iconst (pc := 1) (v := 0) hx hb dL_policyDecision_1 (by decide) ?_
  refine lv_aload_n (pc := 2) hx hb dL_policyDecision_2 rfl (lv_at hl 0 rfl) ?_
  refine lv_iload_n (pc := 3) hx hb dL_policyDecision_3 rfl (lv_at hl 1 rfl) ?_
  refine g_wVi (pc := 4) C hM hl.1 yv_X11_policyDecision q4_119 (by decide) ce_60 rfl (w_X11_policyDecision l hl0 G x a1 σ _ _ h) rfl rfl ⟨⟨by decide, by decide⟩, by decide, by decide⟩ (Nat.le_of_ble_eq_true rfl) dL_policyDecision_4 (fun E ce q9 s7 H locs h hM h1 h2 h3 => ?_) (fun r s7 H locs h hM => ?_)
  · rcases h with ⟨rfl, h⟩ | ⟨rfl, h⟩
    · refine vx_catch (own := RL) (name := "java/lang/IndexOutOfBoundsException") C.2.2.2.1 [] ⟨0, 9, 12, 13⟩ [⟨0, 9, 15, 17⟩] (htab.trans rfl) (fun _ h => absurd h List.not_mem_nil) (by decide) (by decide) (C.2.2.2.2.1 _ q2_106) (va_Nw.use rfl (hw.1 _ (List.mem_of_getElem? (i := 0) rfl))) h1 h2 h3 ?_
      refine W.eq (g2 := F0 m 12 ls [.ref q9]) rfl ?_
      refine lv_astore_n (pc := 12) (lv' := [(3, .ref q9), (0, .ref (g_ad G 60)), (1, .int a1), (2, .ref (g_ad G 106))]) hx hb dL_policyDecision_12 rfl hl (by decide) rfl (fun ls hl => ?_)
      refine lv_iconst (pc := 13) (v := 1) hx hb dL_policyDecision_13 (by decide) ?_
      refine W.widen (k := 2) (n := 12) (by decide) (by decide) ?_
      exact hret 14 _ _ _ _ s7 x dL_policyDecision_14 h hM
    · refine vx_catch (own := RL) (name := "java/lang/IllegalStateException") C.2.2.2.1 [⟨0, 9, 12, 13⟩] ⟨0, 9, 15, 17⟩ [] (htab.trans rfl) (List.forall_mem_cons.mpr ⟨Or.inr ⟨by decide, "java/lang/IndexOutOfBoundsException", C.2.2.2.2.1 _ q2_106, hw.2.2 _ (List.mem_of_getElem? (i := 1) rfl)⟩, fun _ h => absurd h List.not_mem_nil⟩) (by decide) (by decide) (C.2.2.2.2.1 _ q2_186) (va_Nw.use rfl (hw.1 _ (List.mem_of_getElem? (i := 2) rfl))) h1 h2 h3 ?_
      refine W.eq (g2 := F0 m 15 ls [.ref q9]) rfl ?_
      refine lv_astore_n (pc := 15) (lv' := [(3, .ref q9), (0, .ref (g_ad G 60)), (1, .int a1), (2, .ref (g_ad G 106))]) hx hb dL_policyDecision_15 rfl hl (by decide) rfl (fun ls hl => ?_)
      refine lv_iconst (pc := 16) (v := 2) hx hb dL_policyDecision_16 (by decide) ?_
      refine W.widen (k := 2) (n := 12) (by decide) (by decide) ?_
      exact hret 17 _ _ _ _ s7 x dL_policyDecision_17 h hM
  · refine lv_i2l (pc := 7) (v := r.toInt64) hx hb dL_policyDecision_7 rfl ?_
    refine g_last (pc := 8) C hM dL_policyDecision_8 (fun H locs hM => ?_)
    refine lv_goto (pc := 9) (tgt := 18) hx hb dL_policyDecision_9 (by decide) ?_
    refine lv_iconst (pc := 18) (v := 0) hx hb dL_policyDecision_18 (by decide) ?_
    refine W.widen (k := 2) (n := 12) (by decide) (by decide) ?_
    exact hret 19 _ _ _ _ s7 (r.toInt64, x.2) dL_policyDecision_19 h hM
abbrev rm_L_possible : Room := { frames := 8, cells := 1, slots := 6, locals := 144 }
theorem dL_possible_0 : decode cL_possible 0 = .ok (.aload_n 1, 1) := by decide +kernel
theorem dL_possible_1 : decode cL_possible 1 = .ok (.iconst 0, 1) := by decide +kernel
theorem dL_possible_2 : decode cL_possible 2 = .ok (.aload_n 0, 1) := by decide +kernel
theorem dL_possible_3 : decode cL_possible 3 = .ok (.invokevirtual 96, 3) := by decide +kernel
theorem dL_possible_6 : decode cL_possible 6 = .ok (.i2l, 1) := by decide +kernel
theorem dL_possible_7 : decode cL_possible 7 = .ok (.lastore, 1) := by decide +kernel
theorem dL_possible_8 : decode cL_possible 8 = .ok (.goto 6, 3) := by decide +kernel
theorem dL_possible_11 : decode cL_possible 11 = .ok (.astore_n 2, 1) := by decide +kernel
theorem dL_possible_12 : decode cL_possible 12 = .ok (.iconst 1, 1) := by decide +kernel
theorem dL_possible_13 : decode cL_possible 13 = .ok (.ireturn, 1) := by decide +kernel
theorem dL_possible_14 : decode cL_possible 14 = .ok (.iconst 0, 1) := by decide +kernel
theorem dL_possible_15 : decode cL_possible 15 = .ok (.ireturn, 1) := by decide +kernel
set_option maxHeartbeats 4000000 in
set_option maxRecDepth 100000 in
theorem w_L_possible (l : Launch) (hl0 : l.stackTraces = false) (G : GP) (σ : Sto) (x : XP) (P : Int32 → Sto × XP → Prop) (h : D_L_possible  σ x P) : g_Metw l yL_possible cL_possible 3 [(0, 8, 11, 17)] rm_L_possible G [.ref (g_ad G 60), .ref (g_ad G 106)] σ x P := by
  unfold D_L_possible at h
  refine g_ofWw (by decide +kernel) (Nat.le_of_ble_eq_true rfl) ?_
  intro p e s m args below meth c Q ls C htab hM hl hret
  have hx := C.1
  have hb := C.2.1
  have hw := C.2.2.2.2.2.2.2.2.2.2.2
  have hl : lv_has ls 3 [(0, .ref (g_ad G 60)), (1, .ref (g_ad G 106))] := hl
  refine lv_aload_n (pc := 0) hx hb dL_possible_0 rfl (lv_at hl 1 rfl) ?_
  refine lv_iconst (pc := 1) (v := 0) hx hb dL_possible_1 (by decide) ?_
  refine lv_aload_n (pc := 2) hx hb dL_possible_2 rfl (lv_at hl 0 rfl) ?_
  refine g_wVi (pc := 3) C hM hl.1 yv_X11_possible q4_127 (by decide) ce_60 rfl (w_X11_possible l hl0 G x  σ _ _ h) rfl rfl ⟨⟨by decide, by decide⟩, by decide, by decide⟩ (Nat.le_of_ble_eq_true rfl) dL_possible_3 (fun E ce q9 s7 H locs h hM h1 h2 h3 => ?_) (fun r s7 H locs h hM => ?_)
  · obtain ⟨rfl, h⟩ := h
    refine vx_catch (own := RL) (name := "java/lang/IllegalStateException") C.2.2.2.1 [] ⟨0, 8, 11, 17⟩ [] (htab.trans rfl) (fun _ h => absurd h List.not_mem_nil) (by decide) (by decide) (C.2.2.2.2.1 _ q2_186) (va_Nw.use rfl (hw.1 _ (List.mem_of_getElem? (i := 2) rfl))) h1 h2 h3 ?_
    refine W.eq (g2 := F0 m 11 ls [.ref q9]) rfl ?_
    refine lv_astore_n (pc := 11) (lv' := [(2, .ref q9), (0, .ref (g_ad G 60)), (1, .ref (g_ad G 106))]) hx hb dL_possible_11 rfl hl (by decide) rfl (fun ls hl => ?_)
    refine lv_iconst (pc := 12) (v := 1) hx hb dL_possible_12 (by decide) ?_
    refine W.widen (k := 1) (n := 6) (by decide) (by decide) ?_
    exact hret 13 _ _ _ _ s7 x dL_possible_13 h hM
  · refine lv_i2l (pc := 6) (v := r.toInt64) hx hb dL_possible_6 rfl ?_
    refine g_last (pc := 7) C hM dL_possible_7 (fun H locs hM => ?_)
    refine lv_goto (pc := 8) (tgt := 14) hx hb dL_possible_8 (by decide) ?_
    refine lv_iconst (pc := 14) (v := 0) hx hb dL_possible_14 (by decide) ?_
    refine W.widen (k := 1) (n := 6) (by decide) (by decide) ?_
    exact hret 15 _ _ _ _ s7 (r.toInt64, x.2) dL_possible_15 h hM
abbrev rm_L_completions : Room := { frames := 8, cells := 2, slots := 12, locals := 143 }
theorem dL_completions_0 : decode cL_completions 0 = .ok (.aload_n 2, 1) := by decide +kernel
theorem dL_completions_1 : decode cL_completions 1 = .ok (.iconst 0, 1) := by decide +kernel
theorem dL_completions_2 : decode cL_completions 2 = .ok (.aload_n 0, 1) := by decide +kernel
theorem dL_completions_3 : decode cL_completions 3 = .ok (.iload_n 1, 1) := by decide +kernel
theorem dL_completions_4 : decode cL_completions 4 = .ok (.invokevirtual 99, 3) := by decide +kernel
theorem dL_completions_7 : decode cL_completions 7 = .ok (.i2l, 1) := by decide +kernel
theorem dL_completions_8 : decode cL_completions 8 = .ok (.lastore, 1) := by decide +kernel
theorem dL_completions_9 : decode cL_completions 9 = .ok (.goto 9, 3) := by decide +kernel
theorem dL_completions_12 : decode cL_completions 12 = .ok (.astore_n 3, 1) := by decide +kernel
theorem dL_completions_13 : decode cL_completions 13 = .ok (.iconst 1, 1) := by decide +kernel
theorem dL_completions_14 : decode cL_completions 14 = .ok (.ireturn, 1) := by decide +kernel
theorem dL_completions_15 : decode cL_completions 15 = .ok (.astore_n 3, 1) := by decide +kernel
theorem dL_completions_16 : decode cL_completions 16 = .ok (.iconst 2, 1) := by decide +kernel
theorem dL_completions_17 : decode cL_completions 17 = .ok (.ireturn, 1) := by decide +kernel
theorem dL_completions_18 : decode cL_completions 18 = .ok (.iconst 0, 1) := by decide +kernel
theorem dL_completions_19 : decode cL_completions 19 = .ok (.ireturn, 1) := by decide +kernel
set_option maxHeartbeats 4000000 in
set_option maxRecDepth 100000 in
theorem w_L_completions (l : Launch) (hl0 : l.stackTraces = false) (G : GP) (a1 : Int32) (σ : Sto) (x : XP) (P : Int32 → Sto × XP → Prop) (h : D_L_completions a1 σ x P) : g_Metw l yL_completions cL_completions 4 [(0, 9, 12, 15), (0, 9, 15, 17)] rm_L_completions G [.ref (g_ad G 60), .int a1, .ref (g_ad G 106)] σ x P := by
  unfold D_L_completions at h
  refine g_ofWw (by decide +kernel) (Nat.le_of_ble_eq_true rfl) ?_
  intro p e s m args below meth c Q ls C htab hM hl hret
  have hx := C.1
  have hb := C.2.1
  have hw := C.2.2.2.2.2.2.2.2.2.2.2
  have hl : lv_has ls 4 [(0, .ref (g_ad G 60)), (1, .int a1), (2, .ref (g_ad G 106))] := hl
  refine lv_aload_n (pc := 0) hx hb dL_completions_0 rfl (lv_at hl 2 rfl) ?_
  refine lv_iconst (pc := 1) (v := 0) hx hb dL_completions_1 (by decide) ?_
  refine lv_aload_n (pc := 2) hx hb dL_completions_2 rfl (lv_at hl 0 rfl) ?_
  refine lv_iload_n (pc := 3) hx hb dL_completions_3 rfl (lv_at hl 1 rfl) ?_
  refine g_wVi (pc := 4) C hM hl.1 yv_X11_completions q4_166 (by decide) ce_60 rfl (w_X11_completions l hl0 G x a1 σ _ _ h) rfl rfl ⟨⟨by decide, by decide⟩, by decide, by decide⟩ (Nat.le_of_ble_eq_true rfl) dL_completions_4 (fun E ce q9 s7 H locs h hM h1 h2 h3 => ?_) (fun r s7 H locs h hM => ?_)
  · rcases h with ⟨rfl, h⟩ | ⟨rfl, h⟩
    · refine vx_catch (own := RL) (name := "java/lang/IllegalArgumentException") C.2.2.2.1 [] ⟨0, 9, 12, 15⟩ [⟨0, 9, 15, 17⟩] (htab.trans rfl) (fun _ h => absurd h List.not_mem_nil) (by decide) (by decide) (C.2.2.2.2.1 _ q2_185) (va_Nw.use rfl (hw.1 _ (List.mem_of_getElem? (i := 1) rfl))) h1 h2 h3 ?_
      refine W.eq (g2 := F0 m 12 ls [.ref q9]) rfl ?_
      refine lv_astore_n (pc := 12) (lv' := [(3, .ref q9), (0, .ref (g_ad G 60)), (1, .int a1), (2, .ref (g_ad G 106))]) hx hb dL_completions_12 rfl hl (by decide) rfl (fun ls hl => ?_)
      refine lv_iconst (pc := 13) (v := 1) hx hb dL_completions_13 (by decide) ?_
      refine W.widen (k := 2) (n := 12) (by decide) (by decide) ?_
      exact hret 14 _ _ _ _ s7 x dL_completions_14 h hM
    · refine vx_catch (own := RL) (name := "java/lang/IllegalStateException") C.2.2.2.1 [⟨0, 9, 12, 15⟩] ⟨0, 9, 15, 17⟩ [] (htab.trans rfl) (List.forall_mem_cons.mpr ⟨Or.inr ⟨by decide, "java/lang/IllegalArgumentException", C.2.2.2.2.1 _ q2_185, hw.2.2 _ (List.mem_of_getElem? (i := 2) rfl)⟩, fun _ h => absurd h List.not_mem_nil⟩) (by decide) (by decide) (C.2.2.2.2.1 _ q2_186) (va_Nw.use rfl (hw.1 _ (List.mem_of_getElem? (i := 2) rfl))) h1 h2 h3 ?_
      refine W.eq (g2 := F0 m 15 ls [.ref q9]) rfl ?_
      refine lv_astore_n (pc := 15) (lv' := [(3, .ref q9), (0, .ref (g_ad G 60)), (1, .int a1), (2, .ref (g_ad G 106))]) hx hb dL_completions_15 rfl hl (by decide) rfl (fun ls hl => ?_)
      refine lv_iconst (pc := 16) (v := 2) hx hb dL_completions_16 (by decide) ?_
      refine W.widen (k := 2) (n := 12) (by decide) (by decide) ?_
      exact hret 17 _ _ _ _ s7 x dL_completions_17 h hM
  · refine lv_i2l (pc := 7) (v := r.toInt64) hx hb dL_completions_7 rfl ?_
    refine g_last (pc := 8) C hM dL_completions_8 (fun H locs hM => ?_)
    refine lv_goto (pc := 9) (tgt := 18) hx hb dL_completions_9 (by decide) ?_
    refine lv_iconst (pc := 18) (v := 0) hx hb dL_completions_18 (by decide) ?_
    refine W.widen (k := 2) (n := 12) (by decide) (by decide) ?_
    exact hret 19 _ _ _ _ s7 (r.toInt64, x.2) dL_completions_19 h hM
abbrev rm_L_valuesFor : Room := { frames := 8, cells := 3, slots := 18, locals := 147 }
theorem dL_valuesFor_0 : decode cL_valuesFor 0 = .ok (.aload_n 3, 1) := by decide +kernel
theorem dL_valuesFor_1 : decode cL_valuesFor 1 = .ok (.iconst 0, 1) := by decide +kernel
theorem dL_valuesFor_2 : decode cL_valuesFor 2 = .ok (.aload_n 0, 1) := by decide +kernel
theorem dL_valuesFor_3 : decode cL_valuesFor 3 = .ok (.iload_n 1, 1) := by decide +kernel
theorem dL_valuesFor_4 : decode cL_valuesFor 4 = .ok (.iload_n 2, 1) := by decide +kernel
theorem dL_valuesFor_5 : decode cL_valuesFor 5 = .ok (.invokevirtual 102, 3) := by decide +kernel
theorem dL_valuesFor_8 : decode cL_valuesFor 8 = .ok (.i2l, 1) := by decide +kernel
theorem dL_valuesFor_9 : decode cL_valuesFor 9 = .ok (.lastore, 1) := by decide +kernel
theorem dL_valuesFor_10 : decode cL_valuesFor 10 = .ok (.goto 15, 3) := by decide +kernel
theorem dL_valuesFor_13 : decode cL_valuesFor 13 = .ok (.astore 4, 2) := by decide +kernel
theorem dL_valuesFor_15 : decode cL_valuesFor 15 = .ok (.iconst 1, 1) := by decide +kernel
theorem dL_valuesFor_16 : decode cL_valuesFor 16 = .ok (.ireturn, 1) := by decide +kernel
theorem dL_valuesFor_17 : decode cL_valuesFor 17 = .ok (.astore 4, 2) := by decide +kernel
theorem dL_valuesFor_19 : decode cL_valuesFor 19 = .ok (.iconst 2, 1) := by decide +kernel
theorem dL_valuesFor_20 : decode cL_valuesFor 20 = .ok (.ireturn, 1) := by decide +kernel
theorem dL_valuesFor_21 : decode cL_valuesFor 21 = .ok (.astore 4, 2) := by decide +kernel
theorem dL_valuesFor_23 : decode cL_valuesFor 23 = .ok (.iconst 3, 1) := by decide +kernel
theorem dL_valuesFor_24 : decode cL_valuesFor 24 = .ok (.ireturn, 1) := by decide +kernel
theorem dL_valuesFor_25 : decode cL_valuesFor 25 = .ok (.iconst 0, 1) := by decide +kernel
theorem dL_valuesFor_26 : decode cL_valuesFor 26 = .ok (.ireturn, 1) := by decide +kernel
set_option maxHeartbeats 4000000 in
set_option maxRecDepth 100000 in
theorem w_L_valuesFor (l : Launch) (hl0 : l.stackTraces = false) (G : GP) (a1 : Int32) (a2 : Int32) (σ : Sto) (x : XP) (P : Int32 → Sto × XP → Prop) (h : D_L_valuesFor a1 a2 σ x P) : g_Metw l yL_valuesFor cL_valuesFor 5 [(0, 10, 13, 13), (0, 10, 17, 15), (0, 10, 21, 17)] rm_L_valuesFor G [.ref (g_ad G 60), .int a1, .int a2, .ref (g_ad G 106)] σ x P := by
  unfold D_L_valuesFor at h
  refine g_ofWw (by decide +kernel) (Nat.le_of_ble_eq_true rfl) ?_
  intro p e s m args below meth c Q ls C htab hM hl hret
  have hx := C.1
  have hb := C.2.1
  have hw := C.2.2.2.2.2.2.2.2.2.2.2
  have hl : lv_has ls 5 [(0, .ref (g_ad G 60)), (1, .int a1), (2, .int a2), (3, .ref (g_ad G 106))] := hl
  refine lv_aload_n (pc := 0) hx hb dL_valuesFor_0 rfl (lv_at hl 3 rfl) ?_
  refine lv_iconst (pc := 1) (v := 0) hx hb dL_valuesFor_1 (by decide) ?_
  refine lv_aload_n (pc := 2) hx hb dL_valuesFor_2 rfl (lv_at hl 0 rfl) ?_
  refine lv_iload_n (pc := 3) hx hb dL_valuesFor_3 rfl (lv_at hl 1 rfl) ?_
  refine lv_iload_n (pc := 4) hx hb dL_valuesFor_4 rfl (lv_at hl 2 rfl) ?_
  refine g_wVi (pc := 5) C hM hl.1 yv_X11_valuesFor q4_173 (by decide) ce_60 rfl (w_X11_valuesFor l hl0 G x a1 a2 σ _ _ h) rfl rfl ⟨⟨by decide, by decide⟩, by decide, by decide⟩ (Nat.le_of_ble_eq_true rfl) dL_valuesFor_5 (fun E ce q9 s7 H locs h hM h1 h2 h3 => ?_) (fun r s7 H locs h hM => ?_)
  · rcases h with ⟨rfl, h⟩ | ⟨rfl, h⟩ | ⟨rfl, h⟩
    · refine vx_catch (own := RL) (name := "java/lang/IndexOutOfBoundsException") C.2.2.2.1 [] ⟨0, 10, 13, 13⟩ [⟨0, 10, 17, 15⟩, ⟨0, 10, 21, 17⟩] (htab.trans rfl) (fun _ h => absurd h List.not_mem_nil) (by decide) (by decide) (C.2.2.2.2.1 _ q2_106) (va_Nw.use rfl (hw.1 _ (List.mem_of_getElem? (i := 0) rfl))) h1 h2 h3 ?_
      refine W.eq (g2 := F0 m 13 ls [.ref q9]) rfl ?_
      refine lv_astore (pc := 13) (lv' := [(4, .ref q9), (0, .ref (g_ad G 60)), (1, .int a1), (2, .int a2), (3, .ref (g_ad G 106))]) hx hb dL_valuesFor_13 hl (by decide) rfl (fun ls hl => ?_)
      refine lv_iconst (pc := 15) (v := 1) hx hb dL_valuesFor_15 (by decide) ?_
      refine W.widen (k := 3) (n := 18) (by decide) (by decide) ?_
      exact hret 16 _ _ _ _ s7 x dL_valuesFor_16 h hM
    · refine vx_catch (own := RL) (name := "java/lang/IllegalArgumentException") C.2.2.2.1 [⟨0, 10, 13, 13⟩] ⟨0, 10, 17, 15⟩ [⟨0, 10, 21, 17⟩] (htab.trans rfl) (List.forall_mem_cons.mpr ⟨Or.inr ⟨by decide, "java/lang/IndexOutOfBoundsException", C.2.2.2.2.1 _ q2_106, hw.2.2 _ (List.mem_of_getElem? (i := 0) rfl)⟩, fun _ h => absurd h List.not_mem_nil⟩) (by decide) (by decide) (C.2.2.2.2.1 _ q2_185) (va_Nw.use rfl (hw.1 _ (List.mem_of_getElem? (i := 1) rfl))) h1 h2 h3 ?_
      refine W.eq (g2 := F0 m 17 ls [.ref q9]) rfl ?_
      refine lv_astore (pc := 17) (lv' := [(4, .ref q9), (0, .ref (g_ad G 60)), (1, .int a1), (2, .int a2), (3, .ref (g_ad G 106))]) hx hb dL_valuesFor_17 hl (by decide) rfl (fun ls hl => ?_)
      refine lv_iconst (pc := 19) (v := 2) hx hb dL_valuesFor_19 (by decide) ?_
      refine W.widen (k := 3) (n := 18) (by decide) (by decide) ?_
      exact hret 20 _ _ _ _ s7 x dL_valuesFor_20 h hM
    · refine vx_catch (own := RL) (name := "java/lang/IllegalStateException") C.2.2.2.1 [⟨0, 10, 13, 13⟩, ⟨0, 10, 17, 15⟩] ⟨0, 10, 21, 17⟩ [] (htab.trans rfl) (List.forall_mem_cons.mpr ⟨Or.inr ⟨by decide, "java/lang/IndexOutOfBoundsException", C.2.2.2.2.1 _ q2_106, hw.2.2 _ (List.mem_of_getElem? (i := 1) rfl)⟩, List.forall_mem_cons.mpr ⟨Or.inr ⟨by decide, "java/lang/IllegalArgumentException", C.2.2.2.2.1 _ q2_185, hw.2.2 _ (List.mem_of_getElem? (i := 2) rfl)⟩, fun _ h => absurd h List.not_mem_nil⟩⟩) (by decide) (by decide) (C.2.2.2.2.1 _ q2_186) (va_Nw.use rfl (hw.1 _ (List.mem_of_getElem? (i := 2) rfl))) h1 h2 h3 ?_
      refine W.eq (g2 := F0 m 21 ls [.ref q9]) rfl ?_
      refine lv_astore (pc := 21) (lv' := [(4, .ref q9), (0, .ref (g_ad G 60)), (1, .int a1), (2, .int a2), (3, .ref (g_ad G 106))]) hx hb dL_valuesFor_21 hl (by decide) rfl (fun ls hl => ?_)
      refine lv_iconst (pc := 23) (v := 3) hx hb dL_valuesFor_23 (by decide) ?_
      refine W.widen (k := 3) (n := 18) (by decide) (by decide) ?_
      exact hret 24 _ _ _ _ s7 x dL_valuesFor_24 h hM
  · refine lv_i2l (pc := 8) (v := r.toInt64) hx hb dL_valuesFor_8 rfl ?_
    refine g_last (pc := 9) C hM dL_valuesFor_9 (fun H locs hM => ?_)
    refine lv_goto (pc := 10) (tgt := 25) hx hb dL_valuesFor_10 (by decide) ?_
    refine lv_iconst (pc := 25) (v := 0) hx hb dL_valuesFor_25 (by decide) ?_
    refine W.widen (k := 3) (n := 18) (by decide) (by decide) ?_
    exact hret 26 _ _ _ _ s7 (r.toInt64, x.2) dL_valuesFor_26 h hM
abbrev rm_L_extent : Room := { frames := 9, cells := 1, slots := 6, locals := 163 }
theorem dL_extent_0 : decode cL_extent 0 = .ok (.aload_n 2, 1) := by decide +kernel
theorem dL_extent_1 : decode cL_extent 1 = .ok (.iconst 0, 1) := by decide +kernel
theorem dL_extent_2 : decode cL_extent 2 = .ok (.aload_n 0, 1) := by decide +kernel
theorem dL_extent_3 : decode cL_extent 3 = .ok (.iload_n 1, 1) := by decide +kernel
theorem dL_extent_4 : decode cL_extent 4 = .ok (.invokevirtual 105, 3) := by decide +kernel
theorem dL_extent_7 : decode cL_extent 7 = .ok (.i2l, 1) := by decide +kernel
theorem dL_extent_8 : decode cL_extent 8 = .ok (.lastore, 1) := by decide +kernel
theorem dL_extent_9 : decode cL_extent 9 = .ok (.goto 6, 3) := by decide +kernel
theorem dL_extent_12 : decode cL_extent 12 = .ok (.astore_n 3, 1) := by decide +kernel
theorem dL_extent_13 : decode cL_extent 13 = .ok (.iconst 1, 1) := by decide +kernel
theorem dL_extent_14 : decode cL_extent 14 = .ok (.ireturn, 1) := by decide +kernel
theorem dL_extent_15 : decode cL_extent 15 = .ok (.iconst 0, 1) := by decide +kernel
theorem dL_extent_16 : decode cL_extent 16 = .ok (.ireturn, 1) := by decide +kernel
set_option maxHeartbeats 4000000 in
set_option maxRecDepth 100000 in
theorem w_L_extent (l : Launch) (hl0 : l.stackTraces = false) (G : GP) (a1 : Int32) (σ : Sto) (x : XP) (P : Int32 → Sto × XP → Prop) (h : D_L_extent a1 σ x P) : g_Metw l yL_extent cL_extent 4 [(0, 9, 12, 13)] rm_L_extent G [.ref (g_ad G 60), .int a1, .ref (g_ad G 106)] σ x P := by
  unfold D_L_extent at h
  refine g_ofWw (by decide +kernel) (Nat.le_of_ble_eq_true rfl) ?_
  intro p e s m args below meth c Q ls C htab hM hl hret
  have hx := C.1
  have hb := C.2.1
  have hw := C.2.2.2.2.2.2.2.2.2.2.2
  have hl : lv_has ls 4 [(0, .ref (g_ad G 60)), (1, .int a1), (2, .ref (g_ad G 106))] := hl
  refine lv_aload_n (pc := 0) hx hb dL_extent_0 rfl (lv_at hl 2 rfl) ?_
  refine lv_iconst (pc := 1) (v := 0) hx hb dL_extent_1 (by decide) ?_
  refine lv_aload_n (pc := 2) hx hb dL_extent_2 rfl (lv_at hl 0 rfl) ?_
  refine lv_iload_n (pc := 3) hx hb dL_extent_3 rfl (lv_at hl 1 rfl) ?_
  refine g_wVi (pc := 4) C hM hl.1 yv_X11_extent q4_181 (by decide) ce_60 rfl (w_X11_extent l hl0 G x a1 σ _ _ h) rfl rfl ⟨⟨by decide, by decide⟩, by decide, by decide⟩ (Nat.le_of_ble_eq_true rfl) dL_extent_4 (fun E ce q9 s7 H locs h hM h1 h2 h3 => ?_) (fun r s7 H locs h hM => ?_)
  · obtain ⟨rfl, h⟩ := h
    refine vx_catch (own := RL) (name := "java/lang/IndexOutOfBoundsException") C.2.2.2.1 [] ⟨0, 9, 12, 13⟩ [] (htab.trans rfl) (fun _ h => absurd h List.not_mem_nil) (by decide) (by decide) (C.2.2.2.2.1 _ q2_106) (va_Nw.use rfl (hw.1 _ (List.mem_of_getElem? (i := 0) rfl))) h1 h2 h3 ?_
    refine W.eq (g2 := F0 m 12 ls [.ref q9]) rfl ?_
    refine lv_astore_n (pc := 12) (lv' := [(3, .ref q9), (0, .ref (g_ad G 60)), (1, .int a1), (2, .ref (g_ad G 106))]) hx hb dL_extent_12 rfl hl (by decide) rfl (fun ls hl => ?_)
    refine lv_iconst (pc := 13) (v := 1) hx hb dL_extent_13 (by decide) ?_
    refine W.widen (k := 1) (n := 6) (by decide) (by decide) ?_
    exact hret 14 _ _ _ _ s7 x dL_extent_14 h hM
  · refine lv_i2l (pc := 7) (v := r.toInt64) hx hb dL_extent_7 rfl ?_
    refine g_last (pc := 8) C hM dL_extent_8 (fun H locs hM => ?_)
    refine lv_goto (pc := 9) (tgt := 15) hx hb dL_extent_9 (by decide) ?_
    refine lv_iconst (pc := 15) (v := 0) hx hb dL_extent_15 (by decide) ?_
    refine W.widen (k := 1) (n := 6) (by decide) (by decide) ?_
    exact hret 16 _ _ _ _ s7 (r.toInt64, x.2) dL_extent_16 h hM
abbrev rm_L_overlap : Room := { frames := 9, cells := 2, slots := 12, locals := 164 }
theorem dL_overlap_0 : decode cL_overlap 0 = .ok (.aload_n 3, 1) := by decide +kernel
theorem dL_overlap_1 : decode cL_overlap 1 = .ok (.iconst 0, 1) := by decide +kernel
theorem dL_overlap_2 : decode cL_overlap 2 = .ok (.aload_n 0, 1) := by decide +kernel
theorem dL_overlap_3 : decode cL_overlap 3 = .ok (.iload_n 1, 1) := by decide +kernel
theorem dL_overlap_4 : decode cL_overlap 4 = .ok (.iload_n 2, 1) := by decide +kernel
theorem dL_overlap_5 : decode cL_overlap 5 = .ok (.invokevirtual 108, 3) := by decide +kernel
theorem dL_overlap_8 : decode cL_overlap 8 = .ok (.ifCond .eq 7, 3) := by decide +kernel
theorem dL_overlap_11 : decode cL_overlap 11 = .ok (.lconst 1, 1) := by decide +kernel
theorem dL_overlap_12 : decode cL_overlap 12 = .ok (.goto 4, 3) := by decide +kernel
theorem dL_overlap_15 : decode cL_overlap 15 = .ok (.lconst 0, 1) := by decide +kernel
theorem dL_overlap_16 : decode cL_overlap 16 = .ok (.lastore, 1) := by decide +kernel
theorem dL_overlap_17 : decode cL_overlap 17 = .ok (.goto 7, 3) := by decide +kernel
theorem dL_overlap_20 : decode cL_overlap 20 = .ok (.astore 4, 2) := by decide +kernel
theorem dL_overlap_22 : decode cL_overlap 22 = .ok (.iconst 1, 1) := by decide +kernel
theorem dL_overlap_23 : decode cL_overlap 23 = .ok (.ireturn, 1) := by decide +kernel
theorem dL_overlap_24 : decode cL_overlap 24 = .ok (.iconst 0, 1) := by decide +kernel
theorem dL_overlap_25 : decode cL_overlap 25 = .ok (.ireturn, 1) := by decide +kernel
set_option maxHeartbeats 4000000 in
set_option maxRecDepth 100000 in
theorem w_L_overlap (l : Launch) (hl0 : l.stackTraces = false) (G : GP) (a1 : Int32) (a2 : Int32) (σ : Sto) (x : XP) (P : Int32 → Sto × XP → Prop) (h : D_L_overlap a1 a2 σ x P) : g_Metw l yL_overlap cL_overlap 5 [(0, 17, 20, 13)] rm_L_overlap G [.ref (g_ad G 60), .int a1, .int a2, .ref (g_ad G 106)] σ x P := by
  unfold D_L_overlap at h
  refine g_ofWw (by decide +kernel) (Nat.le_of_ble_eq_true rfl) ?_
  intro p e s m args below meth c Q ls C htab hM hl hret
  have hx := C.1
  have hb := C.2.1
  have hw := C.2.2.2.2.2.2.2.2.2.2.2
  have hl : lv_has ls 5 [(0, .ref (g_ad G 60)), (1, .int a1), (2, .int a2), (3, .ref (g_ad G 106))] := hl
  refine lv_aload_n (pc := 0) hx hb dL_overlap_0 rfl (lv_at hl 3 rfl) ?_
  refine lv_iconst (pc := 1) (v := 0) hx hb dL_overlap_1 (by decide) ?_
  refine lv_aload_n (pc := 2) hx hb dL_overlap_2 rfl (lv_at hl 0 rfl) ?_
  refine lv_iload_n (pc := 3) hx hb dL_overlap_3 rfl (lv_at hl 1 rfl) ?_
  refine lv_iload_n (pc := 4) hx hb dL_overlap_4 rfl (lv_at hl 2 rfl) ?_
  refine g_wVi (pc := 5) C hM hl.1 yv_X11_overlap q4_193 (by decide) ce_60 rfl (w_X11_overlap l hl0 G x a1 a2 σ _ _ h) rfl rfl ⟨⟨by decide, by decide⟩, by decide, by decide⟩ (Nat.le_of_ble_eq_true rfl) dL_overlap_5 (fun E ce q9 s7 H locs h hM h1 h2 h3 => ?_) (fun r s7 H locs h hM => ?_)
  · obtain ⟨rfl, h⟩ := h
    refine vx_catch (own := RL) (name := "java/lang/IndexOutOfBoundsException") C.2.2.2.1 [] ⟨0, 17, 20, 13⟩ [] (htab.trans rfl) (fun _ h => absurd h List.not_mem_nil) (by decide) (by decide) (C.2.2.2.2.1 _ q2_106) (va_Nw.use rfl (hw.1 _ (List.mem_of_getElem? (i := 0) rfl))) h1 h2 h3 ?_
    refine W.eq (g2 := F0 m 20 ls [.ref q9]) rfl ?_
    refine lv_astore (pc := 20) (lv' := [(4, .ref q9), (0, .ref (g_ad G 60)), (1, .int a1), (2, .int a2), (3, .ref (g_ad G 106))]) hx hb dL_overlap_20 hl (by decide) rfl (fun ls hl => ?_)
    refine lv_iconst (pc := 22) (v := 1) hx hb dL_overlap_22 (by decide) ?_
    refine W.widen (k := 2) (n := 12) (by decide) (by decide) ?_
    exact hret 23 _ _ _ _ s7 x dL_overlap_23 h hM
  · refine lv_if_eq (pc := 8) (tgt := 15) hx hb dL_overlap_8 (by decide) (fun c1 => ?_) (fun c1 => ?_)
    · have h := h.1 c1
      refine lv_lconst (pc := 15) (v := 0) hx hb dL_overlap_15 (by decide) ?_
      refine g_last (pc := 16) C hM dL_overlap_16 (fun H locs hM => ?_)
      refine lv_goto (pc := 17) (tgt := 24) hx hb dL_overlap_17 (by decide) ?_
      refine lv_iconst (pc := 24) (v := 0) hx hb dL_overlap_24 (by decide) ?_
      refine W.widen (k := 2) (n := 12) (by decide) (by decide) ?_
      exact hret 25 _ _ _ _ s7 (0, x.2) dL_overlap_25 h hM
    · have h := h.2 c1
      refine lv_lconst (pc := 11) (v := 1) hx hb dL_overlap_11 (by decide) ?_
      refine lv_goto (pc := 12) (tgt := 16) hx hb dL_overlap_12 (by decide) ?_
      refine g_last (pc := 16) C hM dL_overlap_16 (fun H locs hM => ?_)
      refine lv_goto (pc := 17) (tgt := 24) hx hb dL_overlap_17 (by decide) ?_
      refine lv_iconst (pc := 24) (v := 0) hx hb dL_overlap_24 (by decide) ?_
      refine W.widen (k := 2) (n := 12) (by decide) (by decide) ?_
      exact hret 25 _ _ _ _ s7 (1, x.2) dL_overlap_25 h hM
abbrev rm_L_covers : Room := { frames := 9, cells := 2, slots := 12, locals := 164 }
theorem dL_covers_0 : decode cL_covers 0 = .ok (.aload_n 3, 1) := by decide +kernel
theorem dL_covers_1 : decode cL_covers 1 = .ok (.iconst 0, 1) := by decide +kernel
theorem dL_covers_2 : decode cL_covers 2 = .ok (.aload_n 0, 1) := by decide +kernel
theorem dL_covers_3 : decode cL_covers 3 = .ok (.iload_n 1, 1) := by decide +kernel
theorem dL_covers_4 : decode cL_covers 4 = .ok (.iload_n 2, 1) := by decide +kernel
theorem dL_covers_5 : decode cL_covers 5 = .ok (.invokevirtual 112, 3) := by decide +kernel
theorem dL_covers_8 : decode cL_covers 8 = .ok (.ifCond .eq 7, 3) := by decide +kernel
theorem dL_covers_11 : decode cL_covers 11 = .ok (.lconst 1, 1) := by decide +kernel
theorem dL_covers_12 : decode cL_covers 12 = .ok (.goto 4, 3) := by decide +kernel
theorem dL_covers_15 : decode cL_covers 15 = .ok (.lconst 0, 1) := by decide +kernel
theorem dL_covers_16 : decode cL_covers 16 = .ok (.lastore, 1) := by decide +kernel
theorem dL_covers_17 : decode cL_covers 17 = .ok (.goto 7, 3) := by decide +kernel
theorem dL_covers_20 : decode cL_covers 20 = .ok (.astore 4, 2) := by decide +kernel
theorem dL_covers_22 : decode cL_covers 22 = .ok (.iconst 1, 1) := by decide +kernel
theorem dL_covers_23 : decode cL_covers 23 = .ok (.ireturn, 1) := by decide +kernel
theorem dL_covers_24 : decode cL_covers 24 = .ok (.iconst 0, 1) := by decide +kernel
theorem dL_covers_25 : decode cL_covers 25 = .ok (.ireturn, 1) := by decide +kernel
set_option maxHeartbeats 4000000 in
set_option maxRecDepth 100000 in
theorem w_L_covers (l : Launch) (hl0 : l.stackTraces = false) (G : GP) (a1 : Int32) (a2 : Int32) (σ : Sto) (x : XP) (P : Int32 → Sto × XP → Prop) (h : D_L_covers a1 a2 σ x P) : g_Metw l yL_covers cL_covers 5 [(0, 17, 20, 13)] rm_L_covers G [.ref (g_ad G 60), .int a1, .int a2, .ref (g_ad G 106)] σ x P := by
  unfold D_L_covers at h
  refine g_ofWw (by decide +kernel) (Nat.le_of_ble_eq_true rfl) ?_
  intro p e s m args below meth c Q ls C htab hM hl hret
  have hx := C.1
  have hb := C.2.1
  have hw := C.2.2.2.2.2.2.2.2.2.2.2
  have hl : lv_has ls 5 [(0, .ref (g_ad G 60)), (1, .int a1), (2, .int a2), (3, .ref (g_ad G 106))] := hl
  refine lv_aload_n (pc := 0) hx hb dL_covers_0 rfl (lv_at hl 3 rfl) ?_
  refine lv_iconst (pc := 1) (v := 0) hx hb dL_covers_1 (by decide) ?_
  refine lv_aload_n (pc := 2) hx hb dL_covers_2 rfl (lv_at hl 0 rfl) ?_
  refine lv_iload_n (pc := 3) hx hb dL_covers_3 rfl (lv_at hl 1 rfl) ?_
  refine lv_iload_n (pc := 4) hx hb dL_covers_4 rfl (lv_at hl 2 rfl) ?_
  refine g_wVi (pc := 5) C hM hl.1 yv_X11_covers q4_204 (by decide) ce_60 rfl (w_X11_covers l hl0 G x a1 a2 σ _ _ h) rfl rfl ⟨⟨by decide, by decide⟩, by decide, by decide⟩ (Nat.le_of_ble_eq_true rfl) dL_covers_5 (fun E ce q9 s7 H locs h hM h1 h2 h3 => ?_) (fun r s7 H locs h hM => ?_)
  · obtain ⟨rfl, h⟩ := h
    refine vx_catch (own := RL) (name := "java/lang/IndexOutOfBoundsException") C.2.2.2.1 [] ⟨0, 17, 20, 13⟩ [] (htab.trans rfl) (fun _ h => absurd h List.not_mem_nil) (by decide) (by decide) (C.2.2.2.2.1 _ q2_106) (va_Nw.use rfl (hw.1 _ (List.mem_of_getElem? (i := 0) rfl))) h1 h2 h3 ?_
    refine W.eq (g2 := F0 m 20 ls [.ref q9]) rfl ?_
    refine lv_astore (pc := 20) (lv' := [(4, .ref q9), (0, .ref (g_ad G 60)), (1, .int a1), (2, .int a2), (3, .ref (g_ad G 106))]) hx hb dL_covers_20 hl (by decide) rfl (fun ls hl => ?_)
    refine lv_iconst (pc := 22) (v := 1) hx hb dL_covers_22 (by decide) ?_
    refine W.widen (k := 2) (n := 12) (by decide) (by decide) ?_
    exact hret 23 _ _ _ _ s7 x dL_covers_23 h hM
  · refine lv_if_eq (pc := 8) (tgt := 15) hx hb dL_covers_8 (by decide) (fun c1 => ?_) (fun c1 => ?_)
    · have h := h.1 c1
      refine lv_lconst (pc := 15) (v := 0) hx hb dL_covers_15 (by decide) ?_
      refine g_last (pc := 16) C hM dL_covers_16 (fun H locs hM => ?_)
      refine lv_goto (pc := 17) (tgt := 24) hx hb dL_covers_17 (by decide) ?_
      refine lv_iconst (pc := 24) (v := 0) hx hb dL_covers_24 (by decide) ?_
      refine W.widen (k := 2) (n := 12) (by decide) (by decide) ?_
      exact hret 25 _ _ _ _ s7 (0, x.2) dL_covers_25 h hM
    · have h := h.2 c1
      refine lv_lconst (pc := 11) (v := 1) hx hb dL_covers_11 (by decide) ?_
      refine lv_goto (pc := 12) (tgt := 16) hx hb dL_covers_12 (by decide) ?_
      refine g_last (pc := 16) C hM dL_covers_16 (fun H locs hM => ?_)
      refine lv_goto (pc := 17) (tgt := 24) hx hb dL_covers_17 (by decide) ?_
      refine lv_iconst (pc := 24) (v := 0) hx hb dL_covers_24 (by decide) ?_
      refine W.widen (k := 2) (n := 12) (by decide) (by decide) ?_
      exact hret 25 _ _ _ _ s7 (1, x.2) dL_covers_25 h hM
abbrev rm_L_clashes : Room := { frames := 8, cells := 1, slots := 6, locals := 142 }
theorem dL_clashes_0 : decode cL_clashes 0 = .ok (.aload_n 2, 1) := by decide +kernel
theorem dL_clashes_1 : decode cL_clashes 1 = .ok (.iconst 0, 1) := by decide +kernel
theorem dL_clashes_2 : decode cL_clashes 2 = .ok (.aload_n 0, 1) := by decide +kernel
theorem dL_clashes_3 : decode cL_clashes 3 = .ok (.iload_n 1, 1) := by decide +kernel
theorem dL_clashes_4 : decode cL_clashes 4 = .ok (.invokevirtual 115, 3) := by decide +kernel
theorem dL_clashes_7 : decode cL_clashes 7 = .ok (.i2l, 1) := by decide +kernel
theorem dL_clashes_8 : decode cL_clashes 8 = .ok (.lastore, 1) := by decide +kernel
theorem dL_clashes_9 : decode cL_clashes 9 = .ok (.goto 6, 3) := by decide +kernel
theorem dL_clashes_12 : decode cL_clashes 12 = .ok (.astore_n 3, 1) := by decide +kernel
theorem dL_clashes_13 : decode cL_clashes 13 = .ok (.iconst 1, 1) := by decide +kernel
theorem dL_clashes_14 : decode cL_clashes 14 = .ok (.ireturn, 1) := by decide +kernel
theorem dL_clashes_15 : decode cL_clashes 15 = .ok (.iconst 0, 1) := by decide +kernel
theorem dL_clashes_16 : decode cL_clashes 16 = .ok (.ireturn, 1) := by decide +kernel
set_option maxHeartbeats 4000000 in
set_option maxRecDepth 100000 in
theorem w_L_clashes (l : Launch) (hl0 : l.stackTraces = false) (G : GP) (a1 : Int32) (σ : Sto) (x : XP) (P : Int32 → Sto × XP → Prop) (h : D_L_clashes a1 σ x P) : g_Metw l yL_clashes cL_clashes 4 [(0, 9, 12, 13)] rm_L_clashes G [.ref (g_ad G 60), .int a1, .ref (g_ad G 106)] σ x P := by
  unfold D_L_clashes at h
  refine g_ofWw (by decide +kernel) (Nat.le_of_ble_eq_true rfl) ?_
  intro p e s m args below meth c Q ls C htab hM hl hret
  have hx := C.1
  have hb := C.2.1
  have hw := C.2.2.2.2.2.2.2.2.2.2.2
  have hl : lv_has ls 4 [(0, .ref (g_ad G 60)), (1, .int a1), (2, .ref (g_ad G 106))] := hl
  refine lv_aload_n (pc := 0) hx hb dL_clashes_0 rfl (lv_at hl 2 rfl) ?_
  refine lv_iconst (pc := 1) (v := 0) hx hb dL_clashes_1 (by decide) ?_
  refine lv_aload_n (pc := 2) hx hb dL_clashes_2 rfl (lv_at hl 0 rfl) ?_
  refine lv_iload_n (pc := 3) hx hb dL_clashes_3 rfl (lv_at hl 1 rfl) ?_
  refine g_wVi (pc := 4) C hM hl.1 yv_X11_clashes q4_216 (by decide) ce_60 rfl (w_X11_clashes l hl0 G x a1 σ _ _ h) rfl rfl ⟨⟨by decide, by decide⟩, by decide, by decide⟩ (Nat.le_of_ble_eq_true rfl) dL_clashes_4 (fun E ce q9 s7 H locs h hM h1 h2 h3 => ?_) (fun r s7 H locs h hM => ?_)
  · obtain ⟨rfl, h⟩ := h
    refine vx_catch (own := RL) (name := "java/lang/IndexOutOfBoundsException") C.2.2.2.1 [] ⟨0, 9, 12, 13⟩ [] (htab.trans rfl) (fun _ h => absurd h List.not_mem_nil) (by decide) (by decide) (C.2.2.2.2.1 _ q2_106) (va_Nw.use rfl (hw.1 _ (List.mem_of_getElem? (i := 0) rfl))) h1 h2 h3 ?_
    refine W.eq (g2 := F0 m 12 ls [.ref q9]) rfl ?_
    refine lv_astore_n (pc := 12) (lv' := [(3, .ref q9), (0, .ref (g_ad G 60)), (1, .int a1), (2, .ref (g_ad G 106))]) hx hb dL_clashes_12 rfl hl (by decide) rfl (fun ls hl => ?_)
    refine lv_iconst (pc := 13) (v := 1) hx hb dL_clashes_13 (by decide) ?_
    refine W.widen (k := 1) (n := 6) (by decide) (by decide) ?_
    exact hret 14 _ _ _ _ s7 x dL_clashes_14 h hM
  · refine lv_i2l (pc := 7) (v := r.toInt64) hx hb dL_clashes_7 rfl ?_
    refine g_last (pc := 8) C hM dL_clashes_8 (fun H locs hM => ?_)
    refine lv_goto (pc := 9) (tgt := 15) hx hb dL_clashes_9 (by decide) ?_
    refine lv_iconst (pc := 15) (v := 0) hx hb dL_clashes_15 (by decide) ?_
    refine W.widen (k := 1) (n := 6) (by decide) (by decide) ?_
    exact hret 16 _ _ _ _ s7 (r.toInt64, x.2) dL_clashes_16 h hM
abbrev rm_L_neverDeciding : Room := { frames := 68, cells := 1, slots := 6, locals := 2694 }
theorem dL_neverDeciding_0 : decode cL_neverDeciding 0 = .ok (.aload_n 2, 1) := by decide +kernel
theorem dL_neverDeciding_1 : decode cL_neverDeciding 1 = .ok (.iconst 0, 1) := by decide +kernel
theorem dL_neverDeciding_2 : decode cL_neverDeciding 2 = .ok (.aload_n 0, 1) := by decide +kernel
theorem dL_neverDeciding_3 : decode cL_neverDeciding 3 = .ok (.iload_n 1, 1) := by decide +kernel
theorem dL_neverDeciding_4 : decode cL_neverDeciding 4 = .ok (.invokevirtual 118, 3) := by decide +kernel
theorem dL_neverDeciding_7 : decode cL_neverDeciding 7 = .ok (.i2l, 1) := by decide +kernel
theorem dL_neverDeciding_8 : decode cL_neverDeciding 8 = .ok (.lastore, 1) := by decide +kernel
theorem dL_neverDeciding_9 : decode cL_neverDeciding 9 = .ok (.goto 6, 3) := by decide +kernel
theorem dL_neverDeciding_12 : decode cL_neverDeciding 12 = .ok (.astore_n 3, 1) := by decide +kernel
theorem dL_neverDeciding_13 : decode cL_neverDeciding 13 = .ok (.iconst 1, 1) := by decide +kernel
theorem dL_neverDeciding_14 : decode cL_neverDeciding 14 = .ok (.ireturn, 1) := by decide +kernel
theorem dL_neverDeciding_15 : decode cL_neverDeciding 15 = .ok (.iconst 0, 1) := by decide +kernel
theorem dL_neverDeciding_16 : decode cL_neverDeciding 16 = .ok (.ireturn, 1) := by decide +kernel
set_option maxHeartbeats 4000000 in
set_option maxRecDepth 100000 in
theorem w_L_neverDeciding (l : Launch) (hl0 : l.stackTraces = false) (G : GP) (a1 : Int32) (σ : Sto) (x : XP) (P : Int32 → Sto × XP → Prop) (h : D_L_neverDeciding a1 σ x P) : g_Metw l yL_neverDeciding cL_neverDeciding 4 [(0, 9, 12, 13)] rm_L_neverDeciding G [.ref (g_ad G 60), .int a1, .ref (g_ad G 106)] σ x P := by
  unfold D_L_neverDeciding at h
  refine g_ofWw (by decide +kernel) (Nat.le_of_ble_eq_true rfl) ?_
  intro p e s m args below meth c Q ls C htab hM hl hret
  have hx := C.1
  have hb := C.2.1
  have hw := C.2.2.2.2.2.2.2.2.2.2.2
  have hl : lv_has ls 4 [(0, .ref (g_ad G 60)), (1, .int a1), (2, .ref (g_ad G 106))] := hl
  refine lv_aload_n (pc := 0) hx hb dL_neverDeciding_0 rfl (lv_at hl 2 rfl) ?_
  refine lv_iconst (pc := 1) (v := 0) hx hb dL_neverDeciding_1 (by decide) ?_
  refine lv_aload_n (pc := 2) hx hb dL_neverDeciding_2 rfl (lv_at hl 0 rfl) ?_
  refine lv_iload_n (pc := 3) hx hb dL_neverDeciding_3 rfl (lv_at hl 1 rfl) ?_
  refine g_wVi (pc := 4) C hM hl.1 yv_X11_neverDeciding q4_232 (by decide) ce_60 rfl (w_X11_neverDeciding l hl0 G x a1 σ _ _ h) rfl rfl ⟨⟨by decide, by decide⟩, by decide, by decide⟩ (Nat.le_of_ble_eq_true rfl) dL_neverDeciding_4 (fun E ce q9 s7 H locs h hM h1 h2 h3 => ?_) (fun r s7 H locs h hM => ?_)
  · obtain ⟨rfl, h⟩ := h
    refine vx_catch (own := RL) (name := "java/lang/IndexOutOfBoundsException") C.2.2.2.1 [] ⟨0, 9, 12, 13⟩ [] (htab.trans rfl) (fun _ h => absurd h List.not_mem_nil) (by decide) (by decide) (C.2.2.2.2.1 _ q2_106) (va_Nw.use rfl (hw.1 _ (List.mem_of_getElem? (i := 0) rfl))) h1 h2 h3 ?_
    refine W.eq (g2 := F0 m 12 ls [.ref q9]) rfl ?_
    refine lv_astore_n (pc := 12) (lv' := [(3, .ref q9), (0, .ref (g_ad G 60)), (1, .int a1), (2, .ref (g_ad G 106))]) hx hb dL_neverDeciding_12 rfl hl (by decide) rfl (fun ls hl => ?_)
    refine lv_iconst (pc := 13) (v := 1) hx hb dL_neverDeciding_13 (by decide) ?_
    refine W.widen (k := 1) (n := 6) (by decide) (by decide) ?_
    exact hret 14 _ _ _ _ s7 x dL_neverDeciding_14 h hM
  · refine lv_i2l (pc := 7) (v := r.toInt64) hx hb dL_neverDeciding_7 rfl ?_
    refine g_last (pc := 8) C hM dL_neverDeciding_8 (fun H locs hM => ?_)
    refine lv_goto (pc := 9) (tgt := 15) hx hb dL_neverDeciding_9 (by decide) ?_
    refine lv_iconst (pc := 15) (v := 0) hx hb dL_neverDeciding_15 (by decide) ?_
    refine W.widen (k := 1) (n := 6) (by decide) (by decide) ?_
    exact hret 16 _ _ _ _ s7 (r.toInt64, x.2) dL_neverDeciding_16 h hM
abbrev rm_L_witness : Room := { frames := 68, cells := 3, slots := 18, locals := 2699 }
theorem dL_witness_0 : decode cL_witness 0 = .ok (.aload_n 3, 1) := by decide +kernel
theorem dL_witness_1 : decode cL_witness 1 = .ok (.iconst 0, 1) := by decide +kernel
theorem dL_witness_2 : decode cL_witness 2 = .ok (.aload_n 0, 1) := by decide +kernel
theorem dL_witness_3 : decode cL_witness 3 = .ok (.iload_n 1, 1) := by decide +kernel
theorem dL_witness_4 : decode cL_witness 4 = .ok (.iload_n 2, 1) := by decide +kernel
theorem dL_witness_5 : decode cL_witness 5 = .ok (.invokevirtual 121, 3) := by decide +kernel
theorem dL_witness_8 : decode cL_witness 8 = .ok (.i2l, 1) := by decide +kernel
theorem dL_witness_9 : decode cL_witness 9 = .ok (.lastore, 1) := by decide +kernel
theorem dL_witness_10 : decode cL_witness 10 = .ok (.goto 11, 3) := by decide +kernel
theorem dL_witness_13 : decode cL_witness 13 = .ok (.astore 4, 2) := by decide +kernel
theorem dL_witness_15 : decode cL_witness 15 = .ok (.iconst 1, 1) := by decide +kernel
theorem dL_witness_16 : decode cL_witness 16 = .ok (.ireturn, 1) := by decide +kernel
theorem dL_witness_17 : decode cL_witness 17 = .ok (.astore 4, 2) := by decide +kernel
theorem dL_witness_19 : decode cL_witness 19 = .ok (.iconst 2, 1) := by decide +kernel
theorem dL_witness_20 : decode cL_witness 20 = .ok (.ireturn, 1) := by decide +kernel
theorem dL_witness_21 : decode cL_witness 21 = .ok (.iconst 0, 1) := by decide +kernel
theorem dL_witness_22 : decode cL_witness 22 = .ok (.ireturn, 1) := by decide +kernel
set_option maxHeartbeats 4000000 in
set_option maxRecDepth 100000 in
theorem w_L_witness (l : Launch) (hl0 : l.stackTraces = false) (G : GP) (a1 : Int32) (a2 : Int32) (σ : Sto) (x : XP) (P : Int32 → Sto × XP → Prop) (h : D_L_witness a1 a2 σ x P) : g_Metw l yL_witness cL_witness 5 [(0, 10, 13, 13), (0, 10, 17, 54)] rm_L_witness G [.ref (g_ad G 60), .int a1, .int a2, .ref (g_ad G 106)] σ x P := by
  unfold D_L_witness at h
  refine g_ofWw (by decide +kernel) (Nat.le_of_ble_eq_true rfl) ?_
  intro p e s m args below meth c Q ls C htab hM hl hret
  have hx := C.1
  have hb := C.2.1
  have hw := C.2.2.2.2.2.2.2.2.2.2.2
  have hl : lv_has ls 5 [(0, .ref (g_ad G 60)), (1, .int a1), (2, .int a2), (3, .ref (g_ad G 106))] := hl
  refine lv_aload_n (pc := 0) hx hb dL_witness_0 rfl (lv_at hl 3 rfl) ?_
  refine lv_iconst (pc := 1) (v := 0) hx hb dL_witness_1 (by decide) ?_
  refine lv_aload_n (pc := 2) hx hb dL_witness_2 rfl (lv_at hl 0 rfl) ?_
  refine lv_iload_n (pc := 3) hx hb dL_witness_3 rfl (lv_at hl 1 rfl) ?_
  refine lv_iload_n (pc := 4) hx hb dL_witness_4 rfl (lv_at hl 2 rfl) ?_
  refine g_wVi (pc := 5) C hM hl.1 yv_X11_witness q5_31 (by decide) ce_60 rfl (w_X11_witness l hl0 G x a1 a2 σ _ _ h) rfl rfl ⟨⟨by decide, by decide⟩, by decide, by decide⟩ (Nat.le_of_ble_eq_true rfl) dL_witness_5 (fun E ce q9 s7 H locs h hM h1 h2 h3 => ?_) (fun r s7 H locs h hM => ?_)
  · rcases h with ⟨rfl, h⟩ | ⟨rfl, h⟩
    · refine vx_catch (own := RL) (name := "java/lang/IndexOutOfBoundsException") C.2.2.2.1 [] ⟨0, 10, 13, 13⟩ [⟨0, 10, 17, 54⟩] (htab.trans rfl) (fun _ h => absurd h List.not_mem_nil) (by decide) (by decide) (C.2.2.2.2.1 _ q2_106) (va_Nw.use rfl (hw.1 _ (List.mem_of_getElem? (i := 0) rfl))) h1 h2 h3 ?_
      refine W.eq (g2 := F0 m 13 ls [.ref q9]) rfl ?_
      refine lv_astore (pc := 13) (lv' := [(4, .ref q9), (0, .ref (g_ad G 60)), (1, .int a1), (2, .int a2), (3, .ref (g_ad G 106))]) hx hb dL_witness_13 hl (by decide) rfl (fun ls hl => ?_)
      refine lv_iconst (pc := 15) (v := 1) hx hb dL_witness_15 (by decide) ?_
      refine W.widen (k := 3) (n := 18) (by decide) (by decide) ?_
      exact hret 16 _ _ _ _ s7 x dL_witness_16 h hM
    · refine vx_catch (own := RL) (name := "java/util/NoSuchElementException") C.2.2.2.1 [⟨0, 10, 13, 13⟩] ⟨0, 10, 17, 54⟩ [] (htab.trans rfl) (List.forall_mem_cons.mpr ⟨Or.inr ⟨by decide, "java/lang/IndexOutOfBoundsException", C.2.2.2.2.1 _ q2_106, hw.2.2 _ (List.mem_of_getElem? (i := 3) rfl)⟩, fun _ h => absurd h List.not_mem_nil⟩) (by decide) (by decide) (C.2.2.2.2.1 _ q3_156) (va_Nw.use rfl (hw.1 _ (List.mem_of_getElem? (i := 3) rfl))) h1 h2 h3 ?_
      refine W.eq (g2 := F0 m 17 ls [.ref q9]) rfl ?_
      refine lv_astore (pc := 17) (lv' := [(4, .ref q9), (0, .ref (g_ad G 60)), (1, .int a1), (2, .int a2), (3, .ref (g_ad G 106))]) hx hb dL_witness_17 hl (by decide) rfl (fun ls hl => ?_)
      refine lv_iconst (pc := 19) (v := 2) hx hb dL_witness_19 (by decide) ?_
      refine W.widen (k := 3) (n := 18) (by decide) (by decide) ?_
      exact hret 20 _ _ _ _ s7 x dL_witness_20 h hM
  · refine lv_i2l (pc := 8) (v := r.toInt64) hx hb dL_witness_8 rfl ?_
    refine g_last (pc := 9) C hM dL_witness_9 (fun H locs hM => ?_)
    refine lv_goto (pc := 10) (tgt := 21) hx hb dL_witness_10 (by decide) ?_
    refine lv_iconst (pc := 21) (v := 0) hx hb dL_witness_21 (by decide) ?_
    refine W.widen (k := 3) (n := 18) (by decide) (by decide) ?_
    exact hret 22 _ _ _ _ s7 (r.toInt64, x.2) dL_witness_22 h hM
abbrev rm_L_blocker : Room := { frames := 69, cells := 3, slots := 18, locals := 2717 }
theorem dL_blocker_0 : decode cL_blocker 0 = .ok (.aload_n 2, 1) := by decide +kernel
theorem dL_blocker_1 : decode cL_blocker 1 = .ok (.iconst 0, 1) := by decide +kernel
theorem dL_blocker_2 : decode cL_blocker 2 = .ok (.aload_n 0, 1) := by decide +kernel
theorem dL_blocker_3 : decode cL_blocker 3 = .ok (.iload_n 1, 1) := by decide +kernel
theorem dL_blocker_4 : decode cL_blocker 4 = .ok (.invokevirtual 124, 3) := by decide +kernel
theorem dL_blocker_7 : decode cL_blocker 7 = .ok (.i2l, 1) := by decide +kernel
theorem dL_blocker_8 : decode cL_blocker 8 = .ok (.lastore, 1) := by decide +kernel
theorem dL_blocker_9 : decode cL_blocker 9 = .ok (.goto 12, 3) := by decide +kernel
theorem dL_blocker_12 : decode cL_blocker 12 = .ok (.astore_n 3, 1) := by decide +kernel
theorem dL_blocker_13 : decode cL_blocker 13 = .ok (.iconst 1, 1) := by decide +kernel
theorem dL_blocker_14 : decode cL_blocker 14 = .ok (.ireturn, 1) := by decide +kernel
theorem dL_blocker_15 : decode cL_blocker 15 = .ok (.astore_n 3, 1) := by decide +kernel
theorem dL_blocker_16 : decode cL_blocker 16 = .ok (.iconst 2, 1) := by decide +kernel
theorem dL_blocker_17 : decode cL_blocker 17 = .ok (.ireturn, 1) := by decide +kernel
theorem dL_blocker_18 : decode cL_blocker 18 = .ok (.astore_n 3, 1) := by decide +kernel
theorem dL_blocker_19 : decode cL_blocker 19 = .ok (.iconst 3, 1) := by decide +kernel
theorem dL_blocker_20 : decode cL_blocker 20 = .ok (.ireturn, 1) := by decide +kernel
theorem dL_blocker_21 : decode cL_blocker 21 = .ok (.iconst 0, 1) := by decide +kernel
theorem dL_blocker_22 : decode cL_blocker 22 = .ok (.ireturn, 1) := by decide +kernel
set_option maxHeartbeats 4000000 in
set_option maxRecDepth 100000 in
theorem w_L_blocker (l : Launch) (hl0 : l.stackTraces = false) (G : GP) (a1 : Int32) (σ : Sto) (x : XP) (P : Int32 → Sto × XP → Prop) (h : D_L_blocker a1 σ x P) : g_Metw l yL_blocker cL_blocker 4 [(0, 9, 12, 13), (0, 9, 15, 17), (0, 9, 18, 54)] rm_L_blocker G [.ref (g_ad G 60), .int a1, .ref (g_ad G 106)] σ x P := by
  unfold D_L_blocker at h
  refine g_ofWw (by decide +kernel) (Nat.le_of_ble_eq_true rfl) ?_
  intro p e s m args below meth c Q ls C htab hM hl hret
  have hx := C.1
  have hb := C.2.1
  have hw := C.2.2.2.2.2.2.2.2.2.2.2
  have hl : lv_has ls 4 [(0, .ref (g_ad G 60)), (1, .int a1), (2, .ref (g_ad G 106))] := hl
  refine lv_aload_n (pc := 0) hx hb dL_blocker_0 rfl (lv_at hl 2 rfl) ?_
  refine lv_iconst (pc := 1) (v := 0) hx hb dL_blocker_1 (by decide) ?_
  refine lv_aload_n (pc := 2) hx hb dL_blocker_2 rfl (lv_at hl 0 rfl) ?_
  refine lv_iload_n (pc := 3) hx hb dL_blocker_3 rfl (lv_at hl 1 rfl) ?_
  refine g_wVi (pc := 4) C hM hl.1 yv_X11_blocker q5_46 (by decide) ce_60 rfl (w_X11_blocker l hl0 G x a1 σ _ _ h) rfl rfl ⟨⟨by decide, by decide⟩, by decide, by decide⟩ (Nat.le_of_ble_eq_true rfl) dL_blocker_4 (fun E ce q9 s7 H locs h hM h1 h2 h3 => ?_) (fun r s7 H locs h hM => ?_)
  · rcases h with ⟨rfl, h⟩ | ⟨rfl, h⟩ | ⟨rfl, h⟩
    · refine vx_catch (own := RL) (name := "java/lang/IndexOutOfBoundsException") C.2.2.2.1 [] ⟨0, 9, 12, 13⟩ [⟨0, 9, 15, 17⟩, ⟨0, 9, 18, 54⟩] (htab.trans rfl) (fun _ h => absurd h List.not_mem_nil) (by decide) (by decide) (C.2.2.2.2.1 _ q2_106) (va_Nw.use rfl (hw.1 _ (List.mem_of_getElem? (i := 0) rfl))) h1 h2 h3 ?_
      refine W.eq (g2 := F0 m 12 ls [.ref q9]) rfl ?_
      refine lv_astore_n (pc := 12) (lv' := [(3, .ref q9), (0, .ref (g_ad G 60)), (1, .int a1), (2, .ref (g_ad G 106))]) hx hb dL_blocker_12 rfl hl (by decide) rfl (fun ls hl => ?_)
      refine lv_iconst (pc := 13) (v := 1) hx hb dL_blocker_13 (by decide) ?_
      refine W.widen (k := 3) (n := 18) (by decide) (by decide) ?_
      exact hret 14 _ _ _ _ s7 x dL_blocker_14 h hM
    · refine vx_catch (own := RL) (name := "java/lang/IllegalStateException") C.2.2.2.1 [⟨0, 9, 12, 13⟩] ⟨0, 9, 15, 17⟩ [⟨0, 9, 18, 54⟩] (htab.trans rfl) (List.forall_mem_cons.mpr ⟨Or.inr ⟨by decide, "java/lang/IndexOutOfBoundsException", C.2.2.2.2.1 _ q2_106, hw.2.2 _ (List.mem_of_getElem? (i := 1) rfl)⟩, fun _ h => absurd h List.not_mem_nil⟩) (by decide) (by decide) (C.2.2.2.2.1 _ q2_186) (va_Nw.use rfl (hw.1 _ (List.mem_of_getElem? (i := 2) rfl))) h1 h2 h3 ?_
      refine W.eq (g2 := F0 m 15 ls [.ref q9]) rfl ?_
      refine lv_astore_n (pc := 15) (lv' := [(3, .ref q9), (0, .ref (g_ad G 60)), (1, .int a1), (2, .ref (g_ad G 106))]) hx hb dL_blocker_15 rfl hl (by decide) rfl (fun ls hl => ?_)
      refine lv_iconst (pc := 16) (v := 2) hx hb dL_blocker_16 (by decide) ?_
      refine W.widen (k := 3) (n := 18) (by decide) (by decide) ?_
      exact hret 17 _ _ _ _ s7 x dL_blocker_17 h hM
    · refine vx_catch (own := RL) (name := "java/util/NoSuchElementException") C.2.2.2.1 [⟨0, 9, 12, 13⟩, ⟨0, 9, 15, 17⟩] ⟨0, 9, 18, 54⟩ [] (htab.trans rfl) (List.forall_mem_cons.mpr ⟨Or.inr ⟨by decide, "java/lang/IndexOutOfBoundsException", C.2.2.2.2.1 _ q2_106, hw.2.2 _ (List.mem_of_getElem? (i := 3) rfl)⟩, List.forall_mem_cons.mpr ⟨Or.inr ⟨by decide, "java/lang/IllegalStateException", C.2.2.2.2.1 _ q2_186, hw.2.2 _ (List.mem_of_getElem? (i := 5) rfl)⟩, fun _ h => absurd h List.not_mem_nil⟩⟩) (by decide) (by decide) (C.2.2.2.2.1 _ q3_156) (va_Nw.use rfl (hw.1 _ (List.mem_of_getElem? (i := 3) rfl))) h1 h2 h3 ?_
      refine W.eq (g2 := F0 m 18 ls [.ref q9]) rfl ?_
      refine lv_astore_n (pc := 18) (lv' := [(3, .ref q9), (0, .ref (g_ad G 60)), (1, .int a1), (2, .ref (g_ad G 106))]) hx hb dL_blocker_18 rfl hl (by decide) rfl (fun ls hl => ?_)
      refine lv_iconst (pc := 19) (v := 3) hx hb dL_blocker_19 (by decide) ?_
      refine W.widen (k := 3) (n := 18) (by decide) (by decide) ?_
      exact hret 20 _ _ _ _ s7 x dL_blocker_20 h hM
  · refine lv_i2l (pc := 7) (v := r.toInt64) hx hb dL_blocker_7 rfl ?_
    refine g_last (pc := 8) C hM dL_blocker_8 (fun H locs hM => ?_)
    refine lv_goto (pc := 9) (tgt := 21) hx hb dL_blocker_9 (by decide) ?_
    refine lv_iconst (pc := 21) (v := 0) hx hb dL_blocker_21 (by decide) ?_
    refine W.widen (k := 3) (n := 18) (by decide) (by decide) ?_
    exact hret 22 _ _ _ _ s7 (r.toInt64, x.2) dL_blocker_22 h hM
abbrev rm_L_audit : Room := { frames := 8, cells := 2, slots := 12, locals := 143 }
theorem dL_audit_0 : decode cL_audit 0 = .ok (.aload_n 3, 1) := by decide +kernel
theorem dL_audit_1 : decode cL_audit 1 = .ok (.iconst 0, 1) := by decide +kernel
theorem dL_audit_2 : decode cL_audit 2 = .ok (.aload_n 0, 1) := by decide +kernel
theorem dL_audit_3 : decode cL_audit 3 = .ok (.iload_n 1, 1) := by decide +kernel
theorem dL_audit_4 : decode cL_audit 4 = .ok (.iload_n 2, 1) := by decide +kernel
theorem dL_audit_5 : decode cL_audit 5 = .ok (.invokevirtual 127, 3) := by decide +kernel
theorem dL_audit_8 : decode cL_audit 8 = .ok (.i2l, 1) := by decide +kernel
theorem dL_audit_9 : decode cL_audit 9 = .ok (.lastore, 1) := by decide +kernel
theorem dL_audit_10 : decode cL_audit 10 = .ok (.goto 11, 3) := by decide +kernel
theorem dL_audit_13 : decode cL_audit 13 = .ok (.astore 4, 2) := by decide +kernel
theorem dL_audit_15 : decode cL_audit 15 = .ok (.iconst 1, 1) := by decide +kernel
theorem dL_audit_16 : decode cL_audit 16 = .ok (.ireturn, 1) := by decide +kernel
theorem dL_audit_17 : decode cL_audit 17 = .ok (.astore 4, 2) := by decide +kernel
theorem dL_audit_19 : decode cL_audit 19 = .ok (.iconst 2, 1) := by decide +kernel
theorem dL_audit_20 : decode cL_audit 20 = .ok (.ireturn, 1) := by decide +kernel
theorem dL_audit_21 : decode cL_audit 21 = .ok (.iconst 0, 1) := by decide +kernel
theorem dL_audit_22 : decode cL_audit 22 = .ok (.ireturn, 1) := by decide +kernel
set_option maxHeartbeats 4000000 in
set_option maxRecDepth 100000 in
theorem w_L_audit (l : Launch) (hl0 : l.stackTraces = false) (G : GP) (a1 : Int32) (a2 : Int32) (σ : Sto) (x : XP) (P : Int32 → Sto × XP → Prop) (h : D_L_audit a1 a2 σ x P) : g_Metw l yL_audit cL_audit 5 [(0, 10, 13, 13), (0, 10, 17, 15)] rm_L_audit G [.ref (g_ad G 60), .int a1, .int a2, .ref (g_ad G 106)] σ x P := by
  unfold D_L_audit at h
  refine g_ofWw (by decide +kernel) (Nat.le_of_ble_eq_true rfl) ?_
  intro p e s m args below meth c Q ls C htab hM hl hret
  have hx := C.1
  have hb := C.2.1
  have hw := C.2.2.2.2.2.2.2.2.2.2.2
  have hl : lv_has ls 5 [(0, .ref (g_ad G 60)), (1, .int a1), (2, .int a2), (3, .ref (g_ad G 106))] := hl
  refine lv_aload_n (pc := 0) hx hb dL_audit_0 rfl (lv_at hl 3 rfl) ?_
  refine lv_iconst (pc := 1) (v := 0) hx hb dL_audit_1 (by decide) ?_
  refine lv_aload_n (pc := 2) hx hb dL_audit_2 rfl (lv_at hl 0 rfl) ?_
  refine lv_iload_n (pc := 3) hx hb dL_audit_3 rfl (lv_at hl 1 rfl) ?_
  refine lv_iload_n (pc := 4) hx hb dL_audit_4 rfl (lv_at hl 2 rfl) ?_
  refine g_wVi (pc := 5) C hM hl.1 yv_X11_audit q5_61 (by decide) ce_60 rfl (w_X11_audit l hl0 G x a1 a2 σ _ _ h) rfl rfl ⟨⟨by decide, by decide⟩, by decide, by decide⟩ (Nat.le_of_ble_eq_true rfl) dL_audit_5 (fun E ce q9 s7 H locs h hM h1 h2 h3 => ?_) (fun r s7 H locs h hM => ?_)
  · rcases h with ⟨rfl, h⟩ | ⟨rfl, h⟩
    · refine vx_catch (own := RL) (name := "java/lang/IndexOutOfBoundsException") C.2.2.2.1 [] ⟨0, 10, 13, 13⟩ [⟨0, 10, 17, 15⟩] (htab.trans rfl) (fun _ h => absurd h List.not_mem_nil) (by decide) (by decide) (C.2.2.2.2.1 _ q2_106) (va_Nw.use rfl (hw.1 _ (List.mem_of_getElem? (i := 0) rfl))) h1 h2 h3 ?_
      refine W.eq (g2 := F0 m 13 ls [.ref q9]) rfl ?_
      refine lv_astore (pc := 13) (lv' := [(4, .ref q9), (0, .ref (g_ad G 60)), (1, .int a1), (2, .int a2), (3, .ref (g_ad G 106))]) hx hb dL_audit_13 hl (by decide) rfl (fun ls hl => ?_)
      refine lv_iconst (pc := 15) (v := 1) hx hb dL_audit_15 (by decide) ?_
      refine W.widen (k := 2) (n := 12) (by decide) (by decide) ?_
      exact hret 16 _ _ _ _ s7 x dL_audit_16 h hM
    · refine vx_catch (own := RL) (name := "java/lang/IllegalArgumentException") C.2.2.2.1 [⟨0, 10, 13, 13⟩] ⟨0, 10, 17, 15⟩ [] (htab.trans rfl) (List.forall_mem_cons.mpr ⟨Or.inr ⟨by decide, "java/lang/IndexOutOfBoundsException", C.2.2.2.2.1 _ q2_106, hw.2.2 _ (List.mem_of_getElem? (i := 0) rfl)⟩, fun _ h => absurd h List.not_mem_nil⟩) (by decide) (by decide) (C.2.2.2.2.1 _ q2_185) (va_Nw.use rfl (hw.1 _ (List.mem_of_getElem? (i := 1) rfl))) h1 h2 h3 ?_
      refine W.eq (g2 := F0 m 17 ls [.ref q9]) rfl ?_
      refine lv_astore (pc := 17) (lv' := [(4, .ref q9), (0, .ref (g_ad G 60)), (1, .int a1), (2, .int a2), (3, .ref (g_ad G 106))]) hx hb dL_audit_17 hl (by decide) rfl (fun ls hl => ?_)
      refine lv_iconst (pc := 19) (v := 2) hx hb dL_audit_19 (by decide) ?_
      refine W.widen (k := 2) (n := 12) (by decide) (by decide) ?_
      exact hret 20 _ _ _ _ s7 x dL_audit_20 h hM
  · refine lv_i2l (pc := 8) (v := r.toInt64) hx hb dL_audit_8 rfl ?_
    refine g_last (pc := 9) C hM dL_audit_9 (fun H locs hM => ?_)
    refine lv_goto (pc := 10) (tgt := 21) hx hb dL_audit_10 (by decide) ?_
    refine lv_iconst (pc := 21) (v := 0) hx hb dL_audit_21 (by decide) ?_
    refine W.widen (k := 2) (n := 12) (by decide) (by decide) ?_
    exact hret 22 _ _ _ _ s7 (r.toInt64, x.2) dL_audit_22 h hM
abbrev rm_L_permitShare : Room := { frames := 7, cells := 1, slots := 6, locals := 121 }
theorem dL_permitShare_0 : decode cL_permitShare 0 = .ok (.aload_n 1, 1) := by decide +kernel
theorem dL_permitShare_1 : decode cL_permitShare 1 = .ok (.iconst 0, 1) := by decide +kernel
theorem dL_permitShare_2 : decode cL_permitShare 2 = .ok (.aload_n 0, 1) := by decide +kernel
theorem dL_permitShare_3 : decode cL_permitShare 3 = .ok (.invokevirtual 130, 3) := by decide +kernel
theorem dL_permitShare_6 : decode cL_permitShare 6 = .ok (.dastore, 1) := by decide +kernel
theorem dL_permitShare_7 : decode cL_permitShare 7 = .ok (.goto 6, 3) := by decide +kernel
theorem dL_permitShare_10 : decode cL_permitShare 10 = .ok (.astore_n 2, 1) := by decide +kernel
theorem dL_permitShare_11 : decode cL_permitShare 11 = .ok (.iconst 1, 1) := by decide +kernel
theorem dL_permitShare_12 : decode cL_permitShare 12 = .ok (.ireturn, 1) := by decide +kernel
theorem dL_permitShare_13 : decode cL_permitShare 13 = .ok (.iconst 0, 1) := by decide +kernel
theorem dL_permitShare_14 : decode cL_permitShare 14 = .ok (.ireturn, 1) := by decide +kernel
set_option maxHeartbeats 4000000 in
set_option maxRecDepth 100000 in
theorem w_L_permitShare (l : Launch) (hl0 : l.stackTraces = false) (G : GP) (σ : Sto) (x : XP) (P : Int32 → Sto × XP → Prop) (h : D_L_permitShare  σ x P) : g_Metw l yL_permitShare cL_permitShare 3 [(0, 7, 10, 134)] rm_L_permitShare G [.ref (g_ad G 60), .ref (g_ad G 107)] σ x P := by
  unfold D_L_permitShare at h
  refine g_ofWw (by decide +kernel) (Nat.le_of_ble_eq_true rfl) ?_
  intro p e s m args below meth c Q ls C htab hM hl hret
  have hx := C.1
  have hb := C.2.1
  have hw := C.2.2.2.2.2.2.2.2.2.2.2
  have hl : lv_has ls 3 [(0, .ref (g_ad G 60)), (1, .ref (g_ad G 107))] := hl
  refine lv_aload_n (pc := 0) hx hb dL_permitShare_0 rfl (lv_at hl 1 rfl) ?_
  refine lv_iconst (pc := 1) (v := 0) hx hb dL_permitShare_1 (by decide) ?_
  refine lv_aload_n (pc := 2) hx hb dL_permitShare_2 rfl (lv_at hl 0 rfl) ?_
  refine g_wVd (pc := 3) C hM hl.1 yv_X11_permitShare q5_86 (by decide) ce_60 rfl (w_X11_permitShare l hl0 G x  σ _ _ h) rfl rfl ⟨⟨by decide, by decide⟩, by decide, by decide⟩ (Nat.le_of_ble_eq_true rfl) dL_permitShare_3 (fun E ce q9 s7 H locs h hM h1 h2 h3 => ?_) (fun r s7 H locs h hM => ?_)
  · obtain ⟨rfl, h⟩ := h
    refine vx_catch (own := RL) (name := "java/lang/ArithmeticException") C.2.2.2.1 [] ⟨0, 7, 10, 134⟩ [] (htab.trans rfl) (fun _ h => absurd h List.not_mem_nil) (by decide) (by decide) (C.2.2.2.2.1 _ q5_72) (va_Nw.use rfl (hw.1 _ (List.mem_of_getElem? (i := 4) rfl))) h1 h2 h3 ?_
    refine W.eq (g2 := F0 m 10 ls [.ref q9]) rfl ?_
    refine lv_astore_n (pc := 10) (lv' := [(2, .ref q9), (0, .ref (g_ad G 60)), (1, .ref (g_ad G 107))]) hx hb dL_permitShare_10 rfl hl (by decide) rfl (fun ls hl => ?_)
    refine lv_iconst (pc := 11) (v := 1) hx hb dL_permitShare_11 (by decide) ?_
    refine W.widen (k := 1) (n := 6) (by decide) (by decide) ?_
    exact hret 12 _ _ _ _ s7 x dL_permitShare_12 h hM
  · refine g_dast (pc := 6) C hM dL_permitShare_6 (fun H locs hM => ?_)
    refine lv_goto (pc := 7) (tgt := 13) hx hb dL_permitShare_7 (by decide) ?_
    refine lv_iconst (pc := 13) (v := 0) hx hb dL_permitShare_13 (by decide) ?_
    refine W.widen (k := 1) (n := 6) (by decide) (by decide) ?_
    exact hret 14 _ _ _ _ s7 (x.1, r) dL_permitShare_14 h hM
abbrev rm_L_append : Room := { frames := 8, cells := 2, slots := 12, locals := 141 }
theorem dL_append_0 : decode cL_append 0 = .ok (.aload_n 2, 1) := by decide +kernel
theorem dL_append_1 : decode cL_append 1 = .ok (.iconst 0, 1) := by decide +kernel
theorem dL_append_2 : decode cL_append 2 = .ok (.aload_n 0, 1) := by decide +kernel
theorem dL_append_3 : decode cL_append 3 = .ok (.iload_n 1, 1) := by decide +kernel
theorem dL_append_4 : decode cL_append 4 = .ok (.invokevirtual 136, 3) := by decide +kernel
theorem dL_append_7 : decode cL_append 7 = .ok (.i2l, 1) := by decide +kernel
theorem dL_append_8 : decode cL_append 8 = .ok (.lastore, 1) := by decide +kernel
theorem dL_append_9 : decode cL_append 9 = .ok (.goto 9, 3) := by decide +kernel
theorem dL_append_12 : decode cL_append 12 = .ok (.astore_n 3, 1) := by decide +kernel
theorem dL_append_13 : decode cL_append 13 = .ok (.iconst 1, 1) := by decide +kernel
theorem dL_append_14 : decode cL_append 14 = .ok (.ireturn, 1) := by decide +kernel
theorem dL_append_15 : decode cL_append 15 = .ok (.astore_n 3, 1) := by decide +kernel
theorem dL_append_16 : decode cL_append 16 = .ok (.iconst 2, 1) := by decide +kernel
theorem dL_append_17 : decode cL_append 17 = .ok (.ireturn, 1) := by decide +kernel
theorem dL_append_18 : decode cL_append 18 = .ok (.iconst 0, 1) := by decide +kernel
theorem dL_append_19 : decode cL_append 19 = .ok (.ireturn, 1) := by decide +kernel
set_option maxHeartbeats 4000000 in
set_option maxRecDepth 100000 in
theorem w_L_append (l : Launch) (hl0 : l.stackTraces = false) (G : GP) (a1 : Int32) (σ : Sto) (x : XP) (P : Int32 → Sto × XP → Prop) (h : D_L_append a1 σ x P) : g_Metw l yL_append cL_append 4 [(0, 9, 12, 15), (0, 9, 15, 17)] rm_L_append G [.ref (g_ad G 60), .int a1, .ref (g_ad G 106)] σ x P := by
  unfold D_L_append at h
  refine g_ofWw (by decide +kernel) (Nat.le_of_ble_eq_true rfl) ?_
  intro p e s m args below meth c Q ls C htab hM hl hret
  have hx := C.1
  have hb := C.2.1
  have hw := C.2.2.2.2.2.2.2.2.2.2.2
  have hl : lv_has ls 4 [(0, .ref (g_ad G 60)), (1, .int a1), (2, .ref (g_ad G 106))] := hl
  refine lv_aload_n (pc := 0) hx hb dL_append_0 rfl (lv_at hl 2 rfl) ?_
  refine lv_iconst (pc := 1) (v := 0) hx hb dL_append_1 (by decide) ?_
  refine lv_aload_n (pc := 2) hx hb dL_append_2 rfl (lv_at hl 0 rfl) ?_
  refine lv_iload_n (pc := 3) hx hb dL_append_3 rfl (lv_at hl 1 rfl) ?_
  refine g_wVi (pc := 4) C hM hl.1 yv_X11_append q5_103 (by decide) ce_60 rfl (w_X11_append l hl0 G x a1 σ _ _ h) rfl rfl ⟨⟨by decide, by decide⟩, by decide, by decide⟩ (Nat.le_of_ble_eq_true rfl) dL_append_4 (fun E ce q9 s7 H locs h hM h1 h2 h3 => ?_) (fun r s7 H locs h hM => ?_)
  · rcases h with ⟨rfl, h⟩ | ⟨rfl, h⟩
    · refine vx_catch (own := RL) (name := "java/lang/IllegalArgumentException") C.2.2.2.1 [] ⟨0, 9, 12, 15⟩ [⟨0, 9, 15, 17⟩] (htab.trans rfl) (fun _ h => absurd h List.not_mem_nil) (by decide) (by decide) (C.2.2.2.2.1 _ q2_185) (va_Nw.use rfl (hw.1 _ (List.mem_of_getElem? (i := 1) rfl))) h1 h2 h3 ?_
      refine W.eq (g2 := F0 m 12 ls [.ref q9]) rfl ?_
      refine lv_astore_n (pc := 12) (lv' := [(3, .ref q9), (0, .ref (g_ad G 60)), (1, .int a1), (2, .ref (g_ad G 106))]) hx hb dL_append_12 rfl hl (by decide) rfl (fun ls hl => ?_)
      refine lv_iconst (pc := 13) (v := 1) hx hb dL_append_13 (by decide) ?_
      refine W.widen (k := 2) (n := 12) (by decide) (by decide) ?_
      exact hret 14 _ _ _ _ s7 x dL_append_14 h hM
    · refine vx_catch (own := RL) (name := "java/lang/IllegalStateException") C.2.2.2.1 [⟨0, 9, 12, 15⟩] ⟨0, 9, 15, 17⟩ [] (htab.trans rfl) (List.forall_mem_cons.mpr ⟨Or.inr ⟨by decide, "java/lang/IllegalArgumentException", C.2.2.2.2.1 _ q2_185, hw.2.2 _ (List.mem_of_getElem? (i := 2) rfl)⟩, fun _ h => absurd h List.not_mem_nil⟩) (by decide) (by decide) (C.2.2.2.2.1 _ q2_186) (va_Nw.use rfl (hw.1 _ (List.mem_of_getElem? (i := 2) rfl))) h1 h2 h3 ?_
      refine W.eq (g2 := F0 m 15 ls [.ref q9]) rfl ?_
      refine lv_astore_n (pc := 15) (lv' := [(3, .ref q9), (0, .ref (g_ad G 60)), (1, .int a1), (2, .ref (g_ad G 106))]) hx hb dL_append_15 rfl hl (by decide) rfl (fun ls hl => ?_)
      refine lv_iconst (pc := 16) (v := 2) hx hb dL_append_16 (by decide) ?_
      refine W.widen (k := 2) (n := 12) (by decide) (by decide) ?_
      exact hret 17 _ _ _ _ s7 x dL_append_17 h hM
  · refine lv_i2l (pc := 7) (v := r.toInt64) hx hb dL_append_7 rfl ?_
    refine g_last (pc := 8) C hM dL_append_8 (fun H locs hM => ?_)
    refine lv_goto (pc := 9) (tgt := 18) hx hb dL_append_9 (by decide) ?_
    refine lv_iconst (pc := 18) (v := 0) hx hb dL_append_18 (by decide) ?_
    refine W.widen (k := 2) (n := 12) (by decide) (by decide) ?_
    exact hret 19 _ _ _ _ s7 (r.toInt64, x.2) dL_append_19 h hM
abbrev rm_L_read : Room := { frames := 8, cells := 2, slots := 12, locals := 182 }
theorem dL_read_0 : decode cL_read 0 = .ok (.aload_n 1, 1) := by decide +kernel
theorem dL_read_1 : decode cL_read 1 = .ok (.iconst 0, 1) := by decide +kernel
theorem dL_read_2 : decode cL_read 2 = .ok (.aload_n 0, 1) := by decide +kernel
theorem dL_read_3 : decode cL_read 3 = .ok (.invokevirtual 140, 3) := by decide +kernel
theorem dL_read_6 : decode cL_read 6 = .ok (.i2l, 1) := by decide +kernel
theorem dL_read_7 : decode cL_read 7 = .ok (.lastore, 1) := by decide +kernel
theorem dL_read_8 : decode cL_read 8 = .ok (.goto 9, 3) := by decide +kernel
theorem dL_read_11 : decode cL_read 11 = .ok (.astore_n 2, 1) := by decide +kernel
theorem dL_read_12 : decode cL_read 12 = .ok (.iconst 1, 1) := by decide +kernel
theorem dL_read_13 : decode cL_read 13 = .ok (.ireturn, 1) := by decide +kernel
theorem dL_read_14 : decode cL_read 14 = .ok (.astore_n 2, 1) := by decide +kernel
theorem dL_read_15 : decode cL_read 15 = .ok (.iconst 2, 1) := by decide +kernel
theorem dL_read_16 : decode cL_read 16 = .ok (.ireturn, 1) := by decide +kernel
theorem dL_read_17 : decode cL_read 17 = .ok (.iconst 0, 1) := by decide +kernel
theorem dL_read_18 : decode cL_read 18 = .ok (.ireturn, 1) := by decide +kernel
set_option maxHeartbeats 4000000 in
set_option maxRecDepth 100000 in
theorem w_L_read (l : Launch) (hl0 : l.stackTraces = false) (G : GP) (σ : Sto) (x : XP) (P : Int32 → Sto × XP → Prop) (h : D_L_read  σ x P) : g_Metw l yL_read cL_read 3 [(0, 8, 11, 15), (0, 8, 14, 17)] rm_L_read G [.ref (g_ad G 60), .ref (g_ad G 106)] σ x P := by
  unfold D_L_read at h
  refine g_ofWw (by decide +kernel) (Nat.le_of_ble_eq_true rfl) ?_
  intro p e s m args below meth c Q ls C htab hM hl hret
  have hx := C.1
  have hb := C.2.1
  have hw := C.2.2.2.2.2.2.2.2.2.2.2
  have hl : lv_has ls 3 [(0, .ref (g_ad G 60)), (1, .ref (g_ad G 106))] := hl
  refine lv_aload_n (pc := 0) hx hb dL_read_0 rfl (lv_at hl 1 rfl) ?_
  refine lv_iconst (pc := 1) (v := 0) hx hb dL_read_1 (by decide) ?_
  refine lv_aload_n (pc := 2) hx hb dL_read_2 rfl (lv_at hl 0 rfl) ?_
  refine g_wVi (pc := 3) C hM hl.1 yv_X11_read q5_114 (by decide) ce_60 rfl (w_X11_read l hl0 G x  σ _ _ h) rfl rfl ⟨⟨by decide, by decide⟩, by decide, by decide⟩ (Nat.le_of_ble_eq_true rfl) dL_read_3 (fun E ce q9 s7 H locs h hM h1 h2 h3 => ?_) (fun r s7 H locs h hM => ?_)
  · rcases h with ⟨rfl, h⟩ | ⟨rfl, h⟩
    · refine vx_catch (own := RL) (name := "java/lang/IllegalArgumentException") C.2.2.2.1 [] ⟨0, 8, 11, 15⟩ [⟨0, 8, 14, 17⟩] (htab.trans rfl) (fun _ h => absurd h List.not_mem_nil) (by decide) (by decide) (C.2.2.2.2.1 _ q2_185) (va_Nw.use rfl (hw.1 _ (List.mem_of_getElem? (i := 1) rfl))) h1 h2 h3 ?_
      refine W.eq (g2 := F0 m 11 ls [.ref q9]) rfl ?_
      refine lv_astore_n (pc := 11) (lv' := [(2, .ref q9), (0, .ref (g_ad G 60)), (1, .ref (g_ad G 106))]) hx hb dL_read_11 rfl hl (by decide) rfl (fun ls hl => ?_)
      refine lv_iconst (pc := 12) (v := 1) hx hb dL_read_12 (by decide) ?_
      refine W.widen (k := 2) (n := 12) (by decide) (by decide) ?_
      exact hret 13 _ _ _ _ s7 x dL_read_13 h hM
    · refine vx_catch (own := RL) (name := "java/lang/IllegalStateException") C.2.2.2.1 [⟨0, 8, 11, 15⟩] ⟨0, 8, 14, 17⟩ [] (htab.trans rfl) (List.forall_mem_cons.mpr ⟨Or.inr ⟨by decide, "java/lang/IllegalArgumentException", C.2.2.2.2.1 _ q2_185, hw.2.2 _ (List.mem_of_getElem? (i := 2) rfl)⟩, fun _ h => absurd h List.not_mem_nil⟩) (by decide) (by decide) (C.2.2.2.2.1 _ q2_186) (va_Nw.use rfl (hw.1 _ (List.mem_of_getElem? (i := 2) rfl))) h1 h2 h3 ?_
      refine W.eq (g2 := F0 m 14 ls [.ref q9]) rfl ?_
      refine lv_astore_n (pc := 14) (lv' := [(2, .ref q9), (0, .ref (g_ad G 60)), (1, .ref (g_ad G 106))]) hx hb dL_read_14 rfl hl (by decide) rfl (fun ls hl => ?_)
      refine lv_iconst (pc := 15) (v := 2) hx hb dL_read_15 (by decide) ?_
      refine W.widen (k := 2) (n := 12) (by decide) (by decide) ?_
      exact hret 16 _ _ _ _ s7 x dL_read_16 h hM
  · refine lv_i2l (pc := 6) (v := r.toInt64) hx hb dL_read_6 rfl ?_
    refine g_last (pc := 7) C hM dL_read_7 (fun H locs hM => ?_)
    refine lv_goto (pc := 8) (tgt := 17) hx hb dL_read_8 (by decide) ?_
    refine lv_iconst (pc := 17) (v := 0) hx hb dL_read_17 (by decide) ?_
    refine W.widen (k := 2) (n := 12) (by decide) (by decide) ?_
    exact hret 18 _ _ _ _ s7 (r.toInt64, x.2) dL_read_18 h hM
abbrev rm_L_errorPosition : Room := { frames := 8, cells := 1, slots := 6, locals := 140 }
theorem dL_errorPosition_0 : decode cL_errorPosition 0 = .ok (.aload_n 1, 1) := by decide +kernel
theorem dL_errorPosition_1 : decode cL_errorPosition 1 = .ok (.iconst 0, 1) := by decide +kernel
theorem dL_errorPosition_2 : decode cL_errorPosition 2 = .ok (.aload_n 0, 1) := by decide +kernel
theorem dL_errorPosition_3 : decode cL_errorPosition 3 = .ok (.invokevirtual 143, 3) := by decide +kernel
theorem dL_errorPosition_6 : decode cL_errorPosition 6 = .ok (.i2l, 1) := by decide +kernel
theorem dL_errorPosition_7 : decode cL_errorPosition 7 = .ok (.lastore, 1) := by decide +kernel
theorem dL_errorPosition_8 : decode cL_errorPosition 8 = .ok (.goto 6, 3) := by decide +kernel
theorem dL_errorPosition_11 : decode cL_errorPosition 11 = .ok (.astore_n 2, 1) := by decide +kernel
theorem dL_errorPosition_12 : decode cL_errorPosition 12 = .ok (.iconst 1, 1) := by decide +kernel
theorem dL_errorPosition_13 : decode cL_errorPosition 13 = .ok (.ireturn, 1) := by decide +kernel
theorem dL_errorPosition_14 : decode cL_errorPosition 14 = .ok (.iconst 0, 1) := by decide +kernel
theorem dL_errorPosition_15 : decode cL_errorPosition 15 = .ok (.ireturn, 1) := by decide +kernel
set_option maxHeartbeats 4000000 in
set_option maxRecDepth 100000 in
theorem w_L_errorPosition (l : Launch) (hl0 : l.stackTraces = false) (G : GP) (σ : Sto) (x : XP) (P : Int32 → Sto × XP → Prop) (h : D_L_errorPosition  σ x P) : g_Metw l yL_errorPosition cL_errorPosition 3 [(0, 8, 11, 54)] rm_L_errorPosition G [.ref (g_ad G 60), .ref (g_ad G 106)] σ x P := by
  unfold D_L_errorPosition at h
  refine g_ofWw (by decide +kernel) (Nat.le_of_ble_eq_true rfl) ?_
  intro p e s m args below meth c Q ls C htab hM hl hret
  have hx := C.1
  have hb := C.2.1
  have hw := C.2.2.2.2.2.2.2.2.2.2.2
  have hl : lv_has ls 3 [(0, .ref (g_ad G 60)), (1, .ref (g_ad G 106))] := hl
  refine lv_aload_n (pc := 0) hx hb dL_errorPosition_0 rfl (lv_at hl 1 rfl) ?_
  refine lv_iconst (pc := 1) (v := 0) hx hb dL_errorPosition_1 (by decide) ?_
  refine lv_aload_n (pc := 2) hx hb dL_errorPosition_2 rfl (lv_at hl 0 rfl) ?_
  refine g_wVi (pc := 3) C hM hl.1 yv_X11_errorPosition q5_164 (by decide) ce_60 rfl (w_X11_errorPosition l hl0 G x  σ _ _ h) rfl rfl ⟨⟨by decide, by decide⟩, by decide, by decide⟩ (Nat.le_of_ble_eq_true rfl) dL_errorPosition_3 (fun E ce q9 s7 H locs h hM h1 h2 h3 => ?_) (fun r s7 H locs h hM => ?_)
  · obtain ⟨rfl, h⟩ := h
    refine vx_catch (own := RL) (name := "java/util/NoSuchElementException") C.2.2.2.1 [] ⟨0, 8, 11, 54⟩ [] (htab.trans rfl) (fun _ h => absurd h List.not_mem_nil) (by decide) (by decide) (C.2.2.2.2.1 _ q3_156) (va_Nw.use rfl (hw.1 _ (List.mem_of_getElem? (i := 3) rfl))) h1 h2 h3 ?_
    refine W.eq (g2 := F0 m 11 ls [.ref q9]) rfl ?_
    refine lv_astore_n (pc := 11) (lv' := [(2, .ref q9), (0, .ref (g_ad G 60)), (1, .ref (g_ad G 106))]) hx hb dL_errorPosition_11 rfl hl (by decide) rfl (fun ls hl => ?_)
    refine lv_iconst (pc := 12) (v := 1) hx hb dL_errorPosition_12 (by decide) ?_
    refine W.widen (k := 1) (n := 6) (by decide) (by decide) ?_
    exact hret 13 _ _ _ _ s7 x dL_errorPosition_13 h hM
  · refine lv_i2l (pc := 6) (v := r.toInt64) hx hb dL_errorPosition_6 rfl ?_
    refine g_last (pc := 7) C hM dL_errorPosition_7 (fun H locs hM => ?_)
    refine lv_goto (pc := 8) (tgt := 14) hx hb dL_errorPosition_8 (by decide) ?_
    refine lv_iconst (pc := 14) (v := 0) hx hb dL_errorPosition_14 (by decide) ?_
    refine W.widen (k := 1) (n := 6) (by decide) (by decide) ?_
    exact hret 15 _ _ _ _ s7 (r.toInt64, x.2) dL_errorPosition_15 h hM
abbrev rm_L_describe : Room := { frames := 9, cells := 2, slots := 12, locals := 164 }
theorem dL_describe_0 : decode cL_describe 0 = .ok (.aload_n 3, 1) := by decide +kernel
theorem dL_describe_1 : decode cL_describe 1 = .ok (.iconst 0, 1) := by decide +kernel
theorem dL_describe_2 : decode cL_describe 2 = .ok (.aload_n 0, 1) := by decide +kernel
theorem dL_describe_3 : decode cL_describe 3 = .ok (.iload_n 1, 1) := by decide +kernel
theorem dL_describe_4 : decode cL_describe 4 = .ok (.iload_n 2, 1) := by decide +kernel
theorem dL_describe_5 : decode cL_describe 5 = .ok (.invokevirtual 146, 3) := by decide +kernel
theorem dL_describe_8 : decode cL_describe 8 = .ok (.i2l, 1) := by decide +kernel
theorem dL_describe_9 : decode cL_describe 9 = .ok (.lastore, 1) := by decide +kernel
theorem dL_describe_10 : decode cL_describe 10 = .ok (.goto 11, 3) := by decide +kernel
theorem dL_describe_13 : decode cL_describe 13 = .ok (.astore 4, 2) := by decide +kernel
theorem dL_describe_15 : decode cL_describe 15 = .ok (.iconst 1, 1) := by decide +kernel
theorem dL_describe_16 : decode cL_describe 16 = .ok (.ireturn, 1) := by decide +kernel
theorem dL_describe_17 : decode cL_describe 17 = .ok (.astore 4, 2) := by decide +kernel
theorem dL_describe_19 : decode cL_describe 19 = .ok (.iconst 2, 1) := by decide +kernel
theorem dL_describe_20 : decode cL_describe 20 = .ok (.ireturn, 1) := by decide +kernel
theorem dL_describe_21 : decode cL_describe 21 = .ok (.iconst 0, 1) := by decide +kernel
theorem dL_describe_22 : decode cL_describe 22 = .ok (.ireturn, 1) := by decide +kernel
set_option maxHeartbeats 4000000 in
set_option maxRecDepth 100000 in
theorem w_L_describe (l : Launch) (hl0 : l.stackTraces = false) (G : GP) (a1 : Int32) (a2 : Int32) (σ : Sto) (x : XP) (P : Int32 → Sto × XP → Prop) (h : D_L_describe a1 a2 σ x P) : g_Metw l yL_describe cL_describe 5 [(0, 10, 13, 13), (0, 10, 17, 54)] rm_L_describe G [.ref (g_ad G 60), .int a1, .int a2, .ref (g_ad G 106)] σ x P := by
  unfold D_L_describe at h
  refine g_ofWw (by decide +kernel) (Nat.le_of_ble_eq_true rfl) ?_
  intro p e s m args below meth c Q ls C htab hM hl hret
  have hx := C.1
  have hb := C.2.1
  have hw := C.2.2.2.2.2.2.2.2.2.2.2
  have hl : lv_has ls 5 [(0, .ref (g_ad G 60)), (1, .int a1), (2, .int a2), (3, .ref (g_ad G 106))] := hl
  refine lv_aload_n (pc := 0) hx hb dL_describe_0 rfl (lv_at hl 3 rfl) ?_
  refine lv_iconst (pc := 1) (v := 0) hx hb dL_describe_1 (by decide) ?_
  refine lv_aload_n (pc := 2) hx hb dL_describe_2 rfl (lv_at hl 0 rfl) ?_
  refine lv_iload_n (pc := 3) hx hb dL_describe_3 rfl (lv_at hl 1 rfl) ?_
  refine lv_iload_n (pc := 4) hx hb dL_describe_4 rfl (lv_at hl 2 rfl) ?_
  refine g_wVi (pc := 5) C hM hl.1 yv_X11_describe q5_171 (by decide) ce_60 rfl (w_X11_describe l hl0 G x a1 a2 σ _ _ h) rfl rfl ⟨⟨by decide, by decide⟩, by decide, by decide⟩ (Nat.le_of_ble_eq_true rfl) dL_describe_5 (fun E ce q9 s7 H locs h hM h1 h2 h3 => ?_) (fun r s7 H locs h hM => ?_)
  · rcases h with ⟨rfl, h⟩ | ⟨rfl, h⟩
    · refine vx_catch (own := RL) (name := "java/lang/IndexOutOfBoundsException") C.2.2.2.1 [] ⟨0, 10, 13, 13⟩ [⟨0, 10, 17, 54⟩] (htab.trans rfl) (fun _ h => absurd h List.not_mem_nil) (by decide) (by decide) (C.2.2.2.2.1 _ q2_106) (va_Nw.use rfl (hw.1 _ (List.mem_of_getElem? (i := 0) rfl))) h1 h2 h3 ?_
      refine W.eq (g2 := F0 m 13 ls [.ref q9]) rfl ?_
      refine lv_astore (pc := 13) (lv' := [(4, .ref q9), (0, .ref (g_ad G 60)), (1, .int a1), (2, .int a2), (3, .ref (g_ad G 106))]) hx hb dL_describe_13 hl (by decide) rfl (fun ls hl => ?_)
      refine lv_iconst (pc := 15) (v := 1) hx hb dL_describe_15 (by decide) ?_
      refine W.widen (k := 2) (n := 12) (by decide) (by decide) ?_
      exact hret 16 _ _ _ _ s7 x dL_describe_16 h hM
    · refine vx_catch (own := RL) (name := "java/util/NoSuchElementException") C.2.2.2.1 [⟨0, 10, 13, 13⟩] ⟨0, 10, 17, 54⟩ [] (htab.trans rfl) (List.forall_mem_cons.mpr ⟨Or.inr ⟨by decide, "java/lang/IndexOutOfBoundsException", C.2.2.2.2.1 _ q2_106, hw.2.2 _ (List.mem_of_getElem? (i := 3) rfl)⟩, fun _ h => absurd h List.not_mem_nil⟩) (by decide) (by decide) (C.2.2.2.2.1 _ q3_156) (va_Nw.use rfl (hw.1 _ (List.mem_of_getElem? (i := 3) rfl))) h1 h2 h3 ?_
      refine W.eq (g2 := F0 m 17 ls [.ref q9]) rfl ?_
      refine lv_astore (pc := 17) (lv' := [(4, .ref q9), (0, .ref (g_ad G 60)), (1, .int a1), (2, .int a2), (3, .ref (g_ad G 106))]) hx hb dL_describe_17 hl (by decide) rfl (fun ls hl => ?_)
      refine lv_iconst (pc := 19) (v := 2) hx hb dL_describe_19 (by decide) ?_
      refine W.widen (k := 2) (n := 12) (by decide) (by decide) ?_
      exact hret 20 _ _ _ _ s7 x dL_describe_20 h hM
  · refine lv_i2l (pc := 8) (v := r.toInt64) hx hb dL_describe_8 rfl ?_
    refine g_last (pc := 9) C hM dL_describe_9 (fun H locs hM => ?_)
    refine lv_goto (pc := 10) (tgt := 21) hx hb dL_describe_10 (by decide) ?_
    refine lv_iconst (pc := 21) (v := 0) hx hb dL_describe_21 (by decide) ?_
    refine W.widen (k := 2) (n := 12) (by decide) (by decide) ?_
    exact hret 22 _ _ _ _ s7 (r.toInt64, x.2) dL_describe_22 h hM
abbrev rm_L_undo : Room := { frames := 8, cells := 1, slots := 6, locals := 140 }
theorem dL_undo_0 : decode cL_undo 0 = .ok (.aload_n 1, 1) := by decide +kernel
theorem dL_undo_1 : decode cL_undo 1 = .ok (.iconst 0, 1) := by decide +kernel
theorem dL_undo_2 : decode cL_undo 2 = .ok (.aload_n 0, 1) := by decide +kernel
theorem dL_undo_3 : decode cL_undo 3 = .ok (.invokevirtual 149, 3) := by decide +kernel
theorem dL_undo_6 : decode cL_undo 6 = .ok (.i2l, 1) := by decide +kernel
theorem dL_undo_7 : decode cL_undo 7 = .ok (.lastore, 1) := by decide +kernel
theorem dL_undo_8 : decode cL_undo 8 = .ok (.goto 6, 3) := by decide +kernel
theorem dL_undo_11 : decode cL_undo 11 = .ok (.astore_n 2, 1) := by decide +kernel
theorem dL_undo_12 : decode cL_undo 12 = .ok (.iconst 1, 1) := by decide +kernel
theorem dL_undo_13 : decode cL_undo 13 = .ok (.ireturn, 1) := by decide +kernel
theorem dL_undo_14 : decode cL_undo 14 = .ok (.iconst 0, 1) := by decide +kernel
theorem dL_undo_15 : decode cL_undo 15 = .ok (.ireturn, 1) := by decide +kernel
set_option maxHeartbeats 4000000 in
set_option maxRecDepth 100000 in
theorem w_L_undo (l : Launch) (hl0 : l.stackTraces = false) (G : GP) (σ : Sto) (x : XP) (P : Int32 → Sto × XP → Prop) (h : D_L_undo  σ x P) : g_Metw l yL_undo cL_undo 3 [(0, 8, 11, 54)] rm_L_undo G [.ref (g_ad G 60), .ref (g_ad G 106)] σ x P := by
  unfold D_L_undo at h
  refine g_ofWw (by decide +kernel) (Nat.le_of_ble_eq_true rfl) ?_
  intro p e s m args below meth c Q ls C htab hM hl hret
  have hx := C.1
  have hb := C.2.1
  have hw := C.2.2.2.2.2.2.2.2.2.2.2
  have hl : lv_has ls 3 [(0, .ref (g_ad G 60)), (1, .ref (g_ad G 106))] := hl
  refine lv_aload_n (pc := 0) hx hb dL_undo_0 rfl (lv_at hl 1 rfl) ?_
  refine lv_iconst (pc := 1) (v := 0) hx hb dL_undo_1 (by decide) ?_
  refine lv_aload_n (pc := 2) hx hb dL_undo_2 rfl (lv_at hl 0 rfl) ?_
  refine g_wVi (pc := 3) C hM hl.1 yv_X11_undo q5_203 (by decide) ce_60 rfl (w_X11_undo l hl0 G x  σ _ _ h) rfl rfl ⟨⟨by decide, by decide⟩, by decide, by decide⟩ (Nat.le_of_ble_eq_true rfl) dL_undo_3 (fun E ce q9 s7 H locs h hM h1 h2 h3 => ?_) (fun r s7 H locs h hM => ?_)
  · obtain ⟨rfl, h⟩ := h
    refine vx_catch (own := RL) (name := "java/util/NoSuchElementException") C.2.2.2.1 [] ⟨0, 8, 11, 54⟩ [] (htab.trans rfl) (fun _ h => absurd h List.not_mem_nil) (by decide) (by decide) (C.2.2.2.2.1 _ q3_156) (va_Nw.use rfl (hw.1 _ (List.mem_of_getElem? (i := 3) rfl))) h1 h2 h3 ?_
    refine W.eq (g2 := F0 m 11 ls [.ref q9]) rfl ?_
    refine lv_astore_n (pc := 11) (lv' := [(2, .ref q9), (0, .ref (g_ad G 60)), (1, .ref (g_ad G 106))]) hx hb dL_undo_11 rfl hl (by decide) rfl (fun ls hl => ?_)
    refine lv_iconst (pc := 12) (v := 1) hx hb dL_undo_12 (by decide) ?_
    refine W.widen (k := 1) (n := 6) (by decide) (by decide) ?_
    exact hret 13 _ _ _ _ s7 x dL_undo_13 h hM
  · refine lv_i2l (pc := 6) (v := r.toInt64) hx hb dL_undo_6 rfl ?_
    refine g_last (pc := 7) C hM dL_undo_7 (fun H locs hM => ?_)
    refine lv_goto (pc := 8) (tgt := 14) hx hb dL_undo_8 (by decide) ?_
    refine lv_iconst (pc := 14) (v := 0) hx hb dL_undo_14 (by decide) ?_
    refine W.widen (k := 1) (n := 6) (by decide) (by decide) ?_
    exact hret 15 _ _ _ _ s7 (r.toInt64, x.2) dL_undo_15 h hM
abbrev rm_L_restore : Room := { frames := 8, cells := 1, slots := 6, locals := 140 }
theorem dL_restore_0 : decode cL_restore 0 = .ok (.aload_n 1, 1) := by decide +kernel
theorem dL_restore_1 : decode cL_restore 1 = .ok (.iconst 0, 1) := by decide +kernel
theorem dL_restore_2 : decode cL_restore 2 = .ok (.aload_n 0, 1) := by decide +kernel
theorem dL_restore_3 : decode cL_restore 3 = .ok (.invokevirtual 152, 3) := by decide +kernel
theorem dL_restore_6 : decode cL_restore 6 = .ok (.i2l, 1) := by decide +kernel
theorem dL_restore_7 : decode cL_restore 7 = .ok (.lastore, 1) := by decide +kernel
theorem dL_restore_8 : decode cL_restore 8 = .ok (.goto 6, 3) := by decide +kernel
theorem dL_restore_11 : decode cL_restore 11 = .ok (.astore_n 2, 1) := by decide +kernel
theorem dL_restore_12 : decode cL_restore 12 = .ok (.iconst 1, 1) := by decide +kernel
theorem dL_restore_13 : decode cL_restore 13 = .ok (.ireturn, 1) := by decide +kernel
theorem dL_restore_14 : decode cL_restore 14 = .ok (.iconst 0, 1) := by decide +kernel
theorem dL_restore_15 : decode cL_restore 15 = .ok (.ireturn, 1) := by decide +kernel
set_option maxHeartbeats 4000000 in
set_option maxRecDepth 100000 in
theorem w_L_restore (l : Launch) (hl0 : l.stackTraces = false) (G : GP) (σ : Sto) (x : XP) (P : Int32 → Sto × XP → Prop) (h : D_L_restore  σ x P) : g_Metw l yL_restore cL_restore 3 [(0, 8, 11, 17)] rm_L_restore G [.ref (g_ad G 60), .ref (g_ad G 106)] σ x P := by
  unfold D_L_restore at h
  refine g_ofWw (by decide +kernel) (Nat.le_of_ble_eq_true rfl) ?_
  intro p e s m args below meth c Q ls C htab hM hl hret
  have hx := C.1
  have hb := C.2.1
  have hw := C.2.2.2.2.2.2.2.2.2.2.2
  have hl : lv_has ls 3 [(0, .ref (g_ad G 60)), (1, .ref (g_ad G 106))] := hl
  refine lv_aload_n (pc := 0) hx hb dL_restore_0 rfl (lv_at hl 1 rfl) ?_
  refine lv_iconst (pc := 1) (v := 0) hx hb dL_restore_1 (by decide) ?_
  refine lv_aload_n (pc := 2) hx hb dL_restore_2 rfl (lv_at hl 0 rfl) ?_
  refine g_wVi (pc := 3) C hM hl.1 yv_X11_restore q5_214 (by decide) ce_60 rfl (w_X11_restore l hl0 G x  σ _ _ h) rfl rfl ⟨⟨by decide, by decide⟩, by decide, by decide⟩ (Nat.le_of_ble_eq_true rfl) dL_restore_3 (fun E ce q9 s7 H locs h hM h1 h2 h3 => ?_) (fun r s7 H locs h hM => ?_)
  · obtain ⟨rfl, h⟩ := h
    refine vx_catch (own := RL) (name := "java/lang/IllegalStateException") C.2.2.2.1 [] ⟨0, 8, 11, 17⟩ [] (htab.trans rfl) (fun _ h => absurd h List.not_mem_nil) (by decide) (by decide) (C.2.2.2.2.1 _ q2_186) (va_Nw.use rfl (hw.1 _ (List.mem_of_getElem? (i := 2) rfl))) h1 h2 h3 ?_
    refine W.eq (g2 := F0 m 11 ls [.ref q9]) rfl ?_
    refine lv_astore_n (pc := 11) (lv' := [(2, .ref q9), (0, .ref (g_ad G 60)), (1, .ref (g_ad G 106))]) hx hb dL_restore_11 rfl hl (by decide) rfl (fun ls hl => ?_)
    refine lv_iconst (pc := 12) (v := 1) hx hb dL_restore_12 (by decide) ?_
    refine W.widen (k := 1) (n := 6) (by decide) (by decide) ?_
    exact hret 13 _ _ _ _ s7 x dL_restore_13 h hM
  · refine lv_i2l (pc := 6) (v := r.toInt64) hx hb dL_restore_6 rfl ?_
    refine g_last (pc := 7) C hM dL_restore_7 (fun H locs hM => ?_)
    refine lv_goto (pc := 8) (tgt := 14) hx hb dL_restore_8 (by decide) ?_
    refine lv_iconst (pc := 14) (v := 0) hx hb dL_restore_14 (by decide) ?_
    refine W.widen (k := 1) (n := 6) (by decide) (by decide) ?_
    exact hret 15 _ _ _ _ s7 (r.toInt64, x.2) dL_restore_15 h hM
