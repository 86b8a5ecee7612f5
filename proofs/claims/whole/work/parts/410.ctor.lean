abbrev rm_X0_init : Room := { frames := 1, cells := 1, slots := 120, locals := 40 }
theorem dX0_init_0 : decode cX0_init 0 = .ok (.aload_n 0, 1) := by decide +kernel
theorem dX0_init_1 : decode cX0_init 1 = .ok (.invokespecial 3, 3) := by decide +kernel
theorem dX0_init_4 : decode cX0_init 4 = .ok (.aload_n 0, 1) := by decide +kernel
theorem dX0_init_5 : decode cX0_init 5 = .ok (.bipush 120, 2) := by decide +kernel
theorem dX0_init_7 : decode cX0_init 7 = .ok (.newarray .int, 2) := by decide +kernel
theorem dX0_init_9 : decode cX0_init 9 = .ok (.putfield 9, 3) := by decide +kernel
theorem dX0_init_12 : decode cX0_init 12 = .ok (.return_, 1) := by decide +kernel
set_option maxHeartbeats 8000000 in
set_option maxRecDepth 100000 in
theorem c_X0_init (l : Launch) (G : GP) (w0 : va_W) (o : Nat) : c_Met l yX0_init cX0_init 1 rm_X0_init G [.ref o] (w0 ++ [(o, .inr (0, [.null, .int 0]))]) (fun u => ∃ q5 : Nat, u = w0 ++ [(o, .inr (0, [.ref q5, .int 0])), (q5, .inl (G.2.2.2 0, 120, .inl (fun _ => 0)))]) := by
  refine c_ofW (by decide +kernel) rfl (Nat.le_of_ble_eq_true rfl) ?_
  intro p e s m args below meth c Q ls C hin hM hl hret
  have hx := C.1
  have hb := C.2.1
  have hl : lv_has ls 1 [(0, .ref o)] := hl
  refine lv_aload_n (pc := 0) hx hb dX0_init_0 rfl (lv_at hl 0 rfl) ?_
  refine c_objI (pc := 1) C hl.1 ⟨q1_196, q1_33, q1_34⟩ ⟨by decide, by decide⟩ dX0_init_1 ?_
  refine lv_aload_n (pc := 4) hx hb dX0_init_4 rfl (lv_at hl 0 rfl) ?_
  refine lv_bipush (pc := 5) (v := 120) hx hb dX0_init_5 (by decide) ?_
  refine c_newa (pc := 7) (atype := .int) (ty := .int) (t0 := 0) (N' := 120) (a0 := (120, .inl (fun _ => 0))) C hM q1_57 rfl rfl (fun _ h => h) (fun _ => rfl) (by decide) (by rfl) (Nat.le_of_ble_eq_true rfl) ⟨by decide, by decide⟩ dX0_init_7 (fun q5 H hM => ?_)
  have hM : c_M G (w0 ++ [(o, .inr (0, [.null, .int 0])), (q5, .inl (G.2.2.2 0, 120, .inl (fun _ => 0)))]) s _ _ := hM
  refine c_putF (pc := 9) (j := 0) (k := 0) (l' := [(o, .inr (0, [.ref q5, .int 0])), (q5, .inl (G.2.2.2 0, 120, .inl (fun _ => 0)))]) hin C hM rfl rfl hin0 tyX0_ok nmX0 (by decide) q1_197 ⟨rfl, rfl⟩ (tyX0_ok 0 (by decide)) rfl rfl (Nat.le_of_ble_eq_true rfl) rfl dX0_init_9 (fun H locs hM => ?_)
  refine W.widen (k := 1) (n := 120) (by decide) (by decide) ?_
  exact hret 12 _ _ _ _ dX0_init_12 ⟨q5, rfl⟩ hM
abbrev rm_X2_init : Room := { frames := 1, cells := 1, slots := 150, locals := 40 }
theorem dX2_init_0 : decode cX2_init 0 = .ok (.aload_n 0, 1) := by decide +kernel
theorem dX2_init_1 : decode cX2_init 1 = .ok (.invokespecial 3, 3) := by decide +kernel
theorem dX2_init_4 : decode cX2_init 4 = .ok (.aload_n 0, 1) := by decide +kernel
theorem dX2_init_5 : decode cX2_init 5 = .ok (.sipush 150, 3) := by decide +kernel
theorem dX2_init_8 : decode cX2_init 8 = .ok (.newarray .int, 2) := by decide +kernel
theorem dX2_init_10 : decode cX2_init 10 = .ok (.putfield 9, 3) := by decide +kernel
theorem dX2_init_13 : decode cX2_init 13 = .ok (.return_, 1) := by decide +kernel
set_option maxHeartbeats 8000000 in
set_option maxRecDepth 100000 in
theorem c_X2_init (l : Launch) (G : GP) (w0 : va_W) (o : Nat) : c_Met l yX2_init cX2_init 1 rm_X2_init G [.ref o] (w0 ++ [(o, .inr (2, [.null, .int 0]))]) (fun u => ∃ q5 : Nat, u = w0 ++ [(o, .inr (2, [.ref q5, .int 0])), (q5, .inl (G.2.2.2 0, 150, .inl (fun _ => 0)))]) := by
  refine c_ofW (by decide +kernel) rfl (Nat.le_of_ble_eq_true rfl) ?_
  intro p e s m args below meth c Q ls C hin hM hl hret
  have hx := C.1
  have hb := C.2.1
  have hl : lv_has ls 1 [(0, .ref o)] := hl
  refine lv_aload_n (pc := 0) hx hb dX2_init_0 rfl (lv_at hl 0 rfl) ?_
  refine c_objI (pc := 1) C hl.1 ⟨q1_63, q1_33, q1_34⟩ ⟨by decide, by decide⟩ dX2_init_1 ?_
  refine lv_aload_n (pc := 4) hx hb dX2_init_4 rfl (lv_at hl 0 rfl) ?_
  refine lv_sipush (pc := 5) (v := 150) hx hb dX2_init_5 (by decide) ?_
  refine c_newa (pc := 8) (atype := .int) (ty := .int) (t0 := 0) (N' := 150) (a0 := (150, .inl (fun _ => 0))) C hM q1_57 rfl rfl (fun _ h => h) (fun _ => rfl) (by decide) (by rfl) (Nat.le_of_ble_eq_true rfl) ⟨by decide, by decide⟩ dX2_init_8 (fun q5 H hM => ?_)
  have hM : c_M G (w0 ++ [(o, .inr (2, [.null, .int 0])), (q5, .inl (G.2.2.2 0, 150, .inl (fun _ => 0)))]) s _ _ := hM
  refine c_putF (pc := 10) (j := 0) (k := 0) (l' := [(o, .inr (2, [.ref q5, .int 0])), (q5, .inl (G.2.2.2 0, 150, .inl (fun _ => 0)))]) hin C hM rfl rfl hin2 tyX2_ok nmX2 (by decide) q1_64 ⟨rfl, rfl⟩ (tyX2_ok 0 (by decide)) rfl rfl (Nat.le_of_ble_eq_true rfl) rfl dX2_init_10 (fun H locs hM => ?_)
  refine W.widen (k := 1) (n := 150) (by decide) (by decide) ?_
  exact hret 13 _ _ _ _ dX2_init_13 ⟨q5, rfl⟩ hM
abbrev rm_X6_init : Room := { frames := 1, cells := 1, slots := 384, locals := 40 }
theorem dX6_init_0 : decode cX6_init 0 = .ok (.aload_n 0, 1) := by decide +kernel
theorem dX6_init_1 : decode cX6_init 1 = .ok (.invokespecial 3, 3) := by decide +kernel
theorem dX6_init_4 : decode cX6_init 4 = .ok (.aload_n 0, 1) := by decide +kernel
theorem dX6_init_5 : decode cX6_init 5 = .ok (.sipush 384, 3) := by decide +kernel
theorem dX6_init_8 : decode cX6_init 8 = .ok (.newarray .int, 2) := by decide +kernel
theorem dX6_init_10 : decode cX6_init 10 = .ok (.putfield 9, 3) := by decide +kernel
theorem dX6_init_13 : decode cX6_init 13 = .ok (.return_, 1) := by decide +kernel
set_option maxHeartbeats 8000000 in
set_option maxRecDepth 100000 in
theorem c_X6_init (l : Launch) (G : GP) (w0 : va_W) (o : Nat) : c_Met l yX6_init cX6_init 1 rm_X6_init G [.ref o] (w0 ++ [(o, .inr (6, [.null, .int 0]))]) (fun u => ∃ q5 : Nat, u = w0 ++ [(o, .inr (6, [.ref q5, .int 0])), (q5, .inl (G.2.2.2 0, 384, .inl (fun _ => 0)))]) := by
  refine c_ofW (by decide +kernel) rfl (Nat.le_of_ble_eq_true rfl) ?_
  intro p e s m args below meth c Q ls C hin hM hl hret
  have hx := C.1
  have hb := C.2.1
  have hl : lv_has ls 1 [(0, .ref o)] := hl
  refine lv_aload_n (pc := 0) hx hb dX6_init_0 rfl (lv_at hl 0 rfl) ?_
  refine c_objI (pc := 1) C hl.1 ⟨q1_46, q1_33, q1_34⟩ ⟨by decide, by decide⟩ dX6_init_1 ?_
  refine lv_aload_n (pc := 4) hx hb dX6_init_4 rfl (lv_at hl 0 rfl) ?_
  refine lv_sipush (pc := 5) (v := 384) hx hb dX6_init_5 (by decide) ?_
  refine c_newa (pc := 8) (atype := .int) (ty := .int) (t0 := 0) (N' := 384) (a0 := (384, .inl (fun _ => 0))) C hM q1_57 rfl rfl (fun _ h => h) (fun _ => rfl) (by decide) (by rfl) (Nat.le_of_ble_eq_true rfl) ⟨by decide, by decide⟩ dX6_init_8 (fun q5 H hM => ?_)
  have hM : c_M G (w0 ++ [(o, .inr (6, [.null, .int 0])), (q5, .inl (G.2.2.2 0, 384, .inl (fun _ => 0)))]) s _ _ := hM
  refine c_putF (pc := 10) (j := 0) (k := 0) (l' := [(o, .inr (6, [.ref q5, .int 0])), (q5, .inl (G.2.2.2 0, 384, .inl (fun _ => 0)))]) hin C hM rfl rfl hin6 tyX6_ok nmX6 (by decide) q1_47 ⟨rfl, rfl⟩ (tyX6_ok 0 (by decide)) rfl rfl (Nat.le_of_ble_eq_true rfl) rfl dX6_init_10 (fun H locs hM => ?_)
  refine W.widen (k := 1) (n := 384) (by decide) (by decide) ?_
  exact hret 13 _ _ _ _ dX6_init_13 ⟨q5, rfl⟩ hM
abbrev rm_X8_init : Room := { frames := 2, cells := 5, slots := 542, locals := 60 }
theorem dX8_init_0 : decode cX8_init 0 = .ok (.aload_n 0, 1) := by decide +kernel
theorem dX8_init_1 : decode cX8_init 1 = .ok (.invokespecial 3, 3) := by decide +kernel
theorem dX8_init_4 : decode cX8_init 4 = .ok (.aload_n 0, 1) := by decide +kernel
theorem dX8_init_5 : decode cX8_init 5 = .ok (.new 9, 3) := by decide +kernel
theorem dX8_init_8 : decode cX8_init 8 = .ok (.dup, 1) := by decide +kernel
theorem dX8_init_9 : decode cX8_init 9 = .ok (.invokespecial 11, 3) := by decide +kernel
theorem dX8_init_12 : decode cX8_init 12 = .ok (.putfield 12, 3) := by decide +kernel
theorem dX8_init_15 : decode cX8_init 15 = .ok (.aload_n 0, 1) := by decide +kernel
theorem dX8_init_16 : decode cX8_init 16 = .ok (.new 18, 3) := by decide +kernel
theorem dX8_init_19 : decode cX8_init 19 = .ok (.dup, 1) := by decide +kernel
theorem dX8_init_20 : decode cX8_init 20 = .ok (.invokespecial 20, 3) := by decide +kernel
theorem dX8_init_23 : decode cX8_init 23 = .ok (.putfield 21, 3) := by decide +kernel
theorem dX8_init_26 : decode cX8_init 26 = .ok (.aload_n 0, 1) := by decide +kernel
theorem dX8_init_27 : decode cX8_init 27 = .ok (.iconst 4, 1) := by decide +kernel
theorem dX8_init_28 : decode cX8_init 28 = .ok (.newarray .int, 2) := by decide +kernel
theorem dX8_init_30 : decode cX8_init 30 = .ok (.putfield 25, 3) := by decide +kernel
theorem dX8_init_33 : decode cX8_init 33 = .ok (.return_, 1) := by decide +kernel
set_option maxHeartbeats 8000000 in
set_option maxRecDepth 100000 in
theorem c_X8_init (l : Launch) (G : GP) (w0 : va_W) (o : Nat) : c_Met l yX8_init cX8_init 1 rm_X8_init G [.ref o] (w0 ++ [(o, .inr (8, [.null, .null, .null, .int 0]))]) (fun u => ∃ q4 q5_6 q9 q5_11 q15 : Nat, u = w0 ++ [(o, .inr (8, [.ref q4, .ref q9, .ref q15, .int 0])), (q4, .inr (6, [.ref q5_6, .int 0])), (q5_6, .inl (G.2.2.2 0, 384, .inl (fun _ => 0))), (q9, .inr (2, [.ref q5_11, .int 0])), (q5_11, .inl (G.2.2.2 0, 150, .inl (fun _ => 0))), (q15, .inl (G.2.2.2 0, 4, .inl (fun _ => 0)))]) := by
  refine c_ofW (by decide +kernel) rfl (Nat.le_of_ble_eq_true rfl) ?_
  intro p e s m args below meth c Q ls C hin hM hl hret
  have hx := C.1
  have hb := C.2.1
  have hl : lv_has ls 1 [(0, .ref o)] := hl
  refine lv_aload_n (pc := 0) hx hb dX8_init_0 rfl (lv_at hl 0 rfl) ?_
  refine c_objI (pc := 1) C hl.1 ⟨q1_40, q1_33, q1_34⟩ ⟨by decide, by decide⟩ dX8_init_1 ?_
  refine lv_aload_n (pc := 4) hx hb dX8_init_4 rfl (lv_at hl 0 rfl) ?_
  refine c_new (pc := 5) (ci := 6) (fs := [.null, .int 0]) C hM rfl hin6 tyX6_ok ⟨q1_41, q1_42, q1_3⟩ hfs6 ⟨by decide, by decide⟩ dX8_init_5 (fun q4 H hM => ?_)
  have hM : c_M G (w0 ++ ([(o, .inr (8, [.null, .null, .null, .int 0]))] ++ [(q4, .inr (6, [.null, .int 0]))])) s _ _ := hM
  refine lv_dup (pc := 8) hx hb dX8_init_8 rfl ?_
  refine c_callN (pc := 9) C hM hl.1 yc_X6_init (List.mem_of_getElem? (i := 1) rfl) (c_X6_init l G (w0 ++ [(o, .inr (8, [.null, .null, .null, .int 0]))]) q4) rfl rfl ⟨⟨by decide, by decide⟩, by decide, by decide⟩ (Nat.le_of_ble_eq_true rfl) dX8_init_9 (fun u H locs hu hM => ?_)
  obtain ⟨q5_6, rfl⟩ := hu
  rw [List.append_assoc] at hM
  have hM : c_M G (w0 ++ [(o, .inr (8, [.null, .null, .null, .int 0])), (q4, .inr (6, [.ref q5_6, .int 0])), (q5_6, .inl (G.2.2.2 0, 384, .inl (fun _ => 0)))]) s _ _ := hM
  refine c_putF (pc := 12) (j := 0) (k := 0) (l' := [(o, .inr (8, [.ref q4, .null, .null, .int 0])), (q4, .inr (6, [.ref q5_6, .int 0])), (q5_6, .inl (G.2.2.2 0, 384, .inl (fun _ => 0)))]) hin C hM rfl rfl hin8 tyX8_ok nmX8 (by decide) q1_73 ⟨rfl, rfl⟩ (tyX8_ok 0 (by decide)) rfl rfl (Nat.le_of_ble_eq_true rfl) rfl dX8_init_12 (fun H locs hM => ?_)
  refine lv_aload_n (pc := 15) hx hb dX8_init_15 rfl (lv_at hl 0 rfl) ?_
  refine c_new (pc := 16) (ci := 2) (fs := [.null, .int 0]) C hM rfl hin2 tyX2_ok ⟨q1_58, q1_59, q1_4⟩ hfs2 ⟨by decide, by decide⟩ dX8_init_16 (fun q9 H hM => ?_)
  have hM : c_M G (w0 ++ ([(o, .inr (8, [.ref q4, .null, .null, .int 0])), (q4, .inr (6, [.ref q5_6, .int 0])), (q5_6, .inl (G.2.2.2 0, 384, .inl (fun _ => 0)))] ++ [(q9, .inr (2, [.null, .int 0]))])) s _ _ := hM
  refine lv_dup (pc := 19) hx hb dX8_init_19 rfl ?_
  refine c_callN (pc := 20) C hM hl.1 yc_X2_init (List.mem_of_getElem? (i := 2) rfl) (c_X2_init l G (w0 ++ [(o, .inr (8, [.ref q4, .null, .null, .int 0])), (q4, .inr (6, [.ref q5_6, .int 0])), (q5_6, .inl (G.2.2.2 0, 384, .inl (fun _ => 0)))]) q9) rfl rfl ⟨⟨by decide, by decide⟩, by decide, by decide⟩ (Nat.le_of_ble_eq_true rfl) dX8_init_20 (fun u H locs hu hM => ?_)
  obtain ⟨q5_11, rfl⟩ := hu
  rw [List.append_assoc] at hM
  have hM : c_M G (w0 ++ [(o, .inr (8, [.ref q4, .null, .null, .int 0])), (q4, .inr (6, [.ref q5_6, .int 0])), (q5_6, .inl (G.2.2.2 0, 384, .inl (fun _ => 0))), (q9, .inr (2, [.ref q5_11, .int 0])), (q5_11, .inl (G.2.2.2 0, 150, .inl (fun _ => 0)))]) s _ _ := hM
  refine c_putF (pc := 23) (j := 0) (k := 1) (l' := [(o, .inr (8, [.ref q4, .ref q9, .null, .int 0])), (q4, .inr (6, [.ref q5_6, .int 0])), (q5_6, .inl (G.2.2.2 0, 384, .inl (fun _ => 0))), (q9, .inr (2, [.ref q5_11, .int 0])), (q5_11, .inl (G.2.2.2 0, 150, .inl (fun _ => 0)))]) hin C hM rfl rfl hin8 tyX8_ok nmX8 (by decide) q1_76 ⟨rfl, rfl⟩ (tyX8_ok 1 (by decide)) rfl rfl (Nat.le_of_ble_eq_true rfl) rfl dX8_init_23 (fun H locs hM => ?_)
  refine lv_aload_n (pc := 26) hx hb dX8_init_26 rfl (lv_at hl 0 rfl) ?_
  refine lv_iconst (pc := 27) (v := 4) hx hb dX8_init_27 (by decide) ?_
  refine c_newa (pc := 28) (atype := .int) (ty := .int) (t0 := 0) (N' := 4) (a0 := (4, .inl (fun _ => 0))) C hM q1_57 rfl rfl (fun _ h => h) (fun _ => rfl) (by decide) (by rfl) (Nat.le_of_ble_eq_true rfl) ⟨by decide, by decide⟩ dX8_init_28 (fun q15 H hM => ?_)
  have hM : c_M G (w0 ++ [(o, .inr (8, [.ref q4, .ref q9, .null, .int 0])), (q4, .inr (6, [.ref q5_6, .int 0])), (q5_6, .inl (G.2.2.2 0, 384, .inl (fun _ => 0))), (q9, .inr (2, [.ref q5_11, .int 0])), (q5_11, .inl (G.2.2.2 0, 150, .inl (fun _ => 0))), (q15, .inl (G.2.2.2 0, 4, .inl (fun _ => 0)))]) s _ _ := hM
  refine c_putF (pc := 30) (j := 0) (k := 2) (l' := [(o, .inr (8, [.ref q4, .ref q9, .ref q15, .int 0])), (q4, .inr (6, [.ref q5_6, .int 0])), (q5_6, .inl (G.2.2.2 0, 384, .inl (fun _ => 0))), (q9, .inr (2, [.ref q5_11, .int 0])), (q5_11, .inl (G.2.2.2 0, 150, .inl (fun _ => 0))), (q15, .inl (G.2.2.2 0, 4, .inl (fun _ => 0)))]) hin C hM rfl rfl hin8 tyX8_ok nmX8 (by decide) q1_78 ⟨rfl, rfl⟩ (tyX8_ok 2 (by decide)) rfl rfl (Nat.le_of_ble_eq_true rfl) rfl dX8_init_30 (fun H locs hM => ?_)
  refine W.widen (k := 5) (n := 542) (by decide) (by decide) ?_
  exact hret 33 _ _ _ _ dX8_init_33 ⟨q4, q5_6, q9, q5_11, q15, rfl⟩ hM
abbrev rm_X5_init : Room := { frames := 1, cells := 4, slots := 196, locals := 40 }
theorem dX5_init_0 : decode cX5_init 0 = .ok (.aload_n 0, 1) := by decide +kernel
theorem dX5_init_1 : decode cX5_init 1 = .ok (.invokespecial 3, 3) := by decide +kernel
theorem dX5_init_4 : decode cX5_init 4 = .ok (.aload_n 0, 1) := by decide +kernel
theorem dX5_init_5 : decode cX5_init 5 = .ok (.bipush 24, 2) := by decide +kernel
theorem dX5_init_7 : decode cX5_init 7 = .ok (.newarray .int, 2) := by decide +kernel
theorem dX5_init_9 : decode cX5_init 9 = .ok (.putfield 9, 3) := by decide +kernel
theorem dX5_init_12 : decode cX5_init 12 = .ok (.aload_n 0, 1) := by decide +kernel
theorem dX5_init_13 : decode cX5_init 13 = .ok (.bipush 24, 2) := by decide +kernel
theorem dX5_init_15 : decode cX5_init 15 = .ok (.newarray .int, 2) := by decide +kernel
theorem dX5_init_17 : decode cX5_init 17 = .ok (.putfield 15, 3) := by decide +kernel
theorem dX5_init_20 : decode cX5_init 20 = .ok (.aload_n 0, 1) := by decide +kernel
theorem dX5_init_21 : decode cX5_init 21 = .ok (.sipush 144, 3) := by decide +kernel
theorem dX5_init_24 : decode cX5_init 24 = .ok (.newarray .int, 2) := by decide +kernel
theorem dX5_init_26 : decode cX5_init 26 = .ok (.putfield 18, 3) := by decide +kernel
theorem dX5_init_29 : decode cX5_init 29 = .ok (.aload_n 0, 1) := by decide +kernel
theorem dX5_init_30 : decode cX5_init 30 = .ok (.iconst 4, 1) := by decide +kernel
theorem dX5_init_31 : decode cX5_init 31 = .ok (.newarray .int, 2) := by decide +kernel
theorem dX5_init_33 : decode cX5_init 33 = .ok (.putfield 21, 3) := by decide +kernel
theorem dX5_init_36 : decode cX5_init 36 = .ok (.aload_n 0, 1) := by decide +kernel
theorem dX5_init_37 : decode cX5_init 37 = .ok (.aload_n 1, 1) := by decide +kernel
theorem dX5_init_38 : decode cX5_init 38 = .ok (.putfield 24, 3) := by decide +kernel
theorem dX5_init_41 : decode cX5_init 41 = .ok (.return_, 1) := by decide +kernel
set_option maxHeartbeats 8000000 in
set_option maxRecDepth 100000 in
theorem c_X5_init (l : Launch) (G : GP) (w0 : va_W) (o : Nat) (a1 : Nat) : c_Met l yX5_init cX5_init 2 rm_X5_init G [.ref o, .ref a1] (w0 ++ [(o, .inr (5, [.null, .null, .null, .null, .null, .int 0, .int 0]))]) (fun u => ∃ q5 q9 q13 q17 : Nat, u = w0 ++ [(o, .inr (5, [.ref a1, .ref q5, .ref q9, .ref q13, .ref q17, .int 0, .int 0])), (q5, .inl (G.2.2.2 0, 24, .inl (fun _ => 0))), (q9, .inl (G.2.2.2 0, 24, .inl (fun _ => 0))), (q13, .inl (G.2.2.2 0, 144, .inl (fun _ => 0))), (q17, .inl (G.2.2.2 0, 4, .inl (fun _ => 0)))]) := by
  refine c_ofW (by decide +kernel) rfl (Nat.le_of_ble_eq_true rfl) ?_
  intro p e s m args below meth c Q ls C hin hM hl hret
  have hx := C.1
  have hb := C.2.1
  have hl : lv_has ls 2 [(0, .ref o), (1, .ref a1)] := hl
  refine lv_aload_n (pc := 0) hx hb dX5_init_0 rfl (lv_at hl 0 rfl) ?_
  refine c_objI (pc := 1) C hl.1 ⟨q1_115, q1_33, q1_34⟩ ⟨by decide, by decide⟩ dX5_init_1 ?_
  refine lv_aload_n (pc := 4) hx hb dX5_init_4 rfl (lv_at hl 0 rfl) ?_
  refine lv_bipush (pc := 5) (v := 24) hx hb dX5_init_5 (by decide) ?_
  refine c_newa (pc := 7) (atype := .int) (ty := .int) (t0 := 0) (N' := 24) (a0 := (24, .inl (fun _ => 0))) C hM q1_57 rfl rfl (fun _ h => h) (fun _ => rfl) (by decide) (by rfl) (Nat.le_of_ble_eq_true rfl) ⟨by decide, by decide⟩ dX5_init_7 (fun q5 H hM => ?_)
  have hM : c_M G (w0 ++ [(o, .inr (5, [.null, .null, .null, .null, .null, .int 0, .int 0])), (q5, .inl (G.2.2.2 0, 24, .inl (fun _ => 0)))]) s _ _ := hM
  refine c_putF (pc := 9) (j := 0) (k := 1) (l' := [(o, .inr (5, [.null, .ref q5, .null, .null, .null, .int 0, .int 0])), (q5, .inl (G.2.2.2 0, 24, .inl (fun _ => 0)))]) hin C hM rfl rfl hin5 tyX5_ok nmX5 (by decide) q1_117 ⟨rfl, rfl⟩ (tyX5_ok 1 (by decide)) rfl rfl (Nat.le_of_ble_eq_true rfl) rfl dX5_init_9 (fun H locs hM => ?_)
  refine lv_aload_n (pc := 12) hx hb dX5_init_12 rfl (lv_at hl 0 rfl) ?_
  refine lv_bipush (pc := 13) (v := 24) hx hb dX5_init_13 (by decide) ?_
  refine c_newa (pc := 15) (atype := .int) (ty := .int) (t0 := 0) (N' := 24) (a0 := (24, .inl (fun _ => 0))) C hM q1_57 rfl rfl (fun _ h => h) (fun _ => rfl) (by decide) (by rfl) (Nat.le_of_ble_eq_true rfl) ⟨by decide, by decide⟩ dX5_init_15 (fun q9 H hM => ?_)
  have hM : c_M G (w0 ++ [(o, .inr (5, [.null, .ref q5, .null, .null, .null, .int 0, .int 0])), (q5, .inl (G.2.2.2 0, 24, .inl (fun _ => 0))), (q9, .inl (G.2.2.2 0, 24, .inl (fun _ => 0)))]) s _ _ := hM
  refine c_putF (pc := 17) (j := 0) (k := 2) (l' := [(o, .inr (5, [.null, .ref q5, .ref q9, .null, .null, .int 0, .int 0])), (q5, .inl (G.2.2.2 0, 24, .inl (fun _ => 0))), (q9, .inl (G.2.2.2 0, 24, .inl (fun _ => 0)))]) hin C hM rfl rfl hin5 tyX5_ok nmX5 (by decide) q1_119 ⟨rfl, rfl⟩ (tyX5_ok 2 (by decide)) rfl rfl (Nat.le_of_ble_eq_true rfl) rfl dX5_init_17 (fun H locs hM => ?_)
  refine lv_aload_n (pc := 20) hx hb dX5_init_20 rfl (lv_at hl 0 rfl) ?_
  refine lv_sipush (pc := 21) (v := 144) hx hb dX5_init_21 (by decide) ?_
  refine c_newa (pc := 24) (atype := .int) (ty := .int) (t0 := 0) (N' := 144) (a0 := (144, .inl (fun _ => 0))) C hM q1_57 rfl rfl (fun _ h => h) (fun _ => rfl) (by decide) (by rfl) (Nat.le_of_ble_eq_true rfl) ⟨by decide, by decide⟩ dX5_init_24 (fun q13 H hM => ?_)
  have hM : c_M G (w0 ++ [(o, .inr (5, [.null, .ref q5, .ref q9, .null, .null, .int 0, .int 0])), (q5, .inl (G.2.2.2 0, 24, .inl (fun _ => 0))), (q9, .inl (G.2.2.2 0, 24, .inl (fun _ => 0))), (q13, .inl (G.2.2.2 0, 144, .inl (fun _ => 0)))]) s _ _ := hM
  refine c_putF (pc := 26) (j := 0) (k := 3) (l' := [(o, .inr (5, [.null, .ref q5, .ref q9, .ref q13, .null, .int 0, .int 0])), (q5, .inl (G.2.2.2 0, 24, .inl (fun _ => 0))), (q9, .inl (G.2.2.2 0, 24, .inl (fun _ => 0))), (q13, .inl (G.2.2.2 0, 144, .inl (fun _ => 0)))]) hin C hM rfl rfl hin5 tyX5_ok nmX5 (by decide) q1_120 ⟨rfl, rfl⟩ (tyX5_ok 3 (by decide)) rfl rfl (Nat.le_of_ble_eq_true rfl) rfl dX5_init_26 (fun H locs hM => ?_)
  refine lv_aload_n (pc := 29) hx hb dX5_init_29 rfl (lv_at hl 0 rfl) ?_
  refine lv_iconst (pc := 30) (v := 4) hx hb dX5_init_30 (by decide) ?_
  refine c_newa (pc := 31) (atype := .int) (ty := .int) (t0 := 0) (N' := 4) (a0 := (4, .inl (fun _ => 0))) C hM q1_57 rfl rfl (fun _ h => h) (fun _ => rfl) (by decide) (by rfl) (Nat.le_of_ble_eq_true rfl) ⟨by decide, by decide⟩ dX5_init_31 (fun q17 H hM => ?_)
  have hM : c_M G (w0 ++ [(o, .inr (5, [.null, .ref q5, .ref q9, .ref q13, .null, .int 0, .int 0])), (q5, .inl (G.2.2.2 0, 24, .inl (fun _ => 0))), (q9, .inl (G.2.2.2 0, 24, .inl (fun _ => 0))), (q13, .inl (G.2.2.2 0, 144, .inl (fun _ => 0))), (q17, .inl (G.2.2.2 0, 4, .inl (fun _ => 0)))]) s _ _ := hM
  refine c_putF (pc := 33) (j := 0) (k := 4) (l' := [(o, .inr (5, [.null, .ref q5, .ref q9, .ref q13, .ref q17, .int 0, .int 0])), (q5, .inl (G.2.2.2 0, 24, .inl (fun _ => 0))), (q9, .inl (G.2.2.2 0, 24, .inl (fun _ => 0))), (q13, .inl (G.2.2.2 0, 144, .inl (fun _ => 0))), (q17, .inl (G.2.2.2 0, 4, .inl (fun _ => 0)))]) hin C hM rfl rfl hin5 tyX5_ok nmX5 (by decide) q1_121 ⟨rfl, rfl⟩ (tyX5_ok 4 (by decide)) rfl rfl (Nat.le_of_ble_eq_true rfl) rfl dX5_init_33 (fun H locs hM => ?_)
  refine lv_aload_n (pc := 36) hx hb dX5_init_36 rfl (lv_at hl 0 rfl) ?_
  refine lv_aload_n (pc := 37) hx hb dX5_init_37 rfl (lv_at hl 1 rfl) ?_
  refine c_putF (pc := 38) (j := 0) (k := 0) (l' := [(o, .inr (5, [.ref a1, .ref q5, .ref q9, .ref q13, .ref q17, .int 0, .int 0])), (q5, .inl (G.2.2.2 0, 24, .inl (fun _ => 0))), (q9, .inl (G.2.2.2 0, 24, .inl (fun _ => 0))), (q13, .inl (G.2.2.2 0, 144, .inl (fun _ => 0))), (q17, .inl (G.2.2.2 0, 4, .inl (fun _ => 0)))]) hin C hM rfl rfl hin5 tyX5_ok nmX5 (by decide) q1_116 ⟨rfl, rfl⟩ (tyX5_ok 0 (by decide)) rfl rfl (Nat.le_of_ble_eq_true rfl) rfl dX5_init_38 (fun H locs hM => ?_)
  refine W.widen (k := 4) (n := 196) (by decide) (by decide) ?_
  exact hret 41 _ _ _ _ dX5_init_41 ⟨q5, q9, q13, q17, rfl⟩ hM
abbrev rm_X7_init : Room := { frames := 1, cells := 1, slots := 150, locals := 40 }
theorem dX7_init_0 : decode cX7_init 0 = .ok (.aload_n 0, 1) := by decide +kernel
theorem dX7_init_1 : decode cX7_init 1 = .ok (.invokespecial 3, 3) := by decide +kernel
theorem dX7_init_4 : decode cX7_init 4 = .ok (.aload_n 0, 1) := by decide +kernel
theorem dX7_init_5 : decode cX7_init 5 = .ok (.sipush 150, 3) := by decide +kernel
theorem dX7_init_8 : decode cX7_init 8 = .ok (.newarray .int, 2) := by decide +kernel
theorem dX7_init_10 : decode cX7_init 10 = .ok (.putfield 9, 3) := by decide +kernel
theorem dX7_init_13 : decode cX7_init 13 = .ok (.aload_n 0, 1) := by decide +kernel
theorem dX7_init_14 : decode cX7_init 14 = .ok (.aload_n 1, 1) := by decide +kernel
theorem dX7_init_15 : decode cX7_init 15 = .ok (.putfield 15, 3) := by decide +kernel
theorem dX7_init_18 : decode cX7_init 18 = .ok (.return_, 1) := by decide +kernel
set_option maxHeartbeats 8000000 in
set_option maxRecDepth 100000 in
theorem c_X7_init (l : Launch) (G : GP) (w0 : va_W) (o : Nat) (a1 : Nat) : c_Met l yX7_init cX7_init 2 rm_X7_init G [.ref o, .ref a1] (w0 ++ [(o, .inr (7, [.null, .null]))]) (fun u => ∃ q5 : Nat, u = w0 ++ [(o, .inr (7, [.ref a1, .ref q5])), (q5, .inl (G.2.2.2 0, 150, .inl (fun _ => 0)))]) := by
  refine c_ofW (by decide +kernel) rfl (Nat.le_of_ble_eq_true rfl) ?_
  intro p e s m args below meth c Q ls C hin hM hl hret
  have hx := C.1
  have hb := C.2.1
  have hl : lv_has ls 2 [(0, .ref o), (1, .ref a1)] := hl
  refine lv_aload_n (pc := 0) hx hb dX7_init_0 rfl (lv_at hl 0 rfl) ?_
  refine c_objI (pc := 1) C hl.1 ⟨q1_144, q1_33, q1_34⟩ ⟨by decide, by decide⟩ dX7_init_1 ?_
  refine lv_aload_n (pc := 4) hx hb dX7_init_4 rfl (lv_at hl 0 rfl) ?_
  refine lv_sipush (pc := 5) (v := 150) hx hb dX7_init_5 (by decide) ?_
  refine c_newa (pc := 8) (atype := .int) (ty := .int) (t0 := 0) (N' := 150) (a0 := (150, .inl (fun _ => 0))) C hM q1_57 rfl rfl (fun _ h => h) (fun _ => rfl) (by decide) (by rfl) (Nat.le_of_ble_eq_true rfl) ⟨by decide, by decide⟩ dX7_init_8 (fun q5 H hM => ?_)
  have hM : c_M G (w0 ++ [(o, .inr (7, [.null, .null])), (q5, .inl (G.2.2.2 0, 150, .inl (fun _ => 0)))]) s _ _ := hM
  refine c_putF (pc := 10) (j := 0) (k := 1) (l' := [(o, .inr (7, [.null, .ref q5])), (q5, .inl (G.2.2.2 0, 150, .inl (fun _ => 0)))]) hin C hM rfl rfl hin7 tyX7_ok nmX7 (by decide) q1_146 ⟨rfl, rfl⟩ (tyX7_ok 1 (by decide)) rfl rfl (Nat.le_of_ble_eq_true rfl) rfl dX7_init_10 (fun H locs hM => ?_)
  refine lv_aload_n (pc := 13) hx hb dX7_init_13 rfl (lv_at hl 0 rfl) ?_
  refine lv_aload_n (pc := 14) hx hb dX7_init_14 rfl (lv_at hl 1 rfl) ?_
  refine c_putF (pc := 15) (j := 0) (k := 0) (l' := [(o, .inr (7, [.ref a1, .ref q5])), (q5, .inl (G.2.2.2 0, 150, .inl (fun _ => 0)))]) hin C hM rfl rfl hin7 tyX7_ok nmX7 (by decide) q1_145 ⟨rfl, rfl⟩ (tyX7_ok 0 (by decide)) rfl rfl (Nat.le_of_ble_eq_true rfl) rfl dX7_init_15 (fun H locs hM => ?_)
  refine W.widen (k := 1) (n := 150) (by decide) (by decide) ?_
  exact hret 18 _ _ _ _ dX7_init_18 ⟨q5, rfl⟩ hM
abbrev rm_X9_init : Room := { frames := 1, cells := 4, slots := 103, locals := 40 }
theorem dX9_init_0 : decode cX9_init 0 = .ok (.aload_n 0, 1) := by decide +kernel
theorem dX9_init_1 : decode cX9_init 1 = .ok (.invokespecial 3, 3) := by decide +kernel
theorem dX9_init_4 : decode cX9_init 4 = .ok (.aload_n 0, 1) := by decide +kernel
theorem dX9_init_5 : decode cX9_init 5 = .ok (.iconst 4, 1) := by decide +kernel
theorem dX9_init_6 : decode cX9_init 6 = .ok (.newarray .int, 2) := by decide +kernel
theorem dX9_init_8 : decode cX9_init 8 = .ok (.putfield 9, 3) := by decide +kernel
theorem dX9_init_11 : decode cX9_init 11 = .ok (.aload_n 0, 1) := by decide +kernel
theorem dX9_init_12 : decode cX9_init 12 = .ok (.iconst 3, 1) := by decide +kernel
theorem dX9_init_13 : decode cX9_init 13 = .ok (.newarray .int, 2) := by decide +kernel
theorem dX9_init_15 : decode cX9_init 15 = .ok (.putfield 15, 3) := by decide +kernel
theorem dX9_init_18 : decode cX9_init 18 = .ok (.aload_n 0, 1) := by decide +kernel
theorem dX9_init_19 : decode cX9_init 19 = .ok (.bipush 48, 2) := by decide +kernel
theorem dX9_init_21 : decode cX9_init 21 = .ok (.newarray .int, 2) := by decide +kernel
theorem dX9_init_23 : decode cX9_init 23 = .ok (.putfield 18, 3) := by decide +kernel
theorem dX9_init_26 : decode cX9_init 26 = .ok (.aload_n 0, 1) := by decide +kernel
theorem dX9_init_27 : decode cX9_init 27 = .ok (.bipush 48, 2) := by decide +kernel
theorem dX9_init_29 : decode cX9_init 29 = .ok (.newarray .int, 2) := by decide +kernel
theorem dX9_init_31 : decode cX9_init 31 = .ok (.putfield 21, 3) := by decide +kernel
theorem dX9_init_34 : decode cX9_init 34 = .ok (.aload_n 0, 1) := by decide +kernel
theorem dX9_init_35 : decode cX9_init 35 = .ok (.aload_n 1, 1) := by decide +kernel
theorem dX9_init_36 : decode cX9_init 36 = .ok (.putfield 24, 3) := by decide +kernel
theorem dX9_init_39 : decode cX9_init 39 = .ok (.return_, 1) := by decide +kernel
set_option maxHeartbeats 8000000 in
set_option maxRecDepth 100000 in
theorem c_X9_init (l : Launch) (G : GP) (w0 : va_W) (o : Nat) (a1 : Nat) : c_Met l yX9_init cX9_init 2 rm_X9_init G [.ref o, .ref a1] (w0 ++ [(o, .inr (9, [.null, .null, .int 0, .null, .null, .null]))]) (fun u => ∃ q5 q9 q13 q17 : Nat, u = w0 ++ [(o, .inr (9, [.ref a1, .ref q5, .int 0, .ref q9, .ref q13, .ref q17])), (q5, .inl (G.2.2.2 0, 4, .inl (fun _ => 0))), (q9, .inl (G.2.2.2 0, 3, .inl (fun _ => 0))), (q13, .inl (G.2.2.2 0, 48, .inl (fun _ => 0))), (q17, .inl (G.2.2.2 0, 48, .inl (fun _ => 0)))]) := by
  refine c_ofW (by decide +kernel) rfl (Nat.le_of_ble_eq_true rfl) ?_
  intro p e s m args below meth c Q ls C hin hM hl hret
  have hx := C.1
  have hb := C.2.1
  have hl : lv_has ls 2 [(0, .ref o), (1, .ref a1)] := hl
  refine lv_aload_n (pc := 0) hx hb dX9_init_0 rfl (lv_at hl 0 rfl) ?_
  refine c_objI (pc := 1) C hl.1 ⟨q1_157, q1_33, q1_34⟩ ⟨by decide, by decide⟩ dX9_init_1 ?_
  refine lv_aload_n (pc := 4) hx hb dX9_init_4 rfl (lv_at hl 0 rfl) ?_
  refine lv_iconst (pc := 5) (v := 4) hx hb dX9_init_5 (by decide) ?_
  refine c_newa (pc := 6) (atype := .int) (ty := .int) (t0 := 0) (N' := 4) (a0 := (4, .inl (fun _ => 0))) C hM q1_57 rfl rfl (fun _ h => h) (fun _ => rfl) (by decide) (by rfl) (Nat.le_of_ble_eq_true rfl) ⟨by decide, by decide⟩ dX9_init_6 (fun q5 H hM => ?_)
  have hM : c_M G (w0 ++ [(o, .inr (9, [.null, .null, .int 0, .null, .null, .null])), (q5, .inl (G.2.2.2 0, 4, .inl (fun _ => 0)))]) s _ _ := hM
  refine c_putF (pc := 8) (j := 0) (k := 1) (l' := [(o, .inr (9, [.null, .ref q5, .int 0, .null, .null, .null])), (q5, .inl (G.2.2.2 0, 4, .inl (fun _ => 0)))]) hin C hM rfl rfl hin9 tyX9_ok nmX9 (by decide) q1_159 ⟨rfl, rfl⟩ (tyX9_ok 1 (by decide)) rfl rfl (Nat.le_of_ble_eq_true rfl) rfl dX9_init_8 (fun H locs hM => ?_)
  refine lv_aload_n (pc := 11) hx hb dX9_init_11 rfl (lv_at hl 0 rfl) ?_
  refine lv_iconst (pc := 12) (v := 3) hx hb dX9_init_12 (by decide) ?_
  refine c_newa (pc := 13) (atype := .int) (ty := .int) (t0 := 0) (N' := 3) (a0 := (3, .inl (fun _ => 0))) C hM q1_57 rfl rfl (fun _ h => h) (fun _ => rfl) (by decide) (by rfl) (Nat.le_of_ble_eq_true rfl) ⟨by decide, by decide⟩ dX9_init_13 (fun q9 H hM => ?_)
  have hM : c_M G (w0 ++ [(o, .inr (9, [.null, .ref q5, .int 0, .null, .null, .null])), (q5, .inl (G.2.2.2 0, 4, .inl (fun _ => 0))), (q9, .inl (G.2.2.2 0, 3, .inl (fun _ => 0)))]) s _ _ := hM
  refine c_putF (pc := 15) (j := 0) (k := 3) (l' := [(o, .inr (9, [.null, .ref q5, .int 0, .ref q9, .null, .null])), (q5, .inl (G.2.2.2 0, 4, .inl (fun _ => 0))), (q9, .inl (G.2.2.2 0, 3, .inl (fun _ => 0)))]) hin C hM rfl rfl hin9 tyX9_ok nmX9 (by decide) q1_162 ⟨rfl, rfl⟩ (tyX9_ok 3 (by decide)) rfl rfl (Nat.le_of_ble_eq_true rfl) rfl dX9_init_15 (fun H locs hM => ?_)
  refine lv_aload_n (pc := 18) hx hb dX9_init_18 rfl (lv_at hl 0 rfl) ?_
  refine lv_bipush (pc := 19) (v := 48) hx hb dX9_init_19 (by decide) ?_
  refine c_newa (pc := 21) (atype := .int) (ty := .int) (t0 := 0) (N' := 48) (a0 := (48, .inl (fun _ => 0))) C hM q1_57 rfl rfl (fun _ h => h) (fun _ => rfl) (by decide) (by rfl) (Nat.le_of_ble_eq_true rfl) ⟨by decide, by decide⟩ dX9_init_21 (fun q13 H hM => ?_)
  have hM : c_M G (w0 ++ [(o, .inr (9, [.null, .ref q5, .int 0, .ref q9, .null, .null])), (q5, .inl (G.2.2.2 0, 4, .inl (fun _ => 0))), (q9, .inl (G.2.2.2 0, 3, .inl (fun _ => 0))), (q13, .inl (G.2.2.2 0, 48, .inl (fun _ => 0)))]) s _ _ := hM
  refine c_putF (pc := 23) (j := 0) (k := 4) (l' := [(o, .inr (9, [.null, .ref q5, .int 0, .ref q9, .ref q13, .null])), (q5, .inl (G.2.2.2 0, 4, .inl (fun _ => 0))), (q9, .inl (G.2.2.2 0, 3, .inl (fun _ => 0))), (q13, .inl (G.2.2.2 0, 48, .inl (fun _ => 0)))]) hin C hM rfl rfl hin9 tyX9_ok nmX9 (by decide) q1_163 ⟨rfl, rfl⟩ (tyX9_ok 4 (by decide)) rfl rfl (Nat.le_of_ble_eq_true rfl) rfl dX9_init_23 (fun H locs hM => ?_)
  refine lv_aload_n (pc := 26) hx hb dX9_init_26 rfl (lv_at hl 0 rfl) ?_
  refine lv_bipush (pc := 27) (v := 48) hx hb dX9_init_27 (by decide) ?_
  refine c_newa (pc := 29) (atype := .int) (ty := .int) (t0 := 0) (N' := 48) (a0 := (48, .inl (fun _ => 0))) C hM q1_57 rfl rfl (fun _ h => h) (fun _ => rfl) (by decide) (by rfl) (Nat.le_of_ble_eq_true rfl) ⟨by decide, by decide⟩ dX9_init_29 (fun q17 H hM => ?_)
  have hM : c_M G (w0 ++ [(o, .inr (9, [.null, .ref q5, .int 0, .ref q9, .ref q13, .null])), (q5, .inl (G.2.2.2 0, 4, .inl (fun _ => 0))), (q9, .inl (G.2.2.2 0, 3, .inl (fun _ => 0))), (q13, .inl (G.2.2.2 0, 48, .inl (fun _ => 0))), (q17, .inl (G.2.2.2 0, 48, .inl (fun _ => 0)))]) s _ _ := hM
  refine c_putF (pc := 31) (j := 0) (k := 5) (l' := [(o, .inr (9, [.null, .ref q5, .int 0, .ref q9, .ref q13, .ref q17])), (q5, .inl (G.2.2.2 0, 4, .inl (fun _ => 0))), (q9, .inl (G.2.2.2 0, 3, .inl (fun _ => 0))), (q13, .inl (G.2.2.2 0, 48, .inl (fun _ => 0))), (q17, .inl (G.2.2.2 0, 48, .inl (fun _ => 0)))]) hin C hM rfl rfl hin9 tyX9_ok nmX9 (by decide) q1_164 ⟨rfl, rfl⟩ (tyX9_ok 5 (by decide)) rfl rfl (Nat.le_of_ble_eq_true rfl) rfl dX9_init_31 (fun H locs hM => ?_)
  refine lv_aload_n (pc := 34) hx hb dX9_init_34 rfl (lv_at hl 0 rfl) ?_
  refine lv_aload_n (pc := 35) hx hb dX9_init_35 rfl (lv_at hl 1 rfl) ?_
  refine c_putF (pc := 36) (j := 0) (k := 0) (l' := [(o, .inr (9, [.ref a1, .ref q5, .int 0, .ref q9, .ref q13, .ref q17])), (q5, .inl (G.2.2.2 0, 4, .inl (fun _ => 0))), (q9, .inl (G.2.2.2 0, 3, .inl (fun _ => 0))), (q13, .inl (G.2.2.2 0, 48, .inl (fun _ => 0))), (q17, .inl (G.2.2.2 0, 48, .inl (fun _ => 0)))]) hin C hM rfl rfl hin9 tyX9_ok nmX9 (by decide) q1_158 ⟨rfl, rfl⟩ (tyX9_ok 0 (by decide)) rfl rfl (Nat.le_of_ble_eq_true rfl) rfl dX9_init_36 (fun H locs hM => ?_)
  refine W.widen (k := 4) (n := 103) (by decide) (by decide) ?_
  exact hret 39 _ _ _ _ dX9_init_39 ⟨q5, q9, q13, q17, rfl⟩ hM
abbrev rm_X1_init : Room := { frames := 1, cells := 1, slots := 7, locals := 40 }
theorem dX1_init_0 : decode cX1_init 0 = .ok (.aload_n 0, 1) := by decide +kernel
theorem dX1_init_1 : decode cX1_init 1 = .ok (.invokespecial 3, 3) := by decide +kernel
theorem dX1_init_4 : decode cX1_init 4 = .ok (.aload_n 0, 1) := by decide +kernel
theorem dX1_init_5 : decode cX1_init 5 = .ok (.bipush 7, 2) := by decide +kernel
theorem dX1_init_7 : decode cX1_init 7 = .ok (.newarray .int, 2) := by decide +kernel
theorem dX1_init_9 : decode cX1_init 9 = .ok (.putfield 9, 3) := by decide +kernel
theorem dX1_init_12 : decode cX1_init 12 = .ok (.aload_n 0, 1) := by decide +kernel
theorem dX1_init_13 : decode cX1_init 13 = .ok (.aload_n 1, 1) := by decide +kernel
theorem dX1_init_14 : decode cX1_init 14 = .ok (.putfield 15, 3) := by decide +kernel
theorem dX1_init_17 : decode cX1_init 17 = .ok (.return_, 1) := by decide +kernel
set_option maxHeartbeats 8000000 in
set_option maxRecDepth 100000 in
theorem c_X1_init (l : Launch) (G : GP) (w0 : va_W) (o : Nat) (a1 : Nat) : c_Met l yX1_init cX1_init 2 rm_X1_init G [.ref o, .ref a1] (w0 ++ [(o, .inr (1, [.null, .null]))]) (fun u => ∃ q5 : Nat, u = w0 ++ [(o, .inr (1, [.ref a1, .ref q5])), (q5, .inl (G.2.2.2 0, 7, .inl (fun _ => 0)))]) := by
  refine c_ofW (by decide +kernel) rfl (Nat.le_of_ble_eq_true rfl) ?_
  intro p e s m args below meth c Q ls C hin hM hl hret
  have hx := C.1
  have hb := C.2.1
  have hl : lv_has ls 2 [(0, .ref o), (1, .ref a1)] := hl
  refine lv_aload_n (pc := 0) hx hb dX1_init_0 rfl (lv_at hl 0 rfl) ?_
  refine c_objI (pc := 1) C hl.1 ⟨q1_183, q1_33, q1_34⟩ ⟨by decide, by decide⟩ dX1_init_1 ?_
  refine lv_aload_n (pc := 4) hx hb dX1_init_4 rfl (lv_at hl 0 rfl) ?_
  refine lv_bipush (pc := 5) (v := 7) hx hb dX1_init_5 (by decide) ?_
  refine c_newa (pc := 7) (atype := .int) (ty := .int) (t0 := 0) (N' := 7) (a0 := (7, .inl (fun _ => 0))) C hM q1_57 rfl rfl (fun _ h => h) (fun _ => rfl) (by decide) (by rfl) (Nat.le_of_ble_eq_true rfl) ⟨by decide, by decide⟩ dX1_init_7 (fun q5 H hM => ?_)
  have hM : c_M G (w0 ++ [(o, .inr (1, [.null, .null])), (q5, .inl (G.2.2.2 0, 7, .inl (fun _ => 0)))]) s _ _ := hM
  refine c_putF (pc := 9) (j := 0) (k := 1) (l' := [(o, .inr (1, [.null, .ref q5])), (q5, .inl (G.2.2.2 0, 7, .inl (fun _ => 0)))]) hin C hM rfl rfl hin1 tyX1_ok nmX1 (by decide) q1_185 ⟨rfl, rfl⟩ (tyX1_ok 1 (by decide)) rfl rfl (Nat.le_of_ble_eq_true rfl) rfl dX1_init_9 (fun H locs hM => ?_)
  refine lv_aload_n (pc := 12) hx hb dX1_init_12 rfl (lv_at hl 0 rfl) ?_
  refine lv_aload_n (pc := 13) hx hb dX1_init_13 rfl (lv_at hl 1 rfl) ?_
  refine c_putF (pc := 14) (j := 0) (k := 0) (l' := [(o, .inr (1, [.ref a1, .ref q5])), (q5, .inl (G.2.2.2 0, 7, .inl (fun _ => 0)))]) hin C hM rfl rfl hin1 tyX1_ok nmX1 (by decide) q1_184 ⟨rfl, rfl⟩ (tyX1_ok 0 (by decide)) rfl rfl (Nat.le_of_ble_eq_true rfl) rfl dX1_init_14 (fun H locs hM => ?_)
  refine W.widen (k := 1) (n := 7) (by decide) (by decide) ?_
  exact hret 17 _ _ _ _ dX1_init_17 ⟨q5, rfl⟩ hM
abbrev rm_X4_init : Room := { frames := 2, cells := 3, slots := 456, locals := 60 }
theorem dX4_init_0 : decode cX4_init 0 = .ok (.aload_n 0, 1) := by decide +kernel
theorem dX4_init_1 : decode cX4_init 1 = .ok (.invokespecial 3, 3) := by decide +kernel
theorem dX4_init_4 : decode cX4_init 4 = .ok (.aload_n 0, 1) := by decide +kernel
theorem dX4_init_5 : decode cX4_init 5 = .ok (.bipush 70, 2) := by decide +kernel
theorem dX4_init_7 : decode cX4_init 7 = .ok (.newarray .char, 2) := by decide +kernel
theorem dX4_init_9 : decode cX4_init 9 = .ok (.putfield 9, 3) := by decide +kernel
theorem dX4_init_12 : decode cX4_init 12 = .ok (.aload_n 0, 1) := by decide +kernel
theorem dX4_init_13 : decode cX4_init 13 = .ok (.new 15, 3) := by decide +kernel
theorem dX4_init_16 : decode cX4_init 16 = .ok (.dup, 1) := by decide +kernel
theorem dX4_init_17 : decode cX4_init 17 = .ok (.invokespecial 17, 3) := by decide +kernel
theorem dX4_init_20 : decode cX4_init 20 = .ok (.putfield 18, 3) := by decide +kernel
theorem dX4_init_23 : decode cX4_init 23 = .ok (.aload_n 0, 1) := by decide +kernel
theorem dX4_init_24 : decode cX4_init 24 = .ok (.iconst (-1), 1) := by decide +kernel
theorem dX4_init_25 : decode cX4_init 25 = .ok (.putfield 22, 3) := by decide +kernel
theorem dX4_init_28 : decode cX4_init 28 = .ok (.return_, 1) := by decide +kernel
set_option maxHeartbeats 8000000 in
set_option maxRecDepth 100000 in
theorem c_X4_init (l : Launch) (G : GP) (w0 : va_W) (o : Nat) : c_Met l yX4_init cX4_init 1 rm_X4_init G [.ref o] (w0 ++ [(o, .inr (4, [.null, .int 0, .int 0, .null, .int 0]))]) (fun u => ∃ q5 q8 q5_10 : Nat, u = w0 ++ [(o, .inr (4, [.ref q5, .int 0, .int 0, .ref q8, .int (-1)])), (q5, .inl (G.2.2.2 1, 70, .inl (fun _ => 0))), (q8, .inr (6, [.ref q5_10, .int 0])), (q5_10, .inl (G.2.2.2 0, 384, .inl (fun _ => 0)))]) := by
  refine c_ofW (by decide +kernel) rfl (Nat.le_of_ble_eq_true rfl) ?_
  intro p e s m args below meth c Q ls C hin hM hl hret
  have hx := C.1
  have hb := C.2.1
  have hl : lv_has ls 1 [(0, .ref o)] := hl
  refine lv_aload_n (pc := 0) hx hb dX4_init_0 rfl (lv_at hl 0 rfl) ?_
  refine c_objI (pc := 1) C hl.1 ⟨q1_210, q1_33, q1_34⟩ ⟨by decide, by decide⟩ dX4_init_1 ?_
  refine lv_aload_n (pc := 4) hx hb dX4_init_4 rfl (lv_at hl 0 rfl) ?_
  refine lv_bipush (pc := 5) (v := 70) hx hb dX4_init_5 (by decide) ?_
  refine c_newa (pc := 7) (atype := .char) (ty := .char) (t0 := 1) (N' := 70) (a0 := (70, .inl (fun _ => 0))) C hM q1_232 rfl rfl (fun _ h => h) (fun _ => rfl) (by decide) (by rfl) (Nat.le_of_ble_eq_true rfl) ⟨by decide, by decide⟩ dX4_init_7 (fun q5 H hM => ?_)
  have hM : c_M G (w0 ++ [(o, .inr (4, [.null, .int 0, .int 0, .null, .int 0])), (q5, .inl (G.2.2.2 1, 70, .inl (fun _ => 0)))]) s _ _ := hM
  refine c_putF (pc := 9) (j := 0) (k := 0) (l' := [(o, .inr (4, [.ref q5, .int 0, .int 0, .null, .int 0])), (q5, .inl (G.2.2.2 1, 70, .inl (fun _ => 0)))]) hin C hM rfl rfl hin4 tyX4_ok nmX4 (by decide) q1_213 ⟨rfl, rfl⟩ (tyX4_ok 0 (by decide)) rfl rfl (Nat.le_of_ble_eq_true rfl) rfl dX4_init_9 (fun H locs hM => ?_)
  refine lv_aload_n (pc := 12) hx hb dX4_init_12 rfl (lv_at hl 0 rfl) ?_
  refine c_new (pc := 13) (ci := 6) (fs := [.null, .int 0]) C hM rfl hin6 tyX6_ok ⟨q1_211, q1_42, q1_3⟩ hfs6 ⟨by decide, by decide⟩ dX4_init_13 (fun q8 H hM => ?_)
  have hM : c_M G (w0 ++ ([(o, .inr (4, [.ref q5, .int 0, .int 0, .null, .int 0])), (q5, .inl (G.2.2.2 1, 70, .inl (fun _ => 0)))] ++ [(q8, .inr (6, [.null, .int 0]))])) s _ _ := hM
  refine lv_dup (pc := 16) hx hb dX4_init_16 rfl ?_
  refine c_callN (pc := 17) C hM hl.1 yc_X6_init (List.mem_of_getElem? (i := 6) rfl) (c_X6_init l G (w0 ++ [(o, .inr (4, [.ref q5, .int 0, .int 0, .null, .int 0])), (q5, .inl (G.2.2.2 1, 70, .inl (fun _ => 0)))]) q8) rfl rfl ⟨⟨by decide, by decide⟩, by decide, by decide⟩ (Nat.le_of_ble_eq_true rfl) dX4_init_17 (fun u H locs hu hM => ?_)
  obtain ⟨q5_10, rfl⟩ := hu
  rw [List.append_assoc] at hM
  have hM : c_M G (w0 ++ [(o, .inr (4, [.ref q5, .int 0, .int 0, .null, .int 0])), (q5, .inl (G.2.2.2 1, 70, .inl (fun _ => 0))), (q8, .inr (6, [.ref q5_10, .int 0])), (q5_10, .inl (G.2.2.2 0, 384, .inl (fun _ => 0)))]) s _ _ := hM
  refine c_putF (pc := 20) (j := 0) (k := 3) (l' := [(o, .inr (4, [.ref q5, .int 0, .int 0, .ref q8, .int 0])), (q5, .inl (G.2.2.2 1, 70, .inl (fun _ => 0))), (q8, .inr (6, [.ref q5_10, .int 0])), (q5_10, .inl (G.2.2.2 0, 384, .inl (fun _ => 0)))]) hin C hM rfl rfl hin4 tyX4_ok nmX4 (by decide) q1_217 ⟨rfl, rfl⟩ (tyX4_ok 3 (by decide)) rfl rfl (Nat.le_of_ble_eq_true rfl) rfl dX4_init_20 (fun H locs hM => ?_)
  refine lv_aload_n (pc := 23) hx hb dX4_init_23 rfl (lv_at hl 0 rfl) ?_
  refine lv_iconst (pc := 24) (v := (-1)) hx hb dX4_init_24 (by decide) ?_
  refine c_put (pc := 25) (j := 0) (k := 4) (l' := [(o, .inr (4, [.ref q5, .int 0, .int 0, .ref q8, .int (-1)])), (q5, .inl (G.2.2.2 1, 70, .inl (fun _ => 0))), (q8, .inr (6, [.ref q5_10, .int 0])), (q5_10, .inl (G.2.2.2 0, 384, .inl (fun _ => 0)))]) C hM rfl rfl hin4 tyX4_ok nmX4 (by decide) q1_219 rfl (tyX4_ok 4 (by decide)) rfl rfl (Nat.le_of_ble_eq_true rfl) rfl dX4_init_25 (fun H locs hM => ?_)
  refine W.widen (k := 3) (n := 456) (by decide) (by decide) ?_
  exact hret 28 _ _ _ _ dX4_init_28 ⟨q5, q8, q5_10, rfl⟩ hM
abbrev rm_X10_init : Room := { frames := 1, cells := 1, slots := 200, locals := 40 }
theorem dX10_init_0 : decode cX10_init 0 = .ok (.aload_n 0, 1) := by decide +kernel
theorem dX10_init_1 : decode cX10_init 1 = .ok (.invokespecial 3, 3) := by decide +kernel
theorem dX10_init_4 : decode cX10_init 4 = .ok (.aload_n 0, 1) := by decide +kernel
theorem dX10_init_5 : decode cX10_init 5 = .ok (.sipush 200, 3) := by decide +kernel
theorem dX10_init_8 : decode cX10_init 8 = .ok (.newarray .char, 2) := by decide +kernel
theorem dX10_init_10 : decode cX10_init 10 = .ok (.putfield 9, 3) := by decide +kernel
theorem dX10_init_13 : decode cX10_init 13 = .ok (.return_, 1) := by decide +kernel
set_option maxHeartbeats 8000000 in
set_option maxRecDepth 100000 in
theorem c_X10_init (l : Launch) (G : GP) (w0 : va_W) (o : Nat) : c_Met l yX10_init cX10_init 1 rm_X10_init G [.ref o] (w0 ++ [(o, .inr (10, [.null, .int 0]))]) (fun u => ∃ q5 : Nat, u = w0 ++ [(o, .inr (10, [.ref q5, .int 0])), (q5, .inl (G.2.2.2 1, 200, .inl (fun _ => 0)))]) := by
  refine c_ofW (by decide +kernel) rfl (Nat.le_of_ble_eq_true rfl) ?_
  intro p e s m args below meth c Q ls C hin hM hl hret
  have hx := C.1
  have hb := C.2.1
  have hl : lv_has ls 1 [(0, .ref o)] := hl
  refine lv_aload_n (pc := 0) hx hb dX10_init_0 rfl (lv_at hl 0 rfl) ?_
  refine c_objI (pc := 1) C hl.1 ⟨q1_238, q1_33, q1_34⟩ ⟨by decide, by decide⟩ dX10_init_1 ?_
  refine lv_aload_n (pc := 4) hx hb dX10_init_4 rfl (lv_at hl 0 rfl) ?_
  refine lv_sipush (pc := 5) (v := 200) hx hb dX10_init_5 (by decide) ?_
  refine c_newa (pc := 8) (atype := .char) (ty := .char) (t0 := 1) (N' := 200) (a0 := (200, .inl (fun _ => 0))) C hM q1_232 rfl rfl (fun _ h => h) (fun _ => rfl) (by decide) (by rfl) (Nat.le_of_ble_eq_true rfl) ⟨by decide, by decide⟩ dX10_init_8 (fun q5 H hM => ?_)
  have hM : c_M G (w0 ++ [(o, .inr (10, [.null, .int 0])), (q5, .inl (G.2.2.2 1, 200, .inl (fun _ => 0)))]) s _ _ := hM
  refine c_putF (pc := 10) (j := 0) (k := 0) (l' := [(o, .inr (10, [.ref q5, .int 0])), (q5, .inl (G.2.2.2 1, 200, .inl (fun _ => 0)))]) hin C hM rfl rfl hin10 tyX10_ok nmX10 (by decide) q1_239 ⟨rfl, rfl⟩ (tyX10_ok 0 (by decide)) rfl rfl (Nat.le_of_ble_eq_true rfl) rfl dX10_init_10 (fun H locs hM => ?_)
  refine W.widen (k := 1) (n := 200) (by decide) (by decide) ?_
  exact hret 13 _ _ _ _ dX10_init_13 ⟨q5, rfl⟩ hM
