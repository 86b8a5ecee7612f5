abbrev rm_X11_witness : Room := { frames := 67, cells := 3, slots := 18, locals := 2676 }
theorem dX11_witness_0 : decode cX11_witness 0 = .ok (.aload_n 0, 1) := by decide +kernel
theorem dX11_witness_1 : decode cX11_witness 1 = .ok (.iload_n 1, 1) := by decide +kernel
theorem dX11_witness_2 : decode cX11_witness 2 = .ok (.invokevirtual 124, 3) := by decide +kernel
theorem dX11_witness_5 : decode cX11_witness 5 = .ok (.iload_n 2, 1) := by decide +kernel
theorem dX11_witness_6 : decode cX11_witness 6 = .ok (.bipush 6, 2) := by decide +kernel
theorem dX11_witness_8 : decode cX11_witness 8 = .ok (.invokestatic 92, 3) := by decide +kernel
theorem dX11_witness_11 : decode cX11_witness 11 = .ok (.aload_n 0, 1) := by decide +kernel
theorem dX11_witness_12 : decode cX11_witness 12 = .ok (.getfield 31, 3) := by decide +kernel
theorem dX11_witness_15 : decode cX11_witness 15 = .ok (.invokevirtual 199, 3) := by decide +kernel
theorem dX11_witness_18 : decode cX11_witness 18 = .ok (.aload_n 0, 1) := by decide +kernel
theorem dX11_witness_19 : decode cX11_witness 19 = .ok (.getfield 40, 3) := by decide +kernel
theorem dX11_witness_22 : decode cX11_witness 22 = .ok (.aload_n 0, 1) := by decide +kernel
theorem dX11_witness_23 : decode cX11_witness 23 = .ok (.getfield 31, 3) := by decide +kernel
theorem dX11_witness_26 : decode cX11_witness 26 = .ok (.getfield 202, 3) := by decide +kernel
theorem dX11_witness_29 : decode cX11_witness 29 = .ok (.iload_n 1, 1) := by decide +kernel
theorem dX11_witness_30 : decode cX11_witness 30 = .ok (.iaload, 1) := by decide +kernel
theorem dX11_witness_31 : decode cX11_witness 31 = .ok (.iload_n 2, 1) := by decide +kernel
theorem dX11_witness_32 : decode cX11_witness 32 = .ok (.invokevirtual 266, 3) := by decide +kernel
theorem dX11_witness_35 : decode cX11_witness 35 = .ok (.istore_n 3, 1) := by decide +kernel
theorem dX11_witness_36 : decode cX11_witness 36 = .ok (.iload_n 3, 1) := by decide +kernel
theorem dX11_witness_37 : decode cX11_witness 37 = .ok (.ifCond .lt 7, 3) := by decide +kernel
theorem dX11_witness_40 : decode cX11_witness 40 = .ok (.iconst 1, 1) := by decide +kernel
theorem dX11_witness_41 : decode cX11_witness 41 = .ok (.goto 4, 3) := by decide +kernel
theorem dX11_witness_44 : decode cX11_witness 44 = .ok (.iconst 0, 1) := by decide +kernel
theorem dX11_witness_45 : decode cX11_witness 45 = .ok (.invokestatic 172, 3) := by decide +kernel
theorem dX11_witness_48 : decode cX11_witness 48 = .ok (.iload_n 3, 1) := by decide +kernel
theorem dX11_witness_49 : decode cX11_witness 49 = .ok (.ireturn, 1) := by decide +kernel
set_option maxHeartbeats 4000000 in
set_option maxRecDepth 100000 in
theorem w_X11_witness (l : Launch) (hl0 : l.stackTraces = false) (G : GP) (x : XP) (a1 : Int32) (a2 : Int32) (σ : Sto) (P : Int32 → Sto → Prop) (PX : String → Sto → Prop) (h : D_X11_witness a1 a2 σ P PX) : g_Mxi l yX11_witness cX11_witness 4 (some .int) rm_X11_witness G x [.ref (g_ad G 60), .int a1, .int a2] σ P PX := by
  unfold D_X11_witness at h
  refine g_ofXi hl0 (by decide +kernel) (Nat.le_of_ble_eq_true rfl) (Or.inl (by decide)) ?_
  intro p e s m args below meth c Q ls C hM hl hret hprop hthrow
  have hx := C.1
  have hb := C.2.1
  have hl : lv_has ls 4 [(0, .ref (g_ad G 60)), (1, .int a1), (2, .int a2)] := hl
  refine lv_aload_n (pc := 0) hx hb dX11_witness_0 rfl (lv_at hl 0 rfl) ?_
  refine lv_iload_n (pc := 1) hx hb dX11_witness_1 rfl (lv_at hl 1 rfl) ?_
  refine g_cxVv (pc := 2) C hM hl.1 yv_X11_requireRule q3_34 (by decide) ce_60 rfl (w_X11_requireRule l hl0 G x a1 σ _ PX h) rfl rfl ⟨⟨by decide, by decide⟩, by decide, by decide⟩ (Nat.le_of_ble_eq_true rfl) dX11_witness_2 hprop (fun s2 H locs h hM => ?_)
  refine lv_iload_n (pc := 5) hx hb dX11_witness_5 rfl (lv_at hl 2 rfl) ?_
  refine lv_bipush (pc := 6) (v := 6) hx hb dX11_witness_6 (by decide) ?_
  refine g_cxSv (pc := 8) C hM hl.1 ys_X11_requireIndex q2_191 (w_X11_requireIndex l hl0 G x a2 6 s2 _ PX h) rfl rfl ⟨⟨by decide, by decide⟩, by decide, by decide⟩ (Nat.le_of_ble_eq_true rfl) dX11_witness_8 hprop (fun s8 H locs h hM => ?_)
  refine lv_aload_n (pc := 11) hx hb dX11_witness_11 rfl (lv_at hl 0 rfl) ?_
  refine g_get (pc := 12) (v := .ref (g_ad G 65)) C hM (by decide) ce_60 fl_RX11_31 rfl dX11_witness_12 ?_
  refine g_cVv (pc := 15) C hM hl.1 yv_X5_refresh q4_36 (by decide) ce_65 rfl (w_X5_refresh l G x  s8 _ h) rfl rfl ⟨⟨by decide, by decide⟩, by decide, by decide⟩ (Nat.le_of_ble_eq_true rfl) dX11_witness_15 (fun s15 H locs h hM => ?_)
  refine lv_aload_n (pc := 18) hx hb dX11_witness_18 rfl (lv_at hl 0 rfl) ?_
  refine g_get (pc := 19) (v := .ref (g_ad G 70)) C hM (by decide) ce_60 fl_RX11_40 rfl dX11_witness_19 ?_
  refine lv_aload_n (pc := 22) hx hb dX11_witness_22 rfl (lv_at hl 0 rfl) ?_
  refine g_get (pc := 23) (v := .ref (g_ad G 65)) C hM (by decide) ce_60 fl_RX11_31 rfl dX11_witness_23 ?_
  refine g_get (pc := 26) (v := .ref (g_ad G 66)) C hM (by decide) ce_65 fl_RX11_202 rfl dX11_witness_26 ?_
  refine lv_iload_n (pc := 29) hx hb dX11_witness_29 rfl (lv_at hl 1 rfl) ?_
  obtain ⟨hc, h⟩ := h
  refine g_ialdK (pc := 30) C hM (by decide) ce_66 hc rfl dX11_witness_30 ?_
  refine lv_iload_n (pc := 31) hx hb dX11_witness_31 rfl (lv_at hl 2 rfl) ?_
  refine g_cVi (pc := 32) C hM hl.1 yv_X7_witnessValue q5_35 (by decide) ce_70 rfl (w_X7_witnessValue l G x (s15 66 (ix a1)) a2 s15 _ h) rfl rfl ⟨⟨by decide, by decide⟩, by decide, by decide⟩ (Nat.le_of_ble_eq_true rfl) dX11_witness_32 (fun r32 s32 H locs h hM => ?_)
  refine lv_istore_n (pc := 35) (lv' := [(3, .int r32), (0, .ref (g_ad G 60)), (1, .int a1), (2, .int a2)]) hx hb dX11_witness_35 rfl hl (by decide) rfl (fun ls hl => ?_)
  refine lv_iload_n (pc := 36) hx hb dX11_witness_36 rfl (lv_at hl 0 rfl) ?_
  refine lv_if_lt (pc := 37) (tgt := 44) hx hb dX11_witness_37 (by decide) (fun c37 => ?_) (fun c37 => ?_)
  · have h := h.1 c37
    refine lv_iconst (pc := 44) (v := 0) hx hb dX11_witness_44 (by decide) ?_
    refine g_cxSv (pc := 45) C hM hl.1 ys_X11_requireElement q3_161 (w_X11_requireElement l hl0 G x 0 s32 _ PX h) rfl rfl ⟨⟨by decide, by decide⟩, by decide, by decide⟩ (Nat.le_of_ble_eq_true rfl) dX11_witness_45 hprop (fun s45 H locs h hM => ?_)
    refine lv_iload_n (pc := 48) hx hb dX11_witness_48 rfl (lv_at hl 0 rfl) ?_
    refine W.widen (k := 3) (n := 18) (by decide) (by decide) ?_
    exact hret 49 _ _ _ _ _ dX11_witness_49 (by rfl) h hM
  · have h := h.2 c37
    refine lv_iconst (pc := 40) (v := 1) hx hb dX11_witness_40 (by decide) ?_
    refine lv_goto (pc := 41) (tgt := 45) hx hb dX11_witness_41 (by decide) ?_
    refine g_cxSv (pc := 45) C hM hl.1 ys_X11_requireElement q3_161 (w_X11_requireElement l hl0 G x 1 s32 _ PX h) rfl rfl ⟨⟨by decide, by decide⟩, by decide, by decide⟩ (Nat.le_of_ble_eq_true rfl) dX11_witness_45 hprop (fun s45 H locs h hM => ?_)
    refine lv_iload_n (pc := 48) hx hb dX11_witness_48 rfl (lv_at hl 0 rfl) ?_
    refine W.widen (k := 3) (n := 18) (by decide) (by decide) ?_
    exact hret 49 _ _ _ _ _ dX11_witness_49 (by rfl) h hM
abbrev rm_X11_firstBlocker : Room := { frames := 67, cells := 0, slots := 0, locals := 2672 }
theorem dX11_firstBlocker_0 : decode cX11_firstBlocker 0 = .ok (.aload_n 0, 1) := by decide +kernel
theorem dX11_firstBlocker_1 : decode cX11_firstBlocker 1 = .ok (.getfield 31, 3) := by decide +kernel
theorem dX11_firstBlocker_4 : decode cX11_firstBlocker 4 = .ok (.getfield 202, 3) := by decide +kernel
theorem dX11_firstBlocker_7 : decode cX11_firstBlocker 7 = .ok (.iload_n 1, 1) := by decide +kernel
theorem dX11_firstBlocker_8 : decode cX11_firstBlocker 8 = .ok (.iaload, 1) := by decide +kernel
theorem dX11_firstBlocker_9 : decode cX11_firstBlocker 9 = .ok (.istore_n 2, 1) := by decide +kernel
theorem dX11_firstBlocker_10 : decode cX11_firstBlocker 10 = .ok (.iconst 0, 1) := by decide +kernel
theorem dX11_firstBlocker_11 : decode cX11_firstBlocker 11 = .ok (.istore_n 3, 1) := by decide +kernel
theorem dX11_firstBlocker_12 : decode cX11_firstBlocker 12 = .ok (.iload_n 3, 1) := by decide +kernel
theorem dX11_firstBlocker_13 : decode cX11_firstBlocker 13 = .ok (.aload_n 0, 1) := by decide +kernel
theorem dX11_firstBlocker_14 : decode cX11_firstBlocker 14 = .ok (.getfield 12, 3) := by decide +kernel
theorem dX11_firstBlocker_17 : decode cX11_firstBlocker 17 = .ok (.getfield 104, 3) := by decide +kernel
theorem dX11_firstBlocker_20 : decode cX11_firstBlocker 20 = .ok (.getfield 108, 3) := by decide +kernel
theorem dX11_firstBlocker_23 : decode cX11_firstBlocker 23 = .ok (.if_icmp .ge 36, 3) := by decide +kernel
theorem dX11_firstBlocker_26 : decode cX11_firstBlocker 26 = .ok (.iload_n 3, 1) := by decide +kernel
theorem dX11_firstBlocker_27 : decode cX11_firstBlocker 27 = .ok (.iload_n 1, 1) := by decide +kernel
theorem dX11_firstBlocker_28 : decode cX11_firstBlocker 28 = .ok (.if_icmp .eq 25, 3) := by decide +kernel
theorem dX11_firstBlocker_31 : decode cX11_firstBlocker 31 = .ok (.aload_n 0, 1) := by decide +kernel
theorem dX11_firstBlocker_32 : decode cX11_firstBlocker 32 = .ok (.getfield 40, 3) := by decide +kernel
theorem dX11_firstBlocker_35 : decode cX11_firstBlocker 35 = .ok (.iload_n 2, 1) := by decide +kernel
theorem dX11_firstBlocker_36 : decode cX11_firstBlocker 36 = .ok (.aload_n 0, 1) := by decide +kernel
theorem dX11_firstBlocker_37 : decode cX11_firstBlocker 37 = .ok (.getfield 31, 3) := by decide +kernel
theorem dX11_firstBlocker_40 : decode cX11_firstBlocker 40 = .ok (.getfield 202, 3) := by decide +kernel
theorem dX11_firstBlocker_43 : decode cX11_firstBlocker 43 = .ok (.iload_n 3, 1) := by decide +kernel
theorem dX11_firstBlocker_44 : decode cX11_firstBlocker 44 = .ok (.iaload, 1) := by decide +kernel
theorem dX11_firstBlocker_45 : decode cX11_firstBlocker 45 = .ok (.invokevirtual 336, 3) := by decide +kernel
theorem dX11_firstBlocker_48 : decode cX11_firstBlocker 48 = .ok (.ifCond .eq 5, 3) := by decide +kernel
theorem dX11_firstBlocker_51 : decode cX11_firstBlocker 51 = .ok (.iload_n 3, 1) := by decide +kernel
theorem dX11_firstBlocker_52 : decode cX11_firstBlocker 52 = .ok (.ireturn, 1) := by decide +kernel
theorem dX11_firstBlocker_53 : decode cX11_firstBlocker 53 = .ok (.iinc 3 1, 3) := by decide +kernel
theorem dX11_firstBlocker_56 : decode cX11_firstBlocker 56 = .ok (.goto (-44), 3) := by decide +kernel
theorem dX11_firstBlocker_59 : decode cX11_firstBlocker 59 = .ok (.iconst (-1), 1) := by decide +kernel
theorem dX11_firstBlocker_60 : decode cX11_firstBlocker 60 = .ok (.ireturn, 1) := by decide +kernel
set_option maxHeartbeats 4000000 in
set_option maxRecDepth 100000 in
theorem w_X11_firstBlocker (l : Launch) (G : GP) (x : XP) (a1 : Int32) (σ : Sto) (P : Int32 → Sto → Prop) (h : D_X11_firstBlocker a1 σ P) : g_Meti l yX11_firstBlocker cX11_firstBlocker 4 (some .int) rm_X11_firstBlocker G x [.ref (g_ad G 60), .int a1] σ P := by
  unfold D_X11_firstBlocker at h
  refine g_ofWi (by decide +kernel) (Nat.le_of_ble_eq_true rfl) ?_
  intro p e s m args below meth c Q ls C hM hl hret
  have hx := C.1
  have hb := C.2.1
  have hl : lv_has ls 4 [(0, .ref (g_ad G 60)), (1, .int a1)] := hl
  have h := h (fun (v2 : Int32) (v3 : Int32) (σ : Sto) => ∀ (H : Heap) (locs : List Loc) (ls : Array Slot), g_M G x σ s H locs → lv_has ls 4 [(0, .ref (g_ad G 60)), (1, .int a1), (2, .int v2), (3, .int v3)] → W p l e rm_X11_firstBlocker s m args below meth c H locs 0 0 Q (F0 m 12 ls []))
  have h := h (by
    intro v2 v3 σ h  H locs ls hM hl
    refine lv_iload_n (pc := 12) hx hb dX11_firstBlocker_12 rfl (lv_at hl 3 rfl) ?_
    refine lv_aload_n (pc := 13) hx hb dX11_firstBlocker_13 rfl (lv_at hl 0 rfl) ?_
    refine g_get (pc := 14) (v := .ref (g_ad G 0)) C hM (by decide) ce_60 fl_RX11_12 rfl dX11_firstBlocker_14 ?_
    refine g_get (pc := 17) (v := .ref (g_ad G 1)) C hM (by decide) ce_0 fl_RX11_104 rfl dX11_firstBlocker_17 ?_
    refine g_get (pc := 20) (v := .int (σ 1 1)) C hM (by decide) ce_1 fl_RX11_108 rfl dX11_firstBlocker_20 ?_
    refine lv_icmp_ge (pc := 23) (tgt := 59) hx hb dX11_firstBlocker_23 (by decide) (fun c23 => ?_) (fun c23 => ?_)
    · have h := h.1 c23
      refine lv_iconst (pc := 59) (v := (-1)) hx hb dX11_firstBlocker_59 (by decide) ?_
      exact hret 60 _ _ _ _ _ dX11_firstBlocker_60 (by rfl) h hM
    · have h := h.2 c23
      refine lv_iload_n (pc := 26) hx hb dX11_firstBlocker_26 rfl (lv_at hl 3 rfl) ?_
      refine lv_iload_n (pc := 27) hx hb dX11_firstBlocker_27 rfl (lv_at hl 1 rfl) ?_
      refine lv_icmp_eq (pc := 28) (tgt := 53) hx hb dX11_firstBlocker_28 (by decide) (fun c28 => ?_) (fun c28 => ?_)
      · have h := h.1 c28
        refine lv_iinc (pc := 53) (v := (v3 + 1)) (lv' := [(3, .int (v3 + 1)), (0, .ref (g_ad G 60)), (1, .int a1), (2, .int v2)]) hx hb dX11_firstBlocker_53 hl (k := 3) rfl (by rfl) (by decide) rfl (fun ls hl => ?_)
        refine lv_goto (pc := 56) (tgt := 12) hx hb dX11_firstBlocker_56 (by decide) ?_
        exact h _ _ _ hM (lv_sub hl [1, 2, 3, 0] rfl)
      · have h := h.2 c28
        refine lv_aload_n (pc := 31) hx hb dX11_firstBlocker_31 rfl (lv_at hl 0 rfl) ?_
        refine g_get (pc := 32) (v := .ref (g_ad G 70)) C hM (by decide) ce_60 fl_RX11_40 rfl dX11_firstBlocker_32 ?_
        refine lv_iload_n (pc := 35) hx hb dX11_firstBlocker_35 rfl (lv_at hl 2 rfl) ?_
        refine lv_aload_n (pc := 36) hx hb dX11_firstBlocker_36 rfl (lv_at hl 0 rfl) ?_
        refine g_get (pc := 37) (v := .ref (g_ad G 65)) C hM (by decide) ce_60 fl_RX11_31 rfl dX11_firstBlocker_37 ?_
        refine g_get (pc := 40) (v := .ref (g_ad G 66)) C hM (by decide) ce_65 fl_RX11_202 rfl dX11_firstBlocker_40 ?_
        refine lv_iload_n (pc := 43) hx hb dX11_firstBlocker_43 rfl (lv_at hl 3 rfl) ?_
        obtain ⟨hc, h⟩ := h
        refine g_ialdK (pc := 44) C hM (by decide) ce_66 hc rfl dX11_firstBlocker_44 ?_
        refine g_cVi (pc := 45) C hM hl.1 yv_X7_canDecideWithout q5_54 (by decide) ce_70 rfl (w_X7_canDecideWithout l G x v2 (σ 66 (ix v3)) σ _ h) rfl rfl ⟨⟨by decide, by decide⟩, by decide, by decide⟩ (Nat.le_of_ble_eq_true rfl) dX11_firstBlocker_45 (fun r45 s45 H locs h hM => ?_)
        refine lv_if_eq (pc := 48) (tgt := 53) hx hb dX11_firstBlocker_48 (by decide) (fun c48 => ?_) (fun c48 => ?_)
        · have h := h.1 c48
          refine lv_iinc (pc := 53) (v := (v3 + 1)) (lv' := [(3, .int (v3 + 1)), (0, .ref (g_ad G 60)), (1, .int a1), (2, .int v2)]) hx hb dX11_firstBlocker_53 hl (k := 3) rfl (by rfl) (by decide) rfl (fun ls hl => ?_)
          refine lv_goto (pc := 56) (tgt := 12) hx hb dX11_firstBlocker_56 (by decide) ?_
          exact h _ _ _ hM (lv_sub hl [1, 2, 3, 0] rfl)
        · have h := h.2 c48
          refine lv_iload_n (pc := 51) hx hb dX11_firstBlocker_51 rfl (lv_at hl 3 rfl) ?_
          exact hret 52 _ _ _ _ _ dX11_firstBlocker_52 (by rfl) h hM)
  refine lv_aload_n (pc := 0) hx hb dX11_firstBlocker_0 rfl (lv_at hl 0 rfl) ?_
  refine g_get (pc := 1) (v := .ref (g_ad G 65)) C hM (by decide) ce_60 fl_RX11_31 rfl dX11_firstBlocker_1 ?_
  refine g_get (pc := 4) (v := .ref (g_ad G 66)) C hM (by decide) ce_65 fl_RX11_202 rfl dX11_firstBlocker_4 ?_
  refine lv_iload_n (pc := 7) hx hb dX11_firstBlocker_7 rfl (lv_at hl 1 rfl) ?_
  obtain ⟨hc, h⟩ := h
  refine g_ialdK (pc := 8) C hM (by decide) ce_66 hc rfl dX11_firstBlocker_8 ?_
  refine lv_istore_n (pc := 9) (lv' := [(2, .int (σ 66 (ix a1))), (0, .ref (g_ad G 60)), (1, .int a1)]) hx hb dX11_firstBlocker_9 rfl hl (by decide) rfl (fun ls hl => ?_)
  refine lv_iconst (pc := 10) (v := 0) hx hb dX11_firstBlocker_10 (by decide) ?_
  refine lv_istore_n (pc := 11) (lv' := [(3, .int 0), (2, .int (σ 66 (ix a1))), (0, .ref (g_ad G 60)), (1, .int a1)]) hx hb dX11_firstBlocker_11 rfl hl (by decide) rfl (fun ls hl => ?_)
  exact h _ _ _ hM (lv_sub hl [2, 3, 1, 0] rfl)
abbrev rm_X11_blocker : Room := { frames := 68, cells := 3, slots := 18, locals := 2695 }
theorem dX11_blocker_0 : decode cX11_blocker 0 = .ok (.aload_n 0, 1) := by decide +kernel
theorem dX11_blocker_1 : decode cX11_blocker 1 = .ok (.iload_n 1, 1) := by decide +kernel
theorem dX11_blocker_2 : decode cX11_blocker 2 = .ok (.invokevirtual 124, 3) := by decide +kernel
theorem dX11_blocker_5 : decode cX11_blocker 5 = .ok (.aload_n 0, 1) := by decide +kernel
theorem dX11_blocker_6 : decode cX11_blocker 6 = .ok (.getfield 31, 3) := by decide +kernel
theorem dX11_blocker_9 : decode cX11_blocker 9 = .ok (.invokevirtual 199, 3) := by decide +kernel
theorem dX11_blocker_12 : decode cX11_blocker 12 = .ok (.aload_n 0, 1) := by decide +kernel
theorem dX11_blocker_13 : decode cX11_blocker 13 = .ok (.getfield 40, 3) := by decide +kernel
theorem dX11_blocker_16 : decode cX11_blocker 16 = .ok (.aload_n 0, 1) := by decide +kernel
theorem dX11_blocker_17 : decode cX11_blocker 17 = .ok (.getfield 31, 3) := by decide +kernel
theorem dX11_blocker_20 : decode cX11_blocker 20 = .ok (.getfield 202, 3) := by decide +kernel
theorem dX11_blocker_23 : decode cX11_blocker 23 = .ok (.iload_n 1, 1) := by decide +kernel
theorem dX11_blocker_24 : decode cX11_blocker 24 = .ok (.iaload, 1) := by decide +kernel
theorem dX11_blocker_25 : decode cX11_blocker 25 = .ok (.invokevirtual 262, 3) := by decide +kernel
theorem dX11_blocker_28 : decode cX11_blocker 28 = .ok (.ifCond .ne 7, 3) := by decide +kernel
theorem dX11_blocker_31 : decode cX11_blocker 31 = .ok (.iconst 1, 1) := by decide +kernel
theorem dX11_blocker_32 : decode cX11_blocker 32 = .ok (.goto 4, 3) := by decide +kernel
theorem dX11_blocker_35 : decode cX11_blocker 35 = .ok (.iconst 0, 1) := by decide +kernel
theorem dX11_blocker_36 : decode cX11_blocker 36 = .ok (.invokestatic 114, 3) := by decide +kernel
theorem dX11_blocker_39 : decode cX11_blocker 39 = .ok (.aload_n 0, 1) := by decide +kernel
theorem dX11_blocker_40 : decode cX11_blocker 40 = .ok (.iload_n 1, 1) := by decide +kernel
theorem dX11_blocker_41 : decode cX11_blocker 41 = .ok (.invokevirtual 269, 3) := by decide +kernel
theorem dX11_blocker_44 : decode cX11_blocker 44 = .ok (.istore_n 2, 1) := by decide +kernel
theorem dX11_blocker_45 : decode cX11_blocker 45 = .ok (.iload_n 2, 1) := by decide +kernel
theorem dX11_blocker_46 : decode cX11_blocker 46 = .ok (.ifCond .lt 7, 3) := by decide +kernel
theorem dX11_blocker_49 : decode cX11_blocker 49 = .ok (.iconst 1, 1) := by decide +kernel
theorem dX11_blocker_50 : decode cX11_blocker 50 = .ok (.goto 4, 3) := by decide +kernel
theorem dX11_blocker_53 : decode cX11_blocker 53 = .ok (.iconst 0, 1) := by decide +kernel
theorem dX11_blocker_54 : decode cX11_blocker 54 = .ok (.invokestatic 172, 3) := by decide +kernel
theorem dX11_blocker_57 : decode cX11_blocker 57 = .ok (.iload_n 2, 1) := by decide +kernel
theorem dX11_blocker_58 : decode cX11_blocker 58 = .ok (.ireturn, 1) := by decide +kernel
set_option maxHeartbeats 4000000 in
set_option maxRecDepth 100000 in
theorem w_X11_blocker (l : Launch) (hl0 : l.stackTraces = false) (G : GP) (x : XP) (a1 : Int32) (σ : Sto) (P : Int32 → Sto → Prop) (PX : String → Sto → Prop) (h : D_X11_blocker a1 σ P PX) : g_Mxi l yX11_blocker cX11_blocker 3 (some .int) rm_X11_blocker G x [.ref (g_ad G 60), .int a1] σ P PX := by
  unfold D_X11_blocker at h
  refine g_ofXi hl0 (by decide +kernel) (Nat.le_of_ble_eq_true rfl) (Or.inl (by decide)) ?_
  intro p e s m args below meth c Q ls C hM hl hret hprop hthrow
  have hx := C.1
  have hb := C.2.1
  have hl : lv_has ls 3 [(0, .ref (g_ad G 60)), (1, .int a1)] := hl
  have h := h (fun (t0 : Int32) (σ : Sto) => ∀ (H : Heap) (locs : List Loc) (ls : Array Slot), g_M G x σ s H locs → lv_has ls 3 [(0, .ref (g_ad G 60)), (1, .int a1)] → W p l e rm_X11_blocker s m args below meth c H locs 1 6 Q (F0 m 36 ls [.int t0]))
  have h := h (by
    intro t0 σ h  H locs ls hM hl
    refine g_cxSv (pc := 36) C hM hl.1 ys_X11_requireState q2_236 (w_X11_requireState l hl0 G x t0 σ _ PX h) rfl rfl ⟨⟨by decide, by decide⟩, by decide, by decide⟩ (Nat.le_of_ble_eq_true rfl) dX11_blocker_36 hprop (fun s36 H locs h hM => ?_)
    refine lv_aload_n (pc := 39) hx hb dX11_blocker_39 rfl (lv_at hl 0 rfl) ?_
    refine lv_iload_n (pc := 40) hx hb dX11_blocker_40 rfl (lv_at hl 1 rfl) ?_
    refine g_cVi (pc := 41) C hM hl.1 yv_X11_firstBlocker q5_50 (by decide) ce_60 rfl (w_X11_firstBlocker l G x a1 s36 _ h) rfl rfl ⟨⟨by decide, by decide⟩, by decide, by decide⟩ (Nat.le_of_ble_eq_true rfl) dX11_blocker_41 (fun r41 s41 H locs h hM => ?_)
    refine lv_istore_n (pc := 44) (lv' := [(2, .int r41), (0, .ref (g_ad G 60)), (1, .int a1)]) hx hb dX11_blocker_44 rfl hl (by decide) rfl (fun ls hl => ?_)
    refine lv_iload_n (pc := 45) hx hb dX11_blocker_45 rfl (lv_at hl 0 rfl) ?_
    refine lv_if_lt (pc := 46) (tgt := 53) hx hb dX11_blocker_46 (by decide) (fun c46 => ?_) (fun c46 => ?_)
    · have h := h.1 c46
      refine lv_iconst (pc := 53) (v := 0) hx hb dX11_blocker_53 (by decide) ?_
      refine g_cxSv (pc := 54) C hM hl.1 ys_X11_requireElement q3_161 (w_X11_requireElement l hl0 G x 0 s41 _ PX h) rfl rfl ⟨⟨by decide, by decide⟩, by decide, by decide⟩ (Nat.le_of_ble_eq_true rfl) dX11_blocker_54 hprop (fun s54 H locs h hM => ?_)
      refine lv_iload_n (pc := 57) hx hb dX11_blocker_57 rfl (lv_at hl 0 rfl) ?_
      refine W.widen (k := 3) (n := 18) (by decide) (by decide) ?_
      exact hret 58 _ _ _ _ _ dX11_blocker_58 (by rfl) h hM
    · have h := h.2 c46
      refine lv_iconst (pc := 49) (v := 1) hx hb dX11_blocker_49 (by decide) ?_
      refine lv_goto (pc := 50) (tgt := 54) hx hb dX11_blocker_50 (by decide) ?_
      refine g_cxSv (pc := 54) C hM hl.1 ys_X11_requireElement q3_161 (w_X11_requireElement l hl0 G x 1 s41 _ PX h) rfl rfl ⟨⟨by decide, by decide⟩, by decide, by decide⟩ (Nat.le_of_ble_eq_true rfl) dX11_blocker_54 hprop (fun s54 H locs h hM => ?_)
      refine lv_iload_n (pc := 57) hx hb dX11_blocker_57 rfl (lv_at hl 0 rfl) ?_
      refine W.widen (k := 3) (n := 18) (by decide) (by decide) ?_
      exact hret 58 _ _ _ _ _ dX11_blocker_58 (by rfl) h hM)
  refine lv_aload_n (pc := 0) hx hb dX11_blocker_0 rfl (lv_at hl 0 rfl) ?_
  refine lv_iload_n (pc := 1) hx hb dX11_blocker_1 rfl (lv_at hl 1 rfl) ?_
  refine g_cxVv (pc := 2) C hM hl.1 yv_X11_requireRule q3_34 (by decide) ce_60 rfl (w_X11_requireRule l hl0 G x a1 σ _ PX h) rfl rfl ⟨⟨by decide, by decide⟩, by decide, by decide⟩ (Nat.le_of_ble_eq_true rfl) dX11_blocker_2 hprop (fun s2 H locs h hM => ?_)
  refine lv_aload_n (pc := 5) hx hb dX11_blocker_5 rfl (lv_at hl 0 rfl) ?_
  refine g_get (pc := 6) (v := .ref (g_ad G 65)) C hM (by decide) ce_60 fl_RX11_31 rfl dX11_blocker_6 ?_
  refine g_cVv (pc := 9) C hM hl.1 yv_X5_refresh q4_36 (by decide) ce_65 rfl (w_X5_refresh l G x  s2 _ h) rfl rfl ⟨⟨by decide, by decide⟩, by decide, by decide⟩ (Nat.le_of_ble_eq_true rfl) dX11_blocker_9 (fun s9 H locs h hM => ?_)
  refine lv_aload_n (pc := 12) hx hb dX11_blocker_12 rfl (lv_at hl 0 rfl) ?_
  refine g_get (pc := 13) (v := .ref (g_ad G 70)) C hM (by decide) ce_60 fl_RX11_40 rfl dX11_blocker_13 ?_
  refine lv_aload_n (pc := 16) hx hb dX11_blocker_16 rfl (lv_at hl 0 rfl) ?_
  refine g_get (pc := 17) (v := .ref (g_ad G 65)) C hM (by decide) ce_60 fl_RX11_31 rfl dX11_blocker_17 ?_
  refine g_get (pc := 20) (v := .ref (g_ad G 66)) C hM (by decide) ce_65 fl_RX11_202 rfl dX11_blocker_20 ?_
  refine lv_iload_n (pc := 23) hx hb dX11_blocker_23 rfl (lv_at hl 1 rfl) ?_
  obtain ⟨hc, h⟩ := h
  refine g_ialdK (pc := 24) C hM (by decide) ce_66 hc rfl dX11_blocker_24 ?_
  refine g_cVi (pc := 25) C hM hl.1 yv_X7_canDecide q4_236 (by decide) ce_70 rfl (w_X7_canDecide l G x (s9 66 (ix a1)) s9 _ h) rfl rfl ⟨⟨by decide, by decide⟩, by decide, by decide⟩ (Nat.le_of_ble_eq_true rfl) dX11_blocker_25 (fun r25 s25 H locs h hM => ?_)
  refine lv_if_ne (pc := 28) (tgt := 35) hx hb dX11_blocker_28 (by decide) (fun c28 => ?_) (fun c28 => ?_)
  · have h := h.2 c28
    refine lv_iconst (pc := 35) (v := 0) hx hb dX11_blocker_35 (by decide) ?_
    refine W.widen (k := 1) (n := 6) (by decide) (by decide) ?_
    exact h _ _ _ hM (lv_sub hl [0, 1] rfl)
  · have h := h.1 c28
    refine lv_iconst (pc := 31) (v := 1) hx hb dX11_blocker_31 (by decide) ?_
    refine lv_goto (pc := 32) (tgt := 36) hx hb dX11_blocker_32 (by decide) ?_
    refine W.widen (k := 1) (n := 6) (by decide) (by decide) ?_
    exact h _ _ _ hM (lv_sub hl [0, 1] rfl)
abbrev rm_X11_auditCount : Room := { frames := 0, cells := 0, slots := 0, locals := 0 }
theorem dX11_auditCount_0 : decode cX11_auditCount 0 = .ok (.aload_n 0, 1) := by decide +kernel
theorem dX11_auditCount_1 : decode cX11_auditCount 1 = .ok (.getfield 67, 3) := by decide +kernel
theorem dX11_auditCount_4 : decode cX11_auditCount 4 = .ok (.getfield 272, 3) := by decide +kernel
theorem dX11_auditCount_7 : decode cX11_auditCount 7 = .ok (.ireturn, 1) := by decide +kernel
set_option maxHeartbeats 4000000 in
set_option maxRecDepth 100000 in
theorem w_X11_auditCount (l : Launch) (G : GP) (x : XP) (σ : Sto) (P : Int32 → Sto → Prop) (h : D_X11_auditCount  σ P) : g_Meti l yX11_auditCount cX11_auditCount 1 (some .int) rm_X11_auditCount G x [.ref (g_ad G 60)] σ P := by
  unfold D_X11_auditCount at h
  refine g_ofWi (by decide +kernel) (Nat.le_of_ble_eq_true rfl) ?_
  intro p e s m args below meth c Q ls C hM hl hret
  have hx := C.1
  have hb := C.2.1
  have hl : lv_has ls 1 [(0, .ref (g_ad G 60))] := hl
  refine lv_aload_n (pc := 0) hx hb dX11_auditCount_0 rfl (lv_at hl 0 rfl) ?_
  refine g_get (pc := 1) (v := .ref (g_ad G 79)) C hM (by decide) ce_60 fl_RX11_67 rfl dX11_auditCount_1 ?_
  refine g_get (pc := 4) (v := .int (σ 79 1)) C hM (by decide) ce_79 fl_RX11_272 rfl dX11_auditCount_4 ?_
  exact hret 7 _ _ _ _ _ dX11_auditCount_7 (by rfl) h hM
abbrev rm_X11_audit : Room := { frames := 7, cells := 2, slots := 12, locals := 121 }
theorem dX11_audit_0 : decode cX11_audit 0 = .ok (.iload_n 1, 1) := by decide +kernel
theorem dX11_audit_1 : decode cX11_audit 1 = .ok (.aload_n 0, 1) := by decide +kernel
theorem dX11_audit_2 : decode cX11_audit 2 = .ok (.getfield 67, 3) := by decide +kernel
theorem dX11_audit_5 : decode cX11_audit 5 = .ok (.getfield 272, 3) := by decide +kernel
theorem dX11_audit_8 : decode cX11_audit 8 = .ok (.invokestatic 92, 3) := by decide +kernel
theorem dX11_audit_11 : decode cX11_audit 11 = .ok (.iload_n 2, 1) := by decide +kernel
theorem dX11_audit_12 : decode cX11_audit 12 = .ok (.iconst 0, 1) := by decide +kernel
theorem dX11_audit_13 : decode cX11_audit 13 = .ok (.iconst 3, 1) := by decide +kernel
theorem dX11_audit_14 : decode cX11_audit 14 = .ok (.invokestatic 96, 3) := by decide +kernel
theorem dX11_audit_17 : decode cX11_audit 17 = .ok (.invokestatic 100, 3) := by decide +kernel
theorem dX11_audit_20 : decode cX11_audit 20 = .ok (.aload_n 0, 1) := by decide +kernel
theorem dX11_audit_21 : decode cX11_audit 21 = .ok (.getfield 67, 3) := by decide +kernel
theorem dX11_audit_24 : decode cX11_audit 24 = .ok (.iload_n 1, 1) := by decide +kernel
theorem dX11_audit_25 : decode cX11_audit 25 = .ok (.iload_n 2, 1) := by decide +kernel
theorem dX11_audit_26 : decode cX11_audit 26 = .ok (.invokevirtual 273, 3) := by decide +kernel
theorem dX11_audit_29 : decode cX11_audit 29 = .ok (.ireturn, 1) := by decide +kernel
set_option maxHeartbeats 4000000 in
set_option maxRecDepth 100000 in
theorem w_X11_audit (l : Launch) (hl0 : l.stackTraces = false) (G : GP) (x : XP) (a1 : Int32) (a2 : Int32) (σ : Sto) (P : Int32 → Sto → Prop) (PX : String → Sto → Prop) (h : D_X11_audit a1 a2 σ P PX) : g_Mxi l yX11_audit cX11_audit 3 (some .int) rm_X11_audit G x [.ref (g_ad G 60), .int a1, .int a2] σ P PX := by
  unfold D_X11_audit at h
  refine g_ofXi hl0 (by decide +kernel) (Nat.le_of_ble_eq_true rfl) (Or.inl (by decide)) ?_
  intro p e s m args below meth c Q ls C hM hl hret hprop hthrow
  have hx := C.1
  have hb := C.2.1
  have hl : lv_has ls 3 [(0, .ref (g_ad G 60)), (1, .int a1), (2, .int a2)] := hl
  refine lv_iload_n (pc := 0) hx hb dX11_audit_0 rfl (lv_at hl 1 rfl) ?_
  refine lv_aload_n (pc := 1) hx hb dX11_audit_1 rfl (lv_at hl 0 rfl) ?_
  refine g_get (pc := 2) (v := .ref (g_ad G 79)) C hM (by decide) ce_60 fl_RX11_67 rfl dX11_audit_2 ?_
  refine g_get (pc := 5) (v := .int (σ 79 1)) C hM (by decide) ce_79 fl_RX11_272 rfl dX11_audit_5 ?_
  refine g_cxSv (pc := 8) C hM hl.1 ys_X11_requireIndex q2_191 (w_X11_requireIndex l hl0 G x a1 (σ 79 1) σ _ PX h) rfl rfl ⟨⟨by decide, by decide⟩, by decide, by decide⟩ (Nat.le_of_ble_eq_true rfl) dX11_audit_8 hprop (fun s8 H locs h hM => ?_)
  refine lv_iload_n (pc := 11) hx hb dX11_audit_11 rfl (lv_at hl 2 rfl) ?_
  refine lv_iconst (pc := 12) (v := 0) hx hb dX11_audit_12 (by decide) ?_
  refine lv_iconst (pc := 13) (v := 3) hx hb dX11_audit_13 (by decide) ?_
  refine g_cSi (pc := 14) C hM hl.1 ys_X11_isWithin q2_215 (w_X11_isWithin l G x a2 0 3 s8 _ h) rfl rfl ⟨⟨by decide, by decide⟩, by decide, by decide⟩ (Nat.le_of_ble_eq_true rfl) dX11_audit_14 (fun r14 s14 H locs h hM => ?_)
  refine g_cxSv (pc := 17) C hM hl.1 ys_X11_requireArgument q2_218 (w_X11_requireArgument l hl0 G x r14 s14 _ PX h) rfl rfl ⟨⟨by decide, by decide⟩, by decide, by decide⟩ (Nat.le_of_ble_eq_true rfl) dX11_audit_17 hprop (fun s17 H locs h hM => ?_)
  refine lv_aload_n (pc := 20) hx hb dX11_audit_20 rfl (lv_at hl 0 rfl) ?_
  refine g_get (pc := 21) (v := .ref (g_ad G 79)) C hM (by decide) ce_60 fl_RX11_67 rfl dX11_audit_21 ?_
  refine lv_iload_n (pc := 24) hx hb dX11_audit_24 rfl (lv_at hl 1 rfl) ?_
  refine lv_iload_n (pc := 25) hx hb dX11_audit_25 rfl (lv_at hl 2 rfl) ?_
  refine g_cVi (pc := 26) C hM hl.1 yv_X0_cell q5_65 (by decide) ce_79 rfl (w_X0_cell l G x a1 a2 s17 _ h) rfl rfl ⟨⟨by decide, by decide⟩, by decide, by decide⟩ (Nat.le_of_ble_eq_true rfl) dX11_audit_26 (fun r26 s26 H locs h hM => ?_)
  refine W.widen (k := 2) (n := 12) (by decide) (by decide) ?_
  exact hret 29 _ _ _ _ _ dX11_audit_29 (by rfl) h hM
abbrev rm_X11_permitShare : Room := { frames := 6, cells := 1, slots := 6, locals := 100 }
theorem dX11_permitShare_0 : decode cX11_permitShare 0 = .ok (.aload_n 0, 1) := by decide +kernel
theorem dX11_permitShare_1 : decode cX11_permitShare 1 = .ok (.getfield 67, 3) := by decide +kernel
theorem dX11_permitShare_4 : decode cX11_permitShare 4 = .ok (.getfield 272, 3) := by decide +kernel
theorem dX11_permitShare_7 : decode cX11_permitShare 7 = .ok (.istore_n 1, 1) := by decide +kernel
theorem dX11_permitShare_8 : decode cX11_permitShare 8 = .ok (.iload_n 1, 1) := by decide +kernel
theorem dX11_permitShare_9 : decode cX11_permitShare 9 = .ok (.ifCond .ne 11, 3) := by decide +kernel
theorem dX11_permitShare_12 : decode cX11_permitShare 12 = .ok (.new 274, 3) := by decide +kernel
theorem dX11_permitShare_15 : decode cX11_permitShare 15 = .ok (.dup, 1) := by decide +kernel
theorem dX11_permitShare_16 : decode cX11_permitShare 16 = .ok (.invokespecial 276, 3) := by decide +kernel
theorem dX11_permitShare_19 : decode cX11_permitShare 19 = .ok (.athrow, 1) := by decide +kernel
theorem dX11_permitShare_20 : decode cX11_permitShare 20 = .ok (.aload_n 0, 1) := by decide +kernel
theorem dX11_permitShare_21 : decode cX11_permitShare 21 = .ok (.getfield 67, 3) := by decide +kernel
theorem dX11_permitShare_24 : decode cX11_permitShare 24 = .ok (.invokevirtual 277, 3) := by decide +kernel
theorem dX11_permitShare_27 : decode cX11_permitShare 27 = .ok (.i2d, 1) := by decide +kernel
theorem dX11_permitShare_28 : decode cX11_permitShare 28 = .ok (.iload_n 1, 1) := by decide +kernel
theorem dX11_permitShare_29 : decode cX11_permitShare 29 = .ok (.i2d, 1) := by decide +kernel
theorem dX11_permitShare_30 : decode cX11_permitShare 30 = .ok (.ddiv, 1) := by decide +kernel
theorem dX11_permitShare_31 : decode cX11_permitShare 31 = .ok (.dreturn, 1) := by decide +kernel
theorem th_X11_permitShare_12 : g_Th cX11_permitShare RX11 12 "java/lang/ArithmeticException" 274 276 := ⟨["java/lang/RuntimeException", "java/lang/Exception"], rfl, by decide +kernel, by decide +kernel, q5_90, q1_26, by decide +kernel, by decide +kernel, dX11_permitShare_12, dX11_permitShare_15, dX11_permitShare_16, dX11_permitShare_19⟩
set_option maxHeartbeats 4000000 in
set_option maxRecDepth 100000 in
theorem w_X11_permitShare (l : Launch) (hl0 : l.stackTraces = false) (G : GP) (x : XP) (σ : Sto) (P : UInt64 → Sto → Prop) (PX : String → Sto → Prop) (h : D_X11_permitShare  σ P PX) : g_Mxd l yX11_permitShare cX11_permitShare 2 rm_X11_permitShare G x [.ref (g_ad G 60)] σ P PX := by
  unfold D_X11_permitShare at h
  refine g_ofXd hl0 (by decide +kernel) (Nat.le_of_ble_eq_true rfl) (Or.inl (by decide)) ?_
  intro p e s m args below meth c Q ls C hM hl hret hprop hthrow
  have hx := C.1
  have hb := C.2.1
  have hl : lv_has ls 2 [(0, .ref (g_ad G 60))] := hl
  refine lv_aload_n (pc := 0) hx hb dX11_permitShare_0 rfl (lv_at hl 0 rfl) ?_
  refine g_get (pc := 1) (v := .ref (g_ad G 79)) C hM (by decide) ce_60 fl_RX11_67 rfl dX11_permitShare_1 ?_
  refine g_get (pc := 4) (v := .int (σ 79 1)) C hM (by decide) ce_79 fl_RX11_272 rfl dX11_permitShare_4 ?_
  refine lv_istore_n (pc := 7) (lv' := [(1, .int (σ 79 1)), (0, .ref (g_ad G 60))]) hx hb dX11_permitShare_7 rfl hl (by decide) rfl (fun ls hl => ?_)
  refine lv_iload_n (pc := 8) hx hb dX11_permitShare_8 rfl (lv_at hl 0 rfl) ?_
  refine lv_if_ne (pc := 9) (tgt := 20) hx hb dX11_permitShare_9 (by decide) (fun c9 => ?_) (fun c9 => ?_)
  · have h := h.2 c9
    refine lv_aload_n (pc := 20) hx hb dX11_permitShare_20 rfl (lv_at hl 1 rfl) ?_
    refine g_get (pc := 21) (v := .ref (g_ad G 79)) C hM (by decide) ce_60 fl_RX11_67 rfl dX11_permitShare_21 ?_
    refine g_cVi (pc := 24) C hM hl.1 yv_X0_permits q5_95 (by decide) ce_79 rfl (w_X0_permits l G x  σ _ h) rfl rfl ⟨⟨by decide, by decide⟩, by decide, by decide⟩ (Nat.le_of_ble_eq_true rfl) dX11_permitShare_24 (fun r24 s24 H locs h hM => ?_)
    refine lv_i2d (pc := 27) hx hb dX11_permitShare_27 ?_
    refine lv_iload_n (pc := 28) hx hb dX11_permitShare_28 rfl (lv_at hl 0 rfl) ?_
    refine lv_i2d (pc := 29) hx hb dX11_permitShare_29 ?_
    obtain ⟨hc, h⟩ := h
    refine lv_ddiv (pc := 30) hx hb dX11_permitShare_30 hc ?_
    refine W.widen (k := 1) (n := 6) (by decide) (by decide) ?_
    exact hret 31 _ _ _ _ _ dX11_permitShare_31 h hM
  · have h := h.1 c9
    exact hthrow th_X11_permitShare_12 h hM hl.1 (Nat.le_of_ble_eq_true rfl) ⟨by decide, by decide⟩
abbrev rm_X11_clearAudit : Room := { frames := 0, cells := 0, slots := 0, locals := 0 }
theorem dX11_clearAudit_0 : decode cX11_clearAudit 0 = .ok (.aload_n 0, 1) := by decide +kernel
theorem dX11_clearAudit_1 : decode cX11_clearAudit 1 = .ok (.getfield 67, 3) := by decide +kernel
theorem dX11_clearAudit_4 : decode cX11_clearAudit 4 = .ok (.getfield 272, 3) := by decide +kernel
theorem dX11_clearAudit_7 : decode cX11_clearAudit 7 = .ok (.istore_n 1, 1) := by decide +kernel
theorem dX11_clearAudit_8 : decode cX11_clearAudit 8 = .ok (.aload_n 0, 1) := by decide +kernel
theorem dX11_clearAudit_9 : decode cX11_clearAudit 9 = .ok (.getfield 67, 3) := by decide +kernel
theorem dX11_clearAudit_12 : decode cX11_clearAudit 12 = .ok (.iconst 0, 1) := by decide +kernel
theorem dX11_clearAudit_13 : decode cX11_clearAudit 13 = .ok (.putfield 272, 3) := by decide +kernel
theorem dX11_clearAudit_16 : decode cX11_clearAudit 16 = .ok (.iload_n 1, 1) := by decide +kernel
theorem dX11_clearAudit_17 : decode cX11_clearAudit 17 = .ok (.ireturn, 1) := by decide +kernel
set_option maxHeartbeats 4000000 in
set_option maxRecDepth 100000 in
theorem w_X11_clearAudit (l : Launch) (G : GP) (x : XP) (σ : Sto) (P : Int32 → Sto → Prop) (h : D_X11_clearAudit  σ P) : g_Meti l yX11_clearAudit cX11_clearAudit 2 (some .int) rm_X11_clearAudit G x [.ref (g_ad G 60)] σ P := by
  unfold D_X11_clearAudit at h
  refine g_ofWi (by decide +kernel) (Nat.le_of_ble_eq_true rfl) ?_
  intro p e s m args below meth c Q ls C hM hl hret
  have hx := C.1
  have hb := C.2.1
  have hl : lv_has ls 2 [(0, .ref (g_ad G 60))] := hl
  refine lv_aload_n (pc := 0) hx hb dX11_clearAudit_0 rfl (lv_at hl 0 rfl) ?_
  refine g_get (pc := 1) (v := .ref (g_ad G 79)) C hM (by decide) ce_60 fl_RX11_67 rfl dX11_clearAudit_1 ?_
  refine g_get (pc := 4) (v := .int (σ 79 1)) C hM (by decide) ce_79 fl_RX11_272 rfl dX11_clearAudit_4 ?_
  refine lv_istore_n (pc := 7) (lv' := [(1, .int (σ 79 1)), (0, .ref (g_ad G 60))]) hx hb dX11_clearAudit_7 rfl hl (by decide) rfl (fun ls hl => ?_)
  refine lv_aload_n (pc := 8) hx hb dX11_clearAudit_8 rfl (lv_at hl 1 rfl) ?_
  refine g_get (pc := 9) (v := .ref (g_ad G 79)) C hM (by decide) ce_60 fl_RX11_67 rfl dX11_clearAudit_9 ?_
  refine lv_iconst (pc := 12) (v := 0) hx hb dX11_clearAudit_12 (by decide) ?_
  refine g_putE (pc := 13) C hM (by decide) ce_79 fp_RX11_272 rfl rfl (Nat.le_of_ble_eq_true rfl) rfl dX11_clearAudit_13 (fun s13 es13 H locs hM => ?_)
  have h := h s13 es13
  refine lv_iload_n (pc := 16) hx hb dX11_clearAudit_16 rfl (lv_at hl 0 rfl) ?_
  exact hret 17 _ _ _ _ _ dX11_clearAudit_17 (by rfl) h hM
abbrev rm_X11_append : Room := { frames := 7, cells := 2, slots := 12, locals := 120 }
theorem dX11_append_0 : decode cX11_append 0 = .ok (.iload_n 1, 1) := by decide +kernel
theorem dX11_append_1 : decode cX11_append 1 = .ok (.bipush 32, 2) := by decide +kernel
theorem dX11_append_3 : decode cX11_append 3 = .ok (.bipush 126, 2) := by decide +kernel
theorem dX11_append_5 : decode cX11_append 5 = .ok (.invokestatic 96, 3) := by decide +kernel
theorem dX11_append_8 : decode cX11_append 8 = .ok (.invokestatic 100, 3) := by decide +kernel
theorem dX11_append_11 : decode cX11_append 11 = .ok (.aload_n 0, 1) := by decide +kernel
theorem dX11_append_12 : decode cX11_append 12 = .ok (.getfield 74, 3) := by decide +kernel
theorem dX11_append_15 : decode cX11_append 15 = .ok (.getfield 280, 3) := by decide +kernel
theorem dX11_append_18 : decode cX11_append 18 = .ok (.bipush 70, 2) := by decide +kernel
theorem dX11_append_20 : decode cX11_append 20 = .ok (.if_icmp .ge 7, 3) := by decide +kernel
theorem dX11_append_23 : decode cX11_append 23 = .ok (.iconst 1, 1) := by decide +kernel
theorem dX11_append_24 : decode cX11_append 24 = .ok (.goto 4, 3) := by decide +kernel
theorem dX11_append_27 : decode cX11_append 27 = .ok (.iconst 0, 1) := by decide +kernel
theorem dX11_append_28 : decode cX11_append 28 = .ok (.invokestatic 114, 3) := by decide +kernel
theorem dX11_append_31 : decode cX11_append 31 = .ok (.aload_n 0, 1) := by decide +kernel
theorem dX11_append_32 : decode cX11_append 32 = .ok (.getfield 74, 3) := by decide +kernel
theorem dX11_append_35 : decode cX11_append 35 = .ok (.iload_n 1, 1) := by decide +kernel
theorem dX11_append_36 : decode cX11_append 36 = .ok (.invokevirtual 283, 3) := by decide +kernel
theorem dX11_append_39 : decode cX11_append 39 = .ok (.ireturn, 1) := by decide +kernel
set_option maxHeartbeats 4000000 in
set_option maxRecDepth 100000 in
theorem w_X11_append (l : Launch) (hl0 : l.stackTraces = false) (G : GP) (x : XP) (a1 : Int32) (σ : Sto) (P : Int32 → Sto → Prop) (PX : String → Sto → Prop) (h : D_X11_append a1 σ P PX) : g_Mxi l yX11_append cX11_append 2 (some .int) rm_X11_append G x [.ref (g_ad G 60), .int a1] σ P PX := by
  unfold D_X11_append at h
  refine g_ofXi hl0 (by decide +kernel) (Nat.le_of_ble_eq_true rfl) (Or.inl (by decide)) ?_
  intro p e s m args below meth c Q ls C hM hl hret hprop hthrow
  have hx := C.1
  have hb := C.2.1
  have hl : lv_has ls 2 [(0, .ref (g_ad G 60)), (1, .int a1)] := hl
  refine lv_iload_n (pc := 0) hx hb dX11_append_0 rfl (lv_at hl 1 rfl) ?_
  refine lv_bipush (pc := 1) (v := 32) hx hb dX11_append_1 (by decide) ?_
  refine lv_bipush (pc := 3) (v := 126) hx hb dX11_append_3 (by decide) ?_
  refine g_cSi (pc := 5) C hM hl.1 ys_X11_isWithin q2_215 (w_X11_isWithin l G x a1 32 126 σ _ h) rfl rfl ⟨⟨by decide, by decide⟩, by decide, by decide⟩ (Nat.le_of_ble_eq_true rfl) dX11_append_5 (fun r5 s5 H locs h hM => ?_)
  refine g_cxSv (pc := 8) C hM hl.1 ys_X11_requireArgument q2_218 (w_X11_requireArgument l hl0 G x r5 s5 _ PX h) rfl rfl ⟨⟨by decide, by decide⟩, by decide, by decide⟩ (Nat.le_of_ble_eq_true rfl) dX11_append_8 hprop (fun s8 H locs h hM => ?_)
  refine lv_aload_n (pc := 11) hx hb dX11_append_11 rfl (lv_at hl 0 rfl) ?_
  refine g_get (pc := 12) (v := .ref (g_ad G 81)) C hM (by decide) ce_60 fl_RX11_74 rfl dX11_append_12 ?_
  refine g_get (pc := 15) (v := .int (s8 81 1)) C hM (by decide) ce_81 fl_RX11_280 rfl dX11_append_15 ?_
  refine lv_bipush (pc := 18) (v := 70) hx hb dX11_append_18 (by decide) ?_
  refine lv_icmp_ge (pc := 20) (tgt := 27) hx hb dX11_append_20 (by decide) (fun c20 => ?_) (fun c20 => ?_)
  · have h := h.1 c20
    refine lv_iconst (pc := 27) (v := 0) hx hb dX11_append_27 (by decide) ?_
    refine g_cxSv (pc := 28) C hM hl.1 ys_X11_requireState q2_236 (w_X11_requireState l hl0 G x 0 s8 _ PX h) rfl rfl ⟨⟨by decide, by decide⟩, by decide, by decide⟩ (Nat.le_of_ble_eq_true rfl) dX11_append_28 hprop (fun s28 H locs h hM => ?_)
    refine lv_aload_n (pc := 31) hx hb dX11_append_31 rfl (lv_at hl 0 rfl) ?_
    refine g_get (pc := 32) (v := .ref (g_ad G 81)) C hM (by decide) ce_60 fl_RX11_74 rfl dX11_append_32 ?_
    refine lv_iload_n (pc := 35) hx hb dX11_append_35 rfl (lv_at hl 1 rfl) ?_
    refine g_cVi (pc := 36) C hM hl.1 yv_X4_add q5_107 (by decide) ce_81 rfl (w_X4_add l G x a1 s28 _ h) rfl rfl ⟨⟨by decide, by decide⟩, by decide, by decide⟩ (Nat.le_of_ble_eq_true rfl) dX11_append_36 (fun r36 s36 H locs h hM => ?_)
    refine W.widen (k := 2) (n := 12) (by decide) (by decide) ?_
    exact hret 39 _ _ _ _ _ dX11_append_39 (by rfl) h hM
  · have h := h.2 c20
    refine lv_iconst (pc := 23) (v := 1) hx hb dX11_append_23 (by decide) ?_
    refine lv_goto (pc := 24) (tgt := 28) hx hb dX11_append_24 (by decide) ?_
    refine g_cxSv (pc := 28) C hM hl.1 ys_X11_requireState q2_236 (w_X11_requireState l hl0 G x 1 s8 _ PX h) rfl rfl ⟨⟨by decide, by decide⟩, by decide, by decide⟩ (Nat.le_of_ble_eq_true rfl) dX11_append_28 hprop (fun s28 H locs h hM => ?_)
    refine lv_aload_n (pc := 31) hx hb dX11_append_31 rfl (lv_at hl 0 rfl) ?_
    refine g_get (pc := 32) (v := .ref (g_ad G 81)) C hM (by decide) ce_60 fl_RX11_74 rfl dX11_append_32 ?_
    refine lv_iload_n (pc := 35) hx hb dX11_append_35 rfl (lv_at hl 1 rfl) ?_
    refine g_cVi (pc := 36) C hM hl.1 yv_X4_add q5_107 (by decide) ce_81 rfl (w_X4_add l G x a1 s28 _ h) rfl rfl ⟨⟨by decide, by decide⟩, by decide, by decide⟩ (Nat.le_of_ble_eq_true rfl) dX11_append_36 (fun r36 s36 H locs h hM => ?_)
    refine W.widen (k := 2) (n := 12) (by decide) (by decide) ?_
    exact hret 39 _ _ _ _ _ dX11_append_39 (by rfl) h hM
abbrev rm_X11_read : Room := { frames := 7, cells := 2, slots := 12, locals := 160 }
theorem dX11_read_0 : decode cX11_read 0 = .ok (.aload_n 0, 1) := by decide +kernel
theorem dX11_read_1 : decode cX11_read 1 = .ok (.getfield 74, 3) := by decide +kernel
theorem dX11_read_4 : decode cX11_read 4 = .ok (.invokevirtual 286, 3) := by decide +kernel
theorem dX11_read_7 : decode cX11_read 7 = .ok (.istore_n 1, 1) := by decide +kernel
theorem dX11_read_8 : decode cX11_read 8 = .ok (.iload_n 1, 1) := by decide +kernel
theorem dX11_read_9 : decode cX11_read 9 = .ok (.invokestatic 100, 3) := by decide +kernel
theorem dX11_read_12 : decode cX11_read 12 = .ok (.aload_n 0, 1) := by decide +kernel
theorem dX11_read_13 : decode cX11_read 13 = .ok (.getfield 74, 3) := by decide +kernel
theorem dX11_read_16 : decode cX11_read 16 = .ok (.getfield 290, 3) := by decide +kernel
theorem dX11_read_19 : decode cX11_read 19 = .ok (.astore_n 2, 1) := by decide +kernel
theorem dX11_read_20 : decode cX11_read 20 = .ok (.aload_n 0, 1) := by decide +kernel
theorem dX11_read_21 : decode cX11_read 21 = .ok (.getfield 12, 3) := by decide +kernel
theorem dX11_read_24 : decode cX11_read 24 = .ok (.getfield 104, 3) := by decide +kernel
theorem dX11_read_27 : decode cX11_read 27 = .ok (.getfield 108, 3) := by decide +kernel
theorem dX11_read_30 : decode cX11_read 30 = .ok (.aload_n 2, 1) := by decide +kernel
theorem dX11_read_31 : decode cX11_read 31 = .ok (.getfield 108, 3) := by decide +kernel
theorem dX11_read_34 : decode cX11_read 34 = .ok (.iadd, 1) := by decide +kernel
theorem dX11_read_35 : decode cX11_read 35 = .ok (.bipush 24, 2) := by decide +kernel
theorem dX11_read_37 : decode cX11_read 37 = .ok (.if_icmp .gt 7, 3) := by decide +kernel
theorem dX11_read_40 : decode cX11_read 40 = .ok (.iconst 1, 1) := by decide +kernel
theorem dX11_read_41 : decode cX11_read 41 = .ok (.goto 4, 3) := by decide +kernel
theorem dX11_read_44 : decode cX11_read 44 = .ok (.iconst 0, 1) := by decide +kernel
theorem dX11_read_45 : decode cX11_read 45 = .ok (.invokestatic 114, 3) := by decide +kernel
theorem dX11_read_48 : decode cX11_read 48 = .ok (.aload_n 0, 1) := by decide +kernel
theorem dX11_read_49 : decode cX11_read 49 = .ok (.getfield 22, 3) := by decide +kernel
theorem dX11_read_52 : decode cX11_read 52 = .ok (.aload_n 0, 1) := by decide +kernel
theorem dX11_read_53 : decode cX11_read 53 = .ok (.getfield 12, 3) := by decide +kernel
theorem dX11_read_56 : decode cX11_read 56 = .ok (.invokevirtual 117, 3) := by decide +kernel
theorem dX11_read_59 : decode cX11_read 59 = .ok (.aload_n 0, 1) := by decide +kernel
theorem dX11_read_60 : decode cX11_read 60 = .ok (.getfield 12, 3) := by decide +kernel
theorem dX11_read_63 : decode cX11_read 63 = .ok (.getfield 104, 3) := by decide +kernel
theorem dX11_read_66 : decode cX11_read 66 = .ok (.aload_n 2, 1) := by decide +kernel
theorem dX11_read_67 : decode cX11_read 67 = .ok (.invokevirtual 293, 3) := by decide +kernel
theorem dX11_read_70 : decode cX11_read 70 = .ok (.aload_n 2, 1) := by decide +kernel
theorem dX11_read_71 : decode cX11_read 71 = .ok (.getfield 108, 3) := by decide +kernel
theorem dX11_read_74 : decode cX11_read 74 = .ok (.ireturn, 1) := by decide +kernel
set_option maxHeartbeats 4000000 in
set_option maxRecDepth 100000 in
theorem w_X11_read (l : Launch) (hl0 : l.stackTraces = false) (G : GP) (x : XP) (σ : Sto) (P : Int32 → Sto → Prop) (PX : String → Sto → Prop) (h : D_X11_read  σ P PX) : g_Mxi l yX11_read cX11_read 3 (some .int) rm_X11_read G x [.ref (g_ad G 60)] σ P PX := by
  unfold D_X11_read at h
  refine g_ofXi hl0 (by decide +kernel) (Nat.le_of_ble_eq_true rfl) (Or.inl (by decide)) ?_
  intro p e s m args below meth c Q ls C hM hl hret hprop hthrow
  have hx := C.1
  have hb := C.2.1
  have hl : lv_has ls 3 [(0, .ref (g_ad G 60))] := hl
  refine lv_aload_n (pc := 0) hx hb dX11_read_0 rfl (lv_at hl 0 rfl) ?_
  refine g_get (pc := 1) (v := .ref (g_ad G 81)) C hM (by decide) ce_60 fl_RX11_74 rfl dX11_read_1 ?_
  refine g_cVi (pc := 4) C hM hl.1 yv_X4_take q5_118 (by decide) ce_81 rfl (w_X4_take l G x  σ _ h) rfl rfl ⟨⟨by decide, by decide⟩, by decide, by decide⟩ (Nat.le_of_ble_eq_true rfl) dX11_read_4 (fun r4 s4 H locs h hM => ?_)
  refine lv_istore_n (pc := 7) (lv' := [(1, .int r4), (0, .ref (g_ad G 60))]) hx hb dX11_read_7 rfl hl (by decide) rfl (fun ls hl => ?_)
  refine lv_iload_n (pc := 8) hx hb dX11_read_8 rfl (lv_at hl 0 rfl) ?_
  refine g_cxSv (pc := 9) C hM hl.1 ys_X11_requireArgument q2_218 (w_X11_requireArgument l hl0 G x r4 s4 _ PX h) rfl rfl ⟨⟨by decide, by decide⟩, by decide, by decide⟩ (Nat.le_of_ble_eq_true rfl) dX11_read_9 hprop (fun s9 H locs h hM => ?_)
  refine lv_aload_n (pc := 12) hx hb dX11_read_12 rfl (lv_at hl 1 rfl) ?_
  refine g_get (pc := 13) (v := .ref (g_ad G 81)) C hM (by decide) ce_60 fl_RX11_74 rfl dX11_read_13 ?_
  refine g_get (pc := 16) (v := .ref (g_ad G 61)) C hM (by decide) ce_81 fl_RX11_290 rfl dX11_read_16 ?_
  refine lv_astore_n (pc := 19) (lv' := [(2, .ref (g_ad G 61)), (1, .int r4), (0, .ref (g_ad G 60))]) hx hb dX11_read_19 rfl hl (by decide) rfl (fun ls hl => ?_)
  refine lv_aload_n (pc := 20) hx hb dX11_read_20 rfl (lv_at hl 2 rfl) ?_
  refine g_get (pc := 21) (v := .ref (g_ad G 0)) C hM (by decide) ce_60 fl_RX11_12 rfl dX11_read_21 ?_
  refine g_get (pc := 24) (v := .ref (g_ad G 1)) C hM (by decide) ce_0 fl_RX11_104 rfl dX11_read_24 ?_
  refine g_get (pc := 27) (v := .int (s9 1 1)) C hM (by decide) ce_1 fl_RX11_108 rfl dX11_read_27 ?_
  refine lv_aload_n (pc := 30) hx hb dX11_read_30 rfl (lv_at hl 0 rfl) ?_
  refine g_get (pc := 31) (v := .int (s9 61 1)) C hM (by decide) ce_61 fl_RX11_108 rfl dX11_read_31 ?_
  refine lv_iadd (pc := 34) hx hb dX11_read_34 ?_
  refine lv_bipush (pc := 35) (v := 24) hx hb dX11_read_35 (by decide) ?_
  refine lv_icmp_gt (pc := 37) (tgt := 44) hx hb dX11_read_37 (by decide) (fun c37 => ?_) (fun c37 => ?_)
  · have h := h.1 c37
    refine lv_iconst (pc := 44) (v := 0) hx hb dX11_read_44 (by decide) ?_
    refine g_cxSv (pc := 45) C hM hl.1 ys_X11_requireState q2_236 (w_X11_requireState l hl0 G x 0 s9 _ PX h) rfl rfl ⟨⟨by decide, by decide⟩, by decide, by decide⟩ (Nat.le_of_ble_eq_true rfl) dX11_read_45 hprop (fun s45 H locs h hM => ?_)
    refine lv_aload_n (pc := 48) hx hb dX11_read_48 rfl (lv_at hl 2 rfl) ?_
    refine g_get (pc := 49) (v := .ref (g_ad G 63)) C hM (by decide) ce_60 fl_RX11_22 rfl dX11_read_49 ?_
    refine lv_aload_n (pc := 52) hx hb dX11_read_52 rfl (lv_at hl 2 rfl) ?_
    refine g_get (pc := 53) (v := .ref (g_ad G 0)) C hM (by decide) ce_60 fl_RX11_12 rfl dX11_read_53 ?_
    refine g_cVv (pc := 56) C hM hl.1 yv_X3_keep q3_14 (by decide) ce_63 rfl (w_X3_keep l G x 0 s45 _ h) rfl rfl ⟨⟨by decide, by decide⟩, by decide, by decide⟩ (Nat.le_of_ble_eq_true rfl) dX11_read_56 (fun s56 H locs h hM => ?_)
    refine lv_aload_n (pc := 59) hx hb dX11_read_59 rfl (lv_at hl 2 rfl) ?_
    refine g_get (pc := 60) (v := .ref (g_ad G 0)) C hM (by decide) ce_60 fl_RX11_12 rfl dX11_read_60 ?_
    refine g_get (pc := 63) (v := .ref (g_ad G 1)) C hM (by decide) ce_0 fl_RX11_104 rfl dX11_read_63 ?_
    refine lv_aload_n (pc := 66) hx hb dX11_read_66 rfl (lv_at hl 0 rfl) ?_
    refine g_cVv (pc := 67) C hM hl.1 yv_X6_addAll q5_157 (by decide) ce_1 rfl (w_X6_addAll l G x 1 61 s56 _ h) rfl rfl ⟨⟨by decide, by decide⟩, by decide, by decide⟩ (Nat.le_of_ble_eq_true rfl) dX11_read_67 (fun s67 H locs h hM => ?_)
    refine lv_aload_n (pc := 70) hx hb dX11_read_70 rfl (lv_at hl 0 rfl) ?_
    refine g_get (pc := 71) (v := .int (s67 61 1)) C hM (by decide) ce_61 fl_RX11_108 rfl dX11_read_71 ?_
    refine W.widen (k := 2) (n := 12) (by decide) (by decide) ?_
    exact hret 74 _ _ _ _ _ dX11_read_74 (by rfl) h hM
  · have h := h.2 c37
    refine lv_iconst (pc := 40) (v := 1) hx hb dX11_read_40 (by decide) ?_
    refine lv_goto (pc := 41) (tgt := 45) hx hb dX11_read_41 (by decide) ?_
    refine g_cxSv (pc := 45) C hM hl.1 ys_X11_requireState q2_236 (w_X11_requireState l hl0 G x 1 s9 _ PX h) rfl rfl ⟨⟨by decide, by decide⟩, by decide, by decide⟩ (Nat.le_of_ble_eq_true rfl) dX11_read_45 hprop (fun s45 H locs h hM => ?_)
    refine lv_aload_n (pc := 48) hx hb dX11_read_48 rfl (lv_at hl 2 rfl) ?_
    refine g_get (pc := 49) (v := .ref (g_ad G 63)) C hM (by decide) ce_60 fl_RX11_22 rfl dX11_read_49 ?_
    refine lv_aload_n (pc := 52) hx hb dX11_read_52 rfl (lv_at hl 2 rfl) ?_
    refine g_get (pc := 53) (v := .ref (g_ad G 0)) C hM (by decide) ce_60 fl_RX11_12 rfl dX11_read_53 ?_
    refine g_cVv (pc := 56) C hM hl.1 yv_X3_keep q3_14 (by decide) ce_63 rfl (w_X3_keep l G x 0 s45 _ h) rfl rfl ⟨⟨by decide, by decide⟩, by decide, by decide⟩ (Nat.le_of_ble_eq_true rfl) dX11_read_56 (fun s56 H locs h hM => ?_)
    refine lv_aload_n (pc := 59) hx hb dX11_read_59 rfl (lv_at hl 2 rfl) ?_
    refine g_get (pc := 60) (v := .ref (g_ad G 0)) C hM (by decide) ce_60 fl_RX11_12 rfl dX11_read_60 ?_
    refine g_get (pc := 63) (v := .ref (g_ad G 1)) C hM (by decide) ce_0 fl_RX11_104 rfl dX11_read_63 ?_
    refine lv_aload_n (pc := 66) hx hb dX11_read_66 rfl (lv_at hl 0 rfl) ?_
    refine g_cVv (pc := 67) C hM hl.1 yv_X6_addAll q5_157 (by decide) ce_1 rfl (w_X6_addAll l G x 1 61 s56 _ h) rfl rfl ⟨⟨by decide, by decide⟩, by decide, by decide⟩ (Nat.le_of_ble_eq_true rfl) dX11_read_67 (fun s67 H locs h hM => ?_)
    refine lv_aload_n (pc := 70) hx hb dX11_read_70 rfl (lv_at hl 0 rfl) ?_
    refine g_get (pc := 71) (v := .int (s67 61 1)) C hM (by decide) ce_61 fl_RX11_108 rfl dX11_read_71 ?_
    refine W.widen (k := 2) (n := 12) (by decide) (by decide) ?_
    exact hret 74 _ _ _ _ _ dX11_read_74 (by rfl) h hM
abbrev rm_X11_errorPosition : Room := { frames := 7, cells := 1, slots := 6, locals := 120 }
theorem dX11_errorPosition_0 : decode cX11_errorPosition 0 = .ok (.aload_n 0, 1) := by decide +kernel
theorem dX11_errorPosition_1 : decode cX11_errorPosition 1 = .ok (.getfield 74, 3) := by decide +kernel
theorem dX11_errorPosition_4 : decode cX11_errorPosition 4 = .ok (.getfield 297, 3) := by decide +kernel
theorem dX11_errorPosition_7 : decode cX11_errorPosition 7 = .ok (.ifCond .lt 7, 3) := by decide +kernel
theorem dX11_errorPosition_10 : decode cX11_errorPosition 10 = .ok (.iconst 1, 1) := by decide +kernel
theorem dX11_errorPosition_11 : decode cX11_errorPosition 11 = .ok (.goto 4, 3) := by decide +kernel
theorem dX11_errorPosition_14 : decode cX11_errorPosition 14 = .ok (.iconst 0, 1) := by decide +kernel
theorem dX11_errorPosition_15 : decode cX11_errorPosition 15 = .ok (.invokestatic 172, 3) := by decide +kernel
theorem dX11_errorPosition_18 : decode cX11_errorPosition 18 = .ok (.aload_n 0, 1) := by decide +kernel
theorem dX11_errorPosition_19 : decode cX11_errorPosition 19 = .ok (.getfield 74, 3) := by decide +kernel
theorem dX11_errorPosition_22 : decode cX11_errorPosition 22 = .ok (.getfield 297, 3) := by decide +kernel
theorem dX11_errorPosition_25 : decode cX11_errorPosition 25 = .ok (.ireturn, 1) := by decide +kernel
set_option maxHeartbeats 4000000 in
set_option maxRecDepth 100000 in
theorem w_X11_errorPosition (l : Launch) (hl0 : l.stackTraces = false) (G : GP) (x : XP) (σ : Sto) (P : Int32 → Sto → Prop) (PX : String → Sto → Prop) (h : D_X11_errorPosition  σ P PX) : g_Mxi l yX11_errorPosition cX11_errorPosition 1 (some .int) rm_X11_errorPosition G x [.ref (g_ad G 60)] σ P PX := by
  unfold D_X11_errorPosition at h
  refine g_ofXi hl0 (by decide +kernel) (Nat.le_of_ble_eq_true rfl) (Or.inl (by decide)) ?_
  intro p e s m args below meth c Q ls C hM hl hret hprop hthrow
  have hx := C.1
  have hb := C.2.1
  have hl : lv_has ls 1 [(0, .ref (g_ad G 60))] := hl
  refine lv_aload_n (pc := 0) hx hb dX11_errorPosition_0 rfl (lv_at hl 0 rfl) ?_
  refine g_get (pc := 1) (v := .ref (g_ad G 81)) C hM (by decide) ce_60 fl_RX11_74 rfl dX11_errorPosition_1 ?_
  refine g_get (pc := 4) (v := .int (σ 81 4)) C hM (by decide) ce_81 fl_RX11_297 rfl dX11_errorPosition_4 ?_
  refine lv_if_lt (pc := 7) (tgt := 14) hx hb dX11_errorPosition_7 (by decide) (fun c7 => ?_) (fun c7 => ?_)
  · have h := h.1 c7
    refine lv_iconst (pc := 14) (v := 0) hx hb dX11_errorPosition_14 (by decide) ?_
    refine g_cxSv (pc := 15) C hM hl.1 ys_X11_requireElement q3_161 (w_X11_requireElement l hl0 G x 0 σ _ PX h) rfl rfl ⟨⟨by decide, by decide⟩, by decide, by decide⟩ (Nat.le_of_ble_eq_true rfl) dX11_errorPosition_15 hprop (fun s15 H locs h hM => ?_)
    refine lv_aload_n (pc := 18) hx hb dX11_errorPosition_18 rfl (lv_at hl 0 rfl) ?_
    refine g_get (pc := 19) (v := .ref (g_ad G 81)) C hM (by decide) ce_60 fl_RX11_74 rfl dX11_errorPosition_19 ?_
    refine g_get (pc := 22) (v := .int (s15 81 4)) C hM (by decide) ce_81 fl_RX11_297 rfl dX11_errorPosition_22 ?_
    refine W.widen (k := 1) (n := 6) (by decide) (by decide) ?_
    exact hret 25 _ _ _ _ _ dX11_errorPosition_25 (by rfl) h hM
  · have h := h.2 c7
    refine lv_iconst (pc := 10) (v := 1) hx hb dX11_errorPosition_10 (by decide) ?_
    refine lv_goto (pc := 11) (tgt := 15) hx hb dX11_errorPosition_11 (by decide) ?_
    refine g_cxSv (pc := 15) C hM hl.1 ys_X11_requireElement q3_161 (w_X11_requireElement l hl0 G x 1 σ _ PX h) rfl rfl ⟨⟨by decide, by decide⟩, by decide, by decide⟩ (Nat.le_of_ble_eq_true rfl) dX11_errorPosition_15 hprop (fun s15 H locs h hM => ?_)
    refine lv_aload_n (pc := 18) hx hb dX11_errorPosition_18 rfl (lv_at hl 0 rfl) ?_
    refine g_get (pc := 19) (v := .ref (g_ad G 81)) C hM (by decide) ce_60 fl_RX11_74 rfl dX11_errorPosition_19 ?_
    refine g_get (pc := 22) (v := .int (s15 81 4)) C hM (by decide) ce_81 fl_RX11_297 rfl dX11_errorPosition_22 ?_
    refine W.widen (k := 1) (n := 6) (by decide) (by decide) ?_
    exact hret 25 _ _ _ _ _ dX11_errorPosition_25 (by rfl) h hM
abbrev rm_X11_describe : Room := { frames := 8, cells := 2, slots := 12, locals := 142 }
theorem dX11_describe_0 : decode cX11_describe 0 = .ok (.aload_n 0, 1) := by decide +kernel
theorem dX11_describe_1 : decode cX11_describe 1 = .ok (.iload_n 1, 1) := by decide +kernel
theorem dX11_describe_2 : decode cX11_describe 2 = .ok (.invokevirtual 124, 3) := by decide +kernel
theorem dX11_describe_5 : decode cX11_describe 5 = .ok (.aload_n 0, 1) := by decide +kernel
theorem dX11_describe_6 : decode cX11_describe 6 = .ok (.getfield 81, 3) := by decide +kernel
theorem dX11_describe_9 : decode cX11_describe 9 = .ok (.aload_n 0, 1) := by decide +kernel
theorem dX11_describe_10 : decode cX11_describe 10 = .ok (.getfield 12, 3) := by decide +kernel
theorem dX11_describe_13 : decode cX11_describe 13 = .ok (.getfield 104, 3) := by decide +kernel
theorem dX11_describe_16 : decode cX11_describe 16 = .ok (.iload_n 1, 1) := by decide +kernel
theorem dX11_describe_17 : decode cX11_describe 17 = .ok (.invokevirtual 300, 3) := by decide +kernel
theorem dX11_describe_20 : decode cX11_describe 20 = .ok (.iload_n 2, 1) := by decide +kernel
theorem dX11_describe_21 : decode cX11_describe 21 = .ok (.iconst (-1), 1) := by decide +kernel
theorem dX11_describe_22 : decode cX11_describe 22 = .ok (.aload_n 0, 1) := by decide +kernel
theorem dX11_describe_23 : decode cX11_describe 23 = .ok (.getfield 81, 3) := by decide +kernel
theorem dX11_describe_26 : decode cX11_describe 26 = .ok (.getfield 304, 3) := by decide +kernel
theorem dX11_describe_29 : decode cX11_describe 29 = .ok (.iconst 1, 1) := by decide +kernel
theorem dX11_describe_30 : decode cX11_describe 30 = .ok (.isub, 1) := by decide +kernel
theorem dX11_describe_31 : decode cX11_describe 31 = .ok (.invokestatic 96, 3) := by decide +kernel
theorem dX11_describe_34 : decode cX11_describe 34 = .ok (.invokestatic 172, 3) := by decide +kernel
theorem dX11_describe_37 : decode cX11_describe 37 = .ok (.iload_n 2, 1) := by decide +kernel
theorem dX11_describe_38 : decode cX11_describe 38 = .ok (.ifCond .ge 13, 3) := by decide +kernel
theorem dX11_describe_41 : decode cX11_describe 41 = .ok (.aload_n 0, 1) := by decide +kernel
theorem dX11_describe_42 : decode cX11_describe 42 = .ok (.getfield 81, 3) := by decide +kernel
theorem dX11_describe_45 : decode cX11_describe 45 = .ok (.getfield 304, 3) := by decide +kernel
theorem dX11_describe_48 : decode cX11_describe 48 = .ok (.goto 12, 3) := by decide +kernel
theorem dX11_describe_51 : decode cX11_describe 51 = .ok (.aload_n 0, 1) := by decide +kernel
theorem dX11_describe_52 : decode cX11_describe 52 = .ok (.getfield 81, 3) := by decide +kernel
theorem dX11_describe_55 : decode cX11_describe 55 = .ok (.getfield 305, 3) := by decide +kernel
theorem dX11_describe_58 : decode cX11_describe 58 = .ok (.iload_n 2, 1) := by decide +kernel
theorem dX11_describe_59 : decode cX11_describe 59 = .ok (.caload, 1) := by decide +kernel
theorem dX11_describe_60 : decode cX11_describe 60 = .ok (.ireturn, 1) := by decide +kernel
set_option maxHeartbeats 4000000 in
set_option maxRecDepth 100000 in
theorem w_X11_describe (l : Launch) (hl0 : l.stackTraces = false) (G : GP) (x : XP) (a1 : Int32) (a2 : Int32) (σ : Sto) (P : Int32 → Sto → Prop) (PX : String → Sto → Prop) (h : D_X11_describe a1 a2 σ P PX) : g_Mxi l yX11_describe cX11_describe 3 (some .int) rm_X11_describe G x [.ref (g_ad G 60), .int a1, .int a2] σ P PX := by
  unfold D_X11_describe at h
  refine g_ofXi hl0 (by decide +kernel) (Nat.le_of_ble_eq_true rfl) (Or.inl (by decide)) ?_
  intro p e s m args below meth c Q ls C hM hl hret hprop hthrow
  have hx := C.1
  have hb := C.2.1
  have hl : lv_has ls 3 [(0, .ref (g_ad G 60)), (1, .int a1), (2, .int a2)] := hl
  refine lv_aload_n (pc := 0) hx hb dX11_describe_0 rfl (lv_at hl 0 rfl) ?_
  refine lv_iload_n (pc := 1) hx hb dX11_describe_1 rfl (lv_at hl 1 rfl) ?_
  refine g_cxVv (pc := 2) C hM hl.1 yv_X11_requireRule q3_34 (by decide) ce_60 rfl (w_X11_requireRule l hl0 G x a1 σ _ PX h) rfl rfl ⟨⟨by decide, by decide⟩, by decide, by decide⟩ (Nat.le_of_ble_eq_true rfl) dX11_describe_2 hprop (fun s2 H locs h hM => ?_)
  refine lv_aload_n (pc := 5) hx hb dX11_describe_5 rfl (lv_at hl 0 rfl) ?_
  refine g_get (pc := 6) (v := .ref (g_ad G 83)) C hM (by decide) ce_60 fl_RX11_81 rfl dX11_describe_6 ?_
  refine lv_aload_n (pc := 9) hx hb dX11_describe_9 rfl (lv_at hl 0 rfl) ?_
  refine g_get (pc := 10) (v := .ref (g_ad G 0)) C hM (by decide) ce_60 fl_RX11_12 rfl dX11_describe_10 ?_
  refine g_get (pc := 13) (v := .ref (g_ad G 1)) C hM (by decide) ce_0 fl_RX11_104 rfl dX11_describe_13 ?_
  refine lv_iload_n (pc := 16) hx hb dX11_describe_16 rfl (lv_at hl 1 rfl) ?_
  refine g_cVv (pc := 17) C hM hl.1 yv_X10_write q5_175 (by decide) ce_83 rfl (w_X10_write l G x 1 a1 s2 _ h) rfl rfl ⟨⟨by decide, by decide⟩, by decide, by decide⟩ (Nat.le_of_ble_eq_true rfl) dX11_describe_17 (fun s17 H locs h hM => ?_)
  refine lv_iload_n (pc := 20) hx hb dX11_describe_20 rfl (lv_at hl 2 rfl) ?_
  refine lv_iconst (pc := 21) (v := (-1)) hx hb dX11_describe_21 (by decide) ?_
  refine lv_aload_n (pc := 22) hx hb dX11_describe_22 rfl (lv_at hl 0 rfl) ?_
  refine g_get (pc := 23) (v := .ref (g_ad G 83)) C hM (by decide) ce_60 fl_RX11_81 rfl dX11_describe_23 ?_
  refine g_get (pc := 26) (v := .int (s17 83 1)) C hM (by decide) ce_83 fl_RX11_304 rfl dX11_describe_26 ?_
  refine lv_iconst (pc := 29) (v := 1) hx hb dX11_describe_29 (by decide) ?_
  refine lv_isub (pc := 30) hx hb dX11_describe_30 ?_
  refine g_cSi (pc := 31) C hM hl.1 ys_X11_isWithin q2_215 (w_X11_isWithin l G x a2 (-1) ((s17 83 1) - 1) s17 _ h) rfl rfl ⟨⟨by decide, by decide⟩, by decide, by decide⟩ (Nat.le_of_ble_eq_true rfl) dX11_describe_31 (fun r31 s31 H locs h hM => ?_)
  refine g_cxSv (pc := 34) C hM hl.1 ys_X11_requireElement q3_161 (w_X11_requireElement l hl0 G x r31 s31 _ PX h) rfl rfl ⟨⟨by decide, by decide⟩, by decide, by decide⟩ (Nat.le_of_ble_eq_true rfl) dX11_describe_34 hprop (fun s34 H locs h hM => ?_)
  refine lv_iload_n (pc := 37) hx hb dX11_describe_37 rfl (lv_at hl 2 rfl) ?_
  refine lv_if_ge (pc := 38) (tgt := 51) hx hb dX11_describe_38 (by decide) (fun c38 => ?_) (fun c38 => ?_)
  · have h := h.1 c38
    refine lv_aload_n (pc := 51) hx hb dX11_describe_51 rfl (lv_at hl 0 rfl) ?_
    refine g_get (pc := 52) (v := .ref (g_ad G 83)) C hM (by decide) ce_60 fl_RX11_81 rfl dX11_describe_52 ?_
    refine g_get (pc := 55) (v := .ref (g_ad G 84)) C hM (by decide) ce_83 fl_RX11_305 rfl dX11_describe_55 ?_
    refine lv_iload_n (pc := 58) hx hb dX11_describe_58 rfl (lv_at hl 2 rfl) ?_
    obtain ⟨hc, h⟩ := h
    refine g_caldK (pc := 59) C hM (by decide) ce_84 hc rfl dX11_describe_59 ?_
    refine W.widen (k := 2) (n := 12) (by decide) (by decide) ?_
    exact hret 60 _ _ _ _ _ dX11_describe_60 (by rfl) h hM
  · have h := h.2 c38
    refine lv_aload_n (pc := 41) hx hb dX11_describe_41 rfl (lv_at hl 0 rfl) ?_
    refine g_get (pc := 42) (v := .ref (g_ad G 83)) C hM (by decide) ce_60 fl_RX11_81 rfl dX11_describe_42 ?_
    refine g_get (pc := 45) (v := .int (s34 83 1)) C hM (by decide) ce_83 fl_RX11_304 rfl dX11_describe_45 ?_
    refine lv_goto (pc := 48) (tgt := 60) hx hb dX11_describe_48 (by decide) ?_
    refine W.widen (k := 2) (n := 12) (by decide) (by decide) ?_
    exact hret 60 _ _ _ _ _ dX11_describe_60 (by rfl) h hM
abbrev rm_X11_undo : Room := { frames := 7, cells := 1, slots := 6, locals := 120 }
theorem dX11_undo_0 : decode cX11_undo 0 = .ok (.aload_n 0, 1) := by decide +kernel
theorem dX11_undo_1 : decode cX11_undo 1 = .ok (.getfield 22, 3) := by decide +kernel
theorem dX11_undo_4 : decode cX11_undo 4 = .ok (.getfield 309, 3) := by decide +kernel
theorem dX11_undo_7 : decode cX11_undo 7 = .ok (.ifCond .le 7, 3) := by decide +kernel
theorem dX11_undo_10 : decode cX11_undo 10 = .ok (.iconst 1, 1) := by decide +kernel
theorem dX11_undo_11 : decode cX11_undo 11 = .ok (.goto 4, 3) := by decide +kernel
theorem dX11_undo_14 : decode cX11_undo 14 = .ok (.iconst 0, 1) := by decide +kernel
theorem dX11_undo_15 : decode cX11_undo 15 = .ok (.invokestatic 172, 3) := by decide +kernel
theorem dX11_undo_18 : decode cX11_undo 18 = .ok (.aload_n 0, 1) := by decide +kernel
theorem dX11_undo_19 : decode cX11_undo 19 = .ok (.getfield 22, 3) := by decide +kernel
theorem dX11_undo_22 : decode cX11_undo 22 = .ok (.aload_n 0, 1) := by decide +kernel
theorem dX11_undo_23 : decode cX11_undo 23 = .ok (.getfield 12, 3) := by decide +kernel
theorem dX11_undo_26 : decode cX11_undo 26 = .ok (.invokevirtual 310, 3) := by decide +kernel
theorem dX11_undo_29 : decode cX11_undo 29 = .ok (.aload_n 0, 1) := by decide +kernel
theorem dX11_undo_30 : decode cX11_undo 30 = .ok (.getfield 22, 3) := by decide +kernel
theorem dX11_undo_33 : decode cX11_undo 33 = .ok (.getfield 309, 3) := by decide +kernel
theorem dX11_undo_36 : decode cX11_undo 36 = .ok (.ireturn, 1) := by decide +kernel
set_option maxHeartbeats 4000000 in
set_option maxRecDepth 100000 in
theorem w_X11_undo (l : Launch) (hl0 : l.stackTraces = false) (G : GP) (x : XP) (σ : Sto) (P : Int32 → Sto → Prop) (PX : String → Sto → Prop) (h : D_X11_undo  σ P PX) : g_Mxi l yX11_undo cX11_undo 1 (some .int) rm_X11_undo G x [.ref (g_ad G 60)] σ P PX := by
  unfold D_X11_undo at h
  refine g_ofXi hl0 (by decide +kernel) (Nat.le_of_ble_eq_true rfl) (Or.inl (by decide)) ?_
  intro p e s m args below meth c Q ls C hM hl hret hprop hthrow
  have hx := C.1
  have hb := C.2.1
  have hl : lv_has ls 1 [(0, .ref (g_ad G 60))] := hl
  refine lv_aload_n (pc := 0) hx hb dX11_undo_0 rfl (lv_at hl 0 rfl) ?_
  refine g_get (pc := 1) (v := .ref (g_ad G 63)) C hM (by decide) ce_60 fl_RX11_22 rfl dX11_undo_1 ?_
  refine g_get (pc := 4) (v := .int (σ 63 1)) C hM (by decide) ce_63 fl_RX11_309 rfl dX11_undo_4 ?_
  refine lv_if_le (pc := 7) (tgt := 14) hx hb dX11_undo_7 (by decide) (fun c7 => ?_) (fun c7 => ?_)
  · have h := h.1 c7
    refine lv_iconst (pc := 14) (v := 0) hx hb dX11_undo_14 (by decide) ?_
    refine g_cxSv (pc := 15) C hM hl.1 ys_X11_requireElement q3_161 (w_X11_requireElement l hl0 G x 0 σ _ PX h) rfl rfl ⟨⟨by decide, by decide⟩, by decide, by decide⟩ (Nat.le_of_ble_eq_true rfl) dX11_undo_15 hprop (fun s15 H locs h hM => ?_)
    refine lv_aload_n (pc := 18) hx hb dX11_undo_18 rfl (lv_at hl 0 rfl) ?_
    refine g_get (pc := 19) (v := .ref (g_ad G 63)) C hM (by decide) ce_60 fl_RX11_22 rfl dX11_undo_19 ?_
    refine lv_aload_n (pc := 22) hx hb dX11_undo_22 rfl (lv_at hl 0 rfl) ?_
    refine g_get (pc := 23) (v := .ref (g_ad G 0)) C hM (by decide) ce_60 fl_RX11_12 rfl dX11_undo_23 ?_
    refine g_cVv (pc := 26) C hM hl.1 yv_X3_takeBack q5_207 (by decide) ce_63 rfl (w_X3_takeBack l G x 0 s15 _ h) rfl rfl ⟨⟨by decide, by decide⟩, by decide, by decide⟩ (Nat.le_of_ble_eq_true rfl) dX11_undo_26 (fun s26 H locs h hM => ?_)
    refine lv_aload_n (pc := 29) hx hb dX11_undo_29 rfl (lv_at hl 0 rfl) ?_
    refine g_get (pc := 30) (v := .ref (g_ad G 63)) C hM (by decide) ce_60 fl_RX11_22 rfl dX11_undo_30 ?_
    refine g_get (pc := 33) (v := .int (s26 63 1)) C hM (by decide) ce_63 fl_RX11_309 rfl dX11_undo_33 ?_
    refine W.widen (k := 1) (n := 6) (by decide) (by decide) ?_
    exact hret 36 _ _ _ _ _ dX11_undo_36 (by rfl) h hM
  · have h := h.2 c7
    refine lv_iconst (pc := 10) (v := 1) hx hb dX11_undo_10 (by decide) ?_
    refine lv_goto (pc := 11) (tgt := 15) hx hb dX11_undo_11 (by decide) ?_
    refine g_cxSv (pc := 15) C hM hl.1 ys_X11_requireElement q3_161 (w_X11_requireElement l hl0 G x 1 σ _ PX h) rfl rfl ⟨⟨by decide, by decide⟩, by decide, by decide⟩ (Nat.le_of_ble_eq_true rfl) dX11_undo_15 hprop (fun s15 H locs h hM => ?_)
    refine lv_aload_n (pc := 18) hx hb dX11_undo_18 rfl (lv_at hl 0 rfl) ?_
    refine g_get (pc := 19) (v := .ref (g_ad G 63)) C hM (by decide) ce_60 fl_RX11_22 rfl dX11_undo_19 ?_
    refine lv_aload_n (pc := 22) hx hb dX11_undo_22 rfl (lv_at hl 0 rfl) ?_
    refine g_get (pc := 23) (v := .ref (g_ad G 0)) C hM (by decide) ce_60 fl_RX11_12 rfl dX11_undo_23 ?_
    refine g_cVv (pc := 26) C hM hl.1 yv_X3_takeBack q5_207 (by decide) ce_63 rfl (w_X3_takeBack l G x 0 s15 _ h) rfl rfl ⟨⟨by decide, by decide⟩, by decide, by decide⟩ (Nat.le_of_ble_eq_true rfl) dX11_undo_26 (fun s26 H locs h hM => ?_)
    refine lv_aload_n (pc := 29) hx hb dX11_undo_29 rfl (lv_at hl 0 rfl) ?_
    refine g_get (pc := 30) (v := .ref (g_ad G 63)) C hM (by decide) ce_60 fl_RX11_22 rfl dX11_undo_30 ?_
    refine g_get (pc := 33) (v := .int (s26 63 1)) C hM (by decide) ce_63 fl_RX11_309 rfl dX11_undo_33 ?_
    refine W.widen (k := 1) (n := 6) (by decide) (by decide) ?_
    exact hret 36 _ _ _ _ _ dX11_undo_36 (by rfl) h hM
abbrev rm_X11_save : Room := { frames := 3, cells := 0, slots := 0, locals := 82 }
theorem dX11_save_0 : decode cX11_save 0 = .ok (.aload_n 0, 1) := by decide +kernel
theorem dX11_save_1 : decode cX11_save 1 = .ok (.getfield 16, 3) := by decide +kernel
theorem dX11_save_4 : decode cX11_save 4 = .ok (.aload_n 0, 1) := by decide +kernel
theorem dX11_save_5 : decode cX11_save 5 = .ok (.getfield 12, 3) := by decide +kernel
theorem dX11_save_8 : decode cX11_save 8 = .ok (.invokevirtual 313, 3) := by decide +kernel
theorem dX11_save_11 : decode cX11_save 11 = .ok (.aload_n 0, 1) := by decide +kernel
theorem dX11_save_12 : decode cX11_save 12 = .ok (.iconst 1, 1) := by decide +kernel
theorem dX11_save_13 : decode cX11_save 13 = .ok (.putfield 316, 3) := by decide +kernel
theorem dX11_save_16 : decode cX11_save 16 = .ok (.aload_n 0, 1) := by decide +kernel
theorem dX11_save_17 : decode cX11_save 17 = .ok (.getfield 12, 3) := by decide +kernel
theorem dX11_save_20 : decode cX11_save 20 = .ok (.getfield 104, 3) := by decide +kernel
theorem dX11_save_23 : decode cX11_save 23 = .ok (.getfield 108, 3) := by decide +kernel
theorem dX11_save_26 : decode cX11_save 26 = .ok (.ireturn, 1) := by decide +kernel
set_option maxHeartbeats 4000000 in
set_option maxRecDepth 100000 in
theorem w_X11_save (l : Launch) (G : GP) (x : XP) (σ : Sto) (P : Int32 → Sto → Prop) (h : D_X11_save  σ P) : g_Meti l yX11_save cX11_save 1 (some .int) rm_X11_save G x [.ref (g_ad G 60)] σ P := by
  unfold D_X11_save at h
  refine g_ofWi (by decide +kernel) (Nat.le_of_ble_eq_true rfl) ?_
  intro p e s m args below meth c Q ls C hM hl hret
  have hx := C.1
  have hb := C.2.1
  have hl : lv_has ls 1 [(0, .ref (g_ad G 60))] := hl
  refine lv_aload_n (pc := 0) hx hb dX11_save_0 rfl (lv_at hl 0 rfl) ?_
  refine g_get (pc := 1) (v := .ref (g_ad G 6)) C hM (by decide) ce_60 fl_RX11_16 rfl dX11_save_1 ?_
  refine lv_aload_n (pc := 4) hx hb dX11_save_4 rfl (lv_at hl 0 rfl) ?_
  refine g_get (pc := 5) (v := .ref (g_ad G 0)) C hM (by decide) ce_60 fl_RX11_12 rfl dX11_save_5 ?_
  refine g_cVv (pc := 8) C hM hl.1 yv_X8_copyFrom q2_86 (by decide) ce_6 rfl (w_X8_copyFrom l G x 6 0 σ _ h) rfl rfl ⟨⟨by decide, by decide⟩, by decide, by decide⟩ (Nat.le_of_ble_eq_true rfl) dX11_save_8 (fun s8 H locs h hM => ?_)
  refine lv_aload_n (pc := 11) hx hb dX11_save_11 rfl (lv_at hl 0 rfl) ?_
  refine lv_iconst (pc := 12) (v := 1) hx hb dX11_save_12 (by decide) ?_
  refine g_putE (pc := 13) C hM (by decide) ce_60 fp_RX11_316 rfl rfl (Nat.le_of_ble_eq_true rfl) rfl dX11_save_13 (fun s13 es13 H locs hM => ?_)
  have h := h s13 es13
  refine lv_aload_n (pc := 16) hx hb dX11_save_16 rfl (lv_at hl 0 rfl) ?_
  refine g_get (pc := 17) (v := .ref (g_ad G 0)) C hM (by decide) ce_60 fl_RX11_12 rfl dX11_save_17 ?_
  refine g_get (pc := 20) (v := .ref (g_ad G 1)) C hM (by decide) ce_0 fl_RX11_104 rfl dX11_save_20 ?_
  refine g_get (pc := 23) (v := .int (s13 1 1)) C hM (by decide) ce_1 fl_RX11_108 rfl dX11_save_23 ?_
  exact hret 26 _ _ _ _ _ dX11_save_26 (by rfl) h hM
abbrev rm_X11_restore : Room := { frames := 7, cells := 1, slots := 6, locals := 120 }
theorem dX11_restore_0 : decode cX11_restore 0 = .ok (.aload_n 0, 1) := by decide +kernel
theorem dX11_restore_1 : decode cX11_restore 1 = .ok (.getfield 316, 3) := by decide +kernel
theorem dX11_restore_4 : decode cX11_restore 4 = .ok (.invokestatic 114, 3) := by decide +kernel
theorem dX11_restore_7 : decode cX11_restore 7 = .ok (.aload_n 0, 1) := by decide +kernel
theorem dX11_restore_8 : decode cX11_restore 8 = .ok (.getfield 12, 3) := by decide +kernel
theorem dX11_restore_11 : decode cX11_restore 11 = .ok (.aload_n 0, 1) := by decide +kernel
theorem dX11_restore_12 : decode cX11_restore 12 = .ok (.getfield 16, 3) := by decide +kernel
theorem dX11_restore_15 : decode cX11_restore 15 = .ok (.invokevirtual 313, 3) := by decide +kernel
theorem dX11_restore_18 : decode cX11_restore 18 = .ok (.aload_n 0, 1) := by decide +kernel
theorem dX11_restore_19 : decode cX11_restore 19 = .ok (.getfield 22, 3) := by decide +kernel
theorem dX11_restore_22 : decode cX11_restore 22 = .ok (.iconst 0, 1) := by decide +kernel
theorem dX11_restore_23 : decode cX11_restore 23 = .ok (.putfield 309, 3) := by decide +kernel
theorem dX11_restore_26 : decode cX11_restore 26 = .ok (.aload_n 0, 1) := by decide +kernel
theorem dX11_restore_27 : decode cX11_restore 27 = .ok (.getfield 12, 3) := by decide +kernel
theorem dX11_restore_30 : decode cX11_restore 30 = .ok (.getfield 104, 3) := by decide +kernel
theorem dX11_restore_33 : decode cX11_restore 33 = .ok (.getfield 108, 3) := by decide +kernel
theorem dX11_restore_36 : decode cX11_restore 36 = .ok (.ireturn, 1) := by decide +kernel
set_option maxHeartbeats 4000000 in
set_option maxRecDepth 100000 in
theorem w_X11_restore (l : Launch) (hl0 : l.stackTraces = false) (G : GP) (x : XP) (σ : Sto) (P : Int32 → Sto → Prop) (PX : String → Sto → Prop) (h : D_X11_restore  σ P PX) : g_Mxi l yX11_restore cX11_restore 1 (some .int) rm_X11_restore G x [.ref (g_ad G 60)] σ P PX := by
  unfold D_X11_restore at h
  refine g_ofXi hl0 (by decide +kernel) (Nat.le_of_ble_eq_true rfl) (Or.inl (by decide)) ?_
  intro p e s m args below meth c Q ls C hM hl hret hprop hthrow
  have hx := C.1
  have hb := C.2.1
  have hl : lv_has ls 1 [(0, .ref (g_ad G 60))] := hl
  refine lv_aload_n (pc := 0) hx hb dX11_restore_0 rfl (lv_at hl 0 rfl) ?_
  refine g_get (pc := 1) (v := .int (σ 60 2)) C hM (by decide) ce_60 fl_RX11_316 rfl dX11_restore_1 ?_
  refine g_cxSv (pc := 4) C hM hl.1 ys_X11_requireState q2_236 (w_X11_requireState l hl0 G x (σ 60 2) σ _ PX h) rfl rfl ⟨⟨by decide, by decide⟩, by decide, by decide⟩ (Nat.le_of_ble_eq_true rfl) dX11_restore_4 hprop (fun s4 H locs h hM => ?_)
  refine lv_aload_n (pc := 7) hx hb dX11_restore_7 rfl (lv_at hl 0 rfl) ?_
  refine g_get (pc := 8) (v := .ref (g_ad G 0)) C hM (by decide) ce_60 fl_RX11_12 rfl dX11_restore_8 ?_
  refine lv_aload_n (pc := 11) hx hb dX11_restore_11 rfl (lv_at hl 0 rfl) ?_
  refine g_get (pc := 12) (v := .ref (g_ad G 6)) C hM (by decide) ce_60 fl_RX11_16 rfl dX11_restore_12 ?_
  refine g_cVv (pc := 15) C hM hl.1 yv_X8_copyFrom q2_86 (by decide) ce_0 rfl (w_X8_copyFrom l G x 0 6 s4 _ h) rfl rfl ⟨⟨by decide, by decide⟩, by decide, by decide⟩ (Nat.le_of_ble_eq_true rfl) dX11_restore_15 (fun s15 H locs h hM => ?_)
  refine lv_aload_n (pc := 18) hx hb dX11_restore_18 rfl (lv_at hl 0 rfl) ?_
  refine g_get (pc := 19) (v := .ref (g_ad G 63)) C hM (by decide) ce_60 fl_RX11_22 rfl dX11_restore_19 ?_
  refine lv_iconst (pc := 22) (v := 0) hx hb dX11_restore_22 (by decide) ?_
  refine g_putE (pc := 23) C hM (by decide) ce_63 fp_RX11_309 rfl rfl (Nat.le_of_ble_eq_true rfl) rfl dX11_restore_23 (fun s23 es23 H locs hM => ?_)
  have h := h s23 es23
  refine lv_aload_n (pc := 26) hx hb dX11_restore_26 rfl (lv_at hl 0 rfl) ?_
  refine g_get (pc := 27) (v := .ref (g_ad G 0)) C hM (by decide) ce_60 fl_RX11_12 rfl dX11_restore_27 ?_
  refine g_get (pc := 30) (v := .ref (g_ad G 1)) C hM (by decide) ce_0 fl_RX11_104 rfl dX11_restore_30 ?_
  refine g_get (pc := 33) (v := .int (s23 1 1)) C hM (by decide) ce_1 fl_RX11_108 rfl dX11_restore_33 ?_
  refine W.widen (k := 1) (n := 6) (by decide) (by decide) ?_
  exact hret 36 _ _ _ _ _ dX11_restore_36 (by rfl) h hM
