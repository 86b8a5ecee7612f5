/-! rows for the law: its own two rows of one place each, its wrappers that catch -/
theorem ce_xL {G : GP} {x : XP} (v : Int64) : ∀ (k : Nat), k < 108 → k ≠ 106 → ∀ f, ceF G x k f = ceF G (v, x.2) k f
  | 0, _, _, _ => rfl
  | 1, _, _, _ => rfl
  | 2, _, _, _ => rfl
  | 3, _, _, _ => rfl
  | 4, _, _, _ => rfl
  | 5, _, _, _ => rfl
  | 6, _, _, _ => rfl
  | 7, _, _, _ => rfl
  | 8, _, _, _ => rfl
  | 9, _, _, _ => rfl
  | 10, _, _, _ => rfl
  | 11, _, _, _ => rfl
  | 12, _, _, _ => rfl
  | 13, _, _, _ => rfl
  | 14, _, _, _ => rfl
  | 15, _, _, _ => rfl
  | 16, _, _, _ => rfl
  | 17, _, _, _ => rfl
  | 18, _, _, _ => rfl
  | 19, _, _, _ => rfl
  | 20, _, _, _ => rfl
  | 21, _, _, _ => rfl
  | 22, _, _, _ => rfl
  | 23, _, _, _ => rfl
  | 24, _, _, _ => rfl
  | 25, _, _, _ => rfl
  | 26, _, _, _ => rfl
  | 27, _, _, _ => rfl
  | 28, _, _, _ => rfl
  | 29, _, _, _ => rfl
  | 30, _, _, _ => rfl
  | 31, _, _, _ => rfl
  | 32, _, _, _ => rfl
  | 33, _, _, _ => rfl
  | 34, _, _, _ => rfl
  | 35, _, _, _ => rfl
  | 36, _, _, _ => rfl
  | 37, _, _, _ => rfl
  | 38, _, _, _ => rfl
  | 39, _, _, _ => rfl
  | 40, _, _, _ => rfl
  | 41, _, _, _ => rfl
  | 42, _, _, _ => rfl
  | 43, _, _, _ => rfl
  | 44, _, _, _ => rfl
  | 45, _, _, _ => rfl
  | 46, _, _, _ => rfl
  | 47, _, _, _ => rfl
  | 48, _, _, _ => rfl
  | 49, _, _, _ => rfl
  | 50, _, _, _ => rfl
  | 51, _, _, _ => rfl
  | 52, _, _, _ => rfl
  | 53, _, _, _ => rfl
  | 54, _, _, _ => rfl
  | 55, _, _, _ => rfl
  | 56, _, _, _ => rfl
  | 57, _, _, _ => rfl
  | 58, _, _, _ => rfl
  | 59, _, _, _ => rfl
  | 60, _, _, _ => rfl
  | 61, _, _, _ => rfl
  | 62, _, _, _ => rfl
  | 63, _, _, _ => rfl
  | 64, _, _, _ => rfl
  | 65, _, _, _ => rfl
  | 66, _, _, _ => rfl
  | 67, _, _, _ => rfl
  | 68, _, _, _ => rfl
  | 69, _, _, _ => rfl
  | 70, _, _, _ => rfl
  | 71, _, _, _ => rfl
  | 72, _, _, _ => rfl
  | 73, _, _, _ => rfl
  | 74, _, _, _ => rfl
  | 75, _, _, _ => rfl
  | 76, _, _, _ => rfl
  | 77, _, _, _ => rfl
  | 78, _, _, _ => rfl
  | 79, _, _, _ => rfl
  | 80, _, _, _ => rfl
  | 81, _, _, _ => rfl
  | 82, _, _, _ => rfl
  | 83, _, _, _ => rfl
  | 84, _, _, _ => rfl
  | 85, _, _, _ => rfl
  | 86, _, _, _ => rfl
  | 87, _, _, _ => rfl
  | 88, _, _, _ => rfl
  | 89, _, _, _ => rfl
  | 90, _, _, _ => rfl
  | 91, _, _, _ => rfl
  | 92, _, _, _ => rfl
  | 93, _, _, _ => rfl
  | 94, _, _, _ => rfl
  | 95, _, _, _ => rfl
  | 96, _, _, _ => rfl
  | 97, _, _, _ => rfl
  | 98, _, _, _ => rfl
  | 99, _, _, _ => rfl
  | 100, _, _, _ => rfl
  | 101, _, _, _ => rfl
  | 102, _, _, _ => rfl
  | 103, _, _, _ => rfl
  | 104, _, _, _ => rfl
  | 105, _, _, _ => rfl
  | 106, _, h, _ => absurd rfl h
  | 107, _, _, _ => rfl
  | k + 108, h, _, _ => absurd h (Nat.not_lt.mpr (Nat.le_add_left 108 k))
theorem ce_xD {G : GP} {x : XP} (v : UInt64) : ∀ (k : Nat), k < 108 → k ≠ 107 → ∀ f, ceF G x k f = ceF G (x.1, v) k f
  | 0, _, _, _ => rfl
  | 1, _, _, _ => rfl
  | 2, _, _, _ => rfl
  | 3, _, _, _ => rfl
  | 4, _, _, _ => rfl
  | 5, _, _, _ => rfl
  | 6, _, _, _ => rfl
  | 7, _, _, _ => rfl
  | 8, _, _, _ => rfl
  | 9, _, _, _ => rfl
  | 10, _, _, _ => rfl
  | 11, _, _, _ => rfl
  | 12, _, _, _ => rfl
  | 13, _, _, _ => rfl
  | 14, _, _, _ => rfl
  | 15, _, _, _ => rfl
  | 16, _, _, _ => rfl
  | 17, _, _, _ => rfl
  | 18, _, _, _ => rfl
  | 19, _, _, _ => rfl
  | 20, _, _, _ => rfl
  | 21, _, _, _ => rfl
  | 22, _, _, _ => rfl
  | 23, _, _, _ => rfl
  | 24, _, _, _ => rfl
  | 25, _, _, _ => rfl
  | 26, _, _, _ => rfl
  | 27, _, _, _ => rfl
  | 28, _, _, _ => rfl
  | 29, _, _, _ => rfl
  | 30, _, _, _ => rfl
  | 31, _, _, _ => rfl
  | 32, _, _, _ => rfl
  | 33, _, _, _ => rfl
  | 34, _, _, _ => rfl
  | 35, _, _, _ => rfl
  | 36, _, _, _ => rfl
  | 37, _, _, _ => rfl
  | 38, _, _, _ => rfl
  | 39, _, _, _ => rfl
  | 40, _, _, _ => rfl
  | 41, _, _, _ => rfl
  | 42, _, _, _ => rfl
  | 43, _, _, _ => rfl
  | 44, _, _, _ => rfl
  | 45, _, _, _ => rfl
  | 46, _, _, _ => rfl
  | 47, _, _, _ => rfl
  | 48, _, _, _ => rfl
  | 49, _, _, _ => rfl
  | 50, _, _, _ => rfl
  | 51, _, _, _ => rfl
  | 52, _, _, _ => rfl
  | 53, _, _, _ => rfl
  | 54, _, _, _ => rfl
  | 55, _, _, _ => rfl
  | 56, _, _, _ => rfl
  | 57, _, _, _ => rfl
  | 58, _, _, _ => rfl
  | 59, _, _, _ => rfl
  | 60, _, _, _ => rfl
  | 61, _, _, _ => rfl
  | 62, _, _, _ => rfl
  | 63, _, _, _ => rfl
  | 64, _, _, _ => rfl
  | 65, _, _, _ => rfl
  | 66, _, _, _ => rfl
  | 67, _, _, _ => rfl
  | 68, _, _, _ => rfl
  | 69, _, _, _ => rfl
  | 70, _, _, _ => rfl
  | 71, _, _, _ => rfl
  | 72, _, _, _ => rfl
  | 73, _, _, _ => rfl
  | 74, _, _, _ => rfl
  | 75, _, _, _ => rfl
  | 76, _, _, _ => rfl
  | 77, _, _, _ => rfl
  | 78, _, _, _ => rfl
  | 79, _, _, _ => rfl
  | 80, _, _, _ => rfl
  | 81, _, _, _ => rfl
  | 82, _, _, _ => rfl
  | 83, _, _, _ => rfl
  | 84, _, _, _ => rfl
  | 85, _, _, _ => rfl
  | 86, _, _, _ => rfl
  | 87, _, _, _ => rfl
  | 88, _, _, _ => rfl
  | 89, _, _, _ => rfl
  | 90, _, _, _ => rfl
  | 91, _, _, _ => rfl
  | 92, _, _, _ => rfl
  | 93, _, _, _ => rfl
  | 94, _, _, _ => rfl
  | 95, _, _, _ => rfl
  | 96, _, _, _ => rfl
  | 97, _, _, _ => rfl
  | 98, _, _, _ => rfl
  | 99, _, _, _ => rfl
  | 100, _, _, _ => rfl
  | 101, _, _, _ => rfl
  | 102, _, _, _ => rfl
  | 103, _, _, _ => rfl
  | 104, _, _, _ => rfl
  | 105, _, _, _ => rfl
  | 106, _, _, _ => rfl
  | 107, _, h, _ => absurd rfl h
  | k + 108, h, _, _ => absurd h (Nat.not_lt.mpr (Nat.le_add_left 108 k))
theorem wl_setL {G : GP} {x : XP} {σ : Sto} (v : Int64) : (wl G x σ).set 106 (g_ad G 106, .inl (G.2.2.2 3, 1, .inr (.inl (vp_updL (fun j => if j = 0 then x.1 else 0) 0 v)))) = wl G (v, x.2) σ := by
  have e : vp_updL (fun j => if j = 0 then x.1 else 0) 0 v = fun j => if j = 0 then v else 0 := by
    funext j
    show (if j = 0 then v else (if j = 0 then x.1 else 0)) = _
    by_cases hj : j = 0
    · rw [if_pos hj, if_pos hj]
    · rw [if_neg hj, if_neg hj, if_neg hj]
  rw [e]
  apply List.ext_getElem?
  intro i
  by_cases hi : i = 106
  · subst hi
    rw [wl_at (by decide), List.getElem?_set_self (by simp [wl])]
    rfl
  · rw [List.getElem?_set_ne (Ne.symm hi)]
    unfold wl
    rw [List.getElem?_map, List.getElem?_map]
    cases h : (List.range 108)[i]? with
    | none => rfl
    | some j =>
      have hj : j = i := by
        obtain ⟨h3, h4⟩ := List.getElem?_eq_some_iff.mp h
        rw [← h4]
        simp
      subst hj
      have h108 : j < 108 := by
        have := (List.getElem?_eq_some_iff.mp h).1
        simpa using this
      dsimp only [Option.map_some]
      rw [ce_xL v j h108 hi]
theorem wl_setD {G : GP} {x : XP} {σ : Sto} (v : UInt64) : (wl G x σ).set 107 (g_ad G 107, .inl (G.2.2.2 4, 1, .inr (.inr (.inr (.inl (vf_upd (fun j => if j = 0 then x.2 else 0) 0 v)))))) = wl G (x.1, v) σ := by
  have e : vf_upd (fun j => if j = 0 then x.2 else 0) 0 v = fun j => if j = 0 then v else 0 := by
    funext j
    show (if j = 0 then v else (if j = 0 then x.2 else 0)) = _
    by_cases hj : j = 0
    · rw [if_pos hj, if_pos hj]
    · rw [if_neg hj, if_neg hj, if_neg hj]
  rw [e]
  apply List.ext_getElem?
  intro i
  by_cases hi : i = 107
  · subst hi
    rw [wl_at (by decide), List.getElem?_set_self (by simp [wl])]
    rfl
  · rw [List.getElem?_set_ne (Ne.symm hi)]
    unfold wl
    rw [List.getElem?_map, List.getElem?_map]
    cases h : (List.range 108)[i]? with
    | none => rfl
    | some j =>
      have hj : j = i := by
        obtain ⟨h3, h4⟩ := List.getElem?_eq_some_iff.mp h
        rw [← h4]
        simp
      subst hj
      have h108 : j < 108 := by
        have := (List.getElem?_eq_some_iff.mp h).1
        simpa using this
      dsimp only [Option.map_some]
      rw [ce_xD v j h108 hi]
def g_Metw (l : Launch) (y : MethodName) (cc : ByteArray) (nL : Nat) (hh : List (Nat × Nat × Nat × Nat)) (rm : Room) (G : GP) (As : List Value) (σ : Sto) (x : XP) (P : Int32 → Sto × XP → Prop) : Prop :=
  Met l y (Cond.codeWith y cc nL (some .int) hh :: TB) rm (va_Pc As (g_B G x σ)) (va_Qi P (fun u => g_B G u.2 u.1) (g_A G)) rm.cells rm.slots (g_A G)
theorem g_ofWw {l : Launch} {y : MethodName} {cc : ByteArray} {nL : Nat} {hh : List (Nat × Nat × Nat × Nat)} {rm : Room} {G : GP} {x : XP} {σ : Sto} {As : List Value} {P : Int32 → Sto × XP → Prop} (hy : plainName y.cls = true) (hlen : (lg_sl As).length ≤ nL)
    (body : ∀ (p : Program) (e : Env) (s : State) (m : MethodId) (args : Array Value) (below : List Frame) (meth : Method) (c : Code) (Q : State → Prop) (ls : Array Slot), g_C p s m args c cc nL y.cls G → c.exceptionTable.toList = tableOf hh → g_M G x σ s s.heap [] → lv_has ls nL (lv_args 0 As) →
      (∀ (pc : Nat) (H : Heap) (locs : List Loc) (ls : Array Slot) (v : Int32) (σ' : Sto) (x' : XP), decode cc pc = .ok (.ireturn, 1) → P v (σ', x') → g_M G x' σ' s H locs → W p l e rm s m args below meth c H locs rm.cells rm.slots Q (F0 m pc ls [.int v])) →
      W p l e rm s m args below meth c s.heap [] 0 0 Q (F0 m 0 ls [])) : g_Metw l y cc nL hh rm G As σ x P := by
  refine va_MetW (cc := cc) (maxL := nL) (ret := some .int) hy rfl ?_
  intro p e s m args below meth c s₁ B hml hv
  obtain ⟨rfl, hB⟩ := hv
  have hts := atoms_spec (ws := Cond.codeWith y cc nL (some .int) hh :: TB) B.pre
  have hl := lv_entry As (n := nL) hlen
  have hlocks := B.notSynchronized
  have htab := vx_table (x := y) B (hts _ List.mem_cons_self)
  rw [lg_entry_eq]
  exact body p e s m _ below meth c _ _ ⟨B.exec, B.bytes, hml, findClass_of_methodNamed B.named, fun w hw => hts w (List.mem_cons_of_mem _ hw), hB.K⟩ htab hB.M hl
    (fun pc H locs ls v σ' x' hd hP hM => W.iret B.exec B.bytes B.returns (fun t ht hW => ⟨⟨v, (σ', x'), rfl, hP, hM.B hB.K ht hW⟩, hM.2.F ht⟩) hM.2.2.2 hd)
/-- a static method with a table of its own -/
def g_Yw (y : MethodName) (bytes : ByteArray) (maxL : Nat) (hh : List (Nat × Nat × Nat × Nat)) (n : Nat) : Prop := Cond.codeWith y bytes maxL (some .int) hh ∈ TB ∧ Cond.static y ∈ TB ∧ Cond.initialized y.cls ∈ TB ∧ y.cls ≠ "java/lang/invoke/MethodHandle" ∧ y.cls ≠ "java/lang/invoke/VarHandle" ∧ (parseMethodDescriptor y.desc).map (fun d => d.parameters.length) = some n
section GL
variable {p : Program} {l : Launch} {e : Env} {R : Room} {s : State} {m : MethodId} {args : Array Value} {below : List Frame} {meth : Method} {c : Code} {H : Heap} {locs : List Loc} {cells slots : Nat} {Q : State → Prop}
variable {cc : ByteArray} {pc nL : Nat} {ls : Array Slot} {rest : List Value} {G : GP} {x : XP} {σ : Sto} {own : String} {index : Nat}
theorem g_last {v : Int64} (C : g_C p s m args c cc nL own G) (hM : g_M G x σ s H locs) (hdg : decode cc pc = .ok (.lastore, 1))
    (kk : ∀ (H : Heap) (locs : List Loc), g_M G (v, x.2) σ s H locs → W p l e R s m args below meth c H locs cells slots Q (F0 m (pc + 1) ls rest)) : W p l e R s m args below meth c H locs cells slots Q (F0 m pc ls (.long v :: .int 0 :: .ref (g_ad G 106) :: rest)) := by
  obtain ⟨hx, hb, hml, hown, hts, hK⟩ := C
  refine va_last hx hb hK.1 hM.1 (hK.D x σ) hM.2 106 3 (n := 1) (f := fun j => if j = 0 then x.1 else 0) ((wl_at (by decide)).trans rfl) rfl (vp_in_nI (n := 0) (by decide) (by decide)) hdg (fun H1 locs1 hP hD hS => kk H1 locs1 ⟨?_, hS⟩)
  rw [← wl_setL v]
  exact hP
theorem g_dast {v : UInt64} (C : g_C p s m args c cc nL own G) (hM : g_M G x σ s H locs) (hdg : decode cc pc = .ok (.dastore, 1))
    (kk : ∀ (H : Heap) (locs : List Loc), g_M G (x.1, v) σ s H locs → W p l e R s m args below meth c H locs cells slots Q (F0 m (pc + 1) ls rest)) : W p l e R s m args below meth c H locs cells slots Q (F0 m pc ls (.double v :: .int 0 :: .ref (g_ad G 107) :: rest)) := by
  obtain ⟨hx, hb, hml, hown, hts, hK⟩ := C
  refine va_dast hx hb hK.1 hM.1 (hK.D x σ) hM.2 107 4 (n := 1) (f := fun j => if j = 0 then x.2 else 0) ((wl_at (by decide)).trans rfl) rfl (vp_in_nI (n := 0) (by decide) (by decide)) hdg (fun H1 locs1 hP hD hS => kk H1 locs1 ⟨?_, hS⟩)
  rw [← wl_setD v]
  exact hP
theorem g_lald (C : g_C p s m args c cc nL own G) (hM : g_M G x σ s H locs) (hdg : decode cc pc = .ok (.laload, 1))
    (kk : W p l e R s m args below meth c H locs cells slots Q (F0 m (pc + 1) ls (.long x.1 :: rest))) : W p l e R s m args below meth c H locs cells slots Q (F0 m pc ls (.int 0 :: .ref (g_ad G 106) :: rest)) := by
  obtain ⟨hx, hb, hml, hown, hts, hK⟩ := C
  exact va_lald hx hb hK.1 hM.1 106 3 (n := 1) (f := fun j => if j = 0 then x.1 else 0) ((wl_at (by decide)).trans rfl) rfl (vp_in_nI (n := 0) (by decide) (by decide)) hdg kk
theorem g_dald (C : g_C p s m args c cc nL own G) (hM : g_M G x σ s H locs) (hdg : decode cc pc = .ok (.daload, 1))
    (kk : W p l e R s m args below meth c H locs cells slots Q (F0 m (pc + 1) ls (.double x.2 :: rest))) : W p l e R s m args below meth c H locs cells slots Q (F0 m pc ls (.int 0 :: .ref (g_ad G 107) :: rest)) := by
  obtain ⟨hx, hb, hml, hown, hts, hK⟩ := C
  exact va_dald hx hb hK.1 hM.1 107 4 (n := 1) (f := fun j => if j = 0 then x.2 else 0) ((wl_at (by decide)).trans rfl) rfl (vp_in_nI (n := 0) (by decide) (by decide)) hdg kk
variable {y : MethodName} {bytes : ByteArray} {maxL n : Nat} {Cn : String} {rm rmc : Room} {As st0 : List Value} {PX : String → Sto → Prop}
theorem g_wVi {ty : FieldType} {o ci : Nat} {F : (Nat → Int32) → List Value} {P : Int32 → Sto → Prop} {T : u_T} {N : Nat} (C : g_C p s m args c cc nL own G) (hM : g_M G x σ s H locs) (hl : ls.size = nL) (hY : g_Yv y bytes maxL (some ty) n Cn) (hlk : Cond.methodLink own index y ∈ TB) (ho : o < 108) (hce : ∀ f, ceF G x o f = .inr (ci, F f)) (hcl : g_cls[ci]? = some (Cn, T, N))
    (hmet : g_Mxi l y bytes maxL (some ty) rmc G x (.ref (g_ad G o) :: As) σ P PX) (hn : As.length = n) (hst : st0 = As.reverse ++ .ref (g_ad G o) :: rest) (hR : (rmc.frames + 1 ≤ rm.frames ∧ 8 + (maxL + 11) + rmc.locals ≤ rm.locals) ∧ cells + rmc.cells ≤ rm.cells ∧ slots + rmc.slots ≤ rm.slots) (hrest : (rest.map fun v => v.category).sum ≤ 8) (hdg : decode cc pc = .ok (.invokevirtual index, 3))
    (hprop : ∀ (E : String) (ce : Cell) (q9 : Addr) (σ' : Sto) (H : Heap) (locs : List Loc), PX E σ' → g_M G x σ' s H locs → H[q9]? = some ce → ce.vm = .none → s.vm.findClass E = some ce.cls → vx_W p l e rm s m args below meth c H locs (cells + rmc.cells) (slots + rmc.slots) Q (F0 m pc ls rest) q9)
    (kk : ∀ (r : Int32) (σ' : Sto) (H : Heap) (locs : List Loc), P r σ' → g_M G x σ' s H locs → W p l e rm s m args below meth c H locs (cells + rmc.cells) (slots + rmc.slots) Q (F0 m (pc + 3) ls (.int r :: rest))) : W p l e rm s m args below meth c H locs cells slots Q (F0 m pc ls st0) := by
  have hK := C.2.2.2.2.2
  obtain ⟨hx, hb, hml, hown, hts, -⟩ := C
  obtain ⟨y1, y2, y3, y4, y5, y6⟩ := hY
  have hcw : CallW rm s args own Cn index y bytes maxL (some ty) (Cond.code y bytes maxL (some ty) :: TB) rmc rmc.cells rmc.slots n := ⟨callB_of n hts (TB_gin y1) rfl rfl rfl (hts _ (by rw [y5]; exact y4)) (hts _ hlk) y6 hR.1, hts _ y2, hts _ y3⟩
  exact vx_calli (vx_runV (As := As) (rest := rest) ⟨hx, hb, hml, hown, hts⟩ hmet hcw ⟨g_blind, va_recv hK.1 hM.1 hcl ((wl_at ho).trans (by rw [hce])), fun U hU hW => ⟨rfl, hM.B hK hU hW⟩⟩ rfl hn hl hst (lv_room hrest) hdg hR.2) hM.2 (fun _ _ h => h) (fun _ h => h) (fun _ _ h => h)
    (fun E ce q9 u t H1 locs1 ht hvm _ hB _ _ hS h1 h2 h3 => hprop E ce q9 u H1 locs1 hB.1 ⟨by rw [← ht]; exact hB.2.1, hS⟩ h1 h2 h3)
    (fun r u t H1 locs1 ht hvm hw hB _ _ hS => kk r u H1 locs1 hw ⟨by rw [← ht]; exact hB.1, hS⟩)
theorem g_wVd {o ci : Nat} {F : (Nat → Int32) → List Value} {P : UInt64 → Sto → Prop} {T : u_T} {N : Nat} (C : g_C p s m args c cc nL own G) (hM : g_M G x σ s H locs) (hl : ls.size = nL) (hY : g_Yv y bytes maxL (some .double) n Cn) (hlk : Cond.methodLink own index y ∈ TB) (ho : o < 108) (hce : ∀ f, ceF G x o f = .inr (ci, F f)) (hcl : g_cls[ci]? = some (Cn, T, N))
    (hmet : g_Mxd l y bytes maxL rmc G x (.ref (g_ad G o) :: As) σ P PX) (hn : As.length = n) (hst : st0 = As.reverse ++ .ref (g_ad G o) :: rest) (hR : (rmc.frames + 1 ≤ rm.frames ∧ 8 + (maxL + 11) + rmc.locals ≤ rm.locals) ∧ cells + rmc.cells ≤ rm.cells ∧ slots + rmc.slots ≤ rm.slots) (hrest : (rest.map fun v => v.category).sum ≤ 8) (hdg : decode cc pc = .ok (.invokevirtual index, 3))
    (hprop : ∀ (E : String) (ce : Cell) (q9 : Addr) (σ' : Sto) (H : Heap) (locs : List Loc), PX E σ' → g_M G x σ' s H locs → H[q9]? = some ce → ce.vm = .none → s.vm.findClass E = some ce.cls → vx_W p l e rm s m args below meth c H locs (cells + rmc.cells) (slots + rmc.slots) Q (F0 m pc ls rest) q9)
    (kk : ∀ (r : UInt64) (σ' : Sto) (H : Heap) (locs : List Loc), P r σ' → g_M G x σ' s H locs → W p l e rm s m args below meth c H locs (cells + rmc.cells) (slots + rmc.slots) Q (F0 m (pc + 3) ls (.double r :: rest))) : W p l e rm s m args below meth c H locs cells slots Q (F0 m pc ls st0) := by
  have hK := C.2.2.2.2.2
  obtain ⟨hx, hb, hml, hown, hts, -⟩ := C
  obtain ⟨y1, y2, y3, y4, y5, y6⟩ := hY
  have hcw : CallW rm s args own Cn index y bytes maxL (some .double) (Cond.code y bytes maxL (some .double) :: TB) rmc rmc.cells rmc.slots n := ⟨callB_of n hts (TB_gin y1) rfl rfl rfl (hts _ (by rw [y5]; exact y4)) (hts _ hlk) y6 hR.1, hts _ y2, hts _ y3⟩
  exact vx_calld (vx_runV (As := As) (rest := rest) ⟨hx, hb, hml, hown, hts⟩ hmet hcw ⟨g_blind, va_recv hK.1 hM.1 hcl ((wl_at ho).trans (by rw [hce])), fun U hU hW => ⟨rfl, hM.B hK hU hW⟩⟩ rfl hn hl hst (lv_room hrest) hdg hR.2) hM.2 (fun _ _ h => h) (fun _ h => h) (fun _ _ h => h)
    (fun E ce q9 u t H1 locs1 ht hvm _ hB _ _ hS h1 h2 h3 => hprop E ce q9 u H1 locs1 hB.1 ⟨by rw [← ht]; exact hB.2.1, hS⟩ h1 h2 h3)
    (fun r u t H1 locs1 ht hvm hw hB _ _ hS => kk r u H1 locs1 hw ⟨by rw [← ht]; exact hB.1, hS⟩)
/-- a wrapper, called by the law -/
theorem g_cSw {hh : List (Nat × Nat × Nat × Nat)} {P : Int32 → Sto × XP → Prop} (C : g_C p s m args c cc nL own G) (hM : g_M G x σ s H locs) (hl : ls.size = nL) (hY : g_Yw y bytes maxL hh n) (hlk : Cond.methodLink own index y ∈ TB)
    (hmet : g_Metw l y bytes maxL hh rmc G As σ x P) (hn : As.length = n) (hst : st0 = As.reverse ++ rest) (hR : (rmc.frames + 1 ≤ R.frames ∧ 8 + (maxL + 11) + rmc.locals ≤ R.locals) ∧ cells + rmc.cells ≤ R.cells ∧ slots + rmc.slots ≤ R.slots) (hrest : (rest.map fun v => v.category).sum ≤ 8) (hdg : decode cc pc = .ok (.invokestatic index, 3))
    (kk : ∀ (r : Int32) (u : Sto × XP) (H : Heap) (locs : List Loc), P r u → g_M G u.2 u.1 s H locs → W p l e R s m args below meth c H locs (cells + rmc.cells) (slots + rmc.slots) Q (F0 m (pc + 3) ls (.int r :: rest))) : W p l e R s m args below meth c H locs cells slots Q (F0 m pc ls st0) := by
  have hK := C.2.2.2.2.2
  obtain ⟨hx, hb, hml, hown, hts, -⟩ := C
  obtain ⟨y1, y2, y4, y5⟩ := hY
  have hG : GoodIn TB (Cond.codeWith y bytes maxL (some .int) hh :: TB) := TB_gin y1
  have hc : Cond.codeWith y bytes maxL (some .int) hh ∈ Cond.codeWith y bytes maxL (some .int) hh :: TB := List.mem_cons_self
  have hcw : vx_CSW R s args own index y bytes maxL (some .int) hh (Cond.codeWith y bytes maxL (some .int) hh :: TB) rmc rmc.cells rmc.slots n := ⟨⟨rfl, rfl, hR.1.1, hR.1.2, pay_in hts hG, hc⟩, hts _ y1, hts _ y4, ⟨y5.1, y5.2.1⟩, fun sig h => (by have h2 := y5.2.2; rw [h] at h2; exact (Option.some.inj h2).symm), hts _ hlk, hts _ y2⟩
  exact va_calli (vx_runSW (As := As) (rest := rest) ⟨hx, hb, hml, hown, hts⟩ hmet hcw ⟨g_blind, fun U hU hW => ⟨rfl, hM.B hK hU hW⟩⟩ rfl hn hl hst (lv_room hrest) hdg hR.2) hM.2 (fun _ _ h => h) (fun _ h => h) (fun r u t H1 locs1 ht hvm hw hB _ _ hS => kk r u H1 locs1 hw ⟨by rw [← ht]; exact hB.1, hS⟩)
end GL
