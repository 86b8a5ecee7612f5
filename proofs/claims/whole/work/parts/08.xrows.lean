/-! methods that may throw: where nothing is caught, the world is as it was when it was thrown -/
/-- at pc stands 'throw new E()' -/
def g_Th (cc : ByteArray) (own : String) (pc : Nat) (E : String) (ik ic : Nat) : Prop := ∃ names : List String, names.length = 2 ∧ Bundle.fit E = true ∧ (∀ n ∈ names, Bundle.fit n = true) ∧ Cond.classLink own ik E ∈ TB ∧ Cond.initialized E ∈ TB ∧ (∀ w ∈ vx_at0 own ic E names, w ∈ TB ∨ w ∈ g_NW) ∧ (∀ w ∈ vx_at0 own ic E names, vx_ot w = true) ∧ decode cc pc = .ok (.new ik, 3) ∧ decode cc (pc + 3) = .ok (.dup, 1) ∧ decode cc (pc + 4) = .ok (.invokespecial ic, 3) ∧ decode cc (pc + 7) = .ok (.athrow, 1)
section GX
variable {p : Program} {l : Launch} {e : Env} {R : Room} {s : State} {m : MethodId} {args : Array Value} {below : List Frame} {meth : Method} {c : Code} {H : Heap} {locs : List Loc} {cells slots : Nat} {Q : State → Prop}
variable {cc : ByteArray} {pc nL : Nat} {ls : Array Slot} {rest : List Value} {G : GP} {x : XP} {σ : Sto} {own : String} {index : Nat}
theorem g_XB {PX : String → Sto → Prop} {E : String} {t : State} (hK : g_K G s) (hM : g_M G x σ s H locs) (h : PX E σ) (hvm : s.vm.Alike t.vm) (hz : H.size ≤ t.heap.size) (hk : ∀ q : Nat, q < H.size → t.heap[q]? = H[q]?) : g_X G x PX E s t := by
  have hP : va_P G.2.2.1 g_cls (wl G x σ) t.heap := hM.1.kept (fun k q hq => hk q.1 (hM.1 k q hq).lt)
  have hS : va_S (g_A G) s.heap t.heap locs := ⟨Nat.le_trans hM.2.1 hz, fun q h1 h2 => by rw [hk q (Nat.lt_of_lt_of_le h1 hM.2.1)]; exact hM.2.2.1 q h1 h2, hM.2.2.2⟩
  exact ⟨σ, trivial, ⟨h, hP, hK.go hS rfl hvm⟩, hS.F rfl⟩
/-- how a thrown exception leaves: what a body is given -/
def g_Prop (p : Program) (l : Launch) (e : Env) (rm : Room) (s : State) (m : MethodId) (args : Array Value) (below : List Frame) (meth : Method) (c : Code) (G : GP) (x : XP) (PX : String → Sto → Prop) (Q : State → Prop) : Prop :=
  ∀ (pc : Nat) (H : Heap) (locs : List Loc) (ls : Array Slot) (rest : List Value) (cells slots : Nat) (E : String) (ce : Cell) (q9 : Addr) (σ' : Sto), PX E σ' → g_M G x σ' s H locs → H[q9]? = some ce → ce.vm = .none → s.vm.findClass E = some ce.cls → cells ≤ rm.cells → slots ≤ rm.slots →
    vx_W p l e rm s m args below meth c H locs cells slots Q (F0 m pc ls rest) q9
def g_Throw (p : Program) (l : Launch) (e : Env) (rm : Room) (s : State) (m : MethodId) (args : Array Value) (below : List Frame) (meth : Method) (c : Code) (cc : ByteArray) (nL : Nat) (own : String) (G : GP) (x : XP) (PX : String → Sto → Prop) (Q : State → Prop) : Prop :=
  ∀ {pc ik ic : Nat} {E : String} {H : Heap} {locs : List Loc} {ls : Array Slot} {rest : List Value} {cells slots : Nat} {σ' : Sto}, g_Th cc own pc E ik ic → PX E σ' → g_M G x σ' s H locs → ls.size = nL → (rest.map fun v => v.category).sum + 81 ≤ rm.locals → cells + 1 ≤ rm.cells ∧ slots + 6 ≤ rm.slots →
    W p l e rm s m args below meth c H locs cells slots Q (F0 m pc ls rest)
theorem g_prop {rm : Room} {PX : String → Sto → Prop} {Qc : Array Value → State → Outcome → State → Prop} (hK : g_K G s) (hout : ∀ x ∈ c.exceptionTable.toList, False) (hlocks : meth.locks = false) : g_Prop p l e rm s m args below meth c G x PX (vx_MQ below Qc (g_X G x PX) args s rm.cells rm.slots (g_A G)) := by
  intro pc H locs ls rest cells slots E ce q9 σ' h hM h1 h2 h3 h4 h5
  exact vx_out (fun x hx => (hout x hx).elim) hlocks h1 h2 h3 (fun t ht hvm => g_XB hK hM h hvm (by rw [ht]; exact Nat.le_refl _) (fun q _ => by rw [ht])) hM.2.2.2 h4 h5
theorem g_throw {rm : Room} {PX : String → Sto → Prop} {Qc : Array Value → State → Outcome → State → Prop} (hl0 : l.stackTraces = false) (hx : p.tables.exec = Jvm.exec) (hb : c.code = cc) (hml : c.maxLocals = nL) (hown : s.vm.findClass own = some m.cls) (hts : ∀ w ∈ TB, w.before args s = true) (hK : g_K G s) (hout : ∀ x ∈ c.exceptionTable.toList, False) (hlocks : meth.locks = false) (hfr : 6 ≤ rm.frames ∨ ¬ 81 ≤ rm.locals) :
    g_Throw p l e rm s m args below meth c cc nL own G x PX (vx_MQ below Qc (g_X G x PX) args s rm.cells rm.slots (g_A G)) := by
  intro pc ik ic E H locs ls rest cells slots σ' ⟨names, n1, n2, n3, n4, n5, n6, n7, d0, d3, d4, d7⟩ h hM hls hlo hcs
  have hgood : ∀ w ∈ Cond.classLink own ik E :: Cond.initialized E :: vx_at0 own ic E names, vx_ot w = true := by
    intro w hw
    rcases List.mem_cons.mp hw with rfl | hw
    · unfold vx_ot
      rw [TB_good n4]
      simp
    · rcases List.mem_cons.mp hw with rfl | hw
      · unfold vx_ot
        rw [TB_good n5]
        simp
      · exact n7 w hw
  exact vx_throw0 hx hb hl0 hown n2 n3 (hts _ n4) (hts _ n5) (fun w hw => (n6 w hw).elim (hts w) (fun h => hK.2.2.2.2.2.2.use h)) hgood hK.2.2.2.2.1 hK.2.2.2.2.2.1 hM.2 (hls.trans hml.symm) d0 d3 d4 d7 (fun x hx => (hout x hx).elim) (by rw [n1]; omega) (by rw [n1]; omega) (Nat.le_trans hcs.1 (Nat.le_refl _)) (Nat.le_trans hcs.2 (Nat.le_refl _)) hlocks
    (fun t hvm hz hk => g_XB hK hM h hvm hz hk) hM.2.2.2 hcs.1 hcs.2
variable {y : MethodName} {bytes : ByteArray} {maxL n : Nat} {Cn : String} {rm rmc : Room} {As st0 : List Value} {PX : String → Sto → Prop}
theorem g_cxVi {ty : FieldType} {o ci : Nat} {F : (Nat → Int32) → List Value} {P : Int32 → Sto → Prop} {T : u_T} {N : Nat} (C : g_C p s m args c cc nL own G) (hM : g_M G x σ s H locs) (hl : ls.size = nL) (hY : g_Yv y bytes maxL (some ty) n Cn) (hlk : Cond.methodLink own index y ∈ TB) (ho : o < 108) (hce : ∀ f, ceF G x o f = .inr (ci, F f)) (hcl : g_cls[ci]? = some (Cn, T, N))
    (hmet : g_Mxi l y bytes maxL (some ty) rmc G x (.ref (g_ad G o) :: As) σ P PX) (hn : As.length = n) (hst : st0 = As.reverse ++ .ref (g_ad G o) :: rest) (hR : (rmc.frames + 1 ≤ rm.frames ∧ 8 + (maxL + 11) + rmc.locals ≤ rm.locals) ∧ cells + rmc.cells ≤ rm.cells ∧ slots + rmc.slots ≤ rm.slots) (hrest : (rest.map fun v => v.category).sum ≤ 8) (hdg : decode cc pc = .ok (.invokevirtual index, 3)) (hprop : g_Prop p l e rm s m args below meth c G x PX Q)
    (kk : ∀ (r : Int32) (σ' : Sto) (H : Heap) (locs : List Loc), P r σ' → g_M G x σ' s H locs → W p l e rm s m args below meth c H locs (cells + rmc.cells) (slots + rmc.slots) Q (F0 m (pc + 3) ls (.int r :: rest))) : W p l e rm s m args below meth c H locs cells slots Q (F0 m pc ls st0) := by
  have hK := C.2.2.2.2.2
  obtain ⟨hx, hb, hml, hown, hts, -⟩ := C
  obtain ⟨y1, y2, y3, y4, y5, y6⟩ := hY
  have hcw : CallW rm s args own Cn index y bytes maxL (some ty) (Cond.code y bytes maxL (some ty) :: TB) rmc rmc.cells rmc.slots n := ⟨callB_of n hts (TB_gin y1) rfl rfl rfl (hts _ (by rw [y5]; exact y4)) (hts _ hlk) y6 hR.1, hts _ y2, hts _ y3⟩
  exact vx_calli (vx_runV (As := As) (rest := rest) ⟨hx, hb, hml, hown, hts⟩ hmet hcw ⟨g_blind, va_recv hK.1 hM.1 hcl ((wl_at ho).trans (by rw [hce])), fun U hU hW => ⟨rfl, hM.B hK hU hW⟩⟩ rfl hn hl hst (lv_room hrest) hdg hR.2) hM.2 (fun _ _ h => h) (fun _ h => h) (fun _ _ h => h)
    (fun E ce q9 u t H1 locs1 ht hvm _ hB _ _ hS h1 h2 h3 => hprop _ H1 locs1 _ _ _ _ E ce q9 u hB.1 ⟨by rw [← ht]; exact hB.2.1, hS⟩ h1 h2 h3 hR.2.1 hR.2.2)
    (fun r u t H1 locs1 ht hvm hw hB _ _ hS => kk r u H1 locs1 hw ⟨by rw [← ht]; exact hB.1, hS⟩)
theorem g_cxVv {o ci : Nat} {F : (Nat → Int32) → List Value} {P : Sto → Prop} {T : u_T} {N : Nat} (C : g_C p s m args c cc nL own G) (hM : g_M G x σ s H locs) (hl : ls.size = nL) (hY : g_Yv y bytes maxL none n Cn) (hlk : Cond.methodLink own index y ∈ TB) (ho : o < 108) (hce : ∀ f, ceF G x o f = .inr (ci, F f)) (hcl : g_cls[ci]? = some (Cn, T, N))
    (hmet : g_Mxv l y bytes maxL rmc G x (.ref (g_ad G o) :: As) σ P PX) (hn : As.length = n) (hst : st0 = As.reverse ++ .ref (g_ad G o) :: rest) (hR : (rmc.frames + 1 ≤ rm.frames ∧ 8 + (maxL + 11) + rmc.locals ≤ rm.locals) ∧ cells + rmc.cells ≤ rm.cells ∧ slots + rmc.slots ≤ rm.slots) (hrest : (rest.map fun v => v.category).sum ≤ 8) (hdg : decode cc pc = .ok (.invokevirtual index, 3)) (hprop : g_Prop p l e rm s m args below meth c G x PX Q)
    (kk : ∀ (σ' : Sto) (H : Heap) (locs : List Loc), P σ' → g_M G x σ' s H locs → W p l e rm s m args below meth c H locs (cells + rmc.cells) (slots + rmc.slots) Q (F0 m (pc + 3) ls rest)) : W p l e rm s m args below meth c H locs cells slots Q (F0 m pc ls st0) := by
  have hK := C.2.2.2.2.2
  obtain ⟨hx, hb, hml, hown, hts, -⟩ := C
  obtain ⟨y1, y2, y3, y4, y5, y6⟩ := hY
  have hcw : CallW rm s args own Cn index y bytes maxL none (Cond.code y bytes maxL none :: TB) rmc rmc.cells rmc.slots n := ⟨callB_of n hts (TB_gin y1) rfl rfl rfl (hts _ (by rw [y5]; exact y4)) (hts _ hlk) y6 hR.1, hts _ y2, hts _ y3⟩
  exact vx_callv (vx_runV (As := As) (rest := rest) ⟨hx, hb, hml, hown, hts⟩ hmet hcw ⟨g_blind, va_recv hK.1 hM.1 hcl ((wl_at ho).trans (by rw [hce])), fun U hU hW => ⟨rfl, hM.B hK hU hW⟩⟩ rfl hn hl hst (lv_room hrest) hdg hR.2) hM.2 (fun _ _ h => h) (fun _ h => h) (fun _ _ h => h)
    (fun E ce q9 u t H1 locs1 ht hvm _ hB _ _ hS h1 h2 h3 => hprop _ H1 locs1 _ _ _ _ E ce q9 u hB.1 ⟨by rw [← ht]; exact hB.2.1, hS⟩ h1 h2 h3 hR.2.1 hR.2.2)
    (fun u t H1 locs1 ht hvm hw hB _ _ hS => kk u H1 locs1 hw ⟨by rw [← ht]; exact hB.1, hS⟩)
theorem g_cxSv {P : Sto → Prop} (C : g_C p s m args c cc nL own G) (hM : g_M G x σ s H locs) (hl : ls.size = nL) (hY : g_Ys y bytes maxL none n Cn) (hlk : Cond.methodLink own index y ∈ TB)
    (hmet : g_Mxv l y bytes maxL rmc G x As σ P PX) (hn : As.length = n) (hst : st0 = As.reverse ++ rest) (hR : (rmc.frames + 1 ≤ rm.frames ∧ 8 + (maxL + 11) + rmc.locals ≤ rm.locals) ∧ cells + rmc.cells ≤ rm.cells ∧ slots + rmc.slots ≤ rm.slots) (hrest : (rest.map fun v => v.category).sum ≤ 8) (hdg : decode cc pc = .ok (.invokestatic index, 3)) (hprop : g_Prop p l e rm s m args below meth c G x PX Q)
    (kk : ∀ (σ' : Sto) (H : Heap) (locs : List Loc), P σ' → g_M G x σ' s H locs → W p l e rm s m args below meth c H locs (cells + rmc.cells) (slots + rmc.slots) Q (F0 m (pc + 3) ls rest)) : W p l e rm s m args below meth c H locs cells slots Q (F0 m pc ls st0) := by
  have hK := C.2.2.2.2.2
  obtain ⟨hx, hb, hml, hown, hts, -⟩ := C
  obtain ⟨y1, y2, y4, y5, y6⟩ := hY
  have hcw : CallB rm s args own index y bytes maxL none (Cond.code y bytes maxL none :: TB) rmc rmc.cells rmc.slots n ∧ (Cond.static y).before args s = true := ⟨callB_of n hts (TB_gin y1) rfl rfl rfl (hts _ (by rw [y5]; exact y4)) (hts _ hlk) y6 hR.1, hts _ y2⟩
  exact vx_callv (vx_runS (As := As) (rest := rest) ⟨hx, hb, hml, hown, hts⟩ hmet hcw ⟨g_blind, fun U hU hW => ⟨rfl, hM.B hK hU hW⟩⟩ rfl hn hl hst (lv_room hrest) hdg hR.2) hM.2 (fun _ _ h => h) (fun _ h => h) (fun _ _ h => h)
    (fun E ce q9 u t H1 locs1 ht hvm _ hB _ _ hS h1 h2 h3 => hprop _ H1 locs1 _ _ _ _ E ce q9 u hB.1 ⟨by rw [← ht]; exact hB.2.1, hS⟩ h1 h2 h3 hR.2.1 hR.2.2)
    (fun u t H1 locs1 ht hvm hw hB _ _ hS => kk u H1 locs1 hw ⟨by rw [← ht]; exact hB.1, hS⟩)
end GX
theorem g_ofXi {l : Launch} (hl0 : l.stackTraces = false) {y : MethodName} {cc : ByteArray} {nL : Nat} {ty : FieldType} {rm : Room} {G : GP} {x : XP} {σ : Sto} {As : List Value} {P : Int32 → Sto → Prop} {PX : String → Sto → Prop} (hy : plainName y.cls = true) (hlen : (lg_sl As).length ≤ nL) (hfr : 6 ≤ rm.frames ∨ ¬ 81 ≤ rm.locals)
    (body : ∀ (p : Program) (e : Env) (s : State) (m : MethodId) (args : Array Value) (below : List Frame) (meth : Method) (c : Code) (Q : State → Prop) (ls : Array Slot), g_C p s m args c cc nL y.cls G → g_M G x σ s s.heap [] → lv_has ls nL (lv_args 0 As) →
      (∀ (pc : Nat) (H : Heap) (locs : List Loc) (ls : Array Slot) (v : Int32) (σ' : Sto), decode cc pc = .ok (.ireturn, 1) → narrow ty (.int v) = .int v → P v σ' → g_M G x σ' s H locs → W p l e rm s m args below meth c H locs rm.cells rm.slots Q (F0 m pc ls [.int v])) →
      g_Prop p l e rm s m args below meth c G x PX Q → g_Throw p l e rm s m args below meth c cc nL y.cls G x PX Q →
      W p l e rm s m args below meth c s.heap [] 0 0 Q (F0 m 0 ls [])) : g_Mxi l y cc nL (some ty) rm G x As σ P PX := by
  refine vx_ofW (cc := cc) (maxL := nL) (ret := some ty) hy rfl ?_
  intro p e s m args below meth c s₁ B hml hout hv
  obtain ⟨rfl, hB⟩ := hv
  have hts := atoms_spec (ws := Cond.code y cc nL (some ty) :: TB) B.pre
  have hl := lv_entry As (n := nL) hlen
  have hlocks := B.notSynchronized
  have hC : g_C p s m As.toArray c cc nL y.cls G := ⟨B.exec, B.bytes, hml, findClass_of_methodNamed B.named, fun w hw => hts w (List.mem_cons_of_mem _ hw), hB.K⟩
  rw [lg_entry_eq]
  exact body p e s m _ below meth c _ _ hC hB.M hl
    (fun pc H locs ls v σ' hd hn hP hM => vx_ret (W.zret B.exec B.bytes B.returns hn (fun t ht hW => ⟨⟨v, σ', rfl, hP, hM.B hB.K ht hW⟩, hM.2.F ht⟩) hM.2.2.2 hd))
    (g_prop hB.K hout hlocks) (g_throw hl0 hC.1 hC.2.1 hC.2.2.1 hC.2.2.2.1 hC.2.2.2.2.1 hB.K hout hlocks hfr)
theorem g_ofXv {l : Launch} (hl0 : l.stackTraces = false) {y : MethodName} {cc : ByteArray} {nL : Nat} {rm : Room} {G : GP} {x : XP} {σ : Sto} {As : List Value} {P : Sto → Prop} {PX : String → Sto → Prop} (hy : plainName y.cls = true) (hlen : (lg_sl As).length ≤ nL) (hfr : 6 ≤ rm.frames ∨ ¬ 81 ≤ rm.locals)
    (body : ∀ (p : Program) (e : Env) (s : State) (m : MethodId) (args : Array Value) (below : List Frame) (meth : Method) (c : Code) (Q : State → Prop) (ls : Array Slot), g_C p s m args c cc nL y.cls G → g_M G x σ s s.heap [] → lv_has ls nL (lv_args 0 As) →
      (∀ (pc : Nat) (H : Heap) (locs : List Loc) (ls : Array Slot) (σ' : Sto), decode cc pc = .ok (.return_, 1) → P σ' → g_M G x σ' s H locs → W p l e rm s m args below meth c H locs rm.cells rm.slots Q (F0 m pc ls [])) →
      g_Prop p l e rm s m args below meth c G x PX Q → g_Throw p l e rm s m args below meth c cc nL y.cls G x PX Q →
      W p l e rm s m args below meth c s.heap [] 0 0 Q (F0 m 0 ls [])) : g_Mxv l y cc nL rm G x As σ P PX := by
  refine vx_ofW (cc := cc) (maxL := nL) (ret := none) hy rfl ?_
  intro p e s m args below meth c s₁ B hml hout hv
  obtain ⟨rfl, hB⟩ := hv
  have hts := atoms_spec (ws := Cond.code y cc nL none :: TB) B.pre
  have hl := lv_entry As (n := nL) hlen
  have hlocks := B.notSynchronized
  have hC : g_C p s m As.toArray c cc nL y.cls G := ⟨B.exec, B.bytes, hml, findClass_of_methodNamed B.named, fun w hw => hts w (List.mem_cons_of_mem _ hw), hB.K⟩
  rw [lg_entry_eq]
  exact body p e s m _ below meth c _ _ hC hB.M hl
    (fun pc H locs ls σ' hd hP hM => vx_ret (W.vret B.exec B.bytes B.returns (fun t ht hW => ⟨⟨σ', rfl, hP, hM.B hB.K ht hW⟩, hM.2.F ht⟩) hM.2.2.2 hd))
    (g_prop hB.K hout hlocks) (g_throw hl0 hC.1 hC.2.1 hC.2.2.1 hC.2.2.2.1 hC.2.2.2.2.1 hB.K hout hlocks hfr)
theorem g_ofXd {l : Launch} (hl0 : l.stackTraces = false) {y : MethodName} {cc : ByteArray} {nL : Nat} {rm : Room} {G : GP} {x : XP} {σ : Sto} {As : List Value} {P : UInt64 → Sto → Prop} {PX : String → Sto → Prop} (hy : plainName y.cls = true) (hlen : (lg_sl As).length ≤ nL) (hfr : 6 ≤ rm.frames ∨ ¬ 81 ≤ rm.locals)
    (body : ∀ (p : Program) (e : Env) (s : State) (m : MethodId) (args : Array Value) (below : List Frame) (meth : Method) (c : Code) (Q : State → Prop) (ls : Array Slot), g_C p s m args c cc nL y.cls G → g_M G x σ s s.heap [] → lv_has ls nL (lv_args 0 As) →
      (∀ (pc : Nat) (H : Heap) (locs : List Loc) (ls : Array Slot) (v : UInt64) (σ' : Sto), decode cc pc = .ok (.dreturn, 1) → P v σ' → g_M G x σ' s H locs → W p l e rm s m args below meth c H locs rm.cells rm.slots Q (F0 m pc ls [.double v])) →
      g_Prop p l e rm s m args below meth c G x PX Q → g_Throw p l e rm s m args below meth c cc nL y.cls G x PX Q →
      W p l e rm s m args below meth c s.heap [] 0 0 Q (F0 m 0 ls [])) : g_Mxd l y cc nL rm G x As σ P PX := by
  refine vx_ofW (cc := cc) (maxL := nL) (ret := some .double) hy rfl ?_
  intro p e s m args below meth c s₁ B hml hout hv
  obtain ⟨rfl, hB⟩ := hv
  have hts := atoms_spec (ws := Cond.code y cc nL (some .double) :: TB) B.pre
  have hl := lv_entry As (n := nL) hlen
  have hlocks := B.notSynchronized
  have hC : g_C p s m As.toArray c cc nL y.cls G := ⟨B.exec, B.bytes, hml, findClass_of_methodNamed B.named, fun w hw => hts w (List.mem_cons_of_mem _ hw), hB.K⟩
  rw [lg_entry_eq]
  exact body p e s m _ below meth c _ _ hC hB.M hl
    (fun pc H locs ls v σ' hd hP hM => vx_ret (W.dret B.exec B.bytes B.returns (fun t ht hW => ⟨⟨v, σ', rfl, hP, hM.B hB.K ht hW⟩, hM.2.F ht⟩) hM.2.2.2 hd))
    (g_prop hB.K hout hlocks) (g_throw hl0 hC.1 hC.2.1 hC.2.2.1 hC.2.2.2.1 hC.2.2.2.2.1 hB.K hout hlocks hfr)
