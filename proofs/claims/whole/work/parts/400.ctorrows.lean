/-! CONSTRUCTORS: the world is a list that grows; what was there before (w0) is never looked at -/
def c_NL : List (String × Nat × MethodName) := [("PolicyEngine", 11, yX8_init), ("PolicyEngine$State", 11, yX6_init), ("PolicyEngine$State", 20, yX2_init), ("PolicyEngine$History", 17, yX8_init), ("PolicyEngine", 66, yX0_init), ("PolicyEngine", 73, yX4_init), ("PolicyEngine$Reader", 17, yX6_init), ("PolicyEngine", 80, yX10_init)]
def c_N (U : State) : Prop := (∀ q ∈ c_NL, va_Nw (.methodLinkNest q.1 q.2.1 q.2.2 "PolicyEngine") U) ∧ va_AO RX8 U
theorem c_N.warm {s U : State} (hW : s.WarmedH U.vm) (h : c_N s) : c_N U := ⟨fun q hq => va_Nw.warmM hW (h.1 q hq), h.2.moved hW.alike⟩
theorem c_N.call {U : State} (h : c_N U) (g : JFrame) (mk : MethodId) (a : Array Value) : c_N (U.calling g mk a) := ⟨fun q hq => va_Nw.same (u := U) (U := U.calling g mk a) rfl rfl (h.1 q hq), va_AO.moved (u := U) (U := U.calling g mk a) (Vm.Alike.refl U.vm) h.2⟩
def c_K (G : GP) (U : State) : Prop := va_K G.2.2.1 g_cls (g_tys G) U ∧ G.1 ≤ U.heap.size ∧ c_N U
def c_M (G : GP) (ws : va_W) (s : State) (H : Heap) (locs : List Loc) : Prop := va_P G.2.2.1 g_cls ws H ∧ va_D (g_A G) ws ∧ va_S (g_A G) s.heap H locs
def c_B (G : GP) (ws : va_W) (U : State) : Prop := va_P G.2.2.1 g_cls ws U.heap ∧ va_D (g_A G) ws ∧ c_K G U
def c_Met (l : Launch) (y : MethodName) (cc : ByteArray) (nL : Nat) (rm : Room) (G : GP) (As : List Value) (ws : va_W) (P : va_W → Prop) : Prop :=
  Met l y (Cond.code y cc nL none :: TB) rm (va_Pc As (c_B G ws)) (va_Qv P (c_B G) (g_A G)) rm.cells rm.slots (g_A G)
def c_C (p : Program) (s : State) (m : MethodId) (args : Array Value) (meth : Method) (c : Code) (cc : ByteArray) (nL : Nat) (own : String) (G : GP) : Prop :=
  p.tables.exec = Jvm.exec ∧ c.code = cc ∧ c.maxLocals = nL ∧ s.vm.findClass own = some m.cls ∧ (∀ w ∈ TB, w.before args s = true) ∧ c_K G s
theorem c_blind {G : GP} {ws : va_W} {As : List Value} : FrameBlind (va_Pc As (c_B G ws)) := fun a U g mk q => by
  obtain ⟨q0, q1, q2, q3, q4, q5⟩ := q
  exact ⟨q0, q1, q2, va_K.moved (u := U) (U := U.calling g mk a) (Vm.Alike.refl U.vm) q3, q4, q5.call g mk a⟩
theorem c_M.B {G : GP} {ws : va_W} {s t : State} {H : Heap} {locs : List Loc} (hK : c_K G s) (hM : c_M G ws s H locs) (ht : t.heap = H) (hW : s.WarmedH t.vm) : c_B G ws t :=
  ⟨by rw [ht]; exact hM.1, hM.2.1, hK.1.moved hW.alike, Nat.le_trans hK.2.1 (by rw [ht]; exact hM.2.2.1), hK.2.2.warm hW⟩
theorem ap_at {w0 l : va_W} {j : Nat} {q : Nat × va_E} (h : l[j]? = some q) : (w0 ++ l)[w0.length + j]? = some q := by
  rw [List.getElem?_append_right (Nat.le_add_right _ _), Nat.add_sub_cancel_left]
  exact h
theorem ap_set {w0 l : va_W} {j : Nat} {q : Nat × va_E} : (w0 ++ l).set (w0.length + j) q = w0 ++ l.set j q := by
  rw [List.set_append_right _ _ (Nat.le_add_right _ _), Nat.add_sub_cancel_left]
theorem c_ofW {l : Launch} {y : MethodName} {cc : ByteArray} {nL : Nat} {rm : Room} {G : GP} {ws : va_W} {As : List Value} {P : va_W → Prop} (hy : plainName y.cls = true) (hn : y.name = "<init>") (hlen : (lg_sl As).length ≤ nL)
    (body : ∀ (p : Program) (e : Env) (s : State) (m : MethodId) (args : Array Value) (below : List Frame) (meth : Method) (c : Code) (Q : State → Prop) (ls : Array Slot), c_C p s m args meth c cc nL y.cls G → meth.name = "<init>" → c_M G ws s s.heap [] → lv_has ls nL (lv_args 0 As) →
      (∀ (pc : Nat) (H : Heap) (locs : List Loc) (ls : Array Slot) (w' : va_W), decode cc pc = .ok (.return_, 1) → P w' → c_M G w' s H locs → W p l e rm s m args below meth c H locs rm.cells rm.slots Q (F0 m pc ls [])) →
      W p l e rm s m args below meth c s.heap [] 0 0 Q (F0 m 0 ls [])) : c_Met l y cc nL rm G As ws P := by
  refine Met.ofW (cc := cc) (maxL := nL) (ret := none) hy rfl ?_
  intro p e s m args below meth c s₁ B hml hv
  obtain ⟨rfl, hB⟩ := hv
  have hts := atoms_spec (ws := Cond.code y cc nL none :: TB) B.pre
  have hl := lv_entry As (n := nL) hlen
  have hlocks := B.notSynchronized
  have hin : meth.name = "<init>" := (name_of_methodNamed B.named B.method).1.trans hn
  rw [lg_entry_eq]
  exact body p e s m _ below meth c _ _ ⟨B.exec, B.bytes, hml, findClass_of_methodNamed B.named, fun w hw => hts w (List.mem_cons_of_mem _ hw), hB.2.2⟩ hin ⟨hB.1, hB.2.1, va_S.rf⟩ hl
    (fun pc H locs ls w' hd hP hM => W.vret B.exec B.bytes B.returns (fun t ht hW => ⟨⟨w', rfl, hP, hM.B hB.2.2 ht hW⟩, hM.2.2.F ht⟩) hM.2.2.2.2 hd)
section CR
variable {p : Program} {l : Launch} {e : Env} {R : Room} {s : State} {m : MethodId} {args : Array Value} {below : List Frame} {meth : Method} {c : Code} {H : Heap} {locs : List Loc} {cells slots : Nat} {Q : State → Prop}
variable {cc : ByteArray} {pc nL : Nat} {ls : Array Slot} {rest : List Value} {G : GP} {w0 lw : va_W} {own : String} {index : Nat}
theorem c_A (C : c_C p s m args meth c cc nL own G) : ∀ q, s.heap.size ≤ q → g_A G q := fun q h => Nat.le_trans C.2.2.2.2.2.2.1 h
theorem c_objI (C : c_C p s m args meth c cc nL own G) (hl : ls.size = nL) {a : Addr} (hw : Cond.methodLink own index objectInit ∈ TB ∧ Cond.instanceMethod objectInit ∈ TB ∧ Cond.code objectInit ⟨#[0xb1]⟩ 1 none ∈ TB) (hR : 1 ≤ R.frames ∧ (rest.map fun v => v.category).sum + 12 ≤ R.locals) (hdg : decode cc pc = .ok (.invokespecial index, 3))
    (kk : W p l e R s m args below meth c H locs cells slots Q (F0 m (pc + 3) ls rest)) : W p l e R s m args below meth c H locs cells slots Q (F0 m pc ls (.ref a :: rest)) := by
  obtain ⟨hx, hb, hml, hown, hts, hK⟩ := C
  exact W.objInit hx hb hown (hts _ hw.1) (hts _ hw.2.1) (hts _ hw.2.2) rfl (hl.trans hml.symm) rfl hdg hR.1 (by show 2 * 0 + _ + 12 ≤ _; rw [Nat.mul_zero, Nat.zero_add]; exact hR.2) kk
theorem c_new {ci N : Nat} {Cn : String} {T : u_T} {ty : Nat → FieldType} {fs : List Value} (C : c_C p s m args meth c cc nL own G) (hM : c_M G (w0 ++ lw) s H locs) (hc : g_cls[ci]? = some (Cn, T, N)) (hin : ∀ w ∈ u_ws Cn T N, w ∈ TB) (hty : ∀ k, k < N → parseFieldDescriptor (T k).2.2.1 = some (ty k)) (hw : Cond.classLink own index Cn ∈ TB ∧ Cond.instantiable Cn N ∈ TB ∧ Cond.initialized Cn ∈ TB) (hfs : ∀ j, j < N → defaultValue (ty j) = vp_V fs j) (hR : cells + 1 ≤ R.cells ∧ slots + N ≤ R.slots) (hdg : decode cc pc = .ok (.new index, 3))
    (kk : ∀ (q : Nat) (H : Heap), c_M G (w0 ++ (lw ++ [(q, .inr (ci, fs))])) s H locs → W p l e R s m args below meth c H locs (cells + 1) (slots + N) Q (F0 m (pc + 3) ls (.ref q :: rest))) : W p l e R s m args below meth c H locs cells slots Q (F0 m pc ls rest) := by
  have hA := c_A C
  obtain ⟨hx, hb, hml, hown, hts, hK⟩ := C
  refine va_new hx hb hts hin ty hty hown (hts _ hw.1) (hts _ hw.2.1) (hts _ hw.2.2) hK.1 hM.1 hM.2.1 hM.2.2 hA hc hfs hR.1 hR.2 hdg (fun q H1 hP hD hS => kk q H1 ?_)
  rw [List.append_assoc] at hP hD
  exact ⟨hP, hD, hS⟩
theorem c_newa {atype : ArrayType} {ty : FieldType} {t0 N' : Nat} {n : Int32} {cA0 : ClassId} {a0 : vp_A} (C : c_C p s m args meth c cc nL own G) (hM : c_M G (w0 ++ lw) s H locs) (harr : Cond.arrayClass (newarray.typeOf atype) ∈ TB) (hty : newarray.typeOf atype = ty) (ht : (g_tys G)[t0]? = some (cA0, ty)) (hra : ∀ (cA : ClassId), va_RA s cA ty → s.vm.findClass ("[" ++ ty.toString) = some cA)
    (ha : ∀ cA : ClassId, vp_cell cA a0 = arrV cA N' (fun _ => defaultValue ty)) (hn : ¬ n < 0) (hN : n.toNatClampNeg = N') (hbytes : N' * componentBytes ty ≤ 536870912) (hR : cells + 1 ≤ R.cells ∧ slots + N' ≤ R.slots) (hdg : decode cc pc = .ok (.newarray atype, 2))
    (kk : ∀ (q : Nat) (H : Heap), c_M G (w0 ++ (lw ++ [(q, .inl (cA0, a0))])) s H locs → W p l e R s m args below meth c H locs (cells + 1) (slots + N') Q (F0 m (pc + 2) ls (.ref q :: rest))) : W p l e R s m args below meth c H locs cells slots Q (F0 m pc ls (.int n :: rest)) := by
  have hA := c_A C
  obtain ⟨hx, hb, hml, hown, hts, hK⟩ := C
  refine va_newa hx hb (hts _ harr) hty hK.1 hM.1 hM.2.1 hM.2.2 hA ha hn hN hbytes hR.1 hR.2 hdg (fun q cA H1 hK1 hP hD hS => kk q H1 ?_)
  have h1 := hra _ (hK.1.2 t0 _ ht).2
  have h2 := hra _ (hK1.2 (g_tys G).length (cA, ty) (by rw [List.getElem?_append_right (Nat.le_refl _), Nat.sub_self]; rfl)).2
  have e : cA0 = cA := Option.some.inj (h1.symm.trans h2)
  rw [e, ← List.append_assoc]
  exact ⟨hP, hD, hS⟩
theorem c_newq {N' : Nat} {n : Int32} (C : c_C p s m args meth c cc nL own G) (hM : c_M G (w0 ++ lw) s H locs) (hw : Cond.classLink own index RX8 ∈ TB) (hn : ¬ n < 0) (hN : n.toNatClampNeg = N') (hbytes : N' * 4 ≤ 536870912) (hR : cells + 1 ≤ R.cells ∧ slots + N' ≤ R.slots) (hdg : decode cc pc = .ok (.anewarray index, 3))
    (kk : ∀ (q : Nat) (H : Heap), c_M G (w0 ++ (lw ++ [(q, .inl (G.2.2.2 2, N', .inr (.inr (.inr (.inr (fun _ => none))))))])) s H locs → W p l e R s m args below meth c H locs (cells + 1) (slots + N') Q (F0 m (pc + 3) ls (.ref q :: rest))) : W p l e R s m args below meth c H locs cells slots Q (F0 m pc ls (.int n :: rest)) := by
  have hA := c_A C
  obtain ⟨hx, hb, hml, hown, hts, hK⟩ := C
  refine va_newq hx hb hown (hts _ hw) hK.2.2.2 hK.1 hM.1 hM.2.1 hM.2.2 hA hn hN hbytes hR.1 hR.2 hdg (fun q cA H1 hK1 hP hD hS => kk q H1 ?_)
  obtain ⟨_, _, _, _, _, h1⟩ := (hK.1.2 2 (G.2.2.2 2, .object RX8) rfl).2
  obtain ⟨_, _, _, _, _, h2⟩ := (hK1.2 (g_tys G).length (cA, .object RX8) (by rw [List.getElem?_append_right (Nat.le_refl _), Nat.sub_self]; rfl)).2
  have e : G.2.2.2 2 = cA := Option.some.inj (h1.symm.trans h2)
  rw [e, ← List.append_assoc]
  exact ⟨hP, hD, hS⟩
theorem c_get {j ci N k : Nat} {Cn : String} {T : u_T} {a : Nat} {fs : List Value} {v : Value} (C : c_C p s m args meth c cc nL own G) (hM : c_M G (w0 ++ lw) s H locs) (hj : lw[j]? = some (a, .inr (ci, fs))) (hc : g_cls[ci]? = some (Cn, T, N)) (hin : ∀ w ∈ u_ws Cn T N, w ∈ TB) (hk : k < N) (hlk : Cond.fieldLink own index (T k).1 (T k).2.1 (T k).2.2.1 ∈ TB) (hv : fs[k]? = some v) (hdg : decode cc pc = .ok (.getfield index, 3))
    (kk : W p l e R s m args below meth c H locs cells slots Q (F0 m (pc + 3) ls (v :: rest))) : W p l e R s m args below meth c H locs cells slots Q (F0 m pc ls (.ref a :: rest)) := by
  obtain ⟨hx, hb, hml, hown, hts, hK⟩ := C
  exact va_get hx hb hts hin hown hK.1 hM.1 (w0.length + j) (ap_at hj) hc k hk (hts _ hlk) (fun _ h => h) hv hdg kk
theorem c_putF {j ci N k : Nat} {Cn : String} {T : u_T} {ty0 : Nat → FieldType} {a : Nat} {fs : List Value} {v : Value} {ty : FieldType} {l' : va_W} (hin2 : meth.name = "<init>") (C : c_C p s m args meth c cc nL own G) (hM : c_M G (w0 ++ lw) s H locs) (hj : lw[j]? = some (a, .inr (ci, fs))) (hc : g_cls[ci]? = some (Cn, T, N)) (hin : ∀ w ∈ u_ws Cn T N, w ∈ TB) (hty : ∀ k, k < N → parseFieldDescriptor (T k).2.2.1 = some (ty0 k)) (hnm : ∀ a, a < N → ∀ b, b < N → a ≠ b → (T a).2.1 ≠ (T b).2.1) (hk : k < N) (hlk : Cond.fieldLink own index (T k).1 (T k).2.1 (T k).2.2.1 ∈ TB) (hfin : (T k).2.2.2 = true ∧ (T k).1 = own) (hd : parseFieldDescriptor (T k).2.2.1 = some ty) (hn : narrow ty v = v) (hfit : fits ty v = true) (hlt : k < fs.length) (hl' : lw.set j (a, .inr (ci, fs.set k v)) = l') (hdg : decode cc pc = .ok (.putfield index, 3))
    (kk : ∀ (H : Heap) (locs : List Loc), c_M G (w0 ++ l') s H locs → W p l e R s m args below meth c H locs cells slots Q (F0 m (pc + 3) ls rest)) : W p l e R s m args below meth c H locs cells slots Q (F0 m pc ls (v :: .ref a :: rest)) := by
  obtain ⟨hx, hb, hml, hown, hts, hK⟩ := C
  refine va_putF hx hb hts hin ty0 hty hnm hown hK.1 hM.1 hM.2.1 hM.2.2 (w0.length + j) (ap_at hj) hc k hk (hts _ hlk) (fun _ h => h) hfin.1 hin2 hfin.2 hd hn hfit hlt hdg (fun H1 locs1 hP hD hS => kk H1 locs1 ?_)
  rw [ap_set, hl'] at hP hD
  exact ⟨hP, hD, hS⟩
theorem c_put {j ci N k : Nat} {Cn : String} {T : u_T} {ty0 : Nat → FieldType} {a : Nat} {fs : List Value} {v : Value} {ty : FieldType} {l' : va_W} (C : c_C p s m args meth c cc nL own G) (hM : c_M G (w0 ++ lw) s H locs) (hj : lw[j]? = some (a, .inr (ci, fs))) (hc : g_cls[ci]? = some (Cn, T, N)) (hin : ∀ w ∈ u_ws Cn T N, w ∈ TB) (hty : ∀ k, k < N → parseFieldDescriptor (T k).2.2.1 = some (ty0 k)) (hnm : ∀ a, a < N → ∀ b, b < N → a ≠ b → (T a).2.1 ≠ (T b).2.1) (hk : k < N) (hlk : Cond.fieldLink own index (T k).1 (T k).2.1 (T k).2.2.1 ∈ TB) (hfin : (T k).2.2.2 = false) (hd : parseFieldDescriptor (T k).2.2.1 = some ty) (hn : narrow ty v = v) (hfit : fits ty v = true) (hlt : k < fs.length) (hl' : lw.set j (a, .inr (ci, fs.set k v)) = l') (hdg : decode cc pc = .ok (.putfield index, 3))
    (kk : ∀ (H : Heap) (locs : List Loc), c_M G (w0 ++ l') s H locs → W p l e R s m args below meth c H locs cells slots Q (F0 m (pc + 3) ls rest)) : W p l e R s m args below meth c H locs cells slots Q (F0 m pc ls (v :: .ref a :: rest)) := by
  obtain ⟨hx, hb, hml, hown, hts, hK⟩ := C
  refine va_put hx hb hts hin ty0 hty hnm hown hK.1 hM.1 hM.2.1 hM.2.2 (w0.length + j) (ap_at hj) hc k hk (hts _ hlk) (fun _ h => h) hfin hd hn hfit hlt hdg (fun H1 locs1 hP hD hS => kk H1 locs1 ?_)
  rw [ap_set, hl'] at hP hD
  exact ⟨hP, hD, hS⟩
theorem c_iast {j n a k : Nat} {f : Nat → Int32} {i v : Int32} {l' : va_W} (C : c_C p s m args meth c cc nL own G) (hM : c_M G (w0 ++ lw) s H locs) (hj : lw[j]? = some (a, .inl (G.2.2.2 0, n, .inl f))) (hin : vp_in i n) (hk : i.toNatClampNeg = k) (hl' : lw.set j (a, .inl (G.2.2.2 0, n, .inl (upd f k v))) = l') (hdg : decode cc pc = .ok (.iastore, 1))
    (kk : ∀ (H : Heap) (locs : List Loc), c_M G (w0 ++ l') s H locs → W p l e R s m args below meth c H locs cells slots Q (F0 m (pc + 1) ls rest)) : W p l e R s m args below meth c H locs cells slots Q (F0 m pc ls (.int v :: .int i :: .ref a :: rest)) := by
  subst hk
  obtain ⟨hx, hb, hml, hown, hts, hK⟩ := C
  refine va_iast hx hb hK.1 hM.1 hM.2.1 hM.2.2 (w0.length + j) 0 (ap_at hj) rfl hin hdg (fun H1 locs1 hP hD hS => kk H1 locs1 ?_)
  rw [ap_set, hl'] at hP hD
  exact ⟨hP, hD, hS⟩
theorem c_aast {j jk n a q k : Nat} {f : Nat → Option Nat} {vs : List Value} {i : Int32} {l' : va_W} (C : c_C p s m args meth c cc nL own G) (hM : c_M G (w0 ++ lw) s H locs) (hj : lw[j]? = some (a, .inl (G.2.2.2 2, n, .inr (.inr (.inr (.inr f)))))) (hjk : lw[jk]? = some (q, .inr (8, vs))) (hin : vp_in i n) (hk : i.toNatClampNeg = k) (hl' : lw.set j (a, .inl (G.2.2.2 2, n, .inr (.inr (.inr (.inr (va_up f k (some q))))))) = l') (hdg : decode cc pc = .ok (.aastore, 1))
    (kk : ∀ (H : Heap) (locs : List Loc), c_M G (w0 ++ l') s H locs → W p l e R s m args below meth c H locs cells slots Q (F0 m (pc + 1) ls rest)) : W p l e R s m args below meth c H locs cells slots Q (F0 m pc ls (.ref q :: .int i :: .ref a :: rest)) := by
  subst hk
  obtain ⟨hx, hb, hml, hown, hts, hK⟩ := C
  have h8 : g_cls[8]? = some (RX8, TX8, 4) := rfl
  refine va_astq hx hb hK.1 hM.1 hM.2.1 hM.2.2 (w0.length + j) 2 (w0.length + jk) 8 (r := (RX8, TX8, 4)) (ap_at hj) rfl (ap_at hjk) h8 hin hdg (fun H1 locs1 hP hD hS => kk H1 locs1 ?_)
  rw [ap_set, hl'] at hP hD
  exact ⟨hP, hD, hS⟩
variable {y : MethodName} {bytes : ByteArray} {maxL n q : Nat} {rm : Room} {As st0 : List Value} {P : va_W → Prop} {b0 : va_E}
/-- a constructor's own words -/
def g_Yc (y : MethodName) (bytes : ByteArray) (maxL n : Nat) : Prop := Cond.code y bytes maxL none ∈ TB ∧ Cond.instanceMethod y ∈ TB ∧ Cond.initialized y.cls ∈ TB ∧ y.name = "<init>" ∧ y.cls ≠ "java/lang/invoke/MethodHandle" ∧ y.cls ≠ "java/lang/invoke/VarHandle" ∧ (parseMethodDescriptor y.desc).map (fun d => d.parameters.length) = some n
theorem c_call (C : c_C p s m args meth c cc nL own G) (hM : c_M G (w0 ++ (lw ++ [(q, b0)])) s H locs) (hl : ls.size = nL) (hY : g_Yc y bytes maxL n) (hlk : Cond.methodLink own index y ∈ TB)
    (hmet : c_Met l y bytes maxL rm G (.ref q :: As) ((w0 ++ lw) ++ [(q, b0)]) P) (hn : As.length = n) (hst : st0 = As.reverse ++ .ref q :: rest) (hR : (rm.frames + 1 ≤ R.frames ∧ 8 + (maxL + 11) + rm.locals ≤ R.locals) ∧ cells + rm.cells ≤ R.cells ∧ slots + rm.slots ≤ R.slots) (hrest : (rest.map fun v => v.category).sum ≤ 8) (hdg : decode cc pc = .ok (.invokespecial index, 3))
    (kk : ∀ (u : va_W) (H : Heap) (locs : List Loc), P u → c_M G u s H locs → W p l e R s m args below meth c H locs (cells + rm.cells) (slots + rm.slots) Q (F0 m (pc + 3) ls rest)) : W p l e R s m args below meth c H locs cells slots Q (F0 m pc ls st0) := by
  obtain ⟨hx, hb, hml, hown, hts, hK⟩ := C
  obtain ⟨y1, y2, y3, y4, y5⟩ := hY
  have hcw : CallB R s args own index y bytes maxL none (Cond.code y bytes maxL none :: TB) rm rm.cells rm.slots n ∧ y.name = "<init>" ∧ (Cond.instanceMethod y).before args s = true := ⟨callB_of n hts (TB_gin y1) rfl rfl rfl (hts _ y3) (hts _ hlk) y5 hR.1, y4, hts _ y2⟩
  rw [← List.append_assoc] at hM
  exact va_callv (va_runI (As := As) (rest := rest) ⟨hx, hb, hml, hown, hts⟩ hmet hcw ⟨c_blind, fun U hU hW => ⟨rfl, hM.B hK hU hW⟩⟩ rfl hn hl hst (lv_room hrest) hdg hR.2) hM.2.2 (fun _ _ h => h) (fun _ h => h) (fun u t H1 locs1 ht hvm hw hB _ _ hS => kk u H1 locs1 hw ⟨by rw [← ht]; exact hB.1, hB.2.1, hS⟩)
theorem c_callN (C : c_C p s m args meth c cc nL own G) (hM : c_M G (w0 ++ (lw ++ [(q, b0)])) s H locs) (hl : ls.size = nL) (hY : g_Yc y bytes maxL n) (hlk : (own, index, y) ∈ c_NL)
    (hmet : c_Met l y bytes maxL rm G (.ref q :: As) ((w0 ++ lw) ++ [(q, b0)]) P) (hn : As.length = n) (hst : st0 = As.reverse ++ .ref q :: rest) (hR : (rm.frames + 1 ≤ R.frames ∧ 8 + (maxL + 11) + rm.locals ≤ R.locals) ∧ cells + rm.cells ≤ R.cells ∧ slots + rm.slots ≤ R.slots) (hrest : (rest.map fun v => v.category).sum ≤ 8) (hdg : decode cc pc = .ok (.invokespecial index, 3))
    (kk : ∀ (u : va_W) (H : Heap) (locs : List Loc), P u → c_M G u s H locs → W p l e R s m args below meth c H locs (cells + rm.cells) (slots + rm.slots) Q (F0 m (pc + 3) ls rest)) : W p l e R s m args below meth c H locs cells slots Q (F0 m pc ls st0) := by
  obtain ⟨hx, hb, hml, hown, hts, hK⟩ := C
  obtain ⟨y1, y2, y3, y4, y5⟩ := hY
  have hcw : va_CN R s args own index y "PolicyEngine" bytes maxL none (Cond.code y bytes maxL none :: TB) rm rm.cells rm.slots n ∧ y.name = "<init>" ∧ (Cond.instanceMethod y).before args s = true := ⟨va_cnB n hts (TB_gin y1) rfl rfl rfl (hK.2.2.1 _ hlk) (hts _ y3) y5 hR.1, y4, hts _ y2⟩
  rw [← List.append_assoc] at hM
  exact va_callv (va_runIN (As := As) (rest := rest) ⟨hx, hb, hml, hown, hts⟩ hmet hcw ⟨c_blind, fun U hU hW => ⟨rfl, hM.B hK hU hW⟩⟩ rfl hn hl hst (lv_room hrest) hdg hR.2) hM.2.2 (fun _ _ h => h) (fun _ h => h) (fun u t H1 locs1 ht hvm hw hB _ _ hS => kk u H1 locs1 hw ⟨by rw [← ht]; exact hB.1, hB.2.1, hS⟩)
end CR
