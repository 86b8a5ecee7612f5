/-! ROWS over the world: fields, arrays, calls. -/
/-- a field of a class, as javac's place 'index' of class 'own' names it: field k of the class of number ci -/
def g_Fl (own : String) (index ci k : Nat) : Prop := ∃ (C : String) (T : u_T) (N : Nat), g_cls[ci]? = some (C, T, N) ∧ k < N ∧ (∀ w ∈ u_ws C T N, w ∈ TB) ∧ Cond.fieldLink own index (T k).1 (T k).2.1 (T k).2.2.1 ∈ TB
/-- .. that an int (a boolean) may be put into -/
def g_Fp (own : String) (index ci k : Nat) (ty : FieldType) : Prop := ∃ (C : String) (T : u_T) (N : Nat) (ty0 : Nat → FieldType), g_cls[ci]? = some (C, T, N) ∧ k < N ∧ (∀ w ∈ u_ws C T N, w ∈ TB) ∧ Cond.fieldLink own index (T k).1 (T k).2.1 (T k).2.2.1 ∈ TB ∧ (∀ k, k < N → parseFieldDescriptor (T k).2.2.1 = some (ty0 k)) ∧ (∀ a, a < N → ∀ b, b < N → a ≠ b → (T a).2.1 ≠ (T b).2.1) ∧ (T k).2.2.2 = false ∧ parseFieldDescriptor (T k).2.2.1 = some ty
/-- a method of an object; a static one: its code, what finds it -/
def g_Yv (y : MethodName) (bytes : ByteArray) (maxL : Nat) (ret : Option FieldType) (n : Nat) (C : String) : Prop := Cond.code y bytes maxL ret ∈ TB ∧ Cond.instanceMethod y ∈ TB ∧ Cond.selects C y y ∈ TB ∧ Cond.initialized C ∈ TB ∧ y.cls = C ∧ y.cls ≠ "java/lang/invoke/MethodHandle" ∧ y.cls ≠ "java/lang/invoke/VarHandle" ∧ (parseMethodDescriptor y.desc).map (fun d => d.parameters.length) = some n
def g_Ys (y : MethodName) (bytes : ByteArray) (maxL : Nat) (ret : Option FieldType) (n : Nat) (C : String) : Prop := Cond.code y bytes maxL ret ∈ TB ∧ Cond.static y ∈ TB ∧ Cond.initialized C ∈ TB ∧ y.cls = C ∧ y.cls ≠ "java/lang/invoke/MethodHandle" ∧ y.cls ≠ "java/lang/invoke/VarHandle" ∧ (parseMethodDescriptor y.desc).map (fun d => d.parameters.length) = some n
section GR
variable {p : Program} {l : Launch} {e : Env} {R : Room} {s : State} {m : MethodId} {args : Array Value} {below : List Frame} {meth : Method} {c : Code} {H : Heap} {locs : List Loc} {cells slots : Nat} {Q : State → Prop}
variable {cc : ByteArray} {pc nL : Nat} {ls : Array Slot} {rest : List Value} {G : GP} {x : XP} {σ : Sto} {own : String} {index : Nat}
theorem g_get {c0 ci k : Nat} {v : Value} {F : (Nat → Int32) → List Value} (C : g_C p s m args c cc nL own G) (hM : g_M G x σ s H locs) (hc : c0 < 108) (hce : ∀ f, ceF G x c0 f = .inr (ci, F f)) (hf : g_Fl own index ci k) (hv : (F (σ c0))[k]? = some v) (hdg : decode cc pc = .ok (.getfield index, 3))
    (kk : W p l e R s m args below meth c H locs cells slots Q (F0 m (pc + 3) ls (v :: rest))) : W p l e R s m args below meth c H locs cells slots Q (F0 m pc ls (.ref (g_ad G c0) :: rest)) := by
  obtain ⟨hx, hb, hml, hown, hts, hK⟩ := C
  obtain ⟨C, T, N, h1, h2, h3, h4⟩ := hf
  exact va_get hx hb hts h3 hown hK.1 hM.1 c0 ((wl_at hc).trans (by rw [hce])) h1 k h2 (hts _ h4) (fun _ h => h) hv hdg kk
theorem g_put {c0 ci k : Nat} {ty : FieldType} {v : Int32} {F : (Nat → Int32) → List Value} (C : g_C p s m args c cc nL own G) (hM : g_M G x σ s H locs) (hc : c0 < 108) (hce : ∀ f, ceF G x c0 f = .inr (ci, F f)) (hf : g_Fp own index ci k ty) (hn : narrow ty (.int v) = .int v) (hfit : fits ty (.int v) = true) (hl : k < (F (σ c0)).length) (hF : (F (σ c0)).set k (.int v) = F (upd (σ c0) k v)) (hdg : decode cc pc = .ok (.putfield index, 3))
    (kk : ∀ (H : Heap) (locs : List Loc), g_M G x (up σ c0 k v) s H locs → W p l e R s m args below meth c H locs cells slots Q (F0 m (pc + 3) ls rest)) : W p l e R s m args below meth c H locs cells slots Q (F0 m pc ls (.int v :: .ref (g_ad G c0) :: rest)) := by
  obtain ⟨hx, hb, hml, hown, hts, hK⟩ := C
  obtain ⟨C, T, N, ty0, h1, h2, h3, h4, h5, h6, h7, h8⟩ := hf
  refine va_put hx hb hts h3 ty0 h5 h6 hown hK.1 hM.1 (hK.D x σ) hM.2 c0 ((wl_at hc).trans (by rw [hce])) h1 k h2 (hts _ h4) (fun _ h => h) h7 h8 hn hfit hl hdg (fun H1 locs1 hP hD hS => kk H1 locs1 ⟨?_, hS⟩)
  have e := wl_set (G := G) (x := x) (σ := σ) hc (upd (σ c0) k v)
  rw [hce, ← hF] at e
  unfold up
  rw [← e]
  exact hP
theorem g_iald {c0 n : Nat} {i : Int32} (C : g_C p s m args c cc nL own G) (hM : g_M G x σ s H locs) (hc : c0 < 108) (hce : ∀ f, ceF G x c0 f = .inl (G.2.2.2 0, n, .inl f)) (hin : vp_in i n) (hdg : decode cc pc = .ok (.iaload, 1))
    (kk : W p l e R s m args below meth c H locs cells slots Q (F0 m (pc + 1) ls (.int (σ c0 i.toNatClampNeg) :: rest))) : W p l e R s m args below meth c H locs cells slots Q (F0 m pc ls (.int i :: .ref (g_ad G c0) :: rest)) := by
  obtain ⟨hx, hb, hml, hown, hts, hK⟩ := C
  exact va_iald hx hb hK.1 hM.1 c0 0 ((wl_at hc).trans (by rw [hce])) rfl hin hdg kk
theorem g_iast {c0 n : Nat} {i v : Int32} (C : g_C p s m args c cc nL own G) (hM : g_M G x σ s H locs) (hc : c0 < 108) (hce : ∀ f, ceF G x c0 f = .inl (G.2.2.2 0, n, .inl f)) (hin : vp_in i n) (hdg : decode cc pc = .ok (.iastore, 1))
    (kk : ∀ (H : Heap) (locs : List Loc), g_M G x (up σ c0 i.toNatClampNeg v) s H locs → W p l e R s m args below meth c H locs cells slots Q (F0 m (pc + 1) ls rest)) : W p l e R s m args below meth c H locs cells slots Q (F0 m pc ls (.int v :: .int i :: .ref (g_ad G c0) :: rest)) := by
  obtain ⟨hx, hb, hml, hown, hts, hK⟩ := C
  refine va_iast hx hb hK.1 hM.1 (hK.D x σ) hM.2 c0 0 ((wl_at hc).trans (by rw [hce])) rfl hin hdg (fun H1 locs1 hP hD hS => kk H1 locs1 ⟨?_, hS⟩)
  have e := wl_set (G := G) (x := x) (σ := σ) hc (upd (σ c0) i.toNatClampNeg v)
  rw [hce] at e
  unfold up
  rw [← e]
  exact hP
theorem g_cald {c0 n : Nat} {i : Int32} (C : g_C p s m args c cc nL own G) (hM : g_M G x σ s H locs) (hc : c0 < 108) (hce : ∀ f, ceF G x c0 f = .inl (G.2.2.2 1, n, .inl f)) (hin : vp_in i n) (hdg : decode cc pc = .ok (.caload, 1))
    (kk : W p l e R s m args below meth c H locs cells slots Q (F0 m (pc + 1) ls (.int (σ c0 i.toNatClampNeg) :: rest))) : W p l e R s m args below meth c H locs cells slots Q (F0 m pc ls (.int i :: .ref (g_ad G c0) :: rest)) := by
  obtain ⟨hx, hb, hml, hown, hts, hK⟩ := C
  exact va_cald hx hb hK.1 hM.1 c0 1 ((wl_at hc).trans (by rw [hce])) rfl hin hdg kk
theorem g_cast {c0 n : Nat} {i v : Int32} (C : g_C p s m args c cc nL own G) (hM : g_M G x σ s H locs) (hc : c0 < 108) (hce : ∀ f, ceF G x c0 f = .inl (G.2.2.2 1, n, .inl f)) (hin : vp_in i n) (hdg : decode cc pc = .ok (.castore, 1))
    (kk : ∀ (H : Heap) (locs : List Loc), g_M G x (up σ c0 i.toNatClampNeg (vp_nar .char v)) s H locs → W p l e R s m args below meth c H locs cells slots Q (F0 m (pc + 1) ls rest)) : W p l e R s m args below meth c H locs cells slots Q (F0 m pc ls (.int v :: .int i :: .ref (g_ad G c0) :: rest)) := by
  obtain ⟨hx, hb, hml, hown, hts, hK⟩ := C
  refine va_cast hx hb hK.1 hM.1 (hK.D x σ) hM.2 c0 1 ((wl_at hc).trans (by rw [hce])) rfl hin hdg (fun H1 locs1 hP hD hS => kk H1 locs1 ⟨?_, hS⟩)
  have e := wl_set (G := G) (x := x) (σ := σ) hc (upd (σ c0) i.toNatClampNeg (vp_nar .char v))
  rw [hce] at e
  unfold up
  rw [← e]
  exact hP
theorem g_alen {c0 n t0 : Nat} {ty : FieldType} {f : (Nat → Int32) → ((Nat → Int32) ⊕ (Nat → Int64) ⊕ (Nat → UInt32) ⊕ (Nat → UInt64) ⊕ (Nat → Option Nat))} {v : Int32} (C : g_C p s m args c cc nL own G) (hM : g_M G x σ s H locs) (hc : c0 < 108) {kA : Nat} (hce : ∀ g, ceF G x c0 g = .inl (G.2.2.2 kA, n, f g)) (ht : (g_tys G)[t0]? = some (G.2.2.2 kA, ty)) (hv : Int32.ofNat n = v) (hdg : decode cc pc = .ok (.arraylength, 1))
    (kk : W p l e R s m args below meth c H locs cells slots Q (F0 m (pc + 1) ls (.int v :: rest))) : W p l e R s m args below meth c H locs cells slots Q (F0 m pc ls (.ref (g_ad G c0) :: rest)) := by
  obtain ⟨hx, hb, hml, hown, hts, hK⟩ := C
  exact va_alen hx hb hK.1 hM.1 c0 t0 ((wl_at hc).trans (by rw [hce])) ht (x := (n, f (σ c0))) hv hdg kk
/-- a State out of the row of the past ones -/
theorem g_aald {i : Int32} (C : g_C p s m args c cc nL own G) (hM : g_M G x σ s H locs) (hin : vp_in i 8) (hdg : decode cc pc = .ok (.aaload, 1))
    (kk : W p l e R s m args below meth c H locs cells slots Q (F0 m (pc + 1) ls (.ref (g_ad G (σ 64 i.toNatClampNeg).toNatClampNeg) :: rest))) : W p l e R s m args below meth c H locs cells slots Q (F0 m pc ls (.int i :: .ref (g_ad G 64) :: rest)) := by
  obtain ⟨hx, hb, hml, hown, hts, hK⟩ := C
  exact va_aldq hx hb hK.1 hM.1 64 2 (C := RX8) (f := fun k => some (g_ad G (σ 64 k).toNatClampNeg)) ((wl_at (by decide)).trans rfl) rfl hin hdg kk
theorem g_aast {i : Int32} {o : Nat} (ho : isSt o) (C : g_C p s m args c cc nL own G) (hM : g_M G x σ s H locs) (hin : vp_in i 8) (hdg : decode cc pc = .ok (.aastore, 1))
    (kk : ∀ (H : Heap) (locs : List Loc), g_M G x (up σ 64 i.toNatClampNeg (nI o)) s H locs → W p l e R s m args below meth c H locs cells slots Q (F0 m (pc + 1) ls rest)) : W p l e R s m args below meth c H locs cells slots Q (F0 m pc ls (.ref (g_ad G o) :: .int i :: .ref (g_ad G 64) :: rest)) := by
  obtain ⟨hx, hb, hml, hown, hts, hK⟩ := C
  have h8 : g_cls[8]? = some (RX8, TX8, 4) := rfl
  refine va_astq hx hb hK.1 hM.1 (hK.D x σ) hM.2 64 2 o 8 (r := (RX8, TX8, 4)) (f := fun k => some (g_ad G (σ 64 k).toNatClampNeg)) ((wl_at (by decide)).trans rfl) rfl ((wl_at (st_lt ho)).trans (by rw [ce_st ho])) h8 hin hdg (fun H1 locs1 hP hD hS => kk H1 locs1 ⟨?_, hS⟩)
  have e := wl_set (G := G) (x := x) (σ := σ) (c := 64) (by decide) (upd (σ 64) i.toNatClampNeg (nI o))
  unfold up
  rw [← e]
  have e2 : (ceF G x 64 (upd (σ 64) i.toNatClampNeg (nI o)) : va_E) = .inl (G.2.2.2 2, 8, .inr (.inr (.inr (.inr (va_up (fun k => some (g_ad G (σ 64 k).toNatClampNeg)) i.toNatClampNeg (some (g_ad G o))))))) := by
    show (.inl (G.2.2.2 2, 8, .inr (.inr (.inr (.inr (fun k => some (g_ad G (upd (σ 64) i.toNatClampNeg (nI o) k).toNatClampNeg)))))) : va_E) = _
    congr 7
    funext k
    unfold va_up upd
    by_cases hk : k = i.toNatClampNeg
    · rw [if_pos hk, if_pos hk, nI_clamp (by have := ho.1; omega)]
    · rw [if_neg hk, if_neg hk]
  rw [e2]
  exact hP
/-- arraycopy between rows of ints -/
theorem g_copy {c0 c1 n0 n1 : Nat} {sp dp n : Int32} (C : g_C p s m args c cc nL own G) (hM : g_M G x σ s H locs) (hl : ls.size = nL) (hlk : Cond.methodLink own index arraycopyName ∈ TB) (hnat : Cond.native arraycopyName ∈ TB ∧ Cond.static arraycopyName ∈ TB ∧ Cond.initialized "java/lang/System" ∈ TB)
    (h0 : c0 < 108) (h1 : c1 < 108) (hce0 : ∀ f, ceF G x c0 f = .inl (G.2.2.2 0, n0, .inl f)) (hce1 : ∀ f, ceF G x c1 f = .inl (G.2.2.2 0, n1, .inl f)) (hin : ¬ sp < 0 ∧ ¬ dp < 0 ∧ ¬ n < 0 ∧ sp.toNatClampNeg + n.toNatClampNeg ≤ n0 ∧ dp.toNatClampNeg + n.toNatClampNeg ≤ n1)
    (hfr : 1 ≤ R.frames) (hlo : (rest.map fun v => v.category).sum + (nativeFrameWords "java/lang/System" "arraycopy" 5 + 11) ≤ R.locals) (hdg : decode cc pc = .ok (.invokestatic index, 3))
    (kk : ∀ (H : Heap) (locs : List Loc), g_M G x (st σ c1 (va_cpy (σ c0) (σ c1) sp.toNatClampNeg dp.toNatClampNeg n.toNatClampNeg)) s H locs → W p l e R s m args below meth c H locs cells slots Q (F0 m (pc + 3) ls rest)) : W p l e R s m args below meth c H locs cells slots Q (F0 m pc ls (.int n :: .int dp :: .ref (g_ad G c1) :: .int sp :: .ref (g_ad G c0) :: rest)) := by
  obtain ⟨hx, hb, hml, hown, hts, hK⟩ := C
  refine va_copyi hx hb (hml.trans hl.symm) hown (hts _ hlk) (hts _ hnat.1) (hts _ hnat.2.1) (hts _ hnat.2.2) hK.1 hM.1 (hK.D x σ) hM.2 c0 c1 0 0 (ty := .int) ((wl_at h0).trans (by rw [hce0])) ((wl_at h1).trans (by rw [hce1])) rfl rfl rfl hin.1 hin.2.1 hin.2.2.1 hin.2.2.2.1 hin.2.2.2.2 (fun _ _ => rfl) hfr hlo hdg (fun H1 locs1 hP hD hS => kk H1 locs1 ⟨?_, hS⟩)
  have e := wl_set (G := G) (x := x) (σ := σ) h1 (va_cpy (σ c0) (σ c1) sp.toNatClampNeg dp.toNatClampNeg n.toNatClampNeg)
  rw [hce1] at e
  rw [← e]
  exact hP
variable {y : MethodName} {bytes : ByteArray} {maxL n : Nat} {Cn : String} {rm : Room} {As st0 : List Value}
theorem g_cVi {ty : FieldType} {o ci : Nat} {F : (Nat → Int32) → List Value} {P : Int32 → Sto → Prop} {T : u_T} {N : Nat} (C : g_C p s m args c cc nL own G) (hM : g_M G x σ s H locs) (hl : ls.size = nL) (hY : g_Yv y bytes maxL (some ty) n Cn) (hlk : Cond.methodLink own index y ∈ TB) (ho : o < 108) (hce : ∀ f, ceF G x o f = .inr (ci, F f)) (hcl : g_cls[ci]? = some (Cn, T, N))
    (hmet : g_Meti l y bytes maxL (some ty) rm G x (.ref (g_ad G o) :: As) σ P) (hn : As.length = n) (hst : st0 = As.reverse ++ .ref (g_ad G o) :: rest) (hR : (rm.frames + 1 ≤ R.frames ∧ 8 + (maxL + 11) + rm.locals ≤ R.locals) ∧ cells + rm.cells ≤ R.cells ∧ slots + rm.slots ≤ R.slots) (hrest : (rest.map fun v => v.category).sum ≤ 8) (hdg : decode cc pc = .ok (.invokevirtual index, 3))
    (kk : ∀ (r : Int32) (σ' : Sto) (H : Heap) (locs : List Loc), P r σ' → g_M G x σ' s H locs → W p l e R s m args below meth c H locs (cells + rm.cells) (slots + rm.slots) Q (F0 m (pc + 3) ls (.int r :: rest))) : W p l e R s m args below meth c H locs cells slots Q (F0 m pc ls st0) := by
  have hK := C.2.2.2.2.2
  obtain ⟨hx, hb, hml, hown, hts, -⟩ := C
  obtain ⟨y1, y2, y3, y4, y5, y6⟩ := hY
  have hcw : CallW R s args own Cn index y bytes maxL (some ty) (Cond.code y bytes maxL (some ty) :: TB) rm rm.cells rm.slots n := ⟨callB_of n hts (TB_gin y1) rfl rfl rfl (hts _ (by rw [y5]; exact y4)) (hts _ hlk) y6 hR.1, hts _ y2, hts _ y3⟩
  refine va_calli (va_runV (As := As) (rest := rest) ⟨hx, hb, hml, hown, hts⟩ hmet hcw ⟨g_blind, va_recv hK.1 hM.1 hcl ((wl_at ho).trans (by rw [hce])), fun U hU hW => ⟨rfl, hM.B hK hU hW⟩⟩ rfl hn hl hst (lv_room hrest) hdg hR.2) hM.2 (fun _ _ h => h) (fun _ h => h) (fun r u t H1 locs1 ht hvm hw hB _ _ hS => kk r u H1 locs1 hw ⟨by rw [← ht]; exact hB.1, hS⟩)
theorem g_cVv {o ci : Nat} {F : (Nat → Int32) → List Value} {P : Sto → Prop} {T : u_T} {N : Nat} (C : g_C p s m args c cc nL own G) (hM : g_M G x σ s H locs) (hl : ls.size = nL) (hY : g_Yv y bytes maxL none n Cn) (hlk : Cond.methodLink own index y ∈ TB) (ho : o < 108) (hce : ∀ f, ceF G x o f = .inr (ci, F f)) (hcl : g_cls[ci]? = some (Cn, T, N))
    (hmet : g_Metv l y bytes maxL rm G x (.ref (g_ad G o) :: As) σ P) (hn : As.length = n) (hst : st0 = As.reverse ++ .ref (g_ad G o) :: rest) (hR : (rm.frames + 1 ≤ R.frames ∧ 8 + (maxL + 11) + rm.locals ≤ R.locals) ∧ cells + rm.cells ≤ R.cells ∧ slots + rm.slots ≤ R.slots) (hrest : (rest.map fun v => v.category).sum ≤ 8) (hdg : decode cc pc = .ok (.invokevirtual index, 3))
    (kk : ∀ (σ' : Sto) (H : Heap) (locs : List Loc), P σ' → g_M G x σ' s H locs → W p l e R s m args below meth c H locs (cells + rm.cells) (slots + rm.slots) Q (F0 m (pc + 3) ls rest)) : W p l e R s m args below meth c H locs cells slots Q (F0 m pc ls st0) := by
  have hK := C.2.2.2.2.2
  obtain ⟨hx, hb, hml, hown, hts, -⟩ := C
  obtain ⟨y1, y2, y3, y4, y5, y6⟩ := hY
  have hcw : CallW R s args own Cn index y bytes maxL none (Cond.code y bytes maxL none :: TB) rm rm.cells rm.slots n := ⟨callB_of n hts (TB_gin y1) rfl rfl rfl (hts _ (by rw [y5]; exact y4)) (hts _ hlk) y6 hR.1, hts _ y2, hts _ y3⟩
  refine va_callv (va_runV (As := As) (rest := rest) ⟨hx, hb, hml, hown, hts⟩ hmet hcw ⟨g_blind, va_recv hK.1 hM.1 hcl ((wl_at ho).trans (by rw [hce])), fun U hU hW => ⟨rfl, hM.B hK hU hW⟩⟩ rfl hn hl hst (lv_room hrest) hdg hR.2) hM.2 (fun _ _ h => h) (fun _ h => h) (fun u t H1 locs1 ht hvm hw hB _ _ hS => kk u H1 locs1 hw ⟨by rw [← ht]; exact hB.1, hS⟩)
theorem g_cSi {ty : FieldType} {P : Int32 → Sto → Prop} (C : g_C p s m args c cc nL own G) (hM : g_M G x σ s H locs) (hl : ls.size = nL) (hY : g_Ys y bytes maxL (some ty) n Cn) (hlk : Cond.methodLink own index y ∈ TB)
    (hmet : g_Meti l y bytes maxL (some ty) rm G x As σ P) (hn : As.length = n) (hst : st0 = As.reverse ++ rest) (hR : (rm.frames + 1 ≤ R.frames ∧ 8 + (maxL + 11) + rm.locals ≤ R.locals) ∧ cells + rm.cells ≤ R.cells ∧ slots + rm.slots ≤ R.slots) (hrest : (rest.map fun v => v.category).sum ≤ 8) (hdg : decode cc pc = .ok (.invokestatic index, 3))
    (kk : ∀ (r : Int32) (σ' : Sto) (H : Heap) (locs : List Loc), P r σ' → g_M G x σ' s H locs → W p l e R s m args below meth c H locs (cells + rm.cells) (slots + rm.slots) Q (F0 m (pc + 3) ls (.int r :: rest))) : W p l e R s m args below meth c H locs cells slots Q (F0 m pc ls st0) := by
  have hK := C.2.2.2.2.2
  obtain ⟨hx, hb, hml, hown, hts, -⟩ := C
  obtain ⟨y1, y2, y4, y5, y6⟩ := hY
  have hcw : CallB R s args own index y bytes maxL (some ty) (Cond.code y bytes maxL (some ty) :: TB) rm rm.cells rm.slots n ∧ (Cond.static y).before args s = true := ⟨callB_of n hts (TB_gin y1) rfl rfl rfl (hts _ (by rw [y5]; exact y4)) (hts _ hlk) y6 hR.1, hts _ y2⟩
  refine va_calli (va_runS (As := As) (rest := rest) ⟨hx, hb, hml, hown, hts⟩ hmet hcw ⟨g_blind, fun U hU hW => ⟨rfl, hM.B hK hU hW⟩⟩ rfl hn hl hst (lv_room hrest) hdg hR.2) hM.2 (fun _ _ h => h) (fun _ h => h) (fun r u t H1 locs1 ht hvm hw hB _ _ hS => kk r u H1 locs1 hw ⟨by rw [← ht]; exact hB.1, hS⟩)
theorem g_cSv {P : Sto → Prop} (C : g_C p s m args c cc nL own G) (hM : g_M G x σ s H locs) (hl : ls.size = nL) (hY : g_Ys y bytes maxL none n Cn) (hlk : Cond.methodLink own index y ∈ TB)
    (hmet : g_Metv l y bytes maxL rm G x As σ P) (hn : As.length = n) (hst : st0 = As.reverse ++ rest) (hR : (rm.frames + 1 ≤ R.frames ∧ 8 + (maxL + 11) + rm.locals ≤ R.locals) ∧ cells + rm.cells ≤ R.cells ∧ slots + rm.slots ≤ R.slots) (hrest : (rest.map fun v => v.category).sum ≤ 8) (hdg : decode cc pc = .ok (.invokestatic index, 3))
    (kk : ∀ (σ' : Sto) (H : Heap) (locs : List Loc), P σ' → g_M G x σ' s H locs → W p l e R s m args below meth c H locs (cells + rm.cells) (slots + rm.slots) Q (F0 m (pc + 3) ls rest)) : W p l e R s m args below meth c H locs cells slots Q (F0 m pc ls st0) := by
  have hK := C.2.2.2.2.2
  obtain ⟨hx, hb, hml, hown, hts, -⟩ := C
  obtain ⟨y1, y2, y4, y5, y6⟩ := hY
  have hcw : CallB R s args own index y bytes maxL none (Cond.code y bytes maxL none :: TB) rm rm.cells rm.slots n ∧ (Cond.static y).before args s = true := ⟨callB_of n hts (TB_gin y1) rfl rfl rfl (hts _ (by rw [y5]; exact y4)) (hts _ hlk) y6 hR.1, hts _ y2⟩
  refine va_callv (va_runS (As := As) (rest := rest) ⟨hx, hb, hml, hown, hts⟩ hmet hcw ⟨g_blind, fun U hU hW => ⟨rfl, hM.B hK hU hW⟩⟩ rfl hn hl hst (lv_room hrest) hdg hR.2) hM.2 (fun _ _ h => h) (fun _ h => h) (fun u t H1 locs1 ht hvm hw hB _ _ hS => kk u H1 locs1 hw ⟨by rw [← ht]; exact hB.1, hS⟩)
end GR
