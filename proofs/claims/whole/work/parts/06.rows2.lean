/-! the same rows, with the new store under a name; what a text of formulas says -/
abbrev ix (i : Int32) : Nat := i.toNatClampNeg
abbrev isB (v : Int32) : Prop := v = 0 ∨ v = 1
theorem nar_b {v : Int32} (h : isB v) : narrow .boolean (.int v) = .int v := by rcases h with rfl | rfl <;> rfl
abbrev cpyOk (sp dp n : Int32) (n0 n1 : Nat) : Prop := ¬ sp < 0 ∧ ¬ dp < 0 ∧ ¬ n < 0 ∧ ix sp + ix n ≤ n0 ∧ ix dp + ix n ≤ n1
abbrev cpy (σ : Sto) (c0 c1 : Nat) (sp dp n : Int32) : Sto := st σ c1 (va_cpy (σ c0) (σ c1) (ix sp) (ix dp) (ix n))
theorem ce_st_ru {G : GP} {x : XP} {o : Nat} (h : isSt o) (f : Nat → Int32) : ceF G x (o + 1) f = .inr (6, [.ref (g_ad G (o + 2)), .int (f 1)]) := ce_ru (isSt_ru h) f
theorem ce_st_rc {G : GP} {x : XP} {o : Nat} (h : isSt o) (f : Nat → Int32) : ceF G x (o + 2) f = .inl (G.2.2.2 0, 384, .inl f) := ce_rc (isSt_ru h) f
theorem ce_st_gr {G : GP} {x : XP} {o : Nat} (h : isSt o) (f : Nat → Int32) : ceF G x (o + 3) f = .inr (2, [.ref (g_ad G (o + 4)), .int (f 1)]) := ce_gr (isSt_gr h) f
theorem ce_st_gc {G : GP} {x : XP} {o : Nat} (h : isSt o) (f : Nat → Int32) : ceF G x (o + 4) f = .inl (G.2.2.2 0, 150, .inl f) := ce_gc (isSt_gr h) f
theorem st_ru_lt {o : Nat} (h : isSt o) : o + 1 < 108 := by obtain ⟨h1, h2⟩ := h; omega
theorem st_rc_lt {o : Nat} (h : isSt o) : o + 2 < 108 := by obtain ⟨h1, h2⟩ := h; omega
theorem st_gr_lt {o : Nat} (h : isSt o) : o + 3 < 108 := by obtain ⟨h1, h2⟩ := h; omega
theorem st_gc_lt {o : Nat} (h : isSt o) : o + 4 < 108 := by obtain ⟨h1, h2⟩ := h; omega
section GR2
variable {p : Program} {l : Launch} {e : Env} {R : Room} {s : State} {m : MethodId} {args : Array Value} {below : List Frame} {meth : Method} {c : Code} {H : Heap} {locs : List Loc} {cells slots : Nat} {Q : State → Prop}
variable {cc : ByteArray} {pc nL : Nat} {ls : Array Slot} {rest : List Value} {G : GP} {x : XP} {σ : Sto} {own : String} {index : Nat}
theorem g_putE {c0 ci k : Nat} {ty : FieldType} {v : Int32} {F : (Nat → Int32) → List Value} (C : g_C p s m args c cc nL own G) (hM : g_M G x σ s H locs) (hc : c0 < 108) (hce : ∀ f, ceF G x c0 f = .inr (ci, F f)) (hf : g_Fp own index ci k ty) (hn : narrow ty (.int v) = .int v) (hfit : fits ty (.int v) = true) (hl : k < (F (σ c0)).length) (hF : (F (σ c0)).set k (.int v) = F (upd (σ c0) k v)) (hdg : decode cc pc = .ok (.putfield index, 3))
    (kk : ∀ (σ' : Sto), σ' = up σ c0 k v → ∀ (H : Heap) (locs : List Loc), g_M G x σ' s H locs → W p l e R s m args below meth c H locs cells slots Q (F0 m (pc + 3) ls rest)) : W p l e R s m args below meth c H locs cells slots Q (F0 m pc ls (.int v :: .ref (g_ad G c0) :: rest)) :=
  g_put C hM hc hce hf hn hfit hl hF hdg (kk _ rfl)
theorem g_ialdK {c0 n k : Nat} {i : Int32} (C : g_C p s m args c cc nL own G) (hM : g_M G x σ s H locs) (hc : c0 < 108) (hce : ∀ f, ceF G x c0 f = .inl (G.2.2.2 0, n, .inl f)) (hin : vp_in i n) (hk : ix i = k) (hdg : decode cc pc = .ok (.iaload, 1))
    (kk : W p l e R s m args below meth c H locs cells slots Q (F0 m (pc + 1) ls (.int (σ c0 k) :: rest))) : W p l e R s m args below meth c H locs cells slots Q (F0 m pc ls (.int i :: .ref (g_ad G c0) :: rest)) := by
  subst hk
  exact g_iald C hM hc hce hin hdg kk
theorem g_caldK {c0 n k : Nat} {i : Int32} (C : g_C p s m args c cc nL own G) (hM : g_M G x σ s H locs) (hc : c0 < 108) (hce : ∀ f, ceF G x c0 f = .inl (G.2.2.2 1, n, .inl f)) (hin : vp_in i n) (hk : ix i = k) (hdg : decode cc pc = .ok (.caload, 1))
    (kk : W p l e R s m args below meth c H locs cells slots Q (F0 m (pc + 1) ls (.int (σ c0 k) :: rest))) : W p l e R s m args below meth c H locs cells slots Q (F0 m pc ls (.int i :: .ref (g_ad G c0) :: rest)) := by
  subst hk
  exact g_cald C hM hc hce hin hdg kk
theorem g_iastE {c0 n k : Nat} {i v : Int32} (C : g_C p s m args c cc nL own G) (hM : g_M G x σ s H locs) (hc : c0 < 108) (hce : ∀ f, ceF G x c0 f = .inl (G.2.2.2 0, n, .inl f)) (hin : vp_in i n) (hk : ix i = k) (hdg : decode cc pc = .ok (.iastore, 1))
    (kk : ∀ (σ' : Sto), σ' = up σ c0 k v → ∀ (H : Heap) (locs : List Loc), g_M G x σ' s H locs → W p l e R s m args below meth c H locs cells slots Q (F0 m (pc + 1) ls rest)) : W p l e R s m args below meth c H locs cells slots Q (F0 m pc ls (.int v :: .int i :: .ref (g_ad G c0) :: rest)) := by
  subst hk
  exact g_iast C hM hc hce hin hdg (kk _ rfl)
theorem g_castE {c0 n k : Nat} {i v : Int32} (C : g_C p s m args c cc nL own G) (hM : g_M G x σ s H locs) (hc : c0 < 108) (hce : ∀ f, ceF G x c0 f = .inl (G.2.2.2 1, n, .inl f)) (hin : vp_in i n) (hk : ix i = k) (hdg : decode cc pc = .ok (.castore, 1))
    (kk : ∀ (σ' : Sto), σ' = up σ c0 k (vp_nar .char v) → ∀ (H : Heap) (locs : List Loc), g_M G x σ' s H locs → W p l e R s m args below meth c H locs cells slots Q (F0 m (pc + 1) ls rest)) : W p l e R s m args below meth c H locs cells slots Q (F0 m pc ls (.int v :: .int i :: .ref (g_ad G c0) :: rest)) := by
  subst hk
  exact g_cast C hM hc hce hin hdg (kk _ rfl)
theorem g_aaldE {i : Int32} {k : Nat} (C : g_C p s m args c cc nL own G) (hM : g_M G x σ s H locs) (hin : vp_in i 8) (hk : ix i = k) (hdg : decode cc pc = .ok (.aaload, 1))
    (kk : ∀ o : Nat, o = ix (σ 64 k) → W p l e R s m args below meth c H locs cells slots Q (F0 m (pc + 1) ls (.ref (g_ad G o) :: rest))) : W p l e R s m args below meth c H locs cells slots Q (F0 m pc ls (.int i :: .ref (g_ad G 64) :: rest)) := by
  subst hk
  exact g_aald C hM hin hdg (kk _ rfl)
theorem g_aastE {i : Int32} {o k : Nat} (ho : isSt o) (C : g_C p s m args c cc nL own G) (hM : g_M G x σ s H locs) (hin : vp_in i 8) (hk : ix i = k) (hdg : decode cc pc = .ok (.aastore, 1))
    (kk : ∀ (σ' : Sto), σ' = up σ 64 k (nI o) → ∀ (H : Heap) (locs : List Loc), g_M G x σ' s H locs → W p l e R s m args below meth c H locs cells slots Q (F0 m (pc + 1) ls rest)) : W p l e R s m args below meth c H locs cells slots Q (F0 m pc ls (.ref (g_ad G o) :: .int i :: .ref (g_ad G 64) :: rest)) := by
  subst hk
  exact g_aast ho C hM hin hdg (kk _ rfl)
theorem g_copyE {c0 c1 n0 n1 : Nat} {sp dp n : Int32} (C : g_C p s m args c cc nL own G) (hM : g_M G x σ s H locs) (hl : ls.size = nL) (hlk : Cond.methodLink own index arraycopyName ∈ TB) (hnat : Cond.native arraycopyName ∈ TB ∧ Cond.static arraycopyName ∈ TB ∧ Cond.initialized "java/lang/System" ∈ TB)
    (h0 : c0 < 108) (h1 : c1 < 108) (hce0 : ∀ f, ceF G x c0 f = .inl (G.2.2.2 0, n0, .inl f)) (hce1 : ∀ f, ceF G x c1 f = .inl (G.2.2.2 0, n1, .inl f)) (hin : cpyOk sp dp n n0 n1)
    (hR : 1 ≤ R.frames ∧ (rest.map fun v => v.category).sum + 18 ≤ R.locals) (hdg : decode cc pc = .ok (.invokestatic index, 3))
    (kk : ∀ (σ' : Sto), σ' = cpy σ c0 c1 sp dp n → ∀ (H : Heap) (locs : List Loc), g_M G x σ' s H locs → W p l e R s m args below meth c H locs cells slots Q (F0 m (pc + 3) ls rest)) : W p l e R s m args below meth c H locs cells slots Q (F0 m pc ls (.int n :: .int dp :: .ref (g_ad G c1) :: .int sp :: .ref (g_ad G c0) :: rest)) :=
  g_copy C hM hl hlk hnat h0 h1 hce0 hce1 hin hR.1 hR.2 hdg (kk _ rfl)
theorem g_min {a b : Int32} (C : g_C p s m args c cc nL own G) (hl : ls.size = nL) (hw : Cond.methodLink own index Lib.Math.min.name ∈ TB ∧ Cond.static Lib.Math.min.name ∈ TB ∧ Cond.initialized "java/lang/Math" ∈ TB ∧ Cond.code Lib.Math.min.name Lib.Math.min.code 2 (some .int) ∈ TB) (hR : (1 ≤ R.frames ∧ (rest.map fun v => v.category).sum + 13 ≤ R.locals) ∧ cells ≤ R.cells ∧ slots ≤ R.slots) (hdg : decode cc pc = .ok (.invokestatic index, 3))
    (kk : W p l e R s m args below meth c H locs cells slots Q (F0 m (pc + 3) ls (.int (if b < a then b else a) :: rest))) : W p l e R s m args below meth c H locs cells slots Q (F0 m pc ls (.int b :: .int a :: rest)) := by
  obtain ⟨hx, hb, hml, hown, hts, hK⟩ := C
  exact va_mmin hx hb (hml.trans hl.symm) hown (hts _ hw.1) (hts _ hw.2.1) (hts _ hw.2.2.1) (hts _ hw.2.2.2) hR.1.1 hR.1.2 hR.2.1 hR.2.2 hdg kk
end GR2
