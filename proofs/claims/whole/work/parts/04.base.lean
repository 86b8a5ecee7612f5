/-! THE WORLD: every object and row that the law's run ever has, by a number; what they hold, as one function of number and place. -/
def TB : List Cond := lw_tbl.filter goodWord
theorem TB_of {w : Cond} (h : w ∈ lw_tbl) (hg : goodWord w = true) : w ∈ TB := List.mem_filter.mpr ⟨h, hg⟩
theorem TB_good {w : Cond} (h : w ∈ TB) : goodWord w = true := (List.mem_filter.mp h).2
theorem TB_in {w : Cond} (h : w ∈ TB) : w ∈ lw_tbl := (List.mem_filter.mp h).1
theorem TB_gin {c : Cond} (h : c ∈ TB) : GoodIn TB (c :: TB) := fun w hw => (List.mem_cons.mp hw).elim (fun e => ⟨e ▸ h, good_of_word (TB_good (e ▸ h))⟩) (fun h => ⟨h, good_of_word (TB_good h)⟩)
abbrev g_cls : List vw_C := [(RX0, TX0, 2), (RX1, TX1, 2), (RX2, TX2, 2), (RX3, TX3, 2), (RX4, TX4, 5), (RX5, TX5, 7), (RX6, TX6, 2), (RX7, TX7, 2), (RX8, TX8, 4), (RX9, TX9, 6), (RX10, TX10, 2), (RX11, TX11, 15), (RX12, TX12, 32)]
abbrev Sto : Type := Nat → Nat → Int32
abbrev GP : Type := Nat × (Nat → Nat) × va_G × (Nat → ClassId)
abbrev XP : Type := Int64 × UInt64
def g_ad (G : GP) (c : Nat) : Nat := G.2.1 c
def g_A (G : GP) : Nat → Prop := fun q => G.1 ≤ q
def g_tys (G : GP) : List (ClassId × FieldType) := [(G.2.2.2 0, .int), (G.2.2.2 1, .char), (G.2.2.2 2, .object RX8), (G.2.2.2 3, .long), (G.2.2.2 4, .double)]
abbrev isRu (o : Nat) : Prop := o < 66 ∧ o % 6 = 1
abbrev isSt (o : Nat) : Prop := o < 60 ∧ o % 6 = 0
abbrev isGr (o : Nat) : Prop := o < 60 ∧ o % 6 = 3
abbrev isVa (o : Nat) : Prop := o = 85 ∨ o = 86
/-- what the cell of number c is, when its places hold f -/
def ceF (G : GP) (x : XP) (c : Nat) (f : Nat → Int32) : va_E :=
  if c < 66 ∧ c % 6 = 1 then .inr (6, [.ref (g_ad G (c + 1)), .int (f 1)])
  else if c < 66 ∧ c % 6 = 2 then .inl (G.2.2.2 0, 384, .inl f)
  else if c < 60 ∧ c % 6 = 0 then .inr (8, [.ref (g_ad G (c + 1)), .ref (g_ad G (c + 3)), .ref (g_ad G (c + 5)), .int (f 3)])
  else if c < 60 ∧ c % 6 = 3 then .inr (2, [.ref (g_ad G (c + 1)), .int (f 1)])
  else if c < 60 ∧ c % 6 = 4 then .inl (G.2.2.2 0, 150, .inl f)
  else if c < 60 then .inl (G.2.2.2 0, 4, .inl f)
  else match c with
  | 60 => .inr (11, [.ref (g_ad G 0), .ref (g_ad G 6), .int (f 2), .ref (g_ad G 63), .ref (g_ad G 65), .ref (g_ad G 70), .ref (g_ad G 72), .ref (g_ad G 77), .ref (g_ad G 79), .ref (g_ad G 81), .ref (g_ad G 83), .ref (g_ad G 85), .ref (g_ad G 86), .int (f 13), .int (f 14)])
  | 63 => .inr (3, [.ref (g_ad G 64), .int (f 1)])
  | 64 => .inl (G.2.2.2 2, 8, .inr (.inr (.inr (.inr (fun k => some (g_ad G (f k).toNatClampNeg))))))
  | 65 => .inr (5, [.ref (g_ad G 0), .ref (g_ad G 66), .ref (g_ad G 67), .ref (g_ad G 68), .ref (g_ad G 69), .int (f 5), .int (f 6)])
  | 66 => .inl (G.2.2.2 0, 24, .inl f)
  | 67 => .inl (G.2.2.2 0, 24, .inl f)
  | 68 => .inl (G.2.2.2 0, 144, .inl f)
  | 69 => .inl (G.2.2.2 0, 4, .inl f)
  | 70 => .inr (7, [.ref (g_ad G 65), .ref (g_ad G 71)])
  | 71 => .inl (G.2.2.2 0, 150, .inl f)
  | 72 => .inr (9, [.ref (g_ad G 65), .ref (g_ad G 73), .int (f 2), .ref (g_ad G 74), .ref (g_ad G 75), .ref (g_ad G 76)])
  | 73 => .inl (G.2.2.2 0, 4, .inl f)
  | 74 => .inl (G.2.2.2 0, 3, .inl f)
  | 75 => .inl (G.2.2.2 0, 48, .inl f)
  | 76 => .inl (G.2.2.2 0, 48, .inl f)
  | 77 => .inr (1, [.ref (g_ad G 3), .ref (g_ad G 78)])
  | 78 => .inl (G.2.2.2 0, 7, .inl f)
  | 79 => .inr (0, [.ref (g_ad G 80), .int (f 1)])
  | 80 => .inl (G.2.2.2 0, 120, .inl f)
  | 81 => .inr (4, [.ref (g_ad G 82), .int (f 1), .int (f 2), .ref (g_ad G 61), .int (f 4)])
  | 82 => .inl (G.2.2.2 1, 70, .inl f)
  | 83 => .inr (10, [.ref (g_ad G 84), .int (f 1)])
  | 84 => .inl (G.2.2.2 1, 200, .inl f)
  | 85 => .inl (G.2.2.2 0, 6, .inl f)
  | 86 => .inl (G.2.2.2 0, 6, .inl f)
  | 87 => .inr (12, [.ref (g_ad G 88), .ref (g_ad G 89), .int (f 2), .ref (g_ad G 90), .int (f 4), .int (f 5), .int (f 6), .ref (g_ad G 91), .int (f 8), .ref (g_ad G 92), .ref (g_ad G 93), .ref (g_ad G 94), .ref (g_ad G 95), .int (f 13), .int (f 14), .ref (g_ad G 96), .int (f 16), .ref (g_ad G 97), .ref (g_ad G 98), .ref (g_ad G 99), .ref (g_ad G 100), .ref (g_ad G 101), .ref (g_ad G 102), .ref (g_ad G 103), .int (f 24), .int (f 25), .int (f 26), .int (f 27), .ref (g_ad G 104), .int (f 29), .ref (g_ad G 105), .int (f 31)])
  | 88 => .inl (G.2.2.2 0, 550, .inl f)
  | 89 => .inl (G.2.2.2 0, 550, .inl f)
  | 90 => .inl (G.2.2.2 0, 4400, .inl f)
  | 91 => .inl (G.2.2.2 0, 6, .inl f)
  | 92 => .inl (G.2.2.2 0, 7, .inl f)
  | 93 => .inl (G.2.2.2 0, 144, .inl f)
  | 94 => .inl (G.2.2.2 0, 6, .inl f)
  | 95 => .inl (G.2.2.2 0, 2, .inl f)
  | 96 => .inl (G.2.2.2 0, 120, .inl f)
  | 97 => .inl (G.2.2.2 0, 4, .inl f)
  | 98 => .inl (G.2.2.2 0, 4, .inl f)
  | 99 => .inl (G.2.2.2 0, 7, .inl f)
  | 100 => .inl (G.2.2.2 0, 6, .inl f)
  | 101 => .inl (G.2.2.2 0, 96, .inl f)
  | 102 => .inl (G.2.2.2 0, 6, .inl f)
  | 103 => .inl (G.2.2.2 0, 70, .inl f)
  | 104 => .inl (G.2.2.2 0, 224, .inl f)
  | 105 => .inl (G.2.2.2 0, 200, .inl f)
  | 106 => .inl (G.2.2.2 3, 1, .inr (.inl (fun j => if j = 0 then x.1 else 0)))
  | 107 => .inl (G.2.2.2 4, 1, .inr (.inr (.inr (.inl (fun j => if j = 0 then x.2 else 0)))))
  | _ => .inl (G.2.2.2 0, 0, .inl f)
theorem ce_ru {G : GP} {x : XP} {o : Nat} (h : isRu o) (f : Nat → Int32) : ceF G x o f = .inr (6, [.ref (g_ad G (o + 1)), .int (f 1)]) := if_pos h
theorem ce_rc {G : GP} {x : XP} {o : Nat} (h : isRu o) (f : Nat → Int32) : ceF G x (o + 1) f = .inl (G.2.2.2 0, 384, .inl f) := by
  obtain ⟨h1, h2⟩ := h
  unfold ceF
  rw [if_neg (by omega), if_pos (by omega)]
theorem ce_st {G : GP} {x : XP} {o : Nat} (h : isSt o) (f : Nat → Int32) : ceF G x o f = .inr (8, [.ref (g_ad G (o + 1)), .ref (g_ad G (o + 3)), .ref (g_ad G (o + 5)), .int (f 3)]) := by
  obtain ⟨h1, h2⟩ := h
  unfold ceF
  rw [if_neg (by omega), if_neg (by omega), if_pos (by omega)]
theorem ce_gr {G : GP} {x : XP} {o : Nat} (h : isGr o) (f : Nat → Int32) : ceF G x o f = .inr (2, [.ref (g_ad G (o + 1)), .int (f 1)]) := by
  obtain ⟨h1, h2⟩ := h
  unfold ceF
  rw [if_neg (by omega), if_neg (by omega), if_neg (by omega), if_pos (by omega)]
theorem ce_gc {G : GP} {x : XP} {o : Nat} (h : isGr o) (f : Nat → Int32) : ceF G x (o + 1) f = .inl (G.2.2.2 0, 150, .inl f) := by
  obtain ⟨h1, h2⟩ := h
  unfold ceF
  rw [if_neg (by omega), if_neg (by omega), if_neg (by omega), if_neg (by omega), if_pos (by omega)]
theorem ce_wy {G : GP} {x : XP} {o : Nat} (h : isSt o) (f : Nat → Int32) : ceF G x (o + 5) f = .inl (G.2.2.2 0, 4, .inl f) := by
  obtain ⟨h1, h2⟩ := h
  unfold ceF
  rw [if_neg (by omega), if_neg (by omega), if_neg (by omega), if_neg (by omega), if_neg (by omega), if_pos (by omega)]
theorem ce_va {G : GP} {x : XP} {o : Nat} (h : isVa o) (f : Nat → Int32) : ceF G x o f = .inl (G.2.2.2 0, 6, .inl f) := by
  rcases h with rfl | rfl <;> rfl
theorem isSt_ru {o : Nat} (h : isSt o) : isRu (o + 1) := by obtain ⟨h1, h2⟩ := h; exact ⟨by omega, by omega⟩
theorem isSt_gr {o : Nat} (h : isSt o) : isGr (o + 3) := by obtain ⟨h1, h2⟩ := h; exact ⟨by omega, by omega⟩
theorem ru_lt {o : Nat} (h : isRu o) : o < 108 := Nat.lt_trans h.1 (by decide)
theorem rc_lt {o : Nat} (h : isRu o) : o + 1 < 108 := by obtain ⟨h1, h2⟩ := h; omega
theorem st_lt {o : Nat} (h : isSt o) : o < 108 := Nat.lt_trans h.1 (by decide)
theorem wy_lt {o : Nat} (h : isSt o) : o + 5 < 108 := by obtain ⟨h1, h2⟩ := h; omega
theorem gr_lt {o : Nat} (h : isGr o) : o < 108 := Nat.lt_trans h.1 (by decide)
theorem gc_lt {o : Nat} (h : isGr o) : o + 1 < 108 := by obtain ⟨h1, h2⟩ := h; omega
theorem va_lt {o : Nat} (h : isVa o) : o < 108 := by rcases h with rfl | rfl <;> decide
/-- the store with another content in one cell; with one place changed -/
def st (σ : Sto) (c : Nat) (f : Nat → Int32) : Sto := fun a => if a = c then f else σ a
def up (σ : Sto) (c k : Nat) (v : Int32) : Sto := st σ c (upd (σ c) k v)
theorem st_s (σ : Sto) (c : Nat) (f : Nat → Int32) : st σ c f c = f := if_pos rfl
theorem st_n {σ : Sto} {c a : Nat} {f : Nat → Int32} (h : a ≠ c) : st σ c f a = σ a := if_neg h
def wl (G : GP) (x : XP) (σ : Sto) : va_W := (List.range 108).map fun c => (g_ad G c, ceF G x c (σ c))
theorem wl_at {G : GP} {x : XP} {σ : Sto} {c : Nat} (hc : c < 108) : (wl G x σ)[c]? = some (g_ad G c, ceF G x c (σ c)) := by
  unfold wl
  rw [List.getElem?_map, List.getElem?_range hc]
  rfl
theorem wl_some {G : GP} {x : XP} {σ : Sto} {c : Nat} {q : Nat × va_E} (h : (wl G x σ)[c]? = some q) : c < 108 ∧ q = (g_ad G c, ceF G x c (σ c)) := by
  have hc : c < 108 := by
    have := (List.getElem?_eq_some_iff.mp h).1
    simpa [wl] using this
  exact ⟨hc, Option.some.inj (h.symm.trans (wl_at hc))⟩
theorem wl_set {G : GP} {x : XP} {σ : Sto} {c : Nat} (hc : c < 108) (f : Nat → Int32) : (wl G x σ).set c (g_ad G c, ceF G x c f) = wl G x (st σ c f) := by
  apply List.ext_getElem?
  intro i
  by_cases hi : i = c
  · subst hi
    rw [wl_at hc, st_s, List.getElem?_set_self (by simp [wl]; exact hc)]
  · rw [List.getElem?_set_ne (Ne.symm hi)]
    unfold wl
    rw [List.getElem?_map, List.getElem?_map]
    cases h : (List.range 108)[i]? with
    | none => rfl
    | some j =>
      have hj : j = i := by
        have h2 := List.getElem?_eq_some_iff.mp h
        obtain ⟨h3, h4⟩ := h2
        rw [← h4]
        simp
      subst hj
      dsimp only [Option.map_some]
      rw [st_n hi]
/-- words of the tables that a contract's own list can't hold: which exception is caught where, which constructor a class declares -/
def g_NC : List (String × String) := [("java/lang/IndexOutOfBoundsException", "java/lang/IndexOutOfBoundsException"), ("java/lang/IllegalArgumentException", "java/lang/IllegalArgumentException"), ("java/lang/IllegalStateException", "java/lang/IllegalStateException"), ("java/util/NoSuchElementException", "java/util/NoSuchElementException"), ("java/lang/ArithmeticException", "java/lang/ArithmeticException")]
def g_ND : List MethodName := [Bundle.init0 "java/lang/RuntimeException", Bundle.init0 "java/lang/Exception", Bundle.init0 "java/lang/Throwable"]
def g_NW : List Cond := g_NC.map (fun q => Cond.castable q.1 q.2) ++ g_ND.map (fun y => Cond.declares y)
def g_NN : List (String × String) := [("java/lang/IllegalArgumentException", "java/lang/IndexOutOfBoundsException"), ("java/lang/IllegalStateException", "java/lang/IndexOutOfBoundsException"), ("java/lang/IllegalStateException", "java/lang/IllegalArgumentException"), ("java/util/NoSuchElementException", "java/lang/IndexOutOfBoundsException"), ("java/util/NoSuchElementException", "java/lang/IllegalArgumentException"), ("java/util/NoSuchElementException", "java/lang/IllegalStateException")]
def g_W (U : State) : Prop := (∀ q ∈ g_NC, va_Nw (.castable q.1 q.2) U) ∧ (∀ y ∈ g_ND, va_Nw (.declares y) U) ∧ ∀ q ∈ g_NN, va_Nc q.1 q.2 U
theorem g_W.moved {u U : State} (hvm : u.vm.Alike U.vm) (h : g_W u) : g_W U :=
  ⟨fun q hq => va_tabs rfl (rfl : (u.setVm U.vm).vm = U.vm) (by rw [Cond.castable_setVm hvm]; exact h.1 q hq), fun y hy => va_tabs rfl (rfl : (u.setVm U.vm).vm = U.vm) (by rw [Cond.declares_setVm hvm]; exact h.2.1 y hy), fun q hq => (h.2.2 q hq).moved hvm⟩
theorem g_W.use {U : State} {args : Array Value} (h : g_W U) {w : Cond} (hw : w ∈ g_NW) : w.before args U = true := by
  rcases List.mem_append.mp hw with h1 | h1
  · obtain ⟨q, hq, rfl⟩ := List.mem_map.mp h1
    exact va_Nw.use rfl (h.1 q hq)
  · obtain ⟨y, hy, rfl⟩ := List.mem_map.mp h1
    exact va_Nw.use rfl (h.2.1 y hy)
/-- what the tables and the addresses are: it never changes -/
def g_K (G : GP) (U : State) : Prop := va_K G.2.2.1 g_cls (g_tys G) U ∧ (∀ i j, i < 108 → j < 108 → g_ad G i = g_ad G j → i = j) ∧ (∀ i, i < 108 → G.1 ≤ g_ad G i) ∧ G.1 ≤ U.heap.size ∧ vx_Zq Bundle.tN "UNASSIGNED_STACK" Bundle.steD (g_A G) U U.heap ∧ vx_Zq Bundle.tN "SUPPRESSED_SENTINEL" Bundle.listD (g_A G) U U.heap ∧ g_W U
def g_M (G : GP) (x : XP) (σ : Sto) (s : State) (H : Heap) (locs : List Loc) : Prop := va_P G.2.2.1 g_cls (wl G x σ) H ∧ va_S (g_A G) s.heap H locs
def g_B (G : GP) (x : XP) (σ : Sto) (U : State) : Prop := va_P G.2.2.1 g_cls (wl G x σ) U.heap ∧ g_K G U
theorem g_K.D {G : GP} {U : State} (h : g_K G U) (x : XP) (σ : Sto) : va_D (g_A G) (wl G x σ) := by
  refine ⟨fun i j p q hi hj he => ?_, fun k q hk => ?_⟩
  · obtain ⟨h1, rfl⟩ := wl_some hi
    obtain ⟨h2, rfl⟩ := wl_some hj
    exact h.2.1 i j h1 h2 he
  · obtain ⟨h1, rfl⟩ := wl_some hk
    exact h.2.2.1 k h1
theorem g_K.go {G : GP} {s t : State} {H : Heap} {locs : List Loc} (h : g_K G s) (hS : va_S (g_A G) s.heap H locs) (ht : t.heap = H) (hvm : s.vm.Alike t.vm) : g_K G t := by
  obtain ⟨h1, h2, h3, h4, h5, h6, h7⟩ := h
  subst ht
  exact ⟨h1.moved hvm, h2, h3, Nat.le_trans h4 hS.1, (h5.moved hvm).kept hS.2.1, (h6.moved hvm).kept hS.2.1, h7.moved hvm⟩
theorem g_K.call {G : GP} {U : State} (h : g_K G U) (g : JFrame) (mk : MethodId) (a : Array Value) : g_K G (U.calling g mk a) := by
  obtain ⟨h1, h2, h3, h4, h5, h6, h7⟩ := h
  exact ⟨va_K.moved (u := U) (U := U.calling g mk a) (Vm.Alike.refl U.vm) h1, h2, h3, h4, vx_Zq.moved (u := U) (U := U.calling g mk a) (Vm.Alike.refl U.vm) h5, vx_Zq.moved (u := U) (U := U.calling g mk a) (Vm.Alike.refl U.vm) h6, g_W.moved (u := U) (U := U.calling g mk a) (Vm.Alike.refl U.vm) h7⟩
theorem g_blind {G : GP} {x : XP} {σ : Sto} {As : List Value} : FrameBlind (va_Pc As (g_B G x σ)) := fun a U g mk q => by
  obtain ⟨q0, q1, q2⟩ := q
  exact ⟨q0, q1, q2.call g mk a⟩
theorem g_M.B {G : GP} {x : XP} {σ : Sto} {s t : State} {H : Heap} {locs : List Loc} (hK : g_K G s) (hM : g_M G x σ s H locs) (ht : t.heap = H) (hW : s.WarmedH t.vm) : g_B G x σ t := ⟨by rw [ht]; exact hM.1, hK.go hM.2 ht hW.alike⟩
theorem g_B.K {G : GP} {x : XP} {σ : Sto} {U : State} (h : g_B G x σ U) : g_K G U := h.2
theorem g_B.M {G : GP} {x : XP} {σ : Sto} {U : State} (h : g_B G x σ U) : g_M G x σ U U.heap [] := ⟨h.1, va_S.rf⟩
/-! contracts: a method that returns an int (also a char, a boolean), nothing, a double; one that may throw -/
def g_Meti (l : Launch) (y : MethodName) (cc : ByteArray) (nL : Nat) (ret : Option FieldType) (rm : Room) (G : GP) (x : XP) (As : List Value) (σ : Sto) (P : Int32 → Sto → Prop) : Prop :=
  Met l y (Cond.code y cc nL ret :: TB) rm (va_Pc As (g_B G x σ)) (va_Qi P (g_B G x) (g_A G)) rm.cells rm.slots (g_A G)
def g_Metv (l : Launch) (y : MethodName) (cc : ByteArray) (nL : Nat) (rm : Room) (G : GP) (x : XP) (As : List Value) (σ : Sto) (P : Sto → Prop) : Prop :=
  Met l y (Cond.code y cc nL none :: TB) rm (va_Pc As (g_B G x σ)) (va_Qv P (g_B G x) (g_A G)) rm.cells rm.slots (g_A G)
def g_Metd (l : Launch) (y : MethodName) (cc : ByteArray) (nL : Nat) (rm : Room) (G : GP) (x : XP) (As : List Value) (σ : Sto) (P : UInt64 → Sto → Prop) : Prop :=
  Met l y (Cond.code y cc nL (some .double) :: TB) rm (va_Pc As (g_B G x σ)) (va_Qd P (g_B G x) (g_A G)) rm.cells rm.slots (g_A G)
def g_X (G : GP) (x : XP) (PX : String → Sto → Prop) : String → State → State → Prop := vx_X (fun _ : Sto => True) (fun E u t => PX E u ∧ g_B G x u t) (g_A G)
def g_Mxi (l : Launch) (y : MethodName) (cc : ByteArray) (nL : Nat) (ret : Option FieldType) (rm : Room) (G : GP) (x : XP) (As : List Value) (σ : Sto) (P : Int32 → Sto → Prop) (PX : String → Sto → Prop) : Prop :=
  vx_Met l y (Cond.code y cc nL ret :: TB) rm (va_Pc As (g_B G x σ)) (va_Qi P (g_B G x) (g_A G)) (g_X G x PX) rm.cells rm.slots (g_A G)
def g_Mxv (l : Launch) (y : MethodName) (cc : ByteArray) (nL : Nat) (rm : Room) (G : GP) (x : XP) (As : List Value) (σ : Sto) (P : Sto → Prop) (PX : String → Sto → Prop) : Prop :=
  vx_Met l y (Cond.code y cc nL none :: TB) rm (va_Pc As (g_B G x σ)) (va_Qv P (g_B G x) (g_A G)) (g_X G x PX) rm.cells rm.slots (g_A G)
def g_Mxd (l : Launch) (y : MethodName) (cc : ByteArray) (nL : Nat) (rm : Room) (G : GP) (x : XP) (As : List Value) (σ : Sto) (P : UInt64 → Sto → Prop) (PX : String → Sto → Prop) : Prop :=
  vx_Met l y (Cond.code y cc nL (some .double) :: TB) rm (va_Pc As (g_B G x σ)) (va_Qd P (g_B G x) (g_A G)) (g_X G x PX) rm.cells rm.slots (g_A G)
/-- what a walk of a body has at its start (G: the world; own: the class; nL: its locals; Q: where it goes) -/
def g_C (p : Program) (s : State) (m : MethodId) (args : Array Value) (c : Code) (cc : ByteArray) (nL : Nat) (own : String) (G : GP) : Prop :=
  p.tables.exec = Jvm.exec ∧ c.code = cc ∧ c.maxLocals = nL ∧ s.vm.findClass own = some m.cls ∧ (∀ w ∈ TB, w.before args s = true) ∧ g_K G s
theorem g_ofWi {l : Launch} {y : MethodName} {cc : ByteArray} {nL : Nat} {ty : FieldType} {rm : Room} {G : GP} {x : XP} {σ : Sto} {As : List Value} {P : Int32 → Sto → Prop} (hy : plainName y.cls = true) (hlen : (lg_sl As).length ≤ nL)
    (body : ∀ (p : Program) (e : Env) (s : State) (m : MethodId) (args : Array Value) (below : List Frame) (meth : Method) (c : Code) (Q : State → Prop) (ls : Array Slot), g_C p s m args c cc nL y.cls G → g_M G x σ s s.heap [] → lv_has ls nL (lv_args 0 As) →
      (∀ (pc : Nat) (H : Heap) (locs : List Loc) (ls : Array Slot) (v : Int32) (σ' : Sto), decode cc pc = .ok (.ireturn, 1) → narrow ty (.int v) = .int v → P v σ' → g_M G x σ' s H locs → W p l e rm s m args below meth c H locs rm.cells rm.slots Q (F0 m pc ls [.int v])) →
      W p l e rm s m args below meth c s.heap [] 0 0 Q (F0 m 0 ls [])) : g_Meti l y cc nL (some ty) rm G x As σ P := by
  refine Met.ofW (cc := cc) (maxL := nL) (ret := some ty) hy rfl ?_
  intro p e s m args below meth c s₁ B hml hv
  obtain ⟨rfl, hB⟩ := hv
  have hts := atoms_spec (ws := Cond.code y cc nL (some ty) :: TB) B.pre
  have hl := lv_entry As (n := nL) hlen
  have hlocks := B.notSynchronized
  rw [lg_entry_eq]
  exact body p e s m _ below meth c _ _ ⟨B.exec, B.bytes, hml, findClass_of_methodNamed B.named, fun w hw => hts w (List.mem_cons_of_mem _ hw), hB.K⟩ hB.M hl
    (fun pc H locs ls v σ' hd hn hP hM => W.zret B.exec B.bytes B.returns hn (fun t ht hW => ⟨⟨v, σ', rfl, hP, hM.B hB.K ht hW⟩, hM.2.F ht⟩) hM.2.2.2 hd)
theorem g_ofWv {l : Launch} {y : MethodName} {cc : ByteArray} {nL : Nat} {rm : Room} {G : GP} {x : XP} {σ : Sto} {As : List Value} {P : Sto → Prop} (hy : plainName y.cls = true) (hlen : (lg_sl As).length ≤ nL)
    (body : ∀ (p : Program) (e : Env) (s : State) (m : MethodId) (args : Array Value) (below : List Frame) (meth : Method) (c : Code) (Q : State → Prop) (ls : Array Slot), g_C p s m args c cc nL y.cls G → g_M G x σ s s.heap [] → lv_has ls nL (lv_args 0 As) →
      (∀ (pc : Nat) (H : Heap) (locs : List Loc) (ls : Array Slot) (σ' : Sto), decode cc pc = .ok (.return_, 1) → P σ' → g_M G x σ' s H locs → W p l e rm s m args below meth c H locs rm.cells rm.slots Q (F0 m pc ls [])) →
      W p l e rm s m args below meth c s.heap [] 0 0 Q (F0 m 0 ls [])) : g_Metv l y cc nL rm G x As σ P := by
  refine Met.ofW (cc := cc) (maxL := nL) (ret := none) hy rfl ?_
  intro p e s m args below meth c s₁ B hml hv
  obtain ⟨rfl, hB⟩ := hv
  have hts := atoms_spec (ws := Cond.code y cc nL none :: TB) B.pre
  have hl := lv_entry As (n := nL) hlen
  have hlocks := B.notSynchronized
  rw [lg_entry_eq]
  exact body p e s m _ below meth c _ _ ⟨B.exec, B.bytes, hml, findClass_of_methodNamed B.named, fun w hw => hts w (List.mem_cons_of_mem _ hw), hB.K⟩ hB.M hl
    (fun pc H locs ls σ' hd hP hM => W.vret B.exec B.bytes B.returns (fun t ht hW => ⟨⟨σ', rfl, hP, hM.B hB.K ht hW⟩, hM.2.F ht⟩) hM.2.2.2 hd)
theorem g_ofWd {l : Launch} {y : MethodName} {cc : ByteArray} {nL : Nat} {rm : Room} {G : GP} {x : XP} {σ : Sto} {As : List Value} {P : UInt64 → Sto → Prop} (hy : plainName y.cls = true) (hlen : (lg_sl As).length ≤ nL)
    (body : ∀ (p : Program) (e : Env) (s : State) (m : MethodId) (args : Array Value) (below : List Frame) (meth : Method) (c : Code) (Q : State → Prop) (ls : Array Slot), g_C p s m args c cc nL y.cls G → g_M G x σ s s.heap [] → lv_has ls nL (lv_args 0 As) →
      (∀ (pc : Nat) (H : Heap) (locs : List Loc) (ls : Array Slot) (v : UInt64) (σ' : Sto), decode cc pc = .ok (.dreturn, 1) → P v σ' → g_M G x σ' s H locs → W p l e rm s m args below meth c H locs rm.cells rm.slots Q (F0 m pc ls [.double v])) →
      W p l e rm s m args below meth c s.heap [] 0 0 Q (F0 m 0 ls [])) : g_Metd l y cc nL rm G x As σ P := by
  refine Met.ofW (cc := cc) (maxL := nL) (ret := some .double) hy rfl ?_
  intro p e s m args below meth c s₁ B hml hv
  obtain ⟨rfl, hB⟩ := hv
  have hts := atoms_spec (ws := Cond.code y cc nL (some .double) :: TB) B.pre
  have hl := lv_entry As (n := nL) hlen
  have hlocks := B.notSynchronized
  rw [lg_entry_eq]
  exact body p e s m _ below meth c _ _ ⟨B.exec, B.bytes, hml, findClass_of_methodNamed B.named, fun w hw => hts w (List.mem_cons_of_mem _ hw), hB.K⟩ hB.M hl
    (fun pc H locs ls v σ' hd hP hM => W.dret B.exec B.bytes B.returns (fun t ht hW => ⟨⟨v, σ', rfl, hP, hM.B hB.K ht hW⟩, hM.2.F ht⟩) hM.2.2.2 hd)
