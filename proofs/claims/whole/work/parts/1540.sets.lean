/-! MATH. Sets of bits. -/
def pw (n : Nat) : Int32 := (1 : Int32) <<< (nI n &&& 31)
def nt (x : Int32) : Int32 := x ^^^ (-1)
theorem pw_fold (n : Nat) : nI 1 <<< (nI n &&& nI 31) = pw n := rfl
theorem nt_fold (x : Int32) : x ^^^ (-nI 1) = nt x := rfl
theorem b_pw {n : Nat} (hn : n < 32) (i : Nat) : bt (pw n) i = decide (i = n) := b_one hn
theorem b_nt (x : Int32) {i : Nat} (hi : i < 32) : bt (nt x) i = !bt x i := b_not x hi
theorem ask_pw {x : Int32} {n : Nat} (hn : n < 32) : (x &&& pw n = nI 0) = (bt x n = false) := propext (b_ask hn)
theorem b_z (i : Nat) : bt (nI 0) i = false := b_0 i
theorem has_eq {x : Int32} {n : Nat} {σ : Sto} {P : Int32 → Sto → Prop} (hn : n < 32) : D_X12_has x (nI n) σ P = P (if bt x n then nI 1 else nI 0) σ := by
  unfold D_X12_has
  rw [b_has hn]
  cases bt x n
  · simp only [Bool.false_eq_true, if_false]
    exact propext ⟨fun q => q.2 (by decide), fun q => ⟨fun e => absurd e (by decide), fun _ => q⟩⟩
  · simp only [if_true]
    exact propext ⟨fun q => q.1 (by decide), fun q => ⟨fun _ => q, fun e => absurd (by decide) e⟩⟩
theorem bt1 {b : Bool} : ((if b = true then nI 1 else nI 0) = nI 0) = (b = false) := by
  cases b
  · exact propext ⟨fun _ => rfl, fun _ => rfl⟩
  · exact propext ⟨fun q => absurd q (by decide), fun q => by cases q⟩
theorem ask_0 {x : Int32} : (x &&& nI 1 = nI 0) = (bt x 0 = false) := by
  have := ask_pw (x := x) (n := 0) (by decide)
  exact this
theorem ext32 {x y : Int32} (h : ∀ i, i < 32 → bt x i = bt y i) : x = y := b_ext h
theorem bF {b : Bool} (h : b = true) : (b = false) = False := by rw [h]; exact eq_false (by decide)
theorem bT {b : Bool} (h : b = false) : (b = false) = True := by rw [h]; exact eq_true rfl
