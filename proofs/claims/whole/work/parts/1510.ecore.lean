/-! MATH. The engine's rows: how copies and updates change what the cells say. -/
theorem RuleAt_congr {f f' : Nat → Int32} {b : Nat} {r : mRule} (hr : r.2.2.2.length ≤ 4) (h : ∀ k, k < 16 → f' (b + k) = f (b + k)) (hA : RuleAt f b r) : RuleAt f' b r := by
  obtain ⟨h0, h1, h2, h3, h4⟩ := hA
  refine ⟨(h 0 (by omega)).trans h0, (h 1 (by omega)).trans h1, (h 2 (by omega)).trans h2, (h 3 (by omega)).trans h3, fun c q hq => ?_⟩
  have hc : c < 4 := Nat.lt_of_lt_of_le (List.getElem?_eq_some_iff.mp hq).1 hr
  obtain ⟨g0, g1, g2⟩ := h4 c q hq
  refine ⟨?_, ?_, ?_⟩
  · have := h (4 + 3 * c) (by omega)
    rw [Nat.add_assoc b 4 (3 * c), this, ← Nat.add_assoc]
    exact g0
  · have := h (4 + 3 * c + 1) (by omega)
    rw [show b + 4 + 3 * c + 1 = b + (4 + 3 * c + 1) by omega, this, show b + (4 + 3 * c + 1) = b + 4 + 3 * c + 1 by omega]
    exact g1
  · have := h (4 + 3 * c + 2) (by omega)
    rw [show b + 4 + 3 * c + 2 = b + (4 + 3 * c + 2) by omega, this, show b + (4 + 3 * c + 2) = b + 4 + 3 * c + 2 by omega]
    exact g2
theorem RulesAt_congr {f f' : Nat → Int32} {l : List mRule} (hl : ∀ r, r ∈ l → WFRule r) (h : ∀ k, k < 16 * l.length → f' k = f k) (hA : RulesAt f l) : RulesAt f' l := by
  intro k r hk
  have hlt := (List.getElem?_eq_some_iff.mp hk).1
  exact RuleAt_congr (hl r (List.mem_of_getElem? hk)).2.2.2.1 (fun j hj => h _ (by omega)) (hA k r hk)
theorem GrantsAt_congr {f f' : Nat → Int32} {l : List mGrant} (h : ∀ k, k < 5 * l.length → f' k = f k) (hA : GrantsAt f l) : GrantsAt f' l := by
  intro k g hk
  have hlt := (List.getElem?_eq_some_iff.mp hk).1
  obtain ⟨h0, h1, h2, h3, h4⟩ := hA k g hk
  exact ⟨(h _ (by omega)).trans h0, (h _ (by omega)).trans h1, (h _ (by omega)).trans h2, (h _ (by omega)).trans h3, (h _ (by omega)).trans h4⟩
theorem RowAt_congr {f f' : Nat → Int32} {l : List Nat} (h : ∀ k, k < l.length → f' k = f k) (hA : RowAt f l) : RowAt f' l := fun k w hk => (h k (List.getElem?_eq_some_iff.mp hk).1).trans (hA k w hk)
theorem CoreAt_congr {n n' gn gn' t t' : Int32} {f f' gf gf' wf wf' : Nat → Int32} {c : mCore} (hw : WFCore c) (e1 : n' = n) (e2 : ∀ k, k < 16 * c.1.length → f' k = f k) (e3 : gn' = gn) (e4 : ∀ k, k < 5 * c.2.1.length → gf' k = gf k) (e5 : ∀ k, k < 4 → wf' k = wf k) (e6 : t' = t) (h : CoreAt n f gn gf wf t c) : CoreAt n' f' gn' gf' wf' t' c := by
  obtain ⟨h1, h2, h3, h4, h5, h6⟩ := h
  exact ⟨e1.trans h1, RulesAt_congr hw.2.1 e2 h2, e3.trans h3, GrantsAt_congr e4 h4, RowAt_congr (fun k hk => e5 k (by rw [hw.2.2.2.2.2.1] at hk; exact hk)) h5, e6.trans h6⟩
theorem CoreM_congr {c : mCore} (hw : WFCore c) {g g' : Nat → Int32} {o o' : Nat} (h : ∀ k, k < 550 → g' (o' + k) = g (o + k)) (hA : CoreM c g o) : CoreM c g' o' := by
  have h1 := hw.1
  have h2 := hw.2.2.1
  refine CoreAt_congr hw (h 0 (by decide)) (fun k hk => ?_) (h 6 (by decide)) (fun k hk => ?_) (fun k hk => ?_) (h 5 (by decide)) hA
  · show g' (o' + 10 + k) = g (o + 10 + k)
    rw [Nat.add_assoc, h _ (by omega), Nat.add_assoc]
  · show g' (o' + 400 + k) = g (o + 400 + k)
    rw [Nat.add_assoc, h _ (by omega), Nat.add_assoc]
  · show g' (o' + 1 + k) = g (o + 1 + k)
    rw [Nat.add_assoc, h _ (by omega), Nat.add_assoc]
theorem CoreE_congr {c : mCore} {σ σ' : Sto} {b : Nat} (h : ∀ k, b ≤ k → k < b + 6 → σ' k = σ k) (hA : CoreE c σ b) : CoreE c σ' b := by
  unfold CoreE at *
  rw [h b (by omega) (by omega), h (b + 1) (by omega) (by omega), h (b + 2) (by omega) (by omega), h (b + 3) (by omega) (by omega), h (b + 4) (by omega) (by omega), h (b + 5) (by omega) (by omega)]
  exact hA
/-- the engine's copies -/
theorem X6_copy {o0 o1 n : Nat} {σ : Sto} {P : Sto → Prop} (h0 : isRu o0) (h1 : isRu o1) (hne : o0 ≠ o1) (hn : σ o1 1 = nI n) (hb : n ≤ 24) (h : ∀ σ' : Sto, (∀ c, c ≠ o0 → c ≠ o0 + 1 → σ' c = σ c) → σ' o0 1 = nI n → (∀ k, k < 16 * n → σ' (o0 + 1) k = σ (o1 + 1) k) → P σ') : D_X6_copyFrom o0 o1 σ P := by
  have hx : o1 ≠ o0 + 1 := by
    intro e
    have := h0.2
    have := h1.2
    omega
  refine ⟨h0, h1, ?_, fun s17 e17 s25 e25 => ?_⟩
  · rw [hn, show (16 : Int32) = nI 16 from rfl, pk_mul]
    exact cpyOk_nI (a := 0) (b := 0) (by decide) (by decide) (by omega) (by omega) (by omega)
  · subst e25
    subst e17
    refine h _ (fun c hc1 hc2 => ?_) ?_ (fun k hk => ?_)
    · rw [up_nc hc1, cpy_nc hc2]
    · rw [up_at, cpy_nc hx, hn]
    · rw [up_nc (by omega)]
      simp (disch := omega) only [String.reduceEq, isRu_1, isRu_61, isGr_3, isSt_0, isSt_6, lg_selfT, isB_0, isB_1, eq_self, true_or, or_true, false_or, or_false, or_self, fa_lit, nI_add, pk_mul, pk_sub, nI_addm, nI_leI, nI_ltI, nI_eqI, vp_inI, ix_nI, forall_eq, true_implies, false_implies, not_true_eq_false, not_false_eq_true, and_true, true_and, false_and, and_false, nle_T, nle_F, nlt_T, nlt_F, neq_T, neq_F, up_rd_s, up_rd_n, up_nc, cpy_nc, cpy_in, cpy_out, cpyOk_T, m1_lt, m1_le, m1_nle, m1_nlt, m1_eq, m1_eq2, m1_0le, Nat.add_zero, Nat.zero_add, Nat.mul_one, Nat.sub_zero, if_true, if_false, Nat.add_sub_cancel, Nat.add_sub_cancel_left, hn]
theorem X2_copy {o0 o1 n : Nat} {σ : Sto} {P : Sto → Prop} (h0 : isGr o0) (h1 : isGr o1) (hne : o0 ≠ o1) (hn : σ o1 1 = nI n) (hb : n ≤ 30) (h : ∀ σ' : Sto, (∀ c, c ≠ o0 → c ≠ o0 + 1 → σ' c = σ c) → σ' o0 1 = nI n → (∀ k, k < 5 * n → σ' (o0 + 1) k = σ (o1 + 1) k) → P σ') : D_X2_copyFrom o0 o1 σ P := by
  have hx : o1 ≠ o0 + 1 := by
    intro e
    have := h0.2
    have := h1.2
    omega
  refine ⟨h0, h1, ?_, fun s17 e17 s25 e25 => ?_⟩
  · rw [hn, show (5 : Int32) = nI 5 from rfl, pk_mul]
    exact cpyOk_nI (a := 0) (b := 0) (by decide) (by decide) (by omega) (by omega) (by omega)
  · subst e25
    subst e17
    refine h _ (fun c hc1 hc2 => ?_) ?_ (fun k hk => ?_)
    · rw [up_nc hc1, cpy_nc hc2]
    · rw [up_at, cpy_nc hx, hn]
    · rw [up_nc (by omega)]
      simp (disch := omega) only [String.reduceEq, isRu_1, isRu_61, isGr_3, isSt_0, isSt_6, lg_selfT, isB_0, isB_1, eq_self, true_or, or_true, false_or, or_false, or_self, fa_lit, nI_add, pk_mul, pk_sub, nI_addm, nI_leI, nI_ltI, nI_eqI, vp_inI, ix_nI, forall_eq, true_implies, false_implies, not_true_eq_false, not_false_eq_true, and_true, true_and, false_and, and_false, nle_T, nle_F, nlt_T, nlt_F, neq_T, neq_F, up_rd_s, up_rd_n, up_nc, cpy_nc, cpy_in, cpy_out, cpyOk_T, m1_lt, m1_le, m1_nle, m1_nlt, m1_eq, m1_eq2, m1_0le, Nat.add_zero, Nat.zero_add, Nat.mul_one, Nat.sub_zero, if_true, if_false, Nat.add_sub_cancel, Nat.add_sub_cancel_left, hn]
theorem X8_copy {o0 o1 : Nat} {c : mCore} {σ : Sto} {P : Sto → Prop} (h0 : isSt o0) (h1 : isSt o1) (hne : o0 ≠ o1) (hw : WFCore c) (hA : CoreE c σ o1) (h : ∀ σ' : Sto, CoreE c σ' o0 → (∀ k, ¬ (o0 ≤ k ∧ k < o0 + 6) → σ' k = σ k) → P σ') : D_X8_copyFrom o0 o1 σ P := by
  have q0 := h0.2
  have q1 := h1.2
  obtain ⟨g1, g2, g3, g4, g5, g6⟩ := hA
  refine ⟨h0, h1, X6_copy (isSt_ru h0) (isSt_ru h1) (by omega) g1 hw.1 (fun σ1 a1 a2 a3 => ?_)⟩
  refine X2_copy (n := c.2.1.length) (isSt_gr h0) (isSt_gr h1) (by omega) (by rw [a1 _ (by omega) (by omega)]; exact g3) hw.2.2.1 (fun σ2 b1 b2 b3 => ?_)
  refine ⟨cpyOk_nI (a := 0) (b := 0) (n := 4) (by decide) (by decide) (by decide) (by decide) (by decide), fun s33 e33 s41 e41 => ?_⟩
  have fr : ∀ k, ¬ (o0 ≤ k ∧ k < o0 + 6) → s41 k = σ k := by
    intro k hk
    rw [e41, up_nc (by omega), e33, cpy_nc (by omega), b1 _ (by omega) (by omega), a1 _ (by omega) (by omega)]
  refine h s41 ?_ fr
  have w5 : s41 (o0 + 5) = va_cpy (σ (o1 + 5)) (σ2 (o0 + 5)) 0 0 4 := by
    rw [e41, up_nc (by omega), e33, cpy_c, b1 _ (by omega) (by omega), a1 _ (by omega) (by omega)]
    rfl
  refine CoreAt_congr hw (n := σ (o1 + 1) 1) (f := σ (o1 + 2)) (gn := σ (o1 + 3) 1) (gf := σ (o1 + 4)) (wf := σ (o1 + 5)) (t := σ o1 3) ?_ ?_ ?_ ?_ ?_ ?_ ⟨g1, g2, g3, g4, g5, g6⟩
  · rw [e41, up_nc (by omega), e33, cpy_nc (by omega), b1 _ (by omega) (by omega), a2, g1]
  · intro k hk
    rw [e41, up_nc (by omega), e33, cpy_nc (by omega), b1 _ (by omega) (by omega)]
    exact a3 k hk
  · rw [e41, up_nc (by omega), e33, cpy_nc (by omega), b2, g3]
  · intro k hk
    rw [e41, up_nc (by omega), e33, cpy_nc (by omega)]
    rw [show o0 + 4 = o0 + 3 + 1 from rfl, b3 k hk, a1 _ (by omega) (by omega)]
  · intro k hk
    rw [w5, pk_cpy_in (by omega) (by omega)]
    congr 1
    omega
  · rw [e41, up_at, e33, cpy_nc (by omega), b1 _ (by omega) (by omega), a1 _ (by omega) (by omega)]
/-- cells that the engine's value is read from -/
def reC (k : Nat) : Prop := k < 61 ∨ k = 63 ∨ k = 64 ∨ k = 79 ∨ k = 80 ∨ k = 81 ∨ k = 82 ∨ k = 85
theorem blk {f : Nat → Int32} (h : PastE f) {k : Nat} (hk : k < 8) : ∃ j, j < 8 ∧ f k = nI (12 + 6 * j) ∧ ix (f k) = 12 + 6 * j := by
  obtain ⟨j, hj, e⟩ := h.1 k hk
  exact ⟨j, hj, e, by rw [e]; exact nI_clamp (by omega)⟩
theorem HistE_congr {h : List mCore} {σ σ' : Sto} (hl : h.length ≤ 8) (he : ∀ k, 12 ≤ k → k < 60 → σ' k = σ k) (h3 : σ' 63 = σ 63) (h4 : σ' 64 = σ 64) (H : HistE h σ) : HistE h σ' := by
  obtain ⟨a1, a2, a3⟩ := H
  refine ⟨by rw [h3]; exact a1, by rw [h4]; exact a2, fun k c hk => ?_⟩
  have hlt := (List.getElem?_eq_some_iff.mp hk).1
  obtain ⟨j, hj, e1, e2⟩ := blk a2 (k := k) (by omega)
  have := a3 k c hk
  rw [h4, e2]
  rw [e2] at this
  exact CoreE_congr (fun k h1 h2 => he k (by omega) (by omega)) this
theorem RE_same {a : mA} {σ σ' : Sto} (hl : (aHist a).length ≤ 8) (h : ∀ k, reC k → σ' k = σ k) (H : RE a σ) : RE a σ' := by
  obtain ⟨h1, ⟨h2, h2b⟩, h3, h4, h5, h6, ⟨h7, h7b⟩, ⟨h8, h8b⟩, h9⟩ := H
  refine ⟨CoreE_congr (fun k _ hk => h k (Or.inl (by omega))) h1, ⟨?_, fun c hc => CoreE_congr (fun k _ hk => h k (Or.inl (by omega))) (h2b c hc)⟩, HistE_congr hl (fun k _ hk => h k (Or.inl (by omega))) (h 63 (by unfold reC; omega)) (h 64 (by unfold reC; omega)) h3, ?_, ?_, ?_, ⟨?_, ?_⟩, ⟨?_, ?_⟩, ?_⟩
  · rw [h 60 (by unfold reC; omega)]; exact h2
  · rw [h 60 (by unfold reC; omega)]; exact h4
  · rw [h 60 (by unfold reC; omega)]; exact h5
  · rw [h 85 (by unfold reC; omega)]; exact h6
  · rw [h 79 (by unfold reC; omega)]; exact h7
  · rw [h 80 (by unfold reC; omega)]; exact h7b
  · rw [h 81 (by unfold reC; omega)]; exact h8
  · rw [h 82 (by unfold reC; omega)]; exact h8b
  · rw [h 81 (by unfold reC; omega)]; exact h9
/-- another core -/
theorem RE_core {a : mA} {c' : mCore} {σ σ' : Sto} (hl : (aHist a).length ≤ 8) (hc : CoreE c' σ' 0) (h : ∀ k, 6 ≤ k → reC k → σ' k = σ k) (H : RE a σ) : RE (c', a.2) σ' := by
  obtain ⟨h1, ⟨h2, h2b⟩, h3, h4, h5, h6, ⟨h7, h7b⟩, ⟨h8, h8b⟩, h9⟩ := H
  refine ⟨hc, ⟨?_, fun c hc => CoreE_congr (fun k hk2 hk => h k (by omega) (Or.inl (by omega))) (h2b c hc)⟩, HistE_congr hl (fun k hk2 hk => h k (by omega) (Or.inl (by omega))) (h 63 (by omega) (by unfold reC; omega)) (h 64 (by omega) (by unfold reC; omega)) h3, ?_, ?_, ?_, ⟨?_, ?_⟩, ⟨?_, ?_⟩, ?_⟩
  · rw [h 60 (by omega) (by unfold reC; omega)]; exact h2
  · rw [h 60 (by omega) (by unfold reC; omega)]; exact h4
  · rw [h 60 (by omega) (by unfold reC; omega)]; exact h5
  · rw [h 85 (by omega) (by unfold reC; omega)]; exact h6
  · rw [h 79 (by omega) (by unfold reC; omega)]; exact h7
  · rw [h 80 (by omega) (by unfold reC; omega)]; exact h7b
  · rw [h 81 (by omega) (by unfold reC; omega)]; exact h8
  · rw [h 82 (by omega) (by unfold reC; omega)]; exact h8b
  · rw [h 81 (by omega) (by unfold reC; omega)]; exact h9
/-- what a change does to the history -/
def keepH (h : List mCore) (c : mCore) : List mCore := (if h.length < 8 then h else h.tail) ++ [c]
def aKeep (a : mA) : mA := (a.1, a.2.1, keepH (aHist a) (aCore a), a.2.2.2)
theorem keepH_len {h : List mCore} {c : mCore} (hl : h.length ≤ 8) : (keepH h c).length ≤ 8 := by
  unfold keepH
  split <;> simp <;> omega
theorem X3_forget {f : Nat → Int32} {σ : Sto} {P : Sto → Prop} (hf : σ 64 = f) (hp : PastE f) (h : ∀ σ' : Sto, (∀ c, c ≠ 64 → c ≠ 63 → σ' c = σ c) → σ' 63 1 = nI 7 → (∀ k, k < 8 → σ' 64 k = if k < 7 then f (k + 1) else f 0) → P σ') : D_X3_forgetOldest σ P := by
  intro K9 hK o5 ho5
  obtain ⟨j0, hj0, e0, e0'⟩ := blk hp (k := 0) (by decide)
  rw [hf, e0'] at ho5
  refine ⟨⟨by omega, by omega⟩, ?_⟩
  have hstep := fun v2 σ => hK v2 o5 σ
  refine lp 7 (fun i s => K9 (nI (i + 1)) o5 s) (fun i s => (∀ c, c ≠ 64 → s c = σ c) ∧ ∀ k, k < 8 → s 64 k = if k < i then f (k + 1) else f k) ?_ ?_ σ ⟨fun _ _ => rfl, fun k hk => by rw [hf, if_neg (by omega)]⟩
  · intro s hs
    apply hstep
    simp (disch := omega) only [String.reduceEq, isRu_1, isRu_61, isGr_3, isSt_0, isSt_6, lg_selfT, isB_0, isB_1, eq_self, true_or, or_true, false_or, or_false, or_self, fa_lit, nI_add, pk_mul, pk_sub, nI_addm, nI_leI, nI_ltI, nI_eqI, vp_inI, ix_nI, forall_eq, true_implies, false_implies, not_true_eq_false, not_false_eq_true, and_true, true_and, false_and, and_false, nle_T, nle_F, nlt_T, nlt_F, neq_T, neq_F, up_rd_s, up_rd_n, up_nc, cpy_nc, cpy_in, cpy_out, cpyOk_T, m1_lt, m1_le, m1_nle, m1_nlt, m1_eq, m1_eq2, m1_0le, Nat.add_zero, Nat.zero_add, Nat.mul_one, Nat.sub_zero, if_true, if_false, Nat.add_sub_cancel, Nat.add_sub_cancel_left]
    refine h _ (fun c h1 h2 => ?_) ?_ (fun k hk => ?_)
    · simp (disch := omega) only [String.reduceEq, isRu_1, isRu_61, isGr_3, isSt_0, isSt_6, lg_selfT, isB_0, isB_1, eq_self, true_or, or_true, false_or, or_false, or_self, fa_lit, nI_add, pk_mul, pk_sub, nI_addm, nI_leI, nI_ltI, nI_eqI, vp_inI, ix_nI, forall_eq, true_implies, false_implies, not_true_eq_false, not_false_eq_true, and_true, true_and, false_and, and_false, nle_T, nle_F, nlt_T, nlt_F, neq_T, neq_F, up_rd_s, up_rd_n, up_nc, cpy_nc, cpy_in, cpy_out, cpyOk_T, m1_lt, m1_le, m1_nle, m1_nlt, m1_eq, m1_eq2, m1_0le, Nat.add_zero, Nat.zero_add, Nat.mul_one, Nat.sub_zero, if_true, if_false, Nat.add_sub_cancel, Nat.add_sub_cancel_left]
      exact hs.1 c h1
    · simp (disch := omega) only [String.reduceEq, isRu_1, isRu_61, isGr_3, isSt_0, isSt_6, lg_selfT, isB_0, isB_1, eq_self, true_or, or_true, false_or, or_false, or_self, fa_lit, nI_add, pk_mul, pk_sub, nI_addm, nI_leI, nI_ltI, nI_eqI, vp_inI, ix_nI, forall_eq, true_implies, false_implies, not_true_eq_false, not_false_eq_true, and_true, true_and, false_and, and_false, nle_T, nle_F, nlt_T, nlt_F, neq_T, neq_F, up_rd_s, up_rd_n, up_nc, cpy_nc, cpy_in, cpy_out, cpyOk_T, m1_lt, m1_le, m1_nle, m1_nlt, m1_eq, m1_eq2, m1_0le, Nat.add_zero, Nat.zero_add, Nat.mul_one, Nat.sub_zero, if_true, if_false, Nat.add_sub_cancel, Nat.add_sub_cancel_left]
    · by_cases e : k < 7
      · simp (disch := omega) only [String.reduceEq, isRu_1, isRu_61, isGr_3, isSt_0, isSt_6, lg_selfT, isB_0, isB_1, eq_self, true_or, or_true, false_or, or_false, or_self, fa_lit, nI_add, pk_mul, pk_sub, nI_addm, nI_leI, nI_ltI, nI_eqI, vp_inI, ix_nI, forall_eq, true_implies, false_implies, not_true_eq_false, not_false_eq_true, and_true, true_and, false_and, and_false, nle_T, nle_F, nlt_T, nlt_F, neq_T, neq_F, up_rd_s, up_rd_n, up_nc, cpy_nc, cpy_in, cpy_out, cpyOk_T, m1_lt, m1_le, m1_nle, m1_nlt, m1_eq, m1_eq2, m1_0le, Nat.add_zero, Nat.zero_add, Nat.mul_one, Nat.sub_zero, if_true, if_false, Nat.add_sub_cancel, Nat.add_sub_cancel_left, hs.2 k hk]
      · simp (disch := omega) only [String.reduceEq, isRu_1, isRu_61, isGr_3, isSt_0, isSt_6, lg_selfT, isB_0, isB_1, eq_self, true_or, or_true, false_or, or_false, or_self, fa_lit, nI_add, pk_mul, pk_sub, nI_addm, nI_leI, nI_ltI, nI_eqI, vp_inI, ix_nI, forall_eq, true_implies, false_implies, not_true_eq_false, not_false_eq_true, and_true, true_and, false_and, and_false, nle_T, nle_F, nlt_T, nlt_F, neq_T, neq_F, up_rd_s, up_rd_n, up_nc, cpy_nc, cpy_in, cpy_out, cpyOk_T, m1_lt, m1_le, m1_nle, m1_nlt, m1_eq, m1_eq2, m1_0le, Nat.add_zero, Nat.zero_add, Nat.mul_one, Nat.sub_zero, if_true, if_false, Nat.add_sub_cancel, Nat.add_sub_cancel_left]
        rw [ho5, e0]
  · intro i s hi hs hnext
    apply hstep
    have hr : s 64 (i + 1) = f (i + 1) := by rw [hs.2 (i + 1) (by omega), if_neg (by omega)]
    obtain ⟨j, hj, e, e'⟩ := blk hp (k := i + 1) (by omega)
    simp (disch := omega) only [String.reduceEq, isRu_1, isRu_61, isGr_3, isSt_0, isSt_6, lg_selfT, isB_0, isB_1, eq_self, true_or, or_true, false_or, or_false, or_self, fa_lit, nI_add, pk_mul, pk_sub, nI_addm, nI_leI, nI_ltI, nI_eqI, vp_inI, ix_nI, forall_eq, true_implies, false_implies, not_true_eq_false, not_false_eq_true, and_true, true_and, false_and, and_false, nle_T, nle_F, nlt_T, nlt_F, neq_T, neq_F, up_rd_s, up_rd_n, up_nc, cpy_nc, cpy_in, cpy_out, cpyOk_T, m1_lt, m1_le, m1_nle, m1_nlt, m1_eq, m1_eq2, m1_0le, Nat.add_zero, Nat.zero_add, Nat.mul_one, Nat.sub_zero, if_true, if_false, Nat.add_sub_cancel, Nat.add_sub_cancel_left, hr, e]
    refine ⟨⟨by omega, by omega⟩, hnext _ ⟨fun c hc => ?_, fun k hk => ?_⟩⟩
    · simp (disch := omega) only [String.reduceEq, isRu_1, isRu_61, isGr_3, isSt_0, isSt_6, lg_selfT, isB_0, isB_1, eq_self, true_or, or_true, false_or, or_false, or_self, fa_lit, nI_add, pk_mul, pk_sub, nI_addm, nI_leI, nI_ltI, nI_eqI, vp_inI, ix_nI, forall_eq, true_implies, false_implies, not_true_eq_false, not_false_eq_true, and_true, true_and, false_and, and_false, nle_T, nle_F, nlt_T, nlt_F, neq_T, neq_F, up_rd_s, up_rd_n, up_nc, cpy_nc, cpy_in, cpy_out, cpyOk_T, m1_lt, m1_le, m1_nle, m1_nlt, m1_eq, m1_eq2, m1_0le, Nat.add_zero, Nat.zero_add, Nat.mul_one, Nat.sub_zero, if_true, if_false, Nat.add_sub_cancel, Nat.add_sub_cancel_left]
      exact hs.1 c hc
    · by_cases h1 : k = i
      · subst h1
        simp (disch := omega) only [String.reduceEq, isRu_1, isRu_61, isGr_3, isSt_0, isSt_6, lg_selfT, isB_0, isB_1, eq_self, true_or, or_true, false_or, or_false, or_self, fa_lit, nI_add, pk_mul, pk_sub, nI_addm, nI_leI, nI_ltI, nI_eqI, vp_inI, ix_nI, forall_eq, true_implies, false_implies, not_true_eq_false, not_false_eq_true, and_true, true_and, false_and, and_false, nle_T, nle_F, nlt_T, nlt_F, neq_T, neq_F, up_rd_s, up_rd_n, up_nc, cpy_nc, cpy_in, cpy_out, cpyOk_T, m1_lt, m1_le, m1_nle, m1_nlt, m1_eq, m1_eq2, m1_0le, Nat.add_zero, Nat.zero_add, Nat.mul_one, Nat.sub_zero, if_true, if_false, Nat.add_sub_cancel, Nat.add_sub_cancel_left]
        rw [e]
      · simp (disch := omega) only [String.reduceEq, isRu_1, isRu_61, isGr_3, isSt_0, isSt_6, lg_selfT, isB_0, isB_1, eq_self, true_or, or_true, false_or, or_false, or_self, fa_lit, nI_add, pk_mul, pk_sub, nI_addm, nI_leI, nI_ltI, nI_eqI, vp_inI, ix_nI, forall_eq, true_implies, false_implies, not_true_eq_false, not_false_eq_true, and_true, true_and, false_and, and_false, nle_T, nle_F, nlt_T, nlt_F, neq_T, neq_F, up_rd_s, up_rd_n, up_nc, cpy_nc, cpy_in, cpy_out, cpyOk_T, m1_lt, m1_le, m1_nle, m1_nlt, m1_eq, m1_eq2, m1_0le, Nat.add_zero, Nat.zero_add, Nat.mul_one, Nat.sub_zero, if_true, if_false, Nat.add_sub_cancel, Nat.add_sub_cancel_left]
        rw [hs.2 k hk]
        by_cases h2 : k < i
        · rw [if_pos h2, if_pos (by omega)]
        · rw [if_neg h2, if_neg (by omega)]
