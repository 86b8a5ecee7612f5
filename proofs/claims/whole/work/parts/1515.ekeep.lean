/-! MATH. keep, takeBack: the engine's history. -/
theorem PastE_inj {f : Nat → Int32} (h : PastE f) {i k : Nat} (hi : i < 8) (hk : k < 8) (hne : i ≠ k) : ix (f i) ≠ ix (f k) := by
  intro e
  obtain ⟨j, hj, e1, e2⟩ := blk h hi
  obtain ⟨j', hj', e3, e4⟩ := blk h hk
  rw [e2, e4] at e
  exact hne (h.2 i k hi hk (by rw [e1, e3, e]))
/-- a core is put behind n kept ones -/
theorem keep_put {hs : List mCore} {c : mCore} {σ : Sto} {P : Sto → Prop} (hl : hs.length < 8) (hw : WFCore c) (hc : CoreE c σ 0) (hp : PastE (σ 64)) (hn : σ 63 1 = nI hs.length) (hA : ∀ (k : Nat) (c : mCore), hs[k]? = some c → CoreE c σ (ix (σ 64 k)))
    (h : ∀ σ' : Sto, CoreE c σ' 0 → HistE (hs ++ [c]) σ' → (∀ k, k < 12 ∨ 60 ≤ k → k ≠ 63 → σ' k = σ k) → P σ') :
    vp_in (σ 63 1) 8 ∧ (∀ o21_ : Nat, o21_ = ix (σ 64 (ix (σ 63 1))) → isSt o21_ ∧ (D_X8_copyFrom o21_ 0 σ (fun s23 => (∀ s33 : Sto, s33 = up s23 63 1 ((s23 63 1) + 1) → (P s33))))) := by
  obtain ⟨j, hj, e, e'⟩ := blk hp hl
  rw [hn]
  simp (disch := omega) only [String.reduceEq, isRu_1, isRu_61, isGr_3, isSt_0, isSt_6, lg_selfT, isB_0, isB_1, eq_self, true_or, or_true, false_or, or_false, or_self, fa_lit, nI_add, pk_mul, pk_sub, nI_addm, nI_leI, nI_ltI, nI_eqI, vp_inI, ix_nI, forall_eq, true_implies, false_implies, not_true_eq_false, not_false_eq_true, and_true, true_and, false_and, and_false, nle_T, nle_F, nlt_T, nlt_F, neq_T, neq_F, up_rd_s, up_rd_n, up_nc, cpy_nc, cpy_in, cpy_out, cpyOk_T, m1_lt, m1_le, m1_nle, m1_nlt, m1_eq, m1_eq2, m1_0le, Nat.add_zero, Nat.zero_add, Nat.mul_one, Nat.sub_zero, if_true, if_false, Nat.add_sub_cancel, Nat.add_sub_cancel_left, e]
  refine ⟨⟨by omega, by omega⟩, X8_copy (c := c) ⟨by omega, by omega⟩ ⟨by decide, by decide⟩ (by omega) hw hc (fun σ' h1 h2 => ?_)⟩
  have h63 : σ' 63 = σ 63 := h2 63 (by omega)
  have h64 : σ' 64 = σ 64 := h2 64 (by omega)
  refine h _ (CoreE_congr (fun k _ hk => by simp (disch := omega) only [String.reduceEq, isRu_1, isRu_61, isGr_3, isSt_0, isSt_6, lg_selfT, isB_0, isB_1, eq_self, true_or, or_true, false_or, or_false, or_self, fa_lit, nI_add, pk_mul, pk_sub, nI_addm, nI_leI, nI_ltI, nI_eqI, vp_inI, ix_nI, forall_eq, true_implies, false_implies, not_true_eq_false, not_false_eq_true, and_true, true_and, false_and, and_false, nle_T, nle_F, nlt_T, nlt_F, neq_T, neq_F, up_rd_s, up_rd_n, up_nc, cpy_nc, cpy_in, cpy_out, cpyOk_T, m1_lt, m1_le, m1_nle, m1_nlt, m1_eq, m1_eq2, m1_0le, Nat.add_zero, Nat.zero_add, Nat.mul_one, Nat.sub_zero, if_true, if_false, Nat.add_sub_cancel, Nat.add_sub_cancel_left]; exact h2 k (by omega)) hc) ⟨?_, ?_, fun k c' hk => ?_⟩ (fun k hk hne => ?_)
  · simp (disch := omega) only [String.reduceEq, isRu_1, isRu_61, isGr_3, isSt_0, isSt_6, lg_selfT, isB_0, isB_1, eq_self, true_or, or_true, false_or, or_false, or_self, fa_lit, nI_add, pk_mul, pk_sub, nI_addm, nI_leI, nI_ltI, nI_eqI, vp_inI, ix_nI, forall_eq, true_implies, false_implies, not_true_eq_false, not_false_eq_true, and_true, true_and, false_and, and_false, nle_T, nle_F, nlt_T, nlt_F, neq_T, neq_F, up_rd_s, up_rd_n, up_nc, cpy_nc, cpy_in, cpy_out, cpyOk_T, m1_lt, m1_le, m1_nle, m1_nlt, m1_eq, m1_eq2, m1_0le, Nat.add_zero, Nat.zero_add, Nat.mul_one, Nat.sub_zero, if_true, if_false, Nat.add_sub_cancel, Nat.add_sub_cancel_left, h63, hn, List.length_append]
    rfl
  · simp (disch := omega) only [String.reduceEq, isRu_1, isRu_61, isGr_3, isSt_0, isSt_6, lg_selfT, isB_0, isB_1, eq_self, true_or, or_true, false_or, or_false, or_self, fa_lit, nI_add, pk_mul, pk_sub, nI_addm, nI_leI, nI_ltI, nI_eqI, vp_inI, ix_nI, forall_eq, true_implies, false_implies, not_true_eq_false, not_false_eq_true, and_true, true_and, false_and, and_false, nle_T, nle_F, nlt_T, nlt_F, neq_T, neq_F, up_rd_s, up_rd_n, up_nc, cpy_nc, cpy_in, cpy_out, cpyOk_T, m1_lt, m1_le, m1_nle, m1_nlt, m1_eq, m1_eq2, m1_0le, Nat.add_zero, Nat.zero_add, Nat.mul_one, Nat.sub_zero, if_true, if_false, Nat.add_sub_cancel, Nat.add_sub_cancel_left, h64]
    exact hp
  · simp (disch := omega) only [String.reduceEq, isRu_1, isRu_61, isGr_3, isSt_0, isSt_6, lg_selfT, isB_0, isB_1, eq_self, true_or, or_true, false_or, or_false, or_self, fa_lit, nI_add, pk_mul, pk_sub, nI_addm, nI_leI, nI_ltI, nI_eqI, vp_inI, ix_nI, forall_eq, true_implies, false_implies, not_true_eq_false, not_false_eq_true, and_true, true_and, false_and, and_false, nle_T, nle_F, nlt_T, nlt_F, neq_T, neq_F, up_rd_s, up_rd_n, up_nc, cpy_nc, cpy_in, cpy_out, cpyOk_T, m1_lt, m1_le, m1_nle, m1_nlt, m1_eq, m1_eq2, m1_0le, Nat.add_zero, Nat.zero_add, Nat.mul_one, Nat.sub_zero, if_true, if_false, Nat.add_sub_cancel, Nat.add_sub_cancel_left, h64]
    rcases Nat.lt_or_ge k hs.length with q | q
    · rw [List.getElem?_append_left q] at hk
      have hne := PastE_inj hp (i := k) (k := hs.length) (by omega) hl (by omega)
      obtain ⟨j2, hj2, e2, e2'⟩ := blk hp (k := k) (by omega)
      rw [e', e2'] at hne
      have := hA k c' hk
      rw [e2'] at this ⊢
      exact CoreE_congr (fun k h3 h4 => by simp (disch := omega) only [String.reduceEq, isRu_1, isRu_61, isGr_3, isSt_0, isSt_6, lg_selfT, isB_0, isB_1, eq_self, true_or, or_true, false_or, or_false, or_self, fa_lit, nI_add, pk_mul, pk_sub, nI_addm, nI_leI, nI_ltI, nI_eqI, vp_inI, ix_nI, forall_eq, true_implies, false_implies, not_true_eq_false, not_false_eq_true, and_true, true_and, false_and, and_false, nle_T, nle_F, nlt_T, nlt_F, neq_T, neq_F, up_rd_s, up_rd_n, up_nc, cpy_nc, cpy_in, cpy_out, cpyOk_T, m1_lt, m1_le, m1_nle, m1_nlt, m1_eq, m1_eq2, m1_0le, Nat.add_zero, Nat.zero_add, Nat.mul_one, Nat.sub_zero, if_true, if_false, Nat.add_sub_cancel, Nat.add_sub_cancel_left]; exact h2 k (by omega)) this
    · have hk2 : k = hs.length := by
        have := (List.getElem?_eq_some_iff.mp hk).1
        rw [List.length_append] at this
        simp at this
        omega
      subst hk2
      rw [List.getElem?_append_right (Nat.le_refl _), Nat.sub_self] at hk
      cases hk
      rw [e']
      exact CoreE_congr (fun k h3 h4 => by simp (disch := omega) only [String.reduceEq, isRu_1, isRu_61, isGr_3, isSt_0, isSt_6, lg_selfT, isB_0, isB_1, eq_self, true_or, or_true, false_or, or_false, or_self, fa_lit, nI_add, pk_mul, pk_sub, nI_addm, nI_leI, nI_ltI, nI_eqI, vp_inI, ix_nI, forall_eq, true_implies, false_implies, not_true_eq_false, not_false_eq_true, and_true, true_and, false_and, and_false, nle_T, nle_F, nlt_T, nlt_F, neq_T, neq_F, up_rd_s, up_rd_n, up_nc, cpy_nc, cpy_in, cpy_out, cpyOk_T, m1_lt, m1_le, m1_nle, m1_nlt, m1_eq, m1_eq2, m1_0le, Nat.add_zero, Nat.zero_add, Nat.mul_one, Nat.sub_zero, if_true, if_false, Nat.add_sub_cancel, Nat.add_sub_cancel_left]) h1
  · simp (disch := omega) only [String.reduceEq, isRu_1, isRu_61, isGr_3, isSt_0, isSt_6, lg_selfT, isB_0, isB_1, eq_self, true_or, or_true, false_or, or_false, or_self, fa_lit, nI_add, pk_mul, pk_sub, nI_addm, nI_leI, nI_ltI, nI_eqI, vp_inI, ix_nI, forall_eq, true_implies, false_implies, not_true_eq_false, not_false_eq_true, and_true, true_and, false_and, and_false, nle_T, nle_F, nlt_T, nlt_F, neq_T, neq_F, up_rd_s, up_rd_n, up_nc, cpy_nc, cpy_in, cpy_out, cpyOk_T, m1_lt, m1_le, m1_nle, m1_nlt, m1_eq, m1_eq2, m1_0le, Nat.add_zero, Nat.zero_add, Nat.mul_one, Nat.sub_zero, if_true, if_false, Nat.add_sub_cancel, Nat.add_sub_cancel_left]
    exact h2 k (by omega)
theorem X3_keep {a : mA} {σ : Sto} {P : Sto → Prop} (hw : WFA a) (H : RE a σ) (h : ∀ σ' : Sto, RE (aKeep a) σ' → (∀ k, k < 12 ∨ 60 ≤ k → k ≠ 63 → k ≠ 64 → σ' k = σ k) → P σ') : D_X3_keep 0 σ P := by
  refine ⟨⟨by decide, by decide⟩, ?_⟩
  have hlen := hw.2.2.1.1
  have H0 := H
  obtain ⟨h1, ⟨h2, h2b⟩, ⟨h3, h3b, h3c⟩, h4, h5, h6, ⟨h7, h7b⟩, ⟨h8, h8b⟩, h9⟩ := H
  have fin : ∀ σ' : Sto, CoreE (aCore a) σ' 0 → HistE (keepH (aHist a) (aCore a)) σ' → (∀ k, k < 12 ∨ 60 ≤ k → k ≠ 63 → k ≠ 64 → σ' k = σ k) → RE (aKeep a) σ' := by
    intro σ' g1 g2 g3
    refine ⟨g1, ⟨?_, fun c hc => CoreE_congr (fun k hk2 hk => g3 k (by omega) (by omega) (by omega)) (h2b c hc)⟩, g2, ?_, ?_, ?_, ⟨?_, ?_⟩, ⟨?_, ?_⟩, ?_⟩
    · rw [g3 60 (by omega) (by omega) (by omega)]; exact h2
    · rw [g3 60 (by omega) (by omega) (by omega)]; exact h4
    · rw [g3 60 (by omega) (by omega) (by omega)]; exact h5
    · rw [g3 85 (by omega) (by omega) (by omega)]; exact h6
    · rw [g3 79 (by omega) (by omega) (by omega)]; exact h7
    · rw [g3 80 (by omega) (by omega) (by omega)]; exact h7b
    · rw [g3 81 (by omega) (by omega) (by omega)]; exact h8
    · rw [g3 82 (by omega) (by omega) (by omega)]; exact h8b
    · rw [g3 81 (by omega) (by omega) (by omega)]; exact h9
  unfold keepH at fin
  by_cases hlt : (aHist a).length < 8
  · rw [if_pos hlt] at fin
    refine bq_t (by rw [h3]; simp (disch := omega) only [String.reduceEq, isRu_1, isRu_61, isGr_3, isSt_0, isSt_6, lg_selfT, isB_0, isB_1, eq_self, true_or, or_true, false_or, or_false, or_self, fa_lit, nI_add, pk_mul, pk_sub, nI_addm, nI_leI, nI_ltI, nI_eqI, vp_inI, ix_nI, forall_eq, true_implies, false_implies, not_true_eq_false, not_false_eq_true, and_true, true_and, false_and, and_false, nle_T, nle_F, nlt_T, nlt_F, neq_T, neq_F, up_rd_s, up_rd_n, up_nc, cpy_nc, cpy_in, cpy_out, cpyOk_T, m1_lt, m1_le, m1_nle, m1_nlt, m1_eq, m1_eq2, m1_0le, Nat.add_zero, Nat.zero_add, Nat.mul_one, Nat.sub_zero, if_true, if_false, Nat.add_sub_cancel, Nat.add_sub_cancel_left]) ?_
    exact keep_put hlt hw.1 h1 h3b h3 h3c (fun σ' g1 g2 g3 => h σ' (fin σ' g1 g2 (fun k q1 q2 _ => g3 k q1 q2)) (fun k q1 q2 _ => g3 k q1 q2))
  · rw [if_neg hlt] at fin
    have hl8 : (aHist a).length = 8 := by omega
    refine bq_f (by rw [h3]; simp (disch := omega) only [String.reduceEq, isRu_1, isRu_61, isGr_3, isSt_0, isSt_6, lg_selfT, isB_0, isB_1, eq_self, true_or, or_true, false_or, or_false, or_self, fa_lit, nI_add, pk_mul, pk_sub, nI_addm, nI_leI, nI_ltI, nI_eqI, vp_inI, ix_nI, forall_eq, true_implies, false_implies, not_true_eq_false, not_false_eq_true, and_true, true_and, false_and, and_false, nle_T, nle_F, nlt_T, nlt_F, neq_T, neq_F, up_rd_s, up_rd_n, up_nc, cpy_nc, cpy_in, cpy_out, cpyOk_T, m1_lt, m1_le, m1_nle, m1_nlt, m1_eq, m1_eq2, m1_0le, Nat.add_zero, Nat.zero_add, Nat.mul_one, Nat.sub_zero, if_true, if_false, Nat.add_sub_cancel, Nat.add_sub_cancel_left]) ?_
    refine X3_forget rfl h3b (fun s q1 q2 q3 => ?_)
    have hp' : PastE (s 64) := by
      refine ⟨fun k hk => ?_, fun i k hi hk e => ?_⟩
      · rw [q3 k hk]
        by_cases e : k < 7
        · rw [if_pos e]; exact h3b.1 (k + 1) (by omega)
        · rw [if_neg e]; exact h3b.1 0 (by omega)
      · rw [q3 i hi, q3 k hk] at e
        by_cases e1 : i < 7
        · rw [if_pos e1] at e
          by_cases e2 : k < 7
          · rw [if_pos e2] at e
            have := h3b.2 _ _ (by omega) (by omega) e
            omega
          · rw [if_neg e2] at e
            have := h3b.2 _ _ (by omega) (by omega) e
            omega
        · rw [if_neg e1] at e
          by_cases e2 : k < 7
          · rw [if_pos e2] at e
            have := h3b.2 _ _ (by omega) (by omega) e
            omega
          · omega
    have htl : (aHist a).tail.length = 7 := by rw [List.length_tail, hl8]
    refine keep_put (hs := (aHist a).tail) (c := aCore a) (by omega) hw.1 (CoreE_congr (fun k _ hk => q1 k (by omega) (by omega)) h1) hp' (by rw [q2, htl]) (fun k c hk => ?_) (fun σ' g1 g2 g3 => h σ' (fin σ' g1 g2 (fun k q4 q5 q6 => ?_)) (fun k q4 q5 q6 => ?_))
    · have hlt2 := (List.getElem?_eq_some_iff.mp hk).1
      rw [htl] at hlt2
      rw [List.getElem?_tail] at hk
      rw [q3 k (by omega), if_pos hlt2]
      obtain ⟨j, hj, e, e'⟩ := blk h3b (k := k + 1) (by omega)
      have := h3c _ _ hk
      rw [e'] at this ⊢
      exact CoreE_congr (fun k _ hk => q1 k (by omega) (by omega)) this
    · rw [g3 k q4 q5, q1 k q6 q5]
    · rw [g3 k q4 q5, q1 k q6 q5]
/-- undo's copy back -/
theorem X3_takeBack {a : mA} {σ : Sto} {P : Sto → Prop} {hs : List mCore} {c : mCore} (hw : WFA a) (H : RE a σ) (e : aHist a = hs ++ [c]) (h : ∀ σ' : Sto, RE (c, a.2.1, hs, a.2.2.2) σ' → (∀ k, 6 ≤ k → k ≠ 63 → σ' k = σ k) → P σ') : D_X3_takeBack 0 σ P := by
  have hlen := hw.2.2.1.1
  obtain ⟨h1, ⟨h2, h2b⟩, ⟨h3, h3b, h3c⟩, h4, h5, h6, ⟨h7, h7b⟩, ⟨h8, h8b⟩, h9⟩ := H
  rw [e, List.length_append] at hlen
  rw [e, List.length_append] at h3
  have hl1 : ([c] : List mCore).length = 1 := rfl
  rw [hl1] at h3 hlen
  have hcw : WFCore c := hw.2.2.1.2 c (by rw [e]; simp)
  unfold D_X3_takeBack
  obtain ⟨j, hj, ej, ej'⟩ := blk h3b (k := hs.length) (by omega)
  have hcc : CoreE c σ (12 + 6 * j) := by
    have := h3c hs.length c (by rw [e, List.getElem?_append_right (Nat.le_refl _), Nat.sub_self]; rfl)
    rw [ej'] at this
    exact this
  simp (disch := omega) only [String.reduceEq, isRu_1, isRu_61, isGr_3, isSt_0, isSt_6, lg_selfT, isB_0, isB_1, eq_self, true_or, or_true, false_or, or_false, or_self, fa_lit, nI_add, pk_mul, pk_sub, nI_addm, nI_leI, nI_ltI, nI_eqI, vp_inI, ix_nI, forall_eq, true_implies, false_implies, not_true_eq_false, not_false_eq_true, and_true, true_and, false_and, and_false, nle_T, nle_F, nlt_T, nlt_F, neq_T, neq_F, up_rd_s, up_rd_n, up_nc, cpy_nc, cpy_in, cpy_out, cpyOk_T, m1_lt, m1_le, m1_nle, m1_nlt, m1_eq, m1_eq2, m1_0le, Nat.add_zero, Nat.zero_add, Nat.mul_one, Nat.sub_zero, if_true, if_false, Nat.add_sub_cancel, Nat.add_sub_cancel_left, h3, ej]
  refine ⟨⟨by omega, by omega⟩, X8_copy (c := c) ⟨by decide, by decide⟩ ⟨by omega, by omega⟩ (by omega) hcw (CoreE_congr (fun k _ hk => by simp (disch := omega) only [String.reduceEq, isRu_1, isRu_61, isGr_3, isSt_0, isSt_6, lg_selfT, isB_0, isB_1, eq_self, true_or, or_true, false_or, or_false, or_self, fa_lit, nI_add, pk_mul, pk_sub, nI_addm, nI_leI, nI_ltI, nI_eqI, vp_inI, ix_nI, forall_eq, true_implies, false_implies, not_true_eq_false, not_false_eq_true, and_true, true_and, false_and, and_false, nle_T, nle_F, nlt_T, nlt_F, neq_T, neq_F, up_rd_s, up_rd_n, up_nc, cpy_nc, cpy_in, cpy_out, cpyOk_T, m1_lt, m1_le, m1_nle, m1_nlt, m1_eq, m1_eq2, m1_0le, Nat.add_zero, Nat.zero_add, Nat.mul_one, Nat.sub_zero, if_true, if_false, Nat.add_sub_cancel, Nat.add_sub_cancel_left]) hcc) (fun σ' g1 g2 => ?_)⟩
  have g3 : ∀ k, 6 ≤ k → k ≠ 63 → σ' k = σ k := by
    intro k k1 k2
    rw [g2 k (by omega)]
    simp (disch := omega) only [String.reduceEq, isRu_1, isRu_61, isGr_3, isSt_0, isSt_6, lg_selfT, isB_0, isB_1, eq_self, true_or, or_true, false_or, or_false, or_self, fa_lit, nI_add, pk_mul, pk_sub, nI_addm, nI_leI, nI_ltI, nI_eqI, vp_inI, ix_nI, forall_eq, true_implies, false_implies, not_true_eq_false, not_false_eq_true, and_true, true_and, false_and, and_false, nle_T, nle_F, nlt_T, nlt_F, neq_T, neq_F, up_rd_s, up_rd_n, up_nc, cpy_nc, cpy_in, cpy_out, cpyOk_T, m1_lt, m1_le, m1_nle, m1_nlt, m1_eq, m1_eq2, m1_0le, Nat.add_zero, Nat.zero_add, Nat.mul_one, Nat.sub_zero, if_true, if_false, Nat.add_sub_cancel, Nat.add_sub_cancel_left]
  refine h σ' ⟨g1, ⟨?_, fun c hc => CoreE_congr (fun k hk2 hk => g3 k (by omega) (by omega)) (h2b c hc)⟩, ⟨?_, ?_, fun k c' hk => ?_⟩, ?_, ?_, ?_, ⟨?_, ?_⟩, ⟨?_, ?_⟩, ?_⟩ g3
  · rw [g3 60 (by omega) (by omega)]; exact h2
  · rw [g2 63 (by omega)]
    simp (disch := omega) only [String.reduceEq, isRu_1, isRu_61, isGr_3, isSt_0, isSt_6, lg_selfT, isB_0, isB_1, eq_self, true_or, or_true, false_or, or_false, or_self, fa_lit, nI_add, pk_mul, pk_sub, nI_addm, nI_leI, nI_ltI, nI_eqI, vp_inI, ix_nI, forall_eq, true_implies, false_implies, not_true_eq_false, not_false_eq_true, and_true, true_and, false_and, and_false, nle_T, nle_F, nlt_T, nlt_F, neq_T, neq_F, up_rd_s, up_rd_n, up_nc, cpy_nc, cpy_in, cpy_out, cpyOk_T, m1_lt, m1_le, m1_nle, m1_nlt, m1_eq, m1_eq2, m1_0le, Nat.add_zero, Nat.zero_add, Nat.mul_one, Nat.sub_zero, if_true, if_false, Nat.add_sub_cancel, Nat.add_sub_cancel_left]
  · rw [g3 64 (by omega) (by omega)]; exact h3b
  · rw [g3 64 (by omega) (by omega)]
    have hk : hs[k]? = some c' := hk
    have hlt := (List.getElem?_eq_some_iff.mp hk).1
    obtain ⟨j2, hj2, e2, e2'⟩ := blk h3b (k := k) (by omega)
    have := h3c k c' (by rw [e, List.getElem?_append_left hlt]; exact hk)
    rw [e2'] at this ⊢
    exact CoreE_congr (fun k h3 h4 => g3 k (by omega) (by omega)) this
  · rw [g3 60 (by omega) (by omega)]; exact h4
  · rw [g3 60 (by omega) (by omega)]; exact h5
  · rw [g3 85 (by omega) (by omega)]; exact h6
  · rw [g3 79 (by omega) (by omega)]; exact h7
  · rw [g3 80 (by omega) (by omega)]; exact h7b
  · rw [g3 81 (by omega) (by omega)]; exact h8
  · rw [g3 82 (by omega) (by omega)]; exact h8b
  · rw [g3 81 (by omega) (by omega)]; exact h9
