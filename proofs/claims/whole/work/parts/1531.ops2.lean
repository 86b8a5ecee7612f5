/-! MATH. Operations: the rules' own. -/
theorem o_6 {xs : Nat → Int32} {i : Nat} {σ : Sto} {x : XP} {P : Sto → XP → Prop} (hI : Inv σ) (h : ∀ σ' x', Inv σ' → P σ' x') : DL_6 xs i σ x P := by
  obtain ⟨a, hw, hE, hM⟩ := hI
  unfold DL_6 D_X11_ruleCount D_X12_ruleCount
  have e1 := hE.1.1
  have e2 := hM.1.1
  simp (disch := omega) only [String.reduceEq, isRu_1, isRu_61, isGr_3, isSt_0, isSt_6, lg_selfT, isB_0, isB_1, eq_self, true_or, or_true, false_or, or_false, or_self, fa_lit, nI_add, pk_mul, pk_sub, nI_addm, nI_leI, nI_ltI, nI_eqI, vp_inI, ix_nI, forall_eq, true_implies, false_implies, not_true_eq_false, not_false_eq_true, and_true, true_and, false_and, and_false, nle_T, nle_F, nlt_T, nlt_F, neq_T, neq_F, up_rd_s, up_rd_n, up_nc, cpy_nc, cpy_in, cpy_out, cpyOk_T, m1_lt, m1_le, m1_nle, m1_nlt, m1_eq, m1_eq2, m1_0le, Nat.add_zero, Nat.zero_add, Nat.mul_one, Nat.sub_zero, if_true, if_false, Nat.add_sub_cancel, Nat.add_sub_cancel_left, in_in, in_inN, iw_in, rq_in, e1, e2]
  exact h _ _ (inv_th hw hE hM _)
theorem o_7 {xs : Nat → Int32} {i : Nat} {σ : Sto} {x : XP} {P : Sto → XP → Prop} (hI : Inv σ) (h : ∀ σ' x', Inv σ' → P σ' x') : DL_7 xs i σ x P := by
  obtain ⟨a, hw, hE, hM⟩ := hI
  unfold DL_7 D_L_rule D_X11_rule D_X12_rule D_X12_isRule D_X11_requireRule D_X11_requireArgument D_X12_thrown D_X12_of D_X6_cell
  generalize xs (i + 1) = a1
  generalize xs (i + 2) = a2
  have e1 : σ 1 1 = nI (aCore a).1.length := hE.1.1
  have e2 : σ 88 0 = nI (aCore a).1.length := hM.1.1
  have hn := hw.1.1
  rcases rg a1 (n := (aCore a).1.length) (by omega) with h1 | ⟨p, hp, rfl⟩
  · simp (disch := omega) only [String.reduceEq, isRu_1, isRu_61, isGr_3, isSt_0, isSt_6, lg_selfT, isB_0, isB_1, eq_self, true_or, or_true, false_or, or_false, or_self, fa_lit, nI_add, pk_mul, pk_sub, nI_addm, nI_leI, nI_ltI, nI_eqI, vp_inI, ix_nI, forall_eq, true_implies, false_implies, not_true_eq_false, not_false_eq_true, and_true, true_and, false_and, and_false, nle_T, nle_F, nlt_T, nlt_F, neq_T, neq_F, up_rd_s, up_rd_n, up_nc, cpy_nc, cpy_in, cpy_out, cpyOk_T, m1_lt, m1_le, m1_nle, m1_nlt, m1_eq, m1_eq2, m1_0le, Nat.add_zero, Nat.zero_add, Nat.mul_one, Nat.sub_zero, if_true, if_false, Nat.add_sub_cancel, Nat.add_sub_cancel_left, in_in, in_inN, iw_in, rq_in, e1, e2, rq_out h1, in_outN (by omega) h1]
    exact h _ _ (inv_th hw hE hM _)
  · rcases rg a2 (n := 4) (by decide) with h1 | ⟨q, hq, rfl⟩
    · simp (disch := omega) only [String.reduceEq, isRu_1, isRu_61, isGr_3, isSt_0, isSt_6, lg_selfT, isB_0, isB_1, eq_self, true_or, or_true, false_or, or_false, or_self, fa_lit, nI_add, pk_mul, pk_sub, nI_addm, nI_leI, nI_ltI, nI_eqI, vp_inI, ix_nI, forall_eq, true_implies, false_implies, not_true_eq_false, not_false_eq_true, and_true, true_and, false_and, and_false, nle_T, nle_F, nlt_T, nlt_F, neq_T, neq_F, up_rd_s, up_rd_n, up_nc, cpy_nc, cpy_in, cpy_out, cpyOk_T, m1_lt, m1_le, m1_nle, m1_nlt, m1_eq, m1_eq2, m1_0le, Nat.add_zero, Nat.zero_add, Nat.mul_one, Nat.sub_zero, if_true, if_false, Nat.add_sub_cancel, Nat.add_sub_cancel_left, in_in, in_inN, iw_in, rq_in, e1, e2, iw_out (n := 4) rfl (by decide) h1, in_out (n := 4) rfl (by decide) h1]
      exact h _ _ (inv_th hw hE hM _)
    · obtain ⟨r, hr, hm⟩ := getR hp
      obtain ⟨g0, g1, g2, g3, -⟩ := hE.1.2.1 p r hr
      obtain ⟨m0, m1, m2, m3, -⟩ := hM.1.2.1 p r hr
      have : q = 0 ∨ q = 1 ∨ q = 2 ∨ q = 3 := by omega
      have hru : isRu 1 := ⟨by decide, by decide⟩
      have key : ∃ w : Nat, σ 2 (p * 16 + q) = nI w ∧ σ 88 (10 + 16 * p + q) = nI w := by
        rw [Nat.mul_comm p 16]
        rcases this with rfl | rfl | rfl | rfl
        · exact ⟨_, g0, (fcg (f := σ 88) (by omega)).trans m0⟩
        · exact ⟨_, g1, (fcg (f := σ 88) (by omega)).trans m1⟩
        · exact ⟨_, g2, (fcg (f := σ 88) (by omega)).trans m2⟩
        · exact ⟨_, g3, (fcg (f := σ 88) (by omega)).trans m3⟩
      obtain ⟨w, k1, k2⟩ := key
      simp (disch := omega) only [String.reduceEq, isRu_1, isRu_61, isGr_3, isSt_0, isSt_6, lg_selfT, isB_0, isB_1, eq_self, true_or, or_true, false_or, or_false, or_self, fa_lit, nI_add, pk_mul, pk_sub, nI_addm, nI_leI, nI_ltI, nI_eqI, vp_inI, ix_nI, forall_eq, true_implies, false_implies, not_true_eq_false, not_false_eq_true, and_true, true_and, false_and, and_false, nle_T, nle_F, nlt_T, nlt_F, neq_T, neq_F, up_rd_s, up_rd_n, up_nc, cpy_nc, cpy_in, cpy_out, cpyOk_T, m1_lt, m1_le, m1_nle, m1_nlt, m1_eq, m1_eq2, m1_0le, Nat.add_zero, Nat.zero_add, Nat.mul_one, Nat.sub_zero, if_true, if_false, Nat.add_sub_cancel, Nat.add_sub_cancel_left, in_in, in_inN, iw_in, rq_in, e1, e2, k1, k2]
      exact h _ _ (inv_th hw hE hM _)
theorem o_8 {xs : Nat → Int32} {i : Nat} {σ : Sto} {x : XP} {P : Sto → XP → Prop} (hI : Inv σ) (h : ∀ σ' x', Inv σ' → P σ' x') : DL_8 xs i σ x P := by
  obtain ⟨a, hw, hE, hM⟩ := hI
  unfold DL_8 D_L_condition D_X11_condition D_X12_condition D_X12_isRule D_X11_requireRule D_X11_requireArgument D_X12_thrown D_X12_of D_X6_cell D_X12_part D_X6_conditionCell D_X6_conditionStart
  generalize xs (i + 1) = a1
  generalize xs (i + 2) = a2
  generalize xs (i + 3) = a3
  have e1 : σ 1 1 = nI (aCore a).1.length := hE.1.1
  have e2 : σ 88 0 = nI (aCore a).1.length := hM.1.1
  have hn := hw.1.1
  have hru : isRu 1 := ⟨by decide, by decide⟩
  rcases rg a1 (n := (aCore a).1.length) (by omega) with h1 | ⟨p, hp, rfl⟩
  · simp (disch := omega) only [String.reduceEq, isRu_1, isRu_61, isGr_3, isSt_0, isSt_6, lg_selfT, isB_0, isB_1, eq_self, true_or, or_true, false_or, or_false, or_self, fa_lit, nI_add, pk_mul, pk_sub, nI_addm, nI_leI, nI_ltI, nI_eqI, vp_inI, ix_nI, forall_eq, true_implies, false_implies, not_true_eq_false, not_false_eq_true, and_true, true_and, false_and, and_false, nle_T, nle_F, nlt_T, nlt_F, neq_T, neq_F, up_rd_s, up_rd_n, up_nc, cpy_nc, cpy_in, cpy_out, cpyOk_T, m1_lt, m1_le, m1_nle, m1_nlt, m1_eq, m1_eq2, m1_0le, Nat.add_zero, Nat.zero_add, Nat.mul_one, Nat.sub_zero, if_true, if_false, Nat.add_sub_cancel, Nat.add_sub_cancel_left, in_in, in_inN, iw_in, rq_in, e1, e2, rq_out h1, in_outN (by omega) h1]
    exact h _ _ (inv_th hw hE hM _)
  obtain ⟨r, hr, hm⟩ := getR hp
  have hwr := hw.1.2.1 r hm
  have hc4 := hwr.2.2.2.1
  obtain ⟨g0, g1, g2, g3, g4⟩ := hE.1.2.1 p r hr
  obtain ⟨m0, m1, m2, m3, m4⟩ := hM.1.2.1 p r hr
  replace g3 : σ 2 (p * 16 + 3) = nI r.2.2.2.length := (fcg (f := σ 2) (by omega)).trans g3
  replace m3 : σ 88 (10 + 16 * p + 3) = nI r.2.2.2.length := (fcg (f := σ 88) (by omega)).trans m3
  rcases rg a2 (n := r.2.2.2.length) (by omega) with h1 | ⟨c, hc, rfl⟩
  · simp (disch := omega) only [String.reduceEq, isRu_1, isRu_61, isGr_3, isSt_0, isSt_6, lg_selfT, isB_0, isB_1, eq_self, true_or, or_true, false_or, or_false, or_self, fa_lit, nI_add, pk_mul, pk_sub, nI_addm, nI_leI, nI_ltI, nI_eqI, vp_inI, ix_nI, forall_eq, true_implies, false_implies, not_true_eq_false, not_false_eq_true, and_true, true_and, false_and, and_false, nle_T, nle_F, nlt_T, nlt_F, neq_T, neq_F, up_rd_s, up_rd_n, up_nc, cpy_nc, cpy_in, cpy_out, cpyOk_T, m1_lt, m1_le, m1_nle, m1_nlt, m1_eq, m1_eq2, m1_0le, Nat.add_zero, Nat.zero_add, Nat.mul_one, Nat.sub_zero, if_true, if_false, Nat.add_sub_cancel, Nat.add_sub_cancel_left, in_in, in_inN, iw_in, rq_in, e1, e2, g3, m3, rq_out h1, in_outN (by omega) h1]
    exact h _ _ (inv_th hw hE hM _)
  rcases rg a3 (n := 3) (by decide) with h1 | ⟨q, hq, rfl⟩
  · simp (disch := omega) only [String.reduceEq, isRu_1, isRu_61, isGr_3, isSt_0, isSt_6, lg_selfT, isB_0, isB_1, eq_self, true_or, or_true, false_or, or_false, or_self, fa_lit, nI_add, pk_mul, pk_sub, nI_addm, nI_leI, nI_ltI, nI_eqI, vp_inI, ix_nI, forall_eq, true_implies, false_implies, not_true_eq_false, not_false_eq_true, and_true, true_and, false_and, and_false, nle_T, nle_F, nlt_T, nlt_F, neq_T, neq_F, up_rd_s, up_rd_n, up_nc, cpy_nc, cpy_in, cpy_out, cpyOk_T, m1_lt, m1_le, m1_nle, m1_nlt, m1_eq, m1_eq2, m1_0le, Nat.add_zero, Nat.zero_add, Nat.mul_one, Nat.sub_zero, if_true, if_false, Nat.add_sub_cancel, Nat.add_sub_cancel_left, in_in, in_inN, iw_in, rq_in, e1, e2, g3, m3, iw_out (n := 3) rfl (by decide) h1, in_out (n := 3) rfl (by decide) h1]
    exact h _ _ (inv_th hw hE hM _)
  have : q = 0 ∨ q = 1 ∨ q = 2 := by omega
  obtain ⟨b0, b1, b2⟩ := g4 c _ (List.getElem?_eq_getElem hc)
  obtain ⟨n0, n1, n2⟩ := m4 c _ (List.getElem?_eq_getElem hc)
  have key : ∃ w : Nat, σ 2 (p * 16 + 4 + c * 3 + q) = nI w ∧ σ 88 (10 + 16 * p + 4 + 3 * c + q) = nI w := by
    rcases this with rfl | rfl | rfl
    · exact ⟨_, (fcg (f := σ 2) (by omega)).trans b0, (fcg (f := σ 88) (by omega)).trans n0⟩
    · exact ⟨_, (fcg (f := σ 2) (by omega)).trans b1, (fcg (f := σ 88) (by omega)).trans n1⟩
    · exact ⟨_, (fcg (f := σ 2) (by omega)).trans b2, (fcg (f := σ 88) (by omega)).trans n2⟩
  obtain ⟨w, k1, k2⟩ := key
  simp (disch := omega) only [String.reduceEq, isRu_1, isRu_61, isGr_3, isSt_0, isSt_6, lg_selfT, isB_0, isB_1, eq_self, true_or, or_true, false_or, or_false, or_self, fa_lit, nI_add, pk_mul, pk_sub, nI_addm, nI_leI, nI_ltI, nI_eqI, vp_inI, ix_nI, forall_eq, true_implies, false_implies, not_true_eq_false, not_false_eq_true, and_true, true_and, false_and, and_false, nle_T, nle_F, nlt_T, nlt_F, neq_T, neq_F, up_rd_s, up_rd_n, up_nc, cpy_nc, cpy_in, cpy_out, cpyOk_T, m1_lt, m1_le, m1_nle, m1_nlt, m1_eq, m1_eq2, m1_0le, Nat.add_zero, Nat.zero_add, Nat.mul_one, Nat.sub_zero, if_true, if_false, Nat.add_sub_cancel, Nat.add_sub_cancel_left, in_in, in_inN, iw_in, rq_in, e1, e2, g3, m3, k1, k2]
  exact h _ _ (inv_th hw hE hM _)
