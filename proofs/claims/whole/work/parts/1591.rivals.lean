/-! MATH. The engine's rivals; whether a rule can decide; the witness. -/
/-- whether a rule does not decide where another one of its policy applies, too -/
def btn (l : List mRule) (wy : Nat → Nat) (r q : Nat) : Bool := if q = r ∨ ¬ (rOf l q).1 = (rOf l r).1 then false else if wy (rOf l r).1 = 3 then true else if wy (rOf l r).1 = 2 then bef l q r else if (rOf l q).2.1 = (rOf l r).2.1 then bef l q r else decide ((rOf l q).2.1 = 1 - wy (rOf l r).1)
theorem pw_below {k : Nat} (hk : k < 32) {i : Nat} (hi : i < 32) : bt (pw k - nI 1) i = decide (i < k) := by
  rw [b_m1x _ hi, b_pw hk]
  rcases Nat.lt_trichotomy i k with h | h | h
  · have : ¬ ∃ j, j < i ∧ bt (pw k) j = true := fun ⟨j, hj, hb⟩ => by
      rw [b_pw hk] at hb
      have := of_decide_eq_true hb
      omega
    rw [decide_eq_false (show ¬ i = k by omega), decide_eq_false this, decide_eq_true h]
    rfl
  · subst h
    have : ¬ ∃ j, j < i ∧ bt (pw i) j = true := fun ⟨j, hj, hb⟩ => by
      rw [b_pw hk] at hb
      have := of_decide_eq_true hb
      omega
    rw [decide_eq_true rfl, decide_eq_false this, decide_eq_false (Nat.lt_irrefl _)]
    rfl
  · have : ∃ j, j < i ∧ bt (pw k) j = true := ⟨k, h, by rw [b_pw hk]; exact decide_eq_true rfl⟩
    rw [decide_eq_false (show ¬ i = k by omega), decide_eq_true this, decide_eq_false (show ¬ i < k by omega)]
    rfl
theorem X5_rivals {l : List mRule} {wy : Nat → Nat} {r : Nat} {σ : Sto} {P : Int32 → Sto → Prop} (hR : RLE l σ) (hW : RW l) (hT : TBL l σ) (hr : r < l.length) (hw : ∀ p, p < 4 → σ 5 p = nI (wy p) ∧ wy p < 4) (h : ∀ R, RS l R (btn l wy r) → P R σ) : D_X5_rivals (nI (rk l r)) σ P := by
  intro K36 K74 h36 h74
  have hl := hW.1
  have hrk := rk_n hr
  have wr := hW.2 _ (rMem hr)
  have p4 := wr.1
  have e2 := wr.2.1
  obtain ⟨-, t67, -, -, tden⟩ := (hT.2.1 r hr).2
  obtain ⟨b0, b1, b2, b3⟩ := rlE hR hr
  obtain ⟨w1, w2⟩ := hw _ p4
  have own := TBL_p hT p4
  have den := TBL_d hT
  have bel : RS l (σ 69 (rOf l r).1 &&& (pw (rk l r) - nI 1)) (fun q => decide ((rOf l q).1 = (rOf l r).1) && bef l q r) := by
    refine ⟨fun q hq => ?_, fun i hi => by rw [b_and, own.2 i hi, Bool.false_and]⟩
    have hqk := rk_n hq
    have ho : bt (σ 69 (rOf l r).1) (rk l q) = decide ((rOf l q).1 = (rOf l r).1) := own.1 q hq
    show _ = (decide ((rOf l q).1 = (rOf l r).1) && bef l q r)
    rw [b_and, ho, pw_below (by omega) (by omega), bef_rk hq hr]
  have ev : ∀ q, q < l.length → (rOf l q).2.1 = 0 ∨ (rOf l q).2.1 = 1 := fun q hq => by
    have := (hW.2 _ (rMem hq)).2.1
    omega
  have wyc : wy (rOf l r).1 = 0 ∨ wy (rOf l r).1 = 1 ∨ wy (rOf l r).1 = 2 ∨ wy (rOf l r).1 = 3 := by omega
  have birr := bef_irr l r
  (try simp (disch := omega) only [String.reduceEq, isRu_1, isRu_61, isGr_3, isSt_0, isSt_6, lg_selfT, isB_0, isB_1, eq_self, true_or, or_true, false_or, or_false, or_self, fa_lit, nI_add, pk_mul, pk_sub, nI_addm, nI_leI, nI_ltI, nI_eqI, vp_inI, ix_nI, forall_eq, true_implies, false_implies, not_true_eq_false, not_false_eq_true, and_true, true_and, false_and, and_false, nle_T, nle_F, nlt_T, nlt_F, neq_T, neq_F, up_rd_s, up_rd_n, up_nc, cpy_nc, cpy_in, cpy_out, cpyOk_T, m1_lt, m1_le, m1_nle, m1_nlt, m1_eq, m1_eq2, m1_0le, Nat.add_zero, Nat.zero_add, Nat.mul_one, Nat.sub_zero, if_true, if_false, Nat.add_sub_cancel, Nat.add_sub_cancel_left, in_in, in_inN, iw_in, rq_in, pw_fold, nt_fold, ask_pw, has_eq, or_0, bt1, Bool.true_eq_false, Bool.false_eq_true, t67, D_X6_cell, b0])
  by_cases er : (rOf l r).2.1 = 1
  · rw [decide_eq_true er] at tden
    have dd := RS_nt hl own den
    (try simp (disch := omega) only [String.reduceEq, isRu_1, isRu_61, isGr_3, isSt_0, isSt_6, lg_selfT, isB_0, isB_1, eq_self, true_or, or_true, false_or, or_false, or_self, fa_lit, nI_add, pk_mul, pk_sub, nI_addm, nI_leI, nI_ltI, nI_eqI, vp_inI, ix_nI, forall_eq, true_implies, false_implies, not_true_eq_false, not_false_eq_true, and_true, true_and, false_and, and_false, nle_T, nle_F, nlt_T, nlt_F, neq_T, neq_F, up_rd_s, up_rd_n, up_nc, cpy_nc, cpy_in, cpy_out, cpyOk_T, m1_lt, m1_le, m1_nle, m1_nlt, m1_eq, m1_eq2, m1_0le, Nat.add_zero, Nat.zero_add, Nat.mul_one, Nat.sub_zero, if_true, if_false, Nat.add_sub_cancel, Nat.add_sub_cancel_left, in_in, in_inN, iw_in, rq_in, pw_fold, nt_fold, ask_pw, has_eq, or_0, bt1, Bool.true_eq_false, Bool.false_eq_true, tden, bF tden])
    apply h36
    (try simp (disch := omega) only [String.reduceEq, isRu_1, isRu_61, isGr_3, isSt_0, isSt_6, lg_selfT, isB_0, isB_1, eq_self, true_or, or_true, false_or, or_false, or_self, fa_lit, nI_add, pk_mul, pk_sub, nI_addm, nI_leI, nI_ltI, nI_eqI, vp_inI, ix_nI, forall_eq, true_implies, false_implies, not_true_eq_false, not_false_eq_true, and_true, true_and, false_and, and_false, nle_T, nle_F, nlt_T, nlt_F, neq_T, neq_F, up_rd_s, up_rd_n, up_nc, cpy_nc, cpy_in, cpy_out, cpyOk_T, m1_lt, m1_le, m1_nle, m1_nlt, m1_eq, m1_eq2, m1_0le, Nat.add_zero, Nat.zero_add, Nat.mul_one, Nat.sub_zero, if_true, if_false, Nat.add_sub_cancel, Nat.add_sub_cancel_left, in_in, in_inN, iw_in, rq_in, pw_fold, nt_fold, ask_pw, has_eq, or_0, bt1, Bool.true_eq_false, Bool.false_eq_true])
    apply h74
    rcases wyc with z | z | z | z
    · rw [z] at w1
      (try simp (disch := omega) only [String.reduceEq, isRu_1, isRu_61, isGr_3, isSt_0, isSt_6, lg_selfT, isB_0, isB_1, eq_self, true_or, or_true, false_or, or_false, or_self, fa_lit, nI_add, pk_mul, pk_sub, nI_addm, nI_leI, nI_ltI, nI_eqI, vp_inI, ix_nI, forall_eq, true_implies, false_implies, not_true_eq_false, not_false_eq_true, and_true, true_and, false_and, and_false, nle_T, nle_F, nlt_T, nlt_F, neq_T, neq_F, up_rd_s, up_rd_n, up_nc, cpy_nc, cpy_in, cpy_out, cpyOk_T, m1_lt, m1_le, m1_nle, m1_nlt, m1_eq, m1_eq2, m1_0le, Nat.add_zero, Nat.zero_add, Nat.mul_one, Nat.sub_zero, if_true, if_false, Nat.add_sub_cancel, Nat.add_sub_cancel_left, in_in, in_inN, iw_in, rq_in, pw_fold, nt_fold, ask_pw, has_eq, or_0, bt1, Bool.true_eq_false, Bool.false_eq_true, w1])
      refine h _ (RS_cg (RS_nt hl bel dd) (fun q hq => ?_))
      unfold btn
      rw [z]
      by_cases c1 : q = r
      · subst c1
        rw [birr, if_pos (Or.inl rfl), Bool.and_false, Bool.false_and]
      · by_cases c2 : (rOf l q).1 = (rOf l r).1
        · rw [decide_eq_true c2, if_neg (by omega), if_neg (by decide), if_neg (by decide)]
          rcases ev q hq with c3 | c3
          · rw [decide_eq_false (show ¬ (rOf l q).2.1 = 1 by omega), if_neg (by omega)]
            try rw [decide_eq_false (by omega)]
            cases bef l q r <;> rfl
          · rw [decide_eq_true c3, if_pos (by omega)]
            cases bef l q r <;> rfl
        · rw [decide_eq_false c2, if_pos (Or.inr c2)]
          rfl
    · rw [z] at w1
      (try simp (disch := omega) only [String.reduceEq, isRu_1, isRu_61, isGr_3, isSt_0, isSt_6, lg_selfT, isB_0, isB_1, eq_self, true_or, or_true, false_or, or_false, or_self, fa_lit, nI_add, pk_mul, pk_sub, nI_addm, nI_leI, nI_ltI, nI_eqI, vp_inI, ix_nI, forall_eq, true_implies, false_implies, not_true_eq_false, not_false_eq_true, and_true, true_and, false_and, and_false, nle_T, nle_F, nlt_T, nlt_F, neq_T, neq_F, up_rd_s, up_rd_n, up_nc, cpy_nc, cpy_in, cpy_out, cpyOk_T, m1_lt, m1_le, m1_nle, m1_nlt, m1_eq, m1_eq2, m1_0le, Nat.add_zero, Nat.zero_add, Nat.mul_one, Nat.sub_zero, if_true, if_false, Nat.add_sub_cancel, Nat.add_sub_cancel_left, in_in, in_inN, iw_in, rq_in, pw_fold, nt_fold, ask_pw, has_eq, or_0, bt1, Bool.true_eq_false, Bool.false_eq_true, w1])
      refine h _ (RS_cg (RS_or bel dd) (fun q hq => ?_))
      unfold btn
      rw [z]
      by_cases c1 : q = r
      · subst c1
        rw [birr, if_pos (Or.inl rfl), decide_eq_true er]
        simp
      · by_cases c2 : (rOf l q).1 = (rOf l r).1
        · rw [decide_eq_true c2, if_neg (by omega), if_neg (by decide), if_neg (by decide)]
          rcases ev q hq with c3 | c3
          · rw [decide_eq_false (show ¬ (rOf l q).2.1 = 1 by omega), if_neg (by omega)]
            try rw [decide_eq_true (by omega)]
            cases bef l q r <;> rfl
          · rw [decide_eq_true c3, if_pos (by omega)]
            cases bef l q r <;> rfl
        · rw [decide_eq_false c2, if_pos (Or.inr c2)]
          rfl
    · rw [z] at w1
      (try simp (disch := omega) only [String.reduceEq, isRu_1, isRu_61, isGr_3, isSt_0, isSt_6, lg_selfT, isB_0, isB_1, eq_self, true_or, or_true, false_or, or_false, or_self, fa_lit, nI_add, pk_mul, pk_sub, nI_addm, nI_leI, nI_ltI, nI_eqI, vp_inI, ix_nI, forall_eq, true_implies, false_implies, not_true_eq_false, not_false_eq_true, and_true, true_and, false_and, and_false, nle_T, nle_F, nlt_T, nlt_F, neq_T, neq_F, up_rd_s, up_rd_n, up_nc, cpy_nc, cpy_in, cpy_out, cpyOk_T, m1_lt, m1_le, m1_nle, m1_nlt, m1_eq, m1_eq2, m1_0le, Nat.add_zero, Nat.zero_add, Nat.mul_one, Nat.sub_zero, if_true, if_false, Nat.add_sub_cancel, Nat.add_sub_cancel_left, in_in, in_inN, iw_in, rq_in, pw_fold, nt_fold, ask_pw, has_eq, or_0, bt1, Bool.true_eq_false, Bool.false_eq_true, w1])
      refine h _ (RS_cg bel (fun q hq => ?_))
      unfold btn
      rw [z]
      by_cases c1 : q = r
      · subst c1
        rw [birr, if_pos (Or.inl rfl), Bool.and_false]
      · by_cases c2 : (rOf l q).1 = (rOf l r).1
        · rw [decide_eq_true c2, if_neg (by omega), if_neg (by decide), if_pos rfl, Bool.true_and]
        · rw [decide_eq_false c2, if_pos (Or.inr c2), Bool.false_and]
    · rw [z] at w1
      (try simp (disch := omega) only [String.reduceEq, isRu_1, isRu_61, isGr_3, isSt_0, isSt_6, lg_selfT, isB_0, isB_1, eq_self, true_or, or_true, false_or, or_false, or_self, fa_lit, nI_add, pk_mul, pk_sub, nI_addm, nI_leI, nI_ltI, nI_eqI, vp_inI, ix_nI, forall_eq, true_implies, false_implies, not_true_eq_false, not_false_eq_true, and_true, true_and, false_and, and_false, nle_T, nle_F, nlt_T, nlt_F, neq_T, neq_F, up_rd_s, up_rd_n, up_nc, cpy_nc, cpy_in, cpy_out, cpyOk_T, m1_lt, m1_le, m1_nle, m1_nlt, m1_eq, m1_eq2, m1_0le, Nat.add_zero, Nat.zero_add, Nat.mul_one, Nat.sub_zero, if_true, if_false, Nat.add_sub_cancel, Nat.add_sub_cancel_left, in_in, in_inN, iw_in, rq_in, pw_fold, nt_fold, ask_pw, has_eq, or_0, bt1, Bool.true_eq_false, Bool.false_eq_true, w1])
      refine h _ (⟨fun q hq => ?_, fun i hi => by rw [b_and, own.2 i hi, Bool.false_and]⟩)
      have hqk := rk_n hq
      have ho : bt (σ 69 (rOf l r).1) (rk l q) = decide ((rOf l q).1 = (rOf l r).1) := own.1 q hq
      rw [b_and, ho, b_nt _ (by omega), b_pw (by omega)]
      unfold btn
      rw [z]
      by_cases c1 : q = r
      · subst c1
        rw [if_pos (Or.inl rfl), decide_eq_true rfl, decide_eq_true rfl]
        rfl
      · have : ¬ rk l q = rk l r := fun e => c1 (rk_inj hq hr e)
        by_cases c2 : (rOf l q).1 = (rOf l r).1
        · rw [decide_eq_true c2, decide_eq_false this, if_neg (by omega), if_pos rfl]
          rfl
        · rw [decide_eq_false c2, if_pos (Or.inr c2), Bool.false_and]
  · rw [decide_eq_false er] at tden
    have dd := RS_and own den
    (try simp (disch := omega) only [String.reduceEq, isRu_1, isRu_61, isGr_3, isSt_0, isSt_6, lg_selfT, isB_0, isB_1, eq_self, true_or, or_true, false_or, or_false, or_self, fa_lit, nI_add, pk_mul, pk_sub, nI_addm, nI_leI, nI_ltI, nI_eqI, vp_inI, ix_nI, forall_eq, true_implies, false_implies, not_true_eq_false, not_false_eq_true, and_true, true_and, false_and, and_false, nle_T, nle_F, nlt_T, nlt_F, neq_T, neq_F, up_rd_s, up_rd_n, up_nc, cpy_nc, cpy_in, cpy_out, cpyOk_T, m1_lt, m1_le, m1_nle, m1_nlt, m1_eq, m1_eq2, m1_0le, Nat.add_zero, Nat.zero_add, Nat.mul_one, Nat.sub_zero, if_true, if_false, Nat.add_sub_cancel, Nat.add_sub_cancel_left, in_in, in_inN, iw_in, rq_in, pw_fold, nt_fold, ask_pw, has_eq, or_0, bt1, Bool.true_eq_false, Bool.false_eq_true, tden])
    apply h36
    (try simp (disch := omega) only [String.reduceEq, isRu_1, isRu_61, isGr_3, isSt_0, isSt_6, lg_selfT, isB_0, isB_1, eq_self, true_or, or_true, false_or, or_false, or_self, fa_lit, nI_add, pk_mul, pk_sub, nI_addm, nI_leI, nI_ltI, nI_eqI, vp_inI, ix_nI, forall_eq, true_implies, false_implies, not_true_eq_false, not_false_eq_true, and_true, true_and, false_and, and_false, nle_T, nle_F, nlt_T, nlt_F, neq_T, neq_F, up_rd_s, up_rd_n, up_nc, cpy_nc, cpy_in, cpy_out, cpyOk_T, m1_lt, m1_le, m1_nle, m1_nlt, m1_eq, m1_eq2, m1_0le, Nat.add_zero, Nat.zero_add, Nat.mul_one, Nat.sub_zero, if_true, if_false, Nat.add_sub_cancel, Nat.add_sub_cancel_left, in_in, in_inN, iw_in, rq_in, pw_fold, nt_fold, ask_pw, has_eq, or_0, bt1, Bool.true_eq_false, Bool.false_eq_true])
    apply h74
    rcases wyc with z | z | z | z
    · rw [z] at w1
      (try simp (disch := omega) only [String.reduceEq, isRu_1, isRu_61, isGr_3, isSt_0, isSt_6, lg_selfT, isB_0, isB_1, eq_self, true_or, or_true, false_or, or_false, or_self, fa_lit, nI_add, pk_mul, pk_sub, nI_addm, nI_leI, nI_ltI, nI_eqI, vp_inI, ix_nI, forall_eq, true_implies, false_implies, not_true_eq_false, not_false_eq_true, and_true, true_and, false_and, and_false, nle_T, nle_F, nlt_T, nlt_F, neq_T, neq_F, up_rd_s, up_rd_n, up_nc, cpy_nc, cpy_in, cpy_out, cpyOk_T, m1_lt, m1_le, m1_nle, m1_nlt, m1_eq, m1_eq2, m1_0le, Nat.add_zero, Nat.zero_add, Nat.mul_one, Nat.sub_zero, if_true, if_false, Nat.add_sub_cancel, Nat.add_sub_cancel_left, in_in, in_inN, iw_in, rq_in, pw_fold, nt_fold, ask_pw, has_eq, or_0, bt1, Bool.true_eq_false, Bool.false_eq_true, w1])
      refine h _ (RS_cg (RS_or bel dd) (fun q hq => ?_))
      unfold btn
      rw [z]
      by_cases c1 : q = r
      · subst c1
        rw [birr, if_pos (Or.inl rfl), decide_eq_false er]
        simp
      · by_cases c2 : (rOf l q).1 = (rOf l r).1
        · rw [decide_eq_true c2, if_neg (by omega), if_neg (by decide), if_neg (by decide)]
          rcases ev q hq with c3 | c3
          · rw [decide_eq_false (show ¬ (rOf l q).2.1 = 1 by omega), if_pos (by omega)]
            cases bef l q r <;> rfl
          · rw [decide_eq_true c3, if_neg (by omega)]
            try rw [decide_eq_true (by omega)]
            cases bef l q r <;> rfl
        · rw [decide_eq_false c2, if_pos (Or.inr c2)]
          rfl
    · rw [z] at w1
      (try simp (disch := omega) only [String.reduceEq, isRu_1, isRu_61, isGr_3, isSt_0, isSt_6, lg_selfT, isB_0, isB_1, eq_self, true_or, or_true, false_or, or_false, or_self, fa_lit, nI_add, pk_mul, pk_sub, nI_addm, nI_leI, nI_ltI, nI_eqI, vp_inI, ix_nI, forall_eq, true_implies, false_implies, not_true_eq_false, not_false_eq_true, and_true, true_and, false_and, and_false, nle_T, nle_F, nlt_T, nlt_F, neq_T, neq_F, up_rd_s, up_rd_n, up_nc, cpy_nc, cpy_in, cpy_out, cpyOk_T, m1_lt, m1_le, m1_nle, m1_nlt, m1_eq, m1_eq2, m1_0le, Nat.add_zero, Nat.zero_add, Nat.mul_one, Nat.sub_zero, if_true, if_false, Nat.add_sub_cancel, Nat.add_sub_cancel_left, in_in, in_inN, iw_in, rq_in, pw_fold, nt_fold, ask_pw, has_eq, or_0, bt1, Bool.true_eq_false, Bool.false_eq_true, w1])
      refine h _ (RS_cg (RS_nt hl bel dd) (fun q hq => ?_))
      unfold btn
      rw [z]
      by_cases c1 : q = r
      · subst c1
        rw [birr, if_pos (Or.inl rfl), Bool.and_false, Bool.false_and]
      · by_cases c2 : (rOf l q).1 = (rOf l r).1
        · rw [decide_eq_true c2, if_neg (by omega), if_neg (by decide), if_neg (by decide)]
          rcases ev q hq with c3 | c3
          · rw [decide_eq_false (show ¬ (rOf l q).2.1 = 1 by omega), if_pos (by omega)]
            cases bef l q r <;> rfl
          · rw [decide_eq_true c3, if_neg (by omega)]
            try rw [decide_eq_false (by omega)]
            cases bef l q r <;> rfl
        · rw [decide_eq_false c2, if_pos (Or.inr c2)]
          rfl
    · rw [z] at w1
      (try simp (disch := omega) only [String.reduceEq, isRu_1, isRu_61, isGr_3, isSt_0, isSt_6, lg_selfT, isB_0, isB_1, eq_self, true_or, or_true, false_or, or_false, or_self, fa_lit, nI_add, pk_mul, pk_sub, nI_addm, nI_leI, nI_ltI, nI_eqI, vp_inI, ix_nI, forall_eq, true_implies, false_implies, not_true_eq_false, not_false_eq_true, and_true, true_and, false_and, and_false, nle_T, nle_F, nlt_T, nlt_F, neq_T, neq_F, up_rd_s, up_rd_n, up_nc, cpy_nc, cpy_in, cpy_out, cpyOk_T, m1_lt, m1_le, m1_nle, m1_nlt, m1_eq, m1_eq2, m1_0le, Nat.add_zero, Nat.zero_add, Nat.mul_one, Nat.sub_zero, if_true, if_false, Nat.add_sub_cancel, Nat.add_sub_cancel_left, in_in, in_inN, iw_in, rq_in, pw_fold, nt_fold, ask_pw, has_eq, or_0, bt1, Bool.true_eq_false, Bool.false_eq_true, w1])
      refine h _ (RS_cg bel (fun q hq => ?_))
      unfold btn
      rw [z]
      by_cases c1 : q = r
      · subst c1
        rw [birr, if_pos (Or.inl rfl), Bool.and_false]
      · by_cases c2 : (rOf l q).1 = (rOf l r).1
        · rw [decide_eq_true c2, if_neg (by omega), if_neg (by decide), if_pos rfl, Bool.true_and]
        · rw [decide_eq_false c2, if_pos (Or.inr c2), Bool.false_and]
    · rw [z] at w1
      (try simp (disch := omega) only [String.reduceEq, isRu_1, isRu_61, isGr_3, isSt_0, isSt_6, lg_selfT, isB_0, isB_1, eq_self, true_or, or_true, false_or, or_false, or_self, fa_lit, nI_add, pk_mul, pk_sub, nI_addm, nI_leI, nI_ltI, nI_eqI, vp_inI, ix_nI, forall_eq, true_implies, false_implies, not_true_eq_false, not_false_eq_true, and_true, true_and, false_and, and_false, nle_T, nle_F, nlt_T, nlt_F, neq_T, neq_F, up_rd_s, up_rd_n, up_nc, cpy_nc, cpy_in, cpy_out, cpyOk_T, m1_lt, m1_le, m1_nle, m1_nlt, m1_eq, m1_eq2, m1_0le, Nat.add_zero, Nat.zero_add, Nat.mul_one, Nat.sub_zero, if_true, if_false, Nat.add_sub_cancel, Nat.add_sub_cancel_left, in_in, in_inN, iw_in, rq_in, pw_fold, nt_fold, ask_pw, has_eq, or_0, bt1, Bool.true_eq_false, Bool.false_eq_true, w1])
      refine h _ (⟨fun q hq => ?_, fun i hi => by rw [b_and, own.2 i hi, Bool.false_and]⟩)
      have hqk := rk_n hq
      have ho : bt (σ 69 (rOf l r).1) (rk l q) = decide ((rOf l q).1 = (rOf l r).1) := own.1 q hq
      rw [b_and, ho, b_nt _ (by omega), b_pw (by omega)]
      unfold btn
      rw [z]
      by_cases c1 : q = r
      · subst c1
        rw [if_pos (Or.inl rfl), decide_eq_true rfl, decide_eq_true rfl]
        rfl
      · have : ¬ rk l q = rk l r := fun e => c1 (rk_inj hq hr e)
        by_cases c2 : (rOf l q).1 = (rOf l r).1
        · rw [decide_eq_true c2, decide_eq_false this, if_neg (by omega), if_pos rfl]
          rfl
        · rw [decide_eq_false c2, if_pos (Or.inr c2), Bool.false_and]
theorem pc_0 {x : Int32} (hx : ∀ i, 16 ≤ i → bt x i = false) : pc x = 0 ↔ x = nI 0 := by
  constructor
  · intro h
    refine b_eq0.mpr fun i hi => ?_
    rcases Nat.lt_or_ge i 16 with q | q
    · exact fb_ct_zero.mp h i q
    · exact hx i q
  · intro h
    rw [h]
    exact fb_ct_zero.mpr fun i _ => b_z i
theorem szN_0 {l : List mRule} {r : Nat} : ∀ n, szN l r n = 0 ↔ ∃ a, a < n ∧ bx l r a = nI 0
  | 0 => ⟨(fun h => by cases h), fun ⟨a, ha, _⟩ => absurd ha (Nat.not_lt_zero _)⟩
  | n + 1 => by
    rw [szN_S, Nat.mul_eq_zero, szN_0 n, pc_0 (fun i hi => bx_hi hi)]
    constructor
    · rintro (⟨a, h1, h2⟩ | h)
      · exact ⟨a, by omega, h2⟩
      · exact ⟨n, by omega, h⟩
    · rintro ⟨a, h1, h2⟩
      by_cases e : a = n
      · subst e; exact Or.inr h2
      · exact Or.inl ⟨a, by omega, h2⟩
theorem X7_isFree {l : List mRule} {r : Nat} {R : Int32} {p : Nat → Bool} {σ : Sto} {P : Int32 → Sto → Prop} (hl : l.length ≤ 24) (hT : TBL l σ) (hr : r < l.length) (hR : RS l R p) (h : ∀ (b : Bool) (σ' : Sto), (b = true ↔ FreeP l (bx l r) p) → (∀ c, c ≠ 71 → σ' c = σ c) → (b = true → DOM (bx l r) 0 σ' ∧ WFD (bx l r)) → P (if b then nI 1 else nI 0) σ') : D_X7_isFree (nI (rk l r)) R σ P := by
  intro K2 h2
  have hrk := rk_n hr
  refine lp 6 (fun a s => K2 (nI a) s) (fun a s => (∀ c, c ≠ 71 → s c = σ c) ∧ ∀ b, b < a → s 71 b = bx l r b) ?_ ?_ σ ⟨fun _ _ => rfl, fun b hb => absurd hb (Nat.not_lt_zero _)⟩
  · intro s ⟨s1, s2⟩
    apply h2
    have hTs := TBL_F s1 hT
    have hsz := szN_le (l := l) (r := r) 6
    (try simp (disch := omega) only [String.reduceEq, isRu_1, isRu_61, isGr_3, isSt_0, isSt_6, lg_selfT, isB_0, isB_1, eq_self, true_or, or_true, false_or, or_false, or_self, fa_lit, nI_add, pk_mul, pk_sub, nI_addm, nI_leI, nI_ltI, nI_eqI, vp_inI, ix_nI, forall_eq, true_implies, false_implies, not_true_eq_false, not_false_eq_true, and_true, true_and, false_and, and_false, nle_T, nle_F, nlt_T, nlt_F, neq_T, neq_F, up_rd_s, up_rd_n, up_nc, cpy_nc, cpy_in, cpy_out, cpyOk_T, m1_lt, m1_le, m1_nle, m1_nlt, m1_eq, m1_eq2, m1_0le, Nat.add_zero, Nat.zero_add, Nat.mul_one, Nat.sub_zero, if_true, if_false, Nat.add_sub_cancel, Nat.add_sub_cancel_left, in_in, in_inN, iw_in, rq_in, pw_fold, nt_fold, ask_pw, has_eq, or_0, bt1, Bool.true_eq_false, Bool.false_eq_true])
    refine X5_sizeOf hl hTs hr ?_
    by_cases h0 : szN l r 6 = 0
    · (try simp (disch := omega) only [String.reduceEq, isRu_1, isRu_61, isGr_3, isSt_0, isSt_6, lg_selfT, isB_0, isB_1, eq_self, true_or, or_true, false_or, or_false, or_self, fa_lit, nI_add, pk_mul, pk_sub, nI_addm, nI_leI, nI_ltI, nI_eqI, vp_inI, ix_nI, forall_eq, true_implies, false_implies, not_true_eq_false, not_false_eq_true, and_true, true_and, false_and, and_false, nle_T, nle_F, nlt_T, nlt_F, neq_T, neq_F, up_rd_s, up_rd_n, up_nc, cpy_nc, cpy_in, cpy_out, cpyOk_T, m1_lt, m1_le, m1_nle, m1_nlt, m1_eq, m1_eq2, m1_0le, Nat.add_zero, Nat.zero_add, Nat.mul_one, Nat.sub_zero, if_true, if_false, Nat.add_sub_cancel, Nat.add_sub_cancel_left, in_in, in_inN, iw_in, rq_in, pw_fold, nt_fold, ask_pw, has_eq, or_0, bt1, Bool.true_eq_false, Bool.false_eq_true, h0])
      refine h false s ⟨(fun z => by cases z), (fun z => ?_)⟩ s1 (fun z => by cases z)
      obtain ⟨a, a1, a2⟩ := (szN_0 6).mp h0
      obtain ⟨g, g1, g2⟩ := z
      have := g1 a a1
      rw [a2, b_z] at this
      cases this
    · have hWD : WFD (bx l r) := fun a ha z => h0 ((szN_0 6).mpr ⟨a, ha, z⟩)
      have hD : DOM (bx l r) 0 s := fun a ha => by rw [Nat.zero_mul, Nat.zero_add]; exact s2 a ha
      (try simp (disch := omega) only [String.reduceEq, isRu_1, isRu_61, isGr_3, isSt_0, isSt_6, lg_selfT, isB_0, isB_1, eq_self, true_or, or_true, false_or, or_false, or_self, fa_lit, nI_add, pk_mul, pk_sub, nI_addm, nI_leI, nI_ltI, nI_eqI, vp_inI, ix_nI, forall_eq, true_implies, false_implies, not_true_eq_false, not_false_eq_true, and_true, true_and, false_and, and_false, nle_T, nle_F, nlt_T, nlt_F, neq_T, neq_F, up_rd_s, up_rd_n, up_nc, cpy_nc, cpy_in, cpy_out, cpyOk_T, m1_lt, m1_le, m1_nle, m1_nlt, m1_eq, m1_eq2, m1_0le, Nat.add_zero, Nat.zero_add, Nat.mul_one, Nat.sub_zero, if_true, if_false, Nat.add_sub_cancel, Nat.add_sub_cancel_left, in_in, in_inN, iw_in, rq_in, pw_fold, nt_fold, ask_pw, has_eq, or_0, bt1, Bool.true_eq_false, Bool.false_eq_true])
      refine X7_hasFree hl 30 0 R p (bx l r) s _ hTs hR (Nat.zero_le _) (by decide) (by have := fb_ct_le p l.length; omega) hD hWD (fun b σ' hb hf => ?_)
      have key := h b σ' hb (fun c hc => (hf.1 c hc).trans (s1 c hc)) (fun _ => ⟨fun a ha => by rw [hf.2 _ (by omega)]; exact hD a ha, hWD⟩)
      cases b with
      | false => (try simp (disch := omega) only [String.reduceEq, isRu_1, isRu_61, isGr_3, isSt_0, isSt_6, lg_selfT, isB_0, isB_1, eq_self, true_or, or_true, false_or, or_false, or_self, fa_lit, nI_add, pk_mul, pk_sub, nI_addm, nI_leI, nI_ltI, nI_eqI, vp_inI, ix_nI, forall_eq, true_implies, false_implies, not_true_eq_false, not_false_eq_true, and_true, true_and, false_and, and_false, nle_T, nle_F, nlt_T, nlt_F, neq_T, neq_F, up_rd_s, up_rd_n, up_nc, cpy_nc, cpy_in, cpy_out, cpyOk_T, m1_lt, m1_le, m1_nle, m1_nlt, m1_eq, m1_eq2, m1_0le, Nat.add_zero, Nat.zero_add, Nat.mul_one, Nat.sub_zero, if_true, if_false, Nat.add_sub_cancel, Nat.add_sub_cancel_left, in_in, in_inN, iw_in, rq_in, pw_fold, nt_fold, ask_pw, has_eq, or_0, bt1, Bool.true_eq_false, Bool.false_eq_true]); exact key
      | true => (try simp (disch := omega) only [String.reduceEq, isRu_1, isRu_61, isGr_3, isSt_0, isSt_6, lg_selfT, isB_0, isB_1, eq_self, true_or, or_true, false_or, or_false, or_self, fa_lit, nI_add, pk_mul, pk_sub, nI_addm, nI_leI, nI_ltI, nI_eqI, vp_inI, ix_nI, forall_eq, true_implies, false_implies, not_true_eq_false, not_false_eq_true, and_true, true_and, false_and, and_false, nle_T, nle_F, nlt_T, nlt_F, neq_T, neq_F, up_rd_s, up_rd_n, up_nc, cpy_nc, cpy_in, cpy_out, cpyOk_T, m1_lt, m1_le, m1_nle, m1_nlt, m1_eq, m1_eq2, m1_0le, Nat.add_zero, Nat.zero_add, Nat.mul_one, Nat.sub_zero, if_true, if_false, Nat.add_sub_cancel, Nat.add_sub_cancel_left, in_in, in_inN, iw_in, rq_in, pw_fold, nt_fold, ask_pw, has_eq, or_0, bt1, Bool.true_eq_false, Bool.false_eq_true]); exact key
  · intro a s ha ⟨s1, s2⟩ hnext
    apply h2
    have hTs := TBL_F s1 hT
    have hb : s 68 (rk l r * 6 + a) = bx l r a := (hTs.2.1 r hr).2.2.2.1 a ha
    (try simp (disch := omega) only [String.reduceEq, isRu_1, isRu_61, isGr_3, isSt_0, isSt_6, lg_selfT, isB_0, isB_1, eq_self, true_or, or_true, false_or, or_false, or_self, fa_lit, nI_add, pk_mul, pk_sub, nI_addm, nI_leI, nI_ltI, nI_eqI, vp_inI, ix_nI, forall_eq, true_implies, false_implies, not_true_eq_false, not_false_eq_true, and_true, true_and, false_and, and_false, nle_T, nle_F, nlt_T, nlt_F, neq_T, neq_F, up_rd_s, up_rd_n, up_nc, cpy_nc, cpy_in, cpy_out, cpyOk_T, m1_lt, m1_le, m1_nle, m1_nlt, m1_eq, m1_eq2, m1_0le, Nat.add_zero, Nat.zero_add, Nat.mul_one, Nat.sub_zero, if_true, if_false, Nat.add_sub_cancel, Nat.add_sub_cancel_left, in_in, in_inN, iw_in, rq_in, pw_fold, nt_fold, ask_pw, has_eq, or_0, bt1, Bool.true_eq_false, Bool.false_eq_true, D_X5_box, hb])
    refine hnext _ ⟨fun c hc => by (try simp (disch := omega) only [String.reduceEq, isRu_1, isRu_61, isGr_3, isSt_0, isSt_6, lg_selfT, isB_0, isB_1, eq_self, true_or, or_true, false_or, or_false, or_self, fa_lit, nI_add, pk_mul, pk_sub, nI_addm, nI_leI, nI_ltI, nI_eqI, vp_inI, ix_nI, forall_eq, true_implies, false_implies, not_true_eq_false, not_false_eq_true, and_true, true_and, false_and, and_false, nle_T, nle_F, nlt_T, nlt_F, neq_T, neq_F, up_rd_s, up_rd_n, up_nc, cpy_nc, cpy_in, cpy_out, cpyOk_T, m1_lt, m1_le, m1_nle, m1_nlt, m1_eq, m1_eq2, m1_0le, Nat.add_zero, Nat.zero_add, Nat.mul_one, Nat.sub_zero, if_true, if_false, Nat.add_sub_cancel, Nat.add_sub_cancel_left, in_in, in_inN, iw_in, rq_in, pw_fold, nt_fold, ask_pw, has_eq, or_0, bt1, Bool.true_eq_false, Bool.false_eq_true]); exact s1 c hc, fun b hb => ?_⟩
    by_cases e : b = a
    · subst e
      (try simp (disch := omega) only [String.reduceEq, isRu_1, isRu_61, isGr_3, isSt_0, isSt_6, lg_selfT, isB_0, isB_1, eq_self, true_or, or_true, false_or, or_false, or_self, fa_lit, nI_add, pk_mul, pk_sub, nI_addm, nI_leI, nI_ltI, nI_eqI, vp_inI, ix_nI, forall_eq, true_implies, false_implies, not_true_eq_false, not_false_eq_true, and_true, true_and, false_and, and_false, nle_T, nle_F, nlt_T, nlt_F, neq_T, neq_F, up_rd_s, up_rd_n, up_nc, cpy_nc, cpy_in, cpy_out, cpyOk_T, m1_lt, m1_le, m1_nle, m1_nlt, m1_eq, m1_eq2, m1_0le, Nat.add_zero, Nat.zero_add, Nat.mul_one, Nat.sub_zero, if_true, if_false, Nat.add_sub_cancel, Nat.add_sub_cancel_left, in_in, in_inN, iw_in, rq_in, pw_fold, nt_fold, ask_pw, has_eq, or_0, bt1, Bool.true_eq_false, Bool.false_eq_true])
    · (try simp (disch := omega) only [String.reduceEq, isRu_1, isRu_61, isGr_3, isSt_0, isSt_6, lg_selfT, isB_0, isB_1, eq_self, true_or, or_true, false_or, or_false, or_self, fa_lit, nI_add, pk_mul, pk_sub, nI_addm, nI_leI, nI_ltI, nI_eqI, vp_inI, ix_nI, forall_eq, true_implies, false_implies, not_true_eq_false, not_false_eq_true, and_true, true_and, false_and, and_false, nle_T, nle_F, nlt_T, nlt_F, neq_T, neq_F, up_rd_s, up_rd_n, up_nc, cpy_nc, cpy_in, cpy_out, cpyOk_T, m1_lt, m1_le, m1_nle, m1_nlt, m1_eq, m1_eq2, m1_0le, Nat.add_zero, Nat.zero_add, Nat.mul_one, Nat.sub_zero, if_true, if_false, Nat.add_sub_cancel, Nat.add_sub_cancel_left, in_in, in_inN, iw_in, rq_in, pw_fold, nt_fold, ask_pw, has_eq, or_0, bt1, Bool.true_eq_false, Bool.false_eq_true])
      exact s2 b (by omega)
theorem X7_canDecide {l : List mRule} {wy : Nat → Nat} {r : Nat} {σ : Sto} {P : Int32 → Sto → Prop} (hR : RLE l σ) (hW : RW l) (hT : TBL l σ) (hr : r < l.length) (hw : ∀ p, p < 4 → σ 5 p = nI (wy p) ∧ wy p < 4) (h : ∀ (b : Bool) (σ' : Sto), (b = true ↔ FreeP l (bx l r) (btn l wy r)) → (∀ c, c ≠ 71 → σ' c = σ c) → P (if b then nI 1 else nI 0) σ') : D_X7_canDecide (nI (rk l r)) σ P := by
  refine X5_rivals hR hW hT hr hw (fun R hRS => ?_)
  refine X7_isFree hW.1 hT hr hRS (fun b σ' hb hf _ => ?_)
  rw [isB_if, true_and]
  exact h b σ' hb hf
theorem X7_canDecideWithout {l : List mRule} {wy : Nat → Nat} {r o : Nat} {σ : Sto} {P : Int32 → Sto → Prop} (hR : RLE l σ) (hW : RW l) (hT : TBL l σ) (hr : r < l.length) (ho : o < l.length) (hw : ∀ p, p < 4 → σ 5 p = nI (wy p) ∧ wy p < 4) (h : ∀ (b : Bool) (σ' : Sto), (b = true ↔ FreeP l (bx l r) (fun q => btn l wy r q && !decide (q = o))) → (∀ c, c ≠ 71 → σ' c = σ c) → P (if b then nI 1 else nI 0) σ') : D_X7_canDecideWithout (nI (rk l r)) (nI (rk l o)) σ P := by
  have hl := hW.1
  refine X5_rivals hR hW hT hr hw (fun R hRS => ?_)
  have hok := rk_n ho
  have hRS2 : RS l (R &&& nt (pw (rk l o))) (fun q => btn l wy r q && !decide (q = o)) := by
    refine ⟨fun q hq => ?_, fun i hi => by rw [b_and, hRS.2 i hi, Bool.false_and]⟩
    have hqk := rk_n hq
    rw [b_and, hRS.1 q hq, b_nt _ (by omega), b_pw (by omega), decide_eq_decide.mpr (show rk l q = rk l o ↔ q = o from ⟨fun e => rk_inj hq ho e, fun e => by rw [e]⟩)]
  (try simp (disch := omega) only [String.reduceEq, isRu_1, isRu_61, isGr_3, isSt_0, isSt_6, lg_selfT, isB_0, isB_1, eq_self, true_or, or_true, false_or, or_false, or_self, fa_lit, nI_add, pk_mul, pk_sub, nI_addm, nI_leI, nI_ltI, nI_eqI, vp_inI, ix_nI, forall_eq, true_implies, false_implies, not_true_eq_false, not_false_eq_true, and_true, true_and, false_and, and_false, nle_T, nle_F, nlt_T, nlt_F, neq_T, neq_F, up_rd_s, up_rd_n, up_nc, cpy_nc, cpy_in, cpy_out, cpyOk_T, m1_lt, m1_le, m1_nle, m1_nlt, m1_eq, m1_eq2, m1_0le, Nat.add_zero, Nat.zero_add, Nat.mul_one, Nat.sub_zero, if_true, if_false, Nat.add_sub_cancel, Nat.add_sub_cancel_left, in_in, in_inN, iw_in, rq_in, pw_fold, nt_fold, ask_pw, has_eq, or_0, bt1, Bool.true_eq_false, Bool.false_eq_true])
  refine X7_isFree hl hT hr hRS2 (fun b σ' hb hf _ => ?_)
  rw [isB_if, true_and]
  exact h b σ' hb hf
