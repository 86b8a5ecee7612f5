/-! MATH. specialize. -/
def kpp (at' : Nat) (q : mCond) : Bool := !decide (q.1 = at')
def lose (r : mRule) (at' : Nat) : mRule := (r.1, r.2.1, r.2.2.1, r.2.2.2.filter (kpp at'))
def excl (r : mRule) (at' v : Nat) : Bool := (ft (fun c => decide ((qOf r c).1 = at') && !bt (qset (qOf r c)) v) r.2.2.2.length).isSome
def stepR (L : List mRule) (at' v k : Nat) : List mRule := if excl (rOf L k) at' v then L.eraseIdx k else L.set k (lose (rOf L k) at')
def goR (at' v : Nat) : Nat → List mRule → List mRule
  | 0, L => L
  | k + 1, L => goR at' v k (stepR L at' v k)
theorem lose_WF {r : mRule} {at' : Nat} (h : WFRule r) : WFRule (lose r at') := by
  obtain ⟨h1, h2, h3, h4, h5⟩ := h
  refine ⟨h1, h2, h3, Nat.le_trans (List.length_filter_le _ _) h4, fun q hq => h5 q ?_⟩
  exact (List.mem_filter.mp hq).1
theorem stepR_WF {L : List mRule} {at' v k : Nat} (hk : k < L.length) (h : RW L) : RW (stepR L at' v k) ∧ (stepR L at' v k).length ≤ L.length ∧ k ≤ (stepR L at' v k).length := by
  unfold stepR
  split
  · have hl := List.length_eraseIdx_of_lt hk
    exact ⟨⟨by have := h.1; omega, fun r hr => h.2 r (List.mem_of_mem_eraseIdx hr)⟩, by omega, by omega⟩
  · refine ⟨⟨by rw [List.length_set]; exact h.1, fun r hr => ?_⟩, by rw [List.length_set]; exact Nat.le_refl _, by rw [List.length_set]; omega⟩
    rcases List.mem_or_eq_of_mem_set hr with hm | rfl
    · exact h.2 r hm
    · exact lose_WF (h.2 _ (rMem hk))
theorem goR_WF {at' v : Nat} : ∀ (k : Nat) (L : List mRule), k ≤ L.length → RW L → RW (goR at' v k L) ∧ (goR at' v k L).length ≤ L.length
  | 0, L, _, h => ⟨h, Nat.le_refl _⟩
  | k + 1, L, hk, h => by
    obtain ⟨h1, h2, h3⟩ := stepR_WF (at' := at') (v := v) (k := k) (by omega) h
    obtain ⟨i1, i2⟩ := goR_WF (at' := at') (v := v) k (stepR L at' v k) h3 h1
    exact ⟨i1, Nat.le_trans i2 h2⟩
theorem X6_excludes {l : List mRule} {k at' v : Nat} {σ : Sto} {P : Int32 → Sto → Prop} (hR : RLE l σ) (hW : RW l) (hk : k < l.length) (ha : at' < 6) (hv : v < 16) (h : P (if excl (rOf l k) at' v then nI 1 else nI 0) σ) : D_X6_excludes 1 (nI k) (nI at') (nI v) σ P := by
  refine ⟨⟨by decide, by decide⟩, fun K11 h11 => ?_⟩
  have hn := hW.1
  have hWr := hW.2 _ (rMem hk)
  have hc4 := hWr.2.2.2.1
  obtain ⟨b0, b1, b2, b3⟩ := rlE hR hk
  (try simp (disch := omega) only [String.reduceEq, isRu_1, isRu_61, isGr_3, isSt_0, isSt_6, lg_selfT, isB_0, isB_1, eq_self, true_or, or_true, false_or, or_false, or_self, fa_lit, nI_add, pk_mul, pk_sub, nI_addm, nI_leI, nI_ltI, nI_eqI, vp_inI, ix_nI, forall_eq, true_implies, false_implies, not_true_eq_false, not_false_eq_true, and_true, true_and, false_and, and_false, nle_T, nle_F, nlt_T, nlt_F, neq_T, neq_F, up_rd_s, up_rd_n, up_nc, cpy_nc, cpy_in, cpy_out, cpyOk_T, m1_lt, m1_le, m1_nle, m1_nlt, m1_eq, m1_eq2, m1_0le, Nat.add_zero, Nat.zero_add, Nat.mul_one, Nat.sub_zero, if_true, if_false, Nat.add_sub_cancel, Nat.add_sub_cancel_left, in_in, in_inN, iw_in, rq_in, pw_fold, nt_fold, ask_pw, has_eq, or_0, bt1, Bool.true_eq_false, Bool.false_eq_true, D_X6_cell, b3])
  refine lp_first (K := fun c => K11 (nI (rOf l k).2.2.2.length) (nI c) σ) (fun c => decide ((qOf (rOf l k) c).1 = at') && !bt (qset (qOf (rOf l k) c)) v) (fun z => P (if z.isSome then nI 1 else nI 0) σ) (rOf l k).2.2.2.length (fun hz => ?_) (fun c hc hp hz => ?_) (fun c hc hp hK => ?_) h
  · apply h11
    (try simp (disch := omega) only [String.reduceEq, isRu_1, isRu_61, isGr_3, isSt_0, isSt_6, lg_selfT, isB_0, isB_1, eq_self, true_or, or_true, false_or, or_false, or_self, fa_lit, nI_add, pk_mul, pk_sub, nI_addm, nI_leI, nI_ltI, nI_eqI, vp_inI, ix_nI, forall_eq, true_implies, false_implies, not_true_eq_false, not_false_eq_true, and_true, true_and, false_and, and_false, nle_T, nle_F, nlt_T, nlt_F, neq_T, neq_F, up_rd_s, up_rd_n, up_nc, cpy_nc, cpy_in, cpy_out, cpyOk_T, m1_lt, m1_le, m1_nle, m1_nlt, m1_eq, m1_eq2, m1_0le, Nat.add_zero, Nat.zero_add, Nat.mul_one, Nat.sub_zero, if_true, if_false, Nat.add_sub_cancel, Nat.add_sub_cancel_left, in_in, in_inN, iw_in, rq_in, pw_fold, nt_fold, ask_pw, has_eq, or_0, bt1, Bool.true_eq_false, Bool.false_eq_true])
    exact hz
  · apply h11
    obtain ⟨d0, d1, d2⟩ := rcE hR hk hc
    obtain ⟨x0, x1, x2, x3⟩ := hWr.2.2.2.2 _ (qMem hc)
    rw [Bool.and_eq_true, decide_eq_true_iff] at hp
    obtain ⟨p1, p2⟩ := hp
    have p2 : bt (qset (qOf (rOf l k) c)) v = false := by simpa using p2
    (try simp (disch := omega) only [String.reduceEq, isRu_1, isRu_61, isGr_3, isSt_0, isSt_6, lg_selfT, isB_0, isB_1, eq_self, true_or, or_true, false_or, or_false, or_self, fa_lit, nI_add, pk_mul, pk_sub, nI_addm, nI_leI, nI_ltI, nI_eqI, vp_inI, ix_nI, forall_eq, true_implies, false_implies, not_true_eq_false, not_false_eq_true, and_true, true_and, false_and, and_false, nle_T, nle_F, nlt_T, nlt_F, neq_T, neq_F, up_rd_s, up_rd_n, up_nc, cpy_nc, cpy_in, cpy_out, cpyOk_T, m1_lt, m1_le, m1_nle, m1_nlt, m1_eq, m1_eq2, m1_0le, Nat.add_zero, Nat.zero_add, Nat.mul_one, Nat.sub_zero, if_true, if_false, Nat.add_sub_cancel, Nat.add_sub_cancel_left, in_in, in_inN, iw_in, rq_in, pw_fold, nt_fold, ask_pw, has_eq, or_0, bt1, Bool.true_eq_false, Bool.false_eq_true, D_X6_conditionCell, D_X6_conditionStart, d0, p1])
    refine X6_valuesOf hR hW hk hc ?_
    (try simp (disch := omega) only [String.reduceEq, isRu_1, isRu_61, isGr_3, isSt_0, isSt_6, lg_selfT, isB_0, isB_1, eq_self, true_or, or_true, false_or, or_false, or_self, fa_lit, nI_add, pk_mul, pk_sub, nI_addm, nI_leI, nI_ltI, nI_eqI, vp_inI, ix_nI, forall_eq, true_implies, false_implies, not_true_eq_false, not_false_eq_true, and_true, true_and, false_and, and_false, nle_T, nle_F, nlt_T, nlt_F, neq_T, neq_F, up_rd_s, up_rd_n, up_nc, cpy_nc, cpy_in, cpy_out, cpyOk_T, m1_lt, m1_le, m1_nle, m1_nlt, m1_eq, m1_eq2, m1_0le, Nat.add_zero, Nat.zero_add, Nat.mul_one, Nat.sub_zero, if_true, if_false, Nat.add_sub_cancel, Nat.add_sub_cancel_left, in_in, in_inN, iw_in, rq_in, pw_fold, nt_fold, ask_pw, has_eq, or_0, bt1, Bool.true_eq_false, Bool.false_eq_true, p2])
    exact hz
  · apply h11
    obtain ⟨d0, d1, d2⟩ := rcE hR hk hc
    obtain ⟨x0, x1, x2, x3⟩ := hWr.2.2.2.2 _ (qMem hc)
    by_cases p1 : (qOf (rOf l k) c).1 = at'
    · rw [decide_eq_true p1, Bool.true_and] at hp
      have p2 : bt (qset (qOf (rOf l k) c)) v = true := by simpa using hp
      (try simp (disch := omega) only [String.reduceEq, isRu_1, isRu_61, isGr_3, isSt_0, isSt_6, lg_selfT, isB_0, isB_1, eq_self, true_or, or_true, false_or, or_false, or_self, fa_lit, nI_add, pk_mul, pk_sub, nI_addm, nI_leI, nI_ltI, nI_eqI, vp_inI, ix_nI, forall_eq, true_implies, false_implies, not_true_eq_false, not_false_eq_true, and_true, true_and, false_and, and_false, nle_T, nle_F, nlt_T, nlt_F, neq_T, neq_F, up_rd_s, up_rd_n, up_nc, cpy_nc, cpy_in, cpy_out, cpyOk_T, m1_lt, m1_le, m1_nle, m1_nlt, m1_eq, m1_eq2, m1_0le, Nat.add_zero, Nat.zero_add, Nat.mul_one, Nat.sub_zero, if_true, if_false, Nat.add_sub_cancel, Nat.add_sub_cancel_left, in_in, in_inN, iw_in, rq_in, pw_fold, nt_fold, ask_pw, has_eq, or_0, bt1, Bool.true_eq_false, Bool.false_eq_true, D_X6_conditionCell, D_X6_conditionStart, d0, p1])
      refine X6_valuesOf hR hW hk hc ?_
      (try simp (disch := omega) only [String.reduceEq, isRu_1, isRu_61, isGr_3, isSt_0, isSt_6, lg_selfT, isB_0, isB_1, eq_self, true_or, or_true, false_or, or_false, or_self, fa_lit, nI_add, pk_mul, pk_sub, nI_addm, nI_leI, nI_ltI, nI_eqI, vp_inI, ix_nI, forall_eq, true_implies, false_implies, not_true_eq_false, not_false_eq_true, and_true, true_and, false_and, and_false, nle_T, nle_F, nlt_T, nlt_F, neq_T, neq_F, up_rd_s, up_rd_n, up_nc, cpy_nc, cpy_in, cpy_out, cpyOk_T, m1_lt, m1_le, m1_nle, m1_nlt, m1_eq, m1_eq2, m1_0le, Nat.add_zero, Nat.zero_add, Nat.mul_one, Nat.sub_zero, if_true, if_false, Nat.add_sub_cancel, Nat.add_sub_cancel_left, in_in, in_inN, iw_in, rq_in, pw_fold, nt_fold, ask_pw, has_eq, or_0, bt1, Bool.true_eq_false, Bool.false_eq_true, p2, bF p2])
      exact hK
    · (try simp (disch := omega) only [String.reduceEq, isRu_1, isRu_61, isGr_3, isSt_0, isSt_6, lg_selfT, isB_0, isB_1, eq_self, true_or, or_true, false_or, or_false, or_self, fa_lit, nI_add, pk_mul, pk_sub, nI_addm, nI_leI, nI_ltI, nI_eqI, vp_inI, ix_nI, forall_eq, true_implies, false_implies, not_true_eq_false, not_false_eq_true, and_true, true_and, false_and, and_false, nle_T, nle_F, nlt_T, nlt_F, neq_T, neq_F, up_rd_s, up_rd_n, up_nc, cpy_nc, cpy_in, cpy_out, cpyOk_T, m1_lt, m1_le, m1_nle, m1_nlt, m1_eq, m1_eq2, m1_0le, Nat.add_zero, Nat.zero_add, Nat.mul_one, Nat.sub_zero, if_true, if_false, Nat.add_sub_cancel, Nat.add_sub_cancel_left, in_in, in_inN, iw_in, rq_in, pw_fold, nt_fold, ask_pw, has_eq, or_0, bt1, Bool.true_eq_false, Bool.false_eq_true, D_X6_conditionCell, D_X6_conditionStart, d0])
      exact hK
theorem X12_isAgainst {l : List mRule} {k at' v : Nat} {σ : Sto} {P : Int32 → Sto → Prop} (hR : RLM l σ) (hW : RW l) (hk : k < l.length) (ha : at' < 6) (hv : v < 16) (h : P (if excl (rOf l k) at' v then nI 1 else nI 0) σ) : D_X12_isAgainst (nI k) (nI at') (nI v) σ P := by
  intro K3 h3
  have hn := hW.1
  have hWr := hW.2 _ (rMem hk)
  have hc4 := hWr.2.2.2.1
  obtain ⟨b0, b1, b2, b3⟩ := rlM hR hk
  refine lp_first (K := fun c => K3 (nI c) σ) (fun c => decide ((qOf (rOf l k) c).1 = at') && !bt (qset (qOf (rOf l k) c)) v) (fun z => P (if z.isSome then nI 1 else nI 0) σ) (rOf l k).2.2.2.length (fun hz => ?_) (fun c hc hp hz => ?_) (fun c hc hp hK => ?_) h
  · apply h3
    (try simp (disch := omega) only [String.reduceEq, isRu_1, isRu_61, isGr_3, isSt_0, isSt_6, lg_selfT, isB_0, isB_1, eq_self, true_or, or_true, false_or, or_false, or_self, fa_lit, nI_add, pk_mul, pk_sub, nI_addm, nI_leI, nI_ltI, nI_eqI, vp_inI, ix_nI, forall_eq, true_implies, false_implies, not_true_eq_false, not_false_eq_true, and_true, true_and, false_and, and_false, nle_T, nle_F, nlt_T, nlt_F, neq_T, neq_F, up_rd_s, up_rd_n, up_nc, cpy_nc, cpy_in, cpy_out, cpyOk_T, m1_lt, m1_le, m1_nle, m1_nlt, m1_eq, m1_eq2, m1_0le, Nat.add_zero, Nat.zero_add, Nat.mul_one, Nat.sub_zero, if_true, if_false, Nat.add_sub_cancel, Nat.add_sub_cancel_left, in_in, in_inN, iw_in, rq_in, pw_fold, nt_fold, ask_pw, has_eq, or_0, bt1, Bool.true_eq_false, Bool.false_eq_true, D_X12_of, b3])
    exact hz
  · apply h3
    obtain ⟨d0, d1, d2⟩ := rcM hR hk hc
    obtain ⟨x0, x1, x2, x3⟩ := hWr.2.2.2.2 _ (qMem hc)
    rw [Bool.and_eq_true, decide_eq_true_iff] at hp
    obtain ⟨p1, p2⟩ := hp
    have p2 : bt (qset (qOf (rOf l k) c)) v = false := by simpa using p2
    (try simp (disch := omega) only [String.reduceEq, isRu_1, isRu_61, isGr_3, isSt_0, isSt_6, lg_selfT, isB_0, isB_1, eq_self, true_or, or_true, false_or, or_false, or_self, fa_lit, nI_add, pk_mul, pk_sub, nI_addm, nI_leI, nI_ltI, nI_eqI, vp_inI, ix_nI, forall_eq, true_implies, false_implies, not_true_eq_false, not_false_eq_true, and_true, true_and, false_and, and_false, nle_T, nle_F, nlt_T, nlt_F, neq_T, neq_F, up_rd_s, up_rd_n, up_nc, cpy_nc, cpy_in, cpy_out, cpyOk_T, m1_lt, m1_le, m1_nle, m1_nlt, m1_eq, m1_eq2, m1_0le, Nat.add_zero, Nat.zero_add, Nat.mul_one, Nat.sub_zero, if_true, if_false, Nat.add_sub_cancel, Nat.add_sub_cancel_left, in_in, in_inN, iw_in, rq_in, pw_fold, nt_fold, ask_pw, has_eq, or_0, bt1, Bool.true_eq_false, Bool.false_eq_true, D_X12_of, D_X12_part, b3, d0, p1])
    refine X12_conditionSet hR hW hk hc ?_
    (try simp (disch := omega) only [String.reduceEq, isRu_1, isRu_61, isGr_3, isSt_0, isSt_6, lg_selfT, isB_0, isB_1, eq_self, true_or, or_true, false_or, or_false, or_self, fa_lit, nI_add, pk_mul, pk_sub, nI_addm, nI_leI, nI_ltI, nI_eqI, vp_inI, ix_nI, forall_eq, true_implies, false_implies, not_true_eq_false, not_false_eq_true, and_true, true_and, false_and, and_false, nle_T, nle_F, nlt_T, nlt_F, neq_T, neq_F, up_rd_s, up_rd_n, up_nc, cpy_nc, cpy_in, cpy_out, cpyOk_T, m1_lt, m1_le, m1_nle, m1_nlt, m1_eq, m1_eq2, m1_0le, Nat.add_zero, Nat.zero_add, Nat.mul_one, Nat.sub_zero, if_true, if_false, Nat.add_sub_cancel, Nat.add_sub_cancel_left, in_in, in_inN, iw_in, rq_in, pw_fold, nt_fold, ask_pw, has_eq, or_0, bt1, Bool.true_eq_false, Bool.false_eq_true, p2])
    exact hz
  · apply h3
    obtain ⟨d0, d1, d2⟩ := rcM hR hk hc
    obtain ⟨x0, x1, x2, x3⟩ := hWr.2.2.2.2 _ (qMem hc)
    by_cases p1 : (qOf (rOf l k) c).1 = at'
    · rw [decide_eq_true p1, Bool.true_and] at hp
      have p2 : bt (qset (qOf (rOf l k) c)) v = true := by simpa using hp
      (try simp (disch := omega) only [String.reduceEq, isRu_1, isRu_61, isGr_3, isSt_0, isSt_6, lg_selfT, isB_0, isB_1, eq_self, true_or, or_true, false_or, or_false, or_self, fa_lit, nI_add, pk_mul, pk_sub, nI_addm, nI_leI, nI_ltI, nI_eqI, vp_inI, ix_nI, forall_eq, true_implies, false_implies, not_true_eq_false, not_false_eq_true, and_true, true_and, false_and, and_false, nle_T, nle_F, nlt_T, nlt_F, neq_T, neq_F, up_rd_s, up_rd_n, up_nc, cpy_nc, cpy_in, cpy_out, cpyOk_T, m1_lt, m1_le, m1_nle, m1_nlt, m1_eq, m1_eq2, m1_0le, Nat.add_zero, Nat.zero_add, Nat.mul_one, Nat.sub_zero, if_true, if_false, Nat.add_sub_cancel, Nat.add_sub_cancel_left, in_in, in_inN, iw_in, rq_in, pw_fold, nt_fold, ask_pw, has_eq, or_0, bt1, Bool.true_eq_false, Bool.false_eq_true, D_X12_of, D_X12_part, b3, d0, p1])
      refine X12_conditionSet hR hW hk hc ?_
      (try simp (disch := omega) only [String.reduceEq, isRu_1, isRu_61, isGr_3, isSt_0, isSt_6, lg_selfT, isB_0, isB_1, eq_self, true_or, or_true, false_or, or_false, or_self, fa_lit, nI_add, pk_mul, pk_sub, nI_addm, nI_leI, nI_ltI, nI_eqI, vp_inI, ix_nI, forall_eq, true_implies, false_implies, not_true_eq_false, not_false_eq_true, and_true, true_and, false_and, and_false, nle_T, nle_F, nlt_T, nlt_F, neq_T, neq_F, up_rd_s, up_rd_n, up_nc, cpy_nc, cpy_in, cpy_out, cpyOk_T, m1_lt, m1_le, m1_nle, m1_nlt, m1_eq, m1_eq2, m1_0le, Nat.add_zero, Nat.zero_add, Nat.mul_one, Nat.sub_zero, if_true, if_false, Nat.add_sub_cancel, Nat.add_sub_cancel_left, in_in, in_inN, iw_in, rq_in, pw_fold, nt_fold, ask_pw, has_eq, or_0, bt1, Bool.true_eq_false, Bool.false_eq_true, p2, bF p2])
      exact hK
    · (try simp (disch := omega) only [String.reduceEq, isRu_1, isRu_61, isGr_3, isSt_0, isSt_6, lg_selfT, isB_0, isB_1, eq_self, true_or, or_true, false_or, or_false, or_self, fa_lit, nI_add, pk_mul, pk_sub, nI_addm, nI_leI, nI_ltI, nI_eqI, vp_inI, ix_nI, forall_eq, true_implies, false_implies, not_true_eq_false, not_false_eq_true, and_true, true_and, false_and, and_false, nle_T, nle_F, nlt_T, nlt_F, neq_T, neq_F, up_rd_s, up_rd_n, up_nc, cpy_nc, cpy_in, cpy_out, cpyOk_T, m1_lt, m1_le, m1_nle, m1_nlt, m1_eq, m1_eq2, m1_0le, Nat.add_zero, Nat.zero_add, Nat.mul_one, Nat.sub_zero, if_true, if_false, Nat.add_sub_cancel, Nat.add_sub_cancel_left, in_in, in_inN, iw_in, rq_in, pw_fold, nt_fold, ask_pw, has_eq, or_0, bt1, Bool.true_eq_false, Bool.false_eq_true, D_X12_of, D_X12_part, b3, d0])
      exact hK
/-- conditions in their cells -/
def CondsAt (f : Nat → Int32) (b : Nat) (l : List mCond) : Prop := ∀ (c : Nat) (q : mCond), l[c]? = some q → f (b + 4 + 3 * c) = nI q.1 ∧ f (b + 4 + 3 * c + 1) = nI q.2.1 ∧ f (b + 4 + 3 * c + 2) = nI q.2.2
theorem CondsAt_snoc {f f' : Nat → Int32} {b : Nat} {l : List mCond} {q : mCond} (h : CondsAt f b l) (h1 : ∀ k, k < b + 4 + 3 * l.length → f' k = f k) (h2 : f' (b + 4 + 3 * l.length) = nI q.1 ∧ f' (b + 4 + 3 * l.length + 1) = nI q.2.1 ∧ f' (b + 4 + 3 * l.length + 2) = nI q.2.2) : CondsAt f' b (l ++ [q]) := by
  intro c v hk
  rcases Nat.lt_or_ge c l.length with e | e
  · rw [List.getElem?_append_left e] at hk
    obtain ⟨a0, a1, a2⟩ := h c v hk
    exact ⟨(h1 _ (by omega)).trans a0, (h1 _ (by omega)).trans a1, (h1 _ (by omega)).trans a2⟩
  · have hlt := (List.getElem?_eq_some_iff.mp hk).1
    rw [List.length_append] at hlt
    have hlt : c < l.length + 1 := hlt
    have : c = l.length := by omega
    subst this
    rw [List.getElem?_append_right (Nat.le_refl _), Nat.sub_self] at hk
    cases hk
    exact h2
def ksp (r : mRule) (at' c : Nat) : List mCond := (r.2.2.2.take c).filter (kpp at')
theorem ksp_S {r : mRule} {at' c : Nat} (hc : c < r.2.2.2.length) : ksp r at' (c + 1) = if (qOf r c).1 = at' then ksp r at' c else ksp r at' c ++ [qOf r c] := by
  unfold ksp
  have e := List.getElem?_eq_getElem hc
  rw [List.take_succ, e, List.filter_append, qOf_eq e]
  show _ ++ List.filter (kpp at') [r.2.2.2[c]] = _
  by_cases q : (r.2.2.2[c]).1 = at'
  · rw [if_pos q, List.filter_cons_of_neg (by unfold kpp; rw [decide_eq_true q]; decide)]
    simp
  · rw [if_neg q, List.filter_cons_of_pos (by unfold kpp; rw [decide_eq_false q]; decide)]
    simp
theorem ksp_le {r : mRule} {at' c : Nat} : (ksp r at' c).length ≤ c := by
  unfold ksp
  refine Nat.le_trans (List.length_filter_le _ _) ?_
  rw [List.length_take]
  omega
theorem ksp_all {r : mRule} {at' : Nat} : ksp r at' r.2.2.2.length = (lose r at').2.2.2 := by
  unfold ksp lose
  rw [List.take_length]
theorem X6_dropOn {l : List mRule} {k at' : Nat} {σ : Sto} {P : Sto → Prop} (hR : RLE l σ) (hW : RW l) (hk : k < l.length) (ha : at' < 6)
    (h : ∀ σ' : Sto, (∀ c, c ≠ 2 → σ' c = σ c) → (∀ j, j < 16 * k ∨ 16 * k + 16 ≤ j → σ' 2 j = σ 2 j) → RuleAt (σ' 2) (16 * k) (lose (rOf l k) at') → P σ') : D_X6_dropConditionsOn 1 (nI k) (nI at') σ P := by
  refine ⟨⟨by decide, by decide⟩, fun K13 h13 => ?_⟩
  have hn := hW.1
  have hWr := hW.2 _ (rMem hk)
  have hc4 := hWr.2.2.2.1
  obtain ⟨b0, b1, b2, b3⟩ := rlE hR hk
  (try simp (disch := omega) only [String.reduceEq, isRu_1, isRu_61, isGr_3, isSt_0, isSt_6, lg_selfT, isB_0, isB_1, eq_self, true_or, or_true, false_or, or_false, or_self, fa_lit, nI_add, pk_mul, pk_sub, nI_addm, nI_leI, nI_ltI, nI_eqI, vp_inI, ix_nI, forall_eq, true_implies, false_implies, not_true_eq_false, not_false_eq_true, and_true, true_and, false_and, and_false, nle_T, nle_F, nlt_T, nlt_F, neq_T, neq_F, up_rd_s, up_rd_n, up_nc, cpy_nc, cpy_in, cpy_out, cpyOk_T, m1_lt, m1_le, m1_nle, m1_nlt, m1_eq, m1_eq2, m1_0le, Nat.add_zero, Nat.zero_add, Nat.mul_one, Nat.sub_zero, if_true, if_false, Nat.add_sub_cancel, Nat.add_sub_cancel_left, in_in, in_inN, iw_in, rq_in, pw_fold, nt_fold, ask_pw, has_eq, or_0, bt1, Bool.true_eq_false, Bool.false_eq_true, D_X6_cell, b3])
  refine lp (rOf l k).2.2.2.length (fun c s => K13 (nI (rOf l k).2.2.2.length) (nI (ksp (rOf l k) at' c).length) (nI c) s) (fun c s => (∀ c, c ≠ 2 → s c = σ c) ∧ (∀ j, j < 16 * k + 4 ∨ 16 * k + 4 + 3 * c ≤ j → s 2 j = σ 2 j) ∧ CondsAt (s 2) (16 * k) (ksp (rOf l k) at' c)) ?_ ?_ σ ⟨fun _ _ => rfl, fun _ _ => rfl, fun c q hq => by cases hq⟩
  · intro s ⟨s1, s2, s3⟩
    apply h13
    have hle := ksp_le (r := rOf l k) (at' := at') (c := (rOf l k).2.2.2.length)
    (try simp (disch := omega) only [String.reduceEq, isRu_1, isRu_61, isGr_3, isSt_0, isSt_6, lg_selfT, isB_0, isB_1, eq_self, true_or, or_true, false_or, or_false, or_self, fa_lit, nI_add, pk_mul, pk_sub, nI_addm, nI_leI, nI_ltI, nI_eqI, vp_inI, ix_nI, forall_eq, true_implies, false_implies, not_true_eq_false, not_false_eq_true, and_true, true_and, false_and, and_false, nle_T, nle_F, nlt_T, nlt_F, neq_T, neq_F, up_rd_s, up_rd_n, up_nc, cpy_nc, cpy_in, cpy_out, cpyOk_T, m1_lt, m1_le, m1_nle, m1_nlt, m1_eq, m1_eq2, m1_0le, Nat.add_zero, Nat.zero_add, Nat.mul_one, Nat.sub_zero, if_true, if_false, Nat.add_sub_cancel, Nat.add_sub_cancel_left, in_in, in_inN, iw_in, rq_in, pw_fold, nt_fold, ask_pw, has_eq, or_0, bt1, Bool.true_eq_false, Bool.false_eq_true])
    refine h _ (fun c hc => by (try simp (disch := omega) only [String.reduceEq, isRu_1, isRu_61, isGr_3, isSt_0, isSt_6, lg_selfT, isB_0, isB_1, eq_self, true_or, or_true, false_or, or_false, or_self, fa_lit, nI_add, pk_mul, pk_sub, nI_addm, nI_leI, nI_ltI, nI_eqI, vp_inI, ix_nI, forall_eq, true_implies, false_implies, not_true_eq_false, not_false_eq_true, and_true, true_and, false_and, and_false, nle_T, nle_F, nlt_T, nlt_F, neq_T, neq_F, up_rd_s, up_rd_n, up_nc, cpy_nc, cpy_in, cpy_out, cpyOk_T, m1_lt, m1_le, m1_nle, m1_nlt, m1_eq, m1_eq2, m1_0le, Nat.add_zero, Nat.zero_add, Nat.mul_one, Nat.sub_zero, if_true, if_false, Nat.add_sub_cancel, Nat.add_sub_cancel_left, in_in, in_inN, iw_in, rq_in, pw_fold, nt_fold, ask_pw, has_eq, or_0, bt1, Bool.true_eq_false, Bool.false_eq_true]); exact s1 c hc) (fun j hj => by (try simp (disch := omega) only [String.reduceEq, isRu_1, isRu_61, isGr_3, isSt_0, isSt_6, lg_selfT, isB_0, isB_1, eq_self, true_or, or_true, false_or, or_false, or_self, fa_lit, nI_add, pk_mul, pk_sub, nI_addm, nI_leI, nI_ltI, nI_eqI, vp_inI, ix_nI, forall_eq, true_implies, false_implies, not_true_eq_false, not_false_eq_true, and_true, true_and, false_and, and_false, nle_T, nle_F, nlt_T, nlt_F, neq_T, neq_F, up_rd_s, up_rd_n, up_nc, cpy_nc, cpy_in, cpy_out, cpyOk_T, m1_lt, m1_le, m1_nle, m1_nlt, m1_eq, m1_eq2, m1_0le, Nat.add_zero, Nat.zero_add, Nat.mul_one, Nat.sub_zero, if_true, if_false, Nat.add_sub_cancel, Nat.add_sub_cancel_left, in_in, in_inN, iw_in, rq_in, pw_fold, nt_fold, ask_pw, has_eq, or_0, bt1, Bool.true_eq_false, Bool.false_eq_true]); exact s2 j (by omega)) ?_
    rw [ksp_all] at s3 hle ⊢
    refine ⟨?_, ?_, ?_, ?_, fun c q hq => ?_⟩
    · (try simp (disch := omega) only [String.reduceEq, isRu_1, isRu_61, isGr_3, isSt_0, isSt_6, lg_selfT, isB_0, isB_1, eq_self, true_or, or_true, false_or, or_false, or_self, fa_lit, nI_add, pk_mul, pk_sub, nI_addm, nI_leI, nI_ltI, nI_eqI, vp_inI, ix_nI, forall_eq, true_implies, false_implies, not_true_eq_false, not_false_eq_true, and_true, true_and, false_and, and_false, nle_T, nle_F, nlt_T, nlt_F, neq_T, neq_F, up_rd_s, up_rd_n, up_nc, cpy_nc, cpy_in, cpy_out, cpyOk_T, m1_lt, m1_le, m1_nle, m1_nlt, m1_eq, m1_eq2, m1_0le, Nat.add_zero, Nat.zero_add, Nat.mul_one, Nat.sub_zero, if_true, if_false, Nat.add_sub_cancel, Nat.add_sub_cancel_left, in_in, in_inN, iw_in, rq_in, pw_fold, nt_fold, ask_pw, has_eq, or_0, bt1, Bool.true_eq_false, Bool.false_eq_true]); rw [s2 _ (by omega), Nat.mul_comm]; exact b0
    · (try simp (disch := omega) only [String.reduceEq, isRu_1, isRu_61, isGr_3, isSt_0, isSt_6, lg_selfT, isB_0, isB_1, eq_self, true_or, or_true, false_or, or_false, or_self, fa_lit, nI_add, pk_mul, pk_sub, nI_addm, nI_leI, nI_ltI, nI_eqI, vp_inI, ix_nI, forall_eq, true_implies, false_implies, not_true_eq_false, not_false_eq_true, and_true, true_and, false_and, and_false, nle_T, nle_F, nlt_T, nlt_F, neq_T, neq_F, up_rd_s, up_rd_n, up_nc, cpy_nc, cpy_in, cpy_out, cpyOk_T, m1_lt, m1_le, m1_nle, m1_nlt, m1_eq, m1_eq2, m1_0le, Nat.add_zero, Nat.zero_add, Nat.mul_one, Nat.sub_zero, if_true, if_false, Nat.add_sub_cancel, Nat.add_sub_cancel_left, in_in, in_inN, iw_in, rq_in, pw_fold, nt_fold, ask_pw, has_eq, or_0, bt1, Bool.true_eq_false, Bool.false_eq_true]); rw [s2 _ (by omega), Nat.mul_comm]; exact b1
    · (try simp (disch := omega) only [String.reduceEq, isRu_1, isRu_61, isGr_3, isSt_0, isSt_6, lg_selfT, isB_0, isB_1, eq_self, true_or, or_true, false_or, or_false, or_self, fa_lit, nI_add, pk_mul, pk_sub, nI_addm, nI_leI, nI_ltI, nI_eqI, vp_inI, ix_nI, forall_eq, true_implies, false_implies, not_true_eq_false, not_false_eq_true, and_true, true_and, false_and, and_false, nle_T, nle_F, nlt_T, nlt_F, neq_T, neq_F, up_rd_s, up_rd_n, up_nc, cpy_nc, cpy_in, cpy_out, cpyOk_T, m1_lt, m1_le, m1_nle, m1_nlt, m1_eq, m1_eq2, m1_0le, Nat.add_zero, Nat.zero_add, Nat.mul_one, Nat.sub_zero, if_true, if_false, Nat.add_sub_cancel, Nat.add_sub_cancel_left, in_in, in_inN, iw_in, rq_in, pw_fold, nt_fold, ask_pw, has_eq, or_0, bt1, Bool.true_eq_false, Bool.false_eq_true]); rw [s2 _ (by omega), Nat.mul_comm]; exact b2
    · (try simp (disch := omega) only [String.reduceEq, isRu_1, isRu_61, isGr_3, isSt_0, isSt_6, lg_selfT, isB_0, isB_1, eq_self, true_or, or_true, false_or, or_false, or_self, fa_lit, nI_add, pk_mul, pk_sub, nI_addm, nI_leI, nI_ltI, nI_eqI, vp_inI, ix_nI, forall_eq, true_implies, false_implies, not_true_eq_false, not_false_eq_true, and_true, true_and, false_and, and_false, nle_T, nle_F, nlt_T, nlt_F, neq_T, neq_F, up_rd_s, up_rd_n, up_nc, cpy_nc, cpy_in, cpy_out, cpyOk_T, m1_lt, m1_le, m1_nle, m1_nlt, m1_eq, m1_eq2, m1_0le, Nat.add_zero, Nat.zero_add, Nat.mul_one, Nat.sub_zero, if_true, if_false, Nat.add_sub_cancel, Nat.add_sub_cancel_left, in_in, in_inN, iw_in, rq_in, pw_fold, nt_fold, ask_pw, has_eq, or_0, bt1, Bool.true_eq_false, Bool.false_eq_true])
    · obtain ⟨q0, q1, q2⟩ := s3 c q hq
      exact ⟨by (try simp (disch := omega) only [String.reduceEq, isRu_1, isRu_61, isGr_3, isSt_0, isSt_6, lg_selfT, isB_0, isB_1, eq_self, true_or, or_true, false_or, or_false, or_self, fa_lit, nI_add, pk_mul, pk_sub, nI_addm, nI_leI, nI_ltI, nI_eqI, vp_inI, ix_nI, forall_eq, true_implies, false_implies, not_true_eq_false, not_false_eq_true, and_true, true_and, false_and, and_false, nle_T, nle_F, nlt_T, nlt_F, neq_T, neq_F, up_rd_s, up_rd_n, up_nc, cpy_nc, cpy_in, cpy_out, cpyOk_T, m1_lt, m1_le, m1_nle, m1_nlt, m1_eq, m1_eq2, m1_0le, Nat.add_zero, Nat.zero_add, Nat.mul_one, Nat.sub_zero, if_true, if_false, Nat.add_sub_cancel, Nat.add_sub_cancel_left, in_in, in_inN, iw_in, rq_in, pw_fold, nt_fold, ask_pw, has_eq, or_0, bt1, Bool.true_eq_false, Bool.false_eq_true]); exact q0, by (try simp (disch := omega) only [String.reduceEq, isRu_1, isRu_61, isGr_3, isSt_0, isSt_6, lg_selfT, isB_0, isB_1, eq_self, true_or, or_true, false_or, or_false, or_self, fa_lit, nI_add, pk_mul, pk_sub, nI_addm, nI_leI, nI_ltI, nI_eqI, vp_inI, ix_nI, forall_eq, true_implies, false_implies, not_true_eq_false, not_false_eq_true, and_true, true_and, false_and, and_false, nle_T, nle_F, nlt_T, nlt_F, neq_T, neq_F, up_rd_s, up_rd_n, up_nc, cpy_nc, cpy_in, cpy_out, cpyOk_T, m1_lt, m1_le, m1_nle, m1_nlt, m1_eq, m1_eq2, m1_0le, Nat.add_zero, Nat.zero_add, Nat.mul_one, Nat.sub_zero, if_true, if_false, Nat.add_sub_cancel, Nat.add_sub_cancel_left, in_in, in_inN, iw_in, rq_in, pw_fold, nt_fold, ask_pw, has_eq, or_0, bt1, Bool.true_eq_false, Bool.false_eq_true]); exact q1, by (try simp (disch := omega) only [String.reduceEq, isRu_1, isRu_61, isGr_3, isSt_0, isSt_6, lg_selfT, isB_0, isB_1, eq_self, true_or, or_true, false_or, or_false, or_self, fa_lit, nI_add, pk_mul, pk_sub, nI_addm, nI_leI, nI_ltI, nI_eqI, vp_inI, ix_nI, forall_eq, true_implies, false_implies, not_true_eq_false, not_false_eq_true, and_true, true_and, false_and, and_false, nle_T, nle_F, nlt_T, nlt_F, neq_T, neq_F, up_rd_s, up_rd_n, up_nc, cpy_nc, cpy_in, cpy_out, cpyOk_T, m1_lt, m1_le, m1_nle, m1_nlt, m1_eq, m1_eq2, m1_0le, Nat.add_zero, Nat.zero_add, Nat.mul_one, Nat.sub_zero, if_true, if_false, Nat.add_sub_cancel, Nat.add_sub_cancel_left, in_in, in_inN, iw_in, rq_in, pw_fold, nt_fold, ask_pw, has_eq, or_0, bt1, Bool.true_eq_false, Bool.false_eq_true]); exact q2⟩
  · intro c s hc ⟨s1, s2, s3⟩ hnext
    apply h13
    have hle := ksp_le (r := rOf l k) (at' := at') (c := c)
    obtain ⟨d0, d1, d2⟩ := rcE hR hk hc
    obtain ⟨x0, x1, x2, x3⟩ := hWr.2.2.2.2 _ (qMem hc)
    have e0 : s 2 (k * 16 + 4 + c * 3) = nI (qOf (rOf l k) c).1 := by rw [s2 _ (by omega)]; exact d0
    have hS := ksp_S (at' := at') hc
    by_cases q : (qOf (rOf l k) c).1 = at'
    · rw [if_pos q] at hS
      rw [hS] at hnext
      (try simp (disch := omega) only [String.reduceEq, isRu_1, isRu_61, isGr_3, isSt_0, isSt_6, lg_selfT, isB_0, isB_1, eq_self, true_or, or_true, false_or, or_false, or_self, fa_lit, nI_add, pk_mul, pk_sub, nI_addm, nI_leI, nI_ltI, nI_eqI, vp_inI, ix_nI, forall_eq, true_implies, false_implies, not_true_eq_false, not_false_eq_true, and_true, true_and, false_and, and_false, nle_T, nle_F, nlt_T, nlt_F, neq_T, neq_F, up_rd_s, up_rd_n, up_nc, cpy_nc, cpy_in, cpy_out, cpyOk_T, m1_lt, m1_le, m1_nle, m1_nlt, m1_eq, m1_eq2, m1_0le, Nat.add_zero, Nat.zero_add, Nat.mul_one, Nat.sub_zero, if_true, if_false, Nat.add_sub_cancel, Nat.add_sub_cancel_left, in_in, in_inN, iw_in, rq_in, pw_fold, nt_fold, ask_pw, has_eq, or_0, bt1, Bool.true_eq_false, Bool.false_eq_true, D_X6_conditionCell, D_X6_conditionStart, e0, q])
      exact hnext s ⟨s1, fun j hj => s2 j (by omega), s3⟩
    · rw [if_neg q] at hS
      rw [hS] at hnext
      (try simp (disch := omega) only [String.reduceEq, isRu_1, isRu_61, isGr_3, isSt_0, isSt_6, lg_selfT, isB_0, isB_1, eq_self, true_or, or_true, false_or, or_false, or_self, fa_lit, nI_add, pk_mul, pk_sub, nI_addm, nI_leI, nI_ltI, nI_eqI, vp_inI, ix_nI, forall_eq, true_implies, false_implies, not_true_eq_false, not_false_eq_true, and_true, true_and, false_and, and_false, nle_T, nle_F, nlt_T, nlt_F, neq_T, neq_F, up_rd_s, up_rd_n, up_nc, cpy_nc, cpy_in, cpy_out, cpyOk_T, m1_lt, m1_le, m1_nle, m1_nlt, m1_eq, m1_eq2, m1_0le, Nat.add_zero, Nat.zero_add, Nat.mul_one, Nat.sub_zero, if_true, if_false, Nat.add_sub_cancel, Nat.add_sub_cancel_left, in_in, in_inN, iw_in, rq_in, pw_fold, nt_fold, ask_pw, has_eq, or_0, bt1, Bool.true_eq_false, Bool.false_eq_true, D_X6_conditionCell, D_X6_conditionStart, e0])
      have hln : (ksp (rOf l k) at' c ++ [qOf (rOf l k) c]).length = (ksp (rOf l k) at' c).length + 1 := by rw [List.length_append]; rfl
      rw [hln] at hnext
      refine hnext _ ⟨fun c hc => by (try simp (disch := omega) only [String.reduceEq, isRu_1, isRu_61, isGr_3, isSt_0, isSt_6, lg_selfT, isB_0, isB_1, eq_self, true_or, or_true, false_or, or_false, or_self, fa_lit, nI_add, pk_mul, pk_sub, nI_addm, nI_leI, nI_ltI, nI_eqI, vp_inI, ix_nI, forall_eq, true_implies, false_implies, not_true_eq_false, not_false_eq_true, and_true, true_and, false_and, and_false, nle_T, nle_F, nlt_T, nlt_F, neq_T, neq_F, up_rd_s, up_rd_n, up_nc, cpy_nc, cpy_in, cpy_out, cpyOk_T, m1_lt, m1_le, m1_nle, m1_nlt, m1_eq, m1_eq2, m1_0le, Nat.add_zero, Nat.zero_add, Nat.mul_one, Nat.sub_zero, if_true, if_false, Nat.add_sub_cancel, Nat.add_sub_cancel_left, in_in, in_inN, iw_in, rq_in, pw_fold, nt_fold, ask_pw, has_eq, or_0, bt1, Bool.true_eq_false, Bool.false_eq_true]); exact s1 c hc, fun j hj => ?_, CondsAt_snoc s3 (fun j hj => ?_) ⟨?_, ?_, ?_⟩⟩
      · (try simp (disch := omega) only [String.reduceEq, isRu_1, isRu_61, isGr_3, isSt_0, isSt_6, lg_selfT, isB_0, isB_1, eq_self, true_or, or_true, false_or, or_false, or_self, fa_lit, nI_add, pk_mul, pk_sub, nI_addm, nI_leI, nI_ltI, nI_eqI, vp_inI, ix_nI, forall_eq, true_implies, false_implies, not_true_eq_false, not_false_eq_true, and_true, true_and, false_and, and_false, nle_T, nle_F, nlt_T, nlt_F, neq_T, neq_F, up_rd_s, up_rd_n, up_nc, cpy_nc, cpy_in, cpy_out, cpyOk_T, m1_lt, m1_le, m1_nle, m1_nlt, m1_eq, m1_eq2, m1_0le, Nat.add_zero, Nat.zero_add, Nat.mul_one, Nat.sub_zero, if_true, if_false, Nat.add_sub_cancel, Nat.add_sub_cancel_left, in_in, in_inN, iw_in, rq_in, pw_fold, nt_fold, ask_pw, has_eq, or_0, bt1, Bool.true_eq_false, Bool.false_eq_true])
        exact s2 j (by omega)
      · (try simp (disch := omega) only [String.reduceEq, isRu_1, isRu_61, isGr_3, isSt_0, isSt_6, lg_selfT, isB_0, isB_1, eq_self, true_or, or_true, false_or, or_false, or_self, fa_lit, nI_add, pk_mul, pk_sub, nI_addm, nI_leI, nI_ltI, nI_eqI, vp_inI, ix_nI, forall_eq, true_implies, false_implies, not_true_eq_false, not_false_eq_true, and_true, true_and, false_and, and_false, nle_T, nle_F, nlt_T, nlt_F, neq_T, neq_F, up_rd_s, up_rd_n, up_nc, cpy_nc, cpy_in, cpy_out, cpyOk_T, m1_lt, m1_le, m1_nle, m1_nlt, m1_eq, m1_eq2, m1_0le, Nat.add_zero, Nat.zero_add, Nat.mul_one, Nat.sub_zero, if_true, if_false, Nat.add_sub_cancel, Nat.add_sub_cancel_left, in_in, in_inN, iw_in, rq_in, pw_fold, nt_fold, ask_pw, has_eq, or_0, bt1, Bool.true_eq_false, Bool.false_eq_true])
      · (try simp (disch := omega) only [String.reduceEq, isRu_1, isRu_61, isGr_3, isSt_0, isSt_6, lg_selfT, isB_0, isB_1, eq_self, true_or, or_true, false_or, or_false, or_self, fa_lit, nI_add, pk_mul, pk_sub, nI_addm, nI_leI, nI_ltI, nI_eqI, vp_inI, ix_nI, forall_eq, true_implies, false_implies, not_true_eq_false, not_false_eq_true, and_true, true_and, false_and, and_false, nle_T, nle_F, nlt_T, nlt_F, neq_T, neq_F, up_rd_s, up_rd_n, up_nc, cpy_nc, cpy_in, cpy_out, cpyOk_T, m1_lt, m1_le, m1_nle, m1_nlt, m1_eq, m1_eq2, m1_0le, Nat.add_zero, Nat.zero_add, Nat.mul_one, Nat.sub_zero, if_true, if_false, Nat.add_sub_cancel, Nat.add_sub_cancel_left, in_in, in_inN, iw_in, rq_in, pw_fold, nt_fold, ask_pw, has_eq, or_0, bt1, Bool.true_eq_false, Bool.false_eq_true])
        rw [s2 _ (by omega)]
        exact (fcg (f := σ 2) (by omega)).trans d0
      · (try simp (disch := omega) only [String.reduceEq, isRu_1, isRu_61, isGr_3, isSt_0, isSt_6, lg_selfT, isB_0, isB_1, eq_self, true_or, or_true, false_or, or_false, or_self, fa_lit, nI_add, pk_mul, pk_sub, nI_addm, nI_leI, nI_ltI, nI_eqI, vp_inI, ix_nI, forall_eq, true_implies, false_implies, not_true_eq_false, not_false_eq_true, and_true, true_and, false_and, and_false, nle_T, nle_F, nlt_T, nlt_F, neq_T, neq_F, up_rd_s, up_rd_n, up_nc, cpy_nc, cpy_in, cpy_out, cpyOk_T, m1_lt, m1_le, m1_nle, m1_nlt, m1_eq, m1_eq2, m1_0le, Nat.add_zero, Nat.zero_add, Nat.mul_one, Nat.sub_zero, if_true, if_false, Nat.add_sub_cancel, Nat.add_sub_cancel_left, in_in, in_inN, iw_in, rq_in, pw_fold, nt_fold, ask_pw, has_eq, or_0, bt1, Bool.true_eq_false, Bool.false_eq_true])
        rw [s2 _ (by omega)]
        exact (fcg (f := σ 2) (by omega)).trans d1
      · (try simp (disch := omega) only [String.reduceEq, isRu_1, isRu_61, isGr_3, isSt_0, isSt_6, lg_selfT, isB_0, isB_1, eq_self, true_or, or_true, false_or, or_false, or_self, fa_lit, nI_add, pk_mul, pk_sub, nI_addm, nI_leI, nI_ltI, nI_eqI, vp_inI, ix_nI, forall_eq, true_implies, false_implies, not_true_eq_false, not_false_eq_true, and_true, true_and, false_and, and_false, nle_T, nle_F, nlt_T, nlt_F, neq_T, neq_F, up_rd_s, up_rd_n, up_nc, cpy_nc, cpy_in, cpy_out, cpyOk_T, m1_lt, m1_le, m1_nle, m1_nlt, m1_eq, m1_eq2, m1_0le, Nat.add_zero, Nat.zero_add, Nat.mul_one, Nat.sub_zero, if_true, if_false, Nat.add_sub_cancel, Nat.add_sub_cancel_left, in_in, in_inN, iw_in, rq_in, pw_fold, nt_fold, ask_pw, has_eq, or_0, bt1, Bool.true_eq_false, Bool.false_eq_true])
        rw [s2 _ (by omega)]
        exact (fcg (f := σ 2) (by omega)).trans d2
theorem X12_loses {l : List mRule} {k at' : Nat} {σ : Sto} {P : Sto → Prop} (hR : RLM l σ) (hW : RW l) (hk : k < l.length) (ha : at' < 6)
    (h : ∀ σ' : Sto, (∀ c, c ≠ 88 → σ' c = σ c) → (∀ j, j < 10 + 16 * k ∨ 10 + 16 * k + 16 ≤ j → σ' 88 j = σ 88 j) → RuleAt (fun j => σ' 88 (10 + j)) (16 * k) (lose (rOf l k) at') → P σ') : D_X12_loses (nI k) (nI at') σ P := by
  intro K5 K34 h5 h34
  have hn := hW.1
  have hWr := hW.2 _ (rMem hk)
  have hc4 := hWr.2.2.2.1
  obtain ⟨b0, b1, b2, b3⟩ := rlM hR hk
  refine lp (rOf l k).2.2.2.length (fun c s => K5 (nI (ksp (rOf l k) at' c).length) (nI c) s) (fun c s => (∀ c, c ≠ 88 → s c = σ c) ∧ (∀ j, j < 10 + 16 * k + 4 ∨ 10 + 16 * k + 4 + 3 * c ≤ j → s 88 j = σ 88 j) ∧ CondsAt (fun j => s 88 (10 + j)) (16 * k) (ksp (rOf l k) at' c)) ?_ ?_ σ ⟨fun _ _ => rfl, fun _ _ => rfl, fun c q hq => by cases hq⟩
  · intro s ⟨s1, s2, s3⟩
    apply h5
    have hle := ksp_le (r := rOf l k) (at' := at') (c := (rOf l k).2.2.2.length)
    have e3 : s 88 (10 + 16 * k + 3) = nI (rOf l k).2.2.2.length := by rw [s2 _ (by omega)]; exact b3
    (try simp (disch := omega) only [String.reduceEq, isRu_1, isRu_61, isGr_3, isSt_0, isSt_6, lg_selfT, isB_0, isB_1, eq_self, true_or, or_true, false_or, or_false, or_self, fa_lit, nI_add, pk_mul, pk_sub, nI_addm, nI_leI, nI_ltI, nI_eqI, vp_inI, ix_nI, forall_eq, true_implies, false_implies, not_true_eq_false, not_false_eq_true, and_true, true_and, false_and, and_false, nle_T, nle_F, nlt_T, nlt_F, neq_T, neq_F, up_rd_s, up_rd_n, up_nc, cpy_nc, cpy_in, cpy_out, cpyOk_T, m1_lt, m1_le, m1_nle, m1_nlt, m1_eq, m1_eq2, m1_0le, Nat.add_zero, Nat.zero_add, Nat.mul_one, Nat.sub_zero, if_true, if_false, Nat.add_sub_cancel, Nat.add_sub_cancel_left, in_in, in_inN, iw_in, rq_in, pw_fold, nt_fold, ask_pw, has_eq, or_0, bt1, Bool.true_eq_false, Bool.false_eq_true, D_X12_of, e3])
    refine h _ (fun c hc => by (try simp (disch := omega) only [String.reduceEq, isRu_1, isRu_61, isGr_3, isSt_0, isSt_6, lg_selfT, isB_0, isB_1, eq_self, true_or, or_true, false_or, or_false, or_self, fa_lit, nI_add, pk_mul, pk_sub, nI_addm, nI_leI, nI_ltI, nI_eqI, vp_inI, ix_nI, forall_eq, true_implies, false_implies, not_true_eq_false, not_false_eq_true, and_true, true_and, false_and, and_false, nle_T, nle_F, nlt_T, nlt_F, neq_T, neq_F, up_rd_s, up_rd_n, up_nc, cpy_nc, cpy_in, cpy_out, cpyOk_T, m1_lt, m1_le, m1_nle, m1_nlt, m1_eq, m1_eq2, m1_0le, Nat.add_zero, Nat.zero_add, Nat.mul_one, Nat.sub_zero, if_true, if_false, Nat.add_sub_cancel, Nat.add_sub_cancel_left, in_in, in_inN, iw_in, rq_in, pw_fold, nt_fold, ask_pw, has_eq, or_0, bt1, Bool.true_eq_false, Bool.false_eq_true]); exact s1 c hc) (fun j hj => by (try simp (disch := omega) only [String.reduceEq, isRu_1, isRu_61, isGr_3, isSt_0, isSt_6, lg_selfT, isB_0, isB_1, eq_self, true_or, or_true, false_or, or_false, or_self, fa_lit, nI_add, pk_mul, pk_sub, nI_addm, nI_leI, nI_ltI, nI_eqI, vp_inI, ix_nI, forall_eq, true_implies, false_implies, not_true_eq_false, not_false_eq_true, and_true, true_and, false_and, and_false, nle_T, nle_F, nlt_T, nlt_F, neq_T, neq_F, up_rd_s, up_rd_n, up_nc, cpy_nc, cpy_in, cpy_out, cpyOk_T, m1_lt, m1_le, m1_nle, m1_nlt, m1_eq, m1_eq2, m1_0le, Nat.add_zero, Nat.zero_add, Nat.mul_one, Nat.sub_zero, if_true, if_false, Nat.add_sub_cancel, Nat.add_sub_cancel_left, in_in, in_inN, iw_in, rq_in, pw_fold, nt_fold, ask_pw, has_eq, or_0, bt1, Bool.true_eq_false, Bool.false_eq_true]); exact s2 j (by omega)) ?_
    rw [ksp_all] at s3 hle ⊢
    refine ⟨?_, ?_, ?_, ?_, fun c q hq => ?_⟩
    · (try simp (disch := omega) only [String.reduceEq, isRu_1, isRu_61, isGr_3, isSt_0, isSt_6, lg_selfT, isB_0, isB_1, eq_self, true_or, or_true, false_or, or_false, or_self, fa_lit, nI_add, pk_mul, pk_sub, nI_addm, nI_leI, nI_ltI, nI_eqI, vp_inI, ix_nI, forall_eq, true_implies, false_implies, not_true_eq_false, not_false_eq_true, and_true, true_and, false_and, and_false, nle_T, nle_F, nlt_T, nlt_F, neq_T, neq_F, up_rd_s, up_rd_n, up_nc, cpy_nc, cpy_in, cpy_out, cpyOk_T, m1_lt, m1_le, m1_nle, m1_nlt, m1_eq, m1_eq2, m1_0le, Nat.add_zero, Nat.zero_add, Nat.mul_one, Nat.sub_zero, if_true, if_false, Nat.add_sub_cancel, Nat.add_sub_cancel_left, in_in, in_inN, iw_in, rq_in, pw_fold, nt_fold, ask_pw, has_eq, or_0, bt1, Bool.true_eq_false, Bool.false_eq_true]); rw [s2 _ (by omega)]; exact b0
    · (try simp (disch := omega) only [String.reduceEq, isRu_1, isRu_61, isGr_3, isSt_0, isSt_6, lg_selfT, isB_0, isB_1, eq_self, true_or, or_true, false_or, or_false, or_self, fa_lit, nI_add, pk_mul, pk_sub, nI_addm, nI_leI, nI_ltI, nI_eqI, vp_inI, ix_nI, forall_eq, true_implies, false_implies, not_true_eq_false, not_false_eq_true, and_true, true_and, false_and, and_false, nle_T, nle_F, nlt_T, nlt_F, neq_T, neq_F, up_rd_s, up_rd_n, up_nc, cpy_nc, cpy_in, cpy_out, cpyOk_T, m1_lt, m1_le, m1_nle, m1_nlt, m1_eq, m1_eq2, m1_0le, Nat.add_zero, Nat.zero_add, Nat.mul_one, Nat.sub_zero, if_true, if_false, Nat.add_sub_cancel, Nat.add_sub_cancel_left, in_in, in_inN, iw_in, rq_in, pw_fold, nt_fold, ask_pw, has_eq, or_0, bt1, Bool.true_eq_false, Bool.false_eq_true]); rw [s2 _ (by omega)]; exact b1
    · (try simp (disch := omega) only [String.reduceEq, isRu_1, isRu_61, isGr_3, isSt_0, isSt_6, lg_selfT, isB_0, isB_1, eq_self, true_or, or_true, false_or, or_false, or_self, fa_lit, nI_add, pk_mul, pk_sub, nI_addm, nI_leI, nI_ltI, nI_eqI, vp_inI, ix_nI, forall_eq, true_implies, false_implies, not_true_eq_false, not_false_eq_true, and_true, true_and, false_and, and_false, nle_T, nle_F, nlt_T, nlt_F, neq_T, neq_F, up_rd_s, up_rd_n, up_nc, cpy_nc, cpy_in, cpy_out, cpyOk_T, m1_lt, m1_le, m1_nle, m1_nlt, m1_eq, m1_eq2, m1_0le, Nat.add_zero, Nat.zero_add, Nat.mul_one, Nat.sub_zero, if_true, if_false, Nat.add_sub_cancel, Nat.add_sub_cancel_left, in_in, in_inN, iw_in, rq_in, pw_fold, nt_fold, ask_pw, has_eq, or_0, bt1, Bool.true_eq_false, Bool.false_eq_true]); rw [s2 _ (by omega)]; exact b2
    · (try simp (disch := omega) only [String.reduceEq, isRu_1, isRu_61, isGr_3, isSt_0, isSt_6, lg_selfT, isB_0, isB_1, eq_self, true_or, or_true, false_or, or_false, or_self, fa_lit, nI_add, pk_mul, pk_sub, nI_addm, nI_leI, nI_ltI, nI_eqI, vp_inI, ix_nI, forall_eq, true_implies, false_implies, not_true_eq_false, not_false_eq_true, and_true, true_and, false_and, and_false, nle_T, nle_F, nlt_T, nlt_F, neq_T, neq_F, up_rd_s, up_rd_n, up_nc, cpy_nc, cpy_in, cpy_out, cpyOk_T, m1_lt, m1_le, m1_nle, m1_nlt, m1_eq, m1_eq2, m1_0le, Nat.add_zero, Nat.zero_add, Nat.mul_one, Nat.sub_zero, if_true, if_false, Nat.add_sub_cancel, Nat.add_sub_cancel_left, in_in, in_inN, iw_in, rq_in, pw_fold, nt_fold, ask_pw, has_eq, or_0, bt1, Bool.true_eq_false, Bool.false_eq_true])
    · obtain ⟨q0, q1, q2⟩ := s3 c q hq
      exact ⟨by (try simp (disch := omega) only [String.reduceEq, isRu_1, isRu_61, isGr_3, isSt_0, isSt_6, lg_selfT, isB_0, isB_1, eq_self, true_or, or_true, false_or, or_false, or_self, fa_lit, nI_add, pk_mul, pk_sub, nI_addm, nI_leI, nI_ltI, nI_eqI, vp_inI, ix_nI, forall_eq, true_implies, false_implies, not_true_eq_false, not_false_eq_true, and_true, true_and, false_and, and_false, nle_T, nle_F, nlt_T, nlt_F, neq_T, neq_F, up_rd_s, up_rd_n, up_nc, cpy_nc, cpy_in, cpy_out, cpyOk_T, m1_lt, m1_le, m1_nle, m1_nlt, m1_eq, m1_eq2, m1_0le, Nat.add_zero, Nat.zero_add, Nat.mul_one, Nat.sub_zero, if_true, if_false, Nat.add_sub_cancel, Nat.add_sub_cancel_left, in_in, in_inN, iw_in, rq_in, pw_fold, nt_fold, ask_pw, has_eq, or_0, bt1, Bool.true_eq_false, Bool.false_eq_true]); exact q0, by (try simp (disch := omega) only [String.reduceEq, isRu_1, isRu_61, isGr_3, isSt_0, isSt_6, lg_selfT, isB_0, isB_1, eq_self, true_or, or_true, false_or, or_false, or_self, fa_lit, nI_add, pk_mul, pk_sub, nI_addm, nI_leI, nI_ltI, nI_eqI, vp_inI, ix_nI, forall_eq, true_implies, false_implies, not_true_eq_false, not_false_eq_true, and_true, true_and, false_and, and_false, nle_T, nle_F, nlt_T, nlt_F, neq_T, neq_F, up_rd_s, up_rd_n, up_nc, cpy_nc, cpy_in, cpy_out, cpyOk_T, m1_lt, m1_le, m1_nle, m1_nlt, m1_eq, m1_eq2, m1_0le, Nat.add_zero, Nat.zero_add, Nat.mul_one, Nat.sub_zero, if_true, if_false, Nat.add_sub_cancel, Nat.add_sub_cancel_left, in_in, in_inN, iw_in, rq_in, pw_fold, nt_fold, ask_pw, has_eq, or_0, bt1, Bool.true_eq_false, Bool.false_eq_true]); exact q1, by (try simp (disch := omega) only [String.reduceEq, isRu_1, isRu_61, isGr_3, isSt_0, isSt_6, lg_selfT, isB_0, isB_1, eq_self, true_or, or_true, false_or, or_false, or_self, fa_lit, nI_add, pk_mul, pk_sub, nI_addm, nI_leI, nI_ltI, nI_eqI, vp_inI, ix_nI, forall_eq, true_implies, false_implies, not_true_eq_false, not_false_eq_true, and_true, true_and, false_and, and_false, nle_T, nle_F, nlt_T, nlt_F, neq_T, neq_F, up_rd_s, up_rd_n, up_nc, cpy_nc, cpy_in, cpy_out, cpyOk_T, m1_lt, m1_le, m1_nle, m1_nlt, m1_eq, m1_eq2, m1_0le, Nat.add_zero, Nat.zero_add, Nat.mul_one, Nat.sub_zero, if_true, if_false, Nat.add_sub_cancel, Nat.add_sub_cancel_left, in_in, in_inN, iw_in, rq_in, pw_fold, nt_fold, ask_pw, has_eq, or_0, bt1, Bool.true_eq_false, Bool.false_eq_true]); exact q2⟩
  · intro c s hc ⟨s1, s2, s3⟩ hnext
    apply h5
    have hle := ksp_le (r := rOf l k) (at' := at') (c := c)
    obtain ⟨d0, d1, d2⟩ := rcM hR hk hc
    obtain ⟨x0, x1, x2, x3⟩ := hWr.2.2.2.2 _ (qMem hc)
    have e3 : s 88 (10 + 16 * k + 3) = nI (rOf l k).2.2.2.length := by rw [s2 _ (by omega)]; exact b3
    have e0 : s 88 (10 + 16 * k + 4 + 3 * c) = nI (qOf (rOf l k) c).1 := by rw [s2 _ (by omega)]; exact d0
    have hS := ksp_S (at' := at') hc
    by_cases q : (qOf (rOf l k) c).1 = at'
    · rw [if_pos q] at hS
      rw [hS] at hnext
      (try simp (disch := omega) only [String.reduceEq, isRu_1, isRu_61, isGr_3, isSt_0, isSt_6, lg_selfT, isB_0, isB_1, eq_self, true_or, or_true, false_or, or_false, or_self, fa_lit, nI_add, pk_mul, pk_sub, nI_addm, nI_leI, nI_ltI, nI_eqI, vp_inI, ix_nI, forall_eq, true_implies, false_implies, not_true_eq_false, not_false_eq_true, and_true, true_and, false_and, and_false, nle_T, nle_F, nlt_T, nlt_F, neq_T, neq_F, up_rd_s, up_rd_n, up_nc, cpy_nc, cpy_in, cpy_out, cpyOk_T, m1_lt, m1_le, m1_nle, m1_nlt, m1_eq, m1_eq2, m1_0le, Nat.add_zero, Nat.zero_add, Nat.mul_one, Nat.sub_zero, if_true, if_false, Nat.add_sub_cancel, Nat.add_sub_cancel_left, in_in, in_inN, iw_in, rq_in, pw_fold, nt_fold, ask_pw, has_eq, or_0, bt1, Bool.true_eq_false, Bool.false_eq_true, D_X12_of, D_X12_part, e3, e0, q])
      exact hnext s ⟨s1, fun j hj => s2 j (by omega), s3⟩
    · rw [if_neg q] at hS
      rw [hS] at hnext
      (try simp (disch := omega) only [String.reduceEq, isRu_1, isRu_61, isGr_3, isSt_0, isSt_6, lg_selfT, isB_0, isB_1, eq_self, true_or, or_true, false_or, or_false, or_self, fa_lit, nI_add, pk_mul, pk_sub, nI_addm, nI_leI, nI_ltI, nI_eqI, vp_inI, ix_nI, forall_eq, true_implies, false_implies, not_true_eq_false, not_false_eq_true, and_true, true_and, false_and, and_false, nle_T, nle_F, nlt_T, nlt_F, neq_T, neq_F, up_rd_s, up_rd_n, up_nc, cpy_nc, cpy_in, cpy_out, cpyOk_T, m1_lt, m1_le, m1_nle, m1_nlt, m1_eq, m1_eq2, m1_0le, Nat.add_zero, Nat.zero_add, Nat.mul_one, Nat.sub_zero, if_true, if_false, Nat.add_sub_cancel, Nat.add_sub_cancel_left, in_in, in_inN, iw_in, rq_in, pw_fold, nt_fold, ask_pw, has_eq, or_0, bt1, Bool.true_eq_false, Bool.false_eq_true, D_X12_of, D_X12_part, e3, e0])
      have hln : (ksp (rOf l k) at' c ++ [qOf (rOf l k) c]).length = (ksp (rOf l k) at' c).length + 1 := by rw [List.length_append]; rfl
      rw [hln] at hnext
      refine lp 3 (fun i t => K34 (nI (ksp (rOf l k) at' c).length) (nI c) (nI i) t) (fun i t => (∀ c, c ≠ 88 → t c = s c) ∧ ∀ j, t 88 j = if 10 + 16 * k + 4 + 3 * (ksp (rOf l k) at' c).length ≤ j ∧ j < 10 + 16 * k + 4 + 3 * (ksp (rOf l k) at' c).length + i then σ 88 (10 + 16 * k + 4 + 3 * c + (j - (10 + 16 * k + 4 + 3 * (ksp (rOf l k) at' c).length))) else s 88 j) ?_ ?_ s ⟨fun _ _ => rfl, fun j => by rw [if_neg (by omega)]⟩
      · intro t ⟨t1, t2⟩
        apply h34
        (try simp (disch := omega) only [String.reduceEq, isRu_1, isRu_61, isGr_3, isSt_0, isSt_6, lg_selfT, isB_0, isB_1, eq_self, true_or, or_true, false_or, or_false, or_self, fa_lit, nI_add, pk_mul, pk_sub, nI_addm, nI_leI, nI_ltI, nI_eqI, vp_inI, ix_nI, forall_eq, true_implies, false_implies, not_true_eq_false, not_false_eq_true, and_true, true_and, false_and, and_false, nle_T, nle_F, nlt_T, nlt_F, neq_T, neq_F, up_rd_s, up_rd_n, up_nc, cpy_nc, cpy_in, cpy_out, cpyOk_T, m1_lt, m1_le, m1_nle, m1_nlt, m1_eq, m1_eq2, m1_0le, Nat.add_zero, Nat.zero_add, Nat.mul_one, Nat.sub_zero, if_true, if_false, Nat.add_sub_cancel, Nat.add_sub_cancel_left, in_in, in_inN, iw_in, rq_in, pw_fold, nt_fold, ask_pw, has_eq, or_0, bt1, Bool.true_eq_false, Bool.false_eq_true])
        refine hnext t ⟨fun c hc => (t1 c hc).trans (s1 c hc), fun j hj => ?_, CondsAt_snoc s3 (fun j hj => ?_) ⟨?_, ?_, ?_⟩⟩
        · rw [t2, if_neg (by omega)]
          exact s2 j (by omega)
        · show t 88 (10 + j) = s 88 (10 + j)
          rw [t2, if_neg (by omega)]
        · show t 88 _ = _
          rw [t2, if_pos (by omega)]
          exact (fcg (f := σ 88) (by omega)).trans d0
        · show t 88 _ = _
          rw [t2, if_pos (by omega)]
          exact (fcg (f := σ 88) (by omega)).trans d1
        · show t 88 _ = _
          rw [t2, if_pos (by omega)]
          exact (fcg (f := σ 88) (by omega)).trans d2
      · intro i t hi ⟨t1, t2⟩ hnext2
        apply h34
        have eσ : t 88 (10 + 16 * k + 4 + 3 * c + i) = σ 88 (10 + 16 * k + 4 + 3 * c + i) := by
          rw [t2]
          by_cases e : 10 + 16 * k + 4 + 3 * (ksp (rOf l k) at' c).length ≤ 10 + 16 * k + 4 + 3 * c + i ∧ 10 + 16 * k + 4 + 3 * c + i < 10 + 16 * k + 4 + 3 * (ksp (rOf l k) at' c).length + i
          · omega
          · rw [if_neg e]
            exact s2 _ (by omega)
        (try simp (disch := omega) only [String.reduceEq, isRu_1, isRu_61, isGr_3, isSt_0, isSt_6, lg_selfT, isB_0, isB_1, eq_self, true_or, or_true, false_or, or_false, or_self, fa_lit, nI_add, pk_mul, pk_sub, nI_addm, nI_leI, nI_ltI, nI_eqI, vp_inI, ix_nI, forall_eq, true_implies, false_implies, not_true_eq_false, not_false_eq_true, and_true, true_and, false_and, and_false, nle_T, nle_F, nlt_T, nlt_F, neq_T, neq_F, up_rd_s, up_rd_n, up_nc, cpy_nc, cpy_in, cpy_out, cpyOk_T, m1_lt, m1_le, m1_nle, m1_nlt, m1_eq, m1_eq2, m1_0le, Nat.add_zero, Nat.zero_add, Nat.mul_one, Nat.sub_zero, if_true, if_false, Nat.add_sub_cancel, Nat.add_sub_cancel_left, in_in, in_inN, iw_in, rq_in, pw_fold, nt_fold, ask_pw, has_eq, or_0, bt1, Bool.true_eq_false, Bool.false_eq_true, D_X12_part, eσ])
        refine hnext2 _ ⟨fun c hc => by (try simp (disch := omega) only [String.reduceEq, isRu_1, isRu_61, isGr_3, isSt_0, isSt_6, lg_selfT, isB_0, isB_1, eq_self, true_or, or_true, false_or, or_false, or_self, fa_lit, nI_add, pk_mul, pk_sub, nI_addm, nI_leI, nI_ltI, nI_eqI, vp_inI, ix_nI, forall_eq, true_implies, false_implies, not_true_eq_false, not_false_eq_true, and_true, true_and, false_and, and_false, nle_T, nle_F, nlt_T, nlt_F, neq_T, neq_F, up_rd_s, up_rd_n, up_nc, cpy_nc, cpy_in, cpy_out, cpyOk_T, m1_lt, m1_le, m1_nle, m1_nlt, m1_eq, m1_eq2, m1_0le, Nat.add_zero, Nat.zero_add, Nat.mul_one, Nat.sub_zero, if_true, if_false, Nat.add_sub_cancel, Nat.add_sub_cancel_left, in_in, in_inN, iw_in, rq_in, pw_fold, nt_fold, ask_pw, has_eq, or_0, bt1, Bool.true_eq_false, Bool.false_eq_true]); exact t1 c hc, fun j => ?_⟩
        by_cases e : j = 10 + 16 * k + 4 + 3 * (ksp (rOf l k) at' c).length + i
        · subst e
          (try simp (disch := omega) only [String.reduceEq, isRu_1, isRu_61, isGr_3, isSt_0, isSt_6, lg_selfT, isB_0, isB_1, eq_self, true_or, or_true, false_or, or_false, or_self, fa_lit, nI_add, pk_mul, pk_sub, nI_addm, nI_leI, nI_ltI, nI_eqI, vp_inI, ix_nI, forall_eq, true_implies, false_implies, not_true_eq_false, not_false_eq_true, and_true, true_and, false_and, and_false, nle_T, nle_F, nlt_T, nlt_F, neq_T, neq_F, up_rd_s, up_rd_n, up_nc, cpy_nc, cpy_in, cpy_out, cpyOk_T, m1_lt, m1_le, m1_nle, m1_nlt, m1_eq, m1_eq2, m1_0le, Nat.add_zero, Nat.zero_add, Nat.mul_one, Nat.sub_zero, if_true, if_false, Nat.add_sub_cancel, Nat.add_sub_cancel_left, in_in, in_inN, iw_in, rq_in, pw_fold, nt_fold, ask_pw, has_eq, or_0, bt1, Bool.true_eq_false, Bool.false_eq_true])
          first | done | exact fcg (by omega)
        · (try simp (disch := omega) only [String.reduceEq, isRu_1, isRu_61, isGr_3, isSt_0, isSt_6, lg_selfT, isB_0, isB_1, eq_self, true_or, or_true, false_or, or_false, or_self, fa_lit, nI_add, pk_mul, pk_sub, nI_addm, nI_leI, nI_ltI, nI_eqI, vp_inI, ix_nI, forall_eq, true_implies, false_implies, not_true_eq_false, not_false_eq_true, and_true, true_and, false_and, and_false, nle_T, nle_F, nlt_T, nlt_F, neq_T, neq_F, up_rd_s, up_rd_n, up_nc, cpy_nc, cpy_in, cpy_out, cpyOk_T, m1_lt, m1_le, m1_nle, m1_nlt, m1_eq, m1_eq2, m1_0le, Nat.add_zero, Nat.zero_add, Nat.mul_one, Nat.sub_zero, if_true, if_false, Nat.add_sub_cancel, Nat.add_sub_cancel_left, in_in, in_inN, iw_in, rq_in, pw_fold, nt_fold, ask_pw, has_eq, or_0, bt1, Bool.true_eq_false, Bool.false_eq_true, t2 j])
          by_cases e2 : 10 + 16 * k + 4 + 3 * (ksp (rOf l k) at' c).length ≤ j ∧ j < 10 + 16 * k + 4 + 3 * (ksp (rOf l k) at' c).length + i
          · rw [if_pos e2, if_pos (by omega)]
          · rw [if_neg e2, if_neg (by omega)]
theorem X6_drop1 {n k : Nat} {σ : Sto} {P : Sto → Prop} (hn : σ 1 1 = nI n) (hk : k < n) (hb : n ≤ 24)
    (h : ∀ σ' : Sto, (∀ c, c ≠ 1 → c ≠ 2 → σ' c = σ c) → σ' 1 1 = nI (n - 1) → (∀ j, j < 16 * k → σ' 2 j = σ 2 j) → (∀ j, 16 * k ≤ j → j + 16 < 16 * n → σ' 2 j = σ 2 (j + 16)) → P σ') : D_X6_drop 1 (nI k) σ P := by
  unfold D_X6_drop
  (try simp (disch := omega) only [String.reduceEq, isRu_1, isRu_61, isGr_3, isSt_0, isSt_6, lg_selfT, isB_0, isB_1, eq_self, true_or, or_true, false_or, or_false, or_self, fa_lit, nI_add, pk_mul, pk_sub, nI_addm, nI_leI, nI_ltI, nI_eqI, vp_inI, ix_nI, forall_eq, true_implies, false_implies, not_true_eq_false, not_false_eq_true, and_true, true_and, false_and, and_false, nle_T, nle_F, nlt_T, nlt_F, neq_T, neq_F, up_rd_s, up_rd_n, up_nc, cpy_nc, cpy_in, cpy_out, cpyOk_T, m1_lt, m1_le, m1_nle, m1_nlt, m1_eq, m1_eq2, m1_0le, Nat.add_zero, Nat.zero_add, Nat.mul_one, Nat.sub_zero, if_true, if_false, Nat.add_sub_cancel, Nat.add_sub_cancel_left, in_in, in_inN, iw_in, rq_in, pw_fold, nt_fold, ask_pw, has_eq, or_0, bt1, Bool.true_eq_false, Bool.false_eq_true, hn])
  refine h _ (fun c c1 c2 => by (try simp (disch := omega) only [String.reduceEq, isRu_1, isRu_61, isGr_3, isSt_0, isSt_6, lg_selfT, isB_0, isB_1, eq_self, true_or, or_true, false_or, or_false, or_self, fa_lit, nI_add, pk_mul, pk_sub, nI_addm, nI_leI, nI_ltI, nI_eqI, vp_inI, ix_nI, forall_eq, true_implies, false_implies, not_true_eq_false, not_false_eq_true, and_true, true_and, false_and, and_false, nle_T, nle_F, nlt_T, nlt_F, neq_T, neq_F, up_rd_s, up_rd_n, up_nc, cpy_nc, cpy_in, cpy_out, cpyOk_T, m1_lt, m1_le, m1_nle, m1_nlt, m1_eq, m1_eq2, m1_0le, Nat.add_zero, Nat.zero_add, Nat.mul_one, Nat.sub_zero, if_true, if_false, Nat.add_sub_cancel, Nat.add_sub_cancel_left, in_in, in_inN, iw_in, rq_in, pw_fold, nt_fold, ask_pw, has_eq, or_0, bt1, Bool.true_eq_false, Bool.false_eq_true])) (by (try simp (disch := omega) only [String.reduceEq, isRu_1, isRu_61, isGr_3, isSt_0, isSt_6, lg_selfT, isB_0, isB_1, eq_self, true_or, or_true, false_or, or_false, or_self, fa_lit, nI_add, pk_mul, pk_sub, nI_addm, nI_leI, nI_ltI, nI_eqI, vp_inI, ix_nI, forall_eq, true_implies, false_implies, not_true_eq_false, not_false_eq_true, and_true, true_and, false_and, and_false, nle_T, nle_F, nlt_T, nlt_F, neq_T, neq_F, up_rd_s, up_rd_n, up_nc, cpy_nc, cpy_in, cpy_out, cpyOk_T, m1_lt, m1_le, m1_nle, m1_nlt, m1_eq, m1_eq2, m1_0le, Nat.add_zero, Nat.zero_add, Nat.mul_one, Nat.sub_zero, if_true, if_false, Nat.add_sub_cancel, Nat.add_sub_cancel_left, in_in, in_inN, iw_in, rq_in, pw_fold, nt_fold, ask_pw, has_eq, or_0, bt1, Bool.true_eq_false, Bool.false_eq_true])) (fun j hj => by (try simp (disch := omega) only [String.reduceEq, isRu_1, isRu_61, isGr_3, isSt_0, isSt_6, lg_selfT, isB_0, isB_1, eq_self, true_or, or_true, false_or, or_false, or_self, fa_lit, nI_add, pk_mul, pk_sub, nI_addm, nI_leI, nI_ltI, nI_eqI, vp_inI, ix_nI, forall_eq, true_implies, false_implies, not_true_eq_false, not_false_eq_true, and_true, true_and, false_and, and_false, nle_T, nle_F, nlt_T, nlt_F, neq_T, neq_F, up_rd_s, up_rd_n, up_nc, cpy_nc, cpy_in, cpy_out, cpyOk_T, m1_lt, m1_le, m1_nle, m1_nlt, m1_eq, m1_eq2, m1_0le, Nat.add_zero, Nat.zero_add, Nat.mul_one, Nat.sub_zero, if_true, if_false, Nat.add_sub_cancel, Nat.add_sub_cancel_left, in_in, in_inN, iw_in, rq_in, pw_fold, nt_fold, ask_pw, has_eq, or_0, bt1, Bool.true_eq_false, Bool.false_eq_true])) (fun j h1 h2 => ?_)
  (try simp (disch := omega) only [String.reduceEq, isRu_1, isRu_61, isGr_3, isSt_0, isSt_6, lg_selfT, isB_0, isB_1, eq_self, true_or, or_true, false_or, or_false, or_self, fa_lit, nI_add, pk_mul, pk_sub, nI_addm, nI_leI, nI_ltI, nI_eqI, vp_inI, ix_nI, forall_eq, true_implies, false_implies, not_true_eq_false, not_false_eq_true, and_true, true_and, false_and, and_false, nle_T, nle_F, nlt_T, nlt_F, neq_T, neq_F, up_rd_s, up_rd_n, up_nc, cpy_nc, cpy_in, cpy_out, cpyOk_T, m1_lt, m1_le, m1_nle, m1_nlt, m1_eq, m1_eq2, m1_0le, Nat.add_zero, Nat.zero_add, Nat.mul_one, Nat.sub_zero, if_true, if_false, Nat.add_sub_cancel, Nat.add_sub_cancel_left, in_in, in_inN, iw_in, rq_in, pw_fold, nt_fold, ask_pw, has_eq, or_0, bt1, Bool.true_eq_false, Bool.false_eq_true])
  first | done | exact fcg (f := σ 2) (by omega)
theorem X6_narrow {l : List mRule} {at' v : Nat} {σ : Sto} {P : Int32 → Sto → Prop} (hR : RLE l σ) (hW : RW l) (ha : at' < 6) (hv : v < 16)
    (h : ∀ σ' : Sto, (∀ c, c ≠ 1 → c ≠ 2 → σ' c = σ c) → RLE (goR at' v l.length l) σ' → P (nI (l.length - (goR at' v l.length l).length)) σ') : D_X6_narrow 1 (nI at') (nI v) σ P := by
  refine ⟨⟨by decide, by decide⟩, fun K10 h10 => ?_⟩
  have hb := hW.1
  have main : ∀ (k : Nat) (L : List mRule) (s : Sto), k ≤ L.length → L.length ≤ l.length → RW L → RLE L s → (∀ c, c ≠ 1 → c ≠ 2 → s c = σ c) → (∀ s' : Sto, (∀ c, c ≠ 1 → c ≠ 2 → s' c = σ c) → RLE (goR at' v k L) s' → P (nI (l.length - (goR at' v k L).length)) s') → K10 (nI (l.length - L.length)) (nI k - nI 1) s := by
    intro k
    induction k with
    | zero =>
      intro L s h1 h2 h3 h4 h5 hP
      apply h10
      have e : nI 0 - nI 1 < 0 := by decide
      simp only [e, true_implies, not_true_eq_false, false_implies, and_true]
      exact hP s h5 h4
    | succ k ih =>
      intro L s h1 h2 h3 h4 h5 hP
      have hk : k < L.length := by omega
      have hL := h3.1
      rw [pk_sub (by omega), Nat.add_sub_cancel]
      apply h10
      obtain ⟨g1, g2, g3⟩ := stepR_WF (at' := at') (v := v) hk h3
      have hstep : stepR L at' v k = if excl (rOf L k) at' v then L.eraseIdx k else L.set k (lose (rOf L k) at') := rfl
      simp (disch := omega) only [fa_lit, nI_ltI, nlt_F, false_implies, not_false_eq_true, true_implies, true_and]
      refine X6_excludes h4 h3 hk ha hv ?_
      rw [← Int32.sub_eq_add_neg]
      cases hx : excl (rOf L k) at' v with
      | true =>
        rw [hx, if_pos rfl] at hstep
        refine bq_f (by decide) (X6_drop1 h4.2 hk hL (fun t t1 t2 t3 t4 => ?_))
        have hl2 := List.length_eraseIdx_of_lt hk
        have := ih (L.eraseIdx k) t (by omega) (by omega) (by rw [← hstep]; exact g1) ⟨RulesAt_erase h3.2 h4.1 t3 t4, by rw [t2, hl2]⟩ (fun c c1 c2 => (t1 c c1 c2).trans (h5 c c1 c2)) (fun s' q1 q2 => by
          rw [← hstep] at q2 ⊢
          exact hP s' q1 q2)
        rw [show l.length - (L.eraseIdx k).length = l.length - L.length + 1 by omega, ← nI_add] at this
        exact this
      | false =>
        rw [hx, ifF] at hstep
        refine bq_t rfl (X6_dropOn h4 h3 hk ha (fun t t1 t2 t3 => ?_))
        have := ih (L.set k (lose (rOf L k) at')) t (by rw [List.length_set]; omega) (by rw [List.length_set]; exact h2) (by rw [← hstep]; exact g1) ⟨RulesAt_set h3.2 h4.1 (fun j _ hj => t2 j hj) t3, by rw [t1 1 (by omega), List.length_set]; exact h4.2⟩ (fun c c1 c2 => (t1 c c2).trans (h5 c c1 c2)) (fun s' q1 q2 => by
          rw [← hstep] at q2 ⊢
          exact hP s' q1 q2)
        rw [List.length_set] at this
        exact this
  have := main l.length l σ (Nat.le_refl _) (Nat.le_refl _) hW hR (fun _ _ _ => rfl) h
  rw [Nat.sub_self] at this
  rw [hR.2]
  exact this
theorem o_9 {xs : Nat → Int32} {i : Nat} {σ : Sto} {x : XP} {P : Sto → XP → Prop} (hI : Inv σ) (h : ∀ σ' x', Inv σ' → P σ' x') : DL_9 xs i σ x P := by
  obtain ⟨a, hw, hE, hM⟩ := hI
  unfold DL_9 D_L_specialize D_X11_specialize D_X12_specialize D_X11_requireArgument D_X12_thrown D_X12_isAttribute
  generalize xs (i + 1) = a1
  generalize xs (i + 2) = a2
  rcases rg a1 (n := 6) (by decide) with h1 | ⟨at', ha, rfl⟩
  · (try simp (disch := omega) only [String.reduceEq, isRu_1, isRu_61, isGr_3, isSt_0, isSt_6, lg_selfT, isB_0, isB_1, eq_self, true_or, or_true, false_or, or_false, or_self, fa_lit, nI_add, pk_mul, pk_sub, nI_addm, nI_leI, nI_ltI, nI_eqI, vp_inI, ix_nI, forall_eq, true_implies, false_implies, not_true_eq_false, not_false_eq_true, and_true, true_and, false_and, and_false, nle_T, nle_F, nlt_T, nlt_F, neq_T, neq_F, up_rd_s, up_rd_n, up_nc, cpy_nc, cpy_in, cpy_out, cpyOk_T, m1_lt, m1_le, m1_nle, m1_nlt, m1_eq, m1_eq2, m1_0le, Nat.add_zero, Nat.zero_add, Nat.mul_one, Nat.sub_zero, if_true, if_false, Nat.add_sub_cancel, Nat.add_sub_cancel_left, in_in, in_inN, iw_in, rq_in, pw_fold, nt_fold, ask_pw, has_eq, or_0, bt1, Bool.true_eq_false, Bool.false_eq_true, rq_out h1])
    intro K27 K60 h27 h60
    (try simp (disch := omega) only [String.reduceEq, isRu_1, isRu_61, isGr_3, isSt_0, isSt_6, lg_selfT, isB_0, isB_1, eq_self, true_or, or_true, false_or, or_false, or_self, fa_lit, nI_add, pk_mul, pk_sub, nI_addm, nI_leI, nI_ltI, nI_eqI, vp_inI, ix_nI, forall_eq, true_implies, false_implies, not_true_eq_false, not_false_eq_true, and_true, true_and, false_and, and_false, nle_T, nle_F, nlt_T, nlt_F, neq_T, neq_F, up_rd_s, up_rd_n, up_nc, cpy_nc, cpy_in, cpy_out, cpyOk_T, m1_lt, m1_le, m1_nle, m1_nlt, m1_eq, m1_eq2, m1_0le, Nat.add_zero, Nat.zero_add, Nat.mul_one, Nat.sub_zero, if_true, if_false, Nat.add_sub_cancel, Nat.add_sub_cancel_left, in_in, in_inN, iw_in, rq_in, pw_fold, nt_fold, ask_pw, has_eq, or_0, bt1, Bool.true_eq_false, Bool.false_eq_true, in_out (n := 6) rfl (by decide) h1])
    apply h27
    (try simp (disch := omega) only [String.reduceEq, isRu_1, isRu_61, isGr_3, isSt_0, isSt_6, lg_selfT, isB_0, isB_1, eq_self, true_or, or_true, false_or, or_false, or_self, fa_lit, nI_add, pk_mul, pk_sub, nI_addm, nI_leI, nI_ltI, nI_eqI, vp_inI, ix_nI, forall_eq, true_implies, false_implies, not_true_eq_false, not_false_eq_true, and_true, true_and, false_and, and_false, nle_T, nle_F, nlt_T, nlt_F, neq_T, neq_F, up_rd_s, up_rd_n, up_nc, cpy_nc, cpy_in, cpy_out, cpyOk_T, m1_lt, m1_le, m1_nle, m1_nlt, m1_eq, m1_eq2, m1_0le, Nat.add_zero, Nat.zero_add, Nat.mul_one, Nat.sub_zero, if_true, if_false, Nat.add_sub_cancel, Nat.add_sub_cancel_left, in_in, in_inN, iw_in, rq_in, pw_fold, nt_fold, ask_pw, has_eq, or_0, bt1, Bool.true_eq_false, Bool.false_eq_true])
    exact h _ _ (inv_th hw hE hM _)
  rcases rg a2 (n := 16) (by decide) with h1 | ⟨v, hv, rfl⟩
  · (try simp (disch := omega) only [String.reduceEq, isRu_1, isRu_61, isGr_3, isSt_0, isSt_6, lg_selfT, isB_0, isB_1, eq_self, true_or, or_true, false_or, or_false, or_self, fa_lit, nI_add, pk_mul, pk_sub, nI_addm, nI_leI, nI_ltI, nI_eqI, vp_inI, ix_nI, forall_eq, true_implies, false_implies, not_true_eq_false, not_false_eq_true, and_true, true_and, false_and, and_false, nle_T, nle_F, nlt_T, nlt_F, neq_T, neq_F, up_rd_s, up_rd_n, up_nc, cpy_nc, cpy_in, cpy_out, cpyOk_T, m1_lt, m1_le, m1_nle, m1_nlt, m1_eq, m1_eq2, m1_0le, Nat.add_zero, Nat.zero_add, Nat.mul_one, Nat.sub_zero, if_true, if_false, Nat.add_sub_cancel, Nat.add_sub_cancel_left, in_in, in_inN, iw_in, rq_in, pw_fold, nt_fold, ask_pw, has_eq, or_0, bt1, Bool.true_eq_false, Bool.false_eq_true, iw_out (n := 16) rfl (by decide) h1])
    intro K27 K60 h27 h60
    (try simp (disch := omega) only [String.reduceEq, isRu_1, isRu_61, isGr_3, isSt_0, isSt_6, lg_selfT, isB_0, isB_1, eq_self, true_or, or_true, false_or, or_false, or_self, fa_lit, nI_add, pk_mul, pk_sub, nI_addm, nI_leI, nI_ltI, nI_eqI, vp_inI, ix_nI, forall_eq, true_implies, false_implies, not_true_eq_false, not_false_eq_true, and_true, true_and, false_and, and_false, nle_T, nle_F, nlt_T, nlt_F, neq_T, neq_F, up_rd_s, up_rd_n, up_nc, cpy_nc, cpy_in, cpy_out, cpyOk_T, m1_lt, m1_le, m1_nle, m1_nlt, m1_eq, m1_eq2, m1_0le, Nat.add_zero, Nat.zero_add, Nat.mul_one, Nat.sub_zero, if_true, if_false, Nat.add_sub_cancel, Nat.add_sub_cancel_left, in_in, in_inN, iw_in, rq_in, pw_fold, nt_fold, ask_pw, has_eq, or_0, bt1, Bool.true_eq_false, Bool.false_eq_true, in_out (n := 16) rfl (by decide) h1])
    apply h27
    (try simp (disch := omega) only [String.reduceEq, isRu_1, isRu_61, isGr_3, isSt_0, isSt_6, lg_selfT, isB_0, isB_1, eq_self, true_or, or_true, false_or, or_false, or_self, fa_lit, nI_add, pk_mul, pk_sub, nI_addm, nI_leI, nI_ltI, nI_eqI, vp_inI, ix_nI, forall_eq, true_implies, false_implies, not_true_eq_false, not_false_eq_true, and_true, true_and, false_and, and_false, nle_T, nle_F, nlt_T, nlt_F, neq_T, neq_F, up_rd_s, up_rd_n, up_nc, cpy_nc, cpy_in, cpy_out, cpyOk_T, m1_lt, m1_le, m1_nle, m1_nlt, m1_eq, m1_eq2, m1_0le, Nat.add_zero, Nat.zero_add, Nat.mul_one, Nat.sub_zero, if_true, if_false, Nat.add_sub_cancel, Nat.add_sub_cancel_left, in_in, in_inN, iw_in, rq_in, pw_fold, nt_fold, ask_pw, has_eq, or_0, bt1, Bool.true_eq_false, Bool.false_eq_true])
    exact h _ _ (inv_th hw hE hM _)
  (try simp (disch := omega) only [String.reduceEq, isRu_1, isRu_61, isGr_3, isSt_0, isSt_6, lg_selfT, isB_0, isB_1, eq_self, true_or, or_true, false_or, or_false, or_self, fa_lit, nI_add, pk_mul, pk_sub, nI_addm, nI_leI, nI_ltI, nI_eqI, vp_inI, ix_nI, forall_eq, true_implies, false_implies, not_true_eq_false, not_false_eq_true, and_true, true_and, false_and, and_false, nle_T, nle_F, nlt_T, nlt_F, neq_T, neq_F, up_rd_s, up_rd_n, up_nc, cpy_nc, cpy_in, cpy_out, cpyOk_T, m1_lt, m1_le, m1_nle, m1_nlt, m1_eq, m1_eq2, m1_0le, Nat.add_zero, Nat.zero_add, Nat.mul_one, Nat.sub_zero, if_true, if_false, Nat.add_sub_cancel, Nat.add_sub_cancel_left, in_in, in_inN, iw_in, rq_in, pw_fold, nt_fold, ask_pw, has_eq, or_0, bt1, Bool.true_eq_false, Bool.false_eq_true])
  have hWl := RW_of hw
  refine X3_keep hw hE (fun σ1 r1 f1 => ?_)
  refine X6_narrow (l := (aCore a).1) (RLE_of (a := aKeep a) r1) hWl ha hv (fun S1 e1 e2 => ?_)
  have g88 : ∀ k, 87 ≤ k → S1 k = σ k := fun k hk => (e1 k (by omega) (by omega)).trans (f1 k (by omega) (by omega) (by omega))
  obtain ⟨k1, k2⟩ := goR_WF (at' := at') (v := v) (aCore a).1.length (aCore a).1 (Nat.le_refl _) hWl
  have hb : (aCore a).1.length ≤ 24 := hWl.1
  (try simp (disch := omega) only [String.reduceEq, isRu_1, isRu_61, isGr_3, isSt_0, isSt_6, lg_selfT, isB_0, isB_1, eq_self, true_or, or_true, false_or, or_false, or_self, fa_lit, nI_add, pk_mul, pk_sub, nI_addm, nI_leI, nI_ltI, nI_eqI, vp_inI, ix_nI, forall_eq, true_implies, false_implies, not_true_eq_false, not_false_eq_true, and_true, true_and, false_and, and_false, nle_T, nle_F, nlt_T, nlt_F, neq_T, neq_F, up_rd_s, up_rd_n, up_nc, cpy_nc, cpy_in, cpy_out, cpyOk_T, m1_lt, m1_le, m1_nle, m1_nlt, m1_eq, m1_eq2, m1_0le, Nat.add_zero, Nat.zero_add, Nat.mul_one, Nat.sub_zero, if_true, if_false, Nat.add_sub_cancel, Nat.add_sub_cancel_left, in_in, in_inN, iw_in, rq_in, pw_fold, nt_fold, ask_pw, has_eq, or_0, bt1, Bool.true_eq_false, Bool.false_eq_true])
  intro K27 K60 h27 h60
  apply h27
  (try simp (disch := omega) only [String.reduceEq, isRu_1, isRu_61, isGr_3, isSt_0, isSt_6, lg_selfT, isB_0, isB_1, eq_self, true_or, or_true, false_or, or_false, or_self, fa_lit, nI_add, pk_mul, pk_sub, nI_addm, nI_leI, nI_ltI, nI_eqI, vp_inI, ix_nI, forall_eq, true_implies, false_implies, not_true_eq_false, not_false_eq_true, and_true, true_and, false_and, and_false, nle_T, nle_F, nlt_T, nlt_F, neq_T, neq_F, up_rd_s, up_rd_n, up_nc, cpy_nc, cpy_in, cpy_out, cpyOk_T, m1_lt, m1_le, m1_nle, m1_nlt, m1_eq, m1_eq2, m1_0le, Nat.add_zero, Nat.zero_add, Nat.mul_one, Nat.sub_zero, if_true, if_false, Nat.add_sub_cancel, Nat.add_sub_cancel_left, in_in, in_inN, iw_in, rq_in, pw_fold, nt_fold, ask_pw, has_eq, or_0, bt1, Bool.true_eq_false, Bool.false_eq_true])
  refine X12_changes hw (RM_th (RM_low (σ := σ) (fun k hk => g88 k hk) hM) _) (fun σ2 r2 f2 f3 => ?_)
  have hR2 : RLM (aCore a).1 σ2 := RLM_of (a := aKeep a) r2
  have main : ∀ (k : Nat) (L : List mRule) (s : Sto), k ≤ L.length → L.length ≤ (aCore a).1.length → RW L → RLM L s → (∀ c, c ≠ 88 → s c = σ2 c) → (∀ j, j ≠ 0 → j < 10 ∨ 394 ≤ j → s 88 j = σ2 88 j) → (∀ s' : Sto, (∀ c, c ≠ 88 → s' c = σ2 c) → (∀ j, j ≠ 0 → j < 10 ∨ 394 ≤ j → s' 88 j = σ2 88 j) → RLM (goR at' v k L) s' → K60 (nI (aCore a).1.length) (-nI 1) s') → K60 (nI (aCore a).1.length) (nI k - nI 1) s := by
    intro k
    induction k with
    | zero =>
      intro L s h1 h2 h3 h4 h5 h6 hP
      exact hP s h5 h6 h4
    | succ k ih =>
      intro L s h1 h2 h3 h4 h5 h6 hP
      have hk : k < L.length := by omega
      have hL := h3.1
      rw [pk_sub (by omega), Nat.add_sub_cancel]
      apply h60
      obtain ⟨g1, g2, g3⟩ := stepR_WF (at' := at') (v := v) hk h3
      have hstep : stepR L at' v k = if excl (rOf L k) at' v then L.eraseIdx k else L.set k (lose (rOf L k) at') := rfl
      simp (disch := omega) only [fa_lit, nI_ltI, nlt_F, false_implies, not_false_eq_true, true_implies, true_and]
      refine X12_isAgainst h4 h3 hk ha hv ?_
      rw [← Int32.sub_eq_add_neg]
      cases hx : excl (rOf L k) at' v with
      | true =>
        rw [hx, if_pos rfl] at hstep
        refine bq_f (by decide) (X12_goes h4.2 hk hL (fun t t1 t2 t3 => ?_))
        have hl2 := List.length_eraseIdx_of_lt hk
        refine ih (L.eraseIdx k) t (by omega) (by omega) (by rw [← hstep]; exact g1) ⟨RulesAt_erase h3.2 h4.1 (fun j hj => ?_) (fun j j1 j2 => ?_), by rw [t2, hl2]⟩ (fun c hc => (t1 c hc).trans (h5 c hc)) (fun j j0 j1 => ?_) (fun s' q1 q2 q3 => by
          rw [← hstep] at q3
          exact hP s' q1 q2 q3)
        · show t 88 (10 + j) = s 88 (10 + j)
          rw [t3 _ (by omega), if_neg (by omega)]
        · show t 88 (10 + j) = s 88 (10 + (j + 16))
          rw [t3 _ (by omega), if_pos (by omega)]
          exact fcg (by omega)
        · rw [t3 _ j0, if_neg (by omega)]
          exact h6 j j0 j1
      | false =>
        rw [hx, ifF] at hstep
        refine bq_t rfl (X12_loses h4 h3 hk ha (fun t t1 t2 t3 => ?_))
        refine ih (L.set k (lose (rOf L k) at')) t (by rw [List.length_set]; omega) (by rw [List.length_set]; exact h2) (by rw [← hstep]; exact g1) ⟨RulesAt_set h3.2 h4.1 (fun j _ hj => t2 (10 + j) (by omega)) t3, by rw [t2 0 (by omega), List.length_set]; exact h4.2⟩ (fun c hc => (t1 c hc).trans (h5 c hc)) (fun j j0 j1 => ?_) (fun s' q1 q2 q3 => by
          rw [← hstep] at q3
          exact hP s' q1 q2 q3)
        rw [t2 j (by omega)]
        exact h6 j j0 j1
  have e0 : σ2 88 0 = nI (aCore a).1.length := hR2.2
  rw [e0]
  refine main (aCore a).1.length (aCore a).1 σ2 (Nat.le_refl _) (Nat.le_refl _) hWl hR2 (fun _ _ => rfl) (fun _ _ _ => rfl) (fun S2 q1 q2 q3 => ?_)
  apply h60
  have e5 : S2 87 8 = nI 0 := by rw [q1 87 (by omega), f3 8 (by omega), up_at]
  have eS : S2 88 0 = nI (goR at' v (aCore a).1.length (aCore a).1).length := q3.2
  have em : (-nI 1 < nI 0) = True := eq_true (by decide)
  (try simp (disch := omega) only [String.reduceEq, isRu_1, isRu_61, isGr_3, isSt_0, isSt_6, lg_selfT, isB_0, isB_1, eq_self, true_or, or_true, false_or, or_false, or_self, fa_lit, nI_add, pk_mul, pk_sub, nI_addm, nI_leI, nI_ltI, nI_eqI, vp_inI, ix_nI, forall_eq, true_implies, false_implies, not_true_eq_false, not_false_eq_true, and_true, true_and, false_and, and_false, nle_T, nle_F, nlt_T, nlt_F, neq_T, neq_F, up_rd_s, up_rd_n, up_nc, cpy_nc, cpy_in, cpy_out, cpyOk_T, m1_lt, m1_le, m1_nle, m1_nlt, m1_eq, m1_eq2, m1_0le, Nat.add_zero, Nat.zero_add, Nat.mul_one, Nat.sub_zero, if_true, if_false, Nat.add_sub_cancel, Nat.add_sub_cancel_left, in_in, in_inN, iw_in, rq_in, pw_fold, nt_fold, ask_pw, has_eq, or_0, bt1, Bool.true_eq_false, Bool.false_eq_true, em, eS, e5])
  obtain ⟨c1, c2, c3, c4, c5, c6, c7, c8⟩ := hw.1
  refine h _ _ (fin_core (c' := (goR at' v (aCore a).1.length (aCore a).1, (aCore a).2)) (σ1 := σ1) (S1 := S1) (σ2 := σ2) hw ⟨k1.1, k1.2, c3, c4, c5, c6, c7, c8⟩ r1 ?_ ?_ ?_ r2 ?_ ?_)
  · obtain ⟨g1, g2, g3, g4, g5, g6⟩ := r1.1
    refine ⟨e2.2, e2.1, ?_, ?_, ?_, ?_⟩
    · rw [e1 _ (by omega) (by omega)]; exact g3
    · rw [e1 _ (by omega) (by omega)]; exact g4
    · rw [e1 _ (by omega) (by omega)]; exact g5
    · rw [e1 _ (by omega) (by omega)]; exact g6
  · intro k hk _
    exact e1 k (by omega) (by omega)
  · intro k hk
    rw [f2 k (by omega) (by omega)]
    (try simp (disch := omega) only [String.reduceEq, isRu_1, isRu_61, isGr_3, isSt_0, isSt_6, lg_selfT, isB_0, isB_1, eq_self, true_or, or_true, false_or, or_false, or_self, fa_lit, nI_add, pk_mul, pk_sub, nI_addm, nI_leI, nI_ltI, nI_eqI, vp_inI, ix_nI, forall_eq, true_implies, false_implies, not_true_eq_false, not_false_eq_true, and_true, true_and, false_and, and_false, nle_T, nle_F, nlt_T, nlt_F, neq_T, neq_F, up_rd_s, up_rd_n, up_nc, cpy_nc, cpy_in, cpy_out, cpyOk_T, m1_lt, m1_le, m1_nle, m1_nlt, m1_eq, m1_eq2, m1_0le, Nat.add_zero, Nat.zero_add, Nat.mul_one, Nat.sub_zero, if_true, if_false, Nat.add_sub_cancel, Nat.add_sub_cancel_left, in_in, in_inN, iw_in, rq_in, pw_fold, nt_fold, ask_pw, has_eq, or_0, bt1, Bool.true_eq_false, Bool.false_eq_true])
  · obtain ⟨g1, g2, g3, g4, g5, g6⟩ := r2.1
    refine ⟨q3.2, ?_, ?_, ?_, ?_, ?_⟩
    · intro k r hk
      obtain ⟨b0, b1, b2, b3, b4⟩ := q3.1 k r hk
      refine ⟨(fcg (f := S2 88) (by omega)).trans b0, (fcg (f := S2 88) (by omega)).trans b1, (fcg (f := S2 88) (by omega)).trans b2, (fcg (f := S2 88) (by omega)).trans b3, fun c q hc => ?_⟩
      obtain ⟨d0, d1, d2⟩ := b4 c q hc
      exact ⟨(fcg (f := S2 88) (by omega)).trans d0, (fcg (f := S2 88) (by omega)).trans d1, (fcg (f := S2 88) (by omega)).trans d2⟩
    · rw [q2 _ (by omega) (by omega)]; exact g3
    · refine GrantsAt_congr (fun k hk => ?_) g4
      exact q2 _ (by omega) (by omega)
    · refine RowAt_congr (fun k hk => ?_) g5
      replace hk : k < (aCore a).2.2.1.length := hk
      rw [c6] at hk
      exact q2 _ (by omega) (by omega)
    · rw [q2 _ (by omega) (by omega)]; exact g6
  · exact q1
