/-! MATH. describe. -/
def num (v : Nat) : List Nat := if v < 10 then [48 + v] else [49, 48 + (v - 10)]
def WTE (T : List Nat) (σ : Sto) : Prop := σ 83 1 = nI T.length ∧ RowAt (σ 84) T
def WTM (T : List Nat) (σ : Sto) : Prop := σ 87 31 = nI T.length ∧ RowAt (σ 105) T
theorem chI {n : Nat} (h : n < 65536) : ((nI n).toUInt32 % 65536).toInt32 = nI n := by
  rw [pk_char, pk_tn (by omega), Nat.mod_eq_of_lt h]
theorem snl (T : List Nat) (c : Nat) : (T ++ [c]).length = T.length + 1 := by rw [List.length_append]; rfl
theorem X10_put {T : List Nat} {c : Nat} {σ : Sto} {P : Sto → Prop} (hT : WTE T σ) (hl : T.length < 200) (hc : c < 65536) (h : ∀ σ' : Sto, (∀ k, k ≠ 83 → k ≠ 84 → σ' k = σ k) → WTE (T ++ [c]) σ' → P σ') : D_X10_put (nI c) σ P := by
  unfold D_X10_put
  (try simp (disch := omega) only [String.reduceEq, isRu_1, isRu_61, isGr_3, isSt_0, isSt_6, lg_selfT, isB_0, isB_1, eq_self, true_or, or_true, false_or, or_false, or_self, fa_lit, nI_add, pk_mul, pk_sub, nI_addm, nI_leI, nI_ltI, nI_eqI, vp_inI, ix_nI, forall_eq, true_implies, false_implies, not_true_eq_false, not_false_eq_true, and_true, true_and, false_and, and_false, nle_T, nle_F, nlt_T, nlt_F, neq_T, neq_F, up_rd_s, up_rd_n, up_nc, cpy_nc, cpy_in, cpy_out, cpyOk_T, m1_lt, m1_le, m1_nle, m1_nlt, m1_eq, m1_eq2, m1_0le, Nat.add_zero, Nat.zero_add, Nat.mul_one, Nat.sub_zero, if_true, if_false, Nat.add_sub_cancel, Nat.add_sub_cancel_left, in_in, in_inN, iw_in, rq_in, pw_fold, nt_fold, ask_pw, has_eq, or_0, bt1, Bool.true_eq_false, Bool.false_eq_true, hT.1, nar_c])
  refine h _ (fun k k1 k2 => by (try simp (disch := omega) only [String.reduceEq, isRu_1, isRu_61, isGr_3, isSt_0, isSt_6, lg_selfT, isB_0, isB_1, eq_self, true_or, or_true, false_or, or_false, or_self, fa_lit, nI_add, pk_mul, pk_sub, nI_addm, nI_leI, nI_ltI, nI_eqI, vp_inI, ix_nI, forall_eq, true_implies, false_implies, not_true_eq_false, not_false_eq_true, and_true, true_and, false_and, and_false, nle_T, nle_F, nlt_T, nlt_F, neq_T, neq_F, up_rd_s, up_rd_n, up_nc, cpy_nc, cpy_in, cpy_out, cpyOk_T, m1_lt, m1_le, m1_nle, m1_nlt, m1_eq, m1_eq2, m1_0le, Nat.add_zero, Nat.zero_add, Nat.mul_one, Nat.sub_zero, if_true, if_false, Nat.add_sub_cancel, Nat.add_sub_cancel_left, in_in, in_inN, iw_in, rq_in, pw_fold, nt_fold, ask_pw, has_eq, or_0, bt1, Bool.true_eq_false, Bool.false_eq_true])) ⟨by rw [snl]; (try simp (disch := omega) only [String.reduceEq, isRu_1, isRu_61, isGr_3, isSt_0, isSt_6, lg_selfT, isB_0, isB_1, eq_self, true_or, or_true, false_or, or_false, or_self, fa_lit, nI_add, pk_mul, pk_sub, nI_addm, nI_leI, nI_ltI, nI_eqI, vp_inI, ix_nI, forall_eq, true_implies, false_implies, not_true_eq_false, not_false_eq_true, and_true, true_and, false_and, and_false, nle_T, nle_F, nlt_T, nlt_F, neq_T, neq_F, up_rd_s, up_rd_n, up_nc, cpy_nc, cpy_in, cpy_out, cpyOk_T, m1_lt, m1_le, m1_nle, m1_nlt, m1_eq, m1_eq2, m1_0le, Nat.add_zero, Nat.zero_add, Nat.mul_one, Nat.sub_zero, if_true, if_false, Nat.add_sub_cancel, Nat.add_sub_cancel_left, in_in, in_inN, iw_in, rq_in, pw_fold, nt_fold, ask_pw, has_eq, or_0, bt1, Bool.true_eq_false, Bool.false_eq_true]), RowAt_snoc hT.2 (fun k hk => by (try simp (disch := omega) only [String.reduceEq, isRu_1, isRu_61, isGr_3, isSt_0, isSt_6, lg_selfT, isB_0, isB_1, eq_self, true_or, or_true, false_or, or_false, or_self, fa_lit, nI_add, pk_mul, pk_sub, nI_addm, nI_leI, nI_ltI, nI_eqI, vp_inI, ix_nI, forall_eq, true_implies, false_implies, not_true_eq_false, not_false_eq_true, and_true, true_and, false_and, and_false, nle_T, nle_F, nlt_T, nlt_F, neq_T, neq_F, up_rd_s, up_rd_n, up_nc, cpy_nc, cpy_in, cpy_out, cpyOk_T, m1_lt, m1_le, m1_nle, m1_nlt, m1_eq, m1_eq2, m1_0le, Nat.add_zero, Nat.zero_add, Nat.mul_one, Nat.sub_zero, if_true, if_false, Nat.add_sub_cancel, Nat.add_sub_cancel_left, in_in, in_inN, iw_in, rq_in, pw_fold, nt_fold, ask_pw, has_eq, or_0, bt1, Bool.true_eq_false, Bool.false_eq_true])) (by (try simp (disch := omega) only [String.reduceEq, isRu_1, isRu_61, isGr_3, isSt_0, isSt_6, lg_selfT, isB_0, isB_1, eq_self, true_or, or_true, false_or, or_false, or_self, fa_lit, nI_add, pk_mul, pk_sub, nI_addm, nI_leI, nI_ltI, nI_eqI, vp_inI, ix_nI, forall_eq, true_implies, false_implies, not_true_eq_false, not_false_eq_true, and_true, true_and, false_and, and_false, nle_T, nle_F, nlt_T, nlt_F, neq_T, neq_F, up_rd_s, up_rd_n, up_nc, cpy_nc, cpy_in, cpy_out, cpyOk_T, m1_lt, m1_le, m1_nle, m1_nlt, m1_eq, m1_eq2, m1_0le, Nat.add_zero, Nat.zero_add, Nat.mul_one, Nat.sub_zero, if_true, if_false, Nat.add_sub_cancel, Nat.add_sub_cancel_left, in_in, in_inN, iw_in, rq_in, pw_fold, nt_fold, ask_pw, has_eq, or_0, bt1, Bool.true_eq_false, Bool.false_eq_true]))⟩
theorem X12_puts {T : List Nat} {c : Nat} {σ : Sto} {P : Sto → Prop} (hT : WTM T σ) (hl : T.length < 200) (h : ∀ σ' : Sto, (∀ k, k ≠ 87 → k ≠ 105 → σ' k = σ k) → (∀ f, f ≠ 31 → σ' 87 f = σ 87 f) → WTM (T ++ [c]) σ' → P σ') : D_X12_puts (nI c) σ P := by
  unfold D_X12_puts
  (try simp (disch := omega) only [String.reduceEq, isRu_1, isRu_61, isGr_3, isSt_0, isSt_6, lg_selfT, isB_0, isB_1, eq_self, true_or, or_true, false_or, or_false, or_self, fa_lit, nI_add, pk_mul, pk_sub, nI_addm, nI_leI, nI_ltI, nI_eqI, vp_inI, ix_nI, forall_eq, true_implies, false_implies, not_true_eq_false, not_false_eq_true, and_true, true_and, false_and, and_false, nle_T, nle_F, nlt_T, nlt_F, neq_T, neq_F, up_rd_s, up_rd_n, up_nc, cpy_nc, cpy_in, cpy_out, cpyOk_T, m1_lt, m1_le, m1_nle, m1_nlt, m1_eq, m1_eq2, m1_0le, Nat.add_zero, Nat.zero_add, Nat.mul_one, Nat.sub_zero, if_true, if_false, Nat.add_sub_cancel, Nat.add_sub_cancel_left, in_in, in_inN, iw_in, rq_in, pw_fold, nt_fold, ask_pw, has_eq, or_0, bt1, Bool.true_eq_false, Bool.false_eq_true, hT.1])
  refine h _ (fun k k1 k2 => by (try simp (disch := omega) only [String.reduceEq, isRu_1, isRu_61, isGr_3, isSt_0, isSt_6, lg_selfT, isB_0, isB_1, eq_self, true_or, or_true, false_or, or_false, or_self, fa_lit, nI_add, pk_mul, pk_sub, nI_addm, nI_leI, nI_ltI, nI_eqI, vp_inI, ix_nI, forall_eq, true_implies, false_implies, not_true_eq_false, not_false_eq_true, and_true, true_and, false_and, and_false, nle_T, nle_F, nlt_T, nlt_F, neq_T, neq_F, up_rd_s, up_rd_n, up_nc, cpy_nc, cpy_in, cpy_out, cpyOk_T, m1_lt, m1_le, m1_nle, m1_nlt, m1_eq, m1_eq2, m1_0le, Nat.add_zero, Nat.zero_add, Nat.mul_one, Nat.sub_zero, if_true, if_false, Nat.add_sub_cancel, Nat.add_sub_cancel_left, in_in, in_inN, iw_in, rq_in, pw_fold, nt_fold, ask_pw, has_eq, or_0, bt1, Bool.true_eq_false, Bool.false_eq_true])) (fun f hf => by (try simp (disch := omega) only [String.reduceEq, isRu_1, isRu_61, isGr_3, isSt_0, isSt_6, lg_selfT, isB_0, isB_1, eq_self, true_or, or_true, false_or, or_false, or_self, fa_lit, nI_add, pk_mul, pk_sub, nI_addm, nI_leI, nI_ltI, nI_eqI, vp_inI, ix_nI, forall_eq, true_implies, false_implies, not_true_eq_false, not_false_eq_true, and_true, true_and, false_and, and_false, nle_T, nle_F, nlt_T, nlt_F, neq_T, neq_F, up_rd_s, up_rd_n, up_nc, cpy_nc, cpy_in, cpy_out, cpyOk_T, m1_lt, m1_le, m1_nle, m1_nlt, m1_eq, m1_eq2, m1_0le, Nat.add_zero, Nat.zero_add, Nat.mul_one, Nat.sub_zero, if_true, if_false, Nat.add_sub_cancel, Nat.add_sub_cancel_left, in_in, in_inN, iw_in, rq_in, pw_fold, nt_fold, ask_pw, has_eq, or_0, bt1, Bool.true_eq_false, Bool.false_eq_true])) ⟨by rw [snl]; (try simp (disch := omega) only [String.reduceEq, isRu_1, isRu_61, isGr_3, isSt_0, isSt_6, lg_selfT, isB_0, isB_1, eq_self, true_or, or_true, false_or, or_false, or_self, fa_lit, nI_add, pk_mul, pk_sub, nI_addm, nI_leI, nI_ltI, nI_eqI, vp_inI, ix_nI, forall_eq, true_implies, false_implies, not_true_eq_false, not_false_eq_true, and_true, true_and, false_and, and_false, nle_T, nle_F, nlt_T, nlt_F, neq_T, neq_F, up_rd_s, up_rd_n, up_nc, cpy_nc, cpy_in, cpy_out, cpyOk_T, m1_lt, m1_le, m1_nle, m1_nlt, m1_eq, m1_eq2, m1_0le, Nat.add_zero, Nat.zero_add, Nat.mul_one, Nat.sub_zero, if_true, if_false, Nat.add_sub_cancel, Nat.add_sub_cancel_left, in_in, in_inN, iw_in, rq_in, pw_fold, nt_fold, ask_pw, has_eq, or_0, bt1, Bool.true_eq_false, Bool.false_eq_true]), RowAt_snoc hT.2 (fun k hk => by (try simp (disch := omega) only [String.reduceEq, isRu_1, isRu_61, isGr_3, isSt_0, isSt_6, lg_selfT, isB_0, isB_1, eq_self, true_or, or_true, false_or, or_false, or_self, fa_lit, nI_add, pk_mul, pk_sub, nI_addm, nI_leI, nI_ltI, nI_eqI, vp_inI, ix_nI, forall_eq, true_implies, false_implies, not_true_eq_false, not_false_eq_true, and_true, true_and, false_and, and_false, nle_T, nle_F, nlt_T, nlt_F, neq_T, neq_F, up_rd_s, up_rd_n, up_nc, cpy_nc, cpy_in, cpy_out, cpyOk_T, m1_lt, m1_le, m1_nle, m1_nlt, m1_eq, m1_eq2, m1_0le, Nat.add_zero, Nat.zero_add, Nat.mul_one, Nat.sub_zero, if_true, if_false, Nat.add_sub_cancel, Nat.add_sub_cancel_left, in_in, in_inN, iw_in, rq_in, pw_fold, nt_fold, ask_pw, has_eq, or_0, bt1, Bool.true_eq_false, Bool.false_eq_true])) (by (try simp (disch := omega) only [String.reduceEq, isRu_1, isRu_61, isGr_3, isSt_0, isSt_6, lg_selfT, isB_0, isB_1, eq_self, true_or, or_true, false_or, or_false, or_self, fa_lit, nI_add, pk_mul, pk_sub, nI_addm, nI_leI, nI_ltI, nI_eqI, vp_inI, ix_nI, forall_eq, true_implies, false_implies, not_true_eq_false, not_false_eq_true, and_true, true_and, false_and, and_false, nle_T, nle_F, nlt_T, nlt_F, neq_T, neq_F, up_rd_s, up_rd_n, up_nc, cpy_nc, cpy_in, cpy_out, cpyOk_T, m1_lt, m1_le, m1_nle, m1_nlt, m1_eq, m1_eq2, m1_0le, Nat.add_zero, Nat.zero_add, Nat.mul_one, Nat.sub_zero, if_true, if_false, Nat.add_sub_cancel, Nat.add_sub_cancel_left, in_in, in_inN, iw_in, rq_in, pw_fold, nt_fold, ask_pw, has_eq, or_0, bt1, Bool.true_eq_false, Bool.false_eq_true]))⟩
theorem X10_putNumber {T : List Nat} {v : Nat} {σ : Sto} {P : Sto → Prop} (hT : WTE T σ) (hv : v < 16) (hl : T.length + 2 ≤ 200) (h : ∀ σ' : Sto, (∀ k, k ≠ 83 → k ≠ 84 → σ' k = σ k) → WTE (T ++ num v) σ' → P σ') : D_X10_putNumber (nI v) σ P := by
  intro K12 h12
  unfold num at h
  by_cases q : v < 10
  · rw [if_pos q] at h
    (try simp (disch := omega) only [String.reduceEq, isRu_1, isRu_61, isGr_3, isSt_0, isSt_6, lg_selfT, isB_0, isB_1, eq_self, true_or, or_true, false_or, or_false, or_self, fa_lit, nI_add, pk_mul, pk_sub, nI_addm, nI_leI, nI_ltI, nI_eqI, vp_inI, ix_nI, forall_eq, true_implies, false_implies, not_true_eq_false, not_false_eq_true, and_true, true_and, false_and, and_false, nle_T, nle_F, nlt_T, nlt_F, neq_T, neq_F, up_rd_s, up_rd_n, up_nc, cpy_nc, cpy_in, cpy_out, cpyOk_T, m1_lt, m1_le, m1_nle, m1_nlt, m1_eq, m1_eq2, m1_0le, Nat.add_zero, Nat.zero_add, Nat.mul_one, Nat.sub_zero, if_true, if_false, Nat.add_sub_cancel, Nat.add_sub_cancel_left, in_in, in_inN, iw_in, rq_in, pw_fold, nt_fold, ask_pw, has_eq, or_0, bt1, Bool.true_eq_false, Bool.false_eq_true])
    apply h12
    (try simp (disch := omega) only [String.reduceEq, isRu_1, isRu_61, isGr_3, isSt_0, isSt_6, lg_selfT, isB_0, isB_1, eq_self, true_or, or_true, false_or, or_false, or_self, fa_lit, nI_add, pk_mul, pk_sub, nI_addm, nI_leI, nI_ltI, nI_eqI, vp_inI, ix_nI, forall_eq, true_implies, false_implies, not_true_eq_false, not_false_eq_true, and_true, true_and, false_and, and_false, nle_T, nle_F, nlt_T, nlt_F, neq_T, neq_F, up_rd_s, up_rd_n, up_nc, cpy_nc, cpy_in, cpy_out, cpyOk_T, m1_lt, m1_le, m1_nle, m1_nlt, m1_eq, m1_eq2, m1_0le, Nat.add_zero, Nat.zero_add, Nat.mul_one, Nat.sub_zero, if_true, if_false, Nat.add_sub_cancel, Nat.add_sub_cancel_left, in_in, in_inN, iw_in, rq_in, pw_fold, nt_fold, ask_pw, has_eq, or_0, bt1, Bool.true_eq_false, Bool.false_eq_true, chI (show 48 + v < 65536 by omega)])
    exact X10_put hT (by omega) (by omega) h
  · rw [if_neg q] at h
    (try simp (disch := omega) only [String.reduceEq, isRu_1, isRu_61, isGr_3, isSt_0, isSt_6, lg_selfT, isB_0, isB_1, eq_self, true_or, or_true, false_or, or_false, or_self, fa_lit, nI_add, pk_mul, pk_sub, nI_addm, nI_leI, nI_ltI, nI_eqI, vp_inI, ix_nI, forall_eq, true_implies, false_implies, not_true_eq_false, not_false_eq_true, and_true, true_and, false_and, and_false, nle_T, nle_F, nlt_T, nlt_F, neq_T, neq_F, up_rd_s, up_rd_n, up_nc, cpy_nc, cpy_in, cpy_out, cpyOk_T, m1_lt, m1_le, m1_nle, m1_nlt, m1_eq, m1_eq2, m1_0le, Nat.add_zero, Nat.zero_add, Nat.mul_one, Nat.sub_zero, if_true, if_false, Nat.add_sub_cancel, Nat.add_sub_cancel_left, in_in, in_inN, iw_in, rq_in, pw_fold, nt_fold, ask_pw, has_eq, or_0, bt1, Bool.true_eq_false, Bool.false_eq_true])
    refine X10_put (c := 49) hT (by omega) (by decide) (fun s f1 t1 => ?_)
    apply h12
    (try simp (disch := omega) only [String.reduceEq, isRu_1, isRu_61, isGr_3, isSt_0, isSt_6, lg_selfT, isB_0, isB_1, eq_self, true_or, or_true, false_or, or_false, or_self, fa_lit, nI_add, pk_mul, pk_sub, nI_addm, nI_leI, nI_ltI, nI_eqI, vp_inI, ix_nI, forall_eq, true_implies, false_implies, not_true_eq_false, not_false_eq_true, and_true, true_and, false_and, and_false, nle_T, nle_F, nlt_T, nlt_F, neq_T, neq_F, up_rd_s, up_rd_n, up_nc, cpy_nc, cpy_in, cpy_out, cpyOk_T, m1_lt, m1_le, m1_nle, m1_nlt, m1_eq, m1_eq2, m1_0le, Nat.add_zero, Nat.zero_add, Nat.mul_one, Nat.sub_zero, if_true, if_false, Nat.add_sub_cancel, Nat.add_sub_cancel_left, in_in, in_inN, iw_in, rq_in, pw_fold, nt_fold, ask_pw, has_eq, or_0, bt1, Bool.true_eq_false, Bool.false_eq_true, chI (show 48 + (v - 10) < 65536 by omega)])
    refine X10_put t1 (by rw [snl]; omega) (by omega) (fun s' f2 t2 => h s' (fun k k1 k2 => (f2 k k1 k2).trans (f1 k k1 k2)) ?_)
    rw [List.append_assoc] at t2
    exact t2
theorem X12_putsNumber {T : List Nat} {v : Nat} {σ : Sto} {P : Sto → Prop} (hT : WTM T σ) (hv : v < 16) (hl : T.length + 2 ≤ 200) (h : ∀ σ' : Sto, (∀ k, k ≠ 87 → k ≠ 105 → σ' k = σ k) → (∀ f, f ≠ 31 → σ' 87 f = σ 87 f) → WTM (T ++ num v) σ' → P σ') : D_X12_putsNumber (nI v) σ P := by
  unfold D_X12_putsNumber
  unfold num at h
  have er : nI v - nI v / nI 10 * nI 10 = nI (v % 10) := pk_rem (by omega) (by decide) (by decide)
  by_cases q : v < 10
  · rw [if_pos q] at h
    simp (disch := omega) only [fa_lit, nI_ltI, nlt_T, er, nI_add, true_implies, not_true_eq_false, false_implies, and_true]
    rw [show v % 10 = v by omega]
    exact X12_puts hT (by omega) h
  · rw [if_neg q] at h
    simp (disch := omega) only [fa_lit, nI_ltI, nlt_F, er, nI_add, not_false_eq_true, true_implies, false_implies, true_and]
    refine X12_puts (c := 49) hT (by omega) (fun s f1 f1b t1 => ?_)
    rw [show v % 10 = v - 10 by omega]
    refine X12_puts t1 (by rw [snl]; omega) (fun s' f2 f2b t2 => h s' (fun k k1 k2 => (f2 k k1 k2).trans (f1 k k1 k2)) (fun f hf => (f2b f hf).trans (f1b f hf)) ?_)
    rw [List.append_assoc] at t2
    exact t2
/-- the text of a set: its first values -/
def setL (S : Int32) : Nat → List Nat
  | 0 => []
  | i + 1 => if bt S i then setL S i ++ ((if (setL S i).isEmpty then 123 else 44) :: num i) else setL S i
theorem setL_S (S : Int32) (i : Nat) : setL S (i + 1) = if bt S i then setL S i ++ ((if (setL S i).isEmpty then 123 else 44) :: num i) else setL S i := rfl
theorem num_len (v : Nat) : (num v).length ≤ 2 ∧ (v < 10 → (num v).length = 1) := by
  unfold num
  split
  · exact ⟨by show 1 ≤ 2; decide, fun _ => rfl⟩
  · exact ⟨by show 2 ≤ 2; decide, fun h => absurd h (by assumption)⟩
theorem setL_len (S : Int32) : ∀ i, (setL S i).length ≤ 2 * i + (i - 10)
  | 0 => Nat.le_refl _
  | i + 1 => by
    have ih := setL_len S i
    obtain ⟨n1, n2⟩ := num_len i
    rw [setL_S]
    split
    · rw [List.length_append, List.length_cons]
      by_cases e : i < 10
      · have := n2 e
        omega
      · omega
    · omega
theorem setL_ne {S : Int32} {j : Nat} (hb : bt S j = true) : ∀ {n : Nat}, j < n → (setL S n).isEmpty = false
  | 0, h => absurd h (Nat.not_lt_zero _)
  | n + 1, h => by
    rw [setL_S]
    by_cases e : j = n
    · subst e
      rw [hb, if_pos rfl]
      cases setL S j <;> rfl
    · have ih := setL_ne hb (n := n) (by omega)
      split
      · cases hq : setL S n with
        | nil => rfl
        | cons x y => rfl
      · exact ih
theorem X10_putSet {T : List Nat} {S : Int32} {σ : Sto} {P : Sto → Prop} (hT : WTE T σ) (hl : T.length + 39 ≤ 200) (h : ∀ σ' : Sto, (∀ k, k ≠ 83 → k ≠ 84 → σ' k = σ k) → WTE (T ++ (setL S 16 ++ [125])) σ' → P σ') : D_X10_putSet S σ P := by
  intro K5 h5
  refine lp 16 (fun i s => K5 (if (setL S i).isEmpty then nI 123 else nI 44) (nI i) s) (fun i s => (∀ k, k ≠ 83 → k ≠ 84 → s k = σ k) ∧ WTE (T ++ setL S i) s) ?_ ?_ σ ⟨fun _ _ _ => rfl, by show WTE (T ++ []) σ; rw [List.append_nil]; exact hT⟩
  · intro s ⟨s1, s2⟩
    apply h5
    (try simp (disch := omega) only [String.reduceEq, isRu_1, isRu_61, isGr_3, isSt_0, isSt_6, lg_selfT, isB_0, isB_1, eq_self, true_or, or_true, false_or, or_false, or_self, fa_lit, nI_add, pk_mul, pk_sub, nI_addm, nI_leI, nI_ltI, nI_eqI, vp_inI, ix_nI, forall_eq, true_implies, false_implies, not_true_eq_false, not_false_eq_true, and_true, true_and, false_and, and_false, nle_T, nle_F, nlt_T, nlt_F, neq_T, neq_F, up_rd_s, up_rd_n, up_nc, cpy_nc, cpy_in, cpy_out, cpyOk_T, m1_lt, m1_le, m1_nle, m1_nlt, m1_eq, m1_eq2, m1_0le, Nat.add_zero, Nat.zero_add, Nat.mul_one, Nat.sub_zero, if_true, if_false, Nat.add_sub_cancel, Nat.add_sub_cancel_left, in_in, in_inN, iw_in, rq_in, pw_fold, nt_fold, ask_pw, has_eq, or_0, bt1, Bool.true_eq_false, Bool.false_eq_true])
    have hle := setL_len S 16
    refine X10_put (c := 125) s2 (by rw [List.length_append]; omega) (by decide) (fun t t1 t2 => h t (fun k k1 k2 => (t1 k k1 k2).trans (s1 k k1 k2)) ?_)
    rw [List.append_assoc] at t2
    exact t2
  · intro i s hi ⟨s1, s2⟩ hnext
    apply h5
    have hle := setL_len S i
    have hS := setL_S S i
    cases hb : bt S i with
    | false =>
      rw [hb, ifF] at hS
      rw [hS] at hnext
      (try simp (disch := omega) only [String.reduceEq, isRu_1, isRu_61, isGr_3, isSt_0, isSt_6, lg_selfT, isB_0, isB_1, eq_self, true_or, or_true, false_or, or_false, or_self, fa_lit, nI_add, pk_mul, pk_sub, nI_addm, nI_leI, nI_ltI, nI_eqI, vp_inI, ix_nI, forall_eq, true_implies, false_implies, not_true_eq_false, not_false_eq_true, and_true, true_and, false_and, and_false, nle_T, nle_F, nlt_T, nlt_F, neq_T, neq_F, up_rd_s, up_rd_n, up_nc, cpy_nc, cpy_in, cpy_out, cpyOk_T, m1_lt, m1_le, m1_nle, m1_nlt, m1_eq, m1_eq2, m1_0le, Nat.add_zero, Nat.zero_add, Nat.mul_one, Nat.sub_zero, if_true, if_false, Nat.add_sub_cancel, Nat.add_sub_cancel_left, in_in, in_inN, iw_in, rq_in, pw_fold, nt_fold, ask_pw, has_eq, or_0, bt1, Bool.true_eq_false, Bool.false_eq_true, hb])
      exact hnext s ⟨s1, s2⟩
    | true =>
      rw [hb, if_pos rfl] at hS
      have hne : (setL S (i + 1)).isEmpty = false := setL_ne hb (by omega)
      rw [hne, ifF, hS] at hnext
      (try simp (disch := omega) only [String.reduceEq, isRu_1, isRu_61, isGr_3, isSt_0, isSt_6, lg_selfT, isB_0, isB_1, eq_self, true_or, or_true, false_or, or_false, or_self, fa_lit, nI_add, pk_mul, pk_sub, nI_addm, nI_leI, nI_ltI, nI_eqI, vp_inI, ix_nI, forall_eq, true_implies, false_implies, not_true_eq_false, not_false_eq_true, and_true, true_and, false_and, and_false, nle_T, nle_F, nlt_T, nlt_F, neq_T, neq_F, up_rd_s, up_rd_n, up_nc, cpy_nc, cpy_in, cpy_out, cpyOk_T, m1_lt, m1_le, m1_nle, m1_nlt, m1_eq, m1_eq2, m1_0le, Nat.add_zero, Nat.zero_add, Nat.mul_one, Nat.sub_zero, if_true, if_false, Nat.add_sub_cancel, Nat.add_sub_cancel_left, in_in, in_inN, iw_in, rq_in, pw_fold, nt_fold, ask_pw, has_eq, or_0, bt1, Bool.true_eq_false, Bool.false_eq_true, hb, bF hb])
      have hbe : (if (setL S i).isEmpty = true then nI 123 else nI 44) = nI (if (setL S i).isEmpty = true then 123 else 44) := by split <;> rfl
      rw [hbe]
      refine X10_put s2 (by rw [List.length_append]; omega) (by split <;> decide) (fun t t1 t2 => ?_)
      refine X10_putNumber t2 hi (by rw [snl, List.length_append]; omega) (fun u u1 u2 => ?_)
      refine hnext u ⟨fun k k1 k2 => (u1 k k1 k2).trans ((t1 k k1 k2).trans (s1 k k1 k2)), ?_⟩
      rw [List.append_assoc, List.append_assoc] at u2
      exact u2
theorem X12_putsSet {T : List Nat} {S : Int32} {j : Nat} {σ : Sto} {P : Sto → Prop} (hT : WTM T σ) (hl : T.length + 39 ≤ 200) (hj : j < 16) (hne : bt S j = true) (h : ∀ σ' : Sto, (∀ k, k ≠ 87 → k ≠ 105 → σ' k = σ k) → (∀ f, f ≠ 31 → σ' 87 f = σ 87 f) → WTM (T ++ (setL S 16 ++ [125])) σ' → P σ') : D_X12_putsSet S σ P := by
  intro K10 h10
  (try simp (disch := omega) only [String.reduceEq, isRu_1, isRu_61, isGr_3, isSt_0, isSt_6, lg_selfT, isB_0, isB_1, eq_self, true_or, or_true, false_or, or_false, or_self, fa_lit, nI_add, pk_mul, pk_sub, nI_addm, nI_leI, nI_ltI, nI_eqI, vp_inI, ix_nI, forall_eq, true_implies, false_implies, not_true_eq_false, not_false_eq_true, and_true, true_and, false_and, and_false, nle_T, nle_F, nlt_T, nlt_F, neq_T, neq_F, up_rd_s, up_rd_n, up_nc, cpy_nc, cpy_in, cpy_out, cpyOk_T, m1_lt, m1_le, m1_nle, m1_nlt, m1_eq, m1_eq2, m1_0le, Nat.add_zero, Nat.zero_add, Nat.mul_one, Nat.sub_zero, if_true, if_false, Nat.add_sub_cancel, Nat.add_sub_cancel_left, in_in, in_inN, iw_in, rq_in, pw_fold, nt_fold, ask_pw, has_eq, or_0, bt1, Bool.true_eq_false, Bool.false_eq_true])
  refine X12_puts (c := 123) hT (by omega) (fun σ1 f1 f1b t1 => ?_)
  refine lp 16 (fun i s => K10 (if (setL S i).isEmpty then nI 0 else nI 1) (nI i) s) (fun i s => (∀ k, k ≠ 87 → k ≠ 105 → s k = σ k) ∧ (∀ f, f ≠ 31 → s 87 f = σ 87 f) ∧ WTM (T ++ (if (setL S i).isEmpty then [123] else setL S i)) s) ?_ ?_ σ1 ⟨f1, f1b, t1⟩
  · intro s ⟨s1, s2, s3⟩
    apply h10
    (try simp (disch := omega) only [String.reduceEq, isRu_1, isRu_61, isGr_3, isSt_0, isSt_6, lg_selfT, isB_0, isB_1, eq_self, true_or, or_true, false_or, or_false, or_self, fa_lit, nI_add, pk_mul, pk_sub, nI_addm, nI_leI, nI_ltI, nI_eqI, vp_inI, ix_nI, forall_eq, true_implies, false_implies, not_true_eq_false, not_false_eq_true, and_true, true_and, false_and, and_false, nle_T, nle_F, nlt_T, nlt_F, neq_T, neq_F, up_rd_s, up_rd_n, up_nc, cpy_nc, cpy_in, cpy_out, cpyOk_T, m1_lt, m1_le, m1_nle, m1_nlt, m1_eq, m1_eq2, m1_0le, Nat.add_zero, Nat.zero_add, Nat.mul_one, Nat.sub_zero, if_true, if_false, Nat.add_sub_cancel, Nat.add_sub_cancel_left, in_in, in_inN, iw_in, rq_in, pw_fold, nt_fold, ask_pw, has_eq, or_0, bt1, Bool.true_eq_false, Bool.false_eq_true])
    have hle := setL_len S 16
    rw [setL_ne hne hj, ifF] at s3
    refine X12_puts (c := 125) s3 (by rw [List.length_append]; omega) (fun t t1 t2 t3 => h t (fun k k1 k2 => (t1 k k1 k2).trans (s1 k k1 k2)) (fun f hf => (t2 f hf).trans (s2 f hf)) ?_)
    rw [List.append_assoc] at t3
    exact t3
  · intro i s hi ⟨s1, s2, s3⟩ hnext
    apply h10
    have hle := setL_len S i
    have hS := setL_S S i
    cases hb : bt S i with
    | false =>
      rw [hb, ifF] at hS
      rw [hS] at hnext
      (try simp (disch := omega) only [String.reduceEq, isRu_1, isRu_61, isGr_3, isSt_0, isSt_6, lg_selfT, isB_0, isB_1, eq_self, true_or, or_true, false_or, or_false, or_self, fa_lit, nI_add, pk_mul, pk_sub, nI_addm, nI_leI, nI_ltI, nI_eqI, vp_inI, ix_nI, forall_eq, true_implies, false_implies, not_true_eq_false, not_false_eq_true, and_true, true_and, false_and, and_false, nle_T, nle_F, nlt_T, nlt_F, neq_T, neq_F, up_rd_s, up_rd_n, up_nc, cpy_nc, cpy_in, cpy_out, cpyOk_T, m1_lt, m1_le, m1_nle, m1_nlt, m1_eq, m1_eq2, m1_0le, Nat.add_zero, Nat.zero_add, Nat.mul_one, Nat.sub_zero, if_true, if_false, Nat.add_sub_cancel, Nat.add_sub_cancel_left, in_in, in_inN, iw_in, rq_in, pw_fold, nt_fold, ask_pw, has_eq, or_0, bt1, Bool.true_eq_false, Bool.false_eq_true, hb])
      exact hnext s ⟨s1, s2, s3⟩
    | true =>
      rw [hb, if_pos rfl] at hS
      have hne2 : (setL S (i + 1)).isEmpty = false := setL_ne hb (by omega)
      rw [hne2, ifF, ifF, hS] at hnext
      cases he : (setL S i).isEmpty with
      | true =>
        rw [he, if_pos rfl] at s3 hnext
        have hnil : setL S i = [] := List.isEmpty_iff.mp he
        rw [hnil] at hnext
        (try simp (disch := omega) only [String.reduceEq, isRu_1, isRu_61, isGr_3, isSt_0, isSt_6, lg_selfT, isB_0, isB_1, eq_self, true_or, or_true, false_or, or_false, or_self, fa_lit, nI_add, pk_mul, pk_sub, nI_addm, nI_leI, nI_ltI, nI_eqI, vp_inI, ix_nI, forall_eq, true_implies, false_implies, not_true_eq_false, not_false_eq_true, and_true, true_and, false_and, and_false, nle_T, nle_F, nlt_T, nlt_F, neq_T, neq_F, up_rd_s, up_rd_n, up_nc, cpy_nc, cpy_in, cpy_out, cpyOk_T, m1_lt, m1_le, m1_nle, m1_nlt, m1_eq, m1_eq2, m1_0le, Nat.add_zero, Nat.zero_add, Nat.mul_one, Nat.sub_zero, if_true, if_false, Nat.add_sub_cancel, Nat.add_sub_cancel_left, in_in, in_inN, iw_in, rq_in, pw_fold, nt_fold, ask_pw, has_eq, or_0, bt1, Bool.true_eq_false, Bool.false_eq_true, hb, bF hb])
        refine X12_putsNumber s3 hi (by rw [snl]; omega) (fun u u1 u2 u3 => ?_)
        refine hnext u ⟨fun k k1 k2 => (u1 k k1 k2).trans (s1 k k1 k2), fun f hf => (u2 f hf).trans (s2 f hf), ?_⟩
        rw [List.append_assoc] at u3
        exact u3
      | false =>
        rw [he, ifF] at s3 hnext
        (try simp (disch := omega) only [String.reduceEq, isRu_1, isRu_61, isGr_3, isSt_0, isSt_6, lg_selfT, isB_0, isB_1, eq_self, true_or, or_true, false_or, or_false, or_self, fa_lit, nI_add, pk_mul, pk_sub, nI_addm, nI_leI, nI_ltI, nI_eqI, vp_inI, ix_nI, forall_eq, true_implies, false_implies, not_true_eq_false, not_false_eq_true, and_true, true_and, false_and, and_false, nle_T, nle_F, nlt_T, nlt_F, neq_T, neq_F, up_rd_s, up_rd_n, up_nc, cpy_nc, cpy_in, cpy_out, cpyOk_T, m1_lt, m1_le, m1_nle, m1_nlt, m1_eq, m1_eq2, m1_0le, Nat.add_zero, Nat.zero_add, Nat.mul_one, Nat.sub_zero, if_true, if_false, Nat.add_sub_cancel, Nat.add_sub_cancel_left, in_in, in_inN, iw_in, rq_in, pw_fold, nt_fold, ask_pw, has_eq, or_0, bt1, Bool.true_eq_false, Bool.false_eq_true, hb, bF hb])
        refine X12_puts (c := 44) s3 (by rw [List.length_append]; omega) (fun t t1 t2 t3 => ?_)
        refine X12_putsNumber t3 hi (by rw [snl, List.length_append]; omega) (fun u u1 u2 u3 => ?_)
        refine hnext u ⟨fun k k1 k2 => (u1 k k1 k2).trans ((t1 k k1 k2).trans (s1 k k1 k2)), fun f hf => (u2 f hf).trans ((t2 f hf).trans (s2 f hf)), ?_⟩
        rw [List.append_assoc, List.append_assoc] at u3
        exact u3
def sgn (k : Nat) : Nat := if k = 0 then 61 else if k = 1 then 35 else if k = 2 then 60 else 62
theorem sgn_lt (k : Nat) : sgn k < 65536 := by
  unfold sgn
  repeat' split
  all_goals decide
def condT (q : mCond) : List Nat := (97 + q.1) :: (if q.2.1 = 4 then setL (nI q.2.2) 16 ++ [125] else sgn q.2.1 :: num q.2.2)
theorem condT_len (q : mCond) : (condT q).length ≤ 40 := by
  have h1 := setL_len (nI q.2.2) 16
  have h2 := (num_len q.2.2).1
  unfold condT
  rw [List.length_cons]
  split
  · rw [snl]; omega
  · rw [List.length_cons]; omega
def txc (r : mRule) : Nat → List Nat
  | 0 => [48 + r.1, if r.2.1 = 1 then 45 else 43]
  | c + 1 => txc r c ++ ((if c = 0 then [] else [38]) ++ condT (qOf r c))
theorem txc_S (r : mRule) (c : Nat) : txc r (c + 1) = txc r c ++ ((if c = 0 then [] else [38]) ++ condT (qOf r c)) := rfl
theorem txc_len (r : mRule) : ∀ c, (txc r c).length ≤ 2 + 41 * c
  | 0 => Nat.le_refl _
  | c + 1 => by
    have ih := txc_len r c
    have h1 := condT_len (qOf r c)
    rw [txc_S, List.length_append, List.length_append]
    split
    · rw [List.length_nil]; omega
    · rw [show [38].length = 1 from rfl]; omega
def txt (r : mRule) : List Nat := txc r r.2.2.2.length ++ [58, 48 + r.2.2.1, 59]
theorem txt_len {r : mRule} (h : WFRule r) : (txt r).length ≤ 169 := by
  have := txc_len r r.2.2.2.length
  have := h.2.2.2.1
  unfold txt
  rw [List.length_append]
  show _ + 3 ≤ 169
  omega
theorem set_bit {m : Nat} (h1 : 1 ≤ m) (h2 : m ≤ 65535) : ∃ j, j < 16 ∧ bt (nI m) j = true := by
  refine Classical.byContradiction fun hx => ?_
  have : nI m = nI 0 := by
    apply b_ext
    intro i hi
    rw [b_z]
    by_cases h16 : i < 16
    · cases q : bt (nI m) i with
      | false => rfl
      | true => exact absurd ⟨i, h16, q⟩ hx
    · rw [b_nI, Nat.testBit_lt_two_pow (Nat.lt_of_lt_of_le (show m < 2 ^ 16 by omega) (Nat.pow_le_pow_right (by decide) (by omega))), Bool.and_false]
  have := (nI_eq (by omega) (by decide)).mp this
  omega
theorem X10_signOf {k : Nat} {σ : Sto} {P : Int32 → Sto → Prop} (hk : k < 2147483648) (h : P (nI (sgn k)) σ) : D_X10_signOf (nI k) σ P := by
  unfold D_X10_signOf
  unfold sgn at h
  by_cases k0 : k = 0
  · rw [if_pos k0] at h
    (try simp (disch := omega) only [String.reduceEq, isRu_1, isRu_61, isGr_3, isSt_0, isSt_6, lg_selfT, isB_0, isB_1, eq_self, true_or, or_true, false_or, or_false, or_self, fa_lit, nI_add, pk_mul, pk_sub, nI_addm, nI_leI, nI_ltI, nI_eqI, vp_inI, ix_nI, forall_eq, true_implies, false_implies, not_true_eq_false, not_false_eq_true, and_true, true_and, false_and, and_false, nle_T, nle_F, nlt_T, nlt_F, neq_T, neq_F, up_rd_s, up_rd_n, up_nc, cpy_nc, cpy_in, cpy_out, cpyOk_T, m1_lt, m1_le, m1_nle, m1_nlt, m1_eq, m1_eq2, m1_0le, Nat.add_zero, Nat.zero_add, Nat.mul_one, Nat.sub_zero, if_true, if_false, Nat.add_sub_cancel, Nat.add_sub_cancel_left, in_in, in_inN, iw_in, rq_in, pw_fold, nt_fold, ask_pw, has_eq, or_0, bt1, Bool.true_eq_false, Bool.false_eq_true, k0])
    exact h
  · rw [if_neg k0] at h
    by_cases k1 : k = 1
    · rw [if_pos k1] at h
      (try simp (disch := omega) only [String.reduceEq, isRu_1, isRu_61, isGr_3, isSt_0, isSt_6, lg_selfT, isB_0, isB_1, eq_self, true_or, or_true, false_or, or_false, or_self, fa_lit, nI_add, pk_mul, pk_sub, nI_addm, nI_leI, nI_ltI, nI_eqI, vp_inI, ix_nI, forall_eq, true_implies, false_implies, not_true_eq_false, not_false_eq_true, and_true, true_and, false_and, and_false, nle_T, nle_F, nlt_T, nlt_F, neq_T, neq_F, up_rd_s, up_rd_n, up_nc, cpy_nc, cpy_in, cpy_out, cpyOk_T, m1_lt, m1_le, m1_nle, m1_nlt, m1_eq, m1_eq2, m1_0le, Nat.add_zero, Nat.zero_add, Nat.mul_one, Nat.sub_zero, if_true, if_false, Nat.add_sub_cancel, Nat.add_sub_cancel_left, in_in, in_inN, iw_in, rq_in, pw_fold, nt_fold, ask_pw, has_eq, or_0, bt1, Bool.true_eq_false, Bool.false_eq_true, k1])
      exact h
    · rw [if_neg k1] at h
      by_cases k2 : k = 2
      · rw [if_pos k2] at h
        (try simp (disch := omega) only [String.reduceEq, isRu_1, isRu_61, isGr_3, isSt_0, isSt_6, lg_selfT, isB_0, isB_1, eq_self, true_or, or_true, false_or, or_false, or_self, fa_lit, nI_add, pk_mul, pk_sub, nI_addm, nI_leI, nI_ltI, nI_eqI, vp_inI, ix_nI, forall_eq, true_implies, false_implies, not_true_eq_false, not_false_eq_true, and_true, true_and, false_and, and_false, nle_T, nle_F, nlt_T, nlt_F, neq_T, neq_F, up_rd_s, up_rd_n, up_nc, cpy_nc, cpy_in, cpy_out, cpyOk_T, m1_lt, m1_le, m1_nle, m1_nlt, m1_eq, m1_eq2, m1_0le, Nat.add_zero, Nat.zero_add, Nat.mul_one, Nat.sub_zero, if_true, if_false, Nat.add_sub_cancel, Nat.add_sub_cancel_left, in_in, in_inN, iw_in, rq_in, pw_fold, nt_fold, ask_pw, has_eq, or_0, bt1, Bool.true_eq_false, Bool.false_eq_true, k2])
        exact h
      · rw [if_neg k2] at h
        (try simp (disch := omega) only [String.reduceEq, isRu_1, isRu_61, isGr_3, isSt_0, isSt_6, lg_selfT, isB_0, isB_1, eq_self, true_or, or_true, false_or, or_false, or_self, fa_lit, nI_add, pk_mul, pk_sub, nI_addm, nI_leI, nI_ltI, nI_eqI, vp_inI, ix_nI, forall_eq, true_implies, false_implies, not_true_eq_false, not_false_eq_true, and_true, true_and, false_and, and_false, nle_T, nle_F, nlt_T, nlt_F, neq_T, neq_F, up_rd_s, up_rd_n, up_nc, cpy_nc, cpy_in, cpy_out, cpyOk_T, m1_lt, m1_le, m1_nle, m1_nlt, m1_eq, m1_eq2, m1_0le, Nat.add_zero, Nat.zero_add, Nat.mul_one, Nat.sub_zero, if_true, if_false, Nat.add_sub_cancel, Nat.add_sub_cancel_left, in_in, in_inN, iw_in, rq_in, pw_fold, nt_fold, ask_pw, has_eq, or_0, bt1, Bool.true_eq_false, Bool.false_eq_true])
        exact h
theorem X12_signOf {k : Nat} {σ : Sto} {P : Int32 → Sto → Prop} (hk : k < 2147483648) (h : P (nI (sgn k)) σ) : D_X12_signOf (nI k) σ P := X10_signOf hk h
theorem X10_putCondition {l : List mRule} {k c : Nat} {T : List Nat} {σ : Sto} {P : Sto → Prop} (hR : RLE l σ) (hW : RW l) (hk : k < l.length) (hc : c < (rOf l k).2.2.2.length) (hT : WTE T σ) (hl : T.length + 40 ≤ 200) (h : ∀ σ' : Sto, (∀ k, k ≠ 83 → k ≠ 84 → σ' k = σ k) → WTE (T ++ condT (qOf (rOf l k) c)) σ' → P σ') : D_X10_putCondition 1 (nI k) (nI c) σ P := by
  have hn := hW.1
  have hWr := hW.2 _ (rMem hk)
  have hc4 := hWr.2.2.2.1
  obtain ⟨d0, d1, d2⟩ := rcE hR hk hc
  obtain ⟨x0, x1, x2, x3⟩ := hWr.2.2.2.2 _ (qMem hc)
  unfold D_X10_putCondition D_X6_conditionCell D_X6_conditionStart
  unfold condT at h
  (try simp (disch := omega) only [String.reduceEq, isRu_1, isRu_61, isGr_3, isSt_0, isSt_6, lg_selfT, isB_0, isB_1, eq_self, true_or, or_true, false_or, or_false, or_self, fa_lit, nI_add, pk_mul, pk_sub, nI_addm, nI_leI, nI_ltI, nI_eqI, vp_inI, ix_nI, forall_eq, true_implies, false_implies, not_true_eq_false, not_false_eq_true, and_true, true_and, false_and, and_false, nle_T, nle_F, nlt_T, nlt_F, neq_T, neq_F, up_rd_s, up_rd_n, up_nc, cpy_nc, cpy_in, cpy_out, cpyOk_T, m1_lt, m1_le, m1_nle, m1_nlt, m1_eq, m1_eq2, m1_0le, Nat.add_zero, Nat.zero_add, Nat.mul_one, Nat.sub_zero, if_true, if_false, Nat.add_sub_cancel, Nat.add_sub_cancel_left, in_in, in_inN, iw_in, rq_in, pw_fold, nt_fold, ask_pw, has_eq, or_0, bt1, Bool.true_eq_false, Bool.false_eq_true, d0, chI (show 97 + (qOf (rOf l k) c).1 < 65536 by omega)])
  refine X10_put hT (by omega) (by omega) (fun s s1 s2 => ?_)
  (try simp (disch := omega) only [String.reduceEq, isRu_1, isRu_61, isGr_3, isSt_0, isSt_6, lg_selfT, isB_0, isB_1, eq_self, true_or, or_true, false_or, or_false, or_self, fa_lit, nI_add, pk_mul, pk_sub, nI_addm, nI_leI, nI_ltI, nI_eqI, vp_inI, ix_nI, forall_eq, true_implies, false_implies, not_true_eq_false, not_false_eq_true, and_true, true_and, false_and, and_false, nle_T, nle_F, nlt_T, nlt_F, neq_T, neq_F, up_rd_s, up_rd_n, up_nc, cpy_nc, cpy_in, cpy_out, cpyOk_T, m1_lt, m1_le, m1_nle, m1_nlt, m1_eq, m1_eq2, m1_0le, Nat.add_zero, Nat.zero_add, Nat.mul_one, Nat.sub_zero, if_true, if_false, Nat.add_sub_cancel, Nat.add_sub_cancel_left, in_in, in_inN, iw_in, rq_in, pw_fold, nt_fold, ask_pw, has_eq, or_0, bt1, Bool.true_eq_false, Bool.false_eq_true, s1 2 (by omega) (by omega), d1, d2])
  by_cases q : (qOf (rOf l k) c).2.1 = 4
  · rw [if_pos q] at h
    (try simp (disch := omega) only [String.reduceEq, isRu_1, isRu_61, isGr_3, isSt_0, isSt_6, lg_selfT, isB_0, isB_1, eq_self, true_or, or_true, false_or, or_false, or_self, fa_lit, nI_add, pk_mul, pk_sub, nI_addm, nI_leI, nI_ltI, nI_eqI, vp_inI, ix_nI, forall_eq, true_implies, false_implies, not_true_eq_false, not_false_eq_true, and_true, true_and, false_and, and_false, nle_T, nle_F, nlt_T, nlt_F, neq_T, neq_F, up_rd_s, up_rd_n, up_nc, cpy_nc, cpy_in, cpy_out, cpyOk_T, m1_lt, m1_le, m1_nle, m1_nlt, m1_eq, m1_eq2, m1_0le, Nat.add_zero, Nat.zero_add, Nat.mul_one, Nat.sub_zero, if_true, if_false, Nat.add_sub_cancel, Nat.add_sub_cancel_left, in_in, in_inN, iw_in, rq_in, pw_fold, nt_fold, ask_pw, has_eq, or_0, bt1, Bool.true_eq_false, Bool.false_eq_true, q])
    refine X10_putSet s2 (by rw [snl]; omega) (fun t t1 t2 => h t (fun k k1 k2 => (t1 k k1 k2).trans (s1 k k1 k2)) ?_)
    rw [List.append_assoc] at t2
    exact t2
  · rw [if_neg q] at h
    (try simp (disch := omega) only [String.reduceEq, isRu_1, isRu_61, isGr_3, isSt_0, isSt_6, lg_selfT, isB_0, isB_1, eq_self, true_or, or_true, false_or, or_false, or_self, fa_lit, nI_add, pk_mul, pk_sub, nI_addm, nI_leI, nI_ltI, nI_eqI, vp_inI, ix_nI, forall_eq, true_implies, false_implies, not_true_eq_false, not_false_eq_true, and_true, true_and, false_and, and_false, nle_T, nle_F, nlt_T, nlt_F, neq_T, neq_F, up_rd_s, up_rd_n, up_nc, cpy_nc, cpy_in, cpy_out, cpyOk_T, m1_lt, m1_le, m1_nle, m1_nlt, m1_eq, m1_eq2, m1_0le, Nat.add_zero, Nat.zero_add, Nat.mul_one, Nat.sub_zero, if_true, if_false, Nat.add_sub_cancel, Nat.add_sub_cancel_left, in_in, in_inN, iw_in, rq_in, pw_fold, nt_fold, ask_pw, has_eq, or_0, bt1, Bool.true_eq_false, Bool.false_eq_true])
    refine X10_signOf (by omega) ?_
    refine X10_put s2 (by rw [snl]; omega) (sgn_lt _) (fun t t1 t2 => ?_)
    refine X10_putNumber t2 (by omega) (by rw [snl, snl]; omega) (fun u u1 u2 => h u (fun k k1 k2 => (u1 k k1 k2).trans ((t1 k k1 k2).trans (s1 k k1 k2))) ?_)
    rw [List.append_assoc, List.append_assoc] at u2
    exact u2
theorem X10_write {l : List mRule} {k : Nat} {σ : Sto} {P : Sto → Prop} (hR : RLE l σ) (hW : RW l) (hk : k < l.length) (h : ∀ σ' : Sto, (∀ k, k ≠ 83 → k ≠ 84 → σ' k = σ k) → WTE (txt (rOf l k)) σ' → P σ') : D_X10_write 1 (nI k) σ P := by
  refine ⟨⟨by decide, by decide⟩, fun K46 h46 => ?_⟩
  have hn := hW.1
  have hWr := hW.2 _ (rMem hk)
  obtain ⟨w0, w1, w2, w3, w4⟩ := hWr
  obtain ⟨b0, b1, b2, b3⟩ := rlE hR hk
  have main : ∀ s : Sto, (∀ k, k ≠ 83 → k ≠ 84 → s k = σ k) → WTE (txc (rOf l k) 0) s → K46 (nI (rOf l k).2.2.2.length) (nI 0) s := by
    intro s s1 s2
    refine lp (rOf l k).2.2.2.length (fun c t => K46 (nI (rOf l k).2.2.2.length) (nI c) t) (fun c t => (∀ k, k ≠ 83 → k ≠ 84 → t k = σ k) ∧ WTE (txc (rOf l k) c) t) ?_ ?_ s ⟨s1, s2⟩
    · intro t ⟨t1, t2⟩
      apply h46
      have hle := txc_len (rOf l k) (rOf l k).2.2.2.length
      (try simp (disch := omega) only [String.reduceEq, isRu_1, isRu_61, isGr_3, isSt_0, isSt_6, lg_selfT, isB_0, isB_1, eq_self, true_or, or_true, false_or, or_false, or_self, fa_lit, nI_add, pk_mul, pk_sub, nI_addm, nI_leI, nI_ltI, nI_eqI, vp_inI, ix_nI, forall_eq, true_implies, false_implies, not_true_eq_false, not_false_eq_true, and_true, true_and, false_and, and_false, nle_T, nle_F, nlt_T, nlt_F, neq_T, neq_F, up_rd_s, up_rd_n, up_nc, cpy_nc, cpy_in, cpy_out, cpyOk_T, m1_lt, m1_le, m1_nle, m1_nlt, m1_eq, m1_eq2, m1_0le, Nat.add_zero, Nat.zero_add, Nat.mul_one, Nat.sub_zero, if_true, if_false, Nat.add_sub_cancel, Nat.add_sub_cancel_left, in_in, in_inN, iw_in, rq_in, pw_fold, nt_fold, ask_pw, has_eq, or_0, bt1, Bool.true_eq_false, Bool.false_eq_true])
      refine X10_put (c := 58) t2 (by omega) (by decide) (fun u u1 u2 => ?_)
      have e2 : u 2 (k * 16 + 2) = nI (rOf l k).2.2.1 := by rw [u1 2 (by omega) (by omega), t1 2 (by omega) (by omega)]; exact b2
      (try simp (disch := omega) only [String.reduceEq, isRu_1, isRu_61, isGr_3, isSt_0, isSt_6, lg_selfT, isB_0, isB_1, eq_self, true_or, or_true, false_or, or_false, or_self, fa_lit, nI_add, pk_mul, pk_sub, nI_addm, nI_leI, nI_ltI, nI_eqI, vp_inI, ix_nI, forall_eq, true_implies, false_implies, not_true_eq_false, not_false_eq_true, and_true, true_and, false_and, and_false, nle_T, nle_F, nlt_T, nlt_F, neq_T, neq_F, up_rd_s, up_rd_n, up_nc, cpy_nc, cpy_in, cpy_out, cpyOk_T, m1_lt, m1_le, m1_nle, m1_nlt, m1_eq, m1_eq2, m1_0le, Nat.add_zero, Nat.zero_add, Nat.mul_one, Nat.sub_zero, if_true, if_false, Nat.add_sub_cancel, Nat.add_sub_cancel_left, in_in, in_inN, iw_in, rq_in, pw_fold, nt_fold, ask_pw, has_eq, or_0, bt1, Bool.true_eq_false, Bool.false_eq_true, D_X6_cell, e2])
      refine X10_putNumber u2 (by omega) (by rw [snl]; omega) (fun v v1 v2 => ?_)
      have hnum : num (rOf l k).2.2.1 = [48 + (rOf l k).2.2.1] := if_pos (by omega)
      rw [hnum] at v2
      refine X10_put (c := 59) v2 (by rw [snl, snl]; omega) (by decide) (fun z z1 z2 => h z (fun k k1 k2 => (z1 k k1 k2).trans ((v1 k k1 k2).trans ((u1 k k1 k2).trans (t1 k k1 k2)))) ?_)
      rw [List.append_assoc, List.append_assoc] at z2
      exact z2
    · intro c t hc ⟨t1, t2⟩ hnext
      apply h46
      have hle := txc_len (rOf l k) c
      have hS := txc_S (rOf l k) c
      rw [hS] at hnext
      have hRt : ∀ u : Sto, (∀ k, k ≠ 83 → k ≠ 84 → u k = σ k) → RLE l u := fun u hu => RLE_cg (hu 1 (by omega) (by omega)) (hu 2 (by omega) (by omega)) hR
      by_cases c0 : c = 0
      · rw [if_pos c0, List.nil_append] at hnext
        (try simp (disch := omega) only [String.reduceEq, isRu_1, isRu_61, isGr_3, isSt_0, isSt_6, lg_selfT, isB_0, isB_1, eq_self, true_or, or_true, false_or, or_false, or_self, fa_lit, nI_add, pk_mul, pk_sub, nI_addm, nI_leI, nI_ltI, nI_eqI, vp_inI, ix_nI, forall_eq, true_implies, false_implies, not_true_eq_false, not_false_eq_true, and_true, true_and, false_and, and_false, nle_T, nle_F, nlt_T, nlt_F, neq_T, neq_F, up_rd_s, up_rd_n, up_nc, cpy_nc, cpy_in, cpy_out, cpyOk_T, m1_lt, m1_le, m1_nle, m1_nlt, m1_eq, m1_eq2, m1_0le, Nat.add_zero, Nat.zero_add, Nat.mul_one, Nat.sub_zero, if_true, if_false, Nat.add_sub_cancel, Nat.add_sub_cancel_left, in_in, in_inN, iw_in, rq_in, pw_fold, nt_fold, ask_pw, has_eq, or_0, bt1, Bool.true_eq_false, Bool.false_eq_true])
        refine X10_putCondition (hRt t t1) hW hk hc t2 (by omega) (fun u u1 u2 => ?_)
        (try simp (disch := omega) only [String.reduceEq, isRu_1, isRu_61, isGr_3, isSt_0, isSt_6, lg_selfT, isB_0, isB_1, eq_self, true_or, or_true, false_or, or_false, or_self, fa_lit, nI_add, pk_mul, pk_sub, nI_addm, nI_leI, nI_ltI, nI_eqI, vp_inI, ix_nI, forall_eq, true_implies, false_implies, not_true_eq_false, not_false_eq_true, and_true, true_and, false_and, and_false, nle_T, nle_F, nlt_T, nlt_F, neq_T, neq_F, up_rd_s, up_rd_n, up_nc, cpy_nc, cpy_in, cpy_out, cpyOk_T, m1_lt, m1_le, m1_nle, m1_nlt, m1_eq, m1_eq2, m1_0le, Nat.add_zero, Nat.zero_add, Nat.mul_one, Nat.sub_zero, if_true, if_false, Nat.add_sub_cancel, Nat.add_sub_cancel_left, in_in, in_inN, iw_in, rq_in, pw_fold, nt_fold, ask_pw, has_eq, or_0, bt1, Bool.true_eq_false, Bool.false_eq_true])
        exact hnext u ⟨fun k k1 k2 => (u1 k k1 k2).trans (t1 k k1 k2), u2⟩
      · rw [if_neg c0] at hnext
        (try simp (disch := omega) only [String.reduceEq, isRu_1, isRu_61, isGr_3, isSt_0, isSt_6, lg_selfT, isB_0, isB_1, eq_self, true_or, or_true, false_or, or_false, or_self, fa_lit, nI_add, pk_mul, pk_sub, nI_addm, nI_leI, nI_ltI, nI_eqI, vp_inI, ix_nI, forall_eq, true_implies, false_implies, not_true_eq_false, not_false_eq_true, and_true, true_and, false_and, and_false, nle_T, nle_F, nlt_T, nlt_F, neq_T, neq_F, up_rd_s, up_rd_n, up_nc, cpy_nc, cpy_in, cpy_out, cpyOk_T, m1_lt, m1_le, m1_nle, m1_nlt, m1_eq, m1_eq2, m1_0le, Nat.add_zero, Nat.zero_add, Nat.mul_one, Nat.sub_zero, if_true, if_false, Nat.add_sub_cancel, Nat.add_sub_cancel_left, in_in, in_inN, iw_in, rq_in, pw_fold, nt_fold, ask_pw, has_eq, or_0, bt1, Bool.true_eq_false, Bool.false_eq_true])
        refine X10_put (c := 38) t2 (by omega) (by decide) (fun u u1 u2 => ?_)
        have u1' : ∀ k, k ≠ 83 → k ≠ 84 → u k = σ k := fun k k1 k2 => (u1 k k1 k2).trans (t1 k k1 k2)
        refine X10_putCondition (hRt u u1') hW hk hc u2 (by rw [snl]; omega) (fun v v1 v2 => ?_)
        (try simp (disch := omega) only [String.reduceEq, isRu_1, isRu_61, isGr_3, isSt_0, isSt_6, lg_selfT, isB_0, isB_1, eq_self, true_or, or_true, false_or, or_false, or_self, fa_lit, nI_add, pk_mul, pk_sub, nI_addm, nI_leI, nI_ltI, nI_eqI, vp_inI, ix_nI, forall_eq, true_implies, false_implies, not_true_eq_false, not_false_eq_true, and_true, true_and, false_and, and_false, nle_T, nle_F, nlt_T, nlt_F, neq_T, neq_F, up_rd_s, up_rd_n, up_nc, cpy_nc, cpy_in, cpy_out, cpyOk_T, m1_lt, m1_le, m1_nle, m1_nlt, m1_eq, m1_eq2, m1_0le, Nat.add_zero, Nat.zero_add, Nat.mul_one, Nat.sub_zero, if_true, if_false, Nat.add_sub_cancel, Nat.add_sub_cancel_left, in_in, in_inN, iw_in, rq_in, pw_fold, nt_fold, ask_pw, has_eq, or_0, bt1, Bool.true_eq_false, Bool.false_eq_true])
        refine hnext v ⟨fun k k1 k2 => (v1 k k1 k2).trans (u1' k k1 k2), ?_⟩
        rw [List.append_assoc] at v2
        exact v2
  have hT0 : WTE [] (up σ 83 1 (nI 0)) := ⟨by (try simp (disch := omega) only [String.reduceEq, isRu_1, isRu_61, isGr_3, isSt_0, isSt_6, lg_selfT, isB_0, isB_1, eq_self, true_or, or_true, false_or, or_false, or_self, fa_lit, nI_add, pk_mul, pk_sub, nI_addm, nI_leI, nI_ltI, nI_eqI, vp_inI, ix_nI, forall_eq, true_implies, false_implies, not_true_eq_false, not_false_eq_true, and_true, true_and, false_and, and_false, nle_T, nle_F, nlt_T, nlt_F, neq_T, neq_F, up_rd_s, up_rd_n, up_nc, cpy_nc, cpy_in, cpy_out, cpyOk_T, m1_lt, m1_le, m1_nle, m1_nlt, m1_eq, m1_eq2, m1_0le, Nat.add_zero, Nat.zero_add, Nat.mul_one, Nat.sub_zero, if_true, if_false, Nat.add_sub_cancel, Nat.add_sub_cancel_left, in_in, in_inN, iw_in, rq_in, pw_fold, nt_fold, ask_pw, has_eq, or_0, bt1, Bool.true_eq_false, Bool.false_eq_true]); rfl, fun k w hk => by simp at hk⟩
  (try simp (disch := omega) only [String.reduceEq, isRu_1, isRu_61, isGr_3, isSt_0, isSt_6, lg_selfT, isB_0, isB_1, eq_self, true_or, or_true, false_or, or_false, or_self, fa_lit, nI_add, pk_mul, pk_sub, nI_addm, nI_leI, nI_ltI, nI_eqI, vp_inI, ix_nI, forall_eq, true_implies, false_implies, not_true_eq_false, not_false_eq_true, and_true, true_and, false_and, and_false, nle_T, nle_F, nlt_T, nlt_F, neq_T, neq_F, up_rd_s, up_rd_n, up_nc, cpy_nc, cpy_in, cpy_out, cpyOk_T, m1_lt, m1_le, m1_nle, m1_nlt, m1_eq, m1_eq2, m1_0le, Nat.add_zero, Nat.zero_add, Nat.mul_one, Nat.sub_zero, if_true, if_false, Nat.add_sub_cancel, Nat.add_sub_cancel_left, in_in, in_inN, iw_in, rq_in, pw_fold, nt_fold, ask_pw, has_eq, or_0, bt1, Bool.true_eq_false, Bool.false_eq_true, D_X6_cell, b0])
  refine X10_putNumber hT0 (by omega) (by decide) (fun s s1 s2 => ?_)
  have hnum : num (rOf l k).1 = [48 + (rOf l k).1] := if_pos (by omega)
  rw [hnum, List.nil_append] at s2
  have g1 : ∀ k, k ≠ 83 → k ≠ 84 → s k = σ k := fun k k1 k2 => by rw [s1 k k1 k2]; (try simp (disch := omega) only [String.reduceEq, isRu_1, isRu_61, isGr_3, isSt_0, isSt_6, lg_selfT, isB_0, isB_1, eq_self, true_or, or_true, false_or, or_false, or_self, fa_lit, nI_add, pk_mul, pk_sub, nI_addm, nI_leI, nI_ltI, nI_eqI, vp_inI, ix_nI, forall_eq, true_implies, false_implies, not_true_eq_false, not_false_eq_true, and_true, true_and, false_and, and_false, nle_T, nle_F, nlt_T, nlt_F, neq_T, neq_F, up_rd_s, up_rd_n, up_nc, cpy_nc, cpy_in, cpy_out, cpyOk_T, m1_lt, m1_le, m1_nle, m1_nlt, m1_eq, m1_eq2, m1_0le, Nat.add_zero, Nat.zero_add, Nat.mul_one, Nat.sub_zero, if_true, if_false, Nat.add_sub_cancel, Nat.add_sub_cancel_left, in_in, in_inN, iw_in, rq_in, pw_fold, nt_fold, ask_pw, has_eq, or_0, bt1, Bool.true_eq_false, Bool.false_eq_true])
  (try simp (disch := omega) only [String.reduceEq, isRu_1, isRu_61, isGr_3, isSt_0, isSt_6, lg_selfT, isB_0, isB_1, eq_self, true_or, or_true, false_or, or_false, or_self, fa_lit, nI_add, pk_mul, pk_sub, nI_addm, nI_leI, nI_ltI, nI_eqI, vp_inI, ix_nI, forall_eq, true_implies, false_implies, not_true_eq_false, not_false_eq_true, and_true, true_and, false_and, and_false, nle_T, nle_F, nlt_T, nlt_F, neq_T, neq_F, up_rd_s, up_rd_n, up_nc, cpy_nc, cpy_in, cpy_out, cpyOk_T, m1_lt, m1_le, m1_nle, m1_nlt, m1_eq, m1_eq2, m1_0le, Nat.add_zero, Nat.zero_add, Nat.mul_one, Nat.sub_zero, if_true, if_false, Nat.add_sub_cancel, Nat.add_sub_cancel_left, in_in, in_inN, iw_in, rq_in, pw_fold, nt_fold, ask_pw, has_eq, or_0, bt1, Bool.true_eq_false, Bool.false_eq_true, g1 2 (by omega) (by omega), b1])
  have fin : ∀ x : Nat, x < 65536 → x = (if (rOf l k).2.1 = 1 then 45 else 43) → D_X10_put (nI x) s (fun s33 => K46 (nI (rOf l k).2.2.2.length) (nI 0) s33) := by
    intro x hx hxe
    refine X10_put s2 (by show 1 < 200; decide) hx (fun t t1 t2 => ?_)
    refine main t (fun k k1 k2 => (t1 k k1 k2).trans (g1 k k1 k2)) ?_
    rw [hxe] at t2
    exact t2
  by_cases e : (rOf l k).2.1 = 1
  · (try simp (disch := omega) only [String.reduceEq, isRu_1, isRu_61, isGr_3, isSt_0, isSt_6, lg_selfT, isB_0, isB_1, eq_self, true_or, or_true, false_or, or_false, or_self, fa_lit, nI_add, pk_mul, pk_sub, nI_addm, nI_leI, nI_ltI, nI_eqI, vp_inI, ix_nI, forall_eq, true_implies, false_implies, not_true_eq_false, not_false_eq_true, and_true, true_and, false_and, and_false, nle_T, nle_F, nlt_T, nlt_F, neq_T, neq_F, up_rd_s, up_rd_n, up_nc, cpy_nc, cpy_in, cpy_out, cpyOk_T, m1_lt, m1_le, m1_nle, m1_nlt, m1_eq, m1_eq2, m1_0le, Nat.add_zero, Nat.zero_add, Nat.mul_one, Nat.sub_zero, if_true, if_false, Nat.add_sub_cancel, Nat.add_sub_cancel_left, in_in, in_inN, iw_in, rq_in, pw_fold, nt_fold, ask_pw, has_eq, or_0, bt1, Bool.true_eq_false, Bool.false_eq_true, e])
    have := fin 45 (by decide) (if_pos e).symm
    refine X10_put s2 (by show 1 < 200; decide) (by decide) (fun t t1 t2 => ?_)
    have e3 : t 2 (k * 16 + 3) = nI (rOf l k).2.2.2.length := by rw [t1 2 (by omega) (by omega), g1 2 (by omega) (by omega)]; exact b3
    (try simp (disch := omega) only [String.reduceEq, isRu_1, isRu_61, isGr_3, isSt_0, isSt_6, lg_selfT, isB_0, isB_1, eq_self, true_or, or_true, false_or, or_false, or_self, fa_lit, nI_add, pk_mul, pk_sub, nI_addm, nI_leI, nI_ltI, nI_eqI, vp_inI, ix_nI, forall_eq, true_implies, false_implies, not_true_eq_false, not_false_eq_true, and_true, true_and, false_and, and_false, nle_T, nle_F, nlt_T, nlt_F, neq_T, neq_F, up_rd_s, up_rd_n, up_nc, cpy_nc, cpy_in, cpy_out, cpyOk_T, m1_lt, m1_le, m1_nle, m1_nlt, m1_eq, m1_eq2, m1_0le, Nat.add_zero, Nat.zero_add, Nat.mul_one, Nat.sub_zero, if_true, if_false, Nat.add_sub_cancel, Nat.add_sub_cancel_left, in_in, in_inN, iw_in, rq_in, pw_fold, nt_fold, ask_pw, has_eq, or_0, bt1, Bool.true_eq_false, Bool.false_eq_true, e3])
    refine main t (fun k k1 k2 => (t1 k k1 k2).trans (g1 k k1 k2)) ?_
    have hx : txc (rOf l k) 0 = [48 + (rOf l k).1] ++ [45] := by
      show [48 + (rOf l k).1, if (rOf l k).2.1 = 1 then 45 else 43] = _
      rw [if_pos e]
      rfl
    rw [hx]
    exact t2
  · (try simp (disch := omega) only [String.reduceEq, isRu_1, isRu_61, isGr_3, isSt_0, isSt_6, lg_selfT, isB_0, isB_1, eq_self, true_or, or_true, false_or, or_false, or_self, fa_lit, nI_add, pk_mul, pk_sub, nI_addm, nI_leI, nI_ltI, nI_eqI, vp_inI, ix_nI, forall_eq, true_implies, false_implies, not_true_eq_false, not_false_eq_true, and_true, true_and, false_and, and_false, nle_T, nle_F, nlt_T, nlt_F, neq_T, neq_F, up_rd_s, up_rd_n, up_nc, cpy_nc, cpy_in, cpy_out, cpyOk_T, m1_lt, m1_le, m1_nle, m1_nlt, m1_eq, m1_eq2, m1_0le, Nat.add_zero, Nat.zero_add, Nat.mul_one, Nat.sub_zero, if_true, if_false, Nat.add_sub_cancel, Nat.add_sub_cancel_left, in_in, in_inN, iw_in, rq_in, pw_fold, nt_fold, ask_pw, has_eq, or_0, bt1, Bool.true_eq_false, Bool.false_eq_true])
    refine X10_put s2 (by show 1 < 200; decide) (by decide) (fun t t1 t2 => ?_)
    have e3 : t 2 (k * 16 + 3) = nI (rOf l k).2.2.2.length := by rw [t1 2 (by omega) (by omega), g1 2 (by omega) (by omega)]; exact b3
    (try simp (disch := omega) only [String.reduceEq, isRu_1, isRu_61, isGr_3, isSt_0, isSt_6, lg_selfT, isB_0, isB_1, eq_self, true_or, or_true, false_or, or_false, or_self, fa_lit, nI_add, pk_mul, pk_sub, nI_addm, nI_leI, nI_ltI, nI_eqI, vp_inI, ix_nI, forall_eq, true_implies, false_implies, not_true_eq_false, not_false_eq_true, and_true, true_and, false_and, and_false, nle_T, nle_F, nlt_T, nlt_F, neq_T, neq_F, up_rd_s, up_rd_n, up_nc, cpy_nc, cpy_in, cpy_out, cpyOk_T, m1_lt, m1_le, m1_nle, m1_nlt, m1_eq, m1_eq2, m1_0le, Nat.add_zero, Nat.zero_add, Nat.mul_one, Nat.sub_zero, if_true, if_false, Nat.add_sub_cancel, Nat.add_sub_cancel_left, in_in, in_inN, iw_in, rq_in, pw_fold, nt_fold, ask_pw, has_eq, or_0, bt1, Bool.true_eq_false, Bool.false_eq_true, e3])
    refine main t (fun k k1 k2 => (t1 k k1 k2).trans (g1 k k1 k2)) ?_
    have hx : txc (rOf l k) 0 = [48 + (rOf l k).1] ++ [43] := by
      show [48 + (rOf l k).1, if (rOf l k).2.1 = 1 then 45 else 43] = _
      rw [if_neg e]
      rfl
    rw [hx]
    exact t2
theorem X12_tells {l : List mRule} {k : Nat} {σ : Sto} {P : Sto → Prop} (hR : RLM l σ) (hW : RW l) (hk : k < l.length) (h : ∀ σ' : Sto, (∀ k, k ≠ 87 → k ≠ 105 → σ' k = σ k) → (∀ f, f ≠ 31 → σ' 87 f = σ 87 f) → WTM (txt (rOf l k)) σ' → P σ') : D_X12_tells (nI k) σ P := by
  intro K41 K61 h41 h61
  have hn := hW.1
  have hWr := hW.2 _ (rMem hk)
  obtain ⟨w0, w1, w2, w3, w4⟩ := hWr
  obtain ⟨b0, b1, b2, b3⟩ := rlM hR hk
  have main : ∀ s : Sto, (∀ k, k ≠ 87 → k ≠ 105 → s k = σ k) → (∀ f, f ≠ 31 → s 87 f = σ 87 f) → WTM (txc (rOf l k) 0) s → K41 (nI 0) s := by
    intro s s1 s1b s2
    refine lp (rOf l k).2.2.2.length (fun c t => K41 (nI c) t) (fun c t => (∀ k, k ≠ 87 → k ≠ 105 → t k = σ k) ∧ (∀ f, f ≠ 31 → t 87 f = σ 87 f) ∧ WTM (txc (rOf l k) c) t) ?_ ?_ s ⟨s1, s1b, s2⟩
    · intro t ⟨t1, t1b, t2⟩
      apply h41
      have hle := txc_len (rOf l k) (rOf l k).2.2.2.length
      have e3 : t 88 (10 + 16 * k + 3) = nI (rOf l k).2.2.2.length := by rw [t1 88 (by omega) (by omega)]; exact b3
      (try simp (disch := omega) only [String.reduceEq, isRu_1, isRu_61, isGr_3, isSt_0, isSt_6, lg_selfT, isB_0, isB_1, eq_self, true_or, or_true, false_or, or_false, or_self, fa_lit, nI_add, pk_mul, pk_sub, nI_addm, nI_leI, nI_ltI, nI_eqI, vp_inI, ix_nI, forall_eq, true_implies, false_implies, not_true_eq_false, not_false_eq_true, and_true, true_and, false_and, and_false, nle_T, nle_F, nlt_T, nlt_F, neq_T, neq_F, up_rd_s, up_rd_n, up_nc, cpy_nc, cpy_in, cpy_out, cpyOk_T, m1_lt, m1_le, m1_nle, m1_nlt, m1_eq, m1_eq2, m1_0le, Nat.add_zero, Nat.zero_add, Nat.mul_one, Nat.sub_zero, if_true, if_false, Nat.add_sub_cancel, Nat.add_sub_cancel_left, in_in, in_inN, iw_in, rq_in, pw_fold, nt_fold, ask_pw, has_eq, or_0, bt1, Bool.true_eq_false, Bool.false_eq_true, D_X12_of, e3])
      refine X12_puts (c := 58) t2 (by omega) (fun u u1 u1b u2 => ?_)
      have e2 : u 88 (10 + 16 * k + 2) = nI (rOf l k).2.2.1 := by rw [u1 88 (by omega) (by omega), t1 88 (by omega) (by omega)]; exact b2
      (try simp (disch := omega) only [String.reduceEq, isRu_1, isRu_61, isGr_3, isSt_0, isSt_6, lg_selfT, isB_0, isB_1, eq_self, true_or, or_true, false_or, or_false, or_self, fa_lit, nI_add, pk_mul, pk_sub, nI_addm, nI_leI, nI_ltI, nI_eqI, vp_inI, ix_nI, forall_eq, true_implies, false_implies, not_true_eq_false, not_false_eq_true, and_true, true_and, false_and, and_false, nle_T, nle_F, nlt_T, nlt_F, neq_T, neq_F, up_rd_s, up_rd_n, up_nc, cpy_nc, cpy_in, cpy_out, cpyOk_T, m1_lt, m1_le, m1_nle, m1_nlt, m1_eq, m1_eq2, m1_0le, Nat.add_zero, Nat.zero_add, Nat.mul_one, Nat.sub_zero, if_true, if_false, Nat.add_sub_cancel, Nat.add_sub_cancel_left, in_in, in_inN, iw_in, rq_in, pw_fold, nt_fold, ask_pw, has_eq, or_0, bt1, Bool.true_eq_false, Bool.false_eq_true, e2])
      refine X12_puts u2 (by rw [snl]; omega) (fun v v1 v1b v2 => ?_)
      refine X12_puts (c := 59) v2 (by rw [snl, snl]; omega) (fun z z1 z1b z2 => h z (fun k k1 k2 => (z1 k k1 k2).trans ((v1 k k1 k2).trans ((u1 k k1 k2).trans (t1 k k1 k2)))) (fun f hf => (z1b f hf).trans ((v1b f hf).trans ((u1b f hf).trans (t1b f hf)))) ?_)
      rw [List.append_assoc, List.append_assoc] at z2
      exact z2
    · intro c t hc ⟨t1, t1b, t2⟩ hnext
      apply h41
      have hle := txc_len (rOf l k) c
      have hS := txc_S (rOf l k) c
      rw [hS] at hnext
      have e3 : t 88 (10 + 16 * k + 3) = nI (rOf l k).2.2.2.length := by rw [t1 88 (by omega) (by omega)]; exact b3
      have cnd : ∀ (T : List Nat) (u : Sto), (∀ k, k ≠ 87 → k ≠ 105 → u k = σ k) → (∀ f, f ≠ 31 → u 87 f = σ 87 f) → WTM T u → T.length + 40 ≤ 200 → (∀ u' : Sto, (∀ k, k ≠ 87 → k ≠ 105 → u' k = σ k) → (∀ f, f ≠ 31 → u' 87 f = σ 87 f) → WTM (T ++ condT (qOf (rOf l k) c)) u' → K41 (nI (c + 1)) u') → K61 (nI c) u := by
        intro T u u1 u1b u2 hl hP
        apply h61
        have hRu : RLM l u := RLM_cg (u1 88 (by omega) (by omega)) hR
        obtain ⟨d0, d1, d2⟩ := rcM hRu hk hc
        obtain ⟨x0, x1, x2, x3⟩ := w4 _ (qMem hc)
        unfold condT at hP
        (try simp (disch := omega) only [String.reduceEq, isRu_1, isRu_61, isGr_3, isSt_0, isSt_6, lg_selfT, isB_0, isB_1, eq_self, true_or, or_true, false_or, or_false, or_self, fa_lit, nI_add, pk_mul, pk_sub, nI_addm, nI_leI, nI_ltI, nI_eqI, vp_inI, ix_nI, forall_eq, true_implies, false_implies, not_true_eq_false, not_false_eq_true, and_true, true_and, false_and, and_false, nle_T, nle_F, nlt_T, nlt_F, neq_T, neq_F, up_rd_s, up_rd_n, up_nc, cpy_nc, cpy_in, cpy_out, cpyOk_T, m1_lt, m1_le, m1_nle, m1_nlt, m1_eq, m1_eq2, m1_0le, Nat.add_zero, Nat.zero_add, Nat.mul_one, Nat.sub_zero, if_true, if_false, Nat.add_sub_cancel, Nat.add_sub_cancel_left, in_in, in_inN, iw_in, rq_in, pw_fold, nt_fold, ask_pw, has_eq, or_0, bt1, Bool.true_eq_false, Bool.false_eq_true, D_X12_part, d0])
        refine X12_puts u2 (by omega) (fun s s1 s1b s2 => ?_)
        (try simp (disch := omega) only [String.reduceEq, isRu_1, isRu_61, isGr_3, isSt_0, isSt_6, lg_selfT, isB_0, isB_1, eq_self, true_or, or_true, false_or, or_false, or_self, fa_lit, nI_add, pk_mul, pk_sub, nI_addm, nI_leI, nI_ltI, nI_eqI, vp_inI, ix_nI, forall_eq, true_implies, false_implies, not_true_eq_false, not_false_eq_true, and_true, true_and, false_and, and_false, nle_T, nle_F, nlt_T, nlt_F, neq_T, neq_F, up_rd_s, up_rd_n, up_nc, cpy_nc, cpy_in, cpy_out, cpyOk_T, m1_lt, m1_le, m1_nle, m1_nlt, m1_eq, m1_eq2, m1_0le, Nat.add_zero, Nat.zero_add, Nat.mul_one, Nat.sub_zero, if_true, if_false, Nat.add_sub_cancel, Nat.add_sub_cancel_left, in_in, in_inN, iw_in, rq_in, pw_fold, nt_fold, ask_pw, has_eq, or_0, bt1, Bool.true_eq_false, Bool.false_eq_true, s1 88 (by omega) (by omega), d1, d2])
        by_cases q : (qOf (rOf l k) c).2.1 = 4
        · rw [if_pos q] at hP
          obtain ⟨j, hj, hjb⟩ := set_bit (x2 q).1 (x2 q).2
          (try simp (disch := omega) only [String.reduceEq, isRu_1, isRu_61, isGr_3, isSt_0, isSt_6, lg_selfT, isB_0, isB_1, eq_self, true_or, or_true, false_or, or_false, or_self, fa_lit, nI_add, pk_mul, pk_sub, nI_addm, nI_leI, nI_ltI, nI_eqI, vp_inI, ix_nI, forall_eq, true_implies, false_implies, not_true_eq_false, not_false_eq_true, and_true, true_and, false_and, and_false, nle_T, nle_F, nlt_T, nlt_F, neq_T, neq_F, up_rd_s, up_rd_n, up_nc, cpy_nc, cpy_in, cpy_out, cpyOk_T, m1_lt, m1_le, m1_nle, m1_nlt, m1_eq, m1_eq2, m1_0le, Nat.add_zero, Nat.zero_add, Nat.mul_one, Nat.sub_zero, if_true, if_false, Nat.add_sub_cancel, Nat.add_sub_cancel_left, in_in, in_inN, iw_in, rq_in, pw_fold, nt_fold, ask_pw, has_eq, or_0, bt1, Bool.true_eq_false, Bool.false_eq_true, q])
          refine X12_putsSet s2 (by rw [snl]; omega) hj hjb (fun t t1 t1b t2 => ?_)
          (try simp (disch := omega) only [String.reduceEq, isRu_1, isRu_61, isGr_3, isSt_0, isSt_6, lg_selfT, isB_0, isB_1, eq_self, true_or, or_true, false_or, or_false, or_self, fa_lit, nI_add, pk_mul, pk_sub, nI_addm, nI_leI, nI_ltI, nI_eqI, vp_inI, ix_nI, forall_eq, true_implies, false_implies, not_true_eq_false, not_false_eq_true, and_true, true_and, false_and, and_false, nle_T, nle_F, nlt_T, nlt_F, neq_T, neq_F, up_rd_s, up_rd_n, up_nc, cpy_nc, cpy_in, cpy_out, cpyOk_T, m1_lt, m1_le, m1_nle, m1_nlt, m1_eq, m1_eq2, m1_0le, Nat.add_zero, Nat.zero_add, Nat.mul_one, Nat.sub_zero, if_true, if_false, Nat.add_sub_cancel, Nat.add_sub_cancel_left, in_in, in_inN, iw_in, rq_in, pw_fold, nt_fold, ask_pw, has_eq, or_0, bt1, Bool.true_eq_false, Bool.false_eq_true])
          refine hP t (fun k k1 k2 => (t1 k k1 k2).trans ((s1 k k1 k2).trans (u1 k k1 k2))) (fun f hf => (t1b f hf).trans ((s1b f hf).trans (u1b f hf))) ?_
          rw [List.append_assoc] at t2
          exact t2
        · rw [if_neg q] at hP
          (try simp (disch := omega) only [String.reduceEq, isRu_1, isRu_61, isGr_3, isSt_0, isSt_6, lg_selfT, isB_0, isB_1, eq_self, true_or, or_true, false_or, or_false, or_self, fa_lit, nI_add, pk_mul, pk_sub, nI_addm, nI_leI, nI_ltI, nI_eqI, vp_inI, ix_nI, forall_eq, true_implies, false_implies, not_true_eq_false, not_false_eq_true, and_true, true_and, false_and, and_false, nle_T, nle_F, nlt_T, nlt_F, neq_T, neq_F, up_rd_s, up_rd_n, up_nc, cpy_nc, cpy_in, cpy_out, cpyOk_T, m1_lt, m1_le, m1_nle, m1_nlt, m1_eq, m1_eq2, m1_0le, Nat.add_zero, Nat.zero_add, Nat.mul_one, Nat.sub_zero, if_true, if_false, Nat.add_sub_cancel, Nat.add_sub_cancel_left, in_in, in_inN, iw_in, rq_in, pw_fold, nt_fold, ask_pw, has_eq, or_0, bt1, Bool.true_eq_false, Bool.false_eq_true])
          refine X12_signOf (by omega) ?_
          refine X12_puts s2 (by rw [snl]; omega) (fun t t1 t1b t2 => ?_)
          (try simp (disch := omega) only [String.reduceEq, isRu_1, isRu_61, isGr_3, isSt_0, isSt_6, lg_selfT, isB_0, isB_1, eq_self, true_or, or_true, false_or, or_false, or_self, fa_lit, nI_add, pk_mul, pk_sub, nI_addm, nI_leI, nI_ltI, nI_eqI, vp_inI, ix_nI, forall_eq, true_implies, false_implies, not_true_eq_false, not_false_eq_true, and_true, true_and, false_and, and_false, nle_T, nle_F, nlt_T, nlt_F, neq_T, neq_F, up_rd_s, up_rd_n, up_nc, cpy_nc, cpy_in, cpy_out, cpyOk_T, m1_lt, m1_le, m1_nle, m1_nlt, m1_eq, m1_eq2, m1_0le, Nat.add_zero, Nat.zero_add, Nat.mul_one, Nat.sub_zero, if_true, if_false, Nat.add_sub_cancel, Nat.add_sub_cancel_left, in_in, in_inN, iw_in, rq_in, pw_fold, nt_fold, ask_pw, has_eq, or_0, bt1, Bool.true_eq_false, Bool.false_eq_true, t1 88 (by omega) (by omega), s1 88 (by omega) (by omega), d2])
          refine X12_putsNumber t2 (by omega) (by rw [snl, snl]; omega) (fun v v1 v1b v2 => ?_)
          (try simp (disch := omega) only [String.reduceEq, isRu_1, isRu_61, isGr_3, isSt_0, isSt_6, lg_selfT, isB_0, isB_1, eq_self, true_or, or_true, false_or, or_false, or_self, fa_lit, nI_add, pk_mul, pk_sub, nI_addm, nI_leI, nI_ltI, nI_eqI, vp_inI, ix_nI, forall_eq, true_implies, false_implies, not_true_eq_false, not_false_eq_true, and_true, true_and, false_and, and_false, nle_T, nle_F, nlt_T, nlt_F, neq_T, neq_F, up_rd_s, up_rd_n, up_nc, cpy_nc, cpy_in, cpy_out, cpyOk_T, m1_lt, m1_le, m1_nle, m1_nlt, m1_eq, m1_eq2, m1_0le, Nat.add_zero, Nat.zero_add, Nat.mul_one, Nat.sub_zero, if_true, if_false, Nat.add_sub_cancel, Nat.add_sub_cancel_left, in_in, in_inN, iw_in, rq_in, pw_fold, nt_fold, ask_pw, has_eq, or_0, bt1, Bool.true_eq_false, Bool.false_eq_true])
          refine hP v (fun k k1 k2 => (v1 k k1 k2).trans ((t1 k k1 k2).trans ((s1 k k1 k2).trans (u1 k k1 k2)))) (fun f hf => (v1b f hf).trans ((t1b f hf).trans ((s1b f hf).trans (u1b f hf)))) ?_
          rw [List.append_assoc, List.append_assoc] at v2
          exact v2
      by_cases c0 : c = 0
      · rw [if_pos c0, List.nil_append] at hnext
        (try simp (disch := omega) only [String.reduceEq, isRu_1, isRu_61, isGr_3, isSt_0, isSt_6, lg_selfT, isB_0, isB_1, eq_self, true_or, or_true, false_or, or_false, or_self, fa_lit, nI_add, pk_mul, pk_sub, nI_addm, nI_leI, nI_ltI, nI_eqI, vp_inI, ix_nI, forall_eq, true_implies, false_implies, not_true_eq_false, not_false_eq_true, and_true, true_and, false_and, and_false, nle_T, nle_F, nlt_T, nlt_F, neq_T, neq_F, up_rd_s, up_rd_n, up_nc, cpy_nc, cpy_in, cpy_out, cpyOk_T, m1_lt, m1_le, m1_nle, m1_nlt, m1_eq, m1_eq2, m1_0le, Nat.add_zero, Nat.zero_add, Nat.mul_one, Nat.sub_zero, if_true, if_false, Nat.add_sub_cancel, Nat.add_sub_cancel_left, in_in, in_inN, iw_in, rq_in, pw_fold, nt_fold, ask_pw, has_eq, or_0, bt1, Bool.true_eq_false, Bool.false_eq_true, D_X12_of, e3])
        exact cnd _ t t1 t1b t2 (by omega) (fun u u1 u1b u2 => hnext u ⟨u1, u1b, u2⟩)
      · rw [if_neg c0] at hnext
        (try simp (disch := omega) only [String.reduceEq, isRu_1, isRu_61, isGr_3, isSt_0, isSt_6, lg_selfT, isB_0, isB_1, eq_self, true_or, or_true, false_or, or_false, or_self, fa_lit, nI_add, pk_mul, pk_sub, nI_addm, nI_leI, nI_ltI, nI_eqI, vp_inI, ix_nI, forall_eq, true_implies, false_implies, not_true_eq_false, not_false_eq_true, and_true, true_and, false_and, and_false, nle_T, nle_F, nlt_T, nlt_F, neq_T, neq_F, up_rd_s, up_rd_n, up_nc, cpy_nc, cpy_in, cpy_out, cpyOk_T, m1_lt, m1_le, m1_nle, m1_nlt, m1_eq, m1_eq2, m1_0le, Nat.add_zero, Nat.zero_add, Nat.mul_one, Nat.sub_zero, if_true, if_false, Nat.add_sub_cancel, Nat.add_sub_cancel_left, in_in, in_inN, iw_in, rq_in, pw_fold, nt_fold, ask_pw, has_eq, or_0, bt1, Bool.true_eq_false, Bool.false_eq_true, D_X12_of, e3])
        refine X12_puts (c := 38) t2 (by omega) (fun u u1 u1b u2 => ?_)
        refine cnd _ u (fun k k1 k2 => (u1 k k1 k2).trans (t1 k k1 k2)) (fun f hf => (u1b f hf).trans (t1b f hf)) u2 (by rw [snl]; omega) (fun v v1 v1b v2 => hnext v ⟨v1, v1b, ?_⟩)
        rw [List.append_assoc] at v2
        exact v2
  have hT0 : WTM [] (up σ 87 31 (nI 0)) := ⟨by (try simp (disch := omega) only [String.reduceEq, isRu_1, isRu_61, isGr_3, isSt_0, isSt_6, lg_selfT, isB_0, isB_1, eq_self, true_or, or_true, false_or, or_false, or_self, fa_lit, nI_add, pk_mul, pk_sub, nI_addm, nI_leI, nI_ltI, nI_eqI, vp_inI, ix_nI, forall_eq, true_implies, false_implies, not_true_eq_false, not_false_eq_true, and_true, true_and, false_and, and_false, nle_T, nle_F, nlt_T, nlt_F, neq_T, neq_F, up_rd_s, up_rd_n, up_nc, cpy_nc, cpy_in, cpy_out, cpyOk_T, m1_lt, m1_le, m1_nle, m1_nlt, m1_eq, m1_eq2, m1_0le, Nat.add_zero, Nat.zero_add, Nat.mul_one, Nat.sub_zero, if_true, if_false, Nat.add_sub_cancel, Nat.add_sub_cancel_left, in_in, in_inN, iw_in, rq_in, pw_fold, nt_fold, ask_pw, has_eq, or_0, bt1, Bool.true_eq_false, Bool.false_eq_true]); rfl, fun k w hk => by simp at hk⟩
  (try simp (disch := omega) only [String.reduceEq, isRu_1, isRu_61, isGr_3, isSt_0, isSt_6, lg_selfT, isB_0, isB_1, eq_self, true_or, or_true, false_or, or_false, or_self, fa_lit, nI_add, pk_mul, pk_sub, nI_addm, nI_leI, nI_ltI, nI_eqI, vp_inI, ix_nI, forall_eq, true_implies, false_implies, not_true_eq_false, not_false_eq_true, and_true, true_and, false_and, and_false, nle_T, nle_F, nlt_T, nlt_F, neq_T, neq_F, up_rd_s, up_rd_n, up_nc, cpy_nc, cpy_in, cpy_out, cpyOk_T, m1_lt, m1_le, m1_nle, m1_nlt, m1_eq, m1_eq2, m1_0le, Nat.add_zero, Nat.zero_add, Nat.mul_one, Nat.sub_zero, if_true, if_false, Nat.add_sub_cancel, Nat.add_sub_cancel_left, in_in, in_inN, iw_in, rq_in, pw_fold, nt_fold, ask_pw, has_eq, or_0, bt1, Bool.true_eq_false, Bool.false_eq_true, D_X12_of, b0])
  refine X12_puts hT0 (by decide) (fun s s1 s1b s2 => ?_)
  rw [List.nil_append] at s2
  have g1 : ∀ k, k ≠ 87 → k ≠ 105 → s k = σ k := fun k k1 k2 => by rw [s1 k k1 k2]; (try simp (disch := omega) only [String.reduceEq, isRu_1, isRu_61, isGr_3, isSt_0, isSt_6, lg_selfT, isB_0, isB_1, eq_self, true_or, or_true, false_or, or_false, or_self, fa_lit, nI_add, pk_mul, pk_sub, nI_addm, nI_leI, nI_ltI, nI_eqI, vp_inI, ix_nI, forall_eq, true_implies, false_implies, not_true_eq_false, not_false_eq_true, and_true, true_and, false_and, and_false, nle_T, nle_F, nlt_T, nlt_F, neq_T, neq_F, up_rd_s, up_rd_n, up_nc, cpy_nc, cpy_in, cpy_out, cpyOk_T, m1_lt, m1_le, m1_nle, m1_nlt, m1_eq, m1_eq2, m1_0le, Nat.add_zero, Nat.zero_add, Nat.mul_one, Nat.sub_zero, if_true, if_false, Nat.add_sub_cancel, Nat.add_sub_cancel_left, in_in, in_inN, iw_in, rq_in, pw_fold, nt_fold, ask_pw, has_eq, or_0, bt1, Bool.true_eq_false, Bool.false_eq_true])
  have g1b : ∀ f, f ≠ 31 → s 87 f = σ 87 f := fun f hf => by rw [s1b f hf]; (try simp (disch := omega) only [String.reduceEq, isRu_1, isRu_61, isGr_3, isSt_0, isSt_6, lg_selfT, isB_0, isB_1, eq_self, true_or, or_true, false_or, or_false, or_self, fa_lit, nI_add, pk_mul, pk_sub, nI_addm, nI_leI, nI_ltI, nI_eqI, vp_inI, ix_nI, forall_eq, true_implies, false_implies, not_true_eq_false, not_false_eq_true, and_true, true_and, false_and, and_false, nle_T, nle_F, nlt_T, nlt_F, neq_T, neq_F, up_rd_s, up_rd_n, up_nc, cpy_nc, cpy_in, cpy_out, cpyOk_T, m1_lt, m1_le, m1_nle, m1_nlt, m1_eq, m1_eq2, m1_0le, Nat.add_zero, Nat.zero_add, Nat.mul_one, Nat.sub_zero, if_true, if_false, Nat.add_sub_cancel, Nat.add_sub_cancel_left, in_in, in_inN, iw_in, rq_in, pw_fold, nt_fold, ask_pw, has_eq, or_0, bt1, Bool.true_eq_false, Bool.false_eq_true])
  (try simp (disch := omega) only [String.reduceEq, isRu_1, isRu_61, isGr_3, isSt_0, isSt_6, lg_selfT, isB_0, isB_1, eq_self, true_or, or_true, false_or, or_false, or_self, fa_lit, nI_add, pk_mul, pk_sub, nI_addm, nI_leI, nI_ltI, nI_eqI, vp_inI, ix_nI, forall_eq, true_implies, false_implies, not_true_eq_false, not_false_eq_true, and_true, true_and, false_and, and_false, nle_T, nle_F, nlt_T, nlt_F, neq_T, neq_F, up_rd_s, up_rd_n, up_nc, cpy_nc, cpy_in, cpy_out, cpyOk_T, m1_lt, m1_le, m1_nle, m1_nlt, m1_eq, m1_eq2, m1_0le, Nat.add_zero, Nat.zero_add, Nat.mul_one, Nat.sub_zero, if_true, if_false, Nat.add_sub_cancel, Nat.add_sub_cancel_left, in_in, in_inN, iw_in, rq_in, pw_fold, nt_fold, ask_pw, has_eq, or_0, bt1, Bool.true_eq_false, Bool.false_eq_true, g1 88 (by omega) (by omega), b1])
  by_cases e : (rOf l k).2.1 = 1
  · (try simp (disch := omega) only [String.reduceEq, isRu_1, isRu_61, isGr_3, isSt_0, isSt_6, lg_selfT, isB_0, isB_1, eq_self, true_or, or_true, false_or, or_false, or_self, fa_lit, nI_add, pk_mul, pk_sub, nI_addm, nI_leI, nI_ltI, nI_eqI, vp_inI, ix_nI, forall_eq, true_implies, false_implies, not_true_eq_false, not_false_eq_true, and_true, true_and, false_and, and_false, nle_T, nle_F, nlt_T, nlt_F, neq_T, neq_F, up_rd_s, up_rd_n, up_nc, cpy_nc, cpy_in, cpy_out, cpyOk_T, m1_lt, m1_le, m1_nle, m1_nlt, m1_eq, m1_eq2, m1_0le, Nat.add_zero, Nat.zero_add, Nat.mul_one, Nat.sub_zero, if_true, if_false, Nat.add_sub_cancel, Nat.add_sub_cancel_left, in_in, in_inN, iw_in, rq_in, pw_fold, nt_fold, ask_pw, has_eq, or_0, bt1, Bool.true_eq_false, Bool.false_eq_true, e])
    refine X12_puts s2 (by show 1 < 200; decide) (fun t t1 t1b t2 => ?_)
    refine main t (fun k k1 k2 => (t1 k k1 k2).trans (g1 k k1 k2)) (fun f hf => (t1b f hf).trans (g1b f hf)) ?_
    have hx : txc (rOf l k) 0 = [48 + (rOf l k).1] ++ [45] := by
      show [48 + (rOf l k).1, if (rOf l k).2.1 = 1 then 45 else 43] = _
      rw [if_pos e]
      rfl
    rw [hx]
    exact t2
  · (try simp (disch := omega) only [String.reduceEq, isRu_1, isRu_61, isGr_3, isSt_0, isSt_6, lg_selfT, isB_0, isB_1, eq_self, true_or, or_true, false_or, or_false, or_self, fa_lit, nI_add, pk_mul, pk_sub, nI_addm, nI_leI, nI_ltI, nI_eqI, vp_inI, ix_nI, forall_eq, true_implies, false_implies, not_true_eq_false, not_false_eq_true, and_true, true_and, false_and, and_false, nle_T, nle_F, nlt_T, nlt_F, neq_T, neq_F, up_rd_s, up_rd_n, up_nc, cpy_nc, cpy_in, cpy_out, cpyOk_T, m1_lt, m1_le, m1_nle, m1_nlt, m1_eq, m1_eq2, m1_0le, Nat.add_zero, Nat.zero_add, Nat.mul_one, Nat.sub_zero, if_true, if_false, Nat.add_sub_cancel, Nat.add_sub_cancel_left, in_in, in_inN, iw_in, rq_in, pw_fold, nt_fold, ask_pw, has_eq, or_0, bt1, Bool.true_eq_false, Bool.false_eq_true])
    refine X12_puts s2 (by show 1 < 200; decide) (fun t t1 t1b t2 => ?_)
    refine main t (fun k k1 k2 => (t1 k k1 k2).trans (g1 k k1 k2)) (fun f hf => (t1b f hf).trans (g1b f hf)) ?_
    have hx : txc (rOf l k) 0 = [48 + (rOf l k).1] ++ [43] := by
      show [48 + (rOf l k).1, if (rOf l k).2.1 = 1 then 45 else 43] = _
      rw [if_neg e]
      rfl
    rw [hx]
    exact t2
theorem o_44 {xs : Nat → Int32} {i : Nat} {σ : Sto} {x : XP} {P : Sto → XP → Prop} (hI : Inv σ) (h : ∀ σ' x', Inv σ' → P σ' x') : DL_44 xs i σ x P := by
  obtain ⟨a, hw, hE, hM⟩ := hI
  unfold DL_44 D_L_describe D_X11_describe D_X12_describe D_X12_isRule D_X11_requireRule D_X12_thrown D_X12_fails D_X11_requireElement
  generalize xs (i + 1) = a1
  generalize xs (i + 2) = a2
  have e1 : σ 1 1 = nI (aCore a).1.length := hE.1.1
  have e2 : σ 88 0 = nI (aCore a).1.length := hM.1.1
  have hn : (aCore a).1.length ≤ 24 := hw.1.1
  rcases rg a1 (n := (aCore a).1.length) (by omega) with h1 | ⟨r, hr, rfl⟩
  · (try simp (disch := omega) only [String.reduceEq, isRu_1, isRu_61, isGr_3, isSt_0, isSt_6, lg_selfT, isB_0, isB_1, eq_self, true_or, or_true, false_or, or_false, or_self, fa_lit, nI_add, pk_mul, pk_sub, nI_addm, nI_leI, nI_ltI, nI_eqI, vp_inI, ix_nI, forall_eq, true_implies, false_implies, not_true_eq_false, not_false_eq_true, and_true, true_and, false_and, and_false, nle_T, nle_F, nlt_T, nlt_F, neq_T, neq_F, up_rd_s, up_rd_n, up_nc, cpy_nc, cpy_in, cpy_out, cpyOk_T, m1_lt, m1_le, m1_nle, m1_nlt, m1_eq, m1_eq2, m1_0le, Nat.add_zero, Nat.zero_add, Nat.mul_one, Nat.sub_zero, if_true, if_false, Nat.add_sub_cancel, Nat.add_sub_cancel_left, in_in, in_inN, iw_in, rq_in, pw_fold, nt_fold, ask_pw, has_eq, or_0, bt1, Bool.true_eq_false, Bool.false_eq_true, e1, rq_out h1, e2, in_outN (by omega) h1])
    exact h _ _ (inv_scr hw hE hM (fun k hk => by unfold reC at hk; (try simp (disch := omega) only [String.reduceEq, isRu_1, isRu_61, isGr_3, isSt_0, isSt_6, lg_selfT, isB_0, isB_1, eq_self, true_or, or_true, false_or, or_false, or_self, fa_lit, nI_add, pk_mul, pk_sub, nI_addm, nI_leI, nI_ltI, nI_eqI, vp_inI, ix_nI, forall_eq, true_implies, false_implies, not_true_eq_false, not_false_eq_true, and_true, true_and, false_and, and_false, nle_T, nle_F, nlt_T, nlt_F, neq_T, neq_F, up_rd_s, up_rd_n, up_nc, cpy_nc, cpy_in, cpy_out, cpyOk_T, m1_lt, m1_le, m1_nle, m1_nlt, m1_eq, m1_eq2, m1_0le, Nat.add_zero, Nat.zero_add, Nat.mul_one, Nat.sub_zero, if_true, if_false, Nat.add_sub_cancel, Nat.add_sub_cancel_left, in_in, in_inN, iw_in, rq_in, pw_fold, nt_fold, ask_pw, has_eq, or_0, bt1, Bool.true_eq_false, Bool.false_eq_true])) (fun k hk => by unfold rmC at hk; (try simp (disch := omega) only [String.reduceEq, isRu_1, isRu_61, isGr_3, isSt_0, isSt_6, lg_selfT, isB_0, isB_1, eq_self, true_or, or_true, false_or, or_false, or_self, fa_lit, nI_add, pk_mul, pk_sub, nI_addm, nI_leI, nI_ltI, nI_eqI, vp_inI, ix_nI, forall_eq, true_implies, false_implies, not_true_eq_false, not_false_eq_true, and_true, true_and, false_and, and_false, nle_T, nle_F, nlt_T, nlt_F, neq_T, neq_F, up_rd_s, up_rd_n, up_nc, cpy_nc, cpy_in, cpy_out, cpyOk_T, m1_lt, m1_le, m1_nle, m1_nlt, m1_eq, m1_eq2, m1_0le, Nat.add_zero, Nat.zero_add, Nat.mul_one, Nat.sub_zero, if_true, if_false, Nat.add_sub_cancel, Nat.add_sub_cancel_left, in_in, in_inN, iw_in, rq_in, pw_fold, nt_fold, ask_pw, has_eq, or_0, bt1, Bool.true_eq_false, Bool.false_eq_true])) (fun f hf => by unfold rmF at hf; (try simp (disch := omega) only [String.reduceEq, isRu_1, isRu_61, isGr_3, isSt_0, isSt_6, lg_selfT, isB_0, isB_1, eq_self, true_or, or_true, false_or, or_false, or_self, fa_lit, nI_add, pk_mul, pk_sub, nI_addm, nI_leI, nI_ltI, nI_eqI, vp_inI, ix_nI, forall_eq, true_implies, false_implies, not_true_eq_false, not_false_eq_true, and_true, true_and, false_and, and_false, nle_T, nle_F, nlt_T, nlt_F, neq_T, neq_F, up_rd_s, up_rd_n, up_nc, cpy_nc, cpy_in, cpy_out, cpyOk_T, m1_lt, m1_le, m1_nle, m1_nlt, m1_eq, m1_eq2, m1_0le, Nat.add_zero, Nat.zero_add, Nat.mul_one, Nat.sub_zero, if_true, if_false, Nat.add_sub_cancel, Nat.add_sub_cancel_left, in_in, in_inN, iw_in, rq_in, pw_fold, nt_fold, ask_pw, has_eq, or_0, bt1, Bool.true_eq_false, Bool.false_eq_true])))
  (try simp (disch := omega) only [String.reduceEq, isRu_1, isRu_61, isGr_3, isSt_0, isSt_6, lg_selfT, isB_0, isB_1, eq_self, true_or, or_true, false_or, or_false, or_self, fa_lit, nI_add, pk_mul, pk_sub, nI_addm, nI_leI, nI_ltI, nI_eqI, vp_inI, ix_nI, forall_eq, true_implies, false_implies, not_true_eq_false, not_false_eq_true, and_true, true_and, false_and, and_false, nle_T, nle_F, nlt_T, nlt_F, neq_T, neq_F, up_rd_s, up_rd_n, up_nc, cpy_nc, cpy_in, cpy_out, cpyOk_T, m1_lt, m1_le, m1_nle, m1_nlt, m1_eq, m1_eq2, m1_0le, Nat.add_zero, Nat.zero_add, Nat.mul_one, Nat.sub_zero, if_true, if_false, Nat.add_sub_cancel, Nat.add_sub_cancel_left, in_in, in_inN, iw_in, rq_in, pw_fold, nt_fold, ask_pw, has_eq, or_0, bt1, Bool.true_eq_false, Bool.false_eq_true, e1])
  have hWr := (RW_of hw).2 _ (rMem hr)
  have hle := txt_len hWr
  have hpos : 0 < (txt (rOf (aCore a).1 r)).length := by
    unfold txt
    rw [List.length_append]
    show 0 < _ + 3
    omega
  refine X10_write (RLE_of hE) (RW_of hw) hr (fun σ1 f1 t1 => ?_)
  have tl := t1.1
  have mo : ∀ (Q : Int32 → Sto → Prop), (∀ σ2 : Sto, (∀ k, k ≠ 87 → k ≠ 105 → σ2 k = σ1 k) → (∀ f, f ≠ 31 → f ≠ 8 → σ2 87 f = σ1 87 f) → σ2 87 8 = nI 0 → WTM (txt (rOf (aCore a).1 r)) σ2 → Q 0 σ2) → D_X12_tells (nI r) (up σ1 87 8 (nI 0)) (fun s => Q 0 s) := by
    intro Q hQ
    refine X12_tells (l := (aCore a).1) (RLM_cg (by (try simp (disch := omega) only [String.reduceEq, isRu_1, isRu_61, isGr_3, isSt_0, isSt_6, lg_selfT, isB_0, isB_1, eq_self, true_or, or_true, false_or, or_false, or_self, fa_lit, nI_add, pk_mul, pk_sub, nI_addm, nI_leI, nI_ltI, nI_eqI, vp_inI, ix_nI, forall_eq, true_implies, false_implies, not_true_eq_false, not_false_eq_true, and_true, true_and, false_and, and_false, nle_T, nle_F, nlt_T, nlt_F, neq_T, neq_F, up_rd_s, up_rd_n, up_nc, cpy_nc, cpy_in, cpy_out, cpyOk_T, m1_lt, m1_le, m1_nle, m1_nlt, m1_eq, m1_eq2, m1_0le, Nat.add_zero, Nat.zero_add, Nat.mul_one, Nat.sub_zero, if_true, if_false, Nat.add_sub_cancel, Nat.add_sub_cancel_left, in_in, in_inN, iw_in, rq_in, pw_fold, nt_fold, ask_pw, has_eq, or_0, bt1, Bool.true_eq_false, Bool.false_eq_true]); exact f1 88 (by omega) (by omega)) (RLM_of hM)) (RW_of hw) hr (fun σ2 f2 f2b t2 => hQ σ2 (fun k k1 k2 => ?_) (fun f g1 g2 => ?_) ?_ t2)
    · rw [f2 k k1 k2]; (try simp (disch := omega) only [String.reduceEq, isRu_1, isRu_61, isGr_3, isSt_0, isSt_6, lg_selfT, isB_0, isB_1, eq_self, true_or, or_true, false_or, or_false, or_self, fa_lit, nI_add, pk_mul, pk_sub, nI_addm, nI_leI, nI_ltI, nI_eqI, vp_inI, ix_nI, forall_eq, true_implies, false_implies, not_true_eq_false, not_false_eq_true, and_true, true_and, false_and, and_false, nle_T, nle_F, nlt_T, nlt_F, neq_T, neq_F, up_rd_s, up_rd_n, up_nc, cpy_nc, cpy_in, cpy_out, cpyOk_T, m1_lt, m1_le, m1_nle, m1_nlt, m1_eq, m1_eq2, m1_0le, Nat.add_zero, Nat.zero_add, Nat.mul_one, Nat.sub_zero, if_true, if_false, Nat.add_sub_cancel, Nat.add_sub_cancel_left, in_in, in_inN, iw_in, rq_in, pw_fold, nt_fold, ask_pw, has_eq, or_0, bt1, Bool.true_eq_false, Bool.false_eq_true])
    · rw [f2b f g1]; (try simp (disch := omega) only [String.reduceEq, isRu_1, isRu_61, isGr_3, isSt_0, isSt_6, lg_selfT, isB_0, isB_1, eq_self, true_or, or_true, false_or, or_false, or_self, fa_lit, nI_add, pk_mul, pk_sub, nI_addm, nI_leI, nI_ltI, nI_eqI, vp_inI, ix_nI, forall_eq, true_implies, false_implies, not_true_eq_false, not_false_eq_true, and_true, true_and, false_and, and_false, nle_T, nle_F, nlt_T, nlt_F, neq_T, neq_F, up_rd_s, up_rd_n, up_nc, cpy_nc, cpy_in, cpy_out, cpyOk_T, m1_lt, m1_le, m1_nle, m1_nlt, m1_eq, m1_eq2, m1_0le, Nat.add_zero, Nat.zero_add, Nat.mul_one, Nat.sub_zero, if_true, if_false, Nat.add_sub_cancel, Nat.add_sub_cancel_left, in_in, in_inN, iw_in, rq_in, pw_fold, nt_fold, ask_pw, has_eq, or_0, bt1, Bool.true_eq_false, Bool.false_eq_true])
    · rw [f2b 8 (by omega), up_at]
  have fin : ∀ (σ2 : Sto) (x' : XP), (∀ k, k ≠ 87 → k ≠ 105 → σ2 k = σ1 k) → (∀ f, f ≠ 31 → f ≠ 8 → σ2 87 f = σ1 87 f) → P σ2 x' := by
    intro σ2 x' f2 f2b
    refine h _ _ (inv_scr hw hE hM (fun k hk => ?_) (fun k hk => ?_) (fun f hf => ?_))
    · unfold reC at hk; rw [f2 k (by omega) (by omega)]; exact f1 k (by omega) (by omega)
    · unfold rmC at hk; rw [f2 k (by omega) (by omega)]; exact f1 k (by omega) (by omega)
    · unfold rmF at hf; rw [f2b f (by omega) (by omega), f1 87 (by omega) (by omega)]
  rcases rgm a2 (n := (txt (rOf (aCore a).1 r)).length) (by omega) with h2 | rfl | ⟨q, hq, rfl⟩
  · have h3 : a2 < nI 0 ∨ nI (txt (rOf (aCore a).1 r)).length ≤ a2 := by
      rcases h2 with z | z
      · refine Or.inl ?_
        rw [fa_lt] at z ⊢
        have : (nI 0).toInt = 0 := rfl
        have := m1_i
        omega
      · exact Or.inr z
    have hne : (a2 = -nI 1) = False := by
      refine eq_false fun z => ?_
      subst z
      rcases h2 with z | z
      · exact absurd z Int32.lt_irrefl
      · rw [m1_nle (by omega)] at z
        exact z
    (try simp (disch := omega) only [String.reduceEq, isRu_1, isRu_61, isGr_3, isSt_0, isSt_6, lg_selfT, isB_0, isB_1, eq_self, true_or, or_true, false_or, or_false, or_self, fa_lit, nI_add, pk_mul, pk_sub, nI_addm, nI_leI, nI_ltI, nI_eqI, vp_inI, ix_nI, forall_eq, true_implies, false_implies, not_true_eq_false, not_false_eq_true, and_true, true_and, false_and, and_false, nle_T, nle_F, nlt_T, nlt_F, neq_T, neq_F, up_rd_s, up_rd_n, up_nc, cpy_nc, cpy_in, cpy_out, cpyOk_T, m1_lt, m1_le, m1_nle, m1_nlt, m1_eq, m1_eq2, m1_0le, Nat.add_zero, Nat.zero_add, Nat.mul_one, Nat.sub_zero, if_true, if_false, Nat.add_sub_cancel, Nat.add_sub_cancel_left, in_in, in_inN, iw_in, rq_in, pw_fold, nt_fold, ask_pw, has_eq, or_0, bt1, Bool.true_eq_false, Bool.false_eq_true, tl, iw_out (m := (txt (rOf (aCore a).1 r)).length - 1) (n := (txt (rOf (aCore a).1 r)).length) (by omega) (by omega) h2])
    (try simp (disch := omega) only [String.reduceEq, isRu_1, isRu_61, isGr_3, isSt_0, isSt_6, lg_selfT, isB_0, isB_1, eq_self, true_or, or_true, false_or, or_false, or_self, fa_lit, nI_add, pk_mul, pk_sub, nI_addm, nI_leI, nI_ltI, nI_eqI, vp_inI, ix_nI, forall_eq, true_implies, false_implies, not_true_eq_false, not_false_eq_true, and_true, true_and, false_and, and_false, nle_T, nle_F, nlt_T, nlt_F, neq_T, neq_F, up_rd_s, up_rd_n, up_nc, cpy_nc, cpy_in, cpy_out, cpyOk_T, m1_lt, m1_le, m1_nle, m1_nlt, m1_eq, m1_eq2, m1_0le, Nat.add_zero, Nat.zero_add, Nat.mul_one, Nat.sub_zero, if_true, if_false, Nat.add_sub_cancel, Nat.add_sub_cancel_left, in_in, in_inN, iw_in, rq_in, pw_fold, nt_fold, ask_pw, has_eq, or_0, bt1, Bool.true_eq_false, Bool.false_eq_true, f1 88 (by omega) (by omega), e2])
    refine X12_tells (l := (aCore a).1) (RLM_cg (by (try simp (disch := omega) only [String.reduceEq, isRu_1, isRu_61, isGr_3, isSt_0, isSt_6, lg_selfT, isB_0, isB_1, eq_self, true_or, or_true, false_or, or_false, or_self, fa_lit, nI_add, pk_mul, pk_sub, nI_addm, nI_leI, nI_ltI, nI_eqI, vp_inI, ix_nI, forall_eq, true_implies, false_implies, not_true_eq_false, not_false_eq_true, and_true, true_and, false_and, and_false, nle_T, nle_F, nlt_T, nlt_F, neq_T, neq_F, up_rd_s, up_rd_n, up_nc, cpy_nc, cpy_in, cpy_out, cpyOk_T, m1_lt, m1_le, m1_nle, m1_nlt, m1_eq, m1_eq2, m1_0le, Nat.add_zero, Nat.zero_add, Nat.mul_one, Nat.sub_zero, if_true, if_false, Nat.add_sub_cancel, Nat.add_sub_cancel_left, in_in, in_inN, iw_in, rq_in, pw_fold, nt_fold, ask_pw, has_eq, or_0, bt1, Bool.true_eq_false, Bool.false_eq_true]); exact f1 88 (by omega) (by omega)) (RLM_of hM)) (RW_of hw) hr (fun σ2 f2 f2b t2 => ?_)
    (try simp (disch := omega) only [String.reduceEq, isRu_1, isRu_61, isGr_3, isSt_0, isSt_6, lg_selfT, isB_0, isB_1, eq_self, true_or, or_true, false_or, or_false, or_self, fa_lit, nI_add, pk_mul, pk_sub, nI_addm, nI_leI, nI_ltI, nI_eqI, vp_inI, ix_nI, forall_eq, true_implies, false_implies, not_true_eq_false, not_false_eq_true, and_true, true_and, false_and, and_false, nle_T, nle_F, nlt_T, nlt_F, neq_T, neq_F, up_rd_s, up_rd_n, up_nc, cpy_nc, cpy_in, cpy_out, cpyOk_T, m1_lt, m1_le, m1_nle, m1_nlt, m1_eq, m1_eq2, m1_0le, Nat.add_zero, Nat.zero_add, Nat.mul_one, Nat.sub_zero, if_true, if_false, Nat.add_sub_cancel, Nat.add_sub_cancel_left, in_in, in_inN, iw_in, rq_in, pw_fold, nt_fold, ask_pw, has_eq, or_0, bt1, Bool.true_eq_false, Bool.false_eq_true, hne, t2.1, in_out (m := (txt (rOf (aCore a).1 r)).length - 1) (n := (txt (rOf (aCore a).1 r)).length) (by omega) (by omega) h3])
    refine fin _ _ (fun k k1 k2 => ?_) (fun f g1 g2 => ?_)
    · (try simp (disch := omega) only [String.reduceEq, isRu_1, isRu_61, isGr_3, isSt_0, isSt_6, lg_selfT, isB_0, isB_1, eq_self, true_or, or_true, false_or, or_false, or_self, fa_lit, nI_add, pk_mul, pk_sub, nI_addm, nI_leI, nI_ltI, nI_eqI, vp_inI, ix_nI, forall_eq, true_implies, false_implies, not_true_eq_false, not_false_eq_true, and_true, true_and, false_and, and_false, nle_T, nle_F, nlt_T, nlt_F, neq_T, neq_F, up_rd_s, up_rd_n, up_nc, cpy_nc, cpy_in, cpy_out, cpyOk_T, m1_lt, m1_le, m1_nle, m1_nlt, m1_eq, m1_eq2, m1_0le, Nat.add_zero, Nat.zero_add, Nat.mul_one, Nat.sub_zero, if_true, if_false, Nat.add_sub_cancel, Nat.add_sub_cancel_left, in_in, in_inN, iw_in, rq_in, pw_fold, nt_fold, ask_pw, has_eq, or_0, bt1, Bool.true_eq_false, Bool.false_eq_true]); rw [f2 k k1 k2]; (try simp (disch := omega) only [String.reduceEq, isRu_1, isRu_61, isGr_3, isSt_0, isSt_6, lg_selfT, isB_0, isB_1, eq_self, true_or, or_true, false_or, or_false, or_self, fa_lit, nI_add, pk_mul, pk_sub, nI_addm, nI_leI, nI_ltI, nI_eqI, vp_inI, ix_nI, forall_eq, true_implies, false_implies, not_true_eq_false, not_false_eq_true, and_true, true_and, false_and, and_false, nle_T, nle_F, nlt_T, nlt_F, neq_T, neq_F, up_rd_s, up_rd_n, up_nc, cpy_nc, cpy_in, cpy_out, cpyOk_T, m1_lt, m1_le, m1_nle, m1_nlt, m1_eq, m1_eq2, m1_0le, Nat.add_zero, Nat.zero_add, Nat.mul_one, Nat.sub_zero, if_true, if_false, Nat.add_sub_cancel, Nat.add_sub_cancel_left, in_in, in_inN, iw_in, rq_in, pw_fold, nt_fold, ask_pw, has_eq, or_0, bt1, Bool.true_eq_false, Bool.false_eq_true])
    · (try simp (disch := omega) only [String.reduceEq, isRu_1, isRu_61, isGr_3, isSt_0, isSt_6, lg_selfT, isB_0, isB_1, eq_self, true_or, or_true, false_or, or_false, or_self, fa_lit, nI_add, pk_mul, pk_sub, nI_addm, nI_leI, nI_ltI, nI_eqI, vp_inI, ix_nI, forall_eq, true_implies, false_implies, not_true_eq_false, not_false_eq_true, and_true, true_and, false_and, and_false, nle_T, nle_F, nlt_T, nlt_F, neq_T, neq_F, up_rd_s, up_rd_n, up_nc, cpy_nc, cpy_in, cpy_out, cpyOk_T, m1_lt, m1_le, m1_nle, m1_nlt, m1_eq, m1_eq2, m1_0le, Nat.add_zero, Nat.zero_add, Nat.mul_one, Nat.sub_zero, if_true, if_false, Nat.add_sub_cancel, Nat.add_sub_cancel_left, in_in, in_inN, iw_in, rq_in, pw_fold, nt_fold, ask_pw, has_eq, or_0, bt1, Bool.true_eq_false, Bool.false_eq_true]); rw [f2b f g1]; (try simp (disch := omega) only [String.reduceEq, isRu_1, isRu_61, isGr_3, isSt_0, isSt_6, lg_selfT, isB_0, isB_1, eq_self, true_or, or_true, false_or, or_false, or_self, fa_lit, nI_add, pk_mul, pk_sub, nI_addm, nI_leI, nI_ltI, nI_eqI, vp_inI, ix_nI, forall_eq, true_implies, false_implies, not_true_eq_false, not_false_eq_true, and_true, true_and, false_and, and_false, nle_T, nle_F, nlt_T, nlt_F, neq_T, neq_F, up_rd_s, up_rd_n, up_nc, cpy_nc, cpy_in, cpy_out, cpyOk_T, m1_lt, m1_le, m1_nle, m1_nlt, m1_eq, m1_eq2, m1_0le, Nat.add_zero, Nat.zero_add, Nat.mul_one, Nat.sub_zero, if_true, if_false, Nat.add_sub_cancel, Nat.add_sub_cancel_left, in_in, in_inN, iw_in, rq_in, pw_fold, nt_fold, ask_pw, has_eq, or_0, bt1, Bool.true_eq_false, Bool.false_eq_true])
  · have q1 : D_X11_isWithin (-nI 1) (-nI 1) (nI ((txt (rOf (aCore a).1 r)).length - 1)) = fun σ P => P (nI 1) σ := by
      funext σ P
      unfold D_X11_isWithin
      have h1 : ¬ (-nI 1 < -nI 1) := Int32.lt_irrefl
      simp (disch := omega) only [h1, m1_nlt, false_implies, true_and, not_false_eq_true, true_implies]
      rfl
    (try simp (disch := omega) only [String.reduceEq, isRu_1, isRu_61, isGr_3, isSt_0, isSt_6, lg_selfT, isB_0, isB_1, eq_self, true_or, or_true, false_or, or_false, or_self, fa_lit, nI_add, pk_mul, pk_sub, nI_addm, nI_leI, nI_ltI, nI_eqI, vp_inI, ix_nI, forall_eq, true_implies, false_implies, not_true_eq_false, not_false_eq_true, and_true, true_and, false_and, and_false, nle_T, nle_F, nlt_T, nlt_F, neq_T, neq_F, up_rd_s, up_rd_n, up_nc, cpy_nc, cpy_in, cpy_out, cpyOk_T, m1_lt, m1_le, m1_nle, m1_nlt, m1_eq, m1_eq2, m1_0le, Nat.add_zero, Nat.zero_add, Nat.mul_one, Nat.sub_zero, if_true, if_false, Nat.add_sub_cancel, Nat.add_sub_cancel_left, in_in, in_inN, iw_in, rq_in, pw_fold, nt_fold, ask_pw, has_eq, or_0, bt1, Bool.true_eq_false, Bool.false_eq_true, tl, q1])
    (try simp (disch := omega) only [String.reduceEq, isRu_1, isRu_61, isGr_3, isSt_0, isSt_6, lg_selfT, isB_0, isB_1, eq_self, true_or, or_true, false_or, or_false, or_self, fa_lit, nI_add, pk_mul, pk_sub, nI_addm, nI_leI, nI_ltI, nI_eqI, vp_inI, ix_nI, forall_eq, true_implies, false_implies, not_true_eq_false, not_false_eq_true, and_true, true_and, false_and, and_false, nle_T, nle_F, nlt_T, nlt_F, neq_T, neq_F, up_rd_s, up_rd_n, up_nc, cpy_nc, cpy_in, cpy_out, cpyOk_T, m1_lt, m1_le, m1_nle, m1_nlt, m1_eq, m1_eq2, m1_0le, Nat.add_zero, Nat.zero_add, Nat.mul_one, Nat.sub_zero, if_true, if_false, Nat.add_sub_cancel, Nat.add_sub_cancel_left, in_in, in_inN, iw_in, rq_in, pw_fold, nt_fold, ask_pw, has_eq, or_0, bt1, Bool.true_eq_false, Bool.false_eq_true, f1 88 (by omega) (by omega), e2])
    refine X12_tells (l := (aCore a).1) (RLM_cg (by (try simp (disch := omega) only [String.reduceEq, isRu_1, isRu_61, isGr_3, isSt_0, isSt_6, lg_selfT, isB_0, isB_1, eq_self, true_or, or_true, false_or, or_false, or_self, fa_lit, nI_add, pk_mul, pk_sub, nI_addm, nI_leI, nI_ltI, nI_eqI, vp_inI, ix_nI, forall_eq, true_implies, false_implies, not_true_eq_false, not_false_eq_true, and_true, true_and, false_and, and_false, nle_T, nle_F, nlt_T, nlt_F, neq_T, neq_F, up_rd_s, up_rd_n, up_nc, cpy_nc, cpy_in, cpy_out, cpyOk_T, m1_lt, m1_le, m1_nle, m1_nlt, m1_eq, m1_eq2, m1_0le, Nat.add_zero, Nat.zero_add, Nat.mul_one, Nat.sub_zero, if_true, if_false, Nat.add_sub_cancel, Nat.add_sub_cancel_left, in_in, in_inN, iw_in, rq_in, pw_fold, nt_fold, ask_pw, has_eq, or_0, bt1, Bool.true_eq_false, Bool.false_eq_true]); exact f1 88 (by omega) (by omega)) (RLM_of hM)) (RW_of hw) hr (fun σ2 f2 f2b t2 => ?_)
    have e8 : σ2 87 8 = nI 0 := by rw [f2b 8 (by omega), up_at]
    (try simp (disch := omega) only [String.reduceEq, isRu_1, isRu_61, isGr_3, isSt_0, isSt_6, lg_selfT, isB_0, isB_1, eq_self, true_or, or_true, false_or, or_false, or_self, fa_lit, nI_add, pk_mul, pk_sub, nI_addm, nI_leI, nI_ltI, nI_eqI, vp_inI, ix_nI, forall_eq, true_implies, false_implies, not_true_eq_false, not_false_eq_true, and_true, true_and, false_and, and_false, nle_T, nle_F, nlt_T, nlt_F, neq_T, neq_F, up_rd_s, up_rd_n, up_nc, cpy_nc, cpy_in, cpy_out, cpyOk_T, m1_lt, m1_le, m1_nle, m1_nlt, m1_eq, m1_eq2, m1_0le, Nat.add_zero, Nat.zero_add, Nat.mul_one, Nat.sub_zero, if_true, if_false, Nat.add_sub_cancel, Nat.add_sub_cancel_left, in_in, in_inN, iw_in, rq_in, pw_fold, nt_fold, ask_pw, has_eq, or_0, bt1, Bool.true_eq_false, Bool.false_eq_true, t2.1, e8])
    refine fin _ _ (fun k k1 k2 => ?_) (fun f g1 g2 => ?_)
    · rw [f2 k k1 k2]; (try simp (disch := omega) only [String.reduceEq, isRu_1, isRu_61, isGr_3, isSt_0, isSt_6, lg_selfT, isB_0, isB_1, eq_self, true_or, or_true, false_or, or_false, or_self, fa_lit, nI_add, pk_mul, pk_sub, nI_addm, nI_leI, nI_ltI, nI_eqI, vp_inI, ix_nI, forall_eq, true_implies, false_implies, not_true_eq_false, not_false_eq_true, and_true, true_and, false_and, and_false, nle_T, nle_F, nlt_T, nlt_F, neq_T, neq_F, up_rd_s, up_rd_n, up_nc, cpy_nc, cpy_in, cpy_out, cpyOk_T, m1_lt, m1_le, m1_nle, m1_nlt, m1_eq, m1_eq2, m1_0le, Nat.add_zero, Nat.zero_add, Nat.mul_one, Nat.sub_zero, if_true, if_false, Nat.add_sub_cancel, Nat.add_sub_cancel_left, in_in, in_inN, iw_in, rq_in, pw_fold, nt_fold, ask_pw, has_eq, or_0, bt1, Bool.true_eq_false, Bool.false_eq_true])
    · rw [f2b f g1]; (try simp (disch := omega) only [String.reduceEq, isRu_1, isRu_61, isGr_3, isSt_0, isSt_6, lg_selfT, isB_0, isB_1, eq_self, true_or, or_true, false_or, or_false, or_self, fa_lit, nI_add, pk_mul, pk_sub, nI_addm, nI_leI, nI_ltI, nI_eqI, vp_inI, ix_nI, forall_eq, true_implies, false_implies, not_true_eq_false, not_false_eq_true, and_true, true_and, false_and, and_false, nle_T, nle_F, nlt_T, nlt_F, neq_T, neq_F, up_rd_s, up_rd_n, up_nc, cpy_nc, cpy_in, cpy_out, cpyOk_T, m1_lt, m1_le, m1_nle, m1_nlt, m1_eq, m1_eq2, m1_0le, Nat.add_zero, Nat.zero_add, Nat.mul_one, Nat.sub_zero, if_true, if_false, Nat.add_sub_cancel, Nat.add_sub_cancel_left, in_in, in_inN, iw_in, rq_in, pw_fold, nt_fold, ask_pw, has_eq, or_0, bt1, Bool.true_eq_false, Bool.false_eq_true])
  · have q1 : D_X11_isWithin (nI q) (-nI 1) (nI ((txt (rOf (aCore a).1 r)).length - 1)) = fun σ P => P (nI 1) σ := by
      funext σ P
      unfold D_X11_isWithin
      (try simp (disch := omega) only [String.reduceEq, isRu_1, isRu_61, isGr_3, isSt_0, isSt_6, lg_selfT, isB_0, isB_1, eq_self, true_or, or_true, false_or, or_false, or_self, fa_lit, nI_add, pk_mul, pk_sub, nI_addm, nI_leI, nI_ltI, nI_eqI, vp_inI, ix_nI, forall_eq, true_implies, false_implies, not_true_eq_false, not_false_eq_true, and_true, true_and, false_and, and_false, nle_T, nle_F, nlt_T, nlt_F, neq_T, neq_F, up_rd_s, up_rd_n, up_nc, cpy_nc, cpy_in, cpy_out, cpyOk_T, m1_lt, m1_le, m1_nle, m1_nlt, m1_eq, m1_eq2, m1_0le, Nat.add_zero, Nat.zero_add, Nat.mul_one, Nat.sub_zero, if_true, if_false, Nat.add_sub_cancel, Nat.add_sub_cancel_left, in_in, in_inN, iw_in, rq_in, pw_fold, nt_fold, ask_pw, has_eq, or_0, bt1, Bool.true_eq_false, Bool.false_eq_true])
    have g1 := t1.2 q _ (List.getElem?_eq_getElem hq)
    (try simp (disch := omega) only [String.reduceEq, isRu_1, isRu_61, isGr_3, isSt_0, isSt_6, lg_selfT, isB_0, isB_1, eq_self, true_or, or_true, false_or, or_false, or_self, fa_lit, nI_add, pk_mul, pk_sub, nI_addm, nI_leI, nI_ltI, nI_eqI, vp_inI, ix_nI, forall_eq, true_implies, false_implies, not_true_eq_false, not_false_eq_true, and_true, true_and, false_and, and_false, nle_T, nle_F, nlt_T, nlt_F, neq_T, neq_F, up_rd_s, up_rd_n, up_nc, cpy_nc, cpy_in, cpy_out, cpyOk_T, m1_lt, m1_le, m1_nle, m1_nlt, m1_eq, m1_eq2, m1_0le, Nat.add_zero, Nat.zero_add, Nat.mul_one, Nat.sub_zero, if_true, if_false, Nat.add_sub_cancel, Nat.add_sub_cancel_left, in_in, in_inN, iw_in, rq_in, pw_fold, nt_fold, ask_pw, has_eq, or_0, bt1, Bool.true_eq_false, Bool.false_eq_true, tl, q1, g1])
    (try simp (disch := omega) only [String.reduceEq, isRu_1, isRu_61, isGr_3, isSt_0, isSt_6, lg_selfT, isB_0, isB_1, eq_self, true_or, or_true, false_or, or_false, or_self, fa_lit, nI_add, pk_mul, pk_sub, nI_addm, nI_leI, nI_ltI, nI_eqI, vp_inI, ix_nI, forall_eq, true_implies, false_implies, not_true_eq_false, not_false_eq_true, and_true, true_and, false_and, and_false, nle_T, nle_F, nlt_T, nlt_F, neq_T, neq_F, up_rd_s, up_rd_n, up_nc, cpy_nc, cpy_in, cpy_out, cpyOk_T, m1_lt, m1_le, m1_nle, m1_nlt, m1_eq, m1_eq2, m1_0le, Nat.add_zero, Nat.zero_add, Nat.mul_one, Nat.sub_zero, if_true, if_false, Nat.add_sub_cancel, Nat.add_sub_cancel_left, in_in, in_inN, iw_in, rq_in, pw_fold, nt_fold, ask_pw, has_eq, or_0, bt1, Bool.true_eq_false, Bool.false_eq_true, f1 88 (by omega) (by omega), e2])
    refine X12_tells (l := (aCore a).1) (RLM_cg (by (try simp (disch := omega) only [String.reduceEq, isRu_1, isRu_61, isGr_3, isSt_0, isSt_6, lg_selfT, isB_0, isB_1, eq_self, true_or, or_true, false_or, or_false, or_self, fa_lit, nI_add, pk_mul, pk_sub, nI_addm, nI_leI, nI_ltI, nI_eqI, vp_inI, ix_nI, forall_eq, true_implies, false_implies, not_true_eq_false, not_false_eq_true, and_true, true_and, false_and, and_false, nle_T, nle_F, nlt_T, nlt_F, neq_T, neq_F, up_rd_s, up_rd_n, up_nc, cpy_nc, cpy_in, cpy_out, cpyOk_T, m1_lt, m1_le, m1_nle, m1_nlt, m1_eq, m1_eq2, m1_0le, Nat.add_zero, Nat.zero_add, Nat.mul_one, Nat.sub_zero, if_true, if_false, Nat.add_sub_cancel, Nat.add_sub_cancel_left, in_in, in_inN, iw_in, rq_in, pw_fold, nt_fold, ask_pw, has_eq, or_0, bt1, Bool.true_eq_false, Bool.false_eq_true]); exact f1 88 (by omega) (by omega)) (RLM_of hM)) (RW_of hw) hr (fun σ2 f2 f2b t2 => ?_)
    have e8 : σ2 87 8 = nI 0 := by rw [f2b 8 (by omega), up_at]
    have g2 := t2.2 q _ (List.getElem?_eq_getElem hq)
    (try simp (disch := omega) only [String.reduceEq, isRu_1, isRu_61, isGr_3, isSt_0, isSt_6, lg_selfT, isB_0, isB_1, eq_self, true_or, or_true, false_or, or_false, or_self, fa_lit, nI_add, pk_mul, pk_sub, nI_addm, nI_leI, nI_ltI, nI_eqI, vp_inI, ix_nI, forall_eq, true_implies, false_implies, not_true_eq_false, not_false_eq_true, and_true, true_and, false_and, and_false, nle_T, nle_F, nlt_T, nlt_F, neq_T, neq_F, up_rd_s, up_rd_n, up_nc, cpy_nc, cpy_in, cpy_out, cpyOk_T, m1_lt, m1_le, m1_nle, m1_nlt, m1_eq, m1_eq2, m1_0le, Nat.add_zero, Nat.zero_add, Nat.mul_one, Nat.sub_zero, if_true, if_false, Nat.add_sub_cancel, Nat.add_sub_cancel_left, in_in, in_inN, iw_in, rq_in, pw_fold, nt_fold, ask_pw, has_eq, or_0, bt1, Bool.true_eq_false, Bool.false_eq_true, t2.1, g2, e8])
    refine fin _ _ (fun k k1 k2 => ?_) (fun f g1 g2 => ?_)
    · rw [f2 k k1 k2]; (try simp (disch := omega) only [String.reduceEq, isRu_1, isRu_61, isGr_3, isSt_0, isSt_6, lg_selfT, isB_0, isB_1, eq_self, true_or, or_true, false_or, or_false, or_self, fa_lit, nI_add, pk_mul, pk_sub, nI_addm, nI_leI, nI_ltI, nI_eqI, vp_inI, ix_nI, forall_eq, true_implies, false_implies, not_true_eq_false, not_false_eq_true, and_true, true_and, false_and, and_false, nle_T, nle_F, nlt_T, nlt_F, neq_T, neq_F, up_rd_s, up_rd_n, up_nc, cpy_nc, cpy_in, cpy_out, cpyOk_T, m1_lt, m1_le, m1_nle, m1_nlt, m1_eq, m1_eq2, m1_0le, Nat.add_zero, Nat.zero_add, Nat.mul_one, Nat.sub_zero, if_true, if_false, Nat.add_sub_cancel, Nat.add_sub_cancel_left, in_in, in_inN, iw_in, rq_in, pw_fold, nt_fold, ask_pw, has_eq, or_0, bt1, Bool.true_eq_false, Bool.false_eq_true])
    · rw [f2b f g1]; (try simp (disch := omega) only [String.reduceEq, isRu_1, isRu_61, isGr_3, isSt_0, isSt_6, lg_selfT, isB_0, isB_1, eq_self, true_or, or_true, false_or, or_false, or_self, fa_lit, nI_add, pk_mul, pk_sub, nI_addm, nI_leI, nI_ltI, nI_eqI, vp_inI, ix_nI, forall_eq, true_implies, false_implies, not_true_eq_false, not_false_eq_true, and_true, true_and, false_and, and_false, nle_T, nle_F, nlt_T, nlt_F, neq_T, neq_F, up_rd_s, up_rd_n, up_nc, cpy_nc, cpy_in, cpy_out, cpyOk_T, m1_lt, m1_le, m1_nle, m1_nlt, m1_eq, m1_eq2, m1_0le, Nat.add_zero, Nat.zero_add, Nat.mul_one, Nat.sub_zero, if_true, if_false, Nat.add_sub_cancel, Nat.add_sub_cancel_left, in_in, in_inN, iw_in, rq_in, pw_fold, nt_fold, ask_pw, has_eq, or_0, bt1, Bool.true_eq_false, Bool.false_eq_true])
