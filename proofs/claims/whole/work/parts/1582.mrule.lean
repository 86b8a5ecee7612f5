/-! MATH. The model reads rules. -/
def RDM (inp : List Nat) (i : Nat) (σ : Sto) : Prop := σ 87 24 = nI inp.length ∧ RowAt (σ 103) inp ∧ σ 87 25 = nI i ∧ i ≤ inp.length
def FRM (σ σ' : Sto) : Prop := (∀ c, c ≠ 87 → σ' c = σ c) ∧ ∀ f, f ≠ 25 → f ≠ 26 → σ' 87 f = σ 87 f
theorem FRM_r (σ : Sto) : FRM σ σ := ⟨fun _ _ => rfl, fun _ _ _ => rfl⟩
theorem FRM_t {σ σ' σ'' : Sto} (h1 : FRM σ σ') (h2 : FRM σ' σ'') : FRM σ σ'' := ⟨fun c hc => (h2.1 c hc).trans (h1.1 c hc), fun f hf hg => (h2.2 f hf hg).trans (h1.2 f hf hg)⟩
theorem FRM_u (σ : Sto) (v : Int32) : FRM σ (up σ 87 25 v) := ⟨fun c hc => up_nc hc, fun f hf _ => up_ne (Or.inr hf)⟩
theorem FRM_v (σ : Sto) (v : Int32) : FRM σ (up σ 87 26 v) := ⟨fun c hc => up_nc hc, fun f _ hf => up_ne (Or.inr hf)⟩
theorem RDM_m {inp : List Nat} {i j : Nat} {σ σ' : Sto} (h : RDM inp i σ) (hf : FRM σ σ') (hj : σ' 87 25 = nI j) (hl : j ≤ inp.length) : RDM inp j σ' := ⟨by rw [hf.2 24 (by decide) (by decide)]; exact h.1, by rw [hf.1 103 (by decide)]; exact h.2.1, hj, hl⟩
theorem RDM_at {inp : List Nat} {i : Nat} {σ : Sto} (hI : INP inp) (h : RDM inp i σ) : (inp[i]? = none ∧ i = inp.length) ∨ ∃ c, inp[i]? = some c ∧ i < inp.length ∧ σ 103 i = nI c ∧ 32 ≤ c ∧ c ≤ 126 := by
  rcases Nat.lt_or_ge i inp.length with hl | hl
  · have e := List.getElem?_eq_getElem hl
    obtain ⟨c1, c2⟩ := hI.2 _ (List.getElem_mem hl)
    exact Or.inr ⟨_, e, hl, h.2.1 i _ e, c1, c2⟩
  · exact Or.inl ⟨List.getElem?_eq_none hl, by have := h.2.2.2; omega⟩
theorem X12_here {inp : List Nat} {i : Nat} {σ : Sto} {P : Int32 → Sto → Prop} (hI : INP inp) (hR : RDM inp i σ) (h : P (optI inp[i]?) σ) : D_X12_here σ P := by
  unfold D_X12_here
  obtain ⟨r1, r2, r3, r4⟩ := id hR
  have hl := hI.1
  rcases RDM_at hI hR with ⟨e, el⟩ | ⟨d, e, el, e2, d1, d2⟩
  · rw [e] at h
    have h : P (-nI 1) σ := h
    (try simp (disch := omega) only [String.reduceEq, isRu_1, isRu_61, isGr_3, isSt_0, isSt_6, lg_selfT, isB_0, isB_1, eq_self, true_or, or_true, false_or, or_false, or_self, fa_lit, nI_add, pk_mul, pk_sub, nI_addm, nI_leI, nI_ltI, nI_eqI, vp_inI, ix_nI, forall_eq, true_implies, false_implies, not_true_eq_false, not_false_eq_true, and_true, true_and, false_and, and_false, nle_T, nle_F, nlt_T, nlt_F, neq_T, neq_F, up_rd_s, up_rd_n, up_nc, cpy_nc, cpy_in, cpy_out, cpyOk_T, m1_lt, m1_le, m1_nle, m1_nlt, m1_eq, m1_eq2, m1_0le, Nat.add_zero, Nat.zero_add, Nat.mul_one, Nat.sub_zero, if_true, if_false, Nat.add_sub_cancel, Nat.add_sub_cancel_left, in_in, in_inN, iw_in, rq_in, pw_fold, nt_fold, ask_pw, has_eq, or_0, bt1, Bool.true_eq_false, Bool.false_eq_true, r1, r3])
    exact h
  · rw [e] at h
    have h : P (nI d) σ := h
    (try simp (disch := omega) only [String.reduceEq, isRu_1, isRu_61, isGr_3, isSt_0, isSt_6, lg_selfT, isB_0, isB_1, eq_self, true_or, or_true, false_or, or_false, or_self, fa_lit, nI_add, pk_mul, pk_sub, nI_addm, nI_leI, nI_ltI, nI_eqI, vp_inI, ix_nI, forall_eq, true_implies, false_implies, not_true_eq_false, not_false_eq_true, and_true, true_and, false_and, and_false, nle_T, nle_F, nlt_T, nlt_F, neq_T, neq_F, up_rd_s, up_rd_n, up_nc, cpy_nc, cpy_in, cpy_out, cpyOk_T, m1_lt, m1_le, m1_nle, m1_nlt, m1_eq, m1_eq2, m1_0le, Nat.add_zero, Nat.zero_add, Nat.mul_one, Nat.sub_zero, if_true, if_false, Nat.add_sub_cancel, Nat.add_sub_cancel_left, in_in, in_inN, iw_in, rq_in, pw_fold, nt_fold, ask_pw, has_eq, or_0, bt1, Bool.true_eq_false, Bool.false_eq_true, r1, r3, e2])
    exact h
theorem opt_eq {o : Option Nat} {c : Nat} (ho : ∀ d, o = some d → d < 65536) (hc : c < 65536) : (optI o = nI c) = (o = some c) := by
  cases o with
  | none =>
    show (-nI 1 = nI c) = _
    rw [m1_eq2 (by omega)]
    exact propext ⟨fun z => z.elim, fun z => by cases z⟩
  | some d =>
    have := ho d rfl
    show (nI d = nI c) = _
    rw [nI_eqI (by omega) (by omega)]
    exact propext ⟨fun z => by rw [z], fun z => by cases z; rfl⟩
theorem inp_lt {inp : List Nat} (hI : INP inp) (i : Nat) : ∀ d, inp[i]? = some d → d < 65536 := fun d hd => by
  have := (hI.2 d (List.mem_of_getElem? hd)).2
  omega
theorem X12_skips {inp : List Nat} {i c : Nat} {σ : Sto} {P : Int32 → Sto → Prop} (hI : INP inp) (hR : RDM inp i σ) (hc : c < 65536) (h1 : inp[i]? = some c → ∀ σ' : Sto, FRM σ σ' → σ' 87 26 = σ 87 26 → RDM inp (i + 1) σ' → P (nI 1) σ') (h0 : inp[i]? ≠ some c → P (nI 0) σ) : D_X12_skips (nI c) σ P := by
  unfold D_X12_skips
  refine X12_here hI hR ?_
  rw [opt_eq (inp_lt hI i) hc]
  have r3 := hR.2.2.1
  refine ⟨fun e s hs => ?_, fun hne => h0 hne⟩
  subst hs
  have l0 := get_lt e
  rw [r3]
  (try simp (disch := omega) only [String.reduceEq, isRu_1, isRu_61, isGr_3, isSt_0, isSt_6, lg_selfT, isB_0, isB_1, eq_self, true_or, or_true, false_or, or_false, or_self, fa_lit, nI_add, pk_mul, pk_sub, nI_addm, nI_leI, nI_ltI, nI_eqI, vp_inI, ix_nI, forall_eq, true_implies, false_implies, not_true_eq_false, not_false_eq_true, and_true, true_and, false_and, and_false, nle_T, nle_F, nlt_T, nlt_F, neq_T, neq_F, up_rd_s, up_rd_n, up_nc, cpy_nc, cpy_in, cpy_out, cpyOk_T, m1_lt, m1_le, m1_nle, m1_nlt, m1_eq, m1_eq2, m1_0le, Nat.add_zero, Nat.zero_add, Nat.mul_one, Nat.sub_zero, if_true, if_false, Nat.add_sub_cancel, Nat.add_sub_cancel_left, in_in, in_inN, iw_in, rq_in, pw_fold, nt_fold, ask_pw, has_eq, or_0, bt1, Bool.true_eq_false, Bool.false_eq_true])
  exact h1 e _ (FRM_u _ _) (by (try simp (disch := omega) only [String.reduceEq, isRu_1, isRu_61, isGr_3, isSt_0, isSt_6, lg_selfT, isB_0, isB_1, eq_self, true_or, or_true, false_or, or_false, or_self, fa_lit, nI_add, pk_mul, pk_sub, nI_addm, nI_leI, nI_ltI, nI_eqI, vp_inI, ix_nI, forall_eq, true_implies, false_implies, not_true_eq_false, not_false_eq_true, and_true, true_and, false_and, and_false, nle_T, nle_F, nlt_T, nlt_F, neq_T, neq_F, up_rd_s, up_rd_n, up_nc, cpy_nc, cpy_in, cpy_out, cpyOk_T, m1_lt, m1_le, m1_nle, m1_nlt, m1_eq, m1_eq2, m1_0le, Nat.add_zero, Nat.zero_add, Nat.mul_one, Nat.sub_zero, if_true, if_false, Nat.add_sub_cancel, Nat.add_sub_cancel_left, in_in, in_inN, iw_in, rq_in, pw_fold, nt_fold, ask_pw, has_eq, or_0, bt1, Bool.true_eq_false, Bool.false_eq_true])) (RDM_m hR (FRM_u _ _) (by (try simp (disch := omega) only [String.reduceEq, isRu_1, isRu_61, isGr_3, isSt_0, isSt_6, lg_selfT, isB_0, isB_1, eq_self, true_or, or_true, false_or, or_false, or_self, fa_lit, nI_add, pk_mul, pk_sub, nI_addm, nI_leI, nI_ltI, nI_eqI, vp_inI, ix_nI, forall_eq, true_implies, false_implies, not_true_eq_false, not_false_eq_true, and_true, true_and, false_and, and_false, nle_T, nle_F, nlt_T, nlt_F, neq_T, neq_F, up_rd_s, up_rd_n, up_nc, cpy_nc, cpy_in, cpy_out, cpyOk_T, m1_lt, m1_le, m1_nle, m1_nlt, m1_eq, m1_eq2, m1_0le, Nat.add_zero, Nat.zero_add, Nat.mul_one, Nat.sub_zero, if_true, if_false, Nat.add_sub_cancel, Nat.add_sub_cancel_left, in_in, in_inN, iw_in, rq_in, pw_fold, nt_fold, ask_pw, has_eq, or_0, bt1, Bool.true_eq_false, Bool.false_eq_true])) (by omega))
theorem X12_in2 {o : Option Nat} {a b : Nat} {σ : Sto} {P : Int32 → Sto → Prop} (hb : b < 65536) (ho : ∀ d, o = some d → d < 65536) (h1 : ∀ c, o = some c → a ≤ c → c ≤ b → P (nI 1) σ) (h0 : (∀ c, o = some c → ¬ (a ≤ c ∧ c ≤ b)) → P (nI 0) σ) (ha : a ≤ b) : D_X12_in (optI o) (nI a) (nI b) σ P := by
  unfold D_X12_in
  cases o with
  | none =>
    have o1 : optI none = -nI 1 := rfl
    (try simp (disch := omega) only [String.reduceEq, isRu_1, isRu_61, isGr_3, isSt_0, isSt_6, lg_selfT, isB_0, isB_1, eq_self, true_or, or_true, false_or, or_false, or_self, fa_lit, nI_add, pk_mul, pk_sub, nI_addm, nI_leI, nI_ltI, nI_eqI, vp_inI, ix_nI, forall_eq, true_implies, false_implies, not_true_eq_false, not_false_eq_true, and_true, true_and, false_and, and_false, nle_T, nle_F, nlt_T, nlt_F, neq_T, neq_F, up_rd_s, up_rd_n, up_nc, cpy_nc, cpy_in, cpy_out, cpyOk_T, m1_lt, m1_le, m1_nle, m1_nlt, m1_eq, m1_eq2, m1_0le, Nat.add_zero, Nat.zero_add, Nat.mul_one, Nat.sub_zero, if_true, if_false, Nat.add_sub_cancel, Nat.add_sub_cancel_left, in_in, in_inN, iw_in, rq_in, pw_fold, nt_fold, ask_pw, has_eq, or_0, bt1, Bool.true_eq_false, Bool.false_eq_true, o1])
    exact h0 (fun c hc => by cases hc)
  | some c =>
    have o1 : optI (some c) = nI c := rfl
    have := ho c rfl
    by_cases q1 : c < a
    · (try simp (disch := omega) only [String.reduceEq, isRu_1, isRu_61, isGr_3, isSt_0, isSt_6, lg_selfT, isB_0, isB_1, eq_self, true_or, or_true, false_or, or_false, or_self, fa_lit, nI_add, pk_mul, pk_sub, nI_addm, nI_leI, nI_ltI, nI_eqI, vp_inI, ix_nI, forall_eq, true_implies, false_implies, not_true_eq_false, not_false_eq_true, and_true, true_and, false_and, and_false, nle_T, nle_F, nlt_T, nlt_F, neq_T, neq_F, up_rd_s, up_rd_n, up_nc, cpy_nc, cpy_in, cpy_out, cpyOk_T, m1_lt, m1_le, m1_nle, m1_nlt, m1_eq, m1_eq2, m1_0le, Nat.add_zero, Nat.zero_add, Nat.mul_one, Nat.sub_zero, if_true, if_false, Nat.add_sub_cancel, Nat.add_sub_cancel_left, in_in, in_inN, iw_in, rq_in, pw_fold, nt_fold, ask_pw, has_eq, or_0, bt1, Bool.true_eq_false, Bool.false_eq_true, o1])
      exact h0 (fun c hc => by cases hc; omega)
    · by_cases q2 : b < c
      · (try simp (disch := omega) only [String.reduceEq, isRu_1, isRu_61, isGr_3, isSt_0, isSt_6, lg_selfT, isB_0, isB_1, eq_self, true_or, or_true, false_or, or_false, or_self, fa_lit, nI_add, pk_mul, pk_sub, nI_addm, nI_leI, nI_ltI, nI_eqI, vp_inI, ix_nI, forall_eq, true_implies, false_implies, not_true_eq_false, not_false_eq_true, and_true, true_and, false_and, and_false, nle_T, nle_F, nlt_T, nlt_F, neq_T, neq_F, up_rd_s, up_rd_n, up_nc, cpy_nc, cpy_in, cpy_out, cpyOk_T, m1_lt, m1_le, m1_nle, m1_nlt, m1_eq, m1_eq2, m1_0le, Nat.add_zero, Nat.zero_add, Nat.mul_one, Nat.sub_zero, if_true, if_false, Nat.add_sub_cancel, Nat.add_sub_cancel_left, in_in, in_inN, iw_in, rq_in, pw_fold, nt_fold, ask_pw, has_eq, or_0, bt1, Bool.true_eq_false, Bool.false_eq_true, o1])
        exact h0 (fun c hc => by cases hc; omega)
      · (try simp (disch := omega) only [String.reduceEq, isRu_1, isRu_61, isGr_3, isSt_0, isSt_6, lg_selfT, isB_0, isB_1, eq_self, true_or, or_true, false_or, or_false, or_self, fa_lit, nI_add, pk_mul, pk_sub, nI_addm, nI_leI, nI_ltI, nI_eqI, vp_inI, ix_nI, forall_eq, true_implies, false_implies, not_true_eq_false, not_false_eq_true, and_true, true_and, false_and, and_false, nle_T, nle_F, nlt_T, nlt_F, neq_T, neq_F, up_rd_s, up_rd_n, up_nc, cpy_nc, cpy_in, cpy_out, cpyOk_T, m1_lt, m1_le, m1_nle, m1_nlt, m1_eq, m1_eq2, m1_0le, Nat.add_zero, Nat.zero_add, Nat.mul_one, Nat.sub_zero, if_true, if_false, Nat.add_sub_cancel, Nat.add_sub_cancel_left, in_in, in_inN, iw_in, rq_in, pw_fold, nt_fold, ask_pw, has_eq, or_0, bt1, Bool.true_eq_false, Bool.false_eq_true, o1])
        exact h1 c rfl (by omega) (by omega)
theorem X12_number {inp : List Nat} {i : Nat} {σ : Sto} {P : Int32 → Sto → Prop} (hI : INP inp) (hR : RDM inp i σ) (hN : ∀ j, aNum inp i = (none, j) → ∀ σ' : Sto, FRM σ σ' → RDM inp j σ' → P (nI 0) σ') (hS : ∀ v j, aNum inp i = (some v, j) → ∀ σ' : Sto, FRM σ σ' → σ' 87 26 = nI v → RDM inp j σ' → P (nI 1) σ') : D_X12_number σ P := by
  unfold D_X12_number
  have hl := hI.1
  refine X12_here hI hR ?_
  refine X12_in2 (a := 48) (b := 57) (by decide) (inp_lt hI i) (fun c hc c1 c2 => ?_) (fun hno => ?_) (by decide)
  · have l0 := get_lt hc
    refine bq_f (by decide) ?_
    refine X12_here hI hR ?_
    rw [hc]
    have o1 : optI (some c) = nI c := rfl
    have r3 := hR.2.2.1
    (try simp (disch := omega) only [String.reduceEq, isRu_1, isRu_61, isGr_3, isSt_0, isSt_6, lg_selfT, isB_0, isB_1, eq_self, true_or, or_true, false_or, or_false, or_self, fa_lit, nI_add, pk_mul, pk_sub, nI_addm, nI_leI, nI_ltI, nI_eqI, vp_inI, ix_nI, forall_eq, true_implies, false_implies, not_true_eq_false, not_false_eq_true, and_true, true_and, false_and, and_false, nle_T, nle_F, nlt_T, nlt_F, neq_T, neq_F, up_rd_s, up_rd_n, up_nc, cpy_nc, cpy_in, cpy_out, cpyOk_T, m1_lt, m1_le, m1_nle, m1_nlt, m1_eq, m1_eq2, m1_0le, Nat.add_zero, Nat.zero_add, Nat.mul_one, Nat.sub_zero, if_true, if_false, Nat.add_sub_cancel, Nat.add_sub_cancel_left, in_in, in_inN, iw_in, rq_in, pw_fold, nt_fold, ask_pw, has_eq, or_0, bt1, Bool.true_eq_false, Bool.false_eq_true, o1, r3])
    have f1 : FRM σ (up (up σ 87 26 (nI (c - 48))) 87 25 (nI (i + 1))) := FRM_t (FRM_v _ _) (FRM_u _ _)
    have r1 : RDM inp (i + 1) (up (up σ 87 26 (nI (c - 48))) 87 25 (nI (i + 1))) := RDM_m hR f1 (by (try simp (disch := omega) only [String.reduceEq, isRu_1, isRu_61, isGr_3, isSt_0, isSt_6, lg_selfT, isB_0, isB_1, eq_self, true_or, or_true, false_or, or_false, or_self, fa_lit, nI_add, pk_mul, pk_sub, nI_addm, nI_leI, nI_ltI, nI_eqI, vp_inI, ix_nI, forall_eq, true_implies, false_implies, not_true_eq_false, not_false_eq_true, and_true, true_and, false_and, and_false, nle_T, nle_F, nlt_T, nlt_F, neq_T, neq_F, up_rd_s, up_rd_n, up_nc, cpy_nc, cpy_in, cpy_out, cpyOk_T, m1_lt, m1_le, m1_nle, m1_nlt, m1_eq, m1_eq2, m1_0le, Nat.add_zero, Nat.zero_add, Nat.mul_one, Nat.sub_zero, if_true, if_false, Nat.add_sub_cancel, Nat.add_sub_cancel_left, in_in, in_inN, iw_in, rq_in, pw_fold, nt_fold, ask_pw, has_eq, or_0, bt1, Bool.true_eq_false, Bool.false_eq_true])) (by omega)
    have e26 : (up (up σ 87 26 (nI (c - 48))) 87 25 (nI (i + 1))) 87 26 = nI (c - 48) := by (try simp (disch := omega) only [String.reduceEq, isRu_1, isRu_61, isGr_3, isSt_0, isSt_6, lg_selfT, isB_0, isB_1, eq_self, true_or, or_true, false_or, or_false, or_self, fa_lit, nI_add, pk_mul, pk_sub, nI_addm, nI_leI, nI_ltI, nI_eqI, vp_inI, ix_nI, forall_eq, true_implies, false_implies, not_true_eq_false, not_false_eq_true, and_true, true_and, false_and, and_false, nle_T, nle_F, nlt_T, nlt_F, neq_T, neq_F, up_rd_s, up_rd_n, up_nc, cpy_nc, cpy_in, cpy_out, cpyOk_T, m1_lt, m1_le, m1_nle, m1_nlt, m1_eq, m1_eq2, m1_0le, Nat.add_zero, Nat.zero_add, Nat.mul_one, Nat.sub_zero, if_true, if_false, Nat.add_sub_cancel, Nat.add_sub_cancel_left, in_in, in_inN, iw_in, rq_in, pw_fold, nt_fold, ask_pw, has_eq, or_0, bt1, Bool.true_eq_false, Bool.false_eq_true])
    generalize (up (up σ 87 26 (nI (c - 48))) 87 25 (nI (i + 1))) = s at *
    refine X12_here hI r1 ?_
    have ee : aNum inp i = (match inp[i + 1]? with
      | none => (some (c - 48), i + 1)
      | some d => if 48 ≤ d ∧ d ≤ 57 then (if (c - 48) * 10 + (d - 48) < 16 then (some ((c - 48) * 10 + (d - 48)), i + 2) else (none, i + 1)) else (some (c - 48), i + 1)) := by
      unfold aNum
      rw [hc]
      dsimp only
      rw [if_pos ⟨c1, c2⟩]
      rfl
    refine X12_in2 (a := 48) (b := 57) (by decide) (inp_lt hI (i + 1)) (fun d hd d1 d2 => ?_) (fun hno => ?_) (by decide)
    · have l1 := get_lt hd
      rw [hd] at ee
      dsimp only at ee
      rw [if_pos ⟨d1, d2⟩] at ee
      (try simp (disch := omega) only [String.reduceEq, isRu_1, isRu_61, isGr_3, isSt_0, isSt_6, lg_selfT, isB_0, isB_1, eq_self, true_or, or_true, false_or, or_false, or_self, fa_lit, nI_add, pk_mul, pk_sub, nI_addm, nI_leI, nI_ltI, nI_eqI, vp_inI, ix_nI, forall_eq, true_implies, false_implies, not_true_eq_false, not_false_eq_true, and_true, true_and, false_and, and_false, nle_T, nle_F, nlt_T, nlt_F, neq_T, neq_F, up_rd_s, up_rd_n, up_nc, cpy_nc, cpy_in, cpy_out, cpyOk_T, m1_lt, m1_le, m1_nle, m1_nlt, m1_eq, m1_eq2, m1_0le, Nat.add_zero, Nat.zero_add, Nat.mul_one, Nat.sub_zero, if_true, if_false, Nat.add_sub_cancel, Nat.add_sub_cancel_left, in_in, in_inN, iw_in, rq_in, pw_fold, nt_fold, ask_pw, has_eq, or_0, bt1, Bool.true_eq_false, Bool.false_eq_true])
      refine X12_here hI r1 ?_
      rw [hd]
      have o2 : optI (some d) = nI d := rfl
      have r13 := r1.2.2.1
      (try simp (disch := omega) only [String.reduceEq, isRu_1, isRu_61, isGr_3, isSt_0, isSt_6, lg_selfT, isB_0, isB_1, eq_self, true_or, or_true, false_or, or_false, or_self, fa_lit, nI_add, pk_mul, pk_sub, nI_addm, nI_leI, nI_ltI, nI_eqI, vp_inI, ix_nI, forall_eq, true_implies, false_implies, not_true_eq_false, not_false_eq_true, and_true, true_and, false_and, and_false, nle_T, nle_F, nlt_T, nlt_F, neq_T, neq_F, up_rd_s, up_rd_n, up_nc, cpy_nc, cpy_in, cpy_out, cpyOk_T, m1_lt, m1_le, m1_nle, m1_nlt, m1_eq, m1_eq2, m1_0le, Nat.add_zero, Nat.zero_add, Nat.mul_one, Nat.sub_zero, if_true, if_false, Nat.add_sub_cancel, Nat.add_sub_cancel_left, in_in, in_inN, iw_in, rq_in, pw_fold, nt_fold, ask_pw, has_eq, or_0, bt1, Bool.true_eq_false, Bool.false_eq_true, o2, e26])
      by_cases q : (c - 48) * 10 + (d - 48) < 16
      · rw [if_pos q] at ee
        (try simp (disch := omega) only [String.reduceEq, isRu_1, isRu_61, isGr_3, isSt_0, isSt_6, lg_selfT, isB_0, isB_1, eq_self, true_or, or_true, false_or, or_false, or_self, fa_lit, nI_add, pk_mul, pk_sub, nI_addm, nI_leI, nI_ltI, nI_eqI, vp_inI, ix_nI, forall_eq, true_implies, false_implies, not_true_eq_false, not_false_eq_true, and_true, true_and, false_and, and_false, nle_T, nle_F, nlt_T, nlt_F, neq_T, neq_F, up_rd_s, up_rd_n, up_nc, cpy_nc, cpy_in, cpy_out, cpyOk_T, m1_lt, m1_le, m1_nle, m1_nlt, m1_eq, m1_eq2, m1_0le, Nat.add_zero, Nat.zero_add, Nat.mul_one, Nat.sub_zero, if_true, if_false, Nat.add_sub_cancel, Nat.add_sub_cancel_left, in_in, in_inN, iw_in, rq_in, pw_fold, nt_fold, ask_pw, has_eq, or_0, bt1, Bool.true_eq_false, Bool.false_eq_true, r13])
        refine hS _ _ ee _ (FRM_t f1 (FRM_t (FRM_v _ _) (FRM_u _ _))) ?_ (RDM_m r1 (FRM_t (FRM_v _ _) (FRM_u _ _)) (by (try simp (disch := omega) only [String.reduceEq, isRu_1, isRu_61, isGr_3, isSt_0, isSt_6, lg_selfT, isB_0, isB_1, eq_self, true_or, or_true, false_or, or_false, or_self, fa_lit, nI_add, pk_mul, pk_sub, nI_addm, nI_leI, nI_ltI, nI_eqI, vp_inI, ix_nI, forall_eq, true_implies, false_implies, not_true_eq_false, not_false_eq_true, and_true, true_and, false_and, and_false, nle_T, nle_F, nlt_T, nlt_F, neq_T, neq_F, up_rd_s, up_rd_n, up_nc, cpy_nc, cpy_in, cpy_out, cpyOk_T, m1_lt, m1_le, m1_nle, m1_nlt, m1_eq, m1_eq2, m1_0le, Nat.add_zero, Nat.zero_add, Nat.mul_one, Nat.sub_zero, if_true, if_false, Nat.add_sub_cancel, Nat.add_sub_cancel_left, in_in, in_inN, iw_in, rq_in, pw_fold, nt_fold, ask_pw, has_eq, or_0, bt1, Bool.true_eq_false, Bool.false_eq_true])) (by omega))
        (try simp (disch := omega) only [String.reduceEq, isRu_1, isRu_61, isGr_3, isSt_0, isSt_6, lg_selfT, isB_0, isB_1, eq_self, true_or, or_true, false_or, or_false, or_self, fa_lit, nI_add, pk_mul, pk_sub, nI_addm, nI_leI, nI_ltI, nI_eqI, vp_inI, ix_nI, forall_eq, true_implies, false_implies, not_true_eq_false, not_false_eq_true, and_true, true_and, false_and, and_false, nle_T, nle_F, nlt_T, nlt_F, neq_T, neq_F, up_rd_s, up_rd_n, up_nc, cpy_nc, cpy_in, cpy_out, cpyOk_T, m1_lt, m1_le, m1_nle, m1_nlt, m1_eq, m1_eq2, m1_0le, Nat.add_zero, Nat.zero_add, Nat.mul_one, Nat.sub_zero, if_true, if_false, Nat.add_sub_cancel, Nat.add_sub_cancel_left, in_in, in_inN, iw_in, rq_in, pw_fold, nt_fold, ask_pw, has_eq, or_0, bt1, Bool.true_eq_false, Bool.false_eq_true])
        first | done | (congr 1; omega)
      · rw [if_neg q] at ee
        (try simp (disch := omega) only [String.reduceEq, isRu_1, isRu_61, isGr_3, isSt_0, isSt_6, lg_selfT, isB_0, isB_1, eq_self, true_or, or_true, false_or, or_false, or_self, fa_lit, nI_add, pk_mul, pk_sub, nI_addm, nI_leI, nI_ltI, nI_eqI, vp_inI, ix_nI, forall_eq, true_implies, false_implies, not_true_eq_false, not_false_eq_true, and_true, true_and, false_and, and_false, nle_T, nle_F, nlt_T, nlt_F, neq_T, neq_F, up_rd_s, up_rd_n, up_nc, cpy_nc, cpy_in, cpy_out, cpyOk_T, m1_lt, m1_le, m1_nle, m1_nlt, m1_eq, m1_eq2, m1_0le, Nat.add_zero, Nat.zero_add, Nat.mul_one, Nat.sub_zero, if_true, if_false, Nat.add_sub_cancel, Nat.add_sub_cancel_left, in_in, in_inN, iw_in, rq_in, pw_fold, nt_fold, ask_pw, has_eq, or_0, bt1, Bool.true_eq_false, Bool.false_eq_true])
        exact hN _ ee _ (FRM_t f1 (FRM_v _ _)) (RDM_m r1 (FRM_v _ _) (by (try simp (disch := omega) only [String.reduceEq, isRu_1, isRu_61, isGr_3, isSt_0, isSt_6, lg_selfT, isB_0, isB_1, eq_self, true_or, or_true, false_or, or_false, or_self, fa_lit, nI_add, pk_mul, pk_sub, nI_addm, nI_leI, nI_ltI, nI_eqI, vp_inI, ix_nI, forall_eq, true_implies, false_implies, not_true_eq_false, not_false_eq_true, and_true, true_and, false_and, and_false, nle_T, nle_F, nlt_T, nlt_F, neq_T, neq_F, up_rd_s, up_rd_n, up_nc, cpy_nc, cpy_in, cpy_out, cpyOk_T, m1_lt, m1_le, m1_nle, m1_nlt, m1_eq, m1_eq2, m1_0le, Nat.add_zero, Nat.zero_add, Nat.mul_one, Nat.sub_zero, if_true, if_false, Nat.add_sub_cancel, Nat.add_sub_cancel_left, in_in, in_inN, iw_in, rq_in, pw_fold, nt_fold, ask_pw, has_eq, or_0, bt1, Bool.true_eq_false, Bool.false_eq_true]); exact r13) (by omega))
    · have ee2 : aNum inp i = (some (c - 48), i + 1) := by
        rw [ee]
        cases h0 : inp[i + 1]? with
        | none => rfl
        | some d =>
          dsimp only
          rw [if_neg (hno d h0)]
      (try simp (disch := omega) only [String.reduceEq, isRu_1, isRu_61, isGr_3, isSt_0, isSt_6, lg_selfT, isB_0, isB_1, eq_self, true_or, or_true, false_or, or_false, or_self, fa_lit, nI_add, pk_mul, pk_sub, nI_addm, nI_leI, nI_ltI, nI_eqI, vp_inI, ix_nI, forall_eq, true_implies, false_implies, not_true_eq_false, not_false_eq_true, and_true, true_and, false_and, and_false, nle_T, nle_F, nlt_T, nlt_F, neq_T, neq_F, up_rd_s, up_rd_n, up_nc, cpy_nc, cpy_in, cpy_out, cpyOk_T, m1_lt, m1_le, m1_nle, m1_nlt, m1_eq, m1_eq2, m1_0le, Nat.add_zero, Nat.zero_add, Nat.mul_one, Nat.sub_zero, if_true, if_false, Nat.add_sub_cancel, Nat.add_sub_cancel_left, in_in, in_inN, iw_in, rq_in, pw_fold, nt_fold, ask_pw, has_eq, or_0, bt1, Bool.true_eq_false, Bool.false_eq_true])
      exact hS _ _ ee2 s f1 e26 r1
  · have ee : aNum inp i = (none, i) := by
      unfold aNum
      cases h0 : inp[i]? with
      | none => rfl
      | some c =>
        dsimp only
        rw [if_neg (hno c h0)]
    (try simp (disch := omega) only [String.reduceEq, isRu_1, isRu_61, isGr_3, isSt_0, isSt_6, lg_selfT, isB_0, isB_1, eq_self, true_or, or_true, false_or, or_false, or_self, fa_lit, nI_add, pk_mul, pk_sub, nI_addm, nI_leI, nI_ltI, nI_eqI, vp_inI, ix_nI, forall_eq, true_implies, false_implies, not_true_eq_false, not_false_eq_true, and_true, true_and, false_and, and_false, nle_T, nle_F, nlt_T, nlt_F, neq_T, neq_F, up_rd_s, up_rd_n, up_nc, cpy_nc, cpy_in, cpy_out, cpyOk_T, m1_lt, m1_le, m1_nle, m1_nlt, m1_eq, m1_eq2, m1_0le, Nat.add_zero, Nat.zero_add, Nat.mul_one, Nat.sub_zero, if_true, if_false, Nat.add_sub_cancel, Nat.add_sub_cancel_left, in_in, in_inN, iw_in, rq_in, pw_fold, nt_fold, ask_pw, has_eq, or_0, bt1, Bool.true_eq_false, Bool.false_eq_true])
    exact hN _ ee σ (FRM_r σ) hR
theorem X12_valuesHere {inp : List Nat} {i : Nat} {σ : Sto} {P : Int32 → Sto → Prop} (hI : INP inp) (hR : RDM inp i σ) (hN : ∀ j, aSet inp 71 i 0 = (none, j) → ∀ σ' : Sto, FRM σ σ' → RDM inp j σ' → P (nI 0) σ') (hS : ∀ v j, aSet inp 71 i 0 = (some v, j) → ∀ σ' : Sto, FRM σ σ' → σ' 87 26 = nI v → RDM inp j σ' → P (nI 1) σ') : D_X12_valuesHere σ P := by
  intro K2 h2
  have hl := hI.1
  have main : ∀ (n i acc : Nat) (s : Sto), inp.length < n + i → acc < 65536 → FRM σ s → RDM inp i s → (∀ j, aSet inp n i acc = (none, j) → ∀ σ' : Sto, FRM σ σ' → RDM inp j σ' → P (nI 0) σ') → (∀ v j, aSet inp n i acc = (some v, j) → ∀ σ' : Sto, FRM σ σ' → σ' 87 26 = nI v → RDM inp j σ' → P (nI 1) σ') → K2 (nI acc) s := by
    intro n
    induction n with
    | zero =>
      intro i acc s h1 _ _ h5 _ _
      have := h5.2.2.2
      omega
    | succ n ih =>
      intro i acc s h1 h3 f1 r1 hN hS
      have hi := r1.2.2.2
      apply h2
      refine X12_number hI r1 (fun j hj t f2 r2 => ?_) (fun v j hj t f2 e26 r2 => ?_)
      · have ee : aSet inp (n + 1) i acc = (none, j) := by rw [aSet_S, hj]
        (try simp (disch := omega) only [String.reduceEq, isRu_1, isRu_61, isGr_3, isSt_0, isSt_6, lg_selfT, isB_0, isB_1, eq_self, true_or, or_true, false_or, or_false, or_self, fa_lit, nI_add, pk_mul, pk_sub, nI_addm, nI_leI, nI_ltI, nI_eqI, vp_inI, ix_nI, forall_eq, true_implies, false_implies, not_true_eq_false, not_false_eq_true, and_true, true_and, false_and, and_false, nle_T, nle_F, nlt_T, nlt_F, neq_T, neq_F, up_rd_s, up_rd_n, up_nc, cpy_nc, cpy_in, cpy_out, cpyOk_T, m1_lt, m1_le, m1_nle, m1_nlt, m1_eq, m1_eq2, m1_0le, Nat.add_zero, Nat.zero_add, Nat.mul_one, Nat.sub_zero, if_true, if_false, Nat.add_sub_cancel, Nat.add_sub_cancel_left, in_in, in_inN, iw_in, rq_in, pw_fold, nt_fold, ask_pw, has_eq, or_0, bt1, Bool.true_eq_false, Bool.false_eq_true])
        exact hN _ ee t (FRM_t f1 f2) r2
      · obtain ⟨q1, q2, q3⟩ := aNum_j hi hj
        obtain ⟨v1, v2⟩ := q3 v rfl
        obtain ⟨w1, w2⟩ := or_pw h3 v1
        have ee : aSet inp (n + 1) i acc = if inp[j]? = some 44 then aSet inp n (j + 1) (acc ||| 2 ^ v) else if inp[j]? = some 125 then (some (acc ||| 2 ^ v), j + 1) else (none, j) := by rw [aSet_S, hj]
        (try simp (disch := omega) only [String.reduceEq, isRu_1, isRu_61, isGr_3, isSt_0, isSt_6, lg_selfT, isB_0, isB_1, eq_self, true_or, or_true, false_or, or_false, or_self, fa_lit, nI_add, pk_mul, pk_sub, nI_addm, nI_leI, nI_ltI, nI_eqI, vp_inI, ix_nI, forall_eq, true_implies, false_implies, not_true_eq_false, not_false_eq_true, and_true, true_and, false_and, and_false, nle_T, nle_F, nlt_T, nlt_F, neq_T, neq_F, up_rd_s, up_rd_n, up_nc, cpy_nc, cpy_in, cpy_out, cpyOk_T, m1_lt, m1_le, m1_nle, m1_nlt, m1_eq, m1_eq2, m1_0le, Nat.add_zero, Nat.zero_add, Nat.mul_one, Nat.sub_zero, if_true, if_false, Nat.add_sub_cancel, Nat.add_sub_cancel_left, in_in, in_inN, iw_in, rq_in, pw_fold, nt_fold, ask_pw, has_eq, or_0, bt1, Bool.true_eq_false, Bool.false_eq_true, e26, pw_nI (show v < 32 by omega), orI])
        refine X12_skips (c := 44) hI r2 (by decide) (fun hc u f3 _ r3 => ?_) (fun hno => ?_)
        · rw [if_pos hc] at ee
          (try simp (disch := omega) only [String.reduceEq, isRu_1, isRu_61, isGr_3, isSt_0, isSt_6, lg_selfT, isB_0, isB_1, eq_self, true_or, or_true, false_or, or_false, or_self, fa_lit, nI_add, pk_mul, pk_sub, nI_addm, nI_leI, nI_ltI, nI_eqI, vp_inI, ix_nI, forall_eq, true_implies, false_implies, not_true_eq_false, not_false_eq_true, and_true, true_and, false_and, and_false, nle_T, nle_F, nlt_T, nlt_F, neq_T, neq_F, up_rd_s, up_rd_n, up_nc, cpy_nc, cpy_in, cpy_out, cpyOk_T, m1_lt, m1_le, m1_nle, m1_nlt, m1_eq, m1_eq2, m1_0le, Nat.add_zero, Nat.zero_add, Nat.mul_one, Nat.sub_zero, if_true, if_false, Nat.add_sub_cancel, Nat.add_sub_cancel_left, in_in, in_inN, iw_in, rq_in, pw_fold, nt_fold, ask_pw, has_eq, or_0, bt1, Bool.true_eq_false, Bool.false_eq_true])
          exact ih (j + 1) (acc ||| 2 ^ v) u (by omega) w2 (FRM_t (FRM_t f1 f2) f3) r3 (fun j2 hj2 => hN j2 (by rw [ee]; exact hj2)) (fun v2 j2 hj2 => hS v2 j2 (by rw [ee]; exact hj2))
        · rw [if_neg hno] at ee
          (try simp (disch := omega) only [String.reduceEq, isRu_1, isRu_61, isGr_3, isSt_0, isSt_6, lg_selfT, isB_0, isB_1, eq_self, true_or, or_true, false_or, or_false, or_self, fa_lit, nI_add, pk_mul, pk_sub, nI_addm, nI_leI, nI_ltI, nI_eqI, vp_inI, ix_nI, forall_eq, true_implies, false_implies, not_true_eq_false, not_false_eq_true, and_true, true_and, false_and, and_false, nle_T, nle_F, nlt_T, nlt_F, neq_T, neq_F, up_rd_s, up_rd_n, up_nc, cpy_nc, cpy_in, cpy_out, cpyOk_T, m1_lt, m1_le, m1_nle, m1_nlt, m1_eq, m1_eq2, m1_0le, Nat.add_zero, Nat.zero_add, Nat.mul_one, Nat.sub_zero, if_true, if_false, Nat.add_sub_cancel, Nat.add_sub_cancel_left, in_in, in_inN, iw_in, rq_in, pw_fold, nt_fold, ask_pw, has_eq, or_0, bt1, Bool.true_eq_false, Bool.false_eq_true])
          have r3 : RDM inp j (up t 87 26 (nI (acc ||| 2 ^ v))) := RDM_m r2 (FRM_v _ _) (by (try simp (disch := omega) only [String.reduceEq, isRu_1, isRu_61, isGr_3, isSt_0, isSt_6, lg_selfT, isB_0, isB_1, eq_self, true_or, or_true, false_or, or_false, or_self, fa_lit, nI_add, pk_mul, pk_sub, nI_addm, nI_leI, nI_ltI, nI_eqI, vp_inI, ix_nI, forall_eq, true_implies, false_implies, not_true_eq_false, not_false_eq_true, and_true, true_and, false_and, and_false, nle_T, nle_F, nlt_T, nlt_F, neq_T, neq_F, up_rd_s, up_rd_n, up_nc, cpy_nc, cpy_in, cpy_out, cpyOk_T, m1_lt, m1_le, m1_nle, m1_nlt, m1_eq, m1_eq2, m1_0le, Nat.add_zero, Nat.zero_add, Nat.mul_one, Nat.sub_zero, if_true, if_false, Nat.add_sub_cancel, Nat.add_sub_cancel_left, in_in, in_inN, iw_in, rq_in, pw_fold, nt_fold, ask_pw, has_eq, or_0, bt1, Bool.true_eq_false, Bool.false_eq_true]); exact r2.2.2.1) q2
          refine X12_skips (c := 125) hI r3 (by decide) (fun hc u f3 e3 r4 => ?_) (fun hno2 => ?_)
          · rw [if_pos hc] at ee
            (try simp (disch := omega) only [String.reduceEq, isRu_1, isRu_61, isGr_3, isSt_0, isSt_6, lg_selfT, isB_0, isB_1, eq_self, true_or, or_true, false_or, or_false, or_self, fa_lit, nI_add, pk_mul, pk_sub, nI_addm, nI_leI, nI_ltI, nI_eqI, vp_inI, ix_nI, forall_eq, true_implies, false_implies, not_true_eq_false, not_false_eq_true, and_true, true_and, false_and, and_false, nle_T, nle_F, nlt_T, nlt_F, neq_T, neq_F, up_rd_s, up_rd_n, up_nc, cpy_nc, cpy_in, cpy_out, cpyOk_T, m1_lt, m1_le, m1_nle, m1_nlt, m1_eq, m1_eq2, m1_0le, Nat.add_zero, Nat.zero_add, Nat.mul_one, Nat.sub_zero, if_true, if_false, Nat.add_sub_cancel, Nat.add_sub_cancel_left, in_in, in_inN, iw_in, rq_in, pw_fold, nt_fold, ask_pw, has_eq, or_0, bt1, Bool.true_eq_false, Bool.false_eq_true])
            refine hS _ _ ee u (FRM_t (FRM_t (FRM_t f1 f2) (FRM_v _ _)) f3) ?_ r4
            rw [e3]
            (try simp (disch := omega) only [String.reduceEq, isRu_1, isRu_61, isGr_3, isSt_0, isSt_6, lg_selfT, isB_0, isB_1, eq_self, true_or, or_true, false_or, or_false, or_self, fa_lit, nI_add, pk_mul, pk_sub, nI_addm, nI_leI, nI_ltI, nI_eqI, vp_inI, ix_nI, forall_eq, true_implies, false_implies, not_true_eq_false, not_false_eq_true, and_true, true_and, false_and, and_false, nle_T, nle_F, nlt_T, nlt_F, neq_T, neq_F, up_rd_s, up_rd_n, up_nc, cpy_nc, cpy_in, cpy_out, cpyOk_T, m1_lt, m1_le, m1_nle, m1_nlt, m1_eq, m1_eq2, m1_0le, Nat.add_zero, Nat.zero_add, Nat.mul_one, Nat.sub_zero, if_true, if_false, Nat.add_sub_cancel, Nat.add_sub_cancel_left, in_in, in_inN, iw_in, rq_in, pw_fold, nt_fold, ask_pw, has_eq, or_0, bt1, Bool.true_eq_false, Bool.false_eq_true])
          · rw [if_neg hno2] at ee
            (try simp (disch := omega) only [String.reduceEq, isRu_1, isRu_61, isGr_3, isSt_0, isSt_6, lg_selfT, isB_0, isB_1, eq_self, true_or, or_true, false_or, or_false, or_self, fa_lit, nI_add, pk_mul, pk_sub, nI_addm, nI_leI, nI_ltI, nI_eqI, vp_inI, ix_nI, forall_eq, true_implies, false_implies, not_true_eq_false, not_false_eq_true, and_true, true_and, false_and, and_false, nle_T, nle_F, nlt_T, nlt_F, neq_T, neq_F, up_rd_s, up_rd_n, up_nc, cpy_nc, cpy_in, cpy_out, cpyOk_T, m1_lt, m1_le, m1_nle, m1_nlt, m1_eq, m1_eq2, m1_0le, Nat.add_zero, Nat.zero_add, Nat.mul_one, Nat.sub_zero, if_true, if_false, Nat.add_sub_cancel, Nat.add_sub_cancel_left, in_in, in_inN, iw_in, rq_in, pw_fold, nt_fold, ask_pw, has_eq, or_0, bt1, Bool.true_eq_false, Bool.false_eq_true])
            exact hN _ ee _ (FRM_t (FRM_t f1 f2) (FRM_v _ _)) r3
  exact main 71 i 0 σ (by omega) (by decide) (FRM_r σ) hR hN hS
theorem X12_kindHere {inp : List Nat} {i : Nat} {σ : Sto} {P : Int32 → Sto → Prop} (hI : INP inp) (hR : RDM inp i σ) (h : P (optI (aKd inp[i]?)) σ) : D_X12_kindHere σ P := by
  unfold D_X12_kindHere
  refine X12_here hI hR ?_
  have ho := inp_lt hI i
  unfold aKd at h
  simp only [fa_lit, opt_eq ho (show 35 < 65536 by decide), opt_eq ho (show 60 < 65536 by decide), opt_eq ho (show 61 < 65536 by decide), opt_eq ho (show 62 < 65536 by decide), opt_eq ho (show 123 < 65536 by decide)]
  generalize inp[i]? = o at *
  by_cases q61 : o = some 61
  · subst q61
    rw [if_pos rfl] at h
    simp
    exact h
  · rw [if_neg q61] at h
    by_cases q35 : o = some 35
    · subst q35
      rw [if_pos rfl] at h
      simp
      exact h
    · rw [if_neg q35] at h
      by_cases q60 : o = some 60
      · subst q60
        rw [if_pos rfl] at h
        simp
        exact h
      · rw [if_neg q60] at h
        by_cases q62 : o = some 62
        · subst q62
          rw [if_pos rfl] at h
          simp
          exact h
        · rw [if_neg q62] at h
          by_cases q123 : o = some 123
          · subst q123
            rw [if_pos rfl] at h
            simp
            exact h
          · rw [if_neg q123] at h
            simp only [q61, q35, q60, q62, q123, false_implies, not_false_eq_true, true_implies, true_and]
            exact h
/-- the model's row of one rule -/
def FRK (k : Nat) (σ σ' : Sto) : Prop := (∀ c, c ≠ 87 → c ≠ 104 → σ' c = σ c) ∧ (∀ f, f ≠ 25 → f ≠ 26 → σ' 87 f = σ 87 f) ∧ ∀ j, j < 16 * k ∨ 16 * k + 16 ≤ j → σ' 104 j = σ 104 j
theorem FRK_of {k : Nat} {σ σ' : Sto} (h : FRM σ σ') : FRK k σ σ' := ⟨fun c hc _ => h.1 c hc, h.2, fun j _ => by rw [h.1 104 (by decide)]⟩
theorem FRK_t {k : Nat} {σ σ' σ'' : Sto} (h1 : FRK k σ σ') (h2 : FRK k σ' σ'') : FRK k σ σ'' := ⟨fun c c1 c2 => (h2.1 c c1 c2).trans (h1.1 c c1 c2), fun f hf hg => (h2.2.1 f hf hg).trans (h1.2.1 f hf hg), fun j hj => (h2.2.2 j hj).trans (h1.2.2 j hj)⟩
/-- as much of a rule's row as is known before its priority -/
def HeadAt (f : Nat → Int32) (b p e : Nat) (cs : List mCond) : Prop := f b = nI p ∧ f (b + 1) = nI e ∧ f (b + 3) = nI cs.length ∧ CondsAt f b cs
theorem HeadAt_cg {f f' : Nat → Int32} {b p e : Nat} {cs : List mCond} (hl : cs.length ≤ 4) (h : ∀ j, b ≤ j → j < b + 16 → j ≠ b + 2 → f' j = f j) (H : HeadAt f b p e cs) : HeadAt f' b p e cs := by
  obtain ⟨h0, h1, h2, h3⟩ := H
  refine ⟨(h _ (by omega) (by omega) (by omega)).trans h0, (h _ (by omega) (by omega) (by omega)).trans h1, (h _ (by omega) (by omega) (by omega)).trans h2, fun c q hq => ?_⟩
  have hlt := (List.getElem?_eq_some_iff.mp hq).1
  obtain ⟨q0, q1, q2⟩ := h3 c q hq
  exact ⟨(h _ (by omega) (by omega) (by omega)).trans q0, (h _ (by omega) (by omega) (by omega)).trans q1, (h _ (by omega) (by omega) (by omega)).trans q2⟩
theorem CondsAt_snoc2 {f f' : Nat → Int32} {b : Nat} {l : List mCond} {q : mCond} (h : CondsAt f b l) (h1 : ∀ k, b + 4 ≤ k → k < b + 4 + 3 * l.length → f' k = f k) (h2 : f' (b + 4 + 3 * l.length) = nI q.1 ∧ f' (b + 4 + 3 * l.length + 1) = nI q.2.1 ∧ f' (b + 4 + 3 * l.length + 2) = nI q.2.2) : CondsAt f' b (l ++ [q]) := by
  intro c v hk
  rcases Nat.lt_or_ge c l.length with e | e
  · rw [List.getElem?_append_left e] at hk
    obtain ⟨a0, a1, a2⟩ := h c v hk
    exact ⟨(h1 _ (by omega) (by omega)).trans a0, (h1 _ (by omega) (by omega)).trans a1, (h1 _ (by omega) (by omega)).trans a2⟩
  · have hlt := (List.getElem?_eq_some_iff.mp hk).1
    rw [List.length_append] at hlt
    have hlt : c < l.length + 1 := hlt
    have : c = l.length := by omega
    subst this
    rw [List.getElem?_append_right (Nat.le_refl _), Nat.sub_self] at hk
    cases hk
    exact h2
theorem X12_conditionHere {inp : List Nat} {i k p e : Nat} {acc : List mCond} {σ : Sto} {P : Int32 → Sto → Prop} (hI : INP inp) (hR : RDM inp i σ) (hk : k < 14) (hA : HeadAt (σ 104) (16 * k) p e acc) (hl : acc.length < 4) (hN : ∀ j, aCond inp i = (none, j) → ∀ σ' : Sto, FRK k σ σ' → RDM inp j σ' → P (nI 0) σ') (hS : ∀ q j, aCond inp i = (some q, j) → ∀ σ' : Sto, FRK k σ σ' → RDM inp j σ' → HeadAt (σ' 104) (16 * k) p e (acc ++ [q]) → P (nI 1) σ') : D_X12_conditionHere (nI (16 * k)) σ P := by
  intro K79 h79
  have hlen := hI.1
  have ho := inp_lt hI
  refine X12_here hI hR ?_
  refine X12_in2 (a := 97) (b := 102) (by decide) (ho i) (fun c hc c1 c2 => ?_) (fun hno => ?_) (by decide)
  · have l0 := get_lt hc
    refine bq_f (by decide) ?_
    refine X12_here hI hR ?_
    rw [hc]
    have o1 : optI (some c) = nI c := rfl
    have r3 := hR.2.2.1
    (try simp (disch := omega) only [String.reduceEq, isRu_1, isRu_61, isGr_3, isSt_0, isSt_6, lg_selfT, isB_0, isB_1, eq_self, true_or, or_true, false_or, or_false, or_self, fa_lit, nI_add, pk_mul, pk_sub, nI_addm, nI_leI, nI_ltI, nI_eqI, vp_inI, ix_nI, forall_eq, true_implies, false_implies, not_true_eq_false, not_false_eq_true, and_true, true_and, false_and, and_false, nle_T, nle_F, nlt_T, nlt_F, neq_T, neq_F, up_rd_s, up_rd_n, up_nc, cpy_nc, cpy_in, cpy_out, cpyOk_T, m1_lt, m1_le, m1_nle, m1_nlt, m1_eq, m1_eq2, m1_0le, Nat.add_zero, Nat.zero_add, Nat.mul_one, Nat.sub_zero, if_true, if_false, Nat.add_sub_cancel, Nat.add_sub_cancel_left, in_in, in_inN, iw_in, rq_in, pw_fold, nt_fold, ask_pw, has_eq, or_0, bt1, Bool.true_eq_false, Bool.false_eq_true, o1, r3])
    have f1 := FRM_u σ (nI (i + 1))
    have r1 : RDM inp (i + 1) (up σ 87 25 (nI (i + 1))) := RDM_m hR f1 (by (try simp (disch := omega) only [String.reduceEq, isRu_1, isRu_61, isGr_3, isSt_0, isSt_6, lg_selfT, isB_0, isB_1, eq_self, true_or, or_true, false_or, or_false, or_self, fa_lit, nI_add, pk_mul, pk_sub, nI_addm, nI_leI, nI_ltI, nI_eqI, vp_inI, ix_nI, forall_eq, true_implies, false_implies, not_true_eq_false, not_false_eq_true, and_true, true_and, false_and, and_false, nle_T, nle_F, nlt_T, nlt_F, neq_T, neq_F, up_rd_s, up_rd_n, up_nc, cpy_nc, cpy_in, cpy_out, cpyOk_T, m1_lt, m1_le, m1_nle, m1_nlt, m1_eq, m1_eq2, m1_0le, Nat.add_zero, Nat.zero_add, Nat.mul_one, Nat.sub_zero, if_true, if_false, Nat.add_sub_cancel, Nat.add_sub_cancel_left, in_in, in_inN, iw_in, rq_in, pw_fold, nt_fold, ask_pw, has_eq, or_0, bt1, Bool.true_eq_false, Bool.false_eq_true])) (by omega)
    generalize up σ 87 25 (nI (i + 1)) = s at *
    refine X12_kindHere hI r1 ?_
    cases hkd : aKd inp[i + 1]? with
    | none =>
      have ee : aCond inp i = (none, i + 1) := by
        unfold aCond
        rw [hc]
        dsimp only
        rw [if_pos ⟨c1, c2⟩, hkd]
      have o2 : optI none = -nI 1 := rfl
      have m10 : (nI 0 ≤ -nI 1) = False := eq_false (by decide)
      (try simp (disch := omega) only [String.reduceEq, isRu_1, isRu_61, isGr_3, isSt_0, isSt_6, lg_selfT, isB_0, isB_1, eq_self, true_or, or_true, false_or, or_false, or_self, fa_lit, nI_add, pk_mul, pk_sub, nI_addm, nI_leI, nI_ltI, nI_eqI, vp_inI, ix_nI, forall_eq, true_implies, false_implies, not_true_eq_false, not_false_eq_true, and_true, true_and, false_and, and_false, nle_T, nle_F, nlt_T, nlt_F, neq_T, neq_F, up_rd_s, up_rd_n, up_nc, cpy_nc, cpy_in, cpy_out, cpyOk_T, m1_lt, m1_le, m1_nle, m1_nlt, m1_eq, m1_eq2, m1_0le, Nat.add_zero, Nat.zero_add, Nat.mul_one, Nat.sub_zero, if_true, if_false, Nat.add_sub_cancel, Nat.add_sub_cancel_left, in_in, in_inN, iw_in, rq_in, pw_fold, nt_fold, ask_pw, has_eq, or_0, bt1, Bool.true_eq_false, Bool.false_eq_true, o2, m10])
      exact hN _ ee s (FRK_of f1) r1
    | some kd =>
      obtain ⟨k4, cc, hcc⟩ := aKd_lt hkd
      have l1 := get_lt hcc
      have ee : aCond inp i = match aOp inp kd (i + 2) with
          | (none, j) => (none, j)
          | (some s, j) => (some (c - 97, kd, s), j) := by
        unfold aCond
        rw [hc]
        dsimp only
        rw [if_pos ⟨c1, c2⟩, hkd]
        rfl
      have o2 : optI (some kd) = nI kd := rfl
      have r13 := r1.2.2.1
      (try simp (disch := omega) only [String.reduceEq, isRu_1, isRu_61, isGr_3, isSt_0, isSt_6, lg_selfT, isB_0, isB_1, eq_self, true_or, or_true, false_or, or_false, or_self, fa_lit, nI_add, pk_mul, pk_sub, nI_addm, nI_leI, nI_ltI, nI_eqI, vp_inI, ix_nI, forall_eq, true_implies, false_implies, not_true_eq_false, not_false_eq_true, and_true, true_and, false_and, and_false, nle_T, nle_F, nlt_T, nlt_F, neq_T, neq_F, up_rd_s, up_rd_n, up_nc, cpy_nc, cpy_in, cpy_out, cpyOk_T, m1_lt, m1_le, m1_nle, m1_nlt, m1_eq, m1_eq2, m1_0le, Nat.add_zero, Nat.zero_add, Nat.mul_one, Nat.sub_zero, if_true, if_false, Nat.add_sub_cancel, Nat.add_sub_cancel_left, in_in, in_inN, iw_in, rq_in, pw_fold, nt_fold, ask_pw, has_eq, or_0, bt1, Bool.true_eq_false, Bool.false_eq_true, o2, r13])
      have f2 := FRM_u s (nI (i + 2))
      have r2 : RDM inp (i + 2) (up s 87 25 (nI (i + 2))) := RDM_m r1 f2 (by (try simp (disch := omega) only [String.reduceEq, isRu_1, isRu_61, isGr_3, isSt_0, isSt_6, lg_selfT, isB_0, isB_1, eq_self, true_or, or_true, false_or, or_false, or_self, fa_lit, nI_add, pk_mul, pk_sub, nI_addm, nI_leI, nI_ltI, nI_eqI, vp_inI, ix_nI, forall_eq, true_implies, false_implies, not_true_eq_false, not_false_eq_true, and_true, true_and, false_and, and_false, nle_T, nle_F, nlt_T, nlt_F, neq_T, neq_F, up_rd_s, up_rd_n, up_nc, cpy_nc, cpy_in, cpy_out, cpyOk_T, m1_lt, m1_le, m1_nle, m1_nlt, m1_eq, m1_eq2, m1_0le, Nat.add_zero, Nat.zero_add, Nat.mul_one, Nat.sub_zero, if_true, if_false, Nat.add_sub_cancel, Nat.add_sub_cancel_left, in_in, in_inN, iw_in, rq_in, pw_fold, nt_fold, ask_pw, has_eq, or_0, bt1, Bool.true_eq_false, Bool.false_eq_true])) (by omega)
      generalize up s 87 25 (nI (i + 2)) = s2 at *
      have fin1 : ∀ v j, aOp inp kd (i + 2) = (some v, j) → ∀ s3 : Sto, FRM s2 s3 → s3 87 26 = nI v → RDM inp j s3 → K79 (nI (c - 97)) (nI kd) s3 := by
        intro v j hj s3 f3 e26 r3
        rw [hj] at ee
        apply h79
        have ff := FRM_t (FRM_t f1 f2) f3
        obtain ⟨a0, a1, a2, a3⟩ : HeadAt (s3 104) (16 * k) p e acc := by rw [ff.1 104 (by decide)]; exact hA
        (try simp (disch := omega) only [String.reduceEq, isRu_1, isRu_61, isGr_3, isSt_0, isSt_6, lg_selfT, isB_0, isB_1, eq_self, true_or, or_true, false_or, or_false, or_self, fa_lit, nI_add, pk_mul, pk_sub, nI_addm, nI_leI, nI_ltI, nI_eqI, vp_inI, ix_nI, forall_eq, true_implies, false_implies, not_true_eq_false, not_false_eq_true, and_true, true_and, false_and, and_false, nle_T, nle_F, nlt_T, nlt_F, neq_T, neq_F, up_rd_s, up_rd_n, up_nc, cpy_nc, cpy_in, cpy_out, cpyOk_T, m1_lt, m1_le, m1_nle, m1_nlt, m1_eq, m1_eq2, m1_0le, Nat.add_zero, Nat.zero_add, Nat.mul_one, Nat.sub_zero, if_true, if_false, Nat.add_sub_cancel, Nat.add_sub_cancel_left, in_in, in_inN, iw_in, rq_in, pw_fold, nt_fold, ask_pw, has_eq, or_0, bt1, Bool.true_eq_false, Bool.false_eq_true, a2, e26])
        have hln : (acc ++ [(c - 97, kd, v)]).length = acc.length + 1 := by rw [List.length_append]; rfl
        refine hS _ _ ee _ (FRK_t (FRK_of ff) ⟨fun c c1 c2 => by (try simp (disch := omega) only [String.reduceEq, isRu_1, isRu_61, isGr_3, isSt_0, isSt_6, lg_selfT, isB_0, isB_1, eq_self, true_or, or_true, false_or, or_false, or_self, fa_lit, nI_add, pk_mul, pk_sub, nI_addm, nI_leI, nI_ltI, nI_eqI, vp_inI, ix_nI, forall_eq, true_implies, false_implies, not_true_eq_false, not_false_eq_true, and_true, true_and, false_and, and_false, nle_T, nle_F, nlt_T, nlt_F, neq_T, neq_F, up_rd_s, up_rd_n, up_nc, cpy_nc, cpy_in, cpy_out, cpyOk_T, m1_lt, m1_le, m1_nle, m1_nlt, m1_eq, m1_eq2, m1_0le, Nat.add_zero, Nat.zero_add, Nat.mul_one, Nat.sub_zero, if_true, if_false, Nat.add_sub_cancel, Nat.add_sub_cancel_left, in_in, in_inN, iw_in, rq_in, pw_fold, nt_fold, ask_pw, has_eq, or_0, bt1, Bool.true_eq_false, Bool.false_eq_true]), fun f hf hg => by (try simp (disch := omega) only [String.reduceEq, isRu_1, isRu_61, isGr_3, isSt_0, isSt_6, lg_selfT, isB_0, isB_1, eq_self, true_or, or_true, false_or, or_false, or_self, fa_lit, nI_add, pk_mul, pk_sub, nI_addm, nI_leI, nI_ltI, nI_eqI, vp_inI, ix_nI, forall_eq, true_implies, false_implies, not_true_eq_false, not_false_eq_true, and_true, true_and, false_and, and_false, nle_T, nle_F, nlt_T, nlt_F, neq_T, neq_F, up_rd_s, up_rd_n, up_nc, cpy_nc, cpy_in, cpy_out, cpyOk_T, m1_lt, m1_le, m1_nle, m1_nlt, m1_eq, m1_eq2, m1_0le, Nat.add_zero, Nat.zero_add, Nat.mul_one, Nat.sub_zero, if_true, if_false, Nat.add_sub_cancel, Nat.add_sub_cancel_left, in_in, in_inN, iw_in, rq_in, pw_fold, nt_fold, ask_pw, has_eq, or_0, bt1, Bool.true_eq_false, Bool.false_eq_true]), fun j hj => by (try simp (disch := omega) only [String.reduceEq, isRu_1, isRu_61, isGr_3, isSt_0, isSt_6, lg_selfT, isB_0, isB_1, eq_self, true_or, or_true, false_or, or_false, or_self, fa_lit, nI_add, pk_mul, pk_sub, nI_addm, nI_leI, nI_ltI, nI_eqI, vp_inI, ix_nI, forall_eq, true_implies, false_implies, not_true_eq_false, not_false_eq_true, and_true, true_and, false_and, and_false, nle_T, nle_F, nlt_T, nlt_F, neq_T, neq_F, up_rd_s, up_rd_n, up_nc, cpy_nc, cpy_in, cpy_out, cpyOk_T, m1_lt, m1_le, m1_nle, m1_nlt, m1_eq, m1_eq2, m1_0le, Nat.add_zero, Nat.zero_add, Nat.mul_one, Nat.sub_zero, if_true, if_false, Nat.add_sub_cancel, Nat.add_sub_cancel_left, in_in, in_inN, iw_in, rq_in, pw_fold, nt_fold, ask_pw, has_eq, or_0, bt1, Bool.true_eq_false, Bool.false_eq_true])⟩) ⟨by (try simp (disch := omega) only [String.reduceEq, isRu_1, isRu_61, isGr_3, isSt_0, isSt_6, lg_selfT, isB_0, isB_1, eq_self, true_or, or_true, false_or, or_false, or_self, fa_lit, nI_add, pk_mul, pk_sub, nI_addm, nI_leI, nI_ltI, nI_eqI, vp_inI, ix_nI, forall_eq, true_implies, false_implies, not_true_eq_false, not_false_eq_true, and_true, true_and, false_and, and_false, nle_T, nle_F, nlt_T, nlt_F, neq_T, neq_F, up_rd_s, up_rd_n, up_nc, cpy_nc, cpy_in, cpy_out, cpyOk_T, m1_lt, m1_le, m1_nle, m1_nlt, m1_eq, m1_eq2, m1_0le, Nat.add_zero, Nat.zero_add, Nat.mul_one, Nat.sub_zero, if_true, if_false, Nat.add_sub_cancel, Nat.add_sub_cancel_left, in_in, in_inN, iw_in, rq_in, pw_fold, nt_fold, ask_pw, has_eq, or_0, bt1, Bool.true_eq_false, Bool.false_eq_true]); exact r3.1, by (try simp (disch := omega) only [String.reduceEq, isRu_1, isRu_61, isGr_3, isSt_0, isSt_6, lg_selfT, isB_0, isB_1, eq_self, true_or, or_true, false_or, or_false, or_self, fa_lit, nI_add, pk_mul, pk_sub, nI_addm, nI_leI, nI_ltI, nI_eqI, vp_inI, ix_nI, forall_eq, true_implies, false_implies, not_true_eq_false, not_false_eq_true, and_true, true_and, false_and, and_false, nle_T, nle_F, nlt_T, nlt_F, neq_T, neq_F, up_rd_s, up_rd_n, up_nc, cpy_nc, cpy_in, cpy_out, cpyOk_T, m1_lt, m1_le, m1_nle, m1_nlt, m1_eq, m1_eq2, m1_0le, Nat.add_zero, Nat.zero_add, Nat.mul_one, Nat.sub_zero, if_true, if_false, Nat.add_sub_cancel, Nat.add_sub_cancel_left, in_in, in_inN, iw_in, rq_in, pw_fold, nt_fold, ask_pw, has_eq, or_0, bt1, Bool.true_eq_false, Bool.false_eq_true]); exact r3.2.1, by (try simp (disch := omega) only [String.reduceEq, isRu_1, isRu_61, isGr_3, isSt_0, isSt_6, lg_selfT, isB_0, isB_1, eq_self, true_or, or_true, false_or, or_false, or_self, fa_lit, nI_add, pk_mul, pk_sub, nI_addm, nI_leI, nI_ltI, nI_eqI, vp_inI, ix_nI, forall_eq, true_implies, false_implies, not_true_eq_false, not_false_eq_true, and_true, true_and, false_and, and_false, nle_T, nle_F, nlt_T, nlt_F, neq_T, neq_F, up_rd_s, up_rd_n, up_nc, cpy_nc, cpy_in, cpy_out, cpyOk_T, m1_lt, m1_le, m1_nle, m1_nlt, m1_eq, m1_eq2, m1_0le, Nat.add_zero, Nat.zero_add, Nat.mul_one, Nat.sub_zero, if_true, if_false, Nat.add_sub_cancel, Nat.add_sub_cancel_left, in_in, in_inN, iw_in, rq_in, pw_fold, nt_fold, ask_pw, has_eq, or_0, bt1, Bool.true_eq_false, Bool.false_eq_true]); exact r3.2.2.1, r3.2.2.2⟩ ⟨?_, ?_, ?_, CondsAt_snoc2 a3 (fun j hj0 hj => ?_) ⟨?_, ?_, ?_⟩⟩
        · (try simp (disch := omega) only [String.reduceEq, isRu_1, isRu_61, isGr_3, isSt_0, isSt_6, lg_selfT, isB_0, isB_1, eq_self, true_or, or_true, false_or, or_false, or_self, fa_lit, nI_add, pk_mul, pk_sub, nI_addm, nI_leI, nI_ltI, nI_eqI, vp_inI, ix_nI, forall_eq, true_implies, false_implies, not_true_eq_false, not_false_eq_true, and_true, true_and, false_and, and_false, nle_T, nle_F, nlt_T, nlt_F, neq_T, neq_F, up_rd_s, up_rd_n, up_nc, cpy_nc, cpy_in, cpy_out, cpyOk_T, m1_lt, m1_le, m1_nle, m1_nlt, m1_eq, m1_eq2, m1_0le, Nat.add_zero, Nat.zero_add, Nat.mul_one, Nat.sub_zero, if_true, if_false, Nat.add_sub_cancel, Nat.add_sub_cancel_left, in_in, in_inN, iw_in, rq_in, pw_fold, nt_fold, ask_pw, has_eq, or_0, bt1, Bool.true_eq_false, Bool.false_eq_true]); exact a0
        · (try simp (disch := omega) only [String.reduceEq, isRu_1, isRu_61, isGr_3, isSt_0, isSt_6, lg_selfT, isB_0, isB_1, eq_self, true_or, or_true, false_or, or_false, or_self, fa_lit, nI_add, pk_mul, pk_sub, nI_addm, nI_leI, nI_ltI, nI_eqI, vp_inI, ix_nI, forall_eq, true_implies, false_implies, not_true_eq_false, not_false_eq_true, and_true, true_and, false_and, and_false, nle_T, nle_F, nlt_T, nlt_F, neq_T, neq_F, up_rd_s, up_rd_n, up_nc, cpy_nc, cpy_in, cpy_out, cpyOk_T, m1_lt, m1_le, m1_nle, m1_nlt, m1_eq, m1_eq2, m1_0le, Nat.add_zero, Nat.zero_add, Nat.mul_one, Nat.sub_zero, if_true, if_false, Nat.add_sub_cancel, Nat.add_sub_cancel_left, in_in, in_inN, iw_in, rq_in, pw_fold, nt_fold, ask_pw, has_eq, or_0, bt1, Bool.true_eq_false, Bool.false_eq_true]); exact a1
        · (try simp (disch := omega) only [String.reduceEq, isRu_1, isRu_61, isGr_3, isSt_0, isSt_6, lg_selfT, isB_0, isB_1, eq_self, true_or, or_true, false_or, or_false, or_self, fa_lit, nI_add, pk_mul, pk_sub, nI_addm, nI_leI, nI_ltI, nI_eqI, vp_inI, ix_nI, forall_eq, true_implies, false_implies, not_true_eq_false, not_false_eq_true, and_true, true_and, false_and, and_false, nle_T, nle_F, nlt_T, nlt_F, neq_T, neq_F, up_rd_s, up_rd_n, up_nc, cpy_nc, cpy_in, cpy_out, cpyOk_T, m1_lt, m1_le, m1_nle, m1_nlt, m1_eq, m1_eq2, m1_0le, Nat.add_zero, Nat.zero_add, Nat.mul_one, Nat.sub_zero, if_true, if_false, Nat.add_sub_cancel, Nat.add_sub_cancel_left, in_in, in_inN, iw_in, rq_in, pw_fold, nt_fold, ask_pw, has_eq, or_0, bt1, Bool.true_eq_false, Bool.false_eq_true, hln])
        · (try simp (disch := omega) only [String.reduceEq, isRu_1, isRu_61, isGr_3, isSt_0, isSt_6, lg_selfT, isB_0, isB_1, eq_self, true_or, or_true, false_or, or_false, or_self, fa_lit, nI_add, pk_mul, pk_sub, nI_addm, nI_leI, nI_ltI, nI_eqI, vp_inI, ix_nI, forall_eq, true_implies, false_implies, not_true_eq_false, not_false_eq_true, and_true, true_and, false_and, and_false, nle_T, nle_F, nlt_T, nlt_F, neq_T, neq_F, up_rd_s, up_rd_n, up_nc, cpy_nc, cpy_in, cpy_out, cpyOk_T, m1_lt, m1_le, m1_nle, m1_nlt, m1_eq, m1_eq2, m1_0le, Nat.add_zero, Nat.zero_add, Nat.mul_one, Nat.sub_zero, if_true, if_false, Nat.add_sub_cancel, Nat.add_sub_cancel_left, in_in, in_inN, iw_in, rq_in, pw_fold, nt_fold, ask_pw, has_eq, or_0, bt1, Bool.true_eq_false, Bool.false_eq_true])
        · (try simp (disch := omega) only [String.reduceEq, isRu_1, isRu_61, isGr_3, isSt_0, isSt_6, lg_selfT, isB_0, isB_1, eq_self, true_or, or_true, false_or, or_false, or_self, fa_lit, nI_add, pk_mul, pk_sub, nI_addm, nI_leI, nI_ltI, nI_eqI, vp_inI, ix_nI, forall_eq, true_implies, false_implies, not_true_eq_false, not_false_eq_true, and_true, true_and, false_and, and_false, nle_T, nle_F, nlt_T, nlt_F, neq_T, neq_F, up_rd_s, up_rd_n, up_nc, cpy_nc, cpy_in, cpy_out, cpyOk_T, m1_lt, m1_le, m1_nle, m1_nlt, m1_eq, m1_eq2, m1_0le, Nat.add_zero, Nat.zero_add, Nat.mul_one, Nat.sub_zero, if_true, if_false, Nat.add_sub_cancel, Nat.add_sub_cancel_left, in_in, in_inN, iw_in, rq_in, pw_fold, nt_fold, ask_pw, has_eq, or_0, bt1, Bool.true_eq_false, Bool.false_eq_true])
        · (try simp (disch := omega) only [String.reduceEq, isRu_1, isRu_61, isGr_3, isSt_0, isSt_6, lg_selfT, isB_0, isB_1, eq_self, true_or, or_true, false_or, or_false, or_self, fa_lit, nI_add, pk_mul, pk_sub, nI_addm, nI_leI, nI_ltI, nI_eqI, vp_inI, ix_nI, forall_eq, true_implies, false_implies, not_true_eq_false, not_false_eq_true, and_true, true_and, false_and, and_false, nle_T, nle_F, nlt_T, nlt_F, neq_T, neq_F, up_rd_s, up_rd_n, up_nc, cpy_nc, cpy_in, cpy_out, cpyOk_T, m1_lt, m1_le, m1_nle, m1_nlt, m1_eq, m1_eq2, m1_0le, Nat.add_zero, Nat.zero_add, Nat.mul_one, Nat.sub_zero, if_true, if_false, Nat.add_sub_cancel, Nat.add_sub_cancel_left, in_in, in_inN, iw_in, rq_in, pw_fold, nt_fold, ask_pw, has_eq, or_0, bt1, Bool.true_eq_false, Bool.false_eq_true])
        · (try simp (disch := omega) only [String.reduceEq, isRu_1, isRu_61, isGr_3, isSt_0, isSt_6, lg_selfT, isB_0, isB_1, eq_self, true_or, or_true, false_or, or_false, or_self, fa_lit, nI_add, pk_mul, pk_sub, nI_addm, nI_leI, nI_ltI, nI_eqI, vp_inI, ix_nI, forall_eq, true_implies, false_implies, not_true_eq_false, not_false_eq_true, and_true, true_and, false_and, and_false, nle_T, nle_F, nlt_T, nlt_F, neq_T, neq_F, up_rd_s, up_rd_n, up_nc, cpy_nc, cpy_in, cpy_out, cpyOk_T, m1_lt, m1_le, m1_nle, m1_nlt, m1_eq, m1_eq2, m1_0le, Nat.add_zero, Nat.zero_add, Nat.mul_one, Nat.sub_zero, if_true, if_false, Nat.add_sub_cancel, Nat.add_sub_cancel_left, in_in, in_inN, iw_in, rq_in, pw_fold, nt_fold, ask_pw, has_eq, or_0, bt1, Bool.true_eq_false, Bool.false_eq_true])
      by_cases e4 : kd = 4
      · have eo : aOp inp kd (i + 2) = aSet inp 71 (i + 2) 0 := if_pos e4
        (try simp (disch := omega) only [String.reduceEq, isRu_1, isRu_61, isGr_3, isSt_0, isSt_6, lg_selfT, isB_0, isB_1, eq_self, true_or, or_true, false_or, or_false, or_self, fa_lit, nI_add, pk_mul, pk_sub, nI_addm, nI_leI, nI_ltI, nI_eqI, vp_inI, ix_nI, forall_eq, true_implies, false_implies, not_true_eq_false, not_false_eq_true, and_true, true_and, false_and, and_false, nle_T, nle_F, nlt_T, nlt_F, neq_T, neq_F, up_rd_s, up_rd_n, up_nc, cpy_nc, cpy_in, cpy_out, cpyOk_T, m1_lt, m1_le, m1_nle, m1_nlt, m1_eq, m1_eq2, m1_0le, Nat.add_zero, Nat.zero_add, Nat.mul_one, Nat.sub_zero, if_true, if_false, Nat.add_sub_cancel, Nat.add_sub_cancel_left, in_in, in_inN, iw_in, rq_in, pw_fold, nt_fold, ask_pw, has_eq, or_0, bt1, Bool.true_eq_false, Bool.false_eq_true, e4])
        rw [e4] at fin1 eo ee
        refine X12_valuesHere hI r2 (fun j hj s3 f3 r3 => ?_) (fun v j hj s3 f3 e26 r3 => ?_)
        · rw [eo, hj] at ee
          (try simp (disch := omega) only [String.reduceEq, isRu_1, isRu_61, isGr_3, isSt_0, isSt_6, lg_selfT, isB_0, isB_1, eq_self, true_or, or_true, false_or, or_false, or_self, fa_lit, nI_add, pk_mul, pk_sub, nI_addm, nI_leI, nI_ltI, nI_eqI, vp_inI, ix_nI, forall_eq, true_implies, false_implies, not_true_eq_false, not_false_eq_true, and_true, true_and, false_and, and_false, nle_T, nle_F, nlt_T, nlt_F, neq_T, neq_F, up_rd_s, up_rd_n, up_nc, cpy_nc, cpy_in, cpy_out, cpyOk_T, m1_lt, m1_le, m1_nle, m1_nlt, m1_eq, m1_eq2, m1_0le, Nat.add_zero, Nat.zero_add, Nat.mul_one, Nat.sub_zero, if_true, if_false, Nat.add_sub_cancel, Nat.add_sub_cancel_left, in_in, in_inN, iw_in, rq_in, pw_fold, nt_fold, ask_pw, has_eq, or_0, bt1, Bool.true_eq_false, Bool.false_eq_true])
          exact hN _ ee s3 (FRK_of (FRM_t (FRM_t f1 f2) f3)) r3
        · (try simp (disch := omega) only [String.reduceEq, isRu_1, isRu_61, isGr_3, isSt_0, isSt_6, lg_selfT, isB_0, isB_1, eq_self, true_or, or_true, false_or, or_false, or_self, fa_lit, nI_add, pk_mul, pk_sub, nI_addm, nI_leI, nI_ltI, nI_eqI, vp_inI, ix_nI, forall_eq, true_implies, false_implies, not_true_eq_false, not_false_eq_true, and_true, true_and, false_and, and_false, nle_T, nle_F, nlt_T, nlt_F, neq_T, neq_F, up_rd_s, up_rd_n, up_nc, cpy_nc, cpy_in, cpy_out, cpyOk_T, m1_lt, m1_le, m1_nle, m1_nlt, m1_eq, m1_eq2, m1_0le, Nat.add_zero, Nat.zero_add, Nat.mul_one, Nat.sub_zero, if_true, if_false, Nat.add_sub_cancel, Nat.add_sub_cancel_left, in_in, in_inN, iw_in, rq_in, pw_fold, nt_fold, ask_pw, has_eq, or_0, bt1, Bool.true_eq_false, Bool.false_eq_true])
          exact fin1 v j (by rw [eo]; exact hj) s3 f3 e26 r3
      · have eo : aOp inp kd (i + 2) = aNum inp (i + 2) := if_neg e4
        (try simp (disch := omega) only [String.reduceEq, isRu_1, isRu_61, isGr_3, isSt_0, isSt_6, lg_selfT, isB_0, isB_1, eq_self, true_or, or_true, false_or, or_false, or_self, fa_lit, nI_add, pk_mul, pk_sub, nI_addm, nI_leI, nI_ltI, nI_eqI, vp_inI, ix_nI, forall_eq, true_implies, false_implies, not_true_eq_false, not_false_eq_true, and_true, true_and, false_and, and_false, nle_T, nle_F, nlt_T, nlt_F, neq_T, neq_F, up_rd_s, up_rd_n, up_nc, cpy_nc, cpy_in, cpy_out, cpyOk_T, m1_lt, m1_le, m1_nle, m1_nlt, m1_eq, m1_eq2, m1_0le, Nat.add_zero, Nat.zero_add, Nat.mul_one, Nat.sub_zero, if_true, if_false, Nat.add_sub_cancel, Nat.add_sub_cancel_left, in_in, in_inN, iw_in, rq_in, pw_fold, nt_fold, ask_pw, has_eq, or_0, bt1, Bool.true_eq_false, Bool.false_eq_true])
        refine X12_number hI r2 (fun j hj s3 f3 r3 => ?_) (fun v j hj s3 f3 e26 r3 => ?_)
        · rw [eo, hj] at ee
          (try simp (disch := omega) only [String.reduceEq, isRu_1, isRu_61, isGr_3, isSt_0, isSt_6, lg_selfT, isB_0, isB_1, eq_self, true_or, or_true, false_or, or_false, or_self, fa_lit, nI_add, pk_mul, pk_sub, nI_addm, nI_leI, nI_ltI, nI_eqI, vp_inI, ix_nI, forall_eq, true_implies, false_implies, not_true_eq_false, not_false_eq_true, and_true, true_and, false_and, and_false, nle_T, nle_F, nlt_T, nlt_F, neq_T, neq_F, up_rd_s, up_rd_n, up_nc, cpy_nc, cpy_in, cpy_out, cpyOk_T, m1_lt, m1_le, m1_nle, m1_nlt, m1_eq, m1_eq2, m1_0le, Nat.add_zero, Nat.zero_add, Nat.mul_one, Nat.sub_zero, if_true, if_false, Nat.add_sub_cancel, Nat.add_sub_cancel_left, in_in, in_inN, iw_in, rq_in, pw_fold, nt_fold, ask_pw, has_eq, or_0, bt1, Bool.true_eq_false, Bool.false_eq_true])
          exact hN _ ee s3 (FRK_of (FRM_t (FRM_t f1 f2) f3)) r3
        · (try simp (disch := omega) only [String.reduceEq, isRu_1, isRu_61, isGr_3, isSt_0, isSt_6, lg_selfT, isB_0, isB_1, eq_self, true_or, or_true, false_or, or_false, or_self, fa_lit, nI_add, pk_mul, pk_sub, nI_addm, nI_leI, nI_ltI, nI_eqI, vp_inI, ix_nI, forall_eq, true_implies, false_implies, not_true_eq_false, not_false_eq_true, and_true, true_and, false_and, and_false, nle_T, nle_F, nlt_T, nlt_F, neq_T, neq_F, up_rd_s, up_rd_n, up_nc, cpy_nc, cpy_in, cpy_out, cpyOk_T, m1_lt, m1_le, m1_nle, m1_nlt, m1_eq, m1_eq2, m1_0le, Nat.add_zero, Nat.zero_add, Nat.mul_one, Nat.sub_zero, if_true, if_false, Nat.add_sub_cancel, Nat.add_sub_cancel_left, in_in, in_inN, iw_in, rq_in, pw_fold, nt_fold, ask_pw, has_eq, or_0, bt1, Bool.true_eq_false, Bool.false_eq_true])
          exact fin1 v j (by rw [eo]; exact hj) s3 f3 e26 r3
  · have ee : aCond inp i = (none, i) := by
      unfold aCond
      cases h0 : inp[i]? with
      | none => rfl
      | some c =>
        dsimp only
        rw [if_neg (hno c h0)]
    (try simp (disch := omega) only [String.reduceEq, isRu_1, isRu_61, isGr_3, isSt_0, isSt_6, lg_selfT, isB_0, isB_1, eq_self, true_or, or_true, false_or, or_false, or_self, fa_lit, nI_add, pk_mul, pk_sub, nI_addm, nI_leI, nI_ltI, nI_eqI, vp_inI, ix_nI, forall_eq, true_implies, false_implies, not_true_eq_false, not_false_eq_true, and_true, true_and, false_and, and_false, nle_T, nle_F, nlt_T, nlt_F, neq_T, neq_F, up_rd_s, up_rd_n, up_nc, cpy_nc, cpy_in, cpy_out, cpyOk_T, m1_lt, m1_le, m1_nle, m1_nlt, m1_eq, m1_eq2, m1_0le, Nat.add_zero, Nat.zero_add, Nat.mul_one, Nat.sub_zero, if_true, if_false, Nat.add_sub_cancel, Nat.add_sub_cancel_left, in_in, in_inN, iw_in, rq_in, pw_fold, nt_fold, ask_pw, has_eq, or_0, bt1, Bool.true_eq_false, Bool.false_eq_true])
    exact hN _ ee σ (FRK_of (FRM_r σ)) hR
