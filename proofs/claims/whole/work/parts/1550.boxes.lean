/-! MATH. What a rule allows: sets of values. -/
def rOf (l : List mRule) (k : Nat) : mRule := l.getD k (0, 0, 0, [])
def qOf (r : mRule) (c : Nat) : mCond := r.2.2.2.getD c (0, 0, 0)
theorem rOf_eq {l : List mRule} {k : Nat} {r : mRule} (h : l[k]? = some r) : rOf l k = r := by
  unfold rOf
  rw [List.getD_eq_getElem?_getD, h]
  rfl
theorem qOf_eq {r : mRule} {c : Nat} {q : mCond} (h : r.2.2.2[c]? = some q) : qOf r c = q := by
  unfold qOf
  rw [List.getD_eq_getElem?_getD, h]
  rfl
theorem rMem {l : List mRule} {k : Nat} (hk : k < l.length) : rOf l k ∈ l := by
  rw [rOf_eq (List.getElem?_eq_getElem hk)]
  exact List.getElem_mem hk
theorem qMem {r : mRule} {c : Nat} (hc : c < r.2.2.2.length) : qOf r c ∈ r.2.2.2 := by
  rw [qOf_eq (List.getElem?_eq_getElem hc)]
  exact List.getElem_mem hc
theorem rAt {f : Nat → Int32} {l : List mRule} (h : RulesAt f l) {k : Nat} (hk : k < l.length) : RuleAt f (16 * k) (rOf l k) := by
  have e := List.getElem?_eq_getElem hk
  rw [rOf_eq e]
  exact h k _ e
theorem qAt {f : Nat → Int32} {b : Nat} {r : mRule} (h : RuleAt f b r) {c : Nat} (hc : c < r.2.2.2.length) : f (b + 4 + 3 * c) = nI (qOf r c).1 ∧ f (b + 4 + 3 * c + 1) = nI (qOf r c).2.1 ∧ f (b + 4 + 3 * c + 2) = nI (qOf r c).2.2 := by
  have e := List.getElem?_eq_getElem hc
  rw [qOf_eq e]
  exact h.2.2.2.2 c _ e
/-- the rules of the engine, of the model -/
def RLE (l : List mRule) (σ : Sto) : Prop := RulesAt (σ 2) l ∧ σ 1 1 = nI l.length
def RLM (l : List mRule) (σ : Sto) : Prop := RulesAt (fun k => σ 88 (10 + k)) l ∧ σ 88 0 = nI l.length
def RW (l : List mRule) : Prop := l.length ≤ 24 ∧ ∀ r, r ∈ l → WFRule r
theorem RLE_of {a : mA} {σ : Sto} (hE : RE a σ) : RLE (aCore a).1 σ := ⟨hE.1.2.1, hE.1.1⟩
theorem RLM_of {a : mA} {σ : Sto} (hM : RM a σ) : RLM (aCore a).1 σ := by
  refine ⟨fun k r hk => ?_, hM.1.1⟩
  obtain ⟨b0, b1, b2, b3, b4⟩ := hM.1.2.1 k r hk
  refine ⟨(fcg (f := σ 88) (by omega)).trans b0, (fcg (f := σ 88) (by omega)).trans b1, (fcg (f := σ 88) (by omega)).trans b2, (fcg (f := σ 88) (by omega)).trans b3, fun c q hc => ?_⟩
  obtain ⟨d0, d1, d2⟩ := b4 c q hc
  exact ⟨(fcg (f := σ 88) (by omega)).trans d0, (fcg (f := σ 88) (by omega)).trans d1, (fcg (f := σ 88) (by omega)).trans d2⟩
theorem RW_of {a : mA} (hw : WFA a) : RW (aCore a).1 := ⟨hw.1.1, hw.1.2.1⟩
theorem RLE_cg {l : List mRule} {σ σ' : Sto} (h1 : σ' 1 = σ 1) (h2 : σ' 2 = σ 2) (h : RLE l σ) : RLE l σ' := ⟨by rw [h2]; exact h.1, by rw [h1]; exact h.2⟩
theorem RLM_cg {l : List mRule} {σ σ' : Sto} (h1 : σ' 88 = σ 88) (h : RLM l σ) : RLM l σ' := ⟨by rw [h1]; exact h.1, by rw [h1]; exact h.2⟩
/-- the four cells of a rule's head -/
theorem rlE {l : List mRule} {σ : Sto} (h : RLE l σ) {k : Nat} (hk : k < l.length) : σ 2 (k * 16) = nI (rOf l k).1 ∧ σ 2 (k * 16 + 1) = nI (rOf l k).2.1 ∧ σ 2 (k * 16 + 2) = nI (rOf l k).2.2.1 ∧ σ 2 (k * 16 + 3) = nI (rOf l k).2.2.2.length := by
  obtain ⟨b0, b1, b2, b3, -⟩ := rAt h.1 hk
  rw [Nat.mul_comm] at b0 b1 b2 b3
  exact ⟨b0, b1, b2, b3⟩
theorem rlM {l : List mRule} {σ : Sto} (h : RLM l σ) {k : Nat} (hk : k < l.length) : σ 88 (10 + 16 * k) = nI (rOf l k).1 ∧ σ 88 (10 + 16 * k + 1) = nI (rOf l k).2.1 ∧ σ 88 (10 + 16 * k + 2) = nI (rOf l k).2.2.1 ∧ σ 88 (10 + 16 * k + 3) = nI (rOf l k).2.2.2.length := by
  obtain ⟨b0, b1, b2, b3, -⟩ := rAt h.1 hk
  exact ⟨b0, b1, b2, b3⟩
theorem rcE {l : List mRule} {σ : Sto} (h : RLE l σ) {k c : Nat} (hk : k < l.length) (hc : c < (rOf l k).2.2.2.length) : σ 2 (k * 16 + 4 + c * 3) = nI (qOf (rOf l k) c).1 ∧ σ 2 (k * 16 + 4 + c * 3 + 1) = nI (qOf (rOf l k) c).2.1 ∧ σ 2 (k * 16 + 4 + c * 3 + 2) = nI (qOf (rOf l k) c).2.2 := by
  have := qAt (rAt h.1 hk) hc
  rw [Nat.mul_comm 16 k, Nat.mul_comm 3 c] at this
  exact this
theorem rcM {l : List mRule} {σ : Sto} (h : RLM l σ) {k c : Nat} (hk : k < l.length) (hc : c < (rOf l k).2.2.2.length) : σ 88 (10 + 16 * k + 4 + 3 * c) = nI (qOf (rOf l k) c).1 ∧ σ 88 (10 + 16 * k + 4 + 3 * c + 1) = nI (qOf (rOf l k) c).2.1 ∧ σ 88 (10 + 16 * k + 4 + 3 * c + 2) = nI (qOf (rOf l k) c).2.2 := by
  obtain ⟨b0, b1, b2⟩ := qAt (rAt h.1 hk) hc
  exact ⟨(fcg (f := σ 88) (by omega)).trans b0, (fcg (f := σ 88) (by omega)).trans b1, (fcg (f := σ 88) (by omega)).trans b2⟩
/-- the values for which a condition holds -/
def cset (k o : Nat) : Int32 := if k = 0 then pw o else if k = 1 then nI 65535 &&& nt (pw o) else if k = 2 then pw o - nI 1 else if k = 3 then nI 65535 &&& nt (pw o - nI 1) else nI o
def qset (q : mCond) : Int32 := cset q.2.1 q.2.2
theorem X6_valuesOf {l : List mRule} {k c : Nat} {σ : Sto} {P : Int32 → Sto → Prop} (hR : RLE l σ) (hW : RW l) (hk : k < l.length) (hc : c < (rOf l k).2.2.2.length) (h : P (qset (qOf (rOf l k) c)) σ) : D_X6_valuesOf 1 (nI k) (nI c) σ P := by
  obtain ⟨e0, e1, e2⟩ := rcE hR hk hc
  have hw := hW.2 _ (rMem hk)
  have hn := hW.1
  obtain ⟨w0, w1, w2, w3⟩ := hw.2.2.2.2 _ (qMem hc)
  have hc4 := hw.2.2.2.1
  unfold D_X6_valuesOf D_X6_conditionCell D_X6_conditionStart
  unfold qset cset at h
  generalize (qOf (rOf l k) c).2.1 = kd at *
  generalize (qOf (rOf l k) c).2.2 = op at *
  have : kd = 0 ∨ kd = 1 ∨ kd = 2 ∨ kd = 3 ∨ kd = 4 := by omega
  rcases this with rfl | rfl | rfl | rfl | rfl
  · (try simp (disch := omega) only [String.reduceEq, isRu_1, isRu_61, isGr_3, isSt_0, isSt_6, lg_selfT, isB_0, isB_1, eq_self, true_or, or_true, false_or, or_false, or_self, fa_lit, nI_add, pk_mul, pk_sub, nI_addm, nI_leI, nI_ltI, nI_eqI, vp_inI, ix_nI, forall_eq, true_implies, false_implies, not_true_eq_false, not_false_eq_true, and_true, true_and, false_and, and_false, nle_T, nle_F, nlt_T, nlt_F, neq_T, neq_F, up_rd_s, up_rd_n, up_nc, cpy_nc, cpy_in, cpy_out, cpyOk_T, m1_lt, m1_le, m1_nle, m1_nlt, m1_eq, m1_eq2, m1_0le, Nat.add_zero, Nat.zero_add, Nat.mul_one, Nat.sub_zero, if_true, if_false, Nat.add_sub_cancel, Nat.add_sub_cancel_left, in_in, in_inN, iw_in, rq_in, pw_fold, nt_fold, ask_pw, has_eq, or_0, bt1, Bool.true_eq_false, Bool.false_eq_true, e1, e2]); exact h
  · (try simp (disch := omega) only [String.reduceEq, isRu_1, isRu_61, isGr_3, isSt_0, isSt_6, lg_selfT, isB_0, isB_1, eq_self, true_or, or_true, false_or, or_false, or_self, fa_lit, nI_add, pk_mul, pk_sub, nI_addm, nI_leI, nI_ltI, nI_eqI, vp_inI, ix_nI, forall_eq, true_implies, false_implies, not_true_eq_false, not_false_eq_true, and_true, true_and, false_and, and_false, nle_T, nle_F, nlt_T, nlt_F, neq_T, neq_F, up_rd_s, up_rd_n, up_nc, cpy_nc, cpy_in, cpy_out, cpyOk_T, m1_lt, m1_le, m1_nle, m1_nlt, m1_eq, m1_eq2, m1_0le, Nat.add_zero, Nat.zero_add, Nat.mul_one, Nat.sub_zero, if_true, if_false, Nat.add_sub_cancel, Nat.add_sub_cancel_left, in_in, in_inN, iw_in, rq_in, pw_fold, nt_fold, ask_pw, has_eq, or_0, bt1, Bool.true_eq_false, Bool.false_eq_true, e1, e2]); exact h
  · (try simp (disch := omega) only [String.reduceEq, isRu_1, isRu_61, isGr_3, isSt_0, isSt_6, lg_selfT, isB_0, isB_1, eq_self, true_or, or_true, false_or, or_false, or_self, fa_lit, nI_add, pk_mul, pk_sub, nI_addm, nI_leI, nI_ltI, nI_eqI, vp_inI, ix_nI, forall_eq, true_implies, false_implies, not_true_eq_false, not_false_eq_true, and_true, true_and, false_and, and_false, nle_T, nle_F, nlt_T, nlt_F, neq_T, neq_F, up_rd_s, up_rd_n, up_nc, cpy_nc, cpy_in, cpy_out, cpyOk_T, m1_lt, m1_le, m1_nle, m1_nlt, m1_eq, m1_eq2, m1_0le, Nat.add_zero, Nat.zero_add, Nat.mul_one, Nat.sub_zero, if_true, if_false, Nat.add_sub_cancel, Nat.add_sub_cancel_left, in_in, in_inN, iw_in, rq_in, pw_fold, nt_fold, ask_pw, has_eq, or_0, bt1, Bool.true_eq_false, Bool.false_eq_true, e1, e2]); exact h
  · (try simp (disch := omega) only [String.reduceEq, isRu_1, isRu_61, isGr_3, isSt_0, isSt_6, lg_selfT, isB_0, isB_1, eq_self, true_or, or_true, false_or, or_false, or_self, fa_lit, nI_add, pk_mul, pk_sub, nI_addm, nI_leI, nI_ltI, nI_eqI, vp_inI, ix_nI, forall_eq, true_implies, false_implies, not_true_eq_false, not_false_eq_true, and_true, true_and, false_and, and_false, nle_T, nle_F, nlt_T, nlt_F, neq_T, neq_F, up_rd_s, up_rd_n, up_nc, cpy_nc, cpy_in, cpy_out, cpyOk_T, m1_lt, m1_le, m1_nle, m1_nlt, m1_eq, m1_eq2, m1_0le, Nat.add_zero, Nat.zero_add, Nat.mul_one, Nat.sub_zero, if_true, if_false, Nat.add_sub_cancel, Nat.add_sub_cancel_left, in_in, in_inN, iw_in, rq_in, pw_fold, nt_fold, ask_pw, has_eq, or_0, bt1, Bool.true_eq_false, Bool.false_eq_true, e1, e2]); exact h
  · (try simp (disch := omega) only [String.reduceEq, isRu_1, isRu_61, isGr_3, isSt_0, isSt_6, lg_selfT, isB_0, isB_1, eq_self, true_or, or_true, false_or, or_false, or_self, fa_lit, nI_add, pk_mul, pk_sub, nI_addm, nI_leI, nI_ltI, nI_eqI, vp_inI, ix_nI, forall_eq, true_implies, false_implies, not_true_eq_false, not_false_eq_true, and_true, true_and, false_and, and_false, nle_T, nle_F, nlt_T, nlt_F, neq_T, neq_F, up_rd_s, up_rd_n, up_nc, cpy_nc, cpy_in, cpy_out, cpyOk_T, m1_lt, m1_le, m1_nle, m1_nlt, m1_eq, m1_eq2, m1_0le, Nat.add_zero, Nat.zero_add, Nat.mul_one, Nat.sub_zero, if_true, if_false, Nat.add_sub_cancel, Nat.add_sub_cancel_left, in_in, in_inN, iw_in, rq_in, pw_fold, nt_fold, ask_pw, has_eq, or_0, bt1, Bool.true_eq_false, Bool.false_eq_true, e1, e2]); exact h
theorem X12_conditionSet {l : List mRule} {k c : Nat} {σ : Sto} {P : Int32 → Sto → Prop} (hR : RLM l σ) (hW : RW l) (hk : k < l.length) (hc : c < (rOf l k).2.2.2.length) (h : P (qset (qOf (rOf l k) c)) σ) : D_X12_conditionSet (nI k) (nI c) σ P := by
  obtain ⟨e0, e1, e2⟩ := rcM hR hk hc
  have hw := hW.2 _ (rMem hk)
  have hn := hW.1
  obtain ⟨w0, w1, w2, w3⟩ := hw.2.2.2.2 _ (qMem hc)
  have hc4 := hw.2.2.2.1
  unfold D_X12_conditionSet D_X12_part D_X12_setOf
  unfold qset cset at h
  generalize (qOf (rOf l k) c).2.1 = kd at *
  generalize (qOf (rOf l k) c).2.2 = op at *
  have : kd = 0 ∨ kd = 1 ∨ kd = 2 ∨ kd = 3 ∨ kd = 4 := by omega
  rcases this with rfl | rfl | rfl | rfl | rfl
  · (try simp (disch := omega) only [String.reduceEq, isRu_1, isRu_61, isGr_3, isSt_0, isSt_6, lg_selfT, isB_0, isB_1, eq_self, true_or, or_true, false_or, or_false, or_self, fa_lit, nI_add, pk_mul, pk_sub, nI_addm, nI_leI, nI_ltI, nI_eqI, vp_inI, ix_nI, forall_eq, true_implies, false_implies, not_true_eq_false, not_false_eq_true, and_true, true_and, false_and, and_false, nle_T, nle_F, nlt_T, nlt_F, neq_T, neq_F, up_rd_s, up_rd_n, up_nc, cpy_nc, cpy_in, cpy_out, cpyOk_T, m1_lt, m1_le, m1_nle, m1_nlt, m1_eq, m1_eq2, m1_0le, Nat.add_zero, Nat.zero_add, Nat.mul_one, Nat.sub_zero, if_true, if_false, Nat.add_sub_cancel, Nat.add_sub_cancel_left, in_in, in_inN, iw_in, rq_in, pw_fold, nt_fold, ask_pw, has_eq, or_0, bt1, Bool.true_eq_false, Bool.false_eq_true, e1, e2]); exact h
  · (try simp (disch := omega) only [String.reduceEq, isRu_1, isRu_61, isGr_3, isSt_0, isSt_6, lg_selfT, isB_0, isB_1, eq_self, true_or, or_true, false_or, or_false, or_self, fa_lit, nI_add, pk_mul, pk_sub, nI_addm, nI_leI, nI_ltI, nI_eqI, vp_inI, ix_nI, forall_eq, true_implies, false_implies, not_true_eq_false, not_false_eq_true, and_true, true_and, false_and, and_false, nle_T, nle_F, nlt_T, nlt_F, neq_T, neq_F, up_rd_s, up_rd_n, up_nc, cpy_nc, cpy_in, cpy_out, cpyOk_T, m1_lt, m1_le, m1_nle, m1_nlt, m1_eq, m1_eq2, m1_0le, Nat.add_zero, Nat.zero_add, Nat.mul_one, Nat.sub_zero, if_true, if_false, Nat.add_sub_cancel, Nat.add_sub_cancel_left, in_in, in_inN, iw_in, rq_in, pw_fold, nt_fold, ask_pw, has_eq, or_0, bt1, Bool.true_eq_false, Bool.false_eq_true, e1, e2]); exact h
  · (try simp (disch := omega) only [String.reduceEq, isRu_1, isRu_61, isGr_3, isSt_0, isSt_6, lg_selfT, isB_0, isB_1, eq_self, true_or, or_true, false_or, or_false, or_self, fa_lit, nI_add, pk_mul, pk_sub, nI_addm, nI_leI, nI_ltI, nI_eqI, vp_inI, ix_nI, forall_eq, true_implies, false_implies, not_true_eq_false, not_false_eq_true, and_true, true_and, false_and, and_false, nle_T, nle_F, nlt_T, nlt_F, neq_T, neq_F, up_rd_s, up_rd_n, up_nc, cpy_nc, cpy_in, cpy_out, cpyOk_T, m1_lt, m1_le, m1_nle, m1_nlt, m1_eq, m1_eq2, m1_0le, Nat.add_zero, Nat.zero_add, Nat.mul_one, Nat.sub_zero, if_true, if_false, Nat.add_sub_cancel, Nat.add_sub_cancel_left, in_in, in_inN, iw_in, rq_in, pw_fold, nt_fold, ask_pw, has_eq, or_0, bt1, Bool.true_eq_false, Bool.false_eq_true, e1, e2]); exact h
  · (try simp (disch := omega) only [String.reduceEq, isRu_1, isRu_61, isGr_3, isSt_0, isSt_6, lg_selfT, isB_0, isB_1, eq_self, true_or, or_true, false_or, or_false, or_self, fa_lit, nI_add, pk_mul, pk_sub, nI_addm, nI_leI, nI_ltI, nI_eqI, vp_inI, ix_nI, forall_eq, true_implies, false_implies, not_true_eq_false, not_false_eq_true, and_true, true_and, false_and, and_false, nle_T, nle_F, nlt_T, nlt_F, neq_T, neq_F, up_rd_s, up_rd_n, up_nc, cpy_nc, cpy_in, cpy_out, cpyOk_T, m1_lt, m1_le, m1_nle, m1_nlt, m1_eq, m1_eq2, m1_0le, Nat.add_zero, Nat.zero_add, Nat.mul_one, Nat.sub_zero, if_true, if_false, Nat.add_sub_cancel, Nat.add_sub_cancel_left, in_in, in_inN, iw_in, rq_in, pw_fold, nt_fold, ask_pw, has_eq, or_0, bt1, Bool.true_eq_false, Bool.false_eq_true, e1, e2]); exact h
  · (try simp (disch := omega) only [String.reduceEq, isRu_1, isRu_61, isGr_3, isSt_0, isSt_6, lg_selfT, isB_0, isB_1, eq_self, true_or, or_true, false_or, or_false, or_self, fa_lit, nI_add, pk_mul, pk_sub, nI_addm, nI_leI, nI_ltI, nI_eqI, vp_inI, ix_nI, forall_eq, true_implies, false_implies, not_true_eq_false, not_false_eq_true, and_true, true_and, false_and, and_false, nle_T, nle_F, nlt_T, nlt_F, neq_T, neq_F, up_rd_s, up_rd_n, up_nc, cpy_nc, cpy_in, cpy_out, cpyOk_T, m1_lt, m1_le, m1_nle, m1_nlt, m1_eq, m1_eq2, m1_0le, Nat.add_zero, Nat.zero_add, Nat.mul_one, Nat.sub_zero, if_true, if_false, Nat.add_sub_cancel, Nat.add_sub_cancel_left, in_in, in_inN, iw_in, rq_in, pw_fold, nt_fold, ask_pw, has_eq, or_0, bt1, Bool.true_eq_false, Bool.false_eq_true, e1, e2]); exact h
theorem b_nI (n i : Nat) : bt (nI n) i = (decide (i < 32) && n.testBit i) := by
  show (BitVec.ofNat 32 n).getLsbD i = _
  rw [BitVec.getLsbD_ofNat]
theorem b_all (i : Nat) : bt (nI 65535) i = decide (i < 16) := b_65535 i
theorem pw_m1 : ∀ o, o < 16 → ∀ i, i < 32 → bt (pw o - nI 1) i = decide (i < o) := by decide +kernel
theorem qset_hi {q : mCond} (h : WFCond q) {i : Nat} (hi : 16 ≤ i) : bt (qset q) i = false := by
  obtain ⟨w0, w1, w2, w3⟩ := h
  unfold qset cset
  by_cases k0 : q.2.1 = 0
  · rw [if_pos k0, b_pw (by omega), decide_eq_false (by omega)]
  · rw [if_neg k0]
    by_cases k1 : q.2.1 = 1
    · rw [if_pos k1, b_and, b_all, decide_eq_false (by omega), Bool.false_and]
    · rw [if_neg k1]
      by_cases k2 : q.2.1 = 2
      · rw [if_pos k2]
        by_cases h32 : i < 32
        · rw [pw_m1 _ (by omega) i h32, decide_eq_false (by omega)]
        · exact b_big (by omega)
      · rw [if_neg k2]
        by_cases k3 : q.2.1 = 3
        · rw [if_pos k3, b_and, b_all, decide_eq_false (by omega), Bool.false_and]
        · rw [if_neg k3, b_nI]
          have : q.2.2 < 2 ^ 16 := by
            have := (w2 (by omega)).2
            omega
          rw [Nat.testBit_lt_two_pow (Nat.lt_of_lt_of_le this (Nat.pow_le_pow_right (by decide) hi)), Bool.and_false]
/-- the values of an attribute that a rule allows, by its first conditions -/
def bxn (r : mRule) (a : Nat) : Nat → Int32
  | 0 => nI 65535
  | c + 1 => if (qOf r c).1 = a then bxn r a c &&& qset (qOf r c) else bxn r a c
theorem bxn_S (r : mRule) (a c : Nat) : bxn r a (c + 1) = if (qOf r c).1 = a then bxn r a c &&& qset (qOf r c) else bxn r a c := rfl
def bx (l : List mRule) (k a : Nat) : Int32 := bxn (rOf l k) a (rOf l k).2.2.2.length
theorem bxn_hi {r : mRule} {a i : Nat} (hi : 16 ≤ i) : ∀ c, bt (bxn r a c) i = false
  | 0 => by
    show bt (nI 65535) i = false
    rw [b_all, decide_eq_false (by omega)]
  | c + 1 => by
    have ih := bxn_hi (r := r) (a := a) hi c
    unfold bxn
    split
    · rw [b_and, ih, Bool.false_and]
    · exact ih
theorem bx_hi {l : List mRule} {k a i : Nat} (hi : 16 ≤ i) : bt (bx l k a) i = false := bxn_hi hi _
theorem bx_all {l : List mRule} {k a : Nat} : bx l k a &&& nI 65535 = bx l k a := by
  apply b_ext
  intro i hi
  rw [b_and, b_all]
  by_cases h : i < 16
  · rw [decide_eq_true h, Bool.and_true]
  · rw [bx_hi (by omega), Bool.false_and]
/-- the model's sets -/
def MSE (l : List mRule) (σ : Sto) : Prop := ∀ r a, r < l.length → a < 6 → σ 93 (6 * r + a) = bx l r a
theorem X12_laySets {l : List mRule} {σ : Sto} {P : Sto → Prop} (hR : RLM l σ) (hW : RW l) (h : ∀ σ' : Sto, (∀ c, c ≠ 93 → σ' c = σ c) → MSE l σ' → P σ') : D_X12_laySets σ P := by
  intro K2 K14 K41 h2 h14 h41
  have hn := hW.1
  refine lp l.length (fun r s => K2 (nI r) s) (fun r s => (∀ c, c ≠ 93 → s c = σ c) ∧ ∀ r' a, r' < r → a < 6 → s 93 (6 * r' + a) = bx l r' a) ?_ ?_ σ ⟨fun _ _ => rfl, fun r' a hr => absurd hr (Nat.not_lt_zero _)⟩
  · intro s ⟨s1, s2⟩
    apply h2
    have e0 : s 88 0 = nI l.length := by rw [s1 88 (by omega)]; exact hR.2
    (try simp (disch := omega) only [String.reduceEq, isRu_1, isRu_61, isGr_3, isSt_0, isSt_6, lg_selfT, isB_0, isB_1, eq_self, true_or, or_true, false_or, or_false, or_self, fa_lit, nI_add, pk_mul, pk_sub, nI_addm, nI_leI, nI_ltI, nI_eqI, vp_inI, ix_nI, forall_eq, true_implies, false_implies, not_true_eq_false, not_false_eq_true, and_true, true_and, false_and, and_false, nle_T, nle_F, nlt_T, nlt_F, neq_T, neq_F, up_rd_s, up_rd_n, up_nc, cpy_nc, cpy_in, cpy_out, cpyOk_T, m1_lt, m1_le, m1_nle, m1_nlt, m1_eq, m1_eq2, m1_0le, Nat.add_zero, Nat.zero_add, Nat.mul_one, Nat.sub_zero, if_true, if_false, Nat.add_sub_cancel, Nat.add_sub_cancel_left, in_in, in_inN, iw_in, rq_in, pw_fold, nt_fold, ask_pw, has_eq, or_0, bt1, Bool.true_eq_false, Bool.false_eq_true, e0])
    exact h s s1 s2
  · intro r s hr ⟨s1, s2⟩ hnext
    apply h2
    have e0 : s 88 0 = nI l.length := by rw [s1 88 (by omega)]; exact hR.2
    (try simp (disch := omega) only [String.reduceEq, isRu_1, isRu_61, isGr_3, isSt_0, isSt_6, lg_selfT, isB_0, isB_1, eq_self, true_or, or_true, false_or, or_false, or_self, fa_lit, nI_add, pk_mul, pk_sub, nI_addm, nI_leI, nI_ltI, nI_eqI, vp_inI, ix_nI, forall_eq, true_implies, false_implies, not_true_eq_false, not_false_eq_true, and_true, true_and, false_and, and_false, nle_T, nle_F, nlt_T, nlt_F, neq_T, neq_F, up_rd_s, up_rd_n, up_nc, cpy_nc, cpy_in, cpy_out, cpyOk_T, m1_lt, m1_le, m1_nle, m1_nlt, m1_eq, m1_eq2, m1_0le, Nat.add_zero, Nat.zero_add, Nat.mul_one, Nat.sub_zero, if_true, if_false, Nat.add_sub_cancel, Nat.add_sub_cancel_left, in_in, in_inN, iw_in, rq_in, pw_fold, nt_fold, ask_pw, has_eq, or_0, bt1, Bool.true_eq_false, Bool.false_eq_true, e0])
    refine lp 6 (fun a s => K14 (nI r) (nI a) s) (fun a t => (∀ c, c ≠ 93 → t c = σ c) ∧ (∀ r' a, r' < r → a < 6 → t 93 (6 * r' + a) = bx l r' a) ∧ ∀ b, b < a → t 93 (6 * r + b) = nI 65535) ?_ ?_ s ⟨s1, s2, fun b hb => absurd hb (Nat.not_lt_zero _)⟩
    · intro t ⟨t1, t2, t3⟩
      apply h14
      (try simp (disch := omega) only [String.reduceEq, isRu_1, isRu_61, isGr_3, isSt_0, isSt_6, lg_selfT, isB_0, isB_1, eq_self, true_or, or_true, false_or, or_false, or_self, fa_lit, nI_add, pk_mul, pk_sub, nI_addm, nI_leI, nI_ltI, nI_eqI, vp_inI, ix_nI, forall_eq, true_implies, false_implies, not_true_eq_false, not_false_eq_true, and_true, true_and, false_and, and_false, nle_T, nle_F, nlt_T, nlt_F, neq_T, neq_F, up_rd_s, up_rd_n, up_nc, cpy_nc, cpy_in, cpy_out, cpyOk_T, m1_lt, m1_le, m1_nle, m1_nlt, m1_eq, m1_eq2, m1_0le, Nat.add_zero, Nat.zero_add, Nat.mul_one, Nat.sub_zero, if_true, if_false, Nat.add_sub_cancel, Nat.add_sub_cancel_left, in_in, in_inN, iw_in, rq_in, pw_fold, nt_fold, ask_pw, has_eq, or_0, bt1, Bool.true_eq_false, Bool.false_eq_true])
      have hw := hW.2 _ (rMem hr)
      have hc4 := hw.2.2.2.1
      refine lp (rOf l r).2.2.2.length (fun c s => K41 (nI r) (nI c) s) (fun c t => (∀ c, c ≠ 93 → t c = σ c) ∧ (∀ r' a, r' < r → a < 6 → t 93 (6 * r' + a) = bx l r' a) ∧ ∀ b, b < 6 → t 93 (6 * r + b) = bxn (rOf l r) b c) ?_ ?_ t ⟨t1, t2, t3⟩
      · intro u ⟨u1, u2, u3⟩
        apply h41
        have hRu : RLM l u := RLM_cg (u1 88 (by omega)) hR
        obtain ⟨b0, b1, b2, b3⟩ := rlM hRu hr
        (try simp (disch := omega) only [String.reduceEq, isRu_1, isRu_61, isGr_3, isSt_0, isSt_6, lg_selfT, isB_0, isB_1, eq_self, true_or, or_true, false_or, or_false, or_self, fa_lit, nI_add, pk_mul, pk_sub, nI_addm, nI_leI, nI_ltI, nI_eqI, vp_inI, ix_nI, forall_eq, true_implies, false_implies, not_true_eq_false, not_false_eq_true, and_true, true_and, false_and, and_false, nle_T, nle_F, nlt_T, nlt_F, neq_T, neq_F, up_rd_s, up_rd_n, up_nc, cpy_nc, cpy_in, cpy_out, cpyOk_T, m1_lt, m1_le, m1_nle, m1_nlt, m1_eq, m1_eq2, m1_0le, Nat.add_zero, Nat.zero_add, Nat.mul_one, Nat.sub_zero, if_true, if_false, Nat.add_sub_cancel, Nat.add_sub_cancel_left, in_in, in_inN, iw_in, rq_in, pw_fold, nt_fold, ask_pw, has_eq, or_0, bt1, Bool.true_eq_false, Bool.false_eq_true, D_X12_of, b3])
        refine hnext u ⟨u1, fun r' a hr' ha => ?_⟩
        by_cases e : r' = r
        · subst e
          exact u3 a ha
        · exact u2 r' a (by omega) ha
      · intro c u hc ⟨u1, u2, u3⟩ hnext2
        apply h41
        have hRu : RLM l u := RLM_cg (u1 88 (by omega)) hR
        obtain ⟨b0, b1, b2, b3⟩ := rlM hRu hr
        obtain ⟨d0, d1, d2⟩ := rcM hRu hr hc
        obtain ⟨w0, w1, w2, w3⟩ := hw.2.2.2.2 _ (qMem hc)
        (try simp (disch := omega) only [String.reduceEq, isRu_1, isRu_61, isGr_3, isSt_0, isSt_6, lg_selfT, isB_0, isB_1, eq_self, true_or, or_true, false_or, or_false, or_self, fa_lit, nI_add, pk_mul, pk_sub, nI_addm, nI_leI, nI_ltI, nI_eqI, vp_inI, ix_nI, forall_eq, true_implies, false_implies, not_true_eq_false, not_false_eq_true, and_true, true_and, false_and, and_false, nle_T, nle_F, nlt_T, nlt_F, neq_T, neq_F, up_rd_s, up_rd_n, up_nc, cpy_nc, cpy_in, cpy_out, cpyOk_T, m1_lt, m1_le, m1_nle, m1_nlt, m1_eq, m1_eq2, m1_0le, Nat.add_zero, Nat.zero_add, Nat.mul_one, Nat.sub_zero, if_true, if_false, Nat.add_sub_cancel, Nat.add_sub_cancel_left, in_in, in_inN, iw_in, rq_in, pw_fold, nt_fold, ask_pw, has_eq, or_0, bt1, Bool.true_eq_false, Bool.false_eq_true, D_X12_of, D_X12_part, b3, d0])
        refine X12_conditionSet hRu hW hr hc ?_
        (try simp (disch := omega) only [String.reduceEq, isRu_1, isRu_61, isGr_3, isSt_0, isSt_6, lg_selfT, isB_0, isB_1, eq_self, true_or, or_true, false_or, or_false, or_self, fa_lit, nI_add, pk_mul, pk_sub, nI_addm, nI_leI, nI_ltI, nI_eqI, vp_inI, ix_nI, forall_eq, true_implies, false_implies, not_true_eq_false, not_false_eq_true, and_true, true_and, false_and, and_false, nle_T, nle_F, nlt_T, nlt_F, neq_T, neq_F, up_rd_s, up_rd_n, up_nc, cpy_nc, cpy_in, cpy_out, cpyOk_T, m1_lt, m1_le, m1_nle, m1_nlt, m1_eq, m1_eq2, m1_0le, Nat.add_zero, Nat.zero_add, Nat.mul_one, Nat.sub_zero, if_true, if_false, Nat.add_sub_cancel, Nat.add_sub_cancel_left, in_in, in_inN, iw_in, rq_in, pw_fold, nt_fold, ask_pw, has_eq, or_0, bt1, Bool.true_eq_false, Bool.false_eq_true, u3 (qOf (rOf l r) c).1 w0])
        refine hnext2 _ ⟨fun c hc => ?_, fun r' a hr' ha => ?_, fun b hb => ?_⟩
        · (try simp (disch := omega) only [String.reduceEq, isRu_1, isRu_61, isGr_3, isSt_0, isSt_6, lg_selfT, isB_0, isB_1, eq_self, true_or, or_true, false_or, or_false, or_self, fa_lit, nI_add, pk_mul, pk_sub, nI_addm, nI_leI, nI_ltI, nI_eqI, vp_inI, ix_nI, forall_eq, true_implies, false_implies, not_true_eq_false, not_false_eq_true, and_true, true_and, false_and, and_false, nle_T, nle_F, nlt_T, nlt_F, neq_T, neq_F, up_rd_s, up_rd_n, up_nc, cpy_nc, cpy_in, cpy_out, cpyOk_T, m1_lt, m1_le, m1_nle, m1_nlt, m1_eq, m1_eq2, m1_0le, Nat.add_zero, Nat.zero_add, Nat.mul_one, Nat.sub_zero, if_true, if_false, Nat.add_sub_cancel, Nat.add_sub_cancel_left, in_in, in_inN, iw_in, rq_in, pw_fold, nt_fold, ask_pw, has_eq, or_0, bt1, Bool.true_eq_false, Bool.false_eq_true])
          exact u1 c hc
        · (try simp (disch := omega) only [String.reduceEq, isRu_1, isRu_61, isGr_3, isSt_0, isSt_6, lg_selfT, isB_0, isB_1, eq_self, true_or, or_true, false_or, or_false, or_self, fa_lit, nI_add, pk_mul, pk_sub, nI_addm, nI_leI, nI_ltI, nI_eqI, vp_inI, ix_nI, forall_eq, true_implies, false_implies, not_true_eq_false, not_false_eq_true, and_true, true_and, false_and, and_false, nle_T, nle_F, nlt_T, nlt_F, neq_T, neq_F, up_rd_s, up_rd_n, up_nc, cpy_nc, cpy_in, cpy_out, cpyOk_T, m1_lt, m1_le, m1_nle, m1_nlt, m1_eq, m1_eq2, m1_0le, Nat.add_zero, Nat.zero_add, Nat.mul_one, Nat.sub_zero, if_true, if_false, Nat.add_sub_cancel, Nat.add_sub_cancel_left, in_in, in_inN, iw_in, rq_in, pw_fold, nt_fold, ask_pw, has_eq, or_0, bt1, Bool.true_eq_false, Bool.false_eq_true])
          exact u2 r' a hr' ha
        · rw [bxn_S]
          by_cases e : (qOf (rOf l r) c).1 = b
          · subst e
            (try simp (disch := omega) only [String.reduceEq, isRu_1, isRu_61, isGr_3, isSt_0, isSt_6, lg_selfT, isB_0, isB_1, eq_self, true_or, or_true, false_or, or_false, or_self, fa_lit, nI_add, pk_mul, pk_sub, nI_addm, nI_leI, nI_ltI, nI_eqI, vp_inI, ix_nI, forall_eq, true_implies, false_implies, not_true_eq_false, not_false_eq_true, and_true, true_and, false_and, and_false, nle_T, nle_F, nlt_T, nlt_F, neq_T, neq_F, up_rd_s, up_rd_n, up_nc, cpy_nc, cpy_in, cpy_out, cpyOk_T, m1_lt, m1_le, m1_nle, m1_nlt, m1_eq, m1_eq2, m1_0le, Nat.add_zero, Nat.zero_add, Nat.mul_one, Nat.sub_zero, if_true, if_false, Nat.add_sub_cancel, Nat.add_sub_cancel_left, in_in, in_inN, iw_in, rq_in, pw_fold, nt_fold, ask_pw, has_eq, or_0, bt1, Bool.true_eq_false, Bool.false_eq_true])
          · rw [if_neg e]
            (try simp (disch := omega) only [String.reduceEq, isRu_1, isRu_61, isGr_3, isSt_0, isSt_6, lg_selfT, isB_0, isB_1, eq_self, true_or, or_true, false_or, or_false, or_self, fa_lit, nI_add, pk_mul, pk_sub, nI_addm, nI_leI, nI_ltI, nI_eqI, vp_inI, ix_nI, forall_eq, true_implies, false_implies, not_true_eq_false, not_false_eq_true, and_true, true_and, false_and, and_false, nle_T, nle_F, nlt_T, nlt_F, neq_T, neq_F, up_rd_s, up_rd_n, up_nc, cpy_nc, cpy_in, cpy_out, cpyOk_T, m1_lt, m1_le, m1_nle, m1_nlt, m1_eq, m1_eq2, m1_0le, Nat.add_zero, Nat.zero_add, Nat.mul_one, Nat.sub_zero, if_true, if_false, Nat.add_sub_cancel, Nat.add_sub_cancel_left, in_in, in_inN, iw_in, rq_in, pw_fold, nt_fold, ask_pw, has_eq, or_0, bt1, Bool.true_eq_false, Bool.false_eq_true])
            exact u3 b hb
    · intro b t hb ⟨t1, t2, t3⟩ hnext2
      apply h14
      (try simp (disch := omega) only [String.reduceEq, isRu_1, isRu_61, isGr_3, isSt_0, isSt_6, lg_selfT, isB_0, isB_1, eq_self, true_or, or_true, false_or, or_false, or_self, fa_lit, nI_add, pk_mul, pk_sub, nI_addm, nI_leI, nI_ltI, nI_eqI, vp_inI, ix_nI, forall_eq, true_implies, false_implies, not_true_eq_false, not_false_eq_true, and_true, true_and, false_and, and_false, nle_T, nle_F, nlt_T, nlt_F, neq_T, neq_F, up_rd_s, up_rd_n, up_nc, cpy_nc, cpy_in, cpy_out, cpyOk_T, m1_lt, m1_le, m1_nle, m1_nlt, m1_eq, m1_eq2, m1_0le, Nat.add_zero, Nat.zero_add, Nat.mul_one, Nat.sub_zero, if_true, if_false, Nat.add_sub_cancel, Nat.add_sub_cancel_left, in_in, in_inN, iw_in, rq_in, pw_fold, nt_fold, ask_pw, has_eq, or_0, bt1, Bool.true_eq_false, Bool.false_eq_true])
      refine hnext2 _ ⟨fun c hc => ?_, fun r' a hr' ha => ?_, fun b' hb' => ?_⟩
      · (try simp (disch := omega) only [String.reduceEq, isRu_1, isRu_61, isGr_3, isSt_0, isSt_6, lg_selfT, isB_0, isB_1, eq_self, true_or, or_true, false_or, or_false, or_self, fa_lit, nI_add, pk_mul, pk_sub, nI_addm, nI_leI, nI_ltI, nI_eqI, vp_inI, ix_nI, forall_eq, true_implies, false_implies, not_true_eq_false, not_false_eq_true, and_true, true_and, false_and, and_false, nle_T, nle_F, nlt_T, nlt_F, neq_T, neq_F, up_rd_s, up_rd_n, up_nc, cpy_nc, cpy_in, cpy_out, cpyOk_T, m1_lt, m1_le, m1_nle, m1_nlt, m1_eq, m1_eq2, m1_0le, Nat.add_zero, Nat.zero_add, Nat.mul_one, Nat.sub_zero, if_true, if_false, Nat.add_sub_cancel, Nat.add_sub_cancel_left, in_in, in_inN, iw_in, rq_in, pw_fold, nt_fold, ask_pw, has_eq, or_0, bt1, Bool.true_eq_false, Bool.false_eq_true])
        exact t1 c hc
      · (try simp (disch := omega) only [String.reduceEq, isRu_1, isRu_61, isGr_3, isSt_0, isSt_6, lg_selfT, isB_0, isB_1, eq_self, true_or, or_true, false_or, or_false, or_self, fa_lit, nI_add, pk_mul, pk_sub, nI_addm, nI_leI, nI_ltI, nI_eqI, vp_inI, ix_nI, forall_eq, true_implies, false_implies, not_true_eq_false, not_false_eq_true, and_true, true_and, false_and, and_false, nle_T, nle_F, nlt_T, nlt_F, neq_T, neq_F, up_rd_s, up_rd_n, up_nc, cpy_nc, cpy_in, cpy_out, cpyOk_T, m1_lt, m1_le, m1_nle, m1_nlt, m1_eq, m1_eq2, m1_0le, Nat.add_zero, Nat.zero_add, Nat.mul_one, Nat.sub_zero, if_true, if_false, Nat.add_sub_cancel, Nat.add_sub_cancel_left, in_in, in_inN, iw_in, rq_in, pw_fold, nt_fold, ask_pw, has_eq, or_0, bt1, Bool.true_eq_false, Bool.false_eq_true])
        exact t2 r' a hr' ha
      · by_cases e : b' = b
        · subst e
          (try simp (disch := omega) only [String.reduceEq, isRu_1, isRu_61, isGr_3, isSt_0, isSt_6, lg_selfT, isB_0, isB_1, eq_self, true_or, or_true, false_or, or_false, or_self, fa_lit, nI_add, pk_mul, pk_sub, nI_addm, nI_leI, nI_ltI, nI_eqI, vp_inI, ix_nI, forall_eq, true_implies, false_implies, not_true_eq_false, not_false_eq_true, and_true, true_and, false_and, and_false, nle_T, nle_F, nlt_T, nlt_F, neq_T, neq_F, up_rd_s, up_rd_n, up_nc, cpy_nc, cpy_in, cpy_out, cpyOk_T, m1_lt, m1_le, m1_nle, m1_nlt, m1_eq, m1_eq2, m1_0le, Nat.add_zero, Nat.zero_add, Nat.mul_one, Nat.sub_zero, if_true, if_false, Nat.add_sub_cancel, Nat.add_sub_cancel_left, in_in, in_inN, iw_in, rq_in, pw_fold, nt_fold, ask_pw, has_eq, or_0, bt1, Bool.true_eq_false, Bool.false_eq_true])
        · (try simp (disch := omega) only [String.reduceEq, isRu_1, isRu_61, isGr_3, isSt_0, isSt_6, lg_selfT, isB_0, isB_1, eq_self, true_or, or_true, false_or, or_false, or_self, fa_lit, nI_add, pk_mul, pk_sub, nI_addm, nI_leI, nI_ltI, nI_eqI, vp_inI, ix_nI, forall_eq, true_implies, false_implies, not_true_eq_false, not_false_eq_true, and_true, true_and, false_and, and_false, nle_T, nle_F, nlt_T, nlt_F, neq_T, neq_F, up_rd_s, up_rd_n, up_nc, cpy_nc, cpy_in, cpy_out, cpyOk_T, m1_lt, m1_le, m1_nle, m1_nlt, m1_eq, m1_eq2, m1_0le, Nat.add_zero, Nat.zero_add, Nat.mul_one, Nat.sub_zero, if_true, if_false, Nat.add_sub_cancel, Nat.add_sub_cancel_left, in_in, in_inN, iw_in, rq_in, pw_fold, nt_fold, ask_pw, has_eq, or_0, bt1, Bool.true_eq_false, Bool.false_eq_true])
          exact t3 b' (by omega)
