/-! MATH. The rule that comes before the others; the decision of a policy. -/
def bst (l : List mRule) (own : Nat → Bool) : Option Nat := ft (fun r => own r && decide (fb_ct (fun q => own q && bef l q r) l.length = 0)) l.length
theorem bst_some {l : List mRule} {own : Nat → Bool} {r : Nat} : bst l own = some r ↔ r < l.length ∧ own r = true ∧ ∀ q, q < l.length → own q = true → bef l q r = false := by
  have cond : ∀ r, (own r && decide (fb_ct (fun q => own q && bef l q r) l.length = 0)) = true ↔ own r = true ∧ ∀ q, q < l.length → own q = true → bef l q r = false := by
    intro r
    rw [Bool.and_eq_true, decide_eq_true_iff, fb_ct_zero]
    refine and_congr Iff.rfl (forall_congr' fun q => forall_congr' fun _ => ?_)
    cases own q <;> cases bef l q r <;> simp
  unfold bst
  rw [ft_some_iff, cond]
  constructor
  · rintro ⟨h1, h2, h3⟩
    exact ⟨h1, h2⟩
  · rintro ⟨h1, h2, h3⟩
    refine ⟨h1, ⟨h2, h3⟩, fun k hk => ?_⟩
    cases hc : (own k && decide (fb_ct (fun q => own q && bef l q k) l.length = 0)) with
    | false => rfl
    | true =>
      obtain ⟨c1, c2⟩ := (cond k).mp hc
      rcases bef_tot (l := l) (show k ≠ r by omega) with q | q
      · rw [h3 k (by omega) c1] at q; cases q
      · rw [c2 r h1 h2] at q; cases q
theorem bst_ex {l : List mRule} {own : Nat → Bool} : ∀ (m r : Nat), r < l.length → own r = true → rk l r ≤ m → ∃ b, bst l own = some b
  | 0, r, hr, ho, hm => ⟨r, bst_some.mpr ⟨hr, ho, fun q hq _ => by
      cases h : bef l q r with
      | false => rfl
      | true => have := rk_lt hq h; omega⟩⟩
  | m + 1, r, hr, ho, hm => by
    by_cases h : ∃ q, q < l.length ∧ own q = true ∧ bef l q r = true
    · obtain ⟨q, h1, h2, h3⟩ := h
      have := rk_lt h1 h3
      exact bst_ex m q h1 h2 (by omega)
    · refine ⟨r, bst_some.mpr ⟨hr, ho, fun q hq hoq => ?_⟩⟩
      cases hb : bef l q r with
      | false => rfl
      | true => exact absurd ⟨q, hq, hoq, hb⟩ h
theorem bst_none {l : List mRule} {own : Nat → Bool} : bst l own = none ↔ ∀ r, r < l.length → own r = false := by
  constructor
  · intro h r hr
    cases ho : own r with
    | false => rfl
    | true =>
      obtain ⟨b, hb⟩ := bst_ex _ r hr ho (Nat.le_refl _)
      rw [h] at hb
      cases hb
  · intro h
    cases hb : bst l own with
    | none => rfl
    | some b =>
      obtain ⟨h1, h2, -⟩ := bst_some.mp hb
      rw [h b h1] at h2
      cases h2
/-- with an effect -/
def oe (l : List mRule) (own : Nat → Bool) (e r : Nat) : Bool := own r && decide ((rOf l r).2.1 = e)
/-- what a policy decides whose rules 'own' apply -/
def pdec (l : List mRule) (way : Nat) (own : Nat → Bool) : Nat := match bst l own with
  | none => 2
  | some b =>
    if way = 0 then (if (bst l (oe l own 1)).isSome then 1 else 0)
    else if way = 1 then (if (bst l (oe l own 0)).isSome then 0 else 1)
    else if way = 2 then (if (rOf l b).2.1 = 1 then 1 else 0)
    else if 1 < fb_ct own l.length then 3
    else if (bst l (oe l own 1)).isSome then 1 else 0
theorem pdec_0 {l : List mRule} {way : Nat} {own : Nat → Bool} (h : bst l own = none) : pdec l way own = 2 := by
  unfold pdec
  rw [h]
theorem pdec_le {l : List mRule} {way : Nat} {own : Nat → Bool} : pdec l way own ≤ 3 := by
  unfold pdec
  cases bst l own with
  | none => exact (by decide : 2 ≤ 3)
  | some b =>
    dsimp only
    repeat' split
    all_goals decide
theorem ct_one {p : Nat → Bool} {b n : Nat} (hb : b < n) (h1 : p b = true) : fb_ct p n ≤ 1 ↔ ∀ q, q < n → p q = true → q = b := by
  constructor
  · intro h q hq hp
    by_cases e : q = b
    · exact e
    · exfalso
      have h2 : fb_ct (fun k => decide (k = b)) n < fb_ct p n := ct_lt (p := fun k => decide (k = b)) (q := p) (i := q) (fun k hk => by rw [of_decide_eq_true hk]; exact h1) (decide_eq_false e) hp hq
      have h3 : 0 < fb_ct (fun k => decide (k = b)) n := fb_ct_pos.mpr ⟨b, hb, decide_eq_true rfl⟩
      omega
  · intro h
    rw [ct_sm, sm_one (k := b) hb]
    · split <;> decide
    · intro j hj hne
      rw [if_neg]
      intro hp
      exact hne (h j hj hp)
theorem b_neg (x : Int32) {i : Nat} (hi : i < 32) : bt (-x) i = (bt x i ^^ decide (∃ j, j < i ∧ bt x j = true)) := by
  unfold bt
  rw [Int32.toBitVec_neg, BitVec.getLsbD_neg]
  simp [hi]
theorem b_m1x (x : Int32) {i : Nat} (hi : i < 32) : bt (x - nI 1) i = !(bt x i ^^ decide (∃ j, j < i ∧ bt x j = true)) := by
  rw [← b_neg x hi]
  have e : nt (-x) = x - nI 1 := by
    apply Int32.toBitVec_inj.mp
    show (-x).toBitVec ^^^ (-1 : Int32).toBitVec = (x - nI 1).toBitVec
    rw [Int32.toBitVec_neg, Int32.toBitVec_sub]
    have e1 : (-1 : Int32).toBitVec = BitVec.allOnes 32 := by decide
    have e2 : (nI 1).toBitVec = 1#32 := rfl
    rw [e1, e2, BitVec.xor_allOnes, BitVec.not_neg]
  rw [← e, b_nt _ hi]
/-- the lowest bit of a set -/
theorem low_1 {x : Int32} {k : Nat} (hk : k < 32) (h1 : bt x k = true) (h0 : ∀ i, i < k → bt x i = false) : x &&& -x = pw k := by
  apply b_ext
  intro i hi
  rw [b_and, b_neg x hi, b_pw hk]
  rcases Nat.lt_trichotomy i k with h | h | h
  · rw [h0 i h, Bool.false_and, decide_eq_false (show ¬ i = k by omega)]
  · subst h
    have : ¬ ∃ j, j < i ∧ bt x j = true := fun ⟨j, hj, hb⟩ => by rw [h0 j hj] at hb; cases hb
    rw [h1, decide_eq_false this, decide_eq_true rfl]
    rfl
  · have : ∃ j, j < i ∧ bt x j = true := ⟨k, h, h1⟩
    rw [decide_eq_true this, decide_eq_false (show ¬ i = k by omega)]
    cases bt x i <;> rfl
theorem low_2 {x : Int32} {k : Nat} (hk : k < 32) (h1 : bt x k = true) (h0 : ∀ i, i < k → bt x i = false) : x &&& (x - nI 1) = nI 0 ↔ ∀ i, i < 32 → i ≠ k → bt x i = false := by
  have key : ∀ i, i < 32 → bt (x &&& (x - nI 1)) i = (bt x i && !decide (i = k)) := by
    intro i hi
    rw [b_and, b_m1x x hi]
    rcases Nat.lt_trichotomy i k with h | h | h
    · rw [h0 i h, Bool.false_and, Bool.false_and]
    · subst h
      have : ¬ ∃ j, j < i ∧ bt x j = true := fun ⟨j, hj, hb⟩ => by rw [h0 j hj] at hb; cases hb
      rw [h1, decide_eq_false this, decide_eq_true rfl]
      rfl
    · have : ∃ j, j < i ∧ bt x j = true := ⟨k, h, h1⟩
      rw [decide_eq_true this, decide_eq_false (show ¬ i = k by omega)]
      cases bt x i <;> rfl
  constructor
  · intro h i hi hne
    have := key i hi
    rw [h, b_z, decide_eq_false hne] at this
    cases q : bt x i with
    | false => rfl
    | true => rw [q] at this; cases this
  · intro h
    refine b_eq0.mpr fun i hi => ?_
    rw [key i hi]
    by_cases e : i = k
    · rw [decide_eq_true e]; simp
    · rw [h i hi e, Bool.false_and]
/-- the lowest rank of a set is that of the rule before the others -/
theorem bst_low {l : List mRule} {O : Int32} {own : Nat → Bool} {b : Nat} (hS : SUR l) (hl : l.length ≤ 24) (hO : RS l O own) (hb : bst l own = some b) : rk l b < 32 ∧ bt O (rk l b) = true ∧ ∀ i, i < rk l b → bt O i = false := by
  obtain ⟨h1, h2, h3⟩ := bst_some.mp hb
  have hr := rk_n h1
  refine ⟨by omega, by rw [hO.1 b h1]; exact h2, fun i hi => ?_⟩
  obtain ⟨r, r1, r2⟩ := hS i (by omega)
  subst r2
  rw [hO.1 r r1]
  cases ho : own r with
  | false => rfl
  | true =>
    have := h3 r r1 ho
    rw [bef_rk r1 h1, decide_eq_true hi] at this
    cases this
theorem X5_policyDecisionOf {l : List mRule} {X : Int32} {own : Nat → Bool} {p way : Nat} {σ : Sto} {P : Int32 → Sto → Prop} (hW : RW l) (hT : TBL l σ) (hp : p < 4) (hX : RS l (X &&& σ 69 p) own) (hw : σ 5 p = nI way) (hw4 : way < 4) (h : P (nI (pdec l way own)) σ) : D_X5_policyDecisionOf (nI p) X σ P := by
  unfold D_X5_policyDecisionOf
  have hl := hW.1
  have hS := TBL_S hT
  have hd := TBL_d hT
  have z0 := RS_0 hS hX
  have zd : (X &&& σ 69 p) &&& σ 65 5 = nI 0 ↔ bst l (oe l own 1) = none := by
    rw [bst_none]
    exact RS_0 hS (RS_and hX hd)
  have zp : (X &&& σ 69 p) &&& nt (σ 65 5) = nI 0 ↔ bst l (oe l own 0) = none := by
    rw [bst_none]
    have := RS_0 hS (RS_nt hl hX hd)
    rw [this]
    refine forall_congr' fun r => forall_congr' fun hr => ?_
    have := (hW.2 _ (rMem hr)).2.1
    unfold oe
    by_cases e : (rOf l r).2.1 = 1
    · rw [decide_eq_true e, decide_eq_false (by omega)]
      rfl
    · rw [decide_eq_false e, decide_eq_true (by omega)]
      rfl
  cases hb : bst l own with
  | none =>
    have e0 : X &&& σ 69 p = nI 0 := z0.mpr (bst_none.mp hb)
    rw [pdec_0 hb] at h
    (try simp (disch := omega) only [String.reduceEq, isRu_1, isRu_61, isGr_3, isSt_0, isSt_6, lg_selfT, isB_0, isB_1, eq_self, true_or, or_true, false_or, or_false, or_self, fa_lit, nI_add, pk_mul, pk_sub, nI_addm, nI_leI, nI_ltI, nI_eqI, vp_inI, ix_nI, forall_eq, true_implies, false_implies, not_true_eq_false, not_false_eq_true, and_true, true_and, false_and, and_false, nle_T, nle_F, nlt_T, nlt_F, neq_T, neq_F, up_rd_s, up_rd_n, up_nc, cpy_nc, cpy_in, cpy_out, cpyOk_T, m1_lt, m1_le, m1_nle, m1_nlt, m1_eq, m1_eq2, m1_0le, Nat.add_zero, Nat.zero_add, Nat.mul_one, Nat.sub_zero, if_true, if_false, Nat.add_sub_cancel, Nat.add_sub_cancel_left, in_in, in_inN, iw_in, rq_in, pw_fold, nt_fold, ask_pw, has_eq, or_0, bt1, Bool.true_eq_false, Bool.false_eq_true, e0])
    exact h
  | some b =>
    obtain ⟨b1, b2, b3⟩ := bst_some.mp hb
    have e0 : ¬ X &&& σ 69 p = nI 0 := fun e => by
      have := z0.mp e b b1
      rw [b2] at this
      cases this
    obtain ⟨k1, k2, k3⟩ := bst_low hS hl hX hb
    have el := low_1 k1 k2 k3
    have el2 := low_2 k1 k2 k3
    have edb : bt (σ 65 5) (rk l b) = decide ((rOf l b).2.1 = 1) := hd.1 b b1
    unfold pdec at h
    rw [hb] at h
    dsimp only at h
    have : way = 0 ∨ way = 1 ∨ way = 2 ∨ way = 3 := by omega
    rcases this with rfl | rfl | rfl | rfl
    · rw [if_pos rfl] at h
      cases hq : bst l (oe l own 1) with
      | none =>
        rw [hq] at h
        have e1 := zd.mpr hq
        (try simp (disch := omega) only [String.reduceEq, isRu_1, isRu_61, isGr_3, isSt_0, isSt_6, lg_selfT, isB_0, isB_1, eq_self, true_or, or_true, false_or, or_false, or_self, fa_lit, nI_add, pk_mul, pk_sub, nI_addm, nI_leI, nI_ltI, nI_eqI, vp_inI, ix_nI, forall_eq, true_implies, false_implies, not_true_eq_false, not_false_eq_true, and_true, true_and, false_and, and_false, nle_T, nle_F, nlt_T, nlt_F, neq_T, neq_F, up_rd_s, up_rd_n, up_nc, cpy_nc, cpy_in, cpy_out, cpyOk_T, m1_lt, m1_le, m1_nle, m1_nlt, m1_eq, m1_eq2, m1_0le, Nat.add_zero, Nat.zero_add, Nat.mul_one, Nat.sub_zero, if_true, if_false, Nat.add_sub_cancel, Nat.add_sub_cancel_left, in_in, in_inN, iw_in, rq_in, pw_fold, nt_fold, ask_pw, has_eq, or_0, bt1, Bool.true_eq_false, Bool.false_eq_true, e0, hw, e1])
        exact h
      | some c =>
        rw [hq] at h
        have e1 : ¬ (X &&& σ 69 p) &&& σ 65 5 = nI 0 := fun e => by rw [zd.mp e] at hq; cases hq
        (try simp (disch := omega) only [String.reduceEq, isRu_1, isRu_61, isGr_3, isSt_0, isSt_6, lg_selfT, isB_0, isB_1, eq_self, true_or, or_true, false_or, or_false, or_self, fa_lit, nI_add, pk_mul, pk_sub, nI_addm, nI_leI, nI_ltI, nI_eqI, vp_inI, ix_nI, forall_eq, true_implies, false_implies, not_true_eq_false, not_false_eq_true, and_true, true_and, false_and, and_false, nle_T, nle_F, nlt_T, nlt_F, neq_T, neq_F, up_rd_s, up_rd_n, up_nc, cpy_nc, cpy_in, cpy_out, cpyOk_T, m1_lt, m1_le, m1_nle, m1_nlt, m1_eq, m1_eq2, m1_0le, Nat.add_zero, Nat.zero_add, Nat.mul_one, Nat.sub_zero, if_true, if_false, Nat.add_sub_cancel, Nat.add_sub_cancel_left, in_in, in_inN, iw_in, rq_in, pw_fold, nt_fold, ask_pw, has_eq, or_0, bt1, Bool.true_eq_false, Bool.false_eq_true, e0, hw, e1])
        exact h
    · rw [if_neg (by decide), if_pos rfl] at h
      cases hq : bst l (oe l own 0) with
      | none =>
        rw [hq] at h
        have e1 := zp.mpr hq
        (try simp (disch := omega) only [String.reduceEq, isRu_1, isRu_61, isGr_3, isSt_0, isSt_6, lg_selfT, isB_0, isB_1, eq_self, true_or, or_true, false_or, or_false, or_self, fa_lit, nI_add, pk_mul, pk_sub, nI_addm, nI_leI, nI_ltI, nI_eqI, vp_inI, ix_nI, forall_eq, true_implies, false_implies, not_true_eq_false, not_false_eq_true, and_true, true_and, false_and, and_false, nle_T, nle_F, nlt_T, nlt_F, neq_T, neq_F, up_rd_s, up_rd_n, up_nc, cpy_nc, cpy_in, cpy_out, cpyOk_T, m1_lt, m1_le, m1_nle, m1_nlt, m1_eq, m1_eq2, m1_0le, Nat.add_zero, Nat.zero_add, Nat.mul_one, Nat.sub_zero, if_true, if_false, Nat.add_sub_cancel, Nat.add_sub_cancel_left, in_in, in_inN, iw_in, rq_in, pw_fold, nt_fold, ask_pw, has_eq, or_0, bt1, Bool.true_eq_false, Bool.false_eq_true, e0, hw, e1])
        exact h
      | some c =>
        rw [hq] at h
        have e1 : ¬ (X &&& σ 69 p) &&& nt (σ 65 5) = nI 0 := fun e => by rw [zp.mp e] at hq; cases hq
        (try simp (disch := omega) only [String.reduceEq, isRu_1, isRu_61, isGr_3, isSt_0, isSt_6, lg_selfT, isB_0, isB_1, eq_self, true_or, or_true, false_or, or_false, or_self, fa_lit, nI_add, pk_mul, pk_sub, nI_addm, nI_leI, nI_ltI, nI_eqI, vp_inI, ix_nI, forall_eq, true_implies, false_implies, not_true_eq_false, not_false_eq_true, and_true, true_and, false_and, and_false, nle_T, nle_F, nlt_T, nlt_F, neq_T, neq_F, up_rd_s, up_rd_n, up_nc, cpy_nc, cpy_in, cpy_out, cpyOk_T, m1_lt, m1_le, m1_nle, m1_nlt, m1_eq, m1_eq2, m1_0le, Nat.add_zero, Nat.zero_add, Nat.mul_one, Nat.sub_zero, if_true, if_false, Nat.add_sub_cancel, Nat.add_sub_cancel_left, in_in, in_inN, iw_in, rq_in, pw_fold, nt_fold, ask_pw, has_eq, or_0, bt1, Bool.true_eq_false, Bool.false_eq_true, e0, hw, e1])
        exact h
    · rw [if_neg (by decide), if_neg (by decide), if_pos rfl] at h
      have e1 : ((X &&& σ 69 p) &&& -(X &&& σ 69 p)) &&& σ 65 5 = σ 65 5 &&& pw (rk l b) := by rw [el, Int32.and_comm]
      by_cases q : (rOf l b).2.1 = 1
      · rw [if_pos q] at h
        rw [decide_eq_true q] at edb
        (try simp (disch := omega) only [String.reduceEq, isRu_1, isRu_61, isGr_3, isSt_0, isSt_6, lg_selfT, isB_0, isB_1, eq_self, true_or, or_true, false_or, or_false, or_self, fa_lit, nI_add, pk_mul, pk_sub, nI_addm, nI_leI, nI_ltI, nI_eqI, vp_inI, ix_nI, forall_eq, true_implies, false_implies, not_true_eq_false, not_false_eq_true, and_true, true_and, false_and, and_false, nle_T, nle_F, nlt_T, nlt_F, neq_T, neq_F, up_rd_s, up_rd_n, up_nc, cpy_nc, cpy_in, cpy_out, cpyOk_T, m1_lt, m1_le, m1_nle, m1_nlt, m1_eq, m1_eq2, m1_0le, Nat.add_zero, Nat.zero_add, Nat.mul_one, Nat.sub_zero, if_true, if_false, Nat.add_sub_cancel, Nat.add_sub_cancel_left, in_in, in_inN, iw_in, rq_in, pw_fold, nt_fold, ask_pw, has_eq, or_0, bt1, Bool.true_eq_false, Bool.false_eq_true, e0, hw, e1, edb])
        exact h
      · rw [if_neg q] at h
        rw [decide_eq_false q] at edb
        (try simp (disch := omega) only [String.reduceEq, isRu_1, isRu_61, isGr_3, isSt_0, isSt_6, lg_selfT, isB_0, isB_1, eq_self, true_or, or_true, false_or, or_false, or_self, fa_lit, nI_add, pk_mul, pk_sub, nI_addm, nI_leI, nI_ltI, nI_eqI, vp_inI, ix_nI, forall_eq, true_implies, false_implies, not_true_eq_false, not_false_eq_true, and_true, true_and, false_and, and_false, nle_T, nle_F, nlt_T, nlt_F, neq_T, neq_F, up_rd_s, up_rd_n, up_nc, cpy_nc, cpy_in, cpy_out, cpyOk_T, m1_lt, m1_le, m1_nle, m1_nlt, m1_eq, m1_eq2, m1_0le, Nat.add_zero, Nat.zero_add, Nat.mul_one, Nat.sub_zero, if_true, if_false, Nat.add_sub_cancel, Nat.add_sub_cancel_left, in_in, in_inN, iw_in, rq_in, pw_fold, nt_fold, ask_pw, has_eq, or_0, bt1, Bool.true_eq_false, Bool.false_eq_true, e0, hw, e1, edb])
        exact h
    · rw [if_neg (by decide), if_neg (by decide), if_neg (by decide)] at h
      have c1 := ct_one (p := own) b1 b2
      by_cases q : 1 < fb_ct own l.length
      · rw [if_pos q] at h
        have e1 : ¬ (X &&& σ 69 p) &&& ((X &&& σ 69 p) - nI 1) = nI 0 := by
          intro e
          have g := el2.mp e
          have := c1.mpr (fun z hz hoz => by
            by_cases ez : z = b
            · exact ez
            · have hzk := rk_n hz
              have := g (rk l z) (by omega) (fun e => ez (rk_inj hz b1 e))
              rw [hX.1 z hz, hoz] at this
              cases this)
          omega
        (try simp (disch := omega) only [String.reduceEq, isRu_1, isRu_61, isGr_3, isSt_0, isSt_6, lg_selfT, isB_0, isB_1, eq_self, true_or, or_true, false_or, or_false, or_self, fa_lit, nI_add, pk_mul, pk_sub, nI_addm, nI_leI, nI_ltI, nI_eqI, vp_inI, ix_nI, forall_eq, true_implies, false_implies, not_true_eq_false, not_false_eq_true, and_true, true_and, false_and, and_false, nle_T, nle_F, nlt_T, nlt_F, neq_T, neq_F, up_rd_s, up_rd_n, up_nc, cpy_nc, cpy_in, cpy_out, cpyOk_T, m1_lt, m1_le, m1_nle, m1_nlt, m1_eq, m1_eq2, m1_0le, Nat.add_zero, Nat.zero_add, Nat.mul_one, Nat.sub_zero, if_true, if_false, Nat.add_sub_cancel, Nat.add_sub_cancel_left, in_in, in_inN, iw_in, rq_in, pw_fold, nt_fold, ask_pw, has_eq, or_0, bt1, Bool.true_eq_false, Bool.false_eq_true, e0, hw, e1])
        exact h
      · rw [if_neg q] at h
        have g := c1.mp (by omega)
        have e1 : (X &&& σ 69 p) &&& ((X &&& σ 69 p) - nI 1) = nI 0 := el2.mpr (fun i hi hne => by
          rcases Nat.lt_or_ge i l.length with hil | hil
          · obtain ⟨z, hz, rfl⟩ := hS i hil
            rw [hX.1 z hz]
            cases hoz : own z with
            | false => rfl
            | true => exact absurd (by rw [g z hz hoz]) hne
          · exact hX.2 i hil)
        cases hq : bst l (oe l own 1) with
        | none =>
          rw [hq] at h
          have e2 := zd.mpr hq
          (try simp (disch := omega) only [String.reduceEq, isRu_1, isRu_61, isGr_3, isSt_0, isSt_6, lg_selfT, isB_0, isB_1, eq_self, true_or, or_true, false_or, or_false, or_self, fa_lit, nI_add, pk_mul, pk_sub, nI_addm, nI_leI, nI_ltI, nI_eqI, vp_inI, ix_nI, forall_eq, true_implies, false_implies, not_true_eq_false, not_false_eq_true, and_true, true_and, false_and, and_false, nle_T, nle_F, nlt_T, nlt_F, neq_T, neq_F, up_rd_s, up_rd_n, up_nc, cpy_nc, cpy_in, cpy_out, cpyOk_T, m1_lt, m1_le, m1_nle, m1_nlt, m1_eq, m1_eq2, m1_0le, Nat.add_zero, Nat.zero_add, Nat.mul_one, Nat.sub_zero, if_true, if_false, Nat.add_sub_cancel, Nat.add_sub_cancel_left, in_in, in_inN, iw_in, rq_in, pw_fold, nt_fold, ask_pw, has_eq, or_0, bt1, Bool.true_eq_false, Bool.false_eq_true, e0, hw, e1, e2])
          exact h
        | some c =>
          rw [hq] at h
          have e2 : ¬ (X &&& σ 69 p) &&& σ 65 5 = nI 0 := fun e => by rw [zd.mp e] at hq; cases hq
          (try simp (disch := omega) only [String.reduceEq, isRu_1, isRu_61, isGr_3, isSt_0, isSt_6, lg_selfT, isB_0, isB_1, eq_self, true_or, or_true, false_or, or_false, or_self, fa_lit, nI_add, pk_mul, pk_sub, nI_addm, nI_leI, nI_ltI, nI_eqI, vp_inI, ix_nI, forall_eq, true_implies, false_implies, not_true_eq_false, not_false_eq_true, and_true, true_and, false_and, and_false, nle_T, nle_F, nlt_T, nlt_F, neq_T, neq_F, up_rd_s, up_rd_n, up_nc, cpy_nc, cpy_in, cpy_out, cpyOk_T, m1_lt, m1_le, m1_nle, m1_nlt, m1_eq, m1_eq2, m1_0le, Nat.add_zero, Nat.zero_add, Nat.mul_one, Nat.sub_zero, if_true, if_false, Nat.add_sub_cancel, Nat.add_sub_cancel_left, in_in, in_inN, iw_in, rq_in, pw_fold, nt_fold, ask_pw, has_eq, or_0, bt1, Bool.true_eq_false, Bool.false_eq_true, e0, hw, e1, e2])
          exact h
theorem X5_lowest {l : List mRule} {Y : Int32} {own : Nat → Bool} {σ : Sto} {P : Int32 → Sto → Prop} (hW : RW l) (hT : TBL l σ) (hY : RS l Y own) (h : P (optI (bst l own)) σ) : D_X5_lowest Y σ P := by
  intro K2 h2
  have hl := hW.1
  have hS := TBL_S hT
  have e6 : σ 65 6 = nI l.length := hT.1
  have key : (ft (fun k => bt Y k) l.length).map (ra l) = bst l own := by
    cases hf : ft (fun k => bt Y k) l.length with
    | none =>
      have := ft_none_iff.mp hf
      refine (bst_none.mpr fun r hr => ?_).symm
      rw [← hY.1 r hr]
      exact this _ (rk_n hr)
    | some k =>
      obtain ⟨k1, k2, k3⟩ := ft_some_iff.mp hf
      obtain ⟨r, hr, rfl⟩ := hS k k1
      refine Eq.trans ?_ (bst_some.mpr ⟨hr, ?_, fun q hq hoq => ?_⟩).symm
      · show some (ra l (rk l r)) = some r
        rw [ra_rk hr]
      · rw [← hY.1 r hr]; exact k2
      · rw [bef_rk hq hr]
        refine decide_eq_false fun hlt => ?_
        have := k3 _ hlt
        have this : bt Y (rk l q) = false := this
        rw [hY.1 q hq, hoq] at this
        cases this
  rw [← key] at h
  refine lp_first (K := fun k => K2 (nI k) σ) (fun k => bt Y k) (fun z => P (optI (z.map (ra l))) σ) l.length (fun hz => ?_) (fun k hk hp hz => ?_) (fun k hk hp hK => ?_) h
  · apply h2
    (try simp (disch := omega) only [String.reduceEq, isRu_1, isRu_61, isGr_3, isSt_0, isSt_6, lg_selfT, isB_0, isB_1, eq_self, true_or, or_true, false_or, or_false, or_self, fa_lit, nI_add, pk_mul, pk_sub, nI_addm, nI_leI, nI_ltI, nI_eqI, vp_inI, ix_nI, forall_eq, true_implies, false_implies, not_true_eq_false, not_false_eq_true, and_true, true_and, false_and, and_false, nle_T, nle_F, nlt_T, nlt_F, neq_T, neq_F, up_rd_s, up_rd_n, up_nc, cpy_nc, cpy_in, cpy_out, cpyOk_T, m1_lt, m1_le, m1_nle, m1_nlt, m1_eq, m1_eq2, m1_0le, Nat.add_zero, Nat.zero_add, Nat.mul_one, Nat.sub_zero, if_true, if_false, Nat.add_sub_cancel, Nat.add_sub_cancel_left, in_in, in_inN, iw_in, rq_in, pw_fold, nt_fold, ask_pw, has_eq, or_0, bt1, Bool.true_eq_false, Bool.false_eq_true, e6])
    exact hz
  · apply h2
    obtain ⟨r, hr, rfl⟩ := hS k hk
    have e7 : σ 67 (rk l r) = nI r := (hT.2.1 r hr).2.2.1
    have hz : P (optI (some (ra l (rk l r)))) σ := hz
    rw [ra_rk hr] at hz
    (try simp (disch := omega) only [String.reduceEq, isRu_1, isRu_61, isGr_3, isSt_0, isSt_6, lg_selfT, isB_0, isB_1, eq_self, true_or, or_true, false_or, or_false, or_self, fa_lit, nI_add, pk_mul, pk_sub, nI_addm, nI_leI, nI_ltI, nI_eqI, vp_inI, ix_nI, forall_eq, true_implies, false_implies, not_true_eq_false, not_false_eq_true, and_true, true_and, false_and, and_false, nle_T, nle_F, nlt_T, nlt_F, neq_T, neq_F, up_rd_s, up_rd_n, up_nc, cpy_nc, cpy_in, cpy_out, cpyOk_T, m1_lt, m1_le, m1_nle, m1_nlt, m1_eq, m1_eq2, m1_0le, Nat.add_zero, Nat.zero_add, Nat.mul_one, Nat.sub_zero, if_true, if_false, Nat.add_sub_cancel, Nat.add_sub_cancel_left, in_in, in_inN, iw_in, rq_in, pw_fold, nt_fold, ask_pw, has_eq, or_0, bt1, Bool.true_eq_false, Bool.false_eq_true, e6, bF hp, e7])
    exact hz
  · apply h2
    have hp : bt Y k = false := hp
    (try simp (disch := omega) only [String.reduceEq, isRu_1, isRu_61, isGr_3, isSt_0, isSt_6, lg_selfT, isB_0, isB_1, eq_self, true_or, or_true, false_or, or_false, or_self, fa_lit, nI_add, pk_mul, pk_sub, nI_addm, nI_leI, nI_ltI, nI_eqI, vp_inI, ix_nI, forall_eq, true_implies, false_implies, not_true_eq_false, not_false_eq_true, and_true, true_and, false_and, and_false, nle_T, nle_F, nlt_T, nlt_F, neq_T, neq_F, up_rd_s, up_rd_n, up_nc, cpy_nc, cpy_in, cpy_out, cpyOk_T, m1_lt, m1_le, m1_nle, m1_nlt, m1_eq, m1_eq2, m1_0le, Nat.add_zero, Nat.zero_add, Nat.mul_one, Nat.sub_zero, if_true, if_false, Nat.add_sub_cancel, Nat.add_sub_cancel_left, in_in, in_inN, iw_in, rq_in, pw_fold, nt_fold, ask_pw, has_eq, or_0, bt1, Bool.true_eq_false, Bool.false_eq_true, e6, hp])
    exact hK
