/-! MATH. The engine's search. -/
def dIn (D : Nat → Int32) (g : Nat → Nat) : Prop := ∀ a, a < 6 → bt (D a) (g a) = true
def miss (l : List mRule) (p : Nat → Bool) (g : Nat → Nat) : Prop := ∀ q, q < l.length → p q = true → ∃ a, a < 6 ∧ bt (bx l q a) (g a) = false
/-- a request with values of the domains to which none of some rules applies -/
def FreeP (l : List mRule) (D : Nat → Int32) (p : Nat → Bool) : Prop := ∃ g, dIn D g ∧ miss l p g
def WFD (D : Nat → Int32) : Prop := ∀ a, a < 6 → ¬ D a = nI 0
def avd (l : List mRule) (D : Nat → Int32) (q : Nat) : Bool := (ft (fun a => decide (D a &&& bx l q a = nI 0)) 6).isSome
def esc (l : List mRule) (D : Nat → Int32) (q a : Nat) : Bool := decide (¬ (D a &&& nt (bx l q a) = nI 0))
def DOM (D : Nat → Int32) (lv : Nat) (σ : Sto) : Prop := ∀ a, a < 6 → σ 71 (lv * 6 + a) = D a
theorem avd_iff {l : List mRule} {D : Nat → Int32} {q : Nat} : avd l D q = true ↔ ∃ a, a < 6 ∧ D a &&& bx l q a = nI 0 := by
  unfold avd
  constructor
  · intro h
    cases hf : ft (fun a => decide (D a &&& bx l q a = nI 0)) 6 with
    | none => rw [hf] at h; cases h
    | some a =>
      obtain ⟨h1, h2, -⟩ := ft_some_iff.mp hf
      exact ⟨a, h1, of_decide_eq_true h2⟩
  · rintro ⟨a, h1, h2⟩
    cases hf : ft (fun a => decide (D a &&& bx l q a = nI 0)) 6 with
    | none =>
      have := ft_none_iff.mp hf a h1
      exact absurd h2 (of_decide_eq_false this)
    | some a => rfl
theorem nz_bit {x : Int32} (h : ¬ x = nI 0) : ∃ i, i < 32 ∧ bt x i = true := by
  refine Classical.byContradiction fun hx => h (b_eq0.mpr fun i hi => ?_)
  cases q : bt x i with
  | false => rfl
  | true => exact absurd ⟨i, hi, q⟩ hx
theorem and_0 {x y : Int32} (h : x &&& y = nI 0) {i : Nat} (hx : bt x i = true) : bt y i = false := by
  have : bt (x &&& y) i = false := by rw [h]; exact b_z i
  rw [b_and, hx, Bool.true_and] at this
  exact this
theorem and_nt0 {x y : Int32} (h : x &&& nt y = nI 0) {i : Nat} (hi : i < 32) (hx : bt x i = true) : bt y i = true := by
  have := and_0 h hx
  rw [b_nt _ hi] at this
  cases q : bt y i with
  | true => rfl
  | false => rw [q] at this; cases this
theorem and_nt_s {x y : Int32} (h : x &&& nt y = nI 0) : x &&& y = x := by
  apply b_ext
  intro i hi
  rw [b_and]
  cases q : bt x i with
  | false => rfl
  | true => rw [and_nt0 h hi q]; rfl
theorem bt_lt {x : Int32} {i : Nat} (h : bt x i = true) : i < 32 := by
  rcases Nat.lt_or_ge i 32 with q | q
  · exact q
  · rw [b_big q] at h; cases h
theorem free_left {l : List mRule} {D : Nat → Int32} {p : Nat → Bool} : FreeP l D p ↔ FreeP l D (fun q => p q && !avd l D q) := by
  constructor
  · rintro ⟨g, h1, h2⟩
    refine ⟨g, h1, fun q hq hp => h2 q hq ?_⟩
    rw [Bool.and_eq_true] at hp
    exact hp.1
  · rintro ⟨g, h1, h2⟩
    refine ⟨g, h1, fun q hq hp => ?_⟩
    cases ha : avd l D q with
    | false => exact h2 q hq (by show (p q && !avd l D q) = true; rw [hp, ha]; rfl)
    | true =>
      obtain ⟨a, a1, a2⟩ := avd_iff.mp ha
      exact ⟨a, a1, and_0 a2 (h1 a a1)⟩
theorem free_none {l : List mRule} {D : Nat → Int32} {p : Nat → Bool} (hD : WFD D) (h : ∀ q, q < l.length → p q = false) : FreeP l D p := by
  have hx : ∀ a, ∃ i, a < 6 → bt (D a) i = true := by
    intro a
    by_cases ha : a < 6
    · obtain ⟨i, hi, hb⟩ := nz_bit (hD a ha)
      exact ⟨i, fun _ => hb⟩
    · exact ⟨0, fun z => absurd z ha⟩
  refine ⟨fun a => (hx a).choose, fun a ha => (hx a).choose_spec ha, fun q hq hp => ?_⟩
  rw [h q hq] at hp
  cases hp
theorem X7_isAvoided {l : List mRule} {D : Nat → Int32} {lv q : Nat} {σ : Sto} {P : Int32 → Sto → Prop} (hl : l.length ≤ 24) (hT : TBL l σ) (hlv : lv ≤ 24) (hD : DOM D lv σ) (hq : q < l.length) (h : P (if avd l D q then nI 1 else nI 0) σ) : D_X7_isAvoided (nI lv) (nI (rk l q)) σ P := by
  intro K8 h8
  have hqk := rk_n hq
  (try simp (disch := omega) only [String.reduceEq, isRu_1, isRu_61, isGr_3, isSt_0, isSt_6, lg_selfT, isB_0, isB_1, eq_self, true_or, or_true, false_or, or_false, or_self, fa_lit, nI_add, pk_mul, pk_sub, nI_addm, nI_leI, nI_ltI, nI_eqI, vp_inI, ix_nI, forall_eq, true_implies, false_implies, not_true_eq_false, not_false_eq_true, and_true, true_and, false_and, and_false, nle_T, nle_F, nlt_T, nlt_F, neq_T, neq_F, up_rd_s, up_rd_n, up_nc, cpy_nc, cpy_in, cpy_out, cpyOk_T, m1_lt, m1_le, m1_nle, m1_nlt, m1_eq, m1_eq2, m1_0le, Nat.add_zero, Nat.zero_add, Nat.mul_one, Nat.sub_zero, if_true, if_false, Nat.add_sub_cancel, Nat.add_sub_cancel_left, in_in, in_inN, iw_in, rq_in, pw_fold, nt_fold, ask_pw, has_eq, or_0, bt1, Bool.true_eq_false, Bool.false_eq_true])
  refine lp_first (K := fun a => K8 (nI (lv * 6)) (nI a) σ) (fun a => decide (D a &&& bx l q a = nI 0)) (fun z => P (if z.isSome then nI 1 else nI 0) σ) 6 (fun hz => ?_) (fun a ha hp hz => ?_) (fun a ha hp hK => ?_) h
  · apply h8
    (try simp (disch := omega) only [String.reduceEq, isRu_1, isRu_61, isGr_3, isSt_0, isSt_6, lg_selfT, isB_0, isB_1, eq_self, true_or, or_true, false_or, or_false, or_self, fa_lit, nI_add, pk_mul, pk_sub, nI_addm, nI_leI, nI_ltI, nI_eqI, vp_inI, ix_nI, forall_eq, true_implies, false_implies, not_true_eq_false, not_false_eq_true, and_true, true_and, false_and, and_false, nle_T, nle_F, nlt_T, nlt_F, neq_T, neq_F, up_rd_s, up_rd_n, up_nc, cpy_nc, cpy_in, cpy_out, cpyOk_T, m1_lt, m1_le, m1_nle, m1_nlt, m1_eq, m1_eq2, m1_0le, Nat.add_zero, Nat.zero_add, Nat.mul_one, Nat.sub_zero, if_true, if_false, Nat.add_sub_cancel, Nat.add_sub_cancel_left, in_in, in_inN, iw_in, rq_in, pw_fold, nt_fold, ask_pw, has_eq, or_0, bt1, Bool.true_eq_false, Bool.false_eq_true])
    exact hz
  · apply h8
    have hb : σ 68 (rk l q * 6 + a) = bx l q a := (hT.2.1 q hq).2.2.2.1 a ha
    have hp := of_decide_eq_true hp
    (try simp (disch := omega) only [String.reduceEq, isRu_1, isRu_61, isGr_3, isSt_0, isSt_6, lg_selfT, isB_0, isB_1, eq_self, true_or, or_true, false_or, or_false, or_self, fa_lit, nI_add, pk_mul, pk_sub, nI_addm, nI_leI, nI_ltI, nI_eqI, vp_inI, ix_nI, forall_eq, true_implies, false_implies, not_true_eq_false, not_false_eq_true, and_true, true_and, false_and, and_false, nle_T, nle_F, nlt_T, nlt_F, neq_T, neq_F, up_rd_s, up_rd_n, up_nc, cpy_nc, cpy_in, cpy_out, cpyOk_T, m1_lt, m1_le, m1_nle, m1_nlt, m1_eq, m1_eq2, m1_0le, Nat.add_zero, Nat.zero_add, Nat.mul_one, Nat.sub_zero, if_true, if_false, Nat.add_sub_cancel, Nat.add_sub_cancel_left, in_in, in_inN, iw_in, rq_in, pw_fold, nt_fold, ask_pw, has_eq, or_0, bt1, Bool.true_eq_false, Bool.false_eq_true, D_X5_box, hb, hD a ha, hp])
    exact hz
  · apply h8
    have hb : σ 68 (rk l q * 6 + a) = bx l q a := (hT.2.1 q hq).2.2.2.1 a ha
    have hp := of_decide_eq_false hp
    (try simp (disch := omega) only [String.reduceEq, isRu_1, isRu_61, isGr_3, isSt_0, isSt_6, lg_selfT, isB_0, isB_1, eq_self, true_or, or_true, false_or, or_false, or_self, fa_lit, nI_add, pk_mul, pk_sub, nI_addm, nI_leI, nI_ltI, nI_eqI, vp_inI, ix_nI, forall_eq, true_implies, false_implies, not_true_eq_false, not_false_eq_true, and_true, true_and, false_and, and_false, nle_T, nle_F, nlt_T, nlt_F, neq_T, neq_F, up_rd_s, up_rd_n, up_nc, cpy_nc, cpy_in, cpy_out, cpyOk_T, m1_lt, m1_le, m1_nle, m1_nlt, m1_eq, m1_eq2, m1_0le, Nat.add_zero, Nat.zero_add, Nat.mul_one, Nat.sub_zero, if_true, if_false, Nat.add_sub_cancel, Nat.add_sub_cancel_left, in_in, in_inN, iw_in, rq_in, pw_fold, nt_fold, ask_pw, has_eq, or_0, bt1, Bool.true_eq_false, Bool.false_eq_true, D_X5_box, hb, hD a ha, hp])
    exact hK
theorem X7_escapes {l : List mRule} {D : Nat → Int32} {lv q : Nat} {σ : Sto} {P : Int32 → Sto → Prop} (hl : l.length ≤ 24) (hT : TBL l σ) (hlv : lv ≤ 24) (hD : DOM D lv σ) (hq : q < l.length) (h : P (sb (esc l D q) 6) σ) : D_X7_escapes (nI lv) (nI (rk l q)) σ P := by
  intro K11 h11
  have hqk := rk_n hq
  (try simp (disch := omega) only [String.reduceEq, isRu_1, isRu_61, isGr_3, isSt_0, isSt_6, lg_selfT, isB_0, isB_1, eq_self, true_or, or_true, false_or, or_false, or_self, fa_lit, nI_add, pk_mul, pk_sub, nI_addm, nI_leI, nI_ltI, nI_eqI, vp_inI, ix_nI, forall_eq, true_implies, false_implies, not_true_eq_false, not_false_eq_true, and_true, true_and, false_and, and_false, nle_T, nle_F, nlt_T, nlt_F, neq_T, neq_F, up_rd_s, up_rd_n, up_nc, cpy_nc, cpy_in, cpy_out, cpyOk_T, m1_lt, m1_le, m1_nle, m1_nlt, m1_eq, m1_eq2, m1_0le, Nat.add_zero, Nat.zero_add, Nat.mul_one, Nat.sub_zero, if_true, if_false, Nat.add_sub_cancel, Nat.add_sub_cancel_left, in_in, in_inN, iw_in, rq_in, pw_fold, nt_fold, ask_pw, has_eq, or_0, bt1, Bool.true_eq_false, Bool.false_eq_true])
  refine lp_set (K := fun c a => K11 (nI (lv * 6)) c (nI a) σ) (esc l D q) (fun c => P c σ) 6 (fun c hc => ?_) (fun a c ha hp hK => ?_) (fun a c ha hp hK => ?_) h
  · apply h11
    (try simp (disch := omega) only [String.reduceEq, isRu_1, isRu_61, isGr_3, isSt_0, isSt_6, lg_selfT, isB_0, isB_1, eq_self, true_or, or_true, false_or, or_false, or_self, fa_lit, nI_add, pk_mul, pk_sub, nI_addm, nI_leI, nI_ltI, nI_eqI, vp_inI, ix_nI, forall_eq, true_implies, false_implies, not_true_eq_false, not_false_eq_true, and_true, true_and, false_and, and_false, nle_T, nle_F, nlt_T, nlt_F, neq_T, neq_F, up_rd_s, up_rd_n, up_nc, cpy_nc, cpy_in, cpy_out, cpyOk_T, m1_lt, m1_le, m1_nle, m1_nlt, m1_eq, m1_eq2, m1_0le, Nat.add_zero, Nat.zero_add, Nat.mul_one, Nat.sub_zero, if_true, if_false, Nat.add_sub_cancel, Nat.add_sub_cancel_left, in_in, in_inN, iw_in, rq_in, pw_fold, nt_fold, ask_pw, has_eq, or_0, bt1, Bool.true_eq_false, Bool.false_eq_true])
    exact hc
  · apply h11
    have hb : σ 68 (rk l q * 6 + a) = bx l q a := (hT.2.1 q hq).2.2.2.1 a ha
    have hp := of_decide_eq_true hp
    (try simp (disch := omega) only [String.reduceEq, isRu_1, isRu_61, isGr_3, isSt_0, isSt_6, lg_selfT, isB_0, isB_1, eq_self, true_or, or_true, false_or, or_false, or_self, fa_lit, nI_add, pk_mul, pk_sub, nI_addm, nI_leI, nI_ltI, nI_eqI, vp_inI, ix_nI, forall_eq, true_implies, false_implies, not_true_eq_false, not_false_eq_true, and_true, true_and, false_and, and_false, nle_T, nle_F, nlt_T, nlt_F, neq_T, neq_F, up_rd_s, up_rd_n, up_nc, cpy_nc, cpy_in, cpy_out, cpyOk_T, m1_lt, m1_le, m1_nle, m1_nlt, m1_eq, m1_eq2, m1_0le, Nat.add_zero, Nat.zero_add, Nat.mul_one, Nat.sub_zero, if_true, if_false, Nat.add_sub_cancel, Nat.add_sub_cancel_left, in_in, in_inN, iw_in, rq_in, pw_fold, nt_fold, ask_pw, has_eq, or_0, bt1, Bool.true_eq_false, Bool.false_eq_true, D_X5_box, hb, hD a ha, hp])
    exact hK
  · apply h11
    have hb : σ 68 (rk l q * 6 + a) = bx l q a := (hT.2.1 q hq).2.2.2.1 a ha
    have hp : D a &&& nt (bx l q a) = nI 0 := Classical.not_not.mp (of_decide_eq_false hp)
    (try simp (disch := omega) only [String.reduceEq, isRu_1, isRu_61, isGr_3, isSt_0, isSt_6, lg_selfT, isB_0, isB_1, eq_self, true_or, or_true, false_or, or_false, or_self, fa_lit, nI_add, pk_mul, pk_sub, nI_addm, nI_leI, nI_ltI, nI_eqI, vp_inI, ix_nI, forall_eq, true_implies, false_implies, not_true_eq_false, not_false_eq_true, and_true, true_and, false_and, and_false, nle_T, nle_F, nlt_T, nlt_F, neq_T, neq_F, up_rd_s, up_rd_n, up_nc, cpy_nc, cpy_in, cpy_out, cpyOk_T, m1_lt, m1_le, m1_nle, m1_nlt, m1_eq, m1_eq2, m1_0le, Nat.add_zero, Nat.zero_add, Nat.mul_one, Nat.sub_zero, if_true, if_false, Nat.add_sub_cancel, Nat.add_sub_cancel_left, in_in, in_inN, iw_in, rq_in, pw_fold, nt_fold, ask_pw, has_eq, or_0, bt1, Bool.true_eq_false, Bool.false_eq_true, D_X5_box, hb, hD a ha, hp])
    exact hK
def FRS (lv : Nat) (σ σ' : Sto) : Prop := (∀ c, c ≠ 71 → σ' c = σ c) ∧ ∀ j, j < lv * 6 + 6 → σ' 71 j = σ 71 j
theorem TBL_F {l : List mRule} {σ σ' : Sto} (h : ∀ c, c ≠ 71 → σ' c = σ c) (hT : TBL l σ) : TBL l σ' := TBL_cg (h _ (by omega)) (h _ (by omega)) (h _ (by omega)) (h _ (by omega)) (h _ (by omega)) hT
/-- what hasFree answers, with so much fuel -/
def HF (l : List mRule) (fuel : Nat) : Prop := ∀ (lv : Nat) (R : Int32) (p : Nat → Bool) (D : Nat → Int32) (σ : Sto) (P : Int32 → Sto → Prop), TBL l σ → RS l R p → lv ≤ 24 → 24 < fuel + lv → fb_ct p l.length + lv ≤ 24 → DOM D lv σ → WFD D → (∀ (b : Bool) (σ' : Sto), (b = true ↔ FreeP l D p) → FRS lv σ σ' → P (if b then nI 1 else nI 0) σ') → D_X7_hasFree fuel (nI lv) R σ P
/-- the domains when so many attributes have been gone through; with one of them left outside -/
def Da (l : List mRule) (D : Nat → Int32) (q0 a b : Nat) : Int32 := if b < a then D b &&& bx l q0 b else D b
def Db (l : List mRule) (D : Nat → Int32) (q0 a b : Nat) : Int32 := if b = a then D a &&& nt (bx l q0 a) else Da l D q0 a b
theorem Da_lt {l : List mRule} {D : Nat → Int32} {q0 a b : Nat} (h : b < a) : Da l D q0 a b = D b &&& bx l q0 b := if_pos h
theorem Da_ge {l : List mRule} {D : Nat → Int32} {q0 a b : Nat} (h : a ≤ b) : Da l D q0 a b = D b := if_neg (by omega)
theorem Da_S {l : List mRule} {D : Nat → Int32} {q0 a b : Nat} (h : b ≠ a) : Da l D q0 (a + 1) b = Da l D q0 a b := by
  by_cases e : b < a
  · rw [Da_lt e, Da_lt (by omega)]
  · rw [Da_ge (by omega), Da_ge (by omega)]
theorem Db_s {l : List mRule} {D : Nat → Int32} {q0 a : Nat} : Db l D q0 a a = D a &&& nt (bx l q0 a) := if_pos rfl
theorem Db_n {l : List mRule} {D : Nat → Int32} {q0 a b : Nat} (h : b ≠ a) : Db l D q0 a b = Da l D q0 a b := if_neg h
theorem Da_in {l : List mRule} {D : Nat → Int32} {q0 a b i : Nat} (h : bt (Da l D q0 a b) i = true) : bt (D b) i = true := by
  by_cases e : b < a
  · rw [Da_lt e, b_and, Bool.and_eq_true] at h
    exact h.1
  · rw [Da_ge (by omega)] at h
    exact h
theorem X7_beside {l : List mRule} {n m q0 : Nat} {R : Int32} {p : Nat → Bool} {D : Nat → Int32} {σ : Sto} {P : Int32 → Sto → Prop} (hl : l.length ≤ 24) (hHF : HF l n) (hT : TBL l σ) (hR : RS l R p) (hm : m < 24) (hf : 24 < n + (m + 1)) (hct : fb_ct p l.length + (m + 1) ≤ 24) (hD : DOM D m σ) (hW : WFD D) (hq : q0 < l.length) (hav : avd l D q0 = false)
    (h : ∀ (b : Bool) (σ' : Sto), (b = true ↔ FreeP l D (fun q => p q || decide (q = q0))) → FRS m σ σ' → P (if b then nI 1 else nI 0) σ') : D_X7_hasFreeBeside (D_X7_hasFree n) (nI (m + 1)) R (nI (rk l q0)) (sb (esc l D q0) 6) σ P := by
  intro K29 h29
  have hqk := rk_n hq
  have hna : ∀ a, a < 6 → ¬ D a &&& bx l q0 a = nI 0 := fun a ha z => by
    have := avd_iff.mpr ⟨a, ha, z⟩
    rw [hav] at this
    cases this
  (try simp (disch := omega) only [String.reduceEq, isRu_1, isRu_61, isGr_3, isSt_0, isSt_6, lg_selfT, isB_0, isB_1, eq_self, true_or, or_true, false_or, or_false, or_self, fa_lit, nI_add, pk_mul, pk_sub, nI_addm, nI_leI, nI_ltI, nI_eqI, vp_inI, ix_nI, forall_eq, true_implies, false_implies, not_true_eq_false, not_false_eq_true, and_true, true_and, false_and, and_false, nle_T, nle_F, nlt_T, nlt_F, neq_T, neq_F, up_rd_s, up_rd_n, up_nc, cpy_nc, cpy_in, cpy_out, cpyOk_T, m1_lt, m1_le, m1_nle, m1_nlt, m1_eq, m1_eq2, m1_0le, Nat.add_zero, Nat.zero_add, Nat.mul_one, Nat.sub_zero, if_true, if_false, Nat.add_sub_cancel, Nat.add_sub_cancel_left, in_in, in_inN, iw_in, rq_in, pw_fold, nt_fold, ask_pw, has_eq, or_0, bt1, Bool.true_eq_false, Bool.false_eq_true])
  refine lp 6 (fun a s => K29 (nI ((m + 1) * 6)) (nI a) s) (fun a s => FRS m σ s ∧ DOM (Da l D q0 a) (m + 1) s ∧ ∀ g, dIn D g → miss l p g → ∀ b, b < a → bt (bx l q0 b) (g b) = true) ?_ ?_ _ ⟨⟨fun c hc => by (try simp (disch := omega) only [String.reduceEq, isRu_1, isRu_61, isGr_3, isSt_0, isSt_6, lg_selfT, isB_0, isB_1, eq_self, true_or, or_true, false_or, or_false, or_self, fa_lit, nI_add, pk_mul, pk_sub, nI_addm, nI_leI, nI_ltI, nI_eqI, vp_inI, ix_nI, forall_eq, true_implies, false_implies, not_true_eq_false, not_false_eq_true, and_true, true_and, false_and, and_false, nle_T, nle_F, nlt_T, nlt_F, neq_T, neq_F, up_rd_s, up_rd_n, up_nc, cpy_nc, cpy_in, cpy_out, cpyOk_T, m1_lt, m1_le, m1_nle, m1_nlt, m1_eq, m1_eq2, m1_0le, Nat.add_zero, Nat.zero_add, Nat.mul_one, Nat.sub_zero, if_true, if_false, Nat.add_sub_cancel, Nat.add_sub_cancel_left, in_in, in_inN, iw_in, rq_in, pw_fold, nt_fold, ask_pw, has_eq, or_0, bt1, Bool.true_eq_false, Bool.false_eq_true]), fun j hj => by (try simp (disch := omega) only [String.reduceEq, isRu_1, isRu_61, isGr_3, isSt_0, isSt_6, lg_selfT, isB_0, isB_1, eq_self, true_or, or_true, false_or, or_false, or_self, fa_lit, nI_add, pk_mul, pk_sub, nI_addm, nI_leI, nI_ltI, nI_eqI, vp_inI, ix_nI, forall_eq, true_implies, false_implies, not_true_eq_false, not_false_eq_true, and_true, true_and, false_and, and_false, nle_T, nle_F, nlt_T, nlt_F, neq_T, neq_F, up_rd_s, up_rd_n, up_nc, cpy_nc, cpy_in, cpy_out, cpyOk_T, m1_lt, m1_le, m1_nle, m1_nlt, m1_eq, m1_eq2, m1_0le, Nat.add_zero, Nat.zero_add, Nat.mul_one, Nat.sub_zero, if_true, if_false, Nat.add_sub_cancel, Nat.add_sub_cancel_left, in_in, in_inN, iw_in, rq_in, pw_fold, nt_fold, ask_pw, has_eq, or_0, bt1, Bool.true_eq_false, Bool.false_eq_true])⟩, fun b hb => ?_, fun g _ _ b hb => absurd hb (Nat.not_lt_zero _)⟩
  · intro s ⟨s1, s2, s3⟩
    apply h29
    (try simp (disch := omega) only [String.reduceEq, isRu_1, isRu_61, isGr_3, isSt_0, isSt_6, lg_selfT, isB_0, isB_1, eq_self, true_or, or_true, false_or, or_false, or_self, fa_lit, nI_add, pk_mul, pk_sub, nI_addm, nI_leI, nI_ltI, nI_eqI, vp_inI, ix_nI, forall_eq, true_implies, false_implies, not_true_eq_false, not_false_eq_true, and_true, true_and, false_and, and_false, nle_T, nle_F, nlt_T, nlt_F, neq_T, neq_F, up_rd_s, up_rd_n, up_nc, cpy_nc, cpy_in, cpy_out, cpyOk_T, m1_lt, m1_le, m1_nle, m1_nlt, m1_eq, m1_eq2, m1_0le, Nat.add_zero, Nat.zero_add, Nat.mul_one, Nat.sub_zero, if_true, if_false, Nat.add_sub_cancel, Nat.add_sub_cancel_left, in_in, in_inN, iw_in, rq_in, pw_fold, nt_fold, ask_pw, has_eq, or_0, bt1, Bool.true_eq_false, Bool.false_eq_true])
    refine h false s ⟨(fun z => by cases z), (fun z => ?_)⟩ s1
    obtain ⟨g, g1, g2⟩ := z
    have := s3 g g1 (fun q hq2 hp => g2 q hq2 (by show (p q || decide (q = q0)) = true; rw [hp]; rfl))
    obtain ⟨a, a1, a2⟩ := g2 q0 hq (by show (p q0 || decide (q0 = q0)) = true; rw [decide_eq_true rfl, Bool.or_true])
    rw [this a a1] at a2
    cases a2
  · intro a s ha ⟨s1, s2, s3⟩ hnext
    apply h29
    have hTs := TBL_F s1.1 hT
    have hb : s 68 (rk l q0 * 6 + a) = bx l q0 a := (hTs.2.1 q0 hq).2.2.2.1 a ha
    have hsa : s 71 ((m + 1) * 6 + a) = D a := (s2 a ha).trans (Da_ge (Nat.le_refl _))
    have hbit : bt (sb (esc l D q0) 6) a = esc l D q0 a := by rw [b_sb _ (by decide), decide_eq_true ha, Bool.true_and]
    cases he : esc l D q0 a with
    | false =>
      rw [he] at hbit
      have hz : D a &&& nt (bx l q0 a) = nI 0 := Classical.not_not.mp (of_decide_eq_false he)
      (try simp (disch := omega) only [String.reduceEq, isRu_1, isRu_61, isGr_3, isSt_0, isSt_6, lg_selfT, isB_0, isB_1, eq_self, true_or, or_true, false_or, or_false, or_self, fa_lit, nI_add, pk_mul, pk_sub, nI_addm, nI_leI, nI_ltI, nI_eqI, vp_inI, ix_nI, forall_eq, true_implies, false_implies, not_true_eq_false, not_false_eq_true, and_true, true_and, false_and, and_false, nle_T, nle_F, nlt_T, nlt_F, neq_T, neq_F, up_rd_s, up_rd_n, up_nc, cpy_nc, cpy_in, cpy_out, cpyOk_T, m1_lt, m1_le, m1_nle, m1_nlt, m1_eq, m1_eq2, m1_0le, Nat.add_zero, Nat.zero_add, Nat.mul_one, Nat.sub_zero, if_true, if_false, Nat.add_sub_cancel, Nat.add_sub_cancel_left, in_in, in_inN, iw_in, rq_in, pw_fold, nt_fold, ask_pw, has_eq, or_0, bt1, Bool.true_eq_false, Bool.false_eq_true, hbit])
      refine hnext s ⟨s1, fun b hb6 => ?_, fun g g1 g2 b hba => ?_⟩
      · rw [s2 b hb6]
        by_cases e : b = a
        · subst e
          rw [Da_ge (Nat.le_refl _), Da_lt (Nat.lt_succ_self _), and_nt_s hz]
        · rw [Da_S e]
      · by_cases e : b = a
        · subst e
          have := g1 b ha
          exact and_nt0 hz (bt_lt this) this
        · exact s3 g g1 g2 b (by omega)
    | true =>
      rw [he] at hbit
      have hnz := of_decide_eq_true he
      (try simp (disch := omega) only [String.reduceEq, isRu_1, isRu_61, isGr_3, isSt_0, isSt_6, lg_selfT, isB_0, isB_1, eq_self, true_or, or_true, false_or, or_false, or_self, fa_lit, nI_add, pk_mul, pk_sub, nI_addm, nI_leI, nI_ltI, nI_eqI, vp_inI, ix_nI, forall_eq, true_implies, false_implies, not_true_eq_false, not_false_eq_true, and_true, true_and, false_and, and_false, nle_T, nle_F, nlt_T, nlt_F, neq_T, neq_F, up_rd_s, up_rd_n, up_nc, cpy_nc, cpy_in, cpy_out, cpyOk_T, m1_lt, m1_le, m1_nle, m1_nlt, m1_eq, m1_eq2, m1_0le, Nat.add_zero, Nat.zero_add, Nat.mul_one, Nat.sub_zero, if_true, if_false, Nat.add_sub_cancel, Nat.add_sub_cancel_left, in_in, in_inN, iw_in, rq_in, pw_fold, nt_fold, ask_pw, has_eq, or_0, bt1, Bool.true_eq_false, Bool.false_eq_true, hbit, bF hbit, D_X5_box, hb, hsa])
      have hD2 : DOM (Db l D q0 a) (m + 1) (up s 71 ((m + 1) * 6 + a) (D a &&& nt (bx l q0 a))) := by
        intro b hb6
        by_cases e : b = a
        · subst e
          rw [Db_s]
          (try simp (disch := omega) only [String.reduceEq, isRu_1, isRu_61, isGr_3, isSt_0, isSt_6, lg_selfT, isB_0, isB_1, eq_self, true_or, or_true, false_or, or_false, or_self, fa_lit, nI_add, pk_mul, pk_sub, nI_addm, nI_leI, nI_ltI, nI_eqI, vp_inI, ix_nI, forall_eq, true_implies, false_implies, not_true_eq_false, not_false_eq_true, and_true, true_and, false_and, and_false, nle_T, nle_F, nlt_T, nlt_F, neq_T, neq_F, up_rd_s, up_rd_n, up_nc, cpy_nc, cpy_in, cpy_out, cpyOk_T, m1_lt, m1_le, m1_nle, m1_nlt, m1_eq, m1_eq2, m1_0le, Nat.add_zero, Nat.zero_add, Nat.mul_one, Nat.sub_zero, if_true, if_false, Nat.add_sub_cancel, Nat.add_sub_cancel_left, in_in, in_inN, iw_in, rq_in, pw_fold, nt_fold, ask_pw, has_eq, or_0, bt1, Bool.true_eq_false, Bool.false_eq_true])
        · rw [Db_n e]
          (try simp (disch := omega) only [String.reduceEq, isRu_1, isRu_61, isGr_3, isSt_0, isSt_6, lg_selfT, isB_0, isB_1, eq_self, true_or, or_true, false_or, or_false, or_self, fa_lit, nI_add, pk_mul, pk_sub, nI_addm, nI_leI, nI_ltI, nI_eqI, vp_inI, ix_nI, forall_eq, true_implies, false_implies, not_true_eq_false, not_false_eq_true, and_true, true_and, false_and, and_false, nle_T, nle_F, nlt_T, nlt_F, neq_T, neq_F, up_rd_s, up_rd_n, up_nc, cpy_nc, cpy_in, cpy_out, cpyOk_T, m1_lt, m1_le, m1_nle, m1_nlt, m1_eq, m1_eq2, m1_0le, Nat.add_zero, Nat.zero_add, Nat.mul_one, Nat.sub_zero, if_true, if_false, Nat.add_sub_cancel, Nat.add_sub_cancel_left, in_in, in_inN, iw_in, rq_in, pw_fold, nt_fold, ask_pw, has_eq, or_0, bt1, Bool.true_eq_false, Bool.false_eq_true])
          exact s2 b hb6
      have hW2 : WFD (Db l D q0 a) := by
        intro b hb6
        by_cases e : b = a
        · subst e
          rw [Db_s]; exact hnz
        · rw [Db_n e]
          by_cases e2 : b < a
          · rw [Da_lt e2]; exact hna b hb6
          · rw [Da_ge (by omega)]; exact hW b hb6
      refine hHF (m + 1) R p _ _ _ (TBL_F (fun c hc => by (try simp (disch := omega) only [String.reduceEq, isRu_1, isRu_61, isGr_3, isSt_0, isSt_6, lg_selfT, isB_0, isB_1, eq_self, true_or, or_true, false_or, or_false, or_self, fa_lit, nI_add, pk_mul, pk_sub, nI_addm, nI_leI, nI_ltI, nI_eqI, vp_inI, ix_nI, forall_eq, true_implies, false_implies, not_true_eq_false, not_false_eq_true, and_true, true_and, false_and, and_false, nle_T, nle_F, nlt_T, nlt_F, neq_T, neq_F, up_rd_s, up_rd_n, up_nc, cpy_nc, cpy_in, cpy_out, cpyOk_T, m1_lt, m1_le, m1_nle, m1_nlt, m1_eq, m1_eq2, m1_0le, Nat.add_zero, Nat.zero_add, Nat.mul_one, Nat.sub_zero, if_true, if_false, Nat.add_sub_cancel, Nat.add_sub_cancel_left, in_in, in_inN, iw_in, rq_in, pw_fold, nt_fold, ask_pw, has_eq, or_0, bt1, Bool.true_eq_false, Bool.false_eq_true])) hTs) hR (by omega) hf hct hD2 hW2 (fun bb t hbb ft => ?_)
      cases bb with
      | true =>
        (try simp (disch := omega) only [String.reduceEq, isRu_1, isRu_61, isGr_3, isSt_0, isSt_6, lg_selfT, isB_0, isB_1, eq_self, true_or, or_true, false_or, or_false, or_self, fa_lit, nI_add, pk_mul, pk_sub, nI_addm, nI_leI, nI_ltI, nI_eqI, vp_inI, ix_nI, forall_eq, true_implies, false_implies, not_true_eq_false, not_false_eq_true, and_true, true_and, false_and, and_false, nle_T, nle_F, nlt_T, nlt_F, neq_T, neq_F, up_rd_s, up_rd_n, up_nc, cpy_nc, cpy_in, cpy_out, cpyOk_T, m1_lt, m1_le, m1_nle, m1_nlt, m1_eq, m1_eq2, m1_0le, Nat.add_zero, Nat.zero_add, Nat.mul_one, Nat.sub_zero, if_true, if_false, Nat.add_sub_cancel, Nat.add_sub_cancel_left, in_in, in_inN, iw_in, rq_in, pw_fold, nt_fold, ask_pw, has_eq, or_0, bt1, Bool.true_eq_false, Bool.false_eq_true])
        refine h true t ⟨(fun _ => ?_), (fun _ => rfl)⟩ ⟨fun c hc => by rw [ft.1 c hc]; (try simp (disch := omega) only [String.reduceEq, isRu_1, isRu_61, isGr_3, isSt_0, isSt_6, lg_selfT, isB_0, isB_1, eq_self, true_or, or_true, false_or, or_false, or_self, fa_lit, nI_add, pk_mul, pk_sub, nI_addm, nI_leI, nI_ltI, nI_eqI, vp_inI, ix_nI, forall_eq, true_implies, false_implies, not_true_eq_false, not_false_eq_true, and_true, true_and, false_and, and_false, nle_T, nle_F, nlt_T, nlt_F, neq_T, neq_F, up_rd_s, up_rd_n, up_nc, cpy_nc, cpy_in, cpy_out, cpyOk_T, m1_lt, m1_le, m1_nle, m1_nlt, m1_eq, m1_eq2, m1_0le, Nat.add_zero, Nat.zero_add, Nat.mul_one, Nat.sub_zero, if_true, if_false, Nat.add_sub_cancel, Nat.add_sub_cancel_left, in_in, in_inN, iw_in, rq_in, pw_fold, nt_fold, ask_pw, has_eq, or_0, bt1, Bool.true_eq_false, Bool.false_eq_true]); exact s1.1 c hc, fun j hj => by rw [ft.2 j (by omega)]; (try simp (disch := omega) only [String.reduceEq, isRu_1, isRu_61, isGr_3, isSt_0, isSt_6, lg_selfT, isB_0, isB_1, eq_self, true_or, or_true, false_or, or_false, or_self, fa_lit, nI_add, pk_mul, pk_sub, nI_addm, nI_leI, nI_ltI, nI_eqI, vp_inI, ix_nI, forall_eq, true_implies, false_implies, not_true_eq_false, not_false_eq_true, and_true, true_and, false_and, and_false, nle_T, nle_F, nlt_T, nlt_F, neq_T, neq_F, up_rd_s, up_rd_n, up_nc, cpy_nc, cpy_in, cpy_out, cpyOk_T, m1_lt, m1_le, m1_nle, m1_nlt, m1_eq, m1_eq2, m1_0le, Nat.add_zero, Nat.zero_add, Nat.mul_one, Nat.sub_zero, if_true, if_false, Nat.add_sub_cancel, Nat.add_sub_cancel_left, in_in, in_inN, iw_in, rq_in, pw_fold, nt_fold, ask_pw, has_eq, or_0, bt1, Bool.true_eq_false, Bool.false_eq_true]); exact s1.2 j hj⟩
        obtain ⟨g, g1, g2⟩ := hbb.mp rfl
        have ga := g1 a ha
        rw [Db_s, b_and, Bool.and_eq_true] at ga
        have ga2 : bt (bx l q0 a) (g a) = false := by
          have := ga.2
          rw [b_nt _ (bt_lt ga.1)] at this
          simpa using this
        refine ⟨g, fun b hb6 => ?_, fun q hq2 hp => ?_⟩
        · by_cases e : b = a
          · subst e; exact ga.1
          · have gb := g1 b hb6
            rw [Db_n e] at gb
            exact Da_in gb
        · have hp : (p q || decide (q = q0)) = true := hp
          rw [Bool.or_eq_true, decide_eq_true_iff] at hp
          rcases hp with hp | hp
          · exact g2 q hq2 hp
          · subst hp
            exact ⟨a, ha, ga2⟩
      | false =>
        (try simp (disch := omega) only [String.reduceEq, isRu_1, isRu_61, isGr_3, isSt_0, isSt_6, lg_selfT, isB_0, isB_1, eq_self, true_or, or_true, false_or, or_false, or_self, fa_lit, nI_add, pk_mul, pk_sub, nI_addm, nI_leI, nI_ltI, nI_eqI, vp_inI, ix_nI, forall_eq, true_implies, false_implies, not_true_eq_false, not_false_eq_true, and_true, true_and, false_and, and_false, nle_T, nle_F, nlt_T, nlt_F, neq_T, neq_F, up_rd_s, up_rd_n, up_nc, cpy_nc, cpy_in, cpy_out, cpyOk_T, m1_lt, m1_le, m1_nle, m1_nlt, m1_eq, m1_eq2, m1_0le, Nat.add_zero, Nat.zero_add, Nat.mul_one, Nat.sub_zero, if_true, if_false, Nat.add_sub_cancel, Nat.add_sub_cancel_left, in_in, in_inN, iw_in, rq_in, pw_fold, nt_fold, ask_pw, has_eq, or_0, bt1, Bool.true_eq_false, Bool.false_eq_true])
        refine hnext _ ⟨⟨fun c hc => by (try simp (disch := omega) only [String.reduceEq, isRu_1, isRu_61, isGr_3, isSt_0, isSt_6, lg_selfT, isB_0, isB_1, eq_self, true_or, or_true, false_or, or_false, or_self, fa_lit, nI_add, pk_mul, pk_sub, nI_addm, nI_leI, nI_ltI, nI_eqI, vp_inI, ix_nI, forall_eq, true_implies, false_implies, not_true_eq_false, not_false_eq_true, and_true, true_and, false_and, and_false, nle_T, nle_F, nlt_T, nlt_F, neq_T, neq_F, up_rd_s, up_rd_n, up_nc, cpy_nc, cpy_in, cpy_out, cpyOk_T, m1_lt, m1_le, m1_nle, m1_nlt, m1_eq, m1_eq2, m1_0le, Nat.add_zero, Nat.zero_add, Nat.mul_one, Nat.sub_zero, if_true, if_false, Nat.add_sub_cancel, Nat.add_sub_cancel_left, in_in, in_inN, iw_in, rq_in, pw_fold, nt_fold, ask_pw, has_eq, or_0, bt1, Bool.true_eq_false, Bool.false_eq_true]); rw [ft.1 c hc]; (try simp (disch := omega) only [String.reduceEq, isRu_1, isRu_61, isGr_3, isSt_0, isSt_6, lg_selfT, isB_0, isB_1, eq_self, true_or, or_true, false_or, or_false, or_self, fa_lit, nI_add, pk_mul, pk_sub, nI_addm, nI_leI, nI_ltI, nI_eqI, vp_inI, ix_nI, forall_eq, true_implies, false_implies, not_true_eq_false, not_false_eq_true, and_true, true_and, false_and, and_false, nle_T, nle_F, nlt_T, nlt_F, neq_T, neq_F, up_rd_s, up_rd_n, up_nc, cpy_nc, cpy_in, cpy_out, cpyOk_T, m1_lt, m1_le, m1_nle, m1_nlt, m1_eq, m1_eq2, m1_0le, Nat.add_zero, Nat.zero_add, Nat.mul_one, Nat.sub_zero, if_true, if_false, Nat.add_sub_cancel, Nat.add_sub_cancel_left, in_in, in_inN, iw_in, rq_in, pw_fold, nt_fold, ask_pw, has_eq, or_0, bt1, Bool.true_eq_false, Bool.false_eq_true]); exact s1.1 c hc, fun j hj => by (try simp (disch := omega) only [String.reduceEq, isRu_1, isRu_61, isGr_3, isSt_0, isSt_6, lg_selfT, isB_0, isB_1, eq_self, true_or, or_true, false_or, or_false, or_self, fa_lit, nI_add, pk_mul, pk_sub, nI_addm, nI_leI, nI_ltI, nI_eqI, vp_inI, ix_nI, forall_eq, true_implies, false_implies, not_true_eq_false, not_false_eq_true, and_true, true_and, false_and, and_false, nle_T, nle_F, nlt_T, nlt_F, neq_T, neq_F, up_rd_s, up_rd_n, up_nc, cpy_nc, cpy_in, cpy_out, cpyOk_T, m1_lt, m1_le, m1_nle, m1_nlt, m1_eq, m1_eq2, m1_0le, Nat.add_zero, Nat.zero_add, Nat.mul_one, Nat.sub_zero, if_true, if_false, Nat.add_sub_cancel, Nat.add_sub_cancel_left, in_in, in_inN, iw_in, rq_in, pw_fold, nt_fold, ask_pw, has_eq, or_0, bt1, Bool.true_eq_false, Bool.false_eq_true]); rw [ft.2 j (by omega)]; (try simp (disch := omega) only [String.reduceEq, isRu_1, isRu_61, isGr_3, isSt_0, isSt_6, lg_selfT, isB_0, isB_1, eq_self, true_or, or_true, false_or, or_false, or_self, fa_lit, nI_add, pk_mul, pk_sub, nI_addm, nI_leI, nI_ltI, nI_eqI, vp_inI, ix_nI, forall_eq, true_implies, false_implies, not_true_eq_false, not_false_eq_true, and_true, true_and, false_and, and_false, nle_T, nle_F, nlt_T, nlt_F, neq_T, neq_F, up_rd_s, up_rd_n, up_nc, cpy_nc, cpy_in, cpy_out, cpyOk_T, m1_lt, m1_le, m1_nle, m1_nlt, m1_eq, m1_eq2, m1_0le, Nat.add_zero, Nat.zero_add, Nat.mul_one, Nat.sub_zero, if_true, if_false, Nat.add_sub_cancel, Nat.add_sub_cancel_left, in_in, in_inN, iw_in, rq_in, pw_fold, nt_fold, ask_pw, has_eq, or_0, bt1, Bool.true_eq_false, Bool.false_eq_true]); exact s1.2 j hj⟩, fun b hb6 => ?_, fun g g1 g2 b hba => ?_⟩
        · by_cases e : b = a
          · subst e
            rw [Da_lt (Nat.lt_succ_self _)]
            (try simp (disch := omega) only [String.reduceEq, isRu_1, isRu_61, isGr_3, isSt_0, isSt_6, lg_selfT, isB_0, isB_1, eq_self, true_or, or_true, false_or, or_false, or_self, fa_lit, nI_add, pk_mul, pk_sub, nI_addm, nI_leI, nI_ltI, nI_eqI, vp_inI, ix_nI, forall_eq, true_implies, false_implies, not_true_eq_false, not_false_eq_true, and_true, true_and, false_and, and_false, nle_T, nle_F, nlt_T, nlt_F, neq_T, neq_F, up_rd_s, up_rd_n, up_nc, cpy_nc, cpy_in, cpy_out, cpyOk_T, m1_lt, m1_le, m1_nle, m1_nlt, m1_eq, m1_eq2, m1_0le, Nat.add_zero, Nat.zero_add, Nat.mul_one, Nat.sub_zero, if_true, if_false, Nat.add_sub_cancel, Nat.add_sub_cancel_left, in_in, in_inN, iw_in, rq_in, pw_fold, nt_fold, ask_pw, has_eq, or_0, bt1, Bool.true_eq_false, Bool.false_eq_true])
          · rw [Da_S e]
            (try simp (disch := omega) only [String.reduceEq, isRu_1, isRu_61, isGr_3, isSt_0, isSt_6, lg_selfT, isB_0, isB_1, eq_self, true_or, or_true, false_or, or_false, or_self, fa_lit, nI_add, pk_mul, pk_sub, nI_addm, nI_leI, nI_ltI, nI_eqI, vp_inI, ix_nI, forall_eq, true_implies, false_implies, not_true_eq_false, not_false_eq_true, and_true, true_and, false_and, and_false, nle_T, nle_F, nlt_T, nlt_F, neq_T, neq_F, up_rd_s, up_rd_n, up_nc, cpy_nc, cpy_in, cpy_out, cpyOk_T, m1_lt, m1_le, m1_nle, m1_nlt, m1_eq, m1_eq2, m1_0le, Nat.add_zero, Nat.zero_add, Nat.mul_one, Nat.sub_zero, if_true, if_false, Nat.add_sub_cancel, Nat.add_sub_cancel_left, in_in, in_inN, iw_in, rq_in, pw_fold, nt_fold, ask_pw, has_eq, or_0, bt1, Bool.true_eq_false, Bool.false_eq_true])
            rw [ft.2 _ (by omega)]
            (try simp (disch := omega) only [String.reduceEq, isRu_1, isRu_61, isGr_3, isSt_0, isSt_6, lg_selfT, isB_0, isB_1, eq_self, true_or, or_true, false_or, or_false, or_self, fa_lit, nI_add, pk_mul, pk_sub, nI_addm, nI_leI, nI_ltI, nI_eqI, vp_inI, ix_nI, forall_eq, true_implies, false_implies, not_true_eq_false, not_false_eq_true, and_true, true_and, false_and, and_false, nle_T, nle_F, nlt_T, nlt_F, neq_T, neq_F, up_rd_s, up_rd_n, up_nc, cpy_nc, cpy_in, cpy_out, cpyOk_T, m1_lt, m1_le, m1_nle, m1_nlt, m1_eq, m1_eq2, m1_0le, Nat.add_zero, Nat.zero_add, Nat.mul_one, Nat.sub_zero, if_true, if_false, Nat.add_sub_cancel, Nat.add_sub_cancel_left, in_in, in_inN, iw_in, rq_in, pw_fold, nt_fold, ask_pw, has_eq, or_0, bt1, Bool.true_eq_false, Bool.false_eq_true])
            exact s2 b hb6
        · by_cases e : b = a
          · subst e
            cases hg : bt (bx l q0 b) (g b) with
            | true => rfl
            | false =>
              have : (false : Bool) = true := hbb.mpr ⟨g, fun z hz => ?_, g2⟩
              · cases this
              · by_cases e : z = b
                · subst e
                  rw [Db_s, b_and, b_nt _ (bt_lt (g1 z hz)), g1 z hz, hg]
                  rfl
                · rw [Db_n e]
                  by_cases e2 : z < b
                  · rw [Da_lt e2, b_and, g1 z hz, s3 g g1 g2 z e2]
                    rfl
                  · rw [Da_ge (by omega)]
                    exact g1 z hz
          · exact s3 g g1 g2 b (by omega)
  · rw [Da_ge (Nat.zero_le _)]
    (try simp (disch := omega) only [String.reduceEq, isRu_1, isRu_61, isGr_3, isSt_0, isSt_6, lg_selfT, isB_0, isB_1, eq_self, true_or, or_true, false_or, or_false, or_self, fa_lit, nI_add, pk_mul, pk_sub, nI_addm, nI_leI, nI_ltI, nI_eqI, vp_inI, ix_nI, forall_eq, true_implies, false_implies, not_true_eq_false, not_false_eq_true, and_true, true_and, false_and, and_false, nle_T, nle_F, nlt_T, nlt_F, neq_T, neq_F, up_rd_s, up_rd_n, up_nc, cpy_nc, cpy_in, cpy_out, cpyOk_T, m1_lt, m1_le, m1_nle, m1_nlt, m1_eq, m1_eq2, m1_0le, Nat.add_zero, Nat.zero_add, Nat.mul_one, Nat.sub_zero, if_true, if_false, Nat.add_sub_cancel, Nat.add_sub_cancel_left, in_in, in_inN, iw_in, rq_in, pw_fold, nt_fold, ask_pw, has_eq, or_0, bt1, Bool.true_eq_false, Bool.false_eq_true])
    have := hD b hb
    first | exact this | exact (fcg (f := σ 71) (by omega)).trans this
theorem X7_hasFree {l : List mRule} (hl : l.length ≤ 24) : ∀ fuel, HF l fuel := by
  intro fuel
  induction fuel with
  | zero => exact fun lv R p D σ P _ _ h1 h2 => by omega
  | succ n ih =>
    intro lv R p D σ P hT hR hlv hf hct hD hW h
    have hS := TBL_S hT
    rw [D_X7_hasFree]
    intro K11 h11
    have hi16 : ∀ q i, 16 ≤ i → bt (sb (esc l D q) 6) i = false := fun q i hi => sb_hi hi
    refine lp 24 (fun k (z : Int32 × Nat × Int32) => K11 z.1 (nI z.2.1) z.2.2 (nI k) σ) (fun k z => (∀ q, q < l.length → bt z.1 (rk l q) = (decide (rk l q < k) && (p q && !avd l D q))) ∧ (∀ i, l.length ≤ i → bt z.1 i = false) ∧ (∀ i, 16 ≤ i → bt z.2.2 i = false) ∧ (¬ z.1 = nI 0 → ∃ q, q < l.length ∧ z.2.1 = rk l q ∧ p q = true ∧ avd l D q = false ∧ bt z.1 z.2.1 = true ∧ z.2.2 = sb (esc l D q) 6)) ?_ ?_ (nI 0, 0, nI 0) ⟨fun q hq => by rw [decide_eq_false (Nat.not_lt_zero _), Bool.false_and]; exact b_z _, fun i _ => b_z i, fun i _ => b_z i, fun z => absurd rfl z⟩
    · rintro ⟨left, hd, wy⟩ ⟨s1, s2, s3, s4⟩
      replace s1 : ∀ q, q < l.length → bt left (rk l q) = (decide (rk l q < 24) && (p q && !avd l D q)) := s1
      replace s2 : ∀ i, l.length ≤ i → bt left i = false := s2
      replace s4 : ¬ left = nI 0 → ∃ q, q < l.length ∧ hd = rk l q ∧ p q = true ∧ avd l D q = false ∧ bt left hd = true ∧ wy = sb (esc l D q) 6 := s4
      have hL : RS l left (fun q => p q && !avd l D q) := ⟨fun q hq => by have := rk_n hq; rw [s1 q hq, decide_eq_true (show rk l q < 24 by omega), Bool.true_and], s2⟩
      apply h11
      by_cases e0 : left = nI 0
      · (try simp (disch := omega) only [String.reduceEq, isRu_1, isRu_61, isGr_3, isSt_0, isSt_6, lg_selfT, isB_0, isB_1, eq_self, true_or, or_true, false_or, or_false, or_self, fa_lit, nI_add, pk_mul, pk_sub, nI_addm, nI_leI, nI_ltI, nI_eqI, vp_inI, ix_nI, forall_eq, true_implies, false_implies, not_true_eq_false, not_false_eq_true, and_true, true_and, false_and, and_false, nle_T, nle_F, nlt_T, nlt_F, neq_T, neq_F, up_rd_s, up_rd_n, up_nc, cpy_nc, cpy_in, cpy_out, cpyOk_T, m1_lt, m1_le, m1_nle, m1_nlt, m1_eq, m1_eq2, m1_0le, Nat.add_zero, Nat.zero_add, Nat.mul_one, Nat.sub_zero, if_true, if_false, Nat.add_sub_cancel, Nat.add_sub_cancel_left, in_in, in_inN, iw_in, rq_in, pw_fold, nt_fold, ask_pw, has_eq, or_0, bt1, Bool.true_eq_false, Bool.false_eq_true, e0])
        refine h true σ ⟨(fun _ => ?_), (fun _ => rfl)⟩ ⟨fun _ _ => rfl, fun _ _ => rfl⟩
        exact free_left.mpr (free_none hW ((RS_0 hS hL).mp e0))
      · obtain ⟨q, q1, q2, q3, q4, q5, q6⟩ := s4 e0
        subst q2
        subst q6
        have hqk := rk_n q1
        have hlt : fb_ct (fun z => (p z && !avd l D z) && !decide (z = q)) l.length < fb_ct p l.length := by
          refine ct_lt (p := fun z => (p z && !avd l D z) && !decide (z = q)) (q := p) (i := q) (fun k hk => ?_) ?_ q3 q1
          · rw [Bool.and_eq_true, Bool.and_eq_true] at hk
            exact hk.1.1
          · show ((p q && !avd l D q) && !decide (q = q)) = false
            rw [decide_eq_true rfl, Bool.not_true, Bool.and_false]
        have hlv2 : ¬ 24 ≤ lv := by omega
        have hR2 : RS l (left &&& nt (pw (rk l q))) (fun z => (p z && !avd l D z) && !decide (z = q)) := by
          refine ⟨fun z hz => ?_, fun i hi => by rw [b_and, s2 i hi, Bool.false_and]⟩
          have hzk := rk_n hz
          have hLz : bt left (rk l z) = (p z && !avd l D z) := hL.1 z hz
          rw [b_and, hLz, b_nt _ (by omega), b_pw (by omega), decide_eq_decide.mpr (show rk l z = rk l q ↔ z = q from ⟨fun e => rk_inj hz q1 e, fun e => by rw [e]⟩)]
        (try simp (disch := omega) only [String.reduceEq, isRu_1, isRu_61, isGr_3, isSt_0, isSt_6, lg_selfT, isB_0, isB_1, eq_self, true_or, or_true, false_or, or_false, or_self, fa_lit, nI_add, pk_mul, pk_sub, nI_addm, nI_leI, nI_ltI, nI_eqI, vp_inI, ix_nI, forall_eq, true_implies, false_implies, not_true_eq_false, not_false_eq_true, and_true, true_and, false_and, and_false, nle_T, nle_F, nlt_T, nlt_F, neq_T, neq_F, up_rd_s, up_rd_n, up_nc, cpy_nc, cpy_in, cpy_out, cpyOk_T, m1_lt, m1_le, m1_nle, m1_nlt, m1_eq, m1_eq2, m1_0le, Nat.add_zero, Nat.zero_add, Nat.mul_one, Nat.sub_zero, if_true, if_false, Nat.add_sub_cancel, Nat.add_sub_cancel_left, in_in, in_inN, iw_in, rq_in, pw_fold, nt_fold, ask_pw, has_eq, or_0, bt1, Bool.true_eq_false, Bool.false_eq_true, e0])
        refine X7_beside hl ih hT hR2 (by omega) (by omega) (by omega) hD hW q1 q4 (fun b σ' hb hfr => ?_)
        have hb2 : b = true ↔ FreeP l D p := by
          rw [hb, free_left (p := p)]
          have hpe : ∀ z, z < l.length → ((((p z && !avd l D z) && !decide (z = q)) || decide (z = q)) = (p z && !avd l D z)) := by
            intro z hz
            by_cases e : z = q
            · subst e
              rw [q3, q4, decide_eq_true rfl]
              rfl
            · rw [decide_eq_false e]
              simp
          constructor
          · rintro ⟨g, g1, g2⟩
            exact ⟨g, g1, fun z hz hp => g2 z hz ((hpe z hz).trans hp)⟩
          · rintro ⟨g, g1, g2⟩
            exact ⟨g, g1, fun z hz hp => g2 z hz ((hpe z hz).symm.trans hp)⟩
        have := h b σ' hb2 hfr
        cases b with
        | false => (try simp (disch := omega) only [String.reduceEq, isRu_1, isRu_61, isGr_3, isSt_0, isSt_6, lg_selfT, isB_0, isB_1, eq_self, true_or, or_true, false_or, or_false, or_self, fa_lit, nI_add, pk_mul, pk_sub, nI_addm, nI_leI, nI_ltI, nI_eqI, vp_inI, ix_nI, forall_eq, true_implies, false_implies, not_true_eq_false, not_false_eq_true, and_true, true_and, false_and, and_false, nle_T, nle_F, nlt_T, nlt_F, neq_T, neq_F, up_rd_s, up_rd_n, up_nc, cpy_nc, cpy_in, cpy_out, cpyOk_T, m1_lt, m1_le, m1_nle, m1_nlt, m1_eq, m1_eq2, m1_0le, Nat.add_zero, Nat.zero_add, Nat.mul_one, Nat.sub_zero, if_true, if_false, Nat.add_sub_cancel, Nat.add_sub_cancel_left, in_in, in_inN, iw_in, rq_in, pw_fold, nt_fold, ask_pw, has_eq, or_0, bt1, Bool.true_eq_false, Bool.false_eq_true]); exact this
        | true => (try simp (disch := omega) only [String.reduceEq, isRu_1, isRu_61, isGr_3, isSt_0, isSt_6, lg_selfT, isB_0, isB_1, eq_self, true_or, or_true, false_or, or_false, or_self, fa_lit, nI_add, pk_mul, pk_sub, nI_addm, nI_leI, nI_ltI, nI_eqI, vp_inI, ix_nI, forall_eq, true_implies, false_implies, not_true_eq_false, not_false_eq_true, and_true, true_and, false_and, and_false, nle_T, nle_F, nlt_T, nlt_F, neq_T, neq_F, up_rd_s, up_rd_n, up_nc, cpy_nc, cpy_in, cpy_out, cpyOk_T, m1_lt, m1_le, m1_nle, m1_nlt, m1_eq, m1_eq2, m1_0le, Nat.add_zero, Nat.zero_add, Nat.mul_one, Nat.sub_zero, if_true, if_false, Nat.add_sub_cancel, Nat.add_sub_cancel_left, in_in, in_inN, iw_in, rq_in, pw_fold, nt_fold, ask_pw, has_eq, or_0, bt1, Bool.true_eq_false, Bool.false_eq_true]); exact this
    · rintro k ⟨left, hd, wy⟩ hk ⟨s1, s2, s3, s4⟩ hnext
      replace s1 : ∀ q, q < l.length → bt left (rk l q) = (decide (rk l q < k) && (p q && !avd l D q)) := s1
      replace s2 : ∀ i, l.length ≤ i → bt left i = false := s2
      replace s3 : ∀ i, 16 ≤ i → bt wy i = false := s3
      replace s4 : ¬ left = nI 0 → ∃ q, q < l.length ∧ hd = rk l q ∧ p q = true ∧ avd l D q = false ∧ bt left hd = true ∧ wy = sb (esc l D q) 6 := s4
      apply h11
      have skip : (∀ q, q < l.length → rk l q = k → (p q && !avd l D q) = false) → K11 left (nI hd) wy (nI (k + 1)) σ := by
        intro hno
        refine hnext (left, hd, wy) ⟨fun q hq => ?_, s2, s3, s4⟩
        show bt left (rk l q) = _
        rw [s1 q hq]
        by_cases e : rk l q = k
        · rw [hno q hq e, Bool.and_false, Bool.and_false]
        · rw [decide_eq_decide.mpr (show rk l q < k ↔ rk l q < k + 1 by omega)]
      cases hb : bt R k with
      | false =>
        (try simp (disch := omega) only [String.reduceEq, isRu_1, isRu_61, isGr_3, isSt_0, isSt_6, lg_selfT, isB_0, isB_1, eq_self, true_or, or_true, false_or, or_false, or_self, fa_lit, nI_add, pk_mul, pk_sub, nI_addm, nI_leI, nI_ltI, nI_eqI, vp_inI, ix_nI, forall_eq, true_implies, false_implies, not_true_eq_false, not_false_eq_true, and_true, true_and, false_and, and_false, nle_T, nle_F, nlt_T, nlt_F, neq_T, neq_F, up_rd_s, up_rd_n, up_nc, cpy_nc, cpy_in, cpy_out, cpyOk_T, m1_lt, m1_le, m1_nle, m1_nlt, m1_eq, m1_eq2, m1_0le, Nat.add_zero, Nat.zero_add, Nat.mul_one, Nat.sub_zero, if_true, if_false, Nat.add_sub_cancel, Nat.add_sub_cancel_left, in_in, in_inN, iw_in, rq_in, pw_fold, nt_fold, ask_pw, has_eq, or_0, bt1, Bool.true_eq_false, Bool.false_eq_true, hb])
        refine skip (fun q hq e => ?_)
        have := hR.1 q hq
        rw [e, hb] at this
        rw [← this, Bool.false_and]
      | true =>
        have hkn : k < l.length := by
          rcases Nat.lt_or_ge k l.length with z | z
          · exact z
          · rw [hR.2 k z] at hb; cases hb
        obtain ⟨q, hq, hqe⟩ := hS k hkn
        have hp : p q = true := by rw [← hR.1 q hq, hqe]; exact hb
        (try simp (disch := omega) only [String.reduceEq, isRu_1, isRu_61, isGr_3, isSt_0, isSt_6, lg_selfT, isB_0, isB_1, eq_self, true_or, or_true, false_or, or_false, or_self, fa_lit, nI_add, pk_mul, pk_sub, nI_addm, nI_leI, nI_ltI, nI_eqI, vp_inI, ix_nI, forall_eq, true_implies, false_implies, not_true_eq_false, not_false_eq_true, and_true, true_and, false_and, and_false, nle_T, nle_F, nlt_T, nlt_F, neq_T, neq_F, up_rd_s, up_rd_n, up_nc, cpy_nc, cpy_in, cpy_out, cpyOk_T, m1_lt, m1_le, m1_nle, m1_nlt, m1_eq, m1_eq2, m1_0le, Nat.add_zero, Nat.zero_add, Nat.mul_one, Nat.sub_zero, if_true, if_false, Nat.add_sub_cancel, Nat.add_sub_cancel_left, in_in, in_inN, iw_in, rq_in, pw_fold, nt_fold, ask_pw, has_eq, or_0, bt1, Bool.true_eq_false, Bool.false_eq_true, hb, bF hb])
        rw [← hqe]
        refine X7_isAvoided hl hT hlv hD hq ?_
        cases ha : avd l D q with
        | true =>
          (try simp (disch := omega) only [String.reduceEq, isRu_1, isRu_61, isGr_3, isSt_0, isSt_6, lg_selfT, isB_0, isB_1, eq_self, true_or, or_true, false_or, or_false, or_self, fa_lit, nI_add, pk_mul, pk_sub, nI_addm, nI_leI, nI_ltI, nI_eqI, vp_inI, ix_nI, forall_eq, true_implies, false_implies, not_true_eq_false, not_false_eq_true, and_true, true_and, false_and, and_false, nle_T, nle_F, nlt_T, nlt_F, neq_T, neq_F, up_rd_s, up_rd_n, up_nc, cpy_nc, cpy_in, cpy_out, cpyOk_T, m1_lt, m1_le, m1_nle, m1_nlt, m1_eq, m1_eq2, m1_0le, Nat.add_zero, Nat.zero_add, Nat.mul_one, Nat.sub_zero, if_true, if_false, Nat.add_sub_cancel, Nat.add_sub_cancel_left, in_in, in_inN, iw_in, rq_in, pw_fold, nt_fold, ask_pw, has_eq, or_0, bt1, Bool.true_eq_false, Bool.false_eq_true])
          rw [hqe]
          refine skip (fun z hz e => ?_)
          have : z = q := rk_inj hz hq (by rw [e, hqe])
          subst this
          rw [ha, Bool.not_true, Bool.and_false]
        | false =>
          (try simp (disch := omega) only [String.reduceEq, isRu_1, isRu_61, isGr_3, isSt_0, isSt_6, lg_selfT, isB_0, isB_1, eq_self, true_or, or_true, false_or, or_false, or_self, fa_lit, nI_add, pk_mul, pk_sub, nI_addm, nI_leI, nI_ltI, nI_eqI, vp_inI, ix_nI, forall_eq, true_implies, false_implies, not_true_eq_false, not_false_eq_true, and_true, true_and, false_and, and_false, nle_T, nle_F, nlt_T, nlt_F, neq_T, neq_F, up_rd_s, up_rd_n, up_nc, cpy_nc, cpy_in, cpy_out, cpyOk_T, m1_lt, m1_le, m1_nle, m1_nlt, m1_eq, m1_eq2, m1_0le, Nat.add_zero, Nat.zero_add, Nat.mul_one, Nat.sub_zero, if_true, if_false, Nat.add_sub_cancel, Nat.add_sub_cancel_left, in_in, in_inN, iw_in, rq_in, pw_fold, nt_fold, ask_pw, has_eq, or_0, bt1, Bool.true_eq_false, Bool.false_eq_true])
          refine X7_escapes hl hT hlv hD hq ?_
          rw [hqe]
          have hn2 : ∀ i, i < 32 → bt (left ||| pw k) i = (bt left i || decide (i = k)) := fun i _ => by rw [b_or, b_pw (by omega)]
          have new1 : ∀ z, z < l.length → bt (left ||| pw k) (rk l z) = (decide (rk l z < k + 1) && (p z && !avd l D z)) := by
            intro z hz
            have hzk := rk_n hz
            rw [hn2 _ (by omega), s1 z hz]
            by_cases e : rk l z = k
            · have : z = q := rk_inj hz hq (by rw [e, hqe])
              subst this
              rw [hp, ha, decide_eq_true e, decide_eq_true (show rk l z < k + 1 by omega), Bool.or_true]
              rfl
            · rw [decide_eq_false e, Bool.or_false, decide_eq_decide.mpr (show rk l z < k ↔ rk l z < k + 1 by omega)]
          have new2 : ∀ i, l.length ≤ i → bt (left ||| pw k) i = false := by
            intro i hi
            rw [b_or, s2 i hi, b_pw (by omega), decide_eq_false (by omega), Bool.or_false]
          have bk : bt (left ||| pw k) k = true := by rw [hn2 k (by omega), decide_eq_true rfl, Bool.or_true]
          have go1 : K11 (left ||| pw k) (nI k) (sb (esc l D q) 6) (nI (k + 1)) σ := hnext (left ||| pw k, k, sb (esc l D q) 6) ⟨new1, new2, hi16 q, fun _ => ⟨q, hq, hqe.symm, hp, ha, bk, rfl⟩⟩
          by_cases e0 : left = nI 0
          · (try simp (disch := omega) only [String.reduceEq, isRu_1, isRu_61, isGr_3, isSt_0, isSt_6, lg_selfT, isB_0, isB_1, eq_self, true_or, or_true, false_or, or_false, or_self, fa_lit, nI_add, pk_mul, pk_sub, nI_addm, nI_leI, nI_ltI, nI_eqI, vp_inI, ix_nI, forall_eq, true_implies, false_implies, not_true_eq_false, not_false_eq_true, and_true, true_and, false_and, and_false, nle_T, nle_F, nlt_T, nlt_F, neq_T, neq_F, up_rd_s, up_rd_n, up_nc, cpy_nc, cpy_in, cpy_out, cpyOk_T, m1_lt, m1_le, m1_nle, m1_nlt, m1_eq, m1_eq2, m1_0le, Nat.add_zero, Nat.zero_add, Nat.mul_one, Nat.sub_zero, if_true, if_false, Nat.add_sub_cancel, Nat.add_sub_cancel_left, in_in, in_inN, iw_in, rq_in, pw_fold, nt_fold, ask_pw, has_eq, or_0, bt1, Bool.true_eq_false, Bool.false_eq_true, e0])
            rw [e0] at go1
            exact go1
          · have go2 : K11 (left ||| pw k) (nI hd) wy (nI (k + 1)) σ := by
              refine hnext (left ||| pw k, hd, wy) ⟨new1, new2, s3, fun _ => ?_⟩
              obtain ⟨z, z1, z2, z3, z4, z5, z6⟩ := s4 e0
              exact ⟨z, z1, z2, z3, z4, by show bt (left ||| pw k) hd = true; rw [b_or, z5, Bool.true_or], z6⟩
            (try simp (disch := omega) only [String.reduceEq, isRu_1, isRu_61, isGr_3, isSt_0, isSt_6, lg_selfT, isB_0, isB_1, eq_self, true_or, or_true, false_or, or_false, or_self, fa_lit, nI_add, pk_mul, pk_sub, nI_addm, nI_leI, nI_ltI, nI_eqI, vp_inI, ix_nI, forall_eq, true_implies, false_implies, not_true_eq_false, not_false_eq_true, and_true, true_and, false_and, and_false, nle_T, nle_F, nlt_T, nlt_F, neq_T, neq_F, up_rd_s, up_rd_n, up_nc, cpy_nc, cpy_in, cpy_out, cpyOk_T, m1_lt, m1_le, m1_nle, m1_nlt, m1_eq, m1_eq2, m1_0le, Nat.add_zero, Nat.zero_add, Nat.mul_one, Nat.sub_zero, if_true, if_false, Nat.add_sub_cancel, Nat.add_sub_cancel_left, in_in, in_inN, iw_in, rq_in, pw_fold, nt_fold, ask_pw, has_eq, or_0, bt1, Bool.true_eq_false, Bool.false_eq_true, e0])
            refine J6_bitCount (hi16 q) ?_
            refine J6_bitCount s3 ?_
            exact ⟨fun _ => go2, fun _ => go1⟩
