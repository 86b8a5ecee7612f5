/-! MATH. decide, decidingRule, policyDecision. -/
theorem sb_0 {p : Nat → Bool} {n : Nat} (hn : n ≤ 32) : sb p n = nI 0 ↔ ∀ k, k < n → p k = false := by
  constructor
  · intro h k hk
    have := b_sb p hn k
    rw [h, b_z, decide_eq_true hk, Bool.true_and] at this
    exact this.symm
  · intro h
    refine b_eq0.mpr fun i _ => ?_
    rw [b_sb p hn i]
    by_cases e : i < n
    · rw [h i e, Bool.and_false]
    · rw [decide_eq_false e, Bool.false_and]
def FULL (vs : List (Option Nat)) : Prop := ∀ a, a < 6 → aUnk vs a = false
def gv (vs : List (Option Nat)) (a : Nat) : Nat := (vs.getD a none).getD 0
theorem gv_some {vs : List (Option Nat)} {a : Nat} (h : aUnk vs a = false) : vs.getD a none = some (gv vs a) := by
  unfold aUnk at h
  unfold gv
  cases q : vs.getD a none with
  | none => rw [q] at h; cases h
  | some w => rfl
theorem fit_full {l : List mRule} {vs : List (Option Nat)} (hF : FULL vs) (r : Nat) : decide (¬ fitN l vs r = 0) = appG l (gv vs) r := by
  have hb : ∀ k, k < 6 → bad l vs r k = !bt (bx l r k) (gv vs k) := by
    intro k hk
    unfold bad
    rw [gv_some (hF k hk)]
  cases h : appG l (gv vs) r with
  | true =>
    refine decide_eq_true fun z => ?_
    obtain ⟨k, k1, k2⟩ := fitN_iff.mp z
    rw [hb k k1, appG_iff.mp h k k1] at k2
    cases k2
  | false =>
    refine decide_eq_false fun z => z (fitN_iff.mpr ?_)
    by_cases q : ∃ k, k < 6 ∧ bt (bx l r k) (gv vs k) = false
    · obtain ⟨k, k1, k2⟩ := q
      exact ⟨k, k1, by rw [hb k k1, k2]; rfl⟩
    · have : appG l (gv vs) r = true := appG_iff.mpr fun a ha => by
        cases e : bt (bx l r a) (gv vs a) with
        | true => rfl
        | false => exact absurd ⟨a, ha, e⟩ q
      rw [this] at h
      cases h
theorem X5_matching {l : List mRule} {vs : List (Option Nat)} {v : Nat} {σ : Sto} {P : Int32 → Sto → Prop} (hl : l.length ≤ 24) (hT : TBL l σ) (hv : isVa v) (hV : ValsAt (σ v) vs) (hA : VA vs) (h : ∀ X, RS l X (fun r => decide (¬ fitN l vs r = 0)) → P X σ) : D_X5_matching v σ P := by
  refine ⟨hv, fun K4 h4 => ?_⟩
  have e6 : σ 65 6 = nI l.length := hT.1
  have hS := TBL_S hT
  have hf2 : ∀ r, fitN l vs r ≤ 2 := by
    intro r
    unfold fitN
    cases ft (bad l vs r) 6 with
    | some k => exact (by decide : 0 ≤ 2)
    | none => rcases sure_12 (uns l vs r) 6 with q | q <;> (show sure _ 6 ≤ 2; omega)
  refine lp_set (K := fun c k => K4 c (nI k) σ) (fun k => decide (¬ fitN l vs (ra l k) = 0)) (fun c => c = sb (fun k => decide (¬ fitN l vs (ra l k) = 0)) l.length) l.length (fun c hc => ?_) (fun k c hk hp hK => ?_) (fun k c hk hp hK => ?_) rfl
  · apply h4
    (try simp (disch := omega) only [String.reduceEq, isRu_1, isRu_61, isGr_3, isSt_0, isSt_6, lg_selfT, isB_0, isB_1, eq_self, true_or, or_true, false_or, or_false, or_self, fa_lit, nI_add, pk_mul, pk_sub, nI_addm, nI_leI, nI_ltI, nI_eqI, vp_inI, ix_nI, forall_eq, true_implies, false_implies, not_true_eq_false, not_false_eq_true, and_true, true_and, false_and, and_false, nle_T, nle_F, nlt_T, nlt_F, neq_T, neq_F, up_rd_s, up_rd_n, up_nc, cpy_nc, cpy_in, cpy_out, cpyOk_T, m1_lt, m1_le, m1_nle, m1_nlt, m1_eq, m1_eq2, m1_0le, Nat.add_zero, Nat.zero_add, Nat.mul_one, Nat.sub_zero, if_true, if_false, Nat.add_sub_cancel, Nat.add_sub_cancel_left, in_in, in_inN, iw_in, rq_in, pw_fold, nt_fold, ask_pw, has_eq, or_0, bt1, Bool.true_eq_false, Bool.false_eq_true, e6])
    refine h c ⟨fun r hr => ?_, fun i hi => ?_⟩
    · rw [hc, b_sb _ (by omega), decide_eq_true (rk_n hr), Bool.true_and, ra_rk hr]
    · rw [hc, b_sb _ (by omega), decide_eq_false (by omega), Bool.false_and]
  · apply h4
    obtain ⟨r, hr, rfl⟩ := hS k hk
    rw [ra_rk hr] at hp
    have hp := of_decide_eq_true hp
    have := hf2 r
    (try simp (disch := omega) only [String.reduceEq, isRu_1, isRu_61, isGr_3, isSt_0, isSt_6, lg_selfT, isB_0, isB_1, eq_self, true_or, or_true, false_or, or_false, or_self, fa_lit, nI_add, pk_mul, pk_sub, nI_addm, nI_leI, nI_ltI, nI_eqI, vp_inI, ix_nI, forall_eq, true_implies, false_implies, not_true_eq_false, not_false_eq_true, and_true, true_and, false_and, and_false, nle_T, nle_F, nlt_T, nlt_F, neq_T, neq_F, up_rd_s, up_rd_n, up_nc, cpy_nc, cpy_in, cpy_out, cpyOk_T, m1_lt, m1_le, m1_nle, m1_nlt, m1_eq, m1_eq2, m1_0le, Nat.add_zero, Nat.zero_add, Nat.mul_one, Nat.sub_zero, if_true, if_false, Nat.add_sub_cancel, Nat.add_sub_cancel_left, in_in, in_inN, iw_in, rq_in, pw_fold, nt_fold, ask_pw, has_eq, or_0, bt1, Bool.true_eq_false, Bool.false_eq_true, e6])
    refine X5_fit hl hT hr hv hV hA ?_
    (try simp (disch := omega) only [String.reduceEq, isRu_1, isRu_61, isGr_3, isSt_0, isSt_6, lg_selfT, isB_0, isB_1, eq_self, true_or, or_true, false_or, or_false, or_self, fa_lit, nI_add, pk_mul, pk_sub, nI_addm, nI_leI, nI_ltI, nI_eqI, vp_inI, ix_nI, forall_eq, true_implies, false_implies, not_true_eq_false, not_false_eq_true, and_true, true_and, false_and, and_false, nle_T, nle_F, nlt_T, nlt_F, neq_T, neq_F, up_rd_s, up_rd_n, up_nc, cpy_nc, cpy_in, cpy_out, cpyOk_T, m1_lt, m1_le, m1_nle, m1_nlt, m1_eq, m1_eq2, m1_0le, Nat.add_zero, Nat.zero_add, Nat.mul_one, Nat.sub_zero, if_true, if_false, Nat.add_sub_cancel, Nat.add_sub_cancel_left, in_in, in_inN, iw_in, rq_in, pw_fold, nt_fold, ask_pw, has_eq, or_0, bt1, Bool.true_eq_false, Bool.false_eq_true])
    exact hK
  · apply h4
    obtain ⟨r, hr, rfl⟩ := hS k hk
    rw [ra_rk hr] at hp
    have hp : fitN l vs r = 0 := Classical.not_not.mp (of_decide_eq_false hp)
    (try simp (disch := omega) only [String.reduceEq, isRu_1, isRu_61, isGr_3, isSt_0, isSt_6, lg_selfT, isB_0, isB_1, eq_self, true_or, or_true, false_or, or_false, or_self, fa_lit, nI_add, pk_mul, pk_sub, nI_addm, nI_leI, nI_ltI, nI_eqI, vp_inI, ix_nI, forall_eq, true_implies, false_implies, not_true_eq_false, not_false_eq_true, and_true, true_and, false_and, and_false, nle_T, nle_F, nlt_T, nlt_F, neq_T, neq_F, up_rd_s, up_rd_n, up_nc, cpy_nc, cpy_in, cpy_out, cpyOk_T, m1_lt, m1_le, m1_nle, m1_nlt, m1_eq, m1_eq2, m1_0le, Nat.add_zero, Nat.zero_add, Nat.mul_one, Nat.sub_zero, if_true, if_false, Nat.add_sub_cancel, Nat.add_sub_cancel_left, in_in, in_inN, iw_in, rq_in, pw_fold, nt_fold, ask_pw, has_eq, or_0, bt1, Bool.true_eq_false, Bool.false_eq_true, e6])
    refine X5_fit hl hT hr hv hV hA ?_
    (try simp (disch := omega) only [String.reduceEq, isRu_1, isRu_61, isGr_3, isSt_0, isSt_6, lg_selfT, isB_0, isB_1, eq_self, true_or, or_true, false_or, or_false, or_self, fa_lit, nI_add, pk_mul, pk_sub, nI_addm, nI_leI, nI_ltI, nI_eqI, vp_inI, ix_nI, forall_eq, true_implies, false_implies, not_true_eq_false, not_false_eq_true, and_true, true_and, false_and, and_false, nle_T, nle_F, nlt_T, nlt_F, neq_T, neq_F, up_rd_s, up_rd_n, up_nc, cpy_nc, cpy_in, cpy_out, cpyOk_T, m1_lt, m1_le, m1_nle, m1_nlt, m1_eq, m1_eq2, m1_0le, Nat.add_zero, Nat.zero_add, Nat.mul_one, Nat.sub_zero, if_true, if_false, Nat.add_sub_cancel, Nat.add_sub_cancel_left, in_in, in_inN, iw_in, rq_in, pw_fold, nt_fold, ask_pw, has_eq, or_0, bt1, Bool.true_eq_false, Bool.false_eq_true, hp])
    exact hK
def wyA (a : mA) (p : Nat) : Nat := (aCore a).2.2.1.getD p 0
theorem wyA_get {a : mA} (hw : WFA a) {p : Nat} (hp : p < 4) : (aCore a).2.2.1[p]? = some (wyA a p) ∧ wyA a p < 4 := by
  obtain ⟨c1, c2, c3, c4, c5, c6, c7, c8⟩ := hw.1
  have e := List.getElem?_eq_getElem (l := (aCore a).2.2.1) (i := p) (by rw [c6]; exact hp)
  have e2 : wyA a p = (aCore a).2.2.1[p]'(by rw [c6]; exact hp) := by
    unfold wyA
    rw [List.getD_eq_getElem?_getD, e]
    rfl
  rw [e, e2]
  exact ⟨rfl, c7 _ (List.getElem_mem _)⟩
theorem ways_E {a : mA} {σ : Sto} (hw : WFA a) (hE : RE a σ) : ∀ p, p < 4 → σ 5 p = nI (wyA a p) ∧ wyA a p < 4 := fun p hp => ⟨hE.1.2.2.2.2.1 p _ (wyA_get hw hp).1, (wyA_get hw hp).2⟩
theorem ways_M {a : mA} {σ : Sto} (hw : WFA a) (hM : RM a σ) : ∀ p, p < 4 → σ 88 (1 + p) = nI (wyA a p) ∧ wyA a p < 4 := by
  intro p hp
  refine ⟨?_, (wyA_get hw hp).2⟩
  have := hM.1.2.2.2.2.1 p _ (wyA_get hw hp).1
  exact (fcg (f := σ 88) (by omega)).trans this
def dpA (a : mA) (g : Nat → Nat) (p : Nat) : Nat := pdec (aCore a).1 (wyA a p) (ownG (aCore a).1 g p)
def UA (a : mA) : Int32 := usb (aCore a).2.1 (aClk a) (aSub a)
def dA (a : mA) (g : Nat → Nat) : Nat := decN (aCore a).2.2.2 (UA a) (dpA a g)
def oA (a : mA) (g : Nat → Nat) : Option Nat := decO (aCore a).1 (UA a) (dpA a g) (ownG (aCore a).1 g) (dA a g)
theorem dA_le (a : mA) (g : Nat → Nat) : dA a g ≤ 3 := decN_le (fun p => pdec_le)
theorem oA_lt {a : mA} {g : Nat → Nat} {r : Nat} (h : oA a g = some r) : r < (aCore a).1.length := by
  have key : ∀ e i, prm (aCore a).1 (UA a) (dpA a g) (ownG (aCore a).1 g) e i = some r → r < (aCore a).1.length := by
    intro e i hr
    unfold prm at hr
    cases hf : ft (fun p => bt (UA a) p && decide (dpA a g p = e)) i with
    | none => rw [hf] at hr; cases hr
    | some p =>
      rw [hf] at hr
      exact (bst_some.mp hr).1
  unfold oA decO at h
  by_cases d0 : dA a g = 0
  · rw [if_pos d0] at h; exact key _ _ h
  · rw [if_neg d0] at h
    by_cases d1 : dA a g = 1
    · rw [if_pos d1] at h; exact key _ _ h
    · rw [if_neg d1] at h; cases h
/-- the engine's way to a decision -/
theorem E_dec {a : mA} {σ : Sto} {Q : Int32 → Sto → Int32 → Sto → Prop} (hw : WFA a) (hE : RE a σ) (hF : FULL (aVal a)) (h : ∀ σ' : Sto, (∀ c, tbC c → c ≠ 78 → σ' c = σ c) → Q (nI (dA a (gv (aVal a)))) σ' (optI (oA a (gv (aVal a)))) σ') : D_X5_refresh σ (fun s19 => (D_X1_usable (s19 60 13) (s19 60 14) s19 (fun r34 s34 => (D_X5_matching 85 s34 (fun r46 s46 => (D_X5_decisionOf r46 r34 s46 (fun r56 s56 => (D_X5_deciderOf r46 r34 r56 s56 (fun r80 s80 => Q r56 s56 r80 s80))))))))) := by
  have hn : (aCore a).1.length ≤ 24 := hw.1.1
  have hA : VA (aVal a) := hw.2.2.2.2.2.1
  have hck : aClk a ≤ 2000 := hw.2.2.2.1
  have hsb : aSub a < 10 := hw.2.2.2.2.1
  refine X5_refresh (RLE_of hE) (RW_of hw) (fun σ1 f1 t1 => ?_)
  have f1' : ∀ c, c < 65 ∨ 69 < c → σ1 c = σ c := fun c hc => f1 c (by unfold tbC; omega)
  have e13 : σ1 60 13 = nI (aSub a) := by rw [f1' 60 (by omega)]; exact hE.2.2.2.2.1
  have e14 : σ1 60 14 = nI (aClk a) := by rw [f1' 60 (by omega)]; exact hE.2.2.2.1
  rw [e13, e14]
  refine X1_usable (GE_cg (f1' 3 (by omega)) (f1' 4 (by omega)) (GE_of hE)) (GW_of hw) (by omega) hsb (fun σ2 f2 => ?_)
  have t2 : TBL (aCore a).1 σ2 := TBL_cg (f2 65 (by omega)) (f2 66 (by omega)) (f2 67 (by omega)) (f2 68 (by omega)) (f2 69 (by omega)) t1
  have g2 : ∀ c, tbC c → c ≠ 78 → σ2 c = σ c := fun c c1 c2 => (f2 c c2).trans (f1 c c1)
  have g2' : ∀ c, c < 65 ∨ 69 < c → c ≠ 78 → σ2 c = σ c := fun c c1 c2 => (f2 c c2).trans (f1' c c1)
  refine X5_matching (vs := aVal a) hn t2 (Or.inl rfl) (by rw [g2' 85 (by omega) (by omega)]; exact hE.2.2.2.2.2.1) hA (fun X hX => ?_)
  have hO : ∀ p, p < 4 → bt (UA a) p = true → RS (aCore a).1 (X &&& σ2 69 p) (ownG (aCore a).1 (gv (aVal a)) p) := by
    intro p hp _
    refine RS_cg (RS_and hX (TBL_p t2 hp)) (fun r hr => ?_)
    rw [fit_full hF]
    unfold ownG
    rw [Bool.and_comm]
  have hwy : ∀ p, p < 4 → σ2 5 p = nI (wyA a p) ∧ wyA a p < 4 := by
    rw [g2' 5 (by omega) (by omega)]
    exact ways_E hw hE
  have htop : σ2 0 3 = nI (aCore a).2.2.2 := by
    rw [g2' 0 (by omega) (by omega)]
    exact hE.1.2.2.2.2.2
  refine X5_decisionOf (own := ownG (aCore a).1 (gv (aVal a))) (wy := wyA a) (top := (aCore a).2.2.2) (RW_of hw) t2 hO hwy htop hw.1.2.2.2.2.2.2.2 ?_
  exact X5_deciderOf (own := ownG (aCore a).1 (gv (aVal a))) (wy := wyA a) (RW_of hw) t2 hO hwy (dA_le a _) (h σ2 g2)
/-- the model lays its sets and takes the values -/
theorem X12_givesValues {l : List mRule} {σ : Sto} {P : Sto → Prop} (hR : RLM l σ) (hW : RW l) (h : ∀ σ' : Sto, (∀ c, c ≠ 93 → c ≠ 94 → σ' c = σ c) → MSE l σ' → (∀ a, a < 6 → σ' 94 a = σ 91 a) → P σ') : D_X12_givesValues σ P := by
  intro K6 h6
  refine X12_laySets hR hW (fun σ1 f1 t1 => ?_)
  refine lp 6 (fun i s => K6 (nI i) s) (fun i s => (∀ c, c ≠ 94 → s c = σ1 c) ∧ ∀ a, a < i → s 94 a = σ 91 a) ?_ ?_ σ1 ⟨fun _ _ => rfl, fun a ha => absurd ha (Nat.not_lt_zero _)⟩
  · intro s ⟨s1, s2⟩
    apply h6
    (try simp (disch := omega) only [String.reduceEq, isRu_1, isRu_61, isGr_3, isSt_0, isSt_6, lg_selfT, isB_0, isB_1, eq_self, true_or, or_true, false_or, or_false, or_self, fa_lit, nI_add, pk_mul, pk_sub, nI_addm, nI_leI, nI_ltI, nI_eqI, vp_inI, ix_nI, forall_eq, true_implies, false_implies, not_true_eq_false, not_false_eq_true, and_true, true_and, false_and, and_false, nle_T, nle_F, nlt_T, nlt_F, neq_T, neq_F, up_rd_s, up_rd_n, up_nc, cpy_nc, cpy_in, cpy_out, cpyOk_T, m1_lt, m1_le, m1_nle, m1_nlt, m1_eq, m1_eq2, m1_0le, Nat.add_zero, Nat.zero_add, Nat.mul_one, Nat.sub_zero, if_true, if_false, Nat.add_sub_cancel, Nat.add_sub_cancel_left, in_in, in_inN, iw_in, rq_in, pw_fold, nt_fold, ask_pw, has_eq, or_0, bt1, Bool.true_eq_false, Bool.false_eq_true])
    exact h s (fun c c1 c2 => (s1 c c2).trans (f1 c c1)) (fun r a hr ha => by rw [s1 93 (by omega)]; exact t1 r a hr ha) s2
  · intro i s hi ⟨s1, s2⟩ hnext
    apply h6
    (try simp (disch := omega) only [String.reduceEq, isRu_1, isRu_61, isGr_3, isSt_0, isSt_6, lg_selfT, isB_0, isB_1, eq_self, true_or, or_true, false_or, or_false, or_self, fa_lit, nI_add, pk_mul, pk_sub, nI_addm, nI_leI, nI_ltI, nI_eqI, vp_inI, ix_nI, forall_eq, true_implies, false_implies, not_true_eq_false, not_false_eq_true, and_true, true_and, false_and, and_false, nle_T, nle_F, nlt_T, nlt_F, neq_T, neq_F, up_rd_s, up_rd_n, up_nc, cpy_nc, cpy_in, cpy_out, cpyOk_T, m1_lt, m1_le, m1_nle, m1_nlt, m1_eq, m1_eq2, m1_0le, Nat.add_zero, Nat.zero_add, Nat.mul_one, Nat.sub_zero, if_true, if_false, Nat.add_sub_cancel, Nat.add_sub_cancel_left, in_in, in_inN, iw_in, rq_in, pw_fold, nt_fold, ask_pw, has_eq, or_0, bt1, Bool.true_eq_false, Bool.false_eq_true, s1 91 (by omega), f1 91 (by omega)])
    refine hnext _ ⟨fun c hc => ?_, fun a ha => ?_⟩
    · (try simp (disch := omega) only [String.reduceEq, isRu_1, isRu_61, isGr_3, isSt_0, isSt_6, lg_selfT, isB_0, isB_1, eq_self, true_or, or_true, false_or, or_false, or_self, fa_lit, nI_add, pk_mul, pk_sub, nI_addm, nI_leI, nI_ltI, nI_eqI, vp_inI, ix_nI, forall_eq, true_implies, false_implies, not_true_eq_false, not_false_eq_true, and_true, true_and, false_and, and_false, nle_T, nle_F, nlt_T, nlt_F, neq_T, neq_F, up_rd_s, up_rd_n, up_nc, cpy_nc, cpy_in, cpy_out, cpyOk_T, m1_lt, m1_le, m1_nle, m1_nlt, m1_eq, m1_eq2, m1_0le, Nat.add_zero, Nat.zero_add, Nat.mul_one, Nat.sub_zero, if_true, if_false, Nat.add_sub_cancel, Nat.add_sub_cancel_left, in_in, in_inN, iw_in, rq_in, pw_fold, nt_fold, ask_pw, has_eq, or_0, bt1, Bool.true_eq_false, Bool.false_eq_true])
      exact s1 c hc
    · by_cases e : a = i
      · subst e
        (try simp (disch := omega) only [String.reduceEq, isRu_1, isRu_61, isGr_3, isSt_0, isSt_6, lg_selfT, isB_0, isB_1, eq_self, true_or, or_true, false_or, or_false, or_self, fa_lit, nI_add, pk_mul, pk_sub, nI_addm, nI_leI, nI_ltI, nI_eqI, vp_inI, ix_nI, forall_eq, true_implies, false_implies, not_true_eq_false, not_false_eq_true, and_true, true_and, false_and, and_false, nle_T, nle_F, nlt_T, nlt_F, neq_T, neq_F, up_rd_s, up_rd_n, up_nc, cpy_nc, cpy_in, cpy_out, cpyOk_T, m1_lt, m1_le, m1_nle, m1_nlt, m1_eq, m1_eq2, m1_0le, Nat.add_zero, Nat.zero_add, Nat.mul_one, Nat.sub_zero, if_true, if_false, Nat.add_sub_cancel, Nat.add_sub_cancel_left, in_in, in_inN, iw_in, rq_in, pw_fold, nt_fold, ask_pw, has_eq, or_0, bt1, Bool.true_eq_false, Bool.false_eq_true])
      · (try simp (disch := omega) only [String.reduceEq, isRu_1, isRu_61, isGr_3, isSt_0, isSt_6, lg_selfT, isB_0, isB_1, eq_self, true_or, or_true, false_or, or_false, or_self, fa_lit, nI_add, pk_mul, pk_sub, nI_addm, nI_leI, nI_ltI, nI_eqI, vp_inI, ix_nI, forall_eq, true_implies, false_implies, not_true_eq_false, not_false_eq_true, and_true, true_and, false_and, and_false, nle_T, nle_F, nlt_T, nlt_F, neq_T, neq_F, up_rd_s, up_rd_n, up_nc, cpy_nc, cpy_in, cpy_out, cpyOk_T, m1_lt, m1_le, m1_nle, m1_nlt, m1_eq, m1_eq2, m1_0le, Nat.add_zero, Nat.zero_add, Nat.mul_one, Nat.sub_zero, if_true, if_false, Nat.add_sub_cancel, Nat.add_sub_cancel_left, in_in, in_inN, iw_in, rq_in, pw_fold, nt_fold, ask_pw, has_eq, or_0, bt1, Bool.true_eq_false, Bool.false_eq_true])
        exact s2 a (by omega)
theorem GIV_of {vs : List (Option Nat)} {f : Nat → Int32} {σ' : Sto} (hV : ValsAt f vs) (hA : VA vs) (hF : FULL vs) (h : ∀ a, a < 6 → σ' 94 a = f a) : GIV (gv vs) σ' := by
  intro a ha
  rw [h a ha]
  rcases vAt hV hA.1 hA.2 ha with ⟨-, e2, -⟩ | ⟨w, hw, e1, e2, e3⟩
  · rw [hF a ha] at e2
    cases e2
  · have : gv vs a = w := by
      unfold gv
      rw [e3]
      rfl
    rw [this]
    exact ⟨e1, hw⟩
theorem X12_decided {a : mA} {σ : Sto} {P : Int32 → Sto → Prop} (hw : WFA a) (hM : RM a σ) (hF : FULL (aVal a))
    (h : ∀ σ' : Sto, (∀ c, c < 92 ∨ 95 < c → c ≠ 87 → σ' c = σ c) → (∀ f, f ≠ 13 → f ≠ 14 → σ' 87 f = σ 87 f) → σ' 87 14 = optI (oA a (gv (aVal a))) → P (nI (dA a (gv (aVal a)))) σ') : D_X12_decided σ P := by
  unfold D_X12_decided
  have hA : VA (aVal a) := hw.2.2.2.2.2.1
  have hck : aClk a ≤ 2000 := hw.2.2.2.1
  have hsb : aSub a < 10 := hw.2.2.2.2.1
  refine X12_givesValues (RLM_of hM) (RW_of hw) (fun σ1 f1 t1 v1 => ?_)
  have f1' : ∀ c, c < 92 ∨ 95 < c → σ1 c = σ c := fun c hc => f1 c (by omega) (by omega)
  have e6 : σ1 87 6 = nI (aSub a) := by rw [f1' 87 (by omega)]; exact hM.2.2.2.2.1
  rw [e6]
  refine X12_usedBy (t := aClk a) (GMo_cg (f1' 88 (by omega)) (GM_of hM)) (GW_of hw) (by omega) hsb (by rw [f1' 87 (by omega)]; exact hM.2.2.2.1) (fun σ2 f2 => ?_)
  refine X12_decisionBy (g := gv (aVal a)) (wy := wyA a) (top := (aCore a).2.2.2) (RLM_cg (by rw [f2 88 (by omega), f1' 88 (by omega)]) (RLM_of hM)) (RW_of hw) (fun r a hr ha => by rw [f2 93 (by omega)]; exact t1 r a hr ha) (GIV_of hM.2.2.2.2.2.1 hA hF (fun a ha => by rw [f2 94 (by omega)]; exact v1 a ha)) ?_ ?_ hw.1.2.2.2.2.2.2.2 (fun σ3 f3 f3b k3 => ?_)
  · rw [f2 88 (by omega), f1' 88 (by omega)]
    exact ways_M hw hM
  · rw [f2 88 (by omega), f1' 88 (by omega)]
    exact hM.1.2.2.2.2.2
  · refine h σ3 (fun c c1 c2 => ?_) (fun f g1 g2 => ?_) k3
    · rw [f3 c (by omega) c2, f2 c (by omega), f1' c c1]
    · rw [f3b f g1 g2, f2 87 (by omega), f1' 87 (by omega)]
theorem full_unk {vs : List (Option Nat)} : sb (aUnk vs) 6 = nI 0 ↔ FULL vs := sb_0 (by decide)
theorem o_26 {xs : Nat → Int32} {i : Nat} {σ : Sto} {x : XP} {P : Sto → XP → Prop} (hI : Inv σ) (h : ∀ σ' x', Inv σ' → P σ' x') : DL_26 xs i σ x P := by
  obtain ⟨a, hw, hE, hM⟩ := hI
  unfold DL_26 D_L_policyDecision D_X11_policyDecision D_X12_policyDecision D_X12_thrown D_X12_isPolicy D_X11_requireState
  generalize xs (i + 1) = a1
  have hn : (aCore a).1.length ≤ 24 := hw.1.1
  have hA : VA (aVal a) := hw.2.2.2.2.2.1
  rcases rg a1 (n := 4) (by decide) with h1 | ⟨p, hp, rfl⟩
  · (try simp (disch := omega) only [String.reduceEq, isRu_1, isRu_61, isGr_3, isSt_0, isSt_6, lg_selfT, isB_0, isB_1, eq_self, true_or, or_true, false_or, or_false, or_self, fa_lit, nI_add, pk_mul, pk_sub, nI_addm, nI_leI, nI_ltI, nI_eqI, vp_inI, ix_nI, forall_eq, true_implies, false_implies, not_true_eq_false, not_false_eq_true, and_true, true_and, false_and, and_false, nle_T, nle_F, nlt_T, nlt_F, neq_T, neq_F, up_rd_s, up_rd_n, up_nc, cpy_nc, cpy_in, cpy_out, cpyOk_T, m1_lt, m1_le, m1_nle, m1_nlt, m1_eq, m1_eq2, m1_0le, Nat.add_zero, Nat.zero_add, Nat.mul_one, Nat.sub_zero, if_true, if_false, Nat.add_sub_cancel, Nat.add_sub_cancel_left, in_in, in_inN, iw_in, rq_in, pw_fold, nt_fold, ask_pw, has_eq, or_0, bt1, Bool.true_eq_false, Bool.false_eq_true, rq_out h1, in_out (n := 4) rfl (by decide) h1])
    exact h _ _ (inv_th hw hE hM _)
  (try simp (disch := omega) only [String.reduceEq, isRu_1, isRu_61, isGr_3, isSt_0, isSt_6, lg_selfT, isB_0, isB_1, eq_self, true_or, or_true, false_or, or_false, or_self, fa_lit, nI_add, pk_mul, pk_sub, nI_addm, nI_leI, nI_ltI, nI_eqI, vp_inI, ix_nI, forall_eq, true_implies, false_implies, not_true_eq_false, not_false_eq_true, and_true, true_and, false_and, and_false, nle_T, nle_F, nlt_T, nlt_F, neq_T, neq_F, up_rd_s, up_rd_n, up_nc, cpy_nc, cpy_in, cpy_out, cpyOk_T, m1_lt, m1_le, m1_nle, m1_nlt, m1_eq, m1_eq2, m1_0le, Nat.add_zero, Nat.zero_add, Nat.mul_one, Nat.sub_zero, if_true, if_false, Nat.add_sub_cancel, Nat.add_sub_cancel_left, in_in, in_inN, iw_in, rq_in, pw_fold, nt_fold, ask_pw, has_eq, or_0, bt1, Bool.true_eq_false, Bool.false_eq_true])
  refine X11_unknown (l := aVal a) hE.2.2.2.2.2.1 hA.1 hA.2 ?_
  by_cases hu : sb (aUnk (aVal a)) 6 = nI 0
  · have hF := full_unk.mp hu
    (try simp (disch := omega) only [String.reduceEq, isRu_1, isRu_61, isGr_3, isSt_0, isSt_6, lg_selfT, isB_0, isB_1, eq_self, true_or, or_true, false_or, or_false, or_self, fa_lit, nI_add, pk_mul, pk_sub, nI_addm, nI_leI, nI_ltI, nI_eqI, vp_inI, ix_nI, forall_eq, true_implies, false_implies, not_true_eq_false, not_false_eq_true, and_true, true_and, false_and, and_false, nle_T, nle_F, nlt_T, nlt_F, neq_T, neq_F, up_rd_s, up_rd_n, up_nc, cpy_nc, cpy_in, cpy_out, cpyOk_T, m1_lt, m1_le, m1_nle, m1_nlt, m1_eq, m1_eq2, m1_0le, Nat.add_zero, Nat.zero_add, Nat.mul_one, Nat.sub_zero, if_true, if_false, Nat.add_sub_cancel, Nat.add_sub_cancel_left, in_in, in_inN, iw_in, rq_in, pw_fold, nt_fold, ask_pw, has_eq, or_0, bt1, Bool.true_eq_false, Bool.false_eq_true, hu])
    refine X5_refresh (RLE_of hE) (RW_of hw) (fun σ1 f1 t1 => ?_)
    have f1' : ∀ c, c < 65 ∨ 69 < c → σ1 c = σ c := fun c hc => f1 c (by unfold tbC; omega)
    refine X5_matching (vs := aVal a) hn t1 (Or.inl rfl) (by rw [f1' 85 (by omega)]; exact hE.2.2.2.2.2.1) hA (fun X hX => ?_)
    have hO : RS (aCore a).1 (X &&& σ1 69 p) (ownG (aCore a).1 (gv (aVal a)) p) := by
      refine RS_cg (RS_and hX (TBL_p t1 hp)) (fun r hr => ?_)
      rw [fit_full hF]
      unfold ownG
      rw [Bool.and_comm]
    have hwy := ways_E hw hE p hp
    refine X5_policyDecisionOf (own := ownG (aCore a).1 (gv (aVal a)) p) (way := wyA a p) (RW_of hw) t1 hp hO (by rw [f1' 5 (by omega)]; exact hwy.1) hwy.2 ?_
    (try simp (disch := omega) only [String.reduceEq, isRu_1, isRu_61, isGr_3, isSt_0, isSt_6, lg_selfT, isB_0, isB_1, eq_self, true_or, or_true, false_or, or_false, or_self, fa_lit, nI_add, pk_mul, pk_sub, nI_addm, nI_leI, nI_ltI, nI_eqI, vp_inI, ix_nI, forall_eq, true_implies, false_implies, not_true_eq_false, not_false_eq_true, and_true, true_and, false_and, and_false, nle_T, nle_F, nlt_T, nlt_F, neq_T, neq_F, up_rd_s, up_rd_n, up_nc, cpy_nc, cpy_in, cpy_out, cpyOk_T, m1_lt, m1_le, m1_nle, m1_nlt, m1_eq, m1_eq2, m1_0le, Nat.add_zero, Nat.zero_add, Nat.mul_one, Nat.sub_zero, if_true, if_false, Nat.add_sub_cancel, Nat.add_sub_cancel_left, in_in, in_inN, iw_in, rq_in, pw_fold, nt_fold, ask_pw, has_eq, or_0, bt1, Bool.true_eq_false, Bool.false_eq_true])
    refine X12_unknownSet (l := aVal a) (by rw [f1' 91 (by omega)]; exact hM.2.2.2.2.2.1) hA.1 hA.2 ?_
    (try simp (disch := omega) only [String.reduceEq, isRu_1, isRu_61, isGr_3, isSt_0, isSt_6, lg_selfT, isB_0, isB_1, eq_self, true_or, or_true, false_or, or_false, or_self, fa_lit, nI_add, pk_mul, pk_sub, nI_addm, nI_leI, nI_ltI, nI_eqI, vp_inI, ix_nI, forall_eq, true_implies, false_implies, not_true_eq_false, not_false_eq_true, and_true, true_and, false_and, and_false, nle_T, nle_F, nlt_T, nlt_F, neq_T, neq_F, up_rd_s, up_rd_n, up_nc, cpy_nc, cpy_in, cpy_out, cpyOk_T, m1_lt, m1_le, m1_nle, m1_nlt, m1_eq, m1_eq2, m1_0le, Nat.add_zero, Nat.zero_add, Nat.mul_one, Nat.sub_zero, if_true, if_false, Nat.add_sub_cancel, Nat.add_sub_cancel_left, in_in, in_inN, iw_in, rq_in, pw_fold, nt_fold, ask_pw, has_eq, or_0, bt1, Bool.true_eq_false, Bool.false_eq_true, hu])
    have hM1 : RM a (up σ1 87 8 (nI 0)) := RM_th (RM_low (fun k hk => f1' k (by omega)) hM) _
    refine X12_givesValues (RLM_of hM1) (RW_of hw) (fun σ2 f2 t2 v2 => ?_)
    refine X12_decisionOf (g := gv (aVal a)) (way := wyA a p) (RLM_cg (f2 88 (by omega) (by omega)) (RLM_of hM1)) (RW_of hw) t2 (GIV_of hM1.2.2.2.2.2.1 hA hF v2) hp (by rw [f2 88 (by omega) (by omega)]; exact (ways_M hw hM1 p hp).1) hwy.2 (fun σ3 f3 f3b _ _ => ?_)
    have e8 : σ3 87 8 = nI 0 := by rw [f3b 8 (by omega), f2 87 (by omega) (by omega), up_at]
    (try simp (disch := omega) only [String.reduceEq, isRu_1, isRu_61, isGr_3, isSt_0, isSt_6, lg_selfT, isB_0, isB_1, eq_self, true_or, or_true, false_or, or_false, or_self, fa_lit, nI_add, pk_mul, pk_sub, nI_addm, nI_leI, nI_ltI, nI_eqI, vp_inI, ix_nI, forall_eq, true_implies, false_implies, not_true_eq_false, not_false_eq_true, and_true, true_and, false_and, and_false, nle_T, nle_F, nlt_T, nlt_F, neq_T, neq_F, up_rd_s, up_rd_n, up_nc, cpy_nc, cpy_in, cpy_out, cpyOk_T, m1_lt, m1_le, m1_nle, m1_nlt, m1_eq, m1_eq2, m1_0le, Nat.add_zero, Nat.zero_add, Nat.mul_one, Nat.sub_zero, if_true, if_false, Nat.add_sub_cancel, Nat.add_sub_cancel_left, in_in, in_inN, iw_in, rq_in, pw_fold, nt_fold, ask_pw, has_eq, or_0, bt1, Bool.true_eq_false, Bool.false_eq_true, e8])
    refine h _ _ (inv_scr hw hE hM (fun k hk => ?_) (fun k hk => ?_) (fun f hf => ?_))
    · unfold reC at hk; rw [f3 k (by omega) (by omega), f2 k (by omega) (by omega)]; (try simp (disch := omega) only [String.reduceEq, isRu_1, isRu_61, isGr_3, isSt_0, isSt_6, lg_selfT, isB_0, isB_1, eq_self, true_or, or_true, false_or, or_false, or_self, fa_lit, nI_add, pk_mul, pk_sub, nI_addm, nI_leI, nI_ltI, nI_eqI, vp_inI, ix_nI, forall_eq, true_implies, false_implies, not_true_eq_false, not_false_eq_true, and_true, true_and, false_and, and_false, nle_T, nle_F, nlt_T, nlt_F, neq_T, neq_F, up_rd_s, up_rd_n, up_nc, cpy_nc, cpy_in, cpy_out, cpyOk_T, m1_lt, m1_le, m1_nle, m1_nlt, m1_eq, m1_eq2, m1_0le, Nat.add_zero, Nat.zero_add, Nat.mul_one, Nat.sub_zero, if_true, if_false, Nat.add_sub_cancel, Nat.add_sub_cancel_left, in_in, in_inN, iw_in, rq_in, pw_fold, nt_fold, ask_pw, has_eq, or_0, bt1, Bool.true_eq_false, Bool.false_eq_true]); exact f1' k (by omega)
    · unfold rmC at hk; rw [f3 k (by omega) (by omega), f2 k (by omega) (by omega)]; (try simp (disch := omega) only [String.reduceEq, isRu_1, isRu_61, isGr_3, isSt_0, isSt_6, lg_selfT, isB_0, isB_1, eq_self, true_or, or_true, false_or, or_false, or_self, fa_lit, nI_add, pk_mul, pk_sub, nI_addm, nI_leI, nI_ltI, nI_eqI, vp_inI, ix_nI, forall_eq, true_implies, false_implies, not_true_eq_false, not_false_eq_true, and_true, true_and, false_and, and_false, nle_T, nle_F, nlt_T, nlt_F, neq_T, neq_F, up_rd_s, up_rd_n, up_nc, cpy_nc, cpy_in, cpy_out, cpyOk_T, m1_lt, m1_le, m1_nle, m1_nlt, m1_eq, m1_eq2, m1_0le, Nat.add_zero, Nat.zero_add, Nat.mul_one, Nat.sub_zero, if_true, if_false, Nat.add_sub_cancel, Nat.add_sub_cancel_left, in_in, in_inN, iw_in, rq_in, pw_fold, nt_fold, ask_pw, has_eq, or_0, bt1, Bool.true_eq_false, Bool.false_eq_true]); exact f1' k (by omega)
    · unfold rmF at hf; rw [f3b f (by omega), f2 87 (by omega) (by omega)]; (try simp (disch := omega) only [String.reduceEq, isRu_1, isRu_61, isGr_3, isSt_0, isSt_6, lg_selfT, isB_0, isB_1, eq_self, true_or, or_true, false_or, or_false, or_self, fa_lit, nI_add, pk_mul, pk_sub, nI_addm, nI_leI, nI_ltI, nI_eqI, vp_inI, ix_nI, forall_eq, true_implies, false_implies, not_true_eq_false, not_false_eq_true, and_true, true_and, false_and, and_false, nle_T, nle_F, nlt_T, nlt_F, neq_T, neq_F, up_rd_s, up_rd_n, up_nc, cpy_nc, cpy_in, cpy_out, cpyOk_T, m1_lt, m1_le, m1_nle, m1_nlt, m1_eq, m1_eq2, m1_0le, Nat.add_zero, Nat.zero_add, Nat.mul_one, Nat.sub_zero, if_true, if_false, Nat.add_sub_cancel, Nat.add_sub_cancel_left, in_in, in_inN, iw_in, rq_in, pw_fold, nt_fold, ask_pw, has_eq, or_0, bt1, Bool.true_eq_false, Bool.false_eq_true]); rw [f1' 87 (by omega)]
  · (try simp (disch := omega) only [String.reduceEq, isRu_1, isRu_61, isGr_3, isSt_0, isSt_6, lg_selfT, isB_0, isB_1, eq_self, true_or, or_true, false_or, or_false, or_self, fa_lit, nI_add, pk_mul, pk_sub, nI_addm, nI_leI, nI_ltI, nI_eqI, vp_inI, ix_nI, forall_eq, true_implies, false_implies, not_true_eq_false, not_false_eq_true, and_true, true_and, false_and, and_false, nle_T, nle_F, nlt_T, nlt_F, neq_T, neq_F, up_rd_s, up_rd_n, up_nc, cpy_nc, cpy_in, cpy_out, cpyOk_T, m1_lt, m1_le, m1_nle, m1_nlt, m1_eq, m1_eq2, m1_0le, Nat.add_zero, Nat.zero_add, Nat.mul_one, Nat.sub_zero, if_true, if_false, Nat.add_sub_cancel, Nat.add_sub_cancel_left, in_in, in_inN, iw_in, rq_in, pw_fold, nt_fold, ask_pw, has_eq, or_0, bt1, Bool.true_eq_false, Bool.false_eq_true, hu])
    refine X12_unknownSet (l := aVal a) hM.2.2.2.2.2.1 hA.1 hA.2 ?_
    (try simp (disch := omega) only [String.reduceEq, isRu_1, isRu_61, isGr_3, isSt_0, isSt_6, lg_selfT, isB_0, isB_1, eq_self, true_or, or_true, false_or, or_false, or_self, fa_lit, nI_add, pk_mul, pk_sub, nI_addm, nI_leI, nI_ltI, nI_eqI, vp_inI, ix_nI, forall_eq, true_implies, false_implies, not_true_eq_false, not_false_eq_true, and_true, true_and, false_and, and_false, nle_T, nle_F, nlt_T, nlt_F, neq_T, neq_F, up_rd_s, up_rd_n, up_nc, cpy_nc, cpy_in, cpy_out, cpyOk_T, m1_lt, m1_le, m1_nle, m1_nlt, m1_eq, m1_eq2, m1_0le, Nat.add_zero, Nat.zero_add, Nat.mul_one, Nat.sub_zero, if_true, if_false, Nat.add_sub_cancel, Nat.add_sub_cancel_left, in_in, in_inN, iw_in, rq_in, pw_fold, nt_fold, ask_pw, has_eq, or_0, bt1, Bool.true_eq_false, Bool.false_eq_true, hu])
    exact h _ _ (inv_th hw hE hM _)
theorem o_25 {xs : Nat → Int32} {i : Nat} {σ : Sto} {x : XP} {P : Sto → XP → Prop} (hI : Inv σ) (h : ∀ σ' x', Inv σ' → P σ' x') : DL_25 xs i σ x P := by
  obtain ⟨a, hw, hE, hM⟩ := hI
  unfold DL_25 D_L_decidingRule D_X11_decidingRule D_X12_decidingRule D_X12_thrown D_X12_fails D_X11_requireElement D_X11_requireState
  have hn : (aCore a).1.length ≤ 24 := hw.1.1
  have hA : VA (aVal a) := hw.2.2.2.2.2.1
  intro K12 h12
  refine X11_unknown (l := aVal a) hE.2.2.2.2.2.1 hA.1 hA.2 ?_
  by_cases hu : sb (aUnk (aVal a)) 6 = nI 0
  · have hF := full_unk.mp hu
    (try simp (disch := omega) only [String.reduceEq, isRu_1, isRu_61, isGr_3, isSt_0, isSt_6, lg_selfT, isB_0, isB_1, eq_self, true_or, or_true, false_or, or_false, or_self, fa_lit, nI_add, pk_mul, pk_sub, nI_addm, nI_leI, nI_ltI, nI_eqI, vp_inI, ix_nI, forall_eq, true_implies, false_implies, not_true_eq_false, not_false_eq_true, and_true, true_and, false_and, and_false, nle_T, nle_F, nlt_T, nlt_F, neq_T, neq_F, up_rd_s, up_rd_n, up_nc, cpy_nc, cpy_in, cpy_out, cpyOk_T, m1_lt, m1_le, m1_nle, m1_nlt, m1_eq, m1_eq2, m1_0le, Nat.add_zero, Nat.zero_add, Nat.mul_one, Nat.sub_zero, if_true, if_false, Nat.add_sub_cancel, Nat.add_sub_cancel_left, in_in, in_inN, iw_in, rq_in, pw_fold, nt_fold, ask_pw, has_eq, or_0, bt1, Bool.true_eq_false, Bool.false_eq_true, hu])
    apply h12
    (try simp (disch := omega) only [String.reduceEq, isRu_1, isRu_61, isGr_3, isSt_0, isSt_6, lg_selfT, isB_0, isB_1, eq_self, true_or, or_true, false_or, or_false, or_self, fa_lit, nI_add, pk_mul, pk_sub, nI_addm, nI_leI, nI_ltI, nI_eqI, vp_inI, ix_nI, forall_eq, true_implies, false_implies, not_true_eq_false, not_false_eq_true, and_true, true_and, false_and, and_false, nle_T, nle_F, nlt_T, nlt_F, neq_T, neq_F, up_rd_s, up_rd_n, up_nc, cpy_nc, cpy_in, cpy_out, cpyOk_T, m1_lt, m1_le, m1_nle, m1_nlt, m1_eq, m1_eq2, m1_0le, Nat.add_zero, Nat.zero_add, Nat.mul_one, Nat.sub_zero, if_true, if_false, Nat.add_sub_cancel, Nat.add_sub_cancel_left, in_in, in_inN, iw_in, rq_in, pw_fold, nt_fold, ask_pw, has_eq, or_0, bt1, Bool.true_eq_false, Bool.false_eq_true])
    refine E_dec hw hE hF (fun σ1 f1 => ?_)
    have f1' : ∀ c, c < 65 ∨ 69 < c → c ≠ 78 → σ1 c = σ c := fun c hc hc2 => f1 c (by unfold tbC; omega) hc2
    have hM1 : RM a (up σ1 87 8 (nI 0)) := RM_th (RM_low (fun k hk => f1' k (by omega) (by omega)) hM) _
    have mo : ∀ (Q : Int32 → Sto → Prop), (∀ σ3 : Sto, (∀ c, c < 92 ∨ 95 < c → c ≠ 87 → σ3 c = (up σ1 87 8 (nI 0)) c) → (∀ f, f ≠ 13 → f ≠ 14 → σ3 87 f = (up σ1 87 8 (nI 0)) 87 f) → σ3 87 14 = optI (oA a (gv (aVal a))) → Q (nI (dA a (gv (aVal a)))) σ3) → D_X12_unknownSet (up σ1 87 8 (nI 0)) (fun r6 s6 => ((r6 = nI 0 → (D_X12_decided s6 Q)) ∧ (¬ r6 = nI 0 → False))) := by
      intro Q hQ
      refine X12_unknownSet (l := aVal a) hM1.2.2.2.2.2.1 hA.1 hA.2 ?_
      rw [hu]
      exact bq_t rfl (X12_decided hw hM1 hF hQ)
    have fin : ∀ (σ3 : Sto) (v : Int32) (x' : XP), (∀ c, c < 92 ∨ 95 < c → c ≠ 87 → σ3 c = (up σ1 87 8 (nI 0)) c) → (∀ f, f ≠ 13 → f ≠ 14 → σ3 87 f = (up σ1 87 8 (nI 0)) 87 f) → P (up σ3 87 8 v) x' := by
      intro σ3 v x' f3 f3b
      refine h _ _ (inv_scr hw hE hM (fun k hk => ?_) (fun k hk => ?_) (fun f hf => ?_))
      · unfold reC at hk; (try simp (disch := omega) only [String.reduceEq, isRu_1, isRu_61, isGr_3, isSt_0, isSt_6, lg_selfT, isB_0, isB_1, eq_self, true_or, or_true, false_or, or_false, or_self, fa_lit, nI_add, pk_mul, pk_sub, nI_addm, nI_leI, nI_ltI, nI_eqI, vp_inI, ix_nI, forall_eq, true_implies, false_implies, not_true_eq_false, not_false_eq_true, and_true, true_and, false_and, and_false, nle_T, nle_F, nlt_T, nlt_F, neq_T, neq_F, up_rd_s, up_rd_n, up_nc, cpy_nc, cpy_in, cpy_out, cpyOk_T, m1_lt, m1_le, m1_nle, m1_nlt, m1_eq, m1_eq2, m1_0le, Nat.add_zero, Nat.zero_add, Nat.mul_one, Nat.sub_zero, if_true, if_false, Nat.add_sub_cancel, Nat.add_sub_cancel_left, in_in, in_inN, iw_in, rq_in, pw_fold, nt_fold, ask_pw, has_eq, or_0, bt1, Bool.true_eq_false, Bool.false_eq_true]); rw [f3 k (by omega) (by omega)]; (try simp (disch := omega) only [String.reduceEq, isRu_1, isRu_61, isGr_3, isSt_0, isSt_6, lg_selfT, isB_0, isB_1, eq_self, true_or, or_true, false_or, or_false, or_self, fa_lit, nI_add, pk_mul, pk_sub, nI_addm, nI_leI, nI_ltI, nI_eqI, vp_inI, ix_nI, forall_eq, true_implies, false_implies, not_true_eq_false, not_false_eq_true, and_true, true_and, false_and, and_false, nle_T, nle_F, nlt_T, nlt_F, neq_T, neq_F, up_rd_s, up_rd_n, up_nc, cpy_nc, cpy_in, cpy_out, cpyOk_T, m1_lt, m1_le, m1_nle, m1_nlt, m1_eq, m1_eq2, m1_0le, Nat.add_zero, Nat.zero_add, Nat.mul_one, Nat.sub_zero, if_true, if_false, Nat.add_sub_cancel, Nat.add_sub_cancel_left, in_in, in_inN, iw_in, rq_in, pw_fold, nt_fold, ask_pw, has_eq, or_0, bt1, Bool.true_eq_false, Bool.false_eq_true]); exact f1' k (by omega) (by omega)
      · unfold rmC at hk; (try simp (disch := omega) only [String.reduceEq, isRu_1, isRu_61, isGr_3, isSt_0, isSt_6, lg_selfT, isB_0, isB_1, eq_self, true_or, or_true, false_or, or_false, or_self, fa_lit, nI_add, pk_mul, pk_sub, nI_addm, nI_leI, nI_ltI, nI_eqI, vp_inI, ix_nI, forall_eq, true_implies, false_implies, not_true_eq_false, not_false_eq_true, and_true, true_and, false_and, and_false, nle_T, nle_F, nlt_T, nlt_F, neq_T, neq_F, up_rd_s, up_rd_n, up_nc, cpy_nc, cpy_in, cpy_out, cpyOk_T, m1_lt, m1_le, m1_nle, m1_nlt, m1_eq, m1_eq2, m1_0le, Nat.add_zero, Nat.zero_add, Nat.mul_one, Nat.sub_zero, if_true, if_false, Nat.add_sub_cancel, Nat.add_sub_cancel_left, in_in, in_inN, iw_in, rq_in, pw_fold, nt_fold, ask_pw, has_eq, or_0, bt1, Bool.true_eq_false, Bool.false_eq_true]); rw [f3 k (by omega) (by omega)]; (try simp (disch := omega) only [String.reduceEq, isRu_1, isRu_61, isGr_3, isSt_0, isSt_6, lg_selfT, isB_0, isB_1, eq_self, true_or, or_true, false_or, or_false, or_self, fa_lit, nI_add, pk_mul, pk_sub, nI_addm, nI_leI, nI_ltI, nI_eqI, vp_inI, ix_nI, forall_eq, true_implies, false_implies, not_true_eq_false, not_false_eq_true, and_true, true_and, false_and, and_false, nle_T, nle_F, nlt_T, nlt_F, neq_T, neq_F, up_rd_s, up_rd_n, up_nc, cpy_nc, cpy_in, cpy_out, cpyOk_T, m1_lt, m1_le, m1_nle, m1_nlt, m1_eq, m1_eq2, m1_0le, Nat.add_zero, Nat.zero_add, Nat.mul_one, Nat.sub_zero, if_true, if_false, Nat.add_sub_cancel, Nat.add_sub_cancel_left, in_in, in_inN, iw_in, rq_in, pw_fold, nt_fold, ask_pw, has_eq, or_0, bt1, Bool.true_eq_false, Bool.false_eq_true]); exact f1' k (by omega) (by omega)
      · unfold rmF at hf; (try simp (disch := omega) only [String.reduceEq, isRu_1, isRu_61, isGr_3, isSt_0, isSt_6, lg_selfT, isB_0, isB_1, eq_self, true_or, or_true, false_or, or_false, or_self, fa_lit, nI_add, pk_mul, pk_sub, nI_addm, nI_leI, nI_ltI, nI_eqI, vp_inI, ix_nI, forall_eq, true_implies, false_implies, not_true_eq_false, not_false_eq_true, and_true, true_and, false_and, and_false, nle_T, nle_F, nlt_T, nlt_F, neq_T, neq_F, up_rd_s, up_rd_n, up_nc, cpy_nc, cpy_in, cpy_out, cpyOk_T, m1_lt, m1_le, m1_nle, m1_nlt, m1_eq, m1_eq2, m1_0le, Nat.add_zero, Nat.zero_add, Nat.mul_one, Nat.sub_zero, if_true, if_false, Nat.add_sub_cancel, Nat.add_sub_cancel_left, in_in, in_inN, iw_in, rq_in, pw_fold, nt_fold, ask_pw, has_eq, or_0, bt1, Bool.true_eq_false, Bool.false_eq_true]); rw [f3b f (by omega) (by omega)]; (try simp (disch := omega) only [String.reduceEq, isRu_1, isRu_61, isGr_3, isSt_0, isSt_6, lg_selfT, isB_0, isB_1, eq_self, true_or, or_true, false_or, or_false, or_self, fa_lit, nI_add, pk_mul, pk_sub, nI_addm, nI_leI, nI_ltI, nI_eqI, vp_inI, ix_nI, forall_eq, true_implies, false_implies, not_true_eq_false, not_false_eq_true, and_true, true_and, false_and, and_false, nle_T, nle_F, nlt_T, nlt_F, neq_T, neq_F, up_rd_s, up_rd_n, up_nc, cpy_nc, cpy_in, cpy_out, cpyOk_T, m1_lt, m1_le, m1_nle, m1_nlt, m1_eq, m1_eq2, m1_0le, Nat.add_zero, Nat.zero_add, Nat.mul_one, Nat.sub_zero, if_true, if_false, Nat.add_sub_cancel, Nat.add_sub_cancel_left, in_in, in_inN, iw_in, rq_in, pw_fold, nt_fold, ask_pw, has_eq, or_0, bt1, Bool.true_eq_false, Bool.false_eq_true]); rw [f1' 87 (by omega) (by omega)]
    have fin0 : ∀ (σ3 : Sto) (x' : XP), (∀ c, c < 92 ∨ 95 < c → c ≠ 87 → σ3 c = (up σ1 87 8 (nI 0)) c) → (∀ f, f ≠ 13 → f ≠ 14 → σ3 87 f = (up σ1 87 8 (nI 0)) 87 f) → P σ3 x' := by
      intro σ3 x' f3 f3b
      refine h _ _ (inv_scr hw hE hM (fun k hk => ?_) (fun k hk => ?_) (fun f hf => ?_))
      · unfold reC at hk; rw [f3 k (by omega) (by omega)]; (try simp (disch := omega) only [String.reduceEq, isRu_1, isRu_61, isGr_3, isSt_0, isSt_6, lg_selfT, isB_0, isB_1, eq_self, true_or, or_true, false_or, or_false, or_self, fa_lit, nI_add, pk_mul, pk_sub, nI_addm, nI_leI, nI_ltI, nI_eqI, vp_inI, ix_nI, forall_eq, true_implies, false_implies, not_true_eq_false, not_false_eq_true, and_true, true_and, false_and, and_false, nle_T, nle_F, nlt_T, nlt_F, neq_T, neq_F, up_rd_s, up_rd_n, up_nc, cpy_nc, cpy_in, cpy_out, cpyOk_T, m1_lt, m1_le, m1_nle, m1_nlt, m1_eq, m1_eq2, m1_0le, Nat.add_zero, Nat.zero_add, Nat.mul_one, Nat.sub_zero, if_true, if_false, Nat.add_sub_cancel, Nat.add_sub_cancel_left, in_in, in_inN, iw_in, rq_in, pw_fold, nt_fold, ask_pw, has_eq, or_0, bt1, Bool.true_eq_false, Bool.false_eq_true]); exact f1' k (by omega) (by omega)
      · unfold rmC at hk; rw [f3 k (by omega) (by omega)]; (try simp (disch := omega) only [String.reduceEq, isRu_1, isRu_61, isGr_3, isSt_0, isSt_6, lg_selfT, isB_0, isB_1, eq_self, true_or, or_true, false_or, or_false, or_self, fa_lit, nI_add, pk_mul, pk_sub, nI_addm, nI_leI, nI_ltI, nI_eqI, vp_inI, ix_nI, forall_eq, true_implies, false_implies, not_true_eq_false, not_false_eq_true, and_true, true_and, false_and, and_false, nle_T, nle_F, nlt_T, nlt_F, neq_T, neq_F, up_rd_s, up_rd_n, up_nc, cpy_nc, cpy_in, cpy_out, cpyOk_T, m1_lt, m1_le, m1_nle, m1_nlt, m1_eq, m1_eq2, m1_0le, Nat.add_zero, Nat.zero_add, Nat.mul_one, Nat.sub_zero, if_true, if_false, Nat.add_sub_cancel, Nat.add_sub_cancel_left, in_in, in_inN, iw_in, rq_in, pw_fold, nt_fold, ask_pw, has_eq, or_0, bt1, Bool.true_eq_false, Bool.false_eq_true]); exact f1' k (by omega) (by omega)
      · unfold rmF at hf; rw [f3b f (by omega) (by omega)]; (try simp (disch := omega) only [String.reduceEq, isRu_1, isRu_61, isGr_3, isSt_0, isSt_6, lg_selfT, isB_0, isB_1, eq_self, true_or, or_true, false_or, or_false, or_self, fa_lit, nI_add, pk_mul, pk_sub, nI_addm, nI_leI, nI_ltI, nI_eqI, vp_inI, ix_nI, forall_eq, true_implies, false_implies, not_true_eq_false, not_false_eq_true, and_true, true_and, false_and, and_false, nle_T, nle_F, nlt_T, nlt_F, neq_T, neq_F, up_rd_s, up_rd_n, up_nc, cpy_nc, cpy_in, cpy_out, cpyOk_T, m1_lt, m1_le, m1_nle, m1_nlt, m1_eq, m1_eq2, m1_0le, Nat.add_zero, Nat.zero_add, Nat.mul_one, Nat.sub_zero, if_true, if_false, Nat.add_sub_cancel, Nat.add_sub_cancel_left, in_in, in_inN, iw_in, rq_in, pw_fold, nt_fold, ask_pw, has_eq, or_0, bt1, Bool.true_eq_false, Bool.false_eq_true]); rw [f1' 87 (by omega) (by omega)]
    cases ho : oA a (gv (aVal a)) with
    | none =>
      have o : optI none = -nI 1 := rfl
      (try simp (disch := omega) only [String.reduceEq, isRu_1, isRu_61, isGr_3, isSt_0, isSt_6, lg_selfT, isB_0, isB_1, eq_self, true_or, or_true, false_or, or_false, or_self, fa_lit, nI_add, pk_mul, pk_sub, nI_addm, nI_leI, nI_ltI, nI_eqI, vp_inI, ix_nI, forall_eq, true_implies, false_implies, not_true_eq_false, not_false_eq_true, and_true, true_and, false_and, and_false, nle_T, nle_F, nlt_T, nlt_F, neq_T, neq_F, up_rd_s, up_rd_n, up_nc, cpy_nc, cpy_in, cpy_out, cpyOk_T, m1_lt, m1_le, m1_nle, m1_nlt, m1_eq, m1_eq2, m1_0le, Nat.add_zero, Nat.zero_add, Nat.mul_one, Nat.sub_zero, if_true, if_false, Nat.add_sub_cancel, Nat.add_sub_cancel_left, in_in, in_inN, iw_in, rq_in, pw_fold, nt_fold, ask_pw, has_eq, or_0, bt1, Bool.true_eq_false, Bool.false_eq_true, o])
      refine X12_unknownSet (l := aVal a) hM1.2.2.2.2.2.1 hA.1 hA.2 ?_
      (try simp (disch := omega) only [String.reduceEq, isRu_1, isRu_61, isGr_3, isSt_0, isSt_6, lg_selfT, isB_0, isB_1, eq_self, true_or, or_true, false_or, or_false, or_self, fa_lit, nI_add, pk_mul, pk_sub, nI_addm, nI_leI, nI_ltI, nI_eqI, vp_inI, ix_nI, forall_eq, true_implies, false_implies, not_true_eq_false, not_false_eq_true, and_true, true_and, false_and, and_false, nle_T, nle_F, nlt_T, nlt_F, neq_T, neq_F, up_rd_s, up_rd_n, up_nc, cpy_nc, cpy_in, cpy_out, cpyOk_T, m1_lt, m1_le, m1_nle, m1_nlt, m1_eq, m1_eq2, m1_0le, Nat.add_zero, Nat.zero_add, Nat.mul_one, Nat.sub_zero, if_true, if_false, Nat.add_sub_cancel, Nat.add_sub_cancel_left, in_in, in_inN, iw_in, rq_in, pw_fold, nt_fold, ask_pw, has_eq, or_0, bt1, Bool.true_eq_false, Bool.false_eq_true, hu])
      refine X12_decided hw hM1 hF (fun σ3 f3 f3b k3 => ?_)
      rw [ho] at k3
      (try simp (disch := omega) only [String.reduceEq, isRu_1, isRu_61, isGr_3, isSt_0, isSt_6, lg_selfT, isB_0, isB_1, eq_self, true_or, or_true, false_or, or_false, or_self, fa_lit, nI_add, pk_mul, pk_sub, nI_addm, nI_leI, nI_ltI, nI_eqI, vp_inI, ix_nI, forall_eq, true_implies, false_implies, not_true_eq_false, not_false_eq_true, and_true, true_and, false_and, and_false, nle_T, nle_F, nlt_T, nlt_F, neq_T, neq_F, up_rd_s, up_rd_n, up_nc, cpy_nc, cpy_in, cpy_out, cpyOk_T, m1_lt, m1_le, m1_nle, m1_nlt, m1_eq, m1_eq2, m1_0le, Nat.add_zero, Nat.zero_add, Nat.mul_one, Nat.sub_zero, if_true, if_false, Nat.add_sub_cancel, Nat.add_sub_cancel_left, in_in, in_inN, iw_in, rq_in, pw_fold, nt_fold, ask_pw, has_eq, or_0, bt1, Bool.true_eq_false, Bool.false_eq_true, o, k3])
      exact fin σ3 _ _ f3 f3b
    | some r =>
      have o : optI (some r) = nI r := rfl
      have hlt := oA_lt ho
      (try simp (disch := omega) only [String.reduceEq, isRu_1, isRu_61, isGr_3, isSt_0, isSt_6, lg_selfT, isB_0, isB_1, eq_self, true_or, or_true, false_or, or_false, or_self, fa_lit, nI_add, pk_mul, pk_sub, nI_addm, nI_leI, nI_ltI, nI_eqI, vp_inI, ix_nI, forall_eq, true_implies, false_implies, not_true_eq_false, not_false_eq_true, and_true, true_and, false_and, and_false, nle_T, nle_F, nlt_T, nlt_F, neq_T, neq_F, up_rd_s, up_rd_n, up_nc, cpy_nc, cpy_in, cpy_out, cpyOk_T, m1_lt, m1_le, m1_nle, m1_nlt, m1_eq, m1_eq2, m1_0le, Nat.add_zero, Nat.zero_add, Nat.mul_one, Nat.sub_zero, if_true, if_false, Nat.add_sub_cancel, Nat.add_sub_cancel_left, in_in, in_inN, iw_in, rq_in, pw_fold, nt_fold, ask_pw, has_eq, or_0, bt1, Bool.true_eq_false, Bool.false_eq_true, o])
      refine X12_unknownSet (l := aVal a) hM1.2.2.2.2.2.1 hA.1 hA.2 ?_
      (try simp (disch := omega) only [String.reduceEq, isRu_1, isRu_61, isGr_3, isSt_0, isSt_6, lg_selfT, isB_0, isB_1, eq_self, true_or, or_true, false_or, or_false, or_self, fa_lit, nI_add, pk_mul, pk_sub, nI_addm, nI_leI, nI_ltI, nI_eqI, vp_inI, ix_nI, forall_eq, true_implies, false_implies, not_true_eq_false, not_false_eq_true, and_true, true_and, false_and, and_false, nle_T, nle_F, nlt_T, nlt_F, neq_T, neq_F, up_rd_s, up_rd_n, up_nc, cpy_nc, cpy_in, cpy_out, cpyOk_T, m1_lt, m1_le, m1_nle, m1_nlt, m1_eq, m1_eq2, m1_0le, Nat.add_zero, Nat.zero_add, Nat.mul_one, Nat.sub_zero, if_true, if_false, Nat.add_sub_cancel, Nat.add_sub_cancel_left, in_in, in_inN, iw_in, rq_in, pw_fold, nt_fold, ask_pw, has_eq, or_0, bt1, Bool.true_eq_false, Bool.false_eq_true, hu])
      refine X12_decided hw hM1 hF (fun σ3 f3 f3b k3 => ?_)
      rw [ho] at k3
      have e8 : σ3 87 8 = nI 0 := by rw [f3b 8 (by omega) (by omega), up_at]
      (try simp (disch := omega) only [String.reduceEq, isRu_1, isRu_61, isGr_3, isSt_0, isSt_6, lg_selfT, isB_0, isB_1, eq_self, true_or, or_true, false_or, or_false, or_self, fa_lit, nI_add, pk_mul, pk_sub, nI_addm, nI_leI, nI_ltI, nI_eqI, vp_inI, ix_nI, forall_eq, true_implies, false_implies, not_true_eq_false, not_false_eq_true, and_true, true_and, false_and, and_false, nle_T, nle_F, nlt_T, nlt_F, neq_T, neq_F, up_rd_s, up_rd_n, up_nc, cpy_nc, cpy_in, cpy_out, cpyOk_T, m1_lt, m1_le, m1_nle, m1_nlt, m1_eq, m1_eq2, m1_0le, Nat.add_zero, Nat.zero_add, Nat.mul_one, Nat.sub_zero, if_true, if_false, Nat.add_sub_cancel, Nat.add_sub_cancel_left, in_in, in_inN, iw_in, rq_in, pw_fold, nt_fold, ask_pw, has_eq, or_0, bt1, Bool.true_eq_false, Bool.false_eq_true, o, k3, e8])
      exact fin0 σ3 _ f3 f3b
  · (try simp (disch := omega) only [String.reduceEq, isRu_1, isRu_61, isGr_3, isSt_0, isSt_6, lg_selfT, isB_0, isB_1, eq_self, true_or, or_true, false_or, or_false, or_self, fa_lit, nI_add, pk_mul, pk_sub, nI_addm, nI_leI, nI_ltI, nI_eqI, vp_inI, ix_nI, forall_eq, true_implies, false_implies, not_true_eq_false, not_false_eq_true, and_true, true_and, false_and, and_false, nle_T, nle_F, nlt_T, nlt_F, neq_T, neq_F, up_rd_s, up_rd_n, up_nc, cpy_nc, cpy_in, cpy_out, cpyOk_T, m1_lt, m1_le, m1_nle, m1_nlt, m1_eq, m1_eq2, m1_0le, Nat.add_zero, Nat.zero_add, Nat.mul_one, Nat.sub_zero, if_true, if_false, Nat.add_sub_cancel, Nat.add_sub_cancel_left, in_in, in_inN, iw_in, rq_in, pw_fold, nt_fold, ask_pw, has_eq, or_0, bt1, Bool.true_eq_false, Bool.false_eq_true, hu])
    apply h12
    (try simp (disch := omega) only [String.reduceEq, isRu_1, isRu_61, isGr_3, isSt_0, isSt_6, lg_selfT, isB_0, isB_1, eq_self, true_or, or_true, false_or, or_false, or_self, fa_lit, nI_add, pk_mul, pk_sub, nI_addm, nI_leI, nI_ltI, nI_eqI, vp_inI, ix_nI, forall_eq, true_implies, false_implies, not_true_eq_false, not_false_eq_true, and_true, true_and, false_and, and_false, nle_T, nle_F, nlt_T, nlt_F, neq_T, neq_F, up_rd_s, up_rd_n, up_nc, cpy_nc, cpy_in, cpy_out, cpyOk_T, m1_lt, m1_le, m1_nle, m1_nlt, m1_eq, m1_eq2, m1_0le, Nat.add_zero, Nat.zero_add, Nat.mul_one, Nat.sub_zero, if_true, if_false, Nat.add_sub_cancel, Nat.add_sub_cancel_left, in_in, in_inN, iw_in, rq_in, pw_fold, nt_fold, ask_pw, has_eq, or_0, bt1, Bool.true_eq_false, Bool.false_eq_true])
    refine X12_unknownSet (l := aVal a) (by (try simp (disch := omega) only [String.reduceEq, isRu_1, isRu_61, isGr_3, isSt_0, isSt_6, lg_selfT, isB_0, isB_1, eq_self, true_or, or_true, false_or, or_false, or_self, fa_lit, nI_add, pk_mul, pk_sub, nI_addm, nI_leI, nI_ltI, nI_eqI, vp_inI, ix_nI, forall_eq, true_implies, false_implies, not_true_eq_false, not_false_eq_true, and_true, true_and, false_and, and_false, nle_T, nle_F, nlt_T, nlt_F, neq_T, neq_F, up_rd_s, up_rd_n, up_nc, cpy_nc, cpy_in, cpy_out, cpyOk_T, m1_lt, m1_le, m1_nle, m1_nlt, m1_eq, m1_eq2, m1_0le, Nat.add_zero, Nat.zero_add, Nat.mul_one, Nat.sub_zero, if_true, if_false, Nat.add_sub_cancel, Nat.add_sub_cancel_left, in_in, in_inN, iw_in, rq_in, pw_fold, nt_fold, ask_pw, has_eq, or_0, bt1, Bool.true_eq_false, Bool.false_eq_true]); exact hM.2.2.2.2.2.1) hA.1 hA.2 ?_
    (try simp (disch := omega) only [String.reduceEq, isRu_1, isRu_61, isGr_3, isSt_0, isSt_6, lg_selfT, isB_0, isB_1, eq_self, true_or, or_true, false_or, or_false, or_self, fa_lit, nI_add, pk_mul, pk_sub, nI_addm, nI_leI, nI_ltI, nI_eqI, vp_inI, ix_nI, forall_eq, true_implies, false_implies, not_true_eq_false, not_false_eq_true, and_true, true_and, false_and, and_false, nle_T, nle_F, nlt_T, nlt_F, neq_T, neq_F, up_rd_s, up_rd_n, up_nc, cpy_nc, cpy_in, cpy_out, cpyOk_T, m1_lt, m1_le, m1_nle, m1_nlt, m1_eq, m1_eq2, m1_0le, Nat.add_zero, Nat.zero_add, Nat.mul_one, Nat.sub_zero, if_true, if_false, Nat.add_sub_cancel, Nat.add_sub_cancel_left, in_in, in_inN, iw_in, rq_in, pw_fold, nt_fold, ask_pw, has_eq, or_0, bt1, Bool.true_eq_false, Bool.false_eq_true, hu])
    exact h _ _ (inv_same hw hE hM (fun k hk => by unfold reC at hk; (try simp (disch := omega) only [String.reduceEq, isRu_1, isRu_61, isGr_3, isSt_0, isSt_6, lg_selfT, isB_0, isB_1, eq_self, true_or, or_true, false_or, or_false, or_self, fa_lit, nI_add, pk_mul, pk_sub, nI_addm, nI_leI, nI_ltI, nI_eqI, vp_inI, ix_nI, forall_eq, true_implies, false_implies, not_true_eq_false, not_false_eq_true, and_true, true_and, false_and, and_false, nle_T, nle_F, nlt_T, nlt_F, neq_T, neq_F, up_rd_s, up_rd_n, up_nc, cpy_nc, cpy_in, cpy_out, cpyOk_T, m1_lt, m1_le, m1_nle, m1_nlt, m1_eq, m1_eq2, m1_0le, Nat.add_zero, Nat.zero_add, Nat.mul_one, Nat.sub_zero, if_true, if_false, Nat.add_sub_cancel, Nat.add_sub_cancel_left, in_in, in_inN, iw_in, rq_in, pw_fold, nt_fold, ask_pw, has_eq, or_0, bt1, Bool.true_eq_false, Bool.false_eq_true])) (fun k hk => by unfold rmC at hk; (try simp (disch := omega) only [String.reduceEq, isRu_1, isRu_61, isGr_3, isSt_0, isSt_6, lg_selfT, isB_0, isB_1, eq_self, true_or, or_true, false_or, or_false, or_self, fa_lit, nI_add, pk_mul, pk_sub, nI_addm, nI_leI, nI_ltI, nI_eqI, vp_inI, ix_nI, forall_eq, true_implies, false_implies, not_true_eq_false, not_false_eq_true, and_true, true_and, false_and, and_false, nle_T, nle_F, nlt_T, nlt_F, neq_T, neq_F, up_rd_s, up_rd_n, up_nc, cpy_nc, cpy_in, cpy_out, cpyOk_T, m1_lt, m1_le, m1_nle, m1_nlt, m1_eq, m1_eq2, m1_0le, Nat.add_zero, Nat.zero_add, Nat.mul_one, Nat.sub_zero, if_true, if_false, Nat.add_sub_cancel, Nat.add_sub_cancel_left, in_in, in_inN, iw_in, rq_in, pw_fold, nt_fold, ask_pw, has_eq, or_0, bt1, Bool.true_eq_false, Bool.false_eq_true])) (fun f hf => by unfold rmF at hf; (try simp (disch := omega) only [String.reduceEq, isRu_1, isRu_61, isGr_3, isSt_0, isSt_6, lg_selfT, isB_0, isB_1, eq_self, true_or, or_true, false_or, or_false, or_self, fa_lit, nI_add, pk_mul, pk_sub, nI_addm, nI_leI, nI_ltI, nI_eqI, vp_inI, ix_nI, forall_eq, true_implies, false_implies, not_true_eq_false, not_false_eq_true, and_true, true_and, false_and, and_false, nle_T, nle_F, nlt_T, nlt_F, neq_T, neq_F, up_rd_s, up_rd_n, up_nc, cpy_nc, cpy_in, cpy_out, cpyOk_T, m1_lt, m1_le, m1_nle, m1_nlt, m1_eq, m1_eq2, m1_0le, Nat.add_zero, Nat.zero_add, Nat.mul_one, Nat.sub_zero, if_true, if_false, Nat.add_sub_cancel, Nat.add_sub_cancel_left, in_in, in_inN, iw_in, rq_in, pw_fold, nt_fold, ask_pw, has_eq, or_0, bt1, Bool.true_eq_false, Bool.false_eq_true])))
