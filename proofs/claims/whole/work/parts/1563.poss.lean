/-! MATH. possible, completions, valuesFor. -/
theorem bst_cg {l : List mRule} {own own' : Nat → Bool} (h : ∀ r, r < l.length → own r = own' r) : bst l own = bst l own' := by
  unfold bst
  refine ft_cong fun k hk => ?_
  rw [h k hk]
  have : fb_ct (fun q => own q && bef l q k) l.length = fb_ct (fun q => own' q && bef l q k) l.length := fb_ct_cong fun q hq => by rw [h q hq]
  rw [this]
theorem pdec_cg {l : List mRule} {way : Nat} {own own' : Nat → Bool} (h : ∀ r, r < l.length → own r = own' r) : pdec l way own = pdec l way own' := by
  have h1 : ∀ e, bst l (oe l own e) = bst l (oe l own' e) := fun e => bst_cg fun r hr => by unfold oe; rw [h r hr]
  unfold pdec
  rw [bst_cg h, h1, h1, fb_ct_cong h]
theorem decN_cg {top : Nat} {U : Int32} {dp dp' : Nat → Nat} (h : ∀ p, p < 4 → bt U p = true → dp p = dp' p) : decN top U dp = decN top U dp' := by
  have hd : ∀ i, i < 4 → dd U dp i = dd U dp' i := by
    intro i hi
    unfold dd
    cases hb : bt U i with
    | true => rw [if_pos rfl, if_pos rfl]; exact h i hi hb
    | false => rw [ifF, ifF]
  have key : ∀ i, i ≤ 4 → dS U dp i = dS U dp' i ∧ dN U dp i = dN U dp' i ∧ dF U dp i = dF U dp' i := by
    intro i
    induction i with
    | zero => exact fun _ => ⟨rfl, rfl, rfl⟩
    | succ i ih =>
      intro hi
      obtain ⟨h1, h2, h3⟩ := ih (by omega)
      rw [dS_S, dS_S, dN_S, dN_S, dF_S, dF_S, hd i (by omega), h1, h2, h3]
      exact ⟨rfl, rfl, rfl⟩
  obtain ⟨h1, h2, h3⟩ := key 4 (Nat.le_refl _)
  unfold decN
  rw [h1, h2, h3]
/-- a rule allows the values so far for the attributes that are unknown -/
def sof (l : List mRule) (un : Nat → Bool) (g : Nat → Nat) (a r : Nat) : Bool := decide (∀ b, b < a → un b = true → bt (bx l r b) (g b) = true)
theorem CA_LA {l : List mRule} {X U : Int32} {wy : Nat → Nat} {top d : Nat} {vs : List (Option Nat)} (hl : l.length ≤ 24) (hS : SUR l) (hX : RS l X (fun r => decide (¬ fitN l vs r = 0) && bt U (rOf l r).1)) : ∀ (k a : Nat), a + k = 6 → ∀ (g : Nat → Nat) (Y : Int32), (∀ b, b < a → aUnk vs b = false → g b = gv vs b) → RS l Y (fun r => (decide (¬ fitN l vs r = 0) && bt U (rOf l r).1) && sof l (aUnk vs) g a r) → CA l X (aUnk vs) (decY l wy top U) d k Y = LA (aUnk vs) (gv vs) (Ld l wy top U d) k g
  | 0, a, ha, g, Y, hg, hY => by
    have : a = 6 := by omega
    subst this
    unfold CA LA Ld
    have e : decY l wy top U Y = decG l wy top U g := by
      unfold decY decG
      refine decN_cg fun p hp hb => pdec_cg fun r hr => ?_
      have hYr : bt Y (rk l r) = ((decide (¬ fitN l vs r = 0) && bt U (rOf l r).1) && sof l (aUnk vs) g 6 r) := hY.1 r hr
      rw [hYr]
      unfold ownG
      by_cases c : (rOf l r).1 = p
      · rw [decide_eq_true c, c, hb, Bool.and_true, Bool.and_true, Bool.true_and]
        cases hap : appG l g r with
        | true =>
          have hA := appG_iff.mp hap
          have h1 : ¬ fitN l vs r = 0 := by
            intro z
            obtain ⟨b, b1, b2⟩ := fitN_iff.mp z
            have hb2 := hA b b1
            unfold bad at b2
            cases hv : vs.getD b none with
            | none =>
              rw [hv] at b2
              have b2 := of_decide_eq_true b2
              rw [b2, b_z] at hb2
              cases hb2
            | some w =>
              rw [hv] at b2
              have hu : aUnk vs b = false := by
                unfold aUnk
                rw [hv]
                rfl
              have hw : g b = w := by
                rw [hg b b1 hu]
                unfold gv
                rw [hv]
                rfl
              have b2 : (!bt (bx l r b) w) = true := b2
              rw [← hw, hb2] at b2
              cases b2
          have h2 : sof l (aUnk vs) g 6 r = true := decide_eq_true fun b b1 _ => hA b b1
          rw [decide_eq_true h1, h2]
          rfl
        | false =>
          cases h1 : decide (¬ fitN l vs r = 0) with
          | false => rfl
          | true =>
            have h1 := of_decide_eq_true h1
            cases h2 : sof l (aUnk vs) g 6 r with
            | false => rfl
            | true =>
              have h2 := of_decide_eq_true h2
              have : appG l g r = true := appG_iff.mpr fun b b1 => by
                cases hu : aUnk vs b with
                | true => exact h2 b b1 hu
                | false =>
                  rw [hg b b1 hu]
                  cases hz : bt (bx l r b) (gv vs b) with
                  | true => rfl
                  | false =>
                    refine absurd (fitN_iff.mpr ⟨b, b1, ?_⟩) h1
                    unfold bad
                    rw [gv_some hu]
                    show (!bt (bx l r b) (gv vs b)) = true
                    rw [hz]
                    rfl
              rw [this] at hap
              cases hap
      · rw [decide_eq_false c, Bool.and_false, Bool.false_and]
    rw [e]
    by_cases c : decG l wy top U g = d
    · rw [if_pos c, decide_eq_true c, if_pos rfl]
    · rw [if_neg c, decide_eq_false c, ifF]
  | k + 1, a, ha, g, Y, hg, hY => by
    have e5 : 5 - k = a := by omega
    rw [CA_S, LA_S, e5]
    cases hu : aUnk vs a with
    | true =>
      rw [if_pos rfl, if_pos rfl]
      refine fb_sm_cong fun v _ => ?_
      refine CA_LA hl hS hX k (a + 1) (by omega) (gset g a v) (Y &&& alw l X a v l.length) (fun b hb hub => ?_) (RS_cg (RS_and hY (alw_RS hl hX)) (fun r hr => ?_))
      · have hne : b ≠ a := by
          rintro rfl
          rw [hu] at hub
          cases hub
        rw [gset_n hne]
        exact hg b (by omega) hub
      · have hs : sof l (aUnk vs) (gset g a v) (a + 1) r = (sof l (aUnk vs) g a r && bt (bx l r a) v) := by
          unfold sof
          cases hb : bt (bx l r a) v with
          | false =>
            rw [Bool.and_false]
            refine decide_eq_false fun z => ?_
            have := z a (by omega) hu
            rw [gset_s, hb] at this
            cases this
          | true =>
            rw [Bool.and_true]
            refine decide_eq_decide.mpr ⟨fun z b hb1 hb2 => ?_, fun z b hb1 hb2 => ?_⟩
            · have := z b (by omega) hb2
              rw [gset_n (by omega)] at this
              exact this
            · by_cases e : b = a
              · subst e
                rw [gset_s]
                exact hb
              · rw [gset_n e]
                exact z b (by omega) hb2
        rw [hs]
        cases (decide (¬ fitN l vs r = 0) && bt U (rOf l r).1) <;> cases sof l (aUnk vs) g a r <;> cases bt (bx l r a) v <;> rfl
    | false =>
      rw [ifF, ifF]
      refine CA_LA hl hS hX k (a + 1) (by omega) (gset g a (gv vs a)) Y (fun b hb hub => ?_) (RS_cg hY (fun r hr => ?_))
      · by_cases e : b = a
        · subst e
          exact gset_s _ _ _
        · rw [gset_n e]
          exact hg b (by omega) hub
      · have hs : sof l (aUnk vs) (gset g a (gv vs a)) (a + 1) r = sof l (aUnk vs) g a r := by
          unfold sof
          refine decide_eq_decide.mpr ⟨fun z b hb1 hb2 => ?_, fun z b hb1 hb2 => ?_⟩
          · have := z b (by omega) hb2
            rw [gset_n (by omega)] at this
            exact this
          · have hne : b ≠ a := by
              rintro rfl
              rw [hu] at hb2
              cases hb2
            rw [gset_n hne]
            exact z b (by omega) hb2
        rw [hs]
theorem X9_countLA {l : List mRule} {U : Int32} {wy : Nat → Nat} {top v : Nat} {vs : List (Option Nat)} {σ : Sto} {P : Sto → Prop} (hW : RW l) (hT : TBL l σ) (htop : top < 4) (ht : σ 0 3 = nI top) (hw : ∀ p, p < 4 → σ 5 p = nI (wy p) ∧ wy p < 4) (hv : isVa v) (hV : ValsAt (σ v) vs) (hA : VA vs) (hnu : fb_ct (aUnk vs) 6 ≤ 3)
    (h : ∀ σ' : Sto, (∀ c, c < 72 ∨ 76 < c → σ' c = σ c) → (∀ d, d < 4 → σ' 73 d = nI (LA (aUnk vs) (gv vs) (Ld l wy top U d) 6 g0)) → P σ') : D_X9_count v U σ P := by
  refine X9_count hW hT htop ht hw hv hV hA hnu (fun X σ' hX f1 c1 => h σ' f1 (fun d hd => ?_))
  rw [c1 d hd, CA_LA hW.1 (TBL_S hT) hX 6 0 rfl g0 X (fun b hb => absurd hb (Nat.not_lt_zero _)) (RS_cg hX (fun r hr => ?_))]
  have : sof l (aUnk vs) g0 0 r = true := decide_eq_true fun b hb => absurd hb (Nat.not_lt_zero _)
  rw [this, Bool.and_true]
theorem pc_sb {p : Nat → Bool} : pc (sb p 6) = fb_ct p 6 := by
  unfold pc
  have := fb_ct_split (fun i => bt (sb p 6) i) 6 10
  have h2 : fb_ct (fun k => bt (sb p 6) (6 + k)) 10 = 0 := fb_ct_zero.mpr (fun k hk => by rw [b_sb p (by decide), decide_eq_false (by omega), Bool.false_and])
  rw [show (16 : Nat) = 6 + 10 from rfl, this, h2, Nat.add_zero]
  exact fb_ct_cong fun k hk => by rw [b_sb p (by decide), decide_eq_true hk, Bool.true_and]
theorem sb_hi {p : Nat → Bool} {i : Nat} (hi : 16 ≤ i) : bt (sb p 6) i = false := by rw [b_sb p (by decide), decide_eq_false (by omega), Bool.false_and]
/-- the engine's way to the counts -/
theorem E_cnt {a : mA} {σ : Sto} {Q : Sto → Prop} (hw : WFA a) (hE : RE a σ) (hnu : fb_ct (aUnk (aVal a)) 6 ≤ 3) (h : ∀ σ' : Sto, (∀ c, c < 65 ∨ 78 < c → σ' c = σ c) → (∀ d, d < 4 → σ' 73 d = nI (LA (aUnk (aVal a)) (gv (aVal a)) (Ld (aCore a).1 (wyA a) (aCore a).2.2.2 (UA a) d) 6 g0)) → Q σ') : D_X5_refresh σ (fun s19 => (D_X1_usable (s19 60 13) (s19 60 14) s19 (fun r34 s34 => (D_X9_count 85 r34 s34 Q)))) := by
  have hA : VA (aVal a) := hw.2.2.2.2.2.1
  have hck : aClk a ≤ 2000 := hw.2.2.2.1
  have hsb : aSub a < 10 := hw.2.2.2.2.1
  refine X5_refresh (RLE_of hE) (RW_of hw) (fun σ1 f1 t1 => ?_)
  have f1' : ∀ c, c < 65 ∨ 69 < c → σ1 c = σ c := fun c hc => f1 c (by unfold tbC; omega)
  have e13 : σ1 60 13 = nI (aSub a) := by rw [f1' 60 (by omega)]; exact hE.2.2.2.2.1
  have e14 : σ1 60 14 = nI (aClk a) := by rw [f1' 60 (by omega)]; exact hE.2.2.2.1
  rw [e13, e14]
  refine X1_usable (GE_cg (f1' 3 (by omega)) (f1' 4 (by omega)) (GE_of hE)) (GW_of hw) (by omega) hsb (fun σ2 f2 => ?_)
  have t2 : TBL (aCore a).1 σ2 := TBL_cg (f2 65 (by omega)) (f2 66 (by omega)) (f2 67 (by omega)) (f2 68 (by omega)) (f2 69 (by omega)) t1
  have g2' : ∀ c, c < 65 ∨ 69 < c → c ≠ 78 → σ2 c = σ c := fun c c1 c2 => (f2 c c2).trans (f1' c c1)
  refine X9_countLA (wy := wyA a) (top := (aCore a).2.2.2) (vs := aVal a) (RW_of hw) t2 hw.1.2.2.2.2.2.2.2 ?_ ?_ (Or.inl rfl) ?_ hA hnu (fun σ3 f3 c3 => ?_)
  · rw [g2' 0 (by omega) (by omega)]; exact hE.1.2.2.2.2.2
  · rw [g2' 5 (by omega) (by omega)]; exact ways_E hw hE
  · rw [g2' 85 (by omega) (by omega)]; exact hE.2.2.2.2.2.1
  · exact h σ3 (fun c c1 => by rw [f3 c (by omega)]; exact g2' c (by omega) (by omega)) c3
def cA (a : mA) (d : Nat) : Nat := LA (aUnk (aVal a)) (gv (aVal a)) (Ld (aCore a).1 (wyA a) (aCore a).2.2.2 (UA a) d) 6 g0
theorem cA_le (a : mA) (d : Nat) : cA a d ≤ 16777216 := LA_le 6 g0
theorem scr_compl {a : mA} {σ σ1 σ2 : Sto} {v : Int32} (hw : WFA a) (hE : RE a σ) (hM : RM a σ) (f1 : ∀ c, c < 65 ∨ 78 < c → c ≠ 86 → σ1 c = σ c) (f2 : ∀ c, c < 92 ∨ 98 < c ∨ c = 96 → c ≠ 87 → σ2 c = (up σ1 87 8 v) c) (f2b : ∀ f, f ≠ 13 → f ≠ 14 → σ2 87 f = (up σ1 87 8 v) 87 f) : Inv σ2 := by
  refine inv_scr hw hE hM (fun k hk => ?_) (fun k hk => ?_) (fun f hf => ?_)
  · unfold reC at hk; rw [f2 k (by omega) (by omega)]; (try simp (disch := omega) only [String.reduceEq, isRu_1, isRu_61, isGr_3, isSt_0, isSt_6, lg_selfT, isB_0, isB_1, eq_self, true_or, or_true, false_or, or_false, or_self, fa_lit, nI_add, pk_mul, pk_sub, nI_addm, nI_leI, nI_ltI, nI_eqI, vp_inI, ix_nI, forall_eq, true_implies, false_implies, not_true_eq_false, not_false_eq_true, and_true, true_and, false_and, and_false, nle_T, nle_F, nlt_T, nlt_F, neq_T, neq_F, up_rd_s, up_rd_n, up_nc, cpy_nc, cpy_in, cpy_out, cpyOk_T, m1_lt, m1_le, m1_nle, m1_nlt, m1_eq, m1_eq2, m1_0le, Nat.add_zero, Nat.zero_add, Nat.mul_one, Nat.sub_zero, if_true, if_false, Nat.add_sub_cancel, Nat.add_sub_cancel_left, in_in, in_inN, iw_in, rq_in, pw_fold, nt_fold, ask_pw, has_eq, or_0, bt1, Bool.true_eq_false, Bool.false_eq_true]); exact f1 k (by omega) (by omega)
  · unfold rmC at hk; rw [f2 k (by omega) (by omega)]; (try simp (disch := omega) only [String.reduceEq, isRu_1, isRu_61, isGr_3, isSt_0, isSt_6, lg_selfT, isB_0, isB_1, eq_self, true_or, or_true, false_or, or_false, or_self, fa_lit, nI_add, pk_mul, pk_sub, nI_addm, nI_leI, nI_ltI, nI_eqI, vp_inI, ix_nI, forall_eq, true_implies, false_implies, not_true_eq_false, not_false_eq_true, and_true, true_and, false_and, and_false, nle_T, nle_F, nlt_T, nlt_F, neq_T, neq_F, up_rd_s, up_rd_n, up_nc, cpy_nc, cpy_in, cpy_out, cpyOk_T, m1_lt, m1_le, m1_nle, m1_nlt, m1_eq, m1_eq2, m1_0le, Nat.add_zero, Nat.zero_add, Nat.mul_one, Nat.sub_zero, if_true, if_false, Nat.add_sub_cancel, Nat.add_sub_cancel_left, in_in, in_inN, iw_in, rq_in, pw_fold, nt_fold, ask_pw, has_eq, or_0, bt1, Bool.true_eq_false, Bool.false_eq_true]); exact f1 k (by omega) (by omega)
  · unfold rmF at hf; rw [f2b f (by omega) (by omega)]; (try simp (disch := omega) only [String.reduceEq, isRu_1, isRu_61, isGr_3, isSt_0, isSt_6, lg_selfT, isB_0, isB_1, eq_self, true_or, or_true, false_or, or_false, or_self, fa_lit, nI_add, pk_mul, pk_sub, nI_addm, nI_leI, nI_ltI, nI_eqI, vp_inI, ix_nI, forall_eq, true_implies, false_implies, not_true_eq_false, not_false_eq_true, and_true, true_and, false_and, and_false, nle_T, nle_F, nlt_T, nlt_F, neq_T, neq_F, up_rd_s, up_rd_n, up_nc, cpy_nc, cpy_in, cpy_out, cpyOk_T, m1_lt, m1_le, m1_nle, m1_nlt, m1_eq, m1_eq2, m1_0le, Nat.add_zero, Nat.zero_add, Nat.mul_one, Nat.sub_zero, if_true, if_false, Nat.add_sub_cancel, Nat.add_sub_cancel_left, in_in, in_inN, iw_in, rq_in, pw_fold, nt_fold, ask_pw, has_eq, or_0, bt1, Bool.true_eq_false, Bool.false_eq_true]); rw [f1 87 (by omega) (by omega)]
theorem o_28 {xs : Nat → Int32} {i : Nat} {σ : Sto} {x : XP} {P : Sto → XP → Prop} (hI : Inv σ) (h : ∀ σ' x', Inv σ' → P σ' x') : DL_28 xs i σ x P := by
  obtain ⟨a, hw, hE, hM⟩ := hI
  unfold DL_28 D_L_completions D_X11_completions D_X12_completions D_X12_thrown D_X11_requireState D_X11_requireArgument
  generalize xs (i + 1) = a1
  have hA : VA (aVal a) := hw.2.2.2.2.2.1
  intro K25 h25
  rcases rg a1 (n := 4) (by decide) with h1 | ⟨d, hd, rfl⟩
  · (try simp (disch := omega) only [String.reduceEq, isRu_1, isRu_61, isGr_3, isSt_0, isSt_6, lg_selfT, isB_0, isB_1, eq_self, true_or, or_true, false_or, or_false, or_self, fa_lit, nI_add, pk_mul, pk_sub, nI_addm, nI_leI, nI_ltI, nI_eqI, vp_inI, ix_nI, forall_eq, true_implies, false_implies, not_true_eq_false, not_false_eq_true, and_true, true_and, false_and, and_false, nle_T, nle_F, nlt_T, nlt_F, neq_T, neq_F, up_rd_s, up_rd_n, up_nc, cpy_nc, cpy_in, cpy_out, cpyOk_T, m1_lt, m1_le, m1_nle, m1_nlt, m1_eq, m1_eq2, m1_0le, Nat.add_zero, Nat.zero_add, Nat.mul_one, Nat.sub_zero, if_true, if_false, Nat.add_sub_cancel, Nat.add_sub_cancel_left, in_in, in_inN, iw_in, rq_in, pw_fold, nt_fold, ask_pw, has_eq, or_0, bt1, Bool.true_eq_false, Bool.false_eq_true, iw_out (n := 4) rfl (by decide) h1, in_out (n := 4) rfl (by decide) h1])
    exact h _ _ (inv_th hw hE hM _)
  (try simp (disch := omega) only [String.reduceEq, isRu_1, isRu_61, isGr_3, isSt_0, isSt_6, lg_selfT, isB_0, isB_1, eq_self, true_or, or_true, false_or, or_false, or_self, fa_lit, nI_add, pk_mul, pk_sub, nI_addm, nI_leI, nI_ltI, nI_eqI, vp_inI, ix_nI, forall_eq, true_implies, false_implies, not_true_eq_false, not_false_eq_true, and_true, true_and, false_and, and_false, nle_T, nle_F, nlt_T, nlt_F, neq_T, neq_F, up_rd_s, up_rd_n, up_nc, cpy_nc, cpy_in, cpy_out, cpyOk_T, m1_lt, m1_le, m1_nle, m1_nlt, m1_eq, m1_eq2, m1_0le, Nat.add_zero, Nat.zero_add, Nat.mul_one, Nat.sub_zero, if_true, if_false, Nat.add_sub_cancel, Nat.add_sub_cancel_left, in_in, in_inN, iw_in, rq_in, pw_fold, nt_fold, ask_pw, has_eq, or_0, bt1, Bool.true_eq_false, Bool.false_eq_true])
  refine X11_unknown (l := aVal a) hE.2.2.2.2.2.1 hA.1 hA.2 ?_
  refine J6_bitCount (fun i hi => sb_hi hi) ?_
  rw [pc_sb]
  have hc6 := fb_ct_le (aUnk (aVal a)) 6
  have hcl := cA_le a d
  by_cases hnu : fb_ct (aUnk (aVal a)) 6 ≤ 3
  · (try simp (disch := omega) only [String.reduceEq, isRu_1, isRu_61, isGr_3, isSt_0, isSt_6, lg_selfT, isB_0, isB_1, eq_self, true_or, or_true, false_or, or_false, or_self, fa_lit, nI_add, pk_mul, pk_sub, nI_addm, nI_leI, nI_ltI, nI_eqI, vp_inI, ix_nI, forall_eq, true_implies, false_implies, not_true_eq_false, not_false_eq_true, and_true, true_and, false_and, and_false, nle_T, nle_F, nlt_T, nlt_F, neq_T, neq_F, up_rd_s, up_rd_n, up_nc, cpy_nc, cpy_in, cpy_out, cpyOk_T, m1_lt, m1_le, m1_nle, m1_nlt, m1_eq, m1_eq2, m1_0le, Nat.add_zero, Nat.zero_add, Nat.mul_one, Nat.sub_zero, if_true, if_false, Nat.add_sub_cancel, Nat.add_sub_cancel_left, in_in, in_inN, iw_in, rq_in, pw_fold, nt_fold, ask_pw, has_eq, or_0, bt1, Bool.true_eq_false, Bool.false_eq_true])
    apply h25
    (try simp (disch := omega) only [String.reduceEq, isRu_1, isRu_61, isGr_3, isSt_0, isSt_6, lg_selfT, isB_0, isB_1, eq_self, true_or, or_true, false_or, or_false, or_self, fa_lit, nI_add, pk_mul, pk_sub, nI_addm, nI_leI, nI_ltI, nI_eqI, vp_inI, ix_nI, forall_eq, true_implies, false_implies, not_true_eq_false, not_false_eq_true, and_true, true_and, false_and, and_false, nle_T, nle_F, nlt_T, nlt_F, neq_T, neq_F, up_rd_s, up_rd_n, up_nc, cpy_nc, cpy_in, cpy_out, cpyOk_T, m1_lt, m1_le, m1_nle, m1_nlt, m1_eq, m1_eq2, m1_0le, Nat.add_zero, Nat.zero_add, Nat.mul_one, Nat.sub_zero, if_true, if_false, Nat.add_sub_cancel, Nat.add_sub_cancel_left, in_in, in_inN, iw_in, rq_in, pw_fold, nt_fold, ask_pw, has_eq, or_0, bt1, Bool.true_eq_false, Bool.false_eq_true])
    refine E_cnt hw hE hnu (fun σ1 f1 c1 => ?_)
    (try simp (disch := omega) only [String.reduceEq, isRu_1, isRu_61, isGr_3, isSt_0, isSt_6, lg_selfT, isB_0, isB_1, eq_self, true_or, or_true, false_or, or_false, or_self, fa_lit, nI_add, pk_mul, pk_sub, nI_addm, nI_leI, nI_ltI, nI_eqI, vp_inI, ix_nI, forall_eq, true_implies, false_implies, not_true_eq_false, not_false_eq_true, and_true, true_and, false_and, and_false, nle_T, nle_F, nlt_T, nlt_F, neq_T, neq_F, up_rd_s, up_rd_n, up_nc, cpy_nc, cpy_in, cpy_out, cpyOk_T, m1_lt, m1_le, m1_nle, m1_nlt, m1_eq, m1_eq2, m1_0le, Nat.add_zero, Nat.zero_add, Nat.mul_one, Nat.sub_zero, if_true, if_false, Nat.add_sub_cancel, Nat.add_sub_cancel_left, in_in, in_inN, iw_in, rq_in, pw_fold, nt_fold, ask_pw, has_eq, or_0, bt1, Bool.true_eq_false, Bool.false_eq_true, c1 d hd])
    refine X12_unknownSet (l := aVal a) (by rw [f1 91 (by omega)]; exact hM.2.2.2.2.2.1) hA.1 hA.2 ?_
    refine X12_bits ?_
    rw [pc_sb]
    (try simp (disch := omega) only [String.reduceEq, isRu_1, isRu_61, isGr_3, isSt_0, isSt_6, lg_selfT, isB_0, isB_1, eq_self, true_or, or_true, false_or, or_false, or_self, fa_lit, nI_add, pk_mul, pk_sub, nI_addm, nI_leI, nI_ltI, nI_eqI, vp_inI, ix_nI, forall_eq, true_implies, false_implies, not_true_eq_false, not_false_eq_true, and_true, true_and, false_and, and_false, nle_T, nle_F, nlt_T, nlt_F, neq_T, neq_F, up_rd_s, up_rd_n, up_nc, cpy_nc, cpy_in, cpy_out, cpyOk_T, m1_lt, m1_le, m1_nle, m1_nlt, m1_eq, m1_eq2, m1_0le, Nat.add_zero, Nat.zero_add, Nat.mul_one, Nat.sub_zero, if_true, if_false, Nat.add_sub_cancel, Nat.add_sub_cancel_left, in_in, in_inN, iw_in, rq_in, pw_fold, nt_fold, ask_pw, has_eq, or_0, bt1, Bool.true_eq_false, Bool.false_eq_true])
    have hM1 : RM a (up σ1 87 8 (nI 0)) := RM_th (RM_low (fun k hk => f1 k (by omega)) hM) _
    refine X12_completesAll (o := none) (un := aUnk (aVal a)) hw hM1 (fun z hz => by cases hz) (fun b _ => by rw [decide_eq_false (fun z => by cases z), Bool.or_false]) (fun σ2 f2 f2b c2 _ => ?_)
    have e8 : σ2 87 8 = nI 0 := by rw [f2b 8 (by omega) (by omega), up_at]
    (try simp (disch := omega) only [String.reduceEq, isRu_1, isRu_61, isGr_3, isSt_0, isSt_6, lg_selfT, isB_0, isB_1, eq_self, true_or, or_true, false_or, or_false, or_self, fa_lit, nI_add, pk_mul, pk_sub, nI_addm, nI_leI, nI_ltI, nI_eqI, vp_inI, ix_nI, forall_eq, true_implies, false_implies, not_true_eq_false, not_false_eq_true, and_true, true_and, false_and, and_false, nle_T, nle_F, nlt_T, nlt_F, neq_T, neq_F, up_rd_s, up_rd_n, up_nc, cpy_nc, cpy_in, cpy_out, cpyOk_T, m1_lt, m1_le, m1_nle, m1_nlt, m1_eq, m1_eq2, m1_0le, Nat.add_zero, Nat.zero_add, Nat.mul_one, Nat.sub_zero, if_true, if_false, Nat.add_sub_cancel, Nat.add_sub_cancel_left, in_in, in_inN, iw_in, rq_in, pw_fold, nt_fold, ask_pw, has_eq, or_0, bt1, Bool.true_eq_false, Bool.false_eq_true, c2 d hd, e8])
    exact h _ _ (scr_compl hw hE hM (fun c c1 _ => f1 c c1) f2 f2b)
  · (try simp (disch := omega) only [String.reduceEq, isRu_1, isRu_61, isGr_3, isSt_0, isSt_6, lg_selfT, isB_0, isB_1, eq_self, true_or, or_true, false_or, or_false, or_self, fa_lit, nI_add, pk_mul, pk_sub, nI_addm, nI_leI, nI_ltI, nI_eqI, vp_inI, ix_nI, forall_eq, true_implies, false_implies, not_true_eq_false, not_false_eq_true, and_true, true_and, false_and, and_false, nle_T, nle_F, nlt_T, nlt_F, neq_T, neq_F, up_rd_s, up_rd_n, up_nc, cpy_nc, cpy_in, cpy_out, cpyOk_T, m1_lt, m1_le, m1_nle, m1_nlt, m1_eq, m1_eq2, m1_0le, Nat.add_zero, Nat.zero_add, Nat.mul_one, Nat.sub_zero, if_true, if_false, Nat.add_sub_cancel, Nat.add_sub_cancel_left, in_in, in_inN, iw_in, rq_in, pw_fold, nt_fold, ask_pw, has_eq, or_0, bt1, Bool.true_eq_false, Bool.false_eq_true])
    apply h25
    (try simp (disch := omega) only [String.reduceEq, isRu_1, isRu_61, isGr_3, isSt_0, isSt_6, lg_selfT, isB_0, isB_1, eq_self, true_or, or_true, false_or, or_false, or_self, fa_lit, nI_add, pk_mul, pk_sub, nI_addm, nI_leI, nI_ltI, nI_eqI, vp_inI, ix_nI, forall_eq, true_implies, false_implies, not_true_eq_false, not_false_eq_true, and_true, true_and, false_and, and_false, nle_T, nle_F, nlt_T, nlt_F, neq_T, neq_F, up_rd_s, up_rd_n, up_nc, cpy_nc, cpy_in, cpy_out, cpyOk_T, m1_lt, m1_le, m1_nle, m1_nlt, m1_eq, m1_eq2, m1_0le, Nat.add_zero, Nat.zero_add, Nat.mul_one, Nat.sub_zero, if_true, if_false, Nat.add_sub_cancel, Nat.add_sub_cancel_left, in_in, in_inN, iw_in, rq_in, pw_fold, nt_fold, ask_pw, has_eq, or_0, bt1, Bool.true_eq_false, Bool.false_eq_true])
    refine X12_unknownSet (l := aVal a) hM.2.2.2.2.2.1 hA.1 hA.2 ?_
    refine X12_bits ?_
    rw [pc_sb]
    (try simp (disch := omega) only [String.reduceEq, isRu_1, isRu_61, isGr_3, isSt_0, isSt_6, lg_selfT, isB_0, isB_1, eq_self, true_or, or_true, false_or, or_false, or_self, fa_lit, nI_add, pk_mul, pk_sub, nI_addm, nI_leI, nI_ltI, nI_eqI, vp_inI, ix_nI, forall_eq, true_implies, false_implies, not_true_eq_false, not_false_eq_true, and_true, true_and, false_and, and_false, nle_T, nle_F, nlt_T, nlt_F, neq_T, neq_F, up_rd_s, up_rd_n, up_nc, cpy_nc, cpy_in, cpy_out, cpyOk_T, m1_lt, m1_le, m1_nle, m1_nlt, m1_eq, m1_eq2, m1_0le, Nat.add_zero, Nat.zero_add, Nat.mul_one, Nat.sub_zero, if_true, if_false, Nat.add_sub_cancel, Nat.add_sub_cancel_left, in_in, in_inN, iw_in, rq_in, pw_fold, nt_fold, ask_pw, has_eq, or_0, bt1, Bool.true_eq_false, Bool.false_eq_true])
    exact h _ _ (inv_th hw hE hM _)
theorem o_27 {xs : Nat → Int32} {i : Nat} {σ : Sto} {x : XP} {P : Sto → XP → Prop} (hI : Inv σ) (h : ∀ σ' x', Inv σ' → P σ' x') : DL_27 xs i σ x P := by
  obtain ⟨a, hw, hE, hM⟩ := hI
  unfold DL_27 D_L_possible D_X11_possible D_X12_possible D_X12_thrown D_X11_requireState D_X12_fails
  have hA : VA (aVal a) := hw.2.2.2.2.2.1
  intro K16 K56 h16 h56
  refine X11_unknown (l := aVal a) hE.2.2.2.2.2.1 hA.1 hA.2 ?_
  refine J6_bitCount (fun i hi => sb_hi hi) ?_
  rw [pc_sb]
  have hc6 := fb_ct_le (aUnk (aVal a)) 6
  by_cases hnu : fb_ct (aUnk (aVal a)) 6 ≤ 3
  · (try simp (disch := omega) only [String.reduceEq, isRu_1, isRu_61, isGr_3, isSt_0, isSt_6, lg_selfT, isB_0, isB_1, eq_self, true_or, or_true, false_or, or_false, or_self, fa_lit, nI_add, pk_mul, pk_sub, nI_addm, nI_leI, nI_ltI, nI_eqI, vp_inI, ix_nI, forall_eq, true_implies, false_implies, not_true_eq_false, not_false_eq_true, and_true, true_and, false_and, and_false, nle_T, nle_F, nlt_T, nlt_F, neq_T, neq_F, up_rd_s, up_rd_n, up_nc, cpy_nc, cpy_in, cpy_out, cpyOk_T, m1_lt, m1_le, m1_nle, m1_nlt, m1_eq, m1_eq2, m1_0le, Nat.add_zero, Nat.zero_add, Nat.mul_one, Nat.sub_zero, if_true, if_false, Nat.add_sub_cancel, Nat.add_sub_cancel_left, in_in, in_inN, iw_in, rq_in, pw_fold, nt_fold, ask_pw, has_eq, or_0, bt1, Bool.true_eq_false, Bool.false_eq_true])
    apply h16
    (try simp (disch := omega) only [String.reduceEq, isRu_1, isRu_61, isGr_3, isSt_0, isSt_6, lg_selfT, isB_0, isB_1, eq_self, true_or, or_true, false_or, or_false, or_self, fa_lit, nI_add, pk_mul, pk_sub, nI_addm, nI_leI, nI_ltI, nI_eqI, vp_inI, ix_nI, forall_eq, true_implies, false_implies, not_true_eq_false, not_false_eq_true, and_true, true_and, false_and, and_false, nle_T, nle_F, nlt_T, nlt_F, neq_T, neq_F, up_rd_s, up_rd_n, up_nc, cpy_nc, cpy_in, cpy_out, cpyOk_T, m1_lt, m1_le, m1_nle, m1_nlt, m1_eq, m1_eq2, m1_0le, Nat.add_zero, Nat.zero_add, Nat.mul_one, Nat.sub_zero, if_true, if_false, Nat.add_sub_cancel, Nat.add_sub_cancel_left, in_in, in_inN, iw_in, rq_in, pw_fold, nt_fold, ask_pw, has_eq, or_0, bt1, Bool.true_eq_false, Bool.false_eq_true])
    refine E_cnt hw hE hnu (fun σ1 f1 c1 => ?_)
    refine lp_set (K := fun c d => K56 c (nI d) σ1) (fun d => decide (0 < cA a d)) (fun c => c = sb (fun d => decide (0 < cA a d)) 4) 4 (fun c hc => ?_) (fun d c hd hp hK => ?_) (fun d c hd hp hK => ?_) rfl
    · apply h56
      (try simp (disch := omega) only [String.reduceEq, isRu_1, isRu_61, isGr_3, isSt_0, isSt_6, lg_selfT, isB_0, isB_1, eq_self, true_or, or_true, false_or, or_false, or_self, fa_lit, nI_add, pk_mul, pk_sub, nI_addm, nI_leI, nI_ltI, nI_eqI, vp_inI, ix_nI, forall_eq, true_implies, false_implies, not_true_eq_false, not_false_eq_true, and_true, true_and, false_and, and_false, nle_T, nle_F, nlt_T, nlt_F, neq_T, neq_F, up_rd_s, up_rd_n, up_nc, cpy_nc, cpy_in, cpy_out, cpyOk_T, m1_lt, m1_le, m1_nle, m1_nlt, m1_eq, m1_eq2, m1_0le, Nat.add_zero, Nat.zero_add, Nat.mul_one, Nat.sub_zero, if_true, if_false, Nat.add_sub_cancel, Nat.add_sub_cancel_left, in_in, in_inN, iw_in, rq_in, pw_fold, nt_fold, ask_pw, has_eq, or_0, bt1, Bool.true_eq_false, Bool.false_eq_true])
      intro K31 h31
      refine X12_unknownSet (l := aVal a) (by (try simp (disch := omega) only [String.reduceEq, isRu_1, isRu_61, isGr_3, isSt_0, isSt_6, lg_selfT, isB_0, isB_1, eq_self, true_or, or_true, false_or, or_false, or_self, fa_lit, nI_add, pk_mul, pk_sub, nI_addm, nI_leI, nI_ltI, nI_eqI, vp_inI, ix_nI, forall_eq, true_implies, false_implies, not_true_eq_false, not_false_eq_true, and_true, true_and, false_and, and_false, nle_T, nle_F, nlt_T, nlt_F, neq_T, neq_F, up_rd_s, up_rd_n, up_nc, cpy_nc, cpy_in, cpy_out, cpyOk_T, m1_lt, m1_le, m1_nle, m1_nlt, m1_eq, m1_eq2, m1_0le, Nat.add_zero, Nat.zero_add, Nat.mul_one, Nat.sub_zero, if_true, if_false, Nat.add_sub_cancel, Nat.add_sub_cancel_left, in_in, in_inN, iw_in, rq_in, pw_fold, nt_fold, ask_pw, has_eq, or_0, bt1, Bool.true_eq_false, Bool.false_eq_true]); rw [f1 91 (by omega)]; exact hM.2.2.2.2.2.1) hA.1 hA.2 ?_
      refine X12_bits ?_
      rw [pc_sb]
      (try simp (disch := omega) only [String.reduceEq, isRu_1, isRu_61, isGr_3, isSt_0, isSt_6, lg_selfT, isB_0, isB_1, eq_self, true_or, or_true, false_or, or_false, or_self, fa_lit, nI_add, pk_mul, pk_sub, nI_addm, nI_leI, nI_ltI, nI_eqI, vp_inI, ix_nI, forall_eq, true_implies, false_implies, not_true_eq_false, not_false_eq_true, and_true, true_and, false_and, and_false, nle_T, nle_F, nlt_T, nlt_F, neq_T, neq_F, up_rd_s, up_rd_n, up_nc, cpy_nc, cpy_in, cpy_out, cpyOk_T, m1_lt, m1_le, m1_nle, m1_nlt, m1_eq, m1_eq2, m1_0le, Nat.add_zero, Nat.zero_add, Nat.mul_one, Nat.sub_zero, if_true, if_false, Nat.add_sub_cancel, Nat.add_sub_cancel_left, in_in, in_inN, iw_in, rq_in, pw_fold, nt_fold, ask_pw, has_eq, or_0, bt1, Bool.true_eq_false, Bool.false_eq_true])
      have hM1 : RM a (up σ1 87 8 (nI 0)) := RM_th (RM_low (fun k hk => f1 k (by omega)) hM) _
      refine X12_completesAll (o := none) (un := aUnk (aVal a)) hw hM1 (fun z hz => by cases hz) (fun b _ => by rw [decide_eq_false (fun z => by cases z), Bool.or_false]) (fun σ2 f2 f2b c2 _ => ?_)
      have e8 : σ2 87 8 = nI 0 := by rw [f2b 8 (by omega) (by omega), up_at]
      refine lp_set (K := fun c d => K31 c (nI d) σ2) (fun d => decide (0 < cA a d)) (fun c => c = sb (fun d => decide (0 < cA a d)) 4) 4 (fun c' hc' => ?_) (fun d c' hd hp hK => ?_) (fun d c' hd hp hK => ?_) rfl
      · apply h31
        have ee : c' = c := hc'.trans hc.symm
        subst ee
        (try simp (disch := omega) only [String.reduceEq, isRu_1, isRu_61, isGr_3, isSt_0, isSt_6, lg_selfT, isB_0, isB_1, eq_self, true_or, or_true, false_or, or_false, or_self, fa_lit, nI_add, pk_mul, pk_sub, nI_addm, nI_leI, nI_ltI, nI_eqI, vp_inI, ix_nI, forall_eq, true_implies, false_implies, not_true_eq_false, not_false_eq_true, and_true, true_and, false_and, and_false, nle_T, nle_F, nlt_T, nlt_F, neq_T, neq_F, up_rd_s, up_rd_n, up_nc, cpy_nc, cpy_in, cpy_out, cpyOk_T, m1_lt, m1_le, m1_nle, m1_nlt, m1_eq, m1_eq2, m1_0le, Nat.add_zero, Nat.zero_add, Nat.mul_one, Nat.sub_zero, if_true, if_false, Nat.add_sub_cancel, Nat.add_sub_cancel_left, in_in, in_inN, iw_in, rq_in, pw_fold, nt_fold, ask_pw, has_eq, or_0, bt1, Bool.true_eq_false, Bool.false_eq_true, e8])
        exact h _ _ (scr_compl hw hE hM (fun c c1 _ => f1 c c1) f2 f2b)
      · apply h31
        have hp := of_decide_eq_true hp
        have hcl := cA_le a d
        have e := c2 d hd
        rw [show LA (aUnk (aVal a)) (gv (aVal a)) (Ld (aCore a).1 (wyA a) (aCore a).2.2.2 (UA a) d) 6 g0 = cA a d from rfl] at e
        (try simp (disch := omega) only [String.reduceEq, isRu_1, isRu_61, isGr_3, isSt_0, isSt_6, lg_selfT, isB_0, isB_1, eq_self, true_or, or_true, false_or, or_false, or_self, fa_lit, nI_add, pk_mul, pk_sub, nI_addm, nI_leI, nI_ltI, nI_eqI, vp_inI, ix_nI, forall_eq, true_implies, false_implies, not_true_eq_false, not_false_eq_true, and_true, true_and, false_and, and_false, nle_T, nle_F, nlt_T, nlt_F, neq_T, neq_F, up_rd_s, up_rd_n, up_nc, cpy_nc, cpy_in, cpy_out, cpyOk_T, m1_lt, m1_le, m1_nle, m1_nlt, m1_eq, m1_eq2, m1_0le, Nat.add_zero, Nat.zero_add, Nat.mul_one, Nat.sub_zero, if_true, if_false, Nat.add_sub_cancel, Nat.add_sub_cancel_left, in_in, in_inN, iw_in, rq_in, pw_fold, nt_fold, ask_pw, has_eq, or_0, bt1, Bool.true_eq_false, Bool.false_eq_true, e])
        exact hK
      · apply h31
        have hp := of_decide_eq_false hp
        have hcl := cA_le a d
        have e := c2 d hd
        rw [show LA (aUnk (aVal a)) (gv (aVal a)) (Ld (aCore a).1 (wyA a) (aCore a).2.2.2 (UA a) d) 6 g0 = cA a d from rfl] at e
        (try simp (disch := omega) only [String.reduceEq, isRu_1, isRu_61, isGr_3, isSt_0, isSt_6, lg_selfT, isB_0, isB_1, eq_self, true_or, or_true, false_or, or_false, or_self, fa_lit, nI_add, pk_mul, pk_sub, nI_addm, nI_leI, nI_ltI, nI_eqI, vp_inI, ix_nI, forall_eq, true_implies, false_implies, not_true_eq_false, not_false_eq_true, and_true, true_and, false_and, and_false, nle_T, nle_F, nlt_T, nlt_F, neq_T, neq_F, up_rd_s, up_rd_n, up_nc, cpy_nc, cpy_in, cpy_out, cpyOk_T, m1_lt, m1_le, m1_nle, m1_nlt, m1_eq, m1_eq2, m1_0le, Nat.add_zero, Nat.zero_add, Nat.mul_one, Nat.sub_zero, if_true, if_false, Nat.add_sub_cancel, Nat.add_sub_cancel_left, in_in, in_inN, iw_in, rq_in, pw_fold, nt_fold, ask_pw, has_eq, or_0, bt1, Bool.true_eq_false, Bool.false_eq_true, e])
        exact hK
    · apply h56
      have hp := of_decide_eq_true hp
      have hcl := cA_le a d
      have e := c1 d hd
      rw [show LA (aUnk (aVal a)) (gv (aVal a)) (Ld (aCore a).1 (wyA a) (aCore a).2.2.2 (UA a) d) 6 g0 = cA a d from rfl] at e
      (try simp (disch := omega) only [String.reduceEq, isRu_1, isRu_61, isGr_3, isSt_0, isSt_6, lg_selfT, isB_0, isB_1, eq_self, true_or, or_true, false_or, or_false, or_self, fa_lit, nI_add, pk_mul, pk_sub, nI_addm, nI_leI, nI_ltI, nI_eqI, vp_inI, ix_nI, forall_eq, true_implies, false_implies, not_true_eq_false, not_false_eq_true, and_true, true_and, false_and, and_false, nle_T, nle_F, nlt_T, nlt_F, neq_T, neq_F, up_rd_s, up_rd_n, up_nc, cpy_nc, cpy_in, cpy_out, cpyOk_T, m1_lt, m1_le, m1_nle, m1_nlt, m1_eq, m1_eq2, m1_0le, Nat.add_zero, Nat.zero_add, Nat.mul_one, Nat.sub_zero, if_true, if_false, Nat.add_sub_cancel, Nat.add_sub_cancel_left, in_in, in_inN, iw_in, rq_in, pw_fold, nt_fold, ask_pw, has_eq, or_0, bt1, Bool.true_eq_false, Bool.false_eq_true, e])
      exact hK
    · apply h56
      have hp := of_decide_eq_false hp
      have hcl := cA_le a d
      have e := c1 d hd
      rw [show LA (aUnk (aVal a)) (gv (aVal a)) (Ld (aCore a).1 (wyA a) (aCore a).2.2.2 (UA a) d) 6 g0 = cA a d from rfl] at e
      (try simp (disch := omega) only [String.reduceEq, isRu_1, isRu_61, isGr_3, isSt_0, isSt_6, lg_selfT, isB_0, isB_1, eq_self, true_or, or_true, false_or, or_false, or_self, fa_lit, nI_add, pk_mul, pk_sub, nI_addm, nI_leI, nI_ltI, nI_eqI, vp_inI, ix_nI, forall_eq, true_implies, false_implies, not_true_eq_false, not_false_eq_true, and_true, true_and, false_and, and_false, nle_T, nle_F, nlt_T, nlt_F, neq_T, neq_F, up_rd_s, up_rd_n, up_nc, cpy_nc, cpy_in, cpy_out, cpyOk_T, m1_lt, m1_le, m1_nle, m1_nlt, m1_eq, m1_eq2, m1_0le, Nat.add_zero, Nat.zero_add, Nat.mul_one, Nat.sub_zero, if_true, if_false, Nat.add_sub_cancel, Nat.add_sub_cancel_left, in_in, in_inN, iw_in, rq_in, pw_fold, nt_fold, ask_pw, has_eq, or_0, bt1, Bool.true_eq_false, Bool.false_eq_true, e])
      exact hK
  · (try simp (disch := omega) only [String.reduceEq, isRu_1, isRu_61, isGr_3, isSt_0, isSt_6, lg_selfT, isB_0, isB_1, eq_self, true_or, or_true, false_or, or_false, or_self, fa_lit, nI_add, pk_mul, pk_sub, nI_addm, nI_leI, nI_ltI, nI_eqI, vp_inI, ix_nI, forall_eq, true_implies, false_implies, not_true_eq_false, not_false_eq_true, and_true, true_and, false_and, and_false, nle_T, nle_F, nlt_T, nlt_F, neq_T, neq_F, up_rd_s, up_rd_n, up_nc, cpy_nc, cpy_in, cpy_out, cpyOk_T, m1_lt, m1_le, m1_nle, m1_nlt, m1_eq, m1_eq2, m1_0le, Nat.add_zero, Nat.zero_add, Nat.mul_one, Nat.sub_zero, if_true, if_false, Nat.add_sub_cancel, Nat.add_sub_cancel_left, in_in, in_inN, iw_in, rq_in, pw_fold, nt_fold, ask_pw, has_eq, or_0, bt1, Bool.true_eq_false, Bool.false_eq_true])
    apply h16
    (try simp (disch := omega) only [String.reduceEq, isRu_1, isRu_61, isGr_3, isSt_0, isSt_6, lg_selfT, isB_0, isB_1, eq_self, true_or, or_true, false_or, or_false, or_self, fa_lit, nI_add, pk_mul, pk_sub, nI_addm, nI_leI, nI_ltI, nI_eqI, vp_inI, ix_nI, forall_eq, true_implies, false_implies, not_true_eq_false, not_false_eq_true, and_true, true_and, false_and, and_false, nle_T, nle_F, nlt_T, nlt_F, neq_T, neq_F, up_rd_s, up_rd_n, up_nc, cpy_nc, cpy_in, cpy_out, cpyOk_T, m1_lt, m1_le, m1_nle, m1_nlt, m1_eq, m1_eq2, m1_0le, Nat.add_zero, Nat.zero_add, Nat.mul_one, Nat.sub_zero, if_true, if_false, Nat.add_sub_cancel, Nat.add_sub_cancel_left, in_in, in_inN, iw_in, rq_in, pw_fold, nt_fold, ask_pw, has_eq, or_0, bt1, Bool.true_eq_false, Bool.false_eq_true])
    intro K31 h31
    refine X12_unknownSet (l := aVal a) (by (try simp (disch := omega) only [String.reduceEq, isRu_1, isRu_61, isGr_3, isSt_0, isSt_6, lg_selfT, isB_0, isB_1, eq_self, true_or, or_true, false_or, or_false, or_self, fa_lit, nI_add, pk_mul, pk_sub, nI_addm, nI_leI, nI_ltI, nI_eqI, vp_inI, ix_nI, forall_eq, true_implies, false_implies, not_true_eq_false, not_false_eq_true, and_true, true_and, false_and, and_false, nle_T, nle_F, nlt_T, nlt_F, neq_T, neq_F, up_rd_s, up_rd_n, up_nc, cpy_nc, cpy_in, cpy_out, cpyOk_T, m1_lt, m1_le, m1_nle, m1_nlt, m1_eq, m1_eq2, m1_0le, Nat.add_zero, Nat.zero_add, Nat.mul_one, Nat.sub_zero, if_true, if_false, Nat.add_sub_cancel, Nat.add_sub_cancel_left, in_in, in_inN, iw_in, rq_in, pw_fold, nt_fold, ask_pw, has_eq, or_0, bt1, Bool.true_eq_false, Bool.false_eq_true]); exact hM.2.2.2.2.2.1) hA.1 hA.2 ?_
    refine X12_bits ?_
    rw [pc_sb]
    (try simp (disch := omega) only [String.reduceEq, isRu_1, isRu_61, isGr_3, isSt_0, isSt_6, lg_selfT, isB_0, isB_1, eq_self, true_or, or_true, false_or, or_false, or_self, fa_lit, nI_add, pk_mul, pk_sub, nI_addm, nI_leI, nI_ltI, nI_eqI, vp_inI, ix_nI, forall_eq, true_implies, false_implies, not_true_eq_false, not_false_eq_true, and_true, true_and, false_and, and_false, nle_T, nle_F, nlt_T, nlt_F, neq_T, neq_F, up_rd_s, up_rd_n, up_nc, cpy_nc, cpy_in, cpy_out, cpyOk_T, m1_lt, m1_le, m1_nle, m1_nlt, m1_eq, m1_eq2, m1_0le, Nat.add_zero, Nat.zero_add, Nat.mul_one, Nat.sub_zero, if_true, if_false, Nat.add_sub_cancel, Nat.add_sub_cancel_left, in_in, in_inN, iw_in, rq_in, pw_fold, nt_fold, ask_pw, has_eq, or_0, bt1, Bool.true_eq_false, Bool.false_eq_true])
    exact h _ _ (inv_same hw hE hM (fun k hk => by unfold reC at hk; (try simp (disch := omega) only [String.reduceEq, isRu_1, isRu_61, isGr_3, isSt_0, isSt_6, lg_selfT, isB_0, isB_1, eq_self, true_or, or_true, false_or, or_false, or_self, fa_lit, nI_add, pk_mul, pk_sub, nI_addm, nI_leI, nI_ltI, nI_eqI, vp_inI, ix_nI, forall_eq, true_implies, false_implies, not_true_eq_false, not_false_eq_true, and_true, true_and, false_and, and_false, nle_T, nle_F, nlt_T, nlt_F, neq_T, neq_F, up_rd_s, up_rd_n, up_nc, cpy_nc, cpy_in, cpy_out, cpyOk_T, m1_lt, m1_le, m1_nle, m1_nlt, m1_eq, m1_eq2, m1_0le, Nat.add_zero, Nat.zero_add, Nat.mul_one, Nat.sub_zero, if_true, if_false, Nat.add_sub_cancel, Nat.add_sub_cancel_left, in_in, in_inN, iw_in, rq_in, pw_fold, nt_fold, ask_pw, has_eq, or_0, bt1, Bool.true_eq_false, Bool.false_eq_true])) (fun k hk => by unfold rmC at hk; (try simp (disch := omega) only [String.reduceEq, isRu_1, isRu_61, isGr_3, isSt_0, isSt_6, lg_selfT, isB_0, isB_1, eq_self, true_or, or_true, false_or, or_false, or_self, fa_lit, nI_add, pk_mul, pk_sub, nI_addm, nI_leI, nI_ltI, nI_eqI, vp_inI, ix_nI, forall_eq, true_implies, false_implies, not_true_eq_false, not_false_eq_true, and_true, true_and, false_and, and_false, nle_T, nle_F, nlt_T, nlt_F, neq_T, neq_F, up_rd_s, up_rd_n, up_nc, cpy_nc, cpy_in, cpy_out, cpyOk_T, m1_lt, m1_le, m1_nle, m1_nlt, m1_eq, m1_eq2, m1_0le, Nat.add_zero, Nat.zero_add, Nat.mul_one, Nat.sub_zero, if_true, if_false, Nat.add_sub_cancel, Nat.add_sub_cancel_left, in_in, in_inN, iw_in, rq_in, pw_fold, nt_fold, ask_pw, has_eq, or_0, bt1, Bool.true_eq_false, Bool.false_eq_true])) (fun f hf => by unfold rmF at hf; (try simp (disch := omega) only [String.reduceEq, isRu_1, isRu_61, isGr_3, isSt_0, isSt_6, lg_selfT, isB_0, isB_1, eq_self, true_or, or_true, false_or, or_false, or_self, fa_lit, nI_add, pk_mul, pk_sub, nI_addm, nI_leI, nI_ltI, nI_eqI, vp_inI, ix_nI, forall_eq, true_implies, false_implies, not_true_eq_false, not_false_eq_true, and_true, true_and, false_and, and_false, nle_T, nle_F, nlt_T, nlt_F, neq_T, neq_F, up_rd_s, up_rd_n, up_nc, cpy_nc, cpy_in, cpy_out, cpyOk_T, m1_lt, m1_le, m1_nle, m1_nlt, m1_eq, m1_eq2, m1_0le, Nat.add_zero, Nat.zero_add, Nat.mul_one, Nat.sub_zero, if_true, if_false, Nat.add_sub_cancel, Nat.add_sub_cancel_left, in_in, in_inN, iw_in, rq_in, pw_fold, nt_fold, ask_pw, has_eq, or_0, bt1, Bool.true_eq_false, Bool.false_eq_true])))
