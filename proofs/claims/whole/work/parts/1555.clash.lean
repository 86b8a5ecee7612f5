/-! MATH. clashes. -/
theorem sm_sw (f : Nat → Nat → Nat) (m : Nat) : ∀ n, fb_sm (fun i => fb_sm (fun j => f i j) m) n = fb_sm (fun j => fb_sm (fun i => f i j) n) m
  | 0 => by
    have h : fb_sm (fun j => fb_sm (fun i => f i j) 0) m = fb_sm (fun _ => 0) m := fb_sm_cong (fun k _ => rfl)
    rw [h, fb_sm_const, Nat.mul_zero]
    rfl
  | n + 1 => by
    rw [fb_sm_succ, sm_sw f m n, ← fb_sm_add]
    rfl
theorem sm_one {f : Nat → Nat} {k : Nat} : ∀ {n : Nat}, k < n → (∀ j, j < n → j ≠ k → f j = 0) → fb_sm f n = f k
  | 0, h, _ => absurd h (Nat.not_lt_zero _)
  | n + 1, h, h0 => by
    rw [fb_sm_succ]
    by_cases e : k = n
    · subst e
      rw [fb_sm_cong (g := fun _ => 0) (fun j hj => h0 j (by omega) (by omega)), fb_sm_const, Nat.mul_zero, Nat.zero_add]
    · rw [sm_one (n := n) (by omega) (fun j hj => h0 j (by omega)), h0 n (by omega) (by omega), Nat.add_zero]
theorem ct_sm (p : Nat → Bool) : ∀ n, fb_ct p n = fb_sm (fun k => if p k then 1 else 0) n
  | 0 => rfl
  | n + 1 => by rw [fb_ct_succ, fb_sm_succ, ct_sm p n]
theorem sm_re {n : Nat} {s t : Nat → Nat} (hs : ∀ i, i < n → s i < n) (ht : ∀ i, i < n → t i < n) (st : ∀ i, i < n → s (t i) = i) (ts : ∀ i, i < n → t (s i) = i) (g : Nat → Nat) : fb_sm (fun k => g (t k)) n = fb_sm g n := by
  have h1 : fb_sm (fun k => g (t k)) n = fb_sm (fun k => fb_sm (fun r => if r = t k then g r else 0) n) n := by
    refine fb_sm_cong fun k hk => ?_
    rw [sm_one (k := t k) (ht k hk) (fun j _ hj => if_neg hj), if_pos rfl]
  have h2 : fb_sm (fun r => fb_sm (fun k => if r = t k then g r else 0) n) n = fb_sm g n := by
    refine fb_sm_cong fun r hr => ?_
    rw [sm_one (k := s r) (hs r hr) (fun j hj hne => if_neg (fun e => hne (by rw [e, st j hj]))), if_pos (ts r hr).symm]
  rw [h1, sm_sw, h2]
/-- two rules of a policy that are opposed and overlap -/
def opp (l : List mRule) (p r q : Nat) : Bool := decide ((rOf l r).1 = p) && (decide ((rOf l q).1 = p) && !decide ((rOf l r).2.1 = (rOf l q).2.1))
def SS (l : List mRule) (p r q : Nat) : Bool := opp l p r q && ovl l r q
theorem ovl_sym (l : List mRule) (r q : Nat) : ovl l r q = ovl l q r := by
  unfold ovl
  have : (fun a => decide (bx l r a &&& bx l q a = nI 0)) = fun a => decide (bx l q a &&& bx l r a = nI 0) := funext fun a => by rw [Int32.and_comm]
  rw [this]
theorem SS_sym (l : List mRule) (p r q : Nat) : SS l p r q = SS l p q r := by
  unfold SS opp
  rw [ovl_sym]
  have : decide ((rOf l r).2.1 = (rOf l q).2.1) = decide ((rOf l q).2.1 = (rOf l r).2.1) := decide_eq_decide.mpr ⟨Eq.symm, Eq.symm⟩
  rw [this]
  cases decide ((rOf l r).1 = p) <;> cases decide ((rOf l q).1 = p) <;> rfl
theorem SS_irr (l : List mRule) (p r : Nat) : SS l p r r = false := by
  unfold SS opp
  rw [decide_eq_true (show (rOf l r).2.1 = (rOf l r).2.1 from rfl)]
  cases decide ((rOf l r).1 = p) <;> rfl
/-- pairs counted once, in any order of the rules -/
theorem pairs {n : Nat} {G : Nat → Nat → Bool} (hs : ∀ r q, G r q = G q r) (hi : ∀ r, G r r = false) {o : Nat → Nat → Bool} (h1 : ∀ r q, r < n → q < n → r ≠ q → o r q = !o q r) : 2 * fb_sm (fun r => fb_ct (fun q => o r q && G r q) n) n = fb_sm (fun r => fb_ct (fun q => G r q) n) n := by
  have e1 : fb_sm (fun r => fb_ct (fun q => o r q && G r q) n) n = fb_sm (fun r => fb_ct (fun q => o q r && G r q) n) n := by
    have a1 : fb_sm (fun r => fb_ct (fun q => o r q && G r q) n) n = fb_sm (fun r => fb_sm (fun q => if (o r q && G r q) then 1 else 0) n) n := fb_sm_cong fun r _ => ct_sm _ n
    have a2 : fb_sm (fun r => fb_ct (fun q => o q r && G r q) n) n = fb_sm (fun r => fb_sm (fun q => if (o q r && G r q) then 1 else 0) n) n := fb_sm_cong fun r _ => ct_sm _ n
    rw [a1, a2, sm_sw]
    refine fb_sm_cong fun j _ => fb_sm_cong fun i _ => ?_
    rw [hs]
  have e2 : fb_sm (fun r => fb_ct (fun q => G r q) n) n = fb_sm (fun r => fb_ct (fun q => o r q && G r q) n + fb_ct (fun q => o q r && G r q) n) n := by
    refine fb_sm_cong fun r hr => ?_
    rw [← fb_ct_or]
    · refine fb_ct_cong fun q hq => ?_
      by_cases e : r = q
      · subst e
        rw [hi, Bool.and_false]
        rfl
      · rw [h1 r q hr hq e]
        cases o q r <;> cases G r q <;> rfl
    · intro q hq
      by_cases e : r = q
      · subst e
        rw [hi, Bool.and_false]
        simp
      · rw [h1 r q hr hq e]
        cases o q r <;> cases G r q <;> simp
  rw [e2, fb_sm_add, ← e1]
  omega
/-- the engine's count and the model's -/
def cE (l : List mRule) (p i : Nat) : Nat := fb_ct (fun j => decide (i < j) && SS l p (ra l i) (ra l j)) l.length
def cM (l : List mRule) (p r : Nat) : Nat := fb_ct (fun q => SS l p r q) r
theorem cEM {l : List mRule} (hS : SUR l) (p : Nat) : fb_sm (cE l p) l.length = fb_sm (cM l p) l.length := by
  have ra_n : ∀ k, k < l.length → ra l k < l.length := by
    intro k hk
    obtain ⟨r, hr, rfl⟩ := hS k hk
    rw [ra_rk hr]
    exact hr
  have rk_ra : ∀ k, k < l.length → rk l (ra l k) = k := by
    intro k hk
    obtain ⟨r, hr, rfl⟩ := hS k hk
    rw [ra_rk hr]
  have re := fun g => sm_re (n := l.length) (s := rk l) (t := ra l) (fun i hi => rk_n hi) ra_n rk_ra (fun i hi => ra_rk hi) g
  have a1 : fb_sm (cE l p) l.length = fb_sm (fun r => fb_ct (fun q => decide (rk l r < rk l q) && SS l p r q) l.length) l.length := by
    rw [← re (fun r => fb_ct (fun q => decide (rk l r < rk l q) && SS l p r q) l.length)]
    refine fb_sm_cong fun i hi => ?_
    show fb_ct _ _ = _
    rw [ct_sm, ct_sm, ← re (fun q => if (decide (rk l (ra l i) < rk l q) && SS l p (ra l i) q) then 1 else 0)]
    refine fb_sm_cong fun j hj => ?_
    rw [rk_ra i hi, rk_ra j hj]
  have a2 : fb_sm (cM l p) l.length = fb_sm (fun r => fb_ct (fun q => decide (q < r) && SS l p r q) l.length) l.length := by
    refine fb_sm_cong fun r hr => ?_
    show fb_ct _ _ = _
    have := fb_ct_split (fun q => decide (q < r) && SS l p r q) r (l.length - r)
    rw [show r + (l.length - r) = l.length by omega] at this
    have hz : fb_ct (fun k => decide (r + k < r) && SS l p r (r + k)) (l.length - r) = 0 := fb_ct_zero.mpr (fun k hk => by show (decide (r + k < r) && SS l p r (r + k)) = false; rw [decide_eq_false (by omega), Bool.false_and])
    rw [this, hz, Nat.add_zero]
    refine fb_ct_cong fun q hq => ?_
    show SS l p r q = (decide (q < r) && SS l p r q)
    rw [decide_eq_true hq, Bool.true_and]
  have b1 := pairs (n := l.length) (G := SS l p) (SS_sym l p) (SS_irr l p) (o := fun r q => decide (rk l r < rk l q)) (fun r q hr hq hne => by
    have : rk l r ≠ rk l q := fun e => hne (rk_inj hr hq e)
    by_cases h : rk l r < rk l q
    · show decide _ = !decide _
      rw [decide_eq_true h, decide_eq_false (by omega)]
      rfl
    · show decide _ = !decide _
      rw [decide_eq_false h, decide_eq_true (by omega)]
      rfl)
  have b2 := pairs (n := l.length) (G := SS l p) (SS_sym l p) (SS_irr l p) (o := fun r q => decide (q < r)) (fun r q hr hq hne => by
    by_cases h : q < r
    · show decide _ = !decide _
      rw [decide_eq_true h, decide_eq_false (by omega)]
      rfl
    · show decide _ = !decide _
      rw [decide_eq_false h, decide_eq_true (by omega)]
      rfl)
  rw [a1, a2]
  have b1 : 2 * fb_sm (fun r => fb_ct (fun q => decide (rk l r < rk l q) && SS l p r q) l.length) l.length = _ := b1
  have b2 : 2 * fb_sm (fun r => fb_ct (fun q => decide (q < r) && SS l p r q) l.length) l.length = _ := b2
  omega
theorem pp_nt {i j : Nat} (hi : i < 32) (hj : j < 32) {X : Int32} : ((pw i ||| pw j) &&& nt X = nI 0) = (bt X i = true ∧ bt X j = true) := by
  apply propext
  constructor
  · intro h
    have g := b_eq0.mp h
    constructor
    · have := g i hi
      rw [b_and, b_or, b_pw hi, b_nt _ hi, decide_eq_true rfl, Bool.true_or, Bool.true_and] at this
      cases q : bt X i with
      | true => rfl
      | false => rw [q] at this; cases this
    · have := g j hj
      rw [b_and, b_or, b_pw hj, b_nt _ hj, decide_eq_true rfl, Bool.or_true, Bool.true_and] at this
      cases q : bt X j with
      | true => rfl
      | false => rw [q] at this; cases this
  · rintro ⟨h1, h2⟩
    refine b_eq0.mpr fun k hk => ?_
    rw [b_and, b_or, b_pw hi, b_pw hj, b_nt _ hk]
    by_cases e : k = i
    · subst e; rw [h1]; simp
    · by_cases e2 : k = j
      · subst e2; rw [h2]; simp
      · rw [decide_eq_false e, decide_eq_false e2]; rfl
theorem pp_0 {i j : Nat} (hi : i < 32) (hj : j < 32) {X : Int32} : ((pw i ||| pw j) &&& X = nI 0) = (bt X i = false ∧ bt X j = false) := by
  apply propext
  constructor
  · intro h
    have g := b_eq0.mp h
    constructor
    · have := g i hi
      rw [b_and, b_or, b_pw hi, decide_eq_true rfl, Bool.true_or, Bool.true_and] at this
      exact this
    · have := g j hj
      rw [b_and, b_or, b_pw hj, decide_eq_true rfl, Bool.or_true, Bool.true_and] at this
      exact this
  · rintro ⟨h1, h2⟩
    refine b_eq0.mpr fun k hk => ?_
    rw [b_and, b_or, b_pw hi, b_pw hj]
    by_cases e : k = i
    · subst e; rw [h1]; simp
    · by_cases e2 : k = j
      · subst e2; rw [h2]; simp
      · rw [decide_eq_false e, decide_eq_false e2]; rfl
theorem pp_all {i j : Nat} (hi : i < 32) (hj : j < 32) {X : Int32} : ((pw i ||| pw j) &&& X = pw i ||| pw j) = (bt X i = true ∧ bt X j = true) := by
  apply propext
  constructor
  · intro h
    constructor
    · have := congrArg (fun z => bt z i) h
      have this : bt ((pw i ||| pw j) &&& X) i = bt (pw i ||| pw j) i := this
      rw [b_and, b_or, b_pw hi, decide_eq_true rfl, Bool.true_or, Bool.true_and] at this
      exact this
    · have := congrArg (fun z => bt z j) h
      have this : bt ((pw i ||| pw j) &&& X) j = bt (pw i ||| pw j) j := this
      rw [b_and, b_or, b_pw hj, decide_eq_true rfl, Bool.or_true, Bool.true_and] at this
      exact this
  · rintro ⟨h1, h2⟩
    apply b_ext
    intro k hk
    rw [b_and, b_or, b_pw hi, b_pw hj]
    by_cases e : k = i
    · subst e; rw [h1]; simp
    · by_cases e2 : k = j
      · subst e2; rw [h2]; simp
      · rw [decide_eq_false e, decide_eq_false e2]; rfl
theorem X5_areOpposed {l : List mRule} {r q p : Nat} {σ : Sto} {P : Int32 → Sto → Prop} (hW : RW l) (hT : TBL l σ) (hr : r < l.length) (hq : q < l.length) (hp : p < 4) (h : P (if opp l p r q then nI 1 else nI 0) σ) : D_X5_areOpposed (nI (rk l r)) (nI (rk l q)) (nI p) σ P := by
  unfold D_X5_areOpposed
  have hl := hW.1
  have hrk := rk_n hr
  have hqk := rk_n hq
  obtain ⟨-, -, -, -, r5, r6⟩ := hT.2.1 r hr
  obtain ⟨-, -, -, -, q5, q6⟩ := hT.2.1 q hq
  have r5 := r5 p hp
  have q5 := q5 p hp
  have wr := (hW.2 _ (rMem hr)).2.1
  have wq := (hW.2 _ (rMem hq)).2.1
  have i1 : rk l r < 32 := by omega
  have i2 : rk l q < 32 := by omega
  by_cases c1 : (rOf l r).1 = p
  · rw [decide_eq_true c1] at r5
    by_cases c2 : (rOf l q).1 = p
    · rw [decide_eq_true c2] at q5
      by_cases d1 : (rOf l r).2.1 = 1
      · rw [decide_eq_true d1] at r6
        by_cases d2 : (rOf l q).2.1 = 1
        · rw [decide_eq_true d2] at q6
          have ho : opp l p r q = false := by
            unfold opp
            rw [decide_eq_true (show (rOf l r).2.1 = (rOf l q).2.1 by omega), decide_eq_true c1, decide_eq_true c2]
            rfl
          rw [ho] at h
          (try simp (disch := omega) only [String.reduceEq, isRu_1, isRu_61, isGr_3, isSt_0, isSt_6, lg_selfT, isB_0, isB_1, eq_self, true_or, or_true, false_or, or_false, or_self, fa_lit, nI_add, pk_mul, pk_sub, nI_addm, nI_leI, nI_ltI, nI_eqI, vp_inI, ix_nI, forall_eq, true_implies, false_implies, not_true_eq_false, not_false_eq_true, and_true, true_and, false_and, and_false, nle_T, nle_F, nlt_T, nlt_F, neq_T, neq_F, up_rd_s, up_rd_n, up_nc, cpy_nc, cpy_in, cpy_out, cpyOk_T, m1_lt, m1_le, m1_nle, m1_nlt, m1_eq, m1_eq2, m1_0le, Nat.add_zero, Nat.zero_add, Nat.mul_one, Nat.sub_zero, if_true, if_false, Nat.add_sub_cancel, Nat.add_sub_cancel_left, in_in, in_inN, iw_in, rq_in, pw_fold, nt_fold, ask_pw, has_eq, or_0, bt1, Bool.true_eq_false, Bool.false_eq_true, pp_nt i1 i2, pp_0 i1 i2, pp_all i1 i2, r5, q5, r6, q6])
          exact h
        · rw [decide_eq_false d2] at q6
          have ho : opp l p r q = true := by
            unfold opp
            rw [decide_eq_false (show ¬ (rOf l r).2.1 = (rOf l q).2.1 by omega), decide_eq_true c1, decide_eq_true c2]
            rfl
          rw [ho] at h
          (try simp (disch := omega) only [String.reduceEq, isRu_1, isRu_61, isGr_3, isSt_0, isSt_6, lg_selfT, isB_0, isB_1, eq_self, true_or, or_true, false_or, or_false, or_self, fa_lit, nI_add, pk_mul, pk_sub, nI_addm, nI_leI, nI_ltI, nI_eqI, vp_inI, ix_nI, forall_eq, true_implies, false_implies, not_true_eq_false, not_false_eq_true, and_true, true_and, false_and, and_false, nle_T, nle_F, nlt_T, nlt_F, neq_T, neq_F, up_rd_s, up_rd_n, up_nc, cpy_nc, cpy_in, cpy_out, cpyOk_T, m1_lt, m1_le, m1_nle, m1_nlt, m1_eq, m1_eq2, m1_0le, Nat.add_zero, Nat.zero_add, Nat.mul_one, Nat.sub_zero, if_true, if_false, Nat.add_sub_cancel, Nat.add_sub_cancel_left, in_in, in_inN, iw_in, rq_in, pw_fold, nt_fold, ask_pw, has_eq, or_0, bt1, Bool.true_eq_false, Bool.false_eq_true, pp_nt i1 i2, pp_0 i1 i2, pp_all i1 i2, r5, q5, r6, q6])
          exact h
      · rw [decide_eq_false d1] at r6
        by_cases d2 : (rOf l q).2.1 = 1
        · rw [decide_eq_true d2] at q6
          have ho : opp l p r q = true := by
            unfold opp
            rw [decide_eq_false (show ¬ (rOf l r).2.1 = (rOf l q).2.1 by omega), decide_eq_true c1, decide_eq_true c2]
            rfl
          rw [ho] at h
          (try simp (disch := omega) only [String.reduceEq, isRu_1, isRu_61, isGr_3, isSt_0, isSt_6, lg_selfT, isB_0, isB_1, eq_self, true_or, or_true, false_or, or_false, or_self, fa_lit, nI_add, pk_mul, pk_sub, nI_addm, nI_leI, nI_ltI, nI_eqI, vp_inI, ix_nI, forall_eq, true_implies, false_implies, not_true_eq_false, not_false_eq_true, and_true, true_and, false_and, and_false, nle_T, nle_F, nlt_T, nlt_F, neq_T, neq_F, up_rd_s, up_rd_n, up_nc, cpy_nc, cpy_in, cpy_out, cpyOk_T, m1_lt, m1_le, m1_nle, m1_nlt, m1_eq, m1_eq2, m1_0le, Nat.add_zero, Nat.zero_add, Nat.mul_one, Nat.sub_zero, if_true, if_false, Nat.add_sub_cancel, Nat.add_sub_cancel_left, in_in, in_inN, iw_in, rq_in, pw_fold, nt_fold, ask_pw, has_eq, or_0, bt1, Bool.true_eq_false, Bool.false_eq_true, pp_nt i1 i2, pp_0 i1 i2, pp_all i1 i2, r5, q5, r6, q6])
          exact h
        · rw [decide_eq_false d2] at q6
          have ho : opp l p r q = false := by
            unfold opp
            rw [decide_eq_true (show (rOf l r).2.1 = (rOf l q).2.1 by omega), decide_eq_true c1, decide_eq_true c2]
            rfl
          rw [ho] at h
          (try simp (disch := omega) only [String.reduceEq, isRu_1, isRu_61, isGr_3, isSt_0, isSt_6, lg_selfT, isB_0, isB_1, eq_self, true_or, or_true, false_or, or_false, or_self, fa_lit, nI_add, pk_mul, pk_sub, nI_addm, nI_leI, nI_ltI, nI_eqI, vp_inI, ix_nI, forall_eq, true_implies, false_implies, not_true_eq_false, not_false_eq_true, and_true, true_and, false_and, and_false, nle_T, nle_F, nlt_T, nlt_F, neq_T, neq_F, up_rd_s, up_rd_n, up_nc, cpy_nc, cpy_in, cpy_out, cpyOk_T, m1_lt, m1_le, m1_nle, m1_nlt, m1_eq, m1_eq2, m1_0le, Nat.add_zero, Nat.zero_add, Nat.mul_one, Nat.sub_zero, if_true, if_false, Nat.add_sub_cancel, Nat.add_sub_cancel_left, in_in, in_inN, iw_in, rq_in, pw_fold, nt_fold, ask_pw, has_eq, or_0, bt1, Bool.true_eq_false, Bool.false_eq_true, pp_nt i1 i2, pp_0 i1 i2, pp_all i1 i2, r5, q5, r6, q6])
          exact h
    · rw [decide_eq_false c2] at q5
      have ho : opp l p r q = false := by
        unfold opp
        rw [decide_eq_false c2, Bool.false_and, Bool.and_false]
      rw [ho] at h
      (try simp (disch := omega) only [String.reduceEq, isRu_1, isRu_61, isGr_3, isSt_0, isSt_6, lg_selfT, isB_0, isB_1, eq_self, true_or, or_true, false_or, or_false, or_self, fa_lit, nI_add, pk_mul, pk_sub, nI_addm, nI_leI, nI_ltI, nI_eqI, vp_inI, ix_nI, forall_eq, true_implies, false_implies, not_true_eq_false, not_false_eq_true, and_true, true_and, false_and, and_false, nle_T, nle_F, nlt_T, nlt_F, neq_T, neq_F, up_rd_s, up_rd_n, up_nc, cpy_nc, cpy_in, cpy_out, cpyOk_T, m1_lt, m1_le, m1_nle, m1_nlt, m1_eq, m1_eq2, m1_0le, Nat.add_zero, Nat.zero_add, Nat.mul_one, Nat.sub_zero, if_true, if_false, Nat.add_sub_cancel, Nat.add_sub_cancel_left, in_in, in_inN, iw_in, rq_in, pw_fold, nt_fold, ask_pw, has_eq, or_0, bt1, Bool.true_eq_false, Bool.false_eq_true, pp_nt i1 i2, r5, q5])
      exact h
  · rw [decide_eq_false c1] at r5
    have ho : opp l p r q = false := by
      unfold opp
      rw [decide_eq_false c1, Bool.false_and]
    rw [ho] at h
    (try simp (disch := omega) only [String.reduceEq, isRu_1, isRu_61, isGr_3, isSt_0, isSt_6, lg_selfT, isB_0, isB_1, eq_self, true_or, or_true, false_or, or_false, or_self, fa_lit, nI_add, pk_mul, pk_sub, nI_addm, nI_leI, nI_ltI, nI_eqI, vp_inI, ix_nI, forall_eq, true_implies, false_implies, not_true_eq_false, not_false_eq_true, and_true, true_and, false_and, and_false, nle_T, nle_F, nlt_T, nlt_F, neq_T, neq_F, up_rd_s, up_rd_n, up_nc, cpy_nc, cpy_in, cpy_out, cpyOk_T, m1_lt, m1_le, m1_nle, m1_nlt, m1_eq, m1_eq2, m1_0le, Nat.add_zero, Nat.zero_add, Nat.mul_one, Nat.sub_zero, if_true, if_false, Nat.add_sub_cancel, Nat.add_sub_cancel_left, in_in, in_inN, iw_in, rq_in, pw_fold, nt_fold, ask_pw, has_eq, or_0, bt1, Bool.true_eq_false, Bool.false_eq_true, pp_nt i1 i2, r5])
    exact h
theorem cE_0 (l : List mRule) (p i : Nat) : fb_ct (fun j => decide (i < j) && SS l p (ra l i) (ra l j)) (i + 1) = 0 := fb_ct_zero.mpr fun k hk => by rw [decide_eq_false (show ¬ i < k by omega), Bool.false_and]
theorem X5_clashesIn {l : List mRule} {p : Nat} {σ : Sto} {P : Int32 → Sto → Prop} (hW : RW l) (hT : TBL l σ) (hp : p < 4) (h : P (nI (fb_sm (cE l p) l.length)) σ) : D_X5_clashesIn (nI p) σ P := by
  intro K4 K17 h4 h17
  have e6 : σ 65 6 = nI l.length := hT.1
  have hl := hW.1
  refine loop_dn l.length (fun i => K4 (nI (fb_sm (cE l p) i)) (nI i) σ) ?_ ?_ 0 (Nat.zero_le _)
  · apply h4
    (try simp (disch := omega) only [String.reduceEq, isRu_1, isRu_61, isGr_3, isSt_0, isSt_6, lg_selfT, isB_0, isB_1, eq_self, true_or, or_true, false_or, or_false, or_self, fa_lit, nI_add, pk_mul, pk_sub, nI_addm, nI_leI, nI_ltI, nI_eqI, vp_inI, ix_nI, forall_eq, true_implies, false_implies, not_true_eq_false, not_false_eq_true, and_true, true_and, false_and, and_false, nle_T, nle_F, nlt_T, nlt_F, neq_T, neq_F, up_rd_s, up_rd_n, up_nc, cpy_nc, cpy_in, cpy_out, cpyOk_T, m1_lt, m1_le, m1_nle, m1_nlt, m1_eq, m1_eq2, m1_0le, Nat.add_zero, Nat.zero_add, Nat.mul_one, Nat.sub_zero, if_true, if_false, Nat.add_sub_cancel, Nat.add_sub_cancel_left, in_in, in_inN, iw_in, rq_in, pw_fold, nt_fold, ask_pw, has_eq, or_0, bt1, Bool.true_eq_false, Bool.false_eq_true, e6])
    exact h
  · intro i hi hK
    apply h4
    (try simp (disch := omega) only [String.reduceEq, isRu_1, isRu_61, isGr_3, isSt_0, isSt_6, lg_selfT, isB_0, isB_1, eq_self, true_or, or_true, false_or, or_false, or_self, fa_lit, nI_add, pk_mul, pk_sub, nI_addm, nI_leI, nI_ltI, nI_eqI, vp_inI, ix_nI, forall_eq, true_implies, false_implies, not_true_eq_false, not_false_eq_true, and_true, true_and, false_and, and_false, nle_T, nle_F, nlt_T, nlt_F, neq_T, neq_F, up_rd_s, up_rd_n, up_nc, cpy_nc, cpy_in, cpy_out, cpyOk_T, m1_lt, m1_le, m1_nle, m1_nlt, m1_eq, m1_eq2, m1_0le, Nat.add_zero, Nat.zero_add, Nat.mul_one, Nat.sub_zero, if_true, if_false, Nat.add_sub_cancel, Nat.add_sub_cancel_left, in_in, in_inN, iw_in, rq_in, pw_fold, nt_fold, ask_pw, has_eq, or_0, bt1, Bool.true_eq_false, Bool.false_eq_true, e6])
    obtain ⟨r, hr, er⟩ := TBL_S hT i hi
    have err : ra l i = r := by rw [← er, ra_rk hr]
    have inner := loop_dn l.length (fun j => i < j → K17 (nI (fb_sm (cE l p) i + fb_ct (fun j => decide (i < j) && SS l p (ra l i) (ra l j)) j)) (nI i) (nI j) σ) (fun _ => by
      apply h17
      (try simp (disch := omega) only [String.reduceEq, isRu_1, isRu_61, isGr_3, isSt_0, isSt_6, lg_selfT, isB_0, isB_1, eq_self, true_or, or_true, false_or, or_false, or_self, fa_lit, nI_add, pk_mul, pk_sub, nI_addm, nI_leI, nI_ltI, nI_eqI, vp_inI, ix_nI, forall_eq, true_implies, false_implies, not_true_eq_false, not_false_eq_true, and_true, true_and, false_and, and_false, nle_T, nle_F, nlt_T, nlt_F, neq_T, neq_F, up_rd_s, up_rd_n, up_nc, cpy_nc, cpy_in, cpy_out, cpyOk_T, m1_lt, m1_le, m1_nle, m1_nlt, m1_eq, m1_eq2, m1_0le, Nat.add_zero, Nat.zero_add, Nat.mul_one, Nat.sub_zero, if_true, if_false, Nat.add_sub_cancel, Nat.add_sub_cancel_left, in_in, in_inN, iw_in, rq_in, pw_fold, nt_fold, ask_pw, has_eq, or_0, bt1, Bool.true_eq_false, Bool.false_eq_true, e6])
      exact hK) (fun j hj hK2 hij => by
      have hK2 := hK2 (by omega)
      rw [fb_ct_succ] at hK2
      obtain ⟨q, hq, eq⟩ := TBL_S hT j hj
      have eqq : ra l j = q := by rw [← eq, ra_rk hq]
      have hS : SS l p (ra l i) (ra l j) = (opp l p r q && ovl l r q) := by
        rw [err, eqq]
        rfl
      rw [decide_eq_true hij, Bool.true_and, hS] at hK2
      apply h17
      (try simp (disch := omega) only [String.reduceEq, isRu_1, isRu_61, isGr_3, isSt_0, isSt_6, lg_selfT, isB_0, isB_1, eq_self, true_or, or_true, false_or, or_false, or_self, fa_lit, nI_add, pk_mul, pk_sub, nI_addm, nI_leI, nI_ltI, nI_eqI, vp_inI, ix_nI, forall_eq, true_implies, false_implies, not_true_eq_false, not_false_eq_true, and_true, true_and, false_and, and_false, nle_T, nle_F, nlt_T, nlt_F, neq_T, neq_F, up_rd_s, up_rd_n, up_nc, cpy_nc, cpy_in, cpy_out, cpyOk_T, m1_lt, m1_le, m1_nle, m1_nlt, m1_eq, m1_eq2, m1_0le, Nat.add_zero, Nat.zero_add, Nat.mul_one, Nat.sub_zero, if_true, if_false, Nat.add_sub_cancel, Nat.add_sub_cancel_left, in_in, in_inN, iw_in, rq_in, pw_fold, nt_fold, ask_pw, has_eq, or_0, bt1, Bool.true_eq_false, Bool.false_eq_true, e6])
      rw [show nI i = nI (rk l r) by rw [er], show nI j = nI (rk l q) by rw [eq]]
      refine X5_areOpposed hW hT hr hq hp ?_
      cases ho : opp l p r q with
      | false =>
        rw [ho, Bool.false_and, if_neg (by decide), Nat.add_zero] at hK2
        (try simp (disch := omega) only [String.reduceEq, isRu_1, isRu_61, isGr_3, isSt_0, isSt_6, lg_selfT, isB_0, isB_1, eq_self, true_or, or_true, false_or, or_false, or_self, fa_lit, nI_add, pk_mul, pk_sub, nI_addm, nI_leI, nI_ltI, nI_eqI, vp_inI, ix_nI, forall_eq, true_implies, false_implies, not_true_eq_false, not_false_eq_true, and_true, true_and, false_and, and_false, nle_T, nle_F, nlt_T, nlt_F, neq_T, neq_F, up_rd_s, up_rd_n, up_nc, cpy_nc, cpy_in, cpy_out, cpyOk_T, m1_lt, m1_le, m1_nle, m1_nlt, m1_eq, m1_eq2, m1_0le, Nat.add_zero, Nat.zero_add, Nat.mul_one, Nat.sub_zero, if_true, if_false, Nat.add_sub_cancel, Nat.add_sub_cancel_left, in_in, in_inN, iw_in, rq_in, pw_fold, nt_fold, ask_pw, has_eq, or_0, bt1, Bool.true_eq_false, Bool.false_eq_true])
        rw [er]
        exact hK2
      | true =>
        rw [ho, Bool.true_and] at hK2
        (try simp (disch := omega) only [String.reduceEq, isRu_1, isRu_61, isGr_3, isSt_0, isSt_6, lg_selfT, isB_0, isB_1, eq_self, true_or, or_true, false_or, or_false, or_self, fa_lit, nI_add, pk_mul, pk_sub, nI_addm, nI_leI, nI_ltI, nI_eqI, vp_inI, ix_nI, forall_eq, true_implies, false_implies, not_true_eq_false, not_false_eq_true, and_true, true_and, false_and, and_false, nle_T, nle_F, nlt_T, nlt_F, neq_T, neq_F, up_rd_s, up_rd_n, up_nc, cpy_nc, cpy_in, cpy_out, cpyOk_T, m1_lt, m1_le, m1_nle, m1_nlt, m1_eq, m1_eq2, m1_0le, Nat.add_zero, Nat.zero_add, Nat.mul_one, Nat.sub_zero, if_true, if_false, Nat.add_sub_cancel, Nat.add_sub_cancel_left, in_in, in_inN, iw_in, rq_in, pw_fold, nt_fold, ask_pw, has_eq, or_0, bt1, Bool.true_eq_false, Bool.false_eq_true])
        refine X5_meet hl hT hr hq ?_
        cases hv : ovl l r q with
        | false =>
          rw [hv, if_neg (by decide), Nat.add_zero] at hK2
          (try simp (disch := omega) only [String.reduceEq, isRu_1, isRu_61, isGr_3, isSt_0, isSt_6, lg_selfT, isB_0, isB_1, eq_self, true_or, or_true, false_or, or_false, or_self, fa_lit, nI_add, pk_mul, pk_sub, nI_addm, nI_leI, nI_ltI, nI_eqI, vp_inI, ix_nI, forall_eq, true_implies, false_implies, not_true_eq_false, not_false_eq_true, and_true, true_and, false_and, and_false, nle_T, nle_F, nlt_T, nlt_F, neq_T, neq_F, up_rd_s, up_rd_n, up_nc, cpy_nc, cpy_in, cpy_out, cpyOk_T, m1_lt, m1_le, m1_nle, m1_nlt, m1_eq, m1_eq2, m1_0le, Nat.add_zero, Nat.zero_add, Nat.mul_one, Nat.sub_zero, if_true, if_false, Nat.add_sub_cancel, Nat.add_sub_cancel_left, in_in, in_inN, iw_in, rq_in, pw_fold, nt_fold, ask_pw, has_eq, or_0, bt1, Bool.true_eq_false, Bool.false_eq_true])
          rw [er]
          exact hK2
        | true =>
          rw [hv, if_pos rfl] at hK2
          (try simp (disch := omega) only [String.reduceEq, isRu_1, isRu_61, isGr_3, isSt_0, isSt_6, lg_selfT, isB_0, isB_1, eq_self, true_or, or_true, false_or, or_false, or_self, fa_lit, nI_add, pk_mul, pk_sub, nI_addm, nI_leI, nI_ltI, nI_eqI, vp_inI, ix_nI, forall_eq, true_implies, false_implies, not_true_eq_false, not_false_eq_true, and_true, true_and, false_and, and_false, nle_T, nle_F, nlt_T, nlt_F, neq_T, neq_F, up_rd_s, up_rd_n, up_nc, cpy_nc, cpy_in, cpy_out, cpyOk_T, m1_lt, m1_le, m1_nle, m1_nlt, m1_eq, m1_eq2, m1_0le, Nat.add_zero, Nat.zero_add, Nat.mul_one, Nat.sub_zero, if_true, if_false, Nat.add_sub_cancel, Nat.add_sub_cancel_left, in_in, in_inN, iw_in, rq_in, pw_fold, nt_fold, ask_pw, has_eq, or_0, bt1, Bool.true_eq_false, Bool.false_eq_true])
          rw [er]
          exact hK2) (i + 1) (by omega) (by omega)
    rw [cE_0, Nat.add_zero] at inner
    exact inner
theorem X12_clashes {l : List mRule} {p : Nat} {σ : Sto} {P : Int32 → Sto → Prop} (hR : RLM l σ) (hW : RW l) (hp : p < 4) (h : ∀ σ2 : Sto, (∀ c, c ≠ 93 → σ2 c = (up σ 87 8 (nI 0)) c) → P (nI (fb_sm (cM l p) l.length)) σ2) : D_X12_clashes (nI p) σ P := by
  unfold D_X12_clashes D_X12_isPolicy
  intro K33 K46 K94 h33 h46 h94
  have hn := hW.1
  (try simp (disch := omega) only [String.reduceEq, isRu_1, isRu_61, isGr_3, isSt_0, isSt_6, lg_selfT, isB_0, isB_1, eq_self, true_or, or_true, false_or, or_false, or_self, fa_lit, nI_add, pk_mul, pk_sub, nI_addm, nI_leI, nI_ltI, nI_eqI, vp_inI, ix_nI, forall_eq, true_implies, false_implies, not_true_eq_false, not_false_eq_true, and_true, true_and, false_and, and_false, nle_T, nle_F, nlt_T, nlt_F, neq_T, neq_F, up_rd_s, up_rd_n, up_nc, cpy_nc, cpy_in, cpy_out, cpyOk_T, m1_lt, m1_le, m1_nle, m1_nlt, m1_eq, m1_eq2, m1_0le, Nat.add_zero, Nat.zero_add, Nat.mul_one, Nat.sub_zero, if_true, if_false, Nat.add_sub_cancel, Nat.add_sub_cancel_left, in_in, in_inN, iw_in, rq_in, pw_fold, nt_fold, ask_pw, has_eq, or_0, bt1, Bool.true_eq_false, Bool.false_eq_true])
  refine X12_laySets (l := l) (RLM_cg (by (try simp (disch := omega) only [String.reduceEq, isRu_1, isRu_61, isGr_3, isSt_0, isSt_6, lg_selfT, isB_0, isB_1, eq_self, true_or, or_true, false_or, or_false, or_self, fa_lit, nI_add, pk_mul, pk_sub, nI_addm, nI_leI, nI_ltI, nI_eqI, vp_inI, ix_nI, forall_eq, true_implies, false_implies, not_true_eq_false, not_false_eq_true, and_true, true_and, false_and, and_false, nle_T, nle_F, nlt_T, nlt_F, neq_T, neq_F, up_rd_s, up_rd_n, up_nc, cpy_nc, cpy_in, cpy_out, cpyOk_T, m1_lt, m1_le, m1_nle, m1_nlt, m1_eq, m1_eq2, m1_0le, Nat.add_zero, Nat.zero_add, Nat.mul_one, Nat.sub_zero, if_true, if_false, Nat.add_sub_cancel, Nat.add_sub_cancel_left, in_in, in_inN, iw_in, rq_in, pw_fold, nt_fold, ask_pw, has_eq, or_0, bt1, Bool.true_eq_false, Bool.false_eq_true])) hR) hW (fun σ2 f2 t2 => ?_)
  have hR2 : RLM l σ2 := RLM_cg (by rw [f2 88 (by omega)]; (try simp (disch := omega) only [String.reduceEq, isRu_1, isRu_61, isGr_3, isSt_0, isSt_6, lg_selfT, isB_0, isB_1, eq_self, true_or, or_true, false_or, or_false, or_self, fa_lit, nI_add, pk_mul, pk_sub, nI_addm, nI_leI, nI_ltI, nI_eqI, vp_inI, ix_nI, forall_eq, true_implies, false_implies, not_true_eq_false, not_false_eq_true, and_true, true_and, false_and, and_false, nle_T, nle_F, nlt_T, nlt_F, neq_T, neq_F, up_rd_s, up_rd_n, up_nc, cpy_nc, cpy_in, cpy_out, cpyOk_T, m1_lt, m1_le, m1_nle, m1_nlt, m1_eq, m1_eq2, m1_0le, Nat.add_zero, Nat.zero_add, Nat.mul_one, Nat.sub_zero, if_true, if_false, Nat.add_sub_cancel, Nat.add_sub_cancel_left, in_in, in_inN, iw_in, rq_in, pw_fold, nt_fold, ask_pw, has_eq, or_0, bt1, Bool.true_eq_false, Bool.false_eq_true])) hR
  have e2 : σ2 88 0 = nI l.length := hR2.2
  refine loop_dn l.length (fun i => K33 (nI (fb_sm (cM l p) i)) (nI i) σ2) ?_ ?_ 0 (Nat.zero_le _)
  · apply h33
    (try simp (disch := omega) only [String.reduceEq, isRu_1, isRu_61, isGr_3, isSt_0, isSt_6, lg_selfT, isB_0, isB_1, eq_self, true_or, or_true, false_or, or_false, or_self, fa_lit, nI_add, pk_mul, pk_sub, nI_addm, nI_leI, nI_ltI, nI_eqI, vp_inI, ix_nI, forall_eq, true_implies, false_implies, not_true_eq_false, not_false_eq_true, and_true, true_and, false_and, and_false, nle_T, nle_F, nlt_T, nlt_F, neq_T, neq_F, up_rd_s, up_rd_n, up_nc, cpy_nc, cpy_in, cpy_out, cpyOk_T, m1_lt, m1_le, m1_nle, m1_nlt, m1_eq, m1_eq2, m1_0le, Nat.add_zero, Nat.zero_add, Nat.mul_one, Nat.sub_zero, if_true, if_false, Nat.add_sub_cancel, Nat.add_sub_cancel_left, in_in, in_inN, iw_in, rq_in, pw_fold, nt_fold, ask_pw, has_eq, or_0, bt1, Bool.true_eq_false, Bool.false_eq_true, e2])
    exact h σ2 f2
  · intro r hr hK
    apply h33
    (try simp (disch := omega) only [String.reduceEq, isRu_1, isRu_61, isGr_3, isSt_0, isSt_6, lg_selfT, isB_0, isB_1, eq_self, true_or, or_true, false_or, or_false, or_self, fa_lit, nI_add, pk_mul, pk_sub, nI_addm, nI_leI, nI_ltI, nI_eqI, vp_inI, ix_nI, forall_eq, true_implies, false_implies, not_true_eq_false, not_false_eq_true, and_true, true_and, false_and, and_false, nle_T, nle_F, nlt_T, nlt_F, neq_T, neq_F, up_rd_s, up_rd_n, up_nc, cpy_nc, cpy_in, cpy_out, cpyOk_T, m1_lt, m1_le, m1_nle, m1_nlt, m1_eq, m1_eq2, m1_0le, Nat.add_zero, Nat.zero_add, Nat.mul_one, Nat.sub_zero, if_true, if_false, Nat.add_sub_cancel, Nat.add_sub_cancel_left, in_in, in_inN, iw_in, rq_in, pw_fold, nt_fold, ask_pw, has_eq, or_0, bt1, Bool.true_eq_false, Bool.false_eq_true, e2])
    obtain ⟨m0, m1, m2, m3⟩ := rlM hR2 hr
    have wr := hW.2 _ (rMem hr)
    have w0 := wr.1
    have w1 := wr.2.1
    refine loop_dn r (fun q => K46 (nI (fb_sm (cM l p) r + fb_ct (fun q => SS l p r q) q)) (nI r) (nI q) σ2) ?_ ?_ 0 (Nat.zero_le _)
    · apply h46
      (try simp (disch := omega) only [String.reduceEq, isRu_1, isRu_61, isGr_3, isSt_0, isSt_6, lg_selfT, isB_0, isB_1, eq_self, true_or, or_true, false_or, or_false, or_self, fa_lit, nI_add, pk_mul, pk_sub, nI_addm, nI_leI, nI_ltI, nI_eqI, vp_inI, ix_nI, forall_eq, true_implies, false_implies, not_true_eq_false, not_false_eq_true, and_true, true_and, false_and, and_false, nle_T, nle_F, nlt_T, nlt_F, neq_T, neq_F, up_rd_s, up_rd_n, up_nc, cpy_nc, cpy_in, cpy_out, cpyOk_T, m1_lt, m1_le, m1_nle, m1_nlt, m1_eq, m1_eq2, m1_0le, Nat.add_zero, Nat.zero_add, Nat.mul_one, Nat.sub_zero, if_true, if_false, Nat.add_sub_cancel, Nat.add_sub_cancel_left, in_in, in_inN, iw_in, rq_in, pw_fold, nt_fold, ask_pw, has_eq, or_0, bt1, Bool.true_eq_false, Bool.false_eq_true])
      exact hK
    · intro q hqr hK2
      have hq : q < l.length := by omega
      obtain ⟨n0, n1, n2, n3⟩ := rlM hR2 hq
      have wq := hW.2 _ (rMem hq)
      have x0 := wq.1
      have x1 := wq.2.1
      rw [fb_ct_succ] at hK2
      rw [show SS l p r q = (opp l p r q && ovl l r q) from rfl] at hK2
      apply h46
      by_cases c1 : (rOf l r).1 = p
      · by_cases c2 : (rOf l q).1 = p
        · by_cases c3 : (rOf l r).2.1 = (rOf l q).2.1
          · have ho : opp l p r q = false := by
              unfold opp
              rw [decide_eq_true c3, decide_eq_true c1, decide_eq_true c2]
              rfl
            rw [ho, Bool.false_and, if_neg (by decide), Nat.add_zero] at hK2
            (try simp (disch := omega) only [String.reduceEq, isRu_1, isRu_61, isGr_3, isSt_0, isSt_6, lg_selfT, isB_0, isB_1, eq_self, true_or, or_true, false_or, or_false, or_self, fa_lit, nI_add, pk_mul, pk_sub, nI_addm, nI_leI, nI_ltI, nI_eqI, vp_inI, ix_nI, forall_eq, true_implies, false_implies, not_true_eq_false, not_false_eq_true, and_true, true_and, false_and, and_false, nle_T, nle_F, nlt_T, nlt_F, neq_T, neq_F, up_rd_s, up_rd_n, up_nc, cpy_nc, cpy_in, cpy_out, cpyOk_T, m1_lt, m1_le, m1_nle, m1_nlt, m1_eq, m1_eq2, m1_0le, Nat.add_zero, Nat.zero_add, Nat.mul_one, Nat.sub_zero, if_true, if_false, Nat.add_sub_cancel, Nat.add_sub_cancel_left, in_in, in_inN, iw_in, rq_in, pw_fold, nt_fold, ask_pw, has_eq, or_0, bt1, Bool.true_eq_false, Bool.false_eq_true, D_X12_of, m0, n0, m1, n1, c1, c2, c3])
            apply h94
            (try simp (disch := omega) only [String.reduceEq, isRu_1, isRu_61, isGr_3, isSt_0, isSt_6, lg_selfT, isB_0, isB_1, eq_self, true_or, or_true, false_or, or_false, or_self, fa_lit, nI_add, pk_mul, pk_sub, nI_addm, nI_leI, nI_ltI, nI_eqI, vp_inI, ix_nI, forall_eq, true_implies, false_implies, not_true_eq_false, not_false_eq_true, and_true, true_and, false_and, and_false, nle_T, nle_F, nlt_T, nlt_F, neq_T, neq_F, up_rd_s, up_rd_n, up_nc, cpy_nc, cpy_in, cpy_out, cpyOk_T, m1_lt, m1_le, m1_nle, m1_nlt, m1_eq, m1_eq2, m1_0le, Nat.add_zero, Nat.zero_add, Nat.mul_one, Nat.sub_zero, if_true, if_false, Nat.add_sub_cancel, Nat.add_sub_cancel_left, in_in, in_inN, iw_in, rq_in, pw_fold, nt_fold, ask_pw, has_eq, or_0, bt1, Bool.true_eq_false, Bool.false_eq_true])
            exact hK2
          · have ho : opp l p r q = true := by
              unfold opp
              rw [decide_eq_false c3, decide_eq_true c1, decide_eq_true c2]
              rfl
            rw [ho, Bool.true_and] at hK2
            (try simp (disch := omega) only [String.reduceEq, isRu_1, isRu_61, isGr_3, isSt_0, isSt_6, lg_selfT, isB_0, isB_1, eq_self, true_or, or_true, false_or, or_false, or_self, fa_lit, nI_add, pk_mul, pk_sub, nI_addm, nI_leI, nI_ltI, nI_eqI, vp_inI, ix_nI, forall_eq, true_implies, false_implies, not_true_eq_false, not_false_eq_true, and_true, true_and, false_and, and_false, nle_T, nle_F, nlt_T, nlt_F, neq_T, neq_F, up_rd_s, up_rd_n, up_nc, cpy_nc, cpy_in, cpy_out, cpyOk_T, m1_lt, m1_le, m1_nle, m1_nlt, m1_eq, m1_eq2, m1_0le, Nat.add_zero, Nat.zero_add, Nat.mul_one, Nat.sub_zero, if_true, if_false, Nat.add_sub_cancel, Nat.add_sub_cancel_left, in_in, in_inN, iw_in, rq_in, pw_fold, nt_fold, ask_pw, has_eq, or_0, bt1, Bool.true_eq_false, Bool.false_eq_true, D_X12_of, m0, n0, m1, n1, c1, c2])
            apply h94
            (try simp (disch := omega) only [String.reduceEq, isRu_1, isRu_61, isGr_3, isSt_0, isSt_6, lg_selfT, isB_0, isB_1, eq_self, true_or, or_true, false_or, or_false, or_self, fa_lit, nI_add, pk_mul, pk_sub, nI_addm, nI_leI, nI_ltI, nI_eqI, vp_inI, ix_nI, forall_eq, true_implies, false_implies, not_true_eq_false, not_false_eq_true, and_true, true_and, false_and, and_false, nle_T, nle_F, nlt_T, nlt_F, neq_T, neq_F, up_rd_s, up_rd_n, up_nc, cpy_nc, cpy_in, cpy_out, cpyOk_T, m1_lt, m1_le, m1_nle, m1_nlt, m1_eq, m1_eq2, m1_0le, Nat.add_zero, Nat.zero_add, Nat.mul_one, Nat.sub_zero, if_true, if_false, Nat.add_sub_cancel, Nat.add_sub_cancel_left, in_in, in_inN, iw_in, rq_in, pw_fold, nt_fold, ask_pw, has_eq, or_0, bt1, Bool.true_eq_false, Bool.false_eq_true])
            refine X12_overlaps hn t2 hr hq ?_
            cases hv : ovl l r q with
            | false =>
              rw [hv, if_neg (by decide), Nat.add_zero] at hK2
              (try simp (disch := omega) only [String.reduceEq, isRu_1, isRu_61, isGr_3, isSt_0, isSt_6, lg_selfT, isB_0, isB_1, eq_self, true_or, or_true, false_or, or_false, or_self, fa_lit, nI_add, pk_mul, pk_sub, nI_addm, nI_leI, nI_ltI, nI_eqI, vp_inI, ix_nI, forall_eq, true_implies, false_implies, not_true_eq_false, not_false_eq_true, and_true, true_and, false_and, and_false, nle_T, nle_F, nlt_T, nlt_F, neq_T, neq_F, up_rd_s, up_rd_n, up_nc, cpy_nc, cpy_in, cpy_out, cpyOk_T, m1_lt, m1_le, m1_nle, m1_nlt, m1_eq, m1_eq2, m1_0le, Nat.add_zero, Nat.zero_add, Nat.mul_one, Nat.sub_zero, if_true, if_false, Nat.add_sub_cancel, Nat.add_sub_cancel_left, in_in, in_inN, iw_in, rq_in, pw_fold, nt_fold, ask_pw, has_eq, or_0, bt1, Bool.true_eq_false, Bool.false_eq_true])
              exact hK2
            | true =>
              rw [hv, if_pos rfl] at hK2
              (try simp (disch := omega) only [String.reduceEq, isRu_1, isRu_61, isGr_3, isSt_0, isSt_6, lg_selfT, isB_0, isB_1, eq_self, true_or, or_true, false_or, or_false, or_self, fa_lit, nI_add, pk_mul, pk_sub, nI_addm, nI_leI, nI_ltI, nI_eqI, vp_inI, ix_nI, forall_eq, true_implies, false_implies, not_true_eq_false, not_false_eq_true, and_true, true_and, false_and, and_false, nle_T, nle_F, nlt_T, nlt_F, neq_T, neq_F, up_rd_s, up_rd_n, up_nc, cpy_nc, cpy_in, cpy_out, cpyOk_T, m1_lt, m1_le, m1_nle, m1_nlt, m1_eq, m1_eq2, m1_0le, Nat.add_zero, Nat.zero_add, Nat.mul_one, Nat.sub_zero, if_true, if_false, Nat.add_sub_cancel, Nat.add_sub_cancel_left, in_in, in_inN, iw_in, rq_in, pw_fold, nt_fold, ask_pw, has_eq, or_0, bt1, Bool.true_eq_false, Bool.false_eq_true])
              exact hK2
        · have ho : opp l p r q = false := by
            unfold opp
            rw [decide_eq_false c2, Bool.false_and, Bool.and_false]
          rw [ho, Bool.false_and, if_neg (by decide), Nat.add_zero] at hK2
          (try simp (disch := omega) only [String.reduceEq, isRu_1, isRu_61, isGr_3, isSt_0, isSt_6, lg_selfT, isB_0, isB_1, eq_self, true_or, or_true, false_or, or_false, or_self, fa_lit, nI_add, pk_mul, pk_sub, nI_addm, nI_leI, nI_ltI, nI_eqI, vp_inI, ix_nI, forall_eq, true_implies, false_implies, not_true_eq_false, not_false_eq_true, and_true, true_and, false_and, and_false, nle_T, nle_F, nlt_T, nlt_F, neq_T, neq_F, up_rd_s, up_rd_n, up_nc, cpy_nc, cpy_in, cpy_out, cpyOk_T, m1_lt, m1_le, m1_nle, m1_nlt, m1_eq, m1_eq2, m1_0le, Nat.add_zero, Nat.zero_add, Nat.mul_one, Nat.sub_zero, if_true, if_false, Nat.add_sub_cancel, Nat.add_sub_cancel_left, in_in, in_inN, iw_in, rq_in, pw_fold, nt_fold, ask_pw, has_eq, or_0, bt1, Bool.true_eq_false, Bool.false_eq_true, D_X12_of, m0, n0, m1, n1, c1])
          apply h94
          (try simp (disch := omega) only [String.reduceEq, isRu_1, isRu_61, isGr_3, isSt_0, isSt_6, lg_selfT, isB_0, isB_1, eq_self, true_or, or_true, false_or, or_false, or_self, fa_lit, nI_add, pk_mul, pk_sub, nI_addm, nI_leI, nI_ltI, nI_eqI, vp_inI, ix_nI, forall_eq, true_implies, false_implies, not_true_eq_false, not_false_eq_true, and_true, true_and, false_and, and_false, nle_T, nle_F, nlt_T, nlt_F, neq_T, neq_F, up_rd_s, up_rd_n, up_nc, cpy_nc, cpy_in, cpy_out, cpyOk_T, m1_lt, m1_le, m1_nle, m1_nlt, m1_eq, m1_eq2, m1_0le, Nat.add_zero, Nat.zero_add, Nat.mul_one, Nat.sub_zero, if_true, if_false, Nat.add_sub_cancel, Nat.add_sub_cancel_left, in_in, in_inN, iw_in, rq_in, pw_fold, nt_fold, ask_pw, has_eq, or_0, bt1, Bool.true_eq_false, Bool.false_eq_true])
          exact hK2
      · have ho : opp l p r q = false := by
          unfold opp
          rw [decide_eq_false c1, Bool.false_and]
        rw [ho, Bool.false_and, if_neg (by decide), Nat.add_zero] at hK2
        (try simp (disch := omega) only [String.reduceEq, isRu_1, isRu_61, isGr_3, isSt_0, isSt_6, lg_selfT, isB_0, isB_1, eq_self, true_or, or_true, false_or, or_false, or_self, fa_lit, nI_add, pk_mul, pk_sub, nI_addm, nI_leI, nI_ltI, nI_eqI, vp_inI, ix_nI, forall_eq, true_implies, false_implies, not_true_eq_false, not_false_eq_true, and_true, true_and, false_and, and_false, nle_T, nle_F, nlt_T, nlt_F, neq_T, neq_F, up_rd_s, up_rd_n, up_nc, cpy_nc, cpy_in, cpy_out, cpyOk_T, m1_lt, m1_le, m1_nle, m1_nlt, m1_eq, m1_eq2, m1_0le, Nat.add_zero, Nat.zero_add, Nat.mul_one, Nat.sub_zero, if_true, if_false, Nat.add_sub_cancel, Nat.add_sub_cancel_left, in_in, in_inN, iw_in, rq_in, pw_fold, nt_fold, ask_pw, has_eq, or_0, bt1, Bool.true_eq_false, Bool.false_eq_true, D_X12_of, m0, n0, m1, n1])
        apply h94
        (try simp (disch := omega) only [String.reduceEq, isRu_1, isRu_61, isGr_3, isSt_0, isSt_6, lg_selfT, isB_0, isB_1, eq_self, true_or, or_true, false_or, or_false, or_self, fa_lit, nI_add, pk_mul, pk_sub, nI_addm, nI_leI, nI_ltI, nI_eqI, vp_inI, ix_nI, forall_eq, true_implies, false_implies, not_true_eq_false, not_false_eq_true, and_true, true_and, false_and, and_false, nle_T, nle_F, nlt_T, nlt_F, neq_T, neq_F, up_rd_s, up_rd_n, up_nc, cpy_nc, cpy_in, cpy_out, cpyOk_T, m1_lt, m1_le, m1_nle, m1_nlt, m1_eq, m1_eq2, m1_0le, Nat.add_zero, Nat.zero_add, Nat.mul_one, Nat.sub_zero, if_true, if_false, Nat.add_sub_cancel, Nat.add_sub_cancel_left, in_in, in_inN, iw_in, rq_in, pw_fold, nt_fold, ask_pw, has_eq, or_0, bt1, Bool.true_eq_false, Bool.false_eq_true])
        exact hK2
theorem o_33 {xs : Nat → Int32} {i : Nat} {σ : Sto} {x : XP} {P : Sto → XP → Prop} (hI : Inv σ) (h : ∀ σ' x', Inv σ' → P σ' x') : DL_33 xs i σ x P := by
  obtain ⟨a, hw, hE, hM⟩ := hI
  unfold DL_33 D_L_clashes D_X11_clashes D_X12_thrown
  generalize xs (i + 1) = a1
  have hn : (aCore a).1.length ≤ 24 := hw.1.1
  rcases rg a1 (n := 4) (by decide) with h1 | ⟨p, hp, rfl⟩
  · (try simp (disch := omega) only [String.reduceEq, isRu_1, isRu_61, isGr_3, isSt_0, isSt_6, lg_selfT, isB_0, isB_1, eq_self, true_or, or_true, false_or, or_false, or_self, fa_lit, nI_add, pk_mul, pk_sub, nI_addm, nI_leI, nI_ltI, nI_eqI, vp_inI, ix_nI, forall_eq, true_implies, false_implies, not_true_eq_false, not_false_eq_true, and_true, true_and, false_and, and_false, nle_T, nle_F, nlt_T, nlt_F, neq_T, neq_F, up_rd_s, up_rd_n, up_nc, cpy_nc, cpy_in, cpy_out, cpyOk_T, m1_lt, m1_le, m1_nle, m1_nlt, m1_eq, m1_eq2, m1_0le, Nat.add_zero, Nat.zero_add, Nat.mul_one, Nat.sub_zero, if_true, if_false, Nat.add_sub_cancel, Nat.add_sub_cancel_left, in_in, in_inN, iw_in, rq_in, pw_fold, nt_fold, ask_pw, has_eq, or_0, bt1, Bool.true_eq_false, Bool.false_eq_true, rq_out h1])
    unfold D_X12_clashes D_X12_isPolicy
    intro K33 K46 K94 h33 h46 h94
    (try simp (disch := omega) only [String.reduceEq, isRu_1, isRu_61, isGr_3, isSt_0, isSt_6, lg_selfT, isB_0, isB_1, eq_self, true_or, or_true, false_or, or_false, or_self, fa_lit, nI_add, pk_mul, pk_sub, nI_addm, nI_leI, nI_ltI, nI_eqI, vp_inI, ix_nI, forall_eq, true_implies, false_implies, not_true_eq_false, not_false_eq_true, and_true, true_and, false_and, and_false, nle_T, nle_F, nlt_T, nlt_F, neq_T, neq_F, up_rd_s, up_rd_n, up_nc, cpy_nc, cpy_in, cpy_out, cpyOk_T, m1_lt, m1_le, m1_nle, m1_nlt, m1_eq, m1_eq2, m1_0le, Nat.add_zero, Nat.zero_add, Nat.mul_one, Nat.sub_zero, if_true, if_false, Nat.add_sub_cancel, Nat.add_sub_cancel_left, in_in, in_inN, iw_in, rq_in, pw_fold, nt_fold, ask_pw, has_eq, or_0, bt1, Bool.true_eq_false, Bool.false_eq_true, in_out (n := 4) rfl (by decide) h1])
    exact h _ _ (inv_th hw hE hM _)
  (try simp (disch := omega) only [String.reduceEq, isRu_1, isRu_61, isGr_3, isSt_0, isSt_6, lg_selfT, isB_0, isB_1, eq_self, true_or, or_true, false_or, or_false, or_self, fa_lit, nI_add, pk_mul, pk_sub, nI_addm, nI_leI, nI_ltI, nI_eqI, vp_inI, ix_nI, forall_eq, true_implies, false_implies, not_true_eq_false, not_false_eq_true, and_true, true_and, false_and, and_false, nle_T, nle_F, nlt_T, nlt_F, neq_T, neq_F, up_rd_s, up_rd_n, up_nc, cpy_nc, cpy_in, cpy_out, cpyOk_T, m1_lt, m1_le, m1_nle, m1_nlt, m1_eq, m1_eq2, m1_0le, Nat.add_zero, Nat.zero_add, Nat.mul_one, Nat.sub_zero, if_true, if_false, Nat.add_sub_cancel, Nat.add_sub_cancel_left, in_in, in_inN, iw_in, rq_in, pw_fold, nt_fold, ask_pw, has_eq, or_0, bt1, Bool.true_eq_false, Bool.false_eq_true])
  refine X5_refresh (RLE_of hE) (RW_of hw) (fun σ1 f1 t1 => ?_)
  have f1' : ∀ c, c < 65 ∨ 69 < c → σ1 c = σ c := fun c hc => f1 c (by unfold tbC; omega)
  refine X5_clashesIn (RW_of hw) t1 hp ?_
  (try simp (disch := omega) only [String.reduceEq, isRu_1, isRu_61, isGr_3, isSt_0, isSt_6, lg_selfT, isB_0, isB_1, eq_self, true_or, or_true, false_or, or_false, or_self, fa_lit, nI_add, pk_mul, pk_sub, nI_addm, nI_leI, nI_ltI, nI_eqI, vp_inI, ix_nI, forall_eq, true_implies, false_implies, not_true_eq_false, not_false_eq_true, and_true, true_and, false_and, and_false, nle_T, nle_F, nlt_T, nlt_F, neq_T, neq_F, up_rd_s, up_rd_n, up_nc, cpy_nc, cpy_in, cpy_out, cpyOk_T, m1_lt, m1_le, m1_nle, m1_nlt, m1_eq, m1_eq2, m1_0le, Nat.add_zero, Nat.zero_add, Nat.mul_one, Nat.sub_zero, if_true, if_false, Nat.add_sub_cancel, Nat.add_sub_cancel_left, in_in, in_inN, iw_in, rq_in, pw_fold, nt_fold, ask_pw, has_eq, or_0, bt1, Bool.true_eq_false, Bool.false_eq_true])
  refine X12_clashes (l := (aCore a).1) (RLM_cg (f1' 88 (by omega)) (RLM_of hM)) (RW_of hw) hp (fun σ2 f2 => ?_)
  have e8 : σ2 87 8 = nI 0 := by rw [f2 87 (by omega), up_at]
  rw [cEM (TBL_S t1) p]
  (try simp (disch := omega) only [String.reduceEq, isRu_1, isRu_61, isGr_3, isSt_0, isSt_6, lg_selfT, isB_0, isB_1, eq_self, true_or, or_true, false_or, or_false, or_self, fa_lit, nI_add, pk_mul, pk_sub, nI_addm, nI_leI, nI_ltI, nI_eqI, vp_inI, ix_nI, forall_eq, true_implies, false_implies, not_true_eq_false, not_false_eq_true, and_true, true_and, false_and, and_false, nle_T, nle_F, nlt_T, nlt_F, neq_T, neq_F, up_rd_s, up_rd_n, up_nc, cpy_nc, cpy_in, cpy_out, cpyOk_T, m1_lt, m1_le, m1_nle, m1_nlt, m1_eq, m1_eq2, m1_0le, Nat.add_zero, Nat.zero_add, Nat.mul_one, Nat.sub_zero, if_true, if_false, Nat.add_sub_cancel, Nat.add_sub_cancel_left, in_in, in_inN, iw_in, rq_in, pw_fold, nt_fold, ask_pw, has_eq, or_0, bt1, Bool.true_eq_false, Bool.false_eq_true, e8])
  exact h _ _ (rules_fr hw hE hM f1 f2)
