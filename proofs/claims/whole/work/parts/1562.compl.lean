/-! MATH. The model goes through all completions. -/
def gset (g : Nat → Nat) (a v : Nat) : Nat → Nat := fun b => if b = a then v else g b
theorem gset_s (g : Nat → Nat) (a v : Nat) : gset g a v a = v := if_pos rfl
theorem gset_n {g : Nat → Nat} {a v b : Nat} (h : b ≠ a) : gset g a v b = g b := if_neg h
/-- the number of completions with a property -/
def LA (un : Nat → Bool) (kv : Nat → Nat) (L : (Nat → Nat) → Bool) : Nat → (Nat → Nat) → Nat
  | 0, g => if L g then 1 else 0
  | k + 1, g => if un (5 - k) then fb_sm (fun v => LA un kv L k (gset g (5 - k) v)) 16 else LA un kv L k (gset g (5 - k) (kv (5 - k)))
theorem LA_S (un : Nat → Bool) (kv : Nat → Nat) (L : (Nat → Nat) → Bool) (k : Nat) (g : Nat → Nat) : LA un kv L (k + 1) g = if un (5 - k) then fb_sm (fun v => LA un kv L k (gset g (5 - k) v)) 16 else LA un kv L k (gset g (5 - k) (kv (5 - k))) := rfl
theorem ifF {α : Type} {x y : α} : (if false = true then x else y) = y := rfl
theorem LA_le {un : Nat → Bool} {kv : Nat → Nat} {L : (Nat → Nat) → Bool} : ∀ k g, LA un kv L k g ≤ 16 ^ k
  | 0, g => by
    unfold LA
    split <;> decide
  | k + 1, g => by
    rw [LA_S, Nat.pow_succ]
    split
    · have := fb_sm_bound (f := fun v => LA un kv L k (gset g (5 - k) v)) (c := 16 ^ k) (n := 16) (fun v _ => LA_le k _)
      omega
    · have := LA_le (un := un) (kv := kv) (L := L) k (gset g (5 - k) (kv (5 - k)))
      omega
theorem LA_open {un un' : Nat → Bool} {kv kv' : Nat → Nat} {L : (Nat → Nat) → Bool} {o w : Nat} (h4 : ∀ a, a < 6 → a ≠ o → un' a = un a ∧ kv' a = kv a) : ∀ (k a : Nat), a + k = 6 → o < a → ∀ g, LA un' kv' (fun g => L g && decide (g o = w)) k g = if g o = w then LA un kv L k g else 0
  | 0, a, ha, hoa, g => by
    unfold LA
    by_cases e : g o = w
    · rw [decide_eq_true e, Bool.and_true, if_pos e]
    · rw [decide_eq_false e, Bool.and_false, if_neg e]
      rfl
  | k + 1, a, ha, hoa, g => by
    have e5 : 5 - k = a := by omega
    rw [LA_S, LA_S, e5]
    obtain ⟨q1, q2⟩ := h4 a (by omega) (by omega)
    rw [q1, q2]
    have ih := fun v => LA_open (L := L) (w := w) h4 k (a + 1) (by omega) (by omega) (gset g a v)
    have hg : ∀ v, gset g a v o = g o := fun v => gset_n (by omega)
    cases hu : un a with
    | true =>
      rw [if_pos rfl, if_pos rfl]
      have : fb_sm (fun v => LA un' kv' (fun g => L g && decide (g o = w)) k (gset g a v)) 16 = fb_sm (fun v => if g o = w then LA un kv L k (gset g a v) else 0) 16 := fb_sm_cong fun v _ => by rw [ih v, hg v]
      rw [this]
      by_cases e : g o = w
      · rw [if_pos e]
        exact fb_sm_cong fun v _ => if_pos e
      · rw [if_neg e, fb_sm_cong (g := fun _ => 0) (fun v _ => if_neg e), fb_sm_const]
    | false =>
      rw [ifF, ifF, ih, hg]
theorem LA_val {un un' : Nat → Bool} {kv kv' : Nat → Nat} {L : (Nat → Nat) → Bool} {o w : Nat} (ho : o < 6) (h1 : un' o = true) (h2 : un o = false) (h3 : kv o = w) (h4 : ∀ a, a < 6 → a ≠ o → un' a = un a ∧ kv' a = kv a) : ∀ (k a : Nat), a + k = 6 → a ≤ o → ∀ g, LA un' kv' (fun g => L g && decide (g o = w)) k g = if w < 16 then LA un kv L k g else 0
  | 0, a, ha, hoa, g => by omega
  | k + 1, a, ha, hoa, g => by
    have e5 : 5 - k = a := by omega
    rw [LA_S, LA_S, e5]
    by_cases ea : a = o
    · subst ea
      rw [h1, h2, if_pos rfl, ifF, h3]
      have : fb_sm (fun v => LA un' kv' (fun g => L g && decide (g a = w)) k (gset g a v)) 16 = fb_sm (fun v => if v = w then LA un kv L k (gset g a v) else 0) 16 := fb_sm_cong fun v _ => by rw [LA_open (L := L) (w := w) h4 k (a + 1) (by omega) (by omega), gset_s]
      rw [this]
      by_cases hw : w < 16
      · rw [if_pos hw, sm_one (k := w) hw (fun j _ hj => if_neg hj), if_pos rfl]
      · rw [if_neg hw, fb_sm_cong (g := fun _ => 0) (fun v hv => if_neg (by omega)), fb_sm_const]
    · obtain ⟨q1, q2⟩ := h4 a (by omega) ea
      rw [q1, q2]
      have ih := fun v => LA_val (L := L) (w := w) ho h1 h2 h3 h4 k (a + 1) (by omega) (by omega) (gset g a v)
      cases hu : un a with
      | true =>
        rw [if_pos rfl, if_pos rfl]
        have : fb_sm (fun v => LA un' kv' (fun g => L g && decide (g o = w)) k (gset g a v)) 16 = fb_sm (fun v => if w < 16 then LA un kv L k (gset g a v) else 0) 16 := fb_sm_cong fun v _ => ih v
        rw [this]
        by_cases hw : w < 16
        · rw [if_pos hw]
          exact fb_sm_cong fun v _ => if_pos hw
        · rw [if_neg hw, fb_sm_cong (g := fun _ => 0) (fun v _ => if_neg hw), fb_sm_const]
      | false =>
        rw [ifF, ifF, ih]
/-- the decision at a request with all values -/
def decG (l : List mRule) (wy : Nat → Nat) (top : Nat) (U : Int32) (g : Nat → Nat) : Nat := decN top U (fun p => pdec l (wy p) (ownG l g p))
theorem decG_le (l : List mRule) (wy : Nat → Nat) (top : Nat) (U : Int32) (g : Nat → Nat) : decG l wy top U g ≤ 3 := decN_le (fun _ => pdec_le)
def obit (o : Option Nat) (g : Nat → Nat) (i : Nat) : Bool := match o with
  | none => false
  | some o' => decide (g o' = i)
def Lo (l : List mRule) (wy : Nat → Nat) (top : Nat) (U : Int32) (o : Option Nat) (d i : Nat) (g : Nat → Nat) : Bool := decide (decG l wy top U g = d) && obit o g i
def Ld (l : List mRule) (wy : Nat → Nat) (top : Nat) (U : Int32) (d : Nat) (g : Nat → Nat) : Bool := decide (decG l wy top U g = d)
theorem pos_add (a b : Nat) : decide (0 < a + b) = (decide (0 < a) || decide (0 < b)) := by
  by_cases h : 0 < a
  · rw [decide_eq_true h, decide_eq_true (show 0 < a + b by omega), Bool.true_or]
  · have : a = 0 := by omega
    subst this
    rw [Nat.zero_add]
    rfl
/-- what the completing rests on -/
def CMP (l : List mRule) (wy : Nat → Nat) (top : Nat) (vs : List (Option Nat)) (σ : Sto) : Prop := RLM l σ ∧ MSE l σ ∧ ValsAt (σ 91) vs ∧ (∀ p, p < 4 → σ 88 (1 + p) = nI (wy p) ∧ wy p < 4) ∧ σ 88 5 = nI top
theorem CMP_cg {l : List mRule} {wy : Nat → Nat} {top : Nat} {vs : List (Option Nat)} {σ σ' : Sto} (h1 : σ' 88 = σ 88) (h2 : σ' 91 = σ 91) (h3 : σ' 93 = σ 93) (H : CMP l wy top vs σ) : CMP l wy top vs σ' := by
  obtain ⟨a1, a2, a3, a4, a5⟩ := H
  refine ⟨RLM_cg h1 a1, ?_, ?_, ?_, ?_⟩
  · unfold MSE; rw [h3]; exact a2
  · rw [h2]; exact a3
  · rw [h1]; exact a4
  · rw [h1]; exact a5
def cfr (c : Nat) : Prop := c ≠ 87 ∧ c ≠ 94 ∧ c ≠ 95 ∧ c ≠ 97 ∧ c ≠ 98
theorem X12_completes {l : List mRule} {wy : Nat → Nat} {top : Nat} {U : Int32} {vs : List (Option Nat)} {o : Option Nat} {un : Nat → Bool} (hW : RW l) (htop : top < 4) (hA : VA vs) (ho : ∀ z, o = some z → z < 6) (hun : ∀ a, a < 6 → un a = (aUnk vs a || decide (o = some a))) : ∀ (k a : Nat), a + k = 6 → ∀ (fuel : Nat), k < fuel → ∀ (g : Nat → Nat) (cf : Nat → Nat) (σ : Sto) (P : Sto → Prop), CMP l wy top vs σ → (∀ b, b < a → σ 94 b = nI (g b) ∧ g b < 16) → (∀ d, d < 4 → σ 97 d = nI (cf d)) →
    (∀ σ' : Sto, (∀ c, cfr c → σ' c = σ c) → (∀ f, f ≠ 13 → f ≠ 14 → σ' 87 f = σ 87 f) → (∀ b, b < a → σ' 94 b = σ 94 b) → (∀ d, d < 4 → σ' 97 d = nI (cf d + LA un (gv vs) (Ld l wy top U d) k g)) → (∀ d i, d < 4 → i < 32 → bt (σ' 98 d) i = (bt (σ 98 d) i || decide (0 < LA un (gv vs) (Lo l wy top U o d i) k g))) → P σ') → D_X12_completes fuel (nI a) U (optI o) σ P := by
  intro k
  induction k with
  | zero =>
    intro a ha fuel hf g cf σ P hC hg hc h
    have : a = 6 := by omega
    subst this
    obtain ⟨n, rfl⟩ : ∃ n, fuel = n + 1 := ⟨fuel - 1, by omega⟩
    obtain ⟨s1, s2, s3, s4, s5⟩ := hC
    rw [D_X12_completes]
    intro K90 h90
    (try simp (disch := omega) only [String.reduceEq, isRu_1, isRu_61, isGr_3, isSt_0, isSt_6, lg_selfT, isB_0, isB_1, eq_self, true_or, or_true, false_or, or_false, or_self, fa_lit, nI_add, pk_mul, pk_sub, nI_addm, nI_leI, nI_ltI, nI_eqI, vp_inI, ix_nI, forall_eq, true_implies, false_implies, not_true_eq_false, not_false_eq_true, and_true, true_and, false_and, and_false, nle_T, nle_F, nlt_T, nlt_F, neq_T, neq_F, up_rd_s, up_rd_n, up_nc, cpy_nc, cpy_in, cpy_out, cpyOk_T, m1_lt, m1_le, m1_nle, m1_nlt, m1_eq, m1_eq2, m1_0le, Nat.add_zero, Nat.zero_add, Nat.mul_one, Nat.sub_zero, if_true, if_false, Nat.add_sub_cancel, Nat.add_sub_cancel_left, in_in, in_inN, iw_in, rq_in, pw_fold, nt_fold, ask_pw, has_eq, or_0, bt1, Bool.true_eq_false, Bool.false_eq_true])
    refine X12_decisionBy (g := g) (wy := wy) (top := top) s1 hW s2 hg s4 s5 htop (fun t t1 t2 _ => ?_)
    have hle := decG_le l wy top U g
    have hD : decG l wy top U g = decN top U (fun p => pdec l (wy p) (ownG l g p)) := rfl
    rw [← hD]
    have e97 : t 97 (decG l wy top U g) = nI (cf (decG l wy top U g)) := by rw [t1 97 (by omega) (by omega)]; exact hc _ (by omega)
    have fin : ∀ y : Int32, (∀ i, i < 32 → bt y i = (bt (σ 98 (decG l wy top U g)) i || obit o g i)) → P (up (up t 97 (decG l wy top U g) (nI (cf (decG l wy top U g) + 1))) 98 (decG l wy top U g) y) := by
      intro y hy
      refine h _ (fun c hcf => ?_) (fun f f1 f2 => ?_) (fun b hb => ?_) (fun d hd => ?_) (fun d i hd hi => ?_)
      · obtain ⟨c1, c2, c3, c4, c5⟩ := hcf
        (try simp (disch := omega) only [String.reduceEq, isRu_1, isRu_61, isGr_3, isSt_0, isSt_6, lg_selfT, isB_0, isB_1, eq_self, true_or, or_true, false_or, or_false, or_self, fa_lit, nI_add, pk_mul, pk_sub, nI_addm, nI_leI, nI_ltI, nI_eqI, vp_inI, ix_nI, forall_eq, true_implies, false_implies, not_true_eq_false, not_false_eq_true, and_true, true_and, false_and, and_false, nle_T, nle_F, nlt_T, nlt_F, neq_T, neq_F, up_rd_s, up_rd_n, up_nc, cpy_nc, cpy_in, cpy_out, cpyOk_T, m1_lt, m1_le, m1_nle, m1_nlt, m1_eq, m1_eq2, m1_0le, Nat.add_zero, Nat.zero_add, Nat.mul_one, Nat.sub_zero, if_true, if_false, Nat.add_sub_cancel, Nat.add_sub_cancel_left, in_in, in_inN, iw_in, rq_in, pw_fold, nt_fold, ask_pw, has_eq, or_0, bt1, Bool.true_eq_false, Bool.false_eq_true])
        exact t1 c c3 c1
      · (try simp (disch := omega) only [String.reduceEq, isRu_1, isRu_61, isGr_3, isSt_0, isSt_6, lg_selfT, isB_0, isB_1, eq_self, true_or, or_true, false_or, or_false, or_self, fa_lit, nI_add, pk_mul, pk_sub, nI_addm, nI_leI, nI_ltI, nI_eqI, vp_inI, ix_nI, forall_eq, true_implies, false_implies, not_true_eq_false, not_false_eq_true, and_true, true_and, false_and, and_false, nle_T, nle_F, nlt_T, nlt_F, neq_T, neq_F, up_rd_s, up_rd_n, up_nc, cpy_nc, cpy_in, cpy_out, cpyOk_T, m1_lt, m1_le, m1_nle, m1_nlt, m1_eq, m1_eq2, m1_0le, Nat.add_zero, Nat.zero_add, Nat.mul_one, Nat.sub_zero, if_true, if_false, Nat.add_sub_cancel, Nat.add_sub_cancel_left, in_in, in_inN, iw_in, rq_in, pw_fold, nt_fold, ask_pw, has_eq, or_0, bt1, Bool.true_eq_false, Bool.false_eq_true])
        exact t2 f f1 f2
      · (try simp (disch := omega) only [String.reduceEq, isRu_1, isRu_61, isGr_3, isSt_0, isSt_6, lg_selfT, isB_0, isB_1, eq_self, true_or, or_true, false_or, or_false, or_self, fa_lit, nI_add, pk_mul, pk_sub, nI_addm, nI_leI, nI_ltI, nI_eqI, vp_inI, ix_nI, forall_eq, true_implies, false_implies, not_true_eq_false, not_false_eq_true, and_true, true_and, false_and, and_false, nle_T, nle_F, nlt_T, nlt_F, neq_T, neq_F, up_rd_s, up_rd_n, up_nc, cpy_nc, cpy_in, cpy_out, cpyOk_T, m1_lt, m1_le, m1_nle, m1_nlt, m1_eq, m1_eq2, m1_0le, Nat.add_zero, Nat.zero_add, Nat.mul_one, Nat.sub_zero, if_true, if_false, Nat.add_sub_cancel, Nat.add_sub_cancel_left, in_in, in_inN, iw_in, rq_in, pw_fold, nt_fold, ask_pw, has_eq, or_0, bt1, Bool.true_eq_false, Bool.false_eq_true])
        rw [t1 94 (by omega) (by omega)]
      · unfold LA Ld
        by_cases e : decG l wy top U g = d
        · subst e
          rw [decide_eq_true rfl, if_pos rfl]
          (try simp (disch := omega) only [String.reduceEq, isRu_1, isRu_61, isGr_3, isSt_0, isSt_6, lg_selfT, isB_0, isB_1, eq_self, true_or, or_true, false_or, or_false, or_self, fa_lit, nI_add, pk_mul, pk_sub, nI_addm, nI_leI, nI_ltI, nI_eqI, vp_inI, ix_nI, forall_eq, true_implies, false_implies, not_true_eq_false, not_false_eq_true, and_true, true_and, false_and, and_false, nle_T, nle_F, nlt_T, nlt_F, neq_T, neq_F, up_rd_s, up_rd_n, up_nc, cpy_nc, cpy_in, cpy_out, cpyOk_T, m1_lt, m1_le, m1_nle, m1_nlt, m1_eq, m1_eq2, m1_0le, Nat.add_zero, Nat.zero_add, Nat.mul_one, Nat.sub_zero, if_true, if_false, Nat.add_sub_cancel, Nat.add_sub_cancel_left, in_in, in_inN, iw_in, rq_in, pw_fold, nt_fold, ask_pw, has_eq, or_0, bt1, Bool.true_eq_false, Bool.false_eq_true])
        · rw [decide_eq_false e, ifF, Nat.add_zero]
          (try simp (disch := omega) only [String.reduceEq, isRu_1, isRu_61, isGr_3, isSt_0, isSt_6, lg_selfT, isB_0, isB_1, eq_self, true_or, or_true, false_or, or_false, or_self, fa_lit, nI_add, pk_mul, pk_sub, nI_addm, nI_leI, nI_ltI, nI_eqI, vp_inI, ix_nI, forall_eq, true_implies, false_implies, not_true_eq_false, not_false_eq_true, and_true, true_and, false_and, and_false, nle_T, nle_F, nlt_T, nlt_F, neq_T, neq_F, up_rd_s, up_rd_n, up_nc, cpy_nc, cpy_in, cpy_out, cpyOk_T, m1_lt, m1_le, m1_nle, m1_nlt, m1_eq, m1_eq2, m1_0le, Nat.add_zero, Nat.zero_add, Nat.mul_one, Nat.sub_zero, if_true, if_false, Nat.add_sub_cancel, Nat.add_sub_cancel_left, in_in, in_inN, iw_in, rq_in, pw_fold, nt_fold, ask_pw, has_eq, or_0, bt1, Bool.true_eq_false, Bool.false_eq_true])
          rw [t1 97 (by omega) (by omega)]
          exact hc d hd
      · unfold LA Lo
        by_cases e : decG l wy top U g = d
        · rw [decide_eq_true e, Bool.true_and]
          subst e
          have : decide (0 < if obit o g i = true then 1 else 0) = obit o g i := by cases obit o g i <;> rfl
          rw [this, ← hy i hi]
          (try simp (disch := omega) only [String.reduceEq, isRu_1, isRu_61, isGr_3, isSt_0, isSt_6, lg_selfT, isB_0, isB_1, eq_self, true_or, or_true, false_or, or_false, or_self, fa_lit, nI_add, pk_mul, pk_sub, nI_addm, nI_leI, nI_ltI, nI_eqI, vp_inI, ix_nI, forall_eq, true_implies, false_implies, not_true_eq_false, not_false_eq_true, and_true, true_and, false_and, and_false, nle_T, nle_F, nlt_T, nlt_F, neq_T, neq_F, up_rd_s, up_rd_n, up_nc, cpy_nc, cpy_in, cpy_out, cpyOk_T, m1_lt, m1_le, m1_nle, m1_nlt, m1_eq, m1_eq2, m1_0le, Nat.add_zero, Nat.zero_add, Nat.mul_one, Nat.sub_zero, if_true, if_false, Nat.add_sub_cancel, Nat.add_sub_cancel_left, in_in, in_inN, iw_in, rq_in, pw_fold, nt_fold, ask_pw, has_eq, or_0, bt1, Bool.true_eq_false, Bool.false_eq_true])
        · rw [decide_eq_false e, Bool.false_and, ifF, show decide (0 < 0) = false from rfl, Bool.or_false]
          (try simp (disch := omega) only [String.reduceEq, isRu_1, isRu_61, isGr_3, isSt_0, isSt_6, lg_selfT, isB_0, isB_1, eq_self, true_or, or_true, false_or, or_false, or_self, fa_lit, nI_add, pk_mul, pk_sub, nI_addm, nI_leI, nI_ltI, nI_eqI, vp_inI, ix_nI, forall_eq, true_implies, false_implies, not_true_eq_false, not_false_eq_true, and_true, true_and, false_and, and_false, nle_T, nle_F, nlt_T, nlt_F, neq_T, neq_F, up_rd_s, up_rd_n, up_nc, cpy_nc, cpy_in, cpy_out, cpyOk_T, m1_lt, m1_le, m1_nle, m1_nlt, m1_eq, m1_eq2, m1_0le, Nat.add_zero, Nat.zero_add, Nat.mul_one, Nat.sub_zero, if_true, if_false, Nat.add_sub_cancel, Nat.add_sub_cancel_left, in_in, in_inN, iw_in, rq_in, pw_fold, nt_fold, ask_pw, has_eq, or_0, bt1, Bool.true_eq_false, Bool.false_eq_true])
          rw [t1 98 (by omega) (by omega)]
    have e98 : t 98 = σ 98 := t1 98 (by omega) (by omega)
    cases ho' : o with
    | none =>
      have o1 : optI none = -nI 1 := rfl
      (try simp (disch := omega) only [String.reduceEq, isRu_1, isRu_61, isGr_3, isSt_0, isSt_6, lg_selfT, isB_0, isB_1, eq_self, true_or, or_true, false_or, or_false, or_self, fa_lit, nI_add, pk_mul, pk_sub, nI_addm, nI_leI, nI_ltI, nI_eqI, vp_inI, ix_nI, forall_eq, true_implies, false_implies, not_true_eq_false, not_false_eq_true, and_true, true_and, false_and, and_false, nle_T, nle_F, nlt_T, nlt_F, neq_T, neq_F, up_rd_s, up_rd_n, up_nc, cpy_nc, cpy_in, cpy_out, cpyOk_T, m1_lt, m1_le, m1_nle, m1_nlt, m1_eq, m1_eq2, m1_0le, Nat.add_zero, Nat.zero_add, Nat.mul_one, Nat.sub_zero, if_true, if_false, Nat.add_sub_cancel, Nat.add_sub_cancel_left, in_in, in_inN, iw_in, rq_in, pw_fold, nt_fold, ask_pw, has_eq, or_0, bt1, Bool.true_eq_false, Bool.false_eq_true, o1, e97])
      refine fin _ (fun i hi => ?_)
      rw [ho', e98]
      show _ = (_ || false)
      rw [Bool.or_false]
    | some o' =>
      have o1 : optI (some o') = nI o' := rfl
      have hlt := ho o' ho'
      obtain ⟨g1, g2⟩ := hg o' hlt
      have e94 : t 94 o' = nI (g o') := by rw [t1 94 (by omega) (by omega)]; exact g1
      (try simp (disch := omega) only [String.reduceEq, isRu_1, isRu_61, isGr_3, isSt_0, isSt_6, lg_selfT, isB_0, isB_1, eq_self, true_or, or_true, false_or, or_false, or_self, fa_lit, nI_add, pk_mul, pk_sub, nI_addm, nI_leI, nI_ltI, nI_eqI, vp_inI, ix_nI, forall_eq, true_implies, false_implies, not_true_eq_false, not_false_eq_true, and_true, true_and, false_and, and_false, nle_T, nle_F, nlt_T, nlt_F, neq_T, neq_F, up_rd_s, up_rd_n, up_nc, cpy_nc, cpy_in, cpy_out, cpyOk_T, m1_lt, m1_le, m1_nle, m1_nlt, m1_eq, m1_eq2, m1_0le, Nat.add_zero, Nat.zero_add, Nat.mul_one, Nat.sub_zero, if_true, if_false, Nat.add_sub_cancel, Nat.add_sub_cancel_left, in_in, in_inN, iw_in, rq_in, pw_fold, nt_fold, ask_pw, has_eq, or_0, bt1, Bool.true_eq_false, Bool.false_eq_true, o1, e97, e94])
      refine fin _ (fun i hi => ?_)
      rw [ho', e98, b_or, b_pw (by omega)]
      show _ = (_ || decide (g o' = i))
      rw [decide_eq_decide.mpr (show i = g o' ↔ g o' = i from ⟨Eq.symm, Eq.symm⟩)]
  | succ k ih =>
    intro a ha fuel hf g cf σ P hC hg hc h
    have e5 : 5 - k = a := by omega
    obtain ⟨n, rfl⟩ : ∃ n, fuel = n + 1 := ⟨fuel - 1, by omega⟩
    obtain ⟨s1, s2, s3, s4, s5⟩ := id hC
    simp only [LA_S, e5] at h
    have hua := hun a (by omega)
    rw [D_X12_completes]
    intro K90 h90
    have loop : un a = true → K90 (nI 0) σ := by
      intro hu
      rw [hu] at h
      simp only [if_true] at h
      refine lp 16 (fun v s => K90 (nI v) s) (fun v s => (∀ c, cfr c → s c = σ c) ∧ (∀ f, f ≠ 13 → f ≠ 14 → s 87 f = σ 87 f) ∧ (∀ b, b < a → s 94 b = σ 94 b) ∧ (∀ d, d < 4 → s 97 d = nI (cf d + fb_sm (fun v => LA un (gv vs) (Ld l wy top U d) k (gset g a v)) v)) ∧ ∀ d i, d < 4 → i < 32 → bt (s 98 d) i = (bt (σ 98 d) i || decide (0 < fb_sm (fun v => LA un (gv vs) (Lo l wy top U o d i) k (gset g a v)) v))) ?_ ?_ σ ⟨fun _ _ => rfl, fun _ _ _ => rfl, fun _ _ => rfl, fun d hd => hc d hd, fun d i _ _ => by show _ = (_ || decide (0 < 0)); simp⟩
      · intro s ⟨f1, f2, f3, f4, f5⟩
        apply h90
        (try simp (disch := omega) only [String.reduceEq, isRu_1, isRu_61, isGr_3, isSt_0, isSt_6, lg_selfT, isB_0, isB_1, eq_self, true_or, or_true, false_or, or_false, or_self, fa_lit, nI_add, pk_mul, pk_sub, nI_addm, nI_leI, nI_ltI, nI_eqI, vp_inI, ix_nI, forall_eq, true_implies, false_implies, not_true_eq_false, not_false_eq_true, and_true, true_and, false_and, and_false, nle_T, nle_F, nlt_T, nlt_F, neq_T, neq_F, up_rd_s, up_rd_n, up_nc, cpy_nc, cpy_in, cpy_out, cpyOk_T, m1_lt, m1_le, m1_nle, m1_nlt, m1_eq, m1_eq2, m1_0le, Nat.add_zero, Nat.zero_add, Nat.mul_one, Nat.sub_zero, if_true, if_false, Nat.add_sub_cancel, Nat.add_sub_cancel_left, in_in, in_inN, iw_in, rq_in, pw_fold, nt_fold, ask_pw, has_eq, or_0, bt1, Bool.true_eq_false, Bool.false_eq_true])
        exact h s f1 f2 f3 f4 f5
      · intro v s hv ⟨f1, f2, f3, f4, f5⟩ hnext
        apply h90
        (try simp (disch := omega) only [String.reduceEq, isRu_1, isRu_61, isGr_3, isSt_0, isSt_6, lg_selfT, isB_0, isB_1, eq_self, true_or, or_true, false_or, or_false, or_self, fa_lit, nI_add, pk_mul, pk_sub, nI_addm, nI_leI, nI_ltI, nI_eqI, vp_inI, ix_nI, forall_eq, true_implies, false_implies, not_true_eq_false, not_false_eq_true, and_true, true_and, false_and, and_false, nle_T, nle_F, nlt_T, nlt_F, neq_T, neq_F, up_rd_s, up_rd_n, up_nc, cpy_nc, cpy_in, cpy_out, cpyOk_T, m1_lt, m1_le, m1_nle, m1_nlt, m1_eq, m1_eq2, m1_0le, Nat.add_zero, Nat.zero_add, Nat.mul_one, Nat.sub_zero, if_true, if_false, Nat.add_sub_cancel, Nat.add_sub_cancel_left, in_in, in_inN, iw_in, rq_in, pw_fold, nt_fold, ask_pw, has_eq, or_0, bt1, Bool.true_eq_false, Bool.false_eq_true])
        have hC' : CMP l wy top vs (up s 94 a (nI v)) := CMP_cg (by (try simp (disch := omega) only [String.reduceEq, isRu_1, isRu_61, isGr_3, isSt_0, isSt_6, lg_selfT, isB_0, isB_1, eq_self, true_or, or_true, false_or, or_false, or_self, fa_lit, nI_add, pk_mul, pk_sub, nI_addm, nI_leI, nI_ltI, nI_eqI, vp_inI, ix_nI, forall_eq, true_implies, false_implies, not_true_eq_false, not_false_eq_true, and_true, true_and, false_and, and_false, nle_T, nle_F, nlt_T, nlt_F, neq_T, neq_F, up_rd_s, up_rd_n, up_nc, cpy_nc, cpy_in, cpy_out, cpyOk_T, m1_lt, m1_le, m1_nle, m1_nlt, m1_eq, m1_eq2, m1_0le, Nat.add_zero, Nat.zero_add, Nat.mul_one, Nat.sub_zero, if_true, if_false, Nat.add_sub_cancel, Nat.add_sub_cancel_left, in_in, in_inN, iw_in, rq_in, pw_fold, nt_fold, ask_pw, has_eq, or_0, bt1, Bool.true_eq_false, Bool.false_eq_true]); exact f1 88 (by unfold cfr; omega)) (by (try simp (disch := omega) only [String.reduceEq, isRu_1, isRu_61, isGr_3, isSt_0, isSt_6, lg_selfT, isB_0, isB_1, eq_self, true_or, or_true, false_or, or_false, or_self, fa_lit, nI_add, pk_mul, pk_sub, nI_addm, nI_leI, nI_ltI, nI_eqI, vp_inI, ix_nI, forall_eq, true_implies, false_implies, not_true_eq_false, not_false_eq_true, and_true, true_and, false_and, and_false, nle_T, nle_F, nlt_T, nlt_F, neq_T, neq_F, up_rd_s, up_rd_n, up_nc, cpy_nc, cpy_in, cpy_out, cpyOk_T, m1_lt, m1_le, m1_nle, m1_nlt, m1_eq, m1_eq2, m1_0le, Nat.add_zero, Nat.zero_add, Nat.mul_one, Nat.sub_zero, if_true, if_false, Nat.add_sub_cancel, Nat.add_sub_cancel_left, in_in, in_inN, iw_in, rq_in, pw_fold, nt_fold, ask_pw, has_eq, or_0, bt1, Bool.true_eq_false, Bool.false_eq_true]); exact f1 91 (by unfold cfr; omega)) (by (try simp (disch := omega) only [String.reduceEq, isRu_1, isRu_61, isGr_3, isSt_0, isSt_6, lg_selfT, isB_0, isB_1, eq_self, true_or, or_true, false_or, or_false, or_self, fa_lit, nI_add, pk_mul, pk_sub, nI_addm, nI_leI, nI_ltI, nI_eqI, vp_inI, ix_nI, forall_eq, true_implies, false_implies, not_true_eq_false, not_false_eq_true, and_true, true_and, false_and, and_false, nle_T, nle_F, nlt_T, nlt_F, neq_T, neq_F, up_rd_s, up_rd_n, up_nc, cpy_nc, cpy_in, cpy_out, cpyOk_T, m1_lt, m1_le, m1_nle, m1_nlt, m1_eq, m1_eq2, m1_0le, Nat.add_zero, Nat.zero_add, Nat.mul_one, Nat.sub_zero, if_true, if_false, Nat.add_sub_cancel, Nat.add_sub_cancel_left, in_in, in_inN, iw_in, rq_in, pw_fold, nt_fold, ask_pw, has_eq, or_0, bt1, Bool.true_eq_false, Bool.false_eq_true]); exact f1 93 (by unfold cfr; omega)) hC
        refine ih (a + 1) (by omega) n (by omega) (gset g a v) (fun d => cf d + fb_sm (fun v => LA un (gv vs) (Ld l wy top U d) k (gset g a v)) v) (up s 94 a (nI v)) _ hC' (fun b hb => ?_) (fun d hd => ?_) (fun t t1 t2 t3 t4 t5 => ?_)
        · by_cases e : b = a
          · subst e
            rw [gset_s]
            (try simp (disch := omega) only [String.reduceEq, isRu_1, isRu_61, isGr_3, isSt_0, isSt_6, lg_selfT, isB_0, isB_1, eq_self, true_or, or_true, false_or, or_false, or_self, fa_lit, nI_add, pk_mul, pk_sub, nI_addm, nI_leI, nI_ltI, nI_eqI, vp_inI, ix_nI, forall_eq, true_implies, false_implies, not_true_eq_false, not_false_eq_true, and_true, true_and, false_and, and_false, nle_T, nle_F, nlt_T, nlt_F, neq_T, neq_F, up_rd_s, up_rd_n, up_nc, cpy_nc, cpy_in, cpy_out, cpyOk_T, m1_lt, m1_le, m1_nle, m1_nlt, m1_eq, m1_eq2, m1_0le, Nat.add_zero, Nat.zero_add, Nat.mul_one, Nat.sub_zero, if_true, if_false, Nat.add_sub_cancel, Nat.add_sub_cancel_left, in_in, in_inN, iw_in, rq_in, pw_fold, nt_fold, ask_pw, has_eq, or_0, bt1, Bool.true_eq_false, Bool.false_eq_true])
          · rw [gset_n e]
            (try simp (disch := omega) only [String.reduceEq, isRu_1, isRu_61, isGr_3, isSt_0, isSt_6, lg_selfT, isB_0, isB_1, eq_self, true_or, or_true, false_or, or_false, or_self, fa_lit, nI_add, pk_mul, pk_sub, nI_addm, nI_leI, nI_ltI, nI_eqI, vp_inI, ix_nI, forall_eq, true_implies, false_implies, not_true_eq_false, not_false_eq_true, and_true, true_and, false_and, and_false, nle_T, nle_F, nlt_T, nlt_F, neq_T, neq_F, up_rd_s, up_rd_n, up_nc, cpy_nc, cpy_in, cpy_out, cpyOk_T, m1_lt, m1_le, m1_nle, m1_nlt, m1_eq, m1_eq2, m1_0le, Nat.add_zero, Nat.zero_add, Nat.mul_one, Nat.sub_zero, if_true, if_false, Nat.add_sub_cancel, Nat.add_sub_cancel_left, in_in, in_inN, iw_in, rq_in, pw_fold, nt_fold, ask_pw, has_eq, or_0, bt1, Bool.true_eq_false, Bool.false_eq_true])
            rw [f3 b (by omega)]
            exact hg b (by omega)
        · (try simp (disch := omega) only [String.reduceEq, isRu_1, isRu_61, isGr_3, isSt_0, isSt_6, lg_selfT, isB_0, isB_1, eq_self, true_or, or_true, false_or, or_false, or_self, fa_lit, nI_add, pk_mul, pk_sub, nI_addm, nI_leI, nI_ltI, nI_eqI, vp_inI, ix_nI, forall_eq, true_implies, false_implies, not_true_eq_false, not_false_eq_true, and_true, true_and, false_and, and_false, nle_T, nle_F, nlt_T, nlt_F, neq_T, neq_F, up_rd_s, up_rd_n, up_nc, cpy_nc, cpy_in, cpy_out, cpyOk_T, m1_lt, m1_le, m1_nle, m1_nlt, m1_eq, m1_eq2, m1_0le, Nat.add_zero, Nat.zero_add, Nat.mul_one, Nat.sub_zero, if_true, if_false, Nat.add_sub_cancel, Nat.add_sub_cancel_left, in_in, in_inN, iw_in, rq_in, pw_fold, nt_fold, ask_pw, has_eq, or_0, bt1, Bool.true_eq_false, Bool.false_eq_true])
          exact f4 d hd
        · refine hnext t ⟨fun c hcf => ?_, fun f q1 q2 => ?_, fun b hb => ?_, fun d hd => ?_, fun d i hd hi => ?_⟩
          · rw [t1 c hcf]
            have := hcf.2.1
            (try simp (disch := omega) only [String.reduceEq, isRu_1, isRu_61, isGr_3, isSt_0, isSt_6, lg_selfT, isB_0, isB_1, eq_self, true_or, or_true, false_or, or_false, or_self, fa_lit, nI_add, pk_mul, pk_sub, nI_addm, nI_leI, nI_ltI, nI_eqI, vp_inI, ix_nI, forall_eq, true_implies, false_implies, not_true_eq_false, not_false_eq_true, and_true, true_and, false_and, and_false, nle_T, nle_F, nlt_T, nlt_F, neq_T, neq_F, up_rd_s, up_rd_n, up_nc, cpy_nc, cpy_in, cpy_out, cpyOk_T, m1_lt, m1_le, m1_nle, m1_nlt, m1_eq, m1_eq2, m1_0le, Nat.add_zero, Nat.zero_add, Nat.mul_one, Nat.sub_zero, if_true, if_false, Nat.add_sub_cancel, Nat.add_sub_cancel_left, in_in, in_inN, iw_in, rq_in, pw_fold, nt_fold, ask_pw, has_eq, or_0, bt1, Bool.true_eq_false, Bool.false_eq_true])
            exact f1 c hcf
          · rw [t2 f q1 q2]
            (try simp (disch := omega) only [String.reduceEq, isRu_1, isRu_61, isGr_3, isSt_0, isSt_6, lg_selfT, isB_0, isB_1, eq_self, true_or, or_true, false_or, or_false, or_self, fa_lit, nI_add, pk_mul, pk_sub, nI_addm, nI_leI, nI_ltI, nI_eqI, vp_inI, ix_nI, forall_eq, true_implies, false_implies, not_true_eq_false, not_false_eq_true, and_true, true_and, false_and, and_false, nle_T, nle_F, nlt_T, nlt_F, neq_T, neq_F, up_rd_s, up_rd_n, up_nc, cpy_nc, cpy_in, cpy_out, cpyOk_T, m1_lt, m1_le, m1_nle, m1_nlt, m1_eq, m1_eq2, m1_0le, Nat.add_zero, Nat.zero_add, Nat.mul_one, Nat.sub_zero, if_true, if_false, Nat.add_sub_cancel, Nat.add_sub_cancel_left, in_in, in_inN, iw_in, rq_in, pw_fold, nt_fold, ask_pw, has_eq, or_0, bt1, Bool.true_eq_false, Bool.false_eq_true])
            exact f2 f q1 q2
          · rw [t3 b (by omega)]
            (try simp (disch := omega) only [String.reduceEq, isRu_1, isRu_61, isGr_3, isSt_0, isSt_6, lg_selfT, isB_0, isB_1, eq_self, true_or, or_true, false_or, or_false, or_self, fa_lit, nI_add, pk_mul, pk_sub, nI_addm, nI_leI, nI_ltI, nI_eqI, vp_inI, ix_nI, forall_eq, true_implies, false_implies, not_true_eq_false, not_false_eq_true, and_true, true_and, false_and, and_false, nle_T, nle_F, nlt_T, nlt_F, neq_T, neq_F, up_rd_s, up_rd_n, up_nc, cpy_nc, cpy_in, cpy_out, cpyOk_T, m1_lt, m1_le, m1_nle, m1_nlt, m1_eq, m1_eq2, m1_0le, Nat.add_zero, Nat.zero_add, Nat.mul_one, Nat.sub_zero, if_true, if_false, Nat.add_sub_cancel, Nat.add_sub_cancel_left, in_in, in_inN, iw_in, rq_in, pw_fold, nt_fold, ask_pw, has_eq, or_0, bt1, Bool.true_eq_false, Bool.false_eq_true])
            exact f3 b hb
          · rw [t4 d hd, fb_sm_succ, Nat.add_assoc]
          · rw [t5 d i hd hi, fb_sm_succ, pos_add]
            (try simp (disch := omega) only [String.reduceEq, isRu_1, isRu_61, isGr_3, isSt_0, isSt_6, lg_selfT, isB_0, isB_1, eq_self, true_or, or_true, false_or, or_false, or_self, fa_lit, nI_add, pk_mul, pk_sub, nI_addm, nI_leI, nI_ltI, nI_eqI, vp_inI, ix_nI, forall_eq, true_implies, false_implies, not_true_eq_false, not_false_eq_true, and_true, true_and, false_and, and_false, nle_T, nle_F, nlt_T, nlt_F, neq_T, neq_F, up_rd_s, up_rd_n, up_nc, cpy_nc, cpy_in, cpy_out, cpyOk_T, m1_lt, m1_le, m1_nle, m1_nlt, m1_eq, m1_eq2, m1_0le, Nat.add_zero, Nat.zero_add, Nat.mul_one, Nat.sub_zero, if_true, if_false, Nat.add_sub_cancel, Nat.add_sub_cancel_left, in_in, in_inN, iw_in, rq_in, pw_fold, nt_fold, ask_pw, has_eq, or_0, bt1, Bool.true_eq_false, Bool.false_eq_true])
            rw [f5 d i hd hi, Bool.or_assoc]
    (try simp (disch := omega) only [String.reduceEq, isRu_1, isRu_61, isGr_3, isSt_0, isSt_6, lg_selfT, isB_0, isB_1, eq_self, true_or, or_true, false_or, or_false, or_self, fa_lit, nI_add, pk_mul, pk_sub, nI_addm, nI_leI, nI_ltI, nI_eqI, vp_inI, ix_nI, forall_eq, true_implies, false_implies, not_true_eq_false, not_false_eq_true, and_true, true_and, false_and, and_false, nle_T, nle_F, nlt_T, nlt_F, neq_T, neq_F, up_rd_s, up_rd_n, up_nc, cpy_nc, cpy_in, cpy_out, cpyOk_T, m1_lt, m1_le, m1_nle, m1_nlt, m1_eq, m1_eq2, m1_0le, Nat.add_zero, Nat.zero_add, Nat.mul_one, Nat.sub_zero, if_true, if_false, Nat.add_sub_cancel, Nat.add_sub_cancel_left, in_in, in_inN, iw_in, rq_in, pw_fold, nt_fold, ask_pw, has_eq, or_0, bt1, Bool.true_eq_false, Bool.false_eq_true])
    rcases vAt s3 hA.1 hA.2 (show a < 6 by omega) with ⟨e1, e2, e3⟩ | ⟨w, hw', e1, e2, e3⟩
    · (try simp (disch := omega) only [String.reduceEq, isRu_1, isRu_61, isGr_3, isSt_0, isSt_6, lg_selfT, isB_0, isB_1, eq_self, true_or, or_true, false_or, or_false, or_self, fa_lit, nI_add, pk_mul, pk_sub, nI_addm, nI_leI, nI_ltI, nI_eqI, vp_inI, ix_nI, forall_eq, true_implies, false_implies, not_true_eq_false, not_false_eq_true, and_true, true_and, false_and, and_false, nle_T, nle_F, nlt_T, nlt_F, neq_T, neq_F, up_rd_s, up_rd_n, up_nc, cpy_nc, cpy_in, cpy_out, cpyOk_T, m1_lt, m1_le, m1_nle, m1_nlt, m1_eq, m1_eq2, m1_0le, Nat.add_zero, Nat.zero_add, Nat.mul_one, Nat.sub_zero, if_true, if_false, Nat.add_sub_cancel, Nat.add_sub_cancel_left, in_in, in_inN, iw_in, rq_in, pw_fold, nt_fold, ask_pw, has_eq, or_0, bt1, Bool.true_eq_false, Bool.false_eq_true, e1])
      refine loop ?_
      rw [hua, e2, Bool.true_or]
    · by_cases eo : o = some a
      · have o1 : optI o = nI a := by rw [eo]; rfl
        (try simp (disch := omega) only [String.reduceEq, isRu_1, isRu_61, isGr_3, isSt_0, isSt_6, lg_selfT, isB_0, isB_1, eq_self, true_or, or_true, false_or, or_false, or_self, fa_lit, nI_add, pk_mul, pk_sub, nI_addm, nI_leI, nI_ltI, nI_eqI, vp_inI, ix_nI, forall_eq, true_implies, false_implies, not_true_eq_false, not_false_eq_true, and_true, true_and, false_and, and_false, nle_T, nle_F, nlt_T, nlt_F, neq_T, neq_F, up_rd_s, up_rd_n, up_nc, cpy_nc, cpy_in, cpy_out, cpyOk_T, m1_lt, m1_le, m1_nle, m1_nlt, m1_eq, m1_eq2, m1_0le, Nat.add_zero, Nat.zero_add, Nat.mul_one, Nat.sub_zero, if_true, if_false, Nat.add_sub_cancel, Nat.add_sub_cancel_left, in_in, in_inN, iw_in, rq_in, pw_fold, nt_fold, ask_pw, has_eq, or_0, bt1, Bool.true_eq_false, Bool.false_eq_true, e1, o1])
        refine loop ?_
        rw [hua, eo, decide_eq_true rfl, Bool.or_true]
      · have hu : un a = false := by rw [hua, e2, decide_eq_false eo]; rfl
        rw [hu] at h
        simp only [Bool.false_eq_true, if_false] at h
        have hk : gv vs a = w := by
          unfold gv
          rw [e3]
          rfl
        have hne : (nI a = optI o) = False := by
          refine eq_false fun z => ?_
          cases hoo : o with
          | none =>
            rw [hoo] at z
            have z : nI a = -nI 1 := z
            rw [m1_eq (by omega)] at z
            exact z
          | some o' =>
            rw [hoo] at z
            have z : nI a = nI o' := z
            have := ho o' hoo
            have z2 := (nI_eq (by omega) (by omega)).mp z
            rw [hoo, z2] at eo
            exact eo rfl
        (try simp (disch := omega) only [String.reduceEq, isRu_1, isRu_61, isGr_3, isSt_0, isSt_6, lg_selfT, isB_0, isB_1, eq_self, true_or, or_true, false_or, or_false, or_self, fa_lit, nI_add, pk_mul, pk_sub, nI_addm, nI_leI, nI_ltI, nI_eqI, vp_inI, ix_nI, forall_eq, true_implies, false_implies, not_true_eq_false, not_false_eq_true, and_true, true_and, false_and, and_false, nle_T, nle_F, nlt_T, nlt_F, neq_T, neq_F, up_rd_s, up_rd_n, up_nc, cpy_nc, cpy_in, cpy_out, cpyOk_T, m1_lt, m1_le, m1_nle, m1_nlt, m1_eq, m1_eq2, m1_0le, Nat.add_zero, Nat.zero_add, Nat.mul_one, Nat.sub_zero, if_true, if_false, Nat.add_sub_cancel, Nat.add_sub_cancel_left, in_in, in_inN, iw_in, rq_in, pw_fold, nt_fold, ask_pw, has_eq, or_0, bt1, Bool.true_eq_false, Bool.false_eq_true, e1, hne])
        have hC' : CMP l wy top vs (up σ 94 a (nI w)) := CMP_cg (by (try simp (disch := omega) only [String.reduceEq, isRu_1, isRu_61, isGr_3, isSt_0, isSt_6, lg_selfT, isB_0, isB_1, eq_self, true_or, or_true, false_or, or_false, or_self, fa_lit, nI_add, pk_mul, pk_sub, nI_addm, nI_leI, nI_ltI, nI_eqI, vp_inI, ix_nI, forall_eq, true_implies, false_implies, not_true_eq_false, not_false_eq_true, and_true, true_and, false_and, and_false, nle_T, nle_F, nlt_T, nlt_F, neq_T, neq_F, up_rd_s, up_rd_n, up_nc, cpy_nc, cpy_in, cpy_out, cpyOk_T, m1_lt, m1_le, m1_nle, m1_nlt, m1_eq, m1_eq2, m1_0le, Nat.add_zero, Nat.zero_add, Nat.mul_one, Nat.sub_zero, if_true, if_false, Nat.add_sub_cancel, Nat.add_sub_cancel_left, in_in, in_inN, iw_in, rq_in, pw_fold, nt_fold, ask_pw, has_eq, or_0, bt1, Bool.true_eq_false, Bool.false_eq_true])) (by (try simp (disch := omega) only [String.reduceEq, isRu_1, isRu_61, isGr_3, isSt_0, isSt_6, lg_selfT, isB_0, isB_1, eq_self, true_or, or_true, false_or, or_false, or_self, fa_lit, nI_add, pk_mul, pk_sub, nI_addm, nI_leI, nI_ltI, nI_eqI, vp_inI, ix_nI, forall_eq, true_implies, false_implies, not_true_eq_false, not_false_eq_true, and_true, true_and, false_and, and_false, nle_T, nle_F, nlt_T, nlt_F, neq_T, neq_F, up_rd_s, up_rd_n, up_nc, cpy_nc, cpy_in, cpy_out, cpyOk_T, m1_lt, m1_le, m1_nle, m1_nlt, m1_eq, m1_eq2, m1_0le, Nat.add_zero, Nat.zero_add, Nat.mul_one, Nat.sub_zero, if_true, if_false, Nat.add_sub_cancel, Nat.add_sub_cancel_left, in_in, in_inN, iw_in, rq_in, pw_fold, nt_fold, ask_pw, has_eq, or_0, bt1, Bool.true_eq_false, Bool.false_eq_true])) (by (try simp (disch := omega) only [String.reduceEq, isRu_1, isRu_61, isGr_3, isSt_0, isSt_6, lg_selfT, isB_0, isB_1, eq_self, true_or, or_true, false_or, or_false, or_self, fa_lit, nI_add, pk_mul, pk_sub, nI_addm, nI_leI, nI_ltI, nI_eqI, vp_inI, ix_nI, forall_eq, true_implies, false_implies, not_true_eq_false, not_false_eq_true, and_true, true_and, false_and, and_false, nle_T, nle_F, nlt_T, nlt_F, neq_T, neq_F, up_rd_s, up_rd_n, up_nc, cpy_nc, cpy_in, cpy_out, cpyOk_T, m1_lt, m1_le, m1_nle, m1_nlt, m1_eq, m1_eq2, m1_0le, Nat.add_zero, Nat.zero_add, Nat.mul_one, Nat.sub_zero, if_true, if_false, Nat.add_sub_cancel, Nat.add_sub_cancel_left, in_in, in_inN, iw_in, rq_in, pw_fold, nt_fold, ask_pw, has_eq, or_0, bt1, Bool.true_eq_false, Bool.false_eq_true])) hC
        refine ih (a + 1) (by omega) n (by omega) (gset g a w) cf (up σ 94 a (nI w)) _ hC' (fun b hb => ?_) (fun d hd => ?_) (fun t t1 t2 t3 t4 t5 => ?_)
        · by_cases e : b = a
          · subst e
            rw [gset_s]
            (try simp (disch := omega) only [String.reduceEq, isRu_1, isRu_61, isGr_3, isSt_0, isSt_6, lg_selfT, isB_0, isB_1, eq_self, true_or, or_true, false_or, or_false, or_self, fa_lit, nI_add, pk_mul, pk_sub, nI_addm, nI_leI, nI_ltI, nI_eqI, vp_inI, ix_nI, forall_eq, true_implies, false_implies, not_true_eq_false, not_false_eq_true, and_true, true_and, false_and, and_false, nle_T, nle_F, nlt_T, nlt_F, neq_T, neq_F, up_rd_s, up_rd_n, up_nc, cpy_nc, cpy_in, cpy_out, cpyOk_T, m1_lt, m1_le, m1_nle, m1_nlt, m1_eq, m1_eq2, m1_0le, Nat.add_zero, Nat.zero_add, Nat.mul_one, Nat.sub_zero, if_true, if_false, Nat.add_sub_cancel, Nat.add_sub_cancel_left, in_in, in_inN, iw_in, rq_in, pw_fold, nt_fold, ask_pw, has_eq, or_0, bt1, Bool.true_eq_false, Bool.false_eq_true])
          · rw [gset_n e]
            (try simp (disch := omega) only [String.reduceEq, isRu_1, isRu_61, isGr_3, isSt_0, isSt_6, lg_selfT, isB_0, isB_1, eq_self, true_or, or_true, false_or, or_false, or_self, fa_lit, nI_add, pk_mul, pk_sub, nI_addm, nI_leI, nI_ltI, nI_eqI, vp_inI, ix_nI, forall_eq, true_implies, false_implies, not_true_eq_false, not_false_eq_true, and_true, true_and, false_and, and_false, nle_T, nle_F, nlt_T, nlt_F, neq_T, neq_F, up_rd_s, up_rd_n, up_nc, cpy_nc, cpy_in, cpy_out, cpyOk_T, m1_lt, m1_le, m1_nle, m1_nlt, m1_eq, m1_eq2, m1_0le, Nat.add_zero, Nat.zero_add, Nat.mul_one, Nat.sub_zero, if_true, if_false, Nat.add_sub_cancel, Nat.add_sub_cancel_left, in_in, in_inN, iw_in, rq_in, pw_fold, nt_fold, ask_pw, has_eq, or_0, bt1, Bool.true_eq_false, Bool.false_eq_true])
            exact hg b (by omega)
        · (try simp (disch := omega) only [String.reduceEq, isRu_1, isRu_61, isGr_3, isSt_0, isSt_6, lg_selfT, isB_0, isB_1, eq_self, true_or, or_true, false_or, or_false, or_self, fa_lit, nI_add, pk_mul, pk_sub, nI_addm, nI_leI, nI_ltI, nI_eqI, vp_inI, ix_nI, forall_eq, true_implies, false_implies, not_true_eq_false, not_false_eq_true, and_true, true_and, false_and, and_false, nle_T, nle_F, nlt_T, nlt_F, neq_T, neq_F, up_rd_s, up_rd_n, up_nc, cpy_nc, cpy_in, cpy_out, cpyOk_T, m1_lt, m1_le, m1_nle, m1_nlt, m1_eq, m1_eq2, m1_0le, Nat.add_zero, Nat.zero_add, Nat.mul_one, Nat.sub_zero, if_true, if_false, Nat.add_sub_cancel, Nat.add_sub_cancel_left, in_in, in_inN, iw_in, rq_in, pw_fold, nt_fold, ask_pw, has_eq, or_0, bt1, Bool.true_eq_false, Bool.false_eq_true])
          exact hc d hd
        · rw [hk] at h
          refine h t (fun c hcf => ?_) (fun f q1 q2 => ?_) (fun b hb => ?_) t4 (fun d i hd hi => ?_)
          · rw [t1 c hcf]
            have := hcf.2.1
            (try simp (disch := omega) only [String.reduceEq, isRu_1, isRu_61, isGr_3, isSt_0, isSt_6, lg_selfT, isB_0, isB_1, eq_self, true_or, or_true, false_or, or_false, or_self, fa_lit, nI_add, pk_mul, pk_sub, nI_addm, nI_leI, nI_ltI, nI_eqI, vp_inI, ix_nI, forall_eq, true_implies, false_implies, not_true_eq_false, not_false_eq_true, and_true, true_and, false_and, and_false, nle_T, nle_F, nlt_T, nlt_F, neq_T, neq_F, up_rd_s, up_rd_n, up_nc, cpy_nc, cpy_in, cpy_out, cpyOk_T, m1_lt, m1_le, m1_nle, m1_nlt, m1_eq, m1_eq2, m1_0le, Nat.add_zero, Nat.zero_add, Nat.mul_one, Nat.sub_zero, if_true, if_false, Nat.add_sub_cancel, Nat.add_sub_cancel_left, in_in, in_inN, iw_in, rq_in, pw_fold, nt_fold, ask_pw, has_eq, or_0, bt1, Bool.true_eq_false, Bool.false_eq_true])
          · rw [t2 f q1 q2]
            (try simp (disch := omega) only [String.reduceEq, isRu_1, isRu_61, isGr_3, isSt_0, isSt_6, lg_selfT, isB_0, isB_1, eq_self, true_or, or_true, false_or, or_false, or_self, fa_lit, nI_add, pk_mul, pk_sub, nI_addm, nI_leI, nI_ltI, nI_eqI, vp_inI, ix_nI, forall_eq, true_implies, false_implies, not_true_eq_false, not_false_eq_true, and_true, true_and, false_and, and_false, nle_T, nle_F, nlt_T, nlt_F, neq_T, neq_F, up_rd_s, up_rd_n, up_nc, cpy_nc, cpy_in, cpy_out, cpyOk_T, m1_lt, m1_le, m1_nle, m1_nlt, m1_eq, m1_eq2, m1_0le, Nat.add_zero, Nat.zero_add, Nat.mul_one, Nat.sub_zero, if_true, if_false, Nat.add_sub_cancel, Nat.add_sub_cancel_left, in_in, in_inN, iw_in, rq_in, pw_fold, nt_fold, ask_pw, has_eq, or_0, bt1, Bool.true_eq_false, Bool.false_eq_true])
          · rw [t3 b (by omega)]
            (try simp (disch := omega) only [String.reduceEq, isRu_1, isRu_61, isGr_3, isSt_0, isSt_6, lg_selfT, isB_0, isB_1, eq_self, true_or, or_true, false_or, or_false, or_self, fa_lit, nI_add, pk_mul, pk_sub, nI_addm, nI_leI, nI_ltI, nI_eqI, vp_inI, ix_nI, forall_eq, true_implies, false_implies, not_true_eq_false, not_false_eq_true, and_true, true_and, false_and, and_false, nle_T, nle_F, nlt_T, nlt_F, neq_T, neq_F, up_rd_s, up_rd_n, up_nc, cpy_nc, cpy_in, cpy_out, cpyOk_T, m1_lt, m1_le, m1_nle, m1_nlt, m1_eq, m1_eq2, m1_0le, Nat.add_zero, Nat.zero_add, Nat.mul_one, Nat.sub_zero, if_true, if_false, Nat.add_sub_cancel, Nat.add_sub_cancel_left, in_in, in_inN, iw_in, rq_in, pw_fold, nt_fold, ask_pw, has_eq, or_0, bt1, Bool.true_eq_false, Bool.false_eq_true])
          · rw [t5 d i hd hi]
            (try simp (disch := omega) only [String.reduceEq, isRu_1, isRu_61, isGr_3, isSt_0, isSt_6, lg_selfT, isB_0, isB_1, eq_self, true_or, or_true, false_or, or_false, or_self, fa_lit, nI_add, pk_mul, pk_sub, nI_addm, nI_leI, nI_ltI, nI_eqI, vp_inI, ix_nI, forall_eq, true_implies, false_implies, not_true_eq_false, not_false_eq_true, and_true, true_and, false_and, and_false, nle_T, nle_F, nlt_T, nlt_F, neq_T, neq_F, up_rd_s, up_rd_n, up_nc, cpy_nc, cpy_in, cpy_out, cpyOk_T, m1_lt, m1_le, m1_nle, m1_nlt, m1_eq, m1_eq2, m1_0le, Nat.add_zero, Nat.zero_add, Nat.mul_one, Nat.sub_zero, if_true, if_false, Nat.add_sub_cancel, Nat.add_sub_cancel_left, in_in, in_inN, iw_in, rq_in, pw_fold, nt_fold, ask_pw, has_eq, or_0, bt1, Bool.true_eq_false, Bool.false_eq_true])
def g0 : Nat → Nat := fun _ => 0
theorem X12_completesAll {a : mA} {o : Option Nat} {un : Nat → Bool} {σ : Sto} {P : Sto → Prop} (hw : WFA a) (hM : RM a σ) (ho : ∀ z, o = some z → z < 6) (hun : ∀ b, b < 6 → un b = (aUnk (aVal a) b || decide (o = some b)))
    (h : ∀ σ' : Sto, (∀ c, c < 92 ∨ 98 < c ∨ c = 96 → c ≠ 87 → σ' c = σ c) → (∀ f, f ≠ 13 → f ≠ 14 → σ' 87 f = σ 87 f) → (∀ d, d < 4 → σ' 97 d = nI (LA un (gv (aVal a)) (Ld (aCore a).1 (wyA a) (aCore a).2.2.2 (UA a) d) 6 g0)) → (∀ d i, d < 4 → i < 32 → bt (σ' 98 d) i = decide (0 < LA un (gv (aVal a)) (Lo (aCore a).1 (wyA a) (aCore a).2.2.2 (UA a) o d i) 6 g0)) → P σ') : D_X12_completesAll (optI o) σ P := by
  intro K6 h6
  have hA : VA (aVal a) := hw.2.2.2.2.2.1
  have hck : aClk a ≤ 2000 := hw.2.2.2.1
  have hsb : aSub a < 10 := hw.2.2.2.2.1
  refine X12_laySets (RLM_of hM) (RW_of hw) (fun σ1 f1 t1 => ?_)
  refine lp 4 (fun i s => K6 (nI i) s) (fun i s => (∀ c, c ≠ 97 → c ≠ 98 → s c = σ1 c) ∧ (∀ d, d < i → s 97 d = nI 0) ∧ ∀ d, d < i → s 98 d = nI 0) ?_ ?_ σ1 ⟨fun _ _ _ => rfl, fun d hd => absurd hd (Nat.not_lt_zero _), fun d hd => absurd hd (Nat.not_lt_zero _)⟩
  · intro s ⟨s1, s2, s3⟩
    apply h6
    have g1 : ∀ c, c ≠ 93 → c ≠ 97 → c ≠ 98 → s c = σ c := fun c c1 c2 c3 => (s1 c c2 c3).trans (f1 c c1)
    have e6 : s 87 6 = nI (aSub a) := by rw [g1 87 (by omega) (by omega) (by omega)]; exact hM.2.2.2.2.1
    (try simp (disch := omega) only [String.reduceEq, isRu_1, isRu_61, isGr_3, isSt_0, isSt_6, lg_selfT, isB_0, isB_1, eq_self, true_or, or_true, false_or, or_false, or_self, fa_lit, nI_add, pk_mul, pk_sub, nI_addm, nI_leI, nI_ltI, nI_eqI, vp_inI, ix_nI, forall_eq, true_implies, false_implies, not_true_eq_false, not_false_eq_true, and_true, true_and, false_and, and_false, nle_T, nle_F, nlt_T, nlt_F, neq_T, neq_F, up_rd_s, up_rd_n, up_nc, cpy_nc, cpy_in, cpy_out, cpyOk_T, m1_lt, m1_le, m1_nle, m1_nlt, m1_eq, m1_eq2, m1_0le, Nat.add_zero, Nat.zero_add, Nat.mul_one, Nat.sub_zero, if_true, if_false, Nat.add_sub_cancel, Nat.add_sub_cancel_left, in_in, in_inN, iw_in, rq_in, pw_fold, nt_fold, ask_pw, has_eq, or_0, bt1, Bool.true_eq_false, Bool.false_eq_true, e6])
    refine X12_usedBy (t := aClk a) (GMo_cg (g1 88 (by omega) (by omega) (by omega)) (GM_of hM)) (GW_of hw) (by omega) hsb (by rw [g1 87 (by omega) (by omega) (by omega)]; exact hM.2.2.2.1) (fun s2' f2 => ?_)
    have g2 : ∀ c, c ≠ 92 → c ≠ 93 → c ≠ 97 → c ≠ 98 → s2' c = σ c := fun c c0 c1 c2 c3 => (f2 c c0).trans (g1 c c1 c2 c3)
    have hC : CMP (aCore a).1 (wyA a) (aCore a).2.2.2 (aVal a) s2' := by
      refine ⟨RLM_cg (g2 88 (by omega) (by omega) (by omega) (by omega)) (RLM_of hM), ?_, ?_, ?_, ?_⟩
      · unfold MSE
        rw [f2 93 (by omega), s1 93 (by omega) (by omega)]
        exact t1
      · rw [g2 91 (by omega) (by omega) (by omega) (by omega)]
        exact hM.2.2.2.2.2.1
      · rw [g2 88 (by omega) (by omega) (by omega) (by omega)]
        exact ways_M hw hM
      · rw [g2 88 (by omega) (by omega) (by omega) (by omega)]
        exact hM.1.2.2.2.2.2
    (try simp (disch := omega) only [String.reduceEq, isRu_1, isRu_61, isGr_3, isSt_0, isSt_6, lg_selfT, isB_0, isB_1, eq_self, true_or, or_true, false_or, or_false, or_self, fa_lit, nI_add, pk_mul, pk_sub, nI_addm, nI_leI, nI_ltI, nI_eqI, vp_inI, ix_nI, forall_eq, true_implies, false_implies, not_true_eq_false, not_false_eq_true, and_true, true_and, false_and, and_false, nle_T, nle_F, nlt_T, nlt_F, neq_T, neq_F, up_rd_s, up_rd_n, up_nc, cpy_nc, cpy_in, cpy_out, cpyOk_T, m1_lt, m1_le, m1_nle, m1_nlt, m1_eq, m1_eq2, m1_0le, Nat.add_zero, Nat.zero_add, Nat.mul_one, Nat.sub_zero, if_true, if_false, Nat.add_sub_cancel, Nat.add_sub_cancel_left, in_in, in_inN, iw_in, rq_in, pw_fold, nt_fold, ask_pw, has_eq, or_0, bt1, Bool.true_eq_false, Bool.false_eq_true])
    refine X12_completes (U := UA a) (un := un) (RW_of hw) hw.1.2.2.2.2.2.2.2 hA ho hun 6 0 rfl 8 (by decide) g0 (fun _ => 0) s2' _ hC (fun b hb => absurd hb (Nat.not_lt_zero _)) (fun d hd => by rw [f2 97 (by omega)]; exact s2 d hd) (fun u u1 u2 _ u4 u5 => ?_)
    refine h u (fun c c1 c2 => ?_) (fun f q1 q2 => ?_) (fun d hd => ?_) (fun d i hd hi => ?_)
    · rw [u1 c (by unfold cfr; omega)]
      exact g2 c (by omega) (by omega) (by omega) (by omega)
    · rw [u2 f q1 q2, g2 87 (by omega) (by omega) (by omega) (by omega)]
    · rw [u4 d hd, Nat.zero_add]
    · rw [u5 d i hd hi, f2 98 (by omega), s3 d hd, b_z, Bool.false_or]
  · intro i s hi ⟨s1, s2, s3⟩ hnext
    apply h6
    (try simp (disch := omega) only [String.reduceEq, isRu_1, isRu_61, isGr_3, isSt_0, isSt_6, lg_selfT, isB_0, isB_1, eq_self, true_or, or_true, false_or, or_false, or_self, fa_lit, nI_add, pk_mul, pk_sub, nI_addm, nI_leI, nI_ltI, nI_eqI, vp_inI, ix_nI, forall_eq, true_implies, false_implies, not_true_eq_false, not_false_eq_true, and_true, true_and, false_and, and_false, nle_T, nle_F, nlt_T, nlt_F, neq_T, neq_F, up_rd_s, up_rd_n, up_nc, cpy_nc, cpy_in, cpy_out, cpyOk_T, m1_lt, m1_le, m1_nle, m1_nlt, m1_eq, m1_eq2, m1_0le, Nat.add_zero, Nat.zero_add, Nat.mul_one, Nat.sub_zero, if_true, if_false, Nat.add_sub_cancel, Nat.add_sub_cancel_left, in_in, in_inN, iw_in, rq_in, pw_fold, nt_fold, ask_pw, has_eq, or_0, bt1, Bool.true_eq_false, Bool.false_eq_true])
    refine hnext _ ⟨fun c c1 c2 => by (try simp (disch := omega) only [String.reduceEq, isRu_1, isRu_61, isGr_3, isSt_0, isSt_6, lg_selfT, isB_0, isB_1, eq_self, true_or, or_true, false_or, or_false, or_self, fa_lit, nI_add, pk_mul, pk_sub, nI_addm, nI_leI, nI_ltI, nI_eqI, vp_inI, ix_nI, forall_eq, true_implies, false_implies, not_true_eq_false, not_false_eq_true, and_true, true_and, false_and, and_false, nle_T, nle_F, nlt_T, nlt_F, neq_T, neq_F, up_rd_s, up_rd_n, up_nc, cpy_nc, cpy_in, cpy_out, cpyOk_T, m1_lt, m1_le, m1_nle, m1_nlt, m1_eq, m1_eq2, m1_0le, Nat.add_zero, Nat.zero_add, Nat.mul_one, Nat.sub_zero, if_true, if_false, Nat.add_sub_cancel, Nat.add_sub_cancel_left, in_in, in_inN, iw_in, rq_in, pw_fold, nt_fold, ask_pw, has_eq, or_0, bt1, Bool.true_eq_false, Bool.false_eq_true]); exact s1 c c1 c2, fun d hd => ?_, fun d hd => ?_⟩
    · by_cases e : d = i
      · subst e
        (try simp (disch := omega) only [String.reduceEq, isRu_1, isRu_61, isGr_3, isSt_0, isSt_6, lg_selfT, isB_0, isB_1, eq_self, true_or, or_true, false_or, or_false, or_self, fa_lit, nI_add, pk_mul, pk_sub, nI_addm, nI_leI, nI_ltI, nI_eqI, vp_inI, ix_nI, forall_eq, true_implies, false_implies, not_true_eq_false, not_false_eq_true, and_true, true_and, false_and, and_false, nle_T, nle_F, nlt_T, nlt_F, neq_T, neq_F, up_rd_s, up_rd_n, up_nc, cpy_nc, cpy_in, cpy_out, cpyOk_T, m1_lt, m1_le, m1_nle, m1_nlt, m1_eq, m1_eq2, m1_0le, Nat.add_zero, Nat.zero_add, Nat.mul_one, Nat.sub_zero, if_true, if_false, Nat.add_sub_cancel, Nat.add_sub_cancel_left, in_in, in_inN, iw_in, rq_in, pw_fold, nt_fold, ask_pw, has_eq, or_0, bt1, Bool.true_eq_false, Bool.false_eq_true])
      · (try simp (disch := omega) only [String.reduceEq, isRu_1, isRu_61, isGr_3, isSt_0, isSt_6, lg_selfT, isB_0, isB_1, eq_self, true_or, or_true, false_or, or_false, or_self, fa_lit, nI_add, pk_mul, pk_sub, nI_addm, nI_leI, nI_ltI, nI_eqI, vp_inI, ix_nI, forall_eq, true_implies, false_implies, not_true_eq_false, not_false_eq_true, and_true, true_and, false_and, and_false, nle_T, nle_F, nlt_T, nlt_F, neq_T, neq_F, up_rd_s, up_rd_n, up_nc, cpy_nc, cpy_in, cpy_out, cpyOk_T, m1_lt, m1_le, m1_nle, m1_nlt, m1_eq, m1_eq2, m1_0le, Nat.add_zero, Nat.zero_add, Nat.mul_one, Nat.sub_zero, if_true, if_false, Nat.add_sub_cancel, Nat.add_sub_cancel_left, in_in, in_inN, iw_in, rq_in, pw_fold, nt_fold, ask_pw, has_eq, or_0, bt1, Bool.true_eq_false, Bool.false_eq_true])
        exact s2 d (by omega)
    · by_cases e : d = i
      · subst e
        (try simp (disch := omega) only [String.reduceEq, isRu_1, isRu_61, isGr_3, isSt_0, isSt_6, lg_selfT, isB_0, isB_1, eq_self, true_or, or_true, false_or, or_false, or_self, fa_lit, nI_add, pk_mul, pk_sub, nI_addm, nI_leI, nI_ltI, nI_eqI, vp_inI, ix_nI, forall_eq, true_implies, false_implies, not_true_eq_false, not_false_eq_true, and_true, true_and, false_and, and_false, nle_T, nle_F, nlt_T, nlt_F, neq_T, neq_F, up_rd_s, up_rd_n, up_nc, cpy_nc, cpy_in, cpy_out, cpyOk_T, m1_lt, m1_le, m1_nle, m1_nlt, m1_eq, m1_eq2, m1_0le, Nat.add_zero, Nat.zero_add, Nat.mul_one, Nat.sub_zero, if_true, if_false, Nat.add_sub_cancel, Nat.add_sub_cancel_left, in_in, in_inN, iw_in, rq_in, pw_fold, nt_fold, ask_pw, has_eq, or_0, bt1, Bool.true_eq_false, Bool.false_eq_true])
      · (try simp (disch := omega) only [String.reduceEq, isRu_1, isRu_61, isGr_3, isSt_0, isSt_6, lg_selfT, isB_0, isB_1, eq_self, true_or, or_true, false_or, or_false, or_self, fa_lit, nI_add, pk_mul, pk_sub, nI_addm, nI_leI, nI_ltI, nI_eqI, vp_inI, ix_nI, forall_eq, true_implies, false_implies, not_true_eq_false, not_false_eq_true, and_true, true_and, false_and, and_false, nle_T, nle_F, nlt_T, nlt_F, neq_T, neq_F, up_rd_s, up_rd_n, up_nc, cpy_nc, cpy_in, cpy_out, cpyOk_T, m1_lt, m1_le, m1_nle, m1_nlt, m1_eq, m1_eq2, m1_0le, Nat.add_zero, Nat.zero_add, Nat.mul_one, Nat.sub_zero, if_true, if_false, Nat.add_sub_cancel, Nat.add_sub_cancel_left, in_in, in_inN, iw_in, rq_in, pw_fold, nt_fold, ask_pw, has_eq, or_0, bt1, Bool.true_eq_false, Bool.false_eq_true])
        exact s3 d (by omega)
