/-! MATH. What all operations share. -/
/-- a number is out of range, or one of n -/
theorem rg (x : Int32) {n : Nat} (hn : n < 2147483648) : (x < nI 0 ∨ nI n ≤ x) ∨ ∃ j : Nat, j < n ∧ x = nI j := by
  rcases pk_ix x hn with h | h | h
  · exact Or.inl (Or.inl h)
  · exact Or.inl (Or.inr h)
  · exact Or.inr h
theorem lt_F {x y : Int32} (h : y ≤ x) : ¬ x < y := by
  rw [fa_lt]
  rw [fa_le] at h
  omega
theorem rq_out {x : Int32} {n : Nat} {σ : Sto} {P : Sto → Prop} {PX : String → Sto → Prop} (h : x < nI 0 ∨ nI n ≤ x) : D_X11_requireIndex x (nI n) σ P PX = PX "java/lang/IndexOutOfBoundsException" σ := by
  unfold D_X11_requireIndex
  apply propext
  constructor
  · intro ⟨h1, h2⟩
    by_cases h0 : x < 0
    · exact h1 h0
    · rcases h with h | h
      · exact absurd h h0
      · exact (h2 h0).2 (lt_F h)
  · intro hp
    refine ⟨fun _ => hp, fun h0 => ⟨fun hlt => ?_, fun _ => hp⟩⟩
    rcases h with h | h
    · exact absurd h h0
    · exact absurd hlt (lt_F h)
theorem rq_in {n j : Nat} {σ : Sto} {P : Sto → Prop} {PX : String → Sto → Prop} (h : j < n) (hn : n < 2147483648) : D_X11_requireIndex (nI j) (nI n) σ P PX = P σ := by
  unfold D_X11_requireIndex
  simp (disch := omega) only [String.reduceEq, isRu_1, isRu_61, isGr_3, isSt_0, isSt_6, lg_selfT, isB_0, isB_1, eq_self, true_or, or_true, false_or, or_false, or_self, fa_lit, nI_add, pk_mul, pk_sub, nI_addm, nI_leI, nI_ltI, nI_eqI, vp_inI, ix_nI, forall_eq, true_implies, false_implies, not_true_eq_false, not_false_eq_true, and_true, true_and, false_and, and_false, nle_T, nle_F, nlt_T, nlt_F, neq_T, neq_F, up_rd_s, up_rd_n, up_nc, cpy_nc, cpy_in, cpy_out, cpyOk_T, m1_lt, m1_le, m1_nle, m1_nlt, m1_eq, m1_eq2, m1_0le, Nat.add_zero, Nat.zero_add, Nat.mul_one, Nat.sub_zero, if_true, if_false, Nat.add_sub_cancel, Nat.add_sub_cancel_left]
theorem le_of_lt1 {x : Int32} {m : Nat} (hm : m < 2147483647) : (nI m < x) = (nI (m + 1) ≤ x) := by
  rw [fa_lt, fa_le, nI_toInt (show m < 2 ^ 31 by omega), nI_toInt (show m + 1 < 2 ^ 31 by omega)]
  apply propext
  omega
theorem iw_out {x lo : Int32} {m n : Nat} {σ : Sto} {P : Int32 → Sto → Prop} (hm : m + 1 = n) (hn : n < 2147483648) (h : x < lo ∨ nI n ≤ x) : D_X11_isWithin x lo (nI m) σ P = P (nI 0) σ := by
  unfold D_X11_isWithin
  rw [le_of_lt1 (by omega), hm]
  apply propext
  constructor
  · intro ⟨h1, h2⟩
    by_cases h0 : x < lo
    · exact h1 h0
    · rcases h with h | h
      · exact absurd h h0
      · exact (h2 h0).1 h
  · intro hp
    refine ⟨fun _ => hp, fun h0 => ⟨fun _ => hp, fun hlt => ?_⟩⟩
    rcases h with h | h
    · exact absurd h h0
    · exact absurd h hlt
theorem in_out {x lo : Int32} {m n : Nat} {σ : Sto} {P : Int32 → Sto → Prop} (hm : m + 1 = n) (hn : n < 2147483648) (h : x < lo ∨ nI n ≤ x) : D_X12_in x lo (nI m) σ P = P (nI 0) σ := iw_out hm hn h
theorem iw_in {j lo hi : Nat} {σ : Sto} {P : Int32 → Sto → Prop} (h0 : lo ≤ j) (h : j ≤ hi) (hn : hi < 2147483648) : D_X11_isWithin (nI j) (nI lo) (nI hi) σ P = P (nI 1) σ := by
  unfold D_X11_isWithin
  simp (disch := omega) only [String.reduceEq, isRu_1, isRu_61, isGr_3, isSt_0, isSt_6, lg_selfT, isB_0, isB_1, eq_self, true_or, or_true, false_or, or_false, or_self, fa_lit, nI_add, pk_mul, pk_sub, nI_addm, nI_leI, nI_ltI, nI_eqI, vp_inI, ix_nI, forall_eq, true_implies, false_implies, not_true_eq_false, not_false_eq_true, and_true, true_and, false_and, and_false, nle_T, nle_F, nlt_T, nlt_F, neq_T, neq_F, up_rd_s, up_rd_n, up_nc, cpy_nc, cpy_in, cpy_out, cpyOk_T, m1_lt, m1_le, m1_nle, m1_nlt, m1_eq, m1_eq2, m1_0le, Nat.add_zero, Nat.zero_add, Nat.mul_one, Nat.sub_zero, if_true, if_false, Nat.add_sub_cancel, Nat.add_sub_cancel_left]
theorem in_in {j lo hi : Nat} {σ : Sto} {P : Int32 → Sto → Prop} (h0 : lo ≤ j) (h : j ≤ hi) (hn : hi < 2147483648) : D_X12_in (nI j) (nI lo) (nI hi) σ P = P (nI 1) σ := iw_in h0 h hn
/-- the model's count minus one as a bound -/
theorem in_outN {x : Int32} {n : Nat} {σ : Sto} {P : Int32 → Sto → Prop} (hn : n < 2147483648) (h : x < nI 0 ∨ nI n ≤ x) : D_X12_in x (nI 0) (nI n - nI 1) σ P = P (nI 0) σ := by
  rcases Nat.eq_zero_or_pos n with rfl | hp
  · unfold D_X12_in
    apply propext
    have e : nI 0 - nI 1 = (-1 : Int32) := rfl
    rw [e]
    by_cases h0 : x < nI 0
    · exact ⟨fun q => q.1 h0, fun q => ⟨fun _ => q, fun n => absurd h0 n⟩⟩
    · have h2 : (-1 : Int32) < x := by
        rw [fa_lt] at h0 ⊢
        have : (nI 0).toInt = 0 := rfl
        have : (-1 : Int32).toInt = -1 := rfl
        omega
      exact ⟨fun q => (q.2 h0).1 h2, fun q => ⟨fun _ => q, fun _ => ⟨fun _ => q, fun n => absurd h2 n⟩⟩⟩
  · rw [pk_sub hp]
    exact in_out (by omega) hn h
theorem in_inN {j n : Nat} {σ : Sto} {P : Int32 → Sto → Prop} (h : j < n) (hn : n < 2147483648) : D_X12_in (nI j) (nI 0) (nI n - nI 1) σ P = P (nI 1) σ := by
  rw [pk_sub (by omega)]
  exact in_in (Nat.zero_le j) (by omega) (by omega)
theorem WFA_keep {a : mA} (h : WFA a) : WFA (aKeep a) := by
  obtain ⟨h1, h2, ⟨h3, h3b⟩, h4⟩ := h
  refine ⟨h1, h2, ⟨keepH_len h3, fun c hc => ?_⟩, h4⟩
  replace hc : c ∈ keepH (aHist a) (aCore a) := hc
  unfold keepH at hc
  rcases List.mem_append.mp hc with hm | hm
  · split at hm
    · exact h3b c hm
    · exact h3b c (List.mem_of_mem_tail hm)
  · rw [List.mem_singleton.mp hm]; exact h1
theorem WFA_core {a : mA} {c : mCore} (h : WFA a) (hc : WFCore c) : WFA (c, a.2) := ⟨hc, h.2⟩
theorem fin_core {a : mA} {c' : mCore} {σ1 S1 σ2 S2 : Sto} (hw : WFA a) (hc : WFCore c') (hE1 : RE (aKeep a) σ1) (hEc : CoreE c' S1 0) (fE : ∀ k, 6 ≤ k → reC k → S1 k = σ1 k) (f12 : ∀ k, k < 87 → σ2 k = S1 k) (hM2 : RM (aKeep a) σ2) (hMc : CoreM c' (S2 88) 0) (fS : ∀ k, k ≠ 88 → S2 k = σ2 k) : Inv S2 := by
  have hk := WFA_keep hw
  have e1 : RE (c', (aKeep a).2) S1 := RE_core hk.2.2.1.1 hEc fE hE1
  refine ⟨(c', (aKeep a).2), WFA_core hk hc, RE_same (a := (c', (aKeep a).2)) hk.2.2.1.1 (fun k hk => ?_) e1, RM_core hMc (fun k h1 _ => fS k h1) (fun f _ => by rw [fS 87 (by omega)]) hM2⟩
  unfold reC at hk
  rw [fS k (by omega), f12 k (by omega)]
/-- only the model's thrown has changed -/
theorem inv_same {a : mA} {σ S : Sto} (hw : WFA a) (hE : RE a σ) (hM : RM a σ) (h1 : ∀ k, reC k → S k = σ k) (h2 : ∀ k, rmC k → S k = σ k) (h3 : ∀ f, rmF f → S 87 f = σ 87 f) : Inv S := ⟨a, hw, RE_same hw.2.2.1.1 h1 hE, RM_same h2 h3 hM⟩
theorem inv_th {a : mA} {σ : Sto} (hw : WFA a) (hE : RE a σ) (hM : RM a σ) (v : Int32) : Inv (up σ 87 8 v) := inv_same hw hE hM (fun k hk => by unfold reC at hk; simp (disch := omega) only [String.reduceEq, isRu_1, isRu_61, isGr_3, isSt_0, isSt_6, lg_selfT, isB_0, isB_1, eq_self, true_or, or_true, false_or, or_false, or_self, fa_lit, nI_add, pk_mul, pk_sub, nI_addm, nI_leI, nI_ltI, nI_eqI, vp_inI, ix_nI, forall_eq, true_implies, false_implies, not_true_eq_false, not_false_eq_true, and_true, true_and, false_and, and_false, nle_T, nle_F, nlt_T, nlt_F, neq_T, neq_F, up_rd_s, up_rd_n, up_nc, cpy_nc, cpy_in, cpy_out, cpyOk_T, m1_lt, m1_le, m1_nle, m1_nlt, m1_eq, m1_eq2, m1_0le, Nat.add_zero, Nat.zero_add, Nat.mul_one, Nat.sub_zero, if_true, if_false, Nat.add_sub_cancel, Nat.add_sub_cancel_left]) (fun k hk => by unfold rmC at hk; simp (disch := omega) only [String.reduceEq, isRu_1, isRu_61, isGr_3, isSt_0, isSt_6, lg_selfT, isB_0, isB_1, eq_self, true_or, or_true, false_or, or_false, or_self, fa_lit, nI_add, pk_mul, pk_sub, nI_addm, nI_leI, nI_ltI, nI_eqI, vp_inI, ix_nI, forall_eq, true_implies, false_implies, not_true_eq_false, not_false_eq_true, and_true, true_and, false_and, and_false, nle_T, nle_F, nlt_T, nlt_F, neq_T, neq_F, up_rd_s, up_rd_n, up_nc, cpy_nc, cpy_in, cpy_out, cpyOk_T, m1_lt, m1_le, m1_nle, m1_nlt, m1_eq, m1_eq2, m1_0le, Nat.add_zero, Nat.zero_add, Nat.mul_one, Nat.sub_zero, if_true, if_false, Nat.add_sub_cancel, Nat.add_sub_cancel_left]) (fun f hf => by unfold rmF at hf; simp (disch := omega) only [String.reduceEq, isRu_1, isRu_61, isGr_3, isSt_0, isSt_6, lg_selfT, isB_0, isB_1, eq_self, true_or, or_true, false_or, or_false, or_self, fa_lit, nI_add, pk_mul, pk_sub, nI_addm, nI_leI, nI_ltI, nI_eqI, vp_inI, ix_nI, forall_eq, true_implies, false_implies, not_true_eq_false, not_false_eq_true, and_true, true_and, false_and, and_false, nle_T, nle_F, nlt_T, nlt_F, neq_T, neq_F, up_rd_s, up_rd_n, up_nc, cpy_nc, cpy_in, cpy_out, cpyOk_T, m1_lt, m1_le, m1_nle, m1_nlt, m1_eq, m1_eq2, m1_0le, Nat.add_zero, Nat.zero_add, Nat.mul_one, Nat.sub_zero, if_true, if_false, Nat.add_sub_cancel, Nat.add_sub_cancel_left])
theorem RM_th {a : mA} {σ : Sto} (hM : RM a σ) (v : Int32) : RM a (up σ 87 8 v) := RM_same (fun k hk => by unfold rmC at hk; simp (disch := omega) only [String.reduceEq, isRu_1, isRu_61, isGr_3, isSt_0, isSt_6, lg_selfT, isB_0, isB_1, eq_self, true_or, or_true, false_or, or_false, or_self, fa_lit, nI_add, pk_mul, pk_sub, nI_addm, nI_leI, nI_ltI, nI_eqI, vp_inI, ix_nI, forall_eq, true_implies, false_implies, not_true_eq_false, not_false_eq_true, and_true, true_and, false_and, and_false, nle_T, nle_F, nlt_T, nlt_F, neq_T, neq_F, up_rd_s, up_rd_n, up_nc, cpy_nc, cpy_in, cpy_out, cpyOk_T, m1_lt, m1_le, m1_nle, m1_nlt, m1_eq, m1_eq2, m1_0le, Nat.add_zero, Nat.zero_add, Nat.mul_one, Nat.sub_zero, if_true, if_false, Nat.add_sub_cancel, Nat.add_sub_cancel_left]) (fun f hf => by unfold rmF at hf; simp (disch := omega) only [String.reduceEq, isRu_1, isRu_61, isGr_3, isSt_0, isSt_6, lg_selfT, isB_0, isB_1, eq_self, true_or, or_true, false_or, or_false, or_self, fa_lit, nI_add, pk_mul, pk_sub, nI_addm, nI_leI, nI_ltI, nI_eqI, vp_inI, ix_nI, forall_eq, true_implies, false_implies, not_true_eq_false, not_false_eq_true, and_true, true_and, false_and, and_false, nle_T, nle_F, nlt_T, nlt_F, neq_T, neq_F, up_rd_s, up_rd_n, up_nc, cpy_nc, cpy_in, cpy_out, cpyOk_T, m1_lt, m1_le, m1_nle, m1_nlt, m1_eq, m1_eq2, m1_0le, Nat.add_zero, Nat.zero_add, Nat.mul_one, Nat.sub_zero, if_true, if_false, Nat.add_sub_cancel, Nat.add_sub_cancel_left]) hM
theorem RM_low {a : mA} {σ σ' : Sto} (h : ∀ k, 87 ≤ k → σ' k = σ k) (hM : RM a σ) : RM a σ' := RM_same (fun k hk => by unfold rmC at hk; exact h k (by omega)) (fun f _ => by rw [h 87 (by omega)]) hM
theorem RowAt_set {f f' : Nat → Int32} {l : List Nat} {p w : Nat} (h : RowAt f l) (h1 : ∀ k, k ≠ p → f' k = f k) (h2 : f' p = nI w) : RowAt f' (l.set p w) := by
  intro k v hk
  rw [List.getElem?_set] at hk
  by_cases e : p = k
  · subst e
    rw [if_pos rfl] at hk
    split at hk
    · cases hk; exact h2
    · cases hk
  · rw [if_neg e] at hk
    rw [h1 k (fun q => e q.symm)]
    exact h k v hk
theorem rg_up {x : Int32} {n : Nat} (lo : Nat) (hl : lo < 2147483648) (h : x < nI 0 ∨ nI n ≤ x) : x < nI lo ∨ nI n ≤ x := by
  rcases h with h | h
  · refine Or.inl ?_
    rw [fa_lt] at h ⊢
    rw [nI_toInt (show lo < 2 ^ 31 by omega)]
    have : (nI 0).toInt = 0 := rfl
    omega
  · exact Or.inr h
theorem rgm (x : Int32) {n : Nat} (hn : n < 2147483648) : (x < -nI 1 ∨ nI n ≤ x) ∨ x = -nI 1 ∨ ∃ j : Nat, j < n ∧ x = nI j := by
  rcases rg x hn with (h | h) | h
  · by_cases e : x = -nI 1
    · exact Or.inr (Or.inl e)
    · refine Or.inl (Or.inl ?_)
      rw [fa_lt] at h ⊢
      rw [fa_eq] at e
      have : (nI 0).toInt = 0 := rfl
      have := m1_i
      omega
  · exact Or.inl (Or.inr h)
  · exact Or.inr (Or.inr h)
theorem fcg {f : Nat → Int32} {a b : Nat} (h : a = b) : f a = f b := by rw [h]
theorem RulesAt_snoc {f f' : Nat → Int32} {l : List mRule} {r : mRule} (hl : ∀ r, r ∈ l → WFRule r) (h : RulesAt f l) (h1 : ∀ k, k < 16 * l.length → f' k = f k) (h2 : RuleAt f' (16 * l.length) r) : RulesAt f' (l ++ [r]) := by
  intro k q hk
  rcases Nat.lt_or_ge k l.length with e | e
  · rw [List.getElem?_append_left e] at hk
    exact RuleAt_congr (hl q (List.mem_of_getElem? hk)).2.2.2.1 (fun j hj => h1 _ (by omega)) (h k q hk)
  · have hlt := (List.getElem?_eq_some_iff.mp hk).1
    rw [List.length_append] at hlt
    have hlt : k < l.length + 1 := hlt
    have : k = l.length := by omega
    subst this
    rw [List.getElem?_append_right (Nat.le_refl _), Nat.sub_self] at hk
    cases hk
    exact h2
theorem RulesAt_set {f f' : Nat → Int32} {l : List mRule} {p : Nat} {r : mRule} (hl : ∀ r, r ∈ l → WFRule r) (h : RulesAt f l) (h1 : ∀ k, k < 16 * l.length → k < 16 * p ∨ 16 * p + 16 ≤ k → f' k = f k) (h2 : RuleAt f' (16 * p) r) : RulesAt f' (l.set p r) := by
  intro k q hk
  rw [List.getElem?_set] at hk
  by_cases e : p = k
  · subst e
    rw [if_pos rfl] at hk
    split at hk
    · cases hk; exact h2
    · cases hk
  · rw [if_neg e] at hk
    have hlt := (List.getElem?_eq_some_iff.mp hk).1
    exact RuleAt_congr (hl q (List.mem_of_getElem? hk)).2.2.2.1 (fun j hj => h1 _ (by omega) (by omega)) (h k q hk)
theorem RulesAt_erase {f f' : Nat → Int32} {l : List mRule} {p : Nat} (hl : ∀ r, r ∈ l → WFRule r) (h : RulesAt f l) (h1 : ∀ k, k < 16 * p → f' k = f k) (h2 : ∀ k, 16 * p ≤ k → k + 16 < 16 * l.length → f' k = f (k + 16)) : RulesAt f' (l.eraseIdx p) := by
  intro k q hk
  rw [List.getElem?_eraseIdx] at hk
  split at hk
  · exact RuleAt_congr (hl q (List.mem_of_getElem? hk)).2.2.2.1 (fun j hj => h1 _ (by omega)) (h k q hk)
  · have hlt := (List.getElem?_eq_some_iff.mp hk).1
    refine RuleAt_congr (f := fun j => f (j + 16)) (hl q (List.mem_of_getElem? hk)).2.2.2.1 (fun j hj => h2 _ (by omega) (by omega)) ?_
    have := h (k + 1) q hk
    obtain ⟨a0, a1, a2, a3, a4⟩ := this
    refine ⟨?_, ?_, ?_, ?_, fun c cc hc => ?_⟩
    · exact (fcg (f := f) (by omega)).trans a0
    · exact (fcg (f := f) (by omega)).trans a1
    · exact (fcg (f := f) (by omega)).trans a2
    · exact (fcg (f := f) (by omega)).trans a3
    · obtain ⟨b0, b1, b2⟩ := a4 c cc hc
      refine ⟨?_, ?_, ?_⟩
      · exact (fcg (f := f) (by omega)).trans b0
      · exact (fcg (f := f) (by omega)).trans b1
      · exact (fcg (f := f) (by omega)).trans b2
theorem GrantsAt_snoc {f f' : Nat → Int32} {l : List mGrant} {r : mGrant} (h : GrantsAt f l) (h1 : ∀ k, k < 5 * l.length → f' k = f k) (h2 : f' (5 * l.length) = nI r.1 ∧ f' (5 * l.length + 1) = nI r.2.1 ∧ f' (5 * l.length + 2) = nI r.2.2.1 ∧ f' (5 * l.length + 3) = nI r.2.2.2.1 ∧ f' (5 * l.length + 4) = nI r.2.2.2.2) : GrantsAt f' (l ++ [r]) := by
  intro k q hk
  rcases Nat.lt_or_ge k l.length with e | e
  · rw [List.getElem?_append_left e] at hk
    exact GrantsAt_congr (l := l) h1 h k q hk
  · have hlt := (List.getElem?_eq_some_iff.mp hk).1
    rw [List.length_append] at hlt
    have hlt : k < l.length + 1 := hlt
    have : k = l.length := by omega
    subst this
    rw [List.getElem?_append_right (Nat.le_refl _), Nat.sub_self] at hk
    cases hk
    exact h2
theorem GrantsAt_set {f f' : Nat → Int32} {l : List mGrant} {p : Nat} {r : mGrant} (h : GrantsAt f l) (h1 : ∀ k, k < 5 * l.length → k < 5 * p ∨ 5 * p + 5 ≤ k → f' k = f k) (h2 : f' (5 * p) = nI r.1 ∧ f' (5 * p + 1) = nI r.2.1 ∧ f' (5 * p + 2) = nI r.2.2.1 ∧ f' (5 * p + 3) = nI r.2.2.2.1 ∧ f' (5 * p + 4) = nI r.2.2.2.2) : GrantsAt f' (l.set p r) := by
  intro k q hk
  rw [List.getElem?_set] at hk
  by_cases e : p = k
  · subst e
    rw [if_pos rfl] at hk
    split at hk
    · cases hk; exact h2
    · cases hk
  · rw [if_neg e] at hk
    have hlt := (List.getElem?_eq_some_iff.mp hk).1
    obtain ⟨a0, a1, a2, a3, a4⟩ := h k q hk
    exact ⟨(h1 _ (by omega) (by omega)).trans a0, (h1 _ (by omega) (by omega)).trans a1, (h1 _ (by omega) (by omega)).trans a2, (h1 _ (by omega) (by omega)).trans a3, (h1 _ (by omega) (by omega)).trans a4⟩
theorem GrantsAt_erase {f f' : Nat → Int32} {l : List mGrant} {p : Nat} (h : GrantsAt f l) (h1 : ∀ k, k < 5 * p → f' k = f k) (h2 : ∀ k, 5 * p ≤ k → k + 5 < 5 * l.length → f' k = f (k + 5)) : GrantsAt f' (l.eraseIdx p) := by
  intro k q hk
  rw [List.getElem?_eraseIdx] at hk
  split at hk
  · obtain ⟨a0, a1, a2, a3, a4⟩ := h k q hk
    exact ⟨(h1 _ (by omega)).trans a0, (h1 _ (by omega)).trans a1, (h1 _ (by omega)).trans a2, (h1 _ (by omega)).trans a3, (h1 _ (by omega)).trans a4⟩
  · have hlt := (List.getElem?_eq_some_iff.mp hk).1
    obtain ⟨a0, a1, a2, a3, a4⟩ := h (k + 1) q hk
    refine ⟨?_, ?_, ?_, ?_, ?_⟩
    · rw [h2 _ (by omega) (by omega)]; exact (fcg (f := f) (by omega)).trans a0
    · rw [h2 _ (by omega) (by omega)]; exact (fcg (f := f) (by omega)).trans a1
    · rw [h2 _ (by omega) (by omega)]; exact (fcg (f := f) (by omega)).trans a2
    · rw [h2 _ (by omega) (by omega)]; exact (fcg (f := f) (by omega)).trans a3
    · rw [h2 _ (by omega) (by omega)]; exact (fcg (f := f) (by omega)).trans a4
/-- what a core's cells say of one rule -/
theorem getR {l : List mRule} {p : Nat} (h : p < l.length) : ∃ r, l[p]? = some r ∧ r ∈ l := ⟨l[p], List.getElem?_eq_getElem h, List.getElem_mem h⟩
theorem getG {l : List mGrant} {p : Nat} (h : p < l.length) : ∃ r, l[p]? = some r ∧ r ∈ l := ⟨l[p], List.getElem?_eq_getElem h, List.getElem_mem h⟩
