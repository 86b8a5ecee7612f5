/-! MATH. The grammar; numbers and sets in the engine. -/
def aNum (inp : List Nat) (i : Nat) : Option Nat × Nat := match inp[i]? with
  | none => (none, i)
  | some c => if 48 ≤ c ∧ c ≤ 57 then (match inp[i + 1]? with
      | none => (some (c - 48), i + 1)
      | some d => if 48 ≤ d ∧ d ≤ 57 then (if (c - 48) * 10 + (d - 48) < 16 then (some ((c - 48) * 10 + (d - 48)), i + 2) else (none, i + 1)) else (some (c - 48), i + 1)) else (none, i)
def aSet (inp : List Nat) : Nat → Nat → Nat → Option Nat × Nat
  | 0, i, _ => (none, i)
  | n + 1, i, acc => match aNum inp i with
    | (none, j) => (none, j)
    | (some v, j) => if inp[j]? = some 44 then aSet inp n (j + 1) (acc ||| 2 ^ v) else if inp[j]? = some 125 then (some (acc ||| 2 ^ v), j + 1) else (none, j)
def aKd (o : Option Nat) : Option Nat := if o = some 61 then some 0 else if o = some 35 then some 1 else if o = some 60 then some 2 else if o = some 62 then some 3 else if o = some 123 then some 4 else none
def aOp (inp : List Nat) (k i : Nat) : Option Nat × Nat := if k = 4 then aSet inp 71 i 0 else aNum inp i
def aCond (inp : List Nat) (i : Nat) : Option mCond × Nat := match inp[i]? with
  | none => (none, i)
  | some c => if 97 ≤ c ∧ c ≤ 102 then (match aKd inp[i + 1]? with
      | none => (none, i + 1)
      | some k => match aOp inp k (i + 2) with
        | (none, j) => (none, j)
        | (some s, j) => (some (c - 97, k, s), j)) else (none, i)
def aConds (inp : List Nat) : Nat → Nat → List mCond → Option (List mCond) × Nat
  | 0, i, _ => (none, i)
  | n + 1, i, acc => match aCond inp i with
    | (none, j) => (none, j)
    | (some q, j) => if inp[j]? = some 58 then (some (acc ++ [q]), j + 1) else if n = 0 then (none, j) else if inp[j]? = some 38 then aConds inp n (j + 1) (acc ++ [q]) else (none, j)
def aBody (inp : List Nat) (i : Nat) : Option (List mCond) × Nat := if inp[i]? = some 58 then (some [], i + 1) else aConds inp 4 i []
def aTail (inp : List Nat) (p e : Nat) (cs : List mCond) (j : Nat) : Option mRule × Nat := match inp[j]? with
  | none => (none, j)
  | some d => if 48 ≤ d ∧ d ≤ 57 then (if inp[j + 1]? = some 59 then (some (p, e, d - 48, cs), j + 2) else (none, j + 1)) else (none, j)
def aRest (inp : List Nat) (p e : Nat) (i : Nat) : Option mRule × Nat := match aBody inp i with
  | (none, j) => (none, j)
  | (some cs, j) => aTail inp p e cs j
def aRule (inp : List Nat) (i : Nat) : Option mRule × Nat := match inp[i]? with
  | none => (none, i)
  | some c => if 48 ≤ c ∧ c ≤ 51 then (if inp[i + 1]? = some 45 then aRest inp (c - 48) 1 (i + 2) else if inp[i + 1]? = some 43 then aRest inp (c - 48) 0 (i + 2) else (none, i + 1)) else (none, i)
def aText (inp : List Nat) : Nat → Nat → List mRule → Option (List mRule) × Nat
  | 0, i, _ => (none, i)
  | n + 1, i, L => match aRule inp i with
    | (none, j) => (none, j)
    | (some r, j) => if j < inp.length then aText inp n j (L ++ [r]) else (some (L ++ [r]), j)
theorem aSet_S (inp : List Nat) (n i acc : Nat) : aSet inp (n + 1) i acc = match aNum inp i with
    | (none, j) => (none, j)
    | (some v, j) => if inp[j]? = some 44 then aSet inp n (j + 1) (acc ||| 2 ^ v) else if inp[j]? = some 125 then (some (acc ||| 2 ^ v), j + 1) else (none, j) := rfl
theorem aConds_S (inp : List Nat) (n i : Nat) (acc : List mCond) : aConds inp (n + 1) i acc = match aCond inp i with
    | (none, j) => (none, j)
    | (some q, j) => if inp[j]? = some 58 then (some (acc ++ [q]), j + 1) else if n = 0 then (none, j) else if inp[j]? = some 38 then aConds inp n (j + 1) (acc ++ [q]) else (none, j) := rfl
theorem aText_S (inp : List Nat) (n i : Nat) (L : List mRule) : aText inp (n + 1) i L = match aRule inp i with
    | (none, j) => (none, j)
    | (some r, j) => if j < inp.length then aText inp n j (L ++ [r]) else (some (L ++ [r]), j) := rfl
theorem get_lt {inp : List Nat} {i c : Nat} (h : inp[i]? = some c) : i < inp.length := (List.getElem?_eq_some_iff.mp h).1
theorem aNum_j {inp : List Nat} {i j : Nat} {o : Option Nat} (hi : i ≤ inp.length) (h : aNum inp i = (o, j)) : i ≤ j ∧ j ≤ inp.length ∧ ∀ v, o = some v → v < 16 ∧ i + 1 ≤ j := by
  unfold aNum at h
  cases h0 : inp[i]? with
  | none =>
    rw [h0] at h
    cases h
    exact ⟨Nat.le_refl _, hi, fun v hv => by cases hv⟩
  | some c =>
    have l0 := get_lt h0
    rw [h0] at h
    dsimp only at h
    split at h
    · cases h1 : inp[i + 1]? with
      | none =>
        rw [h1] at h
        cases h
        exact ⟨by omega, by omega, fun v hv => by cases hv; omega⟩
      | some d =>
        have l1 := get_lt h1
        rw [h1] at h
        dsimp only at h
        split at h
        · split at h
          · cases h
            exact ⟨by omega, by omega, fun v hv => by cases hv; omega⟩
          · cases h
            exact ⟨by omega, by omega, fun v hv => by cases hv⟩
        · cases h
          exact ⟨by omega, by omega, fun v hv => by cases hv; omega⟩
    · cases h
      exact ⟨Nat.le_refl _, hi, fun v hv => by cases hv⟩
theorem or_pw {a v : Nat} (ha : a < 65536) (hv : v < 16) : 1 ≤ a ||| 2 ^ v ∧ a ||| 2 ^ v < 65536 := by
  have h2 : (2 : Nat) ^ v < 2 ^ 16 := Nat.pow_lt_pow_right (by decide) hv
  have h3 : 2 ^ v ≤ a ||| 2 ^ v := Nat.right_le_or
  have h4 : a ||| 2 ^ v < 2 ^ 16 := Nat.or_lt_two_pow ha h2
  have h5 := Nat.two_pow_pos v
  exact ⟨by omega, h4⟩
theorem aSet_j {inp : List Nat} : ∀ (n i acc j : Nat) (o : Option Nat), i ≤ inp.length → acc < 65536 → aSet inp n i acc = (o, j) → i ≤ j ∧ j ≤ inp.length ∧ ∀ v, o = some v → 1 ≤ v ∧ v ≤ 65535
  | 0, i, acc, j, o, hi, ha, h => by
    cases h
    exact ⟨Nat.le_refl _, hi, fun v hv => by cases hv⟩
  | n + 1, i, acc, j, o, hi, ha, h => by
    unfold aSet at h
    cases hn : aNum inp i with
    | mk o1 j1 =>
      obtain ⟨q1, q2, q3⟩ := aNum_j hi hn
      rw [hn] at h
      cases o1 with
      | none =>
        cases h
        exact ⟨q1, q2, fun v hv => by cases hv⟩
      | some v =>
        obtain ⟨v1, v2⟩ := q3 v rfl
        obtain ⟨w1, w2⟩ := or_pw ha v1
        dsimp only at h
        split at h
        · rename_i h44
          have l1 := get_lt h44
          obtain ⟨r1, r2, r3⟩ := aSet_j n (j1 + 1) _ j o (by omega) w2 h
          exact ⟨by omega, r2, r3⟩
        · split at h
          · rename_i h125
            have l1 := get_lt h125
            cases h
            exact ⟨by omega, by omega, fun v hv => by cases hv; omega⟩
          · cases h
            exact ⟨q1, q2, fun v hv => by cases hv⟩
theorem aKd_lt {o : Option Nat} {k : Nat} (h : aKd o = some k) : k ≤ 4 ∧ ∃ c, o = some c := by
  unfold aKd at h
  split at h
  · rename_i e; cases h; exact ⟨by decide, _, e⟩
  · split at h
    · rename_i e; cases h; exact ⟨by decide, _, e⟩
    · split at h
      · rename_i e; cases h; exact ⟨by decide, _, e⟩
      · split at h
        · rename_i e; cases h; exact ⟨by decide, _, e⟩
        · split at h
          · rename_i e; cases h; exact ⟨by decide, _, e⟩
          · cases h
theorem aCond_j {inp : List Nat} {i j : Nat} {o : Option mCond} (hi : i ≤ inp.length) (h : aCond inp i = (o, j)) : i ≤ j ∧ j ≤ inp.length ∧ ∀ q, o = some q → WFCond q := by
  unfold aCond at h
  cases h0 : inp[i]? with
  | none =>
    rw [h0] at h
    cases h
    exact ⟨Nat.le_refl _, hi, fun v hv => by cases hv⟩
  | some c =>
    have l0 := get_lt h0
    rw [h0] at h
    dsimp only at h
    split at h
    · cases hk : aKd inp[i + 1]? with
      | none =>
        rw [hk] at h
        cases h
        exact ⟨by omega, by omega, fun v hv => by cases hv⟩
      | some k =>
        obtain ⟨k1, c1, k2⟩ := aKd_lt hk
        have l1 := get_lt k2
        rw [hk] at h
        dsimp only at h
        cases hop : aOp inp k (i + 2) with
        | mk o1 j1 =>
          rw [hop] at h
          unfold aOp at hop
          split at hop
          · rename_i e4
            obtain ⟨r1, r2, r3⟩ := aSet_j 71 (i + 2) 0 j1 o1 (by omega) (by decide) hop
            cases o1 with
            | none =>
              cases h
              exact ⟨by omega, r2, fun v hv => by cases hv⟩
            | some s =>
              obtain ⟨s1, s2⟩ := r3 s rfl
              cases h
              exact ⟨by omega, r2, fun q hq => by cases hq; exact WFCond_mk (by omega) k1 (fun _ => ⟨s1, s2⟩) (fun z => by omega)⟩
          · rename_i e4
            obtain ⟨r1, r2, r3⟩ := aNum_j (by omega) hop
            cases o1 with
            | none =>
              cases h
              exact ⟨by omega, r2, fun v hv => by cases hv⟩
            | some s =>
              obtain ⟨s1, s2⟩ := r3 s rfl
              cases h
              exact ⟨by omega, r2, fun q hq => by cases hq; exact WFCond_mk (by omega) k1 (fun z => absurd z e4) (fun z => by omega)⟩
    · cases h
      exact ⟨Nat.le_refl _, hi, fun v hv => by cases hv⟩
theorem aConds_j {inp : List Nat} : ∀ (n i : Nat) (acc : List mCond) (j : Nat) (o : Option (List mCond)), i ≤ inp.length → (∀ q, q ∈ acc → WFCond q) → aConds inp n i acc = (o, j) → i ≤ j ∧ j ≤ inp.length ∧ ∀ cs, o = some cs → i + 1 ≤ j ∧ cs.length ≤ acc.length + n ∧ ∀ q, q ∈ cs → WFCond q
  | 0, i, acc, j, o, hi, ha, h => by
    cases h
    exact ⟨Nat.le_refl _, hi, fun v hv => by cases hv⟩
  | n + 1, i, acc, j, o, hi, ha, h => by
    unfold aConds at h
    cases hn : aCond inp i with
    | mk o1 j1 =>
      obtain ⟨q1, q2, q3⟩ := aCond_j hi hn
      rw [hn] at h
      cases o1 with
      | none =>
        cases h
        exact ⟨q1, q2, fun v hv => by cases hv⟩
      | some q =>
        have hq := q3 q rfl
        have hw : ∀ z, z ∈ acc ++ [q] → WFCond z := by
          intro z hz
          rcases List.mem_append.mp hz with hm | hm
          · exact ha z hm
          · rw [List.mem_singleton.mp hm]; exact hq
        have hln : (acc ++ [q]).length = acc.length + 1 := by rw [List.length_append]; rfl
        dsimp only at h
        split at h
        · rename_i h58
          have l1 := get_lt h58
          cases h
          exact ⟨by omega, by omega, fun cs hcs => by cases hcs; exact ⟨by omega, by omega, hw⟩⟩
        · split at h
          · cases h
            exact ⟨q1, q2, fun v hv => by cases hv⟩
          · split at h
            · rename_i h38
              have l1 := get_lt h38
              obtain ⟨r1, r2, r3⟩ := aConds_j n (j1 + 1) _ j o (by omega) hw h
              exact ⟨by omega, r2, fun cs hcs => ⟨by omega, by have := (r3 cs hcs).2.1; omega, (r3 cs hcs).2.2⟩⟩
            · cases h
              exact ⟨q1, q2, fun v hv => by cases hv⟩
theorem aBody_j {inp : List Nat} {i j : Nat} {o : Option (List mCond)} (hi : i ≤ inp.length) (h : aBody inp i = (o, j)) : i ≤ j ∧ j ≤ inp.length ∧ ∀ cs, o = some cs → i + 1 ≤ j ∧ cs.length ≤ 4 ∧ ∀ q, q ∈ cs → WFCond q := by
  unfold aBody at h
  split at h
  · rename_i h58
    have l1 := get_lt h58
    cases h
    exact ⟨by omega, by omega, fun cs hcs => by cases hcs; exact ⟨by omega, by decide, fun q hq => absurd hq (List.not_mem_nil)⟩⟩
  · obtain ⟨r1, r2, r3⟩ := aConds_j 4 i [] j o hi (fun q hq => absurd hq (List.not_mem_nil)) h
    exact ⟨r1, r2, fun cs hcs => ⟨(r3 cs hcs).1, by have := (r3 cs hcs).2.1; simpa using this, (r3 cs hcs).2.2⟩⟩
theorem aRest_j {inp : List Nat} {p e i j : Nat} {o : Option mRule} (hp : p < 4) (he : e < 2) (hi : i ≤ inp.length) (h : aRest inp p e i = (o, j)) : i ≤ j ∧ j ≤ inp.length ∧ ∀ r, o = some r → i + 3 ≤ j ∧ WFRule r := by
  unfold aRest at h
  cases hb : aBody inp i with
  | mk o1 j1 =>
    obtain ⟨r1, r2, r3⟩ := aBody_j hi hb
    rw [hb] at h
    cases o1 with
    | none =>
      cases h
      exact ⟨r1, r2, fun r hr => by cases hr⟩
    | some cs =>
      obtain ⟨c1, c2, c3⟩ := r3 cs rfl
      dsimp only at h
      unfold aTail at h
      cases h0 : inp[j1]? with
      | none =>
        rw [h0] at h
        cases h
        exact ⟨r1, r2, fun r hr => by cases hr⟩
      | some d =>
        have l0 := get_lt h0
        rw [h0] at h
        dsimp only at h
        split at h
        · split at h
          · rename_i h59
            have l1 := get_lt h59
            cases h
            exact ⟨by omega, by omega, fun r hr => by cases hr; exact ⟨by omega, hp, he, by show d - 48 ≤ 9; omega, c2, c3⟩⟩
          · cases h
            exact ⟨by omega, by omega, fun r hr => by cases hr⟩
        · cases h
          exact ⟨r1, r2, fun r hr => by cases hr⟩
theorem aRule_j {inp : List Nat} {i j : Nat} {o : Option mRule} (hi : i ≤ inp.length) (h : aRule inp i = (o, j)) : i ≤ j ∧ j ≤ inp.length ∧ ∀ r, o = some r → i + 5 ≤ j ∧ WFRule r := by
  unfold aRule at h
  cases h0 : inp[i]? with
  | none =>
    rw [h0] at h
    cases h
    exact ⟨Nat.le_refl _, hi, fun v hv => by cases hv⟩
  | some c =>
    have l0 := get_lt h0
    rw [h0] at h
    dsimp only at h
    split at h
    · split at h
      · rename_i h45
        have l1 := get_lt h45
        obtain ⟨r1, r2, r3⟩ := aRest_j (by omega) (by decide) (by omega) h
        exact ⟨by omega, r2, fun r hr => ⟨by have := (r3 r hr).1; omega, (r3 r hr).2⟩⟩
      · split at h
        · rename_i h43
          have l1 := get_lt h43
          obtain ⟨r1, r2, r3⟩ := aRest_j (by omega) (by decide) (by omega) h
          exact ⟨by omega, r2, fun r hr => ⟨by have := (r3 r hr).1; omega, (r3 r hr).2⟩⟩
        · cases h
          exact ⟨by omega, by omega, fun v hv => by cases hv⟩
    · cases h
      exact ⟨Nat.le_refl _, hi, fun v hv => by cases hv⟩
/-! the engine's reader -/
def INP (inp : List Nat) : Prop := inp.length ≤ 70 ∧ ∀ c, c ∈ inp → 32 ≤ c ∧ c ≤ 126
def RDE (inp : List Nat) (i : Nat) (σ : Sto) : Prop := σ 81 1 = nI inp.length ∧ RowAt (σ 82) inp ∧ σ 81 2 = nI i ∧ i ≤ inp.length
def FRE (σ σ' : Sto) : Prop := (∀ c, c ≠ 81 → σ' c = σ c) ∧ ∀ f, f ≠ 2 → σ' 81 f = σ 81 f
theorem FRE_r (σ : Sto) : FRE σ σ := ⟨fun _ _ => rfl, fun _ _ => rfl⟩
theorem FRE_t {σ σ' σ'' : Sto} (h1 : FRE σ σ') (h2 : FRE σ' σ'') : FRE σ σ'' := ⟨fun c hc => (h2.1 c hc).trans (h1.1 c hc), fun f hf => (h2.2 f hf).trans (h1.2 f hf)⟩
theorem FRE_u (σ : Sto) (v : Int32) : FRE σ (up σ 81 2 v) := ⟨fun c hc => up_nc hc, fun f hf => up_ne (Or.inr hf)⟩
theorem RDE_m {inp : List Nat} {i j : Nat} {σ σ' : Sto} (h : RDE inp i σ) (hf : FRE σ σ') (hj : σ' 81 2 = nI j) (hl : j ≤ inp.length) : RDE inp j σ' := ⟨by rw [hf.2 1 (by decide)]; exact h.1, by rw [hf.1 82 (by decide)]; exact h.2.1, hj, hl⟩
theorem RDE_at {inp : List Nat} {i : Nat} {σ : Sto} (hI : INP inp) (h : RDE inp i σ) : (inp[i]? = none ∧ i = inp.length) ∨ ∃ c, inp[i]? = some c ∧ i < inp.length ∧ σ 82 i = nI c ∧ 32 ≤ c ∧ c ≤ 126 := by
  rcases Nat.lt_or_ge i inp.length with hl | hl
  · have e := List.getElem?_eq_getElem hl
    obtain ⟨c1, c2⟩ := hI.2 _ (List.getElem_mem hl)
    exact Or.inr ⟨_, e, hl, h.2.1 i _ e, c1, c2⟩
  · exact Or.inl ⟨List.getElem?_eq_none hl, by have := h.2.2.2; omega⟩
theorem X4_accept {inp : List Nat} {i c : Nat} {σ : Sto} {P : Int32 → Sto → Prop} (hI : INP inp) (hR : RDE inp i σ) (hc : c < 65536) (h1 : inp[i]? = some c → ∀ σ' : Sto, FRE σ σ' → RDE inp (i + 1) σ' → P (nI 1) σ') (h0 : inp[i]? ≠ some c → P (nI 0) σ) : D_X4_accept (nI c) σ P := by
  unfold D_X4_accept
  obtain ⟨r1, r2, r3, r4⟩ := id hR
  have hl := hI.1
  rcases RDE_at hI hR with ⟨e, el⟩ | ⟨d, e, el, e2, d1, d2⟩
  · (try simp (disch := omega) only [String.reduceEq, isRu_1, isRu_61, isGr_3, isSt_0, isSt_6, lg_selfT, isB_0, isB_1, eq_self, true_or, or_true, false_or, or_false, or_self, fa_lit, nI_add, pk_mul, pk_sub, nI_addm, nI_leI, nI_ltI, nI_eqI, vp_inI, ix_nI, forall_eq, true_implies, false_implies, not_true_eq_false, not_false_eq_true, and_true, true_and, false_and, and_false, nle_T, nle_F, nlt_T, nlt_F, neq_T, neq_F, up_rd_s, up_rd_n, up_nc, cpy_nc, cpy_in, cpy_out, cpyOk_T, m1_lt, m1_le, m1_nle, m1_nlt, m1_eq, m1_eq2, m1_0le, Nat.add_zero, Nat.zero_add, Nat.mul_one, Nat.sub_zero, if_true, if_false, Nat.add_sub_cancel, Nat.add_sub_cancel_left, in_in, in_inN, iw_in, rq_in, pw_fold, nt_fold, ask_pw, has_eq, or_0, bt1, Bool.true_eq_false, Bool.false_eq_true, r1, r3])
    exact h0 (by rw [e]; simp)
  · by_cases q : d = c
    · subst q
      (try simp (disch := omega) only [String.reduceEq, isRu_1, isRu_61, isGr_3, isSt_0, isSt_6, lg_selfT, isB_0, isB_1, eq_self, true_or, or_true, false_or, or_false, or_self, fa_lit, nI_add, pk_mul, pk_sub, nI_addm, nI_leI, nI_ltI, nI_eqI, vp_inI, ix_nI, forall_eq, true_implies, false_implies, not_true_eq_false, not_false_eq_true, and_true, true_and, false_and, and_false, nle_T, nle_F, nlt_T, nlt_F, neq_T, neq_F, up_rd_s, up_rd_n, up_nc, cpy_nc, cpy_in, cpy_out, cpyOk_T, m1_lt, m1_le, m1_nle, m1_nlt, m1_eq, m1_eq2, m1_0le, Nat.add_zero, Nat.zero_add, Nat.mul_one, Nat.sub_zero, if_true, if_false, Nat.add_sub_cancel, Nat.add_sub_cancel_left, in_in, in_inN, iw_in, rq_in, pw_fold, nt_fold, ask_pw, has_eq, or_0, bt1, Bool.true_eq_false, Bool.false_eq_true, r1, r3, e2])
      exact h1 e _ (FRE_u _ _) (RDE_m hR (FRE_u _ _) (by (try simp (disch := omega) only [String.reduceEq, isRu_1, isRu_61, isGr_3, isSt_0, isSt_6, lg_selfT, isB_0, isB_1, eq_self, true_or, or_true, false_or, or_false, or_self, fa_lit, nI_add, pk_mul, pk_sub, nI_addm, nI_leI, nI_ltI, nI_eqI, vp_inI, ix_nI, forall_eq, true_implies, false_implies, not_true_eq_false, not_false_eq_true, and_true, true_and, false_and, and_false, nle_T, nle_F, nlt_T, nlt_F, neq_T, neq_F, up_rd_s, up_rd_n, up_nc, cpy_nc, cpy_in, cpy_out, cpyOk_T, m1_lt, m1_le, m1_nle, m1_nlt, m1_eq, m1_eq2, m1_0le, Nat.add_zero, Nat.zero_add, Nat.mul_one, Nat.sub_zero, if_true, if_false, Nat.add_sub_cancel, Nat.add_sub_cancel_left, in_in, in_inN, iw_in, rq_in, pw_fold, nt_fold, ask_pw, has_eq, or_0, bt1, Bool.true_eq_false, Bool.false_eq_true])) (by omega))
    · (try simp (disch := omega) only [String.reduceEq, isRu_1, isRu_61, isGr_3, isSt_0, isSt_6, lg_selfT, isB_0, isB_1, eq_self, true_or, or_true, false_or, or_false, or_self, fa_lit, nI_add, pk_mul, pk_sub, nI_addm, nI_leI, nI_ltI, nI_eqI, vp_inI, ix_nI, forall_eq, true_implies, false_implies, not_true_eq_false, not_false_eq_true, and_true, true_and, false_and, and_false, nle_T, nle_F, nlt_T, nlt_F, neq_T, neq_F, up_rd_s, up_rd_n, up_nc, cpy_nc, cpy_in, cpy_out, cpyOk_T, m1_lt, m1_le, m1_nle, m1_nlt, m1_eq, m1_eq2, m1_0le, Nat.add_zero, Nat.zero_add, Nat.mul_one, Nat.sub_zero, if_true, if_false, Nat.add_sub_cancel, Nat.add_sub_cancel_left, in_in, in_inN, iw_in, rq_in, pw_fold, nt_fold, ask_pw, has_eq, or_0, bt1, Bool.true_eq_false, Bool.false_eq_true, r1, r3, e2])
      exact h0 (by rw [e]; exact fun z => q (Option.some.inj z))
theorem X4_acceptFrom {inp : List Nat} {i a n : Nat} {σ : Sto} {P : Int32 → Sto → Prop} (hI : INP inp) (hR : RDE inp i σ) (ha : a < 65536) (hn : n < 65536) (h1 : ∀ c, inp[i]? = some c → a ≤ c → c < a + n → ∀ σ' : Sto, FRE σ σ' → RDE inp (i + 1) σ' → P (nI (c - a)) σ') (h0 : (∀ c, inp[i]? = some c → ¬ (a ≤ c ∧ c < a + n)) → P (-nI 1) σ) : D_X4_acceptFrom (nI a) (nI n) σ P := by
  intro K26 h26
  obtain ⟨r1, r2, r3, r4⟩ := id hR
  have hl := hI.1
  have m10 : (-nI 1 < nI 0) = True := eq_true (by decide)
  rcases RDE_at hI hR with ⟨e, el⟩ | ⟨d, e, el, e2, d1, d2⟩
  · (try simp (disch := omega) only [String.reduceEq, isRu_1, isRu_61, isGr_3, isSt_0, isSt_6, lg_selfT, isB_0, isB_1, eq_self, true_or, or_true, false_or, or_false, or_self, fa_lit, nI_add, pk_mul, pk_sub, nI_addm, nI_leI, nI_ltI, nI_eqI, vp_inI, ix_nI, forall_eq, true_implies, false_implies, not_true_eq_false, not_false_eq_true, and_true, true_and, false_and, and_false, nle_T, nle_F, nlt_T, nlt_F, neq_T, neq_F, up_rd_s, up_rd_n, up_nc, cpy_nc, cpy_in, cpy_out, cpyOk_T, m1_lt, m1_le, m1_nle, m1_nlt, m1_eq, m1_eq2, m1_0le, Nat.add_zero, Nat.zero_add, Nat.mul_one, Nat.sub_zero, if_true, if_false, Nat.add_sub_cancel, Nat.add_sub_cancel_left, in_in, in_inN, iw_in, rq_in, pw_fold, nt_fold, ask_pw, has_eq, or_0, bt1, Bool.true_eq_false, Bool.false_eq_true, r1, r3])
    apply h26
    (try simp (disch := omega) only [String.reduceEq, isRu_1, isRu_61, isGr_3, isSt_0, isSt_6, lg_selfT, isB_0, isB_1, eq_self, true_or, or_true, false_or, or_false, or_self, fa_lit, nI_add, pk_mul, pk_sub, nI_addm, nI_leI, nI_ltI, nI_eqI, vp_inI, ix_nI, forall_eq, true_implies, false_implies, not_true_eq_false, not_false_eq_true, and_true, true_and, false_and, and_false, nle_T, nle_F, nlt_T, nlt_F, neq_T, neq_F, up_rd_s, up_rd_n, up_nc, cpy_nc, cpy_in, cpy_out, cpyOk_T, m1_lt, m1_le, m1_nle, m1_nlt, m1_eq, m1_eq2, m1_0le, Nat.add_zero, Nat.zero_add, Nat.mul_one, Nat.sub_zero, if_true, if_false, Nat.add_sub_cancel, Nat.add_sub_cancel_left, in_in, in_inN, iw_in, rq_in, pw_fold, nt_fold, ask_pw, has_eq, or_0, bt1, Bool.true_eq_false, Bool.false_eq_true, m10])
    exact h0 (fun c hc => by rw [e] at hc; cases hc)
  · (try simp (disch := omega) only [String.reduceEq, isRu_1, isRu_61, isGr_3, isSt_0, isSt_6, lg_selfT, isB_0, isB_1, eq_self, true_or, or_true, false_or, or_false, or_self, fa_lit, nI_add, pk_mul, pk_sub, nI_addm, nI_leI, nI_ltI, nI_eqI, vp_inI, ix_nI, forall_eq, true_implies, false_implies, not_true_eq_false, not_false_eq_true, and_true, true_and, false_and, and_false, nle_T, nle_F, nlt_T, nlt_F, neq_T, neq_F, up_rd_s, up_rd_n, up_nc, cpy_nc, cpy_in, cpy_out, cpyOk_T, m1_lt, m1_le, m1_nle, m1_nlt, m1_eq, m1_eq2, m1_0le, Nat.add_zero, Nat.zero_add, Nat.mul_one, Nat.sub_zero, if_true, if_false, Nat.add_sub_cancel, Nat.add_sub_cancel_left, in_in, in_inN, iw_in, rq_in, pw_fold, nt_fold, ask_pw, has_eq, or_0, bt1, Bool.true_eq_false, Bool.false_eq_true, r1, r3, e2])
    by_cases q : a ≤ d
    · rw [pk_sub q]
      apply h26
      by_cases q2 : d - a < n
      · (try simp (disch := omega) only [String.reduceEq, isRu_1, isRu_61, isGr_3, isSt_0, isSt_6, lg_selfT, isB_0, isB_1, eq_self, true_or, or_true, false_or, or_false, or_self, fa_lit, nI_add, pk_mul, pk_sub, nI_addm, nI_leI, nI_ltI, nI_eqI, vp_inI, ix_nI, forall_eq, true_implies, false_implies, not_true_eq_false, not_false_eq_true, and_true, true_and, false_and, and_false, nle_T, nle_F, nlt_T, nlt_F, neq_T, neq_F, up_rd_s, up_rd_n, up_nc, cpy_nc, cpy_in, cpy_out, cpyOk_T, m1_lt, m1_le, m1_nle, m1_nlt, m1_eq, m1_eq2, m1_0le, Nat.add_zero, Nat.zero_add, Nat.mul_one, Nat.sub_zero, if_true, if_false, Nat.add_sub_cancel, Nat.add_sub_cancel_left, in_in, in_inN, iw_in, rq_in, pw_fold, nt_fold, ask_pw, has_eq, or_0, bt1, Bool.true_eq_false, Bool.false_eq_true, r3])
        exact h1 d e q (by omega) _ (FRE_u _ _) (RDE_m hR (FRE_u _ _) (by (try simp (disch := omega) only [String.reduceEq, isRu_1, isRu_61, isGr_3, isSt_0, isSt_6, lg_selfT, isB_0, isB_1, eq_self, true_or, or_true, false_or, or_false, or_self, fa_lit, nI_add, pk_mul, pk_sub, nI_addm, nI_leI, nI_ltI, nI_eqI, vp_inI, ix_nI, forall_eq, true_implies, false_implies, not_true_eq_false, not_false_eq_true, and_true, true_and, false_and, and_false, nle_T, nle_F, nlt_T, nlt_F, neq_T, neq_F, up_rd_s, up_rd_n, up_nc, cpy_nc, cpy_in, cpy_out, cpyOk_T, m1_lt, m1_le, m1_nle, m1_nlt, m1_eq, m1_eq2, m1_0le, Nat.add_zero, Nat.zero_add, Nat.mul_one, Nat.sub_zero, if_true, if_false, Nat.add_sub_cancel, Nat.add_sub_cancel_left, in_in, in_inN, iw_in, rq_in, pw_fold, nt_fold, ask_pw, has_eq, or_0, bt1, Bool.true_eq_false, Bool.false_eq_true])) (by omega))
      · (try simp (disch := omega) only [String.reduceEq, isRu_1, isRu_61, isGr_3, isSt_0, isSt_6, lg_selfT, isB_0, isB_1, eq_self, true_or, or_true, false_or, or_false, or_self, fa_lit, nI_add, pk_mul, pk_sub, nI_addm, nI_leI, nI_ltI, nI_eqI, vp_inI, ix_nI, forall_eq, true_implies, false_implies, not_true_eq_false, not_false_eq_true, and_true, true_and, false_and, and_false, nle_T, nle_F, nlt_T, nlt_F, neq_T, neq_F, up_rd_s, up_rd_n, up_nc, cpy_nc, cpy_in, cpy_out, cpyOk_T, m1_lt, m1_le, m1_nle, m1_nlt, m1_eq, m1_eq2, m1_0le, Nat.add_zero, Nat.zero_add, Nat.mul_one, Nat.sub_zero, if_true, if_false, Nat.add_sub_cancel, Nat.add_sub_cancel_left, in_in, in_inN, iw_in, rq_in, pw_fold, nt_fold, ask_pw, has_eq, or_0, bt1, Bool.true_eq_false, Bool.false_eq_true])
        exact h0 (fun c hc => by rw [e] at hc; cases hc; omega)
    · have hs : (nI d - nI a < 0) = True := eq_true (pk_sneg (by omega) (by omega))
      apply h26
      simp only [hs, true_implies, not_true_eq_false, false_implies, and_true]
      exact h0 (fun c hc => by rw [e] at hc; cases hc; omega)
theorem X4_readNumber {inp : List Nat} {i : Nat} {σ : Sto} {P : Int32 → Sto → Prop} (hI : INP inp) (hR : RDE inp i σ) (hN : ∀ j, aNum inp i = (none, j) → ∀ σ' : Sto, FRE σ σ' → RDE inp j σ' → P (-nI 1) σ') (hS : ∀ v j, aNum inp i = (some v, j) → ∀ σ' : Sto, FRE σ σ' → RDE inp j σ' → P (nI v) σ') : D_X4_readNumber σ P := by
  intro K42 h42
  have hl := hI.1
  have m10 : (-nI 1 < nI 0) = True := eq_true (by decide)
  refine X4_acceptFrom (a := 48) (n := 10) hI hR (by decide) (by decide) (fun c hc c1 c2 s f1 r1 => ?_) (fun hno => ?_)
  · obtain ⟨q1, q2, q3, q4⟩ := id r1
    rcases RDE_at hI r1 with ⟨e, el⟩ | ⟨d, e, el, e2, d1, d2⟩
    · have ee : aNum inp i = (some (c - 48), i + 1) := by
        unfold aNum
        rw [hc]
        dsimp only
        rw [if_pos ⟨c1, by omega⟩, e]
      (try simp (disch := omega) only [String.reduceEq, isRu_1, isRu_61, isGr_3, isSt_0, isSt_6, lg_selfT, isB_0, isB_1, eq_self, true_or, or_true, false_or, or_false, or_self, fa_lit, nI_add, pk_mul, pk_sub, nI_addm, nI_leI, nI_ltI, nI_eqI, vp_inI, ix_nI, forall_eq, true_implies, false_implies, not_true_eq_false, not_false_eq_true, and_true, true_and, false_and, and_false, nle_T, nle_F, nlt_T, nlt_F, neq_T, neq_F, up_rd_s, up_rd_n, up_nc, cpy_nc, cpy_in, cpy_out, cpyOk_T, m1_lt, m1_le, m1_nle, m1_nlt, m1_eq, m1_eq2, m1_0le, Nat.add_zero, Nat.zero_add, Nat.mul_one, Nat.sub_zero, if_true, if_false, Nat.add_sub_cancel, Nat.add_sub_cancel_left, in_in, in_inN, iw_in, rq_in, pw_fold, nt_fold, ask_pw, has_eq, or_0, bt1, Bool.true_eq_false, Bool.false_eq_true, q1, q3])
      apply h42
      (try simp (disch := omega) only [String.reduceEq, isRu_1, isRu_61, isGr_3, isSt_0, isSt_6, lg_selfT, isB_0, isB_1, eq_self, true_or, or_true, false_or, or_false, or_self, fa_lit, nI_add, pk_mul, pk_sub, nI_addm, nI_leI, nI_ltI, nI_eqI, vp_inI, ix_nI, forall_eq, true_implies, false_implies, not_true_eq_false, not_false_eq_true, and_true, true_and, false_and, and_false, nle_T, nle_F, nlt_T, nlt_F, neq_T, neq_F, up_rd_s, up_rd_n, up_nc, cpy_nc, cpy_in, cpy_out, cpyOk_T, m1_lt, m1_le, m1_nle, m1_nlt, m1_eq, m1_eq2, m1_0le, Nat.add_zero, Nat.zero_add, Nat.mul_one, Nat.sub_zero, if_true, if_false, Nat.add_sub_cancel, Nat.add_sub_cancel_left, in_in, in_inN, iw_in, rq_in, pw_fold, nt_fold, ask_pw, has_eq, or_0, bt1, Bool.true_eq_false, Bool.false_eq_true, m10])
      exact hS _ _ ee s f1 r1
    · have ee : aNum inp i = if 48 ≤ d ∧ d ≤ 57 then (if (c - 48) * 10 + (d - 48) < 16 then (some ((c - 48) * 10 + (d - 48)), i + 2) else (none, i + 1)) else (some (c - 48), i + 1) := by
        unfold aNum
        rw [hc]
        dsimp only
        rw [if_pos ⟨c1, by omega⟩, e]
      (try simp (disch := omega) only [String.reduceEq, isRu_1, isRu_61, isGr_3, isSt_0, isSt_6, lg_selfT, isB_0, isB_1, eq_self, true_or, or_true, false_or, or_false, or_self, fa_lit, nI_add, pk_mul, pk_sub, nI_addm, nI_leI, nI_ltI, nI_eqI, vp_inI, ix_nI, forall_eq, true_implies, false_implies, not_true_eq_false, not_false_eq_true, and_true, true_and, false_and, and_false, nle_T, nle_F, nlt_T, nlt_F, neq_T, neq_F, up_rd_s, up_rd_n, up_nc, cpy_nc, cpy_in, cpy_out, cpyOk_T, m1_lt, m1_le, m1_nle, m1_nlt, m1_eq, m1_eq2, m1_0le, Nat.add_zero, Nat.zero_add, Nat.mul_one, Nat.sub_zero, if_true, if_false, Nat.add_sub_cancel, Nat.add_sub_cancel_left, in_in, in_inN, iw_in, rq_in, pw_fold, nt_fold, ask_pw, has_eq, or_0, bt1, Bool.true_eq_false, Bool.false_eq_true, q1, q3, e2])
      by_cases k1 : 48 ≤ d
      · rw [pk_sub k1]
        apply h42
        by_cases k2 : d ≤ 57
        · rw [if_pos ⟨k1, k2⟩] at ee
          by_cases k3 : (c - 48) * 10 + (d - 48) < 16
          · rw [if_pos k3] at ee
            (try simp (disch := omega) only [String.reduceEq, isRu_1, isRu_61, isGr_3, isSt_0, isSt_6, lg_selfT, isB_0, isB_1, eq_self, true_or, or_true, false_or, or_false, or_self, fa_lit, nI_add, pk_mul, pk_sub, nI_addm, nI_leI, nI_ltI, nI_eqI, vp_inI, ix_nI, forall_eq, true_implies, false_implies, not_true_eq_false, not_false_eq_true, and_true, true_and, false_and, and_false, nle_T, nle_F, nlt_T, nlt_F, neq_T, neq_F, up_rd_s, up_rd_n, up_nc, cpy_nc, cpy_in, cpy_out, cpyOk_T, m1_lt, m1_le, m1_nle, m1_nlt, m1_eq, m1_eq2, m1_0le, Nat.add_zero, Nat.zero_add, Nat.mul_one, Nat.sub_zero, if_true, if_false, Nat.add_sub_cancel, Nat.add_sub_cancel_left, in_in, in_inN, iw_in, rq_in, pw_fold, nt_fold, ask_pw, has_eq, or_0, bt1, Bool.true_eq_false, Bool.false_eq_true, q3])
            exact hS _ _ ee _ (FRE_t f1 (FRE_u _ _)) (RDE_m r1 (FRE_u _ _) (by (try simp (disch := omega) only [String.reduceEq, isRu_1, isRu_61, isGr_3, isSt_0, isSt_6, lg_selfT, isB_0, isB_1, eq_self, true_or, or_true, false_or, or_false, or_self, fa_lit, nI_add, pk_mul, pk_sub, nI_addm, nI_leI, nI_ltI, nI_eqI, vp_inI, ix_nI, forall_eq, true_implies, false_implies, not_true_eq_false, not_false_eq_true, and_true, true_and, false_and, and_false, nle_T, nle_F, nlt_T, nlt_F, neq_T, neq_F, up_rd_s, up_rd_n, up_nc, cpy_nc, cpy_in, cpy_out, cpyOk_T, m1_lt, m1_le, m1_nle, m1_nlt, m1_eq, m1_eq2, m1_0le, Nat.add_zero, Nat.zero_add, Nat.mul_one, Nat.sub_zero, if_true, if_false, Nat.add_sub_cancel, Nat.add_sub_cancel_left, in_in, in_inN, iw_in, rq_in, pw_fold, nt_fold, ask_pw, has_eq, or_0, bt1, Bool.true_eq_false, Bool.false_eq_true])) (by omega))
          · rw [if_neg k3] at ee
            (try simp (disch := omega) only [String.reduceEq, isRu_1, isRu_61, isGr_3, isSt_0, isSt_6, lg_selfT, isB_0, isB_1, eq_self, true_or, or_true, false_or, or_false, or_self, fa_lit, nI_add, pk_mul, pk_sub, nI_addm, nI_leI, nI_ltI, nI_eqI, vp_inI, ix_nI, forall_eq, true_implies, false_implies, not_true_eq_false, not_false_eq_true, and_true, true_and, false_and, and_false, nle_T, nle_F, nlt_T, nlt_F, neq_T, neq_F, up_rd_s, up_rd_n, up_nc, cpy_nc, cpy_in, cpy_out, cpyOk_T, m1_lt, m1_le, m1_nle, m1_nlt, m1_eq, m1_eq2, m1_0le, Nat.add_zero, Nat.zero_add, Nat.mul_one, Nat.sub_zero, if_true, if_false, Nat.add_sub_cancel, Nat.add_sub_cancel_left, in_in, in_inN, iw_in, rq_in, pw_fold, nt_fold, ask_pw, has_eq, or_0, bt1, Bool.true_eq_false, Bool.false_eq_true, q3])
            exact hN _ ee s f1 r1
        · rw [if_neg (by omega)] at ee
          (try simp (disch := omega) only [String.reduceEq, isRu_1, isRu_61, isGr_3, isSt_0, isSt_6, lg_selfT, isB_0, isB_1, eq_self, true_or, or_true, false_or, or_false, or_self, fa_lit, nI_add, pk_mul, pk_sub, nI_addm, nI_leI, nI_ltI, nI_eqI, vp_inI, ix_nI, forall_eq, true_implies, false_implies, not_true_eq_false, not_false_eq_true, and_true, true_and, false_and, and_false, nle_T, nle_F, nlt_T, nlt_F, neq_T, neq_F, up_rd_s, up_rd_n, up_nc, cpy_nc, cpy_in, cpy_out, cpyOk_T, m1_lt, m1_le, m1_nle, m1_nlt, m1_eq, m1_eq2, m1_0le, Nat.add_zero, Nat.zero_add, Nat.mul_one, Nat.sub_zero, if_true, if_false, Nat.add_sub_cancel, Nat.add_sub_cancel_left, in_in, in_inN, iw_in, rq_in, pw_fold, nt_fold, ask_pw, has_eq, or_0, bt1, Bool.true_eq_false, Bool.false_eq_true])
          exact hS _ _ ee s f1 r1
      · rw [if_neg (by omega)] at ee
        have hs : (nI d - nI 48 < 0) = True := eq_true (pk_sneg (by omega) (by omega))
        apply h42
        simp only [hs, true_implies, not_true_eq_false, false_implies, and_true]
        exact hS _ _ ee s f1 r1
  · have ee : aNum inp i = (none, i) := by
      unfold aNum
      cases h0 : inp[i]? with
      | none => rfl
      | some c =>
        dsimp only
        rw [if_neg (fun z => hno c h0 ⟨z.1, by omega⟩)]
    (try simp (disch := omega) only [String.reduceEq, isRu_1, isRu_61, isGr_3, isSt_0, isSt_6, lg_selfT, isB_0, isB_1, eq_self, true_or, or_true, false_or, or_false, or_self, fa_lit, nI_add, pk_mul, pk_sub, nI_addm, nI_leI, nI_ltI, nI_eqI, vp_inI, ix_nI, forall_eq, true_implies, false_implies, not_true_eq_false, not_false_eq_true, and_true, true_and, false_and, and_false, nle_T, nle_F, nlt_T, nlt_F, neq_T, neq_F, up_rd_s, up_rd_n, up_nc, cpy_nc, cpy_in, cpy_out, cpyOk_T, m1_lt, m1_le, m1_nle, m1_nlt, m1_eq, m1_eq2, m1_0le, Nat.add_zero, Nat.zero_add, Nat.mul_one, Nat.sub_zero, if_true, if_false, Nat.add_sub_cancel, Nat.add_sub_cancel_left, in_in, in_inN, iw_in, rq_in, pw_fold, nt_fold, ask_pw, has_eq, or_0, bt1, Bool.true_eq_false, Bool.false_eq_true])
    exact hN _ ee σ (FRE_r σ) hR
theorem pw_nI {v : Nat} (hv : v < 32) : pw v = nI (2 ^ v) := by
  apply b_ext
  intro i hi
  rw [b_pw hv, b_nI, decide_eq_true hi, Bool.true_and, Nat.testBit_two_pow]
  exact decide_eq_decide.mpr ⟨Eq.symm, Eq.symm⟩
theorem orI (a b : Nat) : nI a ||| nI b = nI (a ||| b) := by
  apply b_ext
  intro i hi
  rw [b_or, b_nI, b_nI, b_nI, decide_eq_true hi, Bool.true_and, Bool.true_and, Bool.true_and, Nat.testBit_or]
theorem X4_readSet {inp : List Nat} {i : Nat} {σ : Sto} {P : Int32 → Sto → Prop} (hI : INP inp) (hR : RDE inp i σ) (hN : ∀ j, aSet inp 71 i 0 = (none, j) → ∀ σ' : Sto, FRE σ σ' → RDE inp j σ' → P (-nI 1) σ') (hS : ∀ v j, aSet inp 71 i 0 = (some v, j) → ∀ σ' : Sto, FRE σ σ' → RDE inp j σ' → P (nI v) σ') : D_X4_readSet σ P := by
  intro K4 h4
  have hl := hI.1
  have main : ∀ (n i acc w : Nat) (s : Sto), inp.length < n + i → 2 * w ≤ i → acc < 65536 → FRE σ s → RDE inp i s → (∀ j, aSet inp n i acc = (none, j) → ∀ σ' : Sto, FRE σ σ' → RDE inp j σ' → P (-nI 1) σ') → (∀ v j, aSet inp n i acc = (some v, j) → ∀ σ' : Sto, FRE σ σ' → RDE inp j σ' → P (nI v) σ') → K4 (nI acc) (nI w) s := by
    intro n
    induction n with
    | zero =>
      intro i acc w s h1 h2 h3 h4 h5 _ _
      have := h5.2.2.2
      omega
    | succ n ih =>
      intro i acc w s h1 h2 h3 f1 r1 hN hS
      have hi := r1.2.2.2
      apply h4
      (try simp (disch := omega) only [String.reduceEq, isRu_1, isRu_61, isGr_3, isSt_0, isSt_6, lg_selfT, isB_0, isB_1, eq_self, true_or, or_true, false_or, or_false, or_self, fa_lit, nI_add, pk_mul, pk_sub, nI_addm, nI_leI, nI_ltI, nI_eqI, vp_inI, ix_nI, forall_eq, true_implies, false_implies, not_true_eq_false, not_false_eq_true, and_true, true_and, false_and, and_false, nle_T, nle_F, nlt_T, nlt_F, neq_T, neq_F, up_rd_s, up_rd_n, up_nc, cpy_nc, cpy_in, cpy_out, cpyOk_T, m1_lt, m1_le, m1_nle, m1_nlt, m1_eq, m1_eq2, m1_0le, Nat.add_zero, Nat.zero_add, Nat.mul_one, Nat.sub_zero, if_true, if_false, Nat.add_sub_cancel, Nat.add_sub_cancel_left, in_in, in_inN, iw_in, rq_in, pw_fold, nt_fold, ask_pw, has_eq, or_0, bt1, Bool.true_eq_false, Bool.false_eq_true])
      refine X4_readNumber hI r1 (fun j hj t f2 r2 => ?_) (fun v j hj t f2 r2 => ?_)
      · have ee : aSet inp (n + 1) i acc = (none, j) := by
          rw [aSet_S, hj]
        (try simp (disch := omega) only [String.reduceEq, isRu_1, isRu_61, isGr_3, isSt_0, isSt_6, lg_selfT, isB_0, isB_1, eq_self, true_or, or_true, false_or, or_false, or_self, fa_lit, nI_add, pk_mul, pk_sub, nI_addm, nI_leI, nI_ltI, nI_eqI, vp_inI, ix_nI, forall_eq, true_implies, false_implies, not_true_eq_false, not_false_eq_true, and_true, true_and, false_and, and_false, nle_T, nle_F, nlt_T, nlt_F, neq_T, neq_F, up_rd_s, up_rd_n, up_nc, cpy_nc, cpy_in, cpy_out, cpyOk_T, m1_lt, m1_le, m1_nle, m1_nlt, m1_eq, m1_eq2, m1_0le, Nat.add_zero, Nat.zero_add, Nat.mul_one, Nat.sub_zero, if_true, if_false, Nat.add_sub_cancel, Nat.add_sub_cancel_left, in_in, in_inN, iw_in, rq_in, pw_fold, nt_fold, ask_pw, has_eq, or_0, bt1, Bool.true_eq_false, Bool.false_eq_true])
        exact hN _ ee t (FRE_t f1 f2) r2
      · obtain ⟨q1, q2, q3⟩ := aNum_j hi hj
        obtain ⟨v1, v2⟩ := q3 v rfl
        obtain ⟨w1, w2⟩ := or_pw h3 v1
        have ee : aSet inp (n + 1) i acc = if inp[j]? = some 44 then aSet inp n (j + 1) (acc ||| 2 ^ v) else if inp[j]? = some 125 then (some (acc ||| 2 ^ v), j + 1) else (none, j) := by
          rw [aSet_S, hj]
        (try simp (disch := omega) only [String.reduceEq, isRu_1, isRu_61, isGr_3, isSt_0, isSt_6, lg_selfT, isB_0, isB_1, eq_self, true_or, or_true, false_or, or_false, or_self, fa_lit, nI_add, pk_mul, pk_sub, nI_addm, nI_leI, nI_ltI, nI_eqI, vp_inI, ix_nI, forall_eq, true_implies, false_implies, not_true_eq_false, not_false_eq_true, and_true, true_and, false_and, and_false, nle_T, nle_F, nlt_T, nlt_F, neq_T, neq_F, up_rd_s, up_rd_n, up_nc, cpy_nc, cpy_in, cpy_out, cpyOk_T, m1_lt, m1_le, m1_nle, m1_nlt, m1_eq, m1_eq2, m1_0le, Nat.add_zero, Nat.zero_add, Nat.mul_one, Nat.sub_zero, if_true, if_false, Nat.add_sub_cancel, Nat.add_sub_cancel_left, in_in, in_inN, iw_in, rq_in, pw_fold, nt_fold, ask_pw, has_eq, or_0, bt1, Bool.true_eq_false, Bool.false_eq_true, pw_nI (show v < 32 by omega), orI])
        refine X4_accept (c := 125) hI r2 (by decide) (fun hc u f3 r3 => ?_) (fun hno => ?_)
        · rw [if_neg (by rw [hc]; simp), if_pos hc] at ee
          (try simp (disch := omega) only [String.reduceEq, isRu_1, isRu_61, isGr_3, isSt_0, isSt_6, lg_selfT, isB_0, isB_1, eq_self, true_or, or_true, false_or, or_false, or_self, fa_lit, nI_add, pk_mul, pk_sub, nI_addm, nI_leI, nI_ltI, nI_eqI, vp_inI, ix_nI, forall_eq, true_implies, false_implies, not_true_eq_false, not_false_eq_true, and_true, true_and, false_and, and_false, nle_T, nle_F, nlt_T, nlt_F, neq_T, neq_F, up_rd_s, up_rd_n, up_nc, cpy_nc, cpy_in, cpy_out, cpyOk_T, m1_lt, m1_le, m1_nle, m1_nlt, m1_eq, m1_eq2, m1_0le, Nat.add_zero, Nat.zero_add, Nat.mul_one, Nat.sub_zero, if_true, if_false, Nat.add_sub_cancel, Nat.add_sub_cancel_left, in_in, in_inN, iw_in, rq_in, pw_fold, nt_fold, ask_pw, has_eq, or_0, bt1, Bool.true_eq_false, Bool.false_eq_true])
          exact hS _ _ ee u (FRE_t (FRE_t f1 f2) f3) r3
        · (try simp (disch := omega) only [String.reduceEq, isRu_1, isRu_61, isGr_3, isSt_0, isSt_6, lg_selfT, isB_0, isB_1, eq_self, true_or, or_true, false_or, or_false, or_self, fa_lit, nI_add, pk_mul, pk_sub, nI_addm, nI_leI, nI_ltI, nI_eqI, vp_inI, ix_nI, forall_eq, true_implies, false_implies, not_true_eq_false, not_false_eq_true, and_true, true_and, false_and, and_false, nle_T, nle_F, nlt_T, nlt_F, neq_T, neq_F, up_rd_s, up_rd_n, up_nc, cpy_nc, cpy_in, cpy_out, cpyOk_T, m1_lt, m1_le, m1_nle, m1_nlt, m1_eq, m1_eq2, m1_0le, Nat.add_zero, Nat.zero_add, Nat.mul_one, Nat.sub_zero, if_true, if_false, Nat.add_sub_cancel, Nat.add_sub_cancel_left, in_in, in_inN, iw_in, rq_in, pw_fold, nt_fold, ask_pw, has_eq, or_0, bt1, Bool.true_eq_false, Bool.false_eq_true])
          refine X4_accept (c := 44) hI r2 (by decide) (fun hc u f3 r3 => ?_) (fun hno2 => ?_)
          · rw [if_pos hc] at ee
            (try simp (disch := omega) only [String.reduceEq, isRu_1, isRu_61, isGr_3, isSt_0, isSt_6, lg_selfT, isB_0, isB_1, eq_self, true_or, or_true, false_or, or_false, or_self, fa_lit, nI_add, pk_mul, pk_sub, nI_addm, nI_leI, nI_ltI, nI_eqI, vp_inI, ix_nI, forall_eq, true_implies, false_implies, not_true_eq_false, not_false_eq_true, and_true, true_and, false_and, and_false, nle_T, nle_F, nlt_T, nlt_F, neq_T, neq_F, up_rd_s, up_rd_n, up_nc, cpy_nc, cpy_in, cpy_out, cpyOk_T, m1_lt, m1_le, m1_nle, m1_nlt, m1_eq, m1_eq2, m1_0le, Nat.add_zero, Nat.zero_add, Nat.mul_one, Nat.sub_zero, if_true, if_false, Nat.add_sub_cancel, Nat.add_sub_cancel_left, in_in, in_inN, iw_in, rq_in, pw_fold, nt_fold, ask_pw, has_eq, or_0, bt1, Bool.true_eq_false, Bool.false_eq_true])
            refine ih (j + 1) (acc ||| 2 ^ v) (w + 1) u (by omega) (by omega) w2 (FRE_t (FRE_t f1 f2) f3) r3 (fun j2 hj2 => ?_) (fun v2 j2 hj2 => ?_)
            · exact hN j2 (by rw [ee]; exact hj2)
            · exact hS v2 j2 (by rw [ee]; exact hj2)
          · rw [if_neg hno2, if_neg hno] at ee
            (try simp (disch := omega) only [String.reduceEq, isRu_1, isRu_61, isGr_3, isSt_0, isSt_6, lg_selfT, isB_0, isB_1, eq_self, true_or, or_true, false_or, or_false, or_self, fa_lit, nI_add, pk_mul, pk_sub, nI_addm, nI_leI, nI_ltI, nI_eqI, vp_inI, ix_nI, forall_eq, true_implies, false_implies, not_true_eq_false, not_false_eq_true, and_true, true_and, false_and, and_false, nle_T, nle_F, nlt_T, nlt_F, neq_T, neq_F, up_rd_s, up_rd_n, up_nc, cpy_nc, cpy_in, cpy_out, cpyOk_T, m1_lt, m1_le, m1_nle, m1_nlt, m1_eq, m1_eq2, m1_0le, Nat.add_zero, Nat.zero_add, Nat.mul_one, Nat.sub_zero, if_true, if_false, Nat.add_sub_cancel, Nat.add_sub_cancel_left, in_in, in_inN, iw_in, rq_in, pw_fold, nt_fold, ask_pw, has_eq, or_0, bt1, Bool.true_eq_false, Bool.false_eq_true])
            exact hN _ ee t (FRE_t f1 f2) r2
  exact main 71 i 0 0 σ (by omega) (by omega) (by decide) (FRE_r σ) hR hN hS
theorem X4_acceptKind {inp : List Nat} {i : Nat} {σ : Sto} {P : Int32 → Sto → Prop} (hI : INP inp) (hR : RDE inp i σ) (hN : aKd inp[i]? = none → P (-nI 1) σ) (hS : ∀ k, aKd inp[i]? = some k → ∀ σ' : Sto, FRE σ σ' → RDE inp (i + 1) σ' → P (nI k) σ') : D_X4_acceptKind σ P := by
  unfold D_X4_acceptKind
  unfold aKd at hN hS
  refine X4_accept (c := 61) hI hR (by decide) (fun hc s f1 r1 => ?_) (fun n1 => ?_)
  · (try simp (disch := omega) only [String.reduceEq, isRu_1, isRu_61, isGr_3, isSt_0, isSt_6, lg_selfT, isB_0, isB_1, eq_self, true_or, or_true, false_or, or_false, or_self, fa_lit, nI_add, pk_mul, pk_sub, nI_addm, nI_leI, nI_ltI, nI_eqI, vp_inI, ix_nI, forall_eq, true_implies, false_implies, not_true_eq_false, not_false_eq_true, and_true, true_and, false_and, and_false, nle_T, nle_F, nlt_T, nlt_F, neq_T, neq_F, up_rd_s, up_rd_n, up_nc, cpy_nc, cpy_in, cpy_out, cpyOk_T, m1_lt, m1_le, m1_nle, m1_nlt, m1_eq, m1_eq2, m1_0le, Nat.add_zero, Nat.zero_add, Nat.mul_one, Nat.sub_zero, if_true, if_false, Nat.add_sub_cancel, Nat.add_sub_cancel_left, in_in, in_inN, iw_in, rq_in, pw_fold, nt_fold, ask_pw, has_eq, or_0, bt1, Bool.true_eq_false, Bool.false_eq_true])
    exact hS 0 (by rw [if_pos hc]) s f1 r1
  · (try simp (disch := omega) only [String.reduceEq, isRu_1, isRu_61, isGr_3, isSt_0, isSt_6, lg_selfT, isB_0, isB_1, eq_self, true_or, or_true, false_or, or_false, or_self, fa_lit, nI_add, pk_mul, pk_sub, nI_addm, nI_leI, nI_ltI, nI_eqI, vp_inI, ix_nI, forall_eq, true_implies, false_implies, not_true_eq_false, not_false_eq_true, and_true, true_and, false_and, and_false, nle_T, nle_F, nlt_T, nlt_F, neq_T, neq_F, up_rd_s, up_rd_n, up_nc, cpy_nc, cpy_in, cpy_out, cpyOk_T, m1_lt, m1_le, m1_nle, m1_nlt, m1_eq, m1_eq2, m1_0le, Nat.add_zero, Nat.zero_add, Nat.mul_one, Nat.sub_zero, if_true, if_false, Nat.add_sub_cancel, Nat.add_sub_cancel_left, in_in, in_inN, iw_in, rq_in, pw_fold, nt_fold, ask_pw, has_eq, or_0, bt1, Bool.true_eq_false, Bool.false_eq_true])
    refine X4_accept (c := 35) hI hR (by decide) (fun hc s f1 r1 => ?_) (fun n2 => ?_)
    · (try simp (disch := omega) only [String.reduceEq, isRu_1, isRu_61, isGr_3, isSt_0, isSt_6, lg_selfT, isB_0, isB_1, eq_self, true_or, or_true, false_or, or_false, or_self, fa_lit, nI_add, pk_mul, pk_sub, nI_addm, nI_leI, nI_ltI, nI_eqI, vp_inI, ix_nI, forall_eq, true_implies, false_implies, not_true_eq_false, not_false_eq_true, and_true, true_and, false_and, and_false, nle_T, nle_F, nlt_T, nlt_F, neq_T, neq_F, up_rd_s, up_rd_n, up_nc, cpy_nc, cpy_in, cpy_out, cpyOk_T, m1_lt, m1_le, m1_nle, m1_nlt, m1_eq, m1_eq2, m1_0le, Nat.add_zero, Nat.zero_add, Nat.mul_one, Nat.sub_zero, if_true, if_false, Nat.add_sub_cancel, Nat.add_sub_cancel_left, in_in, in_inN, iw_in, rq_in, pw_fold, nt_fold, ask_pw, has_eq, or_0, bt1, Bool.true_eq_false, Bool.false_eq_true])
      exact hS 1 (by rw [if_neg n1, if_pos hc]) s f1 r1
    · (try simp (disch := omega) only [String.reduceEq, isRu_1, isRu_61, isGr_3, isSt_0, isSt_6, lg_selfT, isB_0, isB_1, eq_self, true_or, or_true, false_or, or_false, or_self, fa_lit, nI_add, pk_mul, pk_sub, nI_addm, nI_leI, nI_ltI, nI_eqI, vp_inI, ix_nI, forall_eq, true_implies, false_implies, not_true_eq_false, not_false_eq_true, and_true, true_and, false_and, and_false, nle_T, nle_F, nlt_T, nlt_F, neq_T, neq_F, up_rd_s, up_rd_n, up_nc, cpy_nc, cpy_in, cpy_out, cpyOk_T, m1_lt, m1_le, m1_nle, m1_nlt, m1_eq, m1_eq2, m1_0le, Nat.add_zero, Nat.zero_add, Nat.mul_one, Nat.sub_zero, if_true, if_false, Nat.add_sub_cancel, Nat.add_sub_cancel_left, in_in, in_inN, iw_in, rq_in, pw_fold, nt_fold, ask_pw, has_eq, or_0, bt1, Bool.true_eq_false, Bool.false_eq_true])
      refine X4_accept (c := 60) hI hR (by decide) (fun hc s f1 r1 => ?_) (fun n3 => ?_)
      · (try simp (disch := omega) only [String.reduceEq, isRu_1, isRu_61, isGr_3, isSt_0, isSt_6, lg_selfT, isB_0, isB_1, eq_self, true_or, or_true, false_or, or_false, or_self, fa_lit, nI_add, pk_mul, pk_sub, nI_addm, nI_leI, nI_ltI, nI_eqI, vp_inI, ix_nI, forall_eq, true_implies, false_implies, not_true_eq_false, not_false_eq_true, and_true, true_and, false_and, and_false, nle_T, nle_F, nlt_T, nlt_F, neq_T, neq_F, up_rd_s, up_rd_n, up_nc, cpy_nc, cpy_in, cpy_out, cpyOk_T, m1_lt, m1_le, m1_nle, m1_nlt, m1_eq, m1_eq2, m1_0le, Nat.add_zero, Nat.zero_add, Nat.mul_one, Nat.sub_zero, if_true, if_false, Nat.add_sub_cancel, Nat.add_sub_cancel_left, in_in, in_inN, iw_in, rq_in, pw_fold, nt_fold, ask_pw, has_eq, or_0, bt1, Bool.true_eq_false, Bool.false_eq_true])
        exact hS 2 (by rw [if_neg n1, if_neg n2, if_pos hc]) s f1 r1
      · (try simp (disch := omega) only [String.reduceEq, isRu_1, isRu_61, isGr_3, isSt_0, isSt_6, lg_selfT, isB_0, isB_1, eq_self, true_or, or_true, false_or, or_false, or_self, fa_lit, nI_add, pk_mul, pk_sub, nI_addm, nI_leI, nI_ltI, nI_eqI, vp_inI, ix_nI, forall_eq, true_implies, false_implies, not_true_eq_false, not_false_eq_true, and_true, true_and, false_and, and_false, nle_T, nle_F, nlt_T, nlt_F, neq_T, neq_F, up_rd_s, up_rd_n, up_nc, cpy_nc, cpy_in, cpy_out, cpyOk_T, m1_lt, m1_le, m1_nle, m1_nlt, m1_eq, m1_eq2, m1_0le, Nat.add_zero, Nat.zero_add, Nat.mul_one, Nat.sub_zero, if_true, if_false, Nat.add_sub_cancel, Nat.add_sub_cancel_left, in_in, in_inN, iw_in, rq_in, pw_fold, nt_fold, ask_pw, has_eq, or_0, bt1, Bool.true_eq_false, Bool.false_eq_true])
        refine X4_accept (c := 62) hI hR (by decide) (fun hc s f1 r1 => ?_) (fun n4 => ?_)
        · (try simp (disch := omega) only [String.reduceEq, isRu_1, isRu_61, isGr_3, isSt_0, isSt_6, lg_selfT, isB_0, isB_1, eq_self, true_or, or_true, false_or, or_false, or_self, fa_lit, nI_add, pk_mul, pk_sub, nI_addm, nI_leI, nI_ltI, nI_eqI, vp_inI, ix_nI, forall_eq, true_implies, false_implies, not_true_eq_false, not_false_eq_true, and_true, true_and, false_and, and_false, nle_T, nle_F, nlt_T, nlt_F, neq_T, neq_F, up_rd_s, up_rd_n, up_nc, cpy_nc, cpy_in, cpy_out, cpyOk_T, m1_lt, m1_le, m1_nle, m1_nlt, m1_eq, m1_eq2, m1_0le, Nat.add_zero, Nat.zero_add, Nat.mul_one, Nat.sub_zero, if_true, if_false, Nat.add_sub_cancel, Nat.add_sub_cancel_left, in_in, in_inN, iw_in, rq_in, pw_fold, nt_fold, ask_pw, has_eq, or_0, bt1, Bool.true_eq_false, Bool.false_eq_true])
          exact hS 3 (by rw [if_neg n1, if_neg n2, if_neg n3, if_pos hc]) s f1 r1
        · (try simp (disch := omega) only [String.reduceEq, isRu_1, isRu_61, isGr_3, isSt_0, isSt_6, lg_selfT, isB_0, isB_1, eq_self, true_or, or_true, false_or, or_false, or_self, fa_lit, nI_add, pk_mul, pk_sub, nI_addm, nI_leI, nI_ltI, nI_eqI, vp_inI, ix_nI, forall_eq, true_implies, false_implies, not_true_eq_false, not_false_eq_true, and_true, true_and, false_and, and_false, nle_T, nle_F, nlt_T, nlt_F, neq_T, neq_F, up_rd_s, up_rd_n, up_nc, cpy_nc, cpy_in, cpy_out, cpyOk_T, m1_lt, m1_le, m1_nle, m1_nlt, m1_eq, m1_eq2, m1_0le, Nat.add_zero, Nat.zero_add, Nat.mul_one, Nat.sub_zero, if_true, if_false, Nat.add_sub_cancel, Nat.add_sub_cancel_left, in_in, in_inN, iw_in, rq_in, pw_fold, nt_fold, ask_pw, has_eq, or_0, bt1, Bool.true_eq_false, Bool.false_eq_true])
          refine X4_accept (c := 123) hI hR (by decide) (fun hc s f1 r1 => ?_) (fun n5 => ?_)
          · (try simp (disch := omega) only [String.reduceEq, isRu_1, isRu_61, isGr_3, isSt_0, isSt_6, lg_selfT, isB_0, isB_1, eq_self, true_or, or_true, false_or, or_false, or_self, fa_lit, nI_add, pk_mul, pk_sub, nI_addm, nI_leI, nI_ltI, nI_eqI, vp_inI, ix_nI, forall_eq, true_implies, false_implies, not_true_eq_false, not_false_eq_true, and_true, true_and, false_and, and_false, nle_T, nle_F, nlt_T, nlt_F, neq_T, neq_F, up_rd_s, up_rd_n, up_nc, cpy_nc, cpy_in, cpy_out, cpyOk_T, m1_lt, m1_le, m1_nle, m1_nlt, m1_eq, m1_eq2, m1_0le, Nat.add_zero, Nat.zero_add, Nat.mul_one, Nat.sub_zero, if_true, if_false, Nat.add_sub_cancel, Nat.add_sub_cancel_left, in_in, in_inN, iw_in, rq_in, pw_fold, nt_fold, ask_pw, has_eq, or_0, bt1, Bool.true_eq_false, Bool.false_eq_true])
            exact hS 4 (by rw [if_neg n1, if_neg n2, if_neg n3, if_neg n4, if_pos hc]) s f1 r1
          · (try simp (disch := omega) only [String.reduceEq, isRu_1, isRu_61, isGr_3, isSt_0, isSt_6, lg_selfT, isB_0, isB_1, eq_self, true_or, or_true, false_or, or_false, or_self, fa_lit, nI_add, pk_mul, pk_sub, nI_addm, nI_leI, nI_ltI, nI_eqI, vp_inI, ix_nI, forall_eq, true_implies, false_implies, not_true_eq_false, not_false_eq_true, and_true, true_and, false_and, and_false, nle_T, nle_F, nlt_T, nlt_F, neq_T, neq_F, up_rd_s, up_rd_n, up_nc, cpy_nc, cpy_in, cpy_out, cpyOk_T, m1_lt, m1_le, m1_nle, m1_nlt, m1_eq, m1_eq2, m1_0le, Nat.add_zero, Nat.zero_add, Nat.mul_one, Nat.sub_zero, if_true, if_false, Nat.add_sub_cancel, Nat.add_sub_cancel_left, in_in, in_inN, iw_in, rq_in, pw_fold, nt_fold, ask_pw, has_eq, or_0, bt1, Bool.true_eq_false, Bool.false_eq_true])
            exact hN (by rw [if_neg n1, if_neg n2, if_neg n3, if_neg n4, if_neg n5])
