/-! MATH. The least request in which a rule decides. -/
def stay (l : List mRule) (L : Int32) (a v : Nat) : Int32 := sb (fun q => bt L q && bt (bx l q a) v) l.length
def exM (l : List mRule) (r : Nat) : Nat → Int32 → Bool
  | 0, L => decide (L = nI 0)
  | k + 1, L => (ft (fun v => bt (bx l r (5 - k)) v && exM l r k (stay l L (5 - k) v)) 16).isSome
def lexv (l : List mRule) (r k : Nat) (L : Int32) : Nat := (ft (fun v => bt (bx l r (5 - k)) v && exM l r k (stay l L (5 - k) v)) 16).getD 0
def gM (l : List mRule) (r : Nat) : Nat → Int32 → Nat → Nat
  | 0, _, _ => 0
  | k + 1, L, b => if b = 5 - k then lexv l r k L else gM l r k (stay l L (5 - k) (lexv l r k L)) b
theorem exM_S (l : List mRule) (r k : Nat) (L : Int32) : exM l r (k + 1) L = (ft (fun v => bt (bx l r (5 - k)) v && exM l r k (stay l L (5 - k) v)) 16).isSome := rfl
theorem gM_S (l : List mRule) (r k : Nat) (L : Int32) (b : Nat) : gM l r (k + 1) L b = if b = 5 - k then lexv l r k L else gM l r k (stay l L (5 - k) (lexv l r k L)) b := rfl
def hiF (l : List mRule) (L : Int32) : Prop := ∀ q, l.length ≤ q → bt L q = false
theorem sb_hiF {l : List mRule} (hl : l.length ≤ 24) (p : Nat → Bool) : hiF l (sb p l.length) := fun q hq => by rw [b_sb p (by omega), decide_eq_false (by omega), Bool.false_and]
theorem sb_lo {l : List mRule} (hl : l.length ≤ 24) (p : Nat → Bool) {q : Nat} (hq : q < l.length) : bt (sb p l.length) q = p q := by rw [b_sb p (by omega), decide_eq_true hq, Bool.true_and]
theorem stay_lo {l : List mRule} (hl : l.length ≤ 24) {L : Int32} {a v q : Nat} (hq : q < l.length) : bt (stay l L a v) q = (bt L q && bt (bx l q a) v) := sb_lo hl _ hq
theorem bx_lt {l : List mRule} {q a v : Nat} (h : bt (bx l q a) v = true) : v < 16 := by
  rcases Nat.lt_or_ge v 16 with z | z
  · exact z
  · rw [bx_hi z] at h; cases h
theorem some_ex {p : Nat → Bool} {n : Nat} : (ft p n).isSome = true ↔ ∃ v, v < n ∧ p v = true := by
  constructor
  · intro h
    cases hf : ft p n with
    | none => rw [hf] at h; cases h
    | some v =>
      obtain ⟨h1, h2, -⟩ := ft_some_iff.mp hf
      exact ⟨v, h1, h2⟩
  · rintro ⟨v, h1, h2⟩
    cases hf : ft p n with
    | none =>
      rw [ft_none_iff.mp hf v h1] at h2
      cases h2
    | some v => rfl
theorem exM_iff {l : List mRule} {r : Nat} (hl : l.length ≤ 24) : ∀ (k a : Nat), a + k = 6 → ∀ L, hiF l L → (exM l r k L = true ↔ ∃ g : Nat → Nat, (∀ b, a ≤ b → b < 6 → bt (bx l r b) (g b) = true) ∧ ∀ q, q < l.length → bt L q = true → ∃ b, a ≤ b ∧ b < 6 ∧ bt (bx l q b) (g b) = false)
  | 0, a, ha, L, hL => by
    have : a = 6 := by omega
    subst this
    show decide (L = nI 0) = true ↔ _
    rw [decide_eq_true_iff]
    constructor
    · intro h
      refine ⟨fun _ => 0, fun b h1 h2 => by omega, fun q hq hb => ?_⟩
      rw [h, b_z] at hb
      cases hb
    · rintro ⟨g, -, h2⟩
      refine b_eq0.mpr fun i hi => ?_
      rcases Nat.lt_or_ge i l.length with z | z
      · cases hb : bt L i with
        | false => rfl
        | true =>
          obtain ⟨b, b1, b2, -⟩ := h2 i z hb
          omega
      · exact hL i z
  | k + 1, a, ha, L, hL => by
    have e5 : 5 - k = a := by omega
    rw [exM_S, e5, some_ex]
    constructor
    · rintro ⟨v, v1, v2⟩
      rw [Bool.and_eq_true] at v2
      obtain ⟨g, g1, g2⟩ := (exM_iff hl k (a + 1) (by omega) (stay l L a v) (sb_hiF hl _)).mp v2.2
      refine ⟨gset g a v, fun b h1 h2 => ?_, fun q hq hb => ?_⟩
      · by_cases e : b = a
        · subst e
          rw [gset_s]
          exact v2.1
        · rw [gset_n e]
          exact g1 b (by omega) h2
      · cases hv : bt (bx l q a) v with
        | false => exact ⟨a, Nat.le_refl _, by omega, by rw [gset_s]; exact hv⟩
        | true =>
          obtain ⟨b, b1, b2, b3⟩ := g2 q hq (by rw [stay_lo hl hq, hb, hv]; rfl)
          exact ⟨b, by omega, b2, by rw [gset_n (by omega)]; exact b3⟩
    · rintro ⟨g, g1, g2⟩
      have ga := g1 a (Nat.le_refl _) (by omega)
      refine ⟨g a, bx_lt ga, ?_⟩
      rw [ga, Bool.true_and]
      refine (exM_iff hl k (a + 1) (by omega) (stay l L a (g a)) (sb_hiF hl _)).mpr ⟨g, fun b h1 h2 => g1 b (by omega) h2, fun q hq hb => ?_⟩
      rw [stay_lo hl hq, Bool.and_eq_true] at hb
      obtain ⟨b, b1, b2, b3⟩ := g2 q hq hb.1
      refine ⟨b, ?_, b2, b3⟩
      rcases Nat.lt_or_ge a b with z | z
      · exact z
      · have : b = a := by omega
        subst this
        rw [hb.2] at b3
        cases b3
theorem free_ex {l : List mRule} {r : Nat} (hl : l.length ≤ 24) (p : Nat → Bool) : FreeP l (bx l r) p ↔ exM l r 6 (sb p l.length) = true := by
  rw [exM_iff hl 6 0 rfl _ (sb_hiF hl p)]
  constructor
  · rintro ⟨g, g1, g2⟩
    refine ⟨g, fun b _ hb => g1 b hb, fun q hq hb => ?_⟩
    rw [sb_lo hl p hq] at hb
    obtain ⟨b, b1, b2⟩ := g2 q hq hb
    exact ⟨b, Nat.zero_le _, b1, b2⟩
  · rintro ⟨g, g1, g2⟩
    refine ⟨g, fun b hb => g1 b (Nat.zero_le _) hb, fun q hq hp => ?_⟩
    obtain ⟨b, -, b1, b2⟩ := g2 q hq (by rw [sb_lo hl p hq]; exact hp)
    exact ⟨b, b1, b2⟩
/-- the rivals that are left, and the value, attribute by attribute -/
def Ls (l : List mRule) (r : Nat) (L0 : Int32) : Nat → Int32
  | 0 => L0
  | e + 1 => stay l (Ls l r L0 e) e (lexv l r (5 - e) (Ls l r L0 e))
def ws (l : List mRule) (r : Nat) (L0 : Int32) (e : Nat) : Nat := lexv l r (5 - e) (Ls l r L0 e)
theorem Ls_S (l : List mRule) (r : Nat) (L0 : Int32) (e : Nat) : Ls l r L0 (e + 1) = stay l (Ls l r L0 e) e (ws l r L0 e) := rfl
theorem gM_ws {l : List mRule} {r : Nat} {L0 : Int32} : ∀ (k e : Nat), e + k = 6 → ∀ b, e ≤ b → b < 6 → gM l r k (Ls l r L0 e) b = ws l r L0 b
  | 0, e, he, b, h1, h2 => by omega
  | k + 1, e, he, b, h1, h2 => by
    have e5 : 5 - k = e := by omega
    have ek : 5 - e = k := by omega
    rw [gM_S, e5]
    by_cases eb : b = e
    · subst eb
      rw [if_pos rfl]
      unfold ws
      rw [ek]
    · rw [if_neg eb]
      have := gM_ws (l := l) (r := r) (L0 := L0) k (e + 1) (by omega) b (by omega) h2
      rw [Ls_S] at this
      unfold ws at this
      rw [ek] at this
      exact this
theorem lexv_spec {l : List mRule} {r k : Nat} {L : Int32} (h : exM l r (k + 1) L = true) : lexv l r k L < 16 ∧ bt (bx l r (5 - k)) (lexv l r k L) = true ∧ exM l r k (stay l L (5 - k) (lexv l r k L)) = true ∧ ∀ v, v < lexv l r k L → (bt (bx l r (5 - k)) v && exM l r k (stay l L (5 - k) v)) = false := by
  rw [exM_S] at h
  unfold lexv
  cases hf : ft (fun v => bt (bx l r (5 - k)) v && exM l r k (stay l L (5 - k) v)) 16 with
  | none => rw [hf] at h; cases h
  | some v =>
    obtain ⟨h1, h2, h3⟩ := ft_some_iff.mp hf
    rw [Bool.and_eq_true] at h2
    exact ⟨h1, h2.1, h2.2, h3⟩
theorem Ls_ex {l : List mRule} {r : Nat} {L0 : Int32} (h : exM l r 6 L0 = true) : ∀ e, e ≤ 6 → exM l r (6 - e) (Ls l r L0 e) = true
  | 0, _ => h
  | e + 1, he => by
    have ih := Ls_ex h e (by omega)
    rw [show 6 - e = (5 - e) + 1 by omega] at ih
    obtain ⟨-, -, h3, -⟩ := lexv_spec ih
    rw [show 5 - (5 - e) = e by omega] at h3
    rw [show 6 - (e + 1) = 5 - e by omega]
    exact h3
theorem Ls_bits {l : List mRule} {r : Nat} (hl : l.length ≤ 24) (p : Nat → Bool) : ∀ e, hiF l (Ls l r (sb p l.length) e) ∧ ∀ q, q < l.length → (bt (Ls l r (sb p l.length) e) q = true ↔ p q = true ∧ ∀ b, b < e → bt (bx l q b) (ws l r (sb p l.length) b) = true)
  | 0 => ⟨sb_hiF hl p, fun q hq => by
    show bt (sb p l.length) q = true ↔ _
    rw [sb_lo hl p hq]
    exact ⟨fun h => ⟨h, fun b hb => absurd hb (Nat.not_lt_zero _)⟩, fun h => h.1⟩⟩
  | e + 1 => by
    obtain ⟨ih1, ih2⟩ := Ls_bits (r := r) hl p e
    refine ⟨sb_hiF hl _, fun q hq => ?_⟩
    rw [Ls_S, stay_lo hl hq, Bool.and_eq_true, ih2 q hq]
    constructor
    · rintro ⟨⟨h1, h2⟩, h3⟩
      refine ⟨h1, fun b hb => ?_⟩
      by_cases eb : b = e
      · subst eb; exact h3
      · exact h2 b (by omega)
    · rintro ⟨h1, h2⟩
      exact ⟨⟨h1, fun b hb => h2 b (by omega)⟩, h2 e (by omega)⟩
/-- the engine's domains when so many attributes have their values -/
def Dw (l : List mRule) (r : Nat) (w : Nat → Nat) (e b : Nat) : Int32 := if b < e then pw (w b) else bx l r b
theorem Dw_free {l : List mRule} {r e : Nat} {p : Nat → Bool} {w : Nat → Nat} {L : Int32} (hl : l.length ≤ 24) (he : e ≤ 6) (hw : ∀ b, b < e → w b < 32) (hL : hiF l L) (hb : ∀ q, q < l.length → (bt L q = true ↔ p q = true ∧ ∀ b, b < e → bt (bx l q b) (w b) = true)) : FreeP l (Dw l r w e) p ↔ exM l r (6 - e) L = true := by
  rw [exM_iff hl (6 - e) e (by omega) L hL]
  constructor
  · rintro ⟨g, g1, g2⟩
    have gw : ∀ b, b < e → g b = w b := by
      intro b hbe
      have := g1 b (by omega)
      unfold Dw at this
      rw [if_pos hbe, b_pw (hw b hbe)] at this
      exact of_decide_eq_true this
    refine ⟨g, fun b h1 h2 => ?_, fun q hq hbq => ?_⟩
    · have := g1 b h2
      unfold Dw at this
      rw [if_neg (by omega)] at this
      exact this
    · obtain ⟨k1, k2⟩ := (hb q hq).mp hbq
      obtain ⟨a, a1, a2⟩ := g2 q hq k1
      refine ⟨a, ?_, a1, a2⟩
      rcases Nat.lt_or_ge a e with z | z
      · rw [gw a z, k2 a z] at a2
        cases a2
      · exact z
  · rintro ⟨g, g1, g2⟩
    refine ⟨fun b => if b < e then w b else g b, fun b h6 => ?_, fun q hq hp => ?_⟩
    · unfold Dw
      by_cases z : b < e
      · rw [if_pos z]
        show bt (pw (w b)) (if b < e then w b else g b) = true
        rw [if_pos z, b_pw (hw b z)]
        exact decide_eq_true rfl
      · rw [if_neg z]
        show bt (bx l r b) (if b < e then w b else g b) = true
        rw [if_neg z]
        exact g1 b (by omega) h6
    · by_cases z : ∃ b, b < e ∧ bt (bx l q b) (w b) = false
      · obtain ⟨b, b1, b2⟩ := z
        refine ⟨b, by omega, ?_⟩
        show bt (bx l q b) (if b < e then w b else g b) = false
        rw [if_pos b1]
        exact b2
      · have : ∀ b, b < e → bt (bx l q b) (w b) = true := by
          intro b hbe
          cases k : bt (bx l q b) (w b) with
          | true => rfl
          | false => exact absurd ⟨b, hbe, k⟩ z
        obtain ⟨b, b1, b2, b3⟩ := g2 q hq ((hb q hq).mpr ⟨hp, this⟩)
        refine ⟨b, b2, ?_⟩
        show bt (bx l q b) (if b < e then w b else g b) = false
        rw [if_neg (by omega)]
        exact b3
theorem X7_fixFirst {l : List mRule} {r e : Nat} {R : Int32} {p : Nat → Bool} {σ : Sto} {P : Int32 → Sto → Prop} (hl : l.length ≤ 24) (hT : TBL l σ) (hRS : RS l R p) (he : e < 6) (hx : exM l r 6 (sb p l.length) = true) (hD : DOM (Dw l r (ws l r (sb p l.length)) e) 0 σ) (hWD : WFD (bx l r))
    (h : ∀ σ' : Sto, (∀ c, c ≠ 71 → σ' c = σ c) → DOM (Dw l r (ws l r (sb p l.length)) (e + 1)) 0 σ' → P (nI (ws l r (sb p l.length) e)) σ') : D_X7_fixFirst (nI e) R σ P := by
  intro K10 h10
  have hwl : ∀ b, b < 6 → ws l r (sb p l.length) b < 16 := by
    intro b hb
    have := Ls_ex hx b (by omega)
    rw [show 6 - b = (5 - b) + 1 by omega] at this
    exact (lexv_spec this).1
  have exE := Ls_ex hx e (by omega)
  rw [show 6 - e = (5 - e) + 1 by omega] at exE
  obtain ⟨v1, v2, v3, v4⟩ := lexv_spec exE
  rw [show 5 - (5 - e) = e by omega] at v2 v3 v4
  have hwe : ws l r (sb p l.length) e = lexv l r (5 - e) (Ls l r (sb p l.length) e) := rfl
  rw [← hwe] at v1 v2 v3 v4
  obtain ⟨Lb1, Lb2⟩ := Ls_bits (r := r) hl p e
  have hde : σ 71 e = bx l r e := by
    have := hD e he
    unfold Dw at this
    rw [if_neg (Nat.lt_irrefl _), Nat.zero_mul, Nat.zero_add] at this
    exact this
  (try simp (disch := omega) only [String.reduceEq, isRu_1, isRu_61, isGr_3, isSt_0, isSt_6, lg_selfT, isB_0, isB_1, eq_self, true_or, or_true, false_or, or_false, or_self, fa_lit, nI_add, pk_mul, pk_sub, nI_addm, nI_leI, nI_ltI, nI_eqI, vp_inI, ix_nI, forall_eq, true_implies, false_implies, not_true_eq_false, not_false_eq_true, and_true, true_and, false_and, and_false, nle_T, nle_F, nlt_T, nlt_F, neq_T, neq_F, up_rd_s, up_rd_n, up_nc, cpy_nc, cpy_in, cpy_out, cpyOk_T, m1_lt, m1_le, m1_nle, m1_nlt, m1_eq, m1_eq2, m1_0le, Nat.add_zero, Nat.zero_add, Nat.mul_one, Nat.sub_zero, if_true, if_false, Nat.add_sub_cancel, Nat.add_sub_cancel_left, in_in, in_inN, iw_in, rq_in, pw_fold, nt_fold, ask_pw, has_eq, or_0, bt1, Bool.true_eq_false, Bool.false_eq_true, hde])
  refine lp 16 (fun v s => K10 (bx l r e) (nI v) s) (fun v s => (∀ c, c ≠ 71 → s c = σ c) ∧ (∀ b, b < 6 → b ≠ e → s 71 b = Dw l r (ws l r (sb p l.length)) e b) ∧ v ≤ ws l r (sb p l.length) e) ?_ ?_ σ ⟨fun _ _ => rfl, fun b hb _ => ?_, Nat.zero_le _⟩
  · intro s ⟨s1, s2, s3⟩
    omega
  · intro v s hv ⟨s1, s2, s3⟩ hnext
    apply h10
    have hTs := TBL_F s1 hT
    cases hb : bt (bx l r e) v with
    | false =>
      have hz : bx l r e &&& pw v = nI 0 := by rw [ask_pw (by omega)]; exact hb
      have hne : v ≠ ws l r (sb p l.length) e := by
        rintro rfl
        rw [v2] at hb
        cases hb
      (try simp (disch := omega) only [String.reduceEq, isRu_1, isRu_61, isGr_3, isSt_0, isSt_6, lg_selfT, isB_0, isB_1, eq_self, true_or, or_true, false_or, or_false, or_self, fa_lit, nI_add, pk_mul, pk_sub, nI_addm, nI_leI, nI_ltI, nI_eqI, vp_inI, ix_nI, forall_eq, true_implies, false_implies, not_true_eq_false, not_false_eq_true, and_true, true_and, false_and, and_false, nle_T, nle_F, nlt_T, nlt_F, neq_T, neq_F, up_rd_s, up_rd_n, up_nc, cpy_nc, cpy_in, cpy_out, cpyOk_T, m1_lt, m1_le, m1_nle, m1_nlt, m1_eq, m1_eq2, m1_0le, Nat.add_zero, Nat.zero_add, Nat.mul_one, Nat.sub_zero, if_true, if_false, Nat.add_sub_cancel, Nat.add_sub_cancel_left, in_in, in_inN, iw_in, rq_in, pw_fold, nt_fold, ask_pw, has_eq, or_0, bt1, Bool.true_eq_false, Bool.false_eq_true, hz])
      refine hnext _ ⟨fun c hc => by (try simp (disch := omega) only [String.reduceEq, isRu_1, isRu_61, isGr_3, isSt_0, isSt_6, lg_selfT, isB_0, isB_1, eq_self, true_or, or_true, false_or, or_false, or_self, fa_lit, nI_add, pk_mul, pk_sub, nI_addm, nI_leI, nI_ltI, nI_eqI, vp_inI, ix_nI, forall_eq, true_implies, false_implies, not_true_eq_false, not_false_eq_true, and_true, true_and, false_and, and_false, nle_T, nle_F, nlt_T, nlt_F, neq_T, neq_F, up_rd_s, up_rd_n, up_nc, cpy_nc, cpy_in, cpy_out, cpyOk_T, m1_lt, m1_le, m1_nle, m1_nlt, m1_eq, m1_eq2, m1_0le, Nat.add_zero, Nat.zero_add, Nat.mul_one, Nat.sub_zero, if_true, if_false, Nat.add_sub_cancel, Nat.add_sub_cancel_left, in_in, in_inN, iw_in, rq_in, pw_fold, nt_fold, ask_pw, has_eq, or_0, bt1, Bool.true_eq_false, Bool.false_eq_true]); exact s1 c hc, fun b hb6 hbe => by (try simp (disch := omega) only [String.reduceEq, isRu_1, isRu_61, isGr_3, isSt_0, isSt_6, lg_selfT, isB_0, isB_1, eq_self, true_or, or_true, false_or, or_false, or_self, fa_lit, nI_add, pk_mul, pk_sub, nI_addm, nI_leI, nI_ltI, nI_eqI, vp_inI, ix_nI, forall_eq, true_implies, false_implies, not_true_eq_false, not_false_eq_true, and_true, true_and, false_and, and_false, nle_T, nle_F, nlt_T, nlt_F, neq_T, neq_F, up_rd_s, up_rd_n, up_nc, cpy_nc, cpy_in, cpy_out, cpyOk_T, m1_lt, m1_le, m1_nle, m1_nlt, m1_eq, m1_eq2, m1_0le, Nat.add_zero, Nat.zero_add, Nat.mul_one, Nat.sub_zero, if_true, if_false, Nat.add_sub_cancel, Nat.add_sub_cancel_left, in_in, in_inN, iw_in, rq_in, pw_fold, nt_fold, ask_pw, has_eq, or_0, bt1, Bool.true_eq_false, Bool.false_eq_true]); exact s2 b hb6 hbe, by omega⟩
    | true =>
      have hp1 := and_pw (show v < 32 by omega) hb
      have hnz : ¬ pw v = nI 0 := fun z => by
        have := b_pw (show v < 32 by omega) v
        rw [z, b_z, decide_eq_true rfl] at this
        cases this
      (try simp (disch := omega) only [String.reduceEq, isRu_1, isRu_61, isGr_3, isSt_0, isSt_6, lg_selfT, isB_0, isB_1, eq_self, true_or, or_true, false_or, or_false, or_self, fa_lit, nI_add, pk_mul, pk_sub, nI_addm, nI_leI, nI_ltI, nI_eqI, vp_inI, ix_nI, forall_eq, true_implies, false_implies, not_true_eq_false, not_false_eq_true, and_true, true_and, false_and, and_false, nle_T, nle_F, nlt_T, nlt_F, neq_T, neq_F, up_rd_s, up_rd_n, up_nc, cpy_nc, cpy_in, cpy_out, cpyOk_T, m1_lt, m1_le, m1_nle, m1_nlt, m1_eq, m1_eq2, m1_0le, Nat.add_zero, Nat.zero_add, Nat.mul_one, Nat.sub_zero, if_true, if_false, Nat.add_sub_cancel, Nat.add_sub_cancel_left, in_in, in_inN, iw_in, rq_in, pw_fold, nt_fold, ask_pw, has_eq, or_0, bt1, Bool.true_eq_false, Bool.false_eq_true, hp1, hnz])
      have hD2 : DOM (Dw l r (gset (ws l r (sb p l.length)) e v) (e + 1)) 0 (up s 71 e (pw v)) := by
        intro b hb6
        rw [Nat.zero_mul, Nat.zero_add]
        unfold Dw
        by_cases eb : b = e
        · subst eb
          rw [if_pos (Nat.lt_succ_self _), gset_s]
          (try simp (disch := omega) only [String.reduceEq, isRu_1, isRu_61, isGr_3, isSt_0, isSt_6, lg_selfT, isB_0, isB_1, eq_self, true_or, or_true, false_or, or_false, or_self, fa_lit, nI_add, pk_mul, pk_sub, nI_addm, nI_leI, nI_ltI, nI_eqI, vp_inI, ix_nI, forall_eq, true_implies, false_implies, not_true_eq_false, not_false_eq_true, and_true, true_and, false_and, and_false, nle_T, nle_F, nlt_T, nlt_F, neq_T, neq_F, up_rd_s, up_rd_n, up_nc, cpy_nc, cpy_in, cpy_out, cpyOk_T, m1_lt, m1_le, m1_nle, m1_nlt, m1_eq, m1_eq2, m1_0le, Nat.add_zero, Nat.zero_add, Nat.mul_one, Nat.sub_zero, if_true, if_false, Nat.add_sub_cancel, Nat.add_sub_cancel_left, in_in, in_inN, iw_in, rq_in, pw_fold, nt_fold, ask_pw, has_eq, or_0, bt1, Bool.true_eq_false, Bool.false_eq_true])
        · (try simp (disch := omega) only [String.reduceEq, isRu_1, isRu_61, isGr_3, isSt_0, isSt_6, lg_selfT, isB_0, isB_1, eq_self, true_or, or_true, false_or, or_false, or_self, fa_lit, nI_add, pk_mul, pk_sub, nI_addm, nI_leI, nI_ltI, nI_eqI, vp_inI, ix_nI, forall_eq, true_implies, false_implies, not_true_eq_false, not_false_eq_true, and_true, true_and, false_and, and_false, nle_T, nle_F, nlt_T, nlt_F, neq_T, neq_F, up_rd_s, up_rd_n, up_nc, cpy_nc, cpy_in, cpy_out, cpyOk_T, m1_lt, m1_le, m1_nle, m1_nlt, m1_eq, m1_eq2, m1_0le, Nat.add_zero, Nat.zero_add, Nat.mul_one, Nat.sub_zero, if_true, if_false, Nat.add_sub_cancel, Nat.add_sub_cancel_left, in_in, in_inN, iw_in, rq_in, pw_fold, nt_fold, ask_pw, has_eq, or_0, bt1, Bool.true_eq_false, Bool.false_eq_true])
          rw [s2 b hb6 eb]
          unfold Dw
          by_cases z : b < e
          · rw [if_pos z, if_pos (by omega), gset_n eb]
          · rw [if_neg z, if_neg (by omega)]
      have hW2 : WFD (Dw l r (gset (ws l r (sb p l.length)) e v) (e + 1)) := by
        intro b hb6
        unfold Dw
        split
        · intro z
          have hlt : gset (ws l r (sb p l.length)) e v b < 32 := by
            by_cases eb : b = e
            · rw [eb, gset_s]; omega
            · rw [gset_n eb]
              have := hwl b hb6
              omega
          have := b_pw hlt (gset (ws l r (sb p l.length)) e v b)
          rw [z, b_z, decide_eq_true rfl] at this
          cases this
        · exact hWD b hb6
      refine X7_hasFree hl 30 0 R p _ _ _ (TBL_F (fun c hc => by (try simp (disch := omega) only [String.reduceEq, isRu_1, isRu_61, isGr_3, isSt_0, isSt_6, lg_selfT, isB_0, isB_1, eq_self, true_or, or_true, false_or, or_false, or_self, fa_lit, nI_add, pk_mul, pk_sub, nI_addm, nI_leI, nI_ltI, nI_eqI, vp_inI, ix_nI, forall_eq, true_implies, false_implies, not_true_eq_false, not_false_eq_true, and_true, true_and, false_and, and_false, nle_T, nle_F, nlt_T, nlt_F, neq_T, neq_F, up_rd_s, up_rd_n, up_nc, cpy_nc, cpy_in, cpy_out, cpyOk_T, m1_lt, m1_le, m1_nle, m1_nlt, m1_eq, m1_eq2, m1_0le, Nat.add_zero, Nat.zero_add, Nat.mul_one, Nat.sub_zero, if_true, if_false, Nat.add_sub_cancel, Nat.add_sub_cancel_left, in_in, in_inN, iw_in, rq_in, pw_fold, nt_fold, ask_pw, has_eq, or_0, bt1, Bool.true_eq_false, Bool.false_eq_true])) hTs) hRS (Nat.zero_le _) (by decide) (by have := fb_ct_le p l.length; omega) hD2 hW2 (fun bb t hbb ft => ?_)
      have hst : ∀ q, q < l.length → (bt (stay l (Ls l r (sb p l.length) e) e v) q = true ↔ p q = true ∧ ∀ b, b < e + 1 → bt (bx l q b) (gset (ws l r (sb p l.length)) e v b) = true) := by
        intro q hq
        rw [stay_lo hl hq, Bool.and_eq_true, Lb2 q hq]
        constructor
        · rintro ⟨⟨h1, h2⟩, h3⟩
          refine ⟨h1, fun b hbe => ?_⟩
          by_cases eb : b = e
          · subst eb; rw [gset_s]; exact h3
          · rw [gset_n eb]; exact h2 b (by omega)
        · rintro ⟨h1, h2⟩
          refine ⟨⟨h1, fun b hbe => ?_⟩, ?_⟩
          · have := h2 b (by omega)
            rw [gset_n (by omega)] at this
            exact this
          · have := h2 e (by omega)
            rw [gset_s] at this
            exact this
      have hfe := Dw_free (r := r) (p := p) (w := gset (ws l r (sb p l.length)) e v) (L := stay l (Ls l r (sb p l.length) e) e v) hl (show e + 1 ≤ 6 by omega) (fun b hbe => by
        by_cases eb : b = e
        · rw [eb, gset_s]; omega
        · rw [gset_n eb]
          have := hwl b (by omega)
          omega) (sb_hiF hl _) hst
      rw [show 6 - (e + 1) = 5 - e by omega] at hfe
      cases bb with
      | true =>
        have hex := hfe.mp (hbb.mp rfl)
        have hvw : v = ws l r (sb p l.length) e := by
          rcases Nat.lt_or_ge v (ws l r (sb p l.length) e) with z | z
          · have := v4 v z
            rw [hb, hex] at this
            cases this
          · omega
        (try simp (disch := omega) only [String.reduceEq, isRu_1, isRu_61, isGr_3, isSt_0, isSt_6, lg_selfT, isB_0, isB_1, eq_self, true_or, or_true, false_or, or_false, or_self, fa_lit, nI_add, pk_mul, pk_sub, nI_addm, nI_leI, nI_ltI, nI_eqI, vp_inI, ix_nI, forall_eq, true_implies, false_implies, not_true_eq_false, not_false_eq_true, and_true, true_and, false_and, and_false, nle_T, nle_F, nlt_T, nlt_F, neq_T, neq_F, up_rd_s, up_rd_n, up_nc, cpy_nc, cpy_in, cpy_out, cpyOk_T, m1_lt, m1_le, m1_nle, m1_nlt, m1_eq, m1_eq2, m1_0le, Nat.add_zero, Nat.zero_add, Nat.mul_one, Nat.sub_zero, if_true, if_false, Nat.add_sub_cancel, Nat.add_sub_cancel_left, in_in, in_inN, iw_in, rq_in, pw_fold, nt_fold, ask_pw, has_eq, or_0, bt1, Bool.true_eq_false, Bool.false_eq_true])
        rw [hvw]
        refine h t (fun c hc => by rw [ft.1 c hc]; (try simp (disch := omega) only [String.reduceEq, isRu_1, isRu_61, isGr_3, isSt_0, isSt_6, lg_selfT, isB_0, isB_1, eq_self, true_or, or_true, false_or, or_false, or_self, fa_lit, nI_add, pk_mul, pk_sub, nI_addm, nI_leI, nI_ltI, nI_eqI, vp_inI, ix_nI, forall_eq, true_implies, false_implies, not_true_eq_false, not_false_eq_true, and_true, true_and, false_and, and_false, nle_T, nle_F, nlt_T, nlt_F, neq_T, neq_F, up_rd_s, up_rd_n, up_nc, cpy_nc, cpy_in, cpy_out, cpyOk_T, m1_lt, m1_le, m1_nle, m1_nlt, m1_eq, m1_eq2, m1_0le, Nat.add_zero, Nat.zero_add, Nat.mul_one, Nat.sub_zero, if_true, if_false, Nat.add_sub_cancel, Nat.add_sub_cancel_left, in_in, in_inN, iw_in, rq_in, pw_fold, nt_fold, ask_pw, has_eq, or_0, bt1, Bool.true_eq_false, Bool.false_eq_true]); exact s1 c hc) (fun b hb6 => ?_)
        rw [ft.2 _ (by omega), hD2 b hb6]
        unfold Dw
        by_cases z : b < e + 1
        · rw [if_pos z, if_pos z]
          by_cases eb : b = e
          · rw [eb, gset_s, hvw]
          · rw [gset_n eb]
        · rw [if_neg z, if_neg z]
      | false =>
        have hne : v ≠ ws l r (sb p l.length) e := by
          rintro rfl
          have := hbb.mpr (hfe.mpr v3)
          cases this
        (try simp (disch := omega) only [String.reduceEq, isRu_1, isRu_61, isGr_3, isSt_0, isSt_6, lg_selfT, isB_0, isB_1, eq_self, true_or, or_true, false_or, or_false, or_self, fa_lit, nI_add, pk_mul, pk_sub, nI_addm, nI_leI, nI_ltI, nI_eqI, vp_inI, ix_nI, forall_eq, true_implies, false_implies, not_true_eq_false, not_false_eq_true, and_true, true_and, false_and, and_false, nle_T, nle_F, nlt_T, nlt_F, neq_T, neq_F, up_rd_s, up_rd_n, up_nc, cpy_nc, cpy_in, cpy_out, cpyOk_T, m1_lt, m1_le, m1_nle, m1_nlt, m1_eq, m1_eq2, m1_0le, Nat.add_zero, Nat.zero_add, Nat.mul_one, Nat.sub_zero, if_true, if_false, Nat.add_sub_cancel, Nat.add_sub_cancel_left, in_in, in_inN, iw_in, rq_in, pw_fold, nt_fold, ask_pw, has_eq, or_0, bt1, Bool.true_eq_false, Bool.false_eq_true])
        refine hnext t ⟨fun c hc => by rw [ft.1 c hc]; (try simp (disch := omega) only [String.reduceEq, isRu_1, isRu_61, isGr_3, isSt_0, isSt_6, lg_selfT, isB_0, isB_1, eq_self, true_or, or_true, false_or, or_false, or_self, fa_lit, nI_add, pk_mul, pk_sub, nI_addm, nI_leI, nI_ltI, nI_eqI, vp_inI, ix_nI, forall_eq, true_implies, false_implies, not_true_eq_false, not_false_eq_true, and_true, true_and, false_and, and_false, nle_T, nle_F, nlt_T, nlt_F, neq_T, neq_F, up_rd_s, up_rd_n, up_nc, cpy_nc, cpy_in, cpy_out, cpyOk_T, m1_lt, m1_le, m1_nle, m1_nlt, m1_eq, m1_eq2, m1_0le, Nat.add_zero, Nat.zero_add, Nat.mul_one, Nat.sub_zero, if_true, if_false, Nat.add_sub_cancel, Nat.add_sub_cancel_left, in_in, in_inN, iw_in, rq_in, pw_fold, nt_fold, ask_pw, has_eq, or_0, bt1, Bool.true_eq_false, Bool.false_eq_true]); exact s1 c hc, fun b hb6 hbe => by rw [ft.2 _ (by omega)]; (try simp (disch := omega) only [String.reduceEq, isRu_1, isRu_61, isGr_3, isSt_0, isSt_6, lg_selfT, isB_0, isB_1, eq_self, true_or, or_true, false_or, or_false, or_self, fa_lit, nI_add, pk_mul, pk_sub, nI_addm, nI_leI, nI_ltI, nI_eqI, vp_inI, ix_nI, forall_eq, true_implies, false_implies, not_true_eq_false, not_false_eq_true, and_true, true_and, false_and, and_false, nle_T, nle_F, nlt_T, nlt_F, neq_T, neq_F, up_rd_s, up_rd_n, up_nc, cpy_nc, cpy_in, cpy_out, cpyOk_T, m1_lt, m1_le, m1_nle, m1_nlt, m1_eq, m1_eq2, m1_0le, Nat.add_zero, Nat.zero_add, Nat.mul_one, Nat.sub_zero, if_true, if_false, Nat.add_sub_cancel, Nat.add_sub_cancel_left, in_in, in_inN, iw_in, rq_in, pw_fold, nt_fold, ask_pw, has_eq, or_0, bt1, Bool.true_eq_false, Bool.false_eq_true]); exact s2 b hb6 hbe, by omega⟩
  · have := hD b hb
    rw [Nat.zero_mul, Nat.zero_add] at this
    exact this
theorem X7_witnessValue {l : List mRule} {wy : Nat → Nat} {r A : Nat} {σ : Sto} {P : Int32 → Sto → Prop} (hR : RLE l σ) (hW : RW l) (hT : TBL l σ) (hr : r < l.length) (hA : A < 6) (hw : ∀ p, p < 4 → σ 5 p = nI (wy p) ∧ wy p < 4)
    (hN : exM l r 6 (sb (btn l wy r) l.length) = false → ∀ σ' : Sto, (∀ c, c ≠ 71 → σ' c = σ c) → P (-nI 1) σ') (hS : exM l r 6 (sb (btn l wy r) l.length) = true → ∀ σ' : Sto, (∀ c, c ≠ 71 → σ' c = σ c) → P (nI (ws l r (sb (btn l wy r) l.length) A)) σ') : D_X7_witnessValue (nI (rk l r)) (nI A) σ P := by
  intro K26 h26
  have hl := hW.1
  refine X5_rivals hR hW hT hr hw (fun R hRS => ?_)
  refine X7_isFree hl hT hr hRS (fun b σ1 hb f1 hd => ?_)
  rw [free_ex hl] at hb
  cases b with
  | false =>
    have hx : exM l r 6 (sb (btn l wy r) l.length) = false := by
      cases z : exM l r 6 (sb (btn l wy r) l.length) with
      | false => rfl
      | true => have := hb.mpr z; cases this
    (try simp (disch := omega) only [String.reduceEq, isRu_1, isRu_61, isGr_3, isSt_0, isSt_6, lg_selfT, isB_0, isB_1, eq_self, true_or, or_true, false_or, or_false, or_self, fa_lit, nI_add, pk_mul, pk_sub, nI_addm, nI_leI, nI_ltI, nI_eqI, vp_inI, ix_nI, forall_eq, true_implies, false_implies, not_true_eq_false, not_false_eq_true, and_true, true_and, false_and, and_false, nle_T, nle_F, nlt_T, nlt_F, neq_T, neq_F, up_rd_s, up_rd_n, up_nc, cpy_nc, cpy_in, cpy_out, cpyOk_T, m1_lt, m1_le, m1_nle, m1_nlt, m1_eq, m1_eq2, m1_0le, Nat.add_zero, Nat.zero_add, Nat.mul_one, Nat.sub_zero, if_true, if_false, Nat.add_sub_cancel, Nat.add_sub_cancel_left, in_in, in_inN, iw_in, rq_in, pw_fold, nt_fold, ask_pw, has_eq, or_0, bt1, Bool.true_eq_false, Bool.false_eq_true])
    exact hN hx σ1 f1
  | true =>
    have hx := hb.mp rfl
    obtain ⟨hD, hWD⟩ := hd rfl
    have hwl : ∀ b, b < 6 → ws l r (sb (btn l wy r) l.length) b < 16 := by
      intro b hb
      have := Ls_ex hx b (by omega)
      rw [show 6 - b = (5 - b) + 1 by omega] at this
      exact (lexv_spec this).1
    (try simp (disch := omega) only [String.reduceEq, isRu_1, isRu_61, isGr_3, isSt_0, isSt_6, lg_selfT, isB_0, isB_1, eq_self, true_or, or_true, false_or, or_false, or_self, fa_lit, nI_add, pk_mul, pk_sub, nI_addm, nI_leI, nI_ltI, nI_eqI, vp_inI, ix_nI, forall_eq, true_implies, false_implies, not_true_eq_false, not_false_eq_true, and_true, true_and, false_and, and_false, nle_T, nle_F, nlt_T, nlt_F, neq_T, neq_F, up_rd_s, up_rd_n, up_nc, cpy_nc, cpy_in, cpy_out, cpyOk_T, m1_lt, m1_le, m1_nle, m1_nlt, m1_eq, m1_eq2, m1_0le, Nat.add_zero, Nat.zero_add, Nat.mul_one, Nat.sub_zero, if_true, if_false, Nat.add_sub_cancel, Nat.add_sub_cancel_left, in_in, in_inN, iw_in, rq_in, pw_fold, nt_fold, ask_pw, has_eq, or_0, bt1, Bool.true_eq_false, Bool.false_eq_true])
    have main : ∀ n e, e + n = A + 1 → ∀ (x : Int32) (s : Sto), (e = A + 1 → x = nI (ws l r (sb (btn l wy r) l.length) A)) → (∀ c, c ≠ 71 → s c = σ c) → DOM (Dw l r (ws l r (sb (btn l wy r) l.length)) e) 0 s → K26 R x (nI e) s := by
      intro n
      induction n with
      | zero =>
        intro e he x s hxe s1 s2
        apply h26
        have hxe := hxe (by omega)
        subst hxe
        (try simp (disch := omega) only [String.reduceEq, isRu_1, isRu_61, isGr_3, isSt_0, isSt_6, lg_selfT, isB_0, isB_1, eq_self, true_or, or_true, false_or, or_false, or_self, fa_lit, nI_add, pk_mul, pk_sub, nI_addm, nI_leI, nI_ltI, nI_eqI, vp_inI, ix_nI, forall_eq, true_implies, false_implies, not_true_eq_false, not_false_eq_true, and_true, true_and, false_and, and_false, nle_T, nle_F, nlt_T, nlt_F, neq_T, neq_F, up_rd_s, up_rd_n, up_nc, cpy_nc, cpy_in, cpy_out, cpyOk_T, m1_lt, m1_le, m1_nle, m1_nlt, m1_eq, m1_eq2, m1_0le, Nat.add_zero, Nat.zero_add, Nat.mul_one, Nat.sub_zero, if_true, if_false, Nat.add_sub_cancel, Nat.add_sub_cancel_left, in_in, in_inN, iw_in, rq_in, pw_fold, nt_fold, ask_pw, has_eq, or_0, bt1, Bool.true_eq_false, Bool.false_eq_true])
        exact hS hx s s1
      | succ n ih =>
        intro e he x s hxe s1 s2
        apply h26
        (try simp (disch := omega) only [String.reduceEq, isRu_1, isRu_61, isGr_3, isSt_0, isSt_6, lg_selfT, isB_0, isB_1, eq_self, true_or, or_true, false_or, or_false, or_self, fa_lit, nI_add, pk_mul, pk_sub, nI_addm, nI_leI, nI_ltI, nI_eqI, vp_inI, ix_nI, forall_eq, true_implies, false_implies, not_true_eq_false, not_false_eq_true, and_true, true_and, false_and, and_false, nle_T, nle_F, nlt_T, nlt_F, neq_T, neq_F, up_rd_s, up_rd_n, up_nc, cpy_nc, cpy_in, cpy_out, cpyOk_T, m1_lt, m1_le, m1_nle, m1_nlt, m1_eq, m1_eq2, m1_0le, Nat.add_zero, Nat.zero_add, Nat.mul_one, Nat.sub_zero, if_true, if_false, Nat.add_sub_cancel, Nat.add_sub_cancel_left, in_in, in_inN, iw_in, rq_in, pw_fold, nt_fold, ask_pw, has_eq, or_0, bt1, Bool.true_eq_false, Bool.false_eq_true])
        refine X7_fixFirst hl (TBL_F s1 hT) hRS (by omega) hx s2 hWD (fun t t1 t2 => ?_)
        (try simp (disch := omega) only [String.reduceEq, isRu_1, isRu_61, isGr_3, isSt_0, isSt_6, lg_selfT, isB_0, isB_1, eq_self, true_or, or_true, false_or, or_false, or_self, fa_lit, nI_add, pk_mul, pk_sub, nI_addm, nI_leI, nI_ltI, nI_eqI, vp_inI, ix_nI, forall_eq, true_implies, false_implies, not_true_eq_false, not_false_eq_true, and_true, true_and, false_and, and_false, nle_T, nle_F, nlt_T, nlt_F, neq_T, neq_F, up_rd_s, up_rd_n, up_nc, cpy_nc, cpy_in, cpy_out, cpyOk_T, m1_lt, m1_le, m1_nle, m1_nlt, m1_eq, m1_eq2, m1_0le, Nat.add_zero, Nat.zero_add, Nat.mul_one, Nat.sub_zero, if_true, if_false, Nat.add_sub_cancel, Nat.add_sub_cancel_left, in_in, in_inN, iw_in, rq_in, pw_fold, nt_fold, ask_pw, has_eq, or_0, bt1, Bool.true_eq_false, Bool.false_eq_true])
        refine ih (e + 1) (by omega) _ t (fun z => ?_) (fun c hc => (t1 c hc).trans (s1 c hc)) t2
        have : e = A := by omega
        rw [this]
    have := main (A + 1) 0 (by omega) (nI 0) σ1 (fun z => by omega) f1 (fun a ha => by rw [hD a ha]; exact (if_neg (Nat.not_lt_zero _)).symm)
    exact this
