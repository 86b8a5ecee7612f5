/-! MATH. How many bits; sizes; extent, overlap, covers. -/
theorem andI (a b : Nat) : nI a &&& nI b = nI (a &&& b) := by
  apply Int32.toBitVec_inj.1
  show BitVec.ofNat 32 a &&& BitVec.ofNat 32 b = BitVec.ofNat 32 (a &&& b)
  apply BitVec.eq_of_getLsbD_eq
  intro i hi
  simp [hi]
theorem shrI {n k : Nat} (hk : k < 32) (hn : n < 2147483648) : ((nI n).toUInt32 >>> ((nI k).toUInt32 &&& Int32.toUInt32 31)).toInt32 = nI (n >>> k) := by
  apply b_ext
  intro i hi
  rw [b_ushr k hk, b_nI, b_nI, Nat.testBit_shiftRight]
  by_cases h : k + i < 32
  · rw [decide_eq_true h, decide_eq_true hi]
  · rw [decide_eq_false h, Bool.false_and, Nat.testBit_lt_two_pow (Nat.lt_of_lt_of_le (show n < 2 ^ 31 by omega) (Nat.pow_le_pow_right (by decide) (by omega))), Bool.and_false]
/-- Integer.bitCount on numbers of 16 bits -/
def bcN (m : Nat) : Nat :=
  let v1 := m - ((m >>> 1) &&& 1431655765)
  let v2 := (v1 &&& 858993459) + ((v1 >>> 2) &&& 858993459)
  let v3 := (v2 + (v2 >>> 4)) &&& 252645135
  let v4 := v3 + (v3 >>> 8)
  let v5 := v4 + (v4 >>> 16)
  v5 &&& 63
def pcN (m : Nat) : Nat := fb_ct (fun i => m.testBit i) 16
def pc (x : Int32) : Nat := fb_ct (fun i => bt x i) 16
theorem dl {k h l mh ml : Nat} (h1 : l < 2 ^ k) (h2 : ml < 2 ^ k) : (2 ^ k * h + l) &&& (2 ^ k * mh + ml) = 2 ^ k * (h &&& mh) + (l &&& ml) := by
  apply Nat.eq_of_testBit_eq
  intro i
  rw [Nat.testBit_and, Nat.testBit_two_pow_mul_add _ h1, Nat.testBit_two_pow_mul_add _ h2, Nat.testBit_two_pow_mul_add _ (Nat.and_lt_two_pow _ h2)]
  split
  · rw [Nat.testBit_and]
  · rw [Nat.testBit_and]
def s1 (x : Nat) : Nat := x - ((x >>> 1) &&& 85)
def s2 (x : Nat) : Nat := (x &&& 51) + ((x >>> 2) &&& 51)
def s3 (x : Nat) : Nat := (x + (x >>> 4)) &&& 15
theorem s_fin : ∀ a, a < 256 → (a >>> 1) &&& 5592405 = (a >>> 1) &&& 85 ∧ (a >>> 1) &&& 85 ≤ a ∧ s1 a < 256 ∧ a &&& 3355443 = a &&& 51 ∧ (a >>> 2) &&& 3355443 = (a >>> 2) &&& 51 ∧ s2 (s1 a) ≤ 68 ∧ s2 (s1 a) % 16 ≤ 4 ∧ s3 (s2 (s1 a)) = fb_ct (fun i => a.testBit i) 8 ∧ s3 (s2 (s1 a)) ≤ 8 := by decide +kernel
theorem s3_fin : ∀ a, a < 69 → (a + (a >>> 4)) &&& 986895 = s3 a := by decide +kernel
theorem s3_lo : ∀ q, q < 69 → ∀ c, c < 5 → (q + (q >>> 4) + 16 * c) &&& 15 = s3 q ∧ q + (q >>> 4) + 16 * c < 256 := by decide +kernel
theorem last_fin : ∀ a, a < 9 → ∀ b, b < 9 → (256 * a + b + (256 * a + b) >>> 8 + (256 * a + b + (256 * a + b) >>> 8) >>> 16) &&& 63 = a + b := by decide +kernel
theorem sh_dl {k p q : Nat} (hk : k ≤ 8) (hq : q < 256) : (256 * p + q) >>> k = 256 * (p >>> k) + (2 ^ (8 - k) * (p % 2 ^ k) + (q >>> k)) := by
  have hk' : k = 0 ∨ k = 1 ∨ k = 2 ∨ k = 3 ∨ k = 4 ∨ k = 5 ∨ k = 6 ∨ k = 7 ∨ k = 8 := by omega
  simp only [Nat.shiftRight_eq_div_pow]
  rcases hk' with rfl | rfl | rfl | rfl | rfl | rfl | rfl | rfl | rfl <;> simp <;> omega
theorem bc_ok {m : Nat} (h : m < 65536) : bcN m = pcN m := by
  obtain ⟨a, b, ha, hb, rfl⟩ : ∃ a b, a < 256 ∧ b < 256 ∧ m = 256 * a + b := ⟨m / 256, m % 256, by omega, by omega, by omega⟩
  obtain ⟨a1, a2, a3, a4, a5, a6, a7, a8, a9⟩ := s_fin a ha
  obtain ⟨b1, b2, b3, b4, b5, b6, b7, b8, b9⟩ := s_fin b hb
  have e1 : (256 * a + b) - (((256 * a + b) >>> 1) &&& 1431655765) = 256 * s1 a + s1 b := by
    have t : ((256 * a + b) >>> 1) &&& 1431655765 = 256 * ((a >>> 1) &&& 85) + ((b >>> 1) &&& 85) := by
      have hb2 : b >>> 1 < 2 ^ 7 := by rw [Nat.shiftRight_eq_div_pow]; omega
      have h1 := dl (k := 8) (h := a >>> 1) (l := 2 ^ (8 - 1) * (a % 2 ^ 1) + (b >>> 1)) (mh := 5592405) (ml := 85) (by omega) (by decide)
      have h2 := dl (k := 7) (h := a % 2 ^ 1) (l := b >>> 1) (mh := 0) (ml := 85) hb2 (by decide)
      rw [sh_dl (by decide) hb]
      rw [show (2 : Nat) ^ 8 * 5592405 + 85 = 1431655765 from rfl, show (2 : Nat) ^ 8 = 256 from rfl] at h1
      rw [show (2 : Nat) ^ 7 * 0 + 85 = 85 from rfl, Nat.and_zero, Nat.mul_zero, Nat.zero_add] at h2
      rw [h1, a1, show (8 : Nat) - 1 = 7 from rfl, h2]
    rw [t]
    unfold s1
    omega
  have s2n : ∀ p q, p < 256 → q < 256 → p &&& 3355443 = p &&& 51 → (p >>> 2) &&& 3355443 = (p >>> 2) &&& 51 → ((256 * p + q) &&& 858993459) + (((256 * p + q) >>> 2) &&& 858993459) = 256 * s2 p + s2 q := by
    intro p q hp hq p4 p5
    have h0 := dl (k := 8) (h := p) (l := q) (mh := 3355443) (ml := 51) hq (by decide)
    have hq2 : q >>> 2 < 2 ^ 6 := by rw [Nat.shiftRight_eq_div_pow]; omega
    have h1 := dl (k := 8) (h := p >>> 2) (l := 2 ^ (8 - 2) * (p % 2 ^ 2) + (q >>> 2)) (mh := 3355443) (ml := 51) (by omega) (by decide)
    have h2 := dl (k := 6) (h := p % 2 ^ 2) (l := q >>> 2) (mh := 0) (ml := 51) hq2 (by decide)
    rw [show (2 : Nat) ^ 8 * 3355443 + 51 = 858993459 from rfl, show (2 : Nat) ^ 8 = 256 from rfl] at h0 h1
    rw [show (2 : Nat) ^ 6 * 0 + 51 = 51 from rfl, Nat.and_zero, Nat.mul_zero, Nat.zero_add] at h2
    rw [sh_dl (by decide) hq, h0, h1, p4, p5, show (8 : Nat) - 2 = 6 from rfl, h2]
    unfold s2
    omega
  have e2 : ((256 * s1 a + s1 b) &&& 858993459) + (((256 * s1 a + s1 b) >>> 2) &&& 858993459) = 256 * s2 (s1 a) + s2 (s1 b) := by
    obtain ⟨-, -, -, p4, p5, -⟩ := s_fin (s1 a) a3
    exact s2n _ _ a3 b3 p4 p5
  have e3 : ((256 * s2 (s1 a) + s2 (s1 b)) + ((256 * s2 (s1 a) + s2 (s1 b)) >>> 4)) &&& 252645135 = 256 * s3 (s2 (s1 a)) + s3 (s2 (s1 b)) := by
    generalize s2 (s1 a) = p at *
    generalize s2 (s1 b) = q at *
    obtain ⟨c1, c2⟩ := s3_lo q (by omega) (p % 16) (by omega)
    have h1 := dl (k := 8) (h := p + (p >>> 4)) (l := q + (q >>> 4) + 16 * (p % 16)) (mh := 986895) (ml := 15) c2 (by decide)
    rw [show (2 : Nat) ^ 8 * 986895 + 15 = 252645135 from rfl, show (2 : Nat) ^ 8 = 256 from rfl, c1, s3_fin p (by omega)] at h1
    rw [← h1, sh_dl (by decide) (by omega)]
    congr 1
    simp only [show (2 : Nat) ^ (8 - 4) = 16 from rfl, show (2 : Nat) ^ 4 = 16 from rfl]
    omega
  have ep : pcN (256 * a + b) = s3 (s2 (s1 b)) + s3 (s2 (s1 a)) := by
    unfold pcN
    have := fb_ct_split (fun i => (256 * a + b).testBit i) 8 8
    rw [show (16 : Nat) = 8 + 8 from rfl, this, a8, b8]
    congr 1
    · refine fb_ct_cong fun k hk => ?_
      rw [show 256 = 2 ^ 8 from rfl, Nat.testBit_two_pow_mul_add _ hb, if_pos hk]
    · refine fb_ct_cong fun k hk => ?_
      rw [show 256 = 2 ^ 8 from rfl, Nat.testBit_two_pow_mul_add _ hb, if_neg (by omega), Nat.add_sub_cancel_left]
  unfold bcN
  dsimp only
  rw [e1, e2, e3, ep, last_fin _ (by omega) _ (by omega), Nat.add_comm]
theorem lo16 {x : Int32} (h : ∀ i, 16 ≤ i → bt x i = false) : ∃ m, m < 65536 ∧ x = nI m := by
  refine ⟨x.toBitVec.toNat % 65536, Nat.mod_lt _ (by decide), ?_⟩
  apply b_ext
  intro i hi
  rw [b_nI, decide_eq_true hi, Bool.true_and, show 65536 = 2 ^ 16 from rfl, Nat.testBit_mod_two_pow]
  by_cases h2 : i < 16
  · rw [decide_eq_true h2, Bool.true_and]
    unfold bt
    rw [← BitVec.testBit_toNat]
  · rw [decide_eq_false h2, Bool.false_and]
    exact h i (by omega)
theorem pc_nI (m : Nat) : pc (nI m) = pcN m := fb_ct_cong fun k hk => by rw [b_nI, decide_eq_true (by omega), Bool.true_and]
theorem and_le {m k : Nat} : m &&& k ≤ m := Nat.and_le_left
theorem J6_bitCount {x : Int32} {σ : Sto} {P : Int32 → Sto → Prop} (hx : ∀ i, 16 ≤ i → bt x i = false) (h : P (nI (pc x)) σ) : D_J6_bitCount_0f7a4 x σ P := by
  obtain ⟨m, hm, rfl⟩ := lo16 hx
  rw [pc_nI, ← bc_ok hm] at h
  have l1 : (m >>> 1) &&& 1431655765 ≤ m := Nat.le_trans Nat.and_le_left (by rw [Nat.shiftRight_eq_div_pow]; omega)
  intro v0 e0 v1 e1 v2 e2 v3 e3 v4 e4
  have q0 : v0 = nI (m - ((m >>> 1) &&& 1431655765)) := by
    rw [e0, show (1 : Int32).toUInt32 = (nI 1).toUInt32 from rfl, shrI (by decide) (by omega), show (1431655765 : Int32) = nI 1431655765 from rfl, andI, pk_sub l1]
  have b0 : m - ((m >>> 1) &&& 1431655765) < 65536 := by omega
  unfold bcN at h
  dsimp only at h
  generalize m - ((m >>> 1) &&& 1431655765) = w0 at *
  have q1 : v1 = nI ((w0 &&& 858993459) + ((w0 >>> 2) &&& 858993459)) := by
    rw [e1, q0, show (2 : Int32).toUInt32 = (nI 2).toUInt32 from rfl, shrI (by decide) (by omega), show (858993459 : Int32) = nI 858993459 from rfl, andI, andI, nI_add]
  have b1 : (w0 &&& 858993459) + ((w0 >>> 2) &&& 858993459) < 131072 := by
    have a1 : w0 &&& 858993459 ≤ w0 := Nat.and_le_left
    have a2 : (w0 >>> 2) &&& 858993459 ≤ w0 >>> 2 := Nat.and_le_left
    have a3 : w0 >>> 2 ≤ w0 := by rw [Nat.shiftRight_eq_div_pow]; omega
    omega
  generalize (w0 &&& 858993459) + ((w0 >>> 2) &&& 858993459) = w1 at *
  have q2 : v2 = nI ((w1 + (w1 >>> 4)) &&& 252645135) := by
    rw [e2, q1, show (4 : Int32).toUInt32 = (nI 4).toUInt32 from rfl, shrI (by decide) (by omega), nI_add, show (252645135 : Int32) = nI 252645135 from rfl, andI]
  have b2 : (w1 + (w1 >>> 4)) &&& 252645135 < 262144 := by
    have a2 : (w1 + (w1 >>> 4)) &&& 252645135 ≤ w1 + (w1 >>> 4) := Nat.and_le_left
    have a3 : w1 >>> 4 ≤ w1 := by rw [Nat.shiftRight_eq_div_pow]; omega
    omega
  generalize (w1 + (w1 >>> 4)) &&& 252645135 = w2 at *
  have q3 : v3 = nI (w2 + (w2 >>> 8)) := by
    rw [e3, q2, show (8 : Int32).toUInt32 = (nI 8).toUInt32 from rfl, shrI (by decide) (by omega), nI_add]
  have b3 : w2 + (w2 >>> 8) < 524288 := by
    have a3 : w2 >>> 8 ≤ w2 := by rw [Nat.shiftRight_eq_div_pow]; omega
    omega
  generalize w2 + (w2 >>> 8) = w3 at *
  have q4 : v4 = nI (w3 + (w3 >>> 16)) := by
    rw [e4, q3, show (16 : Int32).toUInt32 = (nI 16).toUInt32 from rfl, shrI (by decide) (by omega), nI_add]
  rw [q4, show (63 : Int32) = nI 63 from rfl, andI]
  exact h
theorem X12_bits {x : Int32} {σ : Sto} {P : Int32 → Sto → Prop} (h : P (nI (pc x)) σ) : D_X12_bits x σ P := by
  intro K4 h4
  have hle := fb_ct_le (fun i => bt x i)
  refine loop_dn 16 (fun i => K4 (nI (fb_ct (fun i => bt x i) i)) (nI i) σ) ?_ ?_ 0 (Nat.zero_le _)
  · apply h4
    (try simp (disch := omega) only [String.reduceEq, isRu_1, isRu_61, isGr_3, isSt_0, isSt_6, lg_selfT, isB_0, isB_1, eq_self, true_or, or_true, false_or, or_false, or_self, fa_lit, nI_add, pk_mul, pk_sub, nI_addm, nI_leI, nI_ltI, nI_eqI, vp_inI, ix_nI, forall_eq, true_implies, false_implies, not_true_eq_false, not_false_eq_true, and_true, true_and, false_and, and_false, nle_T, nle_F, nlt_T, nlt_F, neq_T, neq_F, up_rd_s, up_rd_n, up_nc, cpy_nc, cpy_in, cpy_out, cpyOk_T, m1_lt, m1_le, m1_nle, m1_nlt, m1_eq, m1_eq2, m1_0le, Nat.add_zero, Nat.zero_add, Nat.mul_one, Nat.sub_zero, if_true, if_false, Nat.add_sub_cancel, Nat.add_sub_cancel_left, in_in, in_inN, iw_in, rq_in, pw_fold, nt_fold, ask_pw, has_eq, or_0, bt1, Bool.true_eq_false, Bool.false_eq_true])
    exact h
  · intro i hi hK
    apply h4
    rw [fb_ct_succ] at hK
    have e := b_has (x := x) (n := i) (by omega)
    cases q : bt x i with
    | false =>
      rw [q] at e hK
      have e : (x >>> (nI i &&& nI 31)) &&& nI 1 = nI 0 := e
      (try simp (disch := omega) only [String.reduceEq, isRu_1, isRu_61, isGr_3, isSt_0, isSt_6, lg_selfT, isB_0, isB_1, eq_self, true_or, or_true, false_or, or_false, or_self, fa_lit, nI_add, pk_mul, pk_sub, nI_addm, nI_leI, nI_ltI, nI_eqI, vp_inI, ix_nI, forall_eq, true_implies, false_implies, not_true_eq_false, not_false_eq_true, and_true, true_and, false_and, and_false, nle_T, nle_F, nlt_T, nlt_F, neq_T, neq_F, up_rd_s, up_rd_n, up_nc, cpy_nc, cpy_in, cpy_out, cpyOk_T, m1_lt, m1_le, m1_nle, m1_nlt, m1_eq, m1_eq2, m1_0le, Nat.add_zero, Nat.zero_add, Nat.mul_one, Nat.sub_zero, if_true, if_false, Nat.add_sub_cancel, Nat.add_sub_cancel_left, in_in, in_inN, iw_in, rq_in, pw_fold, nt_fold, ask_pw, has_eq, or_0, bt1, Bool.true_eq_false, Bool.false_eq_true, e])
      exact hK
    | true =>
      rw [q] at e hK
      have e : (x >>> (nI i &&& nI 31)) &&& nI 1 = nI 1 := e
      (try simp (disch := omega) only [String.reduceEq, isRu_1, isRu_61, isGr_3, isSt_0, isSt_6, lg_selfT, isB_0, isB_1, eq_self, true_or, or_true, false_or, or_false, or_self, fa_lit, nI_add, pk_mul, pk_sub, nI_addm, nI_leI, nI_ltI, nI_eqI, vp_inI, ix_nI, forall_eq, true_implies, false_implies, not_true_eq_false, not_false_eq_true, and_true, true_and, false_and, and_false, nle_T, nle_F, nlt_T, nlt_F, neq_T, neq_F, up_rd_s, up_rd_n, up_nc, cpy_nc, cpy_in, cpy_out, cpyOk_T, m1_lt, m1_le, m1_nle, m1_nlt, m1_eq, m1_eq2, m1_0le, Nat.add_zero, Nat.zero_add, Nat.mul_one, Nat.sub_zero, if_true, if_false, Nat.add_sub_cancel, Nat.add_sub_cancel_left, in_in, in_inN, iw_in, rq_in, pw_fold, nt_fold, ask_pw, has_eq, or_0, bt1, Bool.true_eq_false, Bool.false_eq_true, e])
      exact hK
/-- the number of requests to which a rule applies -/
def szN (l : List mRule) (r : Nat) : Nat → Nat
  | 0 => 1
  | a + 1 => szN l r a * pc (bx l r a)
theorem szN_S (l : List mRule) (r a : Nat) : szN l r (a + 1) = szN l r a * pc (bx l r a) := rfl
theorem X5_sizeOf {l : List mRule} {r : Nat} {σ : Sto} {P : Int32 → Sto → Prop} (hl : l.length ≤ 24) (hT : TBL l σ) (hr : r < l.length) (h : P (nI (szN l r 6)) σ) : D_X5_sizeOf (nI (rk l r)) σ P := by
  intro K4 h4
  have hrk := rk_n hr
  refine loop_dn 6 (fun i => K4 (nI (szN l r i)) (nI i) σ) ?_ ?_ 0 (Nat.zero_le _)
  · apply h4
    (try simp (disch := omega) only [String.reduceEq, isRu_1, isRu_61, isGr_3, isSt_0, isSt_6, lg_selfT, isB_0, isB_1, eq_self, true_or, or_true, false_or, or_false, or_self, fa_lit, nI_add, pk_mul, pk_sub, nI_addm, nI_leI, nI_ltI, nI_eqI, vp_inI, ix_nI, forall_eq, true_implies, false_implies, not_true_eq_false, not_false_eq_true, and_true, true_and, false_and, and_false, nle_T, nle_F, nlt_T, nlt_F, neq_T, neq_F, up_rd_s, up_rd_n, up_nc, cpy_nc, cpy_in, cpy_out, cpyOk_T, m1_lt, m1_le, m1_nle, m1_nlt, m1_eq, m1_eq2, m1_0le, Nat.add_zero, Nat.zero_add, Nat.mul_one, Nat.sub_zero, if_true, if_false, Nat.add_sub_cancel, Nat.add_sub_cancel_left, in_in, in_inN, iw_in, rq_in, pw_fold, nt_fold, ask_pw, has_eq, or_0, bt1, Bool.true_eq_false, Bool.false_eq_true])
    exact h
  · intro i hi hK
    apply h4
    have hbx : σ 68 (rk l r * 6 + i) = bx l r i := (hT.2.1 r hr).2.2.2.1 i hi
    (try simp (disch := omega) only [String.reduceEq, isRu_1, isRu_61, isGr_3, isSt_0, isSt_6, lg_selfT, isB_0, isB_1, eq_self, true_or, or_true, false_or, or_false, or_self, fa_lit, nI_add, pk_mul, pk_sub, nI_addm, nI_leI, nI_ltI, nI_eqI, vp_inI, ix_nI, forall_eq, true_implies, false_implies, not_true_eq_false, not_false_eq_true, and_true, true_and, false_and, and_false, nle_T, nle_F, nlt_T, nlt_F, neq_T, neq_F, up_rd_s, up_rd_n, up_nc, cpy_nc, cpy_in, cpy_out, cpyOk_T, m1_lt, m1_le, m1_nle, m1_nlt, m1_eq, m1_eq2, m1_0le, Nat.add_zero, Nat.zero_add, Nat.mul_one, Nat.sub_zero, if_true, if_false, Nat.add_sub_cancel, Nat.add_sub_cancel_left, in_in, in_inN, iw_in, rq_in, pw_fold, nt_fold, ask_pw, has_eq, or_0, bt1, Bool.true_eq_false, Bool.false_eq_true, D_X5_box, hbx])
    refine J6_bitCount (fun i hi => bx_hi hi) ?_
    (try simp (disch := omega) only [String.reduceEq, isRu_1, isRu_61, isGr_3, isSt_0, isSt_6, lg_selfT, isB_0, isB_1, eq_self, true_or, or_true, false_or, or_false, or_self, fa_lit, nI_add, pk_mul, pk_sub, nI_addm, nI_leI, nI_ltI, nI_eqI, vp_inI, ix_nI, forall_eq, true_implies, false_implies, not_true_eq_false, not_false_eq_true, and_true, true_and, false_and, and_false, nle_T, nle_F, nlt_T, nlt_F, neq_T, neq_F, up_rd_s, up_rd_n, up_nc, cpy_nc, cpy_in, cpy_out, cpyOk_T, m1_lt, m1_le, m1_nle, m1_nlt, m1_eq, m1_eq2, m1_0le, Nat.add_zero, Nat.zero_add, Nat.mul_one, Nat.sub_zero, if_true, if_false, Nat.add_sub_cancel, Nat.add_sub_cancel_left, in_in, in_inN, iw_in, rq_in, pw_fold, nt_fold, ask_pw, has_eq, or_0, bt1, Bool.true_eq_false, Bool.false_eq_true])
    exact hK
theorem X12_extentOf {l : List mRule} {r : Nat} {σ : Sto} {P : Int32 → Sto → Prop} (hl : l.length ≤ 24) (hT : MSE l σ) (hr : r < l.length) (h : P (nI (szN l r 6)) σ) : D_X12_extentOf (nI r) σ P := by
  intro K4 h4
  refine loop_dn 6 (fun i => K4 (nI (szN l r i)) (nI i) σ) ?_ ?_ 0 (Nat.zero_le _)
  · apply h4
    (try simp (disch := omega) only [String.reduceEq, isRu_1, isRu_61, isGr_3, isSt_0, isSt_6, lg_selfT, isB_0, isB_1, eq_self, true_or, or_true, false_or, or_false, or_self, fa_lit, nI_add, pk_mul, pk_sub, nI_addm, nI_leI, nI_ltI, nI_eqI, vp_inI, ix_nI, forall_eq, true_implies, false_implies, not_true_eq_false, not_false_eq_true, and_true, true_and, false_and, and_false, nle_T, nle_F, nlt_T, nlt_F, neq_T, neq_F, up_rd_s, up_rd_n, up_nc, cpy_nc, cpy_in, cpy_out, cpyOk_T, m1_lt, m1_le, m1_nle, m1_nlt, m1_eq, m1_eq2, m1_0le, Nat.add_zero, Nat.zero_add, Nat.mul_one, Nat.sub_zero, if_true, if_false, Nat.add_sub_cancel, Nat.add_sub_cancel_left, in_in, in_inN, iw_in, rq_in, pw_fold, nt_fold, ask_pw, has_eq, or_0, bt1, Bool.true_eq_false, Bool.false_eq_true])
    exact h
  · intro i hi hK
    apply h4
    have hbx : σ 93 (6 * r + i) = bx l r i := hT r i hr hi
    (try simp (disch := omega) only [String.reduceEq, isRu_1, isRu_61, isGr_3, isSt_0, isSt_6, lg_selfT, isB_0, isB_1, eq_self, true_or, or_true, false_or, or_false, or_self, fa_lit, nI_add, pk_mul, pk_sub, nI_addm, nI_leI, nI_ltI, nI_eqI, vp_inI, ix_nI, forall_eq, true_implies, false_implies, not_true_eq_false, not_false_eq_true, and_true, true_and, false_and, and_false, nle_T, nle_F, nlt_T, nlt_F, neq_T, neq_F, up_rd_s, up_rd_n, up_nc, cpy_nc, cpy_in, cpy_out, cpyOk_T, m1_lt, m1_le, m1_nle, m1_nlt, m1_eq, m1_eq2, m1_0le, Nat.add_zero, Nat.zero_add, Nat.mul_one, Nat.sub_zero, if_true, if_false, Nat.add_sub_cancel, Nat.add_sub_cancel_left, in_in, in_inN, iw_in, rq_in, pw_fold, nt_fold, ask_pw, has_eq, or_0, bt1, Bool.true_eq_false, Bool.false_eq_true, hbx])
    refine X12_bits ?_
    (try simp (disch := omega) only [String.reduceEq, isRu_1, isRu_61, isGr_3, isSt_0, isSt_6, lg_selfT, isB_0, isB_1, eq_self, true_or, or_true, false_or, or_false, or_self, fa_lit, nI_add, pk_mul, pk_sub, nI_addm, nI_leI, nI_ltI, nI_eqI, vp_inI, ix_nI, forall_eq, true_implies, false_implies, not_true_eq_false, not_false_eq_true, and_true, true_and, false_and, and_false, nle_T, nle_F, nlt_T, nlt_F, neq_T, neq_F, up_rd_s, up_rd_n, up_nc, cpy_nc, cpy_in, cpy_out, cpyOk_T, m1_lt, m1_le, m1_nle, m1_nlt, m1_eq, m1_eq2, m1_0le, Nat.add_zero, Nat.zero_add, Nat.mul_one, Nat.sub_zero, if_true, if_false, Nat.add_sub_cancel, Nat.add_sub_cancel_left, in_in, in_inN, iw_in, rq_in, pw_fold, nt_fold, ask_pw, has_eq, or_0, bt1, Bool.true_eq_false, Bool.false_eq_true])
    exact hK
theorem szN_le {l : List mRule} {r : Nat} : ∀ a, szN l r a ≤ 16 ^ a
  | 0 => Nat.le_refl _
  | a + 1 => by
    rw [szN_S, Nat.pow_succ]
    exact Nat.mul_le_mul (szN_le a) (fb_ct_le _ 16)
def ovl (l : List mRule) (r q : Nat) : Bool := (ft (fun a => decide (bx l r a &&& bx l q a = nI 0)) 6).isNone
def covN (l : List mRule) (r q : Nat) : Bool := (ft (fun a => decide (¬ (bx l q a &&& nt (bx l r a) = nI 0))) 6).isNone
theorem X5_meet {l : List mRule} {r q : Nat} {σ : Sto} {P : Int32 → Sto → Prop} (hl : l.length ≤ 24) (hT : TBL l σ) (hr : r < l.length) (hq : q < l.length) (h : P (if ovl l r q then nI 1 else nI 0) σ) : D_X5_meet (nI (rk l r)) (nI (rk l q)) σ P := by
  intro K2 h2
  have hrk := rk_n hr
  have hqk := rk_n hq
  refine lp_first (K := fun a => K2 (nI a) σ) (fun a => decide (bx l r a &&& bx l q a = nI 0)) (fun z => P (if z.isNone then nI 1 else nI 0) σ) 6 (fun hz => ?_) (fun a ha hp hz => ?_) (fun a ha hp hK => ?_) h
  · apply h2
    (try simp (disch := omega) only [String.reduceEq, isRu_1, isRu_61, isGr_3, isSt_0, isSt_6, lg_selfT, isB_0, isB_1, eq_self, true_or, or_true, false_or, or_false, or_self, fa_lit, nI_add, pk_mul, pk_sub, nI_addm, nI_leI, nI_ltI, nI_eqI, vp_inI, ix_nI, forall_eq, true_implies, false_implies, not_true_eq_false, not_false_eq_true, and_true, true_and, false_and, and_false, nle_T, nle_F, nlt_T, nlt_F, neq_T, neq_F, up_rd_s, up_rd_n, up_nc, cpy_nc, cpy_in, cpy_out, cpyOk_T, m1_lt, m1_le, m1_nle, m1_nlt, m1_eq, m1_eq2, m1_0le, Nat.add_zero, Nat.zero_add, Nat.mul_one, Nat.sub_zero, if_true, if_false, Nat.add_sub_cancel, Nat.add_sub_cancel_left, in_in, in_inN, iw_in, rq_in, pw_fold, nt_fold, ask_pw, has_eq, or_0, bt1, Bool.true_eq_false, Bool.false_eq_true])
    exact hz
  · apply h2
    have hb1 : σ 68 (rk l r * 6 + a) = bx l r a := (hT.2.1 r hr).2.2.2.1 a ha
    have hb2 : σ 68 (rk l q * 6 + a) = bx l q a := (hT.2.1 q hq).2.2.2.1 a ha
    have hp := of_decide_eq_true hp
    (try simp (disch := omega) only [String.reduceEq, isRu_1, isRu_61, isGr_3, isSt_0, isSt_6, lg_selfT, isB_0, isB_1, eq_self, true_or, or_true, false_or, or_false, or_self, fa_lit, nI_add, pk_mul, pk_sub, nI_addm, nI_leI, nI_ltI, nI_eqI, vp_inI, ix_nI, forall_eq, true_implies, false_implies, not_true_eq_false, not_false_eq_true, and_true, true_and, false_and, and_false, nle_T, nle_F, nlt_T, nlt_F, neq_T, neq_F, up_rd_s, up_rd_n, up_nc, cpy_nc, cpy_in, cpy_out, cpyOk_T, m1_lt, m1_le, m1_nle, m1_nlt, m1_eq, m1_eq2, m1_0le, Nat.add_zero, Nat.zero_add, Nat.mul_one, Nat.sub_zero, if_true, if_false, Nat.add_sub_cancel, Nat.add_sub_cancel_left, in_in, in_inN, iw_in, rq_in, pw_fold, nt_fold, ask_pw, has_eq, or_0, bt1, Bool.true_eq_false, Bool.false_eq_true, D_X5_box, hb1, hb2, hp])
    exact hz
  · apply h2
    have hb1 : σ 68 (rk l r * 6 + a) = bx l r a := (hT.2.1 r hr).2.2.2.1 a ha
    have hb2 : σ 68 (rk l q * 6 + a) = bx l q a := (hT.2.1 q hq).2.2.2.1 a ha
    have hp := of_decide_eq_false hp
    (try simp (disch := omega) only [String.reduceEq, isRu_1, isRu_61, isGr_3, isSt_0, isSt_6, lg_selfT, isB_0, isB_1, eq_self, true_or, or_true, false_or, or_false, or_self, fa_lit, nI_add, pk_mul, pk_sub, nI_addm, nI_leI, nI_ltI, nI_eqI, vp_inI, ix_nI, forall_eq, true_implies, false_implies, not_true_eq_false, not_false_eq_true, and_true, true_and, false_and, and_false, nle_T, nle_F, nlt_T, nlt_F, neq_T, neq_F, up_rd_s, up_rd_n, up_nc, cpy_nc, cpy_in, cpy_out, cpyOk_T, m1_lt, m1_le, m1_nle, m1_nlt, m1_eq, m1_eq2, m1_0le, Nat.add_zero, Nat.zero_add, Nat.mul_one, Nat.sub_zero, if_true, if_false, Nat.add_sub_cancel, Nat.add_sub_cancel_left, in_in, in_inN, iw_in, rq_in, pw_fold, nt_fold, ask_pw, has_eq, or_0, bt1, Bool.true_eq_false, Bool.false_eq_true, D_X5_box, hb1, hb2, hp])
    exact hK
theorem X12_overlaps {l : List mRule} {r q : Nat} {σ : Sto} {P : Int32 → Sto → Prop} (hl : l.length ≤ 24) (hT : MSE l σ) (hr : r < l.length) (hq : q < l.length) (h : P (if ovl l r q then nI 1 else nI 0) σ) : D_X12_overlaps (nI r) (nI q) σ P := by
  intro K2 h2
  refine lp_first (K := fun a => K2 (nI a) σ) (fun a => decide (bx l r a &&& bx l q a = nI 0)) (fun z => P (if z.isNone then nI 1 else nI 0) σ) 6 (fun hz => ?_) (fun a ha hp hz => ?_) (fun a ha hp hK => ?_) h
  · apply h2
    (try simp (disch := omega) only [String.reduceEq, isRu_1, isRu_61, isGr_3, isSt_0, isSt_6, lg_selfT, isB_0, isB_1, eq_self, true_or, or_true, false_or, or_false, or_self, fa_lit, nI_add, pk_mul, pk_sub, nI_addm, nI_leI, nI_ltI, nI_eqI, vp_inI, ix_nI, forall_eq, true_implies, false_implies, not_true_eq_false, not_false_eq_true, and_true, true_and, false_and, and_false, nle_T, nle_F, nlt_T, nlt_F, neq_T, neq_F, up_rd_s, up_rd_n, up_nc, cpy_nc, cpy_in, cpy_out, cpyOk_T, m1_lt, m1_le, m1_nle, m1_nlt, m1_eq, m1_eq2, m1_0le, Nat.add_zero, Nat.zero_add, Nat.mul_one, Nat.sub_zero, if_true, if_false, Nat.add_sub_cancel, Nat.add_sub_cancel_left, in_in, in_inN, iw_in, rq_in, pw_fold, nt_fold, ask_pw, has_eq, or_0, bt1, Bool.true_eq_false, Bool.false_eq_true])
    exact hz
  · apply h2
    have hp := of_decide_eq_true hp
    (try simp (disch := omega) only [String.reduceEq, isRu_1, isRu_61, isGr_3, isSt_0, isSt_6, lg_selfT, isB_0, isB_1, eq_self, true_or, or_true, false_or, or_false, or_self, fa_lit, nI_add, pk_mul, pk_sub, nI_addm, nI_leI, nI_ltI, nI_eqI, vp_inI, ix_nI, forall_eq, true_implies, false_implies, not_true_eq_false, not_false_eq_true, and_true, true_and, false_and, and_false, nle_T, nle_F, nlt_T, nlt_F, neq_T, neq_F, up_rd_s, up_rd_n, up_nc, cpy_nc, cpy_in, cpy_out, cpyOk_T, m1_lt, m1_le, m1_nle, m1_nlt, m1_eq, m1_eq2, m1_0le, Nat.add_zero, Nat.zero_add, Nat.mul_one, Nat.sub_zero, if_true, if_false, Nat.add_sub_cancel, Nat.add_sub_cancel_left, in_in, in_inN, iw_in, rq_in, pw_fold, nt_fold, ask_pw, has_eq, or_0, bt1, Bool.true_eq_false, Bool.false_eq_true, hT r a hr ha, hT q a hq ha, hp])
    exact hz
  · apply h2
    have hp := of_decide_eq_false hp
    (try simp (disch := omega) only [String.reduceEq, isRu_1, isRu_61, isGr_3, isSt_0, isSt_6, lg_selfT, isB_0, isB_1, eq_self, true_or, or_true, false_or, or_false, or_self, fa_lit, nI_add, pk_mul, pk_sub, nI_addm, nI_leI, nI_ltI, nI_eqI, vp_inI, ix_nI, forall_eq, true_implies, false_implies, not_true_eq_false, not_false_eq_true, and_true, true_and, false_and, and_false, nle_T, nle_F, nlt_T, nlt_F, neq_T, neq_F, up_rd_s, up_rd_n, up_nc, cpy_nc, cpy_in, cpy_out, cpyOk_T, m1_lt, m1_le, m1_nle, m1_nlt, m1_eq, m1_eq2, m1_0le, Nat.add_zero, Nat.zero_add, Nat.mul_one, Nat.sub_zero, if_true, if_false, Nat.add_sub_cancel, Nat.add_sub_cancel_left, in_in, in_inN, iw_in, rq_in, pw_fold, nt_fold, ask_pw, has_eq, or_0, bt1, Bool.true_eq_false, Bool.false_eq_true, hT r a hr ha, hT q a hq ha, hp])
    exact hK
theorem X5_contains {l : List mRule} {r q : Nat} {σ : Sto} {P : Int32 → Sto → Prop} (hl : l.length ≤ 24) (hT : TBL l σ) (hr : r < l.length) (hq : q < l.length) (h : P (if szN l q 6 = 0 then nI 1 else if covN l r q then nI 1 else nI 0) σ) : D_X5_contains (nI (rk l r)) (nI (rk l q)) σ P := by
  intro K12 h12
  have hrk := rk_n hr
  have hqk := rk_n hq
  have hsz := szN_le (l := l) (r := q) 6
  refine X5_sizeOf hl hT hq ?_
  by_cases h0 : szN l q 6 = 0
  · rw [if_pos h0] at h
    (try simp (disch := omega) only [String.reduceEq, isRu_1, isRu_61, isGr_3, isSt_0, isSt_6, lg_selfT, isB_0, isB_1, eq_self, true_or, or_true, false_or, or_false, or_self, fa_lit, nI_add, pk_mul, pk_sub, nI_addm, nI_leI, nI_ltI, nI_eqI, vp_inI, ix_nI, forall_eq, true_implies, false_implies, not_true_eq_false, not_false_eq_true, and_true, true_and, false_and, and_false, nle_T, nle_F, nlt_T, nlt_F, neq_T, neq_F, up_rd_s, up_rd_n, up_nc, cpy_nc, cpy_in, cpy_out, cpyOk_T, m1_lt, m1_le, m1_nle, m1_nlt, m1_eq, m1_eq2, m1_0le, Nat.add_zero, Nat.zero_add, Nat.mul_one, Nat.sub_zero, if_true, if_false, Nat.add_sub_cancel, Nat.add_sub_cancel_left, in_in, in_inN, iw_in, rq_in, pw_fold, nt_fold, ask_pw, has_eq, or_0, bt1, Bool.true_eq_false, Bool.false_eq_true, h0])
    exact h
  · rw [if_neg h0] at h
    (try simp (disch := omega) only [String.reduceEq, isRu_1, isRu_61, isGr_3, isSt_0, isSt_6, lg_selfT, isB_0, isB_1, eq_self, true_or, or_true, false_or, or_false, or_self, fa_lit, nI_add, pk_mul, pk_sub, nI_addm, nI_leI, nI_ltI, nI_eqI, vp_inI, ix_nI, forall_eq, true_implies, false_implies, not_true_eq_false, not_false_eq_true, and_true, true_and, false_and, and_false, nle_T, nle_F, nlt_T, nlt_F, neq_T, neq_F, up_rd_s, up_rd_n, up_nc, cpy_nc, cpy_in, cpy_out, cpyOk_T, m1_lt, m1_le, m1_nle, m1_nlt, m1_eq, m1_eq2, m1_0le, Nat.add_zero, Nat.zero_add, Nat.mul_one, Nat.sub_zero, if_true, if_false, Nat.add_sub_cancel, Nat.add_sub_cancel_left, in_in, in_inN, iw_in, rq_in, pw_fold, nt_fold, ask_pw, has_eq, or_0, bt1, Bool.true_eq_false, Bool.false_eq_true, h0])
    refine lp_first (K := fun a => K12 (nI a) σ) (fun a => decide (¬ (bx l q a &&& nt (bx l r a) = nI 0))) (fun z => P (if z.isNone then nI 1 else nI 0) σ) 6 (fun hz => ?_) (fun a ha hp hz => ?_) (fun a ha hp hK => ?_) h
    · apply h12
      (try simp (disch := omega) only [String.reduceEq, isRu_1, isRu_61, isGr_3, isSt_0, isSt_6, lg_selfT, isB_0, isB_1, eq_self, true_or, or_true, false_or, or_false, or_self, fa_lit, nI_add, pk_mul, pk_sub, nI_addm, nI_leI, nI_ltI, nI_eqI, vp_inI, ix_nI, forall_eq, true_implies, false_implies, not_true_eq_false, not_false_eq_true, and_true, true_and, false_and, and_false, nle_T, nle_F, nlt_T, nlt_F, neq_T, neq_F, up_rd_s, up_rd_n, up_nc, cpy_nc, cpy_in, cpy_out, cpyOk_T, m1_lt, m1_le, m1_nle, m1_nlt, m1_eq, m1_eq2, m1_0le, Nat.add_zero, Nat.zero_add, Nat.mul_one, Nat.sub_zero, if_true, if_false, Nat.add_sub_cancel, Nat.add_sub_cancel_left, in_in, in_inN, iw_in, rq_in, pw_fold, nt_fold, ask_pw, has_eq, or_0, bt1, Bool.true_eq_false, Bool.false_eq_true])
      exact hz
    · apply h12
      have hb1 : σ 68 (rk l r * 6 + a) = bx l r a := (hT.2.1 r hr).2.2.2.1 a ha
      have hb2 : σ 68 (rk l q * 6 + a) = bx l q a := (hT.2.1 q hq).2.2.2.1 a ha
      have hp := of_decide_eq_true hp
      (try simp (disch := omega) only [String.reduceEq, isRu_1, isRu_61, isGr_3, isSt_0, isSt_6, lg_selfT, isB_0, isB_1, eq_self, true_or, or_true, false_or, or_false, or_self, fa_lit, nI_add, pk_mul, pk_sub, nI_addm, nI_leI, nI_ltI, nI_eqI, vp_inI, ix_nI, forall_eq, true_implies, false_implies, not_true_eq_false, not_false_eq_true, and_true, true_and, false_and, and_false, nle_T, nle_F, nlt_T, nlt_F, neq_T, neq_F, up_rd_s, up_rd_n, up_nc, cpy_nc, cpy_in, cpy_out, cpyOk_T, m1_lt, m1_le, m1_nle, m1_nlt, m1_eq, m1_eq2, m1_0le, Nat.add_zero, Nat.zero_add, Nat.mul_one, Nat.sub_zero, if_true, if_false, Nat.add_sub_cancel, Nat.add_sub_cancel_left, in_in, in_inN, iw_in, rq_in, pw_fold, nt_fold, ask_pw, has_eq, or_0, bt1, Bool.true_eq_false, Bool.false_eq_true, D_X5_box, hb1, hb2, hp])
      exact hz
    · apply h12
      have hb1 : σ 68 (rk l r * 6 + a) = bx l r a := (hT.2.1 r hr).2.2.2.1 a ha
      have hb2 : σ 68 (rk l q * 6 + a) = bx l q a := (hT.2.1 q hq).2.2.2.1 a ha
      have hp : bx l q a &&& nt (bx l r a) = nI 0 := Classical.not_not.mp (of_decide_eq_false hp)
      (try simp (disch := omega) only [String.reduceEq, isRu_1, isRu_61, isGr_3, isSt_0, isSt_6, lg_selfT, isB_0, isB_1, eq_self, true_or, or_true, false_or, or_false, or_self, fa_lit, nI_add, pk_mul, pk_sub, nI_addm, nI_leI, nI_ltI, nI_eqI, vp_inI, ix_nI, forall_eq, true_implies, false_implies, not_true_eq_false, not_false_eq_true, and_true, true_and, false_and, and_false, nle_T, nle_F, nlt_T, nlt_F, neq_T, neq_F, up_rd_s, up_rd_n, up_nc, cpy_nc, cpy_in, cpy_out, cpyOk_T, m1_lt, m1_le, m1_nle, m1_nlt, m1_eq, m1_eq2, m1_0le, Nat.add_zero, Nat.zero_add, Nat.mul_one, Nat.sub_zero, if_true, if_false, Nat.add_sub_cancel, Nat.add_sub_cancel_left, in_in, in_inN, iw_in, rq_in, pw_fold, nt_fold, ask_pw, has_eq, or_0, bt1, Bool.true_eq_false, Bool.false_eq_true, D_X5_box, hb1, hb2, hp])
      exact hK
theorem isB_if {b : Bool} : isB (if b = true then nI 1 else nI 0) = True := by
  cases b
  · exact isB_0
  · exact isB_1
theorem isB_if2 {b : Bool} {c : Prop} [Decidable c] : isB (if c then nI 1 else if b = true then nI 1 else nI 0) = True := by
  split
  · exact isB_1
  · exact isB_if
