/-! MATH. Numbers, cells, loops. -/
theorem lg_selfT (x : Int64) : (lg_cmp x x = nI 0) = True := by
  unfold lg_cmp
  have h : ¬ x > x := Int64.lt_irrefl
  rw [if_neg h, if_pos rfl]
  exact eq_true rfl
theorem isB_0 : isB (nI 0) = True := eq_true (Or.inl rfl)
theorem isB_1 : isB (nI 1) = True := eq_true (Or.inr rfl)
theorem isRu_1 : isRu 1 = True := eq_true ⟨by decide, by decide⟩
theorem isRu_61 : isRu 61 = True := eq_true ⟨by decide, by decide⟩
theorem isGr_3 : isGr 3 = True := eq_true ⟨by decide, by decide⟩
theorem isSt_0 : isSt 0 = True := eq_true ⟨by decide, by decide⟩
theorem isSt_6 : isSt 6 = True := eq_true ⟨by decide, by decide⟩
theorem nI_addm {a b : Nat} (h : b ≤ a) : nI a + -nI b = nI (a - b) := by
  rw [← Int32.sub_eq_add_neg]
  exact pk_sub h
theorem nI_eqI {a b : Nat} (ha : a < 2147483648) (hb : b < 2147483648) : (nI a = nI b) = (a = b) := propext (nI_eq ha hb)
theorem ix_nI {n : Nat} (h : n < 2147483648) : (nI n).toNatClampNeg = n := nI_clamp h
theorem vp_inI {n N : Nat} (h : n < N) (hN : N < 2147483648) : vp_in (nI n) N = True := eq_true (vp_in_nI h hN)
theorem m1_i : (-nI 1).toInt = -1 := rfl
theorem m1_lt {a : Nat} (h : a < 2147483648) : (-nI 1 < nI a) = True := eq_true (by rw [fa_lt, m1_i, nI_toInt h]; omega)
theorem m1_le {a : Nat} (h : a < 2147483648) : (-nI 1 ≤ nI a) = True := eq_true (by rw [fa_le, m1_i, nI_toInt h]; omega)
theorem m1_nle {a : Nat} (h : a < 2147483648) : (nI a ≤ -nI 1) = False := eq_false (by rw [fa_le, m1_i, nI_toInt h]; omega)
theorem m1_nlt {a : Nat} (h : a < 2147483648) : (nI a < -nI 1) = False := eq_false (by rw [fa_lt, m1_i, nI_toInt h]; omega)
theorem m1_eq {a : Nat} (h : a < 2147483648) : (nI a = -nI 1) = False := eq_false (by rw [fa_eq, m1_i, nI_toInt h]; omega)
theorem m1_eq2 {a : Nat} (h : a < 2147483648) : (-nI 1 = nI a) = False := eq_false (by rw [fa_eq, m1_i, nI_toInt h]; omega)
theorem m1_0le : (0 ≤ -nI 1) = False := eq_false (by rw [fa_le, m1_i]; decide)
theorem nle_T {a b : Nat} (h : a ≤ b) : (a ≤ b) = True := eq_true h
theorem nle_F {a b : Nat} (h : ¬ a ≤ b) : (a ≤ b) = False := eq_false h
theorem nlt_T {a b : Nat} (h : a < b) : (a < b) = True := eq_true h
theorem nlt_F {a b : Nat} (h : ¬ a < b) : (a < b) = False := eq_false h
theorem neq_T {a b : Nat} (h : a = b) : (a = b) = True := eq_true h
theorem neq_F {a b : Nat} (h : ¬ a = b) : (a = b) = False := eq_false h
theorem up_at (σ : Sto) (c k : Nat) (v : Int32) : up σ c k v c k = v := by
  unfold up
  rw [st_s]
  exact if_pos rfl
theorem up_ne {σ : Sto} {c k : Nat} {v : Int32} {a b : Nat} (h : a ≠ c ∨ b ≠ k) : up σ c k v a b = σ a b := by
  unfold up
  by_cases ha : a = c
  · subst ha
    rw [st_s]
    unfold upd
    rcases h with h | h
    · exact absurd rfl h
    · rw [if_neg h]
  · rw [st_n ha]
theorem up_nc {σ : Sto} {c k : Nat} {v : Int32} {a : Nat} (h : a ≠ c) : up σ c k v a = σ a := st_n h
theorem up_rd_s {σ : Sto} {c k : Nat} {v : Int32} {a b : Nat} (h : a = c) (h2 : b = k) : up σ c k v a b = v := by
  subst h h2
  exact up_at _ _ _ _
theorem up_rd_n {σ : Sto} {c k : Nat} {v : Int32} {a b : Nat} (h : a ≠ c ∨ b ≠ k) : up σ c k v a b = σ a b := up_ne h
theorem cpy_nc {σ : Sto} {c0 c1 : Nat} {sp dp n : Int32} {a : Nat} (h : a ≠ c1) : cpy σ c0 c1 sp dp n a = σ a := st_n h
theorem cpy_c (σ : Sto) (c0 c1 : Nat) (sp dp n : Int32) : cpy σ c0 c1 sp dp n c1 = va_cpy (σ c0) (σ c1) (ix sp) (ix dp) (ix n) := st_s _ _ _
theorem cpy_in {σ : Sto} {c0 c1 s d n a k : Nat} (ha : a = c1) (hs : s < 2147483648) (hd : d < 2147483648) (hn : n < 2147483648) (h1 : d ≤ k) (h2 : k < d + n) : cpy σ c0 c1 (nI s) (nI d) (nI n) a k = σ c0 (s + (k - d)) := by
  subst ha
  rw [cpy_c, show ix (nI s) = s from nI_clamp hs, show ix (nI d) = d from nI_clamp hd, show ix (nI n) = n from nI_clamp hn]
  exact pk_cpy_in h1 h2
theorem cpy_out {σ : Sto} {c0 c1 s d n a k : Nat} (ha : a = c1) (hs : s < 2147483648) (hd : d < 2147483648) (hn : n < 2147483648) (h : k < d ∨ d + n ≤ k) : cpy σ c0 c1 (nI s) (nI d) (nI n) a k = σ a k := by
  subst ha
  rw [cpy_c, show ix (nI s) = s from nI_clamp hs, show ix (nI d) = d from nI_clamp hd, show ix (nI n) = n from nI_clamp hn]
  exact pk_cpy_out h
theorem cpyOk_nI {a b n n0 n1 : Nat} (ha : a < 2147483648) (hb : b < 2147483648) (hn : n < 2147483648) (h0 : a + n ≤ n0) (h1 : b + n ≤ n1) : cpyOk (nI a) (nI b) (nI n) n0 n1 := ⟨nI_pos ha, nI_pos hb, nI_pos hn, by rw [show ix (nI a) = a from nI_clamp ha, show ix (nI n) = n from nI_clamp hn]; exact h0, by rw [show ix (nI b) = b from nI_clamp hb, show ix (nI n) = n from nI_clamp hn]; exact h1⟩
theorem cpyOk_T {a b n n0 n1 : Nat} (ha : a < 2147483648) (hb : b < 2147483648) (hn : n < 2147483648) (h0 : a + n ≤ n0) (h1 : b + n ≤ n1) : cpyOk (nI a) (nI b) (nI n) n0 n1 = True := eq_true (cpyOk_nI ha hb hn h0 h1)
/-- a branch whose condition is known -/
theorem bq_t {c A B : Prop} (h : c) (a : A) : (c → A) ∧ (¬ c → B) := ⟨fun _ => a, fun n => absurd h n⟩
theorem bq_f {c A B : Prop} (h : ¬ c) (b : B) : (c → A) ∧ (¬ c → B) := ⟨fun n => absurd n h, fun _ => b⟩
/-- a loop, upwards: what holds before each turn gives what holds behind it -/
theorem lp {S : Type} (n : Nat) (K : Nat → S → Prop) (I : Nat → S → Prop) (stop : ∀ s, I n s → K n s) (step : ∀ i s, i < n → I i s → (∀ s', I (i + 1) s' → K (i + 1) s') → K i s) (s : S) (h : I 0 s) : K 0 s := by
  suffices H : ∀ i, i ≤ n → ∀ s, I i s → K i s from H 0 (Nat.zero_le n) s h
  intro i hi
  obtain ⟨d, hd⟩ : ∃ d, d = n - i := ⟨_, rfl⟩
  induction d generalizing i with
  | zero =>
    have : i = n := by omega
    subst this
    exact stop
  | succ d ih => exact fun s hs => step i s (by omega) hs (ih (i + 1) (by omega) (by omega))
/-- the first place with a property -/
def ft (p : Nat → Bool) : Nat → Option Nat
  | 0 => none
  | n + 1 => match ft p n with
    | some k => some k
    | none => if p n then some n else none
theorem ft_none {p : Nat → Bool} : ∀ {n : Nat}, (∀ k, k < n → p k = false) → ft p n = none
  | 0, _ => rfl
  | n + 1, h => by
    unfold ft
    rw [ft_none (n := n) (fun k hk => h k (by omega))]
    simp [h n (by omega)]
theorem ft_some {p : Nat → Bool} {i : Nat} (hi : p i = true) (h : ∀ k, k < i → p k = false) : ∀ {n : Nat}, i < n → ft p n = some i
  | 0, hn => absurd hn (Nat.not_lt_zero i)
  | n + 1, hn => by
    unfold ft
    by_cases e : i = n
    · subst e
      rw [ft_none h]
      simp [hi]
    · rw [ft_some hi h (n := n) (by omega)]
theorem ft_none_iff {p : Nat → Bool} {n : Nat} : ft p n = none ↔ ∀ k, k < n → p k = false := by
  refine ⟨?_, ft_none⟩
  induction n with
  | zero => exact fun _ k hk => absurd hk (Nat.not_lt_zero k)
  | succ n ih =>
    intro h k hk
    unfold ft at h
    cases e : ft p n with
    | some j => rw [e] at h; cases h
    | none =>
      rw [e] at h
      by_cases hp : p n = true
      · simp [hp] at h
      · by_cases hkn : k = n
        · subst hkn; simpa using hp
        · exact ih e k (by omega)
theorem ft_some_iff {p : Nat → Bool} {n i : Nat} : ft p n = some i ↔ i < n ∧ p i = true ∧ ∀ k, k < i → p k = false := by
  refine ⟨fun h => ?_, fun h => ft_some h.2.1 h.2.2 h.1⟩
  induction n with
  | zero => cases h
  | succ n ih =>
    unfold ft at h
    cases e : ft p n with
    | some j =>
      rw [e] at h
      cases h
      have := ih e
      exact ⟨by omega, this.2⟩
    | none =>
      rw [e] at h
      by_cases hp : p n = true
      · simp [hp] at h
        subst h
        exact ⟨by omega, hp, fun k hk => ft_none_iff.mp e k hk⟩
      · simp [hp] at h
theorem ft_cong {p q : Nat → Bool} : ∀ {n : Nat}, (∀ k, k < n → p k = q k) → ft p n = ft q n
  | 0, _ => rfl
  | n + 1, h => by
    unfold ft
    rw [ft_cong (n := n) (fun k hk => h k (by omega)), h n (by omega)]
/-- a loop that looks for the first -/
theorem lp_first {K : Nat → Prop} (p : Nat → Bool) (R : Option Nat → Prop) (n : Nat) (stop : R none → K n) (hit : ∀ i, i < n → p i = true → R (some i) → K i) (go : ∀ i, i < n → p i = false → K (i + 1) → K i) (h : R (ft p n)) : K 0 := by
  suffices H : ∀ i, i ≤ n → (∀ k, k < i → p k = false) → K i from H 0 (Nat.zero_le n) (fun k hk => absurd hk (Nat.not_lt_zero k))
  intro i hi
  obtain ⟨d, hd⟩ : ∃ d, d = n - i := ⟨_, rfl⟩
  induction d generalizing i with
  | zero =>
    have : i = n := by omega
    subst this
    intro hk
    rw [ft_none hk] at h
    exact stop h
  | succ d ih =>
    intro hk
    by_cases hp : p i = true
    · rw [ft_some hp hk (by omega)] at h
      exact hit i (by omega) hp h
    · have hp : p i = false := by simpa using hp
      exact go i (by omega) hp (ih (i + 1) (by omega) (by omega) (fun k hk2 => by
        by_cases e : k = i
        · subst e; exact hp
        · exact hk k (by omega)))
/-- a loop that counts -/
theorem lp_count {K : Nat → Nat → Prop} (p : Nat → Bool) (R : Nat → Prop) (n : Nat) (stop : ∀ c, c ≤ n → R c → K c n) (yes : ∀ i c, i < n → c ≤ i → p i = true → K (c + 1) (i + 1) → K c i) (no : ∀ i c, i < n → c ≤ i → p i = false → K c (i + 1) → K c i) (h : R (fb_ct p n)) : K 0 0 := by
  suffices H : ∀ i, i ≤ n → K (fb_ct p i) i from H 0 (Nat.zero_le n)
  intro i hi
  obtain ⟨d, hd⟩ : ∃ d, d = n - i := ⟨_, rfl⟩
  induction d generalizing i with
  | zero =>
    have : i = n := by omega
    subst this
    exact stop _ (fb_ct_le p i) h
  | succ d ih =>
    have := ih (i + 1) (by omega) (by omega)
    rw [fb_ct_succ] at this
    have hl := fb_ct_le p i
    by_cases hp : p i = true
    · rw [if_pos hp] at this
      exact yes i _ (by omega) hl hp this
    · have hp : p i = false := by simpa using hp
      rw [if_neg (by rw [hp]; decide)] at this
      exact no i _ (by omega) hl hp this
/-- a set of bits, made by a loop -/
def sb (p : Nat → Bool) : Nat → Int32
  | 0 => 0
  | n + 1 => if p n then sb p n ||| ((1 : Int32) <<< (nI n &&& 31)) else sb p n
theorem b_one {n : Nat} (hn : n < 32) {i : Nat} : bt ((1 : Int32) <<< (nI n &&& 31)) i = decide (i = n) := by
  by_cases hi : i < 32
  · rw [b_shl n hn 1 hi]
    have : bt 1 (i - n) = decide (i - n = 0) := by
      have h32 : i - n < 32 := by omega
      exact (by decide +kernel : ∀ j, j < 32 → bt 1 j = decide (j = 0)) _ h32
    rw [this]
    by_cases e : i = n
    · subst e; simp
    · rw [decide_eq_false e]
      by_cases h2 : n ≤ i
      · rw [decide_eq_false (show ¬ i - n = 0 by omega), Bool.and_false]
      · rw [decide_eq_false h2, Bool.false_and]
  · rw [b_big (by omega), decide_eq_false (by omega)]
theorem b_sb (p : Nat → Bool) : ∀ {n : Nat}, n ≤ 32 → ∀ (i : Nat), bt (sb p n) i = (decide (i < n) && p i)
  | 0, _, i => by
    show bt 0 i = _
    rw [b_0]
    simp
  | n + 1, hn, i => by
    unfold sb
    by_cases hp : p n = true
    · rw [if_pos hp, b_or, b_sb p (by omega), b_one (by omega)]
      by_cases e : i = n
      · subst e; simp [hp]
      · rw [decide_eq_false e, Bool.or_false]
        by_cases h2 : i < n
        · rw [decide_eq_true h2, decide_eq_true (show i < n + 1 by omega)]
        · rw [decide_eq_false h2, decide_eq_false (show ¬ i < n + 1 by omega)]
    · have hp : p n = false := by simpa using hp
      rw [if_neg (by rw [hp]; decide), b_sb p (by omega)]
      by_cases e : i = n
      · subst e; simp [hp]
      · by_cases h2 : i < n
        · rw [decide_eq_true h2, decide_eq_true (show i < n + 1 by omega)]
        · rw [decide_eq_false h2, decide_eq_false (show ¬ i < n + 1 by omega)]
theorem sb_cong {p q : Nat → Bool} : ∀ {n : Nat}, (∀ k, k < n → p k = q k) → sb p n = sb q n
  | 0, _ => rfl
  | n + 1, h => by
    unfold sb
    rw [sb_cong (n := n) (fun k hk => h k (by omega)), h n (by omega)]
/-- a loop that gathers bits -/
theorem lp_set {K : Int32 → Nat → Prop} (p : Nat → Bool) (R : Int32 → Prop) (n : Nat) (stop : ∀ c, R c → K c n) (yes : ∀ i c, i < n → p i = true → K (c ||| ((1 : Int32) <<< (nI i &&& 31))) (i + 1) → K c i) (no : ∀ i c, i < n → p i = false → K c (i + 1) → K c i) (h : R (sb p n)) : K 0 0 := by
  suffices H : ∀ i, i ≤ n → K (sb p i) i from H 0 (Nat.zero_le n)
  intro i hi
  obtain ⟨d, hd⟩ : ∃ d, d = n - i := ⟨_, rfl⟩
  induction d generalizing i with
  | zero =>
    have : i = n := by omega
    subst this
    exact stop _ h
  | succ d ih =>
    have := ih (i + 1) (by omega) (by omega)
    unfold sb at this
    by_cases hp : p i = true
    · rw [if_pos hp] at this
      exact yes i _ (by omega) hp this
    · have hp : p i = false := by simpa using hp
      rw [if_neg (by rw [hp]; decide)] at this
      exact no i _ (by omega) hp this
/-- a bit that is asked for by and -/
theorem b_ask {x : Int32} {n : Nat} (hn : n < 32) : (x &&& ((1 : Int32) <<< (nI n &&& 31))) = 0 ↔ bt x n = false := by
  constructor
  · intro h
    have h2 : bt (x &&& ((1 : Int32) <<< (nI n &&& 31))) n = false := by rw [h, b_0]
    rw [b_and, b_one hn, decide_eq_true rfl, Bool.and_true] at h2
    exact h2
  · intro h
    apply b_ext
    intro i hi
    rw [b_and, b_one hn, b_0]
    by_cases e : i = n
    · subst e; rw [h, Bool.false_and]
    · rw [decide_eq_false e, Bool.and_false]
/-- a bit that is asked for by a shift -/
theorem b_has {x : Int32} {n : Nat} (hn : n < 32) : ((x >>> (nI n &&& 31)) &&& 1) = (if bt x n then 1 else 0) := by
  apply b_ext
  intro i hi
  have e1 : bt 1 i = decide (i = 0) := (by decide +kernel : ∀ j, j < 32 → bt 1 j = decide (j = 0)) _ hi
  rw [b_and, e1, b_sshr n hn x hi]
  by_cases e : i = 0
  · subst e
    rw [Nat.add_zero, if_pos hn, decide_eq_true rfl, Bool.and_true]
    cases bt x n
    · exact (b_0 0).symm
    · rfl
  · rw [decide_eq_false e, Bool.and_false]
    cases bt x n
    · exact (b_0 i).symm
    · show false = bt 1 i
      rw [e1, decide_eq_false e]
theorem b_eq0 {x : Int32} : x = 0 ↔ ∀ i, i < 32 → bt x i = false := by
  constructor
  · intro h i _
    rw [h, b_0]
  · intro h
    apply b_ext
    intro i hi
    rw [h i hi, b_0]
theorem b_not (x : Int32) {i : Nat} (hi : i < 32) : bt (x ^^^ (-1)) i = !bt x i := by
  rw [b_xor, b_m1 i hi, Bool.xor_true]
