/-! MATH. What the cells say: the engine's and the model's, of one abstract value. -/
theorem loop_dn (n : Nat) (Q : Nat → Prop) (hn : Q n) (hs : ∀ i, i < n → Q (i + 1) → Q i) : ∀ i, i ≤ n → Q i := by
  intro i hi
  obtain ⟨d, hd⟩ : ∃ d, d = n - i := ⟨_, rfl⟩
  induction d generalizing i with
  | zero =>
    have : i = n := by omega
    subst this
    exact hn
  | succ d ih => exact hs i (by omega) (ih (i + 1) (by omega) (by omega))
/-- attribute, kind, operand -/
abbrev mCond : Type := Nat × Nat × Nat
/-- policy, effect, priority, conditions -/
abbrev mRule : Type := Nat × Nat × Nat × List mCond
/-- from, to, policy, depth, expiry -/
abbrev mGrant : Type := Nat × Nat × Nat × Nat × Nat
/-- rules, grants, ways, top way -/
abbrev mCore : Type := List mRule × List mGrant × List Nat × Nat
/-- clock, subject, decision, rule -/
abbrev mAud : Type := Nat × Nat × Nat × Option Nat
/-- core, saved, history (oldest first), clock, subject, values, audit, input, error -/
abbrev mA : Type := mCore × Option mCore × List mCore × Nat × Nat × List (Option Nat) × List mAud × List Nat × Option Nat
def optI : Option Nat → Int32
  | none => -1
  | some v => nI v
def RuleAt (f : Nat → Int32) (b : Nat) (r : mRule) : Prop := f b = nI r.1 ∧ f (b + 1) = nI r.2.1 ∧ f (b + 2) = nI r.2.2.1 ∧ f (b + 3) = nI r.2.2.2.length ∧ ∀ (c : Nat) (q : mCond), r.2.2.2[c]? = some q → f (b + 4 + 3 * c) = nI q.1 ∧ f (b + 4 + 3 * c + 1) = nI q.2.1 ∧ f (b + 4 + 3 * c + 2) = nI q.2.2
def RulesAt (f : Nat → Int32) (l : List mRule) : Prop := ∀ (k : Nat) (r : mRule), l[k]? = some r → RuleAt f (16 * k) r
def GrantsAt (f : Nat → Int32) (l : List mGrant) : Prop := ∀ (k : Nat) (g : mGrant), l[k]? = some g → f (5 * k) = nI g.1 ∧ f (5 * k + 1) = nI g.2.1 ∧ f (5 * k + 2) = nI g.2.2.1 ∧ f (5 * k + 3) = nI g.2.2.2.1 ∧ f (5 * k + 4) = nI g.2.2.2.2
def RowAt (f : Nat → Int32) (l : List Nat) : Prop := ∀ (k : Nat) (w : Nat), l[k]? = some w → f k = nI w
def CoreAt (n : Int32) (f : Nat → Int32) (gn : Int32) (gf : Nat → Int32) (wf : Nat → Int32) (t : Int32) (c : mCore) : Prop := n = nI c.1.length ∧ RulesAt f c.1 ∧ gn = nI c.2.1.length ∧ GrantsAt gf c.2.1 ∧ RowAt wf c.2.2.1 ∧ t = nI c.2.2.2
def CoreE (c : mCore) (σ : Sto) (b : Nat) : Prop := CoreAt (σ (b + 1) 1) (σ (b + 2)) (σ (b + 3) 1) (σ (b + 4)) (σ (b + 5)) (σ b 3) c
def CoreM (c : mCore) (g : Nat → Int32) (o : Nat) : Prop := CoreAt (g o) (fun k => g (o + 10 + k)) (g (o + 6)) (fun k => g (o + 400 + k)) (fun k => g (o + 1 + k)) (g (o + 5)) c
def WFCond (q : mCond) : Prop := q.1 < 6 ∧ q.2.1 ≤ 4 ∧ (q.2.1 = 4 → 1 ≤ q.2.2 ∧ q.2.2 ≤ 65535) ∧ (q.2.1 < 4 → q.2.2 ≤ 15)
def WFRule (r : mRule) : Prop := r.1 < 4 ∧ r.2.1 < 2 ∧ r.2.2.1 ≤ 9 ∧ r.2.2.2.length ≤ 4 ∧ ∀ q, q ∈ r.2.2.2 → WFCond q
def WFGrant (g : mGrant) : Prop := g.1 < 10 ∧ g.2.1 < 10 ∧ g.1 ≠ g.2.1 ∧ g.2.2.1 < 4 ∧ g.2.2.2.1 ≤ 5 ∧ g.2.2.2.2 ≤ 1000
/-- at most one grant for the same two subjects and the same policy -/
def GKeys (l : List mGrant) : Prop := ∀ (i j : Nat) (g h : mGrant), l[i]? = some g → l[j]? = some h → g.1 = h.1 → g.2.1 = h.2.1 → g.2.2.1 = h.2.2.1 → i = j
def WFCore (c : mCore) : Prop := c.1.length ≤ 24 ∧ (∀ r, r ∈ c.1 → WFRule r) ∧ c.2.1.length ≤ 30 ∧ (∀ g, g ∈ c.2.1 → WFGrant g) ∧ GKeys c.2.1 ∧ c.2.2.1.length = 4 ∧ (∀ w, w ∈ c.2.2.1 → w < 4) ∧ c.2.2.2 < 4
def ValsAt (f : Nat → Int32) (l : List (Option Nat)) : Prop := ∀ (k : Nat) (v : Option Nat), l[k]? = some v → f k = optI v
def AudAt (f : Nat → Int32) (l : List mAud) : Prop := ∀ (k : Nat) (q : mAud), l[k]? = some q → f (4 * k) = nI q.1 ∧ f (4 * k + 1) = nI q.2.1 ∧ f (4 * k + 2) = nI q.2.2.1 ∧ f (4 * k + 3) = optI q.2.2.2
abbrev aCore (a : mA) : mCore := a.1
abbrev aSav (a : mA) : Option mCore := a.2.1
abbrev aHist (a : mA) : List mCore := a.2.2.1
abbrev aClk (a : mA) : Nat := a.2.2.2.1
abbrev aSub (a : mA) : Nat := a.2.2.2.2.1
abbrev aVal (a : mA) : List (Option Nat) := a.2.2.2.2.2.1
abbrev aAud (a : mA) : List mAud := a.2.2.2.2.2.2.1
abbrev aInp (a : mA) : List Nat := a.2.2.2.2.2.2.2.1
abbrev aErr (a : mA) : Option Nat := a.2.2.2.2.2.2.2.2
def SavI (s : Option mCore) : Int32 := match s with
  | none => 0
  | some _ => 1
/-- the rows of past States: which block stands at each place -/
def PastE (f : Nat → Int32) : Prop := (∀ k, k < 8 → ∃ j, j < 8 ∧ f k = nI (12 + 6 * j)) ∧ ∀ i k, i < 8 → k < 8 → f i = f k → i = k
def HistE (h : List mCore) (σ : Sto) : Prop := σ 63 1 = nI h.length ∧ PastE (σ 64) ∧ ∀ (k : Nat) (c : mCore), h[k]? = some c → CoreE c σ (ix (σ 64 k))
/-- the engine's cells say a -/
def RE (a : mA) (σ : Sto) : Prop := CoreE (aCore a) σ 0 ∧ (σ 60 2 = SavI (aSav a) ∧ ∀ c, aSav a = some c → CoreE c σ 6) ∧ HistE (aHist a) σ ∧ σ 60 14 = nI (aClk a) ∧ σ 60 13 = nI (aSub a) ∧ ValsAt (σ 85) (aVal a) ∧ (σ 79 1 = nI (aAud a).length ∧ AudAt (σ 80) (aAud a)) ∧ (σ 81 1 = nI (aInp a).length ∧ RowAt (σ 82) (aInp a)) ∧ σ 81 4 = optI (aErr a)
/-- the model's cells say a -/
def RM (a : mA) (σ : Sto) : Prop := CoreM (aCore a) (σ 88) 0 ∧ (σ 87 2 = SavI (aSav a) ∧ ∀ c, aSav a = some c → CoreM c (σ 89) 0) ∧ (σ 87 4 = nI (aHist a).length ∧ ∀ (k : Nat) (c : mCore), (aHist a)[k]? = some c → CoreM c (σ 90) (550 * k)) ∧ σ 87 5 = nI (aClk a) ∧ σ 87 6 = nI (aSub a) ∧ ValsAt (σ 91) (aVal a) ∧ (σ 87 16 = nI (aAud a).length ∧ AudAt (σ 96) (aAud a)) ∧ (σ 87 24 = nI (aInp a).length ∧ RowAt (σ 103) (aInp a)) ∧ σ 87 27 = optI (aErr a)
def WFA (a : mA) : Prop := WFCore (aCore a) ∧ (∀ c, aSav a = some c → WFCore c) ∧ ((aHist a).length ≤ 8 ∧ ∀ c, c ∈ aHist a → WFCore c) ∧ aClk a ≤ 2000 ∧ aSub a < 10 ∧ ((aVal a).length = 6 ∧ ∀ v, some v ∈ aVal a → v < 16) ∧ (aAud a).length ≤ 30 ∧ ((aInp a).length ≤ 70 ∧ ∀ ch, ch ∈ aInp a → 32 ≤ ch ∧ ch ≤ 126) ∧ ∀ k, aErr a = some k → k ≤ 70
def Inv (σ : Sto) : Prop := ∃ a : mA, WFA a ∧ RE a σ ∧ RM a σ
def a0 : mA := (([], [], [0, 0, 0, 0], 0), none, [], 0, 0, [none, none, none, none, none, none], [], [], none)
theorem row0 {f : Nat → Int32} (h : ∀ k, k < 4 → f k = 0) : RowAt f [0, 0, 0, 0] := by
  intro k w hk
  match k, hk with
  | 0, hk => cases hk; exact h 0 (by decide)
  | 1, hk => cases hk; exact h 1 (by decide)
  | 2, hk => cases hk; exact h 2 (by decide)
  | 3, hk => cases hk; exact h 3 (by decide)
  | k + 4, hk => simp at hk
theorem vals0 {f : Nat → Int32} (h : ∀ k, k < 6 → f k = -1) : ValsAt f [none, none, none, none, none, none] := by
  intro k w hk
  match k, hk with
  | 0, hk => cases hk; exact h 0 (by decide)
  | 1, hk => cases hk; exact h 1 (by decide)
  | 2, hk => cases hk; exact h 2 (by decide)
  | 3, hk => cases hk; exact h 3 (by decide)
  | 4, hk => cases hk; exact h 4 (by decide)
  | 5, hk => cases hk; exact h 5 (by decide)
  | k + 6, hk => simp at hk
theorem no_at {α : Type} {P : Nat → α → Prop} : ∀ (k : Nat) (q : α), ([] : List α)[k]? = some q → P k q := fun k q h => by simp at h
