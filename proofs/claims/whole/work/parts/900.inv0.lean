/-! MATH. The start. -/
theorem inv0 : Inv sto0 := by
  refine ⟨a0, ?_, ?_, ?_⟩
  · refine ⟨⟨by decide, fun r h => (by cases h), by decide, fun r h => (by cases h), fun i j g h hi => (by simp [a0] at hi), rfl, fun w hw => ?_, by decide⟩, fun c h => (by cases h), ⟨by decide, fun c h => (by cases h)⟩, by decide, by decide, ⟨rfl, fun v hv => ?_⟩, by decide, ⟨by decide, fun c h => (by cases h)⟩, fun k h => (by cases h)⟩
    · simp [a0] at hw
      omega
    · have hv2 : some v ∈ ([none, none, none, none, none, none] : List (Option Nat)) := hv
      simp at hv2
  · refine ⟨⟨rfl, no_at, rfl, no_at, row0 (fun k _ => rfl), rfl⟩, ⟨rfl, fun c h => (by cases h)⟩, ⟨rfl, ⟨fun k hk => ⟨k, hk, rfl⟩, fun i k hi hk h => ?_⟩, no_at⟩, rfl, rfl, vals0 ?_, ⟨rfl, no_at⟩, ⟨rfl, no_at⟩, rfl⟩
    · have h2 : nI (12 + 6 * i) = nI (12 + 6 * k) := h
      have := (nI_eq (by omega) (by omega)).mp h2
      omega
    · intro k hk
      match k, hk with
      | 0, _ => rfl
      | 1, _ => rfl
      | 2, _ => rfl
      | 3, _ => rfl
      | 4, _ => rfl
      | 5, _ => rfl
      | k + 6, hk => omega
  · refine ⟨⟨rfl, no_at, rfl, no_at, row0 (fun k _ => rfl), rfl⟩, ⟨rfl, fun c h => (by cases h)⟩, ⟨rfl, no_at⟩, rfl, rfl, vals0 ?_, ⟨rfl, no_at⟩, ⟨rfl, no_at⟩, rfl⟩
    intro k hk
    match k, hk with
    | 0, _ => rfl
    | 1, _ => rfl
    | 2, _ => rfl
    | 3, _ => rfl
    | 4, _ => rfl
    | 5, _ => rfl
    | k + 6, hk => omega
