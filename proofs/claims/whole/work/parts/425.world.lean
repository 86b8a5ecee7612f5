/-- the store at the law's start -/
def sto0 : Sto := fun c => if c = 85 then (upd (upd (upd (upd (upd (upd (fun _ => 0) 0 (-1)) 1 (-1)) 2 (-1)) 3 (-1)) 4 (-1)) 5 (-1)) else if c = 91 then (upd (upd (upd (upd (upd (upd (fun _ => 0) 0 (-1)) 1 (-1)) 2 (-1)) 3 (-1)) 4 (-1)) 5 (-1)) else if c = 64 then (fun k => nI (12 + 6 * k)) else if c = 81 then (fun k => if k = 4 then -1 else 0) else if c = 87 then (fun k => if k = 27 then -1 else 0) else fun _ => 0
def s_pos : List Nat := [1, 2, 3, 4, 5, 6, 7, 8, 9, 10, 11, 12, 15, 16, 17, 18, 19, 20, 21, 22, 23, 24, 25, 26, 27, 28, 29, 30, 31, 32, 33, 34, 35, 36, 37, 38, 39, 40, 41, 42, 43, 44, 45, 46, 47, 48, 49, 50, 51, 52, 53, 54, 55, 56, 57, 58, 59, 60, 61, 62, 0, 81, 82, 13, 14, 63, 64, 65, 66, 67, 68, 69, 70, 71, 72, 73, 74, 75, 76, 77, 78, 79, 80, 83, 84, 85, 86, 87, 88, 89, 90, 91, 92, 93, 94, 95, 96, 97, 98, 99, 100, 101, 102, 103, 104, 105, 106, 107]
theorem s_pos_inj : ∀ i, i < 108 → ∀ j, j < 108 → s_pos[i]? = s_pos[j]? → i = j := by decide +kernel
theorem arrV_cong (cA : ClassId) {n : Nat} {f g : Nat → Value} (h : ∀ j, j < n → f j = g j) : arrV cA n f = arrV cA n g := by
  unfold arrV
  congr 1
  apply Array.ext
  · simp
  · intro i h1 h2
    simp only [Array.getElem_ofFn]
    exact h i (by simpa using h1)
theorem va_atq {D : va_G} {cl : List vw_C} {q n : Nat} {cA : ClassId} {f g : Nat → Option Nat} {H : Heap} (h : va_at D cl (q, .inl (cA, n, .inr (.inr (.inr (.inr f))))) H) (e : ∀ j, j < n → f j = g j) : va_at D cl (q, .inl (cA, n, .inr (.inr (.inr (.inr g))))) H := by
  have h2 : H[q]? = some (vp_cell cA (n, .inr (.inr (.inr (.inr f))))) := h
  show H[q]? = some (vp_cell cA (n, .inr (.inr (.inr (.inr g)))))
  rw [h2]
  exact congrArg some (arrV_cong cA (n := n) (f := fun j => va_rf (f j)) (g := fun j => va_rf (g j)) (fun j hj => congrArg va_rf (e j hj)))
theorem va_atl {D : va_G} {cl : List vw_C} {q n : Nat} {cA : ClassId} {f g : Nat → Int64} {H : Heap} (h : va_at D cl (q, .inl (cA, n, .inr (.inl f))) H) (e : ∀ j, j < n → f j = g j) : va_at D cl (q, .inl (cA, n, .inr (.inl g))) H := by
  have h2 : H[q]? = some (vp_cell cA (n, .inr (.inl f))) := h
  show H[q]? = some (vp_cell cA (n, .inr (.inl g)))
  rw [h2]
  exact congrArg some (arrV_cong cA (n := n) (f := fun j => Value.long (f j)) (g := fun j => Value.long (g j)) (fun j hj => congrArg Value.long (e j hj)))
theorem va_atd {D : va_G} {cl : List vw_C} {q n : Nat} {cA : ClassId} {f g : Nat → UInt64} {H : Heap} (h : va_at D cl (q, .inl (cA, n, .inr (.inr (.inr (.inl f))))) H) (e : ∀ j, j < n → f j = g j) : va_at D cl (q, .inl (cA, n, .inr (.inr (.inr (.inl g))))) H := by
  have h2 : H[q]? = some (vp_cell cA (n, .inr (.inr (.inr (.inl f))))) := h
  show H[q]? = some (vp_cell cA (n, .inr (.inr (.inr (.inl g)))))
  rw [h2]
  exact congrArg some (arrV_cong cA (n := n) (f := fun j => Value.double (f j)) (g := fun j => Value.double (g j)) (fun j hj => congrArg Value.double (e j hj)))
set_option maxHeartbeats 16000000 in
set_option maxRecDepth 100000 in
theorem s_world {h0 : Nat} {D : va_G} {cA : Nat → ClassId} (qe eq4 eq4_6 eq5_6_6 eq9_6 eq5_11_6 eq15_6 eq9 eq4_11 eq5_6_11 eq9_11 eq5_11_11 eq15_11 eq14 eq5_16 eq15_16 eq4_17_16 eq5_6_17_16 eq9_17_16 eq5_11_17_16 eq15_17_16 eq27_16 eq4_29_16 eq5_6_29_16 eq9_29_16 eq5_11_29_16 eq15_29_16 eq39_16 eq4_41_16 eq5_6_41_16 eq9_41_16 eq5_11_41_16 eq15_41_16 eq51_16 eq4_53_16 eq5_6_53_16 eq9_53_16 eq5_11_53_16 eq15_53_16 eq63_16 eq4_65_16 eq5_6_65_16 eq9_65_16 eq5_11_65_16 eq15_65_16 eq75_16 eq4_77_16 eq5_6_77_16 eq9_77_16 eq5_11_77_16 eq15_77_16 eq87_16 eq4_89_16 eq5_6_89_16 eq9_89_16 eq5_11_89_16 eq15_89_16 eq99_16 eq4_101_16 eq5_6_101_16 eq9_101_16 eq5_11_101_16 eq15_101_16 eq19 eq5_23 eq9_23 eq13_23 eq17_23 eq26 eq5_30 eq33 eq5_37 eq9_37 eq13_37 eq17_37 eq40 eq5_45 eq48 eq5_50 eq53 eq5_55 eq8_55 eq5_10_55 eq58 eq5_60 eq64 eq68 qm mq5 mq9 mq13 mq17 mq45 mq49 mq53 mq57 mq61 mq65 mq69 mq73 mq77 mq81 mq85 mq89 mq96 mq100 qo qd : Nat) {H : Heap}
    (hP : va_P D g_cls ([(qe, .inr (11, [.ref eq4, .ref eq9, .int 0, .ref eq14, .ref eq19, .ref eq26, .ref eq33, .ref eq40, .ref eq48, .ref eq53, .ref eq58, .ref eq64, .ref eq68, .int 0, .int 0])), (eq4, .inr (8, [.ref eq4_6, .ref eq9_6, .ref eq15_6, .int 0])), (eq4_6, .inr (6, [.ref eq5_6_6, .int 0])), (eq5_6_6, .inl (cA 0, 384, .inl (fun _ => 0))), (eq9_6, .inr (2, [.ref eq5_11_6, .int 0])), (eq5_11_6, .inl (cA 0, 150, .inl (fun _ => 0))), (eq15_6, .inl (cA 0, 4, .inl (fun _ => 0))), (eq9, .inr (8, [.ref eq4_11, .ref eq9_11, .ref eq15_11, .int 0])), (eq4_11, .inr (6, [.ref eq5_6_11, .int 0])), (eq5_6_11, .inl (cA 0, 384, .inl (fun _ => 0))), (eq9_11, .inr (2, [.ref eq5_11_11, .int 0])), (eq5_11_11, .inl (cA 0, 150, .inl (fun _ => 0))), (eq15_11, .inl (cA 0, 4, .inl (fun _ => 0))), (eq14, .inr (3, [.ref eq5_16, .int 0])), (eq5_16, .inl (cA 2, 8, .inr (.inr (.inr (.inr (va_up (va_up (va_up (va_up (va_up (va_up (va_up (va_up (fun _ => none) 0 (some eq15_16)) 1 (some eq27_16)) 2 (some eq39_16)) 3 (some eq51_16)) 4 (some eq63_16)) 5 (some eq75_16)) 6 (some eq87_16)) 7 (some eq99_16))))))), (eq15_16, .inr (8, [.ref eq4_17_16, .ref eq9_17_16, .ref eq15_17_16, .int 0])), (eq4_17_16, .inr (6, [.ref eq5_6_17_16, .int 0])), (eq5_6_17_16, .inl (cA 0, 384, .inl (fun _ => 0))), (eq9_17_16, .inr (2, [.ref eq5_11_17_16, .int 0])), (eq5_11_17_16, .inl (cA 0, 150, .inl (fun _ => 0))), (eq15_17_16, .inl (cA 0, 4, .inl (fun _ => 0))), (eq27_16, .inr (8, [.ref eq4_29_16, .ref eq9_29_16, .ref eq15_29_16, .int 0])), (eq4_29_16, .inr (6, [.ref eq5_6_29_16, .int 0])), (eq5_6_29_16, .inl (cA 0, 384, .inl (fun _ => 0))), (eq9_29_16, .inr (2, [.ref eq5_11_29_16, .int 0])), (eq5_11_29_16, .inl (cA 0, 150, .inl (fun _ => 0))), (eq15_29_16, .inl (cA 0, 4, .inl (fun _ => 0))), (eq39_16, .inr (8, [.ref eq4_41_16, .ref eq9_41_16, .ref eq15_41_16, .int 0])), (eq4_41_16, .inr (6, [.ref eq5_6_41_16, .int 0])), (eq5_6_41_16, .inl (cA 0, 384, .inl (fun _ => 0))), (eq9_41_16, .inr (2, [.ref eq5_11_41_16, .int 0])), (eq5_11_41_16, .inl (cA 0, 150, .inl (fun _ => 0))), (eq15_41_16, .inl (cA 0, 4, .inl (fun _ => 0))), (eq51_16, .inr (8, [.ref eq4_53_16, .ref eq9_53_16, .ref eq15_53_16, .int 0])), (eq4_53_16, .inr (6, [.ref eq5_6_53_16, .int 0])), (eq5_6_53_16, .inl (cA 0, 384, .inl (fun _ => 0))), (eq9_53_16, .inr (2, [.ref eq5_11_53_16, .int 0])), (eq5_11_53_16, .inl (cA 0, 150, .inl (fun _ => 0))), (eq15_53_16, .inl (cA 0, 4, .inl (fun _ => 0))), (eq63_16, .inr (8, [.ref eq4_65_16, .ref eq9_65_16, .ref eq15_65_16, .int 0])), (eq4_65_16, .inr (6, [.ref eq5_6_65_16, .int 0])), (eq5_6_65_16, .inl (cA 0, 384, .inl (fun _ => 0))), (eq9_65_16, .inr (2, [.ref eq5_11_65_16, .int 0])), (eq5_11_65_16, .inl (cA 0, 150, .inl (fun _ => 0))), (eq15_65_16, .inl (cA 0, 4, .inl (fun _ => 0))), (eq75_16, .inr (8, [.ref eq4_77_16, .ref eq9_77_16, .ref eq15_77_16, .int 0])), (eq4_77_16, .inr (6, [.ref eq5_6_77_16, .int 0])), (eq5_6_77_16, .inl (cA 0, 384, .inl (fun _ => 0))), (eq9_77_16, .inr (2, [.ref eq5_11_77_16, .int 0])), (eq5_11_77_16, .inl (cA 0, 150, .inl (fun _ => 0))), (eq15_77_16, .inl (cA 0, 4, .inl (fun _ => 0))), (eq87_16, .inr (8, [.ref eq4_89_16, .ref eq9_89_16, .ref eq15_89_16, .int 0])), (eq4_89_16, .inr (6, [.ref eq5_6_89_16, .int 0])), (eq5_6_89_16, .inl (cA 0, 384, .inl (fun _ => 0))), (eq9_89_16, .inr (2, [.ref eq5_11_89_16, .int 0])), (eq5_11_89_16, .inl (cA 0, 150, .inl (fun _ => 0))), (eq15_89_16, .inl (cA 0, 4, .inl (fun _ => 0))), (eq99_16, .inr (8, [.ref eq4_101_16, .ref eq9_101_16, .ref eq15_101_16, .int 0])), (eq4_101_16, .inr (6, [.ref eq5_6_101_16, .int 0])), (eq5_6_101_16, .inl (cA 0, 384, .inl (fun _ => 0))), (eq9_101_16, .inr (2, [.ref eq5_11_101_16, .int 0])), (eq5_11_101_16, .inl (cA 0, 150, .inl (fun _ => 0))), (eq15_101_16, .inl (cA 0, 4, .inl (fun _ => 0))), (eq19, .inr (5, [.ref eq4, .ref eq5_23, .ref eq9_23, .ref eq13_23, .ref eq17_23, .int 0, .int 0])), (eq5_23, .inl (cA 0, 24, .inl (fun _ => 0))), (eq9_23, .inl (cA 0, 24, .inl (fun _ => 0))), (eq13_23, .inl (cA 0, 144, .inl (fun _ => 0))), (eq17_23, .inl (cA 0, 4, .inl (fun _ => 0))), (eq26, .inr (7, [.ref eq19, .ref eq5_30])), (eq5_30, .inl (cA 0, 150, .inl (fun _ => 0))), (eq33, .inr (9, [.ref eq19, .ref eq5_37, .int 0, .ref eq9_37, .ref eq13_37, .ref eq17_37])), (eq5_37, .inl (cA 0, 4, .inl (fun _ => 0))), (eq9_37, .inl (cA 0, 3, .inl (fun _ => 0))), (eq13_37, .inl (cA 0, 48, .inl (fun _ => 0))), (eq17_37, .inl (cA 0, 48, .inl (fun _ => 0))), (eq40, .inr (1, [.ref eq9_6, .ref eq5_45])), (eq5_45, .inl (cA 0, 7, .inl (fun _ => 0))), (eq48, .inr (0, [.ref eq5_50, .int 0])), (eq5_50, .inl (cA 0, 120, .inl (fun _ => 0))), (eq53, .inr (4, [.ref eq5_55, .int 0, .int 0, .ref eq8_55, .int (-1)])), (eq5_55, .inl (cA 1, 70, .inl (fun _ => 0))), (eq8_55, .inr (6, [.ref eq5_10_55, .int 0])), (eq5_10_55, .inl (cA 0, 384, .inl (fun _ => 0))), (eq58, .inr (10, [.ref eq5_60, .int 0])), (eq5_60, .inl (cA 1, 200, .inl (fun _ => 0))), (eq64, .inl (cA 0, 6, .inl (upd (upd (upd (upd (upd (upd (fun _ => 0) 0 (-1)) 1 (-1)) 2 (-1)) 3 (-1)) 4 (-1)) 5 (-1)))), (eq68, .inl (cA 0, 6, .inl (fun _ => 0))), (qm, .inr (12, [.ref mq5, .ref mq9, .int 0, .ref mq13, .int 0, .int 0, .int 0, .ref mq17, .int 0, .ref mq45, .ref mq49, .ref mq53, .ref mq57, .int 0, .int 0, .ref mq61, .int 0, .ref mq65, .ref mq69, .ref mq73, .ref mq77, .ref mq81, .ref mq85, .ref mq89, .int 0, .int 0, .int 0, .int (-1), .ref mq96, .int 0, .ref mq100, .int 0])), (mq5, .inl (cA 0, 550, .inl (fun _ => 0))), (mq9, .inl (cA 0, 550, .inl (fun _ => 0))), (mq13, .inl (cA 0, 4400, .inl (fun _ => 0))), (mq17, .inl (cA 0, 6, .inl (upd (upd (upd (upd (upd (upd (fun _ => 0) 0 (-1)) 1 (-1)) 2 (-1)) 3 (-1)) 4 (-1)) 5 (-1)))), (mq45, .inl (cA 0, 7, .inl (fun _ => 0))), (mq49, .inl (cA 0, 144, .inl (fun _ => 0))), (mq53, .inl (cA 0, 6, .inl (fun _ => 0))), (mq57, .inl (cA 0, 2, .inl (fun _ => 0))), (mq61, .inl (cA 0, 120, .inl (fun _ => 0))), (mq65, .inl (cA 0, 4, .inl (fun _ => 0))), (mq69, .inl (cA 0, 4, .inl (fun _ => 0))), (mq73, .inl (cA 0, 7, .inl (fun _ => 0))), (mq77, .inl (cA 0, 6, .inl (fun _ => 0))), (mq81, .inl (cA 0, 96, .inl (fun _ => 0))), (mq85, .inl (cA 0, 6, .inl (fun _ => 0))), (mq89, .inl (cA 0, 70, .inl (fun _ => 0))), (mq96, .inl (cA 0, 224, .inl (fun _ => 0))), (mq100, .inl (cA 0, 200, .inl (fun _ => 0))), (qo, .inl (cA 3, 1, .inr (.inl (fun _ => 0)))), (qd, .inl (cA 4, 1, .inr (.inr (.inr (.inl (fun _ => 0))))))]) H) : va_P D g_cls (wl ((h0, (fun c => ([eq4, eq4_6, eq5_6_6, eq9_6, eq5_11_6, eq15_6, eq9, eq4_11, eq5_6_11, eq9_11, eq5_11_11, eq15_11, eq15_16, eq4_17_16, eq5_6_17_16, eq9_17_16, eq5_11_17_16, eq15_17_16, eq27_16, eq4_29_16, eq5_6_29_16, eq9_29_16, eq5_11_29_16, eq15_29_16, eq39_16, eq4_41_16, eq5_6_41_16, eq9_41_16, eq5_11_41_16, eq15_41_16, eq51_16, eq4_53_16, eq5_6_53_16, eq9_53_16, eq5_11_53_16, eq15_53_16, eq63_16, eq4_65_16, eq5_6_65_16, eq9_65_16, eq5_11_65_16, eq15_65_16, eq75_16, eq4_77_16, eq5_6_77_16, eq9_77_16, eq5_11_77_16, eq15_77_16, eq87_16, eq4_89_16, eq5_6_89_16, eq9_89_16, eq5_11_89_16, eq15_89_16, eq99_16, eq4_101_16, eq5_6_101_16, eq9_101_16, eq5_11_101_16, eq15_101_16, qe, eq8_55, eq5_10_55, eq14, eq5_16, eq19, eq5_23, eq9_23, eq13_23, eq17_23, eq26, eq5_30, eq33, eq5_37, eq9_37, eq13_37, eq17_37, eq40, eq5_45, eq48, eq5_50, eq53, eq5_55, eq58, eq5_60, eq64, eq68, qm, mq5, mq9, mq13, mq17, mq45, mq49, mq53, mq57, mq61, mq65, mq69, mq73, mq77, mq81, mq85, mq89, mq96, mq100, qo, qd] : List Nat).getD c 0), D, cA) : GP) (0, 0) sto0) H := by
  have key : ∀ (c : Nat), c < 108 → va_at D g_cls (g_ad ((h0, (fun c => ([eq4, eq4_6, eq5_6_6, eq9_6, eq5_11_6, eq15_6, eq9, eq4_11, eq5_6_11, eq9_11, eq5_11_11, eq15_11, eq15_16, eq4_17_16, eq5_6_17_16, eq9_17_16, eq5_11_17_16, eq15_17_16, eq27_16, eq4_29_16, eq5_6_29_16, eq9_29_16, eq5_11_29_16, eq15_29_16, eq39_16, eq4_41_16, eq5_6_41_16, eq9_41_16, eq5_11_41_16, eq15_41_16, eq51_16, eq4_53_16, eq5_6_53_16, eq9_53_16, eq5_11_53_16, eq15_53_16, eq63_16, eq4_65_16, eq5_6_65_16, eq9_65_16, eq5_11_65_16, eq15_65_16, eq75_16, eq4_77_16, eq5_6_77_16, eq9_77_16, eq5_11_77_16, eq15_77_16, eq87_16, eq4_89_16, eq5_6_89_16, eq9_89_16, eq5_11_89_16, eq15_89_16, eq99_16, eq4_101_16, eq5_6_101_16, eq9_101_16, eq5_11_101_16, eq15_101_16, qe, eq8_55, eq5_10_55, eq14, eq5_16, eq19, eq5_23, eq9_23, eq13_23, eq17_23, eq26, eq5_30, eq33, eq5_37, eq9_37, eq13_37, eq17_37, eq40, eq5_45, eq48, eq5_50, eq53, eq5_55, eq58, eq5_60, eq64, eq68, qm, mq5, mq9, mq13, mq17, mq45, mq49, mq53, mq57, mq61, mq65, mq69, mq73, mq77, mq81, mq85, mq89, mq96, mq100, qo, qd] : List Nat).getD c 0), D, cA) : GP) c, ceF ((h0, (fun c => ([eq4, eq4_6, eq5_6_6, eq9_6, eq5_11_6, eq15_6, eq9, eq4_11, eq5_6_11, eq9_11, eq5_11_11, eq15_11, eq15_16, eq4_17_16, eq5_6_17_16, eq9_17_16, eq5_11_17_16, eq15_17_16, eq27_16, eq4_29_16, eq5_6_29_16, eq9_29_16, eq5_11_29_16, eq15_29_16, eq39_16, eq4_41_16, eq5_6_41_16, eq9_41_16, eq5_11_41_16, eq15_41_16, eq51_16, eq4_53_16, eq5_6_53_16, eq9_53_16, eq5_11_53_16, eq15_53_16, eq63_16, eq4_65_16, eq5_6_65_16, eq9_65_16, eq5_11_65_16, eq15_65_16, eq75_16, eq4_77_16, eq5_6_77_16, eq9_77_16, eq5_11_77_16, eq15_77_16, eq87_16, eq4_89_16, eq5_6_89_16, eq9_89_16, eq5_11_89_16, eq15_89_16, eq99_16, eq4_101_16, eq5_6_101_16, eq9_101_16, eq5_11_101_16, eq15_101_16, qe, eq8_55, eq5_10_55, eq14, eq5_16, eq19, eq5_23, eq9_23, eq13_23, eq17_23, eq26, eq5_30, eq33, eq5_37, eq9_37, eq13_37, eq17_37, eq40, eq5_45, eq48, eq5_50, eq53, eq5_55, eq58, eq5_60, eq64, eq68, qm, mq5, mq9, mq13, mq17, mq45, mq49, mq53, mq57, mq61, mq65, mq69, mq73, mq77, mq81, mq85, mq89, mq96, mq100, qo, qd] : List Nat).getD c 0), D, cA) : GP) (0, 0) c (sto0 c)) H := by
    intro c hc
    match c, hc with
    | 0, _ => exact hP 1 _ rfl
    | 1, _ => exact hP 2 _ rfl
    | 2, _ => exact hP 3 _ rfl
    | 3, _ => exact hP 4 _ rfl
    | 4, _ => exact hP 5 _ rfl
    | 5, _ => exact hP 6 _ rfl
    | 6, _ => exact hP 7 _ rfl
    | 7, _ => exact hP 8 _ rfl
    | 8, _ => exact hP 9 _ rfl
    | 9, _ => exact hP 10 _ rfl
    | 10, _ => exact hP 11 _ rfl
    | 11, _ => exact hP 12 _ rfl
    | 12, _ => exact hP 15 _ rfl
    | 13, _ => exact hP 16 _ rfl
    | 14, _ => exact hP 17 _ rfl
    | 15, _ => exact hP 18 _ rfl
    | 16, _ => exact hP 19 _ rfl
    | 17, _ => exact hP 20 _ rfl
    | 18, _ => exact hP 21 _ rfl
    | 19, _ => exact hP 22 _ rfl
    | 20, _ => exact hP 23 _ rfl
    | 21, _ => exact hP 24 _ rfl
    | 22, _ => exact hP 25 _ rfl
    | 23, _ => exact hP 26 _ rfl
    | 24, _ => exact hP 27 _ rfl
    | 25, _ => exact hP 28 _ rfl
    | 26, _ => exact hP 29 _ rfl
    | 27, _ => exact hP 30 _ rfl
    | 28, _ => exact hP 31 _ rfl
    | 29, _ => exact hP 32 _ rfl
    | 30, _ => exact hP 33 _ rfl
    | 31, _ => exact hP 34 _ rfl
    | 32, _ => exact hP 35 _ rfl
    | 33, _ => exact hP 36 _ rfl
    | 34, _ => exact hP 37 _ rfl
    | 35, _ => exact hP 38 _ rfl
    | 36, _ => exact hP 39 _ rfl
    | 37, _ => exact hP 40 _ rfl
    | 38, _ => exact hP 41 _ rfl
    | 39, _ => exact hP 42 _ rfl
    | 40, _ => exact hP 43 _ rfl
    | 41, _ => exact hP 44 _ rfl
    | 42, _ => exact hP 45 _ rfl
    | 43, _ => exact hP 46 _ rfl
    | 44, _ => exact hP 47 _ rfl
    | 45, _ => exact hP 48 _ rfl
    | 46, _ => exact hP 49 _ rfl
    | 47, _ => exact hP 50 _ rfl
    | 48, _ => exact hP 51 _ rfl
    | 49, _ => exact hP 52 _ rfl
    | 50, _ => exact hP 53 _ rfl
    | 51, _ => exact hP 54 _ rfl
    | 52, _ => exact hP 55 _ rfl
    | 53, _ => exact hP 56 _ rfl
    | 54, _ => exact hP 57 _ rfl
    | 55, _ => exact hP 58 _ rfl
    | 56, _ => exact hP 59 _ rfl
    | 57, _ => exact hP 60 _ rfl
    | 58, _ => exact hP 61 _ rfl
    | 59, _ => exact hP 62 _ rfl
    | 60, _ => exact hP 0 _ rfl
    | 61, _ => exact hP 81 _ rfl
    | 62, _ => exact hP 82 _ rfl
    | 63, _ => exact hP 13 _ rfl
    | 64, _ =>
      exact va_atq (hP 14 _ rfl) (fun j hj => by
        match j, hj with
        | 0, _ => rfl
        | 1, _ => rfl
        | 2, _ => rfl
        | 3, _ => rfl
        | 4, _ => rfl
        | 5, _ => rfl
        | 6, _ => rfl
        | 7, _ => rfl
        | j + 8, hj => omega)
    | 65, _ => exact hP 63 _ rfl
    | 66, _ => exact hP 64 _ rfl
    | 67, _ => exact hP 65 _ rfl
    | 68, _ => exact hP 66 _ rfl
    | 69, _ => exact hP 67 _ rfl
    | 70, _ => exact hP 68 _ rfl
    | 71, _ => exact hP 69 _ rfl
    | 72, _ => exact hP 70 _ rfl
    | 73, _ => exact hP 71 _ rfl
    | 74, _ => exact hP 72 _ rfl
    | 75, _ => exact hP 73 _ rfl
    | 76, _ => exact hP 74 _ rfl
    | 77, _ => exact hP 75 _ rfl
    | 78, _ => exact hP 76 _ rfl
    | 79, _ => exact hP 77 _ rfl
    | 80, _ => exact hP 78 _ rfl
    | 81, _ => exact hP 79 _ rfl
    | 82, _ => exact hP 80 _ rfl
    | 83, _ => exact hP 83 _ rfl
    | 84, _ => exact hP 84 _ rfl
    | 85, _ => exact hP 85 _ rfl
    | 86, _ => exact hP 86 _ rfl
    | 87, _ => exact hP 87 _ rfl
    | 88, _ => exact hP 88 _ rfl
    | 89, _ => exact hP 89 _ rfl
    | 90, _ => exact hP 90 _ rfl
    | 91, _ => exact hP 91 _ rfl
    | 92, _ => exact hP 92 _ rfl
    | 93, _ => exact hP 93 _ rfl
    | 94, _ => exact hP 94 _ rfl
    | 95, _ => exact hP 95 _ rfl
    | 96, _ => exact hP 96 _ rfl
    | 97, _ => exact hP 97 _ rfl
    | 98, _ => exact hP 98 _ rfl
    | 99, _ => exact hP 99 _ rfl
    | 100, _ => exact hP 100 _ rfl
    | 101, _ => exact hP 101 _ rfl
    | 102, _ => exact hP 102 _ rfl
    | 103, _ => exact hP 103 _ rfl
    | 104, _ => exact hP 104 _ rfl
    | 105, _ => exact hP 105 _ rfl
    | 106, _ => exact va_atl (hP 106 _ rfl) (fun j hj => by
        match j, hj with
        | 0, _ => rfl
        | j + 1, hj => omega)
    | 107, _ => exact va_atd (hP 107 _ rfl) (fun j hj => by
        match j, hj with
        | 0, _ => rfl
        | j + 1, hj => omega)
    | c + 108, hc => omega
  intro k q hk
  obtain ⟨h1, rfl⟩ := wl_some hk
  exact key k h1
