def D_L_addRule (a1 : Int32) (a2 : Int32) (a3 : Int32) (σ : Sto) (x : XP) (P : Int32 → Sto × XP → Prop) : Prop :=
  D_X11_addRule a1 a2 a3 σ (fun r s => P 0 (s, (r.toInt64, x.2))) (fun E s => (E = "java/lang/IndexOutOfBoundsException" ∧ P 1 (s, x)) ∨ (E = "java/lang/IllegalArgumentException" ∧ P 2 (s, x)) ∨ (E = "java/lang/IllegalStateException" ∧ P 3 (s, x)))
def D_L_addCondition (a1 : Int32) (a2 : Int32) (a3 : Int32) (a4 : Int32) (σ : Sto) (x : XP) (P : Int32 → Sto × XP → Prop) : Prop :=
  D_X11_addCondition a1 a2 a3 a4 σ (fun r s => P 0 (s, (r.toInt64, x.2))) (fun E s => (E = "java/lang/IndexOutOfBoundsException" ∧ P 1 (s, x)) ∨ (E = "java/lang/IllegalArgumentException" ∧ P 2 (s, x)) ∨ (E = "java/lang/IllegalStateException" ∧ P 3 (s, x)))
def D_L_removeRule (a1 : Int32) (σ : Sto) (x : XP) (P : Int32 → Sto × XP → Prop) : Prop :=
  D_X11_removeRule a1 σ (fun r s => P 0 (s, (r.toInt64, x.2))) (fun E s => (E = "java/lang/IndexOutOfBoundsException" ∧ P 1 (s, x)))
def D_L_setPriority (a1 : Int32) (a2 : Int32) (σ : Sto) (x : XP) (P : Int32 → Sto × XP → Prop) : Prop :=
  D_X11_setPriority a1 a2 σ (fun r s => P 0 (s, (r.toInt64, x.2))) (fun E s => (E = "java/lang/IndexOutOfBoundsException" ∧ P 1 (s, x)) ∨ (E = "java/lang/IllegalArgumentException" ∧ P 2 (s, x)))
def D_L_setWay (a1 : Int32) (a2 : Int32) (σ : Sto) (x : XP) (P : Int32 → Sto × XP → Prop) : Prop :=
  D_X11_setWay a1 a2 σ (fun r s => P 0 (s, (r.toInt64, x.2))) (fun E s => (E = "java/lang/IndexOutOfBoundsException" ∧ P 1 (s, x)) ∨ (E = "java/lang/IllegalArgumentException" ∧ P 2 (s, x)))
def D_L_setTopWay (a1 : Int32) (σ : Sto) (x : XP) (P : Int32 → Sto × XP → Prop) : Prop :=
  D_X11_setTopWay a1 σ (fun r s => P 0 (s, (r.toInt64, x.2))) (fun E s => (E = "java/lang/IllegalArgumentException" ∧ P 1 (s, x)))
def D_L_rule (a1 : Int32) (a2 : Int32) (σ : Sto) (x : XP) (P : Int32 → Sto × XP → Prop) : Prop :=
  D_X11_rule a1 a2 σ (fun r s => P 0 (s, (r.toInt64, x.2))) (fun E s => (E = "java/lang/IndexOutOfBoundsException" ∧ P 1 (s, x)) ∨ (E = "java/lang/IllegalArgumentException" ∧ P 2 (s, x)))
def D_L_condition (a1 : Int32) (a2 : Int32) (a3 : Int32) (σ : Sto) (x : XP) (P : Int32 → Sto × XP → Prop) : Prop :=
  D_X11_condition a1 a2 a3 σ (fun r s => P 0 (s, (r.toInt64, x.2))) (fun E s => (E = "java/lang/IndexOutOfBoundsException" ∧ P 1 (s, x)) ∨ (E = "java/lang/IllegalArgumentException" ∧ P 2 (s, x)))
def D_L_specialize (a1 : Int32) (a2 : Int32) (σ : Sto) (x : XP) (P : Int32 → Sto × XP → Prop) : Prop :=
  D_X11_specialize a1 a2 σ (fun r s => P 0 (s, (r.toInt64, x.2))) (fun E s => (E = "java/lang/IndexOutOfBoundsException" ∧ P 1 (s, x)) ∨ (E = "java/lang/IllegalArgumentException" ∧ P 2 (s, x)))
def D_L_grant (a1 : Int32) (a2 : Int32) (a3 : Int32) (a4 : Int32) (a5 : Int32) (σ : Sto) (x : XP) (P : Int32 → Sto × XP → Prop) : Prop :=
  D_X11_grant a1 a2 a3 a4 a5 σ (fun r s => P 0 (s, (r.toInt64, x.2))) (fun E s => (E = "java/lang/IndexOutOfBoundsException" ∧ P 1 (s, x)) ∨ (E = "java/lang/IllegalArgumentException" ∧ P 2 (s, x)) ∨ (E = "java/lang/IllegalStateException" ∧ P 3 (s, x)))
def D_L_revoke (a1 : Int32) (a2 : Int32) (a3 : Int32) (σ : Sto) (x : XP) (P : Int32 → Sto × XP → Prop) : Prop :=
  D_X11_revoke a1 a2 a3 σ (fun r s => P 0 (s, (r.toInt64, x.2))) (fun E s => (E = "java/lang/IndexOutOfBoundsException" ∧ P 1 (s, x)) ∨ (E = "java/util/NoSuchElementException" ∧ P 2 (s, x)))
def D_L_grantAt (a1 : Int32) (a2 : Int32) (σ : Sto) (x : XP) (P : Int32 → Sto × XP → Prop) : Prop :=
  D_X11_grantAt a1 a2 σ (fun r s => P 0 (s, (r.toInt64, x.2))) (fun E s => (E = "java/lang/IndexOutOfBoundsException" ∧ P 1 (s, x)) ∨ (E = "java/lang/IllegalArgumentException" ∧ P 2 (s, x)))
def D_L_policies (a1 : Int32) (σ : Sto) (x : XP) (P : Int32 → Sto × XP → Prop) : Prop :=
  D_X11_policies a1 σ (fun r s => P 0 (s, (r.toInt64, x.2))) (fun E s => (E = "java/lang/IndexOutOfBoundsException" ∧ P 1 (s, x)))
def D_L_chainLength (a1 : Int32) (a2 : Int32) (σ : Sto) (x : XP) (P : Int32 → Sto × XP → Prop) : Prop :=
  D_X11_chainLength a1 a2 σ (fun r s => P 0 (s, (r.toInt64, x.2))) (fun E s => (E = "java/lang/IndexOutOfBoundsException" ∧ P 1 (s, x)) ∨ (E = "java/util/NoSuchElementException" ∧ P 2 (s, x)))
def D_L_chain (a1 : Int32) (a2 : Int32) (a3 : Int32) (σ : Sto) (x : XP) (P : Int32 → Sto × XP → Prop) : Prop :=
  D_X11_chain a1 a2 a3 σ (fun r s => P 0 (s, (r.toInt64, x.2))) (fun E s => (E = "java/lang/IndexOutOfBoundsException" ∧ P 1 (s, x)) ∨ (E = "java/util/NoSuchElementException" ∧ P 2 (s, x)))
def D_L_lastsUntil (a1 : Int32) (a2 : Int32) (σ : Sto) (x : XP) (P : Int32 → Sto × XP → Prop) : Prop :=
  D_X11_lastsUntil a1 a2 σ (fun r s => P 0 (s, (r.toInt64, x.2))) (fun E s => (E = "java/lang/IndexOutOfBoundsException" ∧ P 1 (s, x)) ∨ (E = "java/lang/IllegalArgumentException" ∧ P 2 (s, x)) ∨ (E = "java/util/NoSuchElementException" ∧ P 3 (s, x)))
def D_L_tick (a1 : Int32) (σ : Sto) (x : XP) (P : Int32 → Sto × XP → Prop) : Prop :=
  D_X11_tick a1 σ (fun r s => P 0 (s, (r.toInt64, x.2))) (fun E s => (E = "java/lang/IllegalArgumentException" ∧ P 1 (s, x)) ∨ (E = "java/lang/IllegalStateException" ∧ P 2 (s, x)))
def D_L_setSubject (a1 : Int32) (σ : Sto) (x : XP) (P : Int32 → Sto × XP → Prop) : Prop :=
  D_X11_setSubject a1 σ (fun r s => P 0 (s, (r.toInt64, x.2))) (fun E s => (E = "java/lang/IndexOutOfBoundsException" ∧ P 1 (s, x)))
def D_L_setValue (a1 : Int32) (a2 : Int32) (σ : Sto) (x : XP) (P : Int32 → Sto × XP → Prop) : Prop :=
  D_X11_setValue a1 a2 σ (fun r s => P 0 (s, (r.toInt64, x.2))) (fun E s => (E = "java/lang/IndexOutOfBoundsException" ∧ P 1 (s, x)) ∨ (E = "java/lang/IllegalArgumentException" ∧ P 2 (s, x)))
def D_L_applies (a1 : Int32) (σ : Sto) (x : XP) (P : Int32 → Sto × XP → Prop) : Prop :=
  D_X11_applies a1 σ (fun r s => P 0 (s, (r.toInt64, x.2))) (fun E s => (E = "java/lang/IndexOutOfBoundsException" ∧ P 1 (s, x)))
def D_L_failing (a1 : Int32) (σ : Sto) (x : XP) (P : Int32 → Sto × XP → Prop) : Prop :=
  D_X11_failing a1 σ (fun r s => P 0 (s, (r.toInt64, x.2))) (fun E s => (E = "java/lang/IndexOutOfBoundsException" ∧ P 1 (s, x)) ∨ (E = "java/util/NoSuchElementException" ∧ P 2 (s, x)))
def D_L_decide (σ : Sto) (x : XP) (P : Int32 → Sto × XP → Prop) : Prop :=
  D_X11_decide  σ (fun r s => P 0 (s, (r.toInt64, x.2))) (fun E s => (E = "java/lang/IllegalStateException" ∧ P 1 (s, x)))
def D_L_decidingRule (σ : Sto) (x : XP) (P : Int32 → Sto × XP → Prop) : Prop :=
  D_X11_decidingRule  σ (fun r s => P 0 (s, (r.toInt64, x.2))) (fun E s => (E = "java/lang/IllegalStateException" ∧ P 1 (s, x)) ∨ (E = "java/util/NoSuchElementException" ∧ P 2 (s, x)))
def D_L_policyDecision (a1 : Int32) (σ : Sto) (x : XP) (P : Int32 → Sto × XP → Prop) : Prop :=
  D_X11_policyDecision a1 σ (fun r s => P 0 (s, (r.toInt64, x.2))) (fun E s => (E = "java/lang/IndexOutOfBoundsException" ∧ P 1 (s, x)) ∨ (E = "java/lang/IllegalStateException" ∧ P 2 (s, x)))
def D_L_possible (σ : Sto) (x : XP) (P : Int32 → Sto × XP → Prop) : Prop :=
  D_X11_possible  σ (fun r s => P 0 (s, (r.toInt64, x.2))) (fun E s => (E = "java/lang/IllegalStateException" ∧ P 1 (s, x)))
def D_L_completions (a1 : Int32) (σ : Sto) (x : XP) (P : Int32 → Sto × XP → Prop) : Prop :=
  D_X11_completions a1 σ (fun r s => P 0 (s, (r.toInt64, x.2))) (fun E s => (E = "java/lang/IllegalArgumentException" ∧ P 1 (s, x)) ∨ (E = "java/lang/IllegalStateException" ∧ P 2 (s, x)))
def D_L_valuesFor (a1 : Int32) (a2 : Int32) (σ : Sto) (x : XP) (P : Int32 → Sto × XP → Prop) : Prop :=
  D_X11_valuesFor a1 a2 σ (fun r s => P 0 (s, (r.toInt64, x.2))) (fun E s => (E = "java/lang/IndexOutOfBoundsException" ∧ P 1 (s, x)) ∨ (E = "java/lang/IllegalArgumentException" ∧ P 2 (s, x)) ∨ (E = "java/lang/IllegalStateException" ∧ P 3 (s, x)))
def D_L_extent (a1 : Int32) (σ : Sto) (x : XP) (P : Int32 → Sto × XP → Prop) : Prop :=
  D_X11_extent a1 σ (fun r s => P 0 (s, (r.toInt64, x.2))) (fun E s => (E = "java/lang/IndexOutOfBoundsException" ∧ P 1 (s, x)))
def D_L_overlap (a1 : Int32) (a2 : Int32) (σ : Sto) (x : XP) (P : Int32 → Sto × XP → Prop) : Prop :=
  D_X11_overlap a1 a2 σ (fun r s => (r = 0 → P 0 (s, (0, x.2))) ∧ (¬ r = 0 → P 0 (s, (1, x.2)))) (fun E s => (E = "java/lang/IndexOutOfBoundsException" ∧ P 1 (s, x)))
def D_L_covers (a1 : Int32) (a2 : Int32) (σ : Sto) (x : XP) (P : Int32 → Sto × XP → Prop) : Prop :=
  D_X11_covers a1 a2 σ (fun r s => (r = 0 → P 0 (s, (0, x.2))) ∧ (¬ r = 0 → P 0 (s, (1, x.2)))) (fun E s => (E = "java/lang/IndexOutOfBoundsException" ∧ P 1 (s, x)))
def D_L_clashes (a1 : Int32) (σ : Sto) (x : XP) (P : Int32 → Sto × XP → Prop) : Prop :=
  D_X11_clashes a1 σ (fun r s => P 0 (s, (r.toInt64, x.2))) (fun E s => (E = "java/lang/IndexOutOfBoundsException" ∧ P 1 (s, x)))
def D_L_neverDeciding (a1 : Int32) (σ : Sto) (x : XP) (P : Int32 → Sto × XP → Prop) : Prop :=
  D_X11_neverDeciding a1 σ (fun r s => P 0 (s, (r.toInt64, x.2))) (fun E s => (E = "java/lang/IndexOutOfBoundsException" ∧ P 1 (s, x)))
def D_L_witness (a1 : Int32) (a2 : Int32) (σ : Sto) (x : XP) (P : Int32 → Sto × XP → Prop) : Prop :=
  D_X11_witness a1 a2 σ (fun r s => P 0 (s, (r.toInt64, x.2))) (fun E s => (E = "java/lang/IndexOutOfBoundsException" ∧ P 1 (s, x)) ∨ (E = "java/util/NoSuchElementException" ∧ P 2 (s, x)))
def D_L_blocker (a1 : Int32) (σ : Sto) (x : XP) (P : Int32 → Sto × XP → Prop) : Prop :=
  D_X11_blocker a1 σ (fun r s => P 0 (s, (r.toInt64, x.2))) (fun E s => (E = "java/lang/IndexOutOfBoundsException" ∧ P 1 (s, x)) ∨ (E = "java/lang/IllegalStateException" ∧ P 2 (s, x)) ∨ (E = "java/util/NoSuchElementException" ∧ P 3 (s, x)))
def D_L_audit (a1 : Int32) (a2 : Int32) (σ : Sto) (x : XP) (P : Int32 → Sto × XP → Prop) : Prop :=
  D_X11_audit a1 a2 σ (fun r s => P 0 (s, (r.toInt64, x.2))) (fun E s => (E = "java/lang/IndexOutOfBoundsException" ∧ P 1 (s, x)) ∨ (E = "java/lang/IllegalArgumentException" ∧ P 2 (s, x)))
def D_L_permitShare (σ : Sto) (x : XP) (P : Int32 → Sto × XP → Prop) : Prop :=
  D_X11_permitShare  σ (fun r s => P 0 (s, (x.1, r))) (fun E s => (E = "java/lang/ArithmeticException" ∧ P 1 (s, x)))
def D_L_append (a1 : Int32) (σ : Sto) (x : XP) (P : Int32 → Sto × XP → Prop) : Prop :=
  D_X11_append a1 σ (fun r s => P 0 (s, (r.toInt64, x.2))) (fun E s => (E = "java/lang/IllegalArgumentException" ∧ P 1 (s, x)) ∨ (E = "java/lang/IllegalStateException" ∧ P 2 (s, x)))
def D_L_read (σ : Sto) (x : XP) (P : Int32 → Sto × XP → Prop) : Prop :=
  D_X11_read  σ (fun r s => P 0 (s, (r.toInt64, x.2))) (fun E s => (E = "java/lang/IllegalArgumentException" ∧ P 1 (s, x)) ∨ (E = "java/lang/IllegalStateException" ∧ P 2 (s, x)))
def D_L_errorPosition (σ : Sto) (x : XP) (P : Int32 → Sto × XP → Prop) : Prop :=
  D_X11_errorPosition  σ (fun r s => P 0 (s, (r.toInt64, x.2))) (fun E s => (E = "java/util/NoSuchElementException" ∧ P 1 (s, x)))
def D_L_describe (a1 : Int32) (a2 : Int32) (σ : Sto) (x : XP) (P : Int32 → Sto × XP → Prop) : Prop :=
  D_X11_describe a1 a2 σ (fun r s => P 0 (s, (r.toInt64, x.2))) (fun E s => (E = "java/lang/IndexOutOfBoundsException" ∧ P 1 (s, x)) ∨ (E = "java/util/NoSuchElementException" ∧ P 2 (s, x)))
def D_L_undo (σ : Sto) (x : XP) (P : Int32 → Sto × XP → Prop) : Prop :=
  D_X11_undo  σ (fun r s => P 0 (s, (r.toInt64, x.2))) (fun E s => (E = "java/util/NoSuchElementException" ∧ P 1 (s, x)))
def D_L_restore (σ : Sto) (x : XP) (P : Int32 → Sto × XP → Prop) : Prop :=
  D_X11_restore  σ (fun r s => P 0 (s, (r.toInt64, x.2))) (fun E s => (E = "java/lang/IllegalStateException" ∧ P 1 (s, x)))
def DL_0 (xs : Nat → Int32) (i : Nat) (σ : Sto) (x : XP) (P : Sto → XP → Prop) : Prop :=
  (((xs (i + 2)) = 0 → (D_L_addRule (xs (i + 1)) 0 (xs (i + 3)) σ x (fun r280 u280 => (((xs (i + 2)) = 0 → (D_X12_addRule (xs (i + 1)) 0 (xs (i + 3)) u280.1 (fun r312 s312 => (D_X12_thrown s312 (fun r318 s318 => ((r318 = r280 → ((r280 = 0 → (((lg_cmp u280.2.1 ((r312).toInt64)) = 0 → (P s318 u280.2)) ∧ (¬ (lg_cmp u280.2.1 ((r312).toInt64)) = 0 → False))) ∧ (¬ r280 = 0 → (P s318 u280.2)))) ∧ (¬ r318 = r280 → False))))))) ∧ (¬ (xs (i + 2)) = 0 → (D_X12_addRule (xs (i + 1)) 1 (xs (i + 3)) u280.1 (fun r312 s312 => (D_X12_thrown s312 (fun r318 s318 => ((r318 = r280 → ((r280 = 0 → (((lg_cmp u280.2.1 ((r312).toInt64)) = 0 → (P s318 u280.2)) ∧ (¬ (lg_cmp u280.2.1 ((r312).toInt64)) = 0 → False))) ∧ (¬ r280 = 0 → (P s318 u280.2)))) ∧ (¬ r318 = r280 → False))))))))))) ∧ (¬ (xs (i + 2)) = 0 → (D_L_addRule (xs (i + 1)) 1 (xs (i + 3)) σ x (fun r280 u280 => (((xs (i + 2)) = 0 → (D_X12_addRule (xs (i + 1)) 0 (xs (i + 3)) u280.1 (fun r312 s312 => (D_X12_thrown s312 (fun r318 s318 => ((r318 = r280 → ((r280 = 0 → (((lg_cmp u280.2.1 ((r312).toInt64)) = 0 → (P s318 u280.2)) ∧ (¬ (lg_cmp u280.2.1 ((r312).toInt64)) = 0 → False))) ∧ (¬ r280 = 0 → (P s318 u280.2)))) ∧ (¬ r318 = r280 → False))))))) ∧ (¬ (xs (i + 2)) = 0 → (D_X12_addRule (xs (i + 1)) 1 (xs (i + 3)) u280.1 (fun r312 s312 => (D_X12_thrown s312 (fun r318 s318 => ((r318 = r280 → ((r280 = 0 → (((lg_cmp u280.2.1 ((r312).toInt64)) = 0 → (P s318 u280.2)) ∧ (¬ (lg_cmp u280.2.1 ((r312).toInt64)) = 0 → False))) ∧ (¬ r280 = 0 → (P s318 u280.2)))) ∧ (¬ r318 = r280 → False))))))))))))
def DL_1 (xs : Nat → Int32) (i : Nat) (σ : Sto) (x : XP) (P : Sto → XP → Prop) : Prop :=
  (D_L_addCondition (xs (i + 1)) (xs (i + 2)) (xs (i + 3)) (xs (i + 4)) σ x (fun r374 u374 => (D_X12_addCondition (xs (i + 1)) (xs (i + 2)) (xs (i + 3)) (xs (i + 4)) u374.1 (fun r404 s404 => (D_X12_thrown s404 (fun r410 s410 => ((r410 = r374 → ((r374 = 0 → (((lg_cmp u374.2.1 ((r404).toInt64)) = 0 → (P s410 u374.2)) ∧ (¬ (lg_cmp u374.2.1 ((r404).toInt64)) = 0 → False))) ∧ (¬ r374 = 0 → (P s410 u374.2)))) ∧ (¬ r410 = r374 → False))))))))
def DL_2 (xs : Nat → Int32) (i : Nat) (σ : Sto) (x : XP) (P : Sto → XP → Prop) : Prop :=
  (D_L_removeRule (xs (i + 1)) σ x (fun r448 u448 => (D_X12_removeRule (xs (i + 1)) u448.1 (fun r460 s460 => (D_X12_thrown s460 (fun r466 s466 => ((r466 = r448 → ((r448 = 0 → (((lg_cmp u448.2.1 ((r460).toInt64)) = 0 → (P s466 u448.2)) ∧ (¬ (lg_cmp u448.2.1 ((r460).toInt64)) = 0 → False))) ∧ (¬ r448 = 0 → (P s466 u448.2)))) ∧ (¬ r466 = r448 → False))))))))
def DL_3 (xs : Nat → Int32) (i : Nat) (σ : Sto) (x : XP) (P : Sto → XP → Prop) : Prop :=
  (D_L_setPriority (xs (i + 1)) (xs (i + 2)) σ x (fun r510 u510 => (D_X12_setPriority (xs (i + 1)) (xs (i + 2)) u510.1 (fun r528 s528 => (D_X12_thrown s528 (fun r534 s534 => ((r534 = r510 → ((r510 = 0 → (((lg_cmp u510.2.1 ((r528).toInt64)) = 0 → (P s534 u510.2)) ∧ (¬ (lg_cmp u510.2.1 ((r528).toInt64)) = 0 → False))) ∧ (¬ r510 = 0 → (P s534 u510.2)))) ∧ (¬ r534 = r510 → False))))))))
def DL_4 (xs : Nat → Int32) (i : Nat) (σ : Sto) (x : XP) (P : Sto → XP → Prop) : Prop :=
  (D_L_setWay (xs (i + 1)) (xs (i + 2)) σ x (fun r578 u578 => (D_X12_setWay (xs (i + 1)) (xs (i + 2)) u578.1 (fun r596 s596 => (D_X12_thrown s596 (fun r602 s602 => ((r602 = r578 → ((r578 = 0 → (((lg_cmp u578.2.1 ((r596).toInt64)) = 0 → (P s602 u578.2)) ∧ (¬ (lg_cmp u578.2.1 ((r596).toInt64)) = 0 → False))) ∧ (¬ r578 = 0 → (P s602 u578.2)))) ∧ (¬ r602 = r578 → False))))))))
def DL_5 (xs : Nat → Int32) (i : Nat) (σ : Sto) (x : XP) (P : Sto → XP → Prop) : Prop :=
  (D_L_setTopWay (xs (i + 1)) σ x (fun r640 u640 => (D_X12_setTopWay (xs (i + 1)) u640.1 (fun r652 s652 => (D_X12_thrown s652 (fun r658 s658 => ((r658 = r640 → ((r640 = 0 → (((lg_cmp u640.2.1 ((r652).toInt64)) = 0 → (P s658 u640.2)) ∧ (¬ (lg_cmp u640.2.1 ((r652).toInt64)) = 0 → False))) ∧ (¬ r640 = 0 → (P s658 u640.2)))) ∧ (¬ r658 = r640 → False))))))))
def DL_6 (xs : Nat → Int32) (i : Nat) (σ : Sto) (x : XP) (P : Sto → XP → Prop) : Prop :=
  (D_X11_ruleCount σ (fun r689 s689 => (D_X12_ruleCount s689 (fun r693 s693 => ((r689 = r693 → (P s693 x)) ∧ (¬ r689 = r693 → False))))))
def DL_7 (xs : Nat → Int32) (i : Nat) (σ : Sto) (x : XP) (P : Sto → XP → Prop) : Prop :=
  (D_L_rule (xs (i + 1)) (xs (i + 2)) σ x (fun r715 u715 => (D_X12_rule (xs (i + 1)) (xs (i + 2)) u715.1 (fun r733 s733 => (D_X12_thrown s733 (fun r739 s739 => ((r739 = r715 → ((r715 = 0 → (((lg_cmp u715.2.1 ((r733).toInt64)) = 0 → (P s739 u715.2)) ∧ (¬ (lg_cmp u715.2.1 ((r733).toInt64)) = 0 → False))) ∧ (¬ r715 = 0 → (P s739 u715.2)))) ∧ (¬ r739 = r715 → False))))))))
def DL_8 (xs : Nat → Int32) (i : Nat) (σ : Sto) (x : XP) (P : Sto → XP → Prop) : Prop :=
  (D_L_condition (xs (i + 1)) (xs (i + 2)) (xs (i + 3)) σ x (fun r789 u789 => (D_X12_condition (xs (i + 1)) (xs (i + 2)) (xs (i + 3)) u789.1 (fun r813 s813 => (D_X12_thrown s813 (fun r819 s819 => ((r819 = r789 → ((r789 = 0 → (((lg_cmp u789.2.1 ((r813).toInt64)) = 0 → (P s819 u789.2)) ∧ (¬ (lg_cmp u789.2.1 ((r813).toInt64)) = 0 → False))) ∧ (¬ r789 = 0 → (P s819 u789.2)))) ∧ (¬ r819 = r789 → False))))))))
def DL_9 (xs : Nat → Int32) (i : Nat) (σ : Sto) (x : XP) (P : Sto → XP → Prop) : Prop :=
  (D_L_specialize (xs (i + 1)) (xs (i + 2)) σ x (fun r863 u863 => (D_X12_specialize (xs (i + 1)) (xs (i + 2)) u863.1 (fun r881 s881 => (D_X12_thrown s881 (fun r887 s887 => ((r887 = r863 → ((r863 = 0 → (((lg_cmp u863.2.1 ((r881).toInt64)) = 0 → (P s887 u863.2)) ∧ (¬ (lg_cmp u863.2.1 ((r881).toInt64)) = 0 → False))) ∧ (¬ r863 = 0 → (P s887 u863.2)))) ∧ (¬ r887 = r863 → False))))))))
def DL_10 (xs : Nat → Int32) (i : Nat) (σ : Sto) (x : XP) (P : Sto → XP → Prop) : Prop :=
  (D_L_grant (xs (i + 1)) (xs (i + 2)) (xs (i + 3)) (xs (i + 4)) (xs (i + 5)) σ x (fun r949 u949 => (D_X12_grant (xs (i + 1)) (xs (i + 2)) (xs (i + 3)) (xs (i + 4)) (xs (i + 5)) u949.1 (fun r985 s985 => (D_X12_thrown s985 (fun r991 s991 => ((r991 = r949 → ((r949 = 0 → (((lg_cmp u949.2.1 ((r985).toInt64)) = 0 → (P s991 u949.2)) ∧ (¬ (lg_cmp u949.2.1 ((r985).toInt64)) = 0 → False))) ∧ (¬ r949 = 0 → (P s991 u949.2)))) ∧ (¬ r991 = r949 → False))))))))
def DL_11 (xs : Nat → Int32) (i : Nat) (σ : Sto) (x : XP) (P : Sto → XP → Prop) : Prop :=
  (D_L_revoke (xs (i + 1)) (xs (i + 2)) (xs (i + 3)) σ x (fun r1041 u1041 => (D_X12_revoke (xs (i + 1)) (xs (i + 2)) (xs (i + 3)) u1041.1 (fun r1065 s1065 => (D_X12_thrown s1065 (fun r1071 s1071 => ((r1071 = r1041 → ((r1041 = 0 → (((lg_cmp u1041.2.1 ((r1065).toInt64)) = 0 → (P s1071 u1041.2)) ∧ (¬ (lg_cmp u1041.2.1 ((r1065).toInt64)) = 0 → False))) ∧ (¬ r1041 = 0 → (P s1071 u1041.2)))) ∧ (¬ r1071 = r1041 → False))))))))
def DL_12 (xs : Nat → Int32) (i : Nat) (σ : Sto) (x : XP) (P : Sto → XP → Prop) : Prop :=
  (((xs (i + 1)) = 0 → (D_X11_grantCount 0 σ (fun r1116 s1116 => (((xs (i + 1)) = 0 → (D_X12_grantCount 0 s1116 (fun r1134 s1134 => ((r1116 = r1134 → (P s1134 x)) ∧ (¬ r1116 = r1134 → False))))) ∧ (¬ (xs (i + 1)) = 0 → (D_X12_grantCount 1 s1116 (fun r1134 s1134 => ((r1116 = r1134 → (P s1134 x)) ∧ (¬ r1116 = r1134 → False))))))))) ∧ (¬ (xs (i + 1)) = 0 → (D_X11_grantCount 1 σ (fun r1116 s1116 => (((xs (i + 1)) = 0 → (D_X12_grantCount 0 s1116 (fun r1134 s1134 => ((r1116 = r1134 → (P s1134 x)) ∧ (¬ r1116 = r1134 → False))))) ∧ (¬ (xs (i + 1)) = 0 → (D_X12_grantCount 1 s1116 (fun r1134 s1134 => ((r1116 = r1134 → (P s1134 x)) ∧ (¬ r1116 = r1134 → False))))))))))
def DL_13 (xs : Nat → Int32) (i : Nat) (σ : Sto) (x : XP) (P : Sto → XP → Prop) : Prop :=
  (D_L_grantAt (xs (i + 1)) (xs (i + 2)) σ x (fun r1156 u1156 => (D_X12_grantAt (xs (i + 1)) (xs (i + 2)) u1156.1 (fun r1174 s1174 => (D_X12_thrown s1174 (fun r1180 s1180 => ((r1180 = r1156 → ((r1156 = 0 → (((lg_cmp u1156.2.1 ((r1174).toInt64)) = 0 → (P s1180 u1156.2)) ∧ (¬ (lg_cmp u1156.2.1 ((r1174).toInt64)) = 0 → False))) ∧ (¬ r1156 = 0 → (P s1180 u1156.2)))) ∧ (¬ r1180 = r1156 → False))))))))
def DL_14 (xs : Nat → Int32) (i : Nat) (σ : Sto) (x : XP) (P : Sto → XP → Prop) : Prop :=
  (D_L_policies (xs (i + 1)) σ x (fun r1218 u1218 => (D_X12_policies (xs (i + 1)) u1218.1 (fun r1230 s1230 => (D_X12_thrown s1230 (fun r1236 s1236 => ((r1236 = r1218 → ((r1218 = 0 → (((lg_cmp u1218.2.1 ((r1230).toInt64)) = 0 → (P s1236 u1218.2)) ∧ (¬ (lg_cmp u1218.2.1 ((r1230).toInt64)) = 0 → False))) ∧ (¬ r1218 = 0 → (P s1236 u1218.2)))) ∧ (¬ r1236 = r1218 → False))))))))
def DL_15 (xs : Nat → Int32) (i : Nat) (σ : Sto) (x : XP) (P : Sto → XP → Prop) : Prop :=
  (D_L_chainLength (xs (i + 1)) (xs (i + 2)) σ x (fun r1280 u1280 => (D_X12_chainLength (xs (i + 1)) (xs (i + 2)) u1280.1 (fun r1298 s1298 => (D_X12_thrown s1298 (fun r1304 s1304 => ((r1304 = r1280 → ((r1280 = 0 → (((lg_cmp u1280.2.1 ((r1298).toInt64)) = 0 → (P s1304 u1280.2)) ∧ (¬ (lg_cmp u1280.2.1 ((r1298).toInt64)) = 0 → False))) ∧ (¬ r1280 = 0 → (P s1304 u1280.2)))) ∧ (¬ r1304 = r1280 → False))))))))
def DL_16 (xs : Nat → Int32) (i : Nat) (σ : Sto) (x : XP) (P : Sto → XP → Prop) : Prop :=
  (D_L_chain (xs (i + 1)) (xs (i + 2)) (xs (i + 3)) σ x (fun r1354 u1354 => (D_X12_chain (xs (i + 1)) (xs (i + 2)) (xs (i + 3)) u1354.1 (fun r1378 s1378 => (D_X12_thrown s1378 (fun r1384 s1384 => ((r1384 = r1354 → ((r1354 = 0 → (((lg_cmp u1354.2.1 ((r1378).toInt64)) = 0 → (P s1384 u1354.2)) ∧ (¬ (lg_cmp u1354.2.1 ((r1378).toInt64)) = 0 → False))) ∧ (¬ r1354 = 0 → (P s1384 u1354.2)))) ∧ (¬ r1384 = r1354 → False))))))))
def DL_17 (xs : Nat → Int32) (i : Nat) (σ : Sto) (x : XP) (P : Sto → XP → Prop) : Prop :=
  (D_L_lastsUntil (xs (i + 1)) (xs (i + 2)) σ x (fun r1428 u1428 => (D_X12_lastsUntil (xs (i + 1)) (xs (i + 2)) u1428.1 (fun r1446 s1446 => (D_X12_thrown s1446 (fun r1452 s1452 => ((r1452 = r1428 → ((r1428 = 0 → (((lg_cmp u1428.2.1 ((r1446).toInt64)) = 0 → (P s1452 u1428.2)) ∧ (¬ (lg_cmp u1428.2.1 ((r1446).toInt64)) = 0 → False))) ∧ (¬ r1428 = 0 → (P s1452 u1428.2)))) ∧ (¬ r1452 = r1428 → False))))))))
def DL_18 (xs : Nat → Int32) (i : Nat) (σ : Sto) (x : XP) (P : Sto → XP → Prop) : Prop :=
  (D_L_tick (xs (i + 1)) σ x (fun r1490 u1490 => (D_X12_tick (xs (i + 1)) u1490.1 (fun r1502 s1502 => (D_X12_thrown s1502 (fun r1508 s1508 => ((r1508 = r1490 → ((r1490 = 0 → (((lg_cmp u1490.2.1 ((r1502).toInt64)) = 0 → (P s1508 u1490.2)) ∧ (¬ (lg_cmp u1490.2.1 ((r1502).toInt64)) = 0 → False))) ∧ (¬ r1490 = 0 → (P s1508 u1490.2)))) ∧ (¬ r1508 = r1490 → False))))))))
def DL_19 (xs : Nat → Int32) (i : Nat) (σ : Sto) (x : XP) (P : Sto → XP → Prop) : Prop :=
  (D_L_setSubject (xs (i + 1)) σ x (fun r1546 u1546 => (D_X12_setSubject (xs (i + 1)) u1546.1 (fun r1558 s1558 => (D_X12_thrown s1558 (fun r1564 s1564 => ((r1564 = r1546 → ((r1546 = 0 → (((lg_cmp u1546.2.1 ((r1558).toInt64)) = 0 → (P s1564 u1546.2)) ∧ (¬ (lg_cmp u1546.2.1 ((r1558).toInt64)) = 0 → False))) ∧ (¬ r1546 = 0 → (P s1564 u1546.2)))) ∧ (¬ r1564 = r1546 → False))))))))
def DL_20 (xs : Nat → Int32) (i : Nat) (σ : Sto) (x : XP) (P : Sto → XP → Prop) : Prop :=
  (D_L_setValue (xs (i + 1)) (xs (i + 2)) σ x (fun r1608 u1608 => (D_X12_setValue (xs (i + 1)) (xs (i + 2)) u1608.1 (fun r1626 s1626 => (D_X12_thrown s1626 (fun r1632 s1632 => ((r1632 = r1608 → ((r1608 = 0 → (((lg_cmp u1608.2.1 ((r1626).toInt64)) = 0 → (P s1632 u1608.2)) ∧ (¬ (lg_cmp u1608.2.1 ((r1626).toInt64)) = 0 → False))) ∧ (¬ r1608 = 0 → (P s1632 u1608.2)))) ∧ (¬ r1632 = r1608 → False))))))))
def DL_21 (xs : Nat → Int32) (i : Nat) (σ : Sto) (x : XP) (P : Sto → XP → Prop) : Prop :=
  (D_X11_unknown σ (fun r1663 s1663 => (D_X12_unknown s1663 (fun r1667 s1667 => ((r1663 = r1667 → (P s1667 x)) ∧ (¬ r1663 = r1667 → False))))))
def DL_22 (xs : Nat → Int32) (i : Nat) (σ : Sto) (x : XP) (P : Sto → XP → Prop) : Prop :=
  (D_L_applies (xs (i + 1)) σ x (fun r1683 u1683 => (D_X12_applies (xs (i + 1)) u1683.1 (fun r1695 s1695 => (D_X12_thrown s1695 (fun r1701 s1701 => ((r1701 = r1683 → ((r1683 = 0 → (((lg_cmp u1683.2.1 ((r1695).toInt64)) = 0 → (P s1701 u1683.2)) ∧ (¬ (lg_cmp u1683.2.1 ((r1695).toInt64)) = 0 → False))) ∧ (¬ r1683 = 0 → (P s1701 u1683.2)))) ∧ (¬ r1701 = r1683 → False))))))))
def DL_23 (xs : Nat → Int32) (i : Nat) (σ : Sto) (x : XP) (P : Sto → XP → Prop) : Prop :=
  (D_L_failing (xs (i + 1)) σ x (fun r1739 u1739 => (D_X12_failing (xs (i + 1)) u1739.1 (fun r1751 s1751 => (D_X12_thrown s1751 (fun r1757 s1757 => ((r1757 = r1739 → ((r1739 = 0 → (((lg_cmp u1739.2.1 ((r1751).toInt64)) = 0 → (P s1757 u1739.2)) ∧ (¬ (lg_cmp u1739.2.1 ((r1751).toInt64)) = 0 → False))) ∧ (¬ r1739 = 0 → (P s1757 u1739.2)))) ∧ (¬ r1757 = r1739 → False))))))))
def DL_24 (xs : Nat → Int32) (i : Nat) (σ : Sto) (x : XP) (P : Sto → XP → Prop) : Prop :=
  (D_L_decide σ x (fun r1789 u1789 => (D_X12_decide u1789.1 (fun r1795 s1795 => (D_X12_thrown s1795 (fun r1801 s1801 => ((r1801 = r1789 → ((r1789 = 0 → (((lg_cmp u1789.2.1 ((r1795).toInt64)) = 0 → (P s1801 u1789.2)) ∧ (¬ (lg_cmp u1789.2.1 ((r1795).toInt64)) = 0 → False))) ∧ (¬ r1789 = 0 → (P s1801 u1789.2)))) ∧ (¬ r1801 = r1789 → False))))))))
def DL_25 (xs : Nat → Int32) (i : Nat) (σ : Sto) (x : XP) (P : Sto → XP → Prop) : Prop :=
  (D_L_decidingRule σ x (fun r1833 u1833 => (D_X12_decidingRule u1833.1 (fun r1839 s1839 => (D_X12_thrown s1839 (fun r1845 s1845 => ((r1845 = r1833 → ((r1833 = 0 → (((lg_cmp u1833.2.1 ((r1839).toInt64)) = 0 → (P s1845 u1833.2)) ∧ (¬ (lg_cmp u1833.2.1 ((r1839).toInt64)) = 0 → False))) ∧ (¬ r1833 = 0 → (P s1845 u1833.2)))) ∧ (¬ r1845 = r1833 → False))))))))
def DL_26 (xs : Nat → Int32) (i : Nat) (σ : Sto) (x : XP) (P : Sto → XP → Prop) : Prop :=
  (D_L_policyDecision (xs (i + 1)) σ x (fun r1883 u1883 => (D_X12_policyDecision (xs (i + 1)) u1883.1 (fun r1895 s1895 => (D_X12_thrown s1895 (fun r1901 s1901 => ((r1901 = r1883 → ((r1883 = 0 → (((lg_cmp u1883.2.1 ((r1895).toInt64)) = 0 → (P s1901 u1883.2)) ∧ (¬ (lg_cmp u1883.2.1 ((r1895).toInt64)) = 0 → False))) ∧ (¬ r1883 = 0 → (P s1901 u1883.2)))) ∧ (¬ r1901 = r1883 → False))))))))
def DL_27 (xs : Nat → Int32) (i : Nat) (σ : Sto) (x : XP) (P : Sto → XP → Prop) : Prop :=
  (D_L_possible σ x (fun r1933 u1933 => (D_X12_possible u1933.1 (fun r1939 s1939 => (D_X12_thrown s1939 (fun r1945 s1945 => ((r1945 = r1933 → ((r1933 = 0 → (((lg_cmp u1933.2.1 ((r1939).toInt64)) = 0 → (P s1945 u1933.2)) ∧ (¬ (lg_cmp u1933.2.1 ((r1939).toInt64)) = 0 → False))) ∧ (¬ r1933 = 0 → (P s1945 u1933.2)))) ∧ (¬ r1945 = r1933 → False))))))))
def DL_28 (xs : Nat → Int32) (i : Nat) (σ : Sto) (x : XP) (P : Sto → XP → Prop) : Prop :=
  (D_L_completions (xs (i + 1)) σ x (fun r1983 u1983 => (D_X12_completions (xs (i + 1)) u1983.1 (fun r1995 s1995 => (D_X12_thrown s1995 (fun r2001 s2001 => ((r2001 = r1983 → ((r1983 = 0 → (((lg_cmp u1983.2.1 ((r1995).toInt64)) = 0 → (P s2001 u1983.2)) ∧ (¬ (lg_cmp u1983.2.1 ((r1995).toInt64)) = 0 → False))) ∧ (¬ r1983 = 0 → (P s2001 u1983.2)))) ∧ (¬ r2001 = r1983 → False))))))))
def DL_29 (xs : Nat → Int32) (i : Nat) (σ : Sto) (x : XP) (P : Sto → XP → Prop) : Prop :=
  (D_L_valuesFor (xs (i + 1)) (xs (i + 2)) σ x (fun r2045 u2045 => (D_X12_valuesFor (xs (i + 1)) (xs (i + 2)) u2045.1 (fun r2063 s2063 => (D_X12_thrown s2063 (fun r2069 s2069 => ((r2069 = r2045 → ((r2045 = 0 → (((lg_cmp u2045.2.1 ((r2063).toInt64)) = 0 → (P s2069 u2045.2)) ∧ (¬ (lg_cmp u2045.2.1 ((r2063).toInt64)) = 0 → False))) ∧ (¬ r2045 = 0 → (P s2069 u2045.2)))) ∧ (¬ r2069 = r2045 → False))))))))
def DL_30 (xs : Nat → Int32) (i : Nat) (σ : Sto) (x : XP) (P : Sto → XP → Prop) : Prop :=
  (D_L_extent (xs (i + 1)) σ x (fun r2107 u2107 => (D_X12_extent (xs (i + 1)) u2107.1 (fun r2119 s2119 => (D_X12_thrown s2119 (fun r2125 s2125 => ((r2125 = r2107 → ((r2107 = 0 → (((lg_cmp u2107.2.1 ((r2119).toInt64)) = 0 → (P s2125 u2107.2)) ∧ (¬ (lg_cmp u2107.2.1 ((r2119).toInt64)) = 0 → False))) ∧ (¬ r2107 = 0 → (P s2125 u2107.2)))) ∧ (¬ r2125 = r2107 → False))))))))
def DL_31 (xs : Nat → Int32) (i : Nat) (σ : Sto) (x : XP) (P : Sto → XP → Prop) : Prop :=
  (D_L_overlap (xs (i + 1)) (xs (i + 2)) σ x (fun r2169 u2169 => (D_X12_overlap (xs (i + 1)) (xs (i + 2)) u2169.1 (fun r2187 s2187 => (D_X12_thrown s2187 (fun r2193 s2193 => ((r2193 = r2169 → ((r2169 = 0 → ((r2187 = 0 → (((lg_cmp u2169.2.1 (0 : Int64)) = 0 → (P s2193 u2169.2)) ∧ (¬ (lg_cmp u2169.2.1 (0 : Int64)) = 0 → False))) ∧ (¬ r2187 = 0 → (((lg_cmp u2169.2.1 (1 : Int64)) = 0 → (P s2193 u2169.2)) ∧ (¬ (lg_cmp u2169.2.1 (1 : Int64)) = 0 → False))))) ∧ (¬ r2169 = 0 → (P s2193 u2169.2)))) ∧ (¬ r2193 = r2169 → False))))))))
def DL_32 (xs : Nat → Int32) (i : Nat) (σ : Sto) (x : XP) (P : Sto → XP → Prop) : Prop :=
  (D_L_covers (xs (i + 1)) (xs (i + 2)) σ x (fun r2244 u2244 => (D_X12_covers (xs (i + 1)) (xs (i + 2)) u2244.1 (fun r2262 s2262 => (D_X12_thrown s2262 (fun r2268 s2268 => ((r2268 = r2244 → ((r2244 = 0 → ((r2262 = 0 → (((lg_cmp u2244.2.1 (0 : Int64)) = 0 → (P s2268 u2244.2)) ∧ (¬ (lg_cmp u2244.2.1 (0 : Int64)) = 0 → False))) ∧ (¬ r2262 = 0 → (((lg_cmp u2244.2.1 (1 : Int64)) = 0 → (P s2268 u2244.2)) ∧ (¬ (lg_cmp u2244.2.1 (1 : Int64)) = 0 → False))))) ∧ (¬ r2244 = 0 → (P s2268 u2244.2)))) ∧ (¬ r2268 = r2244 → False))))))))
def DL_33 (xs : Nat → Int32) (i : Nat) (σ : Sto) (x : XP) (P : Sto → XP → Prop) : Prop :=
  (D_L_clashes (xs (i + 1)) σ x (fun r2313 u2313 => (D_X12_clashes (xs (i + 1)) u2313.1 (fun r2325 s2325 => (D_X12_thrown s2325 (fun r2331 s2331 => ((r2331 = r2313 → ((r2313 = 0 → (((lg_cmp u2313.2.1 ((r2325).toInt64)) = 0 → (P s2331 u2313.2)) ∧ (¬ (lg_cmp u2313.2.1 ((r2325).toInt64)) = 0 → False))) ∧ (¬ r2313 = 0 → (P s2331 u2313.2)))) ∧ (¬ r2331 = r2313 → False))))))))
def DL_34 (xs : Nat → Int32) (i : Nat) (σ : Sto) (x : XP) (P : Sto → XP → Prop) : Prop :=
  (D_L_neverDeciding (xs (i + 1)) σ x (fun r2369 u2369 => (D_X12_neverDeciding (xs (i + 1)) u2369.1 (fun r2381 s2381 => (D_X12_thrown s2381 (fun r2387 s2387 => ((r2387 = r2369 → ((r2369 = 0 → (((lg_cmp u2369.2.1 ((r2381).toInt64)) = 0 → (P s2387 u2369.2)) ∧ (¬ (lg_cmp u2369.2.1 ((r2381).toInt64)) = 0 → False))) ∧ (¬ r2369 = 0 → (P s2387 u2369.2)))) ∧ (¬ r2387 = r2369 → False))))))))
def DL_35 (xs : Nat → Int32) (i : Nat) (σ : Sto) (x : XP) (P : Sto → XP → Prop) : Prop :=
  (D_L_witness (xs (i + 1)) (xs (i + 2)) σ x (fun r2431 u2431 => (D_X12_witness (xs (i + 1)) (xs (i + 2)) u2431.1 (fun r2449 s2449 => (D_X12_thrown s2449 (fun r2455 s2455 => ((r2455 = r2431 → ((r2431 = 0 → (((lg_cmp u2431.2.1 ((r2449).toInt64)) = 0 → (P s2455 u2431.2)) ∧ (¬ (lg_cmp u2431.2.1 ((r2449).toInt64)) = 0 → False))) ∧ (¬ r2431 = 0 → (P s2455 u2431.2)))) ∧ (¬ r2455 = r2431 → False))))))))
def DL_36 (xs : Nat → Int32) (i : Nat) (σ : Sto) (x : XP) (P : Sto → XP → Prop) : Prop :=
  (D_L_blocker (xs (i + 1)) σ x (fun r2493 u2493 => (D_X12_blocker (xs (i + 1)) u2493.1 (fun r2505 s2505 => (D_X12_thrown s2505 (fun r2511 s2511 => ((r2511 = r2493 → ((r2493 = 0 → (((lg_cmp u2493.2.1 ((r2505).toInt64)) = 0 → (P s2511 u2493.2)) ∧ (¬ (lg_cmp u2493.2.1 ((r2505).toInt64)) = 0 → False))) ∧ (¬ r2493 = 0 → (P s2511 u2493.2)))) ∧ (¬ r2511 = r2493 → False))))))))
def DL_37 (xs : Nat → Int32) (i : Nat) (σ : Sto) (x : XP) (P : Sto → XP → Prop) : Prop :=
  (D_X11_auditCount σ (fun r2542 s2542 => (D_X12_auditCount s2542 (fun r2546 s2546 => ((r2542 = r2546 → (P s2546 x)) ∧ (¬ r2542 = r2546 → False))))))
def DL_38 (xs : Nat → Int32) (i : Nat) (σ : Sto) (x : XP) (P : Sto → XP → Prop) : Prop :=
  (D_L_audit (xs (i + 1)) (xs (i + 2)) σ x (fun r2568 u2568 => (D_X12_audit (xs (i + 1)) (xs (i + 2)) u2568.1 (fun r2586 s2586 => (D_X12_thrown s2586 (fun r2592 s2592 => ((r2592 = r2568 → ((r2568 = 0 → (((lg_cmp u2568.2.1 ((r2586).toInt64)) = 0 → (P s2592 u2568.2)) ∧ (¬ (lg_cmp u2568.2.1 ((r2586).toInt64)) = 0 → False))) ∧ (¬ r2568 = 0 → (P s2592 u2568.2)))) ∧ (¬ r2592 = r2568 → False))))))))
def DL_39 (xs : Nat → Int32) (i : Nat) (σ : Sto) (x : XP) (P : Sto → XP → Prop) : Prop :=
  (D_L_permitShare σ x (fun r2625 u2625 => (D_X12_permitShare u2625.1 (fun r2631 s2631 => (D_X12_thrown s2631 (fun r2637 s2637 => ((r2637 = r2625 → ((r2625 = 0 → (((Op.cmpValue (FP.dcmp u2625.2.2 r2631) .l) = 0 → (P s2637 u2625.2)) ∧ (¬ (Op.cmpValue (FP.dcmp u2625.2.2 r2631) .l) = 0 → (((Op.cmpValue (FP.dcmp u2625.2.2 u2625.2.2) .l) = 0 → False) ∧ (¬ (Op.cmpValue (FP.dcmp u2625.2.2 u2625.2.2) .l) = 0 → (((Op.cmpValue (FP.dcmp r2631 r2631) .l) = 0 → False) ∧ (¬ (Op.cmpValue (FP.dcmp r2631 r2631) .l) = 0 → (P s2637 u2625.2)))))))) ∧ (¬ r2625 = 0 → (P s2637 u2625.2)))) ∧ (¬ r2637 = r2625 → False))))))))
def DL_40 (xs : Nat → Int32) (i : Nat) (σ : Sto) (x : XP) (P : Sto → XP → Prop) : Prop :=
  (D_X11_clearAudit σ (fun r2688 s2688 => (D_X12_clearAudit s2688 (fun r2692 s2692 => ((r2688 = r2692 → (P s2692 x)) ∧ (¬ r2688 = r2692 → False))))))
def DL_41 (xs : Nat → Int32) (i : Nat) (σ : Sto) (x : XP) (P : Sto → XP → Prop) : Prop :=
  (D_L_append (((xs (i + 1)).toUInt32 % 65536).toInt32) σ x (fun r2709 u2709 => (D_X12_append (((xs (i + 1)).toUInt32 % 65536).toInt32) u2709.1 (fun r2722 s2722 => (D_X12_thrown s2722 (fun r2728 s2728 => ((r2728 = r2709 → ((r2709 = 0 → (((lg_cmp u2709.2.1 ((r2722).toInt64)) = 0 → (P s2728 u2709.2)) ∧ (¬ (lg_cmp u2709.2.1 ((r2722).toInt64)) = 0 → False))) ∧ (¬ r2709 = 0 → (P s2728 u2709.2)))) ∧ (¬ r2728 = r2709 → False))))))))
def DL_42 (xs : Nat → Int32) (i : Nat) (σ : Sto) (x : XP) (P : Sto → XP → Prop) : Prop :=
  (D_L_read σ x (fun r2760 u2760 => (D_X12_read u2760.1 (fun r2766 s2766 => (D_X12_thrown s2766 (fun r2772 s2772 => ((r2772 = r2760 → ((r2760 = 0 → (((lg_cmp u2760.2.1 ((r2766).toInt64)) = 0 → (P s2772 u2760.2)) ∧ (¬ (lg_cmp u2760.2.1 ((r2766).toInt64)) = 0 → False))) ∧ (¬ r2760 = 0 → (P s2772 u2760.2)))) ∧ (¬ r2772 = r2760 → False))))))))
def DL_43 (xs : Nat → Int32) (i : Nat) (σ : Sto) (x : XP) (P : Sto → XP → Prop) : Prop :=
  (D_L_errorPosition σ x (fun r2804 u2804 => (D_X12_errorPosition u2804.1 (fun r2810 s2810 => (D_X12_thrown s2810 (fun r2816 s2816 => ((r2816 = r2804 → ((r2804 = 0 → (((lg_cmp u2804.2.1 ((r2810).toInt64)) = 0 → (P s2816 u2804.2)) ∧ (¬ (lg_cmp u2804.2.1 ((r2810).toInt64)) = 0 → False))) ∧ (¬ r2804 = 0 → (P s2816 u2804.2)))) ∧ (¬ r2816 = r2804 → False))))))))
def DL_44 (xs : Nat → Int32) (i : Nat) (σ : Sto) (x : XP) (P : Sto → XP → Prop) : Prop :=
  (D_L_describe (xs (i + 1)) (xs (i + 2)) σ x (fun r2860 u2860 => (D_X12_describe (xs (i + 1)) (xs (i + 2)) u2860.1 (fun r2878 s2878 => (D_X12_thrown s2878 (fun r2884 s2884 => ((r2884 = r2860 → ((r2860 = 0 → (((lg_cmp u2860.2.1 ((r2878).toInt64)) = 0 → (P s2884 u2860.2)) ∧ (¬ (lg_cmp u2860.2.1 ((r2878).toInt64)) = 0 → False))) ∧ (¬ r2860 = 0 → (P s2884 u2860.2)))) ∧ (¬ r2884 = r2860 → False))))))))
def DL_45 (xs : Nat → Int32) (i : Nat) (σ : Sto) (x : XP) (P : Sto → XP → Prop) : Prop :=
  (D_L_undo σ x (fun r2916 u2916 => (D_X12_undo u2916.1 (fun r2922 s2922 => (D_X12_thrown s2922 (fun r2928 s2928 => ((r2928 = r2916 → ((r2916 = 0 → (((lg_cmp u2916.2.1 ((r2922).toInt64)) = 0 → (P s2928 u2916.2)) ∧ (¬ (lg_cmp u2916.2.1 ((r2922).toInt64)) = 0 → False))) ∧ (¬ r2916 = 0 → (P s2928 u2916.2)))) ∧ (¬ r2928 = r2916 → False))))))))
def DL_46 (xs : Nat → Int32) (i : Nat) (σ : Sto) (x : XP) (P : Sto → XP → Prop) : Prop :=
  (D_X11_save σ (fun r2959 s2959 => (D_X12_save s2959 (fun r2963 s2963 => ((r2959 = r2963 → (P s2963 x)) ∧ (¬ r2959 = r2963 → False))))))
def DL_47 (xs : Nat → Int32) (i : Nat) (σ : Sto) (x : XP) (P : Sto → XP → Prop) : Prop :=
  (D_L_restore σ x (fun r2973 u2973 => (D_X12_restore u2973.1 (fun r2979 s2979 => (D_X12_thrown s2979 (fun r2985 s2985 => ((r2985 = r2973 → ((r2973 = 0 → (((lg_cmp u2973.2.1 ((r2979).toInt64)) = 0 → (P s2985 u2973.2)) ∧ (¬ (lg_cmp u2973.2.1 ((r2979).toInt64)) = 0 → False))) ∧ (¬ r2973 = 0 → (P s2985 u2973.2)))) ∧ (¬ r2985 = r2973 → False))))))))
