/-- a truth as a number -/
def b01 (p : Prop) [Decidable p] : Int := if p then 1 else 0
theorem b01_R (p : Prop) [Decidable p] : zR (b01 p) := by unfold b01; split <;> exact ⟨by decide, by decide⟩
theorem b01_z (p : Prop) [Decidable p] : b01 p = 0 ↔ ¬ p := by unfold b01; split <;> simp_all
theorem b01_t {p : Prop} [Decidable p] (h : p) : b01 p = 1 := if_pos h
theorem b01_f {p : Prop} [Decidable p] (h : ¬ p) : b01 p = 0 := if_neg h
theorem b01_01 (p : Prop) [Decidable p] : b01 p = 0 ∨ b01 p = 1 := by unfold b01; split <;> simp
theorem b01_congr {p q : Prop} [Decidable p] [Decidable q] (h : p ↔ q) : b01 p = b01 q := by unfold b01; by_cases hp : p <;> simp [hp, h.symm] <;> simp_all
/-- READ: the one NUMBER that p holds of, of those from i on; -9: none, or more -/
def rdF (p : Nat → Bool) : Nat → Nat → Int → Int
  | 0, _, near => near
  | m + 1, i, near => if p i then (if near = -9 then rdF p m (i + 1) i else -9) else rdF p m (i + 1) near
def allP (w : Nat → Nat) (more n : Nat) : Prop := ∀ a, a < n → ∀ b, b < a → more < popc (w a ^^^ w b)
def costK (kd y b : Nat) : Int := if y = b then 0 else if kd = 0 then 9 else if kd = 2 ∧ y = 0 then 9 else 1
theorem costK_rng (kd y b : Nat) : 0 ≤ costK kd y b ∧ costK kd y b ≤ 9 := by unfold costK; split <;> (try split) <;> (try split) <;> omega
def trK (kd : Nat) : Int := if kd = 0 then 1 else if kd = 1 then 11 else 111
theorem cK1 {y b : Nat} (hy : y < 2) (hb : b < 2) : (costK 0 y b = 9 → costK 1 y b = 1) ∧ (¬ costK 0 y b = 9 → costK 1 y b = costK 0 y b) := by
  rcases (show y = 0 ∨ y = 1 by omega) with e | e <;> rcases (show b = 0 ∨ b = 1 by omega) with e2 | e2 <;> subst e <;> subst e2 <;> decide
theorem cK2 {y b : Nat} (hy : y < 2) (hb : b < 2) : ((b = 0 ∨ y ≠ 0) → costK 2 y b = costK 1 y b) ∧ (b ≠ 0 → y = 0 → costK 2 y b = 9) := by
  rcases (show y = 0 ∨ y = 1 by omega) with e | e <;> rcases (show b = 0 ∨ b = 1 by omega) with e2 | e2 <;> subst e <;> subst e2 <;> decide
