/-- a truth as a number -/
def b01 (p : Prop) [Decidable p] : Int := if p then 1 else 0
theorem b01_R (p : Prop) [Decidable p] : zR (b01 p) := by unfold b01; split <;> exact ⟨by decide, by decide⟩
theorem b01_z (p : Prop) [Decidable p] : b01 p = 0 ↔ ¬ p := by unfold b01; split <;> simp_all
theorem b01_t {p : Prop} [Decidable p] (h : p) : b01 p = 1 := if_pos h
theorem b01_f {p : Prop} [Decidable p] (h : ¬ p) : b01 p = 0 := if_neg h
theorem b01_01 (p : Prop) [Decidable p] : b01 p = 0 ∨ b01 p = 1 := by unfold b01; split <;> simp
theorem b01_congr {p q : Prop} [Decidable p] [Decidable q] (h : p ↔ q) : b01 p = b01 q := by unfold b01; by_cases hp : p <;> simp [hp, h.symm] <;> simp_all
/-- READ: the one NUMBER that p holds of, of those from i on; -9: none, or more -/
def rdF (p : Nat → Bool) : Nat → Nat → Int → Int
  | 0, _, near => near
  | m + 1, i, near => if p i then (if near = -9 then rdF p m (i + 1) i else -9) else rdF p m (i + 1) near
def allP (w : Nat → Nat) (more n : Nat) : Prop := ∀ a, a < n → ∀ b, b < a → more < popc (w a ^^^ w b)
def costK (kd y b : Nat) : Int := if y = b then 0 else if kd = 0 then 9 else if kd = 2 ∧ y = 0 then 9 else 1
theorem costK_rng (kd y b : Nat) : 0 ≤ costK kd y b ∧ costK kd y b ≤ 9 := by unfold costK; split <;> (try split) <;> (try split) <;> omega
def trK (kd : Nat) : Int := if kd = 0 then 1 else if kd = 1 then 11 else 111
theorem cK1 {y b : Nat} (hy : y < 2) (hb : b < 2) : (costK 0 y b = 9 → costK 1 y b = 1) ∧ (¬ costK 0 y b = 9 → costK 1 y b = costK 0 y b) := by
  rcases (show y = 0 ∨ y = 1 by omega) with e | e <;> rcases (show b = 0 ∨ b = 1 by omega) with e2 | e2 <;> subst e <;> subst e2 <;> decide
theorem cK2 {y b : Nat} (hy : y < 2) (hb : b < 2) : ((b = 0 ∨ y ≠ 0) → costK 2 y b = costK 1 y b) ∧ (b ≠ 0 → y = 0 → costK 2 y b = 9) := by
  rcases (show y = 0 ∨ y = 1 by omega) with e | e <;> rcases (show b = 0 ∨ b = 1 by omega) with e2 | e2 <;> subst e <;> subst e2 <;> decide
/-- LEFT behind an answer -/
def nv (l : Nat → Int) (kd heap y j : Nat) : Int := max (-1) (l j - costK kd y (bt heap j))
theorem nv_rng {l : Nat → Int} (hl : ∀ j, -1 ≤ l j ∧ l j ≤ 3) (kd heap y j : Nat) : -1 ≤ nv l kd heap y j ∧ nv l kd heap y j ≤ 3 := by
  have h := hl j
  have h2 := costK_rng kd y (bt heap j)
  unfold nv
  omega
/-- the first n places taken from g -/
def tkF (g t : Nat → Int) (n : Nat) : Nat → Int := fun j => if j < n then g j else t j
theorem tkF_0 (g t : Nat → Int) : tkF g t 0 = t := by funext j; exact if_neg (by omega)
theorem tkF_succ (g t : Nat → Int) (i : Nat) : uZ (tkF g t i) i (g i) = tkF g t (i + 1) := by
  funext j
  unfold uZ tkF
  by_cases h : j = i
  · subst h; rw [if_pos rfl, if_pos (by omega)]
  · rw [if_neg h]
    by_cases h2 : j < i
    · rw [if_pos h2, if_pos (by omega)]
    · rw [if_neg h2, if_neg (by omega)]
theorem tkF_in {g t : Nat → Int} {n j : Nat} (h : j < n) : tkF g t n j = g j := if_pos h
theorem tkF_out {g t : Nat → Int} {n j : Nat} (h : n ≤ j) : tkF g t n j = t j := if_neg (by omega)
theorem tkF_rng {g t : Nat → Int} (hg : ∀ j, -1 ≤ g j ∧ g j ≤ 3) (ht : ∀ j, -1 ≤ t j ∧ t j ≤ 3) (n : Nat) : ∀ j, -1 ≤ tkF g t n j ∧ tkF g t n j ≤ 3 := by
  intro j
  unfold tkF
  split
  · exact hg j
  · exact ht j
/-- n places from 'at' on taken from g -/
def tkA (g t : Nat → Int) (at_ n : Nat) : Nat → Int := fun j => if at_ ≤ j ∧ j < at_ + n then g (j - at_) else t j
theorem tkA_0 (g t : Nat → Int) (a : Nat) : tkA g t a 0 = t := by funext j; exact if_neg (by omega)
theorem tkA_succ (g t : Nat → Int) (a i : Nat) : uZ (tkA g t a i) (a + i) (g i) = tkA g t a (i + 1) := by
  funext j
  unfold uZ tkA
  by_cases h : j = a + i
  · subst h; rw [if_pos rfl, if_pos (by omega), show a + i - a = i by omega]
  · rw [if_neg h]
    by_cases h2 : a ≤ j ∧ j < a + i
    · rw [if_pos h2, if_pos (by omega)]
    · rw [if_neg h2, if_neg (by omega)]
theorem tkA_in {g t : Nat → Int} {a n i : Nat} (h : i < n) : tkA g t a n (a + i) = g i := by
  unfold tkA; rw [if_pos (by omega), show a + i - a = i by omega]
theorem tkA_out {g t : Nat → Int} {a n j : Nat} (h : j < a ∨ a + n ≤ j) : tkA g t a n j = t j := if_neg (by omega)
