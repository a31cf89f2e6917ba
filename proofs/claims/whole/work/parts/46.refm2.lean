theorem pos_inj {x y : Q4} (hx : tot x ≤ 16) (hy : tot y ≤ 16) (h : posQ x = posQ y) : x = y := by
  obtain ⟨x0, x1, x2, x3⟩ := x
  obtain ⟨y0, y1, y2, y3⟩ := y
  simp only [tot] at hx hy
  simp only [posQ] at h
  have e0 : x0 = y0 := by omega
  have e1 : x1 = y1 := by omega
  have e2 : x2 = y2 := by omega
  have e3 : x3 = y3 := by omega
  rw [e0, e1, e2, e3]
theorem pos_lt16 {x : Q4} (hx : tot x ≤ 16) : posQ x < 83521 := by
  obtain ⟨x0, x1, x2, x3⟩ := x
  simp only [tot] at hx
  simp only [posQ]
  omega
theorem at_inj {kd kd' : Nat} {x y : Q4} (hx : tot x ≤ 16) (hy : tot y ≤ 16) (h : 83521 * kd + posQ x = 83521 * kd' + posQ y) : kd = kd' ∧ x = y := by
  have a := pos_lt16 hx
  have b := pos_lt16 hy
  have e : kd = kd' := by omega
  subst e
  exact ⟨rfl, pos_inj hx hy (by omega)⟩
theorem row_up {R : Nat → Int} (hR : RowOk R) {kd : Nat} {c : Q4} (ht : tot c ≤ 16) {v : Nat} (hv : IsFew (cyK kd) (cnK kd) (cumQ c) v) : RowOk (uZ R (83521 * kd + posQ c) ((v : Int) + 1)) := by
  intro kd' hk' c' h1 h2
  by_cases e : 83521 * kd' + posQ c' = 83521 * kd + posQ c
  · obtain ⟨e1, e2⟩ := at_inj h2 ht e
    subst e1; subst e2
    exact Or.inr ⟨v, uZ_eq, hv⟩
  · rw [uZ_ne e]
    exact hR kd' hk' c' h1 h2
theorem uZ_self {R : Nat → Int} {p : Nat} {z : Int} (h : R p = z) : uZ R p z = R := by
  funext j
  unfold uZ
  by_cases e : j = p
  · subst e; rw [if_pos rfl, h]
  · rw [if_neg e]
theorem i2b_ok {l : Nat} (h : l ≤ 14) : (iZ (l : Int)).toInt8.toInt32 = iZ (l : Int) ∧ narrow .byte (.int (iZ (l : Int))) = .int (iZ (l : Int)) := by
  have a : ∀ j : Nat, j < 15 → (iZ (j : Int)).toInt8.toInt32 = iZ (j : Int) ∧ narrow .byte (.int (iZ (j : Int))) = .int (iZ (j : Int)) := by decide +kernel
  exact a l (by omega)
/-- ahead of a place of the four loops, by exact counts -/
def BfE (x : Q4) (d c b a : Nat) : Prop := x.2.2.2 < d ∨ (x.2.2.2 = d ∧ (x.2.2.1 < c ∨ (x.2.2.1 = c ∧ (x.2.1 < b ∨ (x.2.1 = b ∧ x.1 < a)))))
/-- what the loops of a level keep -/
def LvI (R0 R : Nat → Int) (kd lev : Nat) (m : Q4) (d c b a : Nat) : Prop := (∀ j, 0 ≤ R j ∧ R j ≤ 14) ∧ RowOk R ∧ Kn R kd m (lev - 1) ∧ (∀ j, R0 j ≠ 0 → R j = R0 j) ∧ ∀ x, leQ (cumQ x) m → 1 ≤ tot x → BfE x d c b a → (lev = 13 ∨ canQ (cyK kd) (cnK kd) lev (cumQ x)) → R (83521 * kd + posQ x) ≠ 0
theorem decJ_bf {c : Q4} {j : Nat} (hj : j < 4) (h : qat c j ≠ 0) : BfE (decJ c j) c.2.2.2 c.2.2.1 c.2.1 c.1 := by
  obtain ⟨a, b, d, e⟩ := c
  match j with
  | 0 => have h : a ≠ 0 := h; exact Or.inr ⟨rfl, Or.inr ⟨rfl, Or.inr ⟨rfl, (show a - 1 < a by omega)⟩⟩⟩
  | 1 => have h : b ≠ 0 := h; exact Or.inr ⟨rfl, Or.inr ⟨rfl, Or.inl (show b - 1 < b by omega)⟩⟩
  | 2 => have h : d ≠ 0 := h; exact Or.inr ⟨rfl, Or.inl (show d - 1 < d by omega)⟩
  | 3 => have h : e ≠ 0 := h; exact Or.inl (show e - 1 < e by omega)
/-- a STATE passed over: its entry stands, or nothing is owed -/
theorem LvI_skip {R0 R : Nat → Int} {kd lev : Nat} {m : Q4} {d c b a : Nat} (hi : LvI R0 R kd lev m d c b a) (hd : 1 ≤ tot (a, b, c, d) → leQ (cumQ (a, b, c, d)) m → (lev = 13 ∨ canQ (cyK kd) (cnK kd) lev (cumQ (a, b, c, d))) → R (83521 * kd + posQ (a, b, c, d)) ≠ 0) : LvI R0 R kd lev m d c b (a + 1) := by
  obtain ⟨h1, h2, h3, h4, h5⟩ := hi
  refine ⟨h1, h2, h3, h4, fun x hx ht hb hc => ?_⟩
  by_cases e : x = (a, b, c, d)
  · subst e; exact hd ht hx hc
  · refine h5 x hx ht ?_ hc
    obtain ⟨x0, x1, x2, x3⟩ := x
    simp only [BfE] at hb ⊢
    have : ¬ (x0 = a ∧ x1 = b ∧ x2 = c ∧ x3 = d) := fun q => e (by rw [q.1, q.2.1, q.2.2.1, q.2.2.2])
    omega
/-- a STATE that gets its entry -/
theorem LvI_set {R0 R : Nat → Int} {kd lev : Nat} {m : Q4} {d c b a v : Nat} (hi : LvI R0 R kd lev m d c b a) (hm : m.1 ≤ 16) (hx : leQ (cumQ (a, b, c, d)) m) (h0 : R (83521 * kd + posQ (a, b, c, d)) = 0) (hv : IsFew (cyK kd) (cnK kd) (cumQ (a, b, c, d)) v) : LvI R0 (uZ R (83521 * kd + posQ (a, b, c, d)) ((v : Int) + 1)) kd lev m d c b (a + 1) := by
  have ht : tot (a, b, c, d) ≤ 16 := by have := hx.1; rw [tot_cum] at this; omega
  have hv1 := hv.1
  have hi2 := hi
  obtain ⟨h1, h2, h3, h4, h5⟩ := hi
  have up : ∀ j, R j ≠ 0 → uZ R (83521 * kd + posQ (a, b, c, d)) ((v : Int) + 1) j ≠ 0 := by
    intro j hj
    unfold uZ
    split
    · omega
    · exact hj
  refine ⟨fun j => ?_, row_up h2 ht hv, fun x hx ht hc => up _ (h3 x hx ht hc), fun j hj => ?_, fun x hx ht hb hc => ?_⟩
  · unfold uZ
    split
    · omega
    · exact h1 j
  · have h9 := h4 j hj
    by_cases e : j = 83521 * kd + posQ (a, b, c, d)
    · subst e; rw [h0] at h9; exact absurd h9.symm hj
    · rw [uZ_ne e]; exact h9
  · by_cases e : x = (a, b, c, d)
    · subst e; rw [uZ_eq]; omega
    · refine up _ (h5 x hx ht ?_ hc)
      obtain ⟨x0, x1, x2, x3⟩ := x
      simp only [BfE] at hb ⊢
      have : ¬ (x0 = a ∧ x1 = b ∧ x2 = c ∧ x3 = d) := fun q => e (by rw [q.1, q.2.1, q.2.2.1, q.2.2.2])
      omega
