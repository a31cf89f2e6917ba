/-! the reference's table as mathematics: one STATE at one level -/
def tot (c : Q4) : Nat := c.1 + c.2.1 + c.2.2.1 + c.2.2.2
/-- entries that aren't 0 are FEWEST + 1 -/
def RowOk (R : Nat → Int) : Prop := ∀ kd, kd < 3 → ∀ c : Q4, 1 ≤ tot c → tot c ≤ 16 → R (83521 * kd + posQ c) = 0 ∨ ∃ v : Nat, R (83521 * kd + posQ c) = (v : Int) + 1 ∧ IsFew (cyK kd) (cnK kd) (cumQ c) v
/-- of the STATES below m those that q questions do have an entry -/
def Kn (R : Nat → Int) (kd : Nat) (m : Q4) (q : Nat) : Prop := ∀ c, leQ (cumQ c) m → 1 ≤ tot c → canQ (cyK kd) (cnK kd) q (cumQ c) → R (83521 * kd + posQ c) ≠ 0
def exQ (t : Q4) : Q4 := (t.1 - t.2.1, t.2.1 - t.2.2.1, t.2.2.1 - t.2.2.2, t.2.2.2)
theorem cum_ex {t : Q4} (h : Dec t) : cumQ (exQ t) = t := by
  obtain ⟨t0, t1, t2, t3⟩ := t
  simp only [Dec] at h
  show ((t0 - t1 + (t1 - t2) + (t2 - t3) + t3, t1 - t2 + (t2 - t3) + t3, t2 - t3 + t3, t3) : Q4) = (t0, t1, t2, t3)
  exact congr (congrArg Prod.mk (by omega)) (congr (congrArg Prod.mk (by omega)) (congr (congrArg Prod.mk (by omega)) (by omega)))
theorem cum_sum (x u : Q4) : cumQ (sumQ x u) = sumQ (cumQ x) (cumQ u) := by
  obtain ⟨x0, x1, x2, x3⟩ := x
  obtain ⟨u0, u1, u2, u3⟩ := u
  show (((x0 + u0) + (x1 + u1) + (x2 + u2) + (x3 + u3), (x1 + u1) + (x2 + u2) + (x3 + u3), (x2 + u2) + (x3 + u3), x3 + u3) : Q4) = ((x0 + x1 + x2 + x3) + (u0 + u1 + u2 + u3), (x1 + x2 + x3) + (u1 + u2 + u3), (x2 + x3) + (u2 + u3), x3 + u3)
  exact congr (congrArg Prod.mk (by omega)) (congr (congrArg Prod.mk (by omega)) (congr (congrArg Prod.mk (by omega)) (by omega)))
theorem cum_bhy {kd : Nat} (x u : Q4) : cumQ (bhQ (cyK kd) x u) = bhQ (cyK kd) (cumQ x) (cumQ u) := by
  unfold cyK
  split
  · exact cum_bh4 x u
  · exact cum_bh1 x u
theorem cum_bhn {kd : Nat} (x u : Q4) : cumQ (bhQ (cnK kd) x u) = bhQ (cnK kd) (cumQ x) (cumQ u) := by
  unfold cnK
  split
  · exact cum_bh1 x u
  · exact cum_bh4 x u
theorem tot_cum (c : Q4) : (cumQ c).1 = tot c := rfl
theorem pos_0 {c : Q4} (h : posQ c = 0) : tot c = 0 := by
  unfold posQ at h
  unfold tot
  omega
theorem pos_of0 {c : Q4} (h : tot c = 0) : posQ c = 0 := by
  unfold tot at h
  unfold posQ
  omega
/-- an entry within lev: lev - 1 questions do -/
theorem Wi_iff {R : Nat → Int} {kd lev : Nat} {m y : Q4} (hk : kd < 3) (hR : RowOk R) (hl : 1 ≤ lev ∧ lev ≤ 13) (hK : Kn R kd m (lev - 1)) (hy : leQ (cumQ y) m) (hm : m.1 ≤ 16) : Wi R kd (lev : Int) (posQ y) ↔ canQ (cyK kd) (cnK kd) (lev - 1) (cumQ y) := by
  have ht : tot y ≤ 16 := by have := hy.1; rw [tot_cum] at this; omega
  by_cases h0 : tot y = 0
  · exact ⟨fun _ => can_le (Nat.zero_le _) (show (cumQ y).1 ≤ 1 by rw [tot_cum]; omega), fun _ => Or.inl (pos_of0 h0)⟩
  · constructor
    · rintro (h | ⟨h1, h2⟩)
      · exact absurd (pos_0 h) h0
      · rcases hR kd hk y (by omega) ht with e | ⟨v, e1, e2⟩
        · omega
        · exact (e2.2 (lev - 1) (by omega)).mpr (by omega)
    · intro hc
      have h1 := hK y hy (by omega) hc
      rcases hR kd hk y (by omega) ht with e | ⟨v, e1, e2⟩
      · exact absurd e h1
      · have := (e2.2 (lev - 1) (by omega)).mp hc
        exact Or.inr ⟨by omega, by omega⟩
theorem sumQ_sub {c x : Q4} (h : leQ x c) : sumQ x (subQ c x) = c := sum_sub h
theorem exact_split {R : Nat → Int} {kd lev : Nat} {m c : Q4} (hk : kd < 3) (hR : RowOk R) (hl : 1 ≤ lev ∧ lev ≤ 13) (hK : Kn R kd m (lev - 1)) (hc : leQ (cumQ c) m) (hm : m.1 ≤ 16) (h2 : 2 ≤ tot c) : (∃ x, leQ x c ∧ OKc R kd (lev : Int) c x) ↔ canQ (cyK kd) (cnK kd) lev (cumQ c) := by
  have hstep := can_step (cy := cyK kd) (cn := cnK kd) (q := lev - 1) (h := cumQ c) (by rw [tot_cum]; exact h2)
  rw [show lev - 1 + 1 = lev by omega] at hstep
  rw [hstep]
  have le1 : ∀ x u : Q4, sumQ x u = c → leQ (cumQ (bhQ (cyK kd) x u)) m ∧ leQ (cumQ (bhQ (cnK kd) u x)) m := by
    intro x u e
    have hs : Spl (cumQ c) (cumQ x) := by
      refine ⟨cum_dec x, ?_, ?_⟩
      · rw [← e, cum_sum, sub_sum]; exact cum_dec u
      · rw [← e, cum_sum]; exact ⟨Nat.le_add_right _ _, Nat.le_add_right _ _, Nat.le_add_right _ _, Nat.le_add_right _ _⟩
    have e2 : subQ (cumQ c) (cumQ x) = cumQ u := by rw [← e, cum_sum, sub_sum]
    constructor
    · rw [cum_bhy]
      have h9 := yS_le (cy := cyK kd) hs
      unfold yS at h9
      rw [e2] at h9
      exact leQ_trans h9 hc
    · rw [cum_bhn]
      have h9 := nS_le (cn := cnK kd) hs
      unfold nS at h9
      rw [e2] at h9
      exact leQ_trans h9 hc
  constructor
  · rintro ⟨x, hx, o1, o2⟩
    have e := sumQ_sub hx
    obtain ⟨l1, l2⟩ := le1 x (subQ c x) e
    refine ⟨cumQ x, cumQ (subQ c x), cum_dec _, cum_dec _, by rw [← cum_sum, e], ?_, ?_⟩
    · rw [← cum_bhy]; exact (Wi_iff hk hR hl hK l1 hm).mp o1
    · rw [← cum_bhn]; exact (Wi_iff hk hR hl hK l2 hm).mp o2
  · rintro ⟨t, u, d1, d2, hs, o1, o2⟩
    have e : sumQ (exQ t) (exQ u) = c := cum_inj (by rw [cum_sum, cum_ex d1, cum_ex d2, hs])
    obtain ⟨l1, l2⟩ := le1 (exQ t) (exQ u) e
    have e3 : subQ c (exQ t) = exQ u := by rw [← e, sub_sum]
    refine ⟨exQ t, ?_, ?_, ?_⟩
    · rw [← e]; exact ⟨Nat.le_add_right _ _, Nat.le_add_right _ _, Nat.le_add_right _ _, Nat.le_add_right _ _⟩
    · rw [e3]; exact (Wi_iff hk hR hl hK l1 hm).mpr (by rw [cum_bhy, cum_ex d1, cum_ex d2]; exact o1)
    · rw [e3]; exact (Wi_iff hk hR hl hK l2 hm).mpr (by rw [cum_bhn, cum_ex d1, cum_ex d2]; exact o2)
/-- one NUMBER of LEFT j less -/
def decJ (c : Q4) (j : Nat) : Q4 := match j with
  | 0 => (c.1 - 1, c.2.1, c.2.2.1, c.2.2.2)
  | 1 => (c.1, c.2.1 - 1, c.2.2.1, c.2.2.2)
  | 2 => (c.1, c.2.1, c.2.2.1 - 1, c.2.2.2)
  | _ => (c.1, c.2.1, c.2.2.1, c.2.2.2 - 1)
theorem decJ_ok {c : Q4} {j : Nat} (hj : j < 4) (h : qat c j ≠ 0) : posQ (decJ c j) = posQ c - stJ j ∧ stJ j ≤ posQ c ∧ leQ (cumQ (decJ c j)) (cumQ c) ∧ tot (decJ c j) + 1 = tot c := by
  obtain ⟨a, b, d, e⟩ := c
  match j with
  | 0 =>
    have h : a ≠ 0 := h
    refine ⟨?_, ?_, ?_, ?_⟩
    · show a - 1 + 17 * (b + 17 * (d + 17 * e)) = a + 17 * (b + 17 * (d + 17 * e)) - 1; omega
    · show 1 ≤ a + 17 * (b + 17 * (d + 17 * e)); omega
    · simp only [leQ, cumQ, decJ]; omega
    · simp only [tot, decJ]; omega
  | 1 =>
    have h : b ≠ 0 := h
    refine ⟨?_, ?_, ?_, ?_⟩
    · show a + 17 * (b - 1 + 17 * (d + 17 * e)) = a + 17 * (b + 17 * (d + 17 * e)) - 17; omega
    · show 17 ≤ a + 17 * (b + 17 * (d + 17 * e)); omega
    · simp only [leQ, cumQ, decJ]; omega
    · simp only [tot, decJ]; omega
  | 2 =>
    have h : d ≠ 0 := h
    refine ⟨?_, ?_, ?_, ?_⟩
    · show a + 17 * (b + 17 * (d - 1 + 17 * e)) = a + 17 * (b + 17 * (d + 17 * e)) - 289; omega
    · show 289 ≤ a + 17 * (b + 17 * (d + 17 * e)); omega
    · simp only [leQ, cumQ, decJ]; omega
    · simp only [tot, decJ]; omega
  | 3 =>
    have h : e ≠ 0 := h
    refine ⟨?_, ?_, ?_, ?_⟩
    · show a + 17 * (b + 17 * (d + 17 * (e - 1))) = a + 17 * (b + 17 * (d + 17 * e)) - 4913; omega
    · show 4913 ≤ a + 17 * (b + 17 * (d + 17 * e)); omega
    · simp only [leQ, cumQ, decJ]; omega
    · simp only [tot, decJ]; omega
/-- the reference's test of a STATE at a level tells whether so many questions do -/
theorem step_iff {R : Nat → Int} {kd lev : Nat} {m c : Q4} (hk : kd < 3) (hR : RowOk R) (hl : 1 ≤ lev ∧ lev ≤ 12) (hK : Kn R kd m (lev - 1)) (hc : leQ (cumQ c) m) (hm : m.1 ≤ 16) (h2 : 2 ≤ tot c)
    (hb : ∀ j, j < 4 → qat c j ≠ 0 → canQ (cyK kd) (cnK kd) lev (cumQ (decJ c j)) → R (83521 * kd + posQ (decJ c j)) ≠ 0) :
    (MD R (83521 * kd + posQ c) (lev : Int) c 4 ∧ ∃ x, leQ x c ∧ OKc R kd (lev : Int) c x) ↔ canQ (cyK kd) (cnK kd) lev (cumQ c) := by
  rw [exact_split hk hR ⟨hl.1, by omega⟩ hK hc hm h2]
  refine ⟨fun h => h.2, fun h => ⟨fun j hj => ?_, h⟩⟩
  by_cases h0 : qat c j = 0
  · exact Or.inl h0
  · right
    obtain ⟨p1, p2, p3, p4⟩ := decJ_ok hj h0
    have ht : tot c ≤ 16 := by have := hc.1; rw [tot_cum] at this; omega
    have hcan := can_mono (cum_dec (decJ c j)) p3 h
    have h1 := hb j hj h0 hcan
    rw [show 83521 * kd + posQ c - stJ j = 83521 * kd + posQ (decJ c j) by omega]
    rcases hR kd hk (decJ c j) (by omega) (by omega) with e | ⟨v, e1, e2⟩
    · exact absurd e h1
    · have := (e2.2 lev hl.2).mp hcan
      exact ⟨by omega, by omega⟩
