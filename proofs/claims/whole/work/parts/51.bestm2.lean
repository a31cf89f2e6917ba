/-! the lowest NUMBERS of each LEFT make the least heap number -/
theorem bs_congr {p q : Nat → Bool} : ∀ {n : Nat}, (∀ i, i < n → p i = q i) → bs p n = bs q n
  | 0, _ => rfl
  | n + 1, h => by rw [bs, bs, bs_congr (fun i hi => h i (by omega)), h n (by omega)]
theorem bs_bit (p : Nat → Bool) : ∀ n i, (bs p n).testBit i = (decide (i < n) && p i)
  | 0, i => by simp [bs]
  | n + 1, i => by
    have ih := bs_bit p n
    have hlt := bs_lt p n
    rcases Nat.lt_trichotomy i n with e | e | e
    · have h1 : decide (i < n + 1) = true := decide_eq_true (by omega)
      have h2 : decide (i < n) = true := decide_eq_true e
      rw [h1, Bool.true_and]
      have hi := ih i
      rw [h2, Bool.true_and] at hi
      rw [bs]
      split
      · rw [Nat.add_comm, Nat.testBit_two_pow_add_gt e]; exact hi
      · rw [Nat.add_zero]; exact hi
    · subst e
      have h1 : decide (i < i + 1) = true := decide_eq_true (by omega)
      rw [h1, Bool.true_and, bs]
      have hz : (bs p i).testBit i = false := Nat.testBit_lt_two_pow hlt
      cases hp : p i with
      | true => rw [if_pos rfl, Nat.add_comm, Nat.testBit_two_pow_add_eq, hz]; rfl
      | false => rw [if_neg (by decide), Nat.add_zero]; exact hz
    · have h1 : decide (i < n + 1) = false := decide_eq_false (by omega)
      rw [h1, Bool.false_and]
      exact Nat.testBit_lt_two_pow (Nat.lt_of_lt_of_le (bs_lt p (n + 1)) (Nat.pow_le_pow_right (by decide) e))
theorem bt_bit (b i : Nat) : (bt b i = 1) ↔ b.testBit i = true := by
  rw [Nat.testBit_eq_decide_div_mod_eq]
  unfold bt
  simp
theorem bs_bt (p : Nat → Bool) {n i : Nat} (hi : i < n) : bt (bs p n) i = 1 ↔ p i = true := by
  rw [bt_bit, bs_bit, decide_eq_true hi, Bool.true_and]
theorem bs_self {b n : Nat} (h : b < 2 ^ n) : bs (fun i => decide (bt b i = 1)) n = b := by
  apply Nat.eq_of_testBit_eq
  intro i
  rw [bs_bit]
  by_cases hi : i < n
  · rw [decide_eq_true hi, Bool.true_and]
    cases hb : b.testBit i with
    | true => exact decide_eq_true ((bt_bit b i).mpr hb)
    | false => exact decide_eq_false (fun z => by rw [(bt_bit b i).mp z] at hb; cases hb)
  · rw [decide_eq_false hi, Bool.false_and]
    exact (Nat.testBit_lt_two_pow (Nat.lt_of_lt_of_le h (Nat.pow_le_pow_right (by decide) (by omega)))).symm
theorem bs_orB (p q : Nat → Bool) (n : Nat) : bs p n ||| bs q n = bs (fun i => p i || q i) n := by
  apply Nat.eq_of_testBit_eq
  intro i
  rw [Nat.testBit_or, bs_bit, bs_bit, bs_bit]
  cases decide (i < n) <;> rfl
theorem bs_cut (p : Nat → Bool) {m : Nat} : ∀ {n : Nat}, m ≤ n → bs (fun i => p i && decide (i < m)) n = bs p m := by
  intro n hn
  induction hn with
  | refl => exact bs_congr (fun i hi => by rw [decide_eq_true hi, Bool.and_true])
  | @step j hj ih =>
    have hj' : m ≤ j := hj
    rw [bs_f (by rw [decide_eq_false (by omega), Bool.and_false])]
    exact ih
theorem cnt_cut (p : Nat → Bool) {m : Nat} : ∀ {n : Nat}, m ≤ n → cnt (fun i => p i && decide (i < m)) n = cnt p m := by
  intro n hn
  induction hn with
  | refl => exact cnt_congr (fun i hi => by rw [decide_eq_true hi, Bool.and_true])
  | @step j hj ih =>
    have hj' : m ≤ j := hj
    rw [cnt_f (by rw [decide_eq_false (by omega), Bool.and_false])]
    exact ih
theorem bs_ind (p : Nat → Bool) (n : Nat) : bs p (n + 1) = bs p n + ind (p n) * 2 ^ n := by
  rw [bs]
  cases p n with
  | true => rw [if_pos rfl, ind_t rfl, Nat.one_mul]
  | false => rw [if_neg (by decide), ind_f (by decide), Nat.zero_mul]
theorem bs_sum {a b c d e : Nat → Bool} (h : ∀ i, ind (a i) + ind (b i) + ind (c i) + ind (d i) = ind (e i)) : ∀ n, bs a n + bs b n + bs c n + bs d n = bs e n
  | 0 => rfl
  | n + 1 => by
    have ih := bs_sum h n
    rw [bs_ind, bs_ind, bs_ind, bs_ind, bs_ind, ← ih, ← h n, Nat.add_mul, Nat.add_mul, Nat.add_mul]
    omega
theorem bs_sum_le {a b c d e : Nat → Bool} (h : ∀ i, ind (a i) + ind (b i) + ind (c i) + ind (d i) ≤ ind (e i)) : ∀ n, bs a n + bs b n + bs c n + bs d n ≤ bs e n
  | 0 => Nat.le_refl _
  | n + 1 => by
    have ih := bs_sum_le h n
    have hm := Nat.mul_le_mul_right (2 ^ n) (h n)
    rw [Nat.add_mul, Nat.add_mul, Nat.add_mul] at hm
    rw [bs_ind, bs_ind, bs_ind, bs_ind, bs_ind]
    omega
theorem bs_low {p q : Nat → Bool} (hq : ∀ i, q i = true → p i = true) : ∀ (n m : Nat), m ≤ n → cnt p m ≤ cnt q n → bs p m ≤ bs q n
  | 0, m, hm, _ => by rw [show m = 0 by omega]; exact Nat.le_refl _
  | n + 1, m, hm, hc => by
    cases hqn : q n with
    | true =>
      rw [cnt_t hqn] at hc
      rw [bs_t hqn]
      rcases Nat.lt_or_ge n m with e | e
      · have e2 : m = n + 1 := by omega
        subst e2
        rw [cnt_t (hq n hqn)] at hc
        rw [bs_t (hq n hqn)]
        have := bs_low hq n n (Nat.le_refl _) (by omega)
        omega
      · have h1 := bs_lt p m
        have h2 : 2 ^ m ≤ 2 ^ n := Nat.pow_le_pow_right (by decide) e
        omega
    | false =>
      rw [cnt_f hqn] at hc
      rw [bs_f hqn]
      rcases Nat.lt_or_ge n m with e | e
      · have e2 : m = n + 1 := by omega
        subst e2
        have h1 := cnt_imp hq n
        cases hp : p n with
        | true => rw [cnt_t hp] at hc; omega
        | false =>
          rw [cnt_f hp] at hc
          rw [bs_f hp]
          exact bs_low hq n n (Nat.le_refl _) hc
      · exact bs_low hq n m e hc
def pL (l : Nat → Int) (v : Nat) : Nat → Bool := fun i => decide (l i = (v : Int))
theorem zL_is {w : Nat → Nat} {l : Nat → Int} {n v c : Nat} (hw : LW w v (pL l v) n) (hc : c ≤ cnt (pL l v) n) : ∃ m, m ≤ n ∧ cnt (pL l v) m = c ∧ zL w v c = bs (pL l v) m := by
  by_cases h0 : c = 0
  · exact ⟨0, Nat.zero_le _, by rw [h0]; rfl, by unfold zL; rw [if_pos h0]; rfl⟩
  · obtain ⟨i, h1, h2, h3⟩ := cnt_kth (p := pL l v) (c := c - 1) (n := n) (by omega)
    have h4 := hw i h1 h2
    have h5 : cnt (pL l v) (i + 1) = c := by rw [cnt_t h2]; omega
    refine ⟨i + 1, h1, h5, ?_⟩
    unfold zL
    rw [if_neg h0, ← h4, h5]
theorem Hc_lev (l : Nat → Int) (m n : Nat) : Hc l m n = Hc l (m + 1) n + cnt (pL l m) n := by
  have h := cnt_lev (f := l) (r := 0) m n
  have g : ∀ z : Int, cnt (fun i => decide (z ≤ l (0 + i))) n = cnt (fun i => decide (z ≤ l i)) n := fun z => cnt_congr (fun i _ => by rw [Nat.zero_add])
  have g2 : cnt (fun i => decide (l (0 + i) = (m : Int))) n = cnt (pL l m) n := cnt_congr (fun i _ => by rw [Nat.zero_add]; rfl)
  rw [g, g, g2] at h
  exact h
theorem Tc_lev (l : Nat → Int) (b m n : Nat) : Tc l b m n = Tc l b (m + 1) n + cnt (fun i => pL l m i && decide (bt b i = 1)) n := by
  have h := cnt_add4 (p := fun i => decide (bt b i = 1 ∧ (m : Int) ≤ l i)) (q := fun _ => false) (r := fun i => decide (bt b i = 1 ∧ ((m + 1 : Nat) : Int) ≤ l i)) (s := fun i => pL l m i && decide (bt b i = 1)) (fun i => by
    have hs : (pL l m i && decide (bt b i = 1)) = decide (l i = (m : Int) ∧ bt b i = 1) := by unfold pL; rw [Bool.decide_and]
    rw [hs]
    by_cases h2 : bt b i = 1
    · rcases (show l i < (m : Int) ∨ l i = (m : Int) ∨ ((m + 1 : Nat) : Int) ≤ l i by omega) with h1 | h1 | h1
      · rw [ind_ndec (by omega), ind_ndec (by omega), ind_ndec (by omega)]; rfl
      · rw [ind_dec (by omega), ind_ndec (by omega), ind_dec ⟨h1, h2⟩]; rfl
      · rw [ind_dec (by omega), ind_dec ⟨h2, h1⟩, ind_ndec (by omega)]; rfl
    · rw [ind_ndec (fun z => h2 z.1), ind_ndec (fun z => h2 z.1), ind_ndec (fun z => h2 z.2)]; rfl) n
  rw [cnt_none (fun _ => rfl) n] at h
  exact h
theorem tB_congr {l : Nat → Int} {b c n : Nat} (h : ∀ i, i < n → (bt b i = 1 ↔ bt c i = 1)) : tB l b n = tB l c n := by
  have g : ∀ m, Tc l b m n = Tc l c m n := fun m => cnt_congr (fun i hi => decide_eq_decide.mpr (and_congr (h i hi) Iff.rfl))
  unfold tB
  rw [g, g, g, g]
theorem pL_one {l : Nat → Int} {u v i : Nat} (h : pL l u i = true) (hv : v ≠ u) : pL l v i = false := by
  unfold pL at h ⊢
  have h' := of_decide_eq_true h
  exact decide_eq_false (by omega)
/-- the least heap with these counts is LB -/
theorem LB_is {w : Nat → Nat} {l : Nat → Int} (hl : ∀ j, -1 ≤ l j ∧ l j ≤ 3) {n : Nat} (hw : ∀ v, v < 4 → LW w v (pL l v) n) {t : Q4} (hs : Spl (hQ l 0 n) t) : LB w t < 2 ^ n ∧ tB l (LB w t) n = t ∧ ∀ b, b < 2 ^ n → tB l b n = t → LB w t ≤ b := by
  obtain ⟨t0, t1, t2, t3⟩ := t
  obtain ⟨s1, s2, s3⟩ := hs
  have e0 : (hQ l 0 n).1 = Hc l 0 n := qat_hQ hl n 0
  have e1 : (hQ l 0 n).2.1 = Hc l 1 n := qat_hQ hl n 1
  have e2 : (hQ l 0 n).2.2.1 = Hc l 2 n := qat_hQ hl n 2
  have e3 : (hQ l 0 n).2.2.2 = Hc l 3 n := qat_hQ hl n 3
  simp only [Dec] at s1
  simp only [Dec, subQ, e0, e1, e2, e3] at s2
  simp only [leQ, e0, e1, e2, e3] at s3
  have v0 := Hc_lev l 0 n
  have v1 := Hc_lev l 1 n
  have v2 := Hc_lev l 2 n
  have v3 := Hc_lev l 3 n
  have v4 := Hc_big hl (show 3 < 3 + 1 by decide) n
  simp only [Nat.zero_add, Nat.reduceAdd] at v0 v1 v2 v3 v4
  obtain ⟨m0, a0, b0, c0⟩ := zL_is (c := t0 - t1) (hw 0 (by decide)) (by omega)
  obtain ⟨m1, a1, b1, c1⟩ := zL_is (c := t1 - t2) (hw 1 (by decide)) (by omega)
  obtain ⟨m2, a2, b2, c2⟩ := zL_is (c := t2 - t3) (hw 2 (by decide)) (by omega)
  obtain ⟨m3, a3, b3, c3⟩ := zL_is (c := t3) (hw 3 (by decide)) (by omega)
  have hLB : LB w (t0, t1, t2, t3) = bs (fun i => ((pL l 0 i && decide (i < m0) || pL l 1 i && decide (i < m1)) || pL l 2 i && decide (i < m2)) || pL l 3 i && decide (i < m3)) n := by
    unfold LB
    simp only [c0, c1, c2, c3]
    rw [← bs_cut (pL l 0) a0, ← bs_cut (pL l 1) a1, ← bs_cut (pL l 2) a2, ← bs_cut (pL l 3) a3, bs_orB, bs_orB, bs_orB]
  have hsum : bs (pL l 0) m0 + bs (pL l 1) m1 + bs (pL l 2) m2 + bs (pL l 3) m3 = LB w (t0, t1, t2, t3) := by
    rw [hLB, ← bs_cut (pL l 0) a0, ← bs_cut (pL l 1) a1, ← bs_cut (pL l 2) a2, ← bs_cut (pL l 3) a3]
    refine bs_sum (fun i => ?_) n
    cases h0 : pL l 0 i with
    | true => rw [pL_one h0 (show 1 ≠ 0 by decide), pL_one h0 (show 2 ≠ 0 by decide), pL_one h0 (show 3 ≠ 0 by decide)]; cases decide (i < m0) <;> rfl
    | false =>
      cases h1 : pL l 1 i with
      | true => rw [pL_one h1 (show 2 ≠ 1 by decide), pL_one h1 (show 3 ≠ 1 by decide)]; cases decide (i < m1) <;> rfl
      | false =>
        cases h2 : pL l 2 i with
        | true => rw [pL_one h2 (show 3 ≠ 2 by decide)]; cases decide (i < m2) <;> rfl
        | false => cases pL l 3 i <;> cases decide (i < m3) <;> rfl
  refine ⟨by rw [hLB]; exact bs_lt _ n, ?_, fun b hb ht => ?_⟩
  · have k : ∀ v m, m ≤ n → (∀ i, i < n → pL l v i = true → (bt (LB w (t0, t1, t2, t3)) i = 1 ↔ i < m)) → cnt (fun i => pL l v i && decide (bt (LB w (t0, t1, t2, t3)) i = 1)) n = cnt (pL l v) m := by
      intro v m hm hh
      rw [← cnt_cut (pL l v) hm]
      refine cnt_congr (fun i hi => ?_)
      cases hp : pL l v i with
      | false => rfl
      | true => rw [Bool.true_and, Bool.true_and]; exact decide_eq_decide.mpr (hh i hi hp)
    have q0 := k 0 m0 a0 (fun i hi hp => by
      rw [hLB, bs_bt _ hi, hp, pL_one hp (show 1 ≠ 0 by decide), pL_one hp (show 2 ≠ 0 by decide), pL_one hp (show 3 ≠ 0 by decide)]; simp)
    have q1 := k 1 m1 a1 (fun i hi hp => by
      rw [hLB, bs_bt _ hi, hp, pL_one hp (show 0 ≠ 1 by decide), pL_one hp (show 2 ≠ 1 by decide), pL_one hp (show 3 ≠ 1 by decide)]; simp)
    have q2 := k 2 m2 a2 (fun i hi hp => by
      rw [hLB, bs_bt _ hi, hp, pL_one hp (show 0 ≠ 2 by decide), pL_one hp (show 1 ≠ 2 by decide), pL_one hp (show 3 ≠ 2 by decide)]; simp)
    have q3 := k 3 m3 a3 (fun i hi hp => by
      rw [hLB, bs_bt _ hi, hp, pL_one hp (show 0 ≠ 3 by decide), pL_one hp (show 1 ≠ 3 by decide), pL_one hp (show 2 ≠ 3 by decide)]; simp)
    have w0 := Tc_lev l (LB w (t0, t1, t2, t3)) 0 n
    have w1 := Tc_lev l (LB w (t0, t1, t2, t3)) 1 n
    have w2 := Tc_lev l (LB w (t0, t1, t2, t3)) 2 n
    have w3 := Tc_lev l (LB w (t0, t1, t2, t3)) 3 n
    have w4 := Tc_big hl (b := LB w (t0, t1, t2, t3)) (show 3 < 3 + 1 by decide) n
    simp only [Nat.zero_add, Nat.reduceAdd] at w0 w1 w2 w3 w4
    rw [q0, b0] at w0
    rw [q1, b1] at w1
    rw [q2, b2] at w2
    rw [q3, b3, w4] at w3
    unfold tB
    rw [w0, w1, w2, w3]
    refine Prod.ext ?_ (Prod.ext ?_ (Prod.ext ?_ ?_)) <;> simp only <;> omega
  · have x0 : Tc l b 0 n = t0 := congrArg (fun q : Q4 => q.1) ht
    have x1 : Tc l b 1 n = t1 := congrArg (fun q : Q4 => q.2.1) ht
    have x2 : Tc l b 2 n = t2 := congrArg (fun q : Q4 => q.2.2.1) ht
    have x3 : Tc l b 3 n = t3 := congrArg (fun q : Q4 => q.2.2.2) ht
    have w0 := Tc_lev l b 0 n
    have w1 := Tc_lev l b 1 n
    have w2 := Tc_lev l b 2 n
    have w3 := Tc_lev l b 3 n
    have w4 := Tc_big hl (b := b) (show 3 < 3 + 1 by decide) n
    simp only [Nat.zero_add, Nat.reduceAdd] at w0 w1 w2 w3 w4
    have y : ∀ v m, m ≤ n → cnt (pL l v) m ≤ cnt (fun i => pL l v i && decide (bt b i = 1)) n → bs (pL l v) m ≤ bs (fun i => pL l v i && decide (bt b i = 1)) n := fun v m hm hc => bs_low (fun i h => by simp only [Bool.and_eq_true] at h; exact h.1) n m hm hc
    have y0 := y 0 m0 a0 (by omega)
    have y1 := y 1 m1 a1 (by omega)
    have y2 := y 2 m2 a2 (by omega)
    have y3 := y 3 m3 a3 (by omega)
    have z := bs_sum_le (a := fun i => pL l 0 i && decide (bt b i = 1)) (b := fun i => pL l 1 i && decide (bt b i = 1)) (c := fun i => pL l 2 i && decide (bt b i = 1)) (d := fun i => pL l 3 i && decide (bt b i = 1)) (e := fun i => decide (bt b i = 1)) (fun i => by
      cases h0 : pL l 0 i with
      | true => rw [pL_one h0 (show 1 ≠ 0 by decide), pL_one h0 (show 2 ≠ 0 by decide), pL_one h0 (show 3 ≠ 0 by decide)]; cases decide (bt b i = 1) <;> decide
      | false =>
        cases h1 : pL l 1 i with
        | true => rw [pL_one h1 (show 2 ≠ 1 by decide), pL_one h1 (show 3 ≠ 1 by decide)]; cases decide (bt b i = 1) <;> decide
        | false =>
          cases h2 : pL l 2 i with
          | true => rw [pL_one h2 (show 3 ≠ 2 by decide)]; cases decide (bt b i = 1) <;> decide
          | false => cases pL l 3 i <;> cases decide (bt b i = 1) <;> decide) n
    rw [bs_self hb] at z
    rw [← hsum]
    omega
/-- FEWEST v, told by the table; the least number of a heap that serves is THE BEST heap -/
theorem best_is {kd : Nat} (hk : kd < 3) {l : Nat → Int} (hl : ∀ j, -1 ≤ l j ∧ l j ≤ 3) {n v : Nat} (hn : n ≤ 16) (hv : v = fewN (cyK kd) (cnK kd) (hQ l 0 n)) (hv1 : 1 ≤ v) (hv2 : v ≤ 12) {F : Nat → Int} (hF : ∀ x, Dec x → leQ x (hQ l 0 n) → F (plQ x) = (fewN (cyK kd) (cnK kd) x : Int)) {w : Nat → Nat} (hw : ∀ u, u < 4 → LW w u (pL l u) n) {ls : Nat} (hm : MinOf w (T3 F ((v : Int) - 1) (cyK kd) (cnK kd) (hQ l 0 n)) 65535 ls) : BO (grt kd l n) (2 ^ n) ls := by
  have hfew := fewN_ok (cyK kd) (cnK kd) (hQ l 0 n)
  rw [← hv] at hfew
  have hdec := hQ_dec l 0 n
  have h2 : 2 ≤ (hQ l 0 n).1 := by
    rcases Nat.lt_or_ge (hQ l 0 n).1 2 with e | e
    · have := fewN_0 (cy := cyK kd) (cn := cnK kd) (h := hQ l 0 n) (by omega); omega
    · exact e
  have hOK : ∀ b, (grt kd l n b ≤ (v : Int) - 1) ↔ OKt F ((v : Int) - 1) (cyK kd) (cnK kd) (hQ l 0 n) (tB l b n) := by
    intro b
    have sp := tB_spl hl b n
    have g1 := gB_le kd l n b 1 (z := (v : Int) - 1) (by omega)
    have g0 := gB_le kd l n b 0 (z := (v : Int) - 1) (by omega)
    rw [hQ_yes hl hk] at g1
    rw [hQ_no hl hk] at g0
    unfold OKt
    rw [hF _ (yS_dec sp) (yS_le sp), hF _ (nS_dec sp) (nS_le sp), ← g1, ← g0]
    unfold grt
    omega
  have hlow : ∀ b, (v : Int) - 1 ≤ grt kd l n b := by
    intro b
    have sp := tB_spl hl b n
    rcases (show grt kd l n b < (v : Int) - 1 ∨ (v : Int) - 1 ≤ grt kd l n b by omega) with e | e
    · exfalso
      rcases Nat.lt_or_ge v 2 with e2 | e2
      · have g1 := gB_rng kd l n b 1
        have g0 := gB_rng kd l n b 0
        have q1 : gB kd l n b 1 = -1 := by unfold grt at e; omega
        have q0 : gB kd l n b 0 = -1 := by unfold grt at e; omega
        have r1 : (hQ (nv l kd b 1) 0 n).1 = 0 := by
          unfold gB at q1
          split at q1
          · assumption
          · omega
        have r0 : (hQ (nv l kd b 0) 0 n).1 = 0 := by
          unfold gB at q0
          split at q0
          · assumption
          · omega
        rw [hQ_yes hl hk] at r1
        rw [hQ_no hl hk] at r0
        have s1 := yS_at (cy := cyK kd) (h := hQ l 0 n) (t := tB l b n) (show 0 < 4 by decide)
        have s0 := nS_at (cn := cnK kd) (h := hQ l 0 n) (t := tB l b n) (show 0 < 4 by decide)
        have r1' : qat (yS (cyK kd) (hQ l 0 n) (tB l b n)) 0 = 0 := r1
        have r0' : qat (nS (cnK kd) (hQ l 0 n) (tB l b n)) 0 = 0 := r0
        have r2 : qat (hQ l 0 n) 0 = (hQ l 0 n).1 := rfl
        omega
      · have g1 := gB_le kd l n b 1 (z := (v : Int) - 2) (by omega)
        have g0 := gB_le kd l n b 0 (z := (v : Int) - 2) (by omega)
        rw [hQ_yes hl hk] at g1
        rw [hQ_no hl hk] at g0
        have k1 := g1.mp (by unfold grt at e; omega)
        have k0 := g0.mp (by unfold grt at e; omega)
        have c1 := ((fewN_ok (cyK kd) (cnK kd) (yS (cyK kd) (hQ l 0 n) (tB l b n))).2 (v - 2) (by omega)).mpr (by omega)
        have c0 := ((fewN_ok (cyK kd) (cnK kd) (nS (cnK kd) (hQ l 0 n) (tB l b n))).2 (v - 2) (by omega)).mpr (by omega)
        have hc : canQ (cyK kd) (cnK kd) (v - 2 + 1) (hQ l 0 n) := (can_step h2).mpr ⟨_, _, sp.1, sp.2.1, sum_sub sp.2.2, c1, c0⟩
        have := (hfew.2 (v - 2 + 1) (by omega)).mp hc
        omega
    · exact e
  obtain ⟨t, u, dt, du, hsum, cy1, cn1⟩ := (can_step h2).mp ((show v - 1 + 1 = v by omega) ▸ (hfew.2 v hv2).mpr (Nat.le_refl _) : canQ (cyK kd) (cnK kd) (v - 1 + 1) (hQ l 0 n))
  have hu : subQ (hQ l 0 n) t = u := by rw [← hsum]; exact sub_sum
  have hsp : Spl (hQ l 0 n) t := ⟨dt, by rw [hu]; exact du, by rw [← hsum]; exact ⟨Nat.le_add_right _ _, Nat.le_add_right _ _, Nat.le_add_right _ _, Nat.le_add_right _ _⟩⟩
  have hT : T3 F ((v : Int) - 1) (cyK kd) (cnK kd) (hQ l 0 n) t := by
    refine (T3_iff hdec).mpr ⟨hsp, ?_⟩
    unfold OKt
    rw [hF _ (yS_dec hsp) (yS_le hsp), hF _ (nS_dec hsp) (nS_le hsp)]
    have k1 := ((fewN_ok (cyK kd) (cnK kd) (yS (cyK kd) (hQ l 0 n) t)).2 (v - 1) (by omega)).mp (by unfold yS; rw [hu]; exact cy1)
    have k0 := ((fewN_ok (cyK kd) (cnK kd) (nS (cnK kd) (hQ l 0 n) t)).2 (v - 1) (by omega)).mp (by unfold nS; rw [hu]; exact cn1)
    constructor <;> omega
  obtain ⟨m1, m2, m3⟩ := hm
  have hex : ∃ t, T3 F ((v : Int) - 1) (cyK kd) (cnK kd) (hQ l 0 n) t ∧ ls = LB w t := by
    rcases m3 with e | e
    · have h9 := m2 t hT
      have h8 := (LB_is hl hw hsp).1
      have h7 : 2 ^ n ≤ 2 ^ 16 := Nat.pow_le_pow_right (by decide) hn
      exact ⟨t, hT, by omega⟩
    · exact e
  obtain ⟨t', hT', e'⟩ := hex
  obtain ⟨sp', ok'⟩ := (T3_iff hdec).mp hT'
  obtain ⟨z1, z2, z3⟩ := LB_is hl hw sp'
  have hls : grt kd l n ls ≤ (v : Int) - 1 := by rw [hOK, e', z2]; exact ok'
  refine ⟨e' ▸ z1, fun c _ => Int.le_trans hls (hlow c), fun c hc => ?_⟩
  rcases (show (v : Int) - 1 < grt kd l n c ∨ grt kd l n c ≤ (v : Int) - 1 by omega) with e | e
  · omega
  · exfalso
    have hc2 : c < 2 ^ n := Nat.lt_trans hc (e' ▸ z1)
    have hTc : T3 F ((v : Int) - 1) (cyK kd) (cnK kd) (hQ l 0 n) (tB l c n) := (T3_iff hdec).mpr ⟨tB_spl hl c n, (hOK c).mp e⟩
    have h9 := m2 _ hTc
    have h8 := (LB_is hl hw (tB_spl hl c n)).2.2 c hc2 rfl
    omega
