/-! the calls that look into the tables -/
theorem hQ_row {f : Nat → Int} {L : Nat → Int} {r n : Nat} (h : ∀ i, i < n → f (r + i) = L i) : hQ f r n = hQ L 0 n := hQ_congr (fun i hi => by rw [Nat.zero_add]; exact h i hi)
theorem told_eq {v : Nat} (h : v ≤ 13) : (if (v : Int) = 13 then -9 else (v : Int)) = (if (v : Int) ≤ 12 then (v : Int) else -9) := by
  by_cases e : v = 13
  · rw [if_pos (by omega), if_neg (by omega)]
  · rw [if_neg (by omega), if_pos (by omega)]
theorem hQ_const {e n : Nat} : (hQ (fun _ => (e : Int)) 0 n).1 = n := by
  have g : ∀ m, cnt (fun _ => decide ((0 : Int) ≤ (e : Int))) m = m := by
    intro m
    induction m with
    | zero => rfl
    | succ m ih => rw [cnt_t (decide_eq_true (by omega)), ih]
  exact g n
set_option maxRecDepth 100000 in
set_option maxHeartbeats 4000000 in
theorem bb_fewest {k : Cx} {L0 : Launch} {σ : St} (hI : Inv k σ) : BB k L0 vI mX11_fewest 7 10 4967 mX12_fewest 6 [] σ := by
  obtain ⟨on, kd, n, e, an, wt, tb, q, qs, tr, Ls, hW, hX, hM⟩ := id hI
  obtain ⟨w1, w2, w3, w4, w5, w6, w7, w8, w9, w10, w11⟩ := id hW
  obtain ⟨x1, x2, x3, x4, x5, x6⟩ := id hX
  obtain ⟨⟨yp, np, g1, g2⟩, f, g3, g4, g5⟩ := id x4
  obtain ⟨c1, c2, ww, c3, c4⟩ := id x5
  obtain ⟨sk, sm, m1, m2, m3, ⟨l, m4, m5, m6⟩, ⟨bf, m7, m8, m9⟩, m10, ⟨C, m11, m12⟩, m13⟩ := id hM
  have hfl : ∀ i, i < n → f (an * 16 + i) = l i := fun i hi => (g5 an (Nat.le_refl _) i hi).trans (m6 i hi).symm
  rcases (show on = 0 ∨ on = 1 by omega) with e0 | e0
  · subst e0
    exact BB.pure hI (c_fewestX0 x2.1 g1) (c_fewestM0 m1) rfl
  · subst e0
    obtain ⟨hq, sq, ow, t, F, kn, t1, t2, t3, t4, t5, t6, t7, t8, t9, t10, t11, t12, t13, t14⟩ := x6.at w2
    have hrow := hQ_row (fun i hi => g5 an (Nat.le_refl _) i hi)
    have hrow2 := hQ_row (f := l) (r := 0) (L := Ls an) (n := n) (fun i hi => by rw [Nat.zero_add]; exact m6 i hi)
    have hval : F (plQ (hQ f (an * 16) n)) = (fewN (cyK kd) (cnK kd) (hQ (Ls an) 0 n) : Int) := by
      rw [hrow]
      exact Kn_few t13 w4 t14 (row_Dm (fun i hi => (w10 an (Nat.le_refl _) i hi).2))
    have hle := fewN_le (cyK kd) (cnK kd) (hQ (Ls an) 0 n)
    refine BB.mk hI (v := .int (iZ (if (fewN (cyK kd) (cnK kd) (hQ (Ls an) 0 n) : Int) ≤ 12 then (fewN (cyK kd) (cnK kd) (hQ (Ls an) 0 n) : Int) else -9))) (P := fun σ1 => σ1 = σ) ((c_fewestX x2.1 g1 g3 g4 w5 w3 t1 w2 t5 t9.1 t9.2.1 t11).mono (fun v σ1 hp => ⟨?_, hp.2⟩)) (fun σ1 hp => ?_)
    · rw [hp.1, hval]
    · subst hp
      refine (c_fewestM m1 m4 m5 w3 w2 m13 (by rw [hrow2]; exact w11 rfl an (Nat.le_refl _))).mono (fun v σ2 hp => ⟨?_, ?_⟩)
      · rw [hp.1, hrow2, told_eq hle]
      · exact ⟨1, kd, n, e, an, wt, tb, q, qs, tr, Ls, hW, hX.frG hp.2.2, hM.frG hp.2.1 hp.2.2⟩

set_option maxRecDepth 100000 in
set_option maxHeartbeats 4000000 in
theorem bb_spans {k : Cx} {L0 : Launch} {σ : St} (hI : Inv k σ) : BB k L0 vI mX11_spans 7 2 4100 mX12_spans 5 [] σ := by
  obtain ⟨on, kd, n, e, an, wt, tb, q, qs, tr, Ls, hW, hX, hM⟩ := id hI
  obtain ⟨w1, w2, w3, w4, w5, w6, w7, w8, w9, w10, w11⟩ := id hW
  obtain ⟨x1, x2, x3, x4, x5, x6⟩ := id hX
  obtain ⟨⟨yp, np, g1, g2⟩, f, g3, g4, g5⟩ := id x4
  obtain ⟨c1, c2, ww, c3, c4⟩ := id x5
  obtain ⟨sk, sm, m1, m2, m3, ⟨l, m4, m5, m6⟩, ⟨bf, m7, m8, m9⟩, m10, ⟨C, m11, m12⟩, m13⟩ := id hM
  have hfl : ∀ i, i < n → f (an * 16 + i) = l i := fun i hi => (g5 an (Nat.le_refl _) i hi).trans (m6 i hi).symm
  rcases (show on = 0 ∨ on = 1 by omega) with e0 | e0
  · subst e0
    exact BB.pure hI (c_spansX0 x2.1 g1) (c_spansM0 m1) rfl
  · subst e0
    by_cases hb : 6 < n ∨ 2 < e
    · exact BB.pure hI (c_spansXb x2.1 g1 w3 w4 hb) (c_spansMb m1 w3 w4 hb) rfl
    · have hn1 := w9 rfl
      have hn6 : n ≤ 6 := by omega
      have he2 : e ≤ 2 := by omega
      have hr2 : ∀ j, j < n → -1 ≤ f (an * 16 + j) ∧ f (an * 16 + j) ≤ 2 := fun j hj => by
        have h1 := w10 an (Nat.le_refl _) j hj
        rw [g5 an (Nat.le_refl _) j hj]
        exact ⟨h1.1, by omega⟩
      have hdl : dgS l n < 2 ^ (2 * n) := dgS_lt (fun j hj => by rw [← hfl j hj]; exact hr2 j hj) (Nat.le_refl n)
      have hts := ts_le w2 ⟨hn1, hn6⟩ hdl
      obtain ⟨i, hi, hs⟩ := stand_ex (w11 rfl an (Nat.le_refl _))
      have hsf : SF kd (dgS l n) = (TS kd (dgS l n) : Int) := if_neg (dgS_pos hi (by rw [m6 i hi]; exact hs))
      refine BB.mk hI (v := .int (iZ (if (TS kd (dgS l n) : Int) ≤ 12 then (TS kd (dgS l n) : Int) else -9))) (P := fun σ1 => IX k σ1 1 kd n e an wt tb q qs tr Ls ∧ ∀ a, cBase k + 14 ≤ a → a < cBase k + 25 → σ1.2 a = σ.2 a) ((c_spansX x2 x1 g1 x6 g3 hr2 w5 hn6 he2 w2).mono (fun v σ1 hp => ?_)) (fun σ1 hp => ?_)
      · obtain ⟨p1, p2, p3, p4, p5⟩ := hp
        rw [dgS_congr hfl] at p1
        have pf : ∀ a, a < cBase k + 25 → a ≠ cBase k + 6 → a ≠ cBase k + 8 → σ1.2 a = σ.2 a := p5
        exact ⟨p1, ⟨p2, p3, (pf _ (by omega) (by omega) (by omega)).trans x3, ⟨⟨yp, np, (pf _ (by omega) (by omega) (by omega)).trans g1, g2⟩, f, (pf _ (by omega) (by omega) (by omega)).trans g3, g4, g5⟩, ⟨(pf _ (by omega) (by omega) (by omega)).trans c1, (pf _ (by omega) (by omega) (by omega)).trans c2, ww, (pf _ (by omega) (by omega) (by omega)).trans c3, c4⟩, p4⟩, fun a h1 h2 => pf a (by omega) (by omega) (by omega)⟩
      · have hM1 := hM.fr hp.2
        have hl0 : ∀ i, i < n → l i = Ls an i := m6
        obtain ⟨sk, sm, m1, m2, m3, ⟨l2, m4, m5, m6⟩, ⟨bf, m7, m8, m9⟩, m10, ⟨C, m11, m12⟩, m13⟩ := id hM1
        have hd2 : dgS l2 n = dgS l n := dgS_congr (fun i hi => (m6 i hi).trans (hl0 i hi).symm)
        refine (c_spansM m1 w2 hn6 he2 m4 (fun j hj => by rw [m6 j hj, ← hl0 j hj, ← hfl j hj]; exact hr2 j hj) hn1 m11 m12 m2 m3).mono (fun v σ2 hq => ⟨?_, ?_⟩)
        · rw [hq.1, hd2, hsf, told_eq hts]
        · obtain ⟨_, C', s1, s2⟩ := hq
          rw [s2]
          refine ⟨1, kd, n, e, an, wt, tb, q, qs, tr, Ls, hW, hp.1.fr rfl (fun a ha => (if_neg (by omega)).trans (if_neg (by omega))), ⟨(kd : Int), (n : Int), sUp_ne (by omega) sUp_same, ⟨by omega, by omega⟩, ⟨by omega, by omega⟩, ⟨l2, sUp_ne (by omega) (sUp_ne (by omega) m4), m5, m6⟩, ⟨bf, sUp_ne (by omega) (sUp_ne (by omega) m7), m8, m9⟩, sUp_ne (by omega) (sUp_ne (by omega) m10), ⟨C', sUp_same, s1⟩, ?_⟩⟩
          obtain ⟨⟨R, r1⟩, ⟨mo, r2⟩, t, r3, r4⟩ := m13
          obtain ⟨q1, ⟨u1, q2⟩, ⟨u2, q3⟩, ⟨u3, q4⟩, q5⟩ := r1
          exact ⟨⟨R, sUp_ne (by omega) (sUp_ne (by omega) q1), ⟨u1, sUp_ne (by omega) (sUp_ne (by omega) q2)⟩, ⟨u2, sUp_ne (by omega) (sUp_ne (by omega) q3)⟩, ⟨u3, sUp_ne (by omega) (sUp_ne (by omega) q4)⟩, q5⟩, ⟨mo, sUp_ne (by omega) (sUp_ne (by omega) r2)⟩, t, sUp_ne (by omega) (sUp_ne (by omega) r3), r4⟩

set_option maxRecDepth 100000 in
set_option maxHeartbeats 4000000 in
theorem bb_best {k : Cx} {L0 : Launch} {σ : St} (hI : Inv k σ) : BB k L0 vI mX11_best 10 20 9934 mX12_best 7 [] σ := by
  obtain ⟨on, kd, n, e, an, wt, tb, q, qs, tr, Ls, hW, hX, hM⟩ := id hI
  obtain ⟨w1, w2, w3, w4, w5, w6, w7, w8, w9, w10, w11⟩ := id hW
  obtain ⟨x1, x2, x3, x4, x5, x6⟩ := id hX
  obtain ⟨⟨yp, np, g1, g2⟩, f, g3, g4, g5⟩ := id x4
  obtain ⟨c1, c2, ww, c3, c4⟩ := id x5
  obtain ⟨sk, sm, m1, m2, m3, ⟨l, m4, m5, m6⟩, ⟨bf, m7, m8, m9⟩, m10, ⟨C, m11, m12⟩, m13⟩ := id hM
  have hfl : ∀ i, i < n → f (an * 16 + i) = l i := fun i hi => (g5 an (Nat.le_refl _) i hi).trans (m6 i hi).symm
  rcases (show on = 0 ∨ on = 1 by omega) with e0 | e0
  · subst e0
    refine BB.mk hI (v := .int (iZ (-2))) (P := fun σ1 => σ1 = σ) (c_bestX0 x2.1 g1) (fun σ1 hp => ?_)
    subst hp
    exact (c_bestM0 m1 w3 m4 m5 w2 m13).mono (fun v σ2 hp => ⟨hp.1, 0, kd, n, e, an, wt, tb, q, qs, tr, Ls, hW, hX.frG hp.2.2, hM.frG hp.2.1 hp.2.2⟩)
  · subst e0
    obtain ⟨hq, sq, ow, t, F, kn, t1, t2, t3, t4, t5, t6, t7, t8, t9, t10, t11, t12, t13, t14⟩ := x6.at w2
    have hrow := hQ_row (fun i hi => g5 an (Nat.le_refl _) i hi)
    have hrow2 := hQ_row (f := l) (r := 0) (L := Ls an) (n := n) (fun i hi => by rw [Nat.zero_add]; exact m6 i hi)
    have hDm : Dm n e (hQ (Ls an) 0 n) := row_Dm (fun i hi => (w10 an (Nat.le_refl _) i hi).2)
    have hval : F (plQ (hQ f (an * 16) n)) = (fewN (cyK kd) (cnK kd) (hQ (Ls an) 0 n) : Int) := by
      rw [hrow]
      exact Kn_few t13 w4 t14 hDm
    have hle := fewN_le (cyK kd) (cnK kd) (hQ (Ls an) 0 n)
    have hst : 1 ≤ (hQ l 0 n).1 := by rw [hrow2]; exact w11 rfl an (Nat.le_refl _)
    by_cases hx : fewN (cyK kd) (cnK kd) (hQ (Ls an) 0 n) = 0 ∨ fewN (cyK kd) (cnK kd) (hQ (Ls an) 0 n) = 13
    · refine BB.mk hI (v := .int (iZ (-2))) (P := fun σ1 => σ1 = σ) (c_bestXx x2.1 g1 g3 g4 w5 w3 t1 w2 t5 t9.1 t9.2.1 t11 (by rw [hval]; omega)) (fun σ1 hp => ?_)
      subst hp
      exact (c_bestMx m1 w3 m4 m5 w2 hst m13 (by rw [hrow2]; exact hx)).mono (fun v σ2 hp => ⟨hp.1, 1, kd, n, e, an, wt, tb, q, qs, tr, Ls, hW, hX.frG hp.2.2, hM.frG hp.2.1 hp.2.2⟩)
    · have hpp := Nat.two_pow_pos n
      obtain ⟨b, hbo⟩ := BO_ex (grt kd l n) (2 ^ n - 1)
      rw [show 2 ^ n - 1 + 1 = 2 ^ n by omega] at hbo
      have hFw : ∀ x, Dec x → leQ x (hQ (Ls an) 0 n) → F (plQ x) = (fewN (cyK kd) (cnK kd) x : Int) := fun x h1 h2 => Kn_few t13 w4 t14 (hDm.le h1 h2)
      have hFm : Fm F (hQ f (an * 16) n) := by
        rw [hrow]
        exact Fm_right (fun x h1 h2 => t13.2 e (by omega) n t14 x (hDm.le h1 h2))
      have hrow3 : hQ (fun i => f (an * 16 + i)) 0 n = hQ (Ls an) 0 n := hQ_row (fun i hi => by rw [Nat.zero_add]; exact g5 an (Nat.le_refl _) i hi)
      refine BB.mk hI (v := .int (iZ (b : Int))) (P := fun σ1 => IX k σ1 1 kd n e an wt tb q qs tr Ls ∧ ∀ a, cBase k + 14 ≤ a → a < cBase k + 25 → σ1.2 a = σ.2 a) ((c_bestX x2.1 g1 g3 g4 w5 w3 t1 w2 t5 t9.1 t9.2.1 t11 t6 (by rw [hval]; omega) t10 hFm).mono (fun v σ1 hp => ?_)) (fun σ1 hp => ?_)
      · obtain ⟨ls, w, p1, p2, p3, p4, p5⟩ := hp
        have hbb : BO (grt kd l n) (2 ^ n) ls := by
          rw [← grt_congr (l := fun i => f (an * 16 + i)) hfl]
          refine best_is w2 (fun j => g4 _) w3 (v := fewN (cyK kd) (cnK kd) (hQ (Ls an) 0 n)) (by rw [hrow3]) (by omega) (by omega) (F := F) (fun x h1 h2 => hFw x h1 (by rw [← hrow3]; exact h2)) (w := w) (fun u hu => p3 u hu) ?_
          rw [hrow3, ← hval, ← hrow]
          exact p2
        refine ⟨by rw [p1, BO_uniq hbb hbo], ?_, fun a h1 h2 => p5.2 a (by omega)⟩
        have hfr : ∀ a, a < cBase k + 25 → σ1.2 a = σ.2 a := fun a ha => p5.2 a (by omega)
        have hs1 := p5.1
        refine ⟨by omega, x2.fr' (fun a ha => hfr a (by omega)) (hfr _ (by omega)), (hfr _ (by omega)).trans x3, ⟨⟨yp, np, (hfr _ (by omega)).trans g1, g2⟩, f, (hfr _ (by omega)).trans g3, g4, g5⟩, ⟨(hfr _ (by omega)).trans c1, (hfr _ (by omega)).trans c2, ww, (hfr _ (by omega)).trans c3, c4⟩, ⟨hq, sq, ow, (hfr _ (by omega)).trans t1, (hfr _ (by omega)).trans t2, fun j hj => ?_, fun j hj => ?_⟩⟩
        · have hother : ∀ a, cBase k + 25 ≤ a → a < σ.1 → ow a ≠ kd → σ1.2 a = σ.2 a := fun a h1 h2 h3 => by
            have h4 : ¬ (t ≤ a ∧ a < t + 10) := fun z => h3 (t8 a z.1 z.2)
            exact p5.2 a (by omega)
          by_cases ej : j = kd
          · subst ej
            refine Or.inr ⟨t, t5, t6, by omega, t8, F, kn, t9.fr (fun a h1 h2 => p5.2 a (by omega)), p4, (p5.2 _ (by omega)).trans t11, (p5.2 _ (by omega)).trans t12, t13, ?_⟩
            rw [if_pos ⟨rfl, rfl⟩]
            exact t14
          · exact t3.other (j0 := kd) (by omega) hother j hj ej
        · have hother : ∀ a, cBase k + 25 ≤ a → a < σ.1 → ow a ≠ kd → σ1.2 a = σ.2 a := fun a h1 h2 h3 => by
            have h4 : ¬ (t ≤ a ∧ a < t + 10) := fun z => h3 (t8 a z.1 z.2)
            exact p5.2 a (by omega)
          exact t4.other (j0 := kd) (by omega) hother j hj (by omega)
      · have hM1 := hM.fr hp.2
        have hl0 : ∀ i, i < n → l i = Ls an i := m6
        obtain ⟨sk, sm, m1, m2, m3, ⟨l2, m4, m5, m6⟩, ⟨bf, m7, m8, m9⟩, m10, ⟨C, m11, m12⟩, m13⟩ := id hM1
        have hrow4 := hQ_row (f := l2) (r := 0) (L := Ls an) (n := n) (fun i hi => by rw [Nat.zero_add]; exact m6 i hi)
        refine (c_bestM m1 w3 m4 m5 w2 (by rw [hrow4, ← hrow2]; exact hst) m13 (by rw [hrow4]; omega)).mono (fun v σ2 hq => ?_)
        obtain ⟨b2, q1, q2, q3, q4⟩ := hq
        rw [grt_congr (l' := l) (fun i hi => (m6 i hi).trans (hl0 i hi).symm)] at q2
        exact ⟨by rw [q1, BO_uniq q2 hbo], 1, kd, n, e, an, wt, tb, q, qs, tr, Ls, hW, hp.1.frG q4, hM1.frG q3 q4⟩

set_option maxRecDepth 100000 in
set_option maxHeartbeats 4000000 in
theorem bb_worse {k : Cx} {L0 : Launch} {σ : St} (hI : Inv k σ) : BB k L0 vI mX11_worse 7 20 9934 mX12_worse 6 [] σ := by
  obtain ⟨on, kd, n, e, an, wt, tb, q, qs, tr, Ls, hW, hX, hM⟩ := id hI
  obtain ⟨w1, w2, w3, w4, w5, w6, w7, w8, w9, w10, w11⟩ := id hW
  obtain ⟨x1, x2, x3, x4, x5, x6⟩ := id hX
  obtain ⟨⟨yp, np, g1, g2⟩, f, g3, g4, g5⟩ := id x4
  obtain ⟨c1, c2, ww, c3, c4⟩ := id x5
  obtain ⟨sk, sm, m1, m2, m3, ⟨l, m4, m5, m6⟩, ⟨bf, m7, m8, m9⟩, m10, ⟨C, m11, m12⟩, m13⟩ := id hM
  have hfl : ∀ i, i < n → f (an * 16 + i) = l i := fun i hi => (g5 an (Nat.le_refl _) i hi).trans (m6 i hi).symm
  have hpn : 2 ^ n ≤ 2 ^ 16 := Nat.pow_le_pow_right (by decide) w3
  have hwr := wt_R w3 w8
  by_cases h : on = 0 ∨ wt = -1
  · exact BB.pure hI (c_worseX0 x2.1 g1 w1 hwr h) (c_worseM0 m1 (by omega)) rfl
  · have e0 : on = 1 := by omega
    subst e0
    obtain ⟨b, rfl, hb⟩ := w8.resolve_left (fun z => h (Or.inr z))
    obtain ⟨rfl, rfl⟩ := g2 rfl
    obtain ⟨hq, sq, ow, t, F, kn, t1, t2, t3, t4, t5, t6, t7, t8, t9, t10, t11, t12, t13, t14⟩ := x6.at w2
    have hrow2 := hQ_row (f := l) (r := 0) (L := Ls an) (n := n) (fun i hi => by rw [Nat.zero_add]; exact m6 i hi)
    have hDm : Dm n e (hQ (Ls an) 0 n) := row_Dm (fun i hi => (w10 an (Nat.le_refl _) i hi).2)
    have hFw : ∀ x, Dec x → leQ x (hQ l 0 n) → F (plQ x) = (fewN (cyK kd) (cnK kd) x : Int) := fun x h1 h2 => Kn_few t13 w4 t14 (hDm.le h1 (by rw [← hrow2]; exact h2))
    have r1 := gB_rng kd l n b 1
    have r0 := gB_rng kd l n b 0
    refine BB.mk hI (v := .int (iZ (if 12 < gB kd l n b 1 ∨ 12 < gB kd l n b 0 then -2 else if gB kd l n b 0 ≤ gB kd l n b 1 then 1 else 0 : Int))) (P := fun σ1 => IX k σ1 1 kd n e an (b : Int) tb q qs tr Ls ∧ ∀ a, cBase k + 14 ≤ a → a < cBase k + 25 → σ1.2 a = σ.2 a) ((c_worseX x2.1 g1 g3 g4 w5 w3 t1 w2 t5 t9.1 t9.2.1 t11 t6 (by omega) m5 hfl hFw).mono (fun v σ1 hp => ?_)) (fun σ1 hp => ?_)
    · obtain ⟨p1, f', rfl, p3, p4⟩ := hp
      exact ⟨p1, hX.gm ⟨rfl, fun a _ h2 => if_neg h2⟩ ⟨⟨_, _, sUp_ne (by omega) g1, fun _ => ⟨rfl, rfl⟩⟩, f', sUp_same, p3, fun a ha i hi => (p4 _ (by omega)).trans (g5 a ha i hi)⟩, fun a h1 h2 => if_neg (by omega)⟩
    · have hM1 := hM.fr hp.2
      have hl0 : ∀ i, i < n → l i = Ls an i := m6
      obtain ⟨sk, sm, m1, m2, m3, ⟨l2, m4, m5, m6⟩, ⟨bf, m7, m8, m9⟩, m10, ⟨C, m11, m12⟩, m13⟩ := id hM1
      have hl2 : ∀ i, i < n → l2 i = l i := fun i hi => (m6 i hi).trans (hl0 i hi).symm
      refine (c_worseM m1 w3 m4 m5 w2 (by omega) m13).mono (fun v σ2 hq => ⟨?_, 1, kd, n, e, an, (b : Int), tb, q, qs, tr, Ls, hW, hp.1.frG hq.2.2, hM1.frG hq.2.1 hq.2.2⟩)
      rw [hq.1, gB_congr hl2, gB_congr hl2]
      by_cases hh : 12 < gB kd l n b 1 ∨ 12 < gB kd l n b 0
      · rw [if_pos (show gB kd l n b 1 = 13 ∨ gB kd l n b 0 = 13 by omega), if_pos hh]
      · rw [if_neg (show ¬ (gB kd l n b 1 = 13 ∨ gB kd l n b 0 = 13) by omega), if_neg hh]

set_option maxRecDepth 100000 in
set_option maxHeartbeats 4000000 in
theorem bb_begin {k : Cx} {L0 : Launch} {σ : St} (hI : Inv k σ) {a b c : Int} (ha : zR a) (hb : zR b) (hc : zR c) : BB k L0 vI mX11_begin 10 20 9934 mX12_begin 6 [.int (iZ a), .int (iZ b), .int (iZ c)] σ := by
  obtain ⟨on, kd, n, e, an, wt, tb, q, qs, tr, Ls, hW, hX, hM⟩ := id hI
  obtain ⟨w1, w2, w3, w4, w5, w6, w7, w8, w9, w10, w11⟩ := id hW
  obtain ⟨x1, x2, x3, x4, x5, x6⟩ := id hX
  obtain ⟨⟨yp, np, g1, g2⟩, f, g3, g4, g5⟩ := id x4
  obtain ⟨c1, c2, ww, c3, c4⟩ := id x5
  obtain ⟨sk, sm, m1, m2, m3, ⟨l, m4, m5, m6⟩, ⟨bf, m7, m8, m9⟩, m10, ⟨C, m11, m12⟩, m13⟩ := id hM
  have hfl : ∀ i, i < n → f (an * 16 + i) = l i := fun i hi => (g5 an (Nat.le_refl _) i hi).trans (m6 i hi).symm
  by_cases hbad : ¬ (0 ≤ a ∧ a < 3) ∨ ¬ (1 ≤ b ∧ b ≤ 16) ∨ (a ≠ 0 ∧ ¬ (0 ≤ c ∧ c ≤ 3))
  · exact BB.pure hI (c_beginX0 ha hb hc hbad) (c_beginM0 m1 ha hb hc hbad) rfl
  · obtain ⟨kd2, rfl⟩ : ∃ i : Nat, a = (i : Int) := ⟨a.toNat, by omega⟩
    obtain ⟨n2, rfl⟩ : ∃ i : Nat, b = (i : Int) := ⟨b.toNat, by omega⟩
    obtain ⟨e2, he2, hce⟩ : ∃ e2 : Nat, e2 ≤ 3 ∧ ((kd2 = 0 ∧ e2 = 0) ∨ (kd2 ≠ 0 ∧ c = (e2 : Int))) := by
      by_cases h0 : kd2 = 0
      · exact ⟨0, by omega, Or.inl ⟨h0, rfl⟩⟩
      · exact ⟨c.toNat, by omega, Or.inr ⟨h0, by omega⟩⟩
    have hk2 : kd2 < 3 := by omega
    have hn2 : 1 ≤ n2 ∧ n2 ≤ 16 := by omega
    have hle := fewN_le (cyK kd2) (cnK kd2) (hQ (fun _ => (e2 : Int)) 0 n2)
    refine BB.mk hI (v := .int (iZ (if (fewN (cyK kd2) (cnK kd2) (hQ (fun _ => (e2 : Int)) 0 n2) : Int) ≤ 12 then (fewN (cyK kd2) (cnK kd2) (hQ (fun _ => (e2 : Int)) 0 n2) : Int) else -9))) (P := fun σ1 => IX k σ1 1 kd2 n2 e2 0 (-1) tb q qs tr (fun _ _ => (e2 : Int)) ∧ ∀ a, cBase k + 14 ≤ a → a < cBase k + 25 → σ1.2 a = σ.2 a) ((c_beginX x2 x1 x6 g1 g3 g4 hc hk2 hn2 he2 hce).mono (fun v σ1 hp => ?_)) (fun σ1 hp => ?_)
    · obtain ⟨p1, p2, p3, p4, p5, p6⟩ := hp
      exact ⟨p1, ⟨p2, p3, (p6 _ (by omega) (by omega) (by omega) (by omega) (by omega)).trans x3, p4, ⟨(p6 _ (by omega) (by omega) (by omega) (by omega) (by omega)).trans c1, (p6 _ (by omega) (by omega) (by omega) (by omega) (by omega)).trans c2, ww, (p6 _ (by omega) (by omega) (by omega) (by omega) (by omega)).trans c3, c4⟩, p5⟩, fun a h1 h2 => p6 a (by omega) (by omega) (by omega) (by omega) (by omega)⟩
    · have hM1 := hM.fr hp.2
      obtain ⟨sk, sm, m1, m2, m3, ⟨l2, m4, m5, m6⟩, ⟨bf, m7, m8, m9⟩, m10, ⟨C, m11, m12⟩, m13⟩ := id hM1
      have hbg : ∀ i, i < n2 → bgF l2 n2 e2 16 i = (e2 : Int) := fun i hi => by
        unfold bgF
        rw [if_pos (by omega), if_pos hi]
      have hrow4 := hQ_row (f := bgF l2 n2 e2 16) (r := 0) (L := fun _ => (e2 : Int)) (n := n2) (fun i hi => by rw [Nat.zero_add]; exact hbg i hi)
      refine (c_beginM m1 m4 m5 m13 hc hk2 hn2 he2 hce).mono (fun v σ2 hq => ⟨?_, ?_⟩)
      · rw [hq.1, hrow4, told_eq hle]
      · obtain ⟨_, q2, q3⟩ := hq
        have hx1 := hp.1.fr (σ' := sUp (sUp σ1 (cBase k + 14) (oModel k 1 kd2 n2 e2 0 (-1) tb q tr sk sm)) (cBase k + 15) (eI k 16 (bgF l2 n2 e2 16))) rfl (fun a ha => (if_neg (by omega)).trans (if_neg (by omega)))
        exact ⟨1, kd2, n2, e2, 0, -1, tb, q, qs, tr, fun _ _ => (e2 : Int), ⟨by decide, hk2, hn2.2, he2, by omega, w6, w7, Or.inl rfl, fun _ => hn2.1, fun _ _ _ _ => ⟨(by omega : (-1 : Int) ≤ (e2 : Int)), Int.le_refl _⟩, fun _ _ _ => by rw [hQ_const]; exact hn2.1⟩, hx1.frG q3, ⟨sk, sm, q3.at (by omega) (by omega) (sUp_ne (by omega) sUp_same), m2, m3, ⟨_, q3.at (by omega) (by omega) sUp_same, bgF_rng m5 n2 he2 16, hbg⟩, ⟨bf, q3.at (by omega) (by omega) (sUp_ne (by omega) (sUp_ne (by omega) m7)), m8, fun a ha => absurd ha (Nat.not_lt_zero a)⟩, q3.at (by omega) (by omega) (sUp_ne (by omega) (sUp_ne (by omega) m10)), ⟨C, q3.at (by omega) (by omega) (sUp_ne (by omega) (sUp_ne (by omega) m11)), m12⟩, q2⟩⟩
