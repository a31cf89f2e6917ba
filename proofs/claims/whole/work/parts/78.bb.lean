/-! both, call by call -/
theorem BB.mk {k : Cx} {L0 : Launch} {T : Value → Prop} {M1 M2 : Mth} {h1 mc ms h2 : Nat} {as_ : List Value} {σ : St} (hI : Inv k σ) {v : Value} {P : St → Prop} (C1 : CtrV k L0 M1 h1 mc ms (.ref (cBase k) :: as_) σ (fun v1 σ1 => v1 = v ∧ P σ1)) (C2 : ∀ σ1, P σ1 → CtrV k L0 M2 h2 0 0 (.ref (cBase k + 14) :: as_) σ1 (fun v2 σ2 => v2 = v ∧ Inv k σ2)) (hm : ∀ σ1, P σ1 → σ1.2 (cBase k + 14) = σ.2 (cBase k + 14) := by first | exact fun _ h => by rw [h] | exact fun _ h => h.2 _ (by omega) (by omega)) (hT : T v := by exact ⟨_, rfl⟩) : BB k L0 T M1 h1 mc ms M2 h2 as_ σ := ⟨v, hT, C1.mono (fun v1 σ1 h => ⟨h.1, hI.m.imp (fun _ g => (hm σ1 h.2).trans g), C2 σ1 h.2⟩)⟩
theorem BB.pure {k : Cx} {L0 : Launch} {T : Value → Prop} {M1 M2 : Mth} {h1 mc ms h2 : Nat} {as_ : List Value} {σ : St} {v v' : Value} (hI : Inv k σ) (C1 : CtrV k L0 M1 h1 mc ms (.ref (cBase k) :: as_) σ (fun v1 σ1 => v1 = v ∧ σ1 = σ)) (C2 : CtrV k L0 M2 h2 0 0 (.ref (cBase k + 14) :: as_) σ (fun v2 σ2 => v2 = v' ∧ σ2 = σ)) (e : v' = v) (hT : T v := by exact ⟨_, rfl⟩) : BB k L0 T M1 h1 mc ms M2 h2 as_ σ :=
  BB.mk hI C1 (fun σ1 hs => by subst hs; subst e; exact C2.mono (fun v2 σ2 h => ⟨h.1, by rw [h.2]; exact hI⟩)) (fun σ1 hs => by rw [hs]) hT
theorem IM.frG {k : Cx} {σ σ' : St} {on kd n e an : Nat} {wt tb : Int} {q : Nat} {qs : Nat → Nat} {tr : Int} {Ls : Nat → Nat → Int} (h : IM k σ on kd n e an wt tb q qs tr Ls) (hW : WS k σ') (hF : FrG k σ σ') : IM k σ' on kd n e an wt tb q qs tr Ls := by
  obtain ⟨sk, sm, h1, h2, h3, ⟨l, h4, h5⟩, ⟨b, h6, h7⟩, h8, ⟨C, h9, h10⟩, h11⟩ := h
  exact ⟨sk, sm, hF.at (by omega) (by omega) h1, h2, h3, ⟨l, hF.at (by omega) (by omega) h4, h5⟩, ⟨b, hF.at (by omega) (by omega) h6, h7⟩, hF.at (by omega) (by omega) h8, ⟨C, hF.at (by omega) (by omega) h9, h10⟩, hW⟩
theorem IX.frG {k : Cx} {σ σ' : St} {on kd n e an : Nat} {wt tb : Int} {q : Nat} {qs : Nat → Nat} {tr : Int} {Ls : Nat → Nat → Int} (h : IX k σ on kd n e an wt tb q qs tr Ls) (hF : FrG k σ σ') : IX k σ' on kd n e an wt tb q qs tr Ls := h.fr hF.1 (fun a ha => hF.2 a (by omega) (by omega))
theorem wt_R {n : Nat} {wt : Int} (hn : n ≤ 16) (h : wt = -1 ∨ ∃ b : Nat, wt = (b : Int) ∧ b < 2 ^ n) : zR wt := by
  have hp : 2 ^ n ≤ 2 ^ 16 := Nat.pow_le_pow_right (by decide) hn
  rcases h with h | ⟨b, h, hb⟩
  · exact ⟨by omega, by omega⟩
  · exact ⟨by omega, by omega⟩
set_option maxRecDepth 100000 in
set_option maxHeartbeats 4000000 in
theorem bb_trace {k : Cx} {L0 : Launch} {σ : St} (hI : Inv k σ) : BB k L0 vL mX11_trace 1 0 0 mX12_trace 1 [] σ := by
  obtain ⟨on, kd, n, e, an, wt, tb, q, qs, tr, Ls, hW, hX, hM⟩ := id hI
  obtain ⟨w1, w2, w3, w4, w5, w6, w7, w8, w9, w10, w11⟩ := id hW
  obtain ⟨x1, x2, x3, x4, x5, x6⟩ := id hX
  obtain ⟨⟨yp, np, g1, g2⟩, f, g3, g4, g5⟩ := id x4
  obtain ⟨c1, c2, ww, c3, c4⟩ := id x5
  obtain ⟨sk, sm, m1, m2, m3, ⟨l, m4, m5, m6⟩, ⟨bf, m7, m8, m9⟩, m10, ⟨C, m11, m12⟩, m13⟩ := id hM
  have hfl : ∀ i, i < n → f (an * 16 + i) = l i := fun i hi => (g5 an (Nat.le_refl _) i hi).trans (m6 i hi).symm
  exact BB.pure hI (c_traceX x2.1 x3) (c_traceM m1) rfl

set_option maxRecDepth 100000 in
set_option maxHeartbeats 4000000 in
theorem bb_told {k : Cx} {L0 : Launch} {σ : St} (hI : Inv k σ) {z : Int} (hz : zR z) : BB k L0 vI mX11_told 1 0 0 mX12_told 1 [.int (iZ z)] σ := by
  obtain ⟨on, kd, n, e, an, wt, tb, q, qs, tr, Ls, hW, hX, hM⟩ := id hI
  obtain ⟨w1, w2, w3, w4, w5, w6, w7, w8, w9, w10, w11⟩ := id hW
  obtain ⟨x1, x2, x3, x4, x5, x6⟩ := id hX
  obtain ⟨⟨yp, np, g1, g2⟩, f, g3, g4, g5⟩ := id x4
  obtain ⟨c1, c2, ww, c3, c4⟩ := id x5
  obtain ⟨sk, sm, m1, m2, m3, ⟨l, m4, m5, m6⟩, ⟨bf, m7, m8, m9⟩, m10, ⟨C, m11, m12⟩, m13⟩ := id hM
  have hfl : ∀ i, i < n → f (an * 16 + i) = l i := fun i hi => (g5 an (Nat.le_refl _) i hi).trans (m6 i hi).symm
  rcases (show (z < 0 ∨ 7 < z) ∨ z = 0 ∨ z = 1 ∨ z = 2 ∨ z = 3 ∨ z = 4 ∨ z = 5 ∨ z = 6 ∨ z = 7 by omega) with h | h | h | h | h | h | h | h | h
  · exact BB.pure hI (c_toldXx hz h) (c_toldMx hz h) rfl
  · subst h; exact BB.pure hI (c_toldX0 x2.1 g1 w1) (c_toldM0 m1 w1) rfl
  · subst h; exact BB.pure hI (c_toldX1 x2.1 g1) (c_toldM1 m1) rfl
  · subst h; exact BB.pure hI (c_toldX2 x2.1 g1) (c_toldM2 m1) rfl
  · subst h; exact BB.pure hI (c_toldX3 x2.1 g1) (c_toldM3 m1) rfl
  · subst h; exact BB.pure hI (c_toldX4 x2.1 g1) (c_toldM4 m1) rfl
  · subst h; exact BB.pure hI (c_toldX5 x2.1 g1) (c_toldM5 m1) rfl
  · subst h; exact BB.pure hI (c_toldX6 x2.1 c1 w6) (c_toldM6 m1) rfl
  · subst h; exact BB.pure hI (c_toldX7 x2.1) (c_toldM7 m1) rfl

set_option maxRecDepth 100000 in
set_option maxHeartbeats 4000000 in
theorem bb_left {k : Cx} {L0 : Launch} {σ : St} (hI : Inv k σ) {z : Int} (hz : zR z) : BB k L0 vI mX11_left 3 0 0 mX12_left 2 [.int (iZ z)] σ := by
  obtain ⟨on, kd, n, e, an, wt, tb, q, qs, tr, Ls, hW, hX, hM⟩ := id hI
  obtain ⟨w1, w2, w3, w4, w5, w6, w7, w8, w9, w10, w11⟩ := id hW
  obtain ⟨x1, x2, x3, x4, x5, x6⟩ := id hX
  obtain ⟨⟨yp, np, g1, g2⟩, f, g3, g4, g5⟩ := id x4
  obtain ⟨c1, c2, ww, c3, c4⟩ := id x5
  obtain ⟨sk, sm, m1, m2, m3, ⟨l, m4, m5, m6⟩, ⟨bf, m7, m8, m9⟩, m10, ⟨C, m11, m12⟩, m13⟩ := id hM
  have hfl : ∀ i, i < n → f (an * 16 + i) = l i := fun i hi => (g5 an (Nat.le_refl _) i hi).trans (m6 i hi).symm
  rcases (show on = 0 ∨ on = 1 by omega) with e0 | e0
  · subst e0
    by_cases h : 0 ≤ z ∧ z ≤ 15
    · exact BB.pure hI (c_leftX1 x2.1 g1 hz (by omega)) (c_leftM0 m1 hz) (by rw [if_pos h])
    · exact BB.pure hI (c_leftX0 x2.1 g1 hz (by decide) (by omega)) (c_leftM0 m1 hz) (by rw [if_neg h])
  · subst e0
    by_cases h : 0 ≤ z ∧ z < (n : Int)
    · obtain ⟨i, rfl⟩ : ∃ i : Nat, z = (i : Int) := ⟨z.toNat, by omega⟩
      exact BB.pure hI (c_leftX x2.1 g1 g3 g4 w5 w3 (by omega)) (c_leftM1 m1 m4 m5 w3 (show i < n by omega)) (by rw [hfl i (by omega)])
    · by_cases h2 : 0 ≤ z ∧ z < 16
      · exact BB.pure hI (c_leftX2 x2.1 g1 hz w3 h2 (by omega)) (c_leftMx m1 w3 hz (by omega)) rfl
      · exact BB.pure hI (c_leftX0 x2.1 g1 hz (by decide) h2) (c_leftMx m1 w3 hz (by omega)) rfl

set_option maxRecDepth 100000 in
set_option maxHeartbeats 4000000 in
theorem bb_state {k : Cx} {L0 : Launch} {σ : St} (hI : Inv k σ) {z : Int} (hz : zR z) : BB k L0 vI mX11_state 4 0 0 mX12_state 2 [.int (iZ z)] σ := by
  obtain ⟨on, kd, n, e, an, wt, tb, q, qs, tr, Ls, hW, hX, hM⟩ := id hI
  obtain ⟨w1, w2, w3, w4, w5, w6, w7, w8, w9, w10, w11⟩ := id hW
  obtain ⟨x1, x2, x3, x4, x5, x6⟩ := id hX
  obtain ⟨⟨yp, np, g1, g2⟩, f, g3, g4, g5⟩ := id x4
  obtain ⟨c1, c2, ww, c3, c4⟩ := id x5
  obtain ⟨sk, sm, m1, m2, m3, ⟨l, m4, m5, m6⟩, ⟨bf, m7, m8, m9⟩, m10, ⟨C, m11, m12⟩, m13⟩ := id hM
  have hfl : ∀ i, i < n → f (an * 16 + i) = l i := fun i hi => (g5 an (Nat.le_refl _) i hi).trans (m6 i hi).symm
  by_cases h : 0 ≤ z ∧ z ≤ 3
  · rcases (show on = 0 ∨ on = 1 by omega) with e0 | e0
    · subst e0
      exact BB.pure hI (c_stateX1 x2.1 g1 hz h) (c_stateM1 m1 hz h) rfl
    · subst e0
      refine BB.pure hI (c_stateX x2.1 g1 g3 g4 w5 w3 hz h) (c_stateM m1 m4 m5 w3 hz h) ?_
      have hc9 : cnt (fun j => f (an * 16 + j) == z) n = cnt (fun j => l j == z) n := cnt_congr (fun i hi => by rw [hfl i hi])
      rw [hc9]
  · exact BB.pure hI (c_stateX0 x2.1 g1 hz w1 h) (c_stateM0 m1 hz h) rfl

set_option maxRecDepth 100000 in
set_option maxHeartbeats 4000000 in
theorem bb_found {k : Cx} {L0 : Launch} {σ : St} (hI : Inv k σ) : BB k L0 vI mX11_found 3 0 0 mX12_found 2 [] σ := by
  obtain ⟨on, kd, n, e, an, wt, tb, q, qs, tr, Ls, hW, hX, hM⟩ := id hI
  obtain ⟨w1, w2, w3, w4, w5, w6, w7, w8, w9, w10, w11⟩ := id hW
  obtain ⟨x1, x2, x3, x4, x5, x6⟩ := id hX
  obtain ⟨⟨yp, np, g1, g2⟩, f, g3, g4, g5⟩ := id x4
  obtain ⟨c1, c2, ww, c3, c4⟩ := id x5
  obtain ⟨sk, sm, m1, m2, m3, ⟨l, m4, m5, m6⟩, ⟨bf, m7, m8, m9⟩, m10, ⟨C, m11, m12⟩, m13⟩ := id hM
  have hfl : ∀ i, i < n → f (an * 16 + i) = l i := fun i hi => (g5 an (Nat.le_refl _) i hi).trans (m6 i hi).symm
  rcases (show on = 0 ∨ on = 1 by omega) with e0 | e0
  · subst e0
    exact BB.pure hI (c_foundX0 x2.1 g1) (c_foundM0 m1) rfl
  · subst e0
    have hc : cnt (fun j => decide (0 ≤ f (an * 16 + j))) n = cnt (fun j => decide (0 ≤ l j)) n := cnt_congr (fun i hi => by rw [hfl i hi])
    by_cases h : cnt (fun j => decide (0 ≤ l j)) n = 1
    · refine BB.pure hI (c_foundX x2.1 g1 g3 g4 w5 w3) (c_foundM m1 m4 m5 w3 h) ?_
      rw [if_pos (by rw [hc]; exact h)]
      obtain ⟨i, a1, a2, a3⟩ := cnt_kth (p := fun j => decide (0 ≤ l j)) (c := 0) (n := n) (by omega)
      rw [fdL_one h a1 a2, fdL_one (by rw [hc]; exact h) a1 (by rw [hfl i a1]; exact a2)]
    · refine BB.pure hI (c_foundX x2.1 g1 g3 g4 w5 w3) (c_foundMx m1 m4 m5 w3 h) ?_
      rw [if_neg (by rw [hc]; exact h)]

set_option maxRecDepth 100000 in
set_option maxHeartbeats 4000000 in
theorem bb_weight {k : Cx} {L0 : Launch} {σ : St} (hI : Inv k σ) {z : Int} (hz : zR z) : BB k L0 vL mX11_weight 3 0 0 mX12_weight 2 [.int (iZ z)] σ := by
  obtain ⟨on, kd, n, e, an, wt, tb, q, qs, tr, Ls, hW, hX, hM⟩ := id hI
  obtain ⟨w1, w2, w3, w4, w5, w6, w7, w8, w9, w10, w11⟩ := id hW
  obtain ⟨x1, x2, x3, x4, x5, x6⟩ := id hX
  obtain ⟨⟨yp, np, g1, g2⟩, f, g3, g4, g5⟩ := id x4
  obtain ⟨c1, c2, ww, c3, c4⟩ := id x5
  obtain ⟨sk, sm, m1, m2, m3, ⟨l, m4, m5, m6⟩, ⟨bf, m7, m8, m9⟩, m10, ⟨C, m11, m12⟩, m13⟩ := id hM
  have hfl : ∀ i, i < n → f (an * 16 + i) = l i := fun i hi => (g5 an (Nat.le_refl _) i hi).trans (m6 i hi).symm
  by_cases h : z < 0 ∨ 20 < z ∨ on = 0 ∨ kd ≠ 1
  · exact BB.pure hI (c_weightX0 x2.1 g1 hz w1 w2 h) (c_weightM0 m1 hz w1 w2 h) rfl
  · obtain ⟨i, rfl⟩ : ∃ i : Nat, z = (i : Int) := ⟨z.toNat, by omega⟩
    have e0 : on = 1 := by omega
    have e1 : kd = 1 := by omega
    subst e0
    subst e1
    refine BB.pure hI (c_weightX x2.1 g1 g3 w5 w3 g4 (by omega)) (c_weightM m1 w3 m4 m5 (by omega)) ?_
    rw [SW_congr hfl]

set_option maxRecDepth 100000 in
set_option maxHeartbeats 4000000 in
theorem bb_word {k : Cx} {L0 : Launch} {σ : St} (hI : Inv k σ) {z : Int} (hz : zR z) : BB k L0 vI mX11_word 2 0 0 mX12_word 3 [.int (iZ z)] σ := by
  obtain ⟨on, kd, n, e, an, wt, tb, q, qs, tr, Ls, hW, hX, hM⟩ := id hI
  obtain ⟨w1, w2, w3, w4, w5, w6, w7, w8, w9, w10, w11⟩ := id hW
  obtain ⟨x1, x2, x3, x4, x5, x6⟩ := id hX
  obtain ⟨⟨yp, np, g1, g2⟩, f, g3, g4, g5⟩ := id x4
  obtain ⟨c1, c2, ww, c3, c4⟩ := id x5
  obtain ⟨sk, sm, m1, m2, m3, ⟨l, m4, m5, m6⟩, ⟨bf, m7, m8, m9⟩, m10, ⟨C, m11, m12⟩, m13⟩ := id hM
  have hfl : ∀ i, i < n → f (an * 16 + i) = l i := fun i hi => (g5 an (Nat.le_refl _) i hi).trans (m6 i hi).symm
  by_cases h : 0 ≤ z ∧ z ≤ 15
  · obtain ⟨i, rfl⟩ : ∃ i : Nat, z = (i : Int) := ⟨z.toNat, by omega⟩
    exact BB.pure hI (c_wordX x2.1 c1 w6 c3 c4 (by omega)) (c_wordM m1 m10 w6 (fun j _ => w7 j) (by omega)) rfl
  · exact BB.pure hI (c_wordX0 hz h) (c_wordM0 m1 hz h) rfl

set_option maxRecDepth 100000 in
set_option maxHeartbeats 4000000 in
theorem bb_apart {k : Cx} {L0 : Launch} {σ : St} (hI : Inv k σ) {a b : Int} (ha : zR a) (hb : zR b) : BB k L0 vI mX11_apart 2 0 0 mX12_apart 3 [.int (iZ a), .int (iZ b)] σ := by
  obtain ⟨on, kd, n, e, an, wt, tb, q, qs, tr, Ls, hW, hX, hM⟩ := id hI
  obtain ⟨w1, w2, w3, w4, w5, w6, w7, w8, w9, w10, w11⟩ := id hW
  obtain ⟨x1, x2, x3, x4, x5, x6⟩ := id hX
  obtain ⟨⟨yp, np, g1, g2⟩, f, g3, g4, g5⟩ := id x4
  obtain ⟨c1, c2, ww, c3, c4⟩ := id x5
  obtain ⟨sk, sm, m1, m2, m3, ⟨l, m4, m5, m6⟩, ⟨bf, m7, m8, m9⟩, m10, ⟨C, m11, m12⟩, m13⟩ := id hM
  have hfl : ∀ i, i < n → f (an * 16 + i) = l i := fun i hi => (g5 an (Nat.le_refl _) i hi).trans (m6 i hi).symm
  by_cases h : (0 ≤ a ∧ a ≤ 15) ∧ 0 ≤ b ∧ b ≤ 15
  · obtain ⟨i, rfl⟩ : ∃ i : Nat, a = (i : Int) := ⟨a.toNat, by omega⟩
    obtain ⟨j, rfl⟩ : ∃ j : Nat, b = (j : Int) := ⟨b.toNat, by omega⟩
    exact BB.pure hI (c_apartX x2.1 c1 w6 c3 c4 (by omega) (by omega)) (c_apartM m1 m10 w6 (fun j _ => w7 j) (by omega) (by omega)) rfl
  · exact BB.pure hI (c_apartX0 ha hb (by omega)) (c_apartM0 m1 ha hb (by omega)) rfl

set_option maxRecDepth 100000 in
set_option maxHeartbeats 4000000 in
theorem bb_serves {k : Cx} {L0 : Launch} {σ : St} (hI : Inv k σ) {a b : Int} (ha : zR a) (hb : zR b) : BB k L0 vI mX11_serves 3 0 0 mX12_serves 3 [.int (iZ a), .int (iZ b)] σ := by
  obtain ⟨on, kd, n, e, an, wt, tb, q, qs, tr, Ls, hW, hX, hM⟩ := id hI
  obtain ⟨w1, w2, w3, w4, w5, w6, w7, w8, w9, w10, w11⟩ := id hW
  obtain ⟨x1, x2, x3, x4, x5, x6⟩ := id hX
  obtain ⟨⟨yp, np, g1, g2⟩, f, g3, g4, g5⟩ := id x4
  obtain ⟨c1, c2, ww, c3, c4⟩ := id x5
  obtain ⟨sk, sm, m1, m2, m3, ⟨l, m4, m5, m6⟩, ⟨bf, m7, m8, m9⟩, m10, ⟨C, m11, m12⟩, m13⟩ := id hM
  have hfl : ∀ i, i < n → f (an * 16 + i) = l i := fun i hi => (g5 an (Nat.le_refl _) i hi).trans (m6 i hi).symm
  by_cases h : (1 ≤ a ∧ a ≤ 16) ∧ 0 ≤ b ∧ b ≤ 3
  · obtain ⟨i, rfl⟩ : ∃ i : Nat, a = (i : Int) := ⟨a.toNat, by omega⟩
    obtain ⟨j, rfl⟩ : ∃ j : Nat, b = (j : Int) := ⟨b.toNat, by omega⟩
    refine BB.pure hI (c_servesX x2.1 c1 w6 c3 c4 ⟨by omega, by omega⟩ (by omega)) (c_servesM m1 m10 w6 (fun j _ => w7 j) ⟨by omega, by omega⟩ (by omega)) ?_
    by_cases hp : ∀ a, a < i → ∀ b, b < a → 2 * j < popc (wd qs q a ^^^ wd qs q b)
    · rw [b01_t hp, bP_t (fun x y h1 h2 => by rw [Nat.xor_comm]; exact hp y h2 x h1)]
    · rw [b01_f hp, bP_f (fun z => hp (fun a h1 b h2 => by rw [Nat.xor_comm]; exact z b a h2 h1))]
  · exact BB.pure hI (c_servesX0 ha hb (by omega)) (c_servesM0 m1 ha hb (by omega)) rfl

set_option maxRecDepth 100000 in
set_option maxHeartbeats 4000000 in
theorem bb_read {k : Cx} {L0 : Launch} {σ : St} (hI : Inv k σ) {w a b : Int} (hw : zR w) (ha : zR a) (hb : zR b) : BB k L0 vI mX11_read 3 0 0 mX12_read 3 [.int (iZ w), .int (iZ a), .int (iZ b)] σ := by
  obtain ⟨on, kd, n, e, an, wt, tb, q, qs, tr, Ls, hW, hX, hM⟩ := id hI
  obtain ⟨w1, w2, w3, w4, w5, w6, w7, w8, w9, w10, w11⟩ := id hW
  obtain ⟨x1, x2, x3, x4, x5, x6⟩ := id hX
  obtain ⟨⟨yp, np, g1, g2⟩, f, g3, g4, g5⟩ := id x4
  obtain ⟨c1, c2, ww, c3, c4⟩ := id x5
  obtain ⟨sk, sm, m1, m2, m3, ⟨l, m4, m5, m6⟩, ⟨bf, m7, m8, m9⟩, m10, ⟨C, m11, m12⟩, m13⟩ := id hM
  have hfl : ∀ i, i < n → f (an * 16 + i) = l i := fun i hi => (g5 an (Nat.le_refl _) i hi).trans (m6 i hi).symm
  have hp12 := pw12 w6
  by_cases h0 : 0 ≤ w ∧ w < ((2 ^ q : Nat) : Int)
  · obtain ⟨v, rfl⟩ : ∃ v : Nat, w = (v : Int) := ⟨w.toNat, by omega⟩
    by_cases h : (1 ≤ a ∧ a ≤ 16) ∧ 0 ≤ b ∧ b ≤ 3
    · obtain ⟨i, rfl⟩ : ∃ i : Nat, a = (i : Int) := ⟨a.toNat, by omega⟩
      obtain ⟨j, rfl⟩ : ∃ j : Nat, b = (j : Int) := ⟨b.toNat, by omega⟩
      refine BB.pure hI (c_readX x2.1 c1 w6 c3 c4 (by omega) ⟨by omega, by omega⟩ (by omega)) (c_readM m1 m10 w6 (fun j _ => w7 j) (by omega) ⟨by omega, by omega⟩ (by omega)) ?_
      have e9 : (fun x => decide (popc (v ^^^ wd qs q x) ≤ j)) = (fun x => decide (popc (wd qs q x ^^^ v) ≤ j)) := by
        funext x
        rw [Nat.xor_comm]
      rw [e9]
    · exact BB.pure hI (c_readX1 x2.1 c1 w6 (by omega) ha hb (by omega)) (c_readM0 m1 w6 hw ha hb (by omega)) rfl
  · exact BB.pure hI (c_readX0 x2.1 c1 w6 hw ha hb (by omega)) (c_readM0 m1 w6 hw ha hb (by omega)) rfl
