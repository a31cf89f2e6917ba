def Wi (R : Nat → Int) (kd : Nat) (lev : Int) (p : Nat) : Prop := p = 0 ∨ (0 < R (83521 * kd + p) ∧ R (83521 * kd + p) ≤ lev)
theorem Wi_dec (R : Nat → Int) (kd : Nat) (lev : Int) (p : Nat) : Wi R kd lev p ↔ (p = 0 ∨ (0 < R (83521 * kd + p) ∧ R (83521 * kd + p) ≤ lev)) := Iff.rfl
/-- the heap that w spells, in digits of counts + 1 -/
def dgQ (c : Q4) (w : Nat) : Q4 := (w % (c.1 + 1), w / (c.1 + 1) % (c.2.1 + 1), w / (c.1 + 1) / (c.2.1 + 1) % (c.2.2.1 + 1), w / (c.1 + 1) / (c.2.1 + 1) / (c.2.2.1 + 1) % (c.2.2.2 + 1))
theorem dgQ_le (c : Q4) (w : Nat) : leQ (dgQ c w) c := ⟨Nat.le_of_lt_succ (Nat.mod_lt _ (Nat.succ_pos _)), Nat.le_of_lt_succ (Nat.mod_lt _ (Nat.succ_pos _)), Nat.le_of_lt_succ (Nat.mod_lt _ (Nat.succ_pos _)), Nat.le_of_lt_succ (Nat.mod_lt _ (Nat.succ_pos _))⟩
def waysQ (c : Q4) : Nat := (c.1 + 1) * (c.2.1 + 1) * (c.2.2.1 + 1) * (c.2.2.2 + 1)
theorem dg1 {m a b : Nat} (h : a < m) : (a + m * b) % m = a ∧ (a + m * b) / m = b := by
  constructor
  · rw [Nat.add_mul_mod_self_left, Nat.mod_eq_of_lt h]
  · rw [Nat.add_mul_div_left _ _ (by omega), Nat.div_eq_of_lt h, Nat.zero_add]
theorem dgQ_surj {c x : Q4} (h : leQ x c) : ∃ w, w < waysQ c ∧ dgQ c w = x := by
  obtain ⟨x0, x1, x2, x3⟩ := x
  obtain ⟨c0, c1, c2, c3⟩ := c
  simp only [leQ] at h
  have a0 := dg1 (m := c0 + 1) (a := x0) (b := x1 + (c1 + 1) * (x2 + (c2 + 1) * x3)) (by omega)
  have a1 := dg1 (m := c1 + 1) (a := x1) (b := x2 + (c2 + 1) * x3) (by omega)
  have a2 := dg1 (m := c2 + 1) (a := x2) (b := x3) (by omega)
  refine ⟨x0 + (c0 + 1) * (x1 + (c1 + 1) * (x2 + (c2 + 1) * x3)), ?_, ?_⟩
  · have b2 : x2 + (c2 + 1) * x3 < (c2 + 1) * (c3 + 1) := by
      calc x2 + (c2 + 1) * x3 < (c2 + 1) + (c2 + 1) * x3 := by omega
        _ = (c2 + 1) * (x3 + 1) := by rw [Nat.mul_succ, Nat.add_comm]
        _ ≤ (c2 + 1) * (c3 + 1) := Nat.mul_le_mul_left _ (by omega)
    have b1 : x1 + (c1 + 1) * (x2 + (c2 + 1) * x3) < (c1 + 1) * ((c2 + 1) * (c3 + 1)) := by
      calc x1 + (c1 + 1) * (x2 + (c2 + 1) * x3) < (c1 + 1) + (c1 + 1) * (x2 + (c2 + 1) * x3) := by omega
        _ = (c1 + 1) * ((x2 + (c2 + 1) * x3) + 1) := by rw [Nat.mul_succ, Nat.add_comm]
        _ ≤ (c1 + 1) * ((c2 + 1) * (c3 + 1)) := Nat.mul_le_mul_left _ b2
    have b0 : x0 + (c0 + 1) * (x1 + (c1 + 1) * (x2 + (c2 + 1) * x3)) < (c0 + 1) * ((c1 + 1) * ((c2 + 1) * (c3 + 1))) := by
      calc x0 + (c0 + 1) * (x1 + (c1 + 1) * (x2 + (c2 + 1) * x3)) < (c0 + 1) + (c0 + 1) * (x1 + (c1 + 1) * (x2 + (c2 + 1) * x3)) := by omega
        _ = (c0 + 1) * ((x1 + (c1 + 1) * (x2 + (c2 + 1) * x3)) + 1) := by rw [Nat.mul_succ, Nat.add_comm]
        _ ≤ (c0 + 1) * ((c1 + 1) * ((c2 + 1) * (c3 + 1))) := Nat.mul_le_mul_left _ b1
    unfold waysQ
    simp only
    rw [Nat.mul_assoc, Nat.mul_assoc]
    exact b0
  · unfold dgQ
    simp only
    rw [a0.1, a0.2, a1.1, a1.2, a2.1, a2.2, Nat.mod_eq_of_lt (by omega)]
theorem waysQ_lt {c : Q4} (h : c.1 + c.2.1 + c.2.2.1 + c.2.2.2 ≤ 16) : waysQ c ≤ 83521 := by
  have m : ∀ a b : Nat, a ≤ 17 → b ≤ 17 → a * b ≤ 289 := fun a b h1 h2 => Nat.mul_le_mul h1 h2
  unfold waysQ
  rw [Nat.mul_assoc]
  exact Nat.mul_le_mul (m _ _ (by omega) (by omega)) (m _ _ (by omega) (by omega))
set_option maxRecDepth 100000 in
set_option maxHeartbeats 4000000 in
theorem c_isWithin {k : Cx} {L0 : Launch} {σ : St} {hg n e an wt tb q tr sk sm : Int} {kk0 : Int} (hM : σ.2 (cBase k + 14) = some (oModel k hg kk0 n e an wt tb q tr sk sm)) {R : Nat → Int} (hR : σ.2 (cBase k + 18) = some (eB k 250563 R)) (hRr : ∀ j, 0 ≤ R j ∧ R j ≤ 14) {kd : Nat} (hk : kd < 3) {p : Nat} (hp : p < 83521) {lev : Int} (hl : 0 ≤ lev ∧ lev ≤ 13) : CtrV k L0 mX12_isWithin 1 0 0 [.ref (cBase k + 14), .int (iZ (kd : Int)), .int (iZ (p : Int)), .int (iZ lev)] σ (fun v σ' => v = .int (iZ (bP (Wi R kd lev p))) ∧ σ' = σ) := by
  refine Ctr.of (by decide +kernel) rfl (Nat.le_of_ble_eq_true rfl) ?_
  intro κ hl0 S
  subst hl0
  have hRp := hRr (83521 * kd + p)
  refine r_ldc S (n := 83521) (by exact wd_734) dX12_isWithin_0 ?_
  refine r_iload_n S dX12_isWithin_2 rfl ?_
  refine r_imul S dX12_isWithin_3 ?_
  refine r_iload_n S dX12_isWithin_4 rfl ?_
  refine r_iadd S dX12_isWithin_5 ?_
  refine r_num (z' := ((83521 * kd + p : Nat) : Int)) (by omega) ?_
  refine r_istore S dX12_isWithin_6 rfl (by decide) (lv' := [_, _, _, _, _]) rfl ?_
  refine r_iload_n S dX12_isWithin_8 rfl ?_
  refine r_if_eq S dX12_isWithin_9 (tgt := 33) (by decide) ⟨by omega, by omega⟩ (fun h_9 => ?_) (fun h_9 => ?_)
  · refine r_iconst S dX12_isWithin_33 ?_
    refine r_goto S dX12_isWithin_34 (tgt := 38) (by decide) ?_
    exact r_zret S dX12_isWithin_38 (by omega) (by omega) (by first | exact Or.inl rfl | exact Or.inr rfl | omega) (⟨_, rfl, by first | rw [bP_t (show Wi R kd lev p from Or.inl (by omega))] | rw [bP_t (show Wi R kd lev p from Or.inr ⟨by omega, by omega⟩)] | rw [bP_f (fun hz => by rcases hz with hz | hz <;> omega)], rfl⟩)
  · refine r_aload_n S dX12_isWithin_12 rfl ?_
    refine r_getf S g_RX12_24_11 dX12_isWithin_13 (by repeat (first | assumption | exact sUp_same | exact sNew_same | refine sUp_ne (by first | assumption | omega) ?_)) rfl ?_
    refine r_iload S dX12_isWithin_16 rfl ?_
    refine r_baldN S (83521 * kd + p) dX12_isWithin_18 (by repeat (first | assumption | exact sUp_same | exact sNew_same | refine sUp_ne (by first | assumption | omega) ?_)) (by omega) (by omega) (by decide) ?_
    refine r_if_le S dX12_isWithin_19 (tgt := 37) (by decide) ⟨by omega, by omega⟩ (fun h_19 => ?_) (fun h_19 => ?_)
    · refine r_iconst S dX12_isWithin_37 ?_
      exact r_zret S dX12_isWithin_38 (by omega) (by omega) (by first | exact Or.inl rfl | exact Or.inr rfl | omega) (⟨_, rfl, by first | rw [bP_t (show Wi R kd lev p from Or.inl (by omega))] | rw [bP_t (show Wi R kd lev p from Or.inr ⟨by omega, by omega⟩)] | rw [bP_f (fun hz => by rcases hz with hz | hz <;> omega)], rfl⟩)
    · refine r_aload_n S dX12_isWithin_22 rfl ?_
      refine r_getf S g_RX12_24_11 dX12_isWithin_23 (by repeat (first | assumption | exact sUp_same | exact sNew_same | refine sUp_ne (by first | assumption | omega) ?_)) rfl ?_
      refine r_iload S dX12_isWithin_26 rfl ?_
      refine r_baldN S (83521 * kd + p) dX12_isWithin_28 (by repeat (first | assumption | exact sUp_same | exact sNew_same | refine sUp_ne (by first | assumption | omega) ?_)) (by omega) (by omega) (by decide) ?_
      refine r_iload_n S dX12_isWithin_29 rfl ?_
      refine r_icmp_gt S dX12_isWithin_30 (tgt := 37) (by decide) ⟨by omega, by omega⟩ ⟨by omega, by omega⟩ (fun h_30 => ?_) (fun h_30 => ?_)
      · refine r_iconst S dX12_isWithin_37 ?_
        exact r_zret S dX12_isWithin_38 (by omega) (by omega) (by first | exact Or.inl rfl | exact Or.inr rfl | omega) (⟨_, rfl, by first | rw [bP_t (show Wi R kd lev p from Or.inl (by omega))] | rw [bP_t (show Wi R kd lev p from Or.inr ⟨by omega, by omega⟩)] | rw [bP_f (fun hz => by rcases hz with hz | hz <;> omega)], rfl⟩)
      · refine r_iconst S dX12_isWithin_33 ?_
        refine r_goto S dX12_isWithin_34 (tgt := 38) (by decide) ?_
        exact r_zret S dX12_isWithin_38 (by omega) (by omega) (by first | exact Or.inl rfl | exact Or.inr rfl | omega) (⟨_, rfl, by first | rw [bP_t (show Wi R kd lev p from Or.inl (by omega))] | rw [bP_t (show Wi R kd lev p from Or.inr ⟨by omega, by omega⟩)] | rw [bP_f (fun hz => by rcases hz with hz | hz <;> omega)], rfl⟩)
