theorem pw1 {n : Nat} (hn : n ≤ 16) : 1 * 2 ^ n < 2 ^ 32 := by
  rw [Nat.one_mul]
  exact Nat.pow_lt_pow_right (by decide) (by omega)
theorem maskZ {heap n : Nat} (hn : n ≤ 16) : iZ (heap : Int) &&& iZ (((1 * 2 ^ n : Nat) : Int) - 1) = iZ ((heap % 2 ^ n : Nat) : Int) := by
  have h0 : 0 < 2 ^ n := Nat.two_pow_pos n
  have e : ((1 * 2 ^ n : Nat) : Int) - 1 = ((2 ^ n - 1 : Nat) : Int) := by omega
  rw [e, andZ, Nat.and_two_pow_sub_one_eq_mod]
set_option maxRecDepth 100000 in
set_option maxHeartbeats 4000000 in
theorem c_row {k : Cx} {L0 : Launch} {σ : St} {on kd e wt yp np : Int} {n an : Nat} (hG : σ.2 (cBase k + 9) = some (oGame k on kd n e an wt yp np)) : CtrV k L0 mX3_row 1 0 0 [.ref (cBase k + 9)] σ (fun v σ' => v = .int (iZ ((an : Int) * 16)) ∧ σ' = σ) := by
  refine Ctr.of (by decide +kernel) rfl (Nat.le_of_ble_eq_true rfl) ?_
  intro κ hl0 S
  subst hl0
  refine r_aload_n S dX3_row_0 rfl ?_
  refine r_getf S g_RX3_25_3 dX3_row_1 (by repeat (first | assumption | exact sUp_same | exact sNew_same | refine sUp_ne (by first | assumption | omega) ?_)) rfl ?_
  refine r_bipush S dX3_row_4 (by decide) ?_
  refine r_imul S dX3_row_6 ?_
  exact r_iret S dX3_row_7 (by omega) (by omega) (⟨_, rfl, rfl, rfl⟩)

set_option maxRecDepth 100000 in
set_option maxHeartbeats 4000000 in
theorem c_rowBehind {k : Cx} {L0 : Launch} {σ : St} {on kd e wt yp np : Int} {n an : Nat} (hG : σ.2 (cBase k + 9) = some (oGame k on kd n e an wt yp np)) : CtrV k L0 mX3_rowBehind 2 0 0 [.ref (cBase k + 9)] σ (fun v σ' => v = .int (iZ ((an : Int) * 16 + 16)) ∧ σ' = σ) := by
  refine Ctr.of (by decide +kernel) rfl (Nat.le_of_ble_eq_true rfl) ?_
  intro κ hl0 S
  subst hl0
  refine r_aload_n S dX3_rowBehind_0 rfl ?_
  refine r_callV S (c_row hG) k_mX3_row c_RX3_50_3 dX3_rowBehind_1 (by decide) ⟨by omega, by omega⟩ (by repeat (first | assumption | exact sUp_same | exact sNew_same | refine sUp_ne (by first | assumption | omega) ?_)) rfl rfl (Nat.le_of_ble_eq_true rfl) (fun r σ' hp => ?_)
  obtain ⟨_, rfl, rfl, rfl⟩ := hp
  try simp only [Option.toList_some, Option.toList_none, List.cons_append, List.nil_append]
  refine r_bipush S dX3_rowBehind_4 (by decide) ?_
  refine r_iadd S dX3_rowBehind_6 ?_
  exact r_iret S dX3_rowBehind_7 (by omega) (by omega) (⟨_, rfl, rfl, rfl⟩)

set_option maxRecDepth 100000 in
set_option maxHeartbeats 4000000 in
theorem c_within {k : Cx} {L0 : Launch} {σ : St} {on kd e wt yp np : Int} {n an : Nat} (hG : σ.2 (cBase k + 9) = some (oGame k on kd n e an wt yp np)) (hn : n ≤ 16) {heap : Nat} (hh : heap < 65536) : CtrV k L0 mX3_within 1 0 0 [.ref (cBase k + 9), .int (iZ (heap : Int))] σ (fun v σ' => v = .int (iZ (((heap % 2 ^ n : Nat) : Int))) ∧ σ' = σ) := by
  refine Ctr.of (by decide +kernel) rfl (Nat.le_of_ble_eq_true rfl) ?_
  intro κ hl0 S
  subst hl0
  refine r_iload_n S dX3_within_0 rfl ?_
  refine r_iconst S dX3_within_1 ?_
  refine r_aload_n S dX3_within_2 rfl ?_
  refine r_getf S g_RX3_19_3 dX3_within_3 (by repeat (first | assumption | exact sUp_same | exact sNew_same | refine sUp_ne (by first | assumption | omega) ?_)) rfl ?_
  refine r_ishl S dX3_within_6 (shlZ (a := 1) (i := n) (pw1 hn) (by omega)) ?_
  refine r_iconst S dX3_within_7 ?_
  refine r_isub S dX3_within_8 ?_
  refine r_iand S dX3_within_9 (maskZ hn) ?_
  exact r_iret S dX3_within_10 (by omega) (by omega) (⟨_, rfl, rfl, rfl⟩)

set_option maxRecDepth 100000 in
set_option maxHeartbeats 4000000 in
theorem c_leftOf {k : Cx} {L0 : Launch} {σ : St} {on kd e wt yp np : Int} {n an : Nat} (hG : σ.2 (cBase k + 9) = some (oGame k on kd n e an wt yp np)) {f : Nat → Int} (hL : σ.2 (cBase k + 10) = some (eI k 992 f)) (han : an ≤ 60) (hn : n ≤ 16) {i : Nat} (hi : i < n) : CtrV k L0 mX3_leftOf 2 0 0 [.ref (cBase k + 9), .int (iZ (i : Int))] σ (fun v σ' => v = .int (iZ (f (an * 16 + i))) ∧ σ' = σ) := by
  refine Ctr.of (by decide +kernel) rfl (Nat.le_of_ble_eq_true rfl) ?_
  intro κ hl0 S
  subst hl0
  refine r_iload_n S dX3_leftOf_0 rfl ?_
  refine r_if_lt S dX3_leftOf_1 (tgt := 26) (by decide) ⟨by omega, by omega⟩ (fun h_1 => ?_) (fun h_1 => ?_)
  · omega
  · refine r_iload_n S dX3_leftOf_4 rfl ?_
    refine r_aload_n S dX3_leftOf_5 rfl ?_
    refine r_getf S g_RX3_19_3 dX3_leftOf_6 (by repeat (first | assumption | exact sUp_same | exact sNew_same | refine sUp_ne (by first | assumption | omega) ?_)) rfl ?_
    refine r_icmp_ge S dX3_leftOf_9 (tgt := 26) (by decide) ⟨by omega, by omega⟩ ⟨by omega, by omega⟩ (fun h_9 => ?_) (fun h_9 => ?_)
    · omega
    · refine r_aload_n S dX3_leftOf_12 rfl ?_
      refine r_getf S g_RX3_37_3 dX3_leftOf_13 (by repeat (first | assumption | exact sUp_same | exact sNew_same | refine sUp_ne (by first | assumption | omega) ?_)) rfl ?_
      refine r_aload_n S dX3_leftOf_16 rfl ?_
      refine r_callV S (c_row hG) k_mX3_row c_RX3_50_3 dX3_leftOf_17 (by decide) ⟨by omega, by omega⟩ (by repeat (first | assumption | exact sUp_same | exact sNew_same | refine sUp_ne (by first | assumption | omega) ?_)) rfl rfl (Nat.le_of_ble_eq_true rfl) (fun r σ' hp => ?_)
      obtain ⟨_, rfl, rfl, rfl⟩ := hp
      try simp only [Option.toList_some, Option.toList_none, List.cons_append, List.nil_append]
      refine r_iload_n S dX3_leftOf_20 rfl ?_
      refine r_iadd S dX3_leftOf_21 ?_
      refine r_ialdN S (an * 16 + i) dX3_leftOf_22 (by repeat (first | assumption | exact sUp_same | exact sNew_same | refine sUp_ne (by first | assumption | omega) ?_)) (by omega) (by omega) (by decide) ?_
      refine r_goto S dX3_leftOf_23 (tgt := 27) (by decide) ?_
      exact r_iret S dX3_leftOf_27 (by omega) (by omega) (⟨_, rfl, rfl, rfl⟩)

set_option maxRecDepth 100000 in
set_option maxHeartbeats 4000000 in
theorem l_countOf {κ : Kx} {k : Cx} {σ : St} {on kd e wt yp np : Int} {n an : Nat} (hG : σ.2 (cBase k + 9) = some (oGame k on kd n e an wt yp np)) {f : Nat → Int} (hL : σ.2 (cBase k + 10) = some (eI k 992 f)) (han : an ≤ 60) (hn : n ≤ 16) {c : Int} (hf : ∀ j, zR (f j)) (hc : zR c) (S : Ok κ k cX3_countOf 4 RX3 (some .int) "countOf" 3 0 0) : ∀ (m i : Nat), i + m = n → V κ k 4 0 0 (QR κ k (fun r σ' => ∃ v, r = some v ∧ (v = .int (iZ (cnt (fun j => f (an * 16 + j) == c) n : Int)) ∧ σ' = σ)) 0 0) 4 [some (.ref (cBase k + 9)), some (.int (iZ c)), some (.int (iZ (cnt (fun j => f (an * 16 + j) == c) i : Int))), some (.int (iZ (i : Int)))] [] σ := by
  intro m
  induction m with
  | zero =>
    intro i hi
    have hin : i = n := by omega
    subst hin
    have hcl := cnt_le (fun j => f (an * 16 + j) == c) i
    refine r_iload_n S dX3_countOf_4 rfl ?_
    refine r_aload_n S dX3_countOf_5 rfl ?_
    refine r_getf S g_RX3_19_3 dX3_countOf_6 (by repeat (first | assumption | exact sUp_same | exact sNew_same | refine sUp_ne (by first | assumption | omega) ?_)) rfl ?_
    refine r_icmp_ge S dX3_countOf_9 (tgt := 30) (by decide) ⟨by omega, by omega⟩ ⟨by omega, by omega⟩ (fun h_9 => ?_) (fun h_9 => ?_)
    · refine r_iload_n S dX3_countOf_30 rfl ?_
      exact r_iret S dX3_countOf_31 (by omega) (by omega) (⟨_, rfl, rfl, rfl⟩)
    · omega
  | succ m ih =>
    intro i hi
    have hcl := cnt_le (fun j => f (an * 16 + j) == c) i
    have hfi := hf (an * 16 + i)
    refine r_iload_n S dX3_countOf_4 rfl ?_
    refine r_aload_n S dX3_countOf_5 rfl ?_
    refine r_getf S g_RX3_19_3 dX3_countOf_6 (by repeat (first | assumption | exact sUp_same | exact sNew_same | refine sUp_ne (by first | assumption | omega) ?_)) rfl ?_
    refine r_icmp_ge S dX3_countOf_9 (tgt := 30) (by decide) ⟨by omega, by omega⟩ ⟨by omega, by omega⟩ (fun h_9 => ?_) (fun h_9 => ?_)
    · omega
    · refine r_aload_n S dX3_countOf_12 rfl ?_
      refine r_iload_n S dX3_countOf_13 rfl ?_
      refine r_callV S (c_leftOf hG hL han hn (by omega)) k_mX3_leftOf c_RX3_54_3 dX3_countOf_14 (by decide) ⟨by omega, by omega⟩ (by repeat (first | assumption | exact sUp_same | exact sNew_same | refine sUp_ne (by first | assumption | omega) ?_)) rfl rfl (Nat.le_of_ble_eq_true rfl) (fun r σ' hp => ?_)
      obtain ⟨_, rfl, rfl, rfl⟩ := hp
      try simp only [Option.toList_some, Option.toList_none, List.cons_append, List.nil_append]
      refine r_iload_n S dX3_countOf_17 rfl ?_
      refine r_icmp_ne S dX3_countOf_18 (tgt := 24) (by decide) hfi hc (fun h_18 => ?_) (fun h_18 => ?_)
      · have hcs : cnt (fun j => f (an * 16 + j) == c) (i + 1) = cnt (fun j => f (an * 16 + j) == c) i := by rw [cnt_succ, if_neg (by simpa using h_18)]; rfl
        refine r_iinc S dX3_countOf_24 rfl rfl (by decide) (lv' := [_, _, _, _]) rfl ?_
        refine r_goto S dX3_countOf_27 (tgt := 4) (by decide) ?_
        have h9 := ih (i + 1) (by omega)
        rw [hcs] at h9
        exact h9
      · refine r_iinc S dX3_countOf_21 rfl rfl (by decide) (lv' := [_, _, _, _]) rfl ?_
        have hcs : cnt (fun j => f (an * 16 + j) == c) (i + 1) = cnt (fun j => f (an * 16 + j) == c) i + 1 := by rw [cnt_succ, if_pos (by simpa using h_18)]
        refine r_iinc S dX3_countOf_24 rfl rfl (by decide) (lv' := [_, _, _, _]) rfl ?_
        refine r_goto S dX3_countOf_27 (tgt := 4) (by decide) ?_
        have h9 := ih (i + 1) (by omega)
        rw [hcs] at h9
        exact h9

set_option maxRecDepth 100000 in
set_option maxHeartbeats 4000000 in
theorem c_countOf {k : Cx} {L0 : Launch} {σ : St} {on kd e wt yp np : Int} {n an : Nat} (hG : σ.2 (cBase k + 9) = some (oGame k on kd n e an wt yp np)) {f : Nat → Int} (hL : σ.2 (cBase k + 10) = some (eI k 992 f)) (han : an ≤ 60) (hn : n ≤ 16) {c : Int} (hf : ∀ j, zR (f j)) (hc : zR c) : CtrV k L0 mX3_countOf 3 0 0 [.ref (cBase k + 9), .int (iZ c)] σ (fun v σ' => v = .int (iZ ((cnt (fun j => f (an * 16 + j) == c) n : Int))) ∧ σ' = σ) := by
  refine Ctr.of (by decide +kernel) rfl (Nat.le_of_ble_eq_true rfl) ?_
  intro κ hl0 S
  subst hl0
  refine r_iconst S dX3_countOf_0 ?_
  refine r_istore_n S dX3_countOf_1 rfl (by decide) (lv' := [_, _, _, _]) rfl ?_
  refine r_iconst S dX3_countOf_2 ?_
  refine r_istore_n S dX3_countOf_3 rfl (by decide) (lv' := [_, _, _, _]) rfl ?_
  exact l_countOf hG hL han hn hf hc S n 0 (by omega)
