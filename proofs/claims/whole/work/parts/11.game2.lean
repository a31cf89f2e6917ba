set_option maxRecDepth 100000 in
set_option maxHeartbeats 4000000 in
theorem l_standingIn {κ : Kx} {k : Cx} {σ : St} {on kd e wt yp np : Int} {n an : Nat} (hG : σ.2 (cBase k + 9) = some (oGame k on kd n e an wt yp np)) {f : Nat → Int} (hL : σ.2 (cBase k + 10) = some (eI k 992 f)) (han : an ≤ 60) (hn : n ≤ 16) (hf : ∀ j, -1 ≤ f j ∧ f j ≤ 3) {heap : Nat} (hh : heap < 65536) (S : Ok κ k cX3_standingIn 4 RX3 (some .int) "standingIn" 3 0 0) : ∀ (m i : Nat), i + m = n → V κ k 4 0 0 (QR κ k (fun r σ' => ∃ v, r = some v ∧ (v = .int (iZ (cnt (fun j => decide (bt heap j = 1 ∧ f (an * 16 + j) ≠ -1)) n : Int)) ∧ σ' = σ)) 0 0) 4 [some (.ref (cBase k + 9)), some (.int (iZ (heap : Int))), some (.int (iZ (cnt (fun j => decide (bt heap j = 1 ∧ f (an * 16 + j) ≠ -1)) i : Int))), some (.int (iZ (i : Int)))] [] σ := by
  intro m
  induction m with
  | zero =>
    intro i hi
    have hin : i = n := by omega
    subst hin
    have hcl := cnt_le (fun j => decide (bt heap j = 1 ∧ f (an * 16 + j) ≠ -1)) i
    refine r_iload_n S dX3_standingIn_4 rfl ?_
    refine r_aload_n S dX3_standingIn_5 rfl ?_
    refine r_getf S g_RX3_19_3 dX3_standingIn_6 (by repeat (first | assumption | exact sUp_same | exact sNew_same | refine sUp_ne (by first | assumption | omega) ?_)) rfl ?_
    refine r_icmp_ge S dX3_standingIn_9 (tgt := 39) (by decide) ⟨by omega, by omega⟩ ⟨by omega, by omega⟩ (fun h_9 => ?_) (fun h_9 => ?_)
    · refine r_iload_n S dX3_standingIn_39 rfl ?_
      exact r_iret S dX3_standingIn_40 (by omega) (by omega) (⟨_, rfl, rfl, rfl⟩)
    · omega
  | succ m ih =>
    intro i hi
    have hcl := cnt_le (fun j => decide (bt heap j = 1 ∧ f (an * 16 + j) ≠ -1)) i
    have hfi := hf (an * 16 + i)
    have hb := bt_lt heap i
    refine r_iload_n S dX3_standingIn_4 rfl ?_
    refine r_aload_n S dX3_standingIn_5 rfl ?_
    refine r_getf S g_RX3_19_3 dX3_standingIn_6 (by repeat (first | assumption | exact sUp_same | exact sNew_same | refine sUp_ne (by first | assumption | omega) ?_)) rfl ?_
    refine r_icmp_ge S dX3_standingIn_9 (tgt := 39) (by decide) ⟨by omega, by omega⟩ ⟨by omega, by omega⟩ (fun h_9 => ?_) (fun h_9 => ?_)
    · omega
    · refine r_iload_n S dX3_standingIn_12 rfl ?_
      refine r_iload_n S dX3_standingIn_13 rfl ?_
      refine r_ishr S dX3_standingIn_14 (shrZ (by omega) (by omega)) ?_
      refine r_iconst S dX3_standingIn_15 ?_
      refine r_iand S dX3_standingIn_16 (v := iZ ((bt heap i : Nat) : Int)) (and1Z _) ?_
      refine r_iconst S dX3_standingIn_17 ?_
      refine r_icmp_ne S dX3_standingIn_18 (tgt := 33) (by decide) ⟨by omega, by omega⟩ ⟨by omega, by omega⟩ (fun h_18 => ?_) (fun h_18 => ?_)
      · refine r_iinc S dX3_standingIn_33 rfl rfl (by decide) (lv' := [_, _, _, _]) rfl ?_
        refine r_goto S dX3_standingIn_36 (tgt := 4) (by decide) ?_
        first
          | (have h9 := ih (i + 1) (by omega); rw [cnt_t (p := fun j => decide (bt heap j = 1 ∧ f (an * 16 + j) ≠ -1)) (decide_eq_true (by omega))] at h9; exact h9)
          | (have h9 := ih (i + 1) (by omega); rw [cnt_f (p := fun j => decide (bt heap j = 1 ∧ f (an * 16 + j) ≠ -1)) (decide_eq_false (by omega))] at h9; exact h9)
      · refine r_aload_n S dX3_standingIn_21 rfl ?_
        refine r_iload_n S dX3_standingIn_22 rfl ?_
        refine r_callV S (c_leftOf hG hL han hn (by omega)) k_mX3_leftOf c_RX3_54_3 dX3_standingIn_23 (by decide) ⟨by omega, by omega⟩ (by repeat (first | assumption | exact sUp_same | exact sNew_same | refine sUp_ne (by first | assumption | omega) ?_)) rfl rfl (Nat.le_of_ble_eq_true rfl) (fun r σ' hp => ?_)
        obtain ⟨_, rfl, rfl, rfl⟩ := hp
        try simp only [Option.toList_some, Option.toList_none, List.cons_append, List.nil_append]
        refine r_iconst S dX3_standingIn_26 ?_
        refine r_icmp_eq S dX3_standingIn_27 (tgt := 33) (by decide) ⟨by omega, by omega⟩ ⟨by omega, by omega⟩ (fun h_27 => ?_) (fun h_27 => ?_)
        · refine r_iinc S dX3_standingIn_33 rfl rfl (by decide) (lv' := [_, _, _, _]) rfl ?_
          refine r_goto S dX3_standingIn_36 (tgt := 4) (by decide) ?_
          first
            | (have h9 := ih (i + 1) (by omega); rw [cnt_t (p := fun j => decide (bt heap j = 1 ∧ f (an * 16 + j) ≠ -1)) (decide_eq_true (by omega))] at h9; exact h9)
            | (have h9 := ih (i + 1) (by omega); rw [cnt_f (p := fun j => decide (bt heap j = 1 ∧ f (an * 16 + j) ≠ -1)) (decide_eq_false (by omega))] at h9; exact h9)
        · refine r_iinc S dX3_standingIn_30 rfl rfl (by decide) (lv' := [_, _, _, _]) rfl ?_
          refine r_iinc S dX3_standingIn_33 rfl rfl (by decide) (lv' := [_, _, _, _]) rfl ?_
          refine r_goto S dX3_standingIn_36 (tgt := 4) (by decide) ?_
          first
            | (have h9 := ih (i + 1) (by omega); rw [cnt_t (p := fun j => decide (bt heap j = 1 ∧ f (an * 16 + j) ≠ -1)) (decide_eq_true (by omega))] at h9; exact h9)
            | (have h9 := ih (i + 1) (by omega); rw [cnt_f (p := fun j => decide (bt heap j = 1 ∧ f (an * 16 + j) ≠ -1)) (decide_eq_false (by omega))] at h9; exact h9)

set_option maxRecDepth 100000 in
set_option maxHeartbeats 4000000 in
theorem c_standingIn {k : Cx} {L0 : Launch} {σ : St} {on kd e wt yp np : Int} {n an : Nat} (hG : σ.2 (cBase k + 9) = some (oGame k on kd n e an wt yp np)) {f : Nat → Int} (hL : σ.2 (cBase k + 10) = some (eI k 992 f)) (han : an ≤ 60) (hn : n ≤ 16) (hf : ∀ j, -1 ≤ f j ∧ f j ≤ 3) {heap : Nat} (hh : heap < 65536) : CtrV k L0 mX3_standingIn 3 0 0 [.ref (cBase k + 9), .int (iZ (heap : Int))] σ (fun v σ' => v = .int (iZ ((cnt (fun j => decide (bt heap j = 1 ∧ f (an * 16 + j) ≠ -1)) n : Int))) ∧ σ' = σ) := by
  refine Ctr.of (by decide +kernel) rfl (Nat.le_of_ble_eq_true rfl) ?_
  intro κ hl0 S
  subst hl0
  refine r_iconst S dX3_standingIn_0 ?_
  refine r_istore_n S dX3_standingIn_1 rfl (by decide) (lv' := [_, _, _, _]) rfl ?_
  refine r_iconst S dX3_standingIn_2 ?_
  refine r_istore_n S dX3_standingIn_3 rfl (by decide) (lv' := [_, _, _, _]) rfl ?_
  exact l_standingIn hG hL han hn hf hh S n 0 (by omega)

set_option maxRecDepth 100000 in
set_option maxHeartbeats 4000000 in
theorem c_waitFor {k : Cx} {L0 : Launch} {σ : St} {on kd e wt yp np : Int} {n an : Nat} (hG : σ.2 (cBase k + 9) = some (oGame k on kd n e an wt yp np)) {w : Int} : CtrU k L0 mX3_waitFor 1 0 0 [.ref (cBase k + 9), .int (iZ w)] σ (fun σ' => σ' = sUp σ (cBase k + 9) (oGame k on kd n e an w yp np)) := by
  refine Ctr.of (by decide +kernel) rfl (Nat.le_of_ble_eq_true rfl) ?_
  intro κ hl0 S
  subst hl0
  refine r_aload_n S dX3_waitFor_0 rfl ?_
  refine r_iload_n S dX3_waitFor_1 rfl ?_
  refine r_putf S p_RX3_28_3 dX3_waitFor_2 (by first | rfl | decide) (by first | rfl | decide) (by repeat (first | assumption | exact sUp_same | exact sNew_same | refine sUp_ne (by first | assumption | omega) ?_)) (Nat.le_of_ble_eq_true rfl) (fs' := [_, _, _, _, _, _, _, _, _]) rfl ?_
  try simp only [sUp_sUp]
  exact r_vret S dX3_waitFor_5 (by omega) (by omega) (⟨rfl, rfl⟩)

set_option maxRecDepth 100000 in
set_option maxHeartbeats 4000000 in
theorem c_forgetLatest {k : Cx} {L0 : Launch} {σ : St} {on kd e wt yp np : Int} {n an : Nat} (hG : σ.2 (cBase k + 9) = some (oGame k on kd n e an wt yp np)) (han : 1 ≤ an ∧ an ≤ 60) : CtrU k L0 mX3_forgetLatest 1 0 0 [.ref (cBase k + 9)] σ (fun σ' => σ' = sUp σ (cBase k + 9) (oGame k on kd n e ((an : Int) - 1) (-1) yp np)) := by
  refine Ctr.of (by decide +kernel) rfl (Nat.le_of_ble_eq_true rfl) ?_
  intro κ hl0 S
  subst hl0
  refine r_aload_n S dX3_forgetLatest_0 rfl ?_
  refine r_iconst S dX3_forgetLatest_1 ?_
  refine r_aload_n S dX3_forgetLatest_2 rfl ?_
  refine r_getf S g_RX3_25_3 dX3_forgetLatest_3 (by repeat (first | assumption | exact sUp_same | exact sNew_same | refine sUp_ne (by first | assumption | omega) ?_)) rfl ?_
  refine r_iconst S dX3_forgetLatest_6 ?_
  refine r_isub S dX3_forgetLatest_7 ?_
  refine r_mmax S wd_220 ks_max dX3_forgetLatest_8 (by decide) ⟨by omega, by omega⟩ ⟨by omega, by omega⟩ ⟨by omega, by omega⟩ (Nat.le_of_ble_eq_true rfl) ?_
  refine r_num (z' := (an : Int) - 1) (by omega) ?_
  refine r_putf S p_RX3_25_3 dX3_forgetLatest_11 (by first | rfl | decide) (by first | rfl | decide) (by repeat (first | assumption | exact sUp_same | exact sNew_same | refine sUp_ne (by first | assumption | omega) ?_)) (Nat.le_of_ble_eq_true rfl) (fs' := [_, _, _, _, _, _, _, _, _]) rfl ?_
  try simp only [sUp_sUp]
  refine r_aload_n S dX3_forgetLatest_14 rfl ?_
  refine r_iconst S dX3_forgetLatest_15 ?_
  refine r_putf S p_RX3_28_3 dX3_forgetLatest_16 (by first | rfl | decide) (by first | rfl | decide) (by repeat (first | assumption | exact sUp_same | exact sNew_same | refine sUp_ne (by first | assumption | omega) ?_)) (Nat.le_of_ble_eq_true rfl) (fs' := [_, _, _, _, _, _, _, _, _]) rfl ?_
  try simp only [sUp_sUp]
  exact r_vret S dX3_forgetLatest_19 (by omega) (by omega) (⟨rfl, rfl⟩)

set_option maxRecDepth 100000 in
set_option maxHeartbeats 4000000 in
theorem c_priceFor {k : Cx} {L0 : Launch} {σ : St} {on kd e wt yp np : Int} {n an : Nat} (hG : σ.2 (cBase k + 9) = some (oGame k on kd n e an wt yp np)) (hy : 0 ≤ yp ∧ yp ≤ 9) (hnp : 0 ≤ np ∧ np ≤ 9) {b y : Nat} (hb : b < 2) (hyy : y < 2) : CtrV k L0 mX3_priceFor 1 0 0 [.ref (cBase k + 9), .int (iZ (b : Int)), .int (iZ (y : Int))] σ (fun v σ' => v = .int (iZ (prc yp np b y)) ∧ σ' = σ) := by
  refine Ctr.of (by decide +kernel) rfl (Nat.le_of_ble_eq_true rfl) ?_
  intro κ hl0 S
  subst hl0
  refine r_iload_n S dX3_priceFor_0 rfl ?_
  refine r_iload_n S dX3_priceFor_1 rfl ?_
  refine r_icmp_ne S dX3_priceFor_2 (tgt := 7) (by decide) ⟨by omega, by omega⟩ ⟨by omega, by omega⟩ (fun h_2 => ?_) (fun h_2 => ?_)
  · refine r_iload_n S dX3_priceFor_7 rfl ?_
    refine r_if_eq S dX3_priceFor_8 (tgt := 18) (by decide) ⟨by omega, by omega⟩ (fun h_8 => ?_) (fun h_8 => ?_)
    · refine r_aload_n S dX3_priceFor_18 rfl ?_
      refine r_getf S g_RX3_34_3 dX3_priceFor_19 (by repeat (first | assumption | exact sUp_same | exact sNew_same | refine sUp_ne (by first | assumption | omega) ?_)) rfl ?_
      exact r_iret S dX3_priceFor_22 (by omega) (by omega) (⟨_, rfl, by unfold prc; first | rw [if_pos (by omega)] | rw [if_neg (by omega), if_pos (by omega)] | rw [if_neg (by omega), if_neg (by omega)], rfl⟩)
    · refine r_aload_n S dX3_priceFor_11 rfl ?_
      refine r_getf S g_RX3_31_3 dX3_priceFor_12 (by repeat (first | assumption | exact sUp_same | exact sNew_same | refine sUp_ne (by first | assumption | omega) ?_)) rfl ?_
      refine r_goto S dX3_priceFor_15 (tgt := 22) (by decide) ?_
      exact r_iret S dX3_priceFor_22 (by omega) (by omega) (⟨_, rfl, by unfold prc; first | rw [if_pos (by omega)] | rw [if_neg (by omega), if_pos (by omega)] | rw [if_neg (by omega), if_neg (by omega)], rfl⟩)
  · refine r_iconst S dX3_priceFor_5 ?_
    exact r_iret S dX3_priceFor_6 (by omega) (by omega) (⟨_, rfl, by unfold prc; first | rw [if_pos (by omega)] | rw [if_neg (by omega), if_pos (by omega)] | rw [if_neg (by omega), if_neg (by omega)], rfl⟩)

set_option maxRecDepth 100000 in
set_option maxHeartbeats 4000000 in
theorem l_layBehind {κ : Kx} {k : Cx} {σ : St} {on kd e wt yp np : Int} {n an : Nat} (hG : σ.2 (cBase k + 9) = some (oGame k on kd n e an wt yp np)) {f : Nat → Int} (hL : σ.2 (cBase k + 10) = some (eI k 992 f)) (han : an ≤ 60) (hn : n ≤ 16) (hf : ∀ j, -1 ≤ f j ∧ f j ≤ 3) (hy : 0 ≤ yp ∧ yp ≤ 9) (hnp : 0 ≤ np ∧ np ≤ 9) {heap y : Nat} (hh : heap < 65536) (hyy : y < 2) (S : Ok κ k cX3_layBehind 7 RX3 (some .int) "layBehind" 3 0 0) : ∀ (m i : Nat), i + m = n → V κ k 7 0 0 (QR κ k (fun r σ' => ∃ v, r = some v ∧ (v = .int (iZ (cnt (fun j => decide (newL f (an * 16) yp np heap y j ≠ -1)) n : Int)) ∧ σ' = (sUp σ (cBase k + 10) (eI k 992 (layF f an yp np heap y (n)))))) 0 0) 11 [some (.ref (cBase k + 9)), some (.int (iZ (heap : Int))), some (.int (iZ (y : Int))), some (.int (iZ ((an : Int) * 16 + 16))), some (.int (iZ (cnt (fun j => decide (newL f (an * 16) yp np heap y j ≠ -1)) i : Int))), some (.int (iZ (i : Int))), none] [] (sUp σ (cBase k + 10) (eI k 992 (layF f an yp np heap y (i)))) := by
  intro m
  induction m with
  | zero =>
    intro i hi
    have hin : i = n := by omega
    subst hin
    have hcl := cnt_le (fun j => decide (newL f (an * 16) yp np heap y j ≠ -1)) i
    refine r_iload S dX3_layBehind_11 rfl ?_
    refine r_aload_n S dX3_layBehind_13 rfl ?_
    refine r_getf S g_RX3_19_3 dX3_layBehind_14 (by repeat (first | assumption | exact sUp_same | exact sNew_same | refine sUp_ne (by first | assumption | omega) ?_)) rfl ?_
    refine r_icmp_ge S dX3_layBehind_17 (tgt := 79) (by decide) ⟨by omega, by omega⟩ ⟨by omega, by omega⟩ (fun h_17 => ?_) (fun h_17 => ?_)
    · refine r_iload S dX3_layBehind_79 rfl ?_
      exact r_iret S dX3_layBehind_81 (by omega) (by omega) (⟨_, rfl, rfl, rfl⟩)
    · omega
  | succ m ih =>
    intro i hi
    have hcl := cnt_le (fun j => decide (newL f (an * 16) yp np heap y j ≠ -1)) i
    have hfi := hf (an * 16 + i)
    have hb := bt_lt heap i
    have hpr : 0 ≤ prc yp np (bt heap i) y ∧ prc yp np (bt heap i) y ≤ 9 := by unfold prc; split <;> (try split) <;> omega
    have hnl := newL_rng hf (r := an * 16) hy hnp heap y i
    refine r_iload S dX3_layBehind_11 rfl ?_
    refine r_aload_n S dX3_layBehind_13 rfl ?_
    refine r_getf S g_RX3_19_3 dX3_layBehind_14 (by repeat (first | assumption | exact sUp_same | exact sNew_same | refine sUp_ne (by first | assumption | omega) ?_)) rfl ?_
    refine r_icmp_ge S dX3_layBehind_17 (tgt := 79) (by decide) ⟨by omega, by omega⟩ ⟨by omega, by omega⟩ (fun h_17 => ?_) (fun h_17 => ?_)
    · omega
    · refine r_iconst S dX3_layBehind_20 ?_
      refine r_aload_n S dX3_layBehind_21 rfl ?_
      refine r_iload S dX3_layBehind_22 rfl ?_
      refine r_callV S (c_leftOf (sUp_ne (by omega) hG) sUp_same han hn (by omega)) k_mX3_leftOf c_RX3_54_3 dX3_layBehind_24 (by decide) ⟨by omega, by omega⟩ (by repeat (first | assumption | exact sUp_same | exact sNew_same | refine sUp_ne (by first | assumption | omega) ?_)) rfl rfl (Nat.le_of_ble_eq_true rfl) (fun r σ' hp => ?_)
      obtain ⟨_, rfl, rfl, rfl⟩ := hp
      try simp only [Option.toList_some, Option.toList_none, List.cons_append, List.nil_append]
      rw [layF_low (by omega)]
      refine r_aload_n S dX3_layBehind_27 rfl ?_
      refine r_iload_n S dX3_layBehind_28 rfl ?_
      refine r_iload S dX3_layBehind_29 rfl ?_
      refine r_ishr S dX3_layBehind_31 (shrZ (by omega) (by omega)) ?_
      refine r_iconst S dX3_layBehind_32 ?_
      refine r_iand S dX3_layBehind_33 (v := iZ ((bt heap i : Nat) : Int)) (and1Z _) ?_
      refine r_iconst S dX3_layBehind_34 ?_
      refine r_icmp_ne S dX3_layBehind_35 (tgt := 42) (by decide) ⟨by omega, by omega⟩ ⟨by omega, by omega⟩ (fun h_35 => ?_) (fun h_35 => ?_)
      · refine r_iconst S dX3_layBehind_42 ?_
        refine r_num (z' := ((bt heap i : Nat) : Int)) (by omega) ?_
        refine r_iload_n S dX3_layBehind_43 rfl ?_
        refine r_callV S (c_priceFor (sUp_ne (by omega) hG) hy hnp hb hyy) k_mX3_priceFor c_RX3_65_3 dX3_layBehind_44 (by decide) ⟨by omega, by omega⟩ (by repeat (first | assumption | exact sUp_same | exact sNew_same | refine sUp_ne (by first | assumption | omega) ?_)) rfl rfl (Nat.le_of_ble_eq_true rfl) (fun r σ' hp => ?_)
        obtain ⟨_, rfl, rfl, rfl⟩ := hp
        try simp only [Option.toList_some, Option.toList_none, List.cons_append, List.nil_append]
        refine r_isub S dX3_layBehind_47 ?_
        refine r_mmax S wd_220 ks_max dX3_layBehind_48 (by decide) ⟨by omega, by omega⟩ ⟨by omega, by omega⟩ ⟨by omega, by omega⟩ (Nat.le_of_ble_eq_true rfl) ?_
        refine r_num (z' := newL f (an * 16) yp np heap y i) rfl ?_
        refine r_istore S dX3_layBehind_51 rfl (by decide) (lv' := [_, _, _, _, _, _, _]) rfl ?_
        refine r_aload_n S dX3_layBehind_53 rfl ?_
        refine r_getf S g_RX3_37_3 dX3_layBehind_54 (by repeat (first | assumption | exact sUp_same | exact sNew_same | refine sUp_ne (by first | assumption | omega) ?_)) rfl ?_
        refine r_iload_n S dX3_layBehind_57 rfl ?_
        refine r_iload S dX3_layBehind_58 rfl ?_
        refine r_iadd S dX3_layBehind_60 ?_
        refine r_iload S dX3_layBehind_61 rfl ?_
        refine r_iastN S (an * 16 + 16 + i) dX3_layBehind_63 (by repeat (first | assumption | exact sUp_same | exact sNew_same | refine sUp_ne (by first | assumption | omega) ?_)) (by omega) (by omega) (by decide) ?_
        refine r_iload S dX3_layBehind_64 rfl ?_
        refine r_iconst S dX3_layBehind_66 ?_
        refine r_icmp_eq S dX3_layBehind_67 (tgt := 73) (by decide) ⟨by omega, by omega⟩ ⟨by omega, by omega⟩ (fun h_67 => ?_) (fun h_67 => ?_)
        · refine r_iinc S dX3_layBehind_73 rfl rfl (by decide) (lv' := [_, _, _, _, _, _, _]) rfl ?_
          refine r_goto S dX3_layBehind_76 (tgt := 11) (by decide) ?_
          refine V.mask [true, true, true, true, true, true, false] (lv' := [_, _, _, _, _, _, none]) rfl ?_
          have h9 := ih (i + 1) (by omega)
          rw [← layF_succ] at h9
          simp only [sUp_sUp]
          first
            | (rw [cnt_t (p := fun j => decide (newL f (an * 16) yp np heap y j ≠ -1)) (decide_eq_true (by omega))] at h9; exact h9)
            | (rw [cnt_f (p := fun j => decide (newL f (an * 16) yp np heap y j ≠ -1)) (decide_eq_false (by omega))] at h9; exact h9)
        · refine r_iinc S dX3_layBehind_70 rfl rfl (by decide) (lv' := [_, _, _, _, _, _, _]) rfl ?_
          refine r_iinc S dX3_layBehind_73 rfl rfl (by decide) (lv' := [_, _, _, _, _, _, _]) rfl ?_
          refine r_goto S dX3_layBehind_76 (tgt := 11) (by decide) ?_
          refine V.mask [true, true, true, true, true, true, false] (lv' := [_, _, _, _, _, _, none]) rfl ?_
          have h9 := ih (i + 1) (by omega)
          rw [← layF_succ] at h9
          simp only [sUp_sUp]
          first
            | (rw [cnt_t (p := fun j => decide (newL f (an * 16) yp np heap y j ≠ -1)) (decide_eq_true (by omega))] at h9; exact h9)
            | (rw [cnt_f (p := fun j => decide (newL f (an * 16) yp np heap y j ≠ -1)) (decide_eq_false (by omega))] at h9; exact h9)
      · refine r_iconst S dX3_layBehind_38 ?_
        refine r_goto S dX3_layBehind_39 (tgt := 43) (by decide) ?_
        refine r_num (z' := ((bt heap i : Nat) : Int)) (by omega) ?_
        refine r_iload_n S dX3_layBehind_43 rfl ?_
        refine r_callV S (c_priceFor (sUp_ne (by omega) hG) hy hnp hb hyy) k_mX3_priceFor c_RX3_65_3 dX3_layBehind_44 (by decide) ⟨by omega, by omega⟩ (by repeat (first | assumption | exact sUp_same | exact sNew_same | refine sUp_ne (by first | assumption | omega) ?_)) rfl rfl (Nat.le_of_ble_eq_true rfl) (fun r σ' hp => ?_)
        obtain ⟨_, rfl, rfl, rfl⟩ := hp
        try simp only [Option.toList_some, Option.toList_none, List.cons_append, List.nil_append]
        refine r_isub S dX3_layBehind_47 ?_
        refine r_mmax S wd_220 ks_max dX3_layBehind_48 (by decide) ⟨by omega, by omega⟩ ⟨by omega, by omega⟩ ⟨by omega, by omega⟩ (Nat.le_of_ble_eq_true rfl) ?_
        refine r_num (z' := newL f (an * 16) yp np heap y i) rfl ?_
        refine r_istore S dX3_layBehind_51 rfl (by decide) (lv' := [_, _, _, _, _, _, _]) rfl ?_
        refine r_aload_n S dX3_layBehind_53 rfl ?_
        refine r_getf S g_RX3_37_3 dX3_layBehind_54 (by repeat (first | assumption | exact sUp_same | exact sNew_same | refine sUp_ne (by first | assumption | omega) ?_)) rfl ?_
        refine r_iload_n S dX3_layBehind_57 rfl ?_
        refine r_iload S dX3_layBehind_58 rfl ?_
        refine r_iadd S dX3_layBehind_60 ?_
        refine r_iload S dX3_layBehind_61 rfl ?_
        refine r_iastN S (an * 16 + 16 + i) dX3_layBehind_63 (by repeat (first | assumption | exact sUp_same | exact sNew_same | refine sUp_ne (by first | assumption | omega) ?_)) (by omega) (by omega) (by decide) ?_
        refine r_iload S dX3_layBehind_64 rfl ?_
        refine r_iconst S dX3_layBehind_66 ?_
        refine r_icmp_eq S dX3_layBehind_67 (tgt := 73) (by decide) ⟨by omega, by omega⟩ ⟨by omega, by omega⟩ (fun h_67 => ?_) (fun h_67 => ?_)
        · refine r_iinc S dX3_layBehind_73 rfl rfl (by decide) (lv' := [_, _, _, _, _, _, _]) rfl ?_
          refine r_goto S dX3_layBehind_76 (tgt := 11) (by decide) ?_
          refine V.mask [true, true, true, true, true, true, false] (lv' := [_, _, _, _, _, _, none]) rfl ?_
          have h9 := ih (i + 1) (by omega)
          rw [← layF_succ] at h9
          simp only [sUp_sUp]
          first
            | (rw [cnt_t (p := fun j => decide (newL f (an * 16) yp np heap y j ≠ -1)) (decide_eq_true (by omega))] at h9; exact h9)
            | (rw [cnt_f (p := fun j => decide (newL f (an * 16) yp np heap y j ≠ -1)) (decide_eq_false (by omega))] at h9; exact h9)
        · refine r_iinc S dX3_layBehind_70 rfl rfl (by decide) (lv' := [_, _, _, _, _, _, _]) rfl ?_
          refine r_iinc S dX3_layBehind_73 rfl rfl (by decide) (lv' := [_, _, _, _, _, _, _]) rfl ?_
          refine r_goto S dX3_layBehind_76 (tgt := 11) (by decide) ?_
          refine V.mask [true, true, true, true, true, true, false] (lv' := [_, _, _, _, _, _, none]) rfl ?_
          have h9 := ih (i + 1) (by omega)
          rw [← layF_succ] at h9
          simp only [sUp_sUp]
          first
            | (rw [cnt_t (p := fun j => decide (newL f (an * 16) yp np heap y j ≠ -1)) (decide_eq_true (by omega))] at h9; exact h9)
            | (rw [cnt_f (p := fun j => decide (newL f (an * 16) yp np heap y j ≠ -1)) (decide_eq_false (by omega))] at h9; exact h9)

set_option maxRecDepth 100000 in
set_option maxHeartbeats 4000000 in
theorem c_layBehind {k : Cx} {L0 : Launch} {σ : St} {on kd e wt yp np : Int} {n an : Nat} (hG : σ.2 (cBase k + 9) = some (oGame k on kd n e an wt yp np)) {f : Nat → Int} (hL : σ.2 (cBase k + 10) = some (eI k 992 f)) (han : an ≤ 60) (hn : n ≤ 16) (hf : ∀ j, -1 ≤ f j ∧ f j ≤ 3) (hy : 0 ≤ yp ∧ yp ≤ 9) (hnp : 0 ≤ np ∧ np ≤ 9) {heap y : Nat} (hh : heap < 65536) (hyy : y < 2) : CtrV k L0 mX3_layBehind 3 0 0 [.ref (cBase k + 9), .int (iZ (heap : Int)), .int (iZ (y : Int))] σ (fun v σ' => v = .int (iZ (cnt (fun j => decide (newL f (an * 16) yp np heap y j ≠ -1)) n : Int)) ∧ σ' = (sUp σ (cBase k + 10) (eI k 992 (layF f an yp np heap y (n))))) := by
  refine Ctr.of (by decide +kernel) rfl (Nat.le_of_ble_eq_true rfl) ?_
  intro κ hl0 S
  subst hl0
  refine r_aload_n S dX3_layBehind_0 rfl ?_
  refine r_callV S (c_rowBehind hG) k_mX3_rowBehind c_RX3_62_3 dX3_layBehind_1 (by decide) ⟨by omega, by omega⟩ (by repeat (first | assumption | exact sUp_same | exact sNew_same | refine sUp_ne (by first | assumption | omega) ?_)) rfl rfl (Nat.le_of_ble_eq_true rfl) (fun r σ' hp => ?_)
  obtain ⟨_, rfl, rfl, rfl⟩ := hp
  try simp only [Option.toList_some, Option.toList_none, List.cons_append, List.nil_append]
  refine r_istore_n S dX3_layBehind_4 rfl (by decide) (lv' := [_, _, _, _, _, _, _]) rfl ?_
  refine r_iconst S dX3_layBehind_5 ?_
  refine r_istore S dX3_layBehind_6 rfl (by decide) (lv' := [_, _, _, _, _, _, _]) rfl ?_
  refine r_iconst S dX3_layBehind_8 ?_
  refine r_istore S dX3_layBehind_9 rfl (by decide) (lv' := [_, _, _, _, _, _, _]) rfl ?_
  have h9 := l_layBehind hG hL han hn hf hy hnp hh hyy S n 0 (by omega)
  rw [layF_0, sUp_id hL] at h9
  exact h9

set_option maxRecDepth 100000 in
set_option maxHeartbeats 4000000 in
theorem c_reply {k : Cx} {L0 : Launch} {σ : St} {on kd e wt yp np : Int} {n an : Nat} (hG : σ.2 (cBase k + 9) = some (oGame k on kd n e an wt yp np)) {f : Nat → Int} (hL : σ.2 (cBase k + 10) = some (eI k 992 f)) (han : an ≤ 60) (hn : n ≤ 16) (hf : ∀ j, -1 ≤ f j ∧ f j ≤ 3) (hy : 0 ≤ yp ∧ yp ≤ 9) (hnp : 0 ≤ np ∧ np ≤ 9) {heap y : Nat} (hh : heap < 65536) (hyy : y < 2) (hkd : zR kd) : CtrV k L0 mX3_reply 4 0 0 [.ref (cBase k + 9), .int (iZ (heap : Int)), .int (iZ (y : Int))] σ (fun v σ' => (cnt (fun j => decide (newL f (an * 16) yp np heap y j ≠ -1)) n = 0 ∧ v = .int (iZ (-2)) ∧ σ' = (sUp σ (cBase k + 10) (eI k 992 (layF f an yp np heap y (n))))) ∨ (cnt (fun j => decide (newL f (an * 16) yp np heap y j ≠ -1)) n ≠ 0 ∧ 60 ≤ an ∧ v = .int (iZ (-3)) ∧ σ' = (sUp σ (cBase k + 10) (eI k 992 (layF f an yp np heap y (n))))) ∨ (cnt (fun j => decide (newL f (an * 16) yp np heap y j ≠ -1)) n ≠ 0 ∧ an < 60 ∧ v = .int (iZ (cnt (fun j => decide (newL f (an * 16) yp np heap y j ≠ -1)) n : Int)) ∧ σ' = sUp (sUp σ (cBase k + 10) (eI k 992 (layF f an yp np heap y (n)))) (cBase k + 9) (oGame k on kd n e ((an : Int) + 1) (-1) yp np))) := by
  refine Ctr.of (by decide +kernel) rfl (Nat.le_of_ble_eq_true rfl) ?_
  intro κ hl0 S
  subst hl0
  have hcl := cnt_le (fun j => decide (newL f (an * 16) yp np heap y j ≠ -1)) n
  refine r_aload_n S dX3_reply_0 rfl ?_
  refine r_iload_n S dX3_reply_1 rfl ?_
  refine r_iload_n S dX3_reply_2 rfl ?_
  refine r_callV S (c_layBehind hG hL han hn hf hy hnp hh hyy) k_mX3_layBehind c_RX3_58_3 dX3_reply_3 (by decide) ⟨by omega, by omega⟩ (by repeat (first | assumption | exact sUp_same | exact sNew_same | refine sUp_ne (by first | assumption | omega) ?_)) rfl rfl (Nat.le_of_ble_eq_true rfl) (fun r σ' hp => ?_)
  obtain ⟨_, rfl, rfl, rfl⟩ := hp
  try simp only [Option.toList_some, Option.toList_none, List.cons_append, List.nil_append]
  refine r_istore_n S dX3_reply_6 rfl (by decide) (lv' := [_, _, _, _]) rfl ?_
  refine r_iload_n S dX3_reply_7 rfl ?_
  refine r_if_ne S dX3_reply_8 (tgt := 14) (by decide) ⟨by omega, by omega⟩ (fun h_8 => ?_) (fun h_8 => ?_)
  · refine r_aload_n S dX3_reply_14 rfl ?_
    refine r_getf S g_RX3_25_3 dX3_reply_15 (by repeat (first | assumption | exact sUp_same | exact sNew_same | refine sUp_ne (by first | assumption | omega) ?_)) rfl ?_
    refine r_bipush S dX3_reply_18 (by decide) ?_
    refine r_icmp_lt S dX3_reply_20 (tgt := 26) (by decide) ⟨by omega, by omega⟩ ⟨by omega, by omega⟩ (fun h_20 => ?_) (fun h_20 => ?_)
    · refine r_aload_n S dX3_reply_26 rfl ?_
      refine r_dup S dX3_reply_27 rfl ?_
      refine r_getf S g_RX3_25_3 dX3_reply_28 (by repeat (first | assumption | exact sUp_same | exact sNew_same | refine sUp_ne (by first | assumption | omega) ?_)) rfl ?_
      refine r_iconst S dX3_reply_31 ?_
      refine r_iadd S dX3_reply_32 ?_
      refine r_putf S p_RX3_25_3 dX3_reply_33 (by first | rfl | decide) (by first | rfl | decide) (by repeat (first | assumption | exact sUp_same | exact sNew_same | refine sUp_ne (by first | assumption | omega) ?_)) (Nat.le_of_ble_eq_true rfl) (fs' := [_, _, _, _, _, _, _, _, _]) rfl ?_
      try simp only [sUp_sUp]
      refine r_aload_n S dX3_reply_36 rfl ?_
      refine r_iconst S dX3_reply_37 ?_
      refine r_putf S p_RX3_28_3 dX3_reply_38 (by first | rfl | decide) (by first | rfl | decide) (by repeat (first | assumption | exact sUp_same | exact sNew_same | refine sUp_ne (by first | assumption | omega) ?_)) (Nat.le_of_ble_eq_true rfl) (fs' := [_, _, _, _, _, _, _, _, _]) rfl ?_
      try simp only [sUp_sUp]
      refine r_iload_n S dX3_reply_41 rfl ?_
      exact r_iret S dX3_reply_42 (by omega) (by omega) (⟨_, rfl, Or.inr (Or.inr ⟨by omega, by omega, rfl, rfl⟩)⟩)
    · refine r_bipush S dX3_reply_23 (by decide) ?_
      exact r_iret S dX3_reply_25 (by omega) (by omega) (⟨_, rfl, Or.inr (Or.inl ⟨by omega, by omega, rfl, rfl⟩)⟩)
  · refine r_bipush S dX3_reply_11 (by decide) ?_
    exact r_iret S dX3_reply_13 (by omega) (by omega) (⟨_, rfl, Or.inl ⟨by omega, rfl, rfl⟩⟩)

set_option maxRecDepth 100000 in
set_option maxHeartbeats 4000000 in
theorem l_start {κ : Kx} {k : Cx} {σ : St} {kd2 yp2 np2 : Int} {n2 e2 : Nat} {f : Nat → Int} (hn : n2 ≤ 16) (hG : σ.2 (cBase k + 9) = some (oGame k 1 kd2 (n2 : Int) (e2 : Int) 0 (-1) yp2 np2)) (hL : σ.2 (cBase k + 10) = some (eI k 992 f)) (S : Ok κ k cX3_start 7 RX3 none "start" 1 0 0) : ∀ (m i : Nat), i + m = n2 → V κ k 7 0 0 (QR κ k (fun r σ' => r = none ∧ σ' = sUp σ (cBase k + 10) (eI k 992 (fillF f (e2 : Int) n2))) 0 0) 54 [some (.ref (cBase k + 9)), some (.int (iZ kd2)), some (.int (iZ (n2 : Int))), some (.int (iZ (e2 : Int))), some (.int (iZ yp2)), some (.int (iZ np2)), some (.int (iZ (i : Int)))] [] (sUp σ (cBase k + 10) (eI k 992 (fillF f (e2 : Int) i))) := by
  intro m
  induction m with
  | zero =>
    intro i hi
    have hin : i = n2 := by omega
    subst hin
    refine r_iload S dX3_start_54 rfl ?_
    refine r_aload_n S dX3_start_56 rfl ?_
    refine r_getf S g_RX3_19_3 dX3_start_57 (by repeat (first | assumption | exact sUp_same | exact sNew_same | refine sUp_ne (by first | assumption | omega) ?_)) rfl ?_
    refine r_icmp_ge S dX3_start_60 (tgt := 77) (by decide) ⟨by omega, by omega⟩ ⟨by omega, by omega⟩ (fun h_60 => ?_) (fun h_60 => ?_)
    · exact r_vret S dX3_start_77 (by omega) (by omega) (⟨rfl, rfl⟩)
    · omega
  | succ m ih =>
    intro i hi
    refine r_iload S dX3_start_54 rfl ?_
    refine r_aload_n S dX3_start_56 rfl ?_
    refine r_getf S g_RX3_19_3 dX3_start_57 (by repeat (first | assumption | exact sUp_same | exact sNew_same | refine sUp_ne (by first | assumption | omega) ?_)) rfl ?_
    refine r_icmp_ge S dX3_start_60 (tgt := 77) (by decide) ⟨by omega, by omega⟩ ⟨by omega, by omega⟩ (fun h_60 => ?_) (fun h_60 => ?_)
    · omega
    · refine r_aload_n S dX3_start_63 rfl ?_
      refine r_getf S g_RX3_37_3 dX3_start_64 (by repeat (first | assumption | exact sUp_same | exact sNew_same | refine sUp_ne (by first | assumption | omega) ?_)) rfl ?_
      refine r_iload S dX3_start_67 rfl ?_
      refine r_iload_n S dX3_start_69 rfl ?_
      refine r_iastN S (i) dX3_start_70 (by repeat (first | assumption | exact sUp_same | exact sNew_same | refine sUp_ne (by first | assumption | omega) ?_)) (by omega) (by omega) (by decide) ?_
      refine r_iinc S dX3_start_71 rfl rfl (by decide) (lv' := [_, _, _, _, _, _, _]) rfl ?_
      refine r_goto S dX3_start_74 (tgt := 54) (by decide) ?_
      have h9 := ih (i + 1) (by omega)
      rw [← fillF_succ] at h9
      simp only [sUp_sUp]
      exact h9

set_option maxRecDepth 100000 in
set_option maxHeartbeats 4000000 in
theorem c_start {k : Cx} {L0 : Launch} {σ : St} {on kd e wt yp np : Int} {n an : Nat} (hG : σ.2 (cBase k + 9) = some (oGame k on kd n e an wt yp np)) {kd2 yp2 np2 : Int} {n2 e2 : Nat} {f : Nat → Int} (hL : σ.2 (cBase k + 10) = some (eI k 992 f)) (hn : 1 ≤ n2 ∧ n2 ≤ 16) : CtrU k L0 mX3_start 1 0 0 [.ref (cBase k + 9), .int (iZ kd2), .int (iZ (n2 : Int)), .int (iZ (e2 : Int)), .int (iZ yp2), .int (iZ np2)] σ (fun σ' => σ' = sUp (sUp σ (cBase k + 9) (oGame k 1 kd2 (n2 : Int) (e2 : Int) 0 (-1) yp2 np2)) (cBase k + 10) (eI k 992 (fillF f (e2 : Int) n2))) := by
  refine Ctr.of (by decide +kernel) rfl (Nat.le_of_ble_eq_true rfl) ?_
  intro κ hl0 S
  subst hl0
  refine r_aload_n S dX3_start_0 rfl ?_
  refine r_iconst S dX3_start_1 ?_
  refine r_putf S p_RX3_9_3 dX3_start_2 (by first | rfl | decide) (by first | rfl | decide) (by repeat (first | assumption | exact sUp_same | exact sNew_same | refine sUp_ne (by first | assumption | omega) ?_)) (Nat.le_of_ble_eq_true rfl) (fs' := [_, _, _, _, _, _, _, _, _]) rfl ?_
  try simp only [sUp_sUp]
  refine r_aload_n S dX3_start_5 rfl ?_
  refine r_iload_n S dX3_start_6 rfl ?_
  refine r_putf S p_RX3_15_3 dX3_start_7 (by first | rfl | decide) (by first | rfl | decide) (by repeat (first | assumption | exact sUp_same | exact sNew_same | refine sUp_ne (by first | assumption | omega) ?_)) (Nat.le_of_ble_eq_true rfl) (fs' := [_, _, _, _, _, _, _, _, _]) rfl ?_
  try simp only [sUp_sUp]
  refine r_aload_n S dX3_start_10 rfl ?_
  refine r_iconst S dX3_start_11 ?_
  refine r_iload_n S dX3_start_12 rfl ?_
  refine r_bipush S dX3_start_13 (by decide) ?_
  refine r_mmin S wd_217 ks_min dX3_start_15 (by decide) ⟨by omega, by omega⟩ ⟨by omega, by omega⟩ ⟨by omega, by omega⟩ (Nat.le_of_ble_eq_true rfl) ?_
  refine r_mmax S wd_220 ks_max dX3_start_18 (by decide) ⟨by omega, by omega⟩ ⟨by omega, by omega⟩ ⟨by omega, by omega⟩ (Nat.le_of_ble_eq_true rfl) ?_
  refine r_num (z' := (n2 : Int)) (by omega) ?_
  refine r_putf S p_RX3_19_3 dX3_start_21 (by first | rfl | decide) (by first | rfl | decide) (by repeat (first | assumption | exact sUp_same | exact sNew_same | refine sUp_ne (by first | assumption | omega) ?_)) (Nat.le_of_ble_eq_true rfl) (fs' := [_, _, _, _, _, _, _, _, _]) rfl ?_
  try simp only [sUp_sUp]
  refine r_aload_n S dX3_start_24 rfl ?_
  refine r_iload_n S dX3_start_25 rfl ?_
  refine r_putf S p_RX3_22_3 dX3_start_26 (by first | rfl | decide) (by first | rfl | decide) (by repeat (first | assumption | exact sUp_same | exact sNew_same | refine sUp_ne (by first | assumption | omega) ?_)) (Nat.le_of_ble_eq_true rfl) (fs' := [_, _, _, _, _, _, _, _, _]) rfl ?_
  try simp only [sUp_sUp]
  refine r_aload_n S dX3_start_29 rfl ?_
  refine r_iconst S dX3_start_30 ?_
  refine r_putf S p_RX3_25_3 dX3_start_31 (by first | rfl | decide) (by first | rfl | decide) (by repeat (first | assumption | exact sUp_same | exact sNew_same | refine sUp_ne (by first | assumption | omega) ?_)) (Nat.le_of_ble_eq_true rfl) (fs' := [_, _, _, _, _, _, _, _, _]) rfl ?_
  try simp only [sUp_sUp]
  refine r_aload_n S dX3_start_34 rfl ?_
  refine r_iconst S dX3_start_35 ?_
  refine r_putf S p_RX3_28_3 dX3_start_36 (by first | rfl | decide) (by first | rfl | decide) (by repeat (first | assumption | exact sUp_same | exact sNew_same | refine sUp_ne (by first | assumption | omega) ?_)) (Nat.le_of_ble_eq_true rfl) (fs' := [_, _, _, _, _, _, _, _, _]) rfl ?_
  try simp only [sUp_sUp]
  refine r_aload_n S dX3_start_39 rfl ?_
  refine r_iload S dX3_start_40 rfl ?_
  refine r_putf S p_RX3_31_3 dX3_start_42 (by first | rfl | decide) (by first | rfl | decide) (by repeat (first | assumption | exact sUp_same | exact sNew_same | refine sUp_ne (by first | assumption | omega) ?_)) (Nat.le_of_ble_eq_true rfl) (fs' := [_, _, _, _, _, _, _, _, _]) rfl ?_
  try simp only [sUp_sUp]
  refine r_aload_n S dX3_start_45 rfl ?_
  refine r_iload S dX3_start_46 rfl ?_
  refine r_putf S p_RX3_34_3 dX3_start_48 (by first | rfl | decide) (by first | rfl | decide) (by repeat (first | assumption | exact sUp_same | exact sNew_same | refine sUp_ne (by first | assumption | omega) ?_)) (Nat.le_of_ble_eq_true rfl) (fs' := [_, _, _, _, _, _, _, _, _]) rfl ?_
  try simp only [sUp_sUp]
  refine r_iconst S dX3_start_51 ?_
  refine r_istore S dX3_start_52 rfl (by decide) (lv' := [_, _, _, _, _, _, _]) rfl ?_
  have h9 := l_start (σ := sUp σ (cBase k + 9) (oGame k 1 kd2 (n2 : Int) (e2 : Int) 0 (-1) yp2 np2)) (f := f) hn.2 sUp_same (sUp_ne (by omega) hL) S n2 0 (by omega)
  rw [fillF_0, sUp_id (sUp_ne (by omega) hL)] at h9
  exact h9
