set_option maxRecDepth 100000 in
set_option maxHeartbeats 4000000 in
theorem c_traceM {k : Cx} {L0 : Launch} {σ : St} {wt tb tr sk sm : Int} {on kd n e an q : Nat} (hM : σ.2 (cBase k + 14) = some (oModel k on kd n e an wt tb q tr sk sm)) : CtrV k L0 mX12_trace 1 0 0 [.ref (cBase k + 14)] σ (fun v σ' => v = .long (lZ (tr)) ∧ σ' = σ) := by
  refine Ctr.of (by decide +kernel) rfl (Nat.le_of_ble_eq_true rfl) ?_
  intro κ hl0 S
  subst hl0
  refine r_aload_n S dX12_trace_0 rfl ?_
  refine r_getf S g_RX12_57_11 dX12_trace_1 (by repeat (first | assumption | exact sUp_same | exact sNew_same | refine sUp_ne (by first | assumption | omega) ?_)) rfl ?_
  exact r_lret S dX12_trace_4 (by omega) (by omega) (⟨_, rfl, rfl, rfl⟩)

set_option maxRecDepth 100000 in
set_option maxHeartbeats 4000000 in
theorem c_toldM0 {k : Cx} {L0 : Launch} {σ : St} {wt tb tr sk sm : Int} {on kd n e an q : Nat} (hM : σ.2 (cBase k + 14) = some (oModel k on kd n e an wt tb q tr sk sm)) (hon : on < 2) : CtrV k L0 mX12_told 1 0 0 [.ref (cBase k + 14), .int (iZ 0)] σ (fun v σ' => v = .int (iZ ((on : Int))) ∧ σ' = σ) := by
  refine Ctr.of (by decide +kernel) rfl (Nat.le_of_ble_eq_true rfl) ?_
  intro κ hl0 S
  subst hl0
  refine r_iload_n S dX12_told_0 rfl ?_
  refine r_tswIn S dX12_told_1 (tgt := 48) ⟨by decide, by decide⟩ (by decide) (by decide) rfl (by decide) ?_
  refine r_aload_n S dX12_told_48 rfl ?_
  refine r_getf S g_RX12_49_11 dX12_told_49 (by repeat (first | assumption | exact sUp_same | exact sNew_same | refine sUp_ne (by first | assumption | omega) ?_)) rfl ?_
  refine r_if_eq S dX12_told_52 (tgt := 59) (by decide) ⟨by omega, by omega⟩ (fun h_52 => ?_) (fun h_52 => ?_)
  · refine r_iconst S dX12_told_59 ?_
    exact r_iret S dX12_told_60 (by omega) (by omega) (⟨_, rfl, by rw [show (on : Int) = 0 by omega], rfl⟩)
  · refine r_iconst S dX12_told_55 ?_
    refine r_goto S dX12_told_56 (tgt := 60) (by decide) ?_
    exact r_iret S dX12_told_60 (by omega) (by omega) (⟨_, rfl, by rw [show (on : Int) = 1 by omega], rfl⟩)

set_option maxRecDepth 100000 in
set_option maxHeartbeats 4000000 in
theorem c_toldM1 {k : Cx} {L0 : Launch} {σ : St} {wt tb tr sk sm : Int} {on kd n e an q : Nat} (hM : σ.2 (cBase k + 14) = some (oModel k on kd n e an wt tb q tr sk sm)) : CtrV k L0 mX12_told 1 0 0 [.ref (cBase k + 14), .int (iZ 1)] σ (fun v σ' => v = .int (iZ ((kd : Int))) ∧ σ' = σ) := by
  refine Ctr.of (by decide +kernel) rfl (Nat.le_of_ble_eq_true rfl) ?_
  intro κ hl0 S
  subst hl0
  refine r_iload_n S dX12_told_0 rfl ?_
  refine r_tswIn S dX12_told_1 (tgt := 61) ⟨by decide, by decide⟩ (by decide) (by decide) rfl (by decide) ?_
  refine r_aload_n S dX12_told_61 rfl ?_
  refine r_getf S g_RX12_88_11 dX12_told_62 (by repeat (first | assumption | exact sUp_same | exact sNew_same | refine sUp_ne (by first | assumption | omega) ?_)) rfl ?_
  exact r_iret S dX12_told_65 (by omega) (by omega) (⟨_, rfl, rfl, rfl⟩)

set_option maxRecDepth 100000 in
set_option maxHeartbeats 4000000 in
theorem c_toldM2 {k : Cx} {L0 : Launch} {σ : St} {wt tb tr sk sm : Int} {on kd n e an q : Nat} (hM : σ.2 (cBase k + 14) = some (oModel k on kd n e an wt tb q tr sk sm)) : CtrV k L0 mX12_told 1 0 0 [.ref (cBase k + 14), .int (iZ 2)] σ (fun v σ' => v = .int (iZ ((n : Int))) ∧ σ' = σ) := by
  refine Ctr.of (by decide +kernel) rfl (Nat.le_of_ble_eq_true rfl) ?_
  intro κ hl0 S
  subst hl0
  refine r_iload_n S dX12_told_0 rfl ?_
  refine r_tswIn S dX12_told_1 (tgt := 66) ⟨by decide, by decide⟩ (by decide) (by decide) rfl (by decide) ?_
  refine r_aload_n S dX12_told_66 rfl ?_
  refine r_getf S g_RX12_91_11 dX12_told_67 (by repeat (first | assumption | exact sUp_same | exact sNew_same | refine sUp_ne (by first | assumption | omega) ?_)) rfl ?_
  exact r_iret S dX12_told_70 (by omega) (by omega) (⟨_, rfl, rfl, rfl⟩)

set_option maxRecDepth 100000 in
set_option maxHeartbeats 4000000 in
theorem c_toldM3 {k : Cx} {L0 : Launch} {σ : St} {wt tb tr sk sm : Int} {on kd n e an q : Nat} (hM : σ.2 (cBase k + 14) = some (oModel k on kd n e an wt tb q tr sk sm)) : CtrV k L0 mX12_told 1 0 0 [.ref (cBase k + 14), .int (iZ 3)] σ (fun v σ' => v = .int (iZ ((e : Int))) ∧ σ' = σ) := by
  refine Ctr.of (by decide +kernel) rfl (Nat.le_of_ble_eq_true rfl) ?_
  intro κ hl0 S
  subst hl0
  refine r_iload_n S dX12_told_0 rfl ?_
  refine r_tswIn S dX12_told_1 (tgt := 71) ⟨by decide, by decide⟩ (by decide) (by decide) rfl (by decide) ?_
  refine r_aload_n S dX12_told_71 rfl ?_
  refine r_getf S g_RX12_98_11 dX12_told_72 (by repeat (first | assumption | exact sUp_same | exact sNew_same | refine sUp_ne (by first | assumption | omega) ?_)) rfl ?_
  exact r_iret S dX12_told_75 (by omega) (by omega) (⟨_, rfl, rfl, rfl⟩)

set_option maxRecDepth 100000 in
set_option maxHeartbeats 4000000 in
theorem c_toldM4 {k : Cx} {L0 : Launch} {σ : St} {wt tb tr sk sm : Int} {on kd n e an q : Nat} (hM : σ.2 (cBase k + 14) = some (oModel k on kd n e an wt tb q tr sk sm)) : CtrV k L0 mX12_told 1 0 0 [.ref (cBase k + 14), .int (iZ 4)] σ (fun v σ' => v = .int (iZ ((an : Int))) ∧ σ' = σ) := by
  refine Ctr.of (by decide +kernel) rfl (Nat.le_of_ble_eq_true rfl) ?_
  intro κ hl0 S
  subst hl0
  refine r_iload_n S dX12_told_0 rfl ?_
  refine r_tswIn S dX12_told_1 (tgt := 76) ⟨by decide, by decide⟩ (by decide) (by decide) rfl (by decide) ?_
  refine r_aload_n S dX12_told_76 rfl ?_
  refine r_getf S g_RX12_101_11 dX12_told_77 (by repeat (first | assumption | exact sUp_same | exact sNew_same | refine sUp_ne (by first | assumption | omega) ?_)) rfl ?_
  exact r_iret S dX12_told_80 (by omega) (by omega) (⟨_, rfl, rfl, rfl⟩)

set_option maxRecDepth 100000 in
set_option maxHeartbeats 4000000 in
theorem c_toldM5 {k : Cx} {L0 : Launch} {σ : St} {wt tb tr sk sm : Int} {on kd n e an q : Nat} (hM : σ.2 (cBase k + 14) = some (oModel k on kd n e an wt tb q tr sk sm)) : CtrV k L0 mX12_told 1 0 0 [.ref (cBase k + 14), .int (iZ 5)] σ (fun v σ' => v = .int (iZ (wt)) ∧ σ' = σ) := by
  refine Ctr.of (by decide +kernel) rfl (Nat.le_of_ble_eq_true rfl) ?_
  intro κ hl0 S
  subst hl0
  refine r_iload_n S dX12_told_0 rfl ?_
  refine r_tswIn S dX12_told_1 (tgt := 81) ⟨by decide, by decide⟩ (by decide) (by decide) rfl (by decide) ?_
  refine r_aload_n S dX12_told_81 rfl ?_
  refine r_getf S g_RX12_7_11 dX12_told_82 (by repeat (first | assumption | exact sUp_same | exact sNew_same | refine sUp_ne (by first | assumption | omega) ?_)) rfl ?_
  exact r_iret S dX12_told_85 (by omega) (by omega) (⟨_, rfl, rfl, rfl⟩)

set_option maxRecDepth 100000 in
set_option maxHeartbeats 4000000 in
theorem c_toldM6 {k : Cx} {L0 : Launch} {σ : St} {wt tb tr sk sm : Int} {on kd n e an q : Nat} (hM : σ.2 (cBase k + 14) = some (oModel k on kd n e an wt tb q tr sk sm)) : CtrV k L0 mX12_told 1 0 0 [.ref (cBase k + 14), .int (iZ 6)] σ (fun v σ' => v = .int (iZ ((q : Int))) ∧ σ' = σ) := by
  refine Ctr.of (by decide +kernel) rfl (Nat.le_of_ble_eq_true rfl) ?_
  intro κ hl0 S
  subst hl0
  refine r_iload_n S dX12_told_0 rfl ?_
  refine r_tswIn S dX12_told_1 (tgt := 86) ⟨by decide, by decide⟩ (by decide) (by decide) rfl (by decide) ?_
  refine r_aload_n S dX12_told_86 rfl ?_
  refine r_getf S g_RX12_146_11 dX12_told_87 (by repeat (first | assumption | exact sUp_same | exact sNew_same | refine sUp_ne (by first | assumption | omega) ?_)) rfl ?_
  exact r_iret S dX12_told_90 (by omega) (by omega) (⟨_, rfl, rfl, rfl⟩)

set_option maxRecDepth 100000 in
set_option maxHeartbeats 4000000 in
theorem c_toldM7 {k : Cx} {L0 : Launch} {σ : St} {wt tb tr sk sm : Int} {on kd n e an q : Nat} (hM : σ.2 (cBase k + 14) = some (oModel k on kd n e an wt tb q tr sk sm)) : CtrV k L0 mX12_told 1 0 0 [.ref (cBase k + 14), .int (iZ 7)] σ (fun v σ' => v = .int (iZ (tb)) ∧ σ' = σ) := by
  refine Ctr.of (by decide +kernel) rfl (Nat.le_of_ble_eq_true rfl) ?_
  intro κ hl0 S
  subst hl0
  refine r_iload_n S dX12_told_0 rfl ?_
  refine r_tswIn S dX12_told_1 (tgt := 91) ⟨by decide, by decide⟩ (by decide) (by decide) rfl (by decide) ?_
  refine r_aload_n S dX12_told_91 rfl ?_
  refine r_getf S g_RX12_117_11 dX12_told_92 (by repeat (first | assumption | exact sUp_same | exact sNew_same | refine sUp_ne (by first | assumption | omega) ?_)) rfl ?_
  exact r_iret S dX12_told_95 (by omega) (by omega) (⟨_, rfl, rfl, rfl⟩)

set_option maxRecDepth 100000 in
set_option maxHeartbeats 4000000 in
theorem c_toldMx {k : Cx} {L0 : Launch} {σ : St} {z : Int} (hz : zR z) (hb : z < 0 ∨ 7 < z) : CtrV k L0 mX12_told 1 0 0 [.ref (cBase k + 14), .int (iZ z)] σ (fun v σ' => v = .int (iZ (-2)) ∧ σ' = σ) := by
  refine Ctr.of (by decide +kernel) rfl (Nat.le_of_ble_eq_true rfl) ?_
  intro κ hl0 S
  subst hl0
  refine r_iload_n S dX12_told_0 rfl ?_
  refine r_tswOut S dX12_told_1 (tgt := 96) hz (by omega) (by decide) ?_
  refine r_bipush S dX12_told_96 (by decide) ?_
  exact r_iret S dX12_told_98 (by omega) (by omega) (⟨_, rfl, rfl, rfl⟩)

set_option maxRecDepth 100000 in
set_option maxHeartbeats 4000000 in
theorem c_costM0 {k : Cx} {L0 : Launch} {σ : St} {a y b : Int} (ha : zR a) (hb : ¬ (0 ≤ a ∧ a < 3)) : CtrV k L0 mX12_cost 2 0 0 [.ref (cBase k + 14), .int (iZ a), .int (iZ y), .int (iZ b)] σ (fun v σ' => v = .int (iZ (-1)) ∧ σ' = σ) := by
  refine Ctr.of (by decide +kernel) rfl (Nat.le_of_ble_eq_true rfl) ?_
  intro κ hl0 S
  subst hl0
  refine r_iload_n S dX12_cost_0 rfl ?_
  refine r_iconst S dX12_cost_1 ?_
  refine r_iconst S dX12_cost_2 ?_
  refine r_callS S (c_in ha ⟨by decide, by decide⟩ ⟨by decide, by decide⟩) k_mX12_in c_RX12_53 dX12_cost_3 (by decide) ⟨by omega, by omega⟩ rfl rfl (Nat.le_of_ble_eq_true rfl) (fun r σ' hp => ?_)
  obtain ⟨_, rfl, rfl, rfl⟩ := hp
  try simp only [Option.toList_some, Option.toList_none, List.cons_append, List.nil_append]
  refine r_if_ne S dX12_cost_6 (tgt := 11) (by decide) (b01_R _) (fun h_6 => ?_) (fun h_6 => ?_)
  · simp only [b01_z, Decidable.not_not] at h_6
    omega
  · simp only [b01_z, Decidable.not_not] at h_6
    refine r_iconst S dX12_cost_9 ?_
    exact r_iret S dX12_cost_10 (by omega) (by omega) (⟨_, rfl, rfl, rfl⟩)

set_option maxRecDepth 100000 in
set_option maxHeartbeats 4000000 in
theorem c_costM {k : Cx} {L0 : Launch} {σ : St} {wt tb tr sk sm : Int} {on kd n e an q : Nat} (hM : σ.2 (cBase k + 14) = some (oModel k on kd n e an wt tb q tr sk sm)) {c y b : Nat} (hc : c < 3) (hy : y < 2) (hb : b < 2) : CtrV k L0 mX12_cost 2 0 0 [.ref (cBase k + 14), .int (iZ (c : Int)), .int (iZ (y : Int)), .int (iZ (b : Int))] σ (fun v σ' => v = .int (iZ (costK c y b)) ∧ σ' = sUp σ (cBase k + 14) (oModel k on kd n e an wt tb q (tr + trK c) sk sm)) := by
  refine Ctr.of (by decide +kernel) rfl (Nat.le_of_ble_eq_true rfl) ?_
  intro κ hl0 S
  subst hl0
  refine r_iload_n S dX12_cost_0 rfl ?_
  refine r_iconst S dX12_cost_1 ?_
  refine r_iconst S dX12_cost_2 ?_
  refine r_callS S (c_in ⟨by omega, by omega⟩ ⟨by decide, by decide⟩ ⟨by decide, by decide⟩) k_mX12_in c_RX12_53 dX12_cost_3 (by decide) ⟨by omega, by omega⟩ rfl rfl (Nat.le_of_ble_eq_true rfl) (fun r σ' hp => ?_)
  obtain ⟨_, rfl, rfl, rfl⟩ := hp
  try simp only [Option.toList_some, Option.toList_none, List.cons_append, List.nil_append]
  refine r_if_ne S dX12_cost_6 (tgt := 11) (by decide) (b01_R _) (fun h_6 => ?_) (fun h_6 => ?_)
  · simp only [b01_z, Decidable.not_not] at h_6
    refine r_aload_n S dX12_cost_11 rfl ?_
    refine r_dup S dX12_cost_12 rfl ?_
    refine r_getf S g_RX12_57_11 dX12_cost_13 (by repeat (first | assumption | exact sUp_same | exact sNew_same | refine sUp_ne (by first | assumption | omega) ?_)) rfl ?_
    refine r_iload_n S dX12_cost_16 rfl ?_
    refine r_if_ne S dX12_cost_17 (tgt := 24) (by decide) ⟨by omega, by omega⟩ (fun h_17 => ?_) (fun h_17 => ?_)
    · refine r_iload_n S dX12_cost_24 rfl ?_
      refine r_iconst S dX12_cost_25 ?_
      refine r_icmp_ne S dX12_cost_26 (tgt := 35) (by decide) ⟨by omega, by omega⟩ ⟨by omega, by omega⟩ (fun h_26 => ?_) (fun h_26 => ?_)
      · refine r_ldc2 S (n := 111) (by exact wd_722) dX12_cost_35 ?_
        refine r_ladd S dX12_cost_38 ?_
        refine r_lnum (z' := tr + trK c) (by rw [show trK c = 111 by unfold trK; rw [if_neg (by omega), if_neg (by omega)]]) ?_
        refine r_putf S p_RX12_57_11 dX12_cost_39 (by first | rfl | decide) (by first | rfl | decide) (by repeat (first | assumption | exact sUp_same | exact sNew_same | refine sUp_ne (by first | assumption | omega) ?_)) (Nat.le_of_ble_eq_true rfl) (fs' := [_, _, _, _, _, _, _, _, _, _, _, _, _, _, _, _, _, _, _, _, _]) rfl ?_
        try simp only [sUp_sUp]
        refine r_iload_n S dX12_cost_42 rfl ?_
        refine r_iload_n S dX12_cost_43 rfl ?_
        refine r_iload_n S dX12_cost_44 rfl ?_
        refine r_callS S (c_costOf hc hy hb) k_mX12_costOf c_RX12_65 dX12_cost_45 (by decide) ⟨by omega, by omega⟩ rfl rfl (Nat.le_of_ble_eq_true rfl) (fun r σ' hp => ?_)
        obtain ⟨_, rfl, rfl, rfl⟩ := hp
        try simp only [Option.toList_some, Option.toList_none, List.cons_append, List.nil_append]
        exact r_iret S dX12_cost_48 (by omega) (by omega) (⟨_, rfl, rfl, rfl⟩)
      · refine r_ldc2 S (n := 11) (by exact wd_721) dX12_cost_29 ?_
        refine r_goto S dX12_cost_32 (tgt := 38) (by decide) ?_
        refine r_ladd S dX12_cost_38 ?_
        refine r_lnum (z' := tr + trK c) (by rw [show trK c = 11 by unfold trK; rw [if_neg (by omega), if_pos (by omega)]]) ?_
        refine r_putf S p_RX12_57_11 dX12_cost_39 (by first | rfl | decide) (by first | rfl | decide) (by repeat (first | assumption | exact sUp_same | exact sNew_same | refine sUp_ne (by first | assumption | omega) ?_)) (Nat.le_of_ble_eq_true rfl) (fs' := [_, _, _, _, _, _, _, _, _, _, _, _, _, _, _, _, _, _, _, _, _]) rfl ?_
        try simp only [sUp_sUp]
        refine r_iload_n S dX12_cost_42 rfl ?_
        refine r_iload_n S dX12_cost_43 rfl ?_
        refine r_iload_n S dX12_cost_44 rfl ?_
        refine r_callS S (c_costOf hc hy hb) k_mX12_costOf c_RX12_65 dX12_cost_45 (by decide) ⟨by omega, by omega⟩ rfl rfl (Nat.le_of_ble_eq_true rfl) (fun r σ' hp => ?_)
        obtain ⟨_, rfl, rfl, rfl⟩ := hp
        try simp only [Option.toList_some, Option.toList_none, List.cons_append, List.nil_append]
        exact r_iret S dX12_cost_48 (by omega) (by omega) (⟨_, rfl, rfl, rfl⟩)
    · refine r_lconst S (z := 1) dX12_cost_20 (by decide) ?_
      refine r_goto S dX12_cost_21 (tgt := 38) (by decide) ?_
      refine r_ladd S dX12_cost_38 ?_
      refine r_lnum (z' := tr + trK c) (by rw [show trK c = 1 by unfold trK; rw [if_pos (by omega)]]) ?_
      refine r_putf S p_RX12_57_11 dX12_cost_39 (by first | rfl | decide) (by first | rfl | decide) (by repeat (first | assumption | exact sUp_same | exact sNew_same | refine sUp_ne (by first | assumption | omega) ?_)) (Nat.le_of_ble_eq_true rfl) (fs' := [_, _, _, _, _, _, _, _, _, _, _, _, _, _, _, _, _, _, _, _, _]) rfl ?_
      try simp only [sUp_sUp]
      refine r_iload_n S dX12_cost_42 rfl ?_
      refine r_iload_n S dX12_cost_43 rfl ?_
      refine r_iload_n S dX12_cost_44 rfl ?_
      refine r_callS S (c_costOf hc hy hb) k_mX12_costOf c_RX12_65 dX12_cost_45 (by decide) ⟨by omega, by omega⟩ rfl rfl (Nat.le_of_ble_eq_true rfl) (fun r σ' hp => ?_)
      obtain ⟨_, rfl, rfl, rfl⟩ := hp
      try simp only [Option.toList_some, Option.toList_none, List.cons_append, List.nil_append]
      exact r_iret S dX12_cost_48 (by omega) (by omega) (⟨_, rfl, rfl, rfl⟩)
  · simp only [b01_z, Decidable.not_not] at h_6
    omega

set_option maxRecDepth 100000 in
set_option maxHeartbeats 4000000 in
theorem c_leftM0 {k : Cx} {L0 : Launch} {σ : St} {wt tb tr sk sm : Int} {kd n e an q : Nat} (hM : σ.2 (cBase k + 14) = some (oModel k 0 kd n e an wt tb q tr sk sm)) {z : Int} (hz : zR z) : CtrV k L0 mX12_left 2 0 0 [.ref (cBase k + 14), .int (iZ z)] σ (fun v σ' => v = .int (iZ ((if 0 ≤ z ∧ z ≤ 15 then -3 else -2))) ∧ σ' = σ) := by
  refine Ctr.of (by decide +kernel) rfl (Nat.le_of_ble_eq_true rfl) ?_
  intro κ hl0 S
  subst hl0
  refine r_aload_n S dX12_left_0 rfl ?_
  refine r_getf S g_RX12_49_11 dX12_left_1 (by repeat (first | assumption | exact sUp_same | exact sNew_same | refine sUp_ne (by first | assumption | omega) ?_)) rfl ?_
  refine r_if_ne S dX12_left_4 (tgt := 25) (by decide) ⟨by omega, by omega⟩ (fun h_4 => ?_) (fun h_4 => ?_)
  · omega
  · refine r_iload_n S dX12_left_7 rfl ?_
    refine r_iconst S dX12_left_8 ?_
    refine r_bipush S dX12_left_9 (by decide) ?_
    refine r_callS S (c_in hz ⟨by decide, by decide⟩ ⟨by decide, by decide⟩) k_mX12_in c_RX12_53 dX12_left_11 (by decide) ⟨by omega, by omega⟩ rfl rfl (Nat.le_of_ble_eq_true rfl) (fun r σ' hp => ?_)
    obtain ⟨_, rfl, rfl, rfl⟩ := hp
    try simp only [Option.toList_some, Option.toList_none, List.cons_append, List.nil_append]
    refine r_if_eq S dX12_left_14 (tgt := 22) (by decide) (b01_R _) (fun h_14 => ?_) (fun h_14 => ?_)
    · simp only [b01_z, Decidable.not_not] at h_14
      refine r_bipush S dX12_left_22 (by decide) ?_
      exact r_iret S dX12_left_24 (by omega) (by omega) (⟨_, rfl, by rw [if_neg (by omega)], rfl⟩)
    · simp only [b01_z, Decidable.not_not] at h_14
      refine r_bipush S dX12_left_17 (by decide) ?_
      refine r_goto S dX12_left_19 (tgt := 24) (by decide) ?_
      exact r_iret S dX12_left_24 (by omega) (by omega) (⟨_, rfl, by rw [if_pos (by omega)], rfl⟩)

set_option maxRecDepth 100000 in
set_option maxHeartbeats 4000000 in
theorem c_leftM1 {k : Cx} {L0 : Launch} {σ : St} {wt tb tr sk sm : Int} {kd n e an q : Nat} (hM : σ.2 (cBase k + 14) = some (oModel k 1 kd n e an wt tb q tr sk sm)) {l : Nat → Int} (hL : σ.2 (cBase k + 15) = some (eI k 16 l)) (hl : ∀ j, -1 ≤ l j ∧ l j ≤ 3) (hn : n ≤ 16) {i : Nat} (hi : i < n) : CtrV k L0 mX12_left 2 0 0 [.ref (cBase k + 14), .int (iZ (i : Int))] σ (fun v σ' => v = .int (iZ (l i)) ∧ σ' = σ) := by
  refine Ctr.of (by decide +kernel) rfl (Nat.le_of_ble_eq_true rfl) ?_
  intro κ hl0 S
  subst hl0
  refine r_aload_n S dX12_left_0 rfl ?_
  refine r_getf S g_RX12_49_11 dX12_left_1 (by repeat (first | assumption | exact sUp_same | exact sNew_same | refine sUp_ne (by first | assumption | omega) ?_)) rfl ?_
  refine r_if_ne S dX12_left_4 (tgt := 25) (by decide) ⟨by omega, by omega⟩ (fun h_4 => ?_) (fun h_4 => ?_)
  · refine r_iload_n S dX12_left_25 rfl ?_
    refine r_iconst S dX12_left_26 ?_
    refine r_aload_n S dX12_left_27 rfl ?_
    refine r_getf S g_RX12_91_11 dX12_left_28 (by repeat (first | assumption | exact sUp_same | exact sNew_same | refine sUp_ne (by first | assumption | omega) ?_)) rfl ?_
    refine r_iconst S dX12_left_31 ?_
    refine r_isub S dX12_left_32 ?_
    refine r_callS S (c_in ⟨by omega, by omega⟩ ⟨by decide, by decide⟩ ⟨by omega, by omega⟩) k_mX12_in c_RX12_53 dX12_left_33 (by decide) ⟨by omega, by omega⟩ rfl rfl (Nat.le_of_ble_eq_true rfl) (fun r σ' hp => ?_)
    obtain ⟨_, rfl, rfl, rfl⟩ := hp
    try simp only [Option.toList_some, Option.toList_none, List.cons_append, List.nil_append]
    refine r_if_eq S dX12_left_36 (tgt := 48) (by decide) (b01_R _) (fun h_36 => ?_) (fun h_36 => ?_)
    · simp only [b01_z, Decidable.not_not] at h_36
      omega
    · simp only [b01_z, Decidable.not_not] at h_36
      refine r_aload_n S dX12_left_39 rfl ?_
      refine r_getf S g_RX12_13_11 dX12_left_40 (by repeat (first | assumption | exact sUp_same | exact sNew_same | refine sUp_ne (by first | assumption | omega) ?_)) rfl ?_
      refine r_iload_n S dX12_left_43 rfl ?_
      refine r_ialdN S (i) dX12_left_44 (by repeat (first | assumption | exact sUp_same | exact sNew_same | refine sUp_ne (by first | assumption | omega) ?_)) (by omega) (by omega) (by decide) ?_
      refine r_goto S dX12_left_45 (tgt := 50) (by decide) ?_
      exact r_iret S dX12_left_50 (by omega) (by omega) (⟨_, rfl, rfl, rfl⟩)
  · omega

set_option maxRecDepth 100000 in
set_option maxHeartbeats 4000000 in
theorem c_leftMx {k : Cx} {L0 : Launch} {σ : St} {wt tb tr sk sm : Int} {kd n e an q : Nat} (hM : σ.2 (cBase k + 14) = some (oModel k 1 kd n e an wt tb q tr sk sm)) (hn : n ≤ 16) {z : Int} (hz : zR z) (hb : z < 0 ∨ (n : Int) ≤ z) : CtrV k L0 mX12_left 2 0 0 [.ref (cBase k + 14), .int (iZ z)] σ (fun v σ' => v = .int (iZ (-2)) ∧ σ' = σ) := by
  refine Ctr.of (by decide +kernel) rfl (Nat.le_of_ble_eq_true rfl) ?_
  intro κ hl0 S
  subst hl0
  refine r_aload_n S dX12_left_0 rfl ?_
  refine r_getf S g_RX12_49_11 dX12_left_1 (by repeat (first | assumption | exact sUp_same | exact sNew_same | refine sUp_ne (by first | assumption | omega) ?_)) rfl ?_
  refine r_if_ne S dX12_left_4 (tgt := 25) (by decide) ⟨by omega, by omega⟩ (fun h_4 => ?_) (fun h_4 => ?_)
  · refine r_iload_n S dX12_left_25 rfl ?_
    refine r_iconst S dX12_left_26 ?_
    refine r_aload_n S dX12_left_27 rfl ?_
    refine r_getf S g_RX12_91_11 dX12_left_28 (by repeat (first | assumption | exact sUp_same | exact sNew_same | refine sUp_ne (by first | assumption | omega) ?_)) rfl ?_
    refine r_iconst S dX12_left_31 ?_
    refine r_isub S dX12_left_32 ?_
    refine r_callS S (c_in hz ⟨by decide, by decide⟩ ⟨by omega, by omega⟩) k_mX12_in c_RX12_53 dX12_left_33 (by decide) ⟨by omega, by omega⟩ rfl rfl (Nat.le_of_ble_eq_true rfl) (fun r σ' hp => ?_)
    obtain ⟨_, rfl, rfl, rfl⟩ := hp
    try simp only [Option.toList_some, Option.toList_none, List.cons_append, List.nil_append]
    refine r_if_eq S dX12_left_36 (tgt := 48) (by decide) (b01_R _) (fun h_36 => ?_) (fun h_36 => ?_)
    · simp only [b01_z, Decidable.not_not] at h_36
      refine r_bipush S dX12_left_48 (by decide) ?_
      exact r_iret S dX12_left_50 (by omega) (by omega) (⟨_, rfl, rfl, rfl⟩)
    · simp only [b01_z, Decidable.not_not] at h_36
      omega
  · omega

set_option maxRecDepth 100000 in
set_option maxHeartbeats 4000000 in
theorem c_stateM0 {k : Cx} {L0 : Launch} {σ : St} {wt tb tr sk sm : Int} {on kd n e an q : Nat} (hM : σ.2 (cBase k + 14) = some (oModel k on kd n e an wt tb q tr sk sm)) {z : Int} (hz : zR z) (hb : ¬ (0 ≤ z ∧ z ≤ 3)) : CtrV k L0 mX12_state 2 0 0 [.ref (cBase k + 14), .int (iZ z)] σ (fun v σ' => v = .int (iZ (-1)) ∧ σ' = σ) := by
  refine Ctr.of (by decide +kernel) rfl (Nat.le_of_ble_eq_true rfl) ?_
  intro κ hl0 S
  subst hl0
  refine r_iload_n S dX12_state_0 rfl ?_
  refine r_iconst S dX12_state_1 ?_
  refine r_iconst S dX12_state_2 ?_
  refine r_callS S (c_in hz ⟨by decide, by decide⟩ ⟨by decide, by decide⟩) k_mX12_in c_RX12_53 dX12_state_3 (by decide) ⟨by omega, by omega⟩ rfl rfl (Nat.le_of_ble_eq_true rfl) (fun r σ' hp => ?_)
  obtain ⟨_, rfl, rfl, rfl⟩ := hp
  try simp only [Option.toList_some, Option.toList_none, List.cons_append, List.nil_append]
  refine r_if_ne S dX12_state_6 (tgt := 11) (by decide) (b01_R _) (fun h_6 => ?_) (fun h_6 => ?_)
  · simp only [b01_z, Decidable.not_not] at h_6
    omega
  · simp only [b01_z, Decidable.not_not] at h_6
    refine r_iconst S dX12_state_9 ?_
    exact r_iret S dX12_state_10 (by omega) (by omega) (⟨_, rfl, rfl, rfl⟩)

set_option maxRecDepth 100000 in
set_option maxHeartbeats 4000000 in
theorem c_stateM1 {k : Cx} {L0 : Launch} {σ : St} {wt tb tr sk sm : Int} {kd n e an q : Nat} (hM : σ.2 (cBase k + 14) = some (oModel k 0 kd n e an wt tb q tr sk sm)) {z : Int} (hz : zR z) (hb : 0 ≤ z ∧ z ≤ 3) : CtrV k L0 mX12_state 2 0 0 [.ref (cBase k + 14), .int (iZ z)] σ (fun v σ' => v = .int (iZ (-2)) ∧ σ' = σ) := by
  refine Ctr.of (by decide +kernel) rfl (Nat.le_of_ble_eq_true rfl) ?_
  intro κ hl0 S
  subst hl0
  refine r_iload_n S dX12_state_0 rfl ?_
  refine r_iconst S dX12_state_1 ?_
  refine r_iconst S dX12_state_2 ?_
  refine r_callS S (c_in hz ⟨by decide, by decide⟩ ⟨by decide, by decide⟩) k_mX12_in c_RX12_53 dX12_state_3 (by decide) ⟨by omega, by omega⟩ rfl rfl (Nat.le_of_ble_eq_true rfl) (fun r σ' hp => ?_)
  obtain ⟨_, rfl, rfl, rfl⟩ := hp
  try simp only [Option.toList_some, Option.toList_none, List.cons_append, List.nil_append]
  refine r_if_ne S dX12_state_6 (tgt := 11) (by decide) (b01_R _) (fun h_6 => ?_) (fun h_6 => ?_)
  · simp only [b01_z, Decidable.not_not] at h_6
    refine r_aload_n S dX12_state_11 rfl ?_
    refine r_getf S g_RX12_49_11 dX12_state_12 (by repeat (first | assumption | exact sUp_same | exact sNew_same | refine sUp_ne (by first | assumption | omega) ?_)) rfl ?_
    refine r_if_ne S dX12_state_15 (tgt := 21) (by decide) ⟨by omega, by omega⟩ (fun h_15 => ?_) (fun h_15 => ?_)
    · omega
    · refine r_bipush S dX12_state_18 (by decide) ?_
      exact r_iret S dX12_state_20 (by omega) (by omega) (⟨_, rfl, rfl, rfl⟩)
  · simp only [b01_z, Decidable.not_not] at h_6
    omega

set_option maxRecDepth 100000 in
set_option maxHeartbeats 4000000 in
theorem l_stateM {κ : Kx} {k : Cx} {σ : St} {wt tb tr sk sm : Int} {kd n e an q : Nat} (hM : σ.2 (cBase k + 14) = some (oModel k 1 kd n e an wt tb q tr sk sm)) {l : Nat → Int} (hL : σ.2 (cBase k + 15) = some (eI k 16 l)) (hl : ∀ j, -1 ≤ l j ∧ l j ≤ 3) (hn : n ≤ 16) {z : Int} (hz : zR z) (hb : 0 ≤ z ∧ z ≤ 3) (S : Ok κ k cX12_state 4 RX12 (some .int) "state" 2 0 0) : ∀ (m i : Nat), i + m = n → V κ k 4 0 0 (QR κ k (fun r9 σ' => ∃ v, r9 = some v ∧ (v = .int (iZ (cnt (fun j => l j == z) n : Int)) ∧ σ' = σ)) 0 0) 25 [some (.ref (cBase k + 14)), some (.int (iZ z)), some (.int (iZ (cnt (fun j => l j == z) i : Int))), some (.int (iZ (i : Int)))] [] σ := by
  intro m
  induction m with
  | zero =>
    intro i hi
    have hcl := cnt_le (fun j => l j == z) i
    refine r_iload_n S dX12_state_25 rfl ?_
    refine r_aload_n S dX12_state_26 rfl ?_
    refine r_getf S g_RX12_91_11 dX12_state_27 (by repeat (first | assumption | exact sUp_same | exact sNew_same | refine sUp_ne (by first | assumption | omega) ?_)) rfl ?_
    refine r_icmp_ge S dX12_state_30 (tgt := 57) (by decide) ⟨by omega, by omega⟩ ⟨by omega, by omega⟩ (fun h_30 => ?_) (fun h_30 => ?_)
    · refine r_iload_n S dX12_state_57 rfl ?_
      exact r_iret S dX12_state_58 (by omega) (by omega) (⟨_, rfl, by rw [← show i = n by omega], rfl⟩)
    · omega
  | succ m ih =>
    intro i hi
    have hcl := cnt_le (fun j => l j == z) i
    have hli := hl i
    refine r_iload_n S dX12_state_25 rfl ?_
    refine r_aload_n S dX12_state_26 rfl ?_
    refine r_getf S g_RX12_91_11 dX12_state_27 (by repeat (first | assumption | exact sUp_same | exact sNew_same | refine sUp_ne (by first | assumption | omega) ?_)) rfl ?_
    refine r_icmp_ge S dX12_state_30 (tgt := 57) (by decide) ⟨by omega, by omega⟩ ⟨by omega, by omega⟩ (fun h_30 => ?_) (fun h_30 => ?_)
    · omega
    · refine r_iload_n S dX12_state_33 rfl ?_
      refine r_aload_n S dX12_state_34 rfl ?_
      refine r_getf S g_RX12_13_11 dX12_state_35 (by repeat (first | assumption | exact sUp_same | exact sNew_same | refine sUp_ne (by first | assumption | omega) ?_)) rfl ?_
      refine r_iload_n S dX12_state_38 rfl ?_
      refine r_ialdN S (i) dX12_state_39 (by repeat (first | assumption | exact sUp_same | exact sNew_same | refine sUp_ne (by first | assumption | omega) ?_)) (by omega) (by omega) (by decide) ?_
      refine r_iload_n S dX12_state_40 rfl ?_
      refine r_icmp_ne S dX12_state_41 (tgt := 48) (by decide) ⟨by omega, by omega⟩ ⟨by omega, by omega⟩ (fun h_41 => ?_) (fun h_41 => ?_)
      · refine r_iconst S dX12_state_48 ?_
        refine r_iadd S dX12_state_49 ?_
        refine r_istore_n S dX12_state_50 rfl (by decide) (lv' := [_, _, _, _]) rfl ?_
        refine r_iinc S dX12_state_51 rfl rfl (by decide) (lv' := [_, _, _, _]) rfl ?_
        refine r_goto S dX12_state_54 (tgt := 25) (by decide) ?_
        have h9 := ih (i + 1) (by omega)
        first
          | (rw [cnt_t (p := (fun j => l j == z)) (beq_iff_eq.mpr (by omega))] at h9; exact h9)
          | (rw [cnt_f (p := (fun j => l j == z)) (beq_eq_false_iff_ne.mpr (by omega))] at h9; rw [Int.add_zero]; exact h9)
      · refine r_iconst S dX12_state_44 ?_
        refine r_goto S dX12_state_45 (tgt := 49) (by decide) ?_
        refine r_iadd S dX12_state_49 ?_
        refine r_istore_n S dX12_state_50 rfl (by decide) (lv' := [_, _, _, _]) rfl ?_
        refine r_iinc S dX12_state_51 rfl rfl (by decide) (lv' := [_, _, _, _]) rfl ?_
        refine r_goto S dX12_state_54 (tgt := 25) (by decide) ?_
        have h9 := ih (i + 1) (by omega)
        first
          | (rw [cnt_t (p := (fun j => l j == z)) (beq_iff_eq.mpr (by omega))] at h9; exact h9)
          | (rw [cnt_f (p := (fun j => l j == z)) (beq_eq_false_iff_ne.mpr (by omega))] at h9; rw [Int.add_zero]; exact h9)

set_option maxRecDepth 100000 in
set_option maxHeartbeats 4000000 in
theorem c_stateM {k : Cx} {L0 : Launch} {σ : St} {wt tb tr sk sm : Int} {kd n e an q : Nat} (hM : σ.2 (cBase k + 14) = some (oModel k 1 kd n e an wt tb q tr sk sm)) {l : Nat → Int} (hL : σ.2 (cBase k + 15) = some (eI k 16 l)) (hl : ∀ j, -1 ≤ l j ∧ l j ≤ 3) (hn : n ≤ 16) {z : Int} (hz : zR z) (hb : 0 ≤ z ∧ z ≤ 3) : CtrV k L0 mX12_state 2 0 0 [.ref (cBase k + 14), .int (iZ z)] σ (fun v σ' => v = .int (iZ (cnt (fun j => l j == z) n : Int)) ∧ σ' = σ) := by
  refine Ctr.of (by decide +kernel) rfl (Nat.le_of_ble_eq_true rfl) ?_
  intro κ hl0 S
  subst hl0
  refine r_iload_n S dX12_state_0 rfl ?_
  refine r_iconst S dX12_state_1 ?_
  refine r_iconst S dX12_state_2 ?_
  refine r_callS S (c_in hz ⟨by decide, by decide⟩ ⟨by decide, by decide⟩) k_mX12_in c_RX12_53 dX12_state_3 (by decide) ⟨by omega, by omega⟩ rfl rfl (Nat.le_of_ble_eq_true rfl) (fun r σ' hp => ?_)
  obtain ⟨_, rfl, rfl, rfl⟩ := hp
  try simp only [Option.toList_some, Option.toList_none, List.cons_append, List.nil_append]
  refine r_if_ne S dX12_state_6 (tgt := 11) (by decide) (b01_R _) (fun h_6 => ?_) (fun h_6 => ?_)
  · simp only [b01_z, Decidable.not_not] at h_6
    refine r_aload_n S dX12_state_11 rfl ?_
    refine r_getf S g_RX12_49_11 dX12_state_12 (by repeat (first | assumption | exact sUp_same | exact sNew_same | refine sUp_ne (by first | assumption | omega) ?_)) rfl ?_
    refine r_if_ne S dX12_state_15 (tgt := 21) (by decide) ⟨by omega, by omega⟩ (fun h_15 => ?_) (fun h_15 => ?_)
    · refine r_iconst S dX12_state_21 ?_
      refine r_istore_n S dX12_state_22 rfl (by decide) (lv' := [_, _, _, _]) rfl ?_
      refine r_iconst S dX12_state_23 ?_
      refine r_istore_n S dX12_state_24 rfl (by decide) (lv' := [_, _, _, _]) rfl ?_
      exact l_stateM hM hL hl hn hz hb S n 0 (by omega)
    · omega
  · simp only [b01_z, Decidable.not_not] at h_6
    omega

def isIn (l : Nat → Int) : Nat → Bool := fun j => decide (0 ≤ l j)
/-- the last of them; -9: there is none -/
def fdL (p : Nat → Bool) : Nat → Int
  | 0 => -9
  | i + 1 => if p i then (i : Int) else fdL p i
theorem cnt_0 {p : Nat → Bool} {n i : Nat} (h : cnt p n = 0) (hi : i < n) : p i = false := by
  cases hp : p i with
  | false => rfl
  | true =>
    have h1 := cnt_mono p (show i + 1 ≤ n by omega)
    rw [cnt_t hp] at h1
    omega
theorem fdL_one {p : Nat → Bool} : ∀ {n : Nat}, cnt p n = 1 → ∀ {i : Nat}, i < n → p i = true → fdL p n = (i : Int)
  | 0, h, _, _, _ => absurd (show (0 : Nat) = 1 from h) (by decide)
  | n + 1, h, i, hi, hp => by
    rw [fdL]
    cases hn : p n with
    | true =>
      rw [cnt_t hn] at h
      rw [if_pos rfl]
      rcases Nat.lt_or_ge i n with e | e
      · have := cnt_0 (p := p) (n := n) (by omega) e
        rw [this] at hp
        cases hp
      · rw [show i = n by omega]
    | false =>
      rw [cnt_f hn] at h
      rw [if_neg (by decide)]
      rcases Nat.lt_or_ge i n with e | e
      · exact fdL_one h e hp
      · rw [show i = n by omega] at hp
        rw [hn] at hp
        cases hp

set_option maxRecDepth 100000 in
set_option maxHeartbeats 4000000 in
theorem c_foundM0 {k : Cx} {L0 : Launch} {σ : St} {wt tb tr sk sm : Int} {kd n e an q : Nat} (hM : σ.2 (cBase k + 14) = some (oModel k 0 kd n e an wt tb q tr sk sm)) : CtrV k L0 mX12_found 2 0 0 [.ref (cBase k + 14)] σ (fun v σ' => v = .int (iZ (-2)) ∧ σ' = σ) := by
  refine Ctr.of (by decide +kernel) rfl (Nat.le_of_ble_eq_true rfl) ?_
  intro κ hl0 S
  subst hl0
  refine r_aload_n S dX12_found_0 rfl ?_
  refine r_getf S g_RX12_49_11 dX12_found_1 (by repeat (first | assumption | exact sUp_same | exact sNew_same | refine sUp_ne (by first | assumption | omega) ?_)) rfl ?_
  refine r_if_ne S dX12_found_4 (tgt := 10) (by decide) ⟨by omega, by omega⟩ (fun h_4 => ?_) (fun h_4 => ?_)
  · omega
  · refine r_bipush S dX12_found_7 (by decide) ?_
    exact r_iret S dX12_found_9 (by omega) (by omega) (⟨_, rfl, rfl, rfl⟩)

set_option maxRecDepth 100000 in
set_option maxHeartbeats 4000000 in
theorem c_foundMx {k : Cx} {L0 : Launch} {σ : St} {wt tb tr sk sm : Int} {kd n e an q : Nat} (hM : σ.2 (cBase k + 14) = some (oModel k 1 kd n e an wt tb q tr sk sm)) {l : Nat → Int} (hL : σ.2 (cBase k + 15) = some (eI k 16 l)) (hl : ∀ j, -1 ≤ l j ∧ l j ≤ 3) (hn : n ≤ 16) (hb : cnt (fun j => decide (0 ≤ l j)) n ≠ 1) : CtrV k L0 mX12_found 2 0 0 [.ref (cBase k + 14)] σ (fun v σ' => v = .int (iZ (-9)) ∧ σ' = σ) := by
  refine Ctr.of (by decide +kernel) rfl (Nat.le_of_ble_eq_true rfl) ?_
  intro κ hl0 S
  subst hl0
  have hcl := cnt_le (fun j => decide (0 ≤ l j)) n
  refine r_aload_n S dX12_found_0 rfl ?_
  refine r_getf S g_RX12_49_11 dX12_found_1 (by repeat (first | assumption | exact sUp_same | exact sNew_same | refine sUp_ne (by first | assumption | omega) ?_)) rfl ?_
  refine r_if_ne S dX12_found_4 (tgt := 10) (by decide) ⟨by omega, by omega⟩ (fun h_4 => ?_) (fun h_4 => ?_)
  · refine r_aload_n S dX12_found_10 rfl ?_
    refine r_callV S (c_many hM hn hL hl) k_mX12_many c_RX12_120_11 dX12_found_11 (by decide) ⟨by omega, by omega⟩ (by repeat (first | assumption | exact sUp_same | exact sNew_same | refine sUp_ne (by first | assumption | omega) ?_)) rfl rfl (Nat.le_of_ble_eq_true rfl) (fun r σ' hp => ?_)
    obtain ⟨_, rfl, rfl, rfl⟩ := hp
    try simp only [Option.toList_some, Option.toList_none, List.cons_append, List.nil_append]
    refine r_iconst S dX12_found_14 ?_
    refine r_icmp_eq S dX12_found_15 (tgt := 21) (by decide) ⟨by omega, by omega⟩ ⟨by omega, by omega⟩ (fun h_15 => ?_) (fun h_15 => ?_)
    · omega
    · refine r_bipush S dX12_found_18 (by decide) ?_
      exact r_iret S dX12_found_20 (by omega) (by omega) (⟨_, rfl, rfl, rfl⟩)
  · omega

set_option maxRecDepth 100000 in
set_option maxHeartbeats 4000000 in
theorem l_foundM {κ : Kx} {k : Cx} {σ : St} {wt tb tr sk sm : Int} {kd n e an q : Nat} (hM : σ.2 (cBase k + 14) = some (oModel k 1 kd n e an wt tb q tr sk sm)) {l : Nat → Int} (hL : σ.2 (cBase k + 15) = some (eI k 16 l)) (hl : ∀ j, -1 ≤ l j ∧ l j ≤ 3) (hn : n ≤ 16) (hb : cnt (fun j => decide (0 ≤ l j)) n = 1) (S : Ok κ k cX12_found 2 RX12 (some .int) "found" 2 0 0) : ∀ (m i : Nat), i + m = n → cnt (fun j => decide (0 ≤ l j)) i = 0 → V κ k 2 0 0 (QR κ k (fun r9 σ' => ∃ v, r9 = some v ∧ (v = .int (iZ (fdL (fun j => decide (0 ≤ l j)) n)) ∧ σ' = σ)) 0 0) 23 [some (.ref (cBase k + 14)), some (.int (iZ (i : Int)))] [] σ := by
  intro m
  induction m with
  | zero =>
    intro i hi h0
    rw [show i = n by omega] at h0
    omega
  | succ m ih =>
    intro i hi h0
    have hli := hl i
    refine r_aload_n S dX12_found_23 rfl ?_
    refine r_getf S g_RX12_13_11 dX12_found_24 (by repeat (first | assumption | exact sUp_same | exact sNew_same | refine sUp_ne (by first | assumption | omega) ?_)) rfl ?_
    refine r_iload_n S dX12_found_27 rfl ?_
    refine r_ialdN S (i) dX12_found_28 (by repeat (first | assumption | exact sUp_same | exact sNew_same | refine sUp_ne (by first | assumption | omega) ?_)) (by omega) (by omega) (by decide) ?_
    refine r_if_ge S dX12_found_29 (tgt := 38) (by decide) ⟨by omega, by omega⟩ (fun h_29 => ?_) (fun h_29 => ?_)
    · refine r_iload_n S dX12_found_38 rfl ?_
      exact r_iret S dX12_found_39 (by omega) (by omega) (⟨_, rfl, by rw [fdL_one hb (show i < n by omega) (decide_eq_true (by omega))], rfl⟩)
    · refine r_iinc S dX12_found_32 rfl rfl (by decide) (lv' := [_, _]) rfl ?_
      refine r_goto S dX12_found_35 (tgt := 23) (by decide) ?_
      exact ih (i + 1) (by omega) (by rw [cnt_f (decide_eq_false (by omega))]; exact h0)

set_option maxRecDepth 100000 in
set_option maxHeartbeats 4000000 in
theorem c_foundM {k : Cx} {L0 : Launch} {σ : St} {wt tb tr sk sm : Int} {kd n e an q : Nat} (hM : σ.2 (cBase k + 14) = some (oModel k 1 kd n e an wt tb q tr sk sm)) {l : Nat → Int} (hL : σ.2 (cBase k + 15) = some (eI k 16 l)) (hl : ∀ j, -1 ≤ l j ∧ l j ≤ 3) (hn : n ≤ 16) (hb : cnt (fun j => decide (0 ≤ l j)) n = 1) : CtrV k L0 mX12_found 2 0 0 [.ref (cBase k + 14)] σ (fun v σ' => v = .int (iZ (fdL (fun j => decide (0 ≤ l j)) n)) ∧ σ' = σ) := by
  refine Ctr.of (by decide +kernel) rfl (Nat.le_of_ble_eq_true rfl) ?_
  intro κ hl0 S
  subst hl0
  have hcl := cnt_le (fun j => decide (0 ≤ l j)) n
  refine r_aload_n S dX12_found_0 rfl ?_
  refine r_getf S g_RX12_49_11 dX12_found_1 (by repeat (first | assumption | exact sUp_same | exact sNew_same | refine sUp_ne (by first | assumption | omega) ?_)) rfl ?_
  refine r_if_ne S dX12_found_4 (tgt := 10) (by decide) ⟨by omega, by omega⟩ (fun h_4 => ?_) (fun h_4 => ?_)
  · refine r_aload_n S dX12_found_10 rfl ?_
    refine r_callV S (c_many hM hn hL hl) k_mX12_many c_RX12_120_11 dX12_found_11 (by decide) ⟨by omega, by omega⟩ (by repeat (first | assumption | exact sUp_same | exact sNew_same | refine sUp_ne (by first | assumption | omega) ?_)) rfl rfl (Nat.le_of_ble_eq_true rfl) (fun r σ' hp => ?_)
    obtain ⟨_, rfl, rfl, rfl⟩ := hp
    try simp only [Option.toList_some, Option.toList_none, List.cons_append, List.nil_append]
    refine r_iconst S dX12_found_14 ?_
    refine r_icmp_eq S dX12_found_15 (tgt := 21) (by decide) ⟨by omega, by omega⟩ ⟨by omega, by omega⟩ (fun h_15 => ?_) (fun h_15 => ?_)
    · refine r_iconst S dX12_found_21 ?_
      refine r_istore_n S dX12_found_22 rfl (by decide) (lv' := [_, _]) rfl ?_
      exact l_foundM hM hL hl hn hb S n 0 (by omega) rfl
    · omega
  · omega

set_option maxRecDepth 100000 in
set_option maxHeartbeats 4000000 in
theorem c_fewestM0 {k : Cx} {L0 : Launch} {σ : St} {wt tb tr sk sm : Int} {kd n e an q : Nat} (hM : σ.2 (cBase k + 14) = some (oModel k 0 kd n e an wt tb q tr sk sm)) : CtrV k L0 mX12_fewest 6 0 0 [.ref (cBase k + 14)] σ (fun v σ' => v = .int (iZ (-2)) ∧ σ' = σ) := by
  refine Ctr.of (by decide +kernel) rfl (Nat.le_of_ble_eq_true rfl) ?_
  intro κ hl0 S
  subst hl0
  refine r_aload_n S dX12_fewest_0 rfl ?_
  refine r_getf S g_RX12_49_11 dX12_fewest_1 (by repeat (first | assumption | exact sUp_same | exact sNew_same | refine sUp_ne (by first | assumption | omega) ?_)) rfl ?_
  refine r_if_eq S dX12_fewest_4 (tgt := 21) (by decide) ⟨by omega, by omega⟩ (fun h_4 => ?_) (fun h_4 => ?_)
  · refine r_bipush S dX12_fewest_21 (by decide) ?_
    exact r_iret S dX12_fewest_23 (by omega) (by omega) (⟨_, rfl, rfl, rfl⟩)
  · omega

set_option maxRecDepth 100000 in
set_option maxHeartbeats 4000000 in
theorem c_fewestM {k : Cx} {L0 : Launch} {σ : St} {wt tb tr sk sm : Int} {kd n e an q : Nat} (hM : σ.2 (cBase k + 14) = some (oModel k 1 kd n e an wt tb q tr sk sm)) {l : Nat → Int} (hL : σ.2 (cBase k + 15) = some (eI k 16 l)) (hl : ∀ j, -1 ≤ l j ∧ l j ≤ 3) (hn : n ≤ 16) (hkd : kd < 3) (hW : WS k σ) (hst : 1 ≤ (hQ l 0 n).1) : CtrV k L0 mX12_fewest 6 0 0 [.ref (cBase k + 14)] σ (fun v σ' => v = .int (iZ (if (fewN (cyK kd) (cnK kd) (hQ l 0 n) : Int) = 13 then -9 else (fewN (cyK kd) (cnK kd) (hQ l 0 n) : Int))) ∧ WS k σ' ∧ FrG k σ σ') := by
  refine Ctr.of (by decide +kernel) rfl (Nat.le_of_ble_eq_true rfl) ?_
  intro κ hl0 S
  subst hl0
  obtain ⟨⟨R, hRT⟩, ⟨mo, hMM⟩, t, hT, ht⟩ := id hW
  have hfl := fewN_le (cyK kd) (cnK kd) (hQ l 0 n)
  refine r_aload_n S dX12_fewest_0 rfl ?_
  refine r_getf S g_RX12_49_11 dX12_fewest_1 (by repeat (first | assumption | exact sUp_same | exact sNew_same | refine sUp_ne (by first | assumption | omega) ?_)) rfl ?_
  refine r_if_eq S dX12_fewest_4 (tgt := 21) (by decide) ⟨by omega, by omega⟩ (fun h_4 => ?_) (fun h_4 => ?_)
  · omega
  · refine r_aload_n S dX12_fewest_7 rfl ?_
    refine r_aload_n S dX12_fewest_8 rfl ?_
    refine r_getf S g_RX12_13_11 dX12_fewest_9 (by repeat (first | assumption | exact sUp_same | exact sNew_same | refine sUp_ne (by first | assumption | omega) ?_)) rfl ?_
    refine r_callV S (c_worthOf hM hL ⟨by omega, by omega⟩ hl hn hkd hRT hMM hst) k_mX12_worthOf c_RX12_104_11 dX12_fewest_12 (by decide) ⟨by omega, by omega⟩ (by repeat (first | assumption | exact sUp_same | exact sNew_same | refine sUp_ne (by first | assumption | omega) ?_)) rfl rfl (Nat.le_of_ble_eq_true rfl) (fun r σ' hp => ?_)
    obtain ⟨_, rfl, rfl, R4, hRT4, hK4, ⟨mo4, hMM4, hmo4⟩, hF4⟩ := hp
    try simp only [Option.toList_some, Option.toList_none, List.cons_append, List.nil_append]
    refine r_callS S (c_shown ⟨by omega, by omega⟩) k_mX12_shown c_RX12_108 dX12_fewest_15 (by decide) ⟨by omega, by omega⟩ rfl rfl (Nat.le_of_ble_eq_true rfl) (fun r σ' hp => ?_)
    obtain ⟨_, rfl, rfl, rfl⟩ := hp
    try simp only [Option.toList_some, Option.toList_none, List.cons_append, List.nil_append]
    refine r_goto S dX12_fewest_18 (tgt := 23) (by decide) ?_
    exact r_iret S dX12_fewest_23 (by omega) (by omega) (⟨_, rfl, rfl, ⟨⟨R4, hRT4⟩, ⟨mo4, hMM4⟩, _, hF4.at (by omega) (by omega) hT, ht⟩, FrG.m hF4⟩)

set_option maxRecDepth 100000 in
set_option maxHeartbeats 4000000 in
theorem c_askM0 {k : Cx} {L0 : Launch} {σ : St} {wt tb tr sk sm : Int} {kd n e an q : Nat} (hM : σ.2 (cBase k + 14) = some (oModel k 0 kd n e an wt tb q tr sk sm)) {z : Int} (hz : zR z) : CtrV k L0 mX12_ask 2 0 0 [.ref (cBase k + 14), .int (iZ z)] σ (fun v σ' => v = .int (iZ ((if 0 ≤ z ∧ z ≤ 65535 then -2 else -1))) ∧ σ' = σ) := by
  refine Ctr.of (by decide +kernel) rfl (Nat.le_of_ble_eq_true rfl) ?_
  intro κ hl0 S
  subst hl0
  refine r_aload_n S dX12_ask_0 rfl ?_
  refine r_getf S g_RX12_49_11 dX12_ask_1 (by repeat (first | assumption | exact sUp_same | exact sNew_same | refine sUp_ne (by first | assumption | omega) ?_)) rfl ?_
  refine r_if_ne S dX12_ask_4 (tgt := 24) (by decide) ⟨by omega, by omega⟩ (fun h_4 => ?_) (fun h_4 => ?_)
  · omega
  · refine r_iload_n S dX12_ask_7 rfl ?_
    refine r_iconst S dX12_ask_8 ?_
    refine r_ldc S (n := 65535) (by exact wd_764) dX12_ask_9 ?_
    refine r_callS S (c_in hz ⟨by decide, by decide⟩ ⟨by decide, by decide⟩) k_mX12_in c_RX12_53 dX12_ask_11 (by decide) ⟨by omega, by omega⟩ rfl rfl (Nat.le_of_ble_eq_true rfl) (fun r σ' hp => ?_)
    obtain ⟨_, rfl, rfl, rfl⟩ := hp
    try simp only [Option.toList_some, Option.toList_none, List.cons_append, List.nil_append]
    refine r_if_eq S dX12_ask_14 (tgt := 22) (by decide) (b01_R _) (fun h_14 => ?_) (fun h_14 => ?_)
    · simp only [b01_z, Decidable.not_not] at h_14
      refine r_iconst S dX12_ask_22 ?_
      exact r_iret S dX12_ask_23 (by omega) (by omega) (⟨_, rfl, by rw [if_neg (by omega)], rfl⟩)
    · simp only [b01_z, Decidable.not_not] at h_14
      refine r_bipush S dX12_ask_17 (by decide) ?_
      refine r_goto S dX12_ask_19 (tgt := 23) (by decide) ?_
      exact r_iret S dX12_ask_23 (by omega) (by omega) (⟨_, rfl, by rw [if_pos (by omega)], rfl⟩)

set_option maxRecDepth 100000 in
set_option maxHeartbeats 4000000 in
theorem c_askMx {k : Cx} {L0 : Launch} {σ : St} {wt tb tr sk sm : Int} {kd n e an q : Nat} (hM : σ.2 (cBase k + 14) = some (oModel k 1 kd n e an wt tb q tr sk sm)) (hn : n ≤ 16) {z : Int} (hz : zR z) (hb : ¬ (0 ≤ z ∧ z < ((2 ^ n : Nat) : Int))) : CtrV k L0 mX12_ask 2 0 0 [.ref (cBase k + 14), .int (iZ z)] σ (fun v σ' => v = .int (iZ (-1)) ∧ σ' = σ) := by
  refine Ctr.of (by decide +kernel) rfl (Nat.le_of_ble_eq_true rfl) ?_
  intro κ hl0 S
  subst hl0
  have hpn : 2 ^ n ≤ 2 ^ 16 := Nat.pow_le_pow_right (by decide) hn
  have hpp := Nat.two_pow_pos n
  refine r_aload_n S dX12_ask_0 rfl ?_
  refine r_getf S g_RX12_49_11 dX12_ask_1 (by repeat (first | assumption | exact sUp_same | exact sNew_same | refine sUp_ne (by first | assumption | omega) ?_)) rfl ?_
  refine r_if_ne S dX12_ask_4 (tgt := 24) (by decide) ⟨by omega, by omega⟩ (fun h_4 => ?_) (fun h_4 => ?_)
  · refine r_iload_n S dX12_ask_24 rfl ?_
    refine r_iconst S dX12_ask_25 ?_
    refine r_iconst S dX12_ask_26 ?_
    refine r_aload_n S dX12_ask_27 rfl ?_
    refine r_getf S g_RX12_91_11 dX12_ask_28 (by repeat (first | assumption | exact sUp_same | exact sNew_same | refine sUp_ne (by first | assumption | omega) ?_)) rfl ?_
    refine r_ishl S dX12_ask_31 (v := iZ ((2 ^ n : Nat) : Int)) (by have h9 := shlZ (a := 1) (i := n) (pw1 hn) (by omega); rw [Nat.one_mul] at h9; exact h9) ?_
    refine r_iconst S dX12_ask_32 ?_
    refine r_isub S dX12_ask_33 ?_
    refine r_callS S (c_in hz ⟨by decide, by decide⟩ ⟨by omega, by omega⟩) k_mX12_in c_RX12_53 dX12_ask_34 (by decide) ⟨by omega, by omega⟩ rfl rfl (Nat.le_of_ble_eq_true rfl) (fun r σ' hp => ?_)
    obtain ⟨_, rfl, rfl, rfl⟩ := hp
    try simp only [Option.toList_some, Option.toList_none, List.cons_append, List.nil_append]
    refine r_if_ne S dX12_ask_37 (tgt := 42) (by decide) (b01_R _) (fun h_37 => ?_) (fun h_37 => ?_)
    · simp only [b01_z, Decidable.not_not] at h_37
      omega
    · simp only [b01_z, Decidable.not_not] at h_37
      refine r_iconst S dX12_ask_40 ?_
      exact r_iret S dX12_ask_41 (by omega) (by omega) (⟨_, rfl, rfl, rfl⟩)
  · omega

set_option maxRecDepth 100000 in
set_option maxHeartbeats 4000000 in
theorem l_askM {κ : Kx} {k : Cx} {σ : St} {wt tb tr sk sm : Int} {kd n e an q : Nat} (hM : σ.2 (cBase k + 14) = some (oModel k 1 kd n e an wt tb q tr sk sm)) {l : Nat → Int} (hL : σ.2 (cBase k + 15) = some (eI k 16 l)) (hl : ∀ j, -1 ≤ l j ∧ l j ≤ 3) (hn : n ≤ 16) {heap : Nat} (hh : heap < 2 ^ n) (S : Ok κ k cX12_ask 4 RX12 (some .int) "ask" 2 0 0) : ∀ (m i : Nat), i + m = n → V κ k 4 0 0 (QR κ k (fun r9 σ' => ∃ v, r9 = some v ∧ (v = .int (iZ (cnt (fun j => decide (bt heap j = 1 ∧ l j ≠ -1)) n : Int)) ∧ σ' = (sUp σ (cBase k + 14) (oModel k 1 kd n e an (heap : Int) tb q tr sk sm)))) 0 0) 51 [some (.ref (cBase k + 14)), some (.int (iZ (heap : Int))), some (.int (iZ (cnt (fun j => decide (bt heap j = 1 ∧ l j ≠ -1)) i : Int))), some (.int (iZ (i : Int)))] [] (sUp σ (cBase k + 14) (oModel k 1 kd n e an (heap : Int) tb q tr sk sm)) := by
  intro m
  induction m with
  | zero =>
    intro i hi
    have hcl := cnt_le (fun j => decide (bt heap j = 1 ∧ l j ≠ -1)) i
    refine r_iload_n S dX12_ask_51 rfl ?_
    refine r_aload_n S dX12_ask_52 rfl ?_
    refine r_getf S g_RX12_91_11 dX12_ask_53 (by repeat (first | assumption | exact sUp_same | exact sNew_same | refine sUp_ne (by first | assumption | omega) ?_)) rfl ?_
    refine r_icmp_ge S dX12_ask_56 (tgt := 91) (by decide) ⟨by omega, by omega⟩ ⟨by omega, by omega⟩ (fun h_56 => ?_) (fun h_56 => ?_)
    · refine r_iload_n S dX12_ask_91 rfl ?_
      exact r_iret S dX12_ask_92 (by omega) (by omega) (⟨_, rfl, by rw [← show i = n by omega], rfl⟩)
    · omega
  | succ m ih =>
    intro i hi
    have hpn : 2 ^ n ≤ 2 ^ 16 := Nat.pow_le_pow_right (by decide) hn
    have hpp := Nat.two_pow_pos n
    have hcl := cnt_le (fun j => decide (bt heap j = 1 ∧ l j ≠ -1)) i
    have hli := hl i
    have hbb := bt_lt heap i
    refine r_iload_n S dX12_ask_51 rfl ?_
    refine r_aload_n S dX12_ask_52 rfl ?_
    refine r_getf S g_RX12_91_11 dX12_ask_53 (by repeat (first | assumption | exact sUp_same | exact sNew_same | refine sUp_ne (by first | assumption | omega) ?_)) rfl ?_
    refine r_icmp_ge S dX12_ask_56 (tgt := 91) (by decide) ⟨by omega, by omega⟩ ⟨by omega, by omega⟩ (fun h_56 => ?_) (fun h_56 => ?_)
    · omega
    · refine r_iload_n S dX12_ask_59 rfl ?_
      refine r_aload_n S dX12_ask_60 rfl ?_
      refine r_getf S g_RX12_13_11 dX12_ask_61 (by repeat (first | assumption | exact sUp_same | exact sNew_same | refine sUp_ne (by first | assumption | omega) ?_)) rfl ?_
      refine r_iload_n S dX12_ask_64 rfl ?_
      refine r_ialdN S (i) dX12_ask_65 (by repeat (first | assumption | exact sUp_same | exact sNew_same | refine sUp_ne (by first | assumption | omega) ?_)) (by omega) (by omega) (by decide) ?_
      refine r_if_lt S dX12_ask_66 (tgt := 82) (by decide) ⟨by omega, by omega⟩ (fun h_66 => ?_) (fun h_66 => ?_)
      · refine r_iconst S dX12_ask_82 ?_
        refine r_iadd S dX12_ask_83 ?_
        refine r_istore_n S dX12_ask_84 rfl (by decide) (lv' := [_, _, _, _]) rfl ?_
        refine r_iinc S dX12_ask_85 rfl rfl (by decide) (lv' := [_, _, _, _]) rfl ?_
        refine r_goto S dX12_ask_88 (tgt := 51) (by decide) ?_
        have h9 := ih (i + 1) (by omega)
        first
          | (rw [cnt_t (p := (fun j => decide (bt heap j = 1 ∧ l j ≠ -1))) (decide_eq_true (by omega))] at h9; exact h9)
          | (rw [cnt_f (p := (fun j => decide (bt heap j = 1 ∧ l j ≠ -1))) (decide_eq_false (by omega))] at h9; rw [Int.add_zero]; exact h9)
      · refine r_iload_n S dX12_ask_69 rfl ?_
        refine r_iload_n S dX12_ask_70 rfl ?_
        refine r_ishr S dX12_ask_71 (shrZ (by omega) (by omega)) ?_
        refine r_iconst S dX12_ask_72 ?_
        refine r_iand S dX12_ask_73 (v := iZ ((bt heap i : Nat) : Int)) (and1Z _) ?_
        refine r_iconst S dX12_ask_74 ?_
        refine r_icmp_ne S dX12_ask_75 (tgt := 82) (by decide) ⟨by omega, by omega⟩ ⟨by omega, by omega⟩ (fun h_75 => ?_) (fun h_75 => ?_)
        · refine r_iconst S dX12_ask_82 ?_
          refine r_iadd S dX12_ask_83 ?_
          refine r_istore_n S dX12_ask_84 rfl (by decide) (lv' := [_, _, _, _]) rfl ?_
          refine r_iinc S dX12_ask_85 rfl rfl (by decide) (lv' := [_, _, _, _]) rfl ?_
          refine r_goto S dX12_ask_88 (tgt := 51) (by decide) ?_
          have h9 := ih (i + 1) (by omega)
          first
            | (rw [cnt_t (p := (fun j => decide (bt heap j = 1 ∧ l j ≠ -1))) (decide_eq_true (by omega))] at h9; exact h9)
            | (rw [cnt_f (p := (fun j => decide (bt heap j = 1 ∧ l j ≠ -1))) (decide_eq_false (by omega))] at h9; rw [Int.add_zero]; exact h9)
        · refine r_iconst S dX12_ask_78 ?_
          refine r_goto S dX12_ask_79 (tgt := 83) (by decide) ?_
          refine r_iadd S dX12_ask_83 ?_
          refine r_istore_n S dX12_ask_84 rfl (by decide) (lv' := [_, _, _, _]) rfl ?_
          refine r_iinc S dX12_ask_85 rfl rfl (by decide) (lv' := [_, _, _, _]) rfl ?_
          refine r_goto S dX12_ask_88 (tgt := 51) (by decide) ?_
          have h9 := ih (i + 1) (by omega)
          first
            | (rw [cnt_t (p := (fun j => decide (bt heap j = 1 ∧ l j ≠ -1))) (decide_eq_true (by omega))] at h9; exact h9)
            | (rw [cnt_f (p := (fun j => decide (bt heap j = 1 ∧ l j ≠ -1))) (decide_eq_false (by omega))] at h9; rw [Int.add_zero]; exact h9)

set_option maxRecDepth 100000 in
set_option maxHeartbeats 4000000 in
theorem c_askM {k : Cx} {L0 : Launch} {σ : St} {wt tb tr sk sm : Int} {kd n e an q : Nat} (hM : σ.2 (cBase k + 14) = some (oModel k 1 kd n e an wt tb q tr sk sm)) {l : Nat → Int} (hL : σ.2 (cBase k + 15) = some (eI k 16 l)) (hl : ∀ j, -1 ≤ l j ∧ l j ≤ 3) (hn : n ≤ 16) {heap : Nat} (hh : heap < 2 ^ n) : CtrV k L0 mX12_ask 2 0 0 [.ref (cBase k + 14), .int (iZ (heap : Int))] σ (fun v σ' => v = .int (iZ (cnt (fun j => decide (bt heap j = 1 ∧ l j ≠ -1)) n : Int)) ∧ σ' = (sUp σ (cBase k + 14) (oModel k 1 kd n e an (heap : Int) tb q tr sk sm))) := by
  refine Ctr.of (by decide +kernel) rfl (Nat.le_of_ble_eq_true rfl) ?_
  intro κ hl0 S
  subst hl0
  have hpn : 2 ^ n ≤ 2 ^ 16 := Nat.pow_le_pow_right (by decide) hn
  have hpp := Nat.two_pow_pos n
  refine r_aload_n S dX12_ask_0 rfl ?_
  refine r_getf S g_RX12_49_11 dX12_ask_1 (by repeat (first | assumption | exact sUp_same | exact sNew_same | refine sUp_ne (by first | assumption | omega) ?_)) rfl ?_
  refine r_if_ne S dX12_ask_4 (tgt := 24) (by decide) ⟨by omega, by omega⟩ (fun h_4 => ?_) (fun h_4 => ?_)
  · refine r_iload_n S dX12_ask_24 rfl ?_
    refine r_iconst S dX12_ask_25 ?_
    refine r_iconst S dX12_ask_26 ?_
    refine r_aload_n S dX12_ask_27 rfl ?_
    refine r_getf S g_RX12_91_11 dX12_ask_28 (by repeat (first | assumption | exact sUp_same | exact sNew_same | refine sUp_ne (by first | assumption | omega) ?_)) rfl ?_
    refine r_ishl S dX12_ask_31 (v := iZ ((2 ^ n : Nat) : Int)) (by have h9 := shlZ (a := 1) (i := n) (pw1 hn) (by omega); rw [Nat.one_mul] at h9; exact h9) ?_
    refine r_iconst S dX12_ask_32 ?_
    refine r_isub S dX12_ask_33 ?_
    refine r_callS S (c_in ⟨by omega, by omega⟩ ⟨by decide, by decide⟩ ⟨by omega, by omega⟩) k_mX12_in c_RX12_53 dX12_ask_34 (by decide) ⟨by omega, by omega⟩ rfl rfl (Nat.le_of_ble_eq_true rfl) (fun r σ' hp => ?_)
    obtain ⟨_, rfl, rfl, rfl⟩ := hp
    try simp only [Option.toList_some, Option.toList_none, List.cons_append, List.nil_append]
    refine r_if_ne S dX12_ask_37 (tgt := 42) (by decide) (b01_R _) (fun h_37 => ?_) (fun h_37 => ?_)
    · simp only [b01_z, Decidable.not_not] at h_37
      refine r_aload_n S dX12_ask_42 rfl ?_
      refine r_iload_n S dX12_ask_43 rfl ?_
      refine r_putf S p_RX12_7_11 dX12_ask_44 (by first | rfl | decide) (by first | rfl | decide) (by repeat (first | assumption | exact sUp_same | exact sNew_same | refine sUp_ne (by first | assumption | omega) ?_)) (Nat.le_of_ble_eq_true rfl) (fs' := [_, _, _, _, _, _, _, _, _, _, _, _, _, _, _, _, _, _, _, _, _]) rfl ?_
      try simp only [sUp_sUp]
      refine r_iconst S dX12_ask_47 ?_
      refine r_istore_n S dX12_ask_48 rfl (by decide) (lv' := [_, _, _, _]) rfl ?_
      refine r_iconst S dX12_ask_49 ?_
      refine r_istore_n S dX12_ask_50 rfl (by decide) (lv' := [_, _, _, _]) rfl ?_
      exact l_askM hM hL hl hn hh S n 0 (by omega)
    · simp only [b01_z, Decidable.not_not] at h_37
      omega
  · omega

set_option maxRecDepth 100000 in
set_option maxHeartbeats 4000000 in
theorem c_answerM0 {k : Cx} {L0 : Launch} {σ : St} {wt tb tr sk sm y : Int} {on kd n e an q : Nat} (hM : σ.2 (cBase k + 14) = some (oModel k on kd n e an wt tb q tr sk sm)) (hon : on < 2) (hw : zR wt) (hb : on = 0 ∨ wt < 0) : CtrV k L0 mX12_answer 3 0 0 [.ref (cBase k + 14), .int (iZ y)] σ (fun v σ' => v = .int (iZ (-2)) ∧ σ' = σ) := by
  refine Ctr.of (by decide +kernel) rfl (Nat.le_of_ble_eq_true rfl) ?_
  intro κ hl0 S
  subst hl0
  refine r_aload_n S dX12_answer_0 rfl ?_
  refine r_getf S g_RX12_49_11 dX12_answer_1 (by repeat (first | assumption | exact sUp_same | exact sNew_same | refine sUp_ne (by first | assumption | omega) ?_)) rfl ?_
  refine r_if_eq S dX12_answer_4 (tgt := 14) (by decide) ⟨by omega, by omega⟩ (fun h_4 => ?_) (fun h_4 => ?_)
  · refine r_bipush S dX12_answer_14 (by decide) ?_
    exact r_iret S dX12_answer_16 (by omega) (by omega) (⟨_, rfl, rfl, rfl⟩)
  · refine r_aload_n S dX12_answer_7 rfl ?_
    refine r_getf S g_RX12_7_11 dX12_answer_8 (by repeat (first | assumption | exact sUp_same | exact sNew_same | refine sUp_ne (by first | assumption | omega) ?_)) rfl ?_
    refine r_if_ge S dX12_answer_11 (tgt := 17) (by decide) hw (fun h_11 => ?_) (fun h_11 => ?_)
    · omega
    · refine r_bipush S dX12_answer_14 (by decide) ?_
      exact r_iret S dX12_answer_16 (by omega) (by omega) (⟨_, rfl, rfl, rfl⟩)

set_option maxRecDepth 100000 in
set_option maxHeartbeats 4000000 in
theorem c_answerMs {k : Cx} {L0 : Launch} {σ : St} {tb tr sk sm : Int} {kd n e an q heap : Nat} (hM : σ.2 (cBase k + 14) = some (oModel k 1 kd n e an (heap : Int) tb q tr sk sm)) {l : Nat → Int} (hL : σ.2 (cBase k + 15) = some (eI k 16 l)) (hl : ∀ j, -1 ≤ l j ∧ l j ≤ 3) (hn : n ≤ 16) (hkd : kd < 3) (hh : heap < 65536) {y : Nat} (hy : y < 2) {t : Nat → Int} (hT : σ.2 (cBase k + 24) = some (eI k 16 t)) (h0 : cnt (fun j => decide (nv l kd heap y j ≠ -1)) n = 0) : CtrV k L0 mX12_answer 3 0 0 [.ref (cBase k + 14), .int (iZ (y : Int))] σ (fun v σ' => v = .int (iZ (-2)) ∧ σ' = (sUp σ (cBase k + 24) (eI k 16 (tkF (nv l kd heap y) t n)))) := by
  refine Ctr.of (by decide +kernel) rfl (Nat.le_of_ble_eq_true rfl) ?_
  intro κ hl0 S
  subst hl0
  have hcl := cnt_le (fun j => decide (nv l kd heap y j ≠ -1)) n
  refine r_aload_n S dX12_answer_0 rfl ?_
  refine r_getf S g_RX12_49_11 dX12_answer_1 (by repeat (first | assumption | exact sUp_same | exact sNew_same | refine sUp_ne (by first | assumption | omega) ?_)) rfl ?_
  refine r_if_eq S dX12_answer_4 (tgt := 14) (by decide) ⟨by omega, by omega⟩ (fun h_4 => ?_) (fun h_4 => ?_)
  · omega
  · refine r_aload_n S dX12_answer_7 rfl ?_
    refine r_getf S g_RX12_7_11 dX12_answer_8 (by repeat (first | assumption | exact sUp_same | exact sNew_same | refine sUp_ne (by first | assumption | omega) ?_)) rfl ?_
    refine r_if_ge S dX12_answer_11 (tgt := 17) (by decide) ⟨by omega, by omega⟩ (fun h_11 => ?_) (fun h_11 => ?_)
    · refine r_aload_n S dX12_answer_17 rfl ?_
      refine r_aload_n S dX12_answer_18 rfl ?_
      refine r_getf S g_RX12_7_11 dX12_answer_19 (by repeat (first | assumption | exact sUp_same | exact sNew_same | refine sUp_ne (by first | assumption | omega) ?_)) rfl ?_
      refine r_iload_n S dX12_answer_22 rfl ?_
      refine r_callV S (c_tries hM hn hL hl hT hkd hh hy) k_mX12_tries c_RX12_113_11 dX12_answer_23 (by decide) ⟨by omega, by omega⟩ (by repeat (first | assumption | exact sUp_same | exact sNew_same | refine sUp_ne (by first | assumption | omega) ?_)) rfl rfl (Nat.le_of_ble_eq_true rfl) (fun r σ' hp => ?_)
      obtain ⟨_, rfl, rfl, rfl⟩ := hp
      try simp only [Option.toList_some, Option.toList_none, List.cons_append, List.nil_append]
      refine r_istore_n S dX12_answer_26 rfl (by decide) (lv' := [_, _, _, _]) rfl ?_
      refine r_iload_n S dX12_answer_27 rfl ?_
      refine r_if_ne S dX12_answer_28 (tgt := 34) (by decide) ⟨by omega, by omega⟩ (fun h_28 => ?_) (fun h_28 => ?_)
      · omega
      · refine r_bipush S dX12_answer_31 (by decide) ?_
        exact r_iret S dX12_answer_33 (by omega) (by omega) (⟨_, rfl, rfl, rfl⟩)
    · omega

set_option maxRecDepth 100000 in
set_option maxHeartbeats 4000000 in
theorem c_answerMf {k : Cx} {L0 : Launch} {σ : St} {tb tr sk sm : Int} {kd n e an q heap : Nat} (hM : σ.2 (cBase k + 14) = some (oModel k 1 kd n e an (heap : Int) tb q tr sk sm)) {l : Nat → Int} (hL : σ.2 (cBase k + 15) = some (eI k 16 l)) (hl : ∀ j, -1 ≤ l j ∧ l j ≤ 3) (hn : n ≤ 16) (hkd : kd < 3) (hh : heap < 65536) {y : Nat} (hy : y < 2) {t : Nat → Int} (hT : σ.2 (cBase k + 24) = some (eI k 16 t)) (h0 : cnt (fun j => decide (nv l kd heap y j ≠ -1)) n ≠ 0) (han : an = 60) : CtrV k L0 mX12_answer 3 0 0 [.ref (cBase k + 14), .int (iZ (y : Int))] σ (fun v σ' => v = .int (iZ (-3)) ∧ σ' = (sUp σ (cBase k + 24) (eI k 16 (tkF (nv l kd heap y) t n)))) := by
  refine Ctr.of (by decide +kernel) rfl (Nat.le_of_ble_eq_true rfl) ?_
  intro κ hl0 S
  subst hl0
  have hcl := cnt_le (fun j => decide (nv l kd heap y j ≠ -1)) n
  refine r_aload_n S dX12_answer_0 rfl ?_
  refine r_getf S g_RX12_49_11 dX12_answer_1 (by repeat (first | assumption | exact sUp_same | exact sNew_same | refine sUp_ne (by first | assumption | omega) ?_)) rfl ?_
  refine r_if_eq S dX12_answer_4 (tgt := 14) (by decide) ⟨by omega, by omega⟩ (fun h_4 => ?_) (fun h_4 => ?_)
  · omega
  · refine r_aload_n S dX12_answer_7 rfl ?_
    refine r_getf S g_RX12_7_11 dX12_answer_8 (by repeat (first | assumption | exact sUp_same | exact sNew_same | refine sUp_ne (by first | assumption | omega) ?_)) rfl ?_
    refine r_if_ge S dX12_answer_11 (tgt := 17) (by decide) ⟨by omega, by omega⟩ (fun h_11 => ?_) (fun h_11 => ?_)
    · refine r_aload_n S dX12_answer_17 rfl ?_
      refine r_aload_n S dX12_answer_18 rfl ?_
      refine r_getf S g_RX12_7_11 dX12_answer_19 (by repeat (first | assumption | exact sUp_same | exact sNew_same | refine sUp_ne (by first | assumption | omega) ?_)) rfl ?_
      refine r_iload_n S dX12_answer_22 rfl ?_
      refine r_callV S (c_tries hM hn hL hl hT hkd hh hy) k_mX12_tries c_RX12_113_11 dX12_answer_23 (by decide) ⟨by omega, by omega⟩ (by repeat (first | assumption | exact sUp_same | exact sNew_same | refine sUp_ne (by first | assumption | omega) ?_)) rfl rfl (Nat.le_of_ble_eq_true rfl) (fun r σ' hp => ?_)
      obtain ⟨_, rfl, rfl, rfl⟩ := hp
      try simp only [Option.toList_some, Option.toList_none, List.cons_append, List.nil_append]
      refine r_istore_n S dX12_answer_26 rfl (by decide) (lv' := [_, _, _, _]) rfl ?_
      refine r_iload_n S dX12_answer_27 rfl ?_
      refine r_if_ne S dX12_answer_28 (tgt := 34) (by decide) ⟨by omega, by omega⟩ (fun h_28 => ?_) (fun h_28 => ?_)
      · refine r_aload_n S dX12_answer_34 rfl ?_
        refine r_getf S g_RX12_101_11 dX12_answer_35 (by repeat (first | assumption | exact sUp_same | exact sNew_same | refine sUp_ne (by first | assumption | omega) ?_)) rfl ?_
        refine r_bipush S dX12_answer_38 (by decide) ?_
        refine r_icmp_ne S dX12_answer_40 (tgt := 46) (by decide) ⟨by omega, by omega⟩ ⟨by omega, by omega⟩ (fun h_40 => ?_) (fun h_40 => ?_)
        · omega
        · refine r_bipush S dX12_answer_43 (by decide) ?_
          exact r_iret S dX12_answer_45 (by omega) (by omega) (⟨_, rfl, rfl, rfl⟩)
      · omega
    · omega

set_option maxRecDepth 100000 in
set_option maxHeartbeats 4000000 in
theorem l_answerM {κ : Kx} {k : Cx} {σ : St} {tb tr sk sm : Int} {kd n e an q heap : Nat} (hM : σ.2 (cBase k + 14) = some (oModel k 1 kd n e an (heap : Int) tb q tr sk sm)) {l : Nat → Int} (hL : σ.2 (cBase k + 15) = some (eI k 16 l)) (hl : ∀ j, -1 ≤ l j ∧ l j ≤ 3) (hn : n ≤ 16) (hkd : kd < 3) (hh : heap < 65536) {y : Nat} (hy : y < 2) {t : Nat → Int} (hT : σ.2 (cBase k + 24) = some (eI k 16 t)) (h0 : cnt (fun j => decide (nv l kd heap y j ≠ -1)) n ≠ 0) (han : an < 60) {b : Nat → Int} (hB : σ.2 (cBase k + 16) = some (eI k 976 b)) (S : Ok κ k cX12_answer 4 RX12 (some .int) "answer" 3 0 0) : ∀ (m i : Nat), i + m = n → V κ k 4 0 0 (QR κ k (fun r9 σ' => ∃ v, r9 = some v ∧ (v = .int (iZ (cnt (fun j => decide (nv l kd heap y j ≠ -1)) n : Int)) ∧ σ' = sUp (sUp (sUp (sUp σ (cBase k + 24) (eI k 16 (tkF (nv l kd heap y) t n))) (cBase k + 16) (eI k 976 (tkA l b (16 * an) n))) (cBase k + 15) (eI k 16 (tkF (nv l kd heap y) l n))) (cBase k + 14) (oModel k 1 kd n e ((an : Int) + 1) (-1) tb q tr sk sm))) 0 0) 48 [some (.ref (cBase k + 14)), some (.int (iZ (y : Int))), some (.int (iZ (cnt (fun j => decide (nv l kd heap y j ≠ -1)) n : Int))), some (.int (iZ (i : Int)))] [] (sUp (sUp (sUp σ (cBase k + 24) (eI k 16 (tkF (nv l kd heap y) t n))) (cBase k + 16) (eI k 976 (tkA l b (16 * an) i))) (cBase k + 15) (eI k 16 (tkF (nv l kd heap y) l i))) := by
  intro m
  induction m with
  | zero =>
    intro i hi
    refine r_iload_n S dX12_answer_48 rfl ?_
    refine r_aload_n S dX12_answer_49 rfl ?_
    refine r_getf S g_RX12_91_11 dX12_answer_50 (by repeat (first | assumption | exact sUp_same | exact sNew_same | refine sUp_ne (by first | assumption | omega) ?_)) rfl ?_
    refine r_icmp_ge S dX12_answer_53 (tgt := 94) (by decide) ⟨by omega, by omega⟩ ⟨by omega, by omega⟩ (fun h_53 => ?_) (fun h_53 => ?_)
    · refine r_aload_n S dX12_answer_94 rfl ?_
      refine r_dup S dX12_answer_95 rfl ?_
      refine r_getf S g_RX12_101_11 dX12_answer_96 (by repeat (first | assumption | exact sUp_same | exact sNew_same | refine sUp_ne (by first | assumption | omega) ?_)) rfl ?_
      refine r_iconst S dX12_answer_99 ?_
      refine r_iadd S dX12_answer_100 ?_
      refine r_putf S p_RX12_101_11 dX12_answer_101 (by first | rfl | decide) (by first | rfl | decide) (by repeat (first | assumption | exact sUp_same | exact sNew_same | refine sUp_ne (by first | assumption | omega) ?_)) (Nat.le_of_ble_eq_true rfl) (fs' := [_, _, _, _, _, _, _, _, _, _, _, _, _, _, _, _, _, _, _, _, _]) rfl ?_
      try simp only [sUp_sUp]
      refine r_aload_n S dX12_answer_104 rfl ?_
      refine r_iconst S dX12_answer_105 ?_
      refine r_putf S p_RX12_7_11 dX12_answer_106 (by first | rfl | decide) (by first | rfl | decide) (by repeat (first | assumption | exact sUp_same | exact sNew_same | refine sUp_ne (by first | assumption | omega) ?_)) (Nat.le_of_ble_eq_true rfl) (fs' := [_, _, _, _, _, _, _, _, _, _, _, _, _, _, _, _, _, _, _, _, _]) rfl ?_
      try simp only [sUp_sUp]
      refine r_iload_n S dX12_answer_109 rfl ?_
      exact r_iret S dX12_answer_110 (by omega) (by omega) (⟨_, rfl, rfl, by rw [← show i = n by omega]⟩)
    · omega
  | succ m ih =>
    intro i hi
    refine r_iload_n S dX12_answer_48 rfl ?_
    refine r_aload_n S dX12_answer_49 rfl ?_
    refine r_getf S g_RX12_91_11 dX12_answer_50 (by repeat (first | assumption | exact sUp_same | exact sNew_same | refine sUp_ne (by first | assumption | omega) ?_)) rfl ?_
    refine r_icmp_ge S dX12_answer_53 (tgt := 94) (by decide) ⟨by omega, by omega⟩ ⟨by omega, by omega⟩ (fun h_53 => ?_) (fun h_53 => ?_)
    · omega
    · refine r_aload_n S dX12_answer_56 rfl ?_
      refine r_getf S g_RX12_17_11 dX12_answer_57 (by repeat (first | assumption | exact sUp_same | exact sNew_same | refine sUp_ne (by first | assumption | omega) ?_)) rfl ?_
      refine r_bipush S dX12_answer_60 (by decide) ?_
      refine r_aload_n S dX12_answer_62 rfl ?_
      refine r_getf S g_RX12_101_11 dX12_answer_63 (by repeat (first | assumption | exact sUp_same | exact sNew_same | refine sUp_ne (by first | assumption | omega) ?_)) rfl ?_
      refine r_imul S dX12_answer_66 ?_
      refine r_iload_n S dX12_answer_67 rfl ?_
      refine r_iadd S dX12_answer_68 ?_
      refine r_num (z' := ((16 * an + i : Nat) : Int)) (by omega) ?_
      refine r_aload_n S dX12_answer_69 rfl ?_
      refine r_getf S g_RX12_13_11 dX12_answer_70 (by repeat (first | assumption | exact sUp_same | exact sNew_same | refine sUp_ne (by first | assumption | omega) ?_)) rfl ?_
      refine r_iload_n S dX12_answer_73 rfl ?_
      refine r_ialdN S (i) dX12_answer_74 (by repeat (first | assumption | exact sUp_same | exact sNew_same | refine sUp_ne (by first | assumption | omega) ?_)) (by omega) (by omega) (by decide) ?_
      rw [tkF_out (Nat.le_refl i)]
      refine r_iastN S (16 * an + i) dX12_answer_75 (by repeat (first | assumption | exact sUp_same | exact sNew_same | refine sUp_ne (by first | assumption | omega) ?_)) (by omega) (by omega) (by decide) ?_
      rw [sUp_comm _ _ _ (show (cBase k + 15) ≠ (cBase k + 16) by omega), sUp_sUp, tkA_succ]
      refine r_aload_n S dX12_answer_76 rfl ?_
      refine r_getf S g_RX12_13_11 dX12_answer_77 (by repeat (first | assumption | exact sUp_same | exact sNew_same | refine sUp_ne (by first | assumption | omega) ?_)) rfl ?_
      refine r_iload_n S dX12_answer_80 rfl ?_
      refine r_aload_n S dX12_answer_81 rfl ?_
      refine r_getf S g_RX12_46_11 dX12_answer_82 (by repeat (first | assumption | exact sUp_same | exact sNew_same | refine sUp_ne (by first | assumption | omega) ?_)) rfl ?_
      refine r_iload_n S dX12_answer_85 rfl ?_
      refine r_ialdN S (i) dX12_answer_86 (by repeat (first | assumption | exact sUp_same | exact sNew_same | refine sUp_ne (by first | assumption | omega) ?_)) (by omega) (by omega) (by decide) ?_
      rw [tkF_in (show i < n by omega)]
      refine r_iastN S (i) dX12_answer_87 (by repeat (first | assumption | exact sUp_same | exact sNew_same | refine sUp_ne (by first | assumption | omega) ?_)) (by omega) (by omega) (by decide) ?_
      rw [sUp_sUp, tkF_succ]
      refine r_iinc S dX12_answer_88 rfl rfl (by decide) (lv' := [_, _, _, _]) rfl ?_
      refine r_goto S dX12_answer_91 (tgt := 48) (by decide) ?_
      exact ih (i + 1) (by omega)

set_option maxRecDepth 100000 in
set_option maxHeartbeats 4000000 in
theorem c_answerM {k : Cx} {L0 : Launch} {σ : St} {tb tr sk sm : Int} {kd n e an q heap : Nat} (hM : σ.2 (cBase k + 14) = some (oModel k 1 kd n e an (heap : Int) tb q tr sk sm)) {l : Nat → Int} (hL : σ.2 (cBase k + 15) = some (eI k 16 l)) (hl : ∀ j, -1 ≤ l j ∧ l j ≤ 3) (hn : n ≤ 16) (hkd : kd < 3) (hh : heap < 65536) {y : Nat} (hy : y < 2) {t : Nat → Int} (hT : σ.2 (cBase k + 24) = some (eI k 16 t)) (h0 : cnt (fun j => decide (nv l kd heap y j ≠ -1)) n ≠ 0) (han : an < 60) {b : Nat → Int} (hB : σ.2 (cBase k + 16) = some (eI k 976 b)) : CtrV k L0 mX12_answer 3 0 0 [.ref (cBase k + 14), .int (iZ (y : Int))] σ (fun v σ' => v = .int (iZ (cnt (fun j => decide (nv l kd heap y j ≠ -1)) n : Int)) ∧ σ' = sUp (sUp (sUp (sUp σ (cBase k + 24) (eI k 16 (tkF (nv l kd heap y) t n))) (cBase k + 16) (eI k 976 (tkA l b (16 * an) n))) (cBase k + 15) (eI k 16 (tkF (nv l kd heap y) l n))) (cBase k + 14) (oModel k 1 kd n e ((an : Int) + 1) (-1) tb q tr sk sm)) := by
  refine Ctr.of (by decide +kernel) rfl (Nat.le_of_ble_eq_true rfl) ?_
  intro κ hl0 S
  subst hl0
  have hcl := cnt_le (fun j => decide (nv l kd heap y j ≠ -1)) n
  refine r_aload_n S dX12_answer_0 rfl ?_
  refine r_getf S g_RX12_49_11 dX12_answer_1 (by repeat (first | assumption | exact sUp_same | exact sNew_same | refine sUp_ne (by first | assumption | omega) ?_)) rfl ?_
  refine r_if_eq S dX12_answer_4 (tgt := 14) (by decide) ⟨by omega, by omega⟩ (fun h_4 => ?_) (fun h_4 => ?_)
  · omega
  · refine r_aload_n S dX12_answer_7 rfl ?_
    refine r_getf S g_RX12_7_11 dX12_answer_8 (by repeat (first | assumption | exact sUp_same | exact sNew_same | refine sUp_ne (by first | assumption | omega) ?_)) rfl ?_
    refine r_if_ge S dX12_answer_11 (tgt := 17) (by decide) ⟨by omega, by omega⟩ (fun h_11 => ?_) (fun h_11 => ?_)
    · refine r_aload_n S dX12_answer_17 rfl ?_
      refine r_aload_n S dX12_answer_18 rfl ?_
      refine r_getf S g_RX12_7_11 dX12_answer_19 (by repeat (first | assumption | exact sUp_same | exact sNew_same | refine sUp_ne (by first | assumption | omega) ?_)) rfl ?_
      refine r_iload_n S dX12_answer_22 rfl ?_
      refine r_callV S (c_tries hM hn hL hl hT hkd hh hy) k_mX12_tries c_RX12_113_11 dX12_answer_23 (by decide) ⟨by omega, by omega⟩ (by repeat (first | assumption | exact sUp_same | exact sNew_same | refine sUp_ne (by first | assumption | omega) ?_)) rfl rfl (Nat.le_of_ble_eq_true rfl) (fun r σ' hp => ?_)
      obtain ⟨_, rfl, rfl, rfl⟩ := hp
      try simp only [Option.toList_some, Option.toList_none, List.cons_append, List.nil_append]
      refine r_istore_n S dX12_answer_26 rfl (by decide) (lv' := [_, _, _, _]) rfl ?_
      refine r_iload_n S dX12_answer_27 rfl ?_
      refine r_if_ne S dX12_answer_28 (tgt := 34) (by decide) ⟨by omega, by omega⟩ (fun h_28 => ?_) (fun h_28 => ?_)
      · refine r_aload_n S dX12_answer_34 rfl ?_
        refine r_getf S g_RX12_101_11 dX12_answer_35 (by repeat (first | assumption | exact sUp_same | exact sNew_same | refine sUp_ne (by first | assumption | omega) ?_)) rfl ?_
        refine r_bipush S dX12_answer_38 (by decide) ?_
        refine r_icmp_ne S dX12_answer_40 (tgt := 46) (by decide) ⟨by omega, by omega⟩ ⟨by omega, by omega⟩ (fun h_40 => ?_) (fun h_40 => ?_)
        · refine r_iconst S dX12_answer_46 ?_
          refine r_istore_n S dX12_answer_47 rfl (by decide) (lv' := [_, _, _, _]) rfl ?_
          have h9 := l_answerM hM hL hl hn hkd hh hy hT h0 han hB S n 0 (by omega)
          rw [tkA_0, tkF_0, sUp_id (sUp_ne (by omega) hB), sUp_id (sUp_ne (by omega) hL)] at h9
          exact h9
        · omega
      · omega
    · omega
