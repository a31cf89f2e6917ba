set_option maxRecDepth 100000 in
set_option maxHeartbeats 4000000 in
theorem c_traceX {k : Cx} {L0 : Launch} {σ : St} {tb : Int} (hX : σ.2 (cBase k) = some (oX k tb)) {tr : Int} (hT : σ.2 (cBase k + 5) = some (oTally tr)) : CtrV k L0 mX11_trace 1 0 0 [.ref (cBase k)] σ (fun v σ' => v = .long (lZ (tr)) ∧ σ' = σ) := by
  refine Ctr.of (by decide +kernel) rfl (Nat.le_of_ble_eq_true rfl) ?_
  intro κ hl0 S
  subst hl0
  refine r_aload_n S dX11_trace_0 rfl ?_
  refine r_getf S g_RX11_25_10 dX11_trace_1 (by repeat (first | assumption | exact sUp_same | exact sNew_same | refine sUp_ne (by first | assumption | omega) ?_)) rfl ?_
  refine r_getf S g_RX11_213_8 dX11_trace_4 (by repeat (first | assumption | exact sUp_same | exact sNew_same | refine sUp_ne (by first | assumption | omega) ?_)) rfl ?_
  exact r_lret S dX11_trace_7 (by omega) (by omega) (⟨_, rfl, rfl, rfl⟩)

set_option maxRecDepth 100000 in
set_option maxHeartbeats 4000000 in
theorem c_toldX0 {k : Cx} {L0 : Launch} {σ : St} {tb : Int} (hX : σ.2 (cBase k) = some (oX k tb)) {wt yp np : Int} {on kd n e an : Nat} (hG : σ.2 (cBase k + 9) = some (oGame k on kd n e an wt yp np)) (hon : on < 2) : CtrV k L0 mX11_told 1 0 0 [.ref (cBase k), .int (iZ 0)] σ (fun v σ' => v = .int (iZ ((on : Int))) ∧ σ' = σ) := by
  refine Ctr.of (by decide +kernel) rfl (Nat.le_of_ble_eq_true rfl) ?_
  intro κ hl0 S
  subst hl0
  refine r_iload_n S dX11_told_0 rfl ?_
  refine r_tswIn S dX11_told_1 (tgt := 48) ⟨by decide, by decide⟩ (by decide) (by decide) rfl (by decide) ?_
  refine r_aload_n S dX11_told_48 rfl ?_
  refine r_getf S g_RX11_47_10 dX11_told_49 (by repeat (first | assumption | exact sUp_same | exact sNew_same | refine sUp_ne (by first | assumption | omega) ?_)) rfl ?_
  refine r_getf S g_RX11_105_3 dX11_told_52 (by repeat (first | assumption | exact sUp_same | exact sNew_same | refine sUp_ne (by first | assumption | omega) ?_)) rfl ?_
  refine r_if_eq S dX11_told_55 (tgt := 62) (by decide) ⟨by omega, by omega⟩ (fun h_55 => ?_) (fun h_55 => ?_)
  · refine r_iconst S dX11_told_62 ?_
    exact r_iret S dX11_told_63 (by omega) (by omega) (⟨_, rfl, by rw [show (on : Int) = 0 by omega], rfl⟩)
  · refine r_iconst S dX11_told_58 ?_
    refine r_goto S dX11_told_59 (tgt := 63) (by decide) ?_
    exact r_iret S dX11_told_63 (by omega) (by omega) (⟨_, rfl, by rw [show (on : Int) = 1 by omega], rfl⟩)

set_option maxRecDepth 100000 in
set_option maxHeartbeats 4000000 in
theorem c_toldX1 {k : Cx} {L0 : Launch} {σ : St} {tb : Int} (hX : σ.2 (cBase k) = some (oX k tb)) {wt yp np : Int} {on kd n e an : Nat} (hG : σ.2 (cBase k + 9) = some (oGame k on kd n e an wt yp np)) : CtrV k L0 mX11_told 1 0 0 [.ref (cBase k), .int (iZ 1)] σ (fun v σ' => v = .int (iZ ((kd : Int))) ∧ σ' = σ) := by
  refine Ctr.of (by decide +kernel) rfl (Nat.le_of_ble_eq_true rfl) ?_
  intro κ hl0 S
  subst hl0
  refine r_iload_n S dX11_told_0 rfl ?_
  refine r_tswIn S dX11_told_1 (tgt := 64) ⟨by decide, by decide⟩ (by decide) (by decide) rfl (by decide) ?_
  refine r_aload_n S dX11_told_64 rfl ?_
  refine r_getf S g_RX11_47_10 dX11_told_65 (by repeat (first | assumption | exact sUp_same | exact sNew_same | refine sUp_ne (by first | assumption | omega) ?_)) rfl ?_
  refine r_getf S g_RX11_147_3 dX11_told_68 (by repeat (first | assumption | exact sUp_same | exact sNew_same | refine sUp_ne (by first | assumption | omega) ?_)) rfl ?_
  exact r_iret S dX11_told_71 (by omega) (by omega) (⟨_, rfl, rfl, rfl⟩)

set_option maxRecDepth 100000 in
set_option maxHeartbeats 4000000 in
theorem c_toldX2 {k : Cx} {L0 : Launch} {σ : St} {tb : Int} (hX : σ.2 (cBase k) = some (oX k tb)) {wt yp np : Int} {on kd n e an : Nat} (hG : σ.2 (cBase k + 9) = some (oGame k on kd n e an wt yp np)) : CtrV k L0 mX11_told 1 0 0 [.ref (cBase k), .int (iZ 2)] σ (fun v σ' => v = .int (iZ ((n : Int))) ∧ σ' = σ) := by
  refine Ctr.of (by decide +kernel) rfl (Nat.le_of_ble_eq_true rfl) ?_
  intro κ hl0 S
  subst hl0
  refine r_iload_n S dX11_told_0 rfl ?_
  refine r_tswIn S dX11_told_1 (tgt := 72) ⟨by decide, by decide⟩ (by decide) (by decide) rfl (by decide) ?_
  refine r_aload_n S dX11_told_72 rfl ?_
  refine r_getf S g_RX11_47_10 dX11_told_73 (by repeat (first | assumption | exact sUp_same | exact sNew_same | refine sUp_ne (by first | assumption | omega) ?_)) rfl ?_
  refine r_getf S g_RX11_135_3 dX11_told_76 (by repeat (first | assumption | exact sUp_same | exact sNew_same | refine sUp_ne (by first | assumption | omega) ?_)) rfl ?_
  exact r_iret S dX11_told_79 (by omega) (by omega) (⟨_, rfl, rfl, rfl⟩)

set_option maxRecDepth 100000 in
set_option maxHeartbeats 4000000 in
theorem c_toldX3 {k : Cx} {L0 : Launch} {σ : St} {tb : Int} (hX : σ.2 (cBase k) = some (oX k tb)) {wt yp np : Int} {on kd n e an : Nat} (hG : σ.2 (cBase k + 9) = some (oGame k on kd n e an wt yp np)) : CtrV k L0 mX11_told 1 0 0 [.ref (cBase k), .int (iZ 3)] σ (fun v σ' => v = .int (iZ ((e : Int))) ∧ σ' = σ) := by
  refine Ctr.of (by decide +kernel) rfl (Nat.le_of_ble_eq_true rfl) ?_
  intro κ hl0 S
  subst hl0
  refine r_iload_n S dX11_told_0 rfl ?_
  refine r_tswIn S dX11_told_1 (tgt := 80) ⟨by decide, by decide⟩ (by decide) (by decide) rfl (by decide) ?_
  refine r_aload_n S dX11_told_80 rfl ?_
  refine r_getf S g_RX11_47_10 dX11_told_81 (by repeat (first | assumption | exact sUp_same | exact sNew_same | refine sUp_ne (by first | assumption | omega) ?_)) rfl ?_
  refine r_getf S g_RX11_144_3 dX11_told_84 (by repeat (first | assumption | exact sUp_same | exact sNew_same | refine sUp_ne (by first | assumption | omega) ?_)) rfl ?_
  exact r_iret S dX11_told_87 (by omega) (by omega) (⟨_, rfl, rfl, rfl⟩)

set_option maxRecDepth 100000 in
set_option maxHeartbeats 4000000 in
theorem c_toldX4 {k : Cx} {L0 : Launch} {σ : St} {tb : Int} (hX : σ.2 (cBase k) = some (oX k tb)) {wt yp np : Int} {on kd n e an : Nat} (hG : σ.2 (cBase k + 9) = some (oGame k on kd n e an wt yp np)) : CtrV k L0 mX11_told 1 0 0 [.ref (cBase k), .int (iZ 4)] σ (fun v σ' => v = .int (iZ ((an : Int))) ∧ σ' = σ) := by
  refine Ctr.of (by decide +kernel) rfl (Nat.le_of_ble_eq_true rfl) ?_
  intro κ hl0 S
  subst hl0
  refine r_iload_n S dX11_told_0 rfl ?_
  refine r_tswIn S dX11_told_1 (tgt := 88) ⟨by decide, by decide⟩ (by decide) (by decide) rfl (by decide) ?_
  refine r_aload_n S dX11_told_88 rfl ?_
  refine r_getf S g_RX11_47_10 dX11_told_89 (by repeat (first | assumption | exact sUp_same | exact sNew_same | refine sUp_ne (by first | assumption | omega) ?_)) rfl ?_
  refine r_getf S g_RX11_126_3 dX11_told_92 (by repeat (first | assumption | exact sUp_same | exact sNew_same | refine sUp_ne (by first | assumption | omega) ?_)) rfl ?_
  exact r_iret S dX11_told_95 (by omega) (by omega) (⟨_, rfl, rfl, rfl⟩)

set_option maxRecDepth 100000 in
set_option maxHeartbeats 4000000 in
theorem c_toldX5 {k : Cx} {L0 : Launch} {σ : St} {tb : Int} (hX : σ.2 (cBase k) = some (oX k tb)) {wt yp np : Int} {on kd n e an : Nat} (hG : σ.2 (cBase k + 9) = some (oGame k on kd n e an wt yp np)) : CtrV k L0 mX11_told 1 0 0 [.ref (cBase k), .int (iZ 5)] σ (fun v σ' => v = .int (iZ (wt)) ∧ σ' = σ) := by
  refine Ctr.of (by decide +kernel) rfl (Nat.le_of_ble_eq_true rfl) ?_
  intro κ hl0 S
  subst hl0
  refine r_iload_n S dX11_told_0 rfl ?_
  refine r_tswIn S dX11_told_1 (tgt := 96) ⟨by decide, by decide⟩ (by decide) (by decide) rfl (by decide) ?_
  refine r_aload_n S dX11_told_96 rfl ?_
  refine r_getf S g_RX11_47_10 dX11_told_97 (by repeat (first | assumption | exact sUp_same | exact sNew_same | refine sUp_ne (by first | assumption | omega) ?_)) rfl ?_
  refine r_getf S g_RX11_119_3 dX11_told_100 (by repeat (first | assumption | exact sUp_same | exact sNew_same | refine sUp_ne (by first | assumption | omega) ?_)) rfl ?_
  exact r_iret S dX11_told_103 (by omega) (by omega) (⟨_, rfl, rfl, rfl⟩)

set_option maxRecDepth 100000 in
set_option maxHeartbeats 4000000 in
theorem c_toldX6 {k : Cx} {L0 : Launch} {σ : St} {tb : Int} (hX : σ.2 (cBase k) = some (oX k tb)) {q : Nat} (hC : σ.2 (cBase k + 11) = some (oCode k q)) (hq : q ≤ 12) : CtrV k L0 mX11_told 1 0 0 [.ref (cBase k), .int (iZ 6)] σ (fun v σ' => v = .int (iZ ((q : Int))) ∧ σ' = σ) := by
  refine Ctr.of (by decide +kernel) rfl (Nat.le_of_ble_eq_true rfl) ?_
  intro κ hl0 S
  subst hl0
  refine r_iload_n S dX11_told_0 rfl ?_
  refine r_tswIn S dX11_told_1 (tgt := 104) ⟨by decide, by decide⟩ (by decide) (by decide) rfl (by decide) ?_
  refine r_aload_n S dX11_told_104 rfl ?_
  refine r_getf S g_RX11_54_10 dX11_told_105 (by repeat (first | assumption | exact sUp_same | exact sNew_same | refine sUp_ne (by first | assumption | omega) ?_)) rfl ?_
  refine r_getf S g_RX11_184_2 dX11_told_108 (by repeat (first | assumption | exact sUp_same | exact sNew_same | refine sUp_ne (by first | assumption | omega) ?_)) rfl ?_
  exact r_iret S dX11_told_111 (by omega) (by omega) (⟨_, rfl, rfl, rfl⟩)

set_option maxRecDepth 100000 in
set_option maxHeartbeats 4000000 in
theorem c_toldX7 {k : Cx} {L0 : Launch} {σ : St} {tb : Int} (hX : σ.2 (cBase k) = some (oX k tb)) : CtrV k L0 mX11_told 1 0 0 [.ref (cBase k), .int (iZ 7)] σ (fun v σ' => v = .int (iZ (tb)) ∧ σ' = σ) := by
  refine Ctr.of (by decide +kernel) rfl (Nat.le_of_ble_eq_true rfl) ?_
  intro κ hl0 S
  subst hl0
  refine r_iload_n S dX11_told_0 rfl ?_
  refine r_tswIn S dX11_told_1 (tgt := 112) ⟨by decide, by decide⟩ (by decide) (by decide) rfl (by decide) ?_
  refine r_aload_n S dX11_told_112 rfl ?_
  refine r_getf S g_RX11_58_10 dX11_told_113 (by repeat (first | assumption | exact sUp_same | exact sNew_same | refine sUp_ne (by first | assumption | omega) ?_)) rfl ?_
  exact r_iret S dX11_told_116 (by omega) (by omega) (⟨_, rfl, rfl, rfl⟩)

set_option maxRecDepth 100000 in
set_option maxHeartbeats 4000000 in
theorem c_toldXx {k : Cx} {L0 : Launch} {σ : St} {z : Int} (hz : zR z) (hb : z < 0 ∨ 7 < z) : CtrV k L0 mX11_told 1 0 0 [.ref (cBase k), .int (iZ z)] σ (fun v σ' => v = .int (iZ (-2)) ∧ σ' = σ) := by
  refine Ctr.of (by decide +kernel) rfl (Nat.le_of_ble_eq_true rfl) ?_
  intro κ hl0 S
  subst hl0
  refine r_iload_n S dX11_told_0 rfl ?_
  refine r_tswOut S dX11_told_1 (tgt := 117) hz (by omega) (by decide) ?_
  refine r_bipush S dX11_told_117 (by decide) ?_
  exact r_iret S dX11_told_119 (by omega) (by omega) (⟨_, rfl, rfl, rfl⟩)

set_option maxRecDepth 100000 in
set_option maxHeartbeats 4000000 in
theorem c_costX0 {k : Cx} {L0 : Launch} {σ : St} {a y b : Int} (ha : zR a) (hb : ¬ (0 ≤ a ∧ a < 3)) : CtrV k L0 mX11_cost 4 0 0 [.ref (cBase k), .int (iZ a), .int (iZ y), .int (iZ b)] σ (fun v σ' => v = .int (iZ (-1)) ∧ σ' = σ) := by
  refine Ctr.of (by decide +kernel) rfl (Nat.le_of_ble_eq_true rfl) ?_
  intro κ hl0 S
  subst hl0
  refine r_iload_n S dX11_cost_0 rfl ?_
  refine r_callS S (c_isKind ha) k_mX11_isKind c_RX11_62 dX11_cost_1 (by decide) ⟨by omega, by omega⟩ rfl rfl (Nat.le_of_ble_eq_true rfl) (fun r σ' hp => ?_)
  obtain ⟨_, rfl, rfl, rfl⟩ := hp
  try simp only [Option.toList_some, Option.toList_none, List.cons_append, List.nil_append]
  refine r_if_ne S dX11_cost_4 (tgt := 9) (by decide) (b01_R _) (fun h_4 => ?_) (fun h_4 => ?_)
  · simp only [b01_z, Decidable.not_not] at h_4
    omega
  · simp only [b01_z, Decidable.not_not] at h_4
    refine r_iconst S dX11_cost_7 ?_
    exact r_iret S dX11_cost_8 (by omega) (by omega) (⟨_, rfl, rfl, rfl⟩)

set_option maxRecDepth 100000 in
set_option maxHeartbeats 4000000 in
theorem c_costX_0 {k : Cx} {L0 : Launch} {σ : St} {tb tr : Int} {lq : Nat → Option Nat} (hX : σ.2 (cBase k) = some (oX k tb)) (hLI : σ.2 (cBase k + 1) = some (eQ (cQL k) 3 lq)) (hl0 : lq 0 = some (cBase k + 2)) (hl1 : lq 1 = some (cBase k + 3)) (hl2 : lq 2 = some (cBase k + 4)) (hA0 : σ.2 (cBase k + 2) = some (.inr (6, []))) (hA1 : σ.2 (cBase k + 3) = some (.inr (1, []))) (hA2 : σ.2 (cBase k + 4) = some (.inr (9, []))) (hT : σ.2 (cBase k + 5) = some (oTally tr)) {y b : Nat} (hy : y < 2) (hb : b < 2) : CtrV k L0 mX11_cost 4 0 0 [.ref (cBase k), .int (iZ 0), .int (iZ (y : Int)), .int (iZ (b : Int))] σ (fun v σ' => v = .int (iZ (costK 0 y b)) ∧ σ' = sUp σ (cBase k + 5) (oTally (tr + trK 0))) := by
  refine Ctr.of (by decide +kernel) rfl (Nat.le_of_ble_eq_true rfl) ?_
  intro κ hl0 S
  subst hl0
  refine r_iload_n S dX11_cost_0 rfl ?_
  refine r_callS S (c_isKind ⟨by decide, by decide⟩) k_mX11_isKind c_RX11_62 dX11_cost_1 (by decide) ⟨by omega, by omega⟩ rfl rfl (Nat.le_of_ble_eq_true rfl) (fun r σ' hp => ?_)
  obtain ⟨_, rfl, rfl, rfl⟩ := hp
  try simp only [Option.toList_some, Option.toList_none, List.cons_append, List.nil_append]
  refine r_if_ne S dX11_cost_4 (tgt := 9) (by decide) (b01_R _) (fun h_4 => ?_) (fun h_4 => ?_)
  · simp only [b01_z, Decidable.not_not] at h_4
    refine r_aload_n S dX11_cost_9 rfl ?_
    refine r_getf S g_RX11_18_10 dX11_cost_10 (by repeat (first | assumption | exact sUp_same | exact sNew_same | refine sUp_ne (by first | assumption | omega) ?_)) rfl ?_
    refine r_iload_n S dX11_cost_13 rfl ?_
    refine r_aaldN S (0) (t0 := 2) (v := .ref (cBase k + 2)) rfl dX11_cost_14 (by repeat (first | assumption | exact sUp_same | exact sNew_same | refine sUp_ne (by first | assumption | omega) ?_)) (by rfl) (by omega) (by decide) (by rw [hl0]; rfl) ?_
    refine r_iload_n S dX11_cost_15 rfl ?_
    refine r_iload_n S dX11_cost_16 rfl ?_
    refine r_aload_n S dX11_cost_17 rfl ?_
    refine r_getf S g_RX11_25_10 dX11_cost_18 (by repeat (first | assumption | exact sUp_same | exact sNew_same | refine sUp_ne (by first | assumption | omega) ?_)) rfl ?_
    refine r_callV S (c_price0 hT hy hb) k_mX7_price c_RX11_98_6 dX11_cost_21 (by decide) ⟨by omega, by omega⟩ (by repeat (first | assumption | exact sUp_same | exact sNew_same | refine sUp_ne (by first | assumption | omega) ?_)) rfl rfl (Nat.le_of_ble_eq_true rfl) (fun r σ' hp => ?_)
    obtain ⟨_, rfl, rfl, rfl⟩ := hp
    try simp only [Option.toList_some, Option.toList_none, List.cons_append, List.nil_append]
    exact r_iret S dX11_cost_24 (by omega) (by omega) (⟨_, rfl, rfl, rfl⟩)
  · simp only [b01_z, Decidable.not_not] at h_4
    omega

set_option maxRecDepth 100000 in
set_option maxHeartbeats 4000000 in
theorem c_costX_1 {k : Cx} {L0 : Launch} {σ : St} {tb tr : Int} {lq : Nat → Option Nat} (hX : σ.2 (cBase k) = some (oX k tb)) (hLI : σ.2 (cBase k + 1) = some (eQ (cQL k) 3 lq)) (hl0 : lq 0 = some (cBase k + 2)) (hl1 : lq 1 = some (cBase k + 3)) (hl2 : lq 2 = some (cBase k + 4)) (hA0 : σ.2 (cBase k + 2) = some (.inr (6, []))) (hA1 : σ.2 (cBase k + 3) = some (.inr (1, []))) (hA2 : σ.2 (cBase k + 4) = some (.inr (9, []))) (hT : σ.2 (cBase k + 5) = some (oTally tr)) {y b : Nat} (hy : y < 2) (hb : b < 2) : CtrV k L0 mX11_cost 4 0 0 [.ref (cBase k), .int (iZ 1), .int (iZ (y : Int)), .int (iZ (b : Int))] σ (fun v σ' => v = .int (iZ (costK 1 y b)) ∧ σ' = sUp σ (cBase k + 5) (oTally (tr + trK 1))) := by
  refine Ctr.of (by decide +kernel) rfl (Nat.le_of_ble_eq_true rfl) ?_
  intro κ hl0 S
  subst hl0
  refine r_iload_n S dX11_cost_0 rfl ?_
  refine r_callS S (c_isKind ⟨by decide, by decide⟩) k_mX11_isKind c_RX11_62 dX11_cost_1 (by decide) ⟨by omega, by omega⟩ rfl rfl (Nat.le_of_ble_eq_true rfl) (fun r σ' hp => ?_)
  obtain ⟨_, rfl, rfl, rfl⟩ := hp
  try simp only [Option.toList_some, Option.toList_none, List.cons_append, List.nil_append]
  refine r_if_ne S dX11_cost_4 (tgt := 9) (by decide) (b01_R _) (fun h_4 => ?_) (fun h_4 => ?_)
  · simp only [b01_z, Decidable.not_not] at h_4
    refine r_aload_n S dX11_cost_9 rfl ?_
    refine r_getf S g_RX11_18_10 dX11_cost_10 (by repeat (first | assumption | exact sUp_same | exact sNew_same | refine sUp_ne (by first | assumption | omega) ?_)) rfl ?_
    refine r_iload_n S dX11_cost_13 rfl ?_
    refine r_aaldN S (1) (t0 := 2) (v := .ref (cBase k + 3)) rfl dX11_cost_14 (by repeat (first | assumption | exact sUp_same | exact sNew_same | refine sUp_ne (by first | assumption | omega) ?_)) (by rfl) (by omega) (by decide) (by rw [hl1]; rfl) ?_
    refine r_iload_n S dX11_cost_15 rfl ?_
    refine r_iload_n S dX11_cost_16 rfl ?_
    refine r_aload_n S dX11_cost_17 rfl ?_
    refine r_getf S g_RX11_25_10 dX11_cost_18 (by repeat (first | assumption | exact sUp_same | exact sNew_same | refine sUp_ne (by first | assumption | omega) ?_)) rfl ?_
    refine r_callU S (c_price1_1 hT hy hb hA1 (by omega)) k_mX1_price c_RX11_98_1 dX11_cost_21 (by decide) ⟨by omega, by omega⟩ (by repeat (first | assumption | exact sUp_same | exact sNew_same | refine sUp_ne (by first | assumption | omega) ?_)) rfl rfl (Nat.le_of_ble_eq_true rfl) (fun r σ' hp => ?_)
    obtain ⟨_, rfl, rfl, rfl⟩ := hp
    try simp only [Option.toList_some, Option.toList_none, List.cons_append, List.nil_append]
    exact r_iret S dX11_cost_24 (by omega) (by omega) (⟨_, rfl, rfl, rfl⟩)
  · simp only [b01_z, Decidable.not_not] at h_4
    omega

set_option maxRecDepth 100000 in
set_option maxHeartbeats 4000000 in
theorem c_costX_2 {k : Cx} {L0 : Launch} {σ : St} {tb tr : Int} {lq : Nat → Option Nat} (hX : σ.2 (cBase k) = some (oX k tb)) (hLI : σ.2 (cBase k + 1) = some (eQ (cQL k) 3 lq)) (hl0 : lq 0 = some (cBase k + 2)) (hl1 : lq 1 = some (cBase k + 3)) (hl2 : lq 2 = some (cBase k + 4)) (hA0 : σ.2 (cBase k + 2) = some (.inr (6, []))) (hA1 : σ.2 (cBase k + 3) = some (.inr (1, []))) (hA2 : σ.2 (cBase k + 4) = some (.inr (9, []))) (hT : σ.2 (cBase k + 5) = some (oTally tr)) {y b : Nat} (hy : y < 2) (hb : b < 2) : CtrV k L0 mX11_cost 4 0 0 [.ref (cBase k), .int (iZ 2), .int (iZ (y : Int)), .int (iZ (b : Int))] σ (fun v σ' => v = .int (iZ (costK 2 y b)) ∧ σ' = sUp σ (cBase k + 5) (oTally (tr + trK 2))) := by
  refine Ctr.of (by decide +kernel) rfl (Nat.le_of_ble_eq_true rfl) ?_
  intro κ hl0 S
  subst hl0
  refine r_iload_n S dX11_cost_0 rfl ?_
  refine r_callS S (c_isKind ⟨by decide, by decide⟩) k_mX11_isKind c_RX11_62 dX11_cost_1 (by decide) ⟨by omega, by omega⟩ rfl rfl (Nat.le_of_ble_eq_true rfl) (fun r σ' hp => ?_)
  obtain ⟨_, rfl, rfl, rfl⟩ := hp
  try simp only [Option.toList_some, Option.toList_none, List.cons_append, List.nil_append]
  refine r_if_ne S dX11_cost_4 (tgt := 9) (by decide) (b01_R _) (fun h_4 => ?_) (fun h_4 => ?_)
  · simp only [b01_z, Decidable.not_not] at h_4
    refine r_aload_n S dX11_cost_9 rfl ?_
    refine r_getf S g_RX11_18_10 dX11_cost_10 (by repeat (first | assumption | exact sUp_same | exact sNew_same | refine sUp_ne (by first | assumption | omega) ?_)) rfl ?_
    refine r_iload_n S dX11_cost_13 rfl ?_
    refine r_aaldN S (2) (t0 := 2) (v := .ref (cBase k + 4)) rfl dX11_cost_14 (by repeat (first | assumption | exact sUp_same | exact sNew_same | refine sUp_ne (by first | assumption | omega) ?_)) (by rfl) (by omega) (by decide) (by rw [hl2]; rfl) ?_
    refine r_iload_n S dX11_cost_15 rfl ?_
    refine r_iload_n S dX11_cost_16 rfl ?_
    refine r_aload_n S dX11_cost_17 rfl ?_
    refine r_getf S g_RX11_25_10 dX11_cost_18 (by repeat (first | assumption | exact sUp_same | exact sNew_same | refine sUp_ne (by first | assumption | omega) ?_)) rfl ?_
    refine r_callU S (c_price2 hT hy hb hA2 (by omega)) k_mX10_price c_RX11_98_9 dX11_cost_21 (by decide) ⟨by omega, by omega⟩ (by repeat (first | assumption | exact sUp_same | exact sNew_same | refine sUp_ne (by first | assumption | omega) ?_)) rfl rfl (Nat.le_of_ble_eq_true rfl) (fun r σ' hp => ?_)
    obtain ⟨_, rfl, rfl, rfl⟩ := hp
    try simp only [Option.toList_some, Option.toList_none, List.cons_append, List.nil_append]
    exact r_iret S dX11_cost_24 (by omega) (by omega) (⟨_, rfl, rfl, rfl⟩)
  · simp only [b01_z, Decidable.not_not] at h_4
    omega

set_option maxRecDepth 100000 in
set_option maxHeartbeats 4000000 in
theorem c_askX0 {k : Cx} {L0 : Launch} {σ : St} {tb : Int} (hX : σ.2 (cBase k) = some (oX k tb)) {wt yp np : Int} {on kd n e an : Nat} (hG : σ.2 (cBase k + 9) = some (oGame k on kd n e an wt yp np)) (hon : on < 2) {z : Int} (hz : zR z) (hb : ¬ (0 ≤ z ∧ z ≤ 65535)) : CtrV k L0 mX11_ask 4 0 0 [.ref (cBase k), .int (iZ z)] σ (fun v σ' => v = .int (iZ (-1)) ∧ σ' = σ) := by
  refine Ctr.of (by decide +kernel) rfl (Nat.le_of_ble_eq_true rfl) ?_
  intro κ hl0 S
  subst hl0
  refine r_iload_n S dX11_ask_0 rfl ?_
  refine r_callS S (c_isHeap hz) k_mX11_isHeap c_RX11_102 dX11_ask_1 (by decide) ⟨by omega, by omega⟩ rfl rfl (Nat.le_of_ble_eq_true rfl) (fun r σ' hp => ?_)
  obtain ⟨_, rfl, rfl, rfl⟩ := hp
  try simp only [Option.toList_some, Option.toList_none, List.cons_append, List.nil_append]
  refine r_if_ne S dX11_ask_4 (tgt := 9) (by decide) (b01_R _) (fun h_4 => ?_) (fun h_4 => ?_)
  · simp only [b01_z, Decidable.not_not] at h_4
    omega
  · simp only [b01_z, Decidable.not_not] at h_4
    refine r_iconst S dX11_ask_7 ?_
    exact r_iret S dX11_ask_8 (by omega) (by omega) (⟨_, rfl, rfl, rfl⟩)

set_option maxRecDepth 100000 in
set_option maxHeartbeats 4000000 in
theorem c_askX1 {k : Cx} {L0 : Launch} {σ : St} {tb : Int} (hX : σ.2 (cBase k) = some (oX k tb)) {wt yp np : Int} {kd n e an : Nat} (hG : σ.2 (cBase k + 9) = some (oGame k 0 kd n e an wt yp np)) {z : Int} (hz : zR z) (hb : 0 ≤ z ∧ z ≤ 65535) : CtrV k L0 mX11_ask 4 0 0 [.ref (cBase k), .int (iZ z)] σ (fun v σ' => v = .int (iZ (-2)) ∧ σ' = σ) := by
  refine Ctr.of (by decide +kernel) rfl (Nat.le_of_ble_eq_true rfl) ?_
  intro κ hl0 S
  subst hl0
  refine r_iload_n S dX11_ask_0 rfl ?_
  refine r_callS S (c_isHeap hz) k_mX11_isHeap c_RX11_102 dX11_ask_1 (by decide) ⟨by omega, by omega⟩ rfl rfl (Nat.le_of_ble_eq_true rfl) (fun r σ' hp => ?_)
  obtain ⟨_, rfl, rfl, rfl⟩ := hp
  try simp only [Option.toList_some, Option.toList_none, List.cons_append, List.nil_append]
  refine r_if_ne S dX11_ask_4 (tgt := 9) (by decide) (b01_R _) (fun h_4 => ?_) (fun h_4 => ?_)
  · simp only [b01_z, Decidable.not_not] at h_4
    refine r_aload_n S dX11_ask_9 rfl ?_
    refine r_getf S g_RX11_47_10 dX11_ask_10 (by repeat (first | assumption | exact sUp_same | exact sNew_same | refine sUp_ne (by first | assumption | omega) ?_)) rfl ?_
    refine r_getf S g_RX11_105_3 dX11_ask_13 (by repeat (first | assumption | exact sUp_same | exact sNew_same | refine sUp_ne (by first | assumption | omega) ?_)) rfl ?_
    refine r_if_ne S dX11_ask_16 (tgt := 22) (by decide) ⟨by omega, by omega⟩ (fun h_16 => ?_) (fun h_16 => ?_)
    · omega
    · refine r_bipush S dX11_ask_19 (by decide) ?_
      exact r_iret S dX11_ask_21 (by omega) (by omega) (⟨_, rfl, rfl, rfl⟩)
  · simp only [b01_z, Decidable.not_not] at h_4
    omega

set_option maxRecDepth 100000 in
set_option maxHeartbeats 4000000 in
theorem c_askX2 {k : Cx} {L0 : Launch} {σ : St} {tb : Int} (hX : σ.2 (cBase k) = some (oX k tb)) {wt yp np : Int} {kd n e an : Nat} (hG : σ.2 (cBase k + 9) = some (oGame k 1 kd n e an wt yp np)) (hn : n ≤ 16) {heap : Nat} (hh : heap < 65536) (hb : 2 ^ n ≤ heap) : CtrV k L0 mX11_ask 4 0 0 [.ref (cBase k), .int (iZ (heap : Int))] σ (fun v σ' => v = .int (iZ (-1)) ∧ σ' = σ) := by
  refine Ctr.of (by decide +kernel) rfl (Nat.le_of_ble_eq_true rfl) ?_
  intro κ hl0 S
  subst hl0
  have hmd := Nat.mod_lt heap (Nat.two_pow_pos n)
  have hml := Nat.mod_le heap (2 ^ n)
  refine r_iload_n S dX11_ask_0 rfl ?_
  refine r_callS S (c_isHeap ⟨by omega, by omega⟩) k_mX11_isHeap c_RX11_102 dX11_ask_1 (by decide) ⟨by omega, by omega⟩ rfl rfl (Nat.le_of_ble_eq_true rfl) (fun r σ' hp => ?_)
  obtain ⟨_, rfl, rfl, rfl⟩ := hp
  try simp only [Option.toList_some, Option.toList_none, List.cons_append, List.nil_append]
  refine r_if_ne S dX11_ask_4 (tgt := 9) (by decide) (b01_R _) (fun h_4 => ?_) (fun h_4 => ?_)
  · simp only [b01_z, Decidable.not_not] at h_4
    refine r_aload_n S dX11_ask_9 rfl ?_
    refine r_getf S g_RX11_47_10 dX11_ask_10 (by repeat (first | assumption | exact sUp_same | exact sNew_same | refine sUp_ne (by first | assumption | omega) ?_)) rfl ?_
    refine r_getf S g_RX11_105_3 dX11_ask_13 (by repeat (first | assumption | exact sUp_same | exact sNew_same | refine sUp_ne (by first | assumption | omega) ?_)) rfl ?_
    refine r_if_ne S dX11_ask_16 (tgt := 22) (by decide) ⟨by omega, by omega⟩ (fun h_16 => ?_) (fun h_16 => ?_)
    · refine r_aload_n S dX11_ask_22 rfl ?_
      refine r_getf S g_RX11_47_10 dX11_ask_23 (by repeat (first | assumption | exact sUp_same | exact sNew_same | refine sUp_ne (by first | assumption | omega) ?_)) rfl ?_
      refine r_iload_n S dX11_ask_26 rfl ?_
      refine r_callV S (c_within hG hn hh) k_mX3_within c_RX11_109_3 dX11_ask_27 (by decide) ⟨by omega, by omega⟩ (by repeat (first | assumption | exact sUp_same | exact sNew_same | refine sUp_ne (by first | assumption | omega) ?_)) rfl rfl (Nat.le_of_ble_eq_true rfl) (fun r σ' hp => ?_)
      obtain ⟨_, rfl, rfl, rfl⟩ := hp
      try simp only [Option.toList_some, Option.toList_none, List.cons_append, List.nil_append]
      refine r_iload_n S dX11_ask_30 rfl ?_
      refine r_icmp_eq S dX11_ask_31 (tgt := 36) (by decide) ⟨by omega, by omega⟩ ⟨by omega, by omega⟩ (fun h_31 => ?_) (fun h_31 => ?_)
      · omega
      · refine r_iconst S dX11_ask_34 ?_
        exact r_iret S dX11_ask_35 (by omega) (by omega) (⟨_, rfl, rfl, rfl⟩)
    · omega
  · simp only [b01_z, Decidable.not_not] at h_4
    omega

set_option maxRecDepth 100000 in
set_option maxHeartbeats 4000000 in
theorem c_askX {k : Cx} {L0 : Launch} {σ : St} {tb : Int} (hX : σ.2 (cBase k) = some (oX k tb)) {wt yp np : Int} {kd n e an : Nat} (hG : σ.2 (cBase k + 9) = some (oGame k 1 kd n e an wt yp np)) {f : Nat → Int} (hL : σ.2 (cBase k + 10) = some (eI k 992 f)) (hf : ∀ j, -1 ≤ f j ∧ f j ≤ 3) (han : an ≤ 60) (hn : n ≤ 16) {heap : Nat} (hh : heap < 65536) (hb : heap < 2 ^ n) : CtrV k L0 mX11_ask 4 0 0 [.ref (cBase k), .int (iZ (heap : Int))] σ (fun v σ' => v = .int (iZ (cnt (fun j => decide (bt heap j = 1 ∧ f (an * 16 + j) ≠ -1)) n : Int)) ∧ σ' = sUp σ (cBase k + 9) (oGame k 1 kd n e an (heap : Int) yp np)) := by
  refine Ctr.of (by decide +kernel) rfl (Nat.le_of_ble_eq_true rfl) ?_
  intro κ hl0 S
  subst hl0
  refine r_iload_n S dX11_ask_0 rfl ?_
  refine r_callS S (c_isHeap ⟨by omega, by omega⟩) k_mX11_isHeap c_RX11_102 dX11_ask_1 (by decide) ⟨by omega, by omega⟩ rfl rfl (Nat.le_of_ble_eq_true rfl) (fun r σ' hp => ?_)
  obtain ⟨_, rfl, rfl, rfl⟩ := hp
  try simp only [Option.toList_some, Option.toList_none, List.cons_append, List.nil_append]
  refine r_if_ne S dX11_ask_4 (tgt := 9) (by decide) (b01_R _) (fun h_4 => ?_) (fun h_4 => ?_)
  · simp only [b01_z, Decidable.not_not] at h_4
    refine r_aload_n S dX11_ask_9 rfl ?_
    refine r_getf S g_RX11_47_10 dX11_ask_10 (by repeat (first | assumption | exact sUp_same | exact sNew_same | refine sUp_ne (by first | assumption | omega) ?_)) rfl ?_
    refine r_getf S g_RX11_105_3 dX11_ask_13 (by repeat (first | assumption | exact sUp_same | exact sNew_same | refine sUp_ne (by first | assumption | omega) ?_)) rfl ?_
    refine r_if_ne S dX11_ask_16 (tgt := 22) (by decide) ⟨by omega, by omega⟩ (fun h_16 => ?_) (fun h_16 => ?_)
    · refine r_aload_n S dX11_ask_22 rfl ?_
      refine r_getf S g_RX11_47_10 dX11_ask_23 (by repeat (first | assumption | exact sUp_same | exact sNew_same | refine sUp_ne (by first | assumption | omega) ?_)) rfl ?_
      refine r_iload_n S dX11_ask_26 rfl ?_
      refine r_callV S (c_within hG hn hh) k_mX3_within c_RX11_109_3 dX11_ask_27 (by decide) ⟨by omega, by omega⟩ (by repeat (first | assumption | exact sUp_same | exact sNew_same | refine sUp_ne (by first | assumption | omega) ?_)) rfl rfl (Nat.le_of_ble_eq_true rfl) (fun r σ' hp => ?_)
      obtain ⟨_, rfl, rfl, rfl⟩ := hp
      try simp only [Option.toList_some, Option.toList_none, List.cons_append, List.nil_append]
      rw [Nat.mod_eq_of_lt hb]
      refine r_iload_n S dX11_ask_30 rfl ?_
      refine r_icmp_eq S dX11_ask_31 (tgt := 36) (by decide) ⟨by omega, by omega⟩ ⟨by omega, by omega⟩ (fun h_31 => ?_) (fun h_31 => ?_)
      · refine r_aload_n S dX11_ask_36 rfl ?_
        refine r_getf S g_RX11_47_10 dX11_ask_37 (by repeat (first | assumption | exact sUp_same | exact sNew_same | refine sUp_ne (by first | assumption | omega) ?_)) rfl ?_
        refine r_iload_n S dX11_ask_40 rfl ?_
        refine r_callV S (c_waitFor hG) k_mX3_waitFor c_RX11_112_3 dX11_ask_41 (by decide) ⟨by omega, by omega⟩ (by repeat (first | assumption | exact sUp_same | exact sNew_same | refine sUp_ne (by first | assumption | omega) ?_)) rfl rfl (Nat.le_of_ble_eq_true rfl) (fun r σ' hp => ?_)
        obtain ⟨rfl, rfl⟩ := hp
        try simp only [Option.toList_some, Option.toList_none, List.cons_append, List.nil_append]
        refine r_aload_n S dX11_ask_44 rfl ?_
        refine r_getf S g_RX11_47_10 dX11_ask_45 (by repeat (first | assumption | exact sUp_same | exact sNew_same | refine sUp_ne (by first | assumption | omega) ?_)) rfl ?_
        refine r_iload_n S dX11_ask_48 rfl ?_
        refine r_callV S (c_standingIn sUp_same (sUp_ne (by omega) hL) han hn hf hh) k_mX3_standingIn c_RX11_116_3 dX11_ask_49 (by decide) ⟨by omega, by omega⟩ (by repeat (first | assumption | exact sUp_same | exact sNew_same | refine sUp_ne (by first | assumption | omega) ?_)) rfl rfl (Nat.le_of_ble_eq_true rfl) (fun r σ' hp => ?_)
        obtain ⟨_, rfl, rfl, rfl⟩ := hp
        try simp only [Option.toList_some, Option.toList_none, List.cons_append, List.nil_append]
        exact r_iret S dX11_ask_52 (by omega) (by omega) (⟨_, rfl, rfl, rfl⟩)
      · omega
    · omega
  · simp only [b01_z, Decidable.not_not] at h_4
    omega

set_option maxRecDepth 100000 in
set_option maxHeartbeats 4000000 in
theorem c_answerX0 {k : Cx} {L0 : Launch} {σ : St} {tb : Int} (hX : σ.2 (cBase k) = some (oX k tb)) {wt yp np : Int} {on kd n e an : Nat} (hG : σ.2 (cBase k + 9) = some (oGame k on kd n e an wt yp np)) {y : Int} (hon : on < 2) (hw : zR wt) (hb : on = 0 ∨ wt = -1) : CtrV k L0 mX11_answer 5 0 0 [.ref (cBase k), .int (iZ y)] σ (fun v σ' => v = .int (iZ (-2)) ∧ σ' = σ) := by
  refine Ctr.of (by decide +kernel) rfl (Nat.le_of_ble_eq_true rfl) ?_
  intro κ hl0 S
  subst hl0
  refine r_aload_n S dX11_answer_0 rfl ?_
  refine r_getf S g_RX11_47_10 dX11_answer_1 (by repeat (first | assumption | exact sUp_same | exact sNew_same | refine sUp_ne (by first | assumption | omega) ?_)) rfl ?_
  refine r_getf S g_RX11_105_3 dX11_answer_4 (by repeat (first | assumption | exact sUp_same | exact sNew_same | refine sUp_ne (by first | assumption | omega) ?_)) rfl ?_
  refine r_if_eq S dX11_answer_7 (tgt := 21) (by decide) ⟨by omega, by omega⟩ (fun h_7 => ?_) (fun h_7 => ?_)
  · refine r_bipush S dX11_answer_21 (by decide) ?_
    exact r_iret S dX11_answer_23 (by omega) (by omega) (⟨_, rfl, rfl, rfl⟩)
  · refine r_aload_n S dX11_answer_10 rfl ?_
    refine r_getf S g_RX11_47_10 dX11_answer_11 (by repeat (first | assumption | exact sUp_same | exact sNew_same | refine sUp_ne (by first | assumption | omega) ?_)) rfl ?_
    refine r_getf S g_RX11_119_3 dX11_answer_14 (by repeat (first | assumption | exact sUp_same | exact sNew_same | refine sUp_ne (by first | assumption | omega) ?_)) rfl ?_
    refine r_iconst S dX11_answer_17 ?_
    refine r_icmp_ne S dX11_answer_18 (tgt := 24) (by decide) hw ⟨by omega, by omega⟩ (fun h_18 => ?_) (fun h_18 => ?_)
    · omega
    · refine r_bipush S dX11_answer_21 (by decide) ?_
      exact r_iret S dX11_answer_23 (by omega) (by omega) (⟨_, rfl, rfl, rfl⟩)

set_option maxRecDepth 100000 in
set_option maxHeartbeats 4000000 in
theorem c_answerX {k : Cx} {L0 : Launch} {σ : St} {tb : Int} (hX : σ.2 (cBase k) = some (oX k tb)) {yp np : Int} {kd n e an heap : Nat} (hG : σ.2 (cBase k + 9) = some (oGame k 1 kd n e an (heap : Int) yp np)) {f : Nat → Int} (hL : σ.2 (cBase k + 10) = some (eI k 992 f)) (hf : ∀ j, -1 ≤ f j ∧ f j ≤ 3) (han : an ≤ 60) (hn : n ≤ 16) (hyp : 0 ≤ yp ∧ yp ≤ 9) (hnp : 0 ≤ np ∧ np ≤ 9) (hh : heap < 65536) {y : Nat} (hy : y < 2) (hkd : kd < 3) : CtrV k L0 mX11_answer 5 0 0 [.ref (cBase k), .int (iZ (y : Int))] σ (fun v σ' => (cnt (fun j => decide (newL f (an * 16) yp np heap y j ≠ -1)) n = 0 ∧ v = .int (iZ (-2)) ∧ σ' = (sUp σ (cBase k + 10) (eI k 992 (layF f an yp np heap y n)))) ∨ (cnt (fun j => decide (newL f (an * 16) yp np heap y j ≠ -1)) n ≠ 0 ∧ 60 ≤ an ∧ v = .int (iZ (-3)) ∧ σ' = (sUp σ (cBase k + 10) (eI k 992 (layF f an yp np heap y n)))) ∨ (cnt (fun j => decide (newL f (an * 16) yp np heap y j ≠ -1)) n ≠ 0 ∧ an < 60 ∧ v = .int (iZ (cnt (fun j => decide (newL f (an * 16) yp np heap y j ≠ -1)) n : Int)) ∧ σ' = sUp (sUp σ (cBase k + 10) (eI k 992 (layF f an yp np heap y n))) (cBase k + 9) (oGame k 1 kd n e ((an : Int) + 1) (-1) yp np))) := by
  refine Ctr.of (by decide +kernel) rfl (Nat.le_of_ble_eq_true rfl) ?_
  intro κ hl0 S
  subst hl0
  refine r_aload_n S dX11_answer_0 rfl ?_
  refine r_getf S g_RX11_47_10 dX11_answer_1 (by repeat (first | assumption | exact sUp_same | exact sNew_same | refine sUp_ne (by first | assumption | omega) ?_)) rfl ?_
  refine r_getf S g_RX11_105_3 dX11_answer_4 (by repeat (first | assumption | exact sUp_same | exact sNew_same | refine sUp_ne (by first | assumption | omega) ?_)) rfl ?_
  refine r_if_eq S dX11_answer_7 (tgt := 21) (by decide) ⟨by omega, by omega⟩ (fun h_7 => ?_) (fun h_7 => ?_)
  · omega
  · refine r_aload_n S dX11_answer_10 rfl ?_
    refine r_getf S g_RX11_47_10 dX11_answer_11 (by repeat (first | assumption | exact sUp_same | exact sNew_same | refine sUp_ne (by first | assumption | omega) ?_)) rfl ?_
    refine r_getf S g_RX11_119_3 dX11_answer_14 (by repeat (first | assumption | exact sUp_same | exact sNew_same | refine sUp_ne (by first | assumption | omega) ?_)) rfl ?_
    refine r_iconst S dX11_answer_17 ?_
    refine r_icmp_ne S dX11_answer_18 (tgt := 24) (by decide) ⟨by omega, by omega⟩ ⟨by omega, by omega⟩ (fun h_18 => ?_) (fun h_18 => ?_)
    · refine r_aload_n S dX11_answer_24 rfl ?_
      refine r_getf S g_RX11_47_10 dX11_answer_25 (by repeat (first | assumption | exact sUp_same | exact sNew_same | refine sUp_ne (by first | assumption | omega) ?_)) rfl ?_
      refine r_aload_n S dX11_answer_28 rfl ?_
      refine r_getf S g_RX11_47_10 dX11_answer_29 (by repeat (first | assumption | exact sUp_same | exact sNew_same | refine sUp_ne (by first | assumption | omega) ?_)) rfl ?_
      refine r_getf S g_RX11_119_3 dX11_answer_32 (by repeat (first | assumption | exact sUp_same | exact sNew_same | refine sUp_ne (by first | assumption | omega) ?_)) rfl ?_
      refine r_iload_n S dX11_answer_35 rfl ?_
      refine r_callV S (c_reply hG hL han hn hf hyp hnp hh hy ⟨by omega, by omega⟩) k_mX3_reply c_RX11_122_3 dX11_answer_36 (by decide) ⟨by omega, by omega⟩ (by repeat (first | assumption | exact sUp_same | exact sNew_same | refine sUp_ne (by first | assumption | omega) ?_)) rfl rfl (Nat.le_of_ble_eq_true rfl) (fun r σ' hp => ?_)
      obtain ⟨v9, rfl, hp⟩ := hp
      have hv : ∃ z9 : Int, v9 = Value.int (iZ z9) := by
        rcases hp with hp | hp | hp
        · exact ⟨_, hp.2.1⟩
        · exact ⟨_, hp.2.2.1⟩
        · exact ⟨_, hp.2.2.1⟩
      obtain ⟨z9, rfl⟩ := hv
      try simp only [Option.toList_some, Option.toList_none, List.cons_append, List.nil_append]
      exact r_iret S dX11_answer_39 (by omega) (by omega) (⟨_, rfl, hp⟩)
    · omega

set_option maxRecDepth 100000 in
set_option maxHeartbeats 4000000 in
theorem c_backX0 {k : Cx} {L0 : Launch} {σ : St} {tb : Int} (hX : σ.2 (cBase k) = some (oX k tb)) {wt yp np : Int} {on kd n e an : Nat} (hG : σ.2 (cBase k + 9) = some (oGame k on kd n e an wt yp np)) (hon : on < 2) (han : an ≤ 60) (hb : on = 0 ∨ an = 0) : CtrV k L0 mX11_back 2 0 0 [.ref (cBase k)] σ (fun v σ' => v = .int (iZ (-2)) ∧ σ' = σ) := by
  refine Ctr.of (by decide +kernel) rfl (Nat.le_of_ble_eq_true rfl) ?_
  intro κ hl0 S
  subst hl0
  refine r_aload_n S dX11_back_0 rfl ?_
  refine r_getf S g_RX11_47_10 dX11_back_1 (by repeat (first | assumption | exact sUp_same | exact sNew_same | refine sUp_ne (by first | assumption | omega) ?_)) rfl ?_
  refine r_getf S g_RX11_105_3 dX11_back_4 (by repeat (first | assumption | exact sUp_same | exact sNew_same | refine sUp_ne (by first | assumption | omega) ?_)) rfl ?_
  refine r_if_eq S dX11_back_7 (tgt := 20) (by decide) ⟨by omega, by omega⟩ (fun h_7 => ?_) (fun h_7 => ?_)
  · refine r_bipush S dX11_back_20 (by decide) ?_
    exact r_iret S dX11_back_22 (by omega) (by omega) (⟨_, rfl, rfl, rfl⟩)
  · refine r_aload_n S dX11_back_10 rfl ?_
    refine r_getf S g_RX11_47_10 dX11_back_11 (by repeat (first | assumption | exact sUp_same | exact sNew_same | refine sUp_ne (by first | assumption | omega) ?_)) rfl ?_
    refine r_getf S g_RX11_126_3 dX11_back_14 (by repeat (first | assumption | exact sUp_same | exact sNew_same | refine sUp_ne (by first | assumption | omega) ?_)) rfl ?_
    refine r_if_ne S dX11_back_17 (tgt := 23) (by decide) ⟨by omega, by omega⟩ (fun h_17 => ?_) (fun h_17 => ?_)
    · omega
    · refine r_bipush S dX11_back_20 (by decide) ?_
      exact r_iret S dX11_back_22 (by omega) (by omega) (⟨_, rfl, rfl, rfl⟩)

set_option maxRecDepth 100000 in
set_option maxHeartbeats 4000000 in
theorem c_backX {k : Cx} {L0 : Launch} {σ : St} {tb : Int} (hX : σ.2 (cBase k) = some (oX k tb)) {wt yp np : Int} {kd n e an : Nat} (hG : σ.2 (cBase k + 9) = some (oGame k 1 kd n e ((an + 1 : Nat) : Int) wt yp np)) (han : an + 1 ≤ 60) : CtrV k L0 mX11_back 2 0 0 [.ref (cBase k)] σ (fun v σ' => v = .int (iZ (an : Int)) ∧ σ' = sUp (sUp σ (cBase k + 9) (oGame k 1 kd n e (an : Int) (-1) yp np)) (cBase k) (oX k (tb + 1))) := by
  refine Ctr.of (by decide +kernel) rfl (Nat.le_of_ble_eq_true rfl) ?_
  intro κ hl0 S
  subst hl0
  refine r_aload_n S dX11_back_0 rfl ?_
  refine r_getf S g_RX11_47_10 dX11_back_1 (by repeat (first | assumption | exact sUp_same | exact sNew_same | refine sUp_ne (by first | assumption | omega) ?_)) rfl ?_
  refine r_getf S g_RX11_105_3 dX11_back_4 (by repeat (first | assumption | exact sUp_same | exact sNew_same | refine sUp_ne (by first | assumption | omega) ?_)) rfl ?_
  refine r_if_eq S dX11_back_7 (tgt := 20) (by decide) ⟨by omega, by omega⟩ (fun h_7 => ?_) (fun h_7 => ?_)
  · omega
  · refine r_aload_n S dX11_back_10 rfl ?_
    refine r_getf S g_RX11_47_10 dX11_back_11 (by repeat (first | assumption | exact sUp_same | exact sNew_same | refine sUp_ne (by first | assumption | omega) ?_)) rfl ?_
    refine r_getf S g_RX11_126_3 dX11_back_14 (by repeat (first | assumption | exact sUp_same | exact sNew_same | refine sUp_ne (by first | assumption | omega) ?_)) rfl ?_
    refine r_if_ne S dX11_back_17 (tgt := 23) (by decide) ⟨by omega, by omega⟩ (fun h_17 => ?_) (fun h_17 => ?_)
    · refine r_aload_n S dX11_back_23 rfl ?_
      refine r_getf S g_RX11_47_10 dX11_back_24 (by repeat (first | assumption | exact sUp_same | exact sNew_same | refine sUp_ne (by first | assumption | omega) ?_)) rfl ?_
      refine r_callV S (c_forgetLatest hG ⟨by omega, han⟩) k_mX3_forgetLatest c_RX11_129_3 dX11_back_27 (by decide) ⟨by omega, by omega⟩ (by repeat (first | assumption | exact sUp_same | exact sNew_same | refine sUp_ne (by first | assumption | omega) ?_)) rfl rfl (Nat.le_of_ble_eq_true rfl) (fun r σ' hp => ?_)
      obtain ⟨rfl, rfl⟩ := hp
      try simp only [Option.toList_some, Option.toList_none, List.cons_append, List.nil_append]
      rw [show ((an + 1 : Nat) : Int) - 1 = (an : Int) by omega]
      refine r_aload_n S dX11_back_30 rfl ?_
      refine r_dup S dX11_back_31 rfl ?_
      refine r_getf S g_RX11_58_10 dX11_back_32 (by repeat (first | assumption | exact sUp_same | exact sNew_same | refine sUp_ne (by first | assumption | omega) ?_)) rfl ?_
      refine r_iconst S dX11_back_35 ?_
      refine r_iadd S dX11_back_36 ?_
      refine r_putf S p_RX11_58_10 dX11_back_37 (by first | rfl | decide) (by first | rfl | decide) (by repeat (first | assumption | exact sUp_same | exact sNew_same | refine sUp_ne (by first | assumption | omega) ?_)) (Nat.le_of_ble_eq_true rfl) (fs' := [_, _, _, _, _, _, _, _]) rfl ?_
      try simp only [sUp_sUp]
      refine r_aload_n S dX11_back_40 rfl ?_
      refine r_getf S g_RX11_47_10 dX11_back_41 (by repeat (first | assumption | exact sUp_same | exact sNew_same | refine sUp_ne (by first | assumption | omega) ?_)) rfl ?_
      refine r_getf S g_RX11_126_3 dX11_back_44 (by repeat (first | assumption | exact sUp_same | exact sNew_same | refine sUp_ne (by first | assumption | omega) ?_)) rfl ?_
      exact r_iret S dX11_back_47 (by omega) (by omega) (⟨_, rfl, rfl, rfl⟩)
    · omega

set_option maxRecDepth 100000 in
set_option maxHeartbeats 4000000 in
theorem c_leftX0 {k : Cx} {L0 : Launch} {σ : St} {tb : Int} (hX : σ.2 (cBase k) = some (oX k tb)) {wt yp np : Int} {on kd n e an : Nat} (hG : σ.2 (cBase k + 9) = some (oGame k on kd n e an wt yp np)) {z : Int} (hz : zR z) (hon : on < 2) (hb : ¬ (0 ≤ z ∧ z < 16)) : CtrV k L0 mX11_left 3 0 0 [.ref (cBase k), .int (iZ z)] σ (fun v σ' => v = .int (iZ (-2)) ∧ σ' = σ) := by
  refine Ctr.of (by decide +kernel) rfl (Nat.le_of_ble_eq_true rfl) ?_
  intro κ hl0 S
  subst hl0
  refine r_iload_n S dX11_left_0 rfl ?_
  refine r_callS S (c_isNumber hz) k_mX11_isNumber c_RX11_132 dX11_left_1 (by decide) ⟨by omega, by omega⟩ rfl rfl (Nat.le_of_ble_eq_true rfl) (fun r σ' hp => ?_)
  obtain ⟨_, rfl, rfl, rfl⟩ := hp
  try simp only [Option.toList_some, Option.toList_none, List.cons_append, List.nil_append]
  refine r_if_ne S dX11_left_4 (tgt := 10) (by decide) (b01_R _) (fun h_4 => ?_) (fun h_4 => ?_)
  · simp only [b01_z, Decidable.not_not] at h_4
    omega
  · simp only [b01_z, Decidable.not_not] at h_4
    refine r_bipush S dX11_left_7 (by decide) ?_
    exact r_iret S dX11_left_9 (by omega) (by omega) (⟨_, rfl, rfl, rfl⟩)

set_option maxRecDepth 100000 in
set_option maxHeartbeats 4000000 in
theorem c_leftX1 {k : Cx} {L0 : Launch} {σ : St} {tb : Int} (hX : σ.2 (cBase k) = some (oX k tb)) {wt yp np : Int} {kd n e an : Nat} (hG : σ.2 (cBase k + 9) = some (oGame k 0 kd n e an wt yp np)) {z : Int} (hz : zR z) (hb : 0 ≤ z ∧ z < 16) : CtrV k L0 mX11_left 3 0 0 [.ref (cBase k), .int (iZ z)] σ (fun v σ' => v = .int (iZ (-3)) ∧ σ' = σ) := by
  refine Ctr.of (by decide +kernel) rfl (Nat.le_of_ble_eq_true rfl) ?_
  intro κ hl0 S
  subst hl0
  refine r_iload_n S dX11_left_0 rfl ?_
  refine r_callS S (c_isNumber hz) k_mX11_isNumber c_RX11_132 dX11_left_1 (by decide) ⟨by omega, by omega⟩ rfl rfl (Nat.le_of_ble_eq_true rfl) (fun r σ' hp => ?_)
  obtain ⟨_, rfl, rfl, rfl⟩ := hp
  try simp only [Option.toList_some, Option.toList_none, List.cons_append, List.nil_append]
  refine r_if_ne S dX11_left_4 (tgt := 10) (by decide) (b01_R _) (fun h_4 => ?_) (fun h_4 => ?_)
  · simp only [b01_z, Decidable.not_not] at h_4
    refine r_aload_n S dX11_left_10 rfl ?_
    refine r_getf S g_RX11_47_10 dX11_left_11 (by repeat (first | assumption | exact sUp_same | exact sNew_same | refine sUp_ne (by first | assumption | omega) ?_)) rfl ?_
    refine r_getf S g_RX11_105_3 dX11_left_14 (by repeat (first | assumption | exact sUp_same | exact sNew_same | refine sUp_ne (by first | assumption | omega) ?_)) rfl ?_
    refine r_if_ne S dX11_left_17 (tgt := 23) (by decide) ⟨by omega, by omega⟩ (fun h_17 => ?_) (fun h_17 => ?_)
    · omega
    · refine r_bipush S dX11_left_20 (by decide) ?_
      exact r_iret S dX11_left_22 (by omega) (by omega) (⟨_, rfl, rfl, rfl⟩)
  · simp only [b01_z, Decidable.not_not] at h_4
    omega

set_option maxRecDepth 100000 in
set_option maxHeartbeats 4000000 in
theorem c_leftX2 {k : Cx} {L0 : Launch} {σ : St} {tb : Int} (hX : σ.2 (cBase k) = some (oX k tb)) {wt yp np : Int} {kd n e an : Nat} (hG : σ.2 (cBase k + 9) = some (oGame k 1 kd n e an wt yp np)) {z : Int} (hz : zR z) (hn : n ≤ 16) (hb : 0 ≤ z ∧ z < 16) (hb2 : (n : Int) ≤ z) : CtrV k L0 mX11_left 3 0 0 [.ref (cBase k), .int (iZ z)] σ (fun v σ' => v = .int (iZ (-2)) ∧ σ' = σ) := by
  refine Ctr.of (by decide +kernel) rfl (Nat.le_of_ble_eq_true rfl) ?_
  intro κ hl0 S
  subst hl0
  refine r_iload_n S dX11_left_0 rfl ?_
  refine r_callS S (c_isNumber hz) k_mX11_isNumber c_RX11_132 dX11_left_1 (by decide) ⟨by omega, by omega⟩ rfl rfl (Nat.le_of_ble_eq_true rfl) (fun r σ' hp => ?_)
  obtain ⟨_, rfl, rfl, rfl⟩ := hp
  try simp only [Option.toList_some, Option.toList_none, List.cons_append, List.nil_append]
  refine r_if_ne S dX11_left_4 (tgt := 10) (by decide) (b01_R _) (fun h_4 => ?_) (fun h_4 => ?_)
  · simp only [b01_z, Decidable.not_not] at h_4
    refine r_aload_n S dX11_left_10 rfl ?_
    refine r_getf S g_RX11_47_10 dX11_left_11 (by repeat (first | assumption | exact sUp_same | exact sNew_same | refine sUp_ne (by first | assumption | omega) ?_)) rfl ?_
    refine r_getf S g_RX11_105_3 dX11_left_14 (by repeat (first | assumption | exact sUp_same | exact sNew_same | refine sUp_ne (by first | assumption | omega) ?_)) rfl ?_
    refine r_if_ne S dX11_left_17 (tgt := 23) (by decide) ⟨by omega, by omega⟩ (fun h_17 => ?_) (fun h_17 => ?_)
    · refine r_iload_n S dX11_left_23 rfl ?_
      refine r_aload_n S dX11_left_24 rfl ?_
      refine r_getf S g_RX11_47_10 dX11_left_25 (by repeat (first | assumption | exact sUp_same | exact sNew_same | refine sUp_ne (by first | assumption | omega) ?_)) rfl ?_
      refine r_getf S g_RX11_135_3 dX11_left_28 (by repeat (first | assumption | exact sUp_same | exact sNew_same | refine sUp_ne (by first | assumption | omega) ?_)) rfl ?_
      refine r_icmp_ge S dX11_left_31 (tgt := 45) (by decide) ⟨by omega, by omega⟩ ⟨by omega, by omega⟩ (fun h_31 => ?_) (fun h_31 => ?_)
      · refine r_bipush S dX11_left_45 (by decide) ?_
        exact r_iret S dX11_left_47 (by omega) (by omega) (⟨_, rfl, rfl, rfl⟩)
      · omega
    · omega
  · simp only [b01_z, Decidable.not_not] at h_4
    omega

set_option maxRecDepth 100000 in
set_option maxHeartbeats 4000000 in
theorem c_leftX {k : Cx} {L0 : Launch} {σ : St} {tb : Int} (hX : σ.2 (cBase k) = some (oX k tb)) {wt yp np : Int} {kd n e an : Nat} (hG : σ.2 (cBase k + 9) = some (oGame k 1 kd n e an wt yp np)) {f : Nat → Int} (hL : σ.2 (cBase k + 10) = some (eI k 992 f)) (hf : ∀ j, -1 ≤ f j ∧ f j ≤ 3) (han : an ≤ 60) (hn : n ≤ 16) {i : Nat} (hi : i < n) : CtrV k L0 mX11_left 3 0 0 [.ref (cBase k), .int (iZ (i : Int))] σ (fun v σ' => v = .int (iZ (f (an * 16 + i))) ∧ σ' = σ) := by
  refine Ctr.of (by decide +kernel) rfl (Nat.le_of_ble_eq_true rfl) ?_
  intro κ hl0 S
  subst hl0
  refine r_iload_n S dX11_left_0 rfl ?_
  refine r_callS S (c_isNumber ⟨by omega, by omega⟩) k_mX11_isNumber c_RX11_132 dX11_left_1 (by decide) ⟨by omega, by omega⟩ rfl rfl (Nat.le_of_ble_eq_true rfl) (fun r σ' hp => ?_)
  obtain ⟨_, rfl, rfl, rfl⟩ := hp
  try simp only [Option.toList_some, Option.toList_none, List.cons_append, List.nil_append]
  refine r_if_ne S dX11_left_4 (tgt := 10) (by decide) (b01_R _) (fun h_4 => ?_) (fun h_4 => ?_)
  · simp only [b01_z, Decidable.not_not] at h_4
    refine r_aload_n S dX11_left_10 rfl ?_
    refine r_getf S g_RX11_47_10 dX11_left_11 (by repeat (first | assumption | exact sUp_same | exact sNew_same | refine sUp_ne (by first | assumption | omega) ?_)) rfl ?_
    refine r_getf S g_RX11_105_3 dX11_left_14 (by repeat (first | assumption | exact sUp_same | exact sNew_same | refine sUp_ne (by first | assumption | omega) ?_)) rfl ?_
    refine r_if_ne S dX11_left_17 (tgt := 23) (by decide) ⟨by omega, by omega⟩ (fun h_17 => ?_) (fun h_17 => ?_)
    · refine r_iload_n S dX11_left_23 rfl ?_
      refine r_aload_n S dX11_left_24 rfl ?_
      refine r_getf S g_RX11_47_10 dX11_left_25 (by repeat (first | assumption | exact sUp_same | exact sNew_same | refine sUp_ne (by first | assumption | omega) ?_)) rfl ?_
      refine r_getf S g_RX11_135_3 dX11_left_28 (by repeat (first | assumption | exact sUp_same | exact sNew_same | refine sUp_ne (by first | assumption | omega) ?_)) rfl ?_
      refine r_icmp_ge S dX11_left_31 (tgt := 45) (by decide) ⟨by omega, by omega⟩ ⟨by omega, by omega⟩ (fun h_31 => ?_) (fun h_31 => ?_)
      · omega
      · refine r_aload_n S dX11_left_34 rfl ?_
        refine r_getf S g_RX11_47_10 dX11_left_35 (by repeat (first | assumption | exact sUp_same | exact sNew_same | refine sUp_ne (by first | assumption | omega) ?_)) rfl ?_
        refine r_iload_n S dX11_left_38 rfl ?_
        refine r_callV S (c_leftOf hG hL han hn hi) k_mX3_leftOf c_RX11_138_3 dX11_left_39 (by decide) ⟨by omega, by omega⟩ (by repeat (first | assumption | exact sUp_same | exact sNew_same | refine sUp_ne (by first | assumption | omega) ?_)) rfl rfl (Nat.le_of_ble_eq_true rfl) (fun r σ' hp => ?_)
        obtain ⟨_, rfl, rfl, rfl⟩ := hp
        try simp only [Option.toList_some, Option.toList_none, List.cons_append, List.nil_append]
        refine r_goto S dX11_left_42 (tgt := 47) (by decide) ?_
        exact r_iret S dX11_left_47 (by omega) (by omega) (⟨_, rfl, rfl, rfl⟩)
    · omega
  · simp only [b01_z, Decidable.not_not] at h_4
    omega

set_option maxRecDepth 100000 in
set_option maxHeartbeats 4000000 in
theorem c_stateX0 {k : Cx} {L0 : Launch} {σ : St} {tb : Int} (hX : σ.2 (cBase k) = some (oX k tb)) {wt yp np : Int} {on kd n e an : Nat} (hG : σ.2 (cBase k + 9) = some (oGame k on kd n e an wt yp np)) {z : Int} (hz : zR z) (hon : on < 2) (hb : ¬ (0 ≤ z ∧ z ≤ 3)) : CtrV k L0 mX11_state 4 0 0 [.ref (cBase k), .int (iZ z)] σ (fun v σ' => v = .int (iZ (-1)) ∧ σ' = σ) := by
  refine Ctr.of (by decide +kernel) rfl (Nat.le_of_ble_eq_true rfl) ?_
  intro κ hl0 S
  subst hl0
  refine r_iload_n S dX11_state_0 rfl ?_
  refine r_callS S (c_isLies hz) k_mX11_isLies c_RX11_69 dX11_state_1 (by decide) ⟨by omega, by omega⟩ rfl rfl (Nat.le_of_ble_eq_true rfl) (fun r σ' hp => ?_)
  obtain ⟨_, rfl, rfl, rfl⟩ := hp
  try simp only [Option.toList_some, Option.toList_none, List.cons_append, List.nil_append]
  refine r_if_ne S dX11_state_4 (tgt := 9) (by decide) (b01_R _) (fun h_4 => ?_) (fun h_4 => ?_)
  · simp only [b01_z, Decidable.not_not] at h_4
    omega
  · simp only [b01_z, Decidable.not_not] at h_4
    refine r_iconst S dX11_state_7 ?_
    exact r_iret S dX11_state_8 (by omega) (by omega) (⟨_, rfl, rfl, rfl⟩)

set_option maxRecDepth 100000 in
set_option maxHeartbeats 4000000 in
theorem c_stateX1 {k : Cx} {L0 : Launch} {σ : St} {tb : Int} (hX : σ.2 (cBase k) = some (oX k tb)) {wt yp np : Int} {kd n e an : Nat} (hG : σ.2 (cBase k + 9) = some (oGame k 0 kd n e an wt yp np)) {z : Int} (hz : zR z) (hb : 0 ≤ z ∧ z ≤ 3) : CtrV k L0 mX11_state 4 0 0 [.ref (cBase k), .int (iZ z)] σ (fun v σ' => v = .int (iZ (-2)) ∧ σ' = σ) := by
  refine Ctr.of (by decide +kernel) rfl (Nat.le_of_ble_eq_true rfl) ?_
  intro κ hl0 S
  subst hl0
  refine r_iload_n S dX11_state_0 rfl ?_
  refine r_callS S (c_isLies hz) k_mX11_isLies c_RX11_69 dX11_state_1 (by decide) ⟨by omega, by omega⟩ rfl rfl (Nat.le_of_ble_eq_true rfl) (fun r σ' hp => ?_)
  obtain ⟨_, rfl, rfl, rfl⟩ := hp
  try simp only [Option.toList_some, Option.toList_none, List.cons_append, List.nil_append]
  refine r_if_ne S dX11_state_4 (tgt := 9) (by decide) (b01_R _) (fun h_4 => ?_) (fun h_4 => ?_)
  · simp only [b01_z, Decidable.not_not] at h_4
    refine r_aload_n S dX11_state_9 rfl ?_
    refine r_getf S g_RX11_47_10 dX11_state_10 (by repeat (first | assumption | exact sUp_same | exact sNew_same | refine sUp_ne (by first | assumption | omega) ?_)) rfl ?_
    refine r_getf S g_RX11_105_3 dX11_state_13 (by repeat (first | assumption | exact sUp_same | exact sNew_same | refine sUp_ne (by first | assumption | omega) ?_)) rfl ?_
    refine r_if_eq S dX11_state_16 (tgt := 30) (by decide) ⟨by omega, by omega⟩ (fun h_16 => ?_) (fun h_16 => ?_)
    · refine r_bipush S dX11_state_30 (by decide) ?_
      exact r_iret S dX11_state_32 (by omega) (by omega) (⟨_, rfl, rfl, rfl⟩)
    · omega
  · simp only [b01_z, Decidable.not_not] at h_4
    omega

set_option maxRecDepth 100000 in
set_option maxHeartbeats 4000000 in
theorem c_stateX {k : Cx} {L0 : Launch} {σ : St} {tb : Int} (hX : σ.2 (cBase k) = some (oX k tb)) {wt yp np : Int} {kd n e an : Nat} (hG : σ.2 (cBase k + 9) = some (oGame k 1 kd n e an wt yp np)) {f : Nat → Int} (hL : σ.2 (cBase k + 10) = some (eI k 992 f)) (hf : ∀ j, -1 ≤ f j ∧ f j ≤ 3) (han : an ≤ 60) (hn : n ≤ 16) {z : Int} (hz : zR z) (hb : 0 ≤ z ∧ z ≤ 3) : CtrV k L0 mX11_state 4 0 0 [.ref (cBase k), .int (iZ z)] σ (fun v σ' => v = .int (iZ ((cnt (fun j => f (an * 16 + j) == z) n : Int))) ∧ σ' = σ) := by
  refine Ctr.of (by decide +kernel) rfl (Nat.le_of_ble_eq_true rfl) ?_
  intro κ hl0 S
  subst hl0
  refine r_iload_n S dX11_state_0 rfl ?_
  refine r_callS S (c_isLies hz) k_mX11_isLies c_RX11_69 dX11_state_1 (by decide) ⟨by omega, by omega⟩ rfl rfl (Nat.le_of_ble_eq_true rfl) (fun r σ' hp => ?_)
  obtain ⟨_, rfl, rfl, rfl⟩ := hp
  try simp only [Option.toList_some, Option.toList_none, List.cons_append, List.nil_append]
  refine r_if_ne S dX11_state_4 (tgt := 9) (by decide) (b01_R _) (fun h_4 => ?_) (fun h_4 => ?_)
  · simp only [b01_z, Decidable.not_not] at h_4
    refine r_aload_n S dX11_state_9 rfl ?_
    refine r_getf S g_RX11_47_10 dX11_state_10 (by repeat (first | assumption | exact sUp_same | exact sNew_same | refine sUp_ne (by first | assumption | omega) ?_)) rfl ?_
    refine r_getf S g_RX11_105_3 dX11_state_13 (by repeat (first | assumption | exact sUp_same | exact sNew_same | refine sUp_ne (by first | assumption | omega) ?_)) rfl ?_
    refine r_if_eq S dX11_state_16 (tgt := 30) (by decide) ⟨by omega, by omega⟩ (fun h_16 => ?_) (fun h_16 => ?_)
    · omega
    · refine r_aload_n S dX11_state_19 rfl ?_
      refine r_getf S g_RX11_47_10 dX11_state_20 (by repeat (first | assumption | exact sUp_same | exact sNew_same | refine sUp_ne (by first | assumption | omega) ?_)) rfl ?_
      refine r_iload_n S dX11_state_23 rfl ?_
      refine r_callV S (c_countOf hG hL han hn (fun j => ⟨by have := hf j; omega, by have := hf j; omega⟩) hz) k_mX3_countOf c_RX11_141_3 dX11_state_24 (by decide) ⟨by omega, by omega⟩ (by repeat (first | assumption | exact sUp_same | exact sNew_same | refine sUp_ne (by first | assumption | omega) ?_)) rfl rfl (Nat.le_of_ble_eq_true rfl) (fun r σ' hp => ?_)
      obtain ⟨_, rfl, rfl, rfl⟩ := hp
      try simp only [Option.toList_some, Option.toList_none, List.cons_append, List.nil_append]
      refine r_goto S dX11_state_27 (tgt := 32) (by decide) ?_
      exact r_iret S dX11_state_32 (by omega) (by omega) (⟨_, rfl, rfl, rfl⟩)
  · simp only [b01_z, Decidable.not_not] at h_4
    omega

set_option maxRecDepth 100000 in
set_option maxHeartbeats 4000000 in
theorem c_foundX0 {k : Cx} {L0 : Launch} {σ : St} {tb : Int} (hX : σ.2 (cBase k) = some (oX k tb)) {wt yp np : Int} {kd n e an : Nat} (hG : σ.2 (cBase k + 9) = some (oGame k 0 kd n e an wt yp np)) : CtrV k L0 mX11_found 3 0 0 [.ref (cBase k)] σ (fun v σ' => v = .int (iZ (-2)) ∧ σ' = σ) := by
  refine Ctr.of (by decide +kernel) rfl (Nat.le_of_ble_eq_true rfl) ?_
  intro κ hl0 S
  subst hl0
  refine r_aload_n S dX11_found_0 rfl ?_
  refine r_getf S g_RX11_47_10 dX11_found_1 (by repeat (first | assumption | exact sUp_same | exact sNew_same | refine sUp_ne (by first | assumption | omega) ?_)) rfl ?_
  refine r_getf S g_RX11_105_3 dX11_found_4 (by repeat (first | assumption | exact sUp_same | exact sNew_same | refine sUp_ne (by first | assumption | omega) ?_)) rfl ?_
  refine r_if_ne S dX11_found_7 (tgt := 13) (by decide) ⟨by omega, by omega⟩ (fun h_7 => ?_) (fun h_7 => ?_)
  · omega
  · refine r_bipush S dX11_found_10 (by decide) ?_
    exact r_iret S dX11_found_12 (by omega) (by omega) (⟨_, rfl, rfl, rfl⟩)

theorem fdL_rng (p : Nat → Bool) : ∀ n, -9 ≤ fdL p n ∧ fdL p n ≤ n
  | 0 => by show -9 ≤ (-9 : Int) ∧ (-9 : Int) ≤ 0; omega
  | n + 1 => by
    have := fdL_rng p n
    rw [fdL]
    split <;> omega
theorem fdL_t {p : Nat → Bool} {i : Nat} (h : p i = true) : fdL p (i + 1) = (i : Int) := by rw [fdL, if_pos h]
theorem fdL_f {p : Nat → Bool} {i : Nat} (h : p i = false) : fdL p (i + 1) = fdL p i := by rw [fdL, h]; rfl

set_option maxRecDepth 100000 in
set_option maxHeartbeats 4000000 in
theorem l_foundX {κ : Kx} {k : Cx} {σ : St} {tb : Int} (hX : σ.2 (cBase k) = some (oX k tb)) {wt yp np : Int} {kd n e an : Nat} (hG : σ.2 (cBase k + 9) = some (oGame k 1 kd n e an wt yp np)) {f : Nat → Int} (hL : σ.2 (cBase k + 10) = some (eI k 992 f)) (hf : ∀ j, -1 ≤ f j ∧ f j ≤ 3) (han : an ≤ 60) (hn : n ≤ 16) (S : Ok κ k cX11_found 4 RX11 (some .int) "found" 3 0 0) : ∀ (m i : Nat), i + m = n → V κ k 4 0 0 (QR κ k (fun r9 σ' => ∃ v, r9 = some v ∧ (v = .int (iZ (if cnt (fun j => decide (0 ≤ f (an * 16 + j))) n = 1 then fdL (fun j => decide (0 ≤ f (an * 16 + j))) n else -9)) ∧ σ' = σ)) 0 0) 20 [some (.ref (cBase k)), some (.int (iZ (fdL (fun j => decide (0 ≤ f (an * 16 + j))) i))), some (.int (iZ (cnt (fun j => decide (0 ≤ f (an * 16 + j))) i : Int))), some (.int (iZ (i : Int)))] [] σ := by
  intro m
  induction m with
  | zero =>
    intro i hi
    have hin : i = n := by omega
    subst hin
    have hcl := cnt_le (fun j => decide (0 ≤ f (an * 16 + j))) i
    have hfr := fdL_rng (fun j => decide (0 ≤ f (an * 16 + j))) i
    refine r_iload_n S dX11_found_20 rfl ?_
    refine r_aload_n S dX11_found_21 rfl ?_
    refine r_getf S g_RX11_47_10 dX11_found_22 (by repeat (first | assumption | exact sUp_same | exact sNew_same | refine sUp_ne (by first | assumption | omega) ?_)) rfl ?_
    refine r_getf S g_RX11_135_3 dX11_found_25 (by repeat (first | assumption | exact sUp_same | exact sNew_same | refine sUp_ne (by first | assumption | omega) ?_)) rfl ?_
    refine r_icmp_ge S dX11_found_28 (tgt := 54) (by decide) ⟨by omega, by omega⟩ ⟨by omega, by omega⟩ (fun h_28 => ?_) (fun h_28 => ?_)
    · refine r_iload_n S dX11_found_54 rfl ?_
      refine r_iconst S dX11_found_55 ?_
      refine r_icmp_ne S dX11_found_56 (tgt := 63) (by decide) ⟨by omega, by omega⟩ ⟨by omega, by omega⟩ (fun h_56 => ?_) (fun h_56 => ?_)
      · refine r_bipush S dX11_found_63 (by decide) ?_
        exact r_iret S dX11_found_65 (by omega) (by omega) (⟨_, rfl, by rw [if_neg (by omega)], rfl⟩)
      · refine r_iload_n S dX11_found_59 rfl ?_
        refine r_goto S dX11_found_60 (tgt := 65) (by decide) ?_
        exact r_iret S dX11_found_65 (by omega) (by omega) (⟨_, rfl, by rw [if_pos (by omega)], rfl⟩)
    · omega
  | succ m ih =>
    intro i hi
    have hcl := cnt_le (fun j => decide (0 ≤ f (an * 16 + j))) i
    have hfi := hf (an * 16 + i)
    refine r_iload_n S dX11_found_20 rfl ?_
    refine r_aload_n S dX11_found_21 rfl ?_
    refine r_getf S g_RX11_47_10 dX11_found_22 (by repeat (first | assumption | exact sUp_same | exact sNew_same | refine sUp_ne (by first | assumption | omega) ?_)) rfl ?_
    refine r_getf S g_RX11_135_3 dX11_found_25 (by repeat (first | assumption | exact sUp_same | exact sNew_same | refine sUp_ne (by first | assumption | omega) ?_)) rfl ?_
    refine r_icmp_ge S dX11_found_28 (tgt := 54) (by decide) ⟨by omega, by omega⟩ ⟨by omega, by omega⟩ (fun h_28 => ?_) (fun h_28 => ?_)
    · omega
    · refine r_aload_n S dX11_found_31 rfl ?_
      refine r_getf S g_RX11_47_10 dX11_found_32 (by repeat (first | assumption | exact sUp_same | exact sNew_same | refine sUp_ne (by first | assumption | omega) ?_)) rfl ?_
      refine r_iload_n S dX11_found_35 rfl ?_
      refine r_callV S (c_leftOf hG hL han hn (by omega)) k_mX3_leftOf c_RX11_138_3 dX11_found_36 (by decide) ⟨by omega, by omega⟩ (by repeat (first | assumption | exact sUp_same | exact sNew_same | refine sUp_ne (by first | assumption | omega) ?_)) rfl rfl (Nat.le_of_ble_eq_true rfl) (fun r σ' hp => ?_)
      obtain ⟨_, rfl, rfl, rfl⟩ := hp
      try simp only [Option.toList_some, Option.toList_none, List.cons_append, List.nil_append]
      refine r_iconst S dX11_found_39 ?_
      refine r_icmp_eq S dX11_found_40 (tgt := 48) (by decide) ⟨by omega, by omega⟩ ⟨by omega, by omega⟩ (fun h_40 => ?_) (fun h_40 => ?_)
      · refine r_iinc S dX11_found_48 rfl rfl (by decide) (lv' := [_, _, _, _]) rfl ?_
        refine r_goto S dX11_found_51 (tgt := 20) (by decide) ?_
        have h9 := ih (i + 1) (by omega)
        rw [cnt_f (p := (fun j => decide (0 ≤ f (an * 16 + j)))) (decide_eq_false (by omega)), fdL_f (p := (fun j => decide (0 ≤ f (an * 16 + j)))) (decide_eq_false (by omega))] at h9
        exact h9
      · refine r_iload_n S dX11_found_43 rfl ?_
        refine r_istore_n S dX11_found_44 rfl (by decide) (lv' := [_, _, _, _]) rfl ?_
        refine r_iinc S dX11_found_45 rfl rfl (by decide) (lv' := [_, _, _, _]) rfl ?_
        refine r_iinc S dX11_found_48 rfl rfl (by decide) (lv' := [_, _, _, _]) rfl ?_
        refine r_goto S dX11_found_51 (tgt := 20) (by decide) ?_
        have h9 := ih (i + 1) (by omega)
        rw [cnt_t (p := (fun j => decide (0 ≤ f (an * 16 + j)))) (decide_eq_true (by omega)), fdL_t (p := (fun j => decide (0 ≤ f (an * 16 + j)))) (decide_eq_true (by omega))] at h9
        exact h9

set_option maxRecDepth 100000 in
set_option maxHeartbeats 4000000 in
theorem c_foundX {k : Cx} {L0 : Launch} {σ : St} {tb : Int} (hX : σ.2 (cBase k) = some (oX k tb)) {wt yp np : Int} {kd n e an : Nat} (hG : σ.2 (cBase k + 9) = some (oGame k 1 kd n e an wt yp np)) {f : Nat → Int} (hL : σ.2 (cBase k + 10) = some (eI k 992 f)) (hf : ∀ j, -1 ≤ f j ∧ f j ≤ 3) (han : an ≤ 60) (hn : n ≤ 16) : CtrV k L0 mX11_found 3 0 0 [.ref (cBase k)] σ (fun v σ' => v = .int (iZ (if cnt (fun j => decide (0 ≤ f (an * 16 + j))) n = 1 then fdL (fun j => decide (0 ≤ f (an * 16 + j))) n else -9)) ∧ σ' = σ) := by
  refine Ctr.of (by decide +kernel) rfl (Nat.le_of_ble_eq_true rfl) ?_
  intro κ hl0 S
  subst hl0
  refine r_aload_n S dX11_found_0 rfl ?_
  refine r_getf S g_RX11_47_10 dX11_found_1 (by repeat (first | assumption | exact sUp_same | exact sNew_same | refine sUp_ne (by first | assumption | omega) ?_)) rfl ?_
  refine r_getf S g_RX11_105_3 dX11_found_4 (by repeat (first | assumption | exact sUp_same | exact sNew_same | refine sUp_ne (by first | assumption | omega) ?_)) rfl ?_
  refine r_if_ne S dX11_found_7 (tgt := 13) (by decide) ⟨by omega, by omega⟩ (fun h_7 => ?_) (fun h_7 => ?_)
  · refine r_bipush S dX11_found_13 (by decide) ?_
    refine r_istore_n S dX11_found_15 rfl (by decide) (lv' := [_, _, _, _]) rfl ?_
    refine r_iconst S dX11_found_16 ?_
    refine r_istore_n S dX11_found_17 rfl (by decide) (lv' := [_, _, _, _]) rfl ?_
    refine r_iconst S dX11_found_18 ?_
    refine r_istore_n S dX11_found_19 rfl (by decide) (lv' := [_, _, _, _]) rfl ?_
    exact l_foundX hX hG hL hf han hn S n 0 (by omega)
  · omega

set_option maxRecDepth 100000 in
set_option maxHeartbeats 4000000 in
theorem c_fewestX0 {k : Cx} {L0 : Launch} {σ : St} {tb : Int} (hX : σ.2 (cBase k) = some (oX k tb)) {wt yp np : Int} {kd n e an : Nat} (hG : σ.2 (cBase k + 9) = some (oGame k 0 kd n e an wt yp np)) : CtrV k L0 mX11_fewest 7 10 4967 [.ref (cBase k)] σ (fun v σ' => v = .int (iZ (-2)) ∧ σ' = σ) := by
  refine Ctr.of (by decide +kernel) rfl (Nat.le_of_ble_eq_true rfl) ?_
  intro κ hl0 S
  subst hl0
  refine r_aload_n S dX11_fewest_0 rfl ?_
  refine r_getf S g_RX11_47_10 dX11_fewest_1 (by repeat (first | assumption | exact sUp_same | exact sNew_same | refine sUp_ne (by first | assumption | omega) ?_)) rfl ?_
  refine r_getf S g_RX11_105_3 dX11_fewest_4 (by repeat (first | assumption | exact sUp_same | exact sNew_same | refine sUp_ne (by first | assumption | omega) ?_)) rfl ?_
  refine r_if_eq S dX11_fewest_7 (tgt := 20) (by decide) ⟨by omega, by omega⟩ (fun h_7 => ?_) (fun h_7 => ?_)
  · refine r_bipush S dX11_fewest_20 (by decide) ?_
    exact r_iret S dX11_fewest_22 (by omega) (by omega) (⟨_, rfl, rfl, rfl⟩)
  · omega

set_option maxRecDepth 100000 in
set_option maxHeartbeats 4000000 in
theorem c_fewestX {k : Cx} {L0 : Launch} {σ : St} {tb : Int} (hX : σ.2 (cBase k) = some (oX k tb)) {wt yp np : Int} {kd n e an : Nat} (hG : σ.2 (cBase k + 9) = some (oGame k 1 kd n e an wt yp np)) {f : Nat → Int} (hL : σ.2 (cBase k + 10) = some (eI k 992 f)) (hf : ∀ j, -1 ≤ f j ∧ f j ≤ 3) (han : an ≤ 60) (hn : n ≤ 16) {t : Nat} {hq : Nat → Option Nat} (hH : σ.2 (cBase k + 7) = some (eQ (cQH k) 3 hq)) (hk : kd < 3) (hq0 : hq kd = some (t + 8)) {F : Nat → Int} (hF : σ.2 t = some (eI k 4845 F)) (hFr : ∀ j, 0 ≤ F j ∧ F j ≤ 13) (hT : σ.2 (t + 8) = some (oHT t)) : CtrV k L0 mX11_fewest 7 10 4967 [.ref (cBase k)] σ (fun v σ' => v = .int (iZ (if F (plQ (hQ f (an * 16) n)) ≤ 12 then F (plQ (hQ f (an * 16) n)) else -9)) ∧ σ' = σ) := by
  refine Ctr.of (by decide +kernel) rfl (Nat.le_of_ble_eq_true rfl) ?_
  intro κ hl0 S
  subst hl0
  have hfr := hFr (plQ (hQ f (an * 16) n))
  refine r_aload_n S dX11_fewest_0 rfl ?_
  refine r_getf S g_RX11_47_10 dX11_fewest_1 (by repeat (first | assumption | exact sUp_same | exact sNew_same | refine sUp_ne (by first | assumption | omega) ?_)) rfl ?_
  refine r_getf S g_RX11_105_3 dX11_fewest_4 (by repeat (first | assumption | exact sUp_same | exact sNew_same | refine sUp_ne (by first | assumption | omega) ?_)) rfl ?_
  refine r_if_eq S dX11_fewest_7 (tgt := 20) (by decide) ⟨by omega, by omega⟩ (fun h_7 => ?_) (fun h_7 => ?_)
  · omega
  · refine r_aload_n S dX11_fewest_10 rfl ?_
    refine r_callV S (c_fewestNow hX hH hk hq0 hG hL hf han hn hF hT) k_mX11_fewestNow c_RX11_91_10 dX11_fewest_11 (by decide) ⟨by omega, by omega⟩ (by repeat (first | assumption | exact sUp_same | exact sNew_same | refine sUp_ne (by first | assumption | omega) ?_)) rfl rfl (Nat.le_of_ble_eq_true rfl) (fun r σ' hp => ?_)
    obtain ⟨_, rfl, rfl, rfl⟩ := hp
    try simp only [Option.toList_some, Option.toList_none, List.cons_append, List.nil_append]
    refine r_callS S (c_toldOrNone ⟨by omega, by omega⟩) k_mX11_toldOrNone c_RX11_95 dX11_fewest_14 (by decide) ⟨by omega, by omega⟩ rfl rfl (Nat.le_of_ble_eq_true rfl) (fun r σ' hp => ?_)
    obtain ⟨_, rfl, rfl, rfl⟩ := hp
    try simp only [Option.toList_some, Option.toList_none, List.cons_append, List.nil_append]
    refine r_goto S dX11_fewest_17 (tgt := 22) (by decide) ?_
    exact r_iret S dX11_fewest_22 (by omega) (by omega) (⟨_, rfl, rfl, rfl⟩)

set_option maxRecDepth 100000 in
set_option maxHeartbeats 4000000 in
theorem c_setX0 {k : Cx} {L0 : Launch} {σ : St} {tb : Int} (hX : σ.2 (cBase k) = some (oX k tb)) {q : Nat} (hC : σ.2 (cBase k + 11) = some (oCode k q)) (hq : q ≤ 12) {z : Int} (hz : zR z) (hb : ¬ (0 ≤ z ∧ z ≤ 65535)) : CtrV k L0 mX11_set 2 0 0 [.ref (cBase k), .int (iZ z)] σ (fun v σ' => v = .int (iZ (-1)) ∧ σ' = σ) := by
  refine Ctr.of (by decide +kernel) rfl (Nat.le_of_ble_eq_true rfl) ?_
  intro κ hl0 S
  subst hl0
  refine r_iload_n S dX11_set_0 rfl ?_
  refine r_callS S (c_isHeap hz) k_mX11_isHeap c_RX11_102 dX11_set_1 (by decide) ⟨by omega, by omega⟩ rfl rfl (Nat.le_of_ble_eq_true rfl) (fun r σ' hp => ?_)
  obtain ⟨_, rfl, rfl, rfl⟩ := hp
  try simp only [Option.toList_some, Option.toList_none, List.cons_append, List.nil_append]
  refine r_if_ne S dX11_set_4 (tgt := 9) (by decide) (b01_R _) (fun h_4 => ?_) (fun h_4 => ?_)
  · simp only [b01_z, Decidable.not_not] at h_4
    omega
  · simp only [b01_z, Decidable.not_not] at h_4
    refine r_iconst S dX11_set_7 ?_
    exact r_iret S dX11_set_8 (by omega) (by omega) (⟨_, rfl, rfl, rfl⟩)

set_option maxRecDepth 100000 in
set_option maxHeartbeats 4000000 in
theorem c_setXf {k : Cx} {L0 : Launch} {σ : St} {tb : Int} (hX : σ.2 (cBase k) = some (oX k tb)) {q : Nat} (hC : σ.2 (cBase k + 11) = some (oCode k q)) (hq : q ≤ 12) {z : Int} (hz : zR z) (hb : 0 ≤ z ∧ z ≤ 65535) (hq2 : q = 12) : CtrV k L0 mX11_set 2 0 0 [.ref (cBase k), .int (iZ z)] σ (fun v σ' => v = .int (iZ (-3)) ∧ σ' = σ) := by
  refine Ctr.of (by decide +kernel) rfl (Nat.le_of_ble_eq_true rfl) ?_
  intro κ hl0 S
  subst hl0
  refine r_iload_n S dX11_set_0 rfl ?_
  refine r_callS S (c_isHeap hz) k_mX11_isHeap c_RX11_102 dX11_set_1 (by decide) ⟨by omega, by omega⟩ rfl rfl (Nat.le_of_ble_eq_true rfl) (fun r σ' hp => ?_)
  obtain ⟨_, rfl, rfl, rfl⟩ := hp
  try simp only [Option.toList_some, Option.toList_none, List.cons_append, List.nil_append]
  refine r_if_ne S dX11_set_4 (tgt := 9) (by decide) (b01_R _) (fun h_4 => ?_) (fun h_4 => ?_)
  · simp only [b01_z, Decidable.not_not] at h_4
    refine r_aload_n S dX11_set_9 rfl ?_
    refine r_getf S g_RX11_54_10 dX11_set_10 (by repeat (first | assumption | exact sUp_same | exact sNew_same | refine sUp_ne (by first | assumption | omega) ?_)) rfl ?_
    refine r_iload_n S dX11_set_13 rfl ?_
    refine r_callV S (c_addF hC hq hq2) k_mX2_add c_RX11_181_2 dX11_set_14 (by decide) ⟨by omega, by omega⟩ (by repeat (first | assumption | exact sUp_same | exact sNew_same | refine sUp_ne (by first | assumption | omega) ?_)) rfl rfl (Nat.le_of_ble_eq_true rfl) (fun r σ' hp => ?_)
    obtain ⟨_, rfl, rfl, rfl⟩ := hp
    try simp only [Option.toList_some, Option.toList_none, List.cons_append, List.nil_append]
    refine r_if_eq S dX11_set_17 (tgt := 30) (by decide) ⟨by omega, by omega⟩ (fun h_17 => ?_) (fun h_17 => ?_)
    · refine r_bipush S dX11_set_30 (by decide) ?_
      exact r_iret S dX11_set_32 (by omega) (by omega) (⟨_, rfl, rfl, rfl⟩)
    · omega
  · simp only [b01_z, Decidable.not_not] at h_4
    omega

set_option maxRecDepth 100000 in
set_option maxHeartbeats 4000000 in
theorem c_setX {k : Cx} {L0 : Launch} {σ : St} {tb : Int} (hX : σ.2 (cBase k) = some (oX k tb)) {q : Nat} (hC : σ.2 (cBase k + 11) = some (oCode k q)) (hq : q ≤ 12) {w : Nat → Int} {qs : Nat → Nat} (hWd : σ.2 (cBase k + 13) = some (eI k 16 w)) (hw : ∀ i, i < 16 → w i = (wd qs q i : Int)) (hQ : σ.2 (cBase k + 12) = some (eI k 12 (fun j => (qs j : Int)))) {heap : Nat} (hh : heap < 65536) (hq2 : q < 12) : CtrV k L0 mX11_set 2 0 0 [.ref (cBase k), .int (iZ (heap : Int))] σ (fun v σ' => v = .int (iZ ((q : Int) + 1)) ∧ σ' = sUp (sUp (sUp σ (cBase k + 12) (eI k 12 (fun j => (uN qs q heap j : Int)))) (cBase k + 13) (eI k 16 (addW w heap q 16))) (cBase k + 11) (oCode k ((q : Int) + 1))) := by
  refine Ctr.of (by decide +kernel) rfl (Nat.le_of_ble_eq_true rfl) ?_
  intro κ hl0 S
  subst hl0
  refine r_iload_n S dX11_set_0 rfl ?_
  refine r_callS S (c_isHeap ⟨by omega, by omega⟩) k_mX11_isHeap c_RX11_102 dX11_set_1 (by decide) ⟨by omega, by omega⟩ rfl rfl (Nat.le_of_ble_eq_true rfl) (fun r σ' hp => ?_)
  obtain ⟨_, rfl, rfl, rfl⟩ := hp
  try simp only [Option.toList_some, Option.toList_none, List.cons_append, List.nil_append]
  refine r_if_ne S dX11_set_4 (tgt := 9) (by decide) (b01_R _) (fun h_4 => ?_) (fun h_4 => ?_)
  · simp only [b01_z, Decidable.not_not] at h_4
    refine r_aload_n S dX11_set_9 rfl ?_
    refine r_getf S g_RX11_54_10 dX11_set_10 (by repeat (first | assumption | exact sUp_same | exact sNew_same | refine sUp_ne (by first | assumption | omega) ?_)) rfl ?_
    refine r_iload_n S dX11_set_13 rfl ?_
    refine r_callV S (c_add hC hq hQ hWd hw hh hq2) k_mX2_add c_RX11_181_2 dX11_set_14 (by decide) ⟨by omega, by omega⟩ (by repeat (first | assumption | exact sUp_same | exact sNew_same | refine sUp_ne (by first | assumption | omega) ?_)) rfl rfl (Nat.le_of_ble_eq_true rfl) (fun r σ' hp => ?_)
    obtain ⟨_, rfl, rfl, rfl⟩ := hp
    try simp only [Option.toList_some, Option.toList_none, List.cons_append, List.nil_append]
    refine r_if_eq S dX11_set_17 (tgt := 30) (by decide) ⟨by omega, by omega⟩ (fun h_17 => ?_) (fun h_17 => ?_)
    · omega
    · refine r_aload_n S dX11_set_20 rfl ?_
      refine r_getf S g_RX11_54_10 dX11_set_21 (by repeat (first | assumption | exact sUp_same | exact sNew_same | refine sUp_ne (by first | assumption | omega) ?_)) rfl ?_
      refine r_getf S g_RX11_184_2 dX11_set_24 (by repeat (first | assumption | exact sUp_same | exact sNew_same | refine sUp_ne (by first | assumption | omega) ?_)) rfl ?_
      refine r_goto S dX11_set_27 (tgt := 32) (by decide) ?_
      exact r_iret S dX11_set_32 (by omega) (by omega) (⟨_, rfl, rfl, rfl⟩)
  · simp only [b01_z, Decidable.not_not] at h_4
    omega

set_option maxRecDepth 100000 in
set_option maxHeartbeats 4000000 in
theorem c_dropX0 {k : Cx} {L0 : Launch} {σ : St} {tb : Int} (hX : σ.2 (cBase k) = some (oX k tb)) {q : Nat} (hC : σ.2 (cBase k + 11) = some (oCode k q)) (hq : q ≤ 12) (hq2 : q = 0) : CtrV k L0 mX11_drop 2 0 0 [.ref (cBase k)] σ (fun v σ' => v = .int (iZ (-2)) ∧ σ' = σ) := by
  refine Ctr.of (by decide +kernel) rfl (Nat.le_of_ble_eq_true rfl) ?_
  intro κ hl0 S
  subst hl0
  refine r_aload_n S dX11_drop_0 rfl ?_
  refine r_getf S g_RX11_54_10 dX11_drop_1 (by repeat (first | assumption | exact sUp_same | exact sNew_same | refine sUp_ne (by first | assumption | omega) ?_)) rfl ?_
  refine r_callV S (c_removeF hC hq hq2) k_mX2_removeLatest c_RX11_187_2 dX11_drop_4 (by decide) ⟨by omega, by omega⟩ (by repeat (first | assumption | exact sUp_same | exact sNew_same | refine sUp_ne (by first | assumption | omega) ?_)) rfl rfl (Nat.le_of_ble_eq_true rfl) (fun r σ' hp => ?_)
  obtain ⟨_, rfl, rfl, rfl⟩ := hp
  try simp only [Option.toList_some, Option.toList_none, List.cons_append, List.nil_append]
  refine r_if_eq S dX11_drop_7 (tgt := 20) (by decide) ⟨by omega, by omega⟩ (fun h_7 => ?_) (fun h_7 => ?_)
  · refine r_bipush S dX11_drop_20 (by decide) ?_
    exact r_iret S dX11_drop_22 (by omega) (by omega) (⟨_, rfl, rfl, rfl⟩)
  · omega

set_option maxRecDepth 100000 in
set_option maxHeartbeats 4000000 in
theorem c_dropX {k : Cx} {L0 : Launch} {σ : St} {tb : Int} (hX : σ.2 (cBase k) = some (oX k tb)) {q : Nat} (hC : σ.2 (cBase k + 11) = some (oCode k q)) (hq : q ≤ 12) {w : Nat → Int} {qs : Nat → Nat} (hWd : σ.2 (cBase k + 13) = some (eI k 16 w)) (hw : ∀ i, i < 16 → w i = (wd qs q i : Int)) (hq2 : 0 < q) : CtrV k L0 mX11_drop 2 0 0 [.ref (cBase k)] σ (fun v σ' => v = .int (iZ ((q : Int) - 1)) ∧ σ' = sUp (sUp σ (cBase k + 11) (oCode k ((q : Int) - 1))) (cBase k + 13) (eI k 16 (cutW w (q - 1) 16))) := by
  refine Ctr.of (by decide +kernel) rfl (Nat.le_of_ble_eq_true rfl) ?_
  intro κ hl0 S
  subst hl0
  refine r_aload_n S dX11_drop_0 rfl ?_
  refine r_getf S g_RX11_54_10 dX11_drop_1 (by repeat (first | assumption | exact sUp_same | exact sNew_same | refine sUp_ne (by first | assumption | omega) ?_)) rfl ?_
  refine r_callV S (c_remove hC hq hWd hw hq2) k_mX2_removeLatest c_RX11_187_2 dX11_drop_4 (by decide) ⟨by omega, by omega⟩ (by repeat (first | assumption | exact sUp_same | exact sNew_same | refine sUp_ne (by first | assumption | omega) ?_)) rfl rfl (Nat.le_of_ble_eq_true rfl) (fun r σ' hp => ?_)
  obtain ⟨_, rfl, rfl, rfl⟩ := hp
  try simp only [Option.toList_some, Option.toList_none, List.cons_append, List.nil_append]
  refine r_if_eq S dX11_drop_7 (tgt := 20) (by decide) ⟨by omega, by omega⟩ (fun h_7 => ?_) (fun h_7 => ?_)
  · omega
  · refine r_aload_n S dX11_drop_10 rfl ?_
    refine r_getf S g_RX11_54_10 dX11_drop_11 (by repeat (first | assumption | exact sUp_same | exact sNew_same | refine sUp_ne (by first | assumption | omega) ?_)) rfl ?_
    refine r_getf S g_RX11_184_2 dX11_drop_14 (by repeat (first | assumption | exact sUp_same | exact sNew_same | refine sUp_ne (by first | assumption | omega) ?_)) rfl ?_
    refine r_goto S dX11_drop_17 (tgt := 22) (by decide) ?_
    exact r_iret S dX11_drop_22 (by omega) (by omega) (⟨_, rfl, rfl, rfl⟩)

set_option maxRecDepth 100000 in
set_option maxHeartbeats 4000000 in
theorem c_wordX0 {k : Cx} {L0 : Launch} {σ : St} {z : Int} (hz : zR z) (hb : ¬ (0 ≤ z ∧ z ≤ 15)) : CtrV k L0 mX11_word 2 0 0 [.ref (cBase k), .int (iZ z)] σ (fun v σ' => v = .int (iZ (-1)) ∧ σ' = σ) := by
  refine Ctr.of (by decide +kernel) rfl (Nat.le_of_ble_eq_true rfl) ?_
  intro κ hl0 S
  subst hl0
  refine r_iload_n S dX11_word_0 rfl ?_
  refine r_callS S (c_isNumber hz) k_mX11_isNumber c_RX11_132 dX11_word_1 (by decide) ⟨by omega, by omega⟩ rfl rfl (Nat.le_of_ble_eq_true rfl) (fun r σ' hp => ?_)
  obtain ⟨_, rfl, rfl, rfl⟩ := hp
  try simp only [Option.toList_some, Option.toList_none, List.cons_append, List.nil_append]
  refine r_if_eq S dX11_word_4 (tgt := 18) (by decide) (b01_R _) (fun h_4 => ?_) (fun h_4 => ?_)
  · simp only [b01_z, Decidable.not_not] at h_4
    refine r_iconst S dX11_word_18 ?_
    exact r_iret S dX11_word_19 (by omega) (by omega) (⟨_, rfl, rfl, rfl⟩)
  · simp only [b01_z, Decidable.not_not] at h_4
    omega

set_option maxRecDepth 100000 in
set_option maxHeartbeats 4000000 in
theorem c_wordX {k : Cx} {L0 : Launch} {σ : St} {tb : Int} (hX : σ.2 (cBase k) = some (oX k tb)) {q : Nat} (hC : σ.2 (cBase k + 11) = some (oCode k q)) (hq : q ≤ 12) {w : Nat → Int} {qs : Nat → Nat} (hWd : σ.2 (cBase k + 13) = some (eI k 16 w)) (hw : ∀ i, i < 16 → w i = (wd qs q i : Int)) {i : Nat} (hi : i < 16) : CtrV k L0 mX11_word 2 0 0 [.ref (cBase k), .int (iZ (i : Int))] σ (fun v σ' => v = .int (iZ ((wd qs q i : Int))) ∧ σ' = σ) := by
  refine Ctr.of (by decide +kernel) rfl (Nat.le_of_ble_eq_true rfl) ?_
  intro κ hl0 S
  subst hl0
  refine r_iload_n S dX11_word_0 rfl ?_
  refine r_callS S (c_isNumber ⟨by omega, by omega⟩) k_mX11_isNumber c_RX11_132 dX11_word_1 (by decide) ⟨by omega, by omega⟩ rfl rfl (Nat.le_of_ble_eq_true rfl) (fun r σ' hp => ?_)
  obtain ⟨_, rfl, rfl, rfl⟩ := hp
  try simp only [Option.toList_some, Option.toList_none, List.cons_append, List.nil_append]
  refine r_if_eq S dX11_word_4 (tgt := 18) (by decide) (b01_R _) (fun h_4 => ?_) (fun h_4 => ?_)
  · simp only [b01_z, Decidable.not_not] at h_4
    omega
  · simp only [b01_z, Decidable.not_not] at h_4
    refine r_aload_n S dX11_word_7 rfl ?_
    refine r_getf S g_RX11_54_10 dX11_word_8 (by repeat (first | assumption | exact sUp_same | exact sNew_same | refine sUp_ne (by first | assumption | omega) ?_)) rfl ?_
    refine r_iload_n S dX11_word_11 rfl ?_
    refine r_callV S (c_wordOf hC hq hWd hw hi) k_mX2_wordOf c_RX11_191_2 dX11_word_12 (by decide) ⟨by omega, by omega⟩ (by repeat (first | assumption | exact sUp_same | exact sNew_same | refine sUp_ne (by first | assumption | omega) ?_)) rfl rfl (Nat.le_of_ble_eq_true rfl) (fun r σ' hp => ?_)
    obtain ⟨_, rfl, rfl, rfl⟩ := hp
    try simp only [Option.toList_some, Option.toList_none, List.cons_append, List.nil_append]
    refine r_goto S dX11_word_15 (tgt := 19) (by decide) ?_
    exact r_iret S dX11_word_19 (by omega) (by omega) (⟨_, rfl, rfl, rfl⟩)

set_option maxRecDepth 100000 in
set_option maxHeartbeats 4000000 in
theorem c_apartX0 {k : Cx} {L0 : Launch} {σ : St} {a b : Int} (ha : zR a) (hb : zR b) (hx : ¬ (0 ≤ a ∧ a ≤ 15) ∨ ¬ (0 ≤ b ∧ b ≤ 15)) : CtrV k L0 mX11_apart 2 0 0 [.ref (cBase k), .int (iZ a), .int (iZ b)] σ (fun v σ' => v = .int (iZ (-1)) ∧ σ' = σ) := by
  refine Ctr.of (by decide +kernel) rfl (Nat.le_of_ble_eq_true rfl) ?_
  intro κ hl0 S
  subst hl0
  refine r_iload_n S dX11_apart_0 rfl ?_
  refine r_callS S (c_isNumber ha) k_mX11_isNumber c_RX11_132 dX11_apart_1 (by decide) ⟨by omega, by omega⟩ rfl rfl (Nat.le_of_ble_eq_true rfl) (fun r σ' hp => ?_)
  obtain ⟨_, rfl, rfl, rfl⟩ := hp
  try simp only [Option.toList_some, Option.toList_none, List.cons_append, List.nil_append]
  refine r_if_eq S dX11_apart_4 (tgt := 14) (by decide) (b01_R _) (fun h_4 => ?_) (fun h_4 => ?_)
  · simp only [b01_z, Decidable.not_not] at h_4
    refine r_iconst S dX11_apart_14 ?_
    exact r_iret S dX11_apart_15 (by omega) (by omega) (⟨_, rfl, rfl, rfl⟩)
  · simp only [b01_z, Decidable.not_not] at h_4
    refine r_iload_n S dX11_apart_7 rfl ?_
    refine r_callS S (c_isNumber hb) k_mX11_isNumber c_RX11_132 dX11_apart_8 (by decide) ⟨by omega, by omega⟩ rfl rfl (Nat.le_of_ble_eq_true rfl) (fun r σ' hp => ?_)
    obtain ⟨_, rfl, rfl, rfl⟩ := hp
    try simp only [Option.toList_some, Option.toList_none, List.cons_append, List.nil_append]
    refine r_if_ne S dX11_apart_11 (tgt := 16) (by decide) (b01_R _) (fun h_11 => ?_) (fun h_11 => ?_)
    · simp only [b01_z, Decidable.not_not] at h_11
      omega
    · simp only [b01_z, Decidable.not_not] at h_11
      refine r_iconst S dX11_apart_14 ?_
      exact r_iret S dX11_apart_15 (by omega) (by omega) (⟨_, rfl, rfl, rfl⟩)

set_option maxRecDepth 100000 in
set_option maxHeartbeats 4000000 in
theorem c_apartX {k : Cx} {L0 : Launch} {σ : St} {tb : Int} (hX : σ.2 (cBase k) = some (oX k tb)) {q : Nat} (hC : σ.2 (cBase k + 11) = some (oCode k q)) (hq : q ≤ 12) {w : Nat → Int} {qs : Nat → Nat} (hWd : σ.2 (cBase k + 13) = some (eI k 16 w)) (hw : ∀ i, i < 16 → w i = (wd qs q i : Int)) {a b : Nat} (ha : a < 16) (hb : b < 16) : CtrV k L0 mX11_apart 2 0 0 [.ref (cBase k), .int (iZ (a : Int)), .int (iZ (b : Int))] σ (fun v σ' => v = .int (iZ ((popc (wd qs q a ^^^ wd qs q b) : Int))) ∧ σ' = σ) := by
  refine Ctr.of (by decide +kernel) rfl (Nat.le_of_ble_eq_true rfl) ?_
  intro κ hl0 S
  subst hl0
  have hwl := fun i => Nat.lt_of_lt_of_le (wd_lt qs q i) (pw12 hq)
  refine r_iload_n S dX11_apart_0 rfl ?_
  refine r_callS S (c_isNumber ⟨by omega, by omega⟩) k_mX11_isNumber c_RX11_132 dX11_apart_1 (by decide) ⟨by omega, by omega⟩ rfl rfl (Nat.le_of_ble_eq_true rfl) (fun r σ' hp => ?_)
  obtain ⟨_, rfl, rfl, rfl⟩ := hp
  try simp only [Option.toList_some, Option.toList_none, List.cons_append, List.nil_append]
  refine r_if_eq S dX11_apart_4 (tgt := 14) (by decide) (b01_R _) (fun h_4 => ?_) (fun h_4 => ?_)
  · simp only [b01_z, Decidable.not_not] at h_4
    omega
  · simp only [b01_z, Decidable.not_not] at h_4
    refine r_iload_n S dX11_apart_7 rfl ?_
    refine r_callS S (c_isNumber ⟨by omega, by omega⟩) k_mX11_isNumber c_RX11_132 dX11_apart_8 (by decide) ⟨by omega, by omega⟩ rfl rfl (Nat.le_of_ble_eq_true rfl) (fun r σ' hp => ?_)
    obtain ⟨_, rfl, rfl, rfl⟩ := hp
    try simp only [Option.toList_some, Option.toList_none, List.cons_append, List.nil_append]
    refine r_if_ne S dX11_apart_11 (tgt := 16) (by decide) (b01_R _) (fun h_11 => ?_) (fun h_11 => ?_)
    · simp only [b01_z, Decidable.not_not] at h_11
      refine r_aload_n S dX11_apart_16 rfl ?_
      refine r_getf S g_RX11_54_10 dX11_apart_17 (by repeat (first | assumption | exact sUp_same | exact sNew_same | refine sUp_ne (by first | assumption | omega) ?_)) rfl ?_
      refine r_iload_n S dX11_apart_20 rfl ?_
      refine r_callV S (c_wordOf hC hq hWd hw ha) k_mX2_wordOf c_RX11_191_2 dX11_apart_21 (by decide) ⟨by omega, by omega⟩ (by repeat (first | assumption | exact sUp_same | exact sNew_same | refine sUp_ne (by first | assumption | omega) ?_)) rfl rfl (Nat.le_of_ble_eq_true rfl) (fun r σ' hp => ?_)
      obtain ⟨_, rfl, rfl, rfl⟩ := hp
      try simp only [Option.toList_some, Option.toList_none, List.cons_append, List.nil_append]
      refine r_aload_n S dX11_apart_24 rfl ?_
      refine r_getf S g_RX11_54_10 dX11_apart_25 (by repeat (first | assumption | exact sUp_same | exact sNew_same | refine sUp_ne (by first | assumption | omega) ?_)) rfl ?_
      refine r_iload_n S dX11_apart_28 rfl ?_
      refine r_callV S (c_wordOf hC hq hWd hw hb) k_mX2_wordOf c_RX11_191_2 dX11_apart_29 (by decide) ⟨by omega, by omega⟩ (by repeat (first | assumption | exact sUp_same | exact sNew_same | refine sUp_ne (by first | assumption | omega) ?_)) rfl rfl (Nat.le_of_ble_eq_true rfl) (fun r σ' hp => ?_)
      obtain ⟨_, rfl, rfl, rfl⟩ := hp
      try simp only [Option.toList_some, Option.toList_none, List.cons_append, List.nil_append]
      refine r_ixor S dX11_apart_32 (xorZ _ _) ?_
      refine r_callS S (c_bitCount (xor_lt (hwl a) (hwl b))) k_mJ6_bitCount_0f7a4 c_RX11_194 dX11_apart_33 (by decide) ⟨by omega, by omega⟩ rfl rfl (Nat.le_of_ble_eq_true rfl) (fun r σ' hp => ?_)
      obtain ⟨_, rfl, rfl, rfl⟩ := hp
      try simp only [Option.toList_some, Option.toList_none, List.cons_append, List.nil_append]
      exact r_iret S dX11_apart_36 (by omega) (by omega) (⟨_, rfl, rfl, rfl⟩)
    · simp only [b01_z, Decidable.not_not] at h_11
      omega

set_option maxRecDepth 100000 in
set_option maxHeartbeats 4000000 in
theorem c_servesX0 {k : Cx} {L0 : Launch} {σ : St} {a b : Int} (ha : zR a) (hb : zR b) (hx : ¬ (1 ≤ a ∧ a ≤ 16) ∨ ¬ (0 ≤ b ∧ b ≤ 3)) : CtrV k L0 mX11_serves 3 0 0 [.ref (cBase k), .int (iZ a), .int (iZ b)] σ (fun v σ' => v = .int (iZ (-1)) ∧ σ' = σ) := by
  refine Ctr.of (by decide +kernel) rfl (Nat.le_of_ble_eq_true rfl) ?_
  intro κ hl0 S
  subst hl0
  refine r_iload_n S dX11_serves_0 rfl ?_
  refine r_callS S (c_isCount ha) k_mX11_isCount c_RX11_66 dX11_serves_1 (by decide) ⟨by omega, by omega⟩ rfl rfl (Nat.le_of_ble_eq_true rfl) (fun r σ' hp => ?_)
  obtain ⟨_, rfl, rfl, rfl⟩ := hp
  try simp only [Option.toList_some, Option.toList_none, List.cons_append, List.nil_append]
  refine r_if_eq S dX11_serves_4 (tgt := 14) (by decide) (b01_R _) (fun h_4 => ?_) (fun h_4 => ?_)
  · simp only [b01_z, Decidable.not_not] at h_4
    refine r_iconst S dX11_serves_14 ?_
    exact r_iret S dX11_serves_15 (by omega) (by omega) (⟨_, rfl, rfl, rfl⟩)
  · simp only [b01_z, Decidable.not_not] at h_4
    refine r_iload_n S dX11_serves_7 rfl ?_
    refine r_callS S (c_isLies hb) k_mX11_isLies c_RX11_69 dX11_serves_8 (by decide) ⟨by omega, by omega⟩ rfl rfl (Nat.le_of_ble_eq_true rfl) (fun r σ' hp => ?_)
    obtain ⟨_, rfl, rfl, rfl⟩ := hp
    try simp only [Option.toList_some, Option.toList_none, List.cons_append, List.nil_append]
    refine r_if_ne S dX11_serves_11 (tgt := 16) (by decide) (b01_R _) (fun h_11 => ?_) (fun h_11 => ?_)
    · simp only [b01_z, Decidable.not_not] at h_11
      omega
    · simp only [b01_z, Decidable.not_not] at h_11
      refine r_iconst S dX11_serves_14 ?_
      exact r_iret S dX11_serves_15 (by omega) (by omega) (⟨_, rfl, rfl, rfl⟩)

set_option maxRecDepth 100000 in
set_option maxHeartbeats 4000000 in
theorem c_servesX {k : Cx} {L0 : Launch} {σ : St} {tb : Int} (hX : σ.2 (cBase k) = some (oX k tb)) {q : Nat} (hC : σ.2 (cBase k + 11) = some (oCode k q)) (hq : q ≤ 12) {w : Nat → Int} {qs : Nat → Nat} (hWd : σ.2 (cBase k + 13) = some (eI k 16 w)) (hw : ∀ i, i < 16 → w i = (wd qs q i : Int)) {N E : Nat} (hN : 1 ≤ N ∧ N ≤ 16) (hE : E ≤ 3) : CtrV k L0 mX11_serves 3 0 0 [.ref (cBase k), .int (iZ (N : Int)), .int (iZ (E : Int))] σ (fun v σ' => v = .int (iZ (b01 (∀ a, a < N → ∀ b, b < a → 2 * E < popc (wd qs q a ^^^ wd qs q b)))) ∧ σ' = σ) := by
  refine Ctr.of (by decide +kernel) rfl (Nat.le_of_ble_eq_true rfl) ?_
  intro κ hl0 S
  subst hl0
  refine r_iload_n S dX11_serves_0 rfl ?_
  refine r_callS S (c_isCount ⟨by omega, by omega⟩) k_mX11_isCount c_RX11_66 dX11_serves_1 (by decide) ⟨by omega, by omega⟩ rfl rfl (Nat.le_of_ble_eq_true rfl) (fun r σ' hp => ?_)
  obtain ⟨_, rfl, rfl, rfl⟩ := hp
  try simp only [Option.toList_some, Option.toList_none, List.cons_append, List.nil_append]
  refine r_if_eq S dX11_serves_4 (tgt := 14) (by decide) (b01_R _) (fun h_4 => ?_) (fun h_4 => ?_)
  · simp only [b01_z, Decidable.not_not] at h_4
    omega
  · simp only [b01_z, Decidable.not_not] at h_4
    refine r_iload_n S dX11_serves_7 rfl ?_
    refine r_callS S (c_isLies ⟨by omega, by omega⟩) k_mX11_isLies c_RX11_69 dX11_serves_8 (by decide) ⟨by omega, by omega⟩ rfl rfl (Nat.le_of_ble_eq_true rfl) (fun r σ' hp => ?_)
    obtain ⟨_, rfl, rfl, rfl⟩ := hp
    try simp only [Option.toList_some, Option.toList_none, List.cons_append, List.nil_append]
    refine r_if_ne S dX11_serves_11 (tgt := 16) (by decide) (b01_R _) (fun h_11 => ?_) (fun h_11 => ?_)
    · simp only [b01_z, Decidable.not_not] at h_11
      refine r_aload_n S dX11_serves_16 rfl ?_
      refine r_getf S g_RX11_54_10 dX11_serves_17 (by repeat (first | assumption | exact sUp_same | exact sNew_same | refine sUp_ne (by first | assumption | omega) ?_)) rfl ?_
      refine r_iload_n S dX11_serves_20 rfl ?_
      refine r_iconst S dX11_serves_21 ?_
      refine r_iload_n S dX11_serves_22 rfl ?_
      refine r_imul S dX11_serves_23 ?_
      refine r_num (z' := ((2 * E : Nat) : Int)) (by omega) ?_
      refine r_callV S (c_allApart hC hq hWd hw hN.2 (show 2 * E ≤ 6 by omega)) k_mX2_allApart c_RX11_199_2 dX11_serves_24 (by decide) ⟨by omega, by omega⟩ (by repeat (first | assumption | exact sUp_same | exact sNew_same | refine sUp_ne (by first | assumption | omega) ?_)) rfl rfl (Nat.le_of_ble_eq_true rfl) (fun r σ' hp => ?_)
      obtain ⟨_, rfl, rfl, rfl⟩ := hp
      try simp only [Option.toList_some, Option.toList_none, List.cons_append, List.nil_append]
      refine r_if_eq S dX11_serves_27 (tgt := 34) (by decide) (b01_R _) (fun h_27 => ?_) (fun h_27 => ?_)
      · simp only [b01_z, Decidable.not_not] at h_27
        refine r_iconst S dX11_serves_34 ?_
        exact r_iret S dX11_serves_35 (by omega) (by omega) (⟨_, rfl, by rw [b01_f h_27], rfl⟩)
      · simp only [b01_z, Decidable.not_not] at h_27
        refine r_iconst S dX11_serves_30 ?_
        refine r_goto S dX11_serves_31 (tgt := 35) (by decide) ?_
        exact r_iret S dX11_serves_35 (by omega) (by omega) (⟨_, rfl, by rw [b01_t h_27], rfl⟩)
    · simp only [b01_z, Decidable.not_not] at h_11
      omega

set_option maxRecDepth 100000 in
set_option maxHeartbeats 4000000 in
theorem c_readX0 {k : Cx} {L0 : Launch} {σ : St} {tb : Int} (hX : σ.2 (cBase k) = some (oX k tb)) {q : Nat} (hC : σ.2 (cBase k + 11) = some (oCode k q)) (hq : q ≤ 12) {w a b : Int} (hw : zR w) (ha : zR a) (hb : zR b) (hx : w < 0 ∨ ((2 ^ q : Nat) : Int) ≤ w) : CtrV k L0 mX11_read 3 0 0 [.ref (cBase k), .int (iZ w), .int (iZ a), .int (iZ b)] σ (fun v σ' => v = .int (iZ (-1)) ∧ σ' = σ) := by
  refine Ctr.of (by decide +kernel) rfl (Nat.le_of_ble_eq_true rfl) ?_
  intro κ hl0 S
  subst hl0
  refine r_aload_n S dX11_read_0 rfl ?_
  refine r_getf S g_RX11_54_10 dX11_read_1 (by repeat (first | assumption | exact sUp_same | exact sNew_same | refine sUp_ne (by first | assumption | omega) ?_)) rfl ?_
  refine r_iload_n S dX11_read_4 rfl ?_
  refine r_callV S (c_isWordF hC hq hw hx) k_mX2_isWord c_RX11_203_2 dX11_read_5 (by decide) ⟨by omega, by omega⟩ (by repeat (first | assumption | exact sUp_same | exact sNew_same | refine sUp_ne (by first | assumption | omega) ?_)) rfl rfl (Nat.le_of_ble_eq_true rfl) (fun r σ' hp => ?_)
  obtain ⟨_, rfl, rfl, rfl⟩ := hp
  try simp only [Option.toList_some, Option.toList_none, List.cons_append, List.nil_append]
  refine r_if_eq S dX11_read_8 (tgt := 25) (by decide) ⟨by omega, by omega⟩ (fun h_8 => ?_) (fun h_8 => ?_)
  · refine r_iconst S dX11_read_25 ?_
    exact r_iret S dX11_read_26 (by omega) (by omega) (⟨_, rfl, rfl, rfl⟩)
  · omega

set_option maxRecDepth 100000 in
set_option maxHeartbeats 4000000 in
theorem c_readX1 {k : Cx} {L0 : Launch} {σ : St} {tb : Int} (hX : σ.2 (cBase k) = some (oX k tb)) {q : Nat} (hC : σ.2 (cBase k + 11) = some (oCode k q)) (hq : q ≤ 12) {w : Nat} {a b : Int} (hw : w < 2 ^ q) (ha : zR a) (hb : zR b) (hx : ¬ (1 ≤ a ∧ a ≤ 16) ∨ ¬ (0 ≤ b ∧ b ≤ 3)) : CtrV k L0 mX11_read 3 0 0 [.ref (cBase k), .int (iZ (w : Int)), .int (iZ a), .int (iZ b)] σ (fun v σ' => v = .int (iZ (-1)) ∧ σ' = σ) := by
  refine Ctr.of (by decide +kernel) rfl (Nat.le_of_ble_eq_true rfl) ?_
  intro κ hl0 S
  subst hl0
  refine r_aload_n S dX11_read_0 rfl ?_
  refine r_getf S g_RX11_54_10 dX11_read_1 (by repeat (first | assumption | exact sUp_same | exact sNew_same | refine sUp_ne (by first | assumption | omega) ?_)) rfl ?_
  refine r_iload_n S dX11_read_4 rfl ?_
  refine r_callV S (c_isWordT hC hq hw) k_mX2_isWord c_RX11_203_2 dX11_read_5 (by decide) ⟨by omega, by omega⟩ (by repeat (first | assumption | exact sUp_same | exact sNew_same | refine sUp_ne (by first | assumption | omega) ?_)) rfl rfl (Nat.le_of_ble_eq_true rfl) (fun r σ' hp => ?_)
  obtain ⟨_, rfl, rfl, rfl⟩ := hp
  try simp only [Option.toList_some, Option.toList_none, List.cons_append, List.nil_append]
  refine r_if_eq S dX11_read_8 (tgt := 25) (by decide) ⟨by omega, by omega⟩ (fun h_8 => ?_) (fun h_8 => ?_)
  · omega
  · refine r_iload_n S dX11_read_11 rfl ?_
    refine r_callS S (c_isCount ha) k_mX11_isCount c_RX11_66 dX11_read_12 (by decide) ⟨by omega, by omega⟩ rfl rfl (Nat.le_of_ble_eq_true rfl) (fun r σ' hp => ?_)
    obtain ⟨_, rfl, rfl, rfl⟩ := hp
    try simp only [Option.toList_some, Option.toList_none, List.cons_append, List.nil_append]
    refine r_if_eq S dX11_read_15 (tgt := 25) (by decide) (b01_R _) (fun h_15 => ?_) (fun h_15 => ?_)
    · simp only [b01_z, Decidable.not_not] at h_15
      refine r_iconst S dX11_read_25 ?_
      exact r_iret S dX11_read_26 (by omega) (by omega) (⟨_, rfl, rfl, rfl⟩)
    · simp only [b01_z, Decidable.not_not] at h_15
      refine r_iload_n S dX11_read_18 rfl ?_
      refine r_callS S (c_isLies hb) k_mX11_isLies c_RX11_69 dX11_read_19 (by decide) ⟨by omega, by omega⟩ rfl rfl (Nat.le_of_ble_eq_true rfl) (fun r σ' hp => ?_)
      obtain ⟨_, rfl, rfl, rfl⟩ := hp
      try simp only [Option.toList_some, Option.toList_none, List.cons_append, List.nil_append]
      refine r_if_ne S dX11_read_22 (tgt := 27) (by decide) (b01_R _) (fun h_22 => ?_) (fun h_22 => ?_)
      · simp only [b01_z, Decidable.not_not] at h_22
        omega
      · simp only [b01_z, Decidable.not_not] at h_22
        refine r_iconst S dX11_read_25 ?_
        exact r_iret S dX11_read_26 (by omega) (by omega) (⟨_, rfl, rfl, rfl⟩)

set_option maxRecDepth 100000 in
set_option maxHeartbeats 4000000 in
theorem c_readX {k : Cx} {L0 : Launch} {σ : St} {tb : Int} (hX : σ.2 (cBase k) = some (oX k tb)) {q : Nat} (hC : σ.2 (cBase k + 11) = some (oCode k q)) (hq : q ≤ 12) {ww : Nat → Int} {qs : Nat → Nat} (hWd : σ.2 (cBase k + 13) = some (eI k 16 ww)) (hw : ∀ i, i < 16 → ww i = (wd qs q i : Int)) {w N E : Nat} (hwq : w < 2 ^ q) (hN : 1 ≤ N ∧ N ≤ 16) (hE : E ≤ 3) : CtrV k L0 mX11_read 3 0 0 [.ref (cBase k), .int (iZ (w : Int)), .int (iZ (N : Int)), .int (iZ (E : Int))] σ (fun v σ' => v = .int (iZ (rdF (fun i => decide (popc (w ^^^ wd qs q i) ≤ E)) N 0 (-9))) ∧ σ' = σ) := by
  refine Ctr.of (by decide +kernel) rfl (Nat.le_of_ble_eq_true rfl) ?_
  intro κ hl0 S
  subst hl0
  refine r_aload_n S dX11_read_0 rfl ?_
  refine r_getf S g_RX11_54_10 dX11_read_1 (by repeat (first | assumption | exact sUp_same | exact sNew_same | refine sUp_ne (by first | assumption | omega) ?_)) rfl ?_
  refine r_iload_n S dX11_read_4 rfl ?_
  refine r_callV S (c_isWordT hC hq hwq) k_mX2_isWord c_RX11_203_2 dX11_read_5 (by decide) ⟨by omega, by omega⟩ (by repeat (first | assumption | exact sUp_same | exact sNew_same | refine sUp_ne (by first | assumption | omega) ?_)) rfl rfl (Nat.le_of_ble_eq_true rfl) (fun r σ' hp => ?_)
  obtain ⟨_, rfl, rfl, rfl⟩ := hp
  try simp only [Option.toList_some, Option.toList_none, List.cons_append, List.nil_append]
  refine r_if_eq S dX11_read_8 (tgt := 25) (by decide) ⟨by omega, by omega⟩ (fun h_8 => ?_) (fun h_8 => ?_)
  · omega
  · refine r_iload_n S dX11_read_11 rfl ?_
    refine r_callS S (c_isCount ⟨by omega, by omega⟩) k_mX11_isCount c_RX11_66 dX11_read_12 (by decide) ⟨by omega, by omega⟩ rfl rfl (Nat.le_of_ble_eq_true rfl) (fun r σ' hp => ?_)
    obtain ⟨_, rfl, rfl, rfl⟩ := hp
    try simp only [Option.toList_some, Option.toList_none, List.cons_append, List.nil_append]
    refine r_if_eq S dX11_read_15 (tgt := 25) (by decide) (b01_R _) (fun h_15 => ?_) (fun h_15 => ?_)
    · simp only [b01_z, Decidable.not_not] at h_15
      omega
    · simp only [b01_z, Decidable.not_not] at h_15
      refine r_iload_n S dX11_read_18 rfl ?_
      refine r_callS S (c_isLies ⟨by omega, by omega⟩) k_mX11_isLies c_RX11_69 dX11_read_19 (by decide) ⟨by omega, by omega⟩ rfl rfl (Nat.le_of_ble_eq_true rfl) (fun r σ' hp => ?_)
      obtain ⟨_, rfl, rfl, rfl⟩ := hp
      try simp only [Option.toList_some, Option.toList_none, List.cons_append, List.nil_append]
      refine r_if_ne S dX11_read_22 (tgt := 27) (by decide) (b01_R _) (fun h_22 => ?_) (fun h_22 => ?_)
      · simp only [b01_z, Decidable.not_not] at h_22
        refine r_aload_n S dX11_read_27 rfl ?_
        refine r_getf S g_RX11_54_10 dX11_read_28 (by repeat (first | assumption | exact sUp_same | exact sNew_same | refine sUp_ne (by first | assumption | omega) ?_)) rfl ?_
        refine r_iload_n S dX11_read_31 rfl ?_
        refine r_iload_n S dX11_read_32 rfl ?_
        refine r_iload_n S dX11_read_33 rfl ?_
        refine r_callV S (c_onlyNear hC hq hWd hw hN.2 hE (Nat.lt_of_lt_of_le hwq (pw12 hq))) k_mX2_onlyNear c_RX11_206_2 dX11_read_34 (by decide) ⟨by omega, by omega⟩ (by repeat (first | assumption | exact sUp_same | exact sNew_same | refine sUp_ne (by first | assumption | omega) ?_)) rfl rfl (Nat.le_of_ble_eq_true rfl) (fun r σ' hp => ?_)
        obtain ⟨_, rfl, rfl, rfl⟩ := hp
        try simp only [Option.toList_some, Option.toList_none, List.cons_append, List.nil_append]
        exact r_iret S dX11_read_37 (by omega) (by omega) (⟨_, rfl, rfl, rfl⟩)
      · simp only [b01_z, Decidable.not_not] at h_22
        omega
