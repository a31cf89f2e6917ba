set_option maxRecDepth 100000 in
set_option maxHeartbeats 4000000 in
theorem c_backM0 {k : Cx} {L0 : Launch} {σ : St} {wt tb tr sk sm : Int} {on kd n e an q : Nat} (hM : σ.2 (cBase k + 14) = some (oModel k on kd n e an wt tb q tr sk sm)) (hon : on < 2) (han : an ≤ 60) (hb : on = 0 ∨ an = 0) : CtrV k L0 mX12_back 1 0 0 [.ref (cBase k + 14)] σ (fun v σ' => v = .int (iZ (-2)) ∧ σ' = σ) := by
  refine Ctr.of (by decide +kernel) rfl (Nat.le_of_ble_eq_true rfl) ?_
  intro κ hl0 S
  subst hl0
  refine r_aload_n S dX12_back_0 rfl ?_
  refine r_getf S g_RX12_49_11 dX12_back_1 (by repeat (first | assumption | exact sUp_same | exact sNew_same | refine sUp_ne (by first | assumption | omega) ?_)) rfl ?_
  refine r_if_eq S dX12_back_4 (tgt := 14) (by decide) ⟨by omega, by omega⟩ (fun h_4 => ?_) (fun h_4 => ?_)
  · refine r_bipush S dX12_back_14 (by decide) ?_
    exact r_iret S dX12_back_16 (by omega) (by omega) (⟨_, rfl, rfl, rfl⟩)
  · refine r_aload_n S dX12_back_7 rfl ?_
    refine r_getf S g_RX12_101_11 dX12_back_8 (by repeat (first | assumption | exact sUp_same | exact sNew_same | refine sUp_ne (by first | assumption | omega) ?_)) rfl ?_
    refine r_if_ne S dX12_back_11 (tgt := 17) (by decide) ⟨by omega, by omega⟩ (fun h_11 => ?_) (fun h_11 => ?_)
    · omega
    · refine r_bipush S dX12_back_14 (by decide) ?_
      exact r_iret S dX12_back_16 (by omega) (by omega) (⟨_, rfl, rfl, rfl⟩)

set_option maxRecDepth 100000 in
set_option maxHeartbeats 4000000 in
theorem l_backM {κ : Kx} {k : Cx} {σ : St} {wt tb tr sk sm : Int} {kd n e an q : Nat} (hM : σ.2 (cBase k + 14) = some (oModel k 1 kd n e ((an + 1 : Nat) : Int) wt tb q tr sk sm)) {l : Nat → Int} (hL : σ.2 (cBase k + 15) = some (eI k 16 l)) (hl : ∀ j, -1 ≤ l j ∧ l j ≤ 3) (hn : n ≤ 16) (han : an + 1 ≤ 60) {b : Nat → Int} (hB : σ.2 (cBase k + 16) = some (eI k 976 b)) (S : Ok κ k cX12_back 2 RX12 (some .int) "back" 1 0 0) : ∀ (m i : Nat), i + m = n → V κ k 2 0 0 (QR κ k (fun r9 σ' => ∃ v, r9 = some v ∧ (v = .int (iZ (an : Int)) ∧ σ' = sUp (sUp σ (cBase k + 15) (eI k 16 (tkF (fun j => b (16 * an + j)) l n))) (cBase k + 14) (oModel k 1 kd n e (an : Int) (-1) (tb + 1) q tr sk sm))) 0 0) 29 [some (.ref (cBase k + 14)), some (.int (iZ (i : Int)))] [] (sUp (sUp σ (cBase k + 14) (oModel k 1 kd n e (an : Int) wt tb q tr sk sm)) (cBase k + 15) (eI k 16 (tkF (fun j => b (16 * an + j)) l i))) := by
  intro m
  induction m with
  | zero =>
    intro i hi
    refine r_iload_n S dX12_back_29 rfl ?_
    refine r_aload_n S dX12_back_30 rfl ?_
    refine r_getf S g_RX12_91_11 dX12_back_31 (by repeat (first | assumption | exact sUp_same | exact sNew_same | refine sUp_ne (by first | assumption | omega) ?_)) rfl ?_
    refine r_icmp_ge S dX12_back_34 (tgt := 63) (by decide) ⟨by omega, by omega⟩ ⟨by omega, by omega⟩ (fun h_34 => ?_) (fun h_34 => ?_)
    · refine r_aload_n S dX12_back_63 rfl ?_
      refine r_iconst S dX12_back_64 ?_
      refine r_putf S p_RX12_7_11 dX12_back_65 (by first | rfl | decide) (by first | rfl | decide) (by repeat (first | assumption | exact sUp_same | exact sNew_same | refine sUp_ne (by first | assumption | omega) ?_)) (Nat.le_of_ble_eq_true rfl) (fs' := [_, _, _, _, _, _, _, _, _, _, _, _, _, _, _, _, _, _, _, _, _]) rfl ?_
      rw [sUp_comm _ _ _ (show (cBase k + 14) ≠ (cBase k + 15) by omega)]
      simp only [sUp_sUp]
      refine r_aload_n S dX12_back_68 rfl ?_
      refine r_dup S dX12_back_69 rfl ?_
      refine r_getf S g_RX12_117_11 dX12_back_70 (by repeat (first | assumption | exact sUp_same | exact sNew_same | refine sUp_ne (by first | assumption | omega) ?_)) rfl ?_
      refine r_iconst S dX12_back_73 ?_
      refine r_iadd S dX12_back_74 ?_
      refine r_putf S p_RX12_117_11 dX12_back_75 (by first | rfl | decide) (by first | rfl | decide) (by repeat (first | assumption | exact sUp_same | exact sNew_same | refine sUp_ne (by first | assumption | omega) ?_)) (Nat.le_of_ble_eq_true rfl) (fs' := [_, _, _, _, _, _, _, _, _, _, _, _, _, _, _, _, _, _, _, _, _]) rfl ?_
      try simp only [sUp_sUp]
      refine r_aload_n S dX12_back_78 rfl ?_
      refine r_getf S g_RX12_101_11 dX12_back_79 (by repeat (first | assumption | exact sUp_same | exact sNew_same | refine sUp_ne (by first | assumption | omega) ?_)) rfl ?_
      exact r_iret S dX12_back_82 (by omega) (by omega) (⟨_, rfl, rfl, by rw [← show i = n by omega]⟩)
    · omega
  | succ m ih =>
    intro i hi
    refine r_iload_n S dX12_back_29 rfl ?_
    refine r_aload_n S dX12_back_30 rfl ?_
    refine r_getf S g_RX12_91_11 dX12_back_31 (by repeat (first | assumption | exact sUp_same | exact sNew_same | refine sUp_ne (by first | assumption | omega) ?_)) rfl ?_
    refine r_icmp_ge S dX12_back_34 (tgt := 63) (by decide) ⟨by omega, by omega⟩ ⟨by omega, by omega⟩ (fun h_34 => ?_) (fun h_34 => ?_)
    · omega
    · refine r_aload_n S dX12_back_37 rfl ?_
      refine r_getf S g_RX12_13_11 dX12_back_38 (by repeat (first | assumption | exact sUp_same | exact sNew_same | refine sUp_ne (by first | assumption | omega) ?_)) rfl ?_
      refine r_iload_n S dX12_back_41 rfl ?_
      refine r_aload_n S dX12_back_42 rfl ?_
      refine r_getf S g_RX12_17_11 dX12_back_43 (by repeat (first | assumption | exact sUp_same | exact sNew_same | refine sUp_ne (by first | assumption | omega) ?_)) rfl ?_
      refine r_bipush S dX12_back_46 (by decide) ?_
      refine r_aload_n S dX12_back_48 rfl ?_
      refine r_getf S g_RX12_101_11 dX12_back_49 (by repeat (first | assumption | exact sUp_same | exact sNew_same | refine sUp_ne (by first | assumption | omega) ?_)) rfl ?_
      refine r_imul S dX12_back_52 ?_
      refine r_iload_n S dX12_back_53 rfl ?_
      refine r_iadd S dX12_back_54 ?_
      refine r_num (z' := ((16 * an + i : Nat) : Int)) (by omega) ?_
      refine r_ialdN S (16 * an + i) dX12_back_55 (by repeat (first | assumption | exact sUp_same | exact sNew_same | refine sUp_ne (by first | assumption | omega) ?_)) (by omega) (by omega) (by decide) ?_
      refine r_iastN S (i) dX12_back_56 (by repeat (first | assumption | exact sUp_same | exact sNew_same | refine sUp_ne (by first | assumption | omega) ?_)) (by omega) (by omega) (by decide) ?_
      rw [sUp_sUp, tkF_succ (fun j => b (16 * an + j)) l i]
      refine r_iinc S dX12_back_57 rfl rfl (by decide) (lv' := [_, _]) rfl ?_
      refine r_goto S dX12_back_60 (tgt := 29) (by decide) ?_
      exact ih (i + 1) (by omega)

set_option maxRecDepth 100000 in
set_option maxHeartbeats 4000000 in
theorem c_backM {k : Cx} {L0 : Launch} {σ : St} {wt tb tr sk sm : Int} {kd n e an q : Nat} (hM : σ.2 (cBase k + 14) = some (oModel k 1 kd n e ((an + 1 : Nat) : Int) wt tb q tr sk sm)) {l : Nat → Int} (hL : σ.2 (cBase k + 15) = some (eI k 16 l)) (hl : ∀ j, -1 ≤ l j ∧ l j ≤ 3) (hn : n ≤ 16) (han : an + 1 ≤ 60) {b : Nat → Int} (hB : σ.2 (cBase k + 16) = some (eI k 976 b)) : CtrV k L0 mX12_back 1 0 0 [.ref (cBase k + 14)] σ (fun v σ' => v = .int (iZ (an : Int)) ∧ σ' = sUp (sUp σ (cBase k + 15) (eI k 16 (tkF (fun j => b (16 * an + j)) l n))) (cBase k + 14) (oModel k 1 kd n e (an : Int) (-1) (tb + 1) q tr sk sm)) := by
  refine Ctr.of (by decide +kernel) rfl (Nat.le_of_ble_eq_true rfl) ?_
  intro κ hl0 S
  subst hl0
  refine r_aload_n S dX12_back_0 rfl ?_
  refine r_getf S g_RX12_49_11 dX12_back_1 (by repeat (first | assumption | exact sUp_same | exact sNew_same | refine sUp_ne (by first | assumption | omega) ?_)) rfl ?_
  refine r_if_eq S dX12_back_4 (tgt := 14) (by decide) ⟨by omega, by omega⟩ (fun h_4 => ?_) (fun h_4 => ?_)
  · omega
  · refine r_aload_n S dX12_back_7 rfl ?_
    refine r_getf S g_RX12_101_11 dX12_back_8 (by repeat (first | assumption | exact sUp_same | exact sNew_same | refine sUp_ne (by first | assumption | omega) ?_)) rfl ?_
    refine r_if_ne S dX12_back_11 (tgt := 17) (by decide) ⟨by omega, by omega⟩ (fun h_11 => ?_) (fun h_11 => ?_)
    · refine r_aload_n S dX12_back_17 rfl ?_
      refine r_dup S dX12_back_18 rfl ?_
      refine r_getf S g_RX12_101_11 dX12_back_19 (by repeat (first | assumption | exact sUp_same | exact sNew_same | refine sUp_ne (by first | assumption | omega) ?_)) rfl ?_
      refine r_iconst S dX12_back_22 ?_
      refine r_isub S dX12_back_23 ?_
      refine r_num (z' := (an : Int)) (by omega) ?_
      refine r_putf S p_RX12_101_11 dX12_back_24 (by first | rfl | decide) (by first | rfl | decide) (by repeat (first | assumption | exact sUp_same | exact sNew_same | refine sUp_ne (by first | assumption | omega) ?_)) (Nat.le_of_ble_eq_true rfl) (fs' := [_, _, _, _, _, _, _, _, _, _, _, _, _, _, _, _, _, _, _, _, _]) rfl ?_
      try simp only [sUp_sUp]
      refine r_iconst S dX12_back_27 ?_
      refine r_istore_n S dX12_back_28 rfl (by decide) (lv' := [_, _]) rfl ?_
      have h9 := l_backM hM hL hl hn han hB S n 0 (by omega)
      rw [tkF_0, sUp_id (sUp_ne (by omega) hL)] at h9
      exact h9
    · omega

set_option maxRecDepth 100000 in
set_option maxHeartbeats 4000000 in
theorem c_setM0 {k : Cx} {L0 : Launch} {σ : St} {wt tb tr sk sm : Int} {on kd n e an q : Nat} (hM : σ.2 (cBase k + 14) = some (oModel k on kd n e an wt tb q tr sk sm)) {z : Int} (hz : zR z) (hb : ¬ (0 ≤ z ∧ z ≤ 65535)) : CtrV k L0 mX12_set 2 0 0 [.ref (cBase k + 14), .int (iZ z)] σ (fun v σ' => v = .int (iZ (-1)) ∧ σ' = σ) := by
  refine Ctr.of (by decide +kernel) rfl (Nat.le_of_ble_eq_true rfl) ?_
  intro κ hl0 S
  subst hl0
  refine r_iload_n S dX12_set_0 rfl ?_
  refine r_iconst S dX12_set_1 ?_
  refine r_ldc S (n := 65535) (by exact wd_764) dX12_set_2 ?_
  refine r_callS S (c_in hz ⟨by decide, by decide⟩ ⟨by decide, by decide⟩) k_mX12_in c_RX12_53 dX12_set_4 (by decide) ⟨by omega, by omega⟩ rfl rfl (Nat.le_of_ble_eq_true rfl) (fun r σ' hp => ?_)
  obtain ⟨_, rfl, rfl, rfl⟩ := hp
  try simp only [Option.toList_some, Option.toList_none, List.cons_append, List.nil_append]
  refine r_if_ne S dX12_set_7 (tgt := 12) (by decide) (b01_R _) (fun h_7 => ?_) (fun h_7 => ?_)
  · simp only [b01_z, Decidable.not_not] at h_7
    omega
  · simp only [b01_z, Decidable.not_not] at h_7
    refine r_iconst S dX12_set_10 ?_
    exact r_iret S dX12_set_11 (by omega) (by omega) (⟨_, rfl, rfl, rfl⟩)

set_option maxRecDepth 100000 in
set_option maxHeartbeats 4000000 in
theorem c_setMf {k : Cx} {L0 : Launch} {σ : St} {wt tb tr sk sm : Int} {on kd n e an q : Nat} (hM : σ.2 (cBase k + 14) = some (oModel k on kd n e an wt tb q tr sk sm)) {z : Int} (hz : zR z) (hb : 0 ≤ z ∧ z ≤ 65535) (hq : q = 12) : CtrV k L0 mX12_set 2 0 0 [.ref (cBase k + 14), .int (iZ z)] σ (fun v σ' => v = .int (iZ (-3)) ∧ σ' = σ) := by
  refine Ctr.of (by decide +kernel) rfl (Nat.le_of_ble_eq_true rfl) ?_
  intro κ hl0 S
  subst hl0
  refine r_iload_n S dX12_set_0 rfl ?_
  refine r_iconst S dX12_set_1 ?_
  refine r_ldc S (n := 65535) (by exact wd_764) dX12_set_2 ?_
  refine r_callS S (c_in hz ⟨by decide, by decide⟩ ⟨by decide, by decide⟩) k_mX12_in c_RX12_53 dX12_set_4 (by decide) ⟨by omega, by omega⟩ rfl rfl (Nat.le_of_ble_eq_true rfl) (fun r σ' hp => ?_)
  obtain ⟨_, rfl, rfl, rfl⟩ := hp
  try simp only [Option.toList_some, Option.toList_none, List.cons_append, List.nil_append]
  refine r_if_ne S dX12_set_7 (tgt := 12) (by decide) (b01_R _) (fun h_7 => ?_) (fun h_7 => ?_)
  · simp only [b01_z, Decidable.not_not] at h_7
    refine r_aload_n S dX12_set_12 rfl ?_
    refine r_getf S g_RX12_146_11 dX12_set_13 (by repeat (first | assumption | exact sUp_same | exact sNew_same | refine sUp_ne (by first | assumption | omega) ?_)) rfl ?_
    refine r_bipush S dX12_set_16 (by decide) ?_
    refine r_icmp_ne S dX12_set_18 (tgt := 24) (by decide) ⟨by omega, by omega⟩ ⟨by omega, by omega⟩ (fun h_18 => ?_) (fun h_18 => ?_)
    · omega
    · refine r_bipush S dX12_set_21 (by decide) ?_
      exact r_iret S dX12_set_23 (by omega) (by omega) (⟨_, rfl, rfl, rfl⟩)
  · simp only [b01_z, Decidable.not_not] at h_7
    omega

set_option maxRecDepth 100000 in
set_option maxHeartbeats 4000000 in
theorem c_setM {k : Cx} {L0 : Launch} {σ : St} {wt tb tr sk sm : Int} {on kd n e an q : Nat} (hM : σ.2 (cBase k + 14) = some (oModel k on kd n e an wt tb q tr sk sm)) {qs : Nat → Nat} (hQ : σ.2 (cBase k + 17) = some (eI k 12 (fun j => (qs j : Int)))) {heap : Nat} (hh : heap < 65536) (hq : q < 12) : CtrV k L0 mX12_set 2 0 0 [.ref (cBase k + 14), .int (iZ (heap : Int))] σ (fun v σ' => v = .int (iZ ((q : Int) + 1)) ∧ σ' = sUp (sUp σ (cBase k + 17) (eI k 12 (fun j => (uN qs q heap j : Int)))) (cBase k + 14) (oModel k on kd n e an wt tb ((q : Int) + 1) tr sk sm)) := by
  refine Ctr.of (by decide +kernel) rfl (Nat.le_of_ble_eq_true rfl) ?_
  intro κ hl0 S
  subst hl0
  refine r_iload_n S dX12_set_0 rfl ?_
  refine r_iconst S dX12_set_1 ?_
  refine r_ldc S (n := 65535) (by exact wd_764) dX12_set_2 ?_
  refine r_callS S (c_in ⟨by omega, by omega⟩ ⟨by decide, by decide⟩ ⟨by decide, by decide⟩) k_mX12_in c_RX12_53 dX12_set_4 (by decide) ⟨by omega, by omega⟩ rfl rfl (Nat.le_of_ble_eq_true rfl) (fun r σ' hp => ?_)
  obtain ⟨_, rfl, rfl, rfl⟩ := hp
  try simp only [Option.toList_some, Option.toList_none, List.cons_append, List.nil_append]
  refine r_if_ne S dX12_set_7 (tgt := 12) (by decide) (b01_R _) (fun h_7 => ?_) (fun h_7 => ?_)
  · simp only [b01_z, Decidable.not_not] at h_7
    refine r_aload_n S dX12_set_12 rfl ?_
    refine r_getf S g_RX12_146_11 dX12_set_13 (by repeat (first | assumption | exact sUp_same | exact sNew_same | refine sUp_ne (by first | assumption | omega) ?_)) rfl ?_
    refine r_bipush S dX12_set_16 (by decide) ?_
    refine r_icmp_ne S dX12_set_18 (tgt := 24) (by decide) ⟨by omega, by omega⟩ ⟨by omega, by omega⟩ (fun h_18 => ?_) (fun h_18 => ?_)
    · refine r_aload_n S dX12_set_24 rfl ?_
      refine r_getf S g_RX12_20_11 dX12_set_25 (by repeat (first | assumption | exact sUp_same | exact sNew_same | refine sUp_ne (by first | assumption | omega) ?_)) rfl ?_
      refine r_aload_n S dX12_set_28 rfl ?_
      refine r_getf S g_RX12_146_11 dX12_set_29 (by repeat (first | assumption | exact sUp_same | exact sNew_same | refine sUp_ne (by first | assumption | omega) ?_)) rfl ?_
      refine r_iload_n S dX12_set_32 rfl ?_
      refine r_iastN S (q) dX12_set_33 (by repeat (first | assumption | exact sUp_same | exact sNew_same | refine sUp_ne (by first | assumption | omega) ?_)) (by omega) (by omega) (by decide) ?_
      rw [uZ_uN]
      refine r_aload_n S dX12_set_34 rfl ?_
      refine r_dup S dX12_set_35 rfl ?_
      refine r_getf S g_RX12_146_11 dX12_set_36 (by repeat (first | assumption | exact sUp_same | exact sNew_same | refine sUp_ne (by first | assumption | omega) ?_)) rfl ?_
      refine r_iconst S dX12_set_39 ?_
      refine r_iadd S dX12_set_40 ?_
      refine r_putf S p_RX12_146_11 dX12_set_41 (by first | rfl | decide) (by first | rfl | decide) (by repeat (first | assumption | exact sUp_same | exact sNew_same | refine sUp_ne (by first | assumption | omega) ?_)) (Nat.le_of_ble_eq_true rfl) (fs' := [_, _, _, _, _, _, _, _, _, _, _, _, _, _, _, _, _, _, _, _, _]) rfl ?_
      try simp only [sUp_sUp]
      refine r_aload_n S dX12_set_44 rfl ?_
      refine r_getf S g_RX12_146_11 dX12_set_45 (by repeat (first | assumption | exact sUp_same | exact sNew_same | refine sUp_ne (by first | assumption | omega) ?_)) rfl ?_
      exact r_iret S dX12_set_48 (by omega) (by omega) (⟨_, rfl, rfl, rfl⟩)
    · omega
  · simp only [b01_z, Decidable.not_not] at h_7
    omega

set_option maxRecDepth 100000 in
set_option maxHeartbeats 4000000 in
theorem c_dropM0 {k : Cx} {L0 : Launch} {σ : St} {wt tb tr sk sm : Int} {on kd n e an q : Nat} (hM : σ.2 (cBase k + 14) = some (oModel k on kd n e an wt tb q tr sk sm)) (hq : q = 0) : CtrV k L0 mX12_drop 1 0 0 [.ref (cBase k + 14)] σ (fun v σ' => v = .int (iZ (-2)) ∧ σ' = σ) := by
  refine Ctr.of (by decide +kernel) rfl (Nat.le_of_ble_eq_true rfl) ?_
  intro κ hl0 S
  subst hl0
  refine r_aload_n S dX12_drop_0 rfl ?_
  refine r_getf S g_RX12_146_11 dX12_drop_1 (by repeat (first | assumption | exact sUp_same | exact sNew_same | refine sUp_ne (by first | assumption | omega) ?_)) rfl ?_
  refine r_if_ne S dX12_drop_4 (tgt := 10) (by decide) ⟨by omega, by omega⟩ (fun h_4 => ?_) (fun h_4 => ?_)
  · omega
  · refine r_bipush S dX12_drop_7 (by decide) ?_
    exact r_iret S dX12_drop_9 (by omega) (by omega) (⟨_, rfl, rfl, rfl⟩)

set_option maxRecDepth 100000 in
set_option maxHeartbeats 4000000 in
theorem c_dropM {k : Cx} {L0 : Launch} {σ : St} {wt tb tr sk sm : Int} {on kd n e an q : Nat} (hM : σ.2 (cBase k + 14) = some (oModel k on kd n e an wt tb q tr sk sm)) (hq : 0 < q) (hq2 : q ≤ 12) : CtrV k L0 mX12_drop 1 0 0 [.ref (cBase k + 14)] σ (fun v σ' => v = .int (iZ ((q : Int) - 1)) ∧ σ' = sUp σ (cBase k + 14) (oModel k on kd n e an wt tb ((q : Int) - 1) tr sk sm)) := by
  refine Ctr.of (by decide +kernel) rfl (Nat.le_of_ble_eq_true rfl) ?_
  intro κ hl0 S
  subst hl0
  refine r_aload_n S dX12_drop_0 rfl ?_
  refine r_getf S g_RX12_146_11 dX12_drop_1 (by repeat (first | assumption | exact sUp_same | exact sNew_same | refine sUp_ne (by first | assumption | omega) ?_)) rfl ?_
  refine r_if_ne S dX12_drop_4 (tgt := 10) (by decide) ⟨by omega, by omega⟩ (fun h_4 => ?_) (fun h_4 => ?_)
  · refine r_aload_n S dX12_drop_10 rfl ?_
    refine r_dup S dX12_drop_11 rfl ?_
    refine r_getf S g_RX12_146_11 dX12_drop_12 (by repeat (first | assumption | exact sUp_same | exact sNew_same | refine sUp_ne (by first | assumption | omega) ?_)) rfl ?_
    refine r_iconst S dX12_drop_15 ?_
    refine r_isub S dX12_drop_16 ?_
    refine r_putf S p_RX12_146_11 dX12_drop_17 (by first | rfl | decide) (by first | rfl | decide) (by repeat (first | assumption | exact sUp_same | exact sNew_same | refine sUp_ne (by first | assumption | omega) ?_)) (Nat.le_of_ble_eq_true rfl) (fs' := [_, _, _, _, _, _, _, _, _, _, _, _, _, _, _, _, _, _, _, _, _]) rfl ?_
    try simp only [sUp_sUp]
    refine r_aload_n S dX12_drop_20 rfl ?_
    refine r_getf S g_RX12_146_11 dX12_drop_21 (by repeat (first | assumption | exact sUp_same | exact sNew_same | refine sUp_ne (by first | assumption | omega) ?_)) rfl ?_
    exact r_iret S dX12_drop_24 (by omega) (by omega) (⟨_, rfl, rfl, rfl⟩)
  · omega

set_option maxRecDepth 100000 in
set_option maxHeartbeats 4000000 in
theorem c_wordM0 {k : Cx} {L0 : Launch} {σ : St} {wt tb tr sk sm : Int} {on kd n e an q : Nat} (hM : σ.2 (cBase k + 14) = some (oModel k on kd n e an wt tb q tr sk sm)) {z : Int} (hz : zR z) (hb : ¬ (0 ≤ z ∧ z ≤ 15)) : CtrV k L0 mX12_word 3 0 0 [.ref (cBase k + 14), .int (iZ z)] σ (fun v σ' => v = .int (iZ (-1)) ∧ σ' = σ) := by
  refine Ctr.of (by decide +kernel) rfl (Nat.le_of_ble_eq_true rfl) ?_
  intro κ hl0 S
  subst hl0
  refine r_iload_n S dX12_word_0 rfl ?_
  refine r_callS S (c_isNumberM hz) k_mX12_isNumber c_RX12_149 dX12_word_1 (by decide) ⟨by omega, by omega⟩ rfl rfl (Nat.le_of_ble_eq_true rfl) (fun r σ' hp => ?_)
  obtain ⟨_, rfl, rfl, rfl⟩ := hp
  try simp only [Option.toList_some, Option.toList_none, List.cons_append, List.nil_append]
  refine r_if_eq S dX12_word_4 (tgt := 15) (by decide) (b01_R _) (fun h_4 => ?_) (fun h_4 => ?_)
  · simp only [b01_z, Decidable.not_not] at h_4
    refine r_iconst S dX12_word_15 ?_
    exact r_iret S dX12_word_16 (by omega) (by omega) (⟨_, rfl, rfl, rfl⟩)
  · simp only [b01_z, Decidable.not_not] at h_4
    omega

set_option maxRecDepth 100000 in
set_option maxHeartbeats 4000000 in
theorem c_wordM {k : Cx} {L0 : Launch} {σ : St} {wt tb tr sk sm : Int} {on kd n e an q : Nat} (hM : σ.2 (cBase k + 14) = some (oModel k on kd n e an wt tb q tr sk sm)) {qs : Nat → Nat} (hQ : σ.2 (cBase k + 17) = some (eI k 12 (fun j => (qs j : Int)))) (hq : q ≤ 12) (hqs : ∀ j, j < q → qs j < 65536) {i : Nat} (hi : i < 16) : CtrV k L0 mX12_word 3 0 0 [.ref (cBase k + 14), .int (iZ (i : Int))] σ (fun v σ' => v = .int (iZ ((wd qs q i : Int))) ∧ σ' = σ) := by
  refine Ctr.of (by decide +kernel) rfl (Nat.le_of_ble_eq_true rfl) ?_
  intro κ hl0 S
  subst hl0
  refine r_iload_n S dX12_word_0 rfl ?_
  refine r_callS S (c_isNumberM ⟨by omega, by omega⟩) k_mX12_isNumber c_RX12_149 dX12_word_1 (by decide) ⟨by omega, by omega⟩ rfl rfl (Nat.le_of_ble_eq_true rfl) (fun r σ' hp => ?_)
  obtain ⟨_, rfl, rfl, rfl⟩ := hp
  try simp only [Option.toList_some, Option.toList_none, List.cons_append, List.nil_append]
  refine r_if_eq S dX12_word_4 (tgt := 15) (by decide) (b01_R _) (fun h_4 => ?_) (fun h_4 => ?_)
  · simp only [b01_z, Decidable.not_not] at h_4
    omega
  · simp only [b01_z, Decidable.not_not] at h_4
    refine r_aload_n S dX12_word_7 rfl ?_
    refine r_iload_n S dX12_word_8 rfl ?_
    refine r_callV S (c_wordOfM hM hq hQ hqs hi) k_mX12_wordOf c_RX12_153_11 dX12_word_9 (by decide) ⟨by omega, by omega⟩ (by repeat (first | assumption | exact sUp_same | exact sNew_same | refine sUp_ne (by first | assumption | omega) ?_)) rfl rfl (Nat.le_of_ble_eq_true rfl) (fun r σ' hp => ?_)
    obtain ⟨_, rfl, rfl, rfl⟩ := hp
    try simp only [Option.toList_some, Option.toList_none, List.cons_append, List.nil_append]
    refine r_goto S dX12_word_12 (tgt := 16) (by decide) ?_
    exact r_iret S dX12_word_16 (by omega) (by omega) (⟨_, rfl, rfl, rfl⟩)

set_option maxRecDepth 100000 in
set_option maxHeartbeats 4000000 in
theorem c_apartM0 {k : Cx} {L0 : Launch} {σ : St} {wt tb tr sk sm : Int} {on kd n e an q : Nat} (hM : σ.2 (cBase k + 14) = some (oModel k on kd n e an wt tb q tr sk sm)) {a b : Int} (ha : zR a) (hb : zR b) (hx : ¬ (0 ≤ a ∧ a ≤ 15) ∨ ¬ (0 ≤ b ∧ b ≤ 15)) : CtrV k L0 mX12_apart 3 0 0 [.ref (cBase k + 14), .int (iZ a), .int (iZ b)] σ (fun v σ' => v = .int (iZ (-1)) ∧ σ' = σ) := by
  refine Ctr.of (by decide +kernel) rfl (Nat.le_of_ble_eq_true rfl) ?_
  intro κ hl0 S
  subst hl0
  refine r_iload_n S dX12_apart_0 rfl ?_
  refine r_callS S (c_isNumberM ha) k_mX12_isNumber c_RX12_149 dX12_apart_1 (by decide) ⟨by omega, by omega⟩ rfl rfl (Nat.le_of_ble_eq_true rfl) (fun r σ' hp => ?_)
  obtain ⟨_, rfl, rfl, rfl⟩ := hp
  try simp only [Option.toList_some, Option.toList_none, List.cons_append, List.nil_append]
  refine r_if_eq S dX12_apart_4 (tgt := 31) (by decide) (b01_R _) (fun h_4 => ?_) (fun h_4 => ?_)
  · simp only [b01_z, Decidable.not_not] at h_4
    refine r_iconst S dX12_apart_31 ?_
    exact r_iret S dX12_apart_32 (by omega) (by omega) (⟨_, rfl, rfl, rfl⟩)
  · simp only [b01_z, Decidable.not_not] at h_4
    refine r_iload_n S dX12_apart_7 rfl ?_
    refine r_callS S (c_isNumberM hb) k_mX12_isNumber c_RX12_149 dX12_apart_8 (by decide) ⟨by omega, by omega⟩ rfl rfl (Nat.le_of_ble_eq_true rfl) (fun r σ' hp => ?_)
    obtain ⟨_, rfl, rfl, rfl⟩ := hp
    try simp only [Option.toList_some, Option.toList_none, List.cons_append, List.nil_append]
    refine r_if_eq S dX12_apart_11 (tgt := 31) (by decide) (b01_R _) (fun h_11 => ?_) (fun h_11 => ?_)
    · simp only [b01_z, Decidable.not_not] at h_11
      refine r_iconst S dX12_apart_31 ?_
      exact r_iret S dX12_apart_32 (by omega) (by omega) (⟨_, rfl, rfl, rfl⟩)
    · simp only [b01_z, Decidable.not_not] at h_11
      omega

set_option maxRecDepth 100000 in
set_option maxHeartbeats 4000000 in
theorem c_apartM {k : Cx} {L0 : Launch} {σ : St} {wt tb tr sk sm : Int} {on kd n e an q : Nat} (hM : σ.2 (cBase k + 14) = some (oModel k on kd n e an wt tb q tr sk sm)) {qs : Nat → Nat} (hQ : σ.2 (cBase k + 17) = some (eI k 12 (fun j => (qs j : Int)))) (hq : q ≤ 12) (hqs : ∀ j, j < q → qs j < 65536) {a b : Nat} (ha : a < 16) (hb : b < 16) : CtrV k L0 mX12_apart 3 0 0 [.ref (cBase k + 14), .int (iZ (a : Int)), .int (iZ (b : Int))] σ (fun v σ' => v = .int (iZ ((popc (wd qs q a ^^^ wd qs q b) : Int))) ∧ σ' = σ) := by
  refine Ctr.of (by decide +kernel) rfl (Nat.le_of_ble_eq_true rfl) ?_
  intro κ hl0 S
  subst hl0
  have hwl := fun i => Nat.lt_of_lt_of_le (wd_lt qs q i) (pw12 hq)
  refine r_iload_n S dX12_apart_0 rfl ?_
  refine r_callS S (c_isNumberM ⟨by omega, by omega⟩) k_mX12_isNumber c_RX12_149 dX12_apart_1 (by decide) ⟨by omega, by omega⟩ rfl rfl (Nat.le_of_ble_eq_true rfl) (fun r σ' hp => ?_)
  obtain ⟨_, rfl, rfl, rfl⟩ := hp
  try simp only [Option.toList_some, Option.toList_none, List.cons_append, List.nil_append]
  refine r_if_eq S dX12_apart_4 (tgt := 31) (by decide) (b01_R _) (fun h_4 => ?_) (fun h_4 => ?_)
  · simp only [b01_z, Decidable.not_not] at h_4
    omega
  · simp only [b01_z, Decidable.not_not] at h_4
    refine r_iload_n S dX12_apart_7 rfl ?_
    refine r_callS S (c_isNumberM ⟨by omega, by omega⟩) k_mX12_isNumber c_RX12_149 dX12_apart_8 (by decide) ⟨by omega, by omega⟩ rfl rfl (Nat.le_of_ble_eq_true rfl) (fun r σ' hp => ?_)
    obtain ⟨_, rfl, rfl, rfl⟩ := hp
    try simp only [Option.toList_some, Option.toList_none, List.cons_append, List.nil_append]
    refine r_if_eq S dX12_apart_11 (tgt := 31) (by decide) (b01_R _) (fun h_11 => ?_) (fun h_11 => ?_)
    · simp only [b01_z, Decidable.not_not] at h_11
      omega
    · simp only [b01_z, Decidable.not_not] at h_11
      refine r_aload_n S dX12_apart_14 rfl ?_
      refine r_iload_n S dX12_apart_15 rfl ?_
      refine r_callV S (c_wordOfM hM hq hQ hqs ha) k_mX12_wordOf c_RX12_153_11 dX12_apart_16 (by decide) ⟨by omega, by omega⟩ (by repeat (first | assumption | exact sUp_same | exact sNew_same | refine sUp_ne (by first | assumption | omega) ?_)) rfl rfl (Nat.le_of_ble_eq_true rfl) (fun r σ' hp => ?_)
      obtain ⟨_, rfl, rfl, rfl⟩ := hp
      try simp only [Option.toList_some, Option.toList_none, List.cons_append, List.nil_append]
      refine r_aload_n S dX12_apart_19 rfl ?_
      refine r_iload_n S dX12_apart_20 rfl ?_
      refine r_callV S (c_wordOfM hM hq hQ hqs hb) k_mX12_wordOf c_RX12_153_11 dX12_apart_21 (by decide) ⟨by omega, by omega⟩ (by repeat (first | assumption | exact sUp_same | exact sNew_same | refine sUp_ne (by first | assumption | omega) ?_)) rfl rfl (Nat.le_of_ble_eq_true rfl) (fun r σ' hp => ?_)
      obtain ⟨_, rfl, rfl, rfl⟩ := hp
      try simp only [Option.toList_some, Option.toList_none, List.cons_append, List.nil_append]
      refine r_ixor S dX12_apart_24 (xorZ _ _) ?_
      refine r_callS S (c_ones (xor_lt (hwl a) (hwl b))) k_mX12_ones c_RX12_156 dX12_apart_25 (by decide) ⟨by omega, by omega⟩ rfl rfl (Nat.le_of_ble_eq_true rfl) (fun r σ' hp => ?_)
      obtain ⟨_, rfl, rfl, rfl⟩ := hp
      try simp only [Option.toList_some, Option.toList_none, List.cons_append, List.nil_append]
      refine r_goto S dX12_apart_28 (tgt := 32) (by decide) ?_
      exact r_iret S dX12_apart_32 (by omega) (by omega) (⟨_, rfl, rfl, rfl⟩)

set_option maxRecDepth 100000 in
set_option maxHeartbeats 4000000 in
theorem c_servesM0 {k : Cx} {L0 : Launch} {σ : St} {wt tb tr sk sm : Int} {on kd n e an q : Nat} (hM : σ.2 (cBase k + 14) = some (oModel k on kd n e an wt tb q tr sk sm)) {a b : Int} (ha : zR a) (hb : zR b) (hx : ¬ (1 ≤ a ∧ a ≤ 16) ∨ ¬ (0 ≤ b ∧ b ≤ 3)) : CtrV k L0 mX12_serves 3 0 0 [.ref (cBase k + 14), .int (iZ a), .int (iZ b)] σ (fun v σ' => v = .int (iZ (-1)) ∧ σ' = σ) := by
  refine Ctr.of (by decide +kernel) rfl (Nat.le_of_ble_eq_true rfl) ?_
  intro κ hl0 S
  subst hl0
  refine r_iload_n S dX12_serves_0 rfl ?_
  refine r_iconst S dX12_serves_1 ?_
  refine r_bipush S dX12_serves_2 (by decide) ?_
  refine r_callS S (c_in ha ⟨by decide, by decide⟩ ⟨by decide, by decide⟩) k_mX12_in c_RX12_53 dX12_serves_4 (by decide) ⟨by omega, by omega⟩ rfl rfl (Nat.le_of_ble_eq_true rfl) (fun r σ' hp => ?_)
  obtain ⟨_, rfl, rfl, rfl⟩ := hp
  try simp only [Option.toList_some, Option.toList_none, List.cons_append, List.nil_append]
  refine r_if_eq S dX12_serves_7 (tgt := 19) (by decide) (b01_R _) (fun h_7 => ?_) (fun h_7 => ?_)
  · simp only [b01_z, Decidable.not_not] at h_7
    refine r_iconst S dX12_serves_19 ?_
    exact r_iret S dX12_serves_20 (by omega) (by omega) (⟨_, rfl, rfl, rfl⟩)
  · simp only [b01_z, Decidable.not_not] at h_7
    refine r_iload_n S dX12_serves_10 rfl ?_
    refine r_iconst S dX12_serves_11 ?_
    refine r_iconst S dX12_serves_12 ?_
    refine r_callS S (c_in hb ⟨by decide, by decide⟩ ⟨by decide, by decide⟩) k_mX12_in c_RX12_53 dX12_serves_13 (by decide) ⟨by omega, by omega⟩ rfl rfl (Nat.le_of_ble_eq_true rfl) (fun r σ' hp => ?_)
    obtain ⟨_, rfl, rfl, rfl⟩ := hp
    try simp only [Option.toList_some, Option.toList_none, List.cons_append, List.nil_append]
    refine r_if_ne S dX12_serves_16 (tgt := 21) (by decide) (b01_R _) (fun h_16 => ?_) (fun h_16 => ?_)
    · simp only [b01_z, Decidable.not_not] at h_16
      omega
    · simp only [b01_z, Decidable.not_not] at h_16
      refine r_iconst S dX12_serves_19 ?_
      exact r_iret S dX12_serves_20 (by omega) (by omega) (⟨_, rfl, rfl, rfl⟩)

set_option maxRecDepth 100000 in
set_option maxHeartbeats 4000000 in
theorem l_sv1 {κ : Kx} {k : Cx} {σ : St} {wt tb tr sk sm : Int} {on kd n e an q : Nat} (hM : σ.2 (cBase k + 14) = some (oModel k on kd n e an wt tb q tr sk sm)) {qs : Nat → Nat} (hQ : σ.2 (cBase k + 17) = some (eI k 12 (fun j => (qs j : Int)))) (hq : q ≤ 12) (hqs : ∀ j, j < q → qs j < 65536) {N E : Nat} (hN : 1 ≤ N ∧ N ≤ 16) (hE : E ≤ 3) {a : Nat} (ha : a < N) (kk : V κ k 6 0 0 (QR κ k (fun r9 σ' => ∃ v, r9 = some v ∧ (v = .int (iZ (bP (∀ x y, x < y → y < N → 2 * E < popc (wd qs q x ^^^ wd qs q y)))) ∧ σ' = σ)) 0 0) 82 [some (.ref (cBase k + 14)), some (.int (iZ (N : Int))), some (.int (iZ (E : Int))), some (.int (iZ (bP (∀ x y, x < y → y < N → (x < a ∨ (x = a ∧ y < N)) → 2 * E < popc (wd qs q x ^^^ wd qs q y))))), some (.int (iZ (a : Int))), none] [] σ) (S : Ok κ k cX12_serves 6 RX12 (some .int) "serves" 3 0 0) : ∀ (m b : Nat), b + m = N → a < b → V κ k 6 0 0 (QR κ k (fun r9 σ' => ∃ v, r9 = some v ∧ (v = .int (iZ (bP (∀ x y, x < y → y < N → 2 * E < popc (wd qs q x ^^^ wd qs q y)))) ∧ σ' = σ)) 0 0) 38 [some (.ref (cBase k + 14)), some (.int (iZ (N : Int))), some (.int (iZ (E : Int))), some (.int (iZ (bP (∀ x y, x < y → y < N → (x < a ∨ (x = a ∧ y < b)) → 2 * E < popc (wd qs q x ^^^ wd qs q y))))), some (.int (iZ (a : Int))), some (.int (iZ (b : Int)))] [] σ := by
  intro m
  induction m with
  | zero =>
    intro b hbm hab
    have e9 : b = N := by omega
    subst e9
    refine r_iload S dX12_serves_38 rfl ?_
    refine r_iload_n S dX12_serves_40 rfl ?_
    refine r_icmp_ge S dX12_serves_41 (tgt := 82) (by decide) ⟨by omega, by omega⟩ ⟨by omega, by omega⟩ (fun h_41 => ?_) (fun h_41 => ?_)
    · refine V.mask [true, true, true, true, true, false] (lv' := [_, _, _, _, _, none]) rfl ?_
      exact kk
    · omega
  | succ m ih =>
    intro b hbm hab
    have hwl := fun i => Nat.lt_of_lt_of_le (wd_lt qs q i) (pw12 hq)
    have hpl := popc_le (wd qs q a ^^^ wd qs q b)
    refine r_iload S dX12_serves_38 rfl ?_
    refine r_iload_n S dX12_serves_40 rfl ?_
    refine r_icmp_ge S dX12_serves_41 (tgt := 82) (by decide) ⟨by omega, by omega⟩ ⟨by omega, by omega⟩ (fun h_41 => ?_) (fun h_41 => ?_)
    · omega
    · refine r_iload_n S dX12_serves_44 rfl ?_
      refine r_if_eq S dX12_serves_45 (tgt := 74) (by decide) (bP_R _) (fun h_45 => ?_) (fun h_45 => ?_)
      · rw [bP_z] at h_45
        refine r_iconst S dX12_serves_74 ?_
        refine r_istore_n S dX12_serves_75 rfl (by decide) (lv' := [_, _, _, _, _, _]) rfl ?_
        refine r_iinc S dX12_serves_76 rfl rfl (by decide) (lv' := [_, _, _, _, _, _]) rfl ?_
        refine r_goto S dX12_serves_79 (tgt := 38) (by decide) ?_
        have h9 := ih (b + 1) (by omega) (by omega)
        rw [bP_f (p := (∀ x y, x < y → y < N → (x < a ∨ (x = a ∧ y < (b + 1))) → 2 * E < popc (wd qs q x ^^^ wd qs q y))) (fun z => h_45 (fun x y h1 h2 h3 => z x y h1 h2 (by omega)))] at h9
        exact h9
      · rw [bP_z] at h_45
        have h_45 := Classical.not_not.mp h_45
        refine r_aload_n S dX12_serves_48 rfl ?_
        refine r_iload S dX12_serves_49 rfl ?_
        refine r_callV S (c_wordOfM hM hq hQ hqs (by omega)) k_mX12_wordOf c_RX12_153_11 dX12_serves_51 (by decide) ⟨by omega, by omega⟩ (by repeat (first | assumption | exact sUp_same | exact sNew_same | refine sUp_ne (by first | assumption | omega) ?_)) rfl rfl (Nat.le_of_ble_eq_true rfl) (fun r σ' hp => ?_)
        obtain ⟨_, rfl, rfl, rfl⟩ := hp
        try simp only [Option.toList_some, Option.toList_none, List.cons_append, List.nil_append]
        refine r_aload_n S dX12_serves_54 rfl ?_
        refine r_iload S dX12_serves_55 rfl ?_
        refine r_callV S (c_wordOfM hM hq hQ hqs (by omega)) k_mX12_wordOf c_RX12_153_11 dX12_serves_57 (by decide) ⟨by omega, by omega⟩ (by repeat (first | assumption | exact sUp_same | exact sNew_same | refine sUp_ne (by first | assumption | omega) ?_)) rfl rfl (Nat.le_of_ble_eq_true rfl) (fun r σ' hp => ?_)
        obtain ⟨_, rfl, rfl, rfl⟩ := hp
        try simp only [Option.toList_some, Option.toList_none, List.cons_append, List.nil_append]
        refine r_ixor S dX12_serves_60 (xorZ _ _) ?_
        refine r_callS S (c_ones (xor_lt (hwl a) (hwl b))) k_mX12_ones c_RX12_156 dX12_serves_61 (by decide) ⟨by omega, by omega⟩ rfl rfl (Nat.le_of_ble_eq_true rfl) (fun r σ' hp => ?_)
        obtain ⟨_, rfl, rfl, rfl⟩ := hp
        try simp only [Option.toList_some, Option.toList_none, List.cons_append, List.nil_append]
        refine r_iconst S dX12_serves_64 ?_
        refine r_iload_n S dX12_serves_65 rfl ?_
        refine r_imul S dX12_serves_66 ?_
        refine r_icmp_le S dX12_serves_67 (tgt := 74) (by decide) ⟨by omega, by omega⟩ ⟨by omega, by omega⟩ (fun h_67 => ?_) (fun h_67 => ?_)
        · refine r_iconst S dX12_serves_74 ?_
          refine r_istore_n S dX12_serves_75 rfl (by decide) (lv' := [_, _, _, _, _, _]) rfl ?_
          refine r_iinc S dX12_serves_76 rfl rfl (by decide) (lv' := [_, _, _, _, _, _]) rfl ?_
          refine r_goto S dX12_serves_79 (tgt := 38) (by decide) ?_
          have h9 := ih (b + 1) (by omega) (by omega)
          rw [bP_f (p := (∀ x y, x < y → y < N → (x < a ∨ (x = a ∧ y < (b + 1))) → 2 * E < popc (wd qs q x ^^^ wd qs q y))) (fun z => by have := z a b hab (by omega) (by omega); omega)] at h9
          exact h9
        · refine r_iconst S dX12_serves_70 ?_
          refine r_goto S dX12_serves_71 (tgt := 75) (by decide) ?_
          refine r_istore_n S dX12_serves_75 rfl (by decide) (lv' := [_, _, _, _, _, _]) rfl ?_
          refine r_iinc S dX12_serves_76 rfl rfl (by decide) (lv' := [_, _, _, _, _, _]) rfl ?_
          refine r_goto S dX12_serves_79 (tgt := 38) (by decide) ?_
          have h9 := ih (b + 1) (by omega) (by omega)
          rw [bP_t (p := (∀ x y, x < y → y < N → (x < a ∨ (x = a ∧ y < (b + 1))) → 2 * E < popc (wd qs q x ^^^ wd qs q y))) (fun x y h1 h2 h3 => by
            rcases (show (x < a ∨ (x = a ∧ y < b)) ∨ (x = a ∧ y = b) by omega) with e9 | e9
            · exact h_45 x y h1 h2 e9
            · rw [e9.1, e9.2]; omega)] at h9
          exact h9

set_option maxRecDepth 100000 in
set_option maxHeartbeats 4000000 in
theorem l_sv2 {κ : Kx} {k : Cx} {σ : St} {wt tb tr sk sm : Int} {on kd n e an q : Nat} (hM : σ.2 (cBase k + 14) = some (oModel k on kd n e an wt tb q tr sk sm)) {qs : Nat → Nat} (hQ : σ.2 (cBase k + 17) = some (eI k 12 (fun j => (qs j : Int)))) (hq : q ≤ 12) (hqs : ∀ j, j < q → qs j < 65536) {N E : Nat} (hN : 1 ≤ N ∧ N ≤ 16) (hE : E ≤ 3) (S : Ok κ k cX12_serves 6 RX12 (some .int) "serves" 3 0 0) : ∀ (m a : Nat), a + m = N → V κ k 6 0 0 (QR κ k (fun r9 σ' => ∃ v, r9 = some v ∧ (v = .int (iZ (bP (∀ x y, x < y → y < N → 2 * E < popc (wd qs q x ^^^ wd qs q y)))) ∧ σ' = σ)) 0 0) 26 [some (.ref (cBase k + 14)), some (.int (iZ (N : Int))), some (.int (iZ (E : Int))), some (.int (iZ (bP (∀ x y, x < y → y < N → (x < a ∨ (x = a ∧ y < 0)) → 2 * E < popc (wd qs q x ^^^ wd qs q y))))), some (.int (iZ (a : Int))), none] [] σ := by
  intro m
  induction m with
  | zero =>
    intro a ham
    have hall : (∀ x y, x < y → y < N → (x < a ∨ (x = a ∧ y < 0)) → 2 * E < popc (wd qs q x ^^^ wd qs q y)) ↔ (∀ x y, x < y → y < N → 2 * E < popc (wd qs q x ^^^ wd qs q y)) := ⟨fun h x y h1 h2 => h x y h1 h2 (by omega), fun h x y h1 h2 _ => h x y h1 h2⟩
    refine r_iload S dX12_serves_26 rfl ?_
    refine r_iload_n S dX12_serves_28 rfl ?_
    refine r_icmp_ge S dX12_serves_29 (tgt := 88) (by decide) ⟨by omega, by omega⟩ ⟨by omega, by omega⟩ (fun h_29 => ?_) (fun h_29 => ?_)
    · refine r_iload_n S dX12_serves_88 rfl ?_
      refine r_if_eq S dX12_serves_89 (tgt := 96) (by decide) (bP_R _) (fun h_89 => ?_) (fun h_89 => ?_)
      · rw [bP_z, hall] at h_89
        refine r_iconst S dX12_serves_96 ?_
        exact r_iret S dX12_serves_97 (by omega) (by omega) (⟨_, rfl, by rw [bP_f h_89], rfl⟩)
      · rw [bP_z, hall] at h_89
        have h_89 := Classical.not_not.mp h_89
        refine r_iconst S dX12_serves_92 ?_
        refine r_goto S dX12_serves_93 (tgt := 97) (by decide) ?_
        exact r_iret S dX12_serves_97 (by omega) (by omega) (⟨_, rfl, by rw [bP_t h_89], rfl⟩)
    · omega
  | succ m ih =>
    intro a ham
    have e1 : bP (∀ x y, x < y → y < N → (x < a ∨ (x = a ∧ y < 0)) → 2 * E < popc (wd qs q x ^^^ wd qs q y)) = bP (∀ x y, x < y → y < N → (x < a ∨ (x = a ∧ y < (a + 1))) → 2 * E < popc (wd qs q x ^^^ wd qs q y)) := bP_congr ⟨fun h x y h1 h2 h3 => h x y h1 h2 (by omega), fun h x y h1 h2 h3 => h x y h1 h2 (by omega)⟩
    have e2 : bP (∀ x y, x < y → y < N → (x < a ∨ (x = a ∧ y < N)) → 2 * E < popc (wd qs q x ^^^ wd qs q y)) = bP (∀ x y, x < y → y < N → (x < (a + 1) ∨ (x = (a + 1) ∧ y < 0)) → 2 * E < popc (wd qs q x ^^^ wd qs q y)) := bP_congr ⟨fun h x y h1 h2 h3 => h x y h1 h2 (by omega), fun h x y h1 h2 h3 => h x y h1 h2 (by omega)⟩
    refine r_iload S dX12_serves_26 rfl ?_
    refine r_iload_n S dX12_serves_28 rfl ?_
    refine r_icmp_ge S dX12_serves_29 (tgt := 88) (by decide) ⟨by omega, by omega⟩ ⟨by omega, by omega⟩ (fun h_29 => ?_) (fun h_29 => ?_)
    · omega
    · refine r_iload S dX12_serves_32 rfl ?_
      refine r_iconst S dX12_serves_34 ?_
      refine r_iadd S dX12_serves_35 ?_
      refine r_istore S dX12_serves_36 rfl (by decide) (lv' := [_, _, _, _, _, _]) rfl ?_
      rw [e1]
      refine l_sv1 hM hQ hq hqs hN hE (show a < N by omega) ?_ S m (a + 1) (by omega) (by omega)
      rw [e2]
      refine r_iinc S dX12_serves_82 rfl rfl (by decide) (lv' := [_, _, _, _, _, _]) rfl ?_
      refine r_goto S dX12_serves_85 (tgt := 26) (by decide) ?_
      exact ih (a + 1) (by omega)

set_option maxRecDepth 100000 in
set_option maxHeartbeats 4000000 in
theorem c_servesM {k : Cx} {L0 : Launch} {σ : St} {wt tb tr sk sm : Int} {on kd n e an q : Nat} (hM : σ.2 (cBase k + 14) = some (oModel k on kd n e an wt tb q tr sk sm)) {qs : Nat → Nat} (hQ : σ.2 (cBase k + 17) = some (eI k 12 (fun j => (qs j : Int)))) (hq : q ≤ 12) (hqs : ∀ j, j < q → qs j < 65536) {N E : Nat} (hN : 1 ≤ N ∧ N ≤ 16) (hE : E ≤ 3) : CtrV k L0 mX12_serves 3 0 0 [.ref (cBase k + 14), .int (iZ (N : Int)), .int (iZ (E : Int))] σ (fun v σ' => v = .int (iZ (bP (∀ x y, x < y → y < N → 2 * E < popc (wd qs q x ^^^ wd qs q y)))) ∧ σ' = σ) := by
  refine Ctr.of (by decide +kernel) rfl (Nat.le_of_ble_eq_true rfl) ?_
  intro κ hl0 S
  subst hl0
  refine r_iload_n S dX12_serves_0 rfl ?_
  refine r_iconst S dX12_serves_1 ?_
  refine r_bipush S dX12_serves_2 (by decide) ?_
  refine r_callS S (c_in ⟨by omega, by omega⟩ ⟨by decide, by decide⟩ ⟨by decide, by decide⟩) k_mX12_in c_RX12_53 dX12_serves_4 (by decide) ⟨by omega, by omega⟩ rfl rfl (Nat.le_of_ble_eq_true rfl) (fun r σ' hp => ?_)
  obtain ⟨_, rfl, rfl, rfl⟩ := hp
  try simp only [Option.toList_some, Option.toList_none, List.cons_append, List.nil_append]
  refine r_if_eq S dX12_serves_7 (tgt := 19) (by decide) (b01_R _) (fun h_7 => ?_) (fun h_7 => ?_)
  · simp only [b01_z, Decidable.not_not] at h_7
    omega
  · simp only [b01_z, Decidable.not_not] at h_7
    refine r_iload_n S dX12_serves_10 rfl ?_
    refine r_iconst S dX12_serves_11 ?_
    refine r_iconst S dX12_serves_12 ?_
    refine r_callS S (c_in ⟨by omega, by omega⟩ ⟨by decide, by decide⟩ ⟨by decide, by decide⟩) k_mX12_in c_RX12_53 dX12_serves_13 (by decide) ⟨by omega, by omega⟩ rfl rfl (Nat.le_of_ble_eq_true rfl) (fun r σ' hp => ?_)
    obtain ⟨_, rfl, rfl, rfl⟩ := hp
    try simp only [Option.toList_some, Option.toList_none, List.cons_append, List.nil_append]
    refine r_if_ne S dX12_serves_16 (tgt := 21) (by decide) (b01_R _) (fun h_16 => ?_) (fun h_16 => ?_)
    · simp only [b01_z, Decidable.not_not] at h_16
      refine r_iconst S dX12_serves_21 ?_
      refine r_istore_n S dX12_serves_22 rfl (by decide) (lv' := [_, _, _, _, _, _]) rfl ?_
      refine r_iconst S dX12_serves_23 ?_
      refine r_istore S dX12_serves_24 rfl (by decide) (lv' := [_, _, _, _, _, _]) rfl ?_
      have h9 := l_sv2 hM hQ hq hqs hN hE S N 0 (by omega)
      rw [bP_t (fun x y h1 h2 h3 => by omega)] at h9
      exact h9
    · simp only [b01_z, Decidable.not_not] at h_16
      omega

set_option maxRecDepth 100000 in
set_option maxHeartbeats 4000000 in
theorem c_readM0 {k : Cx} {L0 : Launch} {σ : St} {wt tb tr sk sm : Int} {on kd n e an q : Nat} (hM : σ.2 (cBase k + 14) = some (oModel k on kd n e an wt tb q tr sk sm)) (hq : q ≤ 12) {w a b : Int} (hw : zR w) (ha : zR a) (hb : zR b) (hx : ¬ (0 ≤ w ∧ w < ((2 ^ q : Nat) : Int)) ∨ ¬ (1 ≤ a ∧ a ≤ 16) ∨ ¬ (0 ≤ b ∧ b ≤ 3)) : CtrV k L0 mX12_read 3 0 0 [.ref (cBase k + 14), .int (iZ w), .int (iZ a), .int (iZ b)] σ (fun v σ' => v = .int (iZ (-1)) ∧ σ' = σ) := by
  refine Ctr.of (by decide +kernel) rfl (Nat.le_of_ble_eq_true rfl) ?_
  intro κ hl0 S
  subst hl0
  refine r_aload_n S dX12_read_0 rfl ?_
  refine r_iload_n S dX12_read_1 rfl ?_
  refine r_callV S (c_isWordM hM hq hw) k_mX12_isWord c_RX12_159_11 dX12_read_2 (by decide) ⟨by omega, by omega⟩ (by repeat (first | assumption | exact sUp_same | exact sNew_same | refine sUp_ne (by first | assumption | omega) ?_)) rfl rfl (Nat.le_of_ble_eq_true rfl) (fun r σ' hp => ?_)
  obtain ⟨_, rfl, rfl, rfl⟩ := hp
  try simp only [Option.toList_some, Option.toList_none, List.cons_append, List.nil_append]
  refine r_if_eq S dX12_read_5 (tgt := 27) (by decide) (b01_R _) (fun h_5 => ?_) (fun h_5 => ?_)
  · simp only [b01_z, Decidable.not_not] at h_5
    refine r_iconst S dX12_read_27 ?_
    exact r_iret S dX12_read_28 (by omega) (by omega) (⟨_, rfl, rfl, rfl⟩)
  · simp only [b01_z, Decidable.not_not] at h_5
    refine r_iload_n S dX12_read_8 rfl ?_
    refine r_iconst S dX12_read_9 ?_
    refine r_bipush S dX12_read_10 (by decide) ?_
    refine r_callS S (c_in ha ⟨by decide, by decide⟩ ⟨by decide, by decide⟩) k_mX12_in c_RX12_53 dX12_read_12 (by decide) ⟨by omega, by omega⟩ rfl rfl (Nat.le_of_ble_eq_true rfl) (fun r σ' hp => ?_)
    obtain ⟨_, rfl, rfl, rfl⟩ := hp
    try simp only [Option.toList_some, Option.toList_none, List.cons_append, List.nil_append]
    refine r_if_eq S dX12_read_15 (tgt := 27) (by decide) (b01_R _) (fun h_15 => ?_) (fun h_15 => ?_)
    · simp only [b01_z, Decidable.not_not] at h_15
      refine r_iconst S dX12_read_27 ?_
      exact r_iret S dX12_read_28 (by omega) (by omega) (⟨_, rfl, rfl, rfl⟩)
    · simp only [b01_z, Decidable.not_not] at h_15
      refine r_iload_n S dX12_read_18 rfl ?_
      refine r_iconst S dX12_read_19 ?_
      refine r_iconst S dX12_read_20 ?_
      refine r_callS S (c_in hb ⟨by decide, by decide⟩ ⟨by decide, by decide⟩) k_mX12_in c_RX12_53 dX12_read_21 (by decide) ⟨by omega, by omega⟩ rfl rfl (Nat.le_of_ble_eq_true rfl) (fun r σ' hp => ?_)
      obtain ⟨_, rfl, rfl, rfl⟩ := hp
      try simp only [Option.toList_some, Option.toList_none, List.cons_append, List.nil_append]
      refine r_if_ne S dX12_read_24 (tgt := 29) (by decide) (b01_R _) (fun h_24 => ?_) (fun h_24 => ?_)
      · simp only [b01_z, Decidable.not_not] at h_24
        omega
      · simp only [b01_z, Decidable.not_not] at h_24
        refine r_iconst S dX12_read_27 ?_
        exact r_iret S dX12_read_28 (by omega) (by omega) (⟨_, rfl, rfl, rfl⟩)

set_option maxRecDepth 100000 in
set_option maxHeartbeats 4000000 in
theorem l_readM {κ : Kx} {k : Cx} {σ : St} {wt tb tr sk sm : Int} {on kd n e an q : Nat} (hM : σ.2 (cBase k + 14) = some (oModel k on kd n e an wt tb q tr sk sm)) {qs : Nat → Nat} (hQ : σ.2 (cBase k + 17) = some (eI k 12 (fun j => (qs j : Int)))) (hq : q ≤ 12) (hqs : ∀ j, j < q → qs j < 65536) {w N E : Nat} (hw : w < 2 ^ q) (hN : 1 ≤ N ∧ N ≤ 16) (hE : E ≤ 3) (S : Ok κ k cX12_read 6 RX12 (some .int) "read" 3 0 0) : ∀ (m i : Nat), i + m = N → ∀ near : Int, (-9 ≤ near ∧ near ≤ 16) → rdF (fun i => decide (popc (wd qs q i ^^^ w) ≤ E)) m i near = rdF (fun i => decide (popc (wd qs q i ^^^ w) ≤ E)) N 0 (-9) → V κ k 6 0 0 (QR κ k (fun r9 σ' => ∃ v, r9 = some v ∧ (v = .int (iZ (rdF (fun i => decide (popc (wd qs q i ^^^ w) ≤ E)) N 0 (-9))) ∧ σ' = σ)) 0 0) 36 [some (.ref (cBase k + 14)), some (.int (iZ (w : Int))), some (.int (iZ (N : Int))), some (.int (iZ (E : Int))), some (.int (iZ near)), some (.int (iZ (i : Int)))] [] σ := by
  intro m
  induction m with
  | zero =>
    intro i hi near hnr he
    rw [rdF] at he
    refine r_iload S dX12_read_36 rfl ?_
    refine r_iload_n S dX12_read_38 rfl ?_
    refine r_icmp_ge S dX12_read_39 (tgt := 77) (by decide) ⟨by omega, by omega⟩ ⟨by omega, by omega⟩ (fun h_39 => ?_) (fun h_39 => ?_)
    · refine r_iload S dX12_read_77 rfl ?_
      exact r_iret S dX12_read_79 (by omega) (by omega) (⟨_, rfl, by rw [← he], rfl⟩)
    · omega
  | succ m ih =>
    intro i hi near hnr he
    have hwl := fun i => Nat.lt_of_lt_of_le (wd_lt qs q i) (pw12 hq)
    have hw2 := Nat.lt_of_lt_of_le hw (pw12 hq)
    have hpl := popc_le (wd qs q i ^^^ w)
    rw [rdF] at he
    refine r_iload S dX12_read_36 rfl ?_
    refine r_iload_n S dX12_read_38 rfl ?_
    refine r_icmp_ge S dX12_read_39 (tgt := 77) (by decide) ⟨by omega, by omega⟩ ⟨by omega, by omega⟩ (fun h_39 => ?_) (fun h_39 => ?_)
    · omega
    · refine r_aload_n S dX12_read_42 rfl ?_
      refine r_iload S dX12_read_43 rfl ?_
      refine r_callV S (c_wordOfM hM hq hQ hqs (by omega)) k_mX12_wordOf c_RX12_153_11 dX12_read_45 (by decide) ⟨by omega, by omega⟩ (by repeat (first | assumption | exact sUp_same | exact sNew_same | refine sUp_ne (by first | assumption | omega) ?_)) rfl rfl (Nat.le_of_ble_eq_true rfl) (fun r σ' hp => ?_)
      obtain ⟨_, rfl, rfl, rfl⟩ := hp
      try simp only [Option.toList_some, Option.toList_none, List.cons_append, List.nil_append]
      refine r_iload_n S dX12_read_48 rfl ?_
      refine r_ixor S dX12_read_49 (xorZ _ _) ?_
      refine r_callS S (c_ones (xor_lt (hwl i) hw2)) k_mX12_ones c_RX12_156 dX12_read_50 (by decide) ⟨by omega, by omega⟩ rfl rfl (Nat.le_of_ble_eq_true rfl) (fun r σ' hp => ?_)
      obtain ⟨_, rfl, rfl, rfl⟩ := hp
      try simp only [Option.toList_some, Option.toList_none, List.cons_append, List.nil_append]
      refine r_iload_n S dX12_read_53 rfl ?_
      refine r_icmp_gt S dX12_read_54 (tgt := 71) (by decide) ⟨by omega, by omega⟩ ⟨by omega, by omega⟩ (fun h_54 => ?_) (fun h_54 => ?_)
      · rw [if_neg (by simp only [decide_eq_true_eq]; omega)] at he
        refine r_iinc S dX12_read_71 rfl rfl (by decide) (lv' := [_, _, _, _, _, _]) rfl ?_
        refine r_goto S dX12_read_74 (tgt := 36) (by decide) ?_
        exact ih (i + 1) (by omega) _ hnr he
      · rw [if_pos (by simp only [decide_eq_true_eq]; omega)] at he
        refine r_iload S dX12_read_57 rfl ?_
        refine r_bipush S dX12_read_59 (by decide) ?_
        refine r_icmp_eq S dX12_read_61 (tgt := 67) (by decide) ⟨by omega, by omega⟩ ⟨by omega, by omega⟩ (fun h_61 => ?_) (fun h_61 => ?_)
        · rw [if_pos h_61] at he
          refine r_iload S dX12_read_67 rfl ?_
          refine r_istore S dX12_read_69 rfl (by decide) (lv' := [_, _, _, _, _, _]) rfl ?_
          refine r_iinc S dX12_read_71 rfl rfl (by decide) (lv' := [_, _, _, _, _, _]) rfl ?_
          refine r_goto S dX12_read_74 (tgt := 36) (by decide) ?_
          exact ih (i + 1) (by omega) _ (by omega) he
        · rw [if_neg h_61] at he
          refine r_bipush S dX12_read_64 (by decide) ?_
          exact r_iret S dX12_read_66 (by omega) (by omega) (⟨_, rfl, by rw [← he], rfl⟩)

set_option maxRecDepth 100000 in
set_option maxHeartbeats 4000000 in
theorem c_readM {k : Cx} {L0 : Launch} {σ : St} {wt tb tr sk sm : Int} {on kd n e an q : Nat} (hM : σ.2 (cBase k + 14) = some (oModel k on kd n e an wt tb q tr sk sm)) {qs : Nat → Nat} (hQ : σ.2 (cBase k + 17) = some (eI k 12 (fun j => (qs j : Int)))) (hq : q ≤ 12) (hqs : ∀ j, j < q → qs j < 65536) {w N E : Nat} (hw : w < 2 ^ q) (hN : 1 ≤ N ∧ N ≤ 16) (hE : E ≤ 3) : CtrV k L0 mX12_read 3 0 0 [.ref (cBase k + 14), .int (iZ (w : Int)), .int (iZ (N : Int)), .int (iZ (E : Int))] σ (fun v σ' => v = .int (iZ (rdF (fun i => decide (popc (wd qs q i ^^^ w) ≤ E)) N 0 (-9))) ∧ σ' = σ) := by
  refine Ctr.of (by decide +kernel) rfl (Nat.le_of_ble_eq_true rfl) ?_
  intro κ hl0 S
  subst hl0
  have hp12q := pw12 hq
  refine r_aload_n S dX12_read_0 rfl ?_
  refine r_iload_n S dX12_read_1 rfl ?_
  refine r_callV S (c_isWordM hM hq ⟨by omega, by omega⟩) k_mX12_isWord c_RX12_159_11 dX12_read_2 (by decide) ⟨by omega, by omega⟩ (by repeat (first | assumption | exact sUp_same | exact sNew_same | refine sUp_ne (by first | assumption | omega) ?_)) rfl rfl (Nat.le_of_ble_eq_true rfl) (fun r σ' hp => ?_)
  obtain ⟨_, rfl, rfl, rfl⟩ := hp
  try simp only [Option.toList_some, Option.toList_none, List.cons_append, List.nil_append]
  refine r_if_eq S dX12_read_5 (tgt := 27) (by decide) (b01_R _) (fun h_5 => ?_) (fun h_5 => ?_)
  · simp only [b01_z, Decidable.not_not] at h_5
    omega
  · simp only [b01_z, Decidable.not_not] at h_5
    refine r_iload_n S dX12_read_8 rfl ?_
    refine r_iconst S dX12_read_9 ?_
    refine r_bipush S dX12_read_10 (by decide) ?_
    refine r_callS S (c_in ⟨by omega, by omega⟩ ⟨by decide, by decide⟩ ⟨by decide, by decide⟩) k_mX12_in c_RX12_53 dX12_read_12 (by decide) ⟨by omega, by omega⟩ rfl rfl (Nat.le_of_ble_eq_true rfl) (fun r σ' hp => ?_)
    obtain ⟨_, rfl, rfl, rfl⟩ := hp
    try simp only [Option.toList_some, Option.toList_none, List.cons_append, List.nil_append]
    refine r_if_eq S dX12_read_15 (tgt := 27) (by decide) (b01_R _) (fun h_15 => ?_) (fun h_15 => ?_)
    · simp only [b01_z, Decidable.not_not] at h_15
      omega
    · simp only [b01_z, Decidable.not_not] at h_15
      refine r_iload_n S dX12_read_18 rfl ?_
      refine r_iconst S dX12_read_19 ?_
      refine r_iconst S dX12_read_20 ?_
      refine r_callS S (c_in ⟨by omega, by omega⟩ ⟨by decide, by decide⟩ ⟨by decide, by decide⟩) k_mX12_in c_RX12_53 dX12_read_21 (by decide) ⟨by omega, by omega⟩ rfl rfl (Nat.le_of_ble_eq_true rfl) (fun r σ' hp => ?_)
      obtain ⟨_, rfl, rfl, rfl⟩ := hp
      try simp only [Option.toList_some, Option.toList_none, List.cons_append, List.nil_append]
      refine r_if_ne S dX12_read_24 (tgt := 29) (by decide) (b01_R _) (fun h_24 => ?_) (fun h_24 => ?_)
      · simp only [b01_z, Decidable.not_not] at h_24
        refine r_bipush S dX12_read_29 (by decide) ?_
        refine r_istore S dX12_read_31 rfl (by decide) (lv' := [_, _, _, _, _, _]) rfl ?_
        refine r_iconst S dX12_read_33 ?_
        refine r_istore S dX12_read_34 rfl (by decide) (lv' := [_, _, _, _, _, _]) rfl ?_
        exact l_readM hM hQ hq hqs hw hN hE S N 0 (by omega) _ (by omega) rfl
      · simp only [b01_z, Decidable.not_not] at h_24
        omega

set_option maxRecDepth 100000 in
set_option maxHeartbeats 4000000 in
theorem c_beginM0 {k : Cx} {L0 : Launch} {σ : St} {wt tb tr sk sm : Int} {on kd n e an q : Nat} (hM : σ.2 (cBase k + 14) = some (oModel k on kd n e an wt tb q tr sk sm)) {a b c : Int} (ha : zR a) (hb : zR b) (hc : zR c) (hbad : ¬ (0 ≤ a ∧ a < 3) ∨ ¬ (1 ≤ b ∧ b ≤ 16) ∨ (a ≠ 0 ∧ ¬ (0 ≤ c ∧ c ≤ 3))) : CtrV k L0 mX12_begin 6 0 0 [.ref (cBase k + 14), .int (iZ a), .int (iZ b), .int (iZ c)] σ (fun v σ' => v = .int (iZ (-1)) ∧ σ' = σ) := by
  refine Ctr.of (by decide +kernel) rfl (Nat.le_of_ble_eq_true rfl) ?_
  intro κ hl0 S
  subst hl0
  refine r_iload_n S dX12_begin_0 rfl ?_
  refine r_iconst S dX12_begin_1 ?_
  refine r_iconst S dX12_begin_2 ?_
  refine r_callS S (c_in ha ⟨by decide, by decide⟩ ⟨by decide, by decide⟩) k_mX12_in c_RX12_53 dX12_begin_3 (by decide) ⟨by omega, by omega⟩ rfl rfl (Nat.le_of_ble_eq_true rfl) (fun r σ' hp => ?_)
  obtain ⟨_, rfl, rfl, rfl⟩ := hp
  try simp only [Option.toList_some, Option.toList_none, List.cons_append, List.nil_append]
  refine r_if_eq S dX12_begin_6 (tgt := 32) (by decide) (b01_R _) (fun h_6 => ?_) (fun h_6 => ?_)
  · simp only [b01_z, Decidable.not_not] at h_6
    refine r_iconst S dX12_begin_32 ?_
    exact r_iret S dX12_begin_33 (by omega) (by omega) (⟨_, rfl, rfl, rfl⟩)
  · simp only [b01_z, Decidable.not_not] at h_6
    refine r_iload_n S dX12_begin_9 rfl ?_
    refine r_iconst S dX12_begin_10 ?_
    refine r_bipush S dX12_begin_11 (by decide) ?_
    refine r_callS S (c_in hb ⟨by decide, by decide⟩ ⟨by decide, by decide⟩) k_mX12_in c_RX12_53 dX12_begin_13 (by decide) ⟨by omega, by omega⟩ rfl rfl (Nat.le_of_ble_eq_true rfl) (fun r σ' hp => ?_)
    obtain ⟨_, rfl, rfl, rfl⟩ := hp
    try simp only [Option.toList_some, Option.toList_none, List.cons_append, List.nil_append]
    refine r_if_eq S dX12_begin_16 (tgt := 32) (by decide) (b01_R _) (fun h_16 => ?_) (fun h_16 => ?_)
    · simp only [b01_z, Decidable.not_not] at h_16
      refine r_iconst S dX12_begin_32 ?_
      exact r_iret S dX12_begin_33 (by omega) (by omega) (⟨_, rfl, rfl, rfl⟩)
    · simp only [b01_z, Decidable.not_not] at h_16
      refine r_iload_n S dX12_begin_19 rfl ?_
      refine r_if_eq S dX12_begin_20 (tgt := 34) (by decide) ha (fun h_20 => ?_) (fun h_20 => ?_)
      · omega
      · refine r_iload_n S dX12_begin_23 rfl ?_
        refine r_iconst S dX12_begin_24 ?_
        refine r_iconst S dX12_begin_25 ?_
        refine r_callS S (c_in hc ⟨by decide, by decide⟩ ⟨by decide, by decide⟩) k_mX12_in c_RX12_53 dX12_begin_26 (by decide) ⟨by omega, by omega⟩ rfl rfl (Nat.le_of_ble_eq_true rfl) (fun r σ' hp => ?_)
        obtain ⟨_, rfl, rfl, rfl⟩ := hp
        try simp only [Option.toList_some, Option.toList_none, List.cons_append, List.nil_append]
        refine r_if_ne S dX12_begin_29 (tgt := 34) (by decide) (b01_R _) (fun h_29 => ?_) (fun h_29 => ?_)
        · simp only [b01_z, Decidable.not_not] at h_29
          omega
        · simp only [b01_z, Decidable.not_not] at h_29
          refine r_iconst S dX12_begin_32 ?_
          exact r_iret S dX12_begin_33 (by omega) (by omega) (⟨_, rfl, rfl, rfl⟩)

/-- LEFT at a new game, the first i places laid -/
def bgF (l0 : Nat → Int) (n e i : Nat) : Nat → Int := fun j => if j < i then (if j < n then (e : Int) else -1) else l0 j
theorem bgF_0 (l0 : Nat → Int) (n e : Nat) : bgF l0 n e 0 = l0 := by funext j; exact if_neg (by omega)
theorem bgF_succ (l0 : Nat → Int) (n e i : Nat) {z : Int} (hz : z = if i < n then (e : Int) else -1) : uZ (bgF l0 n e i) i z = bgF l0 n e (i + 1) := by
  subst hz
  funext j
  unfold uZ bgF
  by_cases h : j = i
  · subst h; rw [if_pos rfl, if_pos (show j < j + 1 by omega)]
  · rw [if_neg h]
    by_cases h2 : j < i
    · rw [if_pos h2, if_pos (show j < i + 1 by omega)]
    · rw [if_neg h2, if_neg (show ¬ j < i + 1 by omega)]
theorem bgF_rng {l0 : Nat → Int} (h : ∀ j, -1 ≤ l0 j ∧ l0 j ≤ 3) (n : Nat) {e : Nat} (he : e ≤ 3) (i : Nat) : ∀ j, -1 ≤ bgF l0 n e i j ∧ bgF l0 n e i j ≤ 3 := by
  intro j
  have := h j
  unfold bgF
  split
  · split <;> omega
  · omega

set_option maxRecDepth 100000 in
set_option maxHeartbeats 4000000 in
theorem l_beginM {κ : Kx} {k : Cx} {σ : St} {wt tb tr sk sm : Int} {on0 kd0 n0 e0 an0 q : Nat} (hM0 : σ.2 (cBase k + 14) = some (oModel k on0 kd0 n0 e0 an0 wt tb q tr sk sm)) {l0 : Nat → Int} (hL : σ.2 (cBase k + 15) = some (eI k 16 l0)) (hl : ∀ j, -1 ≤ l0 j ∧ l0 j ≤ 3) (hW : WS k σ) {kd n e : Nat} {c : Int} (hc : zR c) (hk : kd < 3) (hn : 1 ≤ n ∧ n ≤ 16) (he : e ≤ 3) (hce : (kd = 0 ∧ e = 0) ∨ (kd ≠ 0 ∧ c = (e : Int))) (S : Ok κ k cX12_begin 5 RX12 (some .int) "begin" 6 0 0) : ∀ (m i : Nat), i + m = 16 → V κ k 5 0 0 (QR κ k (fun r9 σ' => ∃ v, r9 = some v ∧ (v = .int (iZ (if (fewN (cyK kd) (cnK kd) (hQ (bgF l0 n e 16) 0 n) : Int) = 13 then -9 else (fewN (cyK kd) (cnK kd) (hQ (bgF l0 n e 16) 0 n) : Int))) ∧ WS k σ' ∧ FrG k (sUp (sUp σ (cBase k + 14) (oModel k 1 kd n e 0 (-1) tb q tr sk sm)) (cBase k + 15) (eI k 16 (bgF l0 n e 16))) σ')) 0 0) 75 [some (.ref (cBase k + 14)), some (.int (iZ (kd : Int))), some (.int (iZ (n : Int))), some (.int (iZ c)), some (.int (iZ (i : Int)))] [] (sUp (sUp σ (cBase k + 14) (oModel k 1 kd n e 0 (-1) tb q tr sk sm)) (cBase k + 15) (eI k 16 (bgF l0 n e i))) := by
  intro m
  induction m with
  | zero =>
    intro i hi
    have e16 : i = 16 := by omega
    subst e16
    refine r_iload S dX12_begin_75 rfl ?_
    refine r_bipush S dX12_begin_77 (by decide) ?_
    refine r_icmp_ge S dX12_begin_79 (tgt := 112) (by decide) ⟨by omega, by omega⟩ ⟨by omega, by omega⟩ (fun h_79 => ?_) (fun h_79 => ?_)
    · have hMz : (sUp (sUp σ (cBase k + 14) (oModel k 1 kd n e 0 (-1) tb q tr sk sm)) (cBase k + 15) (eI k 16 (bgF l0 n e 16))).2 (cBase k + 14) = some (oModel k 1 kd n e 0 (-1) tb q tr sk sm) := sUp_ne (by omega) sUp_same
      have hLz : (sUp (sUp σ (cBase k + 14) (oModel k 1 kd n e 0 (-1) tb q tr sk sm)) (cBase k + 15) (eI k 16 (bgF l0 n e 16))).2 (cBase k + 15) = some (eI k 16 (bgF l0 n e 16)) := sUp_same
      have hWz : WS k (sUp (sUp σ (cBase k + 14) (oModel k 1 kd n e 0 (-1) tb q tr sk sm)) (cBase k + 15) (eI k 16 (bgF l0 n e 16))) := hW.fr (fun a ha hb => sUp_ne (by omega) (sUp_ne (by omega) rfl))
      have hst : 1 ≤ (hQ (bgF l0 n e 16) 0 n).1 := by
        have hpos : 0 < cnt (fun i => decide (0 ≤ bgF l0 n e 16 (0 + i))) n := by
          have h1 := cnt_mono (fun i => decide (0 ≤ bgF l0 n e 16 (0 + i))) (show 1 ≤ n from hn.1)
          have h2 : cnt (fun i => decide (0 ≤ bgF l0 n e 16 (0 + i))) 1 = cnt (fun i => decide (0 ≤ bgF l0 n e 16 (0 + i))) 0 + 1 := cnt_t (decide_eq_true (by unfold bgF; rw [if_pos (by omega), if_pos (by omega)]; omega))
          omega
        exact hpos
      obtain ⟨⟨R, hRT⟩, ⟨mo, hMM⟩, t, hT, ht⟩ := id hWz
      have hfl := fewN_le (cyK kd) (cnK kd) (hQ (bgF l0 n e 16) 0 n)
      refine r_aload_n S dX12_begin_112 rfl ?_
      refine r_aload_n S dX12_begin_113 rfl ?_
      refine r_getf S g_RX12_13_11 dX12_begin_114 (by repeat (first | assumption | exact sUp_same | exact sNew_same | refine sUp_ne (by first | assumption | omega) ?_)) rfl ?_
      refine r_callV S (c_worthOf hMz hLz ⟨by omega, by omega⟩ (bgF_rng hl n he 16) hn.2 hk hRT hMM hst) k_mX12_worthOf c_RX12_104_11 dX12_begin_117 (by decide) ⟨by omega, by omega⟩ (by repeat (first | assumption | exact sUp_same | exact sNew_same | refine sUp_ne (by first | assumption | omega) ?_)) rfl rfl (Nat.le_of_ble_eq_true rfl) (fun r σ' hp => ?_)
      obtain ⟨_, rfl, rfl, R4, hRT4, hK4, ⟨mo4, hMM4, hmo4⟩, hF4⟩ := hp
      try simp only [Option.toList_some, Option.toList_none, List.cons_append, List.nil_append]
      refine r_callS S (c_shown ⟨by omega, by omega⟩) k_mX12_shown c_RX12_108 dX12_begin_120 (by decide) ⟨by omega, by omega⟩ rfl rfl (Nat.le_of_ble_eq_true rfl) (fun r σ' hp => ?_)
      obtain ⟨_, rfl, rfl, rfl⟩ := hp
      try simp only [Option.toList_some, Option.toList_none, List.cons_append, List.nil_append]
      exact r_iret S dX12_begin_123 (by omega) (by omega) (⟨_, rfl, rfl, ⟨⟨R4, hRT4⟩, ⟨mo4, hMM4⟩, _, hF4.at (by omega) (by omega) hT, ht⟩, FrG.m hF4⟩)
    · omega
  | succ m ih =>
    intro i hi
    refine r_iload S dX12_begin_75 rfl ?_
    refine r_bipush S dX12_begin_77 (by decide) ?_
    refine r_icmp_ge S dX12_begin_79 (tgt := 112) (by decide) ⟨by omega, by omega⟩ ⟨by omega, by omega⟩ (fun h_79 => ?_) (fun h_79 => ?_)
    · omega
    · refine r_aload_n S dX12_begin_82 rfl ?_
      refine r_getf S g_RX12_13_11 dX12_begin_83 (by repeat (first | assumption | exact sUp_same | exact sNew_same | refine sUp_ne (by first | assumption | omega) ?_)) rfl ?_
      refine r_iload S dX12_begin_86 rfl ?_
      refine r_iload S dX12_begin_88 rfl ?_
      refine r_aload_n S dX12_begin_90 rfl ?_
      refine r_getf S g_RX12_91_11 dX12_begin_91 (by repeat (first | assumption | exact sUp_same | exact sNew_same | refine sUp_ne (by first | assumption | omega) ?_)) rfl ?_
      refine r_icmp_ge S dX12_begin_94 (tgt := 104) (by decide) ⟨by omega, by omega⟩ ⟨by omega, by omega⟩ (fun h_94 => ?_) (fun h_94 => ?_)
      · refine r_iconst S dX12_begin_104 ?_
        refine r_iastN S (i) dX12_begin_105 (by repeat (first | assumption | exact sUp_same | exact sNew_same | refine sUp_ne (by first | assumption | omega) ?_)) (by omega) (by omega) (by decide) ?_
        rw [sUp_sUp, bgF_succ l0 n e i (by rw [if_neg (by omega)])]
        refine r_iinc S dX12_begin_106 rfl rfl (by decide) (lv' := [_, _, _, _, _]) rfl ?_
        refine r_goto S dX12_begin_109 (tgt := 75) (by decide) ?_
        exact ih (i + 1) (by omega)
      · refine r_aload_n S dX12_begin_97 rfl ?_
        refine r_getf S g_RX12_98_11 dX12_begin_98 (by repeat (first | assumption | exact sUp_same | exact sNew_same | refine sUp_ne (by first | assumption | omega) ?_)) rfl ?_
        refine r_goto S dX12_begin_101 (tgt := 105) (by decide) ?_
        refine r_iastN S (i) dX12_begin_105 (by repeat (first | assumption | exact sUp_same | exact sNew_same | refine sUp_ne (by first | assumption | omega) ?_)) (by omega) (by omega) (by decide) ?_
        rw [sUp_sUp, bgF_succ l0 n e i (by rw [if_pos (by omega)])]
        refine r_iinc S dX12_begin_106 rfl rfl (by decide) (lv' := [_, _, _, _, _]) rfl ?_
        refine r_goto S dX12_begin_109 (tgt := 75) (by decide) ?_
        exact ih (i + 1) (by omega)

set_option maxRecDepth 100000 in
set_option maxHeartbeats 4000000 in
theorem c_beginM {k : Cx} {L0 : Launch} {σ : St} {wt tb tr sk sm : Int} {on0 kd0 n0 e0 an0 q : Nat} (hM0 : σ.2 (cBase k + 14) = some (oModel k on0 kd0 n0 e0 an0 wt tb q tr sk sm)) {l0 : Nat → Int} (hL : σ.2 (cBase k + 15) = some (eI k 16 l0)) (hl : ∀ j, -1 ≤ l0 j ∧ l0 j ≤ 3) (hW : WS k σ) {kd n e : Nat} {c : Int} (hc : zR c) (hk : kd < 3) (hn : 1 ≤ n ∧ n ≤ 16) (he : e ≤ 3) (hce : (kd = 0 ∧ e = 0) ∨ (kd ≠ 0 ∧ c = (e : Int))) : CtrV k L0 mX12_begin 6 0 0 [.ref (cBase k + 14), .int (iZ (kd : Int)), .int (iZ (n : Int)), .int (iZ c)] σ (fun v σ' => v = .int (iZ (if (fewN (cyK kd) (cnK kd) (hQ (bgF l0 n e 16) 0 n) : Int) = 13 then -9 else (fewN (cyK kd) (cnK kd) (hQ (bgF l0 n e 16) 0 n) : Int))) ∧ WS k σ' ∧ FrG k (sUp (sUp σ (cBase k + 14) (oModel k 1 kd n e 0 (-1) tb q tr sk sm)) (cBase k + 15) (eI k 16 (bgF l0 n e 16))) σ') := by
  refine Ctr.of (by decide +kernel) rfl (Nat.le_of_ble_eq_true rfl) ?_
  intro κ hl0 S
  subst hl0
  refine r_iload_n S dX12_begin_0 rfl ?_
  refine r_iconst S dX12_begin_1 ?_
  refine r_iconst S dX12_begin_2 ?_
  refine r_callS S (c_in ⟨by omega, by omega⟩ ⟨by decide, by decide⟩ ⟨by decide, by decide⟩) k_mX12_in c_RX12_53 dX12_begin_3 (by decide) ⟨by omega, by omega⟩ rfl rfl (Nat.le_of_ble_eq_true rfl) (fun r σ' hp => ?_)
  obtain ⟨_, rfl, rfl, rfl⟩ := hp
  try simp only [Option.toList_some, Option.toList_none, List.cons_append, List.nil_append]
  refine r_if_eq S dX12_begin_6 (tgt := 32) (by decide) (b01_R _) (fun h_6 => ?_) (fun h_6 => ?_)
  · simp only [b01_z, Decidable.not_not] at h_6
    omega
  · simp only [b01_z, Decidable.not_not] at h_6
    refine r_iload_n S dX12_begin_9 rfl ?_
    refine r_iconst S dX12_begin_10 ?_
    refine r_bipush S dX12_begin_11 (by decide) ?_
    refine r_callS S (c_in ⟨by omega, by omega⟩ ⟨by decide, by decide⟩ ⟨by decide, by decide⟩) k_mX12_in c_RX12_53 dX12_begin_13 (by decide) ⟨by omega, by omega⟩ rfl rfl (Nat.le_of_ble_eq_true rfl) (fun r σ' hp => ?_)
    obtain ⟨_, rfl, rfl, rfl⟩ := hp
    try simp only [Option.toList_some, Option.toList_none, List.cons_append, List.nil_append]
    refine r_if_eq S dX12_begin_16 (tgt := 32) (by decide) (b01_R _) (fun h_16 => ?_) (fun h_16 => ?_)
    · simp only [b01_z, Decidable.not_not] at h_16
      omega
    · simp only [b01_z, Decidable.not_not] at h_16
      refine r_iload_n S dX12_begin_19 rfl ?_
      refine r_if_eq S dX12_begin_20 (tgt := 34) (by decide) ⟨by omega, by omega⟩ (fun h_20 => ?_) (fun h_20 => ?_)
      · refine r_aload_n S dX12_begin_34 rfl ?_
        refine r_iconst S dX12_begin_35 ?_
        refine r_putf S p_RX12_49_11 dX12_begin_36 (by first | rfl | decide) (by first | rfl | decide) (by repeat (first | assumption | exact sUp_same | exact sNew_same | refine sUp_ne (by first | assumption | omega) ?_)) (Nat.le_of_ble_eq_true rfl) (fs' := [_, _, _, _, _, _, _, _, _, _, _, _, _, _, _, _, _, _, _, _, _]) rfl ?_
        try simp only [sUp_sUp]
        refine r_aload_n S dX12_begin_39 rfl ?_
        refine r_iload_n S dX12_begin_40 rfl ?_
        refine r_putf S p_RX12_88_11 dX12_begin_41 (by first | rfl | decide) (by first | rfl | decide) (by repeat (first | assumption | exact sUp_same | exact sNew_same | refine sUp_ne (by first | assumption | omega) ?_)) (Nat.le_of_ble_eq_true rfl) (fs' := [_, _, _, _, _, _, _, _, _, _, _, _, _, _, _, _, _, _, _, _, _]) rfl ?_
        try simp only [sUp_sUp]
        refine r_aload_n S dX12_begin_44 rfl ?_
        refine r_iload_n S dX12_begin_45 rfl ?_
        refine r_putf S p_RX12_91_11 dX12_begin_46 (by first | rfl | decide) (by first | rfl | decide) (by repeat (first | assumption | exact sUp_same | exact sNew_same | refine sUp_ne (by first | assumption | omega) ?_)) (Nat.le_of_ble_eq_true rfl) (fs' := [_, _, _, _, _, _, _, _, _, _, _, _, _, _, _, _, _, _, _, _, _]) rfl ?_
        try simp only [sUp_sUp]
        refine r_aload_n S dX12_begin_49 rfl ?_
        refine r_iload_n S dX12_begin_50 rfl ?_
        refine r_if_ne S dX12_begin_51 (tgt := 58) (by decide) ⟨by omega, by omega⟩ (fun h_51 => ?_) (fun h_51 => ?_)
        · refine r_iload_n S dX12_begin_58 rfl ?_
          refine r_num (z' := (e : Int)) (by omega) ?_
          refine r_putf S p_RX12_98_11 dX12_begin_59 (by first | rfl | decide) (by first | rfl | decide) (by repeat (first | assumption | exact sUp_same | exact sNew_same | refine sUp_ne (by first | assumption | omega) ?_)) (Nat.le_of_ble_eq_true rfl) (fs' := [_, _, _, _, _, _, _, _, _, _, _, _, _, _, _, _, _, _, _, _, _]) rfl ?_
          try simp only [sUp_sUp]
          refine r_aload_n S dX12_begin_62 rfl ?_
          refine r_iconst S dX12_begin_63 ?_
          refine r_putf S p_RX12_101_11 dX12_begin_64 (by first | rfl | decide) (by first | rfl | decide) (by repeat (first | assumption | exact sUp_same | exact sNew_same | refine sUp_ne (by first | assumption | omega) ?_)) (Nat.le_of_ble_eq_true rfl) (fs' := [_, _, _, _, _, _, _, _, _, _, _, _, _, _, _, _, _, _, _, _, _]) rfl ?_
          try simp only [sUp_sUp]
          refine r_aload_n S dX12_begin_67 rfl ?_
          refine r_iconst S dX12_begin_68 ?_
          refine r_putf S p_RX12_7_11 dX12_begin_69 (by first | rfl | decide) (by first | rfl | decide) (by repeat (first | assumption | exact sUp_same | exact sNew_same | refine sUp_ne (by first | assumption | omega) ?_)) (Nat.le_of_ble_eq_true rfl) (fs' := [_, _, _, _, _, _, _, _, _, _, _, _, _, _, _, _, _, _, _, _, _]) rfl ?_
          try simp only [sUp_sUp]
          refine r_iconst S dX12_begin_72 ?_
          refine r_istore S dX12_begin_73 rfl (by decide) (lv' := [_, _, _, _, _]) rfl ?_
          have h9 := l_beginM hM0 hL hl hW hc hk hn he hce S 16 0 (by omega)
          rw [bgF_0, sUp_id (sUp_ne (by omega) hL)] at h9
          exact h9
        · refine r_iconst S dX12_begin_54 ?_
          refine r_goto S dX12_begin_55 (tgt := 59) (by decide) ?_
          refine r_num (z' := (e : Int)) (by omega) ?_
          refine r_putf S p_RX12_98_11 dX12_begin_59 (by first | rfl | decide) (by first | rfl | decide) (by repeat (first | assumption | exact sUp_same | exact sNew_same | refine sUp_ne (by first | assumption | omega) ?_)) (Nat.le_of_ble_eq_true rfl) (fs' := [_, _, _, _, _, _, _, _, _, _, _, _, _, _, _, _, _, _, _, _, _]) rfl ?_
          try simp only [sUp_sUp]
          refine r_aload_n S dX12_begin_62 rfl ?_
          refine r_iconst S dX12_begin_63 ?_
          refine r_putf S p_RX12_101_11 dX12_begin_64 (by first | rfl | decide) (by first | rfl | decide) (by repeat (first | assumption | exact sUp_same | exact sNew_same | refine sUp_ne (by first | assumption | omega) ?_)) (Nat.le_of_ble_eq_true rfl) (fs' := [_, _, _, _, _, _, _, _, _, _, _, _, _, _, _, _, _, _, _, _, _]) rfl ?_
          try simp only [sUp_sUp]
          refine r_aload_n S dX12_begin_67 rfl ?_
          refine r_iconst S dX12_begin_68 ?_
          refine r_putf S p_RX12_7_11 dX12_begin_69 (by first | rfl | decide) (by first | rfl | decide) (by repeat (first | assumption | exact sUp_same | exact sNew_same | refine sUp_ne (by first | assumption | omega) ?_)) (Nat.le_of_ble_eq_true rfl) (fs' := [_, _, _, _, _, _, _, _, _, _, _, _, _, _, _, _, _, _, _, _, _]) rfl ?_
          try simp only [sUp_sUp]
          refine r_iconst S dX12_begin_72 ?_
          refine r_istore S dX12_begin_73 rfl (by decide) (lv' := [_, _, _, _, _]) rfl ?_
          have h9 := l_beginM hM0 hL hl hW hc hk hn he hce S 16 0 (by omega)
          rw [bgF_0, sUp_id (sUp_ne (by omega) hL)] at h9
          exact h9
      · refine r_iload_n S dX12_begin_23 rfl ?_
        refine r_iconst S dX12_begin_24 ?_
        refine r_iconst S dX12_begin_25 ?_
        refine r_callS S (c_in hc ⟨by decide, by decide⟩ ⟨by decide, by decide⟩) k_mX12_in c_RX12_53 dX12_begin_26 (by decide) ⟨by omega, by omega⟩ rfl rfl (Nat.le_of_ble_eq_true rfl) (fun r σ' hp => ?_)
        obtain ⟨_, rfl, rfl, rfl⟩ := hp
        try simp only [Option.toList_some, Option.toList_none, List.cons_append, List.nil_append]
        refine r_if_ne S dX12_begin_29 (tgt := 34) (by decide) (b01_R _) (fun h_29 => ?_) (fun h_29 => ?_)
        · simp only [b01_z, Decidable.not_not] at h_29
          refine r_aload_n S dX12_begin_34 rfl ?_
          refine r_iconst S dX12_begin_35 ?_
          refine r_putf S p_RX12_49_11 dX12_begin_36 (by first | rfl | decide) (by first | rfl | decide) (by repeat (first | assumption | exact sUp_same | exact sNew_same | refine sUp_ne (by first | assumption | omega) ?_)) (Nat.le_of_ble_eq_true rfl) (fs' := [_, _, _, _, _, _, _, _, _, _, _, _, _, _, _, _, _, _, _, _, _]) rfl ?_
          try simp only [sUp_sUp]
          refine r_aload_n S dX12_begin_39 rfl ?_
          refine r_iload_n S dX12_begin_40 rfl ?_
          refine r_putf S p_RX12_88_11 dX12_begin_41 (by first | rfl | decide) (by first | rfl | decide) (by repeat (first | assumption | exact sUp_same | exact sNew_same | refine sUp_ne (by first | assumption | omega) ?_)) (Nat.le_of_ble_eq_true rfl) (fs' := [_, _, _, _, _, _, _, _, _, _, _, _, _, _, _, _, _, _, _, _, _]) rfl ?_
          try simp only [sUp_sUp]
          refine r_aload_n S dX12_begin_44 rfl ?_
          refine r_iload_n S dX12_begin_45 rfl ?_
          refine r_putf S p_RX12_91_11 dX12_begin_46 (by first | rfl | decide) (by first | rfl | decide) (by repeat (first | assumption | exact sUp_same | exact sNew_same | refine sUp_ne (by first | assumption | omega) ?_)) (Nat.le_of_ble_eq_true rfl) (fs' := [_, _, _, _, _, _, _, _, _, _, _, _, _, _, _, _, _, _, _, _, _]) rfl ?_
          try simp only [sUp_sUp]
          refine r_aload_n S dX12_begin_49 rfl ?_
          refine r_iload_n S dX12_begin_50 rfl ?_
          refine r_if_ne S dX12_begin_51 (tgt := 58) (by decide) ⟨by omega, by omega⟩ (fun h_51 => ?_) (fun h_51 => ?_)
          · refine r_iload_n S dX12_begin_58 rfl ?_
            refine r_num (z' := (e : Int)) (by omega) ?_
            refine r_putf S p_RX12_98_11 dX12_begin_59 (by first | rfl | decide) (by first | rfl | decide) (by repeat (first | assumption | exact sUp_same | exact sNew_same | refine sUp_ne (by first | assumption | omega) ?_)) (Nat.le_of_ble_eq_true rfl) (fs' := [_, _, _, _, _, _, _, _, _, _, _, _, _, _, _, _, _, _, _, _, _]) rfl ?_
            try simp only [sUp_sUp]
            refine r_aload_n S dX12_begin_62 rfl ?_
            refine r_iconst S dX12_begin_63 ?_
            refine r_putf S p_RX12_101_11 dX12_begin_64 (by first | rfl | decide) (by first | rfl | decide) (by repeat (first | assumption | exact sUp_same | exact sNew_same | refine sUp_ne (by first | assumption | omega) ?_)) (Nat.le_of_ble_eq_true rfl) (fs' := [_, _, _, _, _, _, _, _, _, _, _, _, _, _, _, _, _, _, _, _, _]) rfl ?_
            try simp only [sUp_sUp]
            refine r_aload_n S dX12_begin_67 rfl ?_
            refine r_iconst S dX12_begin_68 ?_
            refine r_putf S p_RX12_7_11 dX12_begin_69 (by first | rfl | decide) (by first | rfl | decide) (by repeat (first | assumption | exact sUp_same | exact sNew_same | refine sUp_ne (by first | assumption | omega) ?_)) (Nat.le_of_ble_eq_true rfl) (fs' := [_, _, _, _, _, _, _, _, _, _, _, _, _, _, _, _, _, _, _, _, _]) rfl ?_
            try simp only [sUp_sUp]
            refine r_iconst S dX12_begin_72 ?_
            refine r_istore S dX12_begin_73 rfl (by decide) (lv' := [_, _, _, _, _]) rfl ?_
            have h9 := l_beginM hM0 hL hl hW hc hk hn he hce S 16 0 (by omega)
            rw [bgF_0, sUp_id (sUp_ne (by omega) hL)] at h9
            exact h9
          · refine r_iconst S dX12_begin_54 ?_
            refine r_goto S dX12_begin_55 (tgt := 59) (by decide) ?_
            refine r_num (z' := (e : Int)) (by omega) ?_
            refine r_putf S p_RX12_98_11 dX12_begin_59 (by first | rfl | decide) (by first | rfl | decide) (by repeat (first | assumption | exact sUp_same | exact sNew_same | refine sUp_ne (by first | assumption | omega) ?_)) (Nat.le_of_ble_eq_true rfl) (fs' := [_, _, _, _, _, _, _, _, _, _, _, _, _, _, _, _, _, _, _, _, _]) rfl ?_
            try simp only [sUp_sUp]
            refine r_aload_n S dX12_begin_62 rfl ?_
            refine r_iconst S dX12_begin_63 ?_
            refine r_putf S p_RX12_101_11 dX12_begin_64 (by first | rfl | decide) (by first | rfl | decide) (by repeat (first | assumption | exact sUp_same | exact sNew_same | refine sUp_ne (by first | assumption | omega) ?_)) (Nat.le_of_ble_eq_true rfl) (fs' := [_, _, _, _, _, _, _, _, _, _, _, _, _, _, _, _, _, _, _, _, _]) rfl ?_
            try simp only [sUp_sUp]
            refine r_aload_n S dX12_begin_67 rfl ?_
            refine r_iconst S dX12_begin_68 ?_
            refine r_putf S p_RX12_7_11 dX12_begin_69 (by first | rfl | decide) (by first | rfl | decide) (by repeat (first | assumption | exact sUp_same | exact sNew_same | refine sUp_ne (by first | assumption | omega) ?_)) (Nat.le_of_ble_eq_true rfl) (fs' := [_, _, _, _, _, _, _, _, _, _, _, _, _, _, _, _, _, _, _, _, _]) rfl ?_
            try simp only [sUp_sUp]
            refine r_iconst S dX12_begin_72 ?_
            refine r_istore S dX12_begin_73 rfl (by decide) (lv' := [_, _, _, _, _]) rfl ?_
            have h9 := l_beginM hM0 hL hl hW hc hk hn he hce S 16 0 (by omega)
            rw [bgF_0, sUp_id (sUp_ne (by omega) hL)] at h9
            exact h9
        · simp only [b01_z, Decidable.not_not] at h_29
          omega
