set_option maxRecDepth 100000 in
set_option maxHeartbeats 4000000 in
theorem c_isKind {k : Cx} {L0 : Launch} {σ : St} {x : Int} (hx : zR x) : CtrV k L0 mX11_isKind 1 0 0 [.int (iZ x)] σ (fun v σ' => v = .int (iZ (b01 (0 ≤ x ∧ x < 3))) ∧ σ' = σ) := by
  refine Ctr.of (by decide +kernel) rfl (Nat.le_of_ble_eq_true rfl) ?_
  intro κ hl0 S
  subst hl0
  obtain ⟨hx1, hx2⟩ := hx
  refine r_iload_n S dX11_isKind_0 rfl ?_
  refine r_if_lt S dX11_isKind_1 (tgt := 13) (by decide) ⟨by omega, by omega⟩ (fun h_1 => ?_) (fun h_1 => ?_)
  · refine r_iconst S dX11_isKind_13 ?_
    exact r_zret S dX11_isKind_14 (by omega) (by omega) (by first | exact Or.inl rfl | exact Or.inr rfl | omega) (⟨_, rfl, by first | rw [b01_t (by omega)] | rw [b01_f (by omega)], rfl⟩)
  · refine r_iload_n S dX11_isKind_4 rfl ?_
    refine r_iconst S dX11_isKind_5 ?_
    refine r_icmp_ge S dX11_isKind_6 (tgt := 13) (by decide) ⟨by omega, by omega⟩ ⟨by omega, by omega⟩ (fun h_6 => ?_) (fun h_6 => ?_)
    · refine r_iconst S dX11_isKind_13 ?_
      exact r_zret S dX11_isKind_14 (by omega) (by omega) (by first | exact Or.inl rfl | exact Or.inr rfl | omega) (⟨_, rfl, by first | rw [b01_t (by omega)] | rw [b01_f (by omega)], rfl⟩)
    · refine r_iconst S dX11_isKind_9 ?_
      refine r_goto S dX11_isKind_10 (tgt := 14) (by decide) ?_
      exact r_zret S dX11_isKind_14 (by omega) (by omega) (by first | exact Or.inl rfl | exact Or.inr rfl | omega) (⟨_, rfl, by first | rw [b01_t (by omega)] | rw [b01_f (by omega)], rfl⟩)

set_option maxRecDepth 100000 in
set_option maxHeartbeats 4000000 in
theorem c_isNumber {k : Cx} {L0 : Launch} {σ : St} {x : Int} (hx : zR x) : CtrV k L0 mX11_isNumber 1 0 0 [.int (iZ x)] σ (fun v σ' => v = .int (iZ (b01 (0 ≤ x ∧ x < 16))) ∧ σ' = σ) := by
  refine Ctr.of (by decide +kernel) rfl (Nat.le_of_ble_eq_true rfl) ?_
  intro κ hl0 S
  subst hl0
  obtain ⟨hx1, hx2⟩ := hx
  refine r_iload_n S dX11_isNumber_0 rfl ?_
  refine r_if_lt S dX11_isNumber_1 (tgt := 14) (by decide) ⟨by omega, by omega⟩ (fun h_1 => ?_) (fun h_1 => ?_)
  · refine r_iconst S dX11_isNumber_14 ?_
    exact r_zret S dX11_isNumber_15 (by omega) (by omega) (by first | exact Or.inl rfl | exact Or.inr rfl | omega) (⟨_, rfl, by first | rw [b01_t (by omega)] | rw [b01_f (by omega)], rfl⟩)
  · refine r_iload_n S dX11_isNumber_4 rfl ?_
    refine r_bipush S dX11_isNumber_5 (by decide) ?_
    refine r_icmp_ge S dX11_isNumber_7 (tgt := 14) (by decide) ⟨by omega, by omega⟩ ⟨by omega, by omega⟩ (fun h_7 => ?_) (fun h_7 => ?_)
    · refine r_iconst S dX11_isNumber_14 ?_
      exact r_zret S dX11_isNumber_15 (by omega) (by omega) (by first | exact Or.inl rfl | exact Or.inr rfl | omega) (⟨_, rfl, by first | rw [b01_t (by omega)] | rw [b01_f (by omega)], rfl⟩)
    · refine r_iconst S dX11_isNumber_10 ?_
      refine r_goto S dX11_isNumber_11 (tgt := 15) (by decide) ?_
      exact r_zret S dX11_isNumber_15 (by omega) (by omega) (by first | exact Or.inl rfl | exact Or.inr rfl | omega) (⟨_, rfl, by first | rw [b01_t (by omega)] | rw [b01_f (by omega)], rfl⟩)

set_option maxRecDepth 100000 in
set_option maxHeartbeats 4000000 in
theorem c_isCount {k : Cx} {L0 : Launch} {σ : St} {x : Int} (hx : zR x) : CtrV k L0 mX11_isCount 1 0 0 [.int (iZ x)] σ (fun v σ' => v = .int (iZ (b01 (1 ≤ x ∧ x ≤ 16))) ∧ σ' = σ) := by
  refine Ctr.of (by decide +kernel) rfl (Nat.le_of_ble_eq_true rfl) ?_
  intro κ hl0 S
  subst hl0
  obtain ⟨hx1, hx2⟩ := hx
  refine r_iload_n S dX11_isCount_0 rfl ?_
  refine r_iconst S dX11_isCount_1 ?_
  refine r_icmp_lt S dX11_isCount_2 (tgt := 15) (by decide) ⟨by omega, by omega⟩ ⟨by omega, by omega⟩ (fun h_2 => ?_) (fun h_2 => ?_)
  · refine r_iconst S dX11_isCount_15 ?_
    exact r_zret S dX11_isCount_16 (by omega) (by omega) (by first | exact Or.inl rfl | exact Or.inr rfl | omega) (⟨_, rfl, by first | rw [b01_t (by omega)] | rw [b01_f (by omega)], rfl⟩)
  · refine r_iload_n S dX11_isCount_5 rfl ?_
    refine r_bipush S dX11_isCount_6 (by decide) ?_
    refine r_icmp_gt S dX11_isCount_8 (tgt := 15) (by decide) ⟨by omega, by omega⟩ ⟨by omega, by omega⟩ (fun h_8 => ?_) (fun h_8 => ?_)
    · refine r_iconst S dX11_isCount_15 ?_
      exact r_zret S dX11_isCount_16 (by omega) (by omega) (by first | exact Or.inl rfl | exact Or.inr rfl | omega) (⟨_, rfl, by first | rw [b01_t (by omega)] | rw [b01_f (by omega)], rfl⟩)
    · refine r_iconst S dX11_isCount_11 ?_
      refine r_goto S dX11_isCount_12 (tgt := 16) (by decide) ?_
      exact r_zret S dX11_isCount_16 (by omega) (by omega) (by first | exact Or.inl rfl | exact Or.inr rfl | omega) (⟨_, rfl, by first | rw [b01_t (by omega)] | rw [b01_f (by omega)], rfl⟩)

set_option maxRecDepth 100000 in
set_option maxHeartbeats 4000000 in
theorem c_isLies {k : Cx} {L0 : Launch} {σ : St} {x : Int} (hx : zR x) : CtrV k L0 mX11_isLies 1 0 0 [.int (iZ x)] σ (fun v σ' => v = .int (iZ (b01 (0 ≤ x ∧ x ≤ 3))) ∧ σ' = σ) := by
  refine Ctr.of (by decide +kernel) rfl (Nat.le_of_ble_eq_true rfl) ?_
  intro κ hl0 S
  subst hl0
  obtain ⟨hx1, hx2⟩ := hx
  refine r_iload_n S dX11_isLies_0 rfl ?_
  refine r_if_lt S dX11_isLies_1 (tgt := 13) (by decide) ⟨by omega, by omega⟩ (fun h_1 => ?_) (fun h_1 => ?_)
  · refine r_iconst S dX11_isLies_13 ?_
    exact r_zret S dX11_isLies_14 (by omega) (by omega) (by first | exact Or.inl rfl | exact Or.inr rfl | omega) (⟨_, rfl, by first | rw [b01_t (by omega)] | rw [b01_f (by omega)], rfl⟩)
  · refine r_iload_n S dX11_isLies_4 rfl ?_
    refine r_iconst S dX11_isLies_5 ?_
    refine r_icmp_gt S dX11_isLies_6 (tgt := 13) (by decide) ⟨by omega, by omega⟩ ⟨by omega, by omega⟩ (fun h_6 => ?_) (fun h_6 => ?_)
    · refine r_iconst S dX11_isLies_13 ?_
      exact r_zret S dX11_isLies_14 (by omega) (by omega) (by first | exact Or.inl rfl | exact Or.inr rfl | omega) (⟨_, rfl, by first | rw [b01_t (by omega)] | rw [b01_f (by omega)], rfl⟩)
    · refine r_iconst S dX11_isLies_9 ?_
      refine r_goto S dX11_isLies_10 (tgt := 14) (by decide) ?_
      exact r_zret S dX11_isLies_14 (by omega) (by omega) (by first | exact Or.inl rfl | exact Or.inr rfl | omega) (⟨_, rfl, by first | rw [b01_t (by omega)] | rw [b01_f (by omega)], rfl⟩)

set_option maxRecDepth 100000 in
set_option maxHeartbeats 4000000 in
theorem c_isHeap {k : Cx} {L0 : Launch} {σ : St} {x : Int} (hx : zR x) : CtrV k L0 mX11_isHeap 1 0 0 [.int (iZ x)] σ (fun v σ' => v = .int (iZ (b01 (0 ≤ x ∧ x ≤ 65535))) ∧ σ' = σ) := by
  refine Ctr.of (by decide +kernel) rfl (Nat.le_of_ble_eq_true rfl) ?_
  intro κ hl0 S
  subst hl0
  obtain ⟨hx1, hx2⟩ := hx
  refine r_iload_n S dX11_isHeap_0 rfl ?_
  refine r_if_lt S dX11_isHeap_1 (tgt := 14) (by decide) ⟨by omega, by omega⟩ (fun h_1 => ?_) (fun h_1 => ?_)
  · refine r_iconst S dX11_isHeap_14 ?_
    exact r_zret S dX11_isHeap_15 (by omega) (by omega) (by first | exact Or.inl rfl | exact Or.inr rfl | omega) (⟨_, rfl, by first | rw [b01_t (by omega)] | rw [b01_f (by omega)], rfl⟩)
  · refine r_iload_n S dX11_isHeap_4 rfl ?_
    refine r_ldc S (n := 65535) (by exact wd_391) dX11_isHeap_5 ?_
    refine r_icmp_gt S dX11_isHeap_7 (tgt := 14) (by decide) ⟨by omega, by omega⟩ ⟨by omega, by omega⟩ (fun h_7 => ?_) (fun h_7 => ?_)
    · refine r_iconst S dX11_isHeap_14 ?_
      exact r_zret S dX11_isHeap_15 (by omega) (by omega) (by first | exact Or.inl rfl | exact Or.inr rfl | omega) (⟨_, rfl, by first | rw [b01_t (by omega)] | rw [b01_f (by omega)], rfl⟩)
    · refine r_iconst S dX11_isHeap_10 ?_
      refine r_goto S dX11_isHeap_11 (tgt := 15) (by decide) ?_
      exact r_zret S dX11_isHeap_15 (by omega) (by omega) (by first | exact Or.inl rfl | exact Or.inr rfl | omega) (⟨_, rfl, by first | rw [b01_t (by omega)] | rw [b01_f (by omega)], rfl⟩)

set_option maxRecDepth 100000 in
set_option maxHeartbeats 4000000 in
theorem c_toldOrNone {k : Cx} {L0 : Launch} {σ : St} {x : Int} (hx : zR x) : CtrV k L0 mX11_toldOrNone 1 0 0 [.int (iZ x)] σ (fun v σ' => v = .int (iZ (if x ≤ 12 then x else -9)) ∧ σ' = σ) := by
  refine Ctr.of (by decide +kernel) rfl (Nat.le_of_ble_eq_true rfl) ?_
  intro κ hl0 S
  subst hl0
  obtain ⟨hx1, hx2⟩ := hx
  refine r_iload_n S dX11_toldOrNone_0 rfl ?_
  refine r_bipush S dX11_toldOrNone_1 (by decide) ?_
  refine r_icmp_le S dX11_toldOrNone_3 (tgt := 11) (by decide) ⟨by omega, by omega⟩ ⟨by omega, by omega⟩ (fun h_3 => ?_) (fun h_3 => ?_)
  · refine r_iload_n S dX11_toldOrNone_11 rfl ?_
    exact r_iret S dX11_toldOrNone_12 (by omega) (by omega) (⟨_, rfl, by first | rw [if_pos (by omega)] | rw [if_neg (by omega)], rfl⟩)
  · refine r_bipush S dX11_toldOrNone_6 (by decide) ?_
    refine r_goto S dX11_toldOrNone_8 (tgt := 12) (by decide) ?_
    exact r_iret S dX11_toldOrNone_12 (by omega) (by omega) (⟨_, rfl, by first | rw [if_pos (by omega)] | rw [if_neg (by omega)], rfl⟩)

set_option maxRecDepth 100000 in
set_option maxHeartbeats 4000000 in
theorem c_shown {k : Cx} {L0 : Launch} {σ : St} {x : Int} (hx : zR x) : CtrV k L0 mX12_shown 1 0 0 [.int (iZ x)] σ (fun v σ' => v = .int (iZ (if x = 13 then -9 else x)) ∧ σ' = σ) := by
  refine Ctr.of (by decide +kernel) rfl (Nat.le_of_ble_eq_true rfl) ?_
  intro κ hl0 S
  subst hl0
  obtain ⟨hx1, hx2⟩ := hx
  refine r_iload_n S dX12_shown_0 rfl ?_
  refine r_bipush S dX12_shown_1 (by decide) ?_
  refine r_icmp_ne S dX12_shown_3 (tgt := 11) (by decide) ⟨by omega, by omega⟩ ⟨by omega, by omega⟩ (fun h_3 => ?_) (fun h_3 => ?_)
  · refine r_iload_n S dX12_shown_11 rfl ?_
    exact r_iret S dX12_shown_12 (by omega) (by omega) (⟨_, rfl, by first | rw [if_pos (by omega)] | rw [if_neg (by omega)], rfl⟩)
  · refine r_bipush S dX12_shown_6 (by decide) ?_
    refine r_goto S dX12_shown_8 (tgt := 12) (by decide) ?_
    exact r_iret S dX12_shown_12 (by omega) (by omega) (⟨_, rfl, by first | rw [if_pos (by omega)] | rw [if_neg (by omega)], rfl⟩)

set_option maxRecDepth 100000 in
set_option maxHeartbeats 4000000 in
theorem c_in {k : Cx} {L0 : Launch} {σ : St} {x a b : Int} (hx : zR x) (ha : zR a) (hb : zR b) : CtrV k L0 mX12_in 1 0 0 [.int (iZ x), .int (iZ a), .int (iZ b)] σ (fun v σ' => v = .int (iZ (b01 (a ≤ x ∧ x ≤ b))) ∧ σ' = σ) := by
  refine Ctr.of (by decide +kernel) rfl (Nat.le_of_ble_eq_true rfl) ?_
  intro κ hl0 S
  subst hl0
  refine r_iload_n S dX12_in_0 rfl ?_
  refine r_iload_n S dX12_in_1 rfl ?_
  refine r_icmp_lt S dX12_in_2 (tgt := 14) (by decide) hx ha (fun h_2 => ?_) (fun h_2 => ?_)
  · refine r_iconst S dX12_in_14 ?_
    exact r_zret S dX12_in_15 (by omega) (by omega) (by first | exact Or.inl rfl | exact Or.inr rfl | omega) (⟨_, rfl, by first | rw [b01_t (by omega)] | rw [b01_f (by omega)], rfl⟩)
  · refine r_iload_n S dX12_in_5 rfl ?_
    refine r_iload_n S dX12_in_6 rfl ?_
    refine r_icmp_gt S dX12_in_7 (tgt := 14) (by decide) hx hb (fun h_7 => ?_) (fun h_7 => ?_)
    · refine r_iconst S dX12_in_14 ?_
      exact r_zret S dX12_in_15 (by omega) (by omega) (by first | exact Or.inl rfl | exact Or.inr rfl | omega) (⟨_, rfl, by first | rw [b01_t (by omega)] | rw [b01_f (by omega)], rfl⟩)
    · refine r_iconst S dX12_in_10 ?_
      refine r_goto S dX12_in_11 (tgt := 15) (by decide) ?_
      exact r_zret S dX12_in_15 (by omega) (by omega) (by first | exact Or.inl rfl | exact Or.inr rfl | omega) (⟨_, rfl, by first | rw [b01_t (by omega)] | rw [b01_f (by omega)], rfl⟩)

set_option maxRecDepth 100000 in
set_option maxHeartbeats 4000000 in
theorem c_isNumberM {k : Cx} {L0 : Launch} {σ : St} {x : Int} (hx : zR x) : CtrV k L0 mX12_isNumber 2 0 0 [.int (iZ x)] σ (fun v σ' => v = .int (iZ (b01 (0 ≤ x ∧ x ≤ 15))) ∧ σ' = σ) := by
  refine Ctr.of (by decide +kernel) rfl (Nat.le_of_ble_eq_true rfl) ?_
  intro κ hl0 S
  subst hl0
  refine r_iload_n S dX12_isNumber_0 rfl ?_
  refine r_iconst S dX12_isNumber_1 ?_
  refine r_bipush S dX12_isNumber_2 (by decide) ?_
  refine r_callS S (c_in hx ⟨by decide, by decide⟩ ⟨by decide, by decide⟩) k_mX12_in c_RX12_53 dX12_isNumber_4 (by decide) ⟨by omega, by omega⟩ rfl rfl (Nat.le_of_ble_eq_true rfl) (fun r σ' hp => ?_)
  obtain ⟨_, rfl, rfl, rfl⟩ := hp
  try simp only [Option.toList_some, Option.toList_none, List.cons_append, List.nil_append]
  exact r_zret S dX12_isNumber_7 (by omega) (by omega) (b01_01 _) (⟨_, rfl, rfl, rfl⟩)

set_option maxRecDepth 100000 in
set_option maxHeartbeats 4000000 in
theorem c_costOf {k : Cx} {L0 : Launch} {σ : St} {kd y b : Nat} (hk : kd < 3) (hy : y < 2) (hb : b < 2) : CtrV k L0 mX12_costOf 1 0 0 [.int (iZ (kd : Int)), .int (iZ (y : Int)), .int (iZ (b : Int))] σ (fun v σ' => v = .int (iZ (costK kd y b)) ∧ σ' = σ) := by
  refine Ctr.of (by decide +kernel) rfl (Nat.le_of_ble_eq_true rfl) ?_
  intro κ hl0 S
  subst hl0
  refine r_iload_n S dX12_costOf_0 rfl ?_
  refine r_iload_n S dX12_costOf_1 rfl ?_
  refine r_icmp_ne S dX12_costOf_2 (tgt := 9) (by decide) ⟨by omega, by omega⟩ ⟨by omega, by omega⟩ (fun h_2 => ?_) (fun h_2 => ?_)
  · refine r_iconst S dX12_costOf_9 ?_
    refine r_istore_n S dX12_costOf_10 rfl (by decide) (lv' := [_, _, _, _]) rfl ?_
    refine r_iload_n S dX12_costOf_11 rfl ?_
    refine r_if_eq S dX12_costOf_12 (tgt := 17) (by decide) ⟨by decide, by decide⟩ (fun h_12 => ?_) (fun h_12 => ?_)
    · refine r_iload_n S dX12_costOf_17 rfl ?_
      refine r_if_eq S dX12_costOf_18 (tgt := 30) (by decide) ⟨by omega, by omega⟩ (fun h_18 => ?_) (fun h_18 => ?_)
      · refine r_bipush S dX12_costOf_30 (by decide) ?_
        refine r_goto S dX12_costOf_32 (tgt := 36) (by decide) ?_
        exact r_iret S dX12_costOf_36 (by omega) (by omega) (⟨_, rfl, by unfold costK; rw [if_neg (by omega)]; first | rw [if_pos (by omega)] | rw [if_neg (by omega), if_pos (by omega)] | rw [if_neg (by omega), if_neg (by omega)], rfl⟩)
      · refine r_iload_n S dX12_costOf_21 rfl ?_
        refine r_iconst S dX12_costOf_22 ?_
        refine r_icmp_ne S dX12_costOf_23 (tgt := 35) (by decide) ⟨by omega, by omega⟩ ⟨by omega, by omega⟩ (fun h_23 => ?_) (fun h_23 => ?_)
        · refine r_iconst S dX12_costOf_35 ?_
          exact r_iret S dX12_costOf_36 (by omega) (by omega) (⟨_, rfl, by unfold costK; rw [if_neg (by omega)]; first | rw [if_pos (by omega)] | rw [if_neg (by omega), if_pos (by omega)] | rw [if_neg (by omega), if_neg (by omega)], rfl⟩)
        · refine r_iload_n S dX12_costOf_26 rfl ?_
          refine r_if_ne S dX12_costOf_27 (tgt := 35) (by decide) ⟨by omega, by omega⟩ (fun h_27 => ?_) (fun h_27 => ?_)
          · refine r_iconst S dX12_costOf_35 ?_
            exact r_iret S dX12_costOf_36 (by omega) (by omega) (⟨_, rfl, by unfold costK; rw [if_neg (by omega)]; first | rw [if_pos (by omega)] | rw [if_neg (by omega), if_pos (by omega)] | rw [if_neg (by omega), if_neg (by omega)], rfl⟩)
          · refine r_bipush S dX12_costOf_30 (by decide) ?_
            refine r_goto S dX12_costOf_32 (tgt := 36) (by decide) ?_
            exact r_iret S dX12_costOf_36 (by omega) (by omega) (⟨_, rfl, by unfold costK; rw [if_neg (by omega)]; first | rw [if_pos (by omega)] | rw [if_neg (by omega), if_pos (by omega)] | rw [if_neg (by omega), if_neg (by omega)], rfl⟩)
    · exact absurd rfl h_12
  · refine r_iconst S dX12_costOf_5 ?_
    refine r_goto S dX12_costOf_6 (tgt := 10) (by decide) ?_
    refine r_istore_n S dX12_costOf_10 rfl (by decide) (lv' := [_, _, _, _]) rfl ?_
    refine r_iload_n S dX12_costOf_11 rfl ?_
    refine r_if_eq S dX12_costOf_12 (tgt := 17) (by decide) ⟨by decide, by decide⟩ (fun h_12 => ?_) (fun h_12 => ?_)
    · exact absurd h_12 (by decide)
    · refine r_iconst S dX12_costOf_15 ?_
      exact r_iret S dX12_costOf_16 (by omega) (by omega) (⟨_, rfl, by unfold costK; rw [if_pos (by omega)], rfl⟩)

set_option maxRecDepth 100000 in
set_option maxHeartbeats 4000000 in
theorem c_price0 {k : Cx} {L0 : Launch} {σ : St} {t a : Nat} {z : Int} (hT : σ.2 t = some (oTally z)) {y b : Nat} (hy : y < 2) (hb : b < 2) : CtrV k L0 mX7_price 1 0 0 [.ref a, .int (iZ (y : Int)), .int (iZ (b : Int)), .ref t] σ (fun v σ' => v = .int (iZ (costK 0 y b)) ∧ σ' = sUp σ t (oTally (z + 1))) := by
  refine Ctr.of (by decide +kernel) rfl (Nat.le_of_ble_eq_true rfl) ?_
  intro κ hl0 S
  subst hl0
  refine r_aload_n S dX7_price_0 rfl ?_
  refine r_dup S dX7_price_1 rfl ?_
  refine r_getf S g_RX7_9_8 dX7_price_2 (by repeat (first | assumption | exact sUp_same | exact sNew_same | refine sUp_ne (by first | assumption | omega) ?_)) rfl ?_
  refine r_lconst S (z := 1) dX7_price_5 (by decide) ?_
  refine r_ladd S dX7_price_6 ?_
  refine r_putf S p_RX7_9_8 dX7_price_7 (by first | rfl | decide) (by first | rfl | decide) (by repeat (first | assumption | exact sUp_same | exact sNew_same | refine sUp_ne (by first | assumption | omega) ?_)) (Nat.le_of_ble_eq_true rfl) (fs' := [_]) rfl ?_
  try simp only [sUp_sUp]
  refine r_iload_n S dX7_price_10 rfl ?_
  refine r_iload_n S dX7_price_11 rfl ?_
  refine r_icmp_ne S dX7_price_12 (tgt := 19) (by decide) ⟨by omega, by omega⟩ ⟨by omega, by omega⟩ (fun h_12 => ?_) (fun h_12 => ?_)
  · refine r_bipush S dX7_price_19 (by decide) ?_
    exact r_iret S dX7_price_21 (by omega) (by omega) (⟨_, rfl, by unfold costK; first | rw [if_pos (by omega)] | rw [if_neg (by omega), if_pos (by omega)] | rw [if_neg (by omega), if_neg (by omega), if_pos (by omega)] | rw [if_neg (by omega), if_neg (by omega), if_neg (by omega)], rfl⟩)
  · refine r_iconst S dX7_price_15 ?_
    refine r_goto S dX7_price_16 (tgt := 21) (by decide) ?_
    exact r_iret S dX7_price_21 (by omega) (by omega) (⟨_, rfl, by unfold costK; first | rw [if_pos (by omega)] | rw [if_neg (by omega), if_pos (by omega)] | rw [if_neg (by omega), if_neg (by omega), if_pos (by omega)] | rw [if_neg (by omega), if_neg (by omega), if_neg (by omega)], rfl⟩)

set_option maxRecDepth 100000 in
set_option maxHeartbeats 4000000 in
theorem c_price1_1 {k : Cx} {L0 : Launch} {σ : St} {t a : Nat} {z : Int} (hT : σ.2 t = some (oTally z)) {y b : Nat} (hy : y < 2) (hb : b < 2) (hA : σ.2 a = some (.inr (1, []))) (hne : a ≠ t) : CtrV k L0 mX1_price 2 0 0 [.ref a, .int (iZ (y : Int)), .int (iZ (b : Int)), .ref t] σ (fun v σ' => v = .int (iZ (costK 1 y b)) ∧ σ' = sUp σ t (oTally (z + 11))) := by
  refine Ctr.of (by decide +kernel) rfl (Nat.le_of_ble_eq_true rfl) ?_
  intro κ hl0 S
  subst hl0
  refine r_aload_n S dX1_price_0 rfl ?_
  refine r_dup S dX1_price_1 rfl ?_
  refine r_getf S g_RX1_9_8 dX1_price_2 (by repeat (first | assumption | exact sUp_same | exact sNew_same | refine sUp_ne (by first | assumption | omega) ?_)) rfl ?_
  refine r_ldc2 S (n := 10) (by exact wd_201) dX1_price_5 ?_
  refine r_ladd S dX1_price_8 ?_
  refine r_putf S p_RX1_9_8 dX1_price_9 (by first | rfl | decide) (by first | rfl | decide) (by repeat (first | assumption | exact sUp_same | exact sNew_same | refine sUp_ne (by first | assumption | omega) ?_)) (Nat.le_of_ble_eq_true rfl) (fs' := [_]) rfl ?_
  try simp only [sUp_sUp]
  refine r_aload_n S dX1_price_12 rfl ?_
  refine r_iload_n S dX1_price_13 rfl ?_
  refine r_iload_n S dX1_price_14 rfl ?_
  refine r_aload_n S dX1_price_15 rfl ?_
  refine r_callP S (ci := 1) (c_price0 sUp_same hy hb) k_mX7_price c_RX1_17_s rfl dX1_price_16 (by decide) ⟨by omega, by omega⟩ (by repeat (first | assumption | exact sUp_same | exact sNew_same | refine sUp_ne (by first | assumption | omega) ?_)) rfl rfl (Nat.le_of_ble_eq_true rfl) (fun r σ' hp => ?_)
  obtain ⟨_, rfl, rfl, rfl⟩ := hp
  try simp only [Option.toList_some, Option.toList_none, List.cons_append, List.nil_append]
  simp only [sUp_sUp]
  have hc := costK_rng 0 y b
  obtain ⟨hk1, hk2⟩ := cK1 hy hb
  refine r_istore S dX1_price_19 rfl (by decide) (lv' := [_, _, _, _, _]) rfl ?_
  refine r_iload S dX1_price_21 rfl ?_
  refine r_bipush S dX1_price_23 (by decide) ?_
  refine r_icmp_ne S dX1_price_25 (tgt := 32) (by decide) ⟨by omega, by omega⟩ ⟨by omega, by omega⟩ (fun h_25 => ?_) (fun h_25 => ?_)
  · refine r_iload S dX1_price_32 rfl ?_
    exact r_iret S dX1_price_34 (by omega) (by omega) (⟨_, rfl, by first | rw [hk1 h_25] | rw [hk2 h_25], by rw [show z + 11 = z + 10 + 1 by omega]⟩)
  · refine r_iconst S dX1_price_28 ?_
    refine r_goto S dX1_price_29 (tgt := 34) (by decide) ?_
    exact r_iret S dX1_price_34 (by omega) (by omega) (⟨_, rfl, by first | rw [hk1 h_25] | rw [hk2 h_25], by rw [show z + 11 = z + 10 + 1 by omega]⟩)

set_option maxRecDepth 100000 in
set_option maxHeartbeats 4000000 in
theorem c_price1_9 {k : Cx} {L0 : Launch} {σ : St} {t a : Nat} {z : Int} (hT : σ.2 t = some (oTally z)) {y b : Nat} (hy : y < 2) (hb : b < 2) (hA : σ.2 a = some (.inr (9, []))) (hne : a ≠ t) : CtrV k L0 mX1_price 2 0 0 [.ref a, .int (iZ (y : Int)), .int (iZ (b : Int)), .ref t] σ (fun v σ' => v = .int (iZ (costK 1 y b)) ∧ σ' = sUp σ t (oTally (z + 11))) := by
  refine Ctr.of (by decide +kernel) rfl (Nat.le_of_ble_eq_true rfl) ?_
  intro κ hl0 S
  subst hl0
  refine r_aload_n S dX1_price_0 rfl ?_
  refine r_dup S dX1_price_1 rfl ?_
  refine r_getf S g_RX1_9_8 dX1_price_2 (by repeat (first | assumption | exact sUp_same | exact sNew_same | refine sUp_ne (by first | assumption | omega) ?_)) rfl ?_
  refine r_ldc2 S (n := 10) (by exact wd_201) dX1_price_5 ?_
  refine r_ladd S dX1_price_8 ?_
  refine r_putf S p_RX1_9_8 dX1_price_9 (by first | rfl | decide) (by first | rfl | decide) (by repeat (first | assumption | exact sUp_same | exact sNew_same | refine sUp_ne (by first | assumption | omega) ?_)) (Nat.le_of_ble_eq_true rfl) (fs' := [_]) rfl ?_
  try simp only [sUp_sUp]
  refine r_aload_n S dX1_price_12 rfl ?_
  refine r_iload_n S dX1_price_13 rfl ?_
  refine r_iload_n S dX1_price_14 rfl ?_
  refine r_aload_n S dX1_price_15 rfl ?_
  refine r_callP S (ci := 9) (c_price0 sUp_same hy hb) k_mX7_price c_RX1_17_s rfl dX1_price_16 (by decide) ⟨by omega, by omega⟩ (by repeat (first | assumption | exact sUp_same | exact sNew_same | refine sUp_ne (by first | assumption | omega) ?_)) rfl rfl (Nat.le_of_ble_eq_true rfl) (fun r σ' hp => ?_)
  obtain ⟨_, rfl, rfl, rfl⟩ := hp
  try simp only [Option.toList_some, Option.toList_none, List.cons_append, List.nil_append]
  simp only [sUp_sUp]
  have hc := costK_rng 0 y b
  obtain ⟨hk1, hk2⟩ := cK1 hy hb
  refine r_istore S dX1_price_19 rfl (by decide) (lv' := [_, _, _, _, _]) rfl ?_
  refine r_iload S dX1_price_21 rfl ?_
  refine r_bipush S dX1_price_23 (by decide) ?_
  refine r_icmp_ne S dX1_price_25 (tgt := 32) (by decide) ⟨by omega, by omega⟩ ⟨by omega, by omega⟩ (fun h_25 => ?_) (fun h_25 => ?_)
  · refine r_iload S dX1_price_32 rfl ?_
    exact r_iret S dX1_price_34 (by omega) (by omega) (⟨_, rfl, by first | rw [hk1 h_25] | rw [hk2 h_25], by rw [show z + 11 = z + 10 + 1 by omega]⟩)
  · refine r_iconst S dX1_price_28 ?_
    refine r_goto S dX1_price_29 (tgt := 34) (by decide) ?_
    exact r_iret S dX1_price_34 (by omega) (by omega) (⟨_, rfl, by first | rw [hk1 h_25] | rw [hk2 h_25], by rw [show z + 11 = z + 10 + 1 by omega]⟩)

set_option maxRecDepth 100000 in
set_option maxHeartbeats 4000000 in
theorem c_price2 {k : Cx} {L0 : Launch} {σ : St} {t a : Nat} {z : Int} (hT : σ.2 t = some (oTally z)) {y b : Nat} (hy : y < 2) (hb : b < 2) (hA : σ.2 a = some (.inr (9, []))) (hne : a ≠ t) : CtrV k L0 mX10_price 3 0 0 [.ref a, .int (iZ (y : Int)), .int (iZ (b : Int)), .ref t] σ (fun v σ' => v = .int (iZ (costK 2 y b)) ∧ σ' = sUp σ t (oTally (z + 111))) := by
  refine Ctr.of (by decide +kernel) rfl (Nat.le_of_ble_eq_true rfl) ?_
  intro κ hl0 S
  subst hl0
  refine r_aload_n S dX10_price_0 rfl ?_
  refine r_dup S dX10_price_1 rfl ?_
  refine r_getf S g_RX10_9_8 dX10_price_2 (by repeat (first | assumption | exact sUp_same | exact sNew_same | refine sUp_ne (by first | assumption | omega) ?_)) rfl ?_
  refine r_ldc2 S (n := 100) (by exact wd_206) dX10_price_5 ?_
  refine r_ladd S dX10_price_8 ?_
  refine r_putf S p_RX10_9_8 dX10_price_9 (by first | rfl | decide) (by first | rfl | decide) (by repeat (first | assumption | exact sUp_same | exact sNew_same | refine sUp_ne (by first | assumption | omega) ?_)) (Nat.le_of_ble_eq_true rfl) (fs' := [_]) rfl ?_
  try simp only [sUp_sUp]
  refine r_aload_n S dX10_price_12 rfl ?_
  refine r_iload_n S dX10_price_13 rfl ?_
  refine r_iload_n S dX10_price_14 rfl ?_
  refine r_aload_n S dX10_price_15 rfl ?_
  refine r_callP S (ci := 9) (c_price1_9 sUp_same hy hb (sUp_ne hne hA) hne) k_mX1_price c_RX10_17_s rfl dX10_price_16 (by decide) ⟨by omega, by omega⟩ (by repeat (first | assumption | exact sUp_same | exact sNew_same | refine sUp_ne (by first | assumption | omega) ?_)) rfl rfl (Nat.le_of_ble_eq_true rfl) (fun r σ' hp => ?_)
  obtain ⟨_, rfl, rfl, rfl⟩ := hp
  try simp only [Option.toList_some, Option.toList_none, List.cons_append, List.nil_append]
  simp only [sUp_sUp]
  have hc := costK_rng 1 y b
  obtain ⟨hk1, hk2⟩ := cK2 hy hb
  refine r_istore S dX10_price_19 rfl (by decide) (lv' := [_, _, _, _, _]) rfl ?_
  refine r_iload_n S dX10_price_21 rfl ?_
  refine r_if_eq S dX10_price_22 (tgt := 34) (by decide) ⟨by omega, by omega⟩ (fun h_22 => ?_) (fun h_22 => ?_)
  · refine r_iload S dX10_price_34 rfl ?_
    exact r_iret S dX10_price_36 (by omega) (by omega) (⟨_, rfl, by first | rw [hk1 (by omega)] | rw [hk2 (by omega) (by omega)], by rw [show z + 111 = z + 100 + 11 by omega]⟩)
  · refine r_iload_n S dX10_price_25 rfl ?_
    refine r_if_ne S dX10_price_26 (tgt := 34) (by decide) ⟨by omega, by omega⟩ (fun h_26 => ?_) (fun h_26 => ?_)
    · refine r_iload S dX10_price_34 rfl ?_
      exact r_iret S dX10_price_36 (by omega) (by omega) (⟨_, rfl, by first | rw [hk1 (by omega)] | rw [hk2 (by omega) (by omega)], by rw [show z + 111 = z + 100 + 11 by omega]⟩)
    · refine r_bipush S dX10_price_29 (by decide) ?_
      refine r_goto S dX10_price_31 (tgt := 36) (by decide) ?_
      exact r_iret S dX10_price_36 (by omega) (by omega) (⟨_, rfl, by first | rw [hk1 (by omega)] | rw [hk2 (by omega) (by omega)], by rw [show z + 111 = z + 100 + 11 by omega]⟩)

set_option maxRecDepth 100000 in
set_option maxHeartbeats 4000000 in
theorem c_yesPrice0 {k : Cx} {L0 : Launch} {σ : St} {tb z : Int} {lq : Nat → Option Nat} (hX : σ.2 (cBase k) = some (oX k tb)) (hLI : σ.2 (cBase k + 1) = some (eQ (cQL k) 3 lq)) (hl0 : lq 0 = some (cBase k + 2)) (hl1 : lq 1 = some (cBase k + 3)) (hl2 : lq 2 = some (cBase k + 4)) (hA0 : σ.2 (cBase k + 2) = some (.inr (6, []))) (hA1 : σ.2 (cBase k + 3) = some (.inr (1, []))) (hA2 : σ.2 (cBase k + 4) = some (.inr (9, []))) (hU : σ.2 (cBase k + 6) = some (oTally z)) : CtrV k L0 mX11_yesPrice 4 0 0 [.ref (cBase k), .int (iZ 0)] σ (fun v σ' => v = .int (iZ (costK 0 1 0)) ∧ σ' = sUp σ (cBase k + 6) (oTally (z + 1))) := by
  refine Ctr.of (by decide +kernel) rfl (Nat.le_of_ble_eq_true rfl) ?_
  intro κ hl0 S
  subst hl0
  refine r_aload_n S dX11_yesPrice_0 rfl ?_
  refine r_getf S g_RX11_18_10 dX11_yesPrice_1 (by repeat (first | assumption | exact sUp_same | exact sNew_same | refine sUp_ne (by first | assumption | omega) ?_)) rfl ?_
  refine r_iload_n S dX11_yesPrice_4 rfl ?_
  refine r_aaldN S (0) (t0 := 2) (v := .ref (cBase k + 2)) rfl dX11_yesPrice_5 (by repeat (first | assumption | exact sUp_same | exact sNew_same | refine sUp_ne (by first | assumption | omega) ?_)) (by decide) (by omega) (by decide) (by rw [hl0]; rfl) ?_
  refine r_iconst S dX11_yesPrice_6 ?_
  refine r_iconst S dX11_yesPrice_7 ?_
  refine r_aload_n S dX11_yesPrice_8 rfl ?_
  refine r_getf S g_RX11_29_10 dX11_yesPrice_9 (by repeat (first | assumption | exact sUp_same | exact sNew_same | refine sUp_ne (by first | assumption | omega) ?_)) rfl ?_
  refine r_callV S (c_price0 (y := 1) (b := 0) hU (by decide) (by decide)) k_mX7_price c_RX11_98_6 dX11_yesPrice_12 (by decide) ⟨by omega, by omega⟩ (by repeat (first | assumption | exact sUp_same | exact sNew_same | refine sUp_ne (by first | assumption | omega) ?_)) rfl rfl (Nat.le_of_ble_eq_true rfl) (fun r σ' hp => ?_)
  obtain ⟨_, rfl, rfl, rfl⟩ := hp
  try simp only [Option.toList_some, Option.toList_none, List.cons_append, List.nil_append]
  exact r_iret S dX11_yesPrice_15 (by omega) (by omega) (⟨_, rfl, rfl, rfl⟩)

set_option maxRecDepth 100000 in
set_option maxHeartbeats 4000000 in
theorem c_yesPrice1 {k : Cx} {L0 : Launch} {σ : St} {tb z : Int} {lq : Nat → Option Nat} (hX : σ.2 (cBase k) = some (oX k tb)) (hLI : σ.2 (cBase k + 1) = some (eQ (cQL k) 3 lq)) (hl0 : lq 0 = some (cBase k + 2)) (hl1 : lq 1 = some (cBase k + 3)) (hl2 : lq 2 = some (cBase k + 4)) (hA0 : σ.2 (cBase k + 2) = some (.inr (6, []))) (hA1 : σ.2 (cBase k + 3) = some (.inr (1, []))) (hA2 : σ.2 (cBase k + 4) = some (.inr (9, []))) (hU : σ.2 (cBase k + 6) = some (oTally z)) : CtrV k L0 mX11_yesPrice 4 0 0 [.ref (cBase k), .int (iZ 1)] σ (fun v σ' => v = .int (iZ (costK 1 1 0)) ∧ σ' = sUp σ (cBase k + 6) (oTally (z + 11))) := by
  refine Ctr.of (by decide +kernel) rfl (Nat.le_of_ble_eq_true rfl) ?_
  intro κ hl0 S
  subst hl0
  refine r_aload_n S dX11_yesPrice_0 rfl ?_
  refine r_getf S g_RX11_18_10 dX11_yesPrice_1 (by repeat (first | assumption | exact sUp_same | exact sNew_same | refine sUp_ne (by first | assumption | omega) ?_)) rfl ?_
  refine r_iload_n S dX11_yesPrice_4 rfl ?_
  refine r_aaldN S (1) (t0 := 2) (v := .ref (cBase k + 3)) rfl dX11_yesPrice_5 (by repeat (first | assumption | exact sUp_same | exact sNew_same | refine sUp_ne (by first | assumption | omega) ?_)) (by decide) (by omega) (by decide) (by rw [hl1]; rfl) ?_
  refine r_iconst S dX11_yesPrice_6 ?_
  refine r_iconst S dX11_yesPrice_7 ?_
  refine r_aload_n S dX11_yesPrice_8 rfl ?_
  refine r_getf S g_RX11_29_10 dX11_yesPrice_9 (by repeat (first | assumption | exact sUp_same | exact sNew_same | refine sUp_ne (by first | assumption | omega) ?_)) rfl ?_
  refine r_callU S (c_price1_1 (y := 1) (b := 0) hU (by decide) (by decide) hA1 (by omega)) k_mX1_price c_RX11_98_1 dX11_yesPrice_12 (by decide) ⟨by omega, by omega⟩ (by repeat (first | assumption | exact sUp_same | exact sNew_same | refine sUp_ne (by first | assumption | omega) ?_)) rfl rfl (Nat.le_of_ble_eq_true rfl) (fun r σ' hp => ?_)
  obtain ⟨_, rfl, rfl, rfl⟩ := hp
  try simp only [Option.toList_some, Option.toList_none, List.cons_append, List.nil_append]
  exact r_iret S dX11_yesPrice_15 (by omega) (by omega) (⟨_, rfl, rfl, rfl⟩)

set_option maxRecDepth 100000 in
set_option maxHeartbeats 4000000 in
theorem c_yesPrice2 {k : Cx} {L0 : Launch} {σ : St} {tb z : Int} {lq : Nat → Option Nat} (hX : σ.2 (cBase k) = some (oX k tb)) (hLI : σ.2 (cBase k + 1) = some (eQ (cQL k) 3 lq)) (hl0 : lq 0 = some (cBase k + 2)) (hl1 : lq 1 = some (cBase k + 3)) (hl2 : lq 2 = some (cBase k + 4)) (hA0 : σ.2 (cBase k + 2) = some (.inr (6, []))) (hA1 : σ.2 (cBase k + 3) = some (.inr (1, []))) (hA2 : σ.2 (cBase k + 4) = some (.inr (9, []))) (hU : σ.2 (cBase k + 6) = some (oTally z)) : CtrV k L0 mX11_yesPrice 4 0 0 [.ref (cBase k), .int (iZ 2)] σ (fun v σ' => v = .int (iZ (costK 2 1 0)) ∧ σ' = sUp σ (cBase k + 6) (oTally (z + 111))) := by
  refine Ctr.of (by decide +kernel) rfl (Nat.le_of_ble_eq_true rfl) ?_
  intro κ hl0 S
  subst hl0
  refine r_aload_n S dX11_yesPrice_0 rfl ?_
  refine r_getf S g_RX11_18_10 dX11_yesPrice_1 (by repeat (first | assumption | exact sUp_same | exact sNew_same | refine sUp_ne (by first | assumption | omega) ?_)) rfl ?_
  refine r_iload_n S dX11_yesPrice_4 rfl ?_
  refine r_aaldN S (2) (t0 := 2) (v := .ref (cBase k + 4)) rfl dX11_yesPrice_5 (by repeat (first | assumption | exact sUp_same | exact sNew_same | refine sUp_ne (by first | assumption | omega) ?_)) (by decide) (by omega) (by decide) (by rw [hl2]; rfl) ?_
  refine r_iconst S dX11_yesPrice_6 ?_
  refine r_iconst S dX11_yesPrice_7 ?_
  refine r_aload_n S dX11_yesPrice_8 rfl ?_
  refine r_getf S g_RX11_29_10 dX11_yesPrice_9 (by repeat (first | assumption | exact sUp_same | exact sNew_same | refine sUp_ne (by first | assumption | omega) ?_)) rfl ?_
  refine r_callU S (c_price2 (y := 1) (b := 0) hU (by decide) (by decide) hA2 (by omega)) k_mX10_price c_RX11_98_9 dX11_yesPrice_12 (by decide) ⟨by omega, by omega⟩ (by repeat (first | assumption | exact sUp_same | exact sNew_same | refine sUp_ne (by first | assumption | omega) ?_)) rfl rfl (Nat.le_of_ble_eq_true rfl) (fun r σ' hp => ?_)
  obtain ⟨_, rfl, rfl, rfl⟩ := hp
  try simp only [Option.toList_some, Option.toList_none, List.cons_append, List.nil_append]
  exact r_iret S dX11_yesPrice_15 (by omega) (by omega) (⟨_, rfl, rfl, rfl⟩)

set_option maxRecDepth 100000 in
set_option maxHeartbeats 4000000 in
theorem c_noPrice0 {k : Cx} {L0 : Launch} {σ : St} {tb z : Int} {lq : Nat → Option Nat} (hX : σ.2 (cBase k) = some (oX k tb)) (hLI : σ.2 (cBase k + 1) = some (eQ (cQL k) 3 lq)) (hl0 : lq 0 = some (cBase k + 2)) (hl1 : lq 1 = some (cBase k + 3)) (hl2 : lq 2 = some (cBase k + 4)) (hA0 : σ.2 (cBase k + 2) = some (.inr (6, []))) (hA1 : σ.2 (cBase k + 3) = some (.inr (1, []))) (hA2 : σ.2 (cBase k + 4) = some (.inr (9, []))) (hU : σ.2 (cBase k + 6) = some (oTally z)) : CtrV k L0 mX11_noPrice 4 0 0 [.ref (cBase k), .int (iZ 0)] σ (fun v σ' => v = .int (iZ (costK 0 0 1)) ∧ σ' = sUp σ (cBase k + 6) (oTally (z + 1))) := by
  refine Ctr.of (by decide +kernel) rfl (Nat.le_of_ble_eq_true rfl) ?_
  intro κ hl0 S
  subst hl0
  refine r_aload_n S dX11_noPrice_0 rfl ?_
  refine r_getf S g_RX11_18_10 dX11_noPrice_1 (by repeat (first | assumption | exact sUp_same | exact sNew_same | refine sUp_ne (by first | assumption | omega) ?_)) rfl ?_
  refine r_iload_n S dX11_noPrice_4 rfl ?_
  refine r_aaldN S (0) (t0 := 2) (v := .ref (cBase k + 2)) rfl dX11_noPrice_5 (by repeat (first | assumption | exact sUp_same | exact sNew_same | refine sUp_ne (by first | assumption | omega) ?_)) (by decide) (by omega) (by decide) (by rw [hl0]; rfl) ?_
  refine r_iconst S dX11_noPrice_6 ?_
  refine r_iconst S dX11_noPrice_7 ?_
  refine r_aload_n S dX11_noPrice_8 rfl ?_
  refine r_getf S g_RX11_29_10 dX11_noPrice_9 (by repeat (first | assumption | exact sUp_same | exact sNew_same | refine sUp_ne (by first | assumption | omega) ?_)) rfl ?_
  refine r_callV S (c_price0 (y := 0) (b := 1) hU (by decide) (by decide)) k_mX7_price c_RX11_98_6 dX11_noPrice_12 (by decide) ⟨by omega, by omega⟩ (by repeat (first | assumption | exact sUp_same | exact sNew_same | refine sUp_ne (by first | assumption | omega) ?_)) rfl rfl (Nat.le_of_ble_eq_true rfl) (fun r σ' hp => ?_)
  obtain ⟨_, rfl, rfl, rfl⟩ := hp
  try simp only [Option.toList_some, Option.toList_none, List.cons_append, List.nil_append]
  exact r_iret S dX11_noPrice_15 (by omega) (by omega) (⟨_, rfl, rfl, rfl⟩)

set_option maxRecDepth 100000 in
set_option maxHeartbeats 4000000 in
theorem c_noPrice1 {k : Cx} {L0 : Launch} {σ : St} {tb z : Int} {lq : Nat → Option Nat} (hX : σ.2 (cBase k) = some (oX k tb)) (hLI : σ.2 (cBase k + 1) = some (eQ (cQL k) 3 lq)) (hl0 : lq 0 = some (cBase k + 2)) (hl1 : lq 1 = some (cBase k + 3)) (hl2 : lq 2 = some (cBase k + 4)) (hA0 : σ.2 (cBase k + 2) = some (.inr (6, []))) (hA1 : σ.2 (cBase k + 3) = some (.inr (1, []))) (hA2 : σ.2 (cBase k + 4) = some (.inr (9, []))) (hU : σ.2 (cBase k + 6) = some (oTally z)) : CtrV k L0 mX11_noPrice 4 0 0 [.ref (cBase k), .int (iZ 1)] σ (fun v σ' => v = .int (iZ (costK 1 0 1)) ∧ σ' = sUp σ (cBase k + 6) (oTally (z + 11))) := by
  refine Ctr.of (by decide +kernel) rfl (Nat.le_of_ble_eq_true rfl) ?_
  intro κ hl0 S
  subst hl0
  refine r_aload_n S dX11_noPrice_0 rfl ?_
  refine r_getf S g_RX11_18_10 dX11_noPrice_1 (by repeat (first | assumption | exact sUp_same | exact sNew_same | refine sUp_ne (by first | assumption | omega) ?_)) rfl ?_
  refine r_iload_n S dX11_noPrice_4 rfl ?_
  refine r_aaldN S (1) (t0 := 2) (v := .ref (cBase k + 3)) rfl dX11_noPrice_5 (by repeat (first | assumption | exact sUp_same | exact sNew_same | refine sUp_ne (by first | assumption | omega) ?_)) (by decide) (by omega) (by decide) (by rw [hl1]; rfl) ?_
  refine r_iconst S dX11_noPrice_6 ?_
  refine r_iconst S dX11_noPrice_7 ?_
  refine r_aload_n S dX11_noPrice_8 rfl ?_
  refine r_getf S g_RX11_29_10 dX11_noPrice_9 (by repeat (first | assumption | exact sUp_same | exact sNew_same | refine sUp_ne (by first | assumption | omega) ?_)) rfl ?_
  refine r_callU S (c_price1_1 (y := 0) (b := 1) hU (by decide) (by decide) hA1 (by omega)) k_mX1_price c_RX11_98_1 dX11_noPrice_12 (by decide) ⟨by omega, by omega⟩ (by repeat (first | assumption | exact sUp_same | exact sNew_same | refine sUp_ne (by first | assumption | omega) ?_)) rfl rfl (Nat.le_of_ble_eq_true rfl) (fun r σ' hp => ?_)
  obtain ⟨_, rfl, rfl, rfl⟩ := hp
  try simp only [Option.toList_some, Option.toList_none, List.cons_append, List.nil_append]
  exact r_iret S dX11_noPrice_15 (by omega) (by omega) (⟨_, rfl, rfl, rfl⟩)

set_option maxRecDepth 100000 in
set_option maxHeartbeats 4000000 in
theorem c_noPrice2 {k : Cx} {L0 : Launch} {σ : St} {tb z : Int} {lq : Nat → Option Nat} (hX : σ.2 (cBase k) = some (oX k tb)) (hLI : σ.2 (cBase k + 1) = some (eQ (cQL k) 3 lq)) (hl0 : lq 0 = some (cBase k + 2)) (hl1 : lq 1 = some (cBase k + 3)) (hl2 : lq 2 = some (cBase k + 4)) (hA0 : σ.2 (cBase k + 2) = some (.inr (6, []))) (hA1 : σ.2 (cBase k + 3) = some (.inr (1, []))) (hA2 : σ.2 (cBase k + 4) = some (.inr (9, []))) (hU : σ.2 (cBase k + 6) = some (oTally z)) : CtrV k L0 mX11_noPrice 4 0 0 [.ref (cBase k), .int (iZ 2)] σ (fun v σ' => v = .int (iZ (costK 2 0 1)) ∧ σ' = sUp σ (cBase k + 6) (oTally (z + 111))) := by
  refine Ctr.of (by decide +kernel) rfl (Nat.le_of_ble_eq_true rfl) ?_
  intro κ hl0 S
  subst hl0
  refine r_aload_n S dX11_noPrice_0 rfl ?_
  refine r_getf S g_RX11_18_10 dX11_noPrice_1 (by repeat (first | assumption | exact sUp_same | exact sNew_same | refine sUp_ne (by first | assumption | omega) ?_)) rfl ?_
  refine r_iload_n S dX11_noPrice_4 rfl ?_
  refine r_aaldN S (2) (t0 := 2) (v := .ref (cBase k + 4)) rfl dX11_noPrice_5 (by repeat (first | assumption | exact sUp_same | exact sNew_same | refine sUp_ne (by first | assumption | omega) ?_)) (by decide) (by omega) (by decide) (by rw [hl2]; rfl) ?_
  refine r_iconst S dX11_noPrice_6 ?_
  refine r_iconst S dX11_noPrice_7 ?_
  refine r_aload_n S dX11_noPrice_8 rfl ?_
  refine r_getf S g_RX11_29_10 dX11_noPrice_9 (by repeat (first | assumption | exact sUp_same | exact sNew_same | refine sUp_ne (by first | assumption | omega) ?_)) rfl ?_
  refine r_callU S (c_price2 (y := 0) (b := 1) hU (by decide) (by decide) hA2 (by omega)) k_mX10_price c_RX11_98_9 dX11_noPrice_12 (by decide) ⟨by omega, by omega⟩ (by repeat (first | assumption | exact sUp_same | exact sNew_same | refine sUp_ne (by first | assumption | omega) ?_)) rfl rfl (Nat.le_of_ble_eq_true rfl) (fun r σ' hp => ?_)
  obtain ⟨_, rfl, rfl, rfl⟩ := hp
  try simp only [Option.toList_some, Option.toList_none, List.cons_append, List.nil_append]
  exact r_iret S dX11_noPrice_15 (by omega) (by omega) (⟨_, rfl, rfl, rfl⟩)
