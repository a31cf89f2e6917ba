/-! WEIGHT -/
def ch3 (q : Nat) : Nat → Nat
  | 0 => 1
  | i + 1 => ch3 q i * (q - i) / (i + 1)
def wsum (q : Nat) : Nat → Int
  | 0 => 0
  | i + 1 => wsum q i + (ch3 q i : Int)
def SW (q : Nat) (l : Nat → Int) : Nat → Int
  | 0 => 0
  | i + 1 => SW q l i + wsum q (l i + 1).toNat
theorem SW_congr {q : Nat} {l l' : Nat → Int} : ∀ {n : Nat}, (∀ i, i < n → l i = l' i) → SW q l n = SW q l' n
  | 0, _ => rfl
  | n + 1, h => by rw [SW, SW, SW_congr (fun i hi => h i (by omega)), h n (by omega)]
theorem i2lZ {a : Int} (h : zR a) : (iZ a).toInt64 = lZ a := by
  have h1 : (iZ a).toInt64 = Int64.ofInt ((iZ a).toInt64).toInt := (Int64.ofInt_toInt _).symm
  rw [h1, Int32.toInt_toInt64, iZ_toInt h]
  rfl
theorem ch3_div : ∀ q : Nat, q < 21 → ∀ i : Nat, i < 4 → (¬ lZ ((i : Int) + 1) = 0) ∧ lZ ((ch3 q i : Int) * ((q : Int) - (i : Int))) / lZ ((i : Int) + 1) = lZ (ch3 q (i + 1) : Int) := by decide +kernel
theorem ch3_0 : ∀ q : Nat, q < 21 → ∀ i : Nat, i < 4 → q < i → ch3 q i = 0 := by decide +kernel
theorem r_lnum {κ : Kx} {k : Cx} {nL cs ss pc : Nat} {Q : State → Prop} {lv : List (Option Value)} {st : List Value} {σ : St} {z z' : Int} (e : z = z') (kk : V κ k nL cs ss Q pc lv (.long (lZ z') :: st) σ) : V κ k nL cs ss Q pc lv (.long (lZ z) :: st) σ := by rw [e]; exact kk
set_option maxRecDepth 100000 in
set_option maxHeartbeats 4000000 in
theorem l_ways {κ : Kx} {k : Cx} {σ : St} {q : Nat} (hq : q ≤ 20) {l : Int} (hl : -1 ≤ l ∧ l ≤ 3) (S : Ok κ k cX11_waysToLie 7 RX11 (some .long) "waysToLie" 1 0 0) : ∀ (m i : Nat), i + m = (l + 1).toNat → V κ k 7 0 0 (QR κ k (fun r9 σ' => ∃ v, r9 = some v ∧ (v = .long (lZ (wsum q (l + 1).toNat)) ∧ σ' = σ)) 0 0) 8 [some (.int (iZ (q : Int))), some (.int (iZ (l : Int))), some (.long (lZ (wsum q i))), none, some (.long (lZ ((ch3 q i : Int)))), none, some (.int (iZ (i : Int)))] [] σ := by
  intro m
  induction m with
  | zero =>
    intro i hi
    refine r_iload S dX11_waysToLie_8 rfl ?_
    refine r_iload_n S dX11_waysToLie_10 rfl ?_
    refine r_icmp_gt S dX11_waysToLie_11 (tgt := 41) (by decide) ⟨by omega, by omega⟩ ⟨by omega, by omega⟩ (fun h_11 => ?_) (fun h_11 => ?_)
    · refine r_lload_n S dX11_waysToLie_41 rfl ?_
      exact r_lret S dX11_waysToLie_42 (by omega) (by omega) (⟨_, rfl, by rw [← show i = (l + 1).toNat by omega], rfl⟩)
    · omega
  | succ m ih =>
    intro i hi
    refine r_iload S dX11_waysToLie_8 rfl ?_
    refine r_iload_n S dX11_waysToLie_10 rfl ?_
    refine r_icmp_gt S dX11_waysToLie_11 (tgt := 41) (by decide) ⟨by omega, by omega⟩ ⟨by omega, by omega⟩ (fun h_11 => ?_) (fun h_11 => ?_)
    · omega
    · refine r_lload_n S dX11_waysToLie_14 rfl ?_
      refine r_lload S dX11_waysToLie_15 rfl ?_
      refine r_ladd S dX11_waysToLie_17 ?_
      refine r_lstore_n S dX11_waysToLie_18 rfl (by decide) (lv' := [_, _, _, _, _, _, _]) rfl ?_
      refine r_lload S dX11_waysToLie_19 rfl ?_
      refine r_iload_n S dX11_waysToLie_21 rfl ?_
      refine r_iload S dX11_waysToLie_22 rfl ?_
      refine r_isub S dX11_waysToLie_24 ?_
      refine r_i2l S dX11_waysToLie_25 (i2lZ ⟨by omega, by omega⟩) ?_
      refine r_lmul S dX11_waysToLie_26 ?_
      refine r_iload S dX11_waysToLie_27 rfl ?_
      refine r_iconst S dX11_waysToLie_29 ?_
      refine r_iadd S dX11_waysToLie_30 ?_
      refine r_i2l S dX11_waysToLie_31 (i2lZ ⟨by omega, by omega⟩) ?_
      refine r_ldiv S dX11_waysToLie_32 ((ch3_div q (by omega) i (by omega)).1) ((ch3_div q (by omega) i (by omega)).2) ?_
      refine r_lstore S dX11_waysToLie_33 rfl (by decide) (lv' := [_, _, _, _, _, _, _]) rfl ?_
      refine r_iinc S dX11_waysToLie_35 rfl rfl (by decide) (lv' := [_, _, _, _, _, _, _]) rfl ?_
      refine r_goto S dX11_waysToLie_38 (tgt := 8) (by decide) ?_
      exact ih (i + 1) (by omega)

set_option maxRecDepth 100000 in
set_option maxHeartbeats 4000000 in
theorem c_ways {k : Cx} {L0 : Launch} {σ : St} {q : Nat} (hq : q ≤ 20) {l : Int} (hl : -1 ≤ l ∧ l ≤ 3) : CtrV k L0 mX11_waysToLie 1 0 0 [.int (iZ (q : Int)), .int (iZ l)] σ (fun v σ' => v = .long (lZ (wsum q (l + 1).toNat)) ∧ σ' = σ) := by
  refine Ctr.of (by decide +kernel) rfl (Nat.le_of_ble_eq_true rfl) ?_
  intro κ hl0 S
  subst hl0
  refine r_lconst S (z := 0) dX11_waysToLie_0 (by decide) ?_
  refine r_lstore_n S dX11_waysToLie_1 rfl (by decide) (lv' := [_, _, _, _, _, _, _]) rfl ?_
  refine r_lconst S (z := 1) dX11_waysToLie_2 (by decide) ?_
  refine r_lstore S dX11_waysToLie_3 rfl (by decide) (lv' := [_, _, _, _, _, _, _]) rfl ?_
  refine r_iconst S dX11_waysToLie_5 ?_
  refine r_istore S dX11_waysToLie_6 rfl (by decide) (lv' := [_, _, _, _, _, _, _]) rfl ?_
  exact l_ways hq hl S (l + 1).toNat 0 (by omega)

set_option maxRecDepth 100000 in
set_option maxHeartbeats 4000000 in
theorem l_choose {κ : Kx} {k : Cx} {σ : St} {q c : Nat} (hq : q ≤ 20) (hc : c ≤ 3) (S : Ok κ k cX12_choose 5 RX12 (some .long) "choose" 1 0 0) : ∀ (m i : Nat), i + m = c → V κ k 5 0 0 (QR κ k (fun r9 σ' => ∃ v, r9 = some v ∧ (v = .long (lZ (ch3 q c : Int)) ∧ σ' = σ)) 0 0) 5 [some (.int (iZ (q : Int))), some (.int (iZ (c : Int))), some (.long (lZ ((ch3 q i : Int)))), none, some (.int (iZ ((i : Int) + 1)))] [] σ := by
  intro m
  induction m with
  | zero =>
    intro i hi
    refine r_iload S dX12_choose_5 rfl ?_
    refine r_iload_n S dX12_choose_7 rfl ?_
    refine r_icmp_gt S dX12_choose_8 (tgt := 31) (by decide) ⟨by omega, by omega⟩ ⟨by omega, by omega⟩ (fun h_8 => ?_) (fun h_8 => ?_)
    · refine r_iload_n S dX12_choose_31 rfl ?_
      refine r_iload_n S dX12_choose_32 rfl ?_
      refine r_icmp_le S dX12_choose_33 (tgt := 40) (by decide) ⟨by omega, by omega⟩ ⟨by omega, by omega⟩ (fun h_33 => ?_) (fun h_33 => ?_)
      · refine r_lload_n S dX12_choose_40 rfl ?_
        exact r_lret S dX12_choose_41 (by omega) (by omega) (⟨_, rfl, by rw [← show i = c by omega], rfl⟩)
      · refine r_lconst S (z := 0) dX12_choose_36 (by decide) ?_
        refine r_lnum (z' := (ch3 q c : Int)) (by rw [ch3_0 q (by omega) c (by omega) (by omega)]; rfl) ?_
        refine r_goto S dX12_choose_37 (tgt := 41) (by decide) ?_
        exact r_lret S dX12_choose_41 (by omega) (by omega) (⟨_, rfl, rfl, rfl⟩)
    · omega
  | succ m ih =>
    intro i hi
    refine r_iload S dX12_choose_5 rfl ?_
    refine r_iload_n S dX12_choose_7 rfl ?_
    refine r_icmp_gt S dX12_choose_8 (tgt := 31) (by decide) ⟨by omega, by omega⟩ ⟨by omega, by omega⟩ (fun h_8 => ?_) (fun h_8 => ?_)
    · omega
    · refine r_lload_n S dX12_choose_11 rfl ?_
      refine r_iload_n S dX12_choose_12 rfl ?_
      refine r_iconst S dX12_choose_13 ?_
      refine r_iadd S dX12_choose_14 ?_
      refine r_iload S dX12_choose_15 rfl ?_
      refine r_isub S dX12_choose_17 ?_
      refine r_num (z' := (q : Int) - (i : Int)) (by omega) ?_
      refine r_i2l S dX12_choose_18 (i2lZ ⟨by omega, by omega⟩) ?_
      refine r_lmul S dX12_choose_19 ?_
      refine r_iload S dX12_choose_20 rfl ?_
      refine r_i2l S dX12_choose_22 (i2lZ ⟨by omega, by omega⟩) ?_
      refine r_ldiv S dX12_choose_23 ((ch3_div q (by omega) i (by omega)).1) ((ch3_div q (by omega) i (by omega)).2) ?_
      refine r_lstore_n S dX12_choose_24 rfl (by decide) (lv' := [_, _, _, _, _]) rfl ?_
      refine r_iinc S dX12_choose_25 rfl rfl (by decide) (lv' := [_, _, _, _, _]) rfl ?_
      refine r_goto S dX12_choose_28 (tgt := 5) (by decide) ?_
      exact ih (i + 1) (by omega)

set_option maxRecDepth 100000 in
set_option maxHeartbeats 4000000 in
theorem c_choose {k : Cx} {L0 : Launch} {σ : St} {q c : Nat} (hq : q ≤ 20) (hc : c ≤ 3) : CtrV k L0 mX12_choose 1 0 0 [.int (iZ (q : Int)), .int (iZ (c : Int))] σ (fun v σ' => v = .long (lZ ((ch3 q c : Int))) ∧ σ' = σ) := by
  refine Ctr.of (by decide +kernel) rfl (Nat.le_of_ble_eq_true rfl) ?_
  intro κ hl0 S
  subst hl0
  refine r_lconst S (z := 1) dX12_choose_0 (by decide) ?_
  refine r_lstore_n S dX12_choose_1 rfl (by decide) (lv' := [_, _, _, _, _]) rfl ?_
  refine r_iconst S dX12_choose_2 ?_
  refine r_istore S dX12_choose_3 rfl (by decide) (lv' := [_, _, _, _, _]) rfl ?_
  exact l_choose hq hc S c 0 (by omega)

set_option maxRecDepth 100000 in
set_option maxHeartbeats 4000000 in
theorem l_weightX {κ : Kx} {k : Cx} {σ : St} {tb e wt yp np : Int} {n an q : Nat} (hX : σ.2 (cBase k) = some (oX k tb)) (hG : σ.2 (cBase k + 9) = some (oGame k 1 1 n e an wt yp np)) {f : Nat → Int} (hL : σ.2 (cBase k + 10) = some (eI k 992 f)) (han : an ≤ 60) (hn : n ≤ 16) (hf : ∀ j, -1 ≤ f j ∧ f j ≤ 3) (hq : q ≤ 20) (S : Ok κ k cX11_weight 5 RX11 (some .long) "weight" 3 0 0) : ∀ (m i : Nat), i + m = n → V κ k 5 0 0 (QR κ k (fun r9 σ' => ∃ v, r9 = some v ∧ (v = .long (lZ (SW q (fun i => f (an * 16 + i)) n)) ∧ σ' = σ)) 0 0) 40 [some (.ref (cBase k)), some (.int (iZ (q : Int))), some (.long (lZ (SW q (fun i => f (an * 16 + i)) i))), none, some (.int (iZ (i : Int)))] [] σ := by
  intro m
  induction m with
  | zero =>
    intro i hi
    refine r_iload S dX11_weight_40 rfl ?_
    refine r_aload_n S dX11_weight_42 rfl ?_
    refine r_getf S g_RX11_47_10 dX11_weight_43 (by repeat (first | assumption | exact sUp_same | exact sNew_same | refine sUp_ne (by first | assumption | omega) ?_)) rfl ?_
    refine r_getf S g_RX11_135_3 dX11_weight_46 (by repeat (first | assumption | exact sUp_same | exact sNew_same | refine sUp_ne (by first | assumption | omega) ?_)) rfl ?_
    refine r_icmp_ge S dX11_weight_49 (tgt := 74) (by decide) ⟨by omega, by omega⟩ ⟨by omega, by omega⟩ (fun h_49 => ?_) (fun h_49 => ?_)
    · refine r_lload_n S dX11_weight_74 rfl ?_
      exact r_lret S dX11_weight_75 (by omega) (by omega) (⟨_, rfl, by rw [← show i = n by omega], rfl⟩)
    · omega
  | succ m ih =>
    intro i hi
    refine r_iload S dX11_weight_40 rfl ?_
    refine r_aload_n S dX11_weight_42 rfl ?_
    refine r_getf S g_RX11_47_10 dX11_weight_43 (by repeat (first | assumption | exact sUp_same | exact sNew_same | refine sUp_ne (by first | assumption | omega) ?_)) rfl ?_
    refine r_getf S g_RX11_135_3 dX11_weight_46 (by repeat (first | assumption | exact sUp_same | exact sNew_same | refine sUp_ne (by first | assumption | omega) ?_)) rfl ?_
    refine r_icmp_ge S dX11_weight_49 (tgt := 74) (by decide) ⟨by omega, by omega⟩ ⟨by omega, by omega⟩ (fun h_49 => ?_) (fun h_49 => ?_)
    · omega
    · refine r_lload_n S dX11_weight_52 rfl ?_
      refine r_iload_n S dX11_weight_53 rfl ?_
      refine r_aload_n S dX11_weight_54 rfl ?_
      refine r_getf S g_RX11_47_10 dX11_weight_55 (by repeat (first | assumption | exact sUp_same | exact sNew_same | refine sUp_ne (by first | assumption | omega) ?_)) rfl ?_
      refine r_iload S dX11_weight_58 rfl ?_
      refine r_callV S (c_leftOf hG hL han hn (by omega)) k_mX3_leftOf c_RX11_138_3 dX11_weight_60 (by decide) ⟨by omega, by omega⟩ (by repeat (first | assumption | exact sUp_same | exact sNew_same | refine sUp_ne (by first | assumption | omega) ?_)) rfl rfl (Nat.le_of_ble_eq_true rfl) (fun r σ' hp => ?_)
      obtain ⟨_, rfl, rfl, rfl⟩ := hp
      try simp only [Option.toList_some, Option.toList_none, List.cons_append, List.nil_append]
      refine r_callS S (c_ways hq (hf _)) k_mX11_waysToLie c_RX11_162 dX11_weight_63 (by decide) ⟨by omega, by omega⟩ rfl rfl (Nat.le_of_ble_eq_true rfl) (fun r σ' hp => ?_)
      obtain ⟨_, rfl, rfl, rfl⟩ := hp
      try simp only [Option.toList_some, Option.toList_none, List.cons_append, List.nil_append]
      refine r_ladd S dX11_weight_66 ?_
      refine r_lstore_n S dX11_weight_67 rfl (by decide) (lv' := [_, _, _, _, _]) rfl ?_
      refine r_iinc S dX11_weight_68 rfl rfl (by decide) (lv' := [_, _, _, _, _]) rfl ?_
      refine r_goto S dX11_weight_71 (tgt := 40) (by decide) ?_
      exact ih (i + 1) (by omega)

set_option maxRecDepth 100000 in
set_option maxHeartbeats 4000000 in
theorem c_weightX {k : Cx} {L0 : Launch} {σ : St} {tb e wt yp np : Int} {n an q : Nat} (hX : σ.2 (cBase k) = some (oX k tb)) (hG : σ.2 (cBase k + 9) = some (oGame k 1 1 n e an wt yp np)) {f : Nat → Int} (hL : σ.2 (cBase k + 10) = some (eI k 992 f)) (han : an ≤ 60) (hn : n ≤ 16) (hf : ∀ j, -1 ≤ f j ∧ f j ≤ 3) (hq : q ≤ 20) : CtrV k L0 mX11_weight 3 0 0 [.ref (cBase k), .int (iZ (q : Int))] σ (fun v σ' => v = .long (lZ (SW q (fun i => f (an * 16 + i)) n)) ∧ σ' = σ) := by
  refine Ctr.of (by decide +kernel) rfl (Nat.le_of_ble_eq_true rfl) ?_
  intro κ hl0 S
  subst hl0
  refine r_iload_n S dX11_weight_0 rfl ?_
  refine r_if_lt S dX11_weight_1 (tgt := 31) (by decide) ⟨by omega, by omega⟩ (fun h_1 => ?_) (fun h_1 => ?_)
  · omega
  · refine r_iload_n S dX11_weight_4 rfl ?_
    refine r_bipush S dX11_weight_5 (by decide) ?_
    refine r_icmp_gt S dX11_weight_7 (tgt := 31) (by decide) ⟨by omega, by omega⟩ ⟨by omega, by omega⟩ (fun h_7 => ?_) (fun h_7 => ?_)
    · omega
    · refine r_aload_n S dX11_weight_10 rfl ?_
      refine r_getf S g_RX11_47_10 dX11_weight_11 (by repeat (first | assumption | exact sUp_same | exact sNew_same | refine sUp_ne (by first | assumption | omega) ?_)) rfl ?_
      refine r_getf S g_RX11_105_3 dX11_weight_14 (by repeat (first | assumption | exact sUp_same | exact sNew_same | refine sUp_ne (by first | assumption | omega) ?_)) rfl ?_
      refine r_if_eq S dX11_weight_17 (tgt := 31) (by decide) ⟨by omega, by omega⟩ (fun h_17 => ?_) (fun h_17 => ?_)
      · omega
      · refine r_aload_n S dX11_weight_20 rfl ?_
        refine r_getf S g_RX11_47_10 dX11_weight_21 (by repeat (first | assumption | exact sUp_same | exact sNew_same | refine sUp_ne (by first | assumption | omega) ?_)) rfl ?_
        refine r_getf S g_RX11_147_3 dX11_weight_24 (by repeat (first | assumption | exact sUp_same | exact sNew_same | refine sUp_ne (by first | assumption | omega) ?_)) rfl ?_
        refine r_iconst S dX11_weight_27 ?_
        refine r_icmp_eq S dX11_weight_28 (tgt := 35) (by decide) ⟨by omega, by omega⟩ ⟨by omega, by omega⟩ (fun h_28 => ?_) (fun h_28 => ?_)
        · refine r_lconst S (z := 0) dX11_weight_35 (by decide) ?_
          refine r_lstore_n S dX11_weight_36 rfl (by decide) (lv' := [_, _, _, _, _]) rfl ?_
          refine r_iconst S dX11_weight_37 ?_
          refine r_istore S dX11_weight_38 rfl (by decide) (lv' := [_, _, _, _, _]) rfl ?_
          exact l_weightX hX hG hL han hn hf hq S n 0 (by omega)
        · omega

set_option maxRecDepth 100000 in
set_option maxHeartbeats 4000000 in
theorem c_weightX0 {k : Cx} {L0 : Launch} {σ : St} {tb e wt yp np z : Int} {on kd n an : Nat} (hX : σ.2 (cBase k) = some (oX k tb)) (hG : σ.2 (cBase k + 9) = some (oGame k on kd n e an wt yp np)) (hz : zR z) (hon : on < 2) (hkd : kd < 3) (hb : z < 0 ∨ 20 < z ∨ on = 0 ∨ kd ≠ 1) : CtrV k L0 mX11_weight 3 0 0 [.ref (cBase k), .int (iZ z)] σ (fun v σ' => v = .long (lZ (-1)) ∧ σ' = σ) := by
  refine Ctr.of (by decide +kernel) rfl (Nat.le_of_ble_eq_true rfl) ?_
  intro κ hl0 S
  subst hl0
  refine r_iload_n S dX11_weight_0 rfl ?_
  refine r_if_lt S dX11_weight_1 (tgt := 31) (by decide) hz (fun h_1 => ?_) (fun h_1 => ?_)
  · refine r_ldc2 S (n := -1) (by exact wd_535) dX11_weight_31 ?_
    exact r_lret S dX11_weight_34 (by omega) (by omega) (⟨_, rfl, rfl, rfl⟩)
  · refine r_iload_n S dX11_weight_4 rfl ?_
    refine r_bipush S dX11_weight_5 (by decide) ?_
    refine r_icmp_gt S dX11_weight_7 (tgt := 31) (by decide) hz ⟨by omega, by omega⟩ (fun h_7 => ?_) (fun h_7 => ?_)
    · refine r_ldc2 S (n := -1) (by exact wd_535) dX11_weight_31 ?_
      exact r_lret S dX11_weight_34 (by omega) (by omega) (⟨_, rfl, rfl, rfl⟩)
    · refine r_aload_n S dX11_weight_10 rfl ?_
      refine r_getf S g_RX11_47_10 dX11_weight_11 (by repeat (first | assumption | exact sUp_same | exact sNew_same | refine sUp_ne (by first | assumption | omega) ?_)) rfl ?_
      refine r_getf S g_RX11_105_3 dX11_weight_14 (by repeat (first | assumption | exact sUp_same | exact sNew_same | refine sUp_ne (by first | assumption | omega) ?_)) rfl ?_
      refine r_if_eq S dX11_weight_17 (tgt := 31) (by decide) ⟨by omega, by omega⟩ (fun h_17 => ?_) (fun h_17 => ?_)
      · refine r_ldc2 S (n := -1) (by exact wd_535) dX11_weight_31 ?_
        exact r_lret S dX11_weight_34 (by omega) (by omega) (⟨_, rfl, rfl, rfl⟩)
      · refine r_aload_n S dX11_weight_20 rfl ?_
        refine r_getf S g_RX11_47_10 dX11_weight_21 (by repeat (first | assumption | exact sUp_same | exact sNew_same | refine sUp_ne (by first | assumption | omega) ?_)) rfl ?_
        refine r_getf S g_RX11_147_3 dX11_weight_24 (by repeat (first | assumption | exact sUp_same | exact sNew_same | refine sUp_ne (by first | assumption | omega) ?_)) rfl ?_
        refine r_iconst S dX11_weight_27 ?_
        refine r_icmp_eq S dX11_weight_28 (tgt := 35) (by decide) ⟨by omega, by omega⟩ ⟨by omega, by omega⟩ (fun h_28 => ?_) (fun h_28 => ?_)
        · omega
        · refine r_ldc2 S (n := -1) (by exact wd_535) dX11_weight_31 ?_
          exact r_lret S dX11_weight_34 (by omega) (by omega) (⟨_, rfl, rfl, rfl⟩)

set_option maxRecDepth 100000 in
set_option maxHeartbeats 4000000 in
theorem l_wM1 {κ : Kx} {k : Cx} {σ : St} {e an wt tb qq tr sk sm : Int} {n q : Nat} (hM : σ.2 (cBase k + 14) = some (oModel k 1 1 n e an wt tb qq tr sk sm)) (hn : n ≤ 16) {l : Nat → Int} (hL : σ.2 (cBase k + 15) = some (eI k 16 l)) (hl : ∀ j, -1 ≤ l j ∧ l j ≤ 3) (hq : q ≤ 20) {i : Nat} (hi0 : i < n) (kk : V κ k 6 0 0 (QR κ k (fun r9 σ' => ∃ v, r9 = some v ∧ (v = .long (lZ (SW q l n)) ∧ σ' = σ)) 0 0) 73 [some (.ref (cBase k + 14)), some (.int (iZ (q : Int))), some (.long (lZ (SW q l i + wsum q (l i + 1).toNat))), none, some (.int (iZ (i : Int))), none] [] σ) (S : Ok κ k cX12_weight 6 RX12 (some .long) "weight" 2 0 0) : ∀ (m c : Nat), c + m = (l i + 1).toNat → V κ k 6 0 0 (QR κ k (fun r9 σ' => ∃ v, r9 = some v ∧ (v = .long (lZ (SW q l n)) ∧ σ' = σ)) 0 0) 46 [some (.ref (cBase k + 14)), some (.int (iZ (q : Int))), some (.long (lZ (SW q l i + wsum q c))), none, some (.int (iZ (i : Int))), some (.int (iZ (c : Int)))] [] σ := by
  intro m
  induction m with
  | zero =>
    intro c hi
    have hli := hl i
    refine r_iload S dX12_weight_46 rfl ?_
    refine r_aload_n S dX12_weight_48 rfl ?_
    refine r_getf S g_RX12_13_11 dX12_weight_49 (by repeat (first | assumption | exact sUp_same | exact sNew_same | refine sUp_ne (by first | assumption | omega) ?_)) rfl ?_
    refine r_iload S dX12_weight_52 rfl ?_
    refine r_ialdN S (i) dX12_weight_54 (by repeat (first | assumption | exact sUp_same | exact sNew_same | refine sUp_ne (by first | assumption | omega) ?_)) (by omega) (by omega) (by decide) ?_
    refine r_icmp_gt S dX12_weight_55 (tgt := 73) (by decide) ⟨by omega, by omega⟩ ⟨by omega, by omega⟩ (fun h_55 => ?_) (fun h_55 => ?_)
    · refine V.mask [true, true, true, false, true, false] (lv' := [_, _, _, none, _, none]) rfl ?_
      have e9 : c = (l i + 1).toNat := by omega
      subst e9
      exact kk
    · omega
  | succ m ih =>
    intro c hi
    have hli := hl i
    refine r_iload S dX12_weight_46 rfl ?_
    refine r_aload_n S dX12_weight_48 rfl ?_
    refine r_getf S g_RX12_13_11 dX12_weight_49 (by repeat (first | assumption | exact sUp_same | exact sNew_same | refine sUp_ne (by first | assumption | omega) ?_)) rfl ?_
    refine r_iload S dX12_weight_52 rfl ?_
    refine r_ialdN S (i) dX12_weight_54 (by repeat (first | assumption | exact sUp_same | exact sNew_same | refine sUp_ne (by first | assumption | omega) ?_)) (by omega) (by omega) (by decide) ?_
    refine r_icmp_gt S dX12_weight_55 (tgt := 73) (by decide) ⟨by omega, by omega⟩ ⟨by omega, by omega⟩ (fun h_55 => ?_) (fun h_55 => ?_)
    · omega
    · refine r_lload_n S dX12_weight_58 rfl ?_
      refine r_iload_n S dX12_weight_59 rfl ?_
      refine r_iload S dX12_weight_60 rfl ?_
      refine r_callS S (c_choose hq (by omega)) k_mX12_choose c_RX12_139 dX12_weight_62 (by decide) ⟨by omega, by omega⟩ rfl rfl (Nat.le_of_ble_eq_true rfl) (fun r σ' hp => ?_)
      obtain ⟨_, rfl, rfl, rfl⟩ := hp
      try simp only [Option.toList_some, Option.toList_none, List.cons_append, List.nil_append]
      refine r_ladd S dX12_weight_65 ?_
      refine r_lnum (z' := SW q l i + wsum q (c + 1)) (by rw [wsum, Int.add_assoc]) ?_
      refine r_lstore_n S dX12_weight_66 rfl (by decide) (lv' := [_, _, _, _, _, _]) rfl ?_
      refine r_iinc S dX12_weight_67 rfl rfl (by decide) (lv' := [_, _, _, _, _, _]) rfl ?_
      refine r_goto S dX12_weight_70 (tgt := 46) (by decide) ?_
      exact ih (c + 1) (by omega)

set_option maxRecDepth 100000 in
set_option maxHeartbeats 4000000 in
theorem l_wM2 {κ : Kx} {k : Cx} {σ : St} {e an wt tb qq tr sk sm : Int} {n q : Nat} (hM : σ.2 (cBase k + 14) = some (oModel k 1 1 n e an wt tb qq tr sk sm)) (hn : n ≤ 16) {l : Nat → Int} (hL : σ.2 (cBase k + 15) = some (eI k 16 l)) (hl : ∀ j, -1 ≤ l j ∧ l j ≤ 3) (hq : q ≤ 20) (S : Ok κ k cX12_weight 6 RX12 (some .long) "weight" 2 0 0) : ∀ (m i : Nat), i + m = n → V κ k 6 0 0 (QR κ k (fun r9 σ' => ∃ v, r9 = some v ∧ (v = .long (lZ (SW q l n)) ∧ σ' = σ)) 0 0) 34 [some (.ref (cBase k + 14)), some (.int (iZ (q : Int))), some (.long (lZ (SW q l i))), none, some (.int (iZ (i : Int))), none] [] σ := by
  intro m
  induction m with
  | zero =>
    intro i hi
    refine r_iload S dX12_weight_34 rfl ?_
    refine r_aload_n S dX12_weight_36 rfl ?_
    refine r_getf S g_RX12_91_11 dX12_weight_37 (by repeat (first | assumption | exact sUp_same | exact sNew_same | refine sUp_ne (by first | assumption | omega) ?_)) rfl ?_
    refine r_icmp_ge S dX12_weight_40 (tgt := 79) (by decide) ⟨by omega, by omega⟩ ⟨by omega, by omega⟩ (fun h_40 => ?_) (fun h_40 => ?_)
    · refine r_lload_n S dX12_weight_79 rfl ?_
      exact r_lret S dX12_weight_80 (by omega) (by omega) (⟨_, rfl, by rw [← show i = n by omega], rfl⟩)
    · omega
  | succ m ih =>
    intro i hi
    refine r_iload S dX12_weight_34 rfl ?_
    refine r_aload_n S dX12_weight_36 rfl ?_
    refine r_getf S g_RX12_91_11 dX12_weight_37 (by repeat (first | assumption | exact sUp_same | exact sNew_same | refine sUp_ne (by first | assumption | omega) ?_)) rfl ?_
    refine r_icmp_ge S dX12_weight_40 (tgt := 79) (by decide) ⟨by omega, by omega⟩ ⟨by omega, by omega⟩ (fun h_40 => ?_) (fun h_40 => ?_)
    · omega
    · refine r_iconst S dX12_weight_43 ?_
      refine r_istore S dX12_weight_44 rfl (by decide) (lv' := [_, _, _, _, _, _]) rfl ?_
      have h9 := l_wM1 hM hn hL hl hq (show i < n by omega) (by
        refine r_iinc S dX12_weight_73 rfl rfl (by decide) (lv' := [_, _, _, _, _, _]) rfl ?_
        refine r_goto S dX12_weight_76 (tgt := 34) (by decide) ?_
        exact ih (i + 1) (by omega)) S (l i + 1).toNat 0 (by omega)
      rw [show SW q l i + wsum q 0 = SW q l i from Int.add_zero _] at h9
      exact h9

set_option maxRecDepth 100000 in
set_option maxHeartbeats 4000000 in
theorem c_weightM {k : Cx} {L0 : Launch} {σ : St} {e an wt tb qq tr sk sm : Int} {n q : Nat} (hM : σ.2 (cBase k + 14) = some (oModel k 1 1 n e an wt tb qq tr sk sm)) (hn : n ≤ 16) {l : Nat → Int} (hL : σ.2 (cBase k + 15) = some (eI k 16 l)) (hl : ∀ j, -1 ≤ l j ∧ l j ≤ 3) (hq : q ≤ 20) : CtrV k L0 mX12_weight 2 0 0 [.ref (cBase k + 14), .int (iZ (q : Int))] σ (fun v σ' => v = .long (lZ (SW q l n)) ∧ σ' = σ) := by
  refine Ctr.of (by decide +kernel) rfl (Nat.le_of_ble_eq_true rfl) ?_
  intro κ hl0 S
  subst hl0
  refine r_iload_n S dX12_weight_0 rfl ?_
  refine r_iconst S dX12_weight_1 ?_
  refine r_bipush S dX12_weight_2 (by decide) ?_
  refine r_callS S (c_in ⟨by omega, by omega⟩ ⟨by decide, by decide⟩ ⟨by decide, by decide⟩) k_mX12_in c_RX12_53 dX12_weight_4 (by decide) ⟨by omega, by omega⟩ rfl rfl (Nat.le_of_ble_eq_true rfl) (fun r σ' hp => ?_)
  obtain ⟨_, rfl, rfl, rfl⟩ := hp
  try simp only [Option.toList_some, Option.toList_none, List.cons_append, List.nil_append]
  refine r_if_eq S dX12_weight_7 (tgt := 25) (by decide) (b01_R _) (fun h_7 => ?_) (fun h_7 => ?_)
  · simp only [b01_z, Decidable.not_not] at h_7
    omega
  · simp only [b01_z, Decidable.not_not] at h_7
    refine r_aload_n S dX12_weight_10 rfl ?_
    refine r_getf S g_RX12_49_11 dX12_weight_11 (by repeat (first | assumption | exact sUp_same | exact sNew_same | refine sUp_ne (by first | assumption | omega) ?_)) rfl ?_
    refine r_if_eq S dX12_weight_14 (tgt := 25) (by decide) ⟨by omega, by omega⟩ (fun h_14 => ?_) (fun h_14 => ?_)
    · omega
    · refine r_aload_n S dX12_weight_17 rfl ?_
      refine r_getf S g_RX12_88_11 dX12_weight_18 (by repeat (first | assumption | exact sUp_same | exact sNew_same | refine sUp_ne (by first | assumption | omega) ?_)) rfl ?_
      refine r_iconst S dX12_weight_21 ?_
      refine r_icmp_eq S dX12_weight_22 (tgt := 29) (by decide) ⟨by omega, by omega⟩ ⟨by omega, by omega⟩ (fun h_22 => ?_) (fun h_22 => ?_)
      · refine r_lconst S (z := 0) dX12_weight_29 (by decide) ?_
        refine r_lstore_n S dX12_weight_30 rfl (by decide) (lv' := [_, _, _, _, _, _]) rfl ?_
        refine r_iconst S dX12_weight_31 ?_
        refine r_istore S dX12_weight_32 rfl (by decide) (lv' := [_, _, _, _, _, _]) rfl ?_
        refine V.mask [true, true, true, false, true, false] (lv' := [_, _, _, none, _, none]) rfl ?_
        exact l_wM2 hM hn hL hl hq S n 0 (by omega)
      · omega

set_option maxRecDepth 100000 in
set_option maxHeartbeats 4000000 in
theorem c_weightM0 {k : Cx} {L0 : Launch} {σ : St} {e an wt tb qq tr sk sm z : Int} {hg kd n : Nat} (hM : σ.2 (cBase k + 14) = some (oModel k hg kd n e an wt tb qq tr sk sm)) (hz : zR z) (hon : hg < 2) (hkd : kd < 3) (hb : z < 0 ∨ 20 < z ∨ hg = 0 ∨ kd ≠ 1) : CtrV k L0 mX12_weight 2 0 0 [.ref (cBase k + 14), .int (iZ z)] σ (fun v σ' => v = .long (lZ (-1)) ∧ σ' = σ) := by
  refine Ctr.of (by decide +kernel) rfl (Nat.le_of_ble_eq_true rfl) ?_
  intro κ hl0 S
  subst hl0
  refine r_iload_n S dX12_weight_0 rfl ?_
  refine r_iconst S dX12_weight_1 ?_
  refine r_bipush S dX12_weight_2 (by decide) ?_
  refine r_callS S (c_in hz ⟨by decide, by decide⟩ ⟨by decide, by decide⟩) k_mX12_in c_RX12_53 dX12_weight_4 (by decide) ⟨by omega, by omega⟩ rfl rfl (Nat.le_of_ble_eq_true rfl) (fun r σ' hp => ?_)
  obtain ⟨_, rfl, rfl, rfl⟩ := hp
  try simp only [Option.toList_some, Option.toList_none, List.cons_append, List.nil_append]
  refine r_if_eq S dX12_weight_7 (tgt := 25) (by decide) (b01_R _) (fun h_7 => ?_) (fun h_7 => ?_)
  · simp only [b01_z, Decidable.not_not] at h_7
    refine r_ldc2 S (n := -1) (by exact wd_817) dX12_weight_25 ?_
    exact r_lret S dX12_weight_28 (by omega) (by omega) (⟨_, rfl, rfl, rfl⟩)
  · simp only [b01_z, Decidable.not_not] at h_7
    refine r_aload_n S dX12_weight_10 rfl ?_
    refine r_getf S g_RX12_49_11 dX12_weight_11 (by repeat (first | assumption | exact sUp_same | exact sNew_same | refine sUp_ne (by first | assumption | omega) ?_)) rfl ?_
    refine r_if_eq S dX12_weight_14 (tgt := 25) (by decide) ⟨by omega, by omega⟩ (fun h_14 => ?_) (fun h_14 => ?_)
    · refine r_ldc2 S (n := -1) (by exact wd_817) dX12_weight_25 ?_
      exact r_lret S dX12_weight_28 (by omega) (by omega) (⟨_, rfl, rfl, rfl⟩)
    · refine r_aload_n S dX12_weight_17 rfl ?_
      refine r_getf S g_RX12_88_11 dX12_weight_18 (by repeat (first | assumption | exact sUp_same | exact sNew_same | refine sUp_ne (by first | assumption | omega) ?_)) rfl ?_
      refine r_iconst S dX12_weight_21 ?_
      refine r_icmp_eq S dX12_weight_22 (tgt := 29) (by decide) ⟨by omega, by omega⟩ ⟨by omega, by omega⟩ (fun h_22 => ?_) (fun h_22 => ?_)
      · omega
      · refine r_ldc2 S (n := -1) (by exact wd_817) dX12_weight_25 ?_
        exact r_lret S dX12_weight_28 (by omega) (by omega) (⟨_, rfl, rfl, rfl⟩)
