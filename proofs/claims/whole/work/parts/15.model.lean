set_option maxRecDepth 100000 in
set_option maxHeartbeats 4000000 in
theorem l_many {κ : Kx} {k : Cx} {σ : St} {hg e wt tb tr sk sm q : Int} {kd n an : Nat} (hM : σ.2 (cBase k + 14) = some (oModel k hg kd n e an wt tb q tr sk sm)) (hn : n ≤ 16) {l : Nat → Int} (hL : σ.2 (cBase k + 15) = some (eI k 16 l)) (hl : ∀ j, -1 ≤ l j ∧ l j ≤ 3) (S : Ok κ k cX12_many 3 RX12 (some .int) "many" 1 0 0) : ∀ (m i : Nat), i + m = n → V κ k 3 0 0 (QR κ k (fun r σ' => ∃ v, r = some v ∧ (v = .int (iZ (cnt (fun j => decide (0 ≤ l j)) n : Int)) ∧ σ' = σ)) 0 0) 4 [some (.ref (cBase k + 14)), some (.int (iZ (cnt (fun j => decide (0 ≤ l j)) i : Int))), some (.int (iZ (i : Int)))] [] σ := by
  intro m
  induction m with
  | zero =>
    intro i hi
    have hin : i = n := by omega
    subst hin
    have hcl := cnt_le (fun j => decide (0 ≤ l j)) i
    refine r_iload_n S dX12_many_4 rfl ?_
    refine r_aload_n S dX12_many_5 rfl ?_
    refine r_getf S g_RX12_91_11 dX12_many_6 (by repeat (first | assumption | exact sUp_same | exact sNew_same | refine sUp_ne (by first | assumption | omega) ?_)) rfl ?_
    refine r_icmp_ge S dX12_many_9 (tgt := 35) (by decide) ⟨by omega, by omega⟩ ⟨by omega, by omega⟩ (fun h_9 => ?_) (fun h_9 => ?_)
    · refine r_iload_n S dX12_many_35 rfl ?_
      exact r_iret S dX12_many_36 (by omega) (by omega) (⟨_, rfl, rfl, rfl⟩)
    · omega
  | succ m ih =>
    intro i hi
    have hcl := cnt_le (fun j => decide (0 ≤ l j)) i
    have hli := hl i
    refine r_iload_n S dX12_many_4 rfl ?_
    refine r_aload_n S dX12_many_5 rfl ?_
    refine r_getf S g_RX12_91_11 dX12_many_6 (by repeat (first | assumption | exact sUp_same | exact sNew_same | refine sUp_ne (by first | assumption | omega) ?_)) rfl ?_
    refine r_icmp_ge S dX12_many_9 (tgt := 35) (by decide) ⟨by omega, by omega⟩ ⟨by omega, by omega⟩ (fun h_9 => ?_) (fun h_9 => ?_)
    · omega
    · refine r_iload_n S dX12_many_12 rfl ?_
      refine r_aload_n S dX12_many_13 rfl ?_
      refine r_getf S g_RX12_13_11 dX12_many_14 (by repeat (first | assumption | exact sUp_same | exact sNew_same | refine sUp_ne (by first | assumption | omega) ?_)) rfl ?_
      refine r_iload_n S dX12_many_17 rfl ?_
      refine r_ialdN S (i) dX12_many_18 (by repeat (first | assumption | exact sUp_same | exact sNew_same | refine sUp_ne (by first | assumption | omega) ?_)) (by omega) (by omega) (by decide) ?_
      refine r_if_lt S dX12_many_19 (tgt := 26) (by decide) ⟨by omega, by omega⟩ (fun h_19 => ?_) (fun h_19 => ?_)
      · refine r_iconst S dX12_many_26 ?_
        refine r_iadd S dX12_many_27 ?_
        refine r_istore_n S dX12_many_28 rfl (by decide) (lv' := [_, _, _]) rfl ?_
        refine r_iinc S dX12_many_29 rfl rfl (by decide) (lv' := [_, _, _]) rfl ?_
        refine r_goto S dX12_many_32 (tgt := 4) (by decide) ?_
        have h9 := ih (i + 1) (by omega)
        first
          | (rw [cnt_t (p := fun j => decide (0 ≤ l j)) (decide_eq_true (by omega))] at h9; exact h9)
          | (rw [cnt_f (p := fun j => decide (0 ≤ l j)) (decide_eq_false (by omega))] at h9; rw [Int.add_zero]; exact h9)
      · refine r_iconst S dX12_many_22 ?_
        refine r_goto S dX12_many_23 (tgt := 27) (by decide) ?_
        refine r_iadd S dX12_many_27 ?_
        refine r_istore_n S dX12_many_28 rfl (by decide) (lv' := [_, _, _]) rfl ?_
        refine r_iinc S dX12_many_29 rfl rfl (by decide) (lv' := [_, _, _]) rfl ?_
        refine r_goto S dX12_many_32 (tgt := 4) (by decide) ?_
        have h9 := ih (i + 1) (by omega)
        first
          | (rw [cnt_t (p := fun j => decide (0 ≤ l j)) (decide_eq_true (by omega))] at h9; exact h9)
          | (rw [cnt_f (p := fun j => decide (0 ≤ l j)) (decide_eq_false (by omega))] at h9; rw [Int.add_zero]; exact h9)

set_option maxRecDepth 100000 in
set_option maxHeartbeats 4000000 in
theorem c_many {k : Cx} {L0 : Launch} {σ : St} {hg e wt tb tr sk sm q : Int} {kd n an : Nat} (hM : σ.2 (cBase k + 14) = some (oModel k hg kd n e an wt tb q tr sk sm)) (hn : n ≤ 16) {l : Nat → Int} (hL : σ.2 (cBase k + 15) = some (eI k 16 l)) (hl : ∀ j, -1 ≤ l j ∧ l j ≤ 3) : CtrV k L0 mX12_many 1 0 0 [.ref (cBase k + 14)] σ (fun v σ' => v = .int (iZ ((cnt (fun j => decide (0 ≤ l j)) n : Int))) ∧ σ' = σ) := by
  refine Ctr.of (by decide +kernel) rfl (Nat.le_of_ble_eq_true rfl) ?_
  intro κ hl0 S
  subst hl0
  refine r_iconst S dX12_many_0 ?_
  refine r_istore_n S dX12_many_1 rfl (by decide) (lv' := [_, _, _]) rfl ?_
  refine r_iconst S dX12_many_2 ?_
  refine r_istore_n S dX12_many_3 rfl (by decide) (lv' := [_, _, _]) rfl ?_
  exact l_many hM hn hL hl S n 0 (by omega)

set_option maxRecDepth 100000 in
set_option maxHeartbeats 4000000 in
theorem l_tries {κ : Kx} {k : Cx} {σ : St} {hg e wt tb tr sk sm q : Int} {kd n an : Nat} (hM : σ.2 (cBase k + 14) = some (oModel k hg kd n e an wt tb q tr sk sm)) (hn : n ≤ 16) {l : Nat → Int} (hL : σ.2 (cBase k + 15) = some (eI k 16 l)) (hl : ∀ j, -1 ≤ l j ∧ l j ≤ 3) {t : Nat → Int} (hT : σ.2 (cBase k + 24) = some (eI k 16 t)) (hkd : kd < 3) {heap y : Nat} (hh : heap < 65536) (hy : y < 2) (S : Ok κ k cX12_tries 6 RX12 (some .int) "tries" 2 0 0) : ∀ (m i : Nat), i + m = n → V κ k 6 0 0 (QR κ k (fun r σ' => ∃ v, r = some v ∧ (v = .int (iZ (cnt (fun j => decide (nv l kd heap y j ≠ -1)) n : Int)) ∧ σ' = (sUp σ (cBase k + 24) (eI k 16 (tkF (nv l kd heap y) t (n)))))) 0 0) 5 [some (.ref (cBase k + 14)), some (.int (iZ (heap : Int))), some (.int (iZ (y : Int))), some (.int (iZ (cnt (fun j => decide (nv l kd heap y j ≠ -1)) i : Int))), some (.int (iZ (i : Int))), none] [] (sUp σ (cBase k + 24) (eI k 16 (tkF (nv l kd heap y) t (i)))) := by
  intro m
  induction m with
  | zero =>
    intro i hi
    have hin : i = n := by omega
    subst hin
    have hcl := cnt_le (fun j => decide (nv l kd heap y j ≠ -1)) i
    refine r_iload S dX12_tries_5 rfl ?_
    refine r_aload_n S dX12_tries_7 rfl ?_
    refine r_getf S g_RX12_91_11 dX12_tries_8 (by repeat (first | assumption | exact sUp_same | exact sNew_same | refine sUp_ne (by first | assumption | omega) ?_)) rfl ?_
    refine r_icmp_ge S dX12_tries_11 (tgt := 98) (by decide) ⟨by omega, by omega⟩ ⟨by omega, by omega⟩ (fun h_11 => ?_) (fun h_11 => ?_)
    · refine r_iload_n S dX12_tries_98 rfl ?_
      exact r_iret S dX12_tries_99 (by omega) (by omega) (⟨_, rfl, rfl, rfl⟩)
    · omega
  | succ m ih =>
    intro i hi
    have hcl := cnt_le (fun j => decide (nv l kd heap y j ≠ -1)) i
    have hli := hl i
    have hb := bt_lt heap i
    have hco := costK_rng kd y (bt heap i)
    have hnv : nv l kd heap y i = max (-1) (l i - costK kd y (bt heap i)) := rfl
    refine r_iload S dX12_tries_5 rfl ?_
    refine r_aload_n S dX12_tries_7 rfl ?_
    refine r_getf S g_RX12_91_11 dX12_tries_8 (by repeat (first | assumption | exact sUp_same | exact sNew_same | refine sUp_ne (by first | assumption | omega) ?_)) rfl ?_
    refine r_icmp_ge S dX12_tries_11 (tgt := 98) (by decide) ⟨by omega, by omega⟩ ⟨by omega, by omega⟩ (fun h_11 => ?_) (fun h_11 => ?_)
    · omega
    · refine r_aload_n S dX12_tries_14 rfl ?_
      refine r_getf S g_RX12_13_11 dX12_tries_15 (by repeat (first | assumption | exact sUp_same | exact sNew_same | refine sUp_ne (by first | assumption | omega) ?_)) rfl ?_
      refine r_iload S dX12_tries_18 rfl ?_
      refine r_ialdN S (i) dX12_tries_20 (by repeat (first | assumption | exact sUp_same | exact sNew_same | refine sUp_ne (by first | assumption | omega) ?_)) (by omega) (by omega) (by decide) ?_
      refine r_if_ge S dX12_tries_21 (tgt := 28) (by decide) ⟨by omega, by omega⟩ (fun h_21 => ?_) (fun h_21 => ?_)
      · refine r_aload_n S dX12_tries_28 rfl ?_
        refine r_getf S g_RX12_13_11 dX12_tries_29 (by repeat (first | assumption | exact sUp_same | exact sNew_same | refine sUp_ne (by first | assumption | omega) ?_)) rfl ?_
        refine r_iload S dX12_tries_32 rfl ?_
        refine r_ialdN S (i) dX12_tries_34 (by repeat (first | assumption | exact sUp_same | exact sNew_same | refine sUp_ne (by first | assumption | omega) ?_)) (by omega) (by omega) (by decide) ?_
        refine r_aload_n S dX12_tries_35 rfl ?_
        refine r_getf S g_RX12_88_11 dX12_tries_36 (by repeat (first | assumption | exact sUp_same | exact sNew_same | refine sUp_ne (by first | assumption | omega) ?_)) rfl ?_
        refine r_iload_n S dX12_tries_39 rfl ?_
        refine r_iload_n S dX12_tries_40 rfl ?_
        refine r_iload S dX12_tries_41 rfl ?_
        refine r_ishr S dX12_tries_43 (shrZ (by omega) (by omega)) ?_
        refine r_iconst S dX12_tries_44 ?_
        refine r_iand S dX12_tries_45 (v := iZ ((bt heap i : Nat) : Int)) (and1Z _) ?_
        refine r_iconst S dX12_tries_46 ?_
        refine r_icmp_ne S dX12_tries_47 (tgt := 54) (by decide) ⟨by omega, by omega⟩ ⟨by omega, by omega⟩ (fun h_47 => ?_) (fun h_47 => ?_)
        · refine r_iconst S dX12_tries_54 ?_
          refine r_num (z' := ((bt heap i : Nat) : Int)) (by omega) ?_
          refine r_callS S (c_costOf hkd hy hb) k_mX12_costOf c_RX12_65 dX12_tries_55 (by decide) ⟨by omega, by omega⟩ rfl rfl (Nat.le_of_ble_eq_true rfl) (fun r σ' hp => ?_)
          obtain ⟨_, rfl, rfl, rfl⟩ := hp
          try simp only [Option.toList_some, Option.toList_none, List.cons_append, List.nil_append]
          refine r_isub S dX12_tries_58 ?_
          refine r_istore S dX12_tries_59 rfl (by decide) (lv' := [_, _, _, _, _, _]) rfl ?_
          refine r_aload_n S dX12_tries_61 rfl ?_
          refine r_getf S g_RX12_46_11 dX12_tries_62 (by repeat (first | assumption | exact sUp_same | exact sNew_same | refine sUp_ne (by first | assumption | omega) ?_)) rfl ?_
          refine r_iload S dX12_tries_65 rfl ?_
          refine r_iload S dX12_tries_67 rfl ?_
          refine r_if_ge S dX12_tries_69 (tgt := 76) (by decide) ⟨by omega, by omega⟩ (fun h_69 => ?_) (fun h_69 => ?_)
          · refine r_iload S dX12_tries_76 rfl ?_
            refine r_num (z' := nv l kd heap y i) (by omega) ?_
            refine r_iastN S (i) dX12_tries_78 (by repeat (first | assumption | exact sUp_same | exact sNew_same | refine sUp_ne (by first | assumption | omega) ?_)) (by omega) (by omega) (by decide) ?_
            refine r_iload_n S dX12_tries_79 rfl ?_
            refine r_iload S dX12_tries_80 rfl ?_
            refine r_if_ge S dX12_tries_82 (tgt := 89) (by decide) ⟨by omega, by omega⟩ (fun h_82 => ?_) (fun h_82 => ?_)
            · refine r_iconst S dX12_tries_89 ?_
              refine r_iadd S dX12_tries_90 ?_
              refine r_istore_n S dX12_tries_91 rfl (by decide) (lv' := [_, _, _, _, _, _]) rfl ?_
              refine r_iinc S dX12_tries_92 rfl rfl (by decide) (lv' := [_, _, _, _, _, _]) rfl ?_
              refine r_goto S dX12_tries_95 (tgt := 5) (by decide) ?_
              refine V.mask [true, true, true, true, true, false] (lv' := [_, _, _, _, _, none]) rfl ?_
              have h9 := ih (i + 1) (by omega)
              rw [← tkF_succ (nv l kd heap y) t i] at h9
              simp only [sUp_sUp]
              first
                | (rw [cnt_t (p := fun j => decide (nv l kd heap y j ≠ -1)) (decide_eq_true (by omega))] at h9; exact h9)
                | (rw [cnt_f (p := fun j => decide (nv l kd heap y j ≠ -1)) (decide_eq_false (by omega))] at h9; rw [Int.add_zero]; exact h9)
            · refine r_iconst S dX12_tries_85 ?_
              refine r_goto S dX12_tries_86 (tgt := 90) (by decide) ?_
              refine r_iadd S dX12_tries_90 ?_
              refine r_istore_n S dX12_tries_91 rfl (by decide) (lv' := [_, _, _, _, _, _]) rfl ?_
              refine r_iinc S dX12_tries_92 rfl rfl (by decide) (lv' := [_, _, _, _, _, _]) rfl ?_
              refine r_goto S dX12_tries_95 (tgt := 5) (by decide) ?_
              refine V.mask [true, true, true, true, true, false] (lv' := [_, _, _, _, _, none]) rfl ?_
              have h9 := ih (i + 1) (by omega)
              rw [← tkF_succ (nv l kd heap y) t i] at h9
              simp only [sUp_sUp]
              first
                | (rw [cnt_t (p := fun j => decide (nv l kd heap y j ≠ -1)) (decide_eq_true (by omega))] at h9; exact h9)
                | (rw [cnt_f (p := fun j => decide (nv l kd heap y j ≠ -1)) (decide_eq_false (by omega))] at h9; rw [Int.add_zero]; exact h9)
          · refine r_iconst S dX12_tries_72 ?_
            refine r_goto S dX12_tries_73 (tgt := 78) (by decide) ?_
            refine r_num (z' := nv l kd heap y i) (by omega) ?_
            refine r_iastN S (i) dX12_tries_78 (by repeat (first | assumption | exact sUp_same | exact sNew_same | refine sUp_ne (by first | assumption | omega) ?_)) (by omega) (by omega) (by decide) ?_
            refine r_iload_n S dX12_tries_79 rfl ?_
            refine r_iload S dX12_tries_80 rfl ?_
            refine r_if_ge S dX12_tries_82 (tgt := 89) (by decide) ⟨by omega, by omega⟩ (fun h_82 => ?_) (fun h_82 => ?_)
            · refine r_iconst S dX12_tries_89 ?_
              refine r_iadd S dX12_tries_90 ?_
              refine r_istore_n S dX12_tries_91 rfl (by decide) (lv' := [_, _, _, _, _, _]) rfl ?_
              refine r_iinc S dX12_tries_92 rfl rfl (by decide) (lv' := [_, _, _, _, _, _]) rfl ?_
              refine r_goto S dX12_tries_95 (tgt := 5) (by decide) ?_
              refine V.mask [true, true, true, true, true, false] (lv' := [_, _, _, _, _, none]) rfl ?_
              have h9 := ih (i + 1) (by omega)
              rw [← tkF_succ (nv l kd heap y) t i] at h9
              simp only [sUp_sUp]
              first
                | (rw [cnt_t (p := fun j => decide (nv l kd heap y j ≠ -1)) (decide_eq_true (by omega))] at h9; exact h9)
                | (rw [cnt_f (p := fun j => decide (nv l kd heap y j ≠ -1)) (decide_eq_false (by omega))] at h9; rw [Int.add_zero]; exact h9)
            · refine r_iconst S dX12_tries_85 ?_
              refine r_goto S dX12_tries_86 (tgt := 90) (by decide) ?_
              refine r_iadd S dX12_tries_90 ?_
              refine r_istore_n S dX12_tries_91 rfl (by decide) (lv' := [_, _, _, _, _, _]) rfl ?_
              refine r_iinc S dX12_tries_92 rfl rfl (by decide) (lv' := [_, _, _, _, _, _]) rfl ?_
              refine r_goto S dX12_tries_95 (tgt := 5) (by decide) ?_
              refine V.mask [true, true, true, true, true, false] (lv' := [_, _, _, _, _, none]) rfl ?_
              have h9 := ih (i + 1) (by omega)
              rw [← tkF_succ (nv l kd heap y) t i] at h9
              simp only [sUp_sUp]
              first
                | (rw [cnt_t (p := fun j => decide (nv l kd heap y j ≠ -1)) (decide_eq_true (by omega))] at h9; exact h9)
                | (rw [cnt_f (p := fun j => decide (nv l kd heap y j ≠ -1)) (decide_eq_false (by omega))] at h9; rw [Int.add_zero]; exact h9)
        · refine r_iconst S dX12_tries_50 ?_
          refine r_goto S dX12_tries_51 (tgt := 55) (by decide) ?_
          refine r_num (z' := ((bt heap i : Nat) : Int)) (by omega) ?_
          refine r_callS S (c_costOf hkd hy hb) k_mX12_costOf c_RX12_65 dX12_tries_55 (by decide) ⟨by omega, by omega⟩ rfl rfl (Nat.le_of_ble_eq_true rfl) (fun r σ' hp => ?_)
          obtain ⟨_, rfl, rfl, rfl⟩ := hp
          try simp only [Option.toList_some, Option.toList_none, List.cons_append, List.nil_append]
          refine r_isub S dX12_tries_58 ?_
          refine r_istore S dX12_tries_59 rfl (by decide) (lv' := [_, _, _, _, _, _]) rfl ?_
          refine r_aload_n S dX12_tries_61 rfl ?_
          refine r_getf S g_RX12_46_11 dX12_tries_62 (by repeat (first | assumption | exact sUp_same | exact sNew_same | refine sUp_ne (by first | assumption | omega) ?_)) rfl ?_
          refine r_iload S dX12_tries_65 rfl ?_
          refine r_iload S dX12_tries_67 rfl ?_
          refine r_if_ge S dX12_tries_69 (tgt := 76) (by decide) ⟨by omega, by omega⟩ (fun h_69 => ?_) (fun h_69 => ?_)
          · refine r_iload S dX12_tries_76 rfl ?_
            refine r_num (z' := nv l kd heap y i) (by omega) ?_
            refine r_iastN S (i) dX12_tries_78 (by repeat (first | assumption | exact sUp_same | exact sNew_same | refine sUp_ne (by first | assumption | omega) ?_)) (by omega) (by omega) (by decide) ?_
            refine r_iload_n S dX12_tries_79 rfl ?_
            refine r_iload S dX12_tries_80 rfl ?_
            refine r_if_ge S dX12_tries_82 (tgt := 89) (by decide) ⟨by omega, by omega⟩ (fun h_82 => ?_) (fun h_82 => ?_)
            · refine r_iconst S dX12_tries_89 ?_
              refine r_iadd S dX12_tries_90 ?_
              refine r_istore_n S dX12_tries_91 rfl (by decide) (lv' := [_, _, _, _, _, _]) rfl ?_
              refine r_iinc S dX12_tries_92 rfl rfl (by decide) (lv' := [_, _, _, _, _, _]) rfl ?_
              refine r_goto S dX12_tries_95 (tgt := 5) (by decide) ?_
              refine V.mask [true, true, true, true, true, false] (lv' := [_, _, _, _, _, none]) rfl ?_
              have h9 := ih (i + 1) (by omega)
              rw [← tkF_succ (nv l kd heap y) t i] at h9
              simp only [sUp_sUp]
              first
                | (rw [cnt_t (p := fun j => decide (nv l kd heap y j ≠ -1)) (decide_eq_true (by omega))] at h9; exact h9)
                | (rw [cnt_f (p := fun j => decide (nv l kd heap y j ≠ -1)) (decide_eq_false (by omega))] at h9; rw [Int.add_zero]; exact h9)
            · refine r_iconst S dX12_tries_85 ?_
              refine r_goto S dX12_tries_86 (tgt := 90) (by decide) ?_
              refine r_iadd S dX12_tries_90 ?_
              refine r_istore_n S dX12_tries_91 rfl (by decide) (lv' := [_, _, _, _, _, _]) rfl ?_
              refine r_iinc S dX12_tries_92 rfl rfl (by decide) (lv' := [_, _, _, _, _, _]) rfl ?_
              refine r_goto S dX12_tries_95 (tgt := 5) (by decide) ?_
              refine V.mask [true, true, true, true, true, false] (lv' := [_, _, _, _, _, none]) rfl ?_
              have h9 := ih (i + 1) (by omega)
              rw [← tkF_succ (nv l kd heap y) t i] at h9
              simp only [sUp_sUp]
              first
                | (rw [cnt_t (p := fun j => decide (nv l kd heap y j ≠ -1)) (decide_eq_true (by omega))] at h9; exact h9)
                | (rw [cnt_f (p := fun j => decide (nv l kd heap y j ≠ -1)) (decide_eq_false (by omega))] at h9; rw [Int.add_zero]; exact h9)
          · refine r_iconst S dX12_tries_72 ?_
            refine r_goto S dX12_tries_73 (tgt := 78) (by decide) ?_
            refine r_num (z' := nv l kd heap y i) (by omega) ?_
            refine r_iastN S (i) dX12_tries_78 (by repeat (first | assumption | exact sUp_same | exact sNew_same | refine sUp_ne (by first | assumption | omega) ?_)) (by omega) (by omega) (by decide) ?_
            refine r_iload_n S dX12_tries_79 rfl ?_
            refine r_iload S dX12_tries_80 rfl ?_
            refine r_if_ge S dX12_tries_82 (tgt := 89) (by decide) ⟨by omega, by omega⟩ (fun h_82 => ?_) (fun h_82 => ?_)
            · refine r_iconst S dX12_tries_89 ?_
              refine r_iadd S dX12_tries_90 ?_
              refine r_istore_n S dX12_tries_91 rfl (by decide) (lv' := [_, _, _, _, _, _]) rfl ?_
              refine r_iinc S dX12_tries_92 rfl rfl (by decide) (lv' := [_, _, _, _, _, _]) rfl ?_
              refine r_goto S dX12_tries_95 (tgt := 5) (by decide) ?_
              refine V.mask [true, true, true, true, true, false] (lv' := [_, _, _, _, _, none]) rfl ?_
              have h9 := ih (i + 1) (by omega)
              rw [← tkF_succ (nv l kd heap y) t i] at h9
              simp only [sUp_sUp]
              first
                | (rw [cnt_t (p := fun j => decide (nv l kd heap y j ≠ -1)) (decide_eq_true (by omega))] at h9; exact h9)
                | (rw [cnt_f (p := fun j => decide (nv l kd heap y j ≠ -1)) (decide_eq_false (by omega))] at h9; rw [Int.add_zero]; exact h9)
            · refine r_iconst S dX12_tries_85 ?_
              refine r_goto S dX12_tries_86 (tgt := 90) (by decide) ?_
              refine r_iadd S dX12_tries_90 ?_
              refine r_istore_n S dX12_tries_91 rfl (by decide) (lv' := [_, _, _, _, _, _]) rfl ?_
              refine r_iinc S dX12_tries_92 rfl rfl (by decide) (lv' := [_, _, _, _, _, _]) rfl ?_
              refine r_goto S dX12_tries_95 (tgt := 5) (by decide) ?_
              refine V.mask [true, true, true, true, true, false] (lv' := [_, _, _, _, _, none]) rfl ?_
              have h9 := ih (i + 1) (by omega)
              rw [← tkF_succ (nv l kd heap y) t i] at h9
              simp only [sUp_sUp]
              first
                | (rw [cnt_t (p := fun j => decide (nv l kd heap y j ≠ -1)) (decide_eq_true (by omega))] at h9; exact h9)
                | (rw [cnt_f (p := fun j => decide (nv l kd heap y j ≠ -1)) (decide_eq_false (by omega))] at h9; rw [Int.add_zero]; exact h9)
      · refine r_iconst S dX12_tries_24 ?_
        refine r_goto S dX12_tries_25 (tgt := 59) (by decide) ?_
        refine r_istore S dX12_tries_59 rfl (by decide) (lv' := [_, _, _, _, _, _]) rfl ?_
        refine r_aload_n S dX12_tries_61 rfl ?_
        refine r_getf S g_RX12_46_11 dX12_tries_62 (by repeat (first | assumption | exact sUp_same | exact sNew_same | refine sUp_ne (by first | assumption | omega) ?_)) rfl ?_
        refine r_iload S dX12_tries_65 rfl ?_
        refine r_iload S dX12_tries_67 rfl ?_
        refine r_if_ge S dX12_tries_69 (tgt := 76) (by decide) ⟨by omega, by omega⟩ (fun h_69 => ?_) (fun h_69 => ?_)
        · refine r_iload S dX12_tries_76 rfl ?_
          refine r_num (z' := nv l kd heap y i) (by omega) ?_
          refine r_iastN S (i) dX12_tries_78 (by repeat (first | assumption | exact sUp_same | exact sNew_same | refine sUp_ne (by first | assumption | omega) ?_)) (by omega) (by omega) (by decide) ?_
          refine r_iload_n S dX12_tries_79 rfl ?_
          refine r_iload S dX12_tries_80 rfl ?_
          refine r_if_ge S dX12_tries_82 (tgt := 89) (by decide) ⟨by omega, by omega⟩ (fun h_82 => ?_) (fun h_82 => ?_)
          · refine r_iconst S dX12_tries_89 ?_
            refine r_iadd S dX12_tries_90 ?_
            refine r_istore_n S dX12_tries_91 rfl (by decide) (lv' := [_, _, _, _, _, _]) rfl ?_
            refine r_iinc S dX12_tries_92 rfl rfl (by decide) (lv' := [_, _, _, _, _, _]) rfl ?_
            refine r_goto S dX12_tries_95 (tgt := 5) (by decide) ?_
            refine V.mask [true, true, true, true, true, false] (lv' := [_, _, _, _, _, none]) rfl ?_
            have h9 := ih (i + 1) (by omega)
            rw [← tkF_succ (nv l kd heap y) t i] at h9
            simp only [sUp_sUp]
            first
              | (rw [cnt_t (p := fun j => decide (nv l kd heap y j ≠ -1)) (decide_eq_true (by omega))] at h9; exact h9)
              | (rw [cnt_f (p := fun j => decide (nv l kd heap y j ≠ -1)) (decide_eq_false (by omega))] at h9; rw [Int.add_zero]; exact h9)
          · refine r_iconst S dX12_tries_85 ?_
            refine r_goto S dX12_tries_86 (tgt := 90) (by decide) ?_
            refine r_iadd S dX12_tries_90 ?_
            refine r_istore_n S dX12_tries_91 rfl (by decide) (lv' := [_, _, _, _, _, _]) rfl ?_
            refine r_iinc S dX12_tries_92 rfl rfl (by decide) (lv' := [_, _, _, _, _, _]) rfl ?_
            refine r_goto S dX12_tries_95 (tgt := 5) (by decide) ?_
            refine V.mask [true, true, true, true, true, false] (lv' := [_, _, _, _, _, none]) rfl ?_
            have h9 := ih (i + 1) (by omega)
            rw [← tkF_succ (nv l kd heap y) t i] at h9
            simp only [sUp_sUp]
            first
              | (rw [cnt_t (p := fun j => decide (nv l kd heap y j ≠ -1)) (decide_eq_true (by omega))] at h9; exact h9)
              | (rw [cnt_f (p := fun j => decide (nv l kd heap y j ≠ -1)) (decide_eq_false (by omega))] at h9; rw [Int.add_zero]; exact h9)
        · refine r_iconst S dX12_tries_72 ?_
          refine r_goto S dX12_tries_73 (tgt := 78) (by decide) ?_
          refine r_num (z' := nv l kd heap y i) (by omega) ?_
          refine r_iastN S (i) dX12_tries_78 (by repeat (first | assumption | exact sUp_same | exact sNew_same | refine sUp_ne (by first | assumption | omega) ?_)) (by omega) (by omega) (by decide) ?_
          refine r_iload_n S dX12_tries_79 rfl ?_
          refine r_iload S dX12_tries_80 rfl ?_
          refine r_if_ge S dX12_tries_82 (tgt := 89) (by decide) ⟨by omega, by omega⟩ (fun h_82 => ?_) (fun h_82 => ?_)
          · refine r_iconst S dX12_tries_89 ?_
            refine r_iadd S dX12_tries_90 ?_
            refine r_istore_n S dX12_tries_91 rfl (by decide) (lv' := [_, _, _, _, _, _]) rfl ?_
            refine r_iinc S dX12_tries_92 rfl rfl (by decide) (lv' := [_, _, _, _, _, _]) rfl ?_
            refine r_goto S dX12_tries_95 (tgt := 5) (by decide) ?_
            refine V.mask [true, true, true, true, true, false] (lv' := [_, _, _, _, _, none]) rfl ?_
            have h9 := ih (i + 1) (by omega)
            rw [← tkF_succ (nv l kd heap y) t i] at h9
            simp only [sUp_sUp]
            first
              | (rw [cnt_t (p := fun j => decide (nv l kd heap y j ≠ -1)) (decide_eq_true (by omega))] at h9; exact h9)
              | (rw [cnt_f (p := fun j => decide (nv l kd heap y j ≠ -1)) (decide_eq_false (by omega))] at h9; rw [Int.add_zero]; exact h9)
          · refine r_iconst S dX12_tries_85 ?_
            refine r_goto S dX12_tries_86 (tgt := 90) (by decide) ?_
            refine r_iadd S dX12_tries_90 ?_
            refine r_istore_n S dX12_tries_91 rfl (by decide) (lv' := [_, _, _, _, _, _]) rfl ?_
            refine r_iinc S dX12_tries_92 rfl rfl (by decide) (lv' := [_, _, _, _, _, _]) rfl ?_
            refine r_goto S dX12_tries_95 (tgt := 5) (by decide) ?_
            refine V.mask [true, true, true, true, true, false] (lv' := [_, _, _, _, _, none]) rfl ?_
            have h9 := ih (i + 1) (by omega)
            rw [← tkF_succ (nv l kd heap y) t i] at h9
            simp only [sUp_sUp]
            first
              | (rw [cnt_t (p := fun j => decide (nv l kd heap y j ≠ -1)) (decide_eq_true (by omega))] at h9; exact h9)
              | (rw [cnt_f (p := fun j => decide (nv l kd heap y j ≠ -1)) (decide_eq_false (by omega))] at h9; rw [Int.add_zero]; exact h9)

set_option maxRecDepth 100000 in
set_option maxHeartbeats 4000000 in
theorem c_tries {k : Cx} {L0 : Launch} {σ : St} {hg e wt tb tr sk sm q : Int} {kd n an : Nat} (hM : σ.2 (cBase k + 14) = some (oModel k hg kd n e an wt tb q tr sk sm)) (hn : n ≤ 16) {l : Nat → Int} (hL : σ.2 (cBase k + 15) = some (eI k 16 l)) (hl : ∀ j, -1 ≤ l j ∧ l j ≤ 3) {t : Nat → Int} (hT : σ.2 (cBase k + 24) = some (eI k 16 t)) (hkd : kd < 3) {heap y : Nat} (hh : heap < 65536) (hy : y < 2) : CtrV k L0 mX12_tries 2 0 0 [.ref (cBase k + 14), .int (iZ (heap : Int)), .int (iZ (y : Int))] σ (fun v σ' => v = .int (iZ (cnt (fun j => decide (nv l kd heap y j ≠ -1)) n : Int)) ∧ σ' = (sUp σ (cBase k + 24) (eI k 16 (tkF (nv l kd heap y) t (n))))) := by
  refine Ctr.of (by decide +kernel) rfl (Nat.le_of_ble_eq_true rfl) ?_
  intro κ hl0 S
  subst hl0
  refine r_iconst S dX12_tries_0 ?_
  refine r_istore_n S dX12_tries_1 rfl (by decide) (lv' := [_, _, _, _, _, _]) rfl ?_
  refine r_iconst S dX12_tries_2 ?_
  refine r_istore S dX12_tries_3 rfl (by decide) (lv' := [_, _, _, _, _, _]) rfl ?_
  have h9 := l_tries hM hn hL hl hT hkd hh hy S n 0 (by omega)
  rw [tkF_0, sUp_id hT] at h9
  exact h9
