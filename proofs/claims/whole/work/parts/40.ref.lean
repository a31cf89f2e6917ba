/-! the reference's table: STATES by exact counts -/
def posQ (x : Q4) : Nat := x.1 + 17 * (x.2.1 + 17 * (x.2.2.1 + 17 * x.2.2.2))
def cumQ (x : Q4) : Q4 := (x.1 + x.2.1 + x.2.2.1 + x.2.2.2, x.2.1 + x.2.2.1 + x.2.2.2, x.2.2.1 + x.2.2.2, x.2.2.2)
def cyK (kd : Nat) : Nat := if kd = 0 then 4 else 1
def cnK (kd : Nat) : Nat := if kd = 1 then 1 else 4
theorem cyK_rng (kd : Nat) : 1 ≤ cyK kd ∧ cyK kd ≤ 4 := by unfold cyK; split <;> omega
theorem cnK_rng (kd : Nat) : 1 ≤ cnK kd ∧ cnK kd ≤ 4 := by unfold cnK; split <;> omega
theorem qat_big {x : Q4} {j : Nat} (h : 4 ≤ j) : qat x j = 0 := qat_hi (by omega)
theorem bh_9 (a b : Q4) : bhQ 9 a b = bhQ 4 a b := rfl
theorem cum_bh1 (x y : Q4) : cumQ (bhQ 1 x y) = bhQ 1 (cumQ x) (cumQ y) := by
  obtain ⟨x0, x1, x2, x3⟩ := x
  obtain ⟨y0, y1, y2, y3⟩ := y
  show (((x0 + y1) + (x1 + y2) + (x2 + y3) + (x3 + 0), (x1 + y2) + (x2 + y3) + (x3 + 0), (x2 + y3) + (x3 + 0), x3 + 0) : Q4) = ((x0 + x1 + x2 + x3) + (y1 + y2 + y3), (x1 + x2 + x3) + (y2 + y3), (x2 + x3) + y3, x3 + 0)
  exact congr (congrArg Prod.mk (by omega)) (congr (congrArg Prod.mk (by omega)) (congr (congrArg Prod.mk (by omega)) (by omega)))
theorem cum_bh4 (x y : Q4) : cumQ (bhQ 4 x y) = bhQ 4 (cumQ x) (cumQ y) := by
  obtain ⟨x0, x1, x2, x3⟩ := x
  obtain ⟨y0, y1, y2, y3⟩ := y
  show (((x0 + 0) + (x1 + 0) + (x2 + 0) + (x3 + 0), (x1 + 0) + (x2 + 0) + (x3 + 0), (x2 + 0) + (x3 + 0), x3 + 0) : Q4) = ((x0 + x1 + x2 + x3) + 0, (x1 + x2 + x3) + 0, (x2 + x3) + 0, x3 + 0)
  exact congr (congrArg Prod.mk (by omega)) (congr (congrArg Prod.mk (by omega)) (congr (congrArg Prod.mk (by omega)) (by omega)))
theorem cum_dec (x : Q4) : Dec (cumQ x) := by simp only [Dec, cumQ]; omega
theorem cum_inj {x y : Q4} (h : cumQ x = cumQ y) : x = y := by
  obtain ⟨x0, x1, x2, x3⟩ := x
  obtain ⟨y0, y1, y2, y3⟩ := y
  simp only [cumQ, Prod.mk.injEq] at h ⊢
  omega
set_option maxRecDepth 100000 in
set_option maxHeartbeats 4000000 in
theorem c_place {k : Cx} {L0 : Launch} {σ : St} {a b c d : Nat} : CtrV k L0 mX12_place 1 0 0 [.int (iZ (a : Int)), .int (iZ (b : Int)), .int (iZ (c : Int)), .int (iZ (d : Int))] σ (fun v σ' => v = .int (iZ (((posQ (a, b, c, d) : Nat) : Int))) ∧ σ' = σ) := by
  refine Ctr.of (by decide +kernel) rfl (Nat.le_of_ble_eq_true rfl) ?_
  intro κ hl0 S
  subst hl0
  refine r_iload_n S dX12_place_0 rfl ?_
  refine r_bipush S dX12_place_1 (by decide) ?_
  refine r_iload_n S dX12_place_3 rfl ?_
  refine r_bipush S dX12_place_4 (by decide) ?_
  refine r_iload_n S dX12_place_6 rfl ?_
  refine r_bipush S dX12_place_7 (by decide) ?_
  refine r_iload_n S dX12_place_9 rfl ?_
  refine r_imul S dX12_place_10 ?_
  refine r_iadd S dX12_place_11 ?_
  refine r_imul S dX12_place_12 ?_
  refine r_iadd S dX12_place_13 ?_
  refine r_imul S dX12_place_14 ?_
  refine r_iadd S dX12_place_15 ?_
  refine r_num (z' := ((posQ (a, b, c, d) : Nat) : Int)) (by simp only [posQ]; omega) ?_
  exact r_iret S dX12_place_16 (by omega) (by omega) (⟨_, rfl, rfl, rfl⟩)

set_option maxRecDepth 100000 in
set_option maxHeartbeats 4000000 in
theorem s_bh4 {κ : Kx} {k : Cx} {σ : St} {kd y lo ot p1 p2 : Nat} {x u : Q4} {hp bd : Nat → Int} (hk : kd < 3) (hy : y < 2) (hlo : costK kd y 1 = (lo : Int)) (hot : costK kd y 0 = (ot : Int)) (hH : σ.2 p1 = some (eI k 4 hp)) (hB : σ.2 p2 = some (eI k 4 bd)) (hhp : ∀ j, j < 4 → hp j = (qat x j : Int)) (hbd : ∀ j, j < 4 → bd j = (qat u j : Int)) (hx : ∀ j, qat x j ≤ 16) (hu : ∀ j, qat u j ≤ 16) (S : Ok κ k cX12_behind 9 RX12 (some .int) "behind" 2 0 0) : V κ k 9 0 0 (QR κ k (fun r σ' => ∃ v, r = some v ∧ (v = .int (iZ (((0 + (qat x (0 + lo) + qat u (0 + ot)) * 1 + (qat x (1 + lo) + qat u (1 + ot)) * 17 + (qat x (2 + lo) + qat u (2 + ot)) * 289 + (qat x (3 + lo) + qat u (3 + ot)) * 4913) : Nat) : Int)) ∧ σ' = σ)) 0 0) 22 [some (.int (iZ (kd : Int))), some (.int (iZ (y : Int))), some (.ref p1), some (.ref p2), some (.int (iZ (lo : Int))), some (.int (iZ (ot : Int))), some (.int (iZ (((0 + (qat x (0 + lo) + qat u (0 + ot)) * 1 + (qat x (1 + lo) + qat u (1 + ot)) * 17 + (qat x (2 + lo) + qat u (2 + ot)) * 289 + (qat x (3 + lo) + qat u (3 + ot)) * 4913) : Nat) : Int))), some (.int (iZ (4 : Int))), none] [] σ := by
  have hl9 := costK_rng kd y 1
  have ho9 := costK_rng kd y 0
  refine r_iload S dX12_behind_22 rfl ?_
  refine r_iconst S dX12_behind_24 ?_
  refine r_icmp_ge S dX12_behind_25 (tgt := 124) (by decide) ⟨by omega, by omega⟩ ⟨by omega, by omega⟩ (fun h_25 => ?_) (fun h_25 => ?_)
  · refine r_iload S dX12_behind_124 rfl ?_
    exact r_iret S dX12_behind_126 (by omega) (by omega) (⟨_, rfl, rfl, rfl⟩)
  · omega

set_option maxRecDepth 100000 in
set_option maxHeartbeats 4000000 in
theorem s_bh3 {κ : Kx} {k : Cx} {σ : St} {kd y lo ot p1 p2 : Nat} {x u : Q4} {hp bd : Nat → Int} (hk : kd < 3) (hy : y < 2) (hlo : costK kd y 1 = (lo : Int)) (hot : costK kd y 0 = (ot : Int)) (hH : σ.2 p1 = some (eI k 4 hp)) (hB : σ.2 p2 = some (eI k 4 bd)) (hhp : ∀ j, j < 4 → hp j = (qat x j : Int)) (hbd : ∀ j, j < 4 → bd j = (qat u j : Int)) (hx : ∀ j, qat x j ≤ 16) (hu : ∀ j, qat u j ≤ 16) (S : Ok κ k cX12_behind 9 RX12 (some .int) "behind" 2 0 0) : V κ k 9 0 0 (QR κ k (fun r σ' => ∃ v, r = some v ∧ (v = .int (iZ (((0 + (qat x (0 + lo) + qat u (0 + ot)) * 1 + (qat x (1 + lo) + qat u (1 + ot)) * 17 + (qat x (2 + lo) + qat u (2 + ot)) * 289 + (qat x (3 + lo) + qat u (3 + ot)) * 4913) : Nat) : Int)) ∧ σ' = σ)) 0 0) 22 [some (.int (iZ (kd : Int))), some (.int (iZ (y : Int))), some (.ref p1), some (.ref p2), some (.int (iZ (lo : Int))), some (.int (iZ (ot : Int))), some (.int (iZ (((0 + (qat x (0 + lo) + qat u (0 + ot)) * 1 + (qat x (1 + lo) + qat u (1 + ot)) * 17 + (qat x (2 + lo) + qat u (2 + ot)) * 289) : Nat) : Int))), some (.int (iZ (3 : Int))), none] [] σ := by
  have hl9 := costK_rng kd y 1
  have ho9 := costK_rng kd y 0
  have x9 := hx (3 + lo)
  have u9 := hu (3 + ot)
  refine r_iload S dX12_behind_22 rfl ?_
  refine r_iconst S dX12_behind_24 ?_
  refine r_icmp_ge S dX12_behind_25 (tgt := 124) (by decide) ⟨by omega, by omega⟩ ⟨by omega, by omega⟩ (fun h_25 => ?_) (fun h_25 => ?_)
  · omega
  · refine r_iload S dX12_behind_28 rfl ?_
    refine r_iload S dX12_behind_30 rfl ?_
    refine r_iadd S dX12_behind_32 ?_
    refine r_iconst S dX12_behind_33 ?_
    refine r_icmp_ge S dX12_behind_34 (tgt := 47) (by decide) ⟨by omega, by omega⟩ ⟨by omega, by omega⟩ (fun h_34 => ?_) (fun h_34 => ?_)
    · refine r_iconst S dX12_behind_47 ?_
      refine r_num (z' := ((qat x (3 + lo) : Nat) : Int)) (by first | rfl | (rw [qat_big (by omega)]; rfl)) ?_
      refine r_istore S dX12_behind_48 rfl (by decide) (lv' := [_, _, _, _, _, _, _, _, _]) rfl ?_
      refine r_iload S dX12_behind_50 rfl ?_
      refine r_iload S dX12_behind_52 rfl ?_
      refine r_iload S dX12_behind_54 rfl ?_
      refine r_iadd S dX12_behind_56 ?_
      refine r_iconst S dX12_behind_57 ?_
      refine r_icmp_ge S dX12_behind_58 (tgt := 71) (by decide) ⟨by omega, by omega⟩ ⟨by omega, by omega⟩ (fun h_58 => ?_) (fun h_58 => ?_)
      · refine r_iconst S dX12_behind_71 ?_
        refine r_num (z' := ((qat u (3 + ot) : Nat) : Int)) (by first | rfl | (rw [qat_big (by omega)]; rfl)) ?_
        refine r_iadd S dX12_behind_72 ?_
        refine r_istore S dX12_behind_73 rfl (by decide) (lv' := [_, _, _, _, _, _, _, _, _]) rfl ?_
        refine r_iload S dX12_behind_75 rfl ?_
        refine r_iload S dX12_behind_77 rfl ?_
        refine r_iload S dX12_behind_79 rfl ?_
        refine r_if_ne S dX12_behind_81 (tgt := 88) (by decide) ⟨by omega, by omega⟩ (fun h_81 => ?_) (fun h_81 => ?_)
        · refine r_iload S dX12_behind_88 rfl ?_
          refine r_iconst S dX12_behind_90 ?_
          refine r_icmp_ne S dX12_behind_91 (tgt := 99) (by decide) ⟨by omega, by omega⟩ ⟨by omega, by omega⟩ (fun h_91 => ?_) (fun h_91 => ?_)
          · refine r_iload S dX12_behind_99 rfl ?_
            refine r_iconst S dX12_behind_101 ?_
            refine r_icmp_ne S dX12_behind_102 (tgt := 111) (by decide) ⟨by omega, by omega⟩ ⟨by omega, by omega⟩ (fun h_102 => ?_) (fun h_102 => ?_)
            · refine r_sipush S dX12_behind_111 (by decide) ?_
              refine r_imul S dX12_behind_114 ?_
              refine r_iadd S dX12_behind_115 ?_
              refine r_num (z' := (((0 + (qat x (0 + lo) + qat u (0 + ot)) * 1 + (qat x (1 + lo) + qat u (1 + ot)) * 17 + (qat x (2 + lo) + qat u (2 + ot)) * 289 + (qat x (3 + lo) + qat u (3 + ot)) * 4913) : Nat) : Int)) (by omega) ?_
              refine r_istore S dX12_behind_116 rfl (by decide) (lv' := [_, _, _, _, _, _, _, _, _]) rfl ?_
              refine r_iinc S dX12_behind_118 rfl rfl (by decide) (lv' := [_, _, _, _, _, _, _, _, _]) rfl ?_
              refine r_goto S dX12_behind_121 (tgt := 22) (by decide) ?_
              refine V.mask [true, true, true, true, true, true, true, true, false] (lv' := [_, _, _, _, _, _, _, _, none]) rfl ?_
              exact s_bh4 hk hy hlo hot hH hB hhp hbd hx hu S
            · exact absurd h_102 (by decide)
          · exact absurd h_91 (by decide)
        · exact absurd h_81 (by decide)
      · refine r_aload_n S dX12_behind_61 rfl ?_
        refine r_iload S dX12_behind_62 rfl ?_
        refine r_iload S dX12_behind_64 rfl ?_
        refine r_iadd S dX12_behind_66 ?_
        refine r_ialdN S (3 + ot) dX12_behind_67 (by repeat (first | assumption | exact sUp_same | exact sNew_same | refine sUp_ne (by first | assumption | omega) ?_)) (by omega) (by omega) (by decide) ?_
        rw [hbd (3 + ot) (by omega)]
        refine r_goto S dX12_behind_68 (tgt := 72) (by decide) ?_
        refine r_num (z' := ((qat u (3 + ot) : Nat) : Int)) (by first | rfl | (rw [qat_big (by omega)]; rfl)) ?_
        refine r_iadd S dX12_behind_72 ?_
        refine r_istore S dX12_behind_73 rfl (by decide) (lv' := [_, _, _, _, _, _, _, _, _]) rfl ?_
        refine r_iload S dX12_behind_75 rfl ?_
        refine r_iload S dX12_behind_77 rfl ?_
        refine r_iload S dX12_behind_79 rfl ?_
        refine r_if_ne S dX12_behind_81 (tgt := 88) (by decide) ⟨by omega, by omega⟩ (fun h_81 => ?_) (fun h_81 => ?_)
        · refine r_iload S dX12_behind_88 rfl ?_
          refine r_iconst S dX12_behind_90 ?_
          refine r_icmp_ne S dX12_behind_91 (tgt := 99) (by decide) ⟨by omega, by omega⟩ ⟨by omega, by omega⟩ (fun h_91 => ?_) (fun h_91 => ?_)
          · refine r_iload S dX12_behind_99 rfl ?_
            refine r_iconst S dX12_behind_101 ?_
            refine r_icmp_ne S dX12_behind_102 (tgt := 111) (by decide) ⟨by omega, by omega⟩ ⟨by omega, by omega⟩ (fun h_102 => ?_) (fun h_102 => ?_)
            · refine r_sipush S dX12_behind_111 (by decide) ?_
              refine r_imul S dX12_behind_114 ?_
              refine r_iadd S dX12_behind_115 ?_
              refine r_num (z' := (((0 + (qat x (0 + lo) + qat u (0 + ot)) * 1 + (qat x (1 + lo) + qat u (1 + ot)) * 17 + (qat x (2 + lo) + qat u (2 + ot)) * 289 + (qat x (3 + lo) + qat u (3 + ot)) * 4913) : Nat) : Int)) (by omega) ?_
              refine r_istore S dX12_behind_116 rfl (by decide) (lv' := [_, _, _, _, _, _, _, _, _]) rfl ?_
              refine r_iinc S dX12_behind_118 rfl rfl (by decide) (lv' := [_, _, _, _, _, _, _, _, _]) rfl ?_
              refine r_goto S dX12_behind_121 (tgt := 22) (by decide) ?_
              refine V.mask [true, true, true, true, true, true, true, true, false] (lv' := [_, _, _, _, _, _, _, _, none]) rfl ?_
              exact s_bh4 hk hy hlo hot hH hB hhp hbd hx hu S
            · exact absurd h_102 (by decide)
          · exact absurd h_91 (by decide)
        · exact absurd h_81 (by decide)
    · refine r_aload_n S dX12_behind_37 rfl ?_
      refine r_iload S dX12_behind_38 rfl ?_
      refine r_iload S dX12_behind_40 rfl ?_
      refine r_iadd S dX12_behind_42 ?_
      refine r_ialdN S (3 + lo) dX12_behind_43 (by repeat (first | assumption | exact sUp_same | exact sNew_same | refine sUp_ne (by first | assumption | omega) ?_)) (by omega) (by omega) (by decide) ?_
      rw [hhp (3 + lo) (by omega)]
      refine r_goto S dX12_behind_44 (tgt := 48) (by decide) ?_
      refine r_num (z' := ((qat x (3 + lo) : Nat) : Int)) (by first | rfl | (rw [qat_big (by omega)]; rfl)) ?_
      refine r_istore S dX12_behind_48 rfl (by decide) (lv' := [_, _, _, _, _, _, _, _, _]) rfl ?_
      refine r_iload S dX12_behind_50 rfl ?_
      refine r_iload S dX12_behind_52 rfl ?_
      refine r_iload S dX12_behind_54 rfl ?_
      refine r_iadd S dX12_behind_56 ?_
      refine r_iconst S dX12_behind_57 ?_
      refine r_icmp_ge S dX12_behind_58 (tgt := 71) (by decide) ⟨by omega, by omega⟩ ⟨by omega, by omega⟩ (fun h_58 => ?_) (fun h_58 => ?_)
      · refine r_iconst S dX12_behind_71 ?_
        refine r_num (z' := ((qat u (3 + ot) : Nat) : Int)) (by first | rfl | (rw [qat_big (by omega)]; rfl)) ?_
        refine r_iadd S dX12_behind_72 ?_
        refine r_istore S dX12_behind_73 rfl (by decide) (lv' := [_, _, _, _, _, _, _, _, _]) rfl ?_
        refine r_iload S dX12_behind_75 rfl ?_
        refine r_iload S dX12_behind_77 rfl ?_
        refine r_iload S dX12_behind_79 rfl ?_
        refine r_if_ne S dX12_behind_81 (tgt := 88) (by decide) ⟨by omega, by omega⟩ (fun h_81 => ?_) (fun h_81 => ?_)
        · refine r_iload S dX12_behind_88 rfl ?_
          refine r_iconst S dX12_behind_90 ?_
          refine r_icmp_ne S dX12_behind_91 (tgt := 99) (by decide) ⟨by omega, by omega⟩ ⟨by omega, by omega⟩ (fun h_91 => ?_) (fun h_91 => ?_)
          · refine r_iload S dX12_behind_99 rfl ?_
            refine r_iconst S dX12_behind_101 ?_
            refine r_icmp_ne S dX12_behind_102 (tgt := 111) (by decide) ⟨by omega, by omega⟩ ⟨by omega, by omega⟩ (fun h_102 => ?_) (fun h_102 => ?_)
            · refine r_sipush S dX12_behind_111 (by decide) ?_
              refine r_imul S dX12_behind_114 ?_
              refine r_iadd S dX12_behind_115 ?_
              refine r_num (z' := (((0 + (qat x (0 + lo) + qat u (0 + ot)) * 1 + (qat x (1 + lo) + qat u (1 + ot)) * 17 + (qat x (2 + lo) + qat u (2 + ot)) * 289 + (qat x (3 + lo) + qat u (3 + ot)) * 4913) : Nat) : Int)) (by omega) ?_
              refine r_istore S dX12_behind_116 rfl (by decide) (lv' := [_, _, _, _, _, _, _, _, _]) rfl ?_
              refine r_iinc S dX12_behind_118 rfl rfl (by decide) (lv' := [_, _, _, _, _, _, _, _, _]) rfl ?_
              refine r_goto S dX12_behind_121 (tgt := 22) (by decide) ?_
              refine V.mask [true, true, true, true, true, true, true, true, false] (lv' := [_, _, _, _, _, _, _, _, none]) rfl ?_
              exact s_bh4 hk hy hlo hot hH hB hhp hbd hx hu S
            · exact absurd h_102 (by decide)
          · exact absurd h_91 (by decide)
        · exact absurd h_81 (by decide)
      · refine r_aload_n S dX12_behind_61 rfl ?_
        refine r_iload S dX12_behind_62 rfl ?_
        refine r_iload S dX12_behind_64 rfl ?_
        refine r_iadd S dX12_behind_66 ?_
        refine r_ialdN S (3 + ot) dX12_behind_67 (by repeat (first | assumption | exact sUp_same | exact sNew_same | refine sUp_ne (by first | assumption | omega) ?_)) (by omega) (by omega) (by decide) ?_
        rw [hbd (3 + ot) (by omega)]
        refine r_goto S dX12_behind_68 (tgt := 72) (by decide) ?_
        refine r_num (z' := ((qat u (3 + ot) : Nat) : Int)) (by first | rfl | (rw [qat_big (by omega)]; rfl)) ?_
        refine r_iadd S dX12_behind_72 ?_
        refine r_istore S dX12_behind_73 rfl (by decide) (lv' := [_, _, _, _, _, _, _, _, _]) rfl ?_
        refine r_iload S dX12_behind_75 rfl ?_
        refine r_iload S dX12_behind_77 rfl ?_
        refine r_iload S dX12_behind_79 rfl ?_
        refine r_if_ne S dX12_behind_81 (tgt := 88) (by decide) ⟨by omega, by omega⟩ (fun h_81 => ?_) (fun h_81 => ?_)
        · refine r_iload S dX12_behind_88 rfl ?_
          refine r_iconst S dX12_behind_90 ?_
          refine r_icmp_ne S dX12_behind_91 (tgt := 99) (by decide) ⟨by omega, by omega⟩ ⟨by omega, by omega⟩ (fun h_91 => ?_) (fun h_91 => ?_)
          · refine r_iload S dX12_behind_99 rfl ?_
            refine r_iconst S dX12_behind_101 ?_
            refine r_icmp_ne S dX12_behind_102 (tgt := 111) (by decide) ⟨by omega, by omega⟩ ⟨by omega, by omega⟩ (fun h_102 => ?_) (fun h_102 => ?_)
            · refine r_sipush S dX12_behind_111 (by decide) ?_
              refine r_imul S dX12_behind_114 ?_
              refine r_iadd S dX12_behind_115 ?_
              refine r_num (z' := (((0 + (qat x (0 + lo) + qat u (0 + ot)) * 1 + (qat x (1 + lo) + qat u (1 + ot)) * 17 + (qat x (2 + lo) + qat u (2 + ot)) * 289 + (qat x (3 + lo) + qat u (3 + ot)) * 4913) : Nat) : Int)) (by omega) ?_
              refine r_istore S dX12_behind_116 rfl (by decide) (lv' := [_, _, _, _, _, _, _, _, _]) rfl ?_
              refine r_iinc S dX12_behind_118 rfl rfl (by decide) (lv' := [_, _, _, _, _, _, _, _, _]) rfl ?_
              refine r_goto S dX12_behind_121 (tgt := 22) (by decide) ?_
              refine V.mask [true, true, true, true, true, true, true, true, false] (lv' := [_, _, _, _, _, _, _, _, none]) rfl ?_
              exact s_bh4 hk hy hlo hot hH hB hhp hbd hx hu S
            · exact absurd h_102 (by decide)
          · exact absurd h_91 (by decide)
        · exact absurd h_81 (by decide)

set_option maxRecDepth 100000 in
set_option maxHeartbeats 4000000 in
theorem s_bh2 {κ : Kx} {k : Cx} {σ : St} {kd y lo ot p1 p2 : Nat} {x u : Q4} {hp bd : Nat → Int} (hk : kd < 3) (hy : y < 2) (hlo : costK kd y 1 = (lo : Int)) (hot : costK kd y 0 = (ot : Int)) (hH : σ.2 p1 = some (eI k 4 hp)) (hB : σ.2 p2 = some (eI k 4 bd)) (hhp : ∀ j, j < 4 → hp j = (qat x j : Int)) (hbd : ∀ j, j < 4 → bd j = (qat u j : Int)) (hx : ∀ j, qat x j ≤ 16) (hu : ∀ j, qat u j ≤ 16) (S : Ok κ k cX12_behind 9 RX12 (some .int) "behind" 2 0 0) : V κ k 9 0 0 (QR κ k (fun r σ' => ∃ v, r = some v ∧ (v = .int (iZ (((0 + (qat x (0 + lo) + qat u (0 + ot)) * 1 + (qat x (1 + lo) + qat u (1 + ot)) * 17 + (qat x (2 + lo) + qat u (2 + ot)) * 289 + (qat x (3 + lo) + qat u (3 + ot)) * 4913) : Nat) : Int)) ∧ σ' = σ)) 0 0) 22 [some (.int (iZ (kd : Int))), some (.int (iZ (y : Int))), some (.ref p1), some (.ref p2), some (.int (iZ (lo : Int))), some (.int (iZ (ot : Int))), some (.int (iZ (((0 + (qat x (0 + lo) + qat u (0 + ot)) * 1 + (qat x (1 + lo) + qat u (1 + ot)) * 17) : Nat) : Int))), some (.int (iZ (2 : Int))), none] [] σ := by
  have hl9 := costK_rng kd y 1
  have ho9 := costK_rng kd y 0
  have x9 := hx (2 + lo)
  have u9 := hu (2 + ot)
  refine r_iload S dX12_behind_22 rfl ?_
  refine r_iconst S dX12_behind_24 ?_
  refine r_icmp_ge S dX12_behind_25 (tgt := 124) (by decide) ⟨by omega, by omega⟩ ⟨by omega, by omega⟩ (fun h_25 => ?_) (fun h_25 => ?_)
  · omega
  · refine r_iload S dX12_behind_28 rfl ?_
    refine r_iload S dX12_behind_30 rfl ?_
    refine r_iadd S dX12_behind_32 ?_
    refine r_iconst S dX12_behind_33 ?_
    refine r_icmp_ge S dX12_behind_34 (tgt := 47) (by decide) ⟨by omega, by omega⟩ ⟨by omega, by omega⟩ (fun h_34 => ?_) (fun h_34 => ?_)
    · refine r_iconst S dX12_behind_47 ?_
      refine r_num (z' := ((qat x (2 + lo) : Nat) : Int)) (by first | rfl | (rw [qat_big (by omega)]; rfl)) ?_
      refine r_istore S dX12_behind_48 rfl (by decide) (lv' := [_, _, _, _, _, _, _, _, _]) rfl ?_
      refine r_iload S dX12_behind_50 rfl ?_
      refine r_iload S dX12_behind_52 rfl ?_
      refine r_iload S dX12_behind_54 rfl ?_
      refine r_iadd S dX12_behind_56 ?_
      refine r_iconst S dX12_behind_57 ?_
      refine r_icmp_ge S dX12_behind_58 (tgt := 71) (by decide) ⟨by omega, by omega⟩ ⟨by omega, by omega⟩ (fun h_58 => ?_) (fun h_58 => ?_)
      · refine r_iconst S dX12_behind_71 ?_
        refine r_num (z' := ((qat u (2 + ot) : Nat) : Int)) (by first | rfl | (rw [qat_big (by omega)]; rfl)) ?_
        refine r_iadd S dX12_behind_72 ?_
        refine r_istore S dX12_behind_73 rfl (by decide) (lv' := [_, _, _, _, _, _, _, _, _]) rfl ?_
        refine r_iload S dX12_behind_75 rfl ?_
        refine r_iload S dX12_behind_77 rfl ?_
        refine r_iload S dX12_behind_79 rfl ?_
        refine r_if_ne S dX12_behind_81 (tgt := 88) (by decide) ⟨by omega, by omega⟩ (fun h_81 => ?_) (fun h_81 => ?_)
        · refine r_iload S dX12_behind_88 rfl ?_
          refine r_iconst S dX12_behind_90 ?_
          refine r_icmp_ne S dX12_behind_91 (tgt := 99) (by decide) ⟨by omega, by omega⟩ ⟨by omega, by omega⟩ (fun h_91 => ?_) (fun h_91 => ?_)
          · refine r_iload S dX12_behind_99 rfl ?_
            refine r_iconst S dX12_behind_101 ?_
            refine r_icmp_ne S dX12_behind_102 (tgt := 111) (by decide) ⟨by omega, by omega⟩ ⟨by omega, by omega⟩ (fun h_102 => ?_) (fun h_102 => ?_)
            · exact absurd rfl h_102
            · refine r_sipush S dX12_behind_105 (by decide) ?_
              refine r_goto S dX12_behind_108 (tgt := 114) (by decide) ?_
              refine r_imul S dX12_behind_114 ?_
              refine r_iadd S dX12_behind_115 ?_
              refine r_num (z' := (((0 + (qat x (0 + lo) + qat u (0 + ot)) * 1 + (qat x (1 + lo) + qat u (1 + ot)) * 17 + (qat x (2 + lo) + qat u (2 + ot)) * 289) : Nat) : Int)) (by omega) ?_
              refine r_istore S dX12_behind_116 rfl (by decide) (lv' := [_, _, _, _, _, _, _, _, _]) rfl ?_
              refine r_iinc S dX12_behind_118 rfl rfl (by decide) (lv' := [_, _, _, _, _, _, _, _, _]) rfl ?_
              refine r_goto S dX12_behind_121 (tgt := 22) (by decide) ?_
              refine V.mask [true, true, true, true, true, true, true, true, false] (lv' := [_, _, _, _, _, _, _, _, none]) rfl ?_
              exact s_bh3 hk hy hlo hot hH hB hhp hbd hx hu S
          · exact absurd h_91 (by decide)
        · exact absurd h_81 (by decide)
      · refine r_aload_n S dX12_behind_61 rfl ?_
        refine r_iload S dX12_behind_62 rfl ?_
        refine r_iload S dX12_behind_64 rfl ?_
        refine r_iadd S dX12_behind_66 ?_
        refine r_ialdN S (2 + ot) dX12_behind_67 (by repeat (first | assumption | exact sUp_same | exact sNew_same | refine sUp_ne (by first | assumption | omega) ?_)) (by omega) (by omega) (by decide) ?_
        rw [hbd (2 + ot) (by omega)]
        refine r_goto S dX12_behind_68 (tgt := 72) (by decide) ?_
        refine r_num (z' := ((qat u (2 + ot) : Nat) : Int)) (by first | rfl | (rw [qat_big (by omega)]; rfl)) ?_
        refine r_iadd S dX12_behind_72 ?_
        refine r_istore S dX12_behind_73 rfl (by decide) (lv' := [_, _, _, _, _, _, _, _, _]) rfl ?_
        refine r_iload S dX12_behind_75 rfl ?_
        refine r_iload S dX12_behind_77 rfl ?_
        refine r_iload S dX12_behind_79 rfl ?_
        refine r_if_ne S dX12_behind_81 (tgt := 88) (by decide) ⟨by omega, by omega⟩ (fun h_81 => ?_) (fun h_81 => ?_)
        · refine r_iload S dX12_behind_88 rfl ?_
          refine r_iconst S dX12_behind_90 ?_
          refine r_icmp_ne S dX12_behind_91 (tgt := 99) (by decide) ⟨by omega, by omega⟩ ⟨by omega, by omega⟩ (fun h_91 => ?_) (fun h_91 => ?_)
          · refine r_iload S dX12_behind_99 rfl ?_
            refine r_iconst S dX12_behind_101 ?_
            refine r_icmp_ne S dX12_behind_102 (tgt := 111) (by decide) ⟨by omega, by omega⟩ ⟨by omega, by omega⟩ (fun h_102 => ?_) (fun h_102 => ?_)
            · exact absurd rfl h_102
            · refine r_sipush S dX12_behind_105 (by decide) ?_
              refine r_goto S dX12_behind_108 (tgt := 114) (by decide) ?_
              refine r_imul S dX12_behind_114 ?_
              refine r_iadd S dX12_behind_115 ?_
              refine r_num (z' := (((0 + (qat x (0 + lo) + qat u (0 + ot)) * 1 + (qat x (1 + lo) + qat u (1 + ot)) * 17 + (qat x (2 + lo) + qat u (2 + ot)) * 289) : Nat) : Int)) (by omega) ?_
              refine r_istore S dX12_behind_116 rfl (by decide) (lv' := [_, _, _, _, _, _, _, _, _]) rfl ?_
              refine r_iinc S dX12_behind_118 rfl rfl (by decide) (lv' := [_, _, _, _, _, _, _, _, _]) rfl ?_
              refine r_goto S dX12_behind_121 (tgt := 22) (by decide) ?_
              refine V.mask [true, true, true, true, true, true, true, true, false] (lv' := [_, _, _, _, _, _, _, _, none]) rfl ?_
              exact s_bh3 hk hy hlo hot hH hB hhp hbd hx hu S
          · exact absurd h_91 (by decide)
        · exact absurd h_81 (by decide)
    · refine r_aload_n S dX12_behind_37 rfl ?_
      refine r_iload S dX12_behind_38 rfl ?_
      refine r_iload S dX12_behind_40 rfl ?_
      refine r_iadd S dX12_behind_42 ?_
      refine r_ialdN S (2 + lo) dX12_behind_43 (by repeat (first | assumption | exact sUp_same | exact sNew_same | refine sUp_ne (by first | assumption | omega) ?_)) (by omega) (by omega) (by decide) ?_
      rw [hhp (2 + lo) (by omega)]
      refine r_goto S dX12_behind_44 (tgt := 48) (by decide) ?_
      refine r_num (z' := ((qat x (2 + lo) : Nat) : Int)) (by first | rfl | (rw [qat_big (by omega)]; rfl)) ?_
      refine r_istore S dX12_behind_48 rfl (by decide) (lv' := [_, _, _, _, _, _, _, _, _]) rfl ?_
      refine r_iload S dX12_behind_50 rfl ?_
      refine r_iload S dX12_behind_52 rfl ?_
      refine r_iload S dX12_behind_54 rfl ?_
      refine r_iadd S dX12_behind_56 ?_
      refine r_iconst S dX12_behind_57 ?_
      refine r_icmp_ge S dX12_behind_58 (tgt := 71) (by decide) ⟨by omega, by omega⟩ ⟨by omega, by omega⟩ (fun h_58 => ?_) (fun h_58 => ?_)
      · refine r_iconst S dX12_behind_71 ?_
        refine r_num (z' := ((qat u (2 + ot) : Nat) : Int)) (by first | rfl | (rw [qat_big (by omega)]; rfl)) ?_
        refine r_iadd S dX12_behind_72 ?_
        refine r_istore S dX12_behind_73 rfl (by decide) (lv' := [_, _, _, _, _, _, _, _, _]) rfl ?_
        refine r_iload S dX12_behind_75 rfl ?_
        refine r_iload S dX12_behind_77 rfl ?_
        refine r_iload S dX12_behind_79 rfl ?_
        refine r_if_ne S dX12_behind_81 (tgt := 88) (by decide) ⟨by omega, by omega⟩ (fun h_81 => ?_) (fun h_81 => ?_)
        · refine r_iload S dX12_behind_88 rfl ?_
          refine r_iconst S dX12_behind_90 ?_
          refine r_icmp_ne S dX12_behind_91 (tgt := 99) (by decide) ⟨by omega, by omega⟩ ⟨by omega, by omega⟩ (fun h_91 => ?_) (fun h_91 => ?_)
          · refine r_iload S dX12_behind_99 rfl ?_
            refine r_iconst S dX12_behind_101 ?_
            refine r_icmp_ne S dX12_behind_102 (tgt := 111) (by decide) ⟨by omega, by omega⟩ ⟨by omega, by omega⟩ (fun h_102 => ?_) (fun h_102 => ?_)
            · exact absurd rfl h_102
            · refine r_sipush S dX12_behind_105 (by decide) ?_
              refine r_goto S dX12_behind_108 (tgt := 114) (by decide) ?_
              refine r_imul S dX12_behind_114 ?_
              refine r_iadd S dX12_behind_115 ?_
              refine r_num (z' := (((0 + (qat x (0 + lo) + qat u (0 + ot)) * 1 + (qat x (1 + lo) + qat u (1 + ot)) * 17 + (qat x (2 + lo) + qat u (2 + ot)) * 289) : Nat) : Int)) (by omega) ?_
              refine r_istore S dX12_behind_116 rfl (by decide) (lv' := [_, _, _, _, _, _, _, _, _]) rfl ?_
              refine r_iinc S dX12_behind_118 rfl rfl (by decide) (lv' := [_, _, _, _, _, _, _, _, _]) rfl ?_
              refine r_goto S dX12_behind_121 (tgt := 22) (by decide) ?_
              refine V.mask [true, true, true, true, true, true, true, true, false] (lv' := [_, _, _, _, _, _, _, _, none]) rfl ?_
              exact s_bh3 hk hy hlo hot hH hB hhp hbd hx hu S
          · exact absurd h_91 (by decide)
        · exact absurd h_81 (by decide)
      · refine r_aload_n S dX12_behind_61 rfl ?_
        refine r_iload S dX12_behind_62 rfl ?_
        refine r_iload S dX12_behind_64 rfl ?_
        refine r_iadd S dX12_behind_66 ?_
        refine r_ialdN S (2 + ot) dX12_behind_67 (by repeat (first | assumption | exact sUp_same | exact sNew_same | refine sUp_ne (by first | assumption | omega) ?_)) (by omega) (by omega) (by decide) ?_
        rw [hbd (2 + ot) (by omega)]
        refine r_goto S dX12_behind_68 (tgt := 72) (by decide) ?_
        refine r_num (z' := ((qat u (2 + ot) : Nat) : Int)) (by first | rfl | (rw [qat_big (by omega)]; rfl)) ?_
        refine r_iadd S dX12_behind_72 ?_
        refine r_istore S dX12_behind_73 rfl (by decide) (lv' := [_, _, _, _, _, _, _, _, _]) rfl ?_
        refine r_iload S dX12_behind_75 rfl ?_
        refine r_iload S dX12_behind_77 rfl ?_
        refine r_iload S dX12_behind_79 rfl ?_
        refine r_if_ne S dX12_behind_81 (tgt := 88) (by decide) ⟨by omega, by omega⟩ (fun h_81 => ?_) (fun h_81 => ?_)
        · refine r_iload S dX12_behind_88 rfl ?_
          refine r_iconst S dX12_behind_90 ?_
          refine r_icmp_ne S dX12_behind_91 (tgt := 99) (by decide) ⟨by omega, by omega⟩ ⟨by omega, by omega⟩ (fun h_91 => ?_) (fun h_91 => ?_)
          · refine r_iload S dX12_behind_99 rfl ?_
            refine r_iconst S dX12_behind_101 ?_
            refine r_icmp_ne S dX12_behind_102 (tgt := 111) (by decide) ⟨by omega, by omega⟩ ⟨by omega, by omega⟩ (fun h_102 => ?_) (fun h_102 => ?_)
            · exact absurd rfl h_102
            · refine r_sipush S dX12_behind_105 (by decide) ?_
              refine r_goto S dX12_behind_108 (tgt := 114) (by decide) ?_
              refine r_imul S dX12_behind_114 ?_
              refine r_iadd S dX12_behind_115 ?_
              refine r_num (z' := (((0 + (qat x (0 + lo) + qat u (0 + ot)) * 1 + (qat x (1 + lo) + qat u (1 + ot)) * 17 + (qat x (2 + lo) + qat u (2 + ot)) * 289) : Nat) : Int)) (by omega) ?_
              refine r_istore S dX12_behind_116 rfl (by decide) (lv' := [_, _, _, _, _, _, _, _, _]) rfl ?_
              refine r_iinc S dX12_behind_118 rfl rfl (by decide) (lv' := [_, _, _, _, _, _, _, _, _]) rfl ?_
              refine r_goto S dX12_behind_121 (tgt := 22) (by decide) ?_
              refine V.mask [true, true, true, true, true, true, true, true, false] (lv' := [_, _, _, _, _, _, _, _, none]) rfl ?_
              exact s_bh3 hk hy hlo hot hH hB hhp hbd hx hu S
          · exact absurd h_91 (by decide)
        · exact absurd h_81 (by decide)

set_option maxRecDepth 100000 in
set_option maxHeartbeats 4000000 in
theorem s_bh1 {κ : Kx} {k : Cx} {σ : St} {kd y lo ot p1 p2 : Nat} {x u : Q4} {hp bd : Nat → Int} (hk : kd < 3) (hy : y < 2) (hlo : costK kd y 1 = (lo : Int)) (hot : costK kd y 0 = (ot : Int)) (hH : σ.2 p1 = some (eI k 4 hp)) (hB : σ.2 p2 = some (eI k 4 bd)) (hhp : ∀ j, j < 4 → hp j = (qat x j : Int)) (hbd : ∀ j, j < 4 → bd j = (qat u j : Int)) (hx : ∀ j, qat x j ≤ 16) (hu : ∀ j, qat u j ≤ 16) (S : Ok κ k cX12_behind 9 RX12 (some .int) "behind" 2 0 0) : V κ k 9 0 0 (QR κ k (fun r σ' => ∃ v, r = some v ∧ (v = .int (iZ (((0 + (qat x (0 + lo) + qat u (0 + ot)) * 1 + (qat x (1 + lo) + qat u (1 + ot)) * 17 + (qat x (2 + lo) + qat u (2 + ot)) * 289 + (qat x (3 + lo) + qat u (3 + ot)) * 4913) : Nat) : Int)) ∧ σ' = σ)) 0 0) 22 [some (.int (iZ (kd : Int))), some (.int (iZ (y : Int))), some (.ref p1), some (.ref p2), some (.int (iZ (lo : Int))), some (.int (iZ (ot : Int))), some (.int (iZ (((0 + (qat x (0 + lo) + qat u (0 + ot)) * 1) : Nat) : Int))), some (.int (iZ (1 : Int))), none] [] σ := by
  have hl9 := costK_rng kd y 1
  have ho9 := costK_rng kd y 0
  have x9 := hx (1 + lo)
  have u9 := hu (1 + ot)
  refine r_iload S dX12_behind_22 rfl ?_
  refine r_iconst S dX12_behind_24 ?_
  refine r_icmp_ge S dX12_behind_25 (tgt := 124) (by decide) ⟨by omega, by omega⟩ ⟨by omega, by omega⟩ (fun h_25 => ?_) (fun h_25 => ?_)
  · omega
  · refine r_iload S dX12_behind_28 rfl ?_
    refine r_iload S dX12_behind_30 rfl ?_
    refine r_iadd S dX12_behind_32 ?_
    refine r_iconst S dX12_behind_33 ?_
    refine r_icmp_ge S dX12_behind_34 (tgt := 47) (by decide) ⟨by omega, by omega⟩ ⟨by omega, by omega⟩ (fun h_34 => ?_) (fun h_34 => ?_)
    · refine r_iconst S dX12_behind_47 ?_
      refine r_num (z' := ((qat x (1 + lo) : Nat) : Int)) (by first | rfl | (rw [qat_big (by omega)]; rfl)) ?_
      refine r_istore S dX12_behind_48 rfl (by decide) (lv' := [_, _, _, _, _, _, _, _, _]) rfl ?_
      refine r_iload S dX12_behind_50 rfl ?_
      refine r_iload S dX12_behind_52 rfl ?_
      refine r_iload S dX12_behind_54 rfl ?_
      refine r_iadd S dX12_behind_56 ?_
      refine r_iconst S dX12_behind_57 ?_
      refine r_icmp_ge S dX12_behind_58 (tgt := 71) (by decide) ⟨by omega, by omega⟩ ⟨by omega, by omega⟩ (fun h_58 => ?_) (fun h_58 => ?_)
      · refine r_iconst S dX12_behind_71 ?_
        refine r_num (z' := ((qat u (1 + ot) : Nat) : Int)) (by first | rfl | (rw [qat_big (by omega)]; rfl)) ?_
        refine r_iadd S dX12_behind_72 ?_
        refine r_istore S dX12_behind_73 rfl (by decide) (lv' := [_, _, _, _, _, _, _, _, _]) rfl ?_
        refine r_iload S dX12_behind_75 rfl ?_
        refine r_iload S dX12_behind_77 rfl ?_
        refine r_iload S dX12_behind_79 rfl ?_
        refine r_if_ne S dX12_behind_81 (tgt := 88) (by decide) ⟨by omega, by omega⟩ (fun h_81 => ?_) (fun h_81 => ?_)
        · refine r_iload S dX12_behind_88 rfl ?_
          refine r_iconst S dX12_behind_90 ?_
          refine r_icmp_ne S dX12_behind_91 (tgt := 99) (by decide) ⟨by omega, by omega⟩ ⟨by omega, by omega⟩ (fun h_91 => ?_) (fun h_91 => ?_)
          · exact absurd rfl h_91
          · refine r_bipush S dX12_behind_94 (by decide) ?_
            refine r_goto S dX12_behind_96 (tgt := 114) (by decide) ?_
            refine r_imul S dX12_behind_114 ?_
            refine r_iadd S dX12_behind_115 ?_
            refine r_num (z' := (((0 + (qat x (0 + lo) + qat u (0 + ot)) * 1 + (qat x (1 + lo) + qat u (1 + ot)) * 17) : Nat) : Int)) (by omega) ?_
            refine r_istore S dX12_behind_116 rfl (by decide) (lv' := [_, _, _, _, _, _, _, _, _]) rfl ?_
            refine r_iinc S dX12_behind_118 rfl rfl (by decide) (lv' := [_, _, _, _, _, _, _, _, _]) rfl ?_
            refine r_goto S dX12_behind_121 (tgt := 22) (by decide) ?_
            refine V.mask [true, true, true, true, true, true, true, true, false] (lv' := [_, _, _, _, _, _, _, _, none]) rfl ?_
            exact s_bh2 hk hy hlo hot hH hB hhp hbd hx hu S
        · exact absurd h_81 (by decide)
      · refine r_aload_n S dX12_behind_61 rfl ?_
        refine r_iload S dX12_behind_62 rfl ?_
        refine r_iload S dX12_behind_64 rfl ?_
        refine r_iadd S dX12_behind_66 ?_
        refine r_ialdN S (1 + ot) dX12_behind_67 (by repeat (first | assumption | exact sUp_same | exact sNew_same | refine sUp_ne (by first | assumption | omega) ?_)) (by omega) (by omega) (by decide) ?_
        rw [hbd (1 + ot) (by omega)]
        refine r_goto S dX12_behind_68 (tgt := 72) (by decide) ?_
        refine r_num (z' := ((qat u (1 + ot) : Nat) : Int)) (by first | rfl | (rw [qat_big (by omega)]; rfl)) ?_
        refine r_iadd S dX12_behind_72 ?_
        refine r_istore S dX12_behind_73 rfl (by decide) (lv' := [_, _, _, _, _, _, _, _, _]) rfl ?_
        refine r_iload S dX12_behind_75 rfl ?_
        refine r_iload S dX12_behind_77 rfl ?_
        refine r_iload S dX12_behind_79 rfl ?_
        refine r_if_ne S dX12_behind_81 (tgt := 88) (by decide) ⟨by omega, by omega⟩ (fun h_81 => ?_) (fun h_81 => ?_)
        · refine r_iload S dX12_behind_88 rfl ?_
          refine r_iconst S dX12_behind_90 ?_
          refine r_icmp_ne S dX12_behind_91 (tgt := 99) (by decide) ⟨by omega, by omega⟩ ⟨by omega, by omega⟩ (fun h_91 => ?_) (fun h_91 => ?_)
          · exact absurd rfl h_91
          · refine r_bipush S dX12_behind_94 (by decide) ?_
            refine r_goto S dX12_behind_96 (tgt := 114) (by decide) ?_
            refine r_imul S dX12_behind_114 ?_
            refine r_iadd S dX12_behind_115 ?_
            refine r_num (z' := (((0 + (qat x (0 + lo) + qat u (0 + ot)) * 1 + (qat x (1 + lo) + qat u (1 + ot)) * 17) : Nat) : Int)) (by omega) ?_
            refine r_istore S dX12_behind_116 rfl (by decide) (lv' := [_, _, _, _, _, _, _, _, _]) rfl ?_
            refine r_iinc S dX12_behind_118 rfl rfl (by decide) (lv' := [_, _, _, _, _, _, _, _, _]) rfl ?_
            refine r_goto S dX12_behind_121 (tgt := 22) (by decide) ?_
            refine V.mask [true, true, true, true, true, true, true, true, false] (lv' := [_, _, _, _, _, _, _, _, none]) rfl ?_
            exact s_bh2 hk hy hlo hot hH hB hhp hbd hx hu S
        · exact absurd h_81 (by decide)
    · refine r_aload_n S dX12_behind_37 rfl ?_
      refine r_iload S dX12_behind_38 rfl ?_
      refine r_iload S dX12_behind_40 rfl ?_
      refine r_iadd S dX12_behind_42 ?_
      refine r_ialdN S (1 + lo) dX12_behind_43 (by repeat (first | assumption | exact sUp_same | exact sNew_same | refine sUp_ne (by first | assumption | omega) ?_)) (by omega) (by omega) (by decide) ?_
      rw [hhp (1 + lo) (by omega)]
      refine r_goto S dX12_behind_44 (tgt := 48) (by decide) ?_
      refine r_num (z' := ((qat x (1 + lo) : Nat) : Int)) (by first | rfl | (rw [qat_big (by omega)]; rfl)) ?_
      refine r_istore S dX12_behind_48 rfl (by decide) (lv' := [_, _, _, _, _, _, _, _, _]) rfl ?_
      refine r_iload S dX12_behind_50 rfl ?_
      refine r_iload S dX12_behind_52 rfl ?_
      refine r_iload S dX12_behind_54 rfl ?_
      refine r_iadd S dX12_behind_56 ?_
      refine r_iconst S dX12_behind_57 ?_
      refine r_icmp_ge S dX12_behind_58 (tgt := 71) (by decide) ⟨by omega, by omega⟩ ⟨by omega, by omega⟩ (fun h_58 => ?_) (fun h_58 => ?_)
      · refine r_iconst S dX12_behind_71 ?_
        refine r_num (z' := ((qat u (1 + ot) : Nat) : Int)) (by first | rfl | (rw [qat_big (by omega)]; rfl)) ?_
        refine r_iadd S dX12_behind_72 ?_
        refine r_istore S dX12_behind_73 rfl (by decide) (lv' := [_, _, _, _, _, _, _, _, _]) rfl ?_
        refine r_iload S dX12_behind_75 rfl ?_
        refine r_iload S dX12_behind_77 rfl ?_
        refine r_iload S dX12_behind_79 rfl ?_
        refine r_if_ne S dX12_behind_81 (tgt := 88) (by decide) ⟨by omega, by omega⟩ (fun h_81 => ?_) (fun h_81 => ?_)
        · refine r_iload S dX12_behind_88 rfl ?_
          refine r_iconst S dX12_behind_90 ?_
          refine r_icmp_ne S dX12_behind_91 (tgt := 99) (by decide) ⟨by omega, by omega⟩ ⟨by omega, by omega⟩ (fun h_91 => ?_) (fun h_91 => ?_)
          · exact absurd rfl h_91
          · refine r_bipush S dX12_behind_94 (by decide) ?_
            refine r_goto S dX12_behind_96 (tgt := 114) (by decide) ?_
            refine r_imul S dX12_behind_114 ?_
            refine r_iadd S dX12_behind_115 ?_
            refine r_num (z' := (((0 + (qat x (0 + lo) + qat u (0 + ot)) * 1 + (qat x (1 + lo) + qat u (1 + ot)) * 17) : Nat) : Int)) (by omega) ?_
            refine r_istore S dX12_behind_116 rfl (by decide) (lv' := [_, _, _, _, _, _, _, _, _]) rfl ?_
            refine r_iinc S dX12_behind_118 rfl rfl (by decide) (lv' := [_, _, _, _, _, _, _, _, _]) rfl ?_
            refine r_goto S dX12_behind_121 (tgt := 22) (by decide) ?_
            refine V.mask [true, true, true, true, true, true, true, true, false] (lv' := [_, _, _, _, _, _, _, _, none]) rfl ?_
            exact s_bh2 hk hy hlo hot hH hB hhp hbd hx hu S
        · exact absurd h_81 (by decide)
      · refine r_aload_n S dX12_behind_61 rfl ?_
        refine r_iload S dX12_behind_62 rfl ?_
        refine r_iload S dX12_behind_64 rfl ?_
        refine r_iadd S dX12_behind_66 ?_
        refine r_ialdN S (1 + ot) dX12_behind_67 (by repeat (first | assumption | exact sUp_same | exact sNew_same | refine sUp_ne (by first | assumption | omega) ?_)) (by omega) (by omega) (by decide) ?_
        rw [hbd (1 + ot) (by omega)]
        refine r_goto S dX12_behind_68 (tgt := 72) (by decide) ?_
        refine r_num (z' := ((qat u (1 + ot) : Nat) : Int)) (by first | rfl | (rw [qat_big (by omega)]; rfl)) ?_
        refine r_iadd S dX12_behind_72 ?_
        refine r_istore S dX12_behind_73 rfl (by decide) (lv' := [_, _, _, _, _, _, _, _, _]) rfl ?_
        refine r_iload S dX12_behind_75 rfl ?_
        refine r_iload S dX12_behind_77 rfl ?_
        refine r_iload S dX12_behind_79 rfl ?_
        refine r_if_ne S dX12_behind_81 (tgt := 88) (by decide) ⟨by omega, by omega⟩ (fun h_81 => ?_) (fun h_81 => ?_)
        · refine r_iload S dX12_behind_88 rfl ?_
          refine r_iconst S dX12_behind_90 ?_
          refine r_icmp_ne S dX12_behind_91 (tgt := 99) (by decide) ⟨by omega, by omega⟩ ⟨by omega, by omega⟩ (fun h_91 => ?_) (fun h_91 => ?_)
          · exact absurd rfl h_91
          · refine r_bipush S dX12_behind_94 (by decide) ?_
            refine r_goto S dX12_behind_96 (tgt := 114) (by decide) ?_
            refine r_imul S dX12_behind_114 ?_
            refine r_iadd S dX12_behind_115 ?_
            refine r_num (z' := (((0 + (qat x (0 + lo) + qat u (0 + ot)) * 1 + (qat x (1 + lo) + qat u (1 + ot)) * 17) : Nat) : Int)) (by omega) ?_
            refine r_istore S dX12_behind_116 rfl (by decide) (lv' := [_, _, _, _, _, _, _, _, _]) rfl ?_
            refine r_iinc S dX12_behind_118 rfl rfl (by decide) (lv' := [_, _, _, _, _, _, _, _, _]) rfl ?_
            refine r_goto S dX12_behind_121 (tgt := 22) (by decide) ?_
            refine V.mask [true, true, true, true, true, true, true, true, false] (lv' := [_, _, _, _, _, _, _, _, none]) rfl ?_
            exact s_bh2 hk hy hlo hot hH hB hhp hbd hx hu S
        · exact absurd h_81 (by decide)

set_option maxRecDepth 100000 in
set_option maxHeartbeats 4000000 in
theorem s_bh0 {κ : Kx} {k : Cx} {σ : St} {kd y lo ot p1 p2 : Nat} {x u : Q4} {hp bd : Nat → Int} (hk : kd < 3) (hy : y < 2) (hlo : costK kd y 1 = (lo : Int)) (hot : costK kd y 0 = (ot : Int)) (hH : σ.2 p1 = some (eI k 4 hp)) (hB : σ.2 p2 = some (eI k 4 bd)) (hhp : ∀ j, j < 4 → hp j = (qat x j : Int)) (hbd : ∀ j, j < 4 → bd j = (qat u j : Int)) (hx : ∀ j, qat x j ≤ 16) (hu : ∀ j, qat u j ≤ 16) (S : Ok κ k cX12_behind 9 RX12 (some .int) "behind" 2 0 0) : V κ k 9 0 0 (QR κ k (fun r σ' => ∃ v, r = some v ∧ (v = .int (iZ (((0 + (qat x (0 + lo) + qat u (0 + ot)) * 1 + (qat x (1 + lo) + qat u (1 + ot)) * 17 + (qat x (2 + lo) + qat u (2 + ot)) * 289 + (qat x (3 + lo) + qat u (3 + ot)) * 4913) : Nat) : Int)) ∧ σ' = σ)) 0 0) 22 [some (.int (iZ (kd : Int))), some (.int (iZ (y : Int))), some (.ref p1), some (.ref p2), some (.int (iZ (lo : Int))), some (.int (iZ (ot : Int))), some (.int (iZ (((0) : Nat) : Int))), some (.int (iZ (0 : Int))), none] [] σ := by
  have hl9 := costK_rng kd y 1
  have ho9 := costK_rng kd y 0
  have x9 := hx (0 + lo)
  have u9 := hu (0 + ot)
  refine r_iload S dX12_behind_22 rfl ?_
  refine r_iconst S dX12_behind_24 ?_
  refine r_icmp_ge S dX12_behind_25 (tgt := 124) (by decide) ⟨by omega, by omega⟩ ⟨by omega, by omega⟩ (fun h_25 => ?_) (fun h_25 => ?_)
  · omega
  · refine r_iload S dX12_behind_28 rfl ?_
    refine r_iload S dX12_behind_30 rfl ?_
    refine r_iadd S dX12_behind_32 ?_
    refine r_iconst S dX12_behind_33 ?_
    refine r_icmp_ge S dX12_behind_34 (tgt := 47) (by decide) ⟨by omega, by omega⟩ ⟨by omega, by omega⟩ (fun h_34 => ?_) (fun h_34 => ?_)
    · refine r_iconst S dX12_behind_47 ?_
      refine r_num (z' := ((qat x (0 + lo) : Nat) : Int)) (by first | rfl | (rw [qat_big (by omega)]; rfl)) ?_
      refine r_istore S dX12_behind_48 rfl (by decide) (lv' := [_, _, _, _, _, _, _, _, _]) rfl ?_
      refine r_iload S dX12_behind_50 rfl ?_
      refine r_iload S dX12_behind_52 rfl ?_
      refine r_iload S dX12_behind_54 rfl ?_
      refine r_iadd S dX12_behind_56 ?_
      refine r_iconst S dX12_behind_57 ?_
      refine r_icmp_ge S dX12_behind_58 (tgt := 71) (by decide) ⟨by omega, by omega⟩ ⟨by omega, by omega⟩ (fun h_58 => ?_) (fun h_58 => ?_)
      · refine r_iconst S dX12_behind_71 ?_
        refine r_num (z' := ((qat u (0 + ot) : Nat) : Int)) (by first | rfl | (rw [qat_big (by omega)]; rfl)) ?_
        refine r_iadd S dX12_behind_72 ?_
        refine r_istore S dX12_behind_73 rfl (by decide) (lv' := [_, _, _, _, _, _, _, _, _]) rfl ?_
        refine r_iload S dX12_behind_75 rfl ?_
        refine r_iload S dX12_behind_77 rfl ?_
        refine r_iload S dX12_behind_79 rfl ?_
        refine r_if_ne S dX12_behind_81 (tgt := 88) (by decide) ⟨by omega, by omega⟩ (fun h_81 => ?_) (fun h_81 => ?_)
        · exact absurd rfl h_81
        · refine r_iconst S dX12_behind_84 ?_
          refine r_goto S dX12_behind_85 (tgt := 114) (by decide) ?_
          refine r_imul S dX12_behind_114 ?_
          refine r_iadd S dX12_behind_115 ?_
          refine r_num (z' := (((0 + (qat x (0 + lo) + qat u (0 + ot)) * 1) : Nat) : Int)) (by omega) ?_
          refine r_istore S dX12_behind_116 rfl (by decide) (lv' := [_, _, _, _, _, _, _, _, _]) rfl ?_
          refine r_iinc S dX12_behind_118 rfl rfl (by decide) (lv' := [_, _, _, _, _, _, _, _, _]) rfl ?_
          refine r_goto S dX12_behind_121 (tgt := 22) (by decide) ?_
          refine V.mask [true, true, true, true, true, true, true, true, false] (lv' := [_, _, _, _, _, _, _, _, none]) rfl ?_
          exact s_bh1 hk hy hlo hot hH hB hhp hbd hx hu S
      · refine r_aload_n S dX12_behind_61 rfl ?_
        refine r_iload S dX12_behind_62 rfl ?_
        refine r_iload S dX12_behind_64 rfl ?_
        refine r_iadd S dX12_behind_66 ?_
        refine r_ialdN S (0 + ot) dX12_behind_67 (by repeat (first | assumption | exact sUp_same | exact sNew_same | refine sUp_ne (by first | assumption | omega) ?_)) (by omega) (by omega) (by decide) ?_
        rw [hbd (0 + ot) (by omega)]
        refine r_goto S dX12_behind_68 (tgt := 72) (by decide) ?_
        refine r_num (z' := ((qat u (0 + ot) : Nat) : Int)) (by first | rfl | (rw [qat_big (by omega)]; rfl)) ?_
        refine r_iadd S dX12_behind_72 ?_
        refine r_istore S dX12_behind_73 rfl (by decide) (lv' := [_, _, _, _, _, _, _, _, _]) rfl ?_
        refine r_iload S dX12_behind_75 rfl ?_
        refine r_iload S dX12_behind_77 rfl ?_
        refine r_iload S dX12_behind_79 rfl ?_
        refine r_if_ne S dX12_behind_81 (tgt := 88) (by decide) ⟨by omega, by omega⟩ (fun h_81 => ?_) (fun h_81 => ?_)
        · exact absurd rfl h_81
        · refine r_iconst S dX12_behind_84 ?_
          refine r_goto S dX12_behind_85 (tgt := 114) (by decide) ?_
          refine r_imul S dX12_behind_114 ?_
          refine r_iadd S dX12_behind_115 ?_
          refine r_num (z' := (((0 + (qat x (0 + lo) + qat u (0 + ot)) * 1) : Nat) : Int)) (by omega) ?_
          refine r_istore S dX12_behind_116 rfl (by decide) (lv' := [_, _, _, _, _, _, _, _, _]) rfl ?_
          refine r_iinc S dX12_behind_118 rfl rfl (by decide) (lv' := [_, _, _, _, _, _, _, _, _]) rfl ?_
          refine r_goto S dX12_behind_121 (tgt := 22) (by decide) ?_
          refine V.mask [true, true, true, true, true, true, true, true, false] (lv' := [_, _, _, _, _, _, _, _, none]) rfl ?_
          exact s_bh1 hk hy hlo hot hH hB hhp hbd hx hu S
    · refine r_aload_n S dX12_behind_37 rfl ?_
      refine r_iload S dX12_behind_38 rfl ?_
      refine r_iload S dX12_behind_40 rfl ?_
      refine r_iadd S dX12_behind_42 ?_
      refine r_ialdN S (0 + lo) dX12_behind_43 (by repeat (first | assumption | exact sUp_same | exact sNew_same | refine sUp_ne (by first | assumption | omega) ?_)) (by omega) (by omega) (by decide) ?_
      rw [hhp (0 + lo) (by omega)]
      refine r_goto S dX12_behind_44 (tgt := 48) (by decide) ?_
      refine r_num (z' := ((qat x (0 + lo) : Nat) : Int)) (by first | rfl | (rw [qat_big (by omega)]; rfl)) ?_
      refine r_istore S dX12_behind_48 rfl (by decide) (lv' := [_, _, _, _, _, _, _, _, _]) rfl ?_
      refine r_iload S dX12_behind_50 rfl ?_
      refine r_iload S dX12_behind_52 rfl ?_
      refine r_iload S dX12_behind_54 rfl ?_
      refine r_iadd S dX12_behind_56 ?_
      refine r_iconst S dX12_behind_57 ?_
      refine r_icmp_ge S dX12_behind_58 (tgt := 71) (by decide) ⟨by omega, by omega⟩ ⟨by omega, by omega⟩ (fun h_58 => ?_) (fun h_58 => ?_)
      · refine r_iconst S dX12_behind_71 ?_
        refine r_num (z' := ((qat u (0 + ot) : Nat) : Int)) (by first | rfl | (rw [qat_big (by omega)]; rfl)) ?_
        refine r_iadd S dX12_behind_72 ?_
        refine r_istore S dX12_behind_73 rfl (by decide) (lv' := [_, _, _, _, _, _, _, _, _]) rfl ?_
        refine r_iload S dX12_behind_75 rfl ?_
        refine r_iload S dX12_behind_77 rfl ?_
        refine r_iload S dX12_behind_79 rfl ?_
        refine r_if_ne S dX12_behind_81 (tgt := 88) (by decide) ⟨by omega, by omega⟩ (fun h_81 => ?_) (fun h_81 => ?_)
        · exact absurd rfl h_81
        · refine r_iconst S dX12_behind_84 ?_
          refine r_goto S dX12_behind_85 (tgt := 114) (by decide) ?_
          refine r_imul S dX12_behind_114 ?_
          refine r_iadd S dX12_behind_115 ?_
          refine r_num (z' := (((0 + (qat x (0 + lo) + qat u (0 + ot)) * 1) : Nat) : Int)) (by omega) ?_
          refine r_istore S dX12_behind_116 rfl (by decide) (lv' := [_, _, _, _, _, _, _, _, _]) rfl ?_
          refine r_iinc S dX12_behind_118 rfl rfl (by decide) (lv' := [_, _, _, _, _, _, _, _, _]) rfl ?_
          refine r_goto S dX12_behind_121 (tgt := 22) (by decide) ?_
          refine V.mask [true, true, true, true, true, true, true, true, false] (lv' := [_, _, _, _, _, _, _, _, none]) rfl ?_
          exact s_bh1 hk hy hlo hot hH hB hhp hbd hx hu S
      · refine r_aload_n S dX12_behind_61 rfl ?_
        refine r_iload S dX12_behind_62 rfl ?_
        refine r_iload S dX12_behind_64 rfl ?_
        refine r_iadd S dX12_behind_66 ?_
        refine r_ialdN S (0 + ot) dX12_behind_67 (by repeat (first | assumption | exact sUp_same | exact sNew_same | refine sUp_ne (by first | assumption | omega) ?_)) (by omega) (by omega) (by decide) ?_
        rw [hbd (0 + ot) (by omega)]
        refine r_goto S dX12_behind_68 (tgt := 72) (by decide) ?_
        refine r_num (z' := ((qat u (0 + ot) : Nat) : Int)) (by first | rfl | (rw [qat_big (by omega)]; rfl)) ?_
        refine r_iadd S dX12_behind_72 ?_
        refine r_istore S dX12_behind_73 rfl (by decide) (lv' := [_, _, _, _, _, _, _, _, _]) rfl ?_
        refine r_iload S dX12_behind_75 rfl ?_
        refine r_iload S dX12_behind_77 rfl ?_
        refine r_iload S dX12_behind_79 rfl ?_
        refine r_if_ne S dX12_behind_81 (tgt := 88) (by decide) ⟨by omega, by omega⟩ (fun h_81 => ?_) (fun h_81 => ?_)
        · exact absurd rfl h_81
        · refine r_iconst S dX12_behind_84 ?_
          refine r_goto S dX12_behind_85 (tgt := 114) (by decide) ?_
          refine r_imul S dX12_behind_114 ?_
          refine r_iadd S dX12_behind_115 ?_
          refine r_num (z' := (((0 + (qat x (0 + lo) + qat u (0 + ot)) * 1) : Nat) : Int)) (by omega) ?_
          refine r_istore S dX12_behind_116 rfl (by decide) (lv' := [_, _, _, _, _, _, _, _, _]) rfl ?_
          refine r_iinc S dX12_behind_118 rfl rfl (by decide) (lv' := [_, _, _, _, _, _, _, _, _]) rfl ?_
          refine r_goto S dX12_behind_121 (tgt := 22) (by decide) ?_
          refine V.mask [true, true, true, true, true, true, true, true, false] (lv' := [_, _, _, _, _, _, _, _, none]) rfl ?_
          exact s_bh1 hk hy hlo hot hH hB hhp hbd hx hu S

set_option maxRecDepth 100000 in
set_option maxHeartbeats 4000000 in
theorem c_behind {k : Cx} {L0 : Launch} {σ : St} {kd y lo ot p1 p2 : Nat} {x u : Q4} {hp bd : Nat → Int} (hk : kd < 3) (hy : y < 2) (hlo : costK kd y 1 = (lo : Int)) (hot : costK kd y 0 = (ot : Int)) (hH : σ.2 p1 = some (eI k 4 hp)) (hB : σ.2 p2 = some (eI k 4 bd)) (hhp : ∀ j, j < 4 → hp j = (qat x j : Int)) (hbd : ∀ j, j < 4 → bd j = (qat u j : Int)) (hx : ∀ j, qat x j ≤ 16) (hu : ∀ j, qat u j ≤ 16) : CtrV k L0 mX12_behind 2 0 0 [.int (iZ (kd : Int)), .int (iZ (y : Int)), .ref p1, .ref p2] σ (fun v σ' => v = .int (iZ (((posQ (qat x (0 + lo) + qat u (0 + ot), qat x (1 + lo) + qat u (1 + ot), qat x (2 + lo) + qat u (2 + ot), qat x (3 + lo) + qat u (3 + ot)) : Nat) : Int))) ∧ σ' = σ) := by
  refine Ctr.of (by decide +kernel) rfl (Nat.le_of_ble_eq_true rfl) ?_
  intro κ hl0 S
  subst hl0
  refine r_iload_n S dX12_behind_0 rfl ?_
  refine r_iload_n S dX12_behind_1 rfl ?_
  refine r_iconst S dX12_behind_2 ?_
  refine r_callS S (c_costOf (b := 1) hk hy (by decide)) k_mX12_costOf c_RX12_65 dX12_behind_3 (by decide) ⟨by omega, by omega⟩ rfl rfl (Nat.le_of_ble_eq_true rfl) (fun r σ' hp => ?_)
  obtain ⟨_, rfl, rfl, rfl⟩ := hp
  try simp only [Option.toList_some, Option.toList_none, List.cons_append, List.nil_append]
  rw [hlo]
  refine r_istore S dX12_behind_6 rfl (by decide) (lv' := [_, _, _, _, _, _, _, _, _]) rfl ?_
  refine r_iload_n S dX12_behind_8 rfl ?_
  refine r_iload_n S dX12_behind_9 rfl ?_
  refine r_iconst S dX12_behind_10 ?_
  refine r_callS S (c_costOf (b := 0) hk hy (by decide)) k_mX12_costOf c_RX12_65 dX12_behind_11 (by decide) ⟨by omega, by omega⟩ rfl rfl (Nat.le_of_ble_eq_true rfl) (fun r σ' hp => ?_)
  obtain ⟨_, rfl, rfl, rfl⟩ := hp
  try simp only [Option.toList_some, Option.toList_none, List.cons_append, List.nil_append]
  rw [hot]
  refine r_istore S dX12_behind_14 rfl (by decide) (lv' := [_, _, _, _, _, _, _, _, _]) rfl ?_
  refine r_iconst S dX12_behind_16 ?_
  refine r_istore S dX12_behind_17 rfl (by decide) (lv' := [_, _, _, _, _, _, _, _, _]) rfl ?_
  refine r_iconst S dX12_behind_19 ?_
  refine r_istore S dX12_behind_20 rfl (by decide) (lv' := [_, _, _, _, _, _, _, _, _]) rfl ?_
  have h9 := s_bh0 hk hy hlo hot hH hB hhp hbd hx hu S
  rw [show (0 + (qat x (0 + lo) + qat u (0 + ot)) * 1 + (qat x (1 + lo) + qat u (1 + ot)) * 17 + (qat x (2 + lo) + qat u (2 + ot)) * 289 + (qat x (3 + lo) + qat u (3 + ot)) * 4913) = posQ (qat x (0 + lo) + qat u (0 + ot), qat x (1 + lo) + qat u (1 + ot), qat x (2 + lo) + qat u (2 + ot), qat x (3 + lo) + qat u (3 + ot)) by simp only [posQ]; omega] at h9
  exact h9
