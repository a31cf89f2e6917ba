set_option maxRecDepth 100000 in
set_option maxHeartbeats 4000000 in
theorem c_heapTableN0 {k : Cx} {L0 : Launch} {σ : St} {tb z : Int} {lq : Nat → Option Nat} (hX : σ.2 (cBase k) = some (oX k tb)) (hLI : σ.2 (cBase k + 1) = some (eQ (cQL k) 3 lq)) (hl0 : lq 0 = some (cBase k + 2)) (hl1 : lq 1 = some (cBase k + 3)) (hl2 : lq 2 = some (cBase k + 4)) (hA0 : σ.2 (cBase k + 2) = some (.inr (6, []))) (hA1 : σ.2 (cBase k + 3) = some (.inr (1, []))) (hA2 : σ.2 (cBase k + 4) = some (.inr (9, []))) (hU : σ.2 (cBase k + 6) = some (oTally z)) (hbs : cBase k + 25 ≤ σ.1) {hq : Nat → Option Nat} (hH : σ.2 (cBase k + 7) = some (eQ (cQH k) 3 hq)) (hno : hq 0 = none) : CtrV k L0 mX11_heapTable 5 10 4967 [.ref (cBase k), .int (iZ 0)] σ (fun v σ' => v = .ref (σ.1 + 8) ∧ σ'.1 = σ.1 + 10 ∧ (∃ z' : Int, σ'.2 (cBase k + 6) = some (oTally z')) ∧ σ'.2 (cBase k + 7) = some (eQ (cQH k) 3 (uQ hq 0 (σ.1 + 8))) ∧ Tb k σ' σ.1 (cyK 0) (cnK 0) (fun _ => 0) ∧ Tl k σ' σ.1 (cyK 0) (cnK 0) ∧ σ'.2 (σ.1 + 8) = some (oHT σ.1) ∧ σ'.2 (σ.1 + 9) = some (eI k 4 (fun _ => 0)) ∧ ∀ b, b < σ.1 → b ≠ (cBase k + 6) → b ≠ (cBase k + 7) → σ'.2 b = σ.2 b) := by
  refine Ctr.of (by decide +kernel) rfl (Nat.le_of_ble_eq_true rfl) ?_
  intro κ hl0 S
  subst hl0
  obtain ⟨t, z0⟩ : ∃ t, σ.1 = t := ⟨_, rfl⟩
  rw [z0] at hbs
  have f0_X := hX
  have f0_LI := hLI
  have f0_L0 := hA0
  have f0_L1 := hA1
  have f0_L2 := hA2
  have f0_UN := hU
  have f0_HT := hH
  have g0 : ∀ b, b < t → b ≠ (cBase k + 6) → b ≠ (cBase k + 7) → σ.2 b = σ.2 b := fun _ _ _ _ => rfl
  refine r_aload_n S dX11_heapTable_0 rfl ?_
  refine r_getf S g_RX11_34_10 dX11_heapTable_1 (by repeat (first | assumption | exact sUp_same | exact sNew_same | refine sUp_ne (by first | assumption | omega) ?_)) rfl ?_
  refine r_iload_n S dX11_heapTable_4 rfl ?_
  refine r_aaldN S (0) (t0 := 3) (v := .null) rfl dX11_heapTable_5 (by repeat (first | assumption | exact sUp_same | exact sNew_same | refine sUp_ne (by first | assumption | omega) ?_)) (by rfl) (by omega) (by decide) (by rw [hno]; rfl) ?_
  refine r_astore_nN S dX11_heapTable_6 rfl (by decide) (lv' := [_, _, _, _, _, _]) rfl ?_
  refine r_aload_nN S dX11_heapTable_7 rfl ?_
  refine r_ifnonnullN S dX11_heapTable_8 ?_
  refine r_sipush S dX11_heapTable_11 (by decide) ?_
  refine r_newIN S (4845) (by omega) wd_134 dX11_heapTable_14 (by omega) (by omega) (by omega) ?_
  refine V.name (fun s1 e1 => ?_)
  have z1 : s1.1 = (t + 1) := by rw [e1]; show σ.1 + 1 = _; rw [z0]
  have f1_X : s1.2 (cBase k) = some (oX k tb) := by rw [e1]; exact sNew_ne (by omega) f0_X
  have f1_LI : s1.2 (cBase k + 1) = some (eQ (cQL k) 3 lq) := by rw [e1]; exact sNew_ne (by omega) f0_LI
  have f1_L0 : s1.2 (cBase k + 2) = some (.inr (6, [])) := by rw [e1]; exact sNew_ne (by omega) f0_L0
  have f1_L1 : s1.2 (cBase k + 3) = some (.inr (1, [])) := by rw [e1]; exact sNew_ne (by omega) f0_L1
  have f1_L2 : s1.2 (cBase k + 4) = some (.inr (9, [])) := by rw [e1]; exact sNew_ne (by omega) f0_L2
  have f1_UN : s1.2 (cBase k + 6) = some (oTally z) := by rw [e1]; exact sNew_ne (by omega) f0_UN
  have f1_HT : s1.2 (cBase k + 7) = some (eQ (cQH k) 3 hq) := by rw [e1]; exact sNew_ne (by omega) f0_HT
  have f1_fw : s1.2 t = some (eI k 4845 (fun _ => 0)) := by rw [e1]; exact sNew_at z0
  have g1 : ∀ b, b < t → b ≠ (cBase k + 6) → b ≠ (cBase k + 7) → s1.2 b = σ.2 b := fun b h0 h1 h2 => by rw [e1]; exact sNew_ne (by omega) (g0 b h0 h1 h2)
  rw [z0]
  clear e1 g0 f0_X f0_LI f0_L0 f0_L1 f0_L2 f0_UN f0_HT
  refine r_astore_n S dX11_heapTable_16 rfl (by decide) (lv' := [_, _, _, _, _, _]) rfl ?_
  refine r_newO S 6 rfl n_RX11_218 dX11_heapTable_17 (by omega) (by omega) ?_
  refine V.name (fun s2 e2 => ?_)
  have z2 : s2.1 = (t + 2) := by rw [e2]; show s1.1 + 1 = _; rw [z1]
  have f2_X : s2.2 (cBase k) = some (oX k tb) := by rw [e2]; exact sNew_ne (by omega) f1_X
  have f2_LI : s2.2 (cBase k + 1) = some (eQ (cQL k) 3 lq) := by rw [e2]; exact sNew_ne (by omega) f1_LI
  have f2_L0 : s2.2 (cBase k + 2) = some (.inr (6, [])) := by rw [e2]; exact sNew_ne (by omega) f1_L0
  have f2_L1 : s2.2 (cBase k + 3) = some (.inr (1, [])) := by rw [e2]; exact sNew_ne (by omega) f1_L1
  have f2_L2 : s2.2 (cBase k + 4) = some (.inr (9, [])) := by rw [e2]; exact sNew_ne (by omega) f1_L2
  have f2_UN : s2.2 (cBase k + 6) = some (oTally z) := by rw [e2]; exact sNew_ne (by omega) f1_UN
  have f2_HT : s2.2 (cBase k + 7) = some (eQ (cQH k) 3 hq) := by rw [e2]; exact sNew_ne (by omega) f1_HT
  have f2_fw : s2.2 t = some (eI k 4845 (fun _ => 0)) := by rw [e2]; exact sNew_ne (by omega) f1_fw
  have f2_A : s2.2 (t + 1) = some (.inr (0, [.null, .int 0, .int 0, .null, .null, .int 0])) := by rw [e2]; exact sNew_at z1
  have g2 : ∀ b, b < t → b ≠ (cBase k + 6) → b ≠ (cBase k + 7) → s2.2 b = σ.2 b := fun b h0 h1 h2 => by rw [e2]; exact sNew_ne (by omega) (g1 b h0 h1 h2)
  rw [z1]
  clear e2 g1 f1_X f1_LI f1_L0 f1_L1 f1_L2 f1_UN f1_HT f1_fw z1
  refine r_dup S dX11_heapTable_20 rfl ?_
  refine r_aload_n S dX11_heapTable_21 rfl ?_
  refine r_aload_n S dX11_heapTable_22 rfl ?_
  refine r_iload_n S dX11_heapTable_23 rfl ?_
  refine r_callV S (c_yesPrice0 f2_X f2_LI hl0 hl1 hl2 f2_L0 f2_L1 f2_L2 f2_UN) k_mX11_yesPrice c_RX11_72_10 dX11_heapTable_24 (by decide) ⟨by omega, by omega⟩ (by repeat (first | assumption | exact sUp_same | exact sNew_same | refine sUp_ne (by first | assumption | omega) ?_)) rfl rfl (Nat.le_of_ble_eq_true rfl) (fun r σ' hp => ?_)
  obtain ⟨_, rfl, rfl, rfl⟩ := hp
  try simp only [Option.toList_some, Option.toList_none, List.cons_append, List.nil_append]
  refine V.name (fun s3 e3 => ?_)
  have z3 : s3.1 = (t + 2) := by rw [e3]; exact z2
  have f3_X : s3.2 (cBase k) = some (oX k tb) := by rw [e3]; exact sUp_ne (by omega) f2_X
  have f3_LI : s3.2 (cBase k + 1) = some (eQ (cQL k) 3 lq) := by rw [e3]; exact sUp_ne (by omega) f2_LI
  have f3_L0 : s3.2 (cBase k + 2) = some (.inr (6, [])) := by rw [e3]; exact sUp_ne (by omega) f2_L0
  have f3_L1 : s3.2 (cBase k + 3) = some (.inr (1, [])) := by rw [e3]; exact sUp_ne (by omega) f2_L1
  have f3_L2 : s3.2 (cBase k + 4) = some (.inr (9, [])) := by rw [e3]; exact sUp_ne (by omega) f2_L2
  have f3_UN : s3.2 (cBase k + 6) = some (oTally (z + 1)) := by rw [e3]; exact sUp_same
  have f3_HT : s3.2 (cBase k + 7) = some (eQ (cQH k) 3 hq) := by rw [e3]; exact sUp_ne (by omega) f2_HT
  have f3_fw : s3.2 t = some (eI k 4845 (fun _ => 0)) := by rw [e3]; exact sUp_ne (by omega) f2_fw
  have f3_A : s3.2 (t + 1) = some (.inr (0, [.null, .int 0, .int 0, .null, .null, .int 0])) := by rw [e3]; exact sUp_ne (by omega) f2_A
  have g3 : ∀ b, b < t → b ≠ (cBase k + 6) → b ≠ (cBase k + 7) → s3.2 b = σ.2 b := fun b h0 h1 h2 => by rw [e3]; exact sUp_ne (by omega) (g2 b h0 h1 h2)
  clear e3 g2 f2_X f2_LI f2_L0 f2_L1 f2_L2 f2_UN f2_HT f2_fw f2_A z2
  refine r_aload_n S dX11_heapTable_27 rfl ?_
  refine r_iload_n S dX11_heapTable_28 rfl ?_
  refine r_callV S (c_noPrice0 f3_X f3_LI hl0 hl1 hl2 f3_L0 f3_L1 f3_L2 f3_UN) k_mX11_noPrice c_RX11_76_10 dX11_heapTable_29 (by decide) ⟨by omega, by omega⟩ (by repeat (first | assumption | exact sUp_same | exact sNew_same | refine sUp_ne (by first | assumption | omega) ?_)) rfl rfl (Nat.le_of_ble_eq_true rfl) (fun r σ' hp => ?_)
  obtain ⟨_, rfl, rfl, rfl⟩ := hp
  try simp only [Option.toList_some, Option.toList_none, List.cons_append, List.nil_append]
  refine V.name (fun s4 e4 => ?_)
  have z4 : s4.1 = (t + 2) := by rw [e4]; exact z3
  have f4_X : s4.2 (cBase k) = some (oX k tb) := by rw [e4]; exact sUp_ne (by omega) f3_X
  have f4_LI : s4.2 (cBase k + 1) = some (eQ (cQL k) 3 lq) := by rw [e4]; exact sUp_ne (by omega) f3_LI
  have f4_L0 : s4.2 (cBase k + 2) = some (.inr (6, [])) := by rw [e4]; exact sUp_ne (by omega) f3_L0
  have f4_L1 : s4.2 (cBase k + 3) = some (.inr (1, [])) := by rw [e4]; exact sUp_ne (by omega) f3_L1
  have f4_L2 : s4.2 (cBase k + 4) = some (.inr (9, [])) := by rw [e4]; exact sUp_ne (by omega) f3_L2
  have f4_UN : s4.2 (cBase k + 6) = some (oTally (z + 1 + 1)) := by rw [e4]; exact sUp_same
  have f4_HT : s4.2 (cBase k + 7) = some (eQ (cQH k) 3 hq) := by rw [e4]; exact sUp_ne (by omega) f3_HT
  have f4_fw : s4.2 t = some (eI k 4845 (fun _ => 0)) := by rw [e4]; exact sUp_ne (by omega) f3_fw
  have f4_A : s4.2 (t + 1) = some (.inr (0, [.null, .int 0, .int 0, .null, .null, .int 0])) := by rw [e4]; exact sUp_ne (by omega) f3_A
  have g4 : ∀ b, b < t → b ≠ (cBase k + 6) → b ≠ (cBase k + 7) → s4.2 b = σ.2 b := fun b h0 h1 h2 => by rw [e4]; exact sUp_ne (by omega) (g3 b h0 h1 h2)
  clear e4 g3 f3_X f3_LI f3_L0 f3_L1 f3_L2 f3_UN f3_HT f3_fw f3_A z3
  refine r_callI S (c_init0 f4_A (by omega) (costK_rng 0 1 0) (costK_rng 0 0 1)) k_mX0_init c_RX11_220 dX11_heapTable_32 (by decide) ⟨by omega, by omega⟩ rfl rfl (Nat.le_of_ble_eq_true rfl) (fun r s5 hp => ?_)
  rw [z4] at hp
  obtain ⟨rfl, zz5, f5_A, f5_hv, f5_tk, gg5⟩ := hp
  have z5 : s5.1 = (t + 4) := by omega
  have f5_X : s5.2 (cBase k) = some (oX k tb) := (gg5 _ (by omega) (by omega)).trans f4_X
  have f5_LI : s5.2 (cBase k + 1) = some (eQ (cQL k) 3 lq) := (gg5 _ (by omega) (by omega)).trans f4_LI
  have f5_L0 : s5.2 (cBase k + 2) = some (.inr (6, [])) := (gg5 _ (by omega) (by omega)).trans f4_L0
  have f5_L1 : s5.2 (cBase k + 3) = some (.inr (1, [])) := (gg5 _ (by omega) (by omega)).trans f4_L1
  have f5_L2 : s5.2 (cBase k + 4) = some (.inr (9, [])) := (gg5 _ (by omega) (by omega)).trans f4_L2
  have f5_UN : s5.2 (cBase k + 6) = some (oTally (z + 1 + 1)) := (gg5 _ (by omega) (by omega)).trans f4_UN
  have f5_HT : s5.2 (cBase k + 7) = some (eQ (cQH k) 3 hq) := (gg5 _ (by omega) (by omega)).trans f4_HT
  have f5_fw : s5.2 t = some (eI k 4845 (fun _ => 0)) := (gg5 _ (by omega) (by omega)).trans f4_fw
  have g5 : ∀ b, b < t → b ≠ (cBase k + 6) → b ≠ (cBase k + 7) → s5.2 b = σ.2 b := fun b h0 h1 h2 => (gg5 b (by omega) (by omega)).trans (g4 b h0 h1 h2)
  clear gg5 zz5 g4 f4_X f4_LI f4_L0 f4_L1 f4_L2 f4_UN f4_HT f4_fw f4_A z4
  try simp only [Option.toList_some, Option.toList_none, List.cons_append, List.nil_append]
  refine r_astore S dX11_heapTable_35 rfl (by decide) (lv' := [_, _, _, _, _, _]) rfl ?_
  refine r_newO S 8 rfl n_RX11_223 dX11_heapTable_37 (by omega) (by omega) ?_
  refine V.name (fun s6 e6 => ?_)
  have z6 : s6.1 = (t + 5) := by rw [e6]; show s5.1 + 1 = _; rw [z5]
  have f6_X : s6.2 (cBase k) = some (oX k tb) := by rw [e6]; exact sNew_ne (by omega) f5_X
  have f6_LI : s6.2 (cBase k + 1) = some (eQ (cQL k) 3 lq) := by rw [e6]; exact sNew_ne (by omega) f5_LI
  have f6_L0 : s6.2 (cBase k + 2) = some (.inr (6, [])) := by rw [e6]; exact sNew_ne (by omega) f5_L0
  have f6_L1 : s6.2 (cBase k + 3) = some (.inr (1, [])) := by rw [e6]; exact sNew_ne (by omega) f5_L1
  have f6_L2 : s6.2 (cBase k + 4) = some (.inr (9, [])) := by rw [e6]; exact sNew_ne (by omega) f5_L2
  have f6_UN : s6.2 (cBase k + 6) = some (oTally (z + 1 + 1)) := by rw [e6]; exact sNew_ne (by omega) f5_UN
  have f6_HT : s6.2 (cBase k + 7) = some (eQ (cQH k) 3 hq) := by rw [e6]; exact sNew_ne (by omega) f5_HT
  have f6_fw : s6.2 t = some (eI k 4845 (fun _ => 0)) := by rw [e6]; exact sNew_ne (by omega) f5_fw
  have f6_A : s6.2 (t + 1) = some (.inr (0, [.ref t, .int (iZ (max 1 (min (costK 0 1 0) 4))), .int (iZ (max 1 (min (costK 0 0 1) 4))), .ref (t + 2), .ref (t + 3), .int (iZ 0)])) := by rw [e6]; exact sNew_ne (by omega) f5_A
  have f6_hv : s6.2 (t + 2) = some (eI k 8 (fun _ => 0)) := by rw [e6]; exact sNew_ne (by omega) f5_hv
  have f6_tk : s6.2 (t + 3) = some (eI k 8 (fun _ => 0)) := by rw [e6]; exact sNew_ne (by omega) f5_tk
  have f6_L : s6.2 (t + 4) = some (.inr (5, [.null, .int 0, .int 0, .null, .null, .int 0, .null, .int 0])) := by rw [e6]; exact sNew_at z5
  have g6 : ∀ b, b < t → b ≠ (cBase k + 6) → b ≠ (cBase k + 7) → s6.2 b = σ.2 b := fun b h0 h1 h2 => by rw [e6]; exact sNew_ne (by omega) (g5 b h0 h1 h2)
  rw [z5]
  clear e6 g5 f5_X f5_LI f5_L0 f5_L1 f5_L2 f5_UN f5_HT f5_fw f5_A f5_hv f5_tk z5
  refine r_dup S dX11_heapTable_40 rfl ?_
  refine r_aload_n S dX11_heapTable_41 rfl ?_
  refine r_aload_n S dX11_heapTable_42 rfl ?_
  refine r_iload_n S dX11_heapTable_43 rfl ?_
  refine r_callV S (c_yesPrice0 f6_X f6_LI hl0 hl1 hl2 f6_L0 f6_L1 f6_L2 f6_UN) k_mX11_yesPrice c_RX11_72_10 dX11_heapTable_44 (by decide) ⟨by omega, by omega⟩ (by repeat (first | assumption | exact sUp_same | exact sNew_same | refine sUp_ne (by first | assumption | omega) ?_)) rfl rfl (Nat.le_of_ble_eq_true rfl) (fun r σ' hp => ?_)
  obtain ⟨_, rfl, rfl, rfl⟩ := hp
  try simp only [Option.toList_some, Option.toList_none, List.cons_append, List.nil_append]
  refine V.name (fun s7 e7 => ?_)
  have z7 : s7.1 = (t + 5) := by rw [e7]; exact z6
  have f7_X : s7.2 (cBase k) = some (oX k tb) := by rw [e7]; exact sUp_ne (by omega) f6_X
  have f7_LI : s7.2 (cBase k + 1) = some (eQ (cQL k) 3 lq) := by rw [e7]; exact sUp_ne (by omega) f6_LI
  have f7_L0 : s7.2 (cBase k + 2) = some (.inr (6, [])) := by rw [e7]; exact sUp_ne (by omega) f6_L0
  have f7_L1 : s7.2 (cBase k + 3) = some (.inr (1, [])) := by rw [e7]; exact sUp_ne (by omega) f6_L1
  have f7_L2 : s7.2 (cBase k + 4) = some (.inr (9, [])) := by rw [e7]; exact sUp_ne (by omega) f6_L2
  have f7_UN : s7.2 (cBase k + 6) = some (oTally (z + 1 + 1 + 1)) := by rw [e7]; exact sUp_same
  have f7_HT : s7.2 (cBase k + 7) = some (eQ (cQH k) 3 hq) := by rw [e7]; exact sUp_ne (by omega) f6_HT
  have f7_fw : s7.2 t = some (eI k 4845 (fun _ => 0)) := by rw [e7]; exact sUp_ne (by omega) f6_fw
  have f7_A : s7.2 (t + 1) = some (.inr (0, [.ref t, .int (iZ (max 1 (min (costK 0 1 0) 4))), .int (iZ (max 1 (min (costK 0 0 1) 4))), .ref (t + 2), .ref (t + 3), .int (iZ 0)])) := by rw [e7]; exact sUp_ne (by omega) f6_A
  have f7_hv : s7.2 (t + 2) = some (eI k 8 (fun _ => 0)) := by rw [e7]; exact sUp_ne (by omega) f6_hv
  have f7_tk : s7.2 (t + 3) = some (eI k 8 (fun _ => 0)) := by rw [e7]; exact sUp_ne (by omega) f6_tk
  have f7_L : s7.2 (t + 4) = some (.inr (5, [.null, .int 0, .int 0, .null, .null, .int 0, .null, .int 0])) := by rw [e7]; exact sUp_ne (by omega) f6_L
  have g7 : ∀ b, b < t → b ≠ (cBase k + 6) → b ≠ (cBase k + 7) → s7.2 b = σ.2 b := fun b h0 h1 h2 => by rw [e7]; exact sUp_ne (by omega) (g6 b h0 h1 h2)
  clear e7 g6 f6_X f6_LI f6_L0 f6_L1 f6_L2 f6_UN f6_HT f6_fw f6_A f6_hv f6_tk f6_L z6
  refine r_aload_n S dX11_heapTable_47 rfl ?_
  refine r_iload_n S dX11_heapTable_48 rfl ?_
  refine r_callV S (c_noPrice0 f7_X f7_LI hl0 hl1 hl2 f7_L0 f7_L1 f7_L2 f7_UN) k_mX11_noPrice c_RX11_76_10 dX11_heapTable_49 (by decide) ⟨by omega, by omega⟩ (by repeat (first | assumption | exact sUp_same | exact sNew_same | refine sUp_ne (by first | assumption | omega) ?_)) rfl rfl (Nat.le_of_ble_eq_true rfl) (fun r σ' hp => ?_)
  obtain ⟨_, rfl, rfl, rfl⟩ := hp
  try simp only [Option.toList_some, Option.toList_none, List.cons_append, List.nil_append]
  refine V.name (fun s8 e8 => ?_)
  have z8 : s8.1 = (t + 5) := by rw [e8]; exact z7
  have f8_X : s8.2 (cBase k) = some (oX k tb) := by rw [e8]; exact sUp_ne (by omega) f7_X
  have f8_LI : s8.2 (cBase k + 1) = some (eQ (cQL k) 3 lq) := by rw [e8]; exact sUp_ne (by omega) f7_LI
  have f8_L0 : s8.2 (cBase k + 2) = some (.inr (6, [])) := by rw [e8]; exact sUp_ne (by omega) f7_L0
  have f8_L1 : s8.2 (cBase k + 3) = some (.inr (1, [])) := by rw [e8]; exact sUp_ne (by omega) f7_L1
  have f8_L2 : s8.2 (cBase k + 4) = some (.inr (9, [])) := by rw [e8]; exact sUp_ne (by omega) f7_L2
  have f8_UN : s8.2 (cBase k + 6) = some (oTally (z + 1 + 1 + 1 + 1)) := by rw [e8]; exact sUp_same
  have f8_HT : s8.2 (cBase k + 7) = some (eQ (cQH k) 3 hq) := by rw [e8]; exact sUp_ne (by omega) f7_HT
  have f8_fw : s8.2 t = some (eI k 4845 (fun _ => 0)) := by rw [e8]; exact sUp_ne (by omega) f7_fw
  have f8_A : s8.2 (t + 1) = some (.inr (0, [.ref t, .int (iZ (max 1 (min (costK 0 1 0) 4))), .int (iZ (max 1 (min (costK 0 0 1) 4))), .ref (t + 2), .ref (t + 3), .int (iZ 0)])) := by rw [e8]; exact sUp_ne (by omega) f7_A
  have f8_hv : s8.2 (t + 2) = some (eI k 8 (fun _ => 0)) := by rw [e8]; exact sUp_ne (by omega) f7_hv
  have f8_tk : s8.2 (t + 3) = some (eI k 8 (fun _ => 0)) := by rw [e8]; exact sUp_ne (by omega) f7_tk
  have f8_L : s8.2 (t + 4) = some (.inr (5, [.null, .int 0, .int 0, .null, .null, .int 0, .null, .int 0])) := by rw [e8]; exact sUp_ne (by omega) f7_L
  have g8 : ∀ b, b < t → b ≠ (cBase k + 6) → b ≠ (cBase k + 7) → s8.2 b = σ.2 b := fun b h0 h1 h2 => by rw [e8]; exact sUp_ne (by omega) (g7 b h0 h1 h2)
  clear e8 g7 f7_X f7_LI f7_L0 f7_L1 f7_L2 f7_UN f7_HT f7_fw f7_A f7_hv f7_tk f7_L z7
  refine r_callI S (c_init6 f8_L (by omega) (costK_rng 0 1 0) (costK_rng 0 0 1)) k_mX6_init c_RX11_225 dX11_heapTable_52 (by decide) ⟨by omega, by omega⟩ rfl rfl (Nat.le_of_ble_eq_true rfl) (fun r s9 hp => ?_)
  rw [z8] at hp
  obtain ⟨rfl, zz9, f9_L, f9_hv2, f9_tk2, f9_lw, gg9⟩ := hp
  have z9 : s9.1 = (t + 8) := by omega
  have f9_X : s9.2 (cBase k) = some (oX k tb) := (gg9 _ (by omega) (by omega)).trans f8_X
  have f9_LI : s9.2 (cBase k + 1) = some (eQ (cQL k) 3 lq) := (gg9 _ (by omega) (by omega)).trans f8_LI
  have f9_L0 : s9.2 (cBase k + 2) = some (.inr (6, [])) := (gg9 _ (by omega) (by omega)).trans f8_L0
  have f9_L1 : s9.2 (cBase k + 3) = some (.inr (1, [])) := (gg9 _ (by omega) (by omega)).trans f8_L1
  have f9_L2 : s9.2 (cBase k + 4) = some (.inr (9, [])) := (gg9 _ (by omega) (by omega)).trans f8_L2
  have f9_UN : s9.2 (cBase k + 6) = some (oTally (z + 1 + 1 + 1 + 1)) := (gg9 _ (by omega) (by omega)).trans f8_UN
  have f9_HT : s9.2 (cBase k + 7) = some (eQ (cQH k) 3 hq) := (gg9 _ (by omega) (by omega)).trans f8_HT
  have f9_fw : s9.2 t = some (eI k 4845 (fun _ => 0)) := (gg9 _ (by omega) (by omega)).trans f8_fw
  have f9_A : s9.2 (t + 1) = some (.inr (0, [.ref t, .int (iZ (max 1 (min (costK 0 1 0) 4))), .int (iZ (max 1 (min (costK 0 0 1) 4))), .ref (t + 2), .ref (t + 3), .int (iZ 0)])) := (gg9 _ (by omega) (by omega)).trans f8_A
  have f9_hv : s9.2 (t + 2) = some (eI k 8 (fun _ => 0)) := (gg9 _ (by omega) (by omega)).trans f8_hv
  have f9_tk : s9.2 (t + 3) = some (eI k 8 (fun _ => 0)) := (gg9 _ (by omega) (by omega)).trans f8_tk
  have g9 : ∀ b, b < t → b ≠ (cBase k + 6) → b ≠ (cBase k + 7) → s9.2 b = σ.2 b := fun b h0 h1 h2 => (gg9 b (by omega) (by omega)).trans (g8 b h0 h1 h2)
  clear gg9 zz9 g8 f8_X f8_LI f8_L0 f8_L1 f8_L2 f8_UN f8_HT f8_fw f8_A f8_hv f8_tk f8_L z8
  try simp only [Option.toList_some, Option.toList_none, List.cons_append, List.nil_append]
  refine r_astore S dX11_heapTable_55 rfl (by decide) (lv' := [_, _, _, _, _, _]) rfl ?_
  refine r_newO S 4 rfl n_RX11_32 dX11_heapTable_57 (by omega) (by omega) ?_
  refine V.name (fun s10 e10 => ?_)
  have z10 : s10.1 = (t + 9) := by rw [e10]; show s9.1 + 1 = _; rw [z9]
  have f10_X : s10.2 (cBase k) = some (oX k tb) := by rw [e10]; exact sNew_ne (by omega) f9_X
  have f10_LI : s10.2 (cBase k + 1) = some (eQ (cQL k) 3 lq) := by rw [e10]; exact sNew_ne (by omega) f9_LI
  have f10_L0 : s10.2 (cBase k + 2) = some (.inr (6, [])) := by rw [e10]; exact sNew_ne (by omega) f9_L0
  have f10_L1 : s10.2 (cBase k + 3) = some (.inr (1, [])) := by rw [e10]; exact sNew_ne (by omega) f9_L1
  have f10_L2 : s10.2 (cBase k + 4) = some (.inr (9, [])) := by rw [e10]; exact sNew_ne (by omega) f9_L2
  have f10_UN : s10.2 (cBase k + 6) = some (oTally (z + 1 + 1 + 1 + 1)) := by rw [e10]; exact sNew_ne (by omega) f9_UN
  have f10_HT : s10.2 (cBase k + 7) = some (eQ (cQH k) 3 hq) := by rw [e10]; exact sNew_ne (by omega) f9_HT
  have f10_fw : s10.2 t = some (eI k 4845 (fun _ => 0)) := by rw [e10]; exact sNew_ne (by omega) f9_fw
  have f10_A : s10.2 (t + 1) = some (.inr (0, [.ref t, .int (iZ (max 1 (min (costK 0 1 0) 4))), .int (iZ (max 1 (min (costK 0 0 1) 4))), .ref (t + 2), .ref (t + 3), .int (iZ 0)])) := by rw [e10]; exact sNew_ne (by omega) f9_A
  have f10_hv : s10.2 (t + 2) = some (eI k 8 (fun _ => 0)) := by rw [e10]; exact sNew_ne (by omega) f9_hv
  have f10_tk : s10.2 (t + 3) = some (eI k 8 (fun _ => 0)) := by rw [e10]; exact sNew_ne (by omega) f9_tk
  have f10_L : s10.2 (t + 4) = some (.inr (5, [.ref t, .int (iZ (max 1 (min (costK 0 1 0) 4))), .int (iZ (max 1 (min (costK 0 0 1) 4))), .ref (t + 5), .ref (t + 6), .int (iZ 0), .ref (t + 7), .int (iZ 0)])) := by rw [e10]; exact sNew_ne (by omega) f9_L
  have f10_hv2 : s10.2 (t + 5) = some (eI k 8 (fun _ => 0)) := by rw [e10]; exact sNew_ne (by omega) f9_hv2
  have f10_tk2 : s10.2 (t + 6) = some (eI k 8 (fun _ => 0)) := by rw [e10]; exact sNew_ne (by omega) f9_tk2
  have f10_lw : s10.2 (t + 7) = some (eI k 68 (fun _ => 0)) := by rw [e10]; exact sNew_ne (by omega) f9_lw
  have f10_T : s10.2 (t + 8) = some (.inr (4, [.null, .null, .null, .null])) := by rw [e10]; exact sNew_at z9
  have g10 : ∀ b, b < t → b ≠ (cBase k + 6) → b ≠ (cBase k + 7) → s10.2 b = σ.2 b := fun b h0 h1 h2 => by rw [e10]; exact sNew_ne (by omega) (g9 b h0 h1 h2)
  rw [z9]
  clear e10 g9 f9_X f9_LI f9_L0 f9_L1 f9_L2 f9_UN f9_HT f9_fw f9_A f9_hv f9_tk f9_L f9_hv2 f9_tk2 f9_lw z9
  refine r_dup S dX11_heapTable_60 rfl ?_
  refine r_aload_n S dX11_heapTable_61 rfl ?_
  refine r_aload S dX11_heapTable_62 rfl ?_
  refine r_aload S dX11_heapTable_64 rfl ?_
  refine r_callI S (c_init4 f10_T (by omega)) k_mX4_init c_RX11_226 dX11_heapTable_66 (by decide) ⟨by omega, by omega⟩ rfl rfl (Nat.le_of_ble_eq_true rfl) (fun r s11 hp => ?_)
  rw [z10] at hp
  obtain ⟨rfl, zz11, f11_T, f11_kn, gg11⟩ := hp
  have z11 : s11.1 = (t + 10) := by omega
  have f11_X : s11.2 (cBase k) = some (oX k tb) := (gg11 _ (by omega) (by omega)).trans f10_X
  have f11_LI : s11.2 (cBase k + 1) = some (eQ (cQL k) 3 lq) := (gg11 _ (by omega) (by omega)).trans f10_LI
  have f11_L0 : s11.2 (cBase k + 2) = some (.inr (6, [])) := (gg11 _ (by omega) (by omega)).trans f10_L0
  have f11_L1 : s11.2 (cBase k + 3) = some (.inr (1, [])) := (gg11 _ (by omega) (by omega)).trans f10_L1
  have f11_L2 : s11.2 (cBase k + 4) = some (.inr (9, [])) := (gg11 _ (by omega) (by omega)).trans f10_L2
  have f11_UN : s11.2 (cBase k + 6) = some (oTally (z + 1 + 1 + 1 + 1)) := (gg11 _ (by omega) (by omega)).trans f10_UN
  have f11_HT : s11.2 (cBase k + 7) = some (eQ (cQH k) 3 hq) := (gg11 _ (by omega) (by omega)).trans f10_HT
  have f11_fw : s11.2 t = some (eI k 4845 (fun _ => 0)) := (gg11 _ (by omega) (by omega)).trans f10_fw
  have f11_A : s11.2 (t + 1) = some (.inr (0, [.ref t, .int (iZ (max 1 (min (costK 0 1 0) 4))), .int (iZ (max 1 (min (costK 0 0 1) 4))), .ref (t + 2), .ref (t + 3), .int (iZ 0)])) := (gg11 _ (by omega) (by omega)).trans f10_A
  have f11_hv : s11.2 (t + 2) = some (eI k 8 (fun _ => 0)) := (gg11 _ (by omega) (by omega)).trans f10_hv
  have f11_tk : s11.2 (t + 3) = some (eI k 8 (fun _ => 0)) := (gg11 _ (by omega) (by omega)).trans f10_tk
  have f11_L : s11.2 (t + 4) = some (.inr (5, [.ref t, .int (iZ (max 1 (min (costK 0 1 0) 4))), .int (iZ (max 1 (min (costK 0 0 1) 4))), .ref (t + 5), .ref (t + 6), .int (iZ 0), .ref (t + 7), .int (iZ 0)])) := (gg11 _ (by omega) (by omega)).trans f10_L
  have f11_hv2 : s11.2 (t + 5) = some (eI k 8 (fun _ => 0)) := (gg11 _ (by omega) (by omega)).trans f10_hv2
  have f11_tk2 : s11.2 (t + 6) = some (eI k 8 (fun _ => 0)) := (gg11 _ (by omega) (by omega)).trans f10_tk2
  have f11_lw : s11.2 (t + 7) = some (eI k 68 (fun _ => 0)) := (gg11 _ (by omega) (by omega)).trans f10_lw
  have g11 : ∀ b, b < t → b ≠ (cBase k + 6) → b ≠ (cBase k + 7) → s11.2 b = σ.2 b := fun b h0 h1 h2 => (gg11 b (by omega) (by omega)).trans (g10 b h0 h1 h2)
  clear gg11 zz11 g10 f10_X f10_LI f10_L0 f10_L1 f10_L2 f10_UN f10_HT f10_fw f10_A f10_hv f10_tk f10_L f10_hv2 f10_tk2 f10_lw f10_T z10
  try simp only [Option.toList_some, Option.toList_none, List.cons_append, List.nil_append]
  refine r_astore_n S dX11_heapTable_69 rfl (by decide) (lv' := [_, _, _, _, _, _]) rfl ?_
  refine r_aload_n S dX11_heapTable_70 rfl ?_
  refine r_getf S g_RX11_34_10 dX11_heapTable_71 (by repeat (first | assumption | exact sUp_same | exact sNew_same | refine sUp_ne (by first | assumption | omega) ?_)) rfl ?_
  refine r_iload_n S dX11_heapTable_74 rfl ?_
  refine r_aload_n S dX11_heapTable_75 rfl ?_
  refine r_aast S (t0 := 3) (ci := 4) (cj := 4) rfl rfl rfl (Or.inl rfl) dX11_heapTable_76 (by repeat (first | assumption | exact sUp_same | exact sNew_same | refine sUp_ne (by first | assumption | omega) ?_)) ⟨by omega, by omega⟩ (by decide) (by repeat (first | assumption | exact sUp_same | exact sNew_same | refine sUp_ne (by first | assumption | omega) ?_)) ?_
  refine V.name (fun s12 e12 => ?_)
  have z12 : s12.1 = (t + 10) := by rw [e12]; exact z11
  have f12_X : s12.2 (cBase k) = some (oX k tb) := by rw [e12]; exact sUp_ne (by omega) f11_X
  have f12_LI : s12.2 (cBase k + 1) = some (eQ (cQL k) 3 lq) := by rw [e12]; exact sUp_ne (by omega) f11_LI
  have f12_L0 : s12.2 (cBase k + 2) = some (.inr (6, [])) := by rw [e12]; exact sUp_ne (by omega) f11_L0
  have f12_L1 : s12.2 (cBase k + 3) = some (.inr (1, [])) := by rw [e12]; exact sUp_ne (by omega) f11_L1
  have f12_L2 : s12.2 (cBase k + 4) = some (.inr (9, [])) := by rw [e12]; exact sUp_ne (by omega) f11_L2
  have f12_UN : s12.2 (cBase k + 6) = some (oTally (z + 1 + 1 + 1 + 1)) := by rw [e12]; exact sUp_ne (by omega) f11_UN
  have f12_HT : s12.2 (cBase k + 7) = some (eQ (cQH k) 3 (uQ hq 0 (t + 8))) := by rw [e12]; exact sUp_same
  have f12_fw : s12.2 t = some (eI k 4845 (fun _ => 0)) := by rw [e12]; exact sUp_ne (by omega) f11_fw
  have f12_A : s12.2 (t + 1) = some (.inr (0, [.ref t, .int (iZ (max 1 (min (costK 0 1 0) 4))), .int (iZ (max 1 (min (costK 0 0 1) 4))), .ref (t + 2), .ref (t + 3), .int (iZ 0)])) := by rw [e12]; exact sUp_ne (by omega) f11_A
  have f12_hv : s12.2 (t + 2) = some (eI k 8 (fun _ => 0)) := by rw [e12]; exact sUp_ne (by omega) f11_hv
  have f12_tk : s12.2 (t + 3) = some (eI k 8 (fun _ => 0)) := by rw [e12]; exact sUp_ne (by omega) f11_tk
  have f12_L : s12.2 (t + 4) = some (.inr (5, [.ref t, .int (iZ (max 1 (min (costK 0 1 0) 4))), .int (iZ (max 1 (min (costK 0 0 1) 4))), .ref (t + 5), .ref (t + 6), .int (iZ 0), .ref (t + 7), .int (iZ 0)])) := by rw [e12]; exact sUp_ne (by omega) f11_L
  have f12_hv2 : s12.2 (t + 5) = some (eI k 8 (fun _ => 0)) := by rw [e12]; exact sUp_ne (by omega) f11_hv2
  have f12_tk2 : s12.2 (t + 6) = some (eI k 8 (fun _ => 0)) := by rw [e12]; exact sUp_ne (by omega) f11_tk2
  have f12_lw : s12.2 (t + 7) = some (eI k 68 (fun _ => 0)) := by rw [e12]; exact sUp_ne (by omega) f11_lw
  have f12_T : s12.2 (t + 8) = some (.inr (4, [.ref t, .ref (t + 9), .ref (t + 1), .ref (t + 4)])) := by rw [e12]; exact sUp_ne (by omega) f11_T
  have f12_kn : s12.2 (t + 9) = some (eI k 4 (fun _ => 0)) := by rw [e12]; exact sUp_ne (by omega) f11_kn
  have g12 : ∀ b, b < t → b ≠ (cBase k + 6) → b ≠ (cBase k + 7) → s12.2 b = σ.2 b := fun b h0 h1 h2 => by rw [e12]; exact sUp_ne (by omega) (g11 b h0 h1 h2)
  clear e12 g11 f11_X f11_LI f11_L0 f11_L1 f11_L2 f11_UN f11_HT f11_fw f11_A f11_hv f11_tk f11_L f11_hv2 f11_tk2 f11_lw f11_T f11_kn z11
  refine r_aload_n S dX11_heapTable_77 rfl ?_
  exact r_aret S dX11_heapTable_78 (by omega) (by omega) (by
    have hcy : (max 1 (min (costK 0 1 0) 4)) = ((cyK 0 : Nat) : Int) := by decide
    have hcn : (max 1 (min (costK 0 0 1) 4)) = ((cnK 0 : Nat) : Int) := by decide
    rw [hcy, hcn] at f12_A f12_L
    try rw [z0]
    exact ⟨_, rfl, rfl, z12, ⟨_, f12_UN⟩, f12_HT, ⟨f12_fw, fun _ => ⟨(by decide : (0 : Int) ≤ 0), (by decide : (0 : Int) ≤ 13)⟩, ⟨_, f12_A⟩, ⟨_, fun _ _ _ => rfl, f12_hv⟩, _, fun _ _ _ => rfl, f12_tk⟩, ⟨⟨0, 0, f12_L⟩, ⟨_, fun _ _ _ => rfl, f12_hv2⟩, ⟨_, fun _ _ _ => rfl, f12_tk2⟩, fun _ => 0, fun _ => (by decide : (0 : Nat) < 65536), f12_lw⟩, f12_T, f12_kn, g12⟩)

set_option maxRecDepth 100000 in
set_option maxHeartbeats 4000000 in
theorem c_spanTableN0 {k : Cx} {L0 : Launch} {σ : St} {tb z : Int} {lq : Nat → Option Nat} (hX : σ.2 (cBase k) = some (oX k tb)) (hLI : σ.2 (cBase k + 1) = some (eQ (cQL k) 3 lq)) (hl0 : lq 0 = some (cBase k + 2)) (hl1 : lq 1 = some (cBase k + 3)) (hl2 : lq 2 = some (cBase k + 4)) (hA0 : σ.2 (cBase k + 2) = some (.inr (6, []))) (hA1 : σ.2 (cBase k + 3) = some (.inr (1, []))) (hA2 : σ.2 (cBase k + 4) = some (.inr (9, []))) (hU : σ.2 (cBase k + 6) = some (oTally z)) (hbs : cBase k + 25 ≤ σ.1) {sq : Nat → Option Nat} (hH : σ.2 (cBase k + 8) = some (eQ (cQS k) 3 sq)) (hno : sq 0 = none) : CtrV k L0 mX11_spanTable 5 2 4100 [.ref (cBase k), .int (iZ 0)] σ (fun v σ' => v = .ref σ.1 ∧ σ'.1 = σ.1 + 2 ∧ (∃ z' : Int, σ'.2 (cBase k + 6) = some (oTally z')) ∧ σ'.2 (cBase k + 8) = some (eQ (cQS k) 3 (uQ sq 0 σ.1)) ∧ σ'.2 σ.1 = some (oSp σ.1 (py 0 : Int) (pn 0 : Int) ((0 : Nat) : Int)) ∧ σ'.2 (σ.1 + 1) = some (eI k 4096 (fun j => ((FsN 0 0 j : Nat) : Int))) ∧ ∀ b, b < σ.1 → b ≠ (cBase k + 6) → b ≠ (cBase k + 8) → σ'.2 b = σ.2 b) := by
  refine Ctr.of (by decide +kernel) rfl (Nat.le_of_ble_eq_true rfl) ?_
  intro κ hl0 S
  subst hl0
  obtain ⟨t, z0⟩ : ∃ t, σ.1 = t := ⟨_, rfl⟩
  rw [z0] at hbs
  have f0_X := hX
  have f0_LI := hLI
  have f0_L0 := hA0
  have f0_L1 := hA1
  have f0_L2 := hA2
  have f0_UN := hU
  have f0_SP := hH
  have g0 : ∀ b, b < t → b ≠ (cBase k + 6) → b ≠ (cBase k + 8) → σ.2 b = σ.2 b := fun _ _ _ _ => rfl
  refine r_aload_n S dX11_spanTable_0 rfl ?_
  refine r_getf S g_RX11_40_10 dX11_spanTable_1 (by repeat (first | assumption | exact sUp_same | exact sNew_same | refine sUp_ne (by first | assumption | omega) ?_)) rfl ?_
  refine r_iload_n S dX11_spanTable_4 rfl ?_
  refine r_aaldN S (0) (t0 := 4) (v := .null) rfl dX11_spanTable_5 (by repeat (first | assumption | exact sUp_same | exact sNew_same | refine sUp_ne (by first | assumption | omega) ?_)) (by rfl) (by omega) (by decide) (by rw [hno]; rfl) ?_
  refine r_astore_nN S dX11_spanTable_6 rfl (by decide) (lv' := [_, _, _]) rfl ?_
  refine r_aload_nN S dX11_spanTable_7 rfl ?_
  refine r_ifnonnullN S dX11_spanTable_8 ?_
  refine r_newO S 4 rfl n_RX11_38 dX11_spanTable_11 (by omega) (by omega) ?_
  refine V.name (fun s1 e1 => ?_)
  have z1 : s1.1 = (t + 1) := by rw [e1]; show σ.1 + 1 = _; rw [z0]
  have f1_X : s1.2 (cBase k) = some (oX k tb) := by rw [e1]; exact sNew_ne (by omega) f0_X
  have f1_LI : s1.2 (cBase k + 1) = some (eQ (cQL k) 3 lq) := by rw [e1]; exact sNew_ne (by omega) f0_LI
  have f1_L0 : s1.2 (cBase k + 2) = some (.inr (6, [])) := by rw [e1]; exact sNew_ne (by omega) f0_L0
  have f1_L1 : s1.2 (cBase k + 3) = some (.inr (1, [])) := by rw [e1]; exact sNew_ne (by omega) f0_L1
  have f1_L2 : s1.2 (cBase k + 4) = some (.inr (9, [])) := by rw [e1]; exact sNew_ne (by omega) f0_L2
  have f1_UN : s1.2 (cBase k + 6) = some (oTally z) := by rw [e1]; exact sNew_ne (by omega) f0_UN
  have f1_SP : s1.2 (cBase k + 8) = some (eQ (cQS k) 3 sq) := by rw [e1]; exact sNew_ne (by omega) f0_SP
  have f1_A : s1.2 t = some (.inr (7, [.int 0, .int 0, .null, .int 0])) := by rw [e1]; exact sNew_at z0
  have g1 : ∀ b, b < t → b ≠ (cBase k + 6) → b ≠ (cBase k + 8) → s1.2 b = σ.2 b := fun b h0 h1 h2 => by rw [e1]; exact sNew_ne (by omega) (g0 b h0 h1 h2)
  rw [z0]
  clear e1 g0 f0_X f0_LI f0_L0 f0_L1 f0_L2 f0_UN f0_SP
  refine r_dup S dX11_spanTable_14 rfl ?_
  refine r_aload_n S dX11_spanTable_15 rfl ?_
  refine r_iload_n S dX11_spanTable_16 rfl ?_
  refine r_callV S (c_yesPrice0 f1_X f1_LI hl0 hl1 hl2 f1_L0 f1_L1 f1_L2 f1_UN) k_mX11_yesPrice c_RX11_72_10 dX11_spanTable_17 (by decide) ⟨by omega, by omega⟩ (by repeat (first | assumption | exact sUp_same | exact sNew_same | refine sUp_ne (by first | assumption | omega) ?_)) rfl rfl (Nat.le_of_ble_eq_true rfl) (fun r σ' hp => ?_)
  obtain ⟨_, rfl, rfl, rfl⟩ := hp
  try simp only [Option.toList_some, Option.toList_none, List.cons_append, List.nil_append]
  refine V.name (fun s2 e2 => ?_)
  have z2 : s2.1 = (t + 1) := by rw [e2]; exact z1
  have f2_X : s2.2 (cBase k) = some (oX k tb) := by rw [e2]; exact sUp_ne (by omega) f1_X
  have f2_LI : s2.2 (cBase k + 1) = some (eQ (cQL k) 3 lq) := by rw [e2]; exact sUp_ne (by omega) f1_LI
  have f2_L0 : s2.2 (cBase k + 2) = some (.inr (6, [])) := by rw [e2]; exact sUp_ne (by omega) f1_L0
  have f2_L1 : s2.2 (cBase k + 3) = some (.inr (1, [])) := by rw [e2]; exact sUp_ne (by omega) f1_L1
  have f2_L2 : s2.2 (cBase k + 4) = some (.inr (9, [])) := by rw [e2]; exact sUp_ne (by omega) f1_L2
  have f2_UN : s2.2 (cBase k + 6) = some (oTally (z + 1)) := by rw [e2]; exact sUp_same
  have f2_SP : s2.2 (cBase k + 8) = some (eQ (cQS k) 3 sq) := by rw [e2]; exact sUp_ne (by omega) f1_SP
  have f2_A : s2.2 t = some (.inr (7, [.int 0, .int 0, .null, .int 0])) := by rw [e2]; exact sUp_ne (by omega) f1_A
  have g2 : ∀ b, b < t → b ≠ (cBase k + 6) → b ≠ (cBase k + 8) → s2.2 b = σ.2 b := fun b h0 h1 h2 => by rw [e2]; exact sUp_ne (by omega) (g1 b h0 h1 h2)
  clear e2 g1 f1_X f1_LI f1_L0 f1_L1 f1_L2 f1_UN f1_SP f1_A z1
  refine r_aload_n S dX11_spanTable_20 rfl ?_
  refine r_iload_n S dX11_spanTable_21 rfl ?_
  refine r_callV S (c_noPrice0 f2_X f2_LI hl0 hl1 hl2 f2_L0 f2_L1 f2_L2 f2_UN) k_mX11_noPrice c_RX11_76_10 dX11_spanTable_22 (by decide) ⟨by omega, by omega⟩ (by repeat (first | assumption | exact sUp_same | exact sNew_same | refine sUp_ne (by first | assumption | omega) ?_)) rfl rfl (Nat.le_of_ble_eq_true rfl) (fun r σ' hp => ?_)
  obtain ⟨_, rfl, rfl, rfl⟩ := hp
  try simp only [Option.toList_some, Option.toList_none, List.cons_append, List.nil_append]
  refine V.name (fun s3 e3 => ?_)
  have z3 : s3.1 = (t + 1) := by rw [e3]; exact z2
  have f3_X : s3.2 (cBase k) = some (oX k tb) := by rw [e3]; exact sUp_ne (by omega) f2_X
  have f3_LI : s3.2 (cBase k + 1) = some (eQ (cQL k) 3 lq) := by rw [e3]; exact sUp_ne (by omega) f2_LI
  have f3_L0 : s3.2 (cBase k + 2) = some (.inr (6, [])) := by rw [e3]; exact sUp_ne (by omega) f2_L0
  have f3_L1 : s3.2 (cBase k + 3) = some (.inr (1, [])) := by rw [e3]; exact sUp_ne (by omega) f2_L1
  have f3_L2 : s3.2 (cBase k + 4) = some (.inr (9, [])) := by rw [e3]; exact sUp_ne (by omega) f2_L2
  have f3_UN : s3.2 (cBase k + 6) = some (oTally (z + 1 + 1)) := by rw [e3]; exact sUp_same
  have f3_SP : s3.2 (cBase k + 8) = some (eQ (cQS k) 3 sq) := by rw [e3]; exact sUp_ne (by omega) f2_SP
  have f3_A : s3.2 t = some (.inr (7, [.int 0, .int 0, .null, .int 0])) := by rw [e3]; exact sUp_ne (by omega) f2_A
  have g3 : ∀ b, b < t → b ≠ (cBase k + 6) → b ≠ (cBase k + 8) → s3.2 b = σ.2 b := fun b h0 h1 h2 => by rw [e3]; exact sUp_ne (by omega) (g2 b h0 h1 h2)
  clear e3 g2 f2_X f2_LI f2_L0 f2_L1 f2_L2 f2_UN f2_SP f2_A z2
  refine r_callI S (c_init8 f3_A (by omega) (costK_rng 0 1 0) (costK_rng 0 0 1)) k_mX8_init c_RX11_229 dX11_spanTable_25 (by decide) ⟨by omega, by omega⟩ rfl rfl (Nat.le_of_ble_eq_true rfl) (fun r s4 hp => ?_)
  rw [z3] at hp
  obtain ⟨rfl, zz4, f4_A, f4_fw, gg4⟩ := hp
  have z4 : s4.1 = (t + 2) := by omega
  have f4_X : s4.2 (cBase k) = some (oX k tb) := (gg4 _ (by omega) (by omega)).trans f3_X
  have f4_LI : s4.2 (cBase k + 1) = some (eQ (cQL k) 3 lq) := (gg4 _ (by omega) (by omega)).trans f3_LI
  have f4_L0 : s4.2 (cBase k + 2) = some (.inr (6, [])) := (gg4 _ (by omega) (by omega)).trans f3_L0
  have f4_L1 : s4.2 (cBase k + 3) = some (.inr (1, [])) := (gg4 _ (by omega) (by omega)).trans f3_L1
  have f4_L2 : s4.2 (cBase k + 4) = some (.inr (9, [])) := (gg4 _ (by omega) (by omega)).trans f3_L2
  have f4_UN : s4.2 (cBase k + 6) = some (oTally (z + 1 + 1)) := (gg4 _ (by omega) (by omega)).trans f3_UN
  have f4_SP : s4.2 (cBase k + 8) = some (eQ (cQS k) 3 sq) := (gg4 _ (by omega) (by omega)).trans f3_SP
  have g4 : ∀ b, b < t → b ≠ (cBase k + 6) → b ≠ (cBase k + 8) → s4.2 b = σ.2 b := fun b h0 h1 h2 => (gg4 b (by omega) (by omega)).trans (g3 b h0 h1 h2)
  clear gg4 zz4 g3 f3_X f3_LI f3_L0 f3_L1 f3_L2 f3_UN f3_SP f3_A z3
  try simp only [Option.toList_some, Option.toList_none, List.cons_append, List.nil_append]
  refine r_astore_n S dX11_spanTable_28 rfl (by decide) (lv' := [_, _, _]) rfl ?_
  refine r_aload_n S dX11_spanTable_29 rfl ?_
  refine r_getf S g_RX11_40_10 dX11_spanTable_30 (by repeat (first | assumption | exact sUp_same | exact sNew_same | refine sUp_ne (by first | assumption | omega) ?_)) rfl ?_
  refine r_iload_n S dX11_spanTable_33 rfl ?_
  refine r_aload_n S dX11_spanTable_34 rfl ?_
  refine r_aast S (t0 := 4) (ci := 7) (cj := 7) rfl rfl rfl (Or.inl rfl) dX11_spanTable_35 (by repeat (first | assumption | exact sUp_same | exact sNew_same | refine sUp_ne (by first | assumption | omega) ?_)) ⟨by omega, by omega⟩ (by decide) (by repeat (first | assumption | exact sUp_same | exact sNew_same | refine sUp_ne (by first | assumption | omega) ?_)) ?_
  refine V.name (fun s5 e5 => ?_)
  have z5 : s5.1 = (t + 2) := by rw [e5]; exact z4
  have f5_X : s5.2 (cBase k) = some (oX k tb) := by rw [e5]; exact sUp_ne (by omega) f4_X
  have f5_LI : s5.2 (cBase k + 1) = some (eQ (cQL k) 3 lq) := by rw [e5]; exact sUp_ne (by omega) f4_LI
  have f5_L0 : s5.2 (cBase k + 2) = some (.inr (6, [])) := by rw [e5]; exact sUp_ne (by omega) f4_L0
  have f5_L1 : s5.2 (cBase k + 3) = some (.inr (1, [])) := by rw [e5]; exact sUp_ne (by omega) f4_L1
  have f5_L2 : s5.2 (cBase k + 4) = some (.inr (9, [])) := by rw [e5]; exact sUp_ne (by omega) f4_L2
  have f5_UN : s5.2 (cBase k + 6) = some (oTally (z + 1 + 1)) := by rw [e5]; exact sUp_ne (by omega) f4_UN
  have f5_SP : s5.2 (cBase k + 8) = some (eQ (cQS k) 3 (uQ sq 0 t)) := by rw [e5]; exact sUp_same
  have f5_A : s5.2 t = some (.inr (7, [.int (iZ (min (costK 0 1 0) 3)), .int (iZ (min (costK 0 0 1) 3)), .ref (t + 1), .int (iZ 0)])) := by rw [e5]; exact sUp_ne (by omega) f4_A
  have f5_fw : s5.2 (t + 1) = some (eI k 4096 (fun _ => 0)) := by rw [e5]; exact sUp_ne (by omega) f4_fw
  have g5 : ∀ b, b < t → b ≠ (cBase k + 6) → b ≠ (cBase k + 8) → s5.2 b = σ.2 b := fun b h0 h1 h2 => by rw [e5]; exact sUp_ne (by omega) (g4 b h0 h1 h2)
  clear e5 g4 f4_X f4_LI f4_L0 f4_L1 f4_L2 f4_UN f4_SP f4_A f4_fw z4
  refine r_aload_n S dX11_spanTable_36 rfl ?_
  exact r_aret S dX11_spanTable_37 (by omega) (by omega) (by
    have hcy : (min (costK 0 1 0) 3) = ((py 0 : Nat) : Int) := by decide
    have hcn : (min (costK 0 0 1) 3) = ((pn 0 : Nat) : Int) := by decide
    rw [hcy, hcn] at f5_A
    try rw [z0]
    exact ⟨_, rfl, rfl, z5, ⟨_, f5_UN⟩, f5_SP, f5_A, by rw [FsN_0]; exact f5_fw, g5⟩)

set_option maxRecDepth 100000 in
set_option maxHeartbeats 4000000 in
theorem c_heapTableN1 {k : Cx} {L0 : Launch} {σ : St} {tb z : Int} {lq : Nat → Option Nat} (hX : σ.2 (cBase k) = some (oX k tb)) (hLI : σ.2 (cBase k + 1) = some (eQ (cQL k) 3 lq)) (hl0 : lq 0 = some (cBase k + 2)) (hl1 : lq 1 = some (cBase k + 3)) (hl2 : lq 2 = some (cBase k + 4)) (hA0 : σ.2 (cBase k + 2) = some (.inr (6, []))) (hA1 : σ.2 (cBase k + 3) = some (.inr (1, []))) (hA2 : σ.2 (cBase k + 4) = some (.inr (9, []))) (hU : σ.2 (cBase k + 6) = some (oTally z)) (hbs : cBase k + 25 ≤ σ.1) {hq : Nat → Option Nat} (hH : σ.2 (cBase k + 7) = some (eQ (cQH k) 3 hq)) (hno : hq 1 = none) : CtrV k L0 mX11_heapTable 5 10 4967 [.ref (cBase k), .int (iZ 1)] σ (fun v σ' => v = .ref (σ.1 + 8) ∧ σ'.1 = σ.1 + 10 ∧ (∃ z' : Int, σ'.2 (cBase k + 6) = some (oTally z')) ∧ σ'.2 (cBase k + 7) = some (eQ (cQH k) 3 (uQ hq 1 (σ.1 + 8))) ∧ Tb k σ' σ.1 (cyK 1) (cnK 1) (fun _ => 0) ∧ Tl k σ' σ.1 (cyK 1) (cnK 1) ∧ σ'.2 (σ.1 + 8) = some (oHT σ.1) ∧ σ'.2 (σ.1 + 9) = some (eI k 4 (fun _ => 0)) ∧ ∀ b, b < σ.1 → b ≠ (cBase k + 6) → b ≠ (cBase k + 7) → σ'.2 b = σ.2 b) := by
  refine Ctr.of (by decide +kernel) rfl (Nat.le_of_ble_eq_true rfl) ?_
  intro κ hl0 S
  subst hl0
  obtain ⟨t, z0⟩ : ∃ t, σ.1 = t := ⟨_, rfl⟩
  rw [z0] at hbs
  have f0_X := hX
  have f0_LI := hLI
  have f0_L0 := hA0
  have f0_L1 := hA1
  have f0_L2 := hA2
  have f0_UN := hU
  have f0_HT := hH
  have g0 : ∀ b, b < t → b ≠ (cBase k + 6) → b ≠ (cBase k + 7) → σ.2 b = σ.2 b := fun _ _ _ _ => rfl
  refine r_aload_n S dX11_heapTable_0 rfl ?_
  refine r_getf S g_RX11_34_10 dX11_heapTable_1 (by repeat (first | assumption | exact sUp_same | exact sNew_same | refine sUp_ne (by first | assumption | omega) ?_)) rfl ?_
  refine r_iload_n S dX11_heapTable_4 rfl ?_
  refine r_aaldN S (1) (t0 := 3) (v := .null) rfl dX11_heapTable_5 (by repeat (first | assumption | exact sUp_same | exact sNew_same | refine sUp_ne (by first | assumption | omega) ?_)) (by rfl) (by omega) (by decide) (by rw [hno]; rfl) ?_
  refine r_astore_nN S dX11_heapTable_6 rfl (by decide) (lv' := [_, _, _, _, _, _]) rfl ?_
  refine r_aload_nN S dX11_heapTable_7 rfl ?_
  refine r_ifnonnullN S dX11_heapTable_8 ?_
  refine r_sipush S dX11_heapTable_11 (by decide) ?_
  refine r_newIN S (4845) (by omega) wd_134 dX11_heapTable_14 (by omega) (by omega) (by omega) ?_
  refine V.name (fun s1 e1 => ?_)
  have z1 : s1.1 = (t + 1) := by rw [e1]; show σ.1 + 1 = _; rw [z0]
  have f1_X : s1.2 (cBase k) = some (oX k tb) := by rw [e1]; exact sNew_ne (by omega) f0_X
  have f1_LI : s1.2 (cBase k + 1) = some (eQ (cQL k) 3 lq) := by rw [e1]; exact sNew_ne (by omega) f0_LI
  have f1_L0 : s1.2 (cBase k + 2) = some (.inr (6, [])) := by rw [e1]; exact sNew_ne (by omega) f0_L0
  have f1_L1 : s1.2 (cBase k + 3) = some (.inr (1, [])) := by rw [e1]; exact sNew_ne (by omega) f0_L1
  have f1_L2 : s1.2 (cBase k + 4) = some (.inr (9, [])) := by rw [e1]; exact sNew_ne (by omega) f0_L2
  have f1_UN : s1.2 (cBase k + 6) = some (oTally z) := by rw [e1]; exact sNew_ne (by omega) f0_UN
  have f1_HT : s1.2 (cBase k + 7) = some (eQ (cQH k) 3 hq) := by rw [e1]; exact sNew_ne (by omega) f0_HT
  have f1_fw : s1.2 t = some (eI k 4845 (fun _ => 0)) := by rw [e1]; exact sNew_at z0
  have g1 : ∀ b, b < t → b ≠ (cBase k + 6) → b ≠ (cBase k + 7) → s1.2 b = σ.2 b := fun b h0 h1 h2 => by rw [e1]; exact sNew_ne (by omega) (g0 b h0 h1 h2)
  rw [z0]
  clear e1 g0 f0_X f0_LI f0_L0 f0_L1 f0_L2 f0_UN f0_HT
  refine r_astore_n S dX11_heapTable_16 rfl (by decide) (lv' := [_, _, _, _, _, _]) rfl ?_
  refine r_newO S 6 rfl n_RX11_218 dX11_heapTable_17 (by omega) (by omega) ?_
  refine V.name (fun s2 e2 => ?_)
  have z2 : s2.1 = (t + 2) := by rw [e2]; show s1.1 + 1 = _; rw [z1]
  have f2_X : s2.2 (cBase k) = some (oX k tb) := by rw [e2]; exact sNew_ne (by omega) f1_X
  have f2_LI : s2.2 (cBase k + 1) = some (eQ (cQL k) 3 lq) := by rw [e2]; exact sNew_ne (by omega) f1_LI
  have f2_L0 : s2.2 (cBase k + 2) = some (.inr (6, [])) := by rw [e2]; exact sNew_ne (by omega) f1_L0
  have f2_L1 : s2.2 (cBase k + 3) = some (.inr (1, [])) := by rw [e2]; exact sNew_ne (by omega) f1_L1
  have f2_L2 : s2.2 (cBase k + 4) = some (.inr (9, [])) := by rw [e2]; exact sNew_ne (by omega) f1_L2
  have f2_UN : s2.2 (cBase k + 6) = some (oTally z) := by rw [e2]; exact sNew_ne (by omega) f1_UN
  have f2_HT : s2.2 (cBase k + 7) = some (eQ (cQH k) 3 hq) := by rw [e2]; exact sNew_ne (by omega) f1_HT
  have f2_fw : s2.2 t = some (eI k 4845 (fun _ => 0)) := by rw [e2]; exact sNew_ne (by omega) f1_fw
  have f2_A : s2.2 (t + 1) = some (.inr (0, [.null, .int 0, .int 0, .null, .null, .int 0])) := by rw [e2]; exact sNew_at z1
  have g2 : ∀ b, b < t → b ≠ (cBase k + 6) → b ≠ (cBase k + 7) → s2.2 b = σ.2 b := fun b h0 h1 h2 => by rw [e2]; exact sNew_ne (by omega) (g1 b h0 h1 h2)
  rw [z1]
  clear e2 g1 f1_X f1_LI f1_L0 f1_L1 f1_L2 f1_UN f1_HT f1_fw z1
  refine r_dup S dX11_heapTable_20 rfl ?_
  refine r_aload_n S dX11_heapTable_21 rfl ?_
  refine r_aload_n S dX11_heapTable_22 rfl ?_
  refine r_iload_n S dX11_heapTable_23 rfl ?_
  refine r_callV S (c_yesPrice1 f2_X f2_LI hl0 hl1 hl2 f2_L0 f2_L1 f2_L2 f2_UN) k_mX11_yesPrice c_RX11_72_10 dX11_heapTable_24 (by decide) ⟨by omega, by omega⟩ (by repeat (first | assumption | exact sUp_same | exact sNew_same | refine sUp_ne (by first | assumption | omega) ?_)) rfl rfl (Nat.le_of_ble_eq_true rfl) (fun r σ' hp => ?_)
  obtain ⟨_, rfl, rfl, rfl⟩ := hp
  try simp only [Option.toList_some, Option.toList_none, List.cons_append, List.nil_append]
  refine V.name (fun s3 e3 => ?_)
  have z3 : s3.1 = (t + 2) := by rw [e3]; exact z2
  have f3_X : s3.2 (cBase k) = some (oX k tb) := by rw [e3]; exact sUp_ne (by omega) f2_X
  have f3_LI : s3.2 (cBase k + 1) = some (eQ (cQL k) 3 lq) := by rw [e3]; exact sUp_ne (by omega) f2_LI
  have f3_L0 : s3.2 (cBase k + 2) = some (.inr (6, [])) := by rw [e3]; exact sUp_ne (by omega) f2_L0
  have f3_L1 : s3.2 (cBase k + 3) = some (.inr (1, [])) := by rw [e3]; exact sUp_ne (by omega) f2_L1
  have f3_L2 : s3.2 (cBase k + 4) = some (.inr (9, [])) := by rw [e3]; exact sUp_ne (by omega) f2_L2
  have f3_UN : s3.2 (cBase k + 6) = some (oTally (z + 11)) := by rw [e3]; exact sUp_same
  have f3_HT : s3.2 (cBase k + 7) = some (eQ (cQH k) 3 hq) := by rw [e3]; exact sUp_ne (by omega) f2_HT
  have f3_fw : s3.2 t = some (eI k 4845 (fun _ => 0)) := by rw [e3]; exact sUp_ne (by omega) f2_fw
  have f3_A : s3.2 (t + 1) = some (.inr (0, [.null, .int 0, .int 0, .null, .null, .int 0])) := by rw [e3]; exact sUp_ne (by omega) f2_A
  have g3 : ∀ b, b < t → b ≠ (cBase k + 6) → b ≠ (cBase k + 7) → s3.2 b = σ.2 b := fun b h0 h1 h2 => by rw [e3]; exact sUp_ne (by omega) (g2 b h0 h1 h2)
  clear e3 g2 f2_X f2_LI f2_L0 f2_L1 f2_L2 f2_UN f2_HT f2_fw f2_A z2
  refine r_aload_n S dX11_heapTable_27 rfl ?_
  refine r_iload_n S dX11_heapTable_28 rfl ?_
  refine r_callV S (c_noPrice1 f3_X f3_LI hl0 hl1 hl2 f3_L0 f3_L1 f3_L2 f3_UN) k_mX11_noPrice c_RX11_76_10 dX11_heapTable_29 (by decide) ⟨by omega, by omega⟩ (by repeat (first | assumption | exact sUp_same | exact sNew_same | refine sUp_ne (by first | assumption | omega) ?_)) rfl rfl (Nat.le_of_ble_eq_true rfl) (fun r σ' hp => ?_)
  obtain ⟨_, rfl, rfl, rfl⟩ := hp
  try simp only [Option.toList_some, Option.toList_none, List.cons_append, List.nil_append]
  refine V.name (fun s4 e4 => ?_)
  have z4 : s4.1 = (t + 2) := by rw [e4]; exact z3
  have f4_X : s4.2 (cBase k) = some (oX k tb) := by rw [e4]; exact sUp_ne (by omega) f3_X
  have f4_LI : s4.2 (cBase k + 1) = some (eQ (cQL k) 3 lq) := by rw [e4]; exact sUp_ne (by omega) f3_LI
  have f4_L0 : s4.2 (cBase k + 2) = some (.inr (6, [])) := by rw [e4]; exact sUp_ne (by omega) f3_L0
  have f4_L1 : s4.2 (cBase k + 3) = some (.inr (1, [])) := by rw [e4]; exact sUp_ne (by omega) f3_L1
  have f4_L2 : s4.2 (cBase k + 4) = some (.inr (9, [])) := by rw [e4]; exact sUp_ne (by omega) f3_L2
  have f4_UN : s4.2 (cBase k + 6) = some (oTally (z + 11 + 11)) := by rw [e4]; exact sUp_same
  have f4_HT : s4.2 (cBase k + 7) = some (eQ (cQH k) 3 hq) := by rw [e4]; exact sUp_ne (by omega) f3_HT
  have f4_fw : s4.2 t = some (eI k 4845 (fun _ => 0)) := by rw [e4]; exact sUp_ne (by omega) f3_fw
  have f4_A : s4.2 (t + 1) = some (.inr (0, [.null, .int 0, .int 0, .null, .null, .int 0])) := by rw [e4]; exact sUp_ne (by omega) f3_A
  have g4 : ∀ b, b < t → b ≠ (cBase k + 6) → b ≠ (cBase k + 7) → s4.2 b = σ.2 b := fun b h0 h1 h2 => by rw [e4]; exact sUp_ne (by omega) (g3 b h0 h1 h2)
  clear e4 g3 f3_X f3_LI f3_L0 f3_L1 f3_L2 f3_UN f3_HT f3_fw f3_A z3
  refine r_callI S (c_init0 f4_A (by omega) (costK_rng 1 1 0) (costK_rng 1 0 1)) k_mX0_init c_RX11_220 dX11_heapTable_32 (by decide) ⟨by omega, by omega⟩ rfl rfl (Nat.le_of_ble_eq_true rfl) (fun r s5 hp => ?_)
  rw [z4] at hp
  obtain ⟨rfl, zz5, f5_A, f5_hv, f5_tk, gg5⟩ := hp
  have z5 : s5.1 = (t + 4) := by omega
  have f5_X : s5.2 (cBase k) = some (oX k tb) := (gg5 _ (by omega) (by omega)).trans f4_X
  have f5_LI : s5.2 (cBase k + 1) = some (eQ (cQL k) 3 lq) := (gg5 _ (by omega) (by omega)).trans f4_LI
  have f5_L0 : s5.2 (cBase k + 2) = some (.inr (6, [])) := (gg5 _ (by omega) (by omega)).trans f4_L0
  have f5_L1 : s5.2 (cBase k + 3) = some (.inr (1, [])) := (gg5 _ (by omega) (by omega)).trans f4_L1
  have f5_L2 : s5.2 (cBase k + 4) = some (.inr (9, [])) := (gg5 _ (by omega) (by omega)).trans f4_L2
  have f5_UN : s5.2 (cBase k + 6) = some (oTally (z + 11 + 11)) := (gg5 _ (by omega) (by omega)).trans f4_UN
  have f5_HT : s5.2 (cBase k + 7) = some (eQ (cQH k) 3 hq) := (gg5 _ (by omega) (by omega)).trans f4_HT
  have f5_fw : s5.2 t = some (eI k 4845 (fun _ => 0)) := (gg5 _ (by omega) (by omega)).trans f4_fw
  have g5 : ∀ b, b < t → b ≠ (cBase k + 6) → b ≠ (cBase k + 7) → s5.2 b = σ.2 b := fun b h0 h1 h2 => (gg5 b (by omega) (by omega)).trans (g4 b h0 h1 h2)
  clear gg5 zz5 g4 f4_X f4_LI f4_L0 f4_L1 f4_L2 f4_UN f4_HT f4_fw f4_A z4
  try simp only [Option.toList_some, Option.toList_none, List.cons_append, List.nil_append]
  refine r_astore S dX11_heapTable_35 rfl (by decide) (lv' := [_, _, _, _, _, _]) rfl ?_
  refine r_newO S 8 rfl n_RX11_223 dX11_heapTable_37 (by omega) (by omega) ?_
  refine V.name (fun s6 e6 => ?_)
  have z6 : s6.1 = (t + 5) := by rw [e6]; show s5.1 + 1 = _; rw [z5]
  have f6_X : s6.2 (cBase k) = some (oX k tb) := by rw [e6]; exact sNew_ne (by omega) f5_X
  have f6_LI : s6.2 (cBase k + 1) = some (eQ (cQL k) 3 lq) := by rw [e6]; exact sNew_ne (by omega) f5_LI
  have f6_L0 : s6.2 (cBase k + 2) = some (.inr (6, [])) := by rw [e6]; exact sNew_ne (by omega) f5_L0
  have f6_L1 : s6.2 (cBase k + 3) = some (.inr (1, [])) := by rw [e6]; exact sNew_ne (by omega) f5_L1
  have f6_L2 : s6.2 (cBase k + 4) = some (.inr (9, [])) := by rw [e6]; exact sNew_ne (by omega) f5_L2
  have f6_UN : s6.2 (cBase k + 6) = some (oTally (z + 11 + 11)) := by rw [e6]; exact sNew_ne (by omega) f5_UN
  have f6_HT : s6.2 (cBase k + 7) = some (eQ (cQH k) 3 hq) := by rw [e6]; exact sNew_ne (by omega) f5_HT
  have f6_fw : s6.2 t = some (eI k 4845 (fun _ => 0)) := by rw [e6]; exact sNew_ne (by omega) f5_fw
  have f6_A : s6.2 (t + 1) = some (.inr (0, [.ref t, .int (iZ (max 1 (min (costK 1 1 0) 4))), .int (iZ (max 1 (min (costK 1 0 1) 4))), .ref (t + 2), .ref (t + 3), .int (iZ 0)])) := by rw [e6]; exact sNew_ne (by omega) f5_A
  have f6_hv : s6.2 (t + 2) = some (eI k 8 (fun _ => 0)) := by rw [e6]; exact sNew_ne (by omega) f5_hv
  have f6_tk : s6.2 (t + 3) = some (eI k 8 (fun _ => 0)) := by rw [e6]; exact sNew_ne (by omega) f5_tk
  have f6_L : s6.2 (t + 4) = some (.inr (5, [.null, .int 0, .int 0, .null, .null, .int 0, .null, .int 0])) := by rw [e6]; exact sNew_at z5
  have g6 : ∀ b, b < t → b ≠ (cBase k + 6) → b ≠ (cBase k + 7) → s6.2 b = σ.2 b := fun b h0 h1 h2 => by rw [e6]; exact sNew_ne (by omega) (g5 b h0 h1 h2)
  rw [z5]
  clear e6 g5 f5_X f5_LI f5_L0 f5_L1 f5_L2 f5_UN f5_HT f5_fw f5_A f5_hv f5_tk z5
  refine r_dup S dX11_heapTable_40 rfl ?_
  refine r_aload_n S dX11_heapTable_41 rfl ?_
  refine r_aload_n S dX11_heapTable_42 rfl ?_
  refine r_iload_n S dX11_heapTable_43 rfl ?_
  refine r_callV S (c_yesPrice1 f6_X f6_LI hl0 hl1 hl2 f6_L0 f6_L1 f6_L2 f6_UN) k_mX11_yesPrice c_RX11_72_10 dX11_heapTable_44 (by decide) ⟨by omega, by omega⟩ (by repeat (first | assumption | exact sUp_same | exact sNew_same | refine sUp_ne (by first | assumption | omega) ?_)) rfl rfl (Nat.le_of_ble_eq_true rfl) (fun r σ' hp => ?_)
  obtain ⟨_, rfl, rfl, rfl⟩ := hp
  try simp only [Option.toList_some, Option.toList_none, List.cons_append, List.nil_append]
  refine V.name (fun s7 e7 => ?_)
  have z7 : s7.1 = (t + 5) := by rw [e7]; exact z6
  have f7_X : s7.2 (cBase k) = some (oX k tb) := by rw [e7]; exact sUp_ne (by omega) f6_X
  have f7_LI : s7.2 (cBase k + 1) = some (eQ (cQL k) 3 lq) := by rw [e7]; exact sUp_ne (by omega) f6_LI
  have f7_L0 : s7.2 (cBase k + 2) = some (.inr (6, [])) := by rw [e7]; exact sUp_ne (by omega) f6_L0
  have f7_L1 : s7.2 (cBase k + 3) = some (.inr (1, [])) := by rw [e7]; exact sUp_ne (by omega) f6_L1
  have f7_L2 : s7.2 (cBase k + 4) = some (.inr (9, [])) := by rw [e7]; exact sUp_ne (by omega) f6_L2
  have f7_UN : s7.2 (cBase k + 6) = some (oTally (z + 11 + 11 + 11)) := by rw [e7]; exact sUp_same
  have f7_HT : s7.2 (cBase k + 7) = some (eQ (cQH k) 3 hq) := by rw [e7]; exact sUp_ne (by omega) f6_HT
  have f7_fw : s7.2 t = some (eI k 4845 (fun _ => 0)) := by rw [e7]; exact sUp_ne (by omega) f6_fw
  have f7_A : s7.2 (t + 1) = some (.inr (0, [.ref t, .int (iZ (max 1 (min (costK 1 1 0) 4))), .int (iZ (max 1 (min (costK 1 0 1) 4))), .ref (t + 2), .ref (t + 3), .int (iZ 0)])) := by rw [e7]; exact sUp_ne (by omega) f6_A
  have f7_hv : s7.2 (t + 2) = some (eI k 8 (fun _ => 0)) := by rw [e7]; exact sUp_ne (by omega) f6_hv
  have f7_tk : s7.2 (t + 3) = some (eI k 8 (fun _ => 0)) := by rw [e7]; exact sUp_ne (by omega) f6_tk
  have f7_L : s7.2 (t + 4) = some (.inr (5, [.null, .int 0, .int 0, .null, .null, .int 0, .null, .int 0])) := by rw [e7]; exact sUp_ne (by omega) f6_L
  have g7 : ∀ b, b < t → b ≠ (cBase k + 6) → b ≠ (cBase k + 7) → s7.2 b = σ.2 b := fun b h0 h1 h2 => by rw [e7]; exact sUp_ne (by omega) (g6 b h0 h1 h2)
  clear e7 g6 f6_X f6_LI f6_L0 f6_L1 f6_L2 f6_UN f6_HT f6_fw f6_A f6_hv f6_tk f6_L z6
  refine r_aload_n S dX11_heapTable_47 rfl ?_
  refine r_iload_n S dX11_heapTable_48 rfl ?_
  refine r_callV S (c_noPrice1 f7_X f7_LI hl0 hl1 hl2 f7_L0 f7_L1 f7_L2 f7_UN) k_mX11_noPrice c_RX11_76_10 dX11_heapTable_49 (by decide) ⟨by omega, by omega⟩ (by repeat (first | assumption | exact sUp_same | exact sNew_same | refine sUp_ne (by first | assumption | omega) ?_)) rfl rfl (Nat.le_of_ble_eq_true rfl) (fun r σ' hp => ?_)
  obtain ⟨_, rfl, rfl, rfl⟩ := hp
  try simp only [Option.toList_some, Option.toList_none, List.cons_append, List.nil_append]
  refine V.name (fun s8 e8 => ?_)
  have z8 : s8.1 = (t + 5) := by rw [e8]; exact z7
  have f8_X : s8.2 (cBase k) = some (oX k tb) := by rw [e8]; exact sUp_ne (by omega) f7_X
  have f8_LI : s8.2 (cBase k + 1) = some (eQ (cQL k) 3 lq) := by rw [e8]; exact sUp_ne (by omega) f7_LI
  have f8_L0 : s8.2 (cBase k + 2) = some (.inr (6, [])) := by rw [e8]; exact sUp_ne (by omega) f7_L0
  have f8_L1 : s8.2 (cBase k + 3) = some (.inr (1, [])) := by rw [e8]; exact sUp_ne (by omega) f7_L1
  have f8_L2 : s8.2 (cBase k + 4) = some (.inr (9, [])) := by rw [e8]; exact sUp_ne (by omega) f7_L2
  have f8_UN : s8.2 (cBase k + 6) = some (oTally (z + 11 + 11 + 11 + 11)) := by rw [e8]; exact sUp_same
  have f8_HT : s8.2 (cBase k + 7) = some (eQ (cQH k) 3 hq) := by rw [e8]; exact sUp_ne (by omega) f7_HT
  have f8_fw : s8.2 t = some (eI k 4845 (fun _ => 0)) := by rw [e8]; exact sUp_ne (by omega) f7_fw
  have f8_A : s8.2 (t + 1) = some (.inr (0, [.ref t, .int (iZ (max 1 (min (costK 1 1 0) 4))), .int (iZ (max 1 (min (costK 1 0 1) 4))), .ref (t + 2), .ref (t + 3), .int (iZ 0)])) := by rw [e8]; exact sUp_ne (by omega) f7_A
  have f8_hv : s8.2 (t + 2) = some (eI k 8 (fun _ => 0)) := by rw [e8]; exact sUp_ne (by omega) f7_hv
  have f8_tk : s8.2 (t + 3) = some (eI k 8 (fun _ => 0)) := by rw [e8]; exact sUp_ne (by omega) f7_tk
  have f8_L : s8.2 (t + 4) = some (.inr (5, [.null, .int 0, .int 0, .null, .null, .int 0, .null, .int 0])) := by rw [e8]; exact sUp_ne (by omega) f7_L
  have g8 : ∀ b, b < t → b ≠ (cBase k + 6) → b ≠ (cBase k + 7) → s8.2 b = σ.2 b := fun b h0 h1 h2 => by rw [e8]; exact sUp_ne (by omega) (g7 b h0 h1 h2)
  clear e8 g7 f7_X f7_LI f7_L0 f7_L1 f7_L2 f7_UN f7_HT f7_fw f7_A f7_hv f7_tk f7_L z7
  refine r_callI S (c_init6 f8_L (by omega) (costK_rng 1 1 0) (costK_rng 1 0 1)) k_mX6_init c_RX11_225 dX11_heapTable_52 (by decide) ⟨by omega, by omega⟩ rfl rfl (Nat.le_of_ble_eq_true rfl) (fun r s9 hp => ?_)
  rw [z8] at hp
  obtain ⟨rfl, zz9, f9_L, f9_hv2, f9_tk2, f9_lw, gg9⟩ := hp
  have z9 : s9.1 = (t + 8) := by omega
  have f9_X : s9.2 (cBase k) = some (oX k tb) := (gg9 _ (by omega) (by omega)).trans f8_X
  have f9_LI : s9.2 (cBase k + 1) = some (eQ (cQL k) 3 lq) := (gg9 _ (by omega) (by omega)).trans f8_LI
  have f9_L0 : s9.2 (cBase k + 2) = some (.inr (6, [])) := (gg9 _ (by omega) (by omega)).trans f8_L0
  have f9_L1 : s9.2 (cBase k + 3) = some (.inr (1, [])) := (gg9 _ (by omega) (by omega)).trans f8_L1
  have f9_L2 : s9.2 (cBase k + 4) = some (.inr (9, [])) := (gg9 _ (by omega) (by omega)).trans f8_L2
  have f9_UN : s9.2 (cBase k + 6) = some (oTally (z + 11 + 11 + 11 + 11)) := (gg9 _ (by omega) (by omega)).trans f8_UN
  have f9_HT : s9.2 (cBase k + 7) = some (eQ (cQH k) 3 hq) := (gg9 _ (by omega) (by omega)).trans f8_HT
  have f9_fw : s9.2 t = some (eI k 4845 (fun _ => 0)) := (gg9 _ (by omega) (by omega)).trans f8_fw
  have f9_A : s9.2 (t + 1) = some (.inr (0, [.ref t, .int (iZ (max 1 (min (costK 1 1 0) 4))), .int (iZ (max 1 (min (costK 1 0 1) 4))), .ref (t + 2), .ref (t + 3), .int (iZ 0)])) := (gg9 _ (by omega) (by omega)).trans f8_A
  have f9_hv : s9.2 (t + 2) = some (eI k 8 (fun _ => 0)) := (gg9 _ (by omega) (by omega)).trans f8_hv
  have f9_tk : s9.2 (t + 3) = some (eI k 8 (fun _ => 0)) := (gg9 _ (by omega) (by omega)).trans f8_tk
  have g9 : ∀ b, b < t → b ≠ (cBase k + 6) → b ≠ (cBase k + 7) → s9.2 b = σ.2 b := fun b h0 h1 h2 => (gg9 b (by omega) (by omega)).trans (g8 b h0 h1 h2)
  clear gg9 zz9 g8 f8_X f8_LI f8_L0 f8_L1 f8_L2 f8_UN f8_HT f8_fw f8_A f8_hv f8_tk f8_L z8
  try simp only [Option.toList_some, Option.toList_none, List.cons_append, List.nil_append]
  refine r_astore S dX11_heapTable_55 rfl (by decide) (lv' := [_, _, _, _, _, _]) rfl ?_
  refine r_newO S 4 rfl n_RX11_32 dX11_heapTable_57 (by omega) (by omega) ?_
  refine V.name (fun s10 e10 => ?_)
  have z10 : s10.1 = (t + 9) := by rw [e10]; show s9.1 + 1 = _; rw [z9]
  have f10_X : s10.2 (cBase k) = some (oX k tb) := by rw [e10]; exact sNew_ne (by omega) f9_X
  have f10_LI : s10.2 (cBase k + 1) = some (eQ (cQL k) 3 lq) := by rw [e10]; exact sNew_ne (by omega) f9_LI
  have f10_L0 : s10.2 (cBase k + 2) = some (.inr (6, [])) := by rw [e10]; exact sNew_ne (by omega) f9_L0
  have f10_L1 : s10.2 (cBase k + 3) = some (.inr (1, [])) := by rw [e10]; exact sNew_ne (by omega) f9_L1
  have f10_L2 : s10.2 (cBase k + 4) = some (.inr (9, [])) := by rw [e10]; exact sNew_ne (by omega) f9_L2
  have f10_UN : s10.2 (cBase k + 6) = some (oTally (z + 11 + 11 + 11 + 11)) := by rw [e10]; exact sNew_ne (by omega) f9_UN
  have f10_HT : s10.2 (cBase k + 7) = some (eQ (cQH k) 3 hq) := by rw [e10]; exact sNew_ne (by omega) f9_HT
  have f10_fw : s10.2 t = some (eI k 4845 (fun _ => 0)) := by rw [e10]; exact sNew_ne (by omega) f9_fw
  have f10_A : s10.2 (t + 1) = some (.inr (0, [.ref t, .int (iZ (max 1 (min (costK 1 1 0) 4))), .int (iZ (max 1 (min (costK 1 0 1) 4))), .ref (t + 2), .ref (t + 3), .int (iZ 0)])) := by rw [e10]; exact sNew_ne (by omega) f9_A
  have f10_hv : s10.2 (t + 2) = some (eI k 8 (fun _ => 0)) := by rw [e10]; exact sNew_ne (by omega) f9_hv
  have f10_tk : s10.2 (t + 3) = some (eI k 8 (fun _ => 0)) := by rw [e10]; exact sNew_ne (by omega) f9_tk
  have f10_L : s10.2 (t + 4) = some (.inr (5, [.ref t, .int (iZ (max 1 (min (costK 1 1 0) 4))), .int (iZ (max 1 (min (costK 1 0 1) 4))), .ref (t + 5), .ref (t + 6), .int (iZ 0), .ref (t + 7), .int (iZ 0)])) := by rw [e10]; exact sNew_ne (by omega) f9_L
  have f10_hv2 : s10.2 (t + 5) = some (eI k 8 (fun _ => 0)) := by rw [e10]; exact sNew_ne (by omega) f9_hv2
  have f10_tk2 : s10.2 (t + 6) = some (eI k 8 (fun _ => 0)) := by rw [e10]; exact sNew_ne (by omega) f9_tk2
  have f10_lw : s10.2 (t + 7) = some (eI k 68 (fun _ => 0)) := by rw [e10]; exact sNew_ne (by omega) f9_lw
  have f10_T : s10.2 (t + 8) = some (.inr (4, [.null, .null, .null, .null])) := by rw [e10]; exact sNew_at z9
  have g10 : ∀ b, b < t → b ≠ (cBase k + 6) → b ≠ (cBase k + 7) → s10.2 b = σ.2 b := fun b h0 h1 h2 => by rw [e10]; exact sNew_ne (by omega) (g9 b h0 h1 h2)
  rw [z9]
  clear e10 g9 f9_X f9_LI f9_L0 f9_L1 f9_L2 f9_UN f9_HT f9_fw f9_A f9_hv f9_tk f9_L f9_hv2 f9_tk2 f9_lw z9
  refine r_dup S dX11_heapTable_60 rfl ?_
  refine r_aload_n S dX11_heapTable_61 rfl ?_
  refine r_aload S dX11_heapTable_62 rfl ?_
  refine r_aload S dX11_heapTable_64 rfl ?_
  refine r_callI S (c_init4 f10_T (by omega)) k_mX4_init c_RX11_226 dX11_heapTable_66 (by decide) ⟨by omega, by omega⟩ rfl rfl (Nat.le_of_ble_eq_true rfl) (fun r s11 hp => ?_)
  rw [z10] at hp
  obtain ⟨rfl, zz11, f11_T, f11_kn, gg11⟩ := hp
  have z11 : s11.1 = (t + 10) := by omega
  have f11_X : s11.2 (cBase k) = some (oX k tb) := (gg11 _ (by omega) (by omega)).trans f10_X
  have f11_LI : s11.2 (cBase k + 1) = some (eQ (cQL k) 3 lq) := (gg11 _ (by omega) (by omega)).trans f10_LI
  have f11_L0 : s11.2 (cBase k + 2) = some (.inr (6, [])) := (gg11 _ (by omega) (by omega)).trans f10_L0
  have f11_L1 : s11.2 (cBase k + 3) = some (.inr (1, [])) := (gg11 _ (by omega) (by omega)).trans f10_L1
  have f11_L2 : s11.2 (cBase k + 4) = some (.inr (9, [])) := (gg11 _ (by omega) (by omega)).trans f10_L2
  have f11_UN : s11.2 (cBase k + 6) = some (oTally (z + 11 + 11 + 11 + 11)) := (gg11 _ (by omega) (by omega)).trans f10_UN
  have f11_HT : s11.2 (cBase k + 7) = some (eQ (cQH k) 3 hq) := (gg11 _ (by omega) (by omega)).trans f10_HT
  have f11_fw : s11.2 t = some (eI k 4845 (fun _ => 0)) := (gg11 _ (by omega) (by omega)).trans f10_fw
  have f11_A : s11.2 (t + 1) = some (.inr (0, [.ref t, .int (iZ (max 1 (min (costK 1 1 0) 4))), .int (iZ (max 1 (min (costK 1 0 1) 4))), .ref (t + 2), .ref (t + 3), .int (iZ 0)])) := (gg11 _ (by omega) (by omega)).trans f10_A
  have f11_hv : s11.2 (t + 2) = some (eI k 8 (fun _ => 0)) := (gg11 _ (by omega) (by omega)).trans f10_hv
  have f11_tk : s11.2 (t + 3) = some (eI k 8 (fun _ => 0)) := (gg11 _ (by omega) (by omega)).trans f10_tk
  have f11_L : s11.2 (t + 4) = some (.inr (5, [.ref t, .int (iZ (max 1 (min (costK 1 1 0) 4))), .int (iZ (max 1 (min (costK 1 0 1) 4))), .ref (t + 5), .ref (t + 6), .int (iZ 0), .ref (t + 7), .int (iZ 0)])) := (gg11 _ (by omega) (by omega)).trans f10_L
  have f11_hv2 : s11.2 (t + 5) = some (eI k 8 (fun _ => 0)) := (gg11 _ (by omega) (by omega)).trans f10_hv2
  have f11_tk2 : s11.2 (t + 6) = some (eI k 8 (fun _ => 0)) := (gg11 _ (by omega) (by omega)).trans f10_tk2
  have f11_lw : s11.2 (t + 7) = some (eI k 68 (fun _ => 0)) := (gg11 _ (by omega) (by omega)).trans f10_lw
  have g11 : ∀ b, b < t → b ≠ (cBase k + 6) → b ≠ (cBase k + 7) → s11.2 b = σ.2 b := fun b h0 h1 h2 => (gg11 b (by omega) (by omega)).trans (g10 b h0 h1 h2)
  clear gg11 zz11 g10 f10_X f10_LI f10_L0 f10_L1 f10_L2 f10_UN f10_HT f10_fw f10_A f10_hv f10_tk f10_L f10_hv2 f10_tk2 f10_lw f10_T z10
  try simp only [Option.toList_some, Option.toList_none, List.cons_append, List.nil_append]
  refine r_astore_n S dX11_heapTable_69 rfl (by decide) (lv' := [_, _, _, _, _, _]) rfl ?_
  refine r_aload_n S dX11_heapTable_70 rfl ?_
  refine r_getf S g_RX11_34_10 dX11_heapTable_71 (by repeat (first | assumption | exact sUp_same | exact sNew_same | refine sUp_ne (by first | assumption | omega) ?_)) rfl ?_
  refine r_iload_n S dX11_heapTable_74 rfl ?_
  refine r_aload_n S dX11_heapTable_75 rfl ?_
  refine r_aast S (t0 := 3) (ci := 4) (cj := 4) rfl rfl rfl (Or.inl rfl) dX11_heapTable_76 (by repeat (first | assumption | exact sUp_same | exact sNew_same | refine sUp_ne (by first | assumption | omega) ?_)) ⟨by omega, by omega⟩ (by decide) (by repeat (first | assumption | exact sUp_same | exact sNew_same | refine sUp_ne (by first | assumption | omega) ?_)) ?_
  refine V.name (fun s12 e12 => ?_)
  have z12 : s12.1 = (t + 10) := by rw [e12]; exact z11
  have f12_X : s12.2 (cBase k) = some (oX k tb) := by rw [e12]; exact sUp_ne (by omega) f11_X
  have f12_LI : s12.2 (cBase k + 1) = some (eQ (cQL k) 3 lq) := by rw [e12]; exact sUp_ne (by omega) f11_LI
  have f12_L0 : s12.2 (cBase k + 2) = some (.inr (6, [])) := by rw [e12]; exact sUp_ne (by omega) f11_L0
  have f12_L1 : s12.2 (cBase k + 3) = some (.inr (1, [])) := by rw [e12]; exact sUp_ne (by omega) f11_L1
  have f12_L2 : s12.2 (cBase k + 4) = some (.inr (9, [])) := by rw [e12]; exact sUp_ne (by omega) f11_L2
  have f12_UN : s12.2 (cBase k + 6) = some (oTally (z + 11 + 11 + 11 + 11)) := by rw [e12]; exact sUp_ne (by omega) f11_UN
  have f12_HT : s12.2 (cBase k + 7) = some (eQ (cQH k) 3 (uQ hq 1 (t + 8))) := by rw [e12]; exact sUp_same
  have f12_fw : s12.2 t = some (eI k 4845 (fun _ => 0)) := by rw [e12]; exact sUp_ne (by omega) f11_fw
  have f12_A : s12.2 (t + 1) = some (.inr (0, [.ref t, .int (iZ (max 1 (min (costK 1 1 0) 4))), .int (iZ (max 1 (min (costK 1 0 1) 4))), .ref (t + 2), .ref (t + 3), .int (iZ 0)])) := by rw [e12]; exact sUp_ne (by omega) f11_A
  have f12_hv : s12.2 (t + 2) = some (eI k 8 (fun _ => 0)) := by rw [e12]; exact sUp_ne (by omega) f11_hv
  have f12_tk : s12.2 (t + 3) = some (eI k 8 (fun _ => 0)) := by rw [e12]; exact sUp_ne (by omega) f11_tk
  have f12_L : s12.2 (t + 4) = some (.inr (5, [.ref t, .int (iZ (max 1 (min (costK 1 1 0) 4))), .int (iZ (max 1 (min (costK 1 0 1) 4))), .ref (t + 5), .ref (t + 6), .int (iZ 0), .ref (t + 7), .int (iZ 0)])) := by rw [e12]; exact sUp_ne (by omega) f11_L
  have f12_hv2 : s12.2 (t + 5) = some (eI k 8 (fun _ => 0)) := by rw [e12]; exact sUp_ne (by omega) f11_hv2
  have f12_tk2 : s12.2 (t + 6) = some (eI k 8 (fun _ => 0)) := by rw [e12]; exact sUp_ne (by omega) f11_tk2
  have f12_lw : s12.2 (t + 7) = some (eI k 68 (fun _ => 0)) := by rw [e12]; exact sUp_ne (by omega) f11_lw
  have f12_T : s12.2 (t + 8) = some (.inr (4, [.ref t, .ref (t + 9), .ref (t + 1), .ref (t + 4)])) := by rw [e12]; exact sUp_ne (by omega) f11_T
  have f12_kn : s12.2 (t + 9) = some (eI k 4 (fun _ => 0)) := by rw [e12]; exact sUp_ne (by omega) f11_kn
  have g12 : ∀ b, b < t → b ≠ (cBase k + 6) → b ≠ (cBase k + 7) → s12.2 b = σ.2 b := fun b h0 h1 h2 => by rw [e12]; exact sUp_ne (by omega) (g11 b h0 h1 h2)
  clear e12 g11 f11_X f11_LI f11_L0 f11_L1 f11_L2 f11_UN f11_HT f11_fw f11_A f11_hv f11_tk f11_L f11_hv2 f11_tk2 f11_lw f11_T f11_kn z11
  refine r_aload_n S dX11_heapTable_77 rfl ?_
  exact r_aret S dX11_heapTable_78 (by omega) (by omega) (by
    have hcy : (max 1 (min (costK 1 1 0) 4)) = ((cyK 1 : Nat) : Int) := by decide
    have hcn : (max 1 (min (costK 1 0 1) 4)) = ((cnK 1 : Nat) : Int) := by decide
    rw [hcy, hcn] at f12_A f12_L
    try rw [z0]
    exact ⟨_, rfl, rfl, z12, ⟨_, f12_UN⟩, f12_HT, ⟨f12_fw, fun _ => ⟨(by decide : (0 : Int) ≤ 0), (by decide : (0 : Int) ≤ 13)⟩, ⟨_, f12_A⟩, ⟨_, fun _ _ _ => rfl, f12_hv⟩, _, fun _ _ _ => rfl, f12_tk⟩, ⟨⟨0, 0, f12_L⟩, ⟨_, fun _ _ _ => rfl, f12_hv2⟩, ⟨_, fun _ _ _ => rfl, f12_tk2⟩, fun _ => 0, fun _ => (by decide : (0 : Nat) < 65536), f12_lw⟩, f12_T, f12_kn, g12⟩)

set_option maxRecDepth 100000 in
set_option maxHeartbeats 4000000 in
theorem c_spanTableN1 {k : Cx} {L0 : Launch} {σ : St} {tb z : Int} {lq : Nat → Option Nat} (hX : σ.2 (cBase k) = some (oX k tb)) (hLI : σ.2 (cBase k + 1) = some (eQ (cQL k) 3 lq)) (hl0 : lq 0 = some (cBase k + 2)) (hl1 : lq 1 = some (cBase k + 3)) (hl2 : lq 2 = some (cBase k + 4)) (hA0 : σ.2 (cBase k + 2) = some (.inr (6, []))) (hA1 : σ.2 (cBase k + 3) = some (.inr (1, []))) (hA2 : σ.2 (cBase k + 4) = some (.inr (9, []))) (hU : σ.2 (cBase k + 6) = some (oTally z)) (hbs : cBase k + 25 ≤ σ.1) {sq : Nat → Option Nat} (hH : σ.2 (cBase k + 8) = some (eQ (cQS k) 3 sq)) (hno : sq 1 = none) : CtrV k L0 mX11_spanTable 5 2 4100 [.ref (cBase k), .int (iZ 1)] σ (fun v σ' => v = .ref σ.1 ∧ σ'.1 = σ.1 + 2 ∧ (∃ z' : Int, σ'.2 (cBase k + 6) = some (oTally z')) ∧ σ'.2 (cBase k + 8) = some (eQ (cQS k) 3 (uQ sq 1 σ.1)) ∧ σ'.2 σ.1 = some (oSp σ.1 (py 1 : Int) (pn 1 : Int) ((0 : Nat) : Int)) ∧ σ'.2 (σ.1 + 1) = some (eI k 4096 (fun j => ((FsN 1 0 j : Nat) : Int))) ∧ ∀ b, b < σ.1 → b ≠ (cBase k + 6) → b ≠ (cBase k + 8) → σ'.2 b = σ.2 b) := by
  refine Ctr.of (by decide +kernel) rfl (Nat.le_of_ble_eq_true rfl) ?_
  intro κ hl0 S
  subst hl0
  obtain ⟨t, z0⟩ : ∃ t, σ.1 = t := ⟨_, rfl⟩
  rw [z0] at hbs
  have f0_X := hX
  have f0_LI := hLI
  have f0_L0 := hA0
  have f0_L1 := hA1
  have f0_L2 := hA2
  have f0_UN := hU
  have f0_SP := hH
  have g0 : ∀ b, b < t → b ≠ (cBase k + 6) → b ≠ (cBase k + 8) → σ.2 b = σ.2 b := fun _ _ _ _ => rfl
  refine r_aload_n S dX11_spanTable_0 rfl ?_
  refine r_getf S g_RX11_40_10 dX11_spanTable_1 (by repeat (first | assumption | exact sUp_same | exact sNew_same | refine sUp_ne (by first | assumption | omega) ?_)) rfl ?_
  refine r_iload_n S dX11_spanTable_4 rfl ?_
  refine r_aaldN S (1) (t0 := 4) (v := .null) rfl dX11_spanTable_5 (by repeat (first | assumption | exact sUp_same | exact sNew_same | refine sUp_ne (by first | assumption | omega) ?_)) (by rfl) (by omega) (by decide) (by rw [hno]; rfl) ?_
  refine r_astore_nN S dX11_spanTable_6 rfl (by decide) (lv' := [_, _, _]) rfl ?_
  refine r_aload_nN S dX11_spanTable_7 rfl ?_
  refine r_ifnonnullN S dX11_spanTable_8 ?_
  refine r_newO S 4 rfl n_RX11_38 dX11_spanTable_11 (by omega) (by omega) ?_
  refine V.name (fun s1 e1 => ?_)
  have z1 : s1.1 = (t + 1) := by rw [e1]; show σ.1 + 1 = _; rw [z0]
  have f1_X : s1.2 (cBase k) = some (oX k tb) := by rw [e1]; exact sNew_ne (by omega) f0_X
  have f1_LI : s1.2 (cBase k + 1) = some (eQ (cQL k) 3 lq) := by rw [e1]; exact sNew_ne (by omega) f0_LI
  have f1_L0 : s1.2 (cBase k + 2) = some (.inr (6, [])) := by rw [e1]; exact sNew_ne (by omega) f0_L0
  have f1_L1 : s1.2 (cBase k + 3) = some (.inr (1, [])) := by rw [e1]; exact sNew_ne (by omega) f0_L1
  have f1_L2 : s1.2 (cBase k + 4) = some (.inr (9, [])) := by rw [e1]; exact sNew_ne (by omega) f0_L2
  have f1_UN : s1.2 (cBase k + 6) = some (oTally z) := by rw [e1]; exact sNew_ne (by omega) f0_UN
  have f1_SP : s1.2 (cBase k + 8) = some (eQ (cQS k) 3 sq) := by rw [e1]; exact sNew_ne (by omega) f0_SP
  have f1_A : s1.2 t = some (.inr (7, [.int 0, .int 0, .null, .int 0])) := by rw [e1]; exact sNew_at z0
  have g1 : ∀ b, b < t → b ≠ (cBase k + 6) → b ≠ (cBase k + 8) → s1.2 b = σ.2 b := fun b h0 h1 h2 => by rw [e1]; exact sNew_ne (by omega) (g0 b h0 h1 h2)
  rw [z0]
  clear e1 g0 f0_X f0_LI f0_L0 f0_L1 f0_L2 f0_UN f0_SP
  refine r_dup S dX11_spanTable_14 rfl ?_
  refine r_aload_n S dX11_spanTable_15 rfl ?_
  refine r_iload_n S dX11_spanTable_16 rfl ?_
  refine r_callV S (c_yesPrice1 f1_X f1_LI hl0 hl1 hl2 f1_L0 f1_L1 f1_L2 f1_UN) k_mX11_yesPrice c_RX11_72_10 dX11_spanTable_17 (by decide) ⟨by omega, by omega⟩ (by repeat (first | assumption | exact sUp_same | exact sNew_same | refine sUp_ne (by first | assumption | omega) ?_)) rfl rfl (Nat.le_of_ble_eq_true rfl) (fun r σ' hp => ?_)
  obtain ⟨_, rfl, rfl, rfl⟩ := hp
  try simp only [Option.toList_some, Option.toList_none, List.cons_append, List.nil_append]
  refine V.name (fun s2 e2 => ?_)
  have z2 : s2.1 = (t + 1) := by rw [e2]; exact z1
  have f2_X : s2.2 (cBase k) = some (oX k tb) := by rw [e2]; exact sUp_ne (by omega) f1_X
  have f2_LI : s2.2 (cBase k + 1) = some (eQ (cQL k) 3 lq) := by rw [e2]; exact sUp_ne (by omega) f1_LI
  have f2_L0 : s2.2 (cBase k + 2) = some (.inr (6, [])) := by rw [e2]; exact sUp_ne (by omega) f1_L0
  have f2_L1 : s2.2 (cBase k + 3) = some (.inr (1, [])) := by rw [e2]; exact sUp_ne (by omega) f1_L1
  have f2_L2 : s2.2 (cBase k + 4) = some (.inr (9, [])) := by rw [e2]; exact sUp_ne (by omega) f1_L2
  have f2_UN : s2.2 (cBase k + 6) = some (oTally (z + 11)) := by rw [e2]; exact sUp_same
  have f2_SP : s2.2 (cBase k + 8) = some (eQ (cQS k) 3 sq) := by rw [e2]; exact sUp_ne (by omega) f1_SP
  have f2_A : s2.2 t = some (.inr (7, [.int 0, .int 0, .null, .int 0])) := by rw [e2]; exact sUp_ne (by omega) f1_A
  have g2 : ∀ b, b < t → b ≠ (cBase k + 6) → b ≠ (cBase k + 8) → s2.2 b = σ.2 b := fun b h0 h1 h2 => by rw [e2]; exact sUp_ne (by omega) (g1 b h0 h1 h2)
  clear e2 g1 f1_X f1_LI f1_L0 f1_L1 f1_L2 f1_UN f1_SP f1_A z1
  refine r_aload_n S dX11_spanTable_20 rfl ?_
  refine r_iload_n S dX11_spanTable_21 rfl ?_
  refine r_callV S (c_noPrice1 f2_X f2_LI hl0 hl1 hl2 f2_L0 f2_L1 f2_L2 f2_UN) k_mX11_noPrice c_RX11_76_10 dX11_spanTable_22 (by decide) ⟨by omega, by omega⟩ (by repeat (first | assumption | exact sUp_same | exact sNew_same | refine sUp_ne (by first | assumption | omega) ?_)) rfl rfl (Nat.le_of_ble_eq_true rfl) (fun r σ' hp => ?_)
  obtain ⟨_, rfl, rfl, rfl⟩ := hp
  try simp only [Option.toList_some, Option.toList_none, List.cons_append, List.nil_append]
  refine V.name (fun s3 e3 => ?_)
  have z3 : s3.1 = (t + 1) := by rw [e3]; exact z2
  have f3_X : s3.2 (cBase k) = some (oX k tb) := by rw [e3]; exact sUp_ne (by omega) f2_X
  have f3_LI : s3.2 (cBase k + 1) = some (eQ (cQL k) 3 lq) := by rw [e3]; exact sUp_ne (by omega) f2_LI
  have f3_L0 : s3.2 (cBase k + 2) = some (.inr (6, [])) := by rw [e3]; exact sUp_ne (by omega) f2_L0
  have f3_L1 : s3.2 (cBase k + 3) = some (.inr (1, [])) := by rw [e3]; exact sUp_ne (by omega) f2_L1
  have f3_L2 : s3.2 (cBase k + 4) = some (.inr (9, [])) := by rw [e3]; exact sUp_ne (by omega) f2_L2
  have f3_UN : s3.2 (cBase k + 6) = some (oTally (z + 11 + 11)) := by rw [e3]; exact sUp_same
  have f3_SP : s3.2 (cBase k + 8) = some (eQ (cQS k) 3 sq) := by rw [e3]; exact sUp_ne (by omega) f2_SP
  have f3_A : s3.2 t = some (.inr (7, [.int 0, .int 0, .null, .int 0])) := by rw [e3]; exact sUp_ne (by omega) f2_A
  have g3 : ∀ b, b < t → b ≠ (cBase k + 6) → b ≠ (cBase k + 8) → s3.2 b = σ.2 b := fun b h0 h1 h2 => by rw [e3]; exact sUp_ne (by omega) (g2 b h0 h1 h2)
  clear e3 g2 f2_X f2_LI f2_L0 f2_L1 f2_L2 f2_UN f2_SP f2_A z2
  refine r_callI S (c_init8 f3_A (by omega) (costK_rng 1 1 0) (costK_rng 1 0 1)) k_mX8_init c_RX11_229 dX11_spanTable_25 (by decide) ⟨by omega, by omega⟩ rfl rfl (Nat.le_of_ble_eq_true rfl) (fun r s4 hp => ?_)
  rw [z3] at hp
  obtain ⟨rfl, zz4, f4_A, f4_fw, gg4⟩ := hp
  have z4 : s4.1 = (t + 2) := by omega
  have f4_X : s4.2 (cBase k) = some (oX k tb) := (gg4 _ (by omega) (by omega)).trans f3_X
  have f4_LI : s4.2 (cBase k + 1) = some (eQ (cQL k) 3 lq) := (gg4 _ (by omega) (by omega)).trans f3_LI
  have f4_L0 : s4.2 (cBase k + 2) = some (.inr (6, [])) := (gg4 _ (by omega) (by omega)).trans f3_L0
  have f4_L1 : s4.2 (cBase k + 3) = some (.inr (1, [])) := (gg4 _ (by omega) (by omega)).trans f3_L1
  have f4_L2 : s4.2 (cBase k + 4) = some (.inr (9, [])) := (gg4 _ (by omega) (by omega)).trans f3_L2
  have f4_UN : s4.2 (cBase k + 6) = some (oTally (z + 11 + 11)) := (gg4 _ (by omega) (by omega)).trans f3_UN
  have f4_SP : s4.2 (cBase k + 8) = some (eQ (cQS k) 3 sq) := (gg4 _ (by omega) (by omega)).trans f3_SP
  have g4 : ∀ b, b < t → b ≠ (cBase k + 6) → b ≠ (cBase k + 8) → s4.2 b = σ.2 b := fun b h0 h1 h2 => (gg4 b (by omega) (by omega)).trans (g3 b h0 h1 h2)
  clear gg4 zz4 g3 f3_X f3_LI f3_L0 f3_L1 f3_L2 f3_UN f3_SP f3_A z3
  try simp only [Option.toList_some, Option.toList_none, List.cons_append, List.nil_append]
  refine r_astore_n S dX11_spanTable_28 rfl (by decide) (lv' := [_, _, _]) rfl ?_
  refine r_aload_n S dX11_spanTable_29 rfl ?_
  refine r_getf S g_RX11_40_10 dX11_spanTable_30 (by repeat (first | assumption | exact sUp_same | exact sNew_same | refine sUp_ne (by first | assumption | omega) ?_)) rfl ?_
  refine r_iload_n S dX11_spanTable_33 rfl ?_
  refine r_aload_n S dX11_spanTable_34 rfl ?_
  refine r_aast S (t0 := 4) (ci := 7) (cj := 7) rfl rfl rfl (Or.inl rfl) dX11_spanTable_35 (by repeat (first | assumption | exact sUp_same | exact sNew_same | refine sUp_ne (by first | assumption | omega) ?_)) ⟨by omega, by omega⟩ (by decide) (by repeat (first | assumption | exact sUp_same | exact sNew_same | refine sUp_ne (by first | assumption | omega) ?_)) ?_
  refine V.name (fun s5 e5 => ?_)
  have z5 : s5.1 = (t + 2) := by rw [e5]; exact z4
  have f5_X : s5.2 (cBase k) = some (oX k tb) := by rw [e5]; exact sUp_ne (by omega) f4_X
  have f5_LI : s5.2 (cBase k + 1) = some (eQ (cQL k) 3 lq) := by rw [e5]; exact sUp_ne (by omega) f4_LI
  have f5_L0 : s5.2 (cBase k + 2) = some (.inr (6, [])) := by rw [e5]; exact sUp_ne (by omega) f4_L0
  have f5_L1 : s5.2 (cBase k + 3) = some (.inr (1, [])) := by rw [e5]; exact sUp_ne (by omega) f4_L1
  have f5_L2 : s5.2 (cBase k + 4) = some (.inr (9, [])) := by rw [e5]; exact sUp_ne (by omega) f4_L2
  have f5_UN : s5.2 (cBase k + 6) = some (oTally (z + 11 + 11)) := by rw [e5]; exact sUp_ne (by omega) f4_UN
  have f5_SP : s5.2 (cBase k + 8) = some (eQ (cQS k) 3 (uQ sq 1 t)) := by rw [e5]; exact sUp_same
  have f5_A : s5.2 t = some (.inr (7, [.int (iZ (min (costK 1 1 0) 3)), .int (iZ (min (costK 1 0 1) 3)), .ref (t + 1), .int (iZ 0)])) := by rw [e5]; exact sUp_ne (by omega) f4_A
  have f5_fw : s5.2 (t + 1) = some (eI k 4096 (fun _ => 0)) := by rw [e5]; exact sUp_ne (by omega) f4_fw
  have g5 : ∀ b, b < t → b ≠ (cBase k + 6) → b ≠ (cBase k + 8) → s5.2 b = σ.2 b := fun b h0 h1 h2 => by rw [e5]; exact sUp_ne (by omega) (g4 b h0 h1 h2)
  clear e5 g4 f4_X f4_LI f4_L0 f4_L1 f4_L2 f4_UN f4_SP f4_A f4_fw z4
  refine r_aload_n S dX11_spanTable_36 rfl ?_
  exact r_aret S dX11_spanTable_37 (by omega) (by omega) (by
    have hcy : (min (costK 1 1 0) 3) = ((py 1 : Nat) : Int) := by decide
    have hcn : (min (costK 1 0 1) 3) = ((pn 1 : Nat) : Int) := by decide
    rw [hcy, hcn] at f5_A
    try rw [z0]
    exact ⟨_, rfl, rfl, z5, ⟨_, f5_UN⟩, f5_SP, f5_A, by rw [FsN_0]; exact f5_fw, g5⟩)

set_option maxRecDepth 100000 in
set_option maxHeartbeats 4000000 in
theorem c_heapTableN2 {k : Cx} {L0 : Launch} {σ : St} {tb z : Int} {lq : Nat → Option Nat} (hX : σ.2 (cBase k) = some (oX k tb)) (hLI : σ.2 (cBase k + 1) = some (eQ (cQL k) 3 lq)) (hl0 : lq 0 = some (cBase k + 2)) (hl1 : lq 1 = some (cBase k + 3)) (hl2 : lq 2 = some (cBase k + 4)) (hA0 : σ.2 (cBase k + 2) = some (.inr (6, []))) (hA1 : σ.2 (cBase k + 3) = some (.inr (1, []))) (hA2 : σ.2 (cBase k + 4) = some (.inr (9, []))) (hU : σ.2 (cBase k + 6) = some (oTally z)) (hbs : cBase k + 25 ≤ σ.1) {hq : Nat → Option Nat} (hH : σ.2 (cBase k + 7) = some (eQ (cQH k) 3 hq)) (hno : hq 2 = none) : CtrV k L0 mX11_heapTable 5 10 4967 [.ref (cBase k), .int (iZ 2)] σ (fun v σ' => v = .ref (σ.1 + 8) ∧ σ'.1 = σ.1 + 10 ∧ (∃ z' : Int, σ'.2 (cBase k + 6) = some (oTally z')) ∧ σ'.2 (cBase k + 7) = some (eQ (cQH k) 3 (uQ hq 2 (σ.1 + 8))) ∧ Tb k σ' σ.1 (cyK 2) (cnK 2) (fun _ => 0) ∧ Tl k σ' σ.1 (cyK 2) (cnK 2) ∧ σ'.2 (σ.1 + 8) = some (oHT σ.1) ∧ σ'.2 (σ.1 + 9) = some (eI k 4 (fun _ => 0)) ∧ ∀ b, b < σ.1 → b ≠ (cBase k + 6) → b ≠ (cBase k + 7) → σ'.2 b = σ.2 b) := by
  refine Ctr.of (by decide +kernel) rfl (Nat.le_of_ble_eq_true rfl) ?_
  intro κ hl0 S
  subst hl0
  obtain ⟨t, z0⟩ : ∃ t, σ.1 = t := ⟨_, rfl⟩
  rw [z0] at hbs
  have f0_X := hX
  have f0_LI := hLI
  have f0_L0 := hA0
  have f0_L1 := hA1
  have f0_L2 := hA2
  have f0_UN := hU
  have f0_HT := hH
  have g0 : ∀ b, b < t → b ≠ (cBase k + 6) → b ≠ (cBase k + 7) → σ.2 b = σ.2 b := fun _ _ _ _ => rfl
  refine r_aload_n S dX11_heapTable_0 rfl ?_
  refine r_getf S g_RX11_34_10 dX11_heapTable_1 (by repeat (first | assumption | exact sUp_same | exact sNew_same | refine sUp_ne (by first | assumption | omega) ?_)) rfl ?_
  refine r_iload_n S dX11_heapTable_4 rfl ?_
  refine r_aaldN S (2) (t0 := 3) (v := .null) rfl dX11_heapTable_5 (by repeat (first | assumption | exact sUp_same | exact sNew_same | refine sUp_ne (by first | assumption | omega) ?_)) (by rfl) (by omega) (by decide) (by rw [hno]; rfl) ?_
  refine r_astore_nN S dX11_heapTable_6 rfl (by decide) (lv' := [_, _, _, _, _, _]) rfl ?_
  refine r_aload_nN S dX11_heapTable_7 rfl ?_
  refine r_ifnonnullN S dX11_heapTable_8 ?_
  refine r_sipush S dX11_heapTable_11 (by decide) ?_
  refine r_newIN S (4845) (by omega) wd_134 dX11_heapTable_14 (by omega) (by omega) (by omega) ?_
  refine V.name (fun s1 e1 => ?_)
  have z1 : s1.1 = (t + 1) := by rw [e1]; show σ.1 + 1 = _; rw [z0]
  have f1_X : s1.2 (cBase k) = some (oX k tb) := by rw [e1]; exact sNew_ne (by omega) f0_X
  have f1_LI : s1.2 (cBase k + 1) = some (eQ (cQL k) 3 lq) := by rw [e1]; exact sNew_ne (by omega) f0_LI
  have f1_L0 : s1.2 (cBase k + 2) = some (.inr (6, [])) := by rw [e1]; exact sNew_ne (by omega) f0_L0
  have f1_L1 : s1.2 (cBase k + 3) = some (.inr (1, [])) := by rw [e1]; exact sNew_ne (by omega) f0_L1
  have f1_L2 : s1.2 (cBase k + 4) = some (.inr (9, [])) := by rw [e1]; exact sNew_ne (by omega) f0_L2
  have f1_UN : s1.2 (cBase k + 6) = some (oTally z) := by rw [e1]; exact sNew_ne (by omega) f0_UN
  have f1_HT : s1.2 (cBase k + 7) = some (eQ (cQH k) 3 hq) := by rw [e1]; exact sNew_ne (by omega) f0_HT
  have f1_fw : s1.2 t = some (eI k 4845 (fun _ => 0)) := by rw [e1]; exact sNew_at z0
  have g1 : ∀ b, b < t → b ≠ (cBase k + 6) → b ≠ (cBase k + 7) → s1.2 b = σ.2 b := fun b h0 h1 h2 => by rw [e1]; exact sNew_ne (by omega) (g0 b h0 h1 h2)
  rw [z0]
  clear e1 g0 f0_X f0_LI f0_L0 f0_L1 f0_L2 f0_UN f0_HT
  refine r_astore_n S dX11_heapTable_16 rfl (by decide) (lv' := [_, _, _, _, _, _]) rfl ?_
  refine r_newO S 6 rfl n_RX11_218 dX11_heapTable_17 (by omega) (by omega) ?_
  refine V.name (fun s2 e2 => ?_)
  have z2 : s2.1 = (t + 2) := by rw [e2]; show s1.1 + 1 = _; rw [z1]
  have f2_X : s2.2 (cBase k) = some (oX k tb) := by rw [e2]; exact sNew_ne (by omega) f1_X
  have f2_LI : s2.2 (cBase k + 1) = some (eQ (cQL k) 3 lq) := by rw [e2]; exact sNew_ne (by omega) f1_LI
  have f2_L0 : s2.2 (cBase k + 2) = some (.inr (6, [])) := by rw [e2]; exact sNew_ne (by omega) f1_L0
  have f2_L1 : s2.2 (cBase k + 3) = some (.inr (1, [])) := by rw [e2]; exact sNew_ne (by omega) f1_L1
  have f2_L2 : s2.2 (cBase k + 4) = some (.inr (9, [])) := by rw [e2]; exact sNew_ne (by omega) f1_L2
  have f2_UN : s2.2 (cBase k + 6) = some (oTally z) := by rw [e2]; exact sNew_ne (by omega) f1_UN
  have f2_HT : s2.2 (cBase k + 7) = some (eQ (cQH k) 3 hq) := by rw [e2]; exact sNew_ne (by omega) f1_HT
  have f2_fw : s2.2 t = some (eI k 4845 (fun _ => 0)) := by rw [e2]; exact sNew_ne (by omega) f1_fw
  have f2_A : s2.2 (t + 1) = some (.inr (0, [.null, .int 0, .int 0, .null, .null, .int 0])) := by rw [e2]; exact sNew_at z1
  have g2 : ∀ b, b < t → b ≠ (cBase k + 6) → b ≠ (cBase k + 7) → s2.2 b = σ.2 b := fun b h0 h1 h2 => by rw [e2]; exact sNew_ne (by omega) (g1 b h0 h1 h2)
  rw [z1]
  clear e2 g1 f1_X f1_LI f1_L0 f1_L1 f1_L2 f1_UN f1_HT f1_fw z1
  refine r_dup S dX11_heapTable_20 rfl ?_
  refine r_aload_n S dX11_heapTable_21 rfl ?_
  refine r_aload_n S dX11_heapTable_22 rfl ?_
  refine r_iload_n S dX11_heapTable_23 rfl ?_
  refine r_callV S (c_yesPrice2 f2_X f2_LI hl0 hl1 hl2 f2_L0 f2_L1 f2_L2 f2_UN) k_mX11_yesPrice c_RX11_72_10 dX11_heapTable_24 (by decide) ⟨by omega, by omega⟩ (by repeat (first | assumption | exact sUp_same | exact sNew_same | refine sUp_ne (by first | assumption | omega) ?_)) rfl rfl (Nat.le_of_ble_eq_true rfl) (fun r σ' hp => ?_)
  obtain ⟨_, rfl, rfl, rfl⟩ := hp
  try simp only [Option.toList_some, Option.toList_none, List.cons_append, List.nil_append]
  refine V.name (fun s3 e3 => ?_)
  have z3 : s3.1 = (t + 2) := by rw [e3]; exact z2
  have f3_X : s3.2 (cBase k) = some (oX k tb) := by rw [e3]; exact sUp_ne (by omega) f2_X
  have f3_LI : s3.2 (cBase k + 1) = some (eQ (cQL k) 3 lq) := by rw [e3]; exact sUp_ne (by omega) f2_LI
  have f3_L0 : s3.2 (cBase k + 2) = some (.inr (6, [])) := by rw [e3]; exact sUp_ne (by omega) f2_L0
  have f3_L1 : s3.2 (cBase k + 3) = some (.inr (1, [])) := by rw [e3]; exact sUp_ne (by omega) f2_L1
  have f3_L2 : s3.2 (cBase k + 4) = some (.inr (9, [])) := by rw [e3]; exact sUp_ne (by omega) f2_L2
  have f3_UN : s3.2 (cBase k + 6) = some (oTally (z + 111)) := by rw [e3]; exact sUp_same
  have f3_HT : s3.2 (cBase k + 7) = some (eQ (cQH k) 3 hq) := by rw [e3]; exact sUp_ne (by omega) f2_HT
  have f3_fw : s3.2 t = some (eI k 4845 (fun _ => 0)) := by rw [e3]; exact sUp_ne (by omega) f2_fw
  have f3_A : s3.2 (t + 1) = some (.inr (0, [.null, .int 0, .int 0, .null, .null, .int 0])) := by rw [e3]; exact sUp_ne (by omega) f2_A
  have g3 : ∀ b, b < t → b ≠ (cBase k + 6) → b ≠ (cBase k + 7) → s3.2 b = σ.2 b := fun b h0 h1 h2 => by rw [e3]; exact sUp_ne (by omega) (g2 b h0 h1 h2)
  clear e3 g2 f2_X f2_LI f2_L0 f2_L1 f2_L2 f2_UN f2_HT f2_fw f2_A z2
  refine r_aload_n S dX11_heapTable_27 rfl ?_
  refine r_iload_n S dX11_heapTable_28 rfl ?_
  refine r_callV S (c_noPrice2 f3_X f3_LI hl0 hl1 hl2 f3_L0 f3_L1 f3_L2 f3_UN) k_mX11_noPrice c_RX11_76_10 dX11_heapTable_29 (by decide) ⟨by omega, by omega⟩ (by repeat (first | assumption | exact sUp_same | exact sNew_same | refine sUp_ne (by first | assumption | omega) ?_)) rfl rfl (Nat.le_of_ble_eq_true rfl) (fun r σ' hp => ?_)
  obtain ⟨_, rfl, rfl, rfl⟩ := hp
  try simp only [Option.toList_some, Option.toList_none, List.cons_append, List.nil_append]
  refine V.name (fun s4 e4 => ?_)
  have z4 : s4.1 = (t + 2) := by rw [e4]; exact z3
  have f4_X : s4.2 (cBase k) = some (oX k tb) := by rw [e4]; exact sUp_ne (by omega) f3_X
  have f4_LI : s4.2 (cBase k + 1) = some (eQ (cQL k) 3 lq) := by rw [e4]; exact sUp_ne (by omega) f3_LI
  have f4_L0 : s4.2 (cBase k + 2) = some (.inr (6, [])) := by rw [e4]; exact sUp_ne (by omega) f3_L0
  have f4_L1 : s4.2 (cBase k + 3) = some (.inr (1, [])) := by rw [e4]; exact sUp_ne (by omega) f3_L1
  have f4_L2 : s4.2 (cBase k + 4) = some (.inr (9, [])) := by rw [e4]; exact sUp_ne (by omega) f3_L2
  have f4_UN : s4.2 (cBase k + 6) = some (oTally (z + 111 + 111)) := by rw [e4]; exact sUp_same
  have f4_HT : s4.2 (cBase k + 7) = some (eQ (cQH k) 3 hq) := by rw [e4]; exact sUp_ne (by omega) f3_HT
  have f4_fw : s4.2 t = some (eI k 4845 (fun _ => 0)) := by rw [e4]; exact sUp_ne (by omega) f3_fw
  have f4_A : s4.2 (t + 1) = some (.inr (0, [.null, .int 0, .int 0, .null, .null, .int 0])) := by rw [e4]; exact sUp_ne (by omega) f3_A
  have g4 : ∀ b, b < t → b ≠ (cBase k + 6) → b ≠ (cBase k + 7) → s4.2 b = σ.2 b := fun b h0 h1 h2 => by rw [e4]; exact sUp_ne (by omega) (g3 b h0 h1 h2)
  clear e4 g3 f3_X f3_LI f3_L0 f3_L1 f3_L2 f3_UN f3_HT f3_fw f3_A z3
  refine r_callI S (c_init0 f4_A (by omega) (costK_rng 2 1 0) (costK_rng 2 0 1)) k_mX0_init c_RX11_220 dX11_heapTable_32 (by decide) ⟨by omega, by omega⟩ rfl rfl (Nat.le_of_ble_eq_true rfl) (fun r s5 hp => ?_)
  rw [z4] at hp
  obtain ⟨rfl, zz5, f5_A, f5_hv, f5_tk, gg5⟩ := hp
  have z5 : s5.1 = (t + 4) := by omega
  have f5_X : s5.2 (cBase k) = some (oX k tb) := (gg5 _ (by omega) (by omega)).trans f4_X
  have f5_LI : s5.2 (cBase k + 1) = some (eQ (cQL k) 3 lq) := (gg5 _ (by omega) (by omega)).trans f4_LI
  have f5_L0 : s5.2 (cBase k + 2) = some (.inr (6, [])) := (gg5 _ (by omega) (by omega)).trans f4_L0
  have f5_L1 : s5.2 (cBase k + 3) = some (.inr (1, [])) := (gg5 _ (by omega) (by omega)).trans f4_L1
  have f5_L2 : s5.2 (cBase k + 4) = some (.inr (9, [])) := (gg5 _ (by omega) (by omega)).trans f4_L2
  have f5_UN : s5.2 (cBase k + 6) = some (oTally (z + 111 + 111)) := (gg5 _ (by omega) (by omega)).trans f4_UN
  have f5_HT : s5.2 (cBase k + 7) = some (eQ (cQH k) 3 hq) := (gg5 _ (by omega) (by omega)).trans f4_HT
  have f5_fw : s5.2 t = some (eI k 4845 (fun _ => 0)) := (gg5 _ (by omega) (by omega)).trans f4_fw
  have g5 : ∀ b, b < t → b ≠ (cBase k + 6) → b ≠ (cBase k + 7) → s5.2 b = σ.2 b := fun b h0 h1 h2 => (gg5 b (by omega) (by omega)).trans (g4 b h0 h1 h2)
  clear gg5 zz5 g4 f4_X f4_LI f4_L0 f4_L1 f4_L2 f4_UN f4_HT f4_fw f4_A z4
  try simp only [Option.toList_some, Option.toList_none, List.cons_append, List.nil_append]
  refine r_astore S dX11_heapTable_35 rfl (by decide) (lv' := [_, _, _, _, _, _]) rfl ?_
  refine r_newO S 8 rfl n_RX11_223 dX11_heapTable_37 (by omega) (by omega) ?_
  refine V.name (fun s6 e6 => ?_)
  have z6 : s6.1 = (t + 5) := by rw [e6]; show s5.1 + 1 = _; rw [z5]
  have f6_X : s6.2 (cBase k) = some (oX k tb) := by rw [e6]; exact sNew_ne (by omega) f5_X
  have f6_LI : s6.2 (cBase k + 1) = some (eQ (cQL k) 3 lq) := by rw [e6]; exact sNew_ne (by omega) f5_LI
  have f6_L0 : s6.2 (cBase k + 2) = some (.inr (6, [])) := by rw [e6]; exact sNew_ne (by omega) f5_L0
  have f6_L1 : s6.2 (cBase k + 3) = some (.inr (1, [])) := by rw [e6]; exact sNew_ne (by omega) f5_L1
  have f6_L2 : s6.2 (cBase k + 4) = some (.inr (9, [])) := by rw [e6]; exact sNew_ne (by omega) f5_L2
  have f6_UN : s6.2 (cBase k + 6) = some (oTally (z + 111 + 111)) := by rw [e6]; exact sNew_ne (by omega) f5_UN
  have f6_HT : s6.2 (cBase k + 7) = some (eQ (cQH k) 3 hq) := by rw [e6]; exact sNew_ne (by omega) f5_HT
  have f6_fw : s6.2 t = some (eI k 4845 (fun _ => 0)) := by rw [e6]; exact sNew_ne (by omega) f5_fw
  have f6_A : s6.2 (t + 1) = some (.inr (0, [.ref t, .int (iZ (max 1 (min (costK 2 1 0) 4))), .int (iZ (max 1 (min (costK 2 0 1) 4))), .ref (t + 2), .ref (t + 3), .int (iZ 0)])) := by rw [e6]; exact sNew_ne (by omega) f5_A
  have f6_hv : s6.2 (t + 2) = some (eI k 8 (fun _ => 0)) := by rw [e6]; exact sNew_ne (by omega) f5_hv
  have f6_tk : s6.2 (t + 3) = some (eI k 8 (fun _ => 0)) := by rw [e6]; exact sNew_ne (by omega) f5_tk
  have f6_L : s6.2 (t + 4) = some (.inr (5, [.null, .int 0, .int 0, .null, .null, .int 0, .null, .int 0])) := by rw [e6]; exact sNew_at z5
  have g6 : ∀ b, b < t → b ≠ (cBase k + 6) → b ≠ (cBase k + 7) → s6.2 b = σ.2 b := fun b h0 h1 h2 => by rw [e6]; exact sNew_ne (by omega) (g5 b h0 h1 h2)
  rw [z5]
  clear e6 g5 f5_X f5_LI f5_L0 f5_L1 f5_L2 f5_UN f5_HT f5_fw f5_A f5_hv f5_tk z5
  refine r_dup S dX11_heapTable_40 rfl ?_
  refine r_aload_n S dX11_heapTable_41 rfl ?_
  refine r_aload_n S dX11_heapTable_42 rfl ?_
  refine r_iload_n S dX11_heapTable_43 rfl ?_
  refine r_callV S (c_yesPrice2 f6_X f6_LI hl0 hl1 hl2 f6_L0 f6_L1 f6_L2 f6_UN) k_mX11_yesPrice c_RX11_72_10 dX11_heapTable_44 (by decide) ⟨by omega, by omega⟩ (by repeat (first | assumption | exact sUp_same | exact sNew_same | refine sUp_ne (by first | assumption | omega) ?_)) rfl rfl (Nat.le_of_ble_eq_true rfl) (fun r σ' hp => ?_)
  obtain ⟨_, rfl, rfl, rfl⟩ := hp
  try simp only [Option.toList_some, Option.toList_none, List.cons_append, List.nil_append]
  refine V.name (fun s7 e7 => ?_)
  have z7 : s7.1 = (t + 5) := by rw [e7]; exact z6
  have f7_X : s7.2 (cBase k) = some (oX k tb) := by rw [e7]; exact sUp_ne (by omega) f6_X
  have f7_LI : s7.2 (cBase k + 1) = some (eQ (cQL k) 3 lq) := by rw [e7]; exact sUp_ne (by omega) f6_LI
  have f7_L0 : s7.2 (cBase k + 2) = some (.inr (6, [])) := by rw [e7]; exact sUp_ne (by omega) f6_L0
  have f7_L1 : s7.2 (cBase k + 3) = some (.inr (1, [])) := by rw [e7]; exact sUp_ne (by omega) f6_L1
  have f7_L2 : s7.2 (cBase k + 4) = some (.inr (9, [])) := by rw [e7]; exact sUp_ne (by omega) f6_L2
  have f7_UN : s7.2 (cBase k + 6) = some (oTally (z + 111 + 111 + 111)) := by rw [e7]; exact sUp_same
  have f7_HT : s7.2 (cBase k + 7) = some (eQ (cQH k) 3 hq) := by rw [e7]; exact sUp_ne (by omega) f6_HT
  have f7_fw : s7.2 t = some (eI k 4845 (fun _ => 0)) := by rw [e7]; exact sUp_ne (by omega) f6_fw
  have f7_A : s7.2 (t + 1) = some (.inr (0, [.ref t, .int (iZ (max 1 (min (costK 2 1 0) 4))), .int (iZ (max 1 (min (costK 2 0 1) 4))), .ref (t + 2), .ref (t + 3), .int (iZ 0)])) := by rw [e7]; exact sUp_ne (by omega) f6_A
  have f7_hv : s7.2 (t + 2) = some (eI k 8 (fun _ => 0)) := by rw [e7]; exact sUp_ne (by omega) f6_hv
  have f7_tk : s7.2 (t + 3) = some (eI k 8 (fun _ => 0)) := by rw [e7]; exact sUp_ne (by omega) f6_tk
  have f7_L : s7.2 (t + 4) = some (.inr (5, [.null, .int 0, .int 0, .null, .null, .int 0, .null, .int 0])) := by rw [e7]; exact sUp_ne (by omega) f6_L
  have g7 : ∀ b, b < t → b ≠ (cBase k + 6) → b ≠ (cBase k + 7) → s7.2 b = σ.2 b := fun b h0 h1 h2 => by rw [e7]; exact sUp_ne (by omega) (g6 b h0 h1 h2)
  clear e7 g6 f6_X f6_LI f6_L0 f6_L1 f6_L2 f6_UN f6_HT f6_fw f6_A f6_hv f6_tk f6_L z6
  refine r_aload_n S dX11_heapTable_47 rfl ?_
  refine r_iload_n S dX11_heapTable_48 rfl ?_
  refine r_callV S (c_noPrice2 f7_X f7_LI hl0 hl1 hl2 f7_L0 f7_L1 f7_L2 f7_UN) k_mX11_noPrice c_RX11_76_10 dX11_heapTable_49 (by decide) ⟨by omega, by omega⟩ (by repeat (first | assumption | exact sUp_same | exact sNew_same | refine sUp_ne (by first | assumption | omega) ?_)) rfl rfl (Nat.le_of_ble_eq_true rfl) (fun r σ' hp => ?_)
  obtain ⟨_, rfl, rfl, rfl⟩ := hp
  try simp only [Option.toList_some, Option.toList_none, List.cons_append, List.nil_append]
  refine V.name (fun s8 e8 => ?_)
  have z8 : s8.1 = (t + 5) := by rw [e8]; exact z7
  have f8_X : s8.2 (cBase k) = some (oX k tb) := by rw [e8]; exact sUp_ne (by omega) f7_X
  have f8_LI : s8.2 (cBase k + 1) = some (eQ (cQL k) 3 lq) := by rw [e8]; exact sUp_ne (by omega) f7_LI
  have f8_L0 : s8.2 (cBase k + 2) = some (.inr (6, [])) := by rw [e8]; exact sUp_ne (by omega) f7_L0
  have f8_L1 : s8.2 (cBase k + 3) = some (.inr (1, [])) := by rw [e8]; exact sUp_ne (by omega) f7_L1
  have f8_L2 : s8.2 (cBase k + 4) = some (.inr (9, [])) := by rw [e8]; exact sUp_ne (by omega) f7_L2
  have f8_UN : s8.2 (cBase k + 6) = some (oTally (z + 111 + 111 + 111 + 111)) := by rw [e8]; exact sUp_same
  have f8_HT : s8.2 (cBase k + 7) = some (eQ (cQH k) 3 hq) := by rw [e8]; exact sUp_ne (by omega) f7_HT
  have f8_fw : s8.2 t = some (eI k 4845 (fun _ => 0)) := by rw [e8]; exact sUp_ne (by omega) f7_fw
  have f8_A : s8.2 (t + 1) = some (.inr (0, [.ref t, .int (iZ (max 1 (min (costK 2 1 0) 4))), .int (iZ (max 1 (min (costK 2 0 1) 4))), .ref (t + 2), .ref (t + 3), .int (iZ 0)])) := by rw [e8]; exact sUp_ne (by omega) f7_A
  have f8_hv : s8.2 (t + 2) = some (eI k 8 (fun _ => 0)) := by rw [e8]; exact sUp_ne (by omega) f7_hv
  have f8_tk : s8.2 (t + 3) = some (eI k 8 (fun _ => 0)) := by rw [e8]; exact sUp_ne (by omega) f7_tk
  have f8_L : s8.2 (t + 4) = some (.inr (5, [.null, .int 0, .int 0, .null, .null, .int 0, .null, .int 0])) := by rw [e8]; exact sUp_ne (by omega) f7_L
  have g8 : ∀ b, b < t → b ≠ (cBase k + 6) → b ≠ (cBase k + 7) → s8.2 b = σ.2 b := fun b h0 h1 h2 => by rw [e8]; exact sUp_ne (by omega) (g7 b h0 h1 h2)
  clear e8 g7 f7_X f7_LI f7_L0 f7_L1 f7_L2 f7_UN f7_HT f7_fw f7_A f7_hv f7_tk f7_L z7
  refine r_callI S (c_init6 f8_L (by omega) (costK_rng 2 1 0) (costK_rng 2 0 1)) k_mX6_init c_RX11_225 dX11_heapTable_52 (by decide) ⟨by omega, by omega⟩ rfl rfl (Nat.le_of_ble_eq_true rfl) (fun r s9 hp => ?_)
  rw [z8] at hp
  obtain ⟨rfl, zz9, f9_L, f9_hv2, f9_tk2, f9_lw, gg9⟩ := hp
  have z9 : s9.1 = (t + 8) := by omega
  have f9_X : s9.2 (cBase k) = some (oX k tb) := (gg9 _ (by omega) (by omega)).trans f8_X
  have f9_LI : s9.2 (cBase k + 1) = some (eQ (cQL k) 3 lq) := (gg9 _ (by omega) (by omega)).trans f8_LI
  have f9_L0 : s9.2 (cBase k + 2) = some (.inr (6, [])) := (gg9 _ (by omega) (by omega)).trans f8_L0
  have f9_L1 : s9.2 (cBase k + 3) = some (.inr (1, [])) := (gg9 _ (by omega) (by omega)).trans f8_L1
  have f9_L2 : s9.2 (cBase k + 4) = some (.inr (9, [])) := (gg9 _ (by omega) (by omega)).trans f8_L2
  have f9_UN : s9.2 (cBase k + 6) = some (oTally (z + 111 + 111 + 111 + 111)) := (gg9 _ (by omega) (by omega)).trans f8_UN
  have f9_HT : s9.2 (cBase k + 7) = some (eQ (cQH k) 3 hq) := (gg9 _ (by omega) (by omega)).trans f8_HT
  have f9_fw : s9.2 t = some (eI k 4845 (fun _ => 0)) := (gg9 _ (by omega) (by omega)).trans f8_fw
  have f9_A : s9.2 (t + 1) = some (.inr (0, [.ref t, .int (iZ (max 1 (min (costK 2 1 0) 4))), .int (iZ (max 1 (min (costK 2 0 1) 4))), .ref (t + 2), .ref (t + 3), .int (iZ 0)])) := (gg9 _ (by omega) (by omega)).trans f8_A
  have f9_hv : s9.2 (t + 2) = some (eI k 8 (fun _ => 0)) := (gg9 _ (by omega) (by omega)).trans f8_hv
  have f9_tk : s9.2 (t + 3) = some (eI k 8 (fun _ => 0)) := (gg9 _ (by omega) (by omega)).trans f8_tk
  have g9 : ∀ b, b < t → b ≠ (cBase k + 6) → b ≠ (cBase k + 7) → s9.2 b = σ.2 b := fun b h0 h1 h2 => (gg9 b (by omega) (by omega)).trans (g8 b h0 h1 h2)
  clear gg9 zz9 g8 f8_X f8_LI f8_L0 f8_L1 f8_L2 f8_UN f8_HT f8_fw f8_A f8_hv f8_tk f8_L z8
  try simp only [Option.toList_some, Option.toList_none, List.cons_append, List.nil_append]
  refine r_astore S dX11_heapTable_55 rfl (by decide) (lv' := [_, _, _, _, _, _]) rfl ?_
  refine r_newO S 4 rfl n_RX11_32 dX11_heapTable_57 (by omega) (by omega) ?_
  refine V.name (fun s10 e10 => ?_)
  have z10 : s10.1 = (t + 9) := by rw [e10]; show s9.1 + 1 = _; rw [z9]
  have f10_X : s10.2 (cBase k) = some (oX k tb) := by rw [e10]; exact sNew_ne (by omega) f9_X
  have f10_LI : s10.2 (cBase k + 1) = some (eQ (cQL k) 3 lq) := by rw [e10]; exact sNew_ne (by omega) f9_LI
  have f10_L0 : s10.2 (cBase k + 2) = some (.inr (6, [])) := by rw [e10]; exact sNew_ne (by omega) f9_L0
  have f10_L1 : s10.2 (cBase k + 3) = some (.inr (1, [])) := by rw [e10]; exact sNew_ne (by omega) f9_L1
  have f10_L2 : s10.2 (cBase k + 4) = some (.inr (9, [])) := by rw [e10]; exact sNew_ne (by omega) f9_L2
  have f10_UN : s10.2 (cBase k + 6) = some (oTally (z + 111 + 111 + 111 + 111)) := by rw [e10]; exact sNew_ne (by omega) f9_UN
  have f10_HT : s10.2 (cBase k + 7) = some (eQ (cQH k) 3 hq) := by rw [e10]; exact sNew_ne (by omega) f9_HT
  have f10_fw : s10.2 t = some (eI k 4845 (fun _ => 0)) := by rw [e10]; exact sNew_ne (by omega) f9_fw
  have f10_A : s10.2 (t + 1) = some (.inr (0, [.ref t, .int (iZ (max 1 (min (costK 2 1 0) 4))), .int (iZ (max 1 (min (costK 2 0 1) 4))), .ref (t + 2), .ref (t + 3), .int (iZ 0)])) := by rw [e10]; exact sNew_ne (by omega) f9_A
  have f10_hv : s10.2 (t + 2) = some (eI k 8 (fun _ => 0)) := by rw [e10]; exact sNew_ne (by omega) f9_hv
  have f10_tk : s10.2 (t + 3) = some (eI k 8 (fun _ => 0)) := by rw [e10]; exact sNew_ne (by omega) f9_tk
  have f10_L : s10.2 (t + 4) = some (.inr (5, [.ref t, .int (iZ (max 1 (min (costK 2 1 0) 4))), .int (iZ (max 1 (min (costK 2 0 1) 4))), .ref (t + 5), .ref (t + 6), .int (iZ 0), .ref (t + 7), .int (iZ 0)])) := by rw [e10]; exact sNew_ne (by omega) f9_L
  have f10_hv2 : s10.2 (t + 5) = some (eI k 8 (fun _ => 0)) := by rw [e10]; exact sNew_ne (by omega) f9_hv2
  have f10_tk2 : s10.2 (t + 6) = some (eI k 8 (fun _ => 0)) := by rw [e10]; exact sNew_ne (by omega) f9_tk2
  have f10_lw : s10.2 (t + 7) = some (eI k 68 (fun _ => 0)) := by rw [e10]; exact sNew_ne (by omega) f9_lw
  have f10_T : s10.2 (t + 8) = some (.inr (4, [.null, .null, .null, .null])) := by rw [e10]; exact sNew_at z9
  have g10 : ∀ b, b < t → b ≠ (cBase k + 6) → b ≠ (cBase k + 7) → s10.2 b = σ.2 b := fun b h0 h1 h2 => by rw [e10]; exact sNew_ne (by omega) (g9 b h0 h1 h2)
  rw [z9]
  clear e10 g9 f9_X f9_LI f9_L0 f9_L1 f9_L2 f9_UN f9_HT f9_fw f9_A f9_hv f9_tk f9_L f9_hv2 f9_tk2 f9_lw z9
  refine r_dup S dX11_heapTable_60 rfl ?_
  refine r_aload_n S dX11_heapTable_61 rfl ?_
  refine r_aload S dX11_heapTable_62 rfl ?_
  refine r_aload S dX11_heapTable_64 rfl ?_
  refine r_callI S (c_init4 f10_T (by omega)) k_mX4_init c_RX11_226 dX11_heapTable_66 (by decide) ⟨by omega, by omega⟩ rfl rfl (Nat.le_of_ble_eq_true rfl) (fun r s11 hp => ?_)
  rw [z10] at hp
  obtain ⟨rfl, zz11, f11_T, f11_kn, gg11⟩ := hp
  have z11 : s11.1 = (t + 10) := by omega
  have f11_X : s11.2 (cBase k) = some (oX k tb) := (gg11 _ (by omega) (by omega)).trans f10_X
  have f11_LI : s11.2 (cBase k + 1) = some (eQ (cQL k) 3 lq) := (gg11 _ (by omega) (by omega)).trans f10_LI
  have f11_L0 : s11.2 (cBase k + 2) = some (.inr (6, [])) := (gg11 _ (by omega) (by omega)).trans f10_L0
  have f11_L1 : s11.2 (cBase k + 3) = some (.inr (1, [])) := (gg11 _ (by omega) (by omega)).trans f10_L1
  have f11_L2 : s11.2 (cBase k + 4) = some (.inr (9, [])) := (gg11 _ (by omega) (by omega)).trans f10_L2
  have f11_UN : s11.2 (cBase k + 6) = some (oTally (z + 111 + 111 + 111 + 111)) := (gg11 _ (by omega) (by omega)).trans f10_UN
  have f11_HT : s11.2 (cBase k + 7) = some (eQ (cQH k) 3 hq) := (gg11 _ (by omega) (by omega)).trans f10_HT
  have f11_fw : s11.2 t = some (eI k 4845 (fun _ => 0)) := (gg11 _ (by omega) (by omega)).trans f10_fw
  have f11_A : s11.2 (t + 1) = some (.inr (0, [.ref t, .int (iZ (max 1 (min (costK 2 1 0) 4))), .int (iZ (max 1 (min (costK 2 0 1) 4))), .ref (t + 2), .ref (t + 3), .int (iZ 0)])) := (gg11 _ (by omega) (by omega)).trans f10_A
  have f11_hv : s11.2 (t + 2) = some (eI k 8 (fun _ => 0)) := (gg11 _ (by omega) (by omega)).trans f10_hv
  have f11_tk : s11.2 (t + 3) = some (eI k 8 (fun _ => 0)) := (gg11 _ (by omega) (by omega)).trans f10_tk
  have f11_L : s11.2 (t + 4) = some (.inr (5, [.ref t, .int (iZ (max 1 (min (costK 2 1 0) 4))), .int (iZ (max 1 (min (costK 2 0 1) 4))), .ref (t + 5), .ref (t + 6), .int (iZ 0), .ref (t + 7), .int (iZ 0)])) := (gg11 _ (by omega) (by omega)).trans f10_L
  have f11_hv2 : s11.2 (t + 5) = some (eI k 8 (fun _ => 0)) := (gg11 _ (by omega) (by omega)).trans f10_hv2
  have f11_tk2 : s11.2 (t + 6) = some (eI k 8 (fun _ => 0)) := (gg11 _ (by omega) (by omega)).trans f10_tk2
  have f11_lw : s11.2 (t + 7) = some (eI k 68 (fun _ => 0)) := (gg11 _ (by omega) (by omega)).trans f10_lw
  have g11 : ∀ b, b < t → b ≠ (cBase k + 6) → b ≠ (cBase k + 7) → s11.2 b = σ.2 b := fun b h0 h1 h2 => (gg11 b (by omega) (by omega)).trans (g10 b h0 h1 h2)
  clear gg11 zz11 g10 f10_X f10_LI f10_L0 f10_L1 f10_L2 f10_UN f10_HT f10_fw f10_A f10_hv f10_tk f10_L f10_hv2 f10_tk2 f10_lw f10_T z10
  try simp only [Option.toList_some, Option.toList_none, List.cons_append, List.nil_append]
  refine r_astore_n S dX11_heapTable_69 rfl (by decide) (lv' := [_, _, _, _, _, _]) rfl ?_
  refine r_aload_n S dX11_heapTable_70 rfl ?_
  refine r_getf S g_RX11_34_10 dX11_heapTable_71 (by repeat (first | assumption | exact sUp_same | exact sNew_same | refine sUp_ne (by first | assumption | omega) ?_)) rfl ?_
  refine r_iload_n S dX11_heapTable_74 rfl ?_
  refine r_aload_n S dX11_heapTable_75 rfl ?_
  refine r_aast S (t0 := 3) (ci := 4) (cj := 4) rfl rfl rfl (Or.inl rfl) dX11_heapTable_76 (by repeat (first | assumption | exact sUp_same | exact sNew_same | refine sUp_ne (by first | assumption | omega) ?_)) ⟨by omega, by omega⟩ (by decide) (by repeat (first | assumption | exact sUp_same | exact sNew_same | refine sUp_ne (by first | assumption | omega) ?_)) ?_
  refine V.name (fun s12 e12 => ?_)
  have z12 : s12.1 = (t + 10) := by rw [e12]; exact z11
  have f12_X : s12.2 (cBase k) = some (oX k tb) := by rw [e12]; exact sUp_ne (by omega) f11_X
  have f12_LI : s12.2 (cBase k + 1) = some (eQ (cQL k) 3 lq) := by rw [e12]; exact sUp_ne (by omega) f11_LI
  have f12_L0 : s12.2 (cBase k + 2) = some (.inr (6, [])) := by rw [e12]; exact sUp_ne (by omega) f11_L0
  have f12_L1 : s12.2 (cBase k + 3) = some (.inr (1, [])) := by rw [e12]; exact sUp_ne (by omega) f11_L1
  have f12_L2 : s12.2 (cBase k + 4) = some (.inr (9, [])) := by rw [e12]; exact sUp_ne (by omega) f11_L2
  have f12_UN : s12.2 (cBase k + 6) = some (oTally (z + 111 + 111 + 111 + 111)) := by rw [e12]; exact sUp_ne (by omega) f11_UN
  have f12_HT : s12.2 (cBase k + 7) = some (eQ (cQH k) 3 (uQ hq 2 (t + 8))) := by rw [e12]; exact sUp_same
  have f12_fw : s12.2 t = some (eI k 4845 (fun _ => 0)) := by rw [e12]; exact sUp_ne (by omega) f11_fw
  have f12_A : s12.2 (t + 1) = some (.inr (0, [.ref t, .int (iZ (max 1 (min (costK 2 1 0) 4))), .int (iZ (max 1 (min (costK 2 0 1) 4))), .ref (t + 2), .ref (t + 3), .int (iZ 0)])) := by rw [e12]; exact sUp_ne (by omega) f11_A
  have f12_hv : s12.2 (t + 2) = some (eI k 8 (fun _ => 0)) := by rw [e12]; exact sUp_ne (by omega) f11_hv
  have f12_tk : s12.2 (t + 3) = some (eI k 8 (fun _ => 0)) := by rw [e12]; exact sUp_ne (by omega) f11_tk
  have f12_L : s12.2 (t + 4) = some (.inr (5, [.ref t, .int (iZ (max 1 (min (costK 2 1 0) 4))), .int (iZ (max 1 (min (costK 2 0 1) 4))), .ref (t + 5), .ref (t + 6), .int (iZ 0), .ref (t + 7), .int (iZ 0)])) := by rw [e12]; exact sUp_ne (by omega) f11_L
  have f12_hv2 : s12.2 (t + 5) = some (eI k 8 (fun _ => 0)) := by rw [e12]; exact sUp_ne (by omega) f11_hv2
  have f12_tk2 : s12.2 (t + 6) = some (eI k 8 (fun _ => 0)) := by rw [e12]; exact sUp_ne (by omega) f11_tk2
  have f12_lw : s12.2 (t + 7) = some (eI k 68 (fun _ => 0)) := by rw [e12]; exact sUp_ne (by omega) f11_lw
  have f12_T : s12.2 (t + 8) = some (.inr (4, [.ref t, .ref (t + 9), .ref (t + 1), .ref (t + 4)])) := by rw [e12]; exact sUp_ne (by omega) f11_T
  have f12_kn : s12.2 (t + 9) = some (eI k 4 (fun _ => 0)) := by rw [e12]; exact sUp_ne (by omega) f11_kn
  have g12 : ∀ b, b < t → b ≠ (cBase k + 6) → b ≠ (cBase k + 7) → s12.2 b = σ.2 b := fun b h0 h1 h2 => by rw [e12]; exact sUp_ne (by omega) (g11 b h0 h1 h2)
  clear e12 g11 f11_X f11_LI f11_L0 f11_L1 f11_L2 f11_UN f11_HT f11_fw f11_A f11_hv f11_tk f11_L f11_hv2 f11_tk2 f11_lw f11_T f11_kn z11
  refine r_aload_n S dX11_heapTable_77 rfl ?_
  exact r_aret S dX11_heapTable_78 (by omega) (by omega) (by
    have hcy : (max 1 (min (costK 2 1 0) 4)) = ((cyK 2 : Nat) : Int) := by decide
    have hcn : (max 1 (min (costK 2 0 1) 4)) = ((cnK 2 : Nat) : Int) := by decide
    rw [hcy, hcn] at f12_A f12_L
    try rw [z0]
    exact ⟨_, rfl, rfl, z12, ⟨_, f12_UN⟩, f12_HT, ⟨f12_fw, fun _ => ⟨(by decide : (0 : Int) ≤ 0), (by decide : (0 : Int) ≤ 13)⟩, ⟨_, f12_A⟩, ⟨_, fun _ _ _ => rfl, f12_hv⟩, _, fun _ _ _ => rfl, f12_tk⟩, ⟨⟨0, 0, f12_L⟩, ⟨_, fun _ _ _ => rfl, f12_hv2⟩, ⟨_, fun _ _ _ => rfl, f12_tk2⟩, fun _ => 0, fun _ => (by decide : (0 : Nat) < 65536), f12_lw⟩, f12_T, f12_kn, g12⟩)

set_option maxRecDepth 100000 in
set_option maxHeartbeats 4000000 in
theorem c_spanTableN2 {k : Cx} {L0 : Launch} {σ : St} {tb z : Int} {lq : Nat → Option Nat} (hX : σ.2 (cBase k) = some (oX k tb)) (hLI : σ.2 (cBase k + 1) = some (eQ (cQL k) 3 lq)) (hl0 : lq 0 = some (cBase k + 2)) (hl1 : lq 1 = some (cBase k + 3)) (hl2 : lq 2 = some (cBase k + 4)) (hA0 : σ.2 (cBase k + 2) = some (.inr (6, []))) (hA1 : σ.2 (cBase k + 3) = some (.inr (1, []))) (hA2 : σ.2 (cBase k + 4) = some (.inr (9, []))) (hU : σ.2 (cBase k + 6) = some (oTally z)) (hbs : cBase k + 25 ≤ σ.1) {sq : Nat → Option Nat} (hH : σ.2 (cBase k + 8) = some (eQ (cQS k) 3 sq)) (hno : sq 2 = none) : CtrV k L0 mX11_spanTable 5 2 4100 [.ref (cBase k), .int (iZ 2)] σ (fun v σ' => v = .ref σ.1 ∧ σ'.1 = σ.1 + 2 ∧ (∃ z' : Int, σ'.2 (cBase k + 6) = some (oTally z')) ∧ σ'.2 (cBase k + 8) = some (eQ (cQS k) 3 (uQ sq 2 σ.1)) ∧ σ'.2 σ.1 = some (oSp σ.1 (py 2 : Int) (pn 2 : Int) ((0 : Nat) : Int)) ∧ σ'.2 (σ.1 + 1) = some (eI k 4096 (fun j => ((FsN 2 0 j : Nat) : Int))) ∧ ∀ b, b < σ.1 → b ≠ (cBase k + 6) → b ≠ (cBase k + 8) → σ'.2 b = σ.2 b) := by
  refine Ctr.of (by decide +kernel) rfl (Nat.le_of_ble_eq_true rfl) ?_
  intro κ hl0 S
  subst hl0
  obtain ⟨t, z0⟩ : ∃ t, σ.1 = t := ⟨_, rfl⟩
  rw [z0] at hbs
  have f0_X := hX
  have f0_LI := hLI
  have f0_L0 := hA0
  have f0_L1 := hA1
  have f0_L2 := hA2
  have f0_UN := hU
  have f0_SP := hH
  have g0 : ∀ b, b < t → b ≠ (cBase k + 6) → b ≠ (cBase k + 8) → σ.2 b = σ.2 b := fun _ _ _ _ => rfl
  refine r_aload_n S dX11_spanTable_0 rfl ?_
  refine r_getf S g_RX11_40_10 dX11_spanTable_1 (by repeat (first | assumption | exact sUp_same | exact sNew_same | refine sUp_ne (by first | assumption | omega) ?_)) rfl ?_
  refine r_iload_n S dX11_spanTable_4 rfl ?_
  refine r_aaldN S (2) (t0 := 4) (v := .null) rfl dX11_spanTable_5 (by repeat (first | assumption | exact sUp_same | exact sNew_same | refine sUp_ne (by first | assumption | omega) ?_)) (by rfl) (by omega) (by decide) (by rw [hno]; rfl) ?_
  refine r_astore_nN S dX11_spanTable_6 rfl (by decide) (lv' := [_, _, _]) rfl ?_
  refine r_aload_nN S dX11_spanTable_7 rfl ?_
  refine r_ifnonnullN S dX11_spanTable_8 ?_
  refine r_newO S 4 rfl n_RX11_38 dX11_spanTable_11 (by omega) (by omega) ?_
  refine V.name (fun s1 e1 => ?_)
  have z1 : s1.1 = (t + 1) := by rw [e1]; show σ.1 + 1 = _; rw [z0]
  have f1_X : s1.2 (cBase k) = some (oX k tb) := by rw [e1]; exact sNew_ne (by omega) f0_X
  have f1_LI : s1.2 (cBase k + 1) = some (eQ (cQL k) 3 lq) := by rw [e1]; exact sNew_ne (by omega) f0_LI
  have f1_L0 : s1.2 (cBase k + 2) = some (.inr (6, [])) := by rw [e1]; exact sNew_ne (by omega) f0_L0
  have f1_L1 : s1.2 (cBase k + 3) = some (.inr (1, [])) := by rw [e1]; exact sNew_ne (by omega) f0_L1
  have f1_L2 : s1.2 (cBase k + 4) = some (.inr (9, [])) := by rw [e1]; exact sNew_ne (by omega) f0_L2
  have f1_UN : s1.2 (cBase k + 6) = some (oTally z) := by rw [e1]; exact sNew_ne (by omega) f0_UN
  have f1_SP : s1.2 (cBase k + 8) = some (eQ (cQS k) 3 sq) := by rw [e1]; exact sNew_ne (by omega) f0_SP
  have f1_A : s1.2 t = some (.inr (7, [.int 0, .int 0, .null, .int 0])) := by rw [e1]; exact sNew_at z0
  have g1 : ∀ b, b < t → b ≠ (cBase k + 6) → b ≠ (cBase k + 8) → s1.2 b = σ.2 b := fun b h0 h1 h2 => by rw [e1]; exact sNew_ne (by omega) (g0 b h0 h1 h2)
  rw [z0]
  clear e1 g0 f0_X f0_LI f0_L0 f0_L1 f0_L2 f0_UN f0_SP
  refine r_dup S dX11_spanTable_14 rfl ?_
  refine r_aload_n S dX11_spanTable_15 rfl ?_
  refine r_iload_n S dX11_spanTable_16 rfl ?_
  refine r_callV S (c_yesPrice2 f1_X f1_LI hl0 hl1 hl2 f1_L0 f1_L1 f1_L2 f1_UN) k_mX11_yesPrice c_RX11_72_10 dX11_spanTable_17 (by decide) ⟨by omega, by omega⟩ (by repeat (first | assumption | exact sUp_same | exact sNew_same | refine sUp_ne (by first | assumption | omega) ?_)) rfl rfl (Nat.le_of_ble_eq_true rfl) (fun r σ' hp => ?_)
  obtain ⟨_, rfl, rfl, rfl⟩ := hp
  try simp only [Option.toList_some, Option.toList_none, List.cons_append, List.nil_append]
  refine V.name (fun s2 e2 => ?_)
  have z2 : s2.1 = (t + 1) := by rw [e2]; exact z1
  have f2_X : s2.2 (cBase k) = some (oX k tb) := by rw [e2]; exact sUp_ne (by omega) f1_X
  have f2_LI : s2.2 (cBase k + 1) = some (eQ (cQL k) 3 lq) := by rw [e2]; exact sUp_ne (by omega) f1_LI
  have f2_L0 : s2.2 (cBase k + 2) = some (.inr (6, [])) := by rw [e2]; exact sUp_ne (by omega) f1_L0
  have f2_L1 : s2.2 (cBase k + 3) = some (.inr (1, [])) := by rw [e2]; exact sUp_ne (by omega) f1_L1
  have f2_L2 : s2.2 (cBase k + 4) = some (.inr (9, [])) := by rw [e2]; exact sUp_ne (by omega) f1_L2
  have f2_UN : s2.2 (cBase k + 6) = some (oTally (z + 111)) := by rw [e2]; exact sUp_same
  have f2_SP : s2.2 (cBase k + 8) = some (eQ (cQS k) 3 sq) := by rw [e2]; exact sUp_ne (by omega) f1_SP
  have f2_A : s2.2 t = some (.inr (7, [.int 0, .int 0, .null, .int 0])) := by rw [e2]; exact sUp_ne (by omega) f1_A
  have g2 : ∀ b, b < t → b ≠ (cBase k + 6) → b ≠ (cBase k + 8) → s2.2 b = σ.2 b := fun b h0 h1 h2 => by rw [e2]; exact sUp_ne (by omega) (g1 b h0 h1 h2)
  clear e2 g1 f1_X f1_LI f1_L0 f1_L1 f1_L2 f1_UN f1_SP f1_A z1
  refine r_aload_n S dX11_spanTable_20 rfl ?_
  refine r_iload_n S dX11_spanTable_21 rfl ?_
  refine r_callV S (c_noPrice2 f2_X f2_LI hl0 hl1 hl2 f2_L0 f2_L1 f2_L2 f2_UN) k_mX11_noPrice c_RX11_76_10 dX11_spanTable_22 (by decide) ⟨by omega, by omega⟩ (by repeat (first | assumption | exact sUp_same | exact sNew_same | refine sUp_ne (by first | assumption | omega) ?_)) rfl rfl (Nat.le_of_ble_eq_true rfl) (fun r σ' hp => ?_)
  obtain ⟨_, rfl, rfl, rfl⟩ := hp
  try simp only [Option.toList_some, Option.toList_none, List.cons_append, List.nil_append]
  refine V.name (fun s3 e3 => ?_)
  have z3 : s3.1 = (t + 1) := by rw [e3]; exact z2
  have f3_X : s3.2 (cBase k) = some (oX k tb) := by rw [e3]; exact sUp_ne (by omega) f2_X
  have f3_LI : s3.2 (cBase k + 1) = some (eQ (cQL k) 3 lq) := by rw [e3]; exact sUp_ne (by omega) f2_LI
  have f3_L0 : s3.2 (cBase k + 2) = some (.inr (6, [])) := by rw [e3]; exact sUp_ne (by omega) f2_L0
  have f3_L1 : s3.2 (cBase k + 3) = some (.inr (1, [])) := by rw [e3]; exact sUp_ne (by omega) f2_L1
  have f3_L2 : s3.2 (cBase k + 4) = some (.inr (9, [])) := by rw [e3]; exact sUp_ne (by omega) f2_L2
  have f3_UN : s3.2 (cBase k + 6) = some (oTally (z + 111 + 111)) := by rw [e3]; exact sUp_same
  have f3_SP : s3.2 (cBase k + 8) = some (eQ (cQS k) 3 sq) := by rw [e3]; exact sUp_ne (by omega) f2_SP
  have f3_A : s3.2 t = some (.inr (7, [.int 0, .int 0, .null, .int 0])) := by rw [e3]; exact sUp_ne (by omega) f2_A
  have g3 : ∀ b, b < t → b ≠ (cBase k + 6) → b ≠ (cBase k + 8) → s3.2 b = σ.2 b := fun b h0 h1 h2 => by rw [e3]; exact sUp_ne (by omega) (g2 b h0 h1 h2)
  clear e3 g2 f2_X f2_LI f2_L0 f2_L1 f2_L2 f2_UN f2_SP f2_A z2
  refine r_callI S (c_init8 f3_A (by omega) (costK_rng 2 1 0) (costK_rng 2 0 1)) k_mX8_init c_RX11_229 dX11_spanTable_25 (by decide) ⟨by omega, by omega⟩ rfl rfl (Nat.le_of_ble_eq_true rfl) (fun r s4 hp => ?_)
  rw [z3] at hp
  obtain ⟨rfl, zz4, f4_A, f4_fw, gg4⟩ := hp
  have z4 : s4.1 = (t + 2) := by omega
  have f4_X : s4.2 (cBase k) = some (oX k tb) := (gg4 _ (by omega) (by omega)).trans f3_X
  have f4_LI : s4.2 (cBase k + 1) = some (eQ (cQL k) 3 lq) := (gg4 _ (by omega) (by omega)).trans f3_LI
  have f4_L0 : s4.2 (cBase k + 2) = some (.inr (6, [])) := (gg4 _ (by omega) (by omega)).trans f3_L0
  have f4_L1 : s4.2 (cBase k + 3) = some (.inr (1, [])) := (gg4 _ (by omega) (by omega)).trans f3_L1
  have f4_L2 : s4.2 (cBase k + 4) = some (.inr (9, [])) := (gg4 _ (by omega) (by omega)).trans f3_L2
  have f4_UN : s4.2 (cBase k + 6) = some (oTally (z + 111 + 111)) := (gg4 _ (by omega) (by omega)).trans f3_UN
  have f4_SP : s4.2 (cBase k + 8) = some (eQ (cQS k) 3 sq) := (gg4 _ (by omega) (by omega)).trans f3_SP
  have g4 : ∀ b, b < t → b ≠ (cBase k + 6) → b ≠ (cBase k + 8) → s4.2 b = σ.2 b := fun b h0 h1 h2 => (gg4 b (by omega) (by omega)).trans (g3 b h0 h1 h2)
  clear gg4 zz4 g3 f3_X f3_LI f3_L0 f3_L1 f3_L2 f3_UN f3_SP f3_A z3
  try simp only [Option.toList_some, Option.toList_none, List.cons_append, List.nil_append]
  refine r_astore_n S dX11_spanTable_28 rfl (by decide) (lv' := [_, _, _]) rfl ?_
  refine r_aload_n S dX11_spanTable_29 rfl ?_
  refine r_getf S g_RX11_40_10 dX11_spanTable_30 (by repeat (first | assumption | exact sUp_same | exact sNew_same | refine sUp_ne (by first | assumption | omega) ?_)) rfl ?_
  refine r_iload_n S dX11_spanTable_33 rfl ?_
  refine r_aload_n S dX11_spanTable_34 rfl ?_
  refine r_aast S (t0 := 4) (ci := 7) (cj := 7) rfl rfl rfl (Or.inl rfl) dX11_spanTable_35 (by repeat (first | assumption | exact sUp_same | exact sNew_same | refine sUp_ne (by first | assumption | omega) ?_)) ⟨by omega, by omega⟩ (by decide) (by repeat (first | assumption | exact sUp_same | exact sNew_same | refine sUp_ne (by first | assumption | omega) ?_)) ?_
  refine V.name (fun s5 e5 => ?_)
  have z5 : s5.1 = (t + 2) := by rw [e5]; exact z4
  have f5_X : s5.2 (cBase k) = some (oX k tb) := by rw [e5]; exact sUp_ne (by omega) f4_X
  have f5_LI : s5.2 (cBase k + 1) = some (eQ (cQL k) 3 lq) := by rw [e5]; exact sUp_ne (by omega) f4_LI
  have f5_L0 : s5.2 (cBase k + 2) = some (.inr (6, [])) := by rw [e5]; exact sUp_ne (by omega) f4_L0
  have f5_L1 : s5.2 (cBase k + 3) = some (.inr (1, [])) := by rw [e5]; exact sUp_ne (by omega) f4_L1
  have f5_L2 : s5.2 (cBase k + 4) = some (.inr (9, [])) := by rw [e5]; exact sUp_ne (by omega) f4_L2
  have f5_UN : s5.2 (cBase k + 6) = some (oTally (z + 111 + 111)) := by rw [e5]; exact sUp_ne (by omega) f4_UN
  have f5_SP : s5.2 (cBase k + 8) = some (eQ (cQS k) 3 (uQ sq 2 t)) := by rw [e5]; exact sUp_same
  have f5_A : s5.2 t = some (.inr (7, [.int (iZ (min (costK 2 1 0) 3)), .int (iZ (min (costK 2 0 1) 3)), .ref (t + 1), .int (iZ 0)])) := by rw [e5]; exact sUp_ne (by omega) f4_A
  have f5_fw : s5.2 (t + 1) = some (eI k 4096 (fun _ => 0)) := by rw [e5]; exact sUp_ne (by omega) f4_fw
  have g5 : ∀ b, b < t → b ≠ (cBase k + 6) → b ≠ (cBase k + 8) → s5.2 b = σ.2 b := fun b h0 h1 h2 => by rw [e5]; exact sUp_ne (by omega) (g4 b h0 h1 h2)
  clear e5 g4 f4_X f4_LI f4_L0 f4_L1 f4_L2 f4_UN f4_SP f4_A f4_fw z4
  refine r_aload_n S dX11_spanTable_36 rfl ?_
  exact r_aret S dX11_spanTable_37 (by omega) (by omega) (by
    have hcy : (min (costK 2 1 0) 3) = ((py 2 : Nat) : Int) := by decide
    have hcn : (min (costK 2 0 1) 3) = ((pn 2 : Nat) : Int) := by decide
    rw [hcy, hcn] at f5_A
    try rw [z0]
    exact ⟨_, rfl, rfl, z5, ⟨_, f5_UN⟩, f5_SP, f5_A, by rw [FsN_0]; exact f5_fw, g5⟩)

set_option maxRecDepth 100000 in
set_option maxHeartbeats 4000000 in
theorem c_heapTableG {k : Cx} {L0 : Launch} {σ : St} {tb : Int} (hX : σ.2 (cBase k) = some (oX k tb)) {hq : Nat → Option Nat} (hH : σ.2 (cBase k + 7) = some (eQ (cQH k) 3 hq)) {kd t : Nat} (hk : kd < 3) (hq0 : hq kd = some t) : CtrV k L0 mX11_heapTable 5 10 4967 [.ref (cBase k), .int (iZ (kd : Int))] σ (fun v σ' => v = .ref t ∧ σ' = σ) := by
  refine Ctr.of (by decide +kernel) rfl (Nat.le_of_ble_eq_true rfl) ?_
  intro κ hl0 S
  subst hl0
  refine r_aload_n S dX11_heapTable_0 rfl ?_
  refine r_getf S g_RX11_34_10 dX11_heapTable_1 (by repeat (first | assumption | exact sUp_same | exact sNew_same | refine sUp_ne (by first | assumption | omega) ?_)) rfl ?_
  refine r_iload_n S dX11_heapTable_4 rfl ?_
  refine r_aaldN S (kd) (t0 := 3) (v := .ref t) rfl dX11_heapTable_5 (by repeat (first | assumption | exact sUp_same | exact sNew_same | refine sUp_ne (by first | assumption | omega) ?_)) (by omega) (by omega) (by decide) (by rw [hq0]; rfl) ?_
  refine r_astore_n S dX11_heapTable_6 rfl (by decide) (lv' := [_, _, _, _, _, _]) rfl ?_
  refine r_aload_n S dX11_heapTable_7 rfl ?_
  refine r_ifnonnull S dX11_heapTable_8 (tgt := 77) (by decide) ?_
  refine r_aload_n S dX11_heapTable_77 rfl ?_
  exact r_aret S dX11_heapTable_78 (by omega) (by omega) (⟨_, rfl, rfl, rfl⟩)

set_option maxRecDepth 100000 in
set_option maxHeartbeats 4000000 in
theorem c_spanTableG {k : Cx} {L0 : Launch} {σ : St} {tb : Int} (hX : σ.2 (cBase k) = some (oX k tb)) {sq : Nat → Option Nat} (hH : σ.2 (cBase k + 8) = some (eQ (cQS k) 3 sq)) {kd t : Nat} (hk : kd < 3) (hq0 : sq kd = some t) : CtrV k L0 mX11_spanTable 5 2 4100 [.ref (cBase k), .int (iZ (kd : Int))] σ (fun v σ' => v = .ref t ∧ σ' = σ) := by
  refine Ctr.of (by decide +kernel) rfl (Nat.le_of_ble_eq_true rfl) ?_
  intro κ hl0 S
  subst hl0
  refine r_aload_n S dX11_spanTable_0 rfl ?_
  refine r_getf S g_RX11_40_10 dX11_spanTable_1 (by repeat (first | assumption | exact sUp_same | exact sNew_same | refine sUp_ne (by first | assumption | omega) ?_)) rfl ?_
  refine r_iload_n S dX11_spanTable_4 rfl ?_
  refine r_aaldN S (kd) (t0 := 4) (v := .ref t) rfl dX11_spanTable_5 (by repeat (first | assumption | exact sUp_same | exact sNew_same | refine sUp_ne (by first | assumption | omega) ?_)) (by omega) (by omega) (by decide) (by rw [hq0]; rfl) ?_
  refine r_astore_n S dX11_spanTable_6 rfl (by decide) (lv' := [_, _, _]) rfl ?_
  refine r_aload_n S dX11_spanTable_7 rfl ?_
  refine r_ifnonnull S dX11_spanTable_8 (tgt := 36) (by decide) ?_
  refine r_aload_n S dX11_spanTable_36 rfl ?_
  exact r_aret S dX11_spanTable_37 (by omega) (by omega) (⟨_, rfl, rfl, rfl⟩)
