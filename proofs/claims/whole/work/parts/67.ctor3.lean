section VNEWO
variable {κ : Kx} {k : Cx} {cc : ByteArray} {nL : Nat} {own : String} {ret : Option FieldType} {nm : String} {h MC MS : Nat} {cs ss : Nat} {Q : State → Prop} {pc : Nat} {lv lv' : List (Option Value)} {st : List Value} {σ : St}
theorem r_newO (S : Ok κ k cc nL own ret nm h MC MS) {idx ci : Nat} {fs : List Value} (N : Nat) (hN : fs.length = N) (g : NW own idx ci fs) (d : decode cc pc = .ok (.new idx, 3)) (h1 : cs + 1 ≤ MC) (h2 : ss + N ≤ MS) (kk : V κ k nL (cs + 1) (ss + N) Q (pc + 3) lv (.ref σ.1 :: st) (sNew σ (.inr (ci, fs)))) : V κ k nL cs ss Q pc lv st σ := by
  subst hN
  exact r_new S g d h1 h2 kk
theorem r_aload_nN (S : Ok κ k cc nL own ret nm h MC MS) {j : Fin 4} (d : decode cc pc = .ok (.aload_n j, 1)) (hv : lv[(j : Nat)]? = some (some .null)) (kk : V κ k nL cs ss Q (pc + 1) lv (.null :: st) σ) : V κ k nL cs ss Q pc lv st σ := fun H locs ls hR hS hl => lv_aload_nN S.1.1 S.1.2.1 d rfl (lvl_at hl hv) (kk H locs ls hR hS hl)
theorem r_astore_nN (S : Ok κ k cc nL own ret nm h MC MS) {j : Fin 4} (d : decode cc pc = .ok (.astore_n j, 1)) (hp : noL lv (j : Nat) = true) (hn : (j : Nat) < nL) (hv : lv.set (j : Nat) (some .null) = lv') (kk : V κ k nL cs ss Q (pc + 1) lv' st σ) : V κ k nL cs ss Q pc lv (.null :: st) σ := fun H locs ls hR hS hl => lv_astore_nN S.1.1 S.1.2.1 d rfl hl hn rfl (fun ls' hl' => kk H locs ls' hR hS (by subst hv; exact lvl_sub hl' (lvl_set1 hp)))
end VNEWO
set_option maxRecDepth 100000 in
set_option maxHeartbeats 4000000 in
theorem c_init11 {k : Cx} {L0 : Launch} {σ : St} (hA : σ.2 (cBase k) = some (.inr (10, [.null, .null, .null, .null, .null, .null, .null, .int 0]))) (z0 : σ.1 = cBase k + 1) : CtrU k L0 mX11_init 4 13 1100 [.ref (cBase k)] σ (fun σ' => σ'.1 = cBase k + 14 ∧ σ'.2 (cBase k) = some (oX k 0) ∧ (∃ lq : Nat → Option Nat, σ'.2 (cBase k + 1) = some (eQ (cQL k) 3 lq) ∧ lq 0 = some (cBase k + 2) ∧ lq 1 = some (cBase k + 3) ∧ lq 2 = some (cBase k + 4)) ∧ σ'.2 (cBase k + 2) = some (.inr (6, [])) ∧ σ'.2 (cBase k + 3) = some (.inr (1, [])) ∧ σ'.2 (cBase k + 4) = some (.inr (9, [])) ∧ σ'.2 (cBase k + 5) = some (oTally 0) ∧ σ'.2 (cBase k + 6) = some (oTally 0) ∧ σ'.2 (cBase k + 7) = some (eQ (cQH k) 3 (fun _ => none)) ∧ σ'.2 (cBase k + 8) = some (eQ (cQS k) 3 (fun _ => none)) ∧ σ'.2 (cBase k + 9) = some (oGame k 0 0 0 0 0 (-1) 0 0) ∧ σ'.2 (cBase k + 10) = some (eI k 992 (fun _ => 0)) ∧ σ'.2 (cBase k + 11) = some (oCode k 0) ∧ σ'.2 (cBase k + 12) = some (eI k 12 (fun _ => 0)) ∧ σ'.2 (cBase k + 13) = some (eI k 16 (fun _ => 0))) := by
  refine Ctr.of (by decide +kernel) rfl (Nat.le_of_ble_eq_true rfl) ?_
  intro κ hl0 S
  subst hl0
  have f0_X := hA
  refine r_aload_n S dX11_init_0 rfl ?_
  refine r_objInit S wd_50 ks_obj dX11_init_1 (by decide) (Nat.le_of_ble_eq_true rfl) ?_
  refine r_aload_n S dX11_init_4 rfl ?_
  refine r_iconst S dX11_init_5 ?_
  refine r_newQN S (3) (by omega) (t0 := 2) rfl wd_53 wn_54 dX11_init_6 (by omega) (by omega) (by omega) ?_
  refine V.name (fun s1 e1 => ?_)
  have z1 : s1.1 = (cBase k + 2) := by rw [e1]; show σ.1 + 1 = _; rw [z0]
  have f1_X : s1.2 (cBase k) = some (.inr (10, [.null, .null, .null, .null, .null, .null, .null, .int 0])) := by rw [e1]; exact sNew_ne (by omega) f0_X
  have f1_LI : s1.2 (cBase k + 1) = some (eQ (cQL k) 3 (fun _ => none)) := by rw [e1]; exact sNew_at z0
  rw [z0]
  clear e1  f0_X
  refine r_dup S dX11_init_9 rfl ?_
  refine r_iconst S dX11_init_10 ?_
  refine r_newO S 0 rfl n_RX11_9 dX11_init_11 (by omega) (by omega) ?_
  refine V.name (fun s2 e2 => ?_)
  have z2 : s2.1 = (cBase k + 3) := by rw [e2]; show s1.1 + 1 = _; rw [z1]
  have f2_X : s2.2 (cBase k) = some (.inr (10, [.null, .null, .null, .null, .null, .null, .null, .int 0])) := by rw [e2]; exact sNew_ne (by omega) f1_X
  have f2_LI : s2.2 (cBase k + 1) = some (eQ (cQL k) 3 (fun _ => none)) := by rw [e2]; exact sNew_ne (by omega) f1_LI
  have f2_L0 : s2.2 (cBase k + 2) = some (.inr (6, [])) := by rw [e2]; exact sNew_at z1
  rw [z1]
  clear e2  f1_X f1_LI z1
  refine r_dup S dX11_init_14 rfl ?_
  refine r_callIN S (c_init7) k_mX7_init c_RX11_11 dX11_init_15 (by decide) ⟨by omega, by omega⟩ rfl rfl (Nat.le_of_ble_eq_true rfl) (fun r σ' hp => ?_)
  obtain ⟨rfl, rfl⟩ := hp
  try simp only [Option.toList_some, Option.toList_none, List.cons_append, List.nil_append]
  refine r_aast S (t0 := 2) (ci := 6) (cj := 6) rfl rfl rfl (Or.inl rfl) dX11_init_18 (by repeat (first | assumption | exact sUp_same | exact sNew_same | refine sUp_ne (by first | assumption | omega) ?_)) ⟨by omega, by omega⟩ (by decide) (by repeat (first | assumption | exact sUp_same | exact sNew_same | refine sUp_ne (by first | assumption | omega) ?_)) ?_
  refine V.name (fun s3 e3 => ?_)
  have z3 : s3.1 = (cBase k + 3) := by rw [e3]; exact z2
  have f3_X : s3.2 (cBase k) = some (.inr (10, [.null, .null, .null, .null, .null, .null, .null, .int 0])) := by rw [e3]; exact sUp_ne (by omega) f2_X
  have f3_LI : s3.2 (cBase k + 1) = some (eQ (cQL k) 3 (uQ (fun _ => none) 0 (cBase k + 2))) := by rw [e3]; exact sUp_same
  have f3_L0 : s3.2 (cBase k + 2) = some (.inr (6, [])) := by rw [e3]; exact sUp_ne (by omega) f2_L0
  clear e3  f2_X f2_LI f2_L0 z2
  refine r_dup S dX11_init_19 rfl ?_
  refine r_iconst S dX11_init_20 ?_
  refine r_newO S 0 rfl n_RX11_12 dX11_init_21 (by omega) (by omega) ?_
  refine V.name (fun s4 e4 => ?_)
  have z4 : s4.1 = (cBase k + 4) := by rw [e4]; show s3.1 + 1 = _; rw [z3]
  have f4_X : s4.2 (cBase k) = some (.inr (10, [.null, .null, .null, .null, .null, .null, .null, .int 0])) := by rw [e4]; exact sNew_ne (by omega) f3_X
  have f4_LI : s4.2 (cBase k + 1) = some (eQ (cQL k) 3 (uQ (fun _ => none) 0 (cBase k + 2))) := by rw [e4]; exact sNew_ne (by omega) f3_LI
  have f4_L0 : s4.2 (cBase k + 2) = some (.inr (6, [])) := by rw [e4]; exact sNew_ne (by omega) f3_L0
  have f4_L1 : s4.2 (cBase k + 3) = some (.inr (1, [])) := by rw [e4]; exact sNew_at z3
  rw [z3]
  clear e4  f3_X f3_LI f3_L0 z3
  refine r_dup S dX11_init_24 rfl ?_
  refine r_callIN S (c_init1) k_mX1_init c_RX11_14 dX11_init_25 (by decide) ⟨by omega, by omega⟩ rfl rfl (Nat.le_of_ble_eq_true rfl) (fun r σ' hp => ?_)
  obtain ⟨rfl, rfl⟩ := hp
  try simp only [Option.toList_some, Option.toList_none, List.cons_append, List.nil_append]
  refine r_aast S (t0 := 2) (ci := 1) (cj := 6) rfl rfl rfl (Or.inr wn_886) dX11_init_28 (by repeat (first | assumption | exact sUp_same | exact sNew_same | refine sUp_ne (by first | assumption | omega) ?_)) ⟨by omega, by omega⟩ (by decide) (by repeat (first | assumption | exact sUp_same | exact sNew_same | refine sUp_ne (by first | assumption | omega) ?_)) ?_
  refine V.name (fun s5 e5 => ?_)
  have z5 : s5.1 = (cBase k + 4) := by rw [e5]; exact z4
  have f5_X : s5.2 (cBase k) = some (.inr (10, [.null, .null, .null, .null, .null, .null, .null, .int 0])) := by rw [e5]; exact sUp_ne (by omega) f4_X
  have f5_LI : s5.2 (cBase k + 1) = some (eQ (cQL k) 3 (uQ (uQ (fun _ => none) 0 (cBase k + 2)) 1 (cBase k + 3))) := by rw [e5]; exact sUp_same
  have f5_L0 : s5.2 (cBase k + 2) = some (.inr (6, [])) := by rw [e5]; exact sUp_ne (by omega) f4_L0
  have f5_L1 : s5.2 (cBase k + 3) = some (.inr (1, [])) := by rw [e5]; exact sUp_ne (by omega) f4_L1
  clear e5  f4_X f4_LI f4_L0 f4_L1 z4
  refine r_dup S dX11_init_29 rfl ?_
  refine r_iconst S dX11_init_30 ?_
  refine r_newO S 0 rfl n_RX11_15 dX11_init_31 (by omega) (by omega) ?_
  refine V.name (fun s6 e6 => ?_)
  have z6 : s6.1 = (cBase k + 5) := by rw [e6]; show s5.1 + 1 = _; rw [z5]
  have f6_X : s6.2 (cBase k) = some (.inr (10, [.null, .null, .null, .null, .null, .null, .null, .int 0])) := by rw [e6]; exact sNew_ne (by omega) f5_X
  have f6_LI : s6.2 (cBase k + 1) = some (eQ (cQL k) 3 (uQ (uQ (fun _ => none) 0 (cBase k + 2)) 1 (cBase k + 3))) := by rw [e6]; exact sNew_ne (by omega) f5_LI
  have f6_L0 : s6.2 (cBase k + 2) = some (.inr (6, [])) := by rw [e6]; exact sNew_ne (by omega) f5_L0
  have f6_L1 : s6.2 (cBase k + 3) = some (.inr (1, [])) := by rw [e6]; exact sNew_ne (by omega) f5_L1
  have f6_L2 : s6.2 (cBase k + 4) = some (.inr (9, [])) := by rw [e6]; exact sNew_at z5
  rw [z5]
  clear e6  f5_X f5_LI f5_L0 f5_L1 z5
  refine r_dup S dX11_init_34 rfl ?_
  refine r_callIN S (c_init10) k_mX10_init c_RX11_17 dX11_init_35 (by decide) ⟨by omega, by omega⟩ rfl rfl (Nat.le_of_ble_eq_true rfl) (fun r σ' hp => ?_)
  obtain ⟨rfl, rfl⟩ := hp
  try simp only [Option.toList_some, Option.toList_none, List.cons_append, List.nil_append]
  refine r_aast S (t0 := 2) (ci := 9) (cj := 6) rfl rfl rfl (Or.inr wn_887) dX11_init_38 (by repeat (first | assumption | exact sUp_same | exact sNew_same | refine sUp_ne (by first | assumption | omega) ?_)) ⟨by omega, by omega⟩ (by decide) (by repeat (first | assumption | exact sUp_same | exact sNew_same | refine sUp_ne (by first | assumption | omega) ?_)) ?_
  refine V.name (fun s7 e7 => ?_)
  have z7 : s7.1 = (cBase k + 5) := by rw [e7]; exact z6
  have f7_X : s7.2 (cBase k) = some (.inr (10, [.null, .null, .null, .null, .null, .null, .null, .int 0])) := by rw [e7]; exact sUp_ne (by omega) f6_X
  have f7_LI : s7.2 (cBase k + 1) = some (eQ (cQL k) 3 (uQ (uQ (uQ (fun _ => none) 0 (cBase k + 2)) 1 (cBase k + 3)) 2 (cBase k + 4))) := by rw [e7]; exact sUp_same
  have f7_L0 : s7.2 (cBase k + 2) = some (.inr (6, [])) := by rw [e7]; exact sUp_ne (by omega) f6_L0
  have f7_L1 : s7.2 (cBase k + 3) = some (.inr (1, [])) := by rw [e7]; exact sUp_ne (by omega) f6_L1
  have f7_L2 : s7.2 (cBase k + 4) = some (.inr (9, [])) := by rw [e7]; exact sUp_ne (by omega) f6_L2
  clear e7  f6_X f6_LI f6_L0 f6_L1 f6_L2 z6
  refine r_putF S p_RX11_18_10 dX11_init_39 (by first | rfl | decide) (by first | rfl | decide) (by repeat (first | assumption | exact sUp_same | exact sNew_same | refine sUp_ne (by first | assumption | omega) ?_)) (Nat.le_of_ble_eq_true rfl) (fs' := [_, _, _, _, _, _, _, _]) rfl ?_
  refine V.name (fun s8 e8 => ?_)
  have z8 : s8.1 = (cBase k + 5) := by rw [e8]; exact z7
  have f8_X : s8.2 (cBase k) = some (.inr (10, [.ref (cBase k + 1), .null, .null, .null, .null, .null, .null, .int 0])) := by rw [e8]; exact sUp_same
  have f8_LI : s8.2 (cBase k + 1) = some (eQ (cQL k) 3 (uQ (uQ (uQ (fun _ => none) 0 (cBase k + 2)) 1 (cBase k + 3)) 2 (cBase k + 4))) := by rw [e8]; exact sUp_ne (by omega) f7_LI
  have f8_L0 : s8.2 (cBase k + 2) = some (.inr (6, [])) := by rw [e8]; exact sUp_ne (by omega) f7_L0
  have f8_L1 : s8.2 (cBase k + 3) = some (.inr (1, [])) := by rw [e8]; exact sUp_ne (by omega) f7_L1
  have f8_L2 : s8.2 (cBase k + 4) = some (.inr (9, [])) := by rw [e8]; exact sUp_ne (by omega) f7_L2
  clear e8  f7_X f7_LI f7_L0 f7_L1 f7_L2 z7
  refine r_aload_n S dX11_init_42 rfl ?_
  refine r_newO S 1 rfl n_RX11_22 dX11_init_43 (by omega) (by omega) ?_
  refine V.name (fun s9 e9 => ?_)
  have z9 : s9.1 = (cBase k + 6) := by rw [e9]; show s8.1 + 1 = _; rw [z8]
  have f9_X : s9.2 (cBase k) = some (.inr (10, [.ref (cBase k + 1), .null, .null, .null, .null, .null, .null, .int 0])) := by rw [e9]; exact sNew_ne (by omega) f8_X
  have f9_LI : s9.2 (cBase k + 1) = some (eQ (cQL k) 3 (uQ (uQ (uQ (fun _ => none) 0 (cBase k + 2)) 1 (cBase k + 3)) 2 (cBase k + 4))) := by rw [e9]; exact sNew_ne (by omega) f8_LI
  have f9_L0 : s9.2 (cBase k + 2) = some (.inr (6, [])) := by rw [e9]; exact sNew_ne (by omega) f8_L0
  have f9_L1 : s9.2 (cBase k + 3) = some (.inr (1, [])) := by rw [e9]; exact sNew_ne (by omega) f8_L1
  have f9_L2 : s9.2 (cBase k + 4) = some (.inr (9, [])) := by rw [e9]; exact sNew_ne (by omega) f8_L2
  have f9_TR : s9.2 (cBase k + 5) = some (.inr (8, [.long 0])) := by rw [e9]; exact sNew_at z8
  rw [z8]
  clear e9  f8_X f8_LI f8_L0 f8_L1 f8_L2 z8
  refine r_dup S dX11_init_46 rfl ?_
  refine r_callIN S (c_init9 f9_TR) k_mX9_init c_RX11_24 dX11_init_47 (by decide) ⟨by omega, by omega⟩ rfl rfl (Nat.le_of_ble_eq_true rfl) (fun r σ' hp => ?_)
  obtain ⟨rfl, rfl⟩ := hp
  try simp only [Option.toList_some, Option.toList_none, List.cons_append, List.nil_append]
  refine V.name (fun s10 e10 => ?_)
  have z10 : s10.1 = (cBase k + 6) := by rw [e10]; exact z9
  have f10_X : s10.2 (cBase k) = some (.inr (10, [.ref (cBase k + 1), .null, .null, .null, .null, .null, .null, .int 0])) := by rw [e10]; exact sUp_ne (by omega) f9_X
  have f10_LI : s10.2 (cBase k + 1) = some (eQ (cQL k) 3 (uQ (uQ (uQ (fun _ => none) 0 (cBase k + 2)) 1 (cBase k + 3)) 2 (cBase k + 4))) := by rw [e10]; exact sUp_ne (by omega) f9_LI
  have f10_L0 : s10.2 (cBase k + 2) = some (.inr (6, [])) := by rw [e10]; exact sUp_ne (by omega) f9_L0
  have f10_L1 : s10.2 (cBase k + 3) = some (.inr (1, [])) := by rw [e10]; exact sUp_ne (by omega) f9_L1
  have f10_L2 : s10.2 (cBase k + 4) = some (.inr (9, [])) := by rw [e10]; exact sUp_ne (by omega) f9_L2
  have f10_TR : s10.2 (cBase k + 5) = some (oTally 0) := by rw [e10]; exact sUp_same
  clear e10  f9_X f9_LI f9_L0 f9_L1 f9_L2 f9_TR z9
  refine r_putF S p_RX11_25_10 dX11_init_50 (by first | rfl | decide) (by first | rfl | decide) (by repeat (first | assumption | exact sUp_same | exact sNew_same | refine sUp_ne (by first | assumption | omega) ?_)) (Nat.le_of_ble_eq_true rfl) (fs' := [_, _, _, _, _, _, _, _]) rfl ?_
  refine V.name (fun s11 e11 => ?_)
  have z11 : s11.1 = (cBase k + 6) := by rw [e11]; exact z10
  have f11_X : s11.2 (cBase k) = some (.inr (10, [.ref (cBase k + 1), .ref (cBase k + 5), .null, .null, .null, .null, .null, .int 0])) := by rw [e11]; exact sUp_same
  have f11_LI : s11.2 (cBase k + 1) = some (eQ (cQL k) 3 (uQ (uQ (uQ (fun _ => none) 0 (cBase k + 2)) 1 (cBase k + 3)) 2 (cBase k + 4))) := by rw [e11]; exact sUp_ne (by omega) f10_LI
  have f11_L0 : s11.2 (cBase k + 2) = some (.inr (6, [])) := by rw [e11]; exact sUp_ne (by omega) f10_L0
  have f11_L1 : s11.2 (cBase k + 3) = some (.inr (1, [])) := by rw [e11]; exact sUp_ne (by omega) f10_L1
  have f11_L2 : s11.2 (cBase k + 4) = some (.inr (9, [])) := by rw [e11]; exact sUp_ne (by omega) f10_L2
  have f11_TR : s11.2 (cBase k + 5) = some (oTally 0) := by rw [e11]; exact sUp_ne (by omega) f10_TR
  clear e11  f10_X f10_LI f10_L0 f10_L1 f10_L2 f10_TR z10
  refine r_aload_n S dX11_init_53 rfl ?_
  refine r_newO S 1 rfl n_RX11_22 dX11_init_54 (by omega) (by omega) ?_
  refine V.name (fun s12 e12 => ?_)
  have z12 : s12.1 = (cBase k + 7) := by rw [e12]; show s11.1 + 1 = _; rw [z11]
  have f12_X : s12.2 (cBase k) = some (.inr (10, [.ref (cBase k + 1), .ref (cBase k + 5), .null, .null, .null, .null, .null, .int 0])) := by rw [e12]; exact sNew_ne (by omega) f11_X
  have f12_LI : s12.2 (cBase k + 1) = some (eQ (cQL k) 3 (uQ (uQ (uQ (fun _ => none) 0 (cBase k + 2)) 1 (cBase k + 3)) 2 (cBase k + 4))) := by rw [e12]; exact sNew_ne (by omega) f11_LI
  have f12_L0 : s12.2 (cBase k + 2) = some (.inr (6, [])) := by rw [e12]; exact sNew_ne (by omega) f11_L0
  have f12_L1 : s12.2 (cBase k + 3) = some (.inr (1, [])) := by rw [e12]; exact sNew_ne (by omega) f11_L1
  have f12_L2 : s12.2 (cBase k + 4) = some (.inr (9, [])) := by rw [e12]; exact sNew_ne (by omega) f11_L2
  have f12_TR : s12.2 (cBase k + 5) = some (oTally 0) := by rw [e12]; exact sNew_ne (by omega) f11_TR
  have f12_UN : s12.2 (cBase k + 6) = some (.inr (8, [.long 0])) := by rw [e12]; exact sNew_at z11
  rw [z11]
  clear e12  f11_X f11_LI f11_L0 f11_L1 f11_L2 f11_TR z11
  refine r_dup S dX11_init_57 rfl ?_
  refine r_callIN S (c_init9 f12_UN) k_mX9_init c_RX11_24 dX11_init_58 (by decide) ⟨by omega, by omega⟩ rfl rfl (Nat.le_of_ble_eq_true rfl) (fun r σ' hp => ?_)
  obtain ⟨rfl, rfl⟩ := hp
  try simp only [Option.toList_some, Option.toList_none, List.cons_append, List.nil_append]
  refine V.name (fun s13 e13 => ?_)
  have z13 : s13.1 = (cBase k + 7) := by rw [e13]; exact z12
  have f13_X : s13.2 (cBase k) = some (.inr (10, [.ref (cBase k + 1), .ref (cBase k + 5), .null, .null, .null, .null, .null, .int 0])) := by rw [e13]; exact sUp_ne (by omega) f12_X
  have f13_LI : s13.2 (cBase k + 1) = some (eQ (cQL k) 3 (uQ (uQ (uQ (fun _ => none) 0 (cBase k + 2)) 1 (cBase k + 3)) 2 (cBase k + 4))) := by rw [e13]; exact sUp_ne (by omega) f12_LI
  have f13_L0 : s13.2 (cBase k + 2) = some (.inr (6, [])) := by rw [e13]; exact sUp_ne (by omega) f12_L0
  have f13_L1 : s13.2 (cBase k + 3) = some (.inr (1, [])) := by rw [e13]; exact sUp_ne (by omega) f12_L1
  have f13_L2 : s13.2 (cBase k + 4) = some (.inr (9, [])) := by rw [e13]; exact sUp_ne (by omega) f12_L2
  have f13_TR : s13.2 (cBase k + 5) = some (oTally 0) := by rw [e13]; exact sUp_ne (by omega) f12_TR
  have f13_UN : s13.2 (cBase k + 6) = some (oTally 0) := by rw [e13]; exact sUp_same
  clear e13  f12_X f12_LI f12_L0 f12_L1 f12_L2 f12_TR f12_UN z12
  refine r_putF S p_RX11_29_10 dX11_init_61 (by first | rfl | decide) (by first | rfl | decide) (by repeat (first | assumption | exact sUp_same | exact sNew_same | refine sUp_ne (by first | assumption | omega) ?_)) (Nat.le_of_ble_eq_true rfl) (fs' := [_, _, _, _, _, _, _, _]) rfl ?_
  refine V.name (fun s14 e14 => ?_)
  have z14 : s14.1 = (cBase k + 7) := by rw [e14]; exact z13
  have f14_X : s14.2 (cBase k) = some (.inr (10, [.ref (cBase k + 1), .ref (cBase k + 5), .ref (cBase k + 6), .null, .null, .null, .null, .int 0])) := by rw [e14]; exact sUp_same
  have f14_LI : s14.2 (cBase k + 1) = some (eQ (cQL k) 3 (uQ (uQ (uQ (fun _ => none) 0 (cBase k + 2)) 1 (cBase k + 3)) 2 (cBase k + 4))) := by rw [e14]; exact sUp_ne (by omega) f13_LI
  have f14_L0 : s14.2 (cBase k + 2) = some (.inr (6, [])) := by rw [e14]; exact sUp_ne (by omega) f13_L0
  have f14_L1 : s14.2 (cBase k + 3) = some (.inr (1, [])) := by rw [e14]; exact sUp_ne (by omega) f13_L1
  have f14_L2 : s14.2 (cBase k + 4) = some (.inr (9, [])) := by rw [e14]; exact sUp_ne (by omega) f13_L2
  have f14_TR : s14.2 (cBase k + 5) = some (oTally 0) := by rw [e14]; exact sUp_ne (by omega) f13_TR
  have f14_UN : s14.2 (cBase k + 6) = some (oTally 0) := by rw [e14]; exact sUp_ne (by omega) f13_UN
  clear e14  f13_X f13_LI f13_L0 f13_L1 f13_L2 f13_TR f13_UN z13
  refine r_aload_n S dX11_init_64 rfl ?_
  refine r_iconst S dX11_init_65 ?_
  refine r_newQN S (3) (by omega) (t0 := 3) rfl wd_89 wn_90 dX11_init_66 (by omega) (by omega) (by omega) ?_
  refine V.name (fun s15 e15 => ?_)
  have z15 : s15.1 = (cBase k + 8) := by rw [e15]; show s14.1 + 1 = _; rw [z14]
  have f15_X : s15.2 (cBase k) = some (.inr (10, [.ref (cBase k + 1), .ref (cBase k + 5), .ref (cBase k + 6), .null, .null, .null, .null, .int 0])) := by rw [e15]; exact sNew_ne (by omega) f14_X
  have f15_LI : s15.2 (cBase k + 1) = some (eQ (cQL k) 3 (uQ (uQ (uQ (fun _ => none) 0 (cBase k + 2)) 1 (cBase k + 3)) 2 (cBase k + 4))) := by rw [e15]; exact sNew_ne (by omega) f14_LI
  have f15_L0 : s15.2 (cBase k + 2) = some (.inr (6, [])) := by rw [e15]; exact sNew_ne (by omega) f14_L0
  have f15_L1 : s15.2 (cBase k + 3) = some (.inr (1, [])) := by rw [e15]; exact sNew_ne (by omega) f14_L1
  have f15_L2 : s15.2 (cBase k + 4) = some (.inr (9, [])) := by rw [e15]; exact sNew_ne (by omega) f14_L2
  have f15_TR : s15.2 (cBase k + 5) = some (oTally 0) := by rw [e15]; exact sNew_ne (by omega) f14_TR
  have f15_UN : s15.2 (cBase k + 6) = some (oTally 0) := by rw [e15]; exact sNew_ne (by omega) f14_UN
  have f15_HT : s15.2 (cBase k + 7) = some (eQ (cQH k) 3 (fun _ => none)) := by rw [e15]; exact sNew_at z14
  rw [z14]
  clear e15  f14_X f14_LI f14_L0 f14_L1 f14_L2 f14_TR f14_UN z14
  refine r_putF S p_RX11_34_10 dX11_init_69 (by first | rfl | decide) (by first | rfl | decide) (by repeat (first | assumption | exact sUp_same | exact sNew_same | refine sUp_ne (by first | assumption | omega) ?_)) (Nat.le_of_ble_eq_true rfl) (fs' := [_, _, _, _, _, _, _, _]) rfl ?_
  refine V.name (fun s16 e16 => ?_)
  have z16 : s16.1 = (cBase k + 8) := by rw [e16]; exact z15
  have f16_X : s16.2 (cBase k) = some (.inr (10, [.ref (cBase k + 1), .ref (cBase k + 5), .ref (cBase k + 6), .ref (cBase k + 7), .null, .null, .null, .int 0])) := by rw [e16]; exact sUp_same
  have f16_LI : s16.2 (cBase k + 1) = some (eQ (cQL k) 3 (uQ (uQ (uQ (fun _ => none) 0 (cBase k + 2)) 1 (cBase k + 3)) 2 (cBase k + 4))) := by rw [e16]; exact sUp_ne (by omega) f15_LI
  have f16_L0 : s16.2 (cBase k + 2) = some (.inr (6, [])) := by rw [e16]; exact sUp_ne (by omega) f15_L0
  have f16_L1 : s16.2 (cBase k + 3) = some (.inr (1, [])) := by rw [e16]; exact sUp_ne (by omega) f15_L1
  have f16_L2 : s16.2 (cBase k + 4) = some (.inr (9, [])) := by rw [e16]; exact sUp_ne (by omega) f15_L2
  have f16_TR : s16.2 (cBase k + 5) = some (oTally 0) := by rw [e16]; exact sUp_ne (by omega) f15_TR
  have f16_UN : s16.2 (cBase k + 6) = some (oTally 0) := by rw [e16]; exact sUp_ne (by omega) f15_UN
  have f16_HT : s16.2 (cBase k + 7) = some (eQ (cQH k) 3 (fun _ => none)) := by rw [e16]; exact sUp_ne (by omega) f15_HT
  clear e16  f15_X f15_LI f15_L0 f15_L1 f15_L2 f15_TR f15_UN f15_HT z15
  refine r_aload_n S dX11_init_72 rfl ?_
  refine r_iconst S dX11_init_73 ?_
  refine r_newQN S (3) (by omega) (t0 := 4) rfl wd_91 wn_92 dX11_init_74 (by omega) (by omega) (by omega) ?_
  refine V.name (fun s17 e17 => ?_)
  have z17 : s17.1 = (cBase k + 9) := by rw [e17]; show s16.1 + 1 = _; rw [z16]
  have f17_X : s17.2 (cBase k) = some (.inr (10, [.ref (cBase k + 1), .ref (cBase k + 5), .ref (cBase k + 6), .ref (cBase k + 7), .null, .null, .null, .int 0])) := by rw [e17]; exact sNew_ne (by omega) f16_X
  have f17_LI : s17.2 (cBase k + 1) = some (eQ (cQL k) 3 (uQ (uQ (uQ (fun _ => none) 0 (cBase k + 2)) 1 (cBase k + 3)) 2 (cBase k + 4))) := by rw [e17]; exact sNew_ne (by omega) f16_LI
  have f17_L0 : s17.2 (cBase k + 2) = some (.inr (6, [])) := by rw [e17]; exact sNew_ne (by omega) f16_L0
  have f17_L1 : s17.2 (cBase k + 3) = some (.inr (1, [])) := by rw [e17]; exact sNew_ne (by omega) f16_L1
  have f17_L2 : s17.2 (cBase k + 4) = some (.inr (9, [])) := by rw [e17]; exact sNew_ne (by omega) f16_L2
  have f17_TR : s17.2 (cBase k + 5) = some (oTally 0) := by rw [e17]; exact sNew_ne (by omega) f16_TR
  have f17_UN : s17.2 (cBase k + 6) = some (oTally 0) := by rw [e17]; exact sNew_ne (by omega) f16_UN
  have f17_HT : s17.2 (cBase k + 7) = some (eQ (cQH k) 3 (fun _ => none)) := by rw [e17]; exact sNew_ne (by omega) f16_HT
  have f17_SP : s17.2 (cBase k + 8) = some (eQ (cQS k) 3 (fun _ => none)) := by rw [e17]; exact sNew_at z16
  rw [z16]
  clear e17  f16_X f16_LI f16_L0 f16_L1 f16_L2 f16_TR f16_UN f16_HT z16
  refine r_putF S p_RX11_40_10 dX11_init_77 (by first | rfl | decide) (by first | rfl | decide) (by repeat (first | assumption | exact sUp_same | exact sNew_same | refine sUp_ne (by first | assumption | omega) ?_)) (Nat.le_of_ble_eq_true rfl) (fs' := [_, _, _, _, _, _, _, _]) rfl ?_
  refine V.name (fun s18 e18 => ?_)
  have z18 : s18.1 = (cBase k + 9) := by rw [e18]; exact z17
  have f18_X : s18.2 (cBase k) = some (.inr (10, [.ref (cBase k + 1), .ref (cBase k + 5), .ref (cBase k + 6), .ref (cBase k + 7), .ref (cBase k + 8), .null, .null, .int 0])) := by rw [e18]; exact sUp_same
  have f18_LI : s18.2 (cBase k + 1) = some (eQ (cQL k) 3 (uQ (uQ (uQ (fun _ => none) 0 (cBase k + 2)) 1 (cBase k + 3)) 2 (cBase k + 4))) := by rw [e18]; exact sUp_ne (by omega) f17_LI
  have f18_L0 : s18.2 (cBase k + 2) = some (.inr (6, [])) := by rw [e18]; exact sUp_ne (by omega) f17_L0
  have f18_L1 : s18.2 (cBase k + 3) = some (.inr (1, [])) := by rw [e18]; exact sUp_ne (by omega) f17_L1
  have f18_L2 : s18.2 (cBase k + 4) = some (.inr (9, [])) := by rw [e18]; exact sUp_ne (by omega) f17_L2
  have f18_TR : s18.2 (cBase k + 5) = some (oTally 0) := by rw [e18]; exact sUp_ne (by omega) f17_TR
  have f18_UN : s18.2 (cBase k + 6) = some (oTally 0) := by rw [e18]; exact sUp_ne (by omega) f17_UN
  have f18_HT : s18.2 (cBase k + 7) = some (eQ (cQH k) 3 (fun _ => none)) := by rw [e18]; exact sUp_ne (by omega) f17_HT
  have f18_SP : s18.2 (cBase k + 8) = some (eQ (cQS k) 3 (fun _ => none)) := by rw [e18]; exact sUp_ne (by omega) f17_SP
  clear e18  f17_X f17_LI f17_L0 f17_L1 f17_L2 f17_TR f17_UN f17_HT f17_SP z17
  refine r_aload_n S dX11_init_80 rfl ?_
  refine r_newO S 9 rfl n_RX11_44 dX11_init_81 (by omega) (by omega) ?_
  refine V.name (fun s19 e19 => ?_)
  have z19 : s19.1 = (cBase k + 10) := by rw [e19]; show s18.1 + 1 = _; rw [z18]
  have f19_X : s19.2 (cBase k) = some (.inr (10, [.ref (cBase k + 1), .ref (cBase k + 5), .ref (cBase k + 6), .ref (cBase k + 7), .ref (cBase k + 8), .null, .null, .int 0])) := by rw [e19]; exact sNew_ne (by omega) f18_X
  have f19_LI : s19.2 (cBase k + 1) = some (eQ (cQL k) 3 (uQ (uQ (uQ (fun _ => none) 0 (cBase k + 2)) 1 (cBase k + 3)) 2 (cBase k + 4))) := by rw [e19]; exact sNew_ne (by omega) f18_LI
  have f19_L0 : s19.2 (cBase k + 2) = some (.inr (6, [])) := by rw [e19]; exact sNew_ne (by omega) f18_L0
  have f19_L1 : s19.2 (cBase k + 3) = some (.inr (1, [])) := by rw [e19]; exact sNew_ne (by omega) f18_L1
  have f19_L2 : s19.2 (cBase k + 4) = some (.inr (9, [])) := by rw [e19]; exact sNew_ne (by omega) f18_L2
  have f19_TR : s19.2 (cBase k + 5) = some (oTally 0) := by rw [e19]; exact sNew_ne (by omega) f18_TR
  have f19_UN : s19.2 (cBase k + 6) = some (oTally 0) := by rw [e19]; exact sNew_ne (by omega) f18_UN
  have f19_HT : s19.2 (cBase k + 7) = some (eQ (cQH k) 3 (fun _ => none)) := by rw [e19]; exact sNew_ne (by omega) f18_HT
  have f19_SP : s19.2 (cBase k + 8) = some (eQ (cQS k) 3 (fun _ => none)) := by rw [e19]; exact sNew_ne (by omega) f18_SP
  have f19_G : s19.2 (cBase k + 9) = some (.inr (3, [.int 0, .int 0, .int 0, .int 0, .int 0, .int 0, .int 0, .int 0, .null])) := by rw [e19]; exact sNew_at z18
  rw [z18]
  clear e19  f18_X f18_LI f18_L0 f18_L1 f18_L2 f18_TR f18_UN f18_HT f18_SP z18
  refine r_dup S dX11_init_84 rfl ?_
  refine r_callIN S (c_init3 f19_G (by omega)) k_mX3_init c_RX11_46 dX11_init_85 (by decide) ⟨by omega, by omega⟩ rfl rfl (Nat.le_of_ble_eq_true rfl) (fun r s20 hp => ?_)
  rw [z19] at hp
  obtain ⟨rfl, zz20, f20_G, f20_LF, gg20⟩ := hp
  have z20 : s20.1 = (cBase k + 11) := by omega
  have f20_X : s20.2 (cBase k) = some (.inr (10, [.ref (cBase k + 1), .ref (cBase k + 5), .ref (cBase k + 6), .ref (cBase k + 7), .ref (cBase k + 8), .null, .null, .int 0])) := (gg20 _ (by omega) (by omega)).trans f19_X
  have f20_LI : s20.2 (cBase k + 1) = some (eQ (cQL k) 3 (uQ (uQ (uQ (fun _ => none) 0 (cBase k + 2)) 1 (cBase k + 3)) 2 (cBase k + 4))) := (gg20 _ (by omega) (by omega)).trans f19_LI
  have f20_L0 : s20.2 (cBase k + 2) = some (.inr (6, [])) := (gg20 _ (by omega) (by omega)).trans f19_L0
  have f20_L1 : s20.2 (cBase k + 3) = some (.inr (1, [])) := (gg20 _ (by omega) (by omega)).trans f19_L1
  have f20_L2 : s20.2 (cBase k + 4) = some (.inr (9, [])) := (gg20 _ (by omega) (by omega)).trans f19_L2
  have f20_TR : s20.2 (cBase k + 5) = some (oTally 0) := (gg20 _ (by omega) (by omega)).trans f19_TR
  have f20_UN : s20.2 (cBase k + 6) = some (oTally 0) := (gg20 _ (by omega) (by omega)).trans f19_UN
  have f20_HT : s20.2 (cBase k + 7) = some (eQ (cQH k) 3 (fun _ => none)) := (gg20 _ (by omega) (by omega)).trans f19_HT
  have f20_SP : s20.2 (cBase k + 8) = some (eQ (cQS k) 3 (fun _ => none)) := (gg20 _ (by omega) (by omega)).trans f19_SP
  clear gg20 zz20  f19_X f19_LI f19_L0 f19_L1 f19_L2 f19_TR f19_UN f19_HT f19_SP f19_G z19
  try simp only [Option.toList_some, Option.toList_none, List.cons_append, List.nil_append]
  refine r_putF S p_RX11_47_10 dX11_init_88 (by first | rfl | decide) (by first | rfl | decide) (by repeat (first | assumption | exact sUp_same | exact sNew_same | refine sUp_ne (by first | assumption | omega) ?_)) (Nat.le_of_ble_eq_true rfl) (fs' := [_, _, _, _, _, _, _, _]) rfl ?_
  refine V.name (fun s21 e21 => ?_)
  have z21 : s21.1 = (cBase k + 11) := by rw [e21]; exact z20
  have f21_X : s21.2 (cBase k) = some (.inr (10, [.ref (cBase k + 1), .ref (cBase k + 5), .ref (cBase k + 6), .ref (cBase k + 7), .ref (cBase k + 8), .ref (cBase k + 9), .null, .int 0])) := by rw [e21]; exact sUp_same
  have f21_LI : s21.2 (cBase k + 1) = some (eQ (cQL k) 3 (uQ (uQ (uQ (fun _ => none) 0 (cBase k + 2)) 1 (cBase k + 3)) 2 (cBase k + 4))) := by rw [e21]; exact sUp_ne (by omega) f20_LI
  have f21_L0 : s21.2 (cBase k + 2) = some (.inr (6, [])) := by rw [e21]; exact sUp_ne (by omega) f20_L0
  have f21_L1 : s21.2 (cBase k + 3) = some (.inr (1, [])) := by rw [e21]; exact sUp_ne (by omega) f20_L1
  have f21_L2 : s21.2 (cBase k + 4) = some (.inr (9, [])) := by rw [e21]; exact sUp_ne (by omega) f20_L2
  have f21_TR : s21.2 (cBase k + 5) = some (oTally 0) := by rw [e21]; exact sUp_ne (by omega) f20_TR
  have f21_UN : s21.2 (cBase k + 6) = some (oTally 0) := by rw [e21]; exact sUp_ne (by omega) f20_UN
  have f21_HT : s21.2 (cBase k + 7) = some (eQ (cQH k) 3 (fun _ => none)) := by rw [e21]; exact sUp_ne (by omega) f20_HT
  have f21_SP : s21.2 (cBase k + 8) = some (eQ (cQS k) 3 (fun _ => none)) := by rw [e21]; exact sUp_ne (by omega) f20_SP
  have f21_G : s21.2 (cBase k + 9) = some (.inr (3, [.int (iZ 0), .int (iZ 0), .int (iZ 0), .int (iZ 0), .int (iZ 0), .int (iZ (-1)), .int (iZ 0), .int (iZ 0), .ref (cBase k + 10)])) := by rw [e21]; exact sUp_ne (by omega) f20_G
  have f21_LF : s21.2 (cBase k + 10) = some (eI k 992 (fun _ => 0)) := by rw [e21]; exact sUp_ne (by omega) f20_LF
  clear e21  f20_X f20_LI f20_L0 f20_L1 f20_L2 f20_TR f20_UN f20_HT f20_SP f20_G f20_LF z20
  refine r_aload_n S dX11_init_91 rfl ?_
  refine r_newO S 3 rfl n_RX11_51 dX11_init_92 (by omega) (by omega) ?_
  refine V.name (fun s22 e22 => ?_)
  have z22 : s22.1 = (cBase k + 12) := by rw [e22]; show s21.1 + 1 = _; rw [z21]
  have f22_X : s22.2 (cBase k) = some (.inr (10, [.ref (cBase k + 1), .ref (cBase k + 5), .ref (cBase k + 6), .ref (cBase k + 7), .ref (cBase k + 8), .ref (cBase k + 9), .null, .int 0])) := by rw [e22]; exact sNew_ne (by omega) f21_X
  have f22_LI : s22.2 (cBase k + 1) = some (eQ (cQL k) 3 (uQ (uQ (uQ (fun _ => none) 0 (cBase k + 2)) 1 (cBase k + 3)) 2 (cBase k + 4))) := by rw [e22]; exact sNew_ne (by omega) f21_LI
  have f22_L0 : s22.2 (cBase k + 2) = some (.inr (6, [])) := by rw [e22]; exact sNew_ne (by omega) f21_L0
  have f22_L1 : s22.2 (cBase k + 3) = some (.inr (1, [])) := by rw [e22]; exact sNew_ne (by omega) f21_L1
  have f22_L2 : s22.2 (cBase k + 4) = some (.inr (9, [])) := by rw [e22]; exact sNew_ne (by omega) f21_L2
  have f22_TR : s22.2 (cBase k + 5) = some (oTally 0) := by rw [e22]; exact sNew_ne (by omega) f21_TR
  have f22_UN : s22.2 (cBase k + 6) = some (oTally 0) := by rw [e22]; exact sNew_ne (by omega) f21_UN
  have f22_HT : s22.2 (cBase k + 7) = some (eQ (cQH k) 3 (fun _ => none)) := by rw [e22]; exact sNew_ne (by omega) f21_HT
  have f22_SP : s22.2 (cBase k + 8) = some (eQ (cQS k) 3 (fun _ => none)) := by rw [e22]; exact sNew_ne (by omega) f21_SP
  have f22_G : s22.2 (cBase k + 9) = some (.inr (3, [.int (iZ 0), .int (iZ 0), .int (iZ 0), .int (iZ 0), .int (iZ 0), .int (iZ (-1)), .int (iZ 0), .int (iZ 0), .ref (cBase k + 10)])) := by rw [e22]; exact sNew_ne (by omega) f21_G
  have f22_LF : s22.2 (cBase k + 10) = some (eI k 992 (fun _ => 0)) := by rw [e22]; exact sNew_ne (by omega) f21_LF
  have f22_C : s22.2 (cBase k + 11) = some (.inr (2, [.null, .null, .int 0])) := by rw [e22]; exact sNew_at z21
  rw [z21]
  clear e22  f21_X f21_LI f21_L0 f21_L1 f21_L2 f21_TR f21_UN f21_HT f21_SP f21_G f21_LF z21
  refine r_dup S dX11_init_95 rfl ?_
  refine r_callIN S (c_init2 f22_C (by omega)) k_mX2_init c_RX11_53 dX11_init_96 (by decide) ⟨by omega, by omega⟩ rfl rfl (Nat.le_of_ble_eq_true rfl) (fun r s23 hp => ?_)
  rw [z22] at hp
  obtain ⟨rfl, zz23, f23_C, f23_CQ, f23_CW, gg23⟩ := hp
  have z23 : s23.1 = (cBase k + 14) := by omega
  have f23_X : s23.2 (cBase k) = some (.inr (10, [.ref (cBase k + 1), .ref (cBase k + 5), .ref (cBase k + 6), .ref (cBase k + 7), .ref (cBase k + 8), .ref (cBase k + 9), .null, .int 0])) := (gg23 _ (by omega) (by omega)).trans f22_X
  have f23_LI : s23.2 (cBase k + 1) = some (eQ (cQL k) 3 (uQ (uQ (uQ (fun _ => none) 0 (cBase k + 2)) 1 (cBase k + 3)) 2 (cBase k + 4))) := (gg23 _ (by omega) (by omega)).trans f22_LI
  have f23_L0 : s23.2 (cBase k + 2) = some (.inr (6, [])) := (gg23 _ (by omega) (by omega)).trans f22_L0
  have f23_L1 : s23.2 (cBase k + 3) = some (.inr (1, [])) := (gg23 _ (by omega) (by omega)).trans f22_L1
  have f23_L2 : s23.2 (cBase k + 4) = some (.inr (9, [])) := (gg23 _ (by omega) (by omega)).trans f22_L2
  have f23_TR : s23.2 (cBase k + 5) = some (oTally 0) := (gg23 _ (by omega) (by omega)).trans f22_TR
  have f23_UN : s23.2 (cBase k + 6) = some (oTally 0) := (gg23 _ (by omega) (by omega)).trans f22_UN
  have f23_HT : s23.2 (cBase k + 7) = some (eQ (cQH k) 3 (fun _ => none)) := (gg23 _ (by omega) (by omega)).trans f22_HT
  have f23_SP : s23.2 (cBase k + 8) = some (eQ (cQS k) 3 (fun _ => none)) := (gg23 _ (by omega) (by omega)).trans f22_SP
  have f23_G : s23.2 (cBase k + 9) = some (.inr (3, [.int (iZ 0), .int (iZ 0), .int (iZ 0), .int (iZ 0), .int (iZ 0), .int (iZ (-1)), .int (iZ 0), .int (iZ 0), .ref (cBase k + 10)])) := (gg23 _ (by omega) (by omega)).trans f22_G
  have f23_LF : s23.2 (cBase k + 10) = some (eI k 992 (fun _ => 0)) := (gg23 _ (by omega) (by omega)).trans f22_LF
  clear gg23 zz23  f22_X f22_LI f22_L0 f22_L1 f22_L2 f22_TR f22_UN f22_HT f22_SP f22_G f22_LF f22_C z22
  try simp only [Option.toList_some, Option.toList_none, List.cons_append, List.nil_append]
  refine r_putF S p_RX11_54_10 dX11_init_99 (by first | rfl | decide) (by first | rfl | decide) (by repeat (first | assumption | exact sUp_same | exact sNew_same | refine sUp_ne (by first | assumption | omega) ?_)) (Nat.le_of_ble_eq_true rfl) (fs' := [_, _, _, _, _, _, _, _]) rfl ?_
  refine V.name (fun s24 e24 => ?_)
  have z24 : s24.1 = (cBase k + 14) := by rw [e24]; exact z23
  have f24_X : s24.2 (cBase k) = some (.inr (10, [.ref (cBase k + 1), .ref (cBase k + 5), .ref (cBase k + 6), .ref (cBase k + 7), .ref (cBase k + 8), .ref (cBase k + 9), .ref (cBase k + 11), .int 0])) := by rw [e24]; exact sUp_same
  have f24_LI : s24.2 (cBase k + 1) = some (eQ (cQL k) 3 (uQ (uQ (uQ (fun _ => none) 0 (cBase k + 2)) 1 (cBase k + 3)) 2 (cBase k + 4))) := by rw [e24]; exact sUp_ne (by omega) f23_LI
  have f24_L0 : s24.2 (cBase k + 2) = some (.inr (6, [])) := by rw [e24]; exact sUp_ne (by omega) f23_L0
  have f24_L1 : s24.2 (cBase k + 3) = some (.inr (1, [])) := by rw [e24]; exact sUp_ne (by omega) f23_L1
  have f24_L2 : s24.2 (cBase k + 4) = some (.inr (9, [])) := by rw [e24]; exact sUp_ne (by omega) f23_L2
  have f24_TR : s24.2 (cBase k + 5) = some (oTally 0) := by rw [e24]; exact sUp_ne (by omega) f23_TR
  have f24_UN : s24.2 (cBase k + 6) = some (oTally 0) := by rw [e24]; exact sUp_ne (by omega) f23_UN
  have f24_HT : s24.2 (cBase k + 7) = some (eQ (cQH k) 3 (fun _ => none)) := by rw [e24]; exact sUp_ne (by omega) f23_HT
  have f24_SP : s24.2 (cBase k + 8) = some (eQ (cQS k) 3 (fun _ => none)) := by rw [e24]; exact sUp_ne (by omega) f23_SP
  have f24_G : s24.2 (cBase k + 9) = some (.inr (3, [.int (iZ 0), .int (iZ 0), .int (iZ 0), .int (iZ 0), .int (iZ 0), .int (iZ (-1)), .int (iZ 0), .int (iZ 0), .ref (cBase k + 10)])) := by rw [e24]; exact sUp_ne (by omega) f23_G
  have f24_LF : s24.2 (cBase k + 10) = some (eI k 992 (fun _ => 0)) := by rw [e24]; exact sUp_ne (by omega) f23_LF
  have f24_C : s24.2 (cBase k + 11) = some (.inr (2, [.ref (cBase k + 12), .ref (cBase k + 13), .int (iZ 0)])) := by rw [e24]; exact sUp_ne (by omega) f23_C
  have f24_CQ : s24.2 (cBase k + 12) = some (eI k 12 (fun _ => 0)) := by rw [e24]; exact sUp_ne (by omega) f23_CQ
  have f24_CW : s24.2 (cBase k + 13) = some (eI k 16 (fun _ => 0)) := by rw [e24]; exact sUp_ne (by omega) f23_CW
  clear e24  f23_X f23_LI f23_L0 f23_L1 f23_L2 f23_TR f23_UN f23_HT f23_SP f23_G f23_LF f23_C f23_CQ f23_CW z23
  refine r_aload_n S dX11_init_102 rfl ?_
  refine r_iconst S dX11_init_103 ?_
  refine r_putf S p_RX11_58_10 dX11_init_104 (by first | rfl | decide) (by first | rfl | decide) (by repeat (first | assumption | exact sUp_same | exact sNew_same | refine sUp_ne (by first | assumption | omega) ?_)) (Nat.le_of_ble_eq_true rfl) (fs' := [_, _, _, _, _, _, _, _]) rfl ?_
  refine V.name (fun s25 e25 => ?_)
  have z25 : s25.1 = (cBase k + 14) := by rw [e25]; exact z24
  have f25_X : s25.2 (cBase k) = some (.inr (10, [.ref (cBase k + 1), .ref (cBase k + 5), .ref (cBase k + 6), .ref (cBase k + 7), .ref (cBase k + 8), .ref (cBase k + 9), .ref (cBase k + 11), .int (iZ 0)])) := by rw [e25]; exact sUp_same
  have f25_LI : s25.2 (cBase k + 1) = some (eQ (cQL k) 3 (uQ (uQ (uQ (fun _ => none) 0 (cBase k + 2)) 1 (cBase k + 3)) 2 (cBase k + 4))) := by rw [e25]; exact sUp_ne (by omega) f24_LI
  have f25_L0 : s25.2 (cBase k + 2) = some (.inr (6, [])) := by rw [e25]; exact sUp_ne (by omega) f24_L0
  have f25_L1 : s25.2 (cBase k + 3) = some (.inr (1, [])) := by rw [e25]; exact sUp_ne (by omega) f24_L1
  have f25_L2 : s25.2 (cBase k + 4) = some (.inr (9, [])) := by rw [e25]; exact sUp_ne (by omega) f24_L2
  have f25_TR : s25.2 (cBase k + 5) = some (oTally 0) := by rw [e25]; exact sUp_ne (by omega) f24_TR
  have f25_UN : s25.2 (cBase k + 6) = some (oTally 0) := by rw [e25]; exact sUp_ne (by omega) f24_UN
  have f25_HT : s25.2 (cBase k + 7) = some (eQ (cQH k) 3 (fun _ => none)) := by rw [e25]; exact sUp_ne (by omega) f24_HT
  have f25_SP : s25.2 (cBase k + 8) = some (eQ (cQS k) 3 (fun _ => none)) := by rw [e25]; exact sUp_ne (by omega) f24_SP
  have f25_G : s25.2 (cBase k + 9) = some (.inr (3, [.int (iZ 0), .int (iZ 0), .int (iZ 0), .int (iZ 0), .int (iZ 0), .int (iZ (-1)), .int (iZ 0), .int (iZ 0), .ref (cBase k + 10)])) := by rw [e25]; exact sUp_ne (by omega) f24_G
  have f25_LF : s25.2 (cBase k + 10) = some (eI k 992 (fun _ => 0)) := by rw [e25]; exact sUp_ne (by omega) f24_LF
  have f25_C : s25.2 (cBase k + 11) = some (.inr (2, [.ref (cBase k + 12), .ref (cBase k + 13), .int (iZ 0)])) := by rw [e25]; exact sUp_ne (by omega) f24_C
  have f25_CQ : s25.2 (cBase k + 12) = some (eI k 12 (fun _ => 0)) := by rw [e25]; exact sUp_ne (by omega) f24_CQ
  have f25_CW : s25.2 (cBase k + 13) = some (eI k 16 (fun _ => 0)) := by rw [e25]; exact sUp_ne (by omega) f24_CW
  clear e25  f24_X f24_LI f24_L0 f24_L1 f24_L2 f24_TR f24_UN f24_HT f24_SP f24_G f24_LF f24_C f24_CQ f24_CW z24
  exact r_vret S dX11_init_107 (by omega) (by omega) (⟨rfl, z25, f25_X, ⟨_, f25_LI, rfl, rfl, rfl⟩, f25_L0, f25_L1, f25_L2, f25_TR, f25_UN, f25_HT, f25_SP, f25_G, f25_LF, f25_C, f25_CQ, f25_CW⟩)
