set_option maxRecDepth 100000 in
set_option maxHeartbeats 4000000 in
theorem c_init12 {k : Cx} {L0 : Launch} {σ : St} {a : Nat} (hA : σ.2 a = some (.inr (11, [.int 0, .int 0, .int 0, .int 0, .int 0, .int 0, .null, .null, .int 0, .int 0, .null, .long 0, .null, .int 0, .int 0, .null, .null, .null, .null, .null, .null]))) (ha : a < σ.1) : CtrU k L0 mX12_init 1 10 255695 [.ref a] σ (fun σ' => σ'.1 = σ.1 + 10 ∧ σ'.2 a = some (.inr (11, [.int (iZ 0), .int 0, .int 0, .int 0, .int 0, .int (iZ (-1)), .ref σ.1, .ref (σ.1 + 1), .int 0, .int 0, .ref (σ.1 + 2), .long 0, .ref (σ.1 + 3), .int (iZ (-1)), .int 0, .ref (σ.1 + 4), .ref (σ.1 + 5), .ref (σ.1 + 6), .ref (σ.1 + 7), .ref (σ.1 + 8), .ref (σ.1 + 9)])) ∧ σ'.2 σ.1 = some (eI k 16 (fun _ => 0)) ∧ σ'.2 (σ.1 + 1) = some (eI k 976 (fun _ => 0)) ∧ σ'.2 (σ.1 + 2) = some (eI k 12 (fun _ => 0)) ∧ σ'.2 (σ.1 + 3) = some (eB k 250563 (fun _ => 0)) ∧ σ'.2 (σ.1 + 4) = some (eI k 4096 (fun _ => 0)) ∧ σ'.2 (σ.1 + 5) = some (eI k 4 (fun _ => 0)) ∧ σ'.2 (σ.1 + 6) = some (eI k 4 (fun _ => 0)) ∧ σ'.2 (σ.1 + 7) = some (eI k 4 (fun _ => 0)) ∧ σ'.2 (σ.1 + 8) = some (eI k 4 (fun _ => 0)) ∧ σ'.2 (σ.1 + 9) = some (eI k 16 (fun _ => 0)) ∧ ∀ b, b < σ.1 → b ≠ a → σ'.2 b = σ.2 b) := by
  refine Ctr.of (by decide +kernel) rfl (Nat.le_of_ble_eq_true rfl) ?_
  intro κ hl0 S
  subst hl0
  obtain ⟨t, z0⟩ : ∃ t, σ.1 = t := ⟨_, rfl⟩
  rw [z0] at ha
  have f0_o := hA
  have g0 : ∀ b, b < t → b ≠ a → σ.2 b = σ.2 b := fun _ _ _ => rfl
  refine r_aload_n S dX12_init_0 rfl ?_
  refine r_objInit S wd_647 ks_obj dX12_init_1 (by decide) (Nat.le_of_ble_eq_true rfl) ?_
  refine r_aload_n S dX12_init_4 rfl ?_
  refine r_iconst S dX12_init_5 ?_
  refine r_putf S p_RX12_7_11 dX12_init_6 (by first | rfl | decide) (by first | rfl | decide) (by repeat (first | assumption | exact sUp_same | exact sNew_same | refine sUp_ne (by first | assumption | omega) ?_)) (Nat.le_of_ble_eq_true rfl) (fs' := [_, _, _, _, _, _, _, _, _, _, _, _, _, _, _, _, _, _, _, _, _]) rfl ?_
  refine V.name (fun s1 e1 => ?_)
  have z1 : s1.1 = t := by rw [e1]; exact z0
  have f1_o : s1.2 a = some (.inr (11, [.int 0, .int 0, .int 0, .int 0, .int 0, .int (iZ (-1)), .null, .null, .int 0, .int 0, .null, .long 0, .null, .int 0, .int 0, .null, .null, .null, .null, .null, .null])) := by rw [e1]; exact sUp_same
  have g1 : ∀ b, b < t → b ≠ a → s1.2 b = σ.2 b := fun b h0 h1 => by rw [e1]; exact sUp_ne (by omega) (g0 b h0 h1)
  clear e1 g0 f0_o
  refine r_aload_n S dX12_init_9 rfl ?_
  refine r_bipush S dX12_init_10 (by decide) ?_
  refine r_newIN S (16) (by omega) wd_134 dX12_init_12 (by omega) (by omega) (by omega) ?_
  refine V.name (fun s2 e2 => ?_)
  have z2 : s2.1 = (t + 1) := by rw [e2]; show s1.1 + 1 = _; rw [z1]
  have f2_o : s2.2 a = some (.inr (11, [.int 0, .int 0, .int 0, .int 0, .int 0, .int (iZ (-1)), .null, .null, .int 0, .int 0, .null, .long 0, .null, .int 0, .int 0, .null, .null, .null, .null, .null, .null])) := by rw [e2]; exact sNew_ne (by omega) f1_o
  have f2_ml : s2.2 t = some (eI k 16 (fun _ => 0)) := by rw [e2]; exact sNew_at z1
  have g2 : ∀ b, b < t → b ≠ a → s2.2 b = σ.2 b := fun b h0 h1 => by rw [e2]; exact sNew_ne (by omega) (g1 b h0 h1)
  rw [z1]
  clear e2 g1 f1_o z1
  refine r_putF S p_RX12_13_11 dX12_init_14 (by first | rfl | decide) (by first | rfl | decide) (by repeat (first | assumption | exact sUp_same | exact sNew_same | refine sUp_ne (by first | assumption | omega) ?_)) (Nat.le_of_ble_eq_true rfl) (fs' := [_, _, _, _, _, _, _, _, _, _, _, _, _, _, _, _, _, _, _, _, _]) rfl ?_
  refine V.name (fun s3 e3 => ?_)
  have z3 : s3.1 = (t + 1) := by rw [e3]; exact z2
  have f3_o : s3.2 a = some (.inr (11, [.int 0, .int 0, .int 0, .int 0, .int 0, .int (iZ (-1)), .ref t, .null, .int 0, .int 0, .null, .long 0, .null, .int 0, .int 0, .null, .null, .null, .null, .null, .null])) := by rw [e3]; exact sUp_same
  have f3_ml : s3.2 t = some (eI k 16 (fun _ => 0)) := by rw [e3]; exact sUp_ne (by omega) f2_ml
  have g3 : ∀ b, b < t → b ≠ a → s3.2 b = σ.2 b := fun b h0 h1 => by rw [e3]; exact sUp_ne (by omega) (g2 b h0 h1)
  clear e3 g2 f2_o f2_ml z2
  refine r_aload_n S dX12_init_17 rfl ?_
  refine r_sipush S dX12_init_18 (by decide) ?_
  refine r_newIN S (976) (by omega) wd_134 dX12_init_21 (by omega) (by omega) (by omega) ?_
  refine V.name (fun s4 e4 => ?_)
  have z4 : s4.1 = (t + 2) := by rw [e4]; show s3.1 + 1 = _; rw [z3]
  have f4_o : s4.2 a = some (.inr (11, [.int 0, .int 0, .int 0, .int 0, .int 0, .int (iZ (-1)), .ref t, .null, .int 0, .int 0, .null, .long 0, .null, .int 0, .int 0, .null, .null, .null, .null, .null, .null])) := by rw [e4]; exact sNew_ne (by omega) f3_o
  have f4_ml : s4.2 t = some (eI k 16 (fun _ => 0)) := by rw [e4]; exact sNew_ne (by omega) f3_ml
  have f4_mb : s4.2 (t + 1) = some (eI k 976 (fun _ => 0)) := by rw [e4]; exact sNew_at z3
  have g4 : ∀ b, b < t → b ≠ a → s4.2 b = σ.2 b := fun b h0 h1 => by rw [e4]; exact sNew_ne (by omega) (g3 b h0 h1)
  rw [z3]
  clear e4 g3 f3_o f3_ml z3
  refine r_putF S p_RX12_17_11 dX12_init_23 (by first | rfl | decide) (by first | rfl | decide) (by repeat (first | assumption | exact sUp_same | exact sNew_same | refine sUp_ne (by first | assumption | omega) ?_)) (Nat.le_of_ble_eq_true rfl) (fs' := [_, _, _, _, _, _, _, _, _, _, _, _, _, _, _, _, _, _, _, _, _]) rfl ?_
  refine V.name (fun s5 e5 => ?_)
  have z5 : s5.1 = (t + 2) := by rw [e5]; exact z4
  have f5_o : s5.2 a = some (.inr (11, [.int 0, .int 0, .int 0, .int 0, .int 0, .int (iZ (-1)), .ref t, .ref (t + 1), .int 0, .int 0, .null, .long 0, .null, .int 0, .int 0, .null, .null, .null, .null, .null, .null])) := by rw [e5]; exact sUp_same
  have f5_ml : s5.2 t = some (eI k 16 (fun _ => 0)) := by rw [e5]; exact sUp_ne (by omega) f4_ml
  have f5_mb : s5.2 (t + 1) = some (eI k 976 (fun _ => 0)) := by rw [e5]; exact sUp_ne (by omega) f4_mb
  have g5 : ∀ b, b < t → b ≠ a → s5.2 b = σ.2 b := fun b h0 h1 => by rw [e5]; exact sUp_ne (by omega) (g4 b h0 h1)
  clear e5 g4 f4_o f4_ml f4_mb z4
  refine r_aload_n S dX12_init_26 rfl ?_
  refine r_bipush S dX12_init_27 (by decide) ?_
  refine r_newIN S (12) (by omega) wd_134 dX12_init_29 (by omega) (by omega) (by omega) ?_
  refine V.name (fun s6 e6 => ?_)
  have z6 : s6.1 = (t + 3) := by rw [e6]; show s5.1 + 1 = _; rw [z5]
  have f6_o : s6.2 a = some (.inr (11, [.int 0, .int 0, .int 0, .int 0, .int 0, .int (iZ (-1)), .ref t, .ref (t + 1), .int 0, .int 0, .null, .long 0, .null, .int 0, .int 0, .null, .null, .null, .null, .null, .null])) := by rw [e6]; exact sNew_ne (by omega) f5_o
  have f6_ml : s6.2 t = some (eI k 16 (fun _ => 0)) := by rw [e6]; exact sNew_ne (by omega) f5_ml
  have f6_mb : s6.2 (t + 1) = some (eI k 976 (fun _ => 0)) := by rw [e6]; exact sNew_ne (by omega) f5_mb
  have f6_mq : s6.2 (t + 2) = some (eI k 12 (fun _ => 0)) := by rw [e6]; exact sNew_at z5
  have g6 : ∀ b, b < t → b ≠ a → s6.2 b = σ.2 b := fun b h0 h1 => by rw [e6]; exact sNew_ne (by omega) (g5 b h0 h1)
  rw [z5]
  clear e6 g5 f5_o f5_ml f5_mb z5
  refine r_putF S p_RX12_20_11 dX12_init_31 (by first | rfl | decide) (by first | rfl | decide) (by repeat (first | assumption | exact sUp_same | exact sNew_same | refine sUp_ne (by first | assumption | omega) ?_)) (Nat.le_of_ble_eq_true rfl) (fs' := [_, _, _, _, _, _, _, _, _, _, _, _, _, _, _, _, _, _, _, _, _]) rfl ?_
  refine V.name (fun s7 e7 => ?_)
  have z7 : s7.1 = (t + 3) := by rw [e7]; exact z6
  have f7_o : s7.2 a = some (.inr (11, [.int 0, .int 0, .int 0, .int 0, .int 0, .int (iZ (-1)), .ref t, .ref (t + 1), .int 0, .int 0, .ref (t + 2), .long 0, .null, .int 0, .int 0, .null, .null, .null, .null, .null, .null])) := by rw [e7]; exact sUp_same
  have f7_ml : s7.2 t = some (eI k 16 (fun _ => 0)) := by rw [e7]; exact sUp_ne (by omega) f6_ml
  have f7_mb : s7.2 (t + 1) = some (eI k 976 (fun _ => 0)) := by rw [e7]; exact sUp_ne (by omega) f6_mb
  have f7_mq : s7.2 (t + 2) = some (eI k 12 (fun _ => 0)) := by rw [e7]; exact sUp_ne (by omega) f6_mq
  have g7 : ∀ b, b < t → b ≠ a → s7.2 b = σ.2 b := fun b h0 h1 => by rw [e7]; exact sUp_ne (by omega) (g6 b h0 h1)
  clear e7 g6 f6_o f6_ml f6_mb f6_mq z6
  refine r_aload_n S dX12_init_34 rfl ?_
  refine r_ldc S (n := 250563) (by exact wd_648) dX12_init_35 ?_
  refine r_newBN S (250563) (by omega) wd_713 dX12_init_37 (by omega) (by omega) (by omega) ?_
  refine V.name (fun s8 e8 => ?_)
  have z8 : s8.1 = (t + 4) := by rw [e8]; show s7.1 + 1 = _; rw [z7]
  have f8_o : s8.2 a = some (.inr (11, [.int 0, .int 0, .int 0, .int 0, .int 0, .int (iZ (-1)), .ref t, .ref (t + 1), .int 0, .int 0, .ref (t + 2), .long 0, .null, .int 0, .int 0, .null, .null, .null, .null, .null, .null])) := by rw [e8]; exact sNew_ne (by omega) f7_o
  have f8_ml : s8.2 t = some (eI k 16 (fun _ => 0)) := by rw [e8]; exact sNew_ne (by omega) f7_ml
  have f8_mb : s8.2 (t + 1) = some (eI k 976 (fun _ => 0)) := by rw [e8]; exact sNew_ne (by omega) f7_mb
  have f8_mq : s8.2 (t + 2) = some (eI k 12 (fun _ => 0)) := by rw [e8]; exact sNew_ne (by omega) f7_mq
  have f8_mr : s8.2 (t + 3) = some (eB k 250563 (fun _ => 0)) := by rw [e8]; exact sNew_at z7
  have g8 : ∀ b, b < t → b ≠ a → s8.2 b = σ.2 b := fun b h0 h1 => by rw [e8]; exact sNew_ne (by omega) (g7 b h0 h1)
  rw [z7]
  clear e8 g7 f7_o f7_ml f7_mb f7_mq z7
  refine r_putF S p_RX12_24_11 dX12_init_39 (by first | rfl | decide) (by first | rfl | decide) (by repeat (first | assumption | exact sUp_same | exact sNew_same | refine sUp_ne (by first | assumption | omega) ?_)) (Nat.le_of_ble_eq_true rfl) (fs' := [_, _, _, _, _, _, _, _, _, _, _, _, _, _, _, _, _, _, _, _, _]) rfl ?_
  refine V.name (fun s9 e9 => ?_)
  have z9 : s9.1 = (t + 4) := by rw [e9]; exact z8
  have f9_o : s9.2 a = some (.inr (11, [.int 0, .int 0, .int 0, .int 0, .int 0, .int (iZ (-1)), .ref t, .ref (t + 1), .int 0, .int 0, .ref (t + 2), .long 0, .ref (t + 3), .int 0, .int 0, .null, .null, .null, .null, .null, .null])) := by rw [e9]; exact sUp_same
  have f9_ml : s9.2 t = some (eI k 16 (fun _ => 0)) := by rw [e9]; exact sUp_ne (by omega) f8_ml
  have f9_mb : s9.2 (t + 1) = some (eI k 976 (fun _ => 0)) := by rw [e9]; exact sUp_ne (by omega) f8_mb
  have f9_mq : s9.2 (t + 2) = some (eI k 12 (fun _ => 0)) := by rw [e9]; exact sUp_ne (by omega) f8_mq
  have f9_mr : s9.2 (t + 3) = some (eB k 250563 (fun _ => 0)) := by rw [e9]; exact sUp_ne (by omega) f8_mr
  have g9 : ∀ b, b < t → b ≠ a → s9.2 b = σ.2 b := fun b h0 h1 => by rw [e9]; exact sUp_ne (by omega) (g8 b h0 h1)
  clear e9 g8 f8_o f8_ml f8_mb f8_mq f8_mr z8
  refine r_aload_n S dX12_init_42 rfl ?_
  refine r_iconst S dX12_init_43 ?_
  refine r_putf S p_RX12_28_11 dX12_init_44 (by first | rfl | decide) (by first | rfl | decide) (by repeat (first | assumption | exact sUp_same | exact sNew_same | refine sUp_ne (by first | assumption | omega) ?_)) (Nat.le_of_ble_eq_true rfl) (fs' := [_, _, _, _, _, _, _, _, _, _, _, _, _, _, _, _, _, _, _, _, _]) rfl ?_
  refine V.name (fun s10 e10 => ?_)
  have z10 : s10.1 = (t + 4) := by rw [e10]; exact z9
  have f10_o : s10.2 a = some (.inr (11, [.int 0, .int 0, .int 0, .int 0, .int 0, .int (iZ (-1)), .ref t, .ref (t + 1), .int 0, .int 0, .ref (t + 2), .long 0, .ref (t + 3), .int (iZ (-1)), .int 0, .null, .null, .null, .null, .null, .null])) := by rw [e10]; exact sUp_same
  have f10_ml : s10.2 t = some (eI k 16 (fun _ => 0)) := by rw [e10]; exact sUp_ne (by omega) f9_ml
  have f10_mb : s10.2 (t + 1) = some (eI k 976 (fun _ => 0)) := by rw [e10]; exact sUp_ne (by omega) f9_mb
  have f10_mq : s10.2 (t + 2) = some (eI k 12 (fun _ => 0)) := by rw [e10]; exact sUp_ne (by omega) f9_mq
  have f10_mr : s10.2 (t + 3) = some (eB k 250563 (fun _ => 0)) := by rw [e10]; exact sUp_ne (by omega) f9_mr
  have g10 : ∀ b, b < t → b ≠ a → s10.2 b = σ.2 b := fun b h0 h1 => by rw [e10]; exact sUp_ne (by omega) (g9 b h0 h1)
  clear e10 g9 f9_o f9_ml f9_mb f9_mq f9_mr z9
  refine r_aload_n S dX12_init_47 rfl ?_
  refine r_sipush S dX12_init_48 (by decide) ?_
  refine r_newIN S (4096) (by omega) wd_134 dX12_init_51 (by omega) (by omega) (by omega) ?_
  refine V.name (fun s11 e11 => ?_)
  have z11 : s11.1 = (t + 5) := by rw [e11]; show s10.1 + 1 = _; rw [z10]
  have f11_o : s11.2 a = some (.inr (11, [.int 0, .int 0, .int 0, .int 0, .int 0, .int (iZ (-1)), .ref t, .ref (t + 1), .int 0, .int 0, .ref (t + 2), .long 0, .ref (t + 3), .int (iZ (-1)), .int 0, .null, .null, .null, .null, .null, .null])) := by rw [e11]; exact sNew_ne (by omega) f10_o
  have f11_ml : s11.2 t = some (eI k 16 (fun _ => 0)) := by rw [e11]; exact sNew_ne (by omega) f10_ml
  have f11_mb : s11.2 (t + 1) = some (eI k 976 (fun _ => 0)) := by rw [e11]; exact sNew_ne (by omega) f10_mb
  have f11_mq : s11.2 (t + 2) = some (eI k 12 (fun _ => 0)) := by rw [e11]; exact sNew_ne (by omega) f10_mq
  have f11_mr : s11.2 (t + 3) = some (eB k 250563 (fun _ => 0)) := by rw [e11]; exact sNew_ne (by omega) f10_mr
  have f11_ms : s11.2 (t + 4) = some (eI k 4096 (fun _ => 0)) := by rw [e11]; exact sNew_at z10
  have g11 : ∀ b, b < t → b ≠ a → s11.2 b = σ.2 b := fun b h0 h1 => by rw [e11]; exact sNew_ne (by omega) (g10 b h0 h1)
  rw [z10]
  clear e11 g10 f10_o f10_ml f10_mb f10_mq f10_mr z10
  refine r_putF S p_RX12_31_11 dX12_init_53 (by first | rfl | decide) (by first | rfl | decide) (by repeat (first | assumption | exact sUp_same | exact sNew_same | refine sUp_ne (by first | assumption | omega) ?_)) (Nat.le_of_ble_eq_true rfl) (fs' := [_, _, _, _, _, _, _, _, _, _, _, _, _, _, _, _, _, _, _, _, _]) rfl ?_
  refine V.name (fun s12 e12 => ?_)
  have z12 : s12.1 = (t + 5) := by rw [e12]; exact z11
  have f12_o : s12.2 a = some (.inr (11, [.int 0, .int 0, .int 0, .int 0, .int 0, .int (iZ (-1)), .ref t, .ref (t + 1), .int 0, .int 0, .ref (t + 2), .long 0, .ref (t + 3), .int (iZ (-1)), .int 0, .ref (t + 4), .null, .null, .null, .null, .null])) := by rw [e12]; exact sUp_same
  have f12_ml : s12.2 t = some (eI k 16 (fun _ => 0)) := by rw [e12]; exact sUp_ne (by omega) f11_ml
  have f12_mb : s12.2 (t + 1) = some (eI k 976 (fun _ => 0)) := by rw [e12]; exact sUp_ne (by omega) f11_mb
  have f12_mq : s12.2 (t + 2) = some (eI k 12 (fun _ => 0)) := by rw [e12]; exact sUp_ne (by omega) f11_mq
  have f12_mr : s12.2 (t + 3) = some (eB k 250563 (fun _ => 0)) := by rw [e12]; exact sUp_ne (by omega) f11_mr
  have f12_ms : s12.2 (t + 4) = some (eI k 4096 (fun _ => 0)) := by rw [e12]; exact sUp_ne (by omega) f11_ms
  have g12 : ∀ b, b < t → b ≠ a → s12.2 b = σ.2 b := fun b h0 h1 => by rw [e12]; exact sUp_ne (by omega) (g11 b h0 h1)
  clear e12 g11 f11_o f11_ml f11_mb f11_mq f11_mr f11_ms z11
  refine r_aload_n S dX12_init_56 rfl ?_
  refine r_iconst S dX12_init_57 ?_
  refine r_newIN S (4) (by omega) wd_134 dX12_init_58 (by omega) (by omega) (by omega) ?_
  refine V.name (fun s13 e13 => ?_)
  have z13 : s13.1 = (t + 6) := by rw [e13]; show s12.1 + 1 = _; rw [z12]
  have f13_o : s13.2 a = some (.inr (11, [.int 0, .int 0, .int 0, .int 0, .int 0, .int (iZ (-1)), .ref t, .ref (t + 1), .int 0, .int 0, .ref (t + 2), .long 0, .ref (t + 3), .int (iZ (-1)), .int 0, .ref (t + 4), .null, .null, .null, .null, .null])) := by rw [e13]; exact sNew_ne (by omega) f12_o
  have f13_ml : s13.2 t = some (eI k 16 (fun _ => 0)) := by rw [e13]; exact sNew_ne (by omega) f12_ml
  have f13_mb : s13.2 (t + 1) = some (eI k 976 (fun _ => 0)) := by rw [e13]; exact sNew_ne (by omega) f12_mb
  have f13_mq : s13.2 (t + 2) = some (eI k 12 (fun _ => 0)) := by rw [e13]; exact sNew_ne (by omega) f12_mq
  have f13_mr : s13.2 (t + 3) = some (eB k 250563 (fun _ => 0)) := by rw [e13]; exact sNew_ne (by omega) f12_mr
  have f13_ms : s13.2 (t + 4) = some (eI k 4096 (fun _ => 0)) := by rw [e13]; exact sNew_ne (by omega) f12_ms
  have f13_mh : s13.2 (t + 5) = some (eI k 4 (fun _ => 0)) := by rw [e13]; exact sNew_at z12
  have g13 : ∀ b, b < t → b ≠ a → s13.2 b = σ.2 b := fun b h0 h1 => by rw [e13]; exact sNew_ne (by omega) (g12 b h0 h1)
  rw [z12]
  clear e13 g12 f12_o f12_ml f12_mb f12_mq f12_mr f12_ms z12
  refine r_putF S p_RX12_34_11 dX12_init_60 (by first | rfl | decide) (by first | rfl | decide) (by repeat (first | assumption | exact sUp_same | exact sNew_same | refine sUp_ne (by first | assumption | omega) ?_)) (Nat.le_of_ble_eq_true rfl) (fs' := [_, _, _, _, _, _, _, _, _, _, _, _, _, _, _, _, _, _, _, _, _]) rfl ?_
  refine V.name (fun s14 e14 => ?_)
  have z14 : s14.1 = (t + 6) := by rw [e14]; exact z13
  have f14_o : s14.2 a = some (.inr (11, [.int 0, .int 0, .int 0, .int 0, .int 0, .int (iZ (-1)), .ref t, .ref (t + 1), .int 0, .int 0, .ref (t + 2), .long 0, .ref (t + 3), .int (iZ (-1)), .int 0, .ref (t + 4), .ref (t + 5), .null, .null, .null, .null])) := by rw [e14]; exact sUp_same
  have f14_ml : s14.2 t = some (eI k 16 (fun _ => 0)) := by rw [e14]; exact sUp_ne (by omega) f13_ml
  have f14_mb : s14.2 (t + 1) = some (eI k 976 (fun _ => 0)) := by rw [e14]; exact sUp_ne (by omega) f13_mb
  have f14_mq : s14.2 (t + 2) = some (eI k 12 (fun _ => 0)) := by rw [e14]; exact sUp_ne (by omega) f13_mq
  have f14_mr : s14.2 (t + 3) = some (eB k 250563 (fun _ => 0)) := by rw [e14]; exact sUp_ne (by omega) f13_mr
  have f14_ms : s14.2 (t + 4) = some (eI k 4096 (fun _ => 0)) := by rw [e14]; exact sUp_ne (by omega) f13_ms
  have f14_mh : s14.2 (t + 5) = some (eI k 4 (fun _ => 0)) := by rw [e14]; exact sUp_ne (by omega) f13_mh
  have g14 : ∀ b, b < t → b ≠ a → s14.2 b = σ.2 b := fun b h0 h1 => by rw [e14]; exact sUp_ne (by omega) (g13 b h0 h1)
  clear e14 g13 f13_o f13_ml f13_mb f13_mq f13_mr f13_ms f13_mh z13
  refine r_aload_n S dX12_init_63 rfl ?_
  refine r_iconst S dX12_init_64 ?_
  refine r_newIN S (4) (by omega) wd_134 dX12_init_65 (by omega) (by omega) (by omega) ?_
  refine V.name (fun s15 e15 => ?_)
  have z15 : s15.1 = (t + 7) := by rw [e15]; show s14.1 + 1 = _; rw [z14]
  have f15_o : s15.2 a = some (.inr (11, [.int 0, .int 0, .int 0, .int 0, .int 0, .int (iZ (-1)), .ref t, .ref (t + 1), .int 0, .int 0, .ref (t + 2), .long 0, .ref (t + 3), .int (iZ (-1)), .int 0, .ref (t + 4), .ref (t + 5), .null, .null, .null, .null])) := by rw [e15]; exact sNew_ne (by omega) f14_o
  have f15_ml : s15.2 t = some (eI k 16 (fun _ => 0)) := by rw [e15]; exact sNew_ne (by omega) f14_ml
  have f15_mb : s15.2 (t + 1) = some (eI k 976 (fun _ => 0)) := by rw [e15]; exact sNew_ne (by omega) f14_mb
  have f15_mq : s15.2 (t + 2) = some (eI k 12 (fun _ => 0)) := by rw [e15]; exact sNew_ne (by omega) f14_mq
  have f15_mr : s15.2 (t + 3) = some (eB k 250563 (fun _ => 0)) := by rw [e15]; exact sNew_ne (by omega) f14_mr
  have f15_ms : s15.2 (t + 4) = some (eI k 4096 (fun _ => 0)) := by rw [e15]; exact sNew_ne (by omega) f14_ms
  have f15_mh : s15.2 (t + 5) = some (eI k 4 (fun _ => 0)) := by rw [e15]; exact sNew_ne (by omega) f14_mh
  have f15_md : s15.2 (t + 6) = some (eI k 4 (fun _ => 0)) := by rw [e15]; exact sNew_at z14
  have g15 : ∀ b, b < t → b ≠ a → s15.2 b = σ.2 b := fun b h0 h1 => by rw [e15]; exact sNew_ne (by omega) (g14 b h0 h1)
  rw [z14]
  clear e15 g14 f14_o f14_ml f14_mb f14_mq f14_mr f14_ms f14_mh z14
  refine r_putF S p_RX12_37_11 dX12_init_67 (by first | rfl | decide) (by first | rfl | decide) (by repeat (first | assumption | exact sUp_same | exact sNew_same | refine sUp_ne (by first | assumption | omega) ?_)) (Nat.le_of_ble_eq_true rfl) (fs' := [_, _, _, _, _, _, _, _, _, _, _, _, _, _, _, _, _, _, _, _, _]) rfl ?_
  refine V.name (fun s16 e16 => ?_)
  have z16 : s16.1 = (t + 7) := by rw [e16]; exact z15
  have f16_o : s16.2 a = some (.inr (11, [.int 0, .int 0, .int 0, .int 0, .int 0, .int (iZ (-1)), .ref t, .ref (t + 1), .int 0, .int 0, .ref (t + 2), .long 0, .ref (t + 3), .int (iZ (-1)), .int 0, .ref (t + 4), .ref (t + 5), .ref (t + 6), .null, .null, .null])) := by rw [e16]; exact sUp_same
  have f16_ml : s16.2 t = some (eI k 16 (fun _ => 0)) := by rw [e16]; exact sUp_ne (by omega) f15_ml
  have f16_mb : s16.2 (t + 1) = some (eI k 976 (fun _ => 0)) := by rw [e16]; exact sUp_ne (by omega) f15_mb
  have f16_mq : s16.2 (t + 2) = some (eI k 12 (fun _ => 0)) := by rw [e16]; exact sUp_ne (by omega) f15_mq
  have f16_mr : s16.2 (t + 3) = some (eB k 250563 (fun _ => 0)) := by rw [e16]; exact sUp_ne (by omega) f15_mr
  have f16_ms : s16.2 (t + 4) = some (eI k 4096 (fun _ => 0)) := by rw [e16]; exact sUp_ne (by omega) f15_ms
  have f16_mh : s16.2 (t + 5) = some (eI k 4 (fun _ => 0)) := by rw [e16]; exact sUp_ne (by omega) f15_mh
  have f16_md : s16.2 (t + 6) = some (eI k 4 (fun _ => 0)) := by rw [e16]; exact sUp_ne (by omega) f15_md
  have g16 : ∀ b, b < t → b ≠ a → s16.2 b = σ.2 b := fun b h0 h1 => by rw [e16]; exact sUp_ne (by omega) (g15 b h0 h1)
  clear e16 g15 f15_o f15_ml f15_mb f15_mq f15_mr f15_ms f15_mh f15_md z15
  refine r_aload_n S dX12_init_70 rfl ?_
  refine r_iconst S dX12_init_71 ?_
  refine r_newIN S (4) (by omega) wd_134 dX12_init_72 (by omega) (by omega) (by omega) ?_
  refine V.name (fun s17 e17 => ?_)
  have z17 : s17.1 = (t + 8) := by rw [e17]; show s16.1 + 1 = _; rw [z16]
  have f17_o : s17.2 a = some (.inr (11, [.int 0, .int 0, .int 0, .int 0, .int 0, .int (iZ (-1)), .ref t, .ref (t + 1), .int 0, .int 0, .ref (t + 2), .long 0, .ref (t + 3), .int (iZ (-1)), .int 0, .ref (t + 4), .ref (t + 5), .ref (t + 6), .null, .null, .null])) := by rw [e17]; exact sNew_ne (by omega) f16_o
  have f17_ml : s17.2 t = some (eI k 16 (fun _ => 0)) := by rw [e17]; exact sNew_ne (by omega) f16_ml
  have f17_mb : s17.2 (t + 1) = some (eI k 976 (fun _ => 0)) := by rw [e17]; exact sNew_ne (by omega) f16_mb
  have f17_mq : s17.2 (t + 2) = some (eI k 12 (fun _ => 0)) := by rw [e17]; exact sNew_ne (by omega) f16_mq
  have f17_mr : s17.2 (t + 3) = some (eB k 250563 (fun _ => 0)) := by rw [e17]; exact sNew_ne (by omega) f16_mr
  have f17_ms : s17.2 (t + 4) = some (eI k 4096 (fun _ => 0)) := by rw [e17]; exact sNew_ne (by omega) f16_ms
  have f17_mh : s17.2 (t + 5) = some (eI k 4 (fun _ => 0)) := by rw [e17]; exact sNew_ne (by omega) f16_mh
  have f17_md : s17.2 (t + 6) = some (eI k 4 (fun _ => 0)) := by rw [e17]; exact sNew_ne (by omega) f16_md
  have f17_mc : s17.2 (t + 7) = some (eI k 4 (fun _ => 0)) := by rw [e17]; exact sNew_at z16
  have g17 : ∀ b, b < t → b ≠ a → s17.2 b = σ.2 b := fun b h0 h1 => by rw [e17]; exact sNew_ne (by omega) (g16 b h0 h1)
  rw [z16]
  clear e17 g16 f16_o f16_ml f16_mb f16_mq f16_mr f16_ms f16_mh f16_md z16
  refine r_putF S p_RX12_40_11 dX12_init_74 (by first | rfl | decide) (by first | rfl | decide) (by repeat (first | assumption | exact sUp_same | exact sNew_same | refine sUp_ne (by first | assumption | omega) ?_)) (Nat.le_of_ble_eq_true rfl) (fs' := [_, _, _, _, _, _, _, _, _, _, _, _, _, _, _, _, _, _, _, _, _]) rfl ?_
  refine V.name (fun s18 e18 => ?_)
  have z18 : s18.1 = (t + 8) := by rw [e18]; exact z17
  have f18_o : s18.2 a = some (.inr (11, [.int 0, .int 0, .int 0, .int 0, .int 0, .int (iZ (-1)), .ref t, .ref (t + 1), .int 0, .int 0, .ref (t + 2), .long 0, .ref (t + 3), .int (iZ (-1)), .int 0, .ref (t + 4), .ref (t + 5), .ref (t + 6), .ref (t + 7), .null, .null])) := by rw [e18]; exact sUp_same
  have f18_ml : s18.2 t = some (eI k 16 (fun _ => 0)) := by rw [e18]; exact sUp_ne (by omega) f17_ml
  have f18_mb : s18.2 (t + 1) = some (eI k 976 (fun _ => 0)) := by rw [e18]; exact sUp_ne (by omega) f17_mb
  have f18_mq : s18.2 (t + 2) = some (eI k 12 (fun _ => 0)) := by rw [e18]; exact sUp_ne (by omega) f17_mq
  have f18_mr : s18.2 (t + 3) = some (eB k 250563 (fun _ => 0)) := by rw [e18]; exact sUp_ne (by omega) f17_mr
  have f18_ms : s18.2 (t + 4) = some (eI k 4096 (fun _ => 0)) := by rw [e18]; exact sUp_ne (by omega) f17_ms
  have f18_mh : s18.2 (t + 5) = some (eI k 4 (fun _ => 0)) := by rw [e18]; exact sUp_ne (by omega) f17_mh
  have f18_md : s18.2 (t + 6) = some (eI k 4 (fun _ => 0)) := by rw [e18]; exact sUp_ne (by omega) f17_md
  have f18_mc : s18.2 (t + 7) = some (eI k 4 (fun _ => 0)) := by rw [e18]; exact sUp_ne (by omega) f17_mc
  have g18 : ∀ b, b < t → b ≠ a → s18.2 b = σ.2 b := fun b h0 h1 => by rw [e18]; exact sUp_ne (by omega) (g17 b h0 h1)
  clear e18 g17 f17_o f17_ml f17_mb f17_mq f17_mr f17_ms f17_mh f17_md f17_mc z17
  refine r_aload_n S dX12_init_77 rfl ?_
  refine r_iconst S dX12_init_78 ?_
  refine r_newIN S (4) (by omega) wd_134 dX12_init_79 (by omega) (by omega) (by omega) ?_
  refine V.name (fun s19 e19 => ?_)
  have z19 : s19.1 = (t + 9) := by rw [e19]; show s18.1 + 1 = _; rw [z18]
  have f19_o : s19.2 a = some (.inr (11, [.int 0, .int 0, .int 0, .int 0, .int 0, .int (iZ (-1)), .ref t, .ref (t + 1), .int 0, .int 0, .ref (t + 2), .long 0, .ref (t + 3), .int (iZ (-1)), .int 0, .ref (t + 4), .ref (t + 5), .ref (t + 6), .ref (t + 7), .null, .null])) := by rw [e19]; exact sNew_ne (by omega) f18_o
  have f19_ml : s19.2 t = some (eI k 16 (fun _ => 0)) := by rw [e19]; exact sNew_ne (by omega) f18_ml
  have f19_mb : s19.2 (t + 1) = some (eI k 976 (fun _ => 0)) := by rw [e19]; exact sNew_ne (by omega) f18_mb
  have f19_mq : s19.2 (t + 2) = some (eI k 12 (fun _ => 0)) := by rw [e19]; exact sNew_ne (by omega) f18_mq
  have f19_mr : s19.2 (t + 3) = some (eB k 250563 (fun _ => 0)) := by rw [e19]; exact sNew_ne (by omega) f18_mr
  have f19_ms : s19.2 (t + 4) = some (eI k 4096 (fun _ => 0)) := by rw [e19]; exact sNew_ne (by omega) f18_ms
  have f19_mh : s19.2 (t + 5) = some (eI k 4 (fun _ => 0)) := by rw [e19]; exact sNew_ne (by omega) f18_mh
  have f19_md : s19.2 (t + 6) = some (eI k 4 (fun _ => 0)) := by rw [e19]; exact sNew_ne (by omega) f18_md
  have f19_mc : s19.2 (t + 7) = some (eI k 4 (fun _ => 0)) := by rw [e19]; exact sNew_ne (by omega) f18_mc
  have f19_mm : s19.2 (t + 8) = some (eI k 4 (fun _ => 0)) := by rw [e19]; exact sNew_at z18
  have g19 : ∀ b, b < t → b ≠ a → s19.2 b = σ.2 b := fun b h0 h1 => by rw [e19]; exact sNew_ne (by omega) (g18 b h0 h1)
  rw [z18]
  clear e19 g18 f18_o f18_ml f18_mb f18_mq f18_mr f18_ms f18_mh f18_md f18_mc z18
  refine r_putF S p_RX12_43_11 dX12_init_81 (by first | rfl | decide) (by first | rfl | decide) (by repeat (first | assumption | exact sUp_same | exact sNew_same | refine sUp_ne (by first | assumption | omega) ?_)) (Nat.le_of_ble_eq_true rfl) (fs' := [_, _, _, _, _, _, _, _, _, _, _, _, _, _, _, _, _, _, _, _, _]) rfl ?_
  refine V.name (fun s20 e20 => ?_)
  have z20 : s20.1 = (t + 9) := by rw [e20]; exact z19
  have f20_o : s20.2 a = some (.inr (11, [.int 0, .int 0, .int 0, .int 0, .int 0, .int (iZ (-1)), .ref t, .ref (t + 1), .int 0, .int 0, .ref (t + 2), .long 0, .ref (t + 3), .int (iZ (-1)), .int 0, .ref (t + 4), .ref (t + 5), .ref (t + 6), .ref (t + 7), .ref (t + 8), .null])) := by rw [e20]; exact sUp_same
  have f20_ml : s20.2 t = some (eI k 16 (fun _ => 0)) := by rw [e20]; exact sUp_ne (by omega) f19_ml
  have f20_mb : s20.2 (t + 1) = some (eI k 976 (fun _ => 0)) := by rw [e20]; exact sUp_ne (by omega) f19_mb
  have f20_mq : s20.2 (t + 2) = some (eI k 12 (fun _ => 0)) := by rw [e20]; exact sUp_ne (by omega) f19_mq
  have f20_mr : s20.2 (t + 3) = some (eB k 250563 (fun _ => 0)) := by rw [e20]; exact sUp_ne (by omega) f19_mr
  have f20_ms : s20.2 (t + 4) = some (eI k 4096 (fun _ => 0)) := by rw [e20]; exact sUp_ne (by omega) f19_ms
  have f20_mh : s20.2 (t + 5) = some (eI k 4 (fun _ => 0)) := by rw [e20]; exact sUp_ne (by omega) f19_mh
  have f20_md : s20.2 (t + 6) = some (eI k 4 (fun _ => 0)) := by rw [e20]; exact sUp_ne (by omega) f19_md
  have f20_mc : s20.2 (t + 7) = some (eI k 4 (fun _ => 0)) := by rw [e20]; exact sUp_ne (by omega) f19_mc
  have f20_mm : s20.2 (t + 8) = some (eI k 4 (fun _ => 0)) := by rw [e20]; exact sUp_ne (by omega) f19_mm
  have g20 : ∀ b, b < t → b ≠ a → s20.2 b = σ.2 b := fun b h0 h1 => by rw [e20]; exact sUp_ne (by omega) (g19 b h0 h1)
  clear e20 g19 f19_o f19_ml f19_mb f19_mq f19_mr f19_ms f19_mh f19_md f19_mc f19_mm z19
  refine r_aload_n S dX12_init_84 rfl ?_
  refine r_bipush S dX12_init_85 (by decide) ?_
  refine r_newIN S (16) (by omega) wd_134 dX12_init_87 (by omega) (by omega) (by omega) ?_
  refine V.name (fun s21 e21 => ?_)
  have z21 : s21.1 = (t + 10) := by rw [e21]; show s20.1 + 1 = _; rw [z20]
  have f21_o : s21.2 a = some (.inr (11, [.int 0, .int 0, .int 0, .int 0, .int 0, .int (iZ (-1)), .ref t, .ref (t + 1), .int 0, .int 0, .ref (t + 2), .long 0, .ref (t + 3), .int (iZ (-1)), .int 0, .ref (t + 4), .ref (t + 5), .ref (t + 6), .ref (t + 7), .ref (t + 8), .null])) := by rw [e21]; exact sNew_ne (by omega) f20_o
  have f21_ml : s21.2 t = some (eI k 16 (fun _ => 0)) := by rw [e21]; exact sNew_ne (by omega) f20_ml
  have f21_mb : s21.2 (t + 1) = some (eI k 976 (fun _ => 0)) := by rw [e21]; exact sNew_ne (by omega) f20_mb
  have f21_mq : s21.2 (t + 2) = some (eI k 12 (fun _ => 0)) := by rw [e21]; exact sNew_ne (by omega) f20_mq
  have f21_mr : s21.2 (t + 3) = some (eB k 250563 (fun _ => 0)) := by rw [e21]; exact sNew_ne (by omega) f20_mr
  have f21_ms : s21.2 (t + 4) = some (eI k 4096 (fun _ => 0)) := by rw [e21]; exact sNew_ne (by omega) f20_ms
  have f21_mh : s21.2 (t + 5) = some (eI k 4 (fun _ => 0)) := by rw [e21]; exact sNew_ne (by omega) f20_mh
  have f21_md : s21.2 (t + 6) = some (eI k 4 (fun _ => 0)) := by rw [e21]; exact sNew_ne (by omega) f20_md
  have f21_mc : s21.2 (t + 7) = some (eI k 4 (fun _ => 0)) := by rw [e21]; exact sNew_ne (by omega) f20_mc
  have f21_mm : s21.2 (t + 8) = some (eI k 4 (fun _ => 0)) := by rw [e21]; exact sNew_ne (by omega) f20_mm
  have f21_mt : s21.2 (t + 9) = some (eI k 16 (fun _ => 0)) := by rw [e21]; exact sNew_at z20
  have g21 : ∀ b, b < t → b ≠ a → s21.2 b = σ.2 b := fun b h0 h1 => by rw [e21]; exact sNew_ne (by omega) (g20 b h0 h1)
  rw [z20]
  clear e21 g20 f20_o f20_ml f20_mb f20_mq f20_mr f20_ms f20_mh f20_md f20_mc f20_mm z20
  refine r_putF S p_RX12_46_11 dX12_init_89 (by first | rfl | decide) (by first | rfl | decide) (by repeat (first | assumption | exact sUp_same | exact sNew_same | refine sUp_ne (by first | assumption | omega) ?_)) (Nat.le_of_ble_eq_true rfl) (fs' := [_, _, _, _, _, _, _, _, _, _, _, _, _, _, _, _, _, _, _, _, _]) rfl ?_
  refine V.name (fun s22 e22 => ?_)
  have z22 : s22.1 = (t + 10) := by rw [e22]; exact z21
  have f22_o : s22.2 a = some (.inr (11, [.int 0, .int 0, .int 0, .int 0, .int 0, .int (iZ (-1)), .ref t, .ref (t + 1), .int 0, .int 0, .ref (t + 2), .long 0, .ref (t + 3), .int (iZ (-1)), .int 0, .ref (t + 4), .ref (t + 5), .ref (t + 6), .ref (t + 7), .ref (t + 8), .ref (t + 9)])) := by rw [e22]; exact sUp_same
  have f22_ml : s22.2 t = some (eI k 16 (fun _ => 0)) := by rw [e22]; exact sUp_ne (by omega) f21_ml
  have f22_mb : s22.2 (t + 1) = some (eI k 976 (fun _ => 0)) := by rw [e22]; exact sUp_ne (by omega) f21_mb
  have f22_mq : s22.2 (t + 2) = some (eI k 12 (fun _ => 0)) := by rw [e22]; exact sUp_ne (by omega) f21_mq
  have f22_mr : s22.2 (t + 3) = some (eB k 250563 (fun _ => 0)) := by rw [e22]; exact sUp_ne (by omega) f21_mr
  have f22_ms : s22.2 (t + 4) = some (eI k 4096 (fun _ => 0)) := by rw [e22]; exact sUp_ne (by omega) f21_ms
  have f22_mh : s22.2 (t + 5) = some (eI k 4 (fun _ => 0)) := by rw [e22]; exact sUp_ne (by omega) f21_mh
  have f22_md : s22.2 (t + 6) = some (eI k 4 (fun _ => 0)) := by rw [e22]; exact sUp_ne (by omega) f21_md
  have f22_mc : s22.2 (t + 7) = some (eI k 4 (fun _ => 0)) := by rw [e22]; exact sUp_ne (by omega) f21_mc
  have f22_mm : s22.2 (t + 8) = some (eI k 4 (fun _ => 0)) := by rw [e22]; exact sUp_ne (by omega) f21_mm
  have f22_mt : s22.2 (t + 9) = some (eI k 16 (fun _ => 0)) := by rw [e22]; exact sUp_ne (by omega) f21_mt
  have g22 : ∀ b, b < t → b ≠ a → s22.2 b = σ.2 b := fun b h0 h1 => by rw [e22]; exact sUp_ne (by omega) (g21 b h0 h1)
  clear e22 g21 f21_o f21_ml f21_mb f21_mq f21_mr f21_ms f21_mh f21_md f21_mc f21_mm f21_mt z21
  refine r_aload_n S dX12_init_92 rfl ?_
  refine r_iconst S dX12_init_93 ?_
  refine r_putf S p_RX12_49_11 dX12_init_94 (by first | rfl | decide) (by first | rfl | decide) (by repeat (first | assumption | exact sUp_same | exact sNew_same | refine sUp_ne (by first | assumption | omega) ?_)) (Nat.le_of_ble_eq_true rfl) (fs' := [_, _, _, _, _, _, _, _, _, _, _, _, _, _, _, _, _, _, _, _, _]) rfl ?_
  refine V.name (fun s23 e23 => ?_)
  have z23 : s23.1 = (t + 10) := by rw [e23]; exact z22
  have f23_o : s23.2 a = some (.inr (11, [.int (iZ 0), .int 0, .int 0, .int 0, .int 0, .int (iZ (-1)), .ref t, .ref (t + 1), .int 0, .int 0, .ref (t + 2), .long 0, .ref (t + 3), .int (iZ (-1)), .int 0, .ref (t + 4), .ref (t + 5), .ref (t + 6), .ref (t + 7), .ref (t + 8), .ref (t + 9)])) := by rw [e23]; exact sUp_same
  have f23_ml : s23.2 t = some (eI k 16 (fun _ => 0)) := by rw [e23]; exact sUp_ne (by omega) f22_ml
  have f23_mb : s23.2 (t + 1) = some (eI k 976 (fun _ => 0)) := by rw [e23]; exact sUp_ne (by omega) f22_mb
  have f23_mq : s23.2 (t + 2) = some (eI k 12 (fun _ => 0)) := by rw [e23]; exact sUp_ne (by omega) f22_mq
  have f23_mr : s23.2 (t + 3) = some (eB k 250563 (fun _ => 0)) := by rw [e23]; exact sUp_ne (by omega) f22_mr
  have f23_ms : s23.2 (t + 4) = some (eI k 4096 (fun _ => 0)) := by rw [e23]; exact sUp_ne (by omega) f22_ms
  have f23_mh : s23.2 (t + 5) = some (eI k 4 (fun _ => 0)) := by rw [e23]; exact sUp_ne (by omega) f22_mh
  have f23_md : s23.2 (t + 6) = some (eI k 4 (fun _ => 0)) := by rw [e23]; exact sUp_ne (by omega) f22_md
  have f23_mc : s23.2 (t + 7) = some (eI k 4 (fun _ => 0)) := by rw [e23]; exact sUp_ne (by omega) f22_mc
  have f23_mm : s23.2 (t + 8) = some (eI k 4 (fun _ => 0)) := by rw [e23]; exact sUp_ne (by omega) f22_mm
  have f23_mt : s23.2 (t + 9) = some (eI k 16 (fun _ => 0)) := by rw [e23]; exact sUp_ne (by omega) f22_mt
  have g23 : ∀ b, b < t → b ≠ a → s23.2 b = σ.2 b := fun b h0 h1 => by rw [e23]; exact sUp_ne (by omega) (g22 b h0 h1)
  clear e23 g22 f22_o f22_ml f22_mb f22_mq f22_mr f22_ms f22_mh f22_md f22_mc f22_mm f22_mt z22
  exact r_vret S dX12_init_97 (by omega) (by omega) (by first | (rw [z0]; exact ⟨rfl, z23, f23_o, f23_ml, f23_mb, f23_mq, f23_mr, f23_ms, f23_mh, f23_md, f23_mc, f23_mm, f23_mt, g23⟩) | exact ⟨rfl, z23, f23_o, f23_ml, f23_mb, f23_mq, f23_mr, f23_ms, f23_mh, f23_md, f23_mc, f23_mm, f23_mt, g23⟩)
