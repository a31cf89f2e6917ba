/-! constructors -/
theorem V.name {κ : Kx} {k : Cx} {nL cs ss pc : Nat} {Q : State → Prop} {lv : List (Option Value)} {st : List Value} {σ : St} (kk : ∀ s : St, s = σ → V κ k nL cs ss Q pc lv st s) : V κ k nL cs ss Q pc lv st σ := kk σ rfl
section VNEW
variable {κ : Kx} {k : Cx} {cc : ByteArray} {nL : Nat} {own : String} {ret : Option FieldType} {nm : String} {h MC MS : Nat} {cs ss : Nat} {Q : State → Prop} {pc : Nat} {lv lv' : List (Option Value)} {st : List Value} {σ : St}
theorem r_newIN (S : Ok κ k cc nL own ret nm h MC MS) {z : Int} (n : Nat) (hz : z = (n : Int)) (hw : Cond.arrayClass .int ∈ gt) (d : decode cc pc = .ok (.newarray .int, 2)) (h0 : n ≤ 1000000) (h1 : cs + 1 ≤ MC) (h2 : ss + n ≤ MS) (kk : V κ k nL (cs + 1) (ss + n) Q (pc + 2) lv (.ref σ.1 :: st) (sNew σ (eI k n (fun _ => 0)))) : V κ k nL cs ss Q pc lv (.int (iZ z) :: st) σ := by
  subst hz
  exact r_newI S hw d ⟨by omega, by omega⟩ h1 (by rw [Int.toNat_natCast]; exact h2) (by rw [Int.toNat_natCast]; exact kk)
theorem r_newBN (S : Ok κ k cc nL own ret nm h MC MS) {z : Int} (n : Nat) (hz : z = (n : Int)) (hw : Cond.arrayClass .byte ∈ gt) (d : decode cc pc = .ok (.newarray .byte, 2)) (h0 : n ≤ 1000000) (h1 : cs + 1 ≤ MC) (h2 : ss + n ≤ MS) (kk : V κ k nL (cs + 1) (ss + n) Q (pc + 2) lv (.ref σ.1 :: st) (sNew σ (eB k n (fun _ => 0)))) : V κ k nL cs ss Q pc lv (.int (iZ z) :: st) σ := by
  subst hz
  exact r_newB S hw d ⟨by omega, by omega⟩ h1 (by rw [Int.toNat_natCast]; exact h2) (by rw [Int.toNat_natCast]; exact kk)
theorem r_newQN (S : Ok κ k cc nL own ret nm h MC MS) {z : Int} (n : Nat) (hz : z = (n : Int)) {idx t0 : Nat} {cA : ClassId} {C : String} (ht : (cTys k)[t0]? = some (cA, .object C)) (hw : Cond.classLink own idx C ∈ gt) (hw2 : Cond.arrayOver (.object C) ∈ lw_tbl) (d : decode cc pc = .ok (.anewarray idx, 3)) (h0 : n ≤ 1000000) (h1 : cs + 1 ≤ MC) (h2 : ss + n ≤ MS) (kk : V κ k nL (cs + 1) (ss + n) Q (pc + 3) lv (.ref σ.1 :: st) (sNew σ (eQ cA n (fun _ => none)))) : V κ k nL cs ss Q pc lv (.int (iZ z) :: st) σ := by
  subst hz
  exact r_newQ S ht hw hw2 d ⟨by omega, by omega⟩ h1 (by rw [Int.toNat_natCast]; exact h2) (by rw [Int.toNat_natCast]; exact kk)
end VNEW
theorem sNew_at {σ : St} {e : va_E} {a : Nat} (h : σ.1 = a) : (sNew σ e).2 a = some e := by rw [← h]; exact sNew_same
set_option maxRecDepth 100000 in
set_option maxHeartbeats 4000000 in
theorem c_init7 {k : Cx} {L0 : Launch} {σ : St} {a : Nat} : CtrU k L0 mX7_init 1 0 0 [.ref a] σ (fun σ' => σ' = σ) := by
  refine Ctr.of (by decide +kernel) rfl (Nat.le_of_ble_eq_true rfl) ?_
  intro κ hl0 S
  subst hl0
  refine r_aload_n S dX7_init_0 rfl ?_
  refine r_objInit S wd_59 ks_obj dX7_init_1 (by decide) (Nat.le_of_ble_eq_true rfl) ?_
  exact r_vret S dX7_init_4 (by omega) (by omega) (⟨rfl, rfl⟩)

set_option maxRecDepth 100000 in
set_option maxHeartbeats 4000000 in
theorem c_init1 {k : Cx} {L0 : Launch} {σ : St} {a : Nat} : CtrU k L0 mX1_init 2 0 0 [.ref a] σ (fun σ' => σ' = σ) := by
  refine Ctr.of (by decide +kernel) rfl (Nat.le_of_ble_eq_true rfl) ?_
  intro κ hl0 S
  subst hl0
  refine r_aload_n S dX1_init_0 rfl ?_
  refine r_callIN S (c_init7) k_mX7_init c_RX1_3 dX1_init_1 (by decide) ⟨by omega, by omega⟩ rfl rfl (Nat.le_of_ble_eq_true rfl) (fun r σ' hp => ?_)
  obtain ⟨rfl, rfl⟩ := hp
  try simp only [Option.toList_some, Option.toList_none, List.cons_append, List.nil_append]
  exact r_vret S dX1_init_4 (by omega) (by omega) (⟨rfl, rfl⟩)

set_option maxRecDepth 100000 in
set_option maxHeartbeats 4000000 in
theorem c_init10 {k : Cx} {L0 : Launch} {σ : St} {a : Nat} : CtrU k L0 mX10_init 3 0 0 [.ref a] σ (fun σ' => σ' = σ) := by
  refine Ctr.of (by decide +kernel) rfl (Nat.le_of_ble_eq_true rfl) ?_
  intro κ hl0 S
  subst hl0
  refine r_aload_n S dX10_init_0 rfl ?_
  refine r_callIN S (c_init1) k_mX1_init c_RX10_3 dX10_init_1 (by decide) ⟨by omega, by omega⟩ rfl rfl (Nat.le_of_ble_eq_true rfl) (fun r σ' hp => ?_)
  obtain ⟨rfl, rfl⟩ := hp
  try simp only [Option.toList_some, Option.toList_none, List.cons_append, List.nil_append]
  exact r_vret S dX10_init_4 (by omega) (by omega) (⟨rfl, rfl⟩)

set_option maxRecDepth 100000 in
set_option maxHeartbeats 4000000 in
theorem c_init9 {k : Cx} {L0 : Launch} {σ : St} {a : Nat} (hA : σ.2 a = some (.inr (8, [.long 0]))) : CtrU k L0 mX9_init 1 0 0 [.ref a] σ (fun σ' => σ' = sUp σ a (oTally 0)) := by
  refine Ctr.of (by decide +kernel) rfl (Nat.le_of_ble_eq_true rfl) ?_
  intro κ hl0 S
  subst hl0
  refine r_aload_n S dX9_init_0 rfl ?_
  refine r_objInit S wd_80 ks_obj dX9_init_1 (by decide) (Nat.le_of_ble_eq_true rfl) ?_
  refine r_aload_n S dX9_init_4 rfl ?_
  refine r_lconst S (z := 0) dX9_init_5 (by decide) ?_
  refine r_putf S p_RX9_7_8 dX9_init_6 (by first | rfl | decide) (by first | rfl | decide) (by repeat (first | assumption | exact sUp_same | exact sNew_same | refine sUp_ne (by first | assumption | omega) ?_)) (Nat.le_of_ble_eq_true rfl) (fs' := [_]) rfl ?_
  try simp only [sUp_sUp]
  exact r_vret S dX9_init_9 (by omega) (by omega) (⟨rfl, rfl⟩)

set_option maxRecDepth 100000 in
set_option maxHeartbeats 4000000 in
theorem c_init3 {k : Cx} {L0 : Launch} {σ : St} {a : Nat} (hA : σ.2 a = some (.inr (3, [.int 0, .int 0, .int 0, .int 0, .int 0, .int 0, .int 0, .int 0, .null]))) (ha : a < σ.1) : CtrU k L0 mX3_init 1 1 992 [.ref a] σ (fun σ' => σ'.1 = σ.1 + 1 ∧ σ'.2 a = some (.inr (3, [.int (iZ 0), .int (iZ 0), .int (iZ 0), .int (iZ 0), .int (iZ 0), .int (iZ (-1)), .int (iZ 0), .int (iZ 0), .ref σ.1])) ∧ σ'.2 σ.1 = some (eI k 992 (fun _ => 0)) ∧ ∀ b, b < σ.1 → b ≠ a → σ'.2 b = σ.2 b) := by
  refine Ctr.of (by decide +kernel) rfl (Nat.le_of_ble_eq_true rfl) ?_
  intro κ hl0 S
  subst hl0
  obtain ⟨t, z0⟩ : ∃ t, σ.1 = t := ⟨_, rfl⟩
  rw [z0] at ha
  have f0_o := hA
  have g0 : ∀ b, b < t → b ≠ a → σ.2 b = σ.2 b := fun _ _ _ => rfl
  refine r_aload_n S dX3_init_0 rfl ?_
  refine r_objInit S wd_98 ks_obj dX3_init_1 (by decide) (Nat.le_of_ble_eq_true rfl) ?_
  refine r_aload_n S dX3_init_4 rfl ?_
  refine r_iconst S dX3_init_5 ?_
  refine r_putf S p_RX3_9_3 dX3_init_6 (by first | rfl | decide) (by first | rfl | decide) (by repeat (first | assumption | exact sUp_same | exact sNew_same | refine sUp_ne (by first | assumption | omega) ?_)) (Nat.le_of_ble_eq_true rfl) (fs' := [_, _, _, _, _, _, _, _, _]) rfl ?_
  refine V.name (fun s1 e1 => ?_)
  have z1 : s1.1 = t := by rw [e1]; exact z0
  have f1_o : s1.2 a = some (.inr (3, [.int (iZ 0), .int 0, .int 0, .int 0, .int 0, .int 0, .int 0, .int 0, .null])) := by rw [e1]; exact sUp_same
  have g1 : ∀ b, b < t → b ≠ a → s1.2 b = σ.2 b := fun b h0 h1 => by rw [e1]; exact sUp_ne (by omega) (g0 b h0 h1)
  clear e1 g0 f0_o
  refine r_aload_n S dX3_init_9 rfl ?_
  refine r_iconst S dX3_init_10 ?_
  refine r_putf S p_RX3_15_3 dX3_init_11 (by first | rfl | decide) (by first | rfl | decide) (by repeat (first | assumption | exact sUp_same | exact sNew_same | refine sUp_ne (by first | assumption | omega) ?_)) (Nat.le_of_ble_eq_true rfl) (fs' := [_, _, _, _, _, _, _, _, _]) rfl ?_
  refine V.name (fun s2 e2 => ?_)
  have z2 : s2.1 = t := by rw [e2]; exact z1
  have f2_o : s2.2 a = some (.inr (3, [.int (iZ 0), .int (iZ 0), .int 0, .int 0, .int 0, .int 0, .int 0, .int 0, .null])) := by rw [e2]; exact sUp_same
  have g2 : ∀ b, b < t → b ≠ a → s2.2 b = σ.2 b := fun b h0 h1 => by rw [e2]; exact sUp_ne (by omega) (g1 b h0 h1)
  clear e2 g1 f1_o z1
  refine r_aload_n S dX3_init_14 rfl ?_
  refine r_iconst S dX3_init_15 ?_
  refine r_putf S p_RX3_19_3 dX3_init_16 (by first | rfl | decide) (by first | rfl | decide) (by repeat (first | assumption | exact sUp_same | exact sNew_same | refine sUp_ne (by first | assumption | omega) ?_)) (Nat.le_of_ble_eq_true rfl) (fs' := [_, _, _, _, _, _, _, _, _]) rfl ?_
  refine V.name (fun s3 e3 => ?_)
  have z3 : s3.1 = t := by rw [e3]; exact z2
  have f3_o : s3.2 a = some (.inr (3, [.int (iZ 0), .int (iZ 0), .int (iZ 0), .int 0, .int 0, .int 0, .int 0, .int 0, .null])) := by rw [e3]; exact sUp_same
  have g3 : ∀ b, b < t → b ≠ a → s3.2 b = σ.2 b := fun b h0 h1 => by rw [e3]; exact sUp_ne (by omega) (g2 b h0 h1)
  clear e3 g2 f2_o z2
  refine r_aload_n S dX3_init_19 rfl ?_
  refine r_iconst S dX3_init_20 ?_
  refine r_putf S p_RX3_22_3 dX3_init_21 (by first | rfl | decide) (by first | rfl | decide) (by repeat (first | assumption | exact sUp_same | exact sNew_same | refine sUp_ne (by first | assumption | omega) ?_)) (Nat.le_of_ble_eq_true rfl) (fs' := [_, _, _, _, _, _, _, _, _]) rfl ?_
  refine V.name (fun s4 e4 => ?_)
  have z4 : s4.1 = t := by rw [e4]; exact z3
  have f4_o : s4.2 a = some (.inr (3, [.int (iZ 0), .int (iZ 0), .int (iZ 0), .int (iZ 0), .int 0, .int 0, .int 0, .int 0, .null])) := by rw [e4]; exact sUp_same
  have g4 : ∀ b, b < t → b ≠ a → s4.2 b = σ.2 b := fun b h0 h1 => by rw [e4]; exact sUp_ne (by omega) (g3 b h0 h1)
  clear e4 g3 f3_o z3
  refine r_aload_n S dX3_init_24 rfl ?_
  refine r_iconst S dX3_init_25 ?_
  refine r_putf S p_RX3_25_3 dX3_init_26 (by first | rfl | decide) (by first | rfl | decide) (by repeat (first | assumption | exact sUp_same | exact sNew_same | refine sUp_ne (by first | assumption | omega) ?_)) (Nat.le_of_ble_eq_true rfl) (fs' := [_, _, _, _, _, _, _, _, _]) rfl ?_
  refine V.name (fun s5 e5 => ?_)
  have z5 : s5.1 = t := by rw [e5]; exact z4
  have f5_o : s5.2 a = some (.inr (3, [.int (iZ 0), .int (iZ 0), .int (iZ 0), .int (iZ 0), .int (iZ 0), .int 0, .int 0, .int 0, .null])) := by rw [e5]; exact sUp_same
  have g5 : ∀ b, b < t → b ≠ a → s5.2 b = σ.2 b := fun b h0 h1 => by rw [e5]; exact sUp_ne (by omega) (g4 b h0 h1)
  clear e5 g4 f4_o z4
  refine r_aload_n S dX3_init_29 rfl ?_
  refine r_iconst S dX3_init_30 ?_
  refine r_putf S p_RX3_28_3 dX3_init_31 (by first | rfl | decide) (by first | rfl | decide) (by repeat (first | assumption | exact sUp_same | exact sNew_same | refine sUp_ne (by first | assumption | omega) ?_)) (Nat.le_of_ble_eq_true rfl) (fs' := [_, _, _, _, _, _, _, _, _]) rfl ?_
  refine V.name (fun s6 e6 => ?_)
  have z6 : s6.1 = t := by rw [e6]; exact z5
  have f6_o : s6.2 a = some (.inr (3, [.int (iZ 0), .int (iZ 0), .int (iZ 0), .int (iZ 0), .int (iZ 0), .int (iZ (-1)), .int 0, .int 0, .null])) := by rw [e6]; exact sUp_same
  have g6 : ∀ b, b < t → b ≠ a → s6.2 b = σ.2 b := fun b h0 h1 => by rw [e6]; exact sUp_ne (by omega) (g5 b h0 h1)
  clear e6 g5 f5_o z5
  refine r_aload_n S dX3_init_34 rfl ?_
  refine r_iconst S dX3_init_35 ?_
  refine r_putf S p_RX3_31_3 dX3_init_36 (by first | rfl | decide) (by first | rfl | decide) (by repeat (first | assumption | exact sUp_same | exact sNew_same | refine sUp_ne (by first | assumption | omega) ?_)) (Nat.le_of_ble_eq_true rfl) (fs' := [_, _, _, _, _, _, _, _, _]) rfl ?_
  refine V.name (fun s7 e7 => ?_)
  have z7 : s7.1 = t := by rw [e7]; exact z6
  have f7_o : s7.2 a = some (.inr (3, [.int (iZ 0), .int (iZ 0), .int (iZ 0), .int (iZ 0), .int (iZ 0), .int (iZ (-1)), .int (iZ 0), .int 0, .null])) := by rw [e7]; exact sUp_same
  have g7 : ∀ b, b < t → b ≠ a → s7.2 b = σ.2 b := fun b h0 h1 => by rw [e7]; exact sUp_ne (by omega) (g6 b h0 h1)
  clear e7 g6 f6_o z6
  refine r_aload_n S dX3_init_39 rfl ?_
  refine r_iconst S dX3_init_40 ?_
  refine r_putf S p_RX3_34_3 dX3_init_41 (by first | rfl | decide) (by first | rfl | decide) (by repeat (first | assumption | exact sUp_same | exact sNew_same | refine sUp_ne (by first | assumption | omega) ?_)) (Nat.le_of_ble_eq_true rfl) (fs' := [_, _, _, _, _, _, _, _, _]) rfl ?_
  refine V.name (fun s8 e8 => ?_)
  have z8 : s8.1 = t := by rw [e8]; exact z7
  have f8_o : s8.2 a = some (.inr (3, [.int (iZ 0), .int (iZ 0), .int (iZ 0), .int (iZ 0), .int (iZ 0), .int (iZ (-1)), .int (iZ 0), .int (iZ 0), .null])) := by rw [e8]; exact sUp_same
  have g8 : ∀ b, b < t → b ≠ a → s8.2 b = σ.2 b := fun b h0 h1 => by rw [e8]; exact sUp_ne (by omega) (g7 b h0 h1)
  clear e8 g7 f7_o z7
  refine r_aload_n S dX3_init_44 rfl ?_
  refine r_sipush S dX3_init_45 (by decide) ?_
  refine r_newIN S (992) (by omega) wd_134 dX3_init_48 (by omega) (by omega) (by omega) ?_
  refine V.name (fun s9 e9 => ?_)
  have z9 : s9.1 = (t + 1) := by rw [e9]; show s8.1 + 1 = _; rw [z8]
  have f9_o : s9.2 a = some (.inr (3, [.int (iZ 0), .int (iZ 0), .int (iZ 0), .int (iZ 0), .int (iZ 0), .int (iZ (-1)), .int (iZ 0), .int (iZ 0), .null])) := by rw [e9]; exact sNew_ne (by omega) f8_o
  have f9_lf : s9.2 t = some (eI k 992 (fun _ => 0)) := by rw [e9]; exact sNew_at z8
  have g9 : ∀ b, b < t → b ≠ a → s9.2 b = σ.2 b := fun b h0 h1 => by rw [e9]; exact sNew_ne (by omega) (g8 b h0 h1)
  rw [z8]
  clear e9 g8 f8_o z8
  refine r_putF S p_RX3_37_3 dX3_init_50 (by first | rfl | decide) (by first | rfl | decide) (by repeat (first | assumption | exact sUp_same | exact sNew_same | refine sUp_ne (by first | assumption | omega) ?_)) (Nat.le_of_ble_eq_true rfl) (fs' := [_, _, _, _, _, _, _, _, _]) rfl ?_
  refine V.name (fun s10 e10 => ?_)
  have z10 : s10.1 = (t + 1) := by rw [e10]; exact z9
  have f10_o : s10.2 a = some (.inr (3, [.int (iZ 0), .int (iZ 0), .int (iZ 0), .int (iZ 0), .int (iZ 0), .int (iZ (-1)), .int (iZ 0), .int (iZ 0), .ref t])) := by rw [e10]; exact sUp_same
  have f10_lf : s10.2 t = some (eI k 992 (fun _ => 0)) := by rw [e10]; exact sUp_ne (by omega) f9_lf
  have g10 : ∀ b, b < t → b ≠ a → s10.2 b = σ.2 b := fun b h0 h1 => by rw [e10]; exact sUp_ne (by omega) (g9 b h0 h1)
  clear e10 g9 f9_o f9_lf z9
  exact r_vret S dX3_init_53 (by omega) (by omega) (by first | (rw [z0]; exact ⟨rfl, z10, f10_o, f10_lf, g10⟩) | exact ⟨rfl, z10, f10_o, f10_lf, g10⟩)

set_option maxRecDepth 100000 in
set_option maxHeartbeats 4000000 in
theorem c_init2 {k : Cx} {L0 : Launch} {σ : St} {a : Nat} (hA : σ.2 a = some (.inr (2, [.null, .null, .int 0]))) (ha : a < σ.1) : CtrU k L0 mX2_init 1 2 28 [.ref a] σ (fun σ' => σ'.1 = σ.1 + 2 ∧ σ'.2 a = some (.inr (2, [.ref σ.1, .ref (σ.1 + 1), .int (iZ 0)])) ∧ σ'.2 σ.1 = some (eI k 12 (fun _ => 0)) ∧ σ'.2 (σ.1 + 1) = some (eI k 16 (fun _ => 0)) ∧ ∀ b, b < σ.1 → b ≠ a → σ'.2 b = σ.2 b) := by
  refine Ctr.of (by decide +kernel) rfl (Nat.le_of_ble_eq_true rfl) ?_
  intro κ hl0 S
  subst hl0
  obtain ⟨t, z0⟩ : ∃ t, σ.1 = t := ⟨_, rfl⟩
  rw [z0] at ha
  have f0_o := hA
  have g0 : ∀ b, b < t → b ≠ a → σ.2 b = σ.2 b := fun _ _ _ => rfl
  refine r_aload_n S dX2_init_0 rfl ?_
  refine r_objInit S wd_140 ks_obj dX2_init_1 (by decide) (Nat.le_of_ble_eq_true rfl) ?_
  refine r_aload_n S dX2_init_4 rfl ?_
  refine r_bipush S dX2_init_5 (by decide) ?_
  refine r_newIN S (12) (by omega) wd_134 dX2_init_7 (by omega) (by omega) (by omega) ?_
  refine V.name (fun s1 e1 => ?_)
  have z1 : s1.1 = (t + 1) := by rw [e1]; show σ.1 + 1 = _; rw [z0]
  have f1_o : s1.2 a = some (.inr (2, [.null, .null, .int 0])) := by rw [e1]; exact sNew_ne (by omega) f0_o
  have f1_q : s1.2 t = some (eI k 12 (fun _ => 0)) := by rw [e1]; exact sNew_at z0
  have g1 : ∀ b, b < t → b ≠ a → s1.2 b = σ.2 b := fun b h0 h1 => by rw [e1]; exact sNew_ne (by omega) (g0 b h0 h1)
  rw [z0]
  clear e1 g0 f0_o
  refine r_putF S p_RX2_9_2 dX2_init_9 (by first | rfl | decide) (by first | rfl | decide) (by repeat (first | assumption | exact sUp_same | exact sNew_same | refine sUp_ne (by first | assumption | omega) ?_)) (Nat.le_of_ble_eq_true rfl) (fs' := [_, _, _]) rfl ?_
  refine V.name (fun s2 e2 => ?_)
  have z2 : s2.1 = (t + 1) := by rw [e2]; exact z1
  have f2_o : s2.2 a = some (.inr (2, [.ref t, .null, .int 0])) := by rw [e2]; exact sUp_same
  have f2_q : s2.2 t = some (eI k 12 (fun _ => 0)) := by rw [e2]; exact sUp_ne (by omega) f1_q
  have g2 : ∀ b, b < t → b ≠ a → s2.2 b = σ.2 b := fun b h0 h1 => by rw [e2]; exact sUp_ne (by omega) (g1 b h0 h1)
  clear e2 g1 f1_o f1_q z1
  refine r_aload_n S dX2_init_12 rfl ?_
  refine r_bipush S dX2_init_13 (by decide) ?_
  refine r_newIN S (16) (by omega) wd_134 dX2_init_15 (by omega) (by omega) (by omega) ?_
  refine V.name (fun s3 e3 => ?_)
  have z3 : s3.1 = (t + 2) := by rw [e3]; show s2.1 + 1 = _; rw [z2]
  have f3_o : s3.2 a = some (.inr (2, [.ref t, .null, .int 0])) := by rw [e3]; exact sNew_ne (by omega) f2_o
  have f3_q : s3.2 t = some (eI k 12 (fun _ => 0)) := by rw [e3]; exact sNew_ne (by omega) f2_q
  have f3_w : s3.2 (t + 1) = some (eI k 16 (fun _ => 0)) := by rw [e3]; exact sNew_at z2
  have g3 : ∀ b, b < t → b ≠ a → s3.2 b = σ.2 b := fun b h0 h1 => by rw [e3]; exact sNew_ne (by omega) (g2 b h0 h1)
  rw [z2]
  clear e3 g2 f2_o f2_q z2
  refine r_putF S p_RX2_15_2 dX2_init_17 (by first | rfl | decide) (by first | rfl | decide) (by repeat (first | assumption | exact sUp_same | exact sNew_same | refine sUp_ne (by first | assumption | omega) ?_)) (Nat.le_of_ble_eq_true rfl) (fs' := [_, _, _]) rfl ?_
  refine V.name (fun s4 e4 => ?_)
  have z4 : s4.1 = (t + 2) := by rw [e4]; exact z3
  have f4_o : s4.2 a = some (.inr (2, [.ref t, .ref (t + 1), .int 0])) := by rw [e4]; exact sUp_same
  have f4_q : s4.2 t = some (eI k 12 (fun _ => 0)) := by rw [e4]; exact sUp_ne (by omega) f3_q
  have f4_w : s4.2 (t + 1) = some (eI k 16 (fun _ => 0)) := by rw [e4]; exact sUp_ne (by omega) f3_w
  have g4 : ∀ b, b < t → b ≠ a → s4.2 b = σ.2 b := fun b h0 h1 => by rw [e4]; exact sUp_ne (by omega) (g3 b h0 h1)
  clear e4 g3 f3_o f3_q f3_w z3
  refine r_aload_n S dX2_init_20 rfl ?_
  refine r_iconst S dX2_init_21 ?_
  refine r_putf S p_RX2_18_2 dX2_init_22 (by first | rfl | decide) (by first | rfl | decide) (by repeat (first | assumption | exact sUp_same | exact sNew_same | refine sUp_ne (by first | assumption | omega) ?_)) (Nat.le_of_ble_eq_true rfl) (fs' := [_, _, _]) rfl ?_
  refine V.name (fun s5 e5 => ?_)
  have z5 : s5.1 = (t + 2) := by rw [e5]; exact z4
  have f5_o : s5.2 a = some (.inr (2, [.ref t, .ref (t + 1), .int (iZ 0)])) := by rw [e5]; exact sUp_same
  have f5_q : s5.2 t = some (eI k 12 (fun _ => 0)) := by rw [e5]; exact sUp_ne (by omega) f4_q
  have f5_w : s5.2 (t + 1) = some (eI k 16 (fun _ => 0)) := by rw [e5]; exact sUp_ne (by omega) f4_w
  have g5 : ∀ b, b < t → b ≠ a → s5.2 b = σ.2 b := fun b h0 h1 => by rw [e5]; exact sUp_ne (by omega) (g4 b h0 h1)
  clear e5 g4 f4_o f4_q f4_w z4
  exact r_vret S dX2_init_25 (by omega) (by omega) (by first | (rw [z0]; exact ⟨rfl, z5, f5_o, f5_q, f5_w, g5⟩) | exact ⟨rfl, z5, f5_o, f5_q, f5_w, g5⟩)

set_option maxRecDepth 100000 in
set_option maxHeartbeats 4000000 in
theorem c_init5_0 {k : Cx} {L0 : Launch} {σ : St} {a : Nat} (hA : σ.2 a = some (.inr (0, [.null, .int 0, .int 0, .null, .null, .int 0]))) (ha : a < σ.1) {tf : Nat} {yp np : Int} (hyp : 0 ≤ yp ∧ yp ≤ 9) (hnp : 0 ≤ np ∧ np ≤ 9) : CtrU k L0 mX5_init 2 2 16 [.ref a, .ref tf, .int (iZ yp), .int (iZ np)] σ (fun σ' => σ'.1 = σ.1 + 2 ∧ σ'.2 a = some (.inr (0, [.ref tf, .int (iZ (max 1 (min yp 4))), .int (iZ (max 1 (min np 4))), .ref σ.1, .ref (σ.1 + 1), .int (iZ 0)])) ∧ σ'.2 σ.1 = some (eI k 8 (fun _ => 0)) ∧ σ'.2 (σ.1 + 1) = some (eI k 8 (fun _ => 0)) ∧ ∀ b, b < σ.1 → b ≠ a → σ'.2 b = σ.2 b) := by
  refine Ctr.of (by decide +kernel) rfl (Nat.le_of_ble_eq_true rfl) ?_
  intro κ hl0 S
  subst hl0
  obtain ⟨t, z0⟩ : ∃ t, σ.1 = t := ⟨_, rfl⟩
  rw [z0] at ha
  have f0_o := hA
  have g0 : ∀ b, b < t → b ≠ a → σ.2 b = σ.2 b := fun _ _ _ => rfl
  refine r_aload_n S dX5_init_0 rfl ?_
  refine r_objInit S wd_235 ks_obj dX5_init_1 (by decide) (Nat.le_of_ble_eq_true rfl) ?_
  refine r_aload_n S dX5_init_4 rfl ?_
  refine r_bipush S dX5_init_5 (by decide) ?_
  refine r_newIN S (8) (by omega) wd_134 dX5_init_7 (by omega) (by omega) (by omega) ?_
  refine V.name (fun s1 e1 => ?_)
  have z1 : s1.1 = (t + 1) := by rw [e1]; show σ.1 + 1 = _; rw [z0]
  have f1_o : s1.2 a = some (.inr (0, [.null, .int 0, .int 0, .null, .null, .int 0])) := by rw [e1]; exact sNew_ne (by omega) f0_o
  have f1_hv : s1.2 t = some (eI k 8 (fun _ => 0)) := by rw [e1]; exact sNew_at z0
  have g1 : ∀ b, b < t → b ≠ a → s1.2 b = σ.2 b := fun b h0 h1 => by rw [e1]; exact sNew_ne (by omega) (g0 b h0 h1)
  rw [z0]
  clear e1 g0 f0_o
  refine r_putF S p_RX5_9_0 dX5_init_9 (by first | rfl | decide) (by first | rfl | decide) (by repeat (first | assumption | exact sUp_same | exact sNew_same | refine sUp_ne (by first | assumption | omega) ?_)) (Nat.le_of_ble_eq_true rfl) (fs' := [_, _, _, _, _, _]) rfl ?_
  refine V.name (fun s2 e2 => ?_)
  have z2 : s2.1 = (t + 1) := by rw [e2]; exact z1
  have f2_o : s2.2 a = some (.inr (0, [.null, .int 0, .int 0, .ref t, .null, .int 0])) := by rw [e2]; exact sUp_same
  have f2_hv : s2.2 t = some (eI k 8 (fun _ => 0)) := by rw [e2]; exact sUp_ne (by omega) f1_hv
  have g2 : ∀ b, b < t → b ≠ a → s2.2 b = σ.2 b := fun b h0 h1 => by rw [e2]; exact sUp_ne (by omega) (g1 b h0 h1)
  clear e2 g1 f1_o f1_hv z1
  refine r_aload_n S dX5_init_12 rfl ?_
  refine r_bipush S dX5_init_13 (by decide) ?_
  refine r_newIN S (8) (by omega) wd_134 dX5_init_15 (by omega) (by omega) (by omega) ?_
  refine V.name (fun s3 e3 => ?_)
  have z3 : s3.1 = (t + 2) := by rw [e3]; show s2.1 + 1 = _; rw [z2]
  have f3_o : s3.2 a = some (.inr (0, [.null, .int 0, .int 0, .ref t, .null, .int 0])) := by rw [e3]; exact sNew_ne (by omega) f2_o
  have f3_hv : s3.2 t = some (eI k 8 (fun _ => 0)) := by rw [e3]; exact sNew_ne (by omega) f2_hv
  have f3_tk : s3.2 (t + 1) = some (eI k 8 (fun _ => 0)) := by rw [e3]; exact sNew_at z2
  have g3 : ∀ b, b < t → b ≠ a → s3.2 b = σ.2 b := fun b h0 h1 => by rw [e3]; exact sNew_ne (by omega) (g2 b h0 h1)
  rw [z2]
  clear e3 g2 f2_o f2_hv z2
  refine r_putF S p_RX5_15_0 dX5_init_17 (by first | rfl | decide) (by first | rfl | decide) (by repeat (first | assumption | exact sUp_same | exact sNew_same | refine sUp_ne (by first | assumption | omega) ?_)) (Nat.le_of_ble_eq_true rfl) (fs' := [_, _, _, _, _, _]) rfl ?_
  refine V.name (fun s4 e4 => ?_)
  have z4 : s4.1 = (t + 2) := by rw [e4]; exact z3
  have f4_o : s4.2 a = some (.inr (0, [.null, .int 0, .int 0, .ref t, .ref (t + 1), .int 0])) := by rw [e4]; exact sUp_same
  have f4_hv : s4.2 t = some (eI k 8 (fun _ => 0)) := by rw [e4]; exact sUp_ne (by omega) f3_hv
  have f4_tk : s4.2 (t + 1) = some (eI k 8 (fun _ => 0)) := by rw [e4]; exact sUp_ne (by omega) f3_tk
  have g4 : ∀ b, b < t → b ≠ a → s4.2 b = σ.2 b := fun b h0 h1 => by rw [e4]; exact sUp_ne (by omega) (g3 b h0 h1)
  clear e4 g3 f3_o f3_hv f3_tk z3
  refine r_aload_n S dX5_init_20 rfl ?_
  refine r_iconst S dX5_init_21 ?_
  refine r_putf S p_RX5_18_0 dX5_init_22 (by first | rfl | decide) (by first | rfl | decide) (by repeat (first | assumption | exact sUp_same | exact sNew_same | refine sUp_ne (by first | assumption | omega) ?_)) (Nat.le_of_ble_eq_true rfl) (fs' := [_, _, _, _, _, _]) rfl ?_
  refine V.name (fun s5 e5 => ?_)
  have z5 : s5.1 = (t + 2) := by rw [e5]; exact z4
  have f5_o : s5.2 a = some (.inr (0, [.null, .int 0, .int 0, .ref t, .ref (t + 1), .int (iZ 0)])) := by rw [e5]; exact sUp_same
  have f5_hv : s5.2 t = some (eI k 8 (fun _ => 0)) := by rw [e5]; exact sUp_ne (by omega) f4_hv
  have f5_tk : s5.2 (t + 1) = some (eI k 8 (fun _ => 0)) := by rw [e5]; exact sUp_ne (by omega) f4_tk
  have g5 : ∀ b, b < t → b ≠ a → s5.2 b = σ.2 b := fun b h0 h1 => by rw [e5]; exact sUp_ne (by omega) (g4 b h0 h1)
  clear e5 g4 f4_o f4_hv f4_tk z4
  refine r_aload_n S dX5_init_25 rfl ?_
  refine r_aload_n S dX5_init_26 rfl ?_
  refine r_putF S p_RX5_22_0 dX5_init_27 (by first | rfl | decide) (by first | rfl | decide) (by repeat (first | assumption | exact sUp_same | exact sNew_same | refine sUp_ne (by first | assumption | omega) ?_)) (Nat.le_of_ble_eq_true rfl) (fs' := [_, _, _, _, _, _]) rfl ?_
  refine V.name (fun s6 e6 => ?_)
  have z6 : s6.1 = (t + 2) := by rw [e6]; exact z5
  have f6_o : s6.2 a = some (.inr (0, [.ref tf, .int 0, .int 0, .ref t, .ref (t + 1), .int (iZ 0)])) := by rw [e6]; exact sUp_same
  have f6_hv : s6.2 t = some (eI k 8 (fun _ => 0)) := by rw [e6]; exact sUp_ne (by omega) f5_hv
  have f6_tk : s6.2 (t + 1) = some (eI k 8 (fun _ => 0)) := by rw [e6]; exact sUp_ne (by omega) f5_tk
  have g6 : ∀ b, b < t → b ≠ a → s6.2 b = σ.2 b := fun b h0 h1 => by rw [e6]; exact sUp_ne (by omega) (g5 b h0 h1)
  clear e6 g5 f5_o f5_hv f5_tk z5
  refine r_aload_n S dX5_init_30 rfl ?_
  refine r_iconst S dX5_init_31 ?_
  refine r_iload_n S dX5_init_32 rfl ?_
  refine r_iconst S dX5_init_33 ?_
  refine r_mmin S wd_236 ks_min dX5_init_34 (by decide) ⟨by omega, by omega⟩ ⟨by omega, by omega⟩ ⟨by omega, by omega⟩ (Nat.le_of_ble_eq_true rfl) ?_
  refine r_mmax S wd_237 ks_max dX5_init_37 (by decide) ⟨by omega, by omega⟩ ⟨by omega, by omega⟩ ⟨by omega, by omega⟩ (Nat.le_of_ble_eq_true rfl) ?_
  refine r_putF S p_RX5_34_0 dX5_init_40 (by first | rfl | decide) (by first | rfl | decide) (by repeat (first | assumption | exact sUp_same | exact sNew_same | refine sUp_ne (by first | assumption | omega) ?_)) (Nat.le_of_ble_eq_true rfl) (fs' := [_, _, _, _, _, _]) rfl ?_
  refine V.name (fun s7 e7 => ?_)
  have z7 : s7.1 = (t + 2) := by rw [e7]; exact z6
  have f7_o : s7.2 a = some (.inr (0, [.ref tf, .int (iZ (max 1 (min yp 4))), .int 0, .ref t, .ref (t + 1), .int (iZ 0)])) := by rw [e7]; exact sUp_same
  have f7_hv : s7.2 t = some (eI k 8 (fun _ => 0)) := by rw [e7]; exact sUp_ne (by omega) f6_hv
  have f7_tk : s7.2 (t + 1) = some (eI k 8 (fun _ => 0)) := by rw [e7]; exact sUp_ne (by omega) f6_tk
  have g7 : ∀ b, b < t → b ≠ a → s7.2 b = σ.2 b := fun b h0 h1 => by rw [e7]; exact sUp_ne (by omega) (g6 b h0 h1)
  clear e7 g6 f6_o f6_hv f6_tk z6
  refine r_aload_n S dX5_init_43 rfl ?_
  refine r_iconst S dX5_init_44 ?_
  refine r_iload_n S dX5_init_45 rfl ?_
  refine r_iconst S dX5_init_46 ?_
  refine r_mmin S wd_236 ks_min dX5_init_47 (by decide) ⟨by omega, by omega⟩ ⟨by omega, by omega⟩ ⟨by omega, by omega⟩ (Nat.le_of_ble_eq_true rfl) ?_
  refine r_mmax S wd_237 ks_max dX5_init_50 (by decide) ⟨by omega, by omega⟩ ⟨by omega, by omega⟩ ⟨by omega, by omega⟩ (Nat.le_of_ble_eq_true rfl) ?_
  refine r_putF S p_RX5_37_0 dX5_init_53 (by first | rfl | decide) (by first | rfl | decide) (by repeat (first | assumption | exact sUp_same | exact sNew_same | refine sUp_ne (by first | assumption | omega) ?_)) (Nat.le_of_ble_eq_true rfl) (fs' := [_, _, _, _, _, _]) rfl ?_
  refine V.name (fun s8 e8 => ?_)
  have z8 : s8.1 = (t + 2) := by rw [e8]; exact z7
  have f8_o : s8.2 a = some (.inr (0, [.ref tf, .int (iZ (max 1 (min yp 4))), .int (iZ (max 1 (min np 4))), .ref t, .ref (t + 1), .int (iZ 0)])) := by rw [e8]; exact sUp_same
  have f8_hv : s8.2 t = some (eI k 8 (fun _ => 0)) := by rw [e8]; exact sUp_ne (by omega) f7_hv
  have f8_tk : s8.2 (t + 1) = some (eI k 8 (fun _ => 0)) := by rw [e8]; exact sUp_ne (by omega) f7_tk
  have g8 : ∀ b, b < t → b ≠ a → s8.2 b = σ.2 b := fun b h0 h1 => by rw [e8]; exact sUp_ne (by omega) (g7 b h0 h1)
  clear e8 g7 f7_o f7_hv f7_tk z7
  exact r_vret S dX5_init_56 (by omega) (by omega) (by first | (rw [z0]; exact ⟨rfl, z8, f8_o, f8_hv, f8_tk, g8⟩) | exact ⟨rfl, z8, f8_o, f8_hv, f8_tk, g8⟩)

set_option maxRecDepth 100000 in
set_option maxHeartbeats 4000000 in
theorem c_init5_5 {k : Cx} {L0 : Launch} {σ : St} {a : Nat} (hA : σ.2 a = some (.inr (5, [.null, .int 0, .int 0, .null, .null, .int 0, .null, .int 0]))) (ha : a < σ.1) {tf : Nat} {yp np : Int} (hyp : 0 ≤ yp ∧ yp ≤ 9) (hnp : 0 ≤ np ∧ np ≤ 9) : CtrU k L0 mX5_init 2 2 16 [.ref a, .ref tf, .int (iZ yp), .int (iZ np)] σ (fun σ' => σ'.1 = σ.1 + 2 ∧ σ'.2 a = some (.inr (5, [.ref tf, .int (iZ (max 1 (min yp 4))), .int (iZ (max 1 (min np 4))), .ref σ.1, .ref (σ.1 + 1), .int (iZ 0), .null, .int 0])) ∧ σ'.2 σ.1 = some (eI k 8 (fun _ => 0)) ∧ σ'.2 (σ.1 + 1) = some (eI k 8 (fun _ => 0)) ∧ ∀ b, b < σ.1 → b ≠ a → σ'.2 b = σ.2 b) := by
  refine Ctr.of (by decide +kernel) rfl (Nat.le_of_ble_eq_true rfl) ?_
  intro κ hl0 S
  subst hl0
  obtain ⟨t, z0⟩ : ∃ t, σ.1 = t := ⟨_, rfl⟩
  rw [z0] at ha
  have f0_o := hA
  have g0 : ∀ b, b < t → b ≠ a → σ.2 b = σ.2 b := fun _ _ _ => rfl
  refine r_aload_n S dX5_init_0 rfl ?_
  refine r_objInit S wd_235 ks_obj dX5_init_1 (by decide) (Nat.le_of_ble_eq_true rfl) ?_
  refine r_aload_n S dX5_init_4 rfl ?_
  refine r_bipush S dX5_init_5 (by decide) ?_
  refine r_newIN S (8) (by omega) wd_134 dX5_init_7 (by omega) (by omega) (by omega) ?_
  refine V.name (fun s1 e1 => ?_)
  have z1 : s1.1 = (t + 1) := by rw [e1]; show σ.1 + 1 = _; rw [z0]
  have f1_o : s1.2 a = some (.inr (5, [.null, .int 0, .int 0, .null, .null, .int 0, .null, .int 0])) := by rw [e1]; exact sNew_ne (by omega) f0_o
  have f1_hv : s1.2 t = some (eI k 8 (fun _ => 0)) := by rw [e1]; exact sNew_at z0
  have g1 : ∀ b, b < t → b ≠ a → s1.2 b = σ.2 b := fun b h0 h1 => by rw [e1]; exact sNew_ne (by omega) (g0 b h0 h1)
  rw [z0]
  clear e1 g0 f0_o
  refine r_putF S p_RX5_9_5 dX5_init_9 (by first | rfl | decide) (by first | rfl | decide) (by repeat (first | assumption | exact sUp_same | exact sNew_same | refine sUp_ne (by first | assumption | omega) ?_)) (Nat.le_of_ble_eq_true rfl) (fs' := [_, _, _, _, _, _, _, _]) rfl ?_
  refine V.name (fun s2 e2 => ?_)
  have z2 : s2.1 = (t + 1) := by rw [e2]; exact z1
  have f2_o : s2.2 a = some (.inr (5, [.null, .int 0, .int 0, .ref t, .null, .int 0, .null, .int 0])) := by rw [e2]; exact sUp_same
  have f2_hv : s2.2 t = some (eI k 8 (fun _ => 0)) := by rw [e2]; exact sUp_ne (by omega) f1_hv
  have g2 : ∀ b, b < t → b ≠ a → s2.2 b = σ.2 b := fun b h0 h1 => by rw [e2]; exact sUp_ne (by omega) (g1 b h0 h1)
  clear e2 g1 f1_o f1_hv z1
  refine r_aload_n S dX5_init_12 rfl ?_
  refine r_bipush S dX5_init_13 (by decide) ?_
  refine r_newIN S (8) (by omega) wd_134 dX5_init_15 (by omega) (by omega) (by omega) ?_
  refine V.name (fun s3 e3 => ?_)
  have z3 : s3.1 = (t + 2) := by rw [e3]; show s2.1 + 1 = _; rw [z2]
  have f3_o : s3.2 a = some (.inr (5, [.null, .int 0, .int 0, .ref t, .null, .int 0, .null, .int 0])) := by rw [e3]; exact sNew_ne (by omega) f2_o
  have f3_hv : s3.2 t = some (eI k 8 (fun _ => 0)) := by rw [e3]; exact sNew_ne (by omega) f2_hv
  have f3_tk : s3.2 (t + 1) = some (eI k 8 (fun _ => 0)) := by rw [e3]; exact sNew_at z2
  have g3 : ∀ b, b < t → b ≠ a → s3.2 b = σ.2 b := fun b h0 h1 => by rw [e3]; exact sNew_ne (by omega) (g2 b h0 h1)
  rw [z2]
  clear e3 g2 f2_o f2_hv z2
  refine r_putF S p_RX5_15_5 dX5_init_17 (by first | rfl | decide) (by first | rfl | decide) (by repeat (first | assumption | exact sUp_same | exact sNew_same | refine sUp_ne (by first | assumption | omega) ?_)) (Nat.le_of_ble_eq_true rfl) (fs' := [_, _, _, _, _, _, _, _]) rfl ?_
  refine V.name (fun s4 e4 => ?_)
  have z4 : s4.1 = (t + 2) := by rw [e4]; exact z3
  have f4_o : s4.2 a = some (.inr (5, [.null, .int 0, .int 0, .ref t, .ref (t + 1), .int 0, .null, .int 0])) := by rw [e4]; exact sUp_same
  have f4_hv : s4.2 t = some (eI k 8 (fun _ => 0)) := by rw [e4]; exact sUp_ne (by omega) f3_hv
  have f4_tk : s4.2 (t + 1) = some (eI k 8 (fun _ => 0)) := by rw [e4]; exact sUp_ne (by omega) f3_tk
  have g4 : ∀ b, b < t → b ≠ a → s4.2 b = σ.2 b := fun b h0 h1 => by rw [e4]; exact sUp_ne (by omega) (g3 b h0 h1)
  clear e4 g3 f3_o f3_hv f3_tk z3
  refine r_aload_n S dX5_init_20 rfl ?_
  refine r_iconst S dX5_init_21 ?_
  refine r_putf S p_RX5_18_5 dX5_init_22 (by first | rfl | decide) (by first | rfl | decide) (by repeat (first | assumption | exact sUp_same | exact sNew_same | refine sUp_ne (by first | assumption | omega) ?_)) (Nat.le_of_ble_eq_true rfl) (fs' := [_, _, _, _, _, _, _, _]) rfl ?_
  refine V.name (fun s5 e5 => ?_)
  have z5 : s5.1 = (t + 2) := by rw [e5]; exact z4
  have f5_o : s5.2 a = some (.inr (5, [.null, .int 0, .int 0, .ref t, .ref (t + 1), .int (iZ 0), .null, .int 0])) := by rw [e5]; exact sUp_same
  have f5_hv : s5.2 t = some (eI k 8 (fun _ => 0)) := by rw [e5]; exact sUp_ne (by omega) f4_hv
  have f5_tk : s5.2 (t + 1) = some (eI k 8 (fun _ => 0)) := by rw [e5]; exact sUp_ne (by omega) f4_tk
  have g5 : ∀ b, b < t → b ≠ a → s5.2 b = σ.2 b := fun b h0 h1 => by rw [e5]; exact sUp_ne (by omega) (g4 b h0 h1)
  clear e5 g4 f4_o f4_hv f4_tk z4
  refine r_aload_n S dX5_init_25 rfl ?_
  refine r_aload_n S dX5_init_26 rfl ?_
  refine r_putF S p_RX5_22_5 dX5_init_27 (by first | rfl | decide) (by first | rfl | decide) (by repeat (first | assumption | exact sUp_same | exact sNew_same | refine sUp_ne (by first | assumption | omega) ?_)) (Nat.le_of_ble_eq_true rfl) (fs' := [_, _, _, _, _, _, _, _]) rfl ?_
  refine V.name (fun s6 e6 => ?_)
  have z6 : s6.1 = (t + 2) := by rw [e6]; exact z5
  have f6_o : s6.2 a = some (.inr (5, [.ref tf, .int 0, .int 0, .ref t, .ref (t + 1), .int (iZ 0), .null, .int 0])) := by rw [e6]; exact sUp_same
  have f6_hv : s6.2 t = some (eI k 8 (fun _ => 0)) := by rw [e6]; exact sUp_ne (by omega) f5_hv
  have f6_tk : s6.2 (t + 1) = some (eI k 8 (fun _ => 0)) := by rw [e6]; exact sUp_ne (by omega) f5_tk
  have g6 : ∀ b, b < t → b ≠ a → s6.2 b = σ.2 b := fun b h0 h1 => by rw [e6]; exact sUp_ne (by omega) (g5 b h0 h1)
  clear e6 g5 f5_o f5_hv f5_tk z5
  refine r_aload_n S dX5_init_30 rfl ?_
  refine r_iconst S dX5_init_31 ?_
  refine r_iload_n S dX5_init_32 rfl ?_
  refine r_iconst S dX5_init_33 ?_
  refine r_mmin S wd_236 ks_min dX5_init_34 (by decide) ⟨by omega, by omega⟩ ⟨by omega, by omega⟩ ⟨by omega, by omega⟩ (Nat.le_of_ble_eq_true rfl) ?_
  refine r_mmax S wd_237 ks_max dX5_init_37 (by decide) ⟨by omega, by omega⟩ ⟨by omega, by omega⟩ ⟨by omega, by omega⟩ (Nat.le_of_ble_eq_true rfl) ?_
  refine r_putF S p_RX5_34_5 dX5_init_40 (by first | rfl | decide) (by first | rfl | decide) (by repeat (first | assumption | exact sUp_same | exact sNew_same | refine sUp_ne (by first | assumption | omega) ?_)) (Nat.le_of_ble_eq_true rfl) (fs' := [_, _, _, _, _, _, _, _]) rfl ?_
  refine V.name (fun s7 e7 => ?_)
  have z7 : s7.1 = (t + 2) := by rw [e7]; exact z6
  have f7_o : s7.2 a = some (.inr (5, [.ref tf, .int (iZ (max 1 (min yp 4))), .int 0, .ref t, .ref (t + 1), .int (iZ 0), .null, .int 0])) := by rw [e7]; exact sUp_same
  have f7_hv : s7.2 t = some (eI k 8 (fun _ => 0)) := by rw [e7]; exact sUp_ne (by omega) f6_hv
  have f7_tk : s7.2 (t + 1) = some (eI k 8 (fun _ => 0)) := by rw [e7]; exact sUp_ne (by omega) f6_tk
  have g7 : ∀ b, b < t → b ≠ a → s7.2 b = σ.2 b := fun b h0 h1 => by rw [e7]; exact sUp_ne (by omega) (g6 b h0 h1)
  clear e7 g6 f6_o f6_hv f6_tk z6
  refine r_aload_n S dX5_init_43 rfl ?_
  refine r_iconst S dX5_init_44 ?_
  refine r_iload_n S dX5_init_45 rfl ?_
  refine r_iconst S dX5_init_46 ?_
  refine r_mmin S wd_236 ks_min dX5_init_47 (by decide) ⟨by omega, by omega⟩ ⟨by omega, by omega⟩ ⟨by omega, by omega⟩ (Nat.le_of_ble_eq_true rfl) ?_
  refine r_mmax S wd_237 ks_max dX5_init_50 (by decide) ⟨by omega, by omega⟩ ⟨by omega, by omega⟩ ⟨by omega, by omega⟩ (Nat.le_of_ble_eq_true rfl) ?_
  refine r_putF S p_RX5_37_5 dX5_init_53 (by first | rfl | decide) (by first | rfl | decide) (by repeat (first | assumption | exact sUp_same | exact sNew_same | refine sUp_ne (by first | assumption | omega) ?_)) (Nat.le_of_ble_eq_true rfl) (fs' := [_, _, _, _, _, _, _, _]) rfl ?_
  refine V.name (fun s8 e8 => ?_)
  have z8 : s8.1 = (t + 2) := by rw [e8]; exact z7
  have f8_o : s8.2 a = some (.inr (5, [.ref tf, .int (iZ (max 1 (min yp 4))), .int (iZ (max 1 (min np 4))), .ref t, .ref (t + 1), .int (iZ 0), .null, .int 0])) := by rw [e8]; exact sUp_same
  have f8_hv : s8.2 t = some (eI k 8 (fun _ => 0)) := by rw [e8]; exact sUp_ne (by omega) f7_hv
  have f8_tk : s8.2 (t + 1) = some (eI k 8 (fun _ => 0)) := by rw [e8]; exact sUp_ne (by omega) f7_tk
  have g8 : ∀ b, b < t → b ≠ a → s8.2 b = σ.2 b := fun b h0 h1 => by rw [e8]; exact sUp_ne (by omega) (g7 b h0 h1)
  clear e8 g7 f7_o f7_hv f7_tk z7
  exact r_vret S dX5_init_56 (by omega) (by omega) (by first | (rw [z0]; exact ⟨rfl, z8, f8_o, f8_hv, f8_tk, g8⟩) | exact ⟨rfl, z8, f8_o, f8_hv, f8_tk, g8⟩)

set_option maxRecDepth 100000 in
set_option maxHeartbeats 4000000 in
theorem c_init0 {k : Cx} {L0 : Launch} {σ : St} {a : Nat} (hA : σ.2 a = some (.inr (0, [.null, .int 0, .int 0, .null, .null, .int 0]))) (ha : a < σ.1) {tf : Nat} {yp np : Int} (hyp : 0 ≤ yp ∧ yp ≤ 9) (hnp : 0 ≤ np ∧ np ≤ 9) : CtrU k L0 mX0_init 3 2 16 [.ref a, .ref tf, .int (iZ yp), .int (iZ np)] σ (fun σ' => σ'.1 = σ.1 + 2 ∧ σ'.2 a = some (.inr (0, [.ref tf, .int (iZ (max 1 (min yp 4))), .int (iZ (max 1 (min np 4))), .ref σ.1, .ref (σ.1 + 1), .int (iZ 0)])) ∧ σ'.2 σ.1 = some (eI k 8 (fun _ => 0)) ∧ σ'.2 (σ.1 + 1) = some (eI k 8 (fun _ => 0)) ∧ ∀ b, b < σ.1 → b ≠ a → σ'.2 b = σ.2 b) := by
  refine Ctr.of (by decide +kernel) rfl (Nat.le_of_ble_eq_true rfl) ?_
  intro κ hl0 S
  subst hl0
  refine r_aload_n S dX0_init_0 rfl ?_
  refine r_aload_n S dX0_init_1 rfl ?_
  refine r_iload_n S dX0_init_2 rfl ?_
  refine r_iload_n S dX0_init_3 rfl ?_
  refine r_callI S (c_init5_0 hA ha hyp hnp) k_mX5_init c_RX0_1 dX0_init_4 (by decide) ⟨by omega, by omega⟩ rfl rfl (Nat.le_of_ble_eq_true rfl) (fun r σ' hp => ?_)
  obtain ⟨rfl, hp⟩ := hp
  try simp only [Option.toList_some, Option.toList_none, List.cons_append, List.nil_append]
  exact r_vret S dX0_init_7 (by omega) (by omega) (⟨rfl, hp⟩)

set_option maxRecDepth 100000 in
set_option maxHeartbeats 4000000 in
theorem c_init6 {k : Cx} {L0 : Launch} {σ : St} {a : Nat} (hA : σ.2 a = some (.inr (5, [.null, .int 0, .int 0, .null, .null, .int 0, .null, .int 0]))) (ha : a < σ.1) {tf : Nat} {yp np : Int} (hyp : 0 ≤ yp ∧ yp ≤ 9) (hnp : 0 ≤ np ∧ np ≤ 9) : CtrU k L0 mX6_init 3 3 84 [.ref a, .ref tf, .int (iZ yp), .int (iZ np)] σ (fun σ' => σ'.1 = σ.1 + 3 ∧ σ'.2 a = some (.inr (5, [.ref tf, .int (iZ (max 1 (min yp 4))), .int (iZ (max 1 (min np 4))), .ref σ.1, .ref (σ.1 + 1), .int (iZ 0), .ref (σ.1 + 2), .int (iZ 0)])) ∧ σ'.2 σ.1 = some (eI k 8 (fun _ => 0)) ∧ σ'.2 (σ.1 + 1) = some (eI k 8 (fun _ => 0)) ∧ σ'.2 (σ.1 + 2) = some (eI k 68 (fun _ => 0)) ∧ ∀ b, b < σ.1 → b ≠ a → σ'.2 b = σ.2 b) := by
  refine Ctr.of (by decide +kernel) rfl (Nat.le_of_ble_eq_true rfl) ?_
  intro κ hl0 S
  subst hl0
  refine r_aload_n S dX6_init_0 rfl ?_
  refine r_aload_n S dX6_init_1 rfl ?_
  refine r_iload_n S dX6_init_2 rfl ?_
  refine r_iload_n S dX6_init_3 rfl ?_
  refine r_callI S (c_init5_5 hA ha hyp hnp) k_mX5_init c_RX6_3 dX6_init_4 (by decide) ⟨by omega, by omega⟩ rfl rfl (Nat.le_of_ble_eq_true rfl) (fun r σ' hp => ?_)
  obtain ⟨rfl, z0, f0_o, f0_hv, f0_tk, gg⟩ := hp
  obtain ⟨t0, hz⟩ : ∃ t0, σ.1 = t0 := ⟨_, rfl⟩
  rw [hz] at z0 f0_o f0_hv f0_tk gg ha
  have g0 : ∀ b, b < (t0 + 2) → b ≠ a → b ≠ t0 → b ≠ t0 + 1 → _ = σ.2 b := fun b h0 h1 h2 h3 => gg b (by omega) h1
  try simp only [Option.toList_some, Option.toList_none, List.cons_append, List.nil_append]
  refine r_aload_n S dX6_init_7 rfl ?_
  refine r_bipush S dX6_init_8 (by decide) ?_
  refine r_newIN S (68) (by omega) wd_134 dX6_init_10 (by omega) (by omega) (by omega) ?_
  refine V.name (fun s1 e1 => ?_)
  have z1 : s1.1 = ((t0 + 2) + 1) := by rw [e1]; show σ'.1 + 1 = _; rw [z0]
  have f1_o : s1.2 a = some (.inr (5, [.ref tf, .int (iZ (max 1 (min yp 4))), .int (iZ (max 1 (min np 4))), .ref t0, .ref (t0 + 1), .int (iZ 0), .null, .int 0])) := by rw [e1]; exact sNew_ne (by omega) f0_o
  have f1_hv : s1.2 t0 = some (eI k 8 (fun _ => 0)) := by rw [e1]; exact sNew_ne (by omega) f0_hv
  have f1_tk : s1.2 (t0 + 1) = some (eI k 8 (fun _ => 0)) := by rw [e1]; exact sNew_ne (by omega) f0_tk
  have f1_lw : s1.2 (t0 + 2) = some (eI k 68 (fun _ => 0)) := by rw [e1]; exact sNew_at z0
  have g1 : ∀ b, b < (t0 + 2) → b ≠ a → b ≠ t0 → b ≠ t0 + 1 → s1.2 b = σ.2 b := fun b h0 h1 h2 h3 => by rw [e1]; exact sNew_ne (by omega) (g0 b h0 h1 h2 h3)
  rw [z0]
  clear e1 g0 f0_o f0_hv f0_tk
  refine r_putF S p_RX6_9_5 dX6_init_12 (by first | rfl | decide) (by first | rfl | decide) (by repeat (first | assumption | exact sUp_same | exact sNew_same | refine sUp_ne (by first | assumption | omega) ?_)) (Nat.le_of_ble_eq_true rfl) (fs' := [_, _, _, _, _, _, _, _]) rfl ?_
  refine V.name (fun s2 e2 => ?_)
  have z2 : s2.1 = ((t0 + 2) + 1) := by rw [e2]; exact z1
  have f2_o : s2.2 a = some (.inr (5, [.ref tf, .int (iZ (max 1 (min yp 4))), .int (iZ (max 1 (min np 4))), .ref t0, .ref (t0 + 1), .int (iZ 0), .ref (t0 + 2), .int 0])) := by rw [e2]; exact sUp_same
  have f2_hv : s2.2 t0 = some (eI k 8 (fun _ => 0)) := by rw [e2]; exact sUp_ne (by omega) f1_hv
  have f2_tk : s2.2 (t0 + 1) = some (eI k 8 (fun _ => 0)) := by rw [e2]; exact sUp_ne (by omega) f1_tk
  have f2_lw : s2.2 (t0 + 2) = some (eI k 68 (fun _ => 0)) := by rw [e2]; exact sUp_ne (by omega) f1_lw
  have g2 : ∀ b, b < (t0 + 2) → b ≠ a → b ≠ t0 → b ≠ t0 + 1 → s2.2 b = σ.2 b := fun b h0 h1 h2 h3 => by rw [e2]; exact sUp_ne (by omega) (g1 b h0 h1 h2 h3)
  clear e2 g1 f1_o f1_hv f1_tk f1_lw z1
  refine r_aload_n S dX6_init_15 rfl ?_
  refine r_iconst S dX6_init_16 ?_
  refine r_putf S p_RX6_15_5 dX6_init_17 (by first | rfl | decide) (by first | rfl | decide) (by repeat (first | assumption | exact sUp_same | exact sNew_same | refine sUp_ne (by first | assumption | omega) ?_)) (Nat.le_of_ble_eq_true rfl) (fs' := [_, _, _, _, _, _, _, _]) rfl ?_
  refine V.name (fun s3 e3 => ?_)
  have z3 : s3.1 = ((t0 + 2) + 1) := by rw [e3]; exact z2
  have f3_o : s3.2 a = some (.inr (5, [.ref tf, .int (iZ (max 1 (min yp 4))), .int (iZ (max 1 (min np 4))), .ref t0, .ref (t0 + 1), .int (iZ 0), .ref (t0 + 2), .int (iZ 0)])) := by rw [e3]; exact sUp_same
  have f3_hv : s3.2 t0 = some (eI k 8 (fun _ => 0)) := by rw [e3]; exact sUp_ne (by omega) f2_hv
  have f3_tk : s3.2 (t0 + 1) = some (eI k 8 (fun _ => 0)) := by rw [e3]; exact sUp_ne (by omega) f2_tk
  have f3_lw : s3.2 (t0 + 2) = some (eI k 68 (fun _ => 0)) := by rw [e3]; exact sUp_ne (by omega) f2_lw
  have g3 : ∀ b, b < (t0 + 2) → b ≠ a → b ≠ t0 → b ≠ t0 + 1 → s3.2 b = σ.2 b := fun b h0 h1 h2 h3 => by rw [e3]; exact sUp_ne (by omega) (g2 b h0 h1 h2 h3)
  clear e3 g2 f2_o f2_hv f2_tk f2_lw z2
  exact r_vret S dX6_init_20 (by omega) (by omega) (by rw [hz]; exact ⟨rfl, z3, f3_o, f3_hv, f3_tk, f3_lw, fun b h0 h1 => g3 b (by omega) h1 (by omega) (by omega)⟩)

set_option maxRecDepth 100000 in
set_option maxHeartbeats 4000000 in
theorem c_init4 {k : Cx} {L0 : Launch} {σ : St} {a : Nat} (hA : σ.2 a = some (.inr (4, [.null, .null, .null, .null]))) (ha : a < σ.1) {x1 x2 x3 : Nat} : CtrU k L0 mX4_init 1 1 4 [.ref a, .ref x1, .ref x2, .ref x3] σ (fun σ' => σ'.1 = σ.1 + 1 ∧ σ'.2 a = some (.inr (4, [.ref x1, .ref σ.1, .ref x2, .ref x3])) ∧ σ'.2 σ.1 = some (eI k 4 (fun _ => 0)) ∧ ∀ b, b < σ.1 → b ≠ a → σ'.2 b = σ.2 b) := by
  refine Ctr.of (by decide +kernel) rfl (Nat.le_of_ble_eq_true rfl) ?_
  intro κ hl0 S
  subst hl0
  obtain ⟨t, z0⟩ : ∃ t, σ.1 = t := ⟨_, rfl⟩
  rw [z0] at ha
  have f0_o := hA
  have g0 : ∀ b, b < t → b ≠ a → σ.2 b = σ.2 b := fun _ _ _ => rfl
  refine r_aload_n S dX4_init_0 rfl ?_
  refine r_objInit S wd_286 ks_obj dX4_init_1 (by decide) (Nat.le_of_ble_eq_true rfl) ?_
  refine r_aload_n S dX4_init_4 rfl ?_
  refine r_iconst S dX4_init_5 ?_
  refine r_newIN S (4) (by omega) wd_134 dX4_init_6 (by omega) (by omega) (by omega) ?_
  refine V.name (fun s1 e1 => ?_)
  have z1 : s1.1 = (t + 1) := by rw [e1]; show σ.1 + 1 = _; rw [z0]
  have f1_o : s1.2 a = some (.inr (4, [.null, .null, .null, .null])) := by rw [e1]; exact sNew_ne (by omega) f0_o
  have f1_kn : s1.2 t = some (eI k 4 (fun _ => 0)) := by rw [e1]; exact sNew_at z0
  have g1 : ∀ b, b < t → b ≠ a → s1.2 b = σ.2 b := fun b h0 h1 => by rw [e1]; exact sNew_ne (by omega) (g0 b h0 h1)
  rw [z0]
  clear e1 g0 f0_o
  refine r_putF S p_RX4_9_4 dX4_init_8 (by first | rfl | decide) (by first | rfl | decide) (by repeat (first | assumption | exact sUp_same | exact sNew_same | refine sUp_ne (by first | assumption | omega) ?_)) (Nat.le_of_ble_eq_true rfl) (fs' := [_, _, _, _]) rfl ?_
  refine V.name (fun s2 e2 => ?_)
  have z2 : s2.1 = (t + 1) := by rw [e2]; exact z1
  have f2_o : s2.2 a = some (.inr (4, [.null, .ref t, .null, .null])) := by rw [e2]; exact sUp_same
  have f2_kn : s2.2 t = some (eI k 4 (fun _ => 0)) := by rw [e2]; exact sUp_ne (by omega) f1_kn
  have g2 : ∀ b, b < t → b ≠ a → s2.2 b = σ.2 b := fun b h0 h1 => by rw [e2]; exact sUp_ne (by omega) (g1 b h0 h1)
  clear e2 g1 f1_o f1_kn z1
  refine r_aload_n S dX4_init_11 rfl ?_
  refine r_aload_n S dX4_init_12 rfl ?_
  refine r_putF S p_RX4_15_4 dX4_init_13 (by first | rfl | decide) (by first | rfl | decide) (by repeat (first | assumption | exact sUp_same | exact sNew_same | refine sUp_ne (by first | assumption | omega) ?_)) (Nat.le_of_ble_eq_true rfl) (fs' := [_, _, _, _]) rfl ?_
  refine V.name (fun s3 e3 => ?_)
  have z3 : s3.1 = (t + 1) := by rw [e3]; exact z2
  have f3_o : s3.2 a = some (.inr (4, [.ref x1, .ref t, .null, .null])) := by rw [e3]; exact sUp_same
  have f3_kn : s3.2 t = some (eI k 4 (fun _ => 0)) := by rw [e3]; exact sUp_ne (by omega) f2_kn
  have g3 : ∀ b, b < t → b ≠ a → s3.2 b = σ.2 b := fun b h0 h1 => by rw [e3]; exact sUp_ne (by omega) (g2 b h0 h1)
  clear e3 g2 f2_o f2_kn z2
  refine r_aload_n S dX4_init_16 rfl ?_
  refine r_aload_n S dX4_init_17 rfl ?_
  refine r_putF S p_RX4_18_4 dX4_init_18 (by first | rfl | decide) (by first | rfl | decide) (by repeat (first | assumption | exact sUp_same | exact sNew_same | refine sUp_ne (by first | assumption | omega) ?_)) (Nat.le_of_ble_eq_true rfl) (fs' := [_, _, _, _]) rfl ?_
  refine V.name (fun s4 e4 => ?_)
  have z4 : s4.1 = (t + 1) := by rw [e4]; exact z3
  have f4_o : s4.2 a = some (.inr (4, [.ref x1, .ref t, .ref x2, .null])) := by rw [e4]; exact sUp_same
  have f4_kn : s4.2 t = some (eI k 4 (fun _ => 0)) := by rw [e4]; exact sUp_ne (by omega) f3_kn
  have g4 : ∀ b, b < t → b ≠ a → s4.2 b = σ.2 b := fun b h0 h1 => by rw [e4]; exact sUp_ne (by omega) (g3 b h0 h1)
  clear e4 g3 f3_o f3_kn z3
  refine r_aload_n S dX4_init_21 rfl ?_
  refine r_aload_n S dX4_init_22 rfl ?_
  refine r_putF S p_RX4_22_4 dX4_init_23 (by first | rfl | decide) (by first | rfl | decide) (by repeat (first | assumption | exact sUp_same | exact sNew_same | refine sUp_ne (by first | assumption | omega) ?_)) (Nat.le_of_ble_eq_true rfl) (fs' := [_, _, _, _]) rfl ?_
  refine V.name (fun s5 e5 => ?_)
  have z5 : s5.1 = (t + 1) := by rw [e5]; exact z4
  have f5_o : s5.2 a = some (.inr (4, [.ref x1, .ref t, .ref x2, .ref x3])) := by rw [e5]; exact sUp_same
  have f5_kn : s5.2 t = some (eI k 4 (fun _ => 0)) := by rw [e5]; exact sUp_ne (by omega) f4_kn
  have g5 : ∀ b, b < t → b ≠ a → s5.2 b = σ.2 b := fun b h0 h1 => by rw [e5]; exact sUp_ne (by omega) (g4 b h0 h1)
  clear e5 g4 f4_o f4_kn z4
  exact r_vret S dX4_init_26 (by omega) (by omega) (by first | (rw [z0]; exact ⟨rfl, z5, f5_o, f5_kn, g5⟩) | exact ⟨rfl, z5, f5_o, f5_kn, g5⟩)

set_option maxRecDepth 100000 in
set_option maxHeartbeats 4000000 in
theorem c_init8 {k : Cx} {L0 : Launch} {σ : St} {a : Nat} (hA : σ.2 a = some (.inr (7, [.int 0, .int 0, .null, .int 0]))) (ha : a < σ.1) {yp np : Int} (hyp : 0 ≤ yp ∧ yp ≤ 9) (hnp : 0 ≤ np ∧ np ≤ 9) : CtrU k L0 mX8_init 2 1 4096 [.ref a, .int (iZ yp), .int (iZ np)] σ (fun σ' => σ'.1 = σ.1 + 1 ∧ σ'.2 a = some (.inr (7, [.int (iZ (min yp 3)), .int (iZ (min np 3)), .ref σ.1, .int (iZ 0)])) ∧ σ'.2 σ.1 = some (eI k 4096 (fun _ => 0)) ∧ ∀ b, b < σ.1 → b ≠ a → σ'.2 b = σ.2 b) := by
  refine Ctr.of (by decide +kernel) rfl (Nat.le_of_ble_eq_true rfl) ?_
  intro κ hl0 S
  subst hl0
  obtain ⟨t, z0⟩ : ∃ t, σ.1 = t := ⟨_, rfl⟩
  rw [z0] at ha
  have f0_o := hA
  have g0 : ∀ b, b < t → b ≠ a → σ.2 b = σ.2 b := fun _ _ _ => rfl
  refine r_aload_n S dX8_init_0 rfl ?_
  refine r_objInit S wd_473 ks_obj dX8_init_1 (by decide) (Nat.le_of_ble_eq_true rfl) ?_
  refine r_aload_n S dX8_init_4 rfl ?_
  refine r_sipush S dX8_init_5 (by decide) ?_
  refine r_newIN S (4096) (by omega) wd_134 dX8_init_8 (by omega) (by omega) (by omega) ?_
  refine V.name (fun s1 e1 => ?_)
  have z1 : s1.1 = (t + 1) := by rw [e1]; show σ.1 + 1 = _; rw [z0]
  have f1_o : s1.2 a = some (.inr (7, [.int 0, .int 0, .null, .int 0])) := by rw [e1]; exact sNew_ne (by omega) f0_o
  have f1_fw : s1.2 t = some (eI k 4096 (fun _ => 0)) := by rw [e1]; exact sNew_at z0
  have g1 : ∀ b, b < t → b ≠ a → s1.2 b = σ.2 b := fun b h0 h1 => by rw [e1]; exact sNew_ne (by omega) (g0 b h0 h1)
  rw [z0]
  clear e1 g0 f0_o
  refine r_putF S p_RX8_9_7 dX8_init_10 (by first | rfl | decide) (by first | rfl | decide) (by repeat (first | assumption | exact sUp_same | exact sNew_same | refine sUp_ne (by first | assumption | omega) ?_)) (Nat.le_of_ble_eq_true rfl) (fs' := [_, _, _, _]) rfl ?_
  refine V.name (fun s2 e2 => ?_)
  have z2 : s2.1 = (t + 1) := by rw [e2]; exact z1
  have f2_o : s2.2 a = some (.inr (7, [.int 0, .int 0, .ref t, .int 0])) := by rw [e2]; exact sUp_same
  have f2_fw : s2.2 t = some (eI k 4096 (fun _ => 0)) := by rw [e2]; exact sUp_ne (by omega) f1_fw
  have g2 : ∀ b, b < t → b ≠ a → s2.2 b = σ.2 b := fun b h0 h1 => by rw [e2]; exact sUp_ne (by omega) (g1 b h0 h1)
  clear e2 g1 f1_o f1_fw z1
  refine r_aload_n S dX8_init_13 rfl ?_
  refine r_iconst S dX8_init_14 ?_
  refine r_putf S p_RX8_15_7 dX8_init_15 (by first | rfl | decide) (by first | rfl | decide) (by repeat (first | assumption | exact sUp_same | exact sNew_same | refine sUp_ne (by first | assumption | omega) ?_)) (Nat.le_of_ble_eq_true rfl) (fs' := [_, _, _, _]) rfl ?_
  refine V.name (fun s3 e3 => ?_)
  have z3 : s3.1 = (t + 1) := by rw [e3]; exact z2
  have f3_o : s3.2 a = some (.inr (7, [.int 0, .int 0, .ref t, .int (iZ 0)])) := by rw [e3]; exact sUp_same
  have f3_fw : s3.2 t = some (eI k 4096 (fun _ => 0)) := by rw [e3]; exact sUp_ne (by omega) f2_fw
  have g3 : ∀ b, b < t → b ≠ a → s3.2 b = σ.2 b := fun b h0 h1 => by rw [e3]; exact sUp_ne (by omega) (g2 b h0 h1)
  clear e3 g2 f2_o f2_fw z2
  refine r_aload_n S dX8_init_18 rfl ?_
  refine r_iload_n S dX8_init_19 rfl ?_
  refine r_iconst S dX8_init_20 ?_
  refine r_mmin S wd_474 ks_min dX8_init_21 (by decide) ⟨by omega, by omega⟩ ⟨by omega, by omega⟩ ⟨by omega, by omega⟩ (Nat.le_of_ble_eq_true rfl) ?_
  refine r_putF S p_RX8_25_7 dX8_init_24 (by first | rfl | decide) (by first | rfl | decide) (by repeat (first | assumption | exact sUp_same | exact sNew_same | refine sUp_ne (by first | assumption | omega) ?_)) (Nat.le_of_ble_eq_true rfl) (fs' := [_, _, _, _]) rfl ?_
  refine V.name (fun s4 e4 => ?_)
  have z4 : s4.1 = (t + 1) := by rw [e4]; exact z3
  have f4_o : s4.2 a = some (.inr (7, [.int (iZ (min yp 3)), .int 0, .ref t, .int (iZ 0)])) := by rw [e4]; exact sUp_same
  have f4_fw : s4.2 t = some (eI k 4096 (fun _ => 0)) := by rw [e4]; exact sUp_ne (by omega) f3_fw
  have g4 : ∀ b, b < t → b ≠ a → s4.2 b = σ.2 b := fun b h0 h1 => by rw [e4]; exact sUp_ne (by omega) (g3 b h0 h1)
  clear e4 g3 f3_o f3_fw z3
  refine r_aload_n S dX8_init_27 rfl ?_
  refine r_iload_n S dX8_init_28 rfl ?_
  refine r_iconst S dX8_init_29 ?_
  refine r_mmin S wd_474 ks_min dX8_init_30 (by decide) ⟨by omega, by omega⟩ ⟨by omega, by omega⟩ ⟨by omega, by omega⟩ (Nat.le_of_ble_eq_true rfl) ?_
  refine r_putF S p_RX8_28_7 dX8_init_33 (by first | rfl | decide) (by first | rfl | decide) (by repeat (first | assumption | exact sUp_same | exact sNew_same | refine sUp_ne (by first | assumption | omega) ?_)) (Nat.le_of_ble_eq_true rfl) (fs' := [_, _, _, _]) rfl ?_
  refine V.name (fun s5 e5 => ?_)
  have z5 : s5.1 = (t + 1) := by rw [e5]; exact z4
  have f5_o : s5.2 a = some (.inr (7, [.int (iZ (min yp 3)), .int (iZ (min np 3)), .ref t, .int (iZ 0)])) := by rw [e5]; exact sUp_same
  have f5_fw : s5.2 t = some (eI k 4096 (fun _ => 0)) := by rw [e5]; exact sUp_ne (by omega) f4_fw
  have g5 : ∀ b, b < t → b ≠ a → s5.2 b = σ.2 b := fun b h0 h1 => by rw [e5]; exact sUp_ne (by omega) (g4 b h0 h1)
  clear e5 g4 f4_o f4_fw z4
  exact r_vret S dX8_init_36 (by omega) (by omega) (by first | (rw [z0]; exact ⟨rfl, z5, f5_o, f5_fw, g5⟩) | exact ⟨rfl, z5, f5_o, f5_fw, g5⟩)
