/-! SpanTable -/
abbrev oSp (u : Nat) (yp np kn : Int) : va_E := .inr (7, [.int (iZ yp), .int (iZ np), .ref (u + 1), .int (iZ kn)])
theorem ckG : allN (fun r => cond (Nat.ble (sg r) r) (cond (Nat.beq (Nat.land 5461 (Nat.xor 8191 (sg r))) (gaps r)) (cond (Nat.beq (Nat.pow 4 (pp r)) (gp r)) (cond (Nat.ble (pp r) 6) (cond (Nat.blt (cpN r) 4096) (cond (Nat.beq r 0) true (Nat.ble (gp r) (Nat.mul 4 r))) false) false) false) false) false) 4096 = true := by decide +kernel
theorem ckI : allN (fun r => cond (decide (iZ ((gaps r : Nat) : Int) &&& iZ (-((gaps r : Nat) : Int)) = iZ ((gp r : Nat) : Int))) (decide ((iZ (r : Int) &&& iZ (((gp r : Nat) : Int) - 1)) ||| (iZ ((r / 2 ^ 2 : Nat) : Int) &&& iZ (-((gp r : Nat) : Int))) = iZ ((cpN r : Nat) : Int))) false) 4096 = true := by decide +kernel
theorem cd {a b : Bool} (h : cond a b false = true) : a = true ∧ b = true := by
  cases a
  · cases h
  · exact ⟨rfl, h⟩
theorem beqT {a b : Nat} (h : Nat.beq a b = true) : a = b := Nat.eq_of_beq_eq_true h
theorem bleT {a b : Nat} (h : Nat.ble a b = true) : a ≤ b := Nat.le_of_ble_eq_true h
theorem bltT {a b : Nat} : Nat.blt a b = true ↔ a < b := ⟨fun h => Nat.le_of_ble_eq_true h, fun h => Nat.ble_eq_true_of_le h⟩
theorem bltF {a b : Nat} (h : ¬ a < b) : Nat.blt a b = false := by
  cases e : Nat.blt a b with
  | false => rfl
  | true => exact absurd (bltT.mp e) h
theorem bleF {a b : Nat} (h : ¬ a ≤ b) : Nat.ble a b = false := by
  cases e : Nat.ble a b with
  | false => rfl
  | true => exact absurd (bleT e) h
theorem sg_le {r : Nat} (h : r < 4096) : sg r ≤ r := bleT (cd (allN_at ckG r h)).1
theorem gaps_eq {r : Nat} (h : r < 4096) : 5461 &&& (8191 ^^^ sg r) = gaps r := beqT (cd (cd (allN_at ckG r h)).2).1
theorem pp_eq {r : Nat} (h : r < 4096) : 4 ^ pp r = gp r := beqT (cd (cd (cd (allN_at ckG r h)).2).2).1
theorem pp_le {r : Nat} (h : r < 4096) : pp r ≤ 6 := bleT (cd (cd (cd (cd (allN_at ckG r h)).2).2).2).1
theorem gp_4r {r : Nat} (h : r < 4096) (h0 : r ≠ 0) : gp r ≤ 4 * r := by
  have h9 := (cd (cd (cd (cd (cd (allN_at ckG r h)).2).2).2).2).2
  cases e : Nat.beq r 0 with
  | true => exact absurd (beqT e) h0
  | false => rw [e] at h9; exact bleT h9
theorem gp_le {r : Nat} (h : r < 4096) : gp r ≤ 4096 := by
  rw [← pp_eq h]
  exact Nat.le_trans (Nat.pow_le_pow_right (by decide) (pp_le h)) (by decide)
theorem gp_pos {r : Nat} (h : r < 4096) : 1 ≤ gp r := by
  rw [← pp_eq h]
  exact Nat.pow_pos (by decide)
theorem gp_I {r : Nat} (h : r < 4096) : iZ ((gaps r : Nat) : Int) &&& iZ (-((gaps r : Nat) : Int)) = iZ ((gp r : Nat) : Int) := of_decide_eq_true (cd (allN_at ckI r h)).1
theorem cp_I {r : Nat} (h : r < 4096) : (iZ (r : Int) &&& iZ (((gp r : Nat) : Int) - 1)) ||| (iZ ((r / 2 ^ 2 : Nat) : Int) &&& iZ (-((gp r : Nat) : Int))) = iZ ((cpN r : Nat) : Int) := of_decide_eq_true (cd (allN_at ckI r h)).2
theorem cp_lt {r : Nat} (hr : r < 4096) : cpN r < 4096 := bltT.mp (cd (cd (cd (cd (cd (allN_at ckG r hr)).2).2).2).2).1
theorem and_n {s t : Nat} (hs : s < 8192) : s &&& (t ^^^ 4294967295) = s &&& (8191 ^^^ t) := by
  apply Nat.eq_of_testBit_eq
  intro i
  rw [Nat.testBit_and, Nat.testBit_and, Nat.testBit_xor, Nat.testBit_xor]
  have e1 : (4294967295 : Nat) = 2 ^ 32 - 1 := by decide
  have e2 : (8191 : Nat) = 2 ^ 13 - 1 := by decide
  rw [e1, e2, Nat.testBit_two_pow_sub_one, Nat.testBit_two_pow_sub_one]
  by_cases hi : i < 13
  · rw [decide_eq_true (show i < 32 by omega), decide_eq_true hi, Bool.xor_comm]
  · have hz : s.testBit i = false := Nat.testBit_lt_two_pow (Nat.lt_of_lt_of_le hs (Nat.pow_le_pow_right (n := 2) (i := 13) (by decide) (by omega)))
    rw [hz, Bool.false_and, Bool.false_and]
theorem andnZ {s t : Nat} (hs : s < 8192) : iZ (s : Int) &&& (iZ (t : Int) ^^^ iZ (-1)) = iZ ((s &&& (8191 ^^^ t) : Nat) : Int) := by
  have e : iZ (-1) = iZ ((4294967295 : Nat) : Int) := by decide +kernel
  rw [e, xorZ, andZ, and_n hs]
theorem ch_le (w : Nat) : ∀ p r, ch w p r ≤ r
  | 0, r => Nat.le_refl _
  | p + 1, r => Nat.le_trans (ch_le w p _) (Nat.sub_le _ _)
theorem TS_lt (kd s : Nat) : TS kd s < 16 := Nat.mod_lt _ (by decide)
theorem FN_lt (kd r j : Nat) : FN kd r j < 16 := by
  unfold FN
  have := TS_lt kd j
  cases Nat.blt j r <;> cases Nat.beq j r <;> simp only [cond_true, cond_false] <;> omega
theorem mx_eq (a b : Nat) : mx a b = max a b := by
  unfold mx
  by_cases h : a ≤ b
  · rw [Nat.ble_eq_true_of_le h, cond_true]; omega
  · rw [bleF h, cond_false]; omega
theorem mn_eq (a b : Nat) : mn a b = min a b := by
  unfold mn
  by_cases h : a ≤ b
  · rw [Nat.ble_eq_true_of_le h, cond_true]; omega
  · rw [bleF h, cond_false]; omega
theorem gbN_lt (kd r sp : Nat) : gbN kd r sp < 16 := by
  unfold gbN
  rw [mx_eq]
  have h1 := FN_lt kd r (ch (Nat.xor 8191 sp) (py kd) r)
  have h2 := FN_lt kd r (ch sp (pn kd) r)
  omega
theorem py_le (kd : Nat) : py kd ≤ 3 := by unfold py; split <;> omega
theorem pn_le (kd : Nat) : pn kd ≤ 3 := by unfold pn; split <;> omega
def FsN (kd kn j : Nat) : Nat := if j < kn then TS kd j else 0
theorem FsN_0 (kd : Nat) : (fun j => ((FsN kd 0 j : Nat) : Int)) = fun _ => 0 := by
  funext j
  unfold FsN
  rw [if_neg (by omega)]
  rfl
theorem FsN_13 (kd r : Nat) : uZ (fun j => ((FsN kd r j : Nat) : Int)) r 13 = fun j => ((FN kd r j : Nat) : Int) := by
  funext j
  unfold uZ FsN FN
  by_cases h : j = r
  · subst h
    rw [if_pos rfl, bltF (Nat.lt_irrefl _), cond_false, Nat.beq_refl, cond_true]
    rfl
  · rw [if_neg h]
    dsimp only
    by_cases h2 : j < r
    · rw [if_pos h2, bltT.mpr h2, cond_true]
    · have h3 : Nat.beq j r = false := by
        cases e : Nat.beq j r with
        | false => rfl
        | true => exact absurd (beqT e) h
      rw [if_neg h2, bltF h2, cond_false, h3, cond_false]
theorem FsN_up (kd r : Nat) : uZ (fun j => ((FN kd r j : Nat) : Int)) r (TS kd r : Int) = fun j => ((FsN kd (r + 1) j : Nat) : Int) := by
  rw [← FsN_13, uZ_uZ]
  funext j
  unfold uZ FsN
  by_cases h : j = r
  · subst h
    rw [if_pos rfl, if_pos (by omega)]
  · rw [if_neg h]
    dsimp only
    by_cases h2 : j < r
    · rw [if_pos h2, if_pos (by omega)]
    · rw [if_neg h2, if_neg (by omega)]
theorem lr_TS {kd r : Nat} (hk : kd < 3) (hr : r < 4096) : lrN kd r = TS kd r := by
  match kd, hk with
  | 0, _ => exact beqT (allN_at ckC0 r hr)
  | 1, _ => exact beqT (allN_at ckC1 r hr)
  | 2, _ => exact beqT (allN_at ckC2 r hr)
theorem d_le4 {d j f p : Nat} (hd : d = 4 ^ j) (h : j + (f + 1) = p) : d * 4 ≤ 4 ^ p := by
  rw [hd, ← Nat.pow_succ]
  exact Nat.pow_le_pow_right (by decide) (by omega)
theorem popc4 : ∀ q, q < 7 → popc (4 ^ q - 1) / 2 = q := by decide +kernel
set_option maxRecDepth 100000 in
set_option maxHeartbeats 4000000 in
theorem c_standing {k : Cx} {L0 : Launch} {σ : St} {r : Nat} (hr : r < 8192) : CtrV k L0 mX8_standing 1 0 0 [.int (iZ (r : Int))] σ (fun v σ' => v = .int (iZ (((sg r : Nat) : Int))) ∧ σ' = σ) := by
  refine Ctr.of (by decide +kernel) rfl (Nat.le_of_ble_eq_true rfl) ?_
  intro κ hl0 S
  subst hl0
  refine r_iload_n S dX8_standing_0 rfl ?_
  refine r_iload_n S dX8_standing_1 rfl ?_
  refine r_iconst S dX8_standing_2 ?_
  refine r_ishr S dX8_standing_3 (shrZ (i := 1) (by omega) (by omega)) ?_
  refine r_ior S dX8_standing_4 (orZ _ _) ?_
  refine r_sipush S dX8_standing_5 (by decide) ?_
  refine r_iand S dX8_standing_8 (andZ _ 5461) ?_
  exact r_iret S dX8_standing_9 (by omega) (by omega) (⟨_, rfl, rfl, rfl⟩)

set_option maxRecDepth 100000 in
set_option maxHeartbeats 4000000 in
theorem c_lowestGap {k : Cx} {L0 : Launch} {σ : St} {r : Nat} (hr : r < 4096) : CtrV k L0 mX8_lowestGap 2 0 0 [.int (iZ (r : Int))] σ (fun v σ' => v = .int (iZ (((gp r : Nat) : Int))) ∧ σ' = σ) := by
  refine Ctr.of (by decide +kernel) rfl (Nat.le_of_ble_eq_true rfl) ?_
  intro κ hl0 S
  subst hl0
  refine r_sipush S dX8_lowestGap_0 (by decide) ?_
  refine r_iload_n S dX8_lowestGap_3 rfl ?_
  refine r_callS S (c_standing (by omega)) k_mX8_standing c_RX8_62 dX8_lowestGap_4 (by decide) ⟨by omega, by omega⟩ rfl rfl (Nat.le_of_ble_eq_true rfl) (fun r σ' hp => ?_)
  obtain ⟨_, rfl, rfl, rfl⟩ := hp
  try simp only [Option.toList_some, Option.toList_none, List.cons_append, List.nil_append]
  refine r_iconst S dX8_lowestGap_7 ?_
  refine r_ixor S dX8_lowestGap_8 (rfl) ?_
  refine r_iand S dX8_lowestGap_9 (v := iZ ((gaps r : Nat) : Int)) (by have h9 := andnZ (s := 5461) (t := sg r) (by omega); rw [gaps_eq hr] at h9; exact h9) ?_
  refine r_istore_n S dX8_lowestGap_10 rfl (by decide) (lv' := [_, _]) rfl ?_
  refine r_iload_n S dX8_lowestGap_11 rfl ?_
  refine r_iload_n S dX8_lowestGap_12 rfl ?_
  refine r_ineg S dX8_lowestGap_13 ?_
  refine r_iand S dX8_lowestGap_14 (gp_I hr) ?_
  exact r_iret S dX8_lowestGap_15 (by omega) (by omega) (⟨_, rfl, rfl, rfl⟩)

set_option maxRecDepth 100000 in
set_option maxHeartbeats 4000000 in
theorem l_charged {κ : Kx} {k : Cx} {σ : St} {r w p : Nat} {who : Int32} (hr : r < 4096) (hp : p ≤ 3) (hw : ∀ s : Nat, s < 8192 → iZ (s : Int) &&& who = iZ ((s &&& w : Nat) : Int)) (S : Ok κ k cX8_charged 5 RX8 (some .int) "charged" 2 0 0) : ∀ (m i : Nat), i + m = p → ∀ x : Nat, x < 4096 → ch w m x = ch w p r → V κ k 5 0 0 (QR κ k (fun r9 σ' => ∃ v, r9 = some v ∧ (v = .int (iZ ((ch w p r : Nat) : Int)) ∧ σ' = σ)) 0 0) 5 [some (.int (iZ (r : Int))), some (.int who), some (.int (iZ (p : Int))), some (.int (iZ (x : Int))), some (.int (iZ (i : Int)))] [] σ := by
  intro m
  induction m with
  | zero =>
    intro i hi x hx he
    refine r_iload S dX8_charged_5 rfl ?_
    refine r_iload_n S dX8_charged_7 rfl ?_
    refine r_icmp_ge S dX8_charged_8 (tgt := 26) (by decide) ⟨by omega, by omega⟩ ⟨by omega, by omega⟩ (fun h_8 => ?_) (fun h_8 => ?_)
    · refine r_iload_n S dX8_charged_26 rfl ?_
      exact r_iret S dX8_charged_27 (by omega) (by omega) (⟨_, rfl, by rw [← he]; rfl, rfl⟩)
    · omega
  | succ m ih =>
    intro i hi x hx he
    have hsg := sg_le hx
    have hal : sg x &&& w ≤ sg x := Nat.and_le_left
    refine r_iload S dX8_charged_5 rfl ?_
    refine r_iload_n S dX8_charged_7 rfl ?_
    refine r_icmp_ge S dX8_charged_8 (tgt := 26) (by decide) ⟨by omega, by omega⟩ ⟨by omega, by omega⟩ (fun h_8 => ?_) (fun h_8 => ?_)
    · omega
    · refine r_iload_n S dX8_charged_11 rfl ?_
      refine r_iload_n S dX8_charged_12 rfl ?_
      refine r_callS S (c_standing (by omega)) k_mX8_standing c_RX8_62 dX8_charged_13 (by decide) ⟨by omega, by omega⟩ rfl rfl (Nat.le_of_ble_eq_true rfl) (fun r σ' hp => ?_)
      obtain ⟨_, rfl, rfl, rfl⟩ := hp
      try simp only [Option.toList_some, Option.toList_none, List.cons_append, List.nil_append]
      refine r_iload_n S dX8_charged_16 rfl ?_
      refine r_iand S dX8_charged_17 (hw _ (by omega)) ?_
      refine r_isub S dX8_charged_18 ?_
      refine r_num (z' := ((x - (sg x &&& w) : Nat) : Int)) (by omega) ?_
      refine r_istore_n S dX8_charged_19 rfl (by decide) (lv' := [_, _, _, _, _]) rfl ?_
      refine r_iinc S dX8_charged_20 rfl rfl (by decide) (lv' := [_, _, _, _, _]) rfl ?_
      refine r_goto S dX8_charged_23 (tgt := 5) (by decide) ?_
      exact ih (i + 1) (by omega) _ (by omega) he

set_option maxRecDepth 100000 in
set_option maxHeartbeats 4000000 in
theorem c_charged {k : Cx} {L0 : Launch} {σ : St} {r w p : Nat} {who : Int32} (hr : r < 4096) (hp : p ≤ 3) (hw : ∀ s : Nat, s < 8192 → iZ (s : Int) &&& who = iZ ((s &&& w : Nat) : Int)) : CtrV k L0 mX8_charged 2 0 0 [.int (iZ (r : Int)), .int who, .int (iZ (p : Int))] σ (fun v σ' => v = .int (iZ (((ch w p r : Nat) : Int))) ∧ σ' = σ) := by
  refine Ctr.of (by decide +kernel) rfl (Nat.le_of_ble_eq_true rfl) ?_
  intro κ hl0 S
  subst hl0
  refine r_iload_n S dX8_charged_0 rfl ?_
  refine r_istore_n S dX8_charged_1 rfl (by decide) (lv' := [_, _, _, _, _]) rfl ?_
  refine r_iconst S dX8_charged_2 ?_
  refine r_istore S dX8_charged_3 rfl (by decide) (lv' := [_, _, _, _, _]) rfl ?_
  exact l_charged hr hp hw S p 0 (by omega) r hr rfl

set_option maxRecDepth 100000 in
set_option maxHeartbeats 4000000 in
theorem c_fewAt8 {k : Cx} {L0 : Launch} {σ : St} {u : Nat} {yp np kn : Int} (hO : σ.2 u = some (oSp u yp np kn)) {G : Nat → Nat} (hF : σ.2 (u + 1) = some (eI k 4096 (fun j => ((G j : Nat) : Int)))) {x : Nat} (hx : x < 4096) : CtrV k L0 mX8_fewAt 1 0 0 [.ref u, .int (iZ (x : Int))] σ (fun v σ' => v = .int (iZ (((G x : Nat) : Int))) ∧ σ' = σ) := by
  refine Ctr.of (by decide +kernel) rfl (Nat.le_of_ble_eq_true rfl) ?_
  intro κ hl0 S
  subst hl0
  refine r_iload_n S dX8_fewAt_0 rfl ?_
  refine r_if_lt S dX8_fewAt_1 (tgt := 20) (by decide) ⟨by omega, by omega⟩ (fun h_1 => ?_) (fun h_1 => ?_)
  · omega
  · refine r_iload_n S dX8_fewAt_4 rfl ?_
    refine r_sipush S dX8_fewAt_5 (by decide) ?_
    refine r_icmp_ge S dX8_fewAt_8 (tgt := 20) (by decide) ⟨by omega, by omega⟩ ⟨by omega, by omega⟩ (fun h_8 => ?_) (fun h_8 => ?_)
    · omega
    · refine r_aload_n S dX8_fewAt_11 rfl ?_
      refine r_getf S g_RX8_9_7 dX8_fewAt_12 (by repeat (first | assumption | exact sUp_same | exact sNew_same | refine sUp_ne (by first | assumption | omega) ?_)) rfl ?_
      refine r_iload_n S dX8_fewAt_15 rfl ?_
      refine r_ialdN S (x) dX8_fewAt_16 (by repeat (first | assumption | exact sUp_same | exact sNew_same | refine sUp_ne (by first | assumption | omega) ?_)) (by omega) (by omega) (by decide) ?_
      refine r_goto S dX8_fewAt_17 (tgt := 22) (by decide) ?_
      exact r_iret S dX8_fewAt_22 (by omega) (by omega) (⟨_, rfl, rfl, rfl⟩)

set_option maxRecDepth 100000 in
set_option maxHeartbeats 4000000 in
theorem c_greaterBehind {k : Cx} {L0 : Launch} {σ : St} {u : Nat} {kn : Int} {kd : Nat} (hO : σ.2 u = some (oSp u (py kd : Int) (pn kd : Int) kn)) {r : Nat} (hr : r < 4096) (hF : σ.2 (u + 1) = some (eI k 4096 (fun j => ((FN kd r j : Nat) : Int)))) {sp : Nat} (hs : sp < 8192) : CtrV k L0 mX8_greaterBehind 3 0 0 [.ref u, .int (iZ (r : Int)), .int (iZ (sp : Int))] σ (fun v σ' => v = .int (iZ (((gbN kd r sp : Nat) : Int))) ∧ σ' = σ) := by
  refine Ctr.of (by decide +kernel) rfl (Nat.le_of_ble_eq_true rfl) ?_
  intro κ hl0 S
  subst hl0
  have q1 := FN_lt kd r (ch (8191 ^^^ sp) (py kd) r)
  have q2 := FN_lt kd r (ch sp (pn kd) r)
  refine r_aload_n S dX8_greaterBehind_0 rfl ?_
  refine r_iload_n S dX8_greaterBehind_1 rfl ?_
  refine r_iload_n S dX8_greaterBehind_2 rfl ?_
  refine r_iconst S dX8_greaterBehind_3 ?_
  refine r_ixor S dX8_greaterBehind_4 (rfl) ?_
  refine r_aload_n S dX8_greaterBehind_5 rfl ?_
  refine r_getf S g_RX8_25_7 dX8_greaterBehind_6 (by repeat (first | assumption | exact sUp_same | exact sNew_same | refine sUp_ne (by first | assumption | omega) ?_)) rfl ?_
  refine r_callS S (c_charged (w := 8191 ^^^ sp) hr (py_le kd) (fun s h => andnZ h)) k_mX8_charged c_RX8_58 dX8_greaterBehind_9 (by decide) ⟨by omega, by omega⟩ rfl rfl (Nat.le_of_ble_eq_true rfl) (fun r σ' hp => ?_)
  obtain ⟨_, rfl, rfl, rfl⟩ := hp
  try simp only [Option.toList_some, Option.toList_none, List.cons_append, List.nil_append]
  refine r_callV S (c_fewAt8 hO hF (Nat.lt_of_le_of_lt (ch_le _ _ _) hr)) k_mX8_fewAt c_RX8_38_7 dX8_greaterBehind_12 (by decide) ⟨by omega, by omega⟩ (by repeat (first | assumption | exact sUp_same | exact sNew_same | refine sUp_ne (by first | assumption | omega) ?_)) rfl rfl (Nat.le_of_ble_eq_true rfl) (fun r σ' hp => ?_)
  obtain ⟨_, rfl, rfl, rfl⟩ := hp
  try simp only [Option.toList_some, Option.toList_none, List.cons_append, List.nil_append]
  refine r_istore_n S dX8_greaterBehind_15 rfl (by decide) (lv' := [_, _, _, _, _]) rfl ?_
  refine r_aload_n S dX8_greaterBehind_16 rfl ?_
  refine r_iload_n S dX8_greaterBehind_17 rfl ?_
  refine r_iload_n S dX8_greaterBehind_18 rfl ?_
  refine r_aload_n S dX8_greaterBehind_19 rfl ?_
  refine r_getf S g_RX8_28_7 dX8_greaterBehind_20 (by repeat (first | assumption | exact sUp_same | exact sNew_same | refine sUp_ne (by first | assumption | omega) ?_)) rfl ?_
  refine r_callS S (c_charged (w := sp) hr (pn_le kd) (fun s h => andZ s sp)) k_mX8_charged c_RX8_58 dX8_greaterBehind_23 (by decide) ⟨by omega, by omega⟩ rfl rfl (Nat.le_of_ble_eq_true rfl) (fun r σ' hp => ?_)
  obtain ⟨_, rfl, rfl, rfl⟩ := hp
  try simp only [Option.toList_some, Option.toList_none, List.cons_append, List.nil_append]
  refine r_callV S (c_fewAt8 hO hF (Nat.lt_of_le_of_lt (ch_le _ _ _) hr)) k_mX8_fewAt c_RX8_38_7 dX8_greaterBehind_26 (by decide) ⟨by omega, by omega⟩ (by repeat (first | assumption | exact sUp_same | exact sNew_same | refine sUp_ne (by first | assumption | omega) ?_)) rfl rfl (Nat.le_of_ble_eq_true rfl) (fun r σ' hp => ?_)
  obtain ⟨_, rfl, rfl, rfl⟩ := hp
  try simp only [Option.toList_some, Option.toList_none, List.cons_append, List.nil_append]
  refine r_istore S dX8_greaterBehind_29 rfl (by decide) (lv' := [_, _, _, _, _]) rfl ?_
  refine r_iload_n S dX8_greaterBehind_31 rfl ?_
  refine r_iload S dX8_greaterBehind_32 rfl ?_
  refine r_mmax S wd_523 ks_max dX8_greaterBehind_34 (by decide) ⟨by omega, by omega⟩ ⟨by omega, by omega⟩ ⟨by omega, by omega⟩ (Nat.le_of_ble_eq_true rfl) ?_
  refine r_num (z' := ((gbN kd r sp : Nat) : Int)) (by unfold gbN; rw [mx_eq]; exact (by omega : ∀ a b : Nat, max (a : Int) (b : Int) = ((max a b : Nat) : Int)) _ _) ?_
  exact r_iret S dX8_greaterBehind_37 (by omega) (by omega) (⟨_, rfl, rfl, rfl⟩)

set_option maxRecDepth 100000 in
set_option maxHeartbeats 4000000 in
theorem c_digitOne {k : Cx} {L0 : Launch} {σ : St} {j dg : Nat} (hd : dg = 4 ^ j) (hj : j ≤ 6) : CtrV k L0 mX8_digitOne 1 0 0 [.int (iZ (j : Int))] σ (fun v σ' => v = .int (iZ ((dg : Int))) ∧ σ' = σ) := by
  refine Ctr.of (by decide +kernel) rfl (Nat.le_of_ble_eq_true rfl) ?_
  intro κ hl0 S
  subst hl0
  refine r_iconst S dX8_digitOne_0 ?_
  refine r_iconst S dX8_digitOne_1 ?_
  refine r_iload_n S dX8_digitOne_2 rfl ?_
  refine r_imul S dX8_digitOne_3 ?_
  refine r_num (z' := ((2 * j : Nat) : Int)) (by omega) ?_
  refine r_ishl S dX8_digitOne_4 (v := iZ (dg : Int)) (by have h9 := shlZ (a := 1) (i := 2 * j) (by rw [Nat.one_mul]; exact Nat.pow_lt_pow_right (by decide) (by omega)) (by omega); rw [Nat.one_mul, Nat.pow_mul, show (2 : Nat) ^ 2 = 4 from rfl] at h9; rw [hd]; exact h9) ?_
  exact r_iret S dX8_digitOne_5 (by omega) (by omega) (⟨_, rfl, rfl, rfl⟩)

set_option maxRecDepth 100000 in
set_option maxHeartbeats 4000000 in
theorem l_lq1 {κ : Kx} {k : Cx} {σ : St} {Q : State → Prop} {u : Nat} {kn : Int} {kd : Nat} (hO : σ.2 u = some (oSp u (py kd : Int) (pn kd : Int) kn)) {r : Nat} (hr : r < 4096) (hF : σ.2 (u + 1) = some (eI k 4096 (fun j => ((FN kd r j : Nat) : Int)))) {p : Nat} (hp : 4 ^ p ≤ 4096) (hpr : 4 ^ p ≤ 4 * r) (hp6 : p ≤ 6) {FL : Nat} (kk : V κ k 8 0 0 Q 33 [some (.ref u), some (.int (iZ ((r : Int)))), some (.int (iZ ((p : Int)))), some (.int (iZ ((FL : Int)))), none, none, none, none] [] σ) (S : Ok κ k cX8_leastQuestions 8 RX8 (some .int) "leastQuestions" 4 0 0) : ∀ (f j dg fl : Nat), j + f = p → dg = 4 ^ j → fl < 16 → flN kd r f dg fl = FL → V κ k 8 0 0 Q 5 [some (.ref u), some (.int (iZ ((r : Int)))), some (.int (iZ ((p : Int)))), some (.int (iZ ((fl : Int)))), some (.int (iZ ((j : Int)))), none, none, none] [] σ := by
  intro f
  induction f with
  | zero =>
    intro j dg fl h1 hdg h16 hfl
    rw [flN] at hfl
    subst hfl
    refine r_iload S dX8_leastQuestions_5 rfl ?_
    refine r_iload_n S dX8_leastQuestions_7 rfl ?_
    refine r_icmp_ge S dX8_leastQuestions_8 (tgt := 33) (by decide) ⟨by omega, by omega⟩ ⟨by omega, by omega⟩ (fun h_8 => ?_) (fun h_8 => ?_)
    · refine V.mask [true, true, true, true, false, false, false, false] (lv' := [_, _, _, _, none, none, none, none]) rfl ?_
      exact kk
    · omega
  | succ f ih =>
    intro j dg fl h1 hdg h16 hfl
    have hle := d_le4 hdg h1
    have q1 := FN_lt kd r (r - dg)
    have hmx := mx_eq fl (FN kd r (r - dg))
    refine r_iload S dX8_leastQuestions_5 rfl ?_
    refine r_iload_n S dX8_leastQuestions_7 rfl ?_
    refine r_icmp_ge S dX8_leastQuestions_8 (tgt := 33) (by decide) ⟨by omega, by omega⟩ ⟨by omega, by omega⟩ (fun h_8 => ?_) (fun h_8 => ?_)
    · omega
    · refine r_iload_n S dX8_leastQuestions_11 rfl ?_
      refine r_aload_n S dX8_leastQuestions_12 rfl ?_
      refine r_iload_n S dX8_leastQuestions_13 rfl ?_
      refine r_iload S dX8_leastQuestions_14 rfl ?_
      refine r_callS S (c_digitOne hdg (by omega)) k_mX8_digitOne c_RX8_49 dX8_leastQuestions_16 (by decide) ⟨by omega, by omega⟩ rfl rfl (Nat.le_of_ble_eq_true rfl) (fun r σ' hp => ?_)
      obtain ⟨_, rfl, rfl, rfl⟩ := hp
      try simp only [Option.toList_some, Option.toList_none, List.cons_append, List.nil_append]
      refine r_isub S dX8_leastQuestions_19 ?_
      refine r_num (z' := ((r - dg : Nat) : Int)) (by omega) ?_
      refine r_callV S (c_fewAt8 hO hF (by omega)) k_mX8_fewAt c_RX8_38_7 dX8_leastQuestions_20 (by decide) ⟨by omega, by omega⟩ (by repeat (first | assumption | exact sUp_same | exact sNew_same | refine sUp_ne (by first | assumption | omega) ?_)) rfl rfl (Nat.le_of_ble_eq_true rfl) (fun r σ' hp => ?_)
      obtain ⟨_, rfl, rfl, rfl⟩ := hp
      try simp only [Option.toList_some, Option.toList_none, List.cons_append, List.nil_append]
      refine r_mmax S wd_523 ks_max dX8_leastQuestions_23 (by decide) ⟨by omega, by omega⟩ ⟨by omega, by omega⟩ ⟨by omega, by omega⟩ (Nat.le_of_ble_eq_true rfl) ?_
      refine r_num (z' := ((mx fl (FN kd r (r - dg)) : Nat) : Int)) (by rw [hmx]; omega) ?_
      refine r_istore_n S dX8_leastQuestions_26 rfl (by decide) (lv' := [_, _, _, _, _, _, _, _]) rfl ?_
      refine r_iinc S dX8_leastQuestions_27 rfl rfl (by decide) (lv' := [_, _, _, _, _, _, _, _]) rfl ?_
      refine r_goto S dX8_leastQuestions_30 (tgt := 5) (by decide) ?_
      exact ih (j + 1) (dg * 4) _ (by omega) (by rw [hdg, Nat.pow_succ]) (by rw [hmx]; omega) hfl

set_option maxRecDepth 100000 in
set_option maxHeartbeats 4000000 in
theorem l_lq3 {κ : Kx} {k : Cx} {σ : St} {Q : State → Prop} {u : Nat} {kn : Int} {kd : Nat} (hO : σ.2 u = some (oSp u (py kd : Int) (pn kd : Int) kn)) {r : Nat} (hr : r < 4096) (hF : σ.2 (u + 1) = some (eI k 4096 (fun j => ((FN kd r j : Nat) : Int)))) {p : Nat} (hp : 4 ^ p ≤ 4096) (hpr : 4 ^ p ≤ 4 * r) (hp6 : p ≤ 6) {FL RI : Nat} (hFL : FL < 16) {fs : Nat} (kk : V κ k 8 0 0 Q 101 [some (.ref u), some (.int (iZ ((r : Int)))), some (.int (iZ ((p : Int)))), some (.int (iZ ((FL : Int)))), some (.int (iZ ((RI : Int)))), some (.int (iZ ((fs : Int)))), none, none] [] σ) (S : Ok κ k cX8_leastQuestions 8 RX8 (some .int) "leastQuestions" 4 0 0) : ∀ (f j la sp ls : Nat), j + f = p → la = 4 ^ j → sp < 4096 → ls < 16 → inN kd r FL f la sp ls = RI → V κ k 8 0 0 Q 59 [some (.ref u), some (.int (iZ ((r : Int)))), some (.int (iZ ((p : Int)))), some (.int (iZ ((FL : Int)))), some (.int (iZ ((ls : Int)))), some (.int (iZ ((fs : Int)))), some (.int (iZ ((sp : Int)))), some (.int (iZ ((j : Int))))] [] σ := by
  intro f
  induction f with
  | zero =>
    intro j la sp ls h1 hla hsp h16 hr9
    rw [inN] at hr9
    subst hr9
    refine r_iload S dX8_leastQuestions_59 rfl ?_
    refine r_iload_n S dX8_leastQuestions_61 rfl ?_
    refine r_icmp_ge S dX8_leastQuestions_62 (tgt := 101) (by decide) ⟨by omega, by omega⟩ ⟨by omega, by omega⟩ (fun h_62 => ?_) (fun h_62 => ?_)
    · refine V.mask [true, true, true, true, true, true, false, false] (lv' := [_, _, _, _, _, _, none, none]) rfl ?_
      exact kk
    · omega
  | succ f ih =>
    intro j la sp ls h1 hla hsp h16 hr9
    have hle := d_le4 hla h1
    have hor : sp ||| la < 4096 := Nat.or_lt_two_pow (n := 12) hsp (by omega)
    have q1 := gbN_lt kd r (sp ||| la)
    have hmn := mn_eq ls (gbN kd r (sp ||| la))
    rw [inN] at hr9
    refine r_iload S dX8_leastQuestions_59 rfl ?_
    refine r_iload_n S dX8_leastQuestions_61 rfl ?_
    refine r_icmp_ge S dX8_leastQuestions_62 (tgt := 101) (by decide) ⟨by omega, by omega⟩ ⟨by omega, by omega⟩ (fun h_62 => ?_) (fun h_62 => ?_)
    · omega
    · refine r_iload S dX8_leastQuestions_65 rfl ?_
      refine r_iload_n S dX8_leastQuestions_67 rfl ?_
      refine r_icmp_lt S dX8_leastQuestions_68 (tgt := 101) (by decide) ⟨by omega, by omega⟩ ⟨by omega, by omega⟩ (fun h_68 => ?_) (fun h_68 => ?_)
      · rw [bltT.mpr (by omega), cond_true] at hr9
        subst hr9
        refine V.mask [true, true, true, true, true, true, false, false] (lv' := [_, _, _, _, _, _, none, none]) rfl ?_
        exact kk
      · rw [bltF (by omega), cond_false] at hr9
        refine r_iload S dX8_leastQuestions_71 rfl ?_
        refine r_iload S dX8_leastQuestions_73 rfl ?_
        refine r_callS S (c_digitOne hla (by omega)) k_mX8_digitOne c_RX8_49 dX8_leastQuestions_75 (by decide) ⟨by omega, by omega⟩ rfl rfl (Nat.le_of_ble_eq_true rfl) (fun r σ' hp => ?_)
        obtain ⟨_, rfl, rfl, rfl⟩ := hp
        try simp only [Option.toList_some, Option.toList_none, List.cons_append, List.nil_append]
        refine r_ior S dX8_leastQuestions_78 (orZ _ _) ?_
        refine r_istore S dX8_leastQuestions_79 rfl (by decide) (lv' := [_, _, _, _, _, _, _, _]) rfl ?_
        refine r_iload S dX8_leastQuestions_81 rfl ?_
        refine r_aload_n S dX8_leastQuestions_83 rfl ?_
        refine r_iload_n S dX8_leastQuestions_84 rfl ?_
        refine r_iload S dX8_leastQuestions_85 rfl ?_
        refine r_callV S (c_greaterBehind hO hr hF (by omega)) k_mX8_greaterBehind c_RX8_55_7 dX8_leastQuestions_87 (by decide) ⟨by omega, by omega⟩ (by repeat (first | assumption | exact sUp_same | exact sNew_same | refine sUp_ne (by first | assumption | omega) ?_)) rfl rfl (Nat.le_of_ble_eq_true rfl) (fun r σ' hp => ?_)
        obtain ⟨_, rfl, rfl, rfl⟩ := hp
        try simp only [Option.toList_some, Option.toList_none, List.cons_append, List.nil_append]
        refine r_mmin S wd_474 ks_min dX8_leastQuestions_90 (by decide) ⟨by omega, by omega⟩ ⟨by omega, by omega⟩ ⟨by omega, by omega⟩ (Nat.le_of_ble_eq_true rfl) ?_
        refine r_num (z' := ((mn ls (gbN kd r (sp ||| la)) : Nat) : Int)) (by rw [hmn]; omega) ?_
        refine r_istore S dX8_leastQuestions_93 rfl (by decide) (lv' := [_, _, _, _, _, _, _, _]) rfl ?_
        refine r_iinc S dX8_leastQuestions_95 rfl rfl (by decide) (lv' := [_, _, _, _, _, _, _, _]) rfl ?_
        refine r_goto S dX8_leastQuestions_98 (tgt := 59) (by decide) ?_
        exact ih (j + 1) (la * 4) _ _ (by omega) (by rw [hla, Nat.pow_succ]) hor (by rw [hmn]; omega) hr9

theorem inN_lt (kd r fl : Nat) : ∀ f la sp ls, ls < 16 → inN kd r fl f la sp ls < 16
  | 0, _, _, _, h => h
  | f + 1, la, sp, ls, h => by
    rw [inN]
    cases Nat.blt ls fl with
    | true => exact h
    | false =>
      refine inN_lt kd r fl f _ _ _ ?_
      rw [mn_eq]
      omega
theorem flN_lt (kd r : Nat) : ∀ f dg fl, fl < 16 → flN kd r f dg fl < 16
  | 0, _, _, h => h
  | f + 1, dg, fl, h => by
    rw [flN]
    refine flN_lt kd r f _ _ ?_
    rw [mx_eq]
    have := FN_lt kd r (Nat.sub r dg)
    omega

set_option maxRecDepth 100000 in
set_option maxHeartbeats 4000000 in
theorem l_lq2 {κ : Kx} {k : Cx} {σ : St} {u : Nat} {kn : Int} {kd : Nat} (hO : σ.2 u = some (oSp u (py kd : Int) (pn kd : Int) kn)) {r : Nat} (hr : r < 4096) (hF : σ.2 (u + 1) = some (eI k 4096 (fun j => ((FN kd r j : Nat) : Int)))) {p : Nat} (hp : 4 ^ p ≤ 4096) (hpr : 4 ^ p ≤ 4 * r) (hp6 : p ≤ 6) {FL RO : Nat} (hFL : FL < 16) (S : Ok κ k cX8_leastQuestions 8 RX8 (some .int) "leastQuestions" 4 0 0) : ∀ (f j fs ls : Nat), j + f = p → fs = 4 ^ j → ls < 16 → ouN kd r FL f fs ls = RO → V κ k 8 0 0 (QR κ k (fun r9 σ' => ∃ v, r9 = some v ∧ (v = .int (iZ ((mn 13 (RO + 1) : Nat) : Int)) ∧ σ' = σ)) 0 0) 40 [some (.ref u), some (.int (iZ ((r : Int)))), some (.int (iZ ((p : Int)))), some (.int (iZ ((FL : Int)))), some (.int (iZ ((ls : Int)))), some (.int (iZ ((j : Int)))), none, none] [] σ := by
  intro f
  induction f with
  | zero =>
    intro j fs ls h1 he h16 hr9
    rw [ouN] at hr9
    subst hr9
    refine r_iload S dX8_leastQuestions_40 rfl ?_
    refine r_iload_n S dX8_leastQuestions_42 rfl ?_
    refine r_icmp_ge S dX8_leastQuestions_43 (tgt := 107) (by decide) ⟨by omega, by omega⟩ ⟨by omega, by omega⟩ (fun h_43 => ?_) (fun h_43 => ?_)
    · refine r_bipush S dX8_leastQuestions_107 (by decide) ?_
      refine r_iload S dX8_leastQuestions_109 rfl ?_
      refine r_iconst S dX8_leastQuestions_111 ?_
      refine r_iadd S dX8_leastQuestions_112 ?_
      refine r_mmin S wd_474 ks_min dX8_leastQuestions_113 (by decide) ⟨by omega, by omega⟩ ⟨by omega, by omega⟩ ⟨by omega, by omega⟩ (Nat.le_of_ble_eq_true rfl) ?_
      exact r_iret S dX8_leastQuestions_116 (by omega) (by omega) (⟨_, rfl, by congr 2; rw [mn_eq]; omega, rfl⟩)
    · omega
  | succ f ih =>
    intro j fs ls h1 he h16 hr9
    rw [ouN] at hr9
    have q9 := inN_lt kd r FL (f + 1) fs 0 ls h16
    refine r_iload S dX8_leastQuestions_40 rfl ?_
    refine r_iload_n S dX8_leastQuestions_42 rfl ?_
    refine r_icmp_ge S dX8_leastQuestions_43 (tgt := 107) (by decide) ⟨by omega, by omega⟩ ⟨by omega, by omega⟩ (fun h_43 => ?_) (fun h_43 => ?_)
    · omega
    · refine r_iload S dX8_leastQuestions_46 rfl ?_
      refine r_iload_n S dX8_leastQuestions_48 rfl ?_
      refine r_icmp_lt S dX8_leastQuestions_49 (tgt := 107) (by decide) ⟨by omega, by omega⟩ ⟨by omega, by omega⟩ (fun h_49 => ?_) (fun h_49 => ?_)
      · rw [bltT.mpr (by omega), cond_true] at hr9
        subst hr9
        refine r_bipush S dX8_leastQuestions_107 (by decide) ?_
        refine r_iload S dX8_leastQuestions_109 rfl ?_
        refine r_iconst S dX8_leastQuestions_111 ?_
        refine r_iadd S dX8_leastQuestions_112 ?_
        refine r_mmin S wd_474 ks_min dX8_leastQuestions_113 (by decide) ⟨by omega, by omega⟩ ⟨by omega, by omega⟩ ⟨by omega, by omega⟩ (Nat.le_of_ble_eq_true rfl) ?_
        exact r_iret S dX8_leastQuestions_116 (by omega) (by omega) (⟨_, rfl, by congr 2; rw [mn_eq]; omega, rfl⟩)
      · rw [bltF (by omega), cond_false] at hr9
        refine r_iconst S dX8_leastQuestions_52 ?_
        refine r_istore S dX8_leastQuestions_53 rfl (by decide) (lv' := [_, _, _, _, _, _, _, _]) rfl ?_
        refine r_iload S dX8_leastQuestions_55 rfl ?_
        refine r_istore S dX8_leastQuestions_57 rfl (by decide) (lv' := [_, _, _, _, _, _, _, _]) rfl ?_
        refine l_lq3 hO hr hF hp hpr hp6 (RI := inN kd r FL (f + 1) fs 0 ls) hFL ?_ S (f + 1) j fs 0 ls h1 he (by omega) h16 rfl
        refine r_iinc S dX8_leastQuestions_101 rfl rfl (by decide) (lv' := [_, _, _, _, _, _, _, _]) rfl ?_
        refine r_goto S dX8_leastQuestions_104 (tgt := 40) (by decide) ?_
        exact ih (j + 1) (fs * 4) _ (by omega) (by rw [he, Nat.pow_succ]) q9 hr9

set_option maxRecDepth 100000 in
set_option maxHeartbeats 4000000 in
theorem c_leastQuestions {k : Cx} {L0 : Launch} {σ : St} {u : Nat} {kn : Int} {kd : Nat} (hO : σ.2 u = some (oSp u (py kd : Int) (pn kd : Int) kn)) {r : Nat} (hr : r < 4096) (hF : σ.2 (u + 1) = some (eI k 4096 (fun j => ((FN kd r j : Nat) : Int)))) {p : Nat} (hp : 4 ^ p ≤ 4096) (hpr : 4 ^ p ≤ 4 * r) (hp6 : p ≤ 6) : CtrV k L0 mX8_leastQuestions 4 0 0 [.ref u, .int (iZ (r : Int)), .int (iZ (p : Int))] σ (fun v σ' => v = .int (iZ (((lqN kd r p : Nat) : Int))) ∧ σ' = σ) := by
  refine Ctr.of (by decide +kernel) rfl (Nat.le_of_ble_eq_true rfl) ?_
  intro κ hl0 S
  subst hl0
  refine r_iconst S dX8_leastQuestions_0 ?_
  refine r_istore_n S dX8_leastQuestions_1 rfl (by decide) (lv' := [_, _, _, _, _, _, _, _]) rfl ?_
  refine r_iconst S dX8_leastQuestions_2 ?_
  refine r_istore S dX8_leastQuestions_3 rfl (by decide) (lv' := [_, _, _, _, _, _, _, _]) rfl ?_
  refine l_lq1 hO hr hF hp hpr hp6 (FL := flN kd r p 1 1) ?_ S p 0 1 1 (by omega) rfl (by omega) rfl
  refine r_bipush S dX8_leastQuestions_33 (by decide) ?_
  refine r_istore S dX8_leastQuestions_35 rfl (by decide) (lv' := [_, _, _, _, _, _, _, _]) rfl ?_
  refine r_iconst S dX8_leastQuestions_37 ?_
  refine r_istore S dX8_leastQuestions_38 rfl (by decide) (lv' := [_, _, _, _, _, _, _, _]) rfl ?_
  refine V.mask [true, true, true, true, true, true, false, false] (lv' := [_, _, _, _, _, _, none, none]) rfl ?_
  exact l_lq2 hO hr hF hp hpr hp6 (flN_lt kd r p 1 1 (by omega)) S p 0 1 13 (by omega) rfl (by omega) rfl

set_option maxRecDepth 100000 in
set_option maxHeartbeats 4000000 in
theorem c_learned8 {k : Cx} {L0 : Launch} {σ : St} {u : Nat} {kn : Int} {kd : Nat} (hO : σ.2 u = some (oSp u (py kd : Int) (pn kd : Int) kn)) {r : Nat} (hr : r < 4096) (hF : σ.2 (u + 1) = some (eI k 4096 (fun j => ((FN kd r j : Nat) : Int)))) : CtrV k L0 mX8_learned 5 0 0 [.ref u, .int (iZ (r : Int))] σ (fun v σ' => v = .int (iZ (((lrN kd r : Nat) : Int))) ∧ σ' = σ) := by
  refine Ctr.of (by decide +kernel) rfl (Nat.le_of_ble_eq_true rfl) ?_
  intro κ hl0 S
  subst hl0
  have h1 := gp_le hr
  have h2 := gp_pos hr
  have h3 : popc (gp r - 1) / 2 = pp r := by rw [← pp_eq hr]; exact popc4 _ (Nat.lt_succ_of_le (pp_le hr))
  have h4 := popc_le (gp r - 1)
  have h5 := pp_le hr
  have h7 : 1 < pp r → 16 ≤ gp r := fun h => by rw [← pp_eq hr]; exact Nat.le_trans (by decide : 16 ≤ 4 ^ 2) (Nat.pow_le_pow_right (by decide) h)
  have h8 : pp r ≤ 1 → gp r ≤ 4 := fun h => by rw [← pp_eq hr]; exact Nat.le_trans (Nat.pow_le_pow_right (by decide) h) (by decide)
  refine r_iload_n S dX8_learned_0 rfl ?_
  refine r_callS S (c_lowestGap hr) k_mX8_lowestGap c_RX8_35 dX8_learned_1 (by decide) ⟨by omega, by omega⟩ rfl rfl (Nat.le_of_ble_eq_true rfl) (fun r σ' hp => ?_)
  obtain ⟨_, rfl, rfl, rfl⟩ := hp
  try simp only [Option.toList_some, Option.toList_none, List.cons_append, List.nil_append]
  refine r_istore_n S dX8_learned_4 rfl (by decide) (lv' := [_, _, _, _]) rfl ?_
  refine r_iload_n S dX8_learned_5 rfl ?_
  refine r_iload_n S dX8_learned_6 rfl ?_
  refine r_icmp_le S dX8_learned_7 (tgt := 27) (by decide) ⟨by omega, by omega⟩ ⟨by omega, by omega⟩ (fun h_7 => ?_) (fun h_7 => ?_)
  · refine r_iload_n S dX8_learned_27 rfl ?_
    refine r_iconst S dX8_learned_28 ?_
    refine r_isub S dX8_learned_29 ?_
    refine r_num (z' := ((gp r - 1 : Nat) : Int)) (by omega) ?_
    refine r_callS S (c_bitCount (by omega)) k_mJ6_bitCount_0f7a4 c_RX8_41 dX8_learned_30 (by decide) ⟨by omega, by omega⟩ rfl rfl (Nat.le_of_ble_eq_true rfl) (fun r σ' hp => ?_)
    obtain ⟨_, rfl, rfl, rfl⟩ := hp
    try simp only [Option.toList_some, Option.toList_none, List.cons_append, List.nil_append]
    refine r_iconst S dX8_learned_33 ?_
    refine r_idiv S dX8_learned_34 (neZ (d := 2) (by decide) (by decide)) (divZ (d := 2) (by omega) (by decide) (by decide)) ?_
    refine r_num (z' := ((pp r : Nat) : Int)) (by rw [h3]) ?_
    refine r_istore_n S dX8_learned_35 rfl (by decide) (lv' := [_, _, _, _]) rfl ?_
    refine r_iload_n S dX8_learned_36 rfl ?_
    refine r_iconst S dX8_learned_37 ?_
    refine r_icmp_gt S dX8_learned_38 (tgt := 45) (by decide) ⟨by omega, by omega⟩ ⟨by omega, by omega⟩ (fun h_38 => ?_) (fun h_38 => ?_)
    · refine r_aload_n S dX8_learned_45 rfl ?_
      refine r_iload_n S dX8_learned_46 rfl ?_
      refine r_iload_n S dX8_learned_47 rfl ?_
      have hg4 := gp_4r hr (by intro h0; subst h0; revert h_38; decide +kernel)
      refine r_callV S (c_leastQuestions hO hr hF (by rw [pp_eq hr]; exact gp_le hr) (by rw [pp_eq hr]; exact hg4) (pp_le hr)) k_mX8_leastQuestions c_RX8_46_7 dX8_learned_48 (by decide) ⟨by omega, by omega⟩ (by repeat (first | assumption | exact sUp_same | exact sNew_same | refine sUp_ne (by first | assumption | omega) ?_)) rfl rfl (Nat.le_of_ble_eq_true rfl) (fun r σ' hp => ?_)
      obtain ⟨_, rfl, rfl, rfl⟩ := hp
      try simp only [Option.toList_some, Option.toList_none, List.cons_append, List.nil_append]
      exact r_iret S dX8_learned_51 (by omega) (by omega) (⟨_, rfl, by congr 3; unfold lrN; rw [bltF (by omega), cond_false, bleF (by have := h7 (by omega); omega), cond_false], rfl⟩)
    · refine r_iconst S dX8_learned_41 ?_
      refine r_goto S dX8_learned_42 (tgt := 51) (by decide) ?_
      exact r_iret S dX8_learned_51 (by omega) (by omega) (⟨_, rfl, by unfold lrN; rw [bltF (by omega), cond_false, Nat.ble_eq_true_of_le (h8 (by omega)), cond_true]; rfl, rfl⟩)
  · refine r_aload_n S dX8_learned_10 rfl ?_
    refine r_iload_n S dX8_learned_11 rfl ?_
    refine r_iload_n S dX8_learned_12 rfl ?_
    refine r_iconst S dX8_learned_13 ?_
    refine r_isub S dX8_learned_14 ?_
    refine r_iand S dX8_learned_15 (rfl) ?_
    refine r_iload_n S dX8_learned_16 rfl ?_
    refine r_iconst S dX8_learned_17 ?_
    refine r_ishr S dX8_learned_18 (shrZ (i := 2) (by omega) (by omega)) ?_
    refine r_iload_n S dX8_learned_19 rfl ?_
    refine r_ineg S dX8_learned_20 ?_
    refine r_iand S dX8_learned_21 (rfl) ?_
    refine r_ior S dX8_learned_22 (cp_I hr) ?_
    refine r_callV S (c_fewAt8 hO hF (cp_lt hr)) k_mX8_fewAt c_RX8_38_7 dX8_learned_23 (by decide) ⟨by omega, by omega⟩ (by repeat (first | assumption | exact sUp_same | exact sNew_same | refine sUp_ne (by first | assumption | omega) ?_)) rfl rfl (Nat.le_of_ble_eq_true rfl) (fun r σ' hp => ?_)
    obtain ⟨_, rfl, rfl, rfl⟩ := hp
    try simp only [Option.toList_some, Option.toList_none, List.cons_append, List.nil_append]
    exact r_iret S dX8_learned_26 (by omega) (by omega) (⟨_, rfl, by congr 3; unfold lrN; rw [bltT.mpr (by omega), cond_true], rfl⟩)

set_option maxRecDepth 100000 in
set_option maxHeartbeats 4000000 in
theorem l_few8 {κ : Kx} {k : Cx} {σ : St} {u kd d : Nat} (hk : kd < 3) (hd : d < 4096) (S : Ok κ k cX8_fewestOf 2 RX8 (some .int) "fewestOf" 6 0 0) : ∀ (m kn : Nat), kn + m = d + 1 → V κ k 2 0 0 (QR κ k (fun r9 σ' => ∃ v, r9 = some v ∧ (∃ kn' : Nat, v = .int (iZ ((TS kd d : Nat) : Int)) ∧ σ' = (sUp (sUp σ u (oSp u (py kd : Int) (pn kd : Int) ((kn' : Nat) : Int))) (u + 1) (eI k 4096 (fun j => ((FsN kd kn' j : Nat) : Int)))) ∧ kn' ≤ 4096)) 0 0) 14 [some (.ref u), some (.int (iZ (d : Int)))] [] (sUp (sUp σ u (oSp u (py kd : Int) (pn kd : Int) ((kn : Nat) : Int))) (u + 1) (eI k 4096 (fun j => ((FsN kd kn j : Nat) : Int)))) := by
  intro m
  induction m with
  | zero =>
    intro kn hkn
    refine r_aload_n S dX8_fewestOf_14 rfl ?_
    refine r_getf S g_RX8_15_7 dX8_fewestOf_15 (by repeat (first | assumption | exact sUp_same | exact sNew_same | refine sUp_ne (by first | assumption | omega) ?_)) rfl ?_
    refine r_iload_n S dX8_fewestOf_18 rfl ?_
    refine r_icmp_gt S dX8_fewestOf_19 (tgt := 73) (by decide) ⟨by omega, by omega⟩ ⟨by omega, by omega⟩ (fun h_19 => ?_) (fun h_19 => ?_)
    · refine r_aload_n S dX8_fewestOf_73 rfl ?_
      refine r_getf S g_RX8_9_7 dX8_fewestOf_74 (by repeat (first | assumption | exact sUp_same | exact sNew_same | refine sUp_ne (by first | assumption | omega) ?_)) rfl ?_
      refine r_iload_n S dX8_fewestOf_77 rfl ?_
      refine r_ialdN S (d) dX8_fewestOf_78 (by repeat (first | assumption | exact sUp_same | exact sNew_same | refine sUp_ne (by first | assumption | omega) ?_)) (by omega) (by omega) (by decide) ?_
      rw [show FsN kd kn d = TS kd d from if_pos (by omega)]
      exact r_iret S dX8_fewestOf_79 (by omega) (by omega) (⟨_, rfl, kn, rfl, rfl, by omega⟩)
    · omega
  | succ m ih =>
    intro kn hkn
    refine r_aload_n S dX8_fewestOf_14 rfl ?_
    refine r_getf S g_RX8_15_7 dX8_fewestOf_15 (by repeat (first | assumption | exact sUp_same | exact sNew_same | refine sUp_ne (by first | assumption | omega) ?_)) rfl ?_
    refine r_iload_n S dX8_fewestOf_18 rfl ?_
    refine r_icmp_gt S dX8_fewestOf_19 (tgt := 73) (by decide) ⟨by omega, by omega⟩ ⟨by omega, by omega⟩ (fun h_19 => ?_) (fun h_19 => ?_)
    · omega
    · refine r_aload_n S dX8_fewestOf_22 rfl ?_
      refine r_getf S g_RX8_15_7 dX8_fewestOf_23 (by repeat (first | assumption | exact sUp_same | exact sNew_same | refine sUp_ne (by first | assumption | omega) ?_)) rfl ?_
      refine r_sipush S dX8_fewestOf_26 (by decide) ?_
      refine r_icmp_ge S dX8_fewestOf_29 (tgt := 73) (by decide) ⟨by omega, by omega⟩ ⟨by omega, by omega⟩ (fun h_29 => ?_) (fun h_29 => ?_)
      · omega
      · refine r_aload_n S dX8_fewestOf_32 rfl ?_
        refine r_getf S g_RX8_9_7 dX8_fewestOf_33 (by repeat (first | assumption | exact sUp_same | exact sNew_same | refine sUp_ne (by first | assumption | omega) ?_)) rfl ?_
        refine r_aload_n S dX8_fewestOf_36 rfl ?_
        refine r_getf S g_RX8_15_7 dX8_fewestOf_37 (by repeat (first | assumption | exact sUp_same | exact sNew_same | refine sUp_ne (by first | assumption | omega) ?_)) rfl ?_
        refine r_bipush S dX8_fewestOf_40 (by decide) ?_
        refine r_iastN S (kn) dX8_fewestOf_42 (by repeat (first | assumption | exact sUp_same | exact sNew_same | refine sUp_ne (by first | assumption | omega) ?_)) (by omega) (by omega) (by decide) ?_
        simp only [sUp_sUp]
        rw [FsN_13]
        refine r_aload_n S dX8_fewestOf_43 rfl ?_
        refine r_getf S g_RX8_9_7 dX8_fewestOf_44 (by repeat (first | assumption | exact sUp_same | exact sNew_same | refine sUp_ne (by first | assumption | omega) ?_)) rfl ?_
        refine r_aload_n S dX8_fewestOf_47 rfl ?_
        refine r_getf S g_RX8_15_7 dX8_fewestOf_48 (by repeat (first | assumption | exact sUp_same | exact sNew_same | refine sUp_ne (by first | assumption | omega) ?_)) rfl ?_
        refine r_aload_n S dX8_fewestOf_51 rfl ?_
        refine r_aload_n S dX8_fewestOf_52 rfl ?_
        refine r_getf S g_RX8_15_7 dX8_fewestOf_53 (by repeat (first | assumption | exact sUp_same | exact sNew_same | refine sUp_ne (by first | assumption | omega) ?_)) rfl ?_
        have hTS := TS_lt kd kn
        refine r_callV S (c_learned8 (σ := sUp (sUp σ u (oSp u (py kd : Int) (pn kd : Int) (kn : Int))) (u + 1) (eI k 4096 (fun j => ((FN kd kn j : Nat) : Int)))) (sUp_ne (by omega) sUp_same) (by omega) sUp_same) k_mX8_learned c_RX8_31_7 dX8_fewestOf_56 (by decide) ⟨by omega, by omega⟩ (by repeat (first | assumption | exact sUp_same | exact sNew_same | refine sUp_ne (by first | assumption | omega) ?_)) rfl rfl (Nat.le_of_ble_eq_true rfl) (fun r σ' hp => ?_)
        obtain ⟨_, rfl, rfl, rfl⟩ := hp
        try simp only [Option.toList_some, Option.toList_none, List.cons_append, List.nil_append]
        rw [lr_TS hk (by omega)]
        refine r_iastN S (kn) dX8_fewestOf_59 (by repeat (first | assumption | exact sUp_same | exact sNew_same | refine sUp_ne (by first | assumption | omega) ?_)) (by omega) (by omega) (by decide) ?_
        simp only [sUp_sUp]
        rw [FsN_up]
        refine r_aload_n S dX8_fewestOf_60 rfl ?_
        refine r_dup S dX8_fewestOf_61 rfl ?_
        refine r_getf S g_RX8_15_7 dX8_fewestOf_62 (by repeat (first | assumption | exact sUp_same | exact sNew_same | refine sUp_ne (by first | assumption | omega) ?_)) rfl ?_
        refine r_iconst S dX8_fewestOf_65 ?_
        refine r_iadd S dX8_fewestOf_66 ?_
        refine r_putf S p_RX8_15_7 dX8_fewestOf_67 (by first | rfl | decide) (by first | rfl | decide) (by repeat (first | assumption | exact sUp_same | exact sNew_same | refine sUp_ne (by first | assumption | omega) ?_)) (Nat.le_of_ble_eq_true rfl) (fs' := [_, _, _, _]) rfl ?_
        rw [sUp_comm _ _ _ (show u + 1 ≠ u by omega), sUp_sUp]
        refine r_goto S dX8_fewestOf_70 (tgt := 14) (by decide) ?_
        exact ih (kn + 1) (by omega)

set_option maxRecDepth 100000 in
set_option maxHeartbeats 4000000 in
theorem c_fewestOf8 {k : Cx} {L0 : Launch} {σ : St} {u kd d : Nat} (hk : kd < 3) (hd : d < 4096) {kn : Nat} (hkn : kn ≤ 4096) (hO : σ.2 u = some (oSp u (py kd : Int) (pn kd : Int) (kn : Int))) (hF : σ.2 (u + 1) = some (eI k 4096 (fun j => ((FsN kd kn j : Nat) : Int)))) : CtrV k L0 mX8_fewestOf 6 0 0 [.ref u, .int (iZ (d : Int))] σ (fun v σ' => ∃ kn' : Nat, v = .int (iZ ((TS kd d : Nat) : Int)) ∧ σ' = (sUp (sUp σ u (oSp u (py kd : Int) (pn kd : Int) ((kn' : Nat) : Int))) (u + 1) (eI k 4096 (fun j => ((FsN kd kn' j : Nat) : Int)))) ∧ kn' ≤ 4096) := by
  refine Ctr.of (by decide +kernel) rfl (Nat.le_of_ble_eq_true rfl) ?_
  intro κ hl0 S
  subst hl0
  refine r_iload_n S dX8_fewestOf_0 rfl ?_
  refine r_if_lt S dX8_fewestOf_1 (tgt := 11) (by decide) ⟨by omega, by omega⟩ (fun h_1 => ?_) (fun h_1 => ?_)
  · omega
  · refine r_iload_n S dX8_fewestOf_4 rfl ?_
    refine r_sipush S dX8_fewestOf_5 (by decide) ?_
    refine r_icmp_lt S dX8_fewestOf_8 (tgt := 14) (by decide) ⟨by omega, by omega⟩ ⟨by omega, by omega⟩ (fun h_8 => ?_) (fun h_8 => ?_)
    · by_cases hlt : kn ≤ d
      · have h9 := l_few8 (σ := σ) (u := u) hk hd S (d + 1 - kn) kn (by omega)
        rw [sUp_id hO, sUp_id hF] at h9
        exact h9
      refine r_aload_n S dX8_fewestOf_14 rfl ?_
      refine r_getf S g_RX8_15_7 dX8_fewestOf_15 (by repeat (first | assumption | exact sUp_same | exact sNew_same | refine sUp_ne (by first | assumption | omega) ?_)) rfl ?_
      refine r_iload_n S dX8_fewestOf_18 rfl ?_
      refine r_icmp_gt S dX8_fewestOf_19 (tgt := 73) (by decide) ⟨by omega, by omega⟩ ⟨by omega, by omega⟩ (fun h_19 => ?_) (fun h_19 => ?_)
      · refine r_aload_n S dX8_fewestOf_73 rfl ?_
        refine r_getf S g_RX8_9_7 dX8_fewestOf_74 (by repeat (first | assumption | exact sUp_same | exact sNew_same | refine sUp_ne (by first | assumption | omega) ?_)) rfl ?_
        refine r_iload_n S dX8_fewestOf_77 rfl ?_
        refine r_ialdN S (d) dX8_fewestOf_78 (by repeat (first | assumption | exact sUp_same | exact sNew_same | refine sUp_ne (by first | assumption | omega) ?_)) (by omega) (by omega) (by decide) ?_
        rw [show FsN kd kn d = TS kd d from if_pos (by omega)]
        exact r_iret S dX8_fewestOf_79 (by omega) (by omega) (⟨_, rfl, kn, rfl, by rw [sUp_id hO, sUp_id hF], hkn⟩)
      · omega
    · omega
