set_option maxRecDepth 100000 in
set_option maxHeartbeats 4000000 in
theorem c_bitCount {k : Cx} {L0 : Launch} {σ : St} {x : Nat} (hx : x < 4096) : CtrV k L0 mJ6_bitCount_0f7a4 1 0 0 [.int (iZ (x : Int))] σ (fun v σ' => v = .int (iZ ((popc x : Int))) ∧ σ' = σ) := by
  refine Ctr.of (by decide +kernel) rfl (Nat.le_of_ble_eq_true rfl) ?_
  intro κ hl0 S
  subst hl0
  refine r_iload_n S dJ6_bitCount_0f7a4_0 rfl ?_
  refine r_iload_n S dJ6_bitCount_0f7a4_1 rfl ?_
  refine r_iconst S dJ6_bitCount_0f7a4_2 ?_
  refine r_iushr S dJ6_bitCount_0f7a4_3 (rfl) ?_
  refine r_ldcw S (n := 1431655765) (by exact wd_513) dJ6_bitCount_0f7a4_4 ?_
  refine r_iand S dJ6_bitCount_0f7a4_7 (rfl) ?_
  refine r_isubx S dJ6_bitCount_0f7a4_8 (rfl) ?_
  refine r_istore_n S dJ6_bitCount_0f7a4_9 rfl (by decide) (lv' := [_]) rfl ?_
  refine r_iload_n S dJ6_bitCount_0f7a4_10 rfl ?_
  refine r_ldcw S (n := 858993459) (by exact wd_514) dJ6_bitCount_0f7a4_11 ?_
  refine r_iand S dJ6_bitCount_0f7a4_14 (rfl) ?_
  refine r_iload_n S dJ6_bitCount_0f7a4_15 rfl ?_
  refine r_iconst S dJ6_bitCount_0f7a4_16 ?_
  refine r_iushr S dJ6_bitCount_0f7a4_17 (rfl) ?_
  refine r_ldcw S (n := 858993459) (by exact wd_514) dJ6_bitCount_0f7a4_18 ?_
  refine r_iand S dJ6_bitCount_0f7a4_21 (rfl) ?_
  refine r_iaddx S dJ6_bitCount_0f7a4_22 (rfl) ?_
  refine r_istore_n S dJ6_bitCount_0f7a4_23 rfl (by decide) (lv' := [_]) rfl ?_
  refine r_iload_n S dJ6_bitCount_0f7a4_24 rfl ?_
  refine r_iload_n S dJ6_bitCount_0f7a4_25 rfl ?_
  refine r_iconst S dJ6_bitCount_0f7a4_26 ?_
  refine r_iushr S dJ6_bitCount_0f7a4_27 (rfl) ?_
  refine r_iaddx S dJ6_bitCount_0f7a4_28 (rfl) ?_
  refine r_ldcw S (n := 252645135) (by exact wd_515) dJ6_bitCount_0f7a4_29 ?_
  refine r_iand S dJ6_bitCount_0f7a4_32 (rfl) ?_
  refine r_istore_n S dJ6_bitCount_0f7a4_33 rfl (by decide) (lv' := [_]) rfl ?_
  refine r_iload_n S dJ6_bitCount_0f7a4_34 rfl ?_
  refine r_iload_n S dJ6_bitCount_0f7a4_35 rfl ?_
  refine r_bipush S dJ6_bitCount_0f7a4_36 (by decide) ?_
  refine r_iushr S dJ6_bitCount_0f7a4_38 (rfl) ?_
  refine r_iaddx S dJ6_bitCount_0f7a4_39 (rfl) ?_
  refine r_istore_n S dJ6_bitCount_0f7a4_40 rfl (by decide) (lv' := [_]) rfl ?_
  refine r_iload_n S dJ6_bitCount_0f7a4_41 rfl ?_
  refine r_iload_n S dJ6_bitCount_0f7a4_42 rfl ?_
  refine r_bipush S dJ6_bitCount_0f7a4_43 (by decide) ?_
  refine r_iushr S dJ6_bitCount_0f7a4_45 (rfl) ?_
  refine r_iaddx S dJ6_bitCount_0f7a4_46 (rfl) ?_
  refine r_istore_n S dJ6_bitCount_0f7a4_47 rfl (by decide) (lv' := [_]) rfl ?_
  refine r_iload_n S dJ6_bitCount_0f7a4_48 rfl ?_
  refine r_bipush S dJ6_bitCount_0f7a4_49 (by decide) ?_
  refine r_iand S dJ6_bitCount_0f7a4_51 (rfl) ?_
  refine r_cast (bcF_ok hx) ?_
  exact r_iret S dJ6_bitCount_0f7a4_52 (by omega) (by omega) (⟨_, rfl, rfl, rfl⟩)

set_option maxRecDepth 100000 in
set_option maxHeartbeats 4000000 in
theorem c_question {k : Cx} {L0 : Launch} {σ : St} {q : Nat} (hC : σ.2 (cBase k + 11) = some (oCode k q)) (hq : q ≤ 12) {qs : Nat → Nat} (hQ : σ.2 (cBase k + 12) = some (eI k 12 (fun j => (qs j : Int)))) {j : Nat} (hj : j < q) : CtrV k L0 mX2_question 1 0 0 [.ref (cBase k + 11), .int (iZ (j : Int))] σ (fun v σ' => v = .int (iZ ((qs j : Int))) ∧ σ' = σ) := by
  refine Ctr.of (by decide +kernel) rfl (Nat.le_of_ble_eq_true rfl) ?_
  intro κ hl0 S
  subst hl0
  refine r_iload_n S dX2_question_0 rfl ?_
  refine r_if_lt S dX2_question_1 (tgt := 21) (by decide) ⟨by omega, by omega⟩ (fun h_1 => ?_) (fun h_1 => ?_)
  · omega
  · refine r_iload_n S dX2_question_4 rfl ?_
    refine r_aload_n S dX2_question_5 rfl ?_
    refine r_getf S g_RX2_18_2 dX2_question_6 (by repeat (first | assumption | exact sUp_same | exact sNew_same | refine sUp_ne (by first | assumption | omega) ?_)) rfl ?_
    refine r_icmp_ge S dX2_question_9 (tgt := 21) (by decide) ⟨by omega, by omega⟩ ⟨by omega, by omega⟩ (fun h_9 => ?_) (fun h_9 => ?_)
    · omega
    · refine r_aload_n S dX2_question_12 rfl ?_
      refine r_getf S g_RX2_9_2 dX2_question_13 (by repeat (first | assumption | exact sUp_same | exact sNew_same | refine sUp_ne (by first | assumption | omega) ?_)) rfl ?_
      refine r_iload_n S dX2_question_16 rfl ?_
      refine r_ialdN S (j) dX2_question_17 (by repeat (first | assumption | exact sUp_same | exact sNew_same | refine sUp_ne (by first | assumption | omega) ?_)) (by omega) (by omega) (by decide) ?_
      refine r_goto S dX2_question_18 (tgt := 22) (by decide) ?_
      exact r_iret S dX2_question_22 (by omega) (by omega) (⟨_, rfl, rfl, rfl⟩)

set_option maxRecDepth 100000 in
set_option maxHeartbeats 4000000 in
theorem c_isWordT {k : Cx} {L0 : Launch} {σ : St} {q : Nat} (hC : σ.2 (cBase k + 11) = some (oCode k q)) (hq : q ≤ 12) {b : Nat} (hb : b < 2 ^ q) : CtrV k L0 mX2_isWord 1 0 0 [.ref (cBase k + 11), .int (iZ (b : Int))] σ (fun v σ' => v = .int (iZ (1)) ∧ σ' = σ) := by
  refine Ctr.of (by decide +kernel) rfl (Nat.le_of_ble_eq_true rfl) ?_
  intro κ hl0 S
  subst hl0
  have hp := pw12 hq
  refine r_iload_n S dX2_isWord_0 rfl ?_
  refine r_if_lt S dX2_isWord_1 (tgt := 17) (by decide) ⟨by omega, by omega⟩ (fun h_1 => ?_) (fun h_1 => ?_)
  · omega
  · refine r_iload_n S dX2_isWord_4 rfl ?_
    refine r_aload_n S dX2_isWord_5 rfl ?_
    refine r_getf S g_RX2_18_2 dX2_isWord_6 (by repeat (first | assumption | exact sUp_same | exact sNew_same | refine sUp_ne (by first | assumption | omega) ?_)) rfl ?_
    refine r_ishr S dX2_isWord_9 (shrZ (by omega) (by omega)) ?_
    refine r_num (z' := 0) (by rw [Nat.div_eq_of_lt hb]; rfl) ?_
    refine r_if_ne S dX2_isWord_10 (tgt := 17) (by decide) ⟨by omega, by omega⟩ (fun h_10 => ?_) (fun h_10 => ?_)
    · omega
    · refine r_iconst S dX2_isWord_13 ?_
      refine r_goto S dX2_isWord_14 (tgt := 18) (by decide) ?_
      exact r_zret S dX2_isWord_18 (by omega) (by omega) (by first | exact Or.inl rfl | exact Or.inr rfl | omega) (⟨_, rfl, rfl, rfl⟩)

set_option maxRecDepth 100000 in
set_option maxHeartbeats 4000000 in
theorem c_isWordF {k : Cx} {L0 : Launch} {σ : St} {q : Nat} (hC : σ.2 (cBase k + 11) = some (oCode k q)) (hq : q ≤ 12) {b : Int} (hz : zR b) (hb : b < 0 ∨ ((2 ^ q : Nat) : Int) ≤ b) : CtrV k L0 mX2_isWord 1 0 0 [.ref (cBase k + 11), .int (iZ b)] σ (fun v σ' => v = .int (iZ (0)) ∧ σ' = σ) := by
  refine Ctr.of (by decide +kernel) rfl (Nat.le_of_ble_eq_true rfl) ?_
  intro κ hl0 S
  subst hl0
  refine r_iload_n S dX2_isWord_0 rfl ?_
  refine r_if_lt S dX2_isWord_1 (tgt := 17) (by decide) hz (fun h_1 => ?_) (fun h_1 => ?_)
  · refine r_iconst S dX2_isWord_17 ?_
    exact r_zret S dX2_isWord_18 (by omega) (by omega) (by first | exact Or.inl rfl | exact Or.inr rfl | omega) (⟨_, rfl, rfl, rfl⟩)
  · obtain ⟨bn, rfl⟩ := Int.eq_ofNat_of_zero_le h_1
    refine r_iload_n S dX2_isWord_4 rfl ?_
    refine r_aload_n S dX2_isWord_5 rfl ?_
    refine r_getf S g_RX2_18_2 dX2_isWord_6 (by repeat (first | assumption | exact sUp_same | exact sNew_same | refine sUp_ne (by first | assumption | omega) ?_)) rfl ?_
    refine r_ishr S dX2_isWord_9 (shrZ (by have := hz.2; omega) (by omega)) ?_
    refine r_if_ne S dX2_isWord_10 (tgt := 17) (by decide) ⟨by generalize bn / 2 ^ q = z9; omega, by have h8 := Nat.div_le_self bn (2 ^ q); generalize bn / 2 ^ q = z9 at h8 ⊢; have := hz.2; omega⟩ (fun h_10 => ?_) (fun h_10 => ?_)
    · refine r_iconst S dX2_isWord_17 ?_
      exact r_zret S dX2_isWord_18 (by omega) (by omega) (by first | exact Or.inl rfl | exact Or.inr rfl | omega) (⟨_, rfl, rfl, rfl⟩)
    · exfalso
      have h7 : 2 ^ q ≤ bn := by omega
      have h8 := (Nat.div_pos_iff.mpr ⟨Nat.two_pow_pos q, h7⟩)
      generalize bn / 2 ^ q = z9 at h8 h_10
      omega

set_option maxRecDepth 100000 in
set_option maxHeartbeats 4000000 in
theorem c_wordOf {k : Cx} {L0 : Launch} {σ : St} {q : Nat} (hC : σ.2 (cBase k + 11) = some (oCode k q)) (hq : q ≤ 12) {w : Nat → Int} {qs : Nat → Nat} (hW : σ.2 (cBase k + 13) = some (eI k 16 w)) (hw : ∀ i, i < 16 → w i = (wd qs q i : Int)) {i : Nat} (hi : i < 16) : CtrV k L0 mX2_wordOf 1 0 0 [.ref (cBase k + 11), .int (iZ (i : Int))] σ (fun v σ' => v = .int (iZ ((wd qs q i : Int))) ∧ σ' = σ) := by
  refine Ctr.of (by decide +kernel) rfl (Nat.le_of_ble_eq_true rfl) ?_
  intro κ hl0 S
  subst hl0
  refine r_iload_n S dX2_wordOf_0 rfl ?_
  refine r_if_lt S dX2_wordOf_1 (tgt := 19) (by decide) ⟨by omega, by omega⟩ (fun h_1 => ?_) (fun h_1 => ?_)
  · omega
  · refine r_iload_n S dX2_wordOf_4 rfl ?_
    refine r_bipush S dX2_wordOf_5 (by decide) ?_
    refine r_icmp_ge S dX2_wordOf_7 (tgt := 19) (by decide) ⟨by omega, by omega⟩ ⟨by omega, by omega⟩ (fun h_7 => ?_) (fun h_7 => ?_)
    · omega
    · refine r_aload_n S dX2_wordOf_10 rfl ?_
      refine r_getf S g_RX2_15_2 dX2_wordOf_11 (by repeat (first | assumption | exact sUp_same | exact sNew_same | refine sUp_ne (by first | assumption | omega) ?_)) rfl ?_
      refine r_iload_n S dX2_wordOf_14 rfl ?_
      refine r_ialdN S (i) dX2_wordOf_15 (by repeat (first | assumption | exact sUp_same | exact sNew_same | refine sUp_ne (by first | assumption | omega) ?_)) (by omega) (by omega) (by decide) ?_
      rw [hw i hi]
      refine r_goto S dX2_wordOf_16 (tgt := 20) (by decide) ?_
      exact r_iret S dX2_wordOf_20 (by omega) (by omega) (⟨_, rfl, rfl, rfl⟩)

set_option maxRecDepth 100000 in
set_option maxHeartbeats 4000000 in
theorem l_add {κ : Kx} {k : Cx} {σ : St} {q : Nat} (hC : σ.2 (cBase k + 11) = some (oCode k q)) (hq : q ≤ 12) {qs : Nat → Nat} (hQ : σ.2 (cBase k + 12) = some (eI k 12 (fun j => (qs j : Int)))) {w : Nat → Int} (hW : σ.2 (cBase k + 13) = some (eI k 16 w)) (hw : ∀ i, i < 16 → w i = (wd qs q i : Int)) {heap : Nat} (hh : heap < 65536) (hq2 : q < 12) (S : Ok κ k cX2_add 3 RX2 (some .boolean) "add" 1 0 0) : ∀ (m i : Nat), i + m = 16 → V κ k 3 0 0 (QR κ k (fun r σ' => ∃ v, r = some v ∧ (v = .int (iZ 1) ∧ σ' = sUp (sUp (sUp σ (cBase k + 12) (eI k 12 (fun j => (uN qs q heap j : Int)))) (cBase k + 13) (eI k 16 (addW w heap q 16))) (cBase k + 11) (oCode k ((q : Int) + 1)))) 0 0) 23 [some (.ref (cBase k + 11)), some (.int (iZ (heap : Int))), some (.int (iZ (i : Int)))] [] (sUp (sUp σ (cBase k + 12) (eI k 12 (fun j => (uN qs q heap j : Int)))) (cBase k + 13) (eI k 16 (addW w heap q i))) := by
  intro m
  induction m with
  | zero =>
    intro i hi
    have hin : i = 16 := by omega
    subst hin
    refine r_iload_n S dX2_add_23 rfl ?_
    refine r_bipush S dX2_add_24 (by decide) ?_
    refine r_icmp_ge S dX2_add_26 (tgt := 54) (by decide) ⟨by omega, by omega⟩ ⟨by omega, by omega⟩ (fun h_26 => ?_) (fun h_26 => ?_)
    · refine r_aload_n S dX2_add_54 rfl ?_
      refine r_dup S dX2_add_55 rfl ?_
      refine r_getf S g_RX2_18_2 dX2_add_56 (by repeat (first | assumption | exact sUp_same | exact sNew_same | refine sUp_ne (by first | assumption | omega) ?_)) rfl ?_
      refine r_iconst S dX2_add_59 ?_
      refine r_iadd S dX2_add_60 ?_
      refine r_putf S p_RX2_18_2 dX2_add_61 (by first | rfl | decide) (by first | rfl | decide) (by repeat (first | assumption | exact sUp_same | exact sNew_same | refine sUp_ne (by first | assumption | omega) ?_)) (Nat.le_of_ble_eq_true rfl) (fs' := [_, _, _]) rfl ?_
      try simp only [sUp_sUp]
      refine r_iconst S dX2_add_64 ?_
      exact r_zret S dX2_add_65 (by omega) (by omega) (by first | exact Or.inl rfl | exact Or.inr rfl | omega) (⟨_, rfl, rfl, rfl⟩)
    · omega
  | succ m ih =>
    intro i hi
    have hb := bt_lt heap i
    refine r_iload_n S dX2_add_23 rfl ?_
    refine r_bipush S dX2_add_24 (by decide) ?_
    refine r_icmp_ge S dX2_add_26 (tgt := 54) (by decide) ⟨by omega, by omega⟩ ⟨by omega, by omega⟩ (fun h_26 => ?_) (fun h_26 => ?_)
    · omega
    · refine r_aload_n S dX2_add_29 rfl ?_
      refine r_getf S g_RX2_15_2 dX2_add_30 (by repeat (first | assumption | exact sUp_same | exact sNew_same | refine sUp_ne (by first | assumption | omega) ?_)) rfl ?_
      refine r_iload_n S dX2_add_33 rfl ?_
      refine r_dup2 S dX2_add_34 rfl rfl ?_
      refine r_ialdN S (i) dX2_add_35 (by repeat (first | assumption | exact sUp_same | exact sNew_same | refine sUp_ne (by first | assumption | omega) ?_)) (by omega) (by omega) (by decide) ?_
      rw [addW_at, hw i (by omega)]
      refine r_iload_n S dX2_add_36 rfl ?_
      refine r_iload_n S dX2_add_37 rfl ?_
      refine r_ishr S dX2_add_38 (shrZ (by omega) (by omega)) ?_
      refine r_iconst S dX2_add_39 ?_
      refine r_iand S dX2_add_40 (v := iZ ((bt heap i : Nat) : Int)) (and1Z _) ?_
      refine r_aload_n S dX2_add_41 rfl ?_
      refine r_getf S g_RX2_18_2 dX2_add_42 (by repeat (first | assumption | exact sUp_same | exact sNew_same | refine sUp_ne (by first | assumption | omega) ?_)) rfl ?_
      refine r_ishl S dX2_add_45 (shlZ (by have h5 := pw12 (show q ≤ 12 by omega); have h6 : bt heap i * 2 ^ q ≤ 1 * 2 ^ q := Nat.mul_le_mul_right _ (by omega); omega) (by omega)) ?_
      refine r_ior S dX2_add_46 (orW (wd_lt qs q i)) ?_
      refine r_iastN S (i) dX2_add_47 (by repeat (first | assumption | exact sUp_same | exact sNew_same | refine sUp_ne (by first | assumption | omega) ?_)) (by omega) (by omega) (by decide) ?_
      refine r_iinc S dX2_add_48 rfl rfl (by decide) (lv' := [_, _, _]) rfl ?_
      refine r_goto S dX2_add_51 (tgt := 23) (by decide) ?_
      have h9 := ih (i + 1) (by omega)
      rw [← addW_succ w heap q i, hw i (by omega)] at h9
      rw [Int.natCast_add]
      simp only [sUp_sUp]
      exact h9

set_option maxRecDepth 100000 in
set_option maxHeartbeats 4000000 in
theorem c_add {k : Cx} {L0 : Launch} {σ : St} {q : Nat} (hC : σ.2 (cBase k + 11) = some (oCode k q)) (hq : q ≤ 12) {qs : Nat → Nat} (hQ : σ.2 (cBase k + 12) = some (eI k 12 (fun j => (qs j : Int)))) {w : Nat → Int} (hW : σ.2 (cBase k + 13) = some (eI k 16 w)) (hw : ∀ i, i < 16 → w i = (wd qs q i : Int)) {heap : Nat} (hh : heap < 65536) (hq2 : q < 12) : CtrV k L0 mX2_add 1 0 0 [.ref (cBase k + 11), .int (iZ (heap : Int))] σ (fun v σ' => v = .int (iZ 1) ∧ σ' = sUp (sUp (sUp σ (cBase k + 12) (eI k 12 (fun j => (uN qs q heap j : Int)))) (cBase k + 13) (eI k 16 (addW w heap q 16))) (cBase k + 11) (oCode k ((q : Int) + 1))) := by
  refine Ctr.of (by decide +kernel) rfl (Nat.le_of_ble_eq_true rfl) ?_
  intro κ hl0 S
  subst hl0
  refine r_aload_n S dX2_add_0 rfl ?_
  refine r_getf S g_RX2_18_2 dX2_add_1 (by repeat (first | assumption | exact sUp_same | exact sNew_same | refine sUp_ne (by first | assumption | omega) ?_)) rfl ?_
  refine r_bipush S dX2_add_4 (by decide) ?_
  refine r_icmp_lt S dX2_add_6 (tgt := 11) (by decide) ⟨by omega, by omega⟩ ⟨by omega, by omega⟩ (fun h_6 => ?_) (fun h_6 => ?_)
  · refine r_aload_n S dX2_add_11 rfl ?_
    refine r_getf S g_RX2_9_2 dX2_add_12 (by repeat (first | assumption | exact sUp_same | exact sNew_same | refine sUp_ne (by first | assumption | omega) ?_)) rfl ?_
    refine r_aload_n S dX2_add_15 rfl ?_
    refine r_getf S g_RX2_18_2 dX2_add_16 (by repeat (first | assumption | exact sUp_same | exact sNew_same | refine sUp_ne (by first | assumption | omega) ?_)) rfl ?_
    refine r_iload_n S dX2_add_19 rfl ?_
    refine r_iastN S (q) dX2_add_20 (by repeat (first | assumption | exact sUp_same | exact sNew_same | refine sUp_ne (by first | assumption | omega) ?_)) (by omega) (by omega) (by decide) ?_
    refine r_iconst S dX2_add_21 ?_
    refine r_istore_n S dX2_add_22 rfl (by decide) (lv' := [_, _, _]) rfl ?_
    have h9 := l_add hC hq hQ hW hw hh hq2 S 16 0 (by omega)
    rw [addW_0, sUp_id (sUp_ne (by omega) hW)] at h9
    rw [uZ_uN]
    exact h9
  · omega

set_option maxRecDepth 100000 in
set_option maxHeartbeats 4000000 in
theorem c_addF {k : Cx} {L0 : Launch} {σ : St} {q : Nat} (hC : σ.2 (cBase k + 11) = some (oCode k q)) (hq : q ≤ 12) {heap : Int} (hq2 : q = 12) : CtrV k L0 mX2_add 1 0 0 [.ref (cBase k + 11), .int (iZ heap)] σ (fun v σ' => v = .int (iZ (0)) ∧ σ' = σ) := by
  refine Ctr.of (by decide +kernel) rfl (Nat.le_of_ble_eq_true rfl) ?_
  intro κ hl0 S
  subst hl0
  refine r_aload_n S dX2_add_0 rfl ?_
  refine r_getf S g_RX2_18_2 dX2_add_1 (by repeat (first | assumption | exact sUp_same | exact sNew_same | refine sUp_ne (by first | assumption | omega) ?_)) rfl ?_
  refine r_bipush S dX2_add_4 (by decide) ?_
  refine r_icmp_lt S dX2_add_6 (tgt := 11) (by decide) ⟨by omega, by omega⟩ ⟨by omega, by omega⟩ (fun h_6 => ?_) (fun h_6 => ?_)
  · omega
  · refine r_iconst S dX2_add_9 ?_
    exact r_zret S dX2_add_10 (by omega) (by omega) (by first | exact Or.inl rfl | exact Or.inr rfl | omega) (⟨_, rfl, rfl, rfl⟩)

set_option maxRecDepth 100000 in
set_option maxHeartbeats 4000000 in
theorem l_remove {κ : Kx} {k : Cx} {σ : St} {q : Nat} (hC : σ.2 (cBase k + 11) = some (oCode k q)) (hq : q ≤ 12) {w : Nat → Int} {qs : Nat → Nat} (hW : σ.2 (cBase k + 13) = some (eI k 16 w)) (hw : ∀ i, i < 16 → w i = (wd qs q i : Int)) (hq2 : 0 < q) (S : Ok κ k cX2_removeLatest 2 RX2 (some .boolean) "removeLatest" 1 0 0) : ∀ (m i : Nat), i + m = 16 → V κ k 2 0 0 (QR κ k (fun r σ' => ∃ v, r = some v ∧ (v = .int (iZ 1) ∧ σ' = (sUp (sUp σ (cBase k + 11) (oCode k ((q : Int) - 1))) (cBase k + 13) (eI k 16 (cutW w (q - 1) 16))))) 0 0) 21 [some (.ref (cBase k + 11)), some (.int (iZ (i : Int)))] [] (sUp (sUp σ (cBase k + 11) (oCode k ((q : Int) - 1))) (cBase k + 13) (eI k 16 (cutW w (q - 1) i))) := by
  intro m
  induction m with
  | zero =>
    intro i hi
    have hin : i = 16 := by omega
    subst hin
    refine r_iload_n S dX2_removeLatest_21 rfl ?_
    refine r_bipush S dX2_removeLatest_22 (by decide) ?_
    refine r_icmp_ge S dX2_removeLatest_24 (tgt := 50) (by decide) ⟨by omega, by omega⟩ ⟨by omega, by omega⟩ (fun h_24 => ?_) (fun h_24 => ?_)
    · refine r_iconst S dX2_removeLatest_50 ?_
      exact r_zret S dX2_removeLatest_51 (by omega) (by omega) (by first | exact Or.inl rfl | exact Or.inr rfl | omega) (⟨_, rfl, rfl, rfl⟩)
    · omega
  | succ m ih =>
    intro i hi
    refine r_iload_n S dX2_removeLatest_21 rfl ?_
    refine r_bipush S dX2_removeLatest_22 (by decide) ?_
    refine r_icmp_ge S dX2_removeLatest_24 (tgt := 50) (by decide) ⟨by omega, by omega⟩ ⟨by omega, by omega⟩ (fun h_24 => ?_) (fun h_24 => ?_)
    · omega
    · refine r_aload_n S dX2_removeLatest_27 rfl ?_
      refine r_getf S g_RX2_15_2 dX2_removeLatest_28 (by repeat (first | assumption | exact sUp_same | exact sNew_same | refine sUp_ne (by first | assumption | omega) ?_)) rfl ?_
      refine r_iload_n S dX2_removeLatest_31 rfl ?_
      refine r_dup2 S dX2_removeLatest_32 rfl rfl ?_
      refine r_ialdN S (i) dX2_removeLatest_33 (by repeat (first | assumption | exact sUp_same | exact sNew_same | refine sUp_ne (by first | assumption | omega) ?_)) (by omega) (by omega) (by decide) ?_
      rw [cutW_at, hw i (by omega)]
      refine r_iconst S dX2_removeLatest_34 ?_
      refine r_aload_n S dX2_removeLatest_35 rfl ?_
      refine r_getf S g_RX2_18_2 dX2_removeLatest_36 (by repeat (first | assumption | exact sUp_same | exact sNew_same | refine sUp_ne (by first | assumption | omega) ?_)) rfl ?_
      refine r_num (z' := ((q - 1 : Nat) : Int)) (by omega) ?_
      refine r_ishl S dX2_removeLatest_39 (shlZ (a := 1) (pw1 (by omega)) (by omega)) ?_
      refine r_iconst S dX2_removeLatest_40 ?_
      refine r_isub S dX2_removeLatest_41 ?_
      refine r_iand S dX2_removeLatest_42 (maskZ (by omega)) ?_
      refine r_iastN S (i) dX2_removeLatest_43 (by repeat (first | assumption | exact sUp_same | exact sNew_same | refine sUp_ne (by first | assumption | omega) ?_)) (by omega) (by omega) (by decide) ?_
      refine r_iinc S dX2_removeLatest_44 rfl rfl (by decide) (lv' := [_, _]) rfl ?_
      refine r_goto S dX2_removeLatest_47 (tgt := 21) (by decide) ?_
      have h9 := ih (i + 1) (by omega)
      rw [← cutW_succ w (q - 1) i, hw i (by omega), Int.toNat_natCast] at h9
      simp only [sUp_sUp]
      exact h9

set_option maxRecDepth 100000 in
set_option maxHeartbeats 4000000 in
theorem c_remove {k : Cx} {L0 : Launch} {σ : St} {q : Nat} (hC : σ.2 (cBase k + 11) = some (oCode k q)) (hq : q ≤ 12) {w : Nat → Int} {qs : Nat → Nat} (hW : σ.2 (cBase k + 13) = some (eI k 16 w)) (hw : ∀ i, i < 16 → w i = (wd qs q i : Int)) (hq2 : 0 < q) : CtrV k L0 mX2_removeLatest 1 0 0 [.ref (cBase k + 11)] σ (fun v σ' => v = .int (iZ 1) ∧ σ' = (sUp (sUp σ (cBase k + 11) (oCode k ((q : Int) - 1))) (cBase k + 13) (eI k 16 (cutW w (q - 1) 16)))) := by
  refine Ctr.of (by decide +kernel) rfl (Nat.le_of_ble_eq_true rfl) ?_
  intro κ hl0 S
  subst hl0
  refine r_aload_n S dX2_removeLatest_0 rfl ?_
  refine r_getf S g_RX2_18_2 dX2_removeLatest_1 (by repeat (first | assumption | exact sUp_same | exact sNew_same | refine sUp_ne (by first | assumption | omega) ?_)) rfl ?_
  refine r_if_gt S dX2_removeLatest_4 (tgt := 9) (by decide) ⟨by omega, by omega⟩ (fun h_4 => ?_) (fun h_4 => ?_)
  · refine r_aload_n S dX2_removeLatest_9 rfl ?_
    refine r_dup S dX2_removeLatest_10 rfl ?_
    refine r_getf S g_RX2_18_2 dX2_removeLatest_11 (by repeat (first | assumption | exact sUp_same | exact sNew_same | refine sUp_ne (by first | assumption | omega) ?_)) rfl ?_
    refine r_iconst S dX2_removeLatest_14 ?_
    refine r_isub S dX2_removeLatest_15 ?_
    refine r_putf S p_RX2_18_2 dX2_removeLatest_16 (by first | rfl | decide) (by first | rfl | decide) (by repeat (first | assumption | exact sUp_same | exact sNew_same | refine sUp_ne (by first | assumption | omega) ?_)) (Nat.le_of_ble_eq_true rfl) (fs' := [_, _, _]) rfl ?_
    try simp only [sUp_sUp]
    refine r_iconst S dX2_removeLatest_19 ?_
    refine r_istore_n S dX2_removeLatest_20 rfl (by decide) (lv' := [_, _]) rfl ?_
    have h9 := l_remove hC hq hW hw hq2 S 16 0 (by omega)
    rw [cutW_0, sUp_id (sUp_ne (by omega) hW)] at h9
    exact h9
  · omega

set_option maxRecDepth 100000 in
set_option maxHeartbeats 4000000 in
theorem c_removeF {k : Cx} {L0 : Launch} {σ : St} {q : Nat} (hC : σ.2 (cBase k + 11) = some (oCode k q)) (hq : q ≤ 12) (hq2 : q = 0) : CtrV k L0 mX2_removeLatest 1 0 0 [.ref (cBase k + 11)] σ (fun v σ' => v = .int (iZ (0)) ∧ σ' = σ) := by
  refine Ctr.of (by decide +kernel) rfl (Nat.le_of_ble_eq_true rfl) ?_
  intro κ hl0 S
  subst hl0
  refine r_aload_n S dX2_removeLatest_0 rfl ?_
  refine r_getf S g_RX2_18_2 dX2_removeLatest_1 (by repeat (first | assumption | exact sUp_same | exact sNew_same | refine sUp_ne (by first | assumption | omega) ?_)) rfl ?_
  refine r_if_gt S dX2_removeLatest_4 (tgt := 9) (by decide) ⟨by omega, by omega⟩ (fun h_4 => ?_) (fun h_4 => ?_)
  · omega
  · refine r_iconst S dX2_removeLatest_7 ?_
    exact r_zret S dX2_removeLatest_8 (by omega) (by omega) (by first | exact Or.inl rfl | exact Or.inr rfl | omega) (⟨_, rfl, rfl, rfl⟩)
