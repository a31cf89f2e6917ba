/-! the reference's spans -/
theorem sbit_b01 (fr to i : Nat) : b01 ((fr : Int) ≤ (i : Int) ∧ (i : Int) ≤ (to : Int)) = ((sbit fr to i : Nat) : Int) := by
  unfold b01 sbit
  by_cases h : fr ≤ i ∧ i ≤ to
  · rw [if_pos h, if_pos (by omega)]; rfl
  · rw [if_neg h, if_neg (by omega)]; rfl
theorem p10 {i : Nat} (h : i < 6) : 2 ^ (2 * i) ≤ 1024 := Nat.le_trans (Nat.pow_le_pow_right (by decide) (show 2 * i ≤ 10 by omega)) (by decide)
theorem p12 {n : Nat} (h : n ≤ 6) : 2 ^ (2 * n) ≤ 4096 := Nat.le_trans (Nat.pow_le_pow_right (by decide) (show 2 * n ≤ 12 by omega)) (by decide)
theorem sb_g (kd y fr to s : Nat) : ∀ i, (fun i => dgt s i - costN kd y (sbit fr to i)) i < 4 := fun i => by have := dgt_lt s i; simp only; omega
theorem mul3 {a x : Nat} (h : a ≤ 3) : a * x ≤ 3 * x := Nat.mul_le_mul_right _ h
/-- spanFewest stands for the kind and the count that the model remembers -/
def SpI (sk sm : Int) (C : Nat → Int) : Prop := (∀ j, -1 ≤ C j ∧ C j ≤ 13) ∧ ∀ kd n : Nat, sk = (kd : Int) → sm = (n : Int) → kd < 3 → 1 ≤ n → n ≤ 6 → ∀ s, s < 2 ^ (2 * n) → C s = SF kd s
theorem uZ_rng13 {C : Nat → Int} (h : ∀ j, -1 ≤ C j ∧ C j ≤ 13) {p : Nat} {z : Int} (hz : -1 ≤ z ∧ z ≤ 13) : ∀ j, -1 ≤ uZ C p z j ∧ uZ C p z j ≤ 13 := by
  intro j
  unfold uZ
  split
  · exact hz
  · exact h j
theorem nz_le (s : Nat) : ∀ n, nz s n ≤ n
  | 0 => Nat.le_refl _
  | n + 1 => by
    have := nz_le s n
    show nz s n + cond (Nat.beq (dgt s n) 0) 0 1 ≤ n + 1
    cases Nat.beq (dgt s n) 0 <;> simp only [cond_true, cond_false] <;> omega
theorem nz_s0 {s n : Nat} (h : dgt s n = 0) : nz s (n + 1) = nz s n := by
  show nz s n + cond (Nat.beq (dgt s n) 0) 0 1 = nz s n
  rw [h]
  rfl
theorem nz_s1 {s n : Nat} (h : dgt s n ≠ 0) : nz s (n + 1) = nz s n + 1 := by
  show nz s n + cond (Nat.beq (dgt s n) 0) 0 1 = nz s n + 1
  cases e : Nat.beq (dgt s n) 0 with
  | true => exact absurd (beqT e) h
  | false => rfl
set_option maxRecDepth 100000 in
set_option maxHeartbeats 4000000 in
theorem l_spanBehind {κ : Kx} {k : Cx} {σ : St} {hg e an wt tb q tr sk sm : Int} {kd n : Nat} (hM : σ.2 (cBase k + 14) = some (oModel k hg kd n e an wt tb q tr sk sm)) (hk : kd < 3) (hn : n ≤ 6) {s fr to y : Nat} (hs : s < 4096) (hfr : fr ≤ 6) (hto : to ≤ 6) (hy : y < 2) (S : Ok κ k cX12_spanBehind 8 RX12 (some .int) "spanBehind" 2 0 0) : ∀ (m i : Nat), i + m = n → V κ k 8 0 0 (QR κ k (fun r9 σ' => ∃ v, r9 = some v ∧ (v = .int (iZ ((sbR kd y fr to s n : Nat) : Int)) ∧ σ' = σ)) 0 0) 6 [some (.ref (cBase k + 14)), some (.int (iZ (s : Int))), some (.int (iZ (fr : Int))), some (.int (iZ (to : Int))), some (.int (iZ (y : Int))), some (.int (iZ ((smF (fun i => dgt s i - costN kd y (sbit fr to i)) i : Nat) : Int))), some (.int (iZ (i : Int))), none] [] σ := by
  intro m
  induction m with
  | zero =>
    intro i hi
    have hin : i = n := by omega
    subst hin
    have hsm := smF_lt (sb_g kd y fr to s) i
    have hpw := p12 hn
    refine r_iload S dX12_spanBehind_6 rfl ?_
    refine r_aload_n S dX12_spanBehind_8 rfl ?_
    refine r_getf S g_RX12_91_11 dX12_spanBehind_9 (by repeat (first | assumption | exact sUp_same | exact sNew_same | refine sUp_ne (by first | assumption | omega) ?_)) rfl ?_
    refine r_icmp_ge S dX12_spanBehind_12 (tgt := 86) (by decide) ⟨by omega, by omega⟩ ⟨by omega, by omega⟩ (fun h_12 => ?_) (fun h_12 => ?_)
    · refine r_iload S dX12_spanBehind_86 rfl ?_
      exact r_iret S dX12_spanBehind_88 (by omega) (by omega) (⟨_, rfl, rfl, rfl⟩)
    · omega
  | succ m ih =>
    intro i hi
    have hpw := p10 (show i < 6 by omega)
    have hdl := dgt_lt s i
    have hco := costN_eq kd y (sbit fr to i)
    have hcr := costK_rng kd y (sbit fr to i)
    have hsm := smF_lt (sb_g kd y fr to s) i
    have hm3 : (dgt s i - costN kd y (sbit fr to i)) * 2 ^ (2 * i) ≤ 3 * 2 ^ (2 * i) := mul3 (by omega)
    refine r_iload S dX12_spanBehind_6 rfl ?_
    refine r_aload_n S dX12_spanBehind_8 rfl ?_
    refine r_getf S g_RX12_91_11 dX12_spanBehind_9 (by repeat (first | assumption | exact sUp_same | exact sNew_same | refine sUp_ne (by first | assumption | omega) ?_)) rfl ?_
    refine r_icmp_ge S dX12_spanBehind_12 (tgt := 86) (by decide) ⟨by omega, by omega⟩ ⟨by omega, by omega⟩ (fun h_12 => ?_) (fun h_12 => ?_)
    · omega
    · refine r_iload_n S dX12_spanBehind_15 rfl ?_
      refine r_iconst S dX12_spanBehind_16 ?_
      refine r_iload S dX12_spanBehind_17 rfl ?_
      refine r_imul S dX12_spanBehind_19 ?_
      refine r_num (z' := ((2 * i : Nat) : Int)) (by omega) ?_
      refine r_ishr S dX12_spanBehind_20 (shrZ (by omega) (by omega)) ?_
      refine r_iconst S dX12_spanBehind_21 ?_
      refine r_iand S dX12_spanBehind_22 (and3Z s i) ?_
      refine r_iconst S dX12_spanBehind_23 ?_
      refine r_isub S dX12_spanBehind_24 ?_
      refine r_istore S dX12_spanBehind_25 rfl (by decide) (lv' := [_, _, _, _, _, _, _, _]) rfl ?_
      refine r_iload S dX12_spanBehind_27 rfl ?_
      refine r_iload S dX12_spanBehind_29 rfl ?_
      refine r_if_ge S dX12_spanBehind_31 (tgt := 38) (by decide) ⟨by omega, by omega⟩ (fun h_31 => ?_) (fun h_31 => ?_)
      · refine r_aload_n S dX12_spanBehind_38 rfl ?_
        refine r_getf S g_RX12_88_11 dX12_spanBehind_39 (by repeat (first | assumption | exact sUp_same | exact sNew_same | refine sUp_ne (by first | assumption | omega) ?_)) rfl ?_
        refine r_iload S dX12_spanBehind_42 rfl ?_
        refine r_iload S dX12_spanBehind_44 rfl ?_
        refine r_iload_n S dX12_spanBehind_46 rfl ?_
        refine r_iload_n S dX12_spanBehind_47 rfl ?_
        refine r_callS S (c_in ⟨by omega, by omega⟩ ⟨by omega, by omega⟩ ⟨by omega, by omega⟩) k_mX12_in c_RX12_53 dX12_spanBehind_48 (by decide) ⟨by omega, by omega⟩ rfl rfl (Nat.le_of_ble_eq_true rfl) (fun r σ' hp => ?_)
        obtain ⟨_, rfl, rfl, rfl⟩ := hp
        try simp only [Option.toList_some, Option.toList_none, List.cons_append, List.nil_append]
        rw [sbit_b01]
        refine r_callS S (c_costOf hk hy (sbit_lt fr to i)) k_mX12_costOf c_RX12_65 dX12_spanBehind_51 (by decide) ⟨by omega, by omega⟩ rfl rfl (Nat.le_of_ble_eq_true rfl) (fun r σ' hp => ?_)
        obtain ⟨_, rfl, rfl, rfl⟩ := hp
        try simp only [Option.toList_some, Option.toList_none, List.cons_append, List.nil_append]
        refine r_isub S dX12_spanBehind_54 ?_
        refine r_istore S dX12_spanBehind_55 rfl (by decide) (lv' := [_, _, _, _, _, _, _, _]) rfl ?_
        refine r_iload S dX12_spanBehind_57 rfl ?_
        refine r_iload S dX12_spanBehind_59 rfl ?_
        refine r_if_ge S dX12_spanBehind_61 (tgt := 68) (by decide) ⟨by omega, by omega⟩ (fun h_61 => ?_) (fun h_61 => ?_)
        · refine r_iload S dX12_spanBehind_68 rfl ?_
          refine r_iconst S dX12_spanBehind_70 ?_
          refine r_iadd S dX12_spanBehind_71 ?_
          refine r_num (z' := ((dgt s i - costN kd y (sbit fr to i) : Nat) : Int)) (by omega) ?_
          refine r_iconst S dX12_spanBehind_72 ?_
          refine r_iload S dX12_spanBehind_73 rfl ?_
          refine r_imul S dX12_spanBehind_75 ?_
          refine r_num (z' := ((2 * i : Nat) : Int)) (by omega) ?_
          refine r_ishl S dX12_spanBehind_76 (shlZ (by omega) (by omega)) ?_
          refine r_ior S dX12_spanBehind_77 (orW hsm) ?_
          refine r_istore S dX12_spanBehind_78 rfl (by decide) (lv' := [_, _, _, _, _, _, _, _]) rfl ?_
          refine r_iinc S dX12_spanBehind_80 rfl rfl (by decide) (lv' := [_, _, _, _, _, _, _, _]) rfl ?_
          refine r_goto S dX12_spanBehind_83 (tgt := 6) (by decide) ?_
          refine V.mask [true, true, true, true, true, true, true, false] (lv' := [_, _, _, _, _, _, _, none]) rfl ?_
          exact ih (i + 1) (by omega)
        · refine r_iconst S dX12_spanBehind_64 ?_
          refine r_goto S dX12_spanBehind_65 (tgt := 72) (by decide) ?_
          refine r_num (z' := ((dgt s i - costN kd y (sbit fr to i) : Nat) : Int)) (by omega) ?_
          refine r_iconst S dX12_spanBehind_72 ?_
          refine r_iload S dX12_spanBehind_73 rfl ?_
          refine r_imul S dX12_spanBehind_75 ?_
          refine r_num (z' := ((2 * i : Nat) : Int)) (by omega) ?_
          refine r_ishl S dX12_spanBehind_76 (shlZ (by omega) (by omega)) ?_
          refine r_ior S dX12_spanBehind_77 (orW hsm) ?_
          refine r_istore S dX12_spanBehind_78 rfl (by decide) (lv' := [_, _, _, _, _, _, _, _]) rfl ?_
          refine r_iinc S dX12_spanBehind_80 rfl rfl (by decide) (lv' := [_, _, _, _, _, _, _, _]) rfl ?_
          refine r_goto S dX12_spanBehind_83 (tgt := 6) (by decide) ?_
          refine V.mask [true, true, true, true, true, true, true, false] (lv' := [_, _, _, _, _, _, _, none]) rfl ?_
          exact ih (i + 1) (by omega)
      · refine r_iconst S dX12_spanBehind_34 ?_
        refine r_goto S dX12_spanBehind_35 (tgt := 54) (by decide) ?_
        refine r_isub S dX12_spanBehind_54 ?_
        refine r_istore S dX12_spanBehind_55 rfl (by decide) (lv' := [_, _, _, _, _, _, _, _]) rfl ?_
        refine r_iload S dX12_spanBehind_57 rfl ?_
        refine r_iload S dX12_spanBehind_59 rfl ?_
        refine r_if_ge S dX12_spanBehind_61 (tgt := 68) (by decide) ⟨by omega, by omega⟩ (fun h_61 => ?_) (fun h_61 => ?_)
        · refine r_iload S dX12_spanBehind_68 rfl ?_
          refine r_iconst S dX12_spanBehind_70 ?_
          refine r_iadd S dX12_spanBehind_71 ?_
          refine r_num (z' := ((dgt s i - costN kd y (sbit fr to i) : Nat) : Int)) (by omega) ?_
          refine r_iconst S dX12_spanBehind_72 ?_
          refine r_iload S dX12_spanBehind_73 rfl ?_
          refine r_imul S dX12_spanBehind_75 ?_
          refine r_num (z' := ((2 * i : Nat) : Int)) (by omega) ?_
          refine r_ishl S dX12_spanBehind_76 (shlZ (by omega) (by omega)) ?_
          refine r_ior S dX12_spanBehind_77 (orW hsm) ?_
          refine r_istore S dX12_spanBehind_78 rfl (by decide) (lv' := [_, _, _, _, _, _, _, _]) rfl ?_
          refine r_iinc S dX12_spanBehind_80 rfl rfl (by decide) (lv' := [_, _, _, _, _, _, _, _]) rfl ?_
          refine r_goto S dX12_spanBehind_83 (tgt := 6) (by decide) ?_
          refine V.mask [true, true, true, true, true, true, true, false] (lv' := [_, _, _, _, _, _, _, none]) rfl ?_
          exact ih (i + 1) (by omega)
        · refine r_iconst S dX12_spanBehind_64 ?_
          refine r_goto S dX12_spanBehind_65 (tgt := 72) (by decide) ?_
          refine r_num (z' := ((dgt s i - costN kd y (sbit fr to i) : Nat) : Int)) (by omega) ?_
          refine r_iconst S dX12_spanBehind_72 ?_
          refine r_iload S dX12_spanBehind_73 rfl ?_
          refine r_imul S dX12_spanBehind_75 ?_
          refine r_num (z' := ((2 * i : Nat) : Int)) (by omega) ?_
          refine r_ishl S dX12_spanBehind_76 (shlZ (by omega) (by omega)) ?_
          refine r_ior S dX12_spanBehind_77 (orW hsm) ?_
          refine r_istore S dX12_spanBehind_78 rfl (by decide) (lv' := [_, _, _, _, _, _, _, _]) rfl ?_
          refine r_iinc S dX12_spanBehind_80 rfl rfl (by decide) (lv' := [_, _, _, _, _, _, _, _]) rfl ?_
          refine r_goto S dX12_spanBehind_83 (tgt := 6) (by decide) ?_
          refine V.mask [true, true, true, true, true, true, true, false] (lv' := [_, _, _, _, _, _, _, none]) rfl ?_
          exact ih (i + 1) (by omega)

set_option maxRecDepth 100000 in
set_option maxHeartbeats 4000000 in
theorem c_spanBehind {k : Cx} {L0 : Launch} {σ : St} {hg e an wt tb q tr sk sm : Int} {kd n : Nat} (hM : σ.2 (cBase k + 14) = some (oModel k hg kd n e an wt tb q tr sk sm)) (hk : kd < 3) (hn : n ≤ 6) {s fr to y : Nat} (hs : s < 4096) (hfr : fr ≤ 6) (hto : to ≤ 6) (hy : y < 2) : CtrV k L0 mX12_spanBehind 2 0 0 [.ref (cBase k + 14), .int (iZ (s : Int)), .int (iZ (fr : Int)), .int (iZ (to : Int)), .int (iZ (y : Int))] σ (fun v σ' => v = .int (iZ (((sbR kd y fr to s n : Nat) : Int))) ∧ σ' = σ) := by
  refine Ctr.of (by decide +kernel) rfl (Nat.le_of_ble_eq_true rfl) ?_
  intro κ hl0 S
  subst hl0
  refine r_iconst S dX12_spanBehind_0 ?_
  refine r_istore S dX12_spanBehind_1 rfl (by decide) (lv' := [_, _, _, _, _, _, _, _]) rfl ?_
  refine r_iconst S dX12_spanBehind_3 ?_
  refine r_istore S dX12_spanBehind_4 rfl (by decide) (lv' := [_, _, _, _, _, _, _, _]) rfl ?_
  exact l_spanBehind hM hk hn hs hfr hto hy S n 0 (by omega)

set_option maxRecDepth 100000 in
set_option maxHeartbeats 4000000 in
theorem l_cs1 {κ : Kx} {k : Cx} {σ : St} {hg e an wt tb q tr sk sm : Int} {kd n : Nat} (hM : σ.2 (cBase k + 14) = some (oModel k hg kd n e an wt tb q tr sk sm)) (hk : kd < 3) (hn : n ≤ 6) {C : Nat → Int} (hC : σ.2 (cBase k + 19) = some (eI k 4096 C)) (hCr : ∀ j, -1 ≤ C j ∧ C j ≤ 13) {s lev : Nat} (hs : s < 4096) (hlv : lev ≤ 12) {fr : Nat} (hfr : fr < n) (kk : (∀ t, fr ≤ t → t < n → ¬ (C (sbR kd 1 fr t s n) ≤ (lev : Int) ∧ C (sbR kd 0 fr t s n) ≤ (lev : Int))) → V κ k 7 0 0 (QR κ k (fun r9 σ' => ∃ v, r9 = some v ∧ (v = .int (iZ (bP (∃ fr to, fr ≤ to ∧ to < n ∧ C (sbR kd 1 fr to s n) ≤ (lev : Int) ∧ C (sbR kd 0 fr to s n) ≤ (lev : Int)))) ∧ σ' = σ)) 0 0) 74 [some (.ref (cBase k + 14)), some (.int (iZ (s : Int))), some (.int (iZ (lev : Int))), some (.int (iZ (fr : Int))), none, none, none] [] σ) (S : Ok κ k cX12_canSpan 7 RX12 (some .boolean) "canSpan" 3 0 0) : ∀ (m to : Nat), to + m = n → fr ≤ to → (∀ t, fr ≤ t → t < to → ¬ (C (sbR kd 1 fr t s n) ≤ (lev : Int) ∧ C (sbR kd 0 fr t s n) ≤ (lev : Int))) → V κ k 7 0 0 (QR κ k (fun r9 σ' => ∃ v, r9 = some v ∧ (v = .int (iZ (bP (∃ fr to, fr ≤ to ∧ to < n ∧ C (sbR kd 1 fr to s n) ≤ (lev : Int) ∧ C (sbR kd 0 fr to s n) ≤ (lev : Int)))) ∧ σ' = σ)) 0 0) 13 [some (.ref (cBase k + 14)), some (.int (iZ (s : Int))), some (.int (iZ (lev : Int))), some (.int (iZ (fr : Int))), some (.int (iZ (to : Int))), none, none] [] σ := by
  intro m
  induction m with
  | zero =>
    intro to hto hle hno
    refine r_iload S dX12_canSpan_13 rfl ?_
    refine r_aload_n S dX12_canSpan_15 rfl ?_
    refine r_getf S g_RX12_91_11 dX12_canSpan_16 (by repeat (first | assumption | exact sUp_same | exact sNew_same | refine sUp_ne (by first | assumption | omega) ?_)) rfl ?_
    refine r_icmp_ge S dX12_canSpan_19 (tgt := 74) (by decide) ⟨by omega, by omega⟩ ⟨by omega, by omega⟩ (fun h_19 => ?_) (fun h_19 => ?_)
    · refine V.mask [true, true, true, true, false, false, false] (lv' := [_, _, _, _, none, none, none]) rfl ?_
      exact kk (fun t h1 h2 => hno t h1 (by omega))
    · omega
  | succ m ih =>
    intro to hto hle hno
    have hp12 := p12 hn
    have hb1 := sbR_lt kd 1 fr to s n
    have hb0 := sbR_lt kd 0 fr to s n
    have hc1 := hCr (sbR kd 1 fr to s n)
    have hc0 := hCr (sbR kd 0 fr to s n)
    refine r_iload S dX12_canSpan_13 rfl ?_
    refine r_aload_n S dX12_canSpan_15 rfl ?_
    refine r_getf S g_RX12_91_11 dX12_canSpan_16 (by repeat (first | assumption | exact sUp_same | exact sNew_same | refine sUp_ne (by first | assumption | omega) ?_)) rfl ?_
    refine r_icmp_ge S dX12_canSpan_19 (tgt := 74) (by decide) ⟨by omega, by omega⟩ ⟨by omega, by omega⟩ (fun h_19 => ?_) (fun h_19 => ?_)
    · omega
    · refine r_aload_n S dX12_canSpan_22 rfl ?_
      refine r_getf S g_RX12_31_11 dX12_canSpan_23 (by repeat (first | assumption | exact sUp_same | exact sNew_same | refine sUp_ne (by first | assumption | omega) ?_)) rfl ?_
      refine r_aload_n S dX12_canSpan_26 rfl ?_
      refine r_iload_n S dX12_canSpan_27 rfl ?_
      refine r_iload_n S dX12_canSpan_28 rfl ?_
      refine r_iload S dX12_canSpan_29 rfl ?_
      refine r_iconst S dX12_canSpan_31 ?_
      refine r_callV S (c_spanBehind (y := 1) hM hk hn hs (by omega) (by omega) (by decide)) k_mX12_spanBehind c_RX12_124_11 dX12_canSpan_32 (by decide) ⟨by omega, by omega⟩ (by repeat (first | assumption | exact sUp_same | exact sNew_same | refine sUp_ne (by first | assumption | omega) ?_)) rfl rfl (Nat.le_of_ble_eq_true rfl) (fun r σ' hp => ?_)
      obtain ⟨_, rfl, rfl, rfl⟩ := hp
      try simp only [Option.toList_some, Option.toList_none, List.cons_append, List.nil_append]
      refine r_ialdN S (sbR kd 1 fr to s n) dX12_canSpan_35 (by repeat (first | assumption | exact sUp_same | exact sNew_same | refine sUp_ne (by first | assumption | omega) ?_)) (by omega) (by omega) (by decide) ?_
      refine r_istore S dX12_canSpan_36 rfl (by decide) (lv' := [_, _, _, _, _, _, _]) rfl ?_
      refine r_aload_n S dX12_canSpan_38 rfl ?_
      refine r_getf S g_RX12_31_11 dX12_canSpan_39 (by repeat (first | assumption | exact sUp_same | exact sNew_same | refine sUp_ne (by first | assumption | omega) ?_)) rfl ?_
      refine r_aload_n S dX12_canSpan_42 rfl ?_
      refine r_iload_n S dX12_canSpan_43 rfl ?_
      refine r_iload_n S dX12_canSpan_44 rfl ?_
      refine r_iload S dX12_canSpan_45 rfl ?_
      refine r_iconst S dX12_canSpan_47 ?_
      refine r_callV S (c_spanBehind (y := 0) hM hk hn hs (by omega) (by omega) (by decide)) k_mX12_spanBehind c_RX12_124_11 dX12_canSpan_48 (by decide) ⟨by omega, by omega⟩ (by repeat (first | assumption | exact sUp_same | exact sNew_same | refine sUp_ne (by first | assumption | omega) ?_)) rfl rfl (Nat.le_of_ble_eq_true rfl) (fun r σ' hp => ?_)
      obtain ⟨_, rfl, rfl, rfl⟩ := hp
      try simp only [Option.toList_some, Option.toList_none, List.cons_append, List.nil_append]
      refine r_ialdN S (sbR kd 0 fr to s n) dX12_canSpan_51 (by repeat (first | assumption | exact sUp_same | exact sNew_same | refine sUp_ne (by first | assumption | omega) ?_)) (by omega) (by omega) (by decide) ?_
      refine r_istore S dX12_canSpan_52 rfl (by decide) (lv' := [_, _, _, _, _, _, _]) rfl ?_
      refine r_iload S dX12_canSpan_54 rfl ?_
      refine r_iload_n S dX12_canSpan_56 rfl ?_
      refine r_icmp_gt S dX12_canSpan_57 (tgt := 68) (by decide) ⟨by omega, by omega⟩ ⟨by omega, by omega⟩ (fun h_57 => ?_) (fun h_57 => ?_)
      · refine r_iinc S dX12_canSpan_68 rfl rfl (by decide) (lv' := [_, _, _, _, _, _, _]) rfl ?_
        refine r_goto S dX12_canSpan_71 (tgt := 13) (by decide) ?_
        refine V.mask [true, true, true, true, true, false, false] (lv' := [_, _, _, _, _, none, none]) rfl ?_
        exact ih (to + 1) (by omega) (by omega) (fun t h1 h2 => by
          rcases Nat.lt_or_ge t to with e9 | e9
          · exact hno t h1 e9
          · rw [show t = to by omega]
            intro z
            omega)
      · refine r_iload S dX12_canSpan_60 rfl ?_
        refine r_iload_n S dX12_canSpan_62 rfl ?_
        refine r_icmp_gt S dX12_canSpan_63 (tgt := 68) (by decide) ⟨by omega, by omega⟩ ⟨by omega, by omega⟩ (fun h_63 => ?_) (fun h_63 => ?_)
        · refine r_iinc S dX12_canSpan_68 rfl rfl (by decide) (lv' := [_, _, _, _, _, _, _]) rfl ?_
          refine r_goto S dX12_canSpan_71 (tgt := 13) (by decide) ?_
          refine V.mask [true, true, true, true, true, false, false] (lv' := [_, _, _, _, _, none, none]) rfl ?_
          exact ih (to + 1) (by omega) (by omega) (fun t h1 h2 => by
            rcases Nat.lt_or_ge t to with e9 | e9
            · exact hno t h1 e9
            · rw [show t = to by omega]
              intro z
              omega)
        · refine r_iconst S dX12_canSpan_66 ?_
          exact r_zret S dX12_canSpan_67 (by omega) (by omega) (by first | exact Or.inl rfl | exact Or.inr rfl | omega) (⟨_, rfl, by rw [bP_t ⟨fr, to, hle, by omega, by omega, by omega⟩], rfl⟩)

set_option maxRecDepth 100000 in
set_option maxHeartbeats 4000000 in
theorem l_cs2 {κ : Kx} {k : Cx} {σ : St} {hg e an wt tb q tr sk sm : Int} {kd n : Nat} (hM : σ.2 (cBase k + 14) = some (oModel k hg kd n e an wt tb q tr sk sm)) (hk : kd < 3) (hn : n ≤ 6) {C : Nat → Int} (hC : σ.2 (cBase k + 19) = some (eI k 4096 C)) (hCr : ∀ j, -1 ≤ C j ∧ C j ≤ 13) {s lev : Nat} (hs : s < 4096) (hlv : lev ≤ 12) (S : Ok κ k cX12_canSpan 7 RX12 (some .boolean) "canSpan" 3 0 0) : ∀ (m fr : Nat), fr + m = n → (∀ f, f < fr → ∀ t, f ≤ t → t < n → ¬ (C (sbR kd 1 f t s n) ≤ (lev : Int) ∧ C (sbR kd 0 f t s n) ≤ (lev : Int))) → V κ k 7 0 0 (QR κ k (fun r9 σ' => ∃ v, r9 = some v ∧ (v = .int (iZ (bP (∃ fr to, fr ≤ to ∧ to < n ∧ C (sbR kd 1 fr to s n) ≤ (lev : Int) ∧ C (sbR kd 0 fr to s n) ≤ (lev : Int)))) ∧ σ' = σ)) 0 0) 2 [some (.ref (cBase k + 14)), some (.int (iZ (s : Int))), some (.int (iZ (lev : Int))), some (.int (iZ (fr : Int))), none, none, none] [] σ := by
  intro m
  induction m with
  | zero =>
    intro fr hfr hno
    refine r_iload_n S dX12_canSpan_2 rfl ?_
    refine r_aload_n S dX12_canSpan_3 rfl ?_
    refine r_getf S g_RX12_91_11 dX12_canSpan_4 (by repeat (first | assumption | exact sUp_same | exact sNew_same | refine sUp_ne (by first | assumption | omega) ?_)) rfl ?_
    refine r_icmp_ge S dX12_canSpan_7 (tgt := 80) (by decide) ⟨by omega, by omega⟩ ⟨by omega, by omega⟩ (fun h_7 => ?_) (fun h_7 => ?_)
    · refine r_iconst S dX12_canSpan_80 ?_
      exact r_zret S dX12_canSpan_81 (by omega) (by omega) (by first | exact Or.inl rfl | exact Or.inr rfl | omega) (⟨_, rfl, by rw [bP_f (fun ⟨f, t, h1, h2, h3⟩ => hno f (by omega) t h1 h2 h3)], rfl⟩)
    · omega
  | succ m ih =>
    intro fr hfr hno
    refine r_iload_n S dX12_canSpan_2 rfl ?_
    refine r_aload_n S dX12_canSpan_3 rfl ?_
    refine r_getf S g_RX12_91_11 dX12_canSpan_4 (by repeat (first | assumption | exact sUp_same | exact sNew_same | refine sUp_ne (by first | assumption | omega) ?_)) rfl ?_
    refine r_icmp_ge S dX12_canSpan_7 (tgt := 80) (by decide) ⟨by omega, by omega⟩ ⟨by omega, by omega⟩ (fun h_7 => ?_) (fun h_7 => ?_)
    · omega
    · refine r_iload_n S dX12_canSpan_10 rfl ?_
      refine r_istore S dX12_canSpan_11 rfl (by decide) (lv' := [_, _, _, _, _, _, _]) rfl ?_
      refine l_cs1 hM hk hn hC hCr hs hlv (show fr < n by omega) (fun hall => ?_) S m.succ fr (by omega) (Nat.le_refl _) (fun t h1 h2 => by omega)
      refine r_iinc S dX12_canSpan_74 rfl rfl (by decide) (lv' := [_, _, _, _, _, _, _]) rfl ?_
      refine r_goto S dX12_canSpan_77 (tgt := 2) (by decide) ?_
      exact ih (fr + 1) (by omega) (fun f hf t h1 h2 => by
        rcases Nat.lt_or_ge f fr with e9 | e9
        · exact hno f e9 t h1 h2
        · rw [show f = fr by omega] at h1 ⊢
          exact hall t h1 h2)

set_option maxRecDepth 100000 in
set_option maxHeartbeats 4000000 in
theorem c_canSpan {k : Cx} {L0 : Launch} {σ : St} {hg e an wt tb q tr sk sm : Int} {kd n : Nat} (hM : σ.2 (cBase k + 14) = some (oModel k hg kd n e an wt tb q tr sk sm)) (hk : kd < 3) (hn : n ≤ 6) {C : Nat → Int} (hC : σ.2 (cBase k + 19) = some (eI k 4096 C)) (hCr : ∀ j, -1 ≤ C j ∧ C j ≤ 13) {s lev : Nat} (hs : s < 4096) (hlv : lev ≤ 12) : CtrV k L0 mX12_canSpan 3 0 0 [.ref (cBase k + 14), .int (iZ (s : Int)), .int (iZ (lev : Int))] σ (fun v σ' => v = .int (iZ (bP (∃ fr to, fr ≤ to ∧ to < n ∧ C (sbR kd 1 fr to s n) ≤ (lev : Int) ∧ C (sbR kd 0 fr to s n) ≤ (lev : Int)))) ∧ σ' = σ) := by
  refine Ctr.of (by decide +kernel) rfl (Nat.le_of_ble_eq_true rfl) ?_
  intro κ hl0 S
  subst hl0
  refine r_iconst S dX12_canSpan_0 ?_
  refine r_istore_n S dX12_canSpan_1 rfl (by decide) (lv' := [_, _, _, _, _, _, _]) rfl ?_
  exact l_cs2 hM hk hn hC hCr hs hlv S n 0 (by omega) (fun f hf => absurd hf (Nat.not_lt_zero f))

set_option maxRecDepth 100000 in
set_option maxHeartbeats 4000000 in
theorem l_ksD {κ : Kx} {k : Cx} {σ : St} {Q : State → Prop} {hg e an wt tb q tr sk sm : Int} {kd n : Nat} (hM : σ.2 (cBase k + 14) = some (oModel k hg kd n e an wt tb q tr sk sm)) (hk : kd < 3) (hn : n ≤ 6) {s : Nat} (hs : s < 4096) (kk : V κ k 5 0 0 Q 94 [some (.ref (cBase k + 14)), some (.int (iZ ((2 ^ (2 * n) : Nat) : Int))), some (.int (iZ (s : Int))), some (.int (iZ ((nz s n : Nat) : Int))), none] [] σ) (S : Ok κ k cX12_knowSpans 5 RX12 none "knowSpans" 4 0 0) : ∀ (m i : Nat), i + m = n → V κ k 5 0 0 Q 60 [some (.ref (cBase k + 14)), some (.int (iZ ((2 ^ (2 * n) : Nat) : Int))), some (.int (iZ (s : Int))), some (.int (iZ ((nz s i : Nat) : Int))), some (.int (iZ (i : Int)))] [] σ := by
  intro m
  induction m with
  | zero =>
    intro i hi
    have hin : i = n := by omega
    subst hin
    refine r_iload S dX12_knowSpans_60 rfl ?_
    refine r_aload_n S dX12_knowSpans_62 rfl ?_
    refine r_getf S g_RX12_91_11 dX12_knowSpans_63 (by repeat (first | assumption | exact sUp_same | exact sNew_same | refine sUp_ne (by first | assumption | omega) ?_)) rfl ?_
    refine r_icmp_ge S dX12_knowSpans_66 (tgt := 94) (by decide) ⟨by omega, by omega⟩ ⟨by omega, by omega⟩ (fun h_66 => ?_) (fun h_66 => ?_)
    · refine V.mask [true, true, true, true, false] (lv' := [_, _, _, _, none]) rfl ?_
      exact kk
    · omega
  | succ m ih =>
    intro i hi
    have hdl := dgt_lt s i
    have hnl := nz_le s i
    refine r_iload S dX12_knowSpans_60 rfl ?_
    refine r_aload_n S dX12_knowSpans_62 rfl ?_
    refine r_getf S g_RX12_91_11 dX12_knowSpans_63 (by repeat (first | assumption | exact sUp_same | exact sNew_same | refine sUp_ne (by first | assumption | omega) ?_)) rfl ?_
    refine r_icmp_ge S dX12_knowSpans_66 (tgt := 94) (by decide) ⟨by omega, by omega⟩ ⟨by omega, by omega⟩ (fun h_66 => ?_) (fun h_66 => ?_)
    · omega
    · refine r_iload_n S dX12_knowSpans_69 rfl ?_
      refine r_iload_n S dX12_knowSpans_70 rfl ?_
      refine r_iconst S dX12_knowSpans_71 ?_
      refine r_iload S dX12_knowSpans_72 rfl ?_
      refine r_imul S dX12_knowSpans_74 ?_
      refine r_num (z' := ((2 * i : Nat) : Int)) (by omega) ?_
      refine r_ishr S dX12_knowSpans_75 (shrZ (by omega) (by omega)) ?_
      refine r_iconst S dX12_knowSpans_76 ?_
      refine r_iand S dX12_knowSpans_77 (and3Z s i) ?_
      refine r_if_le S dX12_knowSpans_78 (tgt := 85) (by decide) ⟨by omega, by omega⟩ (fun h_78 => ?_) (fun h_78 => ?_)
      · refine r_iconst S dX12_knowSpans_85 ?_
        refine r_iadd S dX12_knowSpans_86 ?_
        refine r_num (z' := ((nz s (i + 1) : Nat) : Int)) (by rw [nz_s0 (by omega)]; omega) ?_
        refine r_istore_n S dX12_knowSpans_87 rfl (by decide) (lv' := [_, _, _, _, _]) rfl ?_
        refine r_iinc S dX12_knowSpans_88 rfl rfl (by decide) (lv' := [_, _, _, _, _]) rfl ?_
        refine r_goto S dX12_knowSpans_91 (tgt := 60) (by decide) ?_
        exact ih (i + 1) (by omega)
      · refine r_iconst S dX12_knowSpans_81 ?_
        refine r_goto S dX12_knowSpans_82 (tgt := 86) (by decide) ?_
        refine r_iadd S dX12_knowSpans_86 ?_
        refine r_num (z' := ((nz s (i + 1) : Nat) : Int)) (by rw [nz_s1 (by omega)]; omega) ?_
        refine r_istore_n S dX12_knowSpans_87 rfl (by decide) (lv' := [_, _, _, _, _]) rfl ?_
        refine r_iinc S dX12_knowSpans_88 rfl rfl (by decide) (lv' := [_, _, _, _, _]) rfl ?_
        refine r_goto S dX12_knowSpans_91 (tgt := 60) (by decide) ?_
        exact ih (i + 1) (by omega)

set_option maxRecDepth 100000 in
set_option maxHeartbeats 4000000 in
theorem l_ksA {κ : Kx} {k : Cx} {σ : St} {Q : State → Prop} {hg e an wt tb q tr sk sm : Int} {kd n : Nat} (hM : σ.2 (cBase k + 14) = some (oModel k hg kd n e an wt tb q tr sk sm)) (hk : kd < 3) (hn : n ≤ 6) (kk : ∀ C : Nat → Int, (∀ j, -1 ≤ C j ∧ C j ≤ 13) → (∀ x, x < 2 ^ (2 * n) → C x = (if nz x n = 0 then -1 else if nz x n = 1 then 0 else 13 : Int)) → V κ k 5 0 0 Q 125 [some (.ref (cBase k + 14)), some (.int (iZ ((2 ^ (2 * n) : Nat) : Int))), none, none, none] [] (sUp σ (cBase k + 19) (eI k 4096 C))) (S : Ok κ k cX12_knowSpans 5 RX12 none "knowSpans" 4 0 0) : ∀ (m s : Nat), s + m = 2 ^ (2 * n) → ∀ C : Nat → Int, (∀ j, -1 ≤ C j ∧ C j ≤ 13) → (∀ x, x < s → C x = (if nz x n = 0 then -1 else if nz x n = 1 then 0 else 13 : Int)) → V κ k 5 0 0 Q 50 [some (.ref (cBase k + 14)), some (.int (iZ ((2 ^ (2 * n) : Nat) : Int))), some (.int (iZ (s : Int))), none, none] [] (sUp σ (cBase k + 19) (eI k 4096 C)) := by
  intro m
  induction m with
  | zero =>
    intro s hsm C hCr hCI
    have hMc : (sUp σ (cBase k + 19) (eI k 4096 C)).2 (cBase k + 14) = _ := sUp_ne (by omega) hM
    have hp := p12 hn
    refine r_iload_n S dX12_knowSpans_50 rfl ?_
    refine r_iload_n S dX12_knowSpans_51 rfl ?_
    refine r_icmp_ge S dX12_knowSpans_52 (tgt := 125) (by decide) ⟨by omega, by omega⟩ ⟨by omega, by omega⟩ (fun h_52 => ?_) (fun h_52 => ?_)
    · refine V.mask [true, true, false, false, false] (lv' := [_, _, none, none, none]) rfl ?_
      exact kk C hCr (fun x hx => hCI x (by omega))
    · omega
  | succ m ih =>
    intro s hsm C hCr hCI
    have hnl := nz_le s n
    have hMc : (sUp σ (cBase k + 19) (eI k 4096 C)).2 (cBase k + 14) = _ := sUp_ne (by omega) hM
    have hp := p12 hn
    refine r_iload_n S dX12_knowSpans_50 rfl ?_
    refine r_iload_n S dX12_knowSpans_51 rfl ?_
    refine r_icmp_ge S dX12_knowSpans_52 (tgt := 125) (by decide) ⟨by omega, by omega⟩ ⟨by omega, by omega⟩ (fun h_52 => ?_) (fun h_52 => ?_)
    · omega
    · refine r_iconst S dX12_knowSpans_55 ?_
      refine r_istore_n S dX12_knowSpans_56 rfl (by decide) (lv' := [_, _, _, _, _]) rfl ?_
      refine r_iconst S dX12_knowSpans_57 ?_
      refine r_istore S dX12_knowSpans_58 rfl (by decide) (lv' := [_, _, _, _, _]) rfl ?_
      refine l_ksD hMc hk hn (by omega) ?_ S n 0 (by omega)
      refine r_aload_n S dX12_knowSpans_94 rfl ?_
      refine r_getf S g_RX12_31_11 dX12_knowSpans_95 (by repeat (first | assumption | exact sUp_same | exact sNew_same | refine sUp_ne (by first | assumption | omega) ?_)) rfl ?_
      refine r_iload_n S dX12_knowSpans_98 rfl ?_
      refine r_iload_n S dX12_knowSpans_99 rfl ?_
      refine r_if_ne S dX12_knowSpans_100 (tgt := 107) (by decide) ⟨by omega, by omega⟩ (fun h_100 => ?_) (fun h_100 => ?_)
      · refine r_iload_n S dX12_knowSpans_107 rfl ?_
        refine r_iconst S dX12_knowSpans_108 ?_
        refine r_icmp_ne S dX12_knowSpans_109 (tgt := 116) (by decide) ⟨by omega, by omega⟩ ⟨by omega, by omega⟩ (fun h_109 => ?_) (fun h_109 => ?_)
        · refine r_bipush S dX12_knowSpans_116 (by decide) ?_
          refine r_iastN S (s) dX12_knowSpans_118 (by repeat (first | assumption | exact sUp_same | exact sNew_same | refine sUp_ne (by first | assumption | omega) ?_)) (by omega) (by omega) (by decide) ?_
          refine r_iinc S dX12_knowSpans_119 rfl rfl (by decide) (lv' := [_, _, _, _, _]) rfl ?_
          refine r_goto S dX12_knowSpans_122 (tgt := 50) (by decide) ?_
          refine V.mask [true, true, true, false, false] (lv' := [_, _, _, none, none]) rfl ?_
          simp only [sUp_sUp]
          exact ih (s + 1) (by omega) (uZ C s (13)) (uZ_rng13 hCr (by omega)) (fun x hx => by
            rcases Nat.lt_or_ge x s with e9 | e9
            · rw [uZ_ne (by omega)]; exact hCI x e9
            · rw [show x = s by omega, uZ_eq]
              rw [if_neg (by omega), if_neg (by omega)])
        · refine r_iconst S dX12_knowSpans_112 ?_
          refine r_goto S dX12_knowSpans_113 (tgt := 118) (by decide) ?_
          refine r_iastN S (s) dX12_knowSpans_118 (by repeat (first | assumption | exact sUp_same | exact sNew_same | refine sUp_ne (by first | assumption | omega) ?_)) (by omega) (by omega) (by decide) ?_
          refine r_iinc S dX12_knowSpans_119 rfl rfl (by decide) (lv' := [_, _, _, _, _]) rfl ?_
          refine r_goto S dX12_knowSpans_122 (tgt := 50) (by decide) ?_
          refine V.mask [true, true, true, false, false] (lv' := [_, _, _, none, none]) rfl ?_
          simp only [sUp_sUp]
          exact ih (s + 1) (by omega) (uZ C s (0)) (uZ_rng13 hCr (by omega)) (fun x hx => by
            rcases Nat.lt_or_ge x s with e9 | e9
            · rw [uZ_ne (by omega)]; exact hCI x e9
            · rw [show x = s by omega, uZ_eq]
              rw [if_neg (by omega), if_pos (by omega)])
      · refine r_iconst S dX12_knowSpans_103 ?_
        refine r_goto S dX12_knowSpans_104 (tgt := 118) (by decide) ?_
        refine r_iastN S (s) dX12_knowSpans_118 (by repeat (first | assumption | exact sUp_same | exact sNew_same | refine sUp_ne (by first | assumption | omega) ?_)) (by omega) (by omega) (by decide) ?_
        refine r_iinc S dX12_knowSpans_119 rfl rfl (by decide) (lv' := [_, _, _, _, _]) rfl ?_
        refine r_goto S dX12_knowSpans_122 (tgt := 50) (by decide) ?_
        refine V.mask [true, true, true, false, false] (lv' := [_, _, _, none, none]) rfl ?_
        simp only [sUp_sUp]
        exact ih (s + 1) (by omega) (uZ C s (-1)) (uZ_rng13 hCr (by omega)) (fun x hx => by
          rcases Nat.lt_or_ge x s with e9 | e9
          · rw [uZ_ne (by omega)]; exact hCI x e9
          · rw [show x = s by omega, uZ_eq]
            rw [if_pos (by omega)])

set_option maxRecDepth 100000 in
set_option maxHeartbeats 4000000 in
theorem l_ksC {κ : Kx} {k : Cx} {σ : St} {Q : State → Prop} {hg e an wt tb q tr sk sm : Int} {kd n : Nat} (hM : σ.2 (cBase k + 14) = some (oModel k hg kd n e an wt tb q tr sk sm)) (hk : kd < 3) (hn : n ≤ 6) (hn1 : 1 ≤ n) {lev : Nat} (hlv : lev ≤ 11) (kk : ∀ C : Nat → Int, (∀ j, -1 ≤ C j ∧ C j ≤ 13) → (∀ x, x < 2 ^ (2 * n) → C x = VL kd lev (2 ^ (2 * n)) x) → V κ k 5 0 0 Q 175 [some (.ref (cBase k + 14)), some (.int (iZ ((2 ^ (2 * n) : Nat) : Int))), some (.int (iZ (lev : Int))), none, none] [] (sUp σ (cBase k + 19) (eI k 4096 C))) (S : Ok κ k cX12_knowSpans 5 RX12 none "knowSpans" 4 0 0) : ∀ (m s : Nat), s + m = 2 ^ (2 * n) → ∀ C : Nat → Int, (∀ j, -1 ≤ C j ∧ C j ≤ 13) → (∀ x, x < 2 ^ (2 * n) → C x = VL kd lev s x) → V κ k 5 0 0 Q 135 [some (.ref (cBase k + 14)), some (.int (iZ ((2 ^ (2 * n) : Nat) : Int))), some (.int (iZ (lev : Int))), some (.int (iZ (s : Int))), none] [] (sUp σ (cBase k + 19) (eI k 4096 C)) := by
  intro m
  induction m with
  | zero =>
    intro s hsm C hCr hCV
    have hMc : (sUp σ (cBase k + 19) (eI k 4096 C)).2 (cBase k + 14) = _ := sUp_ne (by omega) hM
    have hp := p12 hn
    refine r_iload_n S dX12_knowSpans_135 rfl ?_
    refine r_iload_n S dX12_knowSpans_136 rfl ?_
    refine r_icmp_ge S dX12_knowSpans_137 (tgt := 175) (by decide) ⟨by omega, by omega⟩ ⟨by omega, by omega⟩ (fun h_137 => ?_) (fun h_137 => ?_)
    · refine V.mask [true, true, true, false, false] (lv' := [_, _, _, none, none]) rfl ?_
      exact kk C hCr (fun x hx => by rw [hCV x hx, show s = 2 ^ (2 * n) by omega])
    · omega
  | succ m ih =>
    intro s hsm C hCr hCV
    have hV := VL_13 hk ⟨hn1, hn⟩ (show s < 2 ^ (2 * n) by omega) hlv
    have hCs := hCV s (by omega)
    have hcr := hCr s
    have hMc : (sUp σ (cBase k + 19) (eI k 4096 C)).2 (cBase k + 14) = _ := sUp_ne (by omega) hM
    have hp := p12 hn
    refine r_iload_n S dX12_knowSpans_135 rfl ?_
    refine r_iload_n S dX12_knowSpans_136 rfl ?_
    refine r_icmp_ge S dX12_knowSpans_137 (tgt := 175) (by decide) ⟨by omega, by omega⟩ ⟨by omega, by omega⟩ (fun h_137 => ?_) (fun h_137 => ?_)
    · omega
    · refine r_aload_n S dX12_knowSpans_140 rfl ?_
      refine r_getf S g_RX12_31_11 dX12_knowSpans_141 (by repeat (first | assumption | exact sUp_same | exact sNew_same | refine sUp_ne (by first | assumption | omega) ?_)) rfl ?_
      refine r_iload_n S dX12_knowSpans_144 rfl ?_
      refine r_ialdN S (s) dX12_knowSpans_145 (by repeat (first | assumption | exact sUp_same | exact sNew_same | refine sUp_ne (by first | assumption | omega) ?_)) (by omega) (by omega) (by decide) ?_
      refine r_bipush S dX12_knowSpans_146 (by decide) ?_
      refine r_icmp_ne S dX12_knowSpans_148 (tgt := 169) (by decide) ⟨by omega, by omega⟩ ⟨by omega, by omega⟩ (fun h_148 => ?_) (fun h_148 => ?_)
      · refine r_iinc S dX12_knowSpans_169 rfl rfl (by decide) (lv' := [_, _, _, _, _]) rfl ?_
        refine r_goto S dX12_knowSpans_172 (tgt := 135) (by decide) ?_
        exact ih (s + 1) (by omega) _ hCr (fun x hx => by
          by_cases e9 : x = s
          · subst e9
            rw [hCs, hV.2.2 (by rw [← hCs]; exact h_148)]
          · rw [VL_ne e9]; exact hCV x hx)
      · refine r_aload_n S dX12_knowSpans_151 rfl ?_
        refine r_iload_n S dX12_knowSpans_152 rfl ?_
        refine r_iload_n S dX12_knowSpans_153 rfl ?_
        have hiff : (∃ fr to, fr ≤ to ∧ to < n ∧ C (sbR kd 1 fr to s n) ≤ (lev : Int) ∧ C (sbR kd 0 fr to s n) ≤ (lev : Int)) ↔ TS kd s ≤ lev + 1 := by
          rw [← ts_step hk ⟨hn1, hn⟩ (show s < 2 ^ (2 * n) by omega) hlv (hV.1 (by rw [← hCs]; exact h_148))]
          constructor
          · rintro ⟨fr, to, a1, a2, a3, a4⟩
            refine ⟨fr, to, a1, a2, ?_, ?_⟩
            · rw [hCV _ (sbR_lt kd 1 fr to s n), VL_le hk ⟨hn1, hn⟩ (sbR_lt kd 1 fr to s n) hlv] at a3; exact a3
            · rw [hCV _ (sbR_lt kd 0 fr to s n), VL_le hk ⟨hn1, hn⟩ (sbR_lt kd 0 fr to s n) hlv] at a4; exact a4
          · rintro ⟨fr, to, a1, a2, a3, a4⟩
            refine ⟨fr, to, a1, a2, ?_, ?_⟩
            · rw [hCV _ (sbR_lt kd 1 fr to s n), VL_le hk ⟨hn1, hn⟩ (sbR_lt kd 1 fr to s n) hlv]; exact a3
            · rw [hCV _ (sbR_lt kd 0 fr to s n), VL_le hk ⟨hn1, hn⟩ (sbR_lt kd 0 fr to s n) hlv]; exact a4
        refine r_callV S (c_canSpan hMc hk hn sUp_same hCr (by omega) (by omega)) k_mX12_canSpan c_RX12_131_11 dX12_knowSpans_154 (by decide) ⟨by omega, by omega⟩ (by repeat (first | assumption | exact sUp_same | exact sNew_same | refine sUp_ne (by first | assumption | omega) ?_)) rfl rfl (Nat.le_of_ble_eq_true rfl) (fun r σ' hp => ?_)
        obtain ⟨_, rfl, rfl, rfl⟩ := hp
        try simp only [Option.toList_some, Option.toList_none, List.cons_append, List.nil_append]
        refine r_if_eq S dX12_knowSpans_157 (tgt := 169) (by decide) (bP_R _) (fun h_157 => ?_) (fun h_157 => ?_)
        · rw [bP_z, hiff] at h_157
          refine r_iinc S dX12_knowSpans_169 rfl rfl (by decide) (lv' := [_, _, _, _, _]) rfl ?_
          refine r_goto S dX12_knowSpans_172 (tgt := 135) (by decide) ?_
          exact ih (s + 1) (by omega) _ hCr (fun x hx => by
            by_cases e9 : x = s
            · subst e9
              rw [hCs, (hV.2.1 (by rw [← hCs]; exact h_148)).2 h_157, ← hCs]; exact h_148
            · rw [VL_ne e9]; exact hCV x hx)
        · rw [bP_z, hiff] at h_157
          have h_157 := Decidable.of_not_not h_157
          refine r_aload_n S dX12_knowSpans_160 rfl ?_
          refine r_getf S g_RX12_31_11 dX12_knowSpans_161 (by repeat (first | assumption | exact sUp_same | exact sNew_same | refine sUp_ne (by first | assumption | omega) ?_)) rfl ?_
          refine r_iload_n S dX12_knowSpans_164 rfl ?_
          refine r_iload_n S dX12_knowSpans_165 rfl ?_
          refine r_iconst S dX12_knowSpans_166 ?_
          refine r_iadd S dX12_knowSpans_167 ?_
          refine r_iastN S (s) dX12_knowSpans_168 (by repeat (first | assumption | exact sUp_same | exact sNew_same | refine sUp_ne (by first | assumption | omega) ?_)) (by omega) (by omega) (by decide) ?_
          simp only [sUp_sUp]
          refine r_iinc S dX12_knowSpans_169 rfl rfl (by decide) (lv' := [_, _, _, _, _]) rfl ?_
          refine r_goto S dX12_knowSpans_172 (tgt := 135) (by decide) ?_
          exact ih (s + 1) (by omega) _ (uZ_rng13 hCr (by omega)) (fun x hx => by
            by_cases e9 : x = s
            · subst e9
              rw [uZ_eq, (hV.2.1 (by rw [← hCs]; exact h_148)).1 h_157]
            · rw [uZ_ne e9]; rw [VL_ne e9]; exact hCV x hx)

set_option maxRecDepth 100000 in
set_option maxHeartbeats 4000000 in
theorem l_ksB {κ : Kx} {k : Cx} {σ : St} {Q : State → Prop} {hg e an wt tb q tr sk sm : Int} {kd n : Nat} (hM : σ.2 (cBase k + 14) = some (oModel k hg kd n e an wt tb q tr sk sm)) (hk : kd < 3) (hn : n ≤ 6) (hn1 : 1 ≤ n) (kk : ∀ C : Nat → Int, (∀ j, -1 ≤ C j ∧ C j ≤ 13) → (∀ x, x < 2 ^ (2 * n) → C x = SF kd x) → V κ k 5 0 0 Q 181 [some (.ref (cBase k + 14)), some (.int (iZ ((2 ^ (2 * n) : Nat) : Int))), none, none, none] [] (sUp σ (cBase k + 19) (eI k 4096 C))) (S : Ok κ k cX12_knowSpans 5 RX12 none "knowSpans" 4 0 0) : ∀ (m lev : Nat), lev + m = 12 → ∀ C : Nat → Int, (∀ j, -1 ≤ C j ∧ C j ≤ 13) → (∀ x, x < 2 ^ (2 * n) → C x = VL kd lev 0 x) → V κ k 5 0 0 Q 127 [some (.ref (cBase k + 14)), some (.int (iZ ((2 ^ (2 * n) : Nat) : Int))), some (.int (iZ (lev : Int))), none, none] [] (sUp σ (cBase k + 19) (eI k 4096 C)) := by
  intro m
  induction m with
  | zero =>
    intro lev hlm C hCr hCV
    have e12 : lev = 12 := by omega
    subst e12
    have hMc : (sUp σ (cBase k + 19) (eI k 4096 C)).2 (cBase k + 14) = _ := sUp_ne (by omega) hM
    have hp := p12 hn
    refine r_iload_n S dX12_knowSpans_127 rfl ?_
    refine r_bipush S dX12_knowSpans_128 (by decide) ?_
    refine r_icmp_ge S dX12_knowSpans_130 (tgt := 181) (by decide) ⟨by omega, by omega⟩ ⟨by omega, by omega⟩ (fun h_130 => ?_) (fun h_130 => ?_)
    · refine V.mask [true, true, false, false, false] (lv' := [_, _, none, none, none]) rfl ?_
      exact kk C hCr (fun x hx => by rw [hCV x hx, VL_end hk ⟨hn1, hn⟩ hx])
    · omega
  | succ m ih =>
    intro lev hlm C hCr hCV
    have hMc : (sUp σ (cBase k + 19) (eI k 4096 C)).2 (cBase k + 14) = _ := sUp_ne (by omega) hM
    have hp := p12 hn
    refine r_iload_n S dX12_knowSpans_127 rfl ?_
    refine r_bipush S dX12_knowSpans_128 (by decide) ?_
    refine r_icmp_ge S dX12_knowSpans_130 (tgt := 181) (by decide) ⟨by omega, by omega⟩ ⟨by omega, by omega⟩ (fun h_130 => ?_) (fun h_130 => ?_)
    · omega
    · refine r_iconst S dX12_knowSpans_133 ?_
      refine r_istore_n S dX12_knowSpans_134 rfl (by decide) (lv' := [_, _, _, _, _]) rfl ?_
      refine l_ksC hM hk hn hn1 (show lev ≤ 11 by omega) (fun C2 hCr2 hCV2 => ?_) S (2 ^ (2 * n)) 0 (by omega) C hCr hCV
      refine r_iinc S dX12_knowSpans_175 rfl rfl (by decide) (lv' := [_, _, _, _, _]) rfl ?_
      refine r_goto S dX12_knowSpans_178 (tgt := 127) (by decide) ?_
      exact ih (lev + 1) (by omega) C2 hCr2 (fun x hx => by rw [hCV2 x hx]; exact VL_next kd lev _ x hx)

set_option maxRecDepth 100000 in
set_option maxHeartbeats 4000000 in
theorem c_knowSpans {k : Cx} {L0 : Launch} {σ : St} {hg e an wt tb q tr sk sm : Int} {kd n : Nat} (hM : σ.2 (cBase k + 14) = some (oModel k hg kd n e an wt tb q tr sk sm)) (hk : kd < 3) (hn : n ≤ 6) (hn1 : 1 ≤ n) {C : Nat → Int} (hC : σ.2 (cBase k + 19) = some (eI k 4096 C)) (hSp : SpI sk sm C) (hsk : -1 ≤ sk ∧ sk ≤ 3) (hsm : 0 ≤ sm ∧ sm ≤ 16) : CtrU k L0 mX12_knowSpans 4 0 0 [.ref (cBase k + 14)] σ (fun σ' => ∃ C' : Nat → Int, SpI (kd : Int) (n : Int) C' ∧ σ' = sUp (sUp σ (cBase k + 14) (oModel k hg kd n e an wt tb q tr kd n)) (cBase k + 19) (eI k 4096 C')) := by
  refine Ctr.of (by decide +kernel) rfl (Nat.le_of_ble_eq_true rfl) ?_
  intro κ hl0 S
  subst hl0
  have hp := p12 hn
  refine r_aload_n S dX12_knowSpans_0 rfl ?_
  refine r_getf S g_RX12_28_11 dX12_knowSpans_1 (by repeat (first | assumption | exact sUp_same | exact sNew_same | refine sUp_ne (by first | assumption | omega) ?_)) rfl ?_
  refine r_aload_n S dX12_knowSpans_4 rfl ?_
  refine r_getf S g_RX12_88_11 dX12_knowSpans_5 (by repeat (first | assumption | exact sUp_same | exact sNew_same | refine sUp_ne (by first | assumption | omega) ?_)) rfl ?_
  refine r_icmp_ne S dX12_knowSpans_8 (tgt := 23) (by decide) ⟨by omega, by omega⟩ ⟨by omega, by omega⟩ (fun h_8 => ?_) (fun h_8 => ?_)
  · refine r_aload_n S dX12_knowSpans_23 rfl ?_
    refine r_aload_n S dX12_knowSpans_24 rfl ?_
    refine r_getf S g_RX12_88_11 dX12_knowSpans_25 (by repeat (first | assumption | exact sUp_same | exact sNew_same | refine sUp_ne (by first | assumption | omega) ?_)) rfl ?_
    refine r_putf S p_RX12_28_11 dX12_knowSpans_28 (by first | rfl | decide) (by first | rfl | decide) (by repeat (first | assumption | exact sUp_same | exact sNew_same | refine sUp_ne (by first | assumption | omega) ?_)) (Nat.le_of_ble_eq_true rfl) (fs' := [_, _, _, _, _, _, _, _, _, _, _, _, _, _, _, _, _, _, _, _, _]) rfl ?_
    try simp only [sUp_sUp]
    refine r_aload_n S dX12_knowSpans_31 rfl ?_
    refine r_aload_n S dX12_knowSpans_32 rfl ?_
    refine r_getf S g_RX12_91_11 dX12_knowSpans_33 (by repeat (first | assumption | exact sUp_same | exact sNew_same | refine sUp_ne (by first | assumption | omega) ?_)) rfl ?_
    refine r_putf S p_RX12_128_11 dX12_knowSpans_36 (by first | rfl | decide) (by first | rfl | decide) (by repeat (first | assumption | exact sUp_same | exact sNew_same | refine sUp_ne (by first | assumption | omega) ?_)) (Nat.le_of_ble_eq_true rfl) (fs' := [_, _, _, _, _, _, _, _, _, _, _, _, _, _, _, _, _, _, _, _, _]) rfl ?_
    try simp only [sUp_sUp]
    refine r_iconst S dX12_knowSpans_39 ?_
    refine r_iconst S dX12_knowSpans_40 ?_
    refine r_aload_n S dX12_knowSpans_41 rfl ?_
    refine r_getf S g_RX12_91_11 dX12_knowSpans_42 (by repeat (first | assumption | exact sUp_same | exact sNew_same | refine sUp_ne (by first | assumption | omega) ?_)) rfl ?_
    refine r_imul S dX12_knowSpans_45 ?_
    refine r_num (z' := ((2 * n : Nat) : Int)) (by omega) ?_
    refine r_ishl S dX12_knowSpans_46 (v := iZ ((2 ^ (2 * n) : Nat) : Int)) (by have h9 := shlZ (a := 1) (i := 2 * n) (by rw [Nat.one_mul]; omega) (by omega); rw [Nat.one_mul] at h9; exact h9) ?_
    refine r_istore_n S dX12_knowSpans_47 rfl (by decide) (lv' := [_, _, _, _, _]) rfl ?_
    refine r_iconst S dX12_knowSpans_48 ?_
    refine r_istore_n S dX12_knowSpans_49 rfl (by decide) (lv' := [_, _, _, _, _]) rfl ?_
    have hM1 : (sUp σ (cBase k + 14) (oModel k hg kd n e an wt tb q tr kd n)).2 (cBase k + 14) = some (oModel k hg kd n e an wt tb q tr kd n) := sUp_same
    have hC1 : (sUp σ (cBase k + 14) (oModel k hg kd n e an wt tb q tr kd n)).2 (cBase k + 19) = some (eI k 4096 C) := sUp_ne (by omega) hC
    rw [← sUp_id hC1]
    refine l_ksA (σ := sUp σ (cBase k + 14) (oModel k hg kd n e an wt tb q tr kd n)) hM1 hk hn (fun C1 hr1 hI1 => ?_) S (2 ^ (2 * n)) 0 (by omega) C hSp.1 (fun x hx => absurd hx (Nat.not_lt_zero x))
    refine r_iconst S dX12_knowSpans_125 ?_
    refine r_istore_n S dX12_knowSpans_126 rfl (by decide) (lv' := [_, _, _, _, _]) rfl ?_
    refine V.mask [true, true, true, false, false] (lv' := [_, _, _, none, none]) rfl ?_
    refine l_ksB (σ := sUp σ (cBase k + 14) (oModel k hg kd n e an wt tb q tr kd n)) hM1 hk hn hn1 (fun C2 hr2 hI2 => ?_) S 12 0 (by omega) C1 hr1 (fun x hx => by rw [hI1 x hx, VL_0 hk ⟨hn1, hn⟩ hx])
    exact r_vret S dX12_knowSpans_181 (by omega) (by omega) (⟨rfl, C2, ⟨hr2, fun kd2 n2 e1 e2 _ _ _ x hx => by
      have e3 : kd2 = kd := by omega
      have e4 : n2 = n := by omega
      subst e3
      subst e4
      exact hI2 x hx⟩, by simp only [sUp_sUp]⟩)
  · refine r_aload_n S dX12_knowSpans_11 rfl ?_
    refine r_getf S g_RX12_128_11 dX12_knowSpans_12 (by repeat (first | assumption | exact sUp_same | exact sNew_same | refine sUp_ne (by first | assumption | omega) ?_)) rfl ?_
    refine r_aload_n S dX12_knowSpans_15 rfl ?_
    refine r_getf S g_RX12_91_11 dX12_knowSpans_16 (by repeat (first | assumption | exact sUp_same | exact sNew_same | refine sUp_ne (by first | assumption | omega) ?_)) rfl ?_
    refine r_icmp_ne S dX12_knowSpans_19 (tgt := 23) (by decide) ⟨by omega, by omega⟩ ⟨by omega, by omega⟩ (fun h_19 => ?_) (fun h_19 => ?_)
    · refine r_aload_n S dX12_knowSpans_23 rfl ?_
      refine r_aload_n S dX12_knowSpans_24 rfl ?_
      refine r_getf S g_RX12_88_11 dX12_knowSpans_25 (by repeat (first | assumption | exact sUp_same | exact sNew_same | refine sUp_ne (by first | assumption | omega) ?_)) rfl ?_
      refine r_putf S p_RX12_28_11 dX12_knowSpans_28 (by first | rfl | decide) (by first | rfl | decide) (by repeat (first | assumption | exact sUp_same | exact sNew_same | refine sUp_ne (by first | assumption | omega) ?_)) (Nat.le_of_ble_eq_true rfl) (fs' := [_, _, _, _, _, _, _, _, _, _, _, _, _, _, _, _, _, _, _, _, _]) rfl ?_
      try simp only [sUp_sUp]
      refine r_aload_n S dX12_knowSpans_31 rfl ?_
      refine r_aload_n S dX12_knowSpans_32 rfl ?_
      refine r_getf S g_RX12_91_11 dX12_knowSpans_33 (by repeat (first | assumption | exact sUp_same | exact sNew_same | refine sUp_ne (by first | assumption | omega) ?_)) rfl ?_
      refine r_putf S p_RX12_128_11 dX12_knowSpans_36 (by first | rfl | decide) (by first | rfl | decide) (by repeat (first | assumption | exact sUp_same | exact sNew_same | refine sUp_ne (by first | assumption | omega) ?_)) (Nat.le_of_ble_eq_true rfl) (fs' := [_, _, _, _, _, _, _, _, _, _, _, _, _, _, _, _, _, _, _, _, _]) rfl ?_
      try simp only [sUp_sUp]
      refine r_iconst S dX12_knowSpans_39 ?_
      refine r_iconst S dX12_knowSpans_40 ?_
      refine r_aload_n S dX12_knowSpans_41 rfl ?_
      refine r_getf S g_RX12_91_11 dX12_knowSpans_42 (by repeat (first | assumption | exact sUp_same | exact sNew_same | refine sUp_ne (by first | assumption | omega) ?_)) rfl ?_
      refine r_imul S dX12_knowSpans_45 ?_
      refine r_num (z' := ((2 * n : Nat) : Int)) (by omega) ?_
      refine r_ishl S dX12_knowSpans_46 (v := iZ ((2 ^ (2 * n) : Nat) : Int)) (by have h9 := shlZ (a := 1) (i := 2 * n) (by rw [Nat.one_mul]; omega) (by omega); rw [Nat.one_mul] at h9; exact h9) ?_
      refine r_istore_n S dX12_knowSpans_47 rfl (by decide) (lv' := [_, _, _, _, _]) rfl ?_
      refine r_iconst S dX12_knowSpans_48 ?_
      refine r_istore_n S dX12_knowSpans_49 rfl (by decide) (lv' := [_, _, _, _, _]) rfl ?_
      have hM1 : (sUp σ (cBase k + 14) (oModel k hg kd n e an wt tb q tr kd n)).2 (cBase k + 14) = some (oModel k hg kd n e an wt tb q tr kd n) := sUp_same
      have hC1 : (sUp σ (cBase k + 14) (oModel k hg kd n e an wt tb q tr kd n)).2 (cBase k + 19) = some (eI k 4096 C) := sUp_ne (by omega) hC
      rw [← sUp_id hC1]
      refine l_ksA (σ := sUp σ (cBase k + 14) (oModel k hg kd n e an wt tb q tr kd n)) hM1 hk hn (fun C1 hr1 hI1 => ?_) S (2 ^ (2 * n)) 0 (by omega) C hSp.1 (fun x hx => absurd hx (Nat.not_lt_zero x))
      refine r_iconst S dX12_knowSpans_125 ?_
      refine r_istore_n S dX12_knowSpans_126 rfl (by decide) (lv' := [_, _, _, _, _]) rfl ?_
      refine V.mask [true, true, true, false, false] (lv' := [_, _, _, none, none]) rfl ?_
      refine l_ksB (σ := sUp σ (cBase k + 14) (oModel k hg kd n e an wt tb q tr kd n)) hM1 hk hn hn1 (fun C2 hr2 hI2 => ?_) S 12 0 (by omega) C1 hr1 (fun x hx => by rw [hI1 x hx, VL_0 hk ⟨hn1, hn⟩ hx])
      exact r_vret S dX12_knowSpans_181 (by omega) (by omega) (⟨rfl, C2, ⟨hr2, fun kd2 n2 e1 e2 _ _ _ x hx => by
        have e3 : kd2 = kd := by omega
        have e4 : n2 = n := by omega
        subst e3
        subst e4
        exact hI2 x hx⟩, by simp only [sUp_sUp]⟩)
    · exact r_vret S dX12_knowSpans_22 (by omega) (by omega) (by
        have e1 : sk = (kd : Int) := by omega
        have e2 : sm = (n : Int) := by omega
        subst e1
        subst e2
        exact ⟨rfl, C, hSp, by rw [sUp_id hM, sUp_id hC]⟩)

def dgS (l : Nat → Int) (n : Nat) : Nat := smF (fun i => (l i + 1).toNat) n
theorem dgS_lt {l : Nat → Int} {n : Nat} (hl : ∀ j, j < n → -1 ≤ l j ∧ l j ≤ 2) {i : Nat} (hi : i ≤ n) : dgS l i < 2 ^ (2 * i) := by
  have e : dgS l i = smF (fun j => if j < n then (l j + 1).toNat else 0) i := smF_congr (fun j hj => (if_pos (by omega)).symm)
  rw [e]
  refine smF_lt (fun j => ?_) i
  show (if j < n then (l j + 1).toNat else 0) < 4
  split
  · rename_i h; have := hl j h; omega
  · omega
theorem dgS_congr {l l' : Nat → Int} {n : Nat} (h : ∀ i, i < n → l i = l' i) : dgS l n = dgS l' n := smF_congr (fun i hi => by rw [h i hi])

set_option maxRecDepth 100000 in
set_option maxHeartbeats 4000000 in
theorem l_spansM {κ : Kx} {k : Cx} {σ : St} {hg e an wt tb q tr sk sm : Int} {kd n : Nat} (hM : σ.2 (cBase k + 14) = some (oModel k hg kd n e an wt tb q tr sk sm)) (hk : kd < 3) (hn : n ≤ 6) {l : Nat → Int} (hL : σ.2 (cBase k + 15) = some (eI k 16 l)) (hl : ∀ j, j < n → -1 ≤ l j ∧ l j ≤ 2) {C : Nat → Int} (hC : σ.2 (cBase k + 19) = some (eI k 4096 C)) (hSI : ∀ x, x < 2 ^ (2 * n) → C x = SF kd x) (hn1 : 1 ≤ n) {P9 : St → Prop} (hP9 : P9 σ) (S : Ok κ k cX12_spans 3 RX12 (some .int) "spans" 5 0 0) : ∀ (m i : Nat), i + m = n → V κ k 3 0 0 (QR κ k (fun r9 σ' => ∃ v, r9 = some v ∧ (v = .int (iZ (if SF kd (dgS l n) = 13 then -9 else SF kd (dgS l n))) ∧ P9 σ')) 0 0) 37 [some (.ref (cBase k + 14)), some (.int (iZ ((dgS l i : Nat) : Int))), some (.int (iZ (i : Int)))] [] σ := by
  intro m
  induction m with
  | zero =>
    intro i hi
    have hin : i = n := by omega
    subst hin
    have hlt := dgS_lt hl (Nat.le_refl i)
    have hp := p12 hn
    have hsf := SF_rng hk ⟨hn1, hn⟩ hlt
    refine r_iload_n S dX12_spans_37 rfl ?_
    refine r_aload_n S dX12_spans_38 rfl ?_
    refine r_getf S g_RX12_91_11 dX12_spans_39 (by repeat (first | assumption | exact sUp_same | exact sNew_same | refine sUp_ne (by first | assumption | omega) ?_)) rfl ?_
    refine r_icmp_ge S dX12_spans_42 (tgt := 66) (by decide) ⟨by omega, by omega⟩ ⟨by omega, by omega⟩ (fun h_42 => ?_) (fun h_42 => ?_)
    · refine r_aload_n S dX12_spans_66 rfl ?_
      refine r_getf S g_RX12_31_11 dX12_spans_67 (by repeat (first | assumption | exact sUp_same | exact sNew_same | refine sUp_ne (by first | assumption | omega) ?_)) rfl ?_
      refine r_iload_n S dX12_spans_70 rfl ?_
      refine r_ialdN S (dgS l i) dX12_spans_71 (by repeat (first | assumption | exact sUp_same | exact sNew_same | refine sUp_ne (by first | assumption | omega) ?_)) (by omega) (by omega) (by decide) ?_
      rw [hSI _ hlt]
      refine r_callS S (c_shown ⟨by omega, by omega⟩) k_mX12_shown c_RX12_108 dX12_spans_72 (by decide) ⟨by omega, by omega⟩ rfl rfl (Nat.le_of_ble_eq_true rfl) (fun r σ' hp => ?_)
      obtain ⟨_, rfl, rfl, rfl⟩ := hp
      try simp only [Option.toList_some, Option.toList_none, List.cons_append, List.nil_append]
      exact r_iret S dX12_spans_75 (by omega) (by omega) (⟨_, rfl, rfl, hP9⟩)
    · omega
  | succ m ih =>
    intro i hi
    have hlt := dgS_lt hl (show i ≤ n by omega)
    have hli := hl i (by omega)
    have hp := p10 (show i < 6 by omega)
    have hm3 : (l i + 1).toNat * 2 ^ (2 * i) ≤ 3 * 2 ^ (2 * i) := mul3 (by omega)
    refine r_iload_n S dX12_spans_37 rfl ?_
    refine r_aload_n S dX12_spans_38 rfl ?_
    refine r_getf S g_RX12_91_11 dX12_spans_39 (by repeat (first | assumption | exact sUp_same | exact sNew_same | refine sUp_ne (by first | assumption | omega) ?_)) rfl ?_
    refine r_icmp_ge S dX12_spans_42 (tgt := 66) (by decide) ⟨by omega, by omega⟩ ⟨by omega, by omega⟩ (fun h_42 => ?_) (fun h_42 => ?_)
    · omega
    · refine r_iload_n S dX12_spans_45 rfl ?_
      refine r_aload_n S dX12_spans_46 rfl ?_
      refine r_getf S g_RX12_13_11 dX12_spans_47 (by repeat (first | assumption | exact sUp_same | exact sNew_same | refine sUp_ne (by first | assumption | omega) ?_)) rfl ?_
      refine r_iload_n S dX12_spans_50 rfl ?_
      refine r_ialdN S (i) dX12_spans_51 (by repeat (first | assumption | exact sUp_same | exact sNew_same | refine sUp_ne (by first | assumption | omega) ?_)) (by omega) (by omega) (by decide) ?_
      refine r_iconst S dX12_spans_52 ?_
      refine r_iadd S dX12_spans_53 ?_
      refine r_num (z' := (((l i + 1).toNat : Nat) : Int)) (by omega) ?_
      refine r_iconst S dX12_spans_54 ?_
      refine r_iload_n S dX12_spans_55 rfl ?_
      refine r_imul S dX12_spans_56 ?_
      refine r_num (z' := ((2 * i : Nat) : Int)) (by omega) ?_
      refine r_ishl S dX12_spans_57 (shlZ (by omega) (by omega)) ?_
      refine r_ior S dX12_spans_58 (orW hlt) ?_
      refine r_istore_n S dX12_spans_59 rfl (by decide) (lv' := [_, _, _]) rfl ?_
      refine r_iinc S dX12_spans_60 rfl rfl (by decide) (lv' := [_, _, _]) rfl ?_
      refine r_goto S dX12_spans_63 (tgt := 37) (by decide) ?_
      exact ih (i + 1) (by omega)

set_option maxRecDepth 100000 in
set_option maxHeartbeats 4000000 in
theorem c_spansM {k : Cx} {L0 : Launch} {σ : St} {e : Nat} {an wt tb q tr sk sm : Int} {kd n : Nat} (hM : σ.2 (cBase k + 14) = some (oModel k 1 kd n e an wt tb q tr sk sm)) (hk : kd < 3) (hn : n ≤ 6) (he : e ≤ 2) {l : Nat → Int} (hL : σ.2 (cBase k + 15) = some (eI k 16 l)) (hl : ∀ j, j < n → -1 ≤ l j ∧ l j ≤ 2) (hn1 : 1 ≤ n) {C : Nat → Int} (hC : σ.2 (cBase k + 19) = some (eI k 4096 C)) (hSp : SpI sk sm C) (hsk : -1 ≤ sk ∧ sk ≤ 3) (hsm : 0 ≤ sm ∧ sm ≤ 16) : CtrV k L0 mX12_spans 5 0 0 [.ref (cBase k + 14)] σ (fun v σ' => v = .int (iZ (if SF kd (dgS l n) = 13 then -9 else SF kd (dgS l n))) ∧ ∃ C' : Nat → Int, SpI (kd : Int) (n : Int) C' ∧ σ' = sUp (sUp σ (cBase k + 14) (oModel k 1 kd n e an wt tb q tr kd n)) (cBase k + 19) (eI k 4096 C')) := by
  refine Ctr.of (by decide +kernel) rfl (Nat.le_of_ble_eq_true rfl) ?_
  intro κ hl0 S
  subst hl0
  refine r_aload_n S dX12_spans_0 rfl ?_
  refine r_getf S g_RX12_49_11 dX12_spans_1 (by repeat (first | assumption | exact sUp_same | exact sNew_same | refine sUp_ne (by first | assumption | omega) ?_)) rfl ?_
  refine r_if_ne S dX12_spans_4 (tgt := 10) (by decide) ⟨by omega, by omega⟩ (fun h_4 => ?_) (fun h_4 => ?_)
  · refine r_aload_n S dX12_spans_10 rfl ?_
    refine r_getf S g_RX12_91_11 dX12_spans_11 (by repeat (first | assumption | exact sUp_same | exact sNew_same | refine sUp_ne (by first | assumption | omega) ?_)) rfl ?_
    refine r_bipush S dX12_spans_14 (by decide) ?_
    refine r_icmp_gt S dX12_spans_16 (tgt := 27) (by decide) ⟨by omega, by omega⟩ ⟨by omega, by omega⟩ (fun h_16 => ?_) (fun h_16 => ?_)
    · omega
    · refine r_aload_n S dX12_spans_19 rfl ?_
      refine r_getf S g_RX12_98_11 dX12_spans_20 (by repeat (first | assumption | exact sUp_same | exact sNew_same | refine sUp_ne (by first | assumption | omega) ?_)) rfl ?_
      refine r_iconst S dX12_spans_23 ?_
      refine r_icmp_le S dX12_spans_24 (tgt := 29) (by decide) ⟨by omega, by omega⟩ ⟨by omega, by omega⟩ (fun h_24 => ?_) (fun h_24 => ?_)
      · refine r_aload_n S dX12_spans_29 rfl ?_
        refine r_callV S (c_knowSpans hM hk hn hn1 hC hSp hsk hsm) k_mX12_knowSpans c_RX12_134_11 dX12_spans_30 (by decide) ⟨by omega, by omega⟩ (by repeat (first | assumption | exact sUp_same | exact sNew_same | refine sUp_ne (by first | assumption | omega) ?_)) rfl rfl (Nat.le_of_ble_eq_true rfl) (fun r σ' hp => ?_)
        obtain ⟨rfl, C2, hSp2, rfl⟩ := hp
        try simp only [Option.toList_some, Option.toList_none, List.cons_append, List.nil_append]
        refine r_iconst S dX12_spans_33 ?_
        refine r_istore_n S dX12_spans_34 rfl (by decide) (lv' := [_, _, _]) rfl ?_
        refine r_iconst S dX12_spans_35 ?_
        refine r_istore_n S dX12_spans_36 rfl (by decide) (lv' := [_, _, _]) rfl ?_
        exact l_spansM (P9 := fun σ' => ∃ C' : Nat → Int, SpI (kd : Int) (n : Int) C' ∧ σ' = sUp (sUp σ (cBase k + 14) (oModel k 1 kd n e an wt tb q tr kd n)) (cBase k + 19) (eI k 4096 C')) (sUp_ne (by omega) sUp_same) hk hn (sUp_ne (by omega) (sUp_ne (by omega) hL)) hl sUp_same (hSp2.2 kd n rfl rfl hk hn1 hn) hn1 ⟨C2, hSp2, rfl⟩ S n 0 (by omega)
      · omega
  · omega

set_option maxRecDepth 100000 in
set_option maxHeartbeats 4000000 in
theorem c_spansM0 {k : Cx} {L0 : Launch} {σ : St} {e an wt tb q tr sk sm kd n : Int} (hM : σ.2 (cBase k + 14) = some (oModel k 0 kd n e an wt tb q tr sk sm)) : CtrV k L0 mX12_spans 5 0 0 [.ref (cBase k + 14)] σ (fun v σ' => v = .int (iZ (-2)) ∧ σ' = σ) := by
  refine Ctr.of (by decide +kernel) rfl (Nat.le_of_ble_eq_true rfl) ?_
  intro κ hl0 S
  subst hl0
  refine r_aload_n S dX12_spans_0 rfl ?_
  refine r_getf S g_RX12_49_11 dX12_spans_1 (by repeat (first | assumption | exact sUp_same | exact sNew_same | refine sUp_ne (by first | assumption | omega) ?_)) rfl ?_
  refine r_if_ne S dX12_spans_4 (tgt := 10) (by decide) ⟨by omega, by omega⟩ (fun h_4 => ?_) (fun h_4 => ?_)
  · omega
  · refine r_bipush S dX12_spans_7 (by decide) ?_
    exact r_iret S dX12_spans_9 (by omega) (by omega) (⟨_, rfl, rfl, rfl⟩)

set_option maxRecDepth 100000 in
set_option maxHeartbeats 4000000 in
theorem c_spansMb {k : Cx} {L0 : Launch} {σ : St} {an wt tb q tr sk sm kd : Int} {n e : Nat} (hM : σ.2 (cBase k + 14) = some (oModel k 1 kd n e an wt tb q tr sk sm)) (hn : n ≤ 16) (he : e ≤ 3) (hb : 6 < n ∨ 2 < e) : CtrV k L0 mX12_spans 5 0 0 [.ref (cBase k + 14)] σ (fun v σ' => v = .int (iZ (-1)) ∧ σ' = σ) := by
  refine Ctr.of (by decide +kernel) rfl (Nat.le_of_ble_eq_true rfl) ?_
  intro κ hl0 S
  subst hl0
  refine r_aload_n S dX12_spans_0 rfl ?_
  refine r_getf S g_RX12_49_11 dX12_spans_1 (by repeat (first | assumption | exact sUp_same | exact sNew_same | refine sUp_ne (by first | assumption | omega) ?_)) rfl ?_
  refine r_if_ne S dX12_spans_4 (tgt := 10) (by decide) ⟨by omega, by omega⟩ (fun h_4 => ?_) (fun h_4 => ?_)
  · refine r_aload_n S dX12_spans_10 rfl ?_
    refine r_getf S g_RX12_91_11 dX12_spans_11 (by repeat (first | assumption | exact sUp_same | exact sNew_same | refine sUp_ne (by first | assumption | omega) ?_)) rfl ?_
    refine r_bipush S dX12_spans_14 (by decide) ?_
    refine r_icmp_gt S dX12_spans_16 (tgt := 27) (by decide) ⟨by omega, by omega⟩ ⟨by omega, by omega⟩ (fun h_16 => ?_) (fun h_16 => ?_)
    · refine r_iconst S dX12_spans_27 ?_
      exact r_iret S dX12_spans_28 (by omega) (by omega) (⟨_, rfl, rfl, rfl⟩)
    · refine r_aload_n S dX12_spans_19 rfl ?_
      refine r_getf S g_RX12_98_11 dX12_spans_20 (by repeat (first | assumption | exact sUp_same | exact sNew_same | refine sUp_ne (by first | assumption | omega) ?_)) rfl ?_
      refine r_iconst S dX12_spans_23 ?_
      refine r_icmp_le S dX12_spans_24 (tgt := 29) (by decide) ⟨by omega, by omega⟩ ⟨by omega, by omega⟩ (fun h_24 => ?_) (fun h_24 => ?_)
      · omega
      · refine r_iconst S dX12_spans_27 ?_
        exact r_iret S dX12_spans_28 (by omega) (by omega) (⟨_, rfl, rfl, rfl⟩)
  · omega

set_option maxRecDepth 100000 in
set_option maxHeartbeats 4000000 in
theorem l_asDigits {κ : Kx} {k : Cx} {σ : St} {on kd e wt yp np : Int} {n an : Nat} (hG : σ.2 (cBase k + 9) = some (oGame k on kd n e an wt yp np)) {f : Nat → Int} (hL : σ.2 (cBase k + 10) = some (eI k 992 f)) (han : an ≤ 60) (hn : n ≤ 6) (hf : ∀ j, j < n → -1 ≤ f (an * 16 + j) ∧ f (an * 16 + j) ≤ 2) (S : Ok κ k cX3_asDigits 3 RX3 (some .int) "asDigits" 3 0 0) : ∀ (m i : Nat), i + m = n → V κ k 3 0 0 (QR κ k (fun r9 σ' => ∃ v, r9 = some v ∧ (v = .int (iZ ((dgS (fun i => f (an * 16 + i)) n : Nat) : Int)) ∧ σ' = σ)) 0 0) 4 [some (.ref (cBase k + 9)), some (.int (iZ ((dgS (fun i => f (an * 16 + i)) i : Nat) : Int))), some (.int (iZ (i : Int)))] [] σ := by
  intro m
  induction m with
  | zero =>
    intro i hi
    have hin : i = n := by omega
    subst hin
    refine r_iload_n S dX3_asDigits_4 rfl ?_
    refine r_aload_n S dX3_asDigits_5 rfl ?_
    refine r_getf S g_RX3_19_3 dX3_asDigits_6 (by repeat (first | assumption | exact sUp_same | exact sNew_same | refine sUp_ne (by first | assumption | omega) ?_)) rfl ?_
    refine r_icmp_ge S dX3_asDigits_9 (tgt := 42) (by decide) ⟨by omega, by omega⟩ ⟨by omega, by omega⟩ (fun h_9 => ?_) (fun h_9 => ?_)
    · refine r_iload_n S dX3_asDigits_42 rfl ?_
      exact r_iret S dX3_asDigits_43 (by omega) (by omega) (⟨_, rfl, rfl, rfl⟩)
    · omega
  | succ m ih =>
    intro i hi
    have hlt := dgS_lt (l := (fun i => f (an * 16 + i))) hf (show i ≤ n by omega)
    have hli := hf i (by omega)
    have hp := p10 (show i < 6 by omega)
    have hm3 : (f (an * 16 + i) + 1).toNat * 2 ^ (2 * i) ≤ 3 * 2 ^ (2 * i) := mul3 (by omega)
    refine r_iload_n S dX3_asDigits_4 rfl ?_
    refine r_aload_n S dX3_asDigits_5 rfl ?_
    refine r_getf S g_RX3_19_3 dX3_asDigits_6 (by repeat (first | assumption | exact sUp_same | exact sNew_same | refine sUp_ne (by first | assumption | omega) ?_)) rfl ?_
    refine r_icmp_ge S dX3_asDigits_9 (tgt := 42) (by decide) ⟨by omega, by omega⟩ ⟨by omega, by omega⟩ (fun h_9 => ?_) (fun h_9 => ?_)
    · omega
    · refine r_iload_n S dX3_asDigits_12 rfl ?_
      refine r_bipush S dX3_asDigits_13 (by decide) ?_
      refine r_icmp_ge S dX3_asDigits_15 (tgt := 42) (by decide) ⟨by omega, by omega⟩ ⟨by omega, by omega⟩ (fun h_15 => ?_) (fun h_15 => ?_)
      · omega
      · refine r_iload_n S dX3_asDigits_18 rfl ?_
        refine r_aload_n S dX3_asDigits_19 rfl ?_
        refine r_iload_n S dX3_asDigits_20 rfl ?_
        refine r_callV S (c_leftOf hG hL han (by omega) (by omega)) k_mX3_leftOf c_RX3_54_3 dX3_asDigits_21 (by decide) ⟨by omega, by omega⟩ (by repeat (first | assumption | exact sUp_same | exact sNew_same | refine sUp_ne (by first | assumption | omega) ?_)) rfl rfl (Nat.le_of_ble_eq_true rfl) (fun r σ' hp => ?_)
        obtain ⟨_, rfl, rfl, rfl⟩ := hp
        try simp only [Option.toList_some, Option.toList_none, List.cons_append, List.nil_append]
        refine r_iconst S dX3_asDigits_24 ?_
        refine r_iadd S dX3_asDigits_25 ?_
        refine r_iconst S dX3_asDigits_26 ?_
        refine r_mmin S wd_217 ks_min dX3_asDigits_27 (by decide) ⟨by omega, by omega⟩ ⟨by omega, by omega⟩ ⟨by omega, by omega⟩ (Nat.le_of_ble_eq_true rfl) ?_
        refine r_num (z' := (((f (an * 16 + i) + 1).toNat : Nat) : Int)) (by omega) ?_
        refine r_iconst S dX3_asDigits_30 ?_
        refine r_iload_n S dX3_asDigits_31 rfl ?_
        refine r_imul S dX3_asDigits_32 ?_
        refine r_num (z' := ((2 * i : Nat) : Int)) (by omega) ?_
        refine r_ishl S dX3_asDigits_33 (shlZ (by omega) (by omega)) ?_
        refine r_ior S dX3_asDigits_34 (orW hlt) ?_
        refine r_istore_n S dX3_asDigits_35 rfl (by decide) (lv' := [_, _, _]) rfl ?_
        refine r_iinc S dX3_asDigits_36 rfl rfl (by decide) (lv' := [_, _, _]) rfl ?_
        refine r_goto S dX3_asDigits_39 (tgt := 4) (by decide) ?_
        exact ih (i + 1) (by omega)

set_option maxRecDepth 100000 in
set_option maxHeartbeats 4000000 in
theorem c_asDigits {k : Cx} {L0 : Launch} {σ : St} {on kd e wt yp np : Int} {n an : Nat} (hG : σ.2 (cBase k + 9) = some (oGame k on kd n e an wt yp np)) {f : Nat → Int} (hL : σ.2 (cBase k + 10) = some (eI k 992 f)) (han : an ≤ 60) (hn : n ≤ 6) (hf : ∀ j, j < n → -1 ≤ f (an * 16 + j) ∧ f (an * 16 + j) ≤ 2) : CtrV k L0 mX3_asDigits 3 0 0 [.ref (cBase k + 9)] σ (fun v σ' => v = .int (iZ (((dgS (fun i => f (an * 16 + i)) n : Nat) : Int))) ∧ σ' = σ) := by
  refine Ctr.of (by decide +kernel) rfl (Nat.le_of_ble_eq_true rfl) ?_
  intro κ hl0 S
  subst hl0
  refine r_iconst S dX3_asDigits_0 ?_
  refine r_istore_n S dX3_asDigits_1 rfl (by decide) (lv' := [_, _, _]) rfl ?_
  refine r_iconst S dX3_asDigits_2 ?_
  refine r_istore_n S dX3_asDigits_3 rfl (by decide) (lv' := [_, _, _]) rfl ?_
  exact l_asDigits hG hL han hn hf S n 0 (by omega)
