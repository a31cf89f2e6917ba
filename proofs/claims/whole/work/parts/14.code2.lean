set_option maxRecDepth 100000 in
set_option maxHeartbeats 4000000 in
theorem l_allApart1 {κ : Kx} {k : Cx} {σ : St} {q : Nat} (hC : σ.2 (cBase k + 11) = some (oCode k q)) (hq : q ≤ 12) {w : Nat → Int} {qs : Nat → Nat} (hW : σ.2 (cBase k + 13) = some (eI k 16 w)) (hw : ∀ i, i < 16 → w i = (wd qs q i : Int)) {n more : Nat} (hn : n ≤ 16) (hmo : more ≤ 6) (S : Ok κ k cX2_allApart 6 RX2 (some .boolean) "allApart" 2 0 0) {a : Nat} (ha : a < n) (kk : (∀ b, b < a → more < popc (wd qs q a ^^^ wd qs q b)) → V κ k 6 0 0 (QR κ k (fun r σ' => ∃ v, r = some v ∧ (v = .int (iZ (b01 (∀ a, a < n → ∀ b, b < a → more < popc (wd qs q a ^^^ wd qs q b)))) ∧ σ' = σ)) 0 0) 47 [some (.ref (cBase k + 11)), some (.int (iZ (n : Int))), some (.int (iZ (more : Int))), some (.int (iZ (a : Int))), none, none] [] σ) : ∀ (m b : Nat), b + m = a → (∀ b', b' < b → more < popc (wd qs q a ^^^ wd qs q b')) → V κ k 6 0 0 (QR κ k (fun r σ' => ∃ v, r = some v ∧ (v = .int (iZ (b01 (∀ a, a < n → ∀ b, b < a → more < popc (wd qs q a ^^^ wd qs q b)))) ∧ σ' = σ)) 0 0) 17 [some (.ref (cBase k + 11)), some (.int (iZ (n : Int))), some (.int (iZ (more : Int))), some (.int (iZ (a : Int))), some (.int (iZ (wd qs q a : Int))), some (.int (iZ (b : Int)))] [] σ := by
  intro m
  induction m with
  | zero =>
    intro b hi
    intro hok
    refine r_iload S dX2_allApart_17 rfl ?_
    refine r_iload_n S dX2_allApart_19 rfl ?_
    refine r_icmp_ge S dX2_allApart_20 (tgt := 47) (by decide) ⟨by omega, by omega⟩ ⟨by omega, by omega⟩ (fun h_20 => ?_) (fun h_20 => ?_)
    · refine V.mask [true, true, true, true, false, false] (lv' := [_, _, _, _, none, none]) rfl ?_
      exact kk (fun b' hb' => hok b' (by omega))
    · omega
  | succ m ih =>
    intro b hi
    intro hok
    have hwl := fun i => Nat.lt_of_lt_of_le (wd_lt qs q i) (pw12 hq)
    refine r_iload S dX2_allApart_17 rfl ?_
    refine r_iload_n S dX2_allApart_19 rfl ?_
    refine r_icmp_ge S dX2_allApart_20 (tgt := 47) (by decide) ⟨by omega, by omega⟩ ⟨by omega, by omega⟩ (fun h_20 => ?_) (fun h_20 => ?_)
    · omega
    · refine r_iload S dX2_allApart_23 rfl ?_
      refine r_aload_n S dX2_allApart_25 rfl ?_
      refine r_iload S dX2_allApart_26 rfl ?_
      refine r_callV S (c_wordOf hC hq hW hw (by omega)) k_mX2_wordOf c_RX2_22_2 dX2_allApart_28 (by decide) ⟨by omega, by omega⟩ (by repeat (first | assumption | exact sUp_same | exact sNew_same | refine sUp_ne (by first | assumption | omega) ?_)) rfl rfl (Nat.le_of_ble_eq_true rfl) (fun r σ' hp => ?_)
      obtain ⟨_, rfl, rfl, rfl⟩ := hp
      try simp only [Option.toList_some, Option.toList_none, List.cons_append, List.nil_append]
      refine r_ixor S dX2_allApart_31 (xorZ _ _) ?_
      refine r_callS S (c_bitCount (xor_lt (hwl a) (hwl b))) k_mJ6_bitCount_0f7a4 c_RX2_26 dX2_allApart_32 (by decide) ⟨by omega, by omega⟩ rfl rfl (Nat.le_of_ble_eq_true rfl) (fun r σ' hp => ?_)
      obtain ⟨_, rfl, rfl, rfl⟩ := hp
      try simp only [Option.toList_some, Option.toList_none, List.cons_append, List.nil_append]
      have hpl := popc_le (wd qs q a ^^^ wd qs q b)
      refine r_iload_n S dX2_allApart_35 rfl ?_
      refine r_icmp_gt S dX2_allApart_36 (tgt := 41) (by decide) ⟨by omega, by omega⟩ ⟨by omega, by omega⟩ (fun h_36 => ?_) (fun h_36 => ?_)
      · refine r_iinc S dX2_allApart_41 rfl rfl (by decide) (lv' := [_, _, _, _, _, _]) rfl ?_
        refine r_goto S dX2_allApart_44 (tgt := 17) (by decide) ?_
        refine ih (b + 1) (by omega) (fun b' hb' => ?_)
        rcases Nat.lt_or_ge b' b with e | e
        · exact hok b' e
        · rw [show b' = b by omega]; omega
      · refine r_iconst S dX2_allApart_39 ?_
        exact r_zret S dX2_allApart_40 (by omega) (by omega) (by first | exact Or.inl rfl | exact Or.inr rfl | omega) (⟨_, rfl, by rw [b01_f (fun hz => by have h8 := hz a ha b (by omega); omega)], rfl⟩)

set_option maxRecDepth 100000 in
set_option maxHeartbeats 4000000 in
theorem l_allApart {κ : Kx} {k : Cx} {σ : St} {q : Nat} (hC : σ.2 (cBase k + 11) = some (oCode k q)) (hq : q ≤ 12) {w : Nat → Int} {qs : Nat → Nat} (hW : σ.2 (cBase k + 13) = some (eI k 16 w)) (hw : ∀ i, i < 16 → w i = (wd qs q i : Int)) {n more : Nat} (hn : n ≤ 16) (hmo : more ≤ 6) (S : Ok κ k cX2_allApart 6 RX2 (some .boolean) "allApart" 2 0 0) : ∀ (m a : Nat), a + m = n → (∀ a', a' < a → ∀ b, b < a' → more < popc (wd qs q a' ^^^ wd qs q b)) → V κ k 6 0 0 (QR κ k (fun r σ' => ∃ v, r = some v ∧ (v = .int (iZ (b01 (∀ a, a < n → ∀ b, b < a → more < popc (wd qs q a ^^^ wd qs q b)))) ∧ σ' = σ)) 0 0) 2 [some (.ref (cBase k + 11)), some (.int (iZ (n : Int))), some (.int (iZ (more : Int))), some (.int (iZ (a : Int))), none, none] [] σ := by
  intro m
  induction m with
  | zero =>
    intro a hi
    intro hok
    refine r_iload_n S dX2_allApart_2 rfl ?_
    refine r_iload_n S dX2_allApart_3 rfl ?_
    refine r_icmp_ge S dX2_allApart_4 (tgt := 53) (by decide) ⟨by omega, by omega⟩ ⟨by omega, by omega⟩ (fun h_4 => ?_) (fun h_4 => ?_)
    · refine r_iconst S dX2_allApart_53 ?_
      exact r_zret S dX2_allApart_54 (by omega) (by omega) (by first | exact Or.inl rfl | exact Or.inr rfl | omega) (⟨_, rfl, by rw [b01_t (fun a' ha' => hok a' (by omega))], rfl⟩)
    · omega
  | succ m ih =>
    intro a hi
    intro hok
    refine r_iload_n S dX2_allApart_2 rfl ?_
    refine r_iload_n S dX2_allApart_3 rfl ?_
    refine r_icmp_ge S dX2_allApart_4 (tgt := 53) (by decide) ⟨by omega, by omega⟩ ⟨by omega, by omega⟩ (fun h_4 => ?_) (fun h_4 => ?_)
    · omega
    · refine r_aload_n S dX2_allApart_7 rfl ?_
      refine r_iload_n S dX2_allApart_8 rfl ?_
      refine r_callV S (c_wordOf hC hq hW hw (by omega)) k_mX2_wordOf c_RX2_22_2 dX2_allApart_9 (by decide) ⟨by omega, by omega⟩ (by repeat (first | assumption | exact sUp_same | exact sNew_same | refine sUp_ne (by first | assumption | omega) ?_)) rfl rfl (Nat.le_of_ble_eq_true rfl) (fun r σ' hp => ?_)
      obtain ⟨_, rfl, rfl, rfl⟩ := hp
      try simp only [Option.toList_some, Option.toList_none, List.cons_append, List.nil_append]
      refine r_istore S dX2_allApart_12 rfl (by decide) (lv' := [_, _, _, _, _, _]) rfl ?_
      refine r_iconst S dX2_allApart_14 ?_
      refine r_istore S dX2_allApart_15 rfl (by decide) (lv' := [_, _, _, _, _, _]) rfl ?_
      refine l_allApart1 hC hq hW hw hn hmo S (a := a) (by omega) (fun hnew => ?_) a 0 (by omega) (fun _ h => absurd h (by omega))
      refine r_iinc S dX2_allApart_47 rfl rfl (by decide) (lv' := [_, _, _, _, _, _]) rfl ?_
      refine r_goto S dX2_allApart_50 (tgt := 2) (by decide) ?_
      refine ih (a + 1) (by omega) (fun a' ha' => ?_)
      rcases Nat.lt_or_ge a' a with e | e
      · exact hok a' e
      · rw [show a' = a by omega]; exact hnew

set_option maxRecDepth 100000 in
set_option maxHeartbeats 4000000 in
theorem c_allApart {k : Cx} {L0 : Launch} {σ : St} {q : Nat} (hC : σ.2 (cBase k + 11) = some (oCode k q)) (hq : q ≤ 12) {w : Nat → Int} {qs : Nat → Nat} (hW : σ.2 (cBase k + 13) = some (eI k 16 w)) (hw : ∀ i, i < 16 → w i = (wd qs q i : Int)) {n more : Nat} (hn : n ≤ 16) (hmo : more ≤ 6) : CtrV k L0 mX2_allApart 2 0 0 [.ref (cBase k + 11), .int (iZ (n : Int)), .int (iZ (more : Int))] σ (fun v σ' => v = .int (iZ (b01 (∀ a, a < n → ∀ b, b < a → more < popc (wd qs q a ^^^ wd qs q b)))) ∧ σ' = σ) := by
  refine Ctr.of (by decide +kernel) rfl (Nat.le_of_ble_eq_true rfl) ?_
  intro κ hl0 S
  subst hl0
  refine r_iconst S dX2_allApart_0 ?_
  refine r_istore_n S dX2_allApart_1 rfl (by decide) (lv' := [_, _, _, _, _, _]) rfl ?_
  exact l_allApart hC hq hW hw hn hmo S n 0 (by omega) (fun _ h => absurd h (by omega))

set_option maxRecDepth 100000 in
set_option maxHeartbeats 4000000 in
theorem l_onlyNear {κ : Kx} {k : Cx} {σ : St} {q : Nat} (hC : σ.2 (cBase k + 11) = some (oCode k q)) (hq : q ≤ 12) {w : Nat → Int} {qs : Nat → Nat} (hW : σ.2 (cBase k + 13) = some (eI k 16 w)) (hw : ∀ i, i < 16 → w i = (wd qs q i : Int)) {n most bw : Nat} (hn : n ≤ 16) (hmo : most ≤ 3) (hbw : bw < 4096) (S : Ok κ k cX2_onlyNear 6 RX2 (some .int) "onlyNear" 2 0 0) : ∀ (m i : Nat), i + m = n → ∀ near : Int, (-9 ≤ near ∧ near ≤ 16) → rdF (fun i => decide (popc (bw ^^^ wd qs q i) ≤ most)) m i near = rdF (fun i => decide (popc (bw ^^^ wd qs q i) ≤ most)) n 0 (-9) → V κ k 6 0 0 (QR κ k (fun r σ' => ∃ v, r = some v ∧ (v = .int (iZ (rdF (fun i => decide (popc (bw ^^^ wd qs q i) ≤ most)) n 0 (-9))) ∧ σ' = σ)) 0 0) 7 [some (.ref (cBase k + 11)), some (.int (iZ (bw : Int))), some (.int (iZ (n : Int))), some (.int (iZ (most : Int))), some (.int (iZ near)), some (.int (iZ (i : Int)))] [] σ := by
  intro m
  induction m with
  | zero =>
    intro i hi
    intro near hne hrd
    refine r_iload S dX2_onlyNear_7 rfl ?_
    refine r_iload_n S dX2_onlyNear_9 rfl ?_
    refine r_icmp_ge S dX2_onlyNear_10 (tgt := 48) (by decide) ⟨by omega, by omega⟩ ⟨by omega, by omega⟩ (fun h_10 => ?_) (fun h_10 => ?_)
    · refine r_iload S dX2_onlyNear_48 rfl ?_
      exact r_iret S dX2_onlyNear_50 (by omega) (by omega) (⟨_, rfl, by rw [← hrd]; rfl, rfl⟩)
    · omega
  | succ m ih =>
    intro i hi
    intro near hne hrd
    have hwl := fun i => Nat.lt_of_lt_of_le (wd_lt qs q i) (pw12 hq)
    refine r_iload S dX2_onlyNear_7 rfl ?_
    refine r_iload_n S dX2_onlyNear_9 rfl ?_
    refine r_icmp_ge S dX2_onlyNear_10 (tgt := 48) (by decide) ⟨by omega, by omega⟩ ⟨by omega, by omega⟩ (fun h_10 => ?_) (fun h_10 => ?_)
    · omega
    · refine r_iload_n S dX2_onlyNear_13 rfl ?_
      refine r_aload_n S dX2_onlyNear_14 rfl ?_
      refine r_iload S dX2_onlyNear_15 rfl ?_
      refine r_callV S (c_wordOf hC hq hW hw (by omega)) k_mX2_wordOf c_RX2_22_2 dX2_onlyNear_17 (by decide) ⟨by omega, by omega⟩ (by repeat (first | assumption | exact sUp_same | exact sNew_same | refine sUp_ne (by first | assumption | omega) ?_)) rfl rfl (Nat.le_of_ble_eq_true rfl) (fun r σ' hp => ?_)
      obtain ⟨_, rfl, rfl, rfl⟩ := hp
      try simp only [Option.toList_some, Option.toList_none, List.cons_append, List.nil_append]
      refine r_ixor S dX2_onlyNear_20 (xorZ _ _) ?_
      refine r_callS S (c_bitCount (xor_lt hbw (hwl i))) k_mJ6_bitCount_0f7a4 c_RX2_26 dX2_onlyNear_21 (by decide) ⟨by omega, by omega⟩ rfl rfl (Nat.le_of_ble_eq_true rfl) (fun r σ' hp => ?_)
      obtain ⟨_, rfl, rfl, rfl⟩ := hp
      try simp only [Option.toList_some, Option.toList_none, List.cons_append, List.nil_append]
      have hpl := popc_le (bw ^^^ wd qs q i)
      refine r_iload_n S dX2_onlyNear_24 rfl ?_
      refine r_icmp_gt S dX2_onlyNear_25 (tgt := 42) (by decide) ⟨by omega, by omega⟩ ⟨by omega, by omega⟩ (fun h_25 => ?_) (fun h_25 => ?_)
      · refine r_iinc S dX2_onlyNear_42 rfl rfl (by decide) (lv' := [_, _, _, _, _, _]) rfl ?_
        refine r_goto S dX2_onlyNear_45 (tgt := 7) (by decide) ?_
        first
          | (refine ih (i + 1) (by omega) _ ⟨by omega, by omega⟩ ?_; rw [← hrd, rdF, if_neg (by rw [decide_eq_false (by omega)]; decide)]; done)
          | (refine ih (i + 1) (by omega) _ ⟨by omega, by omega⟩ ?_; rw [← hrd, rdF, if_pos (decide_eq_true (by omega)), if_pos h_32]; done)
      · refine r_iload S dX2_onlyNear_28 rfl ?_
        refine r_bipush S dX2_onlyNear_30 (by decide) ?_
        refine r_icmp_eq S dX2_onlyNear_32 (tgt := 38) (by decide) ⟨by omega, by omega⟩ ⟨by omega, by omega⟩ (fun h_32 => ?_) (fun h_32 => ?_)
        · refine r_iload S dX2_onlyNear_38 rfl ?_
          refine r_istore S dX2_onlyNear_40 rfl (by decide) (lv' := [_, _, _, _, _, _]) rfl ?_
          refine r_iinc S dX2_onlyNear_42 rfl rfl (by decide) (lv' := [_, _, _, _, _, _]) rfl ?_
          refine r_goto S dX2_onlyNear_45 (tgt := 7) (by decide) ?_
          first
            | (refine ih (i + 1) (by omega) _ ⟨by omega, by omega⟩ ?_; rw [← hrd, rdF, if_neg (by rw [decide_eq_false (by omega)]; decide)]; done)
            | (refine ih (i + 1) (by omega) _ ⟨by omega, by omega⟩ ?_; rw [← hrd, rdF, if_pos (decide_eq_true (by omega)), if_pos h_32]; done)
        · refine r_bipush S dX2_onlyNear_35 (by decide) ?_
          exact r_iret S dX2_onlyNear_37 (by omega) (by omega) (⟨_, rfl, by rw [← hrd, rdF, if_pos (decide_eq_true (by omega)), if_neg h_32], rfl⟩)

set_option maxRecDepth 100000 in
set_option maxHeartbeats 4000000 in
theorem c_onlyNear {k : Cx} {L0 : Launch} {σ : St} {q : Nat} (hC : σ.2 (cBase k + 11) = some (oCode k q)) (hq : q ≤ 12) {w : Nat → Int} {qs : Nat → Nat} (hW : σ.2 (cBase k + 13) = some (eI k 16 w)) (hw : ∀ i, i < 16 → w i = (wd qs q i : Int)) {n most bw : Nat} (hn : n ≤ 16) (hmo : most ≤ 3) (hbw : bw < 4096) : CtrV k L0 mX2_onlyNear 2 0 0 [.ref (cBase k + 11), .int (iZ (bw : Int)), .int (iZ (n : Int)), .int (iZ (most : Int))] σ (fun v σ' => v = .int (iZ (rdF (fun i => decide (popc (bw ^^^ wd qs q i) ≤ most)) n 0 (-9))) ∧ σ' = σ) := by
  refine Ctr.of (by decide +kernel) rfl (Nat.le_of_ble_eq_true rfl) ?_
  intro κ hl0 S
  subst hl0
  refine r_bipush S dX2_onlyNear_0 (by decide) ?_
  refine r_istore S dX2_onlyNear_2 rfl (by decide) (lv' := [_, _, _, _, _, _]) rfl ?_
  refine r_iconst S dX2_onlyNear_4 ?_
  refine r_istore S dX2_onlyNear_5 rfl (by decide) (lv' := [_, _, _, _, _, _]) rfl ?_
  exact l_onlyNear hC hq hW hw hn hmo hbw S n 0 (by omega) (-9) ⟨by decide, by decide⟩ rfl

set_option maxRecDepth 100000 in
set_option maxHeartbeats 4000000 in
theorem l_wordOfM {κ : Kx} {k : Cx} {σ : St} {hg kd n e an wt tb tr sk sm : Int} {q : Nat} (hM : σ.2 (cBase k + 14) = some (oModel k hg kd n e an wt tb q tr sk sm)) (hq : q ≤ 12) {qs : Nat → Nat} (hQ : σ.2 (cBase k + 17) = some (eI k 12 (fun j => (qs j : Int)))) (hqs : ∀ j, j < q → qs j < 65536) {x : Nat} (hx : x < 16) (S : Ok κ k cX12_wordOf 4 RX12 (some .int) "wordOf" 1 0 0) : ∀ (m i : Nat), i + m = q → V κ k 4 0 0 (QR κ k (fun r σ' => ∃ v, r = some v ∧ (v = .int (iZ (wd qs q x : Int)) ∧ σ' = σ)) 0 0) 4 [some (.ref (cBase k + 14)), some (.int (iZ (x : Int))), some (.int (iZ (wd qs i x : Int))), some (.int (iZ (i : Int)))] [] σ := by
  intro m
  induction m with
  | zero =>
    intro i hi
    have hin : i = q := by omega
    subst hin
    refine r_iload_n S dX12_wordOf_4 rfl ?_
    refine r_aload_n S dX12_wordOf_5 rfl ?_
    refine r_getf S g_RX12_146_11 dX12_wordOf_6 (by repeat (first | assumption | exact sUp_same | exact sNew_same | refine sUp_ne (by first | assumption | omega) ?_)) rfl ?_
    refine r_icmp_ge S dX12_wordOf_9 (tgt := 33) (by decide) ⟨by omega, by omega⟩ ⟨by omega, by omega⟩ (fun h_9 => ?_) (fun h_9 => ?_)
    · refine r_iload_n S dX12_wordOf_33 rfl ?_
      exact r_iret S dX12_wordOf_34 (by omega) (by omega) (⟨_, rfl, rfl, rfl⟩)
    · omega
  | succ m ih =>
    intro i hi
    have hqi := hqs i (by omega)
    have hb := bt_lt (qs i) x
    refine r_iload_n S dX12_wordOf_4 rfl ?_
    refine r_aload_n S dX12_wordOf_5 rfl ?_
    refine r_getf S g_RX12_146_11 dX12_wordOf_6 (by repeat (first | assumption | exact sUp_same | exact sNew_same | refine sUp_ne (by first | assumption | omega) ?_)) rfl ?_
    refine r_icmp_ge S dX12_wordOf_9 (tgt := 33) (by decide) ⟨by omega, by omega⟩ ⟨by omega, by omega⟩ (fun h_9 => ?_) (fun h_9 => ?_)
    · omega
    · refine r_iload_n S dX12_wordOf_12 rfl ?_
      refine r_aload_n S dX12_wordOf_13 rfl ?_
      refine r_getf S g_RX12_20_11 dX12_wordOf_14 (by repeat (first | assumption | exact sUp_same | exact sNew_same | refine sUp_ne (by first | assumption | omega) ?_)) rfl ?_
      refine r_iload_n S dX12_wordOf_17 rfl ?_
      refine r_ialdN S (i) dX12_wordOf_18 (by repeat (first | assumption | exact sUp_same | exact sNew_same | refine sUp_ne (by first | assumption | omega) ?_)) (by omega) (by omega) (by decide) ?_
      refine r_iload_n S dX12_wordOf_19 rfl ?_
      refine r_ishr S dX12_wordOf_20 (shrZ (by omega) (by omega)) ?_
      refine r_iconst S dX12_wordOf_21 ?_
      refine r_iand S dX12_wordOf_22 (v := iZ ((bt (qs i) x : Nat) : Int)) (and1Z _) ?_
      refine r_iload_n S dX12_wordOf_23 rfl ?_
      refine r_ishl S dX12_wordOf_24 (shlZ (by have h5 := pw12 (show i ≤ 12 by omega); have h6 : bt (qs i) x * 2 ^ i ≤ 1 * 2 ^ i := Nat.mul_le_mul_right _ (by omega); omega) (by omega)) ?_
      refine r_ior S dX12_wordOf_25 (orW (wd_lt qs i x)) ?_
      refine r_istore_n S dX12_wordOf_26 rfl (by decide) (lv' := [_, _, _, _]) rfl ?_
      refine r_iinc S dX12_wordOf_27 rfl rfl (by decide) (lv' := [_, _, _, _]) rfl ?_
      refine r_goto S dX12_wordOf_30 (tgt := 4) (by decide) ?_
      exact ih (i + 1) (by omega)

set_option maxRecDepth 100000 in
set_option maxHeartbeats 4000000 in
theorem c_wordOfM {k : Cx} {L0 : Launch} {σ : St} {hg kd n e an wt tb tr sk sm : Int} {q : Nat} (hM : σ.2 (cBase k + 14) = some (oModel k hg kd n e an wt tb q tr sk sm)) (hq : q ≤ 12) {qs : Nat → Nat} (hQ : σ.2 (cBase k + 17) = some (eI k 12 (fun j => (qs j : Int)))) (hqs : ∀ j, j < q → qs j < 65536) {x : Nat} (hx : x < 16) : CtrV k L0 mX12_wordOf 1 0 0 [.ref (cBase k + 14), .int (iZ (x : Int))] σ (fun v σ' => v = .int (iZ ((wd qs q x : Int))) ∧ σ' = σ) := by
  refine Ctr.of (by decide +kernel) rfl (Nat.le_of_ble_eq_true rfl) ?_
  intro κ hl0 S
  subst hl0
  refine r_iconst S dX12_wordOf_0 ?_
  refine r_istore_n S dX12_wordOf_1 rfl (by decide) (lv' := [_, _, _, _]) rfl ?_
  refine r_iconst S dX12_wordOf_2 ?_
  refine r_istore_n S dX12_wordOf_3 rfl (by decide) (lv' := [_, _, _, _]) rfl ?_
  exact l_wordOfM hM hq hQ hqs hx S q 0 (by omega)

set_option maxRecDepth 100000 in
set_option maxHeartbeats 4000000 in
theorem l_ones {κ : Kx} {k : Cx} {σ : St} {x : Nat} (S : Ok κ k cX12_ones 3 RX12 (some .int) "ones" 1 0 0) : ∀ (m b c : Nat), b < 4096 → popc b = m → c + m = popc x → V κ k 3 0 0 (QR κ k (fun r σ' => ∃ v, r = some v ∧ (v = .int (iZ (popc x : Int)) ∧ σ' = σ)) 0 0) 4 [some (.int (iZ (x : Int))), some (.int (iZ (c : Int))), some (.int (iZ (b : Int)))] [] σ := by
  have hpx := popc_le x
  intro m
  induction m with
  | zero =>
    intro b c hb hm hc
    have hb0 : b = 0 := by
      rcases Nat.eq_zero_or_pos b with e | e
      · exact e
      · have := (popc_step hb (by omega)).1; omega
    have hcc : c = popc x := by omega
    subst hb0; subst hcc
    refine r_iload_n S dX12_ones_4 rfl ?_
    refine r_if_eq S dX12_ones_5 (tgt := 20) (by decide) ⟨by omega, by omega⟩ (fun h_5 => ?_) (fun h_5 => ?_)
    · refine r_iload_n S dX12_ones_20 rfl ?_
      exact r_iret S dX12_ones_21 (by omega) (by omega) (⟨_, rfl, rfl, rfl⟩)
    · omega
  | succ m ih =>
    intro b c hb hm hc
    have hb0 : b ≠ 0 := by intro e; rw [e, popc_0] at hm; omega
    obtain ⟨hs1, hs2⟩ := popc_step hb hb0
    refine r_iload_n S dX12_ones_4 rfl ?_
    refine r_if_eq S dX12_ones_5 (tgt := 20) (by decide) ⟨by omega, by omega⟩ (fun h_5 => ?_) (fun h_5 => ?_)
    · omega
    · refine r_iinc S dX12_ones_8 rfl rfl (by decide) (lv' := [_, _, _]) rfl ?_
      refine r_iload_n S dX12_ones_11 rfl ?_
      refine r_iload_n S dX12_ones_12 rfl ?_
      refine r_iconst S dX12_ones_13 ?_
      refine r_isub S dX12_ones_14 ?_
      refine r_num (z' := ((b - 1 : Nat) : Int)) (by omega) ?_
      refine r_iand S dX12_ones_15 (andZ _ _) ?_
      refine r_istore_n S dX12_ones_16 rfl (by decide) (lv' := [_, _, _]) rfl ?_
      refine r_goto S dX12_ones_17 (tgt := 4) (by decide) ?_
      exact ih (b &&& (b - 1)) (c + 1) hs2 (by omega) (by omega)

set_option maxRecDepth 100000 in
set_option maxHeartbeats 4000000 in
theorem c_ones {k : Cx} {L0 : Launch} {σ : St} {x : Nat} (hx : x < 4096) : CtrV k L0 mX12_ones 1 0 0 [.int (iZ (x : Int))] σ (fun v σ' => v = .int (iZ ((popc x : Int))) ∧ σ' = σ) := by
  refine Ctr.of (by decide +kernel) rfl (Nat.le_of_ble_eq_true rfl) ?_
  intro κ hl0 S
  subst hl0
  refine r_iconst S dX12_ones_0 ?_
  refine r_istore_n S dX12_ones_1 rfl (by decide) (lv' := [_, _, _]) rfl ?_
  refine r_iload_n S dX12_ones_2 rfl ?_
  refine r_istore_n S dX12_ones_3 rfl (by decide) (lv' := [_, _, _]) rfl ?_
  exact l_ones S (popc x) x 0 hx rfl (by omega)

set_option maxRecDepth 100000 in
set_option maxHeartbeats 4000000 in
theorem c_isWordM {k : Cx} {L0 : Launch} {σ : St} {hg kd n e an wt tb tr sk sm : Int} {q : Nat} (hM : σ.2 (cBase k + 14) = some (oModel k hg kd n e an wt tb q tr sk sm)) (hq : q ≤ 12) {x : Int} (hx : zR x) : CtrV k L0 mX12_isWord 2 0 0 [.ref (cBase k + 14), .int (iZ x)] σ (fun v σ' => v = .int (iZ (b01 (0 ≤ x ∧ x ≤ ((2 ^ q : Nat) : Int) - 1))) ∧ σ' = σ) := by
  refine Ctr.of (by decide +kernel) rfl (Nat.le_of_ble_eq_true rfl) ?_
  intro κ hl0 S
  subst hl0
  have hp := pw12 hq
  have hp0 := Nat.two_pow_pos q
  refine r_iload_n S dX12_isWord_0 rfl ?_
  refine r_iconst S dX12_isWord_1 ?_
  refine r_iconst S dX12_isWord_2 ?_
  refine r_aload_n S dX12_isWord_3 rfl ?_
  refine r_getf S g_RX12_146_11 dX12_isWord_4 (by repeat (first | assumption | exact sUp_same | exact sNew_same | refine sUp_ne (by first | assumption | omega) ?_)) rfl ?_
  refine r_ishl S dX12_isWord_7 (v := iZ ((2 ^ q : Nat) : Int)) (by have h9 := shlZ (a := 1) (i := q) (pw1 (by omega)) (by omega); rw [Nat.one_mul] at h9; exact h9) ?_
  refine r_iconst S dX12_isWord_8 ?_
  refine r_isub S dX12_isWord_9 ?_
  refine r_callS S (c_in hx ⟨by decide, by decide⟩ ⟨by omega, by omega⟩) k_mX12_in c_RX12_53 dX12_isWord_10 (by decide) ⟨by omega, by omega⟩ rfl rfl (Nat.le_of_ble_eq_true rfl) (fun r σ' hp => ?_)
  obtain ⟨_, rfl, rfl, rfl⟩ := hp
  try simp only [Option.toList_some, Option.toList_none, List.cons_append, List.nil_append]
  exact r_zret S dX12_isWord_13 (by omega) (by omega) (b01_01 _) (⟨_, rfl, rfl, rfl⟩)
