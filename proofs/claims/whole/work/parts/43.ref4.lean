theorem sub_le {c x : Q4} (h : leQ x c) (hc : c.1 + c.2.1 + c.2.2.1 + c.2.2.2 ≤ 16) : x.1 + x.2.1 + x.2.2.1 + x.2.2.2 + ((subQ c x).1 + (subQ c x).2.1 + (subQ c x).2.2.1 + (subQ c x).2.2.2) ≤ 16 ∧ (subQ c x).1 + (subQ c x).2.1 + (subQ c x).2.2.1 + (subQ c x).2.2.2 + (x.1 + x.2.1 + x.2.2.1 + x.2.2.2) ≤ 16 := by
  obtain ⟨a, b, d, e⟩ := h
  simp only [subQ]
  omega
set_option maxRecDepth 100000 in
set_option maxHeartbeats 4000000 in
theorem l_canDo {κ : Kx} {k : Cx} {σ : St} {hg n e an wt tb q tr sk sm kk0 : Int} (hM : σ.2 (cBase k + 14) = some (oModel k hg kk0 n e an wt tb q tr sk sm)) {R : Nat → Int} (hR : σ.2 (cBase k + 18) = some (eB k 250563 R)) (hRr : ∀ j, 0 ≤ R j ∧ R j ≤ 14) {kd : Nat} (hk : kd < 3) {lev : Int} (hlv : 0 ≤ lev ∧ lev ≤ 13) {c : Q4} (hc16 : c.1 + c.2.1 + c.2.2.1 + c.2.2.2 ≤ 16) {ct : Nat → Int} (hC : σ.2 (cBase k + 22) = some (eI k 4 ct)) (hct : ∀ j, j < 4 → ct j = (qat c j : Int)) (S : Ok κ k cX12_canDo 8 RX12 (some .boolean) "canDo" 3 0 0) : ∀ (m w : Nat), w + m = waysQ c → (∀ w', w' < w → ¬ OKc R kd lev c (dgQ c w')) → ∀ hp bd : Nat → Int, V κ k 8 0 0 (QR κ k (fun r σ' => ∃ v, r = some v ∧ (v = .int (iZ (bP (∃ x, leQ x c ∧ OKc R kd lev c x))) ∧ ∃ hp bd : Nat → Int, σ' = UH k σ hp bd)) 0 0) 32 [some (.ref (cBase k + 14)), some (.int (iZ (kd : Int))), some (.int (iZ lev)), some (.int (iZ ((waysQ c : Nat) : Int))), some (.int (iZ ((w : Int) : Int))), none, none, none] [] (UH k σ hp bd) := by
  have hwl := waysQ_lt hc16
  intro m
  induction m with
  | zero =>
    intro w hw hno hp bd
    refine r_iload S dX12_canDo_32 rfl ?_
    refine r_iload_n S dX12_canDo_34 rfl ?_
    refine r_icmp_ge S dX12_canDo_35 (tgt := 172) (by decide) ⟨by omega, by omega⟩ ⟨by omega, by omega⟩ (fun h_35 => ?_) (fun h_35 => ?_)
    · refine r_iconst S dX12_canDo_172 ?_
      exact r_zret S dX12_canDo_173 (by omega) (by omega) (by first | exact Or.inl rfl | exact Or.inr rfl | omega) (⟨_, rfl, by rw [bP_f (fun hz => by obtain ⟨x, hx, hx2⟩ := hz; obtain ⟨w9, hw9, rfl⟩ := dgQ_surj hx; exact hno w9 (by omega) hx2)], hp, bd, rfl⟩)
    · omega
  | succ m ih =>
    intro w hw hno hp bd
    have hdl := dgQ_le c w
    obtain ⟨ht1, ht2⟩ := sub_le hdl hc16
    have hxq : ∀ j, qat (dgQ c w) j ≤ 16 := qat_tot (by omega)
    have huq : ∀ j, qat (subQ c (dgQ c w)) j ≤ 16 := qat_tot (by omega)
    have hpy := pos_lt (qat_tot (bh_tot (cyK_rng kd) ht1))
    have hpn := pos_lt (qat_tot (bh_tot (cnK_rng kd) ht2))
    refine r_iload S dX12_canDo_32 rfl ?_
    refine r_iload_n S dX12_canDo_34 rfl ?_
    refine r_icmp_ge S dX12_canDo_35 (tgt := 172) (by decide) ⟨by omega, by omega⟩ ⟨by omega, by omega⟩ (fun h_35 => ?_) (fun h_35 => ?_)
    · omega
    · refine r_iload S dX12_canDo_38 rfl ?_
      refine r_istore S dX12_canDo_40 rfl (by decide) (lv' := [_, _, _, _, _, _, _, _]) rfl ?_
      refine r_iconst S dX12_canDo_42 ?_
      refine r_istore S dX12_canDo_43 rfl (by decide) (lv' := [_, _, _, _, _, _, _, _]) rfl ?_
      refine s_dg0 hM hR hRr hk hlv hc16 hC hct (by omega) (fun hp2 bd2 g1 g2 => ?_) S hp bd (fun _ h8 => absurd h8 (by omega)) (fun _ h8 => absurd h8 (by omega))
      refine r_iload_n S dX12_canDo_112 rfl ?_
      refine r_iconst S dX12_canDo_113 ?_
      refine r_aload_n S dX12_canDo_114 rfl ?_
      refine r_getf S g_RX12_34_11 dX12_canDo_115 (by first | assumption | exact UH_H | exact UH_B | exact UH_at (by omega) (by omega) (by assumption)) rfl ?_
      refine r_aload_n S dX12_canDo_118 rfl ?_
      refine r_getf S g_RX12_37_11 dX12_canDo_119 (by first | assumption | exact UH_H | exact UH_B | exact UH_at (by omega) (by omega) (by assumption)) rfl ?_
      refine r_callS S (c_behind (y := 1) hk (by decide) (cost_y hk).1 (cost_y hk).2 UH_H UH_B g1 g2 hxq huq) k_mX12_behind c_RX12_69 dX12_canDo_122 (by decide) ⟨by omega, by omega⟩ rfl rfl (Nat.le_of_ble_eq_true rfl) (fun r σ' hp => ?_)
      obtain ⟨_, rfl, rfl, rfl⟩ := hp
      try simp only [Option.toList_some, Option.toList_none, List.cons_append, List.nil_append]
      rw [pos_y hk]
      refine r_istore S dX12_canDo_125 rfl (by decide) (lv' := [_, _, _, _, _, _, _, _]) rfl ?_
      refine r_iload_n S dX12_canDo_127 rfl ?_
      refine r_iconst S dX12_canDo_128 ?_
      refine r_aload_n S dX12_canDo_129 rfl ?_
      refine r_getf S g_RX12_34_11 dX12_canDo_130 (by first | assumption | exact UH_H | exact UH_B | exact UH_at (by omega) (by omega) (by assumption)) rfl ?_
      refine r_aload_n S dX12_canDo_133 rfl ?_
      refine r_getf S g_RX12_37_11 dX12_canDo_134 (by first | assumption | exact UH_H | exact UH_B | exact UH_at (by omega) (by omega) (by assumption)) rfl ?_
      refine r_callS S (c_behind (y := 0) hk (by decide) (cost_n hk).2 (cost_n hk).1 UH_H UH_B g1 g2 hxq huq) k_mX12_behind c_RX12_69 dX12_canDo_137 (by decide) ⟨by omega, by omega⟩ rfl rfl (Nat.le_of_ble_eq_true rfl) (fun r σ' hp => ?_)
      obtain ⟨_, rfl, rfl, rfl⟩ := hp
      try simp only [Option.toList_some, Option.toList_none, List.cons_append, List.nil_append]
      rw [pos_n hk]
      refine r_istore S dX12_canDo_140 rfl (by decide) (lv' := [_, _, _, _, _, _, _, _]) rfl ?_
      refine r_aload_n S dX12_canDo_142 rfl ?_
      refine r_iload_n S dX12_canDo_143 rfl ?_
      refine r_iload S dX12_canDo_144 rfl ?_
      refine r_iload_n S dX12_canDo_146 rfl ?_
      refine r_callV S (c_isWithin (UH_at (by omega) (by omega) hM) (UH_at (by omega) (by omega) hR) hRr hk hpy hlv) k_mX12_isWithin c_RX12_73_11 dX12_canDo_147 (by decide) ⟨by omega, by omega⟩ (by first | assumption | exact UH_H | exact UH_B | exact UH_at (by omega) (by omega) (by assumption)) rfl rfl (Nat.le_of_ble_eq_true rfl) (fun r σ' hp => ?_)
      obtain ⟨_, rfl, rfl, rfl⟩ := hp
      try simp only [Option.toList_some, Option.toList_none, List.cons_append, List.nil_append]
      refine r_if_eq S dX12_canDo_150 (tgt := 166) (by decide) (bP_R _) (fun h_150 => ?_) (fun h_150 => ?_)
      · rw [bP_z] at h_150
        refine r_iinc S dX12_canDo_166 rfl rfl (by decide) (lv' := [_, _, _, _, _, _, _, _]) rfl ?_
        refine r_goto S dX12_canDo_169 (tgt := 32) (by decide) ?_
        refine V.mask [true, true, true, true, true, false, false, false] (lv' := [_, _, _, _, _, none, none, none]) rfl ?_
        refine ih (w + 1) (by omega) (fun w' hw' => ?_) hp2 bd2
        rcases Nat.lt_or_ge w' w with e9 | e9
        · exact hno w' e9
        · rw [show w' = w by omega]
          first | exact fun hz => h_150 hz.1 | exact fun hz => h_161 hz.2
      · have h_150 := Classical.not_not.mp (fun h8 => h_150 ((bP_z _).mpr h8))
        refine r_aload_n S dX12_canDo_153 rfl ?_
        refine r_iload_n S dX12_canDo_154 rfl ?_
        refine r_iload S dX12_canDo_155 rfl ?_
        refine r_iload_n S dX12_canDo_157 rfl ?_
        refine r_callV S (c_isWithin (UH_at (by omega) (by omega) hM) (UH_at (by omega) (by omega) hR) hRr hk hpn hlv) k_mX12_isWithin c_RX12_73_11 dX12_canDo_158 (by decide) ⟨by omega, by omega⟩ (by first | assumption | exact UH_H | exact UH_B | exact UH_at (by omega) (by omega) (by assumption)) rfl rfl (Nat.le_of_ble_eq_true rfl) (fun r σ' hp => ?_)
        obtain ⟨_, rfl, rfl, rfl⟩ := hp
        try simp only [Option.toList_some, Option.toList_none, List.cons_append, List.nil_append]
        refine r_if_eq S dX12_canDo_161 (tgt := 166) (by decide) (bP_R _) (fun h_161 => ?_) (fun h_161 => ?_)
        · rw [bP_z] at h_161
          refine r_iinc S dX12_canDo_166 rfl rfl (by decide) (lv' := [_, _, _, _, _, _, _, _]) rfl ?_
          refine r_goto S dX12_canDo_169 (tgt := 32) (by decide) ?_
          refine V.mask [true, true, true, true, true, false, false, false] (lv' := [_, _, _, _, _, none, none, none]) rfl ?_
          refine ih (w + 1) (by omega) (fun w' hw' => ?_) hp2 bd2
          rcases Nat.lt_or_ge w' w with e9 | e9
          · exact hno w' e9
          · rw [show w' = w by omega]
            first | exact fun hz => h_150 hz.1 | exact fun hz => h_161 hz.2
        · have h_161 := Classical.not_not.mp (fun h8 => h_161 ((bP_z _).mpr h8))
          refine r_iconst S dX12_canDo_164 ?_
          exact r_zret S dX12_canDo_165 (by omega) (by omega) (by first | exact Or.inl rfl | exact Or.inr rfl | omega) (⟨_, rfl, by rw [bP_t ⟨dgQ c w, hdl, h_150, h_161⟩], hp2, bd2, rfl⟩)

set_option maxRecDepth 100000 in
set_option maxHeartbeats 4000000 in
theorem s_wy4 {κ : Kx} {k : Cx} {σ : St} {hg n e an wt tb q tr sk sm kk0 : Int} (hM : σ.2 (cBase k + 14) = some (oModel k hg kk0 n e an wt tb q tr sk sm)) {R : Nat → Int} (hR : σ.2 (cBase k + 18) = some (eB k 250563 R)) (hRr : ∀ j, 0 ≤ R j ∧ R j ≤ 14) {kd : Nat} (hk : kd < 3) {lev : Int} (hlv : 0 ≤ lev ∧ lev ≤ 13) {c : Q4} (hc16 : c.1 + c.2.1 + c.2.2.1 + c.2.2.2 ≤ 16) {ct : Nat → Int} (hC : σ.2 (cBase k + 22) = some (eI k 4 ct)) (hct : ∀ j, j < 4 → ct j = (qat c j : Int)) {hp0 bd0 : Nat → Int} (hH : σ.2 (cBase k + 20) = some (eI k 4 hp0)) (hB : σ.2 (cBase k + 21) = some (eI k 4 bd0)) (S : Ok κ k cX12_canDo 8 RX12 (some .boolean) "canDo" 3 0 0) : V κ k 8 0 0 (QR κ k (fun r σ' => ∃ v, r = some v ∧ (v = .int (iZ (bP (∃ x, leQ x c ∧ OKc R kd lev c x))) ∧ ∃ hp bd : Nat → Int, σ' = UH k σ hp bd)) 0 0) 5 [some (.ref (cBase k + 14)), some (.int (iZ (kd : Int))), some (.int (iZ lev)), some (.int (iZ ((1 * (c.1 + 1) * (c.2.1 + 1) * (c.2.2.1 + 1) * (c.2.2.2 + 1) : Nat) : Int))), some (.int (iZ (4 : Int))), none, none, none] [] σ := by
  have hwl := waysQ_lt hc16
  refine r_iload S dX12_canDo_5 rfl ?_
  refine r_iconst S dX12_canDo_7 ?_
  refine r_icmp_ge S dX12_canDo_8 (tgt := 29) (by decide) ⟨by omega, by omega⟩ ⟨by omega, by omega⟩ (fun h_8 => ?_) (fun h_8 => ?_)
  · refine r_iconst S dX12_canDo_29 ?_
    refine r_istore S dX12_canDo_30 rfl (by decide) (lv' := [_, _, _, _, _, _, _, _]) rfl ?_
    have h9 := l_canDo hM hR hRr hk hlv hc16 hC hct S (waysQ c) 0 (by omega) (fun _ h8 => absurd h8 (by omega)) hp0 bd0
    rw [UH_id hH hB] at h9
    rw [show 1 * (c.1 + 1) * (c.2.1 + 1) * (c.2.2.1 + 1) * (c.2.2.2 + 1) = waysQ c by unfold waysQ; rw [Nat.one_mul]]
    exact h9
  · omega

set_option maxRecDepth 100000 in
set_option maxHeartbeats 4000000 in
theorem s_wy3 {κ : Kx} {k : Cx} {σ : St} {hg n e an wt tb q tr sk sm kk0 : Int} (hM : σ.2 (cBase k + 14) = some (oModel k hg kk0 n e an wt tb q tr sk sm)) {R : Nat → Int} (hR : σ.2 (cBase k + 18) = some (eB k 250563 R)) (hRr : ∀ j, 0 ≤ R j ∧ R j ≤ 14) {kd : Nat} (hk : kd < 3) {lev : Int} (hlv : 0 ≤ lev ∧ lev ≤ 13) {c : Q4} (hc16 : c.1 + c.2.1 + c.2.2.1 + c.2.2.2 ≤ 16) {ct : Nat → Int} (hC : σ.2 (cBase k + 22) = some (eI k 4 ct)) (hct : ∀ j, j < 4 → ct j = (qat c j : Int)) {hp0 bd0 : Nat → Int} (hH : σ.2 (cBase k + 20) = some (eI k 4 hp0)) (hB : σ.2 (cBase k + 21) = some (eI k 4 bd0)) (S : Ok κ k cX12_canDo 8 RX12 (some .boolean) "canDo" 3 0 0) : V κ k 8 0 0 (QR κ k (fun r σ' => ∃ v, r = some v ∧ (v = .int (iZ (bP (∃ x, leQ x c ∧ OKc R kd lev c x))) ∧ ∃ hp bd : Nat → Int, σ' = UH k σ hp bd)) 0 0) 5 [some (.ref (cBase k + 14)), some (.int (iZ (kd : Int))), some (.int (iZ lev)), some (.int (iZ ((1 * (c.1 + 1) * (c.2.1 + 1) * (c.2.2.1 + 1) : Nat) : Int))), some (.int (iZ (3 : Int))), none, none, none] [] σ := by
  have hctI : ct 3 = ((c.2.2.2 : Nat) : Int) := hct 3 (by decide)
  refine r_iload S dX12_canDo_5 rfl ?_
  refine r_iconst S dX12_canDo_7 ?_
  refine r_icmp_ge S dX12_canDo_8 (tgt := 29) (by decide) ⟨by omega, by omega⟩ ⟨by omega, by omega⟩ (fun h_8 => ?_) (fun h_8 => ?_)
  · omega
  · refine r_iload_n S dX12_canDo_11 rfl ?_
    refine r_aload_n S dX12_canDo_12 rfl ?_
    refine r_getf S g_RX12_40_11 dX12_canDo_13 (by repeat (first | assumption | exact sUp_same | exact sNew_same | refine sUp_ne (by first | assumption | omega) ?_)) rfl ?_
    refine r_iload S dX12_canDo_16 rfl ?_
    refine r_ialdN S (3) dX12_canDo_18 (by repeat (first | assumption | exact sUp_same | exact sNew_same | refine sUp_ne (by first | assumption | omega) ?_)) (by rfl) (by omega) (by decide) ?_
    rw [hctI]
    refine r_iconst S dX12_canDo_19 ?_
    refine r_iadd S dX12_canDo_20 ?_
    refine r_imul S dX12_canDo_21 ?_
    refine r_num (z' := ((1 * (c.1 + 1) * (c.2.1 + 1) * (c.2.2.1 + 1) * (c.2.2.2 + 1) : Nat) : Int)) (by rw [Int.natCast_mul, Int.natCast_add]; rfl) ?_
    refine r_istore_n S dX12_canDo_22 rfl (by decide) (lv' := [_, _, _, _, _, _, _, _]) rfl ?_
    refine r_iinc S dX12_canDo_23 rfl rfl (by decide) (lv' := [_, _, _, _, _, _, _, _]) rfl ?_
    refine r_goto S dX12_canDo_26 (tgt := 5) (by decide) ?_
    exact s_wy4 hM hR hRr hk hlv hc16 hC hct hH hB S

set_option maxRecDepth 100000 in
set_option maxHeartbeats 4000000 in
theorem s_wy2 {κ : Kx} {k : Cx} {σ : St} {hg n e an wt tb q tr sk sm kk0 : Int} (hM : σ.2 (cBase k + 14) = some (oModel k hg kk0 n e an wt tb q tr sk sm)) {R : Nat → Int} (hR : σ.2 (cBase k + 18) = some (eB k 250563 R)) (hRr : ∀ j, 0 ≤ R j ∧ R j ≤ 14) {kd : Nat} (hk : kd < 3) {lev : Int} (hlv : 0 ≤ lev ∧ lev ≤ 13) {c : Q4} (hc16 : c.1 + c.2.1 + c.2.2.1 + c.2.2.2 ≤ 16) {ct : Nat → Int} (hC : σ.2 (cBase k + 22) = some (eI k 4 ct)) (hct : ∀ j, j < 4 → ct j = (qat c j : Int)) {hp0 bd0 : Nat → Int} (hH : σ.2 (cBase k + 20) = some (eI k 4 hp0)) (hB : σ.2 (cBase k + 21) = some (eI k 4 bd0)) (S : Ok κ k cX12_canDo 8 RX12 (some .boolean) "canDo" 3 0 0) : V κ k 8 0 0 (QR κ k (fun r σ' => ∃ v, r = some v ∧ (v = .int (iZ (bP (∃ x, leQ x c ∧ OKc R kd lev c x))) ∧ ∃ hp bd : Nat → Int, σ' = UH k σ hp bd)) 0 0) 5 [some (.ref (cBase k + 14)), some (.int (iZ (kd : Int))), some (.int (iZ lev)), some (.int (iZ ((1 * (c.1 + 1) * (c.2.1 + 1) : Nat) : Int))), some (.int (iZ (2 : Int))), none, none, none] [] σ := by
  have hctI : ct 2 = ((c.2.2.1 : Nat) : Int) := hct 2 (by decide)
  refine r_iload S dX12_canDo_5 rfl ?_
  refine r_iconst S dX12_canDo_7 ?_
  refine r_icmp_ge S dX12_canDo_8 (tgt := 29) (by decide) ⟨by omega, by omega⟩ ⟨by omega, by omega⟩ (fun h_8 => ?_) (fun h_8 => ?_)
  · omega
  · refine r_iload_n S dX12_canDo_11 rfl ?_
    refine r_aload_n S dX12_canDo_12 rfl ?_
    refine r_getf S g_RX12_40_11 dX12_canDo_13 (by repeat (first | assumption | exact sUp_same | exact sNew_same | refine sUp_ne (by first | assumption | omega) ?_)) rfl ?_
    refine r_iload S dX12_canDo_16 rfl ?_
    refine r_ialdN S (2) dX12_canDo_18 (by repeat (first | assumption | exact sUp_same | exact sNew_same | refine sUp_ne (by first | assumption | omega) ?_)) (by rfl) (by omega) (by decide) ?_
    rw [hctI]
    refine r_iconst S dX12_canDo_19 ?_
    refine r_iadd S dX12_canDo_20 ?_
    refine r_imul S dX12_canDo_21 ?_
    refine r_num (z' := ((1 * (c.1 + 1) * (c.2.1 + 1) * (c.2.2.1 + 1) : Nat) : Int)) (by rw [Int.natCast_mul, Int.natCast_add]; rfl) ?_
    refine r_istore_n S dX12_canDo_22 rfl (by decide) (lv' := [_, _, _, _, _, _, _, _]) rfl ?_
    refine r_iinc S dX12_canDo_23 rfl rfl (by decide) (lv' := [_, _, _, _, _, _, _, _]) rfl ?_
    refine r_goto S dX12_canDo_26 (tgt := 5) (by decide) ?_
    exact s_wy3 hM hR hRr hk hlv hc16 hC hct hH hB S

set_option maxRecDepth 100000 in
set_option maxHeartbeats 4000000 in
theorem s_wy1 {κ : Kx} {k : Cx} {σ : St} {hg n e an wt tb q tr sk sm kk0 : Int} (hM : σ.2 (cBase k + 14) = some (oModel k hg kk0 n e an wt tb q tr sk sm)) {R : Nat → Int} (hR : σ.2 (cBase k + 18) = some (eB k 250563 R)) (hRr : ∀ j, 0 ≤ R j ∧ R j ≤ 14) {kd : Nat} (hk : kd < 3) {lev : Int} (hlv : 0 ≤ lev ∧ lev ≤ 13) {c : Q4} (hc16 : c.1 + c.2.1 + c.2.2.1 + c.2.2.2 ≤ 16) {ct : Nat → Int} (hC : σ.2 (cBase k + 22) = some (eI k 4 ct)) (hct : ∀ j, j < 4 → ct j = (qat c j : Int)) {hp0 bd0 : Nat → Int} (hH : σ.2 (cBase k + 20) = some (eI k 4 hp0)) (hB : σ.2 (cBase k + 21) = some (eI k 4 bd0)) (S : Ok κ k cX12_canDo 8 RX12 (some .boolean) "canDo" 3 0 0) : V κ k 8 0 0 (QR κ k (fun r σ' => ∃ v, r = some v ∧ (v = .int (iZ (bP (∃ x, leQ x c ∧ OKc R kd lev c x))) ∧ ∃ hp bd : Nat → Int, σ' = UH k σ hp bd)) 0 0) 5 [some (.ref (cBase k + 14)), some (.int (iZ (kd : Int))), some (.int (iZ lev)), some (.int (iZ ((1 * (c.1 + 1) : Nat) : Int))), some (.int (iZ (1 : Int))), none, none, none] [] σ := by
  have hctI : ct 1 = ((c.2.1 : Nat) : Int) := hct 1 (by decide)
  refine r_iload S dX12_canDo_5 rfl ?_
  refine r_iconst S dX12_canDo_7 ?_
  refine r_icmp_ge S dX12_canDo_8 (tgt := 29) (by decide) ⟨by omega, by omega⟩ ⟨by omega, by omega⟩ (fun h_8 => ?_) (fun h_8 => ?_)
  · omega
  · refine r_iload_n S dX12_canDo_11 rfl ?_
    refine r_aload_n S dX12_canDo_12 rfl ?_
    refine r_getf S g_RX12_40_11 dX12_canDo_13 (by repeat (first | assumption | exact sUp_same | exact sNew_same | refine sUp_ne (by first | assumption | omega) ?_)) rfl ?_
    refine r_iload S dX12_canDo_16 rfl ?_
    refine r_ialdN S (1) dX12_canDo_18 (by repeat (first | assumption | exact sUp_same | exact sNew_same | refine sUp_ne (by first | assumption | omega) ?_)) (by rfl) (by omega) (by decide) ?_
    rw [hctI]
    refine r_iconst S dX12_canDo_19 ?_
    refine r_iadd S dX12_canDo_20 ?_
    refine r_imul S dX12_canDo_21 ?_
    refine r_num (z' := ((1 * (c.1 + 1) * (c.2.1 + 1) : Nat) : Int)) (by rw [Int.natCast_mul, Int.natCast_add]; rfl) ?_
    refine r_istore_n S dX12_canDo_22 rfl (by decide) (lv' := [_, _, _, _, _, _, _, _]) rfl ?_
    refine r_iinc S dX12_canDo_23 rfl rfl (by decide) (lv' := [_, _, _, _, _, _, _, _]) rfl ?_
    refine r_goto S dX12_canDo_26 (tgt := 5) (by decide) ?_
    exact s_wy2 hM hR hRr hk hlv hc16 hC hct hH hB S

set_option maxRecDepth 100000 in
set_option maxHeartbeats 4000000 in
theorem s_wy0 {κ : Kx} {k : Cx} {σ : St} {hg n e an wt tb q tr sk sm kk0 : Int} (hM : σ.2 (cBase k + 14) = some (oModel k hg kk0 n e an wt tb q tr sk sm)) {R : Nat → Int} (hR : σ.2 (cBase k + 18) = some (eB k 250563 R)) (hRr : ∀ j, 0 ≤ R j ∧ R j ≤ 14) {kd : Nat} (hk : kd < 3) {lev : Int} (hlv : 0 ≤ lev ∧ lev ≤ 13) {c : Q4} (hc16 : c.1 + c.2.1 + c.2.2.1 + c.2.2.2 ≤ 16) {ct : Nat → Int} (hC : σ.2 (cBase k + 22) = some (eI k 4 ct)) (hct : ∀ j, j < 4 → ct j = (qat c j : Int)) {hp0 bd0 : Nat → Int} (hH : σ.2 (cBase k + 20) = some (eI k 4 hp0)) (hB : σ.2 (cBase k + 21) = some (eI k 4 bd0)) (S : Ok κ k cX12_canDo 8 RX12 (some .boolean) "canDo" 3 0 0) : V κ k 8 0 0 (QR κ k (fun r σ' => ∃ v, r = some v ∧ (v = .int (iZ (bP (∃ x, leQ x c ∧ OKc R kd lev c x))) ∧ ∃ hp bd : Nat → Int, σ' = UH k σ hp bd)) 0 0) 5 [some (.ref (cBase k + 14)), some (.int (iZ (kd : Int))), some (.int (iZ lev)), some (.int (iZ ((1 : Nat) : Int))), some (.int (iZ (0 : Int))), none, none, none] [] σ := by
  have hctI : ct 0 = ((c.1 : Nat) : Int) := hct 0 (by decide)
  refine r_iload S dX12_canDo_5 rfl ?_
  refine r_iconst S dX12_canDo_7 ?_
  refine r_icmp_ge S dX12_canDo_8 (tgt := 29) (by decide) ⟨by omega, by omega⟩ ⟨by omega, by omega⟩ (fun h_8 => ?_) (fun h_8 => ?_)
  · omega
  · refine r_iload_n S dX12_canDo_11 rfl ?_
    refine r_aload_n S dX12_canDo_12 rfl ?_
    refine r_getf S g_RX12_40_11 dX12_canDo_13 (by repeat (first | assumption | exact sUp_same | exact sNew_same | refine sUp_ne (by first | assumption | omega) ?_)) rfl ?_
    refine r_iload S dX12_canDo_16 rfl ?_
    refine r_ialdN S (0) dX12_canDo_18 (by repeat (first | assumption | exact sUp_same | exact sNew_same | refine sUp_ne (by first | assumption | omega) ?_)) (by rfl) (by omega) (by decide) ?_
    rw [hctI]
    refine r_iconst S dX12_canDo_19 ?_
    refine r_iadd S dX12_canDo_20 ?_
    refine r_imul S dX12_canDo_21 ?_
    refine r_num (z' := ((1 * (c.1 + 1) : Nat) : Int)) (by rw [Int.natCast_mul, Int.natCast_add]; rfl) ?_
    refine r_istore_n S dX12_canDo_22 rfl (by decide) (lv' := [_, _, _, _, _, _, _, _]) rfl ?_
    refine r_iinc S dX12_canDo_23 rfl rfl (by decide) (lv' := [_, _, _, _, _, _, _, _]) rfl ?_
    refine r_goto S dX12_canDo_26 (tgt := 5) (by decide) ?_
    exact s_wy1 hM hR hRr hk hlv hc16 hC hct hH hB S

set_option maxRecDepth 100000 in
set_option maxHeartbeats 4000000 in
theorem c_canDo {k : Cx} {L0 : Launch} {σ : St} {hg n e an wt tb q tr sk sm kk0 : Int} (hM : σ.2 (cBase k + 14) = some (oModel k hg kk0 n e an wt tb q tr sk sm)) {R : Nat → Int} (hR : σ.2 (cBase k + 18) = some (eB k 250563 R)) (hRr : ∀ j, 0 ≤ R j ∧ R j ≤ 14) {kd : Nat} (hk : kd < 3) {lev : Int} (hlv : 0 ≤ lev ∧ lev ≤ 13) {c : Q4} (hc16 : c.1 + c.2.1 + c.2.2.1 + c.2.2.2 ≤ 16) {ct : Nat → Int} (hC : σ.2 (cBase k + 22) = some (eI k 4 ct)) (hct : ∀ j, j < 4 → ct j = (qat c j : Int)) {hp0 bd0 : Nat → Int} (hH : σ.2 (cBase k + 20) = some (eI k 4 hp0)) (hB : σ.2 (cBase k + 21) = some (eI k 4 bd0)) : CtrV k L0 mX12_canDo 3 0 0 [.ref (cBase k + 14), .int (iZ (kd : Int)), .int (iZ lev)] σ (fun v σ' => v = .int (iZ (bP (∃ x, leQ x c ∧ OKc R kd lev c x))) ∧ ∃ hp bd : Nat → Int, σ' = UH k σ hp bd) := by
  refine Ctr.of (by decide +kernel) rfl (Nat.le_of_ble_eq_true rfl) ?_
  intro κ hl0 S
  subst hl0
  refine r_iconst S dX12_canDo_0 ?_
  refine r_istore_n S dX12_canDo_1 rfl (by decide) (lv' := [_, _, _, _, _, _, _, _]) rfl ?_
  refine r_iconst S dX12_canDo_2 ?_
  refine r_istore S dX12_canDo_3 rfl (by decide) (lv' := [_, _, _, _, _, _, _, _]) rfl ?_
  exact s_wy0 hM hR hRr hk hlv hc16 hC hct hH hB S
