/-! play -/
def rowU (Ls : Nat → Nat → Int) (a : Nat) (r : Nat → Int) : Nat → Nat → Int := fun b i => if b = a then r i else Ls b i
theorem rowU_eq {Ls : Nat → Nat → Int} {a : Nat} {r : Nat → Int} : rowU Ls a r a = r := by funext i; exact if_pos rfl
theorem rowU_ne {Ls : Nat → Nat → Int} {a b : Nat} {r : Nat → Int} (h : b ≠ a) : rowU Ls a r b = Ls b := by funext i; exact if_neg h
/-- how play goes: from question d on, m left -/
def plGo (kd n : Nat) (qs : Nat → Nat) (w : Nat) : Nat → Nat → Nat → (Nat → Nat → Int) → Nat × Nat × (Nat → Nat → Int)
  | 0, d, an, Ls => (d, an, Ls)
  | m + 1, d, an, Ls => if cnt (fun j => decide (nv (Ls an) kd (qs d % 2 ^ n) (bt w d) j ≠ -1)) n = 0 ∨ 60 ≤ an then (d, an, Ls) else plGo kd n qs w m (d + 1) (an + 1) (rowU Ls (an + 1) (nv (Ls an) kd (qs d % 2 ^ n) (bt w d)))
def GmY (k : Cx) (σ : St) (kd n e an : Nat) (wt : Int) (Ls : Nat → Nat → Int) : Prop := σ.2 (cBase k + 9) = some (oGame k 1 kd n e an wt (costK kd 1 0) (costK kd 0 1)) ∧ ∃ f : Nat → Int, σ.2 (cBase k + 10) = some (eI k 992 f) ∧ (∀ j, -1 ≤ f j ∧ f j ≤ 3) ∧ ∀ a, a ≤ an → ∀ i, i < n → f (a * 16 + i) = Ls a i
def FrP (k : Cx) (σ σ' : St) : Prop := σ'.1 = σ.1 ∧ ∀ a, a ≠ cBase k + 9 → a ≠ cBase k + 10 → σ'.2 a = σ.2 a
theorem GmX.y {k : Cx} {σ : St} {kd n e an : Nat} {wt : Int} {Ls : Nat → Nat → Int} (h : GmX k σ 1 kd n e an wt Ls) : GmY k σ kd n e an wt Ls := by
  obtain ⟨⟨yp, np, h1, h2⟩, h3⟩ := h
  obtain ⟨rfl, rfl⟩ := h2 rfl
  exact ⟨h1, h3⟩
theorem GmY.x {k : Cx} {σ : St} {kd n e an : Nat} {wt : Int} {Ls : Nat → Nat → Int} (h : GmY k σ kd n e an wt Ls) : GmX k σ 1 kd n e an wt Ls := ⟨⟨_, _, h.1, fun _ => ⟨rfl, rfl⟩⟩, h.2⟩
/-- an answer that is not taken lays a row behind alone -/
theorem rows_low {f : Nat → Int} {an n kd h y : Nat} {Ls : Nat → Nat → Int} (hr : ∀ a, a ≤ an → ∀ i, i < n → f (a * 16 + i) = Ls a i) (hn : n ≤ 16) : ∀ a, a ≤ an → ∀ i, i < n → layF f an (costK kd 1 0) (costK kd 0 1) h y n (a * 16 + i) = Ls a i := fun a ha i hi => (layF_low (by omega)).trans (hr a ha i hi)
theorem rows_up {f : Nat → Int} {an n kd h y : Nat} {Ls : Nat → Nat → Int} (hr : ∀ a, a ≤ an → ∀ i, i < n → f (a * 16 + i) = Ls a i) (hn : n ≤ 16) (hy : y < 2) : ∀ a, a ≤ an + 1 → ∀ i, i < n → layF f an (costK kd 1 0) (costK kd 0 1) h y n (a * 16 + i) = rowU Ls (an + 1) (nv (Ls an) kd h y) a i := by
  intro a ha i hi
  by_cases e : a = an + 1
  · subst e
    rw [rowU_eq, show (an + 1) * 16 + i = an * 16 + 16 + i by omega, layF_in hi]
    exact newL_nv (fun i hi => hr an (Nat.le_refl _) i hi) hy hi
  · rw [rowU_ne e]
    exact (layF_low (by omega)).trans (hr a (by omega) i hi)
theorem c_reply0 {k : Cx} {L0 : Launch} {σ : St} {wt : Int} {kd n e an : Nat} {Ls : Nat → Nat → Int} (hY : GmY k σ kd n e an wt Ls) (hkd : kd < 3) (han : an ≤ 60) (hn : n ≤ 16) {heap y : Nat} (hh : heap < 65536) (hy : y < 2) (hc : cnt (fun j => decide (nv (Ls an) kd heap y j ≠ -1)) n = 0 ∨ 60 ≤ an) : CtrV k L0 mX3_reply 4 0 0 [.ref (cBase k + 9), .int (iZ (heap : Int)), .int (iZ (y : Int))] σ (fun v σ' => ∃ z : Int, (z = -2 ∨ z = -3) ∧ (cnt (fun j => decide (nv (Ls an) kd heap y j ≠ -1)) n = 0 → z = -2) ∧ (cnt (fun j => decide (nv (Ls an) kd heap y j ≠ -1)) n ≠ 0 → z = -3) ∧ v = .int (iZ z) ∧ GmY k σ' kd n e an wt Ls ∧ FrP k σ σ') := by
  obtain ⟨h1, f, h2, h3, h4⟩ := hY
  have hcn := cnt_newL (kd := kd) (h := heap) (fun i hi => h4 an (Nat.le_refl _) i hi) hy
  have hY' : GmY k (sUp σ (cBase k + 10) (eI k 992 (layF f an (costK kd 1 0) (costK kd 0 1) heap y n))) kd n e an wt Ls := ⟨sUp_ne (by omega) h1, _, sUp_same, layF_rng h3 (costK_rng kd 1 0) (costK_rng kd 0 1) heap y n, rows_low h4 hn⟩
  have hF' : FrP k σ (sUp σ (cBase k + 10) (eI k 992 (layF f an (costK kd 1 0) (costK kd 0 1) heap y n))) := ⟨rfl, fun a _ ha => if_neg ha⟩
  refine (c_reply h1 h2 han hn h3 (costK_rng kd 1 0) (costK_rng kd 0 1) hh hy ⟨by omega, by omega⟩).mono (fun v σ' hp => ?_)
  rw [hcn] at hp
  rcases hp with ⟨a1, a2, rfl⟩ | ⟨a1, a2, a3, rfl⟩ | ⟨a1, a2, _⟩
  · exact ⟨-2, Or.inl rfl, fun _ => rfl, fun z => absurd a1 z, a2, hY', hF'⟩
  · exact ⟨-3, Or.inr rfl, fun z => absurd z a1, fun _ => rfl, a3, hY', hF'⟩
  · rcases hc with z | z
    · exact absurd z a1
    · omega
theorem c_reply1 {k : Cx} {L0 : Launch} {σ : St} {wt : Int} {kd n e an : Nat} {Ls : Nat → Nat → Int} (hY : GmY k σ kd n e an wt Ls) (hkd : kd < 3) (han : an ≤ 60) (hn : n ≤ 16) {heap y : Nat} (hh : heap < 65536) (hy : y < 2) (hc : cnt (fun j => decide (nv (Ls an) kd heap y j ≠ -1)) n ≠ 0) (ha6 : an < 60) : CtrV k L0 mX3_reply 4 0 0 [.ref (cBase k + 9), .int (iZ (heap : Int)), .int (iZ (y : Int))] σ (fun v σ' => v = .int (iZ (cnt (fun j => decide (nv (Ls an) kd heap y j ≠ -1)) n : Int)) ∧ GmY k σ' kd n e (an + 1) (-1) (rowU Ls (an + 1) (nv (Ls an) kd heap y)) ∧ FrP k σ σ') := by
  obtain ⟨h1, f, h2, h3, h4⟩ := hY
  have hcn := cnt_newL (kd := kd) (h := heap) (fun i hi => h4 an (Nat.le_refl _) i hi) hy
  refine (c_reply h1 h2 han hn h3 (costK_rng kd 1 0) (costK_rng kd 0 1) hh hy ⟨by omega, by omega⟩).mono (fun v σ' hp => ?_)
  rw [hcn] at hp
  rcases hp with ⟨a1, a2, rfl⟩ | ⟨a1, a2, a3, rfl⟩ | ⟨a1, a2, a3, rfl⟩
  · exact absurd a1 hc
  · omega
  · exact ⟨a3, ⟨sUp_same, _, sUp_ne (by omega) sUp_same, layF_rng h3 (costK_rng kd 1 0) (costK_rng kd 0 1) heap y n, rows_up h4 hn hy⟩, rfl, fun a ha hb => (if_neg ha).trans (if_neg hb)⟩
set_option maxRecDepth 100000 in
set_option maxHeartbeats 4000000 in
theorem c_playOne0 {k : Cx} {L0 : Launch} {σ : St} {tb : Int} (hX : σ.2 (cBase k) = some (oX k tb)) {q : Nat} (hC : σ.2 (cBase k + 11) = some (oCode k q)) (hq : q ≤ 12) {qs : Nat → Nat} (hQ : σ.2 (cBase k + 12) = some (eI k 12 (fun j => (qs j : Int)))) (hqs : ∀ j, qs j < 65536) {wt : Int} {kd n e an : Nat} {Ls : Nat → Nat → Int} (hY : GmY k σ kd n e an wt Ls) (hkd : kd < 3) (han : an ≤ 60) (hn : n ≤ 16) {w d : Nat} (hw : w < 4096) (hd : d < q) (hc : cnt (fun j => decide (nv (Ls an) kd (qs d % 2 ^ n) (bt w d) j ≠ -1)) n = 0 ∨ 60 ≤ an) : CtrV k L0 mX11_playOne 5 0 0 [.ref (cBase k), .int (iZ (d : Int)), .int (iZ (w : Int))] σ (fun v σ' => v = .int (iZ 0) ∧ GmY k σ' kd n e an wt Ls ∧ FrP k σ σ') := by
  refine Ctr.of (by decide +kernel) rfl (Nat.le_of_ble_eq_true rfl) ?_
  intro κ hl0 S
  subst hl0
  have hbt := bt_lt w d
  have hpn : 2 ^ n ≤ 2 ^ 16 := Nat.pow_le_pow_right (by decide) hn
  have hmd := Nat.mod_lt (qs d) (Nat.two_pow_pos n)
  have hG := hY.1
  have hcl := cnt_le (fun j => decide (nv (Ls an) kd (qs d % 2 ^ n) (bt w d) j ≠ -1)) n
  refine r_iload_n S dX11_playOne_0 rfl ?_
  refine r_iload_n S dX11_playOne_1 rfl ?_
  refine r_ishr S dX11_playOne_2 (shrZ (by omega) (by omega)) ?_
  refine r_iconst S dX11_playOne_3 ?_
  refine r_iand S dX11_playOne_4 (v := iZ ((bt w d : Nat) : Int)) (and1Z _) ?_
  refine r_iconst S dX11_playOne_5 ?_
  refine r_icmp_ne S dX11_playOne_6 (tgt := 13) (by decide) ⟨by omega, by omega⟩ ⟨by omega, by omega⟩ (fun h_6 => ?_) (fun h_6 => ?_)
  · refine r_iconst S dX11_playOne_13 ?_
    refine r_num (z' := ((bt w d : Nat) : Int)) (by omega) ?_
    refine r_istore_n S dX11_playOne_14 rfl (by decide) (lv' := [_, _, _, _]) rfl ?_
    refine r_aload_n S dX11_playOne_15 rfl ?_
    refine r_getf S g_RX11_47_10 dX11_playOne_16 (by repeat (first | assumption | exact sUp_same | exact sNew_same | refine sUp_ne (by first | assumption | omega) ?_)) rfl ?_
    refine r_aload_n S dX11_playOne_19 rfl ?_
    refine r_getf S g_RX11_47_10 dX11_playOne_20 (by repeat (first | assumption | exact sUp_same | exact sNew_same | refine sUp_ne (by first | assumption | omega) ?_)) rfl ?_
    refine r_aload_n S dX11_playOne_23 rfl ?_
    refine r_getf S g_RX11_54_10 dX11_playOne_24 (by repeat (first | assumption | exact sUp_same | exact sNew_same | refine sUp_ne (by first | assumption | omega) ?_)) rfl ?_
    refine r_iload_n S dX11_playOne_27 rfl ?_
    refine r_callV S (c_question hC hq hQ hd) k_mX2_question c_RX11_239_2 dX11_playOne_28 (by decide) ⟨by omega, by omega⟩ (by repeat (first | assumption | exact sUp_same | exact sNew_same | refine sUp_ne (by first | assumption | omega) ?_)) rfl rfl (Nat.le_of_ble_eq_true rfl) (fun r σ' hp => ?_)
    obtain ⟨_, rfl, rfl, e9⟩ := hp
    rw [e9]
    clear e9
    try simp only [Option.toList_some, Option.toList_none, List.cons_append, List.nil_append]
    refine r_callV S (c_within hG hn (hqs d)) k_mX3_within c_RX11_109_3 dX11_playOne_31 (by decide) ⟨by omega, by omega⟩ (by repeat (first | assumption | exact sUp_same | exact sNew_same | refine sUp_ne (by first | assumption | omega) ?_)) rfl rfl (Nat.le_of_ble_eq_true rfl) (fun r σ' hp => ?_)
    obtain ⟨_, rfl, rfl, e9⟩ := hp
    rw [e9]
    clear e9
    try simp only [Option.toList_some, Option.toList_none, List.cons_append, List.nil_append]
    refine r_iload_n S dX11_playOne_34 rfl ?_
    refine r_callV S (c_reply0 hY hkd han hn (by omega) hbt hc) k_mX3_reply c_RX11_122_3 dX11_playOne_35 (by decide) ⟨by omega, by omega⟩ (by repeat (first | assumption | exact sUp_same | exact sNew_same | refine sUp_ne (by first | assumption | omega) ?_)) rfl rfl (Nat.le_of_ble_eq_true rfl) (fun r σ' hp => ?_)
    obtain ⟨_, rfl, z9, hz9, _, _, rfl, hY9, hF9⟩ := hp
    try simp only [Option.toList_some, Option.toList_none, List.cons_append, List.nil_append]
    refine r_if_le S dX11_playOne_38 (tgt := 45) (by decide) ⟨by omega, by omega⟩ (fun h_38 => ?_) (fun h_38 => ?_)
    · refine r_iconst S dX11_playOne_45 ?_
      exact r_zret S dX11_playOne_46 (by omega) (by omega) (by first | exact Or.inl rfl | exact Or.inr rfl | omega) (⟨_, rfl, rfl, hY9, hF9⟩)
    · omega
  · refine r_iconst S dX11_playOne_9 ?_
    refine r_goto S dX11_playOne_10 (tgt := 14) (by decide) ?_
    refine r_num (z' := ((bt w d : Nat) : Int)) (by omega) ?_
    refine r_istore_n S dX11_playOne_14 rfl (by decide) (lv' := [_, _, _, _]) rfl ?_
    refine r_aload_n S dX11_playOne_15 rfl ?_
    refine r_getf S g_RX11_47_10 dX11_playOne_16 (by repeat (first | assumption | exact sUp_same | exact sNew_same | refine sUp_ne (by first | assumption | omega) ?_)) rfl ?_
    refine r_aload_n S dX11_playOne_19 rfl ?_
    refine r_getf S g_RX11_47_10 dX11_playOne_20 (by repeat (first | assumption | exact sUp_same | exact sNew_same | refine sUp_ne (by first | assumption | omega) ?_)) rfl ?_
    refine r_aload_n S dX11_playOne_23 rfl ?_
    refine r_getf S g_RX11_54_10 dX11_playOne_24 (by repeat (first | assumption | exact sUp_same | exact sNew_same | refine sUp_ne (by first | assumption | omega) ?_)) rfl ?_
    refine r_iload_n S dX11_playOne_27 rfl ?_
    refine r_callV S (c_question hC hq hQ hd) k_mX2_question c_RX11_239_2 dX11_playOne_28 (by decide) ⟨by omega, by omega⟩ (by repeat (first | assumption | exact sUp_same | exact sNew_same | refine sUp_ne (by first | assumption | omega) ?_)) rfl rfl (Nat.le_of_ble_eq_true rfl) (fun r σ' hp => ?_)
    obtain ⟨_, rfl, rfl, e9⟩ := hp
    rw [e9]
    clear e9
    try simp only [Option.toList_some, Option.toList_none, List.cons_append, List.nil_append]
    refine r_callV S (c_within hG hn (hqs d)) k_mX3_within c_RX11_109_3 dX11_playOne_31 (by decide) ⟨by omega, by omega⟩ (by repeat (first | assumption | exact sUp_same | exact sNew_same | refine sUp_ne (by first | assumption | omega) ?_)) rfl rfl (Nat.le_of_ble_eq_true rfl) (fun r σ' hp => ?_)
    obtain ⟨_, rfl, rfl, e9⟩ := hp
    rw [e9]
    clear e9
    try simp only [Option.toList_some, Option.toList_none, List.cons_append, List.nil_append]
    refine r_iload_n S dX11_playOne_34 rfl ?_
    refine r_callV S (c_reply0 hY hkd han hn (by omega) hbt hc) k_mX3_reply c_RX11_122_3 dX11_playOne_35 (by decide) ⟨by omega, by omega⟩ (by repeat (first | assumption | exact sUp_same | exact sNew_same | refine sUp_ne (by first | assumption | omega) ?_)) rfl rfl (Nat.le_of_ble_eq_true rfl) (fun r σ' hp => ?_)
    obtain ⟨_, rfl, z9, hz9, _, _, rfl, hY9, hF9⟩ := hp
    try simp only [Option.toList_some, Option.toList_none, List.cons_append, List.nil_append]
    refine r_if_le S dX11_playOne_38 (tgt := 45) (by decide) ⟨by omega, by omega⟩ (fun h_38 => ?_) (fun h_38 => ?_)
    · refine r_iconst S dX11_playOne_45 ?_
      exact r_zret S dX11_playOne_46 (by omega) (by omega) (by first | exact Or.inl rfl | exact Or.inr rfl | omega) (⟨_, rfl, rfl, hY9, hF9⟩)
    · omega

set_option maxRecDepth 100000 in
set_option maxHeartbeats 4000000 in
theorem c_playOne1 {k : Cx} {L0 : Launch} {σ : St} {tb : Int} (hX : σ.2 (cBase k) = some (oX k tb)) {q : Nat} (hC : σ.2 (cBase k + 11) = some (oCode k q)) (hq : q ≤ 12) {qs : Nat → Nat} (hQ : σ.2 (cBase k + 12) = some (eI k 12 (fun j => (qs j : Int)))) (hqs : ∀ j, qs j < 65536) {wt : Int} {kd n e an : Nat} {Ls : Nat → Nat → Int} (hY : GmY k σ kd n e an wt Ls) (hkd : kd < 3) (han : an ≤ 60) (hn : n ≤ 16) {w d : Nat} (hw : w < 4096) (hd : d < q) (hc : cnt (fun j => decide (nv (Ls an) kd (qs d % 2 ^ n) (bt w d) j ≠ -1)) n ≠ 0) (ha6 : an < 60) : CtrV k L0 mX11_playOne 5 0 0 [.ref (cBase k), .int (iZ (d : Int)), .int (iZ (w : Int))] σ (fun v σ' => v = .int (iZ 1) ∧ GmY k σ' kd n e (an + 1) (-1) (rowU Ls (an + 1) (nv (Ls an) kd (qs d % 2 ^ n) (bt w d))) ∧ FrP k σ σ') := by
  refine Ctr.of (by decide +kernel) rfl (Nat.le_of_ble_eq_true rfl) ?_
  intro κ hl0 S
  subst hl0
  have hbt := bt_lt w d
  have hpn : 2 ^ n ≤ 2 ^ 16 := Nat.pow_le_pow_right (by decide) hn
  have hmd := Nat.mod_lt (qs d) (Nat.two_pow_pos n)
  have hG := hY.1
  have hcl := cnt_le (fun j => decide (nv (Ls an) kd (qs d % 2 ^ n) (bt w d) j ≠ -1)) n
  refine r_iload_n S dX11_playOne_0 rfl ?_
  refine r_iload_n S dX11_playOne_1 rfl ?_
  refine r_ishr S dX11_playOne_2 (shrZ (by omega) (by omega)) ?_
  refine r_iconst S dX11_playOne_3 ?_
  refine r_iand S dX11_playOne_4 (v := iZ ((bt w d : Nat) : Int)) (and1Z _) ?_
  refine r_iconst S dX11_playOne_5 ?_
  refine r_icmp_ne S dX11_playOne_6 (tgt := 13) (by decide) ⟨by omega, by omega⟩ ⟨by omega, by omega⟩ (fun h_6 => ?_) (fun h_6 => ?_)
  · refine r_iconst S dX11_playOne_13 ?_
    refine r_num (z' := ((bt w d : Nat) : Int)) (by omega) ?_
    refine r_istore_n S dX11_playOne_14 rfl (by decide) (lv' := [_, _, _, _]) rfl ?_
    refine r_aload_n S dX11_playOne_15 rfl ?_
    refine r_getf S g_RX11_47_10 dX11_playOne_16 (by repeat (first | assumption | exact sUp_same | exact sNew_same | refine sUp_ne (by first | assumption | omega) ?_)) rfl ?_
    refine r_aload_n S dX11_playOne_19 rfl ?_
    refine r_getf S g_RX11_47_10 dX11_playOne_20 (by repeat (first | assumption | exact sUp_same | exact sNew_same | refine sUp_ne (by first | assumption | omega) ?_)) rfl ?_
    refine r_aload_n S dX11_playOne_23 rfl ?_
    refine r_getf S g_RX11_54_10 dX11_playOne_24 (by repeat (first | assumption | exact sUp_same | exact sNew_same | refine sUp_ne (by first | assumption | omega) ?_)) rfl ?_
    refine r_iload_n S dX11_playOne_27 rfl ?_
    refine r_callV S (c_question hC hq hQ hd) k_mX2_question c_RX11_239_2 dX11_playOne_28 (by decide) ⟨by omega, by omega⟩ (by repeat (first | assumption | exact sUp_same | exact sNew_same | refine sUp_ne (by first | assumption | omega) ?_)) rfl rfl (Nat.le_of_ble_eq_true rfl) (fun r σ' hp => ?_)
    obtain ⟨_, rfl, rfl, e9⟩ := hp
    rw [e9]
    clear e9
    try simp only [Option.toList_some, Option.toList_none, List.cons_append, List.nil_append]
    refine r_callV S (c_within hG hn (hqs d)) k_mX3_within c_RX11_109_3 dX11_playOne_31 (by decide) ⟨by omega, by omega⟩ (by repeat (first | assumption | exact sUp_same | exact sNew_same | refine sUp_ne (by first | assumption | omega) ?_)) rfl rfl (Nat.le_of_ble_eq_true rfl) (fun r σ' hp => ?_)
    obtain ⟨_, rfl, rfl, e9⟩ := hp
    rw [e9]
    clear e9
    try simp only [Option.toList_some, Option.toList_none, List.cons_append, List.nil_append]
    refine r_iload_n S dX11_playOne_34 rfl ?_
    refine r_callV S (c_reply1 hY hkd han hn (by omega) hbt hc ha6) k_mX3_reply c_RX11_122_3 dX11_playOne_35 (by decide) ⟨by omega, by omega⟩ (by repeat (first | assumption | exact sUp_same | exact sNew_same | refine sUp_ne (by first | assumption | omega) ?_)) rfl rfl (Nat.le_of_ble_eq_true rfl) (fun r σ' hp => ?_)
    obtain ⟨_, rfl, rfl, hY9, hF9⟩ := hp
    try simp only [Option.toList_some, Option.toList_none, List.cons_append, List.nil_append]
    refine r_if_le S dX11_playOne_38 (tgt := 45) (by decide) ⟨by omega, by omega⟩ (fun h_38 => ?_) (fun h_38 => ?_)
    · omega
    · refine r_iconst S dX11_playOne_41 ?_
      refine r_goto S dX11_playOne_42 (tgt := 46) (by decide) ?_
      exact r_zret S dX11_playOne_46 (by omega) (by omega) (by first | exact Or.inl rfl | exact Or.inr rfl | omega) (⟨_, rfl, rfl, hY9, hF9⟩)
  · refine r_iconst S dX11_playOne_9 ?_
    refine r_goto S dX11_playOne_10 (tgt := 14) (by decide) ?_
    refine r_num (z' := ((bt w d : Nat) : Int)) (by omega) ?_
    refine r_istore_n S dX11_playOne_14 rfl (by decide) (lv' := [_, _, _, _]) rfl ?_
    refine r_aload_n S dX11_playOne_15 rfl ?_
    refine r_getf S g_RX11_47_10 dX11_playOne_16 (by repeat (first | assumption | exact sUp_same | exact sNew_same | refine sUp_ne (by first | assumption | omega) ?_)) rfl ?_
    refine r_aload_n S dX11_playOne_19 rfl ?_
    refine r_getf S g_RX11_47_10 dX11_playOne_20 (by repeat (first | assumption | exact sUp_same | exact sNew_same | refine sUp_ne (by first | assumption | omega) ?_)) rfl ?_
    refine r_aload_n S dX11_playOne_23 rfl ?_
    refine r_getf S g_RX11_54_10 dX11_playOne_24 (by repeat (first | assumption | exact sUp_same | exact sNew_same | refine sUp_ne (by first | assumption | omega) ?_)) rfl ?_
    refine r_iload_n S dX11_playOne_27 rfl ?_
    refine r_callV S (c_question hC hq hQ hd) k_mX2_question c_RX11_239_2 dX11_playOne_28 (by decide) ⟨by omega, by omega⟩ (by repeat (first | assumption | exact sUp_same | exact sNew_same | refine sUp_ne (by first | assumption | omega) ?_)) rfl rfl (Nat.le_of_ble_eq_true rfl) (fun r σ' hp => ?_)
    obtain ⟨_, rfl, rfl, e9⟩ := hp
    rw [e9]
    clear e9
    try simp only [Option.toList_some, Option.toList_none, List.cons_append, List.nil_append]
    refine r_callV S (c_within hG hn (hqs d)) k_mX3_within c_RX11_109_3 dX11_playOne_31 (by decide) ⟨by omega, by omega⟩ (by repeat (first | assumption | exact sUp_same | exact sNew_same | refine sUp_ne (by first | assumption | omega) ?_)) rfl rfl (Nat.le_of_ble_eq_true rfl) (fun r σ' hp => ?_)
    obtain ⟨_, rfl, rfl, e9⟩ := hp
    rw [e9]
    clear e9
    try simp only [Option.toList_some, Option.toList_none, List.cons_append, List.nil_append]
    refine r_iload_n S dX11_playOne_34 rfl ?_
    refine r_callV S (c_reply1 hY hkd han hn (by omega) hbt hc ha6) k_mX3_reply c_RX11_122_3 dX11_playOne_35 (by decide) ⟨by omega, by omega⟩ (by repeat (first | assumption | exact sUp_same | exact sNew_same | refine sUp_ne (by first | assumption | omega) ?_)) rfl rfl (Nat.le_of_ble_eq_true rfl) (fun r σ' hp => ?_)
    obtain ⟨_, rfl, rfl, hY9, hF9⟩ := hp
    try simp only [Option.toList_some, Option.toList_none, List.cons_append, List.nil_append]
    refine r_if_le S dX11_playOne_38 (tgt := 45) (by decide) ⟨by omega, by omega⟩ (fun h_38 => ?_) (fun h_38 => ?_)
    · omega
    · refine r_iconst S dX11_playOne_41 ?_
      refine r_goto S dX11_playOne_42 (tgt := 46) (by decide) ?_
      exact r_zret S dX11_playOne_46 (by omega) (by omega) (by first | exact Or.inl rfl | exact Or.inr rfl | omega) (⟨_, rfl, rfl, hY9, hF9⟩)

set_option maxRecDepth 100000 in
set_option maxHeartbeats 4000000 in
theorem l_playX {κ : Kx} {k : Cx} {σ : St} {tb : Int} (hX : σ.2 (cBase k) = some (oX k tb)) {q : Nat} (hC : σ.2 (cBase k + 11) = some (oCode k q)) (hq : q ≤ 12) {qs : Nat → Nat} (hQ : σ.2 (cBase k + 12) = some (eI k 12 (fun j => (qs j : Int)))) (hqs : ∀ j, qs j < 65536) {kd n e : Nat} (hkd : kd < 3) (hn : n ≤ 16) {w : Nat} (hw : w < 4096) {R : Nat × Nat × (Nat → Nat → Int)} (S : Ok κ k cX11_play 3 RX11 (some .int) "play" 6 0 0) : ∀ (m d : Nat), d + m = q → ∀ (an : Nat) (Ls : Nat → Nat → Int) (σc : St), an ≤ 60 → GmY k σc kd n e an (-1) Ls → FrP k σ σc → plGo kd n qs w m d an Ls = R → V κ k 3 0 0 (QR κ k (fun r9 σ' => ∃ v, r9 = some v ∧ (v = .int (iZ (R.1 : Int)) ∧ GmY k σ' kd n e R.2.1 (-1) R.2.2 ∧ FrP k σ σ')) 0 0) 36 [some (.ref (cBase k)), some (.int (iZ (w : Int))), some (.int (iZ (d : Int)))] [] σc := by
  intro m
  induction m with
  | zero =>
    intro d hdm an Ls σc han hY hF hR
    rw [plGo] at hR
    subst hR
    have hXc := (hF.2 (cBase k) (by omega) (by omega)).trans hX
    have hCc := (hF.2 (cBase k + 11) (by omega) (by omega)).trans hC
    have hQc := (hF.2 (cBase k + 12) (by omega) (by omega)).trans hQ
    refine r_iload_n S dX11_play_36 rfl ?_
    refine r_aload_n S dX11_play_37 rfl ?_
    refine r_getf S g_RX11_54_10 dX11_play_38 (by repeat (first | assumption | exact sUp_same | exact sNew_same | refine sUp_ne (by first | assumption | omega) ?_)) rfl ?_
    refine r_getf S g_RX11_184_2 dX11_play_41 (by repeat (first | assumption | exact sUp_same | exact sNew_same | refine sUp_ne (by first | assumption | omega) ?_)) rfl ?_
    refine r_icmp_ge S dX11_play_44 (tgt := 62) (by decide) ⟨by omega, by omega⟩ ⟨by omega, by omega⟩ (fun h_44 => ?_) (fun h_44 => ?_)
    · refine r_iload_n S dX11_play_62 rfl ?_
      exact r_iret S dX11_play_63 (by omega) (by omega) (⟨_, rfl, rfl, hY, hF⟩)
    · omega
  | succ m ih =>
    intro d hdm an Ls σc han hY hF hR
    rw [plGo] at hR
    have hXc := (hF.2 (cBase k) (by omega) (by omega)).trans hX
    have hCc := (hF.2 (cBase k + 11) (by omega) (by omega)).trans hC
    have hQc := (hF.2 (cBase k + 12) (by omega) (by omega)).trans hQ
    by_cases hc : cnt (fun j => decide (nv (Ls an) kd (qs d % 2 ^ n) (bt w d) j ≠ -1)) n = 0 ∨ 60 ≤ an
    · rw [if_pos hc] at hR
      subst hR
      refine r_iload_n S dX11_play_36 rfl ?_
      refine r_aload_n S dX11_play_37 rfl ?_
      refine r_getf S g_RX11_54_10 dX11_play_38 (by repeat (first | assumption | exact sUp_same | exact sNew_same | refine sUp_ne (by first | assumption | omega) ?_)) rfl ?_
      refine r_getf S g_RX11_184_2 dX11_play_41 (by repeat (first | assumption | exact sUp_same | exact sNew_same | refine sUp_ne (by first | assumption | omega) ?_)) rfl ?_
      refine r_icmp_ge S dX11_play_44 (tgt := 62) (by decide) ⟨by omega, by omega⟩ ⟨by omega, by omega⟩ (fun h_44 => ?_) (fun h_44 => ?_)
      · omega
      · refine r_aload_n S dX11_play_47 rfl ?_
        refine r_iload_n S dX11_play_48 rfl ?_
        refine r_iload_n S dX11_play_49 rfl ?_
        refine r_callV S (c_playOne0 hXc hCc hq hQc hqs hY hkd han hn hw (by omega) hc) k_mX11_playOne c_RX11_210_10 dX11_play_50 (by decide) ⟨by omega, by omega⟩ (by repeat (first | assumption | exact sUp_same | exact sNew_same | refine sUp_ne (by first | assumption | omega) ?_)) rfl rfl (Nat.le_of_ble_eq_true rfl) (fun r σ' hp => ?_)
        obtain ⟨_, rfl, rfl, hY2, hF2⟩ := hp
        try simp only [Option.toList_some, Option.toList_none, List.cons_append, List.nil_append]
        refine r_if_eq S dX11_play_53 (tgt := 62) (by decide) ⟨by omega, by omega⟩ (fun h_53 => ?_) (fun h_53 => ?_)
        · refine r_iload_n S dX11_play_62 rfl ?_
          exact r_iret S dX11_play_63 (by omega) (by omega) (⟨_, rfl, rfl, hY2, hF2.1.trans hF.1, fun a h1 h2 => (hF2.2 a h1 h2).trans (hF.2 a h1 h2)⟩)
        · omega
    · rw [if_neg hc] at hR
      refine r_iload_n S dX11_play_36 rfl ?_
      refine r_aload_n S dX11_play_37 rfl ?_
      refine r_getf S g_RX11_54_10 dX11_play_38 (by repeat (first | assumption | exact sUp_same | exact sNew_same | refine sUp_ne (by first | assumption | omega) ?_)) rfl ?_
      refine r_getf S g_RX11_184_2 dX11_play_41 (by repeat (first | assumption | exact sUp_same | exact sNew_same | refine sUp_ne (by first | assumption | omega) ?_)) rfl ?_
      refine r_icmp_ge S dX11_play_44 (tgt := 62) (by decide) ⟨by omega, by omega⟩ ⟨by omega, by omega⟩ (fun h_44 => ?_) (fun h_44 => ?_)
      · omega
      · refine r_aload_n S dX11_play_47 rfl ?_
        refine r_iload_n S dX11_play_48 rfl ?_
        refine r_iload_n S dX11_play_49 rfl ?_
        refine r_callV S (c_playOne1 hXc hCc hq hQc hqs hY hkd han hn hw (by omega) (fun z => hc (Or.inl z)) (by omega)) k_mX11_playOne c_RX11_210_10 dX11_play_50 (by decide) ⟨by omega, by omega⟩ (by repeat (first | assumption | exact sUp_same | exact sNew_same | refine sUp_ne (by first | assumption | omega) ?_)) rfl rfl (Nat.le_of_ble_eq_true rfl) (fun r σ' hp => ?_)
        obtain ⟨_, rfl, rfl, hY2, hF2⟩ := hp
        try simp only [Option.toList_some, Option.toList_none, List.cons_append, List.nil_append]
        refine r_if_eq S dX11_play_53 (tgt := 62) (by decide) ⟨by omega, by omega⟩ (fun h_53 => ?_) (fun h_53 => ?_)
        · omega
        · refine r_iinc S dX11_play_56 rfl rfl (by decide) (lv' := [_, _, _]) rfl ?_
          refine r_goto S dX11_play_59 (tgt := 36) (by decide) ?_
          exact ih (d + 1) (by omega) _ _ _ (by omega) hY2 ⟨hF2.1.trans hF.1, fun a h1 h2 => (hF2.2 a h1 h2).trans (hF.2 a h1 h2)⟩ hR

set_option maxRecDepth 100000 in
set_option maxHeartbeats 4000000 in
theorem c_playX0 {k : Cx} {L0 : Launch} {σ : St} {tb : Int} (hX : σ.2 (cBase k) = some (oX k tb)) {q : Nat} (hC : σ.2 (cBase k + 11) = some (oCode k q)) (hq : q ≤ 12) {z : Int} (hz : zR z) (hx : z < 0 ∨ ((2 ^ q : Nat) : Int) ≤ z) : CtrV k L0 mX11_play 6 0 0 [.ref (cBase k), .int (iZ z)] σ (fun v σ' => v = .int (iZ (-1)) ∧ σ' = σ) := by
  refine Ctr.of (by decide +kernel) rfl (Nat.le_of_ble_eq_true rfl) ?_
  intro κ hl0 S
  subst hl0
  refine r_aload_n S dX11_play_0 rfl ?_
  refine r_getf S g_RX11_54_10 dX11_play_1 (by repeat (first | assumption | exact sUp_same | exact sNew_same | refine sUp_ne (by first | assumption | omega) ?_)) rfl ?_
  refine r_iload_n S dX11_play_4 rfl ?_
  refine r_callV S (c_isWordF hC hq hz hx) k_mX2_isWord c_RX11_203_2 dX11_play_5 (by decide) ⟨by omega, by omega⟩ (by repeat (first | assumption | exact sUp_same | exact sNew_same | refine sUp_ne (by first | assumption | omega) ?_)) rfl rfl (Nat.le_of_ble_eq_true rfl) (fun r σ' hp => ?_)
  obtain ⟨_, rfl, rfl, rfl⟩ := hp
  try simp only [Option.toList_some, Option.toList_none, List.cons_append, List.nil_append]
  refine r_if_ne S dX11_play_8 (tgt := 13) (by decide) ⟨by omega, by omega⟩ (fun h_8 => ?_) (fun h_8 => ?_)
  · omega
  · refine r_iconst S dX11_play_11 ?_
    exact r_iret S dX11_play_12 (by omega) (by omega) (⟨_, rfl, rfl, rfl⟩)

set_option maxRecDepth 100000 in
set_option maxHeartbeats 4000000 in
theorem c_playX1 {k : Cx} {L0 : Launch} {σ : St} {tb : Int} (hX : σ.2 (cBase k) = some (oX k tb)) {q : Nat} (hC : σ.2 (cBase k + 11) = some (oCode k q)) (hq : q ≤ 12) {wt yp np : Int} {kd n e an : Nat} (hG : σ.2 (cBase k + 9) = some (oGame k 0 kd n e an wt yp np)) {w : Nat} (hw : w < 2 ^ q) : CtrV k L0 mX11_play 6 0 0 [.ref (cBase k), .int (iZ (w : Int))] σ (fun v σ' => v = .int (iZ (-2)) ∧ σ' = σ) := by
  refine Ctr.of (by decide +kernel) rfl (Nat.le_of_ble_eq_true rfl) ?_
  intro κ hl0 S
  subst hl0
  refine r_aload_n S dX11_play_0 rfl ?_
  refine r_getf S g_RX11_54_10 dX11_play_1 (by repeat (first | assumption | exact sUp_same | exact sNew_same | refine sUp_ne (by first | assumption | omega) ?_)) rfl ?_
  refine r_iload_n S dX11_play_4 rfl ?_
  refine r_callV S (c_isWordT hC hq hw) k_mX2_isWord c_RX11_203_2 dX11_play_5 (by decide) ⟨by omega, by omega⟩ (by repeat (first | assumption | exact sUp_same | exact sNew_same | refine sUp_ne (by first | assumption | omega) ?_)) rfl rfl (Nat.le_of_ble_eq_true rfl) (fun r σ' hp => ?_)
  obtain ⟨_, rfl, rfl, rfl⟩ := hp
  try simp only [Option.toList_some, Option.toList_none, List.cons_append, List.nil_append]
  refine r_if_ne S dX11_play_8 (tgt := 13) (by decide) ⟨by omega, by omega⟩ (fun h_8 => ?_) (fun h_8 => ?_)
  · refine r_aload_n S dX11_play_13 rfl ?_
    refine r_getf S g_RX11_47_10 dX11_play_14 (by repeat (first | assumption | exact sUp_same | exact sNew_same | refine sUp_ne (by first | assumption | omega) ?_)) rfl ?_
    refine r_getf S g_RX11_105_3 dX11_play_17 (by repeat (first | assumption | exact sUp_same | exact sNew_same | refine sUp_ne (by first | assumption | omega) ?_)) rfl ?_
    refine r_if_ne S dX11_play_20 (tgt := 26) (by decide) ⟨by omega, by omega⟩ (fun h_20 => ?_) (fun h_20 => ?_)
    · omega
    · refine r_bipush S dX11_play_23 (by decide) ?_
      exact r_iret S dX11_play_25 (by omega) (by omega) (⟨_, rfl, rfl, rfl⟩)
  · omega

set_option maxRecDepth 100000 in
set_option maxHeartbeats 4000000 in
theorem c_playX {k : Cx} {L0 : Launch} {σ : St} {tb : Int} (hX : σ.2 (cBase k) = some (oX k tb)) {q : Nat} (hC : σ.2 (cBase k + 11) = some (oCode k q)) (hq : q ≤ 12) {qs : Nat → Nat} (hQ : σ.2 (cBase k + 12) = some (eI k 12 (fun j => (qs j : Int)))) (hqs : ∀ j, qs j < 65536) {kd n e : Nat} (hkd : kd < 3) (hn : n ≤ 16) {w : Nat} (hw : w < 2 ^ q) {wt : Int} {an : Nat} {Ls : Nat → Nat → Int} (hY : GmY k σ kd n e an wt Ls) (han : an ≤ 60) : CtrV k L0 mX11_play 6 0 0 [.ref (cBase k), .int (iZ (w : Int))] σ (fun v σ' => v = .int (iZ ((plGo kd n qs w q 0 an Ls).1 : Int)) ∧ GmY k σ' kd n e (plGo kd n qs w q 0 an Ls).2.1 (-1) (plGo kd n qs w q 0 an Ls).2.2 ∧ FrP k σ σ') := by
  refine Ctr.of (by decide +kernel) rfl (Nat.le_of_ble_eq_true rfl) ?_
  intro κ hl0 S
  subst hl0
  have hG := hY.1
  refine r_aload_n S dX11_play_0 rfl ?_
  refine r_getf S g_RX11_54_10 dX11_play_1 (by repeat (first | assumption | exact sUp_same | exact sNew_same | refine sUp_ne (by first | assumption | omega) ?_)) rfl ?_
  refine r_iload_n S dX11_play_4 rfl ?_
  refine r_callV S (c_isWordT hC hq hw) k_mX2_isWord c_RX11_203_2 dX11_play_5 (by decide) ⟨by omega, by omega⟩ (by repeat (first | assumption | exact sUp_same | exact sNew_same | refine sUp_ne (by first | assumption | omega) ?_)) rfl rfl (Nat.le_of_ble_eq_true rfl) (fun r σ' hp => ?_)
  obtain ⟨_, rfl, rfl, e9⟩ := hp
  rw [e9]
  clear e9
  try simp only [Option.toList_some, Option.toList_none, List.cons_append, List.nil_append]
  refine r_if_ne S dX11_play_8 (tgt := 13) (by decide) ⟨by omega, by omega⟩ (fun h_8 => ?_) (fun h_8 => ?_)
  · refine r_aload_n S dX11_play_13 rfl ?_
    refine r_getf S g_RX11_47_10 dX11_play_14 (by repeat (first | assumption | exact sUp_same | exact sNew_same | refine sUp_ne (by first | assumption | omega) ?_)) rfl ?_
    refine r_getf S g_RX11_105_3 dX11_play_17 (by repeat (first | assumption | exact sUp_same | exact sNew_same | refine sUp_ne (by first | assumption | omega) ?_)) rfl ?_
    refine r_if_ne S dX11_play_20 (tgt := 26) (by decide) ⟨by omega, by omega⟩ (fun h_20 => ?_) (fun h_20 => ?_)
    · refine r_aload_n S dX11_play_26 rfl ?_
      refine r_getf S g_RX11_47_10 dX11_play_27 (by repeat (first | assumption | exact sUp_same | exact sNew_same | refine sUp_ne (by first | assumption | omega) ?_)) rfl ?_
      refine r_iconst S dX11_play_30 ?_
      refine r_callV S (c_waitFor hG) k_mX3_waitFor c_RX11_112_3 dX11_play_31 (by decide) ⟨by omega, by omega⟩ (by repeat (first | assumption | exact sUp_same | exact sNew_same | refine sUp_ne (by first | assumption | omega) ?_)) rfl rfl (Nat.le_of_ble_eq_true rfl) (fun r σ' hp => ?_)
      obtain ⟨rfl, rfl⟩ := hp
      try simp only [Option.toList_some, Option.toList_none, List.cons_append, List.nil_append]
      refine r_iconst S dX11_play_34 ?_
      refine r_istore_n S dX11_play_35 rfl (by decide) (lv' := [_, _, _]) rfl ?_
      exact l_playX hX hC hq hQ hqs hkd hn (Nat.lt_of_lt_of_le hw (pw12 hq)) S q 0 (by omega) an Ls _ han ⟨sUp_same, hY.2.imp (fun f h => ⟨sUp_ne (by omega) h.1, h.2⟩)⟩ ⟨rfl, fun a h1 _ => if_neg h1⟩ rfl
    · omega
  · omega
