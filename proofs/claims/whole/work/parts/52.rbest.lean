/-! the reference's greater, worse, best -/
def WS (k : Cx) (σ : St) : Prop := (∃ R : Nat → Int, RT k σ R) ∧ (∃ mo : Nat → Int, σ.2 (cBase k + 23) = some (eI k 4 mo)) ∧ ∃ t : Nat → Int, σ.2 (cBase k + 24) = some (eI k 16 t) ∧ ∀ j, -1 ≤ t j ∧ t j ≤ 3
def FrG (k : Cx) (σ σ' : St) : Prop := σ'.1 = σ.1 ∧ ∀ a, a ≠ cBase k + 18 → (a < cBase k + 20 ∨ cBase k + 25 ≤ a) → σ'.2 a = σ.2 a
theorem FrG.refl {k : Cx} {σ : St} : FrG k σ σ := ⟨rfl, fun _ _ _ => rfl⟩
theorem FrG.trans {k : Cx} {σ σ1 σ2 : St} (h1 : FrG k σ σ1) (h2 : FrG k σ1 σ2) : FrG k σ σ2 := ⟨h2.1.trans h1.1, fun a ha hb => (h2.2 a ha hb).trans (h1.2 a ha hb)⟩
theorem FrG.at {k : Cx} {σ σ1 : St} {a : Nat} {x : Option va_E} (h : FrG k σ σ1) (h1 : a ≠ cBase k + 18) (h2 : a < cBase k + 20 ∨ cBase k + 25 ≤ a) (hx : σ.2 a = x) : σ1.2 a = x := (h.2 a h1 h2).trans hx
theorem FrG.m {k : Cx} {σ σ1 : St} (h : FrM k σ σ1) : FrG k σ σ1 := ⟨h.1, fun a ha hb => h.2 a ha (by omega)⟩
theorem FrG.up {k : Cx} {σ σ1 : St} {a : Nat} {e : va_E} (h : FrG k σ σ1) (ha : a = cBase k + 24) : FrG k σ (sUp σ1 a e) := ⟨h.1, fun b hb hb2 => (if_neg (by omega)).trans (h.2 b hb hb2)⟩
theorem RT.fr {k : Cx} {σ σ' : St} {R : Nat → Int} (h : RT k σ R) (hf : ∀ a, cBase k + 18 ≤ a → a < cBase k + 23 → σ'.2 a = σ.2 a) : RT k σ' R := by
  obtain ⟨h1, ⟨p1, h2⟩, ⟨p2, h3⟩, ⟨p3, h4⟩, h5⟩ := h
  exact ⟨(hf _ (by omega) (by omega)).trans h1, ⟨p1, (hf _ (by omega) (by omega)).trans h2⟩, ⟨p2, (hf _ (by omega) (by omega)).trans h3⟩, ⟨p3, (hf _ (by omega) (by omega)).trans h4⟩, h5⟩
theorem WS.fr {k : Cx} {σ σ' : St} (h : WS k σ) (hf : ∀ a, cBase k + 18 ≤ a → a < cBase k + 25 → σ'.2 a = σ.2 a) : WS k σ' := by
  obtain ⟨⟨R, h1⟩, ⟨mo, h2⟩, t, h3, h4⟩ := h
  exact ⟨⟨R, h1.fr (fun a ha hb => hf a ha (by omega))⟩, ⟨mo, (hf _ (by omega) (by omega)).trans h2⟩, t, (hf _ (by omega) (by omega)).trans h3, h4⟩
theorem hQ_congr {f g : Nat → Int} {r s n : Nat} (h : ∀ i, i < n → f (r + i) = g (s + i)) : hQ f r n = hQ g s n := by
  have e : ∀ z : Int, cnt (fun i => decide (z ≤ f (r + i))) n = cnt (fun i => decide (z ≤ g (s + i))) n := fun z => cnt_congr (fun i hi => by rw [h i hi])
  unfold hQ
  rw [e, e, e, e]
theorem hQ_tk (g t : Nat → Int) (n : Nat) : hQ (tkF g t n) 0 n = hQ g 0 n := hQ_congr (fun i hi => by rw [Nat.zero_add]; exact tkF_in hi)
theorem cnt_nv {l : Nat → Int} (hl : ∀ j, -1 ≤ l j ∧ l j ≤ 3) (kd b y n : Nat) : cnt (fun j => decide (nv l kd b y j ≠ -1)) n = (hQ (nv l kd b y) 0 n).1 := cnt_congr (fun i _ => by
  have := nv_rng hl kd b y i
  rw [Nat.zero_add]
  exact decide_eq_decide.mpr (by omega))
theorem BO_1 (g : Nat → Int) : BO g 1 0 := ⟨by decide, fun c hc => by rw [show c = 0 by omega]; exact Int.le_refl _, fun c hc => absurd hc (Nat.not_lt_zero c)⟩
theorem BO_lt {g : Nat → Int} {N b : Nat} (h : BO g N b) (hlt : g N < g b) : BO g (N + 1) N := ⟨by omega, fun c hc => by
  rcases Nat.lt_or_ge c N with e | e
  · have := h.2.1 c e; omega
  · rw [show c = N by omega]; exact Int.le_refl _, fun c hc => by have := h.2.1 c hc; omega⟩
theorem BO_ge {g : Nat → Int} {N b : Nat} (h : BO g N b) (hge : g b ≤ g N) : BO g (N + 1) b := ⟨by have := h.1; omega, fun c hc => by
  rcases Nat.lt_or_ge c N with e | e
  · exact h.2.1 c e
  · rw [show c = N by omega]; exact hge, h.2.2⟩
set_option maxRecDepth 100000 in
set_option maxHeartbeats 4000000 in
theorem s_gr43 {κ : Kx} {k : Cx} {σ : St} {hg e wt tb tr sk sm q : Int} {kd n an : Nat} (hM : σ.2 (cBase k + 14) = some (oModel k hg kd n e an wt tb q tr sk sm)) (hn : n ≤ 16) {l : Nat → Int} (hL : σ.2 (cBase k + 15) = some (eI k 16 l)) (hl : ∀ j, -1 ≤ l j ∧ l j ≤ 3) (hkd : kd < 3) {b : Nat} (hb : b < 65536) (S : Ok κ k cX12_greater 4 RX12 (some .int) "greater" 6 0 0) : ∀ σ2 : St, WS k σ2 → FrG k σ σ2 → V κ k 4 0 0 (QR κ k (fun r σ' => ∃ v, r = some v ∧ (v = .int (iZ (grt kd l n b)) ∧ WS k σ' ∧ FrG k σ σ')) 0 0) 43 [some (.ref (cBase k + 14)), some (.int (iZ (b : Int))), some (.int (iZ (gB kd l n b 1))), none] [.int (iZ (gB kd l n b 0))] σ2 := by
  intro σ2 hW2 hF2
  have g1 := gB_rng kd l n b 1
  have g0 := gB_rng kd l n b 0
  refine r_istore_n S dX12_greater_43 rfl (by decide) (lv' := [_, _, _, _]) rfl ?_
  refine r_iload_n S dX12_greater_44 rfl ?_
  refine r_iload_n S dX12_greater_45 rfl ?_
  refine r_icmp_le S dX12_greater_46 (tgt := 53) (by decide) ⟨by omega, by omega⟩ ⟨by omega, by omega⟩ (fun h_46 => ?_) (fun h_46 => ?_)
  · refine r_iload_n S dX12_greater_53 rfl ?_
    exact r_iret S dX12_greater_54 (by omega) (by omega) (⟨_, rfl, by congr 2; unfold grt; omega, hW2, hF2⟩)
  · refine r_iload_n S dX12_greater_49 rfl ?_
    refine r_goto S dX12_greater_50 (tgt := 54) (by decide) ?_
    exact r_iret S dX12_greater_54 (by omega) (by omega) (⟨_, rfl, by congr 2; unfold grt; omega, hW2, hF2⟩)

set_option maxRecDepth 100000 in
set_option maxHeartbeats 4000000 in
theorem s_gr21 {κ : Kx} {k : Cx} {σ : St} {hg e wt tb tr sk sm q : Int} {kd n an : Nat} (hM : σ.2 (cBase k + 14) = some (oModel k hg kd n e an wt tb q tr sk sm)) (hn : n ≤ 16) {l : Nat → Int} (hL : σ.2 (cBase k + 15) = some (eI k 16 l)) (hl : ∀ j, -1 ≤ l j ∧ l j ≤ 3) (hkd : kd < 3) {b : Nat} (hb : b < 65536) (S : Ok κ k cX12_greater 4 RX12 (some .int) "greater" 6 0 0) : ∀ σ1 : St, WS k σ1 → FrG k σ σ1 → V κ k 4 0 0 (QR κ k (fun r σ' => ∃ v, r = some v ∧ (v = .int (iZ (grt kd l n b)) ∧ WS k σ' ∧ FrG k σ σ')) 0 0) 21 [some (.ref (cBase k + 14)), some (.int (iZ (b : Int))), none, none] [.int (iZ (gB kd l n b 1))] σ1 := by
  intro σ1 hW1 hF1
  refine r_istore_n S dX12_greater_21 rfl (by decide) (lv' := [_, _, _, _]) rfl ?_
  refine r_aload_n S dX12_greater_22 rfl ?_
  refine r_iload_n S dX12_greater_23 rfl ?_
  refine r_iconst S dX12_greater_24 ?_
  have hM0 := hF1.at (a := (cBase k + 14)) (by omega) (by omega) hM
  have hL0 := hF1.at (a := (cBase k + 15)) (by omega) (by omega) hL
  obtain ⟨⟨R0, hRT0⟩, ⟨mo0, hMM0⟩, t0, hT0, ht0⟩ := id hW1
  have hc0 := cnt_le (fun j => decide (nv l kd b 0 j ≠ -1)) n
  have hcn0 := cnt_nv hl kd b 0 n
  refine r_callV S (c_tries (y := 0) hM0 hn hL0 hl hT0 hkd hb (by decide)) k_mX12_tries c_RX12_113_11 dX12_greater_25 (by decide) ⟨by omega, by omega⟩ (by repeat (first | assumption | exact sUp_same | exact sNew_same | refine sUp_ne (by first | assumption | omega) ?_)) rfl rfl (Nat.le_of_ble_eq_true rfl) (fun r σ' hp => ?_)
  obtain ⟨_, rfl, rfl, rfl⟩ := hp
  try simp only [Option.toList_some, Option.toList_none, List.cons_append, List.nil_append]
  have ht20 := tkF_rng (fun j => nv_rng hl kd b 0 j) ht0 n
  obtain ⟨s0, hs0⟩ : ∃ s, s = sUp σ1 (cBase k + 24) (eI k 16 (tkF (nv l kd b 0) t0 n)) := ⟨_, rfl⟩
  rw [← hs0]
  have hWs0 : WS k s0 := by
    rw [hs0]
    exact ⟨⟨R0, hRT0.fr (fun a ha hb2 => if_neg (by omega))⟩, ⟨mo0, sUp_ne (by omega) hMM0⟩, _, sUp_same, ht20⟩
  have hFs0 : FrG k σ s0 := by
    rw [hs0]
    exact hF1.up rfl
  have hM3 := hFs0.at (a := (cBase k + 14)) (by omega) (by omega) hM
  refine r_if_ne S dX12_greater_28 (tgt := 35) (by decide) ⟨by omega, by omega⟩ (fun h_28 => ?_) (fun h_28 => ?_)
  · refine r_aload_n S dX12_greater_35 rfl ?_
    refine r_aload_n S dX12_greater_36 rfl ?_
    refine r_getf S g_RX12_46_11 dX12_greater_37 (by repeat (first | assumption | exact sUp_same | exact sNew_same | refine sUp_ne (by first | assumption | omega) ?_)) rfl ?_
    have hT3 : s0.2 (cBase k + 24) = some (eI k 16 (tkF (nv l kd b 0) t0 n)) := by
      rw [hs0]
      exact sUp_same
    obtain ⟨⟨R3, hRT3⟩, ⟨mo3, hMM3⟩, _⟩ := id hWs0
    refine r_callV S (c_worthOf hM3 hT3 ⟨by omega, by omega⟩ ht20 hn hkd hRT3 hMM3 (by rw [hQ_tk]; omega)) k_mX12_worthOf c_RX12_104_11 dX12_greater_40 (by decide) ⟨by omega, by omega⟩ (by repeat (first | assumption | exact sUp_same | exact sNew_same | refine sUp_ne (by first | assumption | omega) ?_)) rfl rfl (Nat.le_of_ble_eq_true rfl) (fun r σ' hp => ?_)
    obtain ⟨_, rfl, rfl, R4, hRT4, hK4, ⟨mo4, hMM4, hmo4⟩, hF4⟩ := hp
    try simp only [Option.toList_some, Option.toList_none, List.cons_append, List.nil_append]
    rw [hQ_tk]
    have hWj := (⟨⟨R4, hRT4⟩, ⟨mo4, hMM4⟩, _, hF4.at (by omega) (by omega) hT3, ht20⟩ : WS k _)
    have hFj := hFs0.trans (FrG.m hF4)
    refine r_num (z' := gB kd l n b 0) (by unfold gB; rw [if_neg (by omega)]) ?_
    exact s_gr43 hM hn hL hl hkd hb S _ hWj hFj
  · refine r_iconst S dX12_greater_31 ?_
    refine r_goto S dX12_greater_32 (tgt := 43) (by decide) ?_
    refine r_num (z' := gB kd l n b 0) (by unfold gB; rw [if_pos (by omega)]) ?_
    exact s_gr43 hM hn hL hl hkd hb S _ hWs0 hFs0

set_option maxRecDepth 100000 in
set_option maxHeartbeats 4000000 in
theorem c_greater {k : Cx} {L0 : Launch} {σ : St} {hg e wt tb tr sk sm q : Int} {kd n an : Nat} (hM : σ.2 (cBase k + 14) = some (oModel k hg kd n e an wt tb q tr sk sm)) (hn : n ≤ 16) {l : Nat → Int} (hL : σ.2 (cBase k + 15) = some (eI k 16 l)) (hl : ∀ j, -1 ≤ l j ∧ l j ≤ 3) (hkd : kd < 3) {b : Nat} (hb : b < 65536) (hW : WS k σ) : CtrV k L0 mX12_greater 6 0 0 [.ref (cBase k + 14), .int (iZ (b : Int))] σ (fun v σ' => v = .int (iZ (grt kd l n b)) ∧ WS k σ' ∧ FrG k σ σ') := by
  refine Ctr.of (by decide +kernel) rfl (Nat.le_of_ble_eq_true rfl) ?_
  intro κ hl0 S
  subst hl0
  refine r_aload_n S dX12_greater_0 rfl ?_
  refine r_iload_n S dX12_greater_1 rfl ?_
  refine r_iconst S dX12_greater_2 ?_
  have hM1 := (FrG.refl (k := k) (σ := σ)).at (a := (cBase k + 14)) (by omega) (by omega) hM
  have hL1 := (FrG.refl (k := k) (σ := σ)).at (a := (cBase k + 15)) (by omega) (by omega) hL
  obtain ⟨⟨R1, hRT1⟩, ⟨mo1, hMM1⟩, t1, hT1, ht1⟩ := id hW
  have hc1 := cnt_le (fun j => decide (nv l kd b 1 j ≠ -1)) n
  have hcn1 := cnt_nv hl kd b 1 n
  refine r_callV S (c_tries (y := 1) hM1 hn hL1 hl hT1 hkd hb (by decide)) k_mX12_tries c_RX12_113_11 dX12_greater_3 (by decide) ⟨by omega, by omega⟩ (by repeat (first | assumption | exact sUp_same | exact sNew_same | refine sUp_ne (by first | assumption | omega) ?_)) rfl rfl (Nat.le_of_ble_eq_true rfl) (fun r σ' hp => ?_)
  obtain ⟨_, rfl, rfl, rfl⟩ := hp
  try simp only [Option.toList_some, Option.toList_none, List.cons_append, List.nil_append]
  have ht21 := tkF_rng (fun j => nv_rng hl kd b 1 j) ht1 n
  obtain ⟨s1, hs1⟩ : ∃ s, s = sUp σ (cBase k + 24) (eI k 16 (tkF (nv l kd b 1) t1 n)) := ⟨_, rfl⟩
  rw [← hs1]
  have hWs1 : WS k s1 := by
    rw [hs1]
    exact ⟨⟨R1, hRT1.fr (fun a ha hb2 => if_neg (by omega))⟩, ⟨mo1, sUp_ne (by omega) hMM1⟩, _, sUp_same, ht21⟩
  have hFs1 : FrG k σ s1 := by
    rw [hs1]
    exact (FrG.refl (k := k) (σ := σ)).up rfl
  have hM3 := hFs1.at (a := (cBase k + 14)) (by omega) (by omega) hM
  refine r_if_ne S dX12_greater_6 (tgt := 13) (by decide) ⟨by omega, by omega⟩ (fun h_6 => ?_) (fun h_6 => ?_)
  · refine r_aload_n S dX12_greater_13 rfl ?_
    refine r_aload_n S dX12_greater_14 rfl ?_
    refine r_getf S g_RX12_46_11 dX12_greater_15 (by repeat (first | assumption | exact sUp_same | exact sNew_same | refine sUp_ne (by first | assumption | omega) ?_)) rfl ?_
    have hT3 : s1.2 (cBase k + 24) = some (eI k 16 (tkF (nv l kd b 1) t1 n)) := by
      rw [hs1]
      exact sUp_same
    obtain ⟨⟨R3, hRT3⟩, ⟨mo3, hMM3⟩, _⟩ := id hWs1
    refine r_callV S (c_worthOf hM3 hT3 ⟨by omega, by omega⟩ ht21 hn hkd hRT3 hMM3 (by rw [hQ_tk]; omega)) k_mX12_worthOf c_RX12_104_11 dX12_greater_18 (by decide) ⟨by omega, by omega⟩ (by repeat (first | assumption | exact sUp_same | exact sNew_same | refine sUp_ne (by first | assumption | omega) ?_)) rfl rfl (Nat.le_of_ble_eq_true rfl) (fun r σ' hp => ?_)
    obtain ⟨_, rfl, rfl, R4, hRT4, hK4, ⟨mo4, hMM4, hmo4⟩, hF4⟩ := hp
    try simp only [Option.toList_some, Option.toList_none, List.cons_append, List.nil_append]
    rw [hQ_tk]
    have hWj := (⟨⟨R4, hRT4⟩, ⟨mo4, hMM4⟩, _, hF4.at (by omega) (by omega) hT3, ht21⟩ : WS k _)
    have hFj := hFs1.trans (FrG.m hF4)
    refine r_num (z' := gB kd l n b 1) (by unfold gB; rw [if_neg (by omega)]) ?_
    exact s_gr21 hM hn hL hl hkd hb S _ hWj hFj
  · refine r_iconst S dX12_greater_9 ?_
    refine r_goto S dX12_greater_10 (tgt := 21) (by decide) ?_
    refine r_num (z' := gB kd l n b 1) (by unfold gB; rw [if_pos (by omega)]) ?_
    exact s_gr21 hM hn hL hl hkd hb S _ hWs1 hFs1

set_option maxRecDepth 100000 in
set_option maxHeartbeats 4000000 in
theorem l_bestM {κ : Kx} {k : Cx} {σ : St} {hg e wt tb tr sk sm q : Int} {kd n an : Nat} (hM : σ.2 (cBase k + 14) = some (oModel k hg kd n e an wt tb q tr sk sm)) (hn : n ≤ 16) {l : Nat → Int} (hL : σ.2 (cBase k + 15) = some (eI k 16 l)) (hl : ∀ j, -1 ≤ l j ∧ l j ≤ 3) (hkd : kd < 3) (S : Ok κ k cX12_best 6 RX12 (some .int) "best" 7 0 0) : ∀ (m i : Nat), i + m = 2 ^ n → ∀ bb : Nat, BO (grt kd l n) i bb → ∀ σc : St, WS k σc → FrG k σ σc → V κ k 6 0 0 (QR κ k (fun r σ' => ∃ v, r = some v ∧ (∃ b : Nat, v = .int (iZ (b : Int)) ∧ BO (grt kd l n) (2 ^ n) b ∧ WS k σ' ∧ FrG k σ σ')) 0 0) 77 [some (.ref (cBase k + 14)), none, some (.int (iZ ((bb : Int)))), some (.int (iZ (grt kd l n bb))), some (.int (iZ ((i : Int)))), none] [] σc := by
  intro m
  induction m with
  | zero =>
    intro i hi bb hB σc hW hF
    have hp : 2 ^ n ≤ 2 ^ 16 := Nat.pow_le_pow_right (by decide) hn
    have hMc := hF.at (a := (cBase k + 14)) (by omega) (by omega) hM
    have hLc := hF.at (a := (cBase k + 15)) (by omega) (by omega) hL
    have gr1 := grt_rng kd l n bb
    have gr2 := grt_rng kd l n i
    have hbl := hB.1
    refine r_iload S dX12_best_77 rfl ?_
    refine r_iconst S dX12_best_79 ?_
    refine r_aload_n S dX12_best_80 rfl ?_
    refine r_getf S g_RX12_91_11 dX12_best_81 (by repeat (first | assumption | exact sUp_same | exact sNew_same | refine sUp_ne (by first | assumption | omega) ?_)) rfl ?_
    refine r_ishl S dX12_best_84 (v := iZ ((2 ^ n : Nat) : Int)) (by have h9 := shlZ (a := 1) (i := n) (pw1 hn) (by omega); rw [Nat.one_mul] at h9; exact h9) ?_
    refine r_icmp_ge S dX12_best_85 (tgt := 114) (by decide) ⟨by omega, by omega⟩ ⟨by omega, by omega⟩ (fun h_85 => ?_) (fun h_85 => ?_)
    · refine r_iload_n S dX12_best_114 rfl ?_
      exact r_iret S dX12_best_115 (by omega) (by omega) (⟨_, rfl, bb, rfl, by rw [← show i = 2 ^ n by omega]; exact hB, hW, hF⟩)
    · omega
  | succ m ih =>
    intro i hi bb hB σc hW hF
    have hp : 2 ^ n ≤ 2 ^ 16 := Nat.pow_le_pow_right (by decide) hn
    have hMc := hF.at (a := (cBase k + 14)) (by omega) (by omega) hM
    have hLc := hF.at (a := (cBase k + 15)) (by omega) (by omega) hL
    have gr1 := grt_rng kd l n bb
    have gr2 := grt_rng kd l n i
    have hbl := hB.1
    refine r_iload S dX12_best_77 rfl ?_
    refine r_iconst S dX12_best_79 ?_
    refine r_aload_n S dX12_best_80 rfl ?_
    refine r_getf S g_RX12_91_11 dX12_best_81 (by repeat (first | assumption | exact sUp_same | exact sNew_same | refine sUp_ne (by first | assumption | omega) ?_)) rfl ?_
    refine r_ishl S dX12_best_84 (v := iZ ((2 ^ n : Nat) : Int)) (by have h9 := shlZ (a := 1) (i := n) (pw1 hn) (by omega); rw [Nat.one_mul] at h9; exact h9) ?_
    refine r_icmp_ge S dX12_best_85 (tgt := 114) (by decide) ⟨by omega, by omega⟩ ⟨by omega, by omega⟩ (fun h_85 => ?_) (fun h_85 => ?_)
    · omega
    · refine r_aload_n S dX12_best_88 rfl ?_
      refine r_iload S dX12_best_89 rfl ?_
      refine r_callV S (c_greater hMc hn hLc hl hkd (by omega) hW) k_mX12_greater c_RX12_143_11 dX12_best_91 (by decide) ⟨by omega, by omega⟩ (by repeat (first | assumption | exact sUp_same | exact sNew_same | refine sUp_ne (by first | assumption | omega) ?_)) rfl rfl (Nat.le_of_ble_eq_true rfl) (fun r σ' hp => ?_)
      obtain ⟨_, rfl, rfl, hW2, hF2⟩ := hp
      try simp only [Option.toList_some, Option.toList_none, List.cons_append, List.nil_append]
      refine r_istore S dX12_best_94 rfl (by decide) (lv' := [_, _, _, _, _, _]) rfl ?_
      refine r_iload S dX12_best_96 rfl ?_
      refine r_iload_n S dX12_best_98 rfl ?_
      refine r_icmp_ge S dX12_best_99 (tgt := 108) (by decide) ⟨by omega, by omega⟩ ⟨by omega, by omega⟩ (fun h_99 => ?_) (fun h_99 => ?_)
      · refine r_iinc S dX12_best_108 rfl rfl (by decide) (lv' := [_, _, _, _, _, _]) rfl ?_
        refine r_goto S dX12_best_111 (tgt := 77) (by decide) ?_
        refine V.mask [true, false, true, true, true, false] (lv' := [_, none, _, _, _, none]) rfl ?_
        exact ih (i + 1) (by omega) _ (BO_ge hB (by omega)) _ hW2 (hF.trans hF2)
      · refine r_iload S dX12_best_102 rfl ?_
        refine r_istore_n S dX12_best_104 rfl (by decide) (lv' := [_, _, _, _, _, _]) rfl ?_
        refine r_iload S dX12_best_105 rfl ?_
        refine r_istore_n S dX12_best_107 rfl (by decide) (lv' := [_, _, _, _, _, _]) rfl ?_
        refine r_iinc S dX12_best_108 rfl rfl (by decide) (lv' := [_, _, _, _, _, _]) rfl ?_
        refine r_goto S dX12_best_111 (tgt := 77) (by decide) ?_
        refine V.mask [true, false, true, true, true, false] (lv' := [_, none, _, _, _, none]) rfl ?_
        exact ih (i + 1) (by omega) _ (BO_lt hB (by omega)) _ hW2 (hF.trans hF2)

set_option maxRecDepth 100000 in
set_option maxHeartbeats 4000000 in
theorem l_bestL {κ : Kx} {k : Cx} {σ : St} {Q : State → Prop} {hg e wt tb tr sk sm q : Int} {kd n an : Nat} (hM : σ.2 (cBase k + 14) = some (oModel k hg kd n e an wt tb q tr sk sm)) (hn : n ≤ 16) {l : Nat → Int} (hL : σ.2 (cBase k + 15) = some (eI k 16 l)) (hl : ∀ j, -1 ≤ l j ∧ l j ≤ 3) (hkd : kd < 3) {mo : Nat → Int} (hMM : σ.2 (cBase k + 23) = some (eI k 4 mo)) (hmo : ∀ j, j < 4 → mo j = (qat (hQ l 0 n) j : Int)) {R0 : Nat → Int} (kk : ∀ (σc : St) (R : Nat → Int), LvS k σ σc R → (∀ j, 0 ≤ R j ∧ R j ≤ 14) → RowOk R → V κ k 6 0 0 Q 66 [some (.ref (cBase k + 14)), none, none, none, none, none] [] σc) (S : Ok κ k cX12_best 6 RX12 (some .int) "best" 7 0 0) : ∀ (r lev : Nat), lev + r = 14 → 1 ≤ lev → ∀ (σc : St) (R : Nat → Int), LvS k σ σc R → LvK R0 R kd lev (hQ l 0 n) → V κ k 6 0 0 Q 45 [some (.ref (cBase k + 14)), none, some (.int (iZ ((lev : Int)))), none, none, none] [] σc := by
  intro r
  induction r with
  | zero =>
    intro lev hr hl1 σc R hls hinv
    obtain ⟨hRc, ⟨hp0, hHc⟩, ⟨bd0, hBc⟩, ⟨ct, hCc⟩, hsz, hfr⟩ := id hls
    obtain ⟨h1, h2, h3, h4, h5⟩ := id hinv
    have hMc := (hfr (cBase k + 14) (by omega) (by omega) (by omega) (by omega)).trans hM
    have hMMc := (hfr (cBase k + 23) (by omega) (by omega) (by omega) (by omega)).trans hMM
    refine r_iload_n S dX12_best_45 rfl ?_
    refine r_bipush S dX12_best_46 (by decide) ?_
    refine r_icmp_gt S dX12_best_48 (tgt := 66) (by decide) ⟨by omega, by omega⟩ ⟨by omega, by omega⟩ (fun h_48 => ?_) (fun h_48 => ?_)
    · refine V.mask [true, false, false, false, false, false] (lv' := [_, none, none, none, none, none]) rfl ?_
      exact kk _ R hls h1 h2
    · omega
  | succ r ih =>
    intro lev hr hl1 σc R hls hinv
    obtain ⟨hRc, ⟨hp0, hHc⟩, ⟨bd0, hBc⟩, ⟨ct, hCc⟩, hsz, hfr⟩ := id hls
    obtain ⟨h1, h2, h3, h4, h5⟩ := id hinv
    have hMc := (hfr (cBase k + 14) (by omega) (by omega) (by omega) (by omega)).trans hM
    have hMMc := (hfr (cBase k + 23) (by omega) (by omega) (by omega) (by omega)).trans hMM
    refine r_iload_n S dX12_best_45 rfl ?_
    refine r_bipush S dX12_best_46 (by decide) ?_
    refine r_icmp_gt S dX12_best_48 (tgt := 66) (by decide) ⟨by omega, by omega⟩ ⟨by omega, by omega⟩ (fun h_48 => ?_) (fun h_48 => ?_)
    · omega
    · refine r_aload_n S dX12_best_51 rfl ?_
      refine r_aload_n S dX12_best_52 rfl ?_
      refine r_getf S g_RX12_88_11 dX12_best_53 (by repeat (first | assumption | exact sUp_same | exact sNew_same | refine sUp_ne (by first | assumption | omega) ?_)) rfl ?_
      refine r_iload_n S dX12_best_56 rfl ?_
      refine r_callV S (c_levels hMc hkd ⟨by omega, by omega⟩ (Nat.le_trans (hQ_le l 0 n) hn) (hQ_dec l 0 n) hMMc hmo (LvS_self hls) (LvK_in hinv)) k_mX12_levels c_RX12_94_11 dX12_best_57 (by decide) ⟨by omega, by omega⟩ (by repeat (first | assumption | exact sUp_same | exact sNew_same | refine sUp_ne (by first | assumption | omega) ?_)) rfl rfl (Nat.le_of_ble_eq_true rfl) (fun r σ' hp => ?_)
      obtain ⟨rfl, R2, hls2, hinv2⟩ := hp
      try simp only [Option.toList_some, Option.toList_none, List.cons_append, List.nil_append]
      refine r_iinc S dX12_best_60 rfl rfl (by decide) (lv' := [_, _, _, _, _, _]) rfl ?_
      refine r_goto S dX12_best_63 (tgt := 45) (by decide) ?_
      exact ih (lev + 1) (by omega) (by omega) _ R2 (LvS_trans hls hls2) (LvK_next (by omega) hinv hinv2)

set_option maxRecDepth 100000 in
set_option maxHeartbeats 4000000 in
theorem c_bestM0 {k : Cx} {L0 : Launch} {σ : St} {e wt tb tr sk sm q : Int} {kd n an : Nat} (hM : σ.2 (cBase k + 14) = some (oModel k 0 kd n e an wt tb q tr sk sm)) (hn : n ≤ 16) {l : Nat → Int} (hL : σ.2 (cBase k + 15) = some (eI k 16 l)) (hl : ∀ j, -1 ≤ l j ∧ l j ≤ 3) (hkd : kd < 3) (hW : WS k σ) : CtrV k L0 mX12_best 7 0 0 [.ref (cBase k + 14)] σ (fun v σ' => v = .int (iZ (-2)) ∧ WS k σ' ∧ FrG k σ σ') := by
  refine Ctr.of (by decide +kernel) rfl (Nat.le_of_ble_eq_true rfl) ?_
  intro κ hl0 S
  subst hl0
  refine r_aload_n S dX12_best_0 rfl ?_
  refine r_getf S g_RX12_49_11 dX12_best_1 (by repeat (first | assumption | exact sUp_same | exact sNew_same | refine sUp_ne (by first | assumption | omega) ?_)) rfl ?_
  refine r_if_eq S dX12_best_4 (tgt := 31) (by decide) ⟨by omega, by omega⟩ (fun h_4 => ?_) (fun h_4 => ?_)
  · refine r_bipush S dX12_best_31 (by decide) ?_
    exact r_iret S dX12_best_33 (by omega) (by omega) (⟨_, rfl, rfl, hW, FrG.refl⟩)
  · omega

set_option maxRecDepth 100000 in
set_option maxHeartbeats 4000000 in
theorem c_bestMx {k : Cx} {L0 : Launch} {σ : St} {e wt tb tr sk sm q : Int} {kd n an : Nat} (hM : σ.2 (cBase k + 14) = some (oModel k 1 kd n e an wt tb q tr sk sm)) (hn : n ≤ 16) {l : Nat → Int} (hL : σ.2 (cBase k + 15) = some (eI k 16 l)) (hl : ∀ j, -1 ≤ l j ∧ l j ≤ 3) (hkd : kd < 3) (hst : 1 ≤ (hQ l 0 n).1) (hW : WS k σ) (hx : (fewN (cyK kd) (cnK kd) (hQ l 0 n)) = 0 ∨ (fewN (cyK kd) (cnK kd) (hQ l 0 n)) = 13) : CtrV k L0 mX12_best 7 0 0 [.ref (cBase k + 14)] σ (fun v σ' => v = .int (iZ (-2)) ∧ WS k σ' ∧ FrG k σ σ') := by
  refine Ctr.of (by decide +kernel) rfl (Nat.le_of_ble_eq_true rfl) ?_
  intro κ hl0 S
  subst hl0
  have hfl := fewN_le (cyK kd) (cnK kd) (hQ l 0 n)
  refine r_aload_n S dX12_best_0 rfl ?_
  refine r_getf S g_RX12_49_11 dX12_best_1 (by repeat (first | assumption | exact sUp_same | exact sNew_same | refine sUp_ne (by first | assumption | omega) ?_)) rfl ?_
  refine r_if_eq S dX12_best_4 (tgt := 31) (by decide) ⟨by omega, by omega⟩ (fun h_4 => ?_) (fun h_4 => ?_)
  · omega
  · refine r_aload_n S dX12_best_7 rfl ?_
    refine r_aload_n S dX12_best_8 rfl ?_
    refine r_getf S g_RX12_13_11 dX12_best_9 (by repeat (first | assumption | exact sUp_same | exact sNew_same | refine sUp_ne (by first | assumption | omega) ?_)) rfl ?_
    have hMa1 := (FrG.refl (k := k) (σ := σ)).at (a := (cBase k + 14)) (by omega) (by omega) hM
    have hLa1 := (FrG.refl (k := k) (σ := σ)).at (a := (cBase k + 15)) (by omega) (by omega) hL
    obtain ⟨⟨Ra1, hRTa1⟩, ⟨moa1, hMMa1⟩, ta1, hTa1, hta1⟩ := id hW
    refine r_callV S (c_worthOf hMa1 hLa1 ⟨by omega, by omega⟩ hl hn hkd hRTa1 hMMa1 hst) k_mX12_worthOf c_RX12_104_11 dX12_best_12 (by decide) ⟨by omega, by omega⟩ (by repeat (first | assumption | exact sUp_same | exact sNew_same | refine sUp_ne (by first | assumption | omega) ?_)) rfl rfl (Nat.le_of_ble_eq_true rfl) (fun r σ' hp => ?_)
    obtain ⟨_, rfl, rfl, Rb1, hRTb1, hKb1, ⟨mob1, hMMb1, hmob1⟩, hFb1⟩ := hp
    try simp only [Option.toList_some, Option.toList_none, List.cons_append, List.nil_append]
    have hWb1 := (⟨⟨Rb1, hRTb1⟩, ⟨mob1, hMMb1⟩, _, hFb1.at (by omega) (by omega) hTa1, hta1⟩ : WS k _)
    have hFc1 := (FrG.refl (k := k) (σ := σ)).trans (FrG.m hFb1)
    have hMz1 := hFc1.at (a := (cBase k + 14)) (by omega) (by omega) hM
    refine r_if_eq S dX12_best_15 (tgt := 31) (by decide) ⟨by omega, by omega⟩ (fun h_15 => ?_) (fun h_15 => ?_)
    · refine r_bipush S dX12_best_31 (by decide) ?_
      exact r_iret S dX12_best_33 (by omega) (by omega) (⟨_, rfl, rfl, hWb1, hFc1⟩)
    · refine r_aload_n S dX12_best_18 rfl ?_
      refine r_aload_n S dX12_best_19 rfl ?_
      refine r_getf S g_RX12_13_11 dX12_best_20 (by repeat (first | assumption | exact sUp_same | exact sNew_same | refine sUp_ne (by first | assumption | omega) ?_)) rfl ?_
      have hMa2 := hFc1.at (a := (cBase k + 14)) (by omega) (by omega) hM
      have hLa2 := hFc1.at (a := (cBase k + 15)) (by omega) (by omega) hL
      obtain ⟨⟨Ra2, hRTa2⟩, ⟨moa2, hMMa2⟩, ta2, hTa2, hta2⟩ := id hWb1
      refine r_callV S (c_worthOf hMa2 hLa2 ⟨by omega, by omega⟩ hl hn hkd hRTa2 hMMa2 hst) k_mX12_worthOf c_RX12_104_11 dX12_best_23 (by decide) ⟨by omega, by omega⟩ (by repeat (first | assumption | exact sUp_same | exact sNew_same | refine sUp_ne (by first | assumption | omega) ?_)) rfl rfl (Nat.le_of_ble_eq_true rfl) (fun r σ' hp => ?_)
      obtain ⟨_, rfl, rfl, Rb2, hRTb2, hKb2, ⟨mob2, hMMb2, hmob2⟩, hFb2⟩ := hp
      try simp only [Option.toList_some, Option.toList_none, List.cons_append, List.nil_append]
      have hWb2 := (⟨⟨Rb2, hRTb2⟩, ⟨mob2, hMMb2⟩, _, hFb2.at (by omega) (by omega) hTa2, hta2⟩ : WS k _)
      have hFc2 := hFc1.trans (FrG.m hFb2)
      have hMz2 := hFc2.at (a := (cBase k + 14)) (by omega) (by omega) hM
      refine r_bipush S dX12_best_26 (by decide) ?_
      refine r_icmp_ne S dX12_best_28 (tgt := 34) (by decide) ⟨by omega, by omega⟩ ⟨by omega, by omega⟩ (fun h_28 => ?_) (fun h_28 => ?_)
      · omega
      · refine r_bipush S dX12_best_31 (by decide) ?_
        exact r_iret S dX12_best_33 (by omega) (by omega) (⟨_, rfl, rfl, hWb2, hFc2⟩)

set_option maxRecDepth 100000 in
set_option maxHeartbeats 4000000 in
theorem c_bestM {k : Cx} {L0 : Launch} {σ : St} {e wt tb tr sk sm q : Int} {kd n an : Nat} (hM : σ.2 (cBase k + 14) = some (oModel k 1 kd n e an wt tb q tr sk sm)) (hn : n ≤ 16) {l : Nat → Int} (hL : σ.2 (cBase k + 15) = some (eI k 16 l)) (hl : ∀ j, -1 ≤ l j ∧ l j ≤ 3) (hkd : kd < 3) (hst : 1 ≤ (hQ l 0 n).1) (hW : WS k σ) (hx : 1 ≤ (fewN (cyK kd) (cnK kd) (hQ l 0 n)) ∧ (fewN (cyK kd) (cnK kd) (hQ l 0 n)) ≤ 12) : CtrV k L0 mX12_best 7 0 0 [.ref (cBase k + 14)] σ (fun v σ' => ∃ b : Nat, v = .int (iZ (b : Int)) ∧ BO (grt kd l n) (2 ^ n) b ∧ WS k σ' ∧ FrG k σ σ') := by
  refine Ctr.of (by decide +kernel) rfl (Nat.le_of_ble_eq_true rfl) ?_
  intro κ hl0 S
  subst hl0
  have hfl := fewN_le (cyK kd) (cnK kd) (hQ l 0 n)
  refine r_aload_n S dX12_best_0 rfl ?_
  refine r_getf S g_RX12_49_11 dX12_best_1 (by repeat (first | assumption | exact sUp_same | exact sNew_same | refine sUp_ne (by first | assumption | omega) ?_)) rfl ?_
  refine r_if_eq S dX12_best_4 (tgt := 31) (by decide) ⟨by omega, by omega⟩ (fun h_4 => ?_) (fun h_4 => ?_)
  · omega
  · refine r_aload_n S dX12_best_7 rfl ?_
    refine r_aload_n S dX12_best_8 rfl ?_
    refine r_getf S g_RX12_13_11 dX12_best_9 (by repeat (first | assumption | exact sUp_same | exact sNew_same | refine sUp_ne (by first | assumption | omega) ?_)) rfl ?_
    have hMa1 := (FrG.refl (k := k) (σ := σ)).at (a := (cBase k + 14)) (by omega) (by omega) hM
    have hLa1 := (FrG.refl (k := k) (σ := σ)).at (a := (cBase k + 15)) (by omega) (by omega) hL
    obtain ⟨⟨Ra1, hRTa1⟩, ⟨moa1, hMMa1⟩, ta1, hTa1, hta1⟩ := id hW
    refine r_callV S (c_worthOf hMa1 hLa1 ⟨by omega, by omega⟩ hl hn hkd hRTa1 hMMa1 hst) k_mX12_worthOf c_RX12_104_11 dX12_best_12 (by decide) ⟨by omega, by omega⟩ (by repeat (first | assumption | exact sUp_same | exact sNew_same | refine sUp_ne (by first | assumption | omega) ?_)) rfl rfl (Nat.le_of_ble_eq_true rfl) (fun r σ' hp => ?_)
    obtain ⟨_, rfl, rfl, Rb1, hRTb1, hKb1, ⟨mob1, hMMb1, hmob1⟩, hFb1⟩ := hp
    try simp only [Option.toList_some, Option.toList_none, List.cons_append, List.nil_append]
    have hWb1 := (⟨⟨Rb1, hRTb1⟩, ⟨mob1, hMMb1⟩, _, hFb1.at (by omega) (by omega) hTa1, hta1⟩ : WS k _)
    have hFc1 := (FrG.refl (k := k) (σ := σ)).trans (FrG.m hFb1)
    have hMz1 := hFc1.at (a := (cBase k + 14)) (by omega) (by omega) hM
    refine r_if_eq S dX12_best_15 (tgt := 31) (by decide) ⟨by omega, by omega⟩ (fun h_15 => ?_) (fun h_15 => ?_)
    · omega
    · refine r_aload_n S dX12_best_18 rfl ?_
      refine r_aload_n S dX12_best_19 rfl ?_
      refine r_getf S g_RX12_13_11 dX12_best_20 (by repeat (first | assumption | exact sUp_same | exact sNew_same | refine sUp_ne (by first | assumption | omega) ?_)) rfl ?_
      have hMa2 := hFc1.at (a := (cBase k + 14)) (by omega) (by omega) hM
      have hLa2 := hFc1.at (a := (cBase k + 15)) (by omega) (by omega) hL
      obtain ⟨⟨Ra2, hRTa2⟩, ⟨moa2, hMMa2⟩, ta2, hTa2, hta2⟩ := id hWb1
      refine r_callV S (c_worthOf hMa2 hLa2 ⟨by omega, by omega⟩ hl hn hkd hRTa2 hMMa2 hst) k_mX12_worthOf c_RX12_104_11 dX12_best_23 (by decide) ⟨by omega, by omega⟩ (by repeat (first | assumption | exact sUp_same | exact sNew_same | refine sUp_ne (by first | assumption | omega) ?_)) rfl rfl (Nat.le_of_ble_eq_true rfl) (fun r σ' hp => ?_)
      obtain ⟨_, rfl, rfl, Rb2, hRTb2, hKb2, ⟨mob2, hMMb2, hmob2⟩, hFb2⟩ := hp
      try simp only [Option.toList_some, Option.toList_none, List.cons_append, List.nil_append]
      have hWb2 := (⟨⟨Rb2, hRTb2⟩, ⟨mob2, hMMb2⟩, _, hFb2.at (by omega) (by omega) hTa2, hta2⟩ : WS k _)
      have hFc2 := hFc1.trans (FrG.m hFb2)
      have hMz2 := hFc2.at (a := (cBase k + 14)) (by omega) (by omega) hM
      refine r_bipush S dX12_best_26 (by decide) ?_
      refine r_icmp_ne S dX12_best_28 (tgt := 34) (by decide) ⟨by omega, by omega⟩ ⟨by omega, by omega⟩ (fun h_28 => ?_) (fun h_28 => ?_)
      · refine r_aload_n S dX12_best_34 rfl ?_
        refine r_aload_n S dX12_best_35 rfl ?_
        refine r_getf S g_RX12_13_11 dX12_best_36 (by repeat (first | assumption | exact sUp_same | exact sNew_same | refine sUp_ne (by first | assumption | omega) ?_)) rfl ?_
        have hMa3 := hFc2.at (a := (cBase k + 14)) (by omega) (by omega) hM
        have hLa3 := hFc2.at (a := (cBase k + 15)) (by omega) (by omega) hL
        obtain ⟨⟨Ra3, hRTa3⟩, ⟨moa3, hMMa3⟩, ta3, hTa3, hta3⟩ := id hWb2
        refine r_callV S (c_worthOf hMa3 hLa3 ⟨by omega, by omega⟩ hl hn hkd hRTa3 hMMa3 hst) k_mX12_worthOf c_RX12_104_11 dX12_best_39 (by decide) ⟨by omega, by omega⟩ (by repeat (first | assumption | exact sUp_same | exact sNew_same | refine sUp_ne (by first | assumption | omega) ?_)) rfl rfl (Nat.le_of_ble_eq_true rfl) (fun r σ' hp => ?_)
        obtain ⟨_, rfl, rfl, Rb3, hRTb3, hKb3, ⟨mob3, hMMb3, hmob3⟩, hFb3⟩ := hp
        try simp only [Option.toList_some, Option.toList_none, List.cons_append, List.nil_append]
        have hWb3 := (⟨⟨Rb3, hRTb3⟩, ⟨mob3, hMMb3⟩, _, hFb3.at (by omega) (by omega) hTa3, hta3⟩ : WS k _)
        have hFc3 := hFc2.trans (FrG.m hFb3)
        have hMz3 := hFc3.at (a := (cBase k + 14)) (by omega) (by omega) hM
        refine r_istore_n S dX12_best_42 rfl (by decide) (lv' := [_, _, _, _, _, _]) rfl ?_
        refine r_iconst S dX12_best_43 ?_
        refine r_istore_n S dX12_best_44 rfl (by decide) (lv' := [_, _, _, _, _, _]) rfl ?_
        refine V.mask [true, false, true, false, false, false] (lv' := [_, none, _, none, none, none]) rfl ?_
        have hMb3 := hFc3.at (a := (cBase k + 14)) (by omega) (by omega) hM
        have hLb3 := hFc3.at (a := (cBase k + 15)) (by omega) (by omega) hL
        obtain ⟨r1, r20, r21, r22, r5, r6⟩ := id hRTb3
        refine l_bestL (R0 := Rb3) hMb3 hn hLb3 hl hkd hMMb3 hmob3 (fun σc Rc hlc q1 q2 => ?_) S 13 1 (by omega) (by omega) _ Rb3 ⟨r1, r20, r21, r22, rfl, fun _ _ _ _ _ => rfl⟩ ⟨r5, r6, Kn_0 hKb3 _, fun _ _ => rfl, fun h => absurd h (by decide)⟩
        have hFd := hFc3.trans (FrG.m (FrM.lv hlc))
        have hMd := hFd.at (a := (cBase k + 14)) (by omega) (by omega) hM
        have hLd := hFd.at (a := (cBase k + 15)) (by omega) (by omega) hL
        obtain ⟨u1, u20, u21, u22, u5, u6⟩ := id hlc
        obtain ⟨_, _, td, hTd, htd⟩ := id hWb3
        have hWd : WS k σc := ⟨⟨Rc, u1, u20, u21, u22, q1, q2⟩, ⟨_, (u6 _ (by omega) (by omega) (by omega) (by omega)).trans hMMb3⟩, td, (u6 _ (by omega) (by omega) (by omega) (by omega)).trans hTd, htd⟩
        have hpp := Nat.two_pow_pos n
        refine r_iconst S dX12_best_66 ?_
        refine r_istore_n S dX12_best_67 rfl (by decide) (lv' := [_, _, _, _, _, _]) rfl ?_
        refine r_aload_n S dX12_best_68 rfl ?_
        refine r_iconst S dX12_best_69 ?_
        refine r_callV S (c_greater (b := 0) hMd hn hLd hl hkd (by omega) hWd) k_mX12_greater c_RX12_143_11 dX12_best_70 (by decide) ⟨by omega, by omega⟩ (by repeat (first | assumption | exact sUp_same | exact sNew_same | refine sUp_ne (by first | assumption | omega) ?_)) rfl rfl (Nat.le_of_ble_eq_true rfl) (fun r σ' hp => ?_)
        obtain ⟨_, rfl, rfl, hW2, hF2⟩ := hp
        try simp only [Option.toList_some, Option.toList_none, List.cons_append, List.nil_append]
        refine r_istore_n S dX12_best_73 rfl (by decide) (lv' := [_, _, _, _, _, _]) rfl ?_
        refine r_iconst S dX12_best_74 ?_
        refine r_istore S dX12_best_75 rfl (by decide) (lv' := [_, _, _, _, _, _]) rfl ?_
        refine V.mask [true, false, true, true, true, false] (lv' := [_, none, _, _, _, none]) rfl ?_
        exact l_bestM hM hn hL hl hkd S (2 ^ n - 1) 1 (by omega) 0 (BO_1 _) _ hW2 (hFd.trans hF2)
      · omega

set_option maxRecDepth 100000 in
set_option maxHeartbeats 4000000 in
theorem s_wo66 {κ : Kx} {k : Cx} {σ : St} {e tb tr sk sm q : Int} {kd n an b : Nat} (hM : σ.2 (cBase k + 14) = some (oModel k 1 kd n e an (b : Int) tb q tr sk sm)) (hn : n ≤ 16) {l : Nat → Int} (hL : σ.2 (cBase k + 15) = some (eI k 16 l)) (hl : ∀ j, -1 ≤ l j ∧ l j ≤ 3) (hkd : kd < 3) (hb : b < 65536) (S : Ok κ k cX12_worse 3 RX12 (some .int) "worse" 6 0 0) : ∀ σ2 : St, WS k σ2 → FrG k σ σ2 → V κ k 3 0 0 (QR κ k (fun r σ' => ∃ v, r = some v ∧ (v = .int (iZ (if gB kd l n b 1 = 13 ∨ gB kd l n b 0 = 13 then -2 else if gB kd l n b 0 ≤ gB kd l n b 1 then 1 else 0 : Int)) ∧ WS k σ' ∧ FrG k σ σ')) 0 0) 66 [some (.ref (cBase k + 14)), some (.int (iZ (gB kd l n b 1))), none] [.int (iZ (gB kd l n b 0))] σ2 := by
  intro σ2 hW2 hF2
  have g1 := gB_rng kd l n b 1
  have g0 := gB_rng kd l n b 0
  refine r_istore_n S dX12_worse_66 rfl (by decide) (lv' := [_, _, _]) rfl ?_
  refine r_iload_n S dX12_worse_67 rfl ?_
  refine r_bipush S dX12_worse_68 (by decide) ?_
  refine r_icmp_eq S dX12_worse_70 (tgt := 79) (by decide) ⟨by omega, by omega⟩ ⟨by omega, by omega⟩ (fun h_70 => ?_) (fun h_70 => ?_)
  · refine r_bipush S dX12_worse_79 (by decide) ?_
    refine r_goto S dX12_worse_81 (tgt := 94) (by decide) ?_
    exact r_iret S dX12_worse_94 (by omega) (by omega) (⟨_, rfl, by
      congr 2
      first
        | rw [if_pos (by omega)]
        | rw [if_neg (by omega), if_pos (by omega)]
        | rw [if_neg (by omega), if_neg (by omega)], hW2, hF2⟩)
  · refine r_iload_n S dX12_worse_73 rfl ?_
    refine r_bipush S dX12_worse_74 (by decide) ?_
    refine r_icmp_ne S dX12_worse_76 (tgt := 84) (by decide) ⟨by omega, by omega⟩ ⟨by omega, by omega⟩ (fun h_76 => ?_) (fun h_76 => ?_)
    · refine r_iload_n S dX12_worse_84 rfl ?_
      refine r_iload_n S dX12_worse_85 rfl ?_
      refine r_icmp_lt S dX12_worse_86 (tgt := 93) (by decide) ⟨by omega, by omega⟩ ⟨by omega, by omega⟩ (fun h_86 => ?_) (fun h_86 => ?_)
      · refine r_iconst S dX12_worse_93 ?_
        exact r_iret S dX12_worse_94 (by omega) (by omega) (⟨_, rfl, by
          congr 2
          first
            | rw [if_pos (by omega)]
            | rw [if_neg (by omega), if_pos (by omega)]
            | rw [if_neg (by omega), if_neg (by omega)], hW2, hF2⟩)
      · refine r_iconst S dX12_worse_89 ?_
        refine r_goto S dX12_worse_90 (tgt := 94) (by decide) ?_
        exact r_iret S dX12_worse_94 (by omega) (by omega) (⟨_, rfl, by
          congr 2
          first
            | rw [if_pos (by omega)]
            | rw [if_neg (by omega), if_pos (by omega)]
            | rw [if_neg (by omega), if_neg (by omega)], hW2, hF2⟩)
    · refine r_bipush S dX12_worse_79 (by decide) ?_
      refine r_goto S dX12_worse_81 (tgt := 94) (by decide) ?_
      exact r_iret S dX12_worse_94 (by omega) (by omega) (⟨_, rfl, by
        congr 2
        first
          | rw [if_pos (by omega)]
          | rw [if_neg (by omega), if_pos (by omega)]
          | rw [if_neg (by omega), if_neg (by omega)], hW2, hF2⟩)

set_option maxRecDepth 100000 in
set_option maxHeartbeats 4000000 in
theorem s_wo41 {κ : Kx} {k : Cx} {σ : St} {e tb tr sk sm q : Int} {kd n an b : Nat} (hM : σ.2 (cBase k + 14) = some (oModel k 1 kd n e an (b : Int) tb q tr sk sm)) (hn : n ≤ 16) {l : Nat → Int} (hL : σ.2 (cBase k + 15) = some (eI k 16 l)) (hl : ∀ j, -1 ≤ l j ∧ l j ≤ 3) (hkd : kd < 3) (hb : b < 65536) (S : Ok κ k cX12_worse 3 RX12 (some .int) "worse" 6 0 0) : ∀ σ1 : St, WS k σ1 → FrG k σ σ1 → V κ k 3 0 0 (QR κ k (fun r σ' => ∃ v, r = some v ∧ (v = .int (iZ (if gB kd l n b 1 = 13 ∨ gB kd l n b 0 = 13 then -2 else if gB kd l n b 0 ≤ gB kd l n b 1 then 1 else 0 : Int)) ∧ WS k σ' ∧ FrG k σ σ')) 0 0) 41 [some (.ref (cBase k + 14)), none, none] [.int (iZ (gB kd l n b 1))] σ1 := by
  intro σ1 hW1 hF1
  have hMw := hF1.at (a := (cBase k + 14)) (by omega) (by omega) hM
  refine r_istore_n S dX12_worse_41 rfl (by decide) (lv' := [_, _, _]) rfl ?_
  refine r_aload_n S dX12_worse_42 rfl ?_
  refine r_aload_n S dX12_worse_43 rfl ?_
  refine r_getf S g_RX12_7_11 dX12_worse_44 (by repeat (first | assumption | exact sUp_same | exact sNew_same | refine sUp_ne (by first | assumption | omega) ?_)) rfl ?_
  refine r_iconst S dX12_worse_47 ?_
  have hM0 := hF1.at (a := (cBase k + 14)) (by omega) (by omega) hM
  have hL0 := hF1.at (a := (cBase k + 15)) (by omega) (by omega) hL
  obtain ⟨⟨R0, hRT0⟩, ⟨mo0, hMM0⟩, t0, hT0, ht0⟩ := id hW1
  have hc0 := cnt_le (fun j => decide (nv l kd b 0 j ≠ -1)) n
  have hcn0 := cnt_nv hl kd b 0 n
  refine r_callV S (c_tries (y := 0) hM0 hn hL0 hl hT0 hkd hb (by decide)) k_mX12_tries c_RX12_113_11 dX12_worse_48 (by decide) ⟨by omega, by omega⟩ (by repeat (first | assumption | exact sUp_same | exact sNew_same | refine sUp_ne (by first | assumption | omega) ?_)) rfl rfl (Nat.le_of_ble_eq_true rfl) (fun r σ' hp => ?_)
  obtain ⟨_, rfl, rfl, rfl⟩ := hp
  try simp only [Option.toList_some, Option.toList_none, List.cons_append, List.nil_append]
  have ht20 := tkF_rng (fun j => nv_rng hl kd b 0 j) ht0 n
  obtain ⟨s0, hs0⟩ : ∃ s, s = sUp σ1 (cBase k + 24) (eI k 16 (tkF (nv l kd b 0) t0 n)) := ⟨_, rfl⟩
  rw [← hs0]
  have hWs0 : WS k s0 := by
    rw [hs0]
    exact ⟨⟨R0, hRT0.fr (fun a ha hb2 => if_neg (by omega))⟩, ⟨mo0, sUp_ne (by omega) hMM0⟩, _, sUp_same, ht20⟩
  have hFs0 : FrG k σ s0 := by
    rw [hs0]
    exact hF1.up rfl
  have hM3 := hFs0.at (a := (cBase k + 14)) (by omega) (by omega) hM
  refine r_if_ne S dX12_worse_51 (tgt := 58) (by decide) ⟨by omega, by omega⟩ (fun h_51 => ?_) (fun h_51 => ?_)
  · refine r_aload_n S dX12_worse_58 rfl ?_
    refine r_aload_n S dX12_worse_59 rfl ?_
    refine r_getf S g_RX12_46_11 dX12_worse_60 (by repeat (first | assumption | exact sUp_same | exact sNew_same | refine sUp_ne (by first | assumption | omega) ?_)) rfl ?_
    have hT3 : s0.2 (cBase k + 24) = some (eI k 16 (tkF (nv l kd b 0) t0 n)) := by
      rw [hs0]
      exact sUp_same
    obtain ⟨⟨R3, hRT3⟩, ⟨mo3, hMM3⟩, _⟩ := id hWs0
    refine r_callV S (c_worthOf hM3 hT3 ⟨by omega, by omega⟩ ht20 hn hkd hRT3 hMM3 (by rw [hQ_tk]; omega)) k_mX12_worthOf c_RX12_104_11 dX12_worse_63 (by decide) ⟨by omega, by omega⟩ (by repeat (first | assumption | exact sUp_same | exact sNew_same | refine sUp_ne (by first | assumption | omega) ?_)) rfl rfl (Nat.le_of_ble_eq_true rfl) (fun r σ' hp => ?_)
    obtain ⟨_, rfl, rfl, R4, hRT4, hK4, ⟨mo4, hMM4, hmo4⟩, hF4⟩ := hp
    try simp only [Option.toList_some, Option.toList_none, List.cons_append, List.nil_append]
    rw [hQ_tk]
    have hWj := (⟨⟨R4, hRT4⟩, ⟨mo4, hMM4⟩, _, hF4.at (by omega) (by omega) hT3, ht20⟩ : WS k _)
    have hFj := hFs0.trans (FrG.m hF4)
    refine r_num (z' := gB kd l n b 0) (by unfold gB; rw [if_neg (by omega)]) ?_
    exact s_wo66 hM hn hL hl hkd hb S _ hWj hFj
  · refine r_iconst S dX12_worse_54 ?_
    refine r_goto S dX12_worse_55 (tgt := 66) (by decide) ?_
    refine r_num (z' := gB kd l n b 0) (by unfold gB; rw [if_pos (by omega)]) ?_
    exact s_wo66 hM hn hL hl hkd hb S _ hWs0 hFs0

set_option maxRecDepth 100000 in
set_option maxHeartbeats 4000000 in
theorem c_worseM {k : Cx} {L0 : Launch} {σ : St} {e tb tr sk sm q : Int} {kd n an b : Nat} (hM : σ.2 (cBase k + 14) = some (oModel k 1 kd n e an (b : Int) tb q tr sk sm)) (hn : n ≤ 16) {l : Nat → Int} (hL : σ.2 (cBase k + 15) = some (eI k 16 l)) (hl : ∀ j, -1 ≤ l j ∧ l j ≤ 3) (hkd : kd < 3) (hb : b < 65536) (hW : WS k σ) : CtrV k L0 mX12_worse 6 0 0 [.ref (cBase k + 14)] σ (fun v σ' => v = .int (iZ (if gB kd l n b 1 = 13 ∨ gB kd l n b 0 = 13 then -2 else if gB kd l n b 0 ≤ gB kd l n b 1 then 1 else 0 : Int)) ∧ WS k σ' ∧ FrG k σ σ') := by
  refine Ctr.of (by decide +kernel) rfl (Nat.le_of_ble_eq_true rfl) ?_
  intro κ hl0 S
  subst hl0
  refine r_aload_n S dX12_worse_0 rfl ?_
  refine r_getf S g_RX12_49_11 dX12_worse_1 (by repeat (first | assumption | exact sUp_same | exact sNew_same | refine sUp_ne (by first | assumption | omega) ?_)) rfl ?_
  refine r_if_eq S dX12_worse_4 (tgt := 14) (by decide) ⟨by omega, by omega⟩ (fun h_4 => ?_) (fun h_4 => ?_)
  · omega
  · refine r_aload_n S dX12_worse_7 rfl ?_
    refine r_getf S g_RX12_7_11 dX12_worse_8 (by repeat (first | assumption | exact sUp_same | exact sNew_same | refine sUp_ne (by first | assumption | omega) ?_)) rfl ?_
    refine r_if_ge S dX12_worse_11 (tgt := 17) (by decide) ⟨by omega, by omega⟩ (fun h_11 => ?_) (fun h_11 => ?_)
    · refine r_aload_n S dX12_worse_17 rfl ?_
      refine r_aload_n S dX12_worse_18 rfl ?_
      refine r_getf S g_RX12_7_11 dX12_worse_19 (by repeat (first | assumption | exact sUp_same | exact sNew_same | refine sUp_ne (by first | assumption | omega) ?_)) rfl ?_
      refine r_iconst S dX12_worse_22 ?_
      have hM1 := (FrG.refl (k := k) (σ := σ)).at (a := (cBase k + 14)) (by omega) (by omega) hM
      have hL1 := (FrG.refl (k := k) (σ := σ)).at (a := (cBase k + 15)) (by omega) (by omega) hL
      obtain ⟨⟨R1, hRT1⟩, ⟨mo1, hMM1⟩, t1, hT1, ht1⟩ := id hW
      have hc1 := cnt_le (fun j => decide (nv l kd b 1 j ≠ -1)) n
      have hcn1 := cnt_nv hl kd b 1 n
      refine r_callV S (c_tries (y := 1) hM1 hn hL1 hl hT1 hkd hb (by decide)) k_mX12_tries c_RX12_113_11 dX12_worse_23 (by decide) ⟨by omega, by omega⟩ (by repeat (first | assumption | exact sUp_same | exact sNew_same | refine sUp_ne (by first | assumption | omega) ?_)) rfl rfl (Nat.le_of_ble_eq_true rfl) (fun r σ' hp => ?_)
      obtain ⟨_, rfl, rfl, rfl⟩ := hp
      try simp only [Option.toList_some, Option.toList_none, List.cons_append, List.nil_append]
      have ht21 := tkF_rng (fun j => nv_rng hl kd b 1 j) ht1 n
      obtain ⟨s1, hs1⟩ : ∃ s, s = sUp σ (cBase k + 24) (eI k 16 (tkF (nv l kd b 1) t1 n)) := ⟨_, rfl⟩
      rw [← hs1]
      have hWs1 : WS k s1 := by
        rw [hs1]
        exact ⟨⟨R1, hRT1.fr (fun a ha hb2 => if_neg (by omega))⟩, ⟨mo1, sUp_ne (by omega) hMM1⟩, _, sUp_same, ht21⟩
      have hFs1 : FrG k σ s1 := by
        rw [hs1]
        exact (FrG.refl (k := k) (σ := σ)).up rfl
      have hM3 := hFs1.at (a := (cBase k + 14)) (by omega) (by omega) hM
      refine r_if_ne S dX12_worse_26 (tgt := 33) (by decide) ⟨by omega, by omega⟩ (fun h_26 => ?_) (fun h_26 => ?_)
      · refine r_aload_n S dX12_worse_33 rfl ?_
        refine r_aload_n S dX12_worse_34 rfl ?_
        refine r_getf S g_RX12_46_11 dX12_worse_35 (by repeat (first | assumption | exact sUp_same | exact sNew_same | refine sUp_ne (by first | assumption | omega) ?_)) rfl ?_
        have hT3 : s1.2 (cBase k + 24) = some (eI k 16 (tkF (nv l kd b 1) t1 n)) := by
          rw [hs1]
          exact sUp_same
        obtain ⟨⟨R3, hRT3⟩, ⟨mo3, hMM3⟩, _⟩ := id hWs1
        refine r_callV S (c_worthOf hM3 hT3 ⟨by omega, by omega⟩ ht21 hn hkd hRT3 hMM3 (by rw [hQ_tk]; omega)) k_mX12_worthOf c_RX12_104_11 dX12_worse_38 (by decide) ⟨by omega, by omega⟩ (by repeat (first | assumption | exact sUp_same | exact sNew_same | refine sUp_ne (by first | assumption | omega) ?_)) rfl rfl (Nat.le_of_ble_eq_true rfl) (fun r σ' hp => ?_)
        obtain ⟨_, rfl, rfl, R4, hRT4, hK4, ⟨mo4, hMM4, hmo4⟩, hF4⟩ := hp
        try simp only [Option.toList_some, Option.toList_none, List.cons_append, List.nil_append]
        rw [hQ_tk]
        have hWj := (⟨⟨R4, hRT4⟩, ⟨mo4, hMM4⟩, _, hF4.at (by omega) (by omega) hT3, ht21⟩ : WS k _)
        have hFj := hFs1.trans (FrG.m hF4)
        refine r_num (z' := gB kd l n b 1) (by unfold gB; rw [if_neg (by omega)]) ?_
        exact s_wo41 hM hn hL hl hkd hb S _ hWj hFj
      · refine r_iconst S dX12_worse_29 ?_
        refine r_goto S dX12_worse_30 (tgt := 41) (by decide) ?_
        refine r_num (z' := gB kd l n b 1) (by unfold gB; rw [if_pos (by omega)]) ?_
        exact s_wo41 hM hn hL hl hkd hb S _ hWs1 hFs1
    · omega

set_option maxRecDepth 100000 in
set_option maxHeartbeats 4000000 in
theorem c_worseM0 {k : Cx} {L0 : Launch} {σ : St} {hg e wt tb tr sk sm q : Int} {kd n an : Nat} (hM : σ.2 (cBase k + 14) = some (oModel k hg kd n e an wt tb q tr sk sm)) (hw0 : hg = 0 ∨ (hg = 1 ∧ wt = -1)) : CtrV k L0 mX12_worse 6 0 0 [.ref (cBase k + 14)] σ (fun v σ' => v = .int (iZ (-2)) ∧ σ' = σ) := by
  refine Ctr.of (by decide +kernel) rfl (Nat.le_of_ble_eq_true rfl) ?_
  intro κ hl0 S
  subst hl0
  refine r_aload_n S dX12_worse_0 rfl ?_
  refine r_getf S g_RX12_49_11 dX12_worse_1 (by repeat (first | assumption | exact sUp_same | exact sNew_same | refine sUp_ne (by first | assumption | omega) ?_)) rfl ?_
  refine r_if_eq S dX12_worse_4 (tgt := 14) (by decide) ⟨by omega, by omega⟩ (fun h_4 => ?_) (fun h_4 => ?_)
  · refine r_bipush S dX12_worse_14 (by decide) ?_
    exact r_iret S dX12_worse_16 (by omega) (by omega) (⟨_, rfl, rfl, rfl⟩)
  · refine r_aload_n S dX12_worse_7 rfl ?_
    refine r_getf S g_RX12_7_11 dX12_worse_8 (by repeat (first | assumption | exact sUp_same | exact sNew_same | refine sUp_ne (by first | assumption | omega) ?_)) rfl ?_
    refine r_if_ge S dX12_worse_11 (tgt := 17) (by decide) ⟨by omega, by omega⟩ (fun h_11 => ?_) (fun h_11 => ?_)
    · omega
    · refine r_bipush S dX12_worse_14 (by decide) ?_
      exact r_iret S dX12_worse_16 (by omega) (by omega) (⟨_, rfl, rfl, rfl⟩)
