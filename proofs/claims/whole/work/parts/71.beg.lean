/-! prices and tables of any kind; begin -/
theorem c_yesPriceA {k : Cx} {L0 : Launch} {σ : St} {tb : Int} (hC : Cor k σ tb) {kd : Nat} (hk : kd < 3) : CtrV k L0 mX11_yesPrice 4 0 0 [.ref (cBase k), .int (iZ (kd : Int))] σ (fun v σ' => v = .int (iZ (costK kd 1 0)) ∧ ∃ z' : Int, σ' = sUp σ (cBase k + 6) (oTally z')) := by
  obtain ⟨h1, ⟨lq, h2, h3, h4, h5⟩, h6, h7, h8, z, h9⟩ := hC
  match kd, hk with
  | 0, _ => exact (c_yesPrice0 h1 h2 h3 h4 h5 h6 h7 h8 h9).mono (fun v σ' hp => ⟨hp.1, _, hp.2⟩)
  | 1, _ => exact (c_yesPrice1 h1 h2 h3 h4 h5 h6 h7 h8 h9).mono (fun v σ' hp => ⟨hp.1, _, hp.2⟩)
  | 2, _ => exact (c_yesPrice2 h1 h2 h3 h4 h5 h6 h7 h8 h9).mono (fun v σ' hp => ⟨hp.1, _, hp.2⟩)
theorem c_noPriceA {k : Cx} {L0 : Launch} {σ : St} {tb : Int} (hC : Cor k σ tb) {kd : Nat} (hk : kd < 3) : CtrV k L0 mX11_noPrice 4 0 0 [.ref (cBase k), .int (iZ (kd : Int))] σ (fun v σ' => v = .int (iZ (costK kd 0 1)) ∧ ∃ z' : Int, σ' = sUp σ (cBase k + 6) (oTally z')) := by
  obtain ⟨h1, ⟨lq, h2, h3, h4, h5⟩, h6, h7, h8, z, h9⟩ := hC
  match kd, hk with
  | 0, _ => exact (c_noPrice0 h1 h2 h3 h4 h5 h6 h7 h8 h9).mono (fun v σ' hp => ⟨hp.1, _, hp.2⟩)
  | 1, _ => exact (c_noPrice1 h1 h2 h3 h4 h5 h6 h7 h8 h9).mono (fun v σ' hp => ⟨hp.1, _, hp.2⟩)
  | 2, _ => exact (c_noPrice2 h1 h2 h3 h4 h5 h6 h7 h8 h9).mono (fun v σ' hp => ⟨hp.1, _, hp.2⟩)
theorem KnOk_0 (cy cn : Nat) : KnOk cy cn (fun _ => 0) (fun _ => 0) :=
  ⟨fun _ => ⟨(by decide : (0 : Int) ≤ 0), (by decide : (0 : Int) ≤ 16)⟩, fun j _ m hm x hx => ⟨0, rfl, few_small (by have h1 := hx.2.1; have h2 : (m : Int) ≤ 0 := hm; omega)⟩⟩
def owN (ow : Nat → Nat) (t j : Nat) : Nat → Nat := fun a => if a < t then ow a else j
theorem uQ_ne {f : Nat → Option Nat} {i j x : Nat} (h : j ≠ i) : uQ f i x j = f j := if_neg h
theorem uQ_eq {f : Nat → Option Nat} {i x : Nat} : uQ f i x i = some x := if_pos rfl
/-- behind heapTable: the table of this kind is there -/
def HTA (k : Cx) (σ : St) (kd : Nat) (v : Value) (σ' : St) : Prop := ∃ (t : Nat) (hq sq : Nat → Option Nat) (ow : Nat → Nat), v = .ref (t + 8) ∧ hq kd = some (t + 8) ∧ σ'.2 (cBase k + 7) = some (eQ (cQH k) 3 hq) ∧ σ'.2 (cBase k + 8) = some (eQ (cQS k) 3 sq) ∧ IH k σ' hq ow 0 0 0 0 ∧ IS k σ' sq ow ∧ (∃ z' : Int, σ'.2 (cBase k + 6) = some (oTally z')) ∧ σ.1 ≤ σ'.1 ∧ ∀ b, b < cBase k + 25 → b ≠ cBase k + 6 → b ≠ cBase k + 7 → σ'.2 b = σ.2 b
theorem ht_new {k : Cx} {σ σ' : St} {hq sq : Nat → Option Nat} {ow : Nat → Nat} {kd : Nat} (hb : cBase k + 25 ≤ σ.1) (h8 : σ.2 (cBase k + 8) = some (eQ (cQS k) 3 sq)) (hI : IH k σ hq ow 0 0 0 0) (hS : IS k σ sq ow) {v : Value} (hp : v = .ref (σ.1 + 8) ∧ σ'.1 = σ.1 + 10 ∧ (∃ z' : Int, σ'.2 (cBase k + 6) = some (oTally z')) ∧ σ'.2 (cBase k + 7) = some (eQ (cQH k) 3 (uQ hq kd (σ.1 + 8))) ∧ Tb k σ' σ.1 (cyK kd) (cnK kd) (fun _ => 0) ∧ Tl k σ' σ.1 (cyK kd) (cnK kd) ∧ σ'.2 (σ.1 + 8) = some (oHT σ.1) ∧ σ'.2 (σ.1 + 9) = some (eI k 4 (fun _ => 0)) ∧ ∀ b, b < σ.1 → b ≠ cBase k + 6 → b ≠ cBase k + 7 → σ'.2 b = σ.2 b) : HTA k σ kd v σ' := by
  obtain ⟨p1, p2, p3, p4, p5, p6, p7, p8, p9⟩ := hp
  refine ⟨σ.1, uQ hq kd (σ.1 + 8), sq, owN ow σ.1 kd, p1, uQ_eq, p4, (p9 _ (by omega) (by omega) (by omega)).trans h8, ?_, ?_, p3, by omega, fun b h1 h2 h3 => p9 b (by omega) h2 h3⟩
  · intro j hj
    by_cases e : j = kd
    · subst e
      refine Or.inr ⟨σ.1, uQ_eq, hb, by omega, fun a ha _ => if_neg (by omega), fun _ => 0, fun _ => 0, p5, p6, p7, p8, KnOk_0 _ _, ?_⟩
      rw [if_neg (fun z => absurd z.1 (by decide))]
      exact Int.le_refl 0
    · rw [uQ_ne e]
      rcases hI j hj with q | ⟨t, q1, q2⟩
      · exact Or.inl q
      · have q3 := q2.1
        have q4 := q2.2.1
        exact Or.inr ⟨t, q1, q2.fr (by omega) (fun a _ _ => if_pos (by omega)) (fun a _ _ => p9 a (by omega) (by omega) (by omega))⟩
  · intro j hj
    rcases hS j hj with q | ⟨u, q1, q2⟩
    · exact Or.inl q
    · have q3 := q2.1
      have q4 := q2.2.1
      exact Or.inr ⟨u, q1, q2.fr (by omega) (fun a _ _ => if_pos (by omega)) (fun a _ _ => p9 a (by omega) (by omega) (by omega))⟩
theorem c_heapTableA {k : Cx} {L0 : Launch} {σ : St} {tb : Int} (hC : Cor k σ tb) (hb : cBase k + 25 ≤ σ.1) {on kd0 n e : Nat} (hT : TBs k σ on kd0 n e) {kd : Nat} (hk : kd < 3) : CtrV k L0 mX11_heapTable 5 10 4967 [.ref (cBase k), .int (iZ (kd : Int))] σ (HTA k σ kd) := by
  obtain ⟨hq, sq, ow, h7, h8, hI, hS⟩ := hT
  have hI := hI.weak (kd' := 0) (n' := 0) (e' := 0)
  obtain ⟨h1, ⟨lq, h2, h3, h4, h5⟩, h6, h9, h10, z, h11⟩ := hC
  rcases hI kd hk with ⟨q, -⟩ | ⟨t, q1, q2⟩
  · match kd, hk with
    | 0, _ => exact (c_heapTableN0 h1 h2 h3 h4 h5 h6 h9 h10 h11 hb h7 q).mono (fun v σ' hp => ht_new hb h8 hI hS hp)
    | 1, _ => exact (c_heapTableN1 h1 h2 h3 h4 h5 h6 h9 h10 h11 hb h7 q).mono (fun v σ' hp => ht_new hb h8 hI hS hp)
    | 2, _ => exact (c_heapTableN2 h1 h2 h3 h4 h5 h6 h9 h10 h11 hb h7 q).mono (fun v σ' hp => ht_new hb h8 hI hS hp)
  · refine (c_heapTableG h1 h7 hk q1).mono (fun v σ' hp => ?_)
    obtain ⟨rfl, rfl⟩ := hp
    exact ⟨t, hq, sq, ow, rfl, q1, h7, h8, hI, hS, ⟨z, h11⟩, Nat.le_refl _, fun _ _ _ _ => rfl⟩
set_option maxRecDepth 100000 in
set_option maxHeartbeats 4000000 in
theorem c_fewestNow {k : Cx} {L0 : Launch} {σ : St} {tb e wt yp np : Int} {kd n an t : Nat} (hX : σ.2 (cBase k) = some (oX k tb)) {hq : Nat → Option Nat} (hH : σ.2 (cBase k + 7) = some (eQ (cQH k) 3 hq)) (hk : kd < 3) (hq0 : hq kd = some (t + 8)) (hG : σ.2 (cBase k + 9) = some (oGame k 1 kd n e an wt yp np)) {f F : Nat → Int} (hL : σ.2 (cBase k + 10) = some (eI k 992 f)) (hf : ∀ j, -1 ≤ f j ∧ f j ≤ 3) (han : an ≤ 60) (hn : n ≤ 16) (hF : σ.2 t = some (eI k 4845 F)) (hT : σ.2 (t + 8) = some (oHT t)) : CtrV k L0 mX11_fewestNow 6 10 4967 [.ref (cBase k)] σ (fun v σ' => v = .int (iZ (F (plQ (hQ f (an * 16) n)))) ∧ σ' = σ) := by
  refine Ctr.of (by decide +kernel) rfl (Nat.le_of_ble_eq_true rfl) ?_
  intro κ hl0 S
  subst hl0
  refine r_aload_n S dX11_fewestNow_0 rfl ?_
  refine r_aload_n S dX11_fewestNow_1 rfl ?_
  refine r_getf S g_RX11_47_10 dX11_fewestNow_2 (by repeat (first | assumption | exact sUp_same | exact sNew_same | refine sUp_ne (by first | assumption | omega) ?_)) rfl ?_
  refine r_getf S g_RX11_147_3 dX11_fewestNow_5 (by repeat (first | assumption | exact sUp_same | exact sNew_same | refine sUp_ne (by first | assumption | omega) ?_)) rfl ?_
  refine r_callV S (c_heapTableG hX hH hk hq0) k_mX11_heapTable c_RX11_83_10 dX11_fewestNow_8 (by decide) ⟨by omega, by omega⟩ (by repeat (first | assumption | exact sUp_same | exact sNew_same | refine sUp_ne (by first | assumption | omega) ?_)) rfl rfl (Nat.le_of_ble_eq_true rfl) (fun r σ' hp => ?_)
  obtain ⟨_, rfl, rfl, rfl⟩ := hp
  try simp only [Option.toList_some, Option.toList_none, List.cons_append, List.nil_append]
  refine r_aload_n S dX11_fewestNow_11 rfl ?_
  refine r_getf S g_RX11_47_10 dX11_fewestNow_12 (by repeat (first | assumption | exact sUp_same | exact sNew_same | refine sUp_ne (by first | assumption | omega) ?_)) rfl ?_
  refine r_getf S g_RX11_166_3 dX11_fewestNow_15 (by repeat (first | assumption | exact sUp_same | exact sNew_same | refine sUp_ne (by first | assumption | omega) ?_)) rfl ?_
  refine r_aload_n S dX11_fewestNow_18 rfl ?_
  refine r_getf S g_RX11_47_10 dX11_fewestNow_19 (by repeat (first | assumption | exact sUp_same | exact sNew_same | refine sUp_ne (by first | assumption | omega) ?_)) rfl ?_
  refine r_callV S (c_row hG) k_mX3_row c_RX11_170_3 dX11_fewestNow_22 (by decide) ⟨by omega, by omega⟩ (by repeat (first | assumption | exact sUp_same | exact sNew_same | refine sUp_ne (by first | assumption | omega) ?_)) rfl rfl (Nat.le_of_ble_eq_true rfl) (fun r σ' hp => ?_)
  obtain ⟨_, rfl, rfl, rfl⟩ := hp
  try simp only [Option.toList_some, Option.toList_none, List.cons_append, List.nil_append]
  refine r_num (z' := ((an * 16 : Nat) : Int)) (by omega) ?_
  refine r_aload_n S dX11_fewestNow_25 rfl ?_
  refine r_getf S g_RX11_47_10 dX11_fewestNow_26 (by repeat (first | assumption | exact sUp_same | exact sNew_same | refine sUp_ne (by first | assumption | omega) ?_)) rfl ?_
  refine r_getf S g_RX11_135_3 dX11_fewestNow_29 (by repeat (first | assumption | exact sUp_same | exact sNew_same | refine sUp_ne (by first | assumption | omega) ?_)) rfl ?_
  refine r_callV S (c_fewestOf hF hT hL hf (by omega) hn) k_mX4_fewestOf c_RX11_231_4 dX11_fewestNow_32 (by decide) ⟨by omega, by omega⟩ (by repeat (first | assumption | exact sUp_same | exact sNew_same | refine sUp_ne (by first | assumption | omega) ?_)) rfl rfl (Nat.le_of_ble_eq_true rfl) (fun r σ' hp => ?_)
  obtain ⟨_, rfl, rfl, rfl⟩ := hp
  try simp only [Option.toList_some, Option.toList_none, List.cons_append, List.nil_append]
  exact r_iret S dX11_fewestNow_35 (by omega) (by omega) (⟨_, rfl, rfl, rfl⟩)

set_option maxRecDepth 100000 in
set_option maxHeartbeats 4000000 in
theorem c_beginX0 {k : Cx} {L0 : Launch} {σ : St} {a b c : Int} (ha : zR a) (hb : zR b) (hc : zR c) (hbad : ¬ (0 ≤ a ∧ a < 3) ∨ ¬ (1 ≤ b ∧ b ≤ 16) ∨ (a ≠ 0 ∧ ¬ (0 ≤ c ∧ c ≤ 3))) : CtrV k L0 mX11_begin 10 20 9934 [.ref (cBase k), .int (iZ a), .int (iZ b), .int (iZ c)] σ (fun v σ' => v = .int (iZ (-1)) ∧ σ' = σ) := by
  refine Ctr.of (by decide +kernel) rfl (Nat.le_of_ble_eq_true rfl) ?_
  intro κ hl0 S
  subst hl0
  refine r_iload_n S dX11_begin_0 rfl ?_
  refine r_callS S (c_isKind ha) k_mX11_isKind c_RX11_62 dX11_begin_1 (by decide) ⟨by omega, by omega⟩ rfl rfl (Nat.le_of_ble_eq_true rfl) (fun r σ' hp => ?_)
  obtain ⟨_, rfl, rfl, rfl⟩ := hp
  try simp only [Option.toList_some, Option.toList_none, List.cons_append, List.nil_append]
  refine r_if_eq S dX11_begin_4 (tgt := 14) (by decide) (b01_R _) (fun h_4 => ?_) (fun h_4 => ?_)
  · simp only [b01_z, Decidable.not_not] at h_4
    refine r_iconst S dX11_begin_14 ?_
    exact r_iret S dX11_begin_15 (by omega) (by omega) (⟨_, rfl, rfl, rfl⟩)
  · simp only [b01_z, Decidable.not_not] at h_4
    refine r_iload_n S dX11_begin_7 rfl ?_
    refine r_callS S (c_isCount hb) k_mX11_isCount c_RX11_66 dX11_begin_8 (by decide) ⟨by omega, by omega⟩ rfl rfl (Nat.le_of_ble_eq_true rfl) (fun r σ' hp => ?_)
    obtain ⟨_, rfl, rfl, rfl⟩ := hp
    try simp only [Option.toList_some, Option.toList_none, List.cons_append, List.nil_append]
    refine r_if_ne S dX11_begin_11 (tgt := 16) (by decide) (b01_R _) (fun h_11 => ?_) (fun h_11 => ?_)
    · simp only [b01_z, Decidable.not_not] at h_11
      refine r_iload_n S dX11_begin_16 rfl ?_
      refine r_if_eq S dX11_begin_17 (tgt := 29) (by decide) ha (fun h_17 => ?_) (fun h_17 => ?_)
      · omega
      · refine r_iload_n S dX11_begin_20 rfl ?_
        refine r_callS S (c_isLies hc) k_mX11_isLies c_RX11_69 dX11_begin_21 (by decide) ⟨by omega, by omega⟩ rfl rfl (Nat.le_of_ble_eq_true rfl) (fun r σ' hp => ?_)
        obtain ⟨_, rfl, rfl, rfl⟩ := hp
        try simp only [Option.toList_some, Option.toList_none, List.cons_append, List.nil_append]
        refine r_if_ne S dX11_begin_24 (tgt := 29) (by decide) (b01_R _) (fun h_24 => ?_) (fun h_24 => ?_)
        · simp only [b01_z, Decidable.not_not] at h_24
          omega
        · simp only [b01_z, Decidable.not_not] at h_24
          refine r_iconst S dX11_begin_27 ?_
          exact r_iret S dX11_begin_28 (by omega) (by omega) (⟨_, rfl, rfl, rfl⟩)
    · simp only [b01_z, Decidable.not_not] at h_11
      refine r_iconst S dX11_begin_14 ?_
      exact r_iret S dX11_begin_15 (by omega) (by omega) (⟨_, rfl, rfl, rfl⟩)

set_option maxRecDepth 100000 in
set_option maxHeartbeats 4000000 in
theorem s_begin40 {κ : Kx} {k : Cx} {σ : St} {tb : Int} (hC : Cor k σ tb) (hbs : cBase k + 25 ≤ σ.1) {on0 kd0 n0 e0 : Nat} (hTs : TBs k σ on0 kd0 n0 e0) {on1 kd1 e1 wt1 yp1 np1 : Int} {n1 an1 : Nat} (hG : σ.2 (cBase k + 9) = some (oGame k on1 kd1 n1 e1 an1 wt1 yp1 np1)) {f0 : Nat → Int} (hL : σ.2 (cBase k + 10) = some (eI k 992 f0)) (hf0 : ∀ j, -1 ≤ f0 j ∧ f0 j ≤ 3) {kd n e2 : Nat} {c : Int} (hc : zR c) (hk : kd < 3) (hn : 1 ≤ n ∧ n ≤ 16) (he : e2 ≤ 3) (hce : (kd = 0 ∧ e2 = 0) ∨ (kd ≠ 0 ∧ c = (e2 : Int))) (S : Ok κ k cX11_begin 5 RX11 (some .int) "begin" 10 20 9934) : V κ k 5 0 0 (QR κ k (fun r σ' => ∃ v, r = some v ∧ (v = .int (iZ (if (fewN (cyK kd) (cnK kd) (hQ (fun _ => (e2 : Int)) 0 n) : Int) ≤ 12 then (fewN (cyK kd) (cnK kd) (hQ (fun _ => (e2 : Int)) 0 n) : Int) else -9)) ∧ cBase k + 25 ≤ σ'.1 ∧ Cor k σ' tb ∧ GmX k σ' 1 kd n e2 0 (-1) (fun _ _ => (e2 : Int)) ∧ TBs k σ' 1 kd n e2 ∧ ∀ b, b < cBase k + 25 → b ≠ cBase k + 6 → b ≠ cBase k + 7 → b ≠ cBase k + 9 → b ≠ cBase k + 10 → σ'.2 b = σ.2 b)) 20 9934) 40 [some (.ref (cBase k)), some (.int (iZ (kd : Int))), some (.int (iZ (n : Int))), some (.int (iZ c)), some (.int (iZ (e2 : Int)))] [] σ := by
  have hX0 := hC.1
  refine r_aload_n S dX11_begin_40 rfl ?_
  refine r_getf S g_RX11_47_10 dX11_begin_41 (by repeat (first | assumption | exact sUp_same | exact sNew_same | refine sUp_ne (by first | assumption | omega) ?_)) rfl ?_
  refine r_iload_n S dX11_begin_44 rfl ?_
  refine r_iload_n S dX11_begin_45 rfl ?_
  refine r_iload S dX11_begin_46 rfl ?_
  refine r_aload_n S dX11_begin_48 rfl ?_
  refine r_iload_n S dX11_begin_49 rfl ?_
  refine r_callV S (c_yesPriceA hC hk) k_mX11_yesPrice c_RX11_72_10 dX11_begin_50 (by decide) ⟨by omega, by omega⟩ (by repeat (first | assumption | exact sUp_same | exact sNew_same | refine sUp_ne (by first | assumption | omega) ?_)) rfl rfl (Nat.le_of_ble_eq_true rfl) (fun r σ' hp => ?_)
  obtain ⟨_, rfl, rfl, z1, rfl⟩ := hp
  try simp only [Option.toList_some, Option.toList_none, List.cons_append, List.nil_append]
  refine V.name (fun s1 e1 => ?_)
  have hC1 : Cor k s1 tb := by rw [e1]; exact hC.fr (fun a ha => if_neg (by omega)) sUp_same
  have hX1 := hC1.1
  refine r_aload_n S dX11_begin_53 rfl ?_
  refine r_iload_n S dX11_begin_54 rfl ?_
  refine r_callV S (c_noPriceA hC1 hk) k_mX11_noPrice c_RX11_76_10 dX11_begin_55 (by decide) ⟨by omega, by omega⟩ (by repeat (first | assumption | exact sUp_same | exact sNew_same | refine sUp_ne (by first | assumption | omega) ?_)) rfl rfl (Nat.le_of_ble_eq_true rfl) (fun r σ' hp => ?_)
  obtain ⟨_, rfl, rfl, z2, rfl⟩ := hp
  try simp only [Option.toList_some, Option.toList_none, List.cons_append, List.nil_append]
  refine V.name (fun s2 e2' => ?_)
  have hC2 : Cor k s2 tb := by rw [e2']; exact hC1.fr (fun a ha => if_neg (by omega)) sUp_same
  have fr2 : ∀ b, b ≠ cBase k + 6 → s2.2 b = σ.2 b := fun b hb => by rw [e2', e1]; exact (if_neg hb).trans (if_neg hb)
  have hs2 : s2.1 = σ.1 := by rw [e2', e1]; rfl
  have hG2 := (fr2 (cBase k + 9) (by omega)).trans hG
  have hL2 := (fr2 (cBase k + 10) (by omega)).trans hL
  clear e2' e1 hC1 hX1
  refine r_callV S (c_start hG2 hL2 hn) k_mX3_start c_RX11_79_3 dX11_begin_58 (by decide) ⟨by omega, by omega⟩ (by repeat (first | assumption | exact sUp_same | exact sNew_same | refine sUp_ne (by first | assumption | omega) ?_)) rfl rfl (Nat.le_of_ble_eq_true rfl) (fun r σ' hp => ?_)
  obtain ⟨rfl, rfl⟩ := hp
  try simp only [Option.toList_some, Option.toList_none, List.cons_append, List.nil_append]
  refine V.name (fun s3 e3 => ?_)
  have fr3 : ∀ b, b ≠ cBase k + 9 → b ≠ cBase k + 10 → s3.2 b = s2.2 b := fun b h1 h2 => by rw [e3]; exact (if_neg h2).trans (if_neg h1)
  have hs3 : s3.1 = σ.1 := by rw [e3]; exact hs2
  have hG3 : s3.2 (cBase k + 9) = some (oGame k 1 (kd : Int) (n : Int) (e2 : Int) 0 (-1) (costK kd 1 0) (costK kd 0 1)) := by rw [e3]; exact sUp_ne (by omega) sUp_same
  have hL3 : s3.2 (cBase k + 10) = some (eI k 992 (fillF f0 (e2 : Int) n)) := by rw [e3]; exact sUp_same
  obtain ⟨z3, hz3⟩ := hC2.2.2.2.2.2
  have hC3 : Cor k s3 tb := hC2.fr (fun a ha => fr3 a (by omega) (by omega)) ((fr3 _ (by omega) (by omega)).trans hz3)
  have hT3 : TBs k s3 on0 kd0 n0 e0 := hTs.fr (by omega) ((fr3 _ (by omega) (by omega)).trans (fr2 _ (by omega))) ((fr3 _ (by omega) (by omega)).trans (fr2 _ (by omega))) (fun a ha _ => (fr3 _ (by omega) (by omega)).trans (fr2 _ (by omega)))
  have hX3 := hC3.1
  have hff : ∀ j, -1 ≤ fillF f0 (e2 : Int) n j ∧ fillF f0 (e2 : Int) n j ≤ 3 := fun j => by
    have := hf0 j
    unfold fillF
    split <;> omega
  clear e3
  refine r_aload_n S dX11_begin_61 rfl ?_
  refine r_iload_n S dX11_begin_62 rfl ?_
  refine r_callV S (c_heapTableA hC3 (by omega) hT3 hk) k_mX11_heapTable c_RX11_83_10 dX11_begin_63 (by decide) ⟨by omega, by omega⟩ (by repeat (first | assumption | exact sUp_same | exact sNew_same | refine sUp_ne (by first | assumption | omega) ?_)) rfl rfl (Nat.le_of_ble_eq_true rfl) (fun r s4 hp => ?_)
  obtain ⟨_, rfl, t, hq, sq, ow, rfl, q1, q2, q3, q4, q5, ⟨z4, q6⟩, q7, q8⟩ := hp
  try simp only [Option.toList_some, Option.toList_none, List.cons_append, List.nil_append]
  have hC4 : Cor k s4 tb := hC3.fr (fun a ha => q8 a (by omega) (by omega) (by omega)) q6
  have hG4 := (q8 (cBase k + 9) (by omega) (by omega) (by omega)).trans hG3
  have hL4 := (q8 (cBase k + 10) (by omega) (by omega) (by omega)).trans hL3
  have hX4 := hC4.1
  obtain ⟨t0, r1, r2⟩ := (q4 kd hk).resolve_left (fun z => by rw [q1] at z; exact absurd z.1 (by simp))
  have et : t0 = t := by rw [q1] at r1; have := Option.some.inj r1; omega
  subst et
  obtain ⟨b1, b2, b3, F, kn, b4, b5, b6, b7, b8, -⟩ := r2
  refine r_iload_n S dX11_begin_66 rfl ?_
  refine r_iload S dX11_begin_67 rfl ?_
  refine r_callV S (c_learn hn he (cyK_rng kd) (cnK_rng kd) b4 b6 b7 b8) k_mX4_learn c_RX11_87_4 dX11_begin_69 (by decide) ⟨by omega, by omega⟩ (by repeat (first | assumption | exact sUp_same | exact sNew_same | refine sUp_ne (by first | assumption | omega) ?_)) rfl rfl (Nat.le_of_ble_eq_true rfl) (fun r s5 hp => ?_)
  obtain ⟨rfl, F', kn', d1, d2, d3, d4, d5⟩ := hp
  try simp only [Option.toList_some, Option.toList_none, List.cons_append, List.nil_append]
  have fr5 : ∀ b, b < cBase k + 25 → s5.2 b = s4.2 b := fun b hb => d3.2 b (by omega) (by omega)
  have hG5 := (fr5 (cBase k + 9) (by omega)).trans hG4
  have hL5 := (fr5 (cBase k + 10) (by omega)).trans hL4
  have hC5 : Cor k s5 tb := hC4.fr (fun a ha => fr5 a (by omega)) ((fr5 _ (by omega)).trans q6)
  have hX5 := hC5.1
  have hH5 := (fr5 (cBase k + 7) (by omega)).trans q2
  have b65 : s5.2 (t0 + 8) = some (oHT t0) := (d3.2 _ (by omega) (by omega)).trans b6
  have hDm : Dm n e2 (hQ (fun _ => (e2 : Int)) 0 n) := row_Dm (fun i hi => Int.le_refl _)
  have hval : F' (plQ (hQ (fillF f0 (e2 : Int) n) (0 * 16) n)) = (fewN (cyK kd) (cnK kd) (hQ (fun _ => (e2 : Int)) 0 n) : Int) := by
    rw [hQ_congr (g := fun _ => (e2 : Int)) (s := 0) (fun i hi => if_pos (by omega))]
    exact Kn_few d4 he d5 hDm
  have hfl := fewN_le (cyK kd) (cnK kd) (hQ (fun _ => (e2 : Int)) 0 n)
  refine r_aload_n S dX11_begin_72 rfl ?_
  refine r_callV S (c_fewestNow (an := 0) hX5 hH5 hk q1 hG5 hL5 hff (by omega) hn.2 d1.1 b65) k_mX11_fewestNow c_RX11_91_10 dX11_begin_73 (by decide) ⟨by omega, by omega⟩ (by repeat (first | assumption | exact sUp_same | exact sNew_same | refine sUp_ne (by first | assumption | omega) ?_)) rfl rfl (Nat.le_of_ble_eq_true rfl) (fun r σ' hp => ?_)
  obtain ⟨_, rfl, rfl, rfl⟩ := hp
  try simp only [Option.toList_some, Option.toList_none, List.cons_append, List.nil_append]
  rw [hval]
  refine r_callS S (c_toldOrNone ⟨by omega, by omega⟩) k_mX11_toldOrNone c_RX11_95 dX11_begin_76 (by decide) ⟨by omega, by omega⟩ rfl rfl (Nat.le_of_ble_eq_true rfl) (fun r σ' hp => ?_)
  obtain ⟨_, rfl, rfl, rfl⟩ := hp
  try simp only [Option.toList_some, Option.toList_none, List.cons_append, List.nil_append]
  exact r_iret S dX11_begin_79 (by omega) (by omega) (by
    have hsz := d3.1
    refine ⟨_, rfl, rfl, by omega, hC5, ⟨⟨_, _, hG5, fun _ => ⟨rfl, rfl⟩⟩, _, hL5, hff, fun a ha i hi => by rw [show a = 0 by omega]; exact if_pos (by omega)⟩, ⟨hq, sq, ow, hH5, (fr5 _ (by omega)).trans q3, fun j hj => ?_, fun j hj => ?_⟩, fun b h1 h2 h3 h4 h5 => (fr5 b h1).trans ((q8 b h1 h2 h3).trans ((fr3 b h4 h5).trans (fr2 b h2)))⟩
    · have hfr : ∀ a, cBase k + 25 ≤ a → a < s4.1 → ow a ≠ kd → σ'.2 a = s4.2 a := fun a h1 h2 h3 => by
        have h4 : ¬ (t0 ≤ a ∧ a < t0 + 10) := fun z => h3 (b3 a z.1 z.2)
        exact d3.2 a (by omega) (by omega)
      by_cases ej : j = kd
      · subst ej
        refine Or.inr ⟨t0, q1, b1, by omega, b3, F', kn', d1, b5.fr (fun a h1 h2 => d3.2 a (by omega) (by omega)), b65, d2, d4, ?_⟩
        rw [if_pos ⟨rfl, rfl⟩]
        exact d5
      · rcases q4.other (j0 := kd) (by omega) hfr j hj ej with q | ⟨t2, p1, p2⟩
        · exact Or.inl ⟨q.1, fun z => ej z.2.symm⟩
        · refine Or.inr ⟨t2, p1, ?_⟩
          rw [if_neg (fun z : 1 = 1 ∧ kd = j => ej z.2.symm)]
          exact p2.weak
    · have hfr : ∀ a, cBase k + 25 ≤ a → a < s4.1 → ow a ≠ kd → σ'.2 a = s4.2 a := fun a h1 h2 h3 => by
        have h4 : ¬ (t0 ≤ a ∧ a < t0 + 10) := fun z => h3 (b3 a z.1 z.2)
        exact d3.2 a (by omega) (by omega)
      exact q5.other (j0 := kd) (by omega) hfr j hj (by omega))

set_option maxRecDepth 100000 in
set_option maxHeartbeats 4000000 in
theorem c_beginX {k : Cx} {L0 : Launch} {σ : St} {tb : Int} (hC : Cor k σ tb) (hbs : cBase k + 25 ≤ σ.1) {on0 kd0 n0 e0 : Nat} (hTs : TBs k σ on0 kd0 n0 e0) {on1 kd1 e1 wt1 yp1 np1 : Int} {n1 an1 : Nat} (hG : σ.2 (cBase k + 9) = some (oGame k on1 kd1 n1 e1 an1 wt1 yp1 np1)) {f0 : Nat → Int} (hL : σ.2 (cBase k + 10) = some (eI k 992 f0)) (hf0 : ∀ j, -1 ≤ f0 j ∧ f0 j ≤ 3) {kd n e2 : Nat} {c : Int} (hc : zR c) (hk : kd < 3) (hn : 1 ≤ n ∧ n ≤ 16) (he : e2 ≤ 3) (hce : (kd = 0 ∧ e2 = 0) ∨ (kd ≠ 0 ∧ c = (e2 : Int))) : CtrV k L0 mX11_begin 10 20 9934 [.ref (cBase k), .int (iZ (kd : Int)), .int (iZ (n : Int)), .int (iZ c)] σ (fun v σ' => v = .int (iZ (if (fewN (cyK kd) (cnK kd) (hQ (fun _ => (e2 : Int)) 0 n) : Int) ≤ 12 then (fewN (cyK kd) (cnK kd) (hQ (fun _ => (e2 : Int)) 0 n) : Int) else -9)) ∧ cBase k + 25 ≤ σ'.1 ∧ Cor k σ' tb ∧ GmX k σ' 1 kd n e2 0 (-1) (fun _ _ => (e2 : Int)) ∧ TBs k σ' 1 kd n e2 ∧ ∀ b, b < cBase k + 25 → b ≠ cBase k + 6 → b ≠ cBase k + 7 → b ≠ cBase k + 9 → b ≠ cBase k + 10 → σ'.2 b = σ.2 b) := by
  refine Ctr.of (by decide +kernel) rfl (Nat.le_of_ble_eq_true rfl) ?_
  intro κ hl0 S
  subst hl0
  refine r_iload_n S dX11_begin_0 rfl ?_
  refine r_callS S (c_isKind ⟨by omega, by omega⟩) k_mX11_isKind c_RX11_62 dX11_begin_1 (by decide) ⟨by omega, by omega⟩ rfl rfl (Nat.le_of_ble_eq_true rfl) (fun r σ' hp => ?_)
  obtain ⟨_, rfl, rfl, rfl⟩ := hp
  try simp only [Option.toList_some, Option.toList_none, List.cons_append, List.nil_append]
  refine r_if_eq S dX11_begin_4 (tgt := 14) (by decide) (b01_R _) (fun h_4 => ?_) (fun h_4 => ?_)
  · simp only [b01_z, Decidable.not_not] at h_4
    omega
  · simp only [b01_z, Decidable.not_not] at h_4
    refine r_iload_n S dX11_begin_7 rfl ?_
    refine r_callS S (c_isCount ⟨by omega, by omega⟩) k_mX11_isCount c_RX11_66 dX11_begin_8 (by decide) ⟨by omega, by omega⟩ rfl rfl (Nat.le_of_ble_eq_true rfl) (fun r σ' hp => ?_)
    obtain ⟨_, rfl, rfl, rfl⟩ := hp
    try simp only [Option.toList_some, Option.toList_none, List.cons_append, List.nil_append]
    refine r_if_ne S dX11_begin_11 (tgt := 16) (by decide) (b01_R _) (fun h_11 => ?_) (fun h_11 => ?_)
    · simp only [b01_z, Decidable.not_not] at h_11
      refine r_iload_n S dX11_begin_16 rfl ?_
      refine r_if_eq S dX11_begin_17 (tgt := 29) (by decide) ⟨by omega, by omega⟩ (fun h_17 => ?_) (fun h_17 => ?_)
      · refine r_iload_n S dX11_begin_29 rfl ?_
        refine r_if_ne S dX11_begin_30 (tgt := 37) (by decide) ⟨by omega, by omega⟩ (fun h_30 => ?_) (fun h_30 => ?_)
        · refine r_iload_n S dX11_begin_37 rfl ?_
          refine r_num (z' := (e2 : Int)) (by omega) ?_
          refine r_istore S dX11_begin_38 rfl (by decide) (lv' := [_, _, _, _, _]) rfl ?_
          exact s_begin40 hC hbs hTs hG hL hf0 hc hk hn he hce S
        · refine r_iconst S dX11_begin_33 ?_
          refine r_goto S dX11_begin_34 (tgt := 38) (by decide) ?_
          refine r_num (z' := (e2 : Int)) (by omega) ?_
          refine r_istore S dX11_begin_38 rfl (by decide) (lv' := [_, _, _, _, _]) rfl ?_
          exact s_begin40 hC hbs hTs hG hL hf0 hc hk hn he hce S
      · refine r_iload_n S dX11_begin_20 rfl ?_
        refine r_callS S (c_isLies hc) k_mX11_isLies c_RX11_69 dX11_begin_21 (by decide) ⟨by omega, by omega⟩ rfl rfl (Nat.le_of_ble_eq_true rfl) (fun r σ' hp => ?_)
        obtain ⟨_, rfl, rfl, rfl⟩ := hp
        try simp only [Option.toList_some, Option.toList_none, List.cons_append, List.nil_append]
        refine r_if_ne S dX11_begin_24 (tgt := 29) (by decide) (b01_R _) (fun h_24 => ?_) (fun h_24 => ?_)
        · simp only [b01_z, Decidable.not_not] at h_24
          refine r_iload_n S dX11_begin_29 rfl ?_
          refine r_if_ne S dX11_begin_30 (tgt := 37) (by decide) ⟨by omega, by omega⟩ (fun h_30 => ?_) (fun h_30 => ?_)
          · refine r_iload_n S dX11_begin_37 rfl ?_
            refine r_num (z' := (e2 : Int)) (by omega) ?_
            refine r_istore S dX11_begin_38 rfl (by decide) (lv' := [_, _, _, _, _]) rfl ?_
            exact s_begin40 hC hbs hTs hG hL hf0 hc hk hn he hce S
          · refine r_iconst S dX11_begin_33 ?_
            refine r_goto S dX11_begin_34 (tgt := 38) (by decide) ?_
            refine r_num (z' := (e2 : Int)) (by omega) ?_
            refine r_istore S dX11_begin_38 rfl (by decide) (lv' := [_, _, _, _, _]) rfl ?_
            exact s_begin40 hC hbs hTs hG hL hf0 hc hk hn he hce S
        · simp only [b01_z, Decidable.not_not] at h_24
          omega
    · simp only [b01_z, Decidable.not_not] at h_11
      omega
