def GmM (k : Cx) (σ : St) (kd n e an : Nat) (wt tb : Int) (q : Nat) (tr sk sm : Int) (Ls : Nat → Nat → Int) : Prop := σ.2 (cBase k + 14) = some (oModel k 1 kd n e an wt tb q tr sk sm) ∧ (∃ l : Nat → Int, σ.2 (cBase k + 15) = some (eI k 16 l) ∧ (∀ j, -1 ≤ l j ∧ l j ≤ 3) ∧ ∀ i, i < n → l i = Ls an i) ∧ (∃ b : Nat → Int, σ.2 (cBase k + 16) = some (eI k 976 b) ∧ (∀ j, -1 ≤ b j ∧ b j ≤ 3) ∧ ∀ a, a < an → ∀ i, i < n → b (16 * a + i) = Ls a i) ∧ ∃ t : Nat → Int, σ.2 (cBase k + 24) = some (eI k 16 t) ∧ ∀ j, -1 ≤ t j ∧ t j ≤ 3
def FrQ (k : Cx) (σ σ' : St) : Prop := σ'.1 = σ.1 ∧ ∀ a, a ≠ cBase k + 14 → a ≠ cBase k + 15 → a ≠ cBase k + 16 → a ≠ cBase k + 24 → σ'.2 a = σ.2 a
theorem FrQ.trans {k : Cx} {σ σ1 σ2 : St} (h1 : FrQ k σ σ1) (h2 : FrQ k σ1 σ2) : FrQ k σ σ2 := ⟨h2.1.trans h1.1, fun a p1 p2 p3 p4 => (h2.2 a p1 p2 p3 p4).trans (h1.2 a p1 p2 p3 p4)⟩
theorem cnt_nvc {l l' : Nat → Int} {n kd h y : Nat} (hl : ∀ i, i < n → l i = l' i) : cnt (fun j => decide (nv l kd h y j ≠ -1)) n = cnt (fun j => decide (nv l' kd h y j ≠ -1)) n := cnt_congr (fun i hi => by unfold nv; rw [hl i hi])
theorem tkA_rng {g t : Nat → Int} (hg : ∀ j, -1 ≤ g j ∧ g j ≤ 3) (ht : ∀ j, -1 ≤ t j ∧ t j ≤ 3) (a n : Nat) : ∀ j, -1 ≤ tkA g t a n j ∧ tkA g t a n j ≤ 3 := by
  intro j
  unfold tkA
  split
  · exact hg _
  · exact ht j
theorem c_ans0 {k : Cx} {L0 : Launch} {σ : St} {tb tr sk sm : Int} {kd n e an q heap : Nat} {Ls : Nat → Nat → Int} (hY : GmM k σ kd n e an (heap : Int) tb q tr sk sm Ls) (hkd : kd < 3) (han : an ≤ 60) (hn : n ≤ 16) (hh : heap < 65536) {y : Nat} (hy : y < 2) (hc : cnt (fun j => decide (nv (Ls an) kd heap y j ≠ -1)) n = 0 ∨ 60 ≤ an) : CtrV k L0 mX12_answer 3 0 0 [.ref (cBase k + 14), .int (iZ (y : Int))] σ (fun v σ' => ∃ z : Int, (z = -2 ∨ z = -3) ∧ (cnt (fun j => decide (nv (Ls an) kd heap y j ≠ -1)) n = 0 → z = -2) ∧ (cnt (fun j => decide (nv (Ls an) kd heap y j ≠ -1)) n ≠ 0 → z = -3) ∧ v = .int (iZ z) ∧ GmM k σ' kd n e an (heap : Int) tb q tr sk sm Ls ∧ FrQ k σ σ') := by
  obtain ⟨h1, ⟨l, h2, h3, h4⟩, ⟨b, h5, h6, h7⟩, t, h8, h9⟩ := hY
  have hcn := cnt_nvc (kd := kd) (h := heap) (y := y) h4
  have hY' : GmM k (sUp σ (cBase k + 24) (eI k 16 (tkF (nv l kd heap y) t n))) kd n e an (heap : Int) tb q tr sk sm Ls := ⟨sUp_ne (by omega) h1, ⟨l, sUp_ne (by omega) h2, h3, h4⟩, ⟨b, sUp_ne (by omega) h5, h6, h7⟩, _, sUp_same, tkF_rng (fun j => nv_rng h3 kd heap y j) h9 n⟩
  have hF' : FrQ k σ (sUp σ (cBase k + 24) (eI k 16 (tkF (nv l kd heap y) t n))) := ⟨rfl, fun a _ _ _ ha => if_neg ha⟩
  by_cases h0 : cnt (fun j => decide (nv (Ls an) kd heap y j ≠ -1)) n = 0
  · refine (c_answerMs h1 h2 h3 hn hkd hh hy h8 (by rw [hcn]; exact h0)).mono (fun v σ' hp => ?_)
    obtain ⟨a1, rfl⟩ := hp
    exact ⟨-2, Or.inl rfl, fun _ => rfl, fun z => absurd h0 z, a1, hY', hF'⟩
  · refine (c_answerMf h1 h2 h3 hn hkd hh hy h8 (by rw [hcn]; exact h0) (by rcases hc with z | z; exact absurd z h0; omega)).mono (fun v σ' hp => ?_)
    obtain ⟨a1, rfl⟩ := hp
    exact ⟨-3, Or.inr rfl, fun z => absurd z h0, fun _ => rfl, a1, hY', hF'⟩
theorem c_ans1 {k : Cx} {L0 : Launch} {σ : St} {tb tr sk sm : Int} {kd n e an q heap : Nat} {Ls : Nat → Nat → Int} (hY : GmM k σ kd n e an (heap : Int) tb q tr sk sm Ls) (hkd : kd < 3) (han : an ≤ 60) (hn : n ≤ 16) (hh : heap < 65536) {y : Nat} (hy : y < 2) (hc : cnt (fun j => decide (nv (Ls an) kd heap y j ≠ -1)) n ≠ 0) (ha6 : an < 60) : CtrV k L0 mX12_answer 3 0 0 [.ref (cBase k + 14), .int (iZ (y : Int))] σ (fun v σ' => v = .int (iZ (cnt (fun j => decide (nv (Ls an) kd heap y j ≠ -1)) n : Int)) ∧ GmM k σ' kd n e (an + 1) (-1) tb q tr sk sm (rowU Ls (an + 1) (nv (Ls an) kd heap y)) ∧ FrQ k σ σ') := by
  obtain ⟨h1, ⟨l, h2, h3, h4⟩, ⟨b, h5, h6, h7⟩, t, h8, h9⟩ := hY
  have hcn := cnt_nvc (kd := kd) (h := heap) (y := y) h4
  refine (c_answerM h1 h2 h3 hn hkd hh hy h8 (by rw [hcn]; exact hc) ha6 h5).mono (fun v σ' hp => ?_)
  obtain ⟨a1, rfl⟩ := hp
  rw [hcn] at a1
  refine ⟨a1, ⟨sUp_same, ⟨_, sUp_ne (by omega) sUp_same, tkF_rng (fun j => nv_rng h3 kd heap y j) h3 n, fun i hi => ?_⟩, ⟨_, sUp_ne (by omega) (sUp_ne (by omega) sUp_same), tkA_rng h3 h6 _ n, fun a ha i hi => ?_⟩, _, sUp_ne (by omega) (sUp_ne (by omega) (sUp_ne (by omega) sUp_same)), tkF_rng (fun j => nv_rng h3 kd heap y j) h9 n⟩, rfl, fun a p1 p2 p3 p4 => (if_neg p1).trans ((if_neg p2).trans ((if_neg p3).trans (if_neg p4)))⟩
  · rw [tkF_in hi, rowU_eq]
    unfold nv
    rw [h4 i hi]
  · rw [rowU_ne (by omega)]
    by_cases ea : a = an
    · subst ea
      rw [tkA_in hi]
      exact h4 i hi
    · rw [tkA_out (by omega)]
      exact h7 a (by omega) i hi
set_option maxRecDepth 100000 in
set_option maxHeartbeats 4000000 in
theorem c_playM0 {k : Cx} {L0 : Launch} {σ : St} {wt tb tr sk sm : Int} {on kd n e an q : Nat} (hM : σ.2 (cBase k + 14) = some (oModel k on kd n e an wt tb q tr sk sm)) (hq : q ≤ 12) {z : Int} (hz : zR z) (hx : z < 0 ∨ ((2 ^ q : Nat) : Int) ≤ z) : CtrV k L0 mX12_play 4 0 0 [.ref (cBase k + 14), .int (iZ z)] σ (fun v σ' => v = .int (iZ (-1)) ∧ σ' = σ) := by
  refine Ctr.of (by decide +kernel) rfl (Nat.le_of_ble_eq_true rfl) ?_
  intro κ hl0 S
  subst hl0
  refine r_aload_n S dX12_play_0 rfl ?_
  refine r_iload_n S dX12_play_1 rfl ?_
  refine r_callV S (c_isWordM hM hq hz) k_mX12_isWord c_RX12_159_11 dX12_play_2 (by decide) ⟨by omega, by omega⟩ (by repeat (first | assumption | exact sUp_same | exact sNew_same | refine sUp_ne (by first | assumption | omega) ?_)) rfl rfl (Nat.le_of_ble_eq_true rfl) (fun r σ' hp => ?_)
  obtain ⟨_, rfl, rfl, rfl⟩ := hp
  try simp only [Option.toList_some, Option.toList_none, List.cons_append, List.nil_append]
  refine r_if_ne S dX12_play_5 (tgt := 10) (by decide) (b01_R _) (fun h_5 => ?_) (fun h_5 => ?_)
  · simp only [b01_z, Decidable.not_not] at h_5
    omega
  · simp only [b01_z, Decidable.not_not] at h_5
    refine r_iconst S dX12_play_8 ?_
    exact r_iret S dX12_play_9 (by omega) (by omega) (⟨_, rfl, rfl, rfl⟩)

set_option maxRecDepth 100000 in
set_option maxHeartbeats 4000000 in
theorem c_playM1 {k : Cx} {L0 : Launch} {σ : St} {wt tb tr sk sm : Int} {kd n e an q : Nat} (hM : σ.2 (cBase k + 14) = some (oModel k 0 kd n e an wt tb q tr sk sm)) (hq : q ≤ 12) {w : Nat} (hw : w < 2 ^ q) : CtrV k L0 mX12_play 4 0 0 [.ref (cBase k + 14), .int (iZ (w : Int))] σ (fun v σ' => v = .int (iZ (-2)) ∧ σ' = σ) := by
  refine Ctr.of (by decide +kernel) rfl (Nat.le_of_ble_eq_true rfl) ?_
  intro κ hl0 S
  subst hl0
  have hp12 := pw12 hq
  refine r_aload_n S dX12_play_0 rfl ?_
  refine r_iload_n S dX12_play_1 rfl ?_
  refine r_callV S (c_isWordM hM hq ⟨by omega, by omega⟩) k_mX12_isWord c_RX12_159_11 dX12_play_2 (by decide) ⟨by omega, by omega⟩ (by repeat (first | assumption | exact sUp_same | exact sNew_same | refine sUp_ne (by first | assumption | omega) ?_)) rfl rfl (Nat.le_of_ble_eq_true rfl) (fun r σ' hp => ?_)
  obtain ⟨_, rfl, rfl, rfl⟩ := hp
  try simp only [Option.toList_some, Option.toList_none, List.cons_append, List.nil_append]
  refine r_if_ne S dX12_play_5 (tgt := 10) (by decide) (b01_R _) (fun h_5 => ?_) (fun h_5 => ?_)
  · simp only [b01_z, Decidable.not_not] at h_5
    refine r_aload_n S dX12_play_10 rfl ?_
    refine r_getf S g_RX12_49_11 dX12_play_11 (by repeat (first | assumption | exact sUp_same | exact sNew_same | refine sUp_ne (by first | assumption | omega) ?_)) rfl ?_
    refine r_if_ne S dX12_play_14 (tgt := 20) (by decide) ⟨by omega, by omega⟩ (fun h_14 => ?_) (fun h_14 => ?_)
    · omega
    · refine r_bipush S dX12_play_17 (by decide) ?_
      exact r_iret S dX12_play_19 (by omega) (by omega) (⟨_, rfl, rfl, rfl⟩)
  · simp only [b01_z, Decidable.not_not] at h_5
    omega

set_option maxRecDepth 100000 in
set_option maxHeartbeats 4000000 in
theorem l_playM {κ : Kx} {k : Cx} {σ : St} {tb tr sk sm : Int} {kd n e q : Nat} (hq : q ≤ 12) {qs : Nat → Nat} (hQ : σ.2 (cBase k + 17) = some (eI k 12 (fun j => (qs j : Int)))) (hqs : ∀ j, qs j < 65536) (hkd : kd < 3) (hn : n ≤ 16) {w : Nat} (hw : w < 4096) {R : Nat × Nat × (Nat → Nat → Int)} (S : Ok κ k cX12_play 4 RX12 (some .int) "play" 4 0 0) : ∀ (m d : Nat), d + m = q → ∀ (an : Nat) (wt : Int) (Ls : Nat → Nat → Int) (σc : St), an ≤ 60 → GmM k σc kd n e an wt tb q tr sk sm Ls → FrQ k σ σc → plGo kd n qs w m d an Ls = R → V κ k 4 0 0 (QR κ k (fun r9 σ' => ∃ v, r9 = some v ∧ (v = .int (iZ (R.1 : Int)) ∧ GmM k σ' kd n e R.2.1 (-1) tb q tr sk sm R.2.2 ∧ FrQ k σ σ')) 0 0) 24 [some (.ref (cBase k + 14)), some (.int (iZ (w : Int))), some (.int (iZ (d : Int))), some (.int (iZ 1))] [] σc := by
  intro m
  induction m with
  | zero =>
    intro d hdm an wt Ls σc han hY hF hR
    rw [plGo] at hR
    subst hR
    have hMc := hY.1
    have hQc := (hF.2 (cBase k + 17) (by omega) (by omega) (by omega) (by omega)).trans hQ
    refine r_iload_n S dX12_play_24 rfl ?_
    refine r_if_eq S dX12_play_25 (tgt := 97) (by decide) ⟨by omega, by omega⟩ (fun h_25 => ?_) (fun h_25 => ?_)
    · omega
    · refine r_iload_n S dX12_play_28 rfl ?_
      refine r_aload_n S dX12_play_29 rfl ?_
      refine r_getf S g_RX12_146_11 dX12_play_30 (by repeat (first | assumption | exact sUp_same | exact sNew_same | refine sUp_ne (by first | assumption | omega) ?_)) rfl ?_
      refine r_icmp_ge S dX12_play_33 (tgt := 97) (by decide) ⟨by omega, by omega⟩ ⟨by omega, by omega⟩ (fun h_33 => ?_) (fun h_33 => ?_)
      · refine r_aload_n S dX12_play_97 rfl ?_
        refine r_iconst S dX12_play_98 ?_
        refine r_putf S p_RX12_7_11 dX12_play_99 (by first | rfl | decide) (by first | rfl | decide) (by repeat (first | assumption | exact sUp_same | exact sNew_same | refine sUp_ne (by first | assumption | omega) ?_)) (Nat.le_of_ble_eq_true rfl) (fs' := [_, _, _, _, _, _, _, _, _, _, _, _, _, _, _, _, _, _, _, _, _]) rfl ?_
        try simp only [sUp_sUp]
        refine r_iload_n S dX12_play_102 rfl ?_
        exact r_iret S dX12_play_103 (by omega) (by omega) (⟨_, rfl, rfl, (⟨sUp_same, hY.2.1.imp (fun _ h => ⟨sUp_ne (by omega) h.1, h.2⟩), hY.2.2.1.imp (fun _ h => ⟨sUp_ne (by omega) h.1, h.2⟩), hY.2.2.2.imp (fun _ h => ⟨sUp_ne (by omega) h.1, h.2⟩)⟩ : GmM k _ kd n e an (-1) tb q tr sk sm Ls), hF.1, fun a p1 p2 p3 p4 => (if_neg p1).trans (hF.2 a p1 p2 p3 p4)⟩)
      · omega
  | succ m ih =>
    intro d hdm an wt Ls σc han hY hF hR
    rw [plGo] at hR
    have hMc := hY.1
    have hQc := (hF.2 (cBase k + 17) (by omega) (by omega) (by omega) (by omega)).trans hQ
    have hbt := bt_lt w d
    have hpn : 2 ^ n ≤ 2 ^ 16 := Nat.pow_le_pow_right (by decide) hn
    have hmd := Nat.mod_lt (qs d) (Nat.two_pow_pos n)
    have hqd := hqs d
    have hcl := cnt_le (fun j => decide (nv (Ls an) kd (qs d % 2 ^ n) (bt w d) j ≠ -1)) n
    by_cases hc : cnt (fun j => decide (nv (Ls an) kd (qs d % 2 ^ n) (bt w d) j ≠ -1)) n = 0 ∨ 60 ≤ an
    · rw [if_pos hc] at hR
      subst hR
      refine r_iload_n S dX12_play_24 rfl ?_
      refine r_if_eq S dX12_play_25 (tgt := 97) (by decide) ⟨by omega, by omega⟩ (fun h_25 => ?_) (fun h_25 => ?_)
      · omega
      · refine r_iload_n S dX12_play_28 rfl ?_
        refine r_aload_n S dX12_play_29 rfl ?_
        refine r_getf S g_RX12_146_11 dX12_play_30 (by repeat (first | assumption | exact sUp_same | exact sNew_same | refine sUp_ne (by first | assumption | omega) ?_)) rfl ?_
        refine r_icmp_ge S dX12_play_33 (tgt := 97) (by decide) ⟨by omega, by omega⟩ ⟨by omega, by omega⟩ (fun h_33 => ?_) (fun h_33 => ?_)
        · omega
        · refine r_aload_n S dX12_play_36 rfl ?_
          refine r_aload_n S dX12_play_37 rfl ?_
          refine r_getf S g_RX12_20_11 dX12_play_38 (by repeat (first | assumption | exact sUp_same | exact sNew_same | refine sUp_ne (by first | assumption | omega) ?_)) rfl ?_
          refine r_iload_n S dX12_play_41 rfl ?_
          refine r_ialdN S (d) dX12_play_42 (by repeat (first | assumption | exact sUp_same | exact sNew_same | refine sUp_ne (by first | assumption | omega) ?_)) (by omega) (by omega) (by decide) ?_
          refine r_iconst S dX12_play_43 ?_
          refine r_aload_n S dX12_play_44 rfl ?_
          refine r_getf S g_RX12_91_11 dX12_play_45 (by repeat (first | assumption | exact sUp_same | exact sNew_same | refine sUp_ne (by first | assumption | omega) ?_)) rfl ?_
          refine r_ishl S dX12_play_48 (shlZ (a := 1) (i := n) (pw1 hn) (by omega)) ?_
          refine r_iconst S dX12_play_49 ?_
          refine r_isub S dX12_play_50 ?_
          refine r_iand S dX12_play_51 (maskZ hn) ?_
          refine r_putf S p_RX12_7_11 dX12_play_52 (by first | rfl | decide) (by first | rfl | decide) (by repeat (first | assumption | exact sUp_same | exact sNew_same | refine sUp_ne (by first | assumption | omega) ?_)) (Nat.le_of_ble_eq_true rfl) (fs' := [_, _, _, _, _, _, _, _, _, _, _, _, _, _, _, _, _, _, _, _, _]) rfl ?_
          try simp only [sUp_sUp]
          refine V.name (fun s1 e1 => ?_)
          have hY1 : GmM k s1 kd n e an ((qs d % 2 ^ n : Nat) : Int) tb q tr sk sm Ls := by
            rw [e1]
            exact ⟨sUp_same, hY.2.1.imp (fun _ h => ⟨sUp_ne (by omega) h.1, h.2⟩), hY.2.2.1.imp (fun _ h => ⟨sUp_ne (by omega) h.1, h.2⟩), hY.2.2.2.imp (fun _ h => ⟨sUp_ne (by omega) h.1, h.2⟩)⟩
          have hF1 : FrQ k σ s1 := by
            rw [e1]
            exact ⟨hF.1, fun a p1 p2 p3 p4 => (if_neg p1).trans (hF.2 a p1 p2 p3 p4)⟩
          have hM1 := hY1.1
          refine r_aload_n S dX12_play_55 rfl ?_
          refine r_iload_n S dX12_play_56 rfl ?_
          refine r_iload_n S dX12_play_57 rfl ?_
          refine r_ishr S dX12_play_58 (shrZ (by omega) (by omega)) ?_
          refine r_iconst S dX12_play_59 ?_
          refine r_iand S dX12_play_60 (v := iZ ((bt w d : Nat) : Int)) (and1Z _) ?_
          refine r_iconst S dX12_play_61 ?_
          refine r_icmp_ne S dX12_play_62 (tgt := 69) (by decide) ⟨by omega, by omega⟩ ⟨by omega, by omega⟩ (fun h_62 => ?_) (fun h_62 => ?_)
          · refine r_iconst S dX12_play_69 ?_
            refine r_num (z' := ((bt w d : Nat) : Int)) (by omega) ?_
            refine r_callV S (c_ans0 hY1 hkd han hn (by omega) hbt hc) k_mX12_answer c_RX12_162_11 dX12_play_70 (by decide) ⟨by omega, by omega⟩ (by repeat (first | assumption | exact sUp_same | exact sNew_same | refine sUp_ne (by first | assumption | omega) ?_)) rfl rfl (Nat.le_of_ble_eq_true rfl) (fun r σ' hp => ?_)
            obtain ⟨_, rfl, z9, hz9, _, _, rfl, hY2, hF2⟩ := hp
            try simp only [Option.toList_some, Option.toList_none, List.cons_append, List.nil_append]
            have hM2 := hY2.1
            have hF3 := hF1.trans hF2
            refine r_if_le S dX12_play_73 (tgt := 80) (by decide) ⟨by omega, by omega⟩ (fun h_73 => ?_) (fun h_73 => ?_)
            · refine r_iconst S dX12_play_80 ?_
              refine r_istore_n S dX12_play_81 rfl (by decide) (lv' := [_, _, _, _]) rfl ?_
              refine r_iload_n S dX12_play_82 rfl ?_
              refine r_iload_n S dX12_play_83 rfl ?_
              refine r_if_eq S dX12_play_84 (tgt := 91) (by decide) ⟨by omega, by omega⟩ (fun h_84 => ?_) (fun h_84 => ?_)
              · refine r_iconst S dX12_play_91 ?_
                refine r_iadd S dX12_play_92 ?_
                refine r_istore_n S dX12_play_93 rfl (by decide) (lv' := [_, _, _, _]) rfl ?_
                refine r_goto S dX12_play_94 (tgt := 24) (by decide) ?_
                refine r_iload_n S dX12_play_24 rfl ?_
                refine r_if_eq S dX12_play_25 (tgt := 97) (by decide) ⟨by omega, by omega⟩ (fun h_25 => ?_) (fun h_25 => ?_)
                · refine r_aload_n S dX12_play_97 rfl ?_
                  refine r_iconst S dX12_play_98 ?_
                  refine r_putf S p_RX12_7_11 dX12_play_99 (by first | rfl | decide) (by first | rfl | decide) (by repeat (first | assumption | exact sUp_same | exact sNew_same | refine sUp_ne (by first | assumption | omega) ?_)) (Nat.le_of_ble_eq_true rfl) (fs' := [_, _, _, _, _, _, _, _, _, _, _, _, _, _, _, _, _, _, _, _, _]) rfl ?_
                  try simp only [sUp_sUp]
                  refine r_iload_n S dX12_play_102 rfl ?_
                  exact r_iret S dX12_play_103 (by omega) (by omega) (⟨_, rfl, by congr 2, (⟨sUp_same, hY2.2.1.imp (fun _ h => ⟨sUp_ne (by omega) h.1, h.2⟩), hY2.2.2.1.imp (fun _ h => ⟨sUp_ne (by omega) h.1, h.2⟩), hY2.2.2.2.imp (fun _ h => ⟨sUp_ne (by omega) h.1, h.2⟩)⟩ : GmM k _ kd n e an (-1) tb q tr sk sm Ls), hF3.1, fun a p1 p2 p3 p4 => (if_neg p1).trans (hF3.2 a p1 p2 p3 p4)⟩)
                · omega
              · omega
            · omega
          · refine r_iconst S dX12_play_65 ?_
            refine r_goto S dX12_play_66 (tgt := 70) (by decide) ?_
            refine r_num (z' := ((bt w d : Nat) : Int)) (by omega) ?_
            refine r_callV S (c_ans0 hY1 hkd han hn (by omega) hbt hc) k_mX12_answer c_RX12_162_11 dX12_play_70 (by decide) ⟨by omega, by omega⟩ (by repeat (first | assumption | exact sUp_same | exact sNew_same | refine sUp_ne (by first | assumption | omega) ?_)) rfl rfl (Nat.le_of_ble_eq_true rfl) (fun r σ' hp => ?_)
            obtain ⟨_, rfl, z9, hz9, _, _, rfl, hY2, hF2⟩ := hp
            try simp only [Option.toList_some, Option.toList_none, List.cons_append, List.nil_append]
            have hM2 := hY2.1
            have hF3 := hF1.trans hF2
            refine r_if_le S dX12_play_73 (tgt := 80) (by decide) ⟨by omega, by omega⟩ (fun h_73 => ?_) (fun h_73 => ?_)
            · refine r_iconst S dX12_play_80 ?_
              refine r_istore_n S dX12_play_81 rfl (by decide) (lv' := [_, _, _, _]) rfl ?_
              refine r_iload_n S dX12_play_82 rfl ?_
              refine r_iload_n S dX12_play_83 rfl ?_
              refine r_if_eq S dX12_play_84 (tgt := 91) (by decide) ⟨by omega, by omega⟩ (fun h_84 => ?_) (fun h_84 => ?_)
              · refine r_iconst S dX12_play_91 ?_
                refine r_iadd S dX12_play_92 ?_
                refine r_istore_n S dX12_play_93 rfl (by decide) (lv' := [_, _, _, _]) rfl ?_
                refine r_goto S dX12_play_94 (tgt := 24) (by decide) ?_
                refine r_iload_n S dX12_play_24 rfl ?_
                refine r_if_eq S dX12_play_25 (tgt := 97) (by decide) ⟨by omega, by omega⟩ (fun h_25 => ?_) (fun h_25 => ?_)
                · refine r_aload_n S dX12_play_97 rfl ?_
                  refine r_iconst S dX12_play_98 ?_
                  refine r_putf S p_RX12_7_11 dX12_play_99 (by first | rfl | decide) (by first | rfl | decide) (by repeat (first | assumption | exact sUp_same | exact sNew_same | refine sUp_ne (by first | assumption | omega) ?_)) (Nat.le_of_ble_eq_true rfl) (fs' := [_, _, _, _, _, _, _, _, _, _, _, _, _, _, _, _, _, _, _, _, _]) rfl ?_
                  try simp only [sUp_sUp]
                  refine r_iload_n S dX12_play_102 rfl ?_
                  exact r_iret S dX12_play_103 (by omega) (by omega) (⟨_, rfl, by congr 2, (⟨sUp_same, hY2.2.1.imp (fun _ h => ⟨sUp_ne (by omega) h.1, h.2⟩), hY2.2.2.1.imp (fun _ h => ⟨sUp_ne (by omega) h.1, h.2⟩), hY2.2.2.2.imp (fun _ h => ⟨sUp_ne (by omega) h.1, h.2⟩)⟩ : GmM k _ kd n e an (-1) tb q tr sk sm Ls), hF3.1, fun a p1 p2 p3 p4 => (if_neg p1).trans (hF3.2 a p1 p2 p3 p4)⟩)
                · omega
              · omega
            · omega
    · rw [if_neg hc] at hR
      refine r_iload_n S dX12_play_24 rfl ?_
      refine r_if_eq S dX12_play_25 (tgt := 97) (by decide) ⟨by omega, by omega⟩ (fun h_25 => ?_) (fun h_25 => ?_)
      · omega
      · refine r_iload_n S dX12_play_28 rfl ?_
        refine r_aload_n S dX12_play_29 rfl ?_
        refine r_getf S g_RX12_146_11 dX12_play_30 (by repeat (first | assumption | exact sUp_same | exact sNew_same | refine sUp_ne (by first | assumption | omega) ?_)) rfl ?_
        refine r_icmp_ge S dX12_play_33 (tgt := 97) (by decide) ⟨by omega, by omega⟩ ⟨by omega, by omega⟩ (fun h_33 => ?_) (fun h_33 => ?_)
        · omega
        · refine r_aload_n S dX12_play_36 rfl ?_
          refine r_aload_n S dX12_play_37 rfl ?_
          refine r_getf S g_RX12_20_11 dX12_play_38 (by repeat (first | assumption | exact sUp_same | exact sNew_same | refine sUp_ne (by first | assumption | omega) ?_)) rfl ?_
          refine r_iload_n S dX12_play_41 rfl ?_
          refine r_ialdN S (d) dX12_play_42 (by repeat (first | assumption | exact sUp_same | exact sNew_same | refine sUp_ne (by first | assumption | omega) ?_)) (by omega) (by omega) (by decide) ?_
          refine r_iconst S dX12_play_43 ?_
          refine r_aload_n S dX12_play_44 rfl ?_
          refine r_getf S g_RX12_91_11 dX12_play_45 (by repeat (first | assumption | exact sUp_same | exact sNew_same | refine sUp_ne (by first | assumption | omega) ?_)) rfl ?_
          refine r_ishl S dX12_play_48 (shlZ (a := 1) (i := n) (pw1 hn) (by omega)) ?_
          refine r_iconst S dX12_play_49 ?_
          refine r_isub S dX12_play_50 ?_
          refine r_iand S dX12_play_51 (maskZ hn) ?_
          refine r_putf S p_RX12_7_11 dX12_play_52 (by first | rfl | decide) (by first | rfl | decide) (by repeat (first | assumption | exact sUp_same | exact sNew_same | refine sUp_ne (by first | assumption | omega) ?_)) (Nat.le_of_ble_eq_true rfl) (fs' := [_, _, _, _, _, _, _, _, _, _, _, _, _, _, _, _, _, _, _, _, _]) rfl ?_
          try simp only [sUp_sUp]
          refine V.name (fun s1 e1 => ?_)
          have hY1 : GmM k s1 kd n e an ((qs d % 2 ^ n : Nat) : Int) tb q tr sk sm Ls := by
            rw [e1]
            exact ⟨sUp_same, hY.2.1.imp (fun _ h => ⟨sUp_ne (by omega) h.1, h.2⟩), hY.2.2.1.imp (fun _ h => ⟨sUp_ne (by omega) h.1, h.2⟩), hY.2.2.2.imp (fun _ h => ⟨sUp_ne (by omega) h.1, h.2⟩)⟩
          have hF1 : FrQ k σ s1 := by
            rw [e1]
            exact ⟨hF.1, fun a p1 p2 p3 p4 => (if_neg p1).trans (hF.2 a p1 p2 p3 p4)⟩
          have hM1 := hY1.1
          refine r_aload_n S dX12_play_55 rfl ?_
          refine r_iload_n S dX12_play_56 rfl ?_
          refine r_iload_n S dX12_play_57 rfl ?_
          refine r_ishr S dX12_play_58 (shrZ (by omega) (by omega)) ?_
          refine r_iconst S dX12_play_59 ?_
          refine r_iand S dX12_play_60 (v := iZ ((bt w d : Nat) : Int)) (and1Z _) ?_
          refine r_iconst S dX12_play_61 ?_
          refine r_icmp_ne S dX12_play_62 (tgt := 69) (by decide) ⟨by omega, by omega⟩ ⟨by omega, by omega⟩ (fun h_62 => ?_) (fun h_62 => ?_)
          · refine r_iconst S dX12_play_69 ?_
            refine r_num (z' := ((bt w d : Nat) : Int)) (by omega) ?_
            refine r_callV S (c_ans1 hY1 hkd han hn (by omega) hbt (fun z => hc (Or.inl z)) (by omega)) k_mX12_answer c_RX12_162_11 dX12_play_70 (by decide) ⟨by omega, by omega⟩ (by repeat (first | assumption | exact sUp_same | exact sNew_same | refine sUp_ne (by first | assumption | omega) ?_)) rfl rfl (Nat.le_of_ble_eq_true rfl) (fun r σ' hp => ?_)
            obtain ⟨_, rfl, rfl, hY2, hF2⟩ := hp
            try simp only [Option.toList_some, Option.toList_none, List.cons_append, List.nil_append]
            have hM2 := hY2.1
            have hF3 := hF1.trans hF2
            refine r_if_le S dX12_play_73 (tgt := 80) (by decide) ⟨by omega, by omega⟩ (fun h_73 => ?_) (fun h_73 => ?_)
            · omega
            · refine r_iconst S dX12_play_76 ?_
              refine r_goto S dX12_play_77 (tgt := 81) (by decide) ?_
              refine r_istore_n S dX12_play_81 rfl (by decide) (lv' := [_, _, _, _]) rfl ?_
              refine r_iload_n S dX12_play_82 rfl ?_
              refine r_iload_n S dX12_play_83 rfl ?_
              refine r_if_eq S dX12_play_84 (tgt := 91) (by decide) ⟨by omega, by omega⟩ (fun h_84 => ?_) (fun h_84 => ?_)
              · omega
              · refine r_iconst S dX12_play_87 ?_
                refine r_goto S dX12_play_88 (tgt := 92) (by decide) ?_
                refine r_iadd S dX12_play_92 ?_
                refine r_istore_n S dX12_play_93 rfl (by decide) (lv' := [_, _, _, _]) rfl ?_
                refine r_goto S dX12_play_94 (tgt := 24) (by decide) ?_
                exact ih (d + 1) (by omega) _ _ _ _ (by omega) hY2 hF3 hR
          · refine r_iconst S dX12_play_65 ?_
            refine r_goto S dX12_play_66 (tgt := 70) (by decide) ?_
            refine r_num (z' := ((bt w d : Nat) : Int)) (by omega) ?_
            refine r_callV S (c_ans1 hY1 hkd han hn (by omega) hbt (fun z => hc (Or.inl z)) (by omega)) k_mX12_answer c_RX12_162_11 dX12_play_70 (by decide) ⟨by omega, by omega⟩ (by repeat (first | assumption | exact sUp_same | exact sNew_same | refine sUp_ne (by first | assumption | omega) ?_)) rfl rfl (Nat.le_of_ble_eq_true rfl) (fun r σ' hp => ?_)
            obtain ⟨_, rfl, rfl, hY2, hF2⟩ := hp
            try simp only [Option.toList_some, Option.toList_none, List.cons_append, List.nil_append]
            have hM2 := hY2.1
            have hF3 := hF1.trans hF2
            refine r_if_le S dX12_play_73 (tgt := 80) (by decide) ⟨by omega, by omega⟩ (fun h_73 => ?_) (fun h_73 => ?_)
            · omega
            · refine r_iconst S dX12_play_76 ?_
              refine r_goto S dX12_play_77 (tgt := 81) (by decide) ?_
              refine r_istore_n S dX12_play_81 rfl (by decide) (lv' := [_, _, _, _]) rfl ?_
              refine r_iload_n S dX12_play_82 rfl ?_
              refine r_iload_n S dX12_play_83 rfl ?_
              refine r_if_eq S dX12_play_84 (tgt := 91) (by decide) ⟨by omega, by omega⟩ (fun h_84 => ?_) (fun h_84 => ?_)
              · omega
              · refine r_iconst S dX12_play_87 ?_
                refine r_goto S dX12_play_88 (tgt := 92) (by decide) ?_
                refine r_iadd S dX12_play_92 ?_
                refine r_istore_n S dX12_play_93 rfl (by decide) (lv' := [_, _, _, _]) rfl ?_
                refine r_goto S dX12_play_94 (tgt := 24) (by decide) ?_
                exact ih (d + 1) (by omega) _ _ _ _ (by omega) hY2 hF3 hR

set_option maxRecDepth 100000 in
set_option maxHeartbeats 4000000 in
theorem c_playM {k : Cx} {L0 : Launch} {σ : St} {tb tr sk sm : Int} {kd n e q : Nat} (hq : q ≤ 12) {qs : Nat → Nat} (hQ : σ.2 (cBase k + 17) = some (eI k 12 (fun j => (qs j : Int)))) (hqs : ∀ j, qs j < 65536) (hkd : kd < 3) (hn : n ≤ 16) {w : Nat} (hw : w < 2 ^ q) {wt : Int} {an : Nat} {Ls : Nat → Nat → Int} (hY : GmM k σ kd n e an wt tb q tr sk sm Ls) (han : an ≤ 60) : CtrV k L0 mX12_play 4 0 0 [.ref (cBase k + 14), .int (iZ (w : Int))] σ (fun v σ' => v = .int (iZ ((plGo kd n qs w q 0 an Ls).1 : Int)) ∧ GmM k σ' kd n e (plGo kd n qs w q 0 an Ls).2.1 (-1) tb q tr sk sm (plGo kd n qs w q 0 an Ls).2.2 ∧ FrQ k σ σ') := by
  refine Ctr.of (by decide +kernel) rfl (Nat.le_of_ble_eq_true rfl) ?_
  intro κ hl0 S
  subst hl0
  have hM := hY.1
  have hp12 := pw12 hq
  refine r_aload_n S dX12_play_0 rfl ?_
  refine r_iload_n S dX12_play_1 rfl ?_
  refine r_callV S (c_isWordM hM hq ⟨by omega, by omega⟩) k_mX12_isWord c_RX12_159_11 dX12_play_2 (by decide) ⟨by omega, by omega⟩ (by repeat (first | assumption | exact sUp_same | exact sNew_same | refine sUp_ne (by first | assumption | omega) ?_)) rfl rfl (Nat.le_of_ble_eq_true rfl) (fun r σ' hp => ?_)
  obtain ⟨_, rfl, rfl, e9⟩ := hp
  rw [e9]
  clear e9
  try simp only [Option.toList_some, Option.toList_none, List.cons_append, List.nil_append]
  refine r_if_ne S dX12_play_5 (tgt := 10) (by decide) (b01_R _) (fun h_5 => ?_) (fun h_5 => ?_)
  · simp only [b01_z, Decidable.not_not] at h_5
    refine r_aload_n S dX12_play_10 rfl ?_
    refine r_getf S g_RX12_49_11 dX12_play_11 (by repeat (first | assumption | exact sUp_same | exact sNew_same | refine sUp_ne (by first | assumption | omega) ?_)) rfl ?_
    refine r_if_ne S dX12_play_14 (tgt := 20) (by decide) ⟨by omega, by omega⟩ (fun h_14 => ?_) (fun h_14 => ?_)
    · refine r_iconst S dX12_play_20 ?_
      refine r_istore_n S dX12_play_21 rfl (by decide) (lv' := [_, _, _, _]) rfl ?_
      refine r_iconst S dX12_play_22 ?_
      refine r_istore_n S dX12_play_23 rfl (by decide) (lv' := [_, _, _, _]) rfl ?_
      exact l_playM hq hQ hqs hkd hn (Nat.lt_of_lt_of_le hw hp12) S q 0 (by omega) an wt Ls _ han hY ⟨rfl, fun _ _ _ _ _ => rfl⟩ rfl
    · omega
  · simp only [b01_z, Decidable.not_not] at h_5
    omega
