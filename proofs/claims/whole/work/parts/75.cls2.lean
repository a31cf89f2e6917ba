/-! spans, best, worse, play of the class -/
def SPA (k : Cx) (σ : St) (kd on0 kd0 n0 e0 : Nat) (v : Value) (σ' : St) : Prop := ∃ (u : Nat) (hq sq : Nat → Option Nat) (ow : Nat → Nat), v = .ref u ∧ sq kd = some u ∧ σ'.2 (cBase k + 7) = some (eQ (cQH k) 3 hq) ∧ σ'.2 (cBase k + 8) = some (eQ (cQS k) 3 sq) ∧ IH k σ' hq ow on0 kd0 n0 e0 ∧ IS k σ' sq ow ∧ (∃ z' : Int, σ'.2 (cBase k + 6) = some (oTally z')) ∧ σ.1 ≤ σ'.1 ∧ ∀ b, b < cBase k + 25 → b ≠ cBase k + 6 → b ≠ cBase k + 8 → σ'.2 b = σ.2 b
theorem sp_new {k : Cx} {σ σ' : St} {hq sq : Nat → Option Nat} {ow : Nat → Nat} {kd on0 kd0 n0 e0 : Nat} (hb : cBase k + 25 ≤ σ.1) (h7 : σ.2 (cBase k + 7) = some (eQ (cQH k) 3 hq)) (hI : IH k σ hq ow on0 kd0 n0 e0) (hS : IS k σ sq ow) {v : Value} (hp : v = .ref σ.1 ∧ σ'.1 = σ.1 + 2 ∧ (∃ z' : Int, σ'.2 (cBase k + 6) = some (oTally z')) ∧ σ'.2 (cBase k + 8) = some (eQ (cQS k) 3 (uQ sq kd σ.1)) ∧ σ'.2 σ.1 = some (oSp σ.1 (py kd : Int) (pn kd : Int) ((0 : Nat) : Int)) ∧ σ'.2 (σ.1 + 1) = some (eI k 4096 (fun j => ((FsN kd 0 j : Nat) : Int))) ∧ ∀ b, b < σ.1 → b ≠ cBase k + 6 → b ≠ cBase k + 8 → σ'.2 b = σ.2 b) : SPA k σ kd on0 kd0 n0 e0 v σ' := by
  obtain ⟨p1, p2, p3, p4, p5, p6, p9⟩ := hp
  refine ⟨σ.1, hq, uQ sq kd σ.1, owN ow σ.1 (3 + kd), p1, uQ_eq, (p9 _ (by omega) (by omega) (by omega)).trans h7, p4, ?_, ?_, p3, by omega, fun b h1 h2 h3 => p9 b (by omega) h2 h3⟩
  · intro j hj
    rcases hI j hj with q | ⟨t, q1, q2⟩
    · exact Or.inl q
    · have q3 := q2.1
      have q4 := q2.2.1
      exact Or.inr ⟨t, q1, q2.fr (by omega) (fun a _ _ => if_pos (by omega)) (fun a _ _ => p9 a (by omega) (by omega) (by omega))⟩
  · intro j hj
    by_cases e : j = kd
    · subst e
      exact Or.inr ⟨σ.1, uQ_eq, hb, by omega, fun a ha _ => if_neg (by omega), 0, by omega, p5, p6⟩
    · rw [uQ_ne e]
      rcases hS j hj with q | ⟨u, q1, q2⟩
      · exact Or.inl q
      · have q3 := q2.1
        have q4 := q2.2.1
        exact Or.inr ⟨u, q1, q2.fr (by omega) (fun a _ _ => if_pos (by omega)) (fun a _ _ => p9 a (by omega) (by omega) (by omega))⟩
theorem c_spanTableA {k : Cx} {L0 : Launch} {σ : St} {tb : Int} (hC : Cor k σ tb) (hb : cBase k + 25 ≤ σ.1) {on kd0 n e : Nat} (hT : TBs k σ on kd0 n e) {kd : Nat} (hk : kd < 3) : CtrV k L0 mX11_spanTable 5 2 4100 [.ref (cBase k), .int (iZ (kd : Int))] σ (SPA k σ kd on kd0 n e) := by
  obtain ⟨hq, sq, ow, h7, h8, hI, hS⟩ := hT
  obtain ⟨h1, ⟨lq, h2, h3, h4, h5⟩, h6, h9, h10, z, h11⟩ := hC
  rcases hS kd hk with q | ⟨u, q1, q2⟩
  · match kd, hk with
    | 0, _ => exact (c_spanTableN0 h1 h2 h3 h4 h5 h6 h9 h10 h11 hb h8 q).mono (fun v σ' hp => sp_new hb h7 hI hS hp)
    | 1, _ => exact (c_spanTableN1 h1 h2 h3 h4 h5 h6 h9 h10 h11 hb h8 q).mono (fun v σ' hp => sp_new hb h7 hI hS hp)
    | 2, _ => exact (c_spanTableN2 h1 h2 h3 h4 h5 h6 h9 h10 h11 hb h8 q).mono (fun v σ' hp => sp_new hb h7 hI hS hp)
  · refine (c_spanTableG h1 h8 hk q1).mono (fun v σ' hp => ?_)
    obtain ⟨rfl, rfl⟩ := hp
    exact ⟨u, hq, sq, ow, rfl, q1, h7, h8, hI, hS, ⟨z, h11⟩, Nat.le_refl _, fun _ _ _ _ => rfl⟩
theorem prc_cost (kd : Nat) {y b : Nat} (hy : y < 2) (hb : b < 2) : prc (costK kd 1 0) (costK kd 0 1) b y = costK kd y b := by
  rcases (show y = 0 ∨ y = 1 by omega) with e | e <;> rcases (show b = 0 ∨ b = 1 by omega) with e2 | e2 <;> subst e <;> subst e2 <;> rfl
theorem newL_nv {f L : Nat → Int} {r n kd h y i : Nat} (hf : ∀ i, i < n → f (r + i) = L i) (hy : y < 2) (hi : i < n) : newL f r (costK kd 1 0) (costK kd 0 1) h y i = nv L kd h y i := by
  unfold newL nv
  rw [hf i hi, prc_cost kd hy (bt_lt h i)]
theorem cnt_newL {f L : Nat → Int} {r n kd h y : Nat} (hf : ∀ i, i < n → f (r + i) = L i) (hy : y < 2) : cnt (fun j => decide (newL f r (costK kd 1 0) (costK kd 0 1) h y j ≠ -1)) n = cnt (fun j => decide (nv L kd h y j ≠ -1)) n := cnt_congr (fun i hi => by rw [newL_nv hf hy hi])
theorem hQ_lay {f L : Nat → Int} {an n kd h y : Nat} (hf : ∀ i, i < n → f (an * 16 + i) = L i) (hy : y < 2) : hQ (layF f an (costK kd 1 0) (costK kd 0 1) h y n) (an * 16 + 16) n = hQ (nv L kd h y) 0 n := hQ_congr (fun i hi => by rw [layF_in hi, newL_nv hf hy hi, Nat.zero_add])
theorem nv_congr {l l' : Nat → Int} {n kd h y : Nat} (hl : ∀ i, i < n → l i = l' i) : hQ (nv l kd h y) 0 n = hQ (nv l' kd h y) 0 n := hQ_congr (fun i hi => by unfold nv; rw [Nat.zero_add, hl i hi])
theorem gB_congr {l l' : Nat → Int} {n kd h y : Nat} (hl : ∀ i, i < n → l i = l' i) : gB kd l n h y = gB kd l' n h y := by
  unfold gB
  rw [nv_congr hl]
/-- what an answer leaves is below what there was -/
theorem hQ_nv_le {l : Nat → Int} (hl : ∀ j, -1 ≤ l j ∧ l j ≤ 3) {kd : Nat} (hk : kd < 3) (h : Nat) {y : Nat} (hy : y < 2) (n : Nat) : Dec (hQ (nv l kd h y) 0 n) ∧ leQ (hQ (nv l kd h y) 0 n) (hQ l 0 n) := by
  have sp := tB_spl hl h n
  rcases (show y = 0 ∨ y = 1 by omega) with e | e <;> subst e
  · rw [hQ_no hl hk]; exact ⟨nS_dec sp, nS_le sp⟩
  · rw [hQ_yes hl hk]; exact ⟨yS_dec sp, yS_le sp⟩
set_option maxRecDepth 100000 in
set_option maxHeartbeats 4000000 in
theorem c_spansX0 {k : Cx} {L0 : Launch} {σ : St} {tb : Int} (hX : σ.2 (cBase k) = some (oX k tb)) {wt yp np : Int} {kd n e an : Nat} (hG : σ.2 (cBase k + 9) = some (oGame k 0 kd n e an wt yp np)) : CtrV k L0 mX11_spans 7 2 4100 [.ref (cBase k)] σ (fun v σ' => v = .int (iZ (-2)) ∧ σ' = σ) := by
  refine Ctr.of (by decide +kernel) rfl (Nat.le_of_ble_eq_true rfl) ?_
  intro κ hl0 S
  subst hl0
  refine r_aload_n S dX11_spans_0 rfl ?_
  refine r_getf S g_RX11_47_10 dX11_spans_1 (by repeat (first | assumption | exact sUp_same | exact sNew_same | refine sUp_ne (by first | assumption | omega) ?_)) rfl ?_
  refine r_getf S g_RX11_105_3 dX11_spans_4 (by repeat (first | assumption | exact sUp_same | exact sNew_same | refine sUp_ne (by first | assumption | omega) ?_)) rfl ?_
  refine r_if_ne S dX11_spans_7 (tgt := 13) (by decide) ⟨by omega, by omega⟩ (fun h_7 => ?_) (fun h_7 => ?_)
  · omega
  · refine r_bipush S dX11_spans_10 (by decide) ?_
    exact r_iret S dX11_spans_12 (by omega) (by omega) (⟨_, rfl, rfl, rfl⟩)

set_option maxRecDepth 100000 in
set_option maxHeartbeats 4000000 in
theorem c_spansXb {k : Cx} {L0 : Launch} {σ : St} {tb : Int} (hX : σ.2 (cBase k) = some (oX k tb)) {wt yp np : Int} {kd n e an : Nat} (hG : σ.2 (cBase k + 9) = some (oGame k 1 kd n e an wt yp np)) (hn : n ≤ 16) (he : e ≤ 3) (hb : 6 < n ∨ 2 < e) : CtrV k L0 mX11_spans 7 2 4100 [.ref (cBase k)] σ (fun v σ' => v = .int (iZ (-1)) ∧ σ' = σ) := by
  refine Ctr.of (by decide +kernel) rfl (Nat.le_of_ble_eq_true rfl) ?_
  intro κ hl0 S
  subst hl0
  refine r_aload_n S dX11_spans_0 rfl ?_
  refine r_getf S g_RX11_47_10 dX11_spans_1 (by repeat (first | assumption | exact sUp_same | exact sNew_same | refine sUp_ne (by first | assumption | omega) ?_)) rfl ?_
  refine r_getf S g_RX11_105_3 dX11_spans_4 (by repeat (first | assumption | exact sUp_same | exact sNew_same | refine sUp_ne (by first | assumption | omega) ?_)) rfl ?_
  refine r_if_ne S dX11_spans_7 (tgt := 13) (by decide) ⟨by omega, by omega⟩ (fun h_7 => ?_) (fun h_7 => ?_)
  · refine r_aload_n S dX11_spans_13 rfl ?_
    refine r_getf S g_RX11_47_10 dX11_spans_14 (by repeat (first | assumption | exact sUp_same | exact sNew_same | refine sUp_ne (by first | assumption | omega) ?_)) rfl ?_
    refine r_getf S g_RX11_135_3 dX11_spans_17 (by repeat (first | assumption | exact sUp_same | exact sNew_same | refine sUp_ne (by first | assumption | omega) ?_)) rfl ?_
    refine r_bipush S dX11_spans_20 (by decide) ?_
    refine r_icmp_gt S dX11_spans_22 (tgt := 36) (by decide) ⟨by omega, by omega⟩ ⟨by omega, by omega⟩ (fun h_22 => ?_) (fun h_22 => ?_)
    · refine r_iconst S dX11_spans_36 ?_
      exact r_iret S dX11_spans_37 (by omega) (by omega) (⟨_, rfl, rfl, rfl⟩)
    · refine r_aload_n S dX11_spans_25 rfl ?_
      refine r_getf S g_RX11_47_10 dX11_spans_26 (by repeat (first | assumption | exact sUp_same | exact sNew_same | refine sUp_ne (by first | assumption | omega) ?_)) rfl ?_
      refine r_getf S g_RX11_144_3 dX11_spans_29 (by repeat (first | assumption | exact sUp_same | exact sNew_same | refine sUp_ne (by first | assumption | omega) ?_)) rfl ?_
      refine r_iconst S dX11_spans_32 ?_
      refine r_icmp_le S dX11_spans_33 (tgt := 38) (by decide) ⟨by omega, by omega⟩ ⟨by omega, by omega⟩ (fun h_33 => ?_) (fun h_33 => ?_)
      · omega
      · refine r_iconst S dX11_spans_36 ?_
        exact r_iret S dX11_spans_37 (by omega) (by omega) (⟨_, rfl, rfl, rfl⟩)
  · omega

set_option maxRecDepth 100000 in
set_option maxHeartbeats 4000000 in
theorem c_spansX {k : Cx} {L0 : Launch} {σ : St} {tb : Int} (hC : Cor k σ tb) (hbs : cBase k + 25 ≤ σ.1) {wt yp np : Int} {kd n e an : Nat} (hG : σ.2 (cBase k + 9) = some (oGame k 1 kd n e an wt yp np)) (hTs : TBs k σ 1 kd n e) {f : Nat → Int} (hL : σ.2 (cBase k + 10) = some (eI k 992 f)) (hf : ∀ j, j < n → -1 ≤ f (an * 16 + j) ∧ f (an * 16 + j) ≤ 2) (han : an ≤ 60) (hn : n ≤ 6) (he : e ≤ 2) (hk : kd < 3) : CtrV k L0 mX11_spans 7 2 4100 [.ref (cBase k)] σ (fun v σ' => v = .int (iZ (if (TS kd (dgS (fun i => f (an * 16 + i)) n) : Int) ≤ 12 then (TS kd (dgS (fun i => f (an * 16 + i)) n) : Int) else -9)) ∧ cBase k + 25 ≤ σ'.1 ∧ Cor k σ' tb ∧ TBs k σ' 1 kd n e ∧ ∀ b, b < cBase k + 25 → b ≠ cBase k + 6 → b ≠ cBase k + 8 → σ'.2 b = σ.2 b) := by
  refine Ctr.of (by decide +kernel) rfl (Nat.le_of_ble_eq_true rfl) ?_
  intro κ hl0 S
  subst hl0
  have hX0 := hC.1
  have hdl : dgS (fun i => f (an * 16 + i)) n < 4096 := Nat.lt_of_lt_of_le (dgS_lt hf (Nat.le_refl n)) (p12 hn)
  refine r_aload_n S dX11_spans_0 rfl ?_
  refine r_getf S g_RX11_47_10 dX11_spans_1 (by repeat (first | assumption | exact sUp_same | exact sNew_same | refine sUp_ne (by first | assumption | omega) ?_)) rfl ?_
  refine r_getf S g_RX11_105_3 dX11_spans_4 (by repeat (first | assumption | exact sUp_same | exact sNew_same | refine sUp_ne (by first | assumption | omega) ?_)) rfl ?_
  refine r_if_ne S dX11_spans_7 (tgt := 13) (by decide) ⟨by omega, by omega⟩ (fun h_7 => ?_) (fun h_7 => ?_)
  · refine r_aload_n S dX11_spans_13 rfl ?_
    refine r_getf S g_RX11_47_10 dX11_spans_14 (by repeat (first | assumption | exact sUp_same | exact sNew_same | refine sUp_ne (by first | assumption | omega) ?_)) rfl ?_
    refine r_getf S g_RX11_135_3 dX11_spans_17 (by repeat (first | assumption | exact sUp_same | exact sNew_same | refine sUp_ne (by first | assumption | omega) ?_)) rfl ?_
    refine r_bipush S dX11_spans_20 (by decide) ?_
    refine r_icmp_gt S dX11_spans_22 (tgt := 36) (by decide) ⟨by omega, by omega⟩ ⟨by omega, by omega⟩ (fun h_22 => ?_) (fun h_22 => ?_)
    · omega
    · refine r_aload_n S dX11_spans_25 rfl ?_
      refine r_getf S g_RX11_47_10 dX11_spans_26 (by repeat (first | assumption | exact sUp_same | exact sNew_same | refine sUp_ne (by first | assumption | omega) ?_)) rfl ?_
      refine r_getf S g_RX11_144_3 dX11_spans_29 (by repeat (first | assumption | exact sUp_same | exact sNew_same | refine sUp_ne (by first | assumption | omega) ?_)) rfl ?_
      refine r_iconst S dX11_spans_32 ?_
      refine r_icmp_le S dX11_spans_33 (tgt := 38) (by decide) ⟨by omega, by omega⟩ ⟨by omega, by omega⟩ (fun h_33 => ?_) (fun h_33 => ?_)
      · refine r_aload_n S dX11_spans_38 rfl ?_
        refine r_aload_n S dX11_spans_39 rfl ?_
        refine r_getf S g_RX11_47_10 dX11_spans_40 (by repeat (first | assumption | exact sUp_same | exact sNew_same | refine sUp_ne (by first | assumption | omega) ?_)) rfl ?_
        refine r_getf S g_RX11_147_3 dX11_spans_43 (by repeat (first | assumption | exact sUp_same | exact sNew_same | refine sUp_ne (by first | assumption | omega) ?_)) rfl ?_
        refine r_callV S (c_spanTableA hC hbs hTs hk) k_mX11_spanTable c_RX11_150_10 dX11_spans_46 (by decide) ⟨by omega, by omega⟩ (by repeat (first | assumption | exact sUp_same | exact sNew_same | refine sUp_ne (by first | assumption | omega) ?_)) rfl rfl (Nat.le_of_ble_eq_true rfl) (fun r s1 hp => ?_)
        obtain ⟨_, rfl, u, hq, sq, ow, rfl, q1, q2, q3, q4, q5, ⟨z4, q6⟩, q7, q8⟩ := hp
        try simp only [Option.toList_some, Option.toList_none, List.cons_append, List.nil_append]
        have hC1 : Cor k s1 tb := hC.fr (fun a ha => q8 a (by omega) (by omega) (by omega)) q6
        have hX1 := hC1.1
        have hG1 := (q8 (cBase k + 9) (by omega) (by omega) (by omega)).trans hG
        have hL1 := (q8 (cBase k + 10) (by omega) (by omega) (by omega)).trans hL
        obtain ⟨u0, r1, r2⟩ := (q5 kd hk).resolve_left (fun z => by rw [q1] at z; exact absurd z (by simp))
        have eu : u0 = u := by rw [q1] at r1; exact (Option.some.inj r1).symm
        subst eu
        obtain ⟨b1, b2, b3, kn, b4, b5, b6⟩ := r2
        refine r_aload_n S dX11_spans_49 rfl ?_
        refine r_getf S g_RX11_47_10 dX11_spans_50 (by repeat (first | assumption | exact sUp_same | exact sNew_same | refine sUp_ne (by first | assumption | omega) ?_)) rfl ?_
        refine r_callV S (c_asDigits hG1 hL1 han hn hf) k_mX3_asDigits c_RX11_154_3 dX11_spans_53 (by decide) ⟨by omega, by omega⟩ (by repeat (first | assumption | exact sUp_same | exact sNew_same | refine sUp_ne (by first | assumption | omega) ?_)) rfl rfl (Nat.le_of_ble_eq_true rfl) (fun r σ' hp => ?_)
        obtain ⟨_, rfl, rfl, e9⟩ := hp
        rw [e9]
        clear e9
        try simp only [Option.toList_some, Option.toList_none, List.cons_append, List.nil_append]
        refine r_callV S (c_fewestOf8 hk hdl b4 b5 b6) k_mX8_fewestOf c_RX11_157_7 dX11_spans_56 (by decide) ⟨by omega, by omega⟩ (by repeat (first | assumption | exact sUp_same | exact sNew_same | refine sUp_ne (by first | assumption | omega) ?_)) rfl rfl (Nat.le_of_ble_eq_true rfl) (fun r s3 hp => ?_)
        obtain ⟨_, rfl, kn', rfl, e3, hkn3⟩ := hp
        try simp only [Option.toList_some, Option.toList_none, List.cons_append, List.nil_append]
        have hTS := TS_lt kd (dgS (fun i => f (an * 16 + i)) n)
        have fr3 : ∀ b, b ≠ u0 → b ≠ u0 + 1 → s3.2 b = s1.2 b := fun b h1 h2 => by rw [e3]; exact (if_neg h2).trans (if_neg h1)
        have hs3 : s3.1 = s1.1 := by rw [e3]; rfl
        have hu3 : s3.2 u0 = some (oSp u0 (py kd : Int) (pn kd : Int) ((kn' : Nat) : Int)) := by rw [e3]; exact sUp_ne (by omega) sUp_same
        have hw3 : s3.2 (u0 + 1) = some (eI k 4096 (fun j => ((FsN kd kn' j : Nat) : Int))) := by rw [e3]; exact sUp_same
        refine r_callS S (c_toldOrNone ⟨by omega, by omega⟩) k_mX11_toldOrNone c_RX11_95 dX11_spans_59 (by decide) ⟨by omega, by omega⟩ rfl rfl (Nat.le_of_ble_eq_true rfl) (fun r σ' hp => ?_)
        obtain ⟨_, rfl, rfl, e9⟩ := hp
        rw [e9]
        clear e9
        try simp only [Option.toList_some, Option.toList_none, List.cons_append, List.nil_append]
        exact r_iret S dX11_spans_62 (by omega) (by omega) (by
          refine ⟨_, rfl, rfl, by omega, hC1.fr (fun a ha => fr3 a (by omega) (by omega)) ((fr3 _ (by omega) (by omega)).trans q6), ⟨hq, sq, ow, (fr3 _ (by omega) (by omega)).trans q2, (fr3 _ (by omega) (by omega)).trans q3, fun j hj => ?_, fun j hj => ?_⟩, fun b h1 h2 h3 => (fr3 b (by omega) (by omega)).trans (q8 b h1 h2 h3)⟩
          · have hfr : ∀ a, cBase k + 25 ≤ a → a < s1.1 → ow a ≠ 3 + kd → s3.2 a = s1.2 a := fun a h1 h2 h3 => by
              have h4 : ¬ (u0 ≤ a ∧ a < u0 + 2) := fun z => h3 (b3 a z.1 z.2)
              exact fr3 a (by omega) (by omega)
            exact q4.other (j0 := 3 + kd) (by omega) hfr j hj (by omega)
          · have hfr : ∀ a, cBase k + 25 ≤ a → a < s1.1 → ow a ≠ 3 + kd → s3.2 a = s1.2 a := fun a h1 h2 h3 => by
              have h4 : ¬ (u0 ≤ a ∧ a < u0 + 2) := fun z => h3 (b3 a z.1 z.2)
              exact fr3 a (by omega) (by omega)
            by_cases ej : j = kd
            · subst ej
              exact Or.inr ⟨u0, q1, b1, by omega, b3, kn', hkn3, hu3, hw3⟩
            · exact q5.other (j0 := 3 + kd) (by omega) hfr j hj (by omega))
      · omega
  · omega

set_option maxRecDepth 100000 in
set_option maxHeartbeats 4000000 in
theorem c_bestX0 {k : Cx} {L0 : Launch} {σ : St} {tb : Int} (hX : σ.2 (cBase k) = some (oX k tb)) {wt yp np : Int} {kd n e an : Nat} (hG : σ.2 (cBase k + 9) = some (oGame k 0 kd n e an wt yp np)) : CtrV k L0 mX11_best 10 20 9934 [.ref (cBase k)] σ (fun v σ' => v = .int (iZ (-2)) ∧ σ' = σ) := by
  refine Ctr.of (by decide +kernel) rfl (Nat.le_of_ble_eq_true rfl) ?_
  intro κ hl0 S
  subst hl0
  refine r_aload_n S dX11_best_0 rfl ?_
  refine r_getf S g_RX11_47_10 dX11_best_1 (by repeat (first | assumption | exact sUp_same | exact sNew_same | refine sUp_ne (by first | assumption | omega) ?_)) rfl ?_
  refine r_getf S g_RX11_105_3 dX11_best_4 (by repeat (first | assumption | exact sUp_same | exact sNew_same | refine sUp_ne (by first | assumption | omega) ?_)) rfl ?_
  refine r_if_ne S dX11_best_7 (tgt := 13) (by decide) ⟨by omega, by omega⟩ (fun h_7 => ?_) (fun h_7 => ?_)
  · omega
  · refine r_bipush S dX11_best_10 (by decide) ?_
    exact r_iret S dX11_best_12 (by omega) (by omega) (⟨_, rfl, rfl, rfl⟩)

set_option maxRecDepth 100000 in
set_option maxHeartbeats 4000000 in
theorem c_bestXx {k : Cx} {L0 : Launch} {σ : St} {tb : Int} (hX : σ.2 (cBase k) = some (oX k tb)) {wt yp np : Int} {kd n e an : Nat} (hG : σ.2 (cBase k + 9) = some (oGame k 1 kd n e an wt yp np)) {f : Nat → Int} (hL : σ.2 (cBase k + 10) = some (eI k 992 f)) (hf : ∀ j, -1 ≤ f j ∧ f j ≤ 3) (han : an ≤ 60) (hn : n ≤ 16) {t : Nat} {hq : Nat → Option Nat} (hH : σ.2 (cBase k + 7) = some (eQ (cQH k) 3 hq)) (hk : kd < 3) (hq0 : hq kd = some (t + 8)) {F : Nat → Int} (hF : σ.2 t = some (eI k 4845 F)) (hFr : ∀ j, 0 ≤ F j ∧ F j ≤ 13) (hT : σ.2 (t + 8) = some (oHT t)) (hv : F (plQ (hQ f (an * 16) n)) = 0 ∨ F (plQ (hQ f (an * 16) n)) = 13) : CtrV k L0 mX11_best 10 20 9934 [.ref (cBase k)] σ (fun v σ' => v = .int (iZ (-2)) ∧ σ' = σ) := by
  refine Ctr.of (by decide +kernel) rfl (Nat.le_of_ble_eq_true rfl) ?_
  intro κ hl0 S
  subst hl0
  have hfr := hFr (plQ (hQ f (an * 16) n))
  refine r_aload_n S dX11_best_0 rfl ?_
  refine r_getf S g_RX11_47_10 dX11_best_1 (by repeat (first | assumption | exact sUp_same | exact sNew_same | refine sUp_ne (by first | assumption | omega) ?_)) rfl ?_
  refine r_getf S g_RX11_105_3 dX11_best_4 (by repeat (first | assumption | exact sUp_same | exact sNew_same | refine sUp_ne (by first | assumption | omega) ?_)) rfl ?_
  refine r_if_ne S dX11_best_7 (tgt := 13) (by decide) ⟨by omega, by omega⟩ (fun h_7 => ?_) (fun h_7 => ?_)
  · refine r_aload_n S dX11_best_13 rfl ?_
    refine r_callV S (c_fewestNow hX hH hk hq0 hG hL hf han hn hF hT) k_mX11_fewestNow c_RX11_91_10 dX11_best_14 (by decide) ⟨by omega, by omega⟩ (by repeat (first | assumption | exact sUp_same | exact sNew_same | refine sUp_ne (by first | assumption | omega) ?_)) rfl rfl (Nat.le_of_ble_eq_true rfl) (fun r σ' hp => ?_)
    obtain ⟨_, rfl, rfl, rfl⟩ := hp
    try simp only [Option.toList_some, Option.toList_none, List.cons_append, List.nil_append]
    refine r_istore_n S dX11_best_17 rfl (by decide) (lv' := [_, _]) rfl ?_
    refine r_iload_n S dX11_best_18 rfl ?_
    refine r_if_eq S dX11_best_19 (tgt := 28) (by decide) ⟨by omega, by omega⟩ (fun h_19 => ?_) (fun h_19 => ?_)
    · refine r_bipush S dX11_best_28 (by decide) ?_
      exact r_iret S dX11_best_30 (by omega) (by omega) (⟨_, rfl, rfl, rfl⟩)
    · refine r_iload_n S dX11_best_22 rfl ?_
      refine r_bipush S dX11_best_23 (by decide) ?_
      refine r_icmp_le S dX11_best_25 (tgt := 31) (by decide) ⟨by omega, by omega⟩ ⟨by omega, by omega⟩ (fun h_25 => ?_) (fun h_25 => ?_)
      · omega
      · refine r_bipush S dX11_best_28 (by decide) ?_
        exact r_iret S dX11_best_30 (by omega) (by omega) (⟨_, rfl, rfl, rfl⟩)
  · omega

set_option maxRecDepth 100000 in
set_option maxHeartbeats 4000000 in
theorem c_bestX {k : Cx} {L0 : Launch} {σ : St} {tb : Int} (hX : σ.2 (cBase k) = some (oX k tb)) {wt yp np : Int} {kd n e an : Nat} (hG : σ.2 (cBase k + 9) = some (oGame k 1 kd n e an wt yp np)) {f : Nat → Int} (hL : σ.2 (cBase k + 10) = some (eI k 992 f)) (hf : ∀ j, -1 ≤ f j ∧ f j ≤ 3) (han : an ≤ 60) (hn : n ≤ 16) {t : Nat} {hq : Nat → Option Nat} (hH : σ.2 (cBase k + 7) = some (eQ (cQH k) 3 hq)) (hk : kd < 3) (hq0 : hq kd = some (t + 8)) {F : Nat → Int} (hF : σ.2 t = some (eI k 4845 F)) (hFr : ∀ j, 0 ≤ F j ∧ F j ≤ 13) (hT : σ.2 (t + 8) = some (oHT t)) (hbt : cBase k + 25 ≤ t) (hv : 1 ≤ F (plQ (hQ f (an * 16) n)) ∧ F (plQ (hQ f (an * 16) n)) ≤ 12) (hTl : Tl k σ t (cyK kd) (cnK kd)) (hFm : Fm F (hQ f (an * 16) n)) : CtrV k L0 mX11_best 10 20 9934 [.ref (cBase k)] σ (fun v σ' => ∃ (ls : Nat) (w : Nat → Nat), v = .int (iZ (ls : Int)) ∧ MinOf w (T3 F (F (plQ (hQ f (an * 16) n)) - 1) (cyK kd) (cnK kd) (hQ f (an * 16) n)) 65535 ls ∧ LWs w f (an * 16) n ∧ Tl k σ' t (cyK kd) (cnK kd) ∧ Fr σ σ' (t + 4) (t + 8)) := by
  refine Ctr.of (by decide +kernel) rfl (Nat.le_of_ble_eq_true rfl) ?_
  intro κ hl0 S
  subst hl0
  have hfr := hFr (plQ (hQ f (an * 16) n))
  refine r_aload_n S dX11_best_0 rfl ?_
  refine r_getf S g_RX11_47_10 dX11_best_1 (by repeat (first | assumption | exact sUp_same | exact sNew_same | refine sUp_ne (by first | assumption | omega) ?_)) rfl ?_
  refine r_getf S g_RX11_105_3 dX11_best_4 (by repeat (first | assumption | exact sUp_same | exact sNew_same | refine sUp_ne (by first | assumption | omega) ?_)) rfl ?_
  refine r_if_ne S dX11_best_7 (tgt := 13) (by decide) ⟨by omega, by omega⟩ (fun h_7 => ?_) (fun h_7 => ?_)
  · refine r_aload_n S dX11_best_13 rfl ?_
    refine r_callV S (c_fewestNow hX hH hk hq0 hG hL hf han hn hF hT) k_mX11_fewestNow c_RX11_91_10 dX11_best_14 (by decide) ⟨by omega, by omega⟩ (by repeat (first | assumption | exact sUp_same | exact sNew_same | refine sUp_ne (by first | assumption | omega) ?_)) rfl rfl (Nat.le_of_ble_eq_true rfl) (fun r σ' hp => ?_)
    obtain ⟨_, rfl, rfl, e9⟩ := hp
    rw [e9]
    clear e9
    try simp only [Option.toList_some, Option.toList_none, List.cons_append, List.nil_append]
    refine r_istore_n S dX11_best_17 rfl (by decide) (lv' := [_, _]) rfl ?_
    refine r_iload_n S dX11_best_18 rfl ?_
    refine r_if_eq S dX11_best_19 (tgt := 28) (by decide) ⟨by omega, by omega⟩ (fun h_19 => ?_) (fun h_19 => ?_)
    · omega
    · refine r_iload_n S dX11_best_22 rfl ?_
      refine r_bipush S dX11_best_23 (by decide) ?_
      refine r_icmp_le S dX11_best_25 (tgt := 31) (by decide) ⟨by omega, by omega⟩ ⟨by omega, by omega⟩ (fun h_25 => ?_) (fun h_25 => ?_)
      · refine r_aload_n S dX11_best_31 rfl ?_
        refine r_aload_n S dX11_best_32 rfl ?_
        refine r_getf S g_RX11_47_10 dX11_best_33 (by repeat (first | assumption | exact sUp_same | exact sNew_same | refine sUp_ne (by first | assumption | omega) ?_)) rfl ?_
        refine r_getf S g_RX11_147_3 dX11_best_36 (by repeat (first | assumption | exact sUp_same | exact sNew_same | refine sUp_ne (by first | assumption | omega) ?_)) rfl ?_
        refine r_callV S (c_heapTableG hX hH hk hq0) k_mX11_heapTable c_RX11_83_10 dX11_best_39 (by decide) ⟨by omega, by omega⟩ (by repeat (first | assumption | exact sUp_same | exact sNew_same | refine sUp_ne (by first | assumption | omega) ?_)) rfl rfl (Nat.le_of_ble_eq_true rfl) (fun r σ' hp => ?_)
        obtain ⟨_, rfl, rfl, e9⟩ := hp
        rw [e9]
        clear e9
        try simp only [Option.toList_some, Option.toList_none, List.cons_append, List.nil_append]
        refine r_aload_n S dX11_best_42 rfl ?_
        refine r_getf S g_RX11_47_10 dX11_best_43 (by repeat (first | assumption | exact sUp_same | exact sNew_same | refine sUp_ne (by first | assumption | omega) ?_)) rfl ?_
        refine r_getf S g_RX11_166_3 dX11_best_46 (by repeat (first | assumption | exact sUp_same | exact sNew_same | refine sUp_ne (by first | assumption | omega) ?_)) rfl ?_
        refine r_aload_n S dX11_best_49 rfl ?_
        refine r_getf S g_RX11_47_10 dX11_best_50 (by repeat (first | assumption | exact sUp_same | exact sNew_same | refine sUp_ne (by first | assumption | omega) ?_)) rfl ?_
        refine r_callV S (c_row hG) k_mX3_row c_RX11_170_3 dX11_best_53 (by decide) ⟨by omega, by omega⟩ (by repeat (first | assumption | exact sUp_same | exact sNew_same | refine sUp_ne (by first | assumption | omega) ?_)) rfl rfl (Nat.le_of_ble_eq_true rfl) (fun r σ' hp => ?_)
        obtain ⟨_, rfl, rfl, e9⟩ := hp
        rw [e9]
        clear e9
        try simp only [Option.toList_some, Option.toList_none, List.cons_append, List.nil_append]
        refine r_num (z' := ((an * 16 : Nat) : Int)) (by omega) ?_
        refine r_aload_n S dX11_best_56 rfl ?_
        refine r_getf S g_RX11_47_10 dX11_best_57 (by repeat (first | assumption | exact sUp_same | exact sNew_same | refine sUp_ne (by first | assumption | omega) ?_)) rfl ?_
        refine r_getf S g_RX11_135_3 dX11_best_60 (by repeat (first | assumption | exact sUp_same | exact sNew_same | refine sUp_ne (by first | assumption | omega) ?_)) rfl ?_
        refine r_callV S (c_bestHeap hF hFr hL (by omega) hf (by omega) hn hT (cyK_rng kd) (cnK_rng kd) hFm hTl) k_mX4_bestHeap c_RX11_173_4 dX11_best_63 (by decide) ⟨by omega, by omega⟩ (by repeat (first | assumption | exact sUp_same | exact sNew_same | refine sUp_ne (by first | assumption | omega) ?_)) rfl rfl (Nat.le_of_ble_eq_true rfl) (fun r σ' hp => ?_)
        obtain ⟨_, rfl, ls, w, rfl, hp⟩ := hp
        try simp only [Option.toList_some, Option.toList_none, List.cons_append, List.nil_append]
        exact r_iret S dX11_best_66 (by omega) (by omega) (⟨_, rfl, ls, w, rfl, hp⟩)
      · omega
  · omega

set_option maxRecDepth 100000 in
set_option maxHeartbeats 4000000 in
theorem c_fewestBehind {k : Cx} {L0 : Launch} {σ : St} {tb : Int} (hX : σ.2 (cBase k) = some (oX k tb)) {kd n e an b : Nat} (hG : σ.2 (cBase k + 9) = some (oGame k 1 kd n e an (b : Int) (costK kd 1 0) (costK kd 0 1))) {f : Nat → Int} (hL : σ.2 (cBase k + 10) = some (eI k 992 f)) (hf : ∀ j, -1 ≤ f j ∧ f j ≤ 3) (han : an ≤ 60) (hn : n ≤ 16) {t : Nat} {hq : Nat → Option Nat} (hH : σ.2 (cBase k + 7) = some (eQ (cQH k) 3 hq)) (hk : kd < 3) (hq0 : hq kd = some (t + 8)) {F : Nat → Int} (hF : σ.2 t = some (eI k 4845 F)) (hFr : ∀ j, 0 ≤ F j ∧ F j ≤ 13) (hT : σ.2 (t + 8) = some (oHT t)) (hbt : cBase k + 25 ≤ t) (hb : b < 65536) {L : Nat → Int} (hLr : ∀ j, -1 ≤ L j ∧ L j ≤ 3) (hLf : ∀ i, i < n → f (an * 16 + i) = L i) (hFw : ∀ x, Dec x → leQ x (hQ L 0 n) → F (plQ x) = (fewN (cyK kd) (cnK kd) x : Int)) {y : Nat} (hy : y < 2) : CtrV k L0 mX11_fewestBehind 6 10 4967 [.ref (cBase k), .int (iZ (y : Int))] σ (fun v σ' => v = .int (iZ (gB kd L n b y)) ∧ σ' = sUp σ (cBase k + 10) (eI k 992 (layF f an (costK kd 1 0) (costK kd 0 1) b y n))) := by
  refine Ctr.of (by decide +kernel) rfl (Nat.le_of_ble_eq_true rfl) ?_
  intro κ hl0 S
  subst hl0
  have hc := cnt_le (fun j => decide (newL f (an * 16) (costK kd 1 0) (costK kd 0 1) b y j ≠ -1)) n
  have hcn := cnt_newL (kd := kd) (h := b) hLf hy
  have hcv := cnt_nv hLr kd b y n
  have hrl := layF_rng hf (an := an) (costK_rng kd 1 0) (costK_rng kd 0 1) b y n
  refine r_aload_n S dX11_fewestBehind_0 rfl ?_
  refine r_getf S g_RX11_47_10 dX11_fewestBehind_1 (by repeat (first | assumption | exact sUp_same | exact sNew_same | refine sUp_ne (by first | assumption | omega) ?_)) rfl ?_
  refine r_aload_n S dX11_fewestBehind_4 rfl ?_
  refine r_getf S g_RX11_47_10 dX11_fewestBehind_5 (by repeat (first | assumption | exact sUp_same | exact sNew_same | refine sUp_ne (by first | assumption | omega) ?_)) rfl ?_
  refine r_getf S g_RX11_119_3 dX11_fewestBehind_8 (by repeat (first | assumption | exact sUp_same | exact sNew_same | refine sUp_ne (by first | assumption | omega) ?_)) rfl ?_
  refine r_iload_n S dX11_fewestBehind_11 rfl ?_
  refine r_callV S (c_layBehind hG hL han hn hf (costK_rng kd 1 0) (costK_rng kd 0 1) hb hy) k_mX3_layBehind c_RX11_233_3 dX11_fewestBehind_12 (by decide) ⟨by omega, by omega⟩ (by repeat (first | assumption | exact sUp_same | exact sNew_same | refine sUp_ne (by first | assumption | omega) ?_)) rfl rfl (Nat.le_of_ble_eq_true rfl) (fun r σ' hp => ?_)
  obtain ⟨_, rfl, rfl, rfl⟩ := hp
  try simp only [Option.toList_some, Option.toList_none, List.cons_append, List.nil_append]
  refine r_if_ne S dX11_fewestBehind_15 (tgt := 20) (by decide) ⟨by omega, by omega⟩ (fun h_15 => ?_) (fun h_15 => ?_)
  · refine r_aload_n S dX11_fewestBehind_20 rfl ?_
    refine r_aload_n S dX11_fewestBehind_21 rfl ?_
    refine r_getf S g_RX11_47_10 dX11_fewestBehind_22 (by repeat (first | assumption | exact sUp_same | exact sNew_same | refine sUp_ne (by first | assumption | omega) ?_)) rfl ?_
    refine r_getf S g_RX11_147_3 dX11_fewestBehind_25 (by repeat (first | assumption | exact sUp_same | exact sNew_same | refine sUp_ne (by first | assumption | omega) ?_)) rfl ?_
    refine r_callV S (c_heapTableG (sUp_ne (by omega) hX) (sUp_ne (by omega) hH) hk hq0) k_mX11_heapTable c_RX11_83_10 dX11_fewestBehind_28 (by decide) ⟨by omega, by omega⟩ (by repeat (first | assumption | exact sUp_same | exact sNew_same | refine sUp_ne (by first | assumption | omega) ?_)) rfl rfl (Nat.le_of_ble_eq_true rfl) (fun r σ' hp => ?_)
    obtain ⟨_, rfl, rfl, e9⟩ := hp
    rw [e9]
    clear e9
    try simp only [Option.toList_some, Option.toList_none, List.cons_append, List.nil_append]
    refine r_aload_n S dX11_fewestBehind_31 rfl ?_
    refine r_getf S g_RX11_47_10 dX11_fewestBehind_32 (by repeat (first | assumption | exact sUp_same | exact sNew_same | refine sUp_ne (by first | assumption | omega) ?_)) rfl ?_
    refine r_getf S g_RX11_166_3 dX11_fewestBehind_35 (by repeat (first | assumption | exact sUp_same | exact sNew_same | refine sUp_ne (by first | assumption | omega) ?_)) rfl ?_
    refine r_aload_n S dX11_fewestBehind_38 rfl ?_
    refine r_getf S g_RX11_47_10 dX11_fewestBehind_39 (by repeat (first | assumption | exact sUp_same | exact sNew_same | refine sUp_ne (by first | assumption | omega) ?_)) rfl ?_
    refine r_callV S (c_rowBehind (sUp_ne (by omega) hG)) k_mX3_rowBehind c_RX11_236_3 dX11_fewestBehind_42 (by decide) ⟨by omega, by omega⟩ (by repeat (first | assumption | exact sUp_same | exact sNew_same | refine sUp_ne (by first | assumption | omega) ?_)) rfl rfl (Nat.le_of_ble_eq_true rfl) (fun r σ' hp => ?_)
    obtain ⟨_, rfl, rfl, e9⟩ := hp
    rw [e9]
    clear e9
    try simp only [Option.toList_some, Option.toList_none, List.cons_append, List.nil_append]
    refine r_num (z' := ((an * 16 + 16 : Nat) : Int)) (by omega) ?_
    refine r_aload_n S dX11_fewestBehind_45 rfl ?_
    refine r_getf S g_RX11_47_10 dX11_fewestBehind_46 (by repeat (first | assumption | exact sUp_same | exact sNew_same | refine sUp_ne (by first | assumption | omega) ?_)) rfl ?_
    refine r_getf S g_RX11_135_3 dX11_fewestBehind_49 (by repeat (first | assumption | exact sUp_same | exact sNew_same | refine sUp_ne (by first | assumption | omega) ?_)) rfl ?_
    refine r_callV S (c_fewestOf (sUp_ne (by omega) hF) (sUp_ne (by omega) hT) sUp_same hrl (by omega) hn) k_mX4_fewestOf c_RX11_231_4 dX11_fewestBehind_52 (by decide) ⟨by omega, by omega⟩ (by repeat (first | assumption | exact sUp_same | exact sNew_same | refine sUp_ne (by first | assumption | omega) ?_)) rfl rfl (Nat.le_of_ble_eq_true rfl) (fun r σ' hp => ?_)
    obtain ⟨_, rfl, rfl, e9⟩ := hp
    rw [e9]
    clear e9
    try simp only [Option.toList_some, Option.toList_none, List.cons_append, List.nil_append]
    rw [hQ_lay hLf hy, hFw _ (hQ_nv_le hLr hk b hy n).1 (hQ_nv_le hLr hk b hy n).2]
    refine r_num (z' := gB kd L n b y) (by unfold gB; rw [if_neg (by omega)]) ?_
    exact r_iret S dX11_fewestBehind_55 (by omega) (by omega) (⟨_, rfl, rfl, rfl⟩)
  · refine r_iconst S dX11_fewestBehind_18 ?_
    refine r_num (z' := gB kd L n b y) (by unfold gB; rw [if_pos (by omega)]) ?_
    exact r_iret S dX11_fewestBehind_19 (by omega) (by omega) (⟨_, rfl, rfl, rfl⟩)

set_option maxRecDepth 100000 in
set_option maxHeartbeats 4000000 in
theorem c_worseX0 {k : Cx} {L0 : Launch} {σ : St} {tb : Int} (hX : σ.2 (cBase k) = some (oX k tb)) {wt yp np : Int} {on kd n e an : Nat} (hG : σ.2 (cBase k + 9) = some (oGame k on kd n e an wt yp np)) (hon : on < 2) (hw : zR wt) (hb : on = 0 ∨ wt = -1) : CtrV k L0 mX11_worse 7 20 9934 [.ref (cBase k)] σ (fun v σ' => v = .int (iZ (-2)) ∧ σ' = σ) := by
  refine Ctr.of (by decide +kernel) rfl (Nat.le_of_ble_eq_true rfl) ?_
  intro κ hl0 S
  subst hl0
  refine r_aload_n S dX11_worse_0 rfl ?_
  refine r_getf S g_RX11_47_10 dX11_worse_1 (by repeat (first | assumption | exact sUp_same | exact sNew_same | refine sUp_ne (by first | assumption | omega) ?_)) rfl ?_
  refine r_getf S g_RX11_105_3 dX11_worse_4 (by repeat (first | assumption | exact sUp_same | exact sNew_same | refine sUp_ne (by first | assumption | omega) ?_)) rfl ?_
  refine r_if_eq S dX11_worse_7 (tgt := 21) (by decide) ⟨by omega, by omega⟩ (fun h_7 => ?_) (fun h_7 => ?_)
  · refine r_bipush S dX11_worse_21 (by decide) ?_
    exact r_iret S dX11_worse_23 (by omega) (by omega) (⟨_, rfl, rfl, rfl⟩)
  · refine r_aload_n S dX11_worse_10 rfl ?_
    refine r_getf S g_RX11_47_10 dX11_worse_11 (by repeat (first | assumption | exact sUp_same | exact sNew_same | refine sUp_ne (by first | assumption | omega) ?_)) rfl ?_
    refine r_getf S g_RX11_119_3 dX11_worse_14 (by repeat (first | assumption | exact sUp_same | exact sNew_same | refine sUp_ne (by first | assumption | omega) ?_)) rfl ?_
    refine r_iconst S dX11_worse_17 ?_
    refine r_icmp_ne S dX11_worse_18 (tgt := 24) (by decide) hw ⟨by omega, by omega⟩ (fun h_18 => ?_) (fun h_18 => ?_)
    · omega
    · refine r_bipush S dX11_worse_21 (by decide) ?_
      exact r_iret S dX11_worse_23 (by omega) (by omega) (⟨_, rfl, rfl, rfl⟩)

set_option maxRecDepth 100000 in
set_option maxHeartbeats 4000000 in
theorem c_worseX {k : Cx} {L0 : Launch} {σ : St} {tb : Int} (hX : σ.2 (cBase k) = some (oX k tb)) {kd n e an b : Nat} (hG : σ.2 (cBase k + 9) = some (oGame k 1 kd n e an (b : Int) (costK kd 1 0) (costK kd 0 1))) {f : Nat → Int} (hL : σ.2 (cBase k + 10) = some (eI k 992 f)) (hf : ∀ j, -1 ≤ f j ∧ f j ≤ 3) (han : an ≤ 60) (hn : n ≤ 16) {t : Nat} {hq : Nat → Option Nat} (hH : σ.2 (cBase k + 7) = some (eQ (cQH k) 3 hq)) (hk : kd < 3) (hq0 : hq kd = some (t + 8)) {F : Nat → Int} (hF : σ.2 t = some (eI k 4845 F)) (hFr : ∀ j, 0 ≤ F j ∧ F j ≤ 13) (hT : σ.2 (t + 8) = some (oHT t)) (hbt : cBase k + 25 ≤ t) (hb : b < 65536) {L : Nat → Int} (hLr : ∀ j, -1 ≤ L j ∧ L j ≤ 3) (hLf : ∀ i, i < n → f (an * 16 + i) = L i) (hFw : ∀ x, Dec x → leQ x (hQ L 0 n) → F (plQ x) = (fewN (cyK kd) (cnK kd) x : Int)) : CtrV k L0 mX11_worse 7 20 9934 [.ref (cBase k)] σ (fun v σ' => v = .int (iZ (if 12 < gB kd L n b 1 ∨ 12 < gB kd L n b 0 then -2 else if gB kd L n b 0 ≤ gB kd L n b 1 then 1 else 0 : Int)) ∧ ∃ f' : Nat → Int, σ' = sUp σ (cBase k + 10) (eI k 992 f') ∧ (∀ j, -1 ≤ f' j ∧ f' j ≤ 3) ∧ ∀ j, j < an * 16 + 16 → f' j = f j) := by
  refine Ctr.of (by decide +kernel) rfl (Nat.le_of_ble_eq_true rfl) ?_
  intro κ hl0 S
  subst hl0
  have g1 := gB_rng kd L n b 1
  have g0 := gB_rng kd L n b 0
  have hr1 := layF_rng hf (an := an) (costK_rng kd 1 0) (costK_rng kd 0 1) b 1 n
  have hr2 := layF_rng hr1 (an := an) (costK_rng kd 1 0) (costK_rng kd 0 1) b 0 n
  have hLf1 : ∀ i, i < n → layF f an (costK kd 1 0) (costK kd 0 1) b 1 n (an * 16 + i) = L i := fun i hi => (layF_low (by omega)).trans (hLf i hi)
  have hl2 : ∀ j, j < an * 16 + 16 → layF (layF f an (costK kd 1 0) (costK kd 0 1) b 1 n) an (costK kd 1 0) (costK kd 0 1) b 0 n j = f j := fun j hj => (layF_low hj).trans (layF_low hj)
  refine r_aload_n S dX11_worse_0 rfl ?_
  refine r_getf S g_RX11_47_10 dX11_worse_1 (by repeat (first | assumption | exact sUp_same | exact sNew_same | refine sUp_ne (by first | assumption | omega) ?_)) rfl ?_
  refine r_getf S g_RX11_105_3 dX11_worse_4 (by repeat (first | assumption | exact sUp_same | exact sNew_same | refine sUp_ne (by first | assumption | omega) ?_)) rfl ?_
  refine r_if_eq S dX11_worse_7 (tgt := 21) (by decide) ⟨by omega, by omega⟩ (fun h_7 => ?_) (fun h_7 => ?_)
  · omega
  · refine r_aload_n S dX11_worse_10 rfl ?_
    refine r_getf S g_RX11_47_10 dX11_worse_11 (by repeat (first | assumption | exact sUp_same | exact sNew_same | refine sUp_ne (by first | assumption | omega) ?_)) rfl ?_
    refine r_getf S g_RX11_119_3 dX11_worse_14 (by repeat (first | assumption | exact sUp_same | exact sNew_same | refine sUp_ne (by first | assumption | omega) ?_)) rfl ?_
    refine r_iconst S dX11_worse_17 ?_
    refine r_icmp_ne S dX11_worse_18 (tgt := 24) (by decide) ⟨by omega, by omega⟩ ⟨by omega, by omega⟩ (fun h_18 => ?_) (fun h_18 => ?_)
    · refine r_aload_n S dX11_worse_24 rfl ?_
      refine r_iconst S dX11_worse_25 ?_
      refine r_callV S (c_fewestBehind (y := 1) hX hG hL hf han hn hH hk hq0 hF hFr hT hbt hb hLr hLf hFw (by decide)) k_mX11_fewestBehind c_RX11_177_10 dX11_worse_26 (by decide) ⟨by omega, by omega⟩ (by repeat (first | assumption | exact sUp_same | exact sNew_same | refine sUp_ne (by first | assumption | omega) ?_)) rfl rfl (Nat.le_of_ble_eq_true rfl) (fun r σ' hp => ?_)
      obtain ⟨_, rfl, rfl, rfl⟩ := hp
      try simp only [Option.toList_some, Option.toList_none, List.cons_append, List.nil_append]
      refine r_istore_n S dX11_worse_29 rfl (by decide) (lv' := [_, _, _]) rfl ?_
      refine r_aload_n S dX11_worse_30 rfl ?_
      refine r_iconst S dX11_worse_31 ?_
      refine r_callV S (c_fewestBehind (y := 0) (σ := sUp σ (cBase k + 10) (eI k 992 (layF f an (costK kd 1 0) (costK kd 0 1) b 1 n))) (sUp_ne (by omega) hX) (sUp_ne (by omega) hG) sUp_same hr1 han hn (sUp_ne (by omega) hH) hk hq0 (sUp_ne (by omega) hF) hFr (sUp_ne (by omega) hT) hbt hb hLr hLf1 hFw (by decide)) k_mX11_fewestBehind c_RX11_177_10 dX11_worse_32 (by decide) ⟨by omega, by omega⟩ (by repeat (first | assumption | exact sUp_same | exact sNew_same | refine sUp_ne (by first | assumption | omega) ?_)) rfl rfl (Nat.le_of_ble_eq_true rfl) (fun r σ' hp => ?_)
      obtain ⟨_, rfl, rfl, rfl⟩ := hp
      try simp only [Option.toList_some, Option.toList_none, List.cons_append, List.nil_append]
      simp only [sUp_sUp]
      refine r_istore_n S dX11_worse_35 rfl (by decide) (lv' := [_, _, _]) rfl ?_
      refine r_iload_n S dX11_worse_36 rfl ?_
      refine r_bipush S dX11_worse_37 (by decide) ?_
      refine r_icmp_gt S dX11_worse_39 (tgt := 48) (by decide) ⟨by omega, by omega⟩ ⟨by omega, by omega⟩ (fun h_39 => ?_) (fun h_39 => ?_)
      · refine r_bipush S dX11_worse_48 (by decide) ?_
        exact r_iret S dX11_worse_50 (by omega) (by omega) (⟨_, rfl, by
          congr 2
          first
            | rw [if_pos (by omega)]
            | rw [if_neg (by omega), if_pos (by omega)]
            | rw [if_neg (by omega), if_neg (by omega)], _, rfl, hr2, hl2⟩)
      · refine r_iload_n S dX11_worse_42 rfl ?_
        refine r_bipush S dX11_worse_43 (by decide) ?_
        refine r_icmp_le S dX11_worse_45 (tgt := 51) (by decide) ⟨by omega, by omega⟩ ⟨by omega, by omega⟩ (fun h_45 => ?_) (fun h_45 => ?_)
        · refine r_iload_n S dX11_worse_51 rfl ?_
          refine r_iload_n S dX11_worse_52 rfl ?_
          refine r_icmp_lt S dX11_worse_53 (tgt := 60) (by decide) ⟨by omega, by omega⟩ ⟨by omega, by omega⟩ (fun h_53 => ?_) (fun h_53 => ?_)
          · refine r_iconst S dX11_worse_60 ?_
            exact r_iret S dX11_worse_61 (by omega) (by omega) (⟨_, rfl, by
              congr 2
              first
                | rw [if_pos (by omega)]
                | rw [if_neg (by omega), if_pos (by omega)]
                | rw [if_neg (by omega), if_neg (by omega)], _, rfl, hr2, hl2⟩)
          · refine r_iconst S dX11_worse_56 ?_
            refine r_goto S dX11_worse_57 (tgt := 61) (by decide) ?_
            exact r_iret S dX11_worse_61 (by omega) (by omega) (⟨_, rfl, by
              congr 2
              first
                | rw [if_pos (by omega)]
                | rw [if_neg (by omega), if_pos (by omega)]
                | rw [if_neg (by omega), if_neg (by omega)], _, rfl, hr2, hl2⟩)
        · refine r_bipush S dX11_worse_48 (by decide) ?_
          exact r_iret S dX11_worse_50 (by omega) (by omega) (⟨_, rfl, by
            congr 2
            first
              | rw [if_pos (by omega)]
              | rw [if_neg (by omega), if_pos (by omega)]
              | rw [if_neg (by omega), if_neg (by omega)], _, rfl, hr2, hl2⟩)
    · omega
