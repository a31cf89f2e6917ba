/-- what the table knows: with m NUMBERS and LEFT up to j, for m up to kn j -/
def KnOk (cy cn : Nat) (F kn : Nat → Int) : Prop := (∀ j, 0 ≤ kn j ∧ kn j ≤ 16) ∧ ∀ j, j < 4 → ∀ m : Nat, (m : Int) ≤ kn j → ∀ x, Dm m j x → Right cy cn F x
theorem mx_rng {kn : Nat → Int} {n : Nat} (hk : ∀ j, 0 ≤ kn j ∧ kn j ≤ 16) (hn : n ≤ 16) (i : Nat) : ∀ j, 0 ≤ tkF (fun j => max (kn j) (n : Int)) kn i j ∧ tkF (fun j => max (kn j) (n : Int)) kn i j ≤ 16 := by
  intro j
  have := hk j
  unfold tkF
  split
  · show 0 ≤ max (kn j) (n : Int) ∧ max (kn j) (n : Int) ≤ 16
    omega
  · omega
theorem KnOk_end {cy cn : Nat} {F0 F kn : Nat → Int} {n e K b3 : Nat} (hn : n ≤ 16) (hk : KnOk cy cn F0 kn) (hkeep : ∀ x, Dec x → x.1 ≤ 16 → Right cy cn F0 x → Right cy cn F x) (hb3 : (e < 3 → b3 = 0) ∧ (3 ≤ e → b3 = n)) (he : e ≤ 3) (hinv : InvL cy cn F n e K (b3 + 1) 0 0 0) : KnOk cy cn F (tkF (fun j => max (kn j) (n : Int)) kn (e + 1)) := by
  refine ⟨mx_rng hk.1 hn _, fun j hj m hm x hx => ?_⟩
  have hkj := hk.1 j
  by_cases h1 : (m : Int) ≤ kn j
  · exact hkeep x hx.1 (by have := hx.2.1; omega) (hk.2 j hj m h1 x hx)
  · by_cases h2 : j < e + 1
    · rw [tkF_in h2] at hm
      refine hinv x ?_ (Or.inr (Or.inl ?_))
      · obtain ⟨a1, a2, a3, a4, a5⟩ := hx
        exact ⟨a1, by omega, fun z => a3 (by omega), fun z => a4 (by omega), fun z => a5 (by omega)⟩
      · obtain ⟨a1, a2, a3, a4, a5⟩ := hx
        obtain ⟨d1, d2, d3⟩ := a1
        by_cases h3 : e < 3
        · have := a5 (by omega); omega
        · have := hb3.2 (by omega); omega
    · rw [tkF_out (by omega)] at hm
      exact absurd hm h1
/-- the STATE of a row of LEFT -/
def hQ (f : Nat → Int) (r n : Nat) : Q4 := (cnt (fun i => decide (0 ≤ f (r + i))) n, cnt (fun i => decide (1 ≤ f (r + i))) n, cnt (fun i => decide (2 ≤ f (r + i))) n, cnt (fun i => decide (3 ≤ f (r + i))) n)
theorem cnt_imp {p q : Nat → Bool} (h : ∀ i, p i = true → q i = true) : ∀ n, cnt p n ≤ cnt q n
  | 0 => Nat.le_refl _
  | n + 1 => by
    have ih := cnt_imp h n
    rw [cnt_succ, cnt_succ]
    by_cases hp : p n = true
    · rw [if_pos hp, if_pos (h n hp)]; omega
    · rw [if_neg hp]; split <;> omega
theorem hQ_dec (f : Nat → Int) (r n : Nat) : Dec (hQ f r n) := ⟨cnt_imp (fun i h => by simp only [decide_eq_true_eq] at h ⊢; omega) n, cnt_imp (fun i h => by simp only [decide_eq_true_eq] at h ⊢; omega) n, cnt_imp (fun i h => by simp only [decide_eq_true_eq] at h ⊢; omega) n⟩
set_option maxRecDepth 100000 in
set_option maxHeartbeats 4000000 in
theorem l_learnK {κ : Kx} {k : Cx} {σ : St} {n e K : Nat} (hn : 1 ≤ n ∧ n ≤ 16) (he : e ≤ 3) (hK : K < n) {ta cy cn : Nat} (hcy : 1 ≤ cy ∧ cy ≤ 4) (hcn : 1 ≤ cn ∧ cn ≤ 4) {F0 kn : Nat → Int} {F : Nat → Int} {b3 : Nat} (hko : KnOk cy cn F0 kn) (hb3 : (e < 3 → b3 = 0) ∧ (3 ≤ e → b3 = n)) (hinv : InvL cy cn F n e K (b3 + 1) 0 0 0) (S : Ok κ k cX4_learn 8 RX4 none "learn" 9 0 0) : ∀ (m i : Nat), i + m = e + 1 → ∀ (σc : St), LF k σ σc ta cy cn F0 F (tkF (fun j => max (kn j) (n : Int)) kn (i)) → V κ k 8 0 0 (QR κ k (fun r σ' => r = none ∧ ∃ F' kn' : Nat → Int, Tb k σ' ta cy cn F' ∧ σ'.2 (ta + 9) = some (eI k 4 kn') ∧ FrL σ σ' ta ∧ KnOk cy cn F' kn' ∧ (n : Int) ≤ kn' e) 0 0) 144 [some (.ref (ta + 8)), some (.int (iZ (n : Int))), some (.int (iZ (e : Int))), some (.int (iZ ((K + 1 : Nat) : Int))), some (.int (iZ (i : Int))), none, none, none] [] σc := by
  intro m
  induction m with
  | zero =>
    intro i hi σc hlf
    obtain ⟨hTb, hHT, hKN, hfr, hkeep⟩ := hlf
    rw [show i = e + 1 by omega] at hKN
    refine r_iload S dX4_learn_144 rfl ?_
    refine r_iload_n S dX4_learn_146 rfl ?_
    refine r_icmp_gt S dX4_learn_147 (tgt := 174) (by decide) ⟨by omega, by omega⟩ ⟨by omega, by omega⟩ (fun h_147 => ?_) (fun h_147 => ?_)
    · exact r_vret S dX4_learn_174 (by omega) (by omega) (⟨rfl, F, _, hTb, hKN, hfr, KnOk_end hn.2 hko hkeep hb3 he hinv, by rw [tkF_in (by omega)]; omega⟩)
    · omega
  | succ m ih =>
    intro i hi σc hlf
    obtain ⟨hTb, hHT, hKN, hfr, hkeep⟩ := hlf
    have hki := hko.1 i
    refine r_iload S dX4_learn_144 rfl ?_
    refine r_iload_n S dX4_learn_146 rfl ?_
    refine r_icmp_gt S dX4_learn_147 (tgt := 174) (by decide) ⟨by omega, by omega⟩ ⟨by omega, by omega⟩ (fun h_147 => ?_) (fun h_147 => ?_)
    · omega
    · refine r_aload_n S dX4_learn_150 rfl ?_
      refine r_getf S g_RX4_9_4 dX4_learn_151 (by repeat (first | assumption | exact sUp_same | exact sNew_same | refine sUp_ne (by first | assumption | omega) ?_)) rfl ?_
      refine r_iload S dX4_learn_154 rfl ?_
      refine r_aload_n S dX4_learn_156 rfl ?_
      refine r_getf S g_RX4_9_4 dX4_learn_157 (by repeat (first | assumption | exact sUp_same | exact sNew_same | refine sUp_ne (by first | assumption | omega) ?_)) rfl ?_
      refine r_iload S dX4_learn_160 rfl ?_
      refine r_ialdN S (i) dX4_learn_162 (by repeat (first | assumption | exact sUp_same | exact sNew_same | refine sUp_ne (by first | assumption | omega) ?_)) (by omega) (by omega) (by decide) ?_
      rw [tkF_out (Nat.le_refl i)]
      refine r_iload_n S dX4_learn_163 rfl ?_
      refine r_mmax S wd_304 ks_max dX4_learn_164 (by decide) ⟨by omega, by omega⟩ ⟨by omega, by omega⟩ ⟨by omega, by omega⟩ (Nat.le_of_ble_eq_true rfl) ?_
      refine r_iastN S (i) dX4_learn_167 (by repeat (first | assumption | exact sUp_same | exact sNew_same | refine sUp_ne (by first | assumption | omega) ?_)) (by omega) (by omega) (by decide) ?_
      refine r_iinc S dX4_learn_168 rfl rfl (by decide) (lv' := [_, _, _, _, _, _, _, _]) rfl ?_
      refine r_goto S dX4_learn_171 (tgt := 144) (by decide) ?_
      refine ih (i + 1) (by omega) _ ⟨?_, sUp_ne (by omega) hHT, ?_, ⟨hfr.1, fun q h8 h9 => (if_neg h9).trans (hfr.2 q h8 h9)⟩, hkeep⟩
      · obtain ⟨hF, hFr, ⟨g, hO⟩, ⟨hv, hhv, hH⟩, tk, htk, hT⟩ := hTb
        exact ⟨sUp_ne (by omega) hF, hFr, ⟨g, sUp_ne (by omega) hO⟩, ⟨hv, hhv, sUp_ne (by omega) hH⟩, tk, htk, sUp_ne (by omega) hT⟩
      · rw [← tkF_succ (fun j => max (kn j) (n : Int)) kn i]
        exact sUp_same

set_option maxRecDepth 100000 in
set_option maxHeartbeats 4000000 in
theorem c_learn {k : Cx} {L0 : Launch} {σ : St} {n e : Nat} (hn : 1 ≤ n ∧ n ≤ 16) (he : e ≤ 3) {ta cy cn : Nat} (hcy : 1 ≤ cy ∧ cy ≤ 4) (hcn : 1 ≤ cn ∧ cn ≤ 4) {F kn : Nat → Int} (hTb : Tb k σ ta cy cn F) (hHT : σ.2 (ta + 8) = some (oHT ta)) (hKN : σ.2 (ta + 9) = some (eI k 4 kn)) (hko : KnOk cy cn F kn) : CtrU k L0 mX4_learn 9 0 0 [.ref (ta + 8), .int (iZ (n : Int)), .int (iZ (e : Int))] σ (fun σ' => ∃ F' kn' : Nat → Int, Tb k σ' ta cy cn F' ∧ σ'.2 (ta + 9) = some (eI k 4 kn') ∧ FrL σ σ' ta ∧ KnOk cy cn F' kn' ∧ (n : Int) ≤ kn' e) := by
  refine Ctr.of (by decide +kernel) rfl (Nat.le_of_ble_eq_true rfl) ?_
  intro κ hl0 S
  subst hl0
  have hke := hko.1 e
  refine r_iload_n S dX4_learn_0 rfl ?_
  refine r_bipush S dX4_learn_1 (by decide) ?_
  refine r_icmp_gt S dX4_learn_3 (tgt := 25) (by decide) ⟨by omega, by omega⟩ ⟨by omega, by omega⟩ (fun h_3 => ?_) (fun h_3 => ?_)
  · omega
  · refine r_iload_n S dX4_learn_6 rfl ?_
    refine r_if_lt S dX4_learn_7 (tgt := 25) (by decide) ⟨by omega, by omega⟩ (fun h_7 => ?_) (fun h_7 => ?_)
    · omega
    · refine r_iload_n S dX4_learn_10 rfl ?_
      refine r_iconst S dX4_learn_11 ?_
      refine r_icmp_gt S dX4_learn_12 (tgt := 25) (by decide) ⟨by omega, by omega⟩ ⟨by omega, by omega⟩ (fun h_12 => ?_) (fun h_12 => ?_)
      · omega
      · refine r_aload_n S dX4_learn_15 rfl ?_
        refine r_getf S g_RX4_9_4 dX4_learn_16 (by repeat (first | assumption | exact sUp_same | exact sNew_same | refine sUp_ne (by first | assumption | omega) ?_)) rfl ?_
        refine r_iload_n S dX4_learn_19 rfl ?_
        refine r_ialdN S (e) dX4_learn_20 (by repeat (first | assumption | exact sUp_same | exact sNew_same | refine sUp_ne (by first | assumption | omega) ?_)) (by omega) (by omega) (by decide) ?_
        try skip
        refine r_iload_n S dX4_learn_21 rfl ?_
        refine r_icmp_lt S dX4_learn_22 (tgt := 26) (by decide) ⟨by omega, by omega⟩ ⟨by omega, by omega⟩ (fun h_22 => ?_) (fun h_22 => ?_)
        · refine r_aload_n S dX4_learn_26 rfl ?_
          refine r_getf S g_RX4_9_4 dX4_learn_27 (by repeat (first | assumption | exact sUp_same | exact sNew_same | refine sUp_ne (by first | assumption | omega) ?_)) rfl ?_
          refine r_iload_n S dX4_learn_30 rfl ?_
          refine r_ialdN S (e) dX4_learn_31 (by repeat (first | assumption | exact sUp_same | exact sNew_same | refine sUp_ne (by first | assumption | omega) ?_)) (by omega) (by omega) (by decide) ?_
          refine r_iconst S dX4_learn_32 ?_
          refine r_iadd S dX4_learn_33 ?_
          obtain ⟨K, hKe⟩ := Int.eq_ofNat_of_zero_le hke.1
          refine r_num (z' := ((K + 1 : Nat) : Int)) (by omega) ?_
          refine r_istore_n S dX4_learn_34 rfl (by decide) (lv' := [_, _, _, _, _, _, _, _]) rfl ?_
          refine r_iconst S dX4_learn_35 ?_
          refine r_istore S dX4_learn_36 rfl (by decide) (lv' := [_, _, _, _, _, _, _, _]) rfl ?_
          obtain ⟨b1, hb1⟩ : ∃ b1 : Nat, (e < 1 → b1 = 0) ∧ (1 ≤ e → b1 = n) := ⟨if e < 1 then 0 else n, fun h8 => if_pos h8, fun h8 => if_neg (by omega)⟩
          obtain ⟨b2, hb2⟩ : ∃ b2 : Nat, (e < 2 → b2 = 0) ∧ (2 ≤ e → b2 = n) := ⟨if e < 2 then 0 else n, fun h8 => if_pos h8, fun h8 => if_neg (by omega)⟩
          obtain ⟨b3, hb3⟩ : ∃ b3 : Nat, (e < 3 → b3 = 0) ∧ (3 ≤ e → b3 = n) := ⟨if e < 3 then 0 else n, fun h8 => if_pos h8, fun h8 => if_neg (by omega)⟩
          refine l_learnH (K := K) (F0 := F) (kn := kn) hn he (by omega) hcy hcn hb1 hb2 hb3 (fun σc F' hlf hinv => ?_) S (b3 + 1) 0 (by omega) σ F ⟨hTb, hHT, hKN, ⟨rfl, fun _ _ _ => rfl⟩, fun _ _ _ h8 => h8⟩ (fun x hx hb => ?_)
          · refine r_iconst S dX4_learn_141 ?_
            refine r_istore S dX4_learn_142 rfl (by decide) (lv' := [_, _, _, _, _, _, _, _]) rfl ?_
            have h9 := l_learnK (K := K) (F0 := F) (F := F') hn he (by omega) hcy hcn hko hb3 hinv S (e + 1) 0 (by omega) σc (by rw [tkF_0]; exact hlf)
            exact h9
          · rcases hb with h8 | h8
            · exact hko.2 e (by omega) K (by omega) x ⟨hx.1, h8, hx.2.2⟩
            · simp only [Bf] at h8
              omega
        · exact r_vret S dX4_learn_25 (by omega) (by omega) (⟨rfl, F, kn, hTb, hKN, ⟨rfl, fun _ _ _ => rfl⟩, hko, by omega⟩)

set_option maxRecDepth 100000 in
set_option maxHeartbeats 4000000 in
theorem l_fo {κ : Kx} {k : Cx} {σ : St} {Q : State → Prop} {ta af r n : Nat} {F f : Nat → Int} (hF : σ.2 ta = some (eI k 4845 F)) (hHT : σ.2 (ta + 8) = some (oHT ta)) (hA : σ.2 af = some (eI k 992 f)) (hf : ∀ j, -1 ≤ f j ∧ f j ≤ 3) (hr : r + 16 ≤ 992) (hn : n ≤ 16) {pl L : Nat} (hL : L < 4) (kk : V κ k 8 0 0 Q 46 [some (.ref (ta + 8)), some (.ref af), some (.int (iZ (r : Int))), some (.int (iZ (n : Int))), some (.int (iZ ((pl : Nat) : Int))), some (.int (iZ ((L : Int) : Int))), some (.int (iZ ((cnt (fun i => decide ((L : Int) ≤ f (r + i))) n : Nat) : Int))), none] [] σ) (S : Ok κ k cX4_fewestOf 8 RX4 (some .int) "fewestOf" 2 0 0) : ∀ (m i : Nat), i + m = n → V κ k 8 0 0 Q 18 [some (.ref (ta + 8)), some (.ref af), some (.int (iZ (r : Int))), some (.int (iZ (n : Int))), some (.int (iZ ((pl : Nat) : Int))), some (.int (iZ ((L : Int) : Int))), some (.int (iZ ((cnt (fun i => decide ((L : Int) ≤ f (r + i))) i : Nat) : Int))), some (.int (iZ (i : Int)))] [] σ := by
  intro m
  induction m with
  | zero =>
    intro i hi
    have hin : i = n := by omega
    subst hin
    refine r_iload S dX4_fewestOf_18 rfl ?_
    refine r_iload_n S dX4_fewestOf_20 rfl ?_
    refine r_icmp_ge S dX4_fewestOf_21 (tgt := 46) (by decide) ⟨by omega, by omega⟩ ⟨by omega, by omega⟩ (fun h_21 => ?_) (fun h_21 => ?_)
    · refine V.mask [true, true, true, true, true, true, true, false] (lv' := [_, _, _, _, _, _, _, none]) rfl ?_
      exact kk
    · omega
  | succ m ih =>
    intro i hi
    have hfi := hf (r + i)
    refine r_iload S dX4_fewestOf_18 rfl ?_
    refine r_iload_n S dX4_fewestOf_20 rfl ?_
    refine r_icmp_ge S dX4_fewestOf_21 (tgt := 46) (by decide) ⟨by omega, by omega⟩ ⟨by omega, by omega⟩ (fun h_21 => ?_) (fun h_21 => ?_)
    · omega
    · refine r_aload_n S dX4_fewestOf_24 rfl ?_
      refine r_iload_n S dX4_fewestOf_25 rfl ?_
      refine r_iload S dX4_fewestOf_26 rfl ?_
      refine r_iadd S dX4_fewestOf_28 ?_
      refine r_callSN S (c_leftAt hA (i := r + i) (by omega) (by omega) (by decide)) k_mX11_leftAt c_RX4_55 dX4_fewestOf_29 (by decide) ⟨by omega, by omega⟩ rfl rfl (Nat.le_of_ble_eq_true rfl) (fun r σ' hp => ?_)
      obtain ⟨_, rfl, rfl, rfl⟩ := hp
      try simp only [Option.toList_some, Option.toList_none, List.cons_append, List.nil_append]
      refine r_iload S dX4_fewestOf_32 rfl ?_
      refine r_icmp_lt S dX4_fewestOf_34 (tgt := 40) (by decide) ⟨by omega, by omega⟩ ⟨by omega, by omega⟩ (fun h_34 => ?_) (fun h_34 => ?_)
      · refine r_iinc S dX4_fewestOf_40 rfl rfl (by decide) (lv' := [_, _, _, _, _, _, _, _]) rfl ?_
        refine r_goto S dX4_fewestOf_43 (tgt := 18) (by decide) ?_
        first
          | (have h9 := ih (i + 1) (by omega); rw [cnt_t (p := fun i => decide ((L : Int) ≤ f (r + i))) (decide_eq_true (by omega))] at h9; exact h9)
          | (have h9 := ih (i + 1) (by omega); rw [cnt_f (p := fun i => decide ((L : Int) ≤ f (r + i))) (decide_eq_false (by omega))] at h9; exact h9)
      · refine r_iinc S dX4_fewestOf_37 rfl rfl (by decide) (lv' := [_, _, _, _, _, _, _, _]) rfl ?_
        refine r_iinc S dX4_fewestOf_40 rfl rfl (by decide) (lv' := [_, _, _, _, _, _, _, _]) rfl ?_
        refine r_goto S dX4_fewestOf_43 (tgt := 18) (by decide) ?_
        first
          | (have h9 := ih (i + 1) (by omega); rw [cnt_t (p := fun i => decide ((L : Int) ≤ f (r + i))) (decide_eq_true (by omega))] at h9; exact h9)
          | (have h9 := ih (i + 1) (by omega); rw [cnt_f (p := fun i => decide ((L : Int) ≤ f (r + i))) (decide_eq_false (by omega))] at h9; exact h9)

set_option maxRecDepth 100000 in
set_option maxHeartbeats 4000000 in
theorem s_fo4 {κ : Kx} {k : Cx} {σ : St} {ta af r n : Nat} {F f : Nat → Int} (hF : σ.2 ta = some (eI k 4845 F)) (hHT : σ.2 (ta + 8) = some (oHT ta)) (hA : σ.2 af = some (eI k 992 f)) (hf : ∀ j, -1 ≤ f j ∧ f j ≤ 3) (hr : r + 16 ≤ 992) (hn : n ≤ 16) (S : Ok κ k cX4_fewestOf 8 RX4 (some .int) "fewestOf" 2 0 0) : V κ k 8 0 0 (QR κ k (fun r9 σ' => ∃ v, r9 = some v ∧ (v = .int (iZ (F (plQ (hQ f r n)))) ∧ σ' = σ)) 0 0) 6 [some (.ref (ta + 8)), some (.ref af), some (.int (iZ (r : Int))), some (.int (iZ (n : Int))), some (.int (iZ ((0 + PL 0 (hQ f r n).1 + PL 1 (hQ f r n).2.1 + PL 2 (hQ f r n).2.2.1 + PL 3 (hQ f r n).2.2.2 : Nat) : Int))), some (.int (iZ (4 : Int))), none, none] [] σ := by
  have hc0 : (hQ f r n).1 ≤ n := cnt_le _ n
  have hdq := hQ_dec f r n
  simp only [Dec] at hdq
  have hpq := plQ_lt (hQ_dec f r n) (by omega)
  have e0 := PL_0 (hQ f r n).1 (by omega)
  refine r_iload S dX4_fewestOf_6 rfl ?_
  refine r_iconst S dX4_fewestOf_8 ?_
  refine r_icmp_ge S dX4_fewestOf_9 (tgt := 64) (by decide) ⟨by omega, by omega⟩ ⟨by omega, by omega⟩ (fun h_9 => ?_) (fun h_9 => ?_)
  · refine r_aload_n S dX4_fewestOf_64 rfl ?_
    refine r_iload S dX4_fewestOf_65 rfl ?_
    refine r_callV S (c_fewAt hF hHT (p := plQ (hQ f r n)) (by simp only [plQ]; omega) hpq) k_mX4_fewAt c_RX4_39_4 dX4_fewestOf_67 (by decide) ⟨by omega, by omega⟩ (by repeat (first | assumption | exact sUp_same | exact sNew_same | refine sUp_ne (by first | assumption | omega) ?_)) rfl rfl (Nat.le_of_ble_eq_true rfl) (fun r σ' hp => ?_)
    obtain ⟨_, rfl, rfl, rfl⟩ := hp
    try simp only [Option.toList_some, Option.toList_none, List.cons_append, List.nil_append]
    exact r_iret S dX4_fewestOf_70 (by omega) (by omega) (⟨_, rfl, rfl, rfl⟩)
  · omega

set_option maxRecDepth 100000 in
set_option maxHeartbeats 4000000 in
theorem s_fo3 {κ : Kx} {k : Cx} {σ : St} {ta af r n : Nat} {F f : Nat → Int} (hF : σ.2 ta = some (eI k 4845 F)) (hHT : σ.2 (ta + 8) = some (oHT ta)) (hA : σ.2 af = some (eI k 992 f)) (hf : ∀ j, -1 ≤ f j ∧ f j ≤ 3) (hr : r + 16 ≤ 992) (hn : n ≤ 16) (S : Ok κ k cX4_fewestOf 8 RX4 (some .int) "fewestOf" 2 0 0) : V κ k 8 0 0 (QR κ k (fun r9 σ' => ∃ v, r9 = some v ∧ (v = .int (iZ (F (plQ (hQ f r n)))) ∧ σ' = σ)) 0 0) 6 [some (.ref (ta + 8)), some (.ref af), some (.int (iZ (r : Int))), some (.int (iZ (n : Int))), some (.int (iZ ((0 + PL 0 (hQ f r n).1 + PL 1 (hQ f r n).2.1 + PL 2 (hQ f r n).2.2.1 : Nat) : Int))), some (.int (iZ (3 : Int))), none, none] [] σ := by
  have hc0 : (hQ f r n).1 ≤ n := cnt_le _ n
  have hdq := hQ_dec f r n
  simp only [Dec] at hdq
  have hpq := plQ_lt (hQ_dec f r n) (by omega)
  have e0 := PL_0 (hQ f r n).1 (by omega)
  refine r_iload S dX4_fewestOf_6 rfl ?_
  refine r_iconst S dX4_fewestOf_8 ?_
  refine r_icmp_ge S dX4_fewestOf_9 (tgt := 64) (by decide) ⟨by omega, by omega⟩ ⟨by omega, by omega⟩ (fun h_9 => ?_) (fun h_9 => ?_)
  · omega
  · refine r_iconst S dX4_fewestOf_12 ?_
    refine r_istore S dX4_fewestOf_13 rfl (by decide) (lv' := [_, _, _, _, _, _, _, _]) rfl ?_
    refine r_iconst S dX4_fewestOf_15 ?_
    refine r_istore S dX4_fewestOf_16 rfl (by decide) (lv' := [_, _, _, _, _, _, _, _]) rfl ?_
    refine l_fo (L := 3) hF hHT hA hf hr hn (by decide) ?_ S n 0 (by omega)
    refine r_iload S dX4_fewestOf_46 rfl ?_
    refine r_iload S dX4_fewestOf_48 rfl ?_
    refine r_iload S dX4_fewestOf_50 rfl ?_
    refine r_callSN S (c_placeOf (l := 3) (c := (hQ f r n).2.2.2) (by rfl) (by rfl) (by decide) (by omega)) k_mX11_placeOf c_RX4_36 dX4_fewestOf_52 (by decide) ⟨by omega, by omega⟩ rfl rfl (Nat.le_of_ble_eq_true rfl) (fun r σ' hp => ?_)
    obtain ⟨_, rfl, rfl, rfl⟩ := hp
    try simp only [Option.toList_some, Option.toList_none, List.cons_append, List.nil_append]
    refine r_iadd S dX4_fewestOf_55 ?_
    refine r_istore S dX4_fewestOf_56 rfl (by decide) (lv' := [_, _, _, _, _, _, _, _]) rfl ?_
    refine r_iinc S dX4_fewestOf_58 rfl rfl (by decide) (lv' := [_, _, _, _, _, _, _, _]) rfl ?_
    refine r_goto S dX4_fewestOf_61 (tgt := 6) (by decide) ?_
    refine V.mask [true, true, true, true, true, true, false, false] (lv' := [_, _, _, _, _, _, none, none]) rfl ?_
    exact s_fo4 hF hHT hA hf hr hn S

set_option maxRecDepth 100000 in
set_option maxHeartbeats 4000000 in
theorem s_fo2 {κ : Kx} {k : Cx} {σ : St} {ta af r n : Nat} {F f : Nat → Int} (hF : σ.2 ta = some (eI k 4845 F)) (hHT : σ.2 (ta + 8) = some (oHT ta)) (hA : σ.2 af = some (eI k 992 f)) (hf : ∀ j, -1 ≤ f j ∧ f j ≤ 3) (hr : r + 16 ≤ 992) (hn : n ≤ 16) (S : Ok κ k cX4_fewestOf 8 RX4 (some .int) "fewestOf" 2 0 0) : V κ k 8 0 0 (QR κ k (fun r9 σ' => ∃ v, r9 = some v ∧ (v = .int (iZ (F (plQ (hQ f r n)))) ∧ σ' = σ)) 0 0) 6 [some (.ref (ta + 8)), some (.ref af), some (.int (iZ (r : Int))), some (.int (iZ (n : Int))), some (.int (iZ ((0 + PL 0 (hQ f r n).1 + PL 1 (hQ f r n).2.1 : Nat) : Int))), some (.int (iZ (2 : Int))), none, none] [] σ := by
  have hc0 : (hQ f r n).1 ≤ n := cnt_le _ n
  have hdq := hQ_dec f r n
  simp only [Dec] at hdq
  have hpq := plQ_lt (hQ_dec f r n) (by omega)
  have e0 := PL_0 (hQ f r n).1 (by omega)
  refine r_iload S dX4_fewestOf_6 rfl ?_
  refine r_iconst S dX4_fewestOf_8 ?_
  refine r_icmp_ge S dX4_fewestOf_9 (tgt := 64) (by decide) ⟨by omega, by omega⟩ ⟨by omega, by omega⟩ (fun h_9 => ?_) (fun h_9 => ?_)
  · omega
  · refine r_iconst S dX4_fewestOf_12 ?_
    refine r_istore S dX4_fewestOf_13 rfl (by decide) (lv' := [_, _, _, _, _, _, _, _]) rfl ?_
    refine r_iconst S dX4_fewestOf_15 ?_
    refine r_istore S dX4_fewestOf_16 rfl (by decide) (lv' := [_, _, _, _, _, _, _, _]) rfl ?_
    refine l_fo (L := 2) hF hHT hA hf hr hn (by decide) ?_ S n 0 (by omega)
    refine r_iload S dX4_fewestOf_46 rfl ?_
    refine r_iload S dX4_fewestOf_48 rfl ?_
    refine r_iload S dX4_fewestOf_50 rfl ?_
    refine r_callSN S (c_placeOf (l := 2) (c := (hQ f r n).2.2.1) (by rfl) (by rfl) (by decide) (by omega)) k_mX11_placeOf c_RX4_36 dX4_fewestOf_52 (by decide) ⟨by omega, by omega⟩ rfl rfl (Nat.le_of_ble_eq_true rfl) (fun r σ' hp => ?_)
    obtain ⟨_, rfl, rfl, rfl⟩ := hp
    try simp only [Option.toList_some, Option.toList_none, List.cons_append, List.nil_append]
    refine r_iadd S dX4_fewestOf_55 ?_
    refine r_istore S dX4_fewestOf_56 rfl (by decide) (lv' := [_, _, _, _, _, _, _, _]) rfl ?_
    refine r_iinc S dX4_fewestOf_58 rfl rfl (by decide) (lv' := [_, _, _, _, _, _, _, _]) rfl ?_
    refine r_goto S dX4_fewestOf_61 (tgt := 6) (by decide) ?_
    refine V.mask [true, true, true, true, true, true, false, false] (lv' := [_, _, _, _, _, _, none, none]) rfl ?_
    exact s_fo3 hF hHT hA hf hr hn S

set_option maxRecDepth 100000 in
set_option maxHeartbeats 4000000 in
theorem s_fo1 {κ : Kx} {k : Cx} {σ : St} {ta af r n : Nat} {F f : Nat → Int} (hF : σ.2 ta = some (eI k 4845 F)) (hHT : σ.2 (ta + 8) = some (oHT ta)) (hA : σ.2 af = some (eI k 992 f)) (hf : ∀ j, -1 ≤ f j ∧ f j ≤ 3) (hr : r + 16 ≤ 992) (hn : n ≤ 16) (S : Ok κ k cX4_fewestOf 8 RX4 (some .int) "fewestOf" 2 0 0) : V κ k 8 0 0 (QR κ k (fun r9 σ' => ∃ v, r9 = some v ∧ (v = .int (iZ (F (plQ (hQ f r n)))) ∧ σ' = σ)) 0 0) 6 [some (.ref (ta + 8)), some (.ref af), some (.int (iZ (r : Int))), some (.int (iZ (n : Int))), some (.int (iZ ((0 + PL 0 (hQ f r n).1 : Nat) : Int))), some (.int (iZ (1 : Int))), none, none] [] σ := by
  have hc0 : (hQ f r n).1 ≤ n := cnt_le _ n
  have hdq := hQ_dec f r n
  simp only [Dec] at hdq
  have hpq := plQ_lt (hQ_dec f r n) (by omega)
  have e0 := PL_0 (hQ f r n).1 (by omega)
  refine r_iload S dX4_fewestOf_6 rfl ?_
  refine r_iconst S dX4_fewestOf_8 ?_
  refine r_icmp_ge S dX4_fewestOf_9 (tgt := 64) (by decide) ⟨by omega, by omega⟩ ⟨by omega, by omega⟩ (fun h_9 => ?_) (fun h_9 => ?_)
  · omega
  · refine r_iconst S dX4_fewestOf_12 ?_
    refine r_istore S dX4_fewestOf_13 rfl (by decide) (lv' := [_, _, _, _, _, _, _, _]) rfl ?_
    refine r_iconst S dX4_fewestOf_15 ?_
    refine r_istore S dX4_fewestOf_16 rfl (by decide) (lv' := [_, _, _, _, _, _, _, _]) rfl ?_
    refine l_fo (L := 1) hF hHT hA hf hr hn (by decide) ?_ S n 0 (by omega)
    refine r_iload S dX4_fewestOf_46 rfl ?_
    refine r_iload S dX4_fewestOf_48 rfl ?_
    refine r_iload S dX4_fewestOf_50 rfl ?_
    refine r_callSN S (c_placeOf (l := 1) (c := (hQ f r n).2.1) (by rfl) (by rfl) (by decide) (by omega)) k_mX11_placeOf c_RX4_36 dX4_fewestOf_52 (by decide) ⟨by omega, by omega⟩ rfl rfl (Nat.le_of_ble_eq_true rfl) (fun r σ' hp => ?_)
    obtain ⟨_, rfl, rfl, rfl⟩ := hp
    try simp only [Option.toList_some, Option.toList_none, List.cons_append, List.nil_append]
    refine r_iadd S dX4_fewestOf_55 ?_
    refine r_istore S dX4_fewestOf_56 rfl (by decide) (lv' := [_, _, _, _, _, _, _, _]) rfl ?_
    refine r_iinc S dX4_fewestOf_58 rfl rfl (by decide) (lv' := [_, _, _, _, _, _, _, _]) rfl ?_
    refine r_goto S dX4_fewestOf_61 (tgt := 6) (by decide) ?_
    refine V.mask [true, true, true, true, true, true, false, false] (lv' := [_, _, _, _, _, _, none, none]) rfl ?_
    exact s_fo2 hF hHT hA hf hr hn S

set_option maxRecDepth 100000 in
set_option maxHeartbeats 4000000 in
theorem s_fo0 {κ : Kx} {k : Cx} {σ : St} {ta af r n : Nat} {F f : Nat → Int} (hF : σ.2 ta = some (eI k 4845 F)) (hHT : σ.2 (ta + 8) = some (oHT ta)) (hA : σ.2 af = some (eI k 992 f)) (hf : ∀ j, -1 ≤ f j ∧ f j ≤ 3) (hr : r + 16 ≤ 992) (hn : n ≤ 16) (S : Ok κ k cX4_fewestOf 8 RX4 (some .int) "fewestOf" 2 0 0) : V κ k 8 0 0 (QR κ k (fun r9 σ' => ∃ v, r9 = some v ∧ (v = .int (iZ (F (plQ (hQ f r n)))) ∧ σ' = σ)) 0 0) 6 [some (.ref (ta + 8)), some (.ref af), some (.int (iZ (r : Int))), some (.int (iZ (n : Int))), some (.int (iZ ((0 : Nat) : Int))), some (.int (iZ (0 : Int))), none, none] [] σ := by
  have hc0 : (hQ f r n).1 ≤ n := cnt_le _ n
  have hdq := hQ_dec f r n
  simp only [Dec] at hdq
  have hpq := plQ_lt (hQ_dec f r n) (by omega)
  have e0 := PL_0 (hQ f r n).1 (by omega)
  refine r_iload S dX4_fewestOf_6 rfl ?_
  refine r_iconst S dX4_fewestOf_8 ?_
  refine r_icmp_ge S dX4_fewestOf_9 (tgt := 64) (by decide) ⟨by omega, by omega⟩ ⟨by omega, by omega⟩ (fun h_9 => ?_) (fun h_9 => ?_)
  · omega
  · refine r_iconst S dX4_fewestOf_12 ?_
    refine r_istore S dX4_fewestOf_13 rfl (by decide) (lv' := [_, _, _, _, _, _, _, _]) rfl ?_
    refine r_iconst S dX4_fewestOf_15 ?_
    refine r_istore S dX4_fewestOf_16 rfl (by decide) (lv' := [_, _, _, _, _, _, _, _]) rfl ?_
    refine l_fo (L := 0) hF hHT hA hf hr hn (by decide) ?_ S n 0 (by omega)
    refine r_iload S dX4_fewestOf_46 rfl ?_
    refine r_iload S dX4_fewestOf_48 rfl ?_
    refine r_iload S dX4_fewestOf_50 rfl ?_
    refine r_callSN S (c_placeOf (l := 0) (c := (hQ f r n).1) (by rfl) (by rfl) (by decide) (by omega)) k_mX11_placeOf c_RX4_36 dX4_fewestOf_52 (by decide) ⟨by omega, by omega⟩ rfl rfl (Nat.le_of_ble_eq_true rfl) (fun r σ' hp => ?_)
    obtain ⟨_, rfl, rfl, rfl⟩ := hp
    try simp only [Option.toList_some, Option.toList_none, List.cons_append, List.nil_append]
    refine r_iadd S dX4_fewestOf_55 ?_
    refine r_istore S dX4_fewestOf_56 rfl (by decide) (lv' := [_, _, _, _, _, _, _, _]) rfl ?_
    refine r_iinc S dX4_fewestOf_58 rfl rfl (by decide) (lv' := [_, _, _, _, _, _, _, _]) rfl ?_
    refine r_goto S dX4_fewestOf_61 (tgt := 6) (by decide) ?_
    refine V.mask [true, true, true, true, true, true, false, false] (lv' := [_, _, _, _, _, _, none, none]) rfl ?_
    exact s_fo1 hF hHT hA hf hr hn S

set_option maxRecDepth 100000 in
set_option maxHeartbeats 4000000 in
theorem c_fewestOf {k : Cx} {L0 : Launch} {σ : St} {ta af r n : Nat} {F f : Nat → Int} (hF : σ.2 ta = some (eI k 4845 F)) (hHT : σ.2 (ta + 8) = some (oHT ta)) (hA : σ.2 af = some (eI k 992 f)) (hf : ∀ j, -1 ≤ f j ∧ f j ≤ 3) (hr : r + 16 ≤ 992) (hn : n ≤ 16) : CtrV k L0 mX4_fewestOf 2 0 0 [.ref (ta + 8), .ref af, .int (iZ (r : Int)), .int (iZ (n : Int))] σ (fun v σ' => v = .int (iZ (F (plQ (hQ f r n)))) ∧ σ' = σ) := by
  refine Ctr.of (by decide +kernel) rfl (Nat.le_of_ble_eq_true rfl) ?_
  intro κ hl0 S
  subst hl0
  refine r_iconst S dX4_fewestOf_0 ?_
  refine r_istore S dX4_fewestOf_1 rfl (by decide) (lv' := [_, _, _, _, _, _, _, _]) rfl ?_
  refine r_iconst S dX4_fewestOf_3 ?_
  refine r_istore S dX4_fewestOf_4 rfl (by decide) (lv' := [_, _, _, _, _, _, _, _]) rfl ?_
  exact s_fo0 hF hHT hA hf hr hn S
