theorem uZ_uZ (F : Nat → Int) (p : Nat) (x y : Int) : uZ (uZ F p x) p y = uZ F p y := by
  funext j
  unfold uZ
  by_cases h : j = p <;> simp [h]
theorem uZ_rng {F : Nat → Int} (hF : ∀ j, 0 ≤ F j ∧ F j ≤ 13) {p : Nat} {z : Int} (hz : 0 ≤ z ∧ z ≤ 13) : ∀ j, 0 ≤ uZ F p z j ∧ uZ F p z j ≤ 13 := by
  intro j
  unfold uZ
  split
  · exact hz
  · exact hF j
/-- a lower bound: fl - 1 questions don't do -/
def Lo (cy cn : Nat) (h : Q4) (fl : Nat) : Prop := 1 ≤ fl ∧ fl ≤ 13 ∧ ¬ canQ cy cn (fl - 1) h
theorem Lo_max {cy cn : Nat} {g h : Q4} {fl v : Nat} (hlo : Lo cy cn h fl) (hg : Dec g) (hl : leQ g h) (hv : IsFew cy cn g v) : Lo cy cn h (max fl v) := by
  obtain ⟨a, b, c⟩ := hlo
  have hv1 := hv.1
  rcases Nat.lt_or_ge fl v with e | e
  · rw [Nat.max_eq_right (by omega)]
    exact ⟨by omega, by omega, few_low hg hl hv (by omega) (by omega)⟩
  · rw [Nat.max_eq_left e]
    exact ⟨a, b, c⟩
set_option maxRecDepth 100000 in
set_option maxHeartbeats 4000000 in
theorem l_learnOne {κ : Kx} {k : Cx} {σ : St} {ta : Nat} {cy cn h0 h1 h2 h3 : Nat} (hcy : 1 ≤ cy ∧ cy ≤ 4) (hcn : 1 ≤ cn ∧ cn ≤ 4) (hd : Dec (h0, h1, h2, h3)) (h16 : h0 ≤ 16) {F : Nat → Int} (hFr : ∀ j, 0 ≤ F j ∧ F j ≤ 13) (hok : TabOk cy cn F (h0, h1, h2, h3)) (h2q : 2 ≤ h0) {fl : Nat} {hv : Nat → Int} (hhv : ∀ j, j < 8 → hv j = (qat (h0, h1, h2, h3) j : Int)) (S : Ok κ k cX4_learnOne 8 RX4 none "learnOne" 8 0 0) : ∀ (m Q : Nat), Q + m = 13 → 1 ≤ Q → ¬ canQ cy cn (Q - 1) (h0, h1, h2, h3) → ∀ (σc : St) (g : Int) (tk : Nat → Int) (hF1 : σc.2 ta = some (eI k 4845 (uZ F (plQ (h0, h1, h2, h3)) 13))) (hO : σc.2 (ta + 1) = some (oAny ta cy cn g)) (hH : σc.2 (ta + 2) = some (eI k 8 hv)) (hT : σc.2 (ta + 3) = some (eI k 8 tk)) (htk : ∀ j, 3 < j → j < 8 → tk j = 0) (hHT : σc.2 (ta + 8) = some (oHT ta)) (hfr : Fr σ σc ta (ta + 4)), V κ k 8 0 0 (QR κ k (fun r σ' => r = none ∧ ∃ v : Nat, IsFew cy cn (h0, h1, h2, h3) v ∧ Tb k σ' ta cy cn (uZ F (plQ (h0, h1, h2, h3)) v) ∧ Fr σ σ' ta (ta + 4)) 0 0) 190 [some (.ref (ta + 8)), some (.int (iZ (h0 : Int))), some (.int (iZ (h1 : Int))), some (.int (iZ (h2 : Int))), some (.int (iZ (h3 : Int))), some (.int (iZ ((plQ (h0, h1, h2, h3) : Nat) : Int))), some (.int (iZ (fl : Int))), some (.int (iZ (Q : Int)))] [] σc := by
  have hown : plQ (h0, h1, h2, h3) < 4845 := plQ_lt hd h16
  have fin : ∀ (Q : Nat), Q ≤ 13 → IsFew cy cn (h0, h1, h2, h3) Q → ∀ (σc : St) (g : Int) (tk : Nat → Int) (hF1 : σc.2 ta = some (eI k 4845 (uZ F (plQ (h0, h1, h2, h3)) 13))) (hO : σc.2 (ta + 1) = some (oAny ta cy cn g)) (hH : σc.2 (ta + 2) = some (eI k 8 hv)) (hT : σc.2 (ta + 3) = some (eI k 8 tk)) (htk : ∀ j, 3 < j → j < 8 → tk j = 0) (hHT : σc.2 (ta + 8) = some (oHT ta)) (hfr : Fr σ σc ta (ta + 4)), V κ k 8 0 0 (QR κ k (fun r σ' => r = none ∧ ∃ v : Nat, IsFew cy cn (h0, h1, h2, h3) v ∧ Tb k σ' ta cy cn (uZ F (plQ (h0, h1, h2, h3)) v) ∧ Fr σ σ' ta (ta + 4)) 0 0) 217 [some (.ref (ta + 8)), some (.int (iZ (h0 : Int))), some (.int (iZ (h1 : Int))), some (.int (iZ (h2 : Int))), some (.int (iZ (h3 : Int))), some (.int (iZ ((plQ (h0, h1, h2, h3) : Nat) : Int))), some (.int (iZ (fl : Int))), some (.int (iZ (Q : Int)))] [] σc := by
    intro Q hQ hfew σc g tk hF1 hO hH hT htk hHT hfr
    refine r_aload_n S dX4_learnOne_217 rfl ?_
    refine r_getf S g_RX4_15_4 dX4_learnOne_218 (by repeat (first | assumption | exact sUp_same | exact sNew_same | refine sUp_ne (by first | assumption | omega) ?_)) rfl ?_
    refine r_iload S dX4_learnOne_221 rfl ?_
    refine r_iload S dX4_learnOne_223 rfl ?_
    refine r_iastN S (plQ (h0, h1, h2, h3)) dX4_learnOne_225 (by repeat (first | assumption | exact sUp_same | exact sNew_same | refine sUp_ne (by first | assumption | omega) ?_)) (by rfl) (by omega) (by decide) ?_
    rw [uZ_uZ]
    exact r_vret S dX4_learnOne_226 (by omega) (by omega) (⟨rfl, Q, hfew, ⟨sUp_same, uZ_rng hFr ⟨by omega, by omega⟩, ⟨g, sUp_ne (by omega) hO⟩, ⟨hv, fun j h8 h9 => by rw [hhv j h9, qat_hi h8]; rfl, sUp_ne (by omega) hH⟩, tk, htk, sUp_ne (by omega) hT⟩, hfr.up (by omega) (by omega)⟩)
  have hFm := Fm_tab hd h16 hok
  intro m
  induction m with
  | zero =>
    intro Q hQ hQ1 hno σc g tk hF1 hO hH hT htk hHT hfr
    refine r_iload S dX4_learnOne_190 rfl ?_
    refine r_bipush S dX4_learnOne_192 (by decide) ?_
    refine r_icmp_ge S dX4_learnOne_194 (tgt := 217) (by decide) ⟨by omega, by omega⟩ ⟨by omega, by omega⟩ (fun h_194 => ?_) (fun h_194 => ?_)
    · refine fin Q (by omega) ?_ σc g tk hF1 hO hH hT htk hHT hfr
      rw [show Q = 13 by omega] at hno ⊢
      exact few_13 hno
    · omega
  | succ m ih =>
    intro Q hQ hQ1 hno σc g tk hF1 hO hH hT htk hHT hfr
    have hwi := walk_iff (q := Q - 1) hd h16 h2q hok (by omega) hno
    rw [show Q - 1 + 1 = Q by omega] at hwi
    refine r_iload S dX4_learnOne_190 rfl ?_
    refine r_bipush S dX4_learnOne_192 (by decide) ?_
    refine r_icmp_ge S dX4_learnOne_194 (tgt := 217) (by decide) ⟨by omega, by omega⟩ ⟨by omega, by omega⟩ (fun h_194 => ?_) (fun h_194 => ?_)
    · omega
    · refine r_aload_n S dX4_learnOne_197 rfl ?_
      refine r_getf S g_RX4_18_4 dX4_learnOne_198 (by repeat (first | assumption | exact sUp_same | exact sNew_same | refine sUp_ne (by first | assumption | omega) ?_)) rfl ?_
      refine r_iload S dX4_learnOne_201 rfl ?_
      refine r_iconst S dX4_learnOne_203 ?_
      refine r_isub S dX4_learnOne_204 ?_
      refine r_num (z' := ((Q - 1 : Nat) : Int)) (by omega) ?_
      refine r_callU S (c_walk0 hF1 (uZ_rng hFr ⟨by decide, by decide⟩) hO ⟨by omega, by omega⟩ hcy hcn hH hhv hT htk hd h16 hFm) k_mX5_walk c_RX4_51_0 dX4_learnOne_205 (by decide) ⟨by omega, by omega⟩ (by repeat (first | assumption | exact sUp_same | exact sNew_same | refine sUp_ne (by first | assumption | omega) ?_)) rfl rfl (Nat.le_of_ble_eq_true rfl) (fun r σ' hp => ?_)
      obtain ⟨_, rfl, rfl, tk3, htk3, rfl⟩ := hp
      try simp only [Option.toList_some, Option.toList_none, List.cons_append, List.nil_append]
      refine r_if_ne S dX4_learnOne_208 (tgt := 217) (by decide) (bP_R _) (fun h_208 => ?_) (fun h_208 => ?_)
      · have h_208 := hwi.mp (Classical.not_not.mp (fun h8 => h_208 ((bP_z _).mpr h8)))
        refine fin Q (by omega) ?_ _ _ tk3 (sUp_ne (by omega) (sUp_ne (by omega) hF1)) (sUp_ne (by omega) sUp_same) (sUp_ne (by omega) (sUp_ne (by omega) hH)) sUp_same htk3 (sUp_ne (by omega) (sUp_ne (by omega) hHT)) ((hfr.up (by omega) (by omega)).up (by omega) (by omega))
        have h9 := few_of (q := Q - 1) (by omega) hno (by rw [show Q - 1 + 1 = Q by omega]; exact h_208)
        rw [show Q - 1 + 1 = Q by omega] at h9
        exact h9
      · rw [bP_z, hwi] at h_208
        refine r_iinc S dX4_learnOne_211 rfl rfl (by decide) (lv' := [_, _, _, _, _, _, _, _]) rfl ?_
        refine r_goto S dX4_learnOne_214 (tgt := 190) (by decide) ?_
        exact ih (Q + 1) (by omega) (by omega) (by rw [show Q + 1 - 1 = Q by omega]; exact h_208) _ _ tk3 (sUp_ne (by omega) (sUp_ne (by omega) hF1)) (sUp_ne (by omega) sUp_same) (sUp_ne (by omega) (sUp_ne (by omega) hH)) sUp_same htk3 (sUp_ne (by omega) (sUp_ne (by omega) hHT)) ((hfr.up (by omega) (by omega)).up (by omega) (by omega))

set_option maxRecDepth 100000 in
set_option maxHeartbeats 4000000 in
theorem s_learn165 {κ : Kx} {k : Cx} {σ : St} {ta : Nat} {cy cn h0 h1 h2 h3 : Nat} (hcy : 1 ≤ cy ∧ cy ≤ 4) (hcn : 1 ≤ cn ∧ cn ≤ 4) (hd : Dec (h0, h1, h2, h3)) (h16 : h0 ≤ 16) {F : Nat → Int} (hFr : ∀ j, 0 ≤ F j ∧ F j ≤ 13) (hok : TabOk cy cn F (h0, h1, h2, h3)) (h2q : 2 ≤ h0) {g : Int} {hv tk : Nat → Int} (hF : σ.2 ta = some (eI k 4845 F)) (hO : σ.2 (ta + 1) = some (oAny ta cy cn g)) (hH : σ.2 (ta + 2) = some (eI k 8 hv)) (hhv : ∀ j, 3 < j → j < 8 → hv j = 0) (hT : σ.2 (ta + 3) = some (eI k 8 tk)) (htk : ∀ j, 3 < j → j < 8 → tk j = 0) (hHT : σ.2 (ta + 8) = some (oHT ta)) (S : Ok κ k cX4_learnOne 8 RX4 none "learnOne" 8 0 0) : ∀ fl : Nat, Lo cy cn (h0, h1, h2, h3) fl → V κ k 8 0 0 (QR κ k (fun r σ' => r = none ∧ ∃ v : Nat, IsFew cy cn (h0, h1, h2, h3) v ∧ Tb k σ' ta cy cn (uZ F (plQ (h0, h1, h2, h3)) v) ∧ Fr σ σ' ta (ta + 4)) 0 0) 165 [some (.ref (ta + 8)), some (.int (iZ (h0 : Int))), some (.int (iZ (h1 : Int))), some (.int (iZ (h2 : Int))), some (.int (iZ (h3 : Int))), some (.int (iZ ((plQ (h0, h1, h2, h3) : Nat) : Int))), some (.int (iZ (fl : Int))), none] [] σ := by
  have hown : plQ (h0, h1, h2, h3) < 4845 := plQ_lt hd h16
  intro fl hlo
  obtain ⟨l1, l2, l3⟩ := hlo
  refine r_aload_n S dX4_learnOne_165 rfl ?_
  refine r_getf S g_RX4_15_4 dX4_learnOne_166 (by repeat (first | assumption | exact sUp_same | exact sNew_same | refine sUp_ne (by first | assumption | omega) ?_)) rfl ?_
  refine r_iload S dX4_learnOne_169 rfl ?_
  refine r_bipush S dX4_learnOne_171 (by decide) ?_
  refine r_iastN S (plQ (h0, h1, h2, h3)) dX4_learnOne_173 (by repeat (first | assumption | exact sUp_same | exact sNew_same | refine sUp_ne (by first | assumption | omega) ?_)) (by rfl) (by omega) (by decide) ?_
  refine r_aload_n S dX4_learnOne_174 rfl ?_
  refine r_getf S g_RX4_18_4 dX4_learnOne_175 (by repeat (first | assumption | exact sUp_same | exact sNew_same | refine sUp_ne (by first | assumption | omega) ?_)) rfl ?_
  refine r_iload_n S dX4_learnOne_178 rfl ?_
  refine r_iload_n S dX4_learnOne_179 rfl ?_
  refine r_iload_n S dX4_learnOne_180 rfl ?_
  refine r_iload S dX4_learnOne_181 rfl ?_
  refine r_callV S (c_hold (sUp_ne (by omega) hO) (sUp_ne (by omega) hH) hhv) k_mX0_hold c_RX4_46_0 dX4_learnOne_183 (by decide) ⟨by omega, by omega⟩ (by repeat (first | assumption | exact sUp_same | exact sNew_same | refine sUp_ne (by first | assumption | omega) ?_)) rfl rfl (Nat.le_of_ble_eq_true rfl) (fun r σ' hp => ?_)
  obtain ⟨rfl, hv2, hhv2, rfl⟩ := hp
  try simp only [Option.toList_some, Option.toList_none, List.cons_append, List.nil_append]
  refine r_iload S dX4_learnOne_186 rfl ?_
  refine r_istore S dX4_learnOne_188 rfl (by decide) (lv' := [_, _, _, _, _, _, _, _]) rfl ?_
  exact l_learnOne hcy hcn hd h16 hFr hok h2q hhv2 S (13 - fl) fl (by omega) l1 l3 _ g tk (sUp_ne (by omega) sUp_same) (sUp_ne (by omega) (sUp_ne (by omega) hO)) sUp_same (sUp_ne (by omega) (sUp_ne (by omega) hT)) htk (sUp_ne (by omega) (sUp_ne (by omega) hHT)) ((Fr.refl.up (by omega) (by omega)).up (by omega) (by omega))

set_option maxRecDepth 100000 in
set_option maxHeartbeats 4000000 in
theorem s_learn136 {κ : Kx} {k : Cx} {σ : St} {ta : Nat} {cy cn h0 h1 h2 h3 : Nat} (hcy : 1 ≤ cy ∧ cy ≤ 4) (hcn : 1 ≤ cn ∧ cn ≤ 4) (hd : Dec (h0, h1, h2, h3)) (h16 : h0 ≤ 16) {F : Nat → Int} (hFr : ∀ j, 0 ≤ F j ∧ F j ≤ 13) (hok : TabOk cy cn F (h0, h1, h2, h3)) (h2q : 2 ≤ h0) {g : Int} {hv tk : Nat → Int} (hF : σ.2 ta = some (eI k 4845 F)) (hO : σ.2 (ta + 1) = some (oAny ta cy cn g)) (hH : σ.2 (ta + 2) = some (eI k 8 hv)) (hhv : ∀ j, 3 < j → j < 8 → hv j = 0) (hT : σ.2 (ta + 3) = some (eI k 8 tk)) (htk : ∀ j, 3 < j → j < 8 → tk j = 0) (hHT : σ.2 (ta + 8) = some (oHT ta)) (S : Ok κ k cX4_learnOne 8 RX4 none "learnOne" 8 0 0) : ∀ fl : Nat, Lo cy cn (h0, h1, h2, h3) fl → V κ k 8 0 0 (QR κ k (fun r σ' => r = none ∧ ∃ v : Nat, IsFew cy cn (h0, h1, h2, h3) v ∧ Tb k σ' ta cy cn (uZ F (plQ (h0, h1, h2, h3)) v) ∧ Fr σ σ' ta (ta + 4)) 0 0) 136 [some (.ref (ta + 8)), some (.int (iZ (h0 : Int))), some (.int (iZ (h1 : Int))), some (.int (iZ (h2 : Int))), some (.int (iZ (h3 : Int))), some (.int (iZ ((plQ (h0, h1, h2, h3) : Nat) : Int))), some (.int (iZ (fl : Int))), none] [] σ := by
  have hown : plQ (h0, h1, h2, h3) < 4845 := plQ_lt hd h16
  have hd9 := hd
  simp only [Dec] at hd9
  intro fl hlo
  obtain ⟨l1, l2, l3⟩ := id hlo
  refine r_iload S dX4_learnOne_136 rfl ?_
  refine r_iload S dX4_learnOne_138 rfl ?_
  refine r_if_le S dX4_learnOne_140 (tgt := 159) (by decide) ⟨by omega, by omega⟩ (fun h_140 => ?_) (fun h_140 => ?_)
  · refine r_iconst S dX4_learnOne_159 ?_
    refine r_mmax S wd_304 ks_max dX4_learnOne_160 (by decide) ⟨by omega, by omega⟩ ⟨by omega, by omega⟩ ⟨by omega, by omega⟩ (Nat.le_of_ble_eq_true rfl) ?_
    refine r_istore S dX4_learnOne_163 rfl (by decide) (lv' := [_, _, _, _, _, _, _, _]) rfl ?_
    rw [show max ((fl : Nat) : Int) 0 = (fl : Int) by omega]
    exact s_learn165 hcy hcn hd h16 hFr hok h2q hF hO hH hhv hT htk hHT S fl hlo
  · obtain ⟨c, hc⟩ : ∃ c, h3 = c + 1 := ⟨h3 - 1, by omega⟩
    have hgd : Dec (h0, h1, h2, h3 - 1) := by have h9 := hd; simp only [Dec] at h9 ⊢; omega
    have hgl : leQ (h0, h1, h2, h3 - 1) (h0, h1, h2, h3) := by simp only [leQ]; omega
    obtain ⟨w, hw1, hw2⟩ := hok (h0, h1, h2, h3 - 1) hgd hgl (by intro e; simp only [Prod.mk.injEq] at e; omega)
    have hgp := plQ_lt hgd (by simp only; omega)
    have hpp : plQ (h0, h1, h2, h3 - 1) + (PL 3 h3 - PL 3 (h3 - 1)) = plQ (h0, h1, h2, h3) := by
      have h9 := PL_le (l := 3) (by decide) (show h3 - 1 ≤ h3 by omega) (by have h8 := hd; simp only [Dec] at h8; omega)
      simp only [plQ]
      omega
    have hpl := PL_le (l := 3) (by decide) (show h3 - 1 ≤ h3 by omega) (by have h8 := hd; simp only [Dec] at h8; omega)
    have hw3 := hw2.1
    refine r_aload_n S dX4_learnOne_143 rfl ?_
    refine r_iload S dX4_learnOne_144 rfl ?_
    refine r_iconst S dX4_learnOne_146 ?_
    refine r_iload S dX4_learnOne_147 rfl ?_
    refine r_callS S (c_stepTo (l := 3) (c := c) (by rfl) (by omega) (by decide) (by have h8 := hd; simp only [Dec] at h8; omega)) k_mX4_stepTo c_RX4_43 dX4_learnOne_149 (by decide) ⟨by omega, by omega⟩ rfl rfl (Nat.le_of_ble_eq_true rfl) (fun r σ' hp => ?_)
    obtain ⟨_, rfl, rfl, rfl⟩ := hp
    try simp only [Option.toList_some, Option.toList_none, List.cons_append, List.nil_append]
    rw [show c = h3 - 1 by omega, show h3 - 1 + 1 = h3 by omega]
    refine r_isub S dX4_learnOne_152 ?_
    refine r_callV S (c_fewAt hF hHT (p := plQ (h0, h1, h2, h3 - 1)) (by omega) hgp) k_mX4_fewAt c_RX4_39_4 dX4_learnOne_153 (by decide) ⟨by omega, by omega⟩ (by repeat (first | assumption | exact sUp_same | exact sNew_same | refine sUp_ne (by first | assumption | omega) ?_)) rfl rfl (Nat.le_of_ble_eq_true rfl) (fun r σ' hp => ?_)
    obtain ⟨_, rfl, rfl, rfl⟩ := hp
    try simp only [Option.toList_some, Option.toList_none, List.cons_append, List.nil_append]
    rw [hw1]
    refine r_goto S dX4_learnOne_156 (tgt := 160) (by decide) ?_
    refine r_mmax S wd_304 ks_max dX4_learnOne_160 (by decide) ⟨by omega, by omega⟩ ⟨by omega, by omega⟩ ⟨by omega, by omega⟩ (Nat.le_of_ble_eq_true rfl) ?_
    refine r_istore S dX4_learnOne_163 rfl (by decide) (lv' := [_, _, _, _, _, _, _, _]) rfl ?_
    rw [show max ((fl : Nat) : Int) ((w : Nat) : Int) = ((max fl w : Nat) : Int) by omega]
    exact s_learn165 hcy hcn hd h16 hFr hok h2q hF hO hH hhv hT htk hHT S (max fl w) (Lo_max hlo hgd hgl hw2)

set_option maxRecDepth 100000 in
set_option maxHeartbeats 4000000 in
theorem s_learn107 {κ : Kx} {k : Cx} {σ : St} {ta : Nat} {cy cn h0 h1 h2 h3 : Nat} (hcy : 1 ≤ cy ∧ cy ≤ 4) (hcn : 1 ≤ cn ∧ cn ≤ 4) (hd : Dec (h0, h1, h2, h3)) (h16 : h0 ≤ 16) {F : Nat → Int} (hFr : ∀ j, 0 ≤ F j ∧ F j ≤ 13) (hok : TabOk cy cn F (h0, h1, h2, h3)) (h2q : 2 ≤ h0) {g : Int} {hv tk : Nat → Int} (hF : σ.2 ta = some (eI k 4845 F)) (hO : σ.2 (ta + 1) = some (oAny ta cy cn g)) (hH : σ.2 (ta + 2) = some (eI k 8 hv)) (hhv : ∀ j, 3 < j → j < 8 → hv j = 0) (hT : σ.2 (ta + 3) = some (eI k 8 tk)) (htk : ∀ j, 3 < j → j < 8 → tk j = 0) (hHT : σ.2 (ta + 8) = some (oHT ta)) (S : Ok κ k cX4_learnOne 8 RX4 none "learnOne" 8 0 0) : ∀ fl : Nat, Lo cy cn (h0, h1, h2, h3) fl → V κ k 8 0 0 (QR κ k (fun r σ' => r = none ∧ ∃ v : Nat, IsFew cy cn (h0, h1, h2, h3) v ∧ Tb k σ' ta cy cn (uZ F (plQ (h0, h1, h2, h3)) v) ∧ Fr σ σ' ta (ta + 4)) 0 0) 107 [some (.ref (ta + 8)), some (.int (iZ (h0 : Int))), some (.int (iZ (h1 : Int))), some (.int (iZ (h2 : Int))), some (.int (iZ (h3 : Int))), some (.int (iZ ((plQ (h0, h1, h2, h3) : Nat) : Int))), some (.int (iZ (fl : Int))), none] [] σ := by
  have hown : plQ (h0, h1, h2, h3) < 4845 := plQ_lt hd h16
  have hd9 := hd
  simp only [Dec] at hd9
  intro fl hlo
  obtain ⟨l1, l2, l3⟩ := id hlo
  refine r_iload S dX4_learnOne_107 rfl ?_
  refine r_iload_n S dX4_learnOne_109 rfl ?_
  refine r_iload S dX4_learnOne_110 rfl ?_
  refine r_icmp_le S dX4_learnOne_112 (tgt := 130) (by decide) ⟨by omega, by omega⟩ ⟨by omega, by omega⟩ (fun h_112 => ?_) (fun h_112 => ?_)
  · refine r_iconst S dX4_learnOne_130 ?_
    refine r_mmax S wd_304 ks_max dX4_learnOne_131 (by decide) ⟨by omega, by omega⟩ ⟨by omega, by omega⟩ ⟨by omega, by omega⟩ (Nat.le_of_ble_eq_true rfl) ?_
    refine r_istore S dX4_learnOne_134 rfl (by decide) (lv' := [_, _, _, _, _, _, _, _]) rfl ?_
    rw [show max ((fl : Nat) : Int) 0 = (fl : Int) by omega]
    exact s_learn136 hcy hcn hd h16 hFr hok h2q hF hO hH hhv hT htk hHT S fl hlo
  · obtain ⟨c, hc⟩ : ∃ c, h2 = c + 1 := ⟨h2 - 1, by omega⟩
    have hgd : Dec (h0, h1, h2 - 1, h3) := by have h9 := hd; simp only [Dec] at h9 ⊢; omega
    have hgl : leQ (h0, h1, h2 - 1, h3) (h0, h1, h2, h3) := by simp only [leQ]; omega
    obtain ⟨w, hw1, hw2⟩ := hok (h0, h1, h2 - 1, h3) hgd hgl (by intro e; simp only [Prod.mk.injEq] at e; omega)
    have hgp := plQ_lt hgd (by simp only; omega)
    have hpp : plQ (h0, h1, h2 - 1, h3) + (PL 2 h2 - PL 2 (h2 - 1)) = plQ (h0, h1, h2, h3) := by
      have h9 := PL_le (l := 2) (by decide) (show h2 - 1 ≤ h2 by omega) (by have h8 := hd; simp only [Dec] at h8; omega)
      simp only [plQ]
      omega
    have hpl := PL_le (l := 2) (by decide) (show h2 - 1 ≤ h2 by omega) (by have h8 := hd; simp only [Dec] at h8; omega)
    have hw3 := hw2.1
    refine r_aload_n S dX4_learnOne_115 rfl ?_
    refine r_iload S dX4_learnOne_116 rfl ?_
    refine r_iconst S dX4_learnOne_118 ?_
    refine r_iload_n S dX4_learnOne_119 rfl ?_
    refine r_callS S (c_stepTo (l := 2) (c := c) (by rfl) (by omega) (by decide) (by have h8 := hd; simp only [Dec] at h8; omega)) k_mX4_stepTo c_RX4_43 dX4_learnOne_120 (by decide) ⟨by omega, by omega⟩ rfl rfl (Nat.le_of_ble_eq_true rfl) (fun r σ' hp => ?_)
    obtain ⟨_, rfl, rfl, rfl⟩ := hp
    try simp only [Option.toList_some, Option.toList_none, List.cons_append, List.nil_append]
    rw [show c = h2 - 1 by omega, show h2 - 1 + 1 = h2 by omega]
    refine r_isub S dX4_learnOne_123 ?_
    refine r_callV S (c_fewAt hF hHT (p := plQ (h0, h1, h2 - 1, h3)) (by omega) hgp) k_mX4_fewAt c_RX4_39_4 dX4_learnOne_124 (by decide) ⟨by omega, by omega⟩ (by repeat (first | assumption | exact sUp_same | exact sNew_same | refine sUp_ne (by first | assumption | omega) ?_)) rfl rfl (Nat.le_of_ble_eq_true rfl) (fun r σ' hp => ?_)
    obtain ⟨_, rfl, rfl, rfl⟩ := hp
    try simp only [Option.toList_some, Option.toList_none, List.cons_append, List.nil_append]
    rw [hw1]
    refine r_goto S dX4_learnOne_127 (tgt := 131) (by decide) ?_
    refine r_mmax S wd_304 ks_max dX4_learnOne_131 (by decide) ⟨by omega, by omega⟩ ⟨by omega, by omega⟩ ⟨by omega, by omega⟩ (Nat.le_of_ble_eq_true rfl) ?_
    refine r_istore S dX4_learnOne_134 rfl (by decide) (lv' := [_, _, _, _, _, _, _, _]) rfl ?_
    rw [show max ((fl : Nat) : Int) ((w : Nat) : Int) = ((max fl w : Nat) : Int) by omega]
    exact s_learn136 hcy hcn hd h16 hFr hok h2q hF hO hH hhv hT htk hHT S (max fl w) (Lo_max hlo hgd hgl hw2)

set_option maxRecDepth 100000 in
set_option maxHeartbeats 4000000 in
theorem s_learn79 {κ : Kx} {k : Cx} {σ : St} {ta : Nat} {cy cn h0 h1 h2 h3 : Nat} (hcy : 1 ≤ cy ∧ cy ≤ 4) (hcn : 1 ≤ cn ∧ cn ≤ 4) (hd : Dec (h0, h1, h2, h3)) (h16 : h0 ≤ 16) {F : Nat → Int} (hFr : ∀ j, 0 ≤ F j ∧ F j ≤ 13) (hok : TabOk cy cn F (h0, h1, h2, h3)) (h2q : 2 ≤ h0) {g : Int} {hv tk : Nat → Int} (hF : σ.2 ta = some (eI k 4845 F)) (hO : σ.2 (ta + 1) = some (oAny ta cy cn g)) (hH : σ.2 (ta + 2) = some (eI k 8 hv)) (hhv : ∀ j, 3 < j → j < 8 → hv j = 0) (hT : σ.2 (ta + 3) = some (eI k 8 tk)) (htk : ∀ j, 3 < j → j < 8 → tk j = 0) (hHT : σ.2 (ta + 8) = some (oHT ta)) (S : Ok κ k cX4_learnOne 8 RX4 none "learnOne" 8 0 0) : ∀ fl : Nat, Lo cy cn (h0, h1, h2, h3) fl → V κ k 8 0 0 (QR κ k (fun r σ' => r = none ∧ ∃ v : Nat, IsFew cy cn (h0, h1, h2, h3) v ∧ Tb k σ' ta cy cn (uZ F (plQ (h0, h1, h2, h3)) v) ∧ Fr σ σ' ta (ta + 4)) 0 0) 79 [some (.ref (ta + 8)), some (.int (iZ (h0 : Int))), some (.int (iZ (h1 : Int))), some (.int (iZ (h2 : Int))), some (.int (iZ (h3 : Int))), some (.int (iZ ((plQ (h0, h1, h2, h3) : Nat) : Int))), some (.int (iZ (fl : Int))), none] [] σ := by
  have hown : plQ (h0, h1, h2, h3) < 4845 := plQ_lt hd h16
  have hd9 := hd
  simp only [Dec] at hd9
  intro fl hlo
  obtain ⟨l1, l2, l3⟩ := id hlo
  refine r_iload S dX4_learnOne_79 rfl ?_
  refine r_iload_n S dX4_learnOne_81 rfl ?_
  refine r_iload_n S dX4_learnOne_82 rfl ?_
  refine r_icmp_le S dX4_learnOne_83 (tgt := 101) (by decide) ⟨by omega, by omega⟩ ⟨by omega, by omega⟩ (fun h_83 => ?_) (fun h_83 => ?_)
  · refine r_iconst S dX4_learnOne_101 ?_
    refine r_mmax S wd_304 ks_max dX4_learnOne_102 (by decide) ⟨by omega, by omega⟩ ⟨by omega, by omega⟩ ⟨by omega, by omega⟩ (Nat.le_of_ble_eq_true rfl) ?_
    refine r_istore S dX4_learnOne_105 rfl (by decide) (lv' := [_, _, _, _, _, _, _, _]) rfl ?_
    rw [show max ((fl : Nat) : Int) 0 = (fl : Int) by omega]
    exact s_learn107 hcy hcn hd h16 hFr hok h2q hF hO hH hhv hT htk hHT S fl hlo
  · obtain ⟨c, hc⟩ : ∃ c, h1 = c + 1 := ⟨h1 - 1, by omega⟩
    have hgd : Dec (h0, h1 - 1, h2, h3) := by have h9 := hd; simp only [Dec] at h9 ⊢; omega
    have hgl : leQ (h0, h1 - 1, h2, h3) (h0, h1, h2, h3) := by simp only [leQ]; omega
    obtain ⟨w, hw1, hw2⟩ := hok (h0, h1 - 1, h2, h3) hgd hgl (by intro e; simp only [Prod.mk.injEq] at e; omega)
    have hgp := plQ_lt hgd (by simp only; omega)
    have hpp : plQ (h0, h1 - 1, h2, h3) + (PL 1 h1 - PL 1 (h1 - 1)) = plQ (h0, h1, h2, h3) := by
      have h9 := PL_le (l := 1) (by decide) (show h1 - 1 ≤ h1 by omega) (by have h8 := hd; simp only [Dec] at h8; omega)
      simp only [plQ]
      omega
    have hpl := PL_le (l := 1) (by decide) (show h1 - 1 ≤ h1 by omega) (by have h8 := hd; simp only [Dec] at h8; omega)
    have hw3 := hw2.1
    refine r_aload_n S dX4_learnOne_86 rfl ?_
    refine r_iload S dX4_learnOne_87 rfl ?_
    refine r_iconst S dX4_learnOne_89 ?_
    refine r_iload_n S dX4_learnOne_90 rfl ?_
    refine r_callS S (c_stepTo (l := 1) (c := c) (by rfl) (by omega) (by decide) (by have h8 := hd; simp only [Dec] at h8; omega)) k_mX4_stepTo c_RX4_43 dX4_learnOne_91 (by decide) ⟨by omega, by omega⟩ rfl rfl (Nat.le_of_ble_eq_true rfl) (fun r σ' hp => ?_)
    obtain ⟨_, rfl, rfl, rfl⟩ := hp
    try simp only [Option.toList_some, Option.toList_none, List.cons_append, List.nil_append]
    rw [show c = h1 - 1 by omega, show h1 - 1 + 1 = h1 by omega]
    refine r_isub S dX4_learnOne_94 ?_
    refine r_callV S (c_fewAt hF hHT (p := plQ (h0, h1 - 1, h2, h3)) (by omega) hgp) k_mX4_fewAt c_RX4_39_4 dX4_learnOne_95 (by decide) ⟨by omega, by omega⟩ (by repeat (first | assumption | exact sUp_same | exact sNew_same | refine sUp_ne (by first | assumption | omega) ?_)) rfl rfl (Nat.le_of_ble_eq_true rfl) (fun r σ' hp => ?_)
    obtain ⟨_, rfl, rfl, rfl⟩ := hp
    try simp only [Option.toList_some, Option.toList_none, List.cons_append, List.nil_append]
    rw [hw1]
    refine r_goto S dX4_learnOne_98 (tgt := 102) (by decide) ?_
    refine r_mmax S wd_304 ks_max dX4_learnOne_102 (by decide) ⟨by omega, by omega⟩ ⟨by omega, by omega⟩ ⟨by omega, by omega⟩ (Nat.le_of_ble_eq_true rfl) ?_
    refine r_istore S dX4_learnOne_105 rfl (by decide) (lv' := [_, _, _, _, _, _, _, _]) rfl ?_
    rw [show max ((fl : Nat) : Int) ((w : Nat) : Int) = ((max fl w : Nat) : Int) by omega]
    exact s_learn107 hcy hcn hd h16 hFr hok h2q hF hO hH hhv hT htk hHT S (max fl w) (Lo_max hlo hgd hgl hw2)

set_option maxRecDepth 100000 in
set_option maxHeartbeats 4000000 in
theorem c_learnOne {k : Cx} {L0 : Launch} {σ : St} {ta : Nat} {cy cn h0 h1 h2 h3 : Nat} (hcy : 1 ≤ cy ∧ cy ≤ 4) (hcn : 1 ≤ cn ∧ cn ≤ 4) (hd : Dec (h0, h1, h2, h3)) (h16 : h0 ≤ 16) {F : Nat → Int} (hFr : ∀ j, 0 ≤ F j ∧ F j ≤ 13) (hok : TabOk cy cn F (h0, h1, h2, h3)) {g : Int} {hv tk : Nat → Int} (hF : σ.2 ta = some (eI k 4845 F)) (hO : σ.2 (ta + 1) = some (oAny ta cy cn g)) (hH : σ.2 (ta + 2) = some (eI k 8 hv)) (hhv : ∀ j, 3 < j → j < 8 → hv j = 0) (hT : σ.2 (ta + 3) = some (eI k 8 tk)) (htk : ∀ j, 3 < j → j < 8 → tk j = 0) (hHT : σ.2 (ta + 8) = some (oHT ta)) : CtrU k L0 mX4_learnOne 8 0 0 [.ref (ta + 8), .int (iZ (h0 : Int)), .int (iZ (h1 : Int)), .int (iZ (h2 : Int)), .int (iZ (h3 : Int))] σ (fun σ' => ∃ v : Nat, IsFew cy cn (h0, h1, h2, h3) v ∧ Tb k σ' ta cy cn (uZ F (plQ (h0, h1, h2, h3)) v) ∧ Fr σ σ' ta (ta + 4)) := by
  refine Ctr.of (by decide +kernel) rfl (Nat.le_of_ble_eq_true rfl) ?_
  intro κ hl0 S
  subst hl0
  have hown : plQ (h0, h1, h2, h3) < 4845 := plQ_lt hd h16
  have hd9 := hd
  simp only [Dec] at hd9
  refine r_iload_n S dX4_learnOne_0 rfl ?_
  refine r_iconst S dX4_learnOne_1 ?_
  refine r_iload_n S dX4_learnOne_2 rfl ?_
  refine r_callSN S (c_placeOf (l := 1) (c := h1) (by rfl) (by rfl) (by decide) (by omega)) k_mX11_placeOf c_RX4_36 dX4_learnOne_3 (by decide) ⟨by omega, by omega⟩ rfl rfl (Nat.le_of_ble_eq_true rfl) (fun r σ' hp => ?_)
  obtain ⟨_, rfl, rfl, rfl⟩ := hp
  try simp only [Option.toList_some, Option.toList_none, List.cons_append, List.nil_append]
  refine r_iadd S dX4_learnOne_6 ?_
  refine r_iconst S dX4_learnOne_7 ?_
  refine r_iload_n S dX4_learnOne_8 rfl ?_
  refine r_callSN S (c_placeOf (l := 2) (c := h2) (by rfl) (by rfl) (by decide) (by omega)) k_mX11_placeOf c_RX4_36 dX4_learnOne_9 (by decide) ⟨by omega, by omega⟩ rfl rfl (Nat.le_of_ble_eq_true rfl) (fun r σ' hp => ?_)
  obtain ⟨_, rfl, rfl, rfl⟩ := hp
  try simp only [Option.toList_some, Option.toList_none, List.cons_append, List.nil_append]
  refine r_iadd S dX4_learnOne_12 ?_
  refine r_iconst S dX4_learnOne_13 ?_
  refine r_iload S dX4_learnOne_14 rfl ?_
  refine r_callSN S (c_placeOf (l := 3) (c := h3) (by rfl) (by rfl) (by decide) (by omega)) k_mX11_placeOf c_RX4_36 dX4_learnOne_16 (by decide) ⟨by omega, by omega⟩ rfl rfl (Nat.le_of_ble_eq_true rfl) (fun r σ' hp => ?_)
  obtain ⟨_, rfl, rfl, rfl⟩ := hp
  try simp only [Option.toList_some, Option.toList_none, List.cons_append, List.nil_append]
  refine r_iadd S dX4_learnOne_19 ?_
  refine r_num (z' := ((plQ (h0, h1, h2, h3) : Nat) : Int)) (by simp only [plQ]; omega) ?_
  refine r_istore S dX4_learnOne_20 rfl (by decide) (lv' := [_, _, _, _, _, _, _, _]) rfl ?_
  refine r_iload S dX4_learnOne_22 rfl ?_
  refine r_if_lt S dX4_learnOne_24 (tgt := 37) (by decide) ⟨by omega, by omega⟩ (fun h_24 => ?_) (fun h_24 => ?_)
  · omega
  · refine r_iload S dX4_learnOne_27 rfl ?_
    refine r_aload_n S dX4_learnOne_29 rfl ?_
    refine r_getf S g_RX4_15_4 dX4_learnOne_30 (by repeat (first | assumption | exact sUp_same | exact sNew_same | refine sUp_ne (by first | assumption | omega) ?_)) rfl ?_
    refine r_alenI S dX4_learnOne_33 (by repeat (first | assumption | exact sUp_same | exact sNew_same | refine sUp_ne (by first | assumption | omega) ?_)) ?_
    refine r_icmp_lt S dX4_learnOne_34 (tgt := 38) (by decide) ⟨by omega, by omega⟩ ⟨by omega, by omega⟩ (fun h_34 => ?_) (fun h_34 => ?_)
    · refine r_iload_n S dX4_learnOne_38 rfl ?_
      refine r_iconst S dX4_learnOne_39 ?_
      refine r_icmp_gt S dX4_learnOne_40 (tgt := 52) (by decide) ⟨by omega, by omega⟩ ⟨by omega, by omega⟩ (fun h_40 => ?_) (fun h_40 => ?_)
      · have h2q : 2 ≤ h0 := by omega
        have hlo : Lo cy cn (h0, h1, h2, h3) 1 := ⟨Nat.le_refl _, by decide, fun hz => by have h8 : h0 ≤ 1 := hz; omega⟩
        refine r_iconst S dX4_learnOne_52 ?_
        refine r_istore S dX4_learnOne_53 rfl (by decide) (lv' := [_, _, _, _, _, _, _, _]) rfl ?_
        refine r_iload S dX4_learnOne_55 rfl ?_
        refine r_iload_n S dX4_learnOne_57 rfl ?_
        refine r_iload_n S dX4_learnOne_58 rfl ?_
        refine r_icmp_le S dX4_learnOne_59 (tgt := 73) (by decide) ⟨by omega, by omega⟩ ⟨by omega, by omega⟩ (fun h_59 => ?_) (fun h_59 => ?_)
        · refine r_iconst S dX4_learnOne_73 ?_
          refine r_mmax S wd_304 ks_max dX4_learnOne_74 (by decide) ⟨by omega, by omega⟩ ⟨by omega, by omega⟩ ⟨by omega, by omega⟩ (Nat.le_of_ble_eq_true rfl) ?_
          refine r_istore S dX4_learnOne_77 rfl (by decide) (lv' := [_, _, _, _, _, _, _, _]) rfl ?_
          rw [show max (1 : Int) 0 = ((1 : Nat) : Int) by decide]
          exact s_learn79 hcy hcn hd h16 hFr hok h2q hF hO hH hhv hT htk hHT S 1 hlo
        · have hgd : Dec (h0 - 1, h1, h2, h3) := by have h9 := hd; simp only [Dec] at h9 ⊢; omega
          have hgl : leQ (h0 - 1, h1, h2, h3) (h0, h1, h2, h3) := by simp only [leQ]; omega
          obtain ⟨w, hw1, hw2⟩ := hok (h0 - 1, h1, h2, h3) hgd hgl (by intro e; simp only [Prod.mk.injEq] at e; omega)
          have hgp := plQ_lt hgd (by simp only; omega)
          have hpp : plQ (h0 - 1, h1, h2, h3) + 1 = plQ (h0, h1, h2, h3) := by simp only [plQ]; omega
          have hw3 := hw2.1
          refine r_aload_n S dX4_learnOne_62 rfl ?_
          refine r_iload S dX4_learnOne_63 rfl ?_
          refine r_iconst S dX4_learnOne_65 ?_
          refine r_isub S dX4_learnOne_66 ?_
          refine r_callV S (c_fewAt hF hHT (p := plQ (h0 - 1, h1, h2, h3)) (by omega) hgp) k_mX4_fewAt c_RX4_39_4 dX4_learnOne_67 (by decide) ⟨by omega, by omega⟩ (by repeat (first | assumption | exact sUp_same | exact sNew_same | refine sUp_ne (by first | assumption | omega) ?_)) rfl rfl (Nat.le_of_ble_eq_true rfl) (fun r σ' hp => ?_)
          obtain ⟨_, rfl, rfl, rfl⟩ := hp
          try simp only [Option.toList_some, Option.toList_none, List.cons_append, List.nil_append]
          rw [hw1]
          refine r_goto S dX4_learnOne_70 (tgt := 74) (by decide) ?_
          refine r_mmax S wd_304 ks_max dX4_learnOne_74 (by decide) ⟨by omega, by omega⟩ ⟨by omega, by omega⟩ ⟨by omega, by omega⟩ (Nat.le_of_ble_eq_true rfl) ?_
          refine r_istore S dX4_learnOne_77 rfl (by decide) (lv' := [_, _, _, _, _, _, _, _]) rfl ?_
          rw [show max (1 : Int) ((w : Nat) : Int) = ((max 1 w : Nat) : Int) by omega]
          exact s_learn79 hcy hcn hd h16 hFr hok h2q hF hO hH hhv hT htk hHT S (max 1 w) (Lo_max hlo hgd hgl hw2)
      · refine r_aload_n S dX4_learnOne_43 rfl ?_
        refine r_getf S g_RX4_15_4 dX4_learnOne_44 (by repeat (first | assumption | exact sUp_same | exact sNew_same | refine sUp_ne (by first | assumption | omega) ?_)) rfl ?_
        refine r_iload S dX4_learnOne_47 rfl ?_
        refine r_iconst S dX4_learnOne_49 ?_
        refine r_iastN S (plQ (h0, h1, h2, h3)) dX4_learnOne_50 (by repeat (first | assumption | exact sUp_same | exact sNew_same | refine sUp_ne (by first | assumption | omega) ?_)) (by rfl) (by omega) (by decide) ?_
        exact r_vret S dX4_learnOne_51 (by omega) (by omega) (⟨rfl, 0, few_small (by simp only; omega), ⟨sUp_same, uZ_rng hFr ⟨by decide, by decide⟩, ⟨g, sUp_ne (by omega) hO⟩, ⟨hv, hhv, sUp_ne (by omega) hH⟩, tk, htk, sUp_ne (by omega) hT⟩, Fr.refl.up (by omega) (by omega)⟩)
    · omega
