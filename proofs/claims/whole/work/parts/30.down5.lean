theorem pl_key {cy cn : Nat} {h : Q4} {t1 t2 t3 : Nat} (hcy : 1 ≤ cy) (hcn : 1 ≤ cn) (hd : Dec h) (hs : Spl h (t1, t1, t2, t3)) {x : Nat} (hx : x ≤ h.1 - h.2.1) : plQ (yS cy h (t1 + x, t1, t2, t3)) = plQ (yS cy h (t1, t1, t2, t3)) + x ∧ plQ (nS cn h (t1 + x, t1, t2, t3)) = plQ (nS cn h (t1, t1, t2, t3)) - x := by
  obtain ⟨c, rfl⟩ : ∃ c, cy = c + 1 := ⟨cy - 1, by omega⟩
  obtain ⟨d, rfl⟩ : ∃ d, cn = d + 1 := ⟨cn - 1, by omega⟩
  have a1 : ∀ i, qat (subQ h (t1 + x, t1, t2, t3)) (i + (c + 1)) = qat (subQ h (t1, t1, t2, t3)) (i + (c + 1)) := by
    intro i
    rw [qat_sub, qat_sub, ← Nat.add_assoc]
    rcases i + c with _ | _ | _ | _ | _ <;> rfl
  have a2 : ∀ i, qat (t1 + x, t1, t2, t3) (i + (d + 1)) = qat (t1, t1, t2, t3) (i + (d + 1)) := by
    intro i
    rw [← Nat.add_assoc]
    rcases i + d with _ | _ | _ | _ | _ <;> rfl
  have b0 := a1 0
  have b1 := a2 0
  rw [Nat.zero_add] at b0 b1
  have hl := hs.2.2
  have hu := hs.2.1
  simp only [leQ] at hl
  simp only [Dec, subQ] at hu
  simp only [Dec] at hd
  constructor
  · simp only [plQ, yS, bhQ, a1, b0]; omega
  · simp only [plQ, nS, bhQ, a2, b1, subQ]; omega
def T0 (F : Nat → Int) (g : Int) (cy cn : Nat) (h : Q4) (t1 t2 t3 : Nat) (t : Q4) : Prop := ∃ x, x ≤ h.1 - h.2.1 ∧ t = (t1 + x, t1, t2, t3) ∧ OKt F g cy cn h t
def T1 (F : Nat → Int) (g : Int) (cy cn : Nat) (h : Q4) (t2 t3 : Nat) (t : Q4) : Prop := ∃ x, x ≤ h.2.1 - h.2.2.1 ∧ T0 F g cy cn h (t2 + x) t2 t3 t
def T2 (F : Nat → Int) (g : Int) (cy cn : Nat) (h : Q4) (t3 : Nat) (t : Q4) : Prop := ∃ x, x ≤ h.2.2.1 - h.2.2.2 ∧ T1 F g cy cn h (t3 + x) t3 t
def T3 (F : Nat → Int) (g : Int) (cy cn : Nat) (h : Q4) (t : Q4) : Prop := ∃ x, x ≤ h.2.2.2 ∧ T2 F g cy cn h (0 + x) t
theorem T0_last {F : Nat → Int} {g : Int} {cy cn : Nat} {h : Q4} {t1 t2 t3 : Nat} (hcy : 1 ≤ cy) (hcn : 1 ≤ cn) (hd : Dec h) (hs : Spl h (t1, t1, t2, t3)) (t : Q4) : T0 F g cy cn h t1 t2 t3 t ↔ ∃ x, x ≤ h.1 - h.2.1 ∧ t = (t1 + x, t1, t2, t3) ∧ F (plQ (yS cy h (t1, t1, t2, t3)) + x) ≤ g ∧ F (plQ (nS cn h (t1, t1, t2, t3)) - x) ≤ g := by
  constructor
  · rintro ⟨x, hx, rfl, h1, h2⟩
    obtain ⟨k1, k2⟩ := pl_key hcy hcn hd hs hx
    rw [k1] at h1; rw [k2] at h2
    exact ⟨x, hx, rfl, h1, h2⟩
  · rintro ⟨x, hx, rfl, h1, h2⟩
    obtain ⟨k1, k2⟩ := pl_key hcy hcn hd hs hx
    rw [← k1] at h1; rw [← k2] at h2
    exact ⟨x, hx, rfl, h1, h2⟩
theorem UL_put (k : Cx) (σ : St) (ta : Nat) (cy cn g ls : Int) (tk tk' : Nat → Int) : sUp (UL k σ ta cy cn g ls tk) (ta + 6) (eI k 8 tk') = UL k σ ta cy cn g ls tk' := by
  unfold UL
  rw [sUp_comm (sUp σ (ta + 6) (eI k 8 tk)) _ _ (show ta + 4 ≠ ta + 6 by omega), sUp_sUp]
set_option maxRecDepth 100000 in
set_option maxHeartbeats 4000000 in
theorem c_down5_0 {k : Cx} {L0 : Launch} {σ : St} {ta : Nat} {F : Nat → Int} (hF : σ.2 ta = some (eI k 4845 F)) (hFr : ∀ j, 0 ≤ F j ∧ F j ≤ 13) {cy cn : Nat} {g : Int} {ls : Nat} (hO : σ.2 (ta + 4) = some (oLeast ta cy cn g ls)) (hg : -1 ≤ g ∧ g ≤ 13) (hls : ls < 65536) (hcy : 1 ≤ cy ∧ cy ≤ 4) (hcn : 1 ≤ cn ∧ cn ≤ 4) {h : Q4} {hv tk : Nat → Int} (hH : σ.2 (ta + 5) = some (eI k 8 hv)) (hhv : ∀ j, j < 8 → hv j = (qat h j : Int)) (hT : σ.2 (ta + 6) = some (eI k 8 tk)) {w : Nat → Nat} (hW : σ.2 (ta + 7) = some (eI k 68 (fun j => (w j : Int)))) (hwl : ∀ j, w j < 65536) (hwm : ∀ c, 1 ≤ c → c < h.1 - h.2.1 → w c ||| w (c + 1) = w (c + 1)) (hd : Dec h) (h16 : h.1 ≤ 16) (hFm : Fm F h) {t1 t2 t3 : Nat} (hs : Spl h (t1, t1, t2, t3)) (htk : ∀ j, 0 < j → j < 8 → tk j = (qat (t1, t1, t2, t3) j : Int)) {y0 n0 : Int} (hy0 : y0 = ((PL 1 (yS cy h (t1, t1, t2, t3)).2.1 + PL 2 (yS cy h (t1, t1, t2, t3)).2.2.1 + PL 3 (yS cy h (t1, t1, t2, t3)).2.2.2 : Nat) : Int)) (hn0 : n0 = ((PL 1 (nS cn h (t1, t1, t2, t3)).2.1 + PL 2 (nS cn h (t1, t1, t2, t3)).2.2.1 + PL 3 (nS cn h (t1, t1, t2, t3)).2.2.2 : Nat) : Int)) : CtrV k L0 mX5_down 3 0 0 [.ref (ta + 4), .int (iZ (0 : Int)), .int (iZ y0), .int (iZ n0)] σ (fun v σ' => v = .int (iZ 0) ∧ ∃ (ls' : Nat) (tk2 : Nat → Int), MinOf w (T0 F g cy cn h t1 t2 t3) ls ls' ∧ ls' < 65536 ∧ (∀ j, 0 < j → j < 8 → tk2 j = tk j) ∧ σ' = UL k σ ta cy cn g ls' tk2) := by
  refine Ctr.of (by decide +kernel) rfl (Nat.le_of_ble_eq_true rfl) ?_
  intro κ hl0 S
  subst hl0
  subst hy0
  subst hn0
  obtain ⟨hs1, hs2, hs3⟩ := id hs
  have hA1 : tk 1 = (t1 : Int) := htk 1 (by decide) (by decide)
  have hA2 : tk 2 = (t2 : Int) := htk 2 (by decide) (by decide)
  have hA3 : tk 3 = (t3 : Int) := htk 3 (by decide) (by decide)
  have hA4 : tk 4 = 0 := htk 4 (by decide) (by decide)
  have hB0 : hv 0 = (h.1 : Int) := hhv 0 (by decide)
  have hB1 : hv 1 = (h.2.1 : Int) := hhv 1 (by decide)
  have hCy := hhv (0 + cy) (by omega)
  have hDy := htk (0 + cy) (by omega) (by omega)
  have hDn := htk (0 + cn) (by omega) (by omega)
  have m1 := qat_mono hs3 (0 + cy)
  have m2 := qat_mono hs3 (0 + cn)
  have m5 : h.2.1 ≤ h.1 ∧ h.2.2.1 ≤ h.2.1 ∧ h.2.2.2 ≤ h.2.2.1 := hd
  have hyd := yS_dec (cy := cy) hs
  have hyl := yS_le (cy := cy) hs
  have hnd := nS_dec (cn := cn) hs
  have hnl := nS_le (cn := cn) hs
  have hY := plQ_lt hyd (by have := hyl.1; omega)
  have hN := plQ_lt hnd (by have := hnl.1; omega)
  obtain ⟨hN0, hmN⟩ := Fm_n (F := F) hFm hcn.1 hd hs
  have hmY := Fm_y (F := F) hFm hcy.1 hd hs
  have hYs : plQ (yS cy h (t1, t1, t2, t3)) + (h.1 - h.2.1) < 4845 := by
    have h9 := plQ_lt (h := ((yS cy h (t1, t1, t2, t3)).1 + (h.1 - h.2.1), (yS cy h (t1, t1, t2, t3)).2)) (by have := hyd; simp only [Dec] at this ⊢; omega) (by
      have e : (yS cy h (t1, t1, t2, t3)).1 = t1 + qat (subQ h (t1, t1, t2, t3)) cy := rfl
      have k0 : qat (subQ h (t1, t1, t2, t3)) cy ≤ h.2.1 - t1 := qat_le (g := h) hs2 (show 1 ≤ cy by omega)
      have hl3 := hs3
      simp only [leQ] at hl3
      simp only
      rw [e]
      omega)
    unfold plQ at h9 ⊢
    simp only at h9
    omega
  have eY : plQ (yS cy h (t1, t1, t2, t3)) = (yS cy h (t1, t1, t2, t3)).1 + (PL 1 (yS cy h (t1, t1, t2, t3)).2.1 + PL 2 (yS cy h (t1, t1, t2, t3)).2.2.1 + PL 3 (yS cy h (t1, t1, t2, t3)).2.2.2) := by unfold plQ; omega
  have eN : plQ (nS cn h (t1, t1, t2, t3)) = (nS cn h (t1, t1, t2, t3)).1 + (PL 1 (nS cn h (t1, t1, t2, t3)).2.1 + PL 2 (nS cn h (t1, t1, t2, t3)).2.2.1 + PL 3 (nS cn h (t1, t1, t2, t3)).2.2.2) := by unfold plQ; omega
  have fY : (yS cy h (t1, t1, t2, t3)).1 = t1 + (qat h (0 + cy) - qat (t1, t1, t2, t3) (0 + cy)) := by rw [Nat.zero_add, ← qat_sub]; rfl
  have fN : (nS cn h (t1, t1, t2, t3)).1 = (h.1 - t1) + qat (t1, t1, t2, t3) (0 + cn) := by rw [Nat.zero_add]; rfl
  have hl1 : t1 ≤ h.1 := hs3.1
  have hl4 : t1 + (h.1 - h.2.1) ≤ 16 := by
    have h8 := hs2
    have h7 := hs3
    simp only [Dec, subQ] at h8
    simp only [leQ] at h7
    omega
  refine r_iload_n S dX5_down_0 rfl ?_
  refine r_if_lt S dX5_down_1 (tgt := 9) (by decide) ⟨by omega, by omega⟩ (fun h_1 => ?_) (fun h_1 => ?_)
  · exact absurd h_1 (by decide)
  · refine r_iload_n S dX5_down_4 rfl ?_
    refine r_iconst S dX5_down_5 ?_
    refine r_icmp_lt S dX5_down_6 (tgt := 11) (by decide) ⟨by omega, by omega⟩ ⟨by omega, by omega⟩ (fun h_6 => ?_) (fun h_6 => ?_)
    · refine r_aload_n S dX5_down_11 rfl ?_
      refine r_getf S g_RX5_15_5 dX5_down_12 (by repeat (first | assumption | exact sUp_same | exact sNew_same | refine sUp_ne (by first | assumption | omega) ?_)) rfl ?_
      refine r_iload_n S dX5_down_15 rfl ?_
      refine r_iconst S dX5_down_16 ?_
      refine r_iadd S dX5_down_17 ?_
      refine r_ialdN S (1) dX5_down_18 (by repeat (first | assumption | exact sUp_same | exact sNew_same | refine sUp_ne (by first | assumption | omega) ?_)) (by rfl) (by omega) (by decide) ?_
      rw [hA1]
      refine r_istore S dX5_down_19 rfl (by decide) (lv' := [_, _, _, _, _, _, _, _, _, _, _, _]) rfl ?_
      refine r_aload_n S dX5_down_21 rfl ?_
      refine r_getf S g_RX5_9_5 dX5_down_22 (by repeat (first | assumption | exact sUp_same | exact sNew_same | refine sUp_ne (by first | assumption | omega) ?_)) rfl ?_
      refine r_iload_n S dX5_down_25 rfl ?_
      refine r_ialdN S (0) dX5_down_26 (by repeat (first | assumption | exact sUp_same | exact sNew_same | refine sUp_ne (by first | assumption | omega) ?_)) (by rfl) (by omega) (by decide) ?_
      rw [hB0]
      refine r_aload_n S dX5_down_27 rfl ?_
      refine r_getf S g_RX5_9_5 dX5_down_28 (by repeat (first | assumption | exact sUp_same | exact sNew_same | refine sUp_ne (by first | assumption | omega) ?_)) rfl ?_
      refine r_iload_n S dX5_down_31 rfl ?_
      refine r_iconst S dX5_down_32 ?_
      refine r_iadd S dX5_down_33 ?_
      refine r_ialdN S (1) dX5_down_34 (by repeat (first | assumption | exact sUp_same | exact sNew_same | refine sUp_ne (by first | assumption | omega) ?_)) (by rfl) (by omega) (by decide) ?_
      rw [hB1]
      refine r_isub S dX5_down_35 ?_
      refine r_istore S dX5_down_36 rfl (by decide) (lv' := [_, _, _, _, _, _, _, _, _, _, _, _]) rfl ?_
      refine r_aload_n S dX5_down_38 rfl ?_
      refine r_getf S g_RX5_9_5 dX5_down_39 (by repeat (first | assumption | exact sUp_same | exact sNew_same | refine sUp_ne (by first | assumption | omega) ?_)) rfl ?_
      refine r_iload_n S dX5_down_42 rfl ?_
      refine r_aload_n S dX5_down_43 rfl ?_
      refine r_getf S g_RX5_34_5 dX5_down_44 (by repeat (first | assumption | exact sUp_same | exact sNew_same | refine sUp_ne (by first | assumption | omega) ?_)) rfl ?_
      refine r_iadd S dX5_down_47 ?_
      refine r_ialdN S (0 + cy) dX5_down_48 (by repeat (first | assumption | exact sUp_same | exact sNew_same | refine sUp_ne (by first | assumption | omega) ?_)) (by omega) (by omega) (by decide) ?_
      rw [hCy]
      refine r_aload_n S dX5_down_49 rfl ?_
      refine r_getf S g_RX5_15_5 dX5_down_50 (by repeat (first | assumption | exact sUp_same | exact sNew_same | refine sUp_ne (by first | assumption | omega) ?_)) rfl ?_
      refine r_iload_n S dX5_down_53 rfl ?_
      refine r_aload_n S dX5_down_54 rfl ?_
      refine r_getf S g_RX5_34_5 dX5_down_55 (by repeat (first | assumption | exact sUp_same | exact sNew_same | refine sUp_ne (by first | assumption | omega) ?_)) rfl ?_
      refine r_iadd S dX5_down_58 ?_
      refine r_ialdN S (0 + cy) dX5_down_59 (by repeat (first | assumption | exact sUp_same | exact sNew_same | refine sUp_ne (by first | assumption | omega) ?_)) (by omega) (by omega) (by decide) ?_
      rw [hDy]
      refine r_isub S dX5_down_60 ?_
      refine r_istore S dX5_down_61 rfl (by decide) (lv' := [_, _, _, _, _, _, _, _, _, _, _, _]) rfl ?_
      refine r_aload_n S dX5_down_63 rfl ?_
      refine r_getf S g_RX5_9_5 dX5_down_64 (by repeat (first | assumption | exact sUp_same | exact sNew_same | refine sUp_ne (by first | assumption | omega) ?_)) rfl ?_
      refine r_iload_n S dX5_down_67 rfl ?_
      refine r_ialdN S (0) dX5_down_68 (by repeat (first | assumption | exact sUp_same | exact sNew_same | refine sUp_ne (by first | assumption | omega) ?_)) (by rfl) (by omega) (by decide) ?_
      rw [hB0]
      refine r_aload_n S dX5_down_69 rfl ?_
      refine r_getf S g_RX5_15_5 dX5_down_70 (by repeat (first | assumption | exact sUp_same | exact sNew_same | refine sUp_ne (by first | assumption | omega) ?_)) rfl ?_
      refine r_iload_n S dX5_down_73 rfl ?_
      refine r_aload_n S dX5_down_74 rfl ?_
      refine r_getf S g_RX5_37_5 dX5_down_75 (by repeat (first | assumption | exact sUp_same | exact sNew_same | refine sUp_ne (by first | assumption | omega) ?_)) rfl ?_
      refine r_iadd S dX5_down_78 ?_
      refine r_ialdN S (0 + cn) dX5_down_79 (by repeat (first | assumption | exact sUp_same | exact sNew_same | refine sUp_ne (by first | assumption | omega) ?_)) (by omega) (by omega) (by decide) ?_
      rw [hDn]
      refine r_iadd S dX5_down_80 ?_
      refine r_istore S dX5_down_81 rfl (by decide) (lv' := [_, _, _, _, _, _, _, _, _, _, _, _]) rfl ?_
      refine r_iload_n S dX5_down_83 rfl ?_
      refine r_if_ne S dX5_down_84 (tgt := 108) (by decide) ⟨by omega, by omega⟩ (fun h_84 => ?_) (fun h_84 => ?_)
      · exact absurd rfl h_84
      · refine r_aload_n S dX5_down_87 rfl ?_
        refine r_iload_n S dX5_down_88 rfl ?_
        refine r_iload S dX5_down_89 rfl ?_
        refine r_iadd S dX5_down_91 ?_
        refine r_iload S dX5_down_92 rfl ?_
        refine r_iadd S dX5_down_94 ?_
        refine r_iload_n S dX5_down_95 rfl ?_
        refine r_iload S dX5_down_96 rfl ?_
        refine r_isub S dX5_down_98 ?_
        refine r_iload S dX5_down_99 rfl ?_
        refine r_iadd S dX5_down_101 ?_
        refine r_iload S dX5_down_102 rfl ?_
        refine r_callU S (c_last5 hF hFr hO hg hls hT hW hwl (Y := plQ (yS cy h (t1, t1, t2, t3))) (N := plQ (nS cn h (t1, t1, t2, t3))) (s := h.1 - h.2.1) (by omega) hYs hN (by omega) hmY hmN hs1 hl4 hA1 hA2 hA3 hA4 hwm (by omega) (by omega) (by omega)) k_mX6_last c_RX5_44_5 dX5_down_104 (by decide) ⟨by omega, by omega⟩ (by repeat (first | assumption | exact sUp_same | exact sNew_same | refine sUp_ne (by first | assumption | omega) ?_)) rfl rfl (Nat.le_of_ble_eq_true rfl) (fun r σ' hp => ?_)
        obtain ⟨_, rfl, rfl, ls2, tk2, hm2, hl2, ht2, rfl⟩ := hp
        try simp only [Option.toList_some, Option.toList_none, List.cons_append, List.nil_append]
        exact r_zret S dX5_down_107 (by omega) (by omega) (by first | exact Or.inl rfl | exact Or.inr rfl | omega) (⟨_, rfl, rfl, ls2, tk2, hm2.congr (T0_last hcy.1 hcn.1 hd hs), hl2, ht2, rfl⟩)
    · exact absurd h_6 (by decide)

set_option maxRecDepth 100000 in
set_option maxHeartbeats 4000000 in
theorem l_down5_1 {κ : Kx} {k : Cx} {σ : St} {ta : Nat} {F : Nat → Int} (hF : σ.2 ta = some (eI k 4845 F)) (hFr : ∀ j, 0 ≤ F j ∧ F j ≤ 13) {cy cn : Nat} {g : Int} {ls : Nat} (hO : σ.2 (ta + 4) = some (oLeast ta cy cn g ls)) (hg : -1 ≤ g ∧ g ≤ 13) (hls : ls < 65536) (hcy : 1 ≤ cy ∧ cy ≤ 4) (hcn : 1 ≤ cn ∧ cn ≤ 4) {h : Q4} {hv tk : Nat → Int} (hH : σ.2 (ta + 5) = some (eI k 8 hv)) (hhv : ∀ j, j < 8 → hv j = (qat h j : Int)) (hT : σ.2 (ta + 6) = some (eI k 8 tk)) {w : Nat → Nat} (hW : σ.2 (ta + 7) = some (eI k 68 (fun j => (w j : Int)))) (hwl : ∀ j, w j < 65536) (hwm : ∀ c, 1 ≤ c → c < h.1 - h.2.1 → w c ||| w (c + 1) = w (c + 1)) (hd : Dec h) (h16 : h.1 ≤ 16) (hFm : Fm F h) {t2 t3 : Nat} (hs : Spl h (t2, t2, t2, t3)) (htk : ∀ j, 1 < j → j < 8 → tk j = (qat (t2, t2, t2, t3) j : Int)) (S : Ok κ k cX5_down 12 RX5 (some .boolean) "down" 4 0 0) : ∀ (m a : Nat), a + m = (h.2.1 - h.2.2.1) + 1 → ∀ (ls1 : Nat) (tk' : Nat → Int), (∀ j, 1 < j → j < 8 → tk' j = tk j) → ls1 < 65536 → MinOf w (fun t => ∃ a', a' < a ∧ T0 F g cy cn h (t2 + ow a' (h.2.1 - h.2.2.1)) t2 t3 t) ls ls1 → V κ k 12 0 0 (QR κ k (fun r σ' => ∃ v, r = some v ∧ (v = .int (iZ 0) ∧ ∃ (ls' : Nat) (tk2 : Nat → Int), MinOf w (T1 F g cy cn h t2 t3) ls ls' ∧ ls' < 65536 ∧ (∀ j, 1 < j → j < 8 → tk2 j = tk j) ∧ σ' = UL k σ ta cy cn g ls' tk2)) 0 0) 111 [some (.ref (ta + 4)), some (.int (iZ (1 : Int))), some (.int (iZ ((PL 2 (yS cy h (t2, t2, t2, t3)).2.2.1 + PL 3 (yS cy h (t2, t2, t2, t3)).2.2.2 : Nat) : Int))), some (.int (iZ ((PL 2 (nS cn h (t2, t2, t2, t3)).2.2.1 + PL 3 (nS cn h (t2, t2, t2, t3)).2.2.2 : Nat) : Int))), some (.int (iZ ((t2 : Nat) : Int))), some (.int (iZ (((h.2.1 - h.2.2.1) : Nat) : Int))), some (.int (iZ (((qat h (1 + cy) - qat (t2, t2, t2, t3) (1 + cy)) : Nat) : Int))), some (.int (iZ (((h.2.1 + qat (t2, t2, t2, t3) (1 + cn)) : Nat) : Int))), some (.int (iZ (a : Int))), none, none, none] [] (UL k σ ta cy cn g ls1 tk') := by
  intro m
  induction m with
  | zero =>
    intro a hi
    intro ls1 tk' htk' hls1 hmin
    obtain ⟨hs1, hs2, hs3⟩ := id hs
    have m1 := qat_mono hs3 (1 + cy)
    have m2 := qat_mono hs3 (1 + cn)
    have m5 : h.2.1 ≤ h.1 ∧ h.2.2.1 ≤ h.2.1 ∧ h.2.2.2 ≤ h.2.2.1 := hd
    have hpY : PL 2 (yS cy h (t2, t2, t2, t3)).2.2.1 + PL 3 (yS cy h (t2, t2, t2, t3)).2.2.2 < 5000 := by
      have b1 := PL_top
      have bY := (yS_le (cy := cy) hs)
      have bD := (yS_dec (cy := cy) hs)
      have bb := plQ_lt bD (by have := bY.1; omega)
      unfold plQ at bb
      omega
    have hpN : PL 2 (nS cn h (t2, t2, t2, t3)).2.2.1 + PL 3 (nS cn h (t2, t2, t2, t3)).2.2.2 < 5000 := by
      have b1 := PL_top
      have bY := (nS_le (cn := cn) hs)
      have bD := (nS_dec (cn := cn) hs)
      have bb := plQ_lt bD (by have := bY.1; omega)
      unfold plQ at bb
      omega
    refine r_iload S dX5_down_111 rfl ?_
    refine r_iload S dX5_down_113 rfl ?_
    refine r_icmp_gt S dX5_down_115 (tgt := 186) (by decide) ⟨by omega, by omega⟩ ⟨by omega, by omega⟩ (fun h_115 => ?_) (fun h_115 => ?_)
    · refine r_iconst S dX5_down_186 ?_
      exact r_zret S dX5_down_187 (by omega) (by omega) (by first | exact Or.inl rfl | exact Or.inr rfl | omega) (⟨_, rfl, rfl, ls1, tk', hmin.congr (fun t => ⟨fun hz => by
            obtain ⟨x, hx, hx2⟩ := hz
            obtain ⟨a9, ha9, rfl⟩ := ow_surj hx
            exact ⟨a9, by omega, hx2⟩, fun hz => by
            obtain ⟨a9, ha9, hx2⟩ := hz
            exact ⟨_, ow_le (by omega), hx2⟩⟩), hls1, htk', rfl⟩)
    · omega
  | succ m ih =>
    intro a hi
    intro ls1 tk' htk' hls1 hmin
    obtain ⟨hs1, hs2, hs3⟩ := id hs
    have m1 := qat_mono hs3 (1 + cy)
    have m2 := qat_mono hs3 (1 + cn)
    have m5 : h.2.1 ≤ h.1 ∧ h.2.2.1 ≤ h.2.1 ∧ h.2.2.2 ≤ h.2.2.1 := hd
    have hpY : PL 2 (yS cy h (t2, t2, t2, t3)).2.2.1 + PL 3 (yS cy h (t2, t2, t2, t3)).2.2.2 < 5000 := by
      have b1 := PL_top
      have bY := (yS_le (cy := cy) hs)
      have bD := (yS_dec (cy := cy) hs)
      have bb := plQ_lt bD (by have := bY.1; omega)
      unfold plQ at bb
      omega
    have hpN : PL 2 (nS cn h (t2, t2, t2, t3)).2.2.1 + PL 3 (nS cn h (t2, t2, t2, t3)).2.2.2 < 5000 := by
      have b1 := PL_top
      have bY := (nS_le (cn := cn) hs)
      have bD := (nS_dec (cn := cn) hs)
      have bb := plQ_lt bD (by have := bY.1; omega)
      unfold plQ at bb
      omega
    have hol := ow_le (show a ≤ (h.2.1 - h.2.2.1) by omega)
    have hl3 : leQ (t2, t2, t2, t3) h := hs3
    have hl2 : Dec (subQ h (t2, t2, t2, t3)) := hs2
    have hl1 : Dec (t2, t2, t2, t3) := hs1
    simp only [leQ] at hl3
    simp only [Dec, subQ] at hl2
    simp only [Dec] at hl1
    have hsn : Spl h ((t2 + ow a (h.2.1 - h.2.2.1)), (t2 + ow a (h.2.1 - h.2.2.1)), t2, t3) := by
      refine ⟨?_, ?_, ?_⟩
      · simp only [Dec]; omega
      · simp only [Dec, subQ]; omega
      · simp only [leQ]; omega
    have hag : ∀ i, 1 < i → qat ((t2 + ow a (h.2.1 - h.2.2.1)), (t2 + ow a (h.2.1 - h.2.2.1)), t2, t3) i = qat (t2, t2, t2, t3) i := by
      intro i hi
      match i with
      | 0 => first | omega | rfl
      | 1 => first | omega | rfl
      | 2 => first | omega | rfl
      | 3 => first | omega | rfl
      | _ + 4 => rfl
    have gy := hag (1 + cy) (by omega)
    have gn := hag (1 + cn) (by omega)
    have ey1 : (yS cy h ((t2 + ow a (h.2.1 - h.2.2.1)), (t2 + ow a (h.2.1 - h.2.2.1)), t2, t3)).2.1 = qat ((t2 + ow a (h.2.1 - h.2.2.1)), (t2 + ow a (h.2.1 - h.2.2.1)), t2, t3) 1 + (qat h (1 + cy) - qat ((t2 + ow a (h.2.1 - h.2.2.1)), (t2 + ow a (h.2.1 - h.2.2.1)), t2, t3) (1 + cy)) := yS_at (j := 1) (by decide)
    have en1 : (nS cn h ((t2 + ow a (h.2.1 - h.2.2.1)), (t2 + ow a (h.2.1 - h.2.2.1)), t2, t3)).2.1 = qat h 1 - qat ((t2 + ow a (h.2.1 - h.2.2.1)), (t2 + ow a (h.2.1 - h.2.2.1)), t2, t3) 1 + qat ((t2 + ow a (h.2.1 - h.2.2.1)), (t2 + ow a (h.2.1 - h.2.2.1)), t2, t3) (1 + cn) := nS_at (j := 1) (by decide)
    rw [gy] at ey1
    rw [gn] at en1
    have ey1 : (yS cy h ((t2 + ow a (h.2.1 - h.2.2.1)), (t2 + ow a (h.2.1 - h.2.2.1)), t2, t3)).2.1 = (t2 + ow a (h.2.1 - h.2.2.1)) + (qat h (1 + cy) - qat (t2, t2, t2, t3) (1 + cy)) := ey1
    have en1 : (nS cn h ((t2 + ow a (h.2.1 - h.2.2.1)), (t2 + ow a (h.2.1 - h.2.2.1)), t2, t3)).2.1 = h.2.1 - (t2 + ow a (h.2.1 - h.2.2.1)) + qat (t2, t2, t2, t3) (1 + cn) := en1
    have ey2 : (yS cy h ((t2 + ow a (h.2.1 - h.2.2.1)), (t2 + ow a (h.2.1 - h.2.2.1)), t2, t3)).2.2.1 = qat ((t2 + ow a (h.2.1 - h.2.2.1)), (t2 + ow a (h.2.1 - h.2.2.1)), t2, t3) 2 + (qat h (2 + cy) - qat ((t2 + ow a (h.2.1 - h.2.2.1)), (t2 + ow a (h.2.1 - h.2.2.1)), t2, t3) (2 + cy)) := yS_at (j := 2) (by decide)
    have en2 : (nS cn h ((t2 + ow a (h.2.1 - h.2.2.1)), (t2 + ow a (h.2.1 - h.2.2.1)), t2, t3)).2.2.1 = qat h 2 - qat ((t2 + ow a (h.2.1 - h.2.2.1)), (t2 + ow a (h.2.1 - h.2.2.1)), t2, t3) 2 + qat ((t2 + ow a (h.2.1 - h.2.2.1)), (t2 + ow a (h.2.1 - h.2.2.1)), t2, t3) (2 + cn) := nS_at (j := 2) (by decide)
    rw [hag 2 (by decide), hag (2 + cy) (by omega), ← yS_at (cy := cy) (h := h) (t := (t2, t2, t2, t3)) (j := 2) (by decide)] at ey2
    rw [hag 2 (by decide), hag (2 + cn) (by omega), ← nS_at (cn := cn) (h := h) (t := (t2, t2, t2, t3)) (j := 2) (by decide)] at en2
    have ey2 : (yS cy h ((t2 + ow a (h.2.1 - h.2.2.1)), (t2 + ow a (h.2.1 - h.2.2.1)), t2, t3)).2.2.1 = (yS cy h (t2, t2, t2, t3)).2.2.1 := ey2
    have en2 : (nS cn h ((t2 + ow a (h.2.1 - h.2.2.1)), (t2 + ow a (h.2.1 - h.2.2.1)), t2, t3)).2.2.1 = (nS cn h (t2, t2, t2, t3)).2.2.1 := en2
    have ey3 : (yS cy h ((t2 + ow a (h.2.1 - h.2.2.1)), (t2 + ow a (h.2.1 - h.2.2.1)), t2, t3)).2.2.2 = qat ((t2 + ow a (h.2.1 - h.2.2.1)), (t2 + ow a (h.2.1 - h.2.2.1)), t2, t3) 3 + (qat h (3 + cy) - qat ((t2 + ow a (h.2.1 - h.2.2.1)), (t2 + ow a (h.2.1 - h.2.2.1)), t2, t3) (3 + cy)) := yS_at (j := 3) (by decide)
    have en3 : (nS cn h ((t2 + ow a (h.2.1 - h.2.2.1)), (t2 + ow a (h.2.1 - h.2.2.1)), t2, t3)).2.2.2 = qat h 3 - qat ((t2 + ow a (h.2.1 - h.2.2.1)), (t2 + ow a (h.2.1 - h.2.2.1)), t2, t3) 3 + qat ((t2 + ow a (h.2.1 - h.2.2.1)), (t2 + ow a (h.2.1 - h.2.2.1)), t2, t3) (3 + cn) := nS_at (j := 3) (by decide)
    rw [hag 3 (by decide), hag (3 + cy) (by omega), ← yS_at (cy := cy) (h := h) (t := (t2, t2, t2, t3)) (j := 3) (by decide)] at ey3
    rw [hag 3 (by decide), hag (3 + cn) (by omega), ← nS_at (cn := cn) (h := h) (t := (t2, t2, t2, t3)) (j := 3) (by decide)] at en3
    have ey3 : (yS cy h ((t2 + ow a (h.2.1 - h.2.2.1)), (t2 + ow a (h.2.1 - h.2.2.1)), t2, t3)).2.2.2 = (yS cy h (t2, t2, t2, t3)).2.2.2 := ey3
    have en3 : (nS cn h ((t2 + ow a (h.2.1 - h.2.2.1)), (t2 + ow a (h.2.1 - h.2.2.1)), t2, t3)).2.2.2 = (nS cn h (t2, t2, t2, t3)).2.2.2 := en3
    have bY := (yS_le (cy := cy) hsn)
    have bN := (nS_le (cn := cn) hsn)
    simp only [leQ] at bY bN
    have b16 : (t2 + ow a (h.2.1 - h.2.2.1)) + (qat h (1 + cy) - qat (t2, t2, t2, t3) (1 + cy)) < 17 := by omega
    have b17 : h.2.1 - (t2 + ow a (h.2.1 - h.2.2.1)) + qat (t2, t2, t2, t3) (1 + cn) < 17 := by omega
    refine r_iload S dX5_down_111 rfl ?_
    refine r_iload S dX5_down_113 rfl ?_
    refine r_icmp_gt S dX5_down_115 (tgt := 186) (by decide) ⟨by omega, by omega⟩ ⟨by omega, by omega⟩ (fun h_115 => ?_) (fun h_115 => ?_)
    · omega
    · refine r_iload S dX5_down_118 rfl ?_
      refine r_iload S dX5_down_120 rfl ?_
      refine r_iload S dX5_down_122 rfl ?_
      refine r_callS S (c_outward (a := a) (s := (h.2.1 - h.2.2.1)) (by omega) (by omega)) k_mX5_outward c_RX5_47 dX5_down_124 (by decide) ⟨by omega, by omega⟩ rfl rfl (Nat.le_of_ble_eq_true rfl) (fun r σ' hp => ?_)
      obtain ⟨_, rfl, rfl, rfl⟩ := hp
      try simp only [Option.toList_some, Option.toList_none, List.cons_append, List.nil_append]
      refine r_iadd S dX5_down_127 ?_
      refine r_num (z' := (((t2 + ow a (h.2.1 - h.2.2.1)) : Nat) : Int)) (by rw [Int.natCast_add]; rfl) ?_
      refine r_istore S dX5_down_128 rfl (by decide) (lv' := [_, _, _, _, _, _, _, _, _, _, _, _]) rfl ?_
      refine r_aload_n S dX5_down_130 rfl ?_
      refine r_getf S g_RX5_15_5 dX5_down_131 (by first | assumption | exact UL_O | exact UL_T | exact UL_at (by omega) (by omega) (by assumption)) rfl ?_
      refine r_iload_n S dX5_down_134 rfl ?_
      refine r_iload S dX5_down_135 rfl ?_
      refine r_iastN S (1) dX5_down_137 (by first | assumption | exact UL_O | exact UL_T | exact UL_at (by omega) (by omega) (by assumption)) (by rfl) (by omega) (by decide) ?_
      rw [show sUp (UL k σ ta cy cn g ls1 tk') (ta + 6) (eI k 8 (uZ tk' 1 (((t2 + ow a (h.2.1 - h.2.2.1)) : Nat) : Int))) = (UL k σ ta cy cn g ls1 (uZ tk' 1 (((t2 + ow a (h.2.1 - h.2.2.1)) : Nat) : Int))) from UL_put k σ ta cy cn g ls1 tk' _]
      refine r_iload_n S dX5_down_138 rfl ?_
      refine r_iload_n S dX5_down_139 rfl ?_
      refine r_iload S dX5_down_140 rfl ?_
      refine r_iload S dX5_down_142 rfl ?_
      refine r_iadd S dX5_down_144 ?_
      refine r_callSN S (c_placeOf (l := 1) (c := (t2 + ow a (h.2.1 - h.2.2.1)) + (qat h (1 + cy) - qat (t2, t2, t2, t3) (1 + cy))) (by rfl) (by omega) (by decide) b16) k_mX11_placeOf c_RX5_50 dX5_down_145 (by decide) ⟨by omega, by omega⟩ rfl rfl (Nat.le_of_ble_eq_true rfl) (fun r σ' hp => ?_)
      obtain ⟨_, rfl, rfl, rfl⟩ := hp
      try simp only [Option.toList_some, Option.toList_none, List.cons_append, List.nil_append]
      refine r_iadd S dX5_down_148 ?_
      refine r_istore S dX5_down_149 rfl (by decide) (lv' := [_, _, _, _, _, _, _, _, _, _, _, _]) rfl ?_
      refine r_iload_n S dX5_down_151 rfl ?_
      refine r_iload_n S dX5_down_152 rfl ?_
      refine r_iload S dX5_down_153 rfl ?_
      refine r_iload S dX5_down_155 rfl ?_
      refine r_isub S dX5_down_157 ?_
      refine r_callSN S (c_placeOf (l := 1) (c := h.2.1 - (t2 + ow a (h.2.1 - h.2.2.1)) + qat (t2, t2, t2, t3) (1 + cn)) (by rfl) (by omega) (by decide) b17) k_mX11_placeOf c_RX5_50 dX5_down_158 (by decide) ⟨by omega, by omega⟩ rfl rfl (Nat.le_of_ble_eq_true rfl) (fun r σ' hp => ?_)
      obtain ⟨_, rfl, rfl, rfl⟩ := hp
      try simp only [Option.toList_some, Option.toList_none, List.cons_append, List.nil_append]
      refine r_iadd S dX5_down_161 ?_
      refine r_istore S dX5_down_162 rfl (by decide) (lv' := [_, _, _, _, _, _, _, _, _, _, _, _]) rfl ?_
      refine r_aload_n S dX5_down_164 rfl ?_
      refine r_iload_n S dX5_down_165 rfl ?_
      refine r_iconst S dX5_down_166 ?_
      refine r_isub S dX5_down_167 ?_
      refine r_num (z' := 0) (by decide) ?_
      refine r_iload S dX5_down_168 rfl ?_
      refine r_iload S dX5_down_170 rfl ?_
      have htkn : ∀ j, 0 < j → j < 8 → uZ tk' 1 (((t2 + ow a (h.2.1 - h.2.2.1)) : Nat) : Int) j = (qat ((t2 + ow a (h.2.1 - h.2.2.1)), (t2 + ow a (h.2.1 - h.2.2.1)), t2, t3) j : Int) := by
        intro j hj hj8
        unfold uZ
        by_cases hjj : j = 1
        · subst hjj
          rw [if_pos rfl]
          rfl
        · rw [if_neg hjj, htk' j (by omega) hj8, htk j (by omega) hj8, hag j (by omega)]
      refine r_callU S (c_down5_0 (t1 := (t2 + ow a (h.2.1 - h.2.2.1))) (t2 := t2) (t3 := t3) (ls := ls1) (UL_at (by omega) (by omega) hF) hFr UL_O hg hls1 hcy hcn (UL_at (by omega) (by omega) hH) hhv UL_T (UL_at (by omega) (by omega) hW) hwl hwm hd h16 hFm hsn htkn (by rw [ey1, ey2, ey3]; omega) (by rw [en1, en2, en3]; omega)) k_mX5_down c_RX5_40_5 dX5_down_172 (by decide) ⟨by omega, by omega⟩ (by first | assumption | exact UL_O | exact UL_T | exact UL_at (by omega) (by omega) (by assumption)) rfl rfl (Nat.le_of_ble_eq_true rfl) (fun r σ' hp => ?_)
      obtain ⟨_, rfl, rfl, ls2, tk3, hm3, hls2, htk3, rfl⟩ := hp
      try simp only [Option.toList_some, Option.toList_none, List.cons_append, List.nil_append]
      rw [UL_UL]
      have htk4 : ∀ j, 1 < j → j < 8 → tk3 j = tk j := by
        intro j hj hj8
        rw [htk3 j (by omega) hj8]
        unfold uZ
        rw [if_neg (by omega), htk' j hj hj8]
      refine r_if_eq S dX5_down_175 (tgt := 180) (by decide) ⟨by omega, by omega⟩ (fun h_175 => ?_) (fun h_175 => ?_)
      · refine r_iinc S dX5_down_180 rfl rfl (by decide) (lv' := [_, _, _, _, _, _, _, _, _, _, _, _]) rfl ?_
        refine r_goto S dX5_down_183 (tgt := 111) (by decide) ?_
        refine V.mask [true, true, true, true, true, true, true, true, true, false, false, false] (lv' := [_, _, _, _, _, _, _, _, _, none, none, none]) rfl ?_
        refine ih (a + 1) (by omega) ls2 tk3 htk4 hls2 (hmin.join hm3 (fun t => ?_))
        constructor
        · rintro ⟨a', ha', hz⟩
          rcases Nat.lt_or_ge a' a with e | e
          · exact Or.inl ⟨a', e, hz⟩
          · right; rw [show a' = a by omega] at hz; exact hz
        · rintro (⟨a', ha', hz⟩ | hz)
          · exact ⟨a', by omega, hz⟩
          · exact ⟨a, by omega, hz⟩
      · exact absurd rfl h_175

set_option maxRecDepth 100000 in
set_option maxHeartbeats 4000000 in
theorem c_down5_1 {k : Cx} {L0 : Launch} {σ : St} {ta : Nat} {F : Nat → Int} (hF : σ.2 ta = some (eI k 4845 F)) (hFr : ∀ j, 0 ≤ F j ∧ F j ≤ 13) {cy cn : Nat} {g : Int} {ls : Nat} (hO : σ.2 (ta + 4) = some (oLeast ta cy cn g ls)) (hg : -1 ≤ g ∧ g ≤ 13) (hls : ls < 65536) (hcy : 1 ≤ cy ∧ cy ≤ 4) (hcn : 1 ≤ cn ∧ cn ≤ 4) {h : Q4} {hv tk : Nat → Int} (hH : σ.2 (ta + 5) = some (eI k 8 hv)) (hhv : ∀ j, j < 8 → hv j = (qat h j : Int)) (hT : σ.2 (ta + 6) = some (eI k 8 tk)) {w : Nat → Nat} (hW : σ.2 (ta + 7) = some (eI k 68 (fun j => (w j : Int)))) (hwl : ∀ j, w j < 65536) (hwm : ∀ c, 1 ≤ c → c < h.1 - h.2.1 → w c ||| w (c + 1) = w (c + 1)) (hd : Dec h) (h16 : h.1 ≤ 16) (hFm : Fm F h) {t2 t3 : Nat} (hs : Spl h (t2, t2, t2, t3)) (htk : ∀ j, 1 < j → j < 8 → tk j = (qat (t2, t2, t2, t3) j : Int)) {y0 n0 : Int} (hy0 : y0 = ((PL 2 (yS cy h (t2, t2, t2, t3)).2.2.1 + PL 3 (yS cy h (t2, t2, t2, t3)).2.2.2 : Nat) : Int)) (hn0 : n0 = ((PL 2 (nS cn h (t2, t2, t2, t3)).2.2.1 + PL 3 (nS cn h (t2, t2, t2, t3)).2.2.2 : Nat) : Int)) : CtrV k L0 mX5_down 4 0 0 [.ref (ta + 4), .int (iZ (1 : Int)), .int (iZ y0), .int (iZ n0)] σ (fun v σ' => v = .int (iZ 0) ∧ ∃ (ls' : Nat) (tk2 : Nat → Int), MinOf w (T1 F g cy cn h t2 t3) ls ls' ∧ ls' < 65536 ∧ (∀ j, 1 < j → j < 8 → tk2 j = tk j) ∧ σ' = UL k σ ta cy cn g ls' tk2) := by
  refine Ctr.of (by decide +kernel) rfl (Nat.le_of_ble_eq_true rfl) ?_
  intro κ hl0 S
  subst hl0
  subst hy0
  subst hn0
  obtain ⟨hs1, hs2, hs3⟩ := id hs
  have hA1 : tk 2 = ((t2 : Nat) : Int) := htk 2 (by decide) (by decide)
  have hB0 : hv 1 = ((h.2.1 : Nat) : Int) := hhv 1 (by decide)
  have hB1 : hv 2 = ((h.2.2.1 : Nat) : Int) := hhv 2 (by decide)
  have hCy := hhv (1 + cy) (by omega)
  have hDy := htk (1 + cy) (by omega) (by omega)
  have hDn := htk (1 + cn) (by omega) (by omega)
  have m1 := qat_mono hs3 (1 + cy)
  have m2 := qat_mono hs3 (1 + cn)
  have m5 : h.2.1 ≤ h.1 ∧ h.2.2.1 ≤ h.2.1 ∧ h.2.2.2 ≤ h.2.2.1 := hd
  refine r_iload_n S dX5_down_0 rfl ?_
  refine r_if_lt S dX5_down_1 (tgt := 9) (by decide) ⟨by omega, by omega⟩ (fun h_1 => ?_) (fun h_1 => ?_)
  · exact absurd h_1 (by decide)
  · refine r_iload_n S dX5_down_4 rfl ?_
    refine r_iconst S dX5_down_5 ?_
    refine r_icmp_lt S dX5_down_6 (tgt := 11) (by decide) ⟨by omega, by omega⟩ ⟨by omega, by omega⟩ (fun h_6 => ?_) (fun h_6 => ?_)
    · refine r_aload_n S dX5_down_11 rfl ?_
      refine r_getf S g_RX5_15_5 dX5_down_12 (by repeat (first | assumption | exact sUp_same | exact sNew_same | refine sUp_ne (by first | assumption | omega) ?_)) rfl ?_
      refine r_iload_n S dX5_down_15 rfl ?_
      refine r_iconst S dX5_down_16 ?_
      refine r_iadd S dX5_down_17 ?_
      refine r_ialdN S (2) dX5_down_18 (by repeat (first | assumption | exact sUp_same | exact sNew_same | refine sUp_ne (by first | assumption | omega) ?_)) (by rfl) (by omega) (by decide) ?_
      rw [hA1]
      refine r_istore S dX5_down_19 rfl (by decide) (lv' := [_, _, _, _, _, _, _, _, _, _, _, _]) rfl ?_
      refine r_aload_n S dX5_down_21 rfl ?_
      refine r_getf S g_RX5_9_5 dX5_down_22 (by repeat (first | assumption | exact sUp_same | exact sNew_same | refine sUp_ne (by first | assumption | omega) ?_)) rfl ?_
      refine r_iload_n S dX5_down_25 rfl ?_
      refine r_ialdN S (1) dX5_down_26 (by repeat (first | assumption | exact sUp_same | exact sNew_same | refine sUp_ne (by first | assumption | omega) ?_)) (by rfl) (by omega) (by decide) ?_
      rw [hB0]
      refine r_aload_n S dX5_down_27 rfl ?_
      refine r_getf S g_RX5_9_5 dX5_down_28 (by repeat (first | assumption | exact sUp_same | exact sNew_same | refine sUp_ne (by first | assumption | omega) ?_)) rfl ?_
      refine r_iload_n S dX5_down_31 rfl ?_
      refine r_iconst S dX5_down_32 ?_
      refine r_iadd S dX5_down_33 ?_
      refine r_ialdN S (2) dX5_down_34 (by repeat (first | assumption | exact sUp_same | exact sNew_same | refine sUp_ne (by first | assumption | omega) ?_)) (by rfl) (by omega) (by decide) ?_
      rw [hB1]
      refine r_isub S dX5_down_35 ?_
      refine r_num (z' := (((h.2.1 - h.2.2.1) : Nat) : Int)) (by omega) ?_
      refine r_istore S dX5_down_36 rfl (by decide) (lv' := [_, _, _, _, _, _, _, _, _, _, _, _]) rfl ?_
      refine r_aload_n S dX5_down_38 rfl ?_
      refine r_getf S g_RX5_9_5 dX5_down_39 (by repeat (first | assumption | exact sUp_same | exact sNew_same | refine sUp_ne (by first | assumption | omega) ?_)) rfl ?_
      refine r_iload_n S dX5_down_42 rfl ?_
      refine r_aload_n S dX5_down_43 rfl ?_
      refine r_getf S g_RX5_34_5 dX5_down_44 (by repeat (first | assumption | exact sUp_same | exact sNew_same | refine sUp_ne (by first | assumption | omega) ?_)) rfl ?_
      refine r_iadd S dX5_down_47 ?_
      refine r_ialdN S (1 + cy) dX5_down_48 (by repeat (first | assumption | exact sUp_same | exact sNew_same | refine sUp_ne (by first | assumption | omega) ?_)) (by omega) (by omega) (by decide) ?_
      rw [hCy]
      refine r_aload_n S dX5_down_49 rfl ?_
      refine r_getf S g_RX5_15_5 dX5_down_50 (by repeat (first | assumption | exact sUp_same | exact sNew_same | refine sUp_ne (by first | assumption | omega) ?_)) rfl ?_
      refine r_iload_n S dX5_down_53 rfl ?_
      refine r_aload_n S dX5_down_54 rfl ?_
      refine r_getf S g_RX5_34_5 dX5_down_55 (by repeat (first | assumption | exact sUp_same | exact sNew_same | refine sUp_ne (by first | assumption | omega) ?_)) rfl ?_
      refine r_iadd S dX5_down_58 ?_
      refine r_ialdN S (1 + cy) dX5_down_59 (by repeat (first | assumption | exact sUp_same | exact sNew_same | refine sUp_ne (by first | assumption | omega) ?_)) (by omega) (by omega) (by decide) ?_
      rw [hDy]
      refine r_isub S dX5_down_60 ?_
      refine r_num (z' := (((qat h (1 + cy) - qat (t2, t2, t2, t3) (1 + cy)) : Nat) : Int)) (by omega) ?_
      refine r_istore S dX5_down_61 rfl (by decide) (lv' := [_, _, _, _, _, _, _, _, _, _, _, _]) rfl ?_
      refine r_aload_n S dX5_down_63 rfl ?_
      refine r_getf S g_RX5_9_5 dX5_down_64 (by repeat (first | assumption | exact sUp_same | exact sNew_same | refine sUp_ne (by first | assumption | omega) ?_)) rfl ?_
      refine r_iload_n S dX5_down_67 rfl ?_
      refine r_ialdN S (1) dX5_down_68 (by repeat (first | assumption | exact sUp_same | exact sNew_same | refine sUp_ne (by first | assumption | omega) ?_)) (by rfl) (by omega) (by decide) ?_
      rw [hB0]
      refine r_aload_n S dX5_down_69 rfl ?_
      refine r_getf S g_RX5_15_5 dX5_down_70 (by repeat (first | assumption | exact sUp_same | exact sNew_same | refine sUp_ne (by first | assumption | omega) ?_)) rfl ?_
      refine r_iload_n S dX5_down_73 rfl ?_
      refine r_aload_n S dX5_down_74 rfl ?_
      refine r_getf S g_RX5_37_5 dX5_down_75 (by repeat (first | assumption | exact sUp_same | exact sNew_same | refine sUp_ne (by first | assumption | omega) ?_)) rfl ?_
      refine r_iadd S dX5_down_78 ?_
      refine r_ialdN S (1 + cn) dX5_down_79 (by repeat (first | assumption | exact sUp_same | exact sNew_same | refine sUp_ne (by first | assumption | omega) ?_)) (by omega) (by omega) (by decide) ?_
      rw [hDn]
      refine r_iadd S dX5_down_80 ?_
      refine r_num (z' := (((h.2.1 + qat (t2, t2, t2, t3) (1 + cn)) : Nat) : Int)) (by omega) ?_
      refine r_istore S dX5_down_81 rfl (by decide) (lv' := [_, _, _, _, _, _, _, _, _, _, _, _]) rfl ?_
      refine r_iload_n S dX5_down_83 rfl ?_
      refine r_if_ne S dX5_down_84 (tgt := 108) (by decide) ⟨by omega, by omega⟩ (fun h_84 => ?_) (fun h_84 => ?_)
      · refine r_iconst S dX5_down_108 ?_
        refine r_istore S dX5_down_109 rfl (by decide) (lv' := [_, _, _, _, _, _, _, _, _, _, _, _]) rfl ?_
        have h9 := l_down5_1 hF hFr hO hg hls hcy hcn hH hhv hT hW hwl hwm hd h16 hFm hs htk S ((h.2.1 - h.2.2.1) + 1) 0 (by omega) ls tk (fun _ _ _ => rfl) hls (MinOf.none (fun t hz => by obtain ⟨a9, ha9, -⟩ := hz; omega))
        rw [UL_id hO hT] at h9
        exact h9
      · exact absurd h_84 (by decide)
    · exact absurd h_6 (by decide)

set_option maxRecDepth 100000 in
set_option maxHeartbeats 4000000 in
theorem l_down5_2 {κ : Kx} {k : Cx} {σ : St} {ta : Nat} {F : Nat → Int} (hF : σ.2 ta = some (eI k 4845 F)) (hFr : ∀ j, 0 ≤ F j ∧ F j ≤ 13) {cy cn : Nat} {g : Int} {ls : Nat} (hO : σ.2 (ta + 4) = some (oLeast ta cy cn g ls)) (hg : -1 ≤ g ∧ g ≤ 13) (hls : ls < 65536) (hcy : 1 ≤ cy ∧ cy ≤ 4) (hcn : 1 ≤ cn ∧ cn ≤ 4) {h : Q4} {hv tk : Nat → Int} (hH : σ.2 (ta + 5) = some (eI k 8 hv)) (hhv : ∀ j, j < 8 → hv j = (qat h j : Int)) (hT : σ.2 (ta + 6) = some (eI k 8 tk)) {w : Nat → Nat} (hW : σ.2 (ta + 7) = some (eI k 68 (fun j => (w j : Int)))) (hwl : ∀ j, w j < 65536) (hwm : ∀ c, 1 ≤ c → c < h.1 - h.2.1 → w c ||| w (c + 1) = w (c + 1)) (hd : Dec h) (h16 : h.1 ≤ 16) (hFm : Fm F h) {t3 : Nat} (hs : Spl h (t3, t3, t3, t3)) (htk : ∀ j, 2 < j → j < 8 → tk j = (qat (t3, t3, t3, t3) j : Int)) (S : Ok κ k cX5_down 12 RX5 (some .boolean) "down" 5 0 0) : ∀ (m a : Nat), a + m = (h.2.2.1 - h.2.2.2) + 1 → ∀ (ls1 : Nat) (tk' : Nat → Int), (∀ j, 2 < j → j < 8 → tk' j = tk j) → ls1 < 65536 → MinOf w (fun t => ∃ a', a' < a ∧ T1 F g cy cn h (t3 + ow a' (h.2.2.1 - h.2.2.2)) t3 t) ls ls1 → V κ k 12 0 0 (QR κ k (fun r σ' => ∃ v, r = some v ∧ (v = .int (iZ 0) ∧ ∃ (ls' : Nat) (tk2 : Nat → Int), MinOf w (T2 F g cy cn h t3) ls ls' ∧ ls' < 65536 ∧ (∀ j, 2 < j → j < 8 → tk2 j = tk j) ∧ σ' = UL k σ ta cy cn g ls' tk2)) 0 0) 111 [some (.ref (ta + 4)), some (.int (iZ (2 : Int))), some (.int (iZ ((PL 3 (yS cy h (t3, t3, t3, t3)).2.2.2 : Nat) : Int))), some (.int (iZ ((PL 3 (nS cn h (t3, t3, t3, t3)).2.2.2 : Nat) : Int))), some (.int (iZ ((t3 : Nat) : Int))), some (.int (iZ (((h.2.2.1 - h.2.2.2) : Nat) : Int))), some (.int (iZ (((qat h (2 + cy) - qat (t3, t3, t3, t3) (2 + cy)) : Nat) : Int))), some (.int (iZ (((h.2.2.1 + qat (t3, t3, t3, t3) (2 + cn)) : Nat) : Int))), some (.int (iZ (a : Int))), none, none, none] [] (UL k σ ta cy cn g ls1 tk') := by
  intro m
  induction m with
  | zero =>
    intro a hi
    intro ls1 tk' htk' hls1 hmin
    obtain ⟨hs1, hs2, hs3⟩ := id hs
    have m1 := qat_mono hs3 (2 + cy)
    have m2 := qat_mono hs3 (2 + cn)
    have m5 : h.2.1 ≤ h.1 ∧ h.2.2.1 ≤ h.2.1 ∧ h.2.2.2 ≤ h.2.2.1 := hd
    have hpY : PL 3 (yS cy h (t3, t3, t3, t3)).2.2.2 < 5000 := by
      have b1 := PL_top
      have bY := (yS_le (cy := cy) hs)
      have bD := (yS_dec (cy := cy) hs)
      have bb := plQ_lt bD (by have := bY.1; omega)
      unfold plQ at bb
      omega
    have hpN : PL 3 (nS cn h (t3, t3, t3, t3)).2.2.2 < 5000 := by
      have b1 := PL_top
      have bY := (nS_le (cn := cn) hs)
      have bD := (nS_dec (cn := cn) hs)
      have bb := plQ_lt bD (by have := bY.1; omega)
      unfold plQ at bb
      omega
    refine r_iload S dX5_down_111 rfl ?_
    refine r_iload S dX5_down_113 rfl ?_
    refine r_icmp_gt S dX5_down_115 (tgt := 186) (by decide) ⟨by omega, by omega⟩ ⟨by omega, by omega⟩ (fun h_115 => ?_) (fun h_115 => ?_)
    · refine r_iconst S dX5_down_186 ?_
      exact r_zret S dX5_down_187 (by omega) (by omega) (by first | exact Or.inl rfl | exact Or.inr rfl | omega) (⟨_, rfl, rfl, ls1, tk', hmin.congr (fun t => ⟨fun hz => by
            obtain ⟨x, hx, hx2⟩ := hz
            obtain ⟨a9, ha9, rfl⟩ := ow_surj hx
            exact ⟨a9, by omega, hx2⟩, fun hz => by
            obtain ⟨a9, ha9, hx2⟩ := hz
            exact ⟨_, ow_le (by omega), hx2⟩⟩), hls1, htk', rfl⟩)
    · omega
  | succ m ih =>
    intro a hi
    intro ls1 tk' htk' hls1 hmin
    obtain ⟨hs1, hs2, hs3⟩ := id hs
    have m1 := qat_mono hs3 (2 + cy)
    have m2 := qat_mono hs3 (2 + cn)
    have m5 : h.2.1 ≤ h.1 ∧ h.2.2.1 ≤ h.2.1 ∧ h.2.2.2 ≤ h.2.2.1 := hd
    have hpY : PL 3 (yS cy h (t3, t3, t3, t3)).2.2.2 < 5000 := by
      have b1 := PL_top
      have bY := (yS_le (cy := cy) hs)
      have bD := (yS_dec (cy := cy) hs)
      have bb := plQ_lt bD (by have := bY.1; omega)
      unfold plQ at bb
      omega
    have hpN : PL 3 (nS cn h (t3, t3, t3, t3)).2.2.2 < 5000 := by
      have b1 := PL_top
      have bY := (nS_le (cn := cn) hs)
      have bD := (nS_dec (cn := cn) hs)
      have bb := plQ_lt bD (by have := bY.1; omega)
      unfold plQ at bb
      omega
    have hol := ow_le (show a ≤ (h.2.2.1 - h.2.2.2) by omega)
    have hl3 : leQ (t3, t3, t3, t3) h := hs3
    have hl2 : Dec (subQ h (t3, t3, t3, t3)) := hs2
    have hl1 : Dec (t3, t3, t3, t3) := hs1
    simp only [leQ] at hl3
    simp only [Dec, subQ] at hl2
    simp only [Dec] at hl1
    have hsn : Spl h ((t3 + ow a (h.2.2.1 - h.2.2.2)), (t3 + ow a (h.2.2.1 - h.2.2.2)), (t3 + ow a (h.2.2.1 - h.2.2.2)), t3) := by
      refine ⟨?_, ?_, ?_⟩
      · simp only [Dec]; omega
      · simp only [Dec, subQ]; omega
      · simp only [leQ]; omega
    have hag : ∀ i, 2 < i → qat ((t3 + ow a (h.2.2.1 - h.2.2.2)), (t3 + ow a (h.2.2.1 - h.2.2.2)), (t3 + ow a (h.2.2.1 - h.2.2.2)), t3) i = qat (t3, t3, t3, t3) i := by
      intro i hi
      match i with
      | 0 => first | omega | rfl
      | 1 => first | omega | rfl
      | 2 => first | omega | rfl
      | 3 => first | omega | rfl
      | _ + 4 => rfl
    have gy := hag (2 + cy) (by omega)
    have gn := hag (2 + cn) (by omega)
    have ey2 : (yS cy h ((t3 + ow a (h.2.2.1 - h.2.2.2)), (t3 + ow a (h.2.2.1 - h.2.2.2)), (t3 + ow a (h.2.2.1 - h.2.2.2)), t3)).2.2.1 = qat ((t3 + ow a (h.2.2.1 - h.2.2.2)), (t3 + ow a (h.2.2.1 - h.2.2.2)), (t3 + ow a (h.2.2.1 - h.2.2.2)), t3) 2 + (qat h (2 + cy) - qat ((t3 + ow a (h.2.2.1 - h.2.2.2)), (t3 + ow a (h.2.2.1 - h.2.2.2)), (t3 + ow a (h.2.2.1 - h.2.2.2)), t3) (2 + cy)) := yS_at (j := 2) (by decide)
    have en2 : (nS cn h ((t3 + ow a (h.2.2.1 - h.2.2.2)), (t3 + ow a (h.2.2.1 - h.2.2.2)), (t3 + ow a (h.2.2.1 - h.2.2.2)), t3)).2.2.1 = qat h 2 - qat ((t3 + ow a (h.2.2.1 - h.2.2.2)), (t3 + ow a (h.2.2.1 - h.2.2.2)), (t3 + ow a (h.2.2.1 - h.2.2.2)), t3) 2 + qat ((t3 + ow a (h.2.2.1 - h.2.2.2)), (t3 + ow a (h.2.2.1 - h.2.2.2)), (t3 + ow a (h.2.2.1 - h.2.2.2)), t3) (2 + cn) := nS_at (j := 2) (by decide)
    rw [gy] at ey2
    rw [gn] at en2
    have ey2 : (yS cy h ((t3 + ow a (h.2.2.1 - h.2.2.2)), (t3 + ow a (h.2.2.1 - h.2.2.2)), (t3 + ow a (h.2.2.1 - h.2.2.2)), t3)).2.2.1 = (t3 + ow a (h.2.2.1 - h.2.2.2)) + (qat h (2 + cy) - qat (t3, t3, t3, t3) (2 + cy)) := ey2
    have en2 : (nS cn h ((t3 + ow a (h.2.2.1 - h.2.2.2)), (t3 + ow a (h.2.2.1 - h.2.2.2)), (t3 + ow a (h.2.2.1 - h.2.2.2)), t3)).2.2.1 = h.2.2.1 - (t3 + ow a (h.2.2.1 - h.2.2.2)) + qat (t3, t3, t3, t3) (2 + cn) := en2
    have ey3 : (yS cy h ((t3 + ow a (h.2.2.1 - h.2.2.2)), (t3 + ow a (h.2.2.1 - h.2.2.2)), (t3 + ow a (h.2.2.1 - h.2.2.2)), t3)).2.2.2 = qat ((t3 + ow a (h.2.2.1 - h.2.2.2)), (t3 + ow a (h.2.2.1 - h.2.2.2)), (t3 + ow a (h.2.2.1 - h.2.2.2)), t3) 3 + (qat h (3 + cy) - qat ((t3 + ow a (h.2.2.1 - h.2.2.2)), (t3 + ow a (h.2.2.1 - h.2.2.2)), (t3 + ow a (h.2.2.1 - h.2.2.2)), t3) (3 + cy)) := yS_at (j := 3) (by decide)
    have en3 : (nS cn h ((t3 + ow a (h.2.2.1 - h.2.2.2)), (t3 + ow a (h.2.2.1 - h.2.2.2)), (t3 + ow a (h.2.2.1 - h.2.2.2)), t3)).2.2.2 = qat h 3 - qat ((t3 + ow a (h.2.2.1 - h.2.2.2)), (t3 + ow a (h.2.2.1 - h.2.2.2)), (t3 + ow a (h.2.2.1 - h.2.2.2)), t3) 3 + qat ((t3 + ow a (h.2.2.1 - h.2.2.2)), (t3 + ow a (h.2.2.1 - h.2.2.2)), (t3 + ow a (h.2.2.1 - h.2.2.2)), t3) (3 + cn) := nS_at (j := 3) (by decide)
    rw [hag 3 (by decide), hag (3 + cy) (by omega), ← yS_at (cy := cy) (h := h) (t := (t3, t3, t3, t3)) (j := 3) (by decide)] at ey3
    rw [hag 3 (by decide), hag (3 + cn) (by omega), ← nS_at (cn := cn) (h := h) (t := (t3, t3, t3, t3)) (j := 3) (by decide)] at en3
    have ey3 : (yS cy h ((t3 + ow a (h.2.2.1 - h.2.2.2)), (t3 + ow a (h.2.2.1 - h.2.2.2)), (t3 + ow a (h.2.2.1 - h.2.2.2)), t3)).2.2.2 = (yS cy h (t3, t3, t3, t3)).2.2.2 := ey3
    have en3 : (nS cn h ((t3 + ow a (h.2.2.1 - h.2.2.2)), (t3 + ow a (h.2.2.1 - h.2.2.2)), (t3 + ow a (h.2.2.1 - h.2.2.2)), t3)).2.2.2 = (nS cn h (t3, t3, t3, t3)).2.2.2 := en3
    have bY := (yS_le (cy := cy) hsn)
    have bN := (nS_le (cn := cn) hsn)
    simp only [leQ] at bY bN
    have b16 : (t3 + ow a (h.2.2.1 - h.2.2.2)) + (qat h (2 + cy) - qat (t3, t3, t3, t3) (2 + cy)) < 17 := by omega
    have b17 : h.2.2.1 - (t3 + ow a (h.2.2.1 - h.2.2.2)) + qat (t3, t3, t3, t3) (2 + cn) < 17 := by omega
    refine r_iload S dX5_down_111 rfl ?_
    refine r_iload S dX5_down_113 rfl ?_
    refine r_icmp_gt S dX5_down_115 (tgt := 186) (by decide) ⟨by omega, by omega⟩ ⟨by omega, by omega⟩ (fun h_115 => ?_) (fun h_115 => ?_)
    · omega
    · refine r_iload S dX5_down_118 rfl ?_
      refine r_iload S dX5_down_120 rfl ?_
      refine r_iload S dX5_down_122 rfl ?_
      refine r_callS S (c_outward (a := a) (s := (h.2.2.1 - h.2.2.2)) (by omega) (by omega)) k_mX5_outward c_RX5_47 dX5_down_124 (by decide) ⟨by omega, by omega⟩ rfl rfl (Nat.le_of_ble_eq_true rfl) (fun r σ' hp => ?_)
      obtain ⟨_, rfl, rfl, rfl⟩ := hp
      try simp only [Option.toList_some, Option.toList_none, List.cons_append, List.nil_append]
      refine r_iadd S dX5_down_127 ?_
      refine r_num (z' := (((t3 + ow a (h.2.2.1 - h.2.2.2)) : Nat) : Int)) (by rw [Int.natCast_add]; rfl) ?_
      refine r_istore S dX5_down_128 rfl (by decide) (lv' := [_, _, _, _, _, _, _, _, _, _, _, _]) rfl ?_
      refine r_aload_n S dX5_down_130 rfl ?_
      refine r_getf S g_RX5_15_5 dX5_down_131 (by first | assumption | exact UL_O | exact UL_T | exact UL_at (by omega) (by omega) (by assumption)) rfl ?_
      refine r_iload_n S dX5_down_134 rfl ?_
      refine r_iload S dX5_down_135 rfl ?_
      refine r_iastN S (2) dX5_down_137 (by first | assumption | exact UL_O | exact UL_T | exact UL_at (by omega) (by omega) (by assumption)) (by rfl) (by omega) (by decide) ?_
      rw [show sUp (UL k σ ta cy cn g ls1 tk') (ta + 6) (eI k 8 (uZ tk' 2 (((t3 + ow a (h.2.2.1 - h.2.2.2)) : Nat) : Int))) = (UL k σ ta cy cn g ls1 (uZ tk' 2 (((t3 + ow a (h.2.2.1 - h.2.2.2)) : Nat) : Int))) from UL_put k σ ta cy cn g ls1 tk' _]
      refine r_iload_n S dX5_down_138 rfl ?_
      refine r_iload_n S dX5_down_139 rfl ?_
      refine r_iload S dX5_down_140 rfl ?_
      refine r_iload S dX5_down_142 rfl ?_
      refine r_iadd S dX5_down_144 ?_
      refine r_callSN S (c_placeOf (l := 2) (c := (t3 + ow a (h.2.2.1 - h.2.2.2)) + (qat h (2 + cy) - qat (t3, t3, t3, t3) (2 + cy))) (by rfl) (by omega) (by decide) b16) k_mX11_placeOf c_RX5_50 dX5_down_145 (by decide) ⟨by omega, by omega⟩ rfl rfl (Nat.le_of_ble_eq_true rfl) (fun r σ' hp => ?_)
      obtain ⟨_, rfl, rfl, rfl⟩ := hp
      try simp only [Option.toList_some, Option.toList_none, List.cons_append, List.nil_append]
      refine r_iadd S dX5_down_148 ?_
      refine r_istore S dX5_down_149 rfl (by decide) (lv' := [_, _, _, _, _, _, _, _, _, _, _, _]) rfl ?_
      refine r_iload_n S dX5_down_151 rfl ?_
      refine r_iload_n S dX5_down_152 rfl ?_
      refine r_iload S dX5_down_153 rfl ?_
      refine r_iload S dX5_down_155 rfl ?_
      refine r_isub S dX5_down_157 ?_
      refine r_callSN S (c_placeOf (l := 2) (c := h.2.2.1 - (t3 + ow a (h.2.2.1 - h.2.2.2)) + qat (t3, t3, t3, t3) (2 + cn)) (by rfl) (by omega) (by decide) b17) k_mX11_placeOf c_RX5_50 dX5_down_158 (by decide) ⟨by omega, by omega⟩ rfl rfl (Nat.le_of_ble_eq_true rfl) (fun r σ' hp => ?_)
      obtain ⟨_, rfl, rfl, rfl⟩ := hp
      try simp only [Option.toList_some, Option.toList_none, List.cons_append, List.nil_append]
      refine r_iadd S dX5_down_161 ?_
      refine r_istore S dX5_down_162 rfl (by decide) (lv' := [_, _, _, _, _, _, _, _, _, _, _, _]) rfl ?_
      refine r_aload_n S dX5_down_164 rfl ?_
      refine r_iload_n S dX5_down_165 rfl ?_
      refine r_iconst S dX5_down_166 ?_
      refine r_isub S dX5_down_167 ?_
      refine r_num (z' := 1) (by decide) ?_
      refine r_iload S dX5_down_168 rfl ?_
      refine r_iload S dX5_down_170 rfl ?_
      have htkn : ∀ j, 1 < j → j < 8 → uZ tk' 2 (((t3 + ow a (h.2.2.1 - h.2.2.2)) : Nat) : Int) j = (qat ((t3 + ow a (h.2.2.1 - h.2.2.2)), (t3 + ow a (h.2.2.1 - h.2.2.2)), (t3 + ow a (h.2.2.1 - h.2.2.2)), t3) j : Int) := by
        intro j hj hj8
        unfold uZ
        by_cases hjj : j = 2
        · subst hjj
          rw [if_pos rfl]
          rfl
        · rw [if_neg hjj, htk' j (by omega) hj8, htk j (by omega) hj8, hag j (by omega)]
      refine r_callU S (c_down5_1 (t2 := (t3 + ow a (h.2.2.1 - h.2.2.2))) (t3 := t3) (ls := ls1) (UL_at (by omega) (by omega) hF) hFr UL_O hg hls1 hcy hcn (UL_at (by omega) (by omega) hH) hhv UL_T (UL_at (by omega) (by omega) hW) hwl hwm hd h16 hFm hsn htkn (by rw [ey2, ey3]; omega) (by rw [en2, en3]; omega)) k_mX5_down c_RX5_40_5 dX5_down_172 (by decide) ⟨by omega, by omega⟩ (by first | assumption | exact UL_O | exact UL_T | exact UL_at (by omega) (by omega) (by assumption)) rfl rfl (Nat.le_of_ble_eq_true rfl) (fun r σ' hp => ?_)
      obtain ⟨_, rfl, rfl, ls2, tk3, hm3, hls2, htk3, rfl⟩ := hp
      try simp only [Option.toList_some, Option.toList_none, List.cons_append, List.nil_append]
      rw [UL_UL]
      have htk4 : ∀ j, 2 < j → j < 8 → tk3 j = tk j := by
        intro j hj hj8
        rw [htk3 j (by omega) hj8]
        unfold uZ
        rw [if_neg (by omega), htk' j hj hj8]
      refine r_if_eq S dX5_down_175 (tgt := 180) (by decide) ⟨by omega, by omega⟩ (fun h_175 => ?_) (fun h_175 => ?_)
      · refine r_iinc S dX5_down_180 rfl rfl (by decide) (lv' := [_, _, _, _, _, _, _, _, _, _, _, _]) rfl ?_
        refine r_goto S dX5_down_183 (tgt := 111) (by decide) ?_
        refine V.mask [true, true, true, true, true, true, true, true, true, false, false, false] (lv' := [_, _, _, _, _, _, _, _, _, none, none, none]) rfl ?_
        refine ih (a + 1) (by omega) ls2 tk3 htk4 hls2 (hmin.join hm3 (fun t => ?_))
        constructor
        · rintro ⟨a', ha', hz⟩
          rcases Nat.lt_or_ge a' a with e | e
          · exact Or.inl ⟨a', e, hz⟩
          · right; rw [show a' = a by omega] at hz; exact hz
        · rintro (⟨a', ha', hz⟩ | hz)
          · exact ⟨a', by omega, hz⟩
          · exact ⟨a, by omega, hz⟩
      · exact absurd rfl h_175

set_option maxRecDepth 100000 in
set_option maxHeartbeats 4000000 in
theorem c_down5_2 {k : Cx} {L0 : Launch} {σ : St} {ta : Nat} {F : Nat → Int} (hF : σ.2 ta = some (eI k 4845 F)) (hFr : ∀ j, 0 ≤ F j ∧ F j ≤ 13) {cy cn : Nat} {g : Int} {ls : Nat} (hO : σ.2 (ta + 4) = some (oLeast ta cy cn g ls)) (hg : -1 ≤ g ∧ g ≤ 13) (hls : ls < 65536) (hcy : 1 ≤ cy ∧ cy ≤ 4) (hcn : 1 ≤ cn ∧ cn ≤ 4) {h : Q4} {hv tk : Nat → Int} (hH : σ.2 (ta + 5) = some (eI k 8 hv)) (hhv : ∀ j, j < 8 → hv j = (qat h j : Int)) (hT : σ.2 (ta + 6) = some (eI k 8 tk)) {w : Nat → Nat} (hW : σ.2 (ta + 7) = some (eI k 68 (fun j => (w j : Int)))) (hwl : ∀ j, w j < 65536) (hwm : ∀ c, 1 ≤ c → c < h.1 - h.2.1 → w c ||| w (c + 1) = w (c + 1)) (hd : Dec h) (h16 : h.1 ≤ 16) (hFm : Fm F h) {t3 : Nat} (hs : Spl h (t3, t3, t3, t3)) (htk : ∀ j, 2 < j → j < 8 → tk j = (qat (t3, t3, t3, t3) j : Int)) {y0 n0 : Int} (hy0 : y0 = ((PL 3 (yS cy h (t3, t3, t3, t3)).2.2.2 : Nat) : Int)) (hn0 : n0 = ((PL 3 (nS cn h (t3, t3, t3, t3)).2.2.2 : Nat) : Int)) : CtrV k L0 mX5_down 5 0 0 [.ref (ta + 4), .int (iZ (2 : Int)), .int (iZ y0), .int (iZ n0)] σ (fun v σ' => v = .int (iZ 0) ∧ ∃ (ls' : Nat) (tk2 : Nat → Int), MinOf w (T2 F g cy cn h t3) ls ls' ∧ ls' < 65536 ∧ (∀ j, 2 < j → j < 8 → tk2 j = tk j) ∧ σ' = UL k σ ta cy cn g ls' tk2) := by
  refine Ctr.of (by decide +kernel) rfl (Nat.le_of_ble_eq_true rfl) ?_
  intro κ hl0 S
  subst hl0
  subst hy0
  subst hn0
  obtain ⟨hs1, hs2, hs3⟩ := id hs
  have hA1 : tk 3 = ((t3 : Nat) : Int) := htk 3 (by decide) (by decide)
  have hB0 : hv 2 = ((h.2.2.1 : Nat) : Int) := hhv 2 (by decide)
  have hB1 : hv 3 = ((h.2.2.2 : Nat) : Int) := hhv 3 (by decide)
  have hCy := hhv (2 + cy) (by omega)
  have hDy := htk (2 + cy) (by omega) (by omega)
  have hDn := htk (2 + cn) (by omega) (by omega)
  have m1 := qat_mono hs3 (2 + cy)
  have m2 := qat_mono hs3 (2 + cn)
  have m5 : h.2.1 ≤ h.1 ∧ h.2.2.1 ≤ h.2.1 ∧ h.2.2.2 ≤ h.2.2.1 := hd
  refine r_iload_n S dX5_down_0 rfl ?_
  refine r_if_lt S dX5_down_1 (tgt := 9) (by decide) ⟨by omega, by omega⟩ (fun h_1 => ?_) (fun h_1 => ?_)
  · exact absurd h_1 (by decide)
  · refine r_iload_n S dX5_down_4 rfl ?_
    refine r_iconst S dX5_down_5 ?_
    refine r_icmp_lt S dX5_down_6 (tgt := 11) (by decide) ⟨by omega, by omega⟩ ⟨by omega, by omega⟩ (fun h_6 => ?_) (fun h_6 => ?_)
    · refine r_aload_n S dX5_down_11 rfl ?_
      refine r_getf S g_RX5_15_5 dX5_down_12 (by repeat (first | assumption | exact sUp_same | exact sNew_same | refine sUp_ne (by first | assumption | omega) ?_)) rfl ?_
      refine r_iload_n S dX5_down_15 rfl ?_
      refine r_iconst S dX5_down_16 ?_
      refine r_iadd S dX5_down_17 ?_
      refine r_ialdN S (3) dX5_down_18 (by repeat (first | assumption | exact sUp_same | exact sNew_same | refine sUp_ne (by first | assumption | omega) ?_)) (by rfl) (by omega) (by decide) ?_
      rw [hA1]
      refine r_istore S dX5_down_19 rfl (by decide) (lv' := [_, _, _, _, _, _, _, _, _, _, _, _]) rfl ?_
      refine r_aload_n S dX5_down_21 rfl ?_
      refine r_getf S g_RX5_9_5 dX5_down_22 (by repeat (first | assumption | exact sUp_same | exact sNew_same | refine sUp_ne (by first | assumption | omega) ?_)) rfl ?_
      refine r_iload_n S dX5_down_25 rfl ?_
      refine r_ialdN S (2) dX5_down_26 (by repeat (first | assumption | exact sUp_same | exact sNew_same | refine sUp_ne (by first | assumption | omega) ?_)) (by rfl) (by omega) (by decide) ?_
      rw [hB0]
      refine r_aload_n S dX5_down_27 rfl ?_
      refine r_getf S g_RX5_9_5 dX5_down_28 (by repeat (first | assumption | exact sUp_same | exact sNew_same | refine sUp_ne (by first | assumption | omega) ?_)) rfl ?_
      refine r_iload_n S dX5_down_31 rfl ?_
      refine r_iconst S dX5_down_32 ?_
      refine r_iadd S dX5_down_33 ?_
      refine r_ialdN S (3) dX5_down_34 (by repeat (first | assumption | exact sUp_same | exact sNew_same | refine sUp_ne (by first | assumption | omega) ?_)) (by rfl) (by omega) (by decide) ?_
      rw [hB1]
      refine r_isub S dX5_down_35 ?_
      refine r_num (z' := (((h.2.2.1 - h.2.2.2) : Nat) : Int)) (by omega) ?_
      refine r_istore S dX5_down_36 rfl (by decide) (lv' := [_, _, _, _, _, _, _, _, _, _, _, _]) rfl ?_
      refine r_aload_n S dX5_down_38 rfl ?_
      refine r_getf S g_RX5_9_5 dX5_down_39 (by repeat (first | assumption | exact sUp_same | exact sNew_same | refine sUp_ne (by first | assumption | omega) ?_)) rfl ?_
      refine r_iload_n S dX5_down_42 rfl ?_
      refine r_aload_n S dX5_down_43 rfl ?_
      refine r_getf S g_RX5_34_5 dX5_down_44 (by repeat (first | assumption | exact sUp_same | exact sNew_same | refine sUp_ne (by first | assumption | omega) ?_)) rfl ?_
      refine r_iadd S dX5_down_47 ?_
      refine r_ialdN S (2 + cy) dX5_down_48 (by repeat (first | assumption | exact sUp_same | exact sNew_same | refine sUp_ne (by first | assumption | omega) ?_)) (by omega) (by omega) (by decide) ?_
      rw [hCy]
      refine r_aload_n S dX5_down_49 rfl ?_
      refine r_getf S g_RX5_15_5 dX5_down_50 (by repeat (first | assumption | exact sUp_same | exact sNew_same | refine sUp_ne (by first | assumption | omega) ?_)) rfl ?_
      refine r_iload_n S dX5_down_53 rfl ?_
      refine r_aload_n S dX5_down_54 rfl ?_
      refine r_getf S g_RX5_34_5 dX5_down_55 (by repeat (first | assumption | exact sUp_same | exact sNew_same | refine sUp_ne (by first | assumption | omega) ?_)) rfl ?_
      refine r_iadd S dX5_down_58 ?_
      refine r_ialdN S (2 + cy) dX5_down_59 (by repeat (first | assumption | exact sUp_same | exact sNew_same | refine sUp_ne (by first | assumption | omega) ?_)) (by omega) (by omega) (by decide) ?_
      rw [hDy]
      refine r_isub S dX5_down_60 ?_
      refine r_num (z' := (((qat h (2 + cy) - qat (t3, t3, t3, t3) (2 + cy)) : Nat) : Int)) (by omega) ?_
      refine r_istore S dX5_down_61 rfl (by decide) (lv' := [_, _, _, _, _, _, _, _, _, _, _, _]) rfl ?_
      refine r_aload_n S dX5_down_63 rfl ?_
      refine r_getf S g_RX5_9_5 dX5_down_64 (by repeat (first | assumption | exact sUp_same | exact sNew_same | refine sUp_ne (by first | assumption | omega) ?_)) rfl ?_
      refine r_iload_n S dX5_down_67 rfl ?_
      refine r_ialdN S (2) dX5_down_68 (by repeat (first | assumption | exact sUp_same | exact sNew_same | refine sUp_ne (by first | assumption | omega) ?_)) (by rfl) (by omega) (by decide) ?_
      rw [hB0]
      refine r_aload_n S dX5_down_69 rfl ?_
      refine r_getf S g_RX5_15_5 dX5_down_70 (by repeat (first | assumption | exact sUp_same | exact sNew_same | refine sUp_ne (by first | assumption | omega) ?_)) rfl ?_
      refine r_iload_n S dX5_down_73 rfl ?_
      refine r_aload_n S dX5_down_74 rfl ?_
      refine r_getf S g_RX5_37_5 dX5_down_75 (by repeat (first | assumption | exact sUp_same | exact sNew_same | refine sUp_ne (by first | assumption | omega) ?_)) rfl ?_
      refine r_iadd S dX5_down_78 ?_
      refine r_ialdN S (2 + cn) dX5_down_79 (by repeat (first | assumption | exact sUp_same | exact sNew_same | refine sUp_ne (by first | assumption | omega) ?_)) (by omega) (by omega) (by decide) ?_
      rw [hDn]
      refine r_iadd S dX5_down_80 ?_
      refine r_num (z' := (((h.2.2.1 + qat (t3, t3, t3, t3) (2 + cn)) : Nat) : Int)) (by omega) ?_
      refine r_istore S dX5_down_81 rfl (by decide) (lv' := [_, _, _, _, _, _, _, _, _, _, _, _]) rfl ?_
      refine r_iload_n S dX5_down_83 rfl ?_
      refine r_if_ne S dX5_down_84 (tgt := 108) (by decide) ⟨by omega, by omega⟩ (fun h_84 => ?_) (fun h_84 => ?_)
      · refine r_iconst S dX5_down_108 ?_
        refine r_istore S dX5_down_109 rfl (by decide) (lv' := [_, _, _, _, _, _, _, _, _, _, _, _]) rfl ?_
        have h9 := l_down5_2 hF hFr hO hg hls hcy hcn hH hhv hT hW hwl hwm hd h16 hFm hs htk S ((h.2.2.1 - h.2.2.2) + 1) 0 (by omega) ls tk (fun _ _ _ => rfl) hls (MinOf.none (fun t hz => by obtain ⟨a9, ha9, -⟩ := hz; omega))
        rw [UL_id hO hT] at h9
        exact h9
      · exact absurd h_84 (by decide)
    · exact absurd h_6 (by decide)

set_option maxRecDepth 100000 in
set_option maxHeartbeats 4000000 in
theorem l_down5_3 {κ : Kx} {k : Cx} {σ : St} {ta : Nat} {F : Nat → Int} (hF : σ.2 ta = some (eI k 4845 F)) (hFr : ∀ j, 0 ≤ F j ∧ F j ≤ 13) {cy cn : Nat} {g : Int} {ls : Nat} (hO : σ.2 (ta + 4) = some (oLeast ta cy cn g ls)) (hg : -1 ≤ g ∧ g ≤ 13) (hls : ls < 65536) (hcy : 1 ≤ cy ∧ cy ≤ 4) (hcn : 1 ≤ cn ∧ cn ≤ 4) {h : Q4} {hv tk : Nat → Int} (hH : σ.2 (ta + 5) = some (eI k 8 hv)) (hhv : ∀ j, j < 8 → hv j = (qat h j : Int)) (hT : σ.2 (ta + 6) = some (eI k 8 tk)) {w : Nat → Nat} (hW : σ.2 (ta + 7) = some (eI k 68 (fun j => (w j : Int)))) (hwl : ∀ j, w j < 65536) (hwm : ∀ c, 1 ≤ c → c < h.1 - h.2.1 → w c ||| w (c + 1) = w (c + 1)) (hd : Dec h) (h16 : h.1 ≤ 16) (hFm : Fm F h) (hs : Spl h (0, 0, 0, 0)) (htk : ∀ j, 3 < j → j < 8 → tk j = (qat (0, 0, 0, 0) j : Int)) (S : Ok κ k cX5_down 12 RX5 (some .boolean) "down" 6 0 0) : ∀ (m a : Nat), a + m = (h.2.2.2 - 0) + 1 → ∀ (ls1 : Nat) (tk' : Nat → Int), (∀ j, 3 < j → j < 8 → tk' j = tk j) → ls1 < 65536 → MinOf w (fun t => ∃ a', a' < a ∧ T2 F g cy cn h (0 + ow a' (h.2.2.2 - 0)) t) ls ls1 → V κ k 12 0 0 (QR κ k (fun r σ' => ∃ v, r = some v ∧ (v = .int (iZ 0) ∧ ∃ (ls' : Nat) (tk2 : Nat → Int), MinOf w (T3 F g cy cn h) ls ls' ∧ ls' < 65536 ∧ (∀ j, 3 < j → j < 8 → tk2 j = tk j) ∧ σ' = UL k σ ta cy cn g ls' tk2)) 0 0) 111 [some (.ref (ta + 4)), some (.int (iZ (3 : Int))), some (.int (iZ ((0 : Nat) : Int))), some (.int (iZ ((0 : Nat) : Int))), some (.int (iZ ((0 : Nat) : Int))), some (.int (iZ (((h.2.2.2 - 0) : Nat) : Int))), some (.int (iZ (((qat h (3 + cy) - qat (0, 0, 0, 0) (3 + cy)) : Nat) : Int))), some (.int (iZ (((h.2.2.2 + qat (0, 0, 0, 0) (3 + cn)) : Nat) : Int))), some (.int (iZ (a : Int))), none, none, none] [] (UL k σ ta cy cn g ls1 tk') := by
  intro m
  induction m with
  | zero =>
    intro a hi
    intro ls1 tk' htk' hls1 hmin
    obtain ⟨hs1, hs2, hs3⟩ := id hs
    have m1 := qat_mono hs3 (3 + cy)
    have m2 := qat_mono hs3 (3 + cn)
    have m5 : h.2.1 ≤ h.1 ∧ h.2.2.1 ≤ h.2.1 ∧ h.2.2.2 ≤ h.2.2.1 := hd
    have hpY : 0 < 5000 := by
      have b1 := PL_top
      have bY := (yS_le (cy := cy) hs)
      have bD := (yS_dec (cy := cy) hs)
      have bb := plQ_lt bD (by have := bY.1; omega)
      unfold plQ at bb
      omega
    have hpN : 0 < 5000 := by
      have b1 := PL_top
      have bY := (nS_le (cn := cn) hs)
      have bD := (nS_dec (cn := cn) hs)
      have bb := plQ_lt bD (by have := bY.1; omega)
      unfold plQ at bb
      omega
    refine r_iload S dX5_down_111 rfl ?_
    refine r_iload S dX5_down_113 rfl ?_
    refine r_icmp_gt S dX5_down_115 (tgt := 186) (by decide) ⟨by omega, by omega⟩ ⟨by omega, by omega⟩ (fun h_115 => ?_) (fun h_115 => ?_)
    · refine r_iconst S dX5_down_186 ?_
      exact r_zret S dX5_down_187 (by omega) (by omega) (by first | exact Or.inl rfl | exact Or.inr rfl | omega) (⟨_, rfl, rfl, ls1, tk', hmin.congr (fun t => ⟨fun hz => by
            obtain ⟨x, hx, hx2⟩ := hz
            obtain ⟨a9, ha9, rfl⟩ := ow_surj hx
            exact ⟨a9, by omega, hx2⟩, fun hz => by
            obtain ⟨a9, ha9, hx2⟩ := hz
            exact ⟨_, ow_le (by omega), hx2⟩⟩), hls1, htk', rfl⟩)
    · omega
  | succ m ih =>
    intro a hi
    intro ls1 tk' htk' hls1 hmin
    obtain ⟨hs1, hs2, hs3⟩ := id hs
    have m1 := qat_mono hs3 (3 + cy)
    have m2 := qat_mono hs3 (3 + cn)
    have m5 : h.2.1 ≤ h.1 ∧ h.2.2.1 ≤ h.2.1 ∧ h.2.2.2 ≤ h.2.2.1 := hd
    have hpY : 0 < 5000 := by
      have b1 := PL_top
      have bY := (yS_le (cy := cy) hs)
      have bD := (yS_dec (cy := cy) hs)
      have bb := plQ_lt bD (by have := bY.1; omega)
      unfold plQ at bb
      omega
    have hpN : 0 < 5000 := by
      have b1 := PL_top
      have bY := (nS_le (cn := cn) hs)
      have bD := (nS_dec (cn := cn) hs)
      have bb := plQ_lt bD (by have := bY.1; omega)
      unfold plQ at bb
      omega
    have hol := ow_le (show a ≤ (h.2.2.2 - 0) by omega)
    have hl3 : leQ (0, 0, 0, 0) h := hs3
    have hl2 : Dec (subQ h (0, 0, 0, 0)) := hs2
    have hl1 : Dec (0, 0, 0, 0) := hs1
    simp only [leQ] at hl3
    simp only [Dec, subQ] at hl2
    simp only [Dec] at hl1
    have hsn : Spl h ((0 + ow a (h.2.2.2 - 0)), (0 + ow a (h.2.2.2 - 0)), (0 + ow a (h.2.2.2 - 0)), (0 + ow a (h.2.2.2 - 0))) := by
      refine ⟨?_, ?_, ?_⟩
      · simp only [Dec]; omega
      · simp only [Dec, subQ]; omega
      · simp only [leQ]; omega
    have hag : ∀ i, 3 < i → qat ((0 + ow a (h.2.2.2 - 0)), (0 + ow a (h.2.2.2 - 0)), (0 + ow a (h.2.2.2 - 0)), (0 + ow a (h.2.2.2 - 0))) i = qat (0, 0, 0, 0) i := by
      intro i hi
      match i with
      | 0 => first | omega | rfl
      | 1 => first | omega | rfl
      | 2 => first | omega | rfl
      | 3 => first | omega | rfl
      | _ + 4 => rfl
    have gy := hag (3 + cy) (by omega)
    have gn := hag (3 + cn) (by omega)
    have ey3 : (yS cy h ((0 + ow a (h.2.2.2 - 0)), (0 + ow a (h.2.2.2 - 0)), (0 + ow a (h.2.2.2 - 0)), (0 + ow a (h.2.2.2 - 0)))).2.2.2 = qat ((0 + ow a (h.2.2.2 - 0)), (0 + ow a (h.2.2.2 - 0)), (0 + ow a (h.2.2.2 - 0)), (0 + ow a (h.2.2.2 - 0))) 3 + (qat h (3 + cy) - qat ((0 + ow a (h.2.2.2 - 0)), (0 + ow a (h.2.2.2 - 0)), (0 + ow a (h.2.2.2 - 0)), (0 + ow a (h.2.2.2 - 0))) (3 + cy)) := yS_at (j := 3) (by decide)
    have en3 : (nS cn h ((0 + ow a (h.2.2.2 - 0)), (0 + ow a (h.2.2.2 - 0)), (0 + ow a (h.2.2.2 - 0)), (0 + ow a (h.2.2.2 - 0)))).2.2.2 = qat h 3 - qat ((0 + ow a (h.2.2.2 - 0)), (0 + ow a (h.2.2.2 - 0)), (0 + ow a (h.2.2.2 - 0)), (0 + ow a (h.2.2.2 - 0))) 3 + qat ((0 + ow a (h.2.2.2 - 0)), (0 + ow a (h.2.2.2 - 0)), (0 + ow a (h.2.2.2 - 0)), (0 + ow a (h.2.2.2 - 0))) (3 + cn) := nS_at (j := 3) (by decide)
    rw [gy] at ey3
    rw [gn] at en3
    have ey3 : (yS cy h ((0 + ow a (h.2.2.2 - 0)), (0 + ow a (h.2.2.2 - 0)), (0 + ow a (h.2.2.2 - 0)), (0 + ow a (h.2.2.2 - 0)))).2.2.2 = (0 + ow a (h.2.2.2 - 0)) + (qat h (3 + cy) - qat (0, 0, 0, 0) (3 + cy)) := ey3
    have en3 : (nS cn h ((0 + ow a (h.2.2.2 - 0)), (0 + ow a (h.2.2.2 - 0)), (0 + ow a (h.2.2.2 - 0)), (0 + ow a (h.2.2.2 - 0)))).2.2.2 = h.2.2.2 - (0 + ow a (h.2.2.2 - 0)) + qat (0, 0, 0, 0) (3 + cn) := en3
    have bY := (yS_le (cy := cy) hsn)
    have bN := (nS_le (cn := cn) hsn)
    simp only [leQ] at bY bN
    have b16 : (0 + ow a (h.2.2.2 - 0)) + (qat h (3 + cy) - qat (0, 0, 0, 0) (3 + cy)) < 17 := by omega
    have b17 : h.2.2.2 - (0 + ow a (h.2.2.2 - 0)) + qat (0, 0, 0, 0) (3 + cn) < 17 := by omega
    refine r_iload S dX5_down_111 rfl ?_
    refine r_iload S dX5_down_113 rfl ?_
    refine r_icmp_gt S dX5_down_115 (tgt := 186) (by decide) ⟨by omega, by omega⟩ ⟨by omega, by omega⟩ (fun h_115 => ?_) (fun h_115 => ?_)
    · omega
    · refine r_iload S dX5_down_118 rfl ?_
      refine r_iload S dX5_down_120 rfl ?_
      refine r_iload S dX5_down_122 rfl ?_
      refine r_callS S (c_outward (a := a) (s := (h.2.2.2 - 0)) (by omega) (by omega)) k_mX5_outward c_RX5_47 dX5_down_124 (by decide) ⟨by omega, by omega⟩ rfl rfl (Nat.le_of_ble_eq_true rfl) (fun r σ' hp => ?_)
      obtain ⟨_, rfl, rfl, rfl⟩ := hp
      try simp only [Option.toList_some, Option.toList_none, List.cons_append, List.nil_append]
      refine r_iadd S dX5_down_127 ?_
      refine r_num (z' := (((0 + ow a (h.2.2.2 - 0)) : Nat) : Int)) (by rw [Int.natCast_add]; rfl) ?_
      refine r_istore S dX5_down_128 rfl (by decide) (lv' := [_, _, _, _, _, _, _, _, _, _, _, _]) rfl ?_
      refine r_aload_n S dX5_down_130 rfl ?_
      refine r_getf S g_RX5_15_5 dX5_down_131 (by first | assumption | exact UL_O | exact UL_T | exact UL_at (by omega) (by omega) (by assumption)) rfl ?_
      refine r_iload_n S dX5_down_134 rfl ?_
      refine r_iload S dX5_down_135 rfl ?_
      refine r_iastN S (3) dX5_down_137 (by first | assumption | exact UL_O | exact UL_T | exact UL_at (by omega) (by omega) (by assumption)) (by rfl) (by omega) (by decide) ?_
      rw [show sUp (UL k σ ta cy cn g ls1 tk') (ta + 6) (eI k 8 (uZ tk' 3 (((0 + ow a (h.2.2.2 - 0)) : Nat) : Int))) = (UL k σ ta cy cn g ls1 (uZ tk' 3 (((0 + ow a (h.2.2.2 - 0)) : Nat) : Int))) from UL_put k σ ta cy cn g ls1 tk' _]
      refine r_iload_n S dX5_down_138 rfl ?_
      refine r_iload_n S dX5_down_139 rfl ?_
      refine r_iload S dX5_down_140 rfl ?_
      refine r_iload S dX5_down_142 rfl ?_
      refine r_iadd S dX5_down_144 ?_
      refine r_callSN S (c_placeOf (l := 3) (c := (0 + ow a (h.2.2.2 - 0)) + (qat h (3 + cy) - qat (0, 0, 0, 0) (3 + cy))) (by rfl) (by omega) (by decide) b16) k_mX11_placeOf c_RX5_50 dX5_down_145 (by decide) ⟨by omega, by omega⟩ rfl rfl (Nat.le_of_ble_eq_true rfl) (fun r σ' hp => ?_)
      obtain ⟨_, rfl, rfl, rfl⟩ := hp
      try simp only [Option.toList_some, Option.toList_none, List.cons_append, List.nil_append]
      refine r_iadd S dX5_down_148 ?_
      refine r_istore S dX5_down_149 rfl (by decide) (lv' := [_, _, _, _, _, _, _, _, _, _, _, _]) rfl ?_
      refine r_iload_n S dX5_down_151 rfl ?_
      refine r_iload_n S dX5_down_152 rfl ?_
      refine r_iload S dX5_down_153 rfl ?_
      refine r_iload S dX5_down_155 rfl ?_
      refine r_isub S dX5_down_157 ?_
      refine r_callSN S (c_placeOf (l := 3) (c := h.2.2.2 - (0 + ow a (h.2.2.2 - 0)) + qat (0, 0, 0, 0) (3 + cn)) (by rfl) (by omega) (by decide) b17) k_mX11_placeOf c_RX5_50 dX5_down_158 (by decide) ⟨by omega, by omega⟩ rfl rfl (Nat.le_of_ble_eq_true rfl) (fun r σ' hp => ?_)
      obtain ⟨_, rfl, rfl, rfl⟩ := hp
      try simp only [Option.toList_some, Option.toList_none, List.cons_append, List.nil_append]
      refine r_iadd S dX5_down_161 ?_
      refine r_istore S dX5_down_162 rfl (by decide) (lv' := [_, _, _, _, _, _, _, _, _, _, _, _]) rfl ?_
      refine r_aload_n S dX5_down_164 rfl ?_
      refine r_iload_n S dX5_down_165 rfl ?_
      refine r_iconst S dX5_down_166 ?_
      refine r_isub S dX5_down_167 ?_
      refine r_num (z' := 2) (by decide) ?_
      refine r_iload S dX5_down_168 rfl ?_
      refine r_iload S dX5_down_170 rfl ?_
      have htkn : ∀ j, 2 < j → j < 8 → uZ tk' 3 (((0 + ow a (h.2.2.2 - 0)) : Nat) : Int) j = (qat ((0 + ow a (h.2.2.2 - 0)), (0 + ow a (h.2.2.2 - 0)), (0 + ow a (h.2.2.2 - 0)), (0 + ow a (h.2.2.2 - 0))) j : Int) := by
        intro j hj hj8
        unfold uZ
        by_cases hjj : j = 3
        · subst hjj
          rw [if_pos rfl]
          rfl
        · rw [if_neg hjj, htk' j (by omega) hj8, htk j (by omega) hj8, hag j (by omega)]
      refine r_callU S (c_down5_2 (t3 := (0 + ow a (h.2.2.2 - 0))) (ls := ls1) (UL_at (by omega) (by omega) hF) hFr UL_O hg hls1 hcy hcn (UL_at (by omega) (by omega) hH) hhv UL_T (UL_at (by omega) (by omega) hW) hwl hwm hd h16 hFm hsn htkn (by rw [ey3]; omega) (by rw [en3]; omega)) k_mX5_down c_RX5_40_5 dX5_down_172 (by decide) ⟨by omega, by omega⟩ (by first | assumption | exact UL_O | exact UL_T | exact UL_at (by omega) (by omega) (by assumption)) rfl rfl (Nat.le_of_ble_eq_true rfl) (fun r σ' hp => ?_)
      obtain ⟨_, rfl, rfl, ls2, tk3, hm3, hls2, htk3, rfl⟩ := hp
      try simp only [Option.toList_some, Option.toList_none, List.cons_append, List.nil_append]
      rw [UL_UL]
      have htk4 : ∀ j, 3 < j → j < 8 → tk3 j = tk j := by
        intro j hj hj8
        rw [htk3 j (by omega) hj8]
        unfold uZ
        rw [if_neg (by omega), htk' j hj hj8]
      refine r_if_eq S dX5_down_175 (tgt := 180) (by decide) ⟨by omega, by omega⟩ (fun h_175 => ?_) (fun h_175 => ?_)
      · refine r_iinc S dX5_down_180 rfl rfl (by decide) (lv' := [_, _, _, _, _, _, _, _, _, _, _, _]) rfl ?_
        refine r_goto S dX5_down_183 (tgt := 111) (by decide) ?_
        refine V.mask [true, true, true, true, true, true, true, true, true, false, false, false] (lv' := [_, _, _, _, _, _, _, _, _, none, none, none]) rfl ?_
        refine ih (a + 1) (by omega) ls2 tk3 htk4 hls2 (hmin.join hm3 (fun t => ?_))
        constructor
        · rintro ⟨a', ha', hz⟩
          rcases Nat.lt_or_ge a' a with e | e
          · exact Or.inl ⟨a', e, hz⟩
          · right; rw [show a' = a by omega] at hz; exact hz
        · rintro (⟨a', ha', hz⟩ | hz)
          · exact ⟨a', by omega, hz⟩
          · exact ⟨a, by omega, hz⟩
      · exact absurd rfl h_175

set_option maxRecDepth 100000 in
set_option maxHeartbeats 4000000 in
theorem c_down5_3 {k : Cx} {L0 : Launch} {σ : St} {ta : Nat} {F : Nat → Int} (hF : σ.2 ta = some (eI k 4845 F)) (hFr : ∀ j, 0 ≤ F j ∧ F j ≤ 13) {cy cn : Nat} {g : Int} {ls : Nat} (hO : σ.2 (ta + 4) = some (oLeast ta cy cn g ls)) (hg : -1 ≤ g ∧ g ≤ 13) (hls : ls < 65536) (hcy : 1 ≤ cy ∧ cy ≤ 4) (hcn : 1 ≤ cn ∧ cn ≤ 4) {h : Q4} {hv tk : Nat → Int} (hH : σ.2 (ta + 5) = some (eI k 8 hv)) (hhv : ∀ j, j < 8 → hv j = (qat h j : Int)) (hT : σ.2 (ta + 6) = some (eI k 8 tk)) {w : Nat → Nat} (hW : σ.2 (ta + 7) = some (eI k 68 (fun j => (w j : Int)))) (hwl : ∀ j, w j < 65536) (hwm : ∀ c, 1 ≤ c → c < h.1 - h.2.1 → w c ||| w (c + 1) = w (c + 1)) (hd : Dec h) (h16 : h.1 ≤ 16) (hFm : Fm F h) (hs : Spl h (0, 0, 0, 0)) (htk : ∀ j, 3 < j → j < 8 → tk j = (qat (0, 0, 0, 0) j : Int)) {y0 n0 : Int} (hy0 : y0 = ((0 : Nat) : Int)) (hn0 : n0 = ((0 : Nat) : Int)) : CtrV k L0 mX5_down 6 0 0 [.ref (ta + 4), .int (iZ (3 : Int)), .int (iZ y0), .int (iZ n0)] σ (fun v σ' => v = .int (iZ 0) ∧ ∃ (ls' : Nat) (tk2 : Nat → Int), MinOf w (T3 F g cy cn h) ls ls' ∧ ls' < 65536 ∧ (∀ j, 3 < j → j < 8 → tk2 j = tk j) ∧ σ' = UL k σ ta cy cn g ls' tk2) := by
  refine Ctr.of (by decide +kernel) rfl (Nat.le_of_ble_eq_true rfl) ?_
  intro κ hl0 S
  subst hl0
  subst hy0
  subst hn0
  obtain ⟨hs1, hs2, hs3⟩ := id hs
  have hA1 : tk 4 = ((0 : Nat) : Int) := htk 4 (by decide) (by decide)
  have hB0 : hv 3 = ((h.2.2.2 : Nat) : Int) := hhv 3 (by decide)
  have hB1 : hv 4 = ((0 : Nat) : Int) := hhv 4 (by decide)
  have hCy := hhv (3 + cy) (by omega)
  have hDy := htk (3 + cy) (by omega) (by omega)
  have hDn := htk (3 + cn) (by omega) (by omega)
  have m1 := qat_mono hs3 (3 + cy)
  have m2 := qat_mono hs3 (3 + cn)
  have m5 : h.2.1 ≤ h.1 ∧ h.2.2.1 ≤ h.2.1 ∧ h.2.2.2 ≤ h.2.2.1 := hd
  refine r_iload_n S dX5_down_0 rfl ?_
  refine r_if_lt S dX5_down_1 (tgt := 9) (by decide) ⟨by omega, by omega⟩ (fun h_1 => ?_) (fun h_1 => ?_)
  · exact absurd h_1 (by decide)
  · refine r_iload_n S dX5_down_4 rfl ?_
    refine r_iconst S dX5_down_5 ?_
    refine r_icmp_lt S dX5_down_6 (tgt := 11) (by decide) ⟨by omega, by omega⟩ ⟨by omega, by omega⟩ (fun h_6 => ?_) (fun h_6 => ?_)
    · refine r_aload_n S dX5_down_11 rfl ?_
      refine r_getf S g_RX5_15_5 dX5_down_12 (by repeat (first | assumption | exact sUp_same | exact sNew_same | refine sUp_ne (by first | assumption | omega) ?_)) rfl ?_
      refine r_iload_n S dX5_down_15 rfl ?_
      refine r_iconst S dX5_down_16 ?_
      refine r_iadd S dX5_down_17 ?_
      refine r_ialdN S (4) dX5_down_18 (by repeat (first | assumption | exact sUp_same | exact sNew_same | refine sUp_ne (by first | assumption | omega) ?_)) (by rfl) (by omega) (by decide) ?_
      rw [hA1]
      refine r_istore S dX5_down_19 rfl (by decide) (lv' := [_, _, _, _, _, _, _, _, _, _, _, _]) rfl ?_
      refine r_aload_n S dX5_down_21 rfl ?_
      refine r_getf S g_RX5_9_5 dX5_down_22 (by repeat (first | assumption | exact sUp_same | exact sNew_same | refine sUp_ne (by first | assumption | omega) ?_)) rfl ?_
      refine r_iload_n S dX5_down_25 rfl ?_
      refine r_ialdN S (3) dX5_down_26 (by repeat (first | assumption | exact sUp_same | exact sNew_same | refine sUp_ne (by first | assumption | omega) ?_)) (by rfl) (by omega) (by decide) ?_
      rw [hB0]
      refine r_aload_n S dX5_down_27 rfl ?_
      refine r_getf S g_RX5_9_5 dX5_down_28 (by repeat (first | assumption | exact sUp_same | exact sNew_same | refine sUp_ne (by first | assumption | omega) ?_)) rfl ?_
      refine r_iload_n S dX5_down_31 rfl ?_
      refine r_iconst S dX5_down_32 ?_
      refine r_iadd S dX5_down_33 ?_
      refine r_ialdN S (4) dX5_down_34 (by repeat (first | assumption | exact sUp_same | exact sNew_same | refine sUp_ne (by first | assumption | omega) ?_)) (by rfl) (by omega) (by decide) ?_
      rw [hB1]
      refine r_isub S dX5_down_35 ?_
      refine r_num (z' := (((h.2.2.2 - 0) : Nat) : Int)) (by omega) ?_
      refine r_istore S dX5_down_36 rfl (by decide) (lv' := [_, _, _, _, _, _, _, _, _, _, _, _]) rfl ?_
      refine r_aload_n S dX5_down_38 rfl ?_
      refine r_getf S g_RX5_9_5 dX5_down_39 (by repeat (first | assumption | exact sUp_same | exact sNew_same | refine sUp_ne (by first | assumption | omega) ?_)) rfl ?_
      refine r_iload_n S dX5_down_42 rfl ?_
      refine r_aload_n S dX5_down_43 rfl ?_
      refine r_getf S g_RX5_34_5 dX5_down_44 (by repeat (first | assumption | exact sUp_same | exact sNew_same | refine sUp_ne (by first | assumption | omega) ?_)) rfl ?_
      refine r_iadd S dX5_down_47 ?_
      refine r_ialdN S (3 + cy) dX5_down_48 (by repeat (first | assumption | exact sUp_same | exact sNew_same | refine sUp_ne (by first | assumption | omega) ?_)) (by omega) (by omega) (by decide) ?_
      rw [hCy]
      refine r_aload_n S dX5_down_49 rfl ?_
      refine r_getf S g_RX5_15_5 dX5_down_50 (by repeat (first | assumption | exact sUp_same | exact sNew_same | refine sUp_ne (by first | assumption | omega) ?_)) rfl ?_
      refine r_iload_n S dX5_down_53 rfl ?_
      refine r_aload_n S dX5_down_54 rfl ?_
      refine r_getf S g_RX5_34_5 dX5_down_55 (by repeat (first | assumption | exact sUp_same | exact sNew_same | refine sUp_ne (by first | assumption | omega) ?_)) rfl ?_
      refine r_iadd S dX5_down_58 ?_
      refine r_ialdN S (3 + cy) dX5_down_59 (by repeat (first | assumption | exact sUp_same | exact sNew_same | refine sUp_ne (by first | assumption | omega) ?_)) (by omega) (by omega) (by decide) ?_
      rw [hDy]
      refine r_isub S dX5_down_60 ?_
      refine r_num (z' := (((qat h (3 + cy) - qat (0, 0, 0, 0) (3 + cy)) : Nat) : Int)) (by omega) ?_
      refine r_istore S dX5_down_61 rfl (by decide) (lv' := [_, _, _, _, _, _, _, _, _, _, _, _]) rfl ?_
      refine r_aload_n S dX5_down_63 rfl ?_
      refine r_getf S g_RX5_9_5 dX5_down_64 (by repeat (first | assumption | exact sUp_same | exact sNew_same | refine sUp_ne (by first | assumption | omega) ?_)) rfl ?_
      refine r_iload_n S dX5_down_67 rfl ?_
      refine r_ialdN S (3) dX5_down_68 (by repeat (first | assumption | exact sUp_same | exact sNew_same | refine sUp_ne (by first | assumption | omega) ?_)) (by rfl) (by omega) (by decide) ?_
      rw [hB0]
      refine r_aload_n S dX5_down_69 rfl ?_
      refine r_getf S g_RX5_15_5 dX5_down_70 (by repeat (first | assumption | exact sUp_same | exact sNew_same | refine sUp_ne (by first | assumption | omega) ?_)) rfl ?_
      refine r_iload_n S dX5_down_73 rfl ?_
      refine r_aload_n S dX5_down_74 rfl ?_
      refine r_getf S g_RX5_37_5 dX5_down_75 (by repeat (first | assumption | exact sUp_same | exact sNew_same | refine sUp_ne (by first | assumption | omega) ?_)) rfl ?_
      refine r_iadd S dX5_down_78 ?_
      refine r_ialdN S (3 + cn) dX5_down_79 (by repeat (first | assumption | exact sUp_same | exact sNew_same | refine sUp_ne (by first | assumption | omega) ?_)) (by omega) (by omega) (by decide) ?_
      rw [hDn]
      refine r_iadd S dX5_down_80 ?_
      refine r_num (z' := (((h.2.2.2 + qat (0, 0, 0, 0) (3 + cn)) : Nat) : Int)) (by omega) ?_
      refine r_istore S dX5_down_81 rfl (by decide) (lv' := [_, _, _, _, _, _, _, _, _, _, _, _]) rfl ?_
      refine r_iload_n S dX5_down_83 rfl ?_
      refine r_if_ne S dX5_down_84 (tgt := 108) (by decide) ⟨by omega, by omega⟩ (fun h_84 => ?_) (fun h_84 => ?_)
      · refine r_iconst S dX5_down_108 ?_
        refine r_istore S dX5_down_109 rfl (by decide) (lv' := [_, _, _, _, _, _, _, _, _, _, _, _]) rfl ?_
        have h9 := l_down5_3 hF hFr hO hg hls hcy hcn hH hhv hT hW hwl hwm hd h16 hFm hs htk S ((h.2.2.2 - 0) + 1) 0 (by omega) ls tk (fun _ _ _ => rfl) hls (MinOf.none (fun t hz => by obtain ⟨a9, ha9, -⟩ := hz; omega))
        rw [UL_id hO hT] at h9
        exact h9
      · exact absurd h_84 (by decide)
    · exact absurd h_6 (by decide)
