theorem qat_bh {c j : Nat} {a b : Q4} (hj : j < 4) : qat (bhQ c a b) j = qat a j + qat b (j + c) := by
  match j with
  | 0 => show a.1 + qat b c = a.1 + qat b (0 + c); rw [Nat.zero_add]
  | 1 => rfl
  | 2 => rfl
  | 3 => rfl
theorem yS_at {cy j : Nat} {h t : Q4} (hj : j < 4) : qat (yS cy h t) j = qat t j + (qat h (j + cy) - qat t (j + cy)) := by
  rw [yS, qat_bh hj, qat_sub]
theorem nS_at {cn j : Nat} {h t : Q4} (hj : j < 4) : qat (nS cn h t) j = qat h j - qat t j + qat t (j + cn) := by
  rw [nS, qat_bh hj, qat_sub]
set_option maxRecDepth 100000 in
set_option maxHeartbeats 4000000 in
theorem l_down1 {κ : Kx} {k : Cx} {σ : St} {ta : Nat} {F : Nat → Int} (hF : σ.2 ta = some (eI k 4845 F)) (hFr : ∀ j, 0 ≤ F j ∧ F j ≤ 13) {cy cn : Nat} {g : Int} (hO : σ.2 (ta + 1) = some (oAny ta cy cn g)) (hg : -1 ≤ g ∧ g ≤ 13) (hcy : 1 ≤ cy ∧ cy ≤ 4) (hcn : 1 ≤ cn ∧ cn ≤ 4) {h : Q4} {hv tk : Nat → Int} (hH : σ.2 (ta + 2) = some (eI k 8 hv)) (hhv : ∀ j, j < 8 → hv j = (qat h j : Int)) (hT : σ.2 (ta + 3) = some (eI k 8 tk)) (hd : Dec h) (h16 : h.1 ≤ 16) (hFm : Fm F h) {t2 t3 : Nat} (hs : Spl h (t2, t2, t2, t3)) (htk : ∀ j, 1 < j → j < 8 → tk j = (qat (t2, t2, t2, t3) j : Int)) (S : Ok κ k cX5_down 12 RX5 (some .boolean) "down" 4 0 0) : ∀ (m a : Nat), a + m = (h.2.1 - h.2.2.1) + 1 → ∀ tk' : Nat → Int, (∀ j, 1 < j → j < 8 → tk' j = tk j) → (∀ a', a' < a → ¬ D0 F g cy cn h (t2 + ow a' (h.2.1 - h.2.2.1)) t2 t3) → V κ k 12 0 0 (QR κ k (fun r σ' => ∃ v, r = some v ∧ (v = .int (iZ (bP (D1 F g cy cn h t2 t3))) ∧ ∃ tk2 : Nat → Int, (∀ j, 1 < j → j < 8 → tk2 j = tk j) ∧ σ' = sUp σ (ta + 3) (eI k 8 tk2))) 0 0) 111 [some (.ref (ta + 1)), some (.int (iZ (1 : Int))), some (.int (iZ ((PL 2 (yS cy h (t2, t2, t2, t3)).2.2.1 + PL 3 (yS cy h (t2, t2, t2, t3)).2.2.2 : Nat) : Int))), some (.int (iZ ((PL 2 (nS cn h (t2, t2, t2, t3)).2.2.1 + PL 3 (nS cn h (t2, t2, t2, t3)).2.2.2 : Nat) : Int))), some (.int (iZ ((t2 : Nat) : Int))), some (.int (iZ (((h.2.1 - h.2.2.1) : Nat) : Int))), some (.int (iZ (((qat h (1 + cy) - qat (t2, t2, t2, t3) (1 + cy)) : Nat) : Int))), some (.int (iZ (((h.2.1 + qat (t2, t2, t2, t3) (1 + cn)) : Nat) : Int))), some (.int (iZ (a : Int))), none, none, none] [] (sUp σ (ta + 3) (eI k 8 tk')) := by
  intro m
  induction m with
  | zero =>
    intro a hi
    intro tk' htk' hno
    obtain ⟨hs1, hs2, hs3⟩ := id hs
    have m1 := qat_mono hs3 (1 + cy)
    have m2 := qat_mono hs3 (1 + cn)
    have m5 : h.2.1 ≤ h.1 ∧ h.2.2.1 ≤ h.2.1 ∧ h.2.2.2 ≤ h.2.2.1 := hd
    have hpY : PL 2 (yS cy h (t2, t2, t2, t3)).2.2.1 + PL 3 (yS cy h (t2, t2, t2, t3)).2.2.2 < 5000 := by
      have b1 := PL_top
      have bY := (yS_le (cy := cy) hs)
      have bD := (yS_dec (cy := cy) hs)
      have bb := plQ_lt bD (by have := bY.1; omega)
      unfold plQ at bb
      omega
    have hpN : PL 2 (nS cn h (t2, t2, t2, t3)).2.2.1 + PL 3 (nS cn h (t2, t2, t2, t3)).2.2.2 < 5000 := by
      have b1 := PL_top
      have bY := (nS_le (cn := cn) hs)
      have bD := (nS_dec (cn := cn) hs)
      have bb := plQ_lt bD (by have := bY.1; omega)
      unfold plQ at bb
      omega
    refine r_iload S dX5_down_111 rfl ?_
    refine r_iload S dX5_down_113 rfl ?_
    refine r_icmp_gt S dX5_down_115 (tgt := 186) (by decide) ⟨by omega, by omega⟩ ⟨by omega, by omega⟩ (fun h_115 => ?_) (fun h_115 => ?_)
    · refine r_iconst S dX5_down_186 ?_
      exact r_zret S dX5_down_187 (by omega) (by omega) (by first | exact Or.inl rfl | exact Or.inr rfl | omega) (⟨_, rfl, by rw [bP_f (fun hz => by obtain ⟨x, hx, hx2⟩ := hz; obtain ⟨a9, ha9, rfl⟩ := ow_surj hx; exact hno a9 (by omega) hx2)], tk', htk', rfl⟩)
    · omega
  | succ m ih =>
    intro a hi
    intro tk' htk' hno
    obtain ⟨hs1, hs2, hs3⟩ := id hs
    have m1 := qat_mono hs3 (1 + cy)
    have m2 := qat_mono hs3 (1 + cn)
    have m5 : h.2.1 ≤ h.1 ∧ h.2.2.1 ≤ h.2.1 ∧ h.2.2.2 ≤ h.2.2.1 := hd
    have hpY : PL 2 (yS cy h (t2, t2, t2, t3)).2.2.1 + PL 3 (yS cy h (t2, t2, t2, t3)).2.2.2 < 5000 := by
      have b1 := PL_top
      have bY := (yS_le (cy := cy) hs)
      have bD := (yS_dec (cy := cy) hs)
      have bb := plQ_lt bD (by have := bY.1; omega)
      unfold plQ at bb
      omega
    have hpN : PL 2 (nS cn h (t2, t2, t2, t3)).2.2.1 + PL 3 (nS cn h (t2, t2, t2, t3)).2.2.2 < 5000 := by
      have b1 := PL_top
      have bY := (nS_le (cn := cn) hs)
      have bD := (nS_dec (cn := cn) hs)
      have bb := plQ_lt bD (by have := bY.1; omega)
      unfold plQ at bb
      omega
    have hol := ow_le (show a ≤ (h.2.1 - h.2.2.1) by omega)
    have hl3 : leQ (t2, t2, t2, t3) h := hs3
    have hl2 : Dec (subQ h (t2, t2, t2, t3)) := hs2
    have hl1 : Dec (t2, t2, t2, t3) := hs1
    simp only [leQ] at hl3
    simp only [Dec, subQ] at hl2
    simp only [Dec] at hl1
    have hsn : Spl h ((t2 + ow a (h.2.1 - h.2.2.1)), (t2 + ow a (h.2.1 - h.2.2.1)), t2, t3) := by
      refine ⟨?_, ?_, ?_⟩
      · simp only [Dec]; omega
      · simp only [Dec, subQ]; omega
      · simp only [leQ]; omega
    have hag : ∀ i, 1 < i → qat ((t2 + ow a (h.2.1 - h.2.2.1)), (t2 + ow a (h.2.1 - h.2.2.1)), t2, t3) i = qat (t2, t2, t2, t3) i := by
      intro i hi
      match i with
      | 0 => first | omega | rfl
      | 1 => first | omega | rfl
      | 2 => first | omega | rfl
      | 3 => first | omega | rfl
      | _ + 4 => rfl
    have gy := hag (1 + cy) (by omega)
    have gn := hag (1 + cn) (by omega)
    have ey1 : (yS cy h ((t2 + ow a (h.2.1 - h.2.2.1)), (t2 + ow a (h.2.1 - h.2.2.1)), t2, t3)).2.1 = qat ((t2 + ow a (h.2.1 - h.2.2.1)), (t2 + ow a (h.2.1 - h.2.2.1)), t2, t3) 1 + (qat h (1 + cy) - qat ((t2 + ow a (h.2.1 - h.2.2.1)), (t2 + ow a (h.2.1 - h.2.2.1)), t2, t3) (1 + cy)) := yS_at (j := 1) (by decide)
    have en1 : (nS cn h ((t2 + ow a (h.2.1 - h.2.2.1)), (t2 + ow a (h.2.1 - h.2.2.1)), t2, t3)).2.1 = qat h 1 - qat ((t2 + ow a (h.2.1 - h.2.2.1)), (t2 + ow a (h.2.1 - h.2.2.1)), t2, t3) 1 + qat ((t2 + ow a (h.2.1 - h.2.2.1)), (t2 + ow a (h.2.1 - h.2.2.1)), t2, t3) (1 + cn) := nS_at (j := 1) (by decide)
    rw [gy] at ey1
    rw [gn] at en1
    have ey1 : (yS cy h ((t2 + ow a (h.2.1 - h.2.2.1)), (t2 + ow a (h.2.1 - h.2.2.1)), t2, t3)).2.1 = (t2 + ow a (h.2.1 - h.2.2.1)) + (qat h (1 + cy) - qat (t2, t2, t2, t3) (1 + cy)) := ey1
    have en1 : (nS cn h ((t2 + ow a (h.2.1 - h.2.2.1)), (t2 + ow a (h.2.1 - h.2.2.1)), t2, t3)).2.1 = h.2.1 - (t2 + ow a (h.2.1 - h.2.2.1)) + qat (t2, t2, t2, t3) (1 + cn) := en1
    have ey2 : (yS cy h ((t2 + ow a (h.2.1 - h.2.2.1)), (t2 + ow a (h.2.1 - h.2.2.1)), t2, t3)).2.2.1 = qat ((t2 + ow a (h.2.1 - h.2.2.1)), (t2 + ow a (h.2.1 - h.2.2.1)), t2, t3) 2 + (qat h (2 + cy) - qat ((t2 + ow a (h.2.1 - h.2.2.1)), (t2 + ow a (h.2.1 - h.2.2.1)), t2, t3) (2 + cy)) := yS_at (j := 2) (by decide)
    have en2 : (nS cn h ((t2 + ow a (h.2.1 - h.2.2.1)), (t2 + ow a (h.2.1 - h.2.2.1)), t2, t3)).2.2.1 = qat h 2 - qat ((t2 + ow a (h.2.1 - h.2.2.1)), (t2 + ow a (h.2.1 - h.2.2.1)), t2, t3) 2 + qat ((t2 + ow a (h.2.1 - h.2.2.1)), (t2 + ow a (h.2.1 - h.2.2.1)), t2, t3) (2 + cn) := nS_at (j := 2) (by decide)
    rw [hag 2 (by decide), hag (2 + cy) (by omega), ← yS_at (cy := cy) (h := h) (t := (t2, t2, t2, t3)) (j := 2) (by decide)] at ey2
    rw [hag 2 (by decide), hag (2 + cn) (by omega), ← nS_at (cn := cn) (h := h) (t := (t2, t2, t2, t3)) (j := 2) (by decide)] at en2
    have ey2 : (yS cy h ((t2 + ow a (h.2.1 - h.2.2.1)), (t2 + ow a (h.2.1 - h.2.2.1)), t2, t3)).2.2.1 = (yS cy h (t2, t2, t2, t3)).2.2.1 := ey2
    have en2 : (nS cn h ((t2 + ow a (h.2.1 - h.2.2.1)), (t2 + ow a (h.2.1 - h.2.2.1)), t2, t3)).2.2.1 = (nS cn h (t2, t2, t2, t3)).2.2.1 := en2
    have ey3 : (yS cy h ((t2 + ow a (h.2.1 - h.2.2.1)), (t2 + ow a (h.2.1 - h.2.2.1)), t2, t3)).2.2.2 = qat ((t2 + ow a (h.2.1 - h.2.2.1)), (t2 + ow a (h.2.1 - h.2.2.1)), t2, t3) 3 + (qat h (3 + cy) - qat ((t2 + ow a (h.2.1 - h.2.2.1)), (t2 + ow a (h.2.1 - h.2.2.1)), t2, t3) (3 + cy)) := yS_at (j := 3) (by decide)
    have en3 : (nS cn h ((t2 + ow a (h.2.1 - h.2.2.1)), (t2 + ow a (h.2.1 - h.2.2.1)), t2, t3)).2.2.2 = qat h 3 - qat ((t2 + ow a (h.2.1 - h.2.2.1)), (t2 + ow a (h.2.1 - h.2.2.1)), t2, t3) 3 + qat ((t2 + ow a (h.2.1 - h.2.2.1)), (t2 + ow a (h.2.1 - h.2.2.1)), t2, t3) (3 + cn) := nS_at (j := 3) (by decide)
    rw [hag 3 (by decide), hag (3 + cy) (by omega), ← yS_at (cy := cy) (h := h) (t := (t2, t2, t2, t3)) (j := 3) (by decide)] at ey3
    rw [hag 3 (by decide), hag (3 + cn) (by omega), ← nS_at (cn := cn) (h := h) (t := (t2, t2, t2, t3)) (j := 3) (by decide)] at en3
    have ey3 : (yS cy h ((t2 + ow a (h.2.1 - h.2.2.1)), (t2 + ow a (h.2.1 - h.2.2.1)), t2, t3)).2.2.2 = (yS cy h (t2, t2, t2, t3)).2.2.2 := ey3
    have en3 : (nS cn h ((t2 + ow a (h.2.1 - h.2.2.1)), (t2 + ow a (h.2.1 - h.2.2.1)), t2, t3)).2.2.2 = (nS cn h (t2, t2, t2, t3)).2.2.2 := en3
    have bY := (yS_le (cy := cy) hsn)
    have bN := (nS_le (cn := cn) hsn)
    simp only [leQ] at bY bN
    have b16 : (t2 + ow a (h.2.1 - h.2.2.1)) + (qat h (1 + cy) - qat (t2, t2, t2, t3) (1 + cy)) < 17 := by omega
    have b17 : h.2.1 - (t2 + ow a (h.2.1 - h.2.2.1)) + qat (t2, t2, t2, t3) (1 + cn) < 17 := by omega
    refine r_iload S dX5_down_111 rfl ?_
    refine r_iload S dX5_down_113 rfl ?_
    refine r_icmp_gt S dX5_down_115 (tgt := 186) (by decide) ⟨by omega, by omega⟩ ⟨by omega, by omega⟩ (fun h_115 => ?_) (fun h_115 => ?_)
    · omega
    · refine r_iload S dX5_down_118 rfl ?_
      refine r_iload S dX5_down_120 rfl ?_
      refine r_iload S dX5_down_122 rfl ?_
      refine r_callS S (c_outward (a := a) (s := (h.2.1 - h.2.2.1)) (by omega) (by omega)) k_mX5_outward c_RX5_47 dX5_down_124 (by decide) ⟨by omega, by omega⟩ rfl rfl (Nat.le_of_ble_eq_true rfl) (fun r σ' hp => ?_)
      obtain ⟨_, rfl, rfl, rfl⟩ := hp
      try simp only [Option.toList_some, Option.toList_none, List.cons_append, List.nil_append]
      refine r_iadd S dX5_down_127 ?_
      refine r_num (z' := (((t2 + ow a (h.2.1 - h.2.2.1)) : Nat) : Int)) (by rw [Int.natCast_add]; rfl) ?_
      refine r_istore S dX5_down_128 rfl (by decide) (lv' := [_, _, _, _, _, _, _, _, _, _, _, _]) rfl ?_
      refine r_aload_n S dX5_down_130 rfl ?_
      refine r_getf S g_RX5_15_0 dX5_down_131 (by repeat (first | assumption | exact sUp_same | exact sNew_same | refine sUp_ne (by first | assumption | omega) ?_)) rfl ?_
      refine r_iload_n S dX5_down_134 rfl ?_
      refine r_iload S dX5_down_135 rfl ?_
      refine r_iastN S (1) dX5_down_137 (by repeat (first | assumption | exact sUp_same | exact sNew_same | refine sUp_ne (by first | assumption | omega) ?_)) (by rfl) (by omega) (by decide) ?_
      simp only [sUp_sUp]
      refine r_iload_n S dX5_down_138 rfl ?_
      refine r_iload_n S dX5_down_139 rfl ?_
      refine r_iload S dX5_down_140 rfl ?_
      refine r_iload S dX5_down_142 rfl ?_
      refine r_iadd S dX5_down_144 ?_
      refine r_callSN S (c_placeOf (l := 1) (c := (t2 + ow a (h.2.1 - h.2.2.1)) + (qat h (1 + cy) - qat (t2, t2, t2, t3) (1 + cy))) (by rfl) (by omega) (by decide) b16) k_mX11_placeOf c_RX5_50 dX5_down_145 (by decide) ⟨by omega, by omega⟩ rfl rfl (Nat.le_of_ble_eq_true rfl) (fun r σ' hp => ?_)
      obtain ⟨_, rfl, rfl, rfl⟩ := hp
      try simp only [Option.toList_some, Option.toList_none, List.cons_append, List.nil_append]
      refine r_iadd S dX5_down_148 ?_
      refine r_istore S dX5_down_149 rfl (by decide) (lv' := [_, _, _, _, _, _, _, _, _, _, _, _]) rfl ?_
      refine r_iload_n S dX5_down_151 rfl ?_
      refine r_iload_n S dX5_down_152 rfl ?_
      refine r_iload S dX5_down_153 rfl ?_
      refine r_iload S dX5_down_155 rfl ?_
      refine r_isub S dX5_down_157 ?_
      refine r_callSN S (c_placeOf (l := 1) (c := h.2.1 - (t2 + ow a (h.2.1 - h.2.2.1)) + qat (t2, t2, t2, t3) (1 + cn)) (by rfl) (by omega) (by decide) b17) k_mX11_placeOf c_RX5_50 dX5_down_158 (by decide) ⟨by omega, by omega⟩ rfl rfl (Nat.le_of_ble_eq_true rfl) (fun r σ' hp => ?_)
      obtain ⟨_, rfl, rfl, rfl⟩ := hp
      try simp only [Option.toList_some, Option.toList_none, List.cons_append, List.nil_append]
      refine r_iadd S dX5_down_161 ?_
      refine r_istore S dX5_down_162 rfl (by decide) (lv' := [_, _, _, _, _, _, _, _, _, _, _, _]) rfl ?_
      refine r_aload_n S dX5_down_164 rfl ?_
      refine r_iload_n S dX5_down_165 rfl ?_
      refine r_iconst S dX5_down_166 ?_
      refine r_isub S dX5_down_167 ?_
      refine r_num (z' := 0) (by decide) ?_
      refine r_iload S dX5_down_168 rfl ?_
      refine r_iload S dX5_down_170 rfl ?_
      have htkn : ∀ j, 0 < j → j < 8 → uZ tk' 1 (((t2 + ow a (h.2.1 - h.2.2.1)) : Nat) : Int) j = (qat ((t2 + ow a (h.2.1 - h.2.2.1)), (t2 + ow a (h.2.1 - h.2.2.1)), t2, t3) j : Int) := by
        intro j hj hj8
        unfold uZ
        by_cases hjj : j = 1
        · subst hjj
          rw [if_pos rfl]
          rfl
        · rw [if_neg hjj, htk' j (by omega) hj8, htk j (by omega) hj8, hag j (by omega)]
      refine r_callU S (c_down0 (t1 := (t2 + ow a (h.2.1 - h.2.2.1))) (t2 := t2) (t3 := t3) (sUp_ne (by omega) hF) hFr (sUp_ne (by omega) hO) hg hcy hcn (sUp_ne (by omega) hH) hhv sUp_same hd h16 hFm hsn htkn (by rw [ey1, ey2, ey3]; omega) (by rw [en1, en2, en3]; omega)) k_mX5_down c_RX5_40_0 dX5_down_172 (by decide) ⟨by omega, by omega⟩ (by repeat (first | assumption | exact sUp_same | exact sNew_same | refine sUp_ne (by first | assumption | omega) ?_)) rfl rfl (Nat.le_of_ble_eq_true rfl) (fun r σ' hp => ?_)
      obtain ⟨_, rfl, rfl, tk3, htk3, rfl⟩ := hp
      try simp only [Option.toList_some, Option.toList_none, List.cons_append, List.nil_append]
      simp only [sUp_sUp]
      have htk4 : ∀ j, 1 < j → j < 8 → tk3 j = tk j := by
        intro j hj hj8
        rw [htk3 j (by omega) hj8]
        unfold uZ
        rw [if_neg (by omega), htk' j hj hj8]
      refine r_if_eq S dX5_down_175 (tgt := 180) (by decide) (bP_R _) (fun h_175 => ?_) (fun h_175 => ?_)
      · rw [bP_z] at h_175
        refine r_iinc S dX5_down_180 rfl rfl (by decide) (lv' := [_, _, _, _, _, _, _, _, _, _, _, _]) rfl ?_
        refine r_goto S dX5_down_183 (tgt := 111) (by decide) ?_
        refine V.mask [true, true, true, true, true, true, true, true, true, false, false, false] (lv' := [_, _, _, _, _, _, _, _, _, none, none, none]) rfl ?_
        refine ih (a + 1) (by omega) tk3 htk4 (fun a' ha' => ?_)
        rcases Nat.lt_or_ge a' a with e | e
        · exact hno a' e
        · rw [show a' = a by omega]; exact h_175
      · have h_175 := Classical.not_not.mp (fun h8 => h_175 ((bP_z _).mpr h8))
        refine r_iconst S dX5_down_178 ?_
        exact r_zret S dX5_down_179 (by omega) (by omega) (by first | exact Or.inl rfl | exact Or.inr rfl | omega) (⟨_, rfl, by rw [bP_t (show D1 F g cy cn h t2 t3 from ⟨ow a (h.2.1 - h.2.2.1), hol, h_175⟩)], tk3, htk4, rfl⟩)

set_option maxRecDepth 100000 in
set_option maxHeartbeats 4000000 in
theorem c_down1 {k : Cx} {L0 : Launch} {σ : St} {ta : Nat} {F : Nat → Int} (hF : σ.2 ta = some (eI k 4845 F)) (hFr : ∀ j, 0 ≤ F j ∧ F j ≤ 13) {cy cn : Nat} {g : Int} (hO : σ.2 (ta + 1) = some (oAny ta cy cn g)) (hg : -1 ≤ g ∧ g ≤ 13) (hcy : 1 ≤ cy ∧ cy ≤ 4) (hcn : 1 ≤ cn ∧ cn ≤ 4) {h : Q4} {hv tk : Nat → Int} (hH : σ.2 (ta + 2) = some (eI k 8 hv)) (hhv : ∀ j, j < 8 → hv j = (qat h j : Int)) (hT : σ.2 (ta + 3) = some (eI k 8 tk)) (hd : Dec h) (h16 : h.1 ≤ 16) (hFm : Fm F h) {t2 t3 : Nat} (hs : Spl h (t2, t2, t2, t3)) (htk : ∀ j, 1 < j → j < 8 → tk j = (qat (t2, t2, t2, t3) j : Int)) {y0 n0 : Int} (hy0 : y0 = ((PL 2 (yS cy h (t2, t2, t2, t3)).2.2.1 + PL 3 (yS cy h (t2, t2, t2, t3)).2.2.2 : Nat) : Int)) (hn0 : n0 = ((PL 2 (nS cn h (t2, t2, t2, t3)).2.2.1 + PL 3 (nS cn h (t2, t2, t2, t3)).2.2.2 : Nat) : Int)) : CtrV k L0 mX5_down 4 0 0 [.ref (ta + 1), .int (iZ (1 : Int)), .int (iZ y0), .int (iZ n0)] σ (fun v σ' => v = .int (iZ (bP (D1 F g cy cn h t2 t3))) ∧ ∃ tk2 : Nat → Int, (∀ j, 1 < j → j < 8 → tk2 j = tk j) ∧ σ' = sUp σ (ta + 3) (eI k 8 tk2)) := by
  refine Ctr.of (by decide +kernel) rfl (Nat.le_of_ble_eq_true rfl) ?_
  intro κ hl0 S
  subst hl0
  subst hy0
  subst hn0
  obtain ⟨hs1, hs2, hs3⟩ := id hs
  have hA1 : tk 2 = ((t2 : Nat) : Int) := htk 2 (by decide) (by decide)
  have hB0 : hv 1 = ((h.2.1 : Nat) : Int) := hhv 1 (by decide)
  have hB1 : hv 2 = ((h.2.2.1 : Nat) : Int) := hhv 2 (by decide)
  have hCy := hhv (1 + cy) (by omega)
  have hDy := htk (1 + cy) (by omega) (by omega)
  have hDn := htk (1 + cn) (by omega) (by omega)
  have m1 := qat_mono hs3 (1 + cy)
  have m2 := qat_mono hs3 (1 + cn)
  have m5 : h.2.1 ≤ h.1 ∧ h.2.2.1 ≤ h.2.1 ∧ h.2.2.2 ≤ h.2.2.1 := hd
  refine r_iload_n S dX5_down_0 rfl ?_
  refine r_if_lt S dX5_down_1 (tgt := 9) (by decide) ⟨by omega, by omega⟩ (fun h_1 => ?_) (fun h_1 => ?_)
  · exact absurd h_1 (by decide)
  · refine r_iload_n S dX5_down_4 rfl ?_
    refine r_iconst S dX5_down_5 ?_
    refine r_icmp_lt S dX5_down_6 (tgt := 11) (by decide) ⟨by omega, by omega⟩ ⟨by omega, by omega⟩ (fun h_6 => ?_) (fun h_6 => ?_)
    · refine r_aload_n S dX5_down_11 rfl ?_
      refine r_getf S g_RX5_15_0 dX5_down_12 (by repeat (first | assumption | exact sUp_same | exact sNew_same | refine sUp_ne (by first | assumption | omega) ?_)) rfl ?_
      refine r_iload_n S dX5_down_15 rfl ?_
      refine r_iconst S dX5_down_16 ?_
      refine r_iadd S dX5_down_17 ?_
      refine r_ialdN S (2) dX5_down_18 (by repeat (first | assumption | exact sUp_same | exact sNew_same | refine sUp_ne (by first | assumption | omega) ?_)) (by rfl) (by omega) (by decide) ?_
      rw [hA1]
      refine r_istore S dX5_down_19 rfl (by decide) (lv' := [_, _, _, _, _, _, _, _, _, _, _, _]) rfl ?_
      refine r_aload_n S dX5_down_21 rfl ?_
      refine r_getf S g_RX5_9_0 dX5_down_22 (by repeat (first | assumption | exact sUp_same | exact sNew_same | refine sUp_ne (by first | assumption | omega) ?_)) rfl ?_
      refine r_iload_n S dX5_down_25 rfl ?_
      refine r_ialdN S (1) dX5_down_26 (by repeat (first | assumption | exact sUp_same | exact sNew_same | refine sUp_ne (by first | assumption | omega) ?_)) (by rfl) (by omega) (by decide) ?_
      rw [hB0]
      refine r_aload_n S dX5_down_27 rfl ?_
      refine r_getf S g_RX5_9_0 dX5_down_28 (by repeat (first | assumption | exact sUp_same | exact sNew_same | refine sUp_ne (by first | assumption | omega) ?_)) rfl ?_
      refine r_iload_n S dX5_down_31 rfl ?_
      refine r_iconst S dX5_down_32 ?_
      refine r_iadd S dX5_down_33 ?_
      refine r_ialdN S (2) dX5_down_34 (by repeat (first | assumption | exact sUp_same | exact sNew_same | refine sUp_ne (by first | assumption | omega) ?_)) (by rfl) (by omega) (by decide) ?_
      rw [hB1]
      refine r_isub S dX5_down_35 ?_
      refine r_num (z' := (((h.2.1 - h.2.2.1) : Nat) : Int)) (by omega) ?_
      refine r_istore S dX5_down_36 rfl (by decide) (lv' := [_, _, _, _, _, _, _, _, _, _, _, _]) rfl ?_
      refine r_aload_n S dX5_down_38 rfl ?_
      refine r_getf S g_RX5_9_0 dX5_down_39 (by repeat (first | assumption | exact sUp_same | exact sNew_same | refine sUp_ne (by first | assumption | omega) ?_)) rfl ?_
      refine r_iload_n S dX5_down_42 rfl ?_
      refine r_aload_n S dX5_down_43 rfl ?_
      refine r_getf S g_RX5_34_0 dX5_down_44 (by repeat (first | assumption | exact sUp_same | exact sNew_same | refine sUp_ne (by first | assumption | omega) ?_)) rfl ?_
      refine r_iadd S dX5_down_47 ?_
      refine r_ialdN S (1 + cy) dX5_down_48 (by repeat (first | assumption | exact sUp_same | exact sNew_same | refine sUp_ne (by first | assumption | omega) ?_)) (by omega) (by omega) (by decide) ?_
      rw [hCy]
      refine r_aload_n S dX5_down_49 rfl ?_
      refine r_getf S g_RX5_15_0 dX5_down_50 (by repeat (first | assumption | exact sUp_same | exact sNew_same | refine sUp_ne (by first | assumption | omega) ?_)) rfl ?_
      refine r_iload_n S dX5_down_53 rfl ?_
      refine r_aload_n S dX5_down_54 rfl ?_
      refine r_getf S g_RX5_34_0 dX5_down_55 (by repeat (first | assumption | exact sUp_same | exact sNew_same | refine sUp_ne (by first | assumption | omega) ?_)) rfl ?_
      refine r_iadd S dX5_down_58 ?_
      refine r_ialdN S (1 + cy) dX5_down_59 (by repeat (first | assumption | exact sUp_same | exact sNew_same | refine sUp_ne (by first | assumption | omega) ?_)) (by omega) (by omega) (by decide) ?_
      rw [hDy]
      refine r_isub S dX5_down_60 ?_
      refine r_num (z' := (((qat h (1 + cy) - qat (t2, t2, t2, t3) (1 + cy)) : Nat) : Int)) (by omega) ?_
      refine r_istore S dX5_down_61 rfl (by decide) (lv' := [_, _, _, _, _, _, _, _, _, _, _, _]) rfl ?_
      refine r_aload_n S dX5_down_63 rfl ?_
      refine r_getf S g_RX5_9_0 dX5_down_64 (by repeat (first | assumption | exact sUp_same | exact sNew_same | refine sUp_ne (by first | assumption | omega) ?_)) rfl ?_
      refine r_iload_n S dX5_down_67 rfl ?_
      refine r_ialdN S (1) dX5_down_68 (by repeat (first | assumption | exact sUp_same | exact sNew_same | refine sUp_ne (by first | assumption | omega) ?_)) (by rfl) (by omega) (by decide) ?_
      rw [hB0]
      refine r_aload_n S dX5_down_69 rfl ?_
      refine r_getf S g_RX5_15_0 dX5_down_70 (by repeat (first | assumption | exact sUp_same | exact sNew_same | refine sUp_ne (by first | assumption | omega) ?_)) rfl ?_
      refine r_iload_n S dX5_down_73 rfl ?_
      refine r_aload_n S dX5_down_74 rfl ?_
      refine r_getf S g_RX5_37_0 dX5_down_75 (by repeat (first | assumption | exact sUp_same | exact sNew_same | refine sUp_ne (by first | assumption | omega) ?_)) rfl ?_
      refine r_iadd S dX5_down_78 ?_
      refine r_ialdN S (1 + cn) dX5_down_79 (by repeat (first | assumption | exact sUp_same | exact sNew_same | refine sUp_ne (by first | assumption | omega) ?_)) (by omega) (by omega) (by decide) ?_
      rw [hDn]
      refine r_iadd S dX5_down_80 ?_
      refine r_num (z' := (((h.2.1 + qat (t2, t2, t2, t3) (1 + cn)) : Nat) : Int)) (by omega) ?_
      refine r_istore S dX5_down_81 rfl (by decide) (lv' := [_, _, _, _, _, _, _, _, _, _, _, _]) rfl ?_
      refine r_iload_n S dX5_down_83 rfl ?_
      refine r_if_ne S dX5_down_84 (tgt := 108) (by decide) ⟨by omega, by omega⟩ (fun h_84 => ?_) (fun h_84 => ?_)
      · refine r_iconst S dX5_down_108 ?_
        refine r_istore S dX5_down_109 rfl (by decide) (lv' := [_, _, _, _, _, _, _, _, _, _, _, _]) rfl ?_
        have h9 := l_down1 hF hFr hO hg hcy hcn hH hhv hT hd h16 hFm hs htk S ((h.2.1 - h.2.2.1) + 1) 0 (by omega) tk (fun _ _ _ => rfl) (fun _ h8 => absurd h8 (by omega))
        rw [sUp_id hT] at h9
        exact h9
      · exact absurd h_84 (by decide)
    · exact absurd h_6 (by decide)

set_option maxRecDepth 100000 in
set_option maxHeartbeats 4000000 in
theorem l_down2 {κ : Kx} {k : Cx} {σ : St} {ta : Nat} {F : Nat → Int} (hF : σ.2 ta = some (eI k 4845 F)) (hFr : ∀ j, 0 ≤ F j ∧ F j ≤ 13) {cy cn : Nat} {g : Int} (hO : σ.2 (ta + 1) = some (oAny ta cy cn g)) (hg : -1 ≤ g ∧ g ≤ 13) (hcy : 1 ≤ cy ∧ cy ≤ 4) (hcn : 1 ≤ cn ∧ cn ≤ 4) {h : Q4} {hv tk : Nat → Int} (hH : σ.2 (ta + 2) = some (eI k 8 hv)) (hhv : ∀ j, j < 8 → hv j = (qat h j : Int)) (hT : σ.2 (ta + 3) = some (eI k 8 tk)) (hd : Dec h) (h16 : h.1 ≤ 16) (hFm : Fm F h) {t3 : Nat} (hs : Spl h (t3, t3, t3, t3)) (htk : ∀ j, 2 < j → j < 8 → tk j = (qat (t3, t3, t3, t3) j : Int)) (S : Ok κ k cX5_down 12 RX5 (some .boolean) "down" 5 0 0) : ∀ (m a : Nat), a + m = (h.2.2.1 - h.2.2.2) + 1 → ∀ tk' : Nat → Int, (∀ j, 2 < j → j < 8 → tk' j = tk j) → (∀ a', a' < a → ¬ D1 F g cy cn h (t3 + ow a' (h.2.2.1 - h.2.2.2)) t3) → V κ k 12 0 0 (QR κ k (fun r σ' => ∃ v, r = some v ∧ (v = .int (iZ (bP (D2 F g cy cn h t3))) ∧ ∃ tk2 : Nat → Int, (∀ j, 2 < j → j < 8 → tk2 j = tk j) ∧ σ' = sUp σ (ta + 3) (eI k 8 tk2))) 0 0) 111 [some (.ref (ta + 1)), some (.int (iZ (2 : Int))), some (.int (iZ ((PL 3 (yS cy h (t3, t3, t3, t3)).2.2.2 : Nat) : Int))), some (.int (iZ ((PL 3 (nS cn h (t3, t3, t3, t3)).2.2.2 : Nat) : Int))), some (.int (iZ ((t3 : Nat) : Int))), some (.int (iZ (((h.2.2.1 - h.2.2.2) : Nat) : Int))), some (.int (iZ (((qat h (2 + cy) - qat (t3, t3, t3, t3) (2 + cy)) : Nat) : Int))), some (.int (iZ (((h.2.2.1 + qat (t3, t3, t3, t3) (2 + cn)) : Nat) : Int))), some (.int (iZ (a : Int))), none, none, none] [] (sUp σ (ta + 3) (eI k 8 tk')) := by
  intro m
  induction m with
  | zero =>
    intro a hi
    intro tk' htk' hno
    obtain ⟨hs1, hs2, hs3⟩ := id hs
    have m1 := qat_mono hs3 (2 + cy)
    have m2 := qat_mono hs3 (2 + cn)
    have m5 : h.2.1 ≤ h.1 ∧ h.2.2.1 ≤ h.2.1 ∧ h.2.2.2 ≤ h.2.2.1 := hd
    have hpY : PL 3 (yS cy h (t3, t3, t3, t3)).2.2.2 < 5000 := by
      have b1 := PL_top
      have bY := (yS_le (cy := cy) hs)
      have bD := (yS_dec (cy := cy) hs)
      have bb := plQ_lt bD (by have := bY.1; omega)
      unfold plQ at bb
      omega
    have hpN : PL 3 (nS cn h (t3, t3, t3, t3)).2.2.2 < 5000 := by
      have b1 := PL_top
      have bY := (nS_le (cn := cn) hs)
      have bD := (nS_dec (cn := cn) hs)
      have bb := plQ_lt bD (by have := bY.1; omega)
      unfold plQ at bb
      omega
    refine r_iload S dX5_down_111 rfl ?_
    refine r_iload S dX5_down_113 rfl ?_
    refine r_icmp_gt S dX5_down_115 (tgt := 186) (by decide) ⟨by omega, by omega⟩ ⟨by omega, by omega⟩ (fun h_115 => ?_) (fun h_115 => ?_)
    · refine r_iconst S dX5_down_186 ?_
      exact r_zret S dX5_down_187 (by omega) (by omega) (by first | exact Or.inl rfl | exact Or.inr rfl | omega) (⟨_, rfl, by rw [bP_f (fun hz => by obtain ⟨x, hx, hx2⟩ := hz; obtain ⟨a9, ha9, rfl⟩ := ow_surj hx; exact hno a9 (by omega) hx2)], tk', htk', rfl⟩)
    · omega
  | succ m ih =>
    intro a hi
    intro tk' htk' hno
    obtain ⟨hs1, hs2, hs3⟩ := id hs
    have m1 := qat_mono hs3 (2 + cy)
    have m2 := qat_mono hs3 (2 + cn)
    have m5 : h.2.1 ≤ h.1 ∧ h.2.2.1 ≤ h.2.1 ∧ h.2.2.2 ≤ h.2.2.1 := hd
    have hpY : PL 3 (yS cy h (t3, t3, t3, t3)).2.2.2 < 5000 := by
      have b1 := PL_top
      have bY := (yS_le (cy := cy) hs)
      have bD := (yS_dec (cy := cy) hs)
      have bb := plQ_lt bD (by have := bY.1; omega)
      unfold plQ at bb
      omega
    have hpN : PL 3 (nS cn h (t3, t3, t3, t3)).2.2.2 < 5000 := by
      have b1 := PL_top
      have bY := (nS_le (cn := cn) hs)
      have bD := (nS_dec (cn := cn) hs)
      have bb := plQ_lt bD (by have := bY.1; omega)
      unfold plQ at bb
      omega
    have hol := ow_le (show a ≤ (h.2.2.1 - h.2.2.2) by omega)
    have hl3 : leQ (t3, t3, t3, t3) h := hs3
    have hl2 : Dec (subQ h (t3, t3, t3, t3)) := hs2
    have hl1 : Dec (t3, t3, t3, t3) := hs1
    simp only [leQ] at hl3
    simp only [Dec, subQ] at hl2
    simp only [Dec] at hl1
    have hsn : Spl h ((t3 + ow a (h.2.2.1 - h.2.2.2)), (t3 + ow a (h.2.2.1 - h.2.2.2)), (t3 + ow a (h.2.2.1 - h.2.2.2)), t3) := by
      refine ⟨?_, ?_, ?_⟩
      · simp only [Dec]; omega
      · simp only [Dec, subQ]; omega
      · simp only [leQ]; omega
    have hag : ∀ i, 2 < i → qat ((t3 + ow a (h.2.2.1 - h.2.2.2)), (t3 + ow a (h.2.2.1 - h.2.2.2)), (t3 + ow a (h.2.2.1 - h.2.2.2)), t3) i = qat (t3, t3, t3, t3) i := by
      intro i hi
      match i with
      | 0 => first | omega | rfl
      | 1 => first | omega | rfl
      | 2 => first | omega | rfl
      | 3 => first | omega | rfl
      | _ + 4 => rfl
    have gy := hag (2 + cy) (by omega)
    have gn := hag (2 + cn) (by omega)
    have ey2 : (yS cy h ((t3 + ow a (h.2.2.1 - h.2.2.2)), (t3 + ow a (h.2.2.1 - h.2.2.2)), (t3 + ow a (h.2.2.1 - h.2.2.2)), t3)).2.2.1 = qat ((t3 + ow a (h.2.2.1 - h.2.2.2)), (t3 + ow a (h.2.2.1 - h.2.2.2)), (t3 + ow a (h.2.2.1 - h.2.2.2)), t3) 2 + (qat h (2 + cy) - qat ((t3 + ow a (h.2.2.1 - h.2.2.2)), (t3 + ow a (h.2.2.1 - h.2.2.2)), (t3 + ow a (h.2.2.1 - h.2.2.2)), t3) (2 + cy)) := yS_at (j := 2) (by decide)
    have en2 : (nS cn h ((t3 + ow a (h.2.2.1 - h.2.2.2)), (t3 + ow a (h.2.2.1 - h.2.2.2)), (t3 + ow a (h.2.2.1 - h.2.2.2)), t3)).2.2.1 = qat h 2 - qat ((t3 + ow a (h.2.2.1 - h.2.2.2)), (t3 + ow a (h.2.2.1 - h.2.2.2)), (t3 + ow a (h.2.2.1 - h.2.2.2)), t3) 2 + qat ((t3 + ow a (h.2.2.1 - h.2.2.2)), (t3 + ow a (h.2.2.1 - h.2.2.2)), (t3 + ow a (h.2.2.1 - h.2.2.2)), t3) (2 + cn) := nS_at (j := 2) (by decide)
    rw [gy] at ey2
    rw [gn] at en2
    have ey2 : (yS cy h ((t3 + ow a (h.2.2.1 - h.2.2.2)), (t3 + ow a (h.2.2.1 - h.2.2.2)), (t3 + ow a (h.2.2.1 - h.2.2.2)), t3)).2.2.1 = (t3 + ow a (h.2.2.1 - h.2.2.2)) + (qat h (2 + cy) - qat (t3, t3, t3, t3) (2 + cy)) := ey2
    have en2 : (nS cn h ((t3 + ow a (h.2.2.1 - h.2.2.2)), (t3 + ow a (h.2.2.1 - h.2.2.2)), (t3 + ow a (h.2.2.1 - h.2.2.2)), t3)).2.2.1 = h.2.2.1 - (t3 + ow a (h.2.2.1 - h.2.2.2)) + qat (t3, t3, t3, t3) (2 + cn) := en2
    have ey3 : (yS cy h ((t3 + ow a (h.2.2.1 - h.2.2.2)), (t3 + ow a (h.2.2.1 - h.2.2.2)), (t3 + ow a (h.2.2.1 - h.2.2.2)), t3)).2.2.2 = qat ((t3 + ow a (h.2.2.1 - h.2.2.2)), (t3 + ow a (h.2.2.1 - h.2.2.2)), (t3 + ow a (h.2.2.1 - h.2.2.2)), t3) 3 + (qat h (3 + cy) - qat ((t3 + ow a (h.2.2.1 - h.2.2.2)), (t3 + ow a (h.2.2.1 - h.2.2.2)), (t3 + ow a (h.2.2.1 - h.2.2.2)), t3) (3 + cy)) := yS_at (j := 3) (by decide)
    have en3 : (nS cn h ((t3 + ow a (h.2.2.1 - h.2.2.2)), (t3 + ow a (h.2.2.1 - h.2.2.2)), (t3 + ow a (h.2.2.1 - h.2.2.2)), t3)).2.2.2 = qat h 3 - qat ((t3 + ow a (h.2.2.1 - h.2.2.2)), (t3 + ow a (h.2.2.1 - h.2.2.2)), (t3 + ow a (h.2.2.1 - h.2.2.2)), t3) 3 + qat ((t3 + ow a (h.2.2.1 - h.2.2.2)), (t3 + ow a (h.2.2.1 - h.2.2.2)), (t3 + ow a (h.2.2.1 - h.2.2.2)), t3) (3 + cn) := nS_at (j := 3) (by decide)
    rw [hag 3 (by decide), hag (3 + cy) (by omega), ← yS_at (cy := cy) (h := h) (t := (t3, t3, t3, t3)) (j := 3) (by decide)] at ey3
    rw [hag 3 (by decide), hag (3 + cn) (by omega), ← nS_at (cn := cn) (h := h) (t := (t3, t3, t3, t3)) (j := 3) (by decide)] at en3
    have ey3 : (yS cy h ((t3 + ow a (h.2.2.1 - h.2.2.2)), (t3 + ow a (h.2.2.1 - h.2.2.2)), (t3 + ow a (h.2.2.1 - h.2.2.2)), t3)).2.2.2 = (yS cy h (t3, t3, t3, t3)).2.2.2 := ey3
    have en3 : (nS cn h ((t3 + ow a (h.2.2.1 - h.2.2.2)), (t3 + ow a (h.2.2.1 - h.2.2.2)), (t3 + ow a (h.2.2.1 - h.2.2.2)), t3)).2.2.2 = (nS cn h (t3, t3, t3, t3)).2.2.2 := en3
    have bY := (yS_le (cy := cy) hsn)
    have bN := (nS_le (cn := cn) hsn)
    simp only [leQ] at bY bN
    have b16 : (t3 + ow a (h.2.2.1 - h.2.2.2)) + (qat h (2 + cy) - qat (t3, t3, t3, t3) (2 + cy)) < 17 := by omega
    have b17 : h.2.2.1 - (t3 + ow a (h.2.2.1 - h.2.2.2)) + qat (t3, t3, t3, t3) (2 + cn) < 17 := by omega
    refine r_iload S dX5_down_111 rfl ?_
    refine r_iload S dX5_down_113 rfl ?_
    refine r_icmp_gt S dX5_down_115 (tgt := 186) (by decide) ⟨by omega, by omega⟩ ⟨by omega, by omega⟩ (fun h_115 => ?_) (fun h_115 => ?_)
    · omega
    · refine r_iload S dX5_down_118 rfl ?_
      refine r_iload S dX5_down_120 rfl ?_
      refine r_iload S dX5_down_122 rfl ?_
      refine r_callS S (c_outward (a := a) (s := (h.2.2.1 - h.2.2.2)) (by omega) (by omega)) k_mX5_outward c_RX5_47 dX5_down_124 (by decide) ⟨by omega, by omega⟩ rfl rfl (Nat.le_of_ble_eq_true rfl) (fun r σ' hp => ?_)
      obtain ⟨_, rfl, rfl, rfl⟩ := hp
      try simp only [Option.toList_some, Option.toList_none, List.cons_append, List.nil_append]
      refine r_iadd S dX5_down_127 ?_
      refine r_num (z' := (((t3 + ow a (h.2.2.1 - h.2.2.2)) : Nat) : Int)) (by rw [Int.natCast_add]; rfl) ?_
      refine r_istore S dX5_down_128 rfl (by decide) (lv' := [_, _, _, _, _, _, _, _, _, _, _, _]) rfl ?_
      refine r_aload_n S dX5_down_130 rfl ?_
      refine r_getf S g_RX5_15_0 dX5_down_131 (by repeat (first | assumption | exact sUp_same | exact sNew_same | refine sUp_ne (by first | assumption | omega) ?_)) rfl ?_
      refine r_iload_n S dX5_down_134 rfl ?_
      refine r_iload S dX5_down_135 rfl ?_
      refine r_iastN S (2) dX5_down_137 (by repeat (first | assumption | exact sUp_same | exact sNew_same | refine sUp_ne (by first | assumption | omega) ?_)) (by rfl) (by omega) (by decide) ?_
      simp only [sUp_sUp]
      refine r_iload_n S dX5_down_138 rfl ?_
      refine r_iload_n S dX5_down_139 rfl ?_
      refine r_iload S dX5_down_140 rfl ?_
      refine r_iload S dX5_down_142 rfl ?_
      refine r_iadd S dX5_down_144 ?_
      refine r_callSN S (c_placeOf (l := 2) (c := (t3 + ow a (h.2.2.1 - h.2.2.2)) + (qat h (2 + cy) - qat (t3, t3, t3, t3) (2 + cy))) (by rfl) (by omega) (by decide) b16) k_mX11_placeOf c_RX5_50 dX5_down_145 (by decide) ⟨by omega, by omega⟩ rfl rfl (Nat.le_of_ble_eq_true rfl) (fun r σ' hp => ?_)
      obtain ⟨_, rfl, rfl, rfl⟩ := hp
      try simp only [Option.toList_some, Option.toList_none, List.cons_append, List.nil_append]
      refine r_iadd S dX5_down_148 ?_
      refine r_istore S dX5_down_149 rfl (by decide) (lv' := [_, _, _, _, _, _, _, _, _, _, _, _]) rfl ?_
      refine r_iload_n S dX5_down_151 rfl ?_
      refine r_iload_n S dX5_down_152 rfl ?_
      refine r_iload S dX5_down_153 rfl ?_
      refine r_iload S dX5_down_155 rfl ?_
      refine r_isub S dX5_down_157 ?_
      refine r_callSN S (c_placeOf (l := 2) (c := h.2.2.1 - (t3 + ow a (h.2.2.1 - h.2.2.2)) + qat (t3, t3, t3, t3) (2 + cn)) (by rfl) (by omega) (by decide) b17) k_mX11_placeOf c_RX5_50 dX5_down_158 (by decide) ⟨by omega, by omega⟩ rfl rfl (Nat.le_of_ble_eq_true rfl) (fun r σ' hp => ?_)
      obtain ⟨_, rfl, rfl, rfl⟩ := hp
      try simp only [Option.toList_some, Option.toList_none, List.cons_append, List.nil_append]
      refine r_iadd S dX5_down_161 ?_
      refine r_istore S dX5_down_162 rfl (by decide) (lv' := [_, _, _, _, _, _, _, _, _, _, _, _]) rfl ?_
      refine r_aload_n S dX5_down_164 rfl ?_
      refine r_iload_n S dX5_down_165 rfl ?_
      refine r_iconst S dX5_down_166 ?_
      refine r_isub S dX5_down_167 ?_
      refine r_num (z' := 1) (by decide) ?_
      refine r_iload S dX5_down_168 rfl ?_
      refine r_iload S dX5_down_170 rfl ?_
      have htkn : ∀ j, 1 < j → j < 8 → uZ tk' 2 (((t3 + ow a (h.2.2.1 - h.2.2.2)) : Nat) : Int) j = (qat ((t3 + ow a (h.2.2.1 - h.2.2.2)), (t3 + ow a (h.2.2.1 - h.2.2.2)), (t3 + ow a (h.2.2.1 - h.2.2.2)), t3) j : Int) := by
        intro j hj hj8
        unfold uZ
        by_cases hjj : j = 2
        · subst hjj
          rw [if_pos rfl]
          rfl
        · rw [if_neg hjj, htk' j (by omega) hj8, htk j (by omega) hj8, hag j (by omega)]
      refine r_callU S (c_down1 (t2 := (t3 + ow a (h.2.2.1 - h.2.2.2))) (t3 := t3) (sUp_ne (by omega) hF) hFr (sUp_ne (by omega) hO) hg hcy hcn (sUp_ne (by omega) hH) hhv sUp_same hd h16 hFm hsn htkn (by rw [ey2, ey3]; omega) (by rw [en2, en3]; omega)) k_mX5_down c_RX5_40_0 dX5_down_172 (by decide) ⟨by omega, by omega⟩ (by repeat (first | assumption | exact sUp_same | exact sNew_same | refine sUp_ne (by first | assumption | omega) ?_)) rfl rfl (Nat.le_of_ble_eq_true rfl) (fun r σ' hp => ?_)
      obtain ⟨_, rfl, rfl, tk3, htk3, rfl⟩ := hp
      try simp only [Option.toList_some, Option.toList_none, List.cons_append, List.nil_append]
      simp only [sUp_sUp]
      have htk4 : ∀ j, 2 < j → j < 8 → tk3 j = tk j := by
        intro j hj hj8
        rw [htk3 j (by omega) hj8]
        unfold uZ
        rw [if_neg (by omega), htk' j hj hj8]
      refine r_if_eq S dX5_down_175 (tgt := 180) (by decide) (bP_R _) (fun h_175 => ?_) (fun h_175 => ?_)
      · rw [bP_z] at h_175
        refine r_iinc S dX5_down_180 rfl rfl (by decide) (lv' := [_, _, _, _, _, _, _, _, _, _, _, _]) rfl ?_
        refine r_goto S dX5_down_183 (tgt := 111) (by decide) ?_
        refine V.mask [true, true, true, true, true, true, true, true, true, false, false, false] (lv' := [_, _, _, _, _, _, _, _, _, none, none, none]) rfl ?_
        refine ih (a + 1) (by omega) tk3 htk4 (fun a' ha' => ?_)
        rcases Nat.lt_or_ge a' a with e | e
        · exact hno a' e
        · rw [show a' = a by omega]; exact h_175
      · have h_175 := Classical.not_not.mp (fun h8 => h_175 ((bP_z _).mpr h8))
        refine r_iconst S dX5_down_178 ?_
        exact r_zret S dX5_down_179 (by omega) (by omega) (by first | exact Or.inl rfl | exact Or.inr rfl | omega) (⟨_, rfl, by rw [bP_t (show D2 F g cy cn h t3 from ⟨ow a (h.2.2.1 - h.2.2.2), hol, h_175⟩)], tk3, htk4, rfl⟩)

set_option maxRecDepth 100000 in
set_option maxHeartbeats 4000000 in
theorem c_down2 {k : Cx} {L0 : Launch} {σ : St} {ta : Nat} {F : Nat → Int} (hF : σ.2 ta = some (eI k 4845 F)) (hFr : ∀ j, 0 ≤ F j ∧ F j ≤ 13) {cy cn : Nat} {g : Int} (hO : σ.2 (ta + 1) = some (oAny ta cy cn g)) (hg : -1 ≤ g ∧ g ≤ 13) (hcy : 1 ≤ cy ∧ cy ≤ 4) (hcn : 1 ≤ cn ∧ cn ≤ 4) {h : Q4} {hv tk : Nat → Int} (hH : σ.2 (ta + 2) = some (eI k 8 hv)) (hhv : ∀ j, j < 8 → hv j = (qat h j : Int)) (hT : σ.2 (ta + 3) = some (eI k 8 tk)) (hd : Dec h) (h16 : h.1 ≤ 16) (hFm : Fm F h) {t3 : Nat} (hs : Spl h (t3, t3, t3, t3)) (htk : ∀ j, 2 < j → j < 8 → tk j = (qat (t3, t3, t3, t3) j : Int)) {y0 n0 : Int} (hy0 : y0 = ((PL 3 (yS cy h (t3, t3, t3, t3)).2.2.2 : Nat) : Int)) (hn0 : n0 = ((PL 3 (nS cn h (t3, t3, t3, t3)).2.2.2 : Nat) : Int)) : CtrV k L0 mX5_down 5 0 0 [.ref (ta + 1), .int (iZ (2 : Int)), .int (iZ y0), .int (iZ n0)] σ (fun v σ' => v = .int (iZ (bP (D2 F g cy cn h t3))) ∧ ∃ tk2 : Nat → Int, (∀ j, 2 < j → j < 8 → tk2 j = tk j) ∧ σ' = sUp σ (ta + 3) (eI k 8 tk2)) := by
  refine Ctr.of (by decide +kernel) rfl (Nat.le_of_ble_eq_true rfl) ?_
  intro κ hl0 S
  subst hl0
  subst hy0
  subst hn0
  obtain ⟨hs1, hs2, hs3⟩ := id hs
  have hA1 : tk 3 = ((t3 : Nat) : Int) := htk 3 (by decide) (by decide)
  have hB0 : hv 2 = ((h.2.2.1 : Nat) : Int) := hhv 2 (by decide)
  have hB1 : hv 3 = ((h.2.2.2 : Nat) : Int) := hhv 3 (by decide)
  have hCy := hhv (2 + cy) (by omega)
  have hDy := htk (2 + cy) (by omega) (by omega)
  have hDn := htk (2 + cn) (by omega) (by omega)
  have m1 := qat_mono hs3 (2 + cy)
  have m2 := qat_mono hs3 (2 + cn)
  have m5 : h.2.1 ≤ h.1 ∧ h.2.2.1 ≤ h.2.1 ∧ h.2.2.2 ≤ h.2.2.1 := hd
  refine r_iload_n S dX5_down_0 rfl ?_
  refine r_if_lt S dX5_down_1 (tgt := 9) (by decide) ⟨by omega, by omega⟩ (fun h_1 => ?_) (fun h_1 => ?_)
  · exact absurd h_1 (by decide)
  · refine r_iload_n S dX5_down_4 rfl ?_
    refine r_iconst S dX5_down_5 ?_
    refine r_icmp_lt S dX5_down_6 (tgt := 11) (by decide) ⟨by omega, by omega⟩ ⟨by omega, by omega⟩ (fun h_6 => ?_) (fun h_6 => ?_)
    · refine r_aload_n S dX5_down_11 rfl ?_
      refine r_getf S g_RX5_15_0 dX5_down_12 (by repeat (first | assumption | exact sUp_same | exact sNew_same | refine sUp_ne (by first | assumption | omega) ?_)) rfl ?_
      refine r_iload_n S dX5_down_15 rfl ?_
      refine r_iconst S dX5_down_16 ?_
      refine r_iadd S dX5_down_17 ?_
      refine r_ialdN S (3) dX5_down_18 (by repeat (first | assumption | exact sUp_same | exact sNew_same | refine sUp_ne (by first | assumption | omega) ?_)) (by rfl) (by omega) (by decide) ?_
      rw [hA1]
      refine r_istore S dX5_down_19 rfl (by decide) (lv' := [_, _, _, _, _, _, _, _, _, _, _, _]) rfl ?_
      refine r_aload_n S dX5_down_21 rfl ?_
      refine r_getf S g_RX5_9_0 dX5_down_22 (by repeat (first | assumption | exact sUp_same | exact sNew_same | refine sUp_ne (by first | assumption | omega) ?_)) rfl ?_
      refine r_iload_n S dX5_down_25 rfl ?_
      refine r_ialdN S (2) dX5_down_26 (by repeat (first | assumption | exact sUp_same | exact sNew_same | refine sUp_ne (by first | assumption | omega) ?_)) (by rfl) (by omega) (by decide) ?_
      rw [hB0]
      refine r_aload_n S dX5_down_27 rfl ?_
      refine r_getf S g_RX5_9_0 dX5_down_28 (by repeat (first | assumption | exact sUp_same | exact sNew_same | refine sUp_ne (by first | assumption | omega) ?_)) rfl ?_
      refine r_iload_n S dX5_down_31 rfl ?_
      refine r_iconst S dX5_down_32 ?_
      refine r_iadd S dX5_down_33 ?_
      refine r_ialdN S (3) dX5_down_34 (by repeat (first | assumption | exact sUp_same | exact sNew_same | refine sUp_ne (by first | assumption | omega) ?_)) (by rfl) (by omega) (by decide) ?_
      rw [hB1]
      refine r_isub S dX5_down_35 ?_
      refine r_num (z' := (((h.2.2.1 - h.2.2.2) : Nat) : Int)) (by omega) ?_
      refine r_istore S dX5_down_36 rfl (by decide) (lv' := [_, _, _, _, _, _, _, _, _, _, _, _]) rfl ?_
      refine r_aload_n S dX5_down_38 rfl ?_
      refine r_getf S g_RX5_9_0 dX5_down_39 (by repeat (first | assumption | exact sUp_same | exact sNew_same | refine sUp_ne (by first | assumption | omega) ?_)) rfl ?_
      refine r_iload_n S dX5_down_42 rfl ?_
      refine r_aload_n S dX5_down_43 rfl ?_
      refine r_getf S g_RX5_34_0 dX5_down_44 (by repeat (first | assumption | exact sUp_same | exact sNew_same | refine sUp_ne (by first | assumption | omega) ?_)) rfl ?_
      refine r_iadd S dX5_down_47 ?_
      refine r_ialdN S (2 + cy) dX5_down_48 (by repeat (first | assumption | exact sUp_same | exact sNew_same | refine sUp_ne (by first | assumption | omega) ?_)) (by omega) (by omega) (by decide) ?_
      rw [hCy]
      refine r_aload_n S dX5_down_49 rfl ?_
      refine r_getf S g_RX5_15_0 dX5_down_50 (by repeat (first | assumption | exact sUp_same | exact sNew_same | refine sUp_ne (by first | assumption | omega) ?_)) rfl ?_
      refine r_iload_n S dX5_down_53 rfl ?_
      refine r_aload_n S dX5_down_54 rfl ?_
      refine r_getf S g_RX5_34_0 dX5_down_55 (by repeat (first | assumption | exact sUp_same | exact sNew_same | refine sUp_ne (by first | assumption | omega) ?_)) rfl ?_
      refine r_iadd S dX5_down_58 ?_
      refine r_ialdN S (2 + cy) dX5_down_59 (by repeat (first | assumption | exact sUp_same | exact sNew_same | refine sUp_ne (by first | assumption | omega) ?_)) (by omega) (by omega) (by decide) ?_
      rw [hDy]
      refine r_isub S dX5_down_60 ?_
      refine r_num (z' := (((qat h (2 + cy) - qat (t3, t3, t3, t3) (2 + cy)) : Nat) : Int)) (by omega) ?_
      refine r_istore S dX5_down_61 rfl (by decide) (lv' := [_, _, _, _, _, _, _, _, _, _, _, _]) rfl ?_
      refine r_aload_n S dX5_down_63 rfl ?_
      refine r_getf S g_RX5_9_0 dX5_down_64 (by repeat (first | assumption | exact sUp_same | exact sNew_same | refine sUp_ne (by first | assumption | omega) ?_)) rfl ?_
      refine r_iload_n S dX5_down_67 rfl ?_
      refine r_ialdN S (2) dX5_down_68 (by repeat (first | assumption | exact sUp_same | exact sNew_same | refine sUp_ne (by first | assumption | omega) ?_)) (by rfl) (by omega) (by decide) ?_
      rw [hB0]
      refine r_aload_n S dX5_down_69 rfl ?_
      refine r_getf S g_RX5_15_0 dX5_down_70 (by repeat (first | assumption | exact sUp_same | exact sNew_same | refine sUp_ne (by first | assumption | omega) ?_)) rfl ?_
      refine r_iload_n S dX5_down_73 rfl ?_
      refine r_aload_n S dX5_down_74 rfl ?_
      refine r_getf S g_RX5_37_0 dX5_down_75 (by repeat (first | assumption | exact sUp_same | exact sNew_same | refine sUp_ne (by first | assumption | omega) ?_)) rfl ?_
      refine r_iadd S dX5_down_78 ?_
      refine r_ialdN S (2 + cn) dX5_down_79 (by repeat (first | assumption | exact sUp_same | exact sNew_same | refine sUp_ne (by first | assumption | omega) ?_)) (by omega) (by omega) (by decide) ?_
      rw [hDn]
      refine r_iadd S dX5_down_80 ?_
      refine r_num (z' := (((h.2.2.1 + qat (t3, t3, t3, t3) (2 + cn)) : Nat) : Int)) (by omega) ?_
      refine r_istore S dX5_down_81 rfl (by decide) (lv' := [_, _, _, _, _, _, _, _, _, _, _, _]) rfl ?_
      refine r_iload_n S dX5_down_83 rfl ?_
      refine r_if_ne S dX5_down_84 (tgt := 108) (by decide) ⟨by omega, by omega⟩ (fun h_84 => ?_) (fun h_84 => ?_)
      · refine r_iconst S dX5_down_108 ?_
        refine r_istore S dX5_down_109 rfl (by decide) (lv' := [_, _, _, _, _, _, _, _, _, _, _, _]) rfl ?_
        have h9 := l_down2 hF hFr hO hg hcy hcn hH hhv hT hd h16 hFm hs htk S ((h.2.2.1 - h.2.2.2) + 1) 0 (by omega) tk (fun _ _ _ => rfl) (fun _ h8 => absurd h8 (by omega))
        rw [sUp_id hT] at h9
        exact h9
      · exact absurd h_84 (by decide)
    · exact absurd h_6 (by decide)

set_option maxRecDepth 100000 in
set_option maxHeartbeats 4000000 in
theorem l_down3 {κ : Kx} {k : Cx} {σ : St} {ta : Nat} {F : Nat → Int} (hF : σ.2 ta = some (eI k 4845 F)) (hFr : ∀ j, 0 ≤ F j ∧ F j ≤ 13) {cy cn : Nat} {g : Int} (hO : σ.2 (ta + 1) = some (oAny ta cy cn g)) (hg : -1 ≤ g ∧ g ≤ 13) (hcy : 1 ≤ cy ∧ cy ≤ 4) (hcn : 1 ≤ cn ∧ cn ≤ 4) {h : Q4} {hv tk : Nat → Int} (hH : σ.2 (ta + 2) = some (eI k 8 hv)) (hhv : ∀ j, j < 8 → hv j = (qat h j : Int)) (hT : σ.2 (ta + 3) = some (eI k 8 tk)) (hd : Dec h) (h16 : h.1 ≤ 16) (hFm : Fm F h) (hs : Spl h (0, 0, 0, 0)) (htk : ∀ j, 3 < j → j < 8 → tk j = (qat (0, 0, 0, 0) j : Int)) (S : Ok κ k cX5_down 12 RX5 (some .boolean) "down" 6 0 0) : ∀ (m a : Nat), a + m = (h.2.2.2 - 0) + 1 → ∀ tk' : Nat → Int, (∀ j, 3 < j → j < 8 → tk' j = tk j) → (∀ a', a' < a → ¬ D2 F g cy cn h (0 + ow a' (h.2.2.2 - 0))) → V κ k 12 0 0 (QR κ k (fun r σ' => ∃ v, r = some v ∧ (v = .int (iZ (bP (D3 F g cy cn h))) ∧ ∃ tk2 : Nat → Int, (∀ j, 3 < j → j < 8 → tk2 j = tk j) ∧ σ' = sUp σ (ta + 3) (eI k 8 tk2))) 0 0) 111 [some (.ref (ta + 1)), some (.int (iZ (3 : Int))), some (.int (iZ ((0 : Nat) : Int))), some (.int (iZ ((0 : Nat) : Int))), some (.int (iZ ((0 : Nat) : Int))), some (.int (iZ (((h.2.2.2 - 0) : Nat) : Int))), some (.int (iZ (((qat h (3 + cy) - qat (0, 0, 0, 0) (3 + cy)) : Nat) : Int))), some (.int (iZ (((h.2.2.2 + qat (0, 0, 0, 0) (3 + cn)) : Nat) : Int))), some (.int (iZ (a : Int))), none, none, none] [] (sUp σ (ta + 3) (eI k 8 tk')) := by
  intro m
  induction m with
  | zero =>
    intro a hi
    intro tk' htk' hno
    obtain ⟨hs1, hs2, hs3⟩ := id hs
    have m1 := qat_mono hs3 (3 + cy)
    have m2 := qat_mono hs3 (3 + cn)
    have m5 : h.2.1 ≤ h.1 ∧ h.2.2.1 ≤ h.2.1 ∧ h.2.2.2 ≤ h.2.2.1 := hd
    have hpY : 0 < 5000 := by
      have b1 := PL_top
      have bY := (yS_le (cy := cy) hs)
      have bD := (yS_dec (cy := cy) hs)
      have bb := plQ_lt bD (by have := bY.1; omega)
      unfold plQ at bb
      omega
    have hpN : 0 < 5000 := by
      have b1 := PL_top
      have bY := (nS_le (cn := cn) hs)
      have bD := (nS_dec (cn := cn) hs)
      have bb := plQ_lt bD (by have := bY.1; omega)
      unfold plQ at bb
      omega
    refine r_iload S dX5_down_111 rfl ?_
    refine r_iload S dX5_down_113 rfl ?_
    refine r_icmp_gt S dX5_down_115 (tgt := 186) (by decide) ⟨by omega, by omega⟩ ⟨by omega, by omega⟩ (fun h_115 => ?_) (fun h_115 => ?_)
    · refine r_iconst S dX5_down_186 ?_
      exact r_zret S dX5_down_187 (by omega) (by omega) (by first | exact Or.inl rfl | exact Or.inr rfl | omega) (⟨_, rfl, by rw [bP_f (fun hz => by obtain ⟨x, hx, hx2⟩ := hz; obtain ⟨a9, ha9, rfl⟩ := ow_surj hx; exact hno a9 (by omega) hx2)], tk', htk', rfl⟩)
    · omega
  | succ m ih =>
    intro a hi
    intro tk' htk' hno
    obtain ⟨hs1, hs2, hs3⟩ := id hs
    have m1 := qat_mono hs3 (3 + cy)
    have m2 := qat_mono hs3 (3 + cn)
    have m5 : h.2.1 ≤ h.1 ∧ h.2.2.1 ≤ h.2.1 ∧ h.2.2.2 ≤ h.2.2.1 := hd
    have hpY : 0 < 5000 := by
      have b1 := PL_top
      have bY := (yS_le (cy := cy) hs)
      have bD := (yS_dec (cy := cy) hs)
      have bb := plQ_lt bD (by have := bY.1; omega)
      unfold plQ at bb
      omega
    have hpN : 0 < 5000 := by
      have b1 := PL_top
      have bY := (nS_le (cn := cn) hs)
      have bD := (nS_dec (cn := cn) hs)
      have bb := plQ_lt bD (by have := bY.1; omega)
      unfold plQ at bb
      omega
    have hol := ow_le (show a ≤ (h.2.2.2 - 0) by omega)
    have hl3 : leQ (0, 0, 0, 0) h := hs3
    have hl2 : Dec (subQ h (0, 0, 0, 0)) := hs2
    have hl1 : Dec (0, 0, 0, 0) := hs1
    simp only [leQ] at hl3
    simp only [Dec, subQ] at hl2
    simp only [Dec] at hl1
    have hsn : Spl h ((0 + ow a (h.2.2.2 - 0)), (0 + ow a (h.2.2.2 - 0)), (0 + ow a (h.2.2.2 - 0)), (0 + ow a (h.2.2.2 - 0))) := by
      refine ⟨?_, ?_, ?_⟩
      · simp only [Dec]; omega
      · simp only [Dec, subQ]; omega
      · simp only [leQ]; omega
    have hag : ∀ i, 3 < i → qat ((0 + ow a (h.2.2.2 - 0)), (0 + ow a (h.2.2.2 - 0)), (0 + ow a (h.2.2.2 - 0)), (0 + ow a (h.2.2.2 - 0))) i = qat (0, 0, 0, 0) i := by
      intro i hi
      match i with
      | 0 => first | omega | rfl
      | 1 => first | omega | rfl
      | 2 => first | omega | rfl
      | 3 => first | omega | rfl
      | _ + 4 => rfl
    have gy := hag (3 + cy) (by omega)
    have gn := hag (3 + cn) (by omega)
    have ey3 : (yS cy h ((0 + ow a (h.2.2.2 - 0)), (0 + ow a (h.2.2.2 - 0)), (0 + ow a (h.2.2.2 - 0)), (0 + ow a (h.2.2.2 - 0)))).2.2.2 = qat ((0 + ow a (h.2.2.2 - 0)), (0 + ow a (h.2.2.2 - 0)), (0 + ow a (h.2.2.2 - 0)), (0 + ow a (h.2.2.2 - 0))) 3 + (qat h (3 + cy) - qat ((0 + ow a (h.2.2.2 - 0)), (0 + ow a (h.2.2.2 - 0)), (0 + ow a (h.2.2.2 - 0)), (0 + ow a (h.2.2.2 - 0))) (3 + cy)) := yS_at (j := 3) (by decide)
    have en3 : (nS cn h ((0 + ow a (h.2.2.2 - 0)), (0 + ow a (h.2.2.2 - 0)), (0 + ow a (h.2.2.2 - 0)), (0 + ow a (h.2.2.2 - 0)))).2.2.2 = qat h 3 - qat ((0 + ow a (h.2.2.2 - 0)), (0 + ow a (h.2.2.2 - 0)), (0 + ow a (h.2.2.2 - 0)), (0 + ow a (h.2.2.2 - 0))) 3 + qat ((0 + ow a (h.2.2.2 - 0)), (0 + ow a (h.2.2.2 - 0)), (0 + ow a (h.2.2.2 - 0)), (0 + ow a (h.2.2.2 - 0))) (3 + cn) := nS_at (j := 3) (by decide)
    rw [gy] at ey3
    rw [gn] at en3
    have ey3 : (yS cy h ((0 + ow a (h.2.2.2 - 0)), (0 + ow a (h.2.2.2 - 0)), (0 + ow a (h.2.2.2 - 0)), (0 + ow a (h.2.2.2 - 0)))).2.2.2 = (0 + ow a (h.2.2.2 - 0)) + (qat h (3 + cy) - qat (0, 0, 0, 0) (3 + cy)) := ey3
    have en3 : (nS cn h ((0 + ow a (h.2.2.2 - 0)), (0 + ow a (h.2.2.2 - 0)), (0 + ow a (h.2.2.2 - 0)), (0 + ow a (h.2.2.2 - 0)))).2.2.2 = h.2.2.2 - (0 + ow a (h.2.2.2 - 0)) + qat (0, 0, 0, 0) (3 + cn) := en3
    have bY := (yS_le (cy := cy) hsn)
    have bN := (nS_le (cn := cn) hsn)
    simp only [leQ] at bY bN
    have b16 : (0 + ow a (h.2.2.2 - 0)) + (qat h (3 + cy) - qat (0, 0, 0, 0) (3 + cy)) < 17 := by omega
    have b17 : h.2.2.2 - (0 + ow a (h.2.2.2 - 0)) + qat (0, 0, 0, 0) (3 + cn) < 17 := by omega
    refine r_iload S dX5_down_111 rfl ?_
    refine r_iload S dX5_down_113 rfl ?_
    refine r_icmp_gt S dX5_down_115 (tgt := 186) (by decide) ⟨by omega, by omega⟩ ⟨by omega, by omega⟩ (fun h_115 => ?_) (fun h_115 => ?_)
    · omega
    · refine r_iload S dX5_down_118 rfl ?_
      refine r_iload S dX5_down_120 rfl ?_
      refine r_iload S dX5_down_122 rfl ?_
      refine r_callS S (c_outward (a := a) (s := (h.2.2.2 - 0)) (by omega) (by omega)) k_mX5_outward c_RX5_47 dX5_down_124 (by decide) ⟨by omega, by omega⟩ rfl rfl (Nat.le_of_ble_eq_true rfl) (fun r σ' hp => ?_)
      obtain ⟨_, rfl, rfl, rfl⟩ := hp
      try simp only [Option.toList_some, Option.toList_none, List.cons_append, List.nil_append]
      refine r_iadd S dX5_down_127 ?_
      refine r_num (z' := (((0 + ow a (h.2.2.2 - 0)) : Nat) : Int)) (by rw [Int.natCast_add]; rfl) ?_
      refine r_istore S dX5_down_128 rfl (by decide) (lv' := [_, _, _, _, _, _, _, _, _, _, _, _]) rfl ?_
      refine r_aload_n S dX5_down_130 rfl ?_
      refine r_getf S g_RX5_15_0 dX5_down_131 (by repeat (first | assumption | exact sUp_same | exact sNew_same | refine sUp_ne (by first | assumption | omega) ?_)) rfl ?_
      refine r_iload_n S dX5_down_134 rfl ?_
      refine r_iload S dX5_down_135 rfl ?_
      refine r_iastN S (3) dX5_down_137 (by repeat (first | assumption | exact sUp_same | exact sNew_same | refine sUp_ne (by first | assumption | omega) ?_)) (by rfl) (by omega) (by decide) ?_
      simp only [sUp_sUp]
      refine r_iload_n S dX5_down_138 rfl ?_
      refine r_iload_n S dX5_down_139 rfl ?_
      refine r_iload S dX5_down_140 rfl ?_
      refine r_iload S dX5_down_142 rfl ?_
      refine r_iadd S dX5_down_144 ?_
      refine r_callSN S (c_placeOf (l := 3) (c := (0 + ow a (h.2.2.2 - 0)) + (qat h (3 + cy) - qat (0, 0, 0, 0) (3 + cy))) (by rfl) (by omega) (by decide) b16) k_mX11_placeOf c_RX5_50 dX5_down_145 (by decide) ⟨by omega, by omega⟩ rfl rfl (Nat.le_of_ble_eq_true rfl) (fun r σ' hp => ?_)
      obtain ⟨_, rfl, rfl, rfl⟩ := hp
      try simp only [Option.toList_some, Option.toList_none, List.cons_append, List.nil_append]
      refine r_iadd S dX5_down_148 ?_
      refine r_istore S dX5_down_149 rfl (by decide) (lv' := [_, _, _, _, _, _, _, _, _, _, _, _]) rfl ?_
      refine r_iload_n S dX5_down_151 rfl ?_
      refine r_iload_n S dX5_down_152 rfl ?_
      refine r_iload S dX5_down_153 rfl ?_
      refine r_iload S dX5_down_155 rfl ?_
      refine r_isub S dX5_down_157 ?_
      refine r_callSN S (c_placeOf (l := 3) (c := h.2.2.2 - (0 + ow a (h.2.2.2 - 0)) + qat (0, 0, 0, 0) (3 + cn)) (by rfl) (by omega) (by decide) b17) k_mX11_placeOf c_RX5_50 dX5_down_158 (by decide) ⟨by omega, by omega⟩ rfl rfl (Nat.le_of_ble_eq_true rfl) (fun r σ' hp => ?_)
      obtain ⟨_, rfl, rfl, rfl⟩ := hp
      try simp only [Option.toList_some, Option.toList_none, List.cons_append, List.nil_append]
      refine r_iadd S dX5_down_161 ?_
      refine r_istore S dX5_down_162 rfl (by decide) (lv' := [_, _, _, _, _, _, _, _, _, _, _, _]) rfl ?_
      refine r_aload_n S dX5_down_164 rfl ?_
      refine r_iload_n S dX5_down_165 rfl ?_
      refine r_iconst S dX5_down_166 ?_
      refine r_isub S dX5_down_167 ?_
      refine r_num (z' := 2) (by decide) ?_
      refine r_iload S dX5_down_168 rfl ?_
      refine r_iload S dX5_down_170 rfl ?_
      have htkn : ∀ j, 2 < j → j < 8 → uZ tk' 3 (((0 + ow a (h.2.2.2 - 0)) : Nat) : Int) j = (qat ((0 + ow a (h.2.2.2 - 0)), (0 + ow a (h.2.2.2 - 0)), (0 + ow a (h.2.2.2 - 0)), (0 + ow a (h.2.2.2 - 0))) j : Int) := by
        intro j hj hj8
        unfold uZ
        by_cases hjj : j = 3
        · subst hjj
          rw [if_pos rfl]
          rfl
        · rw [if_neg hjj, htk' j (by omega) hj8, htk j (by omega) hj8, hag j (by omega)]
      refine r_callU S (c_down2 (t3 := (0 + ow a (h.2.2.2 - 0))) (sUp_ne (by omega) hF) hFr (sUp_ne (by omega) hO) hg hcy hcn (sUp_ne (by omega) hH) hhv sUp_same hd h16 hFm hsn htkn (by rw [ey3]; omega) (by rw [en3]; omega)) k_mX5_down c_RX5_40_0 dX5_down_172 (by decide) ⟨by omega, by omega⟩ (by repeat (first | assumption | exact sUp_same | exact sNew_same | refine sUp_ne (by first | assumption | omega) ?_)) rfl rfl (Nat.le_of_ble_eq_true rfl) (fun r σ' hp => ?_)
      obtain ⟨_, rfl, rfl, tk3, htk3, rfl⟩ := hp
      try simp only [Option.toList_some, Option.toList_none, List.cons_append, List.nil_append]
      simp only [sUp_sUp]
      have htk4 : ∀ j, 3 < j → j < 8 → tk3 j = tk j := by
        intro j hj hj8
        rw [htk3 j (by omega) hj8]
        unfold uZ
        rw [if_neg (by omega), htk' j hj hj8]
      refine r_if_eq S dX5_down_175 (tgt := 180) (by decide) (bP_R _) (fun h_175 => ?_) (fun h_175 => ?_)
      · rw [bP_z] at h_175
        refine r_iinc S dX5_down_180 rfl rfl (by decide) (lv' := [_, _, _, _, _, _, _, _, _, _, _, _]) rfl ?_
        refine r_goto S dX5_down_183 (tgt := 111) (by decide) ?_
        refine V.mask [true, true, true, true, true, true, true, true, true, false, false, false] (lv' := [_, _, _, _, _, _, _, _, _, none, none, none]) rfl ?_
        refine ih (a + 1) (by omega) tk3 htk4 (fun a' ha' => ?_)
        rcases Nat.lt_or_ge a' a with e | e
        · exact hno a' e
        · rw [show a' = a by omega]; exact h_175
      · have h_175 := Classical.not_not.mp (fun h8 => h_175 ((bP_z _).mpr h8))
        refine r_iconst S dX5_down_178 ?_
        exact r_zret S dX5_down_179 (by omega) (by omega) (by first | exact Or.inl rfl | exact Or.inr rfl | omega) (⟨_, rfl, by rw [bP_t (show D3 F g cy cn h from ⟨ow a (h.2.2.2 - 0), hol, h_175⟩)], tk3, htk4, rfl⟩)

set_option maxRecDepth 100000 in
set_option maxHeartbeats 4000000 in
theorem c_down3 {k : Cx} {L0 : Launch} {σ : St} {ta : Nat} {F : Nat → Int} (hF : σ.2 ta = some (eI k 4845 F)) (hFr : ∀ j, 0 ≤ F j ∧ F j ≤ 13) {cy cn : Nat} {g : Int} (hO : σ.2 (ta + 1) = some (oAny ta cy cn g)) (hg : -1 ≤ g ∧ g ≤ 13) (hcy : 1 ≤ cy ∧ cy ≤ 4) (hcn : 1 ≤ cn ∧ cn ≤ 4) {h : Q4} {hv tk : Nat → Int} (hH : σ.2 (ta + 2) = some (eI k 8 hv)) (hhv : ∀ j, j < 8 → hv j = (qat h j : Int)) (hT : σ.2 (ta + 3) = some (eI k 8 tk)) (hd : Dec h) (h16 : h.1 ≤ 16) (hFm : Fm F h) (hs : Spl h (0, 0, 0, 0)) (htk : ∀ j, 3 < j → j < 8 → tk j = (qat (0, 0, 0, 0) j : Int)) {y0 n0 : Int} (hy0 : y0 = ((0 : Nat) : Int)) (hn0 : n0 = ((0 : Nat) : Int)) : CtrV k L0 mX5_down 6 0 0 [.ref (ta + 1), .int (iZ (3 : Int)), .int (iZ y0), .int (iZ n0)] σ (fun v σ' => v = .int (iZ (bP (D3 F g cy cn h))) ∧ ∃ tk2 : Nat → Int, (∀ j, 3 < j → j < 8 → tk2 j = tk j) ∧ σ' = sUp σ (ta + 3) (eI k 8 tk2)) := by
  refine Ctr.of (by decide +kernel) rfl (Nat.le_of_ble_eq_true rfl) ?_
  intro κ hl0 S
  subst hl0
  subst hy0
  subst hn0
  obtain ⟨hs1, hs2, hs3⟩ := id hs
  have hA1 : tk 4 = ((0 : Nat) : Int) := htk 4 (by decide) (by decide)
  have hB0 : hv 3 = ((h.2.2.2 : Nat) : Int) := hhv 3 (by decide)
  have hB1 : hv 4 = ((0 : Nat) : Int) := hhv 4 (by decide)
  have hCy := hhv (3 + cy) (by omega)
  have hDy := htk (3 + cy) (by omega) (by omega)
  have hDn := htk (3 + cn) (by omega) (by omega)
  have m1 := qat_mono hs3 (3 + cy)
  have m2 := qat_mono hs3 (3 + cn)
  have m5 : h.2.1 ≤ h.1 ∧ h.2.2.1 ≤ h.2.1 ∧ h.2.2.2 ≤ h.2.2.1 := hd
  refine r_iload_n S dX5_down_0 rfl ?_
  refine r_if_lt S dX5_down_1 (tgt := 9) (by decide) ⟨by omega, by omega⟩ (fun h_1 => ?_) (fun h_1 => ?_)
  · exact absurd h_1 (by decide)
  · refine r_iload_n S dX5_down_4 rfl ?_
    refine r_iconst S dX5_down_5 ?_
    refine r_icmp_lt S dX5_down_6 (tgt := 11) (by decide) ⟨by omega, by omega⟩ ⟨by omega, by omega⟩ (fun h_6 => ?_) (fun h_6 => ?_)
    · refine r_aload_n S dX5_down_11 rfl ?_
      refine r_getf S g_RX5_15_0 dX5_down_12 (by repeat (first | assumption | exact sUp_same | exact sNew_same | refine sUp_ne (by first | assumption | omega) ?_)) rfl ?_
      refine r_iload_n S dX5_down_15 rfl ?_
      refine r_iconst S dX5_down_16 ?_
      refine r_iadd S dX5_down_17 ?_
      refine r_ialdN S (4) dX5_down_18 (by repeat (first | assumption | exact sUp_same | exact sNew_same | refine sUp_ne (by first | assumption | omega) ?_)) (by rfl) (by omega) (by decide) ?_
      rw [hA1]
      refine r_istore S dX5_down_19 rfl (by decide) (lv' := [_, _, _, _, _, _, _, _, _, _, _, _]) rfl ?_
      refine r_aload_n S dX5_down_21 rfl ?_
      refine r_getf S g_RX5_9_0 dX5_down_22 (by repeat (first | assumption | exact sUp_same | exact sNew_same | refine sUp_ne (by first | assumption | omega) ?_)) rfl ?_
      refine r_iload_n S dX5_down_25 rfl ?_
      refine r_ialdN S (3) dX5_down_26 (by repeat (first | assumption | exact sUp_same | exact sNew_same | refine sUp_ne (by first | assumption | omega) ?_)) (by rfl) (by omega) (by decide) ?_
      rw [hB0]
      refine r_aload_n S dX5_down_27 rfl ?_
      refine r_getf S g_RX5_9_0 dX5_down_28 (by repeat (first | assumption | exact sUp_same | exact sNew_same | refine sUp_ne (by first | assumption | omega) ?_)) rfl ?_
      refine r_iload_n S dX5_down_31 rfl ?_
      refine r_iconst S dX5_down_32 ?_
      refine r_iadd S dX5_down_33 ?_
      refine r_ialdN S (4) dX5_down_34 (by repeat (first | assumption | exact sUp_same | exact sNew_same | refine sUp_ne (by first | assumption | omega) ?_)) (by rfl) (by omega) (by decide) ?_
      rw [hB1]
      refine r_isub S dX5_down_35 ?_
      refine r_num (z' := (((h.2.2.2 - 0) : Nat) : Int)) (by omega) ?_
      refine r_istore S dX5_down_36 rfl (by decide) (lv' := [_, _, _, _, _, _, _, _, _, _, _, _]) rfl ?_
      refine r_aload_n S dX5_down_38 rfl ?_
      refine r_getf S g_RX5_9_0 dX5_down_39 (by repeat (first | assumption | exact sUp_same | exact sNew_same | refine sUp_ne (by first | assumption | omega) ?_)) rfl ?_
      refine r_iload_n S dX5_down_42 rfl ?_
      refine r_aload_n S dX5_down_43 rfl ?_
      refine r_getf S g_RX5_34_0 dX5_down_44 (by repeat (first | assumption | exact sUp_same | exact sNew_same | refine sUp_ne (by first | assumption | omega) ?_)) rfl ?_
      refine r_iadd S dX5_down_47 ?_
      refine r_ialdN S (3 + cy) dX5_down_48 (by repeat (first | assumption | exact sUp_same | exact sNew_same | refine sUp_ne (by first | assumption | omega) ?_)) (by omega) (by omega) (by decide) ?_
      rw [hCy]
      refine r_aload_n S dX5_down_49 rfl ?_
      refine r_getf S g_RX5_15_0 dX5_down_50 (by repeat (first | assumption | exact sUp_same | exact sNew_same | refine sUp_ne (by first | assumption | omega) ?_)) rfl ?_
      refine r_iload_n S dX5_down_53 rfl ?_
      refine r_aload_n S dX5_down_54 rfl ?_
      refine r_getf S g_RX5_34_0 dX5_down_55 (by repeat (first | assumption | exact sUp_same | exact sNew_same | refine sUp_ne (by first | assumption | omega) ?_)) rfl ?_
      refine r_iadd S dX5_down_58 ?_
      refine r_ialdN S (3 + cy) dX5_down_59 (by repeat (first | assumption | exact sUp_same | exact sNew_same | refine sUp_ne (by first | assumption | omega) ?_)) (by omega) (by omega) (by decide) ?_
      rw [hDy]
      refine r_isub S dX5_down_60 ?_
      refine r_num (z' := (((qat h (3 + cy) - qat (0, 0, 0, 0) (3 + cy)) : Nat) : Int)) (by omega) ?_
      refine r_istore S dX5_down_61 rfl (by decide) (lv' := [_, _, _, _, _, _, _, _, _, _, _, _]) rfl ?_
      refine r_aload_n S dX5_down_63 rfl ?_
      refine r_getf S g_RX5_9_0 dX5_down_64 (by repeat (first | assumption | exact sUp_same | exact sNew_same | refine sUp_ne (by first | assumption | omega) ?_)) rfl ?_
      refine r_iload_n S dX5_down_67 rfl ?_
      refine r_ialdN S (3) dX5_down_68 (by repeat (first | assumption | exact sUp_same | exact sNew_same | refine sUp_ne (by first | assumption | omega) ?_)) (by rfl) (by omega) (by decide) ?_
      rw [hB0]
      refine r_aload_n S dX5_down_69 rfl ?_
      refine r_getf S g_RX5_15_0 dX5_down_70 (by repeat (first | assumption | exact sUp_same | exact sNew_same | refine sUp_ne (by first | assumption | omega) ?_)) rfl ?_
      refine r_iload_n S dX5_down_73 rfl ?_
      refine r_aload_n S dX5_down_74 rfl ?_
      refine r_getf S g_RX5_37_0 dX5_down_75 (by repeat (first | assumption | exact sUp_same | exact sNew_same | refine sUp_ne (by first | assumption | omega) ?_)) rfl ?_
      refine r_iadd S dX5_down_78 ?_
      refine r_ialdN S (3 + cn) dX5_down_79 (by repeat (first | assumption | exact sUp_same | exact sNew_same | refine sUp_ne (by first | assumption | omega) ?_)) (by omega) (by omega) (by decide) ?_
      rw [hDn]
      refine r_iadd S dX5_down_80 ?_
      refine r_num (z' := (((h.2.2.2 + qat (0, 0, 0, 0) (3 + cn)) : Nat) : Int)) (by omega) ?_
      refine r_istore S dX5_down_81 rfl (by decide) (lv' := [_, _, _, _, _, _, _, _, _, _, _, _]) rfl ?_
      refine r_iload_n S dX5_down_83 rfl ?_
      refine r_if_ne S dX5_down_84 (tgt := 108) (by decide) ⟨by omega, by omega⟩ (fun h_84 => ?_) (fun h_84 => ?_)
      · refine r_iconst S dX5_down_108 ?_
        refine r_istore S dX5_down_109 rfl (by decide) (lv' := [_, _, _, _, _, _, _, _, _, _, _, _]) rfl ?_
        have h9 := l_down3 hF hFr hO hg hcy hcn hH hhv hT hd h16 hFm hs htk S ((h.2.2.2 - 0) + 1) 0 (by omega) tk (fun _ _ _ => rfl) (fun _ h8 => absurd h8 (by omega))
        rw [sUp_id hT] at h9
        exact h9
      · exact absurd h_84 (by decide)
    · exact absurd h_6 (by decide)
