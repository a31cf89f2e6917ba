/-! HeapWalk.down, level by level -/
def subQ (h t : Q4) : Q4 := (h.1 - t.1, h.2.1 - t.2.1, h.2.2.1 - t.2.2.1, h.2.2.2 - t.2.2.2)
theorem qat_sub (h t : Q4) (j : Nat) : qat (subQ h t) j = qat h j - qat t j := by
  match j with
  | 0 => rfl
  | 1 => rfl
  | 2 => rfl
  | 3 => rfl
  | _ + 4 => rfl
def Spl (h t : Q4) : Prop := Dec t ∧ Dec (subQ h t) ∧ leQ t h
def yS (cy : Nat) (h t : Q4) : Q4 := bhQ cy t (subQ h t)
def nS (cn : Nat) (h t : Q4) : Q4 := bhQ cn (subQ h t) t
def OKt (F : Nat → Int) (g : Int) (cy cn : Nat) (h t : Q4) : Prop := F (plQ (yS cy h t)) ≤ g ∧ F (plQ (nS cn h t)) ≤ g
def D0 (F : Nat → Int) (g : Int) (cy cn : Nat) (h : Q4) (t1 t2 t3 : Nat) : Prop := ∃ x, x ≤ h.1 - h.2.1 ∧ OKt F g cy cn h (t1 + x, t1, t2, t3)
def D1 (F : Nat → Int) (g : Int) (cy cn : Nat) (h : Q4) (t2 t3 : Nat) : Prop := ∃ x, x ≤ h.2.1 - h.2.2.1 ∧ D0 F g cy cn h (t2 + x) t2 t3
def D2 (F : Nat → Int) (g : Int) (cy cn : Nat) (h : Q4) (t3 : Nat) : Prop := ∃ x, x ≤ h.2.2.1 - h.2.2.2 ∧ D1 F g cy cn h (t3 + x) t3
def D3 (F : Nat → Int) (g : Int) (cy cn : Nat) (h : Q4) : Prop := ∃ x, x ≤ h.2.2.2 ∧ D2 F g cy cn h (0 + x)
theorem qat_le {g h : Q4} (hd : Dec h) : ∀ {i j : Nat}, i ≤ j → qat h j ≤ qat h i := by
  intro i j hij
  induction hij with
  | refl => exact Nat.le_refl _
  | @step m _ ih => exact Nat.le_trans (qat_dec hd m) ih
theorem yS_le {cy : Nat} {h t : Q4} (hs : Spl h t) : leQ (yS cy h t) h := by
  obtain ⟨ht, hu, l0, l1, l2, l3⟩ := hs
  have k0 : qat (subQ h t) cy ≤ h.1 - t.1 := qat_le (g := h) hu (show 0 ≤ cy by omega)
  have k1 : qat (subQ h t) (1 + cy) ≤ h.2.1 - t.2.1 := qat_le (g := h) hu (show 1 ≤ 1 + cy by omega)
  have k2 : qat (subQ h t) (2 + cy) ≤ h.2.2.1 - t.2.2.1 := qat_le (g := h) hu (show 2 ≤ 2 + cy by omega)
  have k3 : qat (subQ h t) (3 + cy) ≤ h.2.2.2 - t.2.2.2 := qat_le (g := h) hu (show 3 ≤ 3 + cy by omega)
  refine ⟨?_, ?_, ?_, ?_⟩ <;> simp only [yS, bhQ] <;> omega
theorem nS_le {cn : Nat} {h t : Q4} (hs : Spl h t) : leQ (nS cn h t) h := by
  obtain ⟨ht, hu, l0, l1, l2, l3⟩ := hs
  have k0 : qat t cn ≤ t.1 := qat_le (g := h) ht (show 0 ≤ cn by omega)
  have k1 : qat t (1 + cn) ≤ t.2.1 := qat_le (g := h) ht (show 1 ≤ 1 + cn by omega)
  have k2 : qat t (2 + cn) ≤ t.2.2.1 := qat_le (g := h) ht (show 2 ≤ 2 + cn by omega)
  have k3 : qat t (3 + cn) ≤ t.2.2.2 := qat_le (g := h) ht (show 3 ≤ 3 + cn by omega)
  refine ⟨?_, ?_, ?_, ?_⟩ <;> simp only [nS, bhQ, subQ] <;> omega
theorem yS_dec {cy : Nat} {h t : Q4} (hs : Spl h t) : Dec (yS cy h t) := bhQ_dec hs.1 hs.2.1
theorem nS_dec {cn : Nat} {h t : Q4} (hs : Spl h t) : Dec (nS cn h t) := bhQ_dec hs.2.1 hs.1
/-- FEWEST in the table never falls with one more NUMBER of LEFT 0 -/
def Fm (F : Nat → Int) (h : Q4) : Prop := ∀ x : Q4, Dec x → leQ (x.1 + 1, x.2) h → F (plQ x) ≤ F (plQ (x.1 + 1, x.2))
def ow (a s : Nat) : Nat := if a % 2 = 1 then s / 2 + (a + 1) / 2 else s / 2 - a / 2
theorem ow_le {a s : Nat} (h : a ≤ s) : ow a s ≤ s := by unfold ow; split <;> omega
theorem ow_surj {x s : Nat} (h : x ≤ s) : ∃ a, a ≤ s ∧ ow a s = x := by
  rcases Nat.lt_or_ge (s / 2) x with e | e
  · exact ⟨2 * (x - s / 2) - 1, by omega, by unfold ow; rw [if_pos (by omega)]; omega⟩
  · exact ⟨2 * (s / 2 - x), by omega, by unfold ow; rw [if_neg (by omega)]; omega⟩
def plY (x : Q4) : Nat := PL 1 x.2.1 + PL 2 x.2.2.1 + PL 3 x.2.2.2
theorem plQ_plY (x : Q4) : plQ x = x.1 + plY x := by unfold plQ plY; omega
theorem D0_last {F : Nat → Int} {g : Int} {cy cn : Nat} {h : Q4} {t1 t2 t3 : Nat} (hcy : 1 ≤ cy) (hcn : 1 ≤ cn) (hd : Dec h) (hs : Spl h (t1, t1, t2, t3)) : D0 F g cy cn h t1 t2 t3 ↔ lastP F (plQ (yS cy h (t1, t1, t2, t3))) (plQ (nS cn h (t1, t1, t2, t3))) (h.1 - h.2.1) g := by
  have key : ∀ x, x ≤ h.1 - h.2.1 → plQ (yS cy h (t1 + x, t1, t2, t3)) = plQ (yS cy h (t1, t1, t2, t3)) + x ∧ plQ (nS cn h (t1 + x, t1, t2, t3)) = plQ (nS cn h (t1, t1, t2, t3)) - x := by
    intro x hx
    obtain ⟨c, rfl⟩ : ∃ c, cy = c + 1 := ⟨cy - 1, by omega⟩
    obtain ⟨d, rfl⟩ : ∃ d, cn = d + 1 := ⟨cn - 1, by omega⟩
    have a1 : ∀ i, qat (subQ h (t1 + x, t1, t2, t3)) (i + (c + 1)) = qat (subQ h (t1, t1, t2, t3)) (i + (c + 1)) := by
      intro i
      rw [qat_sub, qat_sub, ← Nat.add_assoc]
      rcases i + c with _ | _ | _ | _ | _ <;> rfl
    have a2 : ∀ i, qat (t1 + x, t1, t2, t3) (i + (d + 1)) = qat (t1, t1, t2, t3) (i + (d + 1)) := by
      intro i
      rw [← Nat.add_assoc]
      rcases i + d with _ | _ | _ | _ | _ <;> rfl
    have b0 := a1 0
    have b1 := a2 0
    rw [Nat.zero_add] at b0 b1
    have hl := hs.2.2
    have hu := hs.2.1
    simp only [leQ] at hl
    simp only [Dec, subQ] at hu
    simp only [Dec] at hd
    constructor
    · simp only [plQ, yS, bhQ, a1, b0]; omega
    · simp only [plQ, nS, bhQ, a2, b1, subQ]; omega
  constructor
  · rintro ⟨x, hx, h1, h2⟩
    obtain ⟨k1, k2⟩ := key x hx
    rw [k1] at h1; rw [k2] at h2
    exact ⟨x, hx, h1, h2⟩
  · rintro ⟨x, hx, h1, h2⟩
    obtain ⟨k1, k2⟩ := key x hx
    rw [← k1] at h1; rw [← k2] at h2
    exact ⟨x, hx, h1, h2⟩
theorem Fm_y {F : Nat → Int} {cy : Nat} {h : Q4} {t1 t2 t3 : Nat} (hFm : Fm F h) (hcy : 1 ≤ cy) (hd : Dec h) (hs : Spl h (t1, t1, t2, t3)) : ∀ x, x < h.1 - h.2.1 → F (plQ (yS cy h (t1, t1, t2, t3)) + x) ≤ F (plQ (yS cy h (t1, t1, t2, t3)) + x + 1) := by
  intro x hx
  have hle := yS_le (cy := cy) hs
  have hdd := yS_dec (cy := cy) hs
  have hu := hs.2.1
  have hl := hs.2.2
  have k0 : qat (subQ h (t1, t1, t2, t3)) cy ≤ h.2.1 - t1 := qat_le (g := h) hu (show 1 ≤ cy by omega)
  generalize hz : yS cy h (t1, t1, t2, t3) = z at hle hdd ⊢
  have hz0 : z.1 = t1 + qat (subQ h (t1, t1, t2, t3)) cy := by rw [← hz]; rfl
  generalize qat (subQ h (t1, t1, t2, t3)) cy = w at hz0 k0
  simp only [leQ, Dec, subQ] at hle hdd hu hl hd
  have h9 := hFm (z.1 + x, z.2) (by simp only [Dec]; omega) (by simp only [leQ]; omega)
  simp only [plQ] at h9 ⊢
  rw [show z.1 + PL 1 z.2.1 + PL 2 z.2.2.1 + PL 3 z.2.2.2 + x = z.1 + x + PL 1 z.2.1 + PL 2 z.2.2.1 + PL 3 z.2.2.2 by omega, show z.1 + x + PL 1 z.2.1 + PL 2 z.2.2.1 + PL 3 z.2.2.2 + 1 = z.1 + x + 1 + PL 1 z.2.1 + PL 2 z.2.2.1 + PL 3 z.2.2.2 by omega]
  exact h9
theorem Fm_n {F : Nat → Int} {cn : Nat} {h : Q4} {t1 t2 t3 : Nat} (hFm : Fm F h) (hcn : 1 ≤ cn) (hd : Dec h) (hs : Spl h (t1, t1, t2, t3)) : h.1 - h.2.1 ≤ (nS cn h (t1, t1, t2, t3)).1 ∧ ∀ x, x < h.1 - h.2.1 → F (plQ (nS cn h (t1, t1, t2, t3)) - (x + 1)) ≤ F (plQ (nS cn h (t1, t1, t2, t3)) - x) := by
  have hle := nS_le (cn := cn) hs
  have hdd := nS_dec (cn := cn) hs
  have hu := hs.2.1
  have ht := hs.1
  have hl := hs.2.2
  generalize hz : nS cn h (t1, t1, t2, t3) = z at hle hdd ⊢
  have hz0 : z.1 = h.1 - t1 + qat (t1, t1, t2, t3) cn := by rw [← hz]; rfl
  have hz1 : z.2.1 = h.2.1 - t1 + qat (t1, t1, t2, t3) (1 + cn) := by rw [← hz]; rfl
  have k0 := qat_dec ht cn
  rw [show cn + 1 = 1 + cn by omega] at k0
  simp only [leQ, Dec, subQ] at hle hdd hu hl hd
  refine ⟨by omega, fun x hx => ?_⟩
  have h9 := hFm (z.1 - (x + 1), z.2) (by simp only [Dec]; omega) (by simp only [leQ]; omega)
  simp only [plQ] at h9 ⊢
  rw [show z.1 + PL 1 z.2.1 + PL 2 z.2.2.1 + PL 3 z.2.2.2 - (x + 1) = z.1 - (x + 1) + PL 1 z.2.1 + PL 2 z.2.2.1 + PL 3 z.2.2.2 by omega, show z.1 + PL 1 z.2.1 + PL 2 z.2.2.1 + PL 3 z.2.2.2 - x = z.1 - (x + 1) + 1 + PL 1 z.2.1 + PL 2 z.2.2.1 + PL 3 z.2.2.2 by omega]
  exact h9
set_option maxRecDepth 100000 in
set_option maxHeartbeats 4000000 in
theorem c_down0 {k : Cx} {L0 : Launch} {σ : St} {ta : Nat} {F : Nat → Int} (hF : σ.2 ta = some (eI k 4845 F)) (hFr : ∀ j, 0 ≤ F j ∧ F j ≤ 13) {cy cn : Nat} {g : Int} (hO : σ.2 (ta + 1) = some (oAny ta cy cn g)) (hg : -1 ≤ g ∧ g ≤ 13) (hcy : 1 ≤ cy ∧ cy ≤ 4) (hcn : 1 ≤ cn ∧ cn ≤ 4) {h : Q4} {hv tk : Nat → Int} (hH : σ.2 (ta + 2) = some (eI k 8 hv)) (hhv : ∀ j, j < 8 → hv j = (qat h j : Int)) (hT : σ.2 (ta + 3) = some (eI k 8 tk)) (hd : Dec h) (h16 : h.1 ≤ 16) (hFm : Fm F h) {t1 t2 t3 : Nat} (hs : Spl h (t1, t1, t2, t3)) (htk : ∀ j, 0 < j → j < 8 → tk j = (qat (t1, t1, t2, t3) j : Int)) {y0 n0 : Int} (hy0 : y0 = ((PL 1 (yS cy h (t1, t1, t2, t3)).2.1 + PL 2 (yS cy h (t1, t1, t2, t3)).2.2.1 + PL 3 (yS cy h (t1, t1, t2, t3)).2.2.2 : Nat) : Int)) (hn0 : n0 = ((PL 1 (nS cn h (t1, t1, t2, t3)).2.1 + PL 2 (nS cn h (t1, t1, t2, t3)).2.2.1 + PL 3 (nS cn h (t1, t1, t2, t3)).2.2.2 : Nat) : Int)) : CtrV k L0 mX5_down 3 0 0 [.ref (ta + 1), .int (iZ (0 : Int)), .int (iZ y0), .int (iZ n0)] σ (fun v σ' => v = .int (iZ (bP (D0 F g cy cn h t1 t2 t3))) ∧ ∃ tk2 : Nat → Int, (∀ j, 0 < j → j < 8 → tk2 j = tk j) ∧ σ' = sUp σ (ta + 3) (eI k 8 tk2)) := by
  refine Ctr.of (by decide +kernel) rfl (Nat.le_of_ble_eq_true rfl) ?_
  intro κ hl0 S
  subst hl0
  subst hy0
  subst hn0
  obtain ⟨hs1, hs2, hs3⟩ := id hs
  have hA1 := htk 1 (by decide) (by decide)
  have hB0 := hhv 0 (by decide)
  have hB1 := hhv 1 (by decide)
  have hCy := hhv (0 + cy) (by omega)
  have hDy := htk (0 + cy) (by omega) (by omega)
  have hDn := htk (0 + cn) (by omega) (by omega)
  have m1 := qat_mono hs3 (0 + cy)
  have m2 := qat_mono hs3 (0 + cn)
  have m3 := qat_le (g := h) hd (show 0 ≤ 0 + cy by omega)
  have m4 := qat_le (g := h) hd (show 0 ≤ 0 + cn by omega)
  have m5 : h.2.1 ≤ h.1 ∧ h.2.2.1 ≤ h.2.1 ∧ h.2.2.2 ≤ h.2.2.1 := hd
  simp only [qat] at hA1 hB0 hB1
  have hyd := yS_dec (cy := cy) hs
  have hyl := yS_le (cy := cy) hs
  have hnd := nS_dec (cn := cn) hs
  have hnl := nS_le (cn := cn) hs
  have hY := plQ_lt hyd (by have := hyl.1; omega)
  have hN := plQ_lt hnd (by have := hnl.1; omega)
  obtain ⟨hN0, hmN⟩ := Fm_n (F := F) hFm hcn.1 hd hs
  have hmY := Fm_y (F := F) hFm hcy.1 hd hs
  have hYs : plQ (yS cy h (t1, t1, t2, t3)) + (h.1 - h.2.1) < 4845 := by
    have h9 := plQ_lt (h := ((yS cy h (t1, t1, t2, t3)).1 + (h.1 - h.2.1), (yS cy h (t1, t1, t2, t3)).2)) (by have := hyd; simp only [Dec] at this ⊢; omega) (by
      have e : (yS cy h (t1, t1, t2, t3)).1 = t1 + qat (subQ h (t1, t1, t2, t3)) cy := rfl
      have k0 : qat (subQ h (t1, t1, t2, t3)) cy ≤ h.2.1 - t1 := qat_le (g := h) hs2 (show 1 ≤ cy by omega)
      have hl3 := hs3
      simp only [leQ] at hl3
      simp only
      rw [e]
      omega)
    unfold plQ at h9 ⊢
    simp only at h9
    omega
  have eY : plQ (yS cy h (t1, t1, t2, t3)) = (yS cy h (t1, t1, t2, t3)).1 + (PL 1 (yS cy h (t1, t1, t2, t3)).2.1 + PL 2 (yS cy h (t1, t1, t2, t3)).2.2.1 + PL 3 (yS cy h (t1, t1, t2, t3)).2.2.2) := by unfold plQ; omega
  have eN : plQ (nS cn h (t1, t1, t2, t3)) = (nS cn h (t1, t1, t2, t3)).1 + (PL 1 (nS cn h (t1, t1, t2, t3)).2.1 + PL 2 (nS cn h (t1, t1, t2, t3)).2.2.1 + PL 3 (nS cn h (t1, t1, t2, t3)).2.2.2) := by unfold plQ; omega
  have fY : (yS cy h (t1, t1, t2, t3)).1 = t1 + (qat h (0 + cy) - qat (t1, t1, t2, t3) (0 + cy)) := by rw [Nat.zero_add, ← qat_sub]; rfl
  have fN : (nS cn h (t1, t1, t2, t3)).1 = (h.1 - t1) + qat (t1, t1, t2, t3) (0 + cn) := by rw [Nat.zero_add]; rfl
  have hl1 : t1 ≤ h.1 := hs3.1
  refine r_iload_n S dX5_down_0 rfl ?_
  refine r_if_lt S dX5_down_1 (tgt := 9) (by decide) ⟨by omega, by omega⟩ (fun h_1 => ?_) (fun h_1 => ?_)
  · exact absurd h_1 (by decide)
  · refine r_iload_n S dX5_down_4 rfl ?_
    refine r_iconst S dX5_down_5 ?_
    refine r_icmp_lt S dX5_down_6 (tgt := 11) (by decide) ⟨by omega, by omega⟩ ⟨by omega, by omega⟩ (fun h_6 => ?_) (fun h_6 => ?_)
    · refine r_aload_n S dX5_down_11 rfl ?_
      refine r_getf S g_RX5_15_0 dX5_down_12 (by repeat (first | assumption | exact sUp_same | exact sNew_same | refine sUp_ne (by first | assumption | omega) ?_)) rfl ?_
      refine r_iload_n S dX5_down_15 rfl ?_
      refine r_iconst S dX5_down_16 ?_
      refine r_iadd S dX5_down_17 ?_
      refine r_ialdN S (1) dX5_down_18 (by repeat (first | assumption | exact sUp_same | exact sNew_same | refine sUp_ne (by first | assumption | omega) ?_)) (by rfl) (by omega) (by decide) ?_
      rw [hA1]
      refine r_istore S dX5_down_19 rfl (by decide) (lv' := [_, _, _, _, _, _, _, _, _, _, _, _]) rfl ?_
      refine r_aload_n S dX5_down_21 rfl ?_
      refine r_getf S g_RX5_9_0 dX5_down_22 (by repeat (first | assumption | exact sUp_same | exact sNew_same | refine sUp_ne (by first | assumption | omega) ?_)) rfl ?_
      refine r_iload_n S dX5_down_25 rfl ?_
      refine r_ialdN S (0) dX5_down_26 (by repeat (first | assumption | exact sUp_same | exact sNew_same | refine sUp_ne (by first | assumption | omega) ?_)) (by rfl) (by omega) (by decide) ?_
      rw [hB0]
      refine r_aload_n S dX5_down_27 rfl ?_
      refine r_getf S g_RX5_9_0 dX5_down_28 (by repeat (first | assumption | exact sUp_same | exact sNew_same | refine sUp_ne (by first | assumption | omega) ?_)) rfl ?_
      refine r_iload_n S dX5_down_31 rfl ?_
      refine r_iconst S dX5_down_32 ?_
      refine r_iadd S dX5_down_33 ?_
      refine r_ialdN S (1) dX5_down_34 (by repeat (first | assumption | exact sUp_same | exact sNew_same | refine sUp_ne (by first | assumption | omega) ?_)) (by rfl) (by omega) (by decide) ?_
      rw [hB1]
      refine r_isub S dX5_down_35 ?_
      refine r_istore S dX5_down_36 rfl (by decide) (lv' := [_, _, _, _, _, _, _, _, _, _, _, _]) rfl ?_
      refine r_aload_n S dX5_down_38 rfl ?_
      refine r_getf S g_RX5_9_0 dX5_down_39 (by repeat (first | assumption | exact sUp_same | exact sNew_same | refine sUp_ne (by first | assumption | omega) ?_)) rfl ?_
      refine r_iload_n S dX5_down_42 rfl ?_
      refine r_aload_n S dX5_down_43 rfl ?_
      refine r_getf S g_RX5_34_0 dX5_down_44 (by repeat (first | assumption | exact sUp_same | exact sNew_same | refine sUp_ne (by first | assumption | omega) ?_)) rfl ?_
      refine r_iadd S dX5_down_47 ?_
      refine r_ialdN S (0 + cy) dX5_down_48 (by repeat (first | assumption | exact sUp_same | exact sNew_same | refine sUp_ne (by first | assumption | omega) ?_)) (by omega) (by omega) (by decide) ?_
      rw [hCy]
      refine r_aload_n S dX5_down_49 rfl ?_
      refine r_getf S g_RX5_15_0 dX5_down_50 (by repeat (first | assumption | exact sUp_same | exact sNew_same | refine sUp_ne (by first | assumption | omega) ?_)) rfl ?_
      refine r_iload_n S dX5_down_53 rfl ?_
      refine r_aload_n S dX5_down_54 rfl ?_
      refine r_getf S g_RX5_34_0 dX5_down_55 (by repeat (first | assumption | exact sUp_same | exact sNew_same | refine sUp_ne (by first | assumption | omega) ?_)) rfl ?_
      refine r_iadd S dX5_down_58 ?_
      refine r_ialdN S (0 + cy) dX5_down_59 (by repeat (first | assumption | exact sUp_same | exact sNew_same | refine sUp_ne (by first | assumption | omega) ?_)) (by omega) (by omega) (by decide) ?_
      rw [hDy]
      refine r_isub S dX5_down_60 ?_
      refine r_istore S dX5_down_61 rfl (by decide) (lv' := [_, _, _, _, _, _, _, _, _, _, _, _]) rfl ?_
      refine r_aload_n S dX5_down_63 rfl ?_
      refine r_getf S g_RX5_9_0 dX5_down_64 (by repeat (first | assumption | exact sUp_same | exact sNew_same | refine sUp_ne (by first | assumption | omega) ?_)) rfl ?_
      refine r_iload_n S dX5_down_67 rfl ?_
      refine r_ialdN S (0) dX5_down_68 (by repeat (first | assumption | exact sUp_same | exact sNew_same | refine sUp_ne (by first | assumption | omega) ?_)) (by rfl) (by omega) (by decide) ?_
      rw [hB0]
      refine r_aload_n S dX5_down_69 rfl ?_
      refine r_getf S g_RX5_15_0 dX5_down_70 (by repeat (first | assumption | exact sUp_same | exact sNew_same | refine sUp_ne (by first | assumption | omega) ?_)) rfl ?_
      refine r_iload_n S dX5_down_73 rfl ?_
      refine r_aload_n S dX5_down_74 rfl ?_
      refine r_getf S g_RX5_37_0 dX5_down_75 (by repeat (first | assumption | exact sUp_same | exact sNew_same | refine sUp_ne (by first | assumption | omega) ?_)) rfl ?_
      refine r_iadd S dX5_down_78 ?_
      refine r_ialdN S (0 + cn) dX5_down_79 (by repeat (first | assumption | exact sUp_same | exact sNew_same | refine sUp_ne (by first | assumption | omega) ?_)) (by omega) (by omega) (by decide) ?_
      rw [hDn]
      refine r_iadd S dX5_down_80 ?_
      refine r_istore S dX5_down_81 rfl (by decide) (lv' := [_, _, _, _, _, _, _, _, _, _, _, _]) rfl ?_
      refine r_iload_n S dX5_down_83 rfl ?_
      refine r_if_ne S dX5_down_84 (tgt := 108) (by decide) ⟨by omega, by omega⟩ (fun h_84 => ?_) (fun h_84 => ?_)
      · exact absurd rfl h_84
      · refine r_aload_n S dX5_down_87 rfl ?_
        refine r_iload_n S dX5_down_88 rfl ?_
        refine r_iload S dX5_down_89 rfl ?_
        refine r_iadd S dX5_down_91 ?_
        refine r_iload S dX5_down_92 rfl ?_
        refine r_iadd S dX5_down_94 ?_
        refine r_iload_n S dX5_down_95 rfl ?_
        refine r_iload S dX5_down_96 rfl ?_
        refine r_isub S dX5_down_98 ?_
        refine r_iload S dX5_down_99 rfl ?_
        refine r_iadd S dX5_down_101 ?_
        refine r_iload S dX5_down_102 rfl ?_
        refine r_callU S (c_last0 hF hFr hO hg (Y := plQ (yS cy h (t1, t1, t2, t3))) (N := plQ (nS cn h (t1, t1, t2, t3))) (s := h.1 - h.2.1) (by omega) hYs hN (by omega) hmY hmN (by omega) (by omega) (by omega)) k_mX0_last c_RX5_44_0 dX5_down_104 (by decide) ⟨by omega, by omega⟩ (by repeat (first | assumption | exact sUp_same | exact sNew_same | refine sUp_ne (by first | assumption | omega) ?_)) rfl rfl (Nat.le_of_ble_eq_true rfl) (fun r σ' hp => ?_)
        obtain ⟨_, rfl, rfl, rfl⟩ := hp
        try simp only [Option.toList_some, Option.toList_none, List.cons_append, List.nil_append]
        exact r_zret S dX5_down_107 (by omega) (by omega) (bP_01 _) (⟨_, rfl, by rw [bP_congr (D0_last hcy.1 hcn.1 hd hs)], tk, fun _ _ _ => rfl, (sUp_id hT).symm⟩)
    · exact absurd h_6 (by decide)
