/-! the table of FEWEST: what a walk tells, one STATE learned -/
def Right (cy cn : Nat) (F : Nat → Int) (x : Q4) : Prop := ∃ v : Nat, F (plQ x) = (v : Int) ∧ IsFew cy cn x v
def TabOk (cy cn : Nat) (F : Nat → Int) (h : Q4) : Prop := ∀ x, Dec x → leQ x h → x ≠ h → Right cy cn F x
theorem D3_iff {F : Nat → Int} {g : Int} {cy cn : Nat} {h : Q4} (hd : Dec h) : D3 F g cy cn h ↔ ∃ t, Spl h t ∧ OKt F g cy cn h t := by
  obtain ⟨h0, h1, h2, h3⟩ := h
  simp only [Dec] at hd
  constructor
  · rintro ⟨x3, a3, x2, a2, x1, a1, x0, a0, hok⟩
    simp only at a0 a1 a2 a3
    refine ⟨_, ⟨?_, ?_, ?_⟩, hok⟩
    · simp only [Dec]; omega
    · simp only [Dec, subQ]; omega
    · simp only [leQ]; omega
  · rintro ⟨⟨t0, t1, t2, t3⟩, ⟨s1, s2, s3⟩, hok⟩
    simp only [Dec] at s1
    simp only [Dec, subQ] at s2
    simp only [leQ] at s3
    refine ⟨t3, by simp only; omega, t2 - t3, by simp only; omega, t1 - t2, by simp only; omega, t0 - t1, by simp only; omega, ?_⟩
    rw [show 0 + t3 = t3 by omega, show t3 + (t2 - t3) = t2 by omega, show t2 + (t1 - t2) = t1 by omega, show t1 + (t0 - t1) = t0 by omega]
    exact hok
theorem sum_sub {h t : Q4} (hl : leQ t h) : sumQ t (subQ h t) = h := by
  obtain ⟨h0, h1, h2, h3⟩ := h
  obtain ⟨t0, t1, t2, t3⟩ := t
  simp only [leQ] at hl
  simp only [sumQ, subQ, Prod.mk.injEq]
  omega
theorem sub_sum {t u : Q4} : subQ (sumQ t u) t = u := by
  obtain ⟨t0, t1, t2, t3⟩ := t
  obtain ⟨u0, u1, u2, u3⟩ := u
  simp only [sumQ, subQ, Prod.mk.injEq]
  omega
theorem leQ_refl (h : Q4) : leQ h h := ⟨Nat.le_refl _, Nat.le_refl _, Nat.le_refl _, Nat.le_refl _⟩
theorem leQ_trans {a b c : Q4} (h1 : leQ a b) (h2 : leQ b c) : leQ a c := ⟨Nat.le_trans h1.1 h2.1, Nat.le_trans h1.2.1 h2.2.1, Nat.le_trans h1.2.2.1 h2.2.2.1, Nat.le_trans h1.2.2.2 h2.2.2.2⟩
theorem uZ_ne {F : Nat → Int} {p : Nat} {z : Int} {j : Nat} (h : j ≠ p) : uZ F p z j = F j := if_neg h
theorem uZ_eq {F : Nat → Int} {p : Nat} {z : Int} : uZ F p z p = z := if_pos rfl
theorem tab_at {cy cn : Nat} {F : Nat → Int} {h x : Q4} {z : Int} (hd : Dec h) (h16 : h.1 ≤ 16) (hx : Dec x) (hl : leQ x h) (hne : x ≠ h) (ht : TabOk cy cn F h) : ∃ v : Nat, uZ F (plQ h) z (plQ x) = (v : Int) ∧ IsFew cy cn x v := by
  obtain ⟨v, h1, h2⟩ := ht x hx hl hne
  refine ⟨v, ?_, h2⟩
  rw [uZ_ne (fun e => hne (plQ_inj hx hd (by have := hl.1; omega) h16 e))]
  exact h1
theorem Fm_tab {cy cn : Nat} {F : Nat → Int} {h : Q4} (hd : Dec h) (h16 : h.1 ≤ 16) (ht : TabOk cy cn F h) : Fm (uZ F (plQ h) 13) h := by
  intro x hx hl
  have hx1 : Dec (x.1 + 1, x.2) := ⟨by have := hx.1; simp only; omega, hx.2.1, hx.2.2⟩
  have hxl : leQ x (x.1 + 1, x.2) := ⟨by simp only; omega, Nat.le_refl _, Nat.le_refl _, Nat.le_refl _⟩
  obtain ⟨v, e1, e2⟩ := tab_at (z := 13) hd h16 hx (leQ_trans hxl hl) (fun e => by have := hl.1; rw [← e] at this; simp only at this; omega) ht
  rw [e1]
  by_cases hq : (x.1 + 1, x.2) = h
  · rw [hq, uZ_eq]
    have := e2.1
    omega
  · obtain ⟨w, f1, f2⟩ := tab_at (z := 13) hd h16 hx1 hl hq ht
    rw [f1]
    have := few_mono hx hxl e2 f2
    omega
/-- a walk with goal q finds a heap just where q + 1 questions do, if q don't -/
theorem walk_iff {cy cn : Nat} {F : Nat → Int} {h : Q4} {q : Nat} (hd : Dec h) (h16 : h.1 ≤ 16) (h2 : 2 ≤ h.1) (ht : TabOk cy cn F h) (hq : q ≤ 12) (hn : ¬ canQ cy cn q h) : D3 (uZ F (plQ h) 13) (q : Int) cy cn h ↔ canQ cy cn (q + 1) h := by
  rw [D3_iff hd, can_step h2]
  have key : ∀ x, Dec x → leQ x h → (uZ F (plQ h) 13 (plQ x) ≤ (q : Int) ↔ canQ cy cn q x) := by
    intro x hx hl
    by_cases e : x = h
    · subst e
      rw [uZ_eq]
      exact ⟨fun z => by omega, fun z => absurd z hn⟩
    · obtain ⟨v, e1, e2⟩ := tab_at (z := 13) hd h16 hx hl e ht
      rw [e1, e2.2 q hq]
      omega
  constructor
  · rintro ⟨t, hs, o1, o2⟩
    exact ⟨t, subQ h t, hs.1, hs.2.1, sum_sub hs.2.2, (key _ (yS_dec hs) (yS_le hs)).mp o1, (key _ (nS_dec hs) (nS_le hs)).mp o2⟩
  · rintro ⟨t, u, d1, d2, rfl, o1, o2⟩
    have hs : Spl (sumQ t u) t := ⟨d1, by rw [sub_sum]; exact d2, ⟨by simp only [sumQ]; omega, by simp only [sumQ]; omega, by simp only [sumQ]; omega, by simp only [sumQ]; omega⟩⟩
    refine ⟨t, hs, (key _ (yS_dec hs) (yS_le hs)).mpr ?_, (key _ (nS_dec hs) (nS_le hs)).mpr ?_⟩
    · unfold yS; rw [sub_sum]; exact o1
    · unfold nS; rw [sub_sum]; exact o2
theorem few_of {cy cn q : Nat} {h : Q4} (hq : q ≤ 12) (hn : ¬ canQ cy cn q h) (hc : canQ cy cn (q + 1) h) : IsFew cy cn h (q + 1) := by
  refine ⟨by omega, fun p hp => ⟨fun z => ?_, fun z => can_le z hc⟩⟩
  rcases Nat.lt_or_ge p (q + 1) with e | e
  · exact absurd (can_le (by omega) z) hn
  · exact e
theorem few_13 {cy cn : Nat} {h : Q4} (hn : ¬ canQ cy cn 12 h) : IsFew cy cn h 13 := ⟨Nat.le_refl _, fun p hp => ⟨fun z => absurd (can_le hp z) hn, fun z => by omega⟩⟩
/-- what FEWEST of a STATE below tells -/
theorem few_low {cy cn : Nat} {g h : Q4} {v q : Nat} (hg : Dec g) (hl : leQ g h) (hv : IsFew cy cn g v) (hq : q ≤ 12) (hqv : q < v) : ¬ canQ cy cn q h := fun z => by
  have := (hv.2 q hq).mp (can_mono hg hl z)
  omega
/-- cells outside lo .. hi - 1 stay -/
def Fr (σ σ' : St) (lo hi : Nat) : Prop := σ'.1 = σ.1 ∧ ∀ a, (a < lo ∨ hi ≤ a) → σ'.2 a = σ.2 a
theorem Fr.refl {σ : St} {lo hi : Nat} : Fr σ σ lo hi := ⟨rfl, fun _ _ => rfl⟩
theorem Fr.trans {σ σ1 σ2 : St} {lo hi : Nat} (h1 : Fr σ σ1 lo hi) (h2 : Fr σ1 σ2 lo hi) : Fr σ σ2 lo hi := ⟨h2.1.trans h1.1, fun a ha => (h2.2 a ha).trans (h1.2 a ha)⟩
theorem Fr.up {σ σ1 : St} {lo hi a : Nat} {e : va_E} (h1 : Fr σ σ1 lo hi) (hl : lo ≤ a) (hh : a < hi) : Fr σ (sUp σ1 a e) lo hi := ⟨h1.1, fun b hb => (if_neg (by omega)).trans (h1.2 b hb)⟩
theorem Fr.wide {σ σ1 : St} {lo hi lo' hi' : Nat} (h1 : Fr σ σ1 lo hi) (hl : lo' ≤ lo) (hh : hi ≤ hi') : Fr σ σ1 lo' hi' := ⟨h1.1, fun b hb => h1.2 b (by omega)⟩
theorem Fr.at {σ σ1 : St} {lo hi a : Nat} {x : Option va_E} (h1 : Fr σ σ1 lo hi) (ha : a < lo ∨ hi ≤ a) (hx : σ.2 a = x) : σ1.2 a = x := (h1.2 a ha).trans hx
/-- the cells of a table and of its first walk -/
def Tb (k : Cx) (σ : St) (ta cy cn : Nat) (F : Nat → Int) : Prop := σ.2 ta = some (eI k 4845 F) ∧ (∀ j, 0 ≤ F j ∧ F j ≤ 13) ∧ (∃ g : Int, σ.2 (ta + 1) = some (oAny ta cy cn g)) ∧ (∃ hv : Nat → Int, (∀ j, 3 < j → j < 8 → hv j = 0) ∧ σ.2 (ta + 2) = some (eI k 8 hv)) ∧ ∃ tk : Nat → Int, (∀ j, 3 < j → j < 8 → tk j = 0) ∧ σ.2 (ta + 3) = some (eI k 8 tk)
theorem qat_hi {h : Q4} {j : Nat} (hj : 3 < j) : qat h j = 0 := by
  match j with
  | 0 => omega
  | 1 => omega
  | 2 => omega
  | 3 => omega
  | _ + 4 => rfl
theorem qat_z (j : Nat) : qat (0, 0, 0, 0) j = 0 := by
  match j with
  | 0 => rfl
  | 1 => rfl
  | 2 => rfl
  | 3 => rfl
  | _ + 4 => rfl
set_option maxRecDepth 100000 in
set_option maxHeartbeats 4000000 in
theorem c_walk0 {k : Cx} {L0 : Launch} {σ : St} {ta : Nat} {F : Nat → Int} (hF : σ.2 ta = some (eI k 4845 F)) (hFr : ∀ j, 0 ≤ F j ∧ F j ≤ 13) {cy cn : Nat} {g gz : Int} (hO : σ.2 (ta + 1) = some (oAny ta cy cn g)) (hg : -1 ≤ gz ∧ gz ≤ 13) (hcy : 1 ≤ cy ∧ cy ≤ 4) (hcn : 1 ≤ cn ∧ cn ≤ 4) {h : Q4} {hv tk : Nat → Int} (hH : σ.2 (ta + 2) = some (eI k 8 hv)) (hhv : ∀ j, j < 8 → hv j = (qat h j : Int)) (hT : σ.2 (ta + 3) = some (eI k 8 tk)) (htk : ∀ j, 3 < j → j < 8 → tk j = 0) (hd : Dec h) (h16 : h.1 ≤ 16) (hFm : Fm F h) : CtrV k L0 mX5_walk 7 0 0 [.ref (ta + 1), .int (iZ gz)] σ (fun v σ' => v = .int (iZ (bP (D3 F gz cy cn h))) ∧ ∃ tk2 : Nat → Int, (∀ j, 3 < j → j < 8 → tk2 j = 0) ∧ σ' = sUp (sUp σ (ta + 1) (oAny ta cy cn gz)) (ta + 3) (eI k 8 tk2)) := by
  refine Ctr.of (by decide +kernel) rfl (Nat.le_of_ble_eq_true rfl) ?_
  intro κ hl0 S
  subst hl0
  refine r_aload_n S dX5_walk_0 rfl ?_
  refine r_iload_n S dX5_walk_1 rfl ?_
  refine r_putf S p_RX5_18_0 dX5_walk_2 (by first | rfl | decide) (by first | rfl | decide) (by repeat (first | assumption | exact sUp_same | exact sNew_same | refine sUp_ne (by first | assumption | omega) ?_)) (Nat.le_of_ble_eq_true rfl) (fs' := [_, _, _, _, _, _]) rfl ?_
  try simp only [sUp_sUp]
  refine r_aload_n S dX5_walk_5 rfl ?_
  refine r_iconst S dX5_walk_6 ?_
  refine r_iconst S dX5_walk_7 ?_
  refine r_iconst S dX5_walk_8 ?_
  refine r_callU S (c_down3 (sUp_ne (by omega) hF) hFr sUp_same hg hcy hcn (sUp_ne (by omega) hH) hhv (sUp_ne (by omega) hT) hd h16 hFm ⟨⟨by decide, by decide, by decide⟩, hd, ⟨Nat.zero_le _, Nat.zero_le _, Nat.zero_le _, Nat.zero_le _⟩⟩ (fun j h1 h2 => by rw [htk j h1 h2, qat_z]; rfl) (by rfl) (by rfl)) k_mX5_down c_RX5_40_0 dX5_walk_9 (by decide) ⟨by omega, by omega⟩ (by repeat (first | assumption | exact sUp_same | exact sNew_same | refine sUp_ne (by first | assumption | omega) ?_)) rfl rfl (Nat.le_of_ble_eq_true rfl) (fun r σ' hp => ?_)
  obtain ⟨_, rfl, rfl, tk3, htk3, rfl⟩ := hp
  try simp only [Option.toList_some, Option.toList_none, List.cons_append, List.nil_append]
  exact r_zret S dX5_walk_12 (by omega) (by omega) (bP_01 _) (⟨_, rfl, rfl, tk3, fun j h1 h2 => by rw [htk3 j h1 h2, htk j h1 h2], rfl⟩)

set_option maxRecDepth 100000 in
set_option maxHeartbeats 4000000 in
theorem c_hold {k : Cx} {L0 : Launch} {σ : St} {ta cy cn : Nat} {g : Int} (hO : σ.2 (ta + 1) = some (oAny ta cy cn g)) {hv : Nat → Int} (hH : σ.2 (ta + 2) = some (eI k 8 hv)) (hhv : ∀ j, 3 < j → j < 8 → hv j = 0) {h0 h1 h2 h3 : Nat} : CtrU k L0 mX0_hold 1 0 0 [.ref (ta + 1), .int (iZ (h0 : Int)), .int (iZ (h1 : Int)), .int (iZ (h2 : Int)), .int (iZ (h3 : Int))] σ (fun σ' => ∃ hv2 : Nat → Int, (∀ j, j < 8 → hv2 j = (qat (h0, h1, h2, h3) j : Int)) ∧ σ' = sUp σ (ta + 2) (eI k 8 hv2)) := by
  refine Ctr.of (by decide +kernel) rfl (Nat.le_of_ble_eq_true rfl) ?_
  intro κ hl0 S
  subst hl0
  refine r_aload_n S dX0_hold_0 rfl ?_
  refine r_getf S g_RX0_7_0 dX0_hold_1 (by repeat (first | assumption | exact sUp_same | exact sNew_same | refine sUp_ne (by first | assumption | omega) ?_)) rfl ?_
  refine r_iconst S dX0_hold_4 ?_
  refine r_iload_n S dX0_hold_5 rfl ?_
  refine r_iastN S (0) dX0_hold_6 (by repeat (first | assumption | exact sUp_same | exact sNew_same | refine sUp_ne (by first | assumption | omega) ?_)) (by rfl) (by omega) (by decide) ?_
  try simp only [sUp_sUp]
  refine r_aload_n S dX0_hold_7 rfl ?_
  refine r_getf S g_RX0_7_0 dX0_hold_8 (by repeat (first | assumption | exact sUp_same | exact sNew_same | refine sUp_ne (by first | assumption | omega) ?_)) rfl ?_
  refine r_iconst S dX0_hold_11 ?_
  refine r_iload_n S dX0_hold_12 rfl ?_
  refine r_iastN S (1) dX0_hold_13 (by repeat (first | assumption | exact sUp_same | exact sNew_same | refine sUp_ne (by first | assumption | omega) ?_)) (by rfl) (by omega) (by decide) ?_
  try simp only [sUp_sUp]
  refine r_aload_n S dX0_hold_14 rfl ?_
  refine r_getf S g_RX0_7_0 dX0_hold_15 (by repeat (first | assumption | exact sUp_same | exact sNew_same | refine sUp_ne (by first | assumption | omega) ?_)) rfl ?_
  refine r_iconst S dX0_hold_18 ?_
  refine r_iload_n S dX0_hold_19 rfl ?_
  refine r_iastN S (2) dX0_hold_20 (by repeat (first | assumption | exact sUp_same | exact sNew_same | refine sUp_ne (by first | assumption | omega) ?_)) (by rfl) (by omega) (by decide) ?_
  try simp only [sUp_sUp]
  refine r_aload_n S dX0_hold_21 rfl ?_
  refine r_getf S g_RX0_7_0 dX0_hold_22 (by repeat (first | assumption | exact sUp_same | exact sNew_same | refine sUp_ne (by first | assumption | omega) ?_)) rfl ?_
  refine r_iconst S dX0_hold_25 ?_
  refine r_iload S dX0_hold_26 rfl ?_
  refine r_iastN S (3) dX0_hold_28 (by repeat (first | assumption | exact sUp_same | exact sNew_same | refine sUp_ne (by first | assumption | omega) ?_)) (by rfl) (by omega) (by decide) ?_
  try simp only [sUp_sUp]
  exact r_vret S dX0_hold_29 (by omega) (by omega) (⟨rfl, _, fun j hj => by
      unfold uZ
      match j with
      | 0 => rfl
      | 1 => rfl
      | 2 => rfl
      | 3 => rfl
      | j + 4 => rw [if_neg (by omega), if_neg (by omega), if_neg (by omega), if_neg (by omega), hhv (j + 4) (by omega) hj]; rfl, rfl⟩)

set_option maxRecDepth 100000 in
set_option maxHeartbeats 4000000 in
theorem c_fewAt {k : Cx} {L0 : Launch} {σ : St} {ta : Nat} {F : Nat → Int} (hF : σ.2 ta = some (eI k 4845 F)) (hHT : σ.2 (ta + 8) = some (oHT ta)) {z : Int} {p : Nat} (hz : z = (p : Int)) (hp : p < 4845) : CtrV k L0 mX4_fewAt 1 0 0 [.ref (ta + 8), .int (iZ z)] σ (fun v σ' => v = .int (iZ (F p)) ∧ σ' = σ) := by
  refine Ctr.of (by decide +kernel) rfl (Nat.le_of_ble_eq_true rfl) ?_
  intro κ hl0 S
  subst hl0
  subst hz
  refine r_iload_n S dX4_fewAt_0 rfl ?_
  refine r_if_lt S dX4_fewAt_1 (tgt := 22) (by decide) ⟨by omega, by omega⟩ (fun h_1 => ?_) (fun h_1 => ?_)
  · omega
  · refine r_iload_n S dX4_fewAt_4 rfl ?_
    refine r_aload_n S dX4_fewAt_5 rfl ?_
    refine r_getf S g_RX4_15_4 dX4_fewAt_6 (by repeat (first | assumption | exact sUp_same | exact sNew_same | refine sUp_ne (by first | assumption | omega) ?_)) rfl ?_
    refine r_alenI S dX4_fewAt_9 (by repeat (first | assumption | exact sUp_same | exact sNew_same | refine sUp_ne (by first | assumption | omega) ?_)) ?_
    refine r_icmp_ge S dX4_fewAt_10 (tgt := 22) (by decide) ⟨by omega, by omega⟩ ⟨by omega, by omega⟩ (fun h_10 => ?_) (fun h_10 => ?_)
    · omega
    · refine r_aload_n S dX4_fewAt_13 rfl ?_
      refine r_getf S g_RX4_15_4 dX4_fewAt_14 (by repeat (first | assumption | exact sUp_same | exact sNew_same | refine sUp_ne (by first | assumption | omega) ?_)) rfl ?_
      refine r_iload_n S dX4_fewAt_17 rfl ?_
      refine r_ialdN S (p) dX4_fewAt_18 (by repeat (first | assumption | exact sUp_same | exact sNew_same | refine sUp_ne (by first | assumption | omega) ?_)) (by omega) (by omega) (by decide) ?_
      refine r_goto S dX4_fewAt_19 (tgt := 24) (by decide) ?_
      exact r_iret S dX4_fewAt_24 (by omega) (by omega) (⟨_, rfl, rfl, rfl⟩)

set_option maxRecDepth 100000 in
set_option maxHeartbeats 4000000 in
theorem c_stepTo {k : Cx} {L0 : Launch} {σ : St} {a b : Int} {l c : Nat} (ha : a = (l : Int)) (hb : b = ((c + 1 : Nat) : Int)) (hl : l < 4) (hc : c < 16) : CtrV k L0 mX4_stepTo 2 0 0 [.int (iZ a), .int (iZ b)] σ (fun v σ' => v = .int (iZ ((PL l (c + 1) : Int) - (PL l c : Int))) ∧ σ' = σ) := by
  refine Ctr.of (by decide +kernel) rfl (Nat.le_of_ble_eq_true rfl) ?_
  intro κ hl0 S
  subst hl0
  refine r_iload_n S dX4_stepTo_0 rfl ?_
  refine r_iload_n S dX4_stepTo_1 rfl ?_
  refine r_callSN S (c_placeOf (l := l) (c := c + 1) ha hb hl (by omega)) k_mX11_placeOf c_RX4_36 dX4_stepTo_2 (by decide) ⟨by omega, by omega⟩ rfl rfl (Nat.le_of_ble_eq_true rfl) (fun r σ' hp => ?_)
  obtain ⟨_, rfl, rfl, rfl⟩ := hp
  try simp only [Option.toList_some, Option.toList_none, List.cons_append, List.nil_append]
  refine r_iload_n S dX4_stepTo_5 rfl ?_
  refine r_iload_n S dX4_stepTo_6 rfl ?_
  refine r_iconst S dX4_stepTo_7 ?_
  refine r_isub S dX4_stepTo_8 ?_
  refine r_callSN S (c_placeOf (l := l) (c := c) ha (by omega) hl (by omega)) k_mX11_placeOf c_RX4_36 dX4_stepTo_9 (by decide) ⟨by omega, by omega⟩ rfl rfl (Nat.le_of_ble_eq_true rfl) (fun r σ' hp => ?_)
  obtain ⟨_, rfl, rfl, rfl⟩ := hp
  try simp only [Option.toList_some, Option.toList_none, List.cons_append, List.nil_append]
  refine r_isub S dX4_stepTo_12 ?_
  exact r_iret S dX4_stepTo_13 (by omega) (by omega) (⟨_, rfl, rfl, rfl⟩)
