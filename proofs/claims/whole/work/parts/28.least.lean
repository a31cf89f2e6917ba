/-! LeastHeap: the least heap number among those that serve -/
def zL (w : Nat → Nat) (l c : Nat) : Nat := if c = 0 then 0 else w (l * 17 + c)
/-- the lowest NUMBERS of each LEFT, so many as t says -/
def LB (w : Nat → Nat) (t : Q4) : Nat := zL w 0 (t.1 - t.2.1) ||| zL w 1 (t.2.1 - t.2.2.1) ||| zL w 2 (t.2.2.1 - t.2.2.2) ||| zL w 3 t.2.2.2
theorem or_sub {a b r : Nat} (h : a ||| b = b) : a ||| r ≤ b ||| r := by
  have e : (a ||| r) ||| (b ||| r) = b ||| r := by
    rw [show (a ||| r) ||| (b ||| r) = (a ||| b) ||| r by
      apply Nat.eq_of_testBit_eq
      intro i
      simp only [Nat.testBit_or]
      cases a.testBit i <;> cases b.testBit i <;> cases r.testBit i <;> rfl, h]
  exact e ▸ Nat.left_le_or
theorem LB_mono {w : Nat → Nat} {s t1 t2 t3 : Nat} (hw : ∀ c, 1 ≤ c → c < s → w c ||| w (c + 1) = w (c + 1)) {x y : Nat} (hxy : x ≤ y) (hy : y ≤ s) : LB w (t1 + x, t1, t2, t3) ≤ LB w (t1 + y, t1, t2, t3) := by
  have key : zL w 0 x ||| zL w 0 y = zL w 0 y := by
    induction hxy with
    | refl => exact Nat.or_self _
    | @step m hm ih =>
      have i1 := ih (by omega)
      have i2 : zL w 0 m ||| zL w 0 (m + 1) = zL w 0 (m + 1) := by
        unfold zL
        rw [Nat.zero_mul, Nat.zero_add, Nat.zero_add, if_neg (by omega : ¬ m + 1 = 0)]
        by_cases e : m = 0
        · rw [if_pos e, Nat.zero_or]
        · rw [if_neg e]; exact hw m (by omega) (by omega)
      rw [← i2, ← Nat.or_assoc, i1, i2]
  unfold LB
  simp only
  rw [show t1 + x - t1 = x by omega, show t1 + y - t1 = y by omega, Nat.or_assoc, Nat.or_assoc, Nat.or_assoc, Nat.or_assoc]
  exact or_sub key
/-- the least of what was, and of the heaps in S -/
def MinOf (w : Nat → Nat) (T : Q4 → Prop) (ls ls' : Nat) : Prop := ls' ≤ ls ∧ (∀ t, T t → ls' ≤ LB w t) ∧ (ls' = ls ∨ ∃ t, T t ∧ ls' = LB w t)
theorem MinOf.none {w : Nat → Nat} {T : Q4 → Prop} {ls : Nat} (h : ∀ t, ¬ T t) : MinOf w T ls ls := ⟨Nat.le_refl _, fun t ht => absurd ht (h t), Or.inl rfl⟩
theorem MinOf.join {w : Nat → Nat} {T1 T2 T : Q4 → Prop} {a b c : Nat} (h1 : MinOf w T1 a b) (h2 : MinOf w T2 b c) (hT : ∀ t, T t ↔ T1 t ∨ T2 t) : MinOf w T a c := by
  refine ⟨Nat.le_trans h2.1 h1.1, fun t ht => ?_, ?_⟩
  · rcases (hT t).mp ht with e | e
    · exact Nat.le_trans h2.1 (h1.2.1 t e)
    · exact h2.2.1 t e
  · rcases h2.2.2 with e | ⟨t, e1, e2⟩
    · rcases h1.2.2 with f | ⟨t, f1, f2⟩
      · exact Or.inl (e.trans f)
      · exact Or.inr ⟨t, (hT t).mpr (Or.inl f1), e.trans f2⟩
    · exact Or.inr ⟨t, (hT t).mpr (Or.inr e1), e2⟩
theorem MinOf.congr {w : Nat → Nat} {T T' : Q4 → Prop} {a b : Nat} (h : MinOf w T a b) (hT : ∀ t, T' t ↔ T t) : MinOf w T' a b :=
  ⟨h.1, fun t ht => h.2.1 t ((hT t).mp ht), h.2.2.imp id (fun ⟨t, h1, h2⟩ => ⟨t, (hT t).mpr h1, h2⟩)⟩
set_option maxRecDepth 100000 in
set_option maxHeartbeats 4000000 in
theorem s_lt4 {κ : Kx} {k : Cx} {σ : St} {ta : Nat} {cy cn g : Int} {ls : Nat} (hO : σ.2 (ta + 4) = some (oLeast ta cy cn g ls)) {tk : Nat → Int} (hT : σ.2 (ta + 6) = some (eI k 8 tk)) {w : Nat → Nat} (hW : σ.2 (ta + 7) = some (eI k 68 (fun j => (w j : Int)))) {t0 t1 t2 t3 : Nat} (ht : Dec (t0, t1, t2, t3)) (h16 : t0 ≤ 16) (hk0 : tk 0 = (t0 : Int)) (hk1 : tk 1 = (t1 : Int)) (hk2 : tk 2 = (t2 : Int)) (hk3 : tk 3 = (t3 : Int)) (hk4 : tk 4 = 0) (S : Ok κ k cX6_lowestTaken 4 RX6 (some .int) "lowestTaken" 1 0 0) : V κ k 4 0 0 (QR κ k (fun r σ' => ∃ v, r = some v ∧ (v = .int (iZ ((LB w (t0, t1, t2, t3) : Nat) : Int)) ∧ σ' = σ)) 0 0) 4 [some (.ref (ta + 4)), some (.int (iZ ((((((0 ||| zL w 0 (t0 - t1)) ||| zL w 1 (t1 - t2)) ||| zL w 2 (t2 - t3)) ||| zL w 3 (t3 - 0)) : Nat) : Int))), some (.int (iZ (4 : Int))), none] [] σ := by
  have hd9 := ht
  simp only [Dec] at hd9
  refine r_iload_n S dX6_lowestTaken_4 rfl ?_
  refine r_iconst S dX6_lowestTaken_5 ?_
  refine r_icmp_ge S dX6_lowestTaken_6 (tgt := 55) (by decide) ⟨by omega, by omega⟩ ⟨by omega, by omega⟩ (fun h_6 => ?_) (fun h_6 => ?_)
  · refine r_iload_n S dX6_lowestTaken_55 rfl ?_
    exact r_iret S dX6_lowestTaken_56 (by omega) (by omega) (⟨_, rfl, by unfold LB; simp only [Nat.zero_or, Nat.sub_zero], rfl⟩)
  · omega

set_option maxRecDepth 100000 in
set_option maxHeartbeats 4000000 in
theorem s_lt3 {κ : Kx} {k : Cx} {σ : St} {ta : Nat} {cy cn g : Int} {ls : Nat} (hO : σ.2 (ta + 4) = some (oLeast ta cy cn g ls)) {tk : Nat → Int} (hT : σ.2 (ta + 6) = some (eI k 8 tk)) {w : Nat → Nat} (hW : σ.2 (ta + 7) = some (eI k 68 (fun j => (w j : Int)))) {t0 t1 t2 t3 : Nat} (ht : Dec (t0, t1, t2, t3)) (h16 : t0 ≤ 16) (hk0 : tk 0 = (t0 : Int)) (hk1 : tk 1 = (t1 : Int)) (hk2 : tk 2 = (t2 : Int)) (hk3 : tk 3 = (t3 : Int)) (hk4 : tk 4 = 0) (S : Ok κ k cX6_lowestTaken 4 RX6 (some .int) "lowestTaken" 1 0 0) : V κ k 4 0 0 (QR κ k (fun r σ' => ∃ v, r = some v ∧ (v = .int (iZ ((LB w (t0, t1, t2, t3) : Nat) : Int)) ∧ σ' = σ)) 0 0) 4 [some (.ref (ta + 4)), some (.int (iZ (((((0 ||| zL w 0 (t0 - t1)) ||| zL w 1 (t1 - t2)) ||| zL w 2 (t2 - t3)) : Nat) : Int))), some (.int (iZ (3 : Int))), none] [] σ := by
  have hd9 := ht
  simp only [Dec] at hd9
  refine r_iload_n S dX6_lowestTaken_4 rfl ?_
  refine r_iconst S dX6_lowestTaken_5 ?_
  refine r_icmp_ge S dX6_lowestTaken_6 (tgt := 55) (by decide) ⟨by omega, by omega⟩ ⟨by omega, by omega⟩ (fun h_6 => ?_) (fun h_6 => ?_)
  · omega
  · refine r_aload_n S dX6_lowestTaken_9 rfl ?_
    refine r_getf S g_RX6_38_5 dX6_lowestTaken_10 (by repeat (first | assumption | exact sUp_same | exact sNew_same | refine sUp_ne (by first | assumption | omega) ?_)) rfl ?_
    refine r_iload_n S dX6_lowestTaken_13 rfl ?_
    refine r_ialdN S (3) dX6_lowestTaken_14 (by repeat (first | assumption | exact sUp_same | exact sNew_same | refine sUp_ne (by first | assumption | omega) ?_)) (by rfl) (by omega) (by decide) ?_
    rw [hk3]
    refine r_aload_n S dX6_lowestTaken_15 rfl ?_
    refine r_getf S g_RX6_38_5 dX6_lowestTaken_16 (by repeat (first | assumption | exact sUp_same | exact sNew_same | refine sUp_ne (by first | assumption | omega) ?_)) rfl ?_
    refine r_iload_n S dX6_lowestTaken_19 rfl ?_
    refine r_iconst S dX6_lowestTaken_20 ?_
    refine r_iadd S dX6_lowestTaken_21 ?_
    refine r_ialdN S (4) dX6_lowestTaken_22 (by repeat (first | assumption | exact sUp_same | exact sNew_same | refine sUp_ne (by first | assumption | omega) ?_)) (by rfl) (by omega) (by decide) ?_
    rw [hk4]
    refine r_isub S dX6_lowestTaken_23 ?_
    refine r_istore_n S dX6_lowestTaken_24 rfl (by decide) (lv' := [_, _, _, _]) rfl ?_
    refine r_iload_n S dX6_lowestTaken_25 rfl ?_
    refine r_if_le S dX6_lowestTaken_26 (tgt := 49) (by decide) ⟨by omega, by omega⟩ (fun h_26 => ?_) (fun h_26 => ?_)
    · refine r_iinc S dX6_lowestTaken_49 rfl rfl (by decide) (lv' := [_, _, _, _]) rfl ?_
      refine r_goto S dX6_lowestTaken_52 (tgt := 4) (by decide) ?_
      have hz : zL w 3 (t3 - 0) = 0 := if_pos (by omega)
      have h9 := s_lt4 hO hT hW ht h16 hk0 hk1 hk2 hk3 hk4 S
      rw [hz, Nat.or_zero] at h9
      refine V.mask [true, true, true, false] (lv' := [_, _, _, none]) rfl ?_
      exact h9
    · refine r_iload_n S dX6_lowestTaken_29 rfl ?_
      refine r_bipush S dX6_lowestTaken_30 (by decide) ?_
      refine r_icmp_ge S dX6_lowestTaken_32 (tgt := 49) (by decide) ⟨by omega, by omega⟩ ⟨by omega, by omega⟩ (fun h_32 => ?_) (fun h_32 => ?_)
      · omega
      · refine r_iload_n S dX6_lowestTaken_35 rfl ?_
        refine r_aload_n S dX6_lowestTaken_36 rfl ?_
        refine r_getf S g_RX6_9_5 dX6_lowestTaken_37 (by repeat (first | assumption | exact sUp_same | exact sNew_same | refine sUp_ne (by first | assumption | omega) ?_)) rfl ?_
        refine r_iload_n S dX6_lowestTaken_40 rfl ?_
        refine r_bipush S dX6_lowestTaken_41 (by decide) ?_
        refine r_imul S dX6_lowestTaken_43 ?_
        refine r_iload_n S dX6_lowestTaken_44 rfl ?_
        refine r_iadd S dX6_lowestTaken_45 ?_
        refine r_ialdN S (3 * 17 + (t3 - 0)) dX6_lowestTaken_46 (by repeat (first | assumption | exact sUp_same | exact sNew_same | refine sUp_ne (by first | assumption | omega) ?_)) (by omega) (by omega) (by decide) ?_
        refine r_ior S dX6_lowestTaken_47 (orZ _ _) ?_
        refine r_istore_n S dX6_lowestTaken_48 rfl (by decide) (lv' := [_, _, _, _]) rfl ?_
        refine r_iinc S dX6_lowestTaken_49 rfl rfl (by decide) (lv' := [_, _, _, _]) rfl ?_
        refine r_goto S dX6_lowestTaken_52 (tgt := 4) (by decide) ?_
        have hz : zL w 3 (t3 - 0) = w (3 * 17 + (t3 - 0)) := if_neg (by omega)
        have h9 := s_lt4 hO hT hW ht h16 hk0 hk1 hk2 hk3 hk4 S
        rw [hz] at h9
        refine V.mask [true, true, true, false] (lv' := [_, _, _, none]) rfl ?_
        exact h9

set_option maxRecDepth 100000 in
set_option maxHeartbeats 4000000 in
theorem s_lt2 {κ : Kx} {k : Cx} {σ : St} {ta : Nat} {cy cn g : Int} {ls : Nat} (hO : σ.2 (ta + 4) = some (oLeast ta cy cn g ls)) {tk : Nat → Int} (hT : σ.2 (ta + 6) = some (eI k 8 tk)) {w : Nat → Nat} (hW : σ.2 (ta + 7) = some (eI k 68 (fun j => (w j : Int)))) {t0 t1 t2 t3 : Nat} (ht : Dec (t0, t1, t2, t3)) (h16 : t0 ≤ 16) (hk0 : tk 0 = (t0 : Int)) (hk1 : tk 1 = (t1 : Int)) (hk2 : tk 2 = (t2 : Int)) (hk3 : tk 3 = (t3 : Int)) (hk4 : tk 4 = 0) (S : Ok κ k cX6_lowestTaken 4 RX6 (some .int) "lowestTaken" 1 0 0) : V κ k 4 0 0 (QR κ k (fun r σ' => ∃ v, r = some v ∧ (v = .int (iZ ((LB w (t0, t1, t2, t3) : Nat) : Int)) ∧ σ' = σ)) 0 0) 4 [some (.ref (ta + 4)), some (.int (iZ ((((0 ||| zL w 0 (t0 - t1)) ||| zL w 1 (t1 - t2)) : Nat) : Int))), some (.int (iZ (2 : Int))), none] [] σ := by
  have hd9 := ht
  simp only [Dec] at hd9
  refine r_iload_n S dX6_lowestTaken_4 rfl ?_
  refine r_iconst S dX6_lowestTaken_5 ?_
  refine r_icmp_ge S dX6_lowestTaken_6 (tgt := 55) (by decide) ⟨by omega, by omega⟩ ⟨by omega, by omega⟩ (fun h_6 => ?_) (fun h_6 => ?_)
  · omega
  · refine r_aload_n S dX6_lowestTaken_9 rfl ?_
    refine r_getf S g_RX6_38_5 dX6_lowestTaken_10 (by repeat (first | assumption | exact sUp_same | exact sNew_same | refine sUp_ne (by first | assumption | omega) ?_)) rfl ?_
    refine r_iload_n S dX6_lowestTaken_13 rfl ?_
    refine r_ialdN S (2) dX6_lowestTaken_14 (by repeat (first | assumption | exact sUp_same | exact sNew_same | refine sUp_ne (by first | assumption | omega) ?_)) (by rfl) (by omega) (by decide) ?_
    rw [hk2]
    refine r_aload_n S dX6_lowestTaken_15 rfl ?_
    refine r_getf S g_RX6_38_5 dX6_lowestTaken_16 (by repeat (first | assumption | exact sUp_same | exact sNew_same | refine sUp_ne (by first | assumption | omega) ?_)) rfl ?_
    refine r_iload_n S dX6_lowestTaken_19 rfl ?_
    refine r_iconst S dX6_lowestTaken_20 ?_
    refine r_iadd S dX6_lowestTaken_21 ?_
    refine r_ialdN S (3) dX6_lowestTaken_22 (by repeat (first | assumption | exact sUp_same | exact sNew_same | refine sUp_ne (by first | assumption | omega) ?_)) (by rfl) (by omega) (by decide) ?_
    rw [hk3]
    refine r_isub S dX6_lowestTaken_23 ?_
    refine r_istore_n S dX6_lowestTaken_24 rfl (by decide) (lv' := [_, _, _, _]) rfl ?_
    refine r_iload_n S dX6_lowestTaken_25 rfl ?_
    refine r_if_le S dX6_lowestTaken_26 (tgt := 49) (by decide) ⟨by omega, by omega⟩ (fun h_26 => ?_) (fun h_26 => ?_)
    · refine r_iinc S dX6_lowestTaken_49 rfl rfl (by decide) (lv' := [_, _, _, _]) rfl ?_
      refine r_goto S dX6_lowestTaken_52 (tgt := 4) (by decide) ?_
      have hz : zL w 2 (t2 - t3) = 0 := if_pos (by omega)
      have h9 := s_lt3 hO hT hW ht h16 hk0 hk1 hk2 hk3 hk4 S
      rw [hz, Nat.or_zero] at h9
      refine V.mask [true, true, true, false] (lv' := [_, _, _, none]) rfl ?_
      exact h9
    · refine r_iload_n S dX6_lowestTaken_29 rfl ?_
      refine r_bipush S dX6_lowestTaken_30 (by decide) ?_
      refine r_icmp_ge S dX6_lowestTaken_32 (tgt := 49) (by decide) ⟨by omega, by omega⟩ ⟨by omega, by omega⟩ (fun h_32 => ?_) (fun h_32 => ?_)
      · omega
      · refine r_iload_n S dX6_lowestTaken_35 rfl ?_
        refine r_aload_n S dX6_lowestTaken_36 rfl ?_
        refine r_getf S g_RX6_9_5 dX6_lowestTaken_37 (by repeat (first | assumption | exact sUp_same | exact sNew_same | refine sUp_ne (by first | assumption | omega) ?_)) rfl ?_
        refine r_iload_n S dX6_lowestTaken_40 rfl ?_
        refine r_bipush S dX6_lowestTaken_41 (by decide) ?_
        refine r_imul S dX6_lowestTaken_43 ?_
        refine r_iload_n S dX6_lowestTaken_44 rfl ?_
        refine r_iadd S dX6_lowestTaken_45 ?_
        refine r_ialdN S (2 * 17 + (t2 - t3)) dX6_lowestTaken_46 (by repeat (first | assumption | exact sUp_same | exact sNew_same | refine sUp_ne (by first | assumption | omega) ?_)) (by omega) (by omega) (by decide) ?_
        refine r_ior S dX6_lowestTaken_47 (orZ _ _) ?_
        refine r_istore_n S dX6_lowestTaken_48 rfl (by decide) (lv' := [_, _, _, _]) rfl ?_
        refine r_iinc S dX6_lowestTaken_49 rfl rfl (by decide) (lv' := [_, _, _, _]) rfl ?_
        refine r_goto S dX6_lowestTaken_52 (tgt := 4) (by decide) ?_
        have hz : zL w 2 (t2 - t3) = w (2 * 17 + (t2 - t3)) := if_neg (by omega)
        have h9 := s_lt3 hO hT hW ht h16 hk0 hk1 hk2 hk3 hk4 S
        rw [hz] at h9
        refine V.mask [true, true, true, false] (lv' := [_, _, _, none]) rfl ?_
        exact h9

set_option maxRecDepth 100000 in
set_option maxHeartbeats 4000000 in
theorem s_lt1 {κ : Kx} {k : Cx} {σ : St} {ta : Nat} {cy cn g : Int} {ls : Nat} (hO : σ.2 (ta + 4) = some (oLeast ta cy cn g ls)) {tk : Nat → Int} (hT : σ.2 (ta + 6) = some (eI k 8 tk)) {w : Nat → Nat} (hW : σ.2 (ta + 7) = some (eI k 68 (fun j => (w j : Int)))) {t0 t1 t2 t3 : Nat} (ht : Dec (t0, t1, t2, t3)) (h16 : t0 ≤ 16) (hk0 : tk 0 = (t0 : Int)) (hk1 : tk 1 = (t1 : Int)) (hk2 : tk 2 = (t2 : Int)) (hk3 : tk 3 = (t3 : Int)) (hk4 : tk 4 = 0) (S : Ok κ k cX6_lowestTaken 4 RX6 (some .int) "lowestTaken" 1 0 0) : V κ k 4 0 0 (QR κ k (fun r σ' => ∃ v, r = some v ∧ (v = .int (iZ ((LB w (t0, t1, t2, t3) : Nat) : Int)) ∧ σ' = σ)) 0 0) 4 [some (.ref (ta + 4)), some (.int (iZ (((0 ||| zL w 0 (t0 - t1)) : Nat) : Int))), some (.int (iZ (1 : Int))), none] [] σ := by
  have hd9 := ht
  simp only [Dec] at hd9
  refine r_iload_n S dX6_lowestTaken_4 rfl ?_
  refine r_iconst S dX6_lowestTaken_5 ?_
  refine r_icmp_ge S dX6_lowestTaken_6 (tgt := 55) (by decide) ⟨by omega, by omega⟩ ⟨by omega, by omega⟩ (fun h_6 => ?_) (fun h_6 => ?_)
  · omega
  · refine r_aload_n S dX6_lowestTaken_9 rfl ?_
    refine r_getf S g_RX6_38_5 dX6_lowestTaken_10 (by repeat (first | assumption | exact sUp_same | exact sNew_same | refine sUp_ne (by first | assumption | omega) ?_)) rfl ?_
    refine r_iload_n S dX6_lowestTaken_13 rfl ?_
    refine r_ialdN S (1) dX6_lowestTaken_14 (by repeat (first | assumption | exact sUp_same | exact sNew_same | refine sUp_ne (by first | assumption | omega) ?_)) (by rfl) (by omega) (by decide) ?_
    rw [hk1]
    refine r_aload_n S dX6_lowestTaken_15 rfl ?_
    refine r_getf S g_RX6_38_5 dX6_lowestTaken_16 (by repeat (first | assumption | exact sUp_same | exact sNew_same | refine sUp_ne (by first | assumption | omega) ?_)) rfl ?_
    refine r_iload_n S dX6_lowestTaken_19 rfl ?_
    refine r_iconst S dX6_lowestTaken_20 ?_
    refine r_iadd S dX6_lowestTaken_21 ?_
    refine r_ialdN S (2) dX6_lowestTaken_22 (by repeat (first | assumption | exact sUp_same | exact sNew_same | refine sUp_ne (by first | assumption | omega) ?_)) (by rfl) (by omega) (by decide) ?_
    rw [hk2]
    refine r_isub S dX6_lowestTaken_23 ?_
    refine r_istore_n S dX6_lowestTaken_24 rfl (by decide) (lv' := [_, _, _, _]) rfl ?_
    refine r_iload_n S dX6_lowestTaken_25 rfl ?_
    refine r_if_le S dX6_lowestTaken_26 (tgt := 49) (by decide) ⟨by omega, by omega⟩ (fun h_26 => ?_) (fun h_26 => ?_)
    · refine r_iinc S dX6_lowestTaken_49 rfl rfl (by decide) (lv' := [_, _, _, _]) rfl ?_
      refine r_goto S dX6_lowestTaken_52 (tgt := 4) (by decide) ?_
      have hz : zL w 1 (t1 - t2) = 0 := if_pos (by omega)
      have h9 := s_lt2 hO hT hW ht h16 hk0 hk1 hk2 hk3 hk4 S
      rw [hz, Nat.or_zero] at h9
      refine V.mask [true, true, true, false] (lv' := [_, _, _, none]) rfl ?_
      exact h9
    · refine r_iload_n S dX6_lowestTaken_29 rfl ?_
      refine r_bipush S dX6_lowestTaken_30 (by decide) ?_
      refine r_icmp_ge S dX6_lowestTaken_32 (tgt := 49) (by decide) ⟨by omega, by omega⟩ ⟨by omega, by omega⟩ (fun h_32 => ?_) (fun h_32 => ?_)
      · omega
      · refine r_iload_n S dX6_lowestTaken_35 rfl ?_
        refine r_aload_n S dX6_lowestTaken_36 rfl ?_
        refine r_getf S g_RX6_9_5 dX6_lowestTaken_37 (by repeat (first | assumption | exact sUp_same | exact sNew_same | refine sUp_ne (by first | assumption | omega) ?_)) rfl ?_
        refine r_iload_n S dX6_lowestTaken_40 rfl ?_
        refine r_bipush S dX6_lowestTaken_41 (by decide) ?_
        refine r_imul S dX6_lowestTaken_43 ?_
        refine r_iload_n S dX6_lowestTaken_44 rfl ?_
        refine r_iadd S dX6_lowestTaken_45 ?_
        refine r_ialdN S (1 * 17 + (t1 - t2)) dX6_lowestTaken_46 (by repeat (first | assumption | exact sUp_same | exact sNew_same | refine sUp_ne (by first | assumption | omega) ?_)) (by omega) (by omega) (by decide) ?_
        refine r_ior S dX6_lowestTaken_47 (orZ _ _) ?_
        refine r_istore_n S dX6_lowestTaken_48 rfl (by decide) (lv' := [_, _, _, _]) rfl ?_
        refine r_iinc S dX6_lowestTaken_49 rfl rfl (by decide) (lv' := [_, _, _, _]) rfl ?_
        refine r_goto S dX6_lowestTaken_52 (tgt := 4) (by decide) ?_
        have hz : zL w 1 (t1 - t2) = w (1 * 17 + (t1 - t2)) := if_neg (by omega)
        have h9 := s_lt2 hO hT hW ht h16 hk0 hk1 hk2 hk3 hk4 S
        rw [hz] at h9
        refine V.mask [true, true, true, false] (lv' := [_, _, _, none]) rfl ?_
        exact h9

set_option maxRecDepth 100000 in
set_option maxHeartbeats 4000000 in
theorem s_lt0 {κ : Kx} {k : Cx} {σ : St} {ta : Nat} {cy cn g : Int} {ls : Nat} (hO : σ.2 (ta + 4) = some (oLeast ta cy cn g ls)) {tk : Nat → Int} (hT : σ.2 (ta + 6) = some (eI k 8 tk)) {w : Nat → Nat} (hW : σ.2 (ta + 7) = some (eI k 68 (fun j => (w j : Int)))) {t0 t1 t2 t3 : Nat} (ht : Dec (t0, t1, t2, t3)) (h16 : t0 ≤ 16) (hk0 : tk 0 = (t0 : Int)) (hk1 : tk 1 = (t1 : Int)) (hk2 : tk 2 = (t2 : Int)) (hk3 : tk 3 = (t3 : Int)) (hk4 : tk 4 = 0) (S : Ok κ k cX6_lowestTaken 4 RX6 (some .int) "lowestTaken" 1 0 0) : V κ k 4 0 0 (QR κ k (fun r σ' => ∃ v, r = some v ∧ (v = .int (iZ ((LB w (t0, t1, t2, t3) : Nat) : Int)) ∧ σ' = σ)) 0 0) 4 [some (.ref (ta + 4)), some (.int (iZ ((0 : Nat) : Int))), some (.int (iZ (0 : Int))), none] [] σ := by
  have hd9 := ht
  simp only [Dec] at hd9
  refine r_iload_n S dX6_lowestTaken_4 rfl ?_
  refine r_iconst S dX6_lowestTaken_5 ?_
  refine r_icmp_ge S dX6_lowestTaken_6 (tgt := 55) (by decide) ⟨by omega, by omega⟩ ⟨by omega, by omega⟩ (fun h_6 => ?_) (fun h_6 => ?_)
  · omega
  · refine r_aload_n S dX6_lowestTaken_9 rfl ?_
    refine r_getf S g_RX6_38_5 dX6_lowestTaken_10 (by repeat (first | assumption | exact sUp_same | exact sNew_same | refine sUp_ne (by first | assumption | omega) ?_)) rfl ?_
    refine r_iload_n S dX6_lowestTaken_13 rfl ?_
    refine r_ialdN S (0) dX6_lowestTaken_14 (by repeat (first | assumption | exact sUp_same | exact sNew_same | refine sUp_ne (by first | assumption | omega) ?_)) (by rfl) (by omega) (by decide) ?_
    rw [hk0]
    refine r_aload_n S dX6_lowestTaken_15 rfl ?_
    refine r_getf S g_RX6_38_5 dX6_lowestTaken_16 (by repeat (first | assumption | exact sUp_same | exact sNew_same | refine sUp_ne (by first | assumption | omega) ?_)) rfl ?_
    refine r_iload_n S dX6_lowestTaken_19 rfl ?_
    refine r_iconst S dX6_lowestTaken_20 ?_
    refine r_iadd S dX6_lowestTaken_21 ?_
    refine r_ialdN S (1) dX6_lowestTaken_22 (by repeat (first | assumption | exact sUp_same | exact sNew_same | refine sUp_ne (by first | assumption | omega) ?_)) (by rfl) (by omega) (by decide) ?_
    rw [hk1]
    refine r_isub S dX6_lowestTaken_23 ?_
    refine r_istore_n S dX6_lowestTaken_24 rfl (by decide) (lv' := [_, _, _, _]) rfl ?_
    refine r_iload_n S dX6_lowestTaken_25 rfl ?_
    refine r_if_le S dX6_lowestTaken_26 (tgt := 49) (by decide) ⟨by omega, by omega⟩ (fun h_26 => ?_) (fun h_26 => ?_)
    · refine r_iinc S dX6_lowestTaken_49 rfl rfl (by decide) (lv' := [_, _, _, _]) rfl ?_
      refine r_goto S dX6_lowestTaken_52 (tgt := 4) (by decide) ?_
      have hz : zL w 0 (t0 - t1) = 0 := if_pos (by omega)
      have h9 := s_lt1 hO hT hW ht h16 hk0 hk1 hk2 hk3 hk4 S
      rw [hz, Nat.or_zero] at h9
      refine V.mask [true, true, true, false] (lv' := [_, _, _, none]) rfl ?_
      exact h9
    · refine r_iload_n S dX6_lowestTaken_29 rfl ?_
      refine r_bipush S dX6_lowestTaken_30 (by decide) ?_
      refine r_icmp_ge S dX6_lowestTaken_32 (tgt := 49) (by decide) ⟨by omega, by omega⟩ ⟨by omega, by omega⟩ (fun h_32 => ?_) (fun h_32 => ?_)
      · omega
      · refine r_iload_n S dX6_lowestTaken_35 rfl ?_
        refine r_aload_n S dX6_lowestTaken_36 rfl ?_
        refine r_getf S g_RX6_9_5 dX6_lowestTaken_37 (by repeat (first | assumption | exact sUp_same | exact sNew_same | refine sUp_ne (by first | assumption | omega) ?_)) rfl ?_
        refine r_iload_n S dX6_lowestTaken_40 rfl ?_
        refine r_bipush S dX6_lowestTaken_41 (by decide) ?_
        refine r_imul S dX6_lowestTaken_43 ?_
        refine r_iload_n S dX6_lowestTaken_44 rfl ?_
        refine r_iadd S dX6_lowestTaken_45 ?_
        refine r_ialdN S (0 * 17 + (t0 - t1)) dX6_lowestTaken_46 (by repeat (first | assumption | exact sUp_same | exact sNew_same | refine sUp_ne (by first | assumption | omega) ?_)) (by omega) (by omega) (by decide) ?_
        refine r_ior S dX6_lowestTaken_47 (orZ _ _) ?_
        refine r_istore_n S dX6_lowestTaken_48 rfl (by decide) (lv' := [_, _, _, _]) rfl ?_
        refine r_iinc S dX6_lowestTaken_49 rfl rfl (by decide) (lv' := [_, _, _, _]) rfl ?_
        refine r_goto S dX6_lowestTaken_52 (tgt := 4) (by decide) ?_
        have hz : zL w 0 (t0 - t1) = w (0 * 17 + (t0 - t1)) := if_neg (by omega)
        have h9 := s_lt1 hO hT hW ht h16 hk0 hk1 hk2 hk3 hk4 S
        rw [hz] at h9
        refine V.mask [true, true, true, false] (lv' := [_, _, _, none]) rfl ?_
        exact h9

set_option maxRecDepth 100000 in
set_option maxHeartbeats 4000000 in
theorem c_lowestTaken {k : Cx} {L0 : Launch} {σ : St} {ta : Nat} {cy cn g : Int} {ls : Nat} (hO : σ.2 (ta + 4) = some (oLeast ta cy cn g ls)) {tk : Nat → Int} (hT : σ.2 (ta + 6) = some (eI k 8 tk)) {w : Nat → Nat} (hW : σ.2 (ta + 7) = some (eI k 68 (fun j => (w j : Int)))) {t0 t1 t2 t3 : Nat} (ht : Dec (t0, t1, t2, t3)) (h16 : t0 ≤ 16) (hk0 : tk 0 = (t0 : Int)) (hk1 : tk 1 = (t1 : Int)) (hk2 : tk 2 = (t2 : Int)) (hk3 : tk 3 = (t3 : Int)) (hk4 : tk 4 = 0) : CtrV k L0 mX6_lowestTaken 1 0 0 [.ref (ta + 4)] σ (fun v σ' => v = .int (iZ (((LB w (t0, t1, t2, t3) : Nat) : Int))) ∧ σ' = σ) := by
  refine Ctr.of (by decide +kernel) rfl (Nat.le_of_ble_eq_true rfl) ?_
  intro κ hl0 S
  subst hl0
  refine r_iconst S dX6_lowestTaken_0 ?_
  refine r_istore_n S dX6_lowestTaken_1 rfl (by decide) (lv' := [_, _, _, _]) rfl ?_
  refine r_iconst S dX6_lowestTaken_2 ?_
  refine r_istore_n S dX6_lowestTaken_3 rfl (by decide) (lv' := [_, _, _, _]) rfl ?_
  exact s_lt0 hO hT hW ht h16 hk0 hk1 hk2 hk3 hk4 S
