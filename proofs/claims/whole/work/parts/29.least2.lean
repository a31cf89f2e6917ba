/-- LeastHeap and its row 'taken', written anew -/
def UL (k : Cx) (σ : St) (ta : Nat) (cy cn g ls : Int) (tk : Nat → Int) : St := sUp (sUp σ (ta + 6) (eI k 8 tk)) (ta + 4) (oLeast ta cy cn g ls)
theorem UL_UL (k : Cx) (σ : St) (ta : Nat) (cy cn g ls ls' : Int) (tk tk' : Nat → Int) : UL k (UL k σ ta cy cn g ls tk) ta cy cn g ls' tk' = UL k σ ta cy cn g ls' tk' := by
  unfold UL
  rw [sUp_comm (sUp σ (ta + 6) (eI k 8 tk)) _ _ (show ta + 4 ≠ ta + 6 by omega), sUp_sUp, sUp_sUp]
theorem UL_id {k : Cx} {σ : St} {ta : Nat} {cy cn g ls : Int} {tk : Nat → Int} (hO : σ.2 (ta + 4) = some (oLeast ta cy cn g ls)) (hT : σ.2 (ta + 6) = some (eI k 8 tk)) : UL k σ ta cy cn g ls tk = σ := by
  unfold UL
  rw [sUp_id hT, sUp_id hO]
theorem UL_O {k : Cx} {σ : St} {ta : Nat} {cy cn g ls : Int} {tk : Nat → Int} : (UL k σ ta cy cn g ls tk).2 (ta + 4) = some (oLeast ta cy cn g ls) := sUp_same
theorem UL_T {k : Cx} {σ : St} {ta : Nat} {cy cn g ls : Int} {tk : Nat → Int} : (UL k σ ta cy cn g ls tk).2 (ta + 6) = some (eI k 8 tk) := sUp_ne (by omega) sUp_same
theorem UL_at {k : Cx} {σ : St} {ta b : Nat} {cy cn g ls : Int} {tk : Nat → Int} {x : Option va_E} (h1 : b ≠ ta + 4) (h2 : b ≠ ta + 6) (hx : σ.2 b = x) : (UL k σ ta cy cn g ls tk).2 b = x := sUp_ne h1 (sUp_ne h2 hx)
theorem LB_lt {w : Nat → Nat} (hw : ∀ j, w j < 65536) (t : Q4) : LB w t < 65536 := by
  have z : ∀ l c, zL w l c < 2 ^ 16 := by
    intro l c
    unfold zL
    split
    · decide
    · exact hw _
  exact Nat.or_lt_two_pow (Nat.or_lt_two_pow (Nat.or_lt_two_pow (z _ _) (z _ _)) (z _ _)) (z _ _)
set_option maxRecDepth 100000 in
set_option maxHeartbeats 4000000 in
theorem l_last5 {κ : Kx} {k : Cx} {σ : St} {ta : Nat} {F : Nat → Int} (hF : σ.2 ta = some (eI k 4845 F)) (hFr : ∀ j, 0 ≤ F j ∧ F j ≤ 13) {cy cn g : Int} {ls : Nat} (hO : σ.2 (ta + 4) = some (oLeast ta cy cn g ls)) (hg : -1 ≤ g ∧ g ≤ 13) (hls : ls < 65536) {tk : Nat → Int} (hT : σ.2 (ta + 6) = some (eI k 8 tk)) {w : Nat → Nat} (hW : σ.2 (ta + 7) = some (eI k 68 (fun j => (w j : Int)))) (hwl : ∀ j, w j < 65536) {Y N s : Nat} (hs : s ≤ 16) (hY : Y + s < 4845) (hN : N < 4845) (hNs : s ≤ N) (mY : ∀ x, x < s → F (Y + x) ≤ F (Y + x + 1)) (mN : ∀ x, x < s → F (N - (x + 1)) ≤ F (N - x)) {t1 t2 t3 : Nat} (ht : Dec (t1, t1, t2, t3)) (h16 : t1 + s ≤ 16) (hk1 : tk 1 = (t1 : Int)) (hk2 : tk 2 = (t2 : Int)) (hk3 : tk 3 = (t3 : Int)) (hk4 : tk 4 = 0) (hwm : ∀ c, 1 ≤ c → c < s → w c ||| w (c + 1) = w (c + 1)) (S : Ok κ k cX6_last 5 RX6 (some .boolean) "last" 2 0 0) : ∀ (m i : Nat), i + m = s → (∀ x, x < i → g < F (N - x)) → V κ k 5 0 0 (QR κ k (fun r σ' => ∃ v, r = some v ∧ (v = .int (iZ 0) ∧ ∃ (ls' : Nat) (tk' : Nat → Int), MinOf w (fun t => ∃ x, x ≤ s ∧ t = (t1 + x, t1, t2, t3) ∧ F (Y + x) ≤ g ∧ F (N - x) ≤ g) ls ls' ∧ ls' < 65536 ∧ (∀ j, 0 < j → j < 8 → tk' j = tk j) ∧ σ' = UL k σ ta cy cn g ls' tk')) 0 0) 3 [some (.ref (ta + 4)), some (.int (iZ (Y : Int))), some (.int (iZ (N : Int))), some (.int (iZ (s : Int))), some (.int (iZ (i : Int)))] [] σ := by
  have fin : ∀ i : Nat, i ≤ s → (∀ x, x < i → g < F (N - x)) → (i = s ∨ F (N - i) ≤ g) → V κ k 5 0 0 (QR κ k (fun r σ' => ∃ v, r = some v ∧ (v = .int (iZ 0) ∧ ∃ (ls' : Nat) (tk' : Nat → Int), MinOf w (fun t => ∃ x, x ≤ s ∧ t = (t1 + x, t1, t2, t3) ∧ F (Y + x) ≤ g ∧ F (N - x) ≤ g) ls ls' ∧ ls' < 65536 ∧ (∀ j, 0 < j → j < 8 → tk' j = tk j) ∧ σ' = UL k σ ta cy cn g ls' tk')) 0 0) 26 [some (.ref (ta + 4)), some (.int (iZ (Y : Int))), some (.int (iZ (N : Int))), some (.int (iZ (s : Int))), some (.int (iZ (i : Int)))] [] σ := by
    intro i hi hno hend
    have hLl := LB_lt hwl (t1 + i, t1, t2, t3)
    have hd9 := ht
    simp only [Dec] at hd9
    refine r_aload_n S dX6_last_26 rfl ?_
    refine r_iload_n S dX6_last_27 rfl ?_
    refine r_iload S dX6_last_28 rfl ?_
    refine r_isub S dX6_last_30 ?_
    refine r_callU S (c_isBeyond5 hF hFr hO hg (p := N - i) (by omega) (by omega)) k_mX5_isBeyond c_RX6_35_5 dX6_last_31 (by decide) ⟨by omega, by omega⟩ (by repeat (first | assumption | exact sUp_same | exact sNew_same | refine sUp_ne (by first | assumption | omega) ?_)) rfl rfl (Nat.le_of_ble_eq_true rfl) (fun r σ' hp => ?_)
    obtain ⟨_, rfl, rfl, rfl⟩ := hp
    try simp only [Option.toList_some, Option.toList_none, List.cons_append, List.nil_append]
    refine r_if_ne S dX6_last_34 (tgt := 78) (by decide) (b01_R _) (fun h_34 => ?_) (fun h_34 => ?_)
    · simp only [b01_z, Decidable.not_not] at h_34
      refine r_iconst S dX6_last_78 ?_
      exact r_zret S dX6_last_79 (by omega) (by omega) (by first | exact Or.inl rfl | exact Or.inr rfl | omega) (⟨_, rfl, rfl, ls, tk, MinOf.none (fun t hz => by obtain ⟨x, x1, rfl, x2, x3⟩ := hz; (rcases Nat.lt_or_ge x i with e | e; (have h8 := hno x e; omega); (have h8 := hend.resolve_right (by omega); have h7 : x = i := (by omega); subst h7; omega))), hls, fun _ _ _ => rfl, (UL_id hO hT).symm⟩)
    · simp only [b01_z, Decidable.not_not] at h_34
      refine r_aload_n S dX6_last_37 rfl ?_
      refine r_iload_n S dX6_last_38 rfl ?_
      refine r_iload S dX6_last_39 rfl ?_
      refine r_iadd S dX6_last_41 ?_
      refine r_callU S (c_isBeyond5 hF hFr hO hg (p := Y + i) (by omega) (by omega)) k_mX5_isBeyond c_RX6_35_5 dX6_last_42 (by decide) ⟨by omega, by omega⟩ (by repeat (first | assumption | exact sUp_same | exact sNew_same | refine sUp_ne (by first | assumption | omega) ?_)) rfl rfl (Nat.le_of_ble_eq_true rfl) (fun r σ' hp => ?_)
      obtain ⟨_, rfl, rfl, rfl⟩ := hp
      try simp only [Option.toList_some, Option.toList_none, List.cons_append, List.nil_append]
      refine r_if_ne S dX6_last_45 (tgt := 78) (by decide) (b01_R _) (fun h_45 => ?_) (fun h_45 => ?_)
      · simp only [b01_z, Decidable.not_not] at h_45
        refine r_iconst S dX6_last_78 ?_
        exact r_zret S dX6_last_79 (by omega) (by omega) (by first | exact Or.inl rfl | exact Or.inr rfl | omega) (⟨_, rfl, rfl, ls, tk, MinOf.none (fun t hz => by obtain ⟨x, x1, rfl, x2, x3⟩ := hz; (rcases Nat.lt_or_ge x i with e | e; (have h8 := hno x e; omega); (have h8 := lastP_dn mY (g := g) e x1 x2; omega))), hls, fun _ _ _ => rfl, (UL_id hO hT).symm⟩)
      · simp only [b01_z, Decidable.not_not] at h_45
        refine r_aload_n S dX6_last_48 rfl ?_
        refine r_getf S g_RX6_38_5 dX6_last_49 (by repeat (first | assumption | exact sUp_same | exact sNew_same | refine sUp_ne (by first | assumption | omega) ?_)) rfl ?_
        refine r_iconst S dX6_last_52 ?_
        refine r_aload_n S dX6_last_53 rfl ?_
        refine r_getf S g_RX6_38_5 dX6_last_54 (by repeat (first | assumption | exact sUp_same | exact sNew_same | refine sUp_ne (by first | assumption | omega) ?_)) rfl ?_
        refine r_iconst S dX6_last_57 ?_
        refine r_ialdN S (1) dX6_last_58 (by repeat (first | assumption | exact sUp_same | exact sNew_same | refine sUp_ne (by first | assumption | omega) ?_)) (by rfl) (by omega) (by decide) ?_
        rw [hk1]
        refine r_iload S dX6_last_59 rfl ?_
        refine r_iadd S dX6_last_61 ?_
        refine r_num (z' := ((t1 + i : Nat) : Int)) (by omega) ?_
        refine r_iastN S (0) dX6_last_62 (by repeat (first | assumption | exact sUp_same | exact sNew_same | refine sUp_ne (by first | assumption | omega) ?_)) (by rfl) (by omega) (by decide) ?_
        refine r_aload_n S dX6_last_63 rfl ?_
        refine r_aload_n S dX6_last_64 rfl ?_
        refine r_getf S g_RX6_15_5 dX6_last_65 (by repeat (first | assumption | exact sUp_same | exact sNew_same | refine sUp_ne (by first | assumption | omega) ?_)) rfl ?_
        refine r_aload_n S dX6_last_68 rfl ?_
        refine r_callV S (c_lowestTaken (t0 := t1 + i) (sUp_ne (by omega) hO) sUp_same (sUp_ne (by omega) hW) (by simp only [Dec]; omega) (by omega) uZ_eq ((uZ_ne (by decide)).trans hk1) ((uZ_ne (by decide)).trans hk2) ((uZ_ne (by decide)).trans hk3) ((uZ_ne (by decide)).trans hk4)) k_mX6_lowestTaken c_RX6_41_5 dX6_last_69 (by decide) ⟨by omega, by omega⟩ (by repeat (first | assumption | exact sUp_same | exact sNew_same | refine sUp_ne (by first | assumption | omega) ?_)) rfl rfl (Nat.le_of_ble_eq_true rfl) (fun r σ' hp => ?_)
        obtain ⟨_, rfl, rfl, rfl⟩ := hp
        try simp only [Option.toList_some, Option.toList_none, List.cons_append, List.nil_append]
        refine r_mmin S wd_357 ks_min dX6_last_72 (by decide) ⟨by omega, by omega⟩ ⟨by omega, by omega⟩ ⟨by omega, by omega⟩ (Nat.le_of_ble_eq_true rfl) ?_
        refine r_num (z' := ((min ls (LB w (t1 + i, t1, t2, t3)) : Nat) : Int)) (by omega) ?_
        refine r_putf S p_RX6_15_5 dX6_last_75 (by first | rfl | decide) (by first | rfl | decide) (by repeat (first | assumption | exact sUp_same | exact sNew_same | refine sUp_ne (by first | assumption | omega) ?_)) (Nat.le_of_ble_eq_true rfl) (fs' := [_, _, _, _, _, _, _, _]) rfl ?_
        try simp only [sUp_sUp]
        refine r_iconst S dX6_last_78 ?_
        exact r_zret S dX6_last_79 (by omega) (by omega) (by first | exact Or.inl rfl | exact Or.inr rfl | omega) (⟨_, rfl, rfl, min ls (LB w (t1 + i, t1, t2, t3)), uZ tk 0 ((t1 + i : Nat) : Int), ⟨by omega, fun t hz => by
            obtain ⟨x, x1, rfl, x2, x3⟩ := hz
            have hix : i ≤ x := by
              rcases Nat.lt_or_ge x i with e | e
              · have h8 := hno x e; omega
              · exact e
            have h7 := LB_mono (t1 := t1) (t2 := t2) (t3 := t3) hwm hix x1
            omega, by
            rcases Nat.lt_or_ge ls (LB w (t1 + i, t1, t2, t3)) with e | e
            · left; omega
            · right; exact ⟨_, ⟨i, hi, rfl, by omega, by omega⟩, by omega⟩⟩, by omega, fun j h8 _ => uZ_ne (by omega), rfl⟩)
  intro m
  induction m with
  | zero =>
    intro i hi hno
    refine r_iload S dX6_last_3 rfl ?_
    refine r_iload_n S dX6_last_5 rfl ?_
    refine r_icmp_ge S dX6_last_6 (tgt := 26) (by decide) ⟨by omega, by omega⟩ ⟨by omega, by omega⟩ (fun h_6 => ?_) (fun h_6 => ?_)
    · exact fin i (by omega) hno (Or.inl (by omega))
    · omega
  | succ m ih =>
    intro i hi hno
    refine r_iload S dX6_last_3 rfl ?_
    refine r_iload_n S dX6_last_5 rfl ?_
    refine r_icmp_ge S dX6_last_6 (tgt := 26) (by decide) ⟨by omega, by omega⟩ ⟨by omega, by omega⟩ (fun h_6 => ?_) (fun h_6 => ?_)
    · omega
    · refine r_aload_n S dX6_last_9 rfl ?_
      refine r_iload_n S dX6_last_10 rfl ?_
      refine r_iload S dX6_last_11 rfl ?_
      refine r_isub S dX6_last_13 ?_
      refine r_callU S (c_isBeyond5 hF hFr hO hg (p := N - i) (by omega) (by omega)) k_mX5_isBeyond c_RX6_35_5 dX6_last_14 (by decide) ⟨by omega, by omega⟩ (by repeat (first | assumption | exact sUp_same | exact sNew_same | refine sUp_ne (by first | assumption | omega) ?_)) rfl rfl (Nat.le_of_ble_eq_true rfl) (fun r σ' hp => ?_)
      obtain ⟨_, rfl, rfl, rfl⟩ := hp
      try simp only [Option.toList_some, Option.toList_none, List.cons_append, List.nil_append]
      refine r_if_eq S dX6_last_17 (tgt := 26) (by decide) (b01_R _) (fun h_17 => ?_) (fun h_17 => ?_)
      · simp only [b01_z, Decidable.not_not] at h_17
        exact fin i (by omega) hno (Or.inr (by omega))
      · simp only [b01_z, Decidable.not_not] at h_17
        refine r_iinc S dX6_last_20 rfl rfl (by decide) (lv' := [_, _, _, _, _]) rfl ?_
        refine r_goto S dX6_last_23 (tgt := 3) (by decide) ?_
        refine ih (i + 1) (by omega) (fun x hx => ?_)
        rcases Nat.lt_or_ge x i with e | e
        · exact hno x e
        · rw [show x = i by omega]; exact h_17

set_option maxRecDepth 100000 in
set_option maxHeartbeats 4000000 in
theorem c_last5 {k : Cx} {L0 : Launch} {σ : St} {ta : Nat} {F : Nat → Int} (hF : σ.2 ta = some (eI k 4845 F)) (hFr : ∀ j, 0 ≤ F j ∧ F j ≤ 13) {cy cn g : Int} {ls : Nat} (hO : σ.2 (ta + 4) = some (oLeast ta cy cn g ls)) (hg : -1 ≤ g ∧ g ≤ 13) (hls : ls < 65536) {tk : Nat → Int} (hT : σ.2 (ta + 6) = some (eI k 8 tk)) {w : Nat → Nat} (hW : σ.2 (ta + 7) = some (eI k 68 (fun j => (w j : Int)))) (hwl : ∀ j, w j < 65536) {Y N s : Nat} (hs : s ≤ 16) (hY : Y + s < 4845) (hN : N < 4845) (hNs : s ≤ N) (mY : ∀ x, x < s → F (Y + x) ≤ F (Y + x + 1)) (mN : ∀ x, x < s → F (N - (x + 1)) ≤ F (N - x)) {t1 t2 t3 : Nat} (ht : Dec (t1, t1, t2, t3)) (h16 : t1 + s ≤ 16) (hk1 : tk 1 = (t1 : Int)) (hk2 : tk 2 = (t2 : Int)) (hk3 : tk 3 = (t3 : Int)) (hk4 : tk 4 = 0) (hwm : ∀ c, 1 ≤ c → c < s → w c ||| w (c + 1) = w (c + 1)) {y n z : Int} (hy : y = (Y : Int)) (hnn : n = (N : Int)) (hz : z = (s : Int)) : CtrV k L0 mX6_last 2 0 0 [.ref (ta + 4), .int (iZ y), .int (iZ n), .int (iZ z)] σ (fun v σ' => v = .int (iZ 0) ∧ ∃ (ls' : Nat) (tk' : Nat → Int), MinOf w (fun t => ∃ x, x ≤ s ∧ t = (t1 + x, t1, t2, t3) ∧ F (Y + x) ≤ g ∧ F (N - x) ≤ g) ls ls' ∧ ls' < 65536 ∧ (∀ j, 0 < j → j < 8 → tk' j = tk j) ∧ σ' = UL k σ ta cy cn g ls' tk') := by
  refine Ctr.of (by decide +kernel) rfl (Nat.le_of_ble_eq_true rfl) ?_
  intro κ hl0 S
  subst hl0
  subst hy
  subst hnn
  subst hz
  refine r_iconst S dX6_last_0 ?_
  refine r_istore S dX6_last_1 rfl (by decide) (lv' := [_, _, _, _, _]) rfl ?_
  exact l_last5 hF hFr hO hg hls hT hW hwl hs hY hN hNs mY mN ht h16 hk1 hk2 hk3 hk4 hwm S s 0 (by omega) (fun _ h8 => absurd h8 (by omega))
