abbrev oAny (ta : Nat) (yp np g : Int) : va_E := .inr (0, [.ref ta, .int (iZ yp), .int (iZ np), .ref (ta + 2), .ref (ta + 3), .int (iZ g)])
abbrev oLeast (ta : Nat) (yp np g ls : Int) : va_E := .inr (5, [.ref ta, .int (iZ yp), .int (iZ np), .ref (ta + 5), .ref (ta + 6), .int (iZ g), .ref (ta + 7), .int (iZ ls)])
abbrev oHT (ta : Nat) : va_E := .inr (4, [.ref ta, .ref (ta + 9), .ref (ta + 1), .ref (ta + 4)])
/-- whether so many of LEFT 0 can be chosen that both places are within g -/
def lastP (F : Nat → Int) (Y N s : Nat) (g : Int) : Prop := ∃ x, x ≤ s ∧ F (Y + x) ≤ g ∧ F (N - x) ≤ g
theorem chain_up {f : Nat → Int} {s : Nat} (h : ∀ x, x < s → f x ≤ f (x + 1)) {a b : Nat} (hab : a ≤ b) (hb : b ≤ s) : f a ≤ f b := by
  induction hab with
  | refl => exact Int.le_refl _
  | @step m _ ih => exact Int.le_trans (ih (by omega)) (h m (by omega))
theorem chain_dn {f : Nat → Int} {s : Nat} (h : ∀ x, x < s → f (x + 1) ≤ f x) {a b : Nat} (hab : a ≤ b) (hb : b ≤ s) : f b ≤ f a := by
  induction hab with
  | refl => exact Int.le_refl _
  | @step m _ ih => exact Int.le_trans (h m (by omega)) (ih (by omega))
/-- a truth as a number, by classical choice -/
noncomputable def bP (p : Prop) : Int := @ite Int p (Classical.propDecidable p) 1 0
theorem bP_t {p : Prop} (h : p) : bP p = 1 := by unfold bP; exact if_pos h
theorem bP_f {p : Prop} (h : ¬ p) : bP p = 0 := by unfold bP; exact if_neg h
theorem bP_01 (p : Prop) : bP p = 0 ∨ bP p = 1 := by
  by_cases h : p
  · exact Or.inr (bP_t h)
  · exact Or.inl (bP_f h)
theorem bP_R (p : Prop) : zR (bP p) := by rcases bP_01 p with e | e <;> rw [e] <;> exact ⟨by decide, by decide⟩
theorem bP_z (p : Prop) : bP p = 0 ↔ ¬ p := ⟨fun h hp => by rw [bP_t hp] at h; omega, bP_f⟩
theorem bP_congr {p q : Prop} (h : p ↔ q) : bP p = bP q := by rw [propext h]
set_option maxRecDepth 100000 in
set_option maxHeartbeats 4000000 in
theorem c_placeOf {k : Cx} {L0 : Launch} {σ : St} {a b : Int} {l c : Nat} (ha : a = (l : Int)) (hb : b = (c : Int)) (hl : l < 4) (hc : c < 17) : CtrV k L0 mX11_placeOf 1 0 0 [.int (iZ a), .int (iZ b)] σ (fun v σ' => v = .int (iZ ((PL l c : Int))) ∧ σ' = σ) := by
  refine Ctr.of (by decide +kernel) rfl (Nat.le_of_ble_eq_true rfl) ?_
  intro κ hl0 S
  subst hl0
  subst ha
  subst hb
  refine r_iload_n S dX11_placeOf_0 rfl ?_
  refine r_bipush S dX11_placeOf_1 (by decide) ?_
  refine r_imul S dX11_placeOf_3 ?_
  refine r_iload_n S dX11_placeOf_4 rfl ?_
  refine r_iadd S dX11_placeOf_5 ?_
  refine r_istore_n S dX11_placeOf_6 rfl (by decide) (lv' := [_, _, _]) rfl ?_
  refine r_iload_n S dX11_placeOf_7 rfl ?_
  refine r_if_lt S dX11_placeOf_8 (tgt := 27) (by decide) ⟨by omega, by omega⟩ (fun h_8 => ?_) (fun h_8 => ?_)
  · omega
  · refine r_iload_n S dX11_placeOf_11 rfl ?_
    refine r_gets S wd_312 dX11_placeOf_12 ?_
    refine r_plen S dX11_placeOf_15 ?_
    refine r_icmp_ge S dX11_placeOf_16 (tgt := 27) (by decide) ⟨by omega, by omega⟩ ⟨by omega, by omega⟩ (fun h_16 => ?_) (fun h_16 => ?_)
    · omega
    · refine r_gets S wd_312 dX11_placeOf_19 ?_
      refine r_iload_n S dX11_placeOf_22 rfl ?_
      refine r_paldN S (l * 17 + c) dX11_placeOf_23 (by omega) (by omega) ?_
      rw [PL_plF l hl c hc]
      refine r_goto S dX11_placeOf_24 (tgt := 28) (by decide) ?_
      exact r_iret S dX11_placeOf_28 (by omega) (by omega) (⟨_, rfl, rfl, rfl⟩)

set_option maxRecDepth 100000 in
set_option maxHeartbeats 4000000 in
theorem c_leftAt {k : Cx} {L0 : Launch} {σ : St} {af n : Nat} {b : Int} {i : Nat} {f : Nat → Int} (hA : σ.2 af = some (eI k n f)) (hb : b = (i : Int)) (hi : i < n) (hn : n ≤ 2147483647) : CtrV k L0 mX11_leftAt 1 0 0 [.ref af, .int (iZ b)] σ (fun v σ' => v = .int (iZ (f i)) ∧ σ' = σ) := by
  refine Ctr.of (by decide +kernel) rfl (Nat.le_of_ble_eq_true rfl) ?_
  intro κ hl0 S
  subst hl0
  subst hb
  refine r_iload_n S dX11_leftAt_0 rfl ?_
  refine r_if_lt S dX11_leftAt_1 (tgt := 16) (by decide) ⟨by omega, by omega⟩ (fun h_1 => ?_) (fun h_1 => ?_)
  · omega
  · refine r_iload_n S dX11_leftAt_4 rfl ?_
    refine r_aload_n S dX11_leftAt_5 rfl ?_
    refine r_alenI S dX11_leftAt_6 (by repeat (first | assumption | exact sUp_same | exact sNew_same | refine sUp_ne (by first | assumption | omega) ?_)) ?_
    refine r_icmp_ge S dX11_leftAt_7 (tgt := 16) (by decide) ⟨by omega, by omega⟩ ⟨by omega, by omega⟩ (fun h_7 => ?_) (fun h_7 => ?_)
    · omega
    · refine r_aload_n S dX11_leftAt_10 rfl ?_
      refine r_iload_n S dX11_leftAt_11 rfl ?_
      refine r_ialdN S (i) dX11_leftAt_12 (by repeat (first | assumption | exact sUp_same | exact sNew_same | refine sUp_ne (by first | assumption | omega) ?_)) (by omega) (by omega) (hn) ?_
      refine r_goto S dX11_leftAt_13 (tgt := 17) (by decide) ?_
      exact r_iret S dX11_leftAt_17 (by omega) (by omega) (⟨_, rfl, rfl, rfl⟩)

set_option maxRecDepth 100000 in
set_option maxHeartbeats 4000000 in
theorem c_isBeyond0 {k : Cx} {L0 : Launch} {σ : St} {ta : Nat} {F : Nat → Int} (hF : σ.2 ta = some (eI k 4845 F)) (hFr : ∀ j, 0 ≤ F j ∧ F j ≤ 13) {yp np g : Int} (hO : σ.2 (ta + 1) = some (oAny ta yp np g)) (hg : -1 ≤ g ∧ g ≤ 13) {z : Int} {p : Nat} (hz : z = (p : Int)) (hp : p < 4845) : CtrV k L0 mX5_isBeyond 1 0 0 [.ref (ta + 1), .int (iZ z)] σ (fun v σ' => v = .int (iZ (b01 (g < F p))) ∧ σ' = σ) := by
  refine Ctr.of (by decide +kernel) rfl (Nat.le_of_ble_eq_true rfl) ?_
  intro κ hl0 S
  subst hl0
  subst hz
  have hFp := hFr p
  refine r_iload_n S dX5_isBeyond_0 rfl ?_
  refine r_if_lt S dX5_isBeyond_1 (tgt := 26) (by decide) ⟨by omega, by omega⟩ (fun h_1 => ?_) (fun h_1 => ?_)
  · omega
  · refine r_iload_n S dX5_isBeyond_4 rfl ?_
    refine r_aload_n S dX5_isBeyond_5 rfl ?_
    refine r_getf S g_RX5_22_0 dX5_isBeyond_6 (by repeat (first | assumption | exact sUp_same | exact sNew_same | refine sUp_ne (by first | assumption | omega) ?_)) rfl ?_
    refine r_alenI S dX5_isBeyond_9 (by repeat (first | assumption | exact sUp_same | exact sNew_same | refine sUp_ne (by first | assumption | omega) ?_)) ?_
    refine r_icmp_ge S dX5_isBeyond_10 (tgt := 26) (by decide) ⟨by omega, by omega⟩ ⟨by omega, by omega⟩ (fun h_10 => ?_) (fun h_10 => ?_)
    · omega
    · refine r_aload_n S dX5_isBeyond_13 rfl ?_
      refine r_getf S g_RX5_22_0 dX5_isBeyond_14 (by repeat (first | assumption | exact sUp_same | exact sNew_same | refine sUp_ne (by first | assumption | omega) ?_)) rfl ?_
      refine r_iload_n S dX5_isBeyond_17 rfl ?_
      refine r_ialdN S (p) dX5_isBeyond_18 (by repeat (first | assumption | exact sUp_same | exact sNew_same | refine sUp_ne (by first | assumption | omega) ?_)) (by omega) (by omega) (by decide) ?_
      refine r_aload_n S dX5_isBeyond_19 rfl ?_
      refine r_getf S g_RX5_18_0 dX5_isBeyond_20 (by repeat (first | assumption | exact sUp_same | exact sNew_same | refine sUp_ne (by first | assumption | omega) ?_)) rfl ?_
      refine r_icmp_le S dX5_isBeyond_23 (tgt := 30) (by decide) ⟨by omega, by omega⟩ ⟨by omega, by omega⟩ (fun h_23 => ?_) (fun h_23 => ?_)
      · refine r_iconst S dX5_isBeyond_30 ?_
        exact r_zret S dX5_isBeyond_31 (by omega) (by omega) (by first | exact Or.inl rfl | exact Or.inr rfl | omega) (⟨_, rfl, by first | rw [b01_t (by omega)] | rw [b01_f (by omega)], rfl⟩)
      · refine r_iconst S dX5_isBeyond_26 ?_
        refine r_goto S dX5_isBeyond_27 (tgt := 31) (by decide) ?_
        exact r_zret S dX5_isBeyond_31 (by omega) (by omega) (by first | exact Or.inl rfl | exact Or.inr rfl | omega) (⟨_, rfl, by first | rw [b01_t (by omega)] | rw [b01_f (by omega)], rfl⟩)

set_option maxRecDepth 100000 in
set_option maxHeartbeats 4000000 in
theorem c_isBeyond5 {k : Cx} {L0 : Launch} {σ : St} {ta : Nat} {F : Nat → Int} (hF : σ.2 ta = some (eI k 4845 F)) (hFr : ∀ j, 0 ≤ F j ∧ F j ≤ 13) {yp np g ls : Int} (hO : σ.2 (ta + 4) = some (oLeast ta yp np g ls)) (hg : -1 ≤ g ∧ g ≤ 13) {z : Int} {p : Nat} (hz : z = (p : Int)) (hp : p < 4845) : CtrV k L0 mX5_isBeyond 1 0 0 [.ref (ta + 4), .int (iZ z)] σ (fun v σ' => v = .int (iZ (b01 (g < F p))) ∧ σ' = σ) := by
  refine Ctr.of (by decide +kernel) rfl (Nat.le_of_ble_eq_true rfl) ?_
  intro κ hl0 S
  subst hl0
  subst hz
  have hFp := hFr p
  refine r_iload_n S dX5_isBeyond_0 rfl ?_
  refine r_if_lt S dX5_isBeyond_1 (tgt := 26) (by decide) ⟨by omega, by omega⟩ (fun h_1 => ?_) (fun h_1 => ?_)
  · omega
  · refine r_iload_n S dX5_isBeyond_4 rfl ?_
    refine r_aload_n S dX5_isBeyond_5 rfl ?_
    refine r_getf S g_RX5_22_5 dX5_isBeyond_6 (by repeat (first | assumption | exact sUp_same | exact sNew_same | refine sUp_ne (by first | assumption | omega) ?_)) rfl ?_
    refine r_alenI S dX5_isBeyond_9 (by repeat (first | assumption | exact sUp_same | exact sNew_same | refine sUp_ne (by first | assumption | omega) ?_)) ?_
    refine r_icmp_ge S dX5_isBeyond_10 (tgt := 26) (by decide) ⟨by omega, by omega⟩ ⟨by omega, by omega⟩ (fun h_10 => ?_) (fun h_10 => ?_)
    · omega
    · refine r_aload_n S dX5_isBeyond_13 rfl ?_
      refine r_getf S g_RX5_22_5 dX5_isBeyond_14 (by repeat (first | assumption | exact sUp_same | exact sNew_same | refine sUp_ne (by first | assumption | omega) ?_)) rfl ?_
      refine r_iload_n S dX5_isBeyond_17 rfl ?_
      refine r_ialdN S (p) dX5_isBeyond_18 (by repeat (first | assumption | exact sUp_same | exact sNew_same | refine sUp_ne (by first | assumption | omega) ?_)) (by omega) (by omega) (by decide) ?_
      refine r_aload_n S dX5_isBeyond_19 rfl ?_
      refine r_getf S g_RX5_18_5 dX5_isBeyond_20 (by repeat (first | assumption | exact sUp_same | exact sNew_same | refine sUp_ne (by first | assumption | omega) ?_)) rfl ?_
      refine r_icmp_le S dX5_isBeyond_23 (tgt := 30) (by decide) ⟨by omega, by omega⟩ ⟨by omega, by omega⟩ (fun h_23 => ?_) (fun h_23 => ?_)
      · refine r_iconst S dX5_isBeyond_30 ?_
        exact r_zret S dX5_isBeyond_31 (by omega) (by omega) (by first | exact Or.inl rfl | exact Or.inr rfl | omega) (⟨_, rfl, by first | rw [b01_t (by omega)] | rw [b01_f (by omega)], rfl⟩)
      · refine r_iconst S dX5_isBeyond_26 ?_
        refine r_goto S dX5_isBeyond_27 (tgt := 31) (by decide) ?_
        exact r_zret S dX5_isBeyond_31 (by omega) (by omega) (by first | exact Or.inl rfl | exact Or.inr rfl | omega) (⟨_, rfl, by first | rw [b01_t (by omega)] | rw [b01_f (by omega)], rfl⟩)

set_option maxRecDepth 100000 in
set_option maxHeartbeats 4000000 in
theorem c_outward {k : Cx} {L0 : Launch} {σ : St} {a s : Nat} (ha : a ≤ s) (hs : s ≤ 16) : CtrV k L0 mX5_outward 1 0 0 [.int (iZ (a : Int)), .int (iZ (s : Int))] σ (fun v σ' => v = .int (iZ (((if a % 2 = 1 then s / 2 + (a + 1) / 2 else s / 2 - a / 2 : Nat) : Int))) ∧ σ' = σ) := by
  refine Ctr.of (by decide +kernel) rfl (Nat.le_of_ble_eq_true rfl) ?_
  intro κ hl0 S
  subst hl0
  refine r_iload_n S dX5_outward_0 rfl ?_
  refine r_iconst S dX5_outward_1 ?_
  refine r_idiv S dX5_outward_2 (neZ (d := 2) (by decide) (by decide)) (divZ (d := 2) (by omega) (by decide) (by decide)) ?_
  refine r_istore_n S dX5_outward_3 rfl (by decide) (lv' := [_, _, _]) rfl ?_
  refine r_iload_n S dX5_outward_4 rfl ?_
  refine r_iconst S dX5_outward_5 ?_
  refine r_iand S dX5_outward_6 (and1Z _) ?_
  refine r_iconst S dX5_outward_7 ?_
  refine r_icmp_ne S dX5_outward_8 (tgt := 21) (by decide) ⟨by omega, by omega⟩ ⟨by omega, by omega⟩ (fun h_8 => ?_) (fun h_8 => ?_)
  · refine r_iload_n S dX5_outward_21 rfl ?_
    refine r_iload_n S dX5_outward_22 rfl ?_
    refine r_iconst S dX5_outward_23 ?_
    refine r_idiv S dX5_outward_24 (neZ (d := 2) (by decide) (by decide)) (divZ (d := 2) (by omega) (by decide) (by decide)) ?_
    refine r_isub S dX5_outward_25 ?_
    refine r_num (z' := ((if a % 2 = 1 then s / 2 + (a + 1) / 2 else s / 2 - a / 2 : Nat) : Int)) (by rw [if_neg (by omega)]; omega) ?_
    exact r_iret S dX5_outward_26 (by omega) (by omega) (⟨_, rfl, rfl, rfl⟩)
  · refine r_iload_n S dX5_outward_11 rfl ?_
    refine r_iload_n S dX5_outward_12 rfl ?_
    refine r_iconst S dX5_outward_13 ?_
    refine r_iadd S dX5_outward_14 ?_
    refine r_iconst S dX5_outward_15 ?_
    refine r_idiv S dX5_outward_16 (neZ (d := 2) (by decide) (by decide)) (divZ (a := a + 1) (d := 2) (by omega) (by decide) (by decide)) ?_
    refine r_iadd S dX5_outward_17 ?_
    refine r_goto S dX5_outward_18 (tgt := 26) (by decide) ?_
    refine r_num (z' := ((if a % 2 = 1 then s / 2 + (a + 1) / 2 else s / 2 - a / 2 : Nat) : Int)) (by rw [if_pos (by omega)]; omega) ?_
    exact r_iret S dX5_outward_26 (by omega) (by omega) (⟨_, rfl, rfl, rfl⟩)

section
variable {F : Nat → Int} {Y N s : Nat} {g : Int}
theorem lastP_up (mN : ∀ x, x < s → F (N - (x + 1)) ≤ F (N - x)) {x y : Nat} (hx : x ≤ y) (hy : y ≤ s) (h : F (N - x) ≤ g) : F (N - y) ≤ g := Int.le_trans (chain_dn (f := fun x => F (N - x)) mN hx hy) h
theorem lastP_dn (mY : ∀ x, x < s → F (Y + x) ≤ F (Y + x + 1)) {x y : Nat} (hx : x ≤ y) (hy : y ≤ s) (h : F (Y + y) ≤ g) : F (Y + x) ≤ g := Int.le_trans (chain_up (f := fun x => F (Y + x)) mY hx hy) h
end

set_option maxRecDepth 100000 in
set_option maxHeartbeats 4000000 in
theorem l_last2 {κ : Kx} {k : Cx} {σ : St} {ta : Nat} {F : Nat → Int} (hF : σ.2 ta = some (eI k 4845 F)) (hFr : ∀ j, 0 ≤ F j ∧ F j ≤ 13) {yp np g : Int} (hO : σ.2 (ta + 1) = some (oAny ta yp np g)) (hg : -1 ≤ g ∧ g ≤ 13) {Y N s : Nat} (hs : s ≤ 16) (hY : Y + s < 4845) (hN : N < 4845) (hNs : s ≤ N) (mY : ∀ x, x < s → F (Y + x) ≤ F (Y + x + 1)) (mN : ∀ x, x < s → F (N - (x + 1)) ≤ F (N - x)) (S : Ok κ k cX0_last 5 RX0 (some .boolean) "last" 2 0 0) : ∀ (m i : Nat), i + m = s → (lastP F Y N s g → F (Y + i) ≤ g) → V κ k 5 0 0 (QR κ k (fun r σ' => ∃ v, r = some v ∧ (v = .int (iZ (bP (lastP F Y N s g))) ∧ σ' = σ)) 0 0) 29 [some (.ref (ta + 1)), some (.int (iZ (Y : Int))), some (.int (iZ (N : Int))), some (.int (iZ (s : Int))), some (.int (iZ (i : Int)))] [] σ := by
  have fin : ∀ i, i ≤ s → (lastP F Y N s g → F (Y + i) ≤ g ∧ F (N - i) ≤ g) → V κ k 5 0 0 (QR κ k (fun r σ' => ∃ v, r = some v ∧ (v = .int (iZ (bP (lastP F Y N s g))) ∧ σ' = σ)) 0 0) 63 [some (.ref (ta + 1)), some (.int (iZ (Y : Int))), some (.int (iZ (N : Int))), some (.int (iZ (s : Int))), some (.int (iZ (i : Int)))] [] σ := by
    intro i hi hsol
    refine r_aload_n S dX0_last_63 rfl ?_
    refine r_iload_n S dX0_last_64 rfl ?_
    refine r_iload S dX0_last_65 rfl ?_
    refine r_iadd S dX0_last_67 ?_
    refine r_callU S (c_isBeyond0 hF hFr hO hg (p := Y + i) (by omega) (by omega)) k_mX5_isBeyond c_RX0_13_0 dX0_last_68 (by decide) ⟨by omega, by omega⟩ (by repeat (first | assumption | exact sUp_same | exact sNew_same | refine sUp_ne (by first | assumption | omega) ?_)) rfl rfl (Nat.le_of_ble_eq_true rfl) (fun r σ' hp => ?_)
    obtain ⟨_, rfl, rfl, rfl⟩ := hp
    try simp only [Option.toList_some, Option.toList_none, List.cons_append, List.nil_append]
    refine r_if_ne S dX0_last_71 (tgt := 89) (by decide) (b01_R _) (fun h_71 => ?_) (fun h_71 => ?_)
    · simp only [b01_z, Decidable.not_not] at h_71
      refine r_iconst S dX0_last_89 ?_
      exact r_zret S dX0_last_90 (by omega) (by omega) (by first | exact Or.inl rfl | exact Or.inr rfl | omega) (⟨_, rfl, by rw [bP_f (fun hz => by have h8 := hsol hz; omega)], rfl⟩)
    · simp only [b01_z, Decidable.not_not] at h_71
      refine r_aload_n S dX0_last_74 rfl ?_
      refine r_iload_n S dX0_last_75 rfl ?_
      refine r_iload S dX0_last_76 rfl ?_
      refine r_isub S dX0_last_78 ?_
      refine r_callU S (c_isBeyond0 hF hFr hO hg (p := N - i) (by omega) (by omega)) k_mX5_isBeyond c_RX0_13_0 dX0_last_79 (by decide) ⟨by omega, by omega⟩ (by repeat (first | assumption | exact sUp_same | exact sNew_same | refine sUp_ne (by first | assumption | omega) ?_)) rfl rfl (Nat.le_of_ble_eq_true rfl) (fun r σ' hp => ?_)
      obtain ⟨_, rfl, rfl, rfl⟩ := hp
      try simp only [Option.toList_some, Option.toList_none, List.cons_append, List.nil_append]
      refine r_if_ne S dX0_last_82 (tgt := 89) (by decide) (b01_R _) (fun h_82 => ?_) (fun h_82 => ?_)
      · simp only [b01_z, Decidable.not_not] at h_82
        refine r_iconst S dX0_last_89 ?_
        exact r_zret S dX0_last_90 (by omega) (by omega) (by first | exact Or.inl rfl | exact Or.inr rfl | omega) (⟨_, rfl, by rw [bP_f (fun hz => by have h8 := hsol hz; omega)], rfl⟩)
      · simp only [b01_z, Decidable.not_not] at h_82
        refine r_iconst S dX0_last_85 ?_
        refine r_goto S dX0_last_86 (tgt := 90) (by decide) ?_
        exact r_zret S dX0_last_90 (by omega) (by omega) (by first | exact Or.inl rfl | exact Or.inr rfl | omega) (⟨_, rfl, by rw [bP_t ⟨i, hi, by omega, by omega⟩], rfl⟩)
  intro m
  induction m with
  | zero =>
    intro i hi hsol
    refine r_iload S dX0_last_29 rfl ?_
    refine r_iload_n S dX0_last_31 rfl ?_
    refine r_icmp_ge S dX0_last_32 (tgt := 63) (by decide) ⟨by omega, by omega⟩ ⟨by omega, by omega⟩ (fun h_32 => ?_) (fun h_32 => ?_)
    · refine fin i (by omega) (fun hz => ⟨hsol hz, ?_⟩)
      obtain ⟨x, x1, x2, x3⟩ := hz
      exact lastP_up mN (y := i) (by omega) (by omega) x3
    · omega
  | succ m ih =>
    intro i hi hsol
    refine r_iload S dX0_last_29 rfl ?_
    refine r_iload_n S dX0_last_31 rfl ?_
    refine r_icmp_ge S dX0_last_32 (tgt := 63) (by decide) ⟨by omega, by omega⟩ ⟨by omega, by omega⟩ (fun h_32 => ?_) (fun h_32 => ?_)
    · omega
    · refine r_aload_n S dX0_last_35 rfl ?_
      refine r_iload_n S dX0_last_36 rfl ?_
      refine r_iload S dX0_last_37 rfl ?_
      refine r_isub S dX0_last_39 ?_
      refine r_callU S (c_isBeyond0 hF hFr hO hg (p := N - i) (by omega) (by omega)) k_mX5_isBeyond c_RX0_13_0 dX0_last_40 (by decide) ⟨by omega, by omega⟩ (by repeat (first | assumption | exact sUp_same | exact sNew_same | refine sUp_ne (by first | assumption | omega) ?_)) rfl rfl (Nat.le_of_ble_eq_true rfl) (fun r σ' hp => ?_)
      obtain ⟨_, rfl, rfl, rfl⟩ := hp
      try simp only [Option.toList_some, Option.toList_none, List.cons_append, List.nil_append]
      refine r_if_eq S dX0_last_43 (tgt := 63) (by decide) (b01_R _) (fun h_43 => ?_) (fun h_43 => ?_)
      · simp only [b01_z, Decidable.not_not] at h_43
        exact fin i (by omega) (fun hz => ⟨hsol hz, by omega⟩)
      · simp only [b01_z, Decidable.not_not] at h_43
        refine r_aload_n S dX0_last_46 rfl ?_
        refine r_iload_n S dX0_last_47 rfl ?_
        refine r_iload S dX0_last_48 rfl ?_
        refine r_iadd S dX0_last_50 ?_
        refine r_callU S (c_isBeyond0 hF hFr hO hg (p := Y + i) (by omega) (by omega)) k_mX5_isBeyond c_RX0_13_0 dX0_last_51 (by decide) ⟨by omega, by omega⟩ (by repeat (first | assumption | exact sUp_same | exact sNew_same | refine sUp_ne (by first | assumption | omega) ?_)) rfl rfl (Nat.le_of_ble_eq_true rfl) (fun r σ' hp => ?_)
        obtain ⟨_, rfl, rfl, rfl⟩ := hp
        try simp only [Option.toList_some, Option.toList_none, List.cons_append, List.nil_append]
        refine r_if_ne S dX0_last_54 (tgt := 63) (by decide) (b01_R _) (fun h_54 => ?_) (fun h_54 => ?_)
        · simp only [b01_z, Decidable.not_not] at h_54
          exact fin i (by omega) (fun hz => absurd (hsol hz) (by omega))
        · simp only [b01_z, Decidable.not_not] at h_54
          refine r_iinc S dX0_last_57 rfl rfl (by decide) (lv' := [_, _, _, _, _]) rfl ?_
          refine r_goto S dX0_last_60 (tgt := 29) (by decide) ?_
          refine ih (i + 1) (by omega) (fun hz => ?_)
          obtain ⟨x, x1, x2, x3⟩ := hz
          have hxi : i + 1 ≤ x := by
            rcases Nat.lt_or_ge i x with e | e
            · exact e
            · have h8 := lastP_up mN (g := g) e (by omega) x3
              omega
          exact lastP_dn mY hxi x1 x2

set_option maxRecDepth 100000 in
set_option maxHeartbeats 4000000 in
theorem l_last1 {κ : Kx} {k : Cx} {σ : St} {ta : Nat} {F : Nat → Int} (hF : σ.2 ta = some (eI k 4845 F)) (hFr : ∀ j, 0 ≤ F j ∧ F j ≤ 13) {yp np g : Int} (hO : σ.2 (ta + 1) = some (oAny ta yp np g)) (hg : -1 ≤ g ∧ g ≤ 13) {Y N s : Nat} (hs : s ≤ 16) (hY : Y + s < 4845) (hN : N < 4845) (hNs : s ≤ N) (mY : ∀ x, x < s → F (Y + x) ≤ F (Y + x + 1)) (mN : ∀ x, x < s → F (N - (x + 1)) ≤ F (N - x)) (S : Ok κ k cX0_last 5 RX0 (some .boolean) "last" 2 0 0) : ∀ (i : Nat), i ≤ s → V κ k 5 0 0 (QR κ k (fun r σ' => ∃ v, r = some v ∧ (v = .int (iZ (bP (lastP F Y N s g))) ∧ σ' = σ)) 0 0) 7 [some (.ref (ta + 1)), some (.int (iZ (Y : Int))), some (.int (iZ (N : Int))), some (.int (iZ (s : Int))), some (.int (iZ (i : Int)))] [] σ := by
  intro i
  induction i with
  | zero =>
    intro hi
    refine r_iload S dX0_last_7 rfl ?_
    refine r_if_le S dX0_last_9 (tgt := 29) (by decide) ⟨by omega, by omega⟩ (fun h_9 => ?_) (fun h_9 => ?_)
    · refine l_last2 hF hFr hO hg hs hY hN hNs mY mN S s 0 (by omega) (fun hz => ?_)
      obtain ⟨x, x1, x2, x3⟩ := hz
      exact lastP_dn mY (by omega) x1 x2
    · omega
  | succ i ih =>
    intro hi
    refine r_iload S dX0_last_7 rfl ?_
    refine r_if_le S dX0_last_9 (tgt := 29) (by decide) ⟨by omega, by omega⟩ (fun h_9 => ?_) (fun h_9 => ?_)
    · omega
    · refine r_aload_n S dX0_last_12 rfl ?_
      refine r_iload_n S dX0_last_13 rfl ?_
      refine r_iload S dX0_last_14 rfl ?_
      refine r_iadd S dX0_last_16 ?_
      refine r_callU S (c_isBeyond0 hF hFr hO hg (p := Y + (i + 1)) (by omega) (by omega)) k_mX5_isBeyond c_RX0_13_0 dX0_last_17 (by decide) ⟨by omega, by omega⟩ (by repeat (first | assumption | exact sUp_same | exact sNew_same | refine sUp_ne (by first | assumption | omega) ?_)) rfl rfl (Nat.le_of_ble_eq_true rfl) (fun r σ' hp => ?_)
      obtain ⟨_, rfl, rfl, rfl⟩ := hp
      try simp only [Option.toList_some, Option.toList_none, List.cons_append, List.nil_append]
      refine r_if_eq S dX0_last_20 (tgt := 29) (by decide) (b01_R _) (fun h_20 => ?_) (fun h_20 => ?_)
      · simp only [b01_z, Decidable.not_not] at h_20
        exact l_last2 hF hFr hO hg hs hY hN hNs mY mN S (s - (i + 1)) (i + 1) (by omega) (fun _ => by omega)
      · simp only [b01_z, Decidable.not_not] at h_20
        refine r_iinc S dX0_last_23 rfl rfl (by decide) (lv' := [_, _, _, _, _]) rfl ?_
        refine r_goto S dX0_last_26 (tgt := 7) (by decide) ?_
        refine V.at rfl ?_
        have h9 := ih (by omega)
        rw [show ((i + 1 : Nat) : Int) + -1 = (i : Int) by omega]
        exact h9

set_option maxRecDepth 100000 in
set_option maxHeartbeats 4000000 in
theorem c_last0 {k : Cx} {L0 : Launch} {σ : St} {ta : Nat} {F : Nat → Int} (hF : σ.2 ta = some (eI k 4845 F)) (hFr : ∀ j, 0 ≤ F j ∧ F j ≤ 13) {yp np g : Int} (hO : σ.2 (ta + 1) = some (oAny ta yp np g)) (hg : -1 ≤ g ∧ g ≤ 13) {Y N s : Nat} (hs : s ≤ 16) (hY : Y + s < 4845) (hN : N < 4845) (hNs : s ≤ N) (mY : ∀ x, x < s → F (Y + x) ≤ F (Y + x + 1)) (mN : ∀ x, x < s → F (N - (x + 1)) ≤ F (N - x)) {y n z : Int} (hy : y = (Y : Int)) (hnn : n = (N : Int)) (hz : z = (s : Int)) : CtrV k L0 mX0_last 2 0 0 [.ref (ta + 1), .int (iZ y), .int (iZ n), .int (iZ z)] σ (fun v σ' => v = .int (iZ (bP (lastP F Y N s g))) ∧ σ' = σ) := by
  refine Ctr.of (by decide +kernel) rfl (Nat.le_of_ble_eq_true rfl) ?_
  intro κ hl0 S
  subst hl0
  subst hy
  subst hnn
  subst hz
  refine r_iload_n S dX0_last_0 rfl ?_
  refine r_iconst S dX0_last_1 ?_
  refine r_iadd S dX0_last_2 ?_
  refine r_iconst S dX0_last_3 ?_
  refine r_idiv S dX0_last_4 (neZ (d := 2) (by decide) (by decide)) (divZ (a := s + 1) (d := 2) (by omega) (by decide) (by decide)) ?_
  refine r_istore S dX0_last_5 rfl (by decide) (lv' := [_, _, _, _, _]) rfl ?_
  exact l_last1 hF hFr hO hg hs hY hN hNs mY mN S ((s + 1) / 2) (by omega)
