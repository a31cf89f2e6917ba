/-- the bits of the NUMBERS below i that p holds of -/
def bs (p : Nat → Bool) : Nat → Nat
  | 0 => 0
  | i + 1 => bs p i + (if p i then 2 ^ i else 0)
theorem bs_lt (p : Nat → Bool) : ∀ i, bs p i < 2 ^ i
  | 0 => Nat.zero_lt_one
  | i + 1 => by
    have h := bs_lt p i
    rw [bs, Nat.pow_succ]
    split <;> omega
theorem bs_t {p : Nat → Bool} {i : Nat} (h : p i = true) : bs p (i + 1) = bs p i + 2 ^ i := by rw [bs, if_pos h]
theorem bs_f {p : Nat → Bool} {i : Nat} (h : p i = false) : bs p (i + 1) = bs p i := by rw [bs, h]; rfl
theorem orB {p : Nat → Bool} (i : Nat) : iZ ((bs p i : Nat) : Int) ||| iZ ((1 * 2 ^ i : Nat) : Int) = iZ ((bs p i + 2 ^ i : Nat) : Int) := by
  have h := orW (a := bs p i) (q := i) (b := 1) (bs_lt p i)
  rw [Nat.one_mul] at h ⊢
  exact h
/-- after c NUMBERS of LEFT l: their bits -/
def LW (w : Nat → Nat) (l : Nat) (p : Nat → Bool) (n : Nat) : Prop := ∀ i, i < n → p i = true → w (l * 17 + cnt p (i + 1)) = bs p (i + 1)
theorem cnt_mono (p : Nat → Bool) {i j : Nat} (h : i ≤ j) : cnt p i ≤ cnt p j := by
  induction h with
  | refl => exact Nat.le_refl _
  | @step m _ ih => exact Nat.le_trans ih (by rw [cnt_succ]; omega)
theorem LW_step {w : Nat → Nat} {l : Nat} {p : Nat → Bool} {i : Nat} (h : LW w l p i) (hp : p i = true) : LW (uN w (l * 17 + (cnt p i + 1)) (bs p i + 2 ^ i)) l p (i + 1) := by
  intro j hj hpj
  unfold uN
  by_cases e : j = i
  · subst e
    rw [cnt_t hp, bs_t hp, if_pos rfl]
  · have h1 := cnt_mono p (show j + 1 ≤ i by omega)
    rw [if_neg (by omega)]
    exact h j (by omega) hpj
theorem LW_skip {w : Nat → Nat} {l : Nat} {p : Nat → Bool} {i : Nat} (h : LW w l p i) (hp : p i = false) : LW w l p (i + 1) := by
  intro j hj hpj
  by_cases e : j = i
  · subst e; rw [hp] at hpj; cases hpj
  · exact h j (by omega) hpj
theorem UL_pre (k : Cx) (σ : St) (ta : Nat) (cy cn g ls : Int) (tk : Nat → Int) (e : va_E) : UL k (sUp σ (ta + 4) e) ta cy cn g ls tk = UL k σ ta cy cn g ls tk := by
  unfold UL
  rw [sUp_comm σ _ _ (show ta + 4 ≠ ta + 6 by omega), sUp_sUp]
set_option maxRecDepth 100000 in
set_option maxHeartbeats 4000000 in
theorem l_layLowest {κ : Kx} {k : Cx} {σ : St} {ta : Nat} {cy cn g : Int} {ls : Nat} (hO : σ.2 (ta + 4) = some (oLeast ta cy cn g ls)) {af r n : Nat} {f : Nat → Int} (hA : σ.2 af = some (eI k 992 f)) (haf : af ≠ ta + 7) (hf : ∀ j, -1 ≤ f j ∧ f j ≤ 3) (hr : r + 16 ≤ 992) (hn : n ≤ 16) {l : Nat} (hl : l < 4) {w : Nat → Nat} (hW : σ.2 (ta + 7) = some (eI k 68 (fun j => (w j : Int)))) (hwl : ∀ j, w j < 65536) (S : Ok κ k cX6_layLowest 8 RX6 (some .int) "layLowest" 2 0 0) : ∀ (m i : Nat), i + m = n → ∀ w1 : Nat → Nat, (∀ j, (j ≤ l * 17 ∨ l * 17 + 16 < j) → w1 j = w j) → LW w1 l (fun i => decide (f (r + i) = (l : Int))) i → (∀ j, w1 j < 65536) → V κ k 8 0 0 (QR κ k (fun r9 σ' => ∃ v, r9 = some v ∧ (v = .int (iZ ((cnt (fun i => decide (f (r + i) = (l : Int))) n : Nat) : Int)) ∧ ∃ w' : Nat → Nat, (∀ j, (j ≤ l * 17 ∨ l * 17 + 16 < j) → w' j = w j) ∧ LW w' l (fun i => decide (f (r + i) = (l : Int))) n ∧ (∀ j, w' j < 65536) ∧ σ' = sUp σ (ta + 7) (eI k 68 (fun j => (w' j : Int))))) 0 0) 9 [some (.ref (ta + 4)), some (.ref af), some (.int (iZ (r : Int))), some (.int (iZ (n : Int))), some (.int (iZ (l : Int))), some (.int (iZ ((cnt (fun i => decide (f (r + i) = (l : Int))) i : Nat) : Int))), some (.int (iZ ((bs (fun i => decide (f (r + i) = (l : Int))) i : Nat) : Int))), some (.int (iZ (i : Int)))] [] (sUp σ (ta + 7) (eI k 68 (fun j => (w1 j : Int)))) := by
  intro m
  induction m with
  | zero =>
    intro i hi
    intro w1 h1 h2 h3
    have hin : i = n := by omega
    have hcl := cnt_le (fun i => decide (f (r + i) = (l : Int))) i
    refine r_iload S dX6_layLowest_9 rfl ?_
    refine r_iload_n S dX6_layLowest_11 rfl ?_
    refine r_icmp_ge S dX6_layLowest_12 (tgt := 68) (by decide) ⟨by omega, by omega⟩ ⟨by omega, by omega⟩ (fun h_12 => ?_) (fun h_12 => ?_)
    · refine r_iload S dX6_layLowest_68 rfl ?_
      exact r_iret S dX6_layLowest_70 (by omega) (by omega) (⟨_, rfl, by rw [hin], w1, h1, by rw [← hin]; exact h2, h3, rfl⟩)
    · omega
  | succ m ih =>
    intro i hi
    intro w1 h1 h2 h3
    have hcl := cnt_le (fun i => decide (f (r + i) = (l : Int))) i
    have hfi := hf (r + i)
    have hbl := bs_lt (fun i => decide (f (r + i) = (l : Int))) (i + 1)
    have hb2 : 2 ^ (i + 1) ≤ 65536 := Nat.pow_le_pow_right (by decide) (show i + 1 ≤ 16 by omega)
    have hb3 := bs_lt (fun i => decide (f (r + i) = (l : Int))) i
    have hb4 : 2 ^ (i + 1) = 2 * 2 ^ i := by rw [Nat.pow_succ]; omega
    refine r_iload S dX6_layLowest_9 rfl ?_
    refine r_iload_n S dX6_layLowest_11 rfl ?_
    refine r_icmp_ge S dX6_layLowest_12 (tgt := 68) (by decide) ⟨by omega, by omega⟩ ⟨by omega, by omega⟩ (fun h_12 => ?_) (fun h_12 => ?_)
    · omega
    · refine r_iload S dX6_layLowest_15 rfl ?_
      refine r_bipush S dX6_layLowest_17 (by decide) ?_
      refine r_icmp_ge S dX6_layLowest_19 (tgt := 68) (by decide) ⟨by omega, by omega⟩ ⟨by omega, by omega⟩ (fun h_19 => ?_) (fun h_19 => ?_)
      · omega
      · refine r_aload_n S dX6_layLowest_22 rfl ?_
        refine r_iload_n S dX6_layLowest_23 rfl ?_
        refine r_iload S dX6_layLowest_24 rfl ?_
        refine r_iadd S dX6_layLowest_26 ?_
        refine r_callSN S (c_leftAt (sUp_ne haf hA) (i := r + i) (by omega) (by omega) (by decide)) k_mX11_leftAt c_RX6_31 dX6_layLowest_27 (by decide) ⟨by omega, by omega⟩ rfl rfl (Nat.le_of_ble_eq_true rfl) (fun r σ' hp => ?_)
        obtain ⟨_, rfl, rfl, rfl⟩ := hp
        try simp only [Option.toList_some, Option.toList_none, List.cons_append, List.nil_append]
        refine r_iload S dX6_layLowest_30 rfl ?_
        refine r_icmp_ne S dX6_layLowest_32 (tgt := 62) (by decide) ⟨by omega, by omega⟩ ⟨by omega, by omega⟩ (fun h_32 => ?_) (fun h_32 => ?_)
        · refine r_iinc S dX6_layLowest_62 rfl rfl (by decide) (lv' := [_, _, _, _, _, _, _, _]) rfl ?_
          refine r_goto S dX6_layLowest_65 (tgt := 9) (by decide) ?_
          first
            | (have hpi : (fun i => decide (f (r + i) = (l : Int))) i = false := decide_eq_false (by omega)
               have h9 := ih (i + 1) (by omega) w1 h1 (LW_skip h2 hpi) h3
               rw [cnt_f (p := (fun i => decide (f (r + i) = (l : Int)))) hpi, bs_f (p := (fun i => decide (f (r + i) = (l : Int)))) hpi] at h9
               exact h9)
            | (have hpi : (fun i => decide (f (r + i) = (l : Int))) i = true := decide_eq_true (by omega)
               have h9 := ih (i + 1) (by omega) (uN w1 (l * 17 + (cnt (fun i => decide (f (r + i) = (l : Int))) i + 1)) (bs (fun i => decide (f (r + i) = (l : Int))) i + 2 ^ i)) (fun j hj => by unfold uN; rw [if_neg (by omega)]; exact h1 j hj) (LW_step h2 hpi) (fun j => by unfold uN; split <;> first | omega | exact h3 j)
               rw [cnt_t (p := (fun i => decide (f (r + i) = (l : Int)))) hpi, bs_t (p := (fun i => decide (f (r + i) = (l : Int)))) hpi] at h9
               exact h9)
        · refine r_iinc S dX6_layLowest_35 rfl rfl (by decide) (lv' := [_, _, _, _, _, _, _, _]) rfl ?_
          refine r_iload S dX6_layLowest_38 rfl ?_
          refine r_iconst S dX6_layLowest_40 ?_
          refine r_iload S dX6_layLowest_41 rfl ?_
          refine r_ishl S dX6_layLowest_43 (shlZ (a := 1) (i := i) (pw1 (by omega)) (by omega)) ?_
          refine r_ior S dX6_layLowest_44 (orB i) ?_
          refine r_istore S dX6_layLowest_45 rfl (by decide) (lv' := [_, _, _, _, _, _, _, _]) rfl ?_
          refine r_aload_n S dX6_layLowest_47 rfl ?_
          refine r_getf S g_RX6_9_5 dX6_layLowest_48 (by repeat (first | assumption | exact sUp_same | exact sNew_same | refine sUp_ne (by first | assumption | omega) ?_)) rfl ?_
          refine r_iload S dX6_layLowest_51 rfl ?_
          refine r_bipush S dX6_layLowest_53 (by decide) ?_
          refine r_imul S dX6_layLowest_55 ?_
          refine r_iload S dX6_layLowest_56 rfl ?_
          refine r_iadd S dX6_layLowest_58 ?_
          refine r_iload S dX6_layLowest_59 rfl ?_
          refine r_iastN S (l * 17 + (cnt (fun i => decide (f (r + i) = (l : Int))) i + 1)) dX6_layLowest_61 (by repeat (first | assumption | exact sUp_same | exact sNew_same | refine sUp_ne (by first | assumption | omega) ?_)) (by omega) (by omega) (by decide) ?_
          rw [uZ_uN]
          simp only [sUp_sUp]
          refine r_iinc S dX6_layLowest_62 rfl rfl (by decide) (lv' := [_, _, _, _, _, _, _, _]) rfl ?_
          refine r_goto S dX6_layLowest_65 (tgt := 9) (by decide) ?_
          first
            | (have hpi : (fun i => decide (f (r + i) = (l : Int))) i = false := decide_eq_false (by omega)
               have h9 := ih (i + 1) (by omega) w1 h1 (LW_skip h2 hpi) h3
               rw [cnt_f (p := (fun i => decide (f (r + i) = (l : Int)))) hpi, bs_f (p := (fun i => decide (f (r + i) = (l : Int)))) hpi] at h9
               exact h9)
            | (have hpi : (fun i => decide (f (r + i) = (l : Int))) i = true := decide_eq_true (by omega)
               have h9 := ih (i + 1) (by omega) (uN w1 (l * 17 + (cnt (fun i => decide (f (r + i) = (l : Int))) i + 1)) (bs (fun i => decide (f (r + i) = (l : Int))) i + 2 ^ i)) (fun j hj => by unfold uN; rw [if_neg (by omega)]; exact h1 j hj) (LW_step h2 hpi) (fun j => by unfold uN; split <;> first | omega | exact h3 j)
               rw [cnt_t (p := (fun i => decide (f (r + i) = (l : Int)))) hpi, bs_t (p := (fun i => decide (f (r + i) = (l : Int)))) hpi] at h9
               exact h9)

set_option maxRecDepth 100000 in
set_option maxHeartbeats 4000000 in
theorem c_layLowest {k : Cx} {L0 : Launch} {σ : St} {ta : Nat} {cy cn g : Int} {ls : Nat} (hO : σ.2 (ta + 4) = some (oLeast ta cy cn g ls)) {af r n : Nat} {f : Nat → Int} (hA : σ.2 af = some (eI k 992 f)) (haf : af ≠ ta + 7) (hf : ∀ j, -1 ≤ f j ∧ f j ≤ 3) (hr : r + 16 ≤ 992) (hn : n ≤ 16) {l : Nat} (hl : l < 4) {w : Nat → Nat} (hW : σ.2 (ta + 7) = some (eI k 68 (fun j => (w j : Int)))) (hwl : ∀ j, w j < 65536) : CtrV k L0 mX6_layLowest 2 0 0 [.ref (ta + 4), .ref af, .int (iZ (r : Int)), .int (iZ (n : Int)), .int (iZ (l : Int))] σ (fun v σ' => v = .int (iZ ((cnt (fun i => decide (f (r + i) = (l : Int))) n : Nat) : Int)) ∧ ∃ w' : Nat → Nat, (∀ j, (j ≤ l * 17 ∨ l * 17 + 16 < j) → w' j = w j) ∧ LW w' l (fun i => decide (f (r + i) = (l : Int))) n ∧ (∀ j, w' j < 65536) ∧ σ' = sUp σ (ta + 7) (eI k 68 (fun j => (w' j : Int)))) := by
  refine Ctr.of (by decide +kernel) rfl (Nat.le_of_ble_eq_true rfl) ?_
  intro κ hl0 S
  subst hl0
  refine r_iconst S dX6_layLowest_0 ?_
  refine r_istore S dX6_layLowest_1 rfl (by decide) (lv' := [_, _, _, _, _, _, _, _]) rfl ?_
  refine r_iconst S dX6_layLowest_3 ?_
  refine r_istore S dX6_layLowest_4 rfl (by decide) (lv' := [_, _, _, _, _, _, _, _]) rfl ?_
  refine r_iconst S dX6_layLowest_6 ?_
  refine r_istore S dX6_layLowest_7 rfl (by decide) (lv' := [_, _, _, _, _, _, _, _]) rfl ?_
  have h9 := l_layLowest hO hA haf hf hr hn hl hW hwl S n 0 (by omega) w (fun _ _ => rfl) (fun _ h8 => absurd h8 (by omega)) hwl
  rw [sUp_id hW] at h9
  exact h9

set_option maxRecDepth 100000 in
set_option maxHeartbeats 4000000 in
theorem c_walk5 {k : Cx} {L0 : Launch} {σ : St} {ta : Nat} {F : Nat → Int} (hF : σ.2 ta = some (eI k 4845 F)) (hFr : ∀ j, 0 ≤ F j ∧ F j ≤ 13) {cy cn : Nat} {g gz : Int} {ls : Nat} (hO : σ.2 (ta + 4) = some (oLeast ta cy cn g ls)) (hg : -1 ≤ gz ∧ gz ≤ 13) (hls : ls < 65536) (hcy : 1 ≤ cy ∧ cy ≤ 4) (hcn : 1 ≤ cn ∧ cn ≤ 4) {h : Q4} {hv tk : Nat → Int} (hH : σ.2 (ta + 5) = some (eI k 8 hv)) (hhv : ∀ j, j < 8 → hv j = (qat h j : Int)) (hT : σ.2 (ta + 6) = some (eI k 8 tk)) {w : Nat → Nat} (hW : σ.2 (ta + 7) = some (eI k 68 (fun j => (w j : Int)))) (hwl : ∀ j, w j < 65536) (hwm : ∀ c, 1 ≤ c → c < h.1 - h.2.1 → w c ||| w (c + 1) = w (c + 1)) (hd : Dec h) (h16 : h.1 ≤ 16) (hFm : Fm F h) (htk : ∀ j, 3 < j → j < 8 → tk j = 0) : CtrV k L0 mX5_walk 7 0 0 [.ref (ta + 4), .int (iZ gz)] σ (fun v σ' => v = .int (iZ 0) ∧ ∃ (ls' : Nat) (tk2 : Nat → Int), MinOf w (T3 F gz cy cn h) ls ls' ∧ ls' < 65536 ∧ (∀ j, 3 < j → j < 8 → tk2 j = 0) ∧ σ' = UL k σ ta cy cn gz ls' tk2) := by
  refine Ctr.of (by decide +kernel) rfl (Nat.le_of_ble_eq_true rfl) ?_
  intro κ hl0 S
  subst hl0
  refine r_aload_n S dX5_walk_0 rfl ?_
  refine r_iload_n S dX5_walk_1 rfl ?_
  refine r_putf S p_RX5_18_5 dX5_walk_2 (by first | rfl | decide) (by first | rfl | decide) (by repeat (first | assumption | exact sUp_same | exact sNew_same | refine sUp_ne (by first | assumption | omega) ?_)) (Nat.le_of_ble_eq_true rfl) (fs' := [_, _, _, _, _, _, _, _]) rfl ?_
  try simp only [sUp_sUp]
  refine r_aload_n S dX5_walk_5 rfl ?_
  refine r_iconst S dX5_walk_6 ?_
  refine r_iconst S dX5_walk_7 ?_
  refine r_iconst S dX5_walk_8 ?_
  refine r_callU S (c_down5_3 (sUp_ne (by omega) hF) hFr sUp_same hg hls hcy hcn (sUp_ne (by omega) hH) hhv (sUp_ne (by omega) hT) (sUp_ne (by omega) hW) hwl hwm hd h16 hFm ⟨⟨by decide, by decide, by decide⟩, hd, ⟨Nat.zero_le _, Nat.zero_le _, Nat.zero_le _, Nat.zero_le _⟩⟩ (fun j h1 h2 => by rw [htk j h1 h2, qat_z]; rfl) (by rfl) (by rfl)) k_mX5_down c_RX5_40_5 dX5_walk_9 (by decide) ⟨by omega, by omega⟩ (by repeat (first | assumption | exact sUp_same | exact sNew_same | refine sUp_ne (by first | assumption | omega) ?_)) rfl rfl (Nat.le_of_ble_eq_true rfl) (fun r σ' hp => ?_)
  obtain ⟨_, rfl, rfl, ls2, tk3, hm3, hl3, htk3, rfl⟩ := hp
  try simp only [Option.toList_some, Option.toList_none, List.cons_append, List.nil_append]
  rw [UL_pre]
  exact r_zret S dX5_walk_12 (by omega) (by omega) (by first | exact Or.inl rfl | exact Or.inr rfl | omega) (⟨_, rfl, rfl, ls2, tk3, hm3, hl3, fun j h1 h2 => by rw [htk3 j h1 h2, htk j h1 h2], rfl⟩)
