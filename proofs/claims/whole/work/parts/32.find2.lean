/-- the rows 'have' and 'lowest' of LeastHeap, written anew -/
def UF (k : Cx) (σ : St) (ta : Nat) (hv : Nat → Int) (w : Nat → Nat) : St := sUp (sUp σ (ta + 5) (eI k 8 hv)) (ta + 7) (eI k 68 (fun j => (w j : Int)))
theorem UF_id {k : Cx} {σ : St} {ta : Nat} {hv : Nat → Int} {w : Nat → Nat} (h1 : σ.2 (ta + 5) = some (eI k 8 hv)) (h2 : σ.2 (ta + 7) = some (eI k 68 (fun j => (w j : Int)))) : UF k σ ta hv w = σ := by
  unfold UF
  rw [sUp_id h1, sUp_id h2]
theorem UF_w (k : Cx) (σ : St) (ta : Nat) (hv : Nat → Int) (w w' : Nat → Nat) : sUp (UF k σ ta hv w) (ta + 7) (eI k 68 (fun j => (w' j : Int))) = UF k σ ta hv w' := by
  unfold UF
  rw [sUp_sUp]
theorem UF_h (k : Cx) (σ : St) (ta : Nat) (hv hv' : Nat → Int) (w : Nat → Nat) : sUp (UF k σ ta hv w) (ta + 5) (eI k 8 hv') = UF k σ ta hv' w := by
  unfold UF
  rw [sUp_comm (sUp σ (ta + 5) (eI k 8 hv)) _ _ (show ta + 7 ≠ ta + 5 by omega), sUp_sUp]
theorem UF_H {k : Cx} {σ : St} {ta : Nat} {hv : Nat → Int} {w : Nat → Nat} : (UF k σ ta hv w).2 (ta + 5) = some (eI k 8 hv) := sUp_ne (by omega) sUp_same
theorem UF_W {k : Cx} {σ : St} {ta : Nat} {hv : Nat → Int} {w : Nat → Nat} : (UF k σ ta hv w).2 (ta + 7) = some (eI k 68 (fun j => (w j : Int))) := sUp_same
theorem UF_at {k : Cx} {σ : St} {ta b : Nat} {hv : Nat → Int} {w : Nat → Nat} {x : Option va_E} (h1 : b ≠ ta + 5) (h2 : b ≠ ta + 7) (hx : σ.2 b = x) : (UF k σ ta hv w).2 b = x := sUp_ne h2 (sUp_ne h1 hx)
theorem cnt_split {p q r : Nat → Bool} (h : ∀ i, (if r i then 1 else 0 : Nat) = (if p i then 1 else 0) + (if q i then 1 else 0)) : ∀ n, cnt r n = cnt p n + cnt q n
  | 0 => rfl
  | n + 1 => by
    rw [cnt_succ, cnt_succ, cnt_succ, cnt_split h n, h n]
    omega
theorem cnt_lev {f : Nat → Int} {r : Nat} (l n : Nat) : cnt (fun i => decide ((l : Int) ≤ f (r + i))) n = cnt (fun i => decide (((l + 1 : Nat) : Int) ≤ f (r + i))) n + cnt (fun i => decide (f (r + i) = (l : Int))) n := by
  refine cnt_split (fun i => ?_) n
  by_cases h1 : ((l + 1 : Nat) : Int) ≤ f (r + i)
  · rw [if_pos (decide_eq_true (by omega)), if_pos (decide_eq_true h1), decide_eq_false (by omega)]; rfl
  · by_cases h2 : f (r + i) = (l : Int)
    · rw [if_pos (decide_eq_true (by omega)), decide_eq_false h1, if_pos (decide_eq_true h2)]; rfl
    · rw [decide_eq_false (by omega), decide_eq_false h1, decide_eq_false h2]; rfl
theorem cnt_none {p : Nat → Bool} (h : ∀ i, p i = false) : ∀ n, cnt p n = 0
  | 0 => rfl
  | n + 1 => by rw [cnt_f (h n), cnt_none h n]
theorem cnt_kth {p : Nat → Bool} {c : Nat} : ∀ {n : Nat}, c < cnt p n → ∃ i, i < n ∧ p i = true ∧ cnt p i = c
  | 0, h => absurd h (Nat.not_lt_zero c)
  | n + 1, h => by
    rcases Nat.lt_or_ge c (cnt p n) with e | e
    · obtain ⟨i, h1, h2, h3⟩ := cnt_kth e
      exact ⟨i, by omega, h2, h3⟩
    · cases hp : p n with
      | true => rw [cnt_t hp] at h; exact ⟨n, by omega, hp, by omega⟩
      | false => rw [cnt_f hp] at h; omega
theorem bs_or {p : Nat → Bool} {a b : Nat} (h : a ≤ b) : bs p a ||| bs p b = bs p b := by
  induction h with
  | refl => exact Nat.or_self _
  | @step m _ ih =>
    cases hp : p m with
    | false => rw [bs_f hp]; exact ih
    | true =>
      rw [bs_t hp, show bs p m + 2 ^ m = bs p m ||| 2 ^ m by
        have h9 := Nat.two_pow_add_eq_or_of_lt (bs_lt p m) 1
        rw [Nat.mul_one] at h9
        rw [Nat.add_comm, h9, Nat.or_comm], ← Nat.or_assoc, ih]
theorem LW_mono {w : Nat → Nat} {p : Nat → Bool} {n : Nat} (h : LW w 0 p n) : ∀ c, 1 ≤ c → c < cnt p n → w c ||| w (c + 1) = w (c + 1) := by
  intro c h1 h2
  obtain ⟨i, i1, i2, i3⟩ := cnt_kth (p := p) (c := c - 1) (n := n) (by omega)
  obtain ⟨j, j1, j2, j3⟩ := cnt_kth (p := p) (c := c) (n := n) h2
  have a := h i i1 i2
  have b := h j j1 j2
  rw [cnt_t i2, i3, Nat.zero_mul, Nat.zero_add, show c - 1 + 1 = c by omega] at a
  rw [cnt_t j2, j3, Nat.zero_mul, Nat.zero_add] at b
  rw [a, b]
  refine bs_or ?_
  rcases Nat.lt_or_ge j i with e | e
  · have := cnt_mono p (show j + 1 ≤ i by omega)
    rw [cnt_t j2] at this
    omega
  · omega
/-- LeastHeap's cells -/
def Tl (k : Cx) (σ : St) (ta cy cn : Nat) : Prop := (∃ (g : Int) (ls : Nat), σ.2 (ta + 4) = some (oLeast ta cy cn g ls)) ∧ (∃ hv : Nat → Int, (∀ j, 3 < j → j < 8 → hv j = 0) ∧ σ.2 (ta + 5) = some (eI k 8 hv)) ∧ (∃ tk : Nat → Int, (∀ j, 3 < j → j < 8 → tk j = 0) ∧ σ.2 (ta + 6) = some (eI k 8 tk)) ∧ ∃ w : Nat → Nat, (∀ j, w j < 65536) ∧ σ.2 (ta + 7) = some (eI k 68 (fun j => (w j : Int)))
/-- the lowest NUMBERS of each LEFT are laid -/
def LWs (w : Nat → Nat) (f : Nat → Int) (r n : Nat) : Prop := ∀ l, l < 4 → LW w l (fun i => decide (f (r + i) = (l : Int))) n
set_option maxRecDepth 100000 in
set_option maxHeartbeats 4000000 in
theorem s_findE {κ : Kx} {k : Cx} {σ : St} {ta : Nat} {F : Nat → Int} (hF : σ.2 ta = some (eI k 4845 F)) (hFr : ∀ j, 0 ≤ F j ∧ F j ≤ 13) {af r n : Nat} {f : Nat → Int} (hA : σ.2 af = some (eI k 992 f)) (haf : af < ta) (hf : ∀ j, -1 ≤ f j ∧ f j ≤ 3) (hr : r + 16 ≤ 992) (hn : n ≤ 16) {cy cn : Nat} {g gz : Int} {ls : Nat} (hO : σ.2 (ta + 4) = some (oLeast ta cy cn g ls)) (hg : -1 ≤ gz ∧ gz ≤ 13) (hcy : 1 ≤ cy ∧ cy ≤ 4) (hcn : 1 ≤ cn ∧ cn ≤ 4) {tk : Nat → Int} (hT : σ.2 (ta + 6) = some (eI k 8 tk)) (htk : ∀ j, 3 < j → j < 8 → tk j = 0) (hFm : Fm F (hQ f r n)) (S : Ok κ k cX6_find 6 RX6 (some .int) "find" 8 0 0) : ∀ (hv : Nat → Int) (w : Nat → Nat), (∀ j, 0 ≤ j → j < 8 → hv j = (qat (hQ f r n) j : Int)) → (∀ l, 0 ≤ l → l < 4 → LW w l (fun i => decide (f (r + i) = (l : Int))) n) → (∀ j, w j < 65536) → V κ k 6 0 0 (QR κ k (fun r9 σ' => ∃ v, r9 = some v ∧ (∃ (ls' : Nat) (w : Nat → Nat), v = .int (iZ (ls' : Int)) ∧ MinOf w (T3 F gz cy cn (hQ f r n)) 65535 ls' ∧ LWs w f r n ∧ Tl k σ' ta cy cn ∧ Fr σ σ' (ta + 4) (ta + 8))) 0 0) 3 [some (.ref (ta + 4)), some (.ref af), some (.int (iZ (r : Int))), some (.int (iZ (n : Int))), some (.int (iZ gz)), some (.int (iZ ((-1) : Int)))] [] (UF k σ ta hv w) := by
  intro hv w hhv hLW hwl
  have hc0 : (hQ f r n).1 ≤ n := cnt_le _ n
  have hwm : ∀ c, 1 ≤ c → c < (hQ f r n).1 - (hQ f r n).2.1 → w c ||| w (c + 1) = w (c + 1) := by
    have h9 := LW_mono (hLW 0 (Nat.le_refl 0) (by decide))
    have h8 : (hQ f r n).1 = (hQ f r n).2.1 + cnt (fun i => decide (f (r + i) = ((0 : Nat) : Int))) n := cnt_lev 0 n
    intro c h1 h2
    exact h9 c h1 (by omega)
  refine r_iload S dX6_find_3 rfl ?_
  refine r_if_lt S dX6_find_5 (tgt := 40) (by decide) ⟨by omega, by omega⟩ (fun h_5 => ?_) (fun h_5 => ?_)
  · refine r_aload_n S dX6_find_40 rfl ?_
    refine r_ldc S (n := 65535) (by exact wd_557) dX6_find_41 ?_
    refine r_putf S p_RX6_15_5 dX6_find_43 (by first | rfl | decide) (by first | rfl | decide) (by first | assumption | exact UF_H | exact UF_W | exact UF_at (by omega) (by omega) (by assumption)) (Nat.le_of_ble_eq_true rfl) (fs' := [_, _, _, _, _, _, _, _]) rfl ?_
    try simp only [sUp_sUp]
    refine r_aload_n S dX6_find_46 rfl ?_
    refine r_iload S dX6_find_47 rfl ?_
    refine r_callU S (c_walk5 (ls := 65535) (sUp_ne (by omega) (UF_at (by omega) (by omega) hF)) hFr sUp_same hg (by decide) hcy hcn (sUp_ne (by omega) UF_H) (fun j hj => hhv j (Nat.zero_le j) hj) (sUp_ne (by omega) (UF_at (by omega) (by omega) hT)) (sUp_ne (by omega) UF_W) hwl hwm (hQ_dec f r n) (by omega) hFm htk) k_mX5_walk c_RX6_27_5 dX6_find_49 (by decide) ⟨by omega, by omega⟩ sUp_same rfl rfl (Nat.le_of_ble_eq_true rfl) (fun r σ' hp => ?_)
    obtain ⟨_, rfl, rfl, ls2, tk3, hm3, hl3, htk3, rfl⟩ := hp
    try simp only [Option.toList_some, Option.toList_none, List.cons_append, List.nil_append]
    refine r_pop S dX6_find_52 rfl ?_
    refine r_aload_n S dX6_find_53 rfl ?_
    refine r_getf S g_RX6_15_5 dX6_find_54 UL_O rfl ?_
    exact r_iret S dX6_find_57 (by omega) (by omega) (⟨_, rfl, ls2, w, rfl, hm3, fun l hl => hLW l (Nat.zero_le l) hl, ⟨⟨gz, ls2, UL_O⟩, ⟨hv, fun j h1 h2 => by rw [hhv j (Nat.zero_le j) h2, qat_hi h1]; rfl, UL_at (by omega) (by omega) (sUp_ne (by omega) UF_H)⟩, ⟨tk3, htk3, UL_T⟩, w, hwl, UL_at (by omega) (by omega) (sUp_ne (by omega) UF_W)⟩, ((((Fr.refl.up (by omega) (by omega)).up (by omega) (by omega)).up (by omega) (by omega)).up (by omega) (by omega)).up (by omega) (by omega)⟩)
  · exact absurd h_5 (by decide)

set_option maxRecDepth 100000 in
set_option maxHeartbeats 4000000 in
theorem s_find0 {κ : Kx} {k : Cx} {σ : St} {ta : Nat} {F : Nat → Int} (hF : σ.2 ta = some (eI k 4845 F)) (hFr : ∀ j, 0 ≤ F j ∧ F j ≤ 13) {af r n : Nat} {f : Nat → Int} (hA : σ.2 af = some (eI k 992 f)) (haf : af < ta) (hf : ∀ j, -1 ≤ f j ∧ f j ≤ 3) (hr : r + 16 ≤ 992) (hn : n ≤ 16) {cy cn : Nat} {g gz : Int} {ls : Nat} (hO : σ.2 (ta + 4) = some (oLeast ta cy cn g ls)) (hg : -1 ≤ gz ∧ gz ≤ 13) (hcy : 1 ≤ cy ∧ cy ≤ 4) (hcn : 1 ≤ cn ∧ cn ≤ 4) {tk : Nat → Int} (hT : σ.2 (ta + 6) = some (eI k 8 tk)) (htk : ∀ j, 3 < j → j < 8 → tk j = 0) (hFm : Fm F (hQ f r n)) (S : Ok κ k cX6_find 6 RX6 (some .int) "find" 8 0 0) : ∀ (hv : Nat → Int) (w : Nat → Nat), (∀ j, 0 < j → j < 8 → hv j = (qat (hQ f r n) j : Int)) → (∀ l, 0 < l → l < 4 → LW w l (fun i => decide (f (r + i) = (l : Int))) n) → (∀ j, w j < 65536) → V κ k 6 0 0 (QR κ k (fun r9 σ' => ∃ v, r9 = some v ∧ (∃ (ls' : Nat) (w : Nat → Nat), v = .int (iZ (ls' : Int)) ∧ MinOf w (T3 F gz cy cn (hQ f r n)) 65535 ls' ∧ LWs w f r n ∧ Tl k σ' ta cy cn ∧ Fr σ σ' (ta + 4) (ta + 8))) 0 0) 3 [some (.ref (ta + 4)), some (.ref af), some (.int (iZ (r : Int))), some (.int (iZ (n : Int))), some (.int (iZ gz)), some (.int (iZ (0 : Int)))] [] (UF k σ ta hv w) := by
  intro hv w hhv hLW hwl
  have hc0 : (hQ f r n).1 ≤ n := cnt_le _ n
  have hlev : (hQ f r n).1 = qat (hQ f r n) 1 + cnt (fun i => decide (f (r + i) = ((0 : Nat) : Int))) n := cnt_lev 0 n
  refine r_iload S dX6_find_3 rfl ?_
  refine r_if_lt S dX6_find_5 (tgt := 40) (by decide) ⟨by omega, by omega⟩ (fun h_5 => ?_) (fun h_5 => ?_)
  · exact absurd h_5 (by decide)
  · refine r_aload_n S dX6_find_8 rfl ?_
    refine r_getf S g_RX6_19_5 dX6_find_9 (by first | assumption | exact UF_H | exact UF_W | exact UF_at (by omega) (by omega) (by assumption)) rfl ?_
    refine r_iload S dX6_find_12 rfl ?_
    refine r_aload_n S dX6_find_14 rfl ?_
    refine r_getf S g_RX6_19_5 dX6_find_15 (by first | assumption | exact UF_H | exact UF_W | exact UF_at (by omega) (by omega) (by assumption)) rfl ?_
    refine r_iload S dX6_find_18 rfl ?_
    refine r_iconst S dX6_find_20 ?_
    refine r_iadd S dX6_find_21 ?_
    refine r_ialdN S (1) dX6_find_22 (by first | assumption | exact UF_H | exact UF_W | exact UF_at (by omega) (by omega) (by assumption)) (by rfl) (by omega) (by decide) ?_
    rw [hhv 1 (by decide) (by decide)]
    refine r_aload_n S dX6_find_23 rfl ?_
    refine r_aload_n S dX6_find_24 rfl ?_
    refine r_iload_n S dX6_find_25 rfl ?_
    refine r_iload_n S dX6_find_26 rfl ?_
    refine r_iload S dX6_find_27 rfl ?_
    refine r_callV S (c_layLowest (l := 0) (UF_at (by omega) (by omega) hO) (UF_at (by omega) (by omega) hA) (by omega) hf hr hn (by decide) UF_W hwl) k_mX6_layLowest c_RX6_22_5 dX6_find_29 (by decide) ⟨by omega, by omega⟩ (by first | assumption | exact UF_H | exact UF_W | exact UF_at (by omega) (by omega) (by assumption)) rfl rfl (Nat.le_of_ble_eq_true rfl) (fun r σ' hp => ?_)
    obtain ⟨_, rfl, rfl, w2, hw1, hw2, hw3, rfl⟩ := hp
    try simp only [Option.toList_some, Option.toList_none, List.cons_append, List.nil_append]
    rw [UF_w]
    refine r_iadd S dX6_find_32 ?_
    refine r_num (z' := (((hQ f r n).1 : Nat) : Int)) (by rw [hlev]; omega) ?_
    refine r_iastN S (0) dX6_find_33 (by first | assumption | exact UF_H | exact UF_W | exact UF_at (by omega) (by omega) (by assumption)) (by rfl) (by omega) (by decide) ?_
    rw [UF_h]
    refine r_iinc S dX6_find_34 rfl rfl (by decide) (lv' := [_, _, _, _, _, _]) rfl ?_
    refine r_goto S dX6_find_37 (tgt := 3) (by decide) ?_
    refine s_findE hF hFr hA haf hf hr hn hO hg hcy hcn hT htk hFm S (uZ hv 0 (((hQ f r n).1 : Nat) : Int)) w2 (fun j h1 h2 => ?_) (fun l h1 h2 => ?_) hw3
    · unfold uZ
      by_cases e : j = 0
      · subst e; rw [if_pos rfl]; rfl
      · rw [if_neg e]; exact hhv j (by omega) h2
    · by_cases e : l = 0
      · subst e; exact hw2
      · intro i h3 h4
        have h5 := cnt_le (fun i => decide (f (r + i) = (l : Int))) (i + 1)
        have h6 : 1 ≤ cnt (fun i => decide (f (r + i) = (l : Int))) (i + 1) := by rw [cnt_t h4]; omega
        rw [hw1 _ (by omega)]
        exact hLW l (by omega) h2 i h3 h4

set_option maxRecDepth 100000 in
set_option maxHeartbeats 4000000 in
theorem s_find1 {κ : Kx} {k : Cx} {σ : St} {ta : Nat} {F : Nat → Int} (hF : σ.2 ta = some (eI k 4845 F)) (hFr : ∀ j, 0 ≤ F j ∧ F j ≤ 13) {af r n : Nat} {f : Nat → Int} (hA : σ.2 af = some (eI k 992 f)) (haf : af < ta) (hf : ∀ j, -1 ≤ f j ∧ f j ≤ 3) (hr : r + 16 ≤ 992) (hn : n ≤ 16) {cy cn : Nat} {g gz : Int} {ls : Nat} (hO : σ.2 (ta + 4) = some (oLeast ta cy cn g ls)) (hg : -1 ≤ gz ∧ gz ≤ 13) (hcy : 1 ≤ cy ∧ cy ≤ 4) (hcn : 1 ≤ cn ∧ cn ≤ 4) {tk : Nat → Int} (hT : σ.2 (ta + 6) = some (eI k 8 tk)) (htk : ∀ j, 3 < j → j < 8 → tk j = 0) (hFm : Fm F (hQ f r n)) (S : Ok κ k cX6_find 6 RX6 (some .int) "find" 8 0 0) : ∀ (hv : Nat → Int) (w : Nat → Nat), (∀ j, 1 < j → j < 8 → hv j = (qat (hQ f r n) j : Int)) → (∀ l, 1 < l → l < 4 → LW w l (fun i => decide (f (r + i) = (l : Int))) n) → (∀ j, w j < 65536) → V κ k 6 0 0 (QR κ k (fun r9 σ' => ∃ v, r9 = some v ∧ (∃ (ls' : Nat) (w : Nat → Nat), v = .int (iZ (ls' : Int)) ∧ MinOf w (T3 F gz cy cn (hQ f r n)) 65535 ls' ∧ LWs w f r n ∧ Tl k σ' ta cy cn ∧ Fr σ σ' (ta + 4) (ta + 8))) 0 0) 3 [some (.ref (ta + 4)), some (.ref af), some (.int (iZ (r : Int))), some (.int (iZ (n : Int))), some (.int (iZ gz)), some (.int (iZ (1 : Int)))] [] (UF k σ ta hv w) := by
  intro hv w hhv hLW hwl
  have hc0 : (hQ f r n).1 ≤ n := cnt_le _ n
  have hlev : (hQ f r n).2.1 = qat (hQ f r n) 2 + cnt (fun i => decide (f (r + i) = ((1 : Nat) : Int))) n := cnt_lev 1 n
  refine r_iload S dX6_find_3 rfl ?_
  refine r_if_lt S dX6_find_5 (tgt := 40) (by decide) ⟨by omega, by omega⟩ (fun h_5 => ?_) (fun h_5 => ?_)
  · exact absurd h_5 (by decide)
  · refine r_aload_n S dX6_find_8 rfl ?_
    refine r_getf S g_RX6_19_5 dX6_find_9 (by first | assumption | exact UF_H | exact UF_W | exact UF_at (by omega) (by omega) (by assumption)) rfl ?_
    refine r_iload S dX6_find_12 rfl ?_
    refine r_aload_n S dX6_find_14 rfl ?_
    refine r_getf S g_RX6_19_5 dX6_find_15 (by first | assumption | exact UF_H | exact UF_W | exact UF_at (by omega) (by omega) (by assumption)) rfl ?_
    refine r_iload S dX6_find_18 rfl ?_
    refine r_iconst S dX6_find_20 ?_
    refine r_iadd S dX6_find_21 ?_
    refine r_ialdN S (2) dX6_find_22 (by first | assumption | exact UF_H | exact UF_W | exact UF_at (by omega) (by omega) (by assumption)) (by rfl) (by omega) (by decide) ?_
    rw [hhv 2 (by decide) (by decide)]
    refine r_aload_n S dX6_find_23 rfl ?_
    refine r_aload_n S dX6_find_24 rfl ?_
    refine r_iload_n S dX6_find_25 rfl ?_
    refine r_iload_n S dX6_find_26 rfl ?_
    refine r_iload S dX6_find_27 rfl ?_
    refine r_callV S (c_layLowest (l := 1) (UF_at (by omega) (by omega) hO) (UF_at (by omega) (by omega) hA) (by omega) hf hr hn (by decide) UF_W hwl) k_mX6_layLowest c_RX6_22_5 dX6_find_29 (by decide) ⟨by omega, by omega⟩ (by first | assumption | exact UF_H | exact UF_W | exact UF_at (by omega) (by omega) (by assumption)) rfl rfl (Nat.le_of_ble_eq_true rfl) (fun r σ' hp => ?_)
    obtain ⟨_, rfl, rfl, w2, hw1, hw2, hw3, rfl⟩ := hp
    try simp only [Option.toList_some, Option.toList_none, List.cons_append, List.nil_append]
    rw [UF_w]
    refine r_iadd S dX6_find_32 ?_
    refine r_num (z' := (((hQ f r n).2.1 : Nat) : Int)) (by rw [hlev]; omega) ?_
    refine r_iastN S (1) dX6_find_33 (by first | assumption | exact UF_H | exact UF_W | exact UF_at (by omega) (by omega) (by assumption)) (by rfl) (by omega) (by decide) ?_
    rw [UF_h]
    refine r_iinc S dX6_find_34 rfl rfl (by decide) (lv' := [_, _, _, _, _, _]) rfl ?_
    refine r_goto S dX6_find_37 (tgt := 3) (by decide) ?_
    refine s_find0 hF hFr hA haf hf hr hn hO hg hcy hcn hT htk hFm S (uZ hv 1 (((hQ f r n).2.1 : Nat) : Int)) w2 (fun j h1 h2 => ?_) (fun l h1 h2 => ?_) hw3
    · unfold uZ
      by_cases e : j = 1
      · subst e; rw [if_pos rfl]; rfl
      · rw [if_neg e]; exact hhv j (by omega) h2
    · by_cases e : l = 1
      · subst e; exact hw2
      · intro i h3 h4
        have h5 := cnt_le (fun i => decide (f (r + i) = (l : Int))) (i + 1)
        have h6 : 1 ≤ cnt (fun i => decide (f (r + i) = (l : Int))) (i + 1) := by rw [cnt_t h4]; omega
        rw [hw1 _ (by omega)]
        exact hLW l (by omega) h2 i h3 h4

set_option maxRecDepth 100000 in
set_option maxHeartbeats 4000000 in
theorem s_find2 {κ : Kx} {k : Cx} {σ : St} {ta : Nat} {F : Nat → Int} (hF : σ.2 ta = some (eI k 4845 F)) (hFr : ∀ j, 0 ≤ F j ∧ F j ≤ 13) {af r n : Nat} {f : Nat → Int} (hA : σ.2 af = some (eI k 992 f)) (haf : af < ta) (hf : ∀ j, -1 ≤ f j ∧ f j ≤ 3) (hr : r + 16 ≤ 992) (hn : n ≤ 16) {cy cn : Nat} {g gz : Int} {ls : Nat} (hO : σ.2 (ta + 4) = some (oLeast ta cy cn g ls)) (hg : -1 ≤ gz ∧ gz ≤ 13) (hcy : 1 ≤ cy ∧ cy ≤ 4) (hcn : 1 ≤ cn ∧ cn ≤ 4) {tk : Nat → Int} (hT : σ.2 (ta + 6) = some (eI k 8 tk)) (htk : ∀ j, 3 < j → j < 8 → tk j = 0) (hFm : Fm F (hQ f r n)) (S : Ok κ k cX6_find 6 RX6 (some .int) "find" 8 0 0) : ∀ (hv : Nat → Int) (w : Nat → Nat), (∀ j, 2 < j → j < 8 → hv j = (qat (hQ f r n) j : Int)) → (∀ l, 2 < l → l < 4 → LW w l (fun i => decide (f (r + i) = (l : Int))) n) → (∀ j, w j < 65536) → V κ k 6 0 0 (QR κ k (fun r9 σ' => ∃ v, r9 = some v ∧ (∃ (ls' : Nat) (w : Nat → Nat), v = .int (iZ (ls' : Int)) ∧ MinOf w (T3 F gz cy cn (hQ f r n)) 65535 ls' ∧ LWs w f r n ∧ Tl k σ' ta cy cn ∧ Fr σ σ' (ta + 4) (ta + 8))) 0 0) 3 [some (.ref (ta + 4)), some (.ref af), some (.int (iZ (r : Int))), some (.int (iZ (n : Int))), some (.int (iZ gz)), some (.int (iZ (2 : Int)))] [] (UF k σ ta hv w) := by
  intro hv w hhv hLW hwl
  have hc0 : (hQ f r n).1 ≤ n := cnt_le _ n
  have hlev : (hQ f r n).2.2.1 = qat (hQ f r n) 3 + cnt (fun i => decide (f (r + i) = ((2 : Nat) : Int))) n := cnt_lev 2 n
  refine r_iload S dX6_find_3 rfl ?_
  refine r_if_lt S dX6_find_5 (tgt := 40) (by decide) ⟨by omega, by omega⟩ (fun h_5 => ?_) (fun h_5 => ?_)
  · exact absurd h_5 (by decide)
  · refine r_aload_n S dX6_find_8 rfl ?_
    refine r_getf S g_RX6_19_5 dX6_find_9 (by first | assumption | exact UF_H | exact UF_W | exact UF_at (by omega) (by omega) (by assumption)) rfl ?_
    refine r_iload S dX6_find_12 rfl ?_
    refine r_aload_n S dX6_find_14 rfl ?_
    refine r_getf S g_RX6_19_5 dX6_find_15 (by first | assumption | exact UF_H | exact UF_W | exact UF_at (by omega) (by omega) (by assumption)) rfl ?_
    refine r_iload S dX6_find_18 rfl ?_
    refine r_iconst S dX6_find_20 ?_
    refine r_iadd S dX6_find_21 ?_
    refine r_ialdN S (3) dX6_find_22 (by first | assumption | exact UF_H | exact UF_W | exact UF_at (by omega) (by omega) (by assumption)) (by rfl) (by omega) (by decide) ?_
    rw [hhv 3 (by decide) (by decide)]
    refine r_aload_n S dX6_find_23 rfl ?_
    refine r_aload_n S dX6_find_24 rfl ?_
    refine r_iload_n S dX6_find_25 rfl ?_
    refine r_iload_n S dX6_find_26 rfl ?_
    refine r_iload S dX6_find_27 rfl ?_
    refine r_callV S (c_layLowest (l := 2) (UF_at (by omega) (by omega) hO) (UF_at (by omega) (by omega) hA) (by omega) hf hr hn (by decide) UF_W hwl) k_mX6_layLowest c_RX6_22_5 dX6_find_29 (by decide) ⟨by omega, by omega⟩ (by first | assumption | exact UF_H | exact UF_W | exact UF_at (by omega) (by omega) (by assumption)) rfl rfl (Nat.le_of_ble_eq_true rfl) (fun r σ' hp => ?_)
    obtain ⟨_, rfl, rfl, w2, hw1, hw2, hw3, rfl⟩ := hp
    try simp only [Option.toList_some, Option.toList_none, List.cons_append, List.nil_append]
    rw [UF_w]
    refine r_iadd S dX6_find_32 ?_
    refine r_num (z' := (((hQ f r n).2.2.1 : Nat) : Int)) (by rw [hlev]; omega) ?_
    refine r_iastN S (2) dX6_find_33 (by first | assumption | exact UF_H | exact UF_W | exact UF_at (by omega) (by omega) (by assumption)) (by rfl) (by omega) (by decide) ?_
    rw [UF_h]
    refine r_iinc S dX6_find_34 rfl rfl (by decide) (lv' := [_, _, _, _, _, _]) rfl ?_
    refine r_goto S dX6_find_37 (tgt := 3) (by decide) ?_
    refine s_find1 hF hFr hA haf hf hr hn hO hg hcy hcn hT htk hFm S (uZ hv 2 (((hQ f r n).2.2.1 : Nat) : Int)) w2 (fun j h1 h2 => ?_) (fun l h1 h2 => ?_) hw3
    · unfold uZ
      by_cases e : j = 2
      · subst e; rw [if_pos rfl]; rfl
      · rw [if_neg e]; exact hhv j (by omega) h2
    · by_cases e : l = 2
      · subst e; exact hw2
      · intro i h3 h4
        have h5 := cnt_le (fun i => decide (f (r + i) = (l : Int))) (i + 1)
        have h6 : 1 ≤ cnt (fun i => decide (f (r + i) = (l : Int))) (i + 1) := by rw [cnt_t h4]; omega
        rw [hw1 _ (by omega)]
        exact hLW l (by omega) h2 i h3 h4

set_option maxRecDepth 100000 in
set_option maxHeartbeats 4000000 in
theorem s_find3 {κ : Kx} {k : Cx} {σ : St} {ta : Nat} {F : Nat → Int} (hF : σ.2 ta = some (eI k 4845 F)) (hFr : ∀ j, 0 ≤ F j ∧ F j ≤ 13) {af r n : Nat} {f : Nat → Int} (hA : σ.2 af = some (eI k 992 f)) (haf : af < ta) (hf : ∀ j, -1 ≤ f j ∧ f j ≤ 3) (hr : r + 16 ≤ 992) (hn : n ≤ 16) {cy cn : Nat} {g gz : Int} {ls : Nat} (hO : σ.2 (ta + 4) = some (oLeast ta cy cn g ls)) (hg : -1 ≤ gz ∧ gz ≤ 13) (hcy : 1 ≤ cy ∧ cy ≤ 4) (hcn : 1 ≤ cn ∧ cn ≤ 4) {tk : Nat → Int} (hT : σ.2 (ta + 6) = some (eI k 8 tk)) (htk : ∀ j, 3 < j → j < 8 → tk j = 0) (hFm : Fm F (hQ f r n)) (S : Ok κ k cX6_find 6 RX6 (some .int) "find" 8 0 0) : ∀ (hv : Nat → Int) (w : Nat → Nat), (∀ j, 3 < j → j < 8 → hv j = (qat (hQ f r n) j : Int)) → (∀ l, 3 < l → l < 4 → LW w l (fun i => decide (f (r + i) = (l : Int))) n) → (∀ j, w j < 65536) → V κ k 6 0 0 (QR κ k (fun r9 σ' => ∃ v, r9 = some v ∧ (∃ (ls' : Nat) (w : Nat → Nat), v = .int (iZ (ls' : Int)) ∧ MinOf w (T3 F gz cy cn (hQ f r n)) 65535 ls' ∧ LWs w f r n ∧ Tl k σ' ta cy cn ∧ Fr σ σ' (ta + 4) (ta + 8))) 0 0) 3 [some (.ref (ta + 4)), some (.ref af), some (.int (iZ (r : Int))), some (.int (iZ (n : Int))), some (.int (iZ gz)), some (.int (iZ (3 : Int)))] [] (UF k σ ta hv w) := by
  intro hv w hhv hLW hwl
  have hc0 : (hQ f r n).1 ≤ n := cnt_le _ n
  have hlev : (hQ f r n).2.2.2 = qat (hQ f r n) 4 + cnt (fun i => decide (f (r + i) = ((3 : Nat) : Int))) n := by
    have h9 := cnt_lev (f := f) (r := r) 3 n
    rw [cnt_none (p := fun i => decide (((3 + 1 : Nat) : Int) ≤ f (r + i))) (fun i => decide_eq_false (by have := (hf (r + i)).2; omega)) n] at h9
    exact h9
  refine r_iload S dX6_find_3 rfl ?_
  refine r_if_lt S dX6_find_5 (tgt := 40) (by decide) ⟨by omega, by omega⟩ (fun h_5 => ?_) (fun h_5 => ?_)
  · exact absurd h_5 (by decide)
  · refine r_aload_n S dX6_find_8 rfl ?_
    refine r_getf S g_RX6_19_5 dX6_find_9 (by first | assumption | exact UF_H | exact UF_W | exact UF_at (by omega) (by omega) (by assumption)) rfl ?_
    refine r_iload S dX6_find_12 rfl ?_
    refine r_aload_n S dX6_find_14 rfl ?_
    refine r_getf S g_RX6_19_5 dX6_find_15 (by first | assumption | exact UF_H | exact UF_W | exact UF_at (by omega) (by omega) (by assumption)) rfl ?_
    refine r_iload S dX6_find_18 rfl ?_
    refine r_iconst S dX6_find_20 ?_
    refine r_iadd S dX6_find_21 ?_
    refine r_ialdN S (4) dX6_find_22 (by first | assumption | exact UF_H | exact UF_W | exact UF_at (by omega) (by omega) (by assumption)) (by rfl) (by omega) (by decide) ?_
    rw [hhv 4 (by decide) (by decide)]
    refine r_aload_n S dX6_find_23 rfl ?_
    refine r_aload_n S dX6_find_24 rfl ?_
    refine r_iload_n S dX6_find_25 rfl ?_
    refine r_iload_n S dX6_find_26 rfl ?_
    refine r_iload S dX6_find_27 rfl ?_
    refine r_callV S (c_layLowest (l := 3) (UF_at (by omega) (by omega) hO) (UF_at (by omega) (by omega) hA) (by omega) hf hr hn (by decide) UF_W hwl) k_mX6_layLowest c_RX6_22_5 dX6_find_29 (by decide) ⟨by omega, by omega⟩ (by first | assumption | exact UF_H | exact UF_W | exact UF_at (by omega) (by omega) (by assumption)) rfl rfl (Nat.le_of_ble_eq_true rfl) (fun r σ' hp => ?_)
    obtain ⟨_, rfl, rfl, w2, hw1, hw2, hw3, rfl⟩ := hp
    try simp only [Option.toList_some, Option.toList_none, List.cons_append, List.nil_append]
    rw [UF_w]
    refine r_iadd S dX6_find_32 ?_
    refine r_num (z' := (((hQ f r n).2.2.2 : Nat) : Int)) (by rw [hlev]; omega) ?_
    refine r_iastN S (3) dX6_find_33 (by first | assumption | exact UF_H | exact UF_W | exact UF_at (by omega) (by omega) (by assumption)) (by rfl) (by omega) (by decide) ?_
    rw [UF_h]
    refine r_iinc S dX6_find_34 rfl rfl (by decide) (lv' := [_, _, _, _, _, _]) rfl ?_
    refine r_goto S dX6_find_37 (tgt := 3) (by decide) ?_
    refine s_find2 hF hFr hA haf hf hr hn hO hg hcy hcn hT htk hFm S (uZ hv 3 (((hQ f r n).2.2.2 : Nat) : Int)) w2 (fun j h1 h2 => ?_) (fun l h1 h2 => ?_) hw3
    · unfold uZ
      by_cases e : j = 3
      · subst e; rw [if_pos rfl]; rfl
      · rw [if_neg e]; exact hhv j (by omega) h2
    · by_cases e : l = 3
      · subst e; exact hw2
      · intro i h3 h4
        have h5 := cnt_le (fun i => decide (f (r + i) = (l : Int))) (i + 1)
        have h6 : 1 ≤ cnt (fun i => decide (f (r + i) = (l : Int))) (i + 1) := by rw [cnt_t h4]; omega
        rw [hw1 _ (by omega)]
        exact hLW l (by omega) h2 i h3 h4

set_option maxRecDepth 100000 in
set_option maxHeartbeats 4000000 in
theorem c_find {k : Cx} {L0 : Launch} {σ : St} {ta : Nat} {F : Nat → Int} (hF : σ.2 ta = some (eI k 4845 F)) (hFr : ∀ j, 0 ≤ F j ∧ F j ≤ 13) {af r n : Nat} {f : Nat → Int} (hA : σ.2 af = some (eI k 992 f)) (haf : af < ta) (hf : ∀ j, -1 ≤ f j ∧ f j ≤ 3) (hr : r + 16 ≤ 992) (hn : n ≤ 16) {cy cn : Nat} {g gz : Int} {ls : Nat} (hO : σ.2 (ta + 4) = some (oLeast ta cy cn g ls)) (hg : -1 ≤ gz ∧ gz ≤ 13) (hcy : 1 ≤ cy ∧ cy ≤ 4) (hcn : 1 ≤ cn ∧ cn ≤ 4) {tk : Nat → Int} (hT : σ.2 (ta + 6) = some (eI k 8 tk)) (htk : ∀ j, 3 < j → j < 8 → tk j = 0) (hFm : Fm F (hQ f r n)) {hv : Nat → Int} {w : Nat → Nat} (hH : σ.2 (ta + 5) = some (eI k 8 hv)) (hhv : ∀ j, 3 < j → j < 8 → hv j = 0) (hW : σ.2 (ta + 7) = some (eI k 68 (fun j => (w j : Int)))) (hwl : ∀ j, w j < 65536) : CtrV k L0 mX6_find 8 0 0 [.ref (ta + 4), .ref af, .int (iZ (r : Int)), .int (iZ (n : Int)), .int (iZ gz)] σ (fun v σ' => ∃ (ls' : Nat) (w : Nat → Nat), v = .int (iZ (ls' : Int)) ∧ MinOf w (T3 F gz cy cn (hQ f r n)) 65535 ls' ∧ LWs w f r n ∧ Tl k σ' ta cy cn ∧ Fr σ σ' (ta + 4) (ta + 8)) := by
  refine Ctr.of (by decide +kernel) rfl (Nat.le_of_ble_eq_true rfl) ?_
  intro κ hl0 S
  subst hl0
  refine r_iconst S dX6_find_0 ?_
  refine r_istore S dX6_find_1 rfl (by decide) (lv' := [_, _, _, _, _, _]) rfl ?_
  have h9 := s_find3 hF hFr hA haf hf hr hn hO hg hcy hcn hT htk hFm S hv w (fun j h1 h2 => by rw [hhv j h1 h2, qat_hi h1]; rfl) (fun l h1 h2 => absurd h1 (by omega)) hwl
  rw [UF_id hH hW] at h9
  exact h9
