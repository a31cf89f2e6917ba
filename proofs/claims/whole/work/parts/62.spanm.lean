/-! the reference's spans as mathematics -/
def costN (kd y b : Nat) : Nat := (costK kd y b).toNat
theorem costN_eq (kd y b : Nat) : costK kd y b = (costN kd y b : Int) := by
  have := costK_rng kd y b
  unfold costN
  omega
def sbit (fr to i : Nat) : Nat := if fr ≤ i ∧ i ≤ to then 1 else 0
theorem sbit_lt (fr to i : Nat) : sbit fr to i < 2 := by unfold sbit; split <;> omega
def smF (g : Nat → Nat) : Nat → Nat
  | 0 => 0
  | i + 1 => smF g i + g i * 2 ^ (2 * i)
def sbR (kd y fr to s : Nat) (n : Nat) : Nat := smF (fun i => dgt s i - costN kd y (sbit fr to i)) n
theorem dgt_lt (s i : Nat) : dgt s i < 4 := Nat.mod_lt _ (by decide)
theorem dgt_eq (s i : Nat) : dgt s i = s / 2 ^ (2 * i) % 4 := by
  show Nat.mod (Nat.shiftRight s (Nat.mul 2 i)) 4 = _
  have h : s >>> (2 * i) = s / 2 ^ (2 * i) := Nat.shiftRight_eq_div_pow _ _
  rw [← h]
  rfl
theorem pw2i (i : Nat) : 2 ^ (2 * (i + 1)) = 4 * 2 ^ (2 * i) := by
  rw [show 2 * (i + 1) = 2 * i + 1 + 1 by omega, Nat.pow_succ, Nat.pow_succ]
  omega
theorem smF_lt {g : Nat → Nat} (hg : ∀ i, g i < 4) : ∀ n, smF g n < 2 ^ (2 * n)
  | 0 => Nat.zero_lt_one
  | n + 1 => by
    have ih := smF_lt hg n
    have h := hg n
    have h2 : g n * 2 ^ (2 * n) ≤ 3 * 2 ^ (2 * n) := Nat.mul_le_mul_right _ (by omega)
    rw [smF, pw2i]
    omega
theorem sbR_lt (kd y fr to s n : Nat) : sbR kd y fr to s n < 2 ^ (2 * n) := smF_lt (fun i => by have := dgt_lt s i; omega) n
theorem smF_congr {g h : Nat → Nat} : ∀ {n : Nat}, (∀ i, i < n → g i = h i) → smF g n = smF h n
  | 0, _ => rfl
  | n + 1, e => by rw [smF, smF, smF_congr (fun i hi => e i (by omega)), e n (by omega)]
theorem smF_add (g h : Nat → Nat) : ∀ n, smF (fun i => g i + h i) n = smF g n + smF h n
  | 0 => rfl
  | n + 1 => by rw [smF, smF, smF, smF_add g h n, Nat.add_mul]; omega
theorem smF_zero : ∀ n, smF (fun _ => 0) n = 0
  | 0 => rfl
  | n + 1 => by rw [smF, smF_zero n, Nat.zero_mul]
theorem smF_dgt (s : Nat) : ∀ n, smF (dgt s) n = s % 2 ^ (2 * n)
  | 0 => by rw [smF]; show 0 = s % 1; omega
  | n + 1 => by
    rw [smF, smF_dgt s n, dgt_eq, pw2i, Nat.mul_comm 4, Nat.mod_mul, Nat.mul_comm (2 ^ (2 * n))]
theorem smF_one (g : Nat → Nat) {t : Nat} : ∀ {n : Nat}, t < n → smF (fun i => if i = t then g i else 0) n = g t * 2 ^ (2 * t)
  | n + 1, h => by
    rw [smF]
    rcases Nat.lt_or_ge t n with e | e
    · rw [smF_one g e, if_neg (by omega), Nat.zero_mul, Nat.add_zero]
    · have e2 : t = n := by omega
      subst e2
      rw [if_pos rfl, smF_congr (h := fun _ => 0) (fun i hi => if_neg (by omega)), smF_zero, Nat.zero_add]
def segS (c s : Nat) : Nat → Nat → Nat
  | _, 0 => 0
  | t, m + 1 => mn (dgt s t) c * 2 ^ (2 * t) + segS c s (t + 1) m
theorem segS_sm (c s n : Nat) : ∀ m t, t + m ≤ n → segS c s t m = smF (fun i => if t ≤ i ∧ i < t + m then mn (dgt s i) c else 0) n
  | 0, t, _ => by rw [segS, smF_congr (h := fun _ => 0) (fun i hi => if_neg (by omega)), smF_zero]
  | m + 1, t, h => by
    rw [segS, segS_sm c s n m (t + 1) (by omega), ← smF_one (fun i => mn (dgt s i) c) (show t < n by omega), ← smF_add]
    refine smF_congr (fun i hi => ?_)
    by_cases h1 : i = t
    · rw [if_pos h1, if_neg (by omega), if_pos (by omega)]; omega
    · rw [if_neg h1]
      by_cases h2 : t + 1 ≤ i ∧ i < t + 1 + m
      · rw [if_pos h2, if_pos (by omega)]; omega
      · rw [if_neg h2, if_neg (by omega)]
theorem payS_sm (c s : Nat) : ∀ n, payS c s n = smF (fun i => dgt s i - c) n
  | 0 => rfl
  | n + 1 => by
    rw [smF, ← payS_sm c s n]
    rfl
theorem cst_y (kd : Nat) (hk : kd < 3) {d : Nat} (hd : d < 4) : d - costN kd 1 1 = (d - py kd) + mn d (py kd) ∧ d - costN kd 1 0 = d - py kd := by
  rw [mn_eq]
  match kd, hk with
  | 0, _ => have e1 : costN 0 1 1 = 0 := by decide
            have e2 : costN 0 1 0 = 9 := by decide
            have e3 : py 0 = 3 := rfl
            omega
  | 1, _ => have e1 : costN 1 1 1 = 0 := by decide
            have e2 : costN 1 1 0 = 1 := by decide
            have e3 : py 1 = 1 := rfl
            omega
  | 2, _ => have e1 : costN 2 1 1 = 0 := by decide
            have e2 : costN 2 1 0 = 1 := by decide
            have e3 : py 2 = 1 := rfl
            omega
theorem cst_n (kd : Nat) (hk : kd < 3) {d : Nat} (hd : d < 4) : (d - costN kd 0 1) + mn d (pn kd) = d ∧ d - costN kd 0 0 = d := by
  rw [mn_eq]
  match kd, hk with
  | 0, _ => have e1 : costN 0 0 0 = 0 := by decide
            have e2 : costN 0 0 1 = 9 := by decide
            have e3 : pn 0 = 3 := rfl
            omega
  | 1, _ => have e1 : costN 1 0 0 = 0 := by decide
            have e2 : costN 1 0 1 = 1 := by decide
            have e3 : pn 1 = 1 := rfl
            omega
  | 2, _ => have e1 : costN 2 0 0 = 0 := by decide
            have e2 : costN 2 0 1 = 9 := by decide
            have e3 : pn 2 = 3 := rfl
            omega
theorem sb_yes {kd : Nat} (hk : kd < 3) {t m s n : Nat} (h : t + (m + 1) ≤ n) : sbR kd 1 t (t + m) s n = payS (py kd) s n + segS (py kd) s t (m + 1) := by
  rw [segS_sm (py kd) s n (m + 1) t h, payS_sm, ← smF_add]
  refine smF_congr (fun i hi => ?_)
  have hc := cst_y kd hk (dgt_lt s i)
  unfold sbit
  by_cases h1 : t ≤ i ∧ i ≤ t + m
  · rw [if_pos h1, if_pos (by omega)]; exact hc.1
  · rw [if_neg h1, if_neg (by omega)]; exact hc.2
theorem sb_no {kd : Nat} (hk : kd < 3) {t m s n : Nat} (h : t + (m + 1) ≤ n) (hs : s < 2 ^ (2 * n)) : sbR kd 0 t (t + m) s n = s - segS (pn kd) s t (m + 1) := by
  have e : sbR kd 0 t (t + m) s n + segS (pn kd) s t (m + 1) = s := by
    rw [segS_sm (pn kd) s n (m + 1) t h]
    unfold sbR
    rw [← smF_add]
    have e2 := smF_dgt s n
    rw [Nat.mod_eq_of_lt hs] at e2
    refine Eq.trans (smF_congr (fun i hi => ?_)) e2
    have hc := cst_n kd hk (dgt_lt s i)
    unfold sbit
    by_cases h1 : t ≤ i ∧ i ≤ t + m
    · rw [if_pos h1, if_pos (by omega)]; exact hc.1
    · rw [if_neg h1, if_neg (by omega)]; exact hc.2
  omega
theorem mIn_le (kd s lev : Nat) : ∀ f t a b best, mIn kd s f t a b best ≤ lev ↔ (best ≤ lev ∨ ∃ m, m < f ∧ TS kd (a + segS (py kd) s t (m + 1)) ≤ lev ∧ TS kd (b - segS (pn kd) s t (m + 1)) ≤ lev)
  | 0, t, a, b, best => ⟨fun h => Or.inl h, fun h => by
      rcases h with h | ⟨m, hm, _⟩
      · exact h
      · exact absurd hm (Nat.not_lt_zero m)⟩
  | f + 1, t, a, b, best => by
    have ih := mIn_le kd s lev f (t + 1) (a + mn (dgt s t) (py kd) * 2 ^ (2 * t)) (b - mn (dgt s t) (pn kd) * 2 ^ (2 * t)) (mn best (mx (TS kd (a + mn (dgt s t) (py kd) * 2 ^ (2 * t))) (TS kd (b - mn (dgt s t) (pn kd) * 2 ^ (2 * t)))))
    have e : mIn kd s (f + 1) t a b best = mIn kd s f (t + 1) (a + mn (dgt s t) (py kd) * 2 ^ (2 * t)) (b - mn (dgt s t) (pn kd) * 2 ^ (2 * t)) (mn best (mx (TS kd (a + mn (dgt s t) (py kd) * 2 ^ (2 * t))) (TS kd (b - mn (dgt s t) (pn kd) * 2 ^ (2 * t))))) := rfl
    rw [e, ih, mn_eq, mx_eq]
    have s1 : segS (py kd) s t (0 + 1) = mn (dgt s t) (py kd) * 2 ^ (2 * t) := rfl
    have s2 : segS (pn kd) s t (0 + 1) = mn (dgt s t) (pn kd) * 2 ^ (2 * t) := rfl
    constructor
    · rintro (h | ⟨m, hm, h1, h2⟩)
      · by_cases hb : best ≤ lev
        · exact Or.inl hb
        · exact Or.inr ⟨0, by omega, by rw [s1]; omega, by rw [s2]; omega⟩
      · refine Or.inr ⟨m + 1, by omega, ?_, ?_⟩
        · rw [segS, ← Nat.add_assoc]; exact h1
        · rw [segS, ← Nat.sub_sub]; exact h2
    · rintro (h | ⟨m, hm, h1, h2⟩)
      · exact Or.inl (by omega)
      · cases m with
        | zero => rw [s1] at h1; rw [s2] at h2; exact Or.inl (by omega)
        | succ m =>
          refine Or.inr ⟨m, by omega, ?_, ?_⟩
          · rw [segS, ← Nat.add_assoc] at h1; exact h1
          · rw [segS, ← Nat.sub_sub] at h2; exact h2
theorem mOu_le (kd s lev a : Nat) : ∀ f t best, mOu kd s a f t best ≤ lev ↔ (best ≤ lev ∨ ∃ i m, i + m < f ∧ TS kd (a + segS (py kd) s (t + i) (m + 1)) ≤ lev ∧ TS kd (s - segS (pn kd) s (t + i) (m + 1)) ≤ lev)
  | 0, t, best => ⟨fun h => Or.inl h, fun h => by
      rcases h with h | ⟨i, m, hm, _⟩
      · exact h
      · exact absurd hm (Nat.not_lt_zero _)⟩
  | f + 1, t, best => by
    have ih := mOu_le kd s lev a f (t + 1) (mIn kd s (f + 1) t a s best)
    have e : mOu kd s a (f + 1) t best = mOu kd s a f (t + 1) (mIn kd s (f + 1) t a s best) := rfl
    rw [e, ih, mIn_le]
    constructor
    · rintro ((h | ⟨m, hm, h1, h2⟩) | ⟨i, m, hm, h1, h2⟩)
      · exact Or.inl h
      · exact Or.inr ⟨0, m, by omega, h1, h2⟩
      · exact Or.inr ⟨i + 1, m, by omega, by rw [show t + (i + 1) = t + 1 + i by omega]; exact h1, by rw [show t + (i + 1) = t + 1 + i by omega]; exact h2⟩
    · rintro (h | ⟨i, m, hm, h1, h2⟩)
      · exact Or.inl (Or.inl h)
      · cases i with
        | zero => exact Or.inl (Or.inr ⟨m, by omega, h1, h2⟩)
        | succ i => exact Or.inr ⟨i, m, by omega, by rw [show t + 1 + i = t + (i + 1) by omega]; exact h1, by rw [show t + 1 + i = t + (i + 1) by omega]; exact h2⟩
theorem ckZ : allN (fun n => allN (fun s => cond (Nat.beq (nz s n) 0) (Nat.beq s 0) (Nat.blt 0 s)) (Nat.pow 2 (Nat.mul 2 n))) 7 = true := by decide +kernel
theorem nz_0 {n s : Nat} (hn : n ≤ 6) (hs : s < 2 ^ (2 * n)) : nz s n = 0 ↔ s = 0 := by
  have h := allN_at (allN_at ckZ n (by omega)) s hs
  cases e : Nat.beq (nz s n) 0 with
  | true => rw [e] at h; exact ⟨fun _ => beqT h, fun _ => beqT e⟩
  | false =>
    rw [e] at h
    have h2 := bltT.mp h
    exact ⟨fun z => (by rw [z] at e; cases e), fun z => by omega⟩
theorem ckS_at {kd n s : Nat} (hk : kd < 3) (hn : 1 ≤ n ∧ n ≤ 6) (hs : s < 2 ^ (2 * n)) : ckS kd n s = true := by
  match kd, hk, n, hn with
  | 0, _, 1, _ => exact allN_at ckR0_1 s hs
  | 0, _, 2, _ => exact allN_at ckR0_2 s hs
  | 0, _, 3, _ => exact allN_at ckR0_3 s hs
  | 0, _, 4, _ => exact allN_at ckR0_4 s hs
  | 0, _, 5, _ => exact allN_at ckR0_5 s hs
  | 0, _, 6, _ => exact allN_at ckR0_6 s hs
  | 1, _, 1, _ => exact allN_at ckR1_1 s hs
  | 1, _, 2, _ => exact allN_at ckR1_2 s hs
  | 1, _, 3, _ => exact allN_at ckR1_3 s hs
  | 1, _, 4, _ => exact allN_at ckR1_4 s hs
  | 1, _, 5, _ => exact allN_at ckR1_5 s hs
  | 1, _, 6, _ => exact allN_at ckR1_6 s hs
  | 2, _, 1, _ => exact allN_at ckR2_1 s hs
  | 2, _, 2, _ => exact allN_at ckR2_2 s hs
  | 2, _, 3, _ => exact allN_at ckR2_3 s hs
  | 2, _, 4, _ => exact allN_at ckR2_4 s hs
  | 2, _, 5, _ => exact allN_at ckR2_5 s hs
  | 2, _, 6, _ => exact allN_at ckR2_6 s hs
  | _, _, 0, h => exact absurd h.1 (by decide)
  | _, _, n + 7, h => exact absurd h.2 (by omega)
  | kd + 3, h, _, _ => exact absurd h (by omega)
theorem ts_small {kd n s : Nat} (hk : kd < 3) (hn : 1 ≤ n ∧ n ≤ 6) (hs : s < 2 ^ (2 * n)) : TS kd s = 0 ↔ nz s n ≤ 1 := by
  have h := ckS_at hk hn hs
  unfold ckS at h
  by_cases e : nz s n ≤ 1
  · rw [Nat.ble_eq_true_of_le e, cond_true] at h
    exact ⟨fun _ => e, fun _ => beqT h⟩
  · rw [bleF e, cond_false] at h
    have h2 := bleT (cd h).1
    exact ⟨fun z => by omega, fun z => absurd z e⟩
theorem ts_le {kd n s : Nat} (hk : kd < 3) (hn : 1 ≤ n ∧ n ≤ 6) (hs : s < 2 ^ (2 * n)) : TS kd s ≤ 13 := by
  have h := ckS_at hk hn hs
  unfold ckS at h
  by_cases e : nz s n ≤ 1
  · rw [(ts_small hk hn hs).mpr e]; omega
  · rw [bleF e, cond_false] at h
    have h2 := beqT (cd h).2
    rw [mn_eq] at h2
    omega
/-- the step of the reference's table -/
theorem ts_step {kd n s lev : Nat} (hk : kd < 3) (hn : 1 ≤ n ∧ n ≤ 6) (hs : s < 2 ^ (2 * n)) (hl : lev ≤ 11) (h2 : 2 ≤ nz s n) : (∃ fr to, fr ≤ to ∧ to < n ∧ TS kd (sbR kd 1 fr to s n) ≤ lev ∧ TS kd (sbR kd 0 fr to s n) ≤ lev) ↔ TS kd s ≤ lev + 1 := by
  have h := ckS_at hk hn hs
  unfold ckS at h
  rw [bleF (by omega), cond_false] at h
  have h3 := beqT (cd h).2
  rw [mn_eq] at h3
  have hM := mOu_le kd s lev (payS (py kd) s n) n 0 13
  have e : (TS kd s ≤ lev + 1) ↔ mOu kd s (payS (py kd) s n) n 0 13 ≤ lev := by
    have h4 : TS kd s = min 13 (mOu kd s (payS (py kd) s n) n 0 13 + 1) := h3
    omega
  rw [e, hM]
  constructor
  · rintro ⟨fr, to, a1, a2, a3, a4⟩
    refine Or.inr ⟨fr, to - fr, by omega, ?_, ?_⟩
    · rw [Nat.zero_add, ← sb_yes hk (by omega), show fr + (to - fr) = to by omega]; exact a3
    · rw [Nat.zero_add, ← sb_no hk (by omega) hs, show fr + (to - fr) = to by omega]; exact a4
  · rintro (z | ⟨i, m, a1, a3, a4⟩)
    · omega
    · rw [Nat.zero_add, ← sb_yes hk (by omega)] at a3
      rw [Nat.zero_add, ← sb_no hk (by omega) hs] at a4
      exact ⟨i, i + m, by omega, by omega, a3, a4⟩
/-- the reference's entry: -1 where all are OUT -/
def SF (kd s : Nat) : Int := if s = 0 then -1 else (TS kd s : Int)
theorem SF_le {kd n s : Nat} (hk : kd < 3) (hn : 1 ≤ n ∧ n ≤ 6) (hs : s < 2 ^ (2 * n)) {lev : Nat} : SF kd s ≤ (lev : Int) ↔ TS kd s ≤ lev := by
  unfold SF
  by_cases h : s = 0
  · rw [if_pos h, (ts_small hk hn hs).mpr (by rw [(nz_0 hn.2 hs).mpr h]; omega)]
    omega
  · rw [if_neg h]; omega
theorem SF_rng {kd n s : Nat} (hk : kd < 3) (hn : 1 ≤ n ∧ n ≤ 6) (hs : s < 2 ^ (2 * n)) : -1 ≤ SF kd s ∧ SF kd s ≤ 13 := by
  have := ts_le hk hn hs
  unfold SF
  split <;> omega
/-- the table at level lev, up to pos -/
def VL (kd lev pos s : Nat) : Int := if SF kd s ≤ (lev : Int) ∨ (SF kd s = (lev : Int) + 1 ∧ s < pos) then SF kd s else 13
theorem VL_le {kd n s : Nat} (hk : kd < 3) (hn : 1 ≤ n ∧ n ≤ 6) (hs : s < 2 ^ (2 * n)) {lev pos : Nat} (hl : lev ≤ 11) : VL kd lev pos s ≤ (lev : Int) ↔ TS kd s ≤ lev := by
  rw [← SF_le hk hn hs]
  unfold VL
  split <;> omega
theorem VL_0 {kd n s : Nat} (hk : kd < 3) (hn : 1 ≤ n ∧ n ≤ 6) (hs : s < 2 ^ (2 * n)) : VL kd 0 0 s = if nz s n = 0 then -1 else if nz s n = 1 then 0 else 13 := by
  have h0 := nz_0 hn.2 hs
  have h1 := ts_small hk hn hs
  unfold VL SF
  by_cases e : s = 0
  · rw [if_pos e, if_pos (h0.mpr e), if_pos (by omega)]
  · rw [if_neg e, if_neg (fun z => e (h0.mp z))]
    by_cases e1 : nz s n = 1
    · have := h1.mpr (by omega)
      rw [if_pos e1, if_pos (by omega)]
      omega
    · have : ¬ nz s n = 0 := fun z => e (h0.mp z)
      have : ¬ TS kd s = 0 := fun z => by have := h1.mp z; omega
      rw [if_neg e1, if_neg (by omega)]
theorem VL_next (kd lev N s : Nat) (hs : s < N) : VL kd lev N s = VL kd (lev + 1) 0 s := by
  unfold VL
  by_cases h : SF kd s ≤ (lev : Int) + 1
  · rw [if_pos (by omega), if_pos (by omega)]
  · rw [if_neg (by omega), if_neg (by omega)]
theorem VL_end {kd n s : Nat} (hk : kd < 3) (hn : 1 ≤ n ∧ n ≤ 6) (hs : s < 2 ^ (2 * n)) : VL kd 12 0 s = SF kd s := by
  have := SF_rng hk hn hs
  unfold VL
  split <;> omega
/-- what stands at pos, and how it is set -/
theorem VL_13 {kd n s : Nat} (hk : kd < 3) (hn : 1 ≤ n ∧ n ≤ 6) (hs : s < 2 ^ (2 * n)) {lev : Nat} (hl : lev ≤ 11) : (VL kd lev s s = 13 → 2 ≤ nz s n) ∧ (VL kd lev s s = 13 → (TS kd s ≤ lev + 1 → VL kd lev (s + 1) s = (lev : Int) + 1) ∧ (¬ TS kd s ≤ lev + 1 → VL kd lev (s + 1) s = 13)) ∧ (¬ VL kd lev s s = 13 → VL kd lev (s + 1) s = VL kd lev s s) := by
  have h0 := nz_0 hn.2 hs
  have h1 := ts_small hk hn hs
  have h2 : ∀ m : Nat, SF kd s ≤ (m : Int) ↔ TS kd s ≤ m := fun m => SF_le hk hn hs
  have a := h2 lev
  have b := h2 (lev + 1)
  have c := h2 0
  refine ⟨fun h => ?_, fun h => ?_, fun h => ?_⟩
  · unfold VL at h
    rcases Nat.lt_or_ge (nz s n) 2 with e | e
    · have := h1.mpr (by omega)
      rw [if_pos (by omega)] at h
      omega
    · exact e
  · unfold VL at h ⊢
    have hn1 : ¬ SF kd s ≤ (lev : Int) := by
      intro z
      rw [if_pos (Or.inl z)] at h
      omega
    refine ⟨fun z => ?_, fun z => ?_⟩
    · rw [if_pos (by omega)]; omega
    · rw [if_neg (by omega)]
  · unfold VL at h ⊢
    have hy : SF kd s ≤ (lev : Int) := by
      rcases (show SF kd s ≤ (lev : Int) ∨ ¬ SF kd s ≤ (lev : Int) by omega) with e | e
      · exact e
      · rw [if_neg (by omega)] at h
        exact absurd rfl h
    rw [if_pos (Or.inl hy), if_pos (Or.inl hy)]
theorem VL_ne {kd lev pos s : Nat} (h : s ≠ pos) : VL kd lev (pos + 1) s = VL kd lev pos s := by
  unfold VL
  by_cases h1 : SF kd s ≤ (lev : Int) ∨ (SF kd s = (lev : Int) + 1 ∧ s < pos)
  · rw [if_pos h1, if_pos (by omega)]
  · rw [if_neg h1, if_neg (by omega)]
theorem and3Z (s i : Nat) : iZ ((s / 2 ^ (2 * i) : Nat) : Int) &&& iZ 3 = iZ ((dgt s i : Nat) : Int) := by
  have h := andZ (s / 2 ^ (2 * i)) 3
  rw [show (3 : Nat) = 2 ^ 2 - 1 by decide, Nat.and_two_pow_sub_one_eq_mod] at h
  rw [dgt_eq]
  exact h
