/-! THE BEST heap as mathematics: heaps by their bits, their counts by LEFT, the lowest NUMBERS -/
def Hc (l : Nat → Int) (m n : Nat) : Nat := cnt (fun i => decide ((m : Int) ≤ l i)) n
def Tc (l : Nat → Int) (b m n : Nat) : Nat := cnt (fun i => decide (bt b i = 1 ∧ (m : Int) ≤ l i)) n
def tB (l : Nat → Int) (b n : Nat) : Q4 := (Tc l b 0 n, Tc l b 1 n, Tc l b 2 n, Tc l b 3 n)
def ind (x : Bool) : Nat := if x = true then 1 else 0
theorem ind_t {x : Bool} (h : x = true) : ind x = 1 := if_pos h
theorem ind_f {x : Bool} (h : ¬ x = true) : ind x = 0 := if_neg h
theorem cnt_ind (p : Nat → Bool) (n : Nat) : cnt p (n + 1) = cnt p n + ind (p n) := rfl
theorem cnt_add4 {p q r s : Nat → Bool} (h : ∀ i, ind (p i) + ind (q i) = ind (r i) + ind (s i)) : ∀ n, cnt p n + cnt q n = cnt r n + cnt s n
  | 0 => rfl
  | n + 1 => by
    have ih := cnt_add4 h n
    have hn := h n
    rw [cnt_ind, cnt_ind, cnt_ind, cnt_ind]
    omega
theorem ind_dec {p : Prop} [Decidable p] (h : p) : ind (decide p) = 1 := ind_t (decide_eq_true h)
theorem ind_ndec {p : Prop} [Decidable p] (h : ¬ p) : ind (decide p) = 0 := ind_f (by rw [decide_eq_false h]; decide)
theorem Q4_ext {a b : Q4} (h : ∀ j, j < 4 → qat a j = qat b j) : a = b :=
  Prod.ext (h 0 (by decide)) (Prod.ext (h 1 (by decide)) (Prod.ext (h 2 (by decide)) (h 3 (by decide))))
theorem Hc_big {l : Nat → Int} (hl : ∀ j, -1 ≤ l j ∧ l j ≤ 3) {m : Nat} (h : 3 < m) (n : Nat) : Hc l m n = 0 := cnt_none (fun i => decide_eq_false (by have := hl i; omega)) n
theorem Tc_big {l : Nat → Int} (hl : ∀ j, -1 ≤ l j ∧ l j ≤ 3) {b m : Nat} (h : 3 < m) (n : Nat) : Tc l b m n = 0 := cnt_none (fun i => decide_eq_false (by have := hl i; omega)) n
theorem qat_hQ {l : Nat → Int} (hl : ∀ j, -1 ≤ l j ∧ l j ≤ 3) (n : Nat) (m : Nat) : qat (hQ l 0 n) m = Hc l m n := by
  have g : ∀ z : Int, cnt (fun i => decide (z ≤ l (0 + i))) n = cnt (fun i => decide (z ≤ l i)) n := fun z => cnt_congr (fun i _ => by rw [Nat.zero_add])
  match m with
  | 0 => exact g 0
  | 1 => exact g 1
  | 2 => exact g 2
  | 3 => exact g 3
  | m + 4 => rw [Hc_big hl (by omega)]; exact qat_hi (by omega)
theorem qat_tB {l : Nat → Int} (hl : ∀ j, -1 ≤ l j ∧ l j ≤ 3) (b n : Nat) (m : Nat) : qat (tB l b n) m = Tc l b m n := by
  match m with
  | 0 => rfl
  | 1 => rfl
  | 2 => rfl
  | 3 => rfl
  | m + 4 => rw [Tc_big hl (by omega)]; exact qat_hi (by omega)
theorem Tc_le (l : Nat → Int) (b m n : Nat) : Tc l b m n ≤ Hc l m n := cnt_imp (fun i h => by simp only [decide_eq_true_eq] at h ⊢; exact h.2) n
def Uc (l : Nat → Int) (b m n : Nat) : Nat := cnt (fun i => decide (bt b i ≠ 1 ∧ (m : Int) ≤ l i)) n
theorem Hc_split (l : Nat → Int) (b m n : Nat) : Hc l m n = Tc l b m n + Uc l b m n := by
  have h := cnt_add4 (p := fun i => decide ((m : Int) ≤ l i)) (q := fun _ => false) (r := fun i => decide (bt b i = 1 ∧ (m : Int) ≤ l i)) (s := fun i => decide (bt b i ≠ 1 ∧ (m : Int) ≤ l i)) (fun i => by
    by_cases h1 : (m : Int) ≤ l i
    · by_cases h2 : bt b i = 1
      · rw [ind_dec h1, ind_dec ⟨h2, h1⟩, ind_ndec (fun z => z.1 h2)]; rfl
      · rw [ind_dec h1, ind_ndec (fun z => h2 z.1), ind_dec ⟨h2, h1⟩]; rfl
    · rw [ind_ndec h1, ind_ndec (fun z => h1 z.2), ind_ndec (fun z => h1 z.2)]; rfl) n
  rw [cnt_none (fun _ => rfl) n] at h
  exact h
theorem tB_spl {l : Nat → Int} (hl : ∀ j, -1 ≤ l j ∧ l j ≤ 3) (b n : Nat) : Spl (hQ l 0 n) (tB l b n) := by
  have a0 : Tc l b 1 n ≤ Tc l b 0 n := cnt_imp (fun i h => by simp only [decide_eq_true_eq] at h ⊢; exact ⟨h.1, by omega⟩) n
  have a1 : Tc l b 2 n ≤ Tc l b 1 n := cnt_imp (fun i h => by simp only [decide_eq_true_eq] at h ⊢; exact ⟨h.1, by omega⟩) n
  have a2 : Tc l b 3 n ≤ Tc l b 2 n := cnt_imp (fun i h => by simp only [decide_eq_true_eq] at h ⊢; exact ⟨h.1, by omega⟩) n
  have u0 : Uc l b 1 n ≤ Uc l b 0 n := cnt_imp (fun i h => by simp only [decide_eq_true_eq] at h ⊢; exact ⟨h.1, by omega⟩) n
  have u1 : Uc l b 2 n ≤ Uc l b 1 n := cnt_imp (fun i h => by simp only [decide_eq_true_eq] at h ⊢; exact ⟨h.1, by omega⟩) n
  have u2 : Uc l b 3 n ≤ Uc l b 2 n := cnt_imp (fun i h => by simp only [decide_eq_true_eq] at h ⊢; exact ⟨h.1, by omega⟩) n
  have s0 := Hc_split l b 0 n
  have s1 := Hc_split l b 1 n
  have s2 := Hc_split l b 2 n
  have s3 := Hc_split l b 3 n
  have e0 : (hQ l 0 n).1 = Hc l 0 n := qat_hQ hl n 0
  have e1 : (hQ l 0 n).2.1 = Hc l 1 n := qat_hQ hl n 1
  have e2 : (hQ l 0 n).2.2.1 = Hc l 2 n := qat_hQ hl n 2
  have e3 : (hQ l 0 n).2.2.2 = Hc l 3 n := qat_hQ hl n 3
  refine ⟨⟨a0, a1, a2⟩, ?_, ?_⟩
  · simp only [Dec, subQ, tB, e0, e1, e2, e3]; omega
  · simp only [leQ, tB, e0, e1, e2, e3]; omega
/-- what a yes leaves, what a no leaves -/
theorem hQ_yes {l : Nat → Int} (hl : ∀ j, -1 ≤ l j ∧ l j ≤ 3) {kd : Nat} (hk : kd < 3) (b n : Nat) : hQ (nv l kd b 1) 0 n = yS (cyK kd) (hQ l 0 n) (tB l b n) := by
  refine Q4_ext (fun j hj => ?_)
  rw [yS_at hj, qat_hQ (fun i => nv_rng hl kd b 1 i), qat_hQ hl, qat_tB hl, qat_tB hl]
  have hle := Tc_le l b (j + cyK kd) n
  have h := cnt_add4 (p := fun i => decide ((j : Int) ≤ nv l kd b 1 i)) (q := fun i => decide (bt b i = 1 ∧ ((j + cyK kd : Nat) : Int) ≤ l i)) (r := fun i => decide (bt b i = 1 ∧ (j : Int) ≤ l i)) (s := fun i => decide (((j + cyK kd : Nat) : Int) ≤ l i)) (fun i => by
    have h1 := hl i
    have h2 := bt_lt b i
    by_cases hb : bt b i = 1
    · have e : nv l kd b 1 i = l i := by unfold nv costK; rw [hb, if_pos rfl]; omega
      rw [e]
      simp only [hb, true_and]
    · have hb0 : bt b i = 0 := by omega
      have e : ((j : Int) ≤ nv l kd b 1 i) ↔ (((j + cyK kd : Nat) : Int) ≤ l i) := by
        unfold nv costK cyK
        rw [hb0, if_neg (by decide : ¬ (1 : Nat) = 0)]
        by_cases h0 : kd = 0
        · rw [if_pos h0, if_pos h0]; omega
        · rw [if_neg h0, if_neg h0, if_neg (by omega)]; omega
      rw [ind_ndec (fun z : bt b i = 1 ∧ ((j + cyK kd : Nat) : Int) ≤ l i => hb z.1), ind_ndec (fun z : bt b i = 1 ∧ (j : Int) ≤ l i => hb z.1), decide_eq_decide.mpr e]
      omega) n
  have h' : Hc (nv l kd b 1) j n + Tc l b (j + cyK kd) n = Tc l b j n + Hc l (j + cyK kd) n := h
  omega
theorem hQ_no {l : Nat → Int} (hl : ∀ j, -1 ≤ l j ∧ l j ≤ 3) {kd : Nat} (hk : kd < 3) (b n : Nat) : hQ (nv l kd b 0) 0 n = nS (cnK kd) (hQ l 0 n) (tB l b n) := by
  refine Q4_ext (fun j hj => ?_)
  rw [nS_at hj, qat_hQ (fun i => nv_rng hl kd b 0 i), qat_hQ hl, qat_tB hl, qat_tB hl]
  have hle := Tc_le l b j n
  have h := cnt_add4 (p := fun i => decide ((j : Int) ≤ nv l kd b 0 i)) (q := fun i => decide (bt b i = 1 ∧ (j : Int) ≤ l i)) (r := fun i => decide ((j : Int) ≤ l i)) (s := fun i => decide (bt b i = 1 ∧ ((j + cnK kd : Nat) : Int) ≤ l i)) (fun i => by
    have h1 := hl i
    have h2 := bt_lt b i
    by_cases hb : bt b i = 1
    · have e : ((j : Int) ≤ nv l kd b 0 i) ↔ (((j + cnK kd : Nat) : Int) ≤ l i) := by
        unfold nv costK cnK
        rw [hb, if_neg (by decide : ¬ (0 : Nat) = 1)]
        by_cases h0 : kd = 1
        · rw [if_neg (by omega), if_neg (by omega), if_pos h0]; omega
        · by_cases h00 : kd = 0
          · rw [if_pos h00, if_neg h0]; omega
          · rw [if_neg h00, if_pos ⟨by omega, rfl⟩, if_neg h0]; omega
      rw [decide_eq_decide.mpr e]
      simp only [hb, true_and]
      omega
    · have hb0 : bt b i = 0 := by omega
      have e : nv l kd b 0 i = l i := by unfold nv costK; rw [hb0, if_pos rfl]; omega
      rw [e, ind_ndec (fun z : bt b i = 1 ∧ (j : Int) ≤ l i => hb z.1), ind_ndec (fun z : bt b i = 1 ∧ ((j + cnK kd : Nat) : Int) ≤ l i => hb z.1)]) n
  have h' : Hc (nv l kd b 0) j n + Tc l b j n = Hc l j n + Tc l b (j + cnK kd) n := h
  omega
theorem T3_iff {F : Nat → Int} {g : Int} {cy cn : Nat} {h t : Q4} (hd : Dec h) : T3 F g cy cn h t ↔ Spl h t ∧ OKt F g cy cn h t := by
  obtain ⟨h0, h1, h2, h3⟩ := h
  simp only [Dec] at hd
  constructor
  · rintro ⟨x3, a3, x2, a2, x1, a1, x0, a0, rfl, hok⟩
    simp only at a0 a1 a2 a3
    refine ⟨⟨?_, ?_, ?_⟩, hok⟩
    · simp only [Dec]; omega
    · simp only [Dec, subQ]; omega
    · simp only [leQ]; omega
  · obtain ⟨t0, t1, t2, t3⟩ := t
    rintro ⟨⟨s1, s2, s3⟩, hok⟩
    simp only [Dec] at s1
    simp only [Dec, subQ] at s2
    simp only [leQ] at s3
    refine ⟨t3, by simp only; omega, t2 - t3, by simp only; omega, t1 - t2, by simp only; omega, t0 - t1, by simp only; omega, ?_, hok⟩
    rw [show 0 + t3 = t3 by omega, show t3 + (t2 - t3) = t2 by omega, show t2 + (t1 - t2) = t1 by omega, show t1 + (t0 - t1) = t0 by omega]
/-- the greater FEWEST behind a heap; -1 for an answer that can't come -/
noncomputable def gB (kd : Nat) (l : Nat → Int) (n b y : Nat) : Int := if (hQ (nv l kd b y) 0 n).1 = 0 then -1 else (fewN (cyK kd) (cnK kd) (hQ (nv l kd b y) 0 n) : Int)
noncomputable def grt (kd : Nat) (l : Nat → Int) (n b : Nat) : Int := max (gB kd l n b 1) (gB kd l n b 0)
theorem gB_rng (kd : Nat) (l : Nat → Int) (n b y : Nat) : -1 ≤ gB kd l n b y ∧ gB kd l n b y ≤ 13 := by
  have := fewN_le (cyK kd) (cnK kd) (hQ (nv l kd b y) 0 n)
  unfold gB
  split <;> omega
theorem grt_rng (kd : Nat) (l : Nat → Int) (n b : Nat) : -1 ≤ grt kd l n b ∧ grt kd l n b ≤ 13 := by
  have h1 := gB_rng kd l n b 1
  have h2 := gB_rng kd l n b 0
  unfold grt
  omega
theorem fewN_0 {cy cn : Nat} {h : Q4} (h0 : h.1 ≤ 1) : fewN cy cn h = 0 := (fewN_eq (few_small h0)).symm
theorem gB_le (kd : Nat) (l : Nat → Int) (n b y : Nat) {z : Int} (hz : 0 ≤ z) : gB kd l n b y ≤ z ↔ (fewN (cyK kd) (cnK kd) (hQ (nv l kd b y) 0 n) : Int) ≤ z := by
  unfold gB
  split
  · rename_i h
    rw [fewN_0 (by omega)]
    omega
  · exact Iff.rfl
def BO (g : Nat → Int) (N b : Nat) : Prop := b < N ∧ (∀ c, c < N → g b ≤ g c) ∧ ∀ c, c < b → g b < g c
theorem BO_uniq {g : Nat → Int} {N b c : Nat} (hb : BO g N b) (hc : BO g N c) : b = c := by
  rcases Nat.lt_trichotomy b c with e | e | e
  · have h1 := hc.2.2 b e; have h2 := hb.2.1 c hc.1; omega
  · exact e
  · have h1 := hb.2.2 c e; have h2 := hc.2.1 b hb.1; omega
