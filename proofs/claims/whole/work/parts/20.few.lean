/-! FEWEST as mathematics. A STATE: how many NUMBERS have LEFT of 0, 1, 2, 3 or more -/
abbrev Q4 : Type := Nat × Nat × Nat × Nat
def qat (h : Q4) (i : Nat) : Nat := match i with
  | 0 => h.1
  | 1 => h.2.1
  | 2 => h.2.2.1
  | 3 => h.2.2.2
  | _ => 0
def Dec (h : Q4) : Prop := h.2.1 ≤ h.1 ∧ h.2.2.1 ≤ h.2.1 ∧ h.2.2.2 ≤ h.2.2.1
def leQ (g h : Q4) : Prop := g.1 ≤ h.1 ∧ g.2.1 ≤ h.2.1 ∧ g.2.2.1 ≤ h.2.2.1 ∧ g.2.2.2 ≤ h.2.2.2
/-- those of a keep LEFT, those of b pay c -/
def bhQ (c : Nat) (a b : Q4) : Q4 := (a.1 + qat b c, a.2.1 + qat b (1 + c), a.2.2.1 + qat b (2 + c), a.2.2.2 + qat b (3 + c))
def sumQ (t u : Q4) : Q4 := (t.1 + u.1, t.2.1 + u.2.1, t.2.2.1 + u.2.2.1, t.2.2.2 + u.2.2.2)
theorem qat_mono {g h : Q4} (hl : leQ g h) (i : Nat) : qat g i ≤ qat h i := by
  obtain ⟨h0, h1, h2, h3⟩ := hl
  match i with
  | 0 => exact h0
  | 1 => exact h1
  | 2 => exact h2
  | 3 => exact h3
  | _ + 4 => exact Nat.le_refl _
theorem qat_dec {h : Q4} (hd : Dec h) (i : Nat) : qat h (i + 1) ≤ qat h i := by
  obtain ⟨h1, h2, h3⟩ := hd
  match i with
  | 0 => exact h1
  | 1 => exact h2
  | 2 => exact h3
  | 3 => exact Nat.zero_le _
  | _ + 4 => exact Nat.le_refl _
theorem bhQ_mono {c : Nat} {a a' b b' : Q4} (ha : leQ a' a) (hb : leQ b' b) : leQ (bhQ c a' b') (bhQ c a b) :=
  ⟨Nat.add_le_add ha.1 (qat_mono hb _), Nat.add_le_add ha.2.1 (qat_mono hb _), Nat.add_le_add ha.2.2.1 (qat_mono hb _), Nat.add_le_add ha.2.2.2 (qat_mono hb _)⟩
theorem bhQ_dec {c : Nat} {a b : Q4} (ha : Dec a) (hb : Dec b) : Dec (bhQ c a b) := by
  obtain ⟨h1, h2, h3⟩ := ha
  have k0 := qat_dec hb c
  have k1 := qat_dec hb (1 + c)
  have k2 := qat_dec hb (2 + c)
  rw [show c + 1 = 1 + c by omega] at k0
  rw [show 1 + c + 1 = 2 + c by omega] at k1
  rw [show 2 + c + 1 = 3 + c by omega] at k2
  exact ⟨Nat.add_le_add h1 k0, Nat.add_le_add h2 k1, Nat.add_le_add h3 k2⟩
/-- q questions more surely leave one NUMBER at most; cy what a yes costs those that aren't in the heap, cn what a no costs those that are -/
def canQ (cy cn : Nat) : Nat → Q4 → Prop
  | 0, h => h.1 ≤ 1
  | q + 1, h => h.1 ≤ 1 ∨ ∃ t u : Q4, Dec t ∧ Dec u ∧ sumQ t u = h ∧ canQ cy cn q (bhQ cy t u) ∧ canQ cy cn q (bhQ cn u t)
def Good (f : Nat → Nat) : Prop := ∀ m m', m ≤ m' → f m ≤ f m' ∧ f m' ≤ f m + (m' - m)
theorem good_tr (a b : Nat) : Good (fun m => a - (b - m)) := fun m m' h => by constructor <;> simp only <;> omega
theorem good_max {f g : Nat → Nat} (hf : Good f) (hg : Good g) : Good (fun m => max (f m) (g m)) := fun m m' h => by
  have h1 := hf m m' h
  have h2 := hg m m' h
  simp only
  omega
def spT (t h : Q4) (m : Nat) : Nat := max (max (t.1 - (h.1 - m)) (t.2.1 - (h.2.1 - m))) (max (t.2.2.1 - (h.2.2.1 - m)) (t.2.2.2 - (h.2.2.2 - m)))
theorem spT_good (t h : Q4) : Good (spT t h) := good_max (good_max (good_tr _ _) (good_tr _ _)) (good_max (good_tr _ _) (good_tr _ _))
/-- a question that serves a STATE serves one below it too -/
theorem split_mono {g t u : Q4} (hg : Dec g) (ht : Dec t) (hu : Dec u) (hl : leQ g (sumQ t u)) : ∃ t' u' : Q4, Dec t' ∧ Dec u' ∧ sumQ t' u' = g ∧ leQ t' t ∧ leQ u' u := by
  obtain ⟨g0, g1, g2, g3⟩ := g
  obtain ⟨t0, t1, t2, t3⟩ := t
  obtain ⟨u0, u1, u2, u3⟩ := u
  simp only [Dec, leQ, sumQ] at hg ht hu hl
  generalize hT : spT (t0, t1, t2, t3) (t0 + u0, t1 + u1, t2 + u2, t3 + u3) = T
  have hG : Good T := hT ▸ spT_good _ _
  have e0 : T (t0 + u0) = t0 := by rw [← hT]; simp only [spT]; omega
  have e1 : T (t1 + u1) = t1 := by rw [← hT]; simp only [spT]; omega
  have e2 : T (t2 + u2) = t2 := by rw [← hT]; simp only [spT]; omega
  have e3 : T (t3 + u3) = t3 := by rw [← hT]; simp only [spT]; omega
  have z : T 0 = 0 := by rw [← hT]; simp only [spT]; omega
  have a0 := hG g0 (t0 + u0) hl.1
  have a1 := hG g1 (t1 + u1) hl.2.1
  have a2 := hG g2 (t2 + u2) hl.2.2.1
  have a3 := hG g3 (t3 + u3) hl.2.2.2
  have b0 := hG g1 g0 hg.1
  have b1 := hG g2 g1 hg.2.1
  have b2 := hG g3 g2 hg.2.2
  have c0 := hG 0 g0 (Nat.zero_le _)
  have c1 := hG 0 g1 (Nat.zero_le _)
  have c2 := hG 0 g2 (Nat.zero_le _)
  have c3 := hG 0 g3 (Nat.zero_le _)
  rw [e0] at a0; rw [e1] at a1; rw [e2] at a2; rw [e3] at a3
  rw [z] at c0 c1 c2 c3
  refine ⟨(T g0, T g1, T g2, T g3), (g0 - T g0, g1 - T g1, g2 - T g2, g3 - T g3), ?_, ?_, ?_, ?_, ?_⟩
  · simp only [Dec]; omega
  · simp only [Dec]; omega
  · simp only [sumQ, Prod.mk.injEq]; omega
  · simp only [leQ]; omega
  · simp only [leQ]; omega
theorem can_mono {cy cn : Nat} : ∀ {q : Nat} {g h : Q4}, Dec g → leQ g h → canQ cy cn q h → canQ cy cn q g
  | 0, g, h, _, hl, hc => Nat.le_trans hl.1 hc
  | q + 1, g, h, hg, hl, hc => by
    rcases hc with hc | ⟨t, u, ht, hu, rfl, hy, hn⟩
    · exact Or.inl (Nat.le_trans hl.1 hc)
    · obtain ⟨t', u', ht', hu', hs, lt, lu⟩ := split_mono hg ht hu hl
      exact Or.inr ⟨t', u', ht', hu', hs, can_mono (bhQ_dec ht' hu') (bhQ_mono lt lu) hy, can_mono (bhQ_dec hu' ht') (bhQ_mono lu lt) hn⟩
theorem can_succ {cy cn : Nat} : ∀ {q : Nat} {h : Q4}, canQ cy cn q h → canQ cy cn (q + 1) h
  | 0, _, hc => Or.inl hc
  | q + 1, _, hc => by
    rcases hc with hc | ⟨t, u, ht, hu, hs, hy, hn⟩
    · exact Or.inl hc
    · exact Or.inr ⟨t, u, ht, hu, hs, can_succ hy, can_succ hn⟩
theorem can_le {cy cn : Nat} {q q' : Nat} {h : Q4} (hq : q ≤ q') (hc : canQ cy cn q h) : canQ cy cn q' h := by
  induction hq with
  | refl => exact hc
  | step _ ih => exact can_succ ih
/-- FEWEST: v, 13 where it is above 12 -/
def IsFew (cy cn : Nat) (h : Q4) (v : Nat) : Prop := v ≤ 13 ∧ ∀ q, q ≤ 12 → (canQ cy cn q h ↔ v ≤ q)
theorem few_uniq {cy cn : Nat} {h : Q4} {v w : Nat} (hv : IsFew cy cn h v) (hw : IsFew cy cn h w) : v = w := by
  rcases Nat.lt_trichotomy v w with e | e | e
  · have h1 := (hw.2 v (by have := hw.1; omega)).mp ((hv.2 v (by have := hw.1; omega)).mpr (Nat.le_refl _)); omega
  · exact e
  · have h1 := (hv.2 w (by have := hv.1; omega)).mp ((hw.2 w (by have := hv.1; omega)).mpr (Nat.le_refl _)); omega
theorem few_mono {cy cn : Nat} {g h : Q4} {v w : Nat} (hg : Dec g) (hl : leQ g h) (hv : IsFew cy cn g v) (hw : IsFew cy cn h w) : v ≤ w := by
  rcases Nat.lt_or_ge w 13 with e | e
  · exact (hv.2 w (by omega)).mp (can_mono hg hl ((hw.2 w (by omega)).mpr (Nat.le_refl _)))
  · have := hv.1; omega
theorem few_ex (cy cn : Nat) (h : Q4) : ∃ v, IsFew cy cn h v := by
  have key : ∀ m, m ≤ 13 → (∀ q, q < 13 - m → ¬ canQ cy cn q h) → ∃ v, IsFew cy cn h v := by
    intro m
    induction m with
    | zero => intro _ hn; exact ⟨13, Nat.le_refl _, fun q hq => ⟨fun hc => absurd hc (hn q (by omega)), fun hc => by omega⟩⟩
    | succ m ih =>
      intro hm hn
      by_cases hc : canQ cy cn (13 - (m + 1)) h
      · refine ⟨13 - (m + 1), by omega, fun q hq => ⟨fun hz => ?_, fun hz => can_le hz hc⟩⟩
        rcases Nat.lt_or_ge q (13 - (m + 1)) with e | e
        · exact absurd hz (hn q e)
        · exact e
      · refine ih (by omega) (fun q hq => ?_)
        rcases Nat.lt_or_ge q (13 - (m + 1)) with e | e
        · exact hn q e
        · rw [show q = 13 - (m + 1) by omega]; exact hc
  exact key 13 (by omega) (fun q hq => absurd hq (by omega))
theorem few_small {cy cn : Nat} {h : Q4} (h0 : h.1 ≤ 1) : IsFew cy cn h 0 := ⟨by omega, fun q _ => ⟨fun _ => Nat.zero_le _, fun _ => can_le (Nat.zero_le q) (show canQ cy cn 0 h from h0)⟩⟩
/-- the step: with no fewer than q + 1 questions, q + 1 do exactly where a heap leaves STATES that q do -/
theorem can_step {cy cn q : Nat} {h : Q4} (h0 : 2 ≤ h.1) : canQ cy cn (q + 1) h ↔ ∃ t u : Q4, Dec t ∧ Dec u ∧ sumQ t u = h ∧ canQ cy cn q (bhQ cy t u) ∧ canQ cy cn q (bhQ cn u t) :=
  ⟨fun hc => hc.resolve_left (by omega), fun hc => Or.inr hc⟩
/-- PLACE of a STATE in the table -/
def PL (l h : Nat) : Nat := (plF (l * 17 + h)).toNat
def plQ (h : Q4) : Nat := h.1 + PL 1 h.2.1 + PL 2 h.2.2.1 + PL 3 h.2.2.2
theorem PL_mono : ∀ l, l < 4 → ∀ a, a < 16 → PL l a < PL l (a + 1) := by decide +kernel
theorem PL_0 : ∀ a, a < 17 → PL 0 a = a := by decide +kernel
theorem PL_plF : ∀ l, l < 4 → ∀ a, a < 17 → plF (l * 17 + a) = (PL l a : Int) := by decide +kernel
theorem PL_top : PL 1 16 = 136 ∧ PL 2 16 = 816 ∧ PL 3 16 = 3876 := by decide +kernel
theorem PL_gap3 : ∀ a, a < 16 → PL 3 a + 968 < PL 3 (a + 1) + PL 2 (a + 1) + PL 1 (a + 1) + (a + 1) := by decide +kernel
theorem PL_gap2 : ∀ a, a < 16 → PL 2 a + 152 < PL 2 (a + 1) + PL 1 (a + 1) + (a + 1) := by decide +kernel
theorem PL_gap1 : ∀ a, a < 16 → PL 1 a + 16 < PL 1 (a + 1) + (a + 1) := by decide +kernel
theorem PL_le {l a b : Nat} (hl : l < 4) (h : a ≤ b) (hb : b ≤ 16) : PL l a ≤ PL l b := by
  induction h with
  | refl => exact Nat.le_refl _
  | @step m _ ih => exact Nat.le_trans (ih (by omega)) (Nat.le_of_lt (PL_mono l hl m (by omega)))
theorem plQ_lt {h : Q4} (hd : Dec h) (h0 : h.1 ≤ 16) : plQ h < 4845 := by
  obtain ⟨d1, d2, d3⟩ := hd
  have e := PL_top
  have a1 := PL_le (l := 1) (by decide) (show h.2.1 ≤ 16 by omega) (Nat.le_refl _)
  have a2 := PL_le (l := 2) (by decide) (show h.2.2.1 ≤ 16 by omega) (Nat.le_refl _)
  have a3 := PL_le (l := 3) (by decide) (show h.2.2.2 ≤ 16 by omega) (Nat.le_refl _)
  unfold plQ
  omega
theorem plQ_lt3 {g h : Q4} (hg : Dec g) (hh : Dec h) (g0 : g.1 ≤ 16) (h0 : h.1 ≤ 16) (hl : g.2.2.2 < h.2.2.2) : plQ g < plQ h := by
  obtain ⟨d1, d2, d3⟩ := hg
  obtain ⟨f1, f2, f3⟩ := hh
  have e := PL_top
  have a1 := PL_le (l := 1) (by decide) (show g.2.1 ≤ 16 by omega) (Nat.le_refl _)
  have a2 := PL_le (l := 2) (by decide) (show g.2.2.1 ≤ 16 by omega) (Nat.le_refl _)
  have b1 := PL_le (l := 1) (by decide) (show g.2.2.2 + 1 ≤ h.2.1 by omega) (by omega)
  have b2 := PL_le (l := 2) (by decide) (show g.2.2.2 + 1 ≤ h.2.2.1 by omega) (by omega)
  have b3 := PL_le (l := 3) (by decide) (show g.2.2.2 + 1 ≤ h.2.2.2 by omega) (by omega)
  have c := PL_gap3 g.2.2.2 (by omega)
  unfold plQ
  omega
theorem plQ_lt2 {g h : Q4} (hg : Dec g) (hh : Dec h) (g0 : g.1 ≤ 16) (h0 : h.1 ≤ 16) (e3 : g.2.2.2 = h.2.2.2) (hl : g.2.2.1 < h.2.2.1) : plQ g < plQ h := by
  obtain ⟨d1, d2, d3⟩ := hg
  obtain ⟨f1, f2, f3⟩ := hh
  have e := PL_top
  have a1 := PL_le (l := 1) (by decide) (show g.2.1 ≤ 16 by omega) (Nat.le_refl _)
  have b1 := PL_le (l := 1) (by decide) (show g.2.2.1 + 1 ≤ h.2.1 by omega) (by omega)
  have b2 := PL_le (l := 2) (by decide) (show g.2.2.1 + 1 ≤ h.2.2.1 by omega) (by omega)
  have c := PL_gap2 g.2.2.1 (by omega)
  unfold plQ
  rw [e3]
  omega
theorem plQ_lt1 {g h : Q4} (hg : Dec g) (hh : Dec h) (g0 : g.1 ≤ 16) (h0 : h.1 ≤ 16) (e3 : g.2.2.2 = h.2.2.2) (e2 : g.2.2.1 = h.2.2.1) (hl : g.2.1 < h.2.1) : plQ g < plQ h := by
  obtain ⟨d1, d2, d3⟩ := hg
  obtain ⟨f1, f2, f3⟩ := hh
  have b1 := PL_le (l := 1) (by decide) (show g.2.1 + 1 ≤ h.2.1 by omega) (by omega)
  have c := PL_gap1 g.2.1 (by omega)
  unfold plQ
  rw [e3, e2]
  omega
theorem plQ_inj {g h : Q4} (hg : Dec g) (hh : Dec h) (g0 : g.1 ≤ 16) (h0 : h.1 ≤ 16) (e : plQ g = plQ h) : g = h := by
  have e3 : g.2.2.2 = h.2.2.2 := by
    rcases Nat.lt_trichotomy g.2.2.2 h.2.2.2 with q | q | q
    · have := plQ_lt3 hg hh g0 h0 q; omega
    · exact q
    · have := plQ_lt3 hh hg h0 g0 q; omega
  have e2 : g.2.2.1 = h.2.2.1 := by
    rcases Nat.lt_trichotomy g.2.2.1 h.2.2.1 with q | q | q
    · have := plQ_lt2 hg hh g0 h0 e3 q; omega
    · exact q
    · have := plQ_lt2 hh hg h0 g0 e3.symm q; omega
  have e1 : g.2.1 = h.2.1 := by
    rcases Nat.lt_trichotomy g.2.1 h.2.1 with q | q | q
    · have := plQ_lt1 hg hh g0 h0 e3 e2 q; omega
    · exact q
    · have := plQ_lt1 hh hg h0 g0 e3.symm e2.symm q; omega
  have e0 : g.1 = h.1 := by
    unfold plQ at e
    rw [e3, e2, e1] at e
    omega
  exact Prod.ext e0 (Prod.ext e1 (Prod.ext e2 e3))
