theorem LvI_end {R0 R : Nat → Int} {kd lev : Nat} {m : Q4} (h : LvI R0 R kd lev m (m.2.2.2 + 1) 0 0 0) {x : Q4} (hx : leQ (cumQ x) m) (ht : 1 ≤ tot x) (hc : lev = 13 ∨ canQ (cyK kd) (cnK kd) lev (cumQ x)) : R (83521 * kd + posQ x) ≠ 0 :=
  h.2.2.2.2 x hx ht (Or.inl (by have h9 : x.2.2.2 ≤ m.2.2.2 := hx.2.2.2; omega)) hc
/-- between the levels -/
def LvK (R0 R : Nat → Int) (kd lev : Nat) (m : Q4) : Prop := (∀ j, 0 ≤ R j ∧ R j ≤ 14) ∧ RowOk R ∧ Kn R kd m (lev - 1) ∧ (∀ j, R0 j ≠ 0 → R j = R0 j) ∧ (lev = 14 → ∀ x, leQ (cumQ x) m → 1 ≤ tot x → R (83521 * kd + posQ x) ≠ 0)
theorem LvK_in {R0 R : Nat → Int} {kd lev : Nat} {m : Q4} (h : LvK R0 R kd lev m) : LvI R R kd lev m 0 0 0 0 :=
  ⟨h.1, h.2.1, h.2.2.1, fun _ _ => rfl, fun x _ _ hb _ => by unfold BfE at hb; omega⟩
theorem LvK_next {R0 R R' : Nat → Int} {kd lev : Nat} {m : Q4} (hl : 1 ≤ lev) (h : LvK R0 R kd lev m) (h2 : LvI R R' kd lev m (m.2.2.2 + 1) 0 0 0) : LvK R0 R' kd (lev + 1) m := by
  refine ⟨h2.1, h2.2.1, fun x hx ht hc => LvI_end h2 hx ht (Or.inr hc), fun j hj => ?_, fun h9 x hx ht => LvI_end h2 hx ht (Or.inl (by omega))⟩
  have e := h.2.2.2.1 j hj
  rw [← e]
  exact h2.2.2.2.1 j (by rw [e]; exact hj)
theorem LvS_trans {k : Cx} {σ σ1 σ2 : St} {R R2 : Nat → Int} (h1 : LvS k σ σ1 R) (h2 : LvS k σ1 σ2 R2) : LvS k σ σ2 R2 :=
  ⟨h2.1, h2.2.1, h2.2.2.1, h2.2.2.2.1, h2.2.2.2.2.1.trans h1.2.2.2.2.1, fun a ha hb hc hd => (h2.2.2.2.2.2 a ha hb hc hd).trans (h1.2.2.2.2.2 a ha hb hc hd)⟩
theorem LvS_self {k : Cx} {σ σ1 : St} {R : Nat → Int} (h1 : LvS k σ σ1 R) : LvS k σ1 σ1 R := ⟨h1.1, h1.2.1, h1.2.2.1, h1.2.2.2.1, rfl, fun _ _ _ _ _ => rfl⟩
/-- FEWEST -/
noncomputable def fewN (cy cn : Nat) (h : Q4) : Nat := Classical.choose (few_ex cy cn h)
theorem fewN_ok (cy cn : Nat) (h : Q4) : IsFew cy cn h (fewN cy cn h) := Classical.choose_spec (few_ex cy cn h)
theorem fewN_eq {cy cn v : Nat} {h : Q4} (hv : IsFew cy cn h v) : v = fewN cy cn h := few_uniq hv (fewN_ok cy cn h)
theorem fewN_le (cy cn : Nat) (h : Q4) : fewN cy cn h ≤ 13 := (fewN_ok cy cn h).1
/-- how many have LEFT 0, 1, 2, 3 -/
def xQ (f : Nat → Int) (r n : Nat) : Q4 := (cnt (fun i => decide (f (r + i) = 0)) n, cnt (fun i => decide (f (r + i) = 1)) n, cnt (fun i => decide (f (r + i) = 2)) n, cnt (fun i => decide (f (r + i) = 3)) n)
theorem cum_xQ {f : Nat → Int} (hf : ∀ j, -1 ≤ f j ∧ f j ≤ 3) (r n : Nat) : cumQ (xQ f r n) = hQ f r n := by
  have h3 := cnt_lev (f := f) (r := r) 3 n
  have h2 := cnt_lev (f := f) (r := r) 2 n
  have h1 := cnt_lev (f := f) (r := r) 1 n
  have h0 := cnt_lev (f := f) (r := r) 0 n
  have h4 : cnt (fun i => decide (((3 + 1 : Nat) : Int) ≤ f (r + i))) n = 0 := cnt_none (fun i => by have := hf (r + i); exact decide_eq_false (by omega)) n
  rw [h4] at h3
  have g : ∀ (a b c d A B C D : Nat), A = a + b + c + d → B = b + c + d → C = c + d → D = d → cumQ (a, b, c, d) = (A, B, C, D) := by
    intro a b c d A B C D e0 e1 e2 e3
    subst e0; subst e1; subst e2; subst e3
    rfl
  unfold xQ hQ
  refine g _ _ _ _ _ _ _ _ ?_ ?_ ?_ ?_
  · refine Eq.trans h0 ?_; refine Eq.trans (congrArg (· + _) h1) ?_; refine Eq.trans (congrArg (· + _ + _) h2) ?_; refine Eq.trans (congrArg (· + _ + _ + _) h3) ?_
    show 0 + cnt (fun i => decide (f (r + i) = 3)) n + cnt (fun i => decide (f (r + i) = 2)) n + cnt (fun i => decide (f (r + i) = 1)) n + cnt (fun i => decide (f (r + i) = 0)) n = _
    omega
  · refine Eq.trans h1 ?_; refine Eq.trans (congrArg (· + _) h2) ?_; refine Eq.trans (congrArg (· + _ + _) h3) ?_
    show 0 + cnt (fun i => decide (f (r + i) = 3)) n + cnt (fun i => decide (f (r + i) = 2)) n + cnt (fun i => decide (f (r + i) = 1)) n = _
    omega
  · refine Eq.trans h2 ?_; refine Eq.trans (congrArg (· + _) h3) ?_
    show 0 + cnt (fun i => decide (f (r + i) = 3)) n + cnt (fun i => decide (f (r + i) = 2)) n = _
    omega
  · refine Eq.trans h3 ?_
    exact Nat.zero_add _
theorem pos_next (l : Nat → Int) (i : Nat) (hl : -1 ≤ l i ∧ l i ≤ 3) : (l i < 0 → posQ (xQ l 0 (i + 1)) = posQ (xQ l 0 i)) ∧ (l i = 0 → posQ (xQ l 0 (i + 1)) = posQ (xQ l 0 i) + 1) ∧ (l i = 1 → posQ (xQ l 0 (i + 1)) = posQ (xQ l 0 i) + 17) ∧ (l i = 2 → posQ (xQ l 0 (i + 1)) = posQ (xQ l 0 i) + 289) ∧ (l i = 3 → posQ (xQ l 0 (i + 1)) = posQ (xQ l 0 i) + 4913) := by
  unfold xQ posQ
  simp only [cnt_succ, Nat.zero_add, decide_eq_true_eq]
  refine ⟨fun h => ?_, fun h => ?_, fun h => ?_, fun h => ?_, fun h => ?_⟩
  · rw [if_neg (by omega : ¬ l i = 0), if_neg (by omega : ¬ l i = 1), if_neg (by omega : ¬ l i = 2), if_neg (by omega : ¬ l i = 3)]; omega
  · rw [if_pos h, if_neg (by omega : ¬ l i = 1), if_neg (by omega : ¬ l i = 2), if_neg (by omega : ¬ l i = 3)]; omega
  · rw [if_neg (by omega : ¬ l i = 0), if_pos h, if_neg (by omega : ¬ l i = 2), if_neg (by omega : ¬ l i = 3)]; omega
  · rw [if_neg (by omega : ¬ l i = 0), if_neg (by omega : ¬ l i = 1), if_pos h, if_neg (by omega : ¬ l i = 3)]; omega
  · rw [if_neg (by omega : ¬ l i = 0), if_neg (by omega : ¬ l i = 1), if_neg (by omega : ¬ l i = 2), if_pos h]; omega
def bump (f : Nat → Int) (v : Nat) : Nat → Int := fun j => if j < v then f j + 1 else f j
theorem bump_0 (f : Nat → Int) : bump f 0 = f := by funext j; exact if_neg (by omega)
theorem bump_at (f : Nat → Int) (v : Nat) : bump f v v = f v := if_neg (by omega)
theorem bump_succ (f : Nat → Int) (v : Nat) : uZ (bump f v) v (bump f v v + 1) = bump f (v + 1) := by
  funext j
  unfold uZ bump
  by_cases e : j = v
  · subst e; rw [if_pos rfl, if_neg (by omega), if_pos (by omega)]
  · rw [if_neg e]
    by_cases h : j < v
    · rw [if_pos h, if_pos (by omega)]
    · rw [if_neg h, if_neg (by omega)]
theorem hQ_bump {l mo : Nat → Int} {i : Nat} (hl : -1 ≤ l i ∧ l i ≤ 3) (hm : ∀ j, j < 4 → mo j = (qat (hQ l 0 i) j : Int)) : ∀ j, j < 4 → bump mo (l i + 1).toNat j = (qat (hQ l 0 (i + 1)) j : Int) := by
  have g : ∀ (z : Int), cnt (fun j => decide (z ≤ l (0 + j))) (i + 1) = cnt (fun j => decide (z ≤ l (0 + j))) i + (if z ≤ l i then 1 else 0) := by
    intro z
    rw [cnt_succ, Nat.zero_add]
    by_cases h : z ≤ l i <;> simp [h]
  intro j hj
  have h9 := hm j hj
  unfold bump
  rw [h9]
  have key : (qat (hQ l 0 (i + 1)) j : Int) = (qat (hQ l 0 i) j : Int) + (if (j : Int) ≤ l i then 1 else 0) := by
    match j, hj with
    | 0, _ => have := g 0; show ((cnt (fun j => decide (0 ≤ l (0 + j))) (i + 1) : Nat) : Int) = ((cnt (fun j => decide (0 ≤ l (0 + j))) i : Nat) : Int) + (if (0 : Int) ≤ l i then 1 else 0); rw [this]; split <;> omega
    | 1, _ => have := g 1; show ((cnt (fun j => decide (1 ≤ l (0 + j))) (i + 1) : Nat) : Int) = ((cnt (fun j => decide (1 ≤ l (0 + j))) i : Nat) : Int) + (if (1 : Int) ≤ l i then 1 else 0); rw [this]; split <;> omega
    | 2, _ => have := g 2; show ((cnt (fun j => decide (2 ≤ l (0 + j))) (i + 1) : Nat) : Int) = ((cnt (fun j => decide (2 ≤ l (0 + j))) i : Nat) : Int) + (if (2 : Int) ≤ l i then 1 else 0); rw [this]; split <;> omega
    | 3, _ => have := g 3; show ((cnt (fun j => decide (3 ≤ l (0 + j))) (i + 1) : Nat) : Int) = ((cnt (fun j => decide (3 ≤ l (0 + j))) i : Nat) : Int) + (if (3 : Int) ≤ l i then 1 else 0); rw [this]; split <;> omega
  rw [key]
  by_cases h : (j : Int) ≤ l i
  · rw [if_pos (by omega), if_pos h]
  · rw [if_neg (by omega), if_neg h]; omega
theorem hQ_0 (l : Nat → Int) (r j : Nat) : (qat (hQ l r 0) j : Int) = 0 := by
  match j with
  | 0 => rfl
  | 1 => rfl
  | 2 => rfl
  | 3 => rfl
  | _ + 4 => rfl
theorem hQ_le (f : Nat → Int) (r n : Nat) : (hQ f r n).1 ≤ n := cnt_le _ n
theorem row_up1 {R : Nat → Int} (hR : RowOk R) {kd p : Nat} {c : Q4} (ht : tot c = 1) (hp : p = 83521 * kd + posQ c) : RowOk (uZ R p 1) := by
  subst hp
  exact row_up hR (by omega) (v := 0) (few_small (by rw [tot_cum]; omega))
def K1 (R : Nat → Int) (kd : Nat) : Prop := ∀ c : Q4, tot c = 1 → R (83521 * kd + posQ c) ≠ 0
theorem tot1 {c : Q4} (h : tot c = 1) : c = (1, 0, 0, 0) ∨ c = (0, 1, 0, 0) ∨ c = (0, 0, 1, 0) ∨ c = (0, 0, 0, 1) := by
  obtain ⟨a, b, c, d⟩ := c
  simp only [tot] at h
  have : (a = 1 ∧ b = 0 ∧ c = 0 ∧ d = 0) ∨ (a = 0 ∧ b = 1 ∧ c = 0 ∧ d = 0) ∨ (a = 0 ∧ b = 0 ∧ c = 1 ∧ d = 0) ∨ (a = 0 ∧ b = 0 ∧ c = 0 ∧ d = 1) := by omega
  rcases this with ⟨e1, e2, e3, e4⟩ | ⟨e1, e2, e3, e4⟩ | ⟨e1, e2, e3, e4⟩ | ⟨e1, e2, e3, e4⟩ <;> subst e1 <;> subst e2 <;> subst e3 <;> subst e4 <;> simp
/-- the four STATES of one NUMBER get their entry -/
def R4 (R : Nat → Int) (kd : Nat) : Nat → Int := uZ (uZ (uZ (uZ R (83521 * kd + 1) 1) (83521 * kd + 17) 1) (83521 * kd + 289) 1) (83521 * kd + 4913) 1
theorem R4_ok {R : Nat → Int} (hR : RowOk R) (kd : Nat) : RowOk (R4 R kd) :=
  row_up1 (c := (0, 0, 0, 1)) (row_up1 (c := (0, 0, 1, 0)) (row_up1 (c := (0, 1, 0, 0)) (row_up1 (c := (1, 0, 0, 0)) hR rfl rfl) rfl rfl) rfl rfl) rfl rfl
theorem R4_rng {R : Nat → Int} (hR : ∀ j, 0 ≤ R j ∧ R j ≤ 14) (kd : Nat) : ∀ j, 0 ≤ R4 R kd j ∧ R4 R kd j ≤ 14 := by
  intro j
  have := hR j
  unfold R4 uZ
  split
  · omega
  · split
    · omega
    · split
      · omega
      · split
        · omega
        · omega
theorem R4_k (R : Nat → Int) (kd : Nat) : K1 (R4 R kd) kd := by
  intro c hc
  unfold R4 uZ
  rcases tot1 hc with e | e | e | e <;> subst e <;> simp [posQ]
theorem Kn_0 {R : Nat → Int} {kd : Nat} (h : K1 R kd) (m : Q4) : Kn R kd m 0 := by
  intro c hc ht h0
  have h9 : (cumQ c).1 ≤ 1 := h0
  rw [tot_cum] at h9
  exact h c (by omega)
/-- the reference's table of worths as it lies in the store -/
def RT (k : Cx) (σ : St) (R : Nat → Int) : Prop := σ.2 (cBase k + 18) = some (eB k 250563 R) ∧ (∃ hp : Nat → Int, σ.2 (cBase k + 20) = some (eI k 4 hp)) ∧ (∃ bd : Nat → Int, σ.2 (cBase k + 21) = some (eI k 4 bd)) ∧ (∃ ct : Nat → Int, σ.2 (cBase k + 22) = some (eI k 4 ct)) ∧ (∀ j, 0 ≤ R j ∧ R j ≤ 14) ∧ RowOk R
def FrM (k : Cx) (σ σ' : St) : Prop := σ'.1 = σ.1 ∧ ∀ a, a ≠ cBase k + 18 → (a < cBase k + 20 ∨ cBase k + 24 ≤ a) → σ'.2 a = σ.2 a
theorem FrM.refl {k : Cx} {σ : St} : FrM k σ σ := ⟨rfl, fun _ _ _ => rfl⟩
theorem FrM.trans {k : Cx} {σ σ1 σ2 : St} (h1 : FrM k σ σ1) (h2 : FrM k σ1 σ2) : FrM k σ σ2 := ⟨h2.1.trans h1.1, fun a ha hb => (h2.2 a ha hb).trans (h1.2 a ha hb)⟩
theorem FrM.at {k : Cx} {σ σ1 : St} {a : Nat} {x : Option va_E} (h : FrM k σ σ1) (h1 : a ≠ cBase k + 18) (h2 : a < cBase k + 20 ∨ cBase k + 24 ≤ a) (hx : σ.2 a = x) : σ1.2 a = x := (h.2 a h1 h2).trans hx
theorem FrM.lv {k : Cx} {σ σ1 : St} {R : Nat → Int} (h : LvS k σ σ1 R) : FrM k σ σ1 := ⟨h.2.2.2.2.1, fun a h1 h2 => h.2.2.2.2.2 a h1 (by omega) (by omega) (by omega)⟩
set_option maxRecDepth 100000 in
set_option maxHeartbeats 4000000 in
theorem c_levels {k : Cx} {L0 : Launch} {σ : St} {hg n e an wt tb q tr sk sm kk0 : Int} (hM : σ.2 (cBase k + 14) = some (oModel k hg kk0 n e an wt tb q tr sk sm)) {kd lev : Nat} (hk : kd < 3) (hlv : 1 ≤ lev ∧ lev ≤ 13) {m : Q4} (hm16 : m.1 ≤ 16) {R0 : Nat → Int} (hdm : Dec m) {mo : Nat → Int} (hMM : σ.2 (cBase k + 23) = some (eI k 4 mo)) (hmo : ∀ j, j < 4 → mo j = (qat m j : Int)) (hls : LvS k σ σ R0) (hinv : LvI R0 R0 kd lev m 0 0 0 0) : CtrU k L0 mX12_levels 4 0 0 [.ref (cBase k + 14), .int (iZ (kd : Int)), .int (iZ (lev : Int))] σ (fun σ' => ∃ R', LvS k σ σ' R' ∧ LvI R0 R' kd lev m (m.2.2.2 + 1) 0 0 0) := by
  refine Ctr.of (by decide +kernel) rfl (Nat.le_of_ble_eq_true rfl) ?_
  intro κ hl0 S
  subst hl0
  refine r_iconst S dX12_levels_0 ?_
  refine r_istore_n S dX12_levels_1 rfl (by decide) (lv' := [_, _, _, _, _, _, _, _, _]) rfl ?_
  refine V.mask [true, true, true, true, false, false, false, false, false] (lv' := [_, _, _, _, none, none, none, none, none]) rfl ?_
  refine l_lvD hM hk hlv hm16 hdm hMM hmo (fun σ2 R2 hls2 hinv2 => ?_) S (m.2.2.2 + 1) 0 (by omega) _ R0 hls hinv
  exact r_vret S dX12_levels_228 (by omega) (by omega) (⟨rfl, R2, hls2, hinv2⟩)

set_option maxRecDepth 100000 in
set_option maxHeartbeats 4000000 in
theorem l_wB {κ : Kx} {k : Cx} {σ : St} {Q : State → Prop} {hg e an wt tb q tr sk sm : Int} {kd n : Nat} (hM : σ.2 (cBase k + 14) = some (oModel k hg kd n e an wt tb q tr sk sm)) {al : Nat} {l : Nat → Int} (hA : σ.2 al = some (eI k 16 l)) (hal : al ≠ (cBase k + 18) ∧ (al < (cBase k + 20) ∨ (cBase k + 24) ≤ al)) (hl : ∀ j, -1 ≤ l j ∧ l j ≤ 3) (hn : n ≤ 16) (hk : kd < 3) {mo : Nat → Int} {at_ : Int} {i : Nat} (hi0 : i < n) (kk : V κ k 5 0 0 Q 158 [some (.ref (cBase k + 14)), some (.ref al), some (.int (iZ at_)), some (.int (iZ (i : Int))), none] [] (sUp σ (cBase k + 23) (eI k 4 (bump mo (l i + 1).toNat)))) (S : Ok κ k cX12_worthOf 5 RX12 (some .int) "worthOf" 5 0 0) : ∀ (m v : Nat), v + m = (l i + 1).toNat → V κ k 5 0 0 Q 133 [some (.ref (cBase k + 14)), some (.ref al), some (.int (iZ at_)), some (.int (iZ (i : Int))), some (.int (iZ (v : Int)))] [] (sUp σ (cBase k + 23) (eI k 4 (bump mo v))) := by
  intro m
  induction m with
  | zero =>
    intro v hi
    have hli := hl i
    refine r_iload S dX12_worthOf_133 rfl ?_
    refine r_aload_n S dX12_worthOf_135 rfl ?_
    refine r_iload_n S dX12_worthOf_136 rfl ?_
    refine r_ialdN S (i) dX12_worthOf_137 (by repeat (first | assumption | exact sUp_same | exact sNew_same | refine sUp_ne (by first | assumption | omega) ?_)) (by omega) (by omega) (by decide) ?_
    refine r_icmp_gt S dX12_worthOf_138 (tgt := 158) (by decide) ⟨by omega, by omega⟩ ⟨by omega, by omega⟩ (fun h_138 => ?_) (fun h_138 => ?_)
    · refine V.mask [true, true, true, true, false] (lv' := [_, _, _, _, none]) rfl ?_
      have e9 : v = (l i + 1).toNat := by omega
      subst e9
      exact kk
    · omega
  | succ m ih =>
    intro v hi
    have hli := hl i
    refine r_iload S dX12_worthOf_133 rfl ?_
    refine r_aload_n S dX12_worthOf_135 rfl ?_
    refine r_iload_n S dX12_worthOf_136 rfl ?_
    refine r_ialdN S (i) dX12_worthOf_137 (by repeat (first | assumption | exact sUp_same | exact sNew_same | refine sUp_ne (by first | assumption | omega) ?_)) (by omega) (by omega) (by decide) ?_
    refine r_icmp_gt S dX12_worthOf_138 (tgt := 158) (by decide) ⟨by omega, by omega⟩ ⟨by omega, by omega⟩ (fun h_138 => ?_) (fun h_138 => ?_)
    · omega
    · refine r_aload_n S dX12_worthOf_141 rfl ?_
      refine r_getf S g_RX12_43_11 dX12_worthOf_142 (by repeat (first | assumption | exact sUp_same | exact sNew_same | refine sUp_ne (by first | assumption | omega) ?_)) rfl ?_
      refine r_iload S dX12_worthOf_145 rfl ?_
      refine r_dup2 S dX12_worthOf_147 rfl rfl ?_
      refine r_ialdN S (v) dX12_worthOf_148 (by repeat (first | assumption | exact sUp_same | exact sNew_same | refine sUp_ne (by first | assumption | omega) ?_)) (by omega) (by omega) (by decide) ?_
      refine r_iconst S dX12_worthOf_149 ?_
      refine r_iadd S dX12_worthOf_150 ?_
      refine r_iastN S (v) dX12_worthOf_151 (by repeat (first | assumption | exact sUp_same | exact sNew_same | refine sUp_ne (by first | assumption | omega) ?_)) (by omega) (by omega) (by decide) ?_
      try simp only [sUp_sUp]
      rw [bump_succ]
      refine r_iinc S dX12_worthOf_152 rfl rfl (by decide) (lv' := [_, _, _, _, _]) rfl ?_
      refine r_goto S dX12_worthOf_155 (tgt := 133) (by decide) ?_
      exact ih (v + 1) (by omega)

set_option maxRecDepth 100000 in
set_option maxHeartbeats 4000000 in
theorem l_wA {κ : Kx} {k : Cx} {σ : St} {Q : State → Prop} {hg e an wt tb q tr sk sm : Int} {kd n : Nat} (hM : σ.2 (cBase k + 14) = some (oModel k hg kd n e an wt tb q tr sk sm)) {al : Nat} {l : Nat → Int} (hA : σ.2 al = some (eI k 16 l)) (hal : al ≠ (cBase k + 18) ∧ (al < (cBase k + 20) ∨ (cBase k + 24) ≤ al)) (hl : ∀ j, -1 ≤ l j ∧ l j ≤ 3) (hn : n ≤ 16) (hk : kd < 3) (kk : ∀ mo : Nat → Int, (∀ j, j < 4 → mo j = (qat (hQ l 0 n) j : Int)) → V κ k 5 0 0 Q 164 [some (.ref (cBase k + 14)), some (.ref al), some (.int (iZ ((83521 * kd + posQ (xQ l 0 (n)) : Nat) : Int))), none, none] [] (sUp σ (cBase k + 23) (eI k 4 (mo)))) (S : Ok κ k cX12_worthOf 5 RX12 (some .int) "worthOf" 5 0 0) : ∀ (m i : Nat), i + m = n → ∀ mo : Nat → Int, (∀ j, j < 4 → mo j = (qat (hQ l 0 i) j : Int)) → V κ k 5 0 0 Q 71 [some (.ref (cBase k + 14)), some (.ref al), some (.int (iZ ((83521 * kd + posQ (xQ l 0 (i)) : Nat) : Int))), some (.int (iZ (i : Int))), none] [] (sUp σ (cBase k + 23) (eI k 4 (mo))) := by
  intro m
  induction m with
  | zero =>
    intro i hi mo hmo
    refine r_iload_n S dX12_worthOf_71 rfl ?_
    refine r_aload_n S dX12_worthOf_72 rfl ?_
    refine r_getf S g_RX12_91_11 dX12_worthOf_73 (by repeat (first | assumption | exact sUp_same | exact sNew_same | refine sUp_ne (by first | assumption | omega) ?_)) rfl ?_
    refine r_icmp_ge S dX12_worthOf_76 (tgt := 164) (by decide) ⟨by omega, by omega⟩ ⟨by omega, by omega⟩ (fun h_76 => ?_) (fun h_76 => ?_)
    · refine V.mask [true, true, true, false, false] (lv' := [_, _, _, none, none]) rfl ?_
      have e9 : i = n := by omega
      subst e9
      exact kk mo hmo
    · omega
  | succ m ih =>
    intro i hi mo hmo
    have hi0 : i < n := by omega
    have hli := hl i
    have hpn := pos_next l i hli
    refine r_iload_n S dX12_worthOf_71 rfl ?_
    refine r_aload_n S dX12_worthOf_72 rfl ?_
    refine r_getf S g_RX12_91_11 dX12_worthOf_73 (by repeat (first | assumption | exact sUp_same | exact sNew_same | refine sUp_ne (by first | assumption | omega) ?_)) rfl ?_
    refine r_icmp_ge S dX12_worthOf_76 (tgt := 164) (by decide) ⟨by omega, by omega⟩ ⟨by omega, by omega⟩ (fun h_76 => ?_) (fun h_76 => ?_)
    · omega
    · refine r_iload_n S dX12_worthOf_79 rfl ?_
      refine r_aload_n S dX12_worthOf_80 rfl ?_
      refine r_iload_n S dX12_worthOf_81 rfl ?_
      refine r_ialdN S (i) dX12_worthOf_82 (by repeat (first | assumption | exact sUp_same | exact sNew_same | refine sUp_ne (by first | assumption | omega) ?_)) (by omega) (by omega) (by decide) ?_
      refine r_if_ge S dX12_worthOf_83 (tgt := 90) (by decide) ⟨by omega, by omega⟩ (fun h_83 => ?_) (fun h_83 => ?_)
      · refine r_aload_n S dX12_worthOf_90 rfl ?_
        refine r_iload_n S dX12_worthOf_91 rfl ?_
        refine r_ialdN S (i) dX12_worthOf_92 (by repeat (first | assumption | exact sUp_same | exact sNew_same | refine sUp_ne (by first | assumption | omega) ?_)) (by omega) (by omega) (by decide) ?_
        refine r_if_ne S dX12_worthOf_93 (tgt := 100) (by decide) ⟨by omega, by omega⟩ (fun h_93 => ?_) (fun h_93 => ?_)
        · refine r_aload_n S dX12_worthOf_100 rfl ?_
          refine r_iload_n S dX12_worthOf_101 rfl ?_
          refine r_ialdN S (i) dX12_worthOf_102 (by repeat (first | assumption | exact sUp_same | exact sNew_same | refine sUp_ne (by first | assumption | omega) ?_)) (by omega) (by omega) (by decide) ?_
          refine r_iconst S dX12_worthOf_103 ?_
          refine r_icmp_ne S dX12_worthOf_104 (tgt := 112) (by decide) ⟨by omega, by omega⟩ ⟨by omega, by omega⟩ (fun h_104 => ?_) (fun h_104 => ?_)
          · refine r_aload_n S dX12_worthOf_112 rfl ?_
            refine r_iload_n S dX12_worthOf_113 rfl ?_
            refine r_ialdN S (i) dX12_worthOf_114 (by repeat (first | assumption | exact sUp_same | exact sNew_same | refine sUp_ne (by first | assumption | omega) ?_)) (by omega) (by omega) (by decide) ?_
            refine r_iconst S dX12_worthOf_115 ?_
            refine r_icmp_ne S dX12_worthOf_116 (tgt := 125) (by decide) ⟨by omega, by omega⟩ ⟨by omega, by omega⟩ (fun h_116 => ?_) (fun h_116 => ?_)
            · refine r_sipush S dX12_worthOf_125 (by decide) ?_
              refine r_iadd S dX12_worthOf_128 ?_
              refine r_num (z' := ((83521 * kd + posQ (xQ l 0 (i + 1)) : Nat) : Int)) (by omega) ?_
              refine r_istore_n S dX12_worthOf_129 rfl (by decide) (lv' := [_, _, _, _, _]) rfl ?_
              refine r_iconst S dX12_worthOf_130 ?_
              refine r_istore S dX12_worthOf_131 rfl (by decide) (lv' := [_, _, _, _, _]) rfl ?_
              have h9 := l_wB (Q := Q) (mo := mo) (at_ := ((83521 * kd + posQ (xQ l 0 (i + 1)) : Nat) : Int)) hM hA hal hl hn hk hi0 (by
                refine r_iinc S dX12_worthOf_158 rfl rfl (by decide) (lv' := [_, _, _, _, _]) rfl ?_
                refine r_goto S dX12_worthOf_161 (tgt := 71) (by decide) ?_
                exact ih (i + 1) (by omega) _ (hQ_bump hli hmo)) S (l i + 1).toNat 0 (by omega)
              rw [bump_0] at h9
              exact h9
            · refine r_sipush S dX12_worthOf_119 (by decide) ?_
              refine r_goto S dX12_worthOf_122 (tgt := 128) (by decide) ?_
              refine r_iadd S dX12_worthOf_128 ?_
              refine r_num (z' := ((83521 * kd + posQ (xQ l 0 (i + 1)) : Nat) : Int)) (by omega) ?_
              refine r_istore_n S dX12_worthOf_129 rfl (by decide) (lv' := [_, _, _, _, _]) rfl ?_
              refine r_iconst S dX12_worthOf_130 ?_
              refine r_istore S dX12_worthOf_131 rfl (by decide) (lv' := [_, _, _, _, _]) rfl ?_
              have h9 := l_wB (Q := Q) (mo := mo) (at_ := ((83521 * kd + posQ (xQ l 0 (i + 1)) : Nat) : Int)) hM hA hal hl hn hk hi0 (by
                refine r_iinc S dX12_worthOf_158 rfl rfl (by decide) (lv' := [_, _, _, _, _]) rfl ?_
                refine r_goto S dX12_worthOf_161 (tgt := 71) (by decide) ?_
                exact ih (i + 1) (by omega) _ (hQ_bump hli hmo)) S (l i + 1).toNat 0 (by omega)
              rw [bump_0] at h9
              exact h9
          · refine r_bipush S dX12_worthOf_107 (by decide) ?_
            refine r_goto S dX12_worthOf_109 (tgt := 128) (by decide) ?_
            refine r_iadd S dX12_worthOf_128 ?_
            refine r_num (z' := ((83521 * kd + posQ (xQ l 0 (i + 1)) : Nat) : Int)) (by omega) ?_
            refine r_istore_n S dX12_worthOf_129 rfl (by decide) (lv' := [_, _, _, _, _]) rfl ?_
            refine r_iconst S dX12_worthOf_130 ?_
            refine r_istore S dX12_worthOf_131 rfl (by decide) (lv' := [_, _, _, _, _]) rfl ?_
            have h9 := l_wB (Q := Q) (mo := mo) (at_ := ((83521 * kd + posQ (xQ l 0 (i + 1)) : Nat) : Int)) hM hA hal hl hn hk hi0 (by
              refine r_iinc S dX12_worthOf_158 rfl rfl (by decide) (lv' := [_, _, _, _, _]) rfl ?_
              refine r_goto S dX12_worthOf_161 (tgt := 71) (by decide) ?_
              exact ih (i + 1) (by omega) _ (hQ_bump hli hmo)) S (l i + 1).toNat 0 (by omega)
            rw [bump_0] at h9
            exact h9
        · refine r_iconst S dX12_worthOf_96 ?_
          refine r_goto S dX12_worthOf_97 (tgt := 128) (by decide) ?_
          refine r_iadd S dX12_worthOf_128 ?_
          refine r_num (z' := ((83521 * kd + posQ (xQ l 0 (i + 1)) : Nat) : Int)) (by omega) ?_
          refine r_istore_n S dX12_worthOf_129 rfl (by decide) (lv' := [_, _, _, _, _]) rfl ?_
          refine r_iconst S dX12_worthOf_130 ?_
          refine r_istore S dX12_worthOf_131 rfl (by decide) (lv' := [_, _, _, _, _]) rfl ?_
          have h9 := l_wB (Q := Q) (mo := mo) (at_ := ((83521 * kd + posQ (xQ l 0 (i + 1)) : Nat) : Int)) hM hA hal hl hn hk hi0 (by
            refine r_iinc S dX12_worthOf_158 rfl rfl (by decide) (lv' := [_, _, _, _, _]) rfl ?_
            refine r_goto S dX12_worthOf_161 (tgt := 71) (by decide) ?_
            exact ih (i + 1) (by omega) _ (hQ_bump hli hmo)) S (l i + 1).toNat 0 (by omega)
          rw [bump_0] at h9
          exact h9
      · refine r_iconst S dX12_worthOf_86 ?_
        refine r_goto S dX12_worthOf_87 (tgt := 128) (by decide) ?_
        refine r_iadd S dX12_worthOf_128 ?_
        refine r_num (z' := ((83521 * kd + posQ (xQ l 0 (i + 1)) : Nat) : Int)) (by omega) ?_
        refine r_istore_n S dX12_worthOf_129 rfl (by decide) (lv' := [_, _, _, _, _]) rfl ?_
        refine r_iconst S dX12_worthOf_130 ?_
        refine r_istore S dX12_worthOf_131 rfl (by decide) (lv' := [_, _, _, _, _]) rfl ?_
        have h9 := l_wB (Q := Q) (mo := mo) (at_ := ((83521 * kd + posQ (xQ l 0 (i + 1)) : Nat) : Int)) hM hA hal hl hn hk hi0 (by
          refine r_iinc S dX12_worthOf_158 rfl rfl (by decide) (lv' := [_, _, _, _, _]) rfl ?_
          refine r_goto S dX12_worthOf_161 (tgt := 71) (by decide) ?_
          exact ih (i + 1) (by omega) _ (hQ_bump hli hmo)) S (l i + 1).toNat 0 (by omega)
        rw [bump_0] at h9
        exact h9

set_option maxRecDepth 100000 in
set_option maxHeartbeats 4000000 in
theorem l_wL {κ : Kx} {k : Cx} {σ : St} {Q : State → Prop} {hg e an wt tb q tr sk sm : Int} {kd n : Nat} (hM : σ.2 (cBase k + 14) = some (oModel k hg kd n e an wt tb q tr sk sm)) {al : Nat} {m : Q4} (hm16 : m.1 ≤ 16) (hdm : Dec m) (hk : kd < 3) {mo : Nat → Int} (hMM : σ.2 (cBase k + 23) = some (eI k 4 mo)) (hmo : ∀ j, j < 4 → mo j = (qat m j : Int)) {x : Q4} (hx : cumQ x = m) (hx1 : 1 ≤ tot x) {R0 : Nat → Int} (kk : ∀ (σc : St) (R : Nat → Int), LvS k σ σc R → (∀ j, 0 ≤ R j ∧ R j ≤ 14) → RowOk R → (∀ j, R0 j ≠ 0 → R j = R0 j) → R (83521 * kd + posQ x) ≠ 0 → V κ k 5 0 0 Q 196 [some (.ref (cBase k + 14)), some (.ref al), some (.int (iZ ((83521 * kd + posQ x : Nat) : Int))), none, none] [] σc) (S : Ok κ k cX12_worthOf 5 RX12 (some .int) "worthOf" 5 0 0) : ∀ (r lev : Nat), lev + r = 14 → 1 ≤ lev → ∀ (σc : St) (R : Nat → Int), LvS k σ σc R → LvK R0 R kd lev m → V κ k 5 0 0 Q 166 [some (.ref (cBase k + 14)), some (.ref al), some (.int (iZ ((83521 * kd + posQ x : Nat) : Int))), some (.int (iZ (lev : Int))), none] [] σc := by
  intro r
  induction r with
  | zero =>
    intro lev hr hl1 σc R hls hinv
    obtain ⟨hRc, ⟨hp0, hHc⟩, ⟨bd0, hBc⟩, ⟨ct, hCc⟩, hsz, hfr⟩ := id hls
    obtain ⟨h1, h2, h3, h4, h5⟩ := id hinv
    have hMc := (hfr (cBase k + 14) (by omega) (by omega) (by omega) (by omega)).trans hM
    have hMMc := (hfr (cBase k + 23) (by omega) (by omega) (by omega) (by omega)).trans hMM
    have hpl := pos_lt16 (x := x) (by have := hx ▸ hm16; rw [tot_cum] at this; exact this)
    have hRp := h1 (83521 * kd + posQ x)
    refine r_iload_n S dX12_worthOf_166 rfl ?_
    refine r_bipush S dX12_worthOf_167 (by decide) ?_
    refine r_icmp_gt S dX12_worthOf_169 (tgt := 196) (by decide) ⟨by omega, by omega⟩ ⟨by omega, by omega⟩ (fun h_169 => ?_) (fun h_169 => ?_)
    · refine V.mask [true, true, true, false, false] (lv' := [_, _, _, none, none]) rfl ?_
      exact kk _ R hls h1 h2 h4 (h5 (by omega) x (by rw [hx]; exact leQ_refl _) hx1)
    · omega
  | succ r ih =>
    intro lev hr hl1 σc R hls hinv
    obtain ⟨hRc, ⟨hp0, hHc⟩, ⟨bd0, hBc⟩, ⟨ct, hCc⟩, hsz, hfr⟩ := id hls
    obtain ⟨h1, h2, h3, h4, h5⟩ := id hinv
    have hMc := (hfr (cBase k + 14) (by omega) (by omega) (by omega) (by omega)).trans hM
    have hMMc := (hfr (cBase k + 23) (by omega) (by omega) (by omega) (by omega)).trans hMM
    have hpl := pos_lt16 (x := x) (by have := hx ▸ hm16; rw [tot_cum] at this; exact this)
    have hRp := h1 (83521 * kd + posQ x)
    refine r_iload_n S dX12_worthOf_166 rfl ?_
    refine r_bipush S dX12_worthOf_167 (by decide) ?_
    refine r_icmp_gt S dX12_worthOf_169 (tgt := 196) (by decide) ⟨by omega, by omega⟩ ⟨by omega, by omega⟩ (fun h_169 => ?_) (fun h_169 => ?_)
    · omega
    · refine r_aload_n S dX12_worthOf_172 rfl ?_
      refine r_getf S g_RX12_24_11 dX12_worthOf_173 (by repeat (first | assumption | exact sUp_same | exact sNew_same | refine sUp_ne (by first | assumption | omega) ?_)) rfl ?_
      refine r_iload_n S dX12_worthOf_176 rfl ?_
      refine r_baldN S (83521 * kd + posQ x) dX12_worthOf_177 (by repeat (first | assumption | exact sUp_same | exact sNew_same | refine sUp_ne (by first | assumption | omega) ?_)) (by omega) (by omega) (by decide) ?_
      refine r_if_ne S dX12_worthOf_178 (tgt := 196) (by decide) ⟨by omega, by omega⟩ (fun h_178 => ?_) (fun h_178 => ?_)
      · refine V.mask [true, true, true, false, false] (lv' := [_, _, _, none, none]) rfl ?_
        exact kk _ R hls h1 h2 h4 h_178
      · refine r_aload_n S dX12_worthOf_181 rfl ?_
        refine r_aload_n S dX12_worthOf_182 rfl ?_
        refine r_getf S g_RX12_88_11 dX12_worthOf_183 (by repeat (first | assumption | exact sUp_same | exact sNew_same | refine sUp_ne (by first | assumption | omega) ?_)) rfl ?_
        refine r_iload_n S dX12_worthOf_186 rfl ?_
        refine r_callV S (c_levels hMc hk ⟨by omega, by omega⟩ hm16 hdm hMMc hmo (LvS_self hls) (LvK_in hinv)) k_mX12_levels c_RX12_94_11 dX12_worthOf_187 (by decide) ⟨by omega, by omega⟩ (by repeat (first | assumption | exact sUp_same | exact sNew_same | refine sUp_ne (by first | assumption | omega) ?_)) rfl rfl (Nat.le_of_ble_eq_true rfl) (fun r σ' hp => ?_)
        obtain ⟨rfl, R2, hls2, hinv2⟩ := hp
        try simp only [Option.toList_some, Option.toList_none, List.cons_append, List.nil_append]
        refine r_iinc S dX12_worthOf_190 rfl rfl (by decide) (lv' := [_, _, _, _, _]) rfl ?_
        refine r_goto S dX12_worthOf_193 (tgt := 166) (by decide) ?_
        exact ih (lev + 1) (by omega) (by omega) _ R2 (LvS_trans hls hls2) (LvK_next (by omega) hinv hinv2)

set_option maxRecDepth 100000 in
set_option maxHeartbeats 4000000 in
theorem c_worthOf {k : Cx} {L0 : Launch} {σ : St} {hg e an wt tb q tr sk sm : Int} {kd n : Nat} (hM : σ.2 (cBase k + 14) = some (oModel k hg kd n e an wt tb q tr sk sm)) {al : Nat} {l : Nat → Int} (hA : σ.2 al = some (eI k 16 l)) (hal : al ≠ (cBase k + 18) ∧ (al < (cBase k + 20) ∨ (cBase k + 24) ≤ al)) (hl : ∀ j, -1 ≤ l j ∧ l j ≤ 3) (hn : n ≤ 16) (hk : kd < 3) {R mo : Nat → Int} (hRT : RT k σ R) (hMM : σ.2 (cBase k + 23) = some (eI k 4 mo)) (hst : 1 ≤ (hQ l 0 n).1) : CtrV k L0 mX12_worthOf 5 0 0 [.ref (cBase k + 14), .ref al] σ (fun v σ' => v = .int (iZ ((fewN (cyK kd) (cnK kd) (hQ l 0 n) : Nat) : Int)) ∧ ∃ R', RT k σ' R' ∧ K1 R' kd ∧ (∃ mo' : Nat → Int, σ'.2 (cBase k + 23) = some (eI k 4 mo') ∧ ∀ j, j < 4 → mo' j = (qat (hQ l 0 n) j : Int)) ∧ FrM k σ σ') := by
  refine Ctr.of (by decide +kernel) rfl (Nat.le_of_ble_eq_true rfl) ?_
  intro κ hl0 S
  subst hl0
  obtain ⟨hRc, ⟨hp0, hHc⟩, ⟨bd0, hBc⟩, ⟨ct, hCc⟩, hRr, hRo⟩ := id hRT
  refine r_ldc S (n := 83521) (by exact wd_734) dX12_worthOf_0 ?_
  refine r_aload_n S dX12_worthOf_2 rfl ?_
  refine r_getf S g_RX12_88_11 dX12_worthOf_3 (by repeat (first | assumption | exact sUp_same | exact sNew_same | refine sUp_ne (by first | assumption | omega) ?_)) rfl ?_
  refine r_imul S dX12_worthOf_6 ?_
  refine r_num (z' := ((83521 * kd : Nat) : Int)) (by omega) ?_
  refine r_istore_n S dX12_worthOf_7 rfl (by decide) (lv' := [_, _, _, _, _]) rfl ?_
  refine r_aload_n S dX12_worthOf_8 rfl ?_
  refine r_getf S g_RX12_24_11 dX12_worthOf_9 (by repeat (first | assumption | exact sUp_same | exact sNew_same | refine sUp_ne (by first | assumption | omega) ?_)) rfl ?_
  refine r_iload_n S dX12_worthOf_12 rfl ?_
  refine r_iconst S dX12_worthOf_13 ?_
  refine r_iadd S dX12_worthOf_14 ?_
  refine r_iconst S dX12_worthOf_15 ?_
  refine r_bastN S (83521 * kd + 1) dX12_worthOf_16 (by repeat (first | assumption | exact sUp_same | exact sNew_same | refine sUp_ne (by first | assumption | omega) ?_)) (by omega) (by omega) (by decide) ((i2b_ok (l := 1) (by decide)).2) ?_
  try simp only [sUp_sUp]
  refine r_aload_n S dX12_worthOf_17 rfl ?_
  refine r_getf S g_RX12_24_11 dX12_worthOf_18 (by repeat (first | assumption | exact sUp_same | exact sNew_same | refine sUp_ne (by first | assumption | omega) ?_)) rfl ?_
  refine r_iload_n S dX12_worthOf_21 rfl ?_
  refine r_bipush S dX12_worthOf_22 (by decide) ?_
  refine r_iadd S dX12_worthOf_24 ?_
  refine r_iconst S dX12_worthOf_25 ?_
  refine r_bastN S (83521 * kd + 17) dX12_worthOf_26 (by repeat (first | assumption | exact sUp_same | exact sNew_same | refine sUp_ne (by first | assumption | omega) ?_)) (by omega) (by omega) (by decide) ((i2b_ok (l := 1) (by decide)).2) ?_
  try simp only [sUp_sUp]
  refine r_aload_n S dX12_worthOf_27 rfl ?_
  refine r_getf S g_RX12_24_11 dX12_worthOf_28 (by repeat (first | assumption | exact sUp_same | exact sNew_same | refine sUp_ne (by first | assumption | omega) ?_)) rfl ?_
  refine r_iload_n S dX12_worthOf_31 rfl ?_
  refine r_sipush S dX12_worthOf_32 (by decide) ?_
  refine r_iadd S dX12_worthOf_35 ?_
  refine r_iconst S dX12_worthOf_36 ?_
  refine r_bastN S (83521 * kd + 289) dX12_worthOf_37 (by repeat (first | assumption | exact sUp_same | exact sNew_same | refine sUp_ne (by first | assumption | omega) ?_)) (by omega) (by omega) (by decide) ((i2b_ok (l := 1) (by decide)).2) ?_
  try simp only [sUp_sUp]
  refine r_aload_n S dX12_worthOf_38 rfl ?_
  refine r_getf S g_RX12_24_11 dX12_worthOf_39 (by repeat (first | assumption | exact sUp_same | exact sNew_same | refine sUp_ne (by first | assumption | omega) ?_)) rfl ?_
  refine r_iload_n S dX12_worthOf_42 rfl ?_
  refine r_sipush S dX12_worthOf_43 (by decide) ?_
  refine r_iadd S dX12_worthOf_46 ?_
  refine r_iconst S dX12_worthOf_47 ?_
  refine r_bastN S (83521 * kd + 4913) dX12_worthOf_48 (by repeat (first | assumption | exact sUp_same | exact sNew_same | refine sUp_ne (by first | assumption | omega) ?_)) (by omega) (by omega) (by decide) ((i2b_ok (l := 1) (by decide)).2) ?_
  try simp only [sUp_sUp]
  refine r_iconst S dX12_worthOf_49 ?_
  refine r_istore_n S dX12_worthOf_50 rfl (by decide) (lv' := [_, _, _, _, _]) rfl ?_
  refine r_iload_n S dX12_worthOf_51 rfl ?_
  refine r_iconst S dX12_worthOf_52 ?_
  refine r_icmp_ge S dX12_worthOf_53 (tgt := 69) (by decide) ⟨by omega, by omega⟩ ⟨by omega, by omega⟩ (fun h_53 => ?_) (fun h_53 => ?_)
  · omega
  · refine r_aload_n S dX12_worthOf_56 rfl ?_
    refine r_getf S g_RX12_43_11 dX12_worthOf_57 (by repeat (first | assumption | exact sUp_same | exact sNew_same | refine sUp_ne (by first | assumption | omega) ?_)) rfl ?_
    refine r_iload_n S dX12_worthOf_60 rfl ?_
    refine r_iconst S dX12_worthOf_61 ?_
    refine r_iastN S (0) dX12_worthOf_62 (by repeat (first | assumption | exact sUp_same | exact sNew_same | refine sUp_ne (by first | assumption | omega) ?_)) (by rfl) (by omega) (by decide) ?_
    try simp only [sUp_sUp]
    refine r_iinc S dX12_worthOf_63 rfl rfl (by decide) (lv' := [_, _, _, _, _]) rfl ?_
    refine r_goto S dX12_worthOf_66 (tgt := 51) (by decide) ?_
    refine r_iload_n S dX12_worthOf_51 rfl ?_
    refine r_iconst S dX12_worthOf_52 ?_
    refine r_icmp_ge S dX12_worthOf_53 (tgt := 69) (by decide) ⟨by omega, by omega⟩ ⟨by omega, by omega⟩ (fun h_53 => ?_) (fun h_53 => ?_)
    · omega
    · refine r_aload_n S dX12_worthOf_56 rfl ?_
      refine r_getf S g_RX12_43_11 dX12_worthOf_57 (by repeat (first | assumption | exact sUp_same | exact sNew_same | refine sUp_ne (by first | assumption | omega) ?_)) rfl ?_
      refine r_iload_n S dX12_worthOf_60 rfl ?_
      refine r_iconst S dX12_worthOf_61 ?_
      refine r_iastN S (1) dX12_worthOf_62 (by repeat (first | assumption | exact sUp_same | exact sNew_same | refine sUp_ne (by first | assumption | omega) ?_)) (by rfl) (by omega) (by decide) ?_
      try simp only [sUp_sUp]
      refine r_iinc S dX12_worthOf_63 rfl rfl (by decide) (lv' := [_, _, _, _, _]) rfl ?_
      refine r_goto S dX12_worthOf_66 (tgt := 51) (by decide) ?_
      refine r_iload_n S dX12_worthOf_51 rfl ?_
      refine r_iconst S dX12_worthOf_52 ?_
      refine r_icmp_ge S dX12_worthOf_53 (tgt := 69) (by decide) ⟨by omega, by omega⟩ ⟨by omega, by omega⟩ (fun h_53 => ?_) (fun h_53 => ?_)
      · omega
      · refine r_aload_n S dX12_worthOf_56 rfl ?_
        refine r_getf S g_RX12_43_11 dX12_worthOf_57 (by repeat (first | assumption | exact sUp_same | exact sNew_same | refine sUp_ne (by first | assumption | omega) ?_)) rfl ?_
        refine r_iload_n S dX12_worthOf_60 rfl ?_
        refine r_iconst S dX12_worthOf_61 ?_
        refine r_iastN S (2) dX12_worthOf_62 (by repeat (first | assumption | exact sUp_same | exact sNew_same | refine sUp_ne (by first | assumption | omega) ?_)) (by rfl) (by omega) (by decide) ?_
        try simp only [sUp_sUp]
        refine r_iinc S dX12_worthOf_63 rfl rfl (by decide) (lv' := [_, _, _, _, _]) rfl ?_
        refine r_goto S dX12_worthOf_66 (tgt := 51) (by decide) ?_
        refine r_iload_n S dX12_worthOf_51 rfl ?_
        refine r_iconst S dX12_worthOf_52 ?_
        refine r_icmp_ge S dX12_worthOf_53 (tgt := 69) (by decide) ⟨by omega, by omega⟩ ⟨by omega, by omega⟩ (fun h_53 => ?_) (fun h_53 => ?_)
        · omega
        · refine r_aload_n S dX12_worthOf_56 rfl ?_
          refine r_getf S g_RX12_43_11 dX12_worthOf_57 (by repeat (first | assumption | exact sUp_same | exact sNew_same | refine sUp_ne (by first | assumption | omega) ?_)) rfl ?_
          refine r_iload_n S dX12_worthOf_60 rfl ?_
          refine r_iconst S dX12_worthOf_61 ?_
          refine r_iastN S (3) dX12_worthOf_62 (by repeat (first | assumption | exact sUp_same | exact sNew_same | refine sUp_ne (by first | assumption | omega) ?_)) (by rfl) (by omega) (by decide) ?_
          try simp only [sUp_sUp]
          refine r_iinc S dX12_worthOf_63 rfl rfl (by decide) (lv' := [_, _, _, _, _]) rfl ?_
          refine r_goto S dX12_worthOf_66 (tgt := 51) (by decide) ?_
          refine r_iload_n S dX12_worthOf_51 rfl ?_
          refine r_iconst S dX12_worthOf_52 ?_
          refine r_icmp_ge S dX12_worthOf_53 (tgt := 69) (by decide) ⟨by omega, by omega⟩ ⟨by omega, by omega⟩ (fun h_53 => ?_) (fun h_53 => ?_)
          · refine r_iconst S dX12_worthOf_69 ?_
            refine r_istore_n S dX12_worthOf_70 rfl (by decide) (lv' := [_, _, _, _, _]) rfl ?_
            refine V.mask [true, true, true, true, false] (lv' := [_, _, _, _, none]) rfl ?_
            have hM2 : (sUp σ (cBase k + 18) (eB k 250563 (R4 R kd))).2 (cBase k + 14) = _ := sUp_ne (by omega) hM
            have hA2 : (sUp σ (cBase k + 18) (eB k 250563 (R4 R kd))).2 al = _ := sUp_ne (by omega) hA
            refine l_wA hM2 hA2 hal hl hn hk (fun mo2 hmo2 => ?_) S n 0 (by omega) _ (fun j hj => ?_)
            rotate_left
            · rw [hQ_0]
              match j with
              | 0 => rfl
              | 1 => rfl
              | 2 => rfl
              | 3 => rfl
              | _ + 4 => omega
            refine r_iconst S dX12_worthOf_164 ?_
            refine r_istore_n S dX12_worthOf_165 rfl (by decide) (lv' := [_, _, _, _, _]) rfl ?_
            have hM3 : (sUp (sUp σ (cBase k + 18) (eB k 250563 (R4 R kd))) (cBase k + 23) (eI k 4 mo2)).2 (cBase k + 14) = _ := sUp_ne (by omega) hM2
            have hx1 : 1 ≤ tot (xQ l 0 n) := by rw [← tot_cum, cum_xQ hl]; exact hst
            have hpl := pos_lt16 (x := xQ l 0 n) (by rw [← tot_cum, cum_xQ hl]; exact Nat.le_trans (hQ_le l 0 n) hn)
            refine l_wL (R0 := R4 R kd) hM3 (Nat.le_trans (hQ_le l 0 n) hn) (hQ_dec l 0 n) hk sUp_same hmo2 (cum_xQ hl 0 n) hx1 (fun σc R2 hls2 g1 g2 g3 g4 => ?_) S 13 1 (by omega) (by omega) _ (R4 R kd) ⟨sUp_ne (by omega) sUp_same, ⟨_, sUp_ne (by omega) (sUp_ne (by omega) hHc)⟩, ⟨_, sUp_ne (by omega) (sUp_ne (by omega) hBc)⟩, ⟨_, sUp_ne (by omega) (sUp_ne (by omega) hCc)⟩, rfl, fun _ _ _ _ _ => rfl⟩ ⟨R4_rng hRr kd, R4_ok hRo kd, Kn_0 (R4_k R kd) _, fun _ _ => rfl, fun h => absurd h (by decide)⟩
            obtain ⟨hRc, h20, h21, h22, hsz, hfr⟩ := id hls2
            have hM4 := (hfr (cBase k + 14) (by omega) (by omega) (by omega) (by omega)).trans hM3
            have hg := g1 (83521 * kd + posQ (xQ l 0 n))
            refine r_aload_n S dX12_worthOf_196 rfl ?_
            refine r_getf S g_RX12_24_11 dX12_worthOf_197 (by repeat (first | assumption | exact sUp_same | exact sNew_same | refine sUp_ne (by first | assumption | omega) ?_)) rfl ?_
            refine r_iload_n S dX12_worthOf_200 rfl ?_
            refine r_baldN S (83521 * kd + posQ (xQ l 0 n)) dX12_worthOf_201 (by repeat (first | assumption | exact sUp_same | exact sNew_same | refine sUp_ne (by first | assumption | omega) ?_)) (by omega) (by omega) (by decide) ?_
            refine r_iconst S dX12_worthOf_202 ?_
            refine r_isub S dX12_worthOf_203 ?_
            exact r_iret S dX12_worthOf_204 (by omega) (by omega) (by
              rcases g2 kd hk (xQ l 0 n) hx1 (by rw [← tot_cum, cum_xQ hl]; exact Nat.le_trans (hQ_le l 0 n) hn) with e9 | ⟨v9, e9, f9⟩
              · exact absurd e9 g4
              · rw [cum_xQ hl] at f9
                refine ⟨_, rfl, ?_, R2, ⟨hRc, h20, h21, h22, g1, g2⟩, fun c hc => ?_, ⟨mo2, (hfr _ (by omega) (by omega) (by omega) (by omega)).trans sUp_same, hmo2⟩, hsz, fun b hb1 hb2 => ?_⟩
                · rw [e9, ← fewN_eq f9]; congr 2; omega
                · rw [g3 _ (R4_k R kd c hc)]; exact R4_k R kd c hc
                · exact (hfr b hb1 (by omega) (by omega) (by omega)).trans ((if_neg (by omega)).trans (if_neg hb1)))
          · omega
