/-! numbers: bits, division; rows for arrays by natural places; the objects -/
theorem sUp_sUp (σ : St) (a : Nat) (e e' : va_E) : sUp (sUp σ a e) a e' = sUp σ a e' := by
  unfold sUp
  congr 1
  funext x
  by_cases h : x = a <;> simp [h]
theorem sUp_comm (σ : St) {a b : Nat} (e e' : va_E) (h : a ≠ b) : sUp (sUp σ a e) b e' = sUp (sUp σ b e') a e := by
  unfold sUp
  congr 1
  funext x
  by_cases h1 : x = a
  · subst h1; simp [h]
  · by_cases h2 : x = b <;> simp [h1, h2, Ne.symm h]
theorem sUp_id {σ : St} {a : Nat} {e : va_E} (h : σ.2 a = some e) : sUp σ a e = σ := by
  unfold sUp
  refine Prod.ext rfl ?_
  funext x
  by_cases h1 : x = a
  · subst h1; simp [h]
  · simp [h1]
theorem nZ (n : Nat) : iZ (n : Int) = nI n := by
  apply Int32.toBitVec_inj.mp
  simp [iZ, nI]
theorem andZ (a b : Nat) : iZ (a : Int) &&& iZ (b : Int) = iZ ((a &&& b : Nat) : Int) := by
  rw [nZ, nZ, nZ]
  apply Int32.toBitVec_inj.mp
  simp [nI]
theorem orZ (a b : Nat) : iZ (a : Int) ||| iZ (b : Int) = iZ ((a ||| b : Nat) : Int) := by
  rw [nZ, nZ, nZ]
  apply Int32.toBitVec_inj.mp
  simp [nI]
theorem xorZ (a b : Nat) : iZ (a : Int) ^^^ iZ (b : Int) = iZ ((a ^^^ b : Nat) : Int) := by
  rw [nZ, nZ, nZ]
  apply Int32.toBitVec_inj.mp
  simp [nI]
theorem amt {i : Nat} (hi : i < 32) : iZ (i : Int) &&& 31 = nI i ∧ ((nI i).toBitVec.smod 32).toNat = i := by
  have h : ∀ j : Nat, j < 32 → iZ (j : Int) &&& 31 = nI j ∧ ((nI j).toBitVec.smod 32).toNat = j := by decide +kernel
  exact h i hi
theorem shrZ {a i : Nat} (ha : a < 2 ^ 31) (hi : i < 32) : iZ (a : Int) >>> (iZ (i : Int) &&& 31) = iZ ((a / 2 ^ i : Nat) : Int) := by
  rw [(amt hi).1, nZ, nZ]
  exact pk_shrN ha _ i (amt hi).2
theorem shlZ {a i : Nat} (ha : a * 2 ^ i < 2 ^ 32) (hi : i < 32) : iZ (a : Int) <<< (iZ (i : Int) &&& 31) = iZ ((a * 2 ^ i : Nat) : Int) := by
  rw [(amt hi).1, nZ, nZ]
  exact pk_shlN _ i (amt hi).2 ha
theorem divZ {a d : Nat} (ha : a < 2 ^ 31) (h0 : 0 < d) (hd : d < 2 ^ 31) : iZ (a : Int) / iZ (d : Int) = iZ ((a / d : Nat) : Int) := by
  rw [nZ, nZ, nZ]; exact pk_div ha h0 hd
theorem remZ {a d : Nat} (ha : a < 2 ^ 31) (h0 : 0 < d) (hd : d < 2 ^ 31) : iZ (a : Int) - iZ (a : Int) / iZ (d : Int) * iZ (d : Int) = iZ ((a % d : Nat) : Int) := by
  rw [nZ, nZ, nZ]; exact pk_rem ha h0 hd
theorem neZ {d : Nat} (h0 : 0 < d) (hd : d < 2 ^ 31) : ¬ iZ (d : Int) = 0 := by
  rw [nZ]; exact nI_ne0 h0 hd
/-- bit i of h, as a number -/
def bt (h i : Nat) : Nat := h / 2 ^ i % 2
theorem bt_lt (h i : Nat) : bt h i < 2 := Nat.mod_lt _ (by decide)
theorem and1Z (a : Nat) : iZ (a : Int) &&& iZ 1 = iZ ((a % 2 : Nat) : Int) := by
  have := andZ a 1
  rw [Nat.and_one_is_mod] at this
  exact this
section VNAT
variable {κ : Kx} {k : Cx} {cc : ByteArray} {nL : Nat} {own : String} {ret : Option FieldType} {nm : String} {h MC MS : Nat} {cs ss : Nat} {Q : State → Prop} {pc : Nat} {lv lv' : List (Option Value)} {st : List Value} {σ : St}
theorem r_ialdN (S : Ok κ k cc nL own ret nm h MC MS) {a n : Nat} {f : Nat → Int} {z : Int} (i : Nat) (d : decode cc pc = .ok (.iaload, 1)) (hσ : σ.2 a = some (eI k n f)) (hz : z = (i : Int)) (hi : i < n) (hn : n ≤ 2147483647) (kk : V κ k nL cs ss Q (pc + 1) lv (.int (iZ (f i)) :: st) σ) : V κ k nL cs ss Q pc lv (.int (iZ z) :: .ref a :: st) σ := by
  subst hz
  exact r_iald S d hσ ⟨by omega, by omega⟩ hn (by rw [Int.toNat_natCast]; exact kk)
theorem r_baldN (S : Ok κ k cc nL own ret nm h MC MS) {a n : Nat} {f : Nat → Int} {z : Int} (i : Nat) (d : decode cc pc = .ok (.baload, 1)) (hσ : σ.2 a = some (eB k n f)) (hz : z = (i : Int)) (hi : i < n) (hn : n ≤ 2147483647) (kk : V κ k nL cs ss Q (pc + 1) lv (.int (iZ (f i)) :: st) σ) : V κ k nL cs ss Q pc lv (.int (iZ z) :: .ref a :: st) σ := by
  subst hz
  exact r_bald S d hσ ⟨by omega, by omega⟩ hn (by rw [Int.toNat_natCast]; exact kk)
theorem r_iastN (S : Ok κ k cc nL own ret nm h MC MS) {a n : Nat} {f : Nat → Int} {z x : Int} (i : Nat) (d : decode cc pc = .ok (.iastore, 1)) (hσ : σ.2 a = some (eI k n f)) (hz : z = (i : Int)) (hi : i < n) (hn : n ≤ 2147483647) (kk : V κ k nL cs ss Q (pc + 1) lv st (sUp σ a (eI k n (uZ f i x)))) : V κ k nL cs ss Q pc lv (.int (iZ x) :: .int (iZ z) :: .ref a :: st) σ := by
  subst hz
  exact r_iast S d hσ ⟨by omega, by omega⟩ hn (by rw [Int.toNat_natCast]; exact kk)
theorem r_bastN (S : Ok κ k cc nL own ret nm h MC MS) {a n : Nat} {f : Nat → Int} {z x : Int} (i : Nat) (d : decode cc pc = .ok (.bastore, 1)) (hσ : σ.2 a = some (eB k n f)) (hz : z = (i : Int)) (hi : i < n) (hn : n ≤ 2147483647) (hx1 : narrow .byte (.int (iZ x)) = .int (iZ x)) (kk : V κ k nL cs ss Q (pc + 1) lv st (sUp σ a (eB k n (uZ f i x)))) : V κ k nL cs ss Q pc lv (.int (iZ x) :: .int (iZ z) :: .ref a :: st) σ := by
  subst hz
  exact r_bast S d hσ ⟨by omega, by omega⟩ hn hx1 (by rw [Int.toNat_natCast]; exact kk)
theorem r_paldN (S : Ok κ k cc nL own ret nm h MC MS) {z : Int} (i : Nat) (d : decode cc pc = .ok (.iaload, 1)) (hz : z = (i : Int)) (hi : i < 68) (kk : V κ k nL cs ss Q (pc + 1) lv (.int (iZ (plF i)) :: st) σ) : V κ k nL cs ss Q pc lv (.int (iZ z) :: .ref (cPl k) :: st) σ := by
  subst hz
  exact r_pald S d ⟨by omega, by omega⟩ (by rw [Int.toNat_natCast]; exact kk)
theorem r_aaldN (S : Ok κ k cc nL own ret nm h MC MS) {a n t0 : Nat} {cA : ClassId} {C : String} {f : Nat → Option Nat} {z : Int} {v : Value} (i : Nat) (ht : (cTys k)[t0]? = some (cA, .object C)) (d : decode cc pc = .ok (.aaload, 1)) (hσ : σ.2 a = some (eQ cA n f)) (hz : z = (i : Int)) (hi : i < n) (hn : n ≤ 2147483647) (hv : va_rf (f i) = v) (kk : V κ k nL cs ss Q (pc + 1) lv (v :: st) σ) : V κ k nL cs ss Q pc lv (.int (iZ z) :: .ref a :: st) σ := by
  subst hz
  exact r_aald S ht d hσ ⟨by omega, by omega⟩ hn (by rw [Int.toNat_natCast]; exact hv) kk
/-- the number on the stack, written otherwise -/
theorem r_num {z z' : Int} (e : z = z') (kk : V κ k nL cs ss Q pc lv (.int (iZ z') :: st) σ) : V κ k nL cs ss Q pc lv (.int (iZ z) :: st) σ := by rw [e]; exact kk
end VNAT
/-- the objects: their fields in the order of the slots -/
abbrev oX (k : Cx) (tb : Int) : va_E := .inr (10, [.ref (cBase k + 1), .ref (cBase k + 5), .ref (cBase k + 6), .ref (cBase k + 7), .ref (cBase k + 8), .ref (cBase k + 9), .ref (cBase k + 11), .int (iZ tb)])
abbrev oTally (z : Int) : va_E := .inr (8, [.long (lZ z)])
abbrev oGame (k : Cx) (on kd n e an wt yp np : Int) : va_E := .inr (3, [.int (iZ on), .int (iZ kd), .int (iZ n), .int (iZ e), .int (iZ an), .int (iZ wt), .int (iZ yp), .int (iZ np), .ref (cBase k + 10)])
abbrev oCode (k : Cx) (sz : Int) : va_E := .inr (2, [.ref (cBase k + 12), .ref (cBase k + 13), .int (iZ sz)])
abbrev oModel (k : Cx) (hg kd n e an wt tb q tr sk sm : Int) : va_E := .inr (11, [.int (iZ hg), .int (iZ kd), .int (iZ n), .int (iZ e), .int (iZ an), .int (iZ wt), .ref (cBase k + 15), .ref (cBase k + 16), .int (iZ tb), .int (iZ q), .ref (cBase k + 17), .long (lZ tr), .ref (cBase k + 18), .int (iZ sk), .int (iZ sm), .ref (cBase k + 19), .ref (cBase k + 20), .ref (cBase k + 21), .ref (cBase k + 22), .ref (cBase k + 23), .ref (cBase k + 24)])
/-- how many of 0 .. n - 1 -/
def cnt (p : Nat → Bool) : Nat → Nat
  | 0 => 0
  | n + 1 => cnt p n + (if p n then 1 else 0)
theorem cnt_le (p : Nat → Bool) : ∀ n, cnt p n ≤ n
  | 0 => Nat.le_refl 0
  | n + 1 => by
    have := cnt_le p n
    rw [cnt]
    split <;> omega
theorem cnt_succ (p : Nat → Bool) (n : Nat) : cnt p (n + 1) = cnt p n + (if p n then 1 else 0) := rfl
theorem cnt_congr {p q : Nat → Bool} : ∀ {n : Nat}, (∀ i, i < n → p i = q i) → cnt p n = cnt q n
  | 0, _ => rfl
  | n + 1, h => by rw [cnt, cnt, cnt_congr (fun i hi => h i (by omega)), h n (by omega)]
theorem cnt_t {p : Nat → Bool} {i : Nat} (h : p i = true) : cnt p (i + 1) = cnt p i + 1 := by rw [cnt_succ, if_pos h]
theorem cnt_f {p : Nat → Bool} {i : Nat} (h : p i = false) : cnt p (i + 1) = cnt p i := by rw [cnt_succ, h]; rfl
/-- the price of an answer y for a NUMBER that is in the heap (b = 1) or not -/
def prc (yp np : Int) (b y : Nat) : Int := if b = y then 0 else if y = 1 then yp else np
/-- LEFT behind an answer -/
def newL (f : Nat → Int) (r : Nat) (yp np : Int) (heap y i : Nat) : Int := max (-1) (f (r + i) - prc yp np (bt heap i) y)
def layF (f : Nat → Int) (an : Nat) (yp np : Int) (heap y n : Nat) : Nat → Int := fun j => if an * 16 + 16 ≤ j ∧ j < an * 16 + 16 + n then newL f (an * 16) yp np heap y (j - (an * 16 + 16)) else f j
theorem layF_low {f : Nat → Int} {an : Nat} {yp np : Int} {heap y n j : Nat} (h : j < an * 16 + 16) : layF f an yp np heap y n j = f j := if_neg (by omega)
theorem layF_in {f : Nat → Int} {an : Nat} {yp np : Int} {heap y n i : Nat} (h : i < n) : layF f an yp np heap y n (an * 16 + 16 + i) = newL f (an * 16) yp np heap y i := by
  unfold layF
  rw [if_pos (by omega), show an * 16 + 16 + i - (an * 16 + 16) = i by omega]
theorem layF_0 (f : Nat → Int) (an : Nat) (yp np : Int) (heap y : Nat) : layF f an yp np heap y 0 = f := by
  funext j
  exact if_neg (by omega)
theorem layF_succ (f : Nat → Int) (an : Nat) (yp np : Int) (heap y i : Nat) : uZ (layF f an yp np heap y i) (an * 16 + 16 + i) (newL f (an * 16) yp np heap y i) = layF f an yp np heap y (i + 1) := by
  funext j
  unfold uZ layF
  by_cases h : j = an * 16 + 16 + i
  · subst h
    rw [if_pos rfl, if_pos (by omega), show an * 16 + 16 + i - (an * 16 + 16) = i by omega]
  · rw [if_neg h]
    by_cases h2 : an * 16 + 16 ≤ j ∧ j < an * 16 + 16 + i
    · rw [if_pos h2, if_pos (by omega)]
    · rw [if_neg h2, if_neg (by omega)]
theorem newL_rng {f : Nat → Int} (hf : ∀ j, -1 ≤ f j ∧ f j ≤ 3) {r : Nat} {yp np : Int} (hy : 0 ≤ yp ∧ yp ≤ 9) (hn : 0 ≤ np ∧ np ≤ 9) (heap y i : Nat) : -1 ≤ newL f r yp np heap y i ∧ newL f r yp np heap y i ≤ 3 := by
  have h := hf (r + i)
  unfold newL prc
  split
  · omega
  · split <;> omega
theorem layF_rng {f : Nat → Int} (hf : ∀ j, -1 ≤ f j ∧ f j ≤ 3) {an : Nat} {yp np : Int} (hy : 0 ≤ yp ∧ yp ≤ 9) (hn : 0 ≤ np ∧ np ≤ 9) (heap y n : Nat) : ∀ j, -1 ≤ layF f an yp np heap y n j ∧ layF f an yp np heap y n j ≤ 3 := by
  intro j
  unfold layF
  split
  · exact newL_rng hf hy hn _ _ _
  · exact hf j
def fillF (f : Nat → Int) (x : Int) (n : Nat) : Nat → Int := fun j => if j < n then x else f j
theorem fillF_0 (f : Nat → Int) (x : Int) : fillF f x 0 = f := by funext j; exact if_neg (by omega)
theorem fillF_succ (f : Nat → Int) (x : Int) (i : Nat) : uZ (fillF f x i) i x = fillF f x (i + 1) := by
  funext j
  unfold uZ fillF
  by_cases h : j = i
  · subst h; rw [if_pos rfl, if_pos (by omega)]
  · rw [if_neg h]
    by_cases h2 : j < i
    · rw [if_pos h2, if_pos (by omega)]
    · rw [if_neg h2, if_neg (by omega)]
/-- forgetting locals: those with false -/
def mask : List Bool → List (Option Value) → List (Option Value)
  | true :: m, x :: r => x :: mask m r
  | false :: m, _ :: r => none :: mask m r
  | _, _ => []
theorem subL_mask : ∀ (m : List Bool) (lv : List (Option Value)), subL (mask m lv) lv := by
  intro m
  induction m with
  | nil => intro lv; simp [mask, subL]
  | cons b m ih =>
    intro lv
    cases lv with
    | nil => cases b <;> simp [mask, subL]
    | cons x r =>
      cases b with
      | false => simp only [mask, subL]; exact ih r
      | true =>
        cases x with
        | none => simp only [mask, subL]; exact ih r
        | some v => simp only [mask, subL]; exact ⟨trivial, ih r⟩
theorem V.mask {κ : Kx} {k : Cx} {nL cs ss pc : Nat} {Q : State → Prop} {lv lv' : List (Option Value)} {st : List Value} {σ : St} (m : List Bool) (hm : mask m lv = lv') (kk : V κ k nL cs ss Q pc lv' st σ) : V κ k nL cs ss Q pc lv st σ := by
  subst hm
  exact V.less (subL_mask m lv) kk
def uN (f : Nat → Nat) (i x : Nat) : Nat → Nat := fun j => if j = i then x else f j
theorem uZ_uN (f : Nat → Nat) (i x : Nat) : uZ (fun j => (f j : Int)) i (x : Int) = fun j => (uN f i x j : Int) := by
  funext j
  unfold uZ uN
  by_cases h : j = i <;> simp [h]
theorem r_cast {κ : Kx} {k : Cx} {nL cs ss pc : Nat} {Q : State → Prop} {lv : List (Option Value)} {st : List Value} {σ : St} {x y : Int32} (e : x = y) (kk : V κ k nL cs ss Q pc lv (.int y :: st) σ) : V κ k nL cs ss Q pc lv (.int x :: st) σ := by rw [e]; exact kk
/-- the word of NUMBER i: bit j tells whether question j has it -/
def wd (qs : Nat → Nat) : Nat → Nat → Nat
  | 0, _ => 0
  | q + 1, i => wd qs q i + bt (qs q) i * 2 ^ q
theorem wd_lt (qs : Nat → Nat) : ∀ q i, wd qs q i < 2 ^ q
  | 0, _ => Nat.zero_lt_one
  | q + 1, i => by
    have h := wd_lt qs q i
    have hb := bt_lt (qs q) i
    rw [wd, Nat.pow_succ]
    rcases (show bt (qs q) i = 0 ∨ bt (qs q) i = 1 by omega) with e | e <;> rw [e] <;> omega
theorem wd_congr {f g : Nat → Nat} : ∀ {q : Nat}, (∀ j, j < q → f j = g j) → ∀ i, wd f q i = wd g q i
  | 0, _, _ => rfl
  | q + 1, h, i => by rw [wd, wd, wd_congr (fun j hj => h j (by omega)) i, h q (by omega)]
theorem wd_mod (qs : Nat → Nat) (q i : Nat) : wd qs (q + 1) i % 2 ^ q = wd qs q i := by
  rw [wd, Nat.add_mul_mod_self_right]
  exact Nat.mod_eq_of_lt (wd_lt qs q i)
theorem pw12 {q : Nat} (h : q ≤ 12) : 2 ^ q ≤ 4096 := Nat.pow_le_pow_right (by decide) h
theorem orW {a q b : Nat} (h : a < 2 ^ q) : iZ (a : Int) ||| iZ ((b * 2 ^ q : Nat) : Int) = iZ ((a + b * 2 ^ q : Nat) : Int) := by
  rw [orZ, Nat.or_comm, Nat.mul_comm, ← Nat.two_pow_add_eq_or_of_lt h, Nat.add_comm]
def addW (w : Nat → Int) (heap q n : Nat) : Nat → Int := fun j => if j < n then w j + ((bt heap j * 2 ^ q : Nat) : Int) else w j
theorem addW_0 (w : Nat → Int) (heap q : Nat) : addW w heap q 0 = w := by funext j; exact if_neg (by omega)
theorem addW_succ (w : Nat → Int) (heap q i : Nat) : uZ (addW w heap q i) i (w i + ((bt heap i * 2 ^ q : Nat) : Int)) = addW w heap q (i + 1) := by
  funext j
  unfold uZ addW
  by_cases h : j = i
  · subst h; rw [if_pos rfl, if_pos (by omega)]
  · rw [if_neg h]
    by_cases h2 : j < i
    · rw [if_pos h2, if_pos (by omega)]
    · rw [if_neg h2, if_neg (by omega)]
theorem addW_at (w : Nat → Int) (heap q i : Nat) : addW w heap q i i = w i := if_neg (by omega)
def cutW (w : Nat → Int) (q n : Nat) : Nat → Int := fun j => if j < n then (((w j).toNat % 2 ^ q : Nat) : Int) else w j
theorem cutW_0 (w : Nat → Int) (q : Nat) : cutW w q 0 = w := by funext j; exact if_neg (by omega)
theorem cutW_succ (w : Nat → Int) (q i : Nat) : uZ (cutW w q i) i (((w i).toNat % 2 ^ q : Nat) : Int) = cutW w q (i + 1) := by
  funext j
  unfold uZ cutW
  by_cases h : j = i
  · subst h; rw [if_pos rfl, if_pos (by omega)]
  · rw [if_neg h]
    by_cases h2 : j < i
    · rw [if_pos h2, if_pos (by omega)]
    · rw [if_neg h2, if_neg (by omega)]
theorem cutW_at (w : Nat → Int) (q i : Nat) : cutW w q i i = w i := if_neg (by omega)
