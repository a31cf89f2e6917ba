/-! numbers: bits, division; rows for arrays by natural places; the objects -/
theorem sUp_sUp (σ : St) (a : Nat) (e e' : va_E) : sUp (sUp σ a e) a e' = sUp σ a e' := by
  unfold sUp
  congr 1
  funext x
  by_cases h : x = a <;> simp [h]
theorem sUp_comm (σ : St) {a b : Nat} (e e' : va_E) (h : a ≠ b) : sUp (sUp σ a e) b e' = sUp (sUp σ b e') a e := by
  unfold sUp
  congr 1
  funext x
  by_cases h1 : x = a
  · subst h1; simp [h]
  · by_cases h2 : x = b <;> simp [h1, h2, Ne.symm h]
theorem sUp_id {σ : St} {a : Nat} {e : va_E} (h : σ.2 a = some e) : sUp σ a e = σ := by
  unfold sUp
  refine Prod.ext rfl ?_
  funext x
  by_cases h1 : x = a
  · subst h1; simp [h]
  · simp [h1]
theorem nZ (n : Nat) : iZ (n : Int) = nI n := by
  apply Int32.toBitVec_inj.mp
  simp [iZ, nI]
theorem andZ (a b : Nat) : iZ (a : Int) &&& iZ (b : Int) = iZ ((a &&& b : Nat) : Int) := by
  rw [nZ, nZ, nZ]
  apply Int32.toBitVec_inj.mp
  simp [nI]
theorem orZ (a b : Nat) : iZ (a : Int) ||| iZ (b : Int) = iZ ((a ||| b : Nat) : Int) := by
  rw [nZ, nZ, nZ]
  apply Int32.toBitVec_inj.mp
  simp [nI]
theorem xorZ (a b : Nat) : iZ (a : Int) ^^^ iZ (b : Int) = iZ ((a ^^^ b : Nat) : Int) := by
  rw [nZ, nZ, nZ]
  apply Int32.toBitVec_inj.mp
  simp [nI]
theorem amt {i : Nat} (hi : i < 32) : iZ (i : Int) &&& 31 = nI i ∧ ((nI i).toBitVec.smod 32).toNat = i := by
  have h : ∀ j : Nat, j < 32 → iZ (j : Int) &&& 31 = nI j ∧ ((nI j).toBitVec.smod 32).toNat = j := by decide +kernel
  exact h i hi
theorem shrZ {a i : Nat} (ha : a < 2 ^ 31) (hi : i < 32) : iZ (a : Int) >>> (iZ (i : Int) &&& 31) = iZ ((a / 2 ^ i : Nat) : Int) := by
  rw [(amt hi).1, nZ, nZ]
  exact pk_shrN ha _ i (amt hi).2
theorem shlZ {a i : Nat} (ha : a * 2 ^ i < 2 ^ 32) (hi : i < 32) : iZ (a : Int) <<< (iZ (i : Int) &&& 31) = iZ ((a * 2 ^ i : Nat) : Int) := by
  rw [(amt hi).1, nZ, nZ]
  exact pk_shlN _ i (amt hi).2 ha
theorem divZ {a d : Nat} (ha : a < 2 ^ 31) (h0 : 0 < d) (hd : d < 2 ^ 31) : iZ (a : Int) / iZ (d : Int) = iZ ((a / d : Nat) : Int) := by
  rw [nZ, nZ, nZ]; exact pk_div ha h0 hd
theorem remZ {a d : Nat} (ha : a < 2 ^ 31) (h0 : 0 < d) (hd : d < 2 ^ 31) : iZ (a : Int) - iZ (a : Int) / iZ (d : Int) * iZ (d : Int) = iZ ((a % d : Nat) : Int) := by
  rw [nZ, nZ, nZ]; exact pk_rem ha h0 hd
theorem neZ {d : Nat} (h0 : 0 < d) (hd : d < 2 ^ 31) : ¬ iZ (d : Int) = 0 := by
  rw [nZ]; exact nI_ne0 h0 hd
/-- bit i of h, as a number -/
def bt (h i : Nat) : Nat := h / 2 ^ i % 2
theorem bt_lt (h i : Nat) : bt h i < 2 := Nat.mod_lt _ (by decide)
theorem and1Z (a : Nat) : iZ (a : Int) &&& iZ 1 = iZ ((a % 2 : Nat) : Int) := by
  have := andZ a 1
  rw [Nat.and_one_is_mod] at this
  exact this
section VNAT
variable {κ : Kx} {k : Cx} {cc : ByteArray} {nL : Nat} {own : String} {ret : Option FieldType} {nm : String} {h MC MS : Nat} {cs ss : Nat} {Q : State → Prop} {pc : Nat} {lv lv' : List (Option Value)} {st : List Value} {σ : St}
theorem r_ialdN (S : Ok κ k cc nL own ret nm h MC MS) {a n : Nat} {f : Nat → Int} {z : Int} (i : Nat) (d : decode cc pc = .ok (.iaload, 1)) (hσ : σ.2 a = some (eI k n f)) (hz : z = (i : Int)) (hi : i < n) (hn : n ≤ 2147483647) (kk : V κ k nL cs ss Q (pc + 1) lv (.int (iZ (f i)) :: st) σ) : V κ k nL cs ss Q pc lv (.int (iZ z) :: .ref a :: st) σ := by
  subst hz
  exact r_iald S d hσ ⟨by omega, by omega⟩ hn (by rw [Int.toNat_natCast]; exact kk)
theorem r_baldN (S : Ok κ k cc nL own ret nm h MC MS) {a n : Nat} {f : Nat → Int} {z : Int} (i : Nat) (d : decode cc pc = .ok (.baload, 1)) (hσ : σ.2 a = some (eB k n f)) (hz : z = (i : Int)) (hi : i < n) (hn : n ≤ 2147483647) (kk : V κ k nL cs ss Q (pc + 1) lv (.int (iZ (f i)) :: st) σ) : V κ k nL cs ss Q pc lv (.int (iZ z) :: .ref a :: st) σ := by
  subst hz
  exact r_bald S d hσ ⟨by omega, by omega⟩ hn (by rw [Int.toNat_natCast]; exact kk)
theorem r_iastN (S : Ok κ k cc nL own ret nm h MC MS) {a n : Nat} {f : Nat → Int} {z x : Int} (i : Nat) (d : decode cc pc = .ok (.iastore, 1)) (hσ : σ.2 a = some (eI k n f)) (hz : z = (i : Int)) (hi : i < n) (hn : n ≤ 2147483647) (kk : V κ k nL cs ss Q (pc + 1) lv st (sUp σ a (eI k n (uZ f i x)))) : V κ k nL cs ss Q pc lv (.int (iZ x) :: .int (iZ z) :: .ref a :: st) σ := by
  subst hz
  exact r_iast S d hσ ⟨by omega, by omega⟩ hn (by rw [Int.toNat_natCast]; exact kk)
theorem r_bastN (S : Ok κ k cc nL own ret nm h MC MS) {a n : Nat} {f : Nat → Int} {z x : Int} (i : Nat) (d : decode cc pc = .ok (.bastore, 1)) (hσ : σ.2 a = some (eB k n f)) (hz : z = (i : Int)) (hi : i < n) (hn : n ≤ 2147483647) (hx1 : narrow .byte (.int (iZ x)) = .int (iZ x)) (kk : V κ k nL cs ss Q (pc + 1) lv st (sUp σ a (eB k n (uZ f i x)))) : V κ k nL cs ss Q pc lv (.int (iZ x) :: .int (iZ z) :: .ref a :: st) σ := by
  subst hz
  exact r_bast S d hσ ⟨by omega, by omega⟩ hn hx1 (by rw [Int.toNat_natCast]; exact kk)
theorem r_paldN (S : Ok κ k cc nL own ret nm h MC MS) {z : Int} (i : Nat) (d : decode cc pc = .ok (.iaload, 1)) (hz : z = (i : Int)) (hi : i < 68) (kk : V κ k nL cs ss Q (pc + 1) lv (.int (iZ (plF i)) :: st) σ) : V κ k nL cs ss Q pc lv (.int (iZ z) :: .ref (cPl k) :: st) σ := by
  subst hz
  exact r_pald S d ⟨by omega, by omega⟩ (by rw [Int.toNat_natCast]; exact kk)
theorem r_aaldN (S : Ok κ k cc nL own ret nm h MC MS) {a n t0 : Nat} {cA : ClassId} {C : String} {f : Nat → Option Nat} {z : Int} {v : Value} (i : Nat) (ht : (cTys k)[t0]? = some (cA, .object C)) (d : decode cc pc = .ok (.aaload, 1)) (hσ : σ.2 a = some (eQ cA n f)) (hz : z = (i : Int)) (hi : i < n) (hn : n ≤ 2147483647) (hv : va_rf (f i) = v) (kk : V κ k nL cs ss Q (pc + 1) lv (v :: st) σ) : V κ k nL cs ss Q pc lv (.int (iZ z) :: .ref a :: st) σ := by
  subst hz
  exact r_aald S ht d hσ ⟨by omega, by omega⟩ hn (by rw [Int.toNat_natCast]; exact hv) kk
/-- the number on the stack, written otherwise -/
theorem r_num {z z' : Int} (e : z = z') (kk : V κ k nL cs ss Q pc lv (.int (iZ z') :: st) σ) : V κ k nL cs ss Q pc lv (.int (iZ z) :: st) σ := by rw [e]; exact kk
end VNAT
/-- the objects: their fields in the order of the slots -/
abbrev oX (k : Cx) (tb : Int) : va_E := .inr (10, [.ref (cBase k + 1), .ref (cBase k + 5), .ref (cBase k + 6), .ref (cBase k + 7), .ref (cBase k + 8), .ref (cBase k + 9), .ref (cBase k + 11), .int (iZ tb)])
abbrev oTally (z : Int) : va_E := .inr (8, [.long (lZ z)])
abbrev oGame (k : Cx) (on kd n e an wt yp np : Int) : va_E := .inr (3, [.int (iZ on), .int (iZ kd), .int (iZ n), .int (iZ e), .int (iZ an), .int (iZ wt), .int (iZ yp), .int (iZ np), .ref (cBase k + 10)])
abbrev oCode (k : Cx) (sz : Int) : va_E := .inr (2, [.ref (cBase k + 12), .ref (cBase k + 13), .int (iZ sz)])
abbrev oModel (k : Cx) (hg kd n e an wt tb q tr sk sm : Int) : va_E := .inr (11, [.int (iZ hg), .int (iZ kd), .int (iZ n), .int (iZ e), .int (iZ an), .int (iZ wt), .ref (cBase k + 15), .ref (cBase k + 16), .int (iZ tb), .int (iZ q), .ref (cBase k + 17), .long (lZ tr), .ref (cBase k + 18), .int (iZ sk), .int (iZ sm), .ref (cBase k + 19), .ref (cBase k + 20), .ref (cBase k + 21), .ref (cBase k + 22), .ref (cBase k + 23), .ref (cBase k + 24)])
/-- how many of 0 .. n - 1 -/
def cnt (p : Nat → Bool) : Nat → Nat
  | 0 => 0
  | n + 1 => cnt p n + (if p n then 1 else 0)
theorem cnt_le (p : Nat → Bool) : ∀ n, cnt p n ≤ n
  | 0 => Nat.le_refl 0
  | n + 1 => by
    have := cnt_le p n
    rw [cnt]
    split <;> omega
theorem cnt_succ (p : Nat → Bool) (n : Nat) : cnt p (n + 1) = cnt p n + (if p n then 1 else 0) := rfl
theorem cnt_congr {p q : Nat → Bool} : ∀ {n : Nat}, (∀ i, i < n → p i = q i) → cnt p n = cnt q n
  | 0, _ => rfl
  | n + 1, h => by rw [cnt, cnt, cnt_congr (fun i hi => h i (by omega)), h n (by omega)]
