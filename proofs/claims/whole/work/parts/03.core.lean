/-! the store, the context, the judgement V: "the machine, at this pc with these locals, this stack and this store, comes to Q" -/
def iZ (z : Int) : Int32 := Int32.ofInt z
def lZ (z : Int) : Int64 := Int64.ofInt z
def zR (a : Int) : Prop := -2147483648 ≤ a ∧ a ≤ 2147483647
theorem iZ_add (a b : Int) : iZ a + iZ b = iZ (a + b) := (Int32.ofInt_add a b).symm
theorem iZ_sub (a b : Int) : iZ a - iZ b = iZ (a - b) := (Int32.ofInt_sub a b).symm
theorem iZ_mul (a b : Int) : iZ a * iZ b = iZ (a * b) := (Int32.ofInt_mul a b).symm
theorem iZ_neg (a : Int) : -iZ a = iZ (-a) := (Int32.ofInt_neg a).symm
theorem lZ_add (a b : Int) : lZ a + lZ b = lZ (a + b) := (Int64.ofInt_add a b).symm
theorem lZ_mul (a b : Int) : lZ a * lZ b = lZ (a * b) := (Int64.ofInt_mul a b).symm
theorem iZ_toInt {a : Int} (h : zR a) : (iZ a).toInt = a := Int32.toInt_ofInt_of_le (by have := h.1; simpa using this) (by have := h.2; omega)
theorem iZ_of (x : Int32) : x = iZ x.toInt := (Int32.ofInt_toInt x).symm
theorem zR_of (x : Int32) : zR x.toInt := ⟨Int32.le_toInt x, by have := Int32.toInt_lt x; omega⟩
theorem iZ_lt {a b : Int} (ha : zR a) (hb : zR b) : iZ a < iZ b ↔ a < b := by rw [Int32.lt_iff_toInt_lt, iZ_toInt ha, iZ_toInt hb]
theorem iZ_le {a b : Int} (ha : zR a) (hb : zR b) : iZ a ≤ iZ b ↔ a ≤ b := by rw [Int32.le_iff_toInt_le, iZ_toInt ha, iZ_toInt hb]
theorem iZ_inj {a b : Int} (ha : zR a) (hb : zR b) : iZ a = iZ b ↔ a = b := ⟨fun h => by rw [← iZ_toInt ha, ← iZ_toInt hb, h], fun h => by rw [h]⟩
theorem iZ_clamp {i : Int} (h0 : 0 ≤ i) (h1 : i ≤ 2147483647) : (iZ i).toNatClampNeg = i.toNat := by
  have e : (iZ i).toInt = i := iZ_toInt ⟨by omega, h1⟩
  show (iZ i).toInt.toNat = i.toNat
  rw [e]
theorem iZ_in {i : Int} {n : Nat} (h0 : 0 ≤ i) (h1 : i < n) (hn : n ≤ 2147483647) : vp_in (iZ i) n := by
  rintro (h | h)
  · rw [Int32.lt_iff_toInt_lt, iZ_toInt ⟨by omega, by omega⟩] at h
    simp at h
    omega
  · rw [iZ_clamp h0 (by omega)] at h
    omega
theorem iZ_nn {i : Int} (h0 : 0 ≤ i) (h1 : i ≤ 2147483647) : ¬ iZ i < 0 := by
  intro h
  rw [Int32.lt_iff_toInt_lt, iZ_toInt ⟨by omega, h1⟩] at h
  simp at h
  omega
theorem iZ_0 : iZ 0 = 0 := by decide
/-- stores -/
abbrev St : Type := Nat × (Nat → Option va_E)
def sUp (σ : St) (a : Nat) (e : va_E) : St := (σ.1, fun x => if x = a then some e else σ.2 x)
def sNew (σ : St) (e : va_E) : St := (σ.1 + 1, fun x => if x = σ.1 then some e else σ.2 x)
theorem sUp_1 (σ : St) (a : Nat) (e : va_E) : (sUp σ a e).1 = σ.1 := rfl
theorem sNew_1 (σ : St) (e : va_E) : (sNew σ e).1 = σ.1 + 1 := rfl
theorem sUp_same {σ : St} {a : Nat} {e : va_E} : (sUp σ a e).2 a = some e := if_pos rfl
theorem sUp_ne {σ : St} {a b : Nat} {e : va_E} {x : Option va_E} (h : b ≠ a) (hb : σ.2 b = x) : (sUp σ a e).2 b = x := (if_neg h).trans hb
theorem sNew_same {σ : St} {e : va_E} : (sNew σ e).2 σ.1 = some e := if_pos rfl
theorem sNew_ne {σ : St} {b : Nat} {e : va_E} {x : Option va_E} (h : b ≠ σ.1) (hb : σ.2 b = x) : (sNew σ e).2 b = x := (if_neg h).trans hb
/-- context: class numbers; the base; the script (address, length, ints); the address of PLACES; the array classes int, byte, Liar, HeapTable, SpanTable -/
abbrev Cx : Type := va_G × Nat × (Nat × Nat × (Nat → Int)) × Nat × (ClassId × ClassId × ClassId × ClassId × ClassId)
def cD (k : Cx) : va_G := k.1
def cBase (k : Cx) : Nat := k.2.1
def cScr (k : Cx) : Nat := k.2.2.1.1
def cLen (k : Cx) : Nat := k.2.2.1.2.1
def cXs (k : Cx) : Nat → Int := k.2.2.1.2.2
def cPl (k : Cx) : Nat := k.2.2.2.1
def cI (k : Cx) : ClassId := k.2.2.2.2.1
def cB (k : Cx) : ClassId := k.2.2.2.2.2.1
def cQL (k : Cx) : ClassId := k.2.2.2.2.2.2.1
def cQH (k : Cx) : ClassId := k.2.2.2.2.2.2.2.1
def cQS (k : Cx) : ClassId := k.2.2.2.2.2.2.2.2
def cTys (k : Cx) : List (ClassId × FieldType) := [(cI k, .int), (cB k, .byte), (cQL k, .object "LiarsAnswers$Liar"), (cQH k, .object "LiarsAnswers$HeapTable"), (cQS k, .object "LiarsAnswers$SpanTable")]
def cA (k : Cx) : Nat → Prop := fun q => cBase k ≤ q
/-- cells -/
abbrev eO (ci : Nat) (fs : List Value) : va_E := .inr (ci, fs)
def eI (k : Cx) (n : Nat) (f : Nat → Int) : va_E := .inl (cI k, n, .inl (fun j => iZ (f j)))
def eB (k : Cx) (n : Nat) (f : Nat → Int) : va_E := .inl (cB k, n, .inl (fun j => iZ (f j)))
def eQ (c : ClassId) (n : Nat) (f : Nat → Option Nat) : va_E := .inl (c, n, .inr (.inr (.inr (.inr f))))
def uZ (f : Nat → Int) (i : Nat) (x : Int) : Nat → Int := fun j => if j = i then x else f j
def uQ (f : Nat → Option Nat) (i : Nat) (x : Nat) : Nat → Option Nat := fun j => if j = i then some x else f j
def plL : List Int := [0, 1, 2, 3, 4, 5, 6, 7, 8, 9, 10, 11, 12, 13, 14, 15, 16, 0, 16, 31, 45, 58, 70, 81, 91, 100, 108, 115, 121, 126, 130, 133, 135, 136, 0, 136, 256, 361, 452, 530, 596, 651, 696, 732, 760, 781, 796, 806, 812, 815, 816, 0, 816, 1496, 2056, 2511, 2875, 3161, 3381, 3546, 3666, 3750, 3806, 3841, 3861, 3871, 3875, 3876]
def plF (j : Nat) : Int := plL.getD j 0
/-- the heap holds the store -/
def Rep (k : Cx) (σ : St) (H : Heap) : Prop := H.size = σ.1 ∧ ∀ (a : Nat) (e : va_E), σ.2 a = some e → va_at (cD k) vwCl (a, e) H ∧ cBase k ≤ a
/-- words that hold at a warmer state too, though they are no good words -/
def isNw : Cond → Bool
  | .methodLinkNest _ _ _ _ => true
  | .castable _ _ => true
  | .declares _ => true
  | .arrayOver (.object _) => true
  | _ => false
theorem nw_warm {s U : State} (hW : s.WarmedH U.vm) {w : Cond} (h : isNw w = true) (hZ : va_Nw w s) : va_Nw w U := by
  unfold isNw at h
  split at h
  · exact va_Nw.warmM hW hZ
  · exact va_Nw.warmC hW hZ
  · exact va_Nw.warmD hW hZ
  · exact va_AO.moved hW.alike hZ
  · cases h
/-- what was there before: the tables, the script, PLACES -/
def Old (k : Cx) (U : State) : Prop := va_K (cD k) vwCl (cTys k) U ∧ cBase k ≤ U.heap.size ∧ va_X (cScr k) (cLen k) (fun j => iZ (cXs k j)) U U.heap ∧ cScr k < cBase k ∧ va_Z "LiarsAnswers" "PLACES" "[I" (.ref (cPl k)) (cA k) U U.heap ∧ va_T .int (cPl k) 68 (fun j => .int (iZ (plF j))) (cA k) U U.heap ∧ ∀ w ∈ lw_tbl, isNw w = true → va_Nw w U
theorem Old.moved {k : Cx} {u U : State} (hW : u.WarmedH U.vm) (hz : u.heap.size ≤ U.heap.size) (hq : ∀ q : Nat, q < u.heap.size → ¬ cA k q → U.heap[q]? = u.heap[q]?) (h : Old k u) : Old k U := by
  have hvm := hW.alike
  obtain ⟨h1, h2, h3, h4, h5, h6, h7⟩ := h
  refine ⟨va_K.moved hvm h1, Nat.le_trans h2 hz, ?_, h4, ?_, ?_, fun w hw hn => nw_warm hW hn (h7 w hw hn)⟩
  · exact (va_X.moved hvm h3).kept (hq _ (Nat.lt_of_lt_of_le h4 h2) (Nat.not_le.mpr h4))
  · exact (va_Z.moved hvm h5).kept hq
  · exact (va_T.moved hvm h6).kept hq
/-- the machine at a method: program, launch, environment, room, entry state, method, arguments, frames below, method, code -/
abbrev Kx : Type := Program × Launch × Env × Room × State × MethodId × Array Value × List Frame × Method × Code
def lvl : Nat → List (Option Value) → List (Nat × Value)
  | _, [] => []
  | i, none :: r => lvl (i + 1) r
  | i, some v :: r => (i, v) :: lvl (i + 1) r
def V (κ : Kx) (k : Cx) (nL cs ss : Nat) (Q : State → Prop) (pc : Nat) (lv : List (Option Value)) (st : List Value) (σ : St) : Prop :=
  ∀ (H : Heap) (locs : List Loc) (ls : Array Slot), Rep k σ H → va_S (cA k) κ.2.2.2.2.1.heap H locs → lv_has ls nL (lvl 0 lv) →
    W κ.1 κ.2.1 κ.2.2.1 κ.2.2.2.1 κ.2.2.2.2.1 κ.2.2.2.2.2.1 κ.2.2.2.2.2.2.1 κ.2.2.2.2.2.2.2.1 κ.2.2.2.2.2.2.2.2.1 κ.2.2.2.2.2.2.2.2.2 H locs cs ss Q (F0 κ.2.2.2.2.2.1 pc ls st)
/-- the words: those of the tables that hold at every warmer state, and two that follow (a private method of HeapWalk, called on its subclasses) -/
def gtX : List Cond := [.selects RX0 yX5_down yX5_down, .selects RX6 yX5_down yX5_down]
def gt : List Cond := gtX ++ lw_tbl.filter goodWord
theorem gt_of {w : Cond} (h : w ∈ lw_tbl) (hg : goodWord w = true) : w ∈ gt := List.mem_append_right _ (List.mem_filter.mpr ⟨h, hg⟩)
theorem gtx_0 : Cond.selects RX0 yX5_down yX5_down ∈ gt := List.mem_append_left _ List.mem_cons_self
theorem gtx_5 : Cond.selects RX6 yX5_down yX5_down ∈ gt := List.mem_append_left _ (List.mem_cons_of_mem _ List.mem_cons_self)
theorem gt_word {w : Cond} (h : w ∈ gt) : goodWord w = true := by
  rcases List.mem_append.mp h with e | e
  · revert w
    decide +kernel
  · exact (List.mem_filter.mp e).2
def Ok (κ : Kx) (k : Cx) (cc : ByteArray) (nL : Nat) (own : String) (ret : Option FieldType) (nm : String) (h MC MS : Nat) : Prop :=
  CallFix κ.1 κ.2.2.2.2.2.1 κ.2.2.2.2.2.2.2.2.2 cc nL κ.2.2.2.2.1 κ.2.2.2.2.2.2.1 gt own ∧ Old k κ.2.2.2.2.1 ∧ κ.2.2.2.2.2.2.2.2.1.locks = false ∧ κ.2.2.2.2.2.2.2.2.1.sig.returnType = ret ∧ κ.2.2.2.2.2.2.2.2.1.name = nm ∧
    h ≤ κ.2.2.2.1.frames ∧ 40 * h ≤ κ.2.2.2.1.locals ∧ κ.2.2.2.1.cells = MC ∧ κ.2.2.2.1.slots = MS
theorem lvl_mem {i j : Nat} {v : Value} : ∀ {lv : List (Option Value)}, (j, v) ∈ lvl i lv ↔ ∃ n, lv[n]? = some (some v) ∧ j = i + n := by
  intro lv
  induction lv generalizing i with
  | nil => simp [lvl]
  | cons a r ih =>
    cases a with
    | none =>
      rw [lvl, ih]
      constructor
      · rintro ⟨n, h, e⟩
        exact ⟨n + 1, by simpa using h, by omega⟩
      · rintro ⟨n, h, e⟩
        cases n with
        | zero => simp at h
        | succ n => exact ⟨n, by simpa using h, by omega⟩
    | some w =>
      rw [lvl, List.mem_cons, ih]
      constructor
      · rintro (h | ⟨n, h, e⟩)
        · cases h
          exact ⟨0, by simp, by omega⟩
        · exact ⟨n + 1, by simpa using h, by omega⟩
      · rintro ⟨n, h, e⟩
        cases n with
        | zero =>
          simp at h
          subst h
          left
          rw [e]; rfl
        | succ n => exact Or.inr ⟨n, by simpa using h, by omega⟩
theorem lvl_at {ls : Array Slot} {nL : Nat} {lv : List (Option Value)} (h : lv_has ls nL (lvl 0 lv)) {i : Nat} {v : Value} (hv : lv[i]? = some (some v)) : ls[i]? = some (.val v) :=
  h.2.2 (i, v) (lvl_mem.mpr ⟨i, hv, by omega⟩)
theorem lvl_sub {ls : Array Slot} {nL : Nat} {l l' : List (Nat × Value)} (h : lv_has ls nL l) (hs : ∀ q ∈ l', q ∈ l) : lv_has ls nL l' := ⟨h.1, h.2.1, fun q hq => h.2.2 q (hs q hq)⟩
/-- no long stands just before slot i -/
def noL (lv : List (Option Value)) (i : Nat) : Bool := match i with
  | 0 => true
  | j + 1 => match lv[j]? with
    | some (some v) => v.category == 1
    | _ => true
theorem lvl_set1 {lv : List (Option Value)} {i : Nat} {v : Value} (hp : noL lv i = true) : ∀ q ∈ lvl 0 (lv.set i (some v)), q ∈ (i, v) :: (lvl 0 lv).filter (fun q => !(q.1 == i) && !(q.1 + 1 == i && q.2.category == 2)) := by
  rintro ⟨j, w⟩ hq
  obtain ⟨n, h, e⟩ := lvl_mem.mp hq
  have e : j = n := by omega
  subst e
  by_cases hj : i = j
  · subst hj
    rw [List.getElem?_set_self'] at h
    cases hx : lv[i]? with
    | none => rw [hx] at h; cases h
    | some y =>
      rw [hx] at h
      simp at h
      rw [h]
      exact List.mem_cons_self
  · rw [List.getElem?_set_ne hj] at h
    refine List.mem_cons_of_mem _ (List.mem_filter.mpr ⟨lvl_mem.mpr ⟨j, h, by omega⟩, ?_⟩)
    simp only [Bool.and_eq_true, Bool.not_eq_true', beq_eq_false_iff_ne, ne_eq, Bool.and_eq_false_iff]
    refine ⟨fun z => hj z.symm, ?_⟩
    by_cases h1 : j + 1 = i
    · right
      subst h1
      simp only [noL, h] at hp
      intro h2
      rw [h2] at hp
      exact absurd hp (by decide)
    · exact Or.inl h1
theorem lvl_set2 {lv : List (Option Value)} {i : Nat} {v : Value} (hp : noL lv i = true) : ∀ q ∈ lvl 0 ((lv.set i (some v)).set (i + 1) none), q ∈ (i, v) :: (lvl 0 lv).filter (fun q => !(q.1 == i) && (!(q.1 == i + 1) && !(q.1 + 1 == i && q.2.category == 2))) := by
  rintro ⟨j, w⟩ hq
  obtain ⟨n, h, e⟩ := lvl_mem.mp hq
  have e : j = n := by omega
  subst e
  by_cases hk : i + 1 = j
  · subst hk
    rw [List.getElem?_set_self'] at h
    cases hx : (lv.set i (some v))[i + 1]? with
    | none => rw [hx] at h; cases h
    | some y => rw [hx] at h; simp at h
  rw [List.getElem?_set_ne hk] at h
  by_cases hj : i = j
  · subst hj
    rw [List.getElem?_set_self'] at h
    cases hx : lv[i]? with
    | none => rw [hx] at h; cases h
    | some y =>
      rw [hx] at h
      simp at h
      rw [h]
      exact List.mem_cons_self
  · rw [List.getElem?_set_ne hj] at h
    refine List.mem_cons_of_mem _ (List.mem_filter.mpr ⟨lvl_mem.mpr ⟨j, h, by omega⟩, ?_⟩)
    simp only [Bool.and_eq_true, Bool.not_eq_true', beq_eq_false_iff_ne, ne_eq, Bool.and_eq_false_iff]
    refine ⟨fun z => hj z.symm, fun z => hk z.symm, ?_⟩
    by_cases h1 : j + 1 = i
    · right
      subst h1
      simp only [noL, h] at hp
      intro h2
      rw [h2] at hp
      exact absurd hp (by decide)
    · exact Or.inl h1
section VROWS
variable {κ : Kx} {k : Cx} {cc : ByteArray} {nL : Nat} {own : String} {ret : Option FieldType} {nm : String} {h MC MS : Nat} {cs ss : Nat} {Q : State → Prop} {pc : Nat} {lv lv' : List (Option Value)} {st : List Value} {σ : St}
/-- fewer known locals -/
def subL : List (Option Value) → List (Option Value) → Prop
  | [], _ => True
  | none :: a, _ :: b => subL a b
  | some x :: a, some y :: b => x = y ∧ subL a b
  | _, _ => False
theorem subL_mem {i : Nat} {q : Nat × Value} : ∀ {a b : List (Option Value)}, subL a b → q ∈ lvl i a → q ∈ lvl i b := by
  intro a
  induction a generalizing i with
  | nil => intro b _ h; cases h
  | cons x r ih =>
    intro b hs hq
    cases b with
    | nil => cases x <;> exact absurd hs (by simp [subL])
    | cons y t =>
      cases x with
      | none =>
        have h1 := ih (i := i + 1) (by simpa [subL] using hs) (by simpa [lvl] using hq)
        cases y with
        | none => simpa [lvl] using h1
        | some z => rw [lvl]; exact List.mem_cons_of_mem _ h1
      | some w =>
        cases y with
        | none => exact absurd hs (by simp [subL])
        | some z =>
          simp only [subL] at hs
          rw [lvl] at hq ⊢
          rcases List.mem_cons.mp hq with e | e
          · rw [e, hs.1]; exact List.mem_cons_self
          · exact List.mem_cons_of_mem _ (ih hs.2 e)
theorem V.less (hs : subL lv' lv) (kk : V κ k nL cs ss Q pc lv' st σ) : V κ k nL cs ss Q pc lv st σ := fun H locs ls hR hS hl => kk H locs ls hR hS (lvl_sub hl fun _ hq => subL_mem hs hq)
theorem V.wide {cs' ss' : Nat} (h1 : cs ≤ cs') (h2 : ss ≤ ss') (kk : V κ k nL cs' ss' Q pc lv st σ) : V κ k nL cs ss Q pc lv st σ := fun H locs ls hR hS hl => W.widen h1 h2 (kk H locs ls hR hS hl)
theorem V.at {pc' : Nat} (e : pc' = pc) (kk : V κ k nL cs ss Q pc' lv st σ) : V κ k nL cs ss Q pc lv st σ := e ▸ kk
-- ROWS
theorem r_iconst (S : Ok κ k cc nL own ret nm h MC MS) {n : Int} (d : decode cc pc = .ok (.iconst n, 1)) (kk : V κ k nL cs ss Q (pc + 1) lv (.int (iZ n) :: st) σ) : V κ k nL cs ss Q pc lv st σ := fun H locs ls hR hS hl => lv_iconst S.1.1 S.1.2.1 d rfl (kk H locs ls hR hS hl)
theorem r_bipush (S : Ok κ k cc nL own ret nm h MC MS) {n : Int} (d : decode cc pc = .ok (.bipush n, 2)) (hv : (Int8.ofInt n).toInt32 = iZ n) (kk : V κ k nL cs ss Q (pc + 2) lv (.int (iZ n) :: st) σ) : V κ k nL cs ss Q pc lv st σ := fun H locs ls hR hS hl => lv_bipush S.1.1 S.1.2.1 d hv (kk H locs ls hR hS hl)
theorem r_sipush (S : Ok κ k cc nL own ret nm h MC MS) {n : Int} (d : decode cc pc = .ok (.sipush n, 3)) (hv : (Int16.ofInt n).toInt32 = iZ n) (kk : V κ k nL cs ss Q (pc + 3) lv (.int (iZ n) :: st) σ) : V κ k nL cs ss Q pc lv st σ := fun H locs ls hR hS hl => lv_sipush S.1.1 S.1.2.1 d hv (kk H locs ls hR hS hl)
theorem r_ldc (S : Ok κ k cc nL own ret nm h MC MS) {i : Nat} {n : Int} (hw : Cond.constant own i (iZ n) ∈ gt) (d : decode cc pc = .ok (.ldc i, 2)) (kk : V κ k nL cs ss Q (pc + 2) lv (.int (iZ n) :: st) σ) : V κ k nL cs ss Q pc lv st σ := fun H locs ls hR hS hl => lv_ldc S.1.1 S.1.2.1 S.1.2.2.2.1 (S.1.2.2.2.2 _ hw) d (kk H locs ls hR hS hl)
theorem r_ldcw (S : Ok κ k cc nL own ret nm h MC MS) {i : Nat} {n : Int} (hw : Cond.constant own i (iZ n) ∈ gt) (d : decode cc pc = .ok (.ldc_w i, 3)) (kk : V κ k nL cs ss Q (pc + 3) lv (.int (iZ n) :: st) σ) : V κ k nL cs ss Q pc lv st σ := fun H locs ls hR hS hl => lv_ldcw S.1.1 S.1.2.1 S.1.2.2.2.1 (S.1.2.2.2.2 _ hw) d (kk H locs ls hR hS hl)
theorem r_lconst (S : Ok κ k cc nL own ret nm h MC MS) {n : Fin 2} {z : Int} (d : decode cc pc = .ok (.lconst n, 1)) (hv : Int64.ofNat (n : Nat) = lZ z) (kk : V κ k nL cs ss Q (pc + 1) lv (.long (lZ z) :: st) σ) : V κ k nL cs ss Q pc lv st σ := fun H locs ls hR hS hl => lv_lconst S.1.1 S.1.2.1 d hv (kk H locs ls hR hS hl)
theorem r_ldc2 (S : Ok κ k cc nL own ret nm h MC MS) {i : Nat} {n : Int} (hw : Cond.constantLong own i (lZ n) ∈ gt) (d : decode cc pc = .ok (.ldc2_w i, 3)) (kk : V κ k nL cs ss Q (pc + 3) lv (.long (lZ n) :: st) σ) : V κ k nL cs ss Q pc lv st σ := fun H locs ls hR hS hl => lv_ldc2 S.1.1 S.1.2.1 S.1.2.2.2.1 (S.1.2.2.2.2 _ hw) d (kk H locs ls hR hS hl)
theorem r_iload_n (S : Ok κ k cc nL own ret nm h MC MS) {j : Fin 4} {x : Int32} (d : decode cc pc = .ok (.iload_n j, 1)) (hv : lv[(j : Nat)]? = some (some (.int x))) (kk : V κ k nL cs ss Q (pc + 1) lv (.int x :: st) σ) : V κ k nL cs ss Q pc lv st σ := fun H locs ls hR hS hl => lv_iload_n S.1.1 S.1.2.1 d rfl (lvl_at hl hv) (kk H locs ls hR hS hl)
theorem r_iload (S : Ok κ k cc nL own ret nm h MC MS) {i : Nat} {x : Int32} (d : decode cc pc = .ok (.iload i, 2)) (hv : lv[i]? = some (some (.int x))) (kk : V κ k nL cs ss Q (pc + 2) lv (.int x :: st) σ) : V κ k nL cs ss Q pc lv st σ := fun H locs ls hR hS hl => lv_iload S.1.1 S.1.2.1 d (lvl_at hl hv) (kk H locs ls hR hS hl)
theorem r_lload_n (S : Ok κ k cc nL own ret nm h MC MS) {j : Fin 4} {x : Int64} (d : decode cc pc = .ok (.lload_n j, 1)) (hv : lv[(j : Nat)]? = some (some (.long x))) (kk : V κ k nL cs ss Q (pc + 1) lv (.long x :: st) σ) : V κ k nL cs ss Q pc lv st σ := fun H locs ls hR hS hl => lv_lload_n S.1.1 S.1.2.1 d rfl (lvl_at hl hv) (kk H locs ls hR hS hl)
theorem r_lload (S : Ok κ k cc nL own ret nm h MC MS) {i : Nat} {x : Int64} (d : decode cc pc = .ok (.lload i, 2)) (hv : lv[i]? = some (some (.long x))) (kk : V κ k nL cs ss Q (pc + 2) lv (.long x :: st) σ) : V κ k nL cs ss Q pc lv st σ := fun H locs ls hR hS hl => lv_lload S.1.1 S.1.2.1 d (lvl_at hl hv) (kk H locs ls hR hS hl)
theorem r_aload_n (S : Ok κ k cc nL own ret nm h MC MS) {j : Fin 4} {x : Nat} (d : decode cc pc = .ok (.aload_n j, 1)) (hv : lv[(j : Nat)]? = some (some (.ref x))) (kk : V κ k nL cs ss Q (pc + 1) lv (.ref x :: st) σ) : V κ k nL cs ss Q pc lv st σ := fun H locs ls hR hS hl => lv_aload_n S.1.1 S.1.2.1 d rfl (lvl_at hl hv) (kk H locs ls hR hS hl)
theorem r_aload (S : Ok κ k cc nL own ret nm h MC MS) {i : Nat} {x : Nat} (d : decode cc pc = .ok (.aload i, 2)) (hv : lv[i]? = some (some (.ref x))) (kk : V κ k nL cs ss Q (pc + 2) lv (.ref x :: st) σ) : V κ k nL cs ss Q pc lv st σ := fun H locs ls hR hS hl => lv_aload S.1.1 S.1.2.1 d (lvl_at hl hv) (kk H locs ls hR hS hl)
theorem r_istore_n (S : Ok κ k cc nL own ret nm h MC MS) {j : Fin 4} {x : Int32} (d : decode cc pc = .ok (.istore_n j, 1)) (hp : noL lv (j : Nat) = true) (hn : (j : Nat) < nL) (hv : lv.set (j : Nat) (some (.int x)) = lv') (kk : V κ k nL cs ss Q (pc + 1) lv' st σ) : V κ k nL cs ss Q pc lv (.int x :: st) σ := fun H locs ls hR hS hl => lv_istore_n S.1.1 S.1.2.1 d rfl hl hn rfl (fun ls' hl' => kk H locs ls' hR hS (by subst hv; exact lvl_sub hl' (lvl_set1 hp)))
theorem r_istore (S : Ok κ k cc nL own ret nm h MC MS) {i : Nat} {x : Int32} (d : decode cc pc = .ok (.istore i, 2)) (hp : noL lv i = true) (hn : i < nL) (hv : lv.set i (some (.int x)) = lv') (kk : V κ k nL cs ss Q (pc + 2) lv' st σ) : V κ k nL cs ss Q pc lv (.int x :: st) σ := fun H locs ls hR hS hl => lv_istore S.1.1 S.1.2.1 d hl hn rfl (fun ls' hl' => kk H locs ls' hR hS (by subst hv; exact lvl_sub hl' (lvl_set1 hp)))
theorem r_astore_n (S : Ok κ k cc nL own ret nm h MC MS) {j : Fin 4} {x : Nat} (d : decode cc pc = .ok (.astore_n j, 1)) (hp : noL lv (j : Nat) = true) (hn : (j : Nat) < nL) (hv : lv.set (j : Nat) (some (.ref x)) = lv') (kk : V κ k nL cs ss Q (pc + 1) lv' st σ) : V κ k nL cs ss Q pc lv (.ref x :: st) σ := fun H locs ls hR hS hl => lv_astore_n S.1.1 S.1.2.1 d rfl hl hn rfl (fun ls' hl' => kk H locs ls' hR hS (by subst hv; exact lvl_sub hl' (lvl_set1 hp)))
theorem r_astore (S : Ok κ k cc nL own ret nm h MC MS) {i : Nat} {x : Nat} (d : decode cc pc = .ok (.astore i, 2)) (hp : noL lv i = true) (hn : i < nL) (hv : lv.set i (some (.ref x)) = lv') (kk : V κ k nL cs ss Q (pc + 2) lv' st σ) : V κ k nL cs ss Q pc lv (.ref x :: st) σ := fun H locs ls hR hS hl => lv_astore S.1.1 S.1.2.1 d hl hn rfl (fun ls' hl' => kk H locs ls' hR hS (by subst hv; exact lvl_sub hl' (lvl_set1 hp)))
theorem r_lstore_n (S : Ok κ k cc nL own ret nm h MC MS) {j : Fin 4} {x : Int64} (d : decode cc pc = .ok (.lstore_n j, 1)) (hp : noL lv (j : Nat) = true) (hn : (j : Nat) + 1 < nL) (hv : (lv.set (j : Nat) (some (.long x))).set ((j : Nat) + 1) none = lv') (kk : V κ k nL cs ss Q (pc + 1) lv' st σ) : V κ k nL cs ss Q pc lv (.long x :: st) σ := fun H locs ls hR hS hl => lv_lstore_n S.1.1 S.1.2.1 d rfl hl hn rfl (fun ls' hl' => kk H locs ls' hR hS (by subst hv; exact lvl_sub hl' (lvl_set2 hp)))
theorem r_lstore (S : Ok κ k cc nL own ret nm h MC MS) {i : Nat} {x : Int64} (d : decode cc pc = .ok (.lstore i, 2)) (hp : noL lv i = true) (hn : i + 1 < nL) (hv : (lv.set i (some (.long x))).set (i + 1) none = lv') (kk : V κ k nL cs ss Q (pc + 2) lv' st σ) : V κ k nL cs ss Q pc lv (.long x :: st) σ := fun H locs ls hR hS hl => lv_lstore S.1.1 S.1.2.1 d hl hn rfl (fun ls' hl' => kk H locs ls' hR hS (by subst hv; exact lvl_sub hl' (lvl_set2 hp)))
theorem r_iinc (S : Ok κ k cc nL own ret nm h MC MS) {i : Nat} {n : Int} {x : Int} (d : decode cc pc = .ok (.iinc i n, 3)) (hx : lv[i]? = some (some (.int (iZ x)))) (hp : noL lv i = true) (hn : i < nL) (hv : lv.set i (some (.int (iZ (x + n)))) = lv') (kk : V κ k nL cs ss Q (pc + 3) lv' st σ) : V κ k nL cs ss Q pc lv st σ := fun H locs ls hR hS hl => by
  obtain ⟨q, hq⟩ := List.getElem?_of_mem (lvl_mem.mpr ⟨i, hx, (by omega : i = 0 + i)⟩)
  exact lv_iinc S.1.1 S.1.2.1 d hl hq (iZ_add x n) hn rfl (fun ls' hl' => kk H locs ls' hR hS (by subst hv; exact lvl_sub hl' (lvl_set1 hp)))
theorem r_iadd (S : Ok κ k cc nL own ret nm h MC MS) {a b : Int} (d : decode cc pc = .ok (.iadd, 1)) (kk : V κ k nL cs ss Q (pc + 1) lv (.int (iZ (a + b)) :: st) σ) : V κ k nL cs ss Q pc lv (.int (iZ b) :: .int (iZ a) :: st) σ := fun H locs ls hR hS hl => lv_iadd S.1.1 S.1.2.1 d (iZ_add a b ▸ kk H locs ls hR hS hl)
theorem r_isub (S : Ok κ k cc nL own ret nm h MC MS) {a b : Int} (d : decode cc pc = .ok (.isub, 1)) (kk : V κ k nL cs ss Q (pc + 1) lv (.int (iZ (a - b)) :: st) σ) : V κ k nL cs ss Q pc lv (.int (iZ b) :: .int (iZ a) :: st) σ := fun H locs ls hR hS hl => lv_isub S.1.1 S.1.2.1 d (iZ_sub a b ▸ kk H locs ls hR hS hl)
theorem r_imul (S : Ok κ k cc nL own ret nm h MC MS) {a b : Int} (d : decode cc pc = .ok (.imul, 1)) (kk : V κ k nL cs ss Q (pc + 1) lv (.int (iZ (a * b)) :: st) σ) : V κ k nL cs ss Q pc lv (.int (iZ b) :: .int (iZ a) :: st) σ := fun H locs ls hR hS hl => lv_imul S.1.1 S.1.2.1 d (iZ_mul a b ▸ kk H locs ls hR hS hl)
theorem r_ineg (S : Ok κ k cc nL own ret nm h MC MS) {a : Int} (d : decode cc pc = .ok (.ineg, 1)) (kk : V κ k nL cs ss Q (pc + 1) lv (.int (iZ (-a)) :: st) σ) : V κ k nL cs ss Q pc lv (.int (iZ a) :: st) σ := fun H locs ls hR hS hl => lv_ineg S.1.1 S.1.2.1 d (iZ_neg a ▸ kk H locs ls hR hS hl)
theorem r_iand (S : Ok κ k cc nL own ret nm h MC MS) {x y v : Int32} (d : decode cc pc = .ok (.iand, 1)) (hv : x &&& y = v) (kk : V κ k nL cs ss Q (pc + 1) lv (.int v :: st) σ) : V κ k nL cs ss Q pc lv (.int y :: .int x :: st) σ := fun H locs ls hR hS hl => lv_iand S.1.1 S.1.2.1 d (hv ▸ kk H locs ls hR hS hl)
theorem r_ior (S : Ok κ k cc nL own ret nm h MC MS) {x y v : Int32} (d : decode cc pc = .ok (.ior, 1)) (hv : x ||| y = v) (kk : V κ k nL cs ss Q (pc + 1) lv (.int v :: st) σ) : V κ k nL cs ss Q pc lv (.int y :: .int x :: st) σ := fun H locs ls hR hS hl => lv_ior S.1.1 S.1.2.1 d (hv ▸ kk H locs ls hR hS hl)
theorem r_ixor (S : Ok κ k cc nL own ret nm h MC MS) {x y v : Int32} (d : decode cc pc = .ok (.ixor, 1)) (hv : x ^^^ y = v) (kk : V κ k nL cs ss Q (pc + 1) lv (.int v :: st) σ) : V κ k nL cs ss Q pc lv (.int y :: .int x :: st) σ := fun H locs ls hR hS hl => lv_ixor S.1.1 S.1.2.1 d (hv ▸ kk H locs ls hR hS hl)
theorem r_ishl (S : Ok κ k cc nL own ret nm h MC MS) {x y v : Int32} (d : decode cc pc = .ok (.ishl, 1)) (hv : x <<< (y &&& 31) = v) (kk : V κ k nL cs ss Q (pc + 1) lv (.int v :: st) σ) : V κ k nL cs ss Q pc lv (.int y :: .int x :: st) σ := fun H locs ls hR hS hl => lv_ishl S.1.1 S.1.2.1 d (hv ▸ kk H locs ls hR hS hl)
theorem r_ishr (S : Ok κ k cc nL own ret nm h MC MS) {x y v : Int32} (d : decode cc pc = .ok (.ishr, 1)) (hv : x >>> (y &&& 31) = v) (kk : V κ k nL cs ss Q (pc + 1) lv (.int v :: st) σ) : V κ k nL cs ss Q pc lv (.int y :: .int x :: st) σ := fun H locs ls hR hS hl => lv_ishr S.1.1 S.1.2.1 d (hv ▸ kk H locs ls hR hS hl)
theorem r_iushr (S : Ok κ k cc nL own ret nm h MC MS) {x y v : Int32} (d : decode cc pc = .ok (.iushr, 1)) (hv : (x.toUInt32 >>> (y.toUInt32 &&& Int32.toUInt32 31)).toInt32 = v) (kk : V κ k nL cs ss Q (pc + 1) lv (.int v :: st) σ) : V κ k nL cs ss Q pc lv (.int y :: .int x :: st) σ := fun H locs ls hR hS hl => lv_iushr S.1.1 S.1.2.1 d hv (kk H locs ls hR hS hl)
theorem r_idiv (S : Ok κ k cc nL own ret nm h MC MS) {x y v : Int32} (d : decode cc pc = .ok (.idiv, 1)) (hne : ¬ y = 0) (hv : x / y = v) (kk : V κ k nL cs ss Q (pc + 1) lv (.int v :: st) σ) : V κ k nL cs ss Q pc lv (.int y :: .int x :: st) σ := fun H locs ls hR hS hl => lv_idiv S.1.1 S.1.2.1 d hne (hv ▸ kk H locs ls hR hS hl)
theorem r_irem (S : Ok κ k cc nL own ret nm h MC MS) {x y v : Int32} (d : decode cc pc = .ok (.irem, 1)) (hne : ¬ y = 0) (hv : x - x / y * y = v) (kk : V κ k nL cs ss Q (pc + 1) lv (.int v :: st) σ) : V κ k nL cs ss Q pc lv (.int y :: .int x :: st) σ := fun H locs ls hR hS hl => lv_irem S.1.1 S.1.2.1 d hne (hv ▸ kk H locs ls hR hS hl)
theorem r_iaddx (S : Ok κ k cc nL own ret nm h MC MS) {x y v : Int32} (d : decode cc pc = .ok (.iadd, 1)) (hv : x + y = v) (kk : V κ k nL cs ss Q (pc + 1) lv (.int v :: st) σ) : V κ k nL cs ss Q pc lv (.int y :: .int x :: st) σ := fun H locs ls hR hS hl => lv_iadd S.1.1 S.1.2.1 d (hv ▸ kk H locs ls hR hS hl)
theorem r_isubx (S : Ok κ k cc nL own ret nm h MC MS) {x y v : Int32} (d : decode cc pc = .ok (.isub, 1)) (hv : x - y = v) (kk : V κ k nL cs ss Q (pc + 1) lv (.int v :: st) σ) : V κ k nL cs ss Q pc lv (.int y :: .int x :: st) σ := fun H locs ls hR hS hl => lv_isub S.1.1 S.1.2.1 d (hv ▸ kk H locs ls hR hS hl)
theorem r_i2l (S : Ok κ k cc nL own ret nm h MC MS) {x : Int32} {v : Int64} (d : decode cc pc = .ok (.i2l, 1)) (hv : x.toInt64 = v) (kk : V κ k nL cs ss Q (pc + 1) lv (.long v :: st) σ) : V κ k nL cs ss Q pc lv (.int x :: st) σ := fun H locs ls hR hS hl => lv_i2l S.1.1 S.1.2.1 d hv (kk H locs ls hR hS hl)
theorem r_i2b (S : Ok κ k cc nL own ret nm h MC MS) {x v : Int32} (d : decode cc pc = .ok (.i2b, 1)) (hv : x.toInt8.toInt32 = v) (kk : V κ k nL cs ss Q (pc + 1) lv (.int v :: st) σ) : V κ k nL cs ss Q pc lv (.int x :: st) σ := fun H locs ls hR hS hl => lv_i2b S.1.1 S.1.2.1 d hv (kk H locs ls hR hS hl)
theorem r_ladd (S : Ok κ k cc nL own ret nm h MC MS) {a b : Int} (d : decode cc pc = .ok (.ladd, 1)) (kk : V κ k nL cs ss Q (pc + 1) lv (.long (lZ (a + b)) :: st) σ) : V κ k nL cs ss Q pc lv (.long (lZ b) :: .long (lZ a) :: st) σ := fun H locs ls hR hS hl => lv_ladd S.1.1 S.1.2.1 d (lZ_add a b ▸ kk H locs ls hR hS hl)
theorem r_lmul (S : Ok κ k cc nL own ret nm h MC MS) {a b : Int} (d : decode cc pc = .ok (.lmul, 1)) (kk : V κ k nL cs ss Q (pc + 1) lv (.long (lZ (a * b)) :: st) σ) : V κ k nL cs ss Q pc lv (.long (lZ b) :: .long (lZ a) :: st) σ := fun H locs ls hR hS hl => lv_lmul S.1.1 S.1.2.1 d (lZ_mul a b ▸ kk H locs ls hR hS hl)
theorem r_ldiv (S : Ok κ k cc nL own ret nm h MC MS) {x y v : Int64} (d : decode cc pc = .ok (.ldiv, 1)) (hne : ¬ y = 0) (hv : x / y = v) (kk : V κ k nL cs ss Q (pc + 1) lv (.long v :: st) σ) : V κ k nL cs ss Q pc lv (.long y :: .long x :: st) σ := fun H locs ls hR hS hl => lv_ldiv S.1.1 S.1.2.1 d hne (hv ▸ kk H locs ls hR hS hl)
theorem r_lcmp (S : Ok κ k cc nL own ret nm h MC MS) {x y : Int64} {v : Int32} (d : decode cc pc = .ok (.lcmp, 1)) (hv : lg_cmp x y = v) (kk : V κ k nL cs ss Q (pc + 1) lv (.int v :: st) σ) : V κ k nL cs ss Q pc lv (.long y :: .long x :: st) σ := fun H locs ls hR hS hl => W.lcmp S.1.1 S.1.2.1 d (hv ▸ kk H locs ls hR hS hl)
theorem r_dup (S : Ok κ k cc nL own ret nm h MC MS) {v : Value} (d : decode cc pc = .ok (.dup, 1)) (hc : v.category = 1) (kk : V κ k nL cs ss Q (pc + 1) lv (v :: v :: st) σ) : V κ k nL cs ss Q pc lv (v :: st) σ := fun H locs ls hR hS hl => lv_dup S.1.1 S.1.2.1 d hc (kk H locs ls hR hS hl)
theorem r_pop (S : Ok κ k cc nL own ret nm h MC MS) {v : Value} (d : decode cc pc = .ok (.pop, 1)) (hc : v.category = 1) (kk : V κ k nL cs ss Q (pc + 1) lv st σ) : V κ k nL cs ss Q pc lv (v :: st) σ := fun H locs ls hR hS hl => lv_pop S.1.1 S.1.2.1 d hc (kk H locs ls hR hS hl)
theorem r_dup2 (S : Ok κ k cc nL own ret nm h MC MS) {v w : Value} (d : decode cc pc = .ok (.dup2, 1)) (hc : v.category = 1) (hc2 : w.category = 1) (kk : V κ k nL cs ss Q (pc + 1) lv (v :: w :: v :: w :: st) σ) : V κ k nL cs ss Q pc lv (v :: w :: st) σ := fun H locs ls hR hS hl => lv_dup2_11 S.1.1 S.1.2.1 d hc hc2 (kk H locs ls hR hS hl)
theorem r_if_eq (S : Ok κ k cc nL own ret nm h MC MS) {a off : Int} {tgt : Nat} (d : decode cc pc = .ok (.ifCond .eq off, 3)) (ht : (pc : Int) + off = (tgt : Int)) (ha : zR a) (kt : a = 0 → V κ k nL cs ss Q tgt lv st σ) (kf : ¬ a = 0 → V κ k nL cs ss Q (pc + 3) lv st σ) : V κ k nL cs ss Q pc lv (.int (iZ a) :: st) σ := fun H locs ls hR hS hl => by
  have z0 : zR 0 := ⟨by decide, by decide⟩
  have e : _ ↔ _ := iZ_inj ha z0
  rw [iZ_0] at e
  exact lv_if_eq S.1.1 S.1.2.1 d ht (fun q => kt (e.mp q) H locs ls hR hS hl) (fun q => kf (fun z => q (e.mpr z)) H locs ls hR hS hl)
theorem r_icmp_eq (S : Ok κ k cc nL own ret nm h MC MS) {a b off : Int} {tgt : Nat} (d : decode cc pc = .ok (.if_icmp .eq off, 3)) (ht : (pc : Int) + off = (tgt : Int)) (ha : zR a) (hb : zR b) (kt : a = b → V κ k nL cs ss Q tgt lv st σ) (kf : ¬ a = b → V κ k nL cs ss Q (pc + 3) lv st σ) : V κ k nL cs ss Q pc lv (.int (iZ b) :: .int (iZ a) :: st) σ := fun H locs ls hR hS hl => by
  have e : _ ↔ _ := iZ_inj ha hb
  exact lv_icmp_eq S.1.1 S.1.2.1 d ht (fun q => kt (e.mp q) H locs ls hR hS hl) (fun q => kf (fun z => q (e.mpr z)) H locs ls hR hS hl)
theorem r_if_ne (S : Ok κ k cc nL own ret nm h MC MS) {a off : Int} {tgt : Nat} (d : decode cc pc = .ok (.ifCond .ne off, 3)) (ht : (pc : Int) + off = (tgt : Int)) (ha : zR a) (kt : ¬ a = 0 → V κ k nL cs ss Q tgt lv st σ) (kf : a = 0 → V κ k nL cs ss Q (pc + 3) lv st σ) : V κ k nL cs ss Q pc lv (.int (iZ a) :: st) σ := fun H locs ls hR hS hl => by
  have z0 : zR 0 := ⟨by decide, by decide⟩
  have e : _ ↔ _ := not_congr (iZ_inj ha z0)
  rw [iZ_0] at e
  exact lv_if_ne S.1.1 S.1.2.1 d ht (fun q => kt (e.mp q) H locs ls hR hS hl) (fun q => kf ((iZ_inj ha z0).mp (q.trans iZ_0.symm)) H locs ls hR hS hl)
theorem r_icmp_ne (S : Ok κ k cc nL own ret nm h MC MS) {a b off : Int} {tgt : Nat} (d : decode cc pc = .ok (.if_icmp .ne off, 3)) (ht : (pc : Int) + off = (tgt : Int)) (ha : zR a) (hb : zR b) (kt : ¬ a = b → V κ k nL cs ss Q tgt lv st σ) (kf : a = b → V κ k nL cs ss Q (pc + 3) lv st σ) : V κ k nL cs ss Q pc lv (.int (iZ b) :: .int (iZ a) :: st) σ := fun H locs ls hR hS hl => by
  have e : _ ↔ _ := not_congr (iZ_inj ha hb)
  exact lv_icmp_ne S.1.1 S.1.2.1 d ht (fun q => kt (e.mp q) H locs ls hR hS hl) (fun q => kf ((iZ_inj ha hb).mp q) H locs ls hR hS hl)
theorem r_if_lt (S : Ok κ k cc nL own ret nm h MC MS) {a off : Int} {tgt : Nat} (d : decode cc pc = .ok (.ifCond .lt off, 3)) (ht : (pc : Int) + off = (tgt : Int)) (ha : zR a) (kt : a < 0 → V κ k nL cs ss Q tgt lv st σ) (kf : 0 ≤ a → V κ k nL cs ss Q (pc + 3) lv st σ) : V κ k nL cs ss Q pc lv (.int (iZ a) :: st) σ := fun H locs ls hR hS hl => by
  have z0 : zR 0 := ⟨by decide, by decide⟩
  have e : _ ↔ _ := iZ_lt ha z0
  rw [iZ_0] at e
  exact lv_if_lt S.1.1 S.1.2.1 d ht (fun q => kt (e.mp q) H locs ls hR hS hl) (fun q => kf (Int.not_lt.mp (fun z => q (e.mpr z))) H locs ls hR hS hl)
theorem r_icmp_lt (S : Ok κ k cc nL own ret nm h MC MS) {a b off : Int} {tgt : Nat} (d : decode cc pc = .ok (.if_icmp .lt off, 3)) (ht : (pc : Int) + off = (tgt : Int)) (ha : zR a) (hb : zR b) (kt : a < b → V κ k nL cs ss Q tgt lv st σ) (kf : b ≤ a → V κ k nL cs ss Q (pc + 3) lv st σ) : V κ k nL cs ss Q pc lv (.int (iZ b) :: .int (iZ a) :: st) σ := fun H locs ls hR hS hl => by
  have e : _ ↔ _ := iZ_lt ha hb
  exact lv_icmp_lt S.1.1 S.1.2.1 d ht (fun q => kt (e.mp q) H locs ls hR hS hl) (fun q => kf (Int.not_lt.mp (fun z => q (e.mpr z))) H locs ls hR hS hl)
theorem r_if_ge (S : Ok κ k cc nL own ret nm h MC MS) {a off : Int} {tgt : Nat} (d : decode cc pc = .ok (.ifCond .ge off, 3)) (ht : (pc : Int) + off = (tgt : Int)) (ha : zR a) (kt : 0 ≤ a → V κ k nL cs ss Q tgt lv st σ) (kf : a < 0 → V κ k nL cs ss Q (pc + 3) lv st σ) : V κ k nL cs ss Q pc lv (.int (iZ a) :: st) σ := fun H locs ls hR hS hl => by
  have z0 : zR 0 := ⟨by decide, by decide⟩
  have e : _ ↔ _ := iZ_le z0 ha
  rw [iZ_0] at e
  exact lv_if_ge S.1.1 S.1.2.1 d ht (fun q => kt (e.mp q) H locs ls hR hS hl) (fun q => kf (Int.not_le.mp (fun z => q (e.mpr z))) H locs ls hR hS hl)
theorem r_icmp_ge (S : Ok κ k cc nL own ret nm h MC MS) {a b off : Int} {tgt : Nat} (d : decode cc pc = .ok (.if_icmp .ge off, 3)) (ht : (pc : Int) + off = (tgt : Int)) (ha : zR a) (hb : zR b) (kt : b ≤ a → V κ k nL cs ss Q tgt lv st σ) (kf : a < b → V κ k nL cs ss Q (pc + 3) lv st σ) : V κ k nL cs ss Q pc lv (.int (iZ b) :: .int (iZ a) :: st) σ := fun H locs ls hR hS hl => by
  have e : _ ↔ _ := iZ_le hb ha
  exact lv_icmp_ge S.1.1 S.1.2.1 d ht (fun q => kt (e.mp q) H locs ls hR hS hl) (fun q => kf (Int.not_le.mp (fun z => q (e.mpr z))) H locs ls hR hS hl)
theorem r_if_gt (S : Ok κ k cc nL own ret nm h MC MS) {a off : Int} {tgt : Nat} (d : decode cc pc = .ok (.ifCond .gt off, 3)) (ht : (pc : Int) + off = (tgt : Int)) (ha : zR a) (kt : 0 < a → V κ k nL cs ss Q tgt lv st σ) (kf : a ≤ 0 → V κ k nL cs ss Q (pc + 3) lv st σ) : V κ k nL cs ss Q pc lv (.int (iZ a) :: st) σ := fun H locs ls hR hS hl => by
  have z0 : zR 0 := ⟨by decide, by decide⟩
  have e : _ ↔ _ := iZ_lt z0 ha
  rw [iZ_0] at e
  exact lv_if_gt S.1.1 S.1.2.1 d ht (fun q => kt (e.mp q) H locs ls hR hS hl) (fun q => kf (Int.not_lt.mp (fun z => q (e.mpr z))) H locs ls hR hS hl)
theorem r_icmp_gt (S : Ok κ k cc nL own ret nm h MC MS) {a b off : Int} {tgt : Nat} (d : decode cc pc = .ok (.if_icmp .gt off, 3)) (ht : (pc : Int) + off = (tgt : Int)) (ha : zR a) (hb : zR b) (kt : b < a → V κ k nL cs ss Q tgt lv st σ) (kf : a ≤ b → V κ k nL cs ss Q (pc + 3) lv st σ) : V κ k nL cs ss Q pc lv (.int (iZ b) :: .int (iZ a) :: st) σ := fun H locs ls hR hS hl => by
  have e : _ ↔ _ := iZ_lt hb ha
  exact lv_icmp_gt S.1.1 S.1.2.1 d ht (fun q => kt (e.mp q) H locs ls hR hS hl) (fun q => kf (Int.not_lt.mp (fun z => q (e.mpr z))) H locs ls hR hS hl)
theorem r_if_le (S : Ok κ k cc nL own ret nm h MC MS) {a off : Int} {tgt : Nat} (d : decode cc pc = .ok (.ifCond .le off, 3)) (ht : (pc : Int) + off = (tgt : Int)) (ha : zR a) (kt : a ≤ 0 → V κ k nL cs ss Q tgt lv st σ) (kf : 0 < a → V κ k nL cs ss Q (pc + 3) lv st σ) : V κ k nL cs ss Q pc lv (.int (iZ a) :: st) σ := fun H locs ls hR hS hl => by
  have z0 : zR 0 := ⟨by decide, by decide⟩
  have e : _ ↔ _ := iZ_le ha z0
  rw [iZ_0] at e
  exact lv_if_le S.1.1 S.1.2.1 d ht (fun q => kt (e.mp q) H locs ls hR hS hl) (fun q => kf (Int.not_le.mp (fun z => q (e.mpr z))) H locs ls hR hS hl)
theorem r_icmp_le (S : Ok κ k cc nL own ret nm h MC MS) {a b off : Int} {tgt : Nat} (d : decode cc pc = .ok (.if_icmp .le off, 3)) (ht : (pc : Int) + off = (tgt : Int)) (ha : zR a) (hb : zR b) (kt : a ≤ b → V κ k nL cs ss Q tgt lv st σ) (kf : b < a → V κ k nL cs ss Q (pc + 3) lv st σ) : V κ k nL cs ss Q pc lv (.int (iZ b) :: .int (iZ a) :: st) σ := fun H locs ls hR hS hl => by
  have e : _ ↔ _ := iZ_le ha hb
  exact lv_icmp_le S.1.1 S.1.2.1 d ht (fun q => kt (e.mp q) H locs ls hR hS hl) (fun q => kf (Int.not_le.mp (fun z => q (e.mpr z))) H locs ls hR hS hl)
theorem r_goto (S : Ok κ k cc nL own ret nm h MC MS) {off : Int} {tgt : Nat} (d : decode cc pc = .ok (.goto off, 3)) (ht : (pc : Int) + off = (tgt : Int)) (kk : V κ k nL cs ss Q tgt lv st σ) : V κ k nL cs ss Q pc lv st σ := fun H locs ls hR hS hl => lv_goto S.1.1 S.1.2.1 d ht (kk H locs ls hR hS hl)
theorem r_ifnonnull (S : Ok κ k cc nL own ret nm h MC MS) {off : Int} {tgt a : Nat} (d : decode cc pc = .ok (.ifnonnull off, 3)) (ht : (pc : Int) + off = (tgt : Int)) (kk : V κ k nL cs ss Q tgt lv st σ) : V κ k nL cs ss Q pc lv (.ref a :: st) σ := fun H locs ls hR hS hl => lv_ifnonnull S.1.1 S.1.2.1 d ht (kk H locs ls hR hS hl)
theorem r_ifnonnullN (S : Ok κ k cc nL own ret nm h MC MS) {off : Int} (d : decode cc pc = .ok (.ifnonnull off, 3)) (kk : V κ k nL cs ss Q (pc + 3) lv st σ) : V κ k nL cs ss Q pc lv (.null :: st) σ := fun H locs ls hR hS hl => lv_ifnonnullN S.1.1 S.1.2.1 d (kk H locs ls hR hS hl)
theorem r_tswIn (S : Ok κ k cc nL own ret nm h MC MS) {a dflt lo hi off : Int} {offs : Array Int} {len tgt : Nat} (d : decode cc pc = .ok (.tableswitch dflt lo hi offs, len)) (ha : zR a) (h1 : lo ≤ a) (h2 : a ≤ hi) (ho : offs[(a - lo).toNat]? = some off) (ht : (pc : Int) + off = (tgt : Int)) (kk : V κ k nL cs ss Q tgt lv st σ) : V κ k nL cs ss Q pc lv (.int (iZ a) :: st) σ := fun H locs ls hR hS hl => lv_tableIn S.1.1 S.1.2.1 d (by rw [iZ_toInt ha]; omega) (by rw [iZ_toInt ha]; omega) (by rw [iZ_toInt ha]; exact ho) ht (kk H locs ls hR hS hl)
theorem r_tswOut (S : Ok κ k cc nL own ret nm h MC MS) {a dflt lo hi : Int} {offs : Array Int} {len tgt : Nat} (d : decode cc pc = .ok (.tableswitch dflt lo hi offs, len)) (ha : zR a) (h1 : a < lo ∨ hi < a) (ht : (pc : Int) + dflt = (tgt : Int)) (kk : V κ k nL cs ss Q tgt lv st σ) : V κ k nL cs ss Q pc lv (.int (iZ a) :: st) σ := fun H locs ls hR hS hl => lv_tableOut S.1.1 S.1.2.1 d (by rw [iZ_toInt ha]; exact h1) ht (kk H locs ls hR hS hl)
end VROWS
