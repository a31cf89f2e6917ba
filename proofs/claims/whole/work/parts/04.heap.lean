/-! rows that touch the store: fields, arrays, new cells; returns; calls; a method's contract -/
theorem Rep.at {k : Cx} {σ : St} {H : Heap} (h : Rep k σ H) {a : Nat} {e : va_E} (he : σ.2 a = some e) : va_at (cD k) vwCl (a, e) H := (h.2 a e he).1
theorem Rep.up {k : Cx} {σ : St} {H H1 : Heap} (h : Rep k σ H) {a : Nat} {e e' : va_E} (he : σ.2 a = some e) (hz : H1.size = H.size) (ho : ∀ q, q ≠ a → H1[q]? = H[q]?) (hn : va_at (cD k) vwCl (a, e') H1) : Rep k (sUp σ a e') H1 := by
  refine ⟨hz.trans h.1, fun b x hx => ?_⟩
  by_cases hb : b = a
  · subst hb
    rw [sUp_same] at hx
    cases hx
    exact ⟨hn, (h.2 b e he).2⟩
  · have hx' : σ.2 b = some x := (if_neg hb).symm.trans hx
    exact ⟨(h.2 b x hx').1.kept (ho b hb), (h.2 b x hx').2⟩
theorem Rep.new {k : Cx} {σ : St} {H H1 : Heap} (h : Rep k σ H) {e : va_E} (hbase : cBase k ≤ H.size) (hz : H1.size = H.size + 1) (ho : ∀ q, q < H.size → H1[q]? = H[q]?) (hn : va_at (cD k) vwCl (H.size, e) H1) : Rep k (sNew σ e) H1 := by
  refine ⟨hz.trans (by rw [h.1]; rfl), fun b x hx => ?_⟩
  by_cases hb : b = σ.1
  · subst hb
    rw [sNew_same] at hx
    cases hx
    rw [← h.1]
    exact ⟨hn, hbase⟩
  · have hx' : σ.2 b = some x := (if_neg hb).symm.trans hx
    exact ⟨(h.2 b x hx').1.kept (ho b ((h.2 b x hx').1.lt)), (h.2 b x hx').2⟩
/-- field j of class ci, as the entry idx of class own names it -/
def GF (own : String) (idx ci j : Nat) : Prop := ∃ (C : String) (T : u_T) (N : Nat) (ref : String), vwCl[ci]? = some (C, T, N) ∧ (∀ w ∈ u_ws C T N, w ∈ gt) ∧ j < N ∧ Cond.fieldLink own idx ref (T j).2.1 (T j).2.2.1 ∈ gt ∧ (ref = (T j).1 ∨ Cond.sameField ref (T j).1 (T j).2.1 (T j).2.2.1 ∈ gt)
/-- and of what type it is, whether it is final -/
def PF (own : String) (idx ci j : Nat) (ty : FieldType) (fin : Bool) : Prop := ∃ (C : String) (T : u_T) (N : Nat) (ref : String) (ty0 : Nat → FieldType), vwCl[ci]? = some (C, T, N) ∧ (∀ w ∈ u_ws C T N, w ∈ gt) ∧ j < N ∧ Cond.fieldLink own idx ref (T j).2.1 (T j).2.2.1 ∈ gt ∧ (ref = (T j).1 ∨ Cond.sameField ref (T j).1 (T j).2.1 (T j).2.2.1 ∈ gt) ∧
  (∀ k, k < N → parseFieldDescriptor (T k).2.2.1 = some (ty0 k)) ∧ (∀ a, a < N → ∀ b, b < N → a ≠ b → (T a).2.1 ≠ (T b).2.1) ∧ (T j).2.2.2 = fin ∧ ty0 j = ty ∧ (fin = true → (T j).1 = own)
section VHEAP
variable {κ : Kx} {k : Cx} {cc : ByteArray} {nL : Nat} {own : String} {ret : Option FieldType} {nm : String} {h MC MS : Nat} {cs ss : Nat} {Q : State → Prop} {pc : Nat} {lv lv' : List (Option Value)} {st : List Value} {σ : St}
theorem r_getf (S : Ok κ k cc nL own ret nm h MC MS) {idx ci j a : Nat} {fs : List Value} {v : Value} (g : GF own idx ci j) (d : decode cc pc = .ok (.getfield idx, 3)) (hσ : σ.2 a = some (.inr (ci, fs))) (hv : fs[j]? = some v) (kk : V κ k nL cs ss Q (pc + 3) lv (v :: st) σ) : V κ k nL cs ss Q pc lv (.ref a :: st) σ := by
  intro H locs ls hR hS hl
  obtain ⟨⟨hx, hb, hml, hown, hts⟩, ⟨hK, -⟩, -⟩ := S
  obtain ⟨C, T, N, ref, hc, hin, hj, hlk, hsame⟩ := g
  have hP : va_P (cD k) vwCl [(a, .inr (ci, fs))] H := by
    intro q x hq
    have hz : q < 1 := (List.getElem?_eq_some_iff.mp hq).1
    rw [show q = 0 by omega] at hq
    cases hq
    exact hR.at hσ
  refine va_get hx hb hts hin hown hK hP 0 rfl hc j hj (hts _ hlk) ?_ hv d (kk H locs ls hR hS hl)
  intro x hxx
  rcases hsame with e | e
  · rw [e]; exact hxx
  · exact u_same (hts _ e) x hxx
theorem r_putf (S : Ok κ k cc nL own ret nm h MC MS) {idx ci j a : Nat} {fs : List Value} {v : Value} {ty : FieldType} (g : PF own idx ci j ty false) (d : decode cc pc = .ok (.putfield idx, 3)) (hn : narrow ty v = v) (hfit : fits ty v = true) (hσ : σ.2 a = some (.inr (ci, fs))) (hl0 : j < fs.length) {fs' : List Value} (hv : fs.set j v = fs') (kk : V κ k nL cs ss Q (pc + 3) lv st (sUp σ a (.inr (ci, fs')))) : V κ k nL cs ss Q pc lv (v :: .ref a :: st) σ := by
  intro H locs ls hR hS hl
  obtain ⟨⟨hx, hb, hml, hown, hts⟩, ⟨hK, -⟩, -⟩ := S
  obtain ⟨C, T, N, ref, ty0, hc, hin, hj, hlk, hsame, hty, hnm, hfin, htj, -⟩ := g
  have hap := va_apart (own := own) hts hin ty0 hty hnm hK hc
  obtain ⟨r, h1, cell, q1, q2, q3, q4⟩ := hR.at hσ
  have hr : r = (C, T, N) := Option.some.inj (h1.symm.trans hc)
  subst hr
  obtain ⟨hSl, hfc, kC, hkC, hkind⟩ := hK.1 ci _ hc
  obtain ⟨cf, kf, fi, f, hi, hsl⟩ := hSl j hj
  have hlay := hts _ (hin _ (u_in_lay hj))
  unfold u_lay at hlay
  rw [if_neg (by rw [hfin]; decide)] at hlay
  have hst := (u_facts hfc hkC (u_lays hts hin hj) hi).1
  have h6 := u_store hfc hkC hkind hlay hi (htj ▸ hty j hj) hn hfit
  have hs2 : ∀ x, κ.2.2.2.2.1.fieldFound? (T j).1 (T j).2.1 (T j).2.2.1 = some x → κ.2.2.2.2.1.fieldFound? ref (T j).2.1 (T j).2.2.1 = some x := by
    intro x hxx
    rcases hsame with e | e
    · rw [e]; exact hxx
    · exact u_same (hts _ e) x hxx
  refine W.putK hx hb (f := f) ⟨hown, hts _ hlk, ⟨_, _, _, hs2 _ hi⟩, hst⟩ (by rw [q2]; exact h6) q1 q3 (by rw [hsl]; exact k2_hasslot (q4 j hj)) rfl rfl d fun H' e1 e2 e3 => ?_
  rw [hsl] at e1 ⊢
  subst hv
  exact kk H' _ ls (hR.up hσ e2 e3 ⟨_, hc, t_OB.to (V := updV (vp_V fs) j v) ⟨_, e1, q2, q3, t_set q4 hap hj v⟩ (fun i _ => vp_updV_set hl0 v i)⟩) (hS.put e2 e3 (hR.2 a _ hσ).2) hl
theorem r_putF (S : Ok κ k cc nL own ret "<init>" h MC MS) {idx ci j a : Nat} {fs : List Value} {v : Value} {ty : FieldType} (g : PF own idx ci j ty true) (d : decode cc pc = .ok (.putfield idx, 3)) (hn : narrow ty v = v) (hfit : fits ty v = true) (hσ : σ.2 a = some (.inr (ci, fs))) (hl0 : j < fs.length) {fs' : List Value} (hv : fs.set j v = fs') (kk : V κ k nL cs ss Q (pc + 3) lv st (sUp σ a (.inr (ci, fs')))) : V κ k nL cs ss Q pc lv (v :: .ref a :: st) σ := by
  intro H locs ls hR hS hl
  obtain ⟨⟨hx, hb, hml, hown, hts⟩, ⟨hK, -⟩, -, -, hin2, -⟩ := S
  obtain ⟨C, T, N, ref, ty0, hc, hin, hj, hlk, hsame, hty, hnm, hfin, htj, hdecl⟩ := g
  have hap := va_apart (own := own) hts hin ty0 hty hnm hK hc
  obtain ⟨r, h1, cell, q1, q2, q3, q4⟩ := hR.at hσ
  have hr : r = (C, T, N) := Option.some.inj (h1.symm.trans hc)
  subst hr
  obtain ⟨hSl, hfc, kC, hkC, hkind⟩ := hK.1 ci _ hc
  obtain ⟨cf, kf, fi, f, hi, hsl⟩ := hSl j hj
  have hlay := hts _ (hin _ (u_in_lay hj))
  unfold u_lay at hlay
  rw [if_pos hfin] at hlay
  have hst := (u_facts hfc hkC (u_lays hts hin hj) hi).1
  have hcf : κ.2.2.2.2.2.1.cls = cf := by
    obtain ⟨_, _, c', _, _, _, -, -, hf', -, -, -, hown2, -⟩ := Cond.laysFinal_spec hlay
    have e1 : c' = cf := by have := hi.symm.trans hf'; simp at this; exact this.1.symm
    rw [hdecl rfl] at hown2
    rw [← e1]; exact Option.some.inj (hown.symm.trans hown2)
  have h6 := u_fits hfc hkC hkind (Or.inr hlay) hi (htj ▸ hty j hj) hn hfit
  have hs2 : ∀ x, κ.2.2.2.2.1.fieldFound? (T j).1 (T j).2.1 (T j).2.2.1 = some x → κ.2.2.2.2.1.fieldFound? ref (T j).2.1 (T j).2.2.1 = some x := by
    intro x hxx
    rcases hsame with e | e
    · rw [e]; exact hxx
    · exact u_same (hts _ e) x hxx
  refine W.putFinK hx hb hown (hts _ hlk) (hs2 _ hi) hst hcf hin2 (by rw [q2]; exact h6) q1 q3 (by rw [hsl]; exact k2_hasslot (q4 j hj)) rfl rfl d fun H' e1 e2 e3 => ?_
  rw [hsl] at e1 ⊢
  subst hv
  exact kk H' _ ls (hR.up hσ e2 e3 ⟨_, hc, t_OB.to (V := updV (vp_V fs) j v) ⟨_, e1, q2, q3, t_set q4 hap hj v⟩ (fun i _ => vp_updV_set hl0 v i)⟩) (hS.put e2 e3 (hR.2 a _ hσ).2) hl
theorem r_iald (S : Ok κ k cc nL own ret nm h MC MS) {a n : Nat} {f : Nat → Int} {i : Int} (d : decode cc pc = .ok (.iaload, 1)) (hσ : σ.2 a = some (eI k n f)) (hi : 0 ≤ i ∧ i < n) (hn : n ≤ 2147483647) (kk : V κ k nL cs ss Q (pc + 1) lv (.int (iZ (f i.toNat)) :: st) σ) : V κ k nL cs ss Q pc lv (.int (iZ i) :: .ref a :: st) σ := by
  intro H locs ls hR hS hl
  obtain ⟨⟨hx, hb, hml, hown, hts⟩, ⟨hK, -⟩, -⟩ := S
  have hP : va_P (cD k) vwCl [(a, eI k n f)] H := by
    intro q x hq
    have hz : q < 1 := (List.getElem?_eq_some_iff.mp hq).1
    rw [show q = 0 by omega] at hq
    cases hq
    exact hR.at hσ
  refine va_iald hx hb hK hP 0 0 rfl rfl (iZ_in hi.1 hi.2 hn) d ?_
  rw [iZ_clamp hi.1 (by omega)]
  exact kk H locs ls hR hS hl
theorem r_bald (S : Ok κ k cc nL own ret nm h MC MS) {a n : Nat} {f : Nat → Int} {i : Int} (d : decode cc pc = .ok (.baload, 1)) (hσ : σ.2 a = some (eB k n f)) (hi : 0 ≤ i ∧ i < n) (hn : n ≤ 2147483647) (kk : V κ k nL cs ss Q (pc + 1) lv (.int (iZ (f i.toNat)) :: st) σ) : V κ k nL cs ss Q pc lv (.int (iZ i) :: .ref a :: st) σ := by
  intro H locs ls hR hS hl
  obtain ⟨⟨hx, hb, hml, hown, hts⟩, ⟨hK, -⟩, -⟩ := S
  have hP : va_P (cD k) vwCl [(a, eB k n f)] H := by
    intro q x hq
    have hz : q < 1 := (List.getElem?_eq_some_iff.mp hq).1
    rw [show q = 0 by omega] at hq
    cases hq
    exact hR.at hσ
  refine va_bald hx hb hK hP 0 1 rfl rfl (iZ_in hi.1 hi.2 hn) d ?_
  rw [iZ_clamp hi.1 (by omega)]
  exact kk H locs ls hR hS hl
theorem r_aald (S : Ok κ k cc nL own ret nm h MC MS) {a n t0 : Nat} {cA : ClassId} {C : String} {f : Nat → Option Nat} {i : Int} {v : Value} (ht : (cTys k)[t0]? = some (cA, .object C)) (d : decode cc pc = .ok (.aaload, 1)) (hσ : σ.2 a = some (eQ cA n f)) (hi : 0 ≤ i ∧ i < n) (hn : n ≤ 2147483647) (hv : va_rf (f i.toNat) = v) (kk : V κ k nL cs ss Q (pc + 1) lv (v :: st) σ) : V κ k nL cs ss Q pc lv (.int (iZ i) :: .ref a :: st) σ := by
  intro H locs ls hR hS hl
  obtain ⟨⟨hx, hb, hml, hown, hts⟩, ⟨hK, -⟩, -⟩ := S
  have hP : va_P (cD k) vwCl [(a, eQ cA n f)] H := by
    intro q x hq
    have hz : q < 1 := (List.getElem?_eq_some_iff.mp hq).1
    rw [show q = 0 by omega] at hq
    cases hq
    exact hR.at hσ
  refine va_aldq hx hb hK hP 0 t0 rfl ht (iZ_in hi.1 hi.2 hn) d ?_
  rw [iZ_clamp hi.1 (by omega), hv]
  exact kk H locs ls hR hS hl
theorem r_alenI (S : Ok κ k cc nL own ret nm h MC MS) {a n : Nat} {f : Nat → Int} (d : decode cc pc = .ok (.arraylength, 1)) (hσ : σ.2 a = some (eI k n f)) (kk : V κ k nL cs ss Q (pc + 1) lv (.int (iZ (n : Int)) :: st) σ) : V κ k nL cs ss Q pc lv (.ref a :: st) σ := by
  intro H locs ls hR hS hl
  obtain ⟨⟨hx, hb, hml, hown, hts⟩, ⟨hK, -⟩, -⟩ := S
  have hP : va_P (cD k) vwCl [(a, eI k n f)] H := by
    intro q x hq
    have hz : q < 1 := (List.getElem?_eq_some_iff.mp hq).1
    rw [show q = 0 by omega] at hq
    cases hq
    exact hR.at hσ
  exact va_alen hx hb hK hP 0 0 rfl rfl rfl d (kk H locs ls hR hS hl)
/-- the script and PLACES -/
theorem r_sald (S : Ok κ k cc nL own ret nm h MC MS) {i : Int} (d : decode cc pc = .ok (.iaload, 1)) (hi : 0 ≤ i ∧ i < cLen k) (hn : cLen k ≤ 2147483647) (kk : V κ k nL cs ss Q (pc + 1) lv (.int (iZ (cXs k i.toNat)) :: st) σ) : V κ k nL cs ss Q pc lv (.int (iZ i) :: .ref (cScr k) :: st) σ := by
  intro H locs ls hR hS hl
  obtain ⟨⟨hx, hb, hml, hown, hts⟩, ⟨hK, hB, hX, hlt, -⟩, -⟩ := S
  refine va_sld hx hb hX (Nat.lt_of_lt_of_le hlt hB) (Nat.not_le.mpr hlt) hS (iZ_in hi.1 hi.2 hn) d ?_
  rw [iZ_clamp hi.1 (by omega)]
  exact kk H locs ls hR hS hl
theorem r_slen (S : Ok κ k cc nL own ret nm h MC MS) (d : decode cc pc = .ok (.arraylength, 1)) (kk : V κ k nL cs ss Q (pc + 1) lv (.int (iZ (cLen k : Int)) :: st) σ) : V κ k nL cs ss Q pc lv (.ref (cScr k) :: st) σ := by
  intro H locs ls hR hS hl
  obtain ⟨⟨hx, hb, hml, hown, hts⟩, ⟨hK, hB, hX, hlt, -⟩, -⟩ := S
  exact va_slen hx hb hX (Nat.lt_of_lt_of_le hlt hB) (Nat.not_le.mpr hlt) hS d (kk H locs ls hR hS hl)
theorem r_gets (S : Ok κ k cc nL own ret nm h MC MS) {idx : Nat} (hw : Cond.fieldLink own idx "LiarsAnswers" "PLACES" "[I" ∈ gt) (d : decode cc pc = .ok (.getstatic idx, 3)) (kk : V κ k nL cs ss Q (pc + 3) lv (.ref (cPl k) :: st) σ) : V κ k nL cs ss Q pc lv st σ := by
  intro H locs ls hR hS hl
  obtain ⟨⟨hx, hb, hml, hown, hts⟩, ⟨hK, hB, hX, hlt, hZ, -⟩, -⟩ := S
  exact va_gets hx hb hZ hS hown (hts _ hw) (fun _ z => z) d (kk H locs ls hR hS hl)
theorem r_pald (S : Ok κ k cc nL own ret nm h MC MS) {i : Int} (d : decode cc pc = .ok (.iaload, 1)) (hi : 0 ≤ i ∧ i < 68) (kk : V κ k nL cs ss Q (pc + 1) lv (.int (iZ (plF i.toNat)) :: st) σ) : V κ k nL cs ss Q pc lv (.int (iZ i) :: .ref (cPl k) :: st) σ := by
  intro H locs ls hR hS hl
  obtain ⟨⟨hx, hb, hml, hown, hts⟩, ⟨hK, hB, hX, hlt, hZ, hT, -⟩, -⟩ := S
  obtain ⟨cell, h1, h2, h3, h4, h5, h6, h7⟩ := hT
  have hc : (iZ i).toNatClampNeg = i.toNat := iZ_clamp hi.1 (by omega)
  refine W.iald hx hb (v := .int (iZ (plF i.toNat))) (by rw [hS.2.1 _ (Array.getElem?_eq_some_iff.mp h1).1 h7]; exact h1) h2 h3 ?_ ?_ rfl rfl d (kk H locs ls hR hS hl)
  · rintro (q | q)
    · exact iZ_nn hi.1 (by omega) q
    · rw [hc] at q; omega
  · rw [hc]; exact h6 _ (by omega)
theorem r_plen (S : Ok κ k cc nL own ret nm h MC MS) (d : decode cc pc = .ok (.arraylength, 1)) (kk : V κ k nL cs ss Q (pc + 1) lv (.int (iZ 68) :: st) σ) : V κ k nL cs ss Q pc lv (.ref (cPl k) :: st) σ := by
  intro H locs ls hR hS hl
  obtain ⟨⟨hx, hb, hml, hown, hts⟩, ⟨hK, hB, hX, hlt, hZ, hT, -⟩, -⟩ := S
  obtain ⟨cell, h1, h2, h3, h4, h5, h6, h7⟩ := hT
  exact W.alen (n := iZ 68) hx hb (by rw [hS.2.1 _ (Array.getElem?_eq_some_iff.mp h1).1 h7]; exact h1) h2 (by rw [h5]; decide) rfl rfl d (kk H locs ls hR hS hl)
theorem r_iast (S : Ok κ k cc nL own ret nm h MC MS) {a n : Nat} {f : Nat → Int} {i x : Int} (d : decode cc pc = .ok (.iastore, 1)) (hσ : σ.2 a = some (eI k n f)) (hi : 0 ≤ i ∧ i < n) (hn : n ≤ 2147483647) (kk : V κ k nL cs ss Q (pc + 1) lv st (sUp σ a (eI k n (uZ f i.toNat x)))) : V κ k nL cs ss Q pc lv (.int (iZ x) :: .int (iZ i) :: .ref a :: st) σ := by
  intro H locs ls hR hS hl
  obtain ⟨⟨hx, hb, hml, hown, hts⟩, ⟨hK, -⟩, -⟩ := S
  have hc : (iZ i).toNatClampNeg = i.toNat := iZ_clamp hi.1 (by omega)
  have hin := iZ_in hi.1 hi.2 hn
  refine W.iast hx hb (hR.at hσ) ((hK.2 0 _ rfl).1 n (fun j => .int (iZ (f j)))) (fun q => by cases q) (by show ¬ (iZ i < 0 ∨ (arrV _ _ _).slots.size ≤ _); rw [arrV_size]; exact hin) rfl rfl d fun H1 e z oq => ?_
  refine kk H1 _ ls (hR.up hσ z oq ?_) (hS.put z oq (hR.2 a _ hσ).2) hl
  show H1[a]? = some (vp_cell _ _)
  rw [e, vp_cell_i]
  show some (Cell.setSlot (arrV _ _ _) _ _) = _
  rw [arrV_store]
  show some (arrV _ _ _) = some (arrV _ _ (fun j => .int (iZ (uZ f i.toNat x j))))
  congr 2
  funext q
  by_cases hq : q = i.toNat
  · subst hq
    simp [updV, uZ, hc]
  · simp [updV, uZ, hc, hq]
theorem r_bast (S : Ok κ k cc nL own ret nm h MC MS) {a n : Nat} {f : Nat → Int} {i x : Int} (d : decode cc pc = .ok (.bastore, 1)) (hσ : σ.2 a = some (eB k n f)) (hi : 0 ≤ i ∧ i < n) (hn : n ≤ 2147483647) (hx1 : narrow .byte (.int (iZ x)) = .int (iZ x)) (kk : V κ k nL cs ss Q (pc + 1) lv st (sUp σ a (eB k n (uZ f i.toNat x)))) : V κ k nL cs ss Q pc lv (.int (iZ x) :: .int (iZ i) :: .ref a :: st) σ := by
  intro H locs ls hR hS hl
  obtain ⟨⟨hx, hb, hml, hown, hts⟩, ⟨hK, -⟩, -⟩ := S
  have hc : (iZ i).toNatClampNeg = i.toNat := iZ_clamp hi.1 (by omega)
  have hin := iZ_in hi.1 hi.2 hn
  refine W.bast hx hb (hR.at hσ) ((hK.2 1 _ rfl).1 n (fun j => .int (iZ (f j)))) (fun q => by cases q) (by show ¬ (iZ i < 0 ∨ (arrV _ _ _).slots.size ≤ _); rw [arrV_size]; exact hin) rfl rfl d fun H1 e z oq => ?_
  refine kk H1 _ ls (hR.up hσ z oq ?_) (hS.put z oq (hR.2 a _ hσ).2) hl
  show H1[a]? = some (vp_cell _ _)
  rw [e, vp_cell_i]
  show some (Cell.setSlot (arrV _ _ _) _ _) = _
  rw [arrV_store]
  show some (arrV _ _ _) = some (arrV _ _ (fun j => .int (iZ (uZ f i.toNat x j))))
  congr 2
  funext q
  by_cases hq : q = i.toNat
  · subst hq
    simp [updV, uZ, hc, hx1]
  · simp [updV, uZ, hc, hq]
end VHEAP
