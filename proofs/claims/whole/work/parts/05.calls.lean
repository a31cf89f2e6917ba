/-! new cells, stores of references, returns, calls, contracts -/
theorem va_S.new {A : Nat → Prop} {H0 H H1 : Heap} {locs : List Loc} (hS : va_S A H0 H locs) (hz : H1.size = H.size + 1) (ho : ∀ q, q < H.size → H1[q]? = H[q]?) : va_S A H0 H1 locs :=
  ⟨Nat.le_trans hS.1 (by omega), fun x h1 h2 => (ho x (Nat.lt_of_lt_of_le h1 hS.1)).trans (hS.2.1 x h1 h2), hS.2.2⟩
/-- what 'new' of the entry idx makes: an object of class ci with these fields -/
def NW (own : String) (idx ci : Nat) (fs : List Value) : Prop := ∃ (C : String) (T : u_T) (ty : Nat → FieldType), vwCl[ci]? = some (C, T, fs.length) ∧ (∀ w ∈ u_ws C T fs.length, w ∈ gt) ∧ (∀ k, k < fs.length → parseFieldDescriptor (T k).2.2.1 = some (ty k)) ∧ Cond.classLink own idx C ∈ gt ∧ Cond.instantiable C fs.length ∈ gt ∧ Cond.initialized C ∈ gt ∧ ∀ j, j < fs.length → defaultValue (ty j) = vp_V fs j
abbrev Mth : Type := MethodName × ByteArray × Nat × Option FieldType
def KM (M : Mth) (n : Nat) : Prop := Cond.code M.1 M.2.1 M.2.2.1 M.2.2.2 ∈ gt ∧ Cond.initialized M.1.cls ∈ gt ∧ (M.1.cls ≠ "java/lang/invoke/MethodHandle" ∧ M.1.cls ≠ "java/lang/invoke/VarHandle") ∧ (parseMethodDescriptor M.1.desc).map (fun d => d.parameters.length) = some n ∧ M.2.2.1 ≤ 21
def rmh (h mc ms : Nat) : Room := { frames := h, cells := mc, slots := ms, locals := 40 * h }
def Qg (k : Cx) (post : Option Value → St → Prop) : Array Value → State → Outcome → State → Prop := fun _ st oc t => (∃ (r : Option Value) (σ' : St), oc = .returned r ∧ post r σ' ∧ Rep k σ' t.heap) ∧ va_F (cA k) st t
def QR (κ : Kx) (k : Cx) (post : Option Value → St → Prop) (mc ms : Nat) : State → Prop := MQ κ.2.2.2.2.2.2.2.1 (Qg k post) κ.2.2.2.2.2.2.1 κ.2.2.2.2.1 mc ms (cA k)
def Pcx (k : Cx) (av : List Value) (σ : St) : Array Value → State → Prop := va_Pc av (fun U => Old k U ∧ Rep k σ U.heap)
def Ctr (k : Cx) (l : Launch) (M : Mth) (h mc ms : Nat) (av : List Value) (σ : St) (post : Option Value → St → Prop) : Prop :=
  Met l M.1 (Cond.code M.1 M.2.1 M.2.2.1 M.2.2.2 :: gt) (rmh h mc ms) (Pcx k av σ) (Qg k post) mc ms (cA k)
/-- a method that answers a value; one that answers none -/
def CtrV (k : Cx) (l : Launch) (M : Mth) (h mc ms : Nat) (av : List Value) (σ : St) (P : Value → St → Prop) : Prop := Ctr k l M h mc ms av σ (fun r σ' => ∃ v, r = some v ∧ P v σ')
def CtrU (k : Cx) (l : Launch) (M : Mth) (h mc ms : Nat) (av : List Value) (σ : St) (P : St → Prop) : Prop := Ctr k l M h mc ms av σ (fun r σ' => r = none ∧ P σ')
theorem Pcx_blind {k : Cx} {av : List Value} {σ : St} : FrameBlind (Pcx k av σ) := by
  intro a U g mk h
  obtain ⟨h1, h2, h3⟩ := h
  exact ⟨h1, Old.moved (u := U) (U := U.calling g mk a) (State.WarmedH.refl U) (Nat.le_refl _) (fun _ _ _ => rfl) h2, h3⟩
theorem gt_good {w : Cond} (h : w ∈ gt) : (w.onTables && w.keeps) = true ∨ ∃ ty, w = .arrayClass ty := good_of_word (gt_word h)
theorem gt_goodIn {L : List Cond} (h : ∀ w ∈ L, w ∈ gt) : GoodIn gt L := fun w hw => ⟨h w hw, gt_good (h w hw)⟩
def ent (av : List Value) (n : Nat) : List (Option Value) := av.map some ++ List.replicate (n - av.length) none
theorem lvl_none (i : Nat) : ∀ n, lvl i (List.replicate n none) = [] := by
  intro n
  induction n generalizing i with
  | zero => rfl
  | succ n ih => rw [List.replicate_succ, lvl]; exact ih (i + 1)
theorem lvl_ent (av : List Value) (n i : Nat) (hc : av.all (fun v => v.category == 1) = true) : lvl i (av.map some ++ List.replicate n none) = lv_args i av := by
  induction av generalizing i with
  | nil => exact lvl_none i n
  | cons v r ih =>
    simp only [List.all_cons, Bool.and_eq_true, beq_iff_eq] at hc
    rw [List.map_cons, List.cons_append, lvl, lv_args, ih _ (by simpa using hc.2), if_neg (by rw [hc.1]; decide)]
/-- a contract out of a walk -/
theorem Ctr.of {k : Cx} {l : Launch} {M : Mth} {h mc ms : Nat} {av : List Value} {σ : St} {post : Option Value → St → Prop} (hp : plainName M.1.cls = true) (hc : av.all (fun v => v.category == 1) = true) (hn : (lg_sl av).length ≤ M.2.2.1)
    (body : ∀ κ : Kx, κ.2.1 = l → Ok κ k M.2.1 M.2.2.1 M.1.cls M.2.2.2 M.1.name h mc ms → V κ k M.2.2.1 0 0 (QR κ k post mc ms) 0 (ent av M.2.2.1) [] σ) : Ctr k l M h mc ms av σ post := by
  refine Met.ofW (cc := M.2.1) (maxL := M.2.2.1) (ret := M.2.2.2) hp rfl ?_
  intro p e s m args below meth c s₁ B hml hv
  obtain ⟨rfl, hO, hR⟩ := hv
  have hts := atoms_spec (ws := Cond.code M.1 M.2.1 M.2.2.1 M.2.2.2 :: gt) B.pre
  have S : Ok (p, l, e, rmh h mc ms, s, m, av.toArray, below, meth, c) k M.2.1 M.2.2.1 M.1.cls M.2.2.2 M.1.name h mc ms :=
    ⟨⟨B.exec, B.bytes, hml, findClass_of_methodNamed B.named, fun w hw => hts w (List.mem_cons_of_mem _ hw)⟩, hO, B.notSynchronized, B.returns, (name_of_methodNamed B.named B.method).1, Nat.le_refl _, Nat.le_refl _, rfl, rfl⟩
  have hl := lv_entry av (n := M.2.2.1) hn
  have hw := body _ rfl S
  rw [lg_entry_eq]
  refine hw s.heap [] _ hR va_S.rf ?_
  rw [ent, lvl_ent av _ 0 hc]
  exact hl
section VCALL
variable {κ : Kx} {k : Cx} {cc : ByteArray} {nL : Nat} {own : String} {ret : Option FieldType} {nm : String} {h MC MS : Nat} {cs ss : Nat} {Q : State → Prop} {pc : Nat} {lv lv' : List (Option Value)} {st : List Value} {σ : St}
theorem r_new (S : Ok κ k cc nL own ret nm h MC MS) {idx ci : Nat} {fs : List Value} (g : NW own idx ci fs) (d : decode cc pc = .ok (.new idx, 3)) (h1 : cs + 1 ≤ MC) (h2 : ss + fs.length ≤ MS) (kk : V κ k nL (cs + 1) (ss + fs.length) Q (pc + 3) lv (.ref σ.1 :: st) (sNew σ (.inr (ci, fs)))) : V κ k nL cs ss Q pc lv st σ := by
  intro H locs ls hR hS hl
  obtain ⟨⟨hx, hb, hml, hown, hts⟩, ⟨hK, hB, -⟩, -, -, -, -, -, rfl, rfl⟩ := S
  obtain ⟨C, T, ty, hc, hin, hty, g1, g2, g3, g4⟩ := g
  have hKn := hK.1 ci _ hc
  refine W.newcK hx hb hown (hts _ g1) (hts _ g2) (hts _ g3) rfl d h1 h2 hKn.2.1 hR.1 fun H1 kC hkC e1 z1 o1 => ?_
  rw [← hR.1] at e1 z1 o1
  exact kk H1 locs ls (hR.new (Nat.le_trans hB hS.1) z1 o1 ⟨_, hc, (u_born ty hts hin hKn hkC e1 hty).to g4⟩) (hS.new z1 o1) hl
theorem r_newI (S : Ok κ k cc nL own ret nm h MC MS) {n : Int} (hw : Cond.arrayClass .int ∈ gt) (d : decode cc pc = .ok (.newarray .int, 2)) (h0 : 0 ≤ n ∧ n ≤ 1000000) (h1 : cs + 1 ≤ MC) (h2 : ss + n.toNat ≤ MS) (kk : V κ k nL (cs + 1) (ss + n.toNat) Q (pc + 2) lv (.ref σ.1 :: st) (sNew σ (eI k n.toNat (fun _ => 0)))) : V κ k nL cs ss Q pc lv (.int (iZ n) :: st) σ := by
  intro H locs ls hR hS hl
  obtain ⟨⟨hx, hb, hml, hown, hts⟩, ⟨hK, hB, -⟩, -, -, -, -, -, rfl, rfl⟩ := S
  refine va_newaK (atype := .int) hx hb (hts _ hw) rfl d rfl (iZ_nn h0.1 (by omega)) (iZ_clamp h0.1 (by omega)) (by show n.toNat * 4 ≤ _; omega) h1 h2 hR.1 fun H1 cA e1 z1 o1 hAr hNm => ?_
  rw [← hR.1] at e1 z1 o1
  have hcA : cA = cI k := by
    have h9 : κ.2.2.2.2.1.vm.findClass ("[" ++ (FieldType.int).toString) = some (cI k) := (hK.2 0 _ rfl).2
    exact Option.some.inj (hNm.symm.trans h9)
  subst hcA
  exact kk H1 locs ls (hR.new (Nat.le_trans hB hS.1) z1 o1 e1) (hS.new z1 o1) hl
theorem r_newB (S : Ok κ k cc nL own ret nm h MC MS) {n : Int} (hw : Cond.arrayClass .byte ∈ gt) (d : decode cc pc = .ok (.newarray .byte, 2)) (h0 : 0 ≤ n ∧ n ≤ 1000000) (h1 : cs + 1 ≤ MC) (h2 : ss + n.toNat ≤ MS) (kk : V κ k nL (cs + 1) (ss + n.toNat) Q (pc + 2) lv (.ref σ.1 :: st) (sNew σ (eB k n.toNat (fun _ => 0)))) : V κ k nL cs ss Q pc lv (.int (iZ n) :: st) σ := by
  intro H locs ls hR hS hl
  obtain ⟨⟨hx, hb, hml, hown, hts⟩, ⟨hK, hB, -⟩, -, -, -, -, -, rfl, rfl⟩ := S
  refine va_newaK (atype := .byte) hx hb (hts _ hw) rfl d rfl (iZ_nn h0.1 (by omega)) (iZ_clamp h0.1 (by omega)) (by show n.toNat * 1 ≤ _; omega) h1 h2 hR.1 fun H1 cA e1 z1 o1 hAr hNm => ?_
  rw [← hR.1] at e1 z1 o1
  have hcA : cA = cB k := by
    have h9 : κ.2.2.2.2.1.vm.findClass ("[" ++ (FieldType.byte).toString) = some (cB k) := (hK.2 1 _ rfl).2
    exact Option.some.inj (hNm.symm.trans h9)
  subst hcA
  exact kk H1 locs ls (hR.new (Nat.le_trans hB hS.1) z1 o1 e1) (hS.new z1 o1) hl
theorem r_newQ (S : Ok κ k cc nL own ret nm h MC MS) {n : Int} {idx t0 : Nat} {cA : ClassId} {C : String} (ht : (cTys k)[t0]? = some (cA, .object C)) (hw : Cond.classLink own idx C ∈ gt) (hw2 : Cond.arrayOver (.object C) ∈ lw_tbl) (d : decode cc pc = .ok (.anewarray idx, 3)) (h0 : 0 ≤ n ∧ n ≤ 1000000) (h1 : cs + 1 ≤ MC) (h2 : ss + n.toNat ≤ MS) (kk : V κ k nL (cs + 1) (ss + n.toNat) Q (pc + 3) lv (.ref σ.1 :: st) (sNew σ (eQ cA n.toNat (fun _ => none)))) : V κ k nL cs ss Q pc lv (.int (iZ n) :: st) σ := by
  intro H locs ls hR hS hl
  obtain ⟨⟨hx, hb, hml, hown, hts⟩, ⟨hK, hB, -, -, -, -, hNw⟩, -, -, -, -, -, rfl, rfl⟩ := S
  have hc : (iZ n).toNatClampNeg = n.toNat := iZ_clamp h0.1 (by omega)
  refine W.anew hx hb hown (hts _ hw) (va_AO.use (hNw _ hw2 rfl)) rfl d rfl (iZ_nn h0.1 (by omega)) (by rw [hc]; omega) h1 (by rw [hc]; exact h2) fun cA' kA comp f1 f2 f3 f4 => ?_
  obtain ⟨kA2, comp2, g1, g2, g3, g4⟩ := (hK.2 t0 _ ht).2
  have hcA : cA' = cA := Option.some.inj (f1.symm.trans g4)
  subst hcA
  rw [hc]
  have hz : H.size = σ.1 := hR.1
  rw [hz]
  refine kk _ locs ls (hR.new (Nat.le_trans hB hS.1) (by rw [Array.size_push]) (fun q hq => by rw [Array.getElem?_push, if_neg (Nat.ne_of_lt hq)]) ?_) (hS.new (by rw [Array.size_push]) (fun q hq => by rw [Array.getElem?_push, if_neg (Nat.ne_of_lt hq)])) hl
  show (H.push _)[H.size]? = some (vp_cell _ _)
  rw [vp_cell_q, Array.getElem?_push_size, ← arrV_new]
  rfl
theorem r_aast (S : Ok κ k cc nL own ret nm h MC MS) {a n t0 ci v : Nat} {vs : List Value} {cA : ClassId} {C C2 : String} {T : u_T} {N : Nat} {f : Nat → Option Nat} {i : Int} (ht : (cTys k)[t0]? = some (cA, .object C)) (hci : vwCl[ci]? = some (C2, T, N)) {cj N2 : Nat} {T2 : u_T} (hcj : vwCl[cj]? = some (C, T2, N2)) (hw : C2 = C ∨ Cond.castable C2 C ∈ lw_tbl) (d : decode cc pc = .ok (.aastore, 1)) (hσ : σ.2 a = some (eQ cA n f)) (hi : 0 ≤ i ∧ i < n) (hn : n ≤ 2147483647) (hv : σ.2 v = some (.inr (ci, vs))) (kk : V κ k nL cs ss Q (pc + 1) lv st (sUp σ a (eQ cA n (uQ f i.toNat v)))) : V κ k nL cs ss Q pc lv (.ref v :: .int (iZ i) :: .ref a :: st) σ := by
  intro H locs ls hR hS hl
  obtain ⟨⟨hx, hb, hml, hown, hts⟩, ⟨hK, hB, -, -, -, -, hNw⟩, -⟩ := S
  have hc : (iZ i).toNatClampNeg = i.toNat := iZ_clamp hi.1 (by omega)
  obtain ⟨r', hr', cellV, g1, g2, g3, -⟩ := hR.at hv
  have hcls := (hK.1 ci _ hci).2
  obtain ⟨kA, comp, k1, k2, k3, -⟩ := (hK.2 t0 _ ht).2
  obtain ⟨kC, hkC, hkk⟩ := hcls.2
  have hass : κ.2.2.2.2.1.vm.assignable ((cD k).1 ci) comp = true ∧ ∃ kc, κ.2.2.2.2.1.vm.classes[comp]? = some kc := by
    rcases hw with e | e
    · subst e
      have hcomp : comp = (cD k).1 ci := Option.some.inj (k3.symm.trans hcls.1)
      subst hcomp
      exact ⟨va_assign hcls, kC, hkC⟩
    · obtain ⟨c0, c1, f1, f2, f3⟩ := Cond.castable_spec (va_Nw.use (A := #[]) rfl (hNw _ e rfl))
      have e0 : c0 = (cD k).1 ci := Option.some.inj (f1.symm.trans hcls.1)
      have e1 : c1 = comp := Option.some.inj (f2.symm.trans k3)
      subst e0; subst e1
      have hcj2 := (hK.1 cj _ hcj).2
      have e2 : c1 = (cD k).1 cj := Option.some.inj (f2.symm.trans hcj2.1)
      subst e2
      obtain ⟨kj, hkj, -⟩ := hcj2.2
      exact ⟨f3, kj, hkj⟩
  obtain ⟨kc, hkc⟩ := hass.2
  refine W.aast hx hb (hR.at hσ) (fun q z => by cases z) (fun z => by cases z) k1 k2 rfl hkc ⟨iZ_nn hi.1 (by omega), by show _ < (arrV _ _ _).slots.size; rw [arrV_size, hc]; show i.toNat < n; omega⟩ g1 (fun q z => by rw [g3] at z; cases z) (by rw [g2]; exact hkC) (by rw [g2]; exact hass.1) rfl rfl d fun H1 e z oq => ?_
  refine kk H1 _ ls (hR.up hσ z oq ?_) (hS.put z oq (hR.2 a _ hσ).2) hl
  show H1[a]? = some (vp_cell _ _)
  rw [e, vp_cell_q]
  show some (Cell.setSlot (arrV _ _ _) _ _) = _
  rw [arrV_store]
  show some (arrV _ _ _) = some (arrV _ _ (fun j => va_rf (uQ f i.toNat v j)))
  congr 2
  funext q
  by_cases hq : q = i.toNat
  · subst hq
    simp [updV, uQ, hc, va_rf]
  · simp [updV, uQ, hc, hq]
theorem r_iret {post : Option Value → St → Prop} {mc ms : Nat} {z : Int} (S : Ok κ k cc nL own (some .int) nm h MC MS) (d : decode cc pc = .ok (.ireturn, 1)) (h1 : cs ≤ mc) (h2 : ss ≤ ms) (hp : post (some (.int (iZ z))) σ) : V κ k nL cs ss (QR κ k post mc ms) pc lv [.int (iZ z)] σ := by
  intro H locs ls hR hS hl
  obtain ⟨⟨hx, hb, hml, hown, hts⟩, -, hlk, hr, -⟩ := S
  exact W.widen h1 h2 (W.iret hx hb hr (fun t ht hW => ⟨⟨_, σ, rfl, hp, by rw [ht]; exact hR⟩, hS.F ht⟩) hS.2.2 d hlk)
theorem r_zret {post : Option Value → St → Prop} {mc ms : Nat} {z : Int} (S : Ok κ k cc nL own (some .boolean) nm h MC MS) (d : decode cc pc = .ok (.ireturn, 1)) (h1 : cs ≤ mc) (h2 : ss ≤ ms) (hz : z = 0 ∨ z = 1) (hp : post (some (.int (iZ z))) σ) : V κ k nL cs ss (QR κ k post mc ms) pc lv [.int (iZ z)] σ := by
  intro H locs ls hR hS hl
  obtain ⟨⟨hx, hb, hml, hown, hts⟩, -, hlk, hr, -⟩ := S
  have hnar : narrow .boolean (.int (iZ z)) = .int (iZ z) := by rcases hz with e | e <;> subst e <;> decide
  exact W.widen h1 h2 (W.zret hx hb hr hnar (fun t ht hW => ⟨⟨_, σ, rfl, hp, by rw [ht]; exact hR⟩, hS.F ht⟩) hS.2.2 d hlk)
theorem r_lret {post : Option Value → St → Prop} {mc ms : Nat} {z : Int} (S : Ok κ k cc nL own (some .long) nm h MC MS) (d : decode cc pc = .ok (.lreturn, 1)) (h1 : cs ≤ mc) (h2 : ss ≤ ms) (hp : post (some (.long (lZ z))) σ) : V κ k nL cs ss (QR κ k post mc ms) pc lv [.long (lZ z)] σ := by
  intro H locs ls hR hS hl
  obtain ⟨⟨hx, hb, hml, hown, hts⟩, -, hlk, hr, -⟩ := S
  exact W.widen h1 h2 (W.lret hx hb hr (fun t ht hW => ⟨⟨_, σ, rfl, hp, by rw [ht]; exact hR⟩, hS.F ht⟩) hS.2.2 d hlk)
theorem r_aret {post : Option Value → St → Prop} {mc ms a : Nat} {C : String} (S : Ok κ k cc nL own (some (.object C)) nm h MC MS) (d : decode cc pc = .ok (.areturn, 1)) (h1 : cs ≤ mc) (h2 : ss ≤ ms) (hp : post (some (.ref a)) σ) : V κ k nL cs ss (QR κ k post mc ms) pc lv [.ref a] σ := by
  intro H locs ls hR hS hl
  obtain ⟨⟨hx, hb, hml, hown, hts⟩, -, hlk, hr, -⟩ := S
  exact W.widen h1 h2 (W.aret hx hb hr (Or.inl ⟨_, rfl⟩) (Or.inr ⟨_, rfl⟩) (fun t ht hW => ⟨⟨_, σ, rfl, hp, by rw [ht]; exact hR⟩, hS.F ht⟩) hS.2.2 d hlk)
theorem r_vret {post : Option Value → St → Prop} {mc ms : Nat} (S : Ok κ k cc nL own none nm h MC MS) (d : decode cc pc = .ok (.return_, 1)) (h1 : cs ≤ mc) (h2 : ss ≤ ms) (hp : post none σ) : V κ k nL cs ss (QR κ k post mc ms) pc lv [] σ := by
  intro H locs ls hR hS hl
  obtain ⟨⟨hx, hb, hml, hown, hts⟩, -, hlk, hr, -⟩ := S
  exact W.widen h1 h2 (W.vret hx hb hr (fun t ht hW => ⟨⟨_, σ, rfl, hp, by rw [ht]; exact hR⟩, hS.F ht⟩) hS.2.2 d hlk)
/-- behind a call -/
theorem V.run {post : Option Value → St → Prop} {mc ms : Nat} {a : Array Value} {rest : List Value} (hr : ∀ (H : Heap) (locs : List Loc) (ls : Array Slot), Rep k σ H → va_S (cA k) κ.2.2.2.2.1.heap H locs → lv_has ls nL (lvl 0 lv) → va_Run κ.1 κ.2.1 κ.2.2.1 κ.2.2.2.1 κ.2.2.2.2.1 κ.2.2.2.2.2.1 κ.2.2.2.2.2.2.1 κ.2.2.2.2.2.2.2.1 κ.2.2.2.2.2.2.2.2.1 κ.2.2.2.2.2.2.2.2.2 H locs cs ss mc ms (F0 κ.2.2.2.2.2.1 pc ls st) rest (Qg k post a) (cA k))
    (kk : ∀ (r : Option Value) (σ' : St), post r σ' → V κ k nL (cs + mc) (ss + ms) Q (pc + 3) lv (r.toList ++ rest) σ') : V κ k nL cs ss Q pc lv st σ := by
  intro H locs ls hR hS hl T hT X
  obtain ⟨v, st₀, t, T', L, h0, X', hL, e1, e2, ⟨⟨r, σ', hv, hp, hR'⟩, hz, hk⟩, go⟩ := hr H locs ls hR hS hl T hT X
  cases hv
  rw [h0] at hz hk
  obtain ⟨t2, a1, b1⟩ := kk v σ' hp T'.heap (locs ++ L) ls (by rw [e1]; exact hR') ⟨Nat.le_trans hS.1 (by rw [e1]; exact hz), fun q h1 h2 => by rw [e1, hk q (Nat.lt_of_lt_of_le h1 hS.1) h2]; exact hS.2.1 q h1 h2, fun q hq => by
      rcases List.mem_append.mp hq with h | h
      · exact hS.2.2 q h
      · exact hL q h⟩ hl T' rfl X'
  exact ⟨t2, go t2 a1, b1⟩
theorem Ok.pre (S : Ok κ k cc nL own ret nm h MC MS) {H : Heap} {locs : List Loc} {av : List Value} (hR : Rep k σ H) (hS : va_S (cA k) κ.2.2.2.2.1.heap H locs) : ∀ U : State, U.heap = H → κ.2.2.2.2.1.WarmedH U.vm → Pcx k av σ av.toArray U := by
  intro U hU hW
  refine ⟨rfl, Old.moved hW (by rw [hU]; exact hS.1) (fun q h1 h2 => by rw [hU]; exact hS.2.1 q h1 h2) S.2.1, by rw [hU]; exact hR⟩
theorem Ok.words (S : Ok κ k cc nL own ret nm h MC MS) {M : Mth} {n : Nat} (K : KM M n) : ∀ w ∈ (Cond.code M.1 M.2.1 M.2.2.1 M.2.2.2 :: gt), ∀ (a' : Array Value) (U : State), κ.2.2.2.2.1.WarmedH U.vm → w.before a' U = true :=
  pay_in S.1.2.2.2.2 (gt_goodIn fun w hw => by
    rcases List.mem_cons.mp hw with e | e
    · rw [e]; exact K.1
    · exact e)
theorem Ok.callB (S : Ok κ k cc nL own ret nm h MC MS) {M : Mth} {n h' mc ms idx : Nat} (K : KM M n) (hh : h' + 1 ≤ h) (hl : Cond.methodLink own idx M.1 ∈ gt) : CallB κ.2.2.2.1 κ.2.2.2.2.1 κ.2.2.2.2.2.2.1 own idx M.1 M.2.1 M.2.2.1 M.2.2.2 (Cond.code M.1 M.2.1 M.2.2.1 M.2.2.2 :: gt) (rmh h' mc ms) mc ms n := by
  have hw := S.words K
  obtain ⟨⟨hx, hb, hml, hown, hts⟩, hO, -, -, -, hf, hlo, -⟩ := S
  obtain ⟨k1, k2, k3, k4, k5⟩ := K
  refine ⟨rfl, rfl, by show h' + 1 ≤ _; omega, by show 8 + (M.2.2.1 + 11) + 40 * h' ≤ _; omega, hw, List.mem_cons_self, hts _ k1, hts _ k2, k3, fun sig hs => ?_, hts _ hl⟩
  rw [hs] at k4
  exact (Option.some.inj k4).symm
theorem Ok.callN (S : Ok κ k cc nL own ret nm h MC MS) {M : Mth} {n h' mc ms idx : Nat} {host : String} (K : KM M n) (hh : h' + 1 ≤ h) (hl : Cond.methodLinkNest own idx M.1 host ∈ lw_tbl) : va_CN κ.2.2.2.1 κ.2.2.2.2.1 κ.2.2.2.2.2.2.1 own idx M.1 host M.2.1 M.2.2.1 M.2.2.2 (Cond.code M.1 M.2.1 M.2.2.1 M.2.2.2 :: gt) (rmh h' mc ms) mc ms n := by
  obtain ⟨⟨hx, hb, hml, hown, hts⟩, ⟨-, -, -, -, -, -, hNw⟩, -, -, -, hf, hlo, -⟩ := S
  obtain ⟨k1, k2, k3, k4, k5⟩ := K
  exact va_cnB n hts (gt_goodIn fun w hw => by
    rcases List.mem_cons.mp hw with e | e
    · rw [e]; exact k1
    · exact e) rfl rfl rfl (hNw _ hl rfl) (hts _ k2) ⟨k3.1, k3.2, k4⟩ ⟨by show h' + 1 ≤ _; omega, by show 8 + (M.2.2.1 + 11) + 40 * h' ≤ _; omega⟩
theorem Ok.recv (S : Ok κ k cc nL own ret nm h MC MS) {H : Heap} {b ci : Nat} {fs : List Value} {C : String} {T : u_T} {N : Nat} (hR : Rep k σ H) (hc : vwCl[ci]? = some (C, T, N)) (hσ : σ.2 b = some (.inr (ci, fs))) : ∃ cell : Cell, H[b]? = some cell ∧ cell.vm.isStatics = false ∧ κ.2.2.2.2.1.vm.findClass C = some cell.cls := by
  have hP : va_P (cD k) vwCl [(b, .inr (ci, fs))] H := by
    intro q x hq
    have hz : q < 1 := (List.getElem?_eq_some_iff.mp hq).1
    rw [show q = 0 by omega] at hq
    cases hq
    exact hR.at hσ
  exact va_recv S.2.1.1 hP hc (q0 := 0) rfl
/-- calls: V a method of the receiver's own class; S static; I a constructor; N by the nest; U inherited; O overriding; P of the superclass -/
def KV (own : String) (idx : Nat) (M : Mth) (ci : Nat) : Prop := ∃ (T : u_T) (N : Nat), vwCl[ci]? = some (M.1.cls, T, N) ∧ Cond.methodLink own idx M.1 ∈ gt ∧ Cond.instanceMethod M.1 ∈ gt ∧ Cond.selects M.1.cls M.1 M.1 ∈ gt
theorem r_callV (S : Ok κ k cc nL own ret nm h MC MS) {M : Mth} {n h' mc ms idx ci b : Nat} {As rest fs : List Value} {post : Option Value → St → Prop} (C : Ctr k κ.2.1 M h' mc ms (.ref b :: As) σ post) (K : KM M n) (KK : KV own idx M ci) (d : decode cc pc = .ok (.invokevirtual idx, 3)) (hh : h' + 1 ≤ h) (hcs : cs + mc ≤ MC ∧ ss + ms ≤ MS) (hσ : σ.2 b = some (.inr (ci, fs))) (hn : As.length = n) (hst : st = As.reverse ++ .ref b :: rest) (hrm : (rest.map fun v => v.category).sum ≤ 8) (kk : ∀ (r : Option Value) (σ' : St), post r σ' → V κ k nL (cs + mc) (ss + ms) Q (pc + 3) lv (r.toList ++ rest) σ') : V κ k nL cs ss Q pc lv st σ := by
  obtain ⟨T, N, hc, hl, hi, hs⟩ := KK
  refine V.run (a := #[]) (fun H locs ls hR hS hl2 => ?_) kk
  have hMC : κ.2.2.2.1.cells = MC := S.2.2.2.2.2.2.2.1
  have hMS : κ.2.2.2.1.slots = MS := S.2.2.2.2.2.2.2.2
  exact va_runV S.1 C ⟨S.callB K hh hl, S.1.2.2.2.2 _ hi, S.1.2.2.2.2 _ hs⟩ ⟨Pcx_blind, S.recv hR hc hσ, S.pre hR hS⟩ rfl hn hl2.1 hst (lv_room hrm) d ⟨by omega, by omega⟩
theorem r_callS (S : Ok κ k cc nL own ret nm h MC MS) {M : Mth} {n h' mc ms idx : Nat} {As rest : List Value} {post : Option Value → St → Prop} (C : Ctr k κ.2.1 M h' mc ms As σ post) (K : KM M n) (KK : Cond.methodLink own idx M.1 ∈ gt ∧ Cond.static M.1 ∈ gt) (d : decode cc pc = .ok (.invokestatic idx, 3)) (hh : h' + 1 ≤ h) (hcs : cs + mc ≤ MC ∧ ss + ms ≤ MS) (hn : As.length = n) (hst : st = As.reverse ++ rest) (hrm : (rest.map fun v => v.category).sum ≤ 8) (kk : ∀ (r : Option Value) (σ' : St), post r σ' → V κ k nL (cs + mc) (ss + ms) Q (pc + 3) lv (r.toList ++ rest) σ') : V κ k nL cs ss Q pc lv st σ := by
  refine V.run (a := #[]) (fun H locs ls hR hS hl2 => ?_) kk
  have hMC : κ.2.2.2.1.cells = MC := S.2.2.2.2.2.2.2.1
  have hMS : κ.2.2.2.1.slots = MS := S.2.2.2.2.2.2.2.2
  exact va_runS (As := As) S.1 C ⟨S.callB K hh KK.1, S.1.2.2.2.2 _ KK.2⟩ ⟨Pcx_blind, S.pre hR hS⟩ rfl hn hl2.1 hst (lv_room hrm) d ⟨by omega, by omega⟩
theorem r_callSN (S : Ok κ k cc nL own ret nm h MC MS) {M : Mth} {n h' mc ms idx : Nat} {host : String} {As rest : List Value} {post : Option Value → St → Prop} (C : Ctr k κ.2.1 M h' mc ms As σ post) (K : KM M n) (KK : Cond.methodLinkNest own idx M.1 host ∈ lw_tbl ∧ Cond.static M.1 ∈ gt) (d : decode cc pc = .ok (.invokestatic idx, 3)) (hh : h' + 1 ≤ h) (hcs : cs + mc ≤ MC ∧ ss + ms ≤ MS) (hn : As.length = n) (hst : st = As.reverse ++ rest) (hrm : (rest.map fun v => v.category).sum ≤ 8) (kk : ∀ (r : Option Value) (σ' : St), post r σ' → V κ k nL (cs + mc) (ss + ms) Q (pc + 3) lv (r.toList ++ rest) σ') : V κ k nL cs ss Q pc lv st σ := by
  refine V.run (a := #[]) (fun H locs ls hR hS hl2 => ?_) kk
  have hMC : κ.2.2.2.1.cells = MC := S.2.2.2.2.2.2.2.1
  have hMS : κ.2.2.2.1.slots = MS := S.2.2.2.2.2.2.2.2
  exact va_runSN (As := As) S.1 C ⟨S.callN K hh KK.1, S.1.2.2.2.2 _ KK.2, trivial⟩ ⟨Pcx_blind, S.pre hR hS⟩ rfl hn hl2.1 hst (lv_room hrm) d ⟨by omega, by omega⟩
theorem r_callI (S : Ok κ k cc nL own ret nm h MC MS) {M : Mth} {n h' mc ms idx b : Nat} {As rest : List Value} {post : Option Value → St → Prop} (C : Ctr k κ.2.1 M h' mc ms (.ref b :: As) σ post) (K : KM M n) (KK : Cond.methodLink own idx M.1 ∈ gt ∧ Cond.instanceMethod M.1 ∈ gt ∧ M.1.name = "<init>" ∧ M.2.2.2 = none) (d : decode cc pc = .ok (.invokespecial idx, 3)) (hh : h' + 1 ≤ h) (hcs : cs + mc ≤ MC ∧ ss + ms ≤ MS) (hn : As.length = n) (hst : st = As.reverse ++ .ref b :: rest) (hrm : (rest.map fun v => v.category).sum ≤ 8) (kk : ∀ (r : Option Value) (σ' : St), post r σ' → V κ k nL (cs + mc) (ss + ms) Q (pc + 3) lv (r.toList ++ rest) σ') : V κ k nL cs ss Q pc lv st σ := by
  refine V.run (a := #[]) (fun H locs ls hR hS hl2 => ?_) kk
  have hMC : κ.2.2.2.1.cells = MC := S.2.2.2.2.2.2.2.1
  have hMS : κ.2.2.2.1.slots = MS := S.2.2.2.2.2.2.2.2
  exact va_runI S.1 C ⟨by have h9 := S.callB (mc := mc) (ms := ms) K hh KK.1; rw [KK.2.2.2] at h9; rw [KK.2.2.2]; exact h9, KK.2.2.1, S.1.2.2.2.2 _ KK.2.1⟩ ⟨Pcx_blind, S.pre hR hS⟩ rfl hn hl2.1 hst (lv_room hrm) d ⟨by omega, by omega⟩
theorem r_callIN (S : Ok κ k cc nL own ret nm h MC MS) {M : Mth} {n h' mc ms idx b : Nat} {host : String} {As rest : List Value} {post : Option Value → St → Prop} (C : Ctr k κ.2.1 M h' mc ms (.ref b :: As) σ post) (K : KM M n) (KK : Cond.methodLinkNest own idx M.1 host ∈ lw_tbl ∧ Cond.instanceMethod M.1 ∈ gt ∧ M.1.name = "<init>" ∧ M.2.2.2 = none) (d : decode cc pc = .ok (.invokespecial idx, 3)) (hh : h' + 1 ≤ h) (hcs : cs + mc ≤ MC ∧ ss + ms ≤ MS) (hn : As.length = n) (hst : st = As.reverse ++ .ref b :: rest) (hrm : (rest.map fun v => v.category).sum ≤ 8) (kk : ∀ (r : Option Value) (σ' : St), post r σ' → V κ k nL (cs + mc) (ss + ms) Q (pc + 3) lv (r.toList ++ rest) σ') : V κ k nL cs ss Q pc lv st σ := by
  refine V.run (a := #[]) (fun H locs ls hR hS hl2 => ?_) kk
  have hMC : κ.2.2.2.1.cells = MC := S.2.2.2.2.2.2.2.1
  have hMS : κ.2.2.2.1.slots = MS := S.2.2.2.2.2.2.2.2
  exact va_runIN S.1 C ⟨by have h9 := S.callN (mc := mc) (ms := ms) K hh KK.1; rw [KK.2.2.2] at h9; rw [KK.2.2.2]; exact h9, KK.2.2.1, S.1.2.2.2.2 _ KK.2.1⟩ ⟨Pcx_blind, S.pre hR hS⟩ rfl hn hl2.1 hst (lv_room hrm) d ⟨by omega, by omega⟩
def KU (own : String) (idx : Nat) (x : MethodName) (owner : String) (M : Mth) (ci n : Nat) : Prop := ∃ (C : String) (T : u_T) (N : Nat), vwCl[ci]? = some (C, T, N) ∧ Cond.methodLink own idx x ∈ gt ∧ Cond.sameMethod x.cls owner x.name x.desc ∈ gt ∧ (∀ (a : Array Value) (s : State), (∀ w ∈ gt, w.before a s = true) → (Cond.selects C x M.1).before a s = true) ∧ Cond.instanceMethod M.1 ∈ gt ∧ (owner ≠ "java/lang/invoke/MethodHandle" ∧ owner ≠ "java/lang/invoke/VarHandle") ∧ (parseMethodDescriptor x.desc).map (fun d => d.parameters.length) = some n ∧
  (Cond.declares ⟨owner, x.name, x.desc⟩ ∈ lw_tbl ∨ (Cond.instanceMethod ⟨owner, x.name, x.desc⟩ ∈ gt ∧ ∃ (b0 : ByteArray) (m0 : Nat) (r0 : Option FieldType), Cond.code ⟨owner, x.name, x.desc⟩ b0 m0 r0 ∈ gt))
theorem r_callU (S : Ok κ k cc nL own ret nm h MC MS) {M : Mth} {x : MethodName} {owner : String} {n n' h' mc ms idx ci b : Nat} {As rest fs : List Value} {post : Option Value → St → Prop} (C : Ctr k κ.2.1 M h' mc ms (.ref b :: As) σ post) (K : KM M n') (KK : KU own idx x owner M ci n) (d : decode cc pc = .ok (.invokevirtual idx, 3)) (hh : h' + 1 ≤ h) (hcs : cs + mc ≤ MC ∧ ss + ms ≤ MS) (hσ : σ.2 b = some (.inr (ci, fs))) (hn : As.length = n) (hst : st = As.reverse ++ .ref b :: rest) (hrm : (rest.map fun v => v.category).sum ≤ 8) (kk : ∀ (r : Option Value) (σ' : St), post r σ' → V κ k nL (cs + mc) (ss + ms) Q (pc + 3) lv (r.toList ++ rest) σ') : V κ k nL cs ss Q pc lv st σ := by
  obtain ⟨Cn, T, N, hc, g1, g2, g3, g4, g5, g6, g7⟩ := KK
  have hts := S.1.2.2.2.2
  have hdec : va_Decl κ.2.2.2.2.1 ⟨owner, x.name, x.desc⟩ := by
    rcases g7 with e | ⟨e1, b0, m0, r0, e2⟩
    · exact va_Decl.abs (S.2.1.2.2.2.2.2.2 _ e rfl)
    · exact va_Decl.of (hts _ e1) (hts _ e2)
  have hw := S.words K
  have hf := S.2.2.2.2.2.1
  have hlo := S.2.2.2.2.2.2.1
  have k5 := K.2.2.2.2
  have cw : va_CU κ.2.2.2.1 κ.2.2.2.2.1 κ.2.2.2.2.2.2.1 own Cn owner idx x M.1 M.2.1 M.2.2.1 M.2.2.2 (Cond.code M.1 M.2.1 M.2.2.1 M.2.2.2 :: gt) (rmh h' mc ms) mc ms n := by
    refine ⟨⟨rfl, rfl, by show h' + 1 ≤ _; omega, by show 8 + (M.2.2.1 + 11) + 40 * h' ≤ _; omega, hw, List.mem_cons_self⟩, hts _ K.1, hts _ K.2.1, g5, fun sig hs => ?_, hts _ g1, hts _ g2, hdec, g3 _ _ hts, hts _ g4⟩
    rw [hs] at g6
    exact (Option.some.inj g6).symm
  refine V.run (a := #[]) (fun H locs ls hR hS hl2 => ?_) kk
  have hMC : κ.2.2.2.1.cells = MC := S.2.2.2.2.2.2.2.1
  have hMS : κ.2.2.2.1.slots = MS := S.2.2.2.2.2.2.2.2
  exact va_runU S.1 C cw ⟨Pcx_blind, S.recv hR hc hσ, S.pre hR hS⟩ rfl hn hl2.1 hst (lv_room hrm) d ⟨by omega, by omega⟩
def KP (own : String) (idx : Nat) (M : Mth) (n : Nat) : Prop := (∀ w ∈ ([.methodLink own idx M.1, .sameMethod M.1.cls M.1.cls M.1.name M.1.desc, .superclass own M.1.cls, .instanceMethod M.1, .initialized M.1.cls] : List Cond), w ∈ gt) ∧ M.1.name ≠ "<init>" ∧ (parseMethodDescriptor M.1.desc).map (fun d => d.parameters.length) = some n
theorem r_callP (S : Ok κ k cc nL own ret nm h MC MS) {M : Mth} {n n' h' mc ms idx ci b N : Nat} {T : u_T} {C1 : String} {As rest fs : List Value} {post : Option Value → St → Prop} (C : Ctr k κ.2.1 M h' mc ms (.ref b :: As) σ post) (K : KM M n') (KK : KP own idx M n) (hc : vwCl[ci]? = some (C1, T, N)) (d : decode cc pc = .ok (.invokespecial idx, 3)) (hh : h' + 1 ≤ h) (hcs : cs + mc ≤ MC ∧ ss + ms ≤ MS) (hσ : σ.2 b = some (.inr (ci, fs))) (hn : As.length = n) (hst : st = As.reverse ++ .ref b :: rest) (hrm : (rest.map fun v => v.category).sum ≤ 8) (kk : ∀ (r : Option Value) (σ' : St), post r σ' → V κ k nL (cs + mc) (ss + ms) Q (pc + 3) lv (r.toList ++ rest) σ') : V κ k nL cs ss Q pc lv st σ := by
  have hf := S.2.2.2.2.2.1
  have hlo := S.2.2.2.2.2.2.1
  have k5 := K.2.2.2.2
  have cw := va_cwSU (R := κ.2.2.2.1) (ws := Cond.code M.1 M.2.1 M.2.2.1 M.2.2.2 :: gt) (rm := rmh h' mc ms) (mc := mc) (ms := ms) (bytes := M.2.1) (maxL := M.2.2.1) (ret := M.2.2.2) (own := own) (index := idx) (y := M.1) n S.1.2.2.2.2 (gt_goodIn fun w hw => by
    rcases List.mem_append.mp hw with e | e
    · exact KK.1 w e
    · rcases List.mem_cons.mp e with e | e
      · rw [e]; exact K.1
      · exact e) rfl rfl rfl ⟨KK.2.1, KK.2.2⟩ ⟨by show h' + 1 ≤ _; omega, by show 8 + (M.2.2.1 + 11) + 40 * h' ≤ _; omega⟩
  refine V.run (a := #[]) (fun H locs ls hR hS hl2 => ?_) kk
  have hMC : κ.2.2.2.1.cells = MC := S.2.2.2.2.2.2.2.1
  have hMS : κ.2.2.2.1.slots = MS := S.2.2.2.2.2.2.2.2
  exact va_runSU (S.2.1.1.1 ci _ hc).2 S.1 C cw ⟨Pcx_blind, S.recv hR hc hσ, S.pre hR hS⟩ rfl hn hl2.1 hst (lv_room hrm) d ⟨by omega, by omega⟩
theorem r_mmax (S : Ok κ k cc nL own ret nm h MC MS) {idx : Nat} {a b : Int} (KK : Cond.methodLink own idx Lib.Math.max.name ∈ gt) (KS : Cond.static Lib.Math.max.name ∈ gt ∧ Cond.initialized "java/lang/Math" ∈ gt ∧ Cond.code Lib.Math.max.name Lib.Math.max.code 2 (some .int) ∈ gt) (d : decode cc pc = .ok (.invokestatic idx, 3)) (hh : 1 ≤ h) (ha : zR a) (hb0 : zR b) (hcs : cs ≤ MC ∧ ss ≤ MS) (hrm : (st.map fun v => v.category).sum ≤ 8) (kk : V κ k nL cs ss Q (pc + 3) lv (.int (iZ (max a b)) :: st) σ) : V κ k nL cs ss Q pc lv (.int (iZ b) :: .int (iZ a) :: st) σ := by
  intro H locs ls hR hS hl
  obtain ⟨⟨hx, hb, hml, hown, hts⟩, -, -, -, -, hf, hlo, rfl, rfl⟩ := S
  refine va_mmax hx hb (hml.trans hl.1.symm) hown (hts _ KK) (hts _ KS.1) (hts _ KS.2.1) (hts _ KS.2.2) (by omega) (by omega) hcs.1 hcs.2 d ?_
  have e : (if iZ a < iZ b then iZ b else iZ a) = iZ (max a b) := by
    by_cases q : a < b
    · rw [if_pos ((iZ_lt ha hb0).mpr q), Int.max_eq_right (by omega)]
    · rw [if_neg (fun z => q ((iZ_lt ha hb0).mp z)), Int.max_eq_left (by omega)]
  rw [e]
  exact kk H locs ls hR hS hl
theorem r_mmin (S : Ok κ k cc nL own ret nm h MC MS) {idx : Nat} {a b : Int} (KK : Cond.methodLink own idx Lib.Math.min.name ∈ gt) (KS : Cond.static Lib.Math.min.name ∈ gt ∧ Cond.initialized "java/lang/Math" ∈ gt ∧ Cond.code Lib.Math.min.name Lib.Math.min.code 2 (some .int) ∈ gt) (d : decode cc pc = .ok (.invokestatic idx, 3)) (hh : 1 ≤ h) (ha : zR a) (hb0 : zR b) (hcs : cs ≤ MC ∧ ss ≤ MS) (hrm : (st.map fun v => v.category).sum ≤ 8) (kk : V κ k nL cs ss Q (pc + 3) lv (.int (iZ (min a b)) :: st) σ) : V κ k nL cs ss Q pc lv (.int (iZ b) :: .int (iZ a) :: st) σ := by
  intro H locs ls hR hS hl
  obtain ⟨⟨hx, hb, hml, hown, hts⟩, -, -, -, -, hf, hlo, rfl, rfl⟩ := S
  refine va_mmin hx hb (hml.trans hl.1.symm) hown (hts _ KK) (hts _ KS.1) (hts _ KS.2.1) (hts _ KS.2.2) (by omega) (by omega) hcs.1 hcs.2 d ?_
  have e : (if iZ b < iZ a then iZ b else iZ a) = iZ (min a b) := by
    by_cases q : b < a
    · rw [if_pos ((iZ_lt hb0 ha).mpr q), Int.min_eq_right (by omega)]
    · rw [if_neg (fun z => q ((iZ_lt hb0 ha).mp z)), Int.min_eq_left (by omega)]
  rw [e]
  exact kk H locs ls hR hS hl
theorem r_objInit (S : Ok κ k cc nL own ret nm h MC MS) {idx a : Nat} (KK : Cond.methodLink own idx Lib.objectInit ∈ gt) (KS : Cond.instanceMethod Lib.objectInit ∈ gt ∧ Cond.code Lib.objectInit ⟨#[0xb1]⟩ 1 none ∈ gt) (d : decode cc pc = .ok (.invokespecial idx, 3)) (hh : 1 ≤ h) (hrm : (st.map fun v => v.category).sum ≤ 8) (kk : V κ k nL cs ss Q (pc + 3) lv st σ) : V κ k nL cs ss Q pc lv (.ref a :: st) σ := by
  intro H locs ls hR hS hl
  obtain ⟨⟨hx, hb, hml, hown, hts⟩, -, -, -, -, hf, hlo, rfl, rfl⟩ := S
  exact W.objInit hx hb hown (hts _ KK) (hts _ KS.1) (hts _ KS.2) rfl (hl.1.trans hml.symm) rfl d (by omega) (by have h9 := lv_room (m := κ.2.2.2.2.2.1) (pc := pc) (ls := ls) (rest := .ref a :: st) hrm; omega) (kk H locs ls hR hS hl)
end VCALL
/-- a private method of a superclass, called on an object of class C, is the method itself; that its class is no interface another word shows -/
theorem sel_private {C C2 : String} {y x2 y2 : MethodName} {s : State} {args : Array Value} {n : Nat} (hy : y.cls ≠ "java/lang/invoke/MethodHandle" ∧ y.cls ≠ "java/lang/invoke/VarHandle")
    (hins : (Cond.instantiable C n).before args s = true) (hpriv : (Cond.privateMethod y).before args s = true) (hinst : (Cond.instanceMethod y).before args s = true) (h2 : (Cond.selects C2 x2 y2).before args s = true) (he : y2.cls = y.cls) :
    (Cond.selects C y y).before args s = true := by
  obtain ⟨c, kc, hc, hk, -, hniab, -, -⟩ := Cond.instantiable_spec hins
  obtain ⟨mk, methM, hnamed, hmethM, -, -⟩ := Cond.instanceMethod_spec hinst
  have hfound : s.methodFound? y.cls y.name y.desc = some mk := State.methodFound?_of_named hnamed hy
  have hsel : selectMethod {} s.vm c mk = .method mk := selectMethod_private hmethM (Cond.privateMethod_at hpriv mk methM hnamed hmethM)
  have hno : (s.vm.classes[mk.cls]?).any (fun x => !x.isInterface) = true := by
    have hc1 := findClass_of_methodNamed hnamed
    cases e3 : s.methodNamed? y2 with
    | none => simp [Cond.before, Cond.holds, Cond.value, e3] at h2
    | some m2 =>
      have hc2 := findClass_of_methodNamed e3
      rw [he] at hc2
      have e4 : mk.cls = m2.cls := Option.some.inj (hc1.symm.trans hc2)
      rw [e4]
      simp only [Cond.before, Cond.holds, Cond.value, e3] at h2
      split at h2
      · rename_i z1
        cases z1
        split at h2
        · simp only [beq_iff_eq, Option.some.injEq, Bool.and_eq_true] at h2
          exact h2.2
        · simp at h2
      · simp_all
  simp only [Cond.before, Cond.holds, Cond.value, hc, hfound, hnamed, hsel, hk]
  simp [hno]
