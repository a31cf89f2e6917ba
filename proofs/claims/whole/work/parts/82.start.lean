/-! the law from its entry on -/
theorem RowOk_0 : RowOk (fun _ => 0) := fun _ _ _ _ _ => Or.inl rfl
/-! THE CLAIM OUT OF ONE WALK OF THE LAW'S BODY. Your part is whole_start (and what it stands on); all else here is the same for every law, but numbers. -/
def R_law : String := "LiarsAnswersLaw"
def lw_P (b : Addr) (xs : List Int32) (args : Array Value) (s : State) : Prop := args = #[.ref b] ∧ s.IntsAt b xs ∧ xs.length ≤ 2048 ∧ (Jvm.Cond.and given_1 narrow_1).before args s = true
def lw_Q (_ : Array Value) (s : State) (o : Outcome) (t : State) : Prop := o = .returned (some (.int 1)) ∧ Framed s o t [] 600000 7302250
def lw_Z (below : List Frame) (a : Array Value) (s : State) : State → Prop := fun t => ∃ o, t.status = .running ∧ Ended t below o ∧ lw_Q a s o t
/-- the law's own end, with 1 on the stack, nothing written that was there before, its room as the claim has it -/
theorem lw_ret {p : Program} {l : Launch} {e : Env} {s : State} {m : MethodId} {below : List Frame} {meth : Method} {c : Code} {b : Nat} (hx : p.tables.exec = Jvm.exec) (hb : c.code = code) (hr : meth.sig.returnType = ret) (hlocks : meth.locks = false) {pc : Nat} {H : Heap} {ls : Array Slot} (hdg : decode code pc = .ok (.ireturn, 1)) : W p l e room_1 s m #[Value.ref b] below meth c H [] 600000 7302250 (lw_Z below #[Value.ref b] s) (F0 m pc ls [.int 1]) := by
  intro T hT X
  obtain ⟨fs, hret, hrun, hended, hW, hframe⟩ := X.leave (v := some (.int 1)) (hlocks := hlocks) (fun h => by rw [hr] at h; cases h)
  have hmeth' : T.vm.method? m = some meth := X.method'
  refine ⟨T.setFrames fs, ?_, .returned (some (.int 1)), hrun, hended, rfl, ⟨_, rfl⟩, hW, hframe⟩
  jvm_step X.here [X.here.top, hx, hb, hdg, hmeth', hr, ret, narrow_b1]
  (try refine ⟨rfl, ?_⟩); (try refine ⟨rfl, ?_⟩)
  first | (intro acts; rw [hret _ acts rfl rfl rfl]) | rw [hret _ _ rfl rfl rfl]
  exact Steps.refl _
/-- what holds at the law's entry: the machine, the code, the tables' words (any of lw_tbl by 'hts w (by decide +kernel)'), the script of L ints xs at the cell b, what the Statement gives of the start (any of its parts by flat_of_before) -/
def lw_At (p : Program) (s : State) (m : MethodId) (meth : Method) (c : Code) (b L : Nat) (xs : Nat → Int32) : Prop :=
  p.tables.exec = Jvm.exec ∧ c.code = code ∧ meth.sig.returnType = ret ∧ c.maxLocals = 4 ∧ s.vm.findClass R_law = some m.cls ∧ (∀ w ∈ lw_tbl, w.before #[Value.ref b] s = true) ∧ va_X b L xs s s.heap ∧ b < s.heap.size ∧ meth.locks = false ∧ (Jvm.Cond.and given_1 narrow_1).before #[Value.ref b] s = true
set_option maxRecDepth 100000 in
set_option maxHeartbeats 4000000 in
theorem l_startL {κ : Kx} {k : Cx} {σ : St} {Q : State → Prop} (hlen : cLen k ≤ 2048) (hxs : ∀ j, zR (cXs k j)) (hend : ∀ (σ2 : St) (cs ss : Nat), cs ≤ 600000 → ss ≤ 7302250 → V κ k 4 cs ss Q 698 [none, none, none, none] [] σ2) (z0 : σ.1 = cBase k) {nm : String} (S : Ok κ k cL_law 4 RL ret nm 12 600000 7302250) : V κ k 4 0 0 Q 0 [some (.ref (cScr k)), none, none, none] [] σ := by
  refine r_newO S 8 rfl n_RL_7 dL_law_0 (by omega) (by omega) ?_
  refine V.name (fun s1 e1 => ?_)
  have z1 : s1.1 = cBase k + 1 := by rw [e1]; show σ.1 + 1 = _; rw [z0]
  have f1 : s1.2 (cBase k) = some (.inr (10, [.null, .null, .null, .null, .null, .null, .null, .int 0])) := by rw [e1]; exact sNew_at z0
  rw [z0]
  clear e1
  refine r_dup S dL_law_3 rfl ?_
  refine r_callI S (c_init11 f1 z1) k_mX11_init c_RL_9 dL_law_4 (by decide) ⟨by omega, by omega⟩ rfl rfl (Nat.le_of_ble_eq_true rfl) (fun r s2 hp => ?_)
  obtain ⟨rfl, z2, hXc, ⟨lq, hLI, q0, q1, q2⟩, h2, h3, h4, h5, h6, h7, h8, h9, h10, h11, h12, h13⟩ := hp
  try simp only [Option.toList_some, Option.toList_none, List.cons_append, List.nil_append]
  refine r_astore_n S dL_law_7 rfl (by decide) (lv' := [_, _, _, _]) rfl ?_
  refine r_newO S 21 rfl n_RL_10 dL_law_8 (by omega) (by omega) ?_
  refine V.name (fun s3 e3 => ?_)
  have z3 : s3.1 = cBase k + 15 := by rw [e3]; show s2.1 + 1 = _; rw [z2]
  have f3 : s3.2 (cBase k + 14) = some (.inr (11, [.int 0, .int 0, .int 0, .int 0, .int 0, .int 0, .null, .null, .int 0, .int 0, .null, .long 0, .null, .int 0, .int 0, .null, .null, .null, .null, .null, .null])) := by rw [e3]; exact sNew_at z2
  rw [z2]
  refine r_dup S dL_law_11 rfl ?_
  refine r_callI S (c_init12 f3 (by omega)) k_mX12_init c_RL_12 dL_law_12 (by decide) ⟨by omega, by omega⟩ rfl rfl (Nat.le_of_ble_eq_true rfl) (fun r s4 hp => ?_)
  rw [z3] at hp
  obtain ⟨rfl, z4, f4_o, f4_ml, f4_mb, f4_mq, f4_mr, f4_ms, f4_mh, f4_md, f4_mc, f4_mm, f4_mt, g4⟩ := hp
  try simp only [Option.toList_some, Option.toList_none, List.cons_append, List.nil_append]
  refine r_astore_n S dL_law_15 rfl (by decide) (lv' := [_, _, _, _]) rfl ?_
  refine r_iconst S dL_law_16 ?_
  refine r_istore_n S dL_law_17 rfl (by decide) (lv' := [_, _, _, _]) rfl ?_
  have hI : Inv k s4 := by
    have fr4 : ∀ b, b < cBase k + 14 → s4.2 b = s2.2 b := fun b hb => (g4 b (by omega) (by omega)).trans (by rw [e3]; exact sNew_ne (by omega) rfl)
    have i0 : (0 : Int32) = iZ 0 := iZ_0.symm
    have l0 : (0 : Int64) = lZ 0 := by decide
    rw [i0, l0] at f4_o
    refine ⟨0, 0, 0, 0, 0, -1, 0, 0, fun _ => 0, 0, fun _ _ => 0, ⟨by decide, by decide, by decide, by decide, by decide, by decide, fun _ => (by decide : (0 : Nat) < 65536), Or.inl rfl, fun h => absurd h (by decide), fun _ _ i hi => absurd hi (Nat.not_lt_zero i), fun h => absurd h (by decide)⟩, ⟨by omega, ⟨(fr4 _ (by omega)).trans hXc, ⟨lq, (fr4 _ (by omega)).trans hLI, q0, q1, q2⟩, (fr4 _ (by omega)).trans h2, (fr4 _ (by omega)).trans h3, (fr4 _ (by omega)).trans h4, 0, (fr4 _ (by omega)).trans h6⟩, (fr4 _ (by omega)).trans h5, ⟨⟨0, 0, (fr4 _ (by omega)).trans h9, fun h => absurd h (by decide)⟩, fun _ => 0, (fr4 _ (by omega)).trans h10, fun _ => ⟨(by decide : (-1 : Int) ≤ 0), (by decide : (0 : Int) ≤ 3)⟩, fun _ _ i hi => absurd hi (Nat.not_lt_zero i)⟩, ⟨(fr4 _ (by omega)).trans h11, (fr4 _ (by omega)).trans h12, fun _ => 0, (fr4 _ (by omega)).trans h13, fun _ _ => rfl⟩, ⟨fun _ => none, fun _ => none, fun _ => 0, (fr4 _ (by omega)).trans h7, (fr4 _ (by omega)).trans h8, fun _ _ => Or.inl ⟨rfl, fun z => absurd z.1 (by decide)⟩, fun _ _ => Or.inl rfl⟩⟩, ⟨-1, 0, f4_o, by decide, by decide, ⟨_, f4_ml, fun _ => ⟨(by decide : (-1 : Int) ≤ 0), (by decide : (0 : Int) ≤ 3)⟩, fun i hi => absurd hi (Nat.not_lt_zero i)⟩, ⟨_, f4_mb, fun _ => ⟨(by decide : (-1 : Int) ≤ 0), (by decide : (0 : Int) ≤ 3)⟩, fun a ha => absurd ha (Nat.not_lt_zero a)⟩, f4_mq, ⟨_, f4_ms, fun _ => ⟨(by decide : (-1 : Int) ≤ 0), (by decide : (0 : Int) ≤ 13)⟩, fun kd n e1 => absurd e1 (by omega)⟩, ⟨_, f4_mr, ⟨_, f4_mh⟩, ⟨_, f4_md⟩, ⟨_, f4_mc⟩, fun _ => ⟨(by decide : (0 : Int) ≤ 0), (by decide : (0 : Int) ≤ 14)⟩, RowOk_0⟩, ⟨_, f4_mm⟩, _, f4_mt, fun _ => ⟨(by decide : (-1 : Int) ≤ 0), (by decide : (0 : Int) ≤ 3)⟩⟩⟩
  exact l_law (σ := s4) hlen hxs hend S 513 0 (by omega) 0 (by omega) _ _ _ hI (by omega) (by omega)

/-- the words at the entry -/
theorem law_gt {s : State} {b : Nat} (hts : ∀ w ∈ lw_tbl, w.before #[Value.ref b] s = true) : ∀ w ∈ gt, w.before #[Value.ref b] s = true := by
  have m : ∀ (i : Nat) (w : Cond), lw_tbl[i]? = some w → w.before #[Value.ref b] s = true := fun i w h => hts w (List.mem_of_getElem? h)
  have p1 := m 332 (Cond.privateMethod yX5_down) (by decide +kernel)
  have p2 := m 333 (Cond.instanceMethod yX5_down) (by decide +kernel)
  intro w hw
  rcases List.mem_append.mp hw with h | h
  · rcases List.mem_cons.mp h with h | h
    · rw [h]
      exact sel_private (y2 := yX5_isBeyond) (by decide) (m 228 (Cond.instantiable RX0 6) (by decide +kernel)) p1 p2 (m 344 (Cond.selects RX0 ⟨RX0, "isBeyond", "(I)Z"⟩ yX5_isBeyond) (by decide +kernel)) rfl
    · rcases List.mem_cons.mp h with h | h
      · rw [h]
        exact sel_private (y2 := yX5_isBeyond) (by decide) (m 264 (Cond.instantiable RX6 8) (by decide +kernel)) p1 p2 (m 352 (Cond.selects RX6 ⟨RX6, "isBeyond", "(I)Z"⟩ yX5_isBeyond) (by decide +kernel)) rfl
      · cases h
  · exact hts w (List.mem_filter.mp h).1
theorem arr_prim {s : State} {b : Nat} {ty : FieldType} (h : (Cond.arrayClass ty).before #[Value.ref b] s = true) : ∃ cA : ClassId, ArrOfT s cA ty ∧ s.vm.findClass ("[" ++ ty.toString) = some cA := by
  obtain ⟨c, kA, comp, h1, h2, h3⟩ := Cond.arrayClass_spec h
  exact ⟨c, fun n z => ⟨fun k h => (by cases h), kA, h2, comp, h3⟩, h1⟩
theorem arr_obj {s : State} {b : Nat} {C : String} (h : (Cond.arrayOver (.object C)).before #[Value.ref b] s = true) : ∃ cA : ClassId, ArrOfT s cA (.object C) ∧ va_RA s cA (.object C) := by
  obtain ⟨comp, c, kA, h1, -, h2, h3, h4⟩ := Cond.arrayOver_spec h
  exact ⟨c, fun n z => ⟨fun k h => (by cases h), kA, h2, comp, h3⟩, kA, comp, h2, h3, h1, h4⟩
theorem pl_elems : ∀ j, j < 68 → Cond.eq (.elem (.static "LiarsAnswers" "PLACES" "[I") (.int (Int32.ofNat j))) (.int (iZ (plF j))) ∈ flatC (Jvm.Cond.and given_1 narrow_1) := by decide +kernel
theorem nw_of {w : Cond} (h : isNw w = true) {A : Array Value} {U : State} (hb : w.before A U = true) : va_Nw w U := by
  unfold isNw at h
  split at h
  · exact va_Nw.of rfl hb
  · exact va_Nw.of rfl hb
  · exact va_Nw.of rfl hb
  · exact va_AO.of hb
  · cases h
theorem law_old {p : Program} {s : State} {m : MethodId} {meth : Method} {c : Code} {b L : Nat} {xs : Nat → Int32} (C0 : lw_At p s m meth c b L xs) : ∃ k : Cx, Old k s ∧ cBase k = s.heap.size ∧ cScr k = b ∧ cLen k = L ∧ ∀ j, zR (cXs k j) := by
  obtain ⟨hx, hb, hr, hml, hown, hts, hX, hbl, hlocks, hgv⟩ := id C0
  have hg := law_gt hts
  have m : ∀ (i : Nat) (w : Cond), lw_tbl[i]? = some w → w.before #[Value.ref b] s = true := fun i w h => hts w (List.mem_of_getElem? h)
  have hs := flat_of_before _ hgv
  have hA : ∀ a : Nat, a < s.heap.size → ¬ (fun q : Nat => s.heap.size ≤ q) a := fun a h => Nat.not_le.mpr h
  obtain ⟨tp, hev, hT⟩ := va_Tof (tm := .static "LiarsAnswers" "PLACES" "[I") (ty := .int) (N := 68) (f := fun j => .int (iZ (plF j))) (A := fun q : Nat => s.heap.size ≤ q) (by decide) (hs _ (by decide +kernel)) (va_eqt (hs _ (by decide +kernel))) (fun j hj => va_eqt (hs _ (pl_elems j hj))) hA
  have hZ := va_Zref (C := "LiarsAnswers") (n := "PLACES") (d := "[I") (A := fun q : Nat => s.heap.size ≤ q) (m 313 (Cond.laysStatic "LiarsAnswers" "PLACES" "[I") (by decide +kernel)) (m 30 (Cond.initialized "LiarsAnswers") (by decide +kernel)) hev hA
  obtain ⟨cI, aI, bI⟩ := arr_prim (m 134 (Cond.arrayClass .int) (by decide +kernel))
  obtain ⟨cB, aB, bB⟩ := arr_prim (m 713 (Cond.arrayClass .byte) (by decide +kernel))
  obtain ⟨cL, aL, bL⟩ := arr_obj (m 54 (Cond.arrayOver (.object "LiarsAnswers$Liar")) (by decide +kernel))
  obtain ⟨cH, aH, bH⟩ := arr_obj (m 90 (Cond.arrayOver (.object "LiarsAnswers$HeapTable")) (by decide +kernel))
  obtain ⟨cS, aS, bS⟩ := arr_obj (m 92 (Cond.arrayOver (.object "LiarsAnswers$SpanTable")) (by decide +kernel))
  obtain ⟨c0, i0, hK0⟩ := u_known (C := RX0) (T := TX0) (N := 6) (n := 6) hg uw_0 (m 228 (Cond.instantiable RX0 6) (by decide +kernel))
  obtain ⟨c1, i1, hK1⟩ := u_known (C := RX1) (T := TX1) (N := 0) (n := 0) hg uw_1 (m 62 (Cond.instantiable RX1 0) (by decide +kernel))
  obtain ⟨c2, i2, hK2⟩ := u_known (C := RX2) (T := TX2) (N := 3) (n := 3) hg uw_2 (m 136 (Cond.instantiable RX2 3) (by decide +kernel))
  obtain ⟨c3, i3, hK3⟩ := u_known (C := RX3) (T := TX3) (N := 9) (n := 9) hg uw_3 (m 94 (Cond.instantiable RX3 9) (by decide +kernel))
  obtain ⟨c4, i4, hK4⟩ := u_known (C := RX4) (T := TX4) (N := 4) (n := 4) hg uw_4 (m 282 (Cond.instantiable RX4 4) (by decide +kernel))
  obtain ⟨c5, i5, hK5⟩ := u_known (C := RX6) (T := TX6) (N := 8) (n := 8) hg uw_5 (m 264 (Cond.instantiable RX6 8) (by decide +kernel))
  obtain ⟨c6, i6, hK6⟩ := u_known (C := RX7) (T := TX7) (N := 0) (n := 0) hg uw_6 (m 55 (Cond.instantiable RX7 0) (by decide +kernel))
  obtain ⟨c7, i7, hK7⟩ := u_known (C := RX8) (T := TX8) (N := 4) (n := 4) hg uw_7 (m 469 (Cond.instantiable RX8 4) (by decide +kernel))
  obtain ⟨c8, i8, hK8⟩ := u_known (C := RX9) (T := TX9) (N := 1) (n := 1) hg uw_8 (m 76 (Cond.instantiable RX9 1) (by decide +kernel))
  obtain ⟨c9, i9, hK9⟩ := u_known (C := RX10) (T := TX10) (N := 0) (n := 0) hg uw_9 (m 69 (Cond.instantiable RX10 0) (by decide +kernel))
  obtain ⟨c10, i10, hK10⟩ := u_known (C := RX11) (T := TX11) (N := 8) (n := 8) hg uw_10 (m 46 (Cond.instantiable RX11 8) (by decide +kernel))
  obtain ⟨c11, i11, hK11⟩ := u_known (C := RX12) (T := TX12) (N := 21) (n := 21) hg uw_11 (m 643 (Cond.instantiable RX12 21) (by decide +kernel))
  obtain ⟨dC, dI, hKc⟩ : ∃ (dC : Nat → ClassId) (dI : Nat → Nat → Nat), ∀ (k : Nat) (q : vw_C), vwCl[k]? = some q → u_Kn s q.1 q.2.1 q.2.2 (dC k) (dI k) := by
    refine ⟨fun k => if k = 0 then c0 else if k = 1 then c1 else if k = 2 then c2 else if k = 3 then c3 else if k = 4 then c4 else if k = 5 then c5 else if k = 6 then c6 else if k = 7 then c7 else if k = 8 then c8 else if k = 9 then c9 else if k = 10 then c10 else c11, fun k => if k = 0 then i0 else if k = 1 then i1 else if k = 2 then i2 else if k = 3 then i3 else if k = 4 then i4 else if k = 5 then i5 else if k = 6 then i6 else if k = 7 then i7 else if k = 8 then i8 else if k = 9 then i9 else if k = 10 then i10 else i11, ?_⟩
    intro k q hq
    match k, hq with
    | 0, hq => cases hq; exact hK0
    | 1, hq => cases hq; exact hK1
    | 2, hq => cases hq; exact hK2
    | 3, hq => cases hq; exact hK3
    | 4, hq => cases hq; exact hK4
    | 5, hq => cases hq; exact hK5
    | 6, hq => cases hq; exact hK6
    | 7, hq => cases hq; exact hK7
    | 8, hq => cases hq; exact hK8
    | 9, hq => cases hq; exact hK9
    | 10, hq => cases hq; exact hK10
    | 11, hq => cases hq; exact hK11
    | k + 12, hq => simp [vwCl] at hq
  refine ⟨((dC, dI), s.heap.size, (b, L, fun j => (xs j).toInt), tp, (cI, cB, cL, cH, cS)), ⟨⟨hKc, ?_⟩, Nat.le_refl _, ?_, hbl, hZ, hT, fun w hw hn => nw_of hn (hts w hw)⟩, rfl, rfl, rfl, fun j => zR_of _⟩
  · intro k q hq
    match k, hq with
    | 0, hq => cases hq; exact ⟨aI, bI⟩
    | 1, hq => cases hq; exact ⟨aB, bB⟩
    | 2, hq => cases hq; exact ⟨aL, bL⟩
    | 3, hq => cases hq; exact ⟨aH, bH⟩
    | 4, hq => cases hq; exact ⟨aS, bS⟩
    | k + 5, hq => simp [cTys] at hq
  · obtain ⟨scr, x1, x2, x3, x4, x5⟩ := hX
    exact ⟨scr, x1, x2, x3, x4, fun j hj => by rw [x5 j hj]; congr 2; exact iZ_of (xs j)⟩
