/-! the calls that change the state -/
theorem IX.re {k : Cx} {σ σ' : St} {on kd n e an an' : Nat} {wt wt' tb tb' : Int} {q : Nat} {qs : Nat → Nat} {tr tr' : Int} {Ls Ls' : Nat → Nat → Int} (h : IX k σ on kd n e an wt tb q qs tr Ls) (hs : σ'.1 = σ.1) (hf : ∀ a, (a < cBase k + 14 ∨ cBase k + 25 ≤ a) → a ≠ cBase k → a ≠ cBase k + 5 → a ≠ cBase k + 6 → a ≠ cBase k + 9 → a ≠ cBase k + 10 → σ'.2 a = σ.2 a) (hC : Cor k σ' tb') (hT : σ'.2 (cBase k + 5) = some (oTally tr')) (hG : GmX k σ' on kd n e an' wt' Ls') : IX k σ' on kd n e an' wt' tb' q qs tr' Ls' := by
  obtain ⟨h1, h2, h3, h4, ⟨h8, h9, w, h10, h11⟩, h12⟩ := h
  exact ⟨by omega, hC, hT, hG, ⟨(hf _ (by omega) (by omega) (by omega) (by omega) (by omega) (by omega)).trans h8, (hf _ (by omega) (by omega) (by omega) (by omega) (by omega) (by omega)).trans h9, w, (hf _ (by omega) (by omega) (by omega) (by omega) (by omega) (by omega)).trans h10, h11⟩, h12.fr (by omega) (hf _ (by omega) (by omega) (by omega) (by omega) (by omega) (by omega)) (hf _ (by omega) (by omega) (by omega) (by omega) (by omega) (by omega)) (fun a ha _ => hf a (by omega) (by omega) (by omega) (by omega) (by omega) (by omega))⟩
theorem IX.gm {k : Cx} {σ σ' : St} {on kd n e an an' : Nat} {wt wt' tb : Int} {q : Nat} {qs : Nat → Nat} {tr : Int} {Ls Ls' : Nat → Nat → Int} (h : IX k σ on kd n e an wt tb q qs tr Ls) (hF : FrP k σ σ') (hG : GmX k σ' on kd n e an' wt' Ls') : IX k σ' on kd n e an' wt' tb q qs tr Ls' :=
  h.re hF.1 (fun a _ _ _ _ h1 h2 => hF.2 a h1 h2) (h.2.1.fr' (fun a ha => hF.2 a (by omega) (by omega)) (hF.2 _ (by omega) (by omega))) ((hF.2 _ (by omega) (by omega)).trans h.2.2.1) hG
theorem IX.code {k : Cx} {σ σ' : St} {on kd n e an : Nat} {wt tb : Int} {q q' : Nat} {qs qs' : Nat → Nat} {tr : Int} {Ls : Nat → Nat → Int} (h : IX k σ on kd n e an wt tb q qs tr Ls) (hs : σ'.1 = σ.1) (hf : ∀ a, a ≠ cBase k + 11 → a ≠ cBase k + 12 → a ≠ cBase k + 13 → σ'.2 a = σ.2 a) (hC : CdX k σ' q' qs') : IX k σ' on kd n e an wt tb q' qs' tr Ls := by
  obtain ⟨h1, h2, h3, ⟨⟨yp, np, h4, h5⟩, f, h6, h7⟩, h8, h12⟩ := h
  exact ⟨by omega, h2.fr' (fun a ha => hf a (by omega) (by omega) (by omega)) (hf _ (by omega) (by omega) (by omega)), (hf _ (by omega) (by omega) (by omega)).trans h3, ⟨⟨yp, np, (hf _ (by omega) (by omega) (by omega)).trans h4, h5⟩, f, (hf _ (by omega) (by omega) (by omega)).trans h6, h7⟩, hC, h12.fr (by omega) (hf _ (by omega) (by omega) (by omega)) (hf _ (by omega) (by omega) (by omega)) (fun a ha _ => hf a (by omega) (by omega) (by omega))⟩
theorem IM.up {k : Cx} {σ σ' : St} {kd n e an : Nat} {wt tb : Int} {q : Nat} {qs : Nat → Nat} {tr sk sm : Int} {Ls : Nat → Nat → Int} {C : Nat → Int} (m2 : -1 ≤ sk ∧ sk ≤ 3) (m3 : 0 ≤ sm ∧ sm ≤ 16) (m10 : σ.2 (cBase k + 17) = some (eI k 12 (fun j => (qs j : Int)))) (m11 : σ.2 (cBase k + 19) = some (eI k 4096 C)) (m12 : SpI sk sm C) (m13 : WS k σ) (hG : GmM k σ' kd n e an wt tb q tr sk sm Ls) (hF : FrQ k σ σ') : IM k σ' 1 kd n e an wt tb q qs tr Ls := by
  obtain ⟨h1, h2, h3, h4⟩ := hG
  obtain ⟨⟨R, r1⟩, ⟨mo, r2⟩, _⟩ := m13
  exact ⟨sk, sm, h1, m2, m3, h2, h3, (hF.2 _ (by omega) (by omega) (by omega) (by omega)).trans m10, ⟨C, (hF.2 _ (by omega) (by omega) (by omega) (by omega)).trans m11, m12⟩, ⟨R, r1.fr (fun a _ _ => hF.2 a (by omega) (by omega) (by omega) (by omega))⟩, ⟨mo, (hF.2 _ (by omega) (by omega) (by omega) (by omega)).trans r2⟩, h4⟩
theorem IX.frQ {k : Cx} {σ σ' : St} {on kd n e an : Nat} {wt tb : Int} {q : Nat} {qs : Nat → Nat} {tr : Int} {Ls : Nat → Nat → Int} (h : IX k σ on kd n e an wt tb q qs tr Ls) (hF : FrQ k σ σ') : IX k σ' on kd n e an wt tb q qs tr Ls := h.fr hF.1 (fun a ha => hF.2 a (by omega) (by omega) (by omega) (by omega))
theorem cnt_nv' (L : Nat → Int) (kd b y n : Nat) : cnt (fun j => decide (nv L kd b y j ≠ -1)) n = (hQ (nv L kd b y) 0 n).1 := cnt_congr (fun i _ => by
  have h : -1 ≤ nv L kd b y i := by unfold nv; omega
  rw [Nat.zero_add]
  exact decide_eq_decide.mpr (by omega))
theorem WF.ans {kd n e an : Nat} {wt : Int} {q : Nat} {qs : Nat → Nat} {Ls : Nat → Nat → Int} (hW : WF 1 kd n e an wt q qs Ls) {heap y : Nat} (hc : cnt (fun j => decide (nv (Ls an) kd heap y j ≠ -1)) n ≠ 0) (h6 : an < 60) : WF 1 kd n e (an + 1) (-1) q qs (rowU Ls (an + 1) (nv (Ls an) kd heap y)) := by
  obtain ⟨w1, w2, w3, w4, w5, w6, w7, w8, w9, w10, w11⟩ := hW
  refine ⟨w1, w2, w3, w4, by omega, w6, w7, Or.inl rfl, w9, fun a ha i hi => ?_, fun h a ha => ?_⟩
  · by_cases ea : a = an + 1
    · subst ea
      rw [rowU_eq]
      have h1 := w10 an (Nat.le_refl _) i hi
      have h2 := costK_rng kd y (bt heap i)
      unfold nv
      omega
    · rw [rowU_ne ea]
      exact w10 a (by omega) i hi
  · by_cases ea : a = an + 1
    · subst ea
      rw [rowU_eq, ← cnt_nv']
      omega
    · rw [rowU_ne ea]
      exact w11 h a (by omega)
theorem WF.play {kd n e q : Nat} {qs : Nat → Nat} {w : Nat} : ∀ (m d an : Nat) (Ls : Nat → Nat → Int), WF 1 kd n e an (-1) q qs Ls → WF 1 kd n e (plGo kd n qs w m d an Ls).2.1 (-1) q qs (plGo kd n qs w m d an Ls).2.2
  | 0, d, an, Ls, h => h
  | m + 1, d, an, Ls, h => by
    rw [plGo]
    split
    · exact h
    · rename_i hc
      exact WF.play m (d + 1) (an + 1) _ (h.ans (fun z => hc (Or.inl z)) (by omega))
theorem WF.wt {on kd n e an : Nat} {wt wt' : Int} {q : Nat} {qs : Nat → Nat} {Ls : Nat → Nat → Int} (hW : WF on kd n e an wt q qs Ls) (h : wt' = -1 ∨ ∃ b : Nat, wt' = (b : Int) ∧ b < 2 ^ n) : WF on kd n e an wt' q qs Ls := by
  obtain ⟨w1, w2, w3, w4, w5, w6, w7, w8, w9⟩ := hW
  exact ⟨w1, w2, w3, w4, w5, w6, w7, h, w9⟩
theorem TBs.at {k : Cx} {σ : St} {kd n e : Nat} (h : TBs k σ 1 kd n e) (hk : kd < 3) : ∃ (hq sq : Nat → Option Nat) (ow : Nat → Nat) (t : Nat) (F kn : Nat → Int), σ.2 (cBase k + 7) = some (eQ (cQH k) 3 hq) ∧ σ.2 (cBase k + 8) = some (eQ (cQS k) 3 sq) ∧ IH k σ hq ow 1 kd n e ∧ IS k σ sq ow ∧ hq kd = some (t + 8) ∧ cBase k + 25 ≤ t ∧ t + 10 ≤ σ.1 ∧ (∀ a, t ≤ a → a < t + 10 → ow a = kd) ∧ Tb k σ t (cyK kd) (cnK kd) F ∧ Tl k σ t (cyK kd) (cnK kd) ∧ σ.2 (t + 8) = some (oHT t) ∧ σ.2 (t + 9) = some (eI k 4 kn) ∧ KnOk (cyK kd) (cnK kd) F kn ∧ (n : Int) ≤ kn e := by
  obtain ⟨hq, sq, ow, h1, h2, h3, h4⟩ := h
  obtain ⟨t, a1, b1, b2, b3, F, kn, b4, b5, b6, b7, b8, b9⟩ := (h3 kd hk).resolve_left (fun z => z.2 ⟨rfl, rfl⟩)
  rw [if_pos ⟨rfl, rfl⟩] at b9
  exact ⟨hq, sq, ow, t, F, kn, h1, h2, h3, h4, a1, b1, b2, b3, b4, b5, b6, b7, b8, b9⟩
theorem BO_ex (g : Nat → Int) : ∀ N, ∃ b, BO g (N + 1) b
  | 0 => ⟨0, BO_1 g⟩
  | N + 1 => by
    obtain ⟨b, h⟩ := BO_ex g N
    rcases (show g (N + 1) < g b ∨ g b ≤ g (N + 1) by omega) with e | e
    · exact ⟨_, BO_lt h e⟩
    · exact ⟨_, BO_ge h e⟩
theorem smF_ge (g : Nat → Nat) {i : Nat} : ∀ {n : Nat}, i < n → g i * 2 ^ (2 * i) ≤ smF g n
  | n + 1, h => by
    rw [smF]
    rcases Nat.lt_or_ge i n with e | e
    · exact Nat.le_trans (smF_ge g e) (Nat.le_add_right _ _)
    · rw [show i = n by omega]; exact Nat.le_add_left _ _
theorem dgS_pos {l : Nat → Int} {n i : Nat} (hi : i < n) (h : 0 ≤ l i) : dgS l n ≠ 0 := by
  have h1 := smF_ge (fun i => (l i + 1).toNat) hi
  have h2 : 1 * 2 ^ (2 * i) ≤ (l i + 1).toNat * 2 ^ (2 * i) := Nat.mul_le_mul_right _ (by omega)
  have h3 := Nat.two_pow_pos (2 * i)
  have h4 : (l i + 1).toNat * 2 ^ (2 * i) ≤ dgS l n := h1
  omega
theorem stand_ex {l : Nat → Int} {n : Nat} (h : 1 ≤ (hQ l 0 n).1) : ∃ i, i < n ∧ 0 ≤ l i := by
  obtain ⟨i, a1, a2, _⟩ := cnt_kth (p := fun i => decide (0 ≤ l (0 + i))) (c := 0) (n := n) h
  refine ⟨i, a1, ?_⟩
  rw [Nat.zero_add] at a2
  exact of_decide_eq_true a2
theorem grt_congr {l l' : Nat → Int} {n kd : Nat} (hl : ∀ i, i < n → l i = l' i) : grt kd l n = grt kd l' n := by
  funext b
  unfold grt
  rw [gB_congr hl, gB_congr hl]
theorem c_costXA {k : Cx} {L0 : Launch} {σ : St} {tb tr : Int} (x2 : Cor k σ tb) (x3 : σ.2 (cBase k + 5) = some (oTally tr)) {c : Nat} (hc : c < 3) {y b : Nat} (hy : y < 2) (hb : b < 2) : CtrV k L0 mX11_cost 4 0 0 [.ref (cBase k), .int (iZ (c : Int)), .int (iZ (y : Int)), .int (iZ (b : Int))] σ (fun v σ' => v = .int (iZ (costK c y b)) ∧ σ' = sUp σ (cBase k + 5) (oTally (tr + trK c))) := by
  obtain ⟨y1, ⟨lq, y2, y3, y4, y5⟩, y6, y7, y8, y9⟩ := x2
  match c, hc with
  | 0, _ => exact c_costX_0 y1 y2 y3 y4 y5 y6 y7 y8 x3 hy hb
  | 1, _ => exact c_costX_1 y1 y2 y3 y4 y5 y6 y7 y8 x3 hy hb
  | 2, _ => exact c_costX_2 y1 y2 y3 y4 y5 y6 y7 y8 x3 hy hb
set_option maxRecDepth 100000 in
set_option maxHeartbeats 4000000 in
theorem c_ansX0 {k : Cx} {L0 : Launch} {σ : St} {tb : Int} (hX : σ.2 (cBase k) = some (oX k tb)) {kd n e an heap : Nat} {Ls : Nat → Nat → Int} (hY : GmY k σ kd n e an (heap : Int) Ls) (hkd : kd < 3) (han : an ≤ 60) (hn : n ≤ 16) (hh : heap < 65536) {y : Nat} (hy : y < 2) (hc : cnt (fun j => decide (nv (Ls an) kd heap y j ≠ -1)) n = 0 ∨ 60 ≤ an) : CtrV k L0 mX11_answer 5 0 0 [.ref (cBase k), .int (iZ (y : Int))] σ (fun v σ' => ∃ z : Int, (z = -2 ∨ z = -3) ∧ (cnt (fun j => decide (nv (Ls an) kd heap y j ≠ -1)) n = 0 → z = -2) ∧ (cnt (fun j => decide (nv (Ls an) kd heap y j ≠ -1)) n ≠ 0 → z = -3) ∧ v = .int (iZ z) ∧ GmY k σ' kd n e an (heap : Int) Ls ∧ FrP k σ σ') := by
  refine Ctr.of (by decide +kernel) rfl (Nat.le_of_ble_eq_true rfl) ?_
  intro κ hl0 S
  subst hl0
  have hG := hY.1
  refine r_aload_n S dX11_answer_0 rfl ?_
  refine r_getf S g_RX11_47_10 dX11_answer_1 (by repeat (first | assumption | exact sUp_same | exact sNew_same | refine sUp_ne (by first | assumption | omega) ?_)) rfl ?_
  refine r_getf S g_RX11_105_3 dX11_answer_4 (by repeat (first | assumption | exact sUp_same | exact sNew_same | refine sUp_ne (by first | assumption | omega) ?_)) rfl ?_
  refine r_if_eq S dX11_answer_7 (tgt := 21) (by decide) ⟨by omega, by omega⟩ (fun h_7 => ?_) (fun h_7 => ?_)
  · omega
  · refine r_aload_n S dX11_answer_10 rfl ?_
    refine r_getf S g_RX11_47_10 dX11_answer_11 (by repeat (first | assumption | exact sUp_same | exact sNew_same | refine sUp_ne (by first | assumption | omega) ?_)) rfl ?_
    refine r_getf S g_RX11_119_3 dX11_answer_14 (by repeat (first | assumption | exact sUp_same | exact sNew_same | refine sUp_ne (by first | assumption | omega) ?_)) rfl ?_
    refine r_iconst S dX11_answer_17 ?_
    refine r_icmp_ne S dX11_answer_18 (tgt := 24) (by decide) ⟨by omega, by omega⟩ ⟨by omega, by omega⟩ (fun h_18 => ?_) (fun h_18 => ?_)
    · refine r_aload_n S dX11_answer_24 rfl ?_
      refine r_getf S g_RX11_47_10 dX11_answer_25 (by repeat (first | assumption | exact sUp_same | exact sNew_same | refine sUp_ne (by first | assumption | omega) ?_)) rfl ?_
      refine r_aload_n S dX11_answer_28 rfl ?_
      refine r_getf S g_RX11_47_10 dX11_answer_29 (by repeat (first | assumption | exact sUp_same | exact sNew_same | refine sUp_ne (by first | assumption | omega) ?_)) rfl ?_
      refine r_getf S g_RX11_119_3 dX11_answer_32 (by repeat (first | assumption | exact sUp_same | exact sNew_same | refine sUp_ne (by first | assumption | omega) ?_)) rfl ?_
      refine r_iload_n S dX11_answer_35 rfl ?_
      refine r_callV S (c_reply0 hY hkd han hn hh hy hc) k_mX3_reply c_RX11_122_3 dX11_answer_36 (by decide) ⟨by omega, by omega⟩ (by repeat (first | assumption | exact sUp_same | exact sNew_same | refine sUp_ne (by first | assumption | omega) ?_)) rfl rfl (Nat.le_of_ble_eq_true rfl) (fun r σ' hp => ?_)
      obtain ⟨_, rfl, z9, hz9, hz8, hz7, rfl, hY9, hF9⟩ := hp
      try simp only [Option.toList_some, Option.toList_none, List.cons_append, List.nil_append]
      exact r_iret S dX11_answer_39 (by omega) (by omega) (⟨_, rfl, z9, hz9, hz8, hz7, rfl, hY9, hF9⟩)
    · omega

set_option maxRecDepth 100000 in
set_option maxHeartbeats 4000000 in
theorem c_ansX1 {k : Cx} {L0 : Launch} {σ : St} {tb : Int} (hX : σ.2 (cBase k) = some (oX k tb)) {kd n e an heap : Nat} {Ls : Nat → Nat → Int} (hY : GmY k σ kd n e an (heap : Int) Ls) (hkd : kd < 3) (han : an ≤ 60) (hn : n ≤ 16) (hh : heap < 65536) {y : Nat} (hy : y < 2) (hc : cnt (fun j => decide (nv (Ls an) kd heap y j ≠ -1)) n ≠ 0) (ha6 : an < 60) : CtrV k L0 mX11_answer 5 0 0 [.ref (cBase k), .int (iZ (y : Int))] σ (fun v σ' => v = .int (iZ (cnt (fun j => decide (nv (Ls an) kd heap y j ≠ -1)) n : Int)) ∧ GmY k σ' kd n e (an + 1) (-1) (rowU Ls (an + 1) (nv (Ls an) kd heap y)) ∧ FrP k σ σ') := by
  refine Ctr.of (by decide +kernel) rfl (Nat.le_of_ble_eq_true rfl) ?_
  intro κ hl0 S
  subst hl0
  have hG := hY.1
  refine r_aload_n S dX11_answer_0 rfl ?_
  refine r_getf S g_RX11_47_10 dX11_answer_1 (by repeat (first | assumption | exact sUp_same | exact sNew_same | refine sUp_ne (by first | assumption | omega) ?_)) rfl ?_
  refine r_getf S g_RX11_105_3 dX11_answer_4 (by repeat (first | assumption | exact sUp_same | exact sNew_same | refine sUp_ne (by first | assumption | omega) ?_)) rfl ?_
  refine r_if_eq S dX11_answer_7 (tgt := 21) (by decide) ⟨by omega, by omega⟩ (fun h_7 => ?_) (fun h_7 => ?_)
  · omega
  · refine r_aload_n S dX11_answer_10 rfl ?_
    refine r_getf S g_RX11_47_10 dX11_answer_11 (by repeat (first | assumption | exact sUp_same | exact sNew_same | refine sUp_ne (by first | assumption | omega) ?_)) rfl ?_
    refine r_getf S g_RX11_119_3 dX11_answer_14 (by repeat (first | assumption | exact sUp_same | exact sNew_same | refine sUp_ne (by first | assumption | omega) ?_)) rfl ?_
    refine r_iconst S dX11_answer_17 ?_
    refine r_icmp_ne S dX11_answer_18 (tgt := 24) (by decide) ⟨by omega, by omega⟩ ⟨by omega, by omega⟩ (fun h_18 => ?_) (fun h_18 => ?_)
    · refine r_aload_n S dX11_answer_24 rfl ?_
      refine r_getf S g_RX11_47_10 dX11_answer_25 (by repeat (first | assumption | exact sUp_same | exact sNew_same | refine sUp_ne (by first | assumption | omega) ?_)) rfl ?_
      refine r_aload_n S dX11_answer_28 rfl ?_
      refine r_getf S g_RX11_47_10 dX11_answer_29 (by repeat (first | assumption | exact sUp_same | exact sNew_same | refine sUp_ne (by first | assumption | omega) ?_)) rfl ?_
      refine r_getf S g_RX11_119_3 dX11_answer_32 (by repeat (first | assumption | exact sUp_same | exact sNew_same | refine sUp_ne (by first | assumption | omega) ?_)) rfl ?_
      refine r_iload_n S dX11_answer_35 rfl ?_
      refine r_callV S (c_reply1 hY hkd han hn hh hy hc ha6) k_mX3_reply c_RX11_122_3 dX11_answer_36 (by decide) ⟨by omega, by omega⟩ (by repeat (first | assumption | exact sUp_same | exact sNew_same | refine sUp_ne (by first | assumption | omega) ?_)) rfl rfl (Nat.le_of_ble_eq_true rfl) (fun r σ' hp => ?_)
      obtain ⟨_, rfl, rfl, hY9, hF9⟩ := hp
      try simp only [Option.toList_some, Option.toList_none, List.cons_append, List.nil_append]
      exact r_iret S dX11_answer_39 (by omega) (by omega) (⟨_, rfl, rfl, hY9, hF9⟩)
    · omega

set_option maxRecDepth 100000 in
set_option maxHeartbeats 4000000 in
theorem bb_cost {k : Cx} {L0 : Launch} {σ : St} (hI : Inv k σ) {a : Int} (ha : zR a) {y b : Nat} (hy : y < 2) (hb : b < 2) : BB k L0 vI mX11_cost 4 0 0 mX12_cost 2 [.int (iZ a), .int (iZ (y : Int)), .int (iZ (b : Int))] σ := by
  obtain ⟨on, kd, n, e, an, wt, tb, q, qs, tr, Ls, hW, hX, hM⟩ := id hI
  obtain ⟨w1, w2, w3, w4, w5, w6, w7, w8, w9, w10, w11⟩ := id hW
  obtain ⟨x1, x2, x3, x4, x5, x6⟩ := id hX
  obtain ⟨⟨yp, np, g1, g2⟩, f, g3, g4, g5⟩ := id x4
  obtain ⟨c1, c2, ww, c3, c4⟩ := id x5
  obtain ⟨sk, sm, m1, m2, m3, ⟨l, m4, m5, m6⟩, ⟨bf, m7, m8, m9⟩, m10, ⟨C, m11, m12⟩, m13⟩ := id hM
  have hfl : ∀ i, i < n → f (an * 16 + i) = l i := fun i hi => (g5 an (Nat.le_refl _) i hi).trans (m6 i hi).symm
  by_cases h : 0 ≤ a ∧ a < 3
  · obtain ⟨c, rfl⟩ : ∃ c : Nat, a = (c : Int) := ⟨a.toNat, by omega⟩
    have hc : c < 3 := by omega
    have key := c_costXA (L0 := L0) x2 x3 hc hy hb
    refine BB.mk hI (v := .int (iZ (costK c y b))) (P := fun σ1 => IX k σ1 on kd n e an wt tb q qs (tr + trK c) Ls ∧ ∀ a, cBase k + 14 ≤ a → a < cBase k + 25 → σ1.2 a = σ.2 a) (key.mono (fun v σ1 hp => ⟨hp.1, ?_⟩)) (fun σ1 hp => ?_)
    · rw [hp.2]
      exact ⟨hX.re rfl (fun a _ _ h5 _ _ _ => if_neg h5) (x2.fr' (fun a ha => if_neg (by omega)) (if_neg (by omega))) sUp_same ⟨⟨yp, np, sUp_ne (by omega) g1, g2⟩, f, sUp_ne (by omega) g3, g4, g5⟩, fun a h1 h2 => if_neg (by omega)⟩
    · have hM1 := hM.fr hp.2
      obtain ⟨sk, sm, m1, m2, m3, ⟨l, m4, m5, m6⟩, ⟨bf, m7, m8, m9⟩, m10, ⟨C, m11, m12⟩, m13⟩ := id hM1
      refine (c_costM m1 hc hy hb).mono (fun v σ2 hq => ⟨hq.1, ?_⟩)
      rw [hq.2]
      exact ⟨on, kd, n, e, an, wt, tb, q, qs, tr + trK c, Ls, hW, hp.1.fr rfl (fun a ha => if_neg (by omega)), ⟨sk, sm, sUp_same, m2, m3, ⟨l, sUp_ne (by omega) m4, m5, m6⟩, ⟨bf, sUp_ne (by omega) m7, m8, m9⟩, sUp_ne (by omega) m10, ⟨C, sUp_ne (by omega) m11, m12⟩, m13.fr (fun a _ _ => if_neg (by omega))⟩⟩
  · exact BB.pure hI (c_costX0 ha h) (c_costM0 ha h) rfl

set_option maxRecDepth 100000 in
set_option maxHeartbeats 4000000 in
theorem bb_ask {k : Cx} {L0 : Launch} {σ : St} (hI : Inv k σ) {z : Int} (hz : zR z) : BB k L0 vI mX11_ask 4 0 0 mX12_ask 2 [.int (iZ z)] σ := by
  obtain ⟨on, kd, n, e, an, wt, tb, q, qs, tr, Ls, hW, hX, hM⟩ := id hI
  obtain ⟨w1, w2, w3, w4, w5, w6, w7, w8, w9, w10, w11⟩ := id hW
  obtain ⟨x1, x2, x3, x4, x5, x6⟩ := id hX
  obtain ⟨⟨yp, np, g1, g2⟩, f, g3, g4, g5⟩ := id x4
  obtain ⟨c1, c2, ww, c3, c4⟩ := id x5
  obtain ⟨sk, sm, m1, m2, m3, ⟨l, m4, m5, m6⟩, ⟨bf, m7, m8, m9⟩, m10, ⟨C, m11, m12⟩, m13⟩ := id hM
  have hfl : ∀ i, i < n → f (an * 16 + i) = l i := fun i hi => (g5 an (Nat.le_refl _) i hi).trans (m6 i hi).symm
  have hpn : 2 ^ n ≤ 2 ^ 16 := Nat.pow_le_pow_right (by decide) w3
  rcases (show on = 0 ∨ on = 1 by omega) with e0 | e0
  · subst e0
    by_cases h : 0 ≤ z ∧ z ≤ 65535
    · exact BB.pure hI (c_askX1 x2.1 g1 hz h) (c_askM0 m1 hz) (by rw [if_pos h])
    · exact BB.pure hI (c_askX0 x2.1 g1 (by decide) hz h) (c_askM0 m1 hz) (by rw [if_neg h])
  · subst e0
    by_cases h : 0 ≤ z ∧ z ≤ 65535
    · obtain ⟨heap, rfl⟩ : ∃ heap : Nat, z = (heap : Int) := ⟨z.toNat, by omega⟩
      by_cases h2 : heap < 2 ^ n
      · refine BB.mk hI (v := .int (iZ (cnt (fun j => decide (bt heap j = 1 ∧ l j ≠ -1)) n : Int))) (P := fun σ1 => IX k σ1 1 kd n e an (heap : Int) tb q qs tr Ls ∧ ∀ a, cBase k + 14 ≤ a → a < cBase k + 25 → σ1.2 a = σ.2 a) ((c_askX x2.1 g1 g3 g4 w5 w3 (by omega) h2).mono (fun v σ1 hp => ⟨?_, ?_⟩)) (fun σ1 hp => ?_)
        · rw [hp.1]
          have hc9 : cnt (fun j => decide (bt heap j = 1 ∧ f (an * 16 + j) ≠ -1)) n = cnt (fun j => decide (bt heap j = 1 ∧ l j ≠ -1)) n := cnt_congr (fun i hi => by rw [hfl i hi])
          rw [hc9]
        · rw [hp.2]
          exact ⟨hX.gm ⟨rfl, fun a h1 _ => if_neg h1⟩ ⟨⟨yp, np, sUp_same, g2⟩, f, sUp_ne (by omega) g3, g4, g5⟩, fun a h1 h2 => if_neg (by omega)⟩
        · have hM1 := hM.fr hp.2
          have hl0 : ∀ i, i < n → l i = Ls an i := m6
          obtain ⟨sk, sm, m1, m2, m3, ⟨l2, m4, m5, m6⟩, ⟨bf, m7, m8, m9⟩, m10, ⟨C, m11, m12⟩, m13⟩ := id hM1
          refine (c_askM m1 m4 m5 w3 h2).mono (fun v σ2 hq => ⟨?_, ?_⟩)
          · rw [hq.1]
            have hc9 : cnt (fun j => decide (bt heap j = 1 ∧ l2 j ≠ -1)) n = cnt (fun j => decide (bt heap j = 1 ∧ l j ≠ -1)) n := cnt_congr (fun i hi => by rw [m6 i hi, hl0 i hi])
            rw [hc9]
          · rw [hq.2]
            exact ⟨1, kd, n, e, an, (heap : Int), tb, q, qs, tr, Ls, hW.wt (Or.inr ⟨heap, rfl, h2⟩), hp.1.fr rfl (fun a ha => if_neg (by omega)), ⟨sk, sm, sUp_same, m2, m3, ⟨l2, sUp_ne (by omega) m4, m5, m6⟩, ⟨bf, sUp_ne (by omega) m7, m8, m9⟩, sUp_ne (by omega) m10, ⟨C, sUp_ne (by omega) m11, m12⟩, m13.fr (fun a _ _ => if_neg (by omega))⟩⟩
      · exact BB.pure hI (c_askX2 x2.1 g1 w3 (by omega) (by omega)) (c_askMx m1 w3 hz (by omega)) rfl
    · exact BB.pure hI (c_askX0 x2.1 g1 (by decide) hz h) (c_askMx m1 w3 hz (by omega)) rfl

set_option maxRecDepth 100000 in
set_option maxHeartbeats 4000000 in
theorem bb_answer {k : Cx} {L0 : Launch} {σ : St} (hI : Inv k σ) {y : Nat} (hy : y < 2) : BB k L0 vI mX11_answer 5 0 0 mX12_answer 3 [.int (iZ (y : Int))] σ := by
  obtain ⟨on, kd, n, e, an, wt, tb, q, qs, tr, Ls, hW, hX, hM⟩ := id hI
  obtain ⟨w1, w2, w3, w4, w5, w6, w7, w8, w9, w10, w11⟩ := id hW
  obtain ⟨x1, x2, x3, x4, x5, x6⟩ := id hX
  obtain ⟨⟨yp, np, g1, g2⟩, f, g3, g4, g5⟩ := id x4
  obtain ⟨c1, c2, ww, c3, c4⟩ := id x5
  obtain ⟨sk, sm, m1, m2, m3, ⟨l, m4, m5, m6⟩, ⟨bf, m7, m8, m9⟩, m10, ⟨C, m11, m12⟩, m13⟩ := id hM
  have hfl : ∀ i, i < n → f (an * 16 + i) = l i := fun i hi => (g5 an (Nat.le_refl _) i hi).trans (m6 i hi).symm
  have hpn : 2 ^ n ≤ 2 ^ 16 := Nat.pow_le_pow_right (by decide) w3
  have hwr := wt_R w3 w8
  by_cases h : on = 0 ∨ wt = -1
  · exact BB.pure hI (c_answerX0 x2.1 g1 w1 hwr h) (c_answerM0 m1 w1 hwr (by omega)) rfl
  · have e0 : on = 1 := by omega
    subst e0
    obtain ⟨heap, rfl, hb⟩ := w8.resolve_left (fun z => h (Or.inr z))
    by_cases hc : cnt (fun j => decide (nv (Ls an) kd heap y j ≠ -1)) n = 0 ∨ 60 ≤ an
    · obtain ⟨z, hz⟩ : ∃ z : Int, (cnt (fun j => decide (nv (Ls an) kd heap y j ≠ -1)) n = 0 → z = -2) ∧ (cnt (fun j => decide (nv (Ls an) kd heap y j ≠ -1)) n ≠ 0 → z = -3) := by
        by_cases h0 : cnt (fun j => decide (nv (Ls an) kd heap y j ≠ -1)) n = 0
        · exact ⟨-2, fun _ => rfl, fun z => absurd h0 z⟩
        · exact ⟨-3, fun z => absurd z h0, fun _ => rfl⟩
      have hzz : ∀ z' : Int, (cnt (fun j => decide (nv (Ls an) kd heap y j ≠ -1)) n = 0 → z' = -2) → (cnt (fun j => decide (nv (Ls an) kd heap y j ≠ -1)) n ≠ 0 → z' = -3) → z' = z := by
        intro z' a1 a2
        by_cases h0 : cnt (fun j => decide (nv (Ls an) kd heap y j ≠ -1)) n = 0
        · rw [a1 h0, hz.1 h0]
        · rw [a2 h0, hz.2 h0]
      refine BB.mk hI (v := .int (iZ z)) (P := fun σ1 => IX k σ1 1 kd n e an (heap : Int) tb q qs tr Ls ∧ ∀ a, cBase k + 14 ≤ a → a < cBase k + 25 → σ1.2 a = σ.2 a) ((c_ansX0 x2.1 x4.y w2 w5 w3 (by omega) hy hc).mono (fun v σ1 hp => ?_)) (fun σ1 hp => ?_)
      · obtain ⟨z', _, a1, a2, a3, a4, a5⟩ := hp
        exact ⟨by rw [a3, hzz z' a1 a2], hX.gm a5 a4.x, fun a h1 h2 => a5.2 a (by omega) (by omega)⟩
      · have hM1 := hM.fr hp.2
        obtain ⟨sk, sm, m1, m2, m3, hl1, hb1, m10, ⟨C, m11, m12⟩, m13⟩ := id hM1
        refine (c_ans0 ⟨m1, hl1, hb1, m13.2.2⟩ w2 w5 w3 (by omega) hy hc).mono (fun v σ2 hq => ?_)
        obtain ⟨z', _, a1, a2, a3, a4, a5⟩ := hq
        exact ⟨by rw [a3, hzz z' a1 a2], 1, kd, n, e, an, (heap : Int), tb, q, qs, tr, Ls, hW, hp.1.frQ a5, IM.up m2 m3 m10 m11 m12 m13 a4 a5⟩
    · refine BB.mk hI (v := .int (iZ (cnt (fun j => decide (nv (Ls an) kd heap y j ≠ -1)) n : Int))) (P := fun σ1 => IX k σ1 1 kd n e (an + 1) (-1) tb q qs tr (rowU Ls (an + 1) (nv (Ls an) kd heap y)) ∧ ∀ a, cBase k + 14 ≤ a → a < cBase k + 25 → σ1.2 a = σ.2 a) ((c_ansX1 x2.1 x4.y w2 w5 w3 (by omega) hy (fun z => hc (Or.inl z)) (by omega)).mono (fun v σ1 hp => ?_)) (fun σ1 hp => ?_)
      · exact ⟨hp.1, hX.gm hp.2.2 hp.2.1.x, fun a h1 h2 => hp.2.2.2 a (by omega) (by omega)⟩
      · have hM1 := hM.fr hp.2
        obtain ⟨sk, sm, m1, m2, m3, hl1, hb1, m10, ⟨C, m11, m12⟩, m13⟩ := id hM1
        refine (c_ans1 ⟨m1, hl1, hb1, m13.2.2⟩ w2 w5 w3 (by omega) hy (fun z => hc (Or.inl z)) (by omega)).mono (fun v σ2 hq => ?_)
        exact ⟨hq.1, 1, kd, n, e, an + 1, -1, tb, q, qs, tr, _, hW.ans (fun z => hc (Or.inl z)) (by omega), hp.1.frQ hq.2.2, IM.up m2 m3 m10 m11 m12 m13 hq.2.1 hq.2.2⟩

set_option maxRecDepth 100000 in
set_option maxHeartbeats 4000000 in
theorem bb_back {k : Cx} {L0 : Launch} {σ : St} (hI : Inv k σ) : BB k L0 vI mX11_back 2 0 0 mX12_back 1 [] σ := by
  obtain ⟨on, kd, n, e, an, wt, tb, q, qs, tr, Ls, hW, hX, hM⟩ := id hI
  obtain ⟨w1, w2, w3, w4, w5, w6, w7, w8, w9, w10, w11⟩ := id hW
  obtain ⟨x1, x2, x3, x4, x5, x6⟩ := id hX
  obtain ⟨⟨yp, np, g1, g2⟩, f, g3, g4, g5⟩ := id x4
  obtain ⟨c1, c2, ww, c3, c4⟩ := id x5
  obtain ⟨sk, sm, m1, m2, m3, ⟨l, m4, m5, m6⟩, ⟨bf, m7, m8, m9⟩, m10, ⟨C, m11, m12⟩, m13⟩ := id hM
  have hfl : ∀ i, i < n → f (an * 16 + i) = l i := fun i hi => (g5 an (Nat.le_refl _) i hi).trans (m6 i hi).symm
  by_cases h : on = 0 ∨ an = 0
  · exact BB.pure hI (c_backX0 x2.1 g1 w1 w5 h) (c_backM0 m1 w1 w5 h) rfl
  · have e0 : on = 1 := by omega
    subst e0
    obtain ⟨a, rfl⟩ : ∃ a : Nat, an = a + 1 := ⟨an - 1, by omega⟩
    refine BB.mk hI (v := .int (iZ (a : Int))) (P := fun σ1 => IX k σ1 1 kd n e a (-1) (tb + 1) q qs tr Ls ∧ ∀ a, cBase k + 14 ≤ a → a < cBase k + 25 → σ1.2 a = σ.2 a) ((c_backX x2.1 g1 (by omega)).mono (fun v σ1 hp => ⟨hp.1, ?_⟩)) (fun σ1 hp => ?_)
    · rw [hp.2]
      obtain ⟨y1, ⟨lq, y2, y3, y4, y5⟩, y6, y7, y8, z0, y9⟩ := x2
      exact ⟨hX.re rfl (fun a _ h0 _ _ h9 _ => (if_neg h0).trans (if_neg h9)) ⟨sUp_same, ⟨lq, sUp_ne (by omega) (sUp_ne (by omega) y2), y3, y4, y5⟩, sUp_ne (by omega) (sUp_ne (by omega) y6), sUp_ne (by omega) (sUp_ne (by omega) y7), sUp_ne (by omega) (sUp_ne (by omega) y8), z0, sUp_ne (by omega) (sUp_ne (by omega) y9)⟩ (sUp_ne (by omega) (sUp_ne (by omega) x3)) ⟨⟨yp, np, sUp_ne (by omega) sUp_same, g2⟩, f, sUp_ne (by omega) (sUp_ne (by omega) g3), g4, fun b hb => g5 b (by omega)⟩, fun a h1 h2 => (if_neg (by omega)).trans (if_neg (by omega))⟩
    · have hM1 := hM.fr hp.2
      obtain ⟨sk, sm, m1, m2, m3, ⟨l, m4, m5, m6⟩, ⟨bf, m7, m8, m9⟩, m10, ⟨C, m11, m12⟩, m13⟩ := id hM1
      refine (c_backM m1 m4 m5 w3 (by omega) m7).mono (fun v σ2 hq => ⟨hq.1, ?_⟩)
      rw [hq.2]
      obtain ⟨w1, w2, w3, w4, w5, w6, w7, w8, w9, w10, w11⟩ := hW
      refine ⟨1, kd, n, e, a, -1, tb + 1, q, qs, tr, Ls, ⟨w1, w2, w3, w4, by omega, w6, w7, Or.inl rfl, w9, fun b hb => w10 b (by omega), fun h b hb => w11 h b (by omega)⟩, hp.1.fr rfl (fun a ha => (if_neg (by omega)).trans (if_neg (by omega))), ⟨sk, sm, sUp_same, m2, m3, ⟨_, sUp_ne (by omega) sUp_same, tkF_rng (fun j => m8 _) m5 n, fun i hi => by rw [tkF_in hi]; exact m9 a (by omega) i hi⟩, ⟨bf, sUp_ne (by omega) (sUp_ne (by omega) m7), m8, fun b hb => m9 b (by omega)⟩, sUp_ne (by omega) (sUp_ne (by omega) m10), ⟨C, sUp_ne (by omega) (sUp_ne (by omega) m11), m12⟩, m13.fr (fun a _ _ => (if_neg (by omega)).trans (if_neg (by omega)))⟩⟩

set_option maxRecDepth 100000 in
set_option maxHeartbeats 4000000 in
theorem bb_set {k : Cx} {L0 : Launch} {σ : St} (hI : Inv k σ) {z : Int} (hz : zR z) : BB k L0 vI mX11_set 2 0 0 mX12_set 2 [.int (iZ z)] σ := by
  obtain ⟨on, kd, n, e, an, wt, tb, q, qs, tr, Ls, hW, hX, hM⟩ := id hI
  obtain ⟨w1, w2, w3, w4, w5, w6, w7, w8, w9, w10, w11⟩ := id hW
  obtain ⟨x1, x2, x3, x4, x5, x6⟩ := id hX
  obtain ⟨⟨yp, np, g1, g2⟩, f, g3, g4, g5⟩ := id x4
  obtain ⟨c1, c2, ww, c3, c4⟩ := id x5
  obtain ⟨sk, sm, m1, m2, m3, ⟨l, m4, m5, m6⟩, ⟨bf, m7, m8, m9⟩, m10, ⟨C, m11, m12⟩, m13⟩ := id hM
  have hfl : ∀ i, i < n → f (an * 16 + i) = l i := fun i hi => (g5 an (Nat.le_refl _) i hi).trans (m6 i hi).symm
  by_cases h : 0 ≤ z ∧ z ≤ 65535
  · by_cases h12 : q = 12
    · exact BB.pure hI (c_setXf x2.1 c1 w6 hz h h12) (c_setMf m1 hz h h12) rfl
    · obtain ⟨heap, rfl⟩ : ∃ heap : Nat, z = (heap : Int) := ⟨z.toNat, by omega⟩
      have hq : ∀ j, j < q → uN qs q heap j = qs j := fun j hj => if_neg (by omega)
      refine BB.mk hI (v := .int (iZ ((q : Int) + 1))) (P := fun σ1 => IX k σ1 on kd n e an wt tb (q + 1) (uN qs q heap) tr Ls ∧ ∀ a, cBase k + 14 ≤ a → a < cBase k + 25 → σ1.2 a = σ.2 a) ((c_setX x2.1 c1 w6 c3 c4 c2 (by omega) (by omega)).mono (fun v σ1 hp => ⟨hp.1, ?_⟩)) (fun σ1 hp => ?_)
      · rw [hp.2]
        refine ⟨hX.code rfl (fun a h1 h2 h3 => (if_neg h1).trans ((if_neg h3).trans (if_neg h2))) ⟨sUp_same, sUp_ne (by omega) (sUp_ne (by omega) sUp_same), _, sUp_ne (by omega) sUp_same, fun i hi => ?_⟩, fun a h1 h2 => (if_neg (by omega)).trans ((if_neg (by omega)).trans (if_neg (by omega)))⟩
        unfold addW
        rw [if_pos hi, c4 i hi, wd, wd_congr hq, show uN qs q heap q = heap from if_pos rfl]
        omega
      · have hM1 := hM.fr hp.2
        obtain ⟨sk, sm, m1, m2, m3, ⟨l, m4, m5, m6⟩, ⟨bf, m7, m8, m9⟩, m10, ⟨C, m11, m12⟩, m13⟩ := id hM1
        refine (c_setM m1 m10 (by omega) (by omega)).mono (fun v σ2 hq => ⟨hq.1, ?_⟩)
        rw [hq.2]
        have hq1 : q + 1 ≤ 12 := Nat.lt_of_le_of_ne w6 h12
        have hh16 : heap < 65536 := by omega
        obtain ⟨w1, w2, w3, w4, w5, w6, w7, w8⟩ := hW
        have hu : ∀ j, uN qs q heap j < 65536 := fun j => by
          unfold uN
          split
          · exact hh16
          · exact w7 j
        exact ⟨on, kd, n, e, an, wt, tb, q + 1, uN qs q heap, tr, Ls, ⟨w1, w2, w3, w4, w5, hq1, hu, w8⟩, hp.1.fr rfl (fun a ha => (if_neg (by omega)).trans (if_neg (by omega))), ⟨sk, sm, sUp_same, m2, m3, ⟨l, sUp_ne (by omega) (sUp_ne (by omega) m4), m5, m6⟩, ⟨bf, sUp_ne (by omega) (sUp_ne (by omega) m7), m8, m9⟩, sUp_ne (by omega) sUp_same, ⟨C, sUp_ne (by omega) (sUp_ne (by omega) m11), m12⟩, m13.fr (fun a _ _ => (if_neg (by omega)).trans (if_neg (by omega)))⟩⟩
  · exact BB.pure hI (c_setX0 x2.1 c1 w6 hz h) (c_setM0 m1 hz h) rfl

set_option maxRecDepth 100000 in
set_option maxHeartbeats 4000000 in
theorem bb_drop {k : Cx} {L0 : Launch} {σ : St} (hI : Inv k σ) : BB k L0 vI mX11_drop 2 0 0 mX12_drop 1 [] σ := by
  obtain ⟨on, kd, n, e, an, wt, tb, q, qs, tr, Ls, hW, hX, hM⟩ := id hI
  obtain ⟨w1, w2, w3, w4, w5, w6, w7, w8, w9, w10, w11⟩ := id hW
  obtain ⟨x1, x2, x3, x4, x5, x6⟩ := id hX
  obtain ⟨⟨yp, np, g1, g2⟩, f, g3, g4, g5⟩ := id x4
  obtain ⟨c1, c2, ww, c3, c4⟩ := id x5
  obtain ⟨sk, sm, m1, m2, m3, ⟨l, m4, m5, m6⟩, ⟨bf, m7, m8, m9⟩, m10, ⟨C, m11, m12⟩, m13⟩ := id hM
  have hfl : ∀ i, i < n → f (an * 16 + i) = l i := fun i hi => (g5 an (Nat.le_refl _) i hi).trans (m6 i hi).symm
  by_cases h : q = 0
  · exact BB.pure hI (c_dropX0 x2.1 c1 w6 h) (c_dropM0 m1 h) rfl
  · obtain ⟨p, rfl⟩ : ∃ p : Nat, q = p + 1 := ⟨q - 1, by omega⟩
    have ep : ((p + 1 : Nat) : Int) - 1 = (p : Int) := by omega
    refine BB.mk hI (v := .int (iZ (p : Int))) (P := fun σ1 => IX k σ1 on kd n e an wt tb p qs tr Ls ∧ ∀ a, cBase k + 14 ≤ a → a < cBase k + 25 → σ1.2 a = σ.2 a) ((c_dropX x2.1 c1 w6 c3 c4 (by omega)).mono (fun v σ1 hp => ⟨?_, ?_⟩)) (fun σ1 hp => ?_)
    · rw [hp.1, ep]
    · rw [hp.2, ep]
      refine ⟨hX.code rfl (fun a h1 h2 h3 => (if_neg h3).trans (if_neg h1)) ⟨sUp_ne (by omega) sUp_same, sUp_ne (by omega) (sUp_ne (by omega) c2), _, sUp_same, fun i hi => ?_⟩, fun a h1 h2 => (if_neg (by omega)).trans (if_neg (by omega))⟩
      unfold cutW
      rw [if_pos hi, c4 i hi, Int.toNat_natCast, show p + 1 - 1 = p by omega, wd_mod]
    · have hM1 := hM.fr hp.2
      obtain ⟨sk, sm, m1, m2, m3, ⟨l, m4, m5, m6⟩, ⟨bf, m7, m8, m9⟩, m10, ⟨C, m11, m12⟩, m13⟩ := id hM1
      refine (c_dropM m1 (by omega) w6).mono (fun v σ2 hq => ⟨?_, ?_⟩)
      · rw [hq.1, ep]
      · rw [hq.2, ep]
        obtain ⟨w1, w2, w3, w4, w5, w6, w7, w8⟩ := hW
        exact ⟨on, kd, n, e, an, wt, tb, p, qs, tr, Ls, ⟨w1, w2, w3, w4, w5, by omega, w7, w8⟩, hp.1.fr rfl (fun a ha => if_neg (by omega)), ⟨sk, sm, sUp_same, m2, m3, ⟨l, sUp_ne (by omega) m4, m5, m6⟩, ⟨bf, sUp_ne (by omega) m7, m8, m9⟩, sUp_ne (by omega) m10, ⟨C, sUp_ne (by omega) m11, m12⟩, m13.fr (fun a _ _ => if_neg (by omega))⟩⟩

set_option maxRecDepth 100000 in
set_option maxHeartbeats 4000000 in
theorem bb_play {k : Cx} {L0 : Launch} {σ : St} (hI : Inv k σ) {z : Int} (hz : zR z) : BB k L0 vI mX11_play 6 0 0 mX12_play 4 [.int (iZ z)] σ := by
  obtain ⟨on, kd, n, e, an, wt, tb, q, qs, tr, Ls, hW, hX, hM⟩ := id hI
  obtain ⟨w1, w2, w3, w4, w5, w6, w7, w8, w9, w10, w11⟩ := id hW
  obtain ⟨x1, x2, x3, x4, x5, x6⟩ := id hX
  obtain ⟨⟨yp, np, g1, g2⟩, f, g3, g4, g5⟩ := id x4
  obtain ⟨c1, c2, ww, c3, c4⟩ := id x5
  obtain ⟨sk, sm, m1, m2, m3, ⟨l, m4, m5, m6⟩, ⟨bf, m7, m8, m9⟩, m10, ⟨C, m11, m12⟩, m13⟩ := id hM
  have hfl : ∀ i, i < n → f (an * 16 + i) = l i := fun i hi => (g5 an (Nat.le_refl _) i hi).trans (m6 i hi).symm
  by_cases h : 0 ≤ z ∧ z < ((2 ^ q : Nat) : Int)
  · obtain ⟨w, rfl⟩ : ∃ w : Nat, z = (w : Int) := ⟨z.toNat, by omega⟩
    rcases (show on = 0 ∨ on = 1 by omega) with e0 | e0
    · subst e0
      exact BB.pure hI (c_playX1 x2.1 c1 w6 g1 (by omega)) (c_playM1 m1 w6 (by omega)) rfl
    · subst e0
      refine BB.mk hI (v := .int (iZ ((plGo kd n qs w q 0 an Ls).1 : Int))) (P := fun σ1 => IX k σ1 1 kd n e (plGo kd n qs w q 0 an Ls).2.1 (-1) tb q qs tr (plGo kd n qs w q 0 an Ls).2.2 ∧ ∀ a, cBase k + 14 ≤ a → a < cBase k + 25 → σ1.2 a = σ.2 a) ((c_playX x2.1 c1 w6 c2 w7 w2 w3 (by omega) x4.y w5).mono (fun v σ1 hp => ?_)) (fun σ1 hp => ?_)
      · exact ⟨hp.1, hX.gm hp.2.2 hp.2.1.x, fun a h1 h2 => hp.2.2.2 a (by omega) (by omega)⟩
      · have hM1 := hM.fr hp.2
        obtain ⟨sk, sm, m1, m2, m3, hl1, hb1, m10, ⟨C, m11, m12⟩, m13⟩ := id hM1
        refine (c_playM w6 m10 w7 w2 w3 (by omega) ⟨m1, hl1, hb1, m13.2.2⟩ w5).mono (fun v σ2 hq => ?_)
        exact ⟨hq.1, 1, kd, n, e, _, -1, tb, q, qs, tr, _, WF.play q 0 an Ls (hW.wt (Or.inl rfl)), hp.1.frQ hq.2.2, IM.up m2 m3 m10 m11 m12 m13 hq.2.1 hq.2.2⟩
  · exact BB.pure hI (c_playX0 x2.1 c1 w6 hz (by omega)) (c_playM0 m1 w6 hz (by omega)) rfl
