theorem Fm_right {cy cn : Nat} {F : Nat → Int} {h : Q4} (hr : ∀ x, Dec x → leQ x h → Right cy cn F x) : Fm F h := by
  intro x hx hl
  have hx1 : Dec (x.1 + 1, x.2) := ⟨by have := hx.1; simp only; omega, hx.2.1, hx.2.2⟩
  have hxl : leQ x (x.1 + 1, x.2) := ⟨by simp only; omega, Nat.le_refl _, Nat.le_refl _, Nat.le_refl _⟩
  obtain ⟨v, e1, e2⟩ := hr x hx (leQ_trans hxl hl)
  obtain ⟨w, f1, f2⟩ := hr _ hx1 hl
  rw [e1, f1]
  have := few_mono hx hxl e2 f2
  omega
set_option maxRecDepth 100000 in
set_option maxHeartbeats 4000000 in
theorem c_bestHeap {k : Cx} {L0 : Launch} {σ : St} {ta : Nat} {F : Nat → Int} (hF : σ.2 ta = some (eI k 4845 F)) (hFr : ∀ j, 0 ≤ F j ∧ F j ≤ 13) {af r n : Nat} {f : Nat → Int} (hA : σ.2 af = some (eI k 992 f)) (haf : af < ta) (hf : ∀ j, -1 ≤ f j ∧ f j ≤ 3) (hr : r + 16 ≤ 992) (hn : n ≤ 16) {cy cn : Nat} (hHT : σ.2 (ta + 8) = some (oHT ta)) (hcy : 1 ≤ cy ∧ cy ≤ 4) (hcn : 1 ≤ cn ∧ cn ≤ 4) (hFm : Fm F (hQ f r n)) (hTl : Tl k σ ta cy cn) : CtrV k L0 mX4_bestHeap 9 0 0 [.ref (ta + 8), .ref af, .int (iZ (r : Int)), .int (iZ (n : Int))] σ (fun v σ' => ∃ (ls' : Nat) (w : Nat → Nat), v = .int (iZ (ls' : Int)) ∧ MinOf w (T3 F (F (plQ (hQ f r n)) - 1) cy cn (hQ f r n)) 65535 ls' ∧ LWs w f r n ∧ Tl k σ' ta cy cn ∧ Fr σ σ' (ta + 4) (ta + 8)) := by
  refine Ctr.of (by decide +kernel) rfl (Nat.le_of_ble_eq_true rfl) ?_
  intro κ hl0 S
  subst hl0
  obtain ⟨⟨g, ls, hO⟩, ⟨hv, hhv, hH⟩, ⟨tk, htk, hT⟩, w, hwl, hW⟩ := hTl
  have hFq := hFr (plQ (hQ f r n))
  refine r_aload_n S dX4_bestHeap_0 rfl ?_
  refine r_getf S g_RX4_22_4 dX4_bestHeap_1 (by repeat (first | assumption | exact sUp_same | exact sNew_same | refine sUp_ne (by first | assumption | omega) ?_)) rfl ?_
  refine r_aload_n S dX4_bestHeap_4 rfl ?_
  refine r_iload_n S dX4_bestHeap_5 rfl ?_
  refine r_iload_n S dX4_bestHeap_6 rfl ?_
  refine r_aload_n S dX4_bestHeap_7 rfl ?_
  refine r_aload_n S dX4_bestHeap_8 rfl ?_
  refine r_iload_n S dX4_bestHeap_9 rfl ?_
  refine r_iload_n S dX4_bestHeap_10 rfl ?_
  refine r_callV S (c_fewestOf hF hHT hA hf hr hn) k_mX4_fewestOf c_RX4_59_4 dX4_bestHeap_11 (by decide) ⟨by omega, by omega⟩ (by repeat (first | assumption | exact sUp_same | exact sNew_same | refine sUp_ne (by first | assumption | omega) ?_)) rfl rfl (Nat.le_of_ble_eq_true rfl) (fun r σ' hp => ?_)
  obtain ⟨_, rfl, rfl, rfl⟩ := hp
  try simp only [Option.toList_some, Option.toList_none, List.cons_append, List.nil_append]
  refine r_iconst S dX4_bestHeap_14 ?_
  refine r_isub S dX4_bestHeap_15 ?_
  refine r_callV S (c_find hF hFr hA haf hf hr hn hO ⟨by omega, by omega⟩ hcy hcn hT htk hFm hH hhv hW hwl) k_mX6_find c_RX4_63_5 dX4_bestHeap_16 (by decide) ⟨by omega, by omega⟩ (by repeat (first | assumption | exact sUp_same | exact sNew_same | refine sUp_ne (by first | assumption | omega) ?_)) rfl rfl (Nat.le_of_ble_eq_true rfl) (fun r σ' hp => ?_)
  obtain ⟨_, rfl, ls2, w2, rfl, hm, hlw, htl, hfr⟩ := hp
  try simp only [Option.toList_some, Option.toList_none, List.cons_append, List.nil_append]
  exact r_iret S dX4_bestHeap_19 (by omega) (by omega) (⟨_, rfl, ls2, w2, rfl, hm, hlw, htl, hfr⟩)
