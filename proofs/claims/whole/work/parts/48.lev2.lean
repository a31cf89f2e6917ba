theorem LvI_move {R0 R : Nat → Int} {kd lev : Nat} {m : Q4} {d c b a d' c' b' a' : Nat} (hi : LvI R0 R kd lev m d c b a) (h : ∀ x, leQ (cumQ x) m → BfE x d' c' b' a' → BfE x d c b a) : LvI R0 R kd lev m d' c' b' a' :=
  ⟨hi.1, hi.2.1, hi.2.2.1, hi.2.2.2.1, fun x hx ht hb hc => hi.2.2.2.2 x hx ht (h x hx hb) hc⟩
set_option maxRecDepth 100000 in
set_option maxHeartbeats 4000000 in
theorem l_lvA {κ : Kx} {k : Cx} {σ : St} {Q : State → Prop} {hg n e an wt tb q tr sk sm kk0 : Int} (hM : σ.2 (cBase k + 14) = some (oModel k hg kk0 n e an wt tb q tr sk sm)) {kd lev : Nat} (hk : kd < 3) (hlv : 1 ≤ lev ∧ lev ≤ 13) {m : Q4} (hm16 : m.1 ≤ 16) {R0 : Nat → Int} (hdm : Dec m) {mo : Nat → Int} (hMM : σ.2 (cBase k + 23) = some (eI k 4 mo)) (hmo : ∀ j, j < 4 → mo j = (qat m j : Int)) {d : Nat} {c : Nat} {b : Nat} (hcd : b + c + d ≤ m.1) (hcd2 : b + c + d ≤ m.2.1) (hcd3 : c + d ≤ m.2.2.1) (hcd4 : d ≤ m.2.2.2) (kk : ∀ (σc : St) (R : Nat → Int), LvS k σ σc R → LvI R0 R kd lev m d c (b + 1) 0 → V κ k 9 0 0 Q 210 [some (.ref (cBase k + 14)), some (.int (iZ (kd : Int))), some (.int (iZ (lev : Int))), some (.int (iZ (d : Int))), some (.int (iZ (c : Int))), some (.int (iZ (b : Int))), none, none, none] [] σc) (S : Ok κ k cX12_levels 9 RX12 none "levels" 4 0 0) : ∀ (r a : Nat), a + b + c + d + r = m.1 + 1 → ∀ (σc : St) (R : Nat → Int), LvS k σ σc R → LvI R0 R kd lev m d c b a → V κ k 9 0 0 Q 50 [some (.ref (cBase k + 14)), some (.int (iZ (kd : Int))), some (.int (iZ (lev : Int))), some (.int (iZ (d : Int))), some (.int (iZ (c : Int))), some (.int (iZ (b : Int))), some (.int (iZ (a : Int))), none, none] [] σc := by
  intro r
  induction r with
  | zero =>
    intro a hr σc R hls hinv
    obtain ⟨hRc, ⟨hp0, hHc⟩, ⟨bd0, hBc⟩, ⟨ct, hCc⟩, hsz, hfr⟩ := id hls
    have hMc := (hfr (cBase k + 14) (by omega) (by omega) (by omega) (by omega)).trans hM
    have hMMc := (hfr (cBase k + 23) (by omega) (by omega) (by omega) (by omega)).trans hMM
    have hd9 : m.2.1 ≤ m.1 ∧ m.2.2.1 ≤ m.2.1 ∧ m.2.2.2 ≤ m.2.2.1 := hdm
    refine r_iload S dX12_levels_50 rfl ?_
    refine r_iload S dX12_levels_52 rfl ?_
    refine r_iadd S dX12_levels_54 ?_
    refine r_iload S dX12_levels_55 rfl ?_
    refine r_iadd S dX12_levels_57 ?_
    refine r_iload_n S dX12_levels_58 rfl ?_
    refine r_iadd S dX12_levels_59 ?_
    refine r_aload_n S dX12_levels_60 rfl ?_
    refine r_getf S g_RX12_43_11 dX12_levels_61 (by repeat (first | assumption | exact sUp_same | exact sNew_same | refine sUp_ne (by first | assumption | omega) ?_)) rfl ?_
    refine r_iconst S dX12_levels_64 ?_
    refine r_ialdN S (0) dX12_levels_65 (by repeat (first | assumption | exact sUp_same | exact sNew_same | refine sUp_ne (by first | assumption | omega) ?_)) (by rfl) (by omega) (by decide) ?_
    rw [show mo 0 = ((m.1 : Nat) : Int) from hmo 0 (by decide)]
    refine r_icmp_gt S dX12_levels_66 (tgt := 210) (by decide) ⟨by omega, by omega⟩ ⟨by omega, by omega⟩ (fun h_66 => ?_) (fun h_66 => ?_)
    · refine V.mask [true, true, true, true, true, true, false, false, false] (lv' := [_, _, _, _, _, _, none, none, none]) rfl ?_
      refine kk _ R hls (LvI_move hinv (fun x hx hb => ?_))
      obtain ⟨x0, x1, x2, x3⟩ := x
      simp only [leQ, cumQ] at hx
      simp only [BfE] at hb ⊢
      omega
    · omega
  | succ r ih =>
    intro a hr σc R hls hinv
    obtain ⟨hRc, ⟨hp0, hHc⟩, ⟨bd0, hBc⟩, ⟨ct, hCc⟩, hsz, hfr⟩ := id hls
    have hMc := (hfr (cBase k + 14) (by omega) (by omega) (by omega) (by omega)).trans hM
    have hMMc := (hfr (cBase k + 23) (by omega) (by omega) (by omega) (by omega)).trans hMM
    have hd9 : m.2.1 ≤ m.1 ∧ m.2.2.1 ≤ m.2.1 ∧ m.2.2.2 ≤ m.2.2.1 := hdm
    refine r_iload S dX12_levels_50 rfl ?_
    refine r_iload S dX12_levels_52 rfl ?_
    refine r_iadd S dX12_levels_54 ?_
    refine r_iload S dX12_levels_55 rfl ?_
    refine r_iadd S dX12_levels_57 ?_
    refine r_iload_n S dX12_levels_58 rfl ?_
    refine r_iadd S dX12_levels_59 ?_
    refine r_aload_n S dX12_levels_60 rfl ?_
    refine r_getf S g_RX12_43_11 dX12_levels_61 (by repeat (first | assumption | exact sUp_same | exact sNew_same | refine sUp_ne (by first | assumption | omega) ?_)) rfl ?_
    refine r_iconst S dX12_levels_64 ?_
    refine r_ialdN S (0) dX12_levels_65 (by repeat (first | assumption | exact sUp_same | exact sNew_same | refine sUp_ne (by first | assumption | omega) ?_)) (by rfl) (by omega) (by decide) ?_
    rw [show mo 0 = ((m.1 : Nat) : Int) from hmo 0 (by decide)]
    refine r_icmp_gt S dX12_levels_66 (tgt := 210) (by decide) ⟨by omega, by omega⟩ ⟨by omega, by omega⟩ (fun h_66 => ?_) (fun h_66 => ?_)
    · omega
    · refine s_lev hM hk hlv hm16 (a := a) (b := b) (c := c) (d := d) ⟨by simp only [cumQ]; omega, by simp only [cumQ]; omega, by simp only [cumQ]; omega, by simp only [cumQ]; omega⟩ (fun σ2 R2 hls2 hinv2 => ?_) S _ R hls hinv
      refine r_iinc S dX12_levels_204 rfl rfl (by decide) (lv' := [_, _, _, _, _, _, _, _, _]) rfl ?_
      refine r_goto S dX12_levels_207 (tgt := 50) (by decide) ?_
      exact ih (a + 1) (by omega) _ R2 hls2 hinv2

set_option maxRecDepth 100000 in
set_option maxHeartbeats 4000000 in
theorem l_lvB {κ : Kx} {k : Cx} {σ : St} {Q : State → Prop} {hg n e an wt tb q tr sk sm kk0 : Int} (hM : σ.2 (cBase k + 14) = some (oModel k hg kk0 n e an wt tb q tr sk sm)) {kd lev : Nat} (hk : kd < 3) (hlv : 1 ≤ lev ∧ lev ≤ 13) {m : Q4} (hm16 : m.1 ≤ 16) {R0 : Nat → Int} (hdm : Dec m) {mo : Nat → Int} (hMM : σ.2 (cBase k + 23) = some (eI k 4 mo)) (hmo : ∀ j, j < 4 → mo j = (qat m j : Int)) {d : Nat} {c : Nat} (hcd : c + d ≤ m.2.1) (hcd3 : c + d ≤ m.2.2.1) (hcd4 : d ≤ m.2.2.2) (kk : ∀ (σc : St) (R : Nat → Int), LvS k σ σc R → LvI R0 R kd lev m d (c + 1) 0 0 → V κ k 9 0 0 Q 216 [some (.ref (cBase k + 14)), some (.int (iZ (kd : Int))), some (.int (iZ (lev : Int))), some (.int (iZ (d : Int))), some (.int (iZ (c : Int))), none, none, none, none] [] σc) (S : Ok κ k cX12_levels 9 RX12 none "levels" 4 0 0) : ∀ (r b : Nat), b + c + d + r = m.2.1 + 1 → ∀ (σc : St) (R : Nat → Int), LvS k σ σc R → LvI R0 R kd lev m d c b 0 → V κ k 9 0 0 Q 31 [some (.ref (cBase k + 14)), some (.int (iZ (kd : Int))), some (.int (iZ (lev : Int))), some (.int (iZ (d : Int))), some (.int (iZ (c : Int))), some (.int (iZ (b : Int))), none, none, none] [] σc := by
  intro r
  induction r with
  | zero =>
    intro b hr σc R hls hinv
    obtain ⟨hRc, ⟨hp0, hHc⟩, ⟨bd0, hBc⟩, ⟨ct, hCc⟩, hsz, hfr⟩ := id hls
    have hMc := (hfr (cBase k + 14) (by omega) (by omega) (by omega) (by omega)).trans hM
    have hMMc := (hfr (cBase k + 23) (by omega) (by omega) (by omega) (by omega)).trans hMM
    have hd9 : m.2.1 ≤ m.1 ∧ m.2.2.1 ≤ m.2.1 ∧ m.2.2.2 ≤ m.2.2.1 := hdm
    refine r_iload S dX12_levels_31 rfl ?_
    refine r_iload S dX12_levels_33 rfl ?_
    refine r_iadd S dX12_levels_35 ?_
    refine r_iload_n S dX12_levels_36 rfl ?_
    refine r_iadd S dX12_levels_37 ?_
    refine r_aload_n S dX12_levels_38 rfl ?_
    refine r_getf S g_RX12_43_11 dX12_levels_39 (by repeat (first | assumption | exact sUp_same | exact sNew_same | refine sUp_ne (by first | assumption | omega) ?_)) rfl ?_
    refine r_iconst S dX12_levels_42 ?_
    refine r_ialdN S (1) dX12_levels_43 (by repeat (first | assumption | exact sUp_same | exact sNew_same | refine sUp_ne (by first | assumption | omega) ?_)) (by rfl) (by omega) (by decide) ?_
    rw [show mo 1 = ((m.2.1 : Nat) : Int) from hmo 1 (by decide)]
    refine r_icmp_gt S dX12_levels_44 (tgt := 216) (by decide) ⟨by omega, by omega⟩ ⟨by omega, by omega⟩ (fun h_44 => ?_) (fun h_44 => ?_)
    · refine V.mask [true, true, true, true, true, false, false, false, false] (lv' := [_, _, _, _, _, none, none, none, none]) rfl ?_
      refine kk _ R hls (LvI_move hinv (fun x hx hb => ?_))
      obtain ⟨x0, x1, x2, x3⟩ := x
      simp only [leQ, cumQ] at hx
      simp only [BfE] at hb ⊢
      omega
    · omega
  | succ r ih =>
    intro b hr σc R hls hinv
    obtain ⟨hRc, ⟨hp0, hHc⟩, ⟨bd0, hBc⟩, ⟨ct, hCc⟩, hsz, hfr⟩ := id hls
    have hMc := (hfr (cBase k + 14) (by omega) (by omega) (by omega) (by omega)).trans hM
    have hMMc := (hfr (cBase k + 23) (by omega) (by omega) (by omega) (by omega)).trans hMM
    have hd9 : m.2.1 ≤ m.1 ∧ m.2.2.1 ≤ m.2.1 ∧ m.2.2.2 ≤ m.2.2.1 := hdm
    refine r_iload S dX12_levels_31 rfl ?_
    refine r_iload S dX12_levels_33 rfl ?_
    refine r_iadd S dX12_levels_35 ?_
    refine r_iload_n S dX12_levels_36 rfl ?_
    refine r_iadd S dX12_levels_37 ?_
    refine r_aload_n S dX12_levels_38 rfl ?_
    refine r_getf S g_RX12_43_11 dX12_levels_39 (by repeat (first | assumption | exact sUp_same | exact sNew_same | refine sUp_ne (by first | assumption | omega) ?_)) rfl ?_
    refine r_iconst S dX12_levels_42 ?_
    refine r_ialdN S (1) dX12_levels_43 (by repeat (first | assumption | exact sUp_same | exact sNew_same | refine sUp_ne (by first | assumption | omega) ?_)) (by rfl) (by omega) (by decide) ?_
    rw [show mo 1 = ((m.2.1 : Nat) : Int) from hmo 1 (by decide)]
    refine r_icmp_gt S dX12_levels_44 (tgt := 216) (by decide) ⟨by omega, by omega⟩ ⟨by omega, by omega⟩ (fun h_44 => ?_) (fun h_44 => ?_)
    · omega
    · refine r_iconst S dX12_levels_47 ?_
      refine r_istore S dX12_levels_48 rfl (by decide) (lv' := [_, _, _, _, _, _, _, _, _]) rfl ?_
      refine l_lvA hM hk hlv hm16 hdm hMM hmo (by omega) (by omega) (by omega) (by omega) (fun σ2 R2 hls2 hinv2 => ?_) S (m.1 + 1 - (b + c + d)) 0 (by omega) _ R hls hinv
      refine r_iinc S dX12_levels_210 rfl rfl (by decide) (lv' := [_, _, _, _, _, _, _, _, _]) rfl ?_
      refine r_goto S dX12_levels_213 (tgt := 31) (by decide) ?_
      exact ih (b + 1) (by omega) _ R2 hls2 hinv2

set_option maxRecDepth 100000 in
set_option maxHeartbeats 4000000 in
theorem l_lvC {κ : Kx} {k : Cx} {σ : St} {Q : State → Prop} {hg n e an wt tb q tr sk sm kk0 : Int} (hM : σ.2 (cBase k + 14) = some (oModel k hg kk0 n e an wt tb q tr sk sm)) {kd lev : Nat} (hk : kd < 3) (hlv : 1 ≤ lev ∧ lev ≤ 13) {m : Q4} (hm16 : m.1 ≤ 16) {R0 : Nat → Int} (hdm : Dec m) {mo : Nat → Int} (hMM : σ.2 (cBase k + 23) = some (eI k 4 mo)) (hmo : ∀ j, j < 4 → mo j = (qat m j : Int)) {d : Nat} (hcd : d ≤ m.2.2.1) (hcd4 : d ≤ m.2.2.2) (kk : ∀ (σc : St) (R : Nat → Int), LvS k σ σc R → LvI R0 R kd lev m (d + 1) 0 0 0 → V κ k 9 0 0 Q 222 [some (.ref (cBase k + 14)), some (.int (iZ (kd : Int))), some (.int (iZ (lev : Int))), some (.int (iZ (d : Int))), none, none, none, none, none] [] σc) (S : Ok κ k cX12_levels 9 RX12 none "levels" 4 0 0) : ∀ (r c : Nat), c + d + r = m.2.2.1 + 1 → ∀ (σc : St) (R : Nat → Int), LvS k σ σc R → LvI R0 R kd lev m d c 0 0 → V κ k 9 0 0 Q 15 [some (.ref (cBase k + 14)), some (.int (iZ (kd : Int))), some (.int (iZ (lev : Int))), some (.int (iZ (d : Int))), some (.int (iZ (c : Int))), none, none, none, none] [] σc := by
  intro r
  induction r with
  | zero =>
    intro c hr σc R hls hinv
    obtain ⟨hRc, ⟨hp0, hHc⟩, ⟨bd0, hBc⟩, ⟨ct, hCc⟩, hsz, hfr⟩ := id hls
    have hMc := (hfr (cBase k + 14) (by omega) (by omega) (by omega) (by omega)).trans hM
    have hMMc := (hfr (cBase k + 23) (by omega) (by omega) (by omega) (by omega)).trans hMM
    have hd9 : m.2.1 ≤ m.1 ∧ m.2.2.1 ≤ m.2.1 ∧ m.2.2.2 ≤ m.2.2.1 := hdm
    refine r_iload S dX12_levels_15 rfl ?_
    refine r_iload_n S dX12_levels_17 rfl ?_
    refine r_iadd S dX12_levels_18 ?_
    refine r_aload_n S dX12_levels_19 rfl ?_
    refine r_getf S g_RX12_43_11 dX12_levels_20 (by repeat (first | assumption | exact sUp_same | exact sNew_same | refine sUp_ne (by first | assumption | omega) ?_)) rfl ?_
    refine r_iconst S dX12_levels_23 ?_
    refine r_ialdN S (2) dX12_levels_24 (by repeat (first | assumption | exact sUp_same | exact sNew_same | refine sUp_ne (by first | assumption | omega) ?_)) (by rfl) (by omega) (by decide) ?_
    rw [show mo 2 = ((m.2.2.1 : Nat) : Int) from hmo 2 (by decide)]
    refine r_icmp_gt S dX12_levels_25 (tgt := 222) (by decide) ⟨by omega, by omega⟩ ⟨by omega, by omega⟩ (fun h_25 => ?_) (fun h_25 => ?_)
    · refine V.mask [true, true, true, true, false, false, false, false, false] (lv' := [_, _, _, _, none, none, none, none, none]) rfl ?_
      refine kk _ R hls (LvI_move hinv (fun x hx hb => ?_))
      obtain ⟨x0, x1, x2, x3⟩ := x
      simp only [leQ, cumQ] at hx
      simp only [BfE] at hb ⊢
      omega
    · omega
  | succ r ih =>
    intro c hr σc R hls hinv
    obtain ⟨hRc, ⟨hp0, hHc⟩, ⟨bd0, hBc⟩, ⟨ct, hCc⟩, hsz, hfr⟩ := id hls
    have hMc := (hfr (cBase k + 14) (by omega) (by omega) (by omega) (by omega)).trans hM
    have hMMc := (hfr (cBase k + 23) (by omega) (by omega) (by omega) (by omega)).trans hMM
    have hd9 : m.2.1 ≤ m.1 ∧ m.2.2.1 ≤ m.2.1 ∧ m.2.2.2 ≤ m.2.2.1 := hdm
    refine r_iload S dX12_levels_15 rfl ?_
    refine r_iload_n S dX12_levels_17 rfl ?_
    refine r_iadd S dX12_levels_18 ?_
    refine r_aload_n S dX12_levels_19 rfl ?_
    refine r_getf S g_RX12_43_11 dX12_levels_20 (by repeat (first | assumption | exact sUp_same | exact sNew_same | refine sUp_ne (by first | assumption | omega) ?_)) rfl ?_
    refine r_iconst S dX12_levels_23 ?_
    refine r_ialdN S (2) dX12_levels_24 (by repeat (first | assumption | exact sUp_same | exact sNew_same | refine sUp_ne (by first | assumption | omega) ?_)) (by rfl) (by omega) (by decide) ?_
    rw [show mo 2 = ((m.2.2.1 : Nat) : Int) from hmo 2 (by decide)]
    refine r_icmp_gt S dX12_levels_25 (tgt := 222) (by decide) ⟨by omega, by omega⟩ ⟨by omega, by omega⟩ (fun h_25 => ?_) (fun h_25 => ?_)
    · omega
    · refine r_iconst S dX12_levels_28 ?_
      refine r_istore S dX12_levels_29 rfl (by decide) (lv' := [_, _, _, _, _, _, _, _, _]) rfl ?_
      refine l_lvB hM hk hlv hm16 hdm hMM hmo (by omega) (by omega) (by omega) (fun σ2 R2 hls2 hinv2 => ?_) S (m.2.1 + 1 - (c + d)) 0 (by omega) _ R hls hinv
      refine r_iinc S dX12_levels_216 rfl rfl (by decide) (lv' := [_, _, _, _, _, _, _, _, _]) rfl ?_
      refine r_goto S dX12_levels_219 (tgt := 15) (by decide) ?_
      exact ih (c + 1) (by omega) _ R2 hls2 hinv2

set_option maxRecDepth 100000 in
set_option maxHeartbeats 4000000 in
theorem l_lvD {κ : Kx} {k : Cx} {σ : St} {Q : State → Prop} {hg n e an wt tb q tr sk sm kk0 : Int} (hM : σ.2 (cBase k + 14) = some (oModel k hg kk0 n e an wt tb q tr sk sm)) {kd lev : Nat} (hk : kd < 3) (hlv : 1 ≤ lev ∧ lev ≤ 13) {m : Q4} (hm16 : m.1 ≤ 16) {R0 : Nat → Int} (hdm : Dec m) {mo : Nat → Int} (hMM : σ.2 (cBase k + 23) = some (eI k 4 mo)) (hmo : ∀ j, j < 4 → mo j = (qat m j : Int)) (kk : ∀ (σc : St) (R : Nat → Int), LvS k σ σc R → LvI R0 R kd lev m (m.2.2.2 + 1) 0 0 0 → V κ k 9 0 0 Q 228 [some (.ref (cBase k + 14)), some (.int (iZ (kd : Int))), some (.int (iZ (lev : Int))), none, none, none, none, none, none] [] σc) (S : Ok κ k cX12_levels 9 RX12 none "levels" 4 0 0) : ∀ (r d : Nat), d + r = m.2.2.2 + 1 → ∀ (σc : St) (R : Nat → Int), LvS k σ σc R → LvI R0 R kd lev m d 0 0 0 → V κ k 9 0 0 Q 2 [some (.ref (cBase k + 14)), some (.int (iZ (kd : Int))), some (.int (iZ (lev : Int))), some (.int (iZ (d : Int))), none, none, none, none, none] [] σc := by
  intro r
  induction r with
  | zero =>
    intro d hr σc R hls hinv
    obtain ⟨hRc, ⟨hp0, hHc⟩, ⟨bd0, hBc⟩, ⟨ct, hCc⟩, hsz, hfr⟩ := id hls
    have hMc := (hfr (cBase k + 14) (by omega) (by omega) (by omega) (by omega)).trans hM
    have hMMc := (hfr (cBase k + 23) (by omega) (by omega) (by omega) (by omega)).trans hMM
    have hd9 : m.2.1 ≤ m.1 ∧ m.2.2.1 ≤ m.2.1 ∧ m.2.2.2 ≤ m.2.2.1 := hdm
    refine r_iload_n S dX12_levels_2 rfl ?_
    refine r_aload_n S dX12_levels_3 rfl ?_
    refine r_getf S g_RX12_43_11 dX12_levels_4 (by repeat (first | assumption | exact sUp_same | exact sNew_same | refine sUp_ne (by first | assumption | omega) ?_)) rfl ?_
    refine r_iconst S dX12_levels_7 ?_
    refine r_ialdN S (3) dX12_levels_8 (by repeat (first | assumption | exact sUp_same | exact sNew_same | refine sUp_ne (by first | assumption | omega) ?_)) (by rfl) (by omega) (by decide) ?_
    rw [show mo 3 = ((m.2.2.2 : Nat) : Int) from hmo 3 (by decide)]
    refine r_icmp_gt S dX12_levels_9 (tgt := 228) (by decide) ⟨by omega, by omega⟩ ⟨by omega, by omega⟩ (fun h_9 => ?_) (fun h_9 => ?_)
    · refine V.mask [true, true, true, false, false, false, false, false, false] (lv' := [_, _, _, none, none, none, none, none, none]) rfl ?_
      refine kk _ R hls (LvI_move hinv (fun x hx hb => ?_))
      obtain ⟨x0, x1, x2, x3⟩ := x
      simp only [leQ, cumQ] at hx
      simp only [BfE] at hb ⊢
      omega
    · omega
  | succ r ih =>
    intro d hr σc R hls hinv
    obtain ⟨hRc, ⟨hp0, hHc⟩, ⟨bd0, hBc⟩, ⟨ct, hCc⟩, hsz, hfr⟩ := id hls
    have hMc := (hfr (cBase k + 14) (by omega) (by omega) (by omega) (by omega)).trans hM
    have hMMc := (hfr (cBase k + 23) (by omega) (by omega) (by omega) (by omega)).trans hMM
    have hd9 : m.2.1 ≤ m.1 ∧ m.2.2.1 ≤ m.2.1 ∧ m.2.2.2 ≤ m.2.2.1 := hdm
    refine r_iload_n S dX12_levels_2 rfl ?_
    refine r_aload_n S dX12_levels_3 rfl ?_
    refine r_getf S g_RX12_43_11 dX12_levels_4 (by repeat (first | assumption | exact sUp_same | exact sNew_same | refine sUp_ne (by first | assumption | omega) ?_)) rfl ?_
    refine r_iconst S dX12_levels_7 ?_
    refine r_ialdN S (3) dX12_levels_8 (by repeat (first | assumption | exact sUp_same | exact sNew_same | refine sUp_ne (by first | assumption | omega) ?_)) (by rfl) (by omega) (by decide) ?_
    rw [show mo 3 = ((m.2.2.2 : Nat) : Int) from hmo 3 (by decide)]
    refine r_icmp_gt S dX12_levels_9 (tgt := 228) (by decide) ⟨by omega, by omega⟩ ⟨by omega, by omega⟩ (fun h_9 => ?_) (fun h_9 => ?_)
    · omega
    · refine r_iconst S dX12_levels_12 ?_
      refine r_istore S dX12_levels_13 rfl (by decide) (lv' := [_, _, _, _, _, _, _, _, _]) rfl ?_
      refine l_lvC hM hk hlv hm16 hdm hMM hmo (by omega) (by omega) (fun σ2 R2 hls2 hinv2 => ?_) S (m.2.2.1 + 1 - d) 0 (by omega) _ R hls hinv
      refine r_iinc S dX12_levels_222 rfl rfl (by decide) (lv' := [_, _, _, _, _, _, _, _, _]) rfl ?_
      refine r_goto S dX12_levels_225 (tgt := 2) (by decide) ?_
      exact ih (d + 1) (by omega) _ R2 hls2 hinv2
