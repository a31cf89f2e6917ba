def stJ (j : Nat) : Nat := if j = 0 then 1 else if j = 1 then 17 else if j = 2 then 289 else 4913
/-- the STATES with one NUMBER less are known by now -/
def MD (R : Nat → Int) (p : Nat) (lev : Int) (c : Q4) (i : Nat) : Prop := ∀ j, j < i → (qat c j = 0 ∨ (0 < R (p - stJ j) ∧ R (p - stJ j) ≤ lev + 1))
theorem MD_succ {R : Nat → Int} {p : Nat} {lev : Int} {c : Q4} {i : Nat} : MD R p lev c (i + 1) ↔ MD R p lev c i ∧ (qat c i = 0 ∨ (0 < R (p - stJ i) ∧ R (p - stJ i) ≤ lev + 1)) := by
  constructor
  · intro h
    exact ⟨fun j hj => h j (by omega), h i (by omega)⟩
  · rintro ⟨h1, h2⟩ j hj
    rcases Nat.lt_or_ge j i with e | e
    · exact h1 j e
    · rw [show j = i by omega]; exact h2
set_option maxRecDepth 100000 in
set_option maxHeartbeats 4000000 in
theorem s_md4 {κ : Kx} {k : Cx} {σ : St} {hg n e an wt tb q tr sk sm kk0 : Int} (hM : σ.2 (cBase k + 14) = some (oModel k hg kk0 n e an wt tb q tr sk sm)) {R : Nat → Int} (hR : σ.2 (cBase k + 18) = some (eB k 250563 R)) (hRr : ∀ j, 0 ≤ R j ∧ R j ≤ 14) {kd : Nat} (hk : kd < 3) {lev : Int} (hlv : 0 ≤ lev ∧ lev ≤ 13) {c : Q4} (hc16 : c.1 + c.2.1 + c.2.2.1 + c.2.2.2 ≤ 16) {ct : Nat → Int} (hC : σ.2 (cBase k + 22) = some (eI k 4 ct)) (hct : ∀ j, j < 4 → ct j = (qat c j : Int)) (S : Ok κ k cX12_mayDo 6 RX12 (some .boolean) "mayDo" 1 0 0) : V κ k 6 0 0 (QR κ k (fun r σ' => ∃ v, r = some v ∧ (v = .int (iZ (bP (MD R (83521 * kd + posQ c) lev c 4))) ∧ σ' = σ)) 0 0) 5 [some (.ref (cBase k + 14)), some (.int (iZ (((83521 * kd + posQ c) : Nat) : Int))), some (.int (iZ lev)), some (.int (iZ (bP (MD R (83521 * kd + posQ c) lev c 4)))), some (.int (iZ (4 : Int))), none] [] σ := by
  refine r_iload S dX12_mayDo_5 rfl ?_
  refine r_iconst S dX12_mayDo_7 ?_
  refine r_icmp_ge S dX12_mayDo_8 (tgt := 99) (by decide) ⟨by omega, by omega⟩ ⟨by omega, by omega⟩ (fun h_8 => ?_) (fun h_8 => ?_)
  · refine r_iload_n S dX12_mayDo_99 rfl ?_
    exact r_zret S dX12_mayDo_100 (by omega) (by omega) (bP_01 _) (⟨_, rfl, rfl, rfl⟩)
  · omega

set_option maxRecDepth 100000 in
set_option maxHeartbeats 4000000 in
theorem s_md3 {κ : Kx} {k : Cx} {σ : St} {hg n e an wt tb q tr sk sm kk0 : Int} (hM : σ.2 (cBase k + 14) = some (oModel k hg kk0 n e an wt tb q tr sk sm)) {R : Nat → Int} (hR : σ.2 (cBase k + 18) = some (eB k 250563 R)) (hRr : ∀ j, 0 ≤ R j ∧ R j ≤ 14) {kd : Nat} (hk : kd < 3) {lev : Int} (hlv : 0 ≤ lev ∧ lev ≤ 13) {c : Q4} (hc16 : c.1 + c.2.1 + c.2.2.1 + c.2.2.2 ≤ 16) {ct : Nat → Int} (hC : σ.2 (cBase k + 22) = some (eI k 4 ct)) (hct : ∀ j, j < 4 → ct j = (qat c j : Int)) (S : Ok κ k cX12_mayDo 6 RX12 (some .boolean) "mayDo" 1 0 0) : V κ k 6 0 0 (QR κ k (fun r σ' => ∃ v, r = some v ∧ (v = .int (iZ (bP (MD R (83521 * kd + posQ c) lev c 4))) ∧ σ' = σ)) 0 0) 5 [some (.ref (cBase k + 14)), some (.int (iZ (((83521 * kd + posQ c) : Nat) : Int))), some (.int (iZ lev)), some (.int (iZ (bP (MD R (83521 * kd + posQ c) lev c 3)))), some (.int (iZ (3 : Int))), none] [] σ := by
  have hctI : ct 3 = ((c.2.2.2 : Nat) : Int) := hct 3 (by decide)
  have hps : posQ c = c.1 + 17 * (c.2.1 + 17 * (c.2.2.1 + 17 * c.2.2.2)) := rfl
  have hRp := hRr ((83521 * kd + posQ c) - 4913)
  refine r_iload S dX12_mayDo_5 rfl ?_
  refine r_iconst S dX12_mayDo_7 ?_
  refine r_icmp_ge S dX12_mayDo_8 (tgt := 99) (by decide) ⟨by omega, by omega⟩ ⟨by omega, by omega⟩ (fun h_8 => ?_) (fun h_8 => ?_)
  · omega
  · refine r_iload_n S dX12_mayDo_11 rfl ?_
    refine r_iload S dX12_mayDo_12 rfl ?_
    refine r_if_ne S dX12_mayDo_14 (tgt := 21) (by decide) ⟨by omega, by omega⟩ (fun h_14 => ?_) (fun h_14 => ?_)
    · refine r_iload S dX12_mayDo_21 rfl ?_
      refine r_iconst S dX12_mayDo_23 ?_
      refine r_icmp_ne S dX12_mayDo_24 (tgt := 32) (by decide) ⟨by omega, by omega⟩ ⟨by omega, by omega⟩ (fun h_24 => ?_) (fun h_24 => ?_)
      · refine r_iload S dX12_mayDo_32 rfl ?_
        refine r_iconst S dX12_mayDo_34 ?_
        refine r_icmp_ne S dX12_mayDo_35 (tgt := 44) (by decide) ⟨by omega, by omega⟩ ⟨by omega, by omega⟩ (fun h_35 => ?_) (fun h_35 => ?_)
        · refine r_sipush S dX12_mayDo_44 (by decide) ?_
          refine r_isub S dX12_mayDo_47 ?_
          refine r_istore S dX12_mayDo_48 rfl (by decide) (lv' := [_, _, _, _, _, _]) rfl ?_
          refine r_iload_n S dX12_mayDo_50 rfl ?_
          refine r_if_eq S dX12_mayDo_51 (tgt := 91) (by decide) (bP_R _) (fun h_51 => ?_) (fun h_51 => ?_)
          · rw [bP_z] at h_51
            refine r_iconst S dX12_mayDo_91 ?_
            refine r_num (z' := bP (MD R (83521 * kd + posQ c) lev c 4)) ?_ ?_
            · first
                | (rw [bP_f (fun hz => h_51 (MD_succ.mp hz).1)]; done)
                | (rw [bP_t (MD_succ.mpr ⟨h_51, Or.inl (show c.2.2.2 = 0 by omega)⟩)]; done)
                | (rw [bP_t (MD_succ.mpr ⟨h_51, Or.inr (show 0 < R ((83521 * kd + posQ c) - 4913) ∧ R ((83521 * kd + posQ c) - 4913) ≤ lev + 1 from ⟨by omega, by omega⟩)⟩)]; done)
                | (rw [bP_f (fun hz => by have h8 : c.2.2.2 = 0 ∨ (0 < R ((83521 * kd + posQ c) - 4913) ∧ R ((83521 * kd + posQ c) - 4913) ≤ lev + 1) := (MD_succ.mp hz).2; omega)]; done)
            refine r_istore_n S dX12_mayDo_92 rfl (by decide) (lv' := [_, _, _, _, _, _]) rfl ?_
            refine r_iinc S dX12_mayDo_93 rfl rfl (by decide) (lv' := [_, _, _, _, _, _]) rfl ?_
            refine r_goto S dX12_mayDo_96 (tgt := 5) (by decide) ?_
            refine V.mask [true, true, true, true, true, false] (lv' := [_, _, _, _, _, none]) rfl ?_
            exact s_md4 hM hR hRr hk hlv hc16 hC hct S
          · have h_51 := Classical.not_not.mp (fun h8 => h_51 ((bP_z _).mpr h8))
            refine r_aload_n S dX12_mayDo_54 rfl ?_
            refine r_getf S g_RX12_40_11 dX12_mayDo_55 (by repeat (first | assumption | exact sUp_same | exact sNew_same | refine sUp_ne (by first | assumption | omega) ?_)) rfl ?_
            refine r_iload S dX12_mayDo_58 rfl ?_
            refine r_ialdN S (3) dX12_mayDo_60 (by repeat (first | assumption | exact sUp_same | exact sNew_same | refine sUp_ne (by first | assumption | omega) ?_)) (by rfl) (by omega) (by decide) ?_
            rw [hctI]
            refine r_if_eq S dX12_mayDo_61 (tgt := 87) (by decide) ⟨by omega, by omega⟩ (fun h_61 => ?_) (fun h_61 => ?_)
            · refine r_iconst S dX12_mayDo_87 ?_
              refine r_goto S dX12_mayDo_88 (tgt := 92) (by decide) ?_
              refine r_num (z' := bP (MD R (83521 * kd + posQ c) lev c 4)) ?_ ?_
              · first
                  | (rw [bP_f (fun hz => h_51 (MD_succ.mp hz).1)]; done)
                  | (rw [bP_t (MD_succ.mpr ⟨h_51, Or.inl (show c.2.2.2 = 0 by omega)⟩)]; done)
                  | (rw [bP_t (MD_succ.mpr ⟨h_51, Or.inr (show 0 < R ((83521 * kd + posQ c) - 4913) ∧ R ((83521 * kd + posQ c) - 4913) ≤ lev + 1 from ⟨by omega, by omega⟩)⟩)]; done)
                  | (rw [bP_f (fun hz => by have h8 : c.2.2.2 = 0 ∨ (0 < R ((83521 * kd + posQ c) - 4913) ∧ R ((83521 * kd + posQ c) - 4913) ≤ lev + 1) := (MD_succ.mp hz).2; omega)]; done)
              refine r_istore_n S dX12_mayDo_92 rfl (by decide) (lv' := [_, _, _, _, _, _]) rfl ?_
              refine r_iinc S dX12_mayDo_93 rfl rfl (by decide) (lv' := [_, _, _, _, _, _]) rfl ?_
              refine r_goto S dX12_mayDo_96 (tgt := 5) (by decide) ?_
              refine V.mask [true, true, true, true, true, false] (lv' := [_, _, _, _, _, none]) rfl ?_
              exact s_md4 hM hR hRr hk hlv hc16 hC hct S
            · refine r_aload_n S dX12_mayDo_64 rfl ?_
              refine r_getf S g_RX12_24_11 dX12_mayDo_65 (by repeat (first | assumption | exact sUp_same | exact sNew_same | refine sUp_ne (by first | assumption | omega) ?_)) rfl ?_
              refine r_iload S dX12_mayDo_68 rfl ?_
              refine r_baldN S ((83521 * kd + posQ c) - 4913) dX12_mayDo_70 (by repeat (first | assumption | exact sUp_same | exact sNew_same | refine sUp_ne (by first | assumption | omega) ?_)) (by omega) (by omega) (by decide) ?_
              refine r_if_le S dX12_mayDo_71 (tgt := 91) (by decide) ⟨by omega, by omega⟩ (fun h_71 => ?_) (fun h_71 => ?_)
              · refine r_iconst S dX12_mayDo_91 ?_
                refine r_num (z' := bP (MD R (83521 * kd + posQ c) lev c 4)) ?_ ?_
                · first
                    | (rw [bP_f (fun hz => h_51 (MD_succ.mp hz).1)]; done)
                    | (rw [bP_t (MD_succ.mpr ⟨h_51, Or.inl (show c.2.2.2 = 0 by omega)⟩)]; done)
                    | (rw [bP_t (MD_succ.mpr ⟨h_51, Or.inr (show 0 < R ((83521 * kd + posQ c) - 4913) ∧ R ((83521 * kd + posQ c) - 4913) ≤ lev + 1 from ⟨by omega, by omega⟩)⟩)]; done)
                    | (rw [bP_f (fun hz => by have h8 : c.2.2.2 = 0 ∨ (0 < R ((83521 * kd + posQ c) - 4913) ∧ R ((83521 * kd + posQ c) - 4913) ≤ lev + 1) := (MD_succ.mp hz).2; omega)]; done)
                refine r_istore_n S dX12_mayDo_92 rfl (by decide) (lv' := [_, _, _, _, _, _]) rfl ?_
                refine r_iinc S dX12_mayDo_93 rfl rfl (by decide) (lv' := [_, _, _, _, _, _]) rfl ?_
                refine r_goto S dX12_mayDo_96 (tgt := 5) (by decide) ?_
                refine V.mask [true, true, true, true, true, false] (lv' := [_, _, _, _, _, none]) rfl ?_
                exact s_md4 hM hR hRr hk hlv hc16 hC hct S
              · refine r_aload_n S dX12_mayDo_74 rfl ?_
                refine r_getf S g_RX12_24_11 dX12_mayDo_75 (by repeat (first | assumption | exact sUp_same | exact sNew_same | refine sUp_ne (by first | assumption | omega) ?_)) rfl ?_
                refine r_iload S dX12_mayDo_78 rfl ?_
                refine r_baldN S ((83521 * kd + posQ c) - 4913) dX12_mayDo_80 (by repeat (first | assumption | exact sUp_same | exact sNew_same | refine sUp_ne (by first | assumption | omega) ?_)) (by omega) (by omega) (by decide) ?_
                refine r_iload_n S dX12_mayDo_81 rfl ?_
                refine r_iconst S dX12_mayDo_82 ?_
                refine r_iadd S dX12_mayDo_83 ?_
                refine r_icmp_gt S dX12_mayDo_84 (tgt := 91) (by decide) ⟨by omega, by omega⟩ ⟨by omega, by omega⟩ (fun h_84 => ?_) (fun h_84 => ?_)
                · refine r_iconst S dX12_mayDo_91 ?_
                  refine r_num (z' := bP (MD R (83521 * kd + posQ c) lev c 4)) ?_ ?_
                  · first
                      | (rw [bP_f (fun hz => h_51 (MD_succ.mp hz).1)]; done)
                      | (rw [bP_t (MD_succ.mpr ⟨h_51, Or.inl (show c.2.2.2 = 0 by omega)⟩)]; done)
                      | (rw [bP_t (MD_succ.mpr ⟨h_51, Or.inr (show 0 < R ((83521 * kd + posQ c) - 4913) ∧ R ((83521 * kd + posQ c) - 4913) ≤ lev + 1 from ⟨by omega, by omega⟩)⟩)]; done)
                      | (rw [bP_f (fun hz => by have h8 : c.2.2.2 = 0 ∨ (0 < R ((83521 * kd + posQ c) - 4913) ∧ R ((83521 * kd + posQ c) - 4913) ≤ lev + 1) := (MD_succ.mp hz).2; omega)]; done)
                  refine r_istore_n S dX12_mayDo_92 rfl (by decide) (lv' := [_, _, _, _, _, _]) rfl ?_
                  refine r_iinc S dX12_mayDo_93 rfl rfl (by decide) (lv' := [_, _, _, _, _, _]) rfl ?_
                  refine r_goto S dX12_mayDo_96 (tgt := 5) (by decide) ?_
                  refine V.mask [true, true, true, true, true, false] (lv' := [_, _, _, _, _, none]) rfl ?_
                  exact s_md4 hM hR hRr hk hlv hc16 hC hct S
                · refine r_iconst S dX12_mayDo_87 ?_
                  refine r_goto S dX12_mayDo_88 (tgt := 92) (by decide) ?_
                  refine r_num (z' := bP (MD R (83521 * kd + posQ c) lev c 4)) ?_ ?_
                  · first
                      | (rw [bP_f (fun hz => h_51 (MD_succ.mp hz).1)]; done)
                      | (rw [bP_t (MD_succ.mpr ⟨h_51, Or.inl (show c.2.2.2 = 0 by omega)⟩)]; done)
                      | (rw [bP_t (MD_succ.mpr ⟨h_51, Or.inr (show 0 < R ((83521 * kd + posQ c) - 4913) ∧ R ((83521 * kd + posQ c) - 4913) ≤ lev + 1 from ⟨by omega, by omega⟩)⟩)]; done)
                      | (rw [bP_f (fun hz => by have h8 : c.2.2.2 = 0 ∨ (0 < R ((83521 * kd + posQ c) - 4913) ∧ R ((83521 * kd + posQ c) - 4913) ≤ lev + 1) := (MD_succ.mp hz).2; omega)]; done)
                  refine r_istore_n S dX12_mayDo_92 rfl (by decide) (lv' := [_, _, _, _, _, _]) rfl ?_
                  refine r_iinc S dX12_mayDo_93 rfl rfl (by decide) (lv' := [_, _, _, _, _, _]) rfl ?_
                  refine r_goto S dX12_mayDo_96 (tgt := 5) (by decide) ?_
                  refine V.mask [true, true, true, true, true, false] (lv' := [_, _, _, _, _, none]) rfl ?_
                  exact s_md4 hM hR hRr hk hlv hc16 hC hct S
        · exact absurd h_35 (by decide)
      · exact absurd h_24 (by decide)
    · exact absurd h_14 (by decide)

set_option maxRecDepth 100000 in
set_option maxHeartbeats 4000000 in
theorem s_md2 {κ : Kx} {k : Cx} {σ : St} {hg n e an wt tb q tr sk sm kk0 : Int} (hM : σ.2 (cBase k + 14) = some (oModel k hg kk0 n e an wt tb q tr sk sm)) {R : Nat → Int} (hR : σ.2 (cBase k + 18) = some (eB k 250563 R)) (hRr : ∀ j, 0 ≤ R j ∧ R j ≤ 14) {kd : Nat} (hk : kd < 3) {lev : Int} (hlv : 0 ≤ lev ∧ lev ≤ 13) {c : Q4} (hc16 : c.1 + c.2.1 + c.2.2.1 + c.2.2.2 ≤ 16) {ct : Nat → Int} (hC : σ.2 (cBase k + 22) = some (eI k 4 ct)) (hct : ∀ j, j < 4 → ct j = (qat c j : Int)) (S : Ok κ k cX12_mayDo 6 RX12 (some .boolean) "mayDo" 1 0 0) : V κ k 6 0 0 (QR κ k (fun r σ' => ∃ v, r = some v ∧ (v = .int (iZ (bP (MD R (83521 * kd + posQ c) lev c 4))) ∧ σ' = σ)) 0 0) 5 [some (.ref (cBase k + 14)), some (.int (iZ (((83521 * kd + posQ c) : Nat) : Int))), some (.int (iZ lev)), some (.int (iZ (bP (MD R (83521 * kd + posQ c) lev c 2)))), some (.int (iZ (2 : Int))), none] [] σ := by
  have hctI : ct 2 = ((c.2.2.1 : Nat) : Int) := hct 2 (by decide)
  have hps : posQ c = c.1 + 17 * (c.2.1 + 17 * (c.2.2.1 + 17 * c.2.2.2)) := rfl
  have hRp := hRr ((83521 * kd + posQ c) - 289)
  refine r_iload S dX12_mayDo_5 rfl ?_
  refine r_iconst S dX12_mayDo_7 ?_
  refine r_icmp_ge S dX12_mayDo_8 (tgt := 99) (by decide) ⟨by omega, by omega⟩ ⟨by omega, by omega⟩ (fun h_8 => ?_) (fun h_8 => ?_)
  · omega
  · refine r_iload_n S dX12_mayDo_11 rfl ?_
    refine r_iload S dX12_mayDo_12 rfl ?_
    refine r_if_ne S dX12_mayDo_14 (tgt := 21) (by decide) ⟨by omega, by omega⟩ (fun h_14 => ?_) (fun h_14 => ?_)
    · refine r_iload S dX12_mayDo_21 rfl ?_
      refine r_iconst S dX12_mayDo_23 ?_
      refine r_icmp_ne S dX12_mayDo_24 (tgt := 32) (by decide) ⟨by omega, by omega⟩ ⟨by omega, by omega⟩ (fun h_24 => ?_) (fun h_24 => ?_)
      · refine r_iload S dX12_mayDo_32 rfl ?_
        refine r_iconst S dX12_mayDo_34 ?_
        refine r_icmp_ne S dX12_mayDo_35 (tgt := 44) (by decide) ⟨by omega, by omega⟩ ⟨by omega, by omega⟩ (fun h_35 => ?_) (fun h_35 => ?_)
        · exact absurd rfl h_35
        · refine r_sipush S dX12_mayDo_38 (by decide) ?_
          refine r_goto S dX12_mayDo_41 (tgt := 47) (by decide) ?_
          refine r_isub S dX12_mayDo_47 ?_
          refine r_istore S dX12_mayDo_48 rfl (by decide) (lv' := [_, _, _, _, _, _]) rfl ?_
          refine r_iload_n S dX12_mayDo_50 rfl ?_
          refine r_if_eq S dX12_mayDo_51 (tgt := 91) (by decide) (bP_R _) (fun h_51 => ?_) (fun h_51 => ?_)
          · rw [bP_z] at h_51
            refine r_iconst S dX12_mayDo_91 ?_
            refine r_num (z' := bP (MD R (83521 * kd + posQ c) lev c 3)) ?_ ?_
            · first
                | (rw [bP_f (fun hz => h_51 (MD_succ.mp hz).1)]; done)
                | (rw [bP_t (MD_succ.mpr ⟨h_51, Or.inl (show c.2.2.1 = 0 by omega)⟩)]; done)
                | (rw [bP_t (MD_succ.mpr ⟨h_51, Or.inr (show 0 < R ((83521 * kd + posQ c) - 289) ∧ R ((83521 * kd + posQ c) - 289) ≤ lev + 1 from ⟨by omega, by omega⟩)⟩)]; done)
                | (rw [bP_f (fun hz => by have h8 : c.2.2.1 = 0 ∨ (0 < R ((83521 * kd + posQ c) - 289) ∧ R ((83521 * kd + posQ c) - 289) ≤ lev + 1) := (MD_succ.mp hz).2; omega)]; done)
            refine r_istore_n S dX12_mayDo_92 rfl (by decide) (lv' := [_, _, _, _, _, _]) rfl ?_
            refine r_iinc S dX12_mayDo_93 rfl rfl (by decide) (lv' := [_, _, _, _, _, _]) rfl ?_
            refine r_goto S dX12_mayDo_96 (tgt := 5) (by decide) ?_
            refine V.mask [true, true, true, true, true, false] (lv' := [_, _, _, _, _, none]) rfl ?_
            exact s_md3 hM hR hRr hk hlv hc16 hC hct S
          · have h_51 := Classical.not_not.mp (fun h8 => h_51 ((bP_z _).mpr h8))
            refine r_aload_n S dX12_mayDo_54 rfl ?_
            refine r_getf S g_RX12_40_11 dX12_mayDo_55 (by repeat (first | assumption | exact sUp_same | exact sNew_same | refine sUp_ne (by first | assumption | omega) ?_)) rfl ?_
            refine r_iload S dX12_mayDo_58 rfl ?_
            refine r_ialdN S (2) dX12_mayDo_60 (by repeat (first | assumption | exact sUp_same | exact sNew_same | refine sUp_ne (by first | assumption | omega) ?_)) (by rfl) (by omega) (by decide) ?_
            rw [hctI]
            refine r_if_eq S dX12_mayDo_61 (tgt := 87) (by decide) ⟨by omega, by omega⟩ (fun h_61 => ?_) (fun h_61 => ?_)
            · refine r_iconst S dX12_mayDo_87 ?_
              refine r_goto S dX12_mayDo_88 (tgt := 92) (by decide) ?_
              refine r_num (z' := bP (MD R (83521 * kd + posQ c) lev c 3)) ?_ ?_
              · first
                  | (rw [bP_f (fun hz => h_51 (MD_succ.mp hz).1)]; done)
                  | (rw [bP_t (MD_succ.mpr ⟨h_51, Or.inl (show c.2.2.1 = 0 by omega)⟩)]; done)
                  | (rw [bP_t (MD_succ.mpr ⟨h_51, Or.inr (show 0 < R ((83521 * kd + posQ c) - 289) ∧ R ((83521 * kd + posQ c) - 289) ≤ lev + 1 from ⟨by omega, by omega⟩)⟩)]; done)
                  | (rw [bP_f (fun hz => by have h8 : c.2.2.1 = 0 ∨ (0 < R ((83521 * kd + posQ c) - 289) ∧ R ((83521 * kd + posQ c) - 289) ≤ lev + 1) := (MD_succ.mp hz).2; omega)]; done)
              refine r_istore_n S dX12_mayDo_92 rfl (by decide) (lv' := [_, _, _, _, _, _]) rfl ?_
              refine r_iinc S dX12_mayDo_93 rfl rfl (by decide) (lv' := [_, _, _, _, _, _]) rfl ?_
              refine r_goto S dX12_mayDo_96 (tgt := 5) (by decide) ?_
              refine V.mask [true, true, true, true, true, false] (lv' := [_, _, _, _, _, none]) rfl ?_
              exact s_md3 hM hR hRr hk hlv hc16 hC hct S
            · refine r_aload_n S dX12_mayDo_64 rfl ?_
              refine r_getf S g_RX12_24_11 dX12_mayDo_65 (by repeat (first | assumption | exact sUp_same | exact sNew_same | refine sUp_ne (by first | assumption | omega) ?_)) rfl ?_
              refine r_iload S dX12_mayDo_68 rfl ?_
              refine r_baldN S ((83521 * kd + posQ c) - 289) dX12_mayDo_70 (by repeat (first | assumption | exact sUp_same | exact sNew_same | refine sUp_ne (by first | assumption | omega) ?_)) (by omega) (by omega) (by decide) ?_
              refine r_if_le S dX12_mayDo_71 (tgt := 91) (by decide) ⟨by omega, by omega⟩ (fun h_71 => ?_) (fun h_71 => ?_)
              · refine r_iconst S dX12_mayDo_91 ?_
                refine r_num (z' := bP (MD R (83521 * kd + posQ c) lev c 3)) ?_ ?_
                · first
                    | (rw [bP_f (fun hz => h_51 (MD_succ.mp hz).1)]; done)
                    | (rw [bP_t (MD_succ.mpr ⟨h_51, Or.inl (show c.2.2.1 = 0 by omega)⟩)]; done)
                    | (rw [bP_t (MD_succ.mpr ⟨h_51, Or.inr (show 0 < R ((83521 * kd + posQ c) - 289) ∧ R ((83521 * kd + posQ c) - 289) ≤ lev + 1 from ⟨by omega, by omega⟩)⟩)]; done)
                    | (rw [bP_f (fun hz => by have h8 : c.2.2.1 = 0 ∨ (0 < R ((83521 * kd + posQ c) - 289) ∧ R ((83521 * kd + posQ c) - 289) ≤ lev + 1) := (MD_succ.mp hz).2; omega)]; done)
                refine r_istore_n S dX12_mayDo_92 rfl (by decide) (lv' := [_, _, _, _, _, _]) rfl ?_
                refine r_iinc S dX12_mayDo_93 rfl rfl (by decide) (lv' := [_, _, _, _, _, _]) rfl ?_
                refine r_goto S dX12_mayDo_96 (tgt := 5) (by decide) ?_
                refine V.mask [true, true, true, true, true, false] (lv' := [_, _, _, _, _, none]) rfl ?_
                exact s_md3 hM hR hRr hk hlv hc16 hC hct S
              · refine r_aload_n S dX12_mayDo_74 rfl ?_
                refine r_getf S g_RX12_24_11 dX12_mayDo_75 (by repeat (first | assumption | exact sUp_same | exact sNew_same | refine sUp_ne (by first | assumption | omega) ?_)) rfl ?_
                refine r_iload S dX12_mayDo_78 rfl ?_
                refine r_baldN S ((83521 * kd + posQ c) - 289) dX12_mayDo_80 (by repeat (first | assumption | exact sUp_same | exact sNew_same | refine sUp_ne (by first | assumption | omega) ?_)) (by omega) (by omega) (by decide) ?_
                refine r_iload_n S dX12_mayDo_81 rfl ?_
                refine r_iconst S dX12_mayDo_82 ?_
                refine r_iadd S dX12_mayDo_83 ?_
                refine r_icmp_gt S dX12_mayDo_84 (tgt := 91) (by decide) ⟨by omega, by omega⟩ ⟨by omega, by omega⟩ (fun h_84 => ?_) (fun h_84 => ?_)
                · refine r_iconst S dX12_mayDo_91 ?_
                  refine r_num (z' := bP (MD R (83521 * kd + posQ c) lev c 3)) ?_ ?_
                  · first
                      | (rw [bP_f (fun hz => h_51 (MD_succ.mp hz).1)]; done)
                      | (rw [bP_t (MD_succ.mpr ⟨h_51, Or.inl (show c.2.2.1 = 0 by omega)⟩)]; done)
                      | (rw [bP_t (MD_succ.mpr ⟨h_51, Or.inr (show 0 < R ((83521 * kd + posQ c) - 289) ∧ R ((83521 * kd + posQ c) - 289) ≤ lev + 1 from ⟨by omega, by omega⟩)⟩)]; done)
                      | (rw [bP_f (fun hz => by have h8 : c.2.2.1 = 0 ∨ (0 < R ((83521 * kd + posQ c) - 289) ∧ R ((83521 * kd + posQ c) - 289) ≤ lev + 1) := (MD_succ.mp hz).2; omega)]; done)
                  refine r_istore_n S dX12_mayDo_92 rfl (by decide) (lv' := [_, _, _, _, _, _]) rfl ?_
                  refine r_iinc S dX12_mayDo_93 rfl rfl (by decide) (lv' := [_, _, _, _, _, _]) rfl ?_
                  refine r_goto S dX12_mayDo_96 (tgt := 5) (by decide) ?_
                  refine V.mask [true, true, true, true, true, false] (lv' := [_, _, _, _, _, none]) rfl ?_
                  exact s_md3 hM hR hRr hk hlv hc16 hC hct S
                · refine r_iconst S dX12_mayDo_87 ?_
                  refine r_goto S dX12_mayDo_88 (tgt := 92) (by decide) ?_
                  refine r_num (z' := bP (MD R (83521 * kd + posQ c) lev c 3)) ?_ ?_
                  · first
                      | (rw [bP_f (fun hz => h_51 (MD_succ.mp hz).1)]; done)
                      | (rw [bP_t (MD_succ.mpr ⟨h_51, Or.inl (show c.2.2.1 = 0 by omega)⟩)]; done)
                      | (rw [bP_t (MD_succ.mpr ⟨h_51, Or.inr (show 0 < R ((83521 * kd + posQ c) - 289) ∧ R ((83521 * kd + posQ c) - 289) ≤ lev + 1 from ⟨by omega, by omega⟩)⟩)]; done)
                      | (rw [bP_f (fun hz => by have h8 : c.2.2.1 = 0 ∨ (0 < R ((83521 * kd + posQ c) - 289) ∧ R ((83521 * kd + posQ c) - 289) ≤ lev + 1) := (MD_succ.mp hz).2; omega)]; done)
                  refine r_istore_n S dX12_mayDo_92 rfl (by decide) (lv' := [_, _, _, _, _, _]) rfl ?_
                  refine r_iinc S dX12_mayDo_93 rfl rfl (by decide) (lv' := [_, _, _, _, _, _]) rfl ?_
                  refine r_goto S dX12_mayDo_96 (tgt := 5) (by decide) ?_
                  refine V.mask [true, true, true, true, true, false] (lv' := [_, _, _, _, _, none]) rfl ?_
                  exact s_md3 hM hR hRr hk hlv hc16 hC hct S
      · exact absurd h_24 (by decide)
    · exact absurd h_14 (by decide)

set_option maxRecDepth 100000 in
set_option maxHeartbeats 4000000 in
theorem s_md1 {κ : Kx} {k : Cx} {σ : St} {hg n e an wt tb q tr sk sm kk0 : Int} (hM : σ.2 (cBase k + 14) = some (oModel k hg kk0 n e an wt tb q tr sk sm)) {R : Nat → Int} (hR : σ.2 (cBase k + 18) = some (eB k 250563 R)) (hRr : ∀ j, 0 ≤ R j ∧ R j ≤ 14) {kd : Nat} (hk : kd < 3) {lev : Int} (hlv : 0 ≤ lev ∧ lev ≤ 13) {c : Q4} (hc16 : c.1 + c.2.1 + c.2.2.1 + c.2.2.2 ≤ 16) {ct : Nat → Int} (hC : σ.2 (cBase k + 22) = some (eI k 4 ct)) (hct : ∀ j, j < 4 → ct j = (qat c j : Int)) (S : Ok κ k cX12_mayDo 6 RX12 (some .boolean) "mayDo" 1 0 0) : V κ k 6 0 0 (QR κ k (fun r σ' => ∃ v, r = some v ∧ (v = .int (iZ (bP (MD R (83521 * kd + posQ c) lev c 4))) ∧ σ' = σ)) 0 0) 5 [some (.ref (cBase k + 14)), some (.int (iZ (((83521 * kd + posQ c) : Nat) : Int))), some (.int (iZ lev)), some (.int (iZ (bP (MD R (83521 * kd + posQ c) lev c 1)))), some (.int (iZ (1 : Int))), none] [] σ := by
  have hctI : ct 1 = ((c.2.1 : Nat) : Int) := hct 1 (by decide)
  have hps : posQ c = c.1 + 17 * (c.2.1 + 17 * (c.2.2.1 + 17 * c.2.2.2)) := rfl
  have hRp := hRr ((83521 * kd + posQ c) - 17)
  refine r_iload S dX12_mayDo_5 rfl ?_
  refine r_iconst S dX12_mayDo_7 ?_
  refine r_icmp_ge S dX12_mayDo_8 (tgt := 99) (by decide) ⟨by omega, by omega⟩ ⟨by omega, by omega⟩ (fun h_8 => ?_) (fun h_8 => ?_)
  · omega
  · refine r_iload_n S dX12_mayDo_11 rfl ?_
    refine r_iload S dX12_mayDo_12 rfl ?_
    refine r_if_ne S dX12_mayDo_14 (tgt := 21) (by decide) ⟨by omega, by omega⟩ (fun h_14 => ?_) (fun h_14 => ?_)
    · refine r_iload S dX12_mayDo_21 rfl ?_
      refine r_iconst S dX12_mayDo_23 ?_
      refine r_icmp_ne S dX12_mayDo_24 (tgt := 32) (by decide) ⟨by omega, by omega⟩ ⟨by omega, by omega⟩ (fun h_24 => ?_) (fun h_24 => ?_)
      · exact absurd rfl h_24
      · refine r_bipush S dX12_mayDo_27 (by decide) ?_
        refine r_goto S dX12_mayDo_29 (tgt := 47) (by decide) ?_
        refine r_isub S dX12_mayDo_47 ?_
        refine r_istore S dX12_mayDo_48 rfl (by decide) (lv' := [_, _, _, _, _, _]) rfl ?_
        refine r_iload_n S dX12_mayDo_50 rfl ?_
        refine r_if_eq S dX12_mayDo_51 (tgt := 91) (by decide) (bP_R _) (fun h_51 => ?_) (fun h_51 => ?_)
        · rw [bP_z] at h_51
          refine r_iconst S dX12_mayDo_91 ?_
          refine r_num (z' := bP (MD R (83521 * kd + posQ c) lev c 2)) ?_ ?_
          · first
              | (rw [bP_f (fun hz => h_51 (MD_succ.mp hz).1)]; done)
              | (rw [bP_t (MD_succ.mpr ⟨h_51, Or.inl (show c.2.1 = 0 by omega)⟩)]; done)
              | (rw [bP_t (MD_succ.mpr ⟨h_51, Or.inr (show 0 < R ((83521 * kd + posQ c) - 17) ∧ R ((83521 * kd + posQ c) - 17) ≤ lev + 1 from ⟨by omega, by omega⟩)⟩)]; done)
              | (rw [bP_f (fun hz => by have h8 : c.2.1 = 0 ∨ (0 < R ((83521 * kd + posQ c) - 17) ∧ R ((83521 * kd + posQ c) - 17) ≤ lev + 1) := (MD_succ.mp hz).2; omega)]; done)
          refine r_istore_n S dX12_mayDo_92 rfl (by decide) (lv' := [_, _, _, _, _, _]) rfl ?_
          refine r_iinc S dX12_mayDo_93 rfl rfl (by decide) (lv' := [_, _, _, _, _, _]) rfl ?_
          refine r_goto S dX12_mayDo_96 (tgt := 5) (by decide) ?_
          refine V.mask [true, true, true, true, true, false] (lv' := [_, _, _, _, _, none]) rfl ?_
          exact s_md2 hM hR hRr hk hlv hc16 hC hct S
        · have h_51 := Classical.not_not.mp (fun h8 => h_51 ((bP_z _).mpr h8))
          refine r_aload_n S dX12_mayDo_54 rfl ?_
          refine r_getf S g_RX12_40_11 dX12_mayDo_55 (by repeat (first | assumption | exact sUp_same | exact sNew_same | refine sUp_ne (by first | assumption | omega) ?_)) rfl ?_
          refine r_iload S dX12_mayDo_58 rfl ?_
          refine r_ialdN S (1) dX12_mayDo_60 (by repeat (first | assumption | exact sUp_same | exact sNew_same | refine sUp_ne (by first | assumption | omega) ?_)) (by rfl) (by omega) (by decide) ?_
          rw [hctI]
          refine r_if_eq S dX12_mayDo_61 (tgt := 87) (by decide) ⟨by omega, by omega⟩ (fun h_61 => ?_) (fun h_61 => ?_)
          · refine r_iconst S dX12_mayDo_87 ?_
            refine r_goto S dX12_mayDo_88 (tgt := 92) (by decide) ?_
            refine r_num (z' := bP (MD R (83521 * kd + posQ c) lev c 2)) ?_ ?_
            · first
                | (rw [bP_f (fun hz => h_51 (MD_succ.mp hz).1)]; done)
                | (rw [bP_t (MD_succ.mpr ⟨h_51, Or.inl (show c.2.1 = 0 by omega)⟩)]; done)
                | (rw [bP_t (MD_succ.mpr ⟨h_51, Or.inr (show 0 < R ((83521 * kd + posQ c) - 17) ∧ R ((83521 * kd + posQ c) - 17) ≤ lev + 1 from ⟨by omega, by omega⟩)⟩)]; done)
                | (rw [bP_f (fun hz => by have h8 : c.2.1 = 0 ∨ (0 < R ((83521 * kd + posQ c) - 17) ∧ R ((83521 * kd + posQ c) - 17) ≤ lev + 1) := (MD_succ.mp hz).2; omega)]; done)
            refine r_istore_n S dX12_mayDo_92 rfl (by decide) (lv' := [_, _, _, _, _, _]) rfl ?_
            refine r_iinc S dX12_mayDo_93 rfl rfl (by decide) (lv' := [_, _, _, _, _, _]) rfl ?_
            refine r_goto S dX12_mayDo_96 (tgt := 5) (by decide) ?_
            refine V.mask [true, true, true, true, true, false] (lv' := [_, _, _, _, _, none]) rfl ?_
            exact s_md2 hM hR hRr hk hlv hc16 hC hct S
          · refine r_aload_n S dX12_mayDo_64 rfl ?_
            refine r_getf S g_RX12_24_11 dX12_mayDo_65 (by repeat (first | assumption | exact sUp_same | exact sNew_same | refine sUp_ne (by first | assumption | omega) ?_)) rfl ?_
            refine r_iload S dX12_mayDo_68 rfl ?_
            refine r_baldN S ((83521 * kd + posQ c) - 17) dX12_mayDo_70 (by repeat (first | assumption | exact sUp_same | exact sNew_same | refine sUp_ne (by first | assumption | omega) ?_)) (by omega) (by omega) (by decide) ?_
            refine r_if_le S dX12_mayDo_71 (tgt := 91) (by decide) ⟨by omega, by omega⟩ (fun h_71 => ?_) (fun h_71 => ?_)
            · refine r_iconst S dX12_mayDo_91 ?_
              refine r_num (z' := bP (MD R (83521 * kd + posQ c) lev c 2)) ?_ ?_
              · first
                  | (rw [bP_f (fun hz => h_51 (MD_succ.mp hz).1)]; done)
                  | (rw [bP_t (MD_succ.mpr ⟨h_51, Or.inl (show c.2.1 = 0 by omega)⟩)]; done)
                  | (rw [bP_t (MD_succ.mpr ⟨h_51, Or.inr (show 0 < R ((83521 * kd + posQ c) - 17) ∧ R ((83521 * kd + posQ c) - 17) ≤ lev + 1 from ⟨by omega, by omega⟩)⟩)]; done)
                  | (rw [bP_f (fun hz => by have h8 : c.2.1 = 0 ∨ (0 < R ((83521 * kd + posQ c) - 17) ∧ R ((83521 * kd + posQ c) - 17) ≤ lev + 1) := (MD_succ.mp hz).2; omega)]; done)
              refine r_istore_n S dX12_mayDo_92 rfl (by decide) (lv' := [_, _, _, _, _, _]) rfl ?_
              refine r_iinc S dX12_mayDo_93 rfl rfl (by decide) (lv' := [_, _, _, _, _, _]) rfl ?_
              refine r_goto S dX12_mayDo_96 (tgt := 5) (by decide) ?_
              refine V.mask [true, true, true, true, true, false] (lv' := [_, _, _, _, _, none]) rfl ?_
              exact s_md2 hM hR hRr hk hlv hc16 hC hct S
            · refine r_aload_n S dX12_mayDo_74 rfl ?_
              refine r_getf S g_RX12_24_11 dX12_mayDo_75 (by repeat (first | assumption | exact sUp_same | exact sNew_same | refine sUp_ne (by first | assumption | omega) ?_)) rfl ?_
              refine r_iload S dX12_mayDo_78 rfl ?_
              refine r_baldN S ((83521 * kd + posQ c) - 17) dX12_mayDo_80 (by repeat (first | assumption | exact sUp_same | exact sNew_same | refine sUp_ne (by first | assumption | omega) ?_)) (by omega) (by omega) (by decide) ?_
              refine r_iload_n S dX12_mayDo_81 rfl ?_
              refine r_iconst S dX12_mayDo_82 ?_
              refine r_iadd S dX12_mayDo_83 ?_
              refine r_icmp_gt S dX12_mayDo_84 (tgt := 91) (by decide) ⟨by omega, by omega⟩ ⟨by omega, by omega⟩ (fun h_84 => ?_) (fun h_84 => ?_)
              · refine r_iconst S dX12_mayDo_91 ?_
                refine r_num (z' := bP (MD R (83521 * kd + posQ c) lev c 2)) ?_ ?_
                · first
                    | (rw [bP_f (fun hz => h_51 (MD_succ.mp hz).1)]; done)
                    | (rw [bP_t (MD_succ.mpr ⟨h_51, Or.inl (show c.2.1 = 0 by omega)⟩)]; done)
                    | (rw [bP_t (MD_succ.mpr ⟨h_51, Or.inr (show 0 < R ((83521 * kd + posQ c) - 17) ∧ R ((83521 * kd + posQ c) - 17) ≤ lev + 1 from ⟨by omega, by omega⟩)⟩)]; done)
                    | (rw [bP_f (fun hz => by have h8 : c.2.1 = 0 ∨ (0 < R ((83521 * kd + posQ c) - 17) ∧ R ((83521 * kd + posQ c) - 17) ≤ lev + 1) := (MD_succ.mp hz).2; omega)]; done)
                refine r_istore_n S dX12_mayDo_92 rfl (by decide) (lv' := [_, _, _, _, _, _]) rfl ?_
                refine r_iinc S dX12_mayDo_93 rfl rfl (by decide) (lv' := [_, _, _, _, _, _]) rfl ?_
                refine r_goto S dX12_mayDo_96 (tgt := 5) (by decide) ?_
                refine V.mask [true, true, true, true, true, false] (lv' := [_, _, _, _, _, none]) rfl ?_
                exact s_md2 hM hR hRr hk hlv hc16 hC hct S
              · refine r_iconst S dX12_mayDo_87 ?_
                refine r_goto S dX12_mayDo_88 (tgt := 92) (by decide) ?_
                refine r_num (z' := bP (MD R (83521 * kd + posQ c) lev c 2)) ?_ ?_
                · first
                    | (rw [bP_f (fun hz => h_51 (MD_succ.mp hz).1)]; done)
                    | (rw [bP_t (MD_succ.mpr ⟨h_51, Or.inl (show c.2.1 = 0 by omega)⟩)]; done)
                    | (rw [bP_t (MD_succ.mpr ⟨h_51, Or.inr (show 0 < R ((83521 * kd + posQ c) - 17) ∧ R ((83521 * kd + posQ c) - 17) ≤ lev + 1 from ⟨by omega, by omega⟩)⟩)]; done)
                    | (rw [bP_f (fun hz => by have h8 : c.2.1 = 0 ∨ (0 < R ((83521 * kd + posQ c) - 17) ∧ R ((83521 * kd + posQ c) - 17) ≤ lev + 1) := (MD_succ.mp hz).2; omega)]; done)
                refine r_istore_n S dX12_mayDo_92 rfl (by decide) (lv' := [_, _, _, _, _, _]) rfl ?_
                refine r_iinc S dX12_mayDo_93 rfl rfl (by decide) (lv' := [_, _, _, _, _, _]) rfl ?_
                refine r_goto S dX12_mayDo_96 (tgt := 5) (by decide) ?_
                refine V.mask [true, true, true, true, true, false] (lv' := [_, _, _, _, _, none]) rfl ?_
                exact s_md2 hM hR hRr hk hlv hc16 hC hct S
    · exact absurd h_14 (by decide)

set_option maxRecDepth 100000 in
set_option maxHeartbeats 4000000 in
theorem s_md0 {κ : Kx} {k : Cx} {σ : St} {hg n e an wt tb q tr sk sm kk0 : Int} (hM : σ.2 (cBase k + 14) = some (oModel k hg kk0 n e an wt tb q tr sk sm)) {R : Nat → Int} (hR : σ.2 (cBase k + 18) = some (eB k 250563 R)) (hRr : ∀ j, 0 ≤ R j ∧ R j ≤ 14) {kd : Nat} (hk : kd < 3) {lev : Int} (hlv : 0 ≤ lev ∧ lev ≤ 13) {c : Q4} (hc16 : c.1 + c.2.1 + c.2.2.1 + c.2.2.2 ≤ 16) {ct : Nat → Int} (hC : σ.2 (cBase k + 22) = some (eI k 4 ct)) (hct : ∀ j, j < 4 → ct j = (qat c j : Int)) (S : Ok κ k cX12_mayDo 6 RX12 (some .boolean) "mayDo" 1 0 0) : V κ k 6 0 0 (QR κ k (fun r σ' => ∃ v, r = some v ∧ (v = .int (iZ (bP (MD R (83521 * kd + posQ c) lev c 4))) ∧ σ' = σ)) 0 0) 5 [some (.ref (cBase k + 14)), some (.int (iZ (((83521 * kd + posQ c) : Nat) : Int))), some (.int (iZ lev)), some (.int (iZ (bP (MD R (83521 * kd + posQ c) lev c 0)))), some (.int (iZ (0 : Int))), none] [] σ := by
  have hctI : ct 0 = ((c.1 : Nat) : Int) := hct 0 (by decide)
  have hps : posQ c = c.1 + 17 * (c.2.1 + 17 * (c.2.2.1 + 17 * c.2.2.2)) := rfl
  have hRp := hRr ((83521 * kd + posQ c) - 1)
  refine r_iload S dX12_mayDo_5 rfl ?_
  refine r_iconst S dX12_mayDo_7 ?_
  refine r_icmp_ge S dX12_mayDo_8 (tgt := 99) (by decide) ⟨by omega, by omega⟩ ⟨by omega, by omega⟩ (fun h_8 => ?_) (fun h_8 => ?_)
  · omega
  · refine r_iload_n S dX12_mayDo_11 rfl ?_
    refine r_iload S dX12_mayDo_12 rfl ?_
    refine r_if_ne S dX12_mayDo_14 (tgt := 21) (by decide) ⟨by omega, by omega⟩ (fun h_14 => ?_) (fun h_14 => ?_)
    · exact absurd rfl h_14
    · refine r_iconst S dX12_mayDo_17 ?_
      refine r_goto S dX12_mayDo_18 (tgt := 47) (by decide) ?_
      refine r_isub S dX12_mayDo_47 ?_
      refine r_istore S dX12_mayDo_48 rfl (by decide) (lv' := [_, _, _, _, _, _]) rfl ?_
      refine r_iload_n S dX12_mayDo_50 rfl ?_
      refine r_if_eq S dX12_mayDo_51 (tgt := 91) (by decide) (bP_R _) (fun h_51 => ?_) (fun h_51 => ?_)
      · rw [bP_z] at h_51
        refine r_iconst S dX12_mayDo_91 ?_
        refine r_num (z' := bP (MD R (83521 * kd + posQ c) lev c 1)) ?_ ?_
        · first
            | (rw [bP_f (fun hz => h_51 (MD_succ.mp hz).1)]; done)
            | (rw [bP_t (MD_succ.mpr ⟨h_51, Or.inl (show c.1 = 0 by omega)⟩)]; done)
            | (rw [bP_t (MD_succ.mpr ⟨h_51, Or.inr (show 0 < R ((83521 * kd + posQ c) - 1) ∧ R ((83521 * kd + posQ c) - 1) ≤ lev + 1 from ⟨by omega, by omega⟩)⟩)]; done)
            | (rw [bP_f (fun hz => by have h8 : c.1 = 0 ∨ (0 < R ((83521 * kd + posQ c) - 1) ∧ R ((83521 * kd + posQ c) - 1) ≤ lev + 1) := (MD_succ.mp hz).2; omega)]; done)
        refine r_istore_n S dX12_mayDo_92 rfl (by decide) (lv' := [_, _, _, _, _, _]) rfl ?_
        refine r_iinc S dX12_mayDo_93 rfl rfl (by decide) (lv' := [_, _, _, _, _, _]) rfl ?_
        refine r_goto S dX12_mayDo_96 (tgt := 5) (by decide) ?_
        refine V.mask [true, true, true, true, true, false] (lv' := [_, _, _, _, _, none]) rfl ?_
        exact s_md1 hM hR hRr hk hlv hc16 hC hct S
      · have h_51 := Classical.not_not.mp (fun h8 => h_51 ((bP_z _).mpr h8))
        refine r_aload_n S dX12_mayDo_54 rfl ?_
        refine r_getf S g_RX12_40_11 dX12_mayDo_55 (by repeat (first | assumption | exact sUp_same | exact sNew_same | refine sUp_ne (by first | assumption | omega) ?_)) rfl ?_
        refine r_iload S dX12_mayDo_58 rfl ?_
        refine r_ialdN S (0) dX12_mayDo_60 (by repeat (first | assumption | exact sUp_same | exact sNew_same | refine sUp_ne (by first | assumption | omega) ?_)) (by rfl) (by omega) (by decide) ?_
        rw [hctI]
        refine r_if_eq S dX12_mayDo_61 (tgt := 87) (by decide) ⟨by omega, by omega⟩ (fun h_61 => ?_) (fun h_61 => ?_)
        · refine r_iconst S dX12_mayDo_87 ?_
          refine r_goto S dX12_mayDo_88 (tgt := 92) (by decide) ?_
          refine r_num (z' := bP (MD R (83521 * kd + posQ c) lev c 1)) ?_ ?_
          · first
              | (rw [bP_f (fun hz => h_51 (MD_succ.mp hz).1)]; done)
              | (rw [bP_t (MD_succ.mpr ⟨h_51, Or.inl (show c.1 = 0 by omega)⟩)]; done)
              | (rw [bP_t (MD_succ.mpr ⟨h_51, Or.inr (show 0 < R ((83521 * kd + posQ c) - 1) ∧ R ((83521 * kd + posQ c) - 1) ≤ lev + 1 from ⟨by omega, by omega⟩)⟩)]; done)
              | (rw [bP_f (fun hz => by have h8 : c.1 = 0 ∨ (0 < R ((83521 * kd + posQ c) - 1) ∧ R ((83521 * kd + posQ c) - 1) ≤ lev + 1) := (MD_succ.mp hz).2; omega)]; done)
          refine r_istore_n S dX12_mayDo_92 rfl (by decide) (lv' := [_, _, _, _, _, _]) rfl ?_
          refine r_iinc S dX12_mayDo_93 rfl rfl (by decide) (lv' := [_, _, _, _, _, _]) rfl ?_
          refine r_goto S dX12_mayDo_96 (tgt := 5) (by decide) ?_
          refine V.mask [true, true, true, true, true, false] (lv' := [_, _, _, _, _, none]) rfl ?_
          exact s_md1 hM hR hRr hk hlv hc16 hC hct S
        · refine r_aload_n S dX12_mayDo_64 rfl ?_
          refine r_getf S g_RX12_24_11 dX12_mayDo_65 (by repeat (first | assumption | exact sUp_same | exact sNew_same | refine sUp_ne (by first | assumption | omega) ?_)) rfl ?_
          refine r_iload S dX12_mayDo_68 rfl ?_
          refine r_baldN S ((83521 * kd + posQ c) - 1) dX12_mayDo_70 (by repeat (first | assumption | exact sUp_same | exact sNew_same | refine sUp_ne (by first | assumption | omega) ?_)) (by omega) (by omega) (by decide) ?_
          refine r_if_le S dX12_mayDo_71 (tgt := 91) (by decide) ⟨by omega, by omega⟩ (fun h_71 => ?_) (fun h_71 => ?_)
          · refine r_iconst S dX12_mayDo_91 ?_
            refine r_num (z' := bP (MD R (83521 * kd + posQ c) lev c 1)) ?_ ?_
            · first
                | (rw [bP_f (fun hz => h_51 (MD_succ.mp hz).1)]; done)
                | (rw [bP_t (MD_succ.mpr ⟨h_51, Or.inl (show c.1 = 0 by omega)⟩)]; done)
                | (rw [bP_t (MD_succ.mpr ⟨h_51, Or.inr (show 0 < R ((83521 * kd + posQ c) - 1) ∧ R ((83521 * kd + posQ c) - 1) ≤ lev + 1 from ⟨by omega, by omega⟩)⟩)]; done)
                | (rw [bP_f (fun hz => by have h8 : c.1 = 0 ∨ (0 < R ((83521 * kd + posQ c) - 1) ∧ R ((83521 * kd + posQ c) - 1) ≤ lev + 1) := (MD_succ.mp hz).2; omega)]; done)
            refine r_istore_n S dX12_mayDo_92 rfl (by decide) (lv' := [_, _, _, _, _, _]) rfl ?_
            refine r_iinc S dX12_mayDo_93 rfl rfl (by decide) (lv' := [_, _, _, _, _, _]) rfl ?_
            refine r_goto S dX12_mayDo_96 (tgt := 5) (by decide) ?_
            refine V.mask [true, true, true, true, true, false] (lv' := [_, _, _, _, _, none]) rfl ?_
            exact s_md1 hM hR hRr hk hlv hc16 hC hct S
          · refine r_aload_n S dX12_mayDo_74 rfl ?_
            refine r_getf S g_RX12_24_11 dX12_mayDo_75 (by repeat (first | assumption | exact sUp_same | exact sNew_same | refine sUp_ne (by first | assumption | omega) ?_)) rfl ?_
            refine r_iload S dX12_mayDo_78 rfl ?_
            refine r_baldN S ((83521 * kd + posQ c) - 1) dX12_mayDo_80 (by repeat (first | assumption | exact sUp_same | exact sNew_same | refine sUp_ne (by first | assumption | omega) ?_)) (by omega) (by omega) (by decide) ?_
            refine r_iload_n S dX12_mayDo_81 rfl ?_
            refine r_iconst S dX12_mayDo_82 ?_
            refine r_iadd S dX12_mayDo_83 ?_
            refine r_icmp_gt S dX12_mayDo_84 (tgt := 91) (by decide) ⟨by omega, by omega⟩ ⟨by omega, by omega⟩ (fun h_84 => ?_) (fun h_84 => ?_)
            · refine r_iconst S dX12_mayDo_91 ?_
              refine r_num (z' := bP (MD R (83521 * kd + posQ c) lev c 1)) ?_ ?_
              · first
                  | (rw [bP_f (fun hz => h_51 (MD_succ.mp hz).1)]; done)
                  | (rw [bP_t (MD_succ.mpr ⟨h_51, Or.inl (show c.1 = 0 by omega)⟩)]; done)
                  | (rw [bP_t (MD_succ.mpr ⟨h_51, Or.inr (show 0 < R ((83521 * kd + posQ c) - 1) ∧ R ((83521 * kd + posQ c) - 1) ≤ lev + 1 from ⟨by omega, by omega⟩)⟩)]; done)
                  | (rw [bP_f (fun hz => by have h8 : c.1 = 0 ∨ (0 < R ((83521 * kd + posQ c) - 1) ∧ R ((83521 * kd + posQ c) - 1) ≤ lev + 1) := (MD_succ.mp hz).2; omega)]; done)
              refine r_istore_n S dX12_mayDo_92 rfl (by decide) (lv' := [_, _, _, _, _, _]) rfl ?_
              refine r_iinc S dX12_mayDo_93 rfl rfl (by decide) (lv' := [_, _, _, _, _, _]) rfl ?_
              refine r_goto S dX12_mayDo_96 (tgt := 5) (by decide) ?_
              refine V.mask [true, true, true, true, true, false] (lv' := [_, _, _, _, _, none]) rfl ?_
              exact s_md1 hM hR hRr hk hlv hc16 hC hct S
            · refine r_iconst S dX12_mayDo_87 ?_
              refine r_goto S dX12_mayDo_88 (tgt := 92) (by decide) ?_
              refine r_num (z' := bP (MD R (83521 * kd + posQ c) lev c 1)) ?_ ?_
              · first
                  | (rw [bP_f (fun hz => h_51 (MD_succ.mp hz).1)]; done)
                  | (rw [bP_t (MD_succ.mpr ⟨h_51, Or.inl (show c.1 = 0 by omega)⟩)]; done)
                  | (rw [bP_t (MD_succ.mpr ⟨h_51, Or.inr (show 0 < R ((83521 * kd + posQ c) - 1) ∧ R ((83521 * kd + posQ c) - 1) ≤ lev + 1 from ⟨by omega, by omega⟩)⟩)]; done)
                  | (rw [bP_f (fun hz => by have h8 : c.1 = 0 ∨ (0 < R ((83521 * kd + posQ c) - 1) ∧ R ((83521 * kd + posQ c) - 1) ≤ lev + 1) := (MD_succ.mp hz).2; omega)]; done)
              refine r_istore_n S dX12_mayDo_92 rfl (by decide) (lv' := [_, _, _, _, _, _]) rfl ?_
              refine r_iinc S dX12_mayDo_93 rfl rfl (by decide) (lv' := [_, _, _, _, _, _]) rfl ?_
              refine r_goto S dX12_mayDo_96 (tgt := 5) (by decide) ?_
              refine V.mask [true, true, true, true, true, false] (lv' := [_, _, _, _, _, none]) rfl ?_
              exact s_md1 hM hR hRr hk hlv hc16 hC hct S

set_option maxRecDepth 100000 in
set_option maxHeartbeats 4000000 in
theorem c_mayDo {k : Cx} {L0 : Launch} {σ : St} {hg n e an wt tb q tr sk sm kk0 : Int} (hM : σ.2 (cBase k + 14) = some (oModel k hg kk0 n e an wt tb q tr sk sm)) {R : Nat → Int} (hR : σ.2 (cBase k + 18) = some (eB k 250563 R)) (hRr : ∀ j, 0 ≤ R j ∧ R j ≤ 14) {kd : Nat} (hk : kd < 3) {lev : Int} (hlv : 0 ≤ lev ∧ lev ≤ 13) {c : Q4} (hc16 : c.1 + c.2.1 + c.2.2.1 + c.2.2.2 ≤ 16) {ct : Nat → Int} (hC : σ.2 (cBase k + 22) = some (eI k 4 ct)) (hct : ∀ j, j < 4 → ct j = (qat c j : Int)) : CtrV k L0 mX12_mayDo 1 0 0 [.ref (cBase k + 14), .int (iZ (((83521 * kd + posQ c) : Nat) : Int)), .int (iZ lev)] σ (fun v σ' => v = .int (iZ (bP (MD R (83521 * kd + posQ c) lev c 4))) ∧ σ' = σ) := by
  refine Ctr.of (by decide +kernel) rfl (Nat.le_of_ble_eq_true rfl) ?_
  intro κ hl0 S
  subst hl0
  refine r_iconst S dX12_mayDo_0 ?_
  refine r_istore_n S dX12_mayDo_1 rfl (by decide) (lv' := [_, _, _, _, _, _]) rfl ?_
  refine r_iconst S dX12_mayDo_2 ?_
  refine r_istore S dX12_mayDo_3 rfl (by decide) (lv' := [_, _, _, _, _, _]) rfl ?_
  have h9 := s_md0 hM hR hRr hk hlv hc16 hC hct S
  rw [bP_t (show MD R (83521 * kd + posQ c) lev c 0 from fun _ h8 => absurd h8 (by omega))] at h9
  exact h9
