/-- the reference's cells while a level is filled: row, heap, beside, counts may change -/
def LvS (k : Cx) (σ σc : St) (R : Nat → Int) : Prop := σc.2 (cBase k + 18) = some (eB k 250563 R) ∧ (∃ hp : Nat → Int, σc.2 (cBase k + 20) = some (eI k 4 hp)) ∧ (∃ bd : Nat → Int, σc.2 (cBase k + 21) = some (eI k 4 bd)) ∧ (∃ ct : Nat → Int, σc.2 (cBase k + 22) = some (eI k 4 ct)) ∧ σc.1 = σ.1 ∧ ∀ a, a ≠ cBase k + 18 → a ≠ cBase k + 20 → a ≠ cBase k + 21 → a ≠ cBase k + 22 → σc.2 a = σ.2 a
set_option maxRecDepth 100000 in
set_option maxHeartbeats 4000000 in
theorem s_lev {κ : Kx} {k : Cx} {σ : St} {Q : State → Prop} {hg n e an wt tb q tr sk sm kk0 : Int} (hM : σ.2 (cBase k + 14) = some (oModel k hg kk0 n e an wt tb q tr sk sm)) {kd lev : Nat} (hk : kd < 3) (hlv : 1 ≤ lev ∧ lev ≤ 13) {m : Q4} (hm16 : m.1 ≤ 16) {R0 : Nat → Int} {a b c d : Nat} (hdom : leQ (cumQ (a, b, c, d)) m) (kk : ∀ (σc : St) (R : Nat → Int), LvS k σ σc R → LvI R0 R kd lev m d c b (a + 1) → V κ k 9 0 0 Q 204 [some (.ref (cBase k + 14)), some (.int (iZ (kd : Int))), some (.int (iZ (lev : Int))), some (.int (iZ (d : Int))), some (.int (iZ (c : Int))), some (.int (iZ (b : Int))), some (.int (iZ (a : Int))), none, none] [] σc) (S : Ok κ k cX12_levels 9 RX12 none "levels" 4 0 0) : ∀ (σc : St) (R : Nat → Int), LvS k σ σc R → LvI R0 R kd lev m d c b a → V κ k 9 0 0 Q 69 [some (.ref (cBase k + 14)), some (.int (iZ (kd : Int))), some (.int (iZ (lev : Int))), some (.int (iZ (d : Int))), some (.int (iZ (c : Int))), some (.int (iZ (b : Int))), some (.int (iZ (a : Int))), none, none] [] σc := by
  intro σc R hls hinv
  obtain ⟨hRc, ⟨hp0, hHc⟩, ⟨bd0, hBc⟩, ⟨ct, hCc⟩, hsz, hfr⟩ := id hls
  obtain ⟨h1, h2, h3, h4, h5⟩ := id hinv
  have hMc := (hfr (cBase k + 14) (by omega) (by omega) (by omega) (by omega)).trans hM
  have ht16 : a + b + c + d ≤ 16 := by have := hdom.1; rw [tot_cum] at this; simp only [tot] at this; omega
  have hpl := pos_lt16 (x := (a, b, c, d)) (by simp only [tot]; omega)
  have hRp := h1 (83521 * kd + posQ (a, b, c, d))
  refine r_ldc S (n := 83521) (by exact wd_734) dX12_levels_69 ?_
  refine r_iload_n S dX12_levels_71 rfl ?_
  refine r_imul S dX12_levels_72 ?_
  refine r_iload S dX12_levels_73 rfl ?_
  refine r_iload S dX12_levels_75 rfl ?_
  refine r_iload S dX12_levels_77 rfl ?_
  refine r_iload_n S dX12_levels_79 rfl ?_
  refine r_callS S (c_place) k_mX12_place c_RX12_77 dX12_levels_80 (by decide) ⟨by omega, by omega⟩ rfl rfl (Nat.le_of_ble_eq_true rfl) (fun r σ' hp => ?_)
  obtain ⟨_, rfl, rfl, rfl⟩ := hp
  try simp only [Option.toList_some, Option.toList_none, List.cons_append, List.nil_append]
  refine r_iadd S dX12_levels_83 ?_
  refine r_num (z' := (((83521 * kd + posQ (a, b, c, d)) : Nat) : Int)) (by omega) ?_
  refine r_istore S dX12_levels_84 rfl (by decide) (lv' := [_, _, _, _, _, _, _, _, _]) rfl ?_
  refine r_aload_n S dX12_levels_86 rfl ?_
  refine r_getf S g_RX12_24_11 dX12_levels_87 (by repeat (first | assumption | exact sUp_same | exact sNew_same | refine sUp_ne (by first | assumption | omega) ?_)) rfl ?_
  refine r_iload S dX12_levels_90 rfl ?_
  refine r_baldN S ((83521 * kd + posQ (a, b, c, d))) dX12_levels_92 (by repeat (first | assumption | exact sUp_same | exact sNew_same | refine sUp_ne (by first | assumption | omega) ?_)) (by omega) (by omega) (by decide) ?_
  refine r_if_ne S dX12_levels_93 (tgt := 204) (by decide) ⟨by omega, by omega⟩ (fun h_93 => ?_) (fun h_93 => ?_)
  · refine V.mask [true, true, true, true, true, true, true, false, false] (lv' := [_, _, _, _, _, _, _, none, none]) rfl ?_
    exact kk _ R hls (LvI_skip hinv (fun _ _ _ => h_93))
  · refine r_iload S dX12_levels_96 rfl ?_
    refine r_iload S dX12_levels_98 rfl ?_
    refine r_iadd S dX12_levels_100 ?_
    refine r_iload S dX12_levels_101 rfl ?_
    refine r_iadd S dX12_levels_103 ?_
    refine r_iload_n S dX12_levels_104 rfl ?_
    refine r_iadd S dX12_levels_105 ?_
    refine r_iconst S dX12_levels_106 ?_
    refine r_icmp_le S dX12_levels_107 (tgt := 204) (by decide) ⟨by omega, by omega⟩ ⟨by omega, by omega⟩ (fun h_107 => ?_) (fun h_107 => ?_)
    · refine V.mask [true, true, true, true, true, true, true, false, false] (lv' := [_, _, _, _, _, _, _, none, none]) rfl ?_
      refine kk _ R hls (LvI_skip hinv (fun h7 h8 _ => ?_))
      exact h3 (a, b, c, d) h8 h7 (can_le (Nat.zero_le _) (show (cumQ (a, b, c, d)).1 ≤ 1 by rw [tot_cum]; simp only [tot]; omega))
    · refine r_aload_n S dX12_levels_110 rfl ?_
      refine r_getf S g_RX12_40_11 dX12_levels_111 (by repeat (first | assumption | exact sUp_same | exact sNew_same | refine sUp_ne (by first | assumption | omega) ?_)) rfl ?_
      refine r_iconst S dX12_levels_114 ?_
      refine r_iload S dX12_levels_115 rfl ?_
      refine r_iastN S (0) dX12_levels_117 (by repeat (first | assumption | exact sUp_same | exact sNew_same | refine sUp_ne (by first | assumption | omega) ?_)) (by rfl) (by omega) (by decide) ?_
      try simp only [sUp_sUp]
      refine r_aload_n S dX12_levels_118 rfl ?_
      refine r_getf S g_RX12_40_11 dX12_levels_119 (by repeat (first | assumption | exact sUp_same | exact sNew_same | refine sUp_ne (by first | assumption | omega) ?_)) rfl ?_
      refine r_iconst S dX12_levels_122 ?_
      refine r_iload S dX12_levels_123 rfl ?_
      refine r_iastN S (1) dX12_levels_125 (by repeat (first | assumption | exact sUp_same | exact sNew_same | refine sUp_ne (by first | assumption | omega) ?_)) (by rfl) (by omega) (by decide) ?_
      try simp only [sUp_sUp]
      refine r_aload_n S dX12_levels_126 rfl ?_
      refine r_getf S g_RX12_40_11 dX12_levels_127 (by repeat (first | assumption | exact sUp_same | exact sNew_same | refine sUp_ne (by first | assumption | omega) ?_)) rfl ?_
      refine r_iconst S dX12_levels_130 ?_
      refine r_iload S dX12_levels_131 rfl ?_
      refine r_iastN S (2) dX12_levels_133 (by repeat (first | assumption | exact sUp_same | exact sNew_same | refine sUp_ne (by first | assumption | omega) ?_)) (by rfl) (by omega) (by decide) ?_
      try simp only [sUp_sUp]
      refine r_aload_n S dX12_levels_134 rfl ?_
      refine r_getf S g_RX12_40_11 dX12_levels_135 (by repeat (first | assumption | exact sUp_same | exact sNew_same | refine sUp_ne (by first | assumption | omega) ?_)) rfl ?_
      refine r_iconst S dX12_levels_138 ?_
      refine r_iload_n S dX12_levels_139 rfl ?_
      refine r_iastN S (3) dX12_levels_140 (by repeat (first | assumption | exact sUp_same | exact sNew_same | refine sUp_ne (by first | assumption | omega) ?_)) (by rfl) (by omega) (by decide) ?_
      try simp only [sUp_sUp]
      have hct : ∀ j, j < 4 → uZ (uZ (uZ (uZ ct 0 (a : Int)) 1 (b : Int)) 2 (c : Int)) 3 (d : Int) j = (qat (a, b, c, d) j : Int) := by
        intro j hj
        match j with
        | 0 => rfl
        | 1 => rfl
        | 2 => rfl
        | 3 => rfl
        | _ + 4 => omega
      refine r_iload_n S dX12_levels_141 rfl ?_
      refine r_bipush S dX12_levels_142 (by decide) ?_
      refine r_icmp_gt S dX12_levels_144 (tgt := 170) (by decide) ⟨by omega, by omega⟩ ⟨by omega, by omega⟩ (fun h_144 => ?_) (fun h_144 => ?_)
      · refine r_iconst S dX12_levels_170 ?_
        refine r_istore S dX12_levels_171 rfl (by decide) (lv' := [_, _, _, _, _, _, _, _, _]) rfl ?_
        refine r_aload_n S dX12_levels_173 rfl ?_
        refine r_getf S g_RX12_24_11 dX12_levels_174 (by repeat (first | assumption | exact sUp_same | exact sNew_same | refine sUp_ne (by first | assumption | omega) ?_)) rfl ?_
        refine r_iload S dX12_levels_177 rfl ?_
        refine r_iload S dX12_levels_179 rfl ?_
        refine r_if_eq S dX12_levels_181 (tgt := 191) (by decide) ⟨by omega, by omega⟩ (fun h_181 => ?_) (fun h_181 => ?_)
        · refine r_iload_n S dX12_levels_191 rfl ?_
          refine r_bipush S dX12_levels_192 (by decide) ?_
          refine r_icmp_le S dX12_levels_194 (tgt := 202) (by decide) ⟨by omega, by omega⟩ ⟨by omega, by omega⟩ (fun h_194 => ?_) (fun h_194 => ?_)
          · omega
          · refine r_bipush S dX12_levels_197 (by decide) ?_
            refine r_goto S dX12_levels_199 (tgt := 203) (by decide) ?_
            refine r_bastN S ((83521 * kd + posQ (a, b, c, d))) dX12_levels_203 (by repeat (first | assumption | exact sUp_same | exact sNew_same | refine sUp_ne (by first | assumption | omega) ?_)) (by omega) (by omega) (by decide) ((i2b_ok (l := 14) (by decide)).2) ?_
            refine V.mask [true, true, true, true, true, true, true, false, false] (lv' := [_, _, _, _, _, _, _, none, none]) rfl ?_
            refine kk _ _ ⟨sUp_same, ⟨_, (by repeat (first | assumption | exact sUp_same | exact UH_H | exact UH_B | refine UH_at (by omega) (by omega) ?_ | refine sUp_ne (by first | assumption | omega) ?_))⟩, ⟨_, (by repeat (first | assumption | exact sUp_same | exact UH_H | exact UH_B | refine UH_at (by omega) (by omega) ?_ | refine sUp_ne (by first | assumption | omega) ?_))⟩, ⟨_, (by repeat (first | assumption | exact sUp_same | exact UH_H | exact UH_B | refine UH_at (by omega) (by omega) ?_ | refine sUp_ne (by first | assumption | omega) ?_))⟩, hsz, (fun z h18 h20 h21 h22 => by first | exact hfr z h18 h20 h21 h22 | exact (if_neg h22).trans (hfr z h18 h20 h21 h22) | exact (if_neg h18).trans ((if_neg h22).trans (hfr z h18 h20 h21 h22)) | exact (if_neg h18).trans ((if_neg h21).trans ((if_neg h20).trans ((if_neg h22).trans (hfr z h18 h20 h21 h22)))))⟩ ?_
            have hl13 : lev = 13 := by omega
            have h9 := LvI_set (v := 13) hinv hm16 hdom h_93 (few_13 (fun hz => h3 (a, b, c, d) hdom (by simp only [tot]; omega) (by rw [hl13]; exact hz) h_93))
            exact h9
        · exact absurd rfl h_181
      · refine r_aload_n S dX12_levels_147 rfl ?_
        refine r_iload S dX12_levels_148 rfl ?_
        refine r_iload_n S dX12_levels_150 rfl ?_
        refine r_callV S (c_mayDo (c := (a, b, c, d)) (sUp_ne (by omega) hMc) (sUp_ne (by omega) hRc) h1 hk ⟨by omega, by omega⟩ ht16 sUp_same hct) k_mX12_mayDo c_RX12_81_11 dX12_levels_151 (by decide) ⟨by omega, by omega⟩ (by repeat (first | assumption | exact sUp_same | exact sNew_same | refine sUp_ne (by first | assumption | omega) ?_)) rfl rfl (Nat.le_of_ble_eq_true rfl) (fun r σ' hp => ?_)
        obtain ⟨_, rfl, rfl, rfl⟩ := hp
        try simp only [Option.toList_some, Option.toList_none, List.cons_append, List.nil_append]
        refine r_if_eq S dX12_levels_154 (tgt := 170) (by decide) (bP_R _) (fun h_154 => ?_) (fun h_154 => ?_)
        · rw [bP_z] at h_154
          refine r_iconst S dX12_levels_170 ?_
          refine r_istore S dX12_levels_171 rfl (by decide) (lv' := [_, _, _, _, _, _, _, _, _]) rfl ?_
          refine r_aload_n S dX12_levels_173 rfl ?_
          refine r_getf S g_RX12_24_11 dX12_levels_174 (by repeat (first | assumption | exact sUp_same | exact sNew_same | refine sUp_ne (by first | assumption | omega) ?_)) rfl ?_
          refine r_iload S dX12_levels_177 rfl ?_
          refine r_iload S dX12_levels_179 rfl ?_
          refine r_if_eq S dX12_levels_181 (tgt := 191) (by decide) ⟨by omega, by omega⟩ (fun h_181 => ?_) (fun h_181 => ?_)
          · refine r_iload_n S dX12_levels_191 rfl ?_
            refine r_bipush S dX12_levels_192 (by decide) ?_
            refine r_icmp_le S dX12_levels_194 (tgt := 202) (by decide) ⟨by omega, by omega⟩ ⟨by omega, by omega⟩ (fun h_194 => ?_) (fun h_194 => ?_)
            · refine r_iconst S dX12_levels_202 ?_
              refine r_bastN S ((83521 * kd + posQ (a, b, c, d))) dX12_levels_203 (by repeat (first | assumption | exact sUp_same | exact sNew_same | refine sUp_ne (by first | assumption | omega) ?_)) (by omega) (by omega) (by decide) ((i2b_ok (l := 0) (by decide)).2) ?_
              refine V.mask [true, true, true, true, true, true, true, false, false] (lv' := [_, _, _, _, _, _, _, none, none]) rfl ?_
              refine kk _ _ ⟨sUp_same, ⟨_, (by repeat (first | assumption | exact sUp_same | exact UH_H | exact UH_B | refine UH_at (by omega) (by omega) ?_ | refine sUp_ne (by first | assumption | omega) ?_))⟩, ⟨_, (by repeat (first | assumption | exact sUp_same | exact UH_H | exact UH_B | refine UH_at (by omega) (by omega) ?_ | refine sUp_ne (by first | assumption | omega) ?_))⟩, ⟨_, (by repeat (first | assumption | exact sUp_same | exact UH_H | exact UH_B | refine UH_at (by omega) (by omega) ?_ | refine sUp_ne (by first | assumption | omega) ?_))⟩, hsz, (fun z h18 h20 h21 h22 => by first | exact hfr z h18 h20 h21 h22 | exact (if_neg h22).trans (hfr z h18 h20 h21 h22) | exact (if_neg h18).trans ((if_neg h22).trans (hfr z h18 h20 h21 h22)) | exact (if_neg h18).trans ((if_neg h21).trans ((if_neg h20).trans ((if_neg h22).trans (hfr z h18 h20 h21 h22)))))⟩ ?_
              rw [uZ_self h_93]
              refine LvI_skip hinv (fun h7 h8 h9 => ?_)
              exfalso
              rcases h9 with h9 | h9
              · omega
              · exact h_154 (((step_iff hk h2 ⟨hlv.1, by omega⟩ h3 hdom hm16 (by simp only [tot]; omega) (fun j hj hq hc9 => h5 _ (leQ_trans (decJ_ok hj hq).2.2.1 hdom) (by have := (decJ_ok hj hq).2.2.2; simp only [tot] at this ⊢; omega) (decJ_bf hj hq) (Or.inr hc9))).mpr h9).1)
            · omega
          · exact absurd rfl h_181
        · have h_154 := Classical.not_not.mp (fun h8 => h_154 ((bP_z _).mpr h8))
          refine r_aload_n S dX12_levels_157 rfl ?_
          refine r_iload_n S dX12_levels_158 rfl ?_
          refine r_iload_n S dX12_levels_159 rfl ?_
          refine r_callV S (c_canDo (c := (a, b, c, d)) (sUp_ne (by omega) hMc) (sUp_ne (by omega) hRc) h1 hk ⟨by omega, by omega⟩ ht16 sUp_same hct (sUp_ne (by omega) hHc) (sUp_ne (by omega) hBc)) k_mX12_canDo c_RX12_85_11 dX12_levels_160 (by decide) ⟨by omega, by omega⟩ (by repeat (first | assumption | exact sUp_same | exact sNew_same | refine sUp_ne (by first | assumption | omega) ?_)) rfl rfl (Nat.le_of_ble_eq_true rfl) (fun r σ' hp => ?_)
          obtain ⟨_, rfl, rfl, hp2, bd2, rfl⟩ := hp
          try simp only [Option.toList_some, Option.toList_none, List.cons_append, List.nil_append]
          refine r_if_eq S dX12_levels_163 (tgt := 170) (by decide) (bP_R _) (fun h_163 => ?_) (fun h_163 => ?_)
          · rw [bP_z] at h_163
            refine r_iconst S dX12_levels_170 ?_
            refine r_istore S dX12_levels_171 rfl (by decide) (lv' := [_, _, _, _, _, _, _, _, _]) rfl ?_
            refine r_aload_n S dX12_levels_173 rfl ?_
            refine r_getf S g_RX12_24_11 dX12_levels_174 (by repeat (first | assumption | exact sUp_same | exact sNew_same | refine sUp_ne (by first | assumption | omega) ?_)) rfl ?_
            refine r_iload S dX12_levels_177 rfl ?_
            refine r_iload S dX12_levels_179 rfl ?_
            refine r_if_eq S dX12_levels_181 (tgt := 191) (by decide) ⟨by omega, by omega⟩ (fun h_181 => ?_) (fun h_181 => ?_)
            · refine r_iload_n S dX12_levels_191 rfl ?_
              refine r_bipush S dX12_levels_192 (by decide) ?_
              refine r_icmp_le S dX12_levels_194 (tgt := 202) (by decide) ⟨by omega, by omega⟩ ⟨by omega, by omega⟩ (fun h_194 => ?_) (fun h_194 => ?_)
              · refine r_iconst S dX12_levels_202 ?_
                refine r_bastN S ((83521 * kd + posQ (a, b, c, d))) dX12_levels_203 (by repeat (first | assumption | exact sUp_same | exact sNew_same | refine sUp_ne (by first | assumption | omega) ?_)) (by omega) (by omega) (by decide) ((i2b_ok (l := 0) (by decide)).2) ?_
                refine V.mask [true, true, true, true, true, true, true, false, false] (lv' := [_, _, _, _, _, _, _, none, none]) rfl ?_
                refine kk _ _ ⟨sUp_same, ⟨_, (by repeat (first | assumption | exact sUp_same | exact UH_H | exact UH_B | refine UH_at (by omega) (by omega) ?_ | refine sUp_ne (by first | assumption | omega) ?_))⟩, ⟨_, (by repeat (first | assumption | exact sUp_same | exact UH_H | exact UH_B | refine UH_at (by omega) (by omega) ?_ | refine sUp_ne (by first | assumption | omega) ?_))⟩, ⟨_, (by repeat (first | assumption | exact sUp_same | exact UH_H | exact UH_B | refine UH_at (by omega) (by omega) ?_ | refine sUp_ne (by first | assumption | omega) ?_))⟩, hsz, (fun z h18 h20 h21 h22 => by first | exact hfr z h18 h20 h21 h22 | exact (if_neg h22).trans (hfr z h18 h20 h21 h22) | exact (if_neg h18).trans ((if_neg h22).trans (hfr z h18 h20 h21 h22)) | exact (if_neg h18).trans ((if_neg h21).trans ((if_neg h20).trans ((if_neg h22).trans (hfr z h18 h20 h21 h22)))))⟩ ?_
                rw [uZ_self h_93]
                refine LvI_skip hinv (fun h7 h8 h9 => ?_)
                exfalso
                rcases h9 with h9 | h9
                · omega
                · exact h_163 (((step_iff hk h2 ⟨hlv.1, by omega⟩ h3 hdom hm16 (by simp only [tot]; omega) (fun j hj hq hc9 => h5 _ (leQ_trans (decJ_ok hj hq).2.2.1 hdom) (by have := (decJ_ok hj hq).2.2.2; simp only [tot] at this ⊢; omega) (decJ_bf hj hq) (Or.inr hc9))).mpr h9).2)
              · omega
            · exact absurd rfl h_181
          · have h_163 := Classical.not_not.mp (fun h8 => h_163 ((bP_z _).mpr h8))
            refine r_iconst S dX12_levels_166 ?_
            refine r_goto S dX12_levels_167 (tgt := 171) (by decide) ?_
            refine r_istore S dX12_levels_171 rfl (by decide) (lv' := [_, _, _, _, _, _, _, _, _]) rfl ?_
            refine r_aload_n S dX12_levels_173 rfl ?_
            refine r_getf S g_RX12_24_11 dX12_levels_174 (by repeat (first | assumption | exact sUp_same | exact sNew_same | refine sUp_ne (by first | assumption | omega) ?_)) rfl ?_
            refine r_iload S dX12_levels_177 rfl ?_
            refine r_iload S dX12_levels_179 rfl ?_
            refine r_if_eq S dX12_levels_181 (tgt := 191) (by decide) ⟨by omega, by omega⟩ (fun h_181 => ?_) (fun h_181 => ?_)
            · exact absurd h_181 (by decide)
            · refine r_iload_n S dX12_levels_184 rfl ?_
              refine r_iconst S dX12_levels_185 ?_
              refine r_iadd S dX12_levels_186 ?_
              refine r_i2b S dX12_levels_187 (v := iZ ((lev : Int) + 1)) ((by rw [show ((lev : Nat) : Int) + 1 = ((lev + 1 : Nat) : Int) from rfl]; exact (i2b_ok (by omega)).1)) ?_
              refine r_goto S dX12_levels_188 (tgt := 203) (by decide) ?_
              refine r_bastN S ((83521 * kd + posQ (a, b, c, d))) dX12_levels_203 (by repeat (first | assumption | exact sUp_same | exact sNew_same | refine sUp_ne (by first | assumption | omega) ?_)) (by omega) (by omega) (by decide) ((by rw [show ((lev : Nat) : Int) + 1 = ((lev + 1 : Nat) : Int) from rfl]; exact (i2b_ok (by omega)).2)) ?_
              refine V.mask [true, true, true, true, true, true, true, false, false] (lv' := [_, _, _, _, _, _, _, none, none]) rfl ?_
              refine kk _ _ ⟨sUp_same, ⟨_, (by repeat (first | assumption | exact sUp_same | exact UH_H | exact UH_B | refine UH_at (by omega) (by omega) ?_ | refine sUp_ne (by first | assumption | omega) ?_))⟩, ⟨_, (by repeat (first | assumption | exact sUp_same | exact UH_H | exact UH_B | refine UH_at (by omega) (by omega) ?_ | refine sUp_ne (by first | assumption | omega) ?_))⟩, ⟨_, (by repeat (first | assumption | exact sUp_same | exact UH_H | exact UH_B | refine UH_at (by omega) (by omega) ?_ | refine sUp_ne (by first | assumption | omega) ?_))⟩, hsz, (fun z h18 h20 h21 h22 => by first | exact hfr z h18 h20 h21 h22 | exact (if_neg h22).trans (hfr z h18 h20 h21 h22) | exact (if_neg h18).trans ((if_neg h22).trans (hfr z h18 h20 h21 h22)) | exact (if_neg h18).trans ((if_neg h21).trans ((if_neg h20).trans ((if_neg h22).trans (hfr z h18 h20 h21 h22)))))⟩ ?_
              have hcan := (step_iff hk h2 ⟨hlv.1, by omega⟩ h3 hdom hm16 (by simp only [tot]; omega) (fun j hj hq hc9 => h5 _ (leQ_trans (decJ_ok hj hq).2.2.1 hdom) (by have := (decJ_ok hj hq).2.2.2; simp only [tot] at this ⊢; omega) (decJ_bf hj hq) (Or.inr hc9))).mp ⟨h_154, h_163⟩
              have hno : ¬ canQ (cyK kd) (cnK kd) (lev - 1) (cumQ (a, b, c, d)) := fun hz => h3 (a, b, c, d) hdom (by simp only [tot]; omega) hz h_93
              have hfew := few_of (q := lev - 1) (by omega) hno (by rw [show lev - 1 + 1 = lev by omega]; exact hcan)
              rw [show lev - 1 + 1 = lev by omega] at hfew
              exact LvI_set (v := lev) hinv hm16 hdom h_93 hfew
