def UH (k : Cx) (σ : St) (hp bd : Nat → Int) : St := sUp (sUp σ (cBase k + 20) (eI k 4 hp)) (cBase k + 21) (eI k 4 bd)
theorem UH_h (k : Cx) (σ : St) (hp bd hp' : Nat → Int) : sUp (UH k σ hp bd) (cBase k + 20) (eI k 4 hp') = UH k σ hp' bd := by
  unfold UH
  rw [sUp_comm (sUp σ (cBase k + 20) (eI k 4 hp)) _ _ (show cBase k + 21 ≠ cBase k + 20 by omega), sUp_sUp]
theorem UH_b (k : Cx) (σ : St) (hp bd bd' : Nat → Int) : sUp (UH k σ hp bd) (cBase k + 21) (eI k 4 bd') = UH k σ hp bd' := by
  unfold UH
  rw [sUp_sUp]
theorem UH_id {k : Cx} {σ : St} {hp bd : Nat → Int} (h1 : σ.2 (cBase k + 20) = some (eI k 4 hp)) (h2 : σ.2 (cBase k + 21) = some (eI k 4 bd)) : UH k σ hp bd = σ := by
  unfold UH
  rw [sUp_id h1, sUp_id h2]
theorem UH_H {k : Cx} {σ : St} {hp bd : Nat → Int} : (UH k σ hp bd).2 (cBase k + 20) = some (eI k 4 hp) := sUp_ne (by omega) sUp_same
theorem UH_B {k : Cx} {σ : St} {hp bd : Nat → Int} : (UH k σ hp bd).2 (cBase k + 21) = some (eI k 4 bd) := sUp_same
theorem UH_at {k : Cx} {σ : St} {b : Nat} {hp bd : Nat → Int} {x : Option va_E} (h1 : b ≠ cBase k + 20) (h2 : b ≠ cBase k + 21) (hx : σ.2 b = x) : (UH k σ hp bd).2 b = x := sUp_ne h2 (sUp_ne h1 hx)
def OKc (R : Nat → Int) (kd : Nat) (lev : Int) (c x : Q4) : Prop := Wi R kd lev (posQ (bhQ (cyK kd) x (subQ c x))) ∧ Wi R kd lev (posQ (bhQ (cnK kd) (subQ c x) x))
theorem cost_y {kd : Nat} (hk : kd < 3) : costK kd 1 1 = ((0 : Nat) : Int) ∧ costK kd 1 0 = ((if kd = 0 then 9 else 1 : Nat) : Int) := by
  rcases (show kd = 0 ∨ kd = 1 ∨ kd = 2 by omega) with e | e | e <;> subst e <;> decide
theorem cost_n {kd : Nat} (hk : kd < 3) : costK kd 0 0 = ((0 : Nat) : Int) ∧ costK kd 0 1 = ((if kd = 1 then 1 else 9 : Nat) : Int) := by
  rcases (show kd = 0 ∨ kd = 1 ∨ kd = 2 by omega) with e | e | e <;> subst e <;> decide
theorem pos_y {kd : Nat} (hk : kd < 3) (x u : Q4) : posQ (qat x (0 + 0) + qat u (0 + (if kd = 0 then 9 else 1)), qat x (1 + 0) + qat u (1 + (if kd = 0 then 9 else 1)), qat x (2 + 0) + qat u (2 + (if kd = 0 then 9 else 1)), qat x (3 + 0) + qat u (3 + (if kd = 0 then 9 else 1))) = posQ (bhQ (cyK kd) x u) := by
  rcases (show kd = 0 ∨ kd = 1 ∨ kd = 2 by omega) with e | e | e <;> subst e <;> rfl
theorem pos_n {kd : Nat} (hk : kd < 3) (x u : Q4) : posQ (qat x (0 + (if kd = 1 then 1 else 9)) + qat u (0 + 0), qat x (1 + (if kd = 1 then 1 else 9)) + qat u (1 + 0), qat x (2 + (if kd = 1 then 1 else 9)) + qat u (2 + 0), qat x (3 + (if kd = 1 then 1 else 9)) + qat u (3 + 0)) = posQ (bhQ (cnK kd) u x) := by
  have e : ∀ a b c d a' b' c' d' : Nat, posQ (a + a', b + b', c + c', d + d') = posQ (a' + a, b' + b, c' + c, d' + d) := by
    intro a b c d a' b' c' d'
    rw [Nat.add_comm a, Nat.add_comm b, Nat.add_comm c, Nat.add_comm d]
  rw [e]
  rcases (show kd = 0 ∨ kd = 1 ∨ kd = 2 by omega) with e | e | e <;> subst e <;> rfl
theorem pos_lt {x : Q4} (h : ∀ j, qat x j ≤ 16) : posQ x < 83521 := by
  have a := h 0; have b := h 1; have c := h 2; have d := h 3
  simp only [qat] at a b c d
  unfold posQ
  omega
theorem qat_tot {x : Q4} (h : x.1 + x.2.1 + x.2.2.1 + x.2.2.2 ≤ 16) (j : Nat) : qat x j ≤ 16 := by
  match j with
  | 0 => show x.1 ≤ 16; omega
  | 1 => show x.2.1 ≤ 16; omega
  | 2 => show x.2.2.1 ≤ 16; omega
  | 3 => show x.2.2.2 ≤ 16; omega
  | _ + 4 => show 0 ≤ 16; omega
theorem bh_tot {c : Nat} (hc : 1 ≤ c ∧ c ≤ 4) {a b : Q4} (h : a.1 + a.2.1 + a.2.2.1 + a.2.2.2 + (b.1 + b.2.1 + b.2.2.1 + b.2.2.2) ≤ 16) : (bhQ c a b).1 + (bhQ c a b).2.1 + (bhQ c a b).2.2.1 + (bhQ c a b).2.2.2 ≤ 16 := by
  rcases (show c = 1 ∨ c = 2 ∨ c = 3 ∨ c = 4 by omega) with e | e | e | e <;> subst e <;> simp only [bhQ, qat] <;> omega
set_option maxRecDepth 100000 in
set_option maxHeartbeats 4000000 in
theorem s_dg4 {κ : Kx} {k : Cx} {σ : St} {Q : State → Prop} {hg n e an wt tb q tr sk sm kk0 : Int} (hM : σ.2 (cBase k + 14) = some (oModel k hg kk0 n e an wt tb q tr sk sm)) {R : Nat → Int} (hR : σ.2 (cBase k + 18) = some (eB k 250563 R)) (hRr : ∀ j, 0 ≤ R j ∧ R j ≤ 14) {kd : Nat} (hk : kd < 3) {lev : Int} (hlv : 0 ≤ lev ∧ lev ≤ 13) {c : Q4} (hc16 : c.1 + c.2.1 + c.2.2.1 + c.2.2.2 ≤ 16) {ct : Nat → Int} (hC : σ.2 (cBase k + 22) = some (eI k 4 ct)) (hct : ∀ j, j < 4 → ct j = (qat c j : Int)) {w : Nat} (hw : w < 83521) (kk : ∀ hp bd : Nat → Int, (∀ j, j < 4 → hp j = (qat (dgQ c w) j : Int)) → (∀ j, j < 4 → bd j = (qat (subQ c (dgQ c w)) j : Int)) → V κ k 8 0 0 Q 112 [some (.ref (cBase k + 14)), some (.int (iZ (kd : Int))), some (.int (iZ lev)), some (.int (iZ ((waysQ c : Nat) : Int))), some (.int (iZ ((w : Int) : Int))), none, none, none] [] (UH k σ hp bd)) (S : Ok κ k cX12_canDo 8 RX12 (some .boolean) "canDo" 3 0 0) : ∀ hp bd : Nat → Int, (∀ j, j < 4 → hp j = (qat (dgQ c w) j : Int)) → (∀ j, j < 4 → bd j = (qat (subQ c (dgQ c w)) j : Int)) → V κ k 8 0 0 Q 45 [some (.ref (cBase k + 14)), some (.int (iZ (kd : Int))), some (.int (iZ lev)), some (.int (iZ ((waysQ c : Nat) : Int))), some (.int (iZ ((w : Int) : Int))), some (.int (iZ ((w / (c.1 + 1) / (c.2.1 + 1) / (c.2.2.1 + 1) / (c.2.2.2 + 1) : Nat) : Int))), some (.int (iZ (4 : Int))), none] [] (UH k σ hp bd) := by
  intro hp bd h1 h2
  refine r_iload S dX12_canDo_45 rfl ?_
  refine r_iconst S dX12_canDo_47 ?_
  refine r_icmp_ge S dX12_canDo_48 (tgt := 112) (by decide) ⟨by omega, by omega⟩ ⟨by omega, by omega⟩ (fun h_48 => ?_) (fun h_48 => ?_)
  · refine V.mask [true, true, true, true, true, false, false, false] (lv' := [_, _, _, _, _, none, none, none]) rfl ?_
    exact kk hp bd h1 h2
  · omega

set_option maxRecDepth 100000 in
set_option maxHeartbeats 4000000 in
theorem s_dg3 {κ : Kx} {k : Cx} {σ : St} {Q : State → Prop} {hg n e an wt tb q tr sk sm kk0 : Int} (hM : σ.2 (cBase k + 14) = some (oModel k hg kk0 n e an wt tb q tr sk sm)) {R : Nat → Int} (hR : σ.2 (cBase k + 18) = some (eB k 250563 R)) (hRr : ∀ j, 0 ≤ R j ∧ R j ≤ 14) {kd : Nat} (hk : kd < 3) {lev : Int} (hlv : 0 ≤ lev ∧ lev ≤ 13) {c : Q4} (hc16 : c.1 + c.2.1 + c.2.2.1 + c.2.2.2 ≤ 16) {ct : Nat → Int} (hC : σ.2 (cBase k + 22) = some (eI k 4 ct)) (hct : ∀ j, j < 4 → ct j = (qat c j : Int)) {w : Nat} (hw : w < 83521) (kk : ∀ hp bd : Nat → Int, (∀ j, j < 4 → hp j = (qat (dgQ c w) j : Int)) → (∀ j, j < 4 → bd j = (qat (subQ c (dgQ c w)) j : Int)) → V κ k 8 0 0 Q 112 [some (.ref (cBase k + 14)), some (.int (iZ (kd : Int))), some (.int (iZ lev)), some (.int (iZ ((waysQ c : Nat) : Int))), some (.int (iZ ((w : Int) : Int))), none, none, none] [] (UH k σ hp bd)) (S : Ok κ k cX12_canDo 8 RX12 (some .boolean) "canDo" 3 0 0) : ∀ hp bd : Nat → Int, (∀ j, j < 3 → hp j = (qat (dgQ c w) j : Int)) → (∀ j, j < 3 → bd j = (qat (subQ c (dgQ c w)) j : Int)) → V κ k 8 0 0 Q 45 [some (.ref (cBase k + 14)), some (.int (iZ (kd : Int))), some (.int (iZ lev)), some (.int (iZ ((waysQ c : Nat) : Int))), some (.int (iZ ((w : Int) : Int))), some (.int (iZ ((w / (c.1 + 1) / (c.2.1 + 1) / (c.2.2.1 + 1) : Nat) : Int))), some (.int (iZ (3 : Int))), none] [] (UH k σ hp bd) := by
  intro hp bd h1 h2
  have hri : w / (c.1 + 1) / (c.2.1 + 1) / (c.2.2.1 + 1) ≤ w := Nat.le_trans (Nat.div_le_self _ _) (Nat.le_trans (Nat.div_le_self _ _) (Nat.div_le_self _ _))
  have hcl : c.2.2.2 ≤ 16 := by omega
  have hctI : ct 3 = ((c.2.2.2 : Nat) : Int) := hct 3 (by decide)
  have hdl : w / (c.1 + 1) / (c.2.1 + 1) / (c.2.2.1 + 1) % (c.2.2.2 + 1) ≤ c.2.2.2 := Nat.le_of_lt_succ (Nat.mod_lt _ (Nat.succ_pos _))
  refine r_iload S dX12_canDo_45 rfl ?_
  refine r_iconst S dX12_canDo_47 ?_
  refine r_icmp_ge S dX12_canDo_48 (tgt := 112) (by decide) ⟨by omega, by omega⟩ ⟨by omega, by omega⟩ (fun h_48 => ?_) (fun h_48 => ?_)
  · omega
  · refine r_aload_n S dX12_canDo_51 rfl ?_
    refine r_getf S g_RX12_34_11 dX12_canDo_52 (by first | assumption | exact UH_H | exact UH_B | exact UH_at (by omega) (by omega) (by assumption)) rfl ?_
    refine r_iload S dX12_canDo_55 rfl ?_
    refine r_iload S dX12_canDo_57 rfl ?_
    refine r_aload_n S dX12_canDo_59 rfl ?_
    refine r_getf S g_RX12_40_11 dX12_canDo_60 (by first | assumption | exact UH_H | exact UH_B | exact UH_at (by omega) (by omega) (by assumption)) rfl ?_
    refine r_iload S dX12_canDo_63 rfl ?_
    refine r_ialdN S (3) dX12_canDo_65 (by first | assumption | exact UH_H | exact UH_B | exact UH_at (by omega) (by omega) (by assumption)) (by rfl) (by omega) (by decide) ?_
    rw [hctI]
    refine r_iconst S dX12_canDo_66 ?_
    refine r_iadd S dX12_canDo_67 ?_
    refine r_num (z' := ((c.2.2.2 + 1 : Nat) : Int)) (by rfl) ?_
    refine r_irem S dX12_canDo_68 (neZ (by omega) (by omega)) (remZ (by omega) (by omega) (by omega)) ?_
    refine r_iastN S (3) dX12_canDo_69 (by first | assumption | exact UH_H | exact UH_B | exact UH_at (by omega) (by omega) (by assumption)) (by rfl) (by omega) (by decide) ?_
    rw [UH_h]
    refine r_aload_n S dX12_canDo_70 rfl ?_
    refine r_getf S g_RX12_37_11 dX12_canDo_71 (by first | assumption | exact UH_H | exact UH_B | exact UH_at (by omega) (by omega) (by assumption)) rfl ?_
    refine r_iload S dX12_canDo_74 rfl ?_
    refine r_aload_n S dX12_canDo_76 rfl ?_
    refine r_getf S g_RX12_40_11 dX12_canDo_77 (by first | assumption | exact UH_H | exact UH_B | exact UH_at (by omega) (by omega) (by assumption)) rfl ?_
    refine r_iload S dX12_canDo_80 rfl ?_
    refine r_ialdN S (3) dX12_canDo_82 (by first | assumption | exact UH_H | exact UH_B | exact UH_at (by omega) (by omega) (by assumption)) (by rfl) (by omega) (by decide) ?_
    rw [hctI]
    refine r_aload_n S dX12_canDo_83 rfl ?_
    refine r_getf S g_RX12_34_11 dX12_canDo_84 (by first | assumption | exact UH_H | exact UH_B | exact UH_at (by omega) (by omega) (by assumption)) rfl ?_
    refine r_iload S dX12_canDo_87 rfl ?_
    refine r_ialdN S (3) dX12_canDo_89 (by first | assumption | exact UH_H | exact UH_B | exact UH_at (by omega) (by omega) (by assumption)) (by rfl) (by omega) (by decide) ?_
    rw [uZ_eq]
    refine r_isub S dX12_canDo_90 ?_
    refine r_num (z' := ((c.2.2.2 - w / (c.1 + 1) / (c.2.1 + 1) / (c.2.2.1 + 1) % (c.2.2.2 + 1) : Nat) : Int)) (by omega) ?_
    refine r_iastN S (3) dX12_canDo_91 (by first | assumption | exact UH_H | exact UH_B | exact UH_at (by omega) (by omega) (by assumption)) (by rfl) (by omega) (by decide) ?_
    rw [UH_b]
    refine r_iload S dX12_canDo_92 rfl ?_
    refine r_aload_n S dX12_canDo_94 rfl ?_
    refine r_getf S g_RX12_40_11 dX12_canDo_95 (by first | assumption | exact UH_H | exact UH_B | exact UH_at (by omega) (by omega) (by assumption)) rfl ?_
    refine r_iload S dX12_canDo_98 rfl ?_
    refine r_ialdN S (3) dX12_canDo_100 (by first | assumption | exact UH_H | exact UH_B | exact UH_at (by omega) (by omega) (by assumption)) (by rfl) (by omega) (by decide) ?_
    rw [hctI]
    refine r_iconst S dX12_canDo_101 ?_
    refine r_iadd S dX12_canDo_102 ?_
    refine r_num (z' := ((c.2.2.2 + 1 : Nat) : Int)) (by rfl) ?_
    refine r_idiv S dX12_canDo_103 (neZ (by omega) (by omega)) (divZ (by omega) (by omega) (by omega)) ?_
    refine r_istore S dX12_canDo_104 rfl (by decide) (lv' := [_, _, _, _, _, _, _, _]) rfl ?_
    refine r_iinc S dX12_canDo_106 rfl rfl (by decide) (lv' := [_, _, _, _, _, _, _, _]) rfl ?_
    refine r_goto S dX12_canDo_109 (tgt := 45) (by decide) ?_
    refine s_dg4 hM hR hRr hk hlv hc16 hC hct hw kk S _ _ (fun j hj => ?_) (fun j hj => ?_)
    · unfold uZ
      by_cases e9 : j = 3
      · subst e9; rw [if_pos rfl]; rfl
      · rw [if_neg e9]; exact h1 j (by omega)
    · unfold uZ
      by_cases e9 : j = 3
      · subst e9; rw [if_pos rfl]; rfl
      · rw [if_neg e9]; exact h2 j (by omega)

set_option maxRecDepth 100000 in
set_option maxHeartbeats 4000000 in
theorem s_dg2 {κ : Kx} {k : Cx} {σ : St} {Q : State → Prop} {hg n e an wt tb q tr sk sm kk0 : Int} (hM : σ.2 (cBase k + 14) = some (oModel k hg kk0 n e an wt tb q tr sk sm)) {R : Nat → Int} (hR : σ.2 (cBase k + 18) = some (eB k 250563 R)) (hRr : ∀ j, 0 ≤ R j ∧ R j ≤ 14) {kd : Nat} (hk : kd < 3) {lev : Int} (hlv : 0 ≤ lev ∧ lev ≤ 13) {c : Q4} (hc16 : c.1 + c.2.1 + c.2.2.1 + c.2.2.2 ≤ 16) {ct : Nat → Int} (hC : σ.2 (cBase k + 22) = some (eI k 4 ct)) (hct : ∀ j, j < 4 → ct j = (qat c j : Int)) {w : Nat} (hw : w < 83521) (kk : ∀ hp bd : Nat → Int, (∀ j, j < 4 → hp j = (qat (dgQ c w) j : Int)) → (∀ j, j < 4 → bd j = (qat (subQ c (dgQ c w)) j : Int)) → V κ k 8 0 0 Q 112 [some (.ref (cBase k + 14)), some (.int (iZ (kd : Int))), some (.int (iZ lev)), some (.int (iZ ((waysQ c : Nat) : Int))), some (.int (iZ ((w : Int) : Int))), none, none, none] [] (UH k σ hp bd)) (S : Ok κ k cX12_canDo 8 RX12 (some .boolean) "canDo" 3 0 0) : ∀ hp bd : Nat → Int, (∀ j, j < 2 → hp j = (qat (dgQ c w) j : Int)) → (∀ j, j < 2 → bd j = (qat (subQ c (dgQ c w)) j : Int)) → V κ k 8 0 0 Q 45 [some (.ref (cBase k + 14)), some (.int (iZ (kd : Int))), some (.int (iZ lev)), some (.int (iZ ((waysQ c : Nat) : Int))), some (.int (iZ ((w : Int) : Int))), some (.int (iZ ((w / (c.1 + 1) / (c.2.1 + 1) : Nat) : Int))), some (.int (iZ (2 : Int))), none] [] (UH k σ hp bd) := by
  intro hp bd h1 h2
  have hri : w / (c.1 + 1) / (c.2.1 + 1) ≤ w := Nat.le_trans (Nat.div_le_self _ _) (Nat.div_le_self _ _)
  have hcl : c.2.2.1 ≤ 16 := by omega
  have hctI : ct 2 = ((c.2.2.1 : Nat) : Int) := hct 2 (by decide)
  have hdl : w / (c.1 + 1) / (c.2.1 + 1) % (c.2.2.1 + 1) ≤ c.2.2.1 := Nat.le_of_lt_succ (Nat.mod_lt _ (Nat.succ_pos _))
  refine r_iload S dX12_canDo_45 rfl ?_
  refine r_iconst S dX12_canDo_47 ?_
  refine r_icmp_ge S dX12_canDo_48 (tgt := 112) (by decide) ⟨by omega, by omega⟩ ⟨by omega, by omega⟩ (fun h_48 => ?_) (fun h_48 => ?_)
  · omega
  · refine r_aload_n S dX12_canDo_51 rfl ?_
    refine r_getf S g_RX12_34_11 dX12_canDo_52 (by first | assumption | exact UH_H | exact UH_B | exact UH_at (by omega) (by omega) (by assumption)) rfl ?_
    refine r_iload S dX12_canDo_55 rfl ?_
    refine r_iload S dX12_canDo_57 rfl ?_
    refine r_aload_n S dX12_canDo_59 rfl ?_
    refine r_getf S g_RX12_40_11 dX12_canDo_60 (by first | assumption | exact UH_H | exact UH_B | exact UH_at (by omega) (by omega) (by assumption)) rfl ?_
    refine r_iload S dX12_canDo_63 rfl ?_
    refine r_ialdN S (2) dX12_canDo_65 (by first | assumption | exact UH_H | exact UH_B | exact UH_at (by omega) (by omega) (by assumption)) (by rfl) (by omega) (by decide) ?_
    rw [hctI]
    refine r_iconst S dX12_canDo_66 ?_
    refine r_iadd S dX12_canDo_67 ?_
    refine r_num (z' := ((c.2.2.1 + 1 : Nat) : Int)) (by rfl) ?_
    refine r_irem S dX12_canDo_68 (neZ (by omega) (by omega)) (remZ (by omega) (by omega) (by omega)) ?_
    refine r_iastN S (2) dX12_canDo_69 (by first | assumption | exact UH_H | exact UH_B | exact UH_at (by omega) (by omega) (by assumption)) (by rfl) (by omega) (by decide) ?_
    rw [UH_h]
    refine r_aload_n S dX12_canDo_70 rfl ?_
    refine r_getf S g_RX12_37_11 dX12_canDo_71 (by first | assumption | exact UH_H | exact UH_B | exact UH_at (by omega) (by omega) (by assumption)) rfl ?_
    refine r_iload S dX12_canDo_74 rfl ?_
    refine r_aload_n S dX12_canDo_76 rfl ?_
    refine r_getf S g_RX12_40_11 dX12_canDo_77 (by first | assumption | exact UH_H | exact UH_B | exact UH_at (by omega) (by omega) (by assumption)) rfl ?_
    refine r_iload S dX12_canDo_80 rfl ?_
    refine r_ialdN S (2) dX12_canDo_82 (by first | assumption | exact UH_H | exact UH_B | exact UH_at (by omega) (by omega) (by assumption)) (by rfl) (by omega) (by decide) ?_
    rw [hctI]
    refine r_aload_n S dX12_canDo_83 rfl ?_
    refine r_getf S g_RX12_34_11 dX12_canDo_84 (by first | assumption | exact UH_H | exact UH_B | exact UH_at (by omega) (by omega) (by assumption)) rfl ?_
    refine r_iload S dX12_canDo_87 rfl ?_
    refine r_ialdN S (2) dX12_canDo_89 (by first | assumption | exact UH_H | exact UH_B | exact UH_at (by omega) (by omega) (by assumption)) (by rfl) (by omega) (by decide) ?_
    rw [uZ_eq]
    refine r_isub S dX12_canDo_90 ?_
    refine r_num (z' := ((c.2.2.1 - w / (c.1 + 1) / (c.2.1 + 1) % (c.2.2.1 + 1) : Nat) : Int)) (by omega) ?_
    refine r_iastN S (2) dX12_canDo_91 (by first | assumption | exact UH_H | exact UH_B | exact UH_at (by omega) (by omega) (by assumption)) (by rfl) (by omega) (by decide) ?_
    rw [UH_b]
    refine r_iload S dX12_canDo_92 rfl ?_
    refine r_aload_n S dX12_canDo_94 rfl ?_
    refine r_getf S g_RX12_40_11 dX12_canDo_95 (by first | assumption | exact UH_H | exact UH_B | exact UH_at (by omega) (by omega) (by assumption)) rfl ?_
    refine r_iload S dX12_canDo_98 rfl ?_
    refine r_ialdN S (2) dX12_canDo_100 (by first | assumption | exact UH_H | exact UH_B | exact UH_at (by omega) (by omega) (by assumption)) (by rfl) (by omega) (by decide) ?_
    rw [hctI]
    refine r_iconst S dX12_canDo_101 ?_
    refine r_iadd S dX12_canDo_102 ?_
    refine r_num (z' := ((c.2.2.1 + 1 : Nat) : Int)) (by rfl) ?_
    refine r_idiv S dX12_canDo_103 (neZ (by omega) (by omega)) (divZ (by omega) (by omega) (by omega)) ?_
    refine r_istore S dX12_canDo_104 rfl (by decide) (lv' := [_, _, _, _, _, _, _, _]) rfl ?_
    refine r_iinc S dX12_canDo_106 rfl rfl (by decide) (lv' := [_, _, _, _, _, _, _, _]) rfl ?_
    refine r_goto S dX12_canDo_109 (tgt := 45) (by decide) ?_
    refine s_dg3 hM hR hRr hk hlv hc16 hC hct hw kk S _ _ (fun j hj => ?_) (fun j hj => ?_)
    · unfold uZ
      by_cases e9 : j = 2
      · subst e9; rw [if_pos rfl]; rfl
      · rw [if_neg e9]; exact h1 j (by omega)
    · unfold uZ
      by_cases e9 : j = 2
      · subst e9; rw [if_pos rfl]; rfl
      · rw [if_neg e9]; exact h2 j (by omega)

set_option maxRecDepth 100000 in
set_option maxHeartbeats 4000000 in
theorem s_dg1 {κ : Kx} {k : Cx} {σ : St} {Q : State → Prop} {hg n e an wt tb q tr sk sm kk0 : Int} (hM : σ.2 (cBase k + 14) = some (oModel k hg kk0 n e an wt tb q tr sk sm)) {R : Nat → Int} (hR : σ.2 (cBase k + 18) = some (eB k 250563 R)) (hRr : ∀ j, 0 ≤ R j ∧ R j ≤ 14) {kd : Nat} (hk : kd < 3) {lev : Int} (hlv : 0 ≤ lev ∧ lev ≤ 13) {c : Q4} (hc16 : c.1 + c.2.1 + c.2.2.1 + c.2.2.2 ≤ 16) {ct : Nat → Int} (hC : σ.2 (cBase k + 22) = some (eI k 4 ct)) (hct : ∀ j, j < 4 → ct j = (qat c j : Int)) {w : Nat} (hw : w < 83521) (kk : ∀ hp bd : Nat → Int, (∀ j, j < 4 → hp j = (qat (dgQ c w) j : Int)) → (∀ j, j < 4 → bd j = (qat (subQ c (dgQ c w)) j : Int)) → V κ k 8 0 0 Q 112 [some (.ref (cBase k + 14)), some (.int (iZ (kd : Int))), some (.int (iZ lev)), some (.int (iZ ((waysQ c : Nat) : Int))), some (.int (iZ ((w : Int) : Int))), none, none, none] [] (UH k σ hp bd)) (S : Ok κ k cX12_canDo 8 RX12 (some .boolean) "canDo" 3 0 0) : ∀ hp bd : Nat → Int, (∀ j, j < 1 → hp j = (qat (dgQ c w) j : Int)) → (∀ j, j < 1 → bd j = (qat (subQ c (dgQ c w)) j : Int)) → V κ k 8 0 0 Q 45 [some (.ref (cBase k + 14)), some (.int (iZ (kd : Int))), some (.int (iZ lev)), some (.int (iZ ((waysQ c : Nat) : Int))), some (.int (iZ ((w : Int) : Int))), some (.int (iZ ((w / (c.1 + 1) : Nat) : Int))), some (.int (iZ (1 : Int))), none] [] (UH k σ hp bd) := by
  intro hp bd h1 h2
  have hri : w / (c.1 + 1) ≤ w := Nat.div_le_self _ _
  have hcl : c.2.1 ≤ 16 := by omega
  have hctI : ct 1 = ((c.2.1 : Nat) : Int) := hct 1 (by decide)
  have hdl : w / (c.1 + 1) % (c.2.1 + 1) ≤ c.2.1 := Nat.le_of_lt_succ (Nat.mod_lt _ (Nat.succ_pos _))
  refine r_iload S dX12_canDo_45 rfl ?_
  refine r_iconst S dX12_canDo_47 ?_
  refine r_icmp_ge S dX12_canDo_48 (tgt := 112) (by decide) ⟨by omega, by omega⟩ ⟨by omega, by omega⟩ (fun h_48 => ?_) (fun h_48 => ?_)
  · omega
  · refine r_aload_n S dX12_canDo_51 rfl ?_
    refine r_getf S g_RX12_34_11 dX12_canDo_52 (by first | assumption | exact UH_H | exact UH_B | exact UH_at (by omega) (by omega) (by assumption)) rfl ?_
    refine r_iload S dX12_canDo_55 rfl ?_
    refine r_iload S dX12_canDo_57 rfl ?_
    refine r_aload_n S dX12_canDo_59 rfl ?_
    refine r_getf S g_RX12_40_11 dX12_canDo_60 (by first | assumption | exact UH_H | exact UH_B | exact UH_at (by omega) (by omega) (by assumption)) rfl ?_
    refine r_iload S dX12_canDo_63 rfl ?_
    refine r_ialdN S (1) dX12_canDo_65 (by first | assumption | exact UH_H | exact UH_B | exact UH_at (by omega) (by omega) (by assumption)) (by rfl) (by omega) (by decide) ?_
    rw [hctI]
    refine r_iconst S dX12_canDo_66 ?_
    refine r_iadd S dX12_canDo_67 ?_
    refine r_num (z' := ((c.2.1 + 1 : Nat) : Int)) (by rfl) ?_
    refine r_irem S dX12_canDo_68 (neZ (by omega) (by omega)) (remZ (by omega) (by omega) (by omega)) ?_
    refine r_iastN S (1) dX12_canDo_69 (by first | assumption | exact UH_H | exact UH_B | exact UH_at (by omega) (by omega) (by assumption)) (by rfl) (by omega) (by decide) ?_
    rw [UH_h]
    refine r_aload_n S dX12_canDo_70 rfl ?_
    refine r_getf S g_RX12_37_11 dX12_canDo_71 (by first | assumption | exact UH_H | exact UH_B | exact UH_at (by omega) (by omega) (by assumption)) rfl ?_
    refine r_iload S dX12_canDo_74 rfl ?_
    refine r_aload_n S dX12_canDo_76 rfl ?_
    refine r_getf S g_RX12_40_11 dX12_canDo_77 (by first | assumption | exact UH_H | exact UH_B | exact UH_at (by omega) (by omega) (by assumption)) rfl ?_
    refine r_iload S dX12_canDo_80 rfl ?_
    refine r_ialdN S (1) dX12_canDo_82 (by first | assumption | exact UH_H | exact UH_B | exact UH_at (by omega) (by omega) (by assumption)) (by rfl) (by omega) (by decide) ?_
    rw [hctI]
    refine r_aload_n S dX12_canDo_83 rfl ?_
    refine r_getf S g_RX12_34_11 dX12_canDo_84 (by first | assumption | exact UH_H | exact UH_B | exact UH_at (by omega) (by omega) (by assumption)) rfl ?_
    refine r_iload S dX12_canDo_87 rfl ?_
    refine r_ialdN S (1) dX12_canDo_89 (by first | assumption | exact UH_H | exact UH_B | exact UH_at (by omega) (by omega) (by assumption)) (by rfl) (by omega) (by decide) ?_
    rw [uZ_eq]
    refine r_isub S dX12_canDo_90 ?_
    refine r_num (z' := ((c.2.1 - w / (c.1 + 1) % (c.2.1 + 1) : Nat) : Int)) (by omega) ?_
    refine r_iastN S (1) dX12_canDo_91 (by first | assumption | exact UH_H | exact UH_B | exact UH_at (by omega) (by omega) (by assumption)) (by rfl) (by omega) (by decide) ?_
    rw [UH_b]
    refine r_iload S dX12_canDo_92 rfl ?_
    refine r_aload_n S dX12_canDo_94 rfl ?_
    refine r_getf S g_RX12_40_11 dX12_canDo_95 (by first | assumption | exact UH_H | exact UH_B | exact UH_at (by omega) (by omega) (by assumption)) rfl ?_
    refine r_iload S dX12_canDo_98 rfl ?_
    refine r_ialdN S (1) dX12_canDo_100 (by first | assumption | exact UH_H | exact UH_B | exact UH_at (by omega) (by omega) (by assumption)) (by rfl) (by omega) (by decide) ?_
    rw [hctI]
    refine r_iconst S dX12_canDo_101 ?_
    refine r_iadd S dX12_canDo_102 ?_
    refine r_num (z' := ((c.2.1 + 1 : Nat) : Int)) (by rfl) ?_
    refine r_idiv S dX12_canDo_103 (neZ (by omega) (by omega)) (divZ (by omega) (by omega) (by omega)) ?_
    refine r_istore S dX12_canDo_104 rfl (by decide) (lv' := [_, _, _, _, _, _, _, _]) rfl ?_
    refine r_iinc S dX12_canDo_106 rfl rfl (by decide) (lv' := [_, _, _, _, _, _, _, _]) rfl ?_
    refine r_goto S dX12_canDo_109 (tgt := 45) (by decide) ?_
    refine s_dg2 hM hR hRr hk hlv hc16 hC hct hw kk S _ _ (fun j hj => ?_) (fun j hj => ?_)
    · unfold uZ
      by_cases e9 : j = 1
      · subst e9; rw [if_pos rfl]; rfl
      · rw [if_neg e9]; exact h1 j (by omega)
    · unfold uZ
      by_cases e9 : j = 1
      · subst e9; rw [if_pos rfl]; rfl
      · rw [if_neg e9]; exact h2 j (by omega)

set_option maxRecDepth 100000 in
set_option maxHeartbeats 4000000 in
theorem s_dg0 {κ : Kx} {k : Cx} {σ : St} {Q : State → Prop} {hg n e an wt tb q tr sk sm kk0 : Int} (hM : σ.2 (cBase k + 14) = some (oModel k hg kk0 n e an wt tb q tr sk sm)) {R : Nat → Int} (hR : σ.2 (cBase k + 18) = some (eB k 250563 R)) (hRr : ∀ j, 0 ≤ R j ∧ R j ≤ 14) {kd : Nat} (hk : kd < 3) {lev : Int} (hlv : 0 ≤ lev ∧ lev ≤ 13) {c : Q4} (hc16 : c.1 + c.2.1 + c.2.2.1 + c.2.2.2 ≤ 16) {ct : Nat → Int} (hC : σ.2 (cBase k + 22) = some (eI k 4 ct)) (hct : ∀ j, j < 4 → ct j = (qat c j : Int)) {w : Nat} (hw : w < 83521) (kk : ∀ hp bd : Nat → Int, (∀ j, j < 4 → hp j = (qat (dgQ c w) j : Int)) → (∀ j, j < 4 → bd j = (qat (subQ c (dgQ c w)) j : Int)) → V κ k 8 0 0 Q 112 [some (.ref (cBase k + 14)), some (.int (iZ (kd : Int))), some (.int (iZ lev)), some (.int (iZ ((waysQ c : Nat) : Int))), some (.int (iZ ((w : Int) : Int))), none, none, none] [] (UH k σ hp bd)) (S : Ok κ k cX12_canDo 8 RX12 (some .boolean) "canDo" 3 0 0) : ∀ hp bd : Nat → Int, (∀ j, j < 0 → hp j = (qat (dgQ c w) j : Int)) → (∀ j, j < 0 → bd j = (qat (subQ c (dgQ c w)) j : Int)) → V κ k 8 0 0 Q 45 [some (.ref (cBase k + 14)), some (.int (iZ (kd : Int))), some (.int (iZ lev)), some (.int (iZ ((waysQ c : Nat) : Int))), some (.int (iZ ((w : Int) : Int))), some (.int (iZ ((w : Nat) : Int))), some (.int (iZ (0 : Int))), none] [] (UH k σ hp bd) := by
  intro hp bd h1 h2
  have hri : w ≤ w := Nat.le_refl _
  have hcl : c.1 ≤ 16 := by omega
  have hctI : ct 0 = ((c.1 : Nat) : Int) := hct 0 (by decide)
  have hdl : w % (c.1 + 1) ≤ c.1 := Nat.le_of_lt_succ (Nat.mod_lt _ (Nat.succ_pos _))
  refine r_iload S dX12_canDo_45 rfl ?_
  refine r_iconst S dX12_canDo_47 ?_
  refine r_icmp_ge S dX12_canDo_48 (tgt := 112) (by decide) ⟨by omega, by omega⟩ ⟨by omega, by omega⟩ (fun h_48 => ?_) (fun h_48 => ?_)
  · omega
  · refine r_aload_n S dX12_canDo_51 rfl ?_
    refine r_getf S g_RX12_34_11 dX12_canDo_52 (by first | assumption | exact UH_H | exact UH_B | exact UH_at (by omega) (by omega) (by assumption)) rfl ?_
    refine r_iload S dX12_canDo_55 rfl ?_
    refine r_iload S dX12_canDo_57 rfl ?_
    refine r_aload_n S dX12_canDo_59 rfl ?_
    refine r_getf S g_RX12_40_11 dX12_canDo_60 (by first | assumption | exact UH_H | exact UH_B | exact UH_at (by omega) (by omega) (by assumption)) rfl ?_
    refine r_iload S dX12_canDo_63 rfl ?_
    refine r_ialdN S (0) dX12_canDo_65 (by first | assumption | exact UH_H | exact UH_B | exact UH_at (by omega) (by omega) (by assumption)) (by rfl) (by omega) (by decide) ?_
    rw [hctI]
    refine r_iconst S dX12_canDo_66 ?_
    refine r_iadd S dX12_canDo_67 ?_
    refine r_num (z' := ((c.1 + 1 : Nat) : Int)) (by rfl) ?_
    refine r_irem S dX12_canDo_68 (neZ (by omega) (by omega)) (remZ (by omega) (by omega) (by omega)) ?_
    refine r_iastN S (0) dX12_canDo_69 (by first | assumption | exact UH_H | exact UH_B | exact UH_at (by omega) (by omega) (by assumption)) (by rfl) (by omega) (by decide) ?_
    rw [UH_h]
    refine r_aload_n S dX12_canDo_70 rfl ?_
    refine r_getf S g_RX12_37_11 dX12_canDo_71 (by first | assumption | exact UH_H | exact UH_B | exact UH_at (by omega) (by omega) (by assumption)) rfl ?_
    refine r_iload S dX12_canDo_74 rfl ?_
    refine r_aload_n S dX12_canDo_76 rfl ?_
    refine r_getf S g_RX12_40_11 dX12_canDo_77 (by first | assumption | exact UH_H | exact UH_B | exact UH_at (by omega) (by omega) (by assumption)) rfl ?_
    refine r_iload S dX12_canDo_80 rfl ?_
    refine r_ialdN S (0) dX12_canDo_82 (by first | assumption | exact UH_H | exact UH_B | exact UH_at (by omega) (by omega) (by assumption)) (by rfl) (by omega) (by decide) ?_
    rw [hctI]
    refine r_aload_n S dX12_canDo_83 rfl ?_
    refine r_getf S g_RX12_34_11 dX12_canDo_84 (by first | assumption | exact UH_H | exact UH_B | exact UH_at (by omega) (by omega) (by assumption)) rfl ?_
    refine r_iload S dX12_canDo_87 rfl ?_
    refine r_ialdN S (0) dX12_canDo_89 (by first | assumption | exact UH_H | exact UH_B | exact UH_at (by omega) (by omega) (by assumption)) (by rfl) (by omega) (by decide) ?_
    rw [uZ_eq]
    refine r_isub S dX12_canDo_90 ?_
    refine r_num (z' := ((c.1 - w % (c.1 + 1) : Nat) : Int)) (by omega) ?_
    refine r_iastN S (0) dX12_canDo_91 (by first | assumption | exact UH_H | exact UH_B | exact UH_at (by omega) (by omega) (by assumption)) (by rfl) (by omega) (by decide) ?_
    rw [UH_b]
    refine r_iload S dX12_canDo_92 rfl ?_
    refine r_aload_n S dX12_canDo_94 rfl ?_
    refine r_getf S g_RX12_40_11 dX12_canDo_95 (by first | assumption | exact UH_H | exact UH_B | exact UH_at (by omega) (by omega) (by assumption)) rfl ?_
    refine r_iload S dX12_canDo_98 rfl ?_
    refine r_ialdN S (0) dX12_canDo_100 (by first | assumption | exact UH_H | exact UH_B | exact UH_at (by omega) (by omega) (by assumption)) (by rfl) (by omega) (by decide) ?_
    rw [hctI]
    refine r_iconst S dX12_canDo_101 ?_
    refine r_iadd S dX12_canDo_102 ?_
    refine r_num (z' := ((c.1 + 1 : Nat) : Int)) (by rfl) ?_
    refine r_idiv S dX12_canDo_103 (neZ (by omega) (by omega)) (divZ (by omega) (by omega) (by omega)) ?_
    refine r_istore S dX12_canDo_104 rfl (by decide) (lv' := [_, _, _, _, _, _, _, _]) rfl ?_
    refine r_iinc S dX12_canDo_106 rfl rfl (by decide) (lv' := [_, _, _, _, _, _, _, _]) rfl ?_
    refine r_goto S dX12_canDo_109 (tgt := 45) (by decide) ?_
    refine s_dg1 hM hR hRr hk hlv hc16 hC hct hw kk S _ _ (fun j hj => ?_) (fun j hj => ?_)
    · unfold uZ
      by_cases e9 : j = 0
      · subst e9; rw [if_pos rfl]; rfl
      · rw [if_neg e9]; exact h1 j (by omega)
    · unfold uZ
      by_cases e9 : j = 0
      · subst e9; rw [if_pos rfl]; rfl
      · rw [if_neg e9]; exact h2 j (by omega)
