/-- STATES of n NUMBERS and LEFT up to e -/
def Dm (n e : Nat) (x : Q4) : Prop := Dec x ∧ x.1 ≤ n ∧ (e < 1 → x.2.1 = 0) ∧ (e < 2 → x.2.2.1 = 0) ∧ (e < 3 → x.2.2.2 = 0)
/-- ahead of a place of the four loops -/
def Bf (x : Q4) (c b a z : Nat) : Prop := x.2.2.2 < c ∨ (x.2.2.2 = c ∧ (x.2.2.1 < b ∨ (x.2.2.1 = b ∧ (x.2.1 < a ∨ (x.2.1 = a ∧ x.1 < z)))))
def InvL (cy cn : Nat) (F : Nat → Int) (n e K c b a z : Nat) : Prop := ∀ x, Dm n e x → (x.1 ≤ K ∨ Bf x c b a z) → Right cy cn F x
def FrL (σ σ' : St) (ta : Nat) : Prop := σ'.1 = σ.1 ∧ ∀ a, (a < ta ∨ ta + 4 ≤ a) → a ≠ ta + 9 → σ'.2 a = σ.2 a
/-- the table while it is filled -/
def LF (k : Cx) (σ σc : St) (ta cy cn : Nat) (F0 F kn : Nat → Int) : Prop := Tb k σc ta cy cn F ∧ σc.2 (ta + 8) = some (oHT ta) ∧ σc.2 (ta + 9) = some (eI k 4 kn) ∧ FrL σ σc ta ∧ ∀ x, Dec x → x.1 ≤ 16 → Right cy cn F0 x → Right cy cn F x
theorem right_up {cy cn : Nat} {F : Nat → Int} {h x : Q4} {v : Nat} (hd : Dec h) (h16 : h.1 ≤ 16) (hv : IsFew cy cn h v) (hx : Dec x) (x16 : x.1 ≤ 16) (hr : x = h ∨ Right cy cn F x) : Right cy cn (uZ F (plQ h) v) x := by
  by_cases e : x = h
  · subst e
    exact ⟨v, uZ_eq, hv⟩
  · obtain ⟨w, h1, h2⟩ := hr.resolve_left e
    exact ⟨w, by rw [uZ_ne (fun z => e (plQ_inj hx hd x16 h16 z))]; exact h1, h2⟩
theorem InvL_tab {cy cn : Nat} {F : Nat → Int} {n e K c b a z : Nat} (hi : InvL cy cn F n e K c b a z) (hm : Dm n e (z, a, b, c)) : TabOk cy cn F (z, a, b, c) := by
  rintro ⟨x0, x1, x2, x3⟩ hx hl hne
  simp only [leQ] at hl
  refine hi _ ?_ (Or.inr ?_)
  · simp only [Dm, Dec] at hm hx ⊢
    omega
  · simp only [Bf]
    have : ¬ (x0 = z ∧ x1 = a ∧ x2 = b ∧ x3 = c) := fun q => hne (by rw [q.1, q.2.1, q.2.2.1, q.2.2.2])
    omega
set_option maxRecDepth 100000 in
set_option maxHeartbeats 4000000 in
theorem l_learnZ {κ : Kx} {k : Cx} {σ : St} {Q : State → Prop} {n e K : Nat} (hn : 1 ≤ n ∧ n ≤ 16) (he : e ≤ 3) (hK : K < n) {ta cy cn : Nat} (hcy : 1 ≤ cy ∧ cy ≤ 4) (hcn : 1 ≤ cn ∧ cn ≤ 4) {F0 kn : Nat → Int} {a b c : Nat} (hab : b ≤ a) (hbc : c ≤ b) (han : a ≤ n) (he1 : e < 1 → a = 0) (he2 : e < 2 → b = 0) (he3 : e < 3 → c = 0) (kk : ∀ (σc : St) (F : Nat → Int), LF k σ σc ta cy cn F0 F kn → InvL cy cn F n e K c b a (n + 1) → V κ k 8 0 0 Q 123 [some (.ref (ta + 8)), some (.int (iZ (n : Int))), some (.int (iZ (e : Int))), some (.int (iZ ((K + 1 : Nat) : Int))), some (.int (iZ (c : Int))), some (.int (iZ (b : Int))), some (.int (iZ (a : Int))), none] [] σc) (S : Ok κ k cX4_learn 8 RX4 none "learn" 9 0 0) : ∀ (m z : Nat), z + m = n + 1 → a ≤ z → ∀ (σc : St) (F : Nat → Int), LF k σ σc ta cy cn F0 F kn → InvL cy cn F n e K c b a z → V κ k 8 0 0 Q 99 [some (.ref (ta + 8)), some (.int (iZ (n : Int))), some (.int (iZ (e : Int))), some (.int (iZ ((K + 1 : Nat) : Int))), some (.int (iZ (c : Int))), some (.int (iZ (b : Int))), some (.int (iZ (a : Int))), some (.int (iZ (z : Int)))] [] σc := by
  intro m
  induction m with
  | zero =>
    intro z hz haz σc F hlf hinv
    refine r_iload S dX4_learn_99 rfl ?_
    refine r_iload_n S dX4_learn_101 rfl ?_
    refine r_icmp_gt S dX4_learn_102 (tgt := 123) (by decide) ⟨by omega, by omega⟩ ⟨by omega, by omega⟩ (fun h_102 => ?_) (fun h_102 => ?_)
    · refine V.mask [true, true, true, true, true, true, true, false] (lv' := [_, _, _, _, _, _, _, none]) rfl ?_
      rw [show z = n + 1 by omega] at hinv
      exact kk σc F hlf hinv
    · omega
  | succ m ih =>
    intro z hz haz σc F hlf hinv
    obtain ⟨⟨hF, hFr, ⟨g, hO⟩, ⟨hv, hhv, hH⟩, tk, htk, hT⟩, hHT, hKN, hfr, hkeep⟩ := hlf
    have hdm : Dm n e (z, a, b, c) := by simp only [Dm, Dec]; omega
    refine r_iload S dX4_learn_99 rfl ?_
    refine r_iload_n S dX4_learn_101 rfl ?_
    refine r_icmp_gt S dX4_learn_102 (tgt := 123) (by decide) ⟨by omega, by omega⟩ ⟨by omega, by omega⟩ (fun h_102 => ?_) (fun h_102 => ?_)
    · omega
    · refine r_aload_n S dX4_learn_105 rfl ?_
      refine r_iload S dX4_learn_106 rfl ?_
      refine r_iload S dX4_learn_108 rfl ?_
      refine r_iload S dX4_learn_110 rfl ?_
      refine r_iload S dX4_learn_112 rfl ?_
      refine r_callV S (c_learnOne hcy hcn hdm.1 (by omega) hFr (InvL_tab hinv hdm) hF hO hH hhv hT htk hHT) k_mX4_learnOne c_RX4_32_4 dX4_learn_114 (by decide) ⟨by omega, by omega⟩ (by repeat (first | assumption | exact sUp_same | exact sNew_same | refine sUp_ne (by first | assumption | omega) ?_)) rfl rfl (Nat.le_of_ble_eq_true rfl) (fun r σ' hp => ?_)
      obtain ⟨rfl, v, hv1, hv2, hv3⟩ := hp
      try simp only [Option.toList_some, Option.toList_none, List.cons_append, List.nil_append]
      refine r_iinc S dX4_learn_117 rfl rfl (by decide) (lv' := [_, _, _, _, _, _, _, _]) rfl ?_
      refine r_goto S dX4_learn_120 (tgt := 99) (by decide) ?_
      refine ih (z + 1) (by omega) (by omega) σ' (uZ F (plQ (z, a, b, c)) v) ⟨hv2, hv3.at (by omega) hHT, hv3.at (by omega) hKN, ⟨hv3.1.trans hfr.1, fun q h8 h9 => (hv3.2 q (by omega)).trans (hfr.2 q h8 h9)⟩, fun x hx h8 h9 => right_up hdm.1 (by simp only; omega) hv1 hx h8 (Or.inr (hkeep x hx h8 h9))⟩ ?_
      rintro ⟨x0, x1, x2, x3⟩ hx hb
      refine right_up hdm.1 (by simp only; omega) hv1 hx.1 (by have := hx.2.1; omega) ?_
      by_cases e9 : x0 = z ∧ x1 = a ∧ x2 = b ∧ x3 = c
      · left; rw [e9.1, e9.2.1, e9.2.2.1, e9.2.2.2]
      · right
        refine hinv _ hx ?_
        simp only [Bf] at hb ⊢
        omega

set_option maxRecDepth 100000 in
set_option maxHeartbeats 4000000 in
theorem l_learnO {κ : Kx} {k : Cx} {σ : St} {Q : State → Prop} {n e K : Nat} (hn : 1 ≤ n ∧ n ≤ 16) (he : e ≤ 3) (hK : K < n) {ta cy cn : Nat} (hcy : 1 ≤ cy ∧ cy ≤ 4) (hcn : 1 ≤ cn ∧ cn ≤ 4) {F0 kn : Nat → Int} {b1 : Nat} (hb1 : (e < 1 → b1 = 0) ∧ (1 ≤ e → b1 = n)) {b c : Nat} (hbc : c ≤ b) (hbn : b ≤ b1) (he2 : e < 2 → b = 0) (he3 : e < 3 → c = 0) (kk : ∀ (σc : St) (F : Nat → Int), LF k σ σc ta cy cn F0 F kn → InvL cy cn F n e K c b (b1 + 1) 0 → V κ k 8 0 0 Q 129 [some (.ref (ta + 8)), some (.int (iZ (n : Int))), some (.int (iZ (e : Int))), some (.int (iZ ((K + 1 : Nat) : Int))), some (.int (iZ (c : Int))), some (.int (iZ (b : Int))), none, none] [] σc) (S : Ok κ k cX4_learn 8 RX4 none "learn" 9 0 0) : ∀ (m a : Nat), a + m = b1 + 1 → b ≤ a → ∀ (σc : St) (F : Nat → Int), LF k σ σc ta cy cn F0 F kn → InvL cy cn F n e K c b a 0 → V κ k 8 0 0 Q 76 [some (.ref (ta + 8)), some (.int (iZ (n : Int))), some (.int (iZ (e : Int))), some (.int (iZ ((K + 1 : Nat) : Int))), some (.int (iZ (c : Int))), some (.int (iZ (b : Int))), some (.int (iZ (a : Int))), none] [] σc := by
  intro m
  induction m with
  | zero =>
    intro a ha hba σc F hlf hinv
    refine r_iload S dX4_learn_76 rfl ?_
    refine r_iload_n S dX4_learn_78 rfl ?_
    refine r_iconst S dX4_learn_79 ?_
    refine r_icmp_ge S dX4_learn_80 (tgt := 87) (by decide) ⟨by omega, by omega⟩ ⟨by omega, by omega⟩ (fun h_80 => ?_) (fun h_80 => ?_)
    · refine r_iload_n S dX4_learn_87 rfl ?_
      refine r_num (z' := (b1 : Int)) (by omega) ?_
      refine r_icmp_gt S dX4_learn_88 (tgt := 129) (by decide) ⟨by omega, by omega⟩ ⟨by omega, by omega⟩ (fun h_88 => ?_) (fun h_88 => ?_)
      · refine V.mask [true, true, true, true, true, true, false, false] (lv' := [_, _, _, _, _, _, none, none]) rfl ?_
        rw [show a = b1 + 1 by omega] at hinv
        exact kk σc F hlf hinv
      · omega
    · refine r_iconst S dX4_learn_83 ?_
      refine r_goto S dX4_learn_84 (tgt := 88) (by decide) ?_
      refine r_num (z' := (b1 : Int)) (by omega) ?_
      refine r_icmp_gt S dX4_learn_88 (tgt := 129) (by decide) ⟨by omega, by omega⟩ ⟨by omega, by omega⟩ (fun h_88 => ?_) (fun h_88 => ?_)
      · refine V.mask [true, true, true, true, true, true, false, false] (lv' := [_, _, _, _, _, _, none, none]) rfl ?_
        rw [show a = b1 + 1 by omega] at hinv
        exact kk σc F hlf hinv
      · omega
  | succ m ih =>
    intro a ha hba σc F hlf hinv
    have kkz : ∀ (σc : St) (F : Nat → Int), LF k σ σc ta cy cn F0 F kn → InvL cy cn F n e K c b a (n + 1) → V κ k 8 0 0 Q 123 [some (.ref (ta + 8)), some (.int (iZ (n : Int))), some (.int (iZ (e : Int))), some (.int (iZ ((K + 1 : Nat) : Int))), some (.int (iZ (c : Int))), some (.int (iZ (b : Int))), some (.int (iZ (a : Int))), none] [] σc := by
      intro σc F hlf hinv
      refine r_iinc S dX4_learn_123 rfl rfl (by decide) (lv' := [_, _, _, _, _, _, _, _]) rfl ?_
      refine r_goto S dX4_learn_126 (tgt := 76) (by decide) ?_
      refine ih (a + 1) (by omega) (by omega) σc F hlf ?_
      rintro ⟨x0, x1, x2, x3⟩ hx hb
      refine hinv _ hx ?_
      simp only [Bf, Dm, Dec] at hb hx ⊢
      omega
    refine r_iload S dX4_learn_76 rfl ?_
    refine r_iload_n S dX4_learn_78 rfl ?_
    refine r_iconst S dX4_learn_79 ?_
    refine r_icmp_ge S dX4_learn_80 (tgt := 87) (by decide) ⟨by omega, by omega⟩ ⟨by omega, by omega⟩ (fun h_80 => ?_) (fun h_80 => ?_)
    · refine r_iload_n S dX4_learn_87 rfl ?_
      refine r_num (z' := (b1 : Int)) (by omega) ?_
      refine r_icmp_gt S dX4_learn_88 (tgt := 129) (by decide) ⟨by omega, by omega⟩ ⟨by omega, by omega⟩ (fun h_88 => ?_) (fun h_88 => ?_)
      · omega
      · refine r_iload S dX4_learn_91 rfl ?_
        refine r_iload_n S dX4_learn_93 rfl ?_
        refine r_mmax S wd_304 ks_max dX4_learn_94 (by decide) ⟨by omega, by omega⟩ ⟨by omega, by omega⟩ ⟨by omega, by omega⟩ (Nat.le_of_ble_eq_true rfl) ?_
        refine r_num (z' := ((max a (K + 1) : Nat) : Int)) (by omega) ?_
        refine r_istore S dX4_learn_97 rfl (by decide) (lv' := [_, _, _, _, _, _, _, _]) rfl ?_
        refine l_learnZ hn he hK hcy hcn hba hbc (by omega) (by omega) he2 he3 kkz S (n + 1 - max a (K + 1)) (max a (K + 1)) (by omega) (by omega) σc F hlf ?_
        rintro ⟨x0, x1, x2, x3⟩ hx hb
        refine hinv _ hx ?_
        simp only [Bf, Dm, Dec] at hb hx ⊢
        omega
    · refine r_iconst S dX4_learn_83 ?_
      refine r_goto S dX4_learn_84 (tgt := 88) (by decide) ?_
      refine r_num (z' := (b1 : Int)) (by omega) ?_
      refine r_icmp_gt S dX4_learn_88 (tgt := 129) (by decide) ⟨by omega, by omega⟩ ⟨by omega, by omega⟩ (fun h_88 => ?_) (fun h_88 => ?_)
      · omega
      · refine r_iload S dX4_learn_91 rfl ?_
        refine r_iload_n S dX4_learn_93 rfl ?_
        refine r_mmax S wd_304 ks_max dX4_learn_94 (by decide) ⟨by omega, by omega⟩ ⟨by omega, by omega⟩ ⟨by omega, by omega⟩ (Nat.le_of_ble_eq_true rfl) ?_
        refine r_num (z' := ((max a (K + 1) : Nat) : Int)) (by omega) ?_
        refine r_istore S dX4_learn_97 rfl (by decide) (lv' := [_, _, _, _, _, _, _, _]) rfl ?_
        refine l_learnZ hn he hK hcy hcn hba hbc (by omega) (by omega) he2 he3 kkz S (n + 1 - max a (K + 1)) (max a (K + 1)) (by omega) (by omega) σc F hlf ?_
        rintro ⟨x0, x1, x2, x3⟩ hx hb
        refine hinv _ hx ?_
        simp only [Bf, Dm, Dec] at hb hx ⊢
        omega

set_option maxRecDepth 100000 in
set_option maxHeartbeats 4000000 in
theorem l_learnT {κ : Kx} {k : Cx} {σ : St} {Q : State → Prop} {n e K : Nat} (hn : 1 ≤ n ∧ n ≤ 16) (he : e ≤ 3) (hK : K < n) {ta cy cn : Nat} (hcy : 1 ≤ cy ∧ cy ≤ 4) (hcn : 1 ≤ cn ∧ cn ≤ 4) {F0 kn : Nat → Int} {b1 b2 : Nat} (hb1 : (e < 1 → b1 = 0) ∧ (1 ≤ e → b1 = n)) (hb2 : (e < 2 → b2 = 0) ∧ (2 ≤ e → b2 = n)) {c : Nat} (hcn2 : c ≤ b2) (he3 : e < 3 → c = 0) (kk : ∀ (σc : St) (F : Nat → Int), LF k σ σc ta cy cn F0 F kn → InvL cy cn F n e K c (b2 + 1) 0 0 → V κ k 8 0 0 Q 135 [some (.ref (ta + 8)), some (.int (iZ (n : Int))), some (.int (iZ (e : Int))), some (.int (iZ ((K + 1 : Nat) : Int))), some (.int (iZ (c : Int))), none, none, none] [] σc) (S : Ok κ k cX4_learn 8 RX4 none "learn" 9 0 0) : ∀ (m b : Nat), b + m = b2 + 1 → c ≤ b → ∀ (σc : St) (F : Nat → Int), LF k σ σc ta cy cn F0 F kn → InvL cy cn F n e K c b 0 0 → V κ k 8 0 0 Q 57 [some (.ref (ta + 8)), some (.int (iZ (n : Int))), some (.int (iZ (e : Int))), some (.int (iZ ((K + 1 : Nat) : Int))), some (.int (iZ (c : Int))), some (.int (iZ (b : Int))), none, none] [] σc := by
  intro m
  induction m with
  | zero =>
    intro b hb hcb σc F hlf hinv
    refine r_iload S dX4_learn_57 rfl ?_
    refine r_iload_n S dX4_learn_59 rfl ?_
    refine r_iconst S dX4_learn_60 ?_
    refine r_icmp_ge S dX4_learn_61 (tgt := 68) (by decide) ⟨by omega, by omega⟩ ⟨by omega, by omega⟩ (fun h_61 => ?_) (fun h_61 => ?_)
    · refine r_iload_n S dX4_learn_68 rfl ?_
      refine r_num (z' := (b2 : Int)) (by omega) ?_
      refine r_icmp_gt S dX4_learn_69 (tgt := 135) (by decide) ⟨by omega, by omega⟩ ⟨by omega, by omega⟩ (fun h_69 => ?_) (fun h_69 => ?_)
      · refine V.mask [true, true, true, true, true, false, false, false] (lv' := [_, _, _, _, _, none, none, none]) rfl ?_
        rw [show b = b2 + 1 by omega] at hinv
        exact kk σc F hlf hinv
      · omega
    · refine r_iconst S dX4_learn_64 ?_
      refine r_goto S dX4_learn_65 (tgt := 69) (by decide) ?_
      refine r_num (z' := (b2 : Int)) (by omega) ?_
      refine r_icmp_gt S dX4_learn_69 (tgt := 135) (by decide) ⟨by omega, by omega⟩ ⟨by omega, by omega⟩ (fun h_69 => ?_) (fun h_69 => ?_)
      · refine V.mask [true, true, true, true, true, false, false, false] (lv' := [_, _, _, _, _, none, none, none]) rfl ?_
        rw [show b = b2 + 1 by omega] at hinv
        exact kk σc F hlf hinv
      · omega
  | succ m ih =>
    intro b hb hcb σc F hlf hinv
    have kkz : ∀ (σc : St) (F : Nat → Int), LF k σ σc ta cy cn F0 F kn → InvL cy cn F n e K c b (b1 + 1) 0 → V κ k 8 0 0 Q 129 [some (.ref (ta + 8)), some (.int (iZ (n : Int))), some (.int (iZ (e : Int))), some (.int (iZ ((K + 1 : Nat) : Int))), some (.int (iZ (c : Int))), some (.int (iZ (b : Int))), none, none] [] σc := by
      intro σc F hlf hinv
      refine r_iinc S dX4_learn_129 rfl rfl (by decide) (lv' := [_, _, _, _, _, _, _, _]) rfl ?_
      refine r_goto S dX4_learn_132 (tgt := 57) (by decide) ?_
      refine ih (b + 1) (by omega) (by omega) σc F hlf ?_
      rintro ⟨x0, x1, x2, x3⟩ hx hb
      refine hinv _ hx ?_
      simp only [Bf, Dm, Dec] at hb hx ⊢
      omega
    refine r_iload S dX4_learn_57 rfl ?_
    refine r_iload_n S dX4_learn_59 rfl ?_
    refine r_iconst S dX4_learn_60 ?_
    refine r_icmp_ge S dX4_learn_61 (tgt := 68) (by decide) ⟨by omega, by omega⟩ ⟨by omega, by omega⟩ (fun h_61 => ?_) (fun h_61 => ?_)
    · refine r_iload_n S dX4_learn_68 rfl ?_
      refine r_num (z' := (b2 : Int)) (by omega) ?_
      refine r_icmp_gt S dX4_learn_69 (tgt := 135) (by decide) ⟨by omega, by omega⟩ ⟨by omega, by omega⟩ (fun h_69 => ?_) (fun h_69 => ?_)
      · omega
      · refine r_iload S dX4_learn_72 rfl ?_
        refine r_istore S dX4_learn_74 rfl (by decide) (lv' := [_, _, _, _, _, _, _, _]) rfl ?_
        refine l_learnO hn he hK hcy hcn hb1 hcb (by omega) (by omega) he3 kkz S (b1 + 1 - b) b (by omega) (by omega) σc F hlf ?_
        rintro ⟨x0, x1, x2, x3⟩ hx hb
        refine hinv _ hx ?_
        simp only [Bf, Dm, Dec] at hb hx ⊢
        omega
    · refine r_iconst S dX4_learn_64 ?_
      refine r_goto S dX4_learn_65 (tgt := 69) (by decide) ?_
      refine r_num (z' := (b2 : Int)) (by omega) ?_
      refine r_icmp_gt S dX4_learn_69 (tgt := 135) (by decide) ⟨by omega, by omega⟩ ⟨by omega, by omega⟩ (fun h_69 => ?_) (fun h_69 => ?_)
      · omega
      · refine r_iload S dX4_learn_72 rfl ?_
        refine r_istore S dX4_learn_74 rfl (by decide) (lv' := [_, _, _, _, _, _, _, _]) rfl ?_
        refine l_learnO hn he hK hcy hcn hb1 hcb (by omega) (by omega) he3 kkz S (b1 + 1 - b) b (by omega) (by omega) σc F hlf ?_
        rintro ⟨x0, x1, x2, x3⟩ hx hb
        refine hinv _ hx ?_
        simp only [Bf, Dm, Dec] at hb hx ⊢
        omega

set_option maxRecDepth 100000 in
set_option maxHeartbeats 4000000 in
theorem l_learnH {κ : Kx} {k : Cx} {σ : St} {Q : State → Prop} {n e K : Nat} (hn : 1 ≤ n ∧ n ≤ 16) (he : e ≤ 3) (hK : K < n) {ta cy cn : Nat} (hcy : 1 ≤ cy ∧ cy ≤ 4) (hcn : 1 ≤ cn ∧ cn ≤ 4) {F0 kn : Nat → Int} {b1 b2 b3 : Nat} (hb1 : (e < 1 → b1 = 0) ∧ (1 ≤ e → b1 = n)) (hb2 : (e < 2 → b2 = 0) ∧ (2 ≤ e → b2 = n)) (hb3 : (e < 3 → b3 = 0) ∧ (3 ≤ e → b3 = n)) (kk : ∀ (σc : St) (F : Nat → Int), LF k σ σc ta cy cn F0 F kn → InvL cy cn F n e K (b3 + 1) 0 0 0 → V κ k 8 0 0 Q 141 [some (.ref (ta + 8)), some (.int (iZ (n : Int))), some (.int (iZ (e : Int))), some (.int (iZ ((K + 1 : Nat) : Int))), none, none, none, none] [] σc) (S : Ok κ k cX4_learn 8 RX4 none "learn" 9 0 0) : ∀ (m c : Nat), c + m = b3 + 1 → ∀ (σc : St) (F : Nat → Int), LF k σ σc ta cy cn F0 F kn → InvL cy cn F n e K c 0 0 0 → V κ k 8 0 0 Q 38 [some (.ref (ta + 8)), some (.int (iZ (n : Int))), some (.int (iZ (e : Int))), some (.int (iZ ((K + 1 : Nat) : Int))), some (.int (iZ (c : Int))), none, none, none] [] σc := by
  intro m
  induction m with
  | zero =>
    intro c hc σc F hlf hinv
    refine r_iload S dX4_learn_38 rfl ?_
    refine r_iload_n S dX4_learn_40 rfl ?_
    refine r_iconst S dX4_learn_41 ?_
    refine r_icmp_ge S dX4_learn_42 (tgt := 49) (by decide) ⟨by omega, by omega⟩ ⟨by omega, by omega⟩ (fun h_42 => ?_) (fun h_42 => ?_)
    · refine r_iload_n S dX4_learn_49 rfl ?_
      refine r_num (z' := (b3 : Int)) (by omega) ?_
      refine r_icmp_gt S dX4_learn_50 (tgt := 141) (by decide) ⟨by omega, by omega⟩ ⟨by omega, by omega⟩ (fun h_50 => ?_) (fun h_50 => ?_)
      · refine V.mask [true, true, true, true, false, false, false, false] (lv' := [_, _, _, _, none, none, none, none]) rfl ?_
        rw [show c = b3 + 1 by omega] at hinv
        exact kk σc F hlf hinv
      · omega
    · refine r_iconst S dX4_learn_45 ?_
      refine r_goto S dX4_learn_46 (tgt := 50) (by decide) ?_
      refine r_num (z' := (b3 : Int)) (by omega) ?_
      refine r_icmp_gt S dX4_learn_50 (tgt := 141) (by decide) ⟨by omega, by omega⟩ ⟨by omega, by omega⟩ (fun h_50 => ?_) (fun h_50 => ?_)
      · refine V.mask [true, true, true, true, false, false, false, false] (lv' := [_, _, _, _, none, none, none, none]) rfl ?_
        rw [show c = b3 + 1 by omega] at hinv
        exact kk σc F hlf hinv
      · omega
  | succ m ih =>
    intro c hc σc F hlf hinv
    have kkz : ∀ (σc : St) (F : Nat → Int), LF k σ σc ta cy cn F0 F kn → InvL cy cn F n e K c (b2 + 1) 0 0 → V κ k 8 0 0 Q 135 [some (.ref (ta + 8)), some (.int (iZ (n : Int))), some (.int (iZ (e : Int))), some (.int (iZ ((K + 1 : Nat) : Int))), some (.int (iZ (c : Int))), none, none, none] [] σc := by
      intro σc F hlf hinv
      refine r_iinc S dX4_learn_135 rfl rfl (by decide) (lv' := [_, _, _, _, _, _, _, _]) rfl ?_
      refine r_goto S dX4_learn_138 (tgt := 38) (by decide) ?_
      refine ih (c + 1) (by omega) σc F hlf ?_
      rintro ⟨x0, x1, x2, x3⟩ hx hb
      refine hinv _ hx ?_
      simp only [Bf, Dm, Dec] at hb hx ⊢
      omega
    refine r_iload S dX4_learn_38 rfl ?_
    refine r_iload_n S dX4_learn_40 rfl ?_
    refine r_iconst S dX4_learn_41 ?_
    refine r_icmp_ge S dX4_learn_42 (tgt := 49) (by decide) ⟨by omega, by omega⟩ ⟨by omega, by omega⟩ (fun h_42 => ?_) (fun h_42 => ?_)
    · refine r_iload_n S dX4_learn_49 rfl ?_
      refine r_num (z' := (b3 : Int)) (by omega) ?_
      refine r_icmp_gt S dX4_learn_50 (tgt := 141) (by decide) ⟨by omega, by omega⟩ ⟨by omega, by omega⟩ (fun h_50 => ?_) (fun h_50 => ?_)
      · omega
      · refine r_iload S dX4_learn_53 rfl ?_
        refine r_istore S dX4_learn_55 rfl (by decide) (lv' := [_, _, _, _, _, _, _, _]) rfl ?_
        refine l_learnT hn he hK hcy hcn hb1 hb2 (by omega) (by omega) kkz S (b2 + 1 - c) c (by omega) (by omega) σc F hlf ?_
        rintro ⟨x0, x1, x2, x3⟩ hx hb
        refine hinv _ hx ?_
        simp only [Bf, Dm, Dec] at hb hx ⊢
        omega
    · refine r_iconst S dX4_learn_45 ?_
      refine r_goto S dX4_learn_46 (tgt := 50) (by decide) ?_
      refine r_num (z' := (b3 : Int)) (by omega) ?_
      refine r_icmp_gt S dX4_learn_50 (tgt := 141) (by decide) ⟨by omega, by omega⟩ ⟨by omega, by omega⟩ (fun h_50 => ?_) (fun h_50 => ?_)
      · omega
      · refine r_iload S dX4_learn_53 rfl ?_
        refine r_istore S dX4_learn_55 rfl (by decide) (lv' := [_, _, _, _, _, _, _, _]) rfl ?_
        refine l_learnT hn he hK hcy hcn hb1 hb2 (by omega) (by omega) kkz S (b2 + 1 - c) c (by omega) (by omega) σc F hlf ?_
        rintro ⟨x0, x1, x2, x3⟩ hx hb
        refine hinv _ hx ?_
        simp only [Bf, Dm, Dec] at hb hx ⊢
        omega
