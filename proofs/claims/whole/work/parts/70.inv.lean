/-! the state of both objects; contracts, weakened -/
theorem Ctr.mono {k : Cx} {l : Launch} {M : Mth} {h mc ms : Nat} {av : List Value} {σ : St} {post post' : Option Value → St → Prop} (C : Ctr k l M h mc ms av σ post) (hm : ∀ r σ', post r σ' → post' r σ') : Ctr k l M h mc ms av σ post' := by
  intro p e ha hc hk s m args below hf happ hP hK
  obtain ⟨n, o, h1, h2, h3, ⟨⟨r, σ', e1, hp, hR⟩, hF⟩, hL⟩ := C p e ha hc hk s m args below hf happ hP hK
  exact ⟨n, o, h1, h2, h3, ⟨⟨r, σ', e1, hm r σ' hp, hR⟩, hF⟩, hL⟩
theorem CtrV.mono {k : Cx} {l : Launch} {M : Mth} {h mc ms : Nat} {av : List Value} {σ : St} {P P' : Value → St → Prop} (C : CtrV k l M h mc ms av σ P) (hm : ∀ v σ', P v σ' → P' v σ') : CtrV k l M h mc ms av σ P' :=
  Ctr.mono C (fun r σ' ⟨v, e, hp⟩ => ⟨v, e, hm v σ' hp⟩)
theorem CtrU.mono {k : Cx} {l : Launch} {M : Mth} {h mc ms : Nat} {av : List Value} {σ : St} {P P' : St → Prop} (C : CtrU k l M h mc ms av σ P) (hm : ∀ σ', P σ' → P' σ') : CtrU k l M h mc ms av σ P' :=
  Ctr.mono C (fun r σ' ⟨e, hp⟩ => ⟨e, hm σ' hp⟩)
/-- a table of heaps at t, for kind j; with so many NUMBERS and LIES known -/
def HB (k : Cx) (σ : St) (t j : Nat) (ow : Nat → Nat) (nn ee : Nat) : Prop :=
  cBase k + 25 ≤ t ∧ t + 10 ≤ σ.1 ∧ (∀ a, t ≤ a → a < t + 10 → ow a = j) ∧ ∃ F kn : Nat → Int, Tb k σ t (cyK j) (cnK j) F ∧ Tl k σ t (cyK j) (cnK j) ∧ σ.2 (t + 8) = some (oHT t) ∧ σ.2 (t + 9) = some (eI k 4 kn) ∧ KnOk (cyK j) (cnK j) F kn ∧ (nn : Int) ≤ kn ee
def IH (k : Cx) (σ : St) (hq : Nat → Option Nat) (ow : Nat → Nat) (on kd n e : Nat) : Prop :=
  ∀ j, j < 3 → (hq j = none ∧ ¬ (on = 1 ∧ kd = j)) ∨ ∃ t, hq j = some (t + 8) ∧ HB k σ t j ow (if on = 1 ∧ kd = j then n else 0) e
def SB (k : Cx) (σ : St) (u j : Nat) (ow : Nat → Nat) : Prop :=
  cBase k + 25 ≤ u ∧ u + 2 ≤ σ.1 ∧ (∀ a, u ≤ a → a < u + 2 → ow a = 3 + j) ∧ ∃ kn : Nat, kn ≤ 4096 ∧ σ.2 u = some (oSp u (py j : Int) (pn j : Int) (kn : Int)) ∧ σ.2 (u + 1) = some (eI k 4096 (fun x => ((FsN j kn x : Nat) : Int)))
def IS (k : Cx) (σ : St) (sq : Nat → Option Nat) (ow : Nat → Nat) : Prop :=
  ∀ j, j < 3 → sq j = none ∨ ∃ u, sq j = some u ∧ SB k σ u j ow
def TBs (k : Cx) (σ : St) (on kd n e : Nat) : Prop := ∃ (hq sq : Nat → Option Nat) (ow : Nat → Nat), σ.2 (cBase k + 7) = some (eQ (cQH k) 3 hq) ∧ σ.2 (cBase k + 8) = some (eQ (cQS k) 3 sq) ∧ IH k σ hq ow on kd n e ∧ IS k σ sq ow
theorem Tb.fr {k : Cx} {σ σ' : St} {t cy cn : Nat} {F : Nat → Int} (h : Tb k σ t cy cn F) (hf : ∀ a, t ≤ a → a < t + 4 → σ'.2 a = σ.2 a) : Tb k σ' t cy cn F := by
  obtain ⟨h1, h2, ⟨g, h3⟩, ⟨hv, h4, h5⟩, tk, h6, h7⟩ := h
  exact ⟨(hf _ (by omega) (by omega)).trans h1, h2, ⟨g, (hf _ (by omega) (by omega)).trans h3⟩, ⟨hv, h4, (hf _ (by omega) (by omega)).trans h5⟩, tk, h6, (hf _ (by omega) (by omega)).trans h7⟩
theorem Tl.fr {k : Cx} {σ σ' : St} {t cy cn : Nat} (h : Tl k σ t cy cn) (hf : ∀ a, t + 4 ≤ a → a < t + 8 → σ'.2 a = σ.2 a) : Tl k σ' t cy cn := by
  obtain ⟨⟨g, ls, h1⟩, ⟨hv, h2, h3⟩, ⟨tk, h4, h5⟩, w, h6, h7⟩ := h
  exact ⟨⟨g, ls, (hf _ (by omega) (by omega)).trans h1⟩, ⟨hv, h2, (hf _ (by omega) (by omega)).trans h3⟩, ⟨tk, h4, (hf _ (by omega) (by omega)).trans h5⟩, w, h6, (hf _ (by omega) (by omega)).trans h7⟩
theorem HB.fr {k : Cx} {σ σ' : St} {t j : Nat} {ow ow' : Nat → Nat} {nn ee : Nat} (h : HB k σ t j ow nn ee) (hs : σ.1 ≤ σ'.1) (ho : ∀ a, t ≤ a → a < t + 10 → ow' a = ow a) (hf : ∀ a, t ≤ a → a < t + 10 → σ'.2 a = σ.2 a) : HB k σ' t j ow' nn ee := by
  obtain ⟨h1, h2, h3, F, kn, h4, h5, h6, h7, h8⟩ := h
  exact ⟨h1, by omega, fun a ha hb => (ho a ha hb).trans (h3 a ha hb), F, kn, h4.fr (fun a ha hb => hf a ha (by omega)), h5.fr (fun a ha hb => hf a (by omega) (by omega)), (hf _ (by omega) (by omega)).trans h6, (hf _ (by omega) (by omega)).trans h7, h8⟩
theorem HB.weak {k : Cx} {σ : St} {t j : Nat} {ow : Nat → Nat} {nn ee ee' : Nat} (h : HB k σ t j ow nn ee) : HB k σ t j ow 0 ee' := by
  obtain ⟨h1, h2, h3, F, kn, h4, h5, h6, h7, h8, h9⟩ := h
  exact ⟨h1, h2, h3, F, kn, h4, h5, h6, h7, h8, (h8.1 ee').1⟩
theorem IH.weak {k : Cx} {σ : St} {hq : Nat → Option Nat} {ow : Nat → Nat} {on kd n e n' e' kd' : Nat} (h : IH k σ hq ow on kd n e) : IH k σ hq ow 0 kd' n' e' := by
  intro j hj
  rcases h j hj with ⟨h1, h2⟩ | ⟨t, h1, h2⟩
  · exact Or.inl ⟨h1, fun z => absurd z.1 (by decide)⟩
  · refine Or.inr ⟨t, h1, ?_⟩
    rw [if_neg (fun z => absurd z.1 (by decide))]
    exact h2.weak
theorem SB.fr {k : Cx} {σ σ' : St} {u j : Nat} {ow ow' : Nat → Nat} (h : SB k σ u j ow) (hs : σ.1 ≤ σ'.1) (ho : ∀ a, u ≤ a → a < u + 2 → ow' a = ow a) (hf : ∀ a, u ≤ a → a < u + 2 → σ'.2 a = σ.2 a) : SB k σ' u j ow' := by
  obtain ⟨h1, h2, h3, kn, h4, h5, h6⟩ := h
  exact ⟨h1, by omega, fun a ha hb => (ho a ha hb).trans (h3 a ha hb), kn, h4, (hf _ (by omega) (by omega)).trans h5, (hf _ (by omega) (by omega)).trans h6⟩
theorem IH.fr {k : Cx} {σ σ' : St} {hq : Nat → Option Nat} {ow : Nat → Nat} {on kd n e : Nat} (h : IH k σ hq ow on kd n e) (hs : σ.1 ≤ σ'.1) (hf : ∀ a, cBase k + 25 ≤ a → a < σ.1 → σ'.2 a = σ.2 a) : IH k σ' hq ow on kd n e := by
  intro j hj
  rcases h j hj with h1 | ⟨t, h1, h2⟩
  · exact Or.inl h1
  · have h3 := h2.1
    have h4 := h2.2.1
    exact Or.inr ⟨t, h1, h2.fr hs (fun _ _ _ => rfl) (fun a ha hb => hf a (by omega) (by omega))⟩
theorem IS.fr {k : Cx} {σ σ' : St} {sq : Nat → Option Nat} {ow : Nat → Nat} (h : IS k σ sq ow) (hs : σ.1 ≤ σ'.1) (hf : ∀ a, cBase k + 25 ≤ a → a < σ.1 → σ'.2 a = σ.2 a) : IS k σ' sq ow := by
  intro j hj
  rcases h j hj with h1 | ⟨u, h1, h2⟩
  · exact Or.inl h1
  · have h3 := h2.1
    have h4 := h2.2.1
    exact Or.inr ⟨u, h1, h2.fr hs (fun _ _ _ => rfl) (fun a ha hb => hf a (by omega) (by omega))⟩
theorem TBs.fr {k : Cx} {σ σ' : St} {on kd n e : Nat} (h : TBs k σ on kd n e) (hs : σ.1 ≤ σ'.1) (h7 : σ'.2 (cBase k + 7) = σ.2 (cBase k + 7)) (h8 : σ'.2 (cBase k + 8) = σ.2 (cBase k + 8)) (hf : ∀ a, cBase k + 25 ≤ a → a < σ.1 → σ'.2 a = σ.2 a) : TBs k σ' on kd n e := by
  obtain ⟨hq, sq, ow, a1, a2, a3, a4⟩ := h
  exact ⟨hq, sq, ow, h7.trans a1, h8.trans a2, a3.fr hs hf, a4.fr hs hf⟩
theorem IH.other {k : Cx} {σ σ' : St} {hq : Nat → Option Nat} {ow : Nat → Nat} {on kd n e j0 : Nat} (h : IH k σ hq ow on kd n e) (hs : σ.1 ≤ σ'.1) (hf : ∀ a, cBase k + 25 ≤ a → a < σ.1 → ow a ≠ j0 → σ'.2 a = σ.2 a) : ∀ j, j < 3 → j ≠ j0 → (hq j = none ∧ ¬ (on = 1 ∧ kd = j)) ∨ ∃ t, hq j = some (t + 8) ∧ HB k σ' t j ow (if on = 1 ∧ kd = j then n else 0) e := by
  intro j hj hne
  rcases h j hj with h1 | ⟨t, h1, h2⟩
  · exact Or.inl h1
  · have h3 := h2.1
    have h4 := h2.2.1
    exact Or.inr ⟨t, h1, h2.fr hs (fun _ _ _ => rfl) (fun a ha hb => hf a (by omega) (by omega) (by rw [h2.2.2.1 a ha hb]; exact hne))⟩
theorem IS.other {k : Cx} {σ σ' : St} {sq : Nat → Option Nat} {ow : Nat → Nat} {j0 : Nat} (h : IS k σ sq ow) (hs : σ.1 ≤ σ'.1) (hf : ∀ a, cBase k + 25 ≤ a → a < σ.1 → ow a ≠ j0 → σ'.2 a = σ.2 a) : ∀ j, j < 3 → 3 + j ≠ j0 → sq j = none ∨ ∃ u, sq j = some u ∧ SB k σ' u j ow := by
  intro j hj hne
  rcases h j hj with h1 | ⟨u, h1, h2⟩
  · exact Or.inl h1
  · have h3 := h2.1
    have h4 := h2.2.1
    exact Or.inr ⟨u, h1, h2.fr hs (fun _ _ _ => rfl) (fun a ha hb => hf a (by omega) (by omega) (by rw [h2.2.2.1 a ha hb]; exact hne))⟩
/-- the class's small cells that no game touches -/
def Cor (k : Cx) (σ : St) (tb : Int) : Prop := σ.2 (cBase k) = some (oX k tb) ∧ (∃ lq : Nat → Option Nat, σ.2 (cBase k + 1) = some (eQ (cQL k) 3 lq) ∧ lq 0 = some (cBase k + 2) ∧ lq 1 = some (cBase k + 3) ∧ lq 2 = some (cBase k + 4)) ∧ σ.2 (cBase k + 2) = some (.inr (6, [])) ∧ σ.2 (cBase k + 3) = some (.inr (1, [])) ∧ σ.2 (cBase k + 4) = some (.inr (9, [])) ∧ ∃ z : Int, σ.2 (cBase k + 6) = some (oTally z)
theorem Cor.fr {k : Cx} {σ σ' : St} {tb : Int} (h : Cor k σ tb) (hf : ∀ a, a < cBase k + 5 → σ'.2 a = σ.2 a) {z' : Int} (hz : σ'.2 (cBase k + 6) = some (oTally z')) : Cor k σ' tb := by
  obtain ⟨h1, ⟨lq, h2, h3, h4, h5⟩, h6, h7, h8, h9⟩ := h
  exact ⟨(hf _ (by omega)).trans h1, ⟨lq, (hf _ (by omega)).trans h2, h3, h4, h5⟩, (hf _ (by omega)).trans h6, (hf _ (by omega)).trans h7, (hf _ (by omega)).trans h8, z', hz⟩
theorem Cor.fr' {k : Cx} {σ σ' : St} {tb : Int} (h : Cor k σ tb) (hf : ∀ a, a < cBase k + 5 → σ'.2 a = σ.2 a) (h6 : σ'.2 (cBase k + 6) = σ.2 (cBase k + 6)) : Cor k σ' tb := by
  obtain ⟨z, hz⟩ := h.2.2.2.2.2
  exact h.fr hf (h6.trans hz)
def GmX (k : Cx) (σ : St) (on kd n e an : Nat) (wt : Int) (Ls : Nat → Nat → Int) : Prop :=
  (∃ yp np : Int, σ.2 (cBase k + 9) = some (oGame k on kd n e an wt yp np) ∧ (on = 1 → yp = costK kd 1 0 ∧ np = costK kd 0 1)) ∧ ∃ f : Nat → Int, σ.2 (cBase k + 10) = some (eI k 992 f) ∧ (∀ j, -1 ≤ f j ∧ f j ≤ 3) ∧ ∀ a, a ≤ an → ∀ i, i < n → f (a * 16 + i) = Ls a i
def CdX (k : Cx) (σ : St) (q : Nat) (qs : Nat → Nat) : Prop := σ.2 (cBase k + 11) = some (oCode k q) ∧ σ.2 (cBase k + 12) = some (eI k 12 (fun j => (qs j : Int))) ∧ ∃ w : Nat → Int, σ.2 (cBase k + 13) = some (eI k 16 w) ∧ ∀ i, i < 16 → w i = (wd qs q i : Int)
def IX (k : Cx) (σ : St) (on kd n e an : Nat) (wt tb : Int) (q : Nat) (qs : Nat → Nat) (tr : Int) (Ls : Nat → Nat → Int) : Prop :=
  cBase k + 25 ≤ σ.1 ∧ Cor k σ tb ∧ σ.2 (cBase k + 5) = some (oTally tr) ∧ GmX k σ on kd n e an wt Ls ∧ CdX k σ q qs ∧ TBs k σ on kd n e
def IM (k : Cx) (σ : St) (on kd n e an : Nat) (wt tb : Int) (q : Nat) (qs : Nat → Nat) (tr : Int) (Ls : Nat → Nat → Int) : Prop :=
  ∃ sk sm : Int, σ.2 (cBase k + 14) = some (oModel k on kd n e an wt tb q tr sk sm) ∧ (-1 ≤ sk ∧ sk ≤ 3) ∧ (0 ≤ sm ∧ sm ≤ 16) ∧ (∃ l : Nat → Int, σ.2 (cBase k + 15) = some (eI k 16 l) ∧ (∀ j, -1 ≤ l j ∧ l j ≤ 3) ∧ ∀ i, i < n → l i = Ls an i) ∧ (∃ b : Nat → Int, σ.2 (cBase k + 16) = some (eI k 976 b) ∧ (∀ j, -1 ≤ b j ∧ b j ≤ 3) ∧ ∀ a, a < an → ∀ i, i < n → b (16 * a + i) = Ls a i) ∧
    σ.2 (cBase k + 17) = some (eI k 12 (fun j => (qs j : Int))) ∧ (∃ C : Nat → Int, σ.2 (cBase k + 19) = some (eI k 4096 C) ∧ SpI sk sm C) ∧ WS k σ
def WF (on kd n e an : Nat) (wt : Int) (q : Nat) (qs : Nat → Nat) (Ls : Nat → Nat → Int) : Prop :=
  on < 2 ∧ kd < 3 ∧ n ≤ 16 ∧ e ≤ 3 ∧ an ≤ 60 ∧ q ≤ 12 ∧ (∀ j, qs j < 65536) ∧ (wt = -1 ∨ ∃ b : Nat, wt = (b : Int) ∧ b < 2 ^ n) ∧ (on = 1 → 1 ≤ n) ∧ (∀ a, a ≤ an → ∀ i, i < n → -1 ≤ Ls a i ∧ Ls a i ≤ (e : Int)) ∧ (on = 1 → ∀ a, a ≤ an → 1 ≤ (hQ (Ls a) 0 n).1)
def Inv (k : Cx) (σ : St) : Prop := ∃ (on kd n e an : Nat) (wt tb : Int) (q : Nat) (qs : Nat → Nat) (tr : Int) (Ls : Nat → Nat → Int), WF on kd n e an wt q qs Ls ∧ IX k σ on kd n e an wt tb q qs tr Ls ∧ IM k σ on kd n e an wt tb q qs tr Ls
abbrev vI (v : Value) : Prop := ∃ z : Int, v = .int (iZ z)
abbrev vL (v : Value) : Prop := ∃ z : Int, v = .long (lZ z)
/-- both answer alike, and the state holds behind both -/
def BB (k : Cx) (L0 : Launch) (T : Value → Prop) (M1 : Mth) (h1 mc ms : Nat) (M2 : Mth) (h2 : Nat) (as_ : List Value) (σ : St) : Prop :=
  ∃ v : Value, T v ∧ CtrV k L0 M1 h1 mc ms (.ref (cBase k) :: as_) σ (fun v1 σ1 => v1 = v ∧ (∃ fs : List Value, σ1.2 (cBase k + 14) = some (.inr (11, fs))) ∧ CtrV k L0 M2 h2 0 0 (.ref (cBase k + 14) :: as_) σ1 (fun v2 σ2 => v2 = v ∧ Inv k σ2))
theorem Inv.x {k : Cx} {σ : St} (h : Inv k σ) : ∃ fs : List Value, σ.2 (cBase k) = some (.inr (10, fs)) := by
  obtain ⟨on, kd, n, e, an, wt, tb, q, qs, tr, Ls, -, hX, -⟩ := h
  exact ⟨_, hX.2.1.1⟩
theorem Inv.m {k : Cx} {σ : St} (h : Inv k σ) : ∃ fs : List Value, σ.2 (cBase k + 14) = some (.inr (11, fs)) := by
  obtain ⟨on, kd, n, e, an, wt, tb, q, qs, tr, Ls, -, -, sk, sm, hM, -⟩ := h
  exact ⟨_, hM⟩
/-- frames: what the class leaves, what the reference leaves -/
theorem IM.fr {k : Cx} {σ σ' : St} {on kd n e an : Nat} {wt tb : Int} {q : Nat} {qs : Nat → Nat} {tr : Int} {Ls : Nat → Nat → Int} (h : IM k σ on kd n e an wt tb q qs tr Ls) (hf : ∀ a, cBase k + 14 ≤ a → a < cBase k + 25 → σ'.2 a = σ.2 a) : IM k σ' on kd n e an wt tb q qs tr Ls := by
  obtain ⟨sk, sm, h1, h2, h3, ⟨l, h4, h5⟩, ⟨b, h6, h7⟩, h8, ⟨C, h9, h10⟩, h11⟩ := h
  exact ⟨sk, sm, (hf _ (by omega) (by omega)).trans h1, h2, h3, ⟨l, (hf _ (by omega) (by omega)).trans h4, h5⟩, ⟨b, (hf _ (by omega) (by omega)).trans h6, h7⟩, (hf _ (by omega) (by omega)).trans h8, ⟨C, (hf _ (by omega) (by omega)).trans h9, h10⟩, h11.fr (fun a ha hb => hf a (by omega) hb)⟩
theorem IX.fr {k : Cx} {σ σ' : St} {on kd n e an : Nat} {wt tb : Int} {q : Nat} {qs : Nat → Nat} {tr : Int} {Ls : Nat → Nat → Int} (h : IX k σ on kd n e an wt tb q qs tr Ls) (hs : σ'.1 = σ.1) (hf : ∀ a, (a < cBase k + 14 ∨ cBase k + 25 ≤ a) → σ'.2 a = σ.2 a) : IX k σ' on kd n e an wt tb q qs tr Ls := by
  obtain ⟨h1, h2, h3, ⟨⟨yp, np, h4, h5⟩, f, h6, h7⟩, ⟨h8, h9, w, h10, h11⟩, h12⟩ := h
  exact ⟨by omega, h2.fr' (fun a ha => hf a (by omega)) (hf _ (by omega)), (hf _ (by omega)).trans h3, ⟨⟨yp, np, (hf _ (by omega)).trans h4, h5⟩, f, (hf _ (by omega)).trans h6, h7⟩, ⟨(hf _ (by omega)).trans h8, (hf _ (by omega)).trans h9, w, (hf _ (by omega)).trans h10, h11⟩, h12.fr (by omega) (hf _ (by omega)) (hf _ (by omega)) (fun a ha _ => hf a (by omega))⟩
/-- a row of LEFT is one of those that the table knows -/
theorem row_Dm {l : Nat → Int} {n e : Nat} (hl : ∀ i, i < n → l i ≤ (e : Int)) : Dm n e (hQ l 0 n) := by
  have g : ∀ z : Int, (e : Int) < z → cnt (fun i => decide (z ≤ l (0 + i))) n = 0 := by
    intro z hz
    have h0 : cnt (fun i => decide (z ≤ l (0 + i))) n = cnt (fun _ => false) n := cnt_congr (fun i hi => by rw [Nat.zero_add]; have := hl i hi; exact decide_eq_false (by omega))
    rw [h0]
    exact cnt_none (fun _ => rfl) n
  exact ⟨hQ_dec l 0 n, hQ_le l 0 n, fun h => g 1 (by omega), fun h => g 2 (by omega), fun h => g 3 (by omega)⟩
theorem Dm.le {n e : Nat} {x y : Q4} (h : Dm n e x) (hd : Dec y) (hl : leQ y x) : Dm n e y := by
  obtain ⟨h1, h2, h3, h4, h5⟩ := h
  obtain ⟨l1, l2, l3, l4⟩ := hl
  exact ⟨hd, by omega, fun z => by have := h3 z; omega, fun z => by have := h4 z; omega, fun z => by have := h5 z; omega⟩
theorem Kn_few {cy cn : Nat} {F kn : Nat → Int} (hk : KnOk cy cn F kn) {n e : Nat} (he : e ≤ 3) (hn : (n : Int) ≤ kn e) {x : Q4} (hx : Dm n e x) : F (plQ x) = (fewN cy cn x : Int) := by
  obtain ⟨v, h1, h2⟩ := hk.2 e (by omega) n hn x hx
  rw [h1, fewN_eq h2]
