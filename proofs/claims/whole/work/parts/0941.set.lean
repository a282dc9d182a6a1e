/-! writes to the town and to the reference's object -/
def Sg.sT (σ : Sg) (t : Tn) : Sg := mkSg t σ.im σ.tp σ.tb σ.ln σ.lw
def Sg.sP (σ : Sg) (tp : Nat) (tb : Nat → Int32) : Sg := mkSg σ.t σ.im tp tb σ.ln σ.lw
def Tn.sNow (t : Tn) (x : Int32) : Tn := mkTn x t.st t.bt t.ft t.pr t.n t.c t.w t.ho t.nb t.bk t.fm
def Tn.sSt (t : Tn) (x : Int32) : Tn := mkTn t.now x t.bt t.ft t.pr t.n t.c t.w t.ho t.nb t.bk t.fm
theorem ad_ne {al : Al} {B o o' j j' : Nat} (hA : AlOK al) (h1 : al.mk o = true) (h2 : al.mk o' = true) (hne : o ≠ o') (hj : j < 3) (hj' : j' < 3) : al.ad B o + j ≠ al.ad B o' + j' := by
  intro e
  unfold Al.ad at e
  have : al.gid o ≠ al.gid o' := fun z => hne (hA.1 _ _ h1 h2 z)
  omega
theorem XT_mk {al : Al} {B i : Nat} {t : Tn} {h : aH} (hT : XT al B i t h) {k : Nat} (hk : k < t.n) : al.mk (24 * i + k) = true := by
  obtain ⟨f, ⟨⟨t1, t2, t3, t4⟩, t5, t6⟩, h2⟩ := hT
  have a := (t4 k hk).1
  rw [h2 k (by omega)] at a
  by_cases c : al.mk (24 * i + k) = true
  · exact c
  · rw [if_neg c] at a
    cases a
theorem XT_n {al : Al} {B i : Nat} {t : Tn} {h : aH} (hT : XT al B i t h) : t.n ≤ 24 := by
  obtain ⟨f, ⟨⟨t1, t2, t3, t4⟩, t5, t6⟩, h2⟩ := hT
  exact t1
/-- only the own town has changed -/
theorem XI_t {σ : Sg} {al : Al} {B : Nat} {h h' : aH} {t' : Tn} (hA : AlOK al) (hX : XI σ al B h)
    (hf : ∀ q, XF B q → q ≠ B + 1 → q ≠ B + 3 → (∀ k j, k < 24 → j < 3 → al.mk k = true → q ≠ al.ad B k + j) → h'.2.1 q = h.2.1 q)
    (hT : XT al B 0 t' h') (hs : ∀ k, k < 24 → al.mk k = true → SSh h' (al.ad B k)) : XI (σ.sT t') al B h' := by
  have sep : ∀ o j, 24 ≤ o → al.mk o = true → j < 3 → h'.2.1 (al.ad B o + j) = h.2.1 (al.ad B o + j) := fun o j ho hm hj => by
    have g := ad_ge (al := al) (B := B) (o := o)
    exact hf _ (Or.inr (Or.inr (by omega))) (by omega) (by omega) (fun k j' hk hj' hmk => ad_ne hA hm hmk (by omega) hj hj')
  have low : ∀ q, q < B + 70 → XF B q → q ≠ B + 1 → q ≠ B + 3 → h'.2.1 q = h.2.1 q := fun q hq hF h1 h3 => hf q hF h1 h3 (fun k j _ _ _ => by have := ad_ge (al := al) (B := B) (o := k); omega)
  refine ⟨?_, ?_, ?_, ?_, hT, ?_, hX.imn, ?_, ?_, hX.lwn⟩
  · rw [oF_c (low B (by omega) (Or.inl (by omega)) (by omega) (by omega))]; exact hX.o
  · rw [aI_c (low (B + 5) (by omega) (Or.inl (by omega)) (by omega) (by omega))]; exact hX.tb
  · rw [aR_c (low (B + 4) (by omega) (Or.inl (by omega)) (by omega) (by omega))]; exact hX.imr
  · rw [aR_c (low (B + 13) (by omega) (Or.inr (Or.inl rfl)) (by omega) (by omega))]; exact hX.lwr
  · intro i hi t ht
    obtain ⟨m1, m2⟩ := hX.im i hi t ht
    refine ⟨m1, ?_⟩
    have hmk := fun k hk => XT_mk m2 (k := k) hk
    obtain ⟨f, w1, w2⟩ := m2
    refine ⟨f, TW_fr (fun j hj => ?_) (fun k hk j hj => ?_) w1, w2⟩
    · have e : tA al B (i + 1) = al.ad B (120 + i) := by
        unfold tA
        rw [if_neg (by omega)]
        congr 1
        omega
      rw [e]
      exact sep _ j (by omega) m1 hj
    · exact sep _ j (by omega) (hmk k hk) hj
  · intro o ho hm
    by_cases c : o < 24
    · exact hs o c hm
    · exact SSh_fr (fun j hj => sep o j (by omega) hm hj) (hX.ss o ho hm)
  · intro r hr
    obtain ⟨m1, m2⟩ := hX.lw r hr
    exact ⟨m1, LSh_fr (fun j hj => sep _ j (by omega) m1 hj) m2⟩
theorem Iv_X {σ σ' τ : Sg} {al : Al} {G : aG} {h h' : aH} (hI : Iv σ τ al G h) (h1 : h'.1 = h.1) (h3 : h'.2.2 = h.2.2) (hf : ∀ q, ¬ XF G.1 q → h'.2.1 q = h.2.1 q) (hX : XI σ' al G.1 h') : Iv σ' τ al G h' := by
  refine ⟨hX, ?_, ?_, ?_, ?_, hI.al, ?_, hI.lt⟩
  · exact MY_fr (fun q hq => hf q (by unfold MF at hq; unfold XF; omega)) hI.m
  · exact Shp_fr (fun o ho => hf _ (by
      unfold scr at ho
      simp at ho
      unfold XF
      omega)) hI.s
  · rw [h1]; exact hI.z
  · rw [h3]; exact hI.z2
  · rw [hf _ (by have := hI.lt; unfold XF; omega)]; exact hI.nn
theorem Iv_M {σ τ τ' : Sg} {al : Al} {G : aG} {h h' : aH} (hI : Iv σ τ al G h) (h1 : h'.1 = h.1) (h3 : h'.2.2 = h.2.2) (hf : ∀ q, ¬ MF G.1 q → h'.2.1 q = h.2.1 q) (hM : MY τ' G.1 h') : Iv σ τ' al G h' := by
  refine ⟨?_, hM, ?_, ?_, ?_, hI.al, ?_, hI.lt⟩
  · exact XI_fr (fun q hq => hf q (by unfold XF at hq; unfold MF; omega)) hI.x
  · exact Shp_fr (fun o ho => hf _ (by
      unfold scr at ho
      simp at ho
      unfold MF
      omega)) hI.s
  · rw [h1]; exact hI.z
  · rw [h3]; exact hI.z2
  · rw [hf _ (by have := hI.lt; unfold MF; omega)]; exact hI.nn
/-- only numbers of the reference's object have changed -/
theorem MY_ob {τ τ' : Sg} {B : Nat} {h : aH} {s : Ms} (hM : MY τ B h) (e : (τ'.t.c, τ'.t.w, τ'.t.ho, τ'.t.nb, τ'.t.bk, τ'.t.fm, τ'.tb, τ'.ln, τ'.lw, τ'.im) = (τ.t.c, τ.t.w, τ.t.ho, τ.t.nb, τ.t.bk, τ.t.fm, τ.tb, τ.ln, τ.lw, τ.im)) : MY τ' B (hup h (B + 40) (.inr (11, mq B τ' s))) := by
  have ne : ∀ j, 41 ≤ j → (hup h (B + 40) (.inr (11, mq B τ' s))).2.1 (B + j) = h.2.1 (B + j) := fun j hj => hup_ne (by omega)
  simp only [Prod.mk.injEq] at e
  obtain ⟨e1, e2, e3, e4, e5, e6, e7, e8, e9, e10⟩ := e
  refine ⟨⟨s, oF_of hup_eq⟩, ?_, ?_, ?_, ?_, ?_, ?_, ?_, ?_, ?_, ?_⟩
  · rw [aI_c (ne 41 (by decide)), e1]; exact hM.c
  · rw [aI_c (ne 42 (by decide)), e2]; exact hM.w
  · rw [aI_c (ne 43 (by decide)), e3]; exact hM.ho
  · rw [aI_c (ne 44 (by decide)), e4]; exact hM.nb
  · rw [aI_c (ne 45 (by decide)), e5]; exact hM.bk
  · rw [aI_c (ne 46 (by decide)), e6]; exact hM.fm
  · rw [aI_c (ne 47 (by decide)), e7]; exact hM.tb
  · rw [aI_c (ne 48 (by decide)), aI_c (ne 49 (by decide)), aI_c (ne 50 (by decide)), aI_c (ne 51 (by decide)), aI_c (ne 52 (by decide)), aI_c (ne 53 (by decide)), aI_c (ne 54 (by decide)), e8, e9]; exact hM.lw
  · rw [aI_c (ne 67 (by decide)), e10]; exact hM.im
  · rw [aI_c (ne 69 (by decide)), e10]; exact hM.mk
theorem Iv_ob {σ τ τ' : Sg} {al : Al} {G : aG} {h : aH} {s : Ms} (hI : Iv σ τ al G h) (e : (τ'.t.c, τ'.t.w, τ'.t.ho, τ'.t.nb, τ'.t.bk, τ'.t.fm, τ'.tb, τ'.ln, τ'.lw, τ'.im) = (τ.t.c, τ.t.w, τ.t.ho, τ.t.nb, τ.t.bk, τ.t.fm, τ.tb, τ.ln, τ.lw, τ.im)) : Iv σ τ' al G (hup h (G.1 + 40) (.inr (11, mq G.1 τ' s))) :=
  Iv_M hI rfl rfl (fun q hq => hup_ne (by unfold MF at hq; omega)) (MY_ob hI.m e)
/-- the own town's object with other numbers -/
theorem Iv_tob {σ τ : Sg} {al : Al} {G : aG} {h : aH} {t' : Tn} (hI : Iv σ τ al G h) (e : (t'.n, t'.c, t'.w, t'.ho, t'.nb, t'.bk, t'.fm) = (σ.t.n, σ.t.c, σ.t.w, σ.t.ho, σ.t.nb, σ.t.bk, σ.t.fm)) : Iv (σ.sT t') τ al G (hup h (G.1 + 1) (.inr (9, [.int t'.now, .int t'.st, .int (nI t'.n), .int t'.bt, .int t'.ft, .ref (G.1 + 1 + 1), .ref (G.1 + 1 + 2)]))) := by
  refine Iv_X hI rfl rfl (fun q hq => hup_ne (by unfold XF at hq; omega)) (XI_t hI.al hI.x (fun q _ h1 _ _ => hup_ne h1) ?_ ?_)
  · obtain ⟨f, ⟨⟨t1, t2, t3, t4⟩, t5, t6⟩, h2⟩ := hI.x.t
    simp only [Prod.mk.injEq] at e
    obtain ⟨e1, e2, e3, e4, e5, e6, e7⟩ := e
    have ne : ∀ q, q ≠ G.1 + 1 → (hup h (G.1 + 1) (.inr (9, [.int t'.now, .int t'.st, .int (nI t'.n), .int t'.bt, .int t'.ft, .ref (G.1 + 1 + 1), .ref (G.1 + 1 + 2)]))).2.1 q = h.2.1 q := fun q hq => hup_ne hq
    have g : ∀ k, G.1 + 70 ≤ (fun k => al.ad G.1 (24 * 0 + k)) k := fun k => ad_ge
    refine ⟨f, ⟨⟨by rw [e1]; exact t1, oF_of hup_eq, ?_, ?_⟩, ?_, ?_⟩, h2⟩
    · rw [aR_c (ne _ (by show G.1 + 1 + 1 ≠ _; omega))]; exact t3
    · intro k hk
      rw [e1] at hk
      refine ⟨(t4 k hk).1, ?_⟩
      rw [oF_c (ne _ (by have := g k; omega)), e2, e3, e4, e5]
      exact (t4 k hk).2
    · rw [aI_c (ne _ (by show G.1 + 1 + 2 ≠ _; omega)), e1, e4, e5]; exact t5
    · intro k hk
      rw [e1] at hk
      rw [aI_c (ne _ (by have := g k; omega)), aI_c (ne _ (by have := g k; omega)), e6, e7]
      exact t6 k hk
  · intro k hk hm
    exact SSh_fr (fun j hj => hup_ne (by have := ad_ge (al := al) (B := G.1) (o := k); omega)) (hI.x.ss k (by omega) hm)
/-- the class's own object with another tape size -/
theorem Iv_tp {σ τ : Sg} {al : Al} {G : aG} {h : aH} {tp : Nat} (hI : Iv σ τ al G h) : Iv (σ.sP tp σ.tb) τ al G (hup h G.1 (.inr (10, xo G.1 tp σ.ln))) := by
  have ne : ∀ q, q ≠ G.1 → (hup h G.1 (.inr (10, xo G.1 tp σ.ln))).2.1 q = h.2.1 q := fun q hq => hup_ne hq
  refine Iv_X hI rfl rfl (fun q hq => hup_ne (by unfold XF at hq; omega)) ?_
  have g : ∀ o j, j < 3 → (hup h G.1 (.inr (10, xo G.1 tp σ.ln))).2.1 (al.ad G.1 o + j) = h.2.1 (al.ad G.1 o + j) := fun o j hj => ne _ (by have := ad_ge (al := al) (B := G.1) (o := o); omega)
  have hTT : ∀ i t, XT al G.1 i t h → XT al G.1 i t (hup h G.1 (.inr (10, xo G.1 tp σ.ln))) := fun i t hT => by
    obtain ⟨f, w1, w2⟩ := hT
    refine ⟨f, TW_fr (fun j hj => ne _ ?_) (fun k hk j hj => g _ j hj) w1, w2⟩
    have := tA_F (al := al) (B := G.1) (i := i)
    omega
  refine ⟨oF_of hup_eq, ?_, ?_, ?_, hTT _ _ hI.x.t, fun i hi t ht => ⟨(hI.x.im i hi t ht).1, hTT _ _ (hI.x.im i hi t ht).2⟩, hI.x.imn, fun o ho hm => SSh_fr (g o) (hI.x.ss o ho hm), fun r hr => ⟨(hI.x.lw r hr).1, LSh_fr (g _) (hI.x.lw r hr).2⟩, hI.x.lwn⟩
  · rw [aI_c (ne _ (by omega))]; exact hI.x.tb
  · rw [aR_c (ne _ (by omega))]; exact hI.x.imr
  · rw [aR_c (ne _ (by omega))]; exact hI.x.lwr
