/-! one town open: all else stands, its own cells by their shape alone -/
def TSh (al : Al) (B i : Nat) (h : aH) : Prop := (i ≠ 0 → al.mk (119 + i) = true) ∧ (∃ now st n bt ft, oF h (tA al B i) 9 = some [.int now, .int st, .int n, .int bt, .int ft, .ref (tA al B i + 1), .ref (tA al B i + 2)]) ∧ (∃ f, aR h (tA al B i + 1) = some (5, 24, f) ∧ ∀ k, k < 24 → f k = if al.mk (24 * i + k) = true then some (al.ad B (24 * i + k)) else none) ∧ ∃ rg, aI h (tA al B i + 2) 0 = some (4, rg)
def Iw (σ τ : Sg) (al : Al) (G : aG) (h : aH) (i : Nat) : Prop := (i ≤ 4) ∧ (oF h G.1 10 = some (xo G.1 σ.tp σ.ln)) ∧ (aI h (G.1 + 5) 1 = some (400, σ.tb)) ∧ (∃ f, aR h (G.1 + 4) = some (6, 4, f) ∧ ∀ j, j < 4 → f j = if al.mk (120 + j) = true then some (al.ad G.1 (120 + j)) else none) ∧ (∃ f, aR h (G.1 + 13) = some (7, 8, f) ∧ ∀ r, r < σ.ln → f r = some (al.ad G.1 (124 + r) + 2)) ∧ (i ≠ 0 → XT al G.1 0 σ.t h) ∧ (∀ j, j < 4 → i ≠ j + 1 → ∀ t, σ.im j = some t → al.mk (120 + j) = true ∧ XT al G.1 (j + 1) t h) ∧ (∀ j, j < 4 → i ≠ j + 1 → σ.im j = none → al.mk (120 + j) = false ∧ ∀ k, k < 24 → al.mk (24 * (j + 1) + k) = false) ∧ (∀ o, o < 120 → al.mk o = true → SSh h (al.ad G.1 o)) ∧ (∀ r, r < σ.ln → al.mk (124 + r) = true ∧ LSh h (al.ad G.1 (124 + r)) (σ.lw r)) ∧ (∀ r, r < 8 → ¬ r < σ.ln → al.mk (124 + r) = false) ∧ (TSh al G.1 i h) ∧ (MY τ G.1 h) ∧ (Shp G.1 h) ∧ (h.1 = G.1 + 70 + 3 * al.ng) ∧ (h.2.2 ≤ 200000 + 2000 * al.ng) ∧ (AlOK al) ∧ (h.2.1 G.2.1.1 = none) ∧ (G.2.1.1 < G.1)
theorem Iw.i4 {σ τ : Sg} {al : Al} {G : aG} {h : aH} {i : Nat} (H : Iw σ τ al G h i) : i ≤ 4 := H.1
theorem Iw.o {σ τ : Sg} {al : Al} {G : aG} {h : aH} {i : Nat} (H : Iw σ τ al G h i) : oF h G.1 10 = some (xo G.1 σ.tp σ.ln) := H.2.1
theorem Iw.tb {σ τ : Sg} {al : Al} {G : aG} {h : aH} {i : Nat} (H : Iw σ τ al G h i) : aI h (G.1 + 5) 1 = some (400, σ.tb) := H.2.2.1
theorem Iw.imr {σ τ : Sg} {al : Al} {G : aG} {h : aH} {i : Nat} (H : Iw σ τ al G h i) : ∃ f, aR h (G.1 + 4) = some (6, 4, f) ∧ ∀ j, j < 4 → f j = if al.mk (120 + j) = true then some (al.ad G.1 (120 + j)) else none := H.2.2.2.1
theorem Iw.lwr {σ τ : Sg} {al : Al} {G : aG} {h : aH} {i : Nat} (H : Iw σ τ al G h i) : ∃ f, aR h (G.1 + 13) = some (7, 8, f) ∧ ∀ r, r < σ.ln → f r = some (al.ad G.1 (124 + r) + 2) := H.2.2.2.2.1
theorem Iw.t {σ τ : Sg} {al : Al} {G : aG} {h : aH} {i : Nat} (H : Iw σ τ al G h i) : i ≠ 0 → XT al G.1 0 σ.t h := H.2.2.2.2.2.1
theorem Iw.im {σ τ : Sg} {al : Al} {G : aG} {h : aH} {i : Nat} (H : Iw σ τ al G h i) : ∀ j, j < 4 → i ≠ j + 1 → ∀ t, σ.im j = some t → al.mk (120 + j) = true ∧ XT al G.1 (j + 1) t h := H.2.2.2.2.2.2.1
theorem Iw.imn {σ τ : Sg} {al : Al} {G : aG} {h : aH} {i : Nat} (H : Iw σ τ al G h i) : ∀ j, j < 4 → i ≠ j + 1 → σ.im j = none → al.mk (120 + j) = false ∧ ∀ k, k < 24 → al.mk (24 * (j + 1) + k) = false := H.2.2.2.2.2.2.2.1
theorem Iw.ss {σ τ : Sg} {al : Al} {G : aG} {h : aH} {i : Nat} (H : Iw σ τ al G h i) : ∀ o, o < 120 → al.mk o = true → SSh h (al.ad G.1 o) := H.2.2.2.2.2.2.2.2.1
theorem Iw.lw {σ τ : Sg} {al : Al} {G : aG} {h : aH} {i : Nat} (H : Iw σ τ al G h i) : ∀ r, r < σ.ln → al.mk (124 + r) = true ∧ LSh h (al.ad G.1 (124 + r)) (σ.lw r) := H.2.2.2.2.2.2.2.2.2.1
theorem Iw.lwn {σ τ : Sg} {al : Al} {G : aG} {h : aH} {i : Nat} (H : Iw σ τ al G h i) : ∀ r, r < 8 → ¬ r < σ.ln → al.mk (124 + r) = false := H.2.2.2.2.2.2.2.2.2.2.1
theorem Iw.sh {σ τ : Sg} {al : Al} {G : aG} {h : aH} {i : Nat} (H : Iw σ τ al G h i) : TSh al G.1 i h := H.2.2.2.2.2.2.2.2.2.2.2.1
theorem Iw.m {σ τ : Sg} {al : Al} {G : aG} {h : aH} {i : Nat} (H : Iw σ τ al G h i) : MY τ G.1 h := H.2.2.2.2.2.2.2.2.2.2.2.2.1
theorem Iw.s {σ τ : Sg} {al : Al} {G : aG} {h : aH} {i : Nat} (H : Iw σ τ al G h i) : Shp G.1 h := H.2.2.2.2.2.2.2.2.2.2.2.2.2.1
theorem Iw.z {σ τ : Sg} {al : Al} {G : aG} {h : aH} {i : Nat} (H : Iw σ τ al G h i) : h.1 = G.1 + 70 + 3 * al.ng := H.2.2.2.2.2.2.2.2.2.2.2.2.2.2.1
theorem Iw.z2 {σ τ : Sg} {al : Al} {G : aG} {h : aH} {i : Nat} (H : Iw σ τ al G h i) : h.2.2 ≤ 200000 + 2000 * al.ng := H.2.2.2.2.2.2.2.2.2.2.2.2.2.2.2.1
theorem Iw.al {σ τ : Sg} {al : Al} {G : aG} {h : aH} {i : Nat} (H : Iw σ τ al G h i) : AlOK al := H.2.2.2.2.2.2.2.2.2.2.2.2.2.2.2.2.1
theorem Iw.nn {σ τ : Sg} {al : Al} {G : aG} {h : aH} {i : Nat} (H : Iw σ τ al G h i) : h.2.1 G.2.1.1 = none := H.2.2.2.2.2.2.2.2.2.2.2.2.2.2.2.2.2.1
theorem Iw.lt {σ τ : Sg} {al : Al} {G : aG} {h : aH} {i : Nat} (H : Iw σ τ al G h i) : G.2.1.1 < G.1 := H.2.2.2.2.2.2.2.2.2.2.2.2.2.2.2.2.2.2
theorem tA_s {al : Al} {B i : Nat} : tA al B (i + 1) = al.ad B (120 + i) := by
  unfold tA
  rw [if_neg (by omega)]
  congr 1
  omega
theorem tA_0 {al : Al} {B : Nat} : tA al B 0 = B + 1 := by unfold tA; rw [if_pos rfl]
def TC (al : Al) (B i q : Nat) : Prop := (∃ j, j < 3 ∧ q = tA al B i + j) ∨ ∃ k j, k < 24 ∧ j < 3 ∧ al.mk (24 * i + k) = true ∧ q = al.ad B (24 * i + k) + j
section SEP
variable {al : Al} {B i : Nat}
theorem TC_low {q : Nat} (hq : q < B + 70) (h1 : q ≠ B + 1) (h2 : q ≠ B + 2) (h3 : q ≠ B + 3) : ¬ TC al B i q := by
  rintro (⟨j, hj, e⟩ | ⟨k, j, hk, hj, hm, e⟩)
  · have := tA_F (al := al) (B := B) (i := i)
    omega
  · have := ad_ge (al := al) (B := B) (o := 24 * i + k)
    omega
theorem TC_o {o j : Nat} (hA : AlOK al) (hi : i ≠ 0 → al.mk (119 + i) = true) (hm : al.mk o = true) (hj : j < 3) (h1 : i ≠ 0 → o ≠ 119 + i) (h2 : ∀ k, k < 24 → o ≠ 24 * i + k) : ¬ TC al B i (al.ad B o + j) := by
  have g := ad_ge (al := al) (B := B) (o := o)
  rintro (⟨j', hj', e⟩ | ⟨k, j', hk, hj', hm', e⟩)
  · match i with
    | 0 => rw [tA_0] at e; omega
    | i' + 1 =>
      rw [tA_s] at e
      have hi' := hi (by omega)
      rw [show 119 + (i' + 1) = 120 + i' by omega] at hi'
      exact ad_ne hA hm hi' (by have := h1 (by omega); omega) hj hj' e
  · exact ad_ne hA hm hm' (h2 k hk) hj hj' e
/-- another town's cells -/
theorem TC_t {i' j : Nat} (hA : AlOK al) (hne : i' ≠ i) (h4 : i ≤ 4) (h4' : i' ≤ 4) (hi : i ≠ 0 → al.mk (119 + i) = true) (hi' : i' ≠ 0 → al.mk (119 + i') = true) (hj : j < 3) : ¬ TC al B i (tA al B i' + j) := by
  match i', hi' with
  | 0, _ =>
    rw [tA_0]
    rintro (⟨j', hj', e⟩ | ⟨k, j', hk, hj', hm', e⟩)
    · match i, hne with
      | i'' + 1, _ =>
        rw [tA_s] at e
        have := ad_ge (al := al) (B := B) (o := 120 + i'')
        omega
    · have := ad_ge (al := al) (B := B) (o := 24 * i + k)
      omega
  | i'' + 1, hi' =>
    rw [tA_s]
    have hm := hi' (by omega)
    rw [show 119 + (i'' + 1) = 120 + i'' by omega] at hm
    exact TC_o hA hi hm hj (by omega) (by omega)
theorem XT_fo {t : Tn} {h h' : aH} {i' : Nat} (hA : AlOK al) (hne : i' ≠ i) (h4 : i ≤ 4) (h4' : i' ≤ 4) (hi : i ≠ 0 → al.mk (119 + i) = true) (hi' : i' ≠ 0 → al.mk (119 + i') = true) (hf : ∀ q, ¬ TC al B i q → h'.2.1 q = h.2.1 q) (hT : XT al B i' t h) : XT al B i' t h' := by
  have hmk := fun k hk => XT_mk hT (k := k) hk
  have hn := XT_n hT
  obtain ⟨f, w1, w2⟩ := hT
  exact ⟨f, TW_fr (fun j hj => hf _ (TC_t hA hne h4 h4' hi hi' hj)) (fun k hk j hj => hf _ (TC_o hA hi (hmk k hk) hj (by omega) (by omega))) w1, w2⟩
theorem SSh_fo {h h' : aH} {o : Nat} (hA : AlOK al) (hi : i ≠ 0 → al.mk (119 + i) = true) (ho : o < 120) (hm : al.mk o = true) (h2 : ∀ k, k < 24 → o ≠ 24 * i + k) (hf : ∀ q, ¬ TC al B i q → h'.2.1 q = h.2.1 q) (hS : SSh h (al.ad B o)) : SSh h' (al.ad B o) :=
  SSh_fr (fun _ hj => hf _ (TC_o hA hi hm hj (by omega) h2)) hS
end SEP
section HOLE
variable {G : aG} {d : Nat} {h h' : aH} {Q : aQ} {σ τ : Sg} {al : Al} {i : Nat}
theorem Iw_fr (hI : Iw σ τ al G h i) (h1 : h'.1 = h.1) (h3 : h'.2.2 = h.2.2) (hf : ∀ q, ¬ TC al G.1 i q → h'.2.1 q = h.2.1 q) (hT : TSh al G.1 i h') (hs : ∀ k, k < 24 → al.mk (24 * i + k) = true → SSh h' (al.ad G.1 (24 * i + k))) : Iw σ τ al G h' i := by
  have hi := hI.sh.1
  have hA := hI.al
  have i4 := hI.i4
  have low : ∀ q, q < G.1 + 70 → q ≠ G.1 + 1 → q ≠ G.1 + 2 → q ≠ G.1 + 3 → h'.2.1 q = h.2.1 q := fun q a b c d => hf q (TC_low a b c d)
  refine ⟨i4, ?_, ?_, ?_, ?_, ?_, ?_, hI.imn, ?_, ?_, hI.lwn, hT, ?_, ?_, ?_, ?_, hA, ?_, hI.lt⟩
  · rw [oF_c (low _ (by omega) (by omega) (by omega) (by omega))]; exact hI.o
  · rw [aI_c (low _ (by omega) (by omega) (by omega) (by omega))]; exact hI.tb
  · rw [aR_c (low _ (by omega) (by omega) (by omega) (by omega))]; exact hI.imr
  · rw [aR_c (low _ (by omega) (by omega) (by omega) (by omega))]; exact hI.lwr
  · intro h0
    exact XT_fo hA (Ne.symm h0) i4 (by omega) hi (fun z => absurd rfl z) hf (hI.t h0)
  · intro j hj hne t ht
    obtain ⟨m1, m2⟩ := hI.im j hj hne t ht
    exact ⟨m1, XT_fo hA (Ne.symm hne) i4 (by omega) hi (fun _ => by rw [show 119 + (j + 1) = 120 + j by omega]; exact m1) hf m2⟩
  · intro o ho hm
    by_cases c : ∃ k, k < 24 ∧ o = 24 * i + k
    · obtain ⟨k, hk, rfl⟩ := c
      exact hs k hk hm
    · exact SSh_fo hA hi ho hm (fun k hk e => c ⟨k, hk, e⟩) hf (hI.ss o ho hm)
  · intro r hr
    obtain ⟨m1, m2⟩ := hI.lw r hr
    exact ⟨m1, LSh_fr (fun j hj => hf _ (TC_o hA hi m1 hj (by omega) (by omega))) m2⟩
  · exact MY_fr (fun q hq => low q (by unfold MF at hq; omega) (by unfold MF at hq; omega) (by unfold MF at hq; omega) (by unfold MF at hq; omega)) hI.m
  · exact Shp_fr (fun o ho => by
      unfold scr at ho
      simp at ho
      exact low _ (by omega) (by omega) (by omega) (by omega)) hI.s
  · rw [h1]; exact hI.z
  · rw [h3]; exact hI.z2
  · have := hI.lt
    rw [low _ (by omega) (by omega) (by omega) (by omega)]; exact hI.nn
theorem TSh_fr (hf : ∀ j, j < 3 → h'.2.1 (tA al G.1 i + j) = h.2.1 (tA al G.1 i + j)) (hT : TSh al G.1 i h) : TSh al G.1 i h' := by
  obtain ⟨t1, t2, t3, t4⟩ := hT
  exact ⟨t1, by rw [oF_c (by exact hf 0 (by decide))]; exact t2, by rw [aR_c (hf 1 (by decide))]; exact t3, by rw [aI_c (hf 2 (by decide))]; exact t4⟩
theorem ts_ne (hA : AlOK al) (hi : i ≠ 0 → al.mk (119 + i) = true) (h4 : i ≤ 4) {k j j' : Nat} (hk : k < 24) (hm : al.mk (24 * i + k) = true) (hj : j < 3) (hj' : j' < 3) : tA al G.1 i + j ≠ al.ad G.1 (24 * i + k) + j' := by
  match i with
  | 0 =>
    rw [tA_0]
    have := ad_ge (al := al) (B := G.1) (o := 24 * 0 + k)
    omega
  | i' + 1 =>
    rw [tA_s]
    have hi' := hi (by omega)
    rw [show 119 + (i' + 1) = 120 + i' by omega] at hi'
    exact ad_ne hA hi' hm (by omega) hj hj'
/-- a write into a street's cell -/
theorem Iw_sw (hI : Iw σ τ al G h i) {k j : Nat} {e : aE} (hk : k < 24) (hm : al.mk (24 * i + k) = true) (hj : j < 3) (hs : SSh (hup h (al.ad G.1 (24 * i + k) + j) e) (al.ad G.1 (24 * i + k))) : Iw σ τ al G (hup h (al.ad G.1 (24 * i + k) + j) e) i := by
  refine Iw_fr hI rfl rfl (fun q hq => hup_ne (fun z => hq (Or.inr ⟨k, j, hk, hj, hm, z⟩))) (TSh_fr (fun j' hj' => hup_ne (ts_ne hI.al hI.sh.1 hI.i4 hk hm hj' hj)) hI.sh) (fun k' hk' hm' => ?_)
  by_cases c : k' = k
  · subst c; exact hs
  · exact SSh_fr (fun j' hj' => hup_ne (ad_ne hI.al hm' hm (by omega) hj' hj)) (hI.ss _ (by have := hI.i4; omega) hm')
/-- a write into the town's own cells -/
theorem Iw_tw (hI : Iw σ τ al G h i) {j : Nat} {e : aE} (hj : j < 3) (hs : TSh al G.1 i (hup h (tA al G.1 i + j) e)) : Iw σ τ al G (hup h (tA al G.1 i + j) e) i := by
  refine Iw_fr hI rfl rfl (fun q hq => hup_ne (fun z => hq (Or.inl ⟨j, hj, z⟩))) hs (fun k' hk' hm' => ?_)
  exact SSh_fr (fun j' hj' => hup_ne (Ne.symm (ts_ne hI.al hI.sh.1 hI.i4 hk' hm' hj hj'))) (hI.ss _ (by have := hI.i4; omega) hm')
theorem aI_of {a t n : Nat} {f : Nat → Int32} (e : h.2.1 a = some (.inl (t, n, .inl f))) : aI h a t = some (n, f) := by
  unfold aI
  rw [e]
  simp
theorem aR_of {a t n : Nat} {f : Nat → Option Nat} (ht : t = 5 ∨ t = 6 ∨ t = 7) (e : h.2.1 a = some (.inl (t, n, .inr (.inr (.inr (.inr f)))))) : aR h a = some (t, n, f) := by
  unfold aR
  rw [e]
  simp [ht]
theorem Iw_tob (hI : Iw σ τ al G h i) (now st n bt ft : Int32) : Iw σ τ al G (hup h (tA al G.1 i) (.inr (9, [.int now, .int st, .int n, .int bt, .int ft, .ref (tA al G.1 i + 1), .ref (tA al G.1 i + 2)]))) i := by
  obtain ⟨t1, t2, t3, t4⟩ := hI.sh
  exact Iw_tw (j := 0) hI (by decide) ⟨t1, ⟨now, st, n, bt, ft, oF_of hup_eq⟩, by rw [aR_c (hup_ne (by omega))]; exact t3, by rw [aI_c (hup_ne (by omega))]; exact t4⟩
theorem Iw_rg (hI : Iw σ τ al G h i) (rg : Nat → Int32) : Iw σ τ al G (hup h (tA al G.1 i + 2) (.inl (0, 4, .inl rg))) i := by
  obtain ⟨t1, t2, t3, t4⟩ := hI.sh
  exact Iw_tw (j := 2) hI (by decide) ⟨t1, by rw [oF_c (hup_ne (by omega))]; exact t2, by rw [aR_c (hup_ne (by omega))]; exact t3, ⟨rg, aI_of hup_eq⟩⟩
theorem Iw_s0 (hI : Iw σ τ al G h i) {k : Nat} (hk : k < 24) (hm : al.mk (24 * i + k) = true) (c w ho nb : Int32) : Iw σ τ al G (hup h (al.ad G.1 (24 * i + k)) (.inr (8, [.int c, .int w, .int ho, .int nb, .ref (al.ad G.1 (24 * i + k) + 1), .ref (al.ad G.1 (24 * i + k) + 2)]))) i := by
  obtain ⟨s1, s2, s3⟩ := hI.ss (24 * i + k) (by have := hI.i4; omega) hm
  exact Iw_sw (j := 0) hI hk hm (by decide) ⟨⟨c, w, ho, nb, oF_of hup_eq⟩, by rw [aI_c (hup_ne (by omega))]; exact s2, by rw [aI_c (hup_ne (by omega))]; exact s3⟩
theorem Iw_s1 (hI : Iw σ τ al G h i) {k : Nat} (hk : k < 24) (hm : al.mk (24 * i + k) = true) (g : Nat → Int32) : Iw σ τ al G (hup h (al.ad G.1 (24 * i + k) + 1) (.inl (1, 1040, .inl g))) i := by
  obtain ⟨s1, s2, s3⟩ := hI.ss (24 * i + k) (by have := hI.i4; omega) hm
  exact Iw_sw (j := 1) hI hk hm (by decide) ⟨by rw [oF_c (hup_ne (by omega))]; exact s1, ⟨g, aI_of hup_eq⟩, by rw [aI_c (hup_ne (by omega))]; exact s3⟩
theorem Iw_s2 (hI : Iw σ τ al G h i) {k : Nat} (hk : k < 24) (hm : al.mk (24 * i + k) = true) (g : Nat → Int32) : Iw σ τ al G (hup h (al.ad G.1 (24 * i + k) + 2) (.inl (2, 260, .inl g))) i := by
  obtain ⟨s1, s2, s3⟩ := hI.ss (24 * i + k) (by have := hI.i4; omega) hm
  exact Iw_sw (j := 2) hI hk hm (by decide) ⟨by rw [oF_c (hup_ne (by omega))]; exact s1, by rw [aI_c (hup_ne (by omega))]; exact s2, ⟨g, aI_of hup_eq⟩⟩
/-! opening and closing -/
def Sg.sI (σ : Sg) (j : Nat) (t : Tn) : Sg := mkSg σ.t (fun q => if q = j then some t else σ.im q) σ.tp σ.tb σ.ln σ.lw
theorem TSh_of {t : Tn} (hm : i ≠ 0 → al.mk (119 + i) = true) (hT : XT al G.1 i t h) : TSh al G.1 i h := by
  obtain ⟨f, ⟨⟨t1, t2, t3, t4⟩, ⟨rg, t5, _⟩, t6⟩, h2⟩ := hT
  exact ⟨hm, ⟨_, _, _, _, _, t2⟩, ⟨f, t3, h2⟩, ⟨rg, t5⟩⟩
theorem Iw_0 (hI : Iv σ τ al G h) : Iw σ τ al G h 0 :=
  ⟨by decide, hI.x.o, hI.x.tb, hI.x.imr, hI.x.lwr, fun z => absurd rfl z, fun j hj _ => hI.x.im j hj, fun j hj _ => hI.x.imn j hj, hI.x.ss, hI.x.lw, hI.x.lwn, TSh_of (fun z => absurd rfl z) hI.x.t, hI.m, hI.s, hI.z, hI.z2, hI.al, hI.nn, hI.lt⟩
theorem Iw_j (hI : Iv σ τ al G h) {j : Nat} (hj : j < 4) {t : Tn} (ht : σ.im j = some t) : Iw σ τ al G h (j + 1) := by
  obtain ⟨m1, m2⟩ := hI.x.im j hj t ht
  exact ⟨by omega, hI.x.o, hI.x.tb, hI.x.imr, hI.x.lwr, fun _ => hI.x.t, fun j hj _ => hI.x.im j hj, fun j hj _ => hI.x.imn j hj, hI.x.ss, hI.x.lw, hI.x.lwn, TSh_of (fun _ => by rw [show 119 + (j + 1) = 120 + j by omega]; exact m1) m2, hI.m, hI.s, hI.z, hI.z2, hI.al, hI.nn, hI.lt⟩
theorem Iw_v0 {t : Tn} (hI : Iw σ τ al G h 0) (hT : XT al G.1 0 t h) : Iv (σ.sT t) τ al G h :=
  ⟨⟨hI.o, hI.tb, hI.imr, hI.lwr, hT, fun j hj => hI.im j hj (by omega), fun j hj => hI.imn j hj (by omega), hI.ss, hI.lw, hI.lwn⟩, hI.m, hI.s, hI.z, hI.z2, hI.al, hI.nn, hI.lt⟩
theorem Iw_vj {t : Tn} {j : Nat} (hj : j < 4) (hI : Iw σ τ al G h (j + 1)) (hT : XT al G.1 (j + 1) t h) : Iv (σ.sI j t) τ al G h := by
  have hm := hI.sh.1 (by omega)
  rw [show 119 + (j + 1) = 120 + j by omega] at hm
  refine ⟨⟨hI.o, hI.tb, hI.imr, hI.lwr, hI.t (by omega), fun q hq u hu => ?_, fun q hq hu => ?_, hI.ss, hI.lw, hI.lwn⟩, hI.m, hI.s, hI.z, hI.z2, hI.al, hI.nn, hI.lt⟩
  · have hu' : (if q = j then some t else σ.im q) = some u := hu
    by_cases c : q = j
    · subst c
      rw [if_pos rfl] at hu'
      cases hu'
      exact ⟨hm, hT⟩
    · rw [if_neg c] at hu'
      exact hI.im q hq (by omega) u hu'
  · have hu' : (if q = j then some t else σ.im q) = none := hu
    by_cases c : q = j
    · rw [if_pos c] at hu'; cases hu'
    · rw [if_neg c] at hu'
      exact hI.imn q hq (by omega) hu'
/-- a street's content -/
def SC (h : aH) (a : Nat) (t : Tn) (k : Nat) : Prop := oF h a 8 = some [.int (t.c k), .int (t.w k), .int (t.ho k), .int (t.nb k), .ref (a + 1), .ref (a + 2)] ∧ (∃ g, aI h (a + 1) 1 = some (1040, g) ∧ ∀ j, j < 1040 → g j = t.bk (1040 * k + j)) ∧ ∃ g, aI h (a + 2) 2 = some (260, g) ∧ ∀ j, j < 260 → g j = t.fm (260 * k + j)
theorem SC_fr {a k : Nat} {t : Tn} (hf : ∀ j, j < 3 → h'.2.1 (a + j) = h.2.1 (a + j)) (hS : SC h a t k) : SC h' a t k := by
  obtain ⟨s1, s2, s3⟩ := hS
  exact ⟨by rw [oF_c (by exact hf 0 (by decide))]; exact s1, by rw [aI_c (hf 1 (by decide))]; exact s2, by rw [aI_c (hf 2 (by decide))]; exact s3⟩
theorem XT_SC {t : Tn} (hT : XT al G.1 i t h) {k : Nat} (hk : k < t.n) : SC h (al.ad G.1 (24 * i + k)) t k := by
  obtain ⟨f, ⟨⟨t1, t2, t3, t4⟩, _, t6⟩, h2⟩ := hT
  exact ⟨(t4 k hk).2, t6 k hk⟩
theorem XT_of {t : Tn} (hI : Iw σ τ al G h i) (hn : t.n ≤ 24) (ho : oF h (tA al G.1 i) 9 = some [.int t.now, .int t.st, .int (nI t.n), .int t.bt, .int t.ft, .ref (tA al G.1 i + 1), .ref (tA al G.1 i + 2)])
    (hr : ∃ rg, aI h (tA al G.1 i + 2) 0 = some (4, rg) ∧ ∀ r, r < 4 → rg r = rgS t.n t.ho t.nb r) (hs : ∀ k, k < t.n → al.mk (24 * i + k) = true ∧ SC h (al.ad G.1 (24 * i + k)) t k) : XT al G.1 i t h := by
  obtain ⟨t1, t2, ⟨f, t3, t3'⟩, t4⟩ := hI.sh
  refine ⟨f, ⟨⟨hn, ho, t3, fun k hk => ⟨?_, (hs k hk).2.1⟩⟩, hr, fun k hk => (hs k hk).2.2⟩, t3'⟩
  rw [t3' k (by omega), if_pos (hs k hk).1]
/-- the town's object and streets, as the class's methods read them -/
theorem Iw_TX {t : Tn} (hI : Iw σ τ al G h i) (hn : t.n ≤ 24) (ho : oF h (tA al G.1 i) 9 = some [.int t.now, .int t.st, .int (nI t.n), .int t.bt, .int t.ft, .ref (tA al G.1 i + 1), .ref (tA al G.1 i + 2)])
    (hs : ∀ k, k < t.n → al.mk (24 * i + k) = true ∧ SC h (al.ad G.1 (24 * i + k)) t k) : ∃ f, TX h (tA al G.1 i) t.now t.st t.bt t.ft t.n f (fun k => al.ad G.1 (24 * i + k)) t.c t.w t.ho t.nb := by
  obtain ⟨t1, t2, ⟨f, t3, t3'⟩, t4⟩ := hI.sh
  refine ⟨f, hn, ho, t3, fun k hk => ⟨?_, (hs k hk).2.1⟩⟩
  rw [t3' k (by omega), if_pos (hs k hk).1]
end HOLE
