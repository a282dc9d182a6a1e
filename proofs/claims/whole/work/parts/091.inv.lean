/-! THE STANDING: the town as the reference's rows tell it, the class's cells that hold the same, the scratch cells by their shape -/
def Tn : Type := Int32 × Int32 × Int32 × Int32 × Int32 × Nat × (Nat → Int32) × (Nat → Int32) × (Nat → Int32) × (Nat → Int32) × (Nat → Int32) × (Nat → Int32)
def Tn.now (t : Tn) : Int32 := t.1
def Tn.st (t : Tn) : Int32 := t.2.1
def Tn.bt (t : Tn) : Int32 := t.2.2.1
def Tn.ft (t : Tn) : Int32 := t.2.2.2.1
def Tn.pr (t : Tn) : Int32 := t.2.2.2.2.1
def Tn.n (t : Tn) : Nat := t.2.2.2.2.2.1
def Tn.c (t : Tn) : Nat → Int32 := t.2.2.2.2.2.2.1
def Tn.w (t : Tn) : Nat → Int32 := t.2.2.2.2.2.2.2.1
def Tn.ho (t : Tn) : Nat → Int32 := t.2.2.2.2.2.2.2.2.1
def Tn.nb (t : Tn) : Nat → Int32 := t.2.2.2.2.2.2.2.2.2.1
def Tn.bk (t : Tn) : Nat → Int32 := t.2.2.2.2.2.2.2.2.2.2.1
def Tn.fm (t : Tn) : Nat → Int32 := t.2.2.2.2.2.2.2.2.2.2.2
def mkTn (x0 : Int32) (x1 : Int32) (x2 : Int32) (x3 : Int32) (x4 : Int32) (x5 : Nat) (x6 : Nat → Int32) (x7 : Nat → Int32) (x8 : Nat → Int32) (x9 : Nat → Int32) (x10 : Nat → Int32) (x11 : Nat → Int32) : Tn := (x0, x1, x2, x3, x4, x5, x6, x7, x8, x9, x10, x11)
theorem mkTn_now {x0 : Int32} {x1 : Int32} {x2 : Int32} {x3 : Int32} {x4 : Int32} {x5 : Nat} {x6 : Nat → Int32} {x7 : Nat → Int32} {x8 : Nat → Int32} {x9 : Nat → Int32} {x10 : Nat → Int32} {x11 : Nat → Int32} : (mkTn x0 x1 x2 x3 x4 x5 x6 x7 x8 x9 x10 x11).now = x0 := rfl
theorem mkTn_st {x0 : Int32} {x1 : Int32} {x2 : Int32} {x3 : Int32} {x4 : Int32} {x5 : Nat} {x6 : Nat → Int32} {x7 : Nat → Int32} {x8 : Nat → Int32} {x9 : Nat → Int32} {x10 : Nat → Int32} {x11 : Nat → Int32} : (mkTn x0 x1 x2 x3 x4 x5 x6 x7 x8 x9 x10 x11).st = x1 := rfl
theorem mkTn_bt {x0 : Int32} {x1 : Int32} {x2 : Int32} {x3 : Int32} {x4 : Int32} {x5 : Nat} {x6 : Nat → Int32} {x7 : Nat → Int32} {x8 : Nat → Int32} {x9 : Nat → Int32} {x10 : Nat → Int32} {x11 : Nat → Int32} : (mkTn x0 x1 x2 x3 x4 x5 x6 x7 x8 x9 x10 x11).bt = x2 := rfl
theorem mkTn_ft {x0 : Int32} {x1 : Int32} {x2 : Int32} {x3 : Int32} {x4 : Int32} {x5 : Nat} {x6 : Nat → Int32} {x7 : Nat → Int32} {x8 : Nat → Int32} {x9 : Nat → Int32} {x10 : Nat → Int32} {x11 : Nat → Int32} : (mkTn x0 x1 x2 x3 x4 x5 x6 x7 x8 x9 x10 x11).ft = x3 := rfl
theorem mkTn_pr {x0 : Int32} {x1 : Int32} {x2 : Int32} {x3 : Int32} {x4 : Int32} {x5 : Nat} {x6 : Nat → Int32} {x7 : Nat → Int32} {x8 : Nat → Int32} {x9 : Nat → Int32} {x10 : Nat → Int32} {x11 : Nat → Int32} : (mkTn x0 x1 x2 x3 x4 x5 x6 x7 x8 x9 x10 x11).pr = x4 := rfl
theorem mkTn_n {x0 : Int32} {x1 : Int32} {x2 : Int32} {x3 : Int32} {x4 : Int32} {x5 : Nat} {x6 : Nat → Int32} {x7 : Nat → Int32} {x8 : Nat → Int32} {x9 : Nat → Int32} {x10 : Nat → Int32} {x11 : Nat → Int32} : (mkTn x0 x1 x2 x3 x4 x5 x6 x7 x8 x9 x10 x11).n = x5 := rfl
theorem mkTn_c {x0 : Int32} {x1 : Int32} {x2 : Int32} {x3 : Int32} {x4 : Int32} {x5 : Nat} {x6 : Nat → Int32} {x7 : Nat → Int32} {x8 : Nat → Int32} {x9 : Nat → Int32} {x10 : Nat → Int32} {x11 : Nat → Int32} : (mkTn x0 x1 x2 x3 x4 x5 x6 x7 x8 x9 x10 x11).c = x6 := rfl
theorem mkTn_w {x0 : Int32} {x1 : Int32} {x2 : Int32} {x3 : Int32} {x4 : Int32} {x5 : Nat} {x6 : Nat → Int32} {x7 : Nat → Int32} {x8 : Nat → Int32} {x9 : Nat → Int32} {x10 : Nat → Int32} {x11 : Nat → Int32} : (mkTn x0 x1 x2 x3 x4 x5 x6 x7 x8 x9 x10 x11).w = x7 := rfl
theorem mkTn_ho {x0 : Int32} {x1 : Int32} {x2 : Int32} {x3 : Int32} {x4 : Int32} {x5 : Nat} {x6 : Nat → Int32} {x7 : Nat → Int32} {x8 : Nat → Int32} {x9 : Nat → Int32} {x10 : Nat → Int32} {x11 : Nat → Int32} : (mkTn x0 x1 x2 x3 x4 x5 x6 x7 x8 x9 x10 x11).ho = x8 := rfl
theorem mkTn_nb {x0 : Int32} {x1 : Int32} {x2 : Int32} {x3 : Int32} {x4 : Int32} {x5 : Nat} {x6 : Nat → Int32} {x7 : Nat → Int32} {x8 : Nat → Int32} {x9 : Nat → Int32} {x10 : Nat → Int32} {x11 : Nat → Int32} : (mkTn x0 x1 x2 x3 x4 x5 x6 x7 x8 x9 x10 x11).nb = x9 := rfl
theorem mkTn_bk {x0 : Int32} {x1 : Int32} {x2 : Int32} {x3 : Int32} {x4 : Int32} {x5 : Nat} {x6 : Nat → Int32} {x7 : Nat → Int32} {x8 : Nat → Int32} {x9 : Nat → Int32} {x10 : Nat → Int32} {x11 : Nat → Int32} : (mkTn x0 x1 x2 x3 x4 x5 x6 x7 x8 x9 x10 x11).bk = x10 := rfl
theorem mkTn_fm {x0 : Int32} {x1 : Int32} {x2 : Int32} {x3 : Int32} {x4 : Int32} {x5 : Nat} {x6 : Nat → Int32} {x7 : Nat → Int32} {x8 : Nat → Int32} {x9 : Nat → Int32} {x10 : Nat → Int32} {x11 : Nat → Int32} : (mkTn x0 x1 x2 x3 x4 x5 x6 x7 x8 x9 x10 x11).fm = x11 := rfl
/-- a law as the class keeps it: steps, and four numbers a clause -/
def Lw : Type := Nat × (Nat → Int32) × Nat × (Nat → Int32)
def Lw.sc (t : Lw) : Nat := t.1
def Lw.sf (t : Lw) : Nat → Int32 := t.2.1
def Lw.cc (t : Lw) : Nat := t.2.2.1
def Lw.cf (t : Lw) : Nat → Int32 := t.2.2.2
def mkLw (x0 : Nat) (x1 : Nat → Int32) (x2 : Nat) (x3 : Nat → Int32) : Lw := (x0, x1, x2, x3)
theorem mkLw_sc {x0 : Nat} {x1 : Nat → Int32} {x2 : Nat} {x3 : Nat → Int32} : (mkLw x0 x1 x2 x3).sc = x0 := rfl
theorem mkLw_sf {x0 : Nat} {x1 : Nat → Int32} {x2 : Nat} {x3 : Nat → Int32} : (mkLw x0 x1 x2 x3).sf = x1 := rfl
theorem mkLw_cc {x0 : Nat} {x1 : Nat → Int32} {x2 : Nat} {x3 : Nat → Int32} : (mkLw x0 x1 x2 x3).cc = x2 := rfl
theorem mkLw_cf {x0 : Nat} {x1 : Nat → Int32} {x2 : Nat} {x3 : Nat → Int32} : (mkLw x0 x1 x2 x3).cf = x3 := rfl
def Sg : Type := Tn × (Nat → Option Tn) × Nat × (Nat → Int32) × Nat × (Nat → Lw)
def Sg.t (t : Sg) : Tn := t.1
def Sg.im (t : Sg) : Nat → Option Tn := t.2.1
def Sg.tp (t : Sg) : Nat := t.2.2.1
def Sg.tb (t : Sg) : Nat → Int32 := t.2.2.2.1
def Sg.ln (t : Sg) : Nat := t.2.2.2.2.1
def Sg.lw (t : Sg) : Nat → Lw := t.2.2.2.2.2
def mkSg (x0 : Tn) (x1 : Nat → Option Tn) (x2 : Nat) (x3 : Nat → Int32) (x4 : Nat) (x5 : Nat → Lw) : Sg := (x0, x1, x2, x3, x4, x5)
theorem mkSg_t {x0 : Tn} {x1 : Nat → Option Tn} {x2 : Nat} {x3 : Nat → Int32} {x4 : Nat} {x5 : Nat → Lw} : (mkSg x0 x1 x2 x3 x4 x5).t = x0 := rfl
theorem mkSg_im {x0 : Tn} {x1 : Nat → Option Tn} {x2 : Nat} {x3 : Nat → Int32} {x4 : Nat} {x5 : Nat → Lw} : (mkSg x0 x1 x2 x3 x4 x5).im = x1 := rfl
theorem mkSg_tp {x0 : Tn} {x1 : Nat → Option Tn} {x2 : Nat} {x3 : Nat → Int32} {x4 : Nat} {x5 : Nat → Lw} : (mkSg x0 x1 x2 x3 x4 x5).tp = x2 := rfl
theorem mkSg_tb {x0 : Tn} {x1 : Nat → Option Tn} {x2 : Nat} {x3 : Nat → Int32} {x4 : Nat} {x5 : Nat → Lw} : (mkSg x0 x1 x2 x3 x4 x5).tb = x3 := rfl
theorem mkSg_ln {x0 : Tn} {x1 : Nat → Option Tn} {x2 : Nat} {x3 : Nat → Int32} {x4 : Nat} {x5 : Nat → Lw} : (mkSg x0 x1 x2 x3 x4 x5).ln = x4 := rfl
theorem mkSg_lw {x0 : Tn} {x1 : Nat → Option Tn} {x2 : Nat} {x3 : Nat → Int32} {x4 : Nat} {x5 : Nat → Lw} : (mkSg x0 x1 x2 x3 x4 x5).lw = x5 := rfl
/-- where the groups of three cells lie: owner 24 * i + k: street k of town i (0: the own one); 120 + i: image town i; 124 + r: law r -/
def Al : Type := (Nat → Nat) × (Nat → Bool) × Nat
def Al.gid (t : Al) : Nat → Nat := t.1
def Al.mk (t : Al) : Nat → Bool := t.2.1
def Al.ng (t : Al) : Nat := t.2.2
def mkAl (x0 : Nat → Nat) (x1 : Nat → Bool) (x2 : Nat) : Al := (x0, x1, x2)
theorem mkAl_gid {x0 : Nat → Nat} {x1 : Nat → Bool} {x2 : Nat} : (mkAl x0 x1 x2).gid = x0 := rfl
theorem mkAl_mk {x0 : Nat → Nat} {x1 : Nat → Bool} {x2 : Nat} : (mkAl x0 x1 x2).mk = x1 := rfl
theorem mkAl_ng {x0 : Nat → Nat} {x1 : Nat → Bool} {x2 : Nat} : (mkAl x0 x1 x2).ng = x2 := rfl
def Al.ad (al : Al) (B o : Nat) : Nat := B + 70 + 3 * al.gid o
def tA (al : Al) (B i : Nat) : Nat := if i = 0 then B + 1 else al.ad B (119 + i)
def cnB (f : Nat → Bool) : Nat → Nat
  | 0 => 0
  | k + 1 => cnB f k + (if f k then 1 else 0)
def AlOK (al : Al) : Prop := (∀ o o', al.mk o = true → al.mk o' = true → al.gid o = al.gid o' → o = o') ∧ (∀ o, al.mk o = true → al.gid o < al.ng ∧ o < 132) ∧ al.ng = cnB al.mk 132
/-! reading cells -/
theorem oF_c {h h' : aH} {a ci : Nat} (e : h'.2.1 a = h.2.1 a) : oF h' a ci = oF h a ci := by unfold oF; rw [e]
theorem aI_c {h h' : aH} {a t : Nat} (e : h'.2.1 a = h.2.1 a) : aI h' a t = aI h a t := by unfold aI; rw [e]
theorem aJ_c {h h' : aH} {a : Nat} (e : h'.2.1 a = h.2.1 a) : aJ h' a = aJ h a := by unfold aJ; rw [e]
theorem aR_c {h h' : aH} {a : Nat} (e : h'.2.1 a = h.2.1 a) : aR h' a = aR h a := by unfold aR; rw [e]
theorem hup_ne {h : aH} {a q : Nat} {e : aE} (hq : q ≠ a) : (hup h a e).2.1 q = h.2.1 q := by unfold hup; simp [hq]
theorem hup_eq {h : aH} {a : Nat} {e : aE} : (hup h a e).2.1 a = some e := by unfold hup; simp
theorem hup_1 {h : aH} {a : Nat} {e : aE} : (hup h a e).1 = h.1 := rfl
theorem hup_3 {h : aH} {a : Nat} {e : aE} : (hup h a e).2.2 = h.2.2 := rfl
theorem hnew_ne {h : aH} {q n : Nat} {e : aE} (hq : q ≠ h.1) : (hnew h e n).2.1 q = h.2.1 q := by unfold hnew; simp [hq]
theorem hnew_eq {h : aH} {n : Nat} {e : aE} : (hnew h e n).2.1 h.1 = some e := by unfold hnew; simp
/-! the class's side -/
def TW (h : aH) (A : Nat) (f : Nat → Option Nat) (ad : Nat → Nat) (t : Tn) : Prop :=
  TX h A t.now t.st t.bt t.ft t.n f ad t.c t.w t.ho t.nb ∧ (∃ rg, aI h (A + 2) 0 = some (4, rg) ∧ ∀ r, r < 4 → rg r = rgS t.n t.ho t.nb r) ∧
  ∀ k, k < t.n → (∃ g, aI h (ad k + 1) 1 = some (1040, g) ∧ ∀ j, j < 1040 → g j = t.bk (1040 * k + j)) ∧ ∃ g, aI h (ad k + 2) 2 = some (260, g) ∧ ∀ j, j < 260 → g j = t.fm (260 * k + j)
def XT (al : Al) (B i : Nat) (t : Tn) (h : aH) : Prop := ∃ f, TW h (tA al B i) f (fun k => al.ad B (24 * i + k)) t ∧ ∀ k, k < 24 → f k = if al.mk (24 * i + k) = true then some (al.ad B (24 * i + k)) else none
/-- a street's group of cells, whatever it holds -/
def SSh (h : aH) (a : Nat) : Prop := (∃ c w ho nb, oF h a 8 = some [.int c, .int w, .int ho, .int nb, .ref (a + 1), .ref (a + 2)]) ∧ (∃ g, aI h (a + 1) 1 = some (1040, g)) ∧ ∃ g, aI h (a + 2) 2 = some (260, g)
def LSh (h : aH) (a : Nat) (l : Lw) : Prop := oF h (a + 2) 3 = some [.ref a, .ref (a + 1)] ∧ aI h a 0 = some (l.sc, l.sf) ∧ aI h (a + 1) 0 = some (4 * l.cc, l.cf)
def xo (B : Nat) (tp ln : Nat) : List Value := [.ref (B + 1), .ref (B + 4), .ref (B + 5), .int (nI tp), .ref (B + 6), .ref (B + 13), .int (nI ln), .ref (B + 14), .ref (B + 15), .ref (B + 17), .ref (B + 27), .ref (B + 37)]
def XI (σ : Sg) (al : Al) (B : Nat) (h : aH) : Prop := (oF h B 10 = some (xo B σ.tp σ.ln)) ∧ (aI h (B + 5) 1 = some (400, σ.tb)) ∧ (∃ f, aR h (B + 4) = some (6, 4, f) ∧ ∀ i, i < 4 → f i = if al.mk (120 + i) = true then some (al.ad B (120 + i)) else none) ∧ (∃ f, aR h (B + 13) = some (7, 8, f) ∧ ∀ r, r < σ.ln → f r = some (al.ad B (124 + r) + 2)) ∧ (XT al B 0 σ.t h) ∧ (∀ i, i < 4 → ∀ t, σ.im i = some t → al.mk (120 + i) = true ∧ XT al B (i + 1) t h) ∧ (∀ i, i < 4 → σ.im i = none → al.mk (120 + i) = false ∧ ∀ k, k < 24 → al.mk (24 * (i + 1) + k) = false) ∧ (∀ o, o < 120 → al.mk o = true → SSh h (al.ad B o)) ∧ (∀ r, r < σ.ln → al.mk (124 + r) = true ∧ LSh h (al.ad B (124 + r)) (σ.lw r)) ∧ (∀ r, r < 8 → ¬ r < σ.ln → al.mk (124 + r) = false)
theorem XI.o {σ : Sg} {al : Al} {B : Nat} {h : aH} (H : XI σ al B h) : oF h B 10 = some (xo B σ.tp σ.ln) := H.1
theorem XI.tb {σ : Sg} {al : Al} {B : Nat} {h : aH} (H : XI σ al B h) : aI h (B + 5) 1 = some (400, σ.tb) := H.2.1
theorem XI.imr {σ : Sg} {al : Al} {B : Nat} {h : aH} (H : XI σ al B h) : ∃ f, aR h (B + 4) = some (6, 4, f) ∧ ∀ i, i < 4 → f i = if al.mk (120 + i) = true then some (al.ad B (120 + i)) else none := H.2.2.1
theorem XI.lwr {σ : Sg} {al : Al} {B : Nat} {h : aH} (H : XI σ al B h) : ∃ f, aR h (B + 13) = some (7, 8, f) ∧ ∀ r, r < σ.ln → f r = some (al.ad B (124 + r) + 2) := H.2.2.2.1
theorem XI.t {σ : Sg} {al : Al} {B : Nat} {h : aH} (H : XI σ al B h) : XT al B 0 σ.t h := H.2.2.2.2.1
theorem XI.im {σ : Sg} {al : Al} {B : Nat} {h : aH} (H : XI σ al B h) : ∀ i, i < 4 → ∀ t, σ.im i = some t → al.mk (120 + i) = true ∧ XT al B (i + 1) t h := H.2.2.2.2.2.1
theorem XI.imn {σ : Sg} {al : Al} {B : Nat} {h : aH} (H : XI σ al B h) : ∀ i, i < 4 → σ.im i = none → al.mk (120 + i) = false ∧ ∀ k, k < 24 → al.mk (24 * (i + 1) + k) = false := H.2.2.2.2.2.2.1
theorem XI.ss {σ : Sg} {al : Al} {B : Nat} {h : aH} (H : XI σ al B h) : ∀ o, o < 120 → al.mk o = true → SSh h (al.ad B o) := H.2.2.2.2.2.2.2.1
theorem XI.lw {σ : Sg} {al : Al} {B : Nat} {h : aH} (H : XI σ al B h) : ∀ r, r < σ.ln → al.mk (124 + r) = true ∧ LSh h (al.ad B (124 + r)) (σ.lw r) := H.2.2.2.2.2.2.2.2.1
theorem XI.lwn {σ : Sg} {al : Al} {B : Nat} {h : aH} (H : XI σ al B h) : ∀ r, r < 8 → ¬ r < σ.ln → al.mk (124 + r) = false := H.2.2.2.2.2.2.2.2.2
/-- the cells that the class's side looks at -/
def XF (B q : Nat) : Prop := (B ≤ q ∧ q ≤ B + 5) ∨ q = B + 13 ∨ B + 70 ≤ q
theorem ad_ge {al : Al} {B o : Nat} : B + 70 ≤ al.ad B o := by unfold Al.ad; omega
theorem tA_F {al : Al} {B i : Nat} : (tA al B i = B + 1) ∨ B + 70 ≤ tA al B i := by
  unfold tA
  split
  · exact Or.inl rfl
  · exact Or.inr ad_ge
theorem TW_fr {h h' : aH} {A : Nat} {f : Nat → Option Nat} {ad : Nat → Nat} {t : Tn} (hA : ∀ j, j < 3 → h'.2.1 (A + j) = h.2.1 (A + j)) (hs : ∀ k, k < t.n → ∀ j, j < 3 → h'.2.1 (ad k + j) = h.2.1 (ad k + j)) (hT : TW h A f ad t) : TW h' A f ad t := by
  obtain ⟨⟨t1, t2, t3, t4⟩, t5, t6⟩ := hT
  have a0 := hA 0 (by decide)
  have a1 := hA 1 (by decide)
  have a2 := hA 2 (by decide)
  refine ⟨⟨t1, by rw [oF_c (by exact a0)]; exact t2, by rw [aR_c a1]; exact t3, fun k hk => ?_⟩, by rw [aI_c a2]; exact t5, fun k hk => ?_⟩
  · rw [oF_c (by exact hs k hk 0 (by decide))]
    exact t4 k hk
  · rw [aI_c (hs k hk 1 (by decide)), aI_c (hs k hk 2 (by decide))]
    exact t6 k hk
theorem XT_fr {h h' : aH} {al : Al} {B i : Nat} {t : Tn} (hf : ∀ q, XF B q → h'.2.1 q = h.2.1 q) (hT : XT al B i t h) : XT al B i t h' := by
  obtain ⟨f, t1, t2⟩ := hT
  refine ⟨f, TW_fr (fun j hj => hf _ ?_) (fun k hk j hj => hf _ (Or.inr (Or.inr ?_))) t1, t2⟩
  · unfold XF
    have := tA_F (al := al) (B := B) (i := i)
    omega
  · have := ad_ge (al := al) (B := B) (o := 24 * i + k)
    omega
theorem SSh_fr {h h' : aH} {a : Nat} (hs : ∀ j, j < 3 → h'.2.1 (a + j) = h.2.1 (a + j)) (hS : SSh h a) : SSh h' a := by
  unfold SSh at *
  rw [oF_c (by exact hs 0 (by decide)), aI_c (hs 1 (by decide)), aI_c (hs 2 (by decide))]
  exact hS
theorem LSh_fr {h h' : aH} {a : Nat} {l : Lw} (hs : ∀ j, j < 3 → h'.2.1 (a + j) = h.2.1 (a + j)) (hS : LSh h a l) : LSh h' a l := by
  unfold LSh at *
  rw [oF_c (hs 2 (by decide)), aI_c (by exact hs 0 (by decide)), aI_c (hs 1 (by decide))]
  exact hS
theorem XI_fr {h h' : aH} {σ : Sg} {al : Al} {B : Nat} (hf : ∀ q, XF B q → h'.2.1 q = h.2.1 q) (hX : XI σ al B h) : XI σ al B h' := by
  have g : ∀ o j, j < 3 → h'.2.1 (al.ad B o + j) = h.2.1 (al.ad B o + j) := fun o j hj => hf _ (Or.inr (Or.inr (by have := ad_ge (al := al) (B := B) (o := o); omega)))
  have gg : ∀ j, j < 6 → h'.2.1 (B + j) = h.2.1 (B + j) := fun j hj => hf _ (Or.inl (by omega))
  refine ⟨?_, ?_, ?_, ?_, ?_, ?_, ?_, ?_, ?_, ?_⟩
  · rw [oF_c (by exact gg 0 (by decide))]; exact hX.o
  · rw [aI_c (gg 5 (by decide))]; exact hX.tb
  · rw [aR_c (gg 4 (by decide))]; exact hX.imr
  · rw [aR_c (hf (B + 13) (Or.inr (Or.inl rfl)))]; exact hX.lwr
  · exact XT_fr hf hX.t
  · exact fun i hi t ht => ⟨(hX.im i hi t ht).1, XT_fr hf (hX.im i hi t ht).2⟩
  · exact hX.imn
  · exact fun o ho hm => SSh_fr (g o) (hX.ss o ho hm)
  · exact fun r hr => ⟨(hX.lw r hr).1, LSh_fr (g _) (hX.lw r hr).2⟩
  · exact hX.lwn
/-! the reference's side -/
/-- the numbers in the reference's object that hold nothing from one call to the next -/
def Ms : Type := Int32 × Int32 × Int32 × Int32 × Int32 × Int32 × Int32 × Int32 × Int32 × Int64 × Int64 × Int64 × Int32 × Int32
def Ms.v0 (t : Ms) : Int32 := t.1
def Ms.v14 (t : Ms) : Int32 := t.2.1
def Ms.v15 (t : Ms) : Int32 := t.2.2.1
def Ms.v17 (t : Ms) : Int32 := t.2.2.2.1
def Ms.v18 (t : Ms) : Int32 := t.2.2.2.2.1
def Ms.v19 (t : Ms) : Int32 := t.2.2.2.2.2.1
def Ms.v20 (t : Ms) : Int32 := t.2.2.2.2.2.2.1
def Ms.v38 (t : Ms) : Int32 := t.2.2.2.2.2.2.2.1
def Ms.v39 (t : Ms) : Int32 := t.2.2.2.2.2.2.2.2.1
def Ms.v40 (t : Ms) : Int64 := t.2.2.2.2.2.2.2.2.2.1
def Ms.v41 (t : Ms) : Int64 := t.2.2.2.2.2.2.2.2.2.2.1
def Ms.v43 (t : Ms) : Int64 := t.2.2.2.2.2.2.2.2.2.2.2.1
def Ms.v49 (t : Ms) : Int32 := t.2.2.2.2.2.2.2.2.2.2.2.2.1
def Ms.v50 (t : Ms) : Int32 := t.2.2.2.2.2.2.2.2.2.2.2.2.2
def mkMs (x0 : Int32) (x1 : Int32) (x2 : Int32) (x3 : Int32) (x4 : Int32) (x5 : Int32) (x6 : Int32) (x7 : Int32) (x8 : Int32) (x9 : Int64) (x10 : Int64) (x11 : Int64) (x12 : Int32) (x13 : Int32) : Ms := (x0, x1, x2, x3, x4, x5, x6, x7, x8, x9, x10, x11, x12, x13)
theorem mkMs_v0 {x0 : Int32} {x1 : Int32} {x2 : Int32} {x3 : Int32} {x4 : Int32} {x5 : Int32} {x6 : Int32} {x7 : Int32} {x8 : Int32} {x9 : Int64} {x10 : Int64} {x11 : Int64} {x12 : Int32} {x13 : Int32} : (mkMs x0 x1 x2 x3 x4 x5 x6 x7 x8 x9 x10 x11 x12 x13).v0 = x0 := rfl
theorem mkMs_v14 {x0 : Int32} {x1 : Int32} {x2 : Int32} {x3 : Int32} {x4 : Int32} {x5 : Int32} {x6 : Int32} {x7 : Int32} {x8 : Int32} {x9 : Int64} {x10 : Int64} {x11 : Int64} {x12 : Int32} {x13 : Int32} : (mkMs x0 x1 x2 x3 x4 x5 x6 x7 x8 x9 x10 x11 x12 x13).v14 = x1 := rfl
theorem mkMs_v15 {x0 : Int32} {x1 : Int32} {x2 : Int32} {x3 : Int32} {x4 : Int32} {x5 : Int32} {x6 : Int32} {x7 : Int32} {x8 : Int32} {x9 : Int64} {x10 : Int64} {x11 : Int64} {x12 : Int32} {x13 : Int32} : (mkMs x0 x1 x2 x3 x4 x5 x6 x7 x8 x9 x10 x11 x12 x13).v15 = x2 := rfl
theorem mkMs_v17 {x0 : Int32} {x1 : Int32} {x2 : Int32} {x3 : Int32} {x4 : Int32} {x5 : Int32} {x6 : Int32} {x7 : Int32} {x8 : Int32} {x9 : Int64} {x10 : Int64} {x11 : Int64} {x12 : Int32} {x13 : Int32} : (mkMs x0 x1 x2 x3 x4 x5 x6 x7 x8 x9 x10 x11 x12 x13).v17 = x3 := rfl
theorem mkMs_v18 {x0 : Int32} {x1 : Int32} {x2 : Int32} {x3 : Int32} {x4 : Int32} {x5 : Int32} {x6 : Int32} {x7 : Int32} {x8 : Int32} {x9 : Int64} {x10 : Int64} {x11 : Int64} {x12 : Int32} {x13 : Int32} : (mkMs x0 x1 x2 x3 x4 x5 x6 x7 x8 x9 x10 x11 x12 x13).v18 = x4 := rfl
theorem mkMs_v19 {x0 : Int32} {x1 : Int32} {x2 : Int32} {x3 : Int32} {x4 : Int32} {x5 : Int32} {x6 : Int32} {x7 : Int32} {x8 : Int32} {x9 : Int64} {x10 : Int64} {x11 : Int64} {x12 : Int32} {x13 : Int32} : (mkMs x0 x1 x2 x3 x4 x5 x6 x7 x8 x9 x10 x11 x12 x13).v19 = x5 := rfl
theorem mkMs_v20 {x0 : Int32} {x1 : Int32} {x2 : Int32} {x3 : Int32} {x4 : Int32} {x5 : Int32} {x6 : Int32} {x7 : Int32} {x8 : Int32} {x9 : Int64} {x10 : Int64} {x11 : Int64} {x12 : Int32} {x13 : Int32} : (mkMs x0 x1 x2 x3 x4 x5 x6 x7 x8 x9 x10 x11 x12 x13).v20 = x6 := rfl
theorem mkMs_v38 {x0 : Int32} {x1 : Int32} {x2 : Int32} {x3 : Int32} {x4 : Int32} {x5 : Int32} {x6 : Int32} {x7 : Int32} {x8 : Int32} {x9 : Int64} {x10 : Int64} {x11 : Int64} {x12 : Int32} {x13 : Int32} : (mkMs x0 x1 x2 x3 x4 x5 x6 x7 x8 x9 x10 x11 x12 x13).v38 = x7 := rfl
theorem mkMs_v39 {x0 : Int32} {x1 : Int32} {x2 : Int32} {x3 : Int32} {x4 : Int32} {x5 : Int32} {x6 : Int32} {x7 : Int32} {x8 : Int32} {x9 : Int64} {x10 : Int64} {x11 : Int64} {x12 : Int32} {x13 : Int32} : (mkMs x0 x1 x2 x3 x4 x5 x6 x7 x8 x9 x10 x11 x12 x13).v39 = x8 := rfl
theorem mkMs_v40 {x0 : Int32} {x1 : Int32} {x2 : Int32} {x3 : Int32} {x4 : Int32} {x5 : Int32} {x6 : Int32} {x7 : Int32} {x8 : Int32} {x9 : Int64} {x10 : Int64} {x11 : Int64} {x12 : Int32} {x13 : Int32} : (mkMs x0 x1 x2 x3 x4 x5 x6 x7 x8 x9 x10 x11 x12 x13).v40 = x9 := rfl
theorem mkMs_v41 {x0 : Int32} {x1 : Int32} {x2 : Int32} {x3 : Int32} {x4 : Int32} {x5 : Int32} {x6 : Int32} {x7 : Int32} {x8 : Int32} {x9 : Int64} {x10 : Int64} {x11 : Int64} {x12 : Int32} {x13 : Int32} : (mkMs x0 x1 x2 x3 x4 x5 x6 x7 x8 x9 x10 x11 x12 x13).v41 = x10 := rfl
theorem mkMs_v43 {x0 : Int32} {x1 : Int32} {x2 : Int32} {x3 : Int32} {x4 : Int32} {x5 : Int32} {x6 : Int32} {x7 : Int32} {x8 : Int32} {x9 : Int64} {x10 : Int64} {x11 : Int64} {x12 : Int32} {x13 : Int32} : (mkMs x0 x1 x2 x3 x4 x5 x6 x7 x8 x9 x10 x11 x12 x13).v43 = x11 := rfl
theorem mkMs_v49 {x0 : Int32} {x1 : Int32} {x2 : Int32} {x3 : Int32} {x4 : Int32} {x5 : Int32} {x6 : Int32} {x7 : Int32} {x8 : Int32} {x9 : Int64} {x10 : Int64} {x11 : Int64} {x12 : Int32} {x13 : Int32} : (mkMs x0 x1 x2 x3 x4 x5 x6 x7 x8 x9 x10 x11 x12 x13).v49 = x12 := rfl
theorem mkMs_v50 {x0 : Int32} {x1 : Int32} {x2 : Int32} {x3 : Int32} {x4 : Int32} {x5 : Int32} {x6 : Int32} {x7 : Int32} {x8 : Int32} {x9 : Int64} {x10 : Int64} {x11 : Int64} {x12 : Int32} {x13 : Int32} : (mkMs x0 x1 x2 x3 x4 x5 x6 x7 x8 x9 x10 x11 x12 x13).v50 = x13 := rfl
def mq (B : Nat) (τ : Sg) (s : Ms) : List Value := mo B s.v0 τ.t.now (nI τ.t.n) τ.t.pr τ.t.bt τ.t.ft τ.t.st (nI τ.tp) s.v14 s.v15 (nI τ.ln) s.v17 s.v18 s.v19 s.v20 s.v38 s.v39 s.v40 s.v41 s.v43 s.v49 s.v50
/-- what the rows of laws hold of law r -/
def soL (x : Int32) : Int32 := if 0 ≤ x then 0 else if -11 < x then 1 else if x = -11 then 2 else if x = -12 then 3 else if x = -13 then 13 else if x = -14 then 14 else if x = -15 then 4 else if x = -16 then 5 else if x = -17 then 6 else if x = -18 then 7 else if x = -19 then 8 else if x = -20 then 10 else if x = -21 then 11 else 9
def MLw (r : Nat) (l : Lw) (so nu cl te su ts en : Nat → Int32) : Prop := (∀ k, k < l.sc → so (300 * r + k) = soL (l.sf k) ∧ (0 ≤ l.sf k → nu (300 * r + k) = l.sf k) ∧ (l.sf k < 0 → -11 < l.sf k → nu (300 * r + k) = -1 - l.sf k)) ∧ cl r = nI l.cc ∧ ∀ i, i < l.cc → te (12 * r + i) = l.cf (4 * i) ∧ su (12 * r + i) = l.cf (4 * i + 1) ∧ ts (12 * r + i) = l.cf (4 * i + 2) ∧ en (12 * r + i) = l.cf (4 * i + 3)
/-- image i in the reference's row of images -/
def MIm (i : Nat) (t : Tn) (F : Nat → Int32) : Prop := F (31400 * i) = t.now ∧ F (31400 * i + 1) = nI t.n ∧ F (31400 * i + 2) = t.pr ∧ F (31400 * i + 3) = t.bt ∧ F (31400 * i + 4) = t.ft ∧ F (31400 * i + 5) = t.st ∧
  (∀ k, k < 24 → F (31400 * i + 6 + k) = t.c k ∧ F (31400 * i + 30 + k) = t.w k ∧ F (31400 * i + 54 + k) = t.ho k ∧ F (31400 * i + 78 + k) = t.nb k) ∧ (∀ k, k < 24960 → F (31400 * i + 102 + k) = t.bk k) ∧ ∀ k, k < 6240 → F (31400 * i + 25062 + k) = t.fm k
def MY (τ : Sg) (B : Nat) (h : aH) : Prop := (∃ s, oF h (B + 40) 11 = some (mq B τ s)) ∧ (aI h (B + 41) 0 = some (24, τ.t.c)) ∧ (aI h (B + 42) 0 = some (24, τ.t.w)) ∧ (aI h (B + 43) 0 = some (24, τ.t.ho)) ∧ (aI h (B + 44) 0 = some (24, τ.t.nb)) ∧ (aI h (B + 45) 0 = some (24960, τ.t.bk)) ∧ (aI h (B + 46) 0 = some (6240, τ.t.fm)) ∧ (aI h (B + 47) 1 = some (400, τ.tb)) ∧ (∃ so nu cl te su ts en, aI h (B + 48) 0 = some (2400, so) ∧ aI h (B + 49) 0 = some (2400, nu) ∧ aI h (B + 50) 0 = some (8, cl) ∧ aI h (B + 51) 0 = some (96, te) ∧ aI h (B + 52) 0 = some (96, su) ∧ aI h (B + 53) 0 = some (96, ts) ∧ aI h (B + 54) 0 = some (96, en) ∧ ∀ r, r < τ.ln → MLw r (τ.lw r) so nu cl te su ts en) ∧ (∃ F, aI h (B + 67) 0 = some (125600, F) ∧ ∀ i, i < 4 → ∀ t, τ.im i = some t → MIm i t F) ∧ (∃ f, aI h (B + 69) 4 = some (4, f) ∧ ∀ i, i < 4 → f i = if (τ.im i).isSome = true then 1 else 0)
theorem MY.o {τ : Sg} {B : Nat} {h : aH} (H : MY τ B h) : ∃ s, oF h (B + 40) 11 = some (mq B τ s) := H.1
theorem MY.c {τ : Sg} {B : Nat} {h : aH} (H : MY τ B h) : aI h (B + 41) 0 = some (24, τ.t.c) := H.2.1
theorem MY.w {τ : Sg} {B : Nat} {h : aH} (H : MY τ B h) : aI h (B + 42) 0 = some (24, τ.t.w) := H.2.2.1
theorem MY.ho {τ : Sg} {B : Nat} {h : aH} (H : MY τ B h) : aI h (B + 43) 0 = some (24, τ.t.ho) := H.2.2.2.1
theorem MY.nb {τ : Sg} {B : Nat} {h : aH} (H : MY τ B h) : aI h (B + 44) 0 = some (24, τ.t.nb) := H.2.2.2.2.1
theorem MY.bk {τ : Sg} {B : Nat} {h : aH} (H : MY τ B h) : aI h (B + 45) 0 = some (24960, τ.t.bk) := H.2.2.2.2.2.1
theorem MY.fm {τ : Sg} {B : Nat} {h : aH} (H : MY τ B h) : aI h (B + 46) 0 = some (6240, τ.t.fm) := H.2.2.2.2.2.2.1
theorem MY.tb {τ : Sg} {B : Nat} {h : aH} (H : MY τ B h) : aI h (B + 47) 1 = some (400, τ.tb) := H.2.2.2.2.2.2.2.1
theorem MY.lw {τ : Sg} {B : Nat} {h : aH} (H : MY τ B h) : ∃ so nu cl te su ts en, aI h (B + 48) 0 = some (2400, so) ∧ aI h (B + 49) 0 = some (2400, nu) ∧ aI h (B + 50) 0 = some (8, cl) ∧ aI h (B + 51) 0 = some (96, te) ∧ aI h (B + 52) 0 = some (96, su) ∧ aI h (B + 53) 0 = some (96, ts) ∧ aI h (B + 54) 0 = some (96, en) ∧ ∀ r, r < τ.ln → MLw r (τ.lw r) so nu cl te su ts en := H.2.2.2.2.2.2.2.2.1
theorem MY.im {τ : Sg} {B : Nat} {h : aH} (H : MY τ B h) : ∃ F, aI h (B + 67) 0 = some (125600, F) ∧ ∀ i, i < 4 → ∀ t, τ.im i = some t → MIm i t F := H.2.2.2.2.2.2.2.2.2.1
theorem MY.mk {τ : Sg} {B : Nat} {h : aH} (H : MY τ B h) : ∃ f, aI h (B + 69) 4 = some (4, f) ∧ ∀ i, i < 4 → f i = if (τ.im i).isSome = true then 1 else 0 := H.2.2.2.2.2.2.2.2.2.2
/-- the cells that the reference's side looks at -/
def MF (B q : Nat) : Prop := (B + 40 ≤ q ∧ q ≤ B + 54) ∨ q = B + 67 ∨ q = B + 69
theorem MY_fr {h h' : aH} {τ : Sg} {B : Nat} (hf : ∀ q, MF B q → h'.2.1 q = h.2.1 q) (hX : MY τ B h) : MY τ B h' := by
  have gg : ∀ j, 40 ≤ j → j < 55 → h'.2.1 (B + j) = h.2.1 (B + j) := fun j hj hk => hf _ (Or.inl (by omega))
  refine ⟨?_, ?_, ?_, ?_, ?_, ?_, ?_, ?_, ?_, ?_, ?_⟩
  · rw [oF_c (gg 40 (by decide) (by decide))]; exact hX.o
  · rw [aI_c (gg 41 (by decide) (by decide))]; exact hX.c
  · rw [aI_c (gg 42 (by decide) (by decide))]; exact hX.w
  · rw [aI_c (gg 43 (by decide) (by decide))]; exact hX.ho
  · rw [aI_c (gg 44 (by decide) (by decide))]; exact hX.nb
  · rw [aI_c (gg 45 (by decide) (by decide))]; exact hX.bk
  · rw [aI_c (gg 46 (by decide) (by decide))]; exact hX.fm
  · rw [aI_c (gg 47 (by decide) (by decide))]; exact hX.tb
  · rw [aI_c (gg 48 (by decide) (by decide)), aI_c (gg 49 (by decide) (by decide)), aI_c (gg 50 (by decide) (by decide)), aI_c (gg 51 (by decide) (by decide)), aI_c (gg 52 (by decide) (by decide)), aI_c (gg 53 (by decide) (by decide)), aI_c (gg 54 (by decide) (by decide))]; exact hX.lw
  · rw [aI_c (hf (B + 67) (Or.inr (Or.inl rfl)))]; exact hX.im
  · rw [aI_c (hf (B + 69) (Or.inr (Or.inr rfl)))]; exact hX.mk
/-! the scratch cells: shapes alone -/
def skI : List (Nat × Nat) := [(8, 401), (9, 401), (10, 401), (11, 400), (12, 48), (21, 48), (22, 48), (23, 48), (24, 48), (25, 24), (26, 24), (31, 48), (32, 48), (33, 48), (34, 48), (35, 24), (36, 24), (38, 576), (55, 402), (58, 24), (59, 24), (60, 24), (61, 24), (62, 24), (63, 24), (66, 24), (68, 6)]
def skJ : List (Nat × Nat) := [(14, 8), (19, 8), (20, 60), (29, 8), (30, 60), (39, 8), (56, 8), (57, 300), (64, 8), (65, 4)]
def ShO (B o : Nat) (e : aE) : Prop := match o with
  | 6 => ∃ a b c d f w n m, e = .inr (4, [.ref (B + 7), .int a, .int b, .int c, .int d, .int f, .int w, .ref (B + 11), .int n, .ref (B + 12), .int m])
  | 7 => ∃ n v l p, (v = .null ∨ v = .ref (B + 5)) ∧ e = .inr (7, [.ref (B + 8), .ref (B + 9), .ref (B + 10), .int n, v, .int l, .int p])
  | 15 => ∃ s n, e = .inr (5, [.long s, .int n, .ref (B + 16)])
  | 16 => ∃ a b, e = .inr (2, [.long a, .long b])
  | 17 => e = .inr (1, [.ref (B + 18), .ref (B + 21), .ref (B + 22), .ref (B + 23), .ref (B + 24), .ref (B + 25), .ref (B + 26)])
  | 18 => e = .inr (6, [.ref (B + 19), .ref (B + 20)])
  | 27 => e = .inr (1, [.ref (B + 28), .ref (B + 31), .ref (B + 32), .ref (B + 33), .ref (B + 34), .ref (B + 35), .ref (B + 36)])
  | 28 => e = .inr (6, [.ref (B + 29), .ref (B + 30)])
  | 37 => ∃ x, e = .inr (0, [.long x, .ref (B + 38), .ref (B + 39)])
  | _ => False
/-- the shape of scratch cell o -/
def Sk (B o : Nat) (e : aE) : Prop := match skI.lookup o with
  | some n => ∃ f, e = .inl (0, n, .inl f)
  | none => match skJ.lookup o with
    | some n => ∃ f, e = .inl (3, n, .inr (.inl f))
    | none => ShO B o e
def scr (o : Nat) : Bool := (6 ≤ o && o ≤ 12) || (14 ≤ o && o ≤ 39) || (55 ≤ o && o ≤ 66) || o == 68
def Shp (B : Nat) (h : aH) : Prop := ∀ o, scr o = true → ∃ e, h.2.1 (B + o) = some e ∧ Sk B o e
theorem Shp_up {B o : Nat} {h : aH} {e : aE} (hS : Shp B h) (he : Sk B o e) : Shp B (hup h (B + o) e) := by
  intro p hp
  by_cases c : p = o
  · subst c
    exact ⟨e, hup_eq, he⟩
  · rw [hup_ne (by omega)]
    exact hS p hp
theorem Shp_fr {B : Nat} {h h' : aH} (hf : ∀ o, scr o = true → h'.2.1 (B + o) = h.2.1 (B + o)) (hS : Shp B h) : Shp B h' := fun o ho => by
  rw [hf o ho]
  exact hS o ho
theorem Shp_I {B o n : Nat} {h : aH} (hS : Shp B h) (ho : skI.lookup o = some n) (hs : scr o = true) : ∃ f, aI h (B + o) 0 = some (n, f) := by
  obtain ⟨e, e1, e2⟩ := hS o hs
  unfold Sk at e2
  rw [ho] at e2
  obtain ⟨f, rfl⟩ := e2
  refine ⟨f, ?_⟩
  unfold aI
  rw [e1]
  simp
theorem Shp_J {B o n : Nat} {h : aH} (hS : Shp B h) (hi : skI.lookup o = none) (ho : skJ.lookup o = some n) (hs : scr o = true) : ∃ f, aJ h (B + o) = some (n, f) := by
  obtain ⟨e, e1, e2⟩ := hS o hs
  unfold Sk at e2
  rw [hi, ho] at e2
  obtain ⟨f, rfl⟩ := e2
  refine ⟨f, ?_⟩
  unfold aJ
  rw [e1]
  simp
theorem Shp_O {B o : Nat} {h : aH} (hS : Shp B h) (hi : skI.lookup o = none) (hj : skJ.lookup o = none) (hs : scr o = true) : ∃ e, h.2.1 (B + o) = some e ∧ ShO B o e := by
  obtain ⟨e, e1, e2⟩ := hS o hs
  unfold Sk at e2
  rw [hi, hj] at e2
  exact ⟨e, e1, e2⟩
theorem Sk_I {B o n : Nat} {f : Nat → Int32} (ho : skI.lookup o = some n) : Sk B o (.inl (0, n, .inl f)) := by
  unfold Sk
  rw [ho]
  exact ⟨f, rfl⟩
theorem Sk_J {B o n : Nat} {f : Nat → Int64} (hi : skI.lookup o = none) (ho : skJ.lookup o = some n) : Sk B o (.inl (3, n, .inr (.inl f))) := by
  unfold Sk
  rw [hi, ho]
  exact ⟨f, rfl⟩
theorem Sk_O {B o : Nat} {e : aE} (hi : skI.lookup o = none) (hj : skJ.lookup o = none) (he : ShO B o e) : Sk B o e := by
  unfold Sk
  rw [hi, hj]
  exact he
theorem oF_of {h : aH} {a ci : Nat} {fs : List Value} (e : h.2.1 a = some (.inr (ci, fs))) : oF h a ci = some fs := by
  unfold oF
  rw [e]
  simp
/-! all together -/
def Iv (σ τ : Sg) (al : Al) (G : aG) (h : aH) : Prop := (XI σ al G.1 h) ∧ (MY τ G.1 h) ∧ (Shp G.1 h) ∧ (h.1 = G.1 + 70 + 3 * al.ng) ∧ (h.2.2 ≤ 200000 + 2000 * al.ng) ∧ (AlOK al) ∧ (h.2.1 G.2.1.1 = none) ∧ (G.2.1.1 < G.1)
theorem Iv.x {σ τ : Sg} {al : Al} {G : aG} {h : aH} (H : Iv σ τ al G h) : XI σ al G.1 h := H.1
theorem Iv.m {σ τ : Sg} {al : Al} {G : aG} {h : aH} (H : Iv σ τ al G h) : MY τ G.1 h := H.2.1
theorem Iv.s {σ τ : Sg} {al : Al} {G : aG} {h : aH} (H : Iv σ τ al G h) : Shp G.1 h := H.2.2.1
theorem Iv.z {σ τ : Sg} {al : Al} {G : aG} {h : aH} (H : Iv σ τ al G h) : h.1 = G.1 + 70 + 3 * al.ng := H.2.2.2.1
theorem Iv.z2 {σ τ : Sg} {al : Al} {G : aG} {h : aH} (H : Iv σ τ al G h) : h.2.2 ≤ 200000 + 2000 * al.ng := H.2.2.2.2.1
theorem Iv.al {σ τ : Sg} {al : Al} {G : aG} {h : aH} (H : Iv σ τ al G h) : AlOK al := H.2.2.2.2.2.1
theorem Iv.nn {σ τ : Sg} {al : Al} {G : aG} {h : aH} (H : Iv σ τ al G h) : h.2.1 G.2.1.1 = none := H.2.2.2.2.2.2.1
theorem Iv.lt {σ τ : Sg} {al : Al} {G : aG} {h : aH} (H : Iv σ τ al G h) : G.2.1.1 < G.1 := H.2.2.2.2.2.2.2
theorem Iv_up {σ τ : Sg} {al : Al} {G : aG} {h : aH} {o : Nat} {e : aE} (hs : scr o = true) (he : Sk G.1 o e) (hI : Iv σ τ al G h) : Iv σ τ al G (hup h (G.1 + o) e) := by
  have ho : (6 ≤ o ∧ o ≤ 12) ∨ (14 ≤ o ∧ o ≤ 39) ∨ (55 ≤ o ∧ o ≤ 66) ∨ o = 68 := by
    unfold scr at hs
    simp at hs
    omega
  refine ⟨?_, ?_, ?_, ?_, ?_, ?_, ?_, ?_⟩
  · exact XI_fr (fun q hq => hup_ne (by unfold XF at hq; omega)) hI.x
  · exact MY_fr (fun q hq => hup_ne (by unfold MF at hq; omega)) hI.m
  · exact Shp_up hI.s he
  · exact hI.z
  · exact hI.z2
  · exact hI.al
  · rw [hup_ne (by have := hI.lt; omega)]; exact hI.nn
  · exact hI.lt
/-- a write into the reference's object that changes only what holds nothing -/
theorem MY_mq {τ : Sg} {B : Nat} {h : aH} {s : Ms} (hM : MY τ B h) : MY τ B (hup h (B + 40) (.inr (11, mq B τ s))) := by
  have ne : ∀ j, 41 ≤ j → (hup h (B + 40) (.inr (11, mq B τ s))).2.1 (B + j) = h.2.1 (B + j) := fun j hj => hup_ne (by omega)
  refine ⟨?_, ?_, ?_, ?_, ?_, ?_, ?_, ?_, ?_, ?_, ?_⟩
  · exact ⟨s, oF_of hup_eq⟩
  · rw [aI_c (ne 41 (by decide))]; exact hM.c
  · rw [aI_c (ne 42 (by decide))]; exact hM.w
  · rw [aI_c (ne 43 (by decide))]; exact hM.ho
  · rw [aI_c (ne 44 (by decide))]; exact hM.nb
  · rw [aI_c (ne 45 (by decide))]; exact hM.bk
  · rw [aI_c (ne 46 (by decide))]; exact hM.fm
  · rw [aI_c (ne 47 (by decide))]; exact hM.tb
  · rw [aI_c (ne 48 (by decide)), aI_c (ne 49 (by decide)), aI_c (ne 50 (by decide)), aI_c (ne 51 (by decide)), aI_c (ne 52 (by decide)), aI_c (ne 53 (by decide)), aI_c (ne 54 (by decide))]; exact hM.lw
  · rw [aI_c (ne 67 (by decide))]; exact hM.im
  · rw [aI_c (ne 69 (by decide))]; exact hM.mk
theorem Iv_mq {σ τ : Sg} {al : Al} {G : aG} {h : aH} {s : Ms} (hI : Iv σ τ al G h) : Iv σ τ al G (hup h (G.1 + 40) (.inr (11, mq G.1 τ s))) := by
  refine ⟨?_, ?_, ?_, ?_, ?_, ?_, ?_, ?_⟩
  · exact XI_fr (fun q hq => hup_ne (by unfold XF at hq; omega)) hI.x
  · exact MY_mq hI.m
  · exact Shp_fr (fun o ho => hup_ne (by
      unfold scr at ho
      simp at ho
      omega)) hI.s
  · exact hI.z
  · exact hI.z2
  · exact hI.al
  · rw [hup_ne (by have := hI.lt; omega)]; exact hI.nn
  · exact hI.lt
