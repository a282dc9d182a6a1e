/-! what stands of the numbers from one call to the next -/
def Tn.H (t : Tn) (k : Nat) : Nat := (t.ho k).toNatClampNeg
def Tn.N (t : Tn) (k : Nat) : Nat := (t.nb k).toNatClampNeg
def Tn.C (t : Tn) (k : Nat) : Nat := (t.c k).toNatClampNeg
def Tn.W (t : Tn) (k : Nat) : Nat := (t.w k).toNatClampNeg
def sumN (f : Nat → Nat) : Nat → Nat
  | 0 => 0
  | k + 1 => sumN f k + f k
def TnOK (t : Tn) : Prop := (t.n ≤ 24) ∧ (∃ x, x ≤ 259 ∧ t.now = nI x) ∧ (t.st = -1 ∨ ∃ x, x ≤ 259 ∧ t.st = nI x) ∧ (∀ k, k < t.n → t.c k = nI (t.C k) ∧ t.C k ≤ 999) ∧ (∀ k, k < t.n → t.w k = nI (t.W k) ∧ t.W k ≤ 999) ∧ (∀ k, k < t.n → t.ho k = nI (t.H k) ∧ t.H k < 2) ∧ (∀ k, k < t.n → t.nb k = nI (t.N k) ∧ t.N k < 2 ^ t.n) ∧ (∀ a b, a < t.n → b < t.n → (t.N a).testBit b = (t.N b).testBit a) ∧ (∀ a, a < t.n → (t.N a).testBit a = false) ∧ (∃ p, t.pr = nI p ∧ 2 * p = sumN (fun k => pcN 32 (t.N k)) t.n) ∧ (∀ j, j < 24960 → t.bk j = -1 ∨ ∃ x, x ≤ 99 ∧ t.bk j = nI x) ∧ (∀ j, j < 24960 → 1040 * t.n ≤ j → t.bk j = -1) ∧ (∀ j, j < 6240 → t.fm j = -1 ∨ ∃ x, x ≤ 999 ∧ t.fm j = nI x) ∧ (∀ j, j < 6240 → 260 * t.n ≤ j → t.fm j = -1)
theorem TnOK.n {t : Tn} (H : TnOK t) : t.n ≤ 24 := H.1
theorem TnOK.now {t : Tn} (H : TnOK t) : ∃ x, x ≤ 259 ∧ t.now = nI x := H.2.1
theorem TnOK.st {t : Tn} (H : TnOK t) : t.st = -1 ∨ ∃ x, x ≤ 259 ∧ t.st = nI x := H.2.2.1
theorem TnOK.c {t : Tn} (H : TnOK t) : ∀ k, k < t.n → t.c k = nI (t.C k) ∧ t.C k ≤ 999 := H.2.2.2.1
theorem TnOK.w {t : Tn} (H : TnOK t) : ∀ k, k < t.n → t.w k = nI (t.W k) ∧ t.W k ≤ 999 := H.2.2.2.2.1
theorem TnOK.ho {t : Tn} (H : TnOK t) : ∀ k, k < t.n → t.ho k = nI (t.H k) ∧ t.H k < 2 := H.2.2.2.2.2.1
theorem TnOK.nb {t : Tn} (H : TnOK t) : ∀ k, k < t.n → t.nb k = nI (t.N k) ∧ t.N k < 2 ^ t.n := H.2.2.2.2.2.2.1
theorem TnOK.sy {t : Tn} (H : TnOK t) : ∀ a b, a < t.n → b < t.n → (t.N a).testBit b = (t.N b).testBit a := H.2.2.2.2.2.2.2.1
theorem TnOK.ir {t : Tn} (H : TnOK t) : ∀ a, a < t.n → (t.N a).testBit a = false := H.2.2.2.2.2.2.2.2.1
theorem TnOK.pr {t : Tn} (H : TnOK t) : ∃ p, t.pr = nI p ∧ 2 * p = sumN (fun k => pcN 32 (t.N k)) t.n := H.2.2.2.2.2.2.2.2.2.1
theorem TnOK.bk {t : Tn} (H : TnOK t) : ∀ j, j < 24960 → t.bk j = -1 ∨ ∃ x, x ≤ 99 ∧ t.bk j = nI x := H.2.2.2.2.2.2.2.2.2.2.1
theorem TnOK.bz {t : Tn} (H : TnOK t) : ∀ j, j < 24960 → 1040 * t.n ≤ j → t.bk j = -1 := H.2.2.2.2.2.2.2.2.2.2.2.1
theorem TnOK.fm {t : Tn} (H : TnOK t) : ∀ j, j < 6240 → t.fm j = -1 ∨ ∃ x, x ≤ 999 ∧ t.fm j = nI x := H.2.2.2.2.2.2.2.2.2.2.2.2.1
theorem TnOK.fz {t : Tn} (H : TnOK t) : ∀ j, j < 6240 → 260 * t.n ≤ j → t.fm j = -1 := H.2.2.2.2.2.2.2.2.2.2.2.2.2
/-- one step of a law on the sorts of what is stacked: a truth, or a number -/
def ty1 (x : Int32) (s : List Bool) : Option (List Bool) :=
  if -9 < x then some (false :: s)
  else if x = -22 then (match s with
    | true :: r => some (true :: r)
    | _ => none)
  else if x = -20 ∨ x = -21 then (match s with
    | true :: true :: r => some (true :: r)
    | _ => none)
  else if -15 < x ∧ x < -10 then (match s with
    | false :: false :: r => some (false :: r)
    | _ => none)
  else if -20 < x ∧ x < -14 then (match s with
    | false :: false :: r => some (true :: r)
    | _ => none)
  else none
def tyr (f : Nat → Int32) : Nat → Nat → List Bool → Option (List Bool)
  | 0, _, s => some s
  | n + 1, k, s => match ty1 (f k) s with
    | some s' => if s'.length ≤ 60 then tyr f n (k + 1) s' else none
    | none => none
def LwOK (l : Lw) : Prop := l.sc ≤ 300 ∧ l.cc ≤ 12 ∧ ∀ i, i < l.cc → ∃ a b c, l.cf (4 * i + 1) = nI a ∧ l.cf (4 * i + 2) = nI b ∧ l.cf (4 * i + 3) = nI c ∧ a ≤ b ∧ b ≤ c ∧ c ≤ l.sc ∧ tyr l.sf (b - a) a [] = some [false] ∧ (b = c ∨ tyr l.sf (c - b) b [] = some [true])
def OK (σ : Sg) : Prop := (TnOK σ.t) ∧ (∀ i, i < 4 → ∀ t, σ.im i = some t → TnOK t) ∧ (σ.tp ≤ 400) ∧ (σ.ln ≤ 8) ∧ (∀ r, r < σ.ln → LwOK (σ.lw r)) ∧ (∀ j, (σ.tb j).toInt8.toInt32 = σ.tb j)
theorem OK.t {σ : Sg} (H : OK σ) : TnOK σ.t := H.1
theorem OK.im {σ : Sg} (H : OK σ) : ∀ i, i < 4 → ∀ t, σ.im i = some t → TnOK t := H.2.1
theorem OK.tp {σ : Sg} (H : OK σ) : σ.tp ≤ 400 := H.2.2.1
theorem OK.ln {σ : Sg} (H : OK σ) : σ.ln ≤ 8 := H.2.2.2.1
theorem OK.lw {σ : Sg} (H : OK σ) : ∀ r, r < σ.ln → LwOK (σ.lw r) := H.2.2.2.2.1
theorem OK.tb {σ : Sg} (H : OK σ) : ∀ j, (σ.tb j).toInt8.toInt32 = σ.tb j := H.2.2.2.2.2
def Inv (G : aG) (h : aH) : Prop := ∃ σ al, OK σ ∧ Iv σ σ al G h
theorem Inv_LI {G : aG} : LI G (Inv G) := fun h ⟨σ, al, _, hI⟩ => ⟨hI.nn, ⟨_, hI.x.o⟩, by
  obtain ⟨s, hs⟩ := hI.m.o
  exact ⟨_, hs⟩⟩
/-- a pair from what a call means -/
theorem pair_i {G : aG} {d : Nat} {mX mM : aM} {args : List Value} (F : Sg → Int32 × Sg) (hF : ∀ σ, OK σ → OK (F σ).2)
    (hX : ∀ σ al h (Q : aQ), OK σ → Iv σ σ al G h → (∀ al' h', Iv (F σ).2 σ al' G h' → Q (some (.int (F σ).1)) h') → Rn G d mX 0 (eL mX.2.2.2.1 (.ref G.1 :: args)) [] h Q)
    (hM : ∀ σ ς al h (Q : aQ), OK σ → Iv ς σ al G h → (∀ h', Iv ς (F σ).2 al G h' → Q (some (.int (F σ).1)) h') → Rn G d mM 0 (eL mM.2.2.2.1 (.ref (G.1 + 40) :: args)) [] h Q) : PRi G (Inv G) d mX mM args := by
  intro h hI Qx hq
  obtain ⟨σ, al, hO, hI⟩ := hI
  refine hX σ al h Qx hO hI (fun al' h' hI' => ?_)
  refine hq _ h' hI'.nn ?_ (fun Qm hm => ?_)
  · obtain ⟨s, hs⟩ := hI'.m.o
    exact ⟨_, hs⟩
  · exact hM σ _ al' h' Qm hO hI' (fun h2 hI2 => hm h2 ⟨_, _, hF σ hO, hI2⟩)
theorem pair_l {G : aG} {d : Nat} {mX mM : aM} {args : List Value} (F : Sg → Int64 × Sg) (hF : ∀ σ, OK σ → OK (F σ).2)
    (hX : ∀ σ al h (Q : aQ), OK σ → Iv σ σ al G h → (∀ al' h', Iv (F σ).2 σ al' G h' → Q (some (.long (F σ).1)) h') → Rn G d mX 0 (eL mX.2.2.2.1 (.ref G.1 :: args)) [] h Q)
    (hM : ∀ σ ς al h (Q : aQ), OK σ → Iv ς σ al G h → (∀ h', Iv ς (F σ).2 al G h' → Q (some (.long (F σ).1)) h') → Rn G d mM 0 (eL mM.2.2.2.1 (.ref (G.1 + 40) :: args)) [] h Q) : PRl G (Inv G) d mX mM args := by
  intro h hI Qx hq
  obtain ⟨σ, al, hO, hI⟩ := hI
  refine hX σ al h Qx hO hI (fun al' h' hI' => ?_)
  refine hq _ h' hI'.nn ?_ (fun Qm hm => ?_)
  · obtain ⟨s, hs⟩ := hI'.m.o
    exact ⟨_, hs⟩
  · exact hM σ _ al' h' Qm hO hI' (fun h2 hI2 => hm h2 ⟨_, _, hF σ hO, hI2⟩)
/-- calls that change nothing -/
theorem pair_qi {G : aG} {d : Nat} {mX mM : aM} {args : List Value} (V : Tn → Int32)
    (hX : ∀ σ τ al h (Q : aQ), OK σ → Iv σ τ al G h → (∀ h', Iv σ τ al G h' → Q (some (.int (V σ.t))) h') → Rn G d mX 0 (eL mX.2.2.2.1 (.ref G.1 :: args)) [] h Q)
    (hM : ∀ σ τ al h (Q : aQ), OK τ → Iv σ τ al G h → (∀ h', Iv σ τ al G h' → Q (some (.int (V τ.t))) h') → Rn G d mM 0 (eL mM.2.2.2.1 (.ref (G.1 + 40) :: args)) [] h Q) : PRi G (Inv G) d mX mM args :=
  pair_i (fun σ => (V σ.t, σ)) (fun _ h => h) (fun σ al h Q hO hI hq => hX σ σ al h Q hO hI (fun h' hI' => hq al h' hI')) (fun σ ς al h Q hO hI hq => hM ς σ al h Q hO hI hq)
theorem pair_ql {G : aG} {d : Nat} {mX mM : aM} {args : List Value} (V : Tn → Int64)
    (hX : ∀ σ τ al h (Q : aQ), OK σ → Iv σ τ al G h → (∀ h', Iv σ τ al G h' → Q (some (.long (V σ.t))) h') → Rn G d mX 0 (eL mX.2.2.2.1 (.ref G.1 :: args)) [] h Q)
    (hM : ∀ σ τ al h (Q : aQ), OK τ → Iv σ τ al G h → (∀ h', Iv σ τ al G h' → Q (some (.long (V τ.t))) h') → Rn G d mM 0 (eL mM.2.2.2.1 (.ref (G.1 + 40) :: args)) [] h Q) : PRl G (Inv G) d mX mM args :=
  pair_l (fun σ => (V σ.t, σ)) (fun _ h => h) (fun σ al h Q hO hI hq => hX σ σ al h Q hO hI (fun h' hI' => hq al h' hI')) (fun σ ς al h Q hO hI hq => hM ς σ al h Q hO hI hq)
/-! the town's cells out of the standing -/
def Tn.rs (t : Tn) (r : Nat) : Nat := rgN t.n t.H t.N r
def Tn.rg (t : Tn) (k : Nat) : Nat := rgO t.n t.H t.N k
theorem rs_N {t : Tn} (hO : TnOK t) (r : Nat) : rgS t.n t.ho t.nb r = nI (t.rs r) := rgS_N hO.n hO.ho hO.nb r
theorem rs_lt {t : Tn} (hO : TnOK t) {r : Nat} : t.rs r < 2 ^ t.n := rgN_lt (fun k hk => (hO.ho k hk).2) (fun k hk => (hO.nb k hk).2)
theorem p24 {n : Nat} (h : n ≤ 24) : (2 : Nat) ^ n ≤ 16777216 := Nat.pow_le_pow_right (by decide) h
theorem rs_24 {t : Tn} (hO : TnOK t) {r : Nat} : t.rs r < 16777216 := Nat.lt_of_lt_of_le (rs_lt hO) (p24 hO.n)
theorem rg_iff {t : Tn} {k : Nat} (hk : k < t.n) {r : Nat} (hr : r < 4) : t.rg k = r ↔ (t.rs r).testBit k = true := rgO_iff hk hr
theorem rg_lt {t : Tn} {k : Nat} : t.rg k < 4 := rgO_lt
/-- a town's cells -/
def TU (h : aH) (a : Nat) (t : Tn) (f : Nat → Option Nat) (ad : Nat → Nat) (rg : Nat → Int32) : Prop :=
  TX h a t.now t.st t.bt t.ft t.n f ad t.c t.w t.ho t.nb ∧ aI h (a + 2) 0 = some (4, rg) ∧ (∀ r, r < 4 → rg r = rgS t.n t.ho t.nb r) ∧
  ∀ k, k < t.n → (∃ g, aI h (ad k + 1) 1 = some (1040, g) ∧ ∀ j, j < 1040 → g j = t.bk (1040 * k + j)) ∧ ∃ g, aI h (ad k + 2) 2 = some (260, g) ∧ ∀ j, j < 260 → g j = t.fm (260 * k + j)
theorem Iv_TU {σ τ : Sg} {al : Al} {G : aG} {h : aH} (hI : Iv σ τ al G h) : ∃ f rg, TU h (G.1 + 1) σ.t f (al.ad G.1) rg := by
  obtain ⟨f, ⟨h1, ⟨rg, h2, h3⟩, h4⟩, h5⟩ := hI.x.t
  rw [show (fun k => al.ad G.1 (24 * 0 + k)) = al.ad G.1 from funext fun k => by rw [Nat.mul_zero, Nat.zero_add]] at h1 h4
  exact ⟨f, rg, h1, h2, h3, h4⟩
section RINGQ
variable {G : aG} {d : Nat} {h : aH} {Q : aQ} {a : Nat} {t : Tn} {f : Nat → Option Nat} {ad : Nat → Nat} {rg : Nat → Int32}
/-- the class's ringOf -/
theorem s_rg (hT : TU h a t f ad rg) (hO : TnOK t) {k : Nat} (hk : k < t.n) : Rn G d mX9_ringOf 0 [some (.ref a), some (.int (nI k)), none] [] h Q = Q (some (.int (nI (t.rg k)))) h := by
  obtain ⟨h1, h2, h3, h4⟩ := hT
  have hn := hO.n
  rw [s_ringOf h1 h2 hk, h3 0 (by decide), h3 1 (by decide), h3 2 (by decide), h3 3 (by decide), rs_N hO, rs_N hO, rs_N hO, rs_N hO]
  have b : ∀ r, ((nI (t.rs r) >>> (nI k &&& 31)) &&& 1 = 1) = ((t.rs r).testBit k = true) := fun r => propext (bt_iff (by have := rs_24 hO (r := r); omega) (by omega))
  simp only [b]
  refine Qcongr ?_
  have e3 := rgN_3 (ho := t.H) (N := t.N) hk
  unfold Tn.rg rgO Tn.rs
  by_cases c0 : (rgN t.n t.H t.N 0).testBit k = true
  · simp only [c0, ↓reduceIte]; rfl
  · by_cases c1 : (rgN t.n t.H t.N 1).testBit k = true
    · simp only [c0, c1, ↓reduceIte]; rfl
    · by_cases c2 : (rgN t.n t.H t.N 2).testBit k = true
      · simp only [c0, c1, c2, ↓reduceIte]; rfl
      · have c3 : (rgN t.n t.H t.N 3).testBit k = true := by
          rw [e3]
          simp only [Bool.not_eq_true] at c0 c1 c2
          rw [c0, c1, c2]
          rfl
        simp only [c0, c1, c2, c3, ↓reduceIte]; rfl
theorem s_rg0 (hT : TU h a t f ad rg) {x : Int32} (hx : ¬ (0 ≤ x.toInt ∧ x.toInt < t.n)) : Rn G d mX9_ringOf 0 [some (.ref a), some (.int x), none] [] h Q = Q (some (.int (-1))) h := by
  obtain ⟨h1, h2, h3, h4⟩ := hT
  have hn := h1.1
  simp only [q_X9_ringOf_0, q_X9_ringOf_1, q_X9_ringOf_4, q_X9_ringOf_5, q_X9_ringOf_6, q_X9_ringOf_9, q_X9_ringOf_12, q_X9_ringOf_13, ldI_s, ldJ_s, ldA_r, ldA_n, ob_s, List.getElem?_cons_zero, List.getElem?_cons_succ, List.length_cons, List.length_nil, gx_0, gx_1, gx_2, gx_3, gx_4, gx_5, gx_6, gx_7, gx_8, gx_9, gx_10, gx_11, Nat.reduceAdd, Nat.reduceLT, Nat.reduceLeDiff, Nat.reduceSub, Nat.lt_irrefl, true_and, and_true, Option.toList_some, Option.toList_none, List.cons_append, List.nil_append, csum_nil, csum_int, csum_long, csum_ref, csum_null, nar_int, nar_long, nar_ref, nar_null, nar_refA, nar_nullA, fit_int, fit_long, fit_ref, fit_refA, fit_null, fit_nullA, stL_0, stL_1i, stL_1r, stL_1n, stL_1u, stL_2i, stL_2r, stL_2n, stL_2u, stL_3i, stL_3r, stL_3n, stL_3u, stL_4i, stL_4r, stL_4n, stL_4u, stL_5i, stL_5r, stL_5n, stL_5u, stL_6i, stL_6r, stL_6n, stL_6u, stL_7i, stL_7r, stL_7n, stL_7u, stL_8i, stL_8r, stL_8n, stL_8u, stL_9i, stL_9r, stL_9n, stL_9u, stL_10i, stL_10r, stL_10n, stL_10u, stL_11i, stL_11r, stL_11n, stL_11u, stJ_0, stJ_1i, stJ_1r, stJ_1n, stJ_1u, stJ_2i, stJ_2r, stJ_2n, stJ_2u, stJ_3i, stJ_3r, stJ_3n, stJ_3u, stJ_4i, stJ_4r, stJ_4n, stJ_4u, stJ_5i, stJ_5r, stJ_5n, stJ_5u, stJ_6i, stJ_6r, stJ_6n, stJ_6u, stJ_7i, stJ_7r, stJ_7n, stJ_7u, stJ_8i, stJ_8r, stJ_8n, stJ_8u, stJ_9i, stJ_9r, stJ_9n, stJ_9u, stJ_10i, stJ_10r, stJ_10n, stJ_10u, ↓reduceIte, cat_int, cat_ref, cat_null, cat_long, va_rf_s, va_rf_n, nz_bI, nz_0, nz_1, bI_0, pd_1, pp_1, pq_1, pd_2, pp_2, pq_2, pd_3, pp_3, pq_3, pd_4, pp_4, pq_4, pd_5, pp_5, pq_5, pd_6, pp_6, pq_6, pd_7, pp_7, pq_7, pd_8, pp_8, pq_8, pd_9, pp_9, pq_9, pd_10, pp_10, pq_10, pd_11, pp_11, pq_11, pd_12, pp_12, pq_12, pd_13, pp_13, pq_13, pd_14, pp_14, pq_14, pd_15, pp_15, pq_15, pd_16, pp_16, pq_16, pd_17, pp_17, pq_17, pd_18, pp_18, pq_18, pd_19, pp_19, pq_19, pd_20, pp_20, pq_20, pd_21, pp_21, pq_21, pd_22, pp_22, pq_22, pd_23, pp_23, pq_23, pd_24, pp_24, pq_24, Nat.add_zero, Nat.zero_le, Nat.le_refl, eq_self, Option.some.injEq, exists_eq', h1.2.1]
  by_cases c1 : x < 0
  · rw [if_pos c1]
  · rw [if_neg c1]
    have c2 : ¬ x < nI t.n := by
      rw [Int32.lt_iff_toInt_lt] at c1 ⊢
      rw [nI_toInt (by omega)]
      have : (0 : Int32).toInt = 0 := rfl
      omega
    rw [if_neg c2]
end RINGQ
