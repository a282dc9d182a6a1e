/-! beside -/
def Tn.sB2 (t : Tn) (a b : Nat) (p : Int32) : Tn := mkTn t.now t.st t.bt t.ft p t.n t.c t.w t.ho (upd (upd t.nb a (t.nb a ^^^ (1 <<< (nI b &&& 31)))) b (t.nb b ^^^ (1 <<< (nI a &&& 31)))) t.bk t.fm
theorem pc_sum : ∀ k x, pcN k x = sumN (fun i => (x.testBit i).toNat) k := by
  have aux : ∀ k (f : Nat → Nat), sumN f (k + 1) = f 0 + sumN (fun i => f (i + 1)) k := by
    intro k f
    induction k with
    | zero => simp [sumN]
    | succ k ih => rw [sumN, ih, sumN]; omega
  intro k
  induction k with
  | zero => intro x; rfl
  | succ k ih =>
    intro x
    rw [pcN, aux, ih]
    have e0 : (x.testBit 0).toNat = x % 2 := by
      rw [Nat.testBit_zero]
      rcases (show x % 2 = 0 ∨ x % 2 = 1 by omega) with z | z <;> rw [z] <;> rfl
    rw [e0]
    refine congrArg (x % 2 + ·) (sumN_c k (fun i _ => ?_))
    rw [Nat.testBit_succ]
theorem sumN_one {f g : Nat → Nat} {a : Nat} : ∀ n, a < n → (∀ k, k < n → k ≠ a → g k = f k) → sumN g n + f a = sumN f n + g a := by
  intro n
  induction n with
  | zero => intro h; omega
  | succ n ih =>
    intro ha h
    rw [sumN, sumN]
    by_cases c : a = n
    · subst c
      rw [sumN_c a (fun k hk => h k (by omega) (by omega))]
      omega
    · have := ih (by omega) (fun k hk => h k (by omega))
      have := h n (by omega) (by omega)
      omega
theorem pc_xor {x b : Nat} (hb : b < 32) : pcN 32 (x ^^^ 2 ^ b) + (if x.testBit b = true then 1 else 0) = pcN 32 x + (if x.testBit b = true then 0 else 1) := by
  have h := sumN_one (f := fun i => (x.testBit i).toNat) (g := fun i => ((x ^^^ 2 ^ b).testBit i).toNat) 32 hb (fun k _ hne => by
    show ((x ^^^ 2 ^ b).testBit k).toNat = (x.testBit k).toNat
    rw [Nat.testBit_xor, Nat.testBit_two_pow, show (decide (b = k)) = false from decide_eq_false (fun z => hne z.symm), Bool.xor_false])
  rw [pc_sum, pc_sum]
  have e : ((x ^^^ 2 ^ b).testBit b) = !x.testBit b := by
    rw [Nat.testBit_xor, Nat.testBit_two_pow]
    simp
  simp only [e] at h
  cases z : x.testBit b
  · rw [z] at h; simpa using h
  · rw [z] at h; simpa using h
theorem shl1 {b : Nat} (hb : b < 24) : (1 : Int32) <<< (nI b &&& 31) = nI (2 ^ b) := by
  have p : 2 ^ b ≤ 2 ^ 23 := Nat.pow_le_pow_right (by decide) (by omega)
  have := shl_k (N := 1) (k := b) (by omega) (by omega)
  rw [Nat.one_mul] at this
  exact this
theorem B2_N {t : Tn} (hO : TnOK t) {a b : Nat} (ha : a < t.n) (hb : b < t.n) (hab : a ≠ b) {p : Int32} (k : Nat) : (t.sB2 a b p).nb k = (if k = b then nI (t.N b ^^^ 2 ^ a) else if k = a then nI (t.N a ^^^ 2 ^ b) else t.nb k) ∧ (t.sB2 a b p).N k = (if k = b then t.N b ^^^ 2 ^ a else if k = a then t.N a ^^^ 2 ^ b else t.N k) := by
  have hn := hO.n
  obtain ⟨a1, a2⟩ := hO.nb a ha
  obtain ⟨b1, b2⟩ := hO.nb b hb
  have pn := p24 hn
  have l1 : t.N a ^^^ 2 ^ b < 2 ^ t.n := Nat.xor_lt_two_pow a2 (Nat.pow_lt_pow_right (by decide) hb)
  have l2 : t.N b ^^^ 2 ^ a < 2 ^ t.n := Nat.xor_lt_two_pow b2 (Nat.pow_lt_pow_right (by decide) ha)
  have e : (t.sB2 a b p).nb k = (if k = b then nI (t.N b ^^^ 2 ^ a) else if k = a then nI (t.N a ^^^ 2 ^ b) else t.nb k) := by
    show upd (upd t.nb a (t.nb a ^^^ (1 <<< (nI b &&& 31)))) b (t.nb b ^^^ (1 <<< (nI a &&& 31))) k = _
    rw [shl1 (by omega), shl1 (by omega), a1, b1, xor_nI, xor_nI]
    rfl
  refine ⟨e, ?_⟩
  show ((t.sB2 a b p).nb k).toNatClampNeg = _
  rw [e]
  by_cases c1 : k = b
  · rw [if_pos c1, if_pos c1, nI_clamp (by omega)]
  · rw [if_neg c1, if_neg c1]
    by_cases c2 : k = a
    · rw [if_pos c2, if_pos c2, nI_clamp (by omega)]
    · rw [if_neg c2, if_neg c2]; rfl
theorem B2_bit {t : Tn} (hO : TnOK t) {a b : Nat} (ha : a < t.n) (hb : b < t.n) (hab : a ≠ b) {p : Int32} (x y : Nat) : ((t.sB2 a b p).N x).testBit y = ((t.N x).testBit y ^^ (decide (x = b ∧ y = a) || decide (x = a ∧ y = b))) := by
  rw [(B2_N hO ha hb hab x).2]
  by_cases c1 : x = b
  · have e : (decide (x = b ∧ y = a) || decide (x = a ∧ y = b)) = decide (a = y) := by
      have h1 : ¬ x = a := by omega
      by_cases c : a = y
      · simp [c, c1]
      · simp [c, c1, Ne.symm c, Ne.symm hab]
    rw [e, if_pos c1, Nat.testBit_xor, Nat.testBit_two_pow, c1]
  · rw [if_neg c1]
    by_cases c2 : x = a
    · have e : (decide (x = b ∧ y = a) || decide (x = a ∧ y = b)) = decide (b = y) := by
        by_cases c : b = y
        · simp [c, c2]
        · simp [c2, c, Ne.symm c, hab]
      rw [e, if_pos c2, Nat.testBit_xor, Nat.testBit_two_pow, c2]
    · rw [if_neg c2]
      simp [c1, c2]
theorem TnOK_B2 {t : Tn} (hO : TnOK t) {a b : Nat} (ha : a < t.n) (hb : b < t.n) (hab : a ≠ b) : TnOK (t.sB2 a b (t.pr + (if (t.N a).testBit b = true then -1 else 1))) := by
  have hn := hO.n
  generalize hp : t.pr + (if (t.N a).testBit b = true then -1 else 1) = p'
  have E := B2_N hO ha hb hab (p := p')
  have sy := hO.sy a b ha hb
  have b1 := (hO.nb a ha).2
  have b2 := (hO.nb b hb).2
  refine ⟨hO.n, hO.now, hO.st, hO.c, hO.w, hO.ho, ?_, ?_, ?_, ?_, hO.bk, hO.bz, hO.fm, hO.fz⟩
  · intro k hk
    rw [(E k).1, (E k).2]
    have p1 : 2 ^ a < 2 ^ t.n := Nat.pow_lt_pow_right (by decide) ha
    have p2 : 2 ^ b < 2 ^ t.n := Nat.pow_lt_pow_right (by decide) hb
    by_cases c1 : k = b
    · rw [if_pos c1, if_pos c1]; exact ⟨rfl, Nat.xor_lt_two_pow b2 p1⟩
    · rw [if_neg c1, if_neg c1]
      by_cases c2 : k = a
      · rw [if_pos c2, if_pos c2]; exact ⟨rfl, Nat.xor_lt_two_pow b1 p2⟩
      · rw [if_neg c2, if_neg c2]; exact hO.nb k hk
  · intro x y hx hy
    have s := hO.sy x y hx hy
    rw [B2_bit hO ha hb hab, B2_bit hO ha hb hab, s, Bool.or_comm]
    refine congrArg _ (congr (congrArg _ (decide_eq_decide.2 And.comm)) (decide_eq_decide.2 And.comm))
  · intro x hx
    have s := hO.ir x hx
    rw [(E x).2]
    by_cases c1 : x = b
    · subst c1; rw [if_pos rfl, Nat.testBit_xor, s, Nat.testBit_two_pow]; simp [hab]
    · rw [if_neg c1]
      by_cases c2 : x = a
      · subst c2; rw [if_pos rfl, Nat.testBit_xor, s, Nat.testBit_two_pow]; simp [Ne.symm hab]
      · rw [if_neg c2]; exact s
  · obtain ⟨p, e1, e2⟩ := hO.pr
    have s1 := sumN_one (f := fun k => pcN 32 (t.N k)) (g := fun k => if k = a then pcN 32 (t.N a ^^^ 2 ^ b) else pcN 32 (t.N k)) t.n ha (fun k _ hne => by show (if k = a then _ else _) = _; rw [if_neg hne])
    have s2 := sumN_one (f := fun k => if k = a then pcN 32 (t.N a ^^^ 2 ^ b) else pcN 32 (t.N k)) (g := fun k => pcN 32 ((t.sB2 a b p').N k)) t.n hb (fun k _ hne => by
      show pcN 32 ((t.sB2 a b p').N k) = (if k = a then pcN 32 (t.N a ^^^ 2 ^ b) else pcN 32 (t.N k))
      rw [(E k).2, if_neg hne]
      split <;> rfl)
    have x1 := pc_xor (x := t.N a) (b := b) (by omega)
    have x2 := pc_xor (x := t.N b) (b := a) (by omega)
    have sc : pcN 32 ((t.sB2 a b p').N b) = pcN 32 (t.N b ^^^ 2 ^ a) := by rw [(E b).2, if_pos rfl]
    simp only [↓reduceIte] at s1
    simp only [Ne.symm hab, sc, ↓reduceIte] at s2
    show ∃ q, p' = nI q ∧ 2 * q = sumN (fun k => pcN 32 ((t.sB2 a b p').N k)) t.n
    rw [← sy] at x2
    generalize sumN (fun k => pcN 32 ((t.sB2 a b p').N k)) t.n = S2 at s2 ⊢
    generalize sumN (fun k => if k = a then pcN 32 (t.N a ^^^ 2 ^ b) else pcN 32 (t.N k)) t.n = S1 at s1 s2
    generalize sumN (fun k => pcN 32 (t.N k)) t.n = S0 at s1 e2
    cases z : (t.N a).testBit b
    · simp only [z, Bool.false_eq_true, ↓reduceIte] at x1 x2 hp
      refine ⟨p + 1, ?_, by omega⟩
      rw [← hp, e1, nI_1]
    · simp only [z, ↓reduceIte] at x1 x2 hp
      refine ⟨p - 1, ?_, by omega⟩
      rw [← hp, e1, show p = (p - 1) + 1 by omega, pk_m1]
      rfl
def cBes (x y : Int32) (P : Prop) (σ : Sg) : Prop := (0 ≤ x.toInt ∧ x.toInt < σ.t.n) ∧ (0 ≤ y.toInt ∧ y.toInt < σ.t.n) ∧ x ≠ y ∧ ¬ ((σ.t.N x.toNatClampNeg).testBit y.toNatClampNeg = true ↔ P)
def dBes (x y : Int32) (P : Prop) [Decidable P] (σ : Sg) : Decidable (cBes x y P σ) := by unfold cBes; exact inferInstance
def gBes (a b : Nat) (σ : Sg) : Sg := σ.sT (σ.t.sB2 a b (σ.t.pr + (if (σ.t.N a).testBit b = true then -1 else 1)))
def fBes (x y : Int32) (P : Prop) [Decidable P] (σ : Sg) : Int32 × Sg := match dBes x y P σ with
  | isTrue _ => (1, gBes x.toNatClampNeg y.toNatClampNeg σ)
  | isFalse _ => (0, σ)
theorem fBes_t {x y : Int32} {P : Prop} [Decidable P] {σ : Sg} (c : cBes x y P σ) : fBes x y P σ = (1, gBes x.toNatClampNeg y.toNatClampNeg σ) := by
  unfold fBes
  cases dBes x y P σ with
  | isTrue _ => rfl
  | isFalse z => exact absurd c z
theorem fBes_f {x y : Int32} {P : Prop} [Decidable P] {σ : Sg} (c : ¬ cBes x y P σ) : fBes x y P σ = (0, σ) := by
  unfold fBes
  cases dBes x y P σ with
  | isTrue z => exact absurd z c
  | isFalse _ => rfl
theorem ad_n0 {al : Al} {B o o' j : Nat} (hA : AlOK al) (h1 : al.mk o = true) (h2 : al.mk o' = true) (hne : o ≠ o') (hj : j < 3) : al.ad B o + j ≠ al.ad B o' := by
  have := ad_ne (B := B) (j := j) (j' := 0) hA h1 h2 hne hj (by decide)
  simpa using this
section BES
variable {G : aG} {d : Nat} {h : aH} {Q : aQ} {σ τ : Sg} {al : Al}
theorem s_setBeside (hI : Iv σ τ al G h) (hO : OK σ) {a b : Nat} (ha : a < σ.t.n) (hb : b < σ.t.n) (hab : a ≠ b) {P : Prop} [Decidable P] (hc : ¬ ((σ.t.N a).testBit b = true ↔ P)) (hq : ∀ h', Iv (gBes a b σ) τ al G h' → Q (some (.int 1)) h') : Rn G (d + 5) mX9_setBeside 0 [some (.ref (G.1 + 1)), some (.int (nI a)), some (.int (nI b)), some (.int (bI P)), none, none] [] h Q := by
  obtain ⟨f, rg, hT⟩ := Iv_TU hI
  have hn := hO.t.n
  have ex9 : ∃ fs, oF h (G.1 + 1) 9 = some fs := ⟨_, hT.1.2.1⟩
  have mk0 : ∀ k, k < σ.t.n → al.mk k = true := fun k hk => by have := XT_mk hI.x.t hk; simpa using this
  have sc0 : ∀ k, k < σ.t.n → SC h (al.ad G.1 k) σ.t k := fun k hk => by have := XT_SC hI.x.t hk; rw [Nat.mul_zero, Nat.zero_add] at this; exact this
  have sa := (sc0 a ha).1
  have sb := (sc0 b hb).1
  have na := hO.t.nb a ha
  have nb := hO.t.nb b hb
  have ad := fun o => ad_ge (al := al) (B := G.1) (o := o)
  have ada := ad a
  have adb := ad b
  have n00 := ad_ne (B := G.1) (j := 0) (j' := 0) hI.al (mk0 b hb) (mk0 a ha) (Ne.symm hab) (by decide) (by decide)
  have n01 := ad_ne (B := G.1) (j := 0) (j' := 0) hI.al (mk0 a ha) (mk0 b hb) hab (by decide) (by decide)
  rw [Nat.add_zero, Nat.add_zero] at n00 n01
  have p24' := p24 hn
  have bt : ((σ.t.nb a >>> (nI b &&& 31)) &&& 1 = 1) = ((σ.t.N a).testBit b = true) := by rw [na.1]; exact propext (bt_iff (by omega) (by omega))
  have bt0 : ((σ.t.nb a >>> (nI b &&& 31)) &&& 1 = 0) = ((σ.t.N a).testBit b = false) := by rw [na.1]; exact propext (bt_0 (by omega) (by omega))
  have exa : ∃ fs, oF h (al.ad G.1 a) 8 = some fs := ⟨_, sa⟩
  have hBa : G.1 ≤ al.ad G.1 a := by omega
  have hBb : G.1 ≤ al.ad G.1 b := by omega
  have I2 := Iw_s0 (Iw_0 hI) (k := a) (by omega) (by rw [Nat.mul_zero, Nat.zero_add]; exact mk0 a ha) (σ.t.c a) (σ.t.w a) (σ.t.ho a) (σ.t.nb a ^^^ (1 <<< (nI b &&& 31)))
  have I3 := Iw_s0 I2 (k := b) (by omega) (by rw [Nat.mul_zero, Nat.zero_add]; exact mk0 b hb) (σ.t.c b) (σ.t.w b) (σ.t.ho b) (σ.t.nb b ^^^ (1 <<< (nI a &&& 31)))
  simp only [Nat.mul_zero, Nat.zero_add] at I3
  have rb : ∀ e, oF (hup h (al.ad G.1 a) e) (al.ad G.1 b) 8 = oF h (al.ad G.1 b) 8 := fun e => oF_c (hup_ne n00)
  have body : Rn G (d + 5) mX9_setBeside 47 [some (.ref (G.1 + 1)), some (.int (nI a)), some (.int (nI b)), some (.int (bI P)), some (.ref (al.ad G.1 a)), some (.ref (al.ad G.1 b))] [] h Q := by
    have ex9' : ∀ e1 e2, ∃ fs, oF (hup (hup h (al.ad G.1 a) e1) (al.ad G.1 b) e2) (G.1 + 1) 9 = some fs := fun e1 e2 => ⟨_, by rw [oF_c (hup_ne (by omega)), oF_c (hup_ne (by omega))]; exact hT.1.2.1⟩
    simp only [q_X9_setBeside_47, q_X9_setBeside_49, q_X9_setBeside_50, q_X9_setBeside_53, q_X9_setBeside_54, q_X9_setBeside_55, q_X9_setBeside_56, q_X9_setBeside_57, q_X9_setBeside_60, q_X9_setBeside_62, q_X9_setBeside_63, q_X9_setBeside_66, q_X9_setBeside_67, q_X9_setBeside_68, q_X9_setBeside_69, q_X9_setBeside_70, q_X9_setBeside_73, q_X9_setBeside_74, ldI_s, ldJ_s, ldA_r, ldA_n, ob_s, List.getElem?_cons_zero, List.getElem?_cons_succ, List.length_cons, List.length_nil, gx_0, gx_1, gx_2, gx_3, gx_4, gx_5, gx_6, gx_7, gx_8, gx_9, gx_10, gx_11, Nat.reduceAdd, Nat.reduceLT, Nat.reduceLeDiff, Nat.reduceSub, Nat.lt_irrefl, true_and, and_true, Option.toList_some, Option.toList_none, List.cons_append, List.nil_append, csum_nil, csum_int, csum_long, csum_ref, csum_null, nar_int, nar_long, nar_ref, nar_null, nar_refA, nar_nullA, fit_int, fit_long, fit_ref, fit_refA, fit_null, fit_nullA, stL_0, stL_1i, stL_1r, stL_1n, stL_1u, stL_2i, stL_2r, stL_2n, stL_2u, stL_3i, stL_3r, stL_3n, stL_3u, stL_4i, stL_4r, stL_4n, stL_4u, stL_5i, stL_5r, stL_5n, stL_5u, stL_6i, stL_6r, stL_6n, stL_6u, stL_7i, stL_7r, stL_7n, stL_7u, stL_8i, stL_8r, stL_8n, stL_8u, stL_9i, stL_9r, stL_9n, stL_9u, stL_10i, stL_10r, stL_10n, stL_10u, stL_11i, stL_11r, stL_11n, stL_11u, stJ_0, stJ_1i, stJ_1r, stJ_1n, stJ_1u, stJ_2i, stJ_2r, stJ_2n, stJ_2u, stJ_3i, stJ_3r, stJ_3n, stJ_3u, stJ_4i, stJ_4r, stJ_4n, stJ_4u, stJ_5i, stJ_5r, stJ_5n, stJ_5u, stJ_6i, stJ_6r, stJ_6n, stJ_6u, stJ_7i, stJ_7r, stJ_7n, stJ_7u, stJ_8i, stJ_8r, stJ_8n, stJ_8u, stJ_9i, stJ_9r, stJ_9n, stJ_9u, stJ_10i, stJ_10r, stJ_10n, stJ_10u, ↓reduceIte, cat_int, cat_ref, cat_null, cat_long, va_rf_s, va_rf_n, nz_bI, nz_0, nz_1, bI_0, pd_1, pp_1, pq_1, pd_2, pp_2, pq_2, pd_3, pp_3, pq_3, pd_4, pp_4, pq_4, pd_5, pp_5, pq_5, pd_6, pp_6, pq_6, pd_7, pp_7, pq_7, pd_8, pp_8, pq_8, pd_9, pp_9, pq_9, pd_10, pp_10, pq_10, pd_11, pp_11, pq_11, pd_12, pp_12, pq_12, pd_13, pp_13, pq_13, pd_14, pp_14, pq_14, pd_15, pp_15, pq_15, pd_16, pp_16, pq_16, pd_17, pp_17, pq_17, pd_18, pp_18, pq_18, pd_19, pp_19, pq_19, pd_20, pp_20, pq_20, pd_21, pp_21, pq_21, pd_22, pp_22, pq_22, pd_23, pp_23, pq_23, pd_24, pp_24, pq_24, Nat.add_zero, Nat.zero_le, Nat.le_refl, eq_self, Option.some.injEq, exists_eq', fs_0, fs_1, fs_2, fs_3, fs_4, fs_5, fs_6, fs_7, fs_8, fs_9, fs_10, fs_11, sa, sb, rb, hBa, hBb, ex9']
    refine s_rings_z (t := σ.t.sB2 a b (σ.t.pr + (if (σ.t.N a).testBit b = true then -1 else 1))) I3 (TnOK_B2 hO.t ha hb hab) ?_ (fun k hk => ?_) (fun h7 I7 _ => ?_)
    · rw [oF_c (hup_ne (by omega)), oF_c (hup_ne (by omega))]; exact hT.1.2.1
    · have hk' : k < σ.t.n := hk
      refine ⟨mk0 k hk', ?_⟩
      have adk := ad k
      obtain ⟨k1, k2, k3⟩ := sc0 k hk'
      by_cases c1 : k = b
      · subst c1
        refine ⟨?_, ?_, ?_⟩
        · rw [oF_of hup_eq]
          show _ = some [_, _, _, Value.int (upd _ k _ k), _, _]
          rw [pk_us]
          rfl
        · rw [aI_c (hup_ne (by omega)), aI_c (hup_ne (ad_n0 hI.al (mk0 k hk') (mk0 a ha) (Ne.symm hab) (by decide)))]; exact k2
        · rw [aI_c (hup_ne (by omega)), aI_c (hup_ne (ad_n0 hI.al (mk0 k hk') (mk0 a ha) (Ne.symm hab) (by decide)))]; exact k3
      · by_cases c2 : k = a
        · subst c2
          refine ⟨?_, ?_, ?_⟩
          · rw [oF_c (hup_ne n01), oF_of hup_eq]
            show _ = some [_, _, _, Value.int (upd (upd _ k _) b _ k), _, _]
            rw [pk_un hab, pk_us]
            rfl
          · rw [aI_c (hup_ne (ad_n0 hI.al (mk0 k hk') (mk0 b hb) hab (by decide))), aI_c (hup_ne (by omega))]; exact k2
          · rw [aI_c (hup_ne (ad_n0 hI.al (mk0 k hk') (mk0 b hb) hab (by decide))), aI_c (hup_ne (by omega))]; exact k3
        · refine SC_c (t := σ.t) ?_ (SC_fr (h := h) (fun j hj => ?_) ⟨k1, k2, k3⟩)
          · show (σ.t.c k, σ.t.w k, σ.t.ho k, upd (upd σ.t.nb a _) b _ k, σ.t.bk, σ.t.fm) = _
            rw [pk_un c1, pk_un c2]
          · have m1 := ad_n0 (B := G.1) hI.al (mk0 k hk') (mk0 a ha) c2 hj
            have m2 := ad_n0 (B := G.1) hI.al (mk0 k hk') (mk0 b hb) c1 hj
            rw [hup_ne m2, hup_ne m1]
    · simp only [q_X9_setBeside_77, q_X9_setBeside_78, ldI_s, ldJ_s, ldA_r, ldA_n, ob_s, List.getElem?_cons_zero, List.getElem?_cons_succ, List.length_cons, List.length_nil, gx_0, gx_1, gx_2, gx_3, gx_4, gx_5, gx_6, gx_7, gx_8, gx_9, gx_10, gx_11, Nat.reduceAdd, Nat.reduceLT, Nat.reduceLeDiff, Nat.reduceSub, Nat.lt_irrefl, true_and, and_true, Option.toList_some, Option.toList_none, List.cons_append, List.nil_append, csum_nil, csum_int, csum_long, csum_ref, csum_null, nar_int, nar_long, nar_ref, nar_null, nar_refA, nar_nullA, fit_int, fit_long, fit_ref, fit_refA, fit_null, fit_nullA, stL_0, stL_1i, stL_1r, stL_1n, stL_1u, stL_2i, stL_2r, stL_2n, stL_2u, stL_3i, stL_3r, stL_3n, stL_3u, stL_4i, stL_4r, stL_4n, stL_4u, stL_5i, stL_5r, stL_5n, stL_5u, stL_6i, stL_6r, stL_6n, stL_6u, stL_7i, stL_7r, stL_7n, stL_7u, stL_8i, stL_8r, stL_8n, stL_8u, stL_9i, stL_9r, stL_9n, stL_9u, stL_10i, stL_10r, stL_10n, stL_10u, stL_11i, stL_11r, stL_11n, stL_11u, stJ_0, stJ_1i, stJ_1r, stJ_1n, stJ_1u, stJ_2i, stJ_2r, stJ_2n, stJ_2u, stJ_3i, stJ_3r, stJ_3n, stJ_3u, stJ_4i, stJ_4r, stJ_4n, stJ_4u, stJ_5i, stJ_5r, stJ_5n, stJ_5u, stJ_6i, stJ_6r, stJ_6n, stJ_6u, stJ_7i, stJ_7r, stJ_7n, stJ_7u, stJ_8i, stJ_8r, stJ_8n, stJ_8u, stJ_9i, stJ_9r, stJ_9n, stJ_9u, stJ_10i, stJ_10r, stJ_10n, stJ_10u, ↓reduceIte, cat_int, cat_ref, cat_null, cat_long, va_rf_s, va_rf_n, nz_bI, nz_0, nz_1, bI_0, pd_1, pp_1, pq_1, pd_2, pp_2, pq_2, pd_3, pp_3, pq_3, pd_4, pp_4, pq_4, pd_5, pp_5, pq_5, pd_6, pp_6, pq_6, pd_7, pp_7, pq_7, pd_8, pp_8, pq_8, pd_9, pp_9, pq_9, pd_10, pp_10, pq_10, pd_11, pp_11, pq_11, pd_12, pp_12, pq_12, pd_13, pp_13, pq_13, pd_14, pp_14, pq_14, pd_15, pp_15, pq_15, pd_16, pp_16, pq_16, pd_17, pp_17, pq_17, pd_18, pp_18, pq_18, pd_19, pp_19, pq_19, pd_20, pp_20, pq_20, pd_21, pp_21, pq_21, pd_22, pp_22, pq_22, pd_23, pp_23, pq_23, pd_24, pp_24, pq_24, Nat.add_zero, Nat.zero_le, Nat.le_refl, eq_self, Option.some.injEq, exists_eq']
      exact hq _ I7
  by_cases z : P
  · have hc' : (σ.t.N a).testBit b = false := by
      cases y : (σ.t.N a).testBit b
      · rfl
      · exact absurd (by simp [y, z]) hc
    have z1 : (σ.t.nb a >>> (nI b &&& 31)) &&& 1 = 0 := by rw [bt0]; exact hc'
    rw [bI_t z] at body ⊢
    simp only [q_X9_setBeside_0, q_X9_setBeside_1, q_X9_setBeside_2, q_X9_setBeside_5r, q_X9_setBeside_5n, q_X9_setBeside_7, q_X9_setBeside_8, q_X9_setBeside_9, q_X9_setBeside_12r, q_X9_setBeside_12n, q_X9_setBeside_14, q_X9_setBeside_16n, q_X9_setBeside_16r, q_X9_setBeside_19, q_X9_setBeside_21n, q_X9_setBeside_21r, q_X9_setBeside_24, q_X9_setBeside_26, q_X9_setBeside_29, q_X9_setBeside_30, q_X9_setBeside_31, q_X9_setBeside_32, q_X9_setBeside_33, q_X9_setBeside_34, q_X9_setBeside_37, q_X9_setBeside_38, q_X9_setBeside_41, q_X9_setBeside_42, ldI_s, ldJ_s, ldA_r, ldA_n, ob_s, List.getElem?_cons_zero, List.getElem?_cons_succ, List.length_cons, List.length_nil, gx_0, gx_1, gx_2, gx_3, gx_4, gx_5, gx_6, gx_7, gx_8, gx_9, gx_10, gx_11, Nat.reduceAdd, Nat.reduceLT, Nat.reduceLeDiff, Nat.reduceSub, Nat.lt_irrefl, true_and, and_true, Option.toList_some, Option.toList_none, List.cons_append, List.nil_append, csum_nil, csum_int, csum_long, csum_ref, csum_null, nar_int, nar_long, nar_ref, nar_null, nar_refA, nar_nullA, fit_int, fit_long, fit_ref, fit_refA, fit_null, fit_nullA, stL_0, stL_1i, stL_1r, stL_1n, stL_1u, stL_2i, stL_2r, stL_2n, stL_2u, stL_3i, stL_3r, stL_3n, stL_3u, stL_4i, stL_4r, stL_4n, stL_4u, stL_5i, stL_5r, stL_5n, stL_5u, stL_6i, stL_6r, stL_6n, stL_6u, stL_7i, stL_7r, stL_7n, stL_7u, stL_8i, stL_8r, stL_8n, stL_8u, stL_9i, stL_9r, stL_9n, stL_9u, stL_10i, stL_10r, stL_10n, stL_10u, stL_11i, stL_11r, stL_11n, stL_11u, stJ_0, stJ_1i, stJ_1r, stJ_1n, stJ_1u, stJ_2i, stJ_2r, stJ_2n, stJ_2u, stJ_3i, stJ_3r, stJ_3n, stJ_3u, stJ_4i, stJ_4r, stJ_4n, stJ_4u, stJ_5i, stJ_5r, stJ_5n, stJ_5u, stJ_6i, stJ_6r, stJ_6n, stJ_6u, stJ_7i, stJ_7r, stJ_7n, stJ_7u, stJ_8i, stJ_8r, stJ_8n, stJ_8u, stJ_9i, stJ_9r, stJ_9n, stJ_9u, stJ_10i, stJ_10r, stJ_10n, stJ_10u, ↓reduceIte, cat_int, cat_ref, cat_null, cat_long, va_rf_s, va_rf_n, nz_bI, nz_0, nz_1, bI_0, pd_1, pp_1, pq_1, pd_2, pp_2, pq_2, pd_3, pp_3, pq_3, pd_4, pp_4, pq_4, pd_5, pp_5, pq_5, pd_6, pp_6, pq_6, pd_7, pp_7, pq_7, pd_8, pp_8, pq_8, pd_9, pp_9, pq_9, pd_10, pp_10, pq_10, pd_11, pp_11, pq_11, pd_12, pp_12, pq_12, pd_13, pp_13, pq_13, pd_14, pp_14, pq_14, pd_15, pp_15, pq_15, pd_16, pp_16, pq_16, pd_17, pp_17, pq_17, pd_18, pp_18, pq_18, pd_19, pp_19, pq_19, pd_20, pp_20, pq_20, pd_21, pp_21, pq_21, pd_22, pp_22, pq_22, pd_23, pp_23, pq_23, pd_24, pp_24, pq_24, Nat.add_zero, Nat.zero_le, Nat.le_refl, eq_self, Option.some.injEq, exists_eq', ex9, s_streetAt hT.1 ha, s_streetAt hT.1 hb, sa, z1, show ¬ (1 : Int32) = 0 by decide, show ¬ (0 : Int32) = 1 by decide]
    exact body
  · have hc' : (σ.t.N a).testBit b = true := by
      cases y : (σ.t.N a).testBit b
      · exact absurd (by simp [y, z]) hc
      · rfl
    have z1 : ((σ.t.nb a >>> (nI b &&& 31)) &&& 1 = 0) = False := by rw [bt0, hc']; simp
    rw [bI_f z] at body ⊢
    simp only [q_X9_setBeside_0, q_X9_setBeside_1, q_X9_setBeside_2, q_X9_setBeside_5r, q_X9_setBeside_5n, q_X9_setBeside_7, q_X9_setBeside_8, q_X9_setBeside_9, q_X9_setBeside_12r, q_X9_setBeside_12n, q_X9_setBeside_14, q_X9_setBeside_16n, q_X9_setBeside_16r, q_X9_setBeside_19, q_X9_setBeside_21n, q_X9_setBeside_21r, q_X9_setBeside_24, q_X9_setBeside_26, q_X9_setBeside_29, q_X9_setBeside_30, q_X9_setBeside_31, q_X9_setBeside_32, q_X9_setBeside_33, q_X9_setBeside_34, q_X9_setBeside_37, q_X9_setBeside_38, q_X9_setBeside_41, q_X9_setBeside_42, ldI_s, ldJ_s, ldA_r, ldA_n, ob_s, List.getElem?_cons_zero, List.getElem?_cons_succ, List.length_cons, List.length_nil, gx_0, gx_1, gx_2, gx_3, gx_4, gx_5, gx_6, gx_7, gx_8, gx_9, gx_10, gx_11, Nat.reduceAdd, Nat.reduceLT, Nat.reduceLeDiff, Nat.reduceSub, Nat.lt_irrefl, true_and, and_true, Option.toList_some, Option.toList_none, List.cons_append, List.nil_append, csum_nil, csum_int, csum_long, csum_ref, csum_null, nar_int, nar_long, nar_ref, nar_null, nar_refA, nar_nullA, fit_int, fit_long, fit_ref, fit_refA, fit_null, fit_nullA, stL_0, stL_1i, stL_1r, stL_1n, stL_1u, stL_2i, stL_2r, stL_2n, stL_2u, stL_3i, stL_3r, stL_3n, stL_3u, stL_4i, stL_4r, stL_4n, stL_4u, stL_5i, stL_5r, stL_5n, stL_5u, stL_6i, stL_6r, stL_6n, stL_6u, stL_7i, stL_7r, stL_7n, stL_7u, stL_8i, stL_8r, stL_8n, stL_8u, stL_9i, stL_9r, stL_9n, stL_9u, stL_10i, stL_10r, stL_10n, stL_10u, stL_11i, stL_11r, stL_11n, stL_11u, stJ_0, stJ_1i, stJ_1r, stJ_1n, stJ_1u, stJ_2i, stJ_2r, stJ_2n, stJ_2u, stJ_3i, stJ_3r, stJ_3n, stJ_3u, stJ_4i, stJ_4r, stJ_4n, stJ_4u, stJ_5i, stJ_5r, stJ_5n, stJ_5u, stJ_6i, stJ_6r, stJ_6n, stJ_6u, stJ_7i, stJ_7r, stJ_7n, stJ_7u, stJ_8i, stJ_8r, stJ_8n, stJ_8u, stJ_9i, stJ_9r, stJ_9n, stJ_9u, stJ_10i, stJ_10r, stJ_10n, stJ_10u, ↓reduceIte, cat_int, cat_ref, cat_null, cat_long, va_rf_s, va_rf_n, nz_bI, nz_0, nz_1, bI_0, pd_1, pp_1, pq_1, pd_2, pp_2, pq_2, pd_3, pp_3, pq_3, pd_4, pp_4, pq_4, pd_5, pp_5, pq_5, pd_6, pp_6, pq_6, pd_7, pp_7, pq_7, pd_8, pp_8, pq_8, pd_9, pp_9, pq_9, pd_10, pp_10, pq_10, pd_11, pp_11, pq_11, pd_12, pp_12, pq_12, pd_13, pp_13, pq_13, pd_14, pp_14, pq_14, pd_15, pp_15, pq_15, pd_16, pp_16, pq_16, pd_17, pp_17, pq_17, pd_18, pp_18, pq_18, pd_19, pp_19, pq_19, pd_20, pp_20, pq_20, pd_21, pp_21, pq_21, pd_22, pp_22, pq_22, pd_23, pp_23, pq_23, pd_24, pp_24, pq_24, Nat.add_zero, Nat.zero_le, Nat.le_refl, eq_self, Option.some.injEq, exists_eq', ex9, s_streetAt hT.1 ha, s_streetAt hT.1 hb, sa, z1]
    exact body
theorem s_setBeside0 (hI : Iv σ τ al G h) (hO : OK σ) {x y : Int32} {P : Prop} [Decidable P] (hc : ¬ cBes x y P σ) (hxy : x ≠ y) (hq : Q (some (.int 0)) h) : Rn G (d + 5) mX9_setBeside 0 [some (.ref (G.1 + 1)), some (.int x), some (.int y), some (.int (bI P)), none, none] [] h Q := by
  obtain ⟨f, rg, hT⟩ := Iv_TU hI
  have hn := hO.t.n
  have ex9 : ∃ fs, oF h (G.1 + 1) 9 = some fs := ⟨_, hT.1.2.1⟩
  by_cases c1 : 0 ≤ x.toInt ∧ x.toInt < σ.t.n
  · obtain ⟨a, ha, rfl⟩ := ix_of (by omega) c1
    by_cases c2 : 0 ≤ y.toInt ∧ y.toInt < σ.t.n
    · obtain ⟨b, hb, rfl⟩ := ix_of (by omega) c2
      have hcc : (σ.t.N a).testBit b = true ↔ P := by
        have := hc
        unfold cBes at this
        rw [nI_clamp (by omega), nI_clamp (by omega)] at this
        by_cases z : ((σ.t.N a).testBit b = true ↔ P)
        · exact z
        · exact absurd ⟨c1, c2, hxy, z⟩ this
      have na := hO.t.nb a ha
      have sa := (hT.1.2.2.2 a ha).2
      have p24' := p24 hn
      have bt : ((σ.t.nb a >>> (nI b &&& 31)) &&& 1 = 1) = ((σ.t.N a).testBit b = true) := by rw [na.1]; exact propext (bt_iff (by omega) (by omega))
      have bt0 : ((σ.t.nb a >>> (nI b &&& 31)) &&& 1 = 0) = ((σ.t.N a).testBit b = false) := by rw [na.1]; exact propext (bt_0 (by omega) (by omega))
      by_cases z : P
      · have z1 : (σ.t.nb a >>> (nI b &&& 31)) &&& 1 = 1 := by rw [bt]; exact hcc.2 z
        rw [bI_t z]
        simp only [q_X9_setBeside_0, q_X9_setBeside_1, q_X9_setBeside_2, q_X9_setBeside_5r, q_X9_setBeside_5n, q_X9_setBeside_7, q_X9_setBeside_8, q_X9_setBeside_9, q_X9_setBeside_12r, q_X9_setBeside_12n, q_X9_setBeside_14, q_X9_setBeside_16n, q_X9_setBeside_16r, q_X9_setBeside_19, q_X9_setBeside_21n, q_X9_setBeside_21r, q_X9_setBeside_24, q_X9_setBeside_26, q_X9_setBeside_29, q_X9_setBeside_30, q_X9_setBeside_31, q_X9_setBeside_32, q_X9_setBeside_33, q_X9_setBeside_34, q_X9_setBeside_37, q_X9_setBeside_38, q_X9_setBeside_41, q_X9_setBeside_42, q_X9_setBeside_45, q_X9_setBeside_46, ldI_s, ldJ_s, ldA_r, ldA_n, ob_s, List.getElem?_cons_zero, List.getElem?_cons_succ, List.length_cons, List.length_nil, gx_0, gx_1, gx_2, gx_3, gx_4, gx_5, gx_6, gx_7, gx_8, gx_9, gx_10, gx_11, Nat.reduceAdd, Nat.reduceLT, Nat.reduceLeDiff, Nat.reduceSub, Nat.lt_irrefl, true_and, and_true, Option.toList_some, Option.toList_none, List.cons_append, List.nil_append, csum_nil, csum_int, csum_long, csum_ref, csum_null, nar_int, nar_long, nar_ref, nar_null, nar_refA, nar_nullA, fit_int, fit_long, fit_ref, fit_refA, fit_null, fit_nullA, stL_0, stL_1i, stL_1r, stL_1n, stL_1u, stL_2i, stL_2r, stL_2n, stL_2u, stL_3i, stL_3r, stL_3n, stL_3u, stL_4i, stL_4r, stL_4n, stL_4u, stL_5i, stL_5r, stL_5n, stL_5u, stL_6i, stL_6r, stL_6n, stL_6u, stL_7i, stL_7r, stL_7n, stL_7u, stL_8i, stL_8r, stL_8n, stL_8u, stL_9i, stL_9r, stL_9n, stL_9u, stL_10i, stL_10r, stL_10n, stL_10u, stL_11i, stL_11r, stL_11n, stL_11u, stJ_0, stJ_1i, stJ_1r, stJ_1n, stJ_1u, stJ_2i, stJ_2r, stJ_2n, stJ_2u, stJ_3i, stJ_3r, stJ_3n, stJ_3u, stJ_4i, stJ_4r, stJ_4n, stJ_4u, stJ_5i, stJ_5r, stJ_5n, stJ_5u, stJ_6i, stJ_6r, stJ_6n, stJ_6u, stJ_7i, stJ_7r, stJ_7n, stJ_7u, stJ_8i, stJ_8r, stJ_8n, stJ_8u, stJ_9i, stJ_9r, stJ_9n, stJ_9u, stJ_10i, stJ_10r, stJ_10n, stJ_10u, ↓reduceIte, cat_int, cat_ref, cat_null, cat_long, va_rf_s, va_rf_n, nz_bI, nz_0, nz_1, bI_0, pd_1, pp_1, pq_1, pd_2, pp_2, pq_2, pd_3, pp_3, pq_3, pd_4, pp_4, pq_4, pd_5, pp_5, pq_5, pd_6, pp_6, pq_6, pd_7, pp_7, pq_7, pd_8, pp_8, pq_8, pd_9, pp_9, pq_9, pd_10, pp_10, pq_10, pd_11, pp_11, pq_11, pd_12, pp_12, pq_12, pd_13, pp_13, pq_13, pd_14, pp_14, pq_14, pd_15, pp_15, pq_15, pd_16, pp_16, pq_16, pd_17, pp_17, pq_17, pd_18, pp_18, pq_18, pd_19, pp_19, pq_19, pd_20, pp_20, pq_20, pd_21, pp_21, pq_21, pd_22, pp_22, pq_22, pd_23, pp_23, pq_23, pd_24, pp_24, pq_24, Nat.add_zero, Nat.zero_le, Nat.le_refl, eq_self, Option.some.injEq, exists_eq', ex9, s_streetAt hT.1 ha, s_streetAt hT.1 hb, sa, z1, show ¬ (1 : Int32) = 0 by decide]
        exact hq
      · have hc' : (σ.t.N a).testBit b = false := by
          cases y : (σ.t.N a).testBit b
          · rfl
          · exact absurd (hcc.1 y) z
        have z1 : (σ.t.nb a >>> (nI b &&& 31)) &&& 1 = 0 := by rw [bt0]; exact hc'
        rw [bI_f z]
        simp only [q_X9_setBeside_0, q_X9_setBeside_1, q_X9_setBeside_2, q_X9_setBeside_5r, q_X9_setBeside_5n, q_X9_setBeside_7, q_X9_setBeside_8, q_X9_setBeside_9, q_X9_setBeside_12r, q_X9_setBeside_12n, q_X9_setBeside_14, q_X9_setBeside_16n, q_X9_setBeside_16r, q_X9_setBeside_19, q_X9_setBeside_21n, q_X9_setBeside_21r, q_X9_setBeside_24, q_X9_setBeside_26, q_X9_setBeside_29, q_X9_setBeside_30, q_X9_setBeside_31, q_X9_setBeside_32, q_X9_setBeside_33, q_X9_setBeside_34, q_X9_setBeside_37, q_X9_setBeside_38, q_X9_setBeside_41, q_X9_setBeside_42, q_X9_setBeside_45, q_X9_setBeside_46, ldI_s, ldJ_s, ldA_r, ldA_n, ob_s, List.getElem?_cons_zero, List.getElem?_cons_succ, List.length_cons, List.length_nil, gx_0, gx_1, gx_2, gx_3, gx_4, gx_5, gx_6, gx_7, gx_8, gx_9, gx_10, gx_11, Nat.reduceAdd, Nat.reduceLT, Nat.reduceLeDiff, Nat.reduceSub, Nat.lt_irrefl, true_and, and_true, Option.toList_some, Option.toList_none, List.cons_append, List.nil_append, csum_nil, csum_int, csum_long, csum_ref, csum_null, nar_int, nar_long, nar_ref, nar_null, nar_refA, nar_nullA, fit_int, fit_long, fit_ref, fit_refA, fit_null, fit_nullA, stL_0, stL_1i, stL_1r, stL_1n, stL_1u, stL_2i, stL_2r, stL_2n, stL_2u, stL_3i, stL_3r, stL_3n, stL_3u, stL_4i, stL_4r, stL_4n, stL_4u, stL_5i, stL_5r, stL_5n, stL_5u, stL_6i, stL_6r, stL_6n, stL_6u, stL_7i, stL_7r, stL_7n, stL_7u, stL_8i, stL_8r, stL_8n, stL_8u, stL_9i, stL_9r, stL_9n, stL_9u, stL_10i, stL_10r, stL_10n, stL_10u, stL_11i, stL_11r, stL_11n, stL_11u, stJ_0, stJ_1i, stJ_1r, stJ_1n, stJ_1u, stJ_2i, stJ_2r, stJ_2n, stJ_2u, stJ_3i, stJ_3r, stJ_3n, stJ_3u, stJ_4i, stJ_4r, stJ_4n, stJ_4u, stJ_5i, stJ_5r, stJ_5n, stJ_5u, stJ_6i, stJ_6r, stJ_6n, stJ_6u, stJ_7i, stJ_7r, stJ_7n, stJ_7u, stJ_8i, stJ_8r, stJ_8n, stJ_8u, stJ_9i, stJ_9r, stJ_9n, stJ_9u, stJ_10i, stJ_10r, stJ_10n, stJ_10u, ↓reduceIte, cat_int, cat_ref, cat_null, cat_long, va_rf_s, va_rf_n, nz_bI, nz_0, nz_1, bI_0, pd_1, pp_1, pq_1, pd_2, pp_2, pq_2, pd_3, pp_3, pq_3, pd_4, pp_4, pq_4, pd_5, pp_5, pq_5, pd_6, pp_6, pq_6, pd_7, pp_7, pq_7, pd_8, pp_8, pq_8, pd_9, pp_9, pq_9, pd_10, pp_10, pq_10, pd_11, pp_11, pq_11, pd_12, pp_12, pq_12, pd_13, pp_13, pq_13, pd_14, pp_14, pq_14, pd_15, pp_15, pq_15, pd_16, pp_16, pq_16, pd_17, pp_17, pq_17, pd_18, pp_18, pq_18, pd_19, pp_19, pq_19, pd_20, pp_20, pq_20, pd_21, pp_21, pq_21, pd_22, pp_22, pq_22, pd_23, pp_23, pq_23, pd_24, pp_24, pq_24, Nat.add_zero, Nat.zero_le, Nat.le_refl, eq_self, Option.some.injEq, exists_eq', ex9, s_streetAt hT.1 ha, s_streetAt hT.1 hb, sa, z1]
        exact hq
    · simp only [q_X9_setBeside_0, q_X9_setBeside_1, q_X9_setBeside_2, q_X9_setBeside_5r, q_X9_setBeside_5n, q_X9_setBeside_7, q_X9_setBeside_8, q_X9_setBeside_9, q_X9_setBeside_12r, q_X9_setBeside_12n, q_X9_setBeside_14, q_X9_setBeside_16n, q_X9_setBeside_16r, q_X9_setBeside_19, q_X9_setBeside_21n, q_X9_setBeside_21r, q_X9_setBeside_24, q_X9_setBeside_26, q_X9_setBeside_29, q_X9_setBeside_30, q_X9_setBeside_31, q_X9_setBeside_32, q_X9_setBeside_33, q_X9_setBeside_34, q_X9_setBeside_37, q_X9_setBeside_38, q_X9_setBeside_41, q_X9_setBeside_42, q_X9_setBeside_45, q_X9_setBeside_46, ldI_s, ldJ_s, ldA_r, ldA_n, ob_s, List.getElem?_cons_zero, List.getElem?_cons_succ, List.length_cons, List.length_nil, gx_0, gx_1, gx_2, gx_3, gx_4, gx_5, gx_6, gx_7, gx_8, gx_9, gx_10, gx_11, Nat.reduceAdd, Nat.reduceLT, Nat.reduceLeDiff, Nat.reduceSub, Nat.lt_irrefl, true_and, and_true, Option.toList_some, Option.toList_none, List.cons_append, List.nil_append, csum_nil, csum_int, csum_long, csum_ref, csum_null, nar_int, nar_long, nar_ref, nar_null, nar_refA, nar_nullA, fit_int, fit_long, fit_ref, fit_refA, fit_null, fit_nullA, stL_0, stL_1i, stL_1r, stL_1n, stL_1u, stL_2i, stL_2r, stL_2n, stL_2u, stL_3i, stL_3r, stL_3n, stL_3u, stL_4i, stL_4r, stL_4n, stL_4u, stL_5i, stL_5r, stL_5n, stL_5u, stL_6i, stL_6r, stL_6n, stL_6u, stL_7i, stL_7r, stL_7n, stL_7u, stL_8i, stL_8r, stL_8n, stL_8u, stL_9i, stL_9r, stL_9n, stL_9u, stL_10i, stL_10r, stL_10n, stL_10u, stL_11i, stL_11r, stL_11n, stL_11u, stJ_0, stJ_1i, stJ_1r, stJ_1n, stJ_1u, stJ_2i, stJ_2r, stJ_2n, stJ_2u, stJ_3i, stJ_3r, stJ_3n, stJ_3u, stJ_4i, stJ_4r, stJ_4n, stJ_4u, stJ_5i, stJ_5r, stJ_5n, stJ_5u, stJ_6i, stJ_6r, stJ_6n, stJ_6u, stJ_7i, stJ_7r, stJ_7n, stJ_7u, stJ_8i, stJ_8r, stJ_8n, stJ_8u, stJ_9i, stJ_9r, stJ_9n, stJ_9u, stJ_10i, stJ_10r, stJ_10n, stJ_10u, ↓reduceIte, cat_int, cat_ref, cat_null, cat_long, va_rf_s, va_rf_n, nz_bI, nz_0, nz_1, bI_0, pd_1, pp_1, pq_1, pd_2, pp_2, pq_2, pd_3, pp_3, pq_3, pd_4, pp_4, pq_4, pd_5, pp_5, pq_5, pd_6, pp_6, pq_6, pd_7, pp_7, pq_7, pd_8, pp_8, pq_8, pd_9, pp_9, pq_9, pd_10, pp_10, pq_10, pd_11, pp_11, pq_11, pd_12, pp_12, pq_12, pd_13, pp_13, pq_13, pd_14, pp_14, pq_14, pd_15, pp_15, pq_15, pd_16, pp_16, pq_16, pd_17, pp_17, pq_17, pd_18, pp_18, pq_18, pd_19, pp_19, pq_19, pd_20, pp_20, pq_20, pd_21, pp_21, pq_21, pd_22, pp_22, pq_22, pd_23, pp_23, pq_23, pd_24, pp_24, pq_24, Nat.add_zero, Nat.zero_le, Nat.le_refl, eq_self, Option.some.injEq, exists_eq', ex9, s_streetAt hT.1 ha, s_streetAt0 hT.1 c2]
      exact hq
  · by_cases c2 : 0 ≤ y.toInt ∧ y.toInt < σ.t.n
    · obtain ⟨b, hb, rfl⟩ := ix_of (by omega) c2
      simp only [q_X9_setBeside_0, q_X9_setBeside_1, q_X9_setBeside_2, q_X9_setBeside_5r, q_X9_setBeside_5n, q_X9_setBeside_7, q_X9_setBeside_8, q_X9_setBeside_9, q_X9_setBeside_12r, q_X9_setBeside_12n, q_X9_setBeside_14, q_X9_setBeside_16n, q_X9_setBeside_16r, q_X9_setBeside_19, q_X9_setBeside_21n, q_X9_setBeside_21r, q_X9_setBeside_24, q_X9_setBeside_26, q_X9_setBeside_29, q_X9_setBeside_30, q_X9_setBeside_31, q_X9_setBeside_32, q_X9_setBeside_33, q_X9_setBeside_34, q_X9_setBeside_37, q_X9_setBeside_38, q_X9_setBeside_41, q_X9_setBeside_42, q_X9_setBeside_45, q_X9_setBeside_46, ldI_s, ldJ_s, ldA_r, ldA_n, ob_s, List.getElem?_cons_zero, List.getElem?_cons_succ, List.length_cons, List.length_nil, gx_0, gx_1, gx_2, gx_3, gx_4, gx_5, gx_6, gx_7, gx_8, gx_9, gx_10, gx_11, Nat.reduceAdd, Nat.reduceLT, Nat.reduceLeDiff, Nat.reduceSub, Nat.lt_irrefl, true_and, and_true, Option.toList_some, Option.toList_none, List.cons_append, List.nil_append, csum_nil, csum_int, csum_long, csum_ref, csum_null, nar_int, nar_long, nar_ref, nar_null, nar_refA, nar_nullA, fit_int, fit_long, fit_ref, fit_refA, fit_null, fit_nullA, stL_0, stL_1i, stL_1r, stL_1n, stL_1u, stL_2i, stL_2r, stL_2n, stL_2u, stL_3i, stL_3r, stL_3n, stL_3u, stL_4i, stL_4r, stL_4n, stL_4u, stL_5i, stL_5r, stL_5n, stL_5u, stL_6i, stL_6r, stL_6n, stL_6u, stL_7i, stL_7r, stL_7n, stL_7u, stL_8i, stL_8r, stL_8n, stL_8u, stL_9i, stL_9r, stL_9n, stL_9u, stL_10i, stL_10r, stL_10n, stL_10u, stL_11i, stL_11r, stL_11n, stL_11u, stJ_0, stJ_1i, stJ_1r, stJ_1n, stJ_1u, stJ_2i, stJ_2r, stJ_2n, stJ_2u, stJ_3i, stJ_3r, stJ_3n, stJ_3u, stJ_4i, stJ_4r, stJ_4n, stJ_4u, stJ_5i, stJ_5r, stJ_5n, stJ_5u, stJ_6i, stJ_6r, stJ_6n, stJ_6u, stJ_7i, stJ_7r, stJ_7n, stJ_7u, stJ_8i, stJ_8r, stJ_8n, stJ_8u, stJ_9i, stJ_9r, stJ_9n, stJ_9u, stJ_10i, stJ_10r, stJ_10n, stJ_10u, ↓reduceIte, cat_int, cat_ref, cat_null, cat_long, va_rf_s, va_rf_n, nz_bI, nz_0, nz_1, bI_0, pd_1, pp_1, pq_1, pd_2, pp_2, pq_2, pd_3, pp_3, pq_3, pd_4, pp_4, pq_4, pd_5, pp_5, pq_5, pd_6, pp_6, pq_6, pd_7, pp_7, pq_7, pd_8, pp_8, pq_8, pd_9, pp_9, pq_9, pd_10, pp_10, pq_10, pd_11, pp_11, pq_11, pd_12, pp_12, pq_12, pd_13, pp_13, pq_13, pd_14, pp_14, pq_14, pd_15, pp_15, pq_15, pd_16, pp_16, pq_16, pd_17, pp_17, pq_17, pd_18, pp_18, pq_18, pd_19, pp_19, pq_19, pd_20, pp_20, pq_20, pd_21, pp_21, pq_21, pd_22, pp_22, pq_22, pd_23, pp_23, pq_23, pd_24, pp_24, pq_24, Nat.add_zero, Nat.zero_le, Nat.le_refl, eq_self, Option.some.injEq, exists_eq', ex9, s_streetAt hT.1 hb, s_streetAt0 hT.1 c1]
      exact hq
    · simp only [q_X9_setBeside_0, q_X9_setBeside_1, q_X9_setBeside_2, q_X9_setBeside_5r, q_X9_setBeside_5n, q_X9_setBeside_7, q_X9_setBeside_8, q_X9_setBeside_9, q_X9_setBeside_12r, q_X9_setBeside_12n, q_X9_setBeside_14, q_X9_setBeside_16n, q_X9_setBeside_16r, q_X9_setBeside_19, q_X9_setBeside_21n, q_X9_setBeside_21r, q_X9_setBeside_24, q_X9_setBeside_26, q_X9_setBeside_29, q_X9_setBeside_30, q_X9_setBeside_31, q_X9_setBeside_32, q_X9_setBeside_33, q_X9_setBeside_34, q_X9_setBeside_37, q_X9_setBeside_38, q_X9_setBeside_41, q_X9_setBeside_42, q_X9_setBeside_45, q_X9_setBeside_46, ldI_s, ldJ_s, ldA_r, ldA_n, ob_s, List.getElem?_cons_zero, List.getElem?_cons_succ, List.length_cons, List.length_nil, gx_0, gx_1, gx_2, gx_3, gx_4, gx_5, gx_6, gx_7, gx_8, gx_9, gx_10, gx_11, Nat.reduceAdd, Nat.reduceLT, Nat.reduceLeDiff, Nat.reduceSub, Nat.lt_irrefl, true_and, and_true, Option.toList_some, Option.toList_none, List.cons_append, List.nil_append, csum_nil, csum_int, csum_long, csum_ref, csum_null, nar_int, nar_long, nar_ref, nar_null, nar_refA, nar_nullA, fit_int, fit_long, fit_ref, fit_refA, fit_null, fit_nullA, stL_0, stL_1i, stL_1r, stL_1n, stL_1u, stL_2i, stL_2r, stL_2n, stL_2u, stL_3i, stL_3r, stL_3n, stL_3u, stL_4i, stL_4r, stL_4n, stL_4u, stL_5i, stL_5r, stL_5n, stL_5u, stL_6i, stL_6r, stL_6n, stL_6u, stL_7i, stL_7r, stL_7n, stL_7u, stL_8i, stL_8r, stL_8n, stL_8u, stL_9i, stL_9r, stL_9n, stL_9u, stL_10i, stL_10r, stL_10n, stL_10u, stL_11i, stL_11r, stL_11n, stL_11u, stJ_0, stJ_1i, stJ_1r, stJ_1n, stJ_1u, stJ_2i, stJ_2r, stJ_2n, stJ_2u, stJ_3i, stJ_3r, stJ_3n, stJ_3u, stJ_4i, stJ_4r, stJ_4n, stJ_4u, stJ_5i, stJ_5r, stJ_5n, stJ_5u, stJ_6i, stJ_6r, stJ_6n, stJ_6u, stJ_7i, stJ_7r, stJ_7n, stJ_7u, stJ_8i, stJ_8r, stJ_8n, stJ_8u, stJ_9i, stJ_9r, stJ_9n, stJ_9u, stJ_10i, stJ_10r, stJ_10n, stJ_10u, ↓reduceIte, cat_int, cat_ref, cat_null, cat_long, va_rf_s, va_rf_n, nz_bI, nz_0, nz_1, bI_0, pd_1, pp_1, pq_1, pd_2, pp_2, pq_2, pd_3, pp_3, pq_3, pd_4, pp_4, pq_4, pd_5, pp_5, pq_5, pd_6, pp_6, pq_6, pd_7, pp_7, pq_7, pd_8, pp_8, pq_8, pd_9, pp_9, pq_9, pd_10, pp_10, pq_10, pd_11, pp_11, pq_11, pd_12, pp_12, pq_12, pd_13, pp_13, pq_13, pd_14, pp_14, pq_14, pd_15, pp_15, pq_15, pd_16, pp_16, pq_16, pd_17, pp_17, pq_17, pd_18, pp_18, pq_18, pd_19, pp_19, pq_19, pd_20, pp_20, pq_20, pd_21, pp_21, pq_21, pd_22, pp_22, pq_22, pd_23, pp_23, pq_23, pd_24, pp_24, pq_24, Nat.add_zero, Nat.zero_le, Nat.le_refl, eq_self, Option.some.injEq, exists_eq', ex9, s_streetAt0 hT.1 c2, s_streetAt0 hT.1 c1]
      exact hq
end BES
