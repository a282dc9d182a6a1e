/-! TOWNS -/
theorem pc0 : ∀ k x, pcN k x = 0 → x < 2 ^ k → x = 0 := by
  intro k x h1 h2
  by_cases c : x = 0
  · exact c
  · have := pc_kern k x c h2
    omega
theorem sz_pos {t : Tn} (hO : TnOK t) {r k : Nat} (hr : r < 4) (hk : k < t.n) (h : t.rg k = r) : t.sz r ≠ 0 := by
  intro z
  have hl := rs_24 hO (r := r)
  have e := pc0 32 (t.rs r) z (by omega)
  have b := (rg_iff hk hr).1 h
  rw [e] at b
  simp at b
theorem shN_pos {t : Tn} {r dd w m : Nat} : ∀ n, t.shN r dd w m n ≠ 0 → ∃ k, k < n ∧ t.rg k = r := by
  intro n
  induction n with
  | zero => intro h; exact absurd rfl h
  | succ n ih =>
    intro h
    by_cases c : t.rg n = r
    · exact ⟨n, by omega, c⟩
    · have e : t.shN r dd w m (n + 1) = t.shN r dd w m n := by
        show t.shN r dd w m n + (if t.rg n = r then t.sN n dd w m else 0) = _
        rw [if_neg c, Nat.add_zero]
      rw [e] at h
      obtain ⟨k, hk, hk2⟩ := ih h
      exact ⟨k, by omega, hk2⟩
theorem drV_b {x : Int64} {X : Nat} (hX : X ≤ 2499975) : ∃ v, v ≤ 2500 ∧ (drV x (nI X)).toInt64 = lN v := by
  have d1 : nI X / 1000 = nI (X / 1000) := pk_div (d := 1000) (by omega) (by decide) (by decide)
  unfold drV
  rw [d1]
  split
  · refine ⟨X / 1000, by omega, ?_⟩
    rw [Int32.add_zero, nI_l (by omega)]
  · refine ⟨X / 1000 + 1, by omega, ?_⟩
    rw [nI_1, nI_l (by omega)]
theorem drs_b {t : Tn} (hO : TnOK t) {l : Lw} {w B : Nat} {p : Int64 × (Nat → Int64)} (hp : ∀ k, ∃ c, c ≤ B ∧ p.2 k = lN c) : ∀ i k, ∃ c, c ≤ B + 2500 * i ∧ (t.drs l w i p).2 k = lN c := by
  intro i
  induction i with
  | zero => intro k; exact hp k
  | succ i ih =>
    intro k
    have s1 : (t.drs l w (i + 1) p).2 = vp_updL (t.drs l w i p).2 (t.rg i) ((t.drs l w i p).2 (t.rg i) + (drV (drX (t.drs l w i p).1) (nI (t.xpc l w (t.men w) i))).toInt64) := rfl
    rw [s1]
    by_cases c : k = t.rg i
    · rw [c, updL_s]
      obtain ⟨a, ha, ea⟩ := ih (t.rg i)
      obtain ⟨v, hv, ev⟩ := drV_b (x := drX (t.drs l w i p).1) (xpc_le hO (l := l) (w := w) (M := t.men w) (s := i))
      exact ⟨a + v, by omega, by rw [ea, ev, lN_add]⟩
    · rw [updL_n c]
      obtain ⟨a, ha, ea⟩ := ih k
      exact ⟨a, by omega, ea⟩
theorem drw_b {t : Tn} (hO : TnOK t) {l : Lw} {fr : Nat} {x : Int64} : ∀ m k, ∃ c, c ≤ 60000 * m ∧ (t.drw l fr m (x, fun _ => 0)).2 k = lN c := by
  intro m
  induction m with
  | zero => intro k; exact ⟨0, by omega, rfl⟩
  | succ m ih =>
    intro k
    obtain ⟨c, hc, ec⟩ := drs_b hO (l := l) (w := fr + m) ih t.n k
    have hn := hO.n
    have : 2500 * t.n ≤ 60000 := by omega
    exact ⟨c, by omega, ec⟩
/-- DIFFER of a drawn town by the class's sums -/
def twV (A B : Int64) (k f l : Nat) : Int64 := fdJ (1000 * ((0 * lN (k * f) + A * 1) * lN (k * l) + B * (1 * lN (k * f)))) (1 * lN (k * f) * lN (k * l))
theorem twV_M {a0 a1 b0 b1 k f l : Nat} (h1 : a0 ≤ 720000) (h2 : a1 ≤ 720000) (h3 : b0 ≤ 720000) (h4 : b1 ≤ 720000) (hk : k ≤ 12) (k0 : 0 < k) (hf : f ≤ 32) (f0 : 0 < f) (hl : l ≤ 32) (l0 : 0 < l) :
    flO (1000 * ((-lN a0 + lN a1) * lN l - (-lN b0 + lN b1) * lN f)) (lN k * lN f * lN l) = twV (lN a1 - lN a0) (lN b0 - lN b1) k f l := by
  have kf : k * f ≤ 12 * 32 := Nat.mul_le_mul hk hf
  have kl : k * l ≤ 12 * 32 := Nat.mul_le_mul hk hl
  have kf0 : 0 < k * f := Nat.mul_pos k0 f0
  have kl0 : 0 < k * l := Nat.mul_pos k0 l0
  have kfl : k * f * l ≤ 12 * 32 * 32 := Nat.mul_le_mul kf hl
  have kfl0 : 0 < k * f * l := Nat.mul_pos kf0 l0
  have kfkl : k * f * (k * l) ≤ 384 * 384 := Nat.mul_le_mul kf kl
  have kfkl0 : 0 < k * f * (k * l) := Nat.mul_pos kf0 kl0
  have eB : lN k * lN f * lN l = lN (k * f * l) := by rw [lN_mul, lN_mul]
  have eC : 1 * lN (k * f) * lN (k * l) = lN (k * f * (k * l)) := by rw [Int64.one_mul, lN_mul]
  have eA : (1000 : Int64) * ((-lN a0 + lN a1) * lN l - (-lN b0 + lN b1) * lN f) = Int64.ofInt (1000 * (((a1 : Int) - a0) * l - ((b1 : Int) - b0) * f)) := by
    simp only [lN_oI, oI_mul, oI_sub]
    have : (1000 : Int64) = Int64.ofInt 1000 := rfl
    rw [← this]
    grind
  have eD : (1000 : Int64) * ((0 * lN (k * f) + (lN a1 - lN a0) * 1) * lN (k * l) + (lN b0 - lN b1) * (1 * lN (k * f))) = Int64.ofInt (1000 * (((a1 : Int) - a0) * ((k * l : Nat) : Int) + ((b0 : Int) - b1) * ((k * f : Nat) : Int))) := by
    simp only [lN_oI, oI_mul, oI_sub, oI_add]
    have : (1000 : Int64) = Int64.ofInt 1000 := rfl
    rw [← this]
    grind
  have m1 : (((a1 : Int) - a0) * l).natAbs ≤ 720000 * 32 := by rw [Int.natAbs_mul]; exact Nat.mul_le_mul (by omega) (by omega)
  have m2 : (((b1 : Int) - b0) * f).natAbs ≤ 720000 * 32 := by rw [Int.natAbs_mul]; exact Nat.mul_le_mul (by omega) (by omega)
  have m3 : (((a1 : Int) - a0) * ((k * l : Nat) : Int)).natAbs ≤ 720000 * 384 := by rw [Int.natAbs_mul]; exact Nat.mul_le_mul (by omega) (by omega)
  have m4 : (((b0 : Int) - b1) * ((k * f : Nat) : Int)).natAbs ≤ 720000 * 384 := by rw [Int.natAbs_mul]; exact Nat.mul_le_mul (by omega) (by omega)
  have p1 : (lN (k * f * l)).toInt = ((k * f * l : Nat) : Int) := pk_lT (by omega)
  have p2 : (lN (k * f * (k * l))).toInt = ((k * f * (k * l) : Nat) : Int) := pk_lT (by omega)
  unfold twV
  rw [eA, eB, eC, eD, fd_fl (by rw [p2]; omega)]
  refine Int64.toInt_inj.1 ?_
  rw [fl_T (by rw [p1]; omega), fl_T (by rw [p2]; omega), p1, p2, oI_t (by omega) (by omega), oI_t (by omega) (by omega)]
  have n1 : (1000 : Int) * (((a1 : Int) - a0) * ((k * l : Nat) : Int) + ((b0 : Int) - b1) * ((k * f : Nat) : Int)) = (k : Int) * (1000 * (((a1 : Int) - a0) * l - ((b1 : Int) - b0) * f)) := by
    rw [Int.natCast_mul, Int.natCast_mul]; grind
  have n2 : ((k * f * (k * l) : Nat) : Int) = (k : Int) * ((k * f * l : Nat) : Int) := by
    rw [Int.natCast_mul, Int.natCast_mul, Int.natCast_mul, Int.natCast_mul, Int.natCast_mul]; grind
  rw [n1, n2, Int.mul_ediv_mul_of_pos _ _ (by omega)]
/-- the count of drawn towns -/
def Tn.twD (t : Tn) (l : Lw) (st k : Nat) (x : Int64) : Int64 := twV ((t.tw1 l st k x).2 0 - (t.tw0 l st k x).2 0) ((t.tw0 l st k x).2 3 - (t.tw1 l st k x).2 3) k (t.sz 0) (t.sz 3)
def Tn.twn (t : Tn) (l : Lw) (st k : Nat) (x : Int64) : Nat → Int64 × Nat
  | 0 => (x, 0)
  | i + 1 => ((t.tw1 l st k (t.twn l st k x i).1).1, (t.twn l st k x i).2 + if (t.twD l st k (t.twn l st k x i).1).toInt ≤ (t.th 0 3 0 st k).toInt then 1 else 0)
section TWN
variable {G : aG} {d : Nat} {h : aH} {Q : aQ} {σ τ : Sg} {al : Al}
theorem s_thLast (hI : Iv σ τ al G h) (hO : OK σ) {k : Nat} (hk : k ≤ 12) (k0 : 0 < k) (f0 : σ.t.sz 0 ≠ 0) (l0 : σ.t.sz 3 ≠ 0) {T : Nat → Int64} (hT : aJ h (G.1 + 39) = some (8, T))
    (hq : ∀ h', Iv σ τ al G h' → (∀ q, q ≠ G.1 + 16 → h'.2.1 q = h.2.1 q) → Q (some (.long (twV (T 1 - T 0) (T 6 - T 7) k (σ.t.sz 0) (σ.t.sz 3)))) h') : Rn G (d + 2) mX0_thousandthsOfLast 0 [some (.ref (G.1 + 37)), some (.ref (G.1 + 1)), some (.int (nI k)), some (.ref (G.1 + 16))] [] h Q := by
  obtain ⟨x, hD⟩ := Iv_37 hI
  unfold DO at hD
  have fl := sz_le (t := σ.t) (r := 0)
  have ll := sz_le (t := σ.t) (r := 3)
  have kf : k * σ.t.sz 0 ≤ 12 * 32 := Nat.mul_le_mul hk fl
  have kl : k * σ.t.sz 3 ≤ 12 * 32 := Nat.mul_le_mul hk ll
  have kf0 : 0 < k * σ.t.sz 0 := Nat.mul_pos k0 (by omega)
  have kl0 : 0 < k * σ.t.sz 3 := Nat.mul_pos k0 (by omega)
  have kfkl : k * σ.t.sz 0 * (k * σ.t.sz 3) ≤ 384 * 384 := Nat.mul_le_mul kf kl
  have kfkl0 : 0 < k * σ.t.sz 0 * (k * σ.t.sz 3) := Nat.mul_pos kf0 kl0
  have ex2 : ∀ {h'}, Iv σ τ al G h' → ∃ fs, oF h' (G.1 + 16) 2 = some fs := fun I => by obtain ⟨x, y, z⟩ := Iv_16 I; exact ⟨_, z⟩
  have v0 : vp_in (0 : Int32) 8 := vp_in_nI (n := 0) (by decide) (by decide)
  have v1 : vp_in (1 : Int32) 8 := vp_in_nI (n := 1) (by decide) (by decide)
  have v6 : vp_in (6 : Int32) 8 := vp_in_nI (n := 6) (by decide) (by decide)
  have v7 : vp_in (7 : Int32) 8 := vp_in_nI (n := 7) (by decide) (by decide)
  have y0 : (0 : Int32).toNatClampNeg = 0 := by decide
  have y1 : (1 : Int32).toNatClampNeg = 1 := by decide
  have y6 : (6 : Int32).toNatClampNeg = 6 := by decide
  have y7 : (7 : Int32).toNatClampNeg = 7 := by decide
  have sz0 : ∀ {h'} {f : Nat → Option Nat} {rg : Nat → Int32} (hU : TU h' (G.1 + 1) σ.t f (al.ad G.1) rg) (Q : aQ), Rn G (d + 1) mX9_sizeOfRing 0 [some (.ref (G.1 + 1)), some (.int 0)] [] h' Q = Q (some (.int (nI (σ.t.sz 0)))) h' := fun hU Q => s_sizeOfRing (d := d) hU hO.t (r := 0) (by decide)
  have sz3 : ∀ {h'} {f : Nat → Option Nat} {rg : Nat → Int32} (hU : TU h' (G.1 + 1) σ.t f (al.ad G.1) rg) (Q : aQ), Rn G (d + 1) mX9_sizeOfRing 0 [some (.ref (G.1 + 1)), some (.int 3)] [] h' Q = Q (some (.int (nI (σ.t.sz 3)))) h' := fun hU Q => s_sizeOfRing (d := d) hU hO.t (r := 3) (by decide)
  simp only [q_X0_thousandthsOfLast_0, q_X0_thousandthsOfLast_1, ldI_s, ldJ_s, ldA_r, ldA_n, ob_s, List.getElem?_cons_zero, List.getElem?_cons_succ, List.length_cons, List.length_nil, gx_0, gx_1, gx_2, gx_3, gx_4, gx_5, gx_6, gx_7, gx_8, gx_9, gx_10, gx_11, Nat.reduceAdd, Nat.reduceLT, Nat.reduceLeDiff, Nat.reduceSub, Nat.lt_irrefl, true_and, and_true, Option.toList_some, Option.toList_none, List.cons_append, List.nil_append, csum_nil, csum_int, csum_long, csum_ref, csum_null, nar_int, nar_long, nar_ref, nar_null, nar_refA, nar_nullA, fit_int, fit_long, fit_ref, fit_refA, fit_null, fit_nullA, stL_0, stL_1i, stL_1r, stL_1n, stL_1u, stL_2i, stL_2r, stL_2n, stL_2u, stL_3i, stL_3r, stL_3n, stL_3u, stL_4i, stL_4r, stL_4n, stL_4u, stL_5i, stL_5r, stL_5n, stL_5u, stL_6i, stL_6r, stL_6n, stL_6u, stL_7i, stL_7r, stL_7n, stL_7u, stL_8i, stL_8r, stL_8n, stL_8u, stL_9i, stL_9r, stL_9n, stL_9u, stL_10i, stL_10r, stL_10n, stL_10u, stL_11i, stL_11r, stL_11n, stL_11u, stJ_0, stJ_1i, stJ_1r, stJ_1n, stJ_1u, stJ_2i, stJ_2r, stJ_2n, stJ_2u, stJ_3i, stJ_3r, stJ_3n, stJ_3u, stJ_4i, stJ_4r, stJ_4n, stJ_4u, stJ_5i, stJ_5r, stJ_5n, stJ_5u, stJ_6i, stJ_6r, stJ_6n, stJ_6u, stJ_7i, stJ_7r, stJ_7n, stJ_7u, stJ_8i, stJ_8r, stJ_8n, stJ_8u, stJ_9i, stJ_9r, stJ_9n, stJ_9u, stJ_10i, stJ_10r, stJ_10n, stJ_10u, ↓reduceIte, cat_int, cat_ref, cat_null, cat_long, va_rf_s, va_rf_n, nz_bI, nz_0, nz_1, bI_0, pd_1, pp_1, pq_1, pd_2, pp_2, pq_2, pd_3, pp_3, pq_3, pd_4, pp_4, pq_4, pd_5, pp_5, pq_5, pd_6, pp_6, pq_6, pd_7, pp_7, pq_7, pd_8, pp_8, pq_8, pd_9, pp_9, pq_9, pd_10, pp_10, pq_10, pd_11, pp_11, pq_11, pd_12, pp_12, pq_12, pd_13, pp_13, pq_13, pd_14, pp_14, pq_14, pd_15, pp_15, pq_15, pd_16, pp_16, pq_16, pd_17, pp_17, pq_17, pd_18, pp_18, pq_18, pd_19, pp_19, pq_19, pd_20, pp_20, pq_20, pd_21, pp_21, pq_21, pd_22, pp_22, pq_22, pd_23, pp_23, pq_23, pd_24, pp_24, pq_24, Nat.add_zero, Nat.zero_le, Nat.le_refl, eq_self, Option.some.injEq, exists_eq', ex2 hI]
  refine s_FzeroC hI (fun h1 I1 F1 fr1 => ?_)
  obtain ⟨f1, rg1, U1⟩ := Iv_TU I1
  have D1 : oF h1 (G.1 + 37) 0 = some [.long x, .ref (G.1 + 38), .ref (G.1 + 39)] := by rw [oF_c (fr1 _ (by omega))]; exact hD
  have T1 : aJ h1 (G.1 + 39) = some (8, T) := by rw [aJ_c (fr1 _ (by omega))]; exact hT
  have e9 : ∃ fs, oF h1 (G.1 + 1) 9 = some fs := ⟨_, U1.1.2.1⟩
  simp only [q_X0_thousandthsOfLast_4, q_X0_thousandthsOfLast_5, q_X0_thousandthsOfLast_6, q_X0_thousandthsOfLast_9, q_X0_thousandthsOfLast_10, q_X0_thousandthsOfLast_11, q_X0_thousandthsOfLast_12, q_X0_thousandthsOfLast_15, q_X0_thousandthsOfLast_16, q_X0_thousandthsOfLast_17, q_X0_thousandthsOfLast_18, q_X0_thousandthsOfLast_19, q_X0_thousandthsOfLast_20, q_X0_thousandthsOfLast_21, q_X0_thousandthsOfLast_22, q_X0_thousandthsOfLast_25, q_X0_thousandthsOfLast_26, q_X0_thousandthsOfLast_27, ldI_s, ldJ_s, ldA_r, ldA_n, ob_s, List.getElem?_cons_zero, List.getElem?_cons_succ, List.length_cons, List.length_nil, gx_0, gx_1, gx_2, gx_3, gx_4, gx_5, gx_6, gx_7, gx_8, gx_9, gx_10, gx_11, Nat.reduceAdd, Nat.reduceLT, Nat.reduceLeDiff, Nat.reduceSub, Nat.lt_irrefl, true_and, and_true, Option.toList_some, Option.toList_none, List.cons_append, List.nil_append, csum_nil, csum_int, csum_long, csum_ref, csum_null, nar_int, nar_long, nar_ref, nar_null, nar_refA, nar_nullA, fit_int, fit_long, fit_ref, fit_refA, fit_null, fit_nullA, stL_0, stL_1i, stL_1r, stL_1n, stL_1u, stL_2i, stL_2r, stL_2n, stL_2u, stL_3i, stL_3r, stL_3n, stL_3u, stL_4i, stL_4r, stL_4n, stL_4u, stL_5i, stL_5r, stL_5n, stL_5u, stL_6i, stL_6r, stL_6n, stL_6u, stL_7i, stL_7r, stL_7n, stL_7u, stL_8i, stL_8r, stL_8n, stL_8u, stL_9i, stL_9r, stL_9n, stL_9u, stL_10i, stL_10r, stL_10n, stL_10u, stL_11i, stL_11r, stL_11n, stL_11u, stJ_0, stJ_1i, stJ_1r, stJ_1n, stJ_1u, stJ_2i, stJ_2r, stJ_2n, stJ_2u, stJ_3i, stJ_3r, stJ_3n, stJ_3u, stJ_4i, stJ_4r, stJ_4n, stJ_4u, stJ_5i, stJ_5r, stJ_5n, stJ_5u, stJ_6i, stJ_6r, stJ_6n, stJ_6u, stJ_7i, stJ_7r, stJ_7n, stJ_7u, stJ_8i, stJ_8r, stJ_8n, stJ_8u, stJ_9i, stJ_9r, stJ_9n, stJ_9u, stJ_10i, stJ_10r, stJ_10n, stJ_10u, ↓reduceIte, cat_int, cat_ref, cat_null, cat_long, va_rf_s, va_rf_n, nz_bI, nz_0, nz_1, bI_0, pd_1, pp_1, pq_1, pd_2, pp_2, pq_2, pd_3, pp_3, pq_3, pd_4, pp_4, pq_4, pd_5, pp_5, pq_5, pd_6, pp_6, pq_6, pd_7, pp_7, pq_7, pd_8, pp_8, pq_8, pd_9, pp_9, pq_9, pd_10, pp_10, pq_10, pd_11, pp_11, pq_11, pd_12, pp_12, pq_12, pd_13, pp_13, pq_13, pd_14, pp_14, pq_14, pd_15, pp_15, pq_15, pd_16, pp_16, pq_16, pd_17, pp_17, pq_17, pd_18, pp_18, pq_18, pd_19, pp_19, pq_19, pd_20, pp_20, pq_20, pd_21, pp_21, pq_21, pd_22, pp_22, pq_22, pd_23, pp_23, pq_23, pd_24, pp_24, pq_24, Nat.add_zero, Nat.zero_le, Nat.le_refl, eq_self, Option.some.injEq, exists_eq', D1, T1, v0, v1, y0, y1, e9, sz0 U1, nI_l (show k < 2 ^ 31 by omega), nI_l (show σ.t.sz 0 < 2 ^ 31 by omega), lN_mul, ex2 I1]
  refine s_FaddC I1 F1 (fun h2 I2 F2 fr2 => ?_)
  obtain ⟨f2, rg2, U2⟩ := Iv_TU I2
  have D2 : oF h2 (G.1 + 37) 0 = some [.long x, .ref (G.1 + 38), .ref (G.1 + 39)] := by rw [oF_c (fr2 _ (by omega))]; exact D1
  have T2 : aJ h2 (G.1 + 39) = some (8, T) := by rw [aJ_c (fr2 _ (by omega))]; exact T1
  have e92 : ∃ fs, oF h2 (G.1 + 1) 9 = some fs := ⟨_, U2.1.2.1⟩
  simp only [q_X0_thousandthsOfLast_30, q_X0_thousandthsOfLast_31, q_X0_thousandthsOfLast_32, q_X0_thousandthsOfLast_35, q_X0_thousandthsOfLast_37, q_X0_thousandthsOfLast_38, q_X0_thousandthsOfLast_39, q_X0_thousandthsOfLast_42, q_X0_thousandthsOfLast_44, q_X0_thousandthsOfLast_45, q_X0_thousandthsOfLast_46, q_X0_thousandthsOfLast_47, q_X0_thousandthsOfLast_48, q_X0_thousandthsOfLast_49, q_X0_thousandthsOfLast_50, q_X0_thousandthsOfLast_53, q_X0_thousandthsOfLast_54, q_X0_thousandthsOfLast_55, ldI_s, ldJ_s, ldA_r, ldA_n, ob_s, List.getElem?_cons_zero, List.getElem?_cons_succ, List.length_cons, List.length_nil, gx_0, gx_1, gx_2, gx_3, gx_4, gx_5, gx_6, gx_7, gx_8, gx_9, gx_10, gx_11, Nat.reduceAdd, Nat.reduceLT, Nat.reduceLeDiff, Nat.reduceSub, Nat.lt_irrefl, true_and, and_true, Option.toList_some, Option.toList_none, List.cons_append, List.nil_append, csum_nil, csum_int, csum_long, csum_ref, csum_null, nar_int, nar_long, nar_ref, nar_null, nar_refA, nar_nullA, fit_int, fit_long, fit_ref, fit_refA, fit_null, fit_nullA, stL_0, stL_1i, stL_1r, stL_1n, stL_1u, stL_2i, stL_2r, stL_2n, stL_2u, stL_3i, stL_3r, stL_3n, stL_3u, stL_4i, stL_4r, stL_4n, stL_4u, stL_5i, stL_5r, stL_5n, stL_5u, stL_6i, stL_6r, stL_6n, stL_6u, stL_7i, stL_7r, stL_7n, stL_7u, stL_8i, stL_8r, stL_8n, stL_8u, stL_9i, stL_9r, stL_9n, stL_9u, stL_10i, stL_10r, stL_10n, stL_10u, stL_11i, stL_11r, stL_11n, stL_11u, stJ_0, stJ_1i, stJ_1r, stJ_1n, stJ_1u, stJ_2i, stJ_2r, stJ_2n, stJ_2u, stJ_3i, stJ_3r, stJ_3n, stJ_3u, stJ_4i, stJ_4r, stJ_4n, stJ_4u, stJ_5i, stJ_5r, stJ_5n, stJ_5u, stJ_6i, stJ_6r, stJ_6n, stJ_6u, stJ_7i, stJ_7r, stJ_7n, stJ_7u, stJ_8i, stJ_8r, stJ_8n, stJ_8u, stJ_9i, stJ_9r, stJ_9n, stJ_9u, stJ_10i, stJ_10r, stJ_10n, stJ_10u, ↓reduceIte, cat_int, cat_ref, cat_null, cat_long, va_rf_s, va_rf_n, nz_bI, nz_0, nz_1, bI_0, pd_1, pp_1, pq_1, pd_2, pp_2, pq_2, pd_3, pp_3, pq_3, pd_4, pp_4, pq_4, pd_5, pp_5, pq_5, pd_6, pp_6, pq_6, pd_7, pp_7, pq_7, pd_8, pp_8, pq_8, pd_9, pp_9, pq_9, pd_10, pp_10, pq_10, pd_11, pp_11, pq_11, pd_12, pp_12, pq_12, pd_13, pp_13, pq_13, pd_14, pp_14, pq_14, pd_15, pp_15, pq_15, pd_16, pp_16, pq_16, pd_17, pp_17, pq_17, pd_18, pp_18, pq_18, pd_19, pp_19, pq_19, pd_20, pp_20, pq_20, pd_21, pp_21, pq_21, pd_22, pp_22, pq_22, pd_23, pp_23, pq_23, pd_24, pp_24, pq_24, Nat.add_zero, Nat.zero_le, Nat.le_refl, eq_self, Option.some.injEq, exists_eq', D2, T2, v6, v7, y6, y7, e92, sz3 U2, nI_l (show k < 2 ^ 31 by omega), nI_l (show σ.t.sz 3 < 2 ^ 31 by omega), lN_mul, ex2 I2]
  refine s_FaddC I2 F2 (fun h3 I3 F3 fr3 => ?_)
  have hq' := hq h3 I3 (fun q hne => by rw [fr3 q hne, fr2 q hne]; exact fr1 q hne)
  unfold twV at hq'
  have eC : 1 * lN (k * σ.t.sz 0) * lN (k * σ.t.sz 3) = lN (k * σ.t.sz 0 * (k * σ.t.sz 3)) := by rw [Int64.one_mul, lN_mul]
  have gt : 0 < lg_cmp (1 * lN (k * σ.t.sz 0) * lN (k * σ.t.sz 3)) 0 := by rw [eC, gt0_lN (by omega)]; omega
  have k2 : ∀ Q : aQ, Rn G (d + 1) mX2_thousandths 0 [some (.ref (G.1 + 16))] [] h3 Q = _ := fun Q => s_Fthou (d := d) (Q := Q) F3
  simp only [q_X0_thousandthsOfLast_58, q_X0_thousandthsOfLast_59, q_X0_thousandthsOfLast_62, ldI_s, ldJ_s, ldA_r, ldA_n, ob_s, List.getElem?_cons_zero, List.getElem?_cons_succ, List.length_cons, List.length_nil, gx_0, gx_1, gx_2, gx_3, gx_4, gx_5, gx_6, gx_7, gx_8, gx_9, gx_10, gx_11, Nat.reduceAdd, Nat.reduceLT, Nat.reduceLeDiff, Nat.reduceSub, Nat.lt_irrefl, true_and, and_true, Option.toList_some, Option.toList_none, List.cons_append, List.nil_append, csum_nil, csum_int, csum_long, csum_ref, csum_null, nar_int, nar_long, nar_ref, nar_null, nar_refA, nar_nullA, fit_int, fit_long, fit_ref, fit_refA, fit_null, fit_nullA, stL_0, stL_1i, stL_1r, stL_1n, stL_1u, stL_2i, stL_2r, stL_2n, stL_2u, stL_3i, stL_3r, stL_3n, stL_3u, stL_4i, stL_4r, stL_4n, stL_4u, stL_5i, stL_5r, stL_5n, stL_5u, stL_6i, stL_6r, stL_6n, stL_6u, stL_7i, stL_7r, stL_7n, stL_7u, stL_8i, stL_8r, stL_8n, stL_8u, stL_9i, stL_9r, stL_9n, stL_9u, stL_10i, stL_10r, stL_10n, stL_10u, stL_11i, stL_11r, stL_11n, stL_11u, stJ_0, stJ_1i, stJ_1r, stJ_1n, stJ_1u, stJ_2i, stJ_2r, stJ_2n, stJ_2u, stJ_3i, stJ_3r, stJ_3n, stJ_3u, stJ_4i, stJ_4r, stJ_4n, stJ_4u, stJ_5i, stJ_5r, stJ_5n, stJ_5u, stJ_6i, stJ_6r, stJ_6n, stJ_6u, stJ_7i, stJ_7r, stJ_7n, stJ_7u, stJ_8i, stJ_8r, stJ_8n, stJ_8u, stJ_9i, stJ_9r, stJ_9n, stJ_9u, stJ_10i, stJ_10r, stJ_10n, stJ_10u, ↓reduceIte, cat_int, cat_ref, cat_null, cat_long, va_rf_s, va_rf_n, nz_bI, nz_0, nz_1, bI_0, pd_1, pp_1, pq_1, pd_2, pp_2, pq_2, pd_3, pp_3, pq_3, pd_4, pp_4, pq_4, pd_5, pp_5, pq_5, pd_6, pp_6, pq_6, pd_7, pp_7, pq_7, pd_8, pp_8, pq_8, pd_9, pp_9, pq_9, pd_10, pp_10, pq_10, pd_11, pp_11, pq_11, pd_12, pp_12, pq_12, pd_13, pp_13, pq_13, pd_14, pp_14, pq_14, pd_15, pp_15, pq_15, pd_16, pp_16, pq_16, pd_17, pp_17, pq_17, pd_18, pp_18, pq_18, pd_19, pp_19, pq_19, pd_20, pp_20, pq_20, pd_21, pp_21, pq_21, pd_22, pp_22, pq_22, pd_23, pp_23, pq_23, pd_24, pp_24, pq_24, Nat.add_zero, Nat.zero_le, Nat.le_refl, eq_self, Option.some.injEq, exists_eq', ex2 I3, k2]
  rw [if_pos gt]
  exact hq'
end TWN
