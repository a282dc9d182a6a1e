/-! what a law foretells of a street -/
theorem ev1_c {x : Int32} {wd wd' : Nat → Int64} {st : List Int64} (h : ∀ j, j < 8 → wd j = wd' j) : ev1 x wd st = ev1 x wd' st := by
  unfold ev1
  by_cases c1 : -9 < x
  · rw [if_pos c1, if_pos c1]
    by_cases c0 : 0 ≤ x
    · rw [if_pos c0, if_pos c0]
    · obtain ⟨w, hw8, we, we2⟩ := wd_ix c1 c0
      rw [if_neg c0, if_neg c0, we2, h w hw8]
  · rw [if_neg c1, if_neg c1]
theorem evr_c {f : Nat → Int32} {wd wd' : Nat → Int64} (h : ∀ j, j < 8 → wd j = wd' j) : ∀ n k st, evr f wd n k st = evr f wd' n k st := by
  intro n
  induction n with
  | zero => intro k st; rfl
  | succ n ih => intro k st; rw [evr, evr, ev1_c h, ih]
theorem tel_c {l : Lw} {wd wd' : Nat → Int64} (h : ∀ j, j < 8 → wd j = wd' j) {so : Int32} {most wo : Nat} : ∀ j i, tel l wd so most wo j i = tel l wd' so most wo j i := by
  have e : ∀ a b, evv l.sf wd a b = evv l.sf wd' a b := fun a b => by unfold evv; rw [evr_c h]
  intro j
  induction j with
  | zero => intro i; rfl
  | succ j ih => intro i; rw [tel, tel, e, e, ih]
theorem te_c {l : Lw} {wd wd' : Nat → Int64} (h : ∀ j, j < 8 → wd j = wd' j) {so : Int32} {most wo : Nat} : l.te wd so most wo = l.te wd' so most wo := tel_c h _ _
def Tn.snc (t : Tn) (w : Nat) : Nat := if t.st = -1 then 0 else w - t.st.toNatClampNeg
def wdO (t : Tn) (s w g r : Nat) (j : Nat) : Int64 := match j with
  | 0 => lN (t.C s)
  | 1 => lN (t.W s)
  | 2 => lN g
  | 3 => lN r
  | 4 => lN w
  | 5 => lN (t.snc w)
  | 6 => lN (t.H s)
  | _ => lN s
def Tn.stl (t : Tn) (l : Lw) (w s g : Nat) : Nat := l.te (wdO t s w g (t.rg s)) 0 99999 0
def Tn.fre (t : Tn) (l : Lw) (w s : Nat) : Nat := l.te (wdO t s w 0 3) 0 99999 0
def Tn.kep (t : Tn) (l : Lw) (w s g : Nat) : Nat := t.fre l w s - t.stl l w s g
def Tn.mov (t : Tn) (l : Lw) (w s g : Nat) : Nat := l.te (wdO t s w g (t.rg s)) 1 1000 0
def Tn.tol (t : Tn) (l : Lw) (w s g : Nat) : Nat := l.te (wdO t s w g (t.rg s)) 2 1000 1000
theorem stl_le {t : Tn} {l : Lw} {w s g : Nat} : t.stl l w s g ≤ 99999 := te_le (by decide)
theorem fre_le {t : Tn} {l : Lw} {w s : Nat} : t.fre l w s ≤ 99999 := te_le (by decide)
theorem kep_le {t : Tn} {l : Lw} {w s g : Nat} : t.kep l w s g ≤ 99999 := Nat.le_trans (Nat.sub_le _ _) fre_le
theorem mov_le {t : Tn} {l : Lw} {w s g : Nat} : t.mov l w s g ≤ 1000 := te_le (by decide)
theorem tol_le {t : Tn} {l : Lw} {w s g : Nat} : t.tol l w s g ≤ 1000 := te_le (by decide)
theorem snc_le {t : Tn} {w : Nat} : t.snc w ≤ w := by unfold Tn.snc; split <;> omega
section FC
variable {G : aG} {d : Nat} {h : aH} {Q : aQ} {a : Nat} {t : Tn} {f : Nat → Option Nat} {ad : Nat → Nat} {rg : Nat → Int32} {σ τ : Sg} {al : Al} {o : Nat}
theorem s_maxI0 {x : Int32} : Rn G d mJ9_max_7cf53 0 [some (.int 0), some (.int x)] [] h Q = Q (some (.int (if x < 0 then 0 else x))) h := by
  by_cases c : x < 0
  · have c1 : x ≤ 0 := Int32.le_of_lt c
    have c2 : ¬ (0 : Int32) < x := Int32.not_lt.2 c1
    rw [if_pos c]; simp only [q_J9_max_7cf53_0, q_J9_max_7cf53_1, q_J9_max_7cf53_2, q_J9_max_7cf53_5, q_J9_max_7cf53_6, q_J9_max_7cf53_9, q_J9_max_7cf53_10, ldI_s, ldJ_s, ldA_r, ldA_n, ob_s, List.getElem?_cons_zero, List.getElem?_cons_succ, List.length_cons, List.length_nil, gx_0, gx_1, gx_2, gx_3, gx_4, gx_5, gx_6, gx_7, gx_8, gx_9, gx_10, gx_11, Nat.reduceAdd, Nat.reduceLT, Nat.reduceLeDiff, Nat.reduceSub, Nat.lt_irrefl, true_and, and_true, Option.toList_some, Option.toList_none, List.cons_append, List.nil_append, csum_nil, csum_int, csum_long, csum_ref, csum_null, nar_int, nar_long, nar_ref, nar_null, nar_refA, nar_nullA, fit_int, fit_long, fit_ref, fit_refA, fit_null, fit_nullA, stL_0, stL_1i, stL_1r, stL_1n, stL_1u, stL_2i, stL_2r, stL_2n, stL_2u, stL_3i, stL_3r, stL_3n, stL_3u, stL_4i, stL_4r, stL_4n, stL_4u, stL_5i, stL_5r, stL_5n, stL_5u, stL_6i, stL_6r, stL_6n, stL_6u, stL_7i, stL_7r, stL_7n, stL_7u, stL_8i, stL_8r, stL_8n, stL_8u, stL_9i, stL_9r, stL_9n, stL_9u, stL_10i, stL_10r, stL_10n, stL_10u, stL_11i, stL_11r, stL_11n, stL_11u, stJ_0, stJ_1i, stJ_1r, stJ_1n, stJ_1u, stJ_2i, stJ_2r, stJ_2n, stJ_2u, stJ_3i, stJ_3r, stJ_3n, stJ_3u, stJ_4i, stJ_4r, stJ_4n, stJ_4u, stJ_5i, stJ_5r, stJ_5n, stJ_5u, stJ_6i, stJ_6r, stJ_6n, stJ_6u, stJ_7i, stJ_7r, stJ_7n, stJ_7u, stJ_8i, stJ_8r, stJ_8n, stJ_8u, stJ_9i, stJ_9r, stJ_9n, stJ_9u, stJ_10i, stJ_10r, stJ_10n, stJ_10u, ↓reduceIte, cat_int, cat_ref, cat_null, cat_long, va_rf_s, va_rf_n, nz_bI, nz_0, nz_1, bI_0, pd_1, pp_1, pq_1, pd_2, pp_2, pq_2, pd_3, pp_3, pq_3, pd_4, pp_4, pq_4, pd_5, pp_5, pq_5, pd_6, pp_6, pq_6, pd_7, pp_7, pq_7, pd_8, pp_8, pq_8, pd_9, pp_9, pq_9, pd_10, pp_10, pq_10, pd_11, pp_11, pq_11, pd_12, pp_12, pq_12, pd_13, pp_13, pq_13, pd_14, pp_14, pq_14, pd_15, pp_15, pq_15, pd_16, pp_16, pq_16, pd_17, pp_17, pq_17, pd_18, pp_18, pq_18, pd_19, pp_19, pq_19, pd_20, pp_20, pq_20, pd_21, pp_21, pq_21, pd_22, pp_22, pq_22, pd_23, pp_23, pq_23, pd_24, pp_24, pq_24, Nat.add_zero, Nat.zero_le, Nat.le_refl, eq_self, Option.some.injEq, exists_eq', c1, c2]
  · rw [if_neg c]
    by_cases c3 : x = 0
    · subst c3
      simp only [q_J9_max_7cf53_0, q_J9_max_7cf53_1, q_J9_max_7cf53_2, q_J9_max_7cf53_5, q_J9_max_7cf53_6, q_J9_max_7cf53_9, q_J9_max_7cf53_10, ldI_s, ldJ_s, ldA_r, ldA_n, ob_s, List.getElem?_cons_zero, List.getElem?_cons_succ, List.length_cons, List.length_nil, gx_0, gx_1, gx_2, gx_3, gx_4, gx_5, gx_6, gx_7, gx_8, gx_9, gx_10, gx_11, Nat.reduceAdd, Nat.reduceLT, Nat.reduceLeDiff, Nat.reduceSub, Nat.lt_irrefl, true_and, and_true, Option.toList_some, Option.toList_none, List.cons_append, List.nil_append, csum_nil, csum_int, csum_long, csum_ref, csum_null, nar_int, nar_long, nar_ref, nar_null, nar_refA, nar_nullA, fit_int, fit_long, fit_ref, fit_refA, fit_null, fit_nullA, stL_0, stL_1i, stL_1r, stL_1n, stL_1u, stL_2i, stL_2r, stL_2n, stL_2u, stL_3i, stL_3r, stL_3n, stL_3u, stL_4i, stL_4r, stL_4n, stL_4u, stL_5i, stL_5r, stL_5n, stL_5u, stL_6i, stL_6r, stL_6n, stL_6u, stL_7i, stL_7r, stL_7n, stL_7u, stL_8i, stL_8r, stL_8n, stL_8u, stL_9i, stL_9r, stL_9n, stL_9u, stL_10i, stL_10r, stL_10n, stL_10u, stL_11i, stL_11r, stL_11n, stL_11u, stJ_0, stJ_1i, stJ_1r, stJ_1n, stJ_1u, stJ_2i, stJ_2r, stJ_2n, stJ_2u, stJ_3i, stJ_3r, stJ_3n, stJ_3u, stJ_4i, stJ_4r, stJ_4n, stJ_4u, stJ_5i, stJ_5r, stJ_5n, stJ_5u, stJ_6i, stJ_6r, stJ_6n, stJ_6u, stJ_7i, stJ_7r, stJ_7n, stJ_7u, stJ_8i, stJ_8r, stJ_8n, stJ_8u, stJ_9i, stJ_9r, stJ_9n, stJ_9u, stJ_10i, stJ_10r, stJ_10n, stJ_10u, ↓reduceIte, cat_int, cat_ref, cat_null, cat_long, va_rf_s, va_rf_n, nz_bI, nz_0, nz_1, bI_0, pd_1, pp_1, pq_1, pd_2, pp_2, pq_2, pd_3, pp_3, pq_3, pd_4, pp_4, pq_4, pd_5, pp_5, pq_5, pd_6, pp_6, pq_6, pd_7, pp_7, pq_7, pd_8, pp_8, pq_8, pd_9, pp_9, pq_9, pd_10, pp_10, pq_10, pd_11, pp_11, pq_11, pd_12, pp_12, pq_12, pd_13, pp_13, pq_13, pd_14, pp_14, pq_14, pd_15, pp_15, pq_15, pd_16, pp_16, pq_16, pd_17, pp_17, pq_17, pd_18, pp_18, pq_18, pd_19, pp_19, pq_19, pd_20, pp_20, pq_20, pd_21, pp_21, pq_21, pd_22, pp_22, pq_22, pd_23, pp_23, pq_23, pd_24, pp_24, pq_24, Nat.add_zero, Nat.zero_le, Nat.le_refl, eq_self, Option.some.injEq, exists_eq', Int32.le_refl, Int32.lt_irrefl]
    · have c4 : (0 : Int32) < x := by
        rw [tv, toInt_0] at c ⊢
        have : x.toInt ≠ 0 := fun z => c3 (i_eq z)
        omega
      have c5 : ¬ x ≤ 0 := Int32.not_le.2 c4
      simp only [q_J9_max_7cf53_0, q_J9_max_7cf53_1, q_J9_max_7cf53_2, q_J9_max_7cf53_5, q_J9_max_7cf53_6, q_J9_max_7cf53_9, q_J9_max_7cf53_10, ldI_s, ldJ_s, ldA_r, ldA_n, ob_s, List.getElem?_cons_zero, List.getElem?_cons_succ, List.length_cons, List.length_nil, gx_0, gx_1, gx_2, gx_3, gx_4, gx_5, gx_6, gx_7, gx_8, gx_9, gx_10, gx_11, Nat.reduceAdd, Nat.reduceLT, Nat.reduceLeDiff, Nat.reduceSub, Nat.lt_irrefl, true_and, and_true, Option.toList_some, Option.toList_none, List.cons_append, List.nil_append, csum_nil, csum_int, csum_long, csum_ref, csum_null, nar_int, nar_long, nar_ref, nar_null, nar_refA, nar_nullA, fit_int, fit_long, fit_ref, fit_refA, fit_null, fit_nullA, stL_0, stL_1i, stL_1r, stL_1n, stL_1u, stL_2i, stL_2r, stL_2n, stL_2u, stL_3i, stL_3r, stL_3n, stL_3u, stL_4i, stL_4r, stL_4n, stL_4u, stL_5i, stL_5r, stL_5n, stL_5u, stL_6i, stL_6r, stL_6n, stL_6u, stL_7i, stL_7r, stL_7n, stL_7u, stL_8i, stL_8r, stL_8n, stL_8u, stL_9i, stL_9r, stL_9n, stL_9u, stL_10i, stL_10r, stL_10n, stL_10u, stL_11i, stL_11r, stL_11n, stL_11u, stJ_0, stJ_1i, stJ_1r, stJ_1n, stJ_1u, stJ_2i, stJ_2r, stJ_2n, stJ_2u, stJ_3i, stJ_3r, stJ_3n, stJ_3u, stJ_4i, stJ_4r, stJ_4n, stJ_4u, stJ_5i, stJ_5r, stJ_5n, stJ_5u, stJ_6i, stJ_6r, stJ_6n, stJ_6u, stJ_7i, stJ_7r, stJ_7n, stJ_7u, stJ_8i, stJ_8r, stJ_8n, stJ_8u, stJ_9i, stJ_9r, stJ_9n, stJ_9u, stJ_10i, stJ_10r, stJ_10n, stJ_10u, ↓reduceIte, cat_int, cat_ref, cat_null, cat_long, va_rf_s, va_rf_n, nz_bI, nz_0, nz_1, bI_0, pd_1, pp_1, pq_1, pd_2, pp_2, pq_2, pd_3, pp_3, pq_3, pd_4, pp_4, pq_4, pd_5, pp_5, pq_5, pd_6, pp_6, pq_6, pd_7, pp_7, pq_7, pd_8, pp_8, pq_8, pd_9, pp_9, pq_9, pd_10, pp_10, pq_10, pd_11, pp_11, pq_11, pd_12, pp_12, pq_12, pd_13, pp_13, pq_13, pd_14, pp_14, pq_14, pd_15, pp_15, pq_15, pd_16, pp_16, pq_16, pd_17, pp_17, pq_17, pd_18, pp_18, pq_18, pd_19, pp_19, pq_19, pd_20, pp_20, pq_20, pd_21, pp_21, pq_21, pd_22, pp_22, pq_22, pd_23, pp_23, pq_23, pd_24, pp_24, pq_24, Nat.add_zero, Nat.zero_le, Nat.le_refl, eq_self, Option.some.injEq, exists_eq', c4, c5]
theorem s_since (hT : TU h a t f ad rg) (hO : TnOK t) {w : Nat} (hw : w < 260) : Rn G (d + 1) mX9_weeksSince 0 [some (.ref a), some (.int (nI w))] [] h Q = Q (some (.int (nI (t.snc w)))) h := by
  unfold Tn.snc
  rcases st_of hO with z | ⟨z, z1, z2⟩
  · have z' := eq_true z
    rw [if_pos z]
    simp only [q_X9_weeksSince_0, q_X9_weeksSince_1, q_X9_weeksSince_4, q_X9_weeksSince_5, q_X9_weeksSince_8, q_X9_weeksSince_9, q_X9_weeksSince_12, q_X9_weeksSince_13, q_X9_weeksSince_14, q_X9_weeksSince_15, q_X9_weeksSince_18, q_X9_weeksSince_19, q_X9_weeksSince_22, ldI_s, ldJ_s, ldA_r, ldA_n, ob_s, List.getElem?_cons_zero, List.getElem?_cons_succ, List.length_cons, List.length_nil, gx_0, gx_1, gx_2, gx_3, gx_4, gx_5, gx_6, gx_7, gx_8, gx_9, gx_10, gx_11, Nat.reduceAdd, Nat.reduceLT, Nat.reduceLeDiff, Nat.reduceSub, Nat.lt_irrefl, true_and, and_true, Option.toList_some, Option.toList_none, List.cons_append, List.nil_append, csum_nil, csum_int, csum_long, csum_ref, csum_null, nar_int, nar_long, nar_ref, nar_null, nar_refA, nar_nullA, fit_int, fit_long, fit_ref, fit_refA, fit_null, fit_nullA, stL_0, stL_1i, stL_1r, stL_1n, stL_1u, stL_2i, stL_2r, stL_2n, stL_2u, stL_3i, stL_3r, stL_3n, stL_3u, stL_4i, stL_4r, stL_4n, stL_4u, stL_5i, stL_5r, stL_5n, stL_5u, stL_6i, stL_6r, stL_6n, stL_6u, stL_7i, stL_7r, stL_7n, stL_7u, stL_8i, stL_8r, stL_8n, stL_8u, stL_9i, stL_9r, stL_9n, stL_9u, stL_10i, stL_10r, stL_10n, stL_10u, stL_11i, stL_11r, stL_11n, stL_11u, stJ_0, stJ_1i, stJ_1r, stJ_1n, stJ_1u, stJ_2i, stJ_2r, stJ_2n, stJ_2u, stJ_3i, stJ_3r, stJ_3n, stJ_3u, stJ_4i, stJ_4r, stJ_4n, stJ_4u, stJ_5i, stJ_5r, stJ_5n, stJ_5u, stJ_6i, stJ_6r, stJ_6n, stJ_6u, stJ_7i, stJ_7r, stJ_7n, stJ_7u, stJ_8i, stJ_8r, stJ_8n, stJ_8u, stJ_9i, stJ_9r, stJ_9n, stJ_9u, stJ_10i, stJ_10r, stJ_10n, stJ_10u, ↓reduceIte, cat_int, cat_ref, cat_null, cat_long, va_rf_s, va_rf_n, nz_bI, nz_0, nz_1, bI_0, pd_1, pp_1, pq_1, pd_2, pp_2, pq_2, pd_3, pp_3, pq_3, pd_4, pp_4, pq_4, pd_5, pp_5, pq_5, pd_6, pp_6, pq_6, pd_7, pp_7, pq_7, pd_8, pp_8, pq_8, pd_9, pp_9, pq_9, pd_10, pp_10, pq_10, pd_11, pp_11, pq_11, pd_12, pp_12, pq_12, pd_13, pp_13, pq_13, pd_14, pp_14, pq_14, pd_15, pp_15, pq_15, pd_16, pp_16, pq_16, pd_17, pp_17, pq_17, pd_18, pp_18, pq_18, pd_19, pp_19, pq_19, pd_20, pp_20, pq_20, pd_21, pp_21, pq_21, pd_22, pp_22, pq_22, pd_23, pp_23, pq_23, pd_24, pp_24, pq_24, Nat.add_zero, Nat.zero_le, Nat.le_refl, eq_self, Option.some.injEq, exists_eq', hT.1.2.1, z']
    rfl
  · have z' := eq_false z
    rw [if_neg z]
    have e : (if nI w - nI t.st.toNatClampNeg < 0 then 0 else nI w - nI t.st.toNatClampNeg) = nI (w - t.st.toNatClampNeg) := by
      by_cases c : w < t.st.toNatClampNeg
      · rw [if_pos (pk_sneg (by omega) c), show w - t.st.toNatClampNeg = 0 by omega]; rfl
      · have e := pk_sub (show t.st.toNatClampNeg ≤ w by omega)
        rw [e, if_neg (nI_pos (by omega))]
    simp only [q_X9_weeksSince_0, q_X9_weeksSince_1, q_X9_weeksSince_4, q_X9_weeksSince_5, q_X9_weeksSince_8, q_X9_weeksSince_9, q_X9_weeksSince_12, q_X9_weeksSince_13, q_X9_weeksSince_14, q_X9_weeksSince_15, ldI_s, ldJ_s, ldA_r, ldA_n, ob_s, List.getElem?_cons_zero, List.getElem?_cons_succ, List.length_cons, List.length_nil, gx_0, gx_1, gx_2, gx_3, gx_4, gx_5, gx_6, gx_7, gx_8, gx_9, gx_10, gx_11, Nat.reduceAdd, Nat.reduceLT, Nat.reduceLeDiff, Nat.reduceSub, Nat.lt_irrefl, true_and, and_true, Option.toList_some, Option.toList_none, List.cons_append, List.nil_append, csum_nil, csum_int, csum_long, csum_ref, csum_null, nar_int, nar_long, nar_ref, nar_null, nar_refA, nar_nullA, fit_int, fit_long, fit_ref, fit_refA, fit_null, fit_nullA, stL_0, stL_1i, stL_1r, stL_1n, stL_1u, stL_2i, stL_2r, stL_2n, stL_2u, stL_3i, stL_3r, stL_3n, stL_3u, stL_4i, stL_4r, stL_4n, stL_4u, stL_5i, stL_5r, stL_5n, stL_5u, stL_6i, stL_6r, stL_6n, stL_6u, stL_7i, stL_7r, stL_7n, stL_7u, stL_8i, stL_8r, stL_8n, stL_8u, stL_9i, stL_9r, stL_9n, stL_9u, stL_10i, stL_10r, stL_10n, stL_10u, stL_11i, stL_11r, stL_11n, stL_11u, stJ_0, stJ_1i, stJ_1r, stJ_1n, stJ_1u, stJ_2i, stJ_2r, stJ_2n, stJ_2u, stJ_3i, stJ_3r, stJ_3n, stJ_3u, stJ_4i, stJ_4r, stJ_4n, stJ_4u, stJ_5i, stJ_5r, stJ_5n, stJ_5u, stJ_6i, stJ_6r, stJ_6n, stJ_6u, stJ_7i, stJ_7r, stJ_7n, stJ_7u, stJ_8i, stJ_8r, stJ_8n, stJ_8u, stJ_9i, stJ_9r, stJ_9n, stJ_9u, stJ_10i, stJ_10r, stJ_10n, stJ_10u, ↓reduceIte, cat_int, cat_ref, cat_null, cat_long, va_rf_s, va_rf_n, nz_bI, nz_0, nz_1, bI_0, pd_1, pp_1, pq_1, pd_2, pp_2, pq_2, pd_3, pp_3, pq_3, pd_4, pp_4, pq_4, pd_5, pp_5, pq_5, pd_6, pp_6, pq_6, pd_7, pp_7, pq_7, pd_8, pp_8, pq_8, pd_9, pp_9, pq_9, pd_10, pp_10, pq_10, pd_11, pp_11, pq_11, pd_12, pp_12, pq_12, pd_13, pp_13, pq_13, pd_14, pp_14, pq_14, pd_15, pp_15, pq_15, pd_16, pp_16, pq_16, pd_17, pp_17, pq_17, pd_18, pp_18, pq_18, pd_19, pp_19, pq_19, pd_20, pp_20, pq_20, pd_21, pp_21, pq_21, pd_22, pp_22, pq_22, pd_23, pp_23, pq_23, pd_24, pp_24, pq_24, Nat.add_zero, Nat.zero_le, Nat.le_refl, eq_self, Option.some.injEq, exists_eq', hT.1.2.1, z']
    rw [z1]
    simp only [q_X9_weeksSince_18, q_X9_weeksSince_19, q_X9_weeksSince_22, ldI_s, ldJ_s, ldA_r, ldA_n, ob_s, List.getElem?_cons_zero, List.getElem?_cons_succ, List.length_cons, List.length_nil, gx_0, gx_1, gx_2, gx_3, gx_4, gx_5, gx_6, gx_7, gx_8, gx_9, gx_10, gx_11, Nat.reduceAdd, Nat.reduceLT, Nat.reduceLeDiff, Nat.reduceSub, Nat.lt_irrefl, true_and, and_true, Option.toList_some, Option.toList_none, List.cons_append, List.nil_append, csum_nil, csum_int, csum_long, csum_ref, csum_null, nar_int, nar_long, nar_ref, nar_null, nar_refA, nar_nullA, fit_int, fit_long, fit_ref, fit_refA, fit_null, fit_nullA, stL_0, stL_1i, stL_1r, stL_1n, stL_1u, stL_2i, stL_2r, stL_2n, stL_2u, stL_3i, stL_3r, stL_3n, stL_3u, stL_4i, stL_4r, stL_4n, stL_4u, stL_5i, stL_5r, stL_5n, stL_5u, stL_6i, stL_6r, stL_6n, stL_6u, stL_7i, stL_7r, stL_7n, stL_7u, stL_8i, stL_8r, stL_8n, stL_8u, stL_9i, stL_9r, stL_9n, stL_9u, stL_10i, stL_10r, stL_10n, stL_10u, stL_11i, stL_11r, stL_11n, stL_11u, stJ_0, stJ_1i, stJ_1r, stJ_1n, stJ_1u, stJ_2i, stJ_2r, stJ_2n, stJ_2u, stJ_3i, stJ_3r, stJ_3n, stJ_3u, stJ_4i, stJ_4r, stJ_4n, stJ_4u, stJ_5i, stJ_5r, stJ_5n, stJ_5u, stJ_6i, stJ_6r, stJ_6n, stJ_6u, stJ_7i, stJ_7r, stJ_7n, stJ_7u, stJ_8i, stJ_8r, stJ_8n, stJ_8u, stJ_9i, stJ_9r, stJ_9n, stJ_9u, stJ_10i, stJ_10r, stJ_10n, stJ_10u, ↓reduceIte, cat_int, cat_ref, cat_null, cat_long, va_rf_s, va_rf_n, nz_bI, nz_0, nz_1, bI_0, pd_1, pp_1, pq_1, pd_2, pp_2, pq_2, pd_3, pp_3, pq_3, pd_4, pp_4, pq_4, pd_5, pp_5, pq_5, pd_6, pp_6, pq_6, pd_7, pp_7, pq_7, pd_8, pp_8, pq_8, pd_9, pp_9, pq_9, pd_10, pp_10, pq_10, pd_11, pp_11, pq_11, pd_12, pp_12, pq_12, pd_13, pp_13, pq_13, pd_14, pp_14, pq_14, pd_15, pp_15, pq_15, pd_16, pp_16, pq_16, pd_17, pp_17, pq_17, pd_18, pp_18, pq_18, pd_19, pp_19, pq_19, pd_20, pp_20, pq_20, pd_21, pp_21, pq_21, pd_22, pp_22, pq_22, pd_23, pp_23, pq_23, pd_24, pp_24, pq_24, Nat.add_zero, Nat.zero_le, Nat.le_refl, eq_self, Option.some.injEq, exists_eq', s_maxI0, e]
    rw [nI_clamp (by omega)]
/-- the forecast's objects -/
theorem Iv_FO (hI : Iv σ τ al G h) (ho : o = 17 ∨ o = 27) : oF h (G.1 + o) 1 = some [.ref (G.1 + (o + 1)), .ref (G.1 + (o + 4)), .ref (G.1 + (o + 5)), .ref (G.1 + (o + 6)), .ref (G.1 + (o + 7)), .ref (G.1 + (o + 8)), .ref (G.1 + (o + 9))] ∧ oF h (G.1 + (o + 1)) 6 = some [.ref (G.1 + (o + 2)), .ref (G.1 + (o + 3))] ∧ (∃ W, aJ h (G.1 + (o + 2)) = some (8, W)) ∧ (∃ S, aJ h (G.1 + (o + 3)) = some (60, S)) := by
  rcases ho with rfl | rfl
  · obtain ⟨e, e1, e2⟩ := Shp_O hI.s (o := 17) rfl rfl rfl
    obtain ⟨e', e1', e2'⟩ := Shp_O hI.s (o := 18) rfl rfl rfl
    rw [e2] at e1
    rw [e2'] at e1'
    exact ⟨oF_of e1, oF_of e1', Shp_J hI.s (o := 19) rfl rfl rfl, Shp_J hI.s (o := 20) rfl rfl rfl⟩
  · obtain ⟨e, e1, e2⟩ := Shp_O hI.s (o := 27) rfl rfl rfl
    obtain ⟨e', e1', e2'⟩ := Shp_O hI.s (o := 28) rfl rfl rfl
    rw [e2] at e1
    rw [e2'] at e1'
    exact ⟨oF_of e1, oF_of e1', Shp_J hI.s (o := 29) rfl rfl rfl, Shp_J hI.s (o := 30) rfl rfl rfl⟩
theorem Iv_f2 (hI : Iv σ τ al G h) (ho : o = 17 ∨ o = 27) {W : Nat → Int64} : Iv σ τ al G (hup h (G.1 + (o + 2)) (stA 8 W)) := by
  rcases ho with rfl | rfl
  · exact Iv_up (o := 19) rfl (Sk_J rfl rfl) hI
  · exact Iv_up (o := 29) rfl (Sk_J rfl rfl) hI
theorem Iv_f3 (hI : Iv σ τ al G h) (ho : o = 17 ∨ o = 27) {W : Nat → Int64} : Iv σ τ al G (hup h (G.1 + (o + 3)) (stA 60 W)) := by
  rcases ho with rfl | rfl
  · exact Iv_up (o := 20) rfl (Sk_J rfl rfl) hI
  · exact Iv_up (o := 30) rfl (Sk_J rfl rfl) hI
theorem Iv_f47 (hI : Iv σ τ al G h) (ho : o = 17 ∨ o = 27) {j : Nat} (hj : j = 4 ∨ j = 5 ∨ j = 6 ∨ j = 7) {f : Nat → Int32} : Iv σ τ al G (hup h (G.1 + (o + j)) (.inl (0, 48, .inl f))) := by
  rcases ho with rfl | rfl <;> rcases hj with rfl | rfl | rfl | rfl
  · exact Iv_up (o := 21) rfl (Sk_I rfl) hI
  · exact Iv_up (o := 22) rfl (Sk_I rfl) hI
  · exact Iv_up (o := 23) rfl (Sk_I rfl) hI
  · exact Iv_up (o := 24) rfl (Sk_I rfl) hI
  · exact Iv_up (o := 31) rfl (Sk_I rfl) hI
  · exact Iv_up (o := 32) rfl (Sk_I rfl) hI
  · exact Iv_up (o := 33) rfl (Sk_I rfl) hI
  · exact Iv_up (o := 34) rfl (Sk_I rfl) hI
theorem Iv_f89 (hI : Iv σ τ al G h) (ho : o = 17 ∨ o = 27) {j : Nat} (hj : j = 8 ∨ j = 9) {f : Nat → Int32} : Iv σ τ al G (hup h (G.1 + (o + j)) (.inl (0, 24, .inl f))) := by
  rcases ho with rfl | rfl <;> rcases hj with rfl | rfl
  · exact Iv_up (o := 25) rfl (Sk_I rfl) hI
  · exact Iv_up (o := 26) rfl (Sk_I rfl) hI
  · exact Iv_up (o := 35) rfl (Sk_I rfl) hI
  · exact Iv_up (o := 36) rfl (Sk_I rfl) hI
theorem s_setWords (hI : Iv σ τ al G h) (hO : TnOK σ.t) (ho : o = 17 ∨ o = 27) {s w : Nat} (hs : s < σ.t.n) (hw : w < 260)
    (hq : ∀ h' wd, Iv σ τ al G h' → aJ h' (G.1 + (o + 2)) = some (8, wd) → (∀ j, j < 8 → j ≠ 2 → j ≠ 3 → wd j = wdO σ.t s w 0 0 j) → (∀ q, q ≠ G.1 + (o + 2) → h'.2.1 q = h.2.1 q) → Q none h') : Rn G (d + 2) mX6_setWords 0 [some (.ref (G.1 + (o + 1))), some (.ref (G.1 + 1)), some (.ref (al.ad G.1 s)), some (.int (nI s)), some (.int (nI w))] [] h Q := by
  obtain ⟨f1, f2, ⟨W, f3⟩, f4⟩ := Iv_FO hI ho
  obtain ⟨f, rg, hT⟩ := Iv_TU hI
  have hn := hO.n
  have os := (hT.1.2.2.2 s hs).2
  obtain ⟨c1, c2⟩ := hO.c s hs
  obtain ⟨w1, w2⟩ := hO.w s hs
  obtain ⟨h1, h2⟩ := hO.ho s hs
  have nb := ad_ge (al := al) (B := G.1) (o := s)
  have hB : G.1 ≤ G.1 + (o + 2) := by omega
  have r6 : ∀ e, oF (hup h (G.1 + (o + 2)) e) (G.1 + (o + 1)) 6 = some [.ref (G.1 + (o + 2)), .ref (G.1 + (o + 3))] := fun e => by rw [oF_c (hup_ne (by omega))]; exact f2
  have r8 : ∀ e, oF (hup h (G.1 + (o + 2)) e) (al.ad G.1 s) 8 = _ := fun e => (oF_c (hup_ne (by omega))).trans os
  have rT : ∀ e, TU (hup h (G.1 + (o + 2)) e) (G.1 + 1) σ.t f (al.ad G.1) rg := fun e => TU_up hT (fun k => ad_ge) (by omega) (by omega) (by omega) (by omega)
  have ex9 : ∀ e, ∃ fs, oF (hup h (G.1 + (o + 2)) e) (G.1 + 1) 9 = some fs := fun e => ⟨_, (rT e).1.2.1⟩
  have z : ∀ k, k < 8 → vp_in (nI k) 8 := fun k hk => vp_in_nI hk (by decide)
  have v0 : vp_in (0 : Int32) 8 := z 0 (by decide)
  have v1 : vp_in (1 : Int32) 8 := z 1 (by decide)
  have v4 : vp_in (4 : Int32) 8 := z 4 (by decide)
  have v5 : vp_in (5 : Int32) 8 := z 5 (by decide)
  have v6 : vp_in (6 : Int32) 8 := z 6 (by decide)
  have v7 : vp_in (7 : Int32) 8 := z 7 (by decide)
  have y0 : (0 : Int32).toNatClampNeg = 0 := by decide
  have y1 : (1 : Int32).toNatClampNeg = 1 := by decide
  have y4 : (4 : Int32).toNatClampNeg = 4 := by decide
  have y5 : (5 : Int32).toNatClampNeg = 5 := by decide
  have y6 : (6 : Int32).toNatClampNeg = 6 := by decide
  have y7 : (7 : Int32).toNatClampNeg = 7 := by decide
  have hsn := snc_le (t := σ.t) (w := w)
  have fin : ∀ hh : Int64, hh = lN (σ.t.H s) → Q none (hup h (G.1 + (o + 2)) (.inl (3, 8, .inr (.inl (vp_updL (vp_updL (vp_updL (vp_updL (vp_updL (vp_updL W 0 (lN (σ.t.C s))) 1 (lN (σ.t.W s))) 4 (lN w)) 5 (lN (σ.t.snc w))) 6 hh) 7 (lN s)))))) := fun hh e => by
    refine hq _ _ (Iv_f2 hI ho) (aJ_of hup_eq) (fun j hj h2 h3 => ?_) (fun q hne => hup_ne hne)
    subst e
    match j, hj with
    | 0, _ => rfl
    | 1, _ => rfl
    | 2, _ => exact absurd rfl h2
    | 3, _ => exact absurd rfl h3
    | 4, _ => rfl
    | 5, _ => rfl
    | 6, _ => rfl
    | 7, _ => rfl
  simp only [q_X6_setWords_0, q_X6_setWords_1, q_X6_setWords_4, q_X6_setWords_5, q_X6_setWords_6, q_X6_setWords_9, q_X6_setWords_10, q_X6_setWords_11, q_X6_setWords_12, q_X6_setWords_15, q_X6_setWords_16, q_X6_setWords_17, q_X6_setWords_20, q_X6_setWords_21, q_X6_setWords_22, q_X6_setWords_23, q_X6_setWords_26, q_X6_setWords_27, q_X6_setWords_29, q_X6_setWords_30, q_X6_setWords_31, q_X6_setWords_32, q_X6_setWords_35, q_X6_setWords_36, q_X6_setWords_37, q_X6_setWords_39, ldI_s, ldJ_s, ldA_r, ldA_n, ob_s, List.getElem?_cons_zero, List.getElem?_cons_succ, List.length_cons, List.length_nil, gx_0, gx_1, gx_2, gx_3, gx_4, gx_5, gx_6, gx_7, gx_8, gx_9, gx_10, gx_11, Nat.reduceAdd, Nat.reduceLT, Nat.reduceLeDiff, Nat.reduceSub, Nat.lt_irrefl, true_and, and_true, Option.toList_some, Option.toList_none, List.cons_append, List.nil_append, csum_nil, csum_int, csum_long, csum_ref, csum_null, nar_int, nar_long, nar_ref, nar_null, nar_refA, nar_nullA, fit_int, fit_long, fit_ref, fit_refA, fit_null, fit_nullA, stL_0, stL_1i, stL_1r, stL_1n, stL_1u, stL_2i, stL_2r, stL_2n, stL_2u, stL_3i, stL_3r, stL_3n, stL_3u, stL_4i, stL_4r, stL_4n, stL_4u, stL_5i, stL_5r, stL_5n, stL_5u, stL_6i, stL_6r, stL_6n, stL_6u, stL_7i, stL_7r, stL_7n, stL_7u, stL_8i, stL_8r, stL_8n, stL_8u, stL_9i, stL_9r, stL_9n, stL_9u, stL_10i, stL_10r, stL_10n, stL_10u, stL_11i, stL_11r, stL_11n, stL_11u, stJ_0, stJ_1i, stJ_1r, stJ_1n, stJ_1u, stJ_2i, stJ_2r, stJ_2n, stJ_2u, stJ_3i, stJ_3r, stJ_3n, stJ_3u, stJ_4i, stJ_4r, stJ_4n, stJ_4u, stJ_5i, stJ_5r, stJ_5n, stJ_5u, stJ_6i, stJ_6r, stJ_6n, stJ_6u, stJ_7i, stJ_7r, stJ_7n, stJ_7u, stJ_8i, stJ_8r, stJ_8n, stJ_8u, stJ_9i, stJ_9r, stJ_9n, stJ_9u, stJ_10i, stJ_10r, stJ_10n, stJ_10u, ↓reduceIte, cat_int, cat_ref, cat_null, cat_long, va_rf_s, va_rf_n, nz_bI, nz_0, nz_1, bI_0, pd_1, pp_1, pq_1, pd_2, pp_2, pq_2, pd_3, pp_3, pq_3, pd_4, pp_4, pq_4, pd_5, pp_5, pq_5, pd_6, pp_6, pq_6, pd_7, pp_7, pq_7, pd_8, pp_8, pq_8, pd_9, pp_9, pq_9, pd_10, pp_10, pq_10, pd_11, pp_11, pq_11, pd_12, pp_12, pq_12, pd_13, pp_13, pq_13, pd_14, pp_14, pq_14, pd_15, pp_15, pq_15, pd_16, pp_16, pq_16, pd_17, pp_17, pq_17, pd_18, pp_18, pq_18, pd_19, pp_19, pq_19, pd_20, pp_20, pq_20, pd_21, pp_21, pq_21, pd_22, pp_22, pq_22, pd_23, pp_23, pq_23, pd_24, pp_24, pq_24, Nat.add_zero, Nat.zero_le, Nat.le_refl, eq_self, Option.some.injEq, exists_eq', f2, f3, os, r6, r8, ex9, aJ_up, c1, w1, v0, v1, v4, y0, y1, y4, hB, hup_up, nI_l (show σ.t.C s < 2 ^ 31 by omega), nI_l (show σ.t.W s < 2 ^ 31 by omega), nI_l (show w < 2 ^ 31 by omega), s_since (rT _) hO hw]
  by_cases k : σ.t.H s = 0
  · rw [k] at h1
    have fin' := fin 0 (by rw [k]; rfl)
    simp only [q_X6_setWords_42, q_X6_setWords_43, q_X6_setWords_44, q_X6_setWords_45, q_X6_setWords_48, q_X6_setWords_50, q_X6_setWords_51, q_X6_setWords_54, q_X6_setWords_57, q_X6_setWords_58, q_X6_setWords_61, q_X6_setWords_62, q_X6_setWords_63, q_X6_setWords_64, q_X6_setWords_67, q_X6_setWords_69, q_X6_setWords_70, q_X6_setWords_71, q_X6_setWords_72, ldI_s, ldJ_s, ldA_r, ldA_n, ob_s, List.getElem?_cons_zero, List.getElem?_cons_succ, List.length_cons, List.length_nil, gx_0, gx_1, gx_2, gx_3, gx_4, gx_5, gx_6, gx_7, gx_8, gx_9, gx_10, gx_11, Nat.reduceAdd, Nat.reduceLT, Nat.reduceLeDiff, Nat.reduceSub, Nat.lt_irrefl, true_and, and_true, Option.toList_some, Option.toList_none, List.cons_append, List.nil_append, csum_nil, csum_int, csum_long, csum_ref, csum_null, nar_int, nar_long, nar_ref, nar_null, nar_refA, nar_nullA, fit_int, fit_long, fit_ref, fit_refA, fit_null, fit_nullA, stL_0, stL_1i, stL_1r, stL_1n, stL_1u, stL_2i, stL_2r, stL_2n, stL_2u, stL_3i, stL_3r, stL_3n, stL_3u, stL_4i, stL_4r, stL_4n, stL_4u, stL_5i, stL_5r, stL_5n, stL_5u, stL_6i, stL_6r, stL_6n, stL_6u, stL_7i, stL_7r, stL_7n, stL_7u, stL_8i, stL_8r, stL_8n, stL_8u, stL_9i, stL_9r, stL_9n, stL_9u, stL_10i, stL_10r, stL_10n, stL_10u, stL_11i, stL_11r, stL_11n, stL_11u, stJ_0, stJ_1i, stJ_1r, stJ_1n, stJ_1u, stJ_2i, stJ_2r, stJ_2n, stJ_2u, stJ_3i, stJ_3r, stJ_3n, stJ_3u, stJ_4i, stJ_4r, stJ_4n, stJ_4u, stJ_5i, stJ_5r, stJ_5n, stJ_5u, stJ_6i, stJ_6r, stJ_6n, stJ_6u, stJ_7i, stJ_7r, stJ_7n, stJ_7u, stJ_8i, stJ_8r, stJ_8n, stJ_8u, stJ_9i, stJ_9r, stJ_9n, stJ_9u, stJ_10i, stJ_10r, stJ_10n, stJ_10u, ↓reduceIte, cat_int, cat_ref, cat_null, cat_long, va_rf_s, va_rf_n, nz_bI, nz_0, nz_1, bI_0, pd_1, pp_1, pq_1, pd_2, pp_2, pq_2, pd_3, pp_3, pq_3, pd_4, pp_4, pq_4, pd_5, pp_5, pq_5, pd_6, pp_6, pq_6, pd_7, pp_7, pq_7, pd_8, pp_8, pq_8, pd_9, pp_9, pq_9, pd_10, pp_10, pq_10, pd_11, pp_11, pq_11, pd_12, pp_12, pq_12, pd_13, pp_13, pq_13, pd_14, pp_14, pq_14, pd_15, pp_15, pq_15, pd_16, pp_16, pq_16, pd_17, pp_17, pq_17, pd_18, pp_18, pq_18, pd_19, pp_19, pq_19, pd_20, pp_20, pq_20, pd_21, pp_21, pq_21, pd_22, pp_22, pq_22, pd_23, pp_23, pq_23, pd_24, pp_24, pq_24, Nat.add_zero, Nat.zero_le, Nat.le_refl, eq_self, Option.some.injEq, exists_eq', r6, r8, h1, show nI 0 = 0 from rfl, aJ_up, v5, v6, v7, y5, y6, y7, hB, hup_up, nI_l (show σ.t.snc w < 2 ^ 31 by omega), nI_l (show s < 2 ^ 31 by omega)]
    exact fin'
  · have k1 : σ.t.H s = 1 := by omega
    rw [k1] at h1
    have fin' := fin 1 (by rw [k1]; rfl)
    simp only [q_X6_setWords_42, q_X6_setWords_43, q_X6_setWords_44, q_X6_setWords_45, q_X6_setWords_48, q_X6_setWords_50, q_X6_setWords_51, q_X6_setWords_54, q_X6_setWords_57, q_X6_setWords_58, q_X6_setWords_61, q_X6_setWords_62, q_X6_setWords_63, q_X6_setWords_64, q_X6_setWords_67, q_X6_setWords_69, q_X6_setWords_70, q_X6_setWords_71, q_X6_setWords_72, ldI_s, ldJ_s, ldA_r, ldA_n, ob_s, List.getElem?_cons_zero, List.getElem?_cons_succ, List.length_cons, List.length_nil, gx_0, gx_1, gx_2, gx_3, gx_4, gx_5, gx_6, gx_7, gx_8, gx_9, gx_10, gx_11, Nat.reduceAdd, Nat.reduceLT, Nat.reduceLeDiff, Nat.reduceSub, Nat.lt_irrefl, true_and, and_true, Option.toList_some, Option.toList_none, List.cons_append, List.nil_append, csum_nil, csum_int, csum_long, csum_ref, csum_null, nar_int, nar_long, nar_ref, nar_null, nar_refA, nar_nullA, fit_int, fit_long, fit_ref, fit_refA, fit_null, fit_nullA, stL_0, stL_1i, stL_1r, stL_1n, stL_1u, stL_2i, stL_2r, stL_2n, stL_2u, stL_3i, stL_3r, stL_3n, stL_3u, stL_4i, stL_4r, stL_4n, stL_4u, stL_5i, stL_5r, stL_5n, stL_5u, stL_6i, stL_6r, stL_6n, stL_6u, stL_7i, stL_7r, stL_7n, stL_7u, stL_8i, stL_8r, stL_8n, stL_8u, stL_9i, stL_9r, stL_9n, stL_9u, stL_10i, stL_10r, stL_10n, stL_10u, stL_11i, stL_11r, stL_11n, stL_11u, stJ_0, stJ_1i, stJ_1r, stJ_1n, stJ_1u, stJ_2i, stJ_2r, stJ_2n, stJ_2u, stJ_3i, stJ_3r, stJ_3n, stJ_3u, stJ_4i, stJ_4r, stJ_4n, stJ_4u, stJ_5i, stJ_5r, stJ_5n, stJ_5u, stJ_6i, stJ_6r, stJ_6n, stJ_6u, stJ_7i, stJ_7r, stJ_7n, stJ_7u, stJ_8i, stJ_8r, stJ_8n, stJ_8u, stJ_9i, stJ_9r, stJ_9n, stJ_9u, stJ_10i, stJ_10r, stJ_10n, stJ_10u, ↓reduceIte, cat_int, cat_ref, cat_null, cat_long, va_rf_s, va_rf_n, nz_bI, nz_0, nz_1, bI_0, pd_1, pp_1, pq_1, pd_2, pp_2, pq_2, pd_3, pp_3, pq_3, pd_4, pp_4, pq_4, pd_5, pp_5, pq_5, pd_6, pp_6, pq_6, pd_7, pp_7, pq_7, pd_8, pp_8, pq_8, pd_9, pp_9, pq_9, pd_10, pp_10, pq_10, pd_11, pp_11, pq_11, pd_12, pp_12, pq_12, pd_13, pp_13, pq_13, pd_14, pp_14, pq_14, pd_15, pp_15, pq_15, pd_16, pp_16, pq_16, pd_17, pp_17, pq_17, pd_18, pp_18, pq_18, pd_19, pp_19, pq_19, pd_20, pp_20, pq_20, pd_21, pp_21, pq_21, pd_22, pp_22, pq_22, pd_23, pp_23, pq_23, pd_24, pp_24, pq_24, Nat.add_zero, Nat.zero_le, Nat.le_refl, eq_self, Option.some.injEq, exists_eq', r6, r8, h1, show ¬ nI 1 = 0 by decide, aJ_up, v5, v6, v7, y5, y6, y7, hB, hup_up, nI_l (show σ.t.snc w < 2 ^ 31 by omega), nI_l (show s < 2 ^ 31 by omega)]
    exact fin'
theorem s_setGR (hI : Iv σ τ al G h) (ho : o = 17 ∨ o = 27) {wd : Nat → Int64} (hw : aJ h (G.1 + (o + 2)) = some (8, wd)) {g r : Nat} (hg : g < 2 ^ 31) (hr : r < 2 ^ 31)
    (hq : ∀ h' wd', Iv σ τ al G h' → aJ h' (G.1 + (o + 2)) = some (8, wd') → wd' 2 = lN g → wd' 3 = lN r → (∀ j, j ≠ 2 → j ≠ 3 → wd' j = wd j) → (∀ q, q ≠ G.1 + (o + 2) → h'.2.1 q = h.2.1 q) → Q none h') : Rn G d mX6_setGuardAndRing 0 [some (.ref (G.1 + (o + 1))), some (.int (nI g)), some (.int (nI r))] [] h Q := by
  obtain ⟨f1, f2, f3, f4⟩ := Iv_FO hI ho
  have hB : G.1 ≤ G.1 + (o + 2) := by omega
  have r6 : ∀ e, oF (hup h (G.1 + (o + 2)) e) (G.1 + (o + 1)) 6 = some [.ref (G.1 + (o + 2)), .ref (G.1 + (o + 3))] := fun e => by rw [oF_c (hup_ne (by omega))]; exact f2
  have v2 : vp_in (2 : Int32) 8 := vp_in_nI (n := 2) (by decide) (by decide)
  have v3 : vp_in (3 : Int32) 8 := vp_in_nI (n := 3) (by decide) (by decide)
  have y2 : (2 : Int32).toNatClampNeg = 2 := by decide
  have y3 : (3 : Int32).toNatClampNeg = 3 := by decide
  simp only [q_X6_setGuardAndRing_0, q_X6_setGuardAndRing_1, q_X6_setGuardAndRing_4, q_X6_setGuardAndRing_5, q_X6_setGuardAndRing_6, q_X6_setGuardAndRing_7, q_X6_setGuardAndRing_8, q_X6_setGuardAndRing_9, q_X6_setGuardAndRing_12, q_X6_setGuardAndRing_13, q_X6_setGuardAndRing_14, q_X6_setGuardAndRing_15, q_X6_setGuardAndRing_16, ldI_s, ldJ_s, ldA_r, ldA_n, ob_s, List.getElem?_cons_zero, List.getElem?_cons_succ, List.length_cons, List.length_nil, gx_0, gx_1, gx_2, gx_3, gx_4, gx_5, gx_6, gx_7, gx_8, gx_9, gx_10, gx_11, Nat.reduceAdd, Nat.reduceLT, Nat.reduceLeDiff, Nat.reduceSub, Nat.lt_irrefl, true_and, and_true, Option.toList_some, Option.toList_none, List.cons_append, List.nil_append, csum_nil, csum_int, csum_long, csum_ref, csum_null, nar_int, nar_long, nar_ref, nar_null, nar_refA, nar_nullA, fit_int, fit_long, fit_ref, fit_refA, fit_null, fit_nullA, stL_0, stL_1i, stL_1r, stL_1n, stL_1u, stL_2i, stL_2r, stL_2n, stL_2u, stL_3i, stL_3r, stL_3n, stL_3u, stL_4i, stL_4r, stL_4n, stL_4u, stL_5i, stL_5r, stL_5n, stL_5u, stL_6i, stL_6r, stL_6n, stL_6u, stL_7i, stL_7r, stL_7n, stL_7u, stL_8i, stL_8r, stL_8n, stL_8u, stL_9i, stL_9r, stL_9n, stL_9u, stL_10i, stL_10r, stL_10n, stL_10u, stL_11i, stL_11r, stL_11n, stL_11u, stJ_0, stJ_1i, stJ_1r, stJ_1n, stJ_1u, stJ_2i, stJ_2r, stJ_2n, stJ_2u, stJ_3i, stJ_3r, stJ_3n, stJ_3u, stJ_4i, stJ_4r, stJ_4n, stJ_4u, stJ_5i, stJ_5r, stJ_5n, stJ_5u, stJ_6i, stJ_6r, stJ_6n, stJ_6u, stJ_7i, stJ_7r, stJ_7n, stJ_7u, stJ_8i, stJ_8r, stJ_8n, stJ_8u, stJ_9i, stJ_9r, stJ_9n, stJ_9u, stJ_10i, stJ_10r, stJ_10n, stJ_10u, ↓reduceIte, cat_int, cat_ref, cat_null, cat_long, va_rf_s, va_rf_n, nz_bI, nz_0, nz_1, bI_0, pd_1, pp_1, pq_1, pd_2, pp_2, pq_2, pd_3, pp_3, pq_3, pd_4, pp_4, pq_4, pd_5, pp_5, pq_5, pd_6, pp_6, pq_6, pd_7, pp_7, pq_7, pd_8, pp_8, pq_8, pd_9, pp_9, pq_9, pd_10, pp_10, pq_10, pd_11, pp_11, pq_11, pd_12, pp_12, pq_12, pd_13, pp_13, pq_13, pd_14, pp_14, pq_14, pd_15, pp_15, pq_15, pd_16, pp_16, pq_16, pd_17, pp_17, pq_17, pd_18, pp_18, pq_18, pd_19, pp_19, pq_19, pd_20, pp_20, pq_20, pd_21, pp_21, pq_21, pd_22, pp_22, pq_22, pd_23, pp_23, pq_23, pd_24, pp_24, pq_24, Nat.add_zero, Nat.zero_le, Nat.le_refl, eq_self, Option.some.injEq, exists_eq', f2, hw, r6, aJ_up, v2, v3, y2, y3, hB, hup_up, nI_l hg, nI_l hr]
  refine hq _ _ (Iv_f2 hI ho) (aJ_of hup_eq) rfl rfl (fun j h2 h3 => ?_) (fun q hne => hup_ne hne)
  unfold vp_updL
  rw [if_neg h3, if_neg h2]
theorem s_sumC (hI : Iv σ τ al G h) (ho : o = 17 ∨ o = 27) {r : Nat} (hr : r < σ.ln) (hL : LwOK (σ.lw r)) {wd : Nat → Int64} (hw : aJ h (G.1 + (o + 2)) = some (8, wd)) {so : Int32} {most wo : Nat} (hm : most ≤ 99999) (hwo : wo ≤ most)
    (hq : ∀ h', Iv σ τ al G h' → (∀ q, q ≠ G.1 + (o + 3) → h'.2.1 q = h.2.1 q) → Q (some (.int (nI ((σ.lw r).te wd so most wo)))) h') : Rn G (d + 2) mX6_sumOf 0 [some (.ref (G.1 + (o + 1))), some (.ref (al.ad G.1 (124 + r) + 2)), some (.int so), some (.int (nI most)), some (.int (nI wo)), none, none, none, none, none] [] h Q := by
  obtain ⟨f1, f2, f3, f4⟩ := Iv_FO hI ho
  obtain ⟨-, l1, l2, l3⟩ := hI.x.lw r hr
  have nb := ad_ge (al := al) (B := G.1) (o := 124 + r)
  exact s_sumOf hL l1 l2 l3 f2 hw f4 (by omega) (by omega) (by omega) (by omega) (by omega) (by omega) hm hwo (fun S' => hq _ (Iv_f3 hI ho) (fun q hne => hup_ne hne))
end FC
