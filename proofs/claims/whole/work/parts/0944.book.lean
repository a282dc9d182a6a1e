/-! book and film -/
def Tn.sBk (t : Tn) (bt : Int32) (bk : Nat → Int32) : Tn := mkTn t.now t.st bt t.ft t.pr t.n t.c t.w t.ho t.nb bk t.fm
def Tn.sFm (t : Tn) (ft : Int32) (fm : Nat → Int32) : Tn := mkTn t.now t.st t.bt ft t.pr t.n t.c t.w t.ho t.nb t.bk fm
def chg (was is : Int32) : Int32 := (if is = -1 then 0 else 1) - (if was = -1 then 0 else 1)
theorem nar8 : ∀ x, x ≤ 99 → (nI x).toInt8.toInt32 = nI x := by decide +kernel
theorem nar16 : ∀ x, x ≤ 999 → (nI x).toInt16.toInt32 = nI x := by decide +kernel
theorem n_cases {x : Int32} {m : Nat} (hm : m < 2 ^ 30) (h : -1 ≤ x.toInt ∧ x.toInt ≤ m) : x = -1 ∨ ∃ k, k ≤ m ∧ x = nI k := by
  by_cases c1 : x = -1
  · exact Or.inl c1
  · have c4 : ¬ x.toInt = -1 := fun z => c1 (m1_iff.2 z)
    obtain ⟨k, hk, e⟩ := ix_of (x := x) (n := m + 1) (by omega) (by omega)
    exact Or.inr ⟨k, by omega, e⟩
section BOOKS
variable {G : aG} {d : Nat} {h : aH} {Q : aQ}
theorem s_setBook {a b f w k : Nat} {c0 c1 c2 c3 : Value} {bk : Nat → Int32} {n : Int32} (hB : G.1 ≤ b) (hs : oF h a 8 = some [c0, c1, c2, c3, .ref b, .ref f]) (hb : aI h b 1 = some (1040, bk)) (hw : w < 260) (hk : k < 4) : Rn G d mX8_setBook 0 [some (.ref a), some (.int (nI w)), some (.int (nI k)), some (.int n), none] [] h Q = Q none (hup h b (.inl (1, 1040, .inl (upd bk (w * 4 + k) n.toInt8.toInt32)))) := by
  have e : nI w * 4 + nI k = nI (w * 4 + k) := by rw [show (4 : Int32) = nI 4 from rfl, pk_mul, nI_add]
  have g1 : ¬ nI (w * 4 + k) < 0 := nI_pos (by omega)
  have g2 : ¬ nI 1040 ≤ nI (w * 4 + k) := nI_ge (by omega) (by omega)
  have g3 : vp_in (nI (w * 4 + k)) 1040 := vp_in_nI (by omega) (by omega)
  have g4 : (nI (w * 4 + k)).toNatClampNeg = w * 4 + k := nI_clamp (by omega)
  simp only [q_X8_setBook_0, q_X8_setBook_1, q_X8_setBook_2, q_X8_setBook_3, q_X8_setBook_4, q_X8_setBook_5, q_X8_setBook_7, q_X8_setBook_9, q_X8_setBook_12, q_X8_setBook_14, q_X8_setBook_15, q_X8_setBook_18, q_X8_setBook_19, q_X8_setBook_22, q_X8_setBook_23, q_X8_setBook_26, q_X8_setBook_28, q_X8_setBook_29, q_X8_setBook_30, q_X8_setBook_31, ldI_s, ldJ_s, ldA_r, ldA_n, ob_s, List.getElem?_cons_zero, List.getElem?_cons_succ, List.length_cons, List.length_nil, gx_0, gx_1, gx_2, gx_3, gx_4, gx_5, gx_6, gx_7, gx_8, gx_9, gx_10, gx_11, Nat.reduceAdd, Nat.reduceLT, Nat.reduceLeDiff, Nat.reduceSub, Nat.lt_irrefl, true_and, and_true, Option.toList_some, Option.toList_none, List.cons_append, List.nil_append, csum_nil, csum_int, csum_long, csum_ref, csum_null, nar_int, nar_long, nar_ref, nar_null, nar_refA, nar_nullA, fit_int, fit_long, fit_ref, fit_refA, fit_null, fit_nullA, stL_0, stL_1i, stL_1r, stL_1n, stL_1u, stL_2i, stL_2r, stL_2n, stL_2u, stL_3i, stL_3r, stL_3n, stL_3u, stL_4i, stL_4r, stL_4n, stL_4u, stL_5i, stL_5r, stL_5n, stL_5u, stL_6i, stL_6r, stL_6n, stL_6u, stL_7i, stL_7r, stL_7n, stL_7u, stL_8i, stL_8r, stL_8n, stL_8u, stL_9i, stL_9r, stL_9n, stL_9u, stL_10i, stL_10r, stL_10n, stL_10u, stL_11i, stL_11r, stL_11n, stL_11u, stJ_0, stJ_1i, stJ_1r, stJ_1n, stJ_1u, stJ_2i, stJ_2r, stJ_2n, stJ_2u, stJ_3i, stJ_3r, stJ_3n, stJ_3u, stJ_4i, stJ_4r, stJ_4n, stJ_4u, stJ_5i, stJ_5r, stJ_5n, stJ_5u, stJ_6i, stJ_6r, stJ_6n, stJ_6u, stJ_7i, stJ_7r, stJ_7n, stJ_7u, stJ_8i, stJ_8r, stJ_8n, stJ_8u, stJ_9i, stJ_9r, stJ_9n, stJ_9u, stJ_10i, stJ_10r, stJ_10n, stJ_10u, ↓reduceIte, cat_int, cat_ref, cat_null, cat_long, va_rf_s, va_rf_n, nz_bI, nz_0, nz_1, bI_0, pd_1, pp_1, pq_1, pd_2, pp_2, pq_2, pd_3, pp_3, pq_3, pd_4, pp_4, pq_4, pd_5, pp_5, pq_5, pd_6, pp_6, pq_6, pd_7, pp_7, pq_7, pd_8, pp_8, pq_8, pd_9, pp_9, pq_9, pd_10, pp_10, pq_10, pd_11, pp_11, pq_11, pd_12, pp_12, pq_12, pd_13, pp_13, pq_13, pd_14, pp_14, pq_14, pd_15, pp_15, pq_15, pd_16, pp_16, pq_16, pd_17, pp_17, pq_17, pd_18, pp_18, pq_18, pd_19, pp_19, pq_19, pd_20, pp_20, pq_20, pd_21, pp_21, pq_21, pd_22, pp_22, pq_22, pd_23, pp_23, pq_23, pd_24, pp_24, pq_24, Nat.add_zero, Nat.zero_le, Nat.le_refl, eq_self, e, g1, g2, g3, g4, hs, hb, hB, aN_I (by decide : 1 < 8) hb, pk_vb]
theorem s_bookAt1 {a b f w k : Nat} {c0 c1 c2 c3 : Value} {bk : Nat → Int32} (hs : oF h a 8 = some [c0, c1, c2, c3, .ref b, .ref f]) (hb : aI h b 1 = some (1040, bk)) (hw : w < 260) (hk : k < 4) : Rn G d mX8_bookAt 0 [some (.ref a), some (.int (nI w)), some (.int (nI k)), none] [] h Q = Q (some (.int (bk (w * 4 + k)))) h := by
  have e : nI w * 4 + nI k = nI (w * 4 + k) := by rw [show (4 : Int32) = nI 4 from rfl, pk_mul, nI_add]
  have g1 : ¬ nI (w * 4 + k) < 0 := nI_pos (by omega)
  have g2 : ¬ nI 1040 ≤ nI (w * 4 + k) := nI_ge (by omega) (by omega)
  have g3 : vp_in (nI (w * 4 + k)) 1040 := vp_in_nI (by omega) (by omega)
  have g4 : (nI (w * 4 + k)).toNatClampNeg = w * 4 + k := nI_clamp (by omega)
  simp only [q_X8_bookAt_0, q_X8_bookAt_1, q_X8_bookAt_2, q_X8_bookAt_3, q_X8_bookAt_4, q_X8_bookAt_5, q_X8_bookAt_6, q_X8_bookAt_7, q_X8_bookAt_10, q_X8_bookAt_11, q_X8_bookAt_12, q_X8_bookAt_15, q_X8_bookAt_16, q_X8_bookAt_19, q_X8_bookAt_20, q_X8_bookAt_23, q_X8_bookAt_24, q_X8_bookAt_25, q_X8_bookAt_28, q_X8_bookAt_29, ldI_s, ldJ_s, ldA_r, ldA_n, ob_s, List.getElem?_cons_zero, List.getElem?_cons_succ, List.length_cons, List.length_nil, gx_0, gx_1, gx_2, gx_3, gx_4, gx_5, gx_6, gx_7, gx_8, gx_9, gx_10, gx_11, Nat.reduceAdd, Nat.reduceLT, Nat.reduceLeDiff, Nat.reduceSub, Nat.lt_irrefl, true_and, and_true, Option.toList_some, Option.toList_none, List.cons_append, List.nil_append, csum_nil, csum_int, csum_long, csum_ref, csum_null, nar_int, nar_long, nar_ref, nar_null, nar_refA, nar_nullA, fit_int, fit_long, fit_ref, fit_refA, fit_null, fit_nullA, stL_0, stL_1i, stL_1r, stL_1n, stL_1u, stL_2i, stL_2r, stL_2n, stL_2u, stL_3i, stL_3r, stL_3n, stL_3u, stL_4i, stL_4r, stL_4n, stL_4u, stL_5i, stL_5r, stL_5n, stL_5u, stL_6i, stL_6r, stL_6n, stL_6u, stL_7i, stL_7r, stL_7n, stL_7u, stL_8i, stL_8r, stL_8n, stL_8u, stL_9i, stL_9r, stL_9n, stL_9u, stL_10i, stL_10r, stL_10n, stL_10u, stL_11i, stL_11r, stL_11n, stL_11u, stJ_0, stJ_1i, stJ_1r, stJ_1n, stJ_1u, stJ_2i, stJ_2r, stJ_2n, stJ_2u, stJ_3i, stJ_3r, stJ_3n, stJ_3u, stJ_4i, stJ_4r, stJ_4n, stJ_4u, stJ_5i, stJ_5r, stJ_5n, stJ_5u, stJ_6i, stJ_6r, stJ_6n, stJ_6u, stJ_7i, stJ_7r, stJ_7n, stJ_7u, stJ_8i, stJ_8r, stJ_8n, stJ_8u, stJ_9i, stJ_9r, stJ_9n, stJ_9u, stJ_10i, stJ_10r, stJ_10n, stJ_10u, ↓reduceIte, cat_int, cat_ref, cat_null, cat_long, va_rf_s, va_rf_n, nz_bI, nz_0, nz_1, bI_0, pd_1, pp_1, pq_1, pd_2, pp_2, pq_2, pd_3, pp_3, pq_3, pd_4, pp_4, pq_4, pd_5, pp_5, pq_5, pd_6, pp_6, pq_6, pd_7, pp_7, pq_7, pd_8, pp_8, pq_8, pd_9, pp_9, pq_9, pd_10, pp_10, pq_10, pd_11, pp_11, pq_11, pd_12, pp_12, pq_12, pd_13, pp_13, pq_13, pd_14, pp_14, pq_14, pd_15, pp_15, pq_15, pd_16, pp_16, pq_16, pd_17, pp_17, pq_17, pd_18, pp_18, pq_18, pd_19, pp_19, pq_19, pd_20, pp_20, pq_20, pd_21, pp_21, pq_21, pd_22, pp_22, pq_22, pd_23, pp_23, pq_23, pd_24, pp_24, pq_24, Nat.add_zero, Nat.zero_le, Nat.le_refl, eq_self, e, g1, g2, g3, g4, hs, hb, aN_I (by decide : 1 < 8) hb, Option.orElse]
theorem s_setFilm {a b f w : Nat} {c0 c1 c2 c3 : Value} {fm : Nat → Int32} {n : Int32} (hB : G.1 ≤ f) (hs : oF h a 8 = some [c0, c1, c2, c3, .ref b, .ref f]) (hb : aI h f 2 = some (260, fm)) (hw : w < 260) : Rn G d mX8_setFilm 0 [some (.ref a), some (.int (nI w)), some (.int n)] [] h Q = Q none (hup h f (.inl (2, 260, .inl (upd fm w n.toInt16.toInt32)))) := by
  have g1 : ¬ nI w < 0 := nI_pos (by omega)
  have g2 : ¬ nI 260 ≤ nI w := nI_ge (by omega) (by omega)
  have g3 : vp_in (nI w) 260 := vp_in_nI (by omega) (by omega)
  have g4 : (nI w).toNatClampNeg = w := nI_clamp (by omega)
  simp only [q_X8_setFilm_0, q_X8_setFilm_1, q_X8_setFilm_4, q_X8_setFilm_5, q_X8_setFilm_6, q_X8_setFilm_9, q_X8_setFilm_10, q_X8_setFilm_13, q_X8_setFilm_14, q_X8_setFilm_17, q_X8_setFilm_18, q_X8_setFilm_19, q_X8_setFilm_20, q_X8_setFilm_21, ldI_s, ldJ_s, ldA_r, ldA_n, ob_s, List.getElem?_cons_zero, List.getElem?_cons_succ, List.length_cons, List.length_nil, gx_0, gx_1, gx_2, gx_3, gx_4, gx_5, gx_6, gx_7, gx_8, gx_9, gx_10, gx_11, Nat.reduceAdd, Nat.reduceLT, Nat.reduceLeDiff, Nat.reduceSub, Nat.lt_irrefl, true_and, and_true, Option.toList_some, Option.toList_none, List.cons_append, List.nil_append, csum_nil, csum_int, csum_long, csum_ref, csum_null, nar_int, nar_long, nar_ref, nar_null, nar_refA, nar_nullA, fit_int, fit_long, fit_ref, fit_refA, fit_null, fit_nullA, stL_0, stL_1i, stL_1r, stL_1n, stL_1u, stL_2i, stL_2r, stL_2n, stL_2u, stL_3i, stL_3r, stL_3n, stL_3u, stL_4i, stL_4r, stL_4n, stL_4u, stL_5i, stL_5r, stL_5n, stL_5u, stL_6i, stL_6r, stL_6n, stL_6u, stL_7i, stL_7r, stL_7n, stL_7u, stL_8i, stL_8r, stL_8n, stL_8u, stL_9i, stL_9r, stL_9n, stL_9u, stL_10i, stL_10r, stL_10n, stL_10u, stL_11i, stL_11r, stL_11n, stL_11u, stJ_0, stJ_1i, stJ_1r, stJ_1n, stJ_1u, stJ_2i, stJ_2r, stJ_2n, stJ_2u, stJ_3i, stJ_3r, stJ_3n, stJ_3u, stJ_4i, stJ_4r, stJ_4n, stJ_4u, stJ_5i, stJ_5r, stJ_5n, stJ_5u, stJ_6i, stJ_6r, stJ_6n, stJ_6u, stJ_7i, stJ_7r, stJ_7n, stJ_7u, stJ_8i, stJ_8r, stJ_8n, stJ_8u, stJ_9i, stJ_9r, stJ_9n, stJ_9u, stJ_10i, stJ_10r, stJ_10n, stJ_10u, ↓reduceIte, cat_int, cat_ref, cat_null, cat_long, va_rf_s, va_rf_n, nz_bI, nz_0, nz_1, bI_0, pd_1, pp_1, pq_1, pd_2, pp_2, pq_2, pd_3, pp_3, pq_3, pd_4, pp_4, pq_4, pd_5, pp_5, pq_5, pd_6, pp_6, pq_6, pd_7, pp_7, pq_7, pd_8, pp_8, pq_8, pd_9, pp_9, pq_9, pd_10, pp_10, pq_10, pd_11, pp_11, pq_11, pd_12, pp_12, pq_12, pd_13, pp_13, pq_13, pd_14, pp_14, pq_14, pd_15, pp_15, pq_15, pd_16, pp_16, pq_16, pd_17, pp_17, pq_17, pd_18, pp_18, pq_18, pd_19, pp_19, pq_19, pd_20, pp_20, pq_20, pd_21, pp_21, pq_21, pd_22, pp_22, pq_22, pd_23, pp_23, pq_23, pd_24, pp_24, pq_24, Nat.add_zero, Nat.zero_le, Nat.le_refl, eq_self, g1, g2, g3, g4, hs, hb, hB, aN_I (by decide : 2 < 8) hb, pk_vs]
theorem s_filmAt {a b f w : Nat} {c0 c1 c2 c3 : Value} {fm : Nat → Int32} (hs : oF h a 8 = some [c0, c1, c2, c3, .ref b, .ref f]) (hb : aI h f 2 = some (260, fm)) (hw : w < 260) : Rn G d mX8_filmAt 0 [some (.ref a), some (.int (nI w))] [] h Q = Q (some (.int (fm w))) h := by
  have g1 : ¬ nI w < 0 := nI_pos (by omega)
  have g2 : ¬ nI 260 ≤ nI w := nI_ge (by omega) (by omega)
  have g3 : vp_in (nI w) 260 := vp_in_nI (by omega) (by omega)
  have g4 : (nI w).toNatClampNeg = w := nI_clamp (by omega)
  simp only [q_X8_filmAt_0, q_X8_filmAt_1, q_X8_filmAt_4, q_X8_filmAt_5, q_X8_filmAt_6, q_X8_filmAt_9, q_X8_filmAt_10, q_X8_filmAt_13, q_X8_filmAt_14, q_X8_filmAt_17, q_X8_filmAt_18, q_X8_filmAt_19, q_X8_filmAt_22, q_X8_filmAt_23, ldI_s, ldJ_s, ldA_r, ldA_n, ob_s, List.getElem?_cons_zero, List.getElem?_cons_succ, List.length_cons, List.length_nil, gx_0, gx_1, gx_2, gx_3, gx_4, gx_5, gx_6, gx_7, gx_8, gx_9, gx_10, gx_11, Nat.reduceAdd, Nat.reduceLT, Nat.reduceLeDiff, Nat.reduceSub, Nat.lt_irrefl, true_and, and_true, Option.toList_some, Option.toList_none, List.cons_append, List.nil_append, csum_nil, csum_int, csum_long, csum_ref, csum_null, nar_int, nar_long, nar_ref, nar_null, nar_refA, nar_nullA, fit_int, fit_long, fit_ref, fit_refA, fit_null, fit_nullA, stL_0, stL_1i, stL_1r, stL_1n, stL_1u, stL_2i, stL_2r, stL_2n, stL_2u, stL_3i, stL_3r, stL_3n, stL_3u, stL_4i, stL_4r, stL_4n, stL_4u, stL_5i, stL_5r, stL_5n, stL_5u, stL_6i, stL_6r, stL_6n, stL_6u, stL_7i, stL_7r, stL_7n, stL_7u, stL_8i, stL_8r, stL_8n, stL_8u, stL_9i, stL_9r, stL_9n, stL_9u, stL_10i, stL_10r, stL_10n, stL_10u, stL_11i, stL_11r, stL_11n, stL_11u, stJ_0, stJ_1i, stJ_1r, stJ_1n, stJ_1u, stJ_2i, stJ_2r, stJ_2n, stJ_2u, stJ_3i, stJ_3r, stJ_3n, stJ_3u, stJ_4i, stJ_4r, stJ_4n, stJ_4u, stJ_5i, stJ_5r, stJ_5n, stJ_5u, stJ_6i, stJ_6r, stJ_6n, stJ_6u, stJ_7i, stJ_7r, stJ_7n, stJ_7u, stJ_8i, stJ_8r, stJ_8n, stJ_8u, stJ_9i, stJ_9r, stJ_9n, stJ_9u, stJ_10i, stJ_10r, stJ_10n, stJ_10u, ↓reduceIte, cat_int, cat_ref, cat_null, cat_long, va_rf_s, va_rf_n, nz_bI, nz_0, nz_1, bI_0, pd_1, pp_1, pq_1, pd_2, pp_2, pq_2, pd_3, pp_3, pq_3, pd_4, pp_4, pq_4, pd_5, pp_5, pq_5, pd_6, pp_6, pq_6, pd_7, pp_7, pq_7, pd_8, pp_8, pq_8, pd_9, pp_9, pq_9, pd_10, pp_10, pq_10, pd_11, pp_11, pq_11, pd_12, pp_12, pq_12, pd_13, pp_13, pq_13, pd_14, pp_14, pq_14, pd_15, pp_15, pq_15, pd_16, pp_16, pq_16, pd_17, pp_17, pq_17, pd_18, pp_18, pq_18, pd_19, pp_19, pq_19, pd_20, pp_20, pq_20, pd_21, pp_21, pq_21, pd_22, pp_22, pq_22, pd_23, pp_23, pq_23, pd_24, pp_24, pq_24, Nat.add_zero, Nat.zero_le, Nat.le_refl, eq_self, g1, g2, g3, g4, hs, hb, aN_I (by decide : 2 < 8) hb]
theorem s_change {was is : Int32} : Rn G d mX10_change 0 [some (.int was), some (.int is)] [] h Q = Q (some (.int (chg was is))) h := by
  unfold chg
  by_cases c1 : is = -1 <;> by_cases c2 : was = -1 <;> simp only [q_X10_change_0, q_X10_change_1, q_X10_change_2, q_X10_change_5, q_X10_change_6, q_X10_change_9, q_X10_change_10, q_X10_change_11, q_X10_change_12, q_X10_change_15, q_X10_change_16, q_X10_change_19, q_X10_change_20, q_X10_change_21, ldI_s, ldJ_s, ldA_r, ldA_n, ob_s, List.getElem?_cons_zero, List.getElem?_cons_succ, List.length_cons, List.length_nil, gx_0, gx_1, gx_2, gx_3, gx_4, gx_5, gx_6, gx_7, gx_8, gx_9, gx_10, gx_11, Nat.reduceAdd, Nat.reduceLT, Nat.reduceLeDiff, Nat.reduceSub, Nat.lt_irrefl, true_and, and_true, Option.toList_some, Option.toList_none, List.cons_append, List.nil_append, csum_nil, csum_int, csum_long, csum_ref, csum_null, nar_int, nar_long, nar_ref, nar_null, nar_refA, nar_nullA, fit_int, fit_long, fit_ref, fit_refA, fit_null, fit_nullA, stL_0, stL_1i, stL_1r, stL_1n, stL_1u, stL_2i, stL_2r, stL_2n, stL_2u, stL_3i, stL_3r, stL_3n, stL_3u, stL_4i, stL_4r, stL_4n, stL_4u, stL_5i, stL_5r, stL_5n, stL_5u, stL_6i, stL_6r, stL_6n, stL_6u, stL_7i, stL_7r, stL_7n, stL_7u, stL_8i, stL_8r, stL_8n, stL_8u, stL_9i, stL_9r, stL_9n, stL_9u, stL_10i, stL_10r, stL_10n, stL_10u, stL_11i, stL_11r, stL_11n, stL_11u, stJ_0, stJ_1i, stJ_1r, stJ_1n, stJ_1u, stJ_2i, stJ_2r, stJ_2n, stJ_2u, stJ_3i, stJ_3r, stJ_3n, stJ_3u, stJ_4i, stJ_4r, stJ_4n, stJ_4u, stJ_5i, stJ_5r, stJ_5n, stJ_5u, stJ_6i, stJ_6r, stJ_6n, stJ_6u, stJ_7i, stJ_7r, stJ_7n, stJ_7u, stJ_8i, stJ_8r, stJ_8n, stJ_8u, stJ_9i, stJ_9r, stJ_9n, stJ_9u, stJ_10i, stJ_10r, stJ_10n, stJ_10u, ↓reduceIte, cat_int, cat_ref, cat_null, cat_long, va_rf_s, va_rf_n, nz_bI, nz_0, nz_1, bI_0, pd_1, pp_1, pq_1, pd_2, pp_2, pq_2, pd_3, pp_3, pq_3, pd_4, pp_4, pq_4, pd_5, pp_5, pq_5, pd_6, pp_6, pq_6, pd_7, pp_7, pq_7, pd_8, pp_8, pq_8, pd_9, pp_9, pq_9, pd_10, pp_10, pq_10, pd_11, pp_11, pq_11, pd_12, pp_12, pq_12, pd_13, pp_13, pq_13, pd_14, pp_14, pq_14, pd_15, pp_15, pq_15, pd_16, pp_16, pq_16, pd_17, pp_17, pq_17, pd_18, pp_18, pq_18, pd_19, pp_19, pq_19, pd_20, pp_20, pq_20, pd_21, pp_21, pq_21, pd_22, pp_22, pq_22, pd_23, pp_23, pq_23, pd_24, pp_24, pq_24, Nat.add_zero, Nat.zero_le, Nat.le_refl, eq_self, c1, c2]
end BOOKS
/-- the row of one street of the own town, books or films -/
theorem Iv_bk {σ τ : Sg} {al : Al} {G : aG} {h : aH} {k j : Nat} {g : Nat → Int32} {v : Int32} {bt : Int32} (hI : Iv σ τ al G h) (hbt : bt = σ.t.bt) (hk : k < σ.t.n) (hj : j < 1040) (hg : aI h (al.ad G.1 k + 1) 1 = some (1040, g)) (hgb : ∀ i, i < 1040 → g i = σ.t.bk (1040 * k + i)) : Iv (σ.sT (σ.t.sBk bt (upd σ.t.bk (1040 * k + j) v))) τ al G (hup h (al.ad G.1 k + 1) (.inl (1, 1040, .inl (upd g j v)))) := by
  have gk := ad_ge (al := al) (B := G.1) (o := k)
  have hn := XT_n hI.x.t
  have mk0 : ∀ i, i < σ.t.n → al.mk i = true := fun i hi => by have := XT_mk hI.x.t hi; simpa using this
  have sep : ∀ i j', i < 24 → al.mk i = true → j' < 3 → (i ≠ k ∨ j' ≠ 1) → al.ad G.1 i + j' ≠ al.ad G.1 k + 1 := fun i j' hi hm hj' hne => by
    by_cases c : i = k
    · subst c; omega
    · exact ad_ne hI.al hm (mk0 k hk) c hj' (by decide)
  subst hbt
  refine Iv_X hI rfl rfl (fun q hq => hup_ne (by unfold XF at hq; omega)) (XI_t hI.al hI.x (fun q _ _ _ h4 => hup_ne (h4 k 1 (by omega) (by decide) (mk0 k hk))) ?_ ?_)
  · obtain ⟨f, ⟨⟨t1, t2, t3, t4⟩, t5, t6⟩, h2⟩ := hI.x.t
    refine ⟨f, ⟨⟨t1, ?_, ?_, ?_⟩, ?_, ?_⟩, h2⟩
    · rw [oF_c (hup_ne (by show G.1 + 1 ≠ _; omega))]; exact t2
    · rw [aR_c (hup_ne (by show G.1 + 1 + 1 ≠ _; omega))]; exact t3
    · intro i hi
      refine ⟨(t4 i hi).1, ?_⟩
      have hi' : i < σ.t.n := hi
      rw [oF_c (hup_ne (by have := sep i 0 (by omega) (mk0 i hi') (by decide) (Or.inr (by decide)); simpa using this))]
      exact (t4 i hi).2
    · rw [aI_c (hup_ne (by show G.1 + 1 + 2 ≠ _; omega))]; exact t5
    · intro i hi
      have hi' : i < σ.t.n := hi
      refine ⟨?_, ?_⟩
      · by_cases c : i = k
        · subst c
          refine ⟨upd g j v, ?_, fun i' hi2 => ?_⟩
          · unfold aI
            simp only [Nat.mul_zero, Nat.zero_add]
            rw [hup_eq]
            simp
          · show upd g j v i' = upd σ.t.bk (1040 * i + j) v (1040 * i + i')
            by_cases c2 : i' = j
            · subst c2; rw [pk_us, pk_us]
            · rw [pk_un c2, pk_un (by omega)]; exact hgb i' hi2
        · obtain ⟨g', a1, a2⟩ := (t6 i hi).1
          refine ⟨g', ?_, fun i' hi2 => ?_⟩
          · rw [aI_c (hup_ne (by have := sep i 1 (by omega) (mk0 i hi') (by decide) (Or.inl c); simpa using this))]
            exact a1
          · show g' i' = upd σ.t.bk (1040 * k + j) v (1040 * i + i')
            rw [pk_un (by omega)]
            exact a2 i' hi2
      · rw [aI_c (hup_ne (by have := sep i 2 (by omega) (mk0 i hi') (by decide) (Or.inr (by decide)); simpa using this))]
        exact (t6 i hi).2
  · intro i hi hm
    obtain ⟨s1, s2, s3⟩ := hI.x.ss i (by omega) hm
    refine ⟨?_, ?_, ?_⟩
    · rw [oF_c (hup_ne (by have := sep i 0 hi hm (by decide) (Or.inr (by decide)); simpa using this))]; exact s1
    · by_cases c : i = k
      · subst c
        refine ⟨upd g j v, ?_⟩
        unfold aI
        rw [hup_eq]
        simp
      · rw [aI_c (hup_ne (sep i 1 hi hm (by decide) (Or.inl c)))]; exact s2
    · rw [aI_c (hup_ne (sep i 2 hi hm (by decide) (Or.inr (by decide))))]; exact s3
theorem Iv_fm {σ τ : Sg} {al : Al} {G : aG} {h : aH} {k j : Nat} {g : Nat → Int32} {v : Int32} {ft : Int32} (hI : Iv σ τ al G h) (hft : ft = σ.t.ft) (hk : k < σ.t.n) (hj : j < 260) (hg : aI h (al.ad G.1 k + 2) 2 = some (260, g)) (hgb : ∀ i, i < 260 → g i = σ.t.fm (260 * k + i)) : Iv (σ.sT (σ.t.sFm ft (upd σ.t.fm (260 * k + j) v))) τ al G (hup h (al.ad G.1 k + 2) (.inl (2, 260, .inl (upd g j v)))) := by
  have gk := ad_ge (al := al) (B := G.1) (o := k)
  have hn := XT_n hI.x.t
  have mk0 : ∀ i, i < σ.t.n → al.mk i = true := fun i hi => by have := XT_mk hI.x.t hi; simpa using this
  have sep : ∀ i j', i < 24 → al.mk i = true → j' < 3 → (i ≠ k ∨ j' ≠ 2) → al.ad G.1 i + j' ≠ al.ad G.1 k + 2 := fun i j' hi hm hj' hne => by
    by_cases c : i = k
    · subst c; omega
    · exact ad_ne hI.al hm (mk0 k hk) c hj' (by decide)
  subst hft
  refine Iv_X hI rfl rfl (fun q hq => hup_ne (by unfold XF at hq; omega)) (XI_t hI.al hI.x (fun q _ _ _ h4 => hup_ne (h4 k 2 (by omega) (by decide) (mk0 k hk))) ?_ ?_)
  · obtain ⟨f, ⟨⟨t1, t2, t3, t4⟩, t5, t6⟩, h2⟩ := hI.x.t
    refine ⟨f, ⟨⟨t1, ?_, ?_, ?_⟩, ?_, ?_⟩, h2⟩
    · rw [oF_c (hup_ne (by show G.1 + 1 ≠ _; omega))]; exact t2
    · rw [aR_c (hup_ne (by show G.1 + 1 + 1 ≠ _; omega))]; exact t3
    · intro i hi
      refine ⟨(t4 i hi).1, ?_⟩
      have hi' : i < σ.t.n := hi
      rw [oF_c (hup_ne (by have := sep i 0 (by omega) (mk0 i hi') (by decide) (Or.inr (by decide)); simpa using this))]
      exact (t4 i hi).2
    · rw [aI_c (hup_ne (by show G.1 + 1 + 2 ≠ _; omega))]; exact t5
    · intro i hi
      have hi' : i < σ.t.n := hi
      refine ⟨?_, ?_⟩
      · rw [aI_c (hup_ne (by have := sep i 1 (by omega) (mk0 i hi') (by decide) (Or.inr (by decide)); simpa using this))]
        exact (t6 i hi).1
      · by_cases c : i = k
        · subst c
          refine ⟨upd g j v, ?_, fun i' hi2 => ?_⟩
          · unfold aI
            simp only [Nat.mul_zero, Nat.zero_add]
            rw [hup_eq]
            simp
          · show upd g j v i' = upd σ.t.fm (260 * i + j) v (260 * i + i')
            by_cases c2 : i' = j
            · subst c2; rw [pk_us, pk_us]
            · rw [pk_un c2, pk_un (by omega)]; exact hgb i' hi2
        · obtain ⟨g', a1, a2⟩ := (t6 i hi).2
          refine ⟨g', ?_, fun i' hi2 => ?_⟩
          · rw [aI_c (hup_ne (by have := sep i 2 (by omega) (mk0 i hi') (by decide) (Or.inl c); simpa using this))]
            exact a1
          · show g' i' = upd σ.t.fm (260 * k + j) v (260 * i + i')
            rw [pk_un (by omega)]
            exact a2 i' hi2
  · intro i hi hm
    obtain ⟨s1, s2, s3⟩ := hI.x.ss i (by omega) hm
    refine ⟨?_, ?_, ?_⟩
    · rw [oF_c (hup_ne (by have := sep i 0 hi hm (by decide) (Or.inr (by decide)); simpa using this))]; exact s1
    · rw [aI_c (hup_ne (sep i 1 hi hm (by decide) (Or.inr (by decide))))]; exact s2
    · by_cases c : i = k
      · subst c
        refine ⟨upd g j v, ?_⟩
        unfold aI
        rw [hup_eq]
        simp
      · rw [aI_c (hup_ne (sep i 2 hi hm (by decide) (Or.inl c)))]; exact s3
