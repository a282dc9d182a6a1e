/-! the pairs image and back -/
theorem mrg_c {n : Nat} {f g h : Nat → Int32} (e : ∀ j, j < n → f j = g j) : mrg n f h = mrg n g h := by
  funext j
  unfold mrg
  by_cases c : j < n
  · rw [if_pos c, if_pos c]; exact e j c
  · rw [if_neg c, if_neg c]
theorem fit_b1 : fits .boolean (.int 1) = true := rfl
section MBK
variable {G : aG} {d : Nat} {h h' : aH} {Q : aQ} {σ τ : Sg} {al : Al}
theorem M_back (hI : Iv σ τ al G h) (hO : OK τ) {k : Nat} (hk : k < 4) {t : Tn} (hm : τ.im k = some t) (hq : ∀ h', Iv σ (τ.sT (bkT τ.t t)) al G h' → Q (some (.int t.now)) h') : Rn G (d + 3) mX11_back 0 [some (.ref (G.1 + 40)), some (.int (nI k))] [] h Q := by
  obtain ⟨s, ho⟩ := hI.m.o
  unfold mq at ho
  have c : 0 ≤ (nI k).toInt ∧ (nI k).toInt ≤ 3 := by rw [nI_toInt (by omega)]; omega
  obtain ⟨sc, hsc⟩ := Shp_I hI.s (o := 68) (n := 6) rfl rfl
  obtain ⟨F, hF, hFi⟩ := hI.m.im
  obtain ⟨f, hf, hfi⟩ := hI.m.mk
  have fk : f k = 1 := by rw [hfi k hk, hm]; rfl
  obtain ⟨q0, q1, q2, q3, q4, q5, q6, q7, q8⟩ := hFi k hk t hm
  have v0 : vp_in (0 : Int32) 6 := vp_in_nI (n := 0) (by decide) (by decide)
  have y0 : (0 : Int32).toNatClampNeg = 0 := by decide
  have v1 : vp_in (1 : Int32) 6 := vp_in_nI (n := 1) (by decide) (by decide)
  have y1 : (1 : Int32).toNatClampNeg = 1 := by decide
  have v2 : vp_in (2 : Int32) 6 := vp_in_nI (n := 2) (by decide) (by decide)
  have y2 : (2 : Int32).toNatClampNeg = 2 := by decide
  have v3 : vp_in (3 : Int32) 6 := vp_in_nI (n := 3) (by decide) (by decide)
  have y3 : (3 : Int32).toNatClampNeg = 3 := by decide
  have v4 : vp_in (4 : Int32) 6 := vp_in_nI (n := 4) (by decide) (by decide)
  have y4 : (4 : Int32).toNatClampNeg = 4 := by decide
  have v5 : vp_in (5 : Int32) 6 := vp_in_nI (n := 5) (by decide) (by decide)
  have y5 : (5 : Int32).toNatClampNeg = 5 := by decide
  have vk : vp_in (nI k) 4 := vp_in_nI hk (by decide)
  have vk' : (nI k).toNatClampNeg = k := nI_clamp (by omega)
  have hB : G.1 ≤ G.1 + 40 := by omega
  have ol : ∀ h e, oF (hup h (G.1 + 40) (.inr (11, e))) (G.1 + 40) 11 = some e := fun h e => oF_of hup_eq
  have m1 := aI_41 hf
  simp only [q_X11_back_0, q_X11_back_1, q_X11_back_2, q_X11_back_3, q_X11_back_6, q_X11_back_9, q_X11_back_12, q_X11_back_13, q_X11_back_16, q_X11_back_17, q_X11_back_18, q_X11_back_21, q_X11_back_22, q_X11_back_23, q_X11_back_24, q_X11_back_25, ldI_s, ldJ_s, ldA_r, ldA_n, ob_s, List.getElem?_cons_zero, List.getElem?_cons_succ, List.length_cons, List.length_nil, gx_0, gx_1, gx_2, gx_3, gx_4, gx_5, gx_6, gx_7, gx_8, gx_9, gx_10, gx_11, Nat.reduceAdd, Nat.reduceLT, Nat.reduceLeDiff, Nat.reduceSub, Nat.lt_irrefl, true_and, and_true, Option.toList_some, Option.toList_none, List.cons_append, List.nil_append, csum_nil, csum_int, csum_long, csum_ref, csum_null, nar_int, nar_long, nar_ref, nar_null, nar_refA, nar_nullA, fit_int, fit_long, fit_ref, fit_refA, fit_null, fit_nullA, stL_0, stL_1i, stL_1r, stL_1n, stL_1u, stL_2i, stL_2r, stL_2n, stL_2u, stL_3i, stL_3r, stL_3n, stL_3u, stL_4i, stL_4r, stL_4n, stL_4u, stL_5i, stL_5r, stL_5n, stL_5u, stL_6i, stL_6r, stL_6n, stL_6u, stL_7i, stL_7r, stL_7n, stL_7u, stL_8i, stL_8r, stL_8n, stL_8u, stL_9i, stL_9r, stL_9n, stL_9u, stL_10i, stL_10r, stL_10n, stL_10u, stL_11i, stL_11r, stL_11n, stL_11u, stJ_0, stJ_1i, stJ_1r, stJ_1n, stJ_1u, stJ_2i, stJ_2r, stJ_2n, stJ_2u, stJ_3i, stJ_3r, stJ_3n, stJ_3u, stJ_4i, stJ_4r, stJ_4n, stJ_4u, stJ_5i, stJ_5r, stJ_5n, stJ_5u, stJ_6i, stJ_6r, stJ_6n, stJ_6u, stJ_7i, stJ_7r, stJ_7n, stJ_7u, stJ_8i, stJ_8r, stJ_8n, stJ_8u, stJ_9i, stJ_9r, stJ_9n, stJ_9u, stJ_10i, stJ_10r, stJ_10n, stJ_10u, ↓reduceIte, cat_int, cat_ref, cat_null, cat_long, va_rf_s, va_rf_n, nz_bI, nz_0, nz_1, bI_0, pd_1, pp_1, pq_1, pd_2, pp_2, pq_2, pd_3, pp_3, pq_3, pd_4, pp_4, pq_4, pd_5, pp_5, pq_5, pd_6, pp_6, pq_6, pd_7, pp_7, pq_7, pd_8, pp_8, pq_8, pd_9, pp_9, pq_9, pd_10, pp_10, pq_10, pd_11, pp_11, pq_11, pd_12, pp_12, pq_12, pd_13, pp_13, pq_13, pd_14, pp_14, pq_14, pd_15, pp_15, pq_15, pd_16, pp_16, pq_16, pd_17, pp_17, pq_17, pd_18, pp_18, pq_18, pd_19, pp_19, pq_19, pd_20, pp_20, pq_20, pd_21, pp_21, pq_21, pd_22, pp_22, pq_22, pd_23, pp_23, pq_23, pd_24, pp_24, pq_24, Nat.add_zero, Nat.zero_le, Nat.le_refl, eq_self, Option.some.injEq, exists_eq', fs_0, fs_1, fs_2, fs_3, fs_4, fs_5, fs_6, fs_7, fs_8, fs_9, fs_10, fs_11, s_in, Int32.toInt_toInt64, t64_0, t64_3, c, and_self, bI_t (show True from trivial), show ¬ (1 : Int32) = 0 by decide, ho, mo_g0, mo_g1, mo_g2, mo_g3, mo_g4, mo_g5, mo_g6, mo_g7, mo_g8, mo_g9, mo_g10, mo_g11, mo_g12, mo_g13, mo_g14, mo_g15, mo_g16, mo_g17, mo_g18, mo_g19, mo_g20, mo_g21, mo_g22, mo_g23, mo_g24, mo_g25, mo_g26, mo_g27, mo_g28, mo_g29, mo_g30, mo_g31, mo_g32, mo_g33, mo_g34, mo_g35, mo_g36, mo_g37, mo_g38, mo_g39, mo_g40, mo_g41, mo_g42, mo_g43, mo_g44, mo_g45, mo_g46, mo_g47, mo_g48, mo_g49, mo_g50, mo_s0, mo_s1, mo_s2, mo_s3, mo_s4, mo_s5, mo_s6, mo_s13, mo_s14, mo_s15, mo_s16, mo_s17, mo_s18, mo_s19, mo_s20, mo_s38, mo_s39, mo_s40, mo_s41, mo_s43, mo_s49, mo_s50, mo_len, m1, hf, Option.orElse, vk, vk', fk, hB, nz_1, fit_b1]
  have key : ∀ h3, oF h3 (G.1 + 40) 11 = some (mo G.1 s.v0 τ.t.now (nI τ.t.n) τ.t.pr τ.t.bt τ.t.ft τ.t.st (nI τ.tp) s.v14 s.v15 (nI τ.ln) s.v17 s.v18 s.v19 s.v20 s.v38 s.v39 s.v40 s.v41 s.v43  s.v49 1) → FRm G.1 h h3 (fun _ => False) → Rn G (d + 3) mX11_back 28 [some (.ref (G.1 + 40)), some (.int (nI k))] [] h3 Q := fun h3 o3 f3 => by
    have x3 : ∃ fs, oF h3 (G.1 + 40) 11 = some fs := ⟨_, o3⟩
    have M3 : ∀ q, q ≠ G.1 + 40 → h3.2.1 q = h.2.1 q := fun q b => f3.2.2 q b (fun z => z)
    have hM := hI.m
    simp only [q_X11_back_28, q_X11_back_29, q_X11_back_30, ldI_s, ldJ_s, ldA_r, ldA_n, ob_s, List.getElem?_cons_zero, List.getElem?_cons_succ, List.length_cons, List.length_nil, gx_0, gx_1, gx_2, gx_3, gx_4, gx_5, gx_6, gx_7, gx_8, gx_9, gx_10, gx_11, Nat.reduceAdd, Nat.reduceLT, Nat.reduceLeDiff, Nat.reduceSub, Nat.lt_irrefl, true_and, and_true, Option.toList_some, Option.toList_none, List.cons_append, List.nil_append, csum_nil, csum_int, csum_long, csum_ref, csum_null, nar_int, nar_long, nar_ref, nar_null, nar_refA, nar_nullA, fit_int, fit_long, fit_ref, fit_refA, fit_null, fit_nullA, stL_0, stL_1i, stL_1r, stL_1n, stL_1u, stL_2i, stL_2r, stL_2n, stL_2u, stL_3i, stL_3r, stL_3n, stL_3u, stL_4i, stL_4r, stL_4n, stL_4u, stL_5i, stL_5r, stL_5n, stL_5u, stL_6i, stL_6r, stL_6n, stL_6u, stL_7i, stL_7r, stL_7n, stL_7u, stL_8i, stL_8r, stL_8n, stL_8u, stL_9i, stL_9r, stL_9n, stL_9u, stL_10i, stL_10r, stL_10n, stL_10u, stL_11i, stL_11r, stL_11n, stL_11u, stJ_0, stJ_1i, stJ_1r, stJ_1n, stJ_1u, stJ_2i, stJ_2r, stJ_2n, stJ_2u, stJ_3i, stJ_3r, stJ_3n, stJ_3u, stJ_4i, stJ_4r, stJ_4n, stJ_4u, stJ_5i, stJ_5r, stJ_5n, stJ_5u, stJ_6i, stJ_6r, stJ_6n, stJ_6u, stJ_7i, stJ_7r, stJ_7n, stJ_7u, stJ_8i, stJ_8r, stJ_8n, stJ_8u, stJ_9i, stJ_9r, stJ_9n, stJ_9u, stJ_10i, stJ_10r, stJ_10n, stJ_10u, ↓reduceIte, cat_int, cat_ref, cat_null, cat_long, va_rf_s, va_rf_n, nz_bI, nz_0, nz_1, bI_0, pd_1, pp_1, pq_1, pd_2, pp_2, pq_2, pd_3, pp_3, pq_3, pd_4, pp_4, pq_4, pd_5, pp_5, pq_5, pd_6, pp_6, pq_6, pd_7, pp_7, pq_7, pd_8, pp_8, pq_8, pd_9, pp_9, pq_9, pd_10, pp_10, pq_10, pd_11, pp_11, pq_11, pd_12, pp_12, pq_12, pd_13, pp_13, pq_13, pd_14, pp_14, pq_14, pd_15, pp_15, pq_15, pd_16, pp_16, pq_16, pd_17, pp_17, pq_17, pd_18, pp_18, pq_18, pd_19, pp_19, pq_19, pd_20, pp_20, pq_20, pd_21, pp_21, pq_21, pd_22, pp_22, pq_22, pd_23, pp_23, pq_23, pd_24, pp_24, pq_24, Nat.add_zero, Nat.zero_le, Nat.le_refl, eq_self, Option.some.injEq, exists_eq', x3]
    have kk := s_carsB0 (d := d + 1) (v49 := s.v49) (Q := fun r h' => Rn G (d + 3) mX11_back 33 [some (.ref (G.1 + 40)), some (.int (nI k))] (r.toList ++ []) h' Q) hk o3 (by rw [aI_c (M3 _ (by omega))]; exact hsc) (by rw [aI_c (M3 _ (by omega))]; exact hM.c) (by rw [aI_c (M3 _ (by omega))]; exact hM.w) (by rw [aI_c (M3 _ (by omega))]; exact hM.ho) (by rw [aI_c (M3 _ (by omega))]; exact hM.nb) (by rw [aI_c (M3 _ (by omega))]; exact hM.bk) (by rw [aI_c (M3 _ (by omega))]; exact hM.fm) (by rw [aI_c (M3 _ (by omega))]; exact hF) (fun h4 o4 w1 w2 w3 w4 w5 w6 w7 f4 => ?_)
    · exact kk
    have f04 := FRm_t f3 f4
    have M4 : ∀ q, q ≠ G.1 + 40 → q ≠ G.1 + 68 → ¬ (G.1 + 41 ≤ q ∧ q ≤ G.1 + 46) → h4.2.1 q = h.2.1 q := fun q a b c => f04.2.2 q a (fun z => z.elim (fun y => y) (fun y => y.elim b c))
    obtain ⟨sc', hs', z0, z1, z2, z3, z4, z5⟩ : ∃ sc', aI h4 (G.1 + 68) 0 = some (6, sc') ∧ sc' 0 = t.now ∧ sc' 1 = nI t.n ∧ sc' 2 = t.pr ∧ sc' 3 = t.bt ∧ sc' 4 = t.ft ∧ sc' 5 = t.st := by
      refine ⟨_, w1, ?_, ?_, ?_, ?_, ?_, ?_⟩
      · rw [mrg_t (by decide)]; exact q0
      · rw [mrg_t (by decide)]; exact q1
      · rw [mrg_t (by decide)]; exact q2
      · rw [mrg_t (by decide)]; exact q3
      · rw [mrg_t (by decide)]; exact q4
      · rw [mrg_t (by decide)]; exact q5
    rw [mrg_c (g := t.c) (fun j hj => (q6 j hj).1)] at w2
    rw [mrg_c (g := t.w) (fun j hj => (q6 j hj).2.1)] at w3
    rw [mrg_c (g := t.ho) (fun j hj => (q6 j hj).2.2.1)] at w4
    rw [mrg_c (g := t.nb) (fun j hj => (q6 j hj).2.2.2)] at w5
    rw [mrg_c (g := t.bk) (fun j hj => q7 j hj)] at w6
    rw [mrg_c (g := t.fm) (fun j hj => q8 j hj)] at w7
    generalize nI (31400 * k + 31302) = w49 at o4
    have a8 : ∀ e, aI (hup h4 (G.1 + 40) e) (G.1 + 68) 0 = some (6, sc') := fun e => by rw [aI_c (hup_ne (by omega))]; exact hs'
    have fin : ∀ h5, oF h5 (G.1 + 40) 11 = some (mo G.1 s.v0 t.now (nI t.n) t.pr t.bt t.ft t.st (nI τ.tp) s.v14 s.v15 (nI τ.ln) s.v17 s.v18 s.v19 s.v20 s.v38 s.v39 s.v40 s.v41 s.v43 w49 1) → FRm G.1 h4 h5 (fun _ => False) → Q (some (.int t.now)) h5 := fun h5 o5 f5 => by
      have M5 : ∀ q, q ≠ G.1 + 40 → h5.2.1 q = h4.2.1 q := fun q b => f5.2.2 q b (fun z => z)
      refine hq h5 (Iv_MS hI (f5.1.trans f04.1) (f5.2.1.trans f04.2.1) (fun q a b => by
        unfold MF at a
        rw [M5 _ (by omega), M4 _ (by omega) b (by omega)]) ⟨sc', by rw [aI_c (M5 _ (by omega))]; exact hs'⟩ ?_)
      have M6 : ∀ q, q ≠ G.1 + 40 → q ≠ G.1 + 68 → ¬ (G.1 + 41 ≤ q ∧ q ≤ G.1 + 46) → h5.2.1 q = h.2.1 q := fun q a b c => (M5 q a).trans (M4 q a b c)
      refine ⟨⟨mkMs s.v0 s.v14 s.v15 s.v17 s.v18 s.v19 s.v20 s.v38 s.v39 s.v40 s.v41 s.v43 w49 1, o5⟩, ?_, ?_, ?_, ?_, ?_, ?_, ?_, ?_, ⟨F, ?_, hFi⟩, ⟨f, ?_, hfi⟩⟩
      · rw [aI_c (M5 _ (by omega))]; exact w2
      · rw [aI_c (M5 _ (by omega))]; exact w3
      · rw [aI_c (M5 _ (by omega))]; exact w4
      · rw [aI_c (M5 _ (by omega))]; exact w5
      · rw [aI_c (M5 _ (by omega))]; exact w6
      · rw [aI_c (M5 _ (by omega))]; exact w7
      · rw [aI_c (M6 _ (by omega) (by omega) (by omega))]; exact hM.tb
      · rw [aI_c (M6 _ (by omega) (by omega) (by omega)), aI_c (M6 _ (by omega) (by omega) (by omega)), aI_c (M6 _ (by omega) (by omega) (by omega)), aI_c (M6 _ (by omega) (by omega) (by omega)), aI_c (M6 _ (by omega) (by omega) (by omega)), aI_c (M6 _ (by omega) (by omega) (by omega)), aI_c (M6 _ (by omega) (by omega) (by omega))]; exact hM.lw
      · rw [aI_c (M6 _ (by omega) (by omega) (by omega))]; exact hF
      · rw [aI_c (M6 _ (by omega) (by omega) (by omega))]; exact hf
    simp only [q_X11_back_33, q_X11_back_34, q_X11_back_35, q_X11_back_38, q_X11_back_39, q_X11_back_40, q_X11_back_43, q_X11_back_44, q_X11_back_45, q_X11_back_48, q_X11_back_49, q_X11_back_50, q_X11_back_53, q_X11_back_54, q_X11_back_55, q_X11_back_58, q_X11_back_59, q_X11_back_60, q_X11_back_63, q_X11_back_64, q_X11_back_65, q_X11_back_68, q_X11_back_69, q_X11_back_70, q_X11_back_73, q_X11_back_74, q_X11_back_75, q_X11_back_78, q_X11_back_79, q_X11_back_80, q_X11_back_83, q_X11_back_84, q_X11_back_85, q_X11_back_88, q_X11_back_89, q_X11_back_90, q_X11_back_93, q_X11_back_94, q_X11_back_97, ldI_s, ldJ_s, ldA_r, ldA_n, ob_s, List.getElem?_cons_zero, List.getElem?_cons_succ, List.length_cons, List.length_nil, gx_0, gx_1, gx_2, gx_3, gx_4, gx_5, gx_6, gx_7, gx_8, gx_9, gx_10, gx_11, Nat.reduceAdd, Nat.reduceLT, Nat.reduceLeDiff, Nat.reduceSub, Nat.lt_irrefl, true_and, and_true, Option.toList_some, Option.toList_none, List.cons_append, List.nil_append, csum_nil, csum_int, csum_long, csum_ref, csum_null, nar_int, nar_long, nar_ref, nar_null, nar_refA, nar_nullA, fit_int, fit_long, fit_ref, fit_refA, fit_null, fit_nullA, stL_0, stL_1i, stL_1r, stL_1n, stL_1u, stL_2i, stL_2r, stL_2n, stL_2u, stL_3i, stL_3r, stL_3n, stL_3u, stL_4i, stL_4r, stL_4n, stL_4u, stL_5i, stL_5r, stL_5n, stL_5u, stL_6i, stL_6r, stL_6n, stL_6u, stL_7i, stL_7r, stL_7n, stL_7u, stL_8i, stL_8r, stL_8n, stL_8u, stL_9i, stL_9r, stL_9n, stL_9u, stL_10i, stL_10r, stL_10n, stL_10u, stL_11i, stL_11r, stL_11n, stL_11u, stJ_0, stJ_1i, stJ_1r, stJ_1n, stJ_1u, stJ_2i, stJ_2r, stJ_2n, stJ_2u, stJ_3i, stJ_3r, stJ_3n, stJ_3u, stJ_4i, stJ_4r, stJ_4n, stJ_4u, stJ_5i, stJ_5r, stJ_5n, stJ_5u, stJ_6i, stJ_6r, stJ_6n, stJ_6u, stJ_7i, stJ_7r, stJ_7n, stJ_7u, stJ_8i, stJ_8r, stJ_8n, stJ_8u, stJ_9i, stJ_9r, stJ_9n, stJ_9u, stJ_10i, stJ_10r, stJ_10n, stJ_10u, ↓reduceIte, cat_int, cat_ref, cat_null, cat_long, va_rf_s, va_rf_n, nz_bI, nz_0, nz_1, bI_0, pd_1, pp_1, pq_1, pd_2, pp_2, pq_2, pd_3, pp_3, pq_3, pd_4, pp_4, pq_4, pd_5, pp_5, pq_5, pd_6, pp_6, pq_6, pd_7, pp_7, pq_7, pd_8, pp_8, pq_8, pd_9, pp_9, pq_9, pd_10, pp_10, pq_10, pd_11, pp_11, pq_11, pd_12, pp_12, pq_12, pd_13, pp_13, pq_13, pd_14, pp_14, pq_14, pd_15, pp_15, pq_15, pd_16, pp_16, pq_16, pd_17, pp_17, pq_17, pd_18, pp_18, pq_18, pd_19, pp_19, pq_19, pd_20, pp_20, pq_20, pd_21, pp_21, pq_21, pd_22, pp_22, pq_22, pd_23, pp_23, pq_23, pd_24, pp_24, pq_24, Nat.add_zero, Nat.zero_le, Nat.le_refl, eq_self, Option.some.injEq, exists_eq', o4, ol, mo_g0, mo_g1, mo_g2, mo_g3, mo_g4, mo_g5, mo_g6, mo_g7, mo_g8, mo_g9, mo_g10, mo_g11, mo_g12, mo_g13, mo_g14, mo_g15, mo_g16, mo_g17, mo_g18, mo_g19, mo_g20, mo_g21, mo_g22, mo_g23, mo_g24, mo_g25, mo_g26, mo_g27, mo_g28, mo_g29, mo_g30, mo_g31, mo_g32, mo_g33, mo_g34, mo_g35, mo_g36, mo_g37, mo_g38, mo_g39, mo_g40, mo_g41, mo_g42, mo_g43, mo_g44, mo_g45, mo_g46, mo_g47, mo_g48, mo_g49, mo_g50, mo_s0, mo_s1, mo_s2, mo_s3, mo_s4, mo_s5, mo_s6, mo_s13, mo_s14, mo_s15, mo_s16, mo_s17, mo_s18, mo_s19, mo_s20, mo_s38, mo_s39, mo_s40, mo_s41, mo_s43, mo_s49, mo_s50, mo_len, hs', a8, an_I hs', an_I (a8 _), false_and, v0, v1, v2, v3, v4, v5, y0, y1, y2, y3, y4, y5, z0, z1, z2, z3, z4, z5, hB, hup_up]
    exact fin _ (ol _ _) ⟨rfl, rfl, fun q a _ => hup_ne a⟩
  exact key _ (ol _ _) ⟨rfl, rfl, fun q a _ => hup_ne a⟩
theorem M_back0 (hI : Iv σ τ al G h) {x : Int32} (hx : ¬ (0 ≤ x.toInt ∧ x.toInt ≤ 3) ∨ ∃ k, k < 4 ∧ x = nI k ∧ τ.im k = none) (hq : Q (some (.int (-1))) h) : Rn G (d + 3) mX11_back 0 [some (.ref (G.1 + 40)), some (.int x)] [] h Q := by
  obtain ⟨s, ho⟩ := hI.m.o
  rcases hx with hx | ⟨k, hk, rfl, hm⟩
  · simp only [q_X11_back_0, q_X11_back_1, q_X11_back_2, q_X11_back_3, q_X11_back_6, q_X11_back_9, q_X11_back_12, q_X11_back_13, q_X11_back_16, q_X11_back_17, q_X11_back_18, q_X11_back_21, q_X11_back_22, ldI_s, ldJ_s, ldA_r, ldA_n, ob_s, List.getElem?_cons_zero, List.getElem?_cons_succ, List.length_cons, List.length_nil, gx_0, gx_1, gx_2, gx_3, gx_4, gx_5, gx_6, gx_7, gx_8, gx_9, gx_10, gx_11, Nat.reduceAdd, Nat.reduceLT, Nat.reduceLeDiff, Nat.reduceSub, Nat.lt_irrefl, true_and, and_true, Option.toList_some, Option.toList_none, List.cons_append, List.nil_append, csum_nil, csum_int, csum_long, csum_ref, csum_null, nar_int, nar_long, nar_ref, nar_null, nar_refA, nar_nullA, fit_int, fit_long, fit_ref, fit_refA, fit_null, fit_nullA, stL_0, stL_1i, stL_1r, stL_1n, stL_1u, stL_2i, stL_2r, stL_2n, stL_2u, stL_3i, stL_3r, stL_3n, stL_3u, stL_4i, stL_4r, stL_4n, stL_4u, stL_5i, stL_5r, stL_5n, stL_5u, stL_6i, stL_6r, stL_6n, stL_6u, stL_7i, stL_7r, stL_7n, stL_7u, stL_8i, stL_8r, stL_8n, stL_8u, stL_9i, stL_9r, stL_9n, stL_9u, stL_10i, stL_10r, stL_10n, stL_10u, stL_11i, stL_11r, stL_11n, stL_11u, stJ_0, stJ_1i, stJ_1r, stJ_1n, stJ_1u, stJ_2i, stJ_2r, stJ_2n, stJ_2u, stJ_3i, stJ_3r, stJ_3n, stJ_3u, stJ_4i, stJ_4r, stJ_4n, stJ_4u, stJ_5i, stJ_5r, stJ_5n, stJ_5u, stJ_6i, stJ_6r, stJ_6n, stJ_6u, stJ_7i, stJ_7r, stJ_7n, stJ_7u, stJ_8i, stJ_8r, stJ_8n, stJ_8u, stJ_9i, stJ_9r, stJ_9n, stJ_9u, stJ_10i, stJ_10r, stJ_10n, stJ_10u, ↓reduceIte, cat_int, cat_ref, cat_null, cat_long, va_rf_s, va_rf_n, nz_bI, nz_0, nz_1, bI_0, pd_1, pp_1, pq_1, pd_2, pp_2, pq_2, pd_3, pp_3, pq_3, pd_4, pp_4, pq_4, pd_5, pp_5, pq_5, pd_6, pp_6, pq_6, pd_7, pp_7, pq_7, pd_8, pp_8, pq_8, pd_9, pp_9, pq_9, pd_10, pp_10, pq_10, pd_11, pp_11, pq_11, pd_12, pp_12, pq_12, pd_13, pp_13, pq_13, pd_14, pp_14, pq_14, pd_15, pp_15, pq_15, pd_16, pp_16, pq_16, pd_17, pp_17, pq_17, pd_18, pp_18, pq_18, pd_19, pp_19, pq_19, pd_20, pp_20, pq_20, pd_21, pp_21, pq_21, pd_22, pp_22, pq_22, pd_23, pp_23, pq_23, pd_24, pp_24, pq_24, Nat.add_zero, Nat.zero_le, Nat.le_refl, eq_self, Option.some.injEq, exists_eq', s_in, Int32.toInt_toInt64, t64_0, t64_3, hx, bI_f (show ¬ False from id)]
    exact hq
  · have c : 0 ≤ (nI k).toInt ∧ (nI k).toInt ≤ 3 := by rw [nI_toInt (by omega)]; omega
    obtain ⟨f, hf, hfi⟩ := hI.m.mk
    have fk : f k = 0 := by rw [hfi k hk, hm]; rfl
    have vk : vp_in (nI k) 4 := vp_in_nI hk (by decide)
    have vk' : (nI k).toNatClampNeg = k := nI_clamp (by omega)
    have m1 := aI_41 hf
    simp only [q_X11_back_0, q_X11_back_1, q_X11_back_2, q_X11_back_3, q_X11_back_6, q_X11_back_9, q_X11_back_12, q_X11_back_13, q_X11_back_16, q_X11_back_17, q_X11_back_18, q_X11_back_21, q_X11_back_22, ldI_s, ldJ_s, ldA_r, ldA_n, ob_s, List.getElem?_cons_zero, List.getElem?_cons_succ, List.length_cons, List.length_nil, gx_0, gx_1, gx_2, gx_3, gx_4, gx_5, gx_6, gx_7, gx_8, gx_9, gx_10, gx_11, Nat.reduceAdd, Nat.reduceLT, Nat.reduceLeDiff, Nat.reduceSub, Nat.lt_irrefl, true_and, and_true, Option.toList_some, Option.toList_none, List.cons_append, List.nil_append, csum_nil, csum_int, csum_long, csum_ref, csum_null, nar_int, nar_long, nar_ref, nar_null, nar_refA, nar_nullA, fit_int, fit_long, fit_ref, fit_refA, fit_null, fit_nullA, stL_0, stL_1i, stL_1r, stL_1n, stL_1u, stL_2i, stL_2r, stL_2n, stL_2u, stL_3i, stL_3r, stL_3n, stL_3u, stL_4i, stL_4r, stL_4n, stL_4u, stL_5i, stL_5r, stL_5n, stL_5u, stL_6i, stL_6r, stL_6n, stL_6u, stL_7i, stL_7r, stL_7n, stL_7u, stL_8i, stL_8r, stL_8n, stL_8u, stL_9i, stL_9r, stL_9n, stL_9u, stL_10i, stL_10r, stL_10n, stL_10u, stL_11i, stL_11r, stL_11n, stL_11u, stJ_0, stJ_1i, stJ_1r, stJ_1n, stJ_1u, stJ_2i, stJ_2r, stJ_2n, stJ_2u, stJ_3i, stJ_3r, stJ_3n, stJ_3u, stJ_4i, stJ_4r, stJ_4n, stJ_4u, stJ_5i, stJ_5r, stJ_5n, stJ_5u, stJ_6i, stJ_6r, stJ_6n, stJ_6u, stJ_7i, stJ_7r, stJ_7n, stJ_7u, stJ_8i, stJ_8r, stJ_8n, stJ_8u, stJ_9i, stJ_9r, stJ_9n, stJ_9u, stJ_10i, stJ_10r, stJ_10n, stJ_10u, ↓reduceIte, cat_int, cat_ref, cat_null, cat_long, va_rf_s, va_rf_n, nz_bI, nz_0, nz_1, bI_0, pd_1, pp_1, pq_1, pd_2, pp_2, pq_2, pd_3, pp_3, pq_3, pd_4, pp_4, pq_4, pd_5, pp_5, pq_5, pd_6, pp_6, pq_6, pd_7, pp_7, pq_7, pd_8, pp_8, pq_8, pd_9, pp_9, pq_9, pd_10, pp_10, pq_10, pd_11, pp_11, pq_11, pd_12, pp_12, pq_12, pd_13, pp_13, pq_13, pd_14, pp_14, pq_14, pd_15, pp_15, pq_15, pd_16, pp_16, pq_16, pd_17, pp_17, pq_17, pd_18, pp_18, pq_18, pd_19, pp_19, pq_19, pd_20, pp_20, pq_20, pd_21, pp_21, pq_21, pd_22, pp_22, pq_22, pd_23, pp_23, pq_23, pd_24, pp_24, pq_24, Nat.add_zero, Nat.zero_le, Nat.le_refl, eq_self, Option.some.injEq, exists_eq', s_in, Int32.toInt_toInt64, t64_0, t64_3, c, and_self, bI_t (show True from trivial), show ¬ (1 : Int32) = 0 by decide, ho, mq, mo_g0, mo_g1, mo_g2, mo_g3, mo_g4, mo_g5, mo_g6, mo_g7, mo_g8, mo_g9, mo_g10, mo_g11, mo_g12, mo_g13, mo_g14, mo_g15, mo_g16, mo_g17, mo_g18, mo_g19, mo_g20, mo_g21, mo_g22, mo_g23, mo_g24, mo_g25, mo_g26, mo_g27, mo_g28, mo_g29, mo_g30, mo_g31, mo_g32, mo_g33, mo_g34, mo_g35, mo_g36, mo_g37, mo_g38, mo_g39, mo_g40, mo_g41, mo_g42, mo_g43, mo_g44, mo_g45, mo_g46, mo_g47, mo_g48, mo_g49, mo_g50, mo_s0, mo_s1, mo_s2, mo_s3, mo_s4, mo_s5, mo_s6, mo_s13, mo_s14, mo_s15, mo_s16, mo_s17, mo_s18, mo_s19, mo_s20, mo_s38, mo_s39, mo_s40, mo_s41, mo_s43, mo_s49, mo_s50, mo_len, m1, hf, Option.orElse, vk, vk', fk]
    exact hq
end MBK
def fImg (x : Int32) (σ : Sg) : Int32 × Sg := if 0 ≤ x.toInt ∧ x.toInt ≤ 3 then (σ.t.now, σ.sI x.toNatClampNeg σ.t) else (-1, σ)
theorem OK_sI {σ : Sg} (hO : OK σ) {k : Nat} {t : Tn} (hT : TnOK t) : OK (σ.sI k t) := by
  refine ⟨hO.t, fun i hi u hu => ?_, hO.tp, hO.ln, hO.lw, hO.tb⟩
  have hu' : (if i = k then some t else σ.im i) = some u := hu
  by_cases c : i = k
  · rw [if_pos c] at hu'; cases hu'; exact hT
  · rw [if_neg c] at hu'; exact hO.im i hi u hu'
theorem P_image {G : aG} {d : Nat} {x : Int32} : PRi G (Inv G) (d + 8) mX10_image mX11_image [.int x] := by
  refine pair_i (fImg x) ?_ ?_ ?_
  · intro σ hO
    unfold fImg
    split
    · exact OK_sI hO hO.t
    · exact hO
  · intro σ al h Q hO hI hq
    show Rn G (d + 8) mX10_image 0 [some (.ref G.1), some (.int x)] [] h Q
    unfold fImg at hq
    by_cases c : 0 ≤ x.toInt ∧ x.toInt ≤ 3
    · rw [if_pos c] at hq
      obtain ⟨k, hk, rfl⟩ := in_n (m := 3) (by decide) c
      rw [nI_clamp (n := k) (by omega)] at hq
      exact X_image (d := d + 2) hI hO (by omega) hq
    · rw [if_neg c] at hq
      exact X_image0 hI c (hq al h hI)
  · intro σ ς al h Q hO hI hq
    obtain ⟨s0, ho⟩ := hI.m.o
    show Rn G (d + 8) mX11_image 0 [some (.ref (G.1 + 40)), some (.int x)] [] h Q
    unfold fImg at hq
    by_cases c : 0 ≤ x.toInt ∧ x.toInt ≤ 3
    · rw [if_pos c] at hq
      obtain ⟨k, hk, rfl⟩ := in_n (m := 3) (by decide) c
      rw [nI_clamp (n := k) (by omega)] at hq
      exact M_image (d := d + 5) hI (by omega) hq
    · rw [if_neg c] at hq
      exact M_image0 (d := d + 5) ho c (hq h hI)
def fBck (x : Int32) (σ : Sg) : Int32 × Sg := if 0 ≤ x.toInt ∧ x.toInt ≤ 3 then (match σ.im x.toNatClampNeg with | some t => (t.now, σ.sT (bkT σ.t t)) | none => (-1, σ)) else (-1, σ)
theorem P_back {G : aG} {d : Nat} {x : Int32} : PRi G (Inv G) (d + 8) mX10_back mX11_back [.int x] := by
  refine pair_i (fBck x) ?_ ?_ ?_
  · intro σ hO
    unfold fBck
    by_cases c : 0 ≤ x.toInt ∧ x.toInt ≤ 3
    · rw [if_pos c]
      obtain ⟨k, hk, rfl⟩ := in_n (m := 3) (by decide) c
      rw [nI_clamp (n := k) (by omega)]
      cases hm : σ.im k with
      | some t => exact ⟨TnC_OK bkT_C (hO.im k (by omega) t hm), hO.im, hO.tp, hO.ln, hO.lw, hO.tb⟩
      | none => exact hO
    · rw [if_neg c]; exact hO
  · intro σ al h Q hO hI hq
    show Rn G (d + 8) mX10_back 0 [some (.ref G.1), some (.int x)] [] h Q
    unfold fBck at hq
    by_cases c : 0 ≤ x.toInt ∧ x.toInt ≤ 3
    · rw [if_pos c] at hq
      obtain ⟨k, hk, rfl⟩ := in_n (m := 3) (by decide) c
      rw [nI_clamp (n := k) (by omega)] at hq
      cases hm : σ.im k with
      | some t =>
        rw [hm] at hq
        exact X_back (d := d + 2) hI hO (by omega) hm hq
      | none =>
        rw [hm] at hq
        exact X_back0 hI (Or.inr ⟨k, by omega, rfl, hm⟩) (hq al h hI)
    · rw [if_neg c] at hq
      exact X_back0 hI (Or.inl c) (hq al h hI)
  · intro σ ς al h Q hO hI hq
    show Rn G (d + 8) mX11_back 0 [some (.ref (G.1 + 40)), some (.int x)] [] h Q
    unfold fBck at hq
    by_cases c : 0 ≤ x.toInt ∧ x.toInt ≤ 3
    · rw [if_pos c] at hq
      obtain ⟨k, hk, rfl⟩ := in_n (m := 3) (by decide) c
      rw [nI_clamp (n := k) (by omega)] at hq
      cases hm : σ.im k with
      | some t =>
        rw [hm] at hq
        exact M_back (d := d + 5) hI hO (by omega) hm hq
      | none =>
        rw [hm] at hq
        exact M_back0 (d := d + 5) hI (Or.inr ⟨k, by omega, rfl, hm⟩) (hq h hI)
    · rw [if_neg c] at hq
      exact M_back0 (d := d + 5) hI (Or.inl c) (hq h hI)
