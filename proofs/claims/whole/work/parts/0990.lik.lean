/-! one town becomes like another -/
theorem e_acopy {G : aG} {d : Nat} {M : aM} {pc : Nat} {ls : aL} {h : aH} {Q : aQ} {idx a b t n0 n1 : Nat} {f g : Nat → Int32} {sp dp n : Int32} {rest : List Value} (hd : decode M.2.2.1 pc = .ok (.invokestatic idx, 3)) (h1 : (idx == pAc M.1 && idx != 0) = true) (hd1 : 1 ≤ d) (hc : csum rest ≤ 8) (ht : t = 0 ∨ t = 1 ∨ t = 2) (ha : aI h a t = some (n0, f)) (hb : aI h b t = some (n1, g)) (hB : G.1 ≤ b) (s0 : ¬ sp < 0) (d0 : ¬ dp < 0) (nn : ¬ n < 0) (l0 : sp.toNatClampNeg + n.toNatClampNeg ≤ n0) (l1 : dp.toNatClampNeg + n.toNatClampNeg ≤ n1)
    (fb : t = 1 → ∀ i, i < n.toNatClampNeg → fits .byte (.int (f (sp.toNatClampNeg + i))) = true) (fs : t = 2 → ∀ i, i < n.toNatClampNeg → fits .short (.int (f (sp.toNatClampNeg + i))) = true)
    (hw : Rn G d M (pc + 3) ls rest (hup h b (.inl (t, n1, .inl (va_cpy f g sp.toNatClampNeg dp.toNatClampNeg n.toNatClampNeg)))) Q) : Rn G d M pc ls (.int n :: .int dp :: .ref b :: .int sp :: .ref a :: rest) h Q := by
  refine Eq.mpr (e_of hd rfl rfl) ?_
  have n1' : idx = pAc M.1 ∧ idx ≠ 0 := by simpa using h1
  show (if idx = pAc M.1 ∧ idx ≠ 0 then (1 ≤ d ∧ csum rest ≤ 8 ∧ ∃ t f n0 g n1, (t = 0 ∨ t = 1 ∨ t = 2) ∧ aI h a t = some (n0, f) ∧ aI h b t = some (n1, g) ∧ G.1 ≤ b ∧ ¬ sp < 0 ∧ ¬ dp < 0 ∧ ¬ n < 0 ∧ sp.toNatClampNeg + n.toNatClampNeg ≤ n0 ∧ dp.toNatClampNeg + n.toNatClampNeg ≤ n1 ∧ (t = 1 → ∀ i, i < n.toNatClampNeg → fits .byte (.int (f (sp.toNatClampNeg + i))) = true) ∧ (t = 2 → ∀ i, i < n.toNatClampNeg → fits .short (.int (f (sp.toNatClampNeg + i))) = true) ∧ Rn G d M (pc + 3) ls rest (hup h b (.inl (t, n1, .inl (va_cpy f g sp.toNatClampNeg dp.toNatClampNeg n.toNatClampNeg)))) Q) else _)
  rw [if_pos n1']
  exact ⟨hd1, hc, t, f, n0, g, n1, ht, ha, hb, hB, s0, d0, nn, l0, l1, fb, fs, hw⟩
theorem fit8 : ∀ x, x ≤ 99 → fits .byte (.int (nI x)) = true := by decide +kernel
theorem fit16 : ∀ x, x ≤ 999 → fits .short (.int (nI x)) = true := by decide +kernel
theorem bk_fit {t : Tn} (hO : TnOK t) {j : Nat} (hj : j < 24960) : fits .byte (.int (t.bk j)) = true := by
  rcases hO.bk j hj with z | ⟨x, hx, z⟩
  · rw [z]; rfl
  · rw [z]; exact fit8 x hx
theorem fm_fit {t : Tn} (hO : TnOK t) {j : Nat} (hj : j < 6240) : fits .short (.int (t.fm j)) = true := by
  rcases hO.fm j hj with z | ⟨x, hx, z⟩
  · rw [z]; rfl
  · rw [z]; exact fit16 x hx
section LIKE
variable {G : aG} {d : Nat} {h h' : aH} {Q : aQ} {σ τ : Sg} {al : Al} {i : Nat}
/-- street's cells become like another's -/
theorem s_Slike {as a k : Nat} {t : Tn} (hO : TnOK t) (hk : k < t.n) (hs : SC h as t k) (hd' : SSh h a) (sep : ∀ j j', j < 3 → j' < 3 → as + j ≠ a + j') (hB : G.1 ≤ a)
    (hq : ∀ h', h'.1 = h.1 → h'.2.2 = h.2.2 → (∀ q, q ≠ a → q ≠ a + 1 → q ≠ a + 2 → h'.2.1 q = h.2.1 q) → SC h' a t k → Q none h') : Rn G (d + 1) mX8_becomeLike 0 [some (.ref a), some (.ref as)] [] h Q := by
  obtain ⟨s1, ⟨gb, s2, s2'⟩, gf, s3, s3'⟩ := hs
  obtain ⟨⟨c0, w0, ho0, nb0, d1⟩, ⟨g, d2⟩, g3, d3⟩ := hd'
  have hn := hO.n
  have e00 : (as = a) = False := eq_false (by have := sep 0 0 (by decide) (by decide); omega)
  have rs : ∀ e, oF (hup h a e) as 8 = some [.int (t.c k), .int (t.w k), .int (t.ho k), .int (t.nb k), .ref (as + 1), .ref (as + 2)] := fun e => by rw [oF_c (hup_ne (by have := sep 0 0 (by decide) (by decide); omega))]; exact s1
  have rd : ∀ e, oF (hup h a (.inr (8, e))) a 8 = some e := fun e => oF_of hup_eq
  have fho : fits .boolean (.int (t.ho k)) = true := by
    obtain ⟨e1, e2⟩ := hO.ho k hk
    rcases (show t.H k = 0 ∨ t.H k = 1 by omega) with z | z
    · rw [e1, z]; rfl
    · rw [e1, z]; rfl
  have nho : narrow .boolean (.int (t.ho k)) = .int (t.ho k) := by
    obtain ⟨e1, e2⟩ := hO.ho k hk
    rcases (show t.H k = 0 ∨ t.H k = 1 by omega) with z | z
    · rw [e1, z]; rfl
    · rw [e1, z]; rfl
  have b1 : ∀ e, aI (hup h a e) (a + 1) 1 = some (1040, g) := fun e => by rw [aI_c (hup_ne (by omega))]; exact d2
  simp only [q_X8_becomeLike_0, q_X8_becomeLike_1, q_X8_becomeLike_2, q_X8_becomeLike_5, q_X8_becomeLike_8, q_X8_becomeLike_9, q_X8_becomeLike_10, q_X8_becomeLike_13, q_X8_becomeLike_16, q_X8_becomeLike_17, q_X8_becomeLike_18, q_X8_becomeLike_21, q_X8_becomeLike_24, q_X8_becomeLike_25, q_X8_becomeLike_26, q_X8_becomeLike_29, q_X8_becomeLike_32, q_X8_becomeLike_33, q_X8_becomeLike_36, q_X8_becomeLike_37, q_X8_becomeLike_38, q_X8_becomeLike_41, q_X8_becomeLike_42, q_X8_becomeLike_43, q_X8_becomeLike_46, ldI_s, ldJ_s, ldA_r, ldA_n, ob_s, List.getElem?_cons_zero, List.getElem?_cons_succ, List.length_cons, List.length_nil, gx_0, gx_1, gx_2, gx_3, gx_4, gx_5, gx_6, gx_7, gx_8, gx_9, gx_10, gx_11, Nat.reduceAdd, Nat.reduceLT, Nat.reduceLeDiff, Nat.reduceSub, Nat.lt_irrefl, true_and, and_true, Option.toList_some, Option.toList_none, List.cons_append, List.nil_append, csum_nil, csum_int, csum_long, csum_ref, csum_null, nar_int, nar_long, nar_ref, nar_null, nar_refA, nar_nullA, fit_int, fit_long, fit_ref, fit_refA, fit_null, fit_nullA, stL_0, stL_1i, stL_1r, stL_1n, stL_1u, stL_2i, stL_2r, stL_2n, stL_2u, stL_3i, stL_3r, stL_3n, stL_3u, stL_4i, stL_4r, stL_4n, stL_4u, stL_5i, stL_5r, stL_5n, stL_5u, stL_6i, stL_6r, stL_6n, stL_6u, stL_7i, stL_7r, stL_7n, stL_7u, stL_8i, stL_8r, stL_8n, stL_8u, stL_9i, stL_9r, stL_9n, stL_9u, stL_10i, stL_10r, stL_10n, stL_10u, stL_11i, stL_11r, stL_11n, stL_11u, stJ_0, stJ_1i, stJ_1r, stJ_1n, stJ_1u, stJ_2i, stJ_2r, stJ_2n, stJ_2u, stJ_3i, stJ_3r, stJ_3n, stJ_3u, stJ_4i, stJ_4r, stJ_4n, stJ_4u, stJ_5i, stJ_5r, stJ_5n, stJ_5u, stJ_6i, stJ_6r, stJ_6n, stJ_6u, stJ_7i, stJ_7r, stJ_7n, stJ_7u, stJ_8i, stJ_8r, stJ_8n, stJ_8u, stJ_9i, stJ_9r, stJ_9n, stJ_9u, stJ_10i, stJ_10r, stJ_10n, stJ_10u, ↓reduceIte, cat_int, cat_ref, cat_null, cat_long, va_rf_s, va_rf_n, nz_bI, nz_0, nz_1, bI_0, pd_1, pp_1, pq_1, pd_2, pp_2, pq_2, pd_3, pp_3, pq_3, pd_4, pp_4, pq_4, pd_5, pp_5, pq_5, pd_6, pp_6, pq_6, pd_7, pp_7, pq_7, pd_8, pp_8, pq_8, pd_9, pp_9, pq_9, pd_10, pp_10, pq_10, pd_11, pp_11, pq_11, pd_12, pp_12, pq_12, pd_13, pp_13, pq_13, pd_14, pp_14, pq_14, pd_15, pp_15, pq_15, pd_16, pp_16, pq_16, pd_17, pp_17, pq_17, pd_18, pp_18, pq_18, pd_19, pp_19, pq_19, pd_20, pp_20, pq_20, pd_21, pp_21, pq_21, pd_22, pp_22, pq_22, pd_23, pp_23, pq_23, pd_24, pp_24, pq_24, Nat.add_zero, Nat.zero_le, Nat.le_refl, eq_self, Option.some.injEq, exists_eq', fs_0, fs_1, fs_2, fs_3, fs_4, fs_5, fs_6, fs_7, fs_8, fs_9, fs_10, fs_11, s1, d1, rs, rd, hB, fho, nho, hup_up, aN_I (by decide : 1 < 8) (b1 _)]
  have f1 : ∀ q, q ≠ a → (hup h a (.inr (8, [.int (t.c k), .int (t.w k), .int (t.ho k), .int (t.nb k), .ref (a + 1), .ref (a + 2)]))).2.1 q = h.2.1 q := fun q hne => hup_ne hne
  have q1 := rd [.int (t.c k), .int (t.w k), .int (t.ho k), .int (t.nb k), .ref (a + 1), .ref (a + 2)]
  have z1 : (hup h a (.inr (8, [.int (t.c k), .int (t.w k), .int (t.ho k), .int (t.nb k), .ref (a + 1), .ref (a + 2)]))).1 = h.1 := rfl
  have z2 : (hup h a (.inr (8, [.int (t.c k), .int (t.w k), .int (t.ho k), .int (t.nb k), .ref (a + 1), .ref (a + 2)]))).2.2 = h.2.2 := rfl
  generalize hup h a (.inr (8, [.int (t.c k), .int (t.w k), .int (t.ho k), .int (t.nb k), .ref (a + 1), .ref (a + 2)])) = h1 at f1 q1 z1 z2 ⊢
  have n40 : (nI 1040).toNatClampNeg = 1040 := nI_clamp (by decide)
  have n26 : (nI 260).toNatClampNeg = 260 := nI_clamp (by decide)
  have zz : (0 : Int32).toNatClampNeg = 0 := by decide
  have sb1 : aI h1 (as + 1) 1 = some (1040, gb) := by rw [aI_c (f1 _ (by have := sep 1 0 (by decide) (by decide); omega))]; exact s2
  have db1 : aI h1 (a + 1) 1 = some (1040, g) := by rw [aI_c (f1 _ (by omega))]; exact d2
  refine e_acopy (M := mX8_becomeLike) (pc := 47) (show decode cX8_becomeLike 47 = .ok (.invokestatic 42, 3) by decide +kernel) rfl (by omega) (by decide) (Or.inr (Or.inl rfl)) sb1 db1 (by omega) (by decide) (by decide) (nI_pos (by decide)) (by rw [zz, n40]; decide) (by rw [zz, n40]; decide) (fun _ j hj => ?_) (fun z => by cases z) ?_
  · rw [n40] at hj
    rw [zz, Nat.zero_add, s2' j hj]
    exact bk_fit hO (by omega)
  rw [zz, n40]
  have f2 : ∀ q, q ≠ a + 1 → (hup h1 (a + 1) (.inl (1, 1040, .inl (va_cpy gb g 0 0 1040)))).2.1 q = h1.2.1 q := fun q hne => hup_ne hne
  have r2 : aI (hup h1 (a + 1) (.inl (1, 1040, .inl (va_cpy gb g 0 0 1040)))) (a + 1) 1 = some (1040, va_cpy gb g 0 0 1040) := aI_of hup_eq
  have z3 : (hup h1 (a + 1) (.inl (1, 1040, .inl (va_cpy gb g 0 0 1040)))).1 = h1.1 := rfl
  have z4 : (hup h1 (a + 1) (.inl (1, 1040, .inl (va_cpy gb g 0 0 1040)))).2.2 = h1.2.2 := rfl
  generalize hup h1 (a + 1) (.inl (1, 1040, .inl (va_cpy gb g 0 0 1040))) = h2 at f2 r2 z3 z4 ⊢
  have o2 : oF h2 a 8 = some [.int (t.c k), .int (t.w k), .int (t.ho k), .int (t.nb k), .ref (a + 1), .ref (a + 2)] := by rw [oF_c (f2 _ (by omega))]; exact q1
  have so2 : oF h2 as 8 = some [.int (t.c k), .int (t.w k), .int (t.ho k), .int (t.nb k), .ref (as + 1), .ref (as + 2)] := by rw [oF_c (f2 _ (by have := sep 0 1 (by decide) (by decide); omega)), oF_c (f1 _ (by have := sep 0 0 (by decide) (by decide); omega))]; exact s1
  have sb2 : aI h2 (as + 2) 2 = some (260, gf) := by rw [aI_c (f2 _ (by have := sep 2 1 (by decide) (by decide); omega)), aI_c (f1 _ (by have := sep 2 0 (by decide) (by decide); omega))]; exact s3
  have db2 : aI h2 (a + 2) 2 = some (260, g3) := by rw [aI_c (f2 _ (by omega)), aI_c (f1 _ (by omega))]; exact d3
  simp only [q_X8_becomeLike_50, q_X8_becomeLike_51, q_X8_becomeLike_54, q_X8_becomeLike_55, q_X8_becomeLike_56, q_X8_becomeLike_59, q_X8_becomeLike_60, q_X8_becomeLike_61, q_X8_becomeLike_64, ldI_s, ldJ_s, ldA_r, ldA_n, ob_s, List.getElem?_cons_zero, List.getElem?_cons_succ, List.length_cons, List.length_nil, gx_0, gx_1, gx_2, gx_3, gx_4, gx_5, gx_6, gx_7, gx_8, gx_9, gx_10, gx_11, Nat.reduceAdd, Nat.reduceLT, Nat.reduceLeDiff, Nat.reduceSub, Nat.lt_irrefl, true_and, and_true, Option.toList_some, Option.toList_none, List.cons_append, List.nil_append, csum_nil, csum_int, csum_long, csum_ref, csum_null, nar_int, nar_long, nar_ref, nar_null, nar_refA, nar_nullA, fit_int, fit_long, fit_ref, fit_refA, fit_null, fit_nullA, stL_0, stL_1i, stL_1r, stL_1n, stL_1u, stL_2i, stL_2r, stL_2n, stL_2u, stL_3i, stL_3r, stL_3n, stL_3u, stL_4i, stL_4r, stL_4n, stL_4u, stL_5i, stL_5r, stL_5n, stL_5u, stL_6i, stL_6r, stL_6n, stL_6u, stL_7i, stL_7r, stL_7n, stL_7u, stL_8i, stL_8r, stL_8n, stL_8u, stL_9i, stL_9r, stL_9n, stL_9u, stL_10i, stL_10r, stL_10n, stL_10u, stL_11i, stL_11r, stL_11n, stL_11u, stJ_0, stJ_1i, stJ_1r, stJ_1n, stJ_1u, stJ_2i, stJ_2r, stJ_2n, stJ_2u, stJ_3i, stJ_3r, stJ_3n, stJ_3u, stJ_4i, stJ_4r, stJ_4n, stJ_4u, stJ_5i, stJ_5r, stJ_5n, stJ_5u, stJ_6i, stJ_6r, stJ_6n, stJ_6u, stJ_7i, stJ_7r, stJ_7n, stJ_7u, stJ_8i, stJ_8r, stJ_8n, stJ_8u, stJ_9i, stJ_9r, stJ_9n, stJ_9u, stJ_10i, stJ_10r, stJ_10n, stJ_10u, ↓reduceIte, cat_int, cat_ref, cat_null, cat_long, va_rf_s, va_rf_n, nz_bI, nz_0, nz_1, bI_0, pd_1, pp_1, pq_1, pd_2, pp_2, pq_2, pd_3, pp_3, pq_3, pd_4, pp_4, pq_4, pd_5, pp_5, pq_5, pd_6, pp_6, pq_6, pd_7, pp_7, pq_7, pd_8, pp_8, pq_8, pd_9, pp_9, pq_9, pd_10, pp_10, pq_10, pd_11, pp_11, pq_11, pd_12, pp_12, pq_12, pd_13, pp_13, pq_13, pd_14, pp_14, pq_14, pd_15, pp_15, pq_15, pd_16, pp_16, pq_16, pd_17, pp_17, pq_17, pd_18, pp_18, pq_18, pd_19, pp_19, pq_19, pd_20, pp_20, pq_20, pd_21, pp_21, pq_21, pd_22, pp_22, pq_22, pd_23, pp_23, pq_23, pd_24, pp_24, pq_24, Nat.add_zero, Nat.zero_le, Nat.le_refl, eq_self, Option.some.injEq, exists_eq', o2, so2, aN_I (by decide : 2 < 8) db2]
  refine e_acopy (M := mX8_becomeLike) (pc := 65) (show decode cX8_becomeLike 65 = .ok (.invokestatic 42, 3) by decide +kernel) rfl (by omega) (by decide) (Or.inr (Or.inr rfl)) sb2 db2 (by omega) (by decide) (by decide) (nI_pos (by decide)) (by rw [zz, n26]; decide) (by rw [zz, n26]; decide) (fun z => by cases z) (fun _ j hj => ?_) ?_
  · rw [n26] at hj
    rw [zz, Nat.zero_add, s3' j hj]
    exact fm_fit hO (by omega)
  rw [zz, n26]
  simp only [q_X8_becomeLike_68, ldI_s, ldJ_s, ldA_r, ldA_n, ob_s, List.getElem?_cons_zero, List.getElem?_cons_succ, List.length_cons, List.length_nil, gx_0, gx_1, gx_2, gx_3, gx_4, gx_5, gx_6, gx_7, gx_8, gx_9, gx_10, gx_11, Nat.reduceAdd, Nat.reduceLT, Nat.reduceLeDiff, Nat.reduceSub, Nat.lt_irrefl, true_and, and_true, Option.toList_some, Option.toList_none, List.cons_append, List.nil_append, csum_nil, csum_int, csum_long, csum_ref, csum_null, nar_int, nar_long, nar_ref, nar_null, nar_refA, nar_nullA, fit_int, fit_long, fit_ref, fit_refA, fit_null, fit_nullA, stL_0, stL_1i, stL_1r, stL_1n, stL_1u, stL_2i, stL_2r, stL_2n, stL_2u, stL_3i, stL_3r, stL_3n, stL_3u, stL_4i, stL_4r, stL_4n, stL_4u, stL_5i, stL_5r, stL_5n, stL_5u, stL_6i, stL_6r, stL_6n, stL_6u, stL_7i, stL_7r, stL_7n, stL_7u, stL_8i, stL_8r, stL_8n, stL_8u, stL_9i, stL_9r, stL_9n, stL_9u, stL_10i, stL_10r, stL_10n, stL_10u, stL_11i, stL_11r, stL_11n, stL_11u, stJ_0, stJ_1i, stJ_1r, stJ_1n, stJ_1u, stJ_2i, stJ_2r, stJ_2n, stJ_2u, stJ_3i, stJ_3r, stJ_3n, stJ_3u, stJ_4i, stJ_4r, stJ_4n, stJ_4u, stJ_5i, stJ_5r, stJ_5n, stJ_5u, stJ_6i, stJ_6r, stJ_6n, stJ_6u, stJ_7i, stJ_7r, stJ_7n, stJ_7u, stJ_8i, stJ_8r, stJ_8n, stJ_8u, stJ_9i, stJ_9r, stJ_9n, stJ_9u, stJ_10i, stJ_10r, stJ_10n, stJ_10u, ↓reduceIte, cat_int, cat_ref, cat_null, cat_long, va_rf_s, va_rf_n, nz_bI, nz_0, nz_1, bI_0, pd_1, pp_1, pq_1, pd_2, pp_2, pq_2, pd_3, pp_3, pq_3, pd_4, pp_4, pq_4, pd_5, pp_5, pq_5, pd_6, pp_6, pq_6, pd_7, pp_7, pq_7, pd_8, pp_8, pq_8, pd_9, pp_9, pq_9, pd_10, pp_10, pq_10, pd_11, pp_11, pq_11, pd_12, pp_12, pq_12, pd_13, pp_13, pq_13, pd_14, pp_14, pq_14, pd_15, pp_15, pq_15, pd_16, pp_16, pq_16, pd_17, pp_17, pq_17, pd_18, pp_18, pq_18, pd_19, pp_19, pq_19, pd_20, pp_20, pq_20, pd_21, pp_21, pq_21, pd_22, pp_22, pq_22, pd_23, pp_23, pq_23, pd_24, pp_24, pq_24, Nat.add_zero, Nat.zero_le, Nat.le_refl, eq_self, Option.some.injEq, exists_eq']
  refine hq _ (by rw [hup_1, z3, z1]) (by rw [hup_3, z4, z2]) (fun q n0 n1 n2 => by rw [hup_ne n2, f2 q n1, f1 q n0]) ⟨?_, ⟨va_cpy gb g 0 0 1040, ?_, fun j hj => ?_⟩, ⟨va_cpy gf g3 0 0 260, aI_of hup_eq, fun j hj => ?_⟩⟩
  · rw [oF_c (hup_ne (by omega))]; exact o2
  · rw [aI_c (hup_ne (by omega))]; exact r2
  · show (if 0 ≤ j ∧ j < 0 + 1040 then gb (0 + (j - 0)) else g j) = _
    rw [if_pos (by omega), Nat.zero_add]; exact s2' j hj
  · show (if 0 ≤ j ∧ j < 0 + 260 then gf (0 + (j - 0)) else g3 j) = _
    rw [if_pos (by omega), Nat.zero_add]; exact s3' j hj
theorem SC_S {a k : Nat} {t : Tn} (hS : SC h a t k) : SSh h a := by
  obtain ⟨s1, ⟨g, s2, _⟩, g3, s3, _⟩ := hS
  exact ⟨⟨_, _, _, _, s1⟩, ⟨g, s2⟩, ⟨g3, s3⟩⟩
/-- only one street's cells have changed -/
theorem Iw_grp (hI : Iw σ τ al G h i) {k : Nat} (hk : k < 24) (hm : al.mk (24 * i + k) = true) (h1 : h'.1 = h.1) (h3 : h'.2.2 = h.2.2) (hf : ∀ q, q ≠ al.ad G.1 (24 * i + k) → q ≠ al.ad G.1 (24 * i + k) + 1 → q ≠ al.ad G.1 (24 * i + k) + 2 → h'.2.1 q = h.2.1 q) (hs : SSh h' (al.ad G.1 (24 * i + k))) : Iw σ τ al G h' i := by
  have hf' : ∀ q, (∀ j, j < 3 → q ≠ al.ad G.1 (24 * i + k) + j) → h'.2.1 q = h.2.1 q := fun q n => hf q (n 0 (by decide)) (n 1 (by decide)) (n 2 (by decide))
  refine Iw_fr hI h1 h3 (fun q hq => hf' q (fun j hj z => hq (Or.inr ⟨k, j, hk, hj, hm, z⟩))) (TSh_fr (fun j' hj' => hf' _ (fun j hj => ts_ne hI.al hI.sh.1 hI.i4 hk hm hj' hj)) hI.sh) (fun k' hk' hm' => ?_)
  by_cases c : k' = k
  · subst c; exact hs
  · exact SSh_fr (fun j' hj' => hf' _ (fun j hj => ad_ne hI.al hm' hm (by omega) hj' hj)) (hI.ss _ (by have := hI.i4; omega) hm')
theorem s_rings_i {t : Tn} (hI : Iw σ τ al G h i) (hO : TnOK t) (ho : oF h (tA al G.1 i) 9 = some [.int t.now, .int t.st, .int (nI t.n), .int t.bt, .int t.ft, .ref (tA al G.1 i + 1), .ref (tA al G.1 i + 2)])
    (hs : ∀ k, k < t.n → al.mk (24 * i + k) = true ∧ SC h (al.ad G.1 (24 * i + k)) t k) (hq : ∀ h', Iw σ τ al G h' i → XT al G.1 i t h' → Q none h') : Rn G (d + 4) mX9_setRings 0 [some (.ref (tA al G.1 i)), none, none, none, none] [] h Q := by
  obtain ⟨f, hT⟩ := Iw_TX hI hO.n ho hs
  obtain ⟨rg, hr⟩ := hI.sh.2.2.2
  have hn := hO.n
  have hho : ∀ k, k < t.n → t.ho k = 0 ∨ t.ho k = 1 := fun k hk => by
    obtain ⟨e1, e2⟩ := hO.ho k hk
    rcases (show t.H k = 0 ∨ t.H k = 1 by omega) with z | z
    · left; rw [e1, z]; rfl
    · right; rw [e1, z]; rfl
  have tF := tA_F (al := al) (B := G.1) (i := i)
  rw [s_setR hT hho hr (by omega)]
  have I6 := Iw_rg hI (upd (upd (upd (upd rg 0 (rgS t.n t.ho t.nb 0)) 1 (rgS t.n t.ho t.nb 1)) 2 (rgS t.n t.ho t.nb 2)) 3 (rgS t.n t.ho t.nb 3))
  refine hq _ I6 (XT_of I6 hO.n ?_ ⟨_, aI_of hup_eq, rg4 (F := rgS t.n t.ho t.nb)⟩ (fun k hk => ⟨(hs k hk).1, SC_fr (fun j hj => hup_ne (Ne.symm (ts_ne hI.al hI.sh.1 hI.i4 (by omega) (hs k hk).1 (by decide) hj))) (hs k hk).2⟩))
  rw [oF_c (hup_ne (by omega))]; exact ho
theorem l_bl {i' A A' : Nat} {t : Tn} (hO : TnOK t) (hne : i' ≠ i) (h4' : i' ≤ 4) (src : ∀ al' h', Iw σ τ al' G h' i → XT al' G.1 i' t h')
    (hq : ∀ al' h', Iw σ τ al' G h' i → XT al' G.1 i t h' → Q none h') :
    ∀ j s al h x3 x4, s + j = t.n → Iw σ τ al G h i → tA al G.1 i = A → tA al G.1 i' = A' → (i' ≠ 0 → al.mk (119 + i') = true) → oF h A 9 = some [.int t.now, .int t.st, .int (nI t.n), .int t.bt, .int t.ft, .ref (A + 1), .ref (A + 2)] → (∀ k, k < s → al.mk (24 * i + k) = true ∧ SC h (al.ad G.1 (24 * i + k)) t k) → Rn G (d + 5) mX9_becomeLike 42 [some (.ref A), some (.ref A'), some (.int (nI s)), x3, x4] [] h Q := by
  have hn := hO.n
  intro j
  induction j with
  | zero =>
    intro s al h x3 x4 hs hI eA eA' hm' ho hS
    have e : s = t.n := by omega
    subst e
    have ex9 : ∃ fs, oF h A 9 = some fs := ⟨_, ho⟩
    simp only [q_X9_becomeLike_42, q_X9_becomeLike_43, q_X9_becomeLike_44, q_X9_becomeLike_47, ldI_s, ldJ_s, ldA_r, ldA_n, ob_s, List.getElem?_cons_zero, List.getElem?_cons_succ, List.length_cons, List.length_nil, gx_0, gx_1, gx_2, gx_3, gx_4, gx_5, gx_6, gx_7, gx_8, gx_9, gx_10, gx_11, Nat.reduceAdd, Nat.reduceLT, Nat.reduceLeDiff, Nat.reduceSub, Nat.lt_irrefl, true_and, and_true, Option.toList_some, Option.toList_none, List.cons_append, List.nil_append, csum_nil, csum_int, csum_long, csum_ref, csum_null, nar_int, nar_long, nar_ref, nar_null, nar_refA, nar_nullA, fit_int, fit_long, fit_ref, fit_refA, fit_null, fit_nullA, stL_0, stL_1i, stL_1r, stL_1n, stL_1u, stL_2i, stL_2r, stL_2n, stL_2u, stL_3i, stL_3r, stL_3n, stL_3u, stL_4i, stL_4r, stL_4n, stL_4u, stL_5i, stL_5r, stL_5n, stL_5u, stL_6i, stL_6r, stL_6n, stL_6u, stL_7i, stL_7r, stL_7n, stL_7u, stL_8i, stL_8r, stL_8n, stL_8u, stL_9i, stL_9r, stL_9n, stL_9u, stL_10i, stL_10r, stL_10n, stL_10u, stL_11i, stL_11r, stL_11n, stL_11u, stJ_0, stJ_1i, stJ_1r, stJ_1n, stJ_1u, stJ_2i, stJ_2r, stJ_2n, stJ_2u, stJ_3i, stJ_3r, stJ_3n, stJ_3u, stJ_4i, stJ_4r, stJ_4n, stJ_4u, stJ_5i, stJ_5r, stJ_5n, stJ_5u, stJ_6i, stJ_6r, stJ_6n, stJ_6u, stJ_7i, stJ_7r, stJ_7n, stJ_7u, stJ_8i, stJ_8r, stJ_8n, stJ_8u, stJ_9i, stJ_9r, stJ_9n, stJ_9u, stJ_10i, stJ_10r, stJ_10n, stJ_10u, ↓reduceIte, cat_int, cat_ref, cat_null, cat_long, va_rf_s, va_rf_n, nz_bI, nz_0, nz_1, bI_0, pd_1, pp_1, pq_1, pd_2, pp_2, pq_2, pd_3, pp_3, pq_3, pd_4, pp_4, pq_4, pd_5, pp_5, pq_5, pd_6, pp_6, pq_6, pd_7, pp_7, pq_7, pd_8, pp_8, pq_8, pd_9, pp_9, pq_9, pd_10, pp_10, pq_10, pd_11, pp_11, pq_11, pd_12, pp_12, pq_12, pd_13, pp_13, pq_13, pd_14, pp_14, pq_14, pd_15, pp_15, pq_15, pd_16, pp_16, pq_16, pd_17, pp_17, pq_17, pd_18, pp_18, pq_18, pd_19, pp_19, pq_19, pd_20, pp_20, pq_20, pd_21, pp_21, pq_21, pd_22, pp_22, pq_22, pd_23, pp_23, pq_23, pd_24, pp_24, pq_24, Nat.add_zero, Nat.zero_le, Nat.le_refl, eq_self, Option.some.injEq, exists_eq', ho, Int32.le_refl]
    simp only [q_X9_becomeLike_84, q_X9_becomeLike_85, ldI_s, ldJ_s, ldA_r, ldA_n, ob_s, List.getElem?_cons_zero, List.getElem?_cons_succ, List.length_cons, List.length_nil, gx_0, gx_1, gx_2, gx_3, gx_4, gx_5, gx_6, gx_7, gx_8, gx_9, gx_10, gx_11, Nat.reduceAdd, Nat.reduceLT, Nat.reduceLeDiff, Nat.reduceSub, Nat.lt_irrefl, true_and, and_true, Option.toList_some, Option.toList_none, List.cons_append, List.nil_append, csum_nil, csum_int, csum_long, csum_ref, csum_null, nar_int, nar_long, nar_ref, nar_null, nar_refA, nar_nullA, fit_int, fit_long, fit_ref, fit_refA, fit_null, fit_nullA, stL_0, stL_1i, stL_1r, stL_1n, stL_1u, stL_2i, stL_2r, stL_2n, stL_2u, stL_3i, stL_3r, stL_3n, stL_3u, stL_4i, stL_4r, stL_4n, stL_4u, stL_5i, stL_5r, stL_5n, stL_5u, stL_6i, stL_6r, stL_6n, stL_6u, stL_7i, stL_7r, stL_7n, stL_7u, stL_8i, stL_8r, stL_8n, stL_8u, stL_9i, stL_9r, stL_9n, stL_9u, stL_10i, stL_10r, stL_10n, stL_10u, stL_11i, stL_11r, stL_11n, stL_11u, stJ_0, stJ_1i, stJ_1r, stJ_1n, stJ_1u, stJ_2i, stJ_2r, stJ_2n, stJ_2u, stJ_3i, stJ_3r, stJ_3n, stJ_3u, stJ_4i, stJ_4r, stJ_4n, stJ_4u, stJ_5i, stJ_5r, stJ_5n, stJ_5u, stJ_6i, stJ_6r, stJ_6n, stJ_6u, stJ_7i, stJ_7r, stJ_7n, stJ_7u, stJ_8i, stJ_8r, stJ_8n, stJ_8u, stJ_9i, stJ_9r, stJ_9n, stJ_9u, stJ_10i, stJ_10r, stJ_10n, stJ_10u, ↓reduceIte, cat_int, cat_ref, cat_null, cat_long, va_rf_s, va_rf_n, nz_bI, nz_0, nz_1, bI_0, pd_1, pp_1, pq_1, pd_2, pp_2, pq_2, pd_3, pp_3, pq_3, pd_4, pp_4, pq_4, pd_5, pp_5, pq_5, pd_6, pp_6, pq_6, pd_7, pp_7, pq_7, pd_8, pp_8, pq_8, pd_9, pp_9, pq_9, pd_10, pp_10, pq_10, pd_11, pp_11, pq_11, pd_12, pp_12, pq_12, pd_13, pp_13, pq_13, pd_14, pp_14, pq_14, pd_15, pp_15, pq_15, pd_16, pp_16, pq_16, pd_17, pp_17, pq_17, pd_18, pp_18, pq_18, pd_19, pp_19, pq_19, pd_20, pp_20, pq_20, pd_21, pp_21, pq_21, pd_22, pp_22, pq_22, pd_23, pp_23, pq_23, pd_24, pp_24, pq_24, Nat.add_zero, Nat.zero_le, Nat.le_refl, eq_self, Option.some.injEq, exists_eq', ex9]
    subst eA
    refine s_rings_i (d := d) hI hO ho hS (fun h' I' X' => ?_)
    simp only [q_X9_becomeLike_88, ldI_s, ldJ_s, ldA_r, ldA_n, ob_s, List.getElem?_cons_zero, List.getElem?_cons_succ, List.length_cons, List.length_nil, gx_0, gx_1, gx_2, gx_3, gx_4, gx_5, gx_6, gx_7, gx_8, gx_9, gx_10, gx_11, Nat.reduceAdd, Nat.reduceLT, Nat.reduceLeDiff, Nat.reduceSub, Nat.lt_irrefl, true_and, and_true, Option.toList_some, Option.toList_none, List.cons_append, List.nil_append, csum_nil, csum_int, csum_long, csum_ref, csum_null, nar_int, nar_long, nar_ref, nar_null, nar_refA, nar_nullA, fit_int, fit_long, fit_ref, fit_refA, fit_null, fit_nullA, stL_0, stL_1i, stL_1r, stL_1n, stL_1u, stL_2i, stL_2r, stL_2n, stL_2u, stL_3i, stL_3r, stL_3n, stL_3u, stL_4i, stL_4r, stL_4n, stL_4u, stL_5i, stL_5r, stL_5n, stL_5u, stL_6i, stL_6r, stL_6n, stL_6u, stL_7i, stL_7r, stL_7n, stL_7u, stL_8i, stL_8r, stL_8n, stL_8u, stL_9i, stL_9r, stL_9n, stL_9u, stL_10i, stL_10r, stL_10n, stL_10u, stL_11i, stL_11r, stL_11n, stL_11u, stJ_0, stJ_1i, stJ_1r, stJ_1n, stJ_1u, stJ_2i, stJ_2r, stJ_2n, stJ_2u, stJ_3i, stJ_3r, stJ_3n, stJ_3u, stJ_4i, stJ_4r, stJ_4n, stJ_4u, stJ_5i, stJ_5r, stJ_5n, stJ_5u, stJ_6i, stJ_6r, stJ_6n, stJ_6u, stJ_7i, stJ_7r, stJ_7n, stJ_7u, stJ_8i, stJ_8r, stJ_8n, stJ_8u, stJ_9i, stJ_9r, stJ_9n, stJ_9u, stJ_10i, stJ_10r, stJ_10n, stJ_10u, ↓reduceIte, cat_int, cat_ref, cat_null, cat_long, va_rf_s, va_rf_n, nz_bI, nz_0, nz_1, bI_0, pd_1, pp_1, pq_1, pd_2, pp_2, pq_2, pd_3, pp_3, pq_3, pd_4, pp_4, pq_4, pd_5, pp_5, pq_5, pd_6, pp_6, pq_6, pd_7, pp_7, pq_7, pd_8, pp_8, pq_8, pd_9, pp_9, pq_9, pd_10, pp_10, pq_10, pd_11, pp_11, pq_11, pd_12, pp_12, pq_12, pd_13, pp_13, pq_13, pd_14, pp_14, pq_14, pd_15, pp_15, pq_15, pd_16, pp_16, pq_16, pd_17, pp_17, pq_17, pd_18, pp_18, pq_18, pd_19, pp_19, pq_19, pd_20, pp_20, pq_20, pd_21, pp_21, pq_21, pd_22, pp_22, pq_22, pd_23, pp_23, pq_23, pd_24, pp_24, pq_24, Nat.add_zero, Nat.zero_le, Nat.le_refl, eq_self, Option.some.injEq, exists_eq']
    exact hq al h' I' X'
  | succ j ih =>
    intro s al h x3 x4 hs hI eA eA' hm' ho hS
    have hk : s < t.n := by omega
    have i4 := hI.i4
    have g1 : ¬ nI t.n ≤ nI s := nI_ge (by omega) (by omega)
    have XS := src al h hI
    have mkS := XT_mk XS hk
    have ex9 : ∃ fs, oF h A 9 = some fs := ⟨_, ho⟩
    obtain ⟨f, w1, w2⟩ := XS
    have w1' := w1.1
    rw [eA'] at w1'
    have ex9s : ∃ fs, oF h A' 9 = some fs := ⟨_, w1'.2.1⟩
    simp only [q_X9_becomeLike_42, q_X9_becomeLike_43, q_X9_becomeLike_44, q_X9_becomeLike_47, ldI_s, ldJ_s, ldA_r, ldA_n, ob_s, List.getElem?_cons_zero, List.getElem?_cons_succ, List.length_cons, List.length_nil, gx_0, gx_1, gx_2, gx_3, gx_4, gx_5, gx_6, gx_7, gx_8, gx_9, gx_10, gx_11, Nat.reduceAdd, Nat.reduceLT, Nat.reduceLeDiff, Nat.reduceSub, Nat.lt_irrefl, true_and, and_true, Option.toList_some, Option.toList_none, List.cons_append, List.nil_append, csum_nil, csum_int, csum_long, csum_ref, csum_null, nar_int, nar_long, nar_ref, nar_null, nar_refA, nar_nullA, fit_int, fit_long, fit_ref, fit_refA, fit_null, fit_nullA, stL_0, stL_1i, stL_1r, stL_1n, stL_1u, stL_2i, stL_2r, stL_2n, stL_2u, stL_3i, stL_3r, stL_3n, stL_3u, stL_4i, stL_4r, stL_4n, stL_4u, stL_5i, stL_5r, stL_5n, stL_5u, stL_6i, stL_6r, stL_6n, stL_6u, stL_7i, stL_7r, stL_7n, stL_7u, stL_8i, stL_8r, stL_8n, stL_8u, stL_9i, stL_9r, stL_9n, stL_9u, stL_10i, stL_10r, stL_10n, stL_10u, stL_11i, stL_11r, stL_11n, stL_11u, stJ_0, stJ_1i, stJ_1r, stJ_1n, stJ_1u, stJ_2i, stJ_2r, stJ_2n, stJ_2u, stJ_3i, stJ_3r, stJ_3n, stJ_3u, stJ_4i, stJ_4r, stJ_4n, stJ_4u, stJ_5i, stJ_5r, stJ_5n, stJ_5u, stJ_6i, stJ_6r, stJ_6n, stJ_6u, stJ_7i, stJ_7r, stJ_7n, stJ_7u, stJ_8i, stJ_8r, stJ_8n, stJ_8u, stJ_9i, stJ_9r, stJ_9n, stJ_9u, stJ_10i, stJ_10r, stJ_10n, stJ_10u, ↓reduceIte, cat_int, cat_ref, cat_null, cat_long, va_rf_s, va_rf_n, nz_bI, nz_0, nz_1, bI_0, pd_1, pp_1, pq_1, pd_2, pp_2, pq_2, pd_3, pp_3, pq_3, pd_4, pp_4, pq_4, pd_5, pp_5, pq_5, pd_6, pp_6, pq_6, pd_7, pp_7, pq_7, pd_8, pp_8, pq_8, pd_9, pp_9, pq_9, pd_10, pp_10, pq_10, pd_11, pp_11, pq_11, pd_12, pp_12, pq_12, pd_13, pp_13, pq_13, pd_14, pp_14, pq_14, pd_15, pp_15, pq_15, pd_16, pp_16, pq_16, pd_17, pp_17, pq_17, pd_18, pp_18, pq_18, pd_19, pp_19, pq_19, pd_20, pp_20, pq_20, pd_21, pp_21, pq_21, pd_22, pp_22, pq_22, pd_23, pp_23, pq_23, pd_24, pp_24, pq_24, Nat.add_zero, Nat.zero_le, Nat.le_refl, eq_self, Option.some.injEq, exists_eq', ho, g1]
    simp only [q_X9_becomeLike_50, q_X9_becomeLike_51, q_X9_becomeLike_52, q_X9_becomeLike_55r, q_X9_becomeLike_55n, q_X9_becomeLike_56, q_X9_becomeLike_57, q_X9_becomeLike_58, ldI_s, ldJ_s, ldA_r, ldA_n, ob_s, List.getElem?_cons_zero, List.getElem?_cons_succ, List.length_cons, List.length_nil, gx_0, gx_1, gx_2, gx_3, gx_4, gx_5, gx_6, gx_7, gx_8, gx_9, gx_10, gx_11, Nat.reduceAdd, Nat.reduceLT, Nat.reduceLeDiff, Nat.reduceSub, Nat.lt_irrefl, true_and, and_true, Option.toList_some, Option.toList_none, List.cons_append, List.nil_append, csum_nil, csum_int, csum_long, csum_ref, csum_null, nar_int, nar_long, nar_ref, nar_null, nar_refA, nar_nullA, fit_int, fit_long, fit_ref, fit_refA, fit_null, fit_nullA, stL_0, stL_1i, stL_1r, stL_1n, stL_1u, stL_2i, stL_2r, stL_2n, stL_2u, stL_3i, stL_3r, stL_3n, stL_3u, stL_4i, stL_4r, stL_4n, stL_4u, stL_5i, stL_5r, stL_5n, stL_5u, stL_6i, stL_6r, stL_6n, stL_6u, stL_7i, stL_7r, stL_7n, stL_7u, stL_8i, stL_8r, stL_8n, stL_8u, stL_9i, stL_9r, stL_9n, stL_9u, stL_10i, stL_10r, stL_10n, stL_10u, stL_11i, stL_11r, stL_11n, stL_11u, stJ_0, stJ_1i, stJ_1r, stJ_1n, stJ_1u, stJ_2i, stJ_2r, stJ_2n, stJ_2u, stJ_3i, stJ_3r, stJ_3n, stJ_3u, stJ_4i, stJ_4r, stJ_4n, stJ_4u, stJ_5i, stJ_5r, stJ_5n, stJ_5u, stJ_6i, stJ_6r, stJ_6n, stJ_6u, stJ_7i, stJ_7r, stJ_7n, stJ_7u, stJ_8i, stJ_8r, stJ_8n, stJ_8u, stJ_9i, stJ_9r, stJ_9n, stJ_9u, stJ_10i, stJ_10r, stJ_10n, stJ_10u, ↓reduceIte, cat_int, cat_ref, cat_null, cat_long, va_rf_s, va_rf_n, nz_bI, nz_0, nz_1, bI_0, pd_1, pp_1, pq_1, pd_2, pp_2, pq_2, pd_3, pp_3, pq_3, pd_4, pp_4, pq_4, pd_5, pp_5, pq_5, pd_6, pp_6, pq_6, pd_7, pp_7, pq_7, pd_8, pp_8, pq_8, pd_9, pp_9, pq_9, pd_10, pp_10, pq_10, pd_11, pp_11, pq_11, pd_12, pp_12, pq_12, pd_13, pp_13, pq_13, pd_14, pp_14, pq_14, pd_15, pp_15, pq_15, pd_16, pp_16, pq_16, pd_17, pp_17, pq_17, pd_18, pp_18, pq_18, pd_19, pp_19, pq_19, pd_20, pp_20, pq_20, pd_21, pp_21, pq_21, pd_22, pp_22, pq_22, pd_23, pp_23, pq_23, pd_24, pp_24, pq_24, Nat.add_zero, Nat.zero_le, Nat.le_refl, eq_self, Option.some.injEq, exists_eq', ex9, ex9s, s_streetAt w1' hk]
    have so := s_own (d := d + 2) (Q := fun r h2 => Rn G (d + 5) mX9_becomeLike 61 [some (.ref A), some (.ref A'), some (.int (nI s)), some (.ref (al.ad G.1 (24 * i' + s))), x4] (r.toList ++ []) h2 Q) hI (show s < 24 by omega) (fun al1 h1 I1 m1 keep fr e1 hle => ?_)
    · rw [eA] at so
      exact so
    rw [eA] at fr e1
    have hz := hI.z
    have eA1 : tA al1 G.1 i = A := e1
    have eA1' : tA al1 G.1 i' = A' := by
      match i', hm', eA' with
      | 0, _, eA' => rw [tA_0] at eA' ⊢; exact eA'
      | i'' + 1, hm', eA' =>
        rw [tA_s] at eA' ⊢
        have := hm' (by omega)
        rw [show 119 + (i'' + 1) = 120 + i'' by omega] at this
        rw [(keep _ this).2]; exact eA'
    have hA := hI.al
    have Alt : ∀ j, j < 3 → A + j < h.1 := fun j hj => by have := tA_lt (B := G.1) (j := j) hA hI.sh.1 hj; omega
    have o1 : oF h1 A 9 = some [.int t.now, .int t.st, .int (nI t.n), .int t.bt, .int t.ft, .ref (A + 1), .ref (A + 2)] := by rw [oF_c (fr _ (by have := Alt 0 (by decide); omega) (by omega))]; exact ho
    have S1 : ∀ k, k < s → al1.mk (24 * i + k) = true ∧ SC h1 (al1.ad G.1 (24 * i + k)) t k := fun k hk' => by
      obtain ⟨a1, a2⟩ := hS k hk'
      obtain ⟨b1, b2⟩ := keep _ a1
      refine ⟨b1, ?_⟩
      rw [b2]
      refine SC_fr (fun j hj => fr _ (by have := ad_lt (B := G.1) hA a1 hj; omega) ?_) a2
      have := ts_ne (G := G) hA hI.sh.1 i4 (k := k) (j := 1) (j' := j) (by omega) a1 (by decide) hj
      rw [eA] at this
      exact fun z => this z.symm
    have XS1 := src al1 h1 I1
    have SCs := XT_SC XS1 hk
    have mkS1 := (keep _ mkS).1
    rw [(keep _ mkS).2] at SCs
    have sh1 := I1.ss (24 * i + s) (by omega) m1
    have ex8 : ∃ fs, oF h1 (al1.ad G.1 (24 * i + s)) 8 = some fs := by obtain ⟨⟨a, b, c, e, x⟩, _⟩ := sh1; exact ⟨_, x⟩
    simp only [q_X9_becomeLike_61r, q_X9_becomeLike_61n, q_X9_becomeLike_63, q_X9_becomeLike_64n, q_X9_becomeLike_64r, q_X9_becomeLike_67, q_X9_becomeLike_69n, q_X9_becomeLike_69r, q_X9_becomeLike_72, q_X9_becomeLike_74, q_X9_becomeLike_75, ldI_s, ldJ_s, ldA_r, ldA_n, ob_s, List.getElem?_cons_zero, List.getElem?_cons_succ, List.length_cons, List.length_nil, gx_0, gx_1, gx_2, gx_3, gx_4, gx_5, gx_6, gx_7, gx_8, gx_9, gx_10, gx_11, Nat.reduceAdd, Nat.reduceLT, Nat.reduceLeDiff, Nat.reduceSub, Nat.lt_irrefl, true_and, and_true, Option.toList_some, Option.toList_none, List.cons_append, List.nil_append, csum_nil, csum_int, csum_long, csum_ref, csum_null, nar_int, nar_long, nar_ref, nar_null, nar_refA, nar_nullA, fit_int, fit_long, fit_ref, fit_refA, fit_null, fit_nullA, stL_0, stL_1i, stL_1r, stL_1n, stL_1u, stL_2i, stL_2r, stL_2n, stL_2u, stL_3i, stL_3r, stL_3n, stL_3u, stL_4i, stL_4r, stL_4n, stL_4u, stL_5i, stL_5r, stL_5n, stL_5u, stL_6i, stL_6r, stL_6n, stL_6u, stL_7i, stL_7r, stL_7n, stL_7u, stL_8i, stL_8r, stL_8n, stL_8u, stL_9i, stL_9r, stL_9n, stL_9u, stL_10i, stL_10r, stL_10n, stL_10u, stL_11i, stL_11r, stL_11n, stL_11u, stJ_0, stJ_1i, stJ_1r, stJ_1n, stJ_1u, stJ_2i, stJ_2r, stJ_2n, stJ_2u, stJ_3i, stJ_3r, stJ_3n, stJ_3u, stJ_4i, stJ_4r, stJ_4n, stJ_4u, stJ_5i, stJ_5r, stJ_5n, stJ_5u, stJ_6i, stJ_6r, stJ_6n, stJ_6u, stJ_7i, stJ_7r, stJ_7n, stJ_7u, stJ_8i, stJ_8r, stJ_8n, stJ_8u, stJ_9i, stJ_9r, stJ_9n, stJ_9u, stJ_10i, stJ_10r, stJ_10n, stJ_10u, ↓reduceIte, cat_int, cat_ref, cat_null, cat_long, va_rf_s, va_rf_n, nz_bI, nz_0, nz_1, bI_0, pd_1, pp_1, pq_1, pd_2, pp_2, pq_2, pd_3, pp_3, pq_3, pd_4, pp_4, pq_4, pd_5, pp_5, pq_5, pd_6, pp_6, pq_6, pd_7, pp_7, pq_7, pd_8, pp_8, pq_8, pd_9, pp_9, pq_9, pd_10, pp_10, pq_10, pd_11, pp_11, pq_11, pd_12, pp_12, pq_12, pd_13, pp_13, pq_13, pd_14, pp_14, pq_14, pd_15, pp_15, pq_15, pd_16, pp_16, pq_16, pd_17, pp_17, pq_17, pd_18, pp_18, pq_18, pd_19, pp_19, pq_19, pd_20, pp_20, pq_20, pd_21, pp_21, pq_21, pd_22, pp_22, pq_22, pd_23, pp_23, pq_23, pd_24, pp_24, pq_24, Nat.add_zero, Nat.zero_le, Nat.le_refl, eq_self, Option.some.injEq, exists_eq', ex8]
    have sep : ∀ j j', j < 3 → j' < 3 → al.ad G.1 (24 * i' + s) + j ≠ al1.ad G.1 (24 * i + s) + j' := fun j j' hj hj' => by
      rw [← (keep _ mkS).2]
      exact ad_ne I1.al mkS1 m1 (by omega) hj hj'
    refine s_Slike (d := d + 3) hO hk SCs sh1 sep (by have := ad_ge (al := al1) (B := G.1) (o := 24 * i + s); omega) (fun h2 z1 z2 fr2 SC2 => ?_)
    have I2 := Iw_grp I1 (by omega) m1 z1 z2 fr2 (SC_S SC2)
    have fr2' : ∀ q, (∀ j, j < 3 → q ≠ al1.ad G.1 (24 * i + s) + j) → h2.2.1 q = h1.2.1 q := fun q n => fr2 q (n 0 (by decide)) (n 1 (by decide)) (n 2 (by decide))
    simp only [q_X9_becomeLike_78, q_X9_becomeLike_81, ldI_s, ldJ_s, ldA_r, ldA_n, ob_s, List.getElem?_cons_zero, List.getElem?_cons_succ, List.length_cons, List.length_nil, gx_0, gx_1, gx_2, gx_3, gx_4, gx_5, gx_6, gx_7, gx_8, gx_9, gx_10, gx_11, Nat.reduceAdd, Nat.reduceLT, Nat.reduceLeDiff, Nat.reduceSub, Nat.lt_irrefl, true_and, and_true, Option.toList_some, Option.toList_none, List.cons_append, List.nil_append, csum_nil, csum_int, csum_long, csum_ref, csum_null, nar_int, nar_long, nar_ref, nar_null, nar_refA, nar_nullA, fit_int, fit_long, fit_ref, fit_refA, fit_null, fit_nullA, stL_0, stL_1i, stL_1r, stL_1n, stL_1u, stL_2i, stL_2r, stL_2n, stL_2u, stL_3i, stL_3r, stL_3n, stL_3u, stL_4i, stL_4r, stL_4n, stL_4u, stL_5i, stL_5r, stL_5n, stL_5u, stL_6i, stL_6r, stL_6n, stL_6u, stL_7i, stL_7r, stL_7n, stL_7u, stL_8i, stL_8r, stL_8n, stL_8u, stL_9i, stL_9r, stL_9n, stL_9u, stL_10i, stL_10r, stL_10n, stL_10u, stL_11i, stL_11r, stL_11n, stL_11u, stJ_0, stJ_1i, stJ_1r, stJ_1n, stJ_1u, stJ_2i, stJ_2r, stJ_2n, stJ_2u, stJ_3i, stJ_3r, stJ_3n, stJ_3u, stJ_4i, stJ_4r, stJ_4n, stJ_4u, stJ_5i, stJ_5r, stJ_5n, stJ_5u, stJ_6i, stJ_6r, stJ_6n, stJ_6u, stJ_7i, stJ_7r, stJ_7n, stJ_7u, stJ_8i, stJ_8r, stJ_8n, stJ_8u, stJ_9i, stJ_9r, stJ_9n, stJ_9u, stJ_10i, stJ_10r, stJ_10n, stJ_10u, ↓reduceIte, cat_int, cat_ref, cat_null, cat_long, va_rf_s, va_rf_n, nz_bI, nz_0, nz_1, bI_0, pd_1, pp_1, pq_1, pd_2, pp_2, pq_2, pd_3, pp_3, pq_3, pd_4, pp_4, pq_4, pd_5, pp_5, pq_5, pd_6, pp_6, pq_6, pd_7, pp_7, pq_7, pd_8, pp_8, pq_8, pd_9, pp_9, pq_9, pd_10, pp_10, pq_10, pd_11, pp_11, pq_11, pd_12, pp_12, pq_12, pd_13, pp_13, pq_13, pd_14, pp_14, pq_14, pd_15, pp_15, pq_15, pd_16, pp_16, pq_16, pd_17, pp_17, pq_17, pd_18, pp_18, pq_18, pd_19, pp_19, pq_19, pd_20, pp_20, pq_20, pd_21, pp_21, pq_21, pd_22, pp_22, pq_22, pd_23, pp_23, pq_23, pd_24, pp_24, pq_24, Nat.add_zero, Nat.zero_le, Nat.le_refl, eq_self, Option.some.injEq, exists_eq', nI_1]
    refine ih (s + 1) al1 h2 _ _ (by omega) I2 eA1 eA1' (fun z => (keep _ (hm' z)).1) ?_ (fun k hk' => ?_)
    · rw [oF_c (fr2' _ (fun j hj => ?_))]
      · exact o1
      · have := ts_ne (G := G) I1.al I1.sh.1 i4 (k := s) (j := 0) (j' := j) (by omega) m1 (by decide) hj
        rw [eA1] at this
        exact this
    · by_cases c : k = s
      · rw [c]; exact ⟨m1, SC2⟩
      · obtain ⟨a1, a2⟩ := S1 k (by omega)
        exact ⟨a1, SC_fr (fun j hj => fr2' _ (fun j' hj' => ad_ne I1.al a1 m1 (by omega) hj hj')) a2⟩
theorem s_bl {i' : Nat} {t : Tn} (hI : Iw σ τ al G h i) (hO : TnOK t) (hne : i' ≠ i) (h4' : i' ≤ 4) (hm' : i' ≠ 0 → al.mk (119 + i') = true) (src : ∀ al' h', Iw σ τ al' G h' i → XT al' G.1 i' t h')
    (hq : ∀ al' h', Iw σ τ al' G h' i → XT al' G.1 i t h' → Q none h') : Rn G (d + 5) mX9_becomeLike 0 [some (.ref (tA al G.1 i)), some (.ref (tA al G.1 i')), none, none, none] [] h Q := by
  have i4 := hI.i4
  have XS := src al h hI
  obtain ⟨f, w1, w2⟩ := XS
  have so := w1.1.2.1
  obtain ⟨t1, ⟨now, st, n, bt, ft, t2⟩, t3, t4⟩ := hI.sh
  have tF := tA_F (al := al) (B := G.1) (i := i)
  have hB : G.1 ≤ tA al G.1 i := by omega
  have neA : tA al G.1 i' ≠ tA al G.1 i := fun z => TC_t (B := G.1) hI.al hne i4 h4' hI.sh.1 hm' (j := 0) (by decide) (Or.inl ⟨0, by decide, by rw [z]⟩)
  have rs : ∀ e, oF (hup h (tA al G.1 i) e) (tA al G.1 i') 9 = some [.int t.now, .int t.st, .int (nI t.n), .int t.bt, .int t.ft, .ref (tA al G.1 i' + 1), .ref (tA al G.1 i' + 2)] := fun e => by rw [oF_c (hup_ne neA)]; exact so
  have rd : ∀ e, oF (hup h (tA al G.1 i) (.inr (9, e))) (tA al G.1 i) 9 = some e := fun e => oF_of hup_eq
  have I1 := Iw_tob hI t.now t.st (nI t.n) t.bt t.ft
  have k := l_bl (d := d) (Q := Q) hO hne h4' src hq t.n 0 al _ none none (by omega) I1 rfl rfl hm' (oF_of hup_eq) (fun k hk => by omega)
  simp only [q_X9_becomeLike_0, q_X9_becomeLike_1, q_X9_becomeLike_2, q_X9_becomeLike_5, q_X9_becomeLike_8, q_X9_becomeLike_9, q_X9_becomeLike_10, q_X9_becomeLike_13, q_X9_becomeLike_16, q_X9_becomeLike_17, q_X9_becomeLike_18, q_X9_becomeLike_21, q_X9_becomeLike_24, q_X9_becomeLike_25, q_X9_becomeLike_26, q_X9_becomeLike_29, q_X9_becomeLike_32, q_X9_becomeLike_33, q_X9_becomeLike_34, q_X9_becomeLike_37, q_X9_becomeLike_40, q_X9_becomeLike_41, ldI_s, ldJ_s, ldA_r, ldA_n, ob_s, List.getElem?_cons_zero, List.getElem?_cons_succ, List.length_cons, List.length_nil, gx_0, gx_1, gx_2, gx_3, gx_4, gx_5, gx_6, gx_7, gx_8, gx_9, gx_10, gx_11, Nat.reduceAdd, Nat.reduceLT, Nat.reduceLeDiff, Nat.reduceSub, Nat.lt_irrefl, true_and, and_true, Option.toList_some, Option.toList_none, List.cons_append, List.nil_append, csum_nil, csum_int, csum_long, csum_ref, csum_null, nar_int, nar_long, nar_ref, nar_null, nar_refA, nar_nullA, fit_int, fit_long, fit_ref, fit_refA, fit_null, fit_nullA, stL_0, stL_1i, stL_1r, stL_1n, stL_1u, stL_2i, stL_2r, stL_2n, stL_2u, stL_3i, stL_3r, stL_3n, stL_3u, stL_4i, stL_4r, stL_4n, stL_4u, stL_5i, stL_5r, stL_5n, stL_5u, stL_6i, stL_6r, stL_6n, stL_6u, stL_7i, stL_7r, stL_7n, stL_7u, stL_8i, stL_8r, stL_8n, stL_8u, stL_9i, stL_9r, stL_9n, stL_9u, stL_10i, stL_10r, stL_10n, stL_10u, stL_11i, stL_11r, stL_11n, stL_11u, stJ_0, stJ_1i, stJ_1r, stJ_1n, stJ_1u, stJ_2i, stJ_2r, stJ_2n, stJ_2u, stJ_3i, stJ_3r, stJ_3n, stJ_3u, stJ_4i, stJ_4r, stJ_4n, stJ_4u, stJ_5i, stJ_5r, stJ_5n, stJ_5u, stJ_6i, stJ_6r, stJ_6n, stJ_6u, stJ_7i, stJ_7r, stJ_7n, stJ_7u, stJ_8i, stJ_8r, stJ_8n, stJ_8u, stJ_9i, stJ_9r, stJ_9n, stJ_9u, stJ_10i, stJ_10r, stJ_10n, stJ_10u, ↓reduceIte, cat_int, cat_ref, cat_null, cat_long, va_rf_s, va_rf_n, nz_bI, nz_0, nz_1, bI_0, pd_1, pp_1, pq_1, pd_2, pp_2, pq_2, pd_3, pp_3, pq_3, pd_4, pp_4, pq_4, pd_5, pp_5, pq_5, pd_6, pp_6, pq_6, pd_7, pp_7, pq_7, pd_8, pp_8, pq_8, pd_9, pp_9, pq_9, pd_10, pp_10, pq_10, pd_11, pp_11, pq_11, pd_12, pp_12, pq_12, pd_13, pp_13, pq_13, pd_14, pp_14, pq_14, pd_15, pp_15, pq_15, pd_16, pp_16, pq_16, pd_17, pp_17, pq_17, pd_18, pp_18, pq_18, pd_19, pp_19, pq_19, pd_20, pp_20, pq_20, pd_21, pp_21, pq_21, pd_22, pp_22, pq_22, pd_23, pp_23, pq_23, pd_24, pp_24, pq_24, Nat.add_zero, Nat.zero_le, Nat.le_refl, eq_self, Option.some.injEq, exists_eq', fs_0, fs_1, fs_2, fs_3, fs_4, fs_5, fs_6, fs_7, fs_8, fs_9, fs_10, fs_11, t2, so, rs, rd, hB, hup_up]
  exact k
end LIKE
/-! a town for an image is made -/
section NEWT
variable {G : aG} {d : Nat} {h h' : aH} {Q : aQ} {σ τ : Sg} {al : Al}
theorem s_Tinit {a : Nat} {x0 x1 x2 x3 x4 x5 x6 : Value} (ho : oF h a 9 = some [x0, x1, x2, x3, x4, x5, x6]) (hB : G.1 ≤ a) (ha : a < h.1) (hq : ∀ h', h'.1 = h.1 + 2 → h'.2.2 = h.2.2 + 28 → (∀ q, q < h.1 → q ≠ a → h'.2.1 q = h.2.1 q) → oF h' a 9 = some [.int 0, .int (-1), .int 0, .int 0, .int 0, .ref h.1, .ref (h.1 + 1)] → aR h' h.1 = some (5, 24, fun _ => none) → aI h' (h.1 + 1) 0 = some (4, fun _ => 0) → Q none h') : Rn G (d + 1) mX9_init 0 [some (.ref a)] [] h Q := by
  have ea : (a = h.1) = False := eq_false (by omega)
  have ea1 : (a = h.1 + 1) = False := eq_false (by omega)
  have c1 : (24 : Int32).toNatClampNeg = 24 := by decide
  have c2 : (4 : Int32).toNatClampNeg = 4 := by decide
  have c3 : ¬ (24 : Int32) < 0 := by decide
  have c4 : ¬ (4 : Int32) < 0 := by decide
  simp only [q_X9_init_0, q_X9_init_1, q_X9_init_4, q_X9_init_5, q_X9_init_6, q_X9_init_9, q_X9_init_10, q_X9_init_11, q_X9_init_14, q_X9_init_15, q_X9_init_16, q_X9_init_19, q_X9_init_20, q_X9_init_21, q_X9_init_24, q_X9_init_25, q_X9_init_26, q_X9_init_29, q_X9_init_30, q_X9_init_32, q_X9_init_35, q_X9_init_38, q_X9_init_39, q_X9_init_40, q_X9_init_42, q_X9_init_45, ldI_s, ldJ_s, ldA_r, ldA_n, ob_s, List.getElem?_cons_zero, List.getElem?_cons_succ, List.length_cons, List.length_nil, gx_0, gx_1, gx_2, gx_3, gx_4, gx_5, gx_6, gx_7, gx_8, gx_9, gx_10, gx_11, Nat.reduceAdd, Nat.reduceLT, Nat.reduceLeDiff, Nat.reduceSub, Nat.lt_irrefl, true_and, and_true, Option.toList_some, Option.toList_none, List.cons_append, List.nil_append, csum_nil, csum_int, csum_long, csum_ref, csum_null, nar_int, nar_long, nar_ref, nar_null, nar_refA, nar_nullA, fit_int, fit_long, fit_ref, fit_refA, fit_null, fit_nullA, stL_0, stL_1i, stL_1r, stL_1n, stL_1u, stL_2i, stL_2r, stL_2n, stL_2u, stL_3i, stL_3r, stL_3n, stL_3u, stL_4i, stL_4r, stL_4n, stL_4u, stL_5i, stL_5r, stL_5n, stL_5u, stL_6i, stL_6r, stL_6n, stL_6u, stL_7i, stL_7r, stL_7n, stL_7u, stL_8i, stL_8r, stL_8n, stL_8u, stL_9i, stL_9r, stL_9n, stL_9u, stL_10i, stL_10r, stL_10n, stL_10u, stL_11i, stL_11r, stL_11n, stL_11u, stJ_0, stJ_1i, stJ_1r, stJ_1n, stJ_1u, stJ_2i, stJ_2r, stJ_2n, stJ_2u, stJ_3i, stJ_3r, stJ_3n, stJ_3u, stJ_4i, stJ_4r, stJ_4n, stJ_4u, stJ_5i, stJ_5r, stJ_5n, stJ_5u, stJ_6i, stJ_6r, stJ_6n, stJ_6u, stJ_7i, stJ_7r, stJ_7n, stJ_7u, stJ_8i, stJ_8r, stJ_8n, stJ_8u, stJ_9i, stJ_9r, stJ_9n, stJ_9u, stJ_10i, stJ_10r, stJ_10n, stJ_10u, ↓reduceIte, cat_int, cat_ref, cat_null, cat_long, va_rf_s, va_rf_n, nz_bI, nz_0, nz_1, bI_0, pd_1, pp_1, pq_1, pd_2, pp_2, pq_2, pd_3, pp_3, pq_3, pd_4, pp_4, pq_4, pd_5, pp_5, pq_5, pd_6, pp_6, pq_6, pd_7, pp_7, pq_7, pd_8, pp_8, pq_8, pd_9, pp_9, pq_9, pd_10, pp_10, pq_10, pd_11, pp_11, pq_11, pd_12, pp_12, pq_12, pd_13, pp_13, pq_13, pd_14, pp_14, pq_14, pd_15, pp_15, pq_15, pd_16, pp_16, pq_16, pd_17, pp_17, pq_17, pd_18, pp_18, pq_18, pd_19, pp_19, pq_19, pd_20, pp_20, pq_20, pd_21, pp_21, pq_21, pd_22, pp_22, pq_22, pd_23, pp_23, pq_23, pd_24, pp_24, pq_24, Nat.add_zero, Nat.zero_le, Nat.le_refl, eq_self, Option.some.injEq, exists_eq', fs_0, fs_1, fs_2, fs_3, fs_4, fs_5, fs_6, fs_7, fs_8, fs_9, fs_10, fs_11, ho, oF_up, oF_nwA, hup_1, hnew_1, hB, ea, ea1, c1, c2, c3, c4, hup_up, not_false_eq_true]
  refine hq _ rfl ?_ (fun q h1 h2 => ?_) (oF_of hup_eq) ?_ ?_
  · simp only [hup_3, hnew_3]
  · rw [hup_ne h2, hnew_ne (by simp only [hup_1, hnew_1]; omega), hup_ne h2, hnew_ne (by simp only [hup_1]; omega), hup_ne h2]
  · refine aR_of (Or.inl rfl) ?_
    rw [hup_ne (by omega), hnew_ne (by simp only [hup_1, hnew_1]; omega), hup_ne (by omega)]
    exact hnew_eq
  · refine aI_of ?_
    rw [hup_ne (by omega)]
    exact hnew_eq
theorem tA_add2 {B o i : Nat} (h : 119 + i ≠ o) : tA (al.add o) B i = tA al B i := by
  match i with
  | 0 => rw [tA_0, tA_0]
  | i' + 1 => rw [tA_s, tA_s, add_ad (by omega)]
theorem Iw_newT (hI : Iv σ τ al G h) {k : Nat} (hk : k < 4) (hn : σ.im k = none) {f : Nat → Option Nat} (hfr : aR h (G.1 + 4) = some (6, 4, f)) (h1 : h'.1 = h.1 + 3) (h3 : h'.2.2 ≤ h.2.2 + 2000)
    (hf : ∀ q, q < h.1 → q ≠ G.1 + 4 → h'.2.1 q = h.2.1 q) (hr : aR h' (G.1 + 4) = some (6, 4, va_up f k (some h.1)))
    (ho : oF h' h.1 9 = some [.int 0, .int (-1), .int 0, .int 0, .int 0, .ref (h.1 + 1), .ref (h.1 + 2)]) (hs : aR h' (h.1 + 1) = some (5, 24, fun _ => none)) (hg : aI h' (h.1 + 2) 0 = some (4, fun _ => 0)) : Iw σ τ (al.add (120 + k)) G h' (k + 1) ∧ tA (al.add (120 + k)) G.1 (k + 1) = h.1 := by
  have hA := hI.al
  have hz := hI.z
  have hlt := hI.lt
  obtain ⟨hm, hmn⟩ := hI.x.imn k hk hn
  have ea : (al.add (120 + k)).ad G.1 (120 + k) = h.1 := by rw [add_ao, hz]
  have eA : tA (al.add (120 + k)) G.1 (k + 1) = h.1 := by rw [tA_s]; exact ea
  refine ⟨?_, eA⟩
  have low : ∀ q, q < G.1 + 70 → q ≠ G.1 + 4 → h'.2.1 q = h.2.1 q := fun q a b => hf q (by omega) b
  have adf : ∀ o j, al.mk o = true → j < 3 → h'.2.1 (al.ad G.1 o + j) = h.2.1 (al.ad G.1 o + j) := fun o j hmo hj => hf _ (by have := ad_lt (B := G.1) hA hmo hj; omega) (by have := ad_ge (al := al) (B := G.1) (o := o); omega)
  have mne : ∀ o, al.mk o = true → o ≠ 120 + k := fun o ho z => by rw [z, hm] at ho; cases ho
  have XTk : ∀ i' t, (i' ≠ 0 → al.mk (119 + i') = true) → i' ≤ 4 → XT al G.1 i' t h → XT (al.add (120 + k)) G.1 i' t h' := fun i' t hi' h4 hT => by
    have ne : 119 + i' ≠ 120 + k := fun z => by
      have := hi' (by omega)
      rw [z, hm] at this; cases this
    refine XT_al (fun k' hk' => add_mne (by omega)) (fun k' hk' _ => add_ad (by omega)) (tA_add2 ne) ?_
    have hmk := fun k hk => XT_mk hT (k := k) hk
    obtain ⟨f', w1, w2⟩ := hT
    refine ⟨f', TW_fr (fun j hj => ?_) (fun k' hk' j hj => adf _ j (hmk k' hk') hj) w1, w2⟩
    match i', hi' with
    | 0, _ => rw [tA_0]; exact low _ (by omega) (by omega)
    | i'' + 1, hi' =>
      rw [tA_s]
      have := hi' (by omega)
      rw [show 119 + (i'' + 1) = 120 + i'' by omega] at this
      exact adf _ j this hj
  refine ⟨by omega, ?_, ?_, ?_, ?_, ?_, ?_, ?_, ?_, ?_, ?_, ?_, ?_, ?_, ?_, ?_, add_OK hA hm (by omega), ?_, hlt⟩
  · rw [oF_c (low _ (by omega) (by omega))]; exact hI.x.o
  · rw [aI_c (low _ (by omega) (by omega))]; exact hI.x.tb
  · refine ⟨_, hr, fun j hj => ?_⟩
    obtain ⟨f', w1, w2⟩ := hI.x.imr
    rw [hfr] at w1
    simp only [Option.some.injEq, Prod.mk.injEq, true_and] at w1
    subst w1
    by_cases c : j = k
    · subst c
      rw [add_mo, if_pos rfl, ea]
      unfold va_up
      rw [if_pos rfl]
    · rw [add_mne (by omega), add_ad (by omega)]
      unfold va_up
      rw [if_neg c]
      exact w2 j hj
  · rw [aR_c (low _ (by omega) (by omega))]
    obtain ⟨f', w1, w2⟩ := hI.x.lwr
    exact ⟨f', w1, fun r hr' => by rw [w2 r hr', add_ad (by omega)]⟩
  · exact fun _ => XTk 0 _ (fun z => absurd rfl z) (by omega) hI.x.t
  · intro j hj hne t ht
    obtain ⟨m1, m2⟩ := hI.x.im j hj t ht
    exact ⟨add_mm m1, XTk _ _ (fun _ => by rw [show 119 + (j + 1) = 120 + j by omega]; exact m1) (by omega) m2⟩
  · intro j hj hne ht
    obtain ⟨m1, m2⟩ := hI.x.imn j hj ht
    exact ⟨by rw [add_mne (by omega)]; exact m1, fun k' hk' => by rw [add_mne (by omega)]; exact m2 k' hk'⟩
  · intro o ho' hmo
    rw [add_mne (by omega)] at hmo
    rw [add_ad (by omega)]
    exact SSh_fr (fun j hj => adf o j hmo hj) (hI.x.ss o ho' hmo)
  · intro r hr'
    obtain ⟨m1, m2⟩ := hI.x.lw r hr'
    refine ⟨add_mm m1, ?_⟩
    rw [add_ad (by omega)]
    exact LSh_fr (fun j hj => adf _ j m1 hj) m2
  · intro r hr' hn'
    rw [add_mne (by omega)]
    exact hI.x.lwn r hr' hn'
  · unfold TSh
    rw [eA]
    refine ⟨fun _ => by rw [show 119 + (k + 1) = 120 + k by omega]; exact add_mo, ⟨_, _, _, _, _, ho⟩, ⟨_, hs, fun k' hk' => ?_⟩, ⟨_, hg⟩⟩
    rw [add_mne (by omega), hmn k' hk']
    rfl
  · exact MY_fr (fun q hq => low q (by unfold MF at hq; omega) (by unfold MF at hq; omega)) hI.m
  · exact Shp_fr (fun o ho => by
      unfold scr at ho
      simp at ho
      exact low _ (by omega) (by omega)) hI.s
  · rw [h1, hz, add_ng]; omega
  · have z := hI.z2
    have e : (al.add (120 + k)).ng = al.ng + 1 := rfl
    omega
  · rw [low _ (by omega) (by omega)]; exact hI.nn
end NEWT
