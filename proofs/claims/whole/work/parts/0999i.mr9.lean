/-! the reference reads a law: a whole test -/
theorem zLo_e {ts : Nat → Nat} {N x : Nat} {F : Nat → Nat → List Int32 → Rp} {code : Nat → Int32} (hN : ∀ i, ¬ ts i = 0 → i < N) (hx : ¬ x = 0) (hF : FOK N F) : ∀ k i g L, N ≤ i + k → (zLo ts x F code k i g L).f = 0 → ¬ ts (zLo ts x F code k i g L).i = x := by
  intro k
  induction k with
  | zero =>
    intro i g L hk _ y
    have y' : ts i = x := y
    have := hN i (by omega)
    omega
  | succ k ih =>
    intro i g L hk hf
    rw [zLo] at hf ⊢
    by_cases c : ts i = x
    · rw [if_pos c] at hf ⊢
      by_cases f0 : (F (i + 1) g L).f = 0
      · rw [bd_t f0] at hf ⊢
        exact ih _ _ _ (by have := (hF _ _ _ f0).1; omega) hf
      · rw [bd_f f0] at hf; exact absurd hf f0
    · rw [if_neg c]; exact c
section MR9
variable {G : aG} {d : Nat} {Q : aQ} {σ τ : Sg} {al : Al} {r : Ms} {R : R4} {S T : List Nat} {dp : Nat}
theorem w_partl (hO : OK τ) (h8 : τ.ln < 8) {F : Nat → Nat → List Int32 → Rp} (hF : FOK (cnt (bT τ.tb τ.tp) τ.tp) F) (hC : FC σ τ al G r R d F dp) (hdp : dp ≤ 10) (h10 : ¬ tpS T = 10) : ∀ k i g L, (cnt (bT τ.tb τ.tp) τ.tp) ≤ i + k → T.length ≤ i → Bd g L 1 → g ≤ 60 → ((zLo (tsr (bT τ.tb τ.tp) τ.tp) 8 F (fun _ => -20) k i g L).f = 0 → ¬ (tsr (bT τ.tb τ.tp) τ.tp) (zLo (tsr (bT τ.tb τ.tp) τ.tp) 8 F (fun _ => -20) k i g L).i = 8 → KP σ τ al G r R d Q T dp (zLo (tsr (bT τ.tb τ.tp) τ.tp) 8 F (fun _ => -20) k i g L).i (zLo (tsr (bT τ.tb τ.tp) τ.tp) 8 F (fun _ => -20) k i g L).g (zLo (tsr (bT τ.tb τ.tp) τ.tp) 8 F (fun _ => -20) k i g L).L) → (¬ (zLo (tsr (bT τ.tb τ.tp) τ.tp) 8 F (fun _ => -20) k i g L).f = 0 → KD σ τ al G r Q (zLo (tsr (bT τ.tb τ.tp) τ.tp) 8 F (fun _ => -20) k i g L).f) → KP σ τ al G r R d Q T dp i g L := by
  have hb := bT_OK (tb := τ.tb) hO.tp
  have htp := hO.tp
  have cn := (cnt_s hb).2.2
  intro k
  induction k with
  | zero =>
    intro i g L hk hT hB hg h1 h2
    refine h1 rfl (fun z => ?_)
    have := (tokOK hb).e i (by have z' : (tsr (bT τ.tb τ.tp) τ.tp) i = 8 := z; omega)
    omega
  | succ k ih =>
    intro i g L hk hT hB hg h1 h2
    rw [zLo] at h1 h2
    by_cases c : (tsr (bT τ.tb τ.tp) τ.tp) i = 8
    · rw [if_pos c] at h1 h2
      have hi := (tokOK hb).e i (by omega)
      refine P_and_go hO c (by omega) hdp (hC Q (T ++ [10]) (i + 1) g L (by simp; omega) (Bd_w hB (by omega)) hg (fun f0 => ?_) (fun f0 => ?_))
      · rw [bd_t f0] at h1 h2
        obtain ⟨p1, p2, p3, p4⟩ := hF _ _ _ f0
        have B2 := p4 1 hB
        have l280 := Bd_280 B2 p3
        refine A_Q hO (by simp; omega) (by rw [tpS_a]; decide) (Q_and hO h8 (by omega) (by omega) (Q_P (by omega) h10 (ih _ _ _ (by omega) (by omega) (Bd_a B2) p3 h1 h2)))
      · rw [bd_f f0] at h2
        exact h2 f0
    · rw [if_neg c] at h1 h2
      exact h1 rfl c
theorem w_part (hO : OK τ) (h8 : τ.ln < 8) {F : Nat → Nat → List Int32 → Rp} (hF : FOK (cnt (bT τ.tb τ.tp) τ.tp) F) (hC : FC σ τ al G r R d F dp) (hdp : dp ≤ 10) (h9 : ¬ tpS T = 9) (h10 : ¬ tpS T = 10) {i g : Nat} {L : List Int32} (hT : T.length ≤ i) (hT2 : T.length ≤ 402) (hB : Bd g L 0) (hg : g ≤ 60) (h1 : (zA (tsr (bT τ.tb τ.tp) τ.tp) F i g L).f = 0 → ¬ (tsr (bT τ.tb τ.tp) τ.tp) (zA (tsr (bT τ.tb τ.tp) τ.tp) F i g L).i = 8 → KP σ τ al G r R d Q T dp (zA (tsr (bT τ.tb τ.tp) τ.tp) F i g L).i (zA (tsr (bT τ.tb τ.tp) τ.tp) F i g L).g (zA (tsr (bT τ.tb τ.tp) τ.tp) F i g L).L) (h2 : ¬ (zA (tsr (bT τ.tb τ.tp) τ.tp) F i g L).f = 0 → KD σ τ al G r Q (zA (tsr (bT τ.tb τ.tp) τ.tp) F i g L).f) : KW σ τ al G r R d Q T dp i g L := by
  have hb := bT_OK (tb := τ.tb) hO.tp
  have htp := hO.tp
  have cn := (cnt_s hb).2.2
  unfold zA at h1 h2
  refine hC Q T i g L hT hB hg (fun f0 => ?_) (fun f0 => ?_)
  · rw [bd_t f0] at h1 h2
    obtain ⟨p1, p2, p3, p4⟩ := hF _ _ _ f0
    exact A_Q hO (by omega) h9 (Q_P (by omega) h10 (w_partl hO h8 hF hC hdp h10 401 _ _ _ (by omega) (by omega) (p4 0 hB) p3 h1 h2))
  · rw [bd_f f0] at h2
    exact h2 f0
theorem w_testl (hO : OK τ) (h8 : τ.ln < 8) {F : Nat → Nat → List Int32 → Rp} (hF : FOK (cnt (bT τ.tb τ.tp) τ.tp) F) (hFA : FOK (cnt (bT τ.tb τ.tp) τ.tp) (zA (tsr (bT τ.tb τ.tp) τ.tp) F)) (hC : FC σ τ al G r R d F dp) (hdp : dp ≤ 10) (h11 : ¬ tpS T = 11) : ∀ k i g L, (cnt (bT τ.tb τ.tp) τ.tp) ≤ i + k → T.length ≤ i → Bd g L 1 → g ≤ 60 → ¬ (tsr (bT τ.tb τ.tp) τ.tp) i = 8 → ((zLo (tsr (bT τ.tb τ.tp) τ.tp) 9 (zA (tsr (bT τ.tb τ.tp) τ.tp) F) (fun _ => -21) k i g L).f = 0 → ¬ (tsr (bT τ.tb τ.tp) τ.tp) (zLo (tsr (bT τ.tb τ.tp) τ.tp) 9 (zA (tsr (bT τ.tb τ.tp) τ.tp) F) (fun _ => -21) k i g L).i = 8 ∧ ¬ (tsr (bT τ.tb τ.tp) τ.tp) (zLo (tsr (bT τ.tb τ.tp) τ.tp) 9 (zA (tsr (bT τ.tb τ.tp) τ.tp) F) (fun _ => -21) k i g L).i = 9 → KP σ τ al G r R d Q T dp (zLo (tsr (bT τ.tb τ.tp) τ.tp) 9 (zA (tsr (bT τ.tb τ.tp) τ.tp) F) (fun _ => -21) k i g L).i (zLo (tsr (bT τ.tb τ.tp) τ.tp) 9 (zA (tsr (bT τ.tb τ.tp) τ.tp) F) (fun _ => -21) k i g L).g (zLo (tsr (bT τ.tb τ.tp) τ.tp) 9 (zA (tsr (bT τ.tb τ.tp) τ.tp) F) (fun _ => -21) k i g L).L) → (¬ (zLo (tsr (bT τ.tb τ.tp) τ.tp) 9 (zA (tsr (bT τ.tb τ.tp) τ.tp) F) (fun _ => -21) k i g L).f = 0 → KD σ τ al G r Q (zLo (tsr (bT τ.tb τ.tp) τ.tp) 9 (zA (tsr (bT τ.tb τ.tp) τ.tp) F) (fun _ => -21) k i g L).f) → KP σ τ al G r R d Q T dp i g L := by
  have hb := bT_OK (tb := τ.tb) hO.tp
  have htp := hO.tp
  have cn := (cnt_s hb).2.2
  intro k
  induction k with
  | zero =>
    intro i g L hk hT hB hg hn h1 h2
    refine h1 rfl ⟨hn, fun z => ?_⟩
    have := (tokOK hb).e i (by have z' : (tsr (bT τ.tb τ.tp) τ.tp) i = 9 := z; omega)
    omega
  | succ k ih =>
    intro i g L hk hT hB hg hn h1 h2
    rw [zLo] at h1 h2
    by_cases c : (tsr (bT τ.tb τ.tp) τ.tp) i = 9
    · rw [if_pos c] at h1 h2
      have hi := (tokOK hb).e i (by omega)
      refine P_or_go hO c (by omega) h11 hdp (w_part hO h8 hF hC hdp (by rw [tpS_a]; decide) (by rw [tpS_a]; decide) (by simp; omega) (by simp; omega) (Bd_w hB (by omega)) hg (fun f0 n8 => ?_) (fun f0 => ?_))
      · rw [bd_t f0] at h1 h2
        obtain ⟨p1, p2, p3, p4⟩ := hFA _ _ _ f0
        have B2 := p4 1 hB
        have l280 := Bd_280 B2 p3
        exact P_or hO h8 n8 (by omega) (by omega) (ih _ _ _ (by omega) (by omega) (Bd_a B2) p3 n8 h1 h2)
      · rw [bd_f f0] at h2
        exact h2 f0
    · rw [if_neg c] at h1 h2
      exact h1 rfl ⟨hn, c⟩
theorem w_test (hO : OK τ) (h8 : τ.ln < 8) {F : Nat → Nat → List Int32 → Rp} (hF : FOK (cnt (bT τ.tb τ.tp) τ.tp) F) (hFA : FOK (cnt (bT τ.tb τ.tp) τ.tp) (zA (tsr (bT τ.tb τ.tp) τ.tp) F)) (hC : FC σ τ al G r R d F dp) (hdp : dp ≤ 10) (h9 : ¬ tpS T = 9) (h10 : ¬ tpS T = 10) (h11 : ¬ tpS T = 11) {i g : Nat} {L : List Int32} (hT : T.length ≤ i) (hT2 : T.length ≤ 402) (hB : Bd g L 0) (hg : g ≤ 60) (h1 : (zO (tsr (bT τ.tb τ.tp) τ.tp) F i g L).f = 0 → ¬ (tsr (bT τ.tb τ.tp) τ.tp) (zO (tsr (bT τ.tb τ.tp) τ.tp) F i g L).i = 8 ∧ ¬ (tsr (bT τ.tb τ.tp) τ.tp) (zO (tsr (bT τ.tb τ.tp) τ.tp) F i g L).i = 9 → KP σ τ al G r R d Q T dp (zO (tsr (bT τ.tb τ.tp) τ.tp) F i g L).i (zO (tsr (bT τ.tb τ.tp) τ.tp) F i g L).g (zO (tsr (bT τ.tb τ.tp) τ.tp) F i g L).L) (h2 : ¬ (zO (tsr (bT τ.tb τ.tp) τ.tp) F i g L).f = 0 → KD σ τ al G r Q (zO (tsr (bT τ.tb τ.tp) τ.tp) F i g L).f) : KW σ τ al G r R d Q T dp i g L := by
  have hb := bT_OK (tb := τ.tb) hO.tp
  have htp := hO.tp
  have cn := (cnt_s hb).2.2
  unfold zO at h1 h2
  refine w_part hO h8 hF hC hdp h9 h10 hT hT2 hB hg (fun f0 n8 => ?_) (fun f0 => ?_)
  · rw [bd_t f0] at h1 h2
    obtain ⟨p1, p2, p3, p4⟩ := hFA _ _ _ f0
    exact w_testl hO h8 hF hFA hC hdp h11 401 _ _ _ (by omega) (by omega) (p4 0 hB) p3 n8 h1 h2
  · rw [bd_f f0] at h2
    exact h2 f0
theorem w_cmp (hO : OK τ) (h8 : τ.ln < 8) {i g : Nat} {L : List Int32} (hs : ¬ (tsr (bT τ.tb τ.tp) τ.tp) i = 7 ∧ ¬ (tsr (bT τ.tb τ.tp) τ.tp) i = 10) (hB : Bd g L 0) (hg : g ≤ 60) (h1 : (zcm (tsr (bT τ.tb τ.tp) τ.tp) (twr (bT τ.tb τ.tp) τ.tp) (plc (bT τ.tb τ.tp) τ.tp) i g L).f = 0 → KA σ τ al G r R d Q T dp (zcm (tsr (bT τ.tb τ.tp) τ.tp) (twr (bT τ.tb τ.tp) τ.tp) (plc (bT τ.tb τ.tp) τ.tp) i g L).i (zcm (tsr (bT τ.tb τ.tp) τ.tp) (twr (bT τ.tb τ.tp) τ.tp) (plc (bT τ.tb τ.tp) τ.tp) i g L).g (zcm (tsr (bT τ.tb τ.tp) τ.tp) (twr (bT τ.tb τ.tp) τ.tp) (plc (bT τ.tb τ.tp) τ.tp) i g L).L) (h2 : ¬ (zcm (tsr (bT τ.tb τ.tp) τ.tp) (twr (bT τ.tb τ.tp) τ.tp) (plc (bT τ.tb τ.tp) τ.tp) i g L).f = 0 → KD σ τ al G r Q (zcm (tsr (bT τ.tb τ.tp) τ.tp) (twr (bT τ.tb τ.tp) τ.tp) (plc (bT τ.tb τ.tp) τ.tp) i g L).f) : KW σ τ al G r R d Q T dp i g L := by
  intro h p x3 x4 hM hG
  have hb := bT_OK (tb := τ.tb) hO.tp
  have ho := hM.ob
  unfold OB6 at ho
  simp only [q_X11_test_9, q_X11_test_10, q_X11_test_13, q_X11_test_14, q_X11_test_17, q_X11_test_20, q_X11_test_21, q_X11_test_24, q_X11_test_25, ldI_s, ldJ_s, ldA_r, ldA_n, ob_s, List.getElem?_cons_zero, List.getElem?_cons_succ, List.length_cons, List.length_nil, gx_0, gx_1, gx_2, gx_3, gx_4, gx_5, gx_6, gx_7, gx_8, gx_9, gx_10, gx_11, Nat.reduceAdd, Nat.reduceLT, Nat.reduceLeDiff, Nat.reduceSub, Nat.lt_irrefl, true_and, and_true, Option.toList_some, Option.toList_none, List.cons_append, List.nil_append, csum_nil, csum_int, csum_long, csum_ref, csum_null, nar_int, nar_long, nar_ref, nar_null, nar_refA, nar_nullA, fit_int, fit_long, fit_ref, fit_refA, fit_null, fit_nullA, stL_0, stL_1i, stL_1r, stL_1n, stL_1u, stL_2i, stL_2r, stL_2n, stL_2u, stL_3i, stL_3r, stL_3n, stL_3u, stL_4i, stL_4r, stL_4n, stL_4u, stL_5i, stL_5r, stL_5n, stL_5u, stL_6i, stL_6r, stL_6n, stL_6u, stL_7i, stL_7r, stL_7n, stL_7u, stL_8i, stL_8r, stL_8n, stL_8u, stL_9i, stL_9r, stL_9n, stL_9u, stL_10i, stL_10r, stL_10n, stL_10u, stL_11i, stL_11r, stL_11n, stL_11u, stJ_0, stJ_1i, stJ_1r, stJ_1n, stJ_1u, stJ_2i, stJ_2r, stJ_2n, stJ_2u, stJ_3i, stJ_3r, stJ_3n, stJ_3u, stJ_4i, stJ_4r, stJ_4n, stJ_4u, stJ_5i, stJ_5r, stJ_5n, stJ_5u, stJ_6i, stJ_6r, stJ_6n, stJ_6u, stJ_7i, stJ_7r, stJ_7n, stJ_7u, stJ_8i, stJ_8r, stJ_8n, stJ_8u, stJ_9i, stJ_9r, stJ_9n, stJ_9u, stJ_10i, stJ_10r, stJ_10n, stJ_10u, ↓reduceIte, cat_int, cat_ref, cat_null, cat_long, va_rf_s, va_rf_n, nz_bI, nz_0, nz_1, bI_0, pd_1, pp_1, pq_1, pd_2, pp_2, pq_2, pd_3, pp_3, pq_3, pd_4, pp_4, pq_4, pd_5, pp_5, pq_5, pd_6, pp_6, pq_6, pd_7, pp_7, pq_7, pd_8, pp_8, pq_8, pd_9, pp_9, pq_9, pd_10, pp_10, pq_10, pd_11, pp_11, pq_11, pd_12, pp_12, pq_12, pd_13, pp_13, pq_13, pd_14, pp_14, pq_14, pd_15, pp_15, pq_15, pd_16, pp_16, pq_16, pd_17, pp_17, pq_17, pd_18, pp_18, pq_18, pd_19, pp_19, pq_19, pd_20, pp_20, pq_20, pd_21, pp_21, pq_21, pd_22, pp_22, pq_22, pd_23, pp_23, pq_23, pd_24, pp_24, pq_24, Nat.add_zero, Nat.zero_le, Nat.le_refl, eq_self, Option.some.injEq, exists_eq', ho, mq6, mo_g0, mo_g1, mo_g2, mo_g3, mo_g4, mo_g5, mo_g6, mo_g7, mo_g8, mo_g9, mo_g10, mo_g11, mo_g12, mo_g13, mo_g14, mo_g15, mo_g16, mo_g17, mo_g18, mo_g19, mo_g20, mo_g21, mo_g22, mo_g23, mo_g24, mo_g25, mo_g26, mo_g27, mo_g28, mo_g29, mo_g30, mo_g31, mo_g32, mo_g33, mo_g34, mo_g35, mo_g36, mo_g37, mo_g38, mo_g39, mo_g40, mo_g41, mo_g42, mo_g43, mo_g44, mo_g45, mo_g46, mo_g47, mo_g48, mo_g49, mo_g50, mo_s0, mo_s1, mo_s2, mo_s3, mo_s4, mo_s5, mo_s6, mo_s13, mo_s14, mo_s15, mo_s16, mo_s17, mo_s18, mo_s19, mo_s20, mo_s38, mo_s39, mo_s40, mo_s41, mo_s43, mo_s49, mo_s50, mo_len, exists_eq', show ¬ (1 : Int32) = 0 by decide]
  refine f_cmp hO h8 hs hM hG hB hg (fun h' P' => ?_)
  simp only [q_X11_test_28, q_X11_test_31, q_X11_test_32, q_X11_test_35, q_X11_test_36, q_X11_test_37, ldI_s, ldJ_s, ldA_r, ldA_n, ob_s, List.getElem?_cons_zero, List.getElem?_cons_succ, List.length_cons, List.length_nil, gx_0, gx_1, gx_2, gx_3, gx_4, gx_5, gx_6, gx_7, gx_8, gx_9, gx_10, gx_11, Nat.reduceAdd, Nat.reduceLT, Nat.reduceLeDiff, Nat.reduceSub, Nat.lt_irrefl, true_and, and_true, Option.toList_some, Option.toList_none, List.cons_append, List.nil_append, csum_nil, csum_int, csum_long, csum_ref, csum_null, nar_int, nar_long, nar_ref, nar_null, nar_refA, nar_nullA, fit_int, fit_long, fit_ref, fit_refA, fit_null, fit_nullA, stL_0, stL_1i, stL_1r, stL_1n, stL_1u, stL_2i, stL_2r, stL_2n, stL_2u, stL_3i, stL_3r, stL_3n, stL_3u, stL_4i, stL_4r, stL_4n, stL_4u, stL_5i, stL_5r, stL_5n, stL_5u, stL_6i, stL_6r, stL_6n, stL_6u, stL_7i, stL_7r, stL_7n, stL_7u, stL_8i, stL_8r, stL_8n, stL_8u, stL_9i, stL_9r, stL_9n, stL_9u, stL_10i, stL_10r, stL_10n, stL_10u, stL_11i, stL_11r, stL_11n, stL_11u, stJ_0, stJ_1i, stJ_1r, stJ_1n, stJ_1u, stJ_2i, stJ_2r, stJ_2n, stJ_2u, stJ_3i, stJ_3r, stJ_3n, stJ_3u, stJ_4i, stJ_4r, stJ_4n, stJ_4u, stJ_5i, stJ_5r, stJ_5n, stJ_5u, stJ_6i, stJ_6r, stJ_6n, stJ_6u, stJ_7i, stJ_7r, stJ_7n, stJ_7u, stJ_8i, stJ_8r, stJ_8n, stJ_8u, stJ_9i, stJ_9r, stJ_9n, stJ_9u, stJ_10i, stJ_10r, stJ_10n, stJ_10u, ↓reduceIte, cat_int, cat_ref, cat_null, cat_long, va_rf_s, va_rf_n, nz_bI, nz_0, nz_1, bI_0, pd_1, pp_1, pq_1, pd_2, pp_2, pq_2, pd_3, pp_3, pq_3, pd_4, pp_4, pq_4, pd_5, pp_5, pq_5, pd_6, pp_6, pq_6, pd_7, pp_7, pq_7, pd_8, pp_8, pq_8, pd_9, pp_9, pq_9, pd_10, pp_10, pq_10, pd_11, pp_11, pq_11, pd_12, pp_12, pq_12, pd_13, pp_13, pq_13, pd_14, pp_14, pq_14, pd_15, pp_15, pq_15, pd_16, pp_16, pq_16, pd_17, pp_17, pq_17, pd_18, pp_18, pq_18, pd_19, pp_19, pq_19, pd_20, pp_20, pq_20, pd_21, pp_21, pq_21, pd_22, pp_22, pq_22, pd_23, pp_23, pq_23, pd_24, pp_24, pq_24, Nat.add_zero, Nat.zero_le, Nat.le_refl, eq_self, Option.some.injEq, exists_eq', show ¬ (1 : Int32) = 0 by decide]
  by_cases f0 : (zcm (tsr (bT τ.tb τ.tp) τ.tp) (twr (bT τ.tb τ.tp) τ.tp) (plc (bT τ.tb τ.tp) τ.tp) i g L).f = 0
  · exact h1 f0 h' _ x3 x4 (P'.1 f0) (Gp_p hb _)
  · obtain ⟨p', D'⟩ := P'.2 f0
    exact d_exit D' (h2 f0)
theorem w_push (hO : OK τ) {i g k : Nat} {L : List Int32} (hk : (k = 9 ∧ (tsr (bT τ.tb τ.tp) τ.tp) i = 7) ∨ (k = 12 ∧ (tsr (bT τ.tb τ.tp) τ.tp) i = 10)) (hT : T.length < 402) (hdp : dp ≤ 10) (h1 : dp + 1 ≤ 10 → KW σ τ al G r R d Q (T ++ [k]) (dp + 1) (i + 1) g L) (h2 : dp = 10 → KD σ τ al G r Q (1 + 8 * (plc (bT τ.tb τ.tp) τ.tp) i + 2)) : KW σ τ al G r R d Q T dp i g L := by
  intro h p x3 x4 hM hG
  have ho := hM.ob
  unfold OB6 at ho
  simp only [q_X11_test_9, q_X11_test_10, q_X11_test_13, q_X11_test_14, q_X11_test_17, q_X11_test_20, q_X11_test_21, q_X11_test_24, q_X11_test_25, ldI_s, ldJ_s, ldA_r, ldA_n, ob_s, List.getElem?_cons_zero, List.getElem?_cons_succ, List.length_cons, List.length_nil, gx_0, gx_1, gx_2, gx_3, gx_4, gx_5, gx_6, gx_7, gx_8, gx_9, gx_10, gx_11, Nat.reduceAdd, Nat.reduceLT, Nat.reduceLeDiff, Nat.reduceSub, Nat.lt_irrefl, true_and, and_true, Option.toList_some, Option.toList_none, List.cons_append, List.nil_append, csum_nil, csum_int, csum_long, csum_ref, csum_null, nar_int, nar_long, nar_ref, nar_null, nar_refA, nar_nullA, fit_int, fit_long, fit_ref, fit_refA, fit_null, fit_nullA, stL_0, stL_1i, stL_1r, stL_1n, stL_1u, stL_2i, stL_2r, stL_2n, stL_2u, stL_3i, stL_3r, stL_3n, stL_3u, stL_4i, stL_4r, stL_4n, stL_4u, stL_5i, stL_5r, stL_5n, stL_5u, stL_6i, stL_6r, stL_6n, stL_6u, stL_7i, stL_7r, stL_7n, stL_7u, stL_8i, stL_8r, stL_8n, stL_8u, stL_9i, stL_9r, stL_9n, stL_9u, stL_10i, stL_10r, stL_10n, stL_10u, stL_11i, stL_11r, stL_11n, stL_11u, stJ_0, stJ_1i, stJ_1r, stJ_1n, stJ_1u, stJ_2i, stJ_2r, stJ_2n, stJ_2u, stJ_3i, stJ_3r, stJ_3n, stJ_3u, stJ_4i, stJ_4r, stJ_4n, stJ_4u, stJ_5i, stJ_5r, stJ_5n, stJ_5u, stJ_6i, stJ_6r, stJ_6n, stJ_6u, stJ_7i, stJ_7r, stJ_7n, stJ_7u, stJ_8i, stJ_8r, stJ_8n, stJ_8u, stJ_9i, stJ_9r, stJ_9n, stJ_9u, stJ_10i, stJ_10r, stJ_10n, stJ_10u, ↓reduceIte, cat_int, cat_ref, cat_null, cat_long, va_rf_s, va_rf_n, nz_bI, nz_0, nz_1, bI_0, pd_1, pp_1, pq_1, pd_2, pp_2, pq_2, pd_3, pp_3, pq_3, pd_4, pp_4, pq_4, pd_5, pp_5, pq_5, pd_6, pp_6, pq_6, pd_7, pp_7, pq_7, pd_8, pp_8, pq_8, pd_9, pp_9, pq_9, pd_10, pp_10, pq_10, pd_11, pp_11, pq_11, pd_12, pp_12, pq_12, pd_13, pp_13, pq_13, pd_14, pp_14, pq_14, pd_15, pp_15, pq_15, pd_16, pp_16, pq_16, pd_17, pp_17, pq_17, pd_18, pp_18, pq_18, pd_19, pp_19, pq_19, pd_20, pp_20, pq_20, pd_21, pp_21, pq_21, pd_22, pp_22, pq_22, pd_23, pp_23, pq_23, pd_24, pp_24, pq_24, Nat.add_zero, Nat.zero_le, Nat.le_refl, eq_self, Option.some.injEq, exists_eq', ho, mq6, mo_g0, mo_g1, mo_g2, mo_g3, mo_g4, mo_g5, mo_g6, mo_g7, mo_g8, mo_g9, mo_g10, mo_g11, mo_g12, mo_g13, mo_g14, mo_g15, mo_g16, mo_g17, mo_g18, mo_g19, mo_g20, mo_g21, mo_g22, mo_g23, mo_g24, mo_g25, mo_g26, mo_g27, mo_g28, mo_g29, mo_g30, mo_g31, mo_g32, mo_g33, mo_g34, mo_g35, mo_g36, mo_g37, mo_g38, mo_g39, mo_g40, mo_g41, mo_g42, mo_g43, mo_g44, mo_g45, mo_g46, mo_g47, mo_g48, mo_g49, mo_g50, mo_s0, mo_s1, mo_s2, mo_s3, mo_s4, mo_s5, mo_s6, mo_s13, mo_s14, mo_s15, mo_s16, mo_s17, mo_s18, mo_s19, mo_s20, mo_s38, mo_s39, mo_s40, mo_s41, mo_s43, mo_s49, mo_s50, mo_len, exists_eq', show ¬ (1 : Int32) = 0 by decide]
  have c1 : dp + 1 ≤ 10 → ∀ h', MR σ τ al G r R (T ++ [k]) (dp + 1) h' (ten (bT τ.tb τ.tp) τ.tp i) g L → Rn G (d + 13) mX11_test 28 [some (.ref (G.1 + 40)), some (.int 1), some (.int 1), x3, x4] [.int 0] h' Q := fun hd h' M' => by
    have k1 := h1 hd h' _ x3 x4 M' (Gp_e i)
    simp only [q_X11_test_28, q_X11_test_31, q_X11_test_32, q_X11_test_35, q_X11_test_36, q_X11_test_37, ldI_s, ldJ_s, ldA_r, ldA_n, ob_s, List.getElem?_cons_zero, List.getElem?_cons_succ, List.length_cons, List.length_nil, gx_0, gx_1, gx_2, gx_3, gx_4, gx_5, gx_6, gx_7, gx_8, gx_9, gx_10, gx_11, Nat.reduceAdd, Nat.reduceLT, Nat.reduceLeDiff, Nat.reduceSub, Nat.lt_irrefl, true_and, and_true, Option.toList_some, Option.toList_none, List.cons_append, List.nil_append, csum_nil, csum_int, csum_long, csum_ref, csum_null, nar_int, nar_long, nar_ref, nar_null, nar_refA, nar_nullA, fit_int, fit_long, fit_ref, fit_refA, fit_null, fit_nullA, stL_0, stL_1i, stL_1r, stL_1n, stL_1u, stL_2i, stL_2r, stL_2n, stL_2u, stL_3i, stL_3r, stL_3n, stL_3u, stL_4i, stL_4r, stL_4n, stL_4u, stL_5i, stL_5r, stL_5n, stL_5u, stL_6i, stL_6r, stL_6n, stL_6u, stL_7i, stL_7r, stL_7n, stL_7u, stL_8i, stL_8r, stL_8n, stL_8u, stL_9i, stL_9r, stL_9n, stL_9u, stL_10i, stL_10r, stL_10n, stL_10u, stL_11i, stL_11r, stL_11n, stL_11u, stJ_0, stJ_1i, stJ_1r, stJ_1n, stJ_1u, stJ_2i, stJ_2r, stJ_2n, stJ_2u, stJ_3i, stJ_3r, stJ_3n, stJ_3u, stJ_4i, stJ_4r, stJ_4n, stJ_4u, stJ_5i, stJ_5r, stJ_5n, stJ_5u, stJ_6i, stJ_6r, stJ_6n, stJ_6u, stJ_7i, stJ_7r, stJ_7n, stJ_7u, stJ_8i, stJ_8r, stJ_8n, stJ_8u, stJ_9i, stJ_9r, stJ_9n, stJ_9u, stJ_10i, stJ_10r, stJ_10n, stJ_10u, ↓reduceIte, cat_int, cat_ref, cat_null, cat_long, va_rf_s, va_rf_n, nz_bI, nz_0, nz_1, bI_0, pd_1, pp_1, pq_1, pd_2, pp_2, pq_2, pd_3, pp_3, pq_3, pd_4, pp_4, pq_4, pd_5, pp_5, pq_5, pd_6, pp_6, pq_6, pd_7, pp_7, pq_7, pd_8, pp_8, pq_8, pd_9, pp_9, pq_9, pd_10, pp_10, pq_10, pd_11, pp_11, pq_11, pd_12, pp_12, pq_12, pd_13, pp_13, pq_13, pd_14, pp_14, pq_14, pd_15, pp_15, pq_15, pd_16, pp_16, pq_16, pd_17, pp_17, pq_17, pd_18, pp_18, pq_18, pd_19, pp_19, pq_19, pd_20, pp_20, pq_20, pd_21, pp_21, pq_21, pd_22, pp_22, pq_22, pd_23, pp_23, pq_23, pd_24, pp_24, pq_24, Nat.add_zero, Nat.zero_le, Nat.le_refl, eq_self, Option.some.injEq, exists_eq']
    exact k1
  have c2 : dp = 10 → ∀ h' p', DX σ τ al G r h' (1 + 8 * (plc (bT τ.tb τ.tp) τ.tp) i + 2) p' → Rn G (d + 13) mX11_test 28 [some (.ref (G.1 + 40)), some (.int 1), some (.int 1), x3, x4] [.int 0] h' Q := fun hd h' p' D' => by
    have k1 := d_exit (d := d) (w := some (.int 1)) (x3 := x3) (x4 := x4) D' (h2 hd)
    simp only [q_X11_test_28, q_X11_test_31, q_X11_test_32, q_X11_test_35, q_X11_test_36, q_X11_test_37, ldI_s, ldJ_s, ldA_r, ldA_n, ob_s, List.getElem?_cons_zero, List.getElem?_cons_succ, List.length_cons, List.length_nil, gx_0, gx_1, gx_2, gx_3, gx_4, gx_5, gx_6, gx_7, gx_8, gx_9, gx_10, gx_11, Nat.reduceAdd, Nat.reduceLT, Nat.reduceLeDiff, Nat.reduceSub, Nat.lt_irrefl, true_and, and_true, Option.toList_some, Option.toList_none, List.cons_append, List.nil_append, csum_nil, csum_int, csum_long, csum_ref, csum_null, nar_int, nar_long, nar_ref, nar_null, nar_refA, nar_nullA, fit_int, fit_long, fit_ref, fit_refA, fit_null, fit_nullA, stL_0, stL_1i, stL_1r, stL_1n, stL_1u, stL_2i, stL_2r, stL_2n, stL_2u, stL_3i, stL_3r, stL_3n, stL_3u, stL_4i, stL_4r, stL_4n, stL_4u, stL_5i, stL_5r, stL_5n, stL_5u, stL_6i, stL_6r, stL_6n, stL_6u, stL_7i, stL_7r, stL_7n, stL_7u, stL_8i, stL_8r, stL_8n, stL_8u, stL_9i, stL_9r, stL_9n, stL_9u, stL_10i, stL_10r, stL_10n, stL_10u, stL_11i, stL_11r, stL_11n, stL_11u, stJ_0, stJ_1i, stJ_1r, stJ_1n, stJ_1u, stJ_2i, stJ_2r, stJ_2n, stJ_2u, stJ_3i, stJ_3r, stJ_3n, stJ_3u, stJ_4i, stJ_4r, stJ_4n, stJ_4u, stJ_5i, stJ_5r, stJ_5n, stJ_5u, stJ_6i, stJ_6r, stJ_6n, stJ_6u, stJ_7i, stJ_7r, stJ_7n, stJ_7u, stJ_8i, stJ_8r, stJ_8n, stJ_8u, stJ_9i, stJ_9r, stJ_9n, stJ_9u, stJ_10i, stJ_10r, stJ_10n, stJ_10u, ↓reduceIte, cat_int, cat_ref, cat_null, cat_long, va_rf_s, va_rf_n, nz_bI, nz_0, nz_1, bI_0, pd_1, pp_1, pq_1, pd_2, pp_2, pq_2, pd_3, pp_3, pq_3, pd_4, pp_4, pq_4, pd_5, pp_5, pq_5, pd_6, pp_6, pq_6, pd_7, pp_7, pq_7, pd_8, pp_8, pq_8, pd_9, pp_9, pq_9, pd_10, pp_10, pq_10, pd_11, pp_11, pq_11, pd_12, pp_12, pq_12, pd_13, pp_13, pq_13, pd_14, pp_14, pq_14, pd_15, pp_15, pq_15, pd_16, pp_16, pq_16, pd_17, pp_17, pq_17, pd_18, pp_18, pq_18, pd_19, pp_19, pq_19, pd_20, pp_20, pq_20, pd_21, pp_21, pq_21, pd_22, pp_22, pq_22, pd_23, pp_23, pq_23, pd_24, pp_24, pq_24, Nat.add_zero, Nat.zero_le, Nat.le_refl, eq_self, Option.some.injEq, exists_eq']
    exact k1
  rcases hk with ⟨e, hs⟩ | ⟨e, hs⟩
  · subst e
    exact f_not hO hT hdp hs hM hG c1 c2
  · subst e
    exact f_br hO hT hdp hs hM hG c1 c2
theorem w_fact (hO : OK τ) (h8 : τ.ln < 8) : ∀ e, e ≤ 10 → FC σ τ al G r R d (zF (tsr (bT τ.tb τ.tp) τ.tp) (twr (bT τ.tb τ.tp) τ.tp) (plc (bT τ.tb τ.tp) τ.tp) e) (10 - e) := by
  have hb := bT_OK (tb := τ.tb) hO.tp
  have htp := hO.tp
  have cn := (cnt_s hb).2.2
  intro e
  induction e with
  | zero =>
    intro _ Q T i g L hT hB hg h1 h2
    rw [zF] at h1 h2
    simp only at h1 h2
    by_cases c : (tsr (bT τ.tb τ.tp) τ.tp) i = 7 ∨ (tsr (bT τ.tb τ.tp) τ.tp) i = 10
    · rw [if_pos c] at h2
      have hi := (tokOK hb).e i (by omega)
      rcases c with c | c
      · exact w_push (k := 9) hO (Or.inl ⟨rfl, c⟩) (by omega) (by omega) (fun hd => by omega) (fun _ => h2 flt_f)
      · exact w_push (k := 12) hO (Or.inr ⟨rfl, c⟩) (by omega) (by omega) (fun hd => by omega) (fun _ => h2 flt_f)
    · rw [if_neg c] at h1 h2
      exact w_cmp hO h8 ⟨fun z => c (Or.inl z), fun z => c (Or.inr z)⟩ hB hg h1 h2
  | succ e ih =>
    intro he Q T i g L hT hB hg h1 h2
    have hF : FOK (cnt (bT τ.tb τ.tp) τ.tp) (zF (tsr (bT τ.tb τ.tp) τ.tp) (twr (bT τ.tb τ.tp) τ.tp) (plc (bT τ.tb τ.tp) τ.tp) e) := FOK_k (e := e) (by omega) (fun i g L z => zF_k (tokOK hb) e i g L z)
    have hFA : FOK (cnt (bT τ.tb τ.tp) τ.tp) (zA (tsr (bT τ.tb τ.tp) τ.tp) (zF (tsr (bT τ.tb τ.tp) τ.tp) (twr (bT τ.tb τ.tp) τ.tp) (plc (bT τ.tb τ.tp) τ.tp) e)) := FOK_k (e := e) (by omega) (fun i g L z => zA_k (fun i g L z => zF_k (tokOK hb) e i g L z) z)
    have e1 : 10 - (e + 1) + 1 = 10 - e := by omega
    have ih' := ih (by omega)
    rw [zF] at h1 h2
    simp only at h1 h2
    by_cases c : (tsr (bT τ.tb τ.tp) τ.tp) i = 7
    · rw [if_pos c] at h1 h2
      have hi := (tokOK hb).e i (by omega)
      refine w_push (k := 9) hO (Or.inl ⟨rfl, c⟩) (by omega) (by omega) (fun hd => ?_) (fun hd => by omega)
      rw [e1]
      refine ih' Q (T ++ [9]) (i + 1) g L (by simp; omega) hB hg (fun f0 => ?_) (fun f0 => ?_)
      · rw [bd_t f0] at h1 h2
        obtain ⟨p1, p2, p3, p4⟩ := hF _ _ _ f0
        have l280 := Bd_280 (p4 0 hB) p3
        have k1 := A_not hO h8 (by omega) (by omega) (h1 rfl)
        rw [e1] at k1
        exact k1
      · rw [bd_f f0] at h2
        exact h2 f0
    · rw [if_neg c] at h1 h2
      by_cases c2 : (tsr (bT τ.tb τ.tp) τ.tp) i = 10
      · rw [if_pos c2] at h1 h2
        have hi := (tokOK hb).e i (by omega)
        refine w_push (k := 12) hO (Or.inr ⟨rfl, c2⟩) (by omega) (by omega) (fun hd => ?_) (fun hd => by omega)
        rw [e1]
        refine w_test hO h8 hF hFA ih' (by omega) (by rw [tpS_a]; decide) (by rw [tpS_a]; decide) (by rw [tpS_a]; decide) (by simp; omega) (by simp; omega) hB hg (fun f0 hn => ?_) (fun f0 => ?_)
        · rw [bd_t f0] at h1 h2
          have k1 := P_close (T := T) (dp := 10 - (e + 1)) hO hn (by omega) (fun c3 => by rw [if_pos c3] at h1; exact h1 rfl) (fun c3 => by rw [if_neg c3] at h2; exact h2 flt_f)
          rw [e1] at k1
          exact k1
        · rw [bd_f f0] at h2
          exact h2 f0
      · rw [if_neg c2] at h1 h2
        exact w_cmp hO h8 ⟨c, c2⟩ hB hg h1 h2
/-- the whole test -/
theorem m_test (hO : OK τ) (h8 : τ.ln < 8) {h : aH} {p i g : Nat} {L : List Int32} {x1 x2 x3 x4 : Option Value} (hM : MR σ τ al G r R S 0 h p g L) (hG : Gp (bT τ.tb τ.tp) τ.tp p i) (hB : Bd g L 0) (hg : g ≤ 60) (hq1 : (zO (tsr (bT τ.tb τ.tp) τ.tp) (zF (tsr (bT τ.tb τ.tp) τ.tp) (twr (bT τ.tb τ.tp) τ.tp) (plc (bT τ.tb τ.tp) τ.tp) 10) i g L).f = 0 → ∀ h', MR σ τ al G r R [] 0 h' ((plc (bT τ.tb τ.tp) τ.tp) (zO (tsr (bT τ.tb τ.tp) τ.tp) (zF (tsr (bT τ.tb τ.tp) τ.tp) (twr (bT τ.tb τ.tp) τ.tp) (plc (bT τ.tb τ.tp) τ.tp) 10) i g L).i) (zO (tsr (bT τ.tb τ.tp) τ.tp) (zF (tsr (bT τ.tb τ.tp) τ.tp) (twr (bT τ.tb τ.tp) τ.tp) (plc (bT τ.tb τ.tp) τ.tp) 10) i g L).g (zO (tsr (bT τ.tb τ.tp) τ.tp) (zF (tsr (bT τ.tb τ.tp) τ.tp) (twr (bT τ.tb τ.tp) τ.tp) (plc (bT τ.tb τ.tp) τ.tp) 10) i g L).L → Q none h') (hq2 : ¬ (zO (tsr (bT τ.tb τ.tp) τ.tp) (zF (tsr (bT τ.tb τ.tp) τ.tp) (twr (bT τ.tb τ.tp) τ.tp) (plc (bT τ.tb τ.tp) τ.tp) 10) i g L).f = 0 → KD σ τ al G r Q (zO (tsr (bT τ.tb τ.tp) τ.tp) (zF (tsr (bT τ.tb τ.tp) τ.tp) (twr (bT τ.tb τ.tp) τ.tp) (plc (bT τ.tb τ.tp) τ.tp) 10) i g L).f) : Rn G (d + 13) mX11_test 0 [some (.ref (G.1 + 40)), x1, x2, x3, x4] [] h Q := by
  have hb := bT_OK (tb := τ.tb) hO.tp
  have htp := hO.tp
  have cn := (cnt_s hb).2.2
  have hBB : G.1 ≤ G.1 + 40 := by omega
  have ho := hM.ob
  unfold OB6 at ho
  have hF : FOK (cnt (bT τ.tb τ.tp) τ.tp) (zF (tsr (bT τ.tb τ.tp) τ.tp) (twr (bT τ.tb τ.tp) τ.tp) (plc (bT τ.tb τ.tp) τ.tp) 10) := FOK_k (e := 10) (by omega) (fun i g L z => zF_k (tokOK hb) 10 i g L z)
  have hFA : FOK (cnt (bT τ.tb τ.tp) τ.tp) (zA (tsr (bT τ.tb τ.tp) τ.tp) (zF (tsr (bT τ.tb τ.tp) τ.tp) (twr (bT τ.tb τ.tp) τ.tp) (plc (bT τ.tb τ.tp) τ.tp) 10)) := FOK_k (e := 10) (by omega) (fun i g L z => zA_k (fun i g L z => zF_k (tokOK hb) 10 i g L z) z)
  have M2 : MR σ τ al G r R [] 0 (hup h (G.1 + 40) (.inr (11, mq6 G.1 τ r (nI p) 0 (nI L.length) (nI 0) (nI g) 0))) p g L := by
    obtain ⟨so, nu, a1, a2, a3⟩ := hM.ro
    obtain ⟨op, b1, b2⟩ := hM.op
    exact ⟨Iv_6m hM.iv, oF_of hup_eq, ⟨so, nu, by rw [aI_c (hup_ne (by omega))]; exact a1, by rw [aI_c (hup_ne (by omega))]; exact a2, a3⟩, ⟨op, by rw [aI_c (hup_ne (by omega))]; exact b1, fun j hj => absurd hj (Nat.not_lt_zero _)⟩, CRw_fr (fun j h1' h2' => hup_ne (by omega)) hM.cr⟩
  have k1 := w_test (Q := Q) (T := []) hO h8 hF hFA (w_fact (d := d) hO h8 10 (by omega)) (by omega) (by decide) (by decide) (by decide) (Nat.zero_le i) (by decide) hB hg (fun f0 hn => P_fin hn (hq1 f0)) hq2 _ p x3 x4 M2 hG
  unfold mq6 at k1
  simp only [q_X11_test_0, q_X11_test_1, q_X11_test_2, q_X11_test_5, q_X11_test_6, q_X11_test_7, q_X11_test_8, ldI_s, ldJ_s, ldA_r, ldA_n, ob_s, List.getElem?_cons_zero, List.getElem?_cons_succ, List.length_cons, List.length_nil, gx_0, gx_1, gx_2, gx_3, gx_4, gx_5, gx_6, gx_7, gx_8, gx_9, gx_10, gx_11, Nat.reduceAdd, Nat.reduceLT, Nat.reduceLeDiff, Nat.reduceSub, Nat.lt_irrefl, true_and, and_true, Option.toList_some, Option.toList_none, List.cons_append, List.nil_append, csum_nil, csum_int, csum_long, csum_ref, csum_null, nar_int, nar_long, nar_ref, nar_null, nar_refA, nar_nullA, fit_int, fit_long, fit_ref, fit_refA, fit_null, fit_nullA, stL_0, stL_1i, stL_1r, stL_1n, stL_1u, stL_2i, stL_2r, stL_2n, stL_2u, stL_3i, stL_3r, stL_3n, stL_3u, stL_4i, stL_4r, stL_4n, stL_4u, stL_5i, stL_5r, stL_5n, stL_5u, stL_6i, stL_6r, stL_6n, stL_6u, stL_7i, stL_7r, stL_7n, stL_7u, stL_8i, stL_8r, stL_8n, stL_8u, stL_9i, stL_9r, stL_9n, stL_9u, stL_10i, stL_10r, stL_10n, stL_10u, stL_11i, stL_11r, stL_11n, stL_11u, stJ_0, stJ_1i, stJ_1r, stJ_1n, stJ_1u, stJ_2i, stJ_2r, stJ_2n, stJ_2u, stJ_3i, stJ_3r, stJ_3n, stJ_3u, stJ_4i, stJ_4r, stJ_4n, stJ_4u, stJ_5i, stJ_5r, stJ_5n, stJ_5u, stJ_6i, stJ_6r, stJ_6n, stJ_6u, stJ_7i, stJ_7r, stJ_7n, stJ_7u, stJ_8i, stJ_8r, stJ_8n, stJ_8u, stJ_9i, stJ_9r, stJ_9n, stJ_9u, stJ_10i, stJ_10r, stJ_10n, stJ_10u, ↓reduceIte, cat_int, cat_ref, cat_null, cat_long, va_rf_s, va_rf_n, nz_bI, nz_0, nz_1, bI_0, pd_1, pp_1, pq_1, pd_2, pp_2, pq_2, pd_3, pp_3, pq_3, pd_4, pp_4, pq_4, pd_5, pp_5, pq_5, pd_6, pp_6, pq_6, pd_7, pp_7, pq_7, pd_8, pp_8, pq_8, pd_9, pp_9, pq_9, pd_10, pp_10, pq_10, pd_11, pp_11, pq_11, pd_12, pp_12, pq_12, pd_13, pp_13, pq_13, pd_14, pp_14, pq_14, pd_15, pp_15, pq_15, pd_16, pp_16, pq_16, pd_17, pp_17, pq_17, pd_18, pp_18, pq_18, pd_19, pp_19, pq_19, pd_20, pp_20, pq_20, pd_21, pp_21, pq_21, pd_22, pp_22, pq_22, pd_23, pp_23, pq_23, pd_24, pp_24, pq_24, Nat.add_zero, Nat.zero_le, Nat.le_refl, eq_self, Option.some.injEq, exists_eq', ho, mq6, mo_g0, mo_g1, mo_g2, mo_g3, mo_g4, mo_g5, mo_g6, mo_g7, mo_g8, mo_g9, mo_g10, mo_g11, mo_g12, mo_g13, mo_g14, mo_g15, mo_g16, mo_g17, mo_g18, mo_g19, mo_g20, mo_g21, mo_g22, mo_g23, mo_g24, mo_g25, mo_g26, mo_g27, mo_g28, mo_g29, mo_g30, mo_g31, mo_g32, mo_g33, mo_g34, mo_g35, mo_g36, mo_g37, mo_g38, mo_g39, mo_g40, mo_g41, mo_g42, mo_g43, mo_g44, mo_g45, mo_g46, mo_g47, mo_g48, mo_g49, mo_g50, mo_s0, mo_s1, mo_s2, mo_s3, mo_s4, mo_s5, mo_s6, mo_s13, mo_s14, mo_s15, mo_s16, mo_s17, mo_s18, mo_s19, mo_s20, mo_s38, mo_s39, mo_s40, mo_s41, mo_s43, mo_s49, mo_s50, mo_len, hBB]
  exact k1
end MR9
