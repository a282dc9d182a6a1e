/-! a street's group of cells is made -/
def Al.add (al : Al) (o : Nat) : Al := mkAl (fun q => if q = o then al.ng else al.gid q) (fun q => q == o || al.mk q) (al.ng + 1)
theorem cnB_add {f : Nat → Bool} {o : Nat} (ho : f o = false) : ∀ n, cnB (fun q => q == o || f q) n = cnB f n + (if o < n then 1 else 0) := by
  intro n
  induction n with
  | zero => rfl
  | succ n ih =>
    rw [cnB, cnB, ih]
    by_cases c : n = o
    · subst c
      simp [ho]
    · have e : ((n == o) || f n) = f n := by simp [c]
      simp only [e]
      by_cases c2 : o < n
      · have c3 : o < n + 1 := by omega
        rw [if_pos c2, if_pos c3]; omega
      · have c3 : ¬ o < n + 1 := by omega
        rw [if_neg c2, if_neg c3]; omega
section ADD
variable {al : Al} {o : Nat}
theorem add_mk {q : Nat} : (al.add o).mk q = (q == o || al.mk q) := rfl
theorem add_mo : (al.add o).mk o = true := by rw [add_mk]; simp
theorem add_mne {q : Nat} (h : q ≠ o) : (al.add o).mk q = al.mk q := by rw [add_mk]; simp [h]
theorem add_mm {q : Nat} (h : al.mk q = true) : (al.add o).mk q = true := by rw [add_mk, h]; simp
theorem add_ad {B q : Nat} (h : q ≠ o) : (al.add o).ad B q = al.ad B q := by
  unfold Al.ad
  show B + 70 + 3 * (if q = o then al.ng else al.gid q) = _
  rw [if_neg h]
theorem add_ao {B : Nat} : (al.add o).ad B o = B + 70 + 3 * al.ng := by
  unfold Al.ad
  show B + 70 + 3 * (if o = o then al.ng else al.gid o) = _
  rw [if_pos rfl]
theorem add_ng : (al.add o).ng = al.ng + 1 := rfl
theorem add_OK (hA : AlOK al) (ho : al.mk o = false) (h : o < 132) : AlOK (al.add o) := by
  obtain ⟨a1, a2, a3⟩ := hA
  have gd : ∀ q, (al.add o).gid q = if q = o then al.ng else al.gid q := fun q => rfl
  refine ⟨fun p q hp hq e => ?_, fun q hq => ?_, ?_⟩
  · rw [gd, gd] at e
    by_cases c1 : p = o
    · by_cases c2 : q = o
      · rw [c1, c2]
      · rw [if_pos c1, if_neg c2] at e
        rw [add_mne c2] at hq
        have := (a2 q hq).1
        omega
    · rw [add_mne c1] at hp
      by_cases c2 : q = o
      · rw [if_neg c1, if_pos c2] at e
        have := (a2 p hp).1
        omega
      · rw [if_neg c1, if_neg c2] at e
        rw [add_mne c2] at hq
        exact a1 p q hp hq e
  · rw [gd, add_ng]
    by_cases c : q = o
    · rw [if_pos c]; exact ⟨by omega, by omega⟩
    · rw [if_neg c]
      rw [add_mne c] at hq
      have := a2 q hq
      omega
  · rw [add_ng, show (al.add o).mk = (fun q => q == o || al.mk q) from rfl, cnB_add ho, if_pos h, ← a3]
end ADD
theorem oF_nwA {h : aH} {b ci n : Nat} {x : Nat × vp_A} : oF (hnew h (.inl x) n) b ci = if b = h.1 then none else oF h b ci := by
  unfold oF hnew
  by_cases e : b = h.1 <;> simp [e]
theorem hnew_1 {h : aH} {n : Nat} {e : aE} : (hnew h e n).1 = h.1 + 1 := rfl
theorem hnew_3 {h : aH} {n : Nat} {e : aE} : (hnew h e n).2.2 = h.2.2 + n := rfl
theorem aR_upR {h : aH} {a b t n : Nat} {f : Nat → Option Nat} (ht : t = 5 ∨ t = 6 ∨ t = 7) : aR (hup h a (.inl (t, n, .inr (.inr (.inr (.inr f)))))) b = if b = a then some (t, n, f) else aR h b := by
  by_cases e : b = a
  · rw [if_pos e, e]; exact aR_of ht hup_eq
  · rw [if_neg e]; exact aR_c (hup_ne e)
theorem fit_b0 : fits .boolean (.int 0) = true := rfl
theorem fit_bI {P : Prop} [Decidable P] : fits .boolean (.int (bI P)) = true := by unfold bI; split <;> rfl
theorem hup_id {h : aH} {a : Nat} {e : aE} (he : h.2.1 a = some e) : hup h a e = h := by
  unfold hup
  obtain ⟨x, y, z⟩ := h
  refine congrArg (Prod.mk x) (congrArg (fun f => (f, z)) (funext fun q => ?_))
  by_cases c : q = a
  · subst c; simp [← he]
  · simp [c]
section NEWS
variable {G : aG} {d : Nat} {h h' : aH} {Q : aQ} {σ τ : Sg} {al : Al} {i : Nat}
theorem ad_lt {B o j : Nat} (hA : AlOK al) (hm : al.mk o = true) (hj : j < 3) : al.ad B o + j < B + 70 + 3 * al.ng := by
  have := (hA.2.1 o hm).1
  unfold Al.ad
  omega
theorem tA_lt {B : Nat} {j : Nat} (hA : AlOK al) (hi : i ≠ 0 → al.mk (119 + i) = true) (hj : j < 3) : tA al B i + j < B + 70 + 3 * al.ng := by
  match i with
  | 0 => rw [tA_0]; omega
  | i' + 1 =>
    rw [tA_s]
    have hi' := hi (by omega)
    rw [show 119 + (i' + 1) = 120 + i' by omega] at hi'
    exact ad_lt hA hi' hj
theorem tA_add {B o : Nat} (ho : o < 120) : tA (al.add o) B i = tA al B i := by
  match i with
  | 0 => rw [tA_0, tA_0]
  | i' + 1 => rw [tA_s, tA_s, add_ad (by omega)]
theorem XT_al {al' : Al} {B : Nat} {t : Tn} (hk : ∀ k, k < 24 → al'.mk (24 * i + k) = al.mk (24 * i + k)) (ha : ∀ k, k < 24 → al.mk (24 * i + k) = true → al'.ad B (24 * i + k) = al.ad B (24 * i + k)) (hA : tA al' B i = tA al B i) (hT : XT al B i t h) : XT al' B i t h := by
  have hmk := fun k hk => XT_mk hT (k := k) hk
  have hn := XT_n hT
  obtain ⟨f, ⟨⟨t1, t2, t3, t4⟩, t5, t6⟩, h2⟩ := hT
  unfold XT
  rw [hA]
  refine ⟨f, ⟨⟨t1, t2, t3, fun k hk' => ?_⟩, t5, fun k hk' => ?_⟩, fun k hk' => ?_⟩
  · show f k = some (al'.ad B (24 * i + k)) ∧ oF h (al'.ad B (24 * i + k)) 8 = some [.int (t.c k), .int (t.w k), .int (t.ho k), .int (t.nb k), .ref (al'.ad B (24 * i + k) + 1), .ref (al'.ad B (24 * i + k) + 2)]
    rw [ha k (by omega) (hmk k hk')]
    exact t4 k hk'
  · show (∃ g, aI h (al'.ad B (24 * i + k) + 1) 1 = some (1040, g) ∧ _) ∧ ∃ g, aI h (al'.ad B (24 * i + k) + 2) 2 = some (260, g) ∧ _
    rw [ha k (by omega) (hmk k hk')]
    exact t6 k hk'
  · rw [h2 k hk', hk k hk']
    by_cases c : al.mk (24 * i + k) = true
    · rw [if_pos c, if_pos c, ha k hk' c]
    · rw [if_neg c, if_neg c]
/-- three new cells for street k of the open town -/
theorem Iw_new (hI : Iw σ τ al G h i) {k : Nat} (hk : k < 24) (hm : al.mk (24 * i + k) = false) {f : Nat → Option Nat} (hfr : aR h (tA al G.1 i + 1) = some (5, 24, f)) (h1 : h'.1 = h.1 + 3) (h3 : h'.2.2 ≤ h.2.2 + 2000)
    (hf : ∀ q, q < h.1 → q ≠ tA al G.1 i + 1 → h'.2.1 q = h.2.1 q) (hr : aR h' (tA al G.1 i + 1) = some (5, 24, va_up f k (some h.1))) (hs : SSh h' h.1) : Iw σ τ (al.add (24 * i + k)) G h' i := by
  have i4 := hI.i4
  have hA := hI.al
  have ho : 24 * i + k < 120 := by omega
  have hz := hI.z
  have hlt := hI.lt
  have hi := hI.sh.1
  have ea : (al.add (24 * i + k)).ad G.1 (24 * i + k) = h.1 := by rw [add_ao, hz]
  have low : ∀ q, q < G.1 + 70 → q ≠ G.1 + 2 → h'.2.1 q = h.2.1 q := fun q a b => hf q (by omega) (by
    have := tA_F (al := al) (B := G.1) (i := i)
    omega)
  have adf : ∀ o j, al.mk o = true → j < 3 → (i ≠ 0 → j = 1 → o ≠ 119 + i) → h'.2.1 (al.ad G.1 o + j) = h.2.1 (al.ad G.1 o + j) := fun o j hmo hj hne => hf _ (by have := ad_lt (B := G.1) hA hmo hj; omega) (by
    match i with
    | 0 => rw [tA_0]; have := ad_ge (al := al) (B := G.1) (o := o); omega
    | i' + 1 =>
      rw [tA_s]
      have hi' := hi (by omega)
      rw [show 119 + (i' + 1) = 120 + i' by omega] at hi'
      intro e
      by_cases c : o = 120 + i'
      · subst c
        exact hne (by omega) (by omega) (by omega)
      · exact ad_ne hA hmo hi' c hj (by decide) e)
  have XTk : ∀ i' t, i' ≠ i → i' ≤ 4 → (i' ≠ 0 → al.mk (119 + i') = true) → XT al G.1 i' t h → XT (al.add (24 * i + k)) G.1 i' t h' := fun i' t hne h4 hi' hT => by
    refine XT_al (fun k' hk' => add_mne (by omega)) (fun k' hk' _ => add_ad (by omega)) (tA_add ho) ?_
    have hmk := fun k hk => XT_mk hT (k := k) hk
    have hn := XT_n hT
    obtain ⟨f', w1, w2⟩ := hT
    refine ⟨f', TW_fr (fun j hj => ?_) (fun k' hk' j hj => adf _ j (hmk k' hk') hj (by omega)) w1, w2⟩
    refine hf _ (by have := tA_lt (B := G.1) hA hi' hj; omega) (fun e => ?_)
    exact TC_t hA hne i4 h4 hi hi' hj (Or.inl ⟨1, by decide, e⟩)
  refine ⟨i4, ?_, ?_, ?_, ?_, ?_, ?_, ?_, ?_, ?_, ?_, ?_, ?_, ?_, ?_, ?_, add_OK hA hm (by omega), ?_, hlt⟩
  · rw [oF_c (low _ (by omega) (by omega))]; exact hI.o
  · rw [aI_c (low _ (by omega) (by omega))]; exact hI.tb
  · rw [aR_c (low _ (by omega) (by omega))]
    obtain ⟨f', w1, w2⟩ := hI.imr
    exact ⟨f', w1, fun j hj => by rw [w2 j hj, add_mne (by omega), add_ad (by omega)]⟩
  · rw [aR_c (low _ (by omega) (by omega))]
    obtain ⟨f', w1, w2⟩ := hI.lwr
    exact ⟨f', w1, fun r hr' => by rw [w2 r hr', add_ad (by omega)]⟩
  · exact fun h0 => XTk 0 _ (Ne.symm h0) (by omega) (fun z => absurd rfl z) (hI.t h0)
  · intro j hj hne t ht
    obtain ⟨m1, m2⟩ := hI.im j hj hne t ht
    exact ⟨add_mm m1, XTk _ _ (Ne.symm hne) (by omega) (fun _ => by rw [show 119 + (j + 1) = 120 + j by omega]; exact m1) m2⟩
  · intro j hj hne ht
    obtain ⟨m1, m2⟩ := hI.imn j hj hne ht
    exact ⟨by rw [add_mne (by omega)]; exact m1, fun k' hk' => by rw [add_mne (by omega)]; exact m2 k' hk'⟩
  · intro o ho' hmo
    by_cases c : o = 24 * i + k
    · subst c
      rw [ea]; exact hs
    · rw [add_mne c] at hmo
      rw [add_ad c]
      exact SSh_fr (fun j hj => adf o j hmo hj (by omega)) (hI.ss o ho' hmo)
  · intro r hr'
    obtain ⟨m1, m2⟩ := hI.lw r hr'
    refine ⟨add_mm m1, ?_⟩
    rw [add_ad (by omega)]
    exact LSh_fr (fun j hj => adf _ j m1 hj (by omega)) m2
  · intro r hr' hn
    rw [add_mne (by omega)]
    exact hI.lwn r hr' hn
  · obtain ⟨t1, t2, ⟨f', t3, t3'⟩, t4⟩ := hI.sh
    rw [hfr] at t3
    simp only [Option.some.injEq, Prod.mk.injEq, true_and] at t3
    subst t3
    unfold TSh
    rw [tA_add ho]
    refine ⟨fun h0 => add_mm (t1 h0), ?_, ⟨_, hr, fun k' hk' => ?_⟩, ?_⟩
    · rw [oF_c (hf _ (by have := tA_lt (B := G.1) (j := 0) hA hi (by decide); omega) (by omega))]; exact t2
    · by_cases c : k' = k
      · subst c
        rw [add_mo, if_pos rfl, ea]
        unfold va_up
        rw [if_pos rfl]
      · rw [add_mne (by omega), add_ad (by omega)]
        unfold va_up
        rw [if_neg c]
        exact t3' k' hk'
    · rw [aI_c (hf _ (by have := tA_lt (B := G.1) (j := 2) hA hi (by decide); omega) (by omega))]; exact t4
  · exact MY_fr (fun q hq => low q (by unfold MF at hq; omega) (by unfold MF at hq; omega)) hI.m
  · exact Shp_fr (fun o ho => by
      unfold scr at ho
      simp at ho
      exact low _ (by omega) (by omega)) hI.s
  · rw [h1, hz, add_ng]; omega
  · have z := hI.z2
    have e : (al.add (24 * i + k)).ng = al.ng + 1 := rfl
    omega
  · rw [low _ (by omega) (by omega)]; exact hI.nn
theorem s_Sinit {a : Nat} {x0 x1 x2 x3 x4 x5 : Value} (ho : oF h a 8 = some [x0, x1, x2, x3, x4, x5]) (hB : G.1 ≤ a) (ha : a < h.1) (hq : ∀ h', h'.1 = h.1 + 2 → h'.2.2 = h.2.2 + 1300 → (∀ q, q < h.1 → q ≠ a → h'.2.1 q = h.2.1 q) → oF h' a 8 = some [.int 0, .int 0, .int 0, .int 0, .ref h.1, .ref (h.1 + 1)] → aI h' h.1 1 = some (1040, fun _ => 0) → aI h' (h.1 + 1) 2 = some (260, fun _ => 0) → Q none h') : Rn G (d + 1) mX8_init 0 [some (.ref a)] [] h Q := by
  have ea : (a = h.1) = False := eq_false (by omega)
  have ea1 : (a = h.1 + 1) = False := eq_false (by omega)
  have c1 : (1040 : Int32).toNatClampNeg = 1040 := by decide
  have c2 : (260 : Int32).toNatClampNeg = 260 := by decide
  have c3 : ¬ (1040 : Int32) < 0 := by decide
  have c4 : ¬ (260 : Int32) < 0 := by decide
  simp only [q_X8_init_0, q_X8_init_1, q_X8_init_4, q_X8_init_5, q_X8_init_6, q_X8_init_9, q_X8_init_10, q_X8_init_11, q_X8_init_14, q_X8_init_15, q_X8_init_16, q_X8_init_19, q_X8_init_20, q_X8_init_21, q_X8_init_24, q_X8_init_25, q_X8_init_28, q_X8_init_30, q_X8_init_33, q_X8_init_34, q_X8_init_37, q_X8_init_39, q_X8_init_42, ldI_s, ldJ_s, ldA_r, ldA_n, ob_s, List.getElem?_cons_zero, List.getElem?_cons_succ, List.length_cons, List.length_nil, gx_0, gx_1, gx_2, gx_3, gx_4, gx_5, gx_6, gx_7, gx_8, gx_9, gx_10, gx_11, Nat.reduceAdd, Nat.reduceLT, Nat.reduceLeDiff, Nat.reduceSub, Nat.lt_irrefl, true_and, and_true, Option.toList_some, Option.toList_none, List.cons_append, List.nil_append, csum_nil, csum_int, csum_long, csum_ref, csum_null, nar_int, nar_long, nar_ref, nar_null, nar_refA, nar_nullA, fit_int, fit_long, fit_ref, fit_refA, fit_null, fit_nullA, stL_0, stL_1i, stL_1r, stL_1n, stL_1u, stL_2i, stL_2r, stL_2n, stL_2u, stL_3i, stL_3r, stL_3n, stL_3u, stL_4i, stL_4r, stL_4n, stL_4u, stL_5i, stL_5r, stL_5n, stL_5u, stL_6i, stL_6r, stL_6n, stL_6u, stL_7i, stL_7r, stL_7n, stL_7u, stL_8i, stL_8r, stL_8n, stL_8u, stL_9i, stL_9r, stL_9n, stL_9u, stL_10i, stL_10r, stL_10n, stL_10u, stL_11i, stL_11r, stL_11n, stL_11u, stJ_0, stJ_1i, stJ_1r, stJ_1n, stJ_1u, stJ_2i, stJ_2r, stJ_2n, stJ_2u, stJ_3i, stJ_3r, stJ_3n, stJ_3u, stJ_4i, stJ_4r, stJ_4n, stJ_4u, stJ_5i, stJ_5r, stJ_5n, stJ_5u, stJ_6i, stJ_6r, stJ_6n, stJ_6u, stJ_7i, stJ_7r, stJ_7n, stJ_7u, stJ_8i, stJ_8r, stJ_8n, stJ_8u, stJ_9i, stJ_9r, stJ_9n, stJ_9u, stJ_10i, stJ_10r, stJ_10n, stJ_10u, ↓reduceIte, cat_int, cat_ref, cat_null, cat_long, va_rf_s, va_rf_n, nz_bI, nz_0, nz_1, bI_0, pd_1, pp_1, pq_1, pd_2, pp_2, pq_2, pd_3, pp_3, pq_3, pd_4, pp_4, pq_4, pd_5, pp_5, pq_5, pd_6, pp_6, pq_6, pd_7, pp_7, pq_7, pd_8, pp_8, pq_8, pd_9, pp_9, pq_9, pd_10, pp_10, pq_10, pd_11, pp_11, pq_11, pd_12, pp_12, pq_12, pd_13, pp_13, pq_13, pd_14, pp_14, pq_14, pd_15, pp_15, pq_15, pd_16, pp_16, pq_16, pd_17, pp_17, pq_17, pd_18, pp_18, pq_18, pd_19, pp_19, pq_19, pd_20, pp_20, pq_20, pd_21, pp_21, pq_21, pd_22, pp_22, pq_22, pd_23, pp_23, pq_23, pd_24, pp_24, pq_24, Nat.add_zero, Nat.zero_le, Nat.le_refl, eq_self, Option.some.injEq, exists_eq', fs_0, fs_1, fs_2, fs_3, fs_4, fs_5, fs_6, fs_7, fs_8, fs_9, fs_10, fs_11, ho, oF_up, oF_nwA, hup_1, hnew_1, hB, ea, ea1, c1, c2, c3, c4, hup_up, fit_b0, not_false_eq_true]
  refine hq _ rfl ?_ (fun q h1 h2 => ?_) (oF_of hup_eq) ?_ ?_
  · simp only [hup_3, hnew_3]
  · rw [hup_ne h2, hnew_ne (by simp only [hup_1, hnew_1]; omega), hup_ne h2, hnew_ne (by simp only [hup_1]; omega), hup_ne h2]
  · refine aI_of ?_
    rw [hup_ne (by omega), hnew_ne (by simp only [hup_1, hnew_1]; omega), hup_ne (by omega)]
    exact hnew_eq
  · refine aI_of ?_
    rw [hup_ne (by omega)]
    exact hnew_eq
theorem s_own (hI : Iw σ τ al G h i) {k : Nat} (hk : k < 24) (hq : ∀ al' h', Iw σ τ al' G h' i → al'.mk (24 * i + k) = true → (∀ o, al.mk o = true → al'.mk o = true ∧ al'.ad G.1 o = al.ad G.1 o) → (∀ q, q < h.1 → q ≠ tA al G.1 i + 1 → h'.2.1 q = h.2.1 q) → tA al' G.1 i = tA al G.1 i → h.1 ≤ h'.1 → Q (some (.ref (al'.ad G.1 (24 * i + k)))) h') : Rn G (d + 2) mX9_ownStreet 0 [some (.ref (tA al G.1 i)), some (.int (nI k))] [] h Q := by
  obtain ⟨t1, ⟨now, st, n, bt, ft, t2⟩, ⟨f, t3, t3'⟩, t4⟩ := hI.sh
  have i4 := hI.i4
  have n1 : ¬ nI k < 0 := nI_pos (by omega)
  have n2 : nI k < nI 24 := nI_lt hk (by decide)
  have n3 : vp_in (nI k) 24 := vp_in_nI hk (by decide)
  have n4 : (nI k).toNatClampNeg = k := nI_clamp (by omega)
  cases hm : al.mk (24 * i + k) with
  | true =>
    have fk : f k = some (al.ad G.1 (24 * i + k)) := by rw [t3' k hk, if_pos hm]
    simp only [q_X9_ownStreet_0, q_X9_ownStreet_1, q_X9_ownStreet_4, q_X9_ownStreet_5, q_X9_ownStreet_6, q_X9_ownStreet_9, q_X9_ownStreet_10, q_X9_ownStreet_13, q_X9_ownStreet_14r, q_X9_ownStreet_14n, q_X9_ownStreet_15, q_X9_ownStreet_16, q_X9_ownStreet_19, q_X9_ownStreet_20, q_X9_ownStreet_21n, q_X9_ownStreet_21r, q_X9_ownStreet_24, q_X9_ownStreet_25, q_X9_ownStreet_28, q_X9_ownStreet_29, q_X9_ownStreet_32, q_X9_ownStreet_33, q_X9_ownStreet_36, q_X9_ownStreet_37, q_X9_ownStreet_38, q_X9_ownStreet_41, q_X9_ownStreet_42, q_X9_ownStreet_43r, q_X9_ownStreet_43n, ldI_s, ldJ_s, ldA_r, ldA_n, ob_s, List.getElem?_cons_zero, List.getElem?_cons_succ, List.length_cons, List.length_nil, gx_0, gx_1, gx_2, gx_3, gx_4, gx_5, gx_6, gx_7, gx_8, gx_9, gx_10, gx_11, Nat.reduceAdd, Nat.reduceLT, Nat.reduceLeDiff, Nat.reduceSub, Nat.lt_irrefl, true_and, and_true, Option.toList_some, Option.toList_none, List.cons_append, List.nil_append, csum_nil, csum_int, csum_long, csum_ref, csum_null, nar_int, nar_long, nar_ref, nar_null, nar_refA, nar_nullA, fit_int, fit_long, fit_ref, fit_refA, fit_null, fit_nullA, stL_0, stL_1i, stL_1r, stL_1n, stL_1u, stL_2i, stL_2r, stL_2n, stL_2u, stL_3i, stL_3r, stL_3n, stL_3u, stL_4i, stL_4r, stL_4n, stL_4u, stL_5i, stL_5r, stL_5n, stL_5u, stL_6i, stL_6r, stL_6n, stL_6u, stL_7i, stL_7r, stL_7n, stL_7u, stL_8i, stL_8r, stL_8n, stL_8u, stL_9i, stL_9r, stL_9n, stL_9u, stL_10i, stL_10r, stL_10n, stL_10u, stL_11i, stL_11r, stL_11n, stL_11u, stJ_0, stJ_1i, stJ_1r, stJ_1n, stJ_1u, stJ_2i, stJ_2r, stJ_2n, stJ_2u, stJ_3i, stJ_3r, stJ_3n, stJ_3u, stJ_4i, stJ_4r, stJ_4n, stJ_4u, stJ_5i, stJ_5r, stJ_5n, stJ_5u, stJ_6i, stJ_6r, stJ_6n, stJ_6u, stJ_7i, stJ_7r, stJ_7n, stJ_7u, stJ_8i, stJ_8r, stJ_8n, stJ_8u, stJ_9i, stJ_9r, stJ_9n, stJ_9u, stJ_10i, stJ_10r, stJ_10n, stJ_10u, ↓reduceIte, cat_int, cat_ref, cat_null, cat_long, va_rf_s, va_rf_n, nz_bI, nz_0, nz_1, bI_0, pd_1, pp_1, pq_1, pd_2, pp_2, pq_2, pd_3, pp_3, pq_3, pd_4, pp_4, pq_4, pd_5, pp_5, pq_5, pd_6, pp_6, pq_6, pd_7, pp_7, pq_7, pd_8, pp_8, pq_8, pd_9, pp_9, pq_9, pd_10, pp_10, pq_10, pd_11, pp_11, pq_11, pd_12, pp_12, pq_12, pd_13, pp_13, pq_13, pd_14, pp_14, pq_14, pd_15, pp_15, pq_15, pd_16, pp_16, pq_16, pd_17, pp_17, pq_17, pd_18, pp_18, pq_18, pd_19, pp_19, pq_19, pd_20, pp_20, pq_20, pd_21, pp_21, pq_21, pd_22, pp_22, pq_22, pd_23, pp_23, pq_23, pd_24, pp_24, pq_24, Nat.add_zero, Nat.zero_le, Nat.le_refl, eq_self, Option.some.injEq, exists_eq', t2, t3, aN_R t3, n1, n2, n3, n4, fk]
    exact hq al h hI hm (fun o h1 => ⟨h1, rfl⟩) (fun q _ _ => rfl) rfl (Nat.le_refl _)
  | false =>
    have fk : f k = none := by rw [t3' k hk, hm]; rfl
    have hz := hI.z
    have tl : ∀ j, j < 3 → tA al G.1 i + j < h.1 := fun j hj => by have := tA_lt (B := G.1) hI.al t1 hj; omega
    have tl0 := tl 0 (by decide)
    have tl1 := tl 1 (by decide)
    simp only [q_X9_ownStreet_0, q_X9_ownStreet_1, q_X9_ownStreet_4, q_X9_ownStreet_5, q_X9_ownStreet_6, q_X9_ownStreet_9, q_X9_ownStreet_10, q_X9_ownStreet_13, q_X9_ownStreet_14r, q_X9_ownStreet_14n, q_X9_ownStreet_15, q_X9_ownStreet_16, q_X9_ownStreet_19, q_X9_ownStreet_20, q_X9_ownStreet_21n, q_X9_ownStreet_21r, q_X9_ownStreet_24, q_X9_ownStreet_25, q_X9_ownStreet_28, q_X9_ownStreet_29, q_X9_ownStreet_32, q_X9_ownStreet_33, ldI_s, ldJ_s, ldA_r, ldA_n, ob_s, List.getElem?_cons_zero, List.getElem?_cons_succ, List.length_cons, List.length_nil, gx_0, gx_1, gx_2, gx_3, gx_4, gx_5, gx_6, gx_7, gx_8, gx_9, gx_10, gx_11, Nat.reduceAdd, Nat.reduceLT, Nat.reduceLeDiff, Nat.reduceSub, Nat.lt_irrefl, true_and, and_true, Option.toList_some, Option.toList_none, List.cons_append, List.nil_append, csum_nil, csum_int, csum_long, csum_ref, csum_null, nar_int, nar_long, nar_ref, nar_null, nar_refA, nar_nullA, fit_int, fit_long, fit_ref, fit_refA, fit_null, fit_nullA, stL_0, stL_1i, stL_1r, stL_1n, stL_1u, stL_2i, stL_2r, stL_2n, stL_2u, stL_3i, stL_3r, stL_3n, stL_3u, stL_4i, stL_4r, stL_4n, stL_4u, stL_5i, stL_5r, stL_5n, stL_5u, stL_6i, stL_6r, stL_6n, stL_6u, stL_7i, stL_7r, stL_7n, stL_7u, stL_8i, stL_8r, stL_8n, stL_8u, stL_9i, stL_9r, stL_9n, stL_9u, stL_10i, stL_10r, stL_10n, stL_10u, stL_11i, stL_11r, stL_11n, stL_11u, stJ_0, stJ_1i, stJ_1r, stJ_1n, stJ_1u, stJ_2i, stJ_2r, stJ_2n, stJ_2u, stJ_3i, stJ_3r, stJ_3n, stJ_3u, stJ_4i, stJ_4r, stJ_4n, stJ_4u, stJ_5i, stJ_5r, stJ_5n, stJ_5u, stJ_6i, stJ_6r, stJ_6n, stJ_6u, stJ_7i, stJ_7r, stJ_7n, stJ_7u, stJ_8i, stJ_8r, stJ_8n, stJ_8u, stJ_9i, stJ_9r, stJ_9n, stJ_9u, stJ_10i, stJ_10r, stJ_10n, stJ_10u, ↓reduceIte, cat_int, cat_ref, cat_null, cat_long, va_rf_s, va_rf_n, nz_bI, nz_0, nz_1, bI_0, pd_1, pp_1, pq_1, pd_2, pp_2, pq_2, pd_3, pp_3, pq_3, pd_4, pp_4, pq_4, pd_5, pp_5, pq_5, pd_6, pp_6, pq_6, pd_7, pp_7, pq_7, pd_8, pp_8, pq_8, pd_9, pp_9, pq_9, pd_10, pp_10, pq_10, pd_11, pp_11, pq_11, pd_12, pp_12, pq_12, pd_13, pp_13, pq_13, pd_14, pp_14, pq_14, pd_15, pp_15, pq_15, pd_16, pp_16, pq_16, pd_17, pp_17, pq_17, pd_18, pp_18, pq_18, pd_19, pp_19, pq_19, pd_20, pp_20, pq_20, pd_21, pp_21, pq_21, pd_22, pp_22, pq_22, pd_23, pp_23, pq_23, pd_24, pp_24, pq_24, Nat.add_zero, Nat.zero_le, Nat.le_refl, eq_self, Option.some.injEq, exists_eq', t2, t3, aN_R t3, n1, n2, n3, n4, fk]
    refine s_Sinit (oF_of hnew_eq) (by omega) (by rw [hnew_1]; omega) (fun h' e1 e2 e3 e4 e5 e6 => ?_)
    rw [hnew_1] at e1 e3 e4 e5 e6
    rw [hnew_3] at e2
    have fr : ∀ q, q < h.1 → h'.2.1 q = h.2.1 q := fun q hq => by rw [e3 q (by omega) (by omega), hnew_ne (by omega)]
    have r1 : aR h' (tA al G.1 i + 1) = some (5, 24, f) := by rw [aR_c (fr _ tl1)]; exact t3
    have r2 : oF h' (tA al G.1 i) 9 = some [.int now, .int st, .int n, .int bt, .int ft, .ref (tA al G.1 i + 1), .ref (tA al G.1 i + 2)] := by rw [oF_c (fr _ (by omega))]; exact t2
    have ne : (tA al G.1 i = tA al G.1 i + 1) = False := eq_false (by omega)
    have hB : G.1 ≤ tA al G.1 i + 1 := by
      have := tA_F (al := al) (B := G.1) (i := i)
      omega
    have up : va_up f k (some h.1) k = some h.1 := if_pos rfl
    simp only [q_X9_ownStreet_36, q_X9_ownStreet_37, q_X9_ownStreet_38, q_X9_ownStreet_41, q_X9_ownStreet_42, q_X9_ownStreet_43r, q_X9_ownStreet_43n, ldI_s, ldJ_s, ldA_r, ldA_n, ob_s, List.getElem?_cons_zero, List.getElem?_cons_succ, List.length_cons, List.length_nil, gx_0, gx_1, gx_2, gx_3, gx_4, gx_5, gx_6, gx_7, gx_8, gx_9, gx_10, gx_11, Nat.reduceAdd, Nat.reduceLT, Nat.reduceLeDiff, Nat.reduceSub, Nat.lt_irrefl, true_and, and_true, Option.toList_some, Option.toList_none, List.cons_append, List.nil_append, csum_nil, csum_int, csum_long, csum_ref, csum_null, nar_int, nar_long, nar_ref, nar_null, nar_refA, nar_nullA, fit_int, fit_long, fit_ref, fit_refA, fit_null, fit_nullA, stL_0, stL_1i, stL_1r, stL_1n, stL_1u, stL_2i, stL_2r, stL_2n, stL_2u, stL_3i, stL_3r, stL_3n, stL_3u, stL_4i, stL_4r, stL_4n, stL_4u, stL_5i, stL_5r, stL_5n, stL_5u, stL_6i, stL_6r, stL_6n, stL_6u, stL_7i, stL_7r, stL_7n, stL_7u, stL_8i, stL_8r, stL_8n, stL_8u, stL_9i, stL_9r, stL_9n, stL_9u, stL_10i, stL_10r, stL_10n, stL_10u, stL_11i, stL_11r, stL_11n, stL_11u, stJ_0, stJ_1i, stJ_1r, stJ_1n, stJ_1u, stJ_2i, stJ_2r, stJ_2n, stJ_2u, stJ_3i, stJ_3r, stJ_3n, stJ_3u, stJ_4i, stJ_4r, stJ_4n, stJ_4u, stJ_5i, stJ_5r, stJ_5n, stJ_5u, stJ_6i, stJ_6r, stJ_6n, stJ_6u, stJ_7i, stJ_7r, stJ_7n, stJ_7u, stJ_8i, stJ_8r, stJ_8n, stJ_8u, stJ_9i, stJ_9r, stJ_9n, stJ_9u, stJ_10i, stJ_10r, stJ_10n, stJ_10u, ↓reduceIte, cat_int, cat_ref, cat_null, cat_long, va_rf_s, va_rf_n, nz_bI, nz_0, nz_1, bI_0, pd_1, pp_1, pq_1, pd_2, pp_2, pq_2, pd_3, pp_3, pq_3, pd_4, pp_4, pq_4, pd_5, pp_5, pq_5, pd_6, pp_6, pq_6, pd_7, pp_7, pq_7, pd_8, pp_8, pq_8, pd_9, pp_9, pq_9, pd_10, pp_10, pq_10, pd_11, pp_11, pq_11, pd_12, pp_12, pq_12, pd_13, pp_13, pq_13, pd_14, pp_14, pq_14, pd_15, pp_15, pq_15, pd_16, pp_16, pq_16, pd_17, pp_17, pq_17, pd_18, pp_18, pq_18, pd_19, pp_19, pq_19, pd_20, pp_20, pq_20, pd_21, pp_21, pq_21, pd_22, pp_22, pq_22, pd_23, pp_23, pq_23, pd_24, pp_24, pq_24, Nat.add_zero, Nat.zero_le, Nat.le_refl, eq_self, Option.some.injEq, exists_eq', r1, r2, ne, n3, n4, oF_upA, aR_upR (Or.inl rfl), hB, up, show aTo 5 = 8 from rfl, e4]
    have key := hq (al.add (24 * i + k)) (hup h' (tA al G.1 i + 1) (.inl (5, 24, .inr (.inr (.inr (.inr (va_up f k (some h.1)))))))) (Iw_new hI hk hm t3 (by rw [hup_1, e1]) (by rw [hup_3, e2]; omega) (fun q h1 h2 => by rw [hup_ne h2, fr q h1]) (aR_of (Or.inl rfl) hup_eq) ⟨⟨0, 0, 0, 0, by rw [oF_c (hup_ne (by omega))]; exact e4⟩, ⟨_, by rw [aI_c (hup_ne (by omega))]; exact e5⟩, ⟨_, by rw [aI_c (hup_ne (by omega))]; exact e6⟩⟩) add_mo (fun o h1 => ⟨add_mm h1, add_ad (by intro z; rw [z, hm] at h1; cases h1)⟩) (fun q h1 h2 => by rw [hup_ne h2, fr q h1]) (tA_add (by omega)) (by rw [hup_1, e1]; omega)
    rw [add_ao, ← hz] at key
    exact key
theorem s_own0 {A : Nat} {x0 x1 x2 x3 x4 x6 : Value} {f : Nat → Option Nat} (ho : oF h A 9 = some [x0, x1, x2, x3, x4, .ref (A + 1), x6]) (hr : aR h (A + 1) = some (5, 24, f)) {k : Nat} (hk : ¬ k < 24) (hk2 : k < 2 ^ 31) : Rn G d mX9_ownStreet 0 [some (.ref A), some (.int (nI k))] [] h Q = Q (some .null) h := by
  have n1 : ¬ nI k < 0 := nI_pos hk2
  have n2 : ¬ nI k < nI 24 := nI_nlt (by omega) hk2
  simp only [q_X9_ownStreet_0, q_X9_ownStreet_1, q_X9_ownStreet_4, q_X9_ownStreet_5, q_X9_ownStreet_6, q_X9_ownStreet_9, q_X9_ownStreet_10, q_X9_ownStreet_13, q_X9_ownStreet_14r, q_X9_ownStreet_14n, ldI_s, ldJ_s, ldA_r, ldA_n, ob_s, List.getElem?_cons_zero, List.getElem?_cons_succ, List.length_cons, List.length_nil, gx_0, gx_1, gx_2, gx_3, gx_4, gx_5, gx_6, gx_7, gx_8, gx_9, gx_10, gx_11, Nat.reduceAdd, Nat.reduceLT, Nat.reduceLeDiff, Nat.reduceSub, Nat.lt_irrefl, true_and, and_true, Option.toList_some, Option.toList_none, List.cons_append, List.nil_append, csum_nil, csum_int, csum_long, csum_ref, csum_null, nar_int, nar_long, nar_ref, nar_null, nar_refA, nar_nullA, fit_int, fit_long, fit_ref, fit_refA, fit_null, fit_nullA, stL_0, stL_1i, stL_1r, stL_1n, stL_1u, stL_2i, stL_2r, stL_2n, stL_2u, stL_3i, stL_3r, stL_3n, stL_3u, stL_4i, stL_4r, stL_4n, stL_4u, stL_5i, stL_5r, stL_5n, stL_5u, stL_6i, stL_6r, stL_6n, stL_6u, stL_7i, stL_7r, stL_7n, stL_7u, stL_8i, stL_8r, stL_8n, stL_8u, stL_9i, stL_9r, stL_9n, stL_9u, stL_10i, stL_10r, stL_10n, stL_10u, stL_11i, stL_11r, stL_11n, stL_11u, stJ_0, stJ_1i, stJ_1r, stJ_1n, stJ_1u, stJ_2i, stJ_2r, stJ_2n, stJ_2u, stJ_3i, stJ_3r, stJ_3n, stJ_3u, stJ_4i, stJ_4r, stJ_4n, stJ_4u, stJ_5i, stJ_5r, stJ_5n, stJ_5u, stJ_6i, stJ_6r, stJ_6n, stJ_6u, stJ_7i, stJ_7r, stJ_7n, stJ_7u, stJ_8i, stJ_8r, stJ_8n, stJ_8u, stJ_9i, stJ_9r, stJ_9n, stJ_9u, stJ_10i, stJ_10r, stJ_10n, stJ_10u, ↓reduceIte, cat_int, cat_ref, cat_null, cat_long, va_rf_s, va_rf_n, nz_bI, nz_0, nz_1, bI_0, pd_1, pp_1, pq_1, pd_2, pp_2, pq_2, pd_3, pp_3, pq_3, pd_4, pp_4, pq_4, pd_5, pp_5, pq_5, pd_6, pp_6, pq_6, pd_7, pp_7, pq_7, pd_8, pp_8, pq_8, pd_9, pp_9, pq_9, pd_10, pp_10, pq_10, pd_11, pp_11, pq_11, pd_12, pp_12, pq_12, pd_13, pp_13, pq_13, pd_14, pp_14, pq_14, pd_15, pp_15, pq_15, pd_16, pp_16, pq_16, pd_17, pp_17, pq_17, pd_18, pp_18, pq_18, pd_19, pp_19, pq_19, pd_20, pp_20, pq_20, pd_21, pp_21, pq_21, pd_22, pp_22, pq_22, pd_23, pp_23, pq_23, pd_24, pp_24, pq_24, Nat.add_zero, Nat.zero_le, Nat.le_refl, eq_self, Option.some.injEq, exists_eq', ho, hr, aN_R hr, n1, n2]
def fil (v : Int32) (n : Nat) (g : Nat → Int32) (q : Nat) : Int32 := if q < n then v else g q
theorem fil_0 {v : Int32} {g : Nat → Int32} : fil v 0 g = g := funext fun q => if_neg (by omega)
theorem fil_s {v : Int32} {n : Nat} {g : Nat → Int32} : upd (fil v n g) n v = fil v (n + 1) g := by
  funext q
  unfold upd fil
  by_cases c : q = n
  · rw [if_pos c, if_pos (by omega)]
  · rw [if_neg c]
    by_cases c2 : q < n
    · rw [if_pos c2, if_pos (by omega)]
    · rw [if_neg c2, if_neg (by omega)]
theorem l_fillB {b n : Nat} {g : Nat → Int32} {v : Int32} (hb : G.1 ≤ b) (hn : n < 2 ^ 31) : ∀ j i, i + j = n → Rn G d mJ7_fill_031fb 5 [some (.ref b), some (.int v), some (.int (nI i)), some (.int (nI n))] [] (hup h b (.inl (1, n, .inl (fil (vp_nar .byte v) i g)))) Q = Q none (hup h b (.inl (1, n, .inl (fil (vp_nar .byte v) n g)))) := by
  intro j
  induction j with
  | zero =>
    intro i hi
    have e : i = n := by omega
    subst e
    simp only [q_J7_fill_031fb_5, q_J7_fill_031fb_6, q_J7_fill_031fb_7, ldI_s, ldJ_s, ldA_r, ldA_n, ob_s, List.getElem?_cons_zero, List.getElem?_cons_succ, List.length_cons, List.length_nil, gx_0, gx_1, gx_2, gx_3, gx_4, gx_5, gx_6, gx_7, gx_8, gx_9, gx_10, gx_11, Nat.reduceAdd, Nat.reduceLT, Nat.reduceLeDiff, Nat.reduceSub, Nat.lt_irrefl, true_and, and_true, Option.toList_some, Option.toList_none, List.cons_append, List.nil_append, csum_nil, csum_int, csum_long, csum_ref, csum_null, nar_int, nar_long, nar_ref, nar_null, nar_refA, nar_nullA, fit_int, fit_long, fit_ref, fit_refA, fit_null, fit_nullA, stL_0, stL_1i, stL_1r, stL_1n, stL_1u, stL_2i, stL_2r, stL_2n, stL_2u, stL_3i, stL_3r, stL_3n, stL_3u, stL_4i, stL_4r, stL_4n, stL_4u, stL_5i, stL_5r, stL_5n, stL_5u, stL_6i, stL_6r, stL_6n, stL_6u, stL_7i, stL_7r, stL_7n, stL_7u, stL_8i, stL_8r, stL_8n, stL_8u, stL_9i, stL_9r, stL_9n, stL_9u, stL_10i, stL_10r, stL_10n, stL_10u, stL_11i, stL_11r, stL_11n, stL_11u, stJ_0, stJ_1i, stJ_1r, stJ_1n, stJ_1u, stJ_2i, stJ_2r, stJ_2n, stJ_2u, stJ_3i, stJ_3r, stJ_3n, stJ_3u, stJ_4i, stJ_4r, stJ_4n, stJ_4u, stJ_5i, stJ_5r, stJ_5n, stJ_5u, stJ_6i, stJ_6r, stJ_6n, stJ_6u, stJ_7i, stJ_7r, stJ_7n, stJ_7u, stJ_8i, stJ_8r, stJ_8n, stJ_8u, stJ_9i, stJ_9r, stJ_9n, stJ_9u, stJ_10i, stJ_10r, stJ_10n, stJ_10u, ↓reduceIte, cat_int, cat_ref, cat_null, cat_long, va_rf_s, va_rf_n, nz_bI, nz_0, nz_1, bI_0, pd_1, pp_1, pq_1, pd_2, pp_2, pq_2, pd_3, pp_3, pq_3, pd_4, pp_4, pq_4, pd_5, pp_5, pq_5, pd_6, pp_6, pq_6, pd_7, pp_7, pq_7, pd_8, pp_8, pq_8, pd_9, pp_9, pq_9, pd_10, pp_10, pq_10, pd_11, pp_11, pq_11, pd_12, pp_12, pq_12, pd_13, pp_13, pq_13, pd_14, pp_14, pq_14, pd_15, pp_15, pq_15, pd_16, pp_16, pq_16, pd_17, pp_17, pq_17, pd_18, pp_18, pq_18, pd_19, pp_19, pq_19, pd_20, pp_20, pq_20, pd_21, pp_21, pq_21, pd_22, pp_22, pq_22, pd_23, pp_23, pq_23, pd_24, pp_24, pq_24, Nat.add_zero, Nat.zero_le, Nat.le_refl, eq_self, Option.some.injEq, exists_eq', Int32.le_refl]
    simp only [q_J7_fill_031fb_20, ldI_s, ldJ_s, ldA_r, ldA_n, ob_s, List.getElem?_cons_zero, List.getElem?_cons_succ, List.length_cons, List.length_nil, gx_0, gx_1, gx_2, gx_3, gx_4, gx_5, gx_6, gx_7, gx_8, gx_9, gx_10, gx_11, Nat.reduceAdd, Nat.reduceLT, Nat.reduceLeDiff, Nat.reduceSub, Nat.lt_irrefl, true_and, and_true, Option.toList_some, Option.toList_none, List.cons_append, List.nil_append, csum_nil, csum_int, csum_long, csum_ref, csum_null, nar_int, nar_long, nar_ref, nar_null, nar_refA, nar_nullA, fit_int, fit_long, fit_ref, fit_refA, fit_null, fit_nullA, stL_0, stL_1i, stL_1r, stL_1n, stL_1u, stL_2i, stL_2r, stL_2n, stL_2u, stL_3i, stL_3r, stL_3n, stL_3u, stL_4i, stL_4r, stL_4n, stL_4u, stL_5i, stL_5r, stL_5n, stL_5u, stL_6i, stL_6r, stL_6n, stL_6u, stL_7i, stL_7r, stL_7n, stL_7u, stL_8i, stL_8r, stL_8n, stL_8u, stL_9i, stL_9r, stL_9n, stL_9u, stL_10i, stL_10r, stL_10n, stL_10u, stL_11i, stL_11r, stL_11n, stL_11u, stJ_0, stJ_1i, stJ_1r, stJ_1n, stJ_1u, stJ_2i, stJ_2r, stJ_2n, stJ_2u, stJ_3i, stJ_3r, stJ_3n, stJ_3u, stJ_4i, stJ_4r, stJ_4n, stJ_4u, stJ_5i, stJ_5r, stJ_5n, stJ_5u, stJ_6i, stJ_6r, stJ_6n, stJ_6u, stJ_7i, stJ_7r, stJ_7n, stJ_7u, stJ_8i, stJ_8r, stJ_8n, stJ_8u, stJ_9i, stJ_9r, stJ_9n, stJ_9u, stJ_10i, stJ_10r, stJ_10n, stJ_10u, ↓reduceIte, cat_int, cat_ref, cat_null, cat_long, va_rf_s, va_rf_n, nz_bI, nz_0, nz_1, bI_0, pd_1, pp_1, pq_1, pd_2, pp_2, pq_2, pd_3, pp_3, pq_3, pd_4, pp_4, pq_4, pd_5, pp_5, pq_5, pd_6, pp_6, pq_6, pd_7, pp_7, pq_7, pd_8, pp_8, pq_8, pd_9, pp_9, pq_9, pd_10, pp_10, pq_10, pd_11, pp_11, pq_11, pd_12, pp_12, pq_12, pd_13, pp_13, pq_13, pd_14, pp_14, pq_14, pd_15, pp_15, pq_15, pd_16, pp_16, pq_16, pd_17, pp_17, pq_17, pd_18, pp_18, pq_18, pd_19, pp_19, pq_19, pd_20, pp_20, pq_20, pd_21, pp_21, pq_21, pd_22, pp_22, pq_22, pd_23, pp_23, pq_23, pd_24, pp_24, pq_24, Nat.add_zero, Nat.zero_le, Nat.le_refl, eq_self, Option.some.injEq, exists_eq']
  | succ j ih =>
    intro i hi
    have g1 : ¬ nI n ≤ nI i := nI_ge (by omega) (by omega)
    have g3 : vp_in (nI i) n := vp_in_nI (by omega) (by omega)
    have g4 : (nI i).toNatClampNeg = i := nI_clamp (by omega)
    have e := ih (i + 1) (by omega)
    simp only [q_J7_fill_031fb_5, q_J7_fill_031fb_6, q_J7_fill_031fb_7, ldI_s, ldJ_s, ldA_r, ldA_n, ob_s, List.getElem?_cons_zero, List.getElem?_cons_succ, List.length_cons, List.length_nil, gx_0, gx_1, gx_2, gx_3, gx_4, gx_5, gx_6, gx_7, gx_8, gx_9, gx_10, gx_11, Nat.reduceAdd, Nat.reduceLT, Nat.reduceLeDiff, Nat.reduceSub, Nat.lt_irrefl, true_and, and_true, Option.toList_some, Option.toList_none, List.cons_append, List.nil_append, csum_nil, csum_int, csum_long, csum_ref, csum_null, nar_int, nar_long, nar_ref, nar_null, nar_refA, nar_nullA, fit_int, fit_long, fit_ref, fit_refA, fit_null, fit_nullA, stL_0, stL_1i, stL_1r, stL_1n, stL_1u, stL_2i, stL_2r, stL_2n, stL_2u, stL_3i, stL_3r, stL_3n, stL_3u, stL_4i, stL_4r, stL_4n, stL_4u, stL_5i, stL_5r, stL_5n, stL_5u, stL_6i, stL_6r, stL_6n, stL_6u, stL_7i, stL_7r, stL_7n, stL_7u, stL_8i, stL_8r, stL_8n, stL_8u, stL_9i, stL_9r, stL_9n, stL_9u, stL_10i, stL_10r, stL_10n, stL_10u, stL_11i, stL_11r, stL_11n, stL_11u, stJ_0, stJ_1i, stJ_1r, stJ_1n, stJ_1u, stJ_2i, stJ_2r, stJ_2n, stJ_2u, stJ_3i, stJ_3r, stJ_3n, stJ_3u, stJ_4i, stJ_4r, stJ_4n, stJ_4u, stJ_5i, stJ_5r, stJ_5n, stJ_5u, stJ_6i, stJ_6r, stJ_6n, stJ_6u, stJ_7i, stJ_7r, stJ_7n, stJ_7u, stJ_8i, stJ_8r, stJ_8n, stJ_8u, stJ_9i, stJ_9r, stJ_9n, stJ_9u, stJ_10i, stJ_10r, stJ_10n, stJ_10u, ↓reduceIte, cat_int, cat_ref, cat_null, cat_long, va_rf_s, va_rf_n, nz_bI, nz_0, nz_1, bI_0, pd_1, pp_1, pq_1, pd_2, pp_2, pq_2, pd_3, pp_3, pq_3, pd_4, pp_4, pq_4, pd_5, pp_5, pq_5, pd_6, pp_6, pq_6, pd_7, pp_7, pq_7, pd_8, pp_8, pq_8, pd_9, pp_9, pq_9, pd_10, pp_10, pq_10, pd_11, pp_11, pq_11, pd_12, pp_12, pq_12, pd_13, pp_13, pq_13, pd_14, pp_14, pq_14, pd_15, pp_15, pq_15, pd_16, pp_16, pq_16, pd_17, pp_17, pq_17, pd_18, pp_18, pq_18, pd_19, pp_19, pq_19, pd_20, pp_20, pq_20, pd_21, pp_21, pq_21, pd_22, pp_22, pq_22, pd_23, pp_23, pq_23, pd_24, pp_24, pq_24, Nat.add_zero, Nat.zero_le, Nat.le_refl, eq_self, Option.some.injEq, exists_eq', g1]
    simp only [q_J7_fill_031fb_10, q_J7_fill_031fb_11, q_J7_fill_031fb_12, q_J7_fill_031fb_13, q_J7_fill_031fb_14, q_J7_fill_031fb_17, ldI_s, ldJ_s, ldA_r, ldA_n, ob_s, List.getElem?_cons_zero, List.getElem?_cons_succ, List.length_cons, List.length_nil, gx_0, gx_1, gx_2, gx_3, gx_4, gx_5, gx_6, gx_7, gx_8, gx_9, gx_10, gx_11, Nat.reduceAdd, Nat.reduceLT, Nat.reduceLeDiff, Nat.reduceSub, Nat.lt_irrefl, true_and, and_true, Option.toList_some, Option.toList_none, List.cons_append, List.nil_append, csum_nil, csum_int, csum_long, csum_ref, csum_null, nar_int, nar_long, nar_ref, nar_null, nar_refA, nar_nullA, fit_int, fit_long, fit_ref, fit_refA, fit_null, fit_nullA, stL_0, stL_1i, stL_1r, stL_1n, stL_1u, stL_2i, stL_2r, stL_2n, stL_2u, stL_3i, stL_3r, stL_3n, stL_3u, stL_4i, stL_4r, stL_4n, stL_4u, stL_5i, stL_5r, stL_5n, stL_5u, stL_6i, stL_6r, stL_6n, stL_6u, stL_7i, stL_7r, stL_7n, stL_7u, stL_8i, stL_8r, stL_8n, stL_8u, stL_9i, stL_9r, stL_9n, stL_9u, stL_10i, stL_10r, stL_10n, stL_10u, stL_11i, stL_11r, stL_11n, stL_11u, stJ_0, stJ_1i, stJ_1r, stJ_1n, stJ_1u, stJ_2i, stJ_2r, stJ_2n, stJ_2u, stJ_3i, stJ_3r, stJ_3n, stJ_3u, stJ_4i, stJ_4r, stJ_4n, stJ_4u, stJ_5i, stJ_5r, stJ_5n, stJ_5u, stJ_6i, stJ_6r, stJ_6n, stJ_6u, stJ_7i, stJ_7r, stJ_7n, stJ_7u, stJ_8i, stJ_8r, stJ_8n, stJ_8u, stJ_9i, stJ_9r, stJ_9n, stJ_9u, stJ_10i, stJ_10r, stJ_10n, stJ_10u, ↓reduceIte, cat_int, cat_ref, cat_null, cat_long, va_rf_s, va_rf_n, nz_bI, nz_0, nz_1, bI_0, pd_1, pp_1, pq_1, pd_2, pp_2, pq_2, pd_3, pp_3, pq_3, pd_4, pp_4, pq_4, pd_5, pp_5, pq_5, pd_6, pp_6, pq_6, pd_7, pp_7, pq_7, pd_8, pp_8, pq_8, pd_9, pp_9, pq_9, pd_10, pp_10, pq_10, pd_11, pp_11, pq_11, pd_12, pp_12, pq_12, pd_13, pp_13, pq_13, pd_14, pp_14, pq_14, pd_15, pp_15, pq_15, pd_16, pp_16, pq_16, pd_17, pp_17, pq_17, pd_18, pp_18, pq_18, pd_19, pp_19, pq_19, pd_20, pp_20, pq_20, pd_21, pp_21, pq_21, pd_22, pp_22, pq_22, pd_23, pp_23, pq_23, pd_24, pp_24, pq_24, Nat.add_zero, Nat.zero_le, Nat.le_refl, eq_self, Option.some.injEq, exists_eq', aI_up, g3, g4, hb, hup_up, fil_s, nI_1]
    exact e
theorem s_fillB {b n : Nat} {g : Nat → Int32} {v : Int32} (hb : G.1 ≤ b) (hn : n < 2 ^ 31) (hg : aI h b 1 = some (n, g)) : Rn G d mJ7_fill_031fb 0 [some (.ref b), some (.int v), none, none] [] h Q = Q none (hup h b (.inl (1, n, .inl (fil (vp_nar .byte v) n g)))) := by
  have e := l_fillB (d := d) (h := h) (g := g) (Q := Q) (v := v) hb hn n 0 (by omega)
  rw [fil_0, hup_id (aI_at hg)] at e
  simp only [q_J7_fill_031fb_0, q_J7_fill_031fb_1, q_J7_fill_031fb_2, q_J7_fill_031fb_3, q_J7_fill_031fb_4, ldI_s, ldJ_s, ldA_r, ldA_n, ob_s, List.getElem?_cons_zero, List.getElem?_cons_succ, List.length_cons, List.length_nil, gx_0, gx_1, gx_2, gx_3, gx_4, gx_5, gx_6, gx_7, gx_8, gx_9, gx_10, gx_11, Nat.reduceAdd, Nat.reduceLT, Nat.reduceLeDiff, Nat.reduceSub, Nat.lt_irrefl, true_and, and_true, Option.toList_some, Option.toList_none, List.cons_append, List.nil_append, csum_nil, csum_int, csum_long, csum_ref, csum_null, nar_int, nar_long, nar_ref, nar_null, nar_refA, nar_nullA, fit_int, fit_long, fit_ref, fit_refA, fit_null, fit_nullA, stL_0, stL_1i, stL_1r, stL_1n, stL_1u, stL_2i, stL_2r, stL_2n, stL_2u, stL_3i, stL_3r, stL_3n, stL_3u, stL_4i, stL_4r, stL_4n, stL_4u, stL_5i, stL_5r, stL_5n, stL_5u, stL_6i, stL_6r, stL_6n, stL_6u, stL_7i, stL_7r, stL_7n, stL_7u, stL_8i, stL_8r, stL_8n, stL_8u, stL_9i, stL_9r, stL_9n, stL_9u, stL_10i, stL_10r, stL_10n, stL_10u, stL_11i, stL_11r, stL_11n, stL_11u, stJ_0, stJ_1i, stJ_1r, stJ_1n, stJ_1u, stJ_2i, stJ_2r, stJ_2n, stJ_2u, stJ_3i, stJ_3r, stJ_3n, stJ_3u, stJ_4i, stJ_4r, stJ_4n, stJ_4u, stJ_5i, stJ_5r, stJ_5n, stJ_5u, stJ_6i, stJ_6r, stJ_6n, stJ_6u, stJ_7i, stJ_7r, stJ_7n, stJ_7u, stJ_8i, stJ_8r, stJ_8n, stJ_8u, stJ_9i, stJ_9r, stJ_9n, stJ_9u, stJ_10i, stJ_10r, stJ_10n, stJ_10u, ↓reduceIte, cat_int, cat_ref, cat_null, cat_long, va_rf_s, va_rf_n, nz_bI, nz_0, nz_1, bI_0, pd_1, pp_1, pq_1, pd_2, pp_2, pq_2, pd_3, pp_3, pq_3, pd_4, pp_4, pq_4, pd_5, pp_5, pq_5, pd_6, pp_6, pq_6, pd_7, pp_7, pq_7, pd_8, pp_8, pq_8, pd_9, pp_9, pq_9, pd_10, pp_10, pq_10, pd_11, pp_11, pq_11, pd_12, pp_12, pq_12, pd_13, pp_13, pq_13, pd_14, pp_14, pq_14, pd_15, pp_15, pq_15, pd_16, pp_16, pq_16, pd_17, pp_17, pq_17, pd_18, pp_18, pq_18, pd_19, pp_19, pq_19, pd_20, pp_20, pq_20, pd_21, pp_21, pq_21, pd_22, pp_22, pq_22, pd_23, pp_23, pq_23, pd_24, pp_24, pq_24, Nat.add_zero, Nat.zero_le, Nat.le_refl, eq_self, Option.some.injEq, exists_eq', aN_I (by decide : 1 < 8) hg]
  exact e
theorem l_fillS {b n : Nat} {g : Nat → Int32} {v : Int32} (hb : G.1 ≤ b) (hn : n < 2 ^ 31) : ∀ j i, i + j = n → Rn G d mJ7_fill_fb410 5 [some (.ref b), some (.int v), some (.int (nI i)), some (.int (nI n))] [] (hup h b (.inl (2, n, .inl (fil (vp_nar .short v) i g)))) Q = Q none (hup h b (.inl (2, n, .inl (fil (vp_nar .short v) n g)))) := by
  intro j
  induction j with
  | zero =>
    intro i hi
    have e : i = n := by omega
    subst e
    simp only [q_J7_fill_fb410_5, q_J7_fill_fb410_6, q_J7_fill_fb410_7, ldI_s, ldJ_s, ldA_r, ldA_n, ob_s, List.getElem?_cons_zero, List.getElem?_cons_succ, List.length_cons, List.length_nil, gx_0, gx_1, gx_2, gx_3, gx_4, gx_5, gx_6, gx_7, gx_8, gx_9, gx_10, gx_11, Nat.reduceAdd, Nat.reduceLT, Nat.reduceLeDiff, Nat.reduceSub, Nat.lt_irrefl, true_and, and_true, Option.toList_some, Option.toList_none, List.cons_append, List.nil_append, csum_nil, csum_int, csum_long, csum_ref, csum_null, nar_int, nar_long, nar_ref, nar_null, nar_refA, nar_nullA, fit_int, fit_long, fit_ref, fit_refA, fit_null, fit_nullA, stL_0, stL_1i, stL_1r, stL_1n, stL_1u, stL_2i, stL_2r, stL_2n, stL_2u, stL_3i, stL_3r, stL_3n, stL_3u, stL_4i, stL_4r, stL_4n, stL_4u, stL_5i, stL_5r, stL_5n, stL_5u, stL_6i, stL_6r, stL_6n, stL_6u, stL_7i, stL_7r, stL_7n, stL_7u, stL_8i, stL_8r, stL_8n, stL_8u, stL_9i, stL_9r, stL_9n, stL_9u, stL_10i, stL_10r, stL_10n, stL_10u, stL_11i, stL_11r, stL_11n, stL_11u, stJ_0, stJ_1i, stJ_1r, stJ_1n, stJ_1u, stJ_2i, stJ_2r, stJ_2n, stJ_2u, stJ_3i, stJ_3r, stJ_3n, stJ_3u, stJ_4i, stJ_4r, stJ_4n, stJ_4u, stJ_5i, stJ_5r, stJ_5n, stJ_5u, stJ_6i, stJ_6r, stJ_6n, stJ_6u, stJ_7i, stJ_7r, stJ_7n, stJ_7u, stJ_8i, stJ_8r, stJ_8n, stJ_8u, stJ_9i, stJ_9r, stJ_9n, stJ_9u, stJ_10i, stJ_10r, stJ_10n, stJ_10u, ↓reduceIte, cat_int, cat_ref, cat_null, cat_long, va_rf_s, va_rf_n, nz_bI, nz_0, nz_1, bI_0, pd_1, pp_1, pq_1, pd_2, pp_2, pq_2, pd_3, pp_3, pq_3, pd_4, pp_4, pq_4, pd_5, pp_5, pq_5, pd_6, pp_6, pq_6, pd_7, pp_7, pq_7, pd_8, pp_8, pq_8, pd_9, pp_9, pq_9, pd_10, pp_10, pq_10, pd_11, pp_11, pq_11, pd_12, pp_12, pq_12, pd_13, pp_13, pq_13, pd_14, pp_14, pq_14, pd_15, pp_15, pq_15, pd_16, pp_16, pq_16, pd_17, pp_17, pq_17, pd_18, pp_18, pq_18, pd_19, pp_19, pq_19, pd_20, pp_20, pq_20, pd_21, pp_21, pq_21, pd_22, pp_22, pq_22, pd_23, pp_23, pq_23, pd_24, pp_24, pq_24, Nat.add_zero, Nat.zero_le, Nat.le_refl, eq_self, Option.some.injEq, exists_eq', Int32.le_refl]
    simp only [q_J7_fill_fb410_20, ldI_s, ldJ_s, ldA_r, ldA_n, ob_s, List.getElem?_cons_zero, List.getElem?_cons_succ, List.length_cons, List.length_nil, gx_0, gx_1, gx_2, gx_3, gx_4, gx_5, gx_6, gx_7, gx_8, gx_9, gx_10, gx_11, Nat.reduceAdd, Nat.reduceLT, Nat.reduceLeDiff, Nat.reduceSub, Nat.lt_irrefl, true_and, and_true, Option.toList_some, Option.toList_none, List.cons_append, List.nil_append, csum_nil, csum_int, csum_long, csum_ref, csum_null, nar_int, nar_long, nar_ref, nar_null, nar_refA, nar_nullA, fit_int, fit_long, fit_ref, fit_refA, fit_null, fit_nullA, stL_0, stL_1i, stL_1r, stL_1n, stL_1u, stL_2i, stL_2r, stL_2n, stL_2u, stL_3i, stL_3r, stL_3n, stL_3u, stL_4i, stL_4r, stL_4n, stL_4u, stL_5i, stL_5r, stL_5n, stL_5u, stL_6i, stL_6r, stL_6n, stL_6u, stL_7i, stL_7r, stL_7n, stL_7u, stL_8i, stL_8r, stL_8n, stL_8u, stL_9i, stL_9r, stL_9n, stL_9u, stL_10i, stL_10r, stL_10n, stL_10u, stL_11i, stL_11r, stL_11n, stL_11u, stJ_0, stJ_1i, stJ_1r, stJ_1n, stJ_1u, stJ_2i, stJ_2r, stJ_2n, stJ_2u, stJ_3i, stJ_3r, stJ_3n, stJ_3u, stJ_4i, stJ_4r, stJ_4n, stJ_4u, stJ_5i, stJ_5r, stJ_5n, stJ_5u, stJ_6i, stJ_6r, stJ_6n, stJ_6u, stJ_7i, stJ_7r, stJ_7n, stJ_7u, stJ_8i, stJ_8r, stJ_8n, stJ_8u, stJ_9i, stJ_9r, stJ_9n, stJ_9u, stJ_10i, stJ_10r, stJ_10n, stJ_10u, ↓reduceIte, cat_int, cat_ref, cat_null, cat_long, va_rf_s, va_rf_n, nz_bI, nz_0, nz_1, bI_0, pd_1, pp_1, pq_1, pd_2, pp_2, pq_2, pd_3, pp_3, pq_3, pd_4, pp_4, pq_4, pd_5, pp_5, pq_5, pd_6, pp_6, pq_6, pd_7, pp_7, pq_7, pd_8, pp_8, pq_8, pd_9, pp_9, pq_9, pd_10, pp_10, pq_10, pd_11, pp_11, pq_11, pd_12, pp_12, pq_12, pd_13, pp_13, pq_13, pd_14, pp_14, pq_14, pd_15, pp_15, pq_15, pd_16, pp_16, pq_16, pd_17, pp_17, pq_17, pd_18, pp_18, pq_18, pd_19, pp_19, pq_19, pd_20, pp_20, pq_20, pd_21, pp_21, pq_21, pd_22, pp_22, pq_22, pd_23, pp_23, pq_23, pd_24, pp_24, pq_24, Nat.add_zero, Nat.zero_le, Nat.le_refl, eq_self, Option.some.injEq, exists_eq']
  | succ j ih =>
    intro i hi
    have g1 : ¬ nI n ≤ nI i := nI_ge (by omega) (by omega)
    have g3 : vp_in (nI i) n := vp_in_nI (by omega) (by omega)
    have g4 : (nI i).toNatClampNeg = i := nI_clamp (by omega)
    have e := ih (i + 1) (by omega)
    simp only [q_J7_fill_fb410_5, q_J7_fill_fb410_6, q_J7_fill_fb410_7, ldI_s, ldJ_s, ldA_r, ldA_n, ob_s, List.getElem?_cons_zero, List.getElem?_cons_succ, List.length_cons, List.length_nil, gx_0, gx_1, gx_2, gx_3, gx_4, gx_5, gx_6, gx_7, gx_8, gx_9, gx_10, gx_11, Nat.reduceAdd, Nat.reduceLT, Nat.reduceLeDiff, Nat.reduceSub, Nat.lt_irrefl, true_and, and_true, Option.toList_some, Option.toList_none, List.cons_append, List.nil_append, csum_nil, csum_int, csum_long, csum_ref, csum_null, nar_int, nar_long, nar_ref, nar_null, nar_refA, nar_nullA, fit_int, fit_long, fit_ref, fit_refA, fit_null, fit_nullA, stL_0, stL_1i, stL_1r, stL_1n, stL_1u, stL_2i, stL_2r, stL_2n, stL_2u, stL_3i, stL_3r, stL_3n, stL_3u, stL_4i, stL_4r, stL_4n, stL_4u, stL_5i, stL_5r, stL_5n, stL_5u, stL_6i, stL_6r, stL_6n, stL_6u, stL_7i, stL_7r, stL_7n, stL_7u, stL_8i, stL_8r, stL_8n, stL_8u, stL_9i, stL_9r, stL_9n, stL_9u, stL_10i, stL_10r, stL_10n, stL_10u, stL_11i, stL_11r, stL_11n, stL_11u, stJ_0, stJ_1i, stJ_1r, stJ_1n, stJ_1u, stJ_2i, stJ_2r, stJ_2n, stJ_2u, stJ_3i, stJ_3r, stJ_3n, stJ_3u, stJ_4i, stJ_4r, stJ_4n, stJ_4u, stJ_5i, stJ_5r, stJ_5n, stJ_5u, stJ_6i, stJ_6r, stJ_6n, stJ_6u, stJ_7i, stJ_7r, stJ_7n, stJ_7u, stJ_8i, stJ_8r, stJ_8n, stJ_8u, stJ_9i, stJ_9r, stJ_9n, stJ_9u, stJ_10i, stJ_10r, stJ_10n, stJ_10u, ↓reduceIte, cat_int, cat_ref, cat_null, cat_long, va_rf_s, va_rf_n, nz_bI, nz_0, nz_1, bI_0, pd_1, pp_1, pq_1, pd_2, pp_2, pq_2, pd_3, pp_3, pq_3, pd_4, pp_4, pq_4, pd_5, pp_5, pq_5, pd_6, pp_6, pq_6, pd_7, pp_7, pq_7, pd_8, pp_8, pq_8, pd_9, pp_9, pq_9, pd_10, pp_10, pq_10, pd_11, pp_11, pq_11, pd_12, pp_12, pq_12, pd_13, pp_13, pq_13, pd_14, pp_14, pq_14, pd_15, pp_15, pq_15, pd_16, pp_16, pq_16, pd_17, pp_17, pq_17, pd_18, pp_18, pq_18, pd_19, pp_19, pq_19, pd_20, pp_20, pq_20, pd_21, pp_21, pq_21, pd_22, pp_22, pq_22, pd_23, pp_23, pq_23, pd_24, pp_24, pq_24, Nat.add_zero, Nat.zero_le, Nat.le_refl, eq_self, Option.some.injEq, exists_eq', g1]
    simp only [q_J7_fill_fb410_10, q_J7_fill_fb410_11, q_J7_fill_fb410_12, q_J7_fill_fb410_13, q_J7_fill_fb410_14, q_J7_fill_fb410_17, ldI_s, ldJ_s, ldA_r, ldA_n, ob_s, List.getElem?_cons_zero, List.getElem?_cons_succ, List.length_cons, List.length_nil, gx_0, gx_1, gx_2, gx_3, gx_4, gx_5, gx_6, gx_7, gx_8, gx_9, gx_10, gx_11, Nat.reduceAdd, Nat.reduceLT, Nat.reduceLeDiff, Nat.reduceSub, Nat.lt_irrefl, true_and, and_true, Option.toList_some, Option.toList_none, List.cons_append, List.nil_append, csum_nil, csum_int, csum_long, csum_ref, csum_null, nar_int, nar_long, nar_ref, nar_null, nar_refA, nar_nullA, fit_int, fit_long, fit_ref, fit_refA, fit_null, fit_nullA, stL_0, stL_1i, stL_1r, stL_1n, stL_1u, stL_2i, stL_2r, stL_2n, stL_2u, stL_3i, stL_3r, stL_3n, stL_3u, stL_4i, stL_4r, stL_4n, stL_4u, stL_5i, stL_5r, stL_5n, stL_5u, stL_6i, stL_6r, stL_6n, stL_6u, stL_7i, stL_7r, stL_7n, stL_7u, stL_8i, stL_8r, stL_8n, stL_8u, stL_9i, stL_9r, stL_9n, stL_9u, stL_10i, stL_10r, stL_10n, stL_10u, stL_11i, stL_11r, stL_11n, stL_11u, stJ_0, stJ_1i, stJ_1r, stJ_1n, stJ_1u, stJ_2i, stJ_2r, stJ_2n, stJ_2u, stJ_3i, stJ_3r, stJ_3n, stJ_3u, stJ_4i, stJ_4r, stJ_4n, stJ_4u, stJ_5i, stJ_5r, stJ_5n, stJ_5u, stJ_6i, stJ_6r, stJ_6n, stJ_6u, stJ_7i, stJ_7r, stJ_7n, stJ_7u, stJ_8i, stJ_8r, stJ_8n, stJ_8u, stJ_9i, stJ_9r, stJ_9n, stJ_9u, stJ_10i, stJ_10r, stJ_10n, stJ_10u, ↓reduceIte, cat_int, cat_ref, cat_null, cat_long, va_rf_s, va_rf_n, nz_bI, nz_0, nz_1, bI_0, pd_1, pp_1, pq_1, pd_2, pp_2, pq_2, pd_3, pp_3, pq_3, pd_4, pp_4, pq_4, pd_5, pp_5, pq_5, pd_6, pp_6, pq_6, pd_7, pp_7, pq_7, pd_8, pp_8, pq_8, pd_9, pp_9, pq_9, pd_10, pp_10, pq_10, pd_11, pp_11, pq_11, pd_12, pp_12, pq_12, pd_13, pp_13, pq_13, pd_14, pp_14, pq_14, pd_15, pp_15, pq_15, pd_16, pp_16, pq_16, pd_17, pp_17, pq_17, pd_18, pp_18, pq_18, pd_19, pp_19, pq_19, pd_20, pp_20, pq_20, pd_21, pp_21, pq_21, pd_22, pp_22, pq_22, pd_23, pp_23, pq_23, pd_24, pp_24, pq_24, Nat.add_zero, Nat.zero_le, Nat.le_refl, eq_self, Option.some.injEq, exists_eq', aI_up, g3, g4, hb, hup_up, fil_s, nI_1]
    exact e
theorem s_fillS {b n : Nat} {g : Nat → Int32} {v : Int32} (hb : G.1 ≤ b) (hn : n < 2 ^ 31) (hg : aI h b 2 = some (n, g)) : Rn G d mJ7_fill_fb410 0 [some (.ref b), some (.int v), none, none] [] h Q = Q none (hup h b (.inl (2, n, .inl (fil (vp_nar .short v) n g)))) := by
  have e := l_fillS (d := d) (h := h) (g := g) (Q := Q) (v := v) hb hn n 0 (by omega)
  rw [fil_0, hup_id (aI_at hg)] at e
  simp only [q_J7_fill_fb410_0, q_J7_fill_fb410_1, q_J7_fill_fb410_2, q_J7_fill_fb410_3, q_J7_fill_fb410_4, ldI_s, ldJ_s, ldA_r, ldA_n, ob_s, List.getElem?_cons_zero, List.getElem?_cons_succ, List.length_cons, List.length_nil, gx_0, gx_1, gx_2, gx_3, gx_4, gx_5, gx_6, gx_7, gx_8, gx_9, gx_10, gx_11, Nat.reduceAdd, Nat.reduceLT, Nat.reduceLeDiff, Nat.reduceSub, Nat.lt_irrefl, true_and, and_true, Option.toList_some, Option.toList_none, List.cons_append, List.nil_append, csum_nil, csum_int, csum_long, csum_ref, csum_null, nar_int, nar_long, nar_ref, nar_null, nar_refA, nar_nullA, fit_int, fit_long, fit_ref, fit_refA, fit_null, fit_nullA, stL_0, stL_1i, stL_1r, stL_1n, stL_1u, stL_2i, stL_2r, stL_2n, stL_2u, stL_3i, stL_3r, stL_3n, stL_3u, stL_4i, stL_4r, stL_4n, stL_4u, stL_5i, stL_5r, stL_5n, stL_5u, stL_6i, stL_6r, stL_6n, stL_6u, stL_7i, stL_7r, stL_7n, stL_7u, stL_8i, stL_8r, stL_8n, stL_8u, stL_9i, stL_9r, stL_9n, stL_9u, stL_10i, stL_10r, stL_10n, stL_10u, stL_11i, stL_11r, stL_11n, stL_11u, stJ_0, stJ_1i, stJ_1r, stJ_1n, stJ_1u, stJ_2i, stJ_2r, stJ_2n, stJ_2u, stJ_3i, stJ_3r, stJ_3n, stJ_3u, stJ_4i, stJ_4r, stJ_4n, stJ_4u, stJ_5i, stJ_5r, stJ_5n, stJ_5u, stJ_6i, stJ_6r, stJ_6n, stJ_6u, stJ_7i, stJ_7r, stJ_7n, stJ_7u, stJ_8i, stJ_8r, stJ_8n, stJ_8u, stJ_9i, stJ_9r, stJ_9n, stJ_9u, stJ_10i, stJ_10r, stJ_10n, stJ_10u, ↓reduceIte, cat_int, cat_ref, cat_null, cat_long, va_rf_s, va_rf_n, nz_bI, nz_0, nz_1, bI_0, pd_1, pp_1, pq_1, pd_2, pp_2, pq_2, pd_3, pp_3, pq_3, pd_4, pp_4, pq_4, pd_5, pp_5, pq_5, pd_6, pp_6, pq_6, pd_7, pp_7, pq_7, pd_8, pp_8, pq_8, pd_9, pp_9, pq_9, pd_10, pp_10, pq_10, pd_11, pp_11, pq_11, pd_12, pp_12, pq_12, pd_13, pp_13, pq_13, pd_14, pp_14, pq_14, pd_15, pp_15, pq_15, pd_16, pp_16, pq_16, pd_17, pp_17, pq_17, pd_18, pp_18, pq_18, pd_19, pp_19, pq_19, pd_20, pp_20, pq_20, pd_21, pp_21, pq_21, pd_22, pp_22, pq_22, pd_23, pp_23, pq_23, pd_24, pp_24, pq_24, Nat.add_zero, Nat.zero_le, Nat.le_refl, eq_self, Option.some.injEq, exists_eq', aN_I (by decide : 2 < 8) hg]
  exact e
theorem nar_m1B : vp_nar .byte (-1) = -1 := by rw [show (-1 : Int32) = (-1 : Int32).toInt8.toInt32 from by decide, pk_vb]
theorem nar_m1S : vp_nar .short (-1) = -1 := by rw [show (-1 : Int32) = (-1 : Int32).toInt16.toInt32 from by decide, pk_vs]
theorem s_become {a : Nat} {x0 x1 x2 x3 : Value} {g gf : Nat → Int32} {c w : Int32} {P : Prop} [Decidable P] (ho : oF h a 8 = some [x0, x1, x2, x3, .ref (a + 1), .ref (a + 2)]) (hb : aI h (a + 1) 1 = some (1040, g)) (hf : aI h (a + 2) 2 = some (260, gf)) (hB : G.1 ≤ a) : Rn G (d + 1) mX8_become 0 [some (.ref a), some (.int c), some (.int w), some (.int (bI P))] [] h Q = Q none (hup (hup (hup h a (.inr (8, [.int c, .int w, .int (bI P), .int 0, .ref (a + 1), .ref (a + 2)]))) (a + 1) (.inl (1, 1040, .inl (fil (-1) 1040 g)))) (a + 2) (.inl (2, 260, .inl (fil (-1) 260 gf)))) := by
  have hB1 : G.1 ≤ a + 1 := by omega
  have hB2 : G.1 ≤ a + 2 := by omega
  have ne1 : (a = a + 1) = False := eq_false (by omega)
  have ne2 : (a + 2 = a + 1) = False := eq_false (by omega)
  have ne3 : (a + 1 = a) = False := eq_false (by omega)
  have ne4 : (a + 2 = a) = False := eq_false (by omega)
  have r1 : aI (hup h a (.inr (8, [.int c, .int w, .int (bI P), .int 0, .ref (a + 1), .ref (a + 2)]))) (a + 1) 1 = some (1040, g) := by rw [aI_c (hup_ne (by omega))]; exact hb
  have r2 : aI (hup (hup h a (.inr (8, [.int c, .int w, .int (bI P), .int 0, .ref (a + 1), .ref (a + 2)]))) (a + 1) (.inl (1, 1040, .inl (fil (vp_nar .byte (-1)) 1040 g)))) (a + 2) 2 = some (260, gf) := by rw [aI_c (hup_ne (by omega)), aI_c (hup_ne (by omega))]; exact hf
  simp only [q_X8_become_0, q_X8_become_1, q_X8_become_2, q_X8_become_5, q_X8_become_6, q_X8_become_7, q_X8_become_10, q_X8_become_11, q_X8_become_12, q_X8_become_15, q_X8_become_16, q_X8_become_17, q_X8_become_20, q_X8_become_21, q_X8_become_24, ldI_s, ldJ_s, ldA_r, ldA_n, ob_s, List.getElem?_cons_zero, List.getElem?_cons_succ, List.length_cons, List.length_nil, gx_0, gx_1, gx_2, gx_3, gx_4, gx_5, gx_6, gx_7, gx_8, gx_9, gx_10, gx_11, Nat.reduceAdd, Nat.reduceLT, Nat.reduceLeDiff, Nat.reduceSub, Nat.lt_irrefl, true_and, and_true, Option.toList_some, Option.toList_none, List.cons_append, List.nil_append, csum_nil, csum_int, csum_long, csum_ref, csum_null, nar_int, nar_long, nar_ref, nar_null, nar_refA, nar_nullA, fit_int, fit_long, fit_ref, fit_refA, fit_null, fit_nullA, stL_0, stL_1i, stL_1r, stL_1n, stL_1u, stL_2i, stL_2r, stL_2n, stL_2u, stL_3i, stL_3r, stL_3n, stL_3u, stL_4i, stL_4r, stL_4n, stL_4u, stL_5i, stL_5r, stL_5n, stL_5u, stL_6i, stL_6r, stL_6n, stL_6u, stL_7i, stL_7r, stL_7n, stL_7u, stL_8i, stL_8r, stL_8n, stL_8u, stL_9i, stL_9r, stL_9n, stL_9u, stL_10i, stL_10r, stL_10n, stL_10u, stL_11i, stL_11r, stL_11n, stL_11u, stJ_0, stJ_1i, stJ_1r, stJ_1n, stJ_1u, stJ_2i, stJ_2r, stJ_2n, stJ_2u, stJ_3i, stJ_3r, stJ_3n, stJ_3u, stJ_4i, stJ_4r, stJ_4n, stJ_4u, stJ_5i, stJ_5r, stJ_5n, stJ_5u, stJ_6i, stJ_6r, stJ_6n, stJ_6u, stJ_7i, stJ_7r, stJ_7n, stJ_7u, stJ_8i, stJ_8r, stJ_8n, stJ_8u, stJ_9i, stJ_9r, stJ_9n, stJ_9u, stJ_10i, stJ_10r, stJ_10n, stJ_10u, ↓reduceIte, cat_int, cat_ref, cat_null, cat_long, va_rf_s, va_rf_n, nz_bI, nz_0, nz_1, bI_0, pd_1, pp_1, pq_1, pd_2, pp_2, pq_2, pd_3, pp_3, pq_3, pd_4, pp_4, pq_4, pd_5, pp_5, pq_5, pd_6, pp_6, pq_6, pd_7, pp_7, pq_7, pd_8, pp_8, pq_8, pd_9, pp_9, pq_9, pd_10, pp_10, pq_10, pd_11, pp_11, pq_11, pd_12, pp_12, pq_12, pd_13, pp_13, pq_13, pd_14, pp_14, pq_14, pd_15, pp_15, pq_15, pd_16, pp_16, pq_16, pd_17, pp_17, pq_17, pd_18, pp_18, pq_18, pd_19, pp_19, pq_19, pd_20, pp_20, pq_20, pd_21, pp_21, pq_21, pd_22, pp_22, pq_22, pd_23, pp_23, pq_23, pd_24, pp_24, pq_24, Nat.add_zero, Nat.zero_le, Nat.le_refl, eq_self, Option.some.injEq, exists_eq', fs_0, fs_1, fs_2, fs_3, fs_4, fs_5, fs_6, fs_7, fs_8, fs_9, fs_10, fs_11, ho, oF_up, hB, hup_up, fit_bI]
  rw [q_X8_become_25]
  simp only [ldI_s, ldJ_s, ldA_r, ldA_n, ob_s, List.getElem?_cons_zero, List.getElem?_cons_succ, List.length_cons, List.length_nil, gx_0, gx_1, gx_2, gx_3, gx_4, gx_5, gx_6, gx_7, gx_8, gx_9, gx_10, gx_11, Nat.reduceAdd, Nat.reduceLT, Nat.reduceLeDiff, Nat.reduceSub, Nat.lt_irrefl, true_and, and_true, Option.toList_some, Option.toList_none, List.cons_append, List.nil_append, csum_nil, csum_int, csum_long, csum_ref, csum_null, nar_int, nar_long, nar_ref, nar_null, nar_refA, nar_nullA, fit_int, fit_long, fit_ref, fit_refA, fit_null, fit_nullA, stL_0, stL_1i, stL_1r, stL_1n, stL_1u, stL_2i, stL_2r, stL_2n, stL_2u, stL_3i, stL_3r, stL_3n, stL_3u, stL_4i, stL_4r, stL_4n, stL_4u, stL_5i, stL_5r, stL_5n, stL_5u, stL_6i, stL_6r, stL_6n, stL_6u, stL_7i, stL_7r, stL_7n, stL_7u, stL_8i, stL_8r, stL_8n, stL_8u, stL_9i, stL_9r, stL_9n, stL_9u, stL_10i, stL_10r, stL_10n, stL_10u, stL_11i, stL_11r, stL_11n, stL_11u, stJ_0, stJ_1i, stJ_1r, stJ_1n, stJ_1u, stJ_2i, stJ_2r, stJ_2n, stJ_2u, stJ_3i, stJ_3r, stJ_3n, stJ_3u, stJ_4i, stJ_4r, stJ_4n, stJ_4u, stJ_5i, stJ_5r, stJ_5n, stJ_5u, stJ_6i, stJ_6r, stJ_6n, stJ_6u, stJ_7i, stJ_7r, stJ_7n, stJ_7u, stJ_8i, stJ_8r, stJ_8n, stJ_8u, stJ_9i, stJ_9r, stJ_9n, stJ_9u, stJ_10i, stJ_10r, stJ_10n, stJ_10u, ↓reduceIte, cat_int, cat_ref, cat_null, cat_long, va_rf_s, va_rf_n, nz_bI, nz_0, nz_1, bI_0, pd_1, pp_1, pq_1, pd_2, pp_2, pq_2, pd_3, pp_3, pq_3, pd_4, pp_4, pq_4, pd_5, pp_5, pq_5, pd_6, pp_6, pq_6, pd_7, pp_7, pq_7, pd_8, pp_8, pq_8, pd_9, pp_9, pq_9, pd_10, pp_10, pq_10, pd_11, pp_11, pq_11, pd_12, pp_12, pq_12, pd_13, pp_13, pq_13, pd_14, pp_14, pq_14, pd_15, pp_15, pq_15, pd_16, pp_16, pq_16, pd_17, pp_17, pq_17, pd_18, pp_18, pq_18, pd_19, pp_19, pq_19, pd_20, pp_20, pq_20, pd_21, pp_21, pq_21, pd_22, pp_22, pq_22, pd_23, pp_23, pq_23, pd_24, pp_24, pq_24, Nat.add_zero, Nat.zero_le, Nat.le_refl, eq_self, Option.some.injEq, exists_eq']
  rw [s_fillB hB1 (by decide) r1]
  simp only [q_X8_become_28, q_X8_become_29, q_X8_become_32, ldI_s, ldJ_s, ldA_r, ldA_n, ob_s, List.getElem?_cons_zero, List.getElem?_cons_succ, List.length_cons, List.length_nil, gx_0, gx_1, gx_2, gx_3, gx_4, gx_5, gx_6, gx_7, gx_8, gx_9, gx_10, gx_11, Nat.reduceAdd, Nat.reduceLT, Nat.reduceLeDiff, Nat.reduceSub, Nat.lt_irrefl, true_and, and_true, Option.toList_some, Option.toList_none, List.cons_append, List.nil_append, csum_nil, csum_int, csum_long, csum_ref, csum_null, nar_int, nar_long, nar_ref, nar_null, nar_refA, nar_nullA, fit_int, fit_long, fit_ref, fit_refA, fit_null, fit_nullA, stL_0, stL_1i, stL_1r, stL_1n, stL_1u, stL_2i, stL_2r, stL_2n, stL_2u, stL_3i, stL_3r, stL_3n, stL_3u, stL_4i, stL_4r, stL_4n, stL_4u, stL_5i, stL_5r, stL_5n, stL_5u, stL_6i, stL_6r, stL_6n, stL_6u, stL_7i, stL_7r, stL_7n, stL_7u, stL_8i, stL_8r, stL_8n, stL_8u, stL_9i, stL_9r, stL_9n, stL_9u, stL_10i, stL_10r, stL_10n, stL_10u, stL_11i, stL_11r, stL_11n, stL_11u, stJ_0, stJ_1i, stJ_1r, stJ_1n, stJ_1u, stJ_2i, stJ_2r, stJ_2n, stJ_2u, stJ_3i, stJ_3r, stJ_3n, stJ_3u, stJ_4i, stJ_4r, stJ_4n, stJ_4u, stJ_5i, stJ_5r, stJ_5n, stJ_5u, stJ_6i, stJ_6r, stJ_6n, stJ_6u, stJ_7i, stJ_7r, stJ_7n, stJ_7u, stJ_8i, stJ_8r, stJ_8n, stJ_8u, stJ_9i, stJ_9r, stJ_9n, stJ_9u, stJ_10i, stJ_10r, stJ_10n, stJ_10u, ↓reduceIte, cat_int, cat_ref, cat_null, cat_long, va_rf_s, va_rf_n, nz_bI, nz_0, nz_1, bI_0, pd_1, pp_1, pq_1, pd_2, pp_2, pq_2, pd_3, pp_3, pq_3, pd_4, pp_4, pq_4, pd_5, pp_5, pq_5, pd_6, pp_6, pq_6, pd_7, pp_7, pq_7, pd_8, pp_8, pq_8, pd_9, pp_9, pq_9, pd_10, pp_10, pq_10, pd_11, pp_11, pq_11, pd_12, pp_12, pq_12, pd_13, pp_13, pq_13, pd_14, pp_14, pq_14, pd_15, pp_15, pq_15, pd_16, pp_16, pq_16, pd_17, pp_17, pq_17, pd_18, pp_18, pq_18, pd_19, pp_19, pq_19, pd_20, pp_20, pq_20, pd_21, pp_21, pq_21, pd_22, pp_22, pq_22, pd_23, pp_23, pq_23, pd_24, pp_24, pq_24, Nat.add_zero, Nat.zero_le, Nat.le_refl, eq_self, Option.some.injEq, exists_eq', oF_up, oF_upA, ne1]
  rw [q_X8_become_33]
  simp only [ldI_s, ldJ_s, ldA_r, ldA_n, ob_s, List.getElem?_cons_zero, List.getElem?_cons_succ, List.length_cons, List.length_nil, gx_0, gx_1, gx_2, gx_3, gx_4, gx_5, gx_6, gx_7, gx_8, gx_9, gx_10, gx_11, Nat.reduceAdd, Nat.reduceLT, Nat.reduceLeDiff, Nat.reduceSub, Nat.lt_irrefl, true_and, and_true, Option.toList_some, Option.toList_none, List.cons_append, List.nil_append, csum_nil, csum_int, csum_long, csum_ref, csum_null, nar_int, nar_long, nar_ref, nar_null, nar_refA, nar_nullA, fit_int, fit_long, fit_ref, fit_refA, fit_null, fit_nullA, stL_0, stL_1i, stL_1r, stL_1n, stL_1u, stL_2i, stL_2r, stL_2n, stL_2u, stL_3i, stL_3r, stL_3n, stL_3u, stL_4i, stL_4r, stL_4n, stL_4u, stL_5i, stL_5r, stL_5n, stL_5u, stL_6i, stL_6r, stL_6n, stL_6u, stL_7i, stL_7r, stL_7n, stL_7u, stL_8i, stL_8r, stL_8n, stL_8u, stL_9i, stL_9r, stL_9n, stL_9u, stL_10i, stL_10r, stL_10n, stL_10u, stL_11i, stL_11r, stL_11n, stL_11u, stJ_0, stJ_1i, stJ_1r, stJ_1n, stJ_1u, stJ_2i, stJ_2r, stJ_2n, stJ_2u, stJ_3i, stJ_3r, stJ_3n, stJ_3u, stJ_4i, stJ_4r, stJ_4n, stJ_4u, stJ_5i, stJ_5r, stJ_5n, stJ_5u, stJ_6i, stJ_6r, stJ_6n, stJ_6u, stJ_7i, stJ_7r, stJ_7n, stJ_7u, stJ_8i, stJ_8r, stJ_8n, stJ_8u, stJ_9i, stJ_9r, stJ_9n, stJ_9u, stJ_10i, stJ_10r, stJ_10n, stJ_10u, ↓reduceIte, cat_int, cat_ref, cat_null, cat_long, va_rf_s, va_rf_n, nz_bI, nz_0, nz_1, bI_0, pd_1, pp_1, pq_1, pd_2, pp_2, pq_2, pd_3, pp_3, pq_3, pd_4, pp_4, pq_4, pd_5, pp_5, pq_5, pd_6, pp_6, pq_6, pd_7, pp_7, pq_7, pd_8, pp_8, pq_8, pd_9, pp_9, pq_9, pd_10, pp_10, pq_10, pd_11, pp_11, pq_11, pd_12, pp_12, pq_12, pd_13, pp_13, pq_13, pd_14, pp_14, pq_14, pd_15, pp_15, pq_15, pd_16, pp_16, pq_16, pd_17, pp_17, pq_17, pd_18, pp_18, pq_18, pd_19, pp_19, pq_19, pd_20, pp_20, pq_20, pd_21, pp_21, pq_21, pd_22, pp_22, pq_22, pd_23, pp_23, pq_23, pd_24, pp_24, pq_24, Nat.add_zero, Nat.zero_le, Nat.le_refl, eq_self, Option.some.injEq, exists_eq']
  rw [s_fillS hB2 (by decide) r2]
  simp only [q_X8_become_36, ldI_s, ldJ_s, ldA_r, ldA_n, ob_s, List.getElem?_cons_zero, List.getElem?_cons_succ, List.length_cons, List.length_nil, gx_0, gx_1, gx_2, gx_3, gx_4, gx_5, gx_6, gx_7, gx_8, gx_9, gx_10, gx_11, Nat.reduceAdd, Nat.reduceLT, Nat.reduceLeDiff, Nat.reduceSub, Nat.lt_irrefl, true_and, and_true, Option.toList_some, Option.toList_none, List.cons_append, List.nil_append, csum_nil, csum_int, csum_long, csum_ref, csum_null, nar_int, nar_long, nar_ref, nar_null, nar_refA, nar_nullA, fit_int, fit_long, fit_ref, fit_refA, fit_null, fit_nullA, stL_0, stL_1i, stL_1r, stL_1n, stL_1u, stL_2i, stL_2r, stL_2n, stL_2u, stL_3i, stL_3r, stL_3n, stL_3u, stL_4i, stL_4r, stL_4n, stL_4u, stL_5i, stL_5r, stL_5n, stL_5u, stL_6i, stL_6r, stL_6n, stL_6u, stL_7i, stL_7r, stL_7n, stL_7u, stL_8i, stL_8r, stL_8n, stL_8u, stL_9i, stL_9r, stL_9n, stL_9u, stL_10i, stL_10r, stL_10n, stL_10u, stL_11i, stL_11r, stL_11n, stL_11u, stJ_0, stJ_1i, stJ_1r, stJ_1n, stJ_1u, stJ_2i, stJ_2r, stJ_2n, stJ_2u, stJ_3i, stJ_3r, stJ_3n, stJ_3u, stJ_4i, stJ_4r, stJ_4n, stJ_4u, stJ_5i, stJ_5r, stJ_5n, stJ_5u, stJ_6i, stJ_6r, stJ_6n, stJ_6u, stJ_7i, stJ_7r, stJ_7n, stJ_7u, stJ_8i, stJ_8r, stJ_8n, stJ_8u, stJ_9i, stJ_9r, stJ_9n, stJ_9u, stJ_10i, stJ_10r, stJ_10n, stJ_10u, ↓reduceIte, cat_int, cat_ref, cat_null, cat_long, va_rf_s, va_rf_n, nz_bI, nz_0, nz_1, bI_0, pd_1, pp_1, pq_1, pd_2, pp_2, pq_2, pd_3, pp_3, pq_3, pd_4, pp_4, pq_4, pd_5, pp_5, pq_5, pd_6, pp_6, pq_6, pd_7, pp_7, pq_7, pd_8, pp_8, pq_8, pd_9, pp_9, pq_9, pd_10, pp_10, pq_10, pd_11, pp_11, pq_11, pd_12, pp_12, pq_12, pd_13, pp_13, pq_13, pd_14, pp_14, pq_14, pd_15, pp_15, pq_15, pd_16, pp_16, pq_16, pd_17, pp_17, pq_17, pd_18, pp_18, pq_18, pd_19, pp_19, pq_19, pd_20, pp_20, pq_20, pd_21, pp_21, pq_21, pd_22, pp_22, pq_22, pd_23, pp_23, pq_23, pd_24, pp_24, pq_24, Nat.add_zero, Nat.zero_le, Nat.le_refl, eq_self, Option.some.injEq, exists_eq', nar_m1B, nar_m1S]
end NEWS
