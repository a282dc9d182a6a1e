/-! street -/
def Tn.sC_ (t : Tn) (v : Nat → Int32) : Tn := mkTn t.now t.st t.bt t.ft t.pr t.n v t.w t.ho t.nb t.bk t.fm
def Tn.sW_ (t : Tn) (v : Nat → Int32) : Tn := mkTn t.now t.st t.bt t.ft t.pr t.n t.c v t.ho t.nb t.bk t.fm
def Tn.sHo (t : Tn) (v : Nat → Int32) : Tn := mkTn t.now t.st t.bt t.ft t.pr t.n t.c t.w v t.nb t.bk t.fm
def Tn.sNb (t : Tn) (v : Nat → Int32) : Tn := mkTn t.now t.st t.bt t.ft t.pr t.n t.c t.w t.ho v t.bk t.fm
theorem Iv_MC_ {σ τ : Sg} {al : Al} {G : aG} {h : aH} {v : Nat → Int32} (hI : Iv σ τ al G h) : Iv σ (τ.sT (τ.t.sC_ v)) al G (hup h (G.1 + 41) (.inl (0, 24, .inl v))) := by
  have ne : ∀ j, j ≠ 41 → (hup h (G.1 + 41) (.inl (0, 24, .inl v))).2.1 (G.1 + j) = h.2.1 (G.1 + j) := fun j hj => hup_ne (by omega)
  have hM := hI.m
  refine Iv_M hI rfl rfl (fun q hq => hup_ne (by unfold MF at hq; omega)) ⟨?_, ?_, ?_, ?_, ?_, ?_, ?_, ?_, ?_, ?_, ?_⟩
  · rw [oF_c (ne 40 (by decide))]; exact hM.o
  · exact aI_of hup_eq
  · rw [aI_c (ne 42 (by decide))]; exact hM.w
  · rw [aI_c (ne 43 (by decide))]; exact hM.ho
  · rw [aI_c (ne 44 (by decide))]; exact hM.nb
  · rw [aI_c (ne 45 (by decide))]; exact hM.bk
  · rw [aI_c (ne 46 (by decide))]; exact hM.fm
  · rw [aI_c (ne 47 (by decide))]; exact hM.tb
  · rw [aI_c (ne 48 (by decide)), aI_c (ne 49 (by decide)), aI_c (ne 50 (by decide)), aI_c (ne 51 (by decide)), aI_c (ne 52 (by decide)), aI_c (ne 53 (by decide)), aI_c (ne 54 (by decide))]; exact hM.lw
  · rw [aI_c (ne 67 (by decide))]; exact hM.im
  · rw [aI_c (ne 69 (by decide))]; exact hM.mk
theorem Iv_MW_ {σ τ : Sg} {al : Al} {G : aG} {h : aH} {v : Nat → Int32} (hI : Iv σ τ al G h) : Iv σ (τ.sT (τ.t.sW_ v)) al G (hup h (G.1 + 42) (.inl (0, 24, .inl v))) := by
  have ne : ∀ j, j ≠ 42 → (hup h (G.1 + 42) (.inl (0, 24, .inl v))).2.1 (G.1 + j) = h.2.1 (G.1 + j) := fun j hj => hup_ne (by omega)
  have hM := hI.m
  refine Iv_M hI rfl rfl (fun q hq => hup_ne (by unfold MF at hq; omega)) ⟨?_, ?_, ?_, ?_, ?_, ?_, ?_, ?_, ?_, ?_, ?_⟩
  · rw [oF_c (ne 40 (by decide))]; exact hM.o
  · rw [aI_c (ne 41 (by decide))]; exact hM.c
  · exact aI_of hup_eq
  · rw [aI_c (ne 43 (by decide))]; exact hM.ho
  · rw [aI_c (ne 44 (by decide))]; exact hM.nb
  · rw [aI_c (ne 45 (by decide))]; exact hM.bk
  · rw [aI_c (ne 46 (by decide))]; exact hM.fm
  · rw [aI_c (ne 47 (by decide))]; exact hM.tb
  · rw [aI_c (ne 48 (by decide)), aI_c (ne 49 (by decide)), aI_c (ne 50 (by decide)), aI_c (ne 51 (by decide)), aI_c (ne 52 (by decide)), aI_c (ne 53 (by decide)), aI_c (ne 54 (by decide))]; exact hM.lw
  · rw [aI_c (ne 67 (by decide))]; exact hM.im
  · rw [aI_c (ne 69 (by decide))]; exact hM.mk
theorem Iv_MHo {σ τ : Sg} {al : Al} {G : aG} {h : aH} {v : Nat → Int32} (hI : Iv σ τ al G h) : Iv σ (τ.sT (τ.t.sHo v)) al G (hup h (G.1 + 43) (.inl (0, 24, .inl v))) := by
  have ne : ∀ j, j ≠ 43 → (hup h (G.1 + 43) (.inl (0, 24, .inl v))).2.1 (G.1 + j) = h.2.1 (G.1 + j) := fun j hj => hup_ne (by omega)
  have hM := hI.m
  refine Iv_M hI rfl rfl (fun q hq => hup_ne (by unfold MF at hq; omega)) ⟨?_, ?_, ?_, ?_, ?_, ?_, ?_, ?_, ?_, ?_, ?_⟩
  · rw [oF_c (ne 40 (by decide))]; exact hM.o
  · rw [aI_c (ne 41 (by decide))]; exact hM.c
  · rw [aI_c (ne 42 (by decide))]; exact hM.w
  · exact aI_of hup_eq
  · rw [aI_c (ne 44 (by decide))]; exact hM.nb
  · rw [aI_c (ne 45 (by decide))]; exact hM.bk
  · rw [aI_c (ne 46 (by decide))]; exact hM.fm
  · rw [aI_c (ne 47 (by decide))]; exact hM.tb
  · rw [aI_c (ne 48 (by decide)), aI_c (ne 49 (by decide)), aI_c (ne 50 (by decide)), aI_c (ne 51 (by decide)), aI_c (ne 52 (by decide)), aI_c (ne 53 (by decide)), aI_c (ne 54 (by decide))]; exact hM.lw
  · rw [aI_c (ne 67 (by decide))]; exact hM.im
  · rw [aI_c (ne 69 (by decide))]; exact hM.mk
theorem Iv_MNb {σ τ : Sg} {al : Al} {G : aG} {h : aH} {v : Nat → Int32} (hI : Iv σ τ al G h) : Iv σ (τ.sT (τ.t.sNb v)) al G (hup h (G.1 + 44) (.inl (0, 24, .inl v))) := by
  have ne : ∀ j, j ≠ 44 → (hup h (G.1 + 44) (.inl (0, 24, .inl v))).2.1 (G.1 + j) = h.2.1 (G.1 + j) := fun j hj => hup_ne (by omega)
  have hM := hI.m
  refine Iv_M hI rfl rfl (fun q hq => hup_ne (by unfold MF at hq; omega)) ⟨?_, ?_, ?_, ?_, ?_, ?_, ?_, ?_, ?_, ?_, ?_⟩
  · rw [oF_c (ne 40 (by decide))]; exact hM.o
  · rw [aI_c (ne 41 (by decide))]; exact hM.c
  · rw [aI_c (ne 42 (by decide))]; exact hM.w
  · rw [aI_c (ne 43 (by decide))]; exact hM.ho
  · exact aI_of hup_eq
  · rw [aI_c (ne 45 (by decide))]; exact hM.bk
  · rw [aI_c (ne 46 (by decide))]; exact hM.fm
  · rw [aI_c (ne 47 (by decide))]; exact hM.tb
  · rw [aI_c (ne 48 (by decide)), aI_c (ne 49 (by decide)), aI_c (ne 50 (by decide)), aI_c (ne 51 (by decide)), aI_c (ne 52 (by decide)), aI_c (ne 53 (by decide)), aI_c (ne 54 (by decide))]; exact hM.lw
  · rw [aI_c (ne 67 (by decide))]; exact hM.im
  · rw [aI_c (ne 69 (by decide))]; exact hM.mk
def Tn.sAdd (t : Tn) (c w b : Int32) : Tn := mkTn t.now t.st t.bt t.ft t.pr (t.n + 1) (upd t.c t.n c) (upd t.w t.n w) (upd t.ho t.n b) (upd t.nb t.n 0) t.bk t.fm
theorem sumN_c {f g : Nat → Nat} : ∀ n, (∀ k, k < n → f k = g k) → sumN f n = sumN g n := by
  intro n
  induction n with
  | zero => intro _; rfl
  | succ n ih => intro h; rw [sumN, sumN, ih (fun k hk => h k (by omega)), h n (by omega)]
theorem z_clamp : (0 : Int32).toNatClampNeg = 0 := by decide
theorem TnOK_add {t : Tn} (hO : TnOK t) (hn : t.n < 24) {c w b : Int32} (hc : ∃ x, x ≤ 999 ∧ c = nI x) (hw : ∃ x, x ≤ 999 ∧ w = nI x) (hb : ∃ x, x < 2 ∧ b = nI x) : TnOK (t.sAdd c w b) := by
  have Ne : ∀ k, (t.sAdd c w b).N k = if k = t.n then 0 else t.N k := fun k => by
    show (upd t.nb t.n 0 k).toNatClampNeg = _
    unfold upd
    split
    · exact z_clamp
    · rfl
  have p2 : 2 ^ t.n ≤ 2 ^ (t.n + 1) := Nat.pow_le_pow_right (by decide) (by omega)
  have tb : ∀ k, k < t.n → (t.N k).testBit t.n = false := fun k hk => Nat.testBit_lt_two_pow (hO.nb k hk).2
  obtain ⟨xc, hxc, rfl⟩ := hc
  obtain ⟨xw, hxw, rfl⟩ := hw
  obtain ⟨xb, hxb, rfl⟩ := hb
  refine ⟨hn, hO.now, hO.st, ?_, ?_, ?_, ?_, ?_, ?_, ?_, hO.bk, ?_, hO.fm, ?_⟩
  · intro k hk
    have hk' : k < t.n + 1 := hk
    show upd t.c t.n (nI xc) k = nI (upd t.c t.n (nI xc) k).toNatClampNeg ∧ (upd t.c t.n (nI xc) k).toNatClampNeg ≤ 999
    by_cases e : k = t.n
    · subst e; rw [pk_us, nI_clamp (by omega)]; exact ⟨rfl, hxc⟩
    · rw [pk_un e]; exact hO.c k (by omega)
  · intro k hk
    have hk' : k < t.n + 1 := hk
    show upd t.w t.n (nI xw) k = nI (upd t.w t.n (nI xw) k).toNatClampNeg ∧ (upd t.w t.n (nI xw) k).toNatClampNeg ≤ 999
    by_cases e : k = t.n
    · subst e; rw [pk_us, nI_clamp (by omega)]; exact ⟨rfl, hxw⟩
    · rw [pk_un e]; exact hO.w k (by omega)
  · intro k hk
    have hk' : k < t.n + 1 := hk
    show upd t.ho t.n (nI xb) k = nI (upd t.ho t.n (nI xb) k).toNatClampNeg ∧ (upd t.ho t.n (nI xb) k).toNatClampNeg < 2
    by_cases e : k = t.n
    · subst e; rw [pk_us, nI_clamp (by omega)]; exact ⟨rfl, hxb⟩
    · rw [pk_un e]; exact hO.ho k (by omega)
  · intro k hk
    have hk' : k < t.n + 1 := hk
    show upd t.nb t.n 0 k = nI ((t.sAdd (nI xc) (nI xw) (nI xb)).N k) ∧ (t.sAdd (nI xc) (nI xw) (nI xb)).N k < 2 ^ (t.n + 1)
    rw [Ne]
    by_cases e : k = t.n
    · subst e; rw [pk_us, if_pos rfl]; exact ⟨rfl, Nat.two_pow_pos _⟩
    · rw [pk_un e, if_neg e]
      have := hO.nb k (by omega)
      exact ⟨this.1, by omega⟩
  · intro a b ha hb
    have ha' : a < t.n + 1 := ha
    have hb' : b < t.n + 1 := hb
    rw [Ne, Ne]
    by_cases e : a = t.n
    · by_cases e2 : b = t.n
      · rw [e, e2]
      · rw [if_pos e, if_neg e2, Nat.zero_testBit, e, tb b (by omega)]
    · by_cases e2 : b = t.n
      · rw [if_neg e, if_pos e2, Nat.zero_testBit, e2, tb a (by omega)]
      · rw [if_neg e, if_neg e2]; exact hO.sy a b (by omega) (by omega)
  · intro a ha
    have ha' : a < t.n + 1 := ha
    rw [Ne]
    by_cases e : a = t.n
    · rw [if_pos e, Nat.zero_testBit]
    · rw [if_neg e]; exact hO.ir a (by omega)
  · obtain ⟨p, e1, e2⟩ := hO.pr
    refine ⟨p, e1, ?_⟩
    show 2 * p = sumN (fun k => pcN 32 ((t.sAdd (nI xc) (nI xw) (nI xb)).N k)) (t.n + 1)
    rw [sumN, Ne, if_pos rfl, show pcN 32 0 = 0 from by decide, Nat.add_zero, e2]
    refine sumN_c t.n (fun k hk => ?_)
    show _ = pcN 32 ((t.sAdd (nI xc) (nI xw) (nI xb)).N k)
    rw [Ne, if_neg (by omega)]
  · intro j hj hz
    have hz' : 1040 * (t.n + 1) ≤ j := hz
    exact hO.bz j hj (by omega)
  · intro j hj hz
    have hz' : 260 * (t.n + 1) ≤ j := hz
    exact hO.fz j hj (by omega)
theorem SC_c {h : aH} {a k : Nat} {t t' : Tn} (e : (t'.c k, t'.w k, t'.ho k, t'.nb k, t'.bk, t'.fm) = (t.c k, t.w k, t.ho k, t.nb k, t.bk, t.fm)) (hS : SC h a t k) : SC h a t' k := by
  simp only [Prod.mk.injEq] at e
  obtain ⟨e1, e2, e3, e4, e5, e6⟩ := e
  unfold SC at hS ⊢
  rw [e1, e2, e3, e4, e5, e6]
  exact hS
theorem rg4 {rg : Nat → Int32} {F : Nat → Int32} : ∀ r, r < 4 → upd (upd (upd (upd rg 0 (F 0)) 1 (F 1)) 2 (F 2)) 3 (F 3) r = F r := by
  intro r hr
  unfold upd
  match r, hr with
  | 0, _ => rfl
  | 1, _ => rfl
  | 2, _ => rfl
  | 3, _ => rfl
section STREET
variable {G : aG} {d : Nat} {h : aH} {Q : aQ} {σ τ : Sg} {al : Al}
theorem s_own_z (hI : Iw σ τ al G h 0) {k : Nat} (hk : k < 24) (hq : ∀ al' h', Iw σ τ al' G h' 0 → al'.mk k = true → (∀ o, al.mk o = true → al'.mk o = true ∧ al'.ad G.1 o = al.ad G.1 o) → (∀ q, q < h.1 → q ≠ G.1 + 1 + 1 → h'.2.1 q = h.2.1 q) → h.1 ≤ h'.1 → Q (some (.ref (al'.ad G.1 k))) h') : Rn G (d + 2) mX9_ownStreet 0 [some (.ref (G.1 + 1)), some (.int (nI k))] [] h Q := by
  have e := s_own (d := d) (Q := Q) hI hk (fun al' h' a b c e f g => by
    rw [Nat.mul_zero, Nat.zero_add] at b ⊢
    rw [tA_0] at e
    exact hq al' h' a b c e g)
  rw [tA_0] at e
  exact e
/-- the own town's rings anew -/
theorem s_rings_z {t : Tn} (hI : Iw σ τ al G h 0) (hO : TnOK t) (ho : oF h (G.1 + 1) 9 = some [.int t.now, .int t.st, .int (nI t.n), .int t.bt, .int t.ft, .ref (G.1 + 1 + 1), .ref (G.1 + 1 + 2)])
    (hs : ∀ k, k < t.n → al.mk k = true ∧ SC h (al.ad G.1 k) t k) (hq : ∀ h', Iv (σ.sT t) τ al G h' → oF h' (G.1 + 1) 9 = some [.int t.now, .int t.st, .int (nI t.n), .int t.bt, .int t.ft, .ref (G.1 + 1 + 1), .ref (G.1 + 1 + 2)] → Q none h') : Rn G (d + 4) mX9_setRings 0 [some (.ref (G.1 + 1)), none, none, none, none] [] h Q := by
  have hs' : ∀ k, k < t.n → al.mk (24 * 0 + k) = true ∧ SC h (al.ad G.1 (24 * 0 + k)) t k := fun k hk => by rw [Nat.mul_zero, Nat.zero_add]; exact hs k hk
  have ho' := ho
  rw [← tA_0 (al := al)] at ho'
  obtain ⟨f, hT⟩ := Iw_TX hI hO.n ho' hs'
  obtain ⟨rg, hr⟩ := hI.sh.2.2.2
  rw [tA_0] at hT hr
  have hho : ∀ k, k < t.n → t.ho k = 0 ∨ t.ho k = 1 := fun k hk => by
    obtain ⟨e1, e2⟩ := hO.ho k hk
    rcases (show t.H k = 0 ∨ t.H k = 1 by omega) with z | z
    · left; rw [e1, z]; rfl
    · right; rw [e1, z]; rfl
  rw [s_setR hT hho hr (by omega)]
  have I6 := Iw_rg hI (upd (upd (upd (upd rg 0 (rgS t.n t.ho t.nb 0)) 1 (rgS t.n t.ho t.nb 1)) 2 (rgS t.n t.ho t.nb 2)) 3 (rgS t.n t.ho t.nb 3))
  have nb := fun o => ad_ge (al := al) (B := G.1) (o := o)
  have X : XT al G.1 0 t (hup h (tA al G.1 0 + 2) (.inl (0, 4, .inl (upd (upd (upd (upd rg 0 (rgS t.n t.ho t.nb 0)) 1 (rgS t.n t.ho t.nb 1)) 2 (rgS t.n t.ho t.nb 2)) 3 (rgS t.n t.ho t.nb 3))))) := by
    refine XT_of I6 hO.n ?_ ⟨_, aI_of hup_eq, rg4 (F := rgS t.n t.ho t.nb)⟩ (fun k hk => ⟨(hs' k hk).1, SC_fr (fun j hj => hup_ne (by have := nb (24 * 0 + k); rw [tA_0]; omega)) (hs' k hk).2⟩)
    rw [oF_c (hup_ne (by omega))]; exact ho'
  have I7 := Iw_v0 I6 X
  rw [tA_0] at I7
  refine hq _ I7 ?_
  rw [oF_c (hup_ne (by omega))]; exact ho
theorem s_addStreet (hI : Iv σ τ al G h) (hO : TnOK σ.t) {c w : Int32} {P : Prop} [Decidable P] (hn : σ.t.n < 24) (hO' : TnOK (σ.t.sAdd c w (bI P))) (hq : ∀ al' h', Iv (σ.sT (σ.t.sAdd c w (bI P))) τ al' G h' → Q (some (.int (nI σ.t.n))) h') : Rn G (d + 5) mX9_addStreet 0 [some (.ref (G.1 + 1)), some (.int c), some (.int w), some (.int (bI P)), none] [] h Q := by
  obtain ⟨f, rg, hT⟩ := Iv_TU hI
  have ex9 : ∃ fs, oF h (G.1 + 1) 9 = some fs := ⟨_, hT.1.2.1⟩
  have mk0 : ∀ k, k < σ.t.n → al.mk k = true := fun k hk => by have := XT_mk hI.x.t hk; simpa using this
  have sc0 : ∀ k, k < σ.t.n → SC h (al.ad G.1 k) σ.t k := fun k hk => by have := XT_SC hI.x.t hk; rw [Nat.mul_zero, Nat.zero_add] at this; exact this
  simp only [q_X9_addStreet_0, q_X9_addStreet_1, q_X9_addStreet_2, q_X9_addStreet_5, ldI_s, ldJ_s, ldA_r, ldA_n, ob_s, List.getElem?_cons_zero, List.getElem?_cons_succ, List.length_cons, List.length_nil, gx_0, gx_1, gx_2, gx_3, gx_4, gx_5, gx_6, gx_7, gx_8, gx_9, gx_10, gx_11, Nat.reduceAdd, Nat.reduceLT, Nat.reduceLeDiff, Nat.reduceSub, Nat.lt_irrefl, true_and, and_true, Option.toList_some, Option.toList_none, List.cons_append, List.nil_append, csum_nil, csum_int, csum_long, csum_ref, csum_null, nar_int, nar_long, nar_ref, nar_null, nar_refA, nar_nullA, fit_int, fit_long, fit_ref, fit_refA, fit_null, fit_nullA, stL_0, stL_1i, stL_1r, stL_1n, stL_1u, stL_2i, stL_2r, stL_2n, stL_2u, stL_3i, stL_3r, stL_3n, stL_3u, stL_4i, stL_4r, stL_4n, stL_4u, stL_5i, stL_5r, stL_5n, stL_5u, stL_6i, stL_6r, stL_6n, stL_6u, stL_7i, stL_7r, stL_7n, stL_7u, stL_8i, stL_8r, stL_8n, stL_8u, stL_9i, stL_9r, stL_9n, stL_9u, stL_10i, stL_10r, stL_10n, stL_10u, stL_11i, stL_11r, stL_11n, stL_11u, stJ_0, stJ_1i, stJ_1r, stJ_1n, stJ_1u, stJ_2i, stJ_2r, stJ_2n, stJ_2u, stJ_3i, stJ_3r, stJ_3n, stJ_3u, stJ_4i, stJ_4r, stJ_4n, stJ_4u, stJ_5i, stJ_5r, stJ_5n, stJ_5u, stJ_6i, stJ_6r, stJ_6n, stJ_6u, stJ_7i, stJ_7r, stJ_7n, stJ_7u, stJ_8i, stJ_8r, stJ_8n, stJ_8u, stJ_9i, stJ_9r, stJ_9n, stJ_9u, stJ_10i, stJ_10r, stJ_10n, stJ_10u, ↓reduceIte, cat_int, cat_ref, cat_null, cat_long, va_rf_s, va_rf_n, nz_bI, nz_0, nz_1, bI_0, pd_1, pp_1, pq_1, pd_2, pp_2, pq_2, pd_3, pp_3, pq_3, pd_4, pp_4, pq_4, pd_5, pp_5, pq_5, pd_6, pp_6, pq_6, pd_7, pp_7, pq_7, pd_8, pp_8, pq_8, pd_9, pp_9, pq_9, pd_10, pp_10, pq_10, pd_11, pp_11, pq_11, pd_12, pp_12, pq_12, pd_13, pp_13, pq_13, pd_14, pp_14, pq_14, pd_15, pp_15, pq_15, pd_16, pp_16, pq_16, pd_17, pp_17, pq_17, pd_18, pp_18, pq_18, pd_19, pp_19, pq_19, pd_20, pp_20, pq_20, pd_21, pp_21, pq_21, pd_22, pp_22, pq_22, pd_23, pp_23, pq_23, pd_24, pp_24, pq_24, Nat.add_zero, Nat.zero_le, Nat.le_refl, eq_self, Option.some.injEq, exists_eq', hT.1.2.1, ex9]
  refine s_own_z (Iw_0 hI) hn (fun al1 h1 I1 hm keep fr _ => ?_)
  obtain ⟨⟨c0, w0, ho0, nb0, s1⟩, ⟨g, s2⟩, ⟨gf, s3⟩⟩ := I1.ss σ.t.n (by omega) hm
  have ex8 : ∃ fs, oF h1 (al1.ad G.1 σ.t.n) 8 = some fs := ⟨_, s1⟩
  have nb := fun o => ad_ge (al := al1) (B := G.1) (o := o)
  have nbn := nb σ.t.n
  have hB : G.1 ≤ al1.ad G.1 σ.t.n := by omega
  have hz := hI.z
  simp only [q_X9_addStreet_8r, q_X9_addStreet_8n, q_X9_addStreet_10, q_X9_addStreet_12n, q_X9_addStreet_12r, q_X9_addStreet_15, q_X9_addStreet_16, q_X9_addStreet_17, q_X9_addStreet_19, q_X9_addStreet_20, q_X9_addStreet_21, q_X9_addStreet_22, ldI_s, ldJ_s, ldA_r, ldA_n, ob_s, List.getElem?_cons_zero, List.getElem?_cons_succ, List.length_cons, List.length_nil, gx_0, gx_1, gx_2, gx_3, gx_4, gx_5, gx_6, gx_7, gx_8, gx_9, gx_10, gx_11, Nat.reduceAdd, Nat.reduceLT, Nat.reduceLeDiff, Nat.reduceSub, Nat.lt_irrefl, true_and, and_true, Option.toList_some, Option.toList_none, List.cons_append, List.nil_append, csum_nil, csum_int, csum_long, csum_ref, csum_null, nar_int, nar_long, nar_ref, nar_null, nar_refA, nar_nullA, fit_int, fit_long, fit_ref, fit_refA, fit_null, fit_nullA, stL_0, stL_1i, stL_1r, stL_1n, stL_1u, stL_2i, stL_2r, stL_2n, stL_2u, stL_3i, stL_3r, stL_3n, stL_3u, stL_4i, stL_4r, stL_4n, stL_4u, stL_5i, stL_5r, stL_5n, stL_5u, stL_6i, stL_6r, stL_6n, stL_6u, stL_7i, stL_7r, stL_7n, stL_7u, stL_8i, stL_8r, stL_8n, stL_8u, stL_9i, stL_9r, stL_9n, stL_9u, stL_10i, stL_10r, stL_10n, stL_10u, stL_11i, stL_11r, stL_11n, stL_11u, stJ_0, stJ_1i, stJ_1r, stJ_1n, stJ_1u, stJ_2i, stJ_2r, stJ_2n, stJ_2u, stJ_3i, stJ_3r, stJ_3n, stJ_3u, stJ_4i, stJ_4r, stJ_4n, stJ_4u, stJ_5i, stJ_5r, stJ_5n, stJ_5u, stJ_6i, stJ_6r, stJ_6n, stJ_6u, stJ_7i, stJ_7r, stJ_7n, stJ_7u, stJ_8i, stJ_8r, stJ_8n, stJ_8u, stJ_9i, stJ_9r, stJ_9n, stJ_9u, stJ_10i, stJ_10r, stJ_10n, stJ_10u, ↓reduceIte, cat_int, cat_ref, cat_null, cat_long, va_rf_s, va_rf_n, nz_bI, nz_0, nz_1, bI_0, pd_1, pp_1, pq_1, pd_2, pp_2, pq_2, pd_3, pp_3, pq_3, pd_4, pp_4, pq_4, pd_5, pp_5, pq_5, pd_6, pp_6, pq_6, pd_7, pp_7, pq_7, pd_8, pp_8, pq_8, pd_9, pp_9, pq_9, pd_10, pp_10, pq_10, pd_11, pp_11, pq_11, pd_12, pp_12, pq_12, pd_13, pp_13, pq_13, pd_14, pp_14, pq_14, pd_15, pp_15, pq_15, pd_16, pp_16, pq_16, pd_17, pp_17, pq_17, pd_18, pp_18, pq_18, pd_19, pp_19, pq_19, pd_20, pp_20, pq_20, pd_21, pp_21, pq_21, pd_22, pp_22, pq_22, pd_23, pp_23, pq_23, pd_24, pp_24, pq_24, Nat.add_zero, Nat.zero_le, Nat.le_refl, eq_self, Option.some.injEq, exists_eq', ex8]
  rw [s_become s1 s2 s3 hB]
  have I2 := Iw_s0 I1 (k := σ.t.n) hn (by rw [Nat.mul_zero, Nat.zero_add]; exact hm) c w (bI P) 0
  have I3 := Iw_s1 I2 (k := σ.t.n) hn (by rw [Nat.mul_zero, Nat.zero_add]; exact hm) (fil (-1) 1040 g)
  have I4 := Iw_s2 I3 (k := σ.t.n) hn (by rw [Nat.mul_zero, Nat.zero_add]; exact hm) (fil (-1) 260 gf)
  have I5 := Iw_tob I4 σ.t.now σ.t.st (nI (σ.t.n + 1)) σ.t.bt σ.t.ft
  rw [tA_0] at I5
  simp only [Nat.mul_zero, Nat.zero_add] at I5
  have r1 : ∀ e1 e2 e3, oF (hup (hup (hup h1 (al1.ad G.1 σ.t.n) e1) (al1.ad G.1 σ.t.n + 1) e2) (al1.ad G.1 σ.t.n + 2) e3) (G.1 + 1) 9 = some [.int σ.t.now, .int σ.t.st, .int (nI σ.t.n), .int σ.t.bt, .int σ.t.ft, .ref (G.1 + 1 + 1), .ref (G.1 + 1 + 2)] := fun e1 e2 e3 => by
    rw [oF_c (hup_ne (by omega)), oF_c (hup_ne (by omega)), oF_c (hup_ne (by omega)), oF_c (fr _ (by omega) (by omega))]
    exact hT.1.2.1
  have hB1 : G.1 ≤ G.1 + 1 := by omega
  simp only [q_X9_addStreet_25, q_X9_addStreet_26, q_X9_addStreet_27, q_X9_addStreet_30, q_X9_addStreet_31, q_X9_addStreet_32, q_X9_addStreet_35, q_X9_addStreet_36, ldI_s, ldJ_s, ldA_r, ldA_n, ob_s, List.getElem?_cons_zero, List.getElem?_cons_succ, List.length_cons, List.length_nil, gx_0, gx_1, gx_2, gx_3, gx_4, gx_5, gx_6, gx_7, gx_8, gx_9, gx_10, gx_11, Nat.reduceAdd, Nat.reduceLT, Nat.reduceLeDiff, Nat.reduceSub, Nat.lt_irrefl, true_and, and_true, Option.toList_some, Option.toList_none, List.cons_append, List.nil_append, csum_nil, csum_int, csum_long, csum_ref, csum_null, nar_int, nar_long, nar_ref, nar_null, nar_refA, nar_nullA, fit_int, fit_long, fit_ref, fit_refA, fit_null, fit_nullA, stL_0, stL_1i, stL_1r, stL_1n, stL_1u, stL_2i, stL_2r, stL_2n, stL_2u, stL_3i, stL_3r, stL_3n, stL_3u, stL_4i, stL_4r, stL_4n, stL_4u, stL_5i, stL_5r, stL_5n, stL_5u, stL_6i, stL_6r, stL_6n, stL_6u, stL_7i, stL_7r, stL_7n, stL_7u, stL_8i, stL_8r, stL_8n, stL_8u, stL_9i, stL_9r, stL_9n, stL_9u, stL_10i, stL_10r, stL_10n, stL_10u, stL_11i, stL_11r, stL_11n, stL_11u, stJ_0, stJ_1i, stJ_1r, stJ_1n, stJ_1u, stJ_2i, stJ_2r, stJ_2n, stJ_2u, stJ_3i, stJ_3r, stJ_3n, stJ_3u, stJ_4i, stJ_4r, stJ_4n, stJ_4u, stJ_5i, stJ_5r, stJ_5n, stJ_5u, stJ_6i, stJ_6r, stJ_6n, stJ_6u, stJ_7i, stJ_7r, stJ_7n, stJ_7u, stJ_8i, stJ_8r, stJ_8n, stJ_8u, stJ_9i, stJ_9r, stJ_9n, stJ_9u, stJ_10i, stJ_10r, stJ_10n, stJ_10u, ↓reduceIte, cat_int, cat_ref, cat_null, cat_long, va_rf_s, va_rf_n, nz_bI, nz_0, nz_1, bI_0, pd_1, pp_1, pq_1, pd_2, pp_2, pq_2, pd_3, pp_3, pq_3, pd_4, pp_4, pq_4, pd_5, pp_5, pq_5, pd_6, pp_6, pq_6, pd_7, pp_7, pq_7, pd_8, pp_8, pq_8, pd_9, pp_9, pq_9, pd_10, pp_10, pq_10, pd_11, pp_11, pq_11, pd_12, pp_12, pq_12, pd_13, pp_13, pq_13, pd_14, pp_14, pq_14, pd_15, pp_15, pq_15, pd_16, pp_16, pq_16, pd_17, pp_17, pq_17, pd_18, pp_18, pq_18, pd_19, pp_19, pq_19, pd_20, pp_20, pq_20, pd_21, pp_21, pq_21, pd_22, pp_22, pq_22, pd_23, pp_23, pq_23, pd_24, pp_24, pq_24, Nat.add_zero, Nat.zero_le, Nat.le_refl, eq_self, Option.some.injEq, exists_eq', fs_0, fs_1, fs_2, fs_3, fs_4, fs_5, fs_6, fs_7, fs_8, fs_9, fs_10, fs_11, r1, hB1, nI_1, oF_up]
  refine s_rings_z (t := σ.t.sAdd c w (bI P)) I5 hO' (oF_of hup_eq) (fun k hk => ?_) (fun h7 I7 o7 => ?_)
  · have hk' : k < σ.t.n + 1 := hk
    have nbk := nb k
    by_cases e : k = σ.t.n
    · subst e
      refine ⟨hm, ?_, ⟨fil (-1) 1040 g, ?_, fun j hj => ?_⟩, ⟨fil (-1) 260 gf, ?_, fun j hj => ?_⟩⟩
      · rw [oF_c (hup_ne (by omega)), oF_c (hup_ne (by omega)), oF_c (hup_ne (by omega)), oF_of hup_eq]
        show _ = some [Value.int (upd σ.t.c σ.t.n c σ.t.n), .int (upd σ.t.w σ.t.n w σ.t.n), .int (upd σ.t.ho σ.t.n (bI P) σ.t.n), .int (upd σ.t.nb σ.t.n 0 σ.t.n), _, _]
        rw [pk_us, pk_us, pk_us, pk_us]
      · rw [aI_c (hup_ne (by omega)), aI_c (hup_ne (by omega))]; exact aI_of hup_eq
      · unfold fil
        rw [if_pos hj]
        exact (hO.bz _ (by omega) (by omega)).symm
      · rw [aI_c (hup_ne (by omega))]; exact aI_of hup_eq
      · unfold fil
        rw [if_pos hj]
        exact (hO.fz _ (by omega) (by omega)).symm
    · have hk2 : k < σ.t.n := by omega
      have mk1 := keep k (mk0 k hk2)
      refine ⟨mk1.1, SC_c (t := σ.t) ?_ (SC_fr (h := h) (fun j hj => ?_) (by rw [mk1.2]; exact sc0 k hk2))⟩
      · show (upd σ.t.c σ.t.n c k, upd σ.t.w σ.t.n w k, upd σ.t.ho σ.t.n (bI P) k, upd σ.t.nb σ.t.n 0 k, σ.t.bk, σ.t.fm) = _
        rw [pk_un e, pk_un e, pk_un e, pk_un e]
      · have n0 := ad_ne (B := G.1) (j' := 0) I1.al mk1.1 hm e hj (by decide)
        have n1 := ad_ne (B := G.1) (j' := 1) I1.al mk1.1 hm e hj (by decide)
        have n2 := ad_ne (B := G.1) (j' := 2) I1.al mk1.1 hm e hj (by decide)
        rw [hup_ne (by omega), hup_ne n2, hup_ne n1, hup_ne (by omega)]
        refine fr _ ?_ (by omega)
        rw [mk1.2]
        have := ad_lt (B := G.1) hI.al (mk0 k hk2) hj
        omega
  · have o7' : oF h7 (G.1 + 1) 9 = some [.int σ.t.now, .int σ.t.st, .int (nI (σ.t.n + 1)), .int σ.t.bt, .int σ.t.ft, .ref (G.1 + 1 + 1), .ref (G.1 + 1 + 2)] := o7
    simp only [q_X9_addStreet_39, q_X9_addStreet_40, q_X9_addStreet_43, q_X9_addStreet_44, q_X9_addStreet_45, ldI_s, ldJ_s, ldA_r, ldA_n, ob_s, List.getElem?_cons_zero, List.getElem?_cons_succ, List.length_cons, List.length_nil, gx_0, gx_1, gx_2, gx_3, gx_4, gx_5, gx_6, gx_7, gx_8, gx_9, gx_10, gx_11, Nat.reduceAdd, Nat.reduceLT, Nat.reduceLeDiff, Nat.reduceSub, Nat.lt_irrefl, true_and, and_true, Option.toList_some, Option.toList_none, List.cons_append, List.nil_append, csum_nil, csum_int, csum_long, csum_ref, csum_null, nar_int, nar_long, nar_ref, nar_null, nar_refA, nar_nullA, fit_int, fit_long, fit_ref, fit_refA, fit_null, fit_nullA, stL_0, stL_1i, stL_1r, stL_1n, stL_1u, stL_2i, stL_2r, stL_2n, stL_2u, stL_3i, stL_3r, stL_3n, stL_3u, stL_4i, stL_4r, stL_4n, stL_4u, stL_5i, stL_5r, stL_5n, stL_5u, stL_6i, stL_6r, stL_6n, stL_6u, stL_7i, stL_7r, stL_7n, stL_7u, stL_8i, stL_8r, stL_8n, stL_8u, stL_9i, stL_9r, stL_9n, stL_9u, stL_10i, stL_10r, stL_10n, stL_10u, stL_11i, stL_11r, stL_11n, stL_11u, stJ_0, stJ_1i, stJ_1r, stJ_1n, stJ_1u, stJ_2i, stJ_2r, stJ_2n, stJ_2u, stJ_3i, stJ_3r, stJ_3n, stJ_3u, stJ_4i, stJ_4r, stJ_4n, stJ_4u, stJ_5i, stJ_5r, stJ_5n, stJ_5u, stJ_6i, stJ_6r, stJ_6n, stJ_6u, stJ_7i, stJ_7r, stJ_7n, stJ_7u, stJ_8i, stJ_8r, stJ_8n, stJ_8u, stJ_9i, stJ_9r, stJ_9n, stJ_9u, stJ_10i, stJ_10r, stJ_10n, stJ_10u, ↓reduceIte, cat_int, cat_ref, cat_null, cat_long, va_rf_s, va_rf_n, nz_bI, nz_0, nz_1, bI_0, pd_1, pp_1, pq_1, pd_2, pp_2, pq_2, pd_3, pp_3, pq_3, pd_4, pp_4, pq_4, pd_5, pp_5, pq_5, pd_6, pp_6, pq_6, pd_7, pp_7, pq_7, pd_8, pp_8, pq_8, pd_9, pp_9, pq_9, pd_10, pp_10, pq_10, pd_11, pp_11, pq_11, pd_12, pp_12, pq_12, pd_13, pp_13, pq_13, pd_14, pp_14, pq_14, pd_15, pp_15, pq_15, pd_16, pp_16, pq_16, pd_17, pp_17, pq_17, pd_18, pp_18, pq_18, pd_19, pp_19, pq_19, pd_20, pp_20, pq_20, pd_21, pp_21, pq_21, pd_22, pp_22, pq_22, pd_23, pp_23, pq_23, pd_24, pp_24, pq_24, Nat.add_zero, Nat.zero_le, Nat.le_refl, eq_self, Option.some.injEq, exists_eq', o7', nI_pred]
    exact hq al1 _ I7
end STREET
