/-! the heap's instructions, one by one -/
section HI
variable {G : aG} {d : Nat} {M : aM} {r1 : Option Value} {h1 : aH} {pc : Nat} {ls : aL} {r : List Value} {h : aH}
theorem hh_get {idx ci k a : Nat} {fs : List Value} {v : Value} (ok : okF M.1 (idx, ci, k)) (ho : oF h a ci = some fs) (hv : fs[k]? = some v) (hd : decode M.2.2.1 pc = .ok (.getfield idx, 3)) (hw : WW G d M r1 h1 (pc + 3) ls (v :: r) h) : WW G d M r1 h1 pc ls (.ref a :: r) h := by
  obtain ⟨o1, o2, o3, o4⟩ := ok
  refine ww_read (fun D tys p l e R s m args below meth c sl0 Qf H locs lsA cells slots C S k9 => ?_) hw
  obtain ⟨hx, hb, hml, hown, hts, hnm, hV, hH, -⟩ := id C
  have he := (S.1.2 a _ (oF_at ho)).2
  exact va_get (D := D) (cl := aC) (ws := [(a, .inr (ci, fs))]) (ci := ci) (C := cNm ci) (T := fTb ci) (N := fN ci) hx hb hts (wsOk ci o1) hown hV.1 he.obj 0 rfl (aC_at ci o1) k o2 (hts _ o3) (fun x hx => by rw [o4] at hx; exact hx) hv hd k9
theorem hh_put {idx ci k a : Nat} {fs : List Value} {v : Value} (ok : okF M.1 (idx, ci, k)) (ho : oF h a ci = some fs) (hB : G.1 ≤ a) (hk : k < fs.length) (hn : narrow (fTy ci k) v = v) (hfit : fits (fTy ci k) v = true) (hfin : (fTb ci k).2.2.2 = true → M.2.1.name = "<init>" ∧ ci = M.1)
    (hd : decode M.2.2.1 pc = .ok (.putfield idx, 3)) (hw : WW G d M r1 h1 (pc + 3) ls r (hup h a (.inr (ci, fs.set k v)))) : WW G d M r1 h1 pc ls (v :: .ref a :: r) h := by
  obtain ⟨o1, o2, o3, o4⟩ := ok
  simp only at o1 o2 o3 o4
  refine ww_up hB (fun D tys p l e R s m args below meth c sl0 Qf H locs lsA cells slots C S k9 => ?_) hw
  obtain ⟨hx, hb, hml, hown, hts, hnm, hV, hH, -⟩ := id C
  have he := (S.1.2 a _ (oF_at ho)).2
  obtain ⟨-, e0, cell, q1, q2, q3, q4⟩ := he
  have hap := va_apart (own := cNm M.1) hts (wsOk ci o1) (fTy ci) (tyOk ci o1) (nmOk ci o1) hV.1 (aC_at ci o1)
  obtain ⟨hS, hfc, kC, hkC, hkind⟩ := hV.1.1 ci _ (aC_at ci o1)
  obtain ⟨cf, kf, fi, f, hi, hsl⟩ := hS k o2
  have hst := (u_facts hfc hkC (u_lays hts (wsOk ci o1) o2) hi).1
  have hlay := hts _ (wsOk ci o1 _ (u_in_lay o2))
  have hsame : ∀ x, s.fieldFound? (fTb ci k).1 (fTb ci k).2.1 (fTb ci k).2.2.1 = some x → s.fieldFound? (cNm ci) (fTb ci k).2.1 (fTb ci k).2.2.1 = some x := fun x hx => by rw [o4] at hx; exact hx
  have fin : ∀ (H1 : Heap), H1[a]? = some (cell.setSlot (D.2 ci k) v) → H1.size = H.size → (∀ q, q ≠ a → H1[q]? = H[q]?) → W p l e R s m args below meth c H1 (locs ++ [⟨a, D.2 ci k⟩]) cells slots Qf (F0 m (pc + 3) lsA r) := fun H1 e1 e2 e3 =>
    k9 H1 _ ⟨o1, by simpa using e0, t_OB.to (V := updV (vp_V fs) k v) ⟨_, e1, q2, q3, t_set q4 hap o2 v⟩ (fun j _ => vp_updV_set hk v j)⟩ e2 e3 (fun l hl => by rw [List.mem_singleton.mp hl])
  by_cases hf : (fTb ci k).2.2.2 = true
  · unfold u_lay at hlay
    rw [if_pos hf] at hlay
    obtain ⟨g1, g2⟩ := hfin hf
    have hcf : m.cls = cf := by
      obtain ⟨_, _, c', _, _, _, -, -, hf', -, -, -, hown2, -⟩ := Cond.laysFinal_spec hlay
      have e1 : c' = cf := by have := hi.symm.trans hf'; simp at this; exact this.1.symm
      rw [o4, g2] at hown2
      rw [← e1]; exact Option.some.inj (hown.symm.trans hown2)
    have h6 := u_fits hfc hkC hkind (Or.inr hlay) hi (tyOk ci o1 k o2) hn hfit
    refine W.putFinK hx hb hown (hts _ o3) (hsame _ hi) hst hcf (hnm g1) (by rw [q2]; exact h6) q1 q3 (by rw [hsl]; exact k2_hasslot (q4 k o2)) rfl rfl hd fun H' e1 e2 e3 => ?_
    rw [hsl] at e1 ⊢
    exact fin H' e1 e2 e3
  · unfold u_lay at hlay
    rw [if_neg hf] at hlay
    have h6 := u_store hfc hkC hkind hlay hi (tyOk ci o1 k o2) hn hfit
    refine W.putK hx hb (f := f) ⟨hown, hts _ o3, ⟨_, _, _, hsame _ hi⟩, hst⟩ (by rw [q2]; exact h6) q1 q3 (by rw [hsl]; exact k2_hasslot (q4 k o2)) rfl rfl hd fun H' e1 e2 e3 => ?_
    rw [hsl] at e1 ⊢
    exact fin H' e1 e2 e3
theorem hh_len {a n : Nat} (hn : aN G h a = some n) (hd : decode M.2.2.1 pc = .ok (.arraylength, 1)) (hw : WW G d M r1 h1 (pc + 1) ls (.int (nI n) :: r) h) : WW G d M r1 h1 pc ls (.ref a :: r) h := by
  refine ww_read (fun D tys p l e R s m args below meth c sl0 Qf H locs lsA cells slots C S k9 => ?_) hw
  obtain ⟨hx, hb, hml, hown, hts, hnm, hV, hH, -, -, -, -, hbB, hB0, -⟩ := id C
  unfold aN at hn
  split at hn
  · rename_i t' n' x he
    split at hn
    · rename_i ht8
      cases hn
      have hA := (S.1.2 a _ he).2
      obtain ⟨q, g1, g2⟩ := id hA
      have g3 := tyAt hV.2.1 g1
      obtain ⟨cA, c1, c2, c3, c4, c5⟩ := EA.arr hV hA g3
      exact va_alen (D := D) (cl := aC) (ws := [(a, .inl (cA, n, x))]) (tys := tys) hx hb hV.1 c2 0 t' rfl c1 rfl hd k9
    · cases hn
  · cases hn
  · split at hn
    · rename_i ha
      cases hn
      subst ha
      exact va_slen hx hb hH.2.2.2 (Nat.lt_of_lt_of_le hbB hB0) (fun z => absurd hbB (Nat.not_lt.mpr z)) S.2.1 hd k9
    · cases hn
theorem hh_sld {i : Int32} (hin : vp_in i G.2.1.2.1) (hd : decode M.2.2.1 pc = .ok (.iaload, 1)) (hw : WW G d M r1 h1 (pc + 1) ls (.int (G.2.1.2.2 i.toNatClampNeg) :: r) h) : WW G d M r1 h1 pc ls (.int i :: .ref G.2.1.1 :: r) h := by
  refine ww_read (fun D tys p l e R s m args below meth c sl0 Qf H locs lsA cells slots C S k9 => ?_) hw
  obtain ⟨hx, hb, hml, hown, hts, hnm, hV, hH, -, -, -, -, hbB, hB0, -⟩ := id C
  exact va_sld hx hb hH.2.2.2 (Nat.lt_of_lt_of_le hbB hB0) (fun z => absurd hbB (Nat.not_lt.mpr z)) S.2.1 hin hd k9
theorem hh_iald {a n : Nat} {f : Nat → Int32} {i : Int32} (ha : aI h a 0 = some (n, f)) (hin : vp_in i n) (hd : decode M.2.2.1 pc = .ok (.iaload, 1)) (hw : WW G d M r1 h1 (pc + 1) ls (.int (f i.toNatClampNeg) :: r) h) : WW G d M r1 h1 pc ls (.int i :: .ref a :: r) h := by
  refine ww_read (fun D tys p l e R s m args below meth c sl0 Qf H locs lsA cells slots C S k9 => ?_) hw
  obtain ⟨hx, hb, hml, hown, hts, hnm, hV, hH, -⟩ := id C
  obtain ⟨cA, c1, c2, -⟩ := EA.arr hV (S.1.2 a _ (aI_at ha)).2 (t := 0) rfl
  exact va_iald (D := D) (cl := aC) (tys := tys) hx hb hV.1 c2 0 0 rfl c1 hin hd k9
theorem hh_bald {a n : Nat} {f : Nat → Int32} {i : Int32} (ha : aI h a 1 = some (n, f)) (hin : vp_in i n) (hd : decode M.2.2.1 pc = .ok (.baload, 1)) (hw : WW G d M r1 h1 (pc + 1) ls (.int (f i.toNatClampNeg) :: r) h) : WW G d M r1 h1 pc ls (.int i :: .ref a :: r) h := by
  refine ww_read (fun D tys p l e R s m args below meth c sl0 Qf H locs lsA cells slots C S k9 => ?_) hw
  obtain ⟨hx, hb, hml, hown, hts, hnm, hV, hH, -⟩ := id C
  obtain ⟨cA, c1, c2, -⟩ := EA.arr hV (S.1.2 a _ (aI_at ha)).2 (t := 1) rfl
  exact va_bald (D := D) (cl := aC) (tys := tys) hx hb hV.1 c2 0 1 rfl c1 hin hd k9
theorem hh_zald {a n : Nat} {f : Nat → Int32} {i : Int32} (ha : aI h a 4 = some (n, f)) (hin : vp_in i n) (hd : decode M.2.2.1 pc = .ok (.baload, 1)) (hw : WW G d M r1 h1 (pc + 1) ls (.int (f i.toNatClampNeg) :: r) h) : WW G d M r1 h1 pc ls (.int i :: .ref a :: r) h := by
  refine ww_read (fun D tys p l e R s m args below meth c sl0 Qf H locs lsA cells slots C S k9 => ?_) hw
  obtain ⟨hx, hb, hml, hown, hts, hnm, hV, hH, -⟩ := id C
  obtain ⟨cA, c1, c2, -⟩ := EA.arr hV (S.1.2 a _ (aI_at ha)).2 (t := 4) rfl
  exact va_zald (D := D) (cl := aC) (tys := tys) hx hb hV.1 c2 0 4 rfl c1 hin hd k9
theorem hh_sald {a n : Nat} {f : Nat → Int32} {i : Int32} (ha : aI h a 2 = some (n, f)) (hin : vp_in i n) (hd : decode M.2.2.1 pc = .ok (.saload, 1)) (hw : WW G d M r1 h1 (pc + 1) ls (.int (f i.toNatClampNeg) :: r) h) : WW G d M r1 h1 pc ls (.int i :: .ref a :: r) h := by
  refine ww_read (fun D tys p l e R s m args below meth c sl0 Qf H locs lsA cells slots C S k9 => ?_) hw
  obtain ⟨hx, hb, hml, hown, hts, hnm, hV, hH, -⟩ := id C
  obtain ⟨cA, c1, c2, -⟩ := EA.arr hV (S.1.2 a _ (aI_at ha)).2 (t := 2) rfl
  exact va_sald (D := D) (cl := aC) (tys := tys) hx hb hV.1 c2 0 2 rfl c1 hin hd k9
theorem hh_lald {a n : Nat} {f : Nat → Int64} {i : Int32} (ha : aJ h a = some (n, f)) (hin : vp_in i n) (hd : decode M.2.2.1 pc = .ok (.laload, 1)) (hw : WW G d M r1 h1 (pc + 1) ls (.long (f i.toNatClampNeg) :: r) h) : WW G d M r1 h1 pc ls (.int i :: .ref a :: r) h := by
  refine ww_read (fun D tys p l e R s m args below meth c sl0 Qf H locs lsA cells slots C S k9 => ?_) hw
  obtain ⟨hx, hb, hml, hown, hts, hnm, hV, hH, -⟩ := id C
  obtain ⟨cA, c1, c2, -⟩ := EA.arr hV (S.1.2 a _ (aJ_at ha)).2 (t := 3) rfl
  exact va_lald (D := D) (cl := aC) (tys := tys) hx hb hV.1 c2 0 3 rfl c1 hin hd k9
theorem hh_aald {a t n : Nat} {f : Nat → Option Nat} {i : Int32} (ha : aR h a = some (t, n, f)) (hin : vp_in i n) (hd : decode M.2.2.1 pc = .ok (.aaload, 1)) (hw : WW G d M r1 h1 (pc + 1) ls (va_rf (f i.toNatClampNeg) :: r) h) : WW G d M r1 h1 pc ls (.int i :: .ref a :: r) h := by
  refine ww_read (fun D tys p l e R s m args below meth c sl0 Qf H locs lsA cells slots C S k9 => ?_) hw
  obtain ⟨hx, hb, hml, hown, hts, hnm, hV, hH, -⟩ := id C
  obtain ⟨he, ht⟩ := aR_at ha
  rcases ht with rfl | rfl | rfl <;>
    (obtain ⟨cA, c1, c2, -⟩ := EA.arr hV (S.1.2 a _ he).2 rfl
     exact va_aldq (D := D) (cl := aC) (tys := tys) hx hb hV.1 c2 0 _ rfl c1 hin hd k9)
theorem hh_iast {a n : Nat} {f : Nat → Int32} {i : Int32} {v : Int32} (ha : aI h a 0 = some (n, f)) (hin : vp_in i n) (hB : G.1 ≤ a) (hd : decode M.2.2.1 pc = .ok (.iastore, 1)) (hw : WW G d M r1 h1 (pc + 1) ls r (hup h a (.inl (0, n, .inl (upd f i.toNatClampNeg v))))) : WW G d M r1 h1 pc ls (.int v :: .int i :: .ref a :: r) h := by
  refine ww_up hB (fun D tys p l e R s m args below meth c sl0 Qf H locs lsA cells slots C S k9 => ?_) hw
  obtain ⟨hx, hb, hml, hown, hts, hnm, hV, hH, -⟩ := id C
  obtain ⟨cA, c1, c2, c3, c4, -⟩ := EA.arr hV (S.1.2 a _ (aI_at ha)).2 (t := 0) rfl
  refine W.iast hx hb c3 (c4 n _) (fun q => by cases q) (by show ¬ (i < 0 ∨ (arrV _ _ _).slots.size ≤ _); rw [arrV_size]; exact hin) rfl rfl hd fun H1 e1 z oq => ?_
  refine k9 H1 _ ⟨_, c1, ?_⟩ z oq (fun l hl => by rw [List.mem_singleton.mp hl])
  show H1[a]? = some (vp_cell _ _)
  rw [e1, vp_cell_i, vp_cell_i, arrV_store]
  refine congrArg some (congrArg (arrV cA n) (funext fun q => ?_))
  by_cases hq : q = i.toNatClampNeg
  · subst hq
    simp [updV, upd, vp_updL, vp_nar, va_up]
    try rfl
  · simp [updV, upd, vp_updL, va_up, hq]
theorem hh_bast {a n : Nat} {f : Nat → Int32} {i : Int32} {v : Int32} (ha : aI h a 1 = some (n, f)) (hin : vp_in i n) (hB : G.1 ≤ a) (hd : decode M.2.2.1 pc = .ok (.bastore, 1)) (hw : WW G d M r1 h1 (pc + 1) ls r (hup h a (.inl (1, n, .inl (upd f i.toNatClampNeg (vp_nar .byte v)))))) : WW G d M r1 h1 pc ls (.int v :: .int i :: .ref a :: r) h := by
  refine ww_up hB (fun D tys p l e R s m args below meth c sl0 Qf H locs lsA cells slots C S k9 => ?_) hw
  obtain ⟨hx, hb, hml, hown, hts, hnm, hV, hH, -⟩ := id C
  obtain ⟨cA, c1, c2, c3, c4, -⟩ := EA.arr hV (S.1.2 a _ (aI_at ha)).2 (t := 1) rfl
  refine W.bast hx hb c3 (c4 n _) (fun q => by cases q) (by show ¬ (i < 0 ∨ (arrV _ _ _).slots.size ≤ _); rw [arrV_size]; exact hin) rfl rfl hd fun H1 e1 z oq => ?_
  refine k9 H1 _ ⟨_, c1, ?_⟩ z oq (fun l hl => by rw [List.mem_singleton.mp hl])
  show H1[a]? = some (vp_cell _ _)
  rw [e1, vp_cell_i, vp_cell_i, arrV_store]
  refine congrArg some (congrArg (arrV cA n) (funext fun q => ?_))
  by_cases hq : q = i.toNatClampNeg
  · subst hq
    simp [updV, upd, vp_updL, vp_nar, va_up]
    try rfl
  · simp [updV, upd, vp_updL, va_up, hq]
theorem hh_zast {a n : Nat} {f : Nat → Int32} {i : Int32} {v : Int32} (ha : aI h a 4 = some (n, f)) (hin : vp_in i n) (hB : G.1 ≤ a) (hd : decode M.2.2.1 pc = .ok (.bastore, 1)) (hw : WW G d M r1 h1 (pc + 1) ls r (hup h a (.inl (4, n, .inl (upd f i.toNatClampNeg (vp_nar .boolean v)))))) : WW G d M r1 h1 pc ls (.int v :: .int i :: .ref a :: r) h := by
  refine ww_up hB (fun D tys p l e R s m args below meth c sl0 Qf H locs lsA cells slots C S k9 => ?_) hw
  obtain ⟨hx, hb, hml, hown, hts, hnm, hV, hH, -⟩ := id C
  obtain ⟨cA, c1, c2, c3, c4, -⟩ := EA.arr hV (S.1.2 a _ (aI_at ha)).2 (t := 4) rfl
  refine W.zast hx hb c3 (c4 n _) (fun q => by cases q) (by show ¬ (i < 0 ∨ (arrV _ _ _).slots.size ≤ _); rw [arrV_size]; exact hin) rfl rfl hd fun H1 e1 z oq => ?_
  refine k9 H1 _ ⟨_, c1, ?_⟩ z oq (fun l hl => by rw [List.mem_singleton.mp hl])
  show H1[a]? = some (vp_cell _ _)
  rw [e1, vp_cell_i, vp_cell_i, arrV_store]
  refine congrArg some (congrArg (arrV cA n) (funext fun q => ?_))
  by_cases hq : q = i.toNatClampNeg
  · subst hq
    simp [updV, upd, vp_updL, vp_nar, va_up]
    try rfl
  · simp [updV, upd, vp_updL, va_up, hq]
theorem hh_sast {a n : Nat} {f : Nat → Int32} {i : Int32} {v : Int32} (ha : aI h a 2 = some (n, f)) (hin : vp_in i n) (hB : G.1 ≤ a) (hd : decode M.2.2.1 pc = .ok (.sastore, 1)) (hw : WW G d M r1 h1 (pc + 1) ls r (hup h a (.inl (2, n, .inl (upd f i.toNatClampNeg (vp_nar .short v)))))) : WW G d M r1 h1 pc ls (.int v :: .int i :: .ref a :: r) h := by
  refine ww_up hB (fun D tys p l e R s m args below meth c sl0 Qf H locs lsA cells slots C S k9 => ?_) hw
  obtain ⟨hx, hb, hml, hown, hts, hnm, hV, hH, -⟩ := id C
  obtain ⟨cA, c1, c2, c3, c4, -⟩ := EA.arr hV (S.1.2 a _ (aI_at ha)).2 (t := 2) rfl
  refine W.sast hx hb c3 (c4 n _) (fun q => by cases q) (by show ¬ (i < 0 ∨ (arrV _ _ _).slots.size ≤ _); rw [arrV_size]; exact hin) rfl rfl hd fun H1 e1 z oq => ?_
  refine k9 H1 _ ⟨_, c1, ?_⟩ z oq (fun l hl => by rw [List.mem_singleton.mp hl])
  show H1[a]? = some (vp_cell _ _)
  rw [e1, vp_cell_i, vp_cell_i, arrV_store]
  refine congrArg some (congrArg (arrV cA n) (funext fun q => ?_))
  by_cases hq : q = i.toNatClampNeg
  · subst hq
    simp [updV, upd, vp_updL, vp_nar, va_up]
    try rfl
  · simp [updV, upd, vp_updL, va_up, hq]
theorem hh_last {a n : Nat} {f : Nat → Int64} {i : Int32} {v : Int64} (ha : aJ h a = some (n, f)) (hin : vp_in i n) (hB : G.1 ≤ a) (hd : decode M.2.2.1 pc = .ok (.lastore, 1)) (hw : WW G d M r1 h1 (pc + 1) ls r (hup h a (.inl (3, n, .inr (.inl (vp_updL f i.toNatClampNeg v)))))) : WW G d M r1 h1 pc ls (.long v :: .int i :: .ref a :: r) h := by
  refine ww_up hB (fun D tys p l e R s m args below meth c sl0 Qf H locs lsA cells slots C S k9 => ?_) hw
  obtain ⟨hx, hb, hml, hown, hts, hnm, hV, hH, -⟩ := id C
  obtain ⟨cA, c1, c2, c3, c4, -⟩ := EA.arr hV (S.1.2 a _ (aJ_at ha)).2 (t := 3) rfl
  refine W.last hx hb c3 (c4 n _) (fun q => by cases q) (by show ¬ (i < 0 ∨ (arrV _ _ _).slots.size ≤ _); rw [arrV_size]; exact hin) rfl rfl hd fun H1 e1 z oq => ?_
  refine k9 H1 _ ⟨_, c1, ?_⟩ z oq (fun l hl => by rw [List.mem_singleton.mp hl])
  show H1[a]? = some (vp_cell _ _)
  rw [e1, vp_cell_l, vp_cell_l, arrV_store]
  refine congrArg some (congrArg (arrV cA n) (funext fun q => ?_))
  by_cases hq : q = i.toNatClampNeg
  · subst hq
    simp [updV, upd, vp_updL, vp_nar, va_up]
    try rfl
  · simp [updV, upd, vp_updL, va_up, hq]
theorem hh_aast {a t n v : Nat} {f : Nat → Option Nat} {i : Int32} {vs : List Value} (ha : aR h a = some (t, n, f)) (hv : oF h v (aTo t) = some vs) (hin : vp_in i n) (hB : G.1 ≤ a) (hd : decode M.2.2.1 pc = .ok (.aastore, 1)) (hw : WW G d M r1 h1 (pc + 1) ls r (hup h a (.inl (t, n, .inr (.inr (.inr (.inr (va_up f i.toNatClampNeg (some v))))))))) : WW G d M r1 h1 pc ls (.ref v :: .int i :: .ref a :: r) h := by
  refine ww_up hB (fun D tys p l e R s m args below meth c sl0 Qf H locs lsA cells slots C S k9 => ?_) hw
  obtain ⟨hx, hb, hml, hown, hts, hnm, hV, hH, -⟩ := id C
  obtain ⟨he, ht⟩ := aR_at ha
  obtain ⟨v1, -, cellV, g1, g2, g3, -⟩ := (S.1.2 v _ (oF_at hv)).2
  have hcls := (hV.1.1 (aTo t) _ (aC_at (aTo t) v1)).2
  have key : ∃ cA kA comp, tys[t]? = some (cA, FieldType.object (cNm (aTo t))) ∧ H[a]? = some (vp_cell cA (n, .inr (.inr (.inr (.inr f))))) ∧ s.vm.classes[cA]? = some kA ∧ kA.kind = .array comp (.object (cNm (aTo t))) ∧ s.vm.findClass (cNm (aTo t)) = some comp := by
    rcases ht with rfl | rfl | rfl <;>
      (obtain ⟨cA, c1, c2, c3, c4, kA, comp, k1, k2, k3, -⟩ := EA.arr hV (S.1.2 a _ he).2 rfl
       exact ⟨cA, kA, comp, c1, c3, k1, k2, k3⟩)
  obtain ⟨cA, kA, comp, c1, c3, k1, k2, k3⟩ := key
  have hcomp : comp = D.1 (aTo t) := Option.some.inj (k3.symm.trans hcls.1)
  subst hcomp
  obtain ⟨kC, hkC, -⟩ := hcls.2
  have hlt : i.toNatClampNeg < n := Nat.not_le.mp fun q => hin (Or.inr q)
  refine W.aast hx hb c3 (fun q h => by cases h) (fun h => by cases h) k1 k2 rfl hkC ⟨fun q => hin (Or.inl q), by show _ < (arrV _ _ _).slots.size; rw [arrV_size]; exact hlt⟩ g1 (fun q h => by rw [g3] at h; cases h) (by rw [g2]; exact hkC) (by rw [g2]; exact va_assign hcls) rfl rfl hd fun H1 e1 z oq => ?_
  refine k9 H1 _ ⟨_, c1, ?_⟩ z oq (fun l hl => by rw [List.mem_singleton.mp hl])
  show H1[a]? = some (vp_cell _ _)
  rw [e1, vp_cell_q, vp_cell_q, arrV_store]
  refine congrArg some (congrArg (arrV cA n) (funext fun q => ?_))
  by_cases hq : q = i.toNatClampNeg
  · subst hq
    simp [updV, va_up, va_rf]
  · simp [updV, va_up, hq]
theorem hh_new_int {n : Int32} (hn : ¬ n < 0) (hN : n.toNatClampNeg ≤ 1000000) (hd : decode M.2.2.1 pc = .ok (.newarray .int, 2)) (hw : WW G d M r1 h1 (pc + 2) ls (.ref h.1 :: r) (hnew h (.inl (0, n.toNatClampNeg, .inl (fun _ => 0))) n.toNatClampNeg)) : WW G d M r1 h1 pc ls (.int n :: r) h := by
  refine ww_new (fun D tys p l e R s m args below meth c sl0 Qf H locs lsA cells slots C S r1 r2 hsz k9 => ?_) hw
  obtain ⟨hx, hb, hml, hown, hts, hnm, hV, hH, -⟩ := id C
  obtain ⟨q, hq, hqt⟩ : ∃ q, tys[0]? = some q ∧ q.2 = .int := by
    have e1 : (tys.map (·.2))[0]? = some .int := by rw [hV.2.1]; rfl
    rw [List.getElem?_map] at e1
    cases hq : tys[0]? with
    | none => rw [hq] at e1; cases e1
    | some q => rw [hq] at e1; exact ⟨q, rfl, Option.some.inj e1⟩
  obtain ⟨cA, ty⟩ := q
  simp only at hqt
  subst hqt
  have hra := (hV.1.2 0 _ hq).2
  refine va_newaK (atype := .int) hx hb (hts _ tAr_int) rfl hd rfl hn rfl (by show _ * 4 ≤ _; omega) r1 r2 hsz (fun H1 cB e1 z oq hAr hNm => ?_)
  have : cB = cA := Option.some.inj (hNm.symm.trans hra)
  subst this
  exact k9 H1 ⟨_, hq, e1⟩ z (fun q hq => oq q hq)
theorem hh_new_byte {n : Int32} (hn : ¬ n < 0) (hN : n.toNatClampNeg ≤ 1000000) (hd : decode M.2.2.1 pc = .ok (.newarray .byte, 2)) (hw : WW G d M r1 h1 (pc + 2) ls (.ref h.1 :: r) (hnew h (.inl (1, n.toNatClampNeg, .inl (fun _ => 0))) n.toNatClampNeg)) : WW G d M r1 h1 pc ls (.int n :: r) h := by
  refine ww_new (fun D tys p l e R s m args below meth c sl0 Qf H locs lsA cells slots C S r1 r2 hsz k9 => ?_) hw
  obtain ⟨hx, hb, hml, hown, hts, hnm, hV, hH, -⟩ := id C
  obtain ⟨q, hq, hqt⟩ : ∃ q, tys[1]? = some q ∧ q.2 = .byte := by
    have e1 : (tys.map (·.2))[1]? = some .byte := by rw [hV.2.1]; rfl
    rw [List.getElem?_map] at e1
    cases hq : tys[1]? with
    | none => rw [hq] at e1; cases e1
    | some q => rw [hq] at e1; exact ⟨q, rfl, Option.some.inj e1⟩
  obtain ⟨cA, ty⟩ := q
  simp only at hqt
  subst hqt
  have hra := (hV.1.2 1 _ hq).2
  refine va_newaK (atype := .byte) hx hb (hts _ tAr_byte) rfl hd rfl hn rfl (by show _ * 1 ≤ _; omega) r1 r2 hsz (fun H1 cB e1 z oq hAr hNm => ?_)
  have : cB = cA := Option.some.inj (hNm.symm.trans hra)
  subst this
  exact k9 H1 ⟨_, hq, e1⟩ z (fun q hq => oq q hq)
theorem hh_new_short {n : Int32} (hn : ¬ n < 0) (hN : n.toNatClampNeg ≤ 1000000) (hd : decode M.2.2.1 pc = .ok (.newarray .short, 2)) (hw : WW G d M r1 h1 (pc + 2) ls (.ref h.1 :: r) (hnew h (.inl (2, n.toNatClampNeg, .inl (fun _ => 0))) n.toNatClampNeg)) : WW G d M r1 h1 pc ls (.int n :: r) h := by
  refine ww_new (fun D tys p l e R s m args below meth c sl0 Qf H locs lsA cells slots C S r1 r2 hsz k9 => ?_) hw
  obtain ⟨hx, hb, hml, hown, hts, hnm, hV, hH, -⟩ := id C
  obtain ⟨q, hq, hqt⟩ : ∃ q, tys[2]? = some q ∧ q.2 = .short := by
    have e1 : (tys.map (·.2))[2]? = some .short := by rw [hV.2.1]; rfl
    rw [List.getElem?_map] at e1
    cases hq : tys[2]? with
    | none => rw [hq] at e1; cases e1
    | some q => rw [hq] at e1; exact ⟨q, rfl, Option.some.inj e1⟩
  obtain ⟨cA, ty⟩ := q
  simp only at hqt
  subst hqt
  have hra := (hV.1.2 2 _ hq).2
  refine va_newaK (atype := .short) hx hb (hts _ tAr_short) rfl hd rfl hn rfl (by show _ * 2 ≤ _; omega) r1 r2 hsz (fun H1 cB e1 z oq hAr hNm => ?_)
  have : cB = cA := Option.some.inj (hNm.symm.trans hra)
  subst this
  exact k9 H1 ⟨_, hq, e1⟩ z (fun q hq => oq q hq)
theorem hh_new_long {n : Int32} (hn : ¬ n < 0) (hN : n.toNatClampNeg ≤ 1000000) (hd : decode M.2.2.1 pc = .ok (.newarray .long, 2)) (hw : WW G d M r1 h1 (pc + 2) ls (.ref h.1 :: r) (hnew h (.inl (3, n.toNatClampNeg, .inr (.inl (fun _ => 0)))) n.toNatClampNeg)) : WW G d M r1 h1 pc ls (.int n :: r) h := by
  refine ww_new (fun D tys p l e R s m args below meth c sl0 Qf H locs lsA cells slots C S r1 r2 hsz k9 => ?_) hw
  obtain ⟨hx, hb, hml, hown, hts, hnm, hV, hH, -⟩ := id C
  obtain ⟨q, hq, hqt⟩ : ∃ q, tys[3]? = some q ∧ q.2 = .long := by
    have e1 : (tys.map (·.2))[3]? = some .long := by rw [hV.2.1]; rfl
    rw [List.getElem?_map] at e1
    cases hq : tys[3]? with
    | none => rw [hq] at e1; cases e1
    | some q => rw [hq] at e1; exact ⟨q, rfl, Option.some.inj e1⟩
  obtain ⟨cA, ty⟩ := q
  simp only at hqt
  subst hqt
  have hra := (hV.1.2 3 _ hq).2
  refine va_newaK (atype := .long) hx hb (hts _ tAr_long) rfl hd rfl hn rfl (by show _ * 8 ≤ _; omega) r1 r2 hsz (fun H1 cB e1 z oq hAr hNm => ?_)
  have : cB = cA := Option.some.inj (hNm.symm.trans hra)
  subst this
  exact k9 H1 ⟨_, hq, e1⟩ z (fun q hq => oq q hq)
theorem hh_new_boolean {n : Int32} (hn : ¬ n < 0) (hN : n.toNatClampNeg ≤ 1000000) (hd : decode M.2.2.1 pc = .ok (.newarray .boolean, 2)) (hw : WW G d M r1 h1 (pc + 2) ls (.ref h.1 :: r) (hnew h (.inl (4, n.toNatClampNeg, .inl (fun _ => 0))) n.toNatClampNeg)) : WW G d M r1 h1 pc ls (.int n :: r) h := by
  refine ww_new (fun D tys p l e R s m args below meth c sl0 Qf H locs lsA cells slots C S r1 r2 hsz k9 => ?_) hw
  obtain ⟨hx, hb, hml, hown, hts, hnm, hV, hH, -⟩ := id C
  obtain ⟨q, hq, hqt⟩ : ∃ q, tys[4]? = some q ∧ q.2 = .boolean := by
    have e1 : (tys.map (·.2))[4]? = some .boolean := by rw [hV.2.1]; rfl
    rw [List.getElem?_map] at e1
    cases hq : tys[4]? with
    | none => rw [hq] at e1; cases e1
    | some q => rw [hq] at e1; exact ⟨q, rfl, Option.some.inj e1⟩
  obtain ⟨cA, ty⟩ := q
  simp only at hqt
  subst hqt
  have hra := (hV.1.2 4 _ hq).2
  refine va_newaK (atype := .boolean) hx hb (hts _ tAr_boolean) rfl hd rfl hn rfl (by show _ * 1 ≤ _; omega) r1 r2 hsz (fun H1 cB e1 z oq hAr hNm => ?_)
  have : cB = cA := Option.some.inj (hNm.symm.trans hra)
  subst this
  exact k9 H1 ⟨_, hq, e1⟩ z (fun q hq => oq q hq)
theorem hh_anew {idx t : Nat} {n : Int32} (ok : okA M.1 (idx, t)) (hn : ¬ n < 0) (hN : n.toNatClampNeg ≤ 1000000) (hd : decode M.2.2.1 pc = .ok (.anewarray idx, 3)) (hw : WW G d M r1 h1 (pc + 3) ls (.ref h.1 :: r) (hnew h (.inl (t, n.toNatClampNeg, .inr (.inr (.inr (.inr (fun _ => none)))))) n.toNatClampNeg)) : WW G d M r1 h1 pc ls (.int n :: r) h := by
  obtain ⟨ht, o2⟩ := ok
  simp only at ht o2
  refine ww_new (fun D tys p l e R s m args below meth c sl0 Qf H locs lsA cells slots C S r1 r2 hsz k9 => ?_) hw
  obtain ⟨hx, hb, hml, hown, hts, hnm, hV, hH, -⟩ := id C
  have hov : Cond.arrayOver (.object (cNm (aTo t))) ∈ lw_tbl := by
    rcases ht with rfl | rfl | rfl
    · exact tOv_5
    · exact tOv_6
    · exact tOv_7
  have htt : ([.int, .byte, .short, .long, .boolean, .object RX8, .object RX9, .object RX3] : List FieldType)[t]? = some (.object (cNm (aTo t))) := by rcases ht with rfl | rfl | rfl <;> rfl
  obtain ⟨q, hq, hqt⟩ : ∃ q, tys[t]? = some q ∧ q.2 = .object (cNm (aTo t)) := by
    have e1 : (tys.map (·.2))[t]? = some (.object (cNm (aTo t))) := by rw [hV.2.1]; exact htt
    rw [List.getElem?_map] at e1
    cases hq : tys[t]? with
    | none => rw [hq] at e1; cases e1
    | some q => rw [hq] at e1; exact ⟨q, rfl, Option.some.inj e1⟩
  obtain ⟨cA, ty⟩ := q
  simp only at hqt
  subst hqt
  obtain ⟨kA0, comp0, f1, f2, f3, f4⟩ := (hV.1.2 t _ hq).2
  refine W.anew hx hb hown (hts _ o2) (va_AO.use (hV.2.2.2.1 _ hov)) rfl hd rfl hn (by omega) r1 r2 fun cB kA comp g1 g2 g3 g4 => ?_
  have : cB = cA := Option.some.inj (g1.symm.trans f4)
  subst this
  have k := k9 (H.push { cls := cB, slots := Array.replicate n.toNatClampNeg .null, vm := .none }) ⟨_, hq, by
    rw [← hsz, Array.getElem?_push_size, arrV_new]
    rfl⟩ (by rw [Array.size_push, hsz]) (fun q hq => by rw [Array.getElem?_push, if_neg (by omega)])
  rw [← hsz] at k
  exact k
theorem hh_newo {idx ci : Nat} (ok : okN M.1 (idx, ci)) (hd : decode M.2.2.1 pc = .ok (.new idx, 3)) (hw : WW G d M r1 h1 (pc + 3) ls (.ref h.1 :: r) (hnew h (.inr (ci, fDef ci)) (fN ci))) : WW G d M r1 h1 pc ls r h := by
  obtain ⟨o1, o2, o3, o4⟩ := ok
  simp only at o1 o2 o3 o4
  refine ww_new (fun D tys p l e R s m args below meth c sl0 Qf H locs lsA cells slots C S r1 r2 hsz k9 => ?_) hw
  obtain ⟨hx, hb, hml, hown, hts, hnm, hV, hH, -⟩ := id C
  have hKn := hV.1.1 ci _ (aC_at ci o1)
  refine W.newcK hx hb hown (hts _ o2) (hts _ o3) (hts _ o4) rfl hd r1 r2 hKn.2.1 hsz fun H1 kC hkC e1 z1 oq => ?_
  exact k9 H1 ⟨o1, fDef_len ci o1, (u_born (fTy ci) hts (wsOk ci o1) hKn hkC e1 (tyOk ci o1)).to (fun j hj => defOk ci o1 j hj)⟩ z1 oq
theorem hh_cast {a n : Nat} {f : Nat → Int32} (hM : M.1 = 14) (ha : aI h a 0 = some (n, f)) (hd : decode M.2.2.1 pc = .ok (.checkcast 317, 3)) (hw : WW G d M r1 h1 (pc + 3) ls (.ref a :: r) h) : WW G d M r1 h1 pc ls (.ref a :: r) h := by
  refine ww_read (fun D tys p l e R s m args below meth c sl0 Qf H locs lsA cells slots C S k9 => ?_) hw
  obtain ⟨hx, hb, hml, hown, hts, hnm, hV, hH, -⟩ := id C
  rw [hM] at hown
  obtain ⟨cA, c1, c2, c3, c4, c5⟩ := EA.arr hV (S.1.2 a _ (aI_at ha)).2 (t := 0) rfl
  exact va_castA (D := D) (cl := aC) hx hb hown (hts _ tCn_l) c2 0 rfl c5 hd k9
theorem hh_ret {i : Instr} {st : List Value} (hd : decode M.2.2.1 pc = .ok (i, 1)) (hr : retOK M.2.2.2.2 i r1) (hst : st = r1.toList) : WW G d M r1 h pc ls st h := by
  refine ⟨Nat.le_refl _, Nat.le_refl _, fun D tys p l e R s m args below meth c sl0 Qf C H locs lsA S => ?_⟩
  subst hst
  exact C.2.2.2.2.2.2.2.2.2.2.2.2.2.2 H locs lsA pc i hd hr S.1 S.2.1
end HI
set_option maxHeartbeats 8000000 in
theorem snd_H {G : aG} {d : Nat} {Cal : aM → List Value → aH → aQ → Prop} {M : aM} {K : Nat → aL → List Value → aH → Prop} {Q : aQ} (tF : ∀ c, ∀ q ∈ pF c, okF c q) (tA : ∀ c, ∀ q ∈ pA c, okA c q) (tN : ∀ c, ∀ q ∈ pN c, okN c q)
    (hK : ∀ pc ls st h, K pc ls st h → SA G d M Q pc ls st h) {i : Instr} {n pc : Nat} {ls : aL} {st : List Value} {h : aH} (hd : decode M.2.2.1 pc = .ok (i, n)) (hn : n = ilen i n)
    (hS : stpS G d Cal M K i pc ls st h → SA G d M Q pc ls st h) (hw : stpH G d Cal M K Q i pc ls st h) : SA G d M Q pc ls st h := by
  unfold stpH at hw
  split at hw
  · have hn : n = 3 := hn
    subst hn
    obtain ⟨q, hq, hw⟩ := ob_at hw
    split at hw
    · obtain ⟨fs, hfs, hw⟩ := ob_at hw
      obtain ⟨v, hv, hw⟩ := ob_at hw
      exact SA.step (fun r1 h1 => hh_get (tF _ _ (lk_mem hq)) hfs hv hd) (hK _ _ _ _ hw)
    · exact hw.elim
  · have hn : n = 3 := hn
    subst hn
    obtain ⟨q, hq, hw⟩ := ob_at hw
    split at hw
    · obtain ⟨fs, hfs, g1, g2, g3, g4, g5, hw⟩ := ob_at hw
      exact SA.step (fun r1 h1 => hh_put (tF _ _ (lk_mem hq)) hfs g2 g1 g3 g4 g5 hd) (hK _ _ _ _ hw)
    · exact hw.elim
  · have hn : n = 1 := hn
    subst hn
    split at hw
    · obtain ⟨k, hk, hw⟩ := ob_at hw
      exact SA.step (fun r1 h1 => hh_len hk hd) (hK _ _ _ _ hw)
    · exact hw.elim
  · have hn : n = 1 := hn
    subst hn
    split at hw
    · split at hw
      · rename_i hc
        obtain ⟨hc1, rfl⟩ := hc
        exact SA.step (fun r1 h1 => hh_sld hw.1 hd) (hK _ _ _ _ hw.2)
      · obtain ⟨x, hx, hw⟩ := ob_at hw
        exact SA.step (fun r1 h1 => hh_iald hx hw.1 hd) (hK _ _ _ _ hw.2)
    · exact hw.elim
  · have hn : n = 1 := hn
    subst hn
    split at hw
    · obtain ⟨x, hx, hw⟩ := ob_at hw
      cases h1 : aI h _ 1 with
      | some y =>
        rw [h1] at hx
        cases hx
        exact SA.step (fun r1 h2 => hh_bald h1 hw.1 hd) (hK _ _ _ _ hw.2)
      | none =>
        rw [h1] at hx
        exact SA.step (fun r1 h2 => hh_zald hx hw.1 hd) (hK _ _ _ _ hw.2)
    · exact hw.elim
  · have hn : n = 1 := hn
    subst hn
    split at hw
    · obtain ⟨x, hx, hw⟩ := ob_at hw
      exact SA.step (fun r1 h1 => hh_sald hx hw.1 hd) (hK _ _ _ _ hw.2)
    · exact hw.elim
  · have hn : n = 1 := hn
    subst hn
    split at hw
    · obtain ⟨x, hx, hw⟩ := ob_at hw
      exact SA.step (fun r1 h1 => hh_lald hx hw.1 hd) (hK _ _ _ _ hw.2)
    · exact hw.elim
  · have hn : n = 1 := hn
    subst hn
    split at hw
    · obtain ⟨x, hx, hw⟩ := ob_at hw
      exact SA.step (fun r1 h1 => hh_aald hx hw.1 hd) (hK _ _ _ _ hw.2)
    · exact hw.elim
  · have hn : n = 1 := hn
    subst hn
    split at hw
    · obtain ⟨x, hx, hw⟩ := ob_at hw
      exact SA.step (fun r1 h1 => hh_iast hx hw.1 hw.2.1 hd) (hK _ _ _ _ hw.2.2)
    · exact hw.elim
  · have hn : n = 1 := hn
    subst hn
    split at hw
    · split at hw
      · rename_i hx
        exact SA.step (fun r1 h1 => hh_bast hx hw.1 hw.2.1 hd) (hK _ _ _ _ hw.2.2)
      · obtain ⟨x, hx, hw⟩ := ob_at hw
        exact SA.step (fun r1 h1 => hh_zast hx hw.1 hw.2.1 hd) (hK _ _ _ _ hw.2.2)
    · exact hw.elim
  · have hn : n = 1 := hn
    subst hn
    split at hw
    · obtain ⟨x, hx, hw⟩ := ob_at hw
      exact SA.step (fun r1 h1 => hh_sast hx hw.1 hw.2.1 hd) (hK _ _ _ _ hw.2.2)
    · exact hw.elim
  · have hn : n = 1 := hn
    subst hn
    split at hw
    · obtain ⟨x, hx, hw⟩ := ob_at hw
      exact SA.step (fun r1 h1 => hh_last hx hw.1 hw.2.1 hd) (hK _ _ _ _ hw.2.2)
    · exact hw.elim
  · have hn : n = 1 := hn
    subst hn
    split at hw
    · obtain ⟨x, hx, g1, g2, hw⟩ := ob_at hw
      obtain ⟨vs, hvs, hw⟩ := ob_at hw
      exact SA.step (fun r1 h1 => hh_aast hx hvs g1 g2 hd) (hK _ _ _ _ hw)
    · exact hw.elim
  · have hn : n = 2 := hn
    subst hn
    split at hw
    · obtain ⟨g1, g2, hw⟩ := hw
      split at hw
      · exact SA.step (fun r1 h1 => hh_new_int g1 g2 hd) (hK _ _ _ _ hw)
      · exact SA.step (fun r1 h1 => hh_new_byte g1 g2 hd) (hK _ _ _ _ hw)
      · exact SA.step (fun r1 h1 => hh_new_short g1 g2 hd) (hK _ _ _ _ hw)
      · exact SA.step (fun r1 h1 => hh_new_long g1 g2 hd) (hK _ _ _ _ hw)
      · exact SA.step (fun r1 h1 => hh_new_boolean g1 g2 hd) (hK _ _ _ _ hw)
      · exact hw.elim
    · exact hw.elim
  · have hn : n = 3 := hn
    subst hn
    obtain ⟨q, hq, hw⟩ := ob_at hw
    split at hw
    · exact SA.step (fun r1 h1 => hh_anew (tA _ _ (lk_mem hq)) hw.1 hw.2.1 hd) (hK _ _ _ _ hw.2.2)
    · exact hw.elim
  · have hn : n = 3 := hn
    subst hn
    obtain ⟨q, hq, hw⟩ := ob_at hw
    exact SA.step (fun r1 h1 => hh_newo (tN _ _ (lk_mem hq)) hd) (hK _ _ _ _ hw)
  · have hn : n = 3 := hn
    subst hn
    split at hw
    · obtain ⟨g1, rfl, hw⟩ := hw
      obtain ⟨x, hx, hw⟩ := ob_at hw
      exact SA.step (fun r1 h1 => hh_cast g1 hx hd) (hK _ _ _ _ hw)
    · exact hw.elim
  · have hn : n = 1 := hn
    subst hn
    split at hw
    · exact ⟨_, h, hw.2, hh_ret hd hw.1 rfl⟩
    · exact hw.elim
  · have hn : n = 1 := hn
    subst hn
    split at hw
    · exact ⟨_, h, hw.2, hh_ret hd hw.1 rfl⟩
    · exact hw.elim
  · have hn : n = 1 := hn
    subst hn
    split at hw
    · exact ⟨_, h, hw.2, hh_ret hd hw.1 rfl⟩
    · exact hw.elim
  · have hn : n = 1 := hn
    subst hn
    split at hw
    · exact ⟨_, h, hw.2, hh_ret hd hw.1 rfl⟩
    · exact hw.elim
  · exact hS hw
