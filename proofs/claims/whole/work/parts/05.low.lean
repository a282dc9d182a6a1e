/-! locals, heaps: what the small machine's picture says of the Java machine's -/
def posl (ls : aL) : List (Nat × Value) := ls.zipIdx.filterMap (fun q => q.1.map (fun v => (q.2, v)))
theorem mem_posl {ls : aL} {i : Nat} {v : Value} : (i, v) ∈ posl ls ↔ ls[i]? = some (some v) := by
  unfold posl
  rw [List.mem_filterMap]
  constructor
  · rintro ⟨⟨o, j⟩, h1, h2⟩
    have h3 := List.mem_zipIdx_iff_getElem?.mp h1
    cases o with
    | none => cases h2
    | some w =>
      cases h2
      exact h3
  · intro h
    exact ⟨(some v, i), List.mem_zipIdx_iff_getElem?.mpr h, rfl⟩
def LH (lsA : Array Slot) (ls : aL) : Prop := lv_has lsA ls.length (posl ls)
theorem LH.at {lsA : Array Slot} {ls : aL} (h : LH lsA ls) {i : Nat} {v : Value} (hv : ls[i]? = some (some v)) : lsA[i]? = some (.val v) := h.2.2 (i, v) (mem_posl.mpr hv)
theorem LH.of {lsA : Array Slot} {ls : aL} {n : Nat} {l : List (Nat × Value)} (h : lv_has lsA n l) (hn : ls.length = n) (hl : ∀ i v, ls[i]? = some (some v) → (i, v) ∈ l) : LH lsA ls := by
  subst hn
  exact ⟨h.1, h.2.1, fun q hq => h.2.2 q (hl q.1 q.2 (mem_posl.mp hq))⟩
theorem clr_len (ls : aL) (j : Nat) : (clr ls j).length = ls.length := by
  unfold clr
  split
  · rfl
  · split <;> simp
theorem stL_len (ls : aL) (j : Nat) (v : Value) : (stL ls j v).length = ls.length := by simp [stL, clr_len]
theorem stL2_len (ls : aL) (j : Nat) (v : Value) : (stL2 ls j v).length = ls.length := by simp [stL2, stL_len]
theorem clr_get {ls : aL} {j i : Nat} {v : Value} (h : (clr ls j)[i]? = some (some v)) : ls[i]? = some (some v) ∧ (i + 1 = j → v.category ≠ 2) := by
  unfold clr at h
  split at h
  · exact ⟨h, fun e => by omega⟩
  · rename_i i0
    split at h
    · rename_i x hx
      by_cases e : i0 = i
      · subst e
        simp [List.getElem?_set] at h
      · rw [List.getElem?_set_ne e] at h
        exact ⟨h, fun e2 => absurd (by omega : i0 = i) e⟩
    · rename_i x hx
      by_cases e : i0 = i
      · subst e
        simp [List.getElem?_set] at h
      · rw [List.getElem?_set_ne e] at h
        exact ⟨h, fun e2 => absurd (by omega : i0 = i) e⟩
    · rename_i h1 h2
      refine ⟨h, fun e2 => ?_⟩
      have e3 : i = i0 := by omega
      subst e3
      cases v with
      | long x => exact absurd h (h1 x)
      | double x => exact absurd h (h2 x)
      | _ => simp [Value.category]
theorem stL_get {ls : aL} {j i : Nat} {v w : Value} (h : (stL ls j v)[i]? = some (some w)) : (i = j ∧ w = v) ∨ (i ≠ j ∧ ls[i]? = some (some w) ∧ (i + 1 = j → w.category ≠ 2)) := by
  unfold stL at h
  by_cases e : j = i
  · subst e
    rw [List.getElem?_set] at h
    simp at h
    exact Or.inl ⟨rfl, h.2.symm⟩
  · rw [List.getElem?_set_ne e] at h
    obtain ⟨h1, h2⟩ := clr_get h
    exact Or.inr ⟨Ne.symm e, h1, h2⟩
theorem stL_has {lsA : Array Slot} {ls : aL} {j : Nat} {v : Value} (h : lv_has lsA ls.length ((j, v) :: (posl ls).filter (fun q => !(q.1 == j) && !(q.1 + 1 == j && q.2.category == 2)))) : LH lsA (stL ls j v) := by
  refine LH.of h (stL_len _ _ _) (fun i w hw => ?_)
  rcases stL_get hw with ⟨rfl, rfl⟩ | ⟨h1, h2, h3⟩
  · exact List.mem_cons_self
  · refine List.mem_cons_of_mem _ (List.mem_filter.mpr ⟨mem_posl.mpr h2, ?_⟩)
    simp only [Bool.and_eq_true, Bool.not_eq_true', beq_eq_false_iff_ne, ne_eq, Bool.and_eq_false_iff]
    refine ⟨h1, ?_⟩
    by_cases e : i + 1 = j
    · exact Or.inr (h3 e)
    · exact Or.inl e
theorem stL2_has {lsA : Array Slot} {ls : aL} {j : Nat} {v : Value} (h : lv_has lsA ls.length ((j, v) :: (posl ls).filter (fun q => !(q.1 == j) && (!(q.1 == j + 1) && !(q.1 + 1 == j && q.2.category == 2))))) : LH lsA (stL2 ls j v) := by
  refine LH.of h (stL2_len _ _ _) (fun i w hw => ?_)
  unfold stL2 at hw
  by_cases e1 : j + 1 = i
  · subst e1
    rw [List.getElem?_set] at hw
    simp at hw
  · rw [List.getElem?_set_ne e1] at hw
    rcases stL_get hw with ⟨rfl, rfl⟩ | ⟨h1, h2, h3⟩
    · exact List.mem_cons_self
    · refine List.mem_cons_of_mem _ (List.mem_filter.mpr ⟨mem_posl.mpr h2, ?_⟩)
      simp only [Bool.and_eq_true, Bool.not_eq_true', beq_eq_false_iff_ne, ne_eq, Bool.and_eq_false_iff]
      refine ⟨h1, fun e => e1 e.symm, ?_⟩
      by_cases e : i + 1 = j
      · exact Or.inr (h3 e)
      · exact Or.inl e
theorem eA_len : ∀ (vs : List Value), (lg_sl vs).length = (eA vs).length
  | [] => rfl
  | v :: vs => by
    have h := eA_len vs
    unfold lg_sl eA at *
    simp only [List.flatMap_cons, List.length_append, h]
    unfold sl1
    split <;> rfl
theorem eA_args : ∀ (vs : List Value) (n i : Nat) (v : Value), (eA vs)[i]? = some (some v) → (n + i, v) ∈ lv_args n vs
  | [], n, i, v, h => by simp [eA] at h
  | w :: vs, n, i, v, h => by
    unfold eA at h
    rw [List.flatMap_cons] at h
    rcases lv_cat w with hc | hc
    · have hs : sl1 w = [some w] := by unfold sl1; rw [if_neg (by omega)]
      rw [hs] at h
      cases i with
      | zero =>
        simp at h
        subst h
        unfold lv_args
        exact List.mem_cons_self
      | succ i =>
        have h2 := eA_args vs (n + 1) i v (by simpa [eA] using h)
        unfold lv_args
        refine List.mem_cons_of_mem _ ?_
        simp only [hc]
        rw [show n + (i + 1) = n + 1 + i by omega]
        simpa using h2
    · have hs : sl1 w = [some w, none] := by unfold sl1; rw [if_pos hc]
      rw [hs] at h
      match i with
      | 0 =>
        simp at h
        subst h
        unfold lv_args
        exact List.mem_cons_self
      | 1 => simp at h
      | i + 2 =>
        have h2 := eA_args vs (n + 2) i v (by simpa [eA] using h)
        unfold lv_args
        refine List.mem_cons_of_mem _ ?_
        simp only [hc]
        rw [show n + (i + 2) = n + 2 + i by omega]
        simpa using h2
theorem eL_len {n : Nat} {vs : List Value} (h : (eA vs).length ≤ n) : (eL n vs).length = n := by
  unfold eL
  rw [List.length_append, List.length_replicate]
  omega
theorem eL_has {n : Nat} {vs : List Value} (h : (eA vs).length ≤ n) : LH ((lg_sl vs ++ List.replicate (n - (lg_sl vs).length) Slot.unset).toArray) (eL n vs) := by
  refine LH.of (lv_entry vs (by rw [eA_len]; exact h)) (eL_len h) (fun i v hv => ?_)
  unfold eL at hv
  by_cases hi : i < (eA vs).length
  · rw [List.getElem?_append_left hi] at hv
    have h2 := eA_args vs 0 i v hv
    rwa [Nat.zero_add] at h2
  · rw [List.getElem?_append_right (by omega)] at hv
    rw [List.getElem?_replicate] at hv
    split at hv <;> cases hv
/-- a cell of the picture -/
def EA (D : va_G) (tys : List (ClassId × FieldType)) (e : aE) (a : Nat) (H : Heap) : Prop := match e with
  | .inl x => ∃ q, tys[x.1]? = some q ∧ H[a]? = some (vp_cell q.1 x.2)
  | .inr o => o.1 < 12 ∧ o.2.length = fN o.1 ∧ t_OB a (D.1 o.1) (fN o.1) (D.2 o.1) H (vp_V o.2)
def Rep (B : Nat) (D : va_G) (tys : List (ClassId × FieldType)) (h : aH) (H : Heap) : Prop := H.size = h.1 ∧ ∀ a e, h.2.1 a = some e → B ≤ a ∧ EA D tys e a H
theorem EA.kept {D : va_G} {tys : List (ClassId × FieldType)} {e : aE} {a : Nat} {H H1 : Heap} (h : EA D tys e a H) (hq : H1[a]? = H[a]?) : EA D tys e a H1 := by
  cases e with
  | inl x =>
    obtain ⟨q, h1, h2⟩ := h
    exact ⟨q, h1, hq.trans h2⟩
  | inr o => exact ⟨h.1, h.2.1, h.2.2.kept hq⟩
theorem EA.lt {D : va_G} {tys : List (ClassId × FieldType)} {e : aE} {a : Nat} {H : Heap} (h : EA D tys e a H) : a < H.size := by
  cases e with
  | inl x =>
    obtain ⟨q, h1, h2⟩ := h
    exact (Array.getElem?_eq_some_iff.mp h2).1
  | inr o =>
    obtain ⟨-, -, cell, h2, -⟩ := h
    exact (Array.getElem?_eq_some_iff.mp h2).1
theorem Rep.lt {B : Nat} {D : va_G} {tys : List (ClassId × FieldType)} {h : aH} {H : Heap} (hR : Rep B D tys h H) {a : Nat} {e : aE} (he : h.2.1 a = some e) : a < h.1 := by
  have := (hR.2 a e he).2.lt
  rwa [hR.1] at this
theorem Rep.up {B : Nat} {D : va_G} {tys : List (ClassId × FieldType)} {h : aH} {H H1 : Heap} (hR : Rep B D tys h H) {a : Nat} {e : aE} (hB : B ≤ a) (h1 : EA D tys e a H1) (z : H1.size = H.size) (oq : ∀ q, q ≠ a → H1[q]? = H[q]?) : Rep B D tys (hup h a e) H1 := by
  refine ⟨z.trans hR.1, fun b e' hb => ?_⟩
  unfold hup at hb
  by_cases hba : b = a
  · subst hba
    simp at hb
    subst hb
    exact ⟨hB, h1⟩
  · simp [hba] at hb
    exact ⟨(hR.2 b e' hb).1, (hR.2 b e' hb).2.kept (oq b hba)⟩
theorem Rep.new {B : Nat} {D : va_G} {tys : List (ClassId × FieldType)} {h : aH} {H H1 : Heap} (hR : Rep B D tys h H) {e : aE} {n : Nat} (hB : B ≤ h.1) (h1 : EA D tys e h.1 H1) (z : H1.size = h.1 + 1) (oq : ∀ q, q < h.1 → H1[q]? = H[q]?) : Rep B D tys (hnew h e n) H1 := by
  refine ⟨z, fun b e' hb => ?_⟩
  unfold hnew at hb
  by_cases hba : b = h.1
  · subst hba
    simp at hb
    subst hb
    exact ⟨hB, h1⟩
  · simp [hba] at hb
    have := hR.lt hb
    exact ⟨(hR.2 b e' hb).1, (hR.2 b e' hb).2.kept (oq b this)⟩
theorem oF_at {h : aH} {a ci : Nat} {fs : List Value} (hh : oF h a ci = some fs) : h.2.1 a = some (.inr (ci, fs)) := by
  unfold oF at hh
  split at hh
  · rename_i cj fs' he
    split at hh
    · rename_i e
      subst e
      cases hh
      exact he
    · cases hh
  · cases hh
theorem aI_at {h : aH} {a t n : Nat} {f : Nat → Int32} (hh : aI h a t = some (n, f)) : h.2.1 a = some (.inl (t, n, .inl f)) := by
  unfold aI at hh
  split at hh
  · rename_i t' n' f' he
    split at hh
    · rename_i e
      subst e
      cases hh
      exact he
    · cases hh
  · cases hh
theorem aJ_at {h : aH} {a n : Nat} {f : Nat → Int64} (hh : aJ h a = some (n, f)) : h.2.1 a = some (.inl (3, n, .inr (.inl f))) := by
  unfold aJ at hh
  split at hh
  · rename_i t' n' f' he
    split at hh
    · rename_i e
      subst e
      cases hh
      exact he
    · cases hh
  · cases hh
theorem aR_at {h : aH} {a t n : Nat} {f : Nat → Option Nat} (hh : aR h a = some (t, n, f)) : h.2.1 a = some (.inl (t, n, .inr (.inr (.inr (.inr f))))) ∧ (t = 5 ∨ t = 6 ∨ t = 7) := by
  unfold aR at hh
  split at hh
  · rename_i t' n' f' he
    split at hh
    · rename_i e
      cases hh
      exact ⟨he, e⟩
    · cases hh
  · cases hh
