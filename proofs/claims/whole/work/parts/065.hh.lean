/-! steps that read or write the heap -/
section HH
variable {G : aG} {d : Nat} {M : aM} {r1 : Option Value} {h1 : aH} {pc pc' : Nat} {ls : aL} {st st' : List Value} {h : aH}
theorem ww_read (f : ∀ (D : va_G) (tys : List (ClassId × FieldType)) (p : Program) (l : Launch) (e : Env) (R : Room) (s : State) (m : MethodId) (args : Array Value) (below : List Frame) (meth : Method) (c : Code) (sl0 : Nat) (Qf : State → Prop) (H : Heap) (locs : List Loc) (lsA : Array Slot) (cells slots : Nat), Cx G d M r1 h1 D tys p l e R s m args below meth c sl0 Qf → St G D tys M s sl0 h H locs lsA ls →
      W p l e R s m args below meth c H locs cells slots Qf (F0 m pc' lsA st') → W p l e R s m args below meth c H locs cells slots Qf (F0 m pc lsA st))
    (hw : WW G d M r1 h1 pc' ls st' h) : WW G d M r1 h1 pc ls st h :=
  ⟨hw.1, hw.2.1, fun D tys p l e R s m args below meth c sl0 Qf C H locs lsA S => f D tys p l e R s m args below meth c sl0 Qf H locs lsA _ _ C S (hw.2.2 D tys p l e R s m args below meth c sl0 Qf C H locs lsA S)⟩
theorem ww_up {a : Nat} {e' : aE} (hB : G.1 ≤ a)
    (f : ∀ (D : va_G) (tys : List (ClassId × FieldType)) (p : Program) (l : Launch) (e : Env) (R : Room) (s : State) (m : MethodId) (args : Array Value) (below : List Frame) (meth : Method) (c : Code) (sl0 : Nat) (Qf : State → Prop) (H : Heap) (locs : List Loc) (lsA : Array Slot) (cells slots : Nat), Cx G d M r1 h1 D tys p l e R s m args below meth c sl0 Qf → St G D tys M s sl0 h H locs lsA ls →
      (∀ (H1 : Heap) (L : List Loc), EA D tys e' a H1 → H1.size = H.size → (∀ q, q ≠ a → H1[q]? = H[q]?) → (∀ l ∈ L, l.base = a) → W p l e R s m args below meth c H1 (locs ++ L) cells slots Qf (F0 m pc' lsA st')) → W p l e R s m args below meth c H locs cells slots Qf (F0 m pc lsA st))
    (hw : WW G d M r1 h1 pc' ls st' (hup h a e')) : WW G d M r1 h1 pc ls st h :=
  ⟨hw.1, hw.2.1, fun D tys p l e R s m args below meth c sl0 Qf C H locs lsA S => f D tys p l e R s m args below meth c sl0 Qf H locs lsA _ _ C S (fun H1 L he z oq hL =>
    hw.2.2 D tys p l e R s m args below meth c sl0 Qf C H1 (locs ++ L) lsA ⟨S.1.up hB he z oq, ⟨by rw [z]; exact S.2.1.1, fun q g1 g2 => by
      rw [oq q (fun z => g2 (by rw [z]; exact hB))]
      exact S.2.1.2.1 q g1 g2, fun q hq => by
      rcases List.mem_append.mp hq with g | g
      · exact S.2.1.2.2 q g
      · rw [hL q g]; exact hB⟩, S.2.2⟩)⟩
theorem ww_new {e' : aE} {n : Nat}
    (f : ∀ (D : va_G) (tys : List (ClassId × FieldType)) (p : Program) (l : Launch) (e : Env) (R : Room) (s : State) (m : MethodId) (args : Array Value) (below : List Frame) (meth : Method) (c : Code) (sl0 : Nat) (Qf : State → Prop) (H : Heap) (locs : List Loc) (lsA : Array Slot) (cells slots : Nat), Cx G d M r1 h1 D tys p l e R s m args below meth c sl0 Qf → St G D tys M s sl0 h H locs lsA ls →
      cells + 1 ≤ R.cells → slots + n ≤ R.slots → H.size = h.1 →
      (∀ (H1 : Heap), EA D tys e' h.1 H1 → H1.size = h.1 + 1 → (∀ q, q < h.1 → H1[q]? = H[q]?) → W p l e R s m args below meth c H1 locs (cells + 1) (slots + n) Qf (F0 m pc' lsA st')) → W p l e R s m args below meth c H locs cells slots Qf (F0 m pc lsA st))
    (hw : WW G d M r1 h1 pc' ls st' (hnew h e' n)) : WW G d M r1 h1 pc ls st h := by
  have g1 : h.1 + 1 ≤ h1.1 := hw.1
  have g2 : h.2.2 + n ≤ h1.2.2 := hw.2.1
  refine ⟨by omega, by omega, fun D tys p l e R s m args below meth c sl0 Qf C H locs lsA S => ?_⟩
  obtain ⟨-, -, -, -, -, -, -, -, -, -, c1, c2, -, c3, -⟩ := id C
  obtain ⟨s1, s2, s3, s4, s5, s6⟩ := id S
  refine f D tys p l e R s m args below meth c sl0 Qf H locs lsA _ _ C S (by omega) (by omega) s1.1 (fun H1 he z oq => ?_)
  have k := hw.2.2 D tys p l e R s m args below meth c sl0 Qf C H1 locs lsA ⟨s1.new (by omega) he z oq, ⟨by rw [z]; have := s2.1; have := s1.1; omega, fun q q1 q2 => by
      rw [oq q (by omega)]
      exact s2.2.1 q q1 q2, s2.2.2⟩, s3, s4, by show sl0 ≤ h.2.2 + n; omega, by show s.heap.size ≤ h.1 + 1; omega⟩
  have e1 : (hnew h e' n).1 - s.heap.size = h.1 - s.heap.size + 1 := by show h.1 + 1 - s.heap.size = _; omega
  have e2 : (hnew h e' n).2.2 - sl0 = h.2.2 - sl0 + n := by show h.2.2 + n - sl0 = _; omega
  rw [e1, e2] at k
  exact k
end HH
theorem vaP1 {D : va_G} {cl : List vw_C} {a : Nat} {e : va_E} {H : Heap} (h : va_at D cl (a, e) H) : va_P D cl [(a, e)] H := by
  intro k q hk
  have hz : k < 1 := (List.getElem?_eq_some_iff.mp hk).1
  have hk0 : k = 0 := by omega
  subst hk0
  cases hk
  exact h
theorem EA.obj {D : va_G} {tys : List (ClassId × FieldType)} {ci : Nat} {fs : List Value} {a : Nat} {H : Heap} (h : EA D tys (.inr (ci, fs)) a H) : va_P D aC [(a, .inr (ci, fs))] H :=
  vaP1 ⟨aCl ci, aC_at ci h.1, h.2.2⟩
theorem tyAt {tys : List (ClassId × FieldType)} {L : List FieldType} (h : tys.map (·.2) = L) {t : Nat} {q : ClassId × FieldType} (hq : tys[t]? = some q) : L[t]? = some q.2 := by
  rw [← h, List.getElem?_map, hq]
  rfl
/-- an array of the picture: its class, its cell -/
theorem EA.arr {G : aG} {D : va_G} {tys : List (ClassId × FieldType)} {U : State} {t : Nat} {x : vp_A} {a : Nat} {H : Heap} (hV : SV G D tys U) (h : EA D tys (.inl (t, x)) a H) {ty : FieldType} (ht : ([.int, .byte, .short, .long, .boolean, .object RX8, .object RX9, .object RX3] : List FieldType)[t]? = some ty) :
    ∃ cA, tys[t]? = some (cA, ty) ∧ va_P D aC [(a, .inl (cA, x))] H ∧ H[a]? = some (vp_cell cA x) ∧ ArrOfT U cA ty ∧ va_RA U cA ty := by
  obtain ⟨q, h1, h2⟩ := h
  have h3 := tyAt hV.2.1 h1
  rw [ht] at h3
  have h4 := hV.1.2 t q h1
  obtain ⟨cA, ty'⟩ := q
  cases h3
  exact ⟨cA, h1, vaP1 h2, h2, h4.1, h4.2⟩
