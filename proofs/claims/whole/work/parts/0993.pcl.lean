/-! clauses and the whole law -/
theorem ty_len {x : Int32} {s s' : List Bool} (h : ty1 x s = some s') : s'.length ≤ s.length + 1 := by
  unfold ty1 at h
  split at h
  · cases h; simp
  · split at h
    · split at h
      · cases h; simp
      · cases h
    · split at h
      · split at h
        · cases h; simp
        · cases h
      · split at h
        · split at h
          · cases h; simp
          · cases h
        · split at h
          · split at h
            · cases h; simp
            · cases h
          · cases h
theorem tyr_L {f : Nat → Int32} : ∀ (M : List Int32) (k : Nat) (s : List Bool), (∀ j, j < M.length → f (k + j) = M.getD j 0) → tyr f M.length k s = tyL M s := by
  intro M
  induction M with
  | nil => intro k s _; rfl
  | cons x M ih =>
    intro k s h
    have e : f k = x := h 0 (by simp)
    show tyr f (M.length + 1) k s = _
    rw [tyr, tyL, e]
    cases ty1 x s with
    | none => rfl
    | some s' =>
      show (if s'.length ≤ 60 then tyr f M.length (k + 1) s' else none) = if s'.length ≤ 60 then tyL M s' else none
      by_cases c : s'.length ≤ 60
      · rw [if_pos c, if_pos c]
        refine ih _ _ (fun j hj => ?_)
        have := h (j + 1) (by simp; omega)
        rw [show k + 1 + j = k + (j + 1) by omega, this]
        simp
      · rw [if_neg c, if_neg c]
def PgC (N : Nat) (r : Rp) (b : Nat) (i g : Nat) (L : List Int32) : Prop := (i < r.i ∧ r.i ≤ N) ∧ (g < r.g ∧ r.g ≤ 60) ∧ (∃ M1 M2 F, r.L = L ++ (M1 ++ M2) ∧ b = L.length + M1.length ∧ 3 * F ≤ r.g - g ∧ M1.length + M2.length ≤ 2 * (r.g - g) + 8 * F ∧ tyL M1 [] = some [false] ∧ (M2 = [] ∨ tyL M2 [] = some [true]))
theorem PgC.i {N : Nat} {r : Rp} {b : Nat} {i g : Nat} {L : List Int32} (H : PgC N r b i g L) : i < r.i ∧ r.i ≤ N := H.1
theorem PgC.g {N : Nat} {r : Rp} {b : Nat} {i g : Nat} {L : List Int32} (H : PgC N r b i g L) : g < r.g ∧ r.g ≤ 60 := H.2.1
theorem PgC.M {N : Nat} {r : Rp} {b : Nat} {i g : Nat} {L : List Int32} (H : PgC N r b i g L) : ∃ M1 M2 F, r.L = L ++ (M1 ++ M2) ∧ b = L.length + M1.length ∧ 3 * F ≤ r.g - g ∧ M1.length + M2.length ≤ 2 * (r.g - g) + 8 * F ∧ tyL M1 [] = some [false] ∧ (M2 = [] ∨ tyL M2 [] = some [true]) := H.2.2
section PCL
variable {ts : Nat → Nat} {tw : Nat → Int32} {tq : Nat → Nat} {N : Nat}
theorem zC_g (hT : TkOK ts tw N) {m i g : Nat} {L : List Int32} (h : (zC ts tw tq m i g L).f = 0) : ts i = 5 ∧ m < 12 ∧ PgC N (zC ts tw tq m i g L) (zS ts tw tq (i + 1) g L).L.length i g L := by
  unfold zC at h ⊢
  by_cases c : ts i = 5
  · rw [if_pos c] at h ⊢
    by_cases c2 : 12 ≤ m
    · rw [if_pos c2] at h; exact absurd h flt_f
    · rw [if_neg c2] at h ⊢
      refine ⟨c, by omega, ?_⟩
      by_cases z : (zS ts tw tq (i + 1) g L).f = 0
      · rw [bd_t z] at h ⊢
        obtain ⟨⟨a1, a2⟩, ⟨b1, b2⟩, M, e1, e2, e3⟩ := zS_g hT z
        generalize zS ts tw tq (i + 1) g L = r at *
        by_cases c3 : ts r.i = 6
        · rw [if_pos c3] at h ⊢
          obtain ⟨⟨c1, c2⟩, ⟨d1, d2⟩, M2, F, f1, f0, f4, f2, f3⟩ := zO_k (fun i g L h => zF_k hT 10 i g L h) h
          generalize zO ts (zF ts tw tq 10) (r.i + 1) r.g r.L = r2 at *
          refine ⟨⟨by omega, c2⟩, ⟨by omega, d2⟩, M, M2, F, by rw [f1, e1]; simp, by rw [e1]; simp, by omega, by omega, e3 [] (by simp; omega), Or.inr (f3 [] (by simp; omega))⟩
        · rw [if_neg c3]
          refine ⟨⟨by show i < r.i; omega, a2⟩, ⟨b1, b2⟩, M, [], 0, ?_, by rw [e1]; simp, by omega, ?_, e3 [] (by simp; omega), Or.inl rfl⟩
          · show r.L = _
            rw [e1]; simp
          · show M.length + 0 ≤ 2 * (r.g - g) + 8 * 0
            omega
      · rw [bd_f z] at h; exact absurd h z
  · rw [if_neg c] at h; exact absurd h flt_f
/-- the rows of clauses so far fit the steps so far -/
def ClOK (L cl : List Int32) (m : Nat) : Prop := cl.length = 4 * m ∧ ∀ q, q < m → ∃ a b c, cl.getD (4 * q + 1) 0 = nI a ∧ cl.getD (4 * q + 2) 0 = nI b ∧ cl.getD (4 * q + 3) 0 = nI c ∧ a ≤ b ∧ b ≤ c ∧ c ≤ L.length ∧ tyL ((L.drop a).take (b - a)) [] = some [false] ∧ (b = c ∨ tyL ((L.drop b).take (c - b)) [] = some [true])
theorem seg {L M : List Int32} {a n : Nat} (h : a + n ≤ L.length) : ((L ++ M).drop a).take n = (L.drop a).take n := by
  rw [List.drop_append_of_le_length (by omega), List.take_append_of_le_length (by simp; omega)]
theorem gD_l {L M : List Int32} {k : Nat} (h : k < L.length) : (L ++ M).getD k 0 = L.getD k 0 := by
  rw [List.getD_eq_getElem?_getD, List.getD_eq_getElem?_getD, List.getElem?_append_left h]
theorem gD_r {L M : List Int32} {k : Nat} : (L ++ M).getD (L.length + k) 0 = M.getD k 0 := by
  rw [List.getD_eq_getElem?_getD, List.getD_eq_getElem?_getD, List.getElem?_append_right (by omega), Nat.add_sub_cancel_left]
theorem ClOK_add {N : Nat} {L cl : List Int32} {m : Nat} {r : Rp} {b i g : Nat} {w : Int32} (hC : ClOK L cl m) (hP : PgC N r b i g L) : ClOK r.L (cl ++ [w, nI L.length, nI b, nI r.L.length]) (m + 1) := by
  obtain ⟨hl, hC⟩ := hC
  obtain ⟨_, _, M1, M2, F, e1, e2, _, _, e5, e6⟩ := hP
  refine ⟨by simp; omega, fun q hq => ?_⟩
  by_cases c : q < m
  · obtain ⟨a, b', c', h1, h2, h3, h4, h5, h6, h7, h8⟩ := hC q c
    refine ⟨a, b', c', ?_, ?_, ?_, h4, h5, by rw [e1]; simp; omega, ?_, ?_⟩
    · rw [gD_l (by omega)]; exact h1
    · rw [gD_l (by omega)]; exact h2
    · rw [gD_l (by omega)]; exact h3
    · rw [e1, seg (by omega)]; exact h7
    · rw [e1, seg (by omega)]; exact h8
  · have eq : q = m := by omega
    subst eq
    have g : ∀ k, (cl ++ [w, nI L.length, nI b, nI r.L.length]).getD (4 * q + k) 0 = [w, nI L.length, nI b, nI r.L.length].getD k 0 := fun k => by
      rw [← hl]; exact gD_r
    have rl : r.L.length = L.length + M1.length + M2.length := by rw [e1]; simp; omega
    refine ⟨L.length, b, r.L.length, g 1, g 2, g 3, by omega, by omega, Nat.le_refl _, ?_, ?_⟩
    · rw [e1, List.drop_left, e2, Nat.add_sub_cancel_left, List.take_left]
      exact e5
    · rcases e6 with z | z
      · left; rw [rl, e2, z]; simp
      · right
        rw [rl, e2, e1, ← List.append_assoc, show L.length + M1.length = (L ++ M1).length by simp, List.drop_left, show (L ++ M1).length + M2.length - (L ++ M1).length = M2.length by omega, List.take_length]
        exact z
/-- steps within the weight -/
def LnOK (g : Nat) (L : List Int32) : Prop := ∃ F, 3 * F ≤ g ∧ L.length ≤ 2 * g + 8 * F
theorem LnOK_add {N : Nat} {r : Rp} {b i g : Nat} {L : List Int32} (hL : LnOK g L) (hP : PgC N r b i g L) : LnOK r.g r.L := by
  obtain ⟨F, f1, f2⟩ := hL
  obtain ⟨_, ⟨g1, g2⟩, M1, M2, F2, e1, _, e3, e4, _, _⟩ := hP
  exact ⟨F + F2, by omega, by rw [e1]; simp; omega⟩
theorem LnOK_280 {g : Nat} {L : List Int32} (hL : LnOK g L) (hg : g ≤ 60) : L.length ≤ 280 := by
  obtain ⟨F, f1, f2⟩ := hL
  omega
theorem zW_g (hT : TkOK ts tw N) : ∀ k m i g L cl, g ≤ 60 → ClOK L cl m → LnOK g L → m ≤ 12 → (zW ts tw tq k m i g L cl).1.f = 0 → ClOK (zW ts tw tq k m i g L cl).1.L (zW ts tw tq k m i g L cl).2.2 (zW ts tw tq k m i g L cl).2.1 ∧ LnOK (zW ts tw tq k m i g L cl).1.g (zW ts tw tq k m i g L cl).1.L ∧ (zW ts tw tq k m i g L cl).2.1 ≤ 12 ∧ (zW ts tw tq k m i g L cl).1.g ≤ 60 := by
  intro k
  induction k with
  | zero => intro m i g L cl _ _ _ _ h; exact absurd h flt_f
  | succ k ih =>
    intro m i g L cl hg hC hL hm h
    rw [zW] at h ⊢
    by_cases z : (zC ts tw tq m i g L).f = 0
    · rw [if_pos z] at h ⊢
      obtain ⟨c5, c12, hP⟩ := zC_g hT z
      have C2 : ClOK _ (cl ++ zCl ts tw tq i g L (zC ts tw tq m i g L)) (m + 1) := ClOK_add (w := tw i) hC hP
      have L2 := LnOK_add hL hP
      have g2 := hP.g.2
      by_cases c : ts (zC ts tw tq m i g L).i = 15
      · rw [if_pos c] at h ⊢
        exact ih _ _ _ _ _ g2 C2 L2 (by omega) h
      · rw [if_neg c] at h ⊢
        by_cases c0 : ts (zC ts tw tq m i g L).i = 0
        · rw [if_pos c0]
          exact ⟨C2, L2, by show m + 1 ≤ 12; omega, g2⟩
        · rw [if_neg c0] at h; exact absurd h flt_f
    · rw [if_neg z] at h; exact absurd h z
/-- a law that holds what was read -/
def LwR (l : Lw) (L cl : List Int32) (m : Nat) : Prop := l.sc = L.length ∧ l.cc = m ∧ (∀ k, k < L.length → l.sf k = L.getD k 0) ∧ ∀ k, k < 4 * m → l.cf k = cl.getD k 0
theorem LwR_OK {l : Lw} {L cl : List Int32} {m : Nat} (hR : LwR l L cl m) (hC : ClOK L cl m) (hl : L.length ≤ 300) (hm : m ≤ 12) : LwOK l := by
  obtain ⟨r1, r2, r3, r4⟩ := hR
  obtain ⟨c1, c2⟩ := hC
  have tr : ∀ a n, a + n ≤ L.length → tyr l.sf n a [] = tyL ((L.drop a).take n) [] := fun a n h => by
    have e : ((L.drop a).take n).length = n := by simp; omega
    have := tyr_L (f := l.sf) ((L.drop a).take n) a [] (fun j hj => by
      rw [e] at hj
      rw [r3 (a + j) (by omega)]
      simp [List.getD_eq_getElem?_getD, List.getElem?_drop, hj])
    rw [e] at this
    exact this
  refine ⟨by omega, by omega, fun i hi => ?_⟩
  rw [r2] at hi
  obtain ⟨a, b, c, h1, h2, h3, h4, h5, h6, h7, h8⟩ := c2 i hi
  refine ⟨a, b, c, by rw [r4 _ (by omega)]; exact h1, by rw [r4 _ (by omega)]; exact h2, by rw [r4 _ (by omega)]; exact h3, h4, h5, by omega, ?_, ?_⟩
  · rw [tr a (b - a) (by omega)]; exact h7
  · rcases h8 with z | z
    · exact Or.inl z
    · exact Or.inr (by rw [tr b (c - b) (by omega)]; exact z)
end PCL
