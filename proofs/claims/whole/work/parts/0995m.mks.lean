/-! what stands at a sign, as the reference asks for it -/
theorem slen_pos : ∀ k, k < 15 → 0 < slen k := by decide +kernel
theorem tkW_inj : ∀ j k, j ≤ 15 → k < 15 → (tkW j).1 = (tkW k).1 → (tkW j).2 = (tkW k).2 → j = k := by
  have h : ∀ j, j < 16 → ∀ k, k < 15 → (tkW j).1 = (tkW k).1 → (tkW j).2 = (tkW k).2 → j = k := by decide +kernel
  exact fun j k hj hk => h j (by omega) k hk
section MKS
variable {b : Nat → Nat} {n : Nat}
theorem tk_m (hb : BOK b n) {i c : Nat} (hc : b (plc b n i) = c) (h0 : ¬ c = 0) (hL : isL c = false) (hD : isD c = false) : plc b n i < n ∧ tsr b n i = (tkM b (plc b n i)).1 ∧ twr b n i = (tkM b (plc b n i)).2.1 ∧ ten b n i = (tkM b (plc b n i)).2.2 := by
  rcases tk_c hb i with ⟨_, _, h⟩ | ⟨_, h, _⟩ | ⟨_, _, h, _⟩ | ⟨h1, _, _, h2⟩
  · rw [hb.1 _ h] at hc; exact absurd hc.symm h0
  · rw [hc, hL] at h; cases h
  · rw [hc, hD] at h; cases h
  · exact ⟨h1, h2⟩
theorem tk_of (hb : BOK b n) {i : Nat} (h : 10 ≤ tsr b n i) : plc b n i < n ∧ isL (b (plc b n i)) = false ∧ isD (b (plc b n i)) = false ∧ tsr b n i = (tkM b (plc b n i)).1 ∧ twr b n i = (tkM b (plc b n i)).2.1 ∧ ten b n i = (tkM b (plc b n i)).2.2 := by
  rcases tk_c hb i with ⟨h1, _⟩ | ⟨_, _, h1, _⟩ | ⟨_, _, _, h1, _⟩ | h1
  · omega
  · have := (tkW_s (wix_le b (plc b n i) (ten b n i))).2.2.2.1; omega
  · have := tkD_s (b := b) (q := plc b n i) (e := ten b n i); omega
  · exact h1
theorem tkM_t {q : Nat} : (tkM b q = (12, -11, q + 1) ∧ b q = 43) ∨ (tkM b q = (12, -12, q + 1) ∧ b q = 45) ∨ (tkM b q = (13, -13, q + 1) ∧ b q = 42) ∨ (tkM b q = (13, -14, q + 1) ∧ b q = 47) ∨ (tkM b q = (14, -17, q + 1) ∧ b q = 61) ∨ (tkM b q = (14, -16, q + 2) ∧ b q = 60 ∧ b (q + 1) = 61) ∨ (tkM b q = (14, -15, q + 1) ∧ b q = 60 ∧ ¬ b (q + 1) = 61) ∨ (tkM b q = (14, -18, q + 2) ∧ b q = 62 ∧ b (q + 1) = 61) ∨ (tkM b q = (14, -19, q + 1) ∧ b q = 62 ∧ ¬ b (q + 1) = 61) ∨ (tkM b q = (10, 0, q + 1) ∧ b q = 91) ∨ (tkM b q = (11, 0, q + 1) ∧ b q = 93) ∨ (tkM b q = (15, 0, q + 1) ∧ b q = 59) ∨ (tkM b q = (1, 0, q + 1) ∧ ¬ b q = 43 ∧ ¬ b q = 45 ∧ ¬ b q = 42 ∧ ¬ b q = 47 ∧ ¬ b q = 61 ∧ ¬ b q = 60 ∧ ¬ b q = 62 ∧ ¬ b q = 91 ∧ ¬ b q = 93 ∧ ¬ b q = 59) := by
  unfold tkM
  by_cases c1 : b q = 43
  · simp [c1]
  by_cases c2 : b q = 45
  · simp [c2]
  by_cases c3 : b q = 42
  · simp [c3]
  by_cases c4 : b q = 47
  · simp [c4]
  by_cases c5 : b q = 61
  · simp [c5]
  by_cases c6 : b q = 60
  · by_cases y : b (q + 1) = 61 <;> simp [c6, y]
  by_cases c7 : b q = 62
  · by_cases y : b (q + 1) = 61 <;> simp [c7, y]
  by_cases c8 : b q = 91
  · simp [c8]
  by_cases c9 : b q = 93
  · simp [c9]
  by_cases c10 : b q = 59
  · simp [c10]
  simp [c1, c2, c3, c4, c5, c6, c7, c8, c9, c10]
/-- marks that two signs share -/
theorem mk_13 (hb : BOK b n) (i : Nat) : tsr b n i = 13 ↔ b (plc b n i) = 42 ∨ b (plc b n i) = 47 := by
  constructor
  · intro h
    obtain ⟨_, _, _, h1, _, _⟩ := tk_of hb (i := i) (by omega)
    rcases tkM_t (b := b) (q := plc b n i) with z | z | z | z | z | z | z | z | z | z | z | z | z <;> (rw [z.1] at h1; first | (exfalso; simp only at h1; omega) | exact Or.inl z.2 | exact Or.inr z.2)
  · rintro (h | h)
    · obtain ⟨_, h1, _, _⟩ := tk_m hb h (by decide) (by decide) (by decide)
      rw [h1]; unfold tkM; simp [h]
    · obtain ⟨_, h1, _, _⟩ := tk_m hb h (by decide) (by decide) (by decide)
      rw [h1]; unfold tkM; simp [h]
theorem mk_12 (hb : BOK b n) (i : Nat) : tsr b n i = 12 ↔ b (plc b n i) = 43 ∨ b (plc b n i) = 45 := by
  constructor
  · intro h
    obtain ⟨_, _, _, h1, _, _⟩ := tk_of hb (i := i) (by omega)
    rcases tkM_t (b := b) (q := plc b n i) with z | z | z | z | z | z | z | z | z | z | z | z | z <;> (rw [z.1] at h1; first | (exfalso; simp only at h1; omega) | exact Or.inl z.2 | exact Or.inr z.2)
  · rintro (h | h)
    · obtain ⟨_, h1, _, _⟩ := tk_m hb h (by decide) (by decide) (by decide)
      rw [h1]; unfold tkM; simp [h]
    · obtain ⟨_, h1, _, _⟩ := tk_m hb h (by decide) (by decide) (by decide)
      rw [h1]; unfold tkM; simp [h]
theorem mk_14 (hb : BOK b n) (i : Nat) : tsr b n i = 14 ↔ b (plc b n i) = 60 ∨ b (plc b n i) = 61 ∨ b (plc b n i) = 62 := by
  constructor
  · intro h
    obtain ⟨_, _, _, h1, _, _⟩ := tk_of hb (i := i) (by omega)
    rcases tkM_t (b := b) (q := plc b n i) with z | z | z | z | z | z | z | z | z | z | z | z | z <;> (rw [z.1] at h1; first | (exfalso; simp only at h1; omega) | omega)
  · rintro (h | h | h)
    · obtain ⟨_, h1, _, _⟩ := tk_m hb h (by decide) (by decide) (by decide)
      rw [h1]; unfold tkM; by_cases y : b (plc b n i + 1) = 61 <;> simp [h, y]
    · obtain ⟨_, h1, _, _⟩ := tk_m hb h (by decide) (by decide) (by decide)
      rw [h1]; unfold tkM; simp [h]
    · obtain ⟨_, h1, _, _⟩ := tk_m hb h (by decide) (by decide) (by decide)
      rw [h1]; unfold tkM; by_cases y : b (plc b n i + 1) = 61 <;> simp [h, y]
theorem mk_1 (hb : BOK b n) (i s c : Nat) (hs : (s = 10 ∧ c = 91) ∨ (s = 11 ∧ c = 93) ∨ (s = 15 ∧ c = 59)) : tsr b n i = s ↔ b (plc b n i) = c := by
  constructor
  · intro h
    obtain ⟨_, _, _, h1, _, _⟩ := tk_of hb (i := i) (by omega)
    rcases tkM_t (b := b) (q := plc b n i) with z | z | z | z | z | z | z | z | z | z | z | z | z <;> (rw [z.1] at h1; simp only at h1; omega)
  · intro h
    have hc : ¬ c = 0 ∧ isL c = false ∧ isD c = false := by
      rcases hs with ⟨_, z⟩ | ⟨_, z⟩ | ⟨_, z⟩ <;> (rw [z]; decide)
    obtain ⟨_, h1, _, _⟩ := tk_m hb h hc.1 hc.2.1 hc.2.2
    rw [h1]
    rcases hs with ⟨z, y⟩ | ⟨z, y⟩ | ⟨z, y⟩ <;> (rw [z]; rw [y] at h; unfold tkM; simp [h])
/-- words: just this one stands here -/
theorem mk_w (hb : BOK b n) (i k : Nat) (hk : k < 15) : wst b (plc b n i) (rL b n (plc b n i)) k = true ↔ (tsr b n i = (tkW k).1 ∧ twr b n i = (tkW k).2) := by
  rw [wix_iff hk]
  have le0 := plc_le hb i
  constructor
  · intro h
    rcases tk_c hb i with ⟨_, _, h1⟩ | ⟨_, _, h1, h2, h3⟩ | ⟨_, h1, _⟩ | ⟨_, h1, _⟩
    · have e : plc b n i = n := by omega
      have r : rL b n n = n := Rs_u (rL_s hb) (Rs_0 (by show isL (b n) = false; rw [hb.1 n (Nat.le_refl _)]; rfl))
      rw [e, r] at h
      have t := wix_t b n n (by omega)
      rw [h] at t
      have l := (wst_iff.1 t).1
      have := slen_pos k hk
      omega
    · rw [← h3] at h
      rw [h1, h2, h]
      exact ⟨rfl, rfl⟩
    · exfalso
      have r : rL b n (plc b n i) = plc b n i := Rs_u (rL_s hb) (Rs_0 h1)
      rw [r] at h
      have t := wix_t b (plc b n i) (plc b n i) (by omega)
      rw [h] at t
      have l := (wst_iff.1 t).1
      have := slen_pos k hk
      omega
    · exfalso
      have r : rL b n (plc b n i) = plc b n i := Rs_u (rL_s hb) (Rs_0 h1)
      rw [r] at h
      have t := wix_t b (plc b n i) (plc b n i) (by omega)
      rw [h] at t
      have l := (wst_iff.1 t).1
      have := slen_pos k hk
      omega
  · rintro ⟨h1, h2⟩
    have tw := tkW_s (show k ≤ 15 by omega)
    have t9 : (tkW k).1 < 10 := tw.2.2.2.1
    rcases tk_c hb i with ⟨h3, _⟩ | ⟨_, _, h3, h4, h5⟩ | ⟨_, _, _, h3, _⟩ | ⟨_, _, _, h3, _⟩
    · exact absurd (h1.symm.trans h3) tw.1
    · rw [← h5]
      have w15 := wix_le b (plc b n i) (ten b n i)
      generalize wix b (plc b n i) (ten b n i) = j at *
      exact tkW_inj j k w15 hk (h3.symm.trans h1) (h4.symm.trans h2)
    · have := tkD_s (b := b) (q := plc b n i) (e := ten b n i)
      rcases this with z | z
      · exact absurd (h1.symm.trans (h3.trans z)) tw.2.1
      · exact absurd (h1.symm.trans (h3.trans z)) tw.2.2.1
    · have := tkM_s (b := b) (q := plc b n i)
      rw [← h3, h1] at this
      omega
/-- a value's sign -/
theorem mk_2 (hb : BOK b n) (i : Nat) : isD (b (plc b n i)) = true ↔ tsr b n i = 2 ∨ tsr b n i = 3 := by
  constructor
  · intro h
    rcases tk_c hb i with ⟨_, _, h1⟩ | ⟨_, h1, _⟩ | ⟨_, _, _, h1, _⟩ | ⟨_, _, h1, _⟩
    · rw [hb.1 _ h1] at h; cases h
    · simp [isL] at h1; simp [isD] at h; omega
    · rw [h1]; exact tkD_s
    · rw [h] at h1; cases h1
  · intro h
    rcases tk_c hb i with ⟨h1, _⟩ | ⟨_, _, h1, _⟩ | ⟨_, _, h1, _⟩ | ⟨_, _, _, h1, _⟩
    · omega
    · have := tkW_s (wix_le b (plc b n i) (ten b n i)); omega
    · exact h1
    · have := tkM_s (b := b) (q := plc b n i); omega
end MKS
