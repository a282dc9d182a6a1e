/-! the text of a law, cut into signs -/
def run (f : Nat → Bool) : Nat → Nat → Nat
  | 0, p => p
  | k + 1, p => if f p = true then run f k (p + 1) else p
def Rs (f : Nat → Bool) (p q : Nat) : Prop := p ≤ q ∧ (∀ j, p ≤ j → j < q → f j = true) ∧ f q = false
theorem run_s {f : Nat → Bool} {n : Nat} (hf : ∀ p, n ≤ p → f p = false) : ∀ k p, n ≤ p + k → Rs f p (run f k p) := by
  intro k
  induction k with
  | zero => intro p hp; exact ⟨Nat.le_refl _, fun j h1 h2 => by rw [run] at h2; omega, hf p (by omega)⟩
  | succ k ih =>
    intro p hp
    rw [run]
    by_cases c : f p = true
    · rw [if_pos c]
      obtain ⟨h1, h2, h3⟩ := ih (p + 1) (by omega)
      refine ⟨by omega, fun j h4 h5 => ?_, h3⟩
      by_cases e : j = p
      · rw [e]; exact c
      · exact h2 j (by omega) h5
    · rw [if_neg c]
      exact ⟨Nat.le_refl _, fun j h1 h2 => by omega, by simpa using c⟩
theorem Rs_u {f : Nat → Bool} {p q q' : Nat} (h : Rs f p q) (h' : Rs f p q') : q = q' := by
  obtain ⟨a1, a2, a3⟩ := h
  obtain ⟨b1, b2, b3⟩ := h'
  rcases Nat.lt_trichotomy q q' with c | c | c
  · have := b2 q a1 c
    rw [a3] at this; cases this
  · exact c
  · have := a2 q' b1 c
    rw [b3] at this; cases this
theorem Rs_le {f : Nat → Bool} {n p q : Nat} (hf : ∀ p, n ≤ p → f p = false) (h : Rs f p q) (hp : p ≤ n) : q ≤ n := by
  by_cases c : n < q
  · have := h.2.1 n hp c
    rw [hf n (Nat.le_refl _)] at this; cases this
  · omega
theorem Rs_0 {f : Nat → Bool} {p : Nat} (h : f p = false) : Rs f p p := ⟨Nat.le_refl _, fun j h1 h2 => by omega, h⟩
theorem Rs_s {f : Nat → Bool} {p q : Nat} (h : f p = true) (hr : Rs f (p + 1) q) : Rs f p q := by
  obtain ⟨a1, a2, a3⟩ := hr
  refine ⟨by omega, fun j h1 h2 => ?_, a3⟩
  by_cases e : j = p
  · rw [e]; exact h
  · exact a2 j (by omega) h2
theorem Rs_1 {f : Nat → Bool} {p q : Nat} (h : f p = true) (hr : Rs f p q) : p < q ∧ Rs f (p + 1) q := by
  obtain ⟨a1, a2, a3⟩ := hr
  have ne : p ≠ q := fun e => by rw [e, a3] at h; cases h
  exact ⟨by omega, by omega, fun j h1 h2 => a2 j (by omega) h2, a3⟩
def BOK (b : Nat → Nat) (n : Nat) : Prop := (∀ p, n ≤ p → b p = 0) ∧ (∀ p, b p < 256) ∧ n ≤ 400
def isL (x : Nat) : Bool := decide (97 ≤ x ∧ x ≤ 122)
def isD (x : Nat) : Bool := decide (48 ≤ x ∧ x ≤ 57)
def isB (x : Nat) : Bool := decide (x = 32)
def rB (b : Nat → Nat) (n p : Nat) : Nat := run (fun j => isB (b j)) (n - p) p
def rL (b : Nat → Nat) (n p : Nat) : Nat := run (fun j => isL (b j)) (n - p) p
def rD (b : Nat → Nat) (n p : Nat) : Nat := run (fun j => isD (b j)) (n - p) p
section RUNS
variable {b : Nat → Nat} {n p : Nat}
theorem rB_s (hb : BOK b n) : Rs (fun j => isB (b j)) p (rB b n p) := run_s (n := n) (fun p hp => by show isB (b p) = false; rw [hb.1 p hp]; rfl) _ _ (by omega)
theorem rL_s (hb : BOK b n) : Rs (fun j => isL (b j)) p (rL b n p) := run_s (n := n) (fun p hp => by show isL (b p) = false; rw [hb.1 p hp]; rfl) _ _ (by omega)
theorem rD_s (hb : BOK b n) : Rs (fun j => isD (b j)) p (rD b n p) := run_s (n := n) (fun p hp => by show isD (b p) = false; rw [hb.1 p hp]; rfl) _ _ (by omega)
theorem rB_le (hb : BOK b n) (hp : p ≤ n) : rB b n p ≤ n := Rs_le (n := n) (fun p hp => by show isB (b p) = false; rw [hb.1 p hp]; rfl) (rB_s hb) hp
theorem rL_le (hb : BOK b n) (hp : p ≤ n) : rL b n p ≤ n := Rs_le (n := n) (fun p hp => by show isL (b p) = false; rw [hb.1 p hp]; rfl) (rL_s hb) hp
theorem rD_le (hb : BOK b n) (hp : p ≤ n) : rD b n p ≤ n := Rs_le (n := n) (fun p hp => by show isD (b p) = false; rw [hb.1 p hp]; rfl) (rD_s hb) hp
end RUNS
/-- word k (of the constants) stands just from q to e -/
def wst (b : Nat → Nat) (q e k : Nat) : Bool := decide (slen k = e - q) && (List.range (slen k)).all (fun j => decide (nI (b (q + j)) = schr k j))
def wix (b : Nat → Nat) (q e : Nat) : Nat := run (fun k => decide (k < 15) && !wst b q e k) 15 0
def dgv (b : Nat → Nat) (q : Nat) : Nat → Nat
  | 0 => 0
  | m + 1 => 10 * dgv b q m + (b (q + m) - 48)
def mn5 (k : Nat) : Nat := if k < 5 then k else 5
/-- the mark at q: sort, worth, end -/
def tkM (b : Nat → Nat) (q : Nat) : Nat × Int32 × Nat :=
  if b q = 43 then (12, -11, q + 1) else if b q = 45 then (12, -12, q + 1) else if b q = 42 then (13, -13, q + 1) else if b q = 47 then (13, -14, q + 1)
  else if b q = 61 then (14, -17, q + 1) else if b q = 60 then (if b (q + 1) = 61 then (14, -16, q + 2) else (14, -15, q + 1))
  else if b q = 62 then (if b (q + 1) = 61 then (14, -18, q + 2) else (14, -19, q + 1)) else if b q = 91 then (10, 0, q + 1) else if b q = 93 then (11, 0, q + 1)
  else if b q = 59 then (15, 0, q + 1) else (1, 0, q + 1)
def tkW (k : Nat) : Nat × Int32 := if k < 8 then (4, nI k) else if k < 11 then (5, nI (k - 8)) else if k < 15 then (k - 5, 0) else (1, 0)
def tkD (b : Nat → Nat) (q e : Nat) : Nat × Int32 := (if 5 < e - q then 3 else 2, nI (dgv b q (mn5 (e - q))))
def tk (b : Nat → Nat) (n q : Nat) : Nat × Int32 × Nat :=
  if n ≤ q then (0, 0, q) else if isL (b q) = true then ((tkW (wix b q (rL b n q))).1, (tkW (wix b q (rL b n q))).2, rL b n q)
  else if isD (b q) = true then ((tkD b q (rD b n q)).1, (tkD b q (rD b n q)).2, rD b n q) else tkM b q
def plc (b : Nat → Nat) (n : Nat) : Nat → Nat
  | 0 => rB b n 0
  | i + 1 => rB b n (tk b n (plc b n i)).2.2
def tsr (b : Nat → Nat) (n i : Nat) : Nat := (tk b n (plc b n i)).1
def twr (b : Nat → Nat) (n i : Nat) : Int32 := (tk b n (plc b n i)).2.1
def ten (b : Nat → Nat) (n i : Nat) : Nat := (tk b n (plc b n i)).2.2
def cnt (b : Nat → Nat) (n : Nat) : Nat := run (fun i => decide (plc b n i < n)) (n + 1) 0
/-- only blanks from p to sign i -/
def Gp (b : Nat → Nat) (n p i : Nat) : Prop := rB b n p = plc b n i
section TOK
variable {b : Nat → Nat} {n : Nat}
theorem wix_s (b : Nat → Nat) (q e : Nat) : Rs (fun k => decide (k < 15) && !wst b q e k) 0 (wix b q e) := run_s (n := 15) (fun p hp => by simp; omega) 15 0 (by omega)
theorem wix_le (b : Nat → Nat) (q e : Nat) : wix b q e ≤ 15 := Rs_le (n := 15) (fun p hp => by simp; omega) (wix_s b q e) (by omega)
theorem wix_t (b : Nat → Nat) (q e : Nat) (h : wix b q e < 15) : wst b q e (wix b q e) = true := by
  have := (wix_s b q e).2.2
  simp at this
  exact this h
/-- the words are unlike one another -/
theorem word_ne : ∀ j, j < 15 → ∀ k, k < 15 → slen j = slen k → (∀ i, i < slen j → schr j i = schr k i) → j = k := by decide +kernel
theorem wst_iff {q e k : Nat} : wst b q e k = true ↔ slen k = e - q ∧ ∀ j, j < slen k → nI (b (q + j)) = schr k j := by
  unfold wst
  simp only [Bool.and_eq_true, decide_eq_true_eq, List.all_eq_true, List.mem_range]
theorem wst_u {q e j k : Nat} (hj : j < 15) (hk : k < 15) (h1 : wst b q e j = true) (h2 : wst b q e k = true) : j = k := by
  rw [wst_iff] at h1 h2
  refine word_ne j hj k hk (by omega) (fun i hi => ?_)
  rw [← h1.2 i hi, h2.2 i (by omega)]
/-- word k stands there if and only if it is the first that does -/
theorem wix_iff {q e k : Nat} (hk : k < 15) : wst b q e k = true ↔ wix b q e = k := by
  constructor
  · intro h
    have h15 : wix b q e < 15 := by
      by_cases c : wix b q e < 15
      · exact c
      · have := (wix_s b q e).2.1 k (by omega) (by omega)
        simp [hk] at this
        rw [h] at this; cases this
    exact wst_u h15 hk (wix_t b q e h15) h
  · intro h
    have := wix_t b q e (by omega)
    rw [h] at this
    exact this
theorem tkM_e {q : Nat} : q + 1 ≤ (tkM b q).2.2 ∧ (tkM b q).2.2 ≤ q + 2 ∧ ((tkM b q).2.2 = q + 2 → b (q + 1) = 61) := by
  unfold tkM
  repeat' split
  all_goals (simp <;> try omega)
  all_goals assumption
theorem tkM_s {q : Nat} : ¬ (tkM b q).1 = 0 ∧ ¬ (tkM b q).1 = 2 ∧ ¬ (tkM b q).1 = 3 ∧ ¬ (tkM b q).1 = 4 ∧ ¬ (tkM b q).1 = 5 ∧ ¬ (tkM b q).1 = 6 ∧ ¬ (tkM b q).1 = 7 ∧ ¬ (tkM b q).1 = 8 ∧ ¬ (tkM b q).1 = 9 := by
  unfold tkM
  repeat' split
  all_goals simp
theorem tkM_w {q : Nat} : ((tkM b q).1 = 12 → (tkM b q).2.1 = -11 ∨ (tkM b q).2.1 = -12) ∧ ((tkM b q).1 = 13 → (tkM b q).2.1 = -13 ∨ (tkM b q).2.1 = -14) ∧ ((tkM b q).1 = 14 → (tkM b q).2.1 = -15 ∨ (tkM b q).2.1 = -16 ∨ (tkM b q).2.1 = -17 ∨ (tkM b q).2.1 = -18 ∨ (tkM b q).2.1 = -19) := by
  unfold tkM
  repeat' split
  all_goals simp
theorem tkW_s {k : Nat} (hk : k ≤ 15) : ¬ (tkW k).1 = 0 ∧ ¬ (tkW k).1 = 2 ∧ ¬ (tkW k).1 = 3 ∧ (tkW k).1 < 10 ∧ ((tkW k).1 = 4 ↔ k < 8) ∧ ((tkW k).1 = 4 → (tkW k).2 = nI k) ∧ ((tkW k).1 = 5 ↔ 8 ≤ k ∧ k < 11) ∧ ((tkW k).1 = 5 → (tkW k).2 = nI (k - 8)) ∧ ((tkW k).1 = 6 ↔ k = 11) ∧ ((tkW k).1 = 7 ↔ k = 12) ∧ ((tkW k).1 = 8 ↔ k = 13) ∧ ((tkW k).1 = 9 ↔ k = 14) := by
  unfold tkW
  by_cases c1 : k < 8
  · rw [if_pos c1]; simp; omega
  · rw [if_neg c1]
    by_cases c2 : k < 11
    · rw [if_pos c2]; simp; omega
    · rw [if_neg c2]
      by_cases c3 : k < 15
      · rw [if_pos c3]; simp; omega
      · rw [if_neg c3]; simp; omega
theorem tkD_s {q e : Nat} : (tkD b q e).1 = 2 ∨ (tkD b q e).1 = 3 := by
  unfold tkD
  split
  · exact Or.inr rfl
  · exact Or.inl rfl
theorem dgv_le (hb : BOK b n) {q : Nat} : ∀ m, (∀ j, j < m → isD (b (q + j)) = true) → dgv b q m < 10 ^ m := by
  intro m
  induction m with
  | zero => intro _; show 0 < 1; decide
  | succ m ih =>
    intro h
    have h1 := ih (fun j hj => h j (by omega))
    have h2 := h m (by omega)
    simp [isD] at h2
    rw [dgv, Nat.pow_succ]
    omega
theorem tk_e (hb : BOK b n) {q : Nat} (hq : q < n) : q < (tk b n q).2.2 ∧ (tk b n q).2.2 ≤ n := by
  unfold tk
  rw [if_neg (by omega)]
  by_cases c : isL (b q) = true
  · rw [if_pos c]
    exact ⟨(Rs_1 (f := fun j => isL (b j)) c (rL_s hb)).1, rL_le hb (by omega)⟩
  · rw [if_neg c]
    by_cases c2 : isD (b q) = true
    · rw [if_pos c2]
      exact ⟨(Rs_1 (f := fun j => isD (b j)) c2 (rD_s hb)).1, rD_le hb (by omega)⟩
    · rw [if_neg c2]
      have := tkM_e (b := b) (q := q)
      refine ⟨by omega, ?_⟩
      by_cases z : (tkM b q).2.2 = q + 2
      · have h61 := this.2.2 z
        by_cases y : n ≤ q + 1
        · rw [hb.1 _ y] at h61; cases h61
        · omega
      · omega
theorem tk_n {q : Nat} (hq : n ≤ q) : tk b n q = (0, 0, q) := by unfold tk; rw [if_pos hq]
theorem plc_le (hb : BOK b n) : ∀ i, plc b n i ≤ n := by
  intro i
  induction i with
  | zero => exact rB_le hb (by omega)
  | succ i ih =>
    rw [plc]
    refine rB_le hb ?_
    by_cases c : plc b n i < n
    · exact (tk_e hb c).2
    · rw [tk_n (by omega)]; exact ih
theorem plc_b (hb : BOK b n) (i : Nat) : ¬ b (plc b n i) = 32 := by
  have h : isB (b (plc b n i)) = false := by
    cases i with
    | zero => exact (rB_s hb).2.2
    | succ i => exact (rB_s hb).2.2
  simp [isB] at h
  exact h
theorem Gp_0 : Gp b n 0 0 := rfl
theorem Gp_e (i : Nat) : Gp b n (ten b n i) (i + 1) := rfl
theorem Gp_p (hb : BOK b n) (i : Nat) : Gp b n (plc b n i) i := Rs_u (rB_s hb) (Rs_0 (by
  have := plc_b hb i
  simp [isB]
  exact this))
theorem Gp_s (hb : BOK b n) {p i : Nat} (h : Gp b n p i) : Rs (fun j => isB (b j)) p (plc b n i) := by
  have := rB_s (p := p) hb
  unfold Gp at h
  rw [h] at this
  exact this
theorem Gp_of (hb : BOK b n) {p i : Nat} (h : Rs (fun j => isB (b j)) p (plc b n i)) : Gp b n p i := Rs_u (rB_s hb) h
theorem Gp_le (hb : BOK b n) {p i : Nat} (h : Gp b n p i) : p ≤ plc b n i := (Gp_s hb h).1
theorem Gp_n (hb : BOK b n) {p i : Nat} (h : Gp b n p i) : p ≤ n := Nat.le_trans (Gp_le hb h) (plc_le hb i)
/-- at a blank: on; else the sign is here -/
theorem Gp_1 (hb : BOK b n) {p i : Nat} (h : Gp b n p i) (h1 : b p = 32) : Gp b n (p + 1) i := Gp_of hb (Rs_1 (by show isB (b p) = true; rw [h1]; rfl) (Gp_s hb h)).2
theorem Gp_2 (hb : BOK b n) {p i : Nat} (h : Gp b n p i) (h1 : ¬ b p = 32) : p = plc b n i := Rs_u (Rs_0 (by show isB (b p) = false; simp [isB]; exact h1)) (Gp_s hb h)
theorem ts_0 (hb : BOK b n) {i : Nat} : tsr b n i = 0 ↔ plc b n i = n := by
  unfold tsr
  have := plc_le hb i
  by_cases c : n ≤ plc b n i
  · rw [tk_n c]; simp; omega
  · constructor
    · intro h
      unfold tk at h
      rw [if_neg c] at h
      by_cases c1 : isL (b (plc b n i)) = true
      · rw [if_pos c1] at h
        exact absurd h (tkW_s (wix_le _ _ _)).1
      · rw [if_neg c1] at h
        by_cases c2 : isD (b (plc b n i)) = true
        · rw [if_pos c2] at h
          have := tkD_s (b := b) (q := plc b n i) (e := rD b n (plc b n i))
          simp only at h
          omega
        · rw [if_neg c2] at h
          exact absurd h tkM_s.1
    · intro h; omega
theorem plc_n (hb : BOK b n) {i : Nat} (h : plc b n i = n) : plc b n (i + 1) = n := by
  rw [plc, h, tk_n (Nat.le_refl _)]
  show rB b n n = n
  have h1 := rB_le (p := n) hb (Nat.le_refl _)
  have h2 := (rB_s (p := n) hb).1
  omega
theorem plc_ge (hb : BOK b n) : ∀ i, plc b n i < n → i ≤ plc b n i ∧ ∀ j, j ≤ i → plc b n j < n := by
  intro i
  induction i with
  | zero => intro h; exact ⟨by omega, fun j hj => by rw [show j = 0 by omega]; exact h⟩
  | succ i ih =>
    intro h
    have hl := plc_le hb i
    have h1 : plc b n i < n := by
      by_cases c : plc b n i = n
      · rw [plc_n hb c] at h; omega
      · omega
    obtain ⟨a1, a2⟩ := ih h1
    have h2 := (tk_e hb h1).1
    have h3 := (rB_s (p := (tk b n (plc b n i)).2.2) hb).1
    have e : plc b n (i + 1) = rB b n (tk b n (plc b n i)).2.2 := rfl
    refine ⟨by omega, fun j hj => ?_⟩
    by_cases c : j = i + 1
    · rw [c]; exact h
    · exact a2 j (by omega)
theorem cnt_s (hb : BOK b n) : (∀ i, i < cnt b n → plc b n i < n) ∧ plc b n (cnt b n) = n ∧ cnt b n ≤ n := by
  have hf : ∀ p, n ≤ p → decide (plc b n p < n) = false := fun p hp => by
    simp
    by_cases c : plc b n p < n
    · have := (plc_ge hb p c).1; omega
    · omega
  have h := run_s hf (n + 1) 0 (by omega)
  have hl := plc_le hb (cnt b n)
  refine ⟨fun i hi => ?_, ?_, Rs_le hf h (by omega)⟩
  · have := h.2.1 i (by omega) hi
    simpa using this
  · have := h.2.2
    have e : ¬ plc b n (cnt b n) < n := by
      have h3 : decide (plc b n (cnt b n) < n) = false := this
      simpa using h3
    omega
theorem cnt_lt (hb : BOK b n) {i : Nat} : plc b n i < n ↔ i < cnt b n := by
  constructor
  · intro h
    by_cases c : i < cnt b n
    · exact c
    · have := (plc_ge hb i h).2 (cnt b n) (by omega)
      rw [(cnt_s hb).2.1] at this
      omega
  · exact (cnt_s hb).1 i
theorem tk_c (hb : BOK b n) (i : Nat) : (tsr b n i = 0 ∧ twr b n i = 0 ∧ n ≤ plc b n i) ∨ (plc b n i < n ∧ isL (b (plc b n i)) = true ∧ tsr b n i = (tkW (wix b (plc b n i) (ten b n i))).1 ∧ twr b n i = (tkW (wix b (plc b n i) (ten b n i))).2 ∧ ten b n i = rL b n (plc b n i))
    ∨ (plc b n i < n ∧ isL (b (plc b n i)) = false ∧ isD (b (plc b n i)) = true ∧ tsr b n i = (tkD b (plc b n i) (ten b n i)).1 ∧ twr b n i = (tkD b (plc b n i) (ten b n i)).2 ∧ ten b n i = rD b n (plc b n i))
    ∨ (plc b n i < n ∧ isL (b (plc b n i)) = false ∧ isD (b (plc b n i)) = false ∧ tsr b n i = (tkM b (plc b n i)).1 ∧ twr b n i = (tkM b (plc b n i)).2.1 ∧ ten b n i = (tkM b (plc b n i)).2.2) := by
  unfold tsr twr ten tk
  by_cases c : n ≤ plc b n i
  · rw [if_pos c]; exact Or.inl ⟨rfl, rfl, c⟩
  · rw [if_neg c]
    by_cases c1 : isL (b (plc b n i)) = true
    · rw [if_pos c1]; exact Or.inr (Or.inl ⟨by omega, c1, rfl, rfl, rfl⟩)
    · rw [if_neg c1]
      by_cases c2 : isD (b (plc b n i)) = true
      · rw [if_pos c2]; exact Or.inr (Or.inr (Or.inl ⟨by omega, by simpa using c1, c2, rfl, rfl, rfl⟩))
      · rw [if_neg c2]; exact Or.inr (Or.inr (Or.inr ⟨by omega, by simpa using c1, by simpa using c2, rfl, rfl, rfl⟩))
theorem dg_run (hb : BOK b n) {q : Nat} : dgv b q (mn5 (rD b n q - q)) < 100000 := by
  have h := rD_s (p := q) hb
  have h5 : mn5 (rD b n q - q) ≤ 5 ∧ mn5 (rD b n q - q) ≤ rD b n q - q := by unfold mn5; split <;> omega
  have h1 := dgv_le hb (q := q) (mn5 (rD b n q - q)) (fun j hj => h.2.1 (q + j) (by omega) (by omega))
  have h2 : 10 ^ mn5 (rD b n q - q) ≤ 10 ^ 5 := Nat.pow_le_pow_right (by decide) h5.1
  omega
theorem tokOK (hb : BOK b n) : TkOK (tsr b n) (twr b n) (cnt b n) := by
  refine ⟨fun i h => ?_, fun i h => ?_, fun i h => ?_, fun i h => ?_, fun i h => ?_, fun i h => ?_, fun i h => ?_⟩
  · rw [ts_0 hb] at h
    have := plc_le hb i
    exact (cnt_lt hb).1 (by omega)
  · rcases tk_c hb i with ⟨h1, _⟩ | ⟨_, _, h1, _⟩ | ⟨_, _, _, h1, h2, h3⟩ | ⟨_, _, _, h1, h2, h3⟩
    · omega
    · have := (tkW_s (wix_le b (plc b n i) (ten b n i))).2.1; omega
    · rw [h2, h3]
      unfold tkD
      show 0 ≤ (nI (dgv b (plc b n i) (mn5 (rD b n (plc b n i) - plc b n i)))).toInt ∧ (nI (dgv b (plc b n i) (mn5 (rD b n (plc b n i) - plc b n i)))).toInt ≤ 99999
      have := dg_run (q := plc b n i) hb
      rw [nI_toInt (by omega)]
      omega
    · have := (tkM_s (b := b) (q := plc b n i)).2.1; omega
  · rcases tk_c hb i with ⟨h1, _⟩ | ⟨_, _, h1, h2, _⟩ | ⟨_, _, _, h1, h2, h3⟩ | ⟨_, _, _, h1, h2, h3⟩
    · omega
    · obtain ⟨_, _, _, _, a1, a2, _⟩ := tkW_s (wix_le b (plc b n i) (ten b n i))
      have k8 := a1.1 (by omega)
      rw [h2, a2 (by omega), nI_toInt (by omega)]
      omega
    · have := tkD_s (b := b) (q := plc b n i) (e := ten b n i); omega
    · have := (tkM_s (b := b) (q := plc b n i)).2.2.2.1; omega
  · rcases tk_c hb i with ⟨h1, _⟩ | ⟨_, _, h1, h2, _⟩ | ⟨_, _, _, h1, h2, h3⟩ | ⟨_, _, _, h1, h2, h3⟩
    · omega
    · have := (tkW_s (wix_le b (plc b n i) (ten b n i))).2.2.2.1; omega
    · have := tkD_s (b := b) (q := plc b n i) (e := ten b n i); omega
    · rw [h2]; exact (tkM_w (b := b) (q := plc b n i)).1 (by omega)
  · rcases tk_c hb i with ⟨h1, _⟩ | ⟨_, _, h1, h2, _⟩ | ⟨_, _, _, h1, h2, h3⟩ | ⟨_, _, _, h1, h2, h3⟩
    · omega
    · have := (tkW_s (wix_le b (plc b n i) (ten b n i))).2.2.2.1; omega
    · have := tkD_s (b := b) (q := plc b n i) (e := ten b n i); omega
    · rw [h2]; exact (tkM_w (b := b) (q := plc b n i)).2.1 (by omega)
  · rcases tk_c hb i with ⟨h1, _⟩ | ⟨_, _, h1, h2, _⟩ | ⟨_, _, _, h1, h2, h3⟩ | ⟨_, _, _, h1, h2, h3⟩
    · omega
    · have := (tkW_s (wix_le b (plc b n i) (ten b n i))).2.2.2.1; omega
    · have := tkD_s (b := b) (q := plc b n i) (e := ten b n i); omega
    · rw [h2]; exact (tkM_w (b := b) (q := plc b n i)).2.2 (by omega)
  · rcases tk_c hb i with ⟨h1, _⟩ | ⟨_, _, h1, h2, _⟩ | ⟨_, _, _, h1, h2, h3⟩ | ⟨_, _, _, h1, h2, h3⟩
    · omega
    · obtain ⟨_, _, _, _, _, _, a1, a2, _⟩ := tkW_s (wix_le b (plc b n i) (ten b n i))
      have k8 := a1.1 (by omega)
      rw [h2, a2 (by omega), nI_toInt (by omega)]
      omega
    · have := tkD_s (b := b) (q := plc b n i) (e := ten b n i); omega
    · have := (tkM_s (b := b) (q := plc b n i)).2.2.2.2.1; omega
end TOK
