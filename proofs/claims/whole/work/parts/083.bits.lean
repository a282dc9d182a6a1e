/-! counting bits: the JDK's way and the reference's -/
def pcN : Nat → Nat → Nat
  | 0, _ => 0
  | k + 1, x => x % 2 + pcN k (x / 2)
theorem and_split {k a b c e : Nat} (ha : a < 2 ^ k) (hc : c < 2 ^ k) : (a + 2 ^ k * b) &&& (c + 2 ^ k * e) = (a &&& c) + 2 ^ k * (b &&& e) := by
  apply Nat.eq_of_testBit_eq
  intro i
  have hac : a &&& c < 2 ^ k := Nat.lt_of_le_of_lt Nat.and_le_left ha
  rw [Nat.testBit_and, Nat.add_comm a, Nat.add_comm c, Nat.add_comm (a &&& c), Nat.testBit_two_pow_mul_add _ ha, Nat.testBit_two_pow_mul_add _ hc, Nat.testBit_two_pow_mul_add _ hac]
  split
  · rw [Nat.testBit_and]
  · rw [Nat.testBit_and]
theorem and4 {a b c e m : Nat} (ha : a < 256) (hb : b < 256) (hc : c < 256) (hm : m < 256) : (a + 256 * (b + 256 * (c + 256 * e))) &&& (m + 256 * (m + 256 * (m + 256 * m))) = (a &&& m) + 256 * ((b &&& m) + 256 * ((c &&& m) + 256 * (e &&& m))) := by
  have h1 := and_split (k := 8) (a := a) (b := b + 256 * (c + 256 * e)) (c := m) (e := m + 256 * (m + 256 * m)) ha hm
  have h2 := and_split (k := 8) (a := b) (b := c + 256 * e) (c := m) (e := m + 256 * m) hb hm
  have h3 := and_split (k := 8) (a := c) (b := e) (c := m) (e := m) hc hm
  rw [show (2 : Nat) ^ 8 = 256 from rfl] at h1 h2 h3
  rw [h1, h2, h3]
def bu (a : Nat) : Nat := (a / 2) &&& 85
def bp (a : Nat) : Nat := a - bu a
def bq (a : Nat) : Nat := (bp a &&& 51) + ((bp a / 4) &&& 51)
theorem bt_1 : ∀ a, a < 256 → bu a ≤ a ∧ ((a / 2 + 128) &&& 85) = bu a := by decide +kernel
theorem bt_2 : ∀ a, a < 256 → bp a < 256 ∧ ∀ w, w < 4 → ((bp a / 4 + 64 * w) &&& 51) = ((bp a / 4) &&& 51) := by decide +kernel
theorem bt_3 : ∀ a, a < 256 → bq a < 128 ∧ bq a % 16 ≤ 4 ∧ bq a / 16 ≤ 4 ∧ bq a % 16 + bq a / 16 = pcN 8 a := by decide +kernel
theorem bt_4 : ∀ a, a < 256 → ∀ w, w < 5 → (bq a + bq a / 16 + 16 * w) &&& 15 = pcN 8 a := by decide +kernel
theorem pc_le : ∀ k x, pcN k x ≤ k := by
  intro k
  induction k with
  | zero => intro x; exact Nat.le_refl _
  | succ k ih => intro x; have := ih (x / 2); unfold pcN; omega
theorem pc_app : ∀ k j a b, a < 2 ^ k → pcN (k + j) (a + 2 ^ k * b) = pcN k a + pcN j b := by
  intro k
  induction k with
  | zero => intro j a b ha; have : a = 0 := by omega
            subst this; simp [pcN]
  | succ k ih =>
    intro j a b ha
    have e0 : 2 ^ (k + 1) * b = 2 * (2 ^ k * b) := by rw [Nat.pow_succ, Nat.mul_comm (2 ^ k) 2, Nat.mul_assoc]
    have e1 : (a + 2 ^ (k + 1) * b) % 2 = a % 2 := by rw [e0]; omega
    have e2 : (a + 2 ^ (k + 1) * b) / 2 = a / 2 + 2 ^ k * b := by rw [e0]; omega
    rw [show k + 1 + j = (k + j) + 1 by omega, pcN, pcN, e1, e2, ih j (a / 2) b (by rw [Nat.pow_succ] at ha; omega)]
    omega
/-- the JDK's count, on numbers -/
def bF (x : Nat) : Nat :=
  let y1 := x - ((x / 2) &&& 1431655765)
  let y2 := (y1 &&& 858993459) + ((y1 / 4) &&& 858993459)
  let y3 := (y2 + y2 / 16) &&& 252645135
  let y4 := y3 + y3 / 256
  let y5 := y4 + y4 / 65536
  y5 &&& 63
def q4 (a b c e : Nat) : Nat := a + 256 * (b + 256 * (c + 256 * e))
theorem q4_half {a b c e : Nat} : q4 a b c e / 2 = q4 (a / 2 + 128 * (b % 2)) (b / 2 + 128 * (c % 2)) (c / 2 + 128 * (e % 2)) (e / 2) := by unfold q4; omega
theorem q4_quar {a b c e : Nat} : q4 a b c e / 4 = q4 (a / 4 + 64 * (b % 4)) (b / 4 + 64 * (c % 4)) (c / 4 + 64 * (e % 4)) (e / 4) := by unfold q4; omega
theorem q4_and {a b c e m M : Nat} (ha : a < 256) (hb : b < 256) (hc : c < 256) (hm : m < 256) (hM : M = q4 m m m m) : q4 a b c e &&& M = q4 (a &&& m) (b &&& m) (c &&& m) (e &&& m) := by
  rw [hM]
  exact and4 ha hb hc hm
theorem bu_w {a w : Nat} (ha : a < 256) (hw : w < 2) : (a / 2 + 128 * w) &&& 85 = bu a := by
  rcases (show w = 0 ∨ w = 1 by omega) with rfl | rfl
  · rfl
  · exact (bt_1 a ha).2
theorem bF_1 {a b c e M : Nat} (ha : a < 256) (hb : b < 256) (hc : c < 256) (he : e < 256) (hM : M = q4 85 85 85 85) : (q4 a b c e / 2) &&& M = q4 (bu a) (bu b) (bu c) (bu e) := by
  rw [q4_half, q4_and (by omega) (by omega) (by omega) (by decide) hM, bu_w ha (by omega), bu_w hb (by omega), bu_w hc (by omega)]
  rfl
theorem q4_sub {a b c e a' b' c' e' : Nat} (ha : a' ≤ a) (hb : b' ≤ b) (hc : c' ≤ c) (he : e' ≤ e) : q4 a b c e - q4 a' b' c' e' = q4 (a - a') (b - b') (c - c') (e - e') ∧ q4 a' b' c' e' ≤ q4 a b c e := by unfold q4; omega
theorem q4_add {a b c e a' b' c' e' : Nat} : q4 a b c e + q4 a' b' c' e' = q4 (a + a') (b + b') (c + c') (e + e') := by unfold q4; omega
theorem bF_2 {a b c e M : Nat} (ha : a < 256) (hb : b < 256) (hc : c < 256) (he : e < 256) (hM : M = q4 51 51 51 51) : (q4 (bp a) (bp b) (bp c) (bp e) &&& M) + ((q4 (bp a) (bp b) (bp c) (bp e) / 4) &&& M) = q4 (bq a) (bq b) (bq c) (bq e) := by
  obtain ⟨pa, qa⟩ := bt_2 a ha
  obtain ⟨pb, qb⟩ := bt_2 b hb
  obtain ⟨pc, qc⟩ := bt_2 c hc
  rw [q4_and pa pb pc (by decide) hM, q4_quar, q4_and (by omega) (by omega) (by omega) (by decide) hM, qa _ (by omega), qb _ (by omega), qc _ (by omega), q4_add]
  rfl
theorem bF_3e {a b c e : Nat} : q4 a b c e + q4 a b c e / 16 = q4 (a + a / 16 + 16 * (b % 16)) (b + b / 16 + 16 * (c % 16)) (c + c / 16 + 16 * (e % 16)) (e + e / 16 + 16 * 0) := by unfold q4; omega
theorem bF_3 {a b c e M : Nat} (ha : a < 256) (hb : b < 256) (hc : c < 256) (he : e < 256) (hM : M = q4 15 15 15 15) : (q4 (bq a) (bq b) (bq c) (bq e) + q4 (bq a) (bq b) (bq c) (bq e) / 16) &&& M = q4 (pcN 8 a) (pcN 8 b) (pcN 8 c) (pcN 8 e) := by
  obtain ⟨ra, sa, ta, wa⟩ := bt_3 a ha
  obtain ⟨rb, sb, tb, wb⟩ := bt_3 b hb
  obtain ⟨rc, sc, tc, wc⟩ := bt_3 c hc
  obtain ⟨re, se, te, we⟩ := bt_3 e he
  rw [bF_3e, q4_and (by omega) (by omega) (by omega) (by decide) hM, bt_4 a ha _ (by omega), bt_4 b hb _ (by omega), bt_4 c hc _ (by omega), bt_4 e he _ (by omega)]
theorem bF_4 {A B C E : Nat} (ha : A ≤ 8) (hb : B ≤ 8) (hc : C ≤ 8) (he : E ≤ 8) : ((q4 A B C E + q4 A B C E / 256) + (q4 A B C E + q4 A B C E / 256) / 65536) % 64 = A + (B + (C + E)) := by
  unfold q4
  rw [show (A + 256 * (B + 256 * (C + 256 * E))) / 256 = B + 256 * (C + 256 * E) by omega]
  rw [show (A + 256 * (B + 256 * (C + 256 * E)) + (B + 256 * (C + 256 * E))) / 65536 = C + E + 256 * E by omega]
  omega
theorem pc_q4 {a b c e : Nat} (ha : a < 256) (hb : b < 256) (hc : c < 256) : pcN 32 (q4 a b c e) = pcN 8 a + (pcN 8 b + (pcN 8 c + pcN 8 e)) := by
  have h1 := pc_app 8 24 a (b + 256 * (c + 256 * e)) ha
  have h2 := pc_app 8 16 b (c + 256 * e) hb
  have h3 := pc_app 8 8 c e hc
  rw [← h3, ← h2, ← h1]
  rfl
theorem bF_eq {x : Nat} (hx : x < 2 ^ 32) : bF x = pcN 32 x ∧ ((x / 2) &&& 1431655765) ≤ x := by
  obtain ⟨a, b, c, e, ha, hb, hc, he, hq⟩ : ∃ a b c e, a < 256 ∧ b < 256 ∧ c < 256 ∧ e < 256 ∧ x = q4 a b c e :=
    ⟨x % 256, x / 256 % 256, x / 65536 % 256, x / 16777216, by omega, by omega, by omega, by omega, by unfold q4; omega⟩
  have m1 : (1431655765 : Nat) = q4 85 85 85 85 := by decide
  have m2 : (858993459 : Nat) = q4 51 51 51 51 := by decide
  have m3 : (252645135 : Nat) = q4 15 15 15 15 := by decide
  have s1 := bF_1 ha hb hc he m1
  obtain ⟨t1, t2⟩ := q4_sub (bt_1 a ha).1 (bt_1 b hb).1 (bt_1 c hc).1 (bt_1 e he).1
  have s2 := bF_2 ha hb hc he m2
  have s3 := bF_3 ha hb hc he m3
  rw [← hq] at s1 t1 t2
  refine ⟨?_, by rw [s1]; exact t2⟩
  have y1 : x - ((x / 2) &&& 1431655765) = q4 (bp a) (bp b) (bp c) (bp e) := by rw [s1]; exact t1
  rw [bF]
  simp only [y1, s2, s3]
  rw [show (63 : Nat) = 2 ^ 6 - 1 by decide, Nat.and_two_pow_sub_one_eq_mod, show (2 : Nat) ^ 6 = 64 by decide, bF_4 (pc_le 8 a) (pc_le 8 b) (pc_le 8 c) (pc_le 8 e), hq, pc_q4 ha hb hc]
theorem pc_kern : ∀ k x, x ≠ 0 → x < 2 ^ k → pcN k (x &&& (x - 1)) + 1 = pcN k x := by
  intro k
  induction k with
  | zero => intro x h0 h1; omega
  | succ k ih =>
    intro x h0 h1
    have hx : x = x % 2 + 2 ^ 1 * (x / 2) := by omega
    rcases (show x % 2 = 1 ∨ x % 2 = 0 by omega) with h2 | h2
    · have e : x &&& (x - 1) = 2 * (x / 2) := by
        have h3 := and_split (k := 1) (a := 1) (b := x / 2) (c := 0) (e := x / 2) (by decide) (by decide)
        rw [show 1 + 2 ^ 1 * (x / 2) = x by omega, show 0 + 2 ^ 1 * (x / 2) = x - 1 by omega, Nat.and_self] at h3
        rw [h3]
        show (1 &&& 0) + 2 ^ 1 * (x / 2) = _
        simp
      rw [e, pcN, pcN, Nat.mul_mod_right, Nat.mul_div_cancel_left _ (by decide)]
      omega
    · have h4 : x / 2 ≠ 0 := by omega
      have e : x &&& (x - 1) = 2 * ((x / 2) &&& (x / 2 - 1)) := by
        have h3 := and_split (k := 1) (a := 0) (b := x / 2) (c := 1) (e := x / 2 - 1) (by decide) (by decide)
        rw [show 0 + 2 ^ 1 * (x / 2) = x by omega, show 1 + 2 ^ 1 * (x / 2 - 1) = x - 1 by omega] at h3
        rw [h3]
        show (0 &&& 1) + 2 ^ 1 * _ = _
        simp
      rw [e, pcN, pcN, Nat.mul_mod_right, Nat.mul_div_cancel_left _ (by decide)]
      have := ih (x / 2) h4 (by rw [Nat.pow_succ] at h1; omega)
      omega
