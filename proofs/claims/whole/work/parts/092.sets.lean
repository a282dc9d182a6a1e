/-! sets of streets: the 32-bit words are natural numbers below 2^24 -/
theorem sh_k : ∀ k, k < 32 → (nI k &&& 31) = nI k ∧ ((nI k).toBitVec.smod 32).toNat = k := by decide +kernel
theorem bt_nI {N k : Nat} (hN : N < 2 ^ 31) (hk : k < 32) : (nI N >>> (nI k &&& 31)) &&& 1 = nI (N / 2 ^ k % 2) := by
  obtain ⟨e1, e2⟩ := sh_k k hk
  have h3 : N / 2 ^ k < 2 ^ 32 := Nat.lt_of_le_of_lt (Nat.div_le_self _ _) (by omega)
  rw [e1, pk_shrN hN (nI k) k e2, pk_andN h3 1 (by decide)]
theorem nI_1eq {a : Nat} (h : a < 2) : (nI a = 1) ↔ a = 1 := by
  rcases (show a = 0 ∨ a = 1 by omega) with rfl | rfl
  · exact ⟨fun z => absurd z (by decide), fun z => absurd z (by decide)⟩
  · exact ⟨fun _ => rfl, fun _ => rfl⟩
theorem bt_iff {N k : Nat} (hN : N < 2 ^ 31) (hk : k < 32) : ((nI N >>> (nI k &&& 31)) &&& 1 = 1) ↔ N.testBit k = true := by
  rw [bt_nI hN hk, nI_1eq (Nat.mod_lt _ (by decide)), Nat.testBit_eq_decide_div_mod_eq]
  simp
theorem bt_0 {N k : Nat} (hN : N < 2 ^ 31) (hk : k < 32) : ((nI N >>> (nI k &&& 31)) &&& 1 = 0) ↔ N.testBit k = false := by
  have h2 : N / 2 ^ k % 2 < 2 := Nat.mod_lt _ (by decide)
  rw [bt_nI hN hk, Nat.testBit_eq_decide_div_mod_eq]
  rcases (show N / 2 ^ k % 2 = 0 ∨ N / 2 ^ k % 2 = 1 by omega) with z | z
  · rw [z]; simp; rfl
  · rw [z]; simp; decide
theorem shl_k {N k : Nat} (hk : k < 32) (h : N * 2 ^ k < 2 ^ 32) : nI N <<< (nI k &&& 31) = nI (N * 2 ^ k) := by
  obtain ⟨e1, e2⟩ := sh_k k hk
  rw [e1, pk_shlN (nI k) k e2 h]
theorem or_nI (a b : Nat) : nI a ||| nI b = nI (a ||| b) := by
  apply Int32.toBitVec_inj.1
  show BitVec.ofNat 32 a ||| BitVec.ofNat 32 b = BitVec.ofNat 32 (a ||| b)
  apply BitVec.eq_of_getLsbD_eq
  intro i hi
  simp [hi]
theorem xor_nI (a b : Nat) : nI a ^^^ nI b = nI (a ^^^ b) := by
  apply Int32.toBitVec_inj.1
  show BitVec.ofNat 32 a ^^^ BitVec.ofNat 32 b = BitVec.ofNat 32 (a ^^^ b)
  apply BitVec.eq_of_getLsbD_eq
  intro i hi
  simp [hi]
/-- without -/
def wo (a b : Nat) : Nat := a ^^^ (a &&& b)
theorem wo_bit {a b k : Nat} : (wo a b).testBit k = (a.testBit k && !b.testBit k) := by
  unfold wo
  rw [Nat.testBit_xor, Nat.testBit_and]
  cases a.testBit k <;> cases b.testBit k <;> rfl
theorem wo_nI (a b : Nat) : nI a &&& (nI b ^^^ (-1)) = nI (wo a b) := by
  apply Int32.toBitVec_inj.1
  show BitVec.ofNat 32 a &&& (BitVec.ofNat 32 b ^^^ BitVec.ofNat 32 4294967295) = BitVec.ofNat 32 (wo a b)
  apply BitVec.eq_of_getLsbD_eq
  intro i hi
  have h1 : Nat.testBit 4294967295 i = true := by
    rw [show (4294967295 : Nat) = 2 ^ 32 - 1 by decide, Nat.testBit_two_pow_sub_one]
    simp [hi]
  simp only [BitVec.getLsbD_and, BitVec.getLsbD_xor, BitVec.getLsbD_ofNat, hi, decide_true, Bool.true_and, wo_bit, h1, Bool.xor_true]
theorem wo_lt {a b n : Nat} (h : a < 2 ^ n) : wo a b < 2 ^ n := Nat.xor_lt_two_pow h (Nat.lt_of_le_of_lt Nat.and_le_left h)
def houN (ho : Nat → Nat) : Nat → Nat
  | 0 => 0
  | i + 1 => houN ho i ||| ho i * 2 ^ i
def arN (N : Nat → Nat) (set : Nat) : Nat → Nat
  | 0 => 0
  | i + 1 => arN N set i ||| (if set.testBit i = true then N i else 0)
theorem houN_lt {ho : Nat → Nat} : ∀ i, (∀ k, k < i → ho k < 2) → houN ho i < 2 ^ i := by
  intro i
  induction i with
  | zero => intro _; exact Nat.one_pos
  | succ i ih =>
    intro h
    have h1 := ih (fun k hk => h k (by omega))
    have h2 := h i (by omega)
    unfold houN
    refine Nat.or_lt_two_pow (by rw [Nat.pow_succ]; omega) ?_
    rw [Nat.pow_succ]
    rcases (show ho i = 0 ∨ ho i = 1 by omega) with z | z
    · rw [z]; have := Nat.two_pow_pos i; omega
    · rw [z]; have := Nat.two_pow_pos i; omega
theorem houN_bit {ho : Nat → Nat} : ∀ i, (∀ k, k < i → ho k < 2) → ∀ k, (houN ho i).testBit k = (decide (k < i) && decide (ho k = 1)) := by
  intro i
  induction i with
  | zero => intro _ k; simp [houN]
  | succ i ih =>
    intro h k
    have h1 := ih (fun k hk => h k (by omega)) k
    have h2 := h i (by omega)
    unfold houN
    rw [Nat.testBit_or, h1]
    rcases (show ho i = 0 ∨ ho i = 1 by omega) with z | z
    · rw [z, Nat.zero_mul, Nat.zero_testBit, Bool.or_false]
      by_cases c : k = i
      · subst c; simp [z]
      · rw [show (decide (k < i + 1)) = decide (k < i) from decide_eq_decide.2 (by omega)]
    · rw [z, Nat.one_mul, Nat.testBit_two_pow]
      by_cases c : k = i
      · subst c; simp [z]
      · rw [show (decide (k < i + 1)) = decide (k < i) from decide_eq_decide.2 (by omega)]
        simp [show ¬ i = k by omega]
theorem houL_N {ho : Nat → Int32} {hN : Nat → Nat} : ∀ i, i ≤ 24 → (∀ k, k < i → ho k = nI (hN k) ∧ hN k < 2) → houL ho i = nI (houN hN i) := by
  intro i
  induction i with
  | zero => intro _ _; rfl
  | succ i ih =>
    intro hi h
    obtain ⟨e1, e2⟩ := h i (by omega)
    have hp : hN i * 2 ^ i < 2 ^ 32 := by
      have h3 : 2 ^ i ≤ 2 ^ 23 := Nat.pow_le_pow_right (by decide) (by omega)
      rcases (show hN i = 0 ∨ hN i = 1 by omega) with z | z
      · rw [z]; omega
      · rw [z]; omega
    rw [houL, houN, ih (by omega) (fun k hk => h k (by omega)), e1, shl_k (by omega) hp, or_nI]
theorem arN_lt {N : Nat → Nat} {set n : Nat} : ∀ i, (∀ k, k < i → N k < 2 ^ n) → arN N set i < 2 ^ n := by
  intro i
  induction i with
  | zero => intro _; exact Nat.two_pow_pos n
  | succ i ih =>
    intro h
    unfold arN
    refine Nat.or_lt_two_pow (ih (fun k hk => h k (by omega))) ?_
    split
    · exact h i (by omega)
    · exact Nat.two_pow_pos n
theorem aroL_N {nb : Nat → Int32} {N : Nat → Nat} {set : Nat} (hs : set < 2 ^ 31) : ∀ i, i ≤ 24 → (∀ k, k < i → nb k = nI (N k)) → aroL nb (nI set) i = nI (arN N set i) := by
  intro i
  induction i with
  | zero => intro _ _; rfl
  | succ i ih =>
    intro hi h
    rw [aroL, arN, ih (by omega) (fun k hk => h k (by omega)), h i (by omega)]
    by_cases c : set.testBit i = true
    · rw [if_pos ((bt_iff hs (by omega)).2 c), if_pos c, or_nI]
    · rw [if_neg (fun z => c ((bt_iff hs (by omega)).1 z)), if_neg c, show (0 : Int32) = nI 0 from rfl, or_nI]
def rgN (n : Nat) (ho N : Nat → Nat) (r : Nat) : Nat :=
  let r0 := houN ho n
  let r1 := wo (arN N r0 n) r0
  let r2 := wo (wo (arN N r1 n) r0) r1
  match r with
  | 0 => r0
  | 1 => r1
  | 2 => r2
  | _ => wo (wo (wo (2 ^ n - 1) r0) r1) r2
theorem rgN_lt {n : Nat} {ho N : Nat → Nat} {r : Nat} (h1 : ∀ k, k < n → ho k < 2) (h2 : ∀ k, k < n → N k < 2 ^ n) : rgN n ho N r < 2 ^ n := by
  unfold rgN
  match r with
  | 0 => exact houN_lt n h1
  | 1 => exact wo_lt (arN_lt n h2)
  | 2 => exact wo_lt (wo_lt (arN_lt n h2))
  | r + 3 =>
    refine wo_lt (wo_lt (wo_lt ?_))
    have := Nat.two_pow_pos n
    omega
theorem allL_N : ∀ n, n < 25 → allL n = nI (2 ^ n - 1) := by decide +kernel
theorem rgS_N {n : Nat} {ho nb : Nat → Int32} {hN N : Nat → Nat} (hn : n ≤ 24) (h1 : ∀ k, k < n → ho k = nI (hN k) ∧ hN k < 2) (h2 : ∀ k, k < n → nb k = nI (N k) ∧ N k < 2 ^ n) (r : Nat) : rgS n ho nb r = nI (rgN n hN N r) := by
  have hp : (2 : Nat) ^ n ≤ 2 ^ 24 := Nat.pow_le_pow_right (by decide) hn
  have a0 : houN hN n < 2 ^ n := houN_lt n (fun k hk => (h1 k hk).2)
  have a1 : ∀ s, wo (arN N s n) (houN hN n) < 2 ^ n := fun s => wo_lt (arN_lt n (fun k hk => (h2 k hk).2))
  have e0 : houL ho n = nI (houN hN n) := houL_N n hn h1
  have e1 : ∀ s, s < 2 ^ n → aroL nb (nI s) n = nI (arN N s n) := fun s hs => aroL_N (by omega) n hn (fun k hk => (h2 k hk).1)
  unfold rgS rgN
  simp only [e0, e1 _ a0, wo_nI, e1 _ (a1 _), allL_N n (by omega)]
  match r with
  | 0 => rfl
  | 1 => rfl
  | 2 => rfl
  | r + 3 => rfl
theorem rgN_3 {n : Nat} {ho N : Nat → Nat} {k : Nat} (hk : k < n) : (rgN n ho N 3).testBit k = (!(rgN n ho N 0).testBit k && !(rgN n ho N 1).testBit k && !(rgN n ho N 2).testBit k) := by
  unfold rgN
  simp only [wo_bit, Nat.testBit_two_pow_sub_one, hk, decide_true, Bool.true_and]
/-- the ring of a street -/
def rgO (n : Nat) (ho N : Nat → Nat) (k : Nat) : Nat := if (rgN n ho N 0).testBit k = true then 0 else if (rgN n ho N 1).testBit k = true then 1 else if (rgN n ho N 2).testBit k = true then 2 else 3
theorem rgN_01 {n : Nat} {ho N : Nat → Nat} {k : Nat} (h : (rgN n ho N 1).testBit k = true) : (rgN n ho N 0).testBit k = false := by
  have e : (rgN n ho N 1).testBit k = ((arN N (houN ho n) n).testBit k && !(rgN n ho N 0).testBit k) := by
    unfold rgN
    simp only [wo_bit]
  rw [e] at h
  cases z : (rgN n ho N 0).testBit k
  · rfl
  · rw [z] at h; simp at h
theorem rgN_2 {n : Nat} {ho N : Nat → Nat} {k : Nat} (h : (rgN n ho N 2).testBit k = true) : (rgN n ho N 0).testBit k = false ∧ (rgN n ho N 1).testBit k = false := by
  have e : (rgN n ho N 2).testBit k = ((arN N (rgN n ho N 1) n).testBit k && !(rgN n ho N 0).testBit k && !(rgN n ho N 1).testBit k) := by
    unfold rgN
    simp only [wo_bit]
  rw [e] at h
  cases z : (rgN n ho N 0).testBit k <;> cases y : (rgN n ho N 1).testBit k
  · exact ⟨rfl, rfl⟩
  · rw [z, y] at h; simp at h
  · rw [z, y] at h; simp at h
  · rw [z, y] at h; simp at h
/-- a street stands in ring r just where its bit is set -/
theorem rgO_iff {n : Nat} {ho N : Nat → Nat} {k : Nat} (hk : k < n) {r : Nat} (hr : r < 4) : rgO n ho N k = r ↔ (rgN n ho N r).testBit k = true := by
  have e3 := rgN_3 (ho := ho) (N := N) hk
  have e1 := rgN_01 (n := n) (ho := ho) (N := N) (k := k)
  have e2 := rgN_2 (n := n) (ho := ho) (N := N) (k := k)
  unfold rgO
  cases z0 : (rgN n ho N 0).testBit k <;> cases z1 : (rgN n ho N 1).testBit k <;> cases z2 : (rgN n ho N 2).testBit k <;> rw [z0, z1, z2] at e3 <;> rw [z1, z0] at e1 <;> rw [z2, z0, z1] at e2 <;> simp at e1 e2 e3 <;>
    (rcases (show r = 0 ∨ r = 1 ∨ r = 2 ∨ r = 3 by omega) with rfl | rfl | rfl | rfl) <;> simp [z0, z1, z2, e3]
theorem rgO_lt {n : Nat} {ho N : Nat → Nat} {k : Nat} : rgO n ho N k < 4 := by
  unfold rgO
  repeat' split
  all_goals decide
