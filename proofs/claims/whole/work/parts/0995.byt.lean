/-! the tape's bytes -/
def bT (tb : Nat → Int32) (n p : Nat) : Nat := if p < n then (tb p).toInt8.toBitVec.toNat else 0
theorem bT_OK {tb : Nat → Int32} {n : Nat} (hn : n ≤ 400) : BOK (bT tb n) n := by
  refine ⟨fun p hp => if_neg (by omega), fun p => ?_, hn⟩
  unfold bT
  split
  · exact (tb p).toInt8.toBitVec.isLt
  · decide
theorem by_tab : ∀ k, k < 256 → ((nI k).toInt8.toInt32 &&& 255) = nI k ∧ (k < 128 → (nI k).toInt8.toInt32 = nI k) ∧ (128 ≤ k → (nI k).toInt8.toInt32 < 0) := by decide +kernel
theorem bT_k {tb : Nat → Int32} {n p : Nat} (htb : ∀ j, (tb j).toInt8.toInt32 = tb j) (hp : p < n) : tb p = (nI (bT tb n p)).toInt8.toInt32 := by
  have e : (nI (bT tb n p)).toInt8 = (tb p).toInt8 := by
    unfold bT
    rw [if_pos hp]
    apply Int8.toBitVec_inj.1
    show (BitVec.ofNat 32 (tb p).toInt8.toBitVec.toNat).signExtend 8 = _
    apply BitVec.eq_of_toNat_eq
    rw [BitVec.signExtend_eq_setWidth_of_le _ (by decide)]
    simp
  rw [e]
  exact (htb p).symm
theorem bT_255 {tb : Nat → Int32} {n p : Nat} (htb : ∀ j, (tb j).toInt8.toInt32 = tb j) (hn : n ≤ 400) (hp : p < n) : (tb p &&& 255) = nI (bT tb n p) := by
  rw [bT_k htb hp]
  exact (by_tab _ ((bT_OK hn).2.1 p)).1
/-- against a small sign -/
theorem bT_eq {tb : Nat → Int32} {n p c : Nat} (htb : ∀ j, (tb j).toInt8.toInt32 = tb j) (hn : n ≤ 400) (hp : p < n) (hc : c < 128) : (tb p = nI c) ↔ bT tb n p = c := by
  obtain ⟨_, h2, h3⟩ := by_tab _ ((bT_OK (tb := tb) hn).2.1 p)
  have hl := (bT_OK (tb := tb) hn).2.1 p
  rw [bT_k htb hp]
  by_cases k : bT tb n p < 128
  · rw [h2 k]
    constructor
    · intro e
      have := congrArg Int32.toInt e
      rw [nI_toInt (by omega), nI_toInt (by omega)] at this
      omega
    · intro e; rw [e]
  · have h := h3 (by omega)
    constructor
    · intro e
      rw [e, Int32.lt_iff_toInt_lt, nI_toInt (by omega)] at h
      have : (0 : Int32).toInt = 0 := rfl
      omega
    · intro e; omega
theorem bT_le {tb : Nat → Int32} {n p c : Nat} (htb : ∀ j, (tb j).toInt8.toInt32 = tb j) (hn : n ≤ 400) (hp : p < n) (hc : c < 128) : (0 ≤ tb p → (tb p ≤ nI c ↔ bT tb n p ≤ c)) ∧ (tb p < nI c ↔ bT tb n p < c ∨ 128 ≤ bT tb n p) := by
  obtain ⟨_, h2, h3⟩ := by_tab _ ((bT_OK (tb := tb) hn).2.1 p)
  have hl := (bT_OK (tb := tb) hn).2.1 p
  have e0 : (0 : Int32).toInt = 0 := rfl
  rw [bT_k htb hp]
  by_cases k : bT tb n p < 128
  · rw [h2 k, Int32.le_iff_toInt_le, Int32.le_iff_toInt_le, Int32.lt_iff_toInt_lt, nI_toInt (by omega), nI_toInt (by omega)]
    exact ⟨fun _ => by omega, by omega⟩
  · have h := h3 (by omega)
    rw [Int32.lt_iff_toInt_lt] at h
    rw [Int32.le_iff_toInt_le, Int32.lt_iff_toInt_lt, nI_toInt (by omega)]
    exact ⟨fun h0 => by omega, by omega⟩
/-- a letter, as the reference asks it of the signed byte -/
theorem bT_L {tb : Nat → Int32} {n p : Nat} (htb : ∀ j, (tb j).toInt8.toInt32 = tb j) (hn : n ≤ 400) (hp : p < n) : (¬ tb p < 97 ∧ ¬ 122 < tb p) ↔ isL (bT tb n p) = true := by
  have h1 := (bT_le (c := 97) htb hn hp (by decide)).2
  have h2 := bT_le (c := 122) htb hn hp (by decide)
  have h3 := (bT_le (c := 0) htb hn hp (by decide)).2
  rw [show (97 : Int32) = nI 97 from rfl, h1]
  simp only [isL, decide_eq_true_eq]
  constructor
  · rintro ⟨a, b⟩
    have n0 : ¬ tb p < nI 0 := by rw [h3]; omega
    have n1 := (h2.1 (Int32.not_lt.1 n0)).1 (Int32.not_lt.1 b)
    exact ⟨by omega, n1⟩
  · intro a
    have n0 : ¬ tb p < nI 0 := by rw [h3]; omega
    exact ⟨by omega, Int32.not_lt.2 ((h2.1 (Int32.not_lt.1 n0)).2 (by omega))⟩
