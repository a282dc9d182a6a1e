/-! DIFFER -/
def Tn.sh4 (t : Tn) (a b dd w n : Nat) : (Nat × Nat) × (Nat × Nat) × (Nat × Nat) × (Nat × Nat) := ((t.shS a dd w n t.n, t.shN a dd w n t.n), (t.shS a dd (w - n) n t.n, t.shN a dd (w - n) n t.n), (t.shS b dd w n t.n, t.shN b dd w n t.n), (t.shS b dd (w - n) n t.n, t.shN b dd (w - n) n t.n))
def dfB (x : (Nat × Nat) × (Nat × Nat) × (Nat × Nat) × (Nat × Nat)) : Nat := x.1.2 * x.2.1.2 * x.2.2.1.2 * x.2.2.2.2
def dfA (x : (Nat × Nat) × (Nat × Nat) × (Nat × Nat) × (Nat × Nat)) : Int := (((x.1.1 : Int) * x.2.1.2 - x.2.1.1 * x.1.2) * x.2.2.1.2 - x.2.2.1.1 * (x.1.2 * x.2.1.2)) * x.2.2.2.2 + x.2.2.2.1 * (x.1.2 * x.2.1.2 * x.2.2.1.2)
def Tn.mB (t : Tn) (a b dd w n : Nat) : Nat := if n ≤ w ∧ w + n ≤ 260 then dfB (t.sh4 a b dd w n) else 0
def Tn.mA (t : Tn) (a b dd w n : Nat) : Int := if n ≤ w ∧ w + n ≤ 260 then dfA (t.sh4 a b dd w n) else 0
def Tn.th (t : Tn) (a b dd w n : Nat) : Int64 := if t.mB a b dd w n = 0 then -1000000000 else fdJ (1000 * Int64.ofInt (t.mA a b dd w n)) (lN (t.mB a b dd w n))
theorem lN_oI (n : Nat) : lN n = Int64.ofInt (n : Int) := by
  apply Int64.toBitVec_inj.1
  show BitVec.ofNat 64 n = BitVec.ofInt 64 n
  rw [BitVec.ofInt_natCast]
theorem oI_add (a b : Int) : Int64.ofInt (a + b) = Int64.ofInt a + Int64.ofInt b := by
  apply Int64.toBitVec_inj.1
  show BitVec.ofInt 64 (a + b) = BitVec.ofInt 64 a + BitVec.ofInt 64 b
  rw [BitVec.ofInt_add]
theorem oI_mul (a b : Int) : Int64.ofInt (a * b) = Int64.ofInt a * Int64.ofInt b := by
  apply Int64.toBitVec_inj.1
  show BitVec.ofInt 64 (a * b) = BitVec.ofInt 64 a * BitVec.ofInt 64 b
  rw [BitVec.ofInt_mul]
theorem oI_neg (a : Int) : Int64.ofInt (-a) = -Int64.ofInt a := by
  apply Int64.toBitVec_inj.1
  show BitVec.ofInt 64 (-a) = -BitVec.ofInt 64 a
  rw [BitVec.ofInt_neg]
theorem oI_sub (a b : Int) : Int64.ofInt (a - b) = Int64.ofInt a - Int64.ofInt b := by
  rw [Int.sub_eq_add_neg, oI_add, oI_neg]
  grind
theorem oI_t {a : Int} (h1 : -9223372036854775808 ≤ a) (h2 : a < 9223372036854775808) : (Int64.ofInt a).toInt = a := by
  rw [Int64.toInt_ofInt, show Int64.size = 2 ^ 64 from rfl]
  rw [Int.bmod_eq_of_le (by omega) (by omega)]
/-- downwards, both ways, by a number above 0 -/
theorem msb_i (x : Int64) : x.toBitVec.msb = decide (x.toInt < 0) := by
  rw [BitVec.msb_eq_toInt]
  rfl
theorem td_np {a b : Int} (ha : a < 0) (hb : 0 < b) : a.tdiv b ≤ 0 := by
  have h := Int.tdiv_nonneg (a := -a) (b := b) (by omega) (by omega)
  rw [Int.neg_tdiv] at h
  omega
theorem dv_T {x y : Int64} (hy : 0 < y.toInt) : (x / y).toInt = x.toInt.tdiv y.toInt := by
  have hyl := Int64.toInt_lt y
  have hxl := Int64.toInt_lt x
  have hxg := Int64.le_toInt x
  rw [Int64.toInt_div]
  have h1 : (x.toInt.tdiv y.toInt).natAbs ≤ x.toInt.natAbs := by rw [Int.natAbs_tdiv]; exact Nat.div_le_self _ _
  have h2 : x.toInt.tdiv y.toInt ≤ x.toInt.natAbs := by omega
  have h3 : 0 ≤ x.toInt → 0 ≤ x.toInt.tdiv y.toInt := fun h => Int.tdiv_nonneg h (by omega)
  have h4 : x.toInt < 0 → x.toInt.tdiv y.toInt ≤ 0 := fun h => td_np (by omega) hy
  rw [Int.bmod_eq_of_le (by omega) (by omega)]
theorem tm_T {a b : Int} (hb : 0 < b) : a = a.tdiv b * b + a.tmod b ∧ (0 ≤ a → 0 ≤ a.tmod b) ∧ (a < 0 → a.tmod b ≤ 0) ∧ (a.tmod b).natAbs < b.natAbs ∧ (a.tmod b).natAbs ≤ a.natAbs := by
  have e := Int.tmod_def a b
  rw [Int.mul_comm] at e
  have r1 := Int.natAbs_tmod a b
  have r2 := Nat.mod_le a.natAbs b.natAbs
  have r5 := Nat.mod_lt a.natAbs (show 0 < b.natAbs by omega)
  refine ⟨by omega, fun h => Int.tmod_nonneg _ h, fun h => ?_, by omega, by omega⟩
  have := Int.tmod_nonneg b (a := -a) (by omega)
  rw [Int.neg_tmod] at this
  omega
theorem mu_T {x y : Int64} (hy : 0 < y.toInt) : (x / y * y).toInt = x.toInt.tdiv y.toInt * y.toInt := by
  have hxl := Int64.toInt_lt x
  have hxg := Int64.le_toInt x
  obtain ⟨e, r3, r4, r5, r6⟩ := tm_T (a := x.toInt) hy
  rw [Int64.toInt_mul, dv_T hy]
  rw [Int.bmod_eq_of_le (by omega) (by omega)]
theorem rm_T {x y : Int64} (hy : 0 < y.toInt) : (x - x / y * y).toInt = x.toInt.tmod y.toInt := by
  have hxl := Int64.toInt_lt x
  have hxg := Int64.le_toInt x
  obtain ⟨e, r3, r4, r5, r6⟩ := tm_T (a := x.toInt) hy
  rw [Int64.toInt_sub, mu_T hy]
  rw [show x.toInt - x.toInt.tdiv y.toInt * y.toInt = x.toInt.tmod y.toInt by omega]
  rw [Int.bmod_eq_of_le (by omega) (by omega)]
theorem fd_fl {x y : Int64} (hy : 0 < y.toInt) : fdJ x y = flO x y := by
  obtain ⟨e, r3, r4, r5, r6⟩ := tm_T (a := x.toInt) hy
  have z0 : (0 : Int64).toInt = 0 := rfl
  have hx : (x ^^^ y).toInt < 0 ↔ x.toInt < 0 := by
    have := msb_i (x ^^^ y)
    rw [show (x ^^^ y).toBitVec = x.toBitVec ^^^ y.toBitVec from rfl, BitVec.msb_xor, msb_i, msb_i, show decide (y.toInt < 0) = false from decide_eq_false (by omega), Bool.xor_false] at this
    simpa using this.symm
  unfold fdJ flO
  have g1 : (0 ≤ lg_cmp (x ^^^ y) 0) ↔ 0 ≤ x.toInt := by
    rw [← Int32.not_lt, lg_lt0, z0, hx]; omega
  have g2 : (0 ≤ lg_cmp (x - x / y * y) 0) ↔ 0 ≤ x.toInt.tmod y.toInt := by
    rw [← Int32.not_lt, lg_lt0, z0, rm_T hy]; omega
  have g3 : (lg_cmp (x / y * y) x = 0) ↔ x.toInt.tmod y.toInt = 0 := by
    rw [lg_cmp_eq, ← Int64.toInt_inj, mu_T hy]; omega
  by_cases c : 0 ≤ x.toInt
  · rw [if_pos (g1.2 c), if_pos (g2.2 (r3 c))]
  · rw [if_neg (fun z => c (g1.1 z))]
    by_cases c2 : x.toInt.tmod y.toInt = 0
    · rw [if_pos (g3.2 c2), if_pos (g2.2 (by omega))]
    · rw [if_neg (fun z => c2 (g3.1 z)), if_neg (fun z => by have := g2.1 z; have := r4 (by omega); omega)]
theorem fl_T {x y : Int64} (hy : 0 < y.toInt) : (flO x y).toInt = x.toInt / y.toInt := by
  obtain ⟨e, r3, r4, r5, r6⟩ := tm_T (a := x.toInt) hy
  have hxl := Int64.toInt_lt x
  have hxg := Int64.le_toInt x
  have z0 : (0 : Int64).toInt = 0 := rfl
  have g2 : (0 ≤ lg_cmp (x - x / y * y) 0) ↔ 0 ≤ x.toInt.tmod y.toInt := by
    rw [← Int32.not_lt, lg_lt0, z0, rm_T hy]; omega
  unfold flO
  by_cases c : 0 ≤ x.toInt.tmod y.toInt
  · rw [if_pos (g2.2 c), dv_T hy]
    have u := (Int.ediv_emod_unique (a := x.toInt) (b := y.toInt) (r := x.toInt.tmod y.toInt) (q := x.toInt.tdiv y.toInt) hy).2 ⟨by rw [Int.mul_comm]; omega, c, by omega⟩
    exact u.1.symm
  · rw [if_neg (fun z => c (g2.1 z))]
    have u := (Int.ediv_emod_unique (a := x.toInt) (b := y.toInt) (r := x.toInt.tmod y.toInt + y.toInt) (q := x.toInt.tdiv y.toInt - 1) hy).2 ⟨by rw [Int.mul_sub, Int.mul_one, Int.mul_comm]; omega, by omega, by omega⟩
    rw [Int64.toInt_sub, dv_T hy, show (1 : Int64).toInt = 1 from rfl, ← u.1]
    have h4 : x.toInt < 0 := by
      by_cases k : 0 ≤ x.toInt
      · exact absurd (r3 k) c
      · omega
    have h5 : x.toInt.tdiv y.toInt ≤ 0 := td_np (by omega) hy
    have h1 : (x.toInt.tdiv y.toInt).natAbs ≤ x.toInt.natAbs := by rw [Int.natAbs_tdiv]; exact Nat.div_le_self _ _
    have h6 : -9223372036854775808 < x.toInt.tdiv y.toInt := by
      by_cases k : y.toInt = 1
      · rw [k, Int.tdiv_one]; omega
      · have h7 : (x.toInt.tdiv y.toInt).natAbs = x.toInt.natAbs / y.toInt.natAbs := Int.natAbs_tdiv _ _
        have h8 : x.toInt.natAbs / y.toInt.natAbs ≤ x.toInt.natAbs / 2 := Nat.div_le_div_left (by omega) (by decide)
        omega
    rw [Int.bmod_eq_of_le (by omega) (by omega)]
