/-! what simp needs of lists, locals, small values -/
theorem csum_nil : csum [] = 0 := rfl
theorem csum_int {x : Int32} {st : List Value} : csum (.int x :: st) = 1 + csum st := by simp [csum, Value.category]
theorem csum_long {x : Int64} {st : List Value} : csum (.long x :: st) = 2 + csum st := by simp [csum, Value.category]
theorem csum_ref {x : Nat} {st : List Value} : csum (.ref x :: st) = 1 + csum st := by simp [csum, Value.category]
theorem csum_null {st : List Value} : csum (.null :: st) = 1 + csum st := by simp [csum, Value.category]
theorem cat_int {x : Int32} : (Value.int x).category = 1 := rfl
theorem cat_long {x : Int64} : (Value.long x).category = 2 := rfl
theorem cat_ref {x : Nat} : (Value.ref x).category = 1 := rfl
theorem cat_null : Value.null.category = 1 := rfl
theorem nar_int {x : Int32} : narrow .int (.int x) = .int x := rfl
theorem nar_long {x : Int64} : narrow .long (.long x) = .long x := rfl
theorem nar_ref {x : Nat} {s : String} : narrow (.object s) (.ref x) = .ref x := rfl
theorem nar_null {s : String} : narrow (.object s) .null = .null := rfl
theorem nar_refA {x : Nat} {t : FieldType} : narrow (.array t) (.ref x) = .ref x := rfl
theorem nar_nullA {t : FieldType} : narrow (.array t) .null = .null := rfl
theorem fit_int {x : Int32} : fits .int (.int x) = true := rfl
theorem fit_long {x : Int64} : fits .long (.long x) = true := rfl
theorem fit_ref {x : Nat} {s : String} : fits (.object s) (.ref x) = true := rfl
theorem fit_null {s : String} : fits (.object s) .null = true := rfl
theorem fit_refA {x : Nat} {t : FieldType} : fits (.array t) (.ref x) = true := rfl
theorem fit_nullA {t : FieldType} : fits (.array t) .null = true := rfl
theorem va_rf_s {x : Nat} : va_rf (some x) = .ref x := rfl
theorem va_rf_n : va_rf none = .null := rfl
/-- a slot that no second half of a long may follow -/
def sl (o : Option Value) : Prop := ∀ v, o = some v → v.category ≠ 2
theorem gx_0 {α : Type} {x0 : α} {r : List α} : (x0 :: r)[0]? = some x0 := rfl
theorem gx_1 {α : Type} {x0 x1 : α} {r : List α} : (x0 :: x1 :: r)[1]? = some x1 := rfl
theorem gx_2 {α : Type} {x0 x1 x2 : α} {r : List α} : (x0 :: x1 :: x2 :: r)[2]? = some x2 := rfl
theorem gx_3 {α : Type} {x0 x1 x2 x3 : α} {r : List α} : (x0 :: x1 :: x2 :: x3 :: r)[3]? = some x3 := rfl
theorem gx_4 {α : Type} {x0 x1 x2 x3 x4 : α} {r : List α} : (x0 :: x1 :: x2 :: x3 :: x4 :: r)[4]? = some x4 := rfl
theorem gx_5 {α : Type} {x0 x1 x2 x3 x4 x5 : α} {r : List α} : (x0 :: x1 :: x2 :: x3 :: x4 :: x5 :: r)[5]? = some x5 := rfl
theorem gx_6 {α : Type} {x0 x1 x2 x3 x4 x5 x6 : α} {r : List α} : (x0 :: x1 :: x2 :: x3 :: x4 :: x5 :: x6 :: r)[6]? = some x6 := rfl
theorem gx_7 {α : Type} {x0 x1 x2 x3 x4 x5 x6 x7 : α} {r : List α} : (x0 :: x1 :: x2 :: x3 :: x4 :: x5 :: x6 :: x7 :: r)[7]? = some x7 := rfl
theorem gx_8 {α : Type} {x0 x1 x2 x3 x4 x5 x6 x7 x8 : α} {r : List α} : (x0 :: x1 :: x2 :: x3 :: x4 :: x5 :: x6 :: x7 :: x8 :: r)[8]? = some x8 := rfl
theorem gx_9 {α : Type} {x0 x1 x2 x3 x4 x5 x6 x7 x8 x9 : α} {r : List α} : (x0 :: x1 :: x2 :: x3 :: x4 :: x5 :: x6 :: x7 :: x8 :: x9 :: r)[9]? = some x9 := rfl
theorem gx_10 {α : Type} {x0 x1 x2 x3 x4 x5 x6 x7 x8 x9 x10 : α} {r : List α} : (x0 :: x1 :: x2 :: x3 :: x4 :: x5 :: x6 :: x7 :: x8 :: x9 :: x10 :: r)[10]? = some x10 := rfl
theorem gx_11 {α : Type} {x0 x1 x2 x3 x4 x5 x6 x7 x8 x9 x10 x11 : α} {r : List α} : (x0 :: x1 :: x2 :: x3 :: x4 :: x5 :: x6 :: x7 :: x8 :: x9 :: x10 :: x11 :: r)[11]? = some x11 := rfl
theorem stL_0 {x : Option Value} {r : aL} {v : Value} : stL (x :: r) 0 v = some v :: r := rfl
theorem stL_1i {y : Int32} {x : Option Value} {r : aL} {v : Value} : stL (some (.int y) :: x :: r) 1 v = some (.int y) :: some v :: r := rfl
theorem stL_1r {y : Nat} {x : Option Value} {r : aL} {v : Value} : stL (some (.ref y) :: x :: r) 1 v = some (.ref y) :: some v :: r := rfl
theorem stL_1n {x : Option Value} {r : aL} {v : Value} : stL (some .null :: x :: r) 1 v = some .null :: some v :: r := rfl
theorem stL_1u {x : Option Value} {r : aL} {v : Value} : stL (none :: x :: r) 1 v = none :: some v :: r := rfl
theorem stL_2i {x0 : Option Value} {y : Int32} {x : Option Value} {r : aL} {v : Value} : stL (x0 :: some (.int y) :: x :: r) 2 v = x0 :: some (.int y) :: some v :: r := rfl
theorem stL_2r {x0 : Option Value} {y : Nat} {x : Option Value} {r : aL} {v : Value} : stL (x0 :: some (.ref y) :: x :: r) 2 v = x0 :: some (.ref y) :: some v :: r := rfl
theorem stL_2n {x0 : Option Value} {x : Option Value} {r : aL} {v : Value} : stL (x0 :: some .null :: x :: r) 2 v = x0 :: some .null :: some v :: r := rfl
theorem stL_2u {x0 : Option Value} {x : Option Value} {r : aL} {v : Value} : stL (x0 :: none :: x :: r) 2 v = x0 :: none :: some v :: r := rfl
theorem stL_3i {x0 x1 : Option Value} {y : Int32} {x : Option Value} {r : aL} {v : Value} : stL (x0 :: x1 :: some (.int y) :: x :: r) 3 v = x0 :: x1 :: some (.int y) :: some v :: r := rfl
theorem stL_3r {x0 x1 : Option Value} {y : Nat} {x : Option Value} {r : aL} {v : Value} : stL (x0 :: x1 :: some (.ref y) :: x :: r) 3 v = x0 :: x1 :: some (.ref y) :: some v :: r := rfl
theorem stL_3n {x0 x1 : Option Value} {x : Option Value} {r : aL} {v : Value} : stL (x0 :: x1 :: some .null :: x :: r) 3 v = x0 :: x1 :: some .null :: some v :: r := rfl
theorem stL_3u {x0 x1 : Option Value} {x : Option Value} {r : aL} {v : Value} : stL (x0 :: x1 :: none :: x :: r) 3 v = x0 :: x1 :: none :: some v :: r := rfl
theorem stL_4i {x0 x1 x2 : Option Value} {y : Int32} {x : Option Value} {r : aL} {v : Value} : stL (x0 :: x1 :: x2 :: some (.int y) :: x :: r) 4 v = x0 :: x1 :: x2 :: some (.int y) :: some v :: r := rfl
theorem stL_4r {x0 x1 x2 : Option Value} {y : Nat} {x : Option Value} {r : aL} {v : Value} : stL (x0 :: x1 :: x2 :: some (.ref y) :: x :: r) 4 v = x0 :: x1 :: x2 :: some (.ref y) :: some v :: r := rfl
theorem stL_4n {x0 x1 x2 : Option Value} {x : Option Value} {r : aL} {v : Value} : stL (x0 :: x1 :: x2 :: some .null :: x :: r) 4 v = x0 :: x1 :: x2 :: some .null :: some v :: r := rfl
theorem stL_4u {x0 x1 x2 : Option Value} {x : Option Value} {r : aL} {v : Value} : stL (x0 :: x1 :: x2 :: none :: x :: r) 4 v = x0 :: x1 :: x2 :: none :: some v :: r := rfl
theorem stL_5i {x0 x1 x2 x3 : Option Value} {y : Int32} {x : Option Value} {r : aL} {v : Value} : stL (x0 :: x1 :: x2 :: x3 :: some (.int y) :: x :: r) 5 v = x0 :: x1 :: x2 :: x3 :: some (.int y) :: some v :: r := rfl
theorem stL_5r {x0 x1 x2 x3 : Option Value} {y : Nat} {x : Option Value} {r : aL} {v : Value} : stL (x0 :: x1 :: x2 :: x3 :: some (.ref y) :: x :: r) 5 v = x0 :: x1 :: x2 :: x3 :: some (.ref y) :: some v :: r := rfl
theorem stL_5n {x0 x1 x2 x3 : Option Value} {x : Option Value} {r : aL} {v : Value} : stL (x0 :: x1 :: x2 :: x3 :: some .null :: x :: r) 5 v = x0 :: x1 :: x2 :: x3 :: some .null :: some v :: r := rfl
theorem stL_5u {x0 x1 x2 x3 : Option Value} {x : Option Value} {r : aL} {v : Value} : stL (x0 :: x1 :: x2 :: x3 :: none :: x :: r) 5 v = x0 :: x1 :: x2 :: x3 :: none :: some v :: r := rfl
theorem stL_6i {x0 x1 x2 x3 x4 : Option Value} {y : Int32} {x : Option Value} {r : aL} {v : Value} : stL (x0 :: x1 :: x2 :: x3 :: x4 :: some (.int y) :: x :: r) 6 v = x0 :: x1 :: x2 :: x3 :: x4 :: some (.int y) :: some v :: r := rfl
theorem stL_6r {x0 x1 x2 x3 x4 : Option Value} {y : Nat} {x : Option Value} {r : aL} {v : Value} : stL (x0 :: x1 :: x2 :: x3 :: x4 :: some (.ref y) :: x :: r) 6 v = x0 :: x1 :: x2 :: x3 :: x4 :: some (.ref y) :: some v :: r := rfl
theorem stL_6n {x0 x1 x2 x3 x4 : Option Value} {x : Option Value} {r : aL} {v : Value} : stL (x0 :: x1 :: x2 :: x3 :: x4 :: some .null :: x :: r) 6 v = x0 :: x1 :: x2 :: x3 :: x4 :: some .null :: some v :: r := rfl
theorem stL_6u {x0 x1 x2 x3 x4 : Option Value} {x : Option Value} {r : aL} {v : Value} : stL (x0 :: x1 :: x2 :: x3 :: x4 :: none :: x :: r) 6 v = x0 :: x1 :: x2 :: x3 :: x4 :: none :: some v :: r := rfl
theorem stL_7i {x0 x1 x2 x3 x4 x5 : Option Value} {y : Int32} {x : Option Value} {r : aL} {v : Value} : stL (x0 :: x1 :: x2 :: x3 :: x4 :: x5 :: some (.int y) :: x :: r) 7 v = x0 :: x1 :: x2 :: x3 :: x4 :: x5 :: some (.int y) :: some v :: r := rfl
theorem stL_7r {x0 x1 x2 x3 x4 x5 : Option Value} {y : Nat} {x : Option Value} {r : aL} {v : Value} : stL (x0 :: x1 :: x2 :: x3 :: x4 :: x5 :: some (.ref y) :: x :: r) 7 v = x0 :: x1 :: x2 :: x3 :: x4 :: x5 :: some (.ref y) :: some v :: r := rfl
theorem stL_7n {x0 x1 x2 x3 x4 x5 : Option Value} {x : Option Value} {r : aL} {v : Value} : stL (x0 :: x1 :: x2 :: x3 :: x4 :: x5 :: some .null :: x :: r) 7 v = x0 :: x1 :: x2 :: x3 :: x4 :: x5 :: some .null :: some v :: r := rfl
theorem stL_7u {x0 x1 x2 x3 x4 x5 : Option Value} {x : Option Value} {r : aL} {v : Value} : stL (x0 :: x1 :: x2 :: x3 :: x4 :: x5 :: none :: x :: r) 7 v = x0 :: x1 :: x2 :: x3 :: x4 :: x5 :: none :: some v :: r := rfl
theorem stL_8i {x0 x1 x2 x3 x4 x5 x6 : Option Value} {y : Int32} {x : Option Value} {r : aL} {v : Value} : stL (x0 :: x1 :: x2 :: x3 :: x4 :: x5 :: x6 :: some (.int y) :: x :: r) 8 v = x0 :: x1 :: x2 :: x3 :: x4 :: x5 :: x6 :: some (.int y) :: some v :: r := rfl
theorem stL_8r {x0 x1 x2 x3 x4 x5 x6 : Option Value} {y : Nat} {x : Option Value} {r : aL} {v : Value} : stL (x0 :: x1 :: x2 :: x3 :: x4 :: x5 :: x6 :: some (.ref y) :: x :: r) 8 v = x0 :: x1 :: x2 :: x3 :: x4 :: x5 :: x6 :: some (.ref y) :: some v :: r := rfl
theorem stL_8n {x0 x1 x2 x3 x4 x5 x6 : Option Value} {x : Option Value} {r : aL} {v : Value} : stL (x0 :: x1 :: x2 :: x3 :: x4 :: x5 :: x6 :: some .null :: x :: r) 8 v = x0 :: x1 :: x2 :: x3 :: x4 :: x5 :: x6 :: some .null :: some v :: r := rfl
theorem stL_8u {x0 x1 x2 x3 x4 x5 x6 : Option Value} {x : Option Value} {r : aL} {v : Value} : stL (x0 :: x1 :: x2 :: x3 :: x4 :: x5 :: x6 :: none :: x :: r) 8 v = x0 :: x1 :: x2 :: x3 :: x4 :: x5 :: x6 :: none :: some v :: r := rfl
theorem stL_9i {x0 x1 x2 x3 x4 x5 x6 x7 : Option Value} {y : Int32} {x : Option Value} {r : aL} {v : Value} : stL (x0 :: x1 :: x2 :: x3 :: x4 :: x5 :: x6 :: x7 :: some (.int y) :: x :: r) 9 v = x0 :: x1 :: x2 :: x3 :: x4 :: x5 :: x6 :: x7 :: some (.int y) :: some v :: r := rfl
theorem stL_9r {x0 x1 x2 x3 x4 x5 x6 x7 : Option Value} {y : Nat} {x : Option Value} {r : aL} {v : Value} : stL (x0 :: x1 :: x2 :: x3 :: x4 :: x5 :: x6 :: x7 :: some (.ref y) :: x :: r) 9 v = x0 :: x1 :: x2 :: x3 :: x4 :: x5 :: x6 :: x7 :: some (.ref y) :: some v :: r := rfl
theorem stL_9n {x0 x1 x2 x3 x4 x5 x6 x7 : Option Value} {x : Option Value} {r : aL} {v : Value} : stL (x0 :: x1 :: x2 :: x3 :: x4 :: x5 :: x6 :: x7 :: some .null :: x :: r) 9 v = x0 :: x1 :: x2 :: x3 :: x4 :: x5 :: x6 :: x7 :: some .null :: some v :: r := rfl
theorem stL_9u {x0 x1 x2 x3 x4 x5 x6 x7 : Option Value} {x : Option Value} {r : aL} {v : Value} : stL (x0 :: x1 :: x2 :: x3 :: x4 :: x5 :: x6 :: x7 :: none :: x :: r) 9 v = x0 :: x1 :: x2 :: x3 :: x4 :: x5 :: x6 :: x7 :: none :: some v :: r := rfl
theorem stL_10i {x0 x1 x2 x3 x4 x5 x6 x7 x8 : Option Value} {y : Int32} {x : Option Value} {r : aL} {v : Value} : stL (x0 :: x1 :: x2 :: x3 :: x4 :: x5 :: x6 :: x7 :: x8 :: some (.int y) :: x :: r) 10 v = x0 :: x1 :: x2 :: x3 :: x4 :: x5 :: x6 :: x7 :: x8 :: some (.int y) :: some v :: r := rfl
theorem stL_10r {x0 x1 x2 x3 x4 x5 x6 x7 x8 : Option Value} {y : Nat} {x : Option Value} {r : aL} {v : Value} : stL (x0 :: x1 :: x2 :: x3 :: x4 :: x5 :: x6 :: x7 :: x8 :: some (.ref y) :: x :: r) 10 v = x0 :: x1 :: x2 :: x3 :: x4 :: x5 :: x6 :: x7 :: x8 :: some (.ref y) :: some v :: r := rfl
theorem stL_10n {x0 x1 x2 x3 x4 x5 x6 x7 x8 : Option Value} {x : Option Value} {r : aL} {v : Value} : stL (x0 :: x1 :: x2 :: x3 :: x4 :: x5 :: x6 :: x7 :: x8 :: some .null :: x :: r) 10 v = x0 :: x1 :: x2 :: x3 :: x4 :: x5 :: x6 :: x7 :: x8 :: some .null :: some v :: r := rfl
theorem stL_10u {x0 x1 x2 x3 x4 x5 x6 x7 x8 : Option Value} {x : Option Value} {r : aL} {v : Value} : stL (x0 :: x1 :: x2 :: x3 :: x4 :: x5 :: x6 :: x7 :: x8 :: none :: x :: r) 10 v = x0 :: x1 :: x2 :: x3 :: x4 :: x5 :: x6 :: x7 :: x8 :: none :: some v :: r := rfl
theorem stL_11i {x0 x1 x2 x3 x4 x5 x6 x7 x8 x9 : Option Value} {y : Int32} {x : Option Value} {r : aL} {v : Value} : stL (x0 :: x1 :: x2 :: x3 :: x4 :: x5 :: x6 :: x7 :: x8 :: x9 :: some (.int y) :: x :: r) 11 v = x0 :: x1 :: x2 :: x3 :: x4 :: x5 :: x6 :: x7 :: x8 :: x9 :: some (.int y) :: some v :: r := rfl
theorem stL_11r {x0 x1 x2 x3 x4 x5 x6 x7 x8 x9 : Option Value} {y : Nat} {x : Option Value} {r : aL} {v : Value} : stL (x0 :: x1 :: x2 :: x3 :: x4 :: x5 :: x6 :: x7 :: x8 :: x9 :: some (.ref y) :: x :: r) 11 v = x0 :: x1 :: x2 :: x3 :: x4 :: x5 :: x6 :: x7 :: x8 :: x9 :: some (.ref y) :: some v :: r := rfl
theorem stL_11n {x0 x1 x2 x3 x4 x5 x6 x7 x8 x9 : Option Value} {x : Option Value} {r : aL} {v : Value} : stL (x0 :: x1 :: x2 :: x3 :: x4 :: x5 :: x6 :: x7 :: x8 :: x9 :: some .null :: x :: r) 11 v = x0 :: x1 :: x2 :: x3 :: x4 :: x5 :: x6 :: x7 :: x8 :: x9 :: some .null :: some v :: r := rfl
theorem stL_11u {x0 x1 x2 x3 x4 x5 x6 x7 x8 x9 : Option Value} {x : Option Value} {r : aL} {v : Value} : stL (x0 :: x1 :: x2 :: x3 :: x4 :: x5 :: x6 :: x7 :: x8 :: x9 :: none :: x :: r) 11 v = x0 :: x1 :: x2 :: x3 :: x4 :: x5 :: x6 :: x7 :: x8 :: x9 :: none :: some v :: r := rfl
theorem stJ_0 {x z : Option Value} {r : aL} {v : Value} : stL2 (x :: z :: r) 0 v = some v :: none :: r := rfl
theorem stJ_1i {y : Int32} {x z : Option Value} {r : aL} {v : Value} : stL2 (some (.int y) :: x :: z :: r) 1 v = some (.int y) :: some v :: none :: r := rfl
theorem stJ_1r {y : Nat} {x z : Option Value} {r : aL} {v : Value} : stL2 (some (.ref y) :: x :: z :: r) 1 v = some (.ref y) :: some v :: none :: r := rfl
theorem stJ_1n {x z : Option Value} {r : aL} {v : Value} : stL2 (some .null :: x :: z :: r) 1 v = some .null :: some v :: none :: r := rfl
theorem stJ_1u {x z : Option Value} {r : aL} {v : Value} : stL2 (none :: x :: z :: r) 1 v = none :: some v :: none :: r := rfl
theorem stJ_2i {x0 : Option Value} {y : Int32} {x z : Option Value} {r : aL} {v : Value} : stL2 (x0 :: some (.int y) :: x :: z :: r) 2 v = x0 :: some (.int y) :: some v :: none :: r := rfl
theorem stJ_2r {x0 : Option Value} {y : Nat} {x z : Option Value} {r : aL} {v : Value} : stL2 (x0 :: some (.ref y) :: x :: z :: r) 2 v = x0 :: some (.ref y) :: some v :: none :: r := rfl
theorem stJ_2n {x0 : Option Value} {x z : Option Value} {r : aL} {v : Value} : stL2 (x0 :: some .null :: x :: z :: r) 2 v = x0 :: some .null :: some v :: none :: r := rfl
theorem stJ_2u {x0 : Option Value} {x z : Option Value} {r : aL} {v : Value} : stL2 (x0 :: none :: x :: z :: r) 2 v = x0 :: none :: some v :: none :: r := rfl
theorem stJ_3i {x0 x1 : Option Value} {y : Int32} {x z : Option Value} {r : aL} {v : Value} : stL2 (x0 :: x1 :: some (.int y) :: x :: z :: r) 3 v = x0 :: x1 :: some (.int y) :: some v :: none :: r := rfl
theorem stJ_3r {x0 x1 : Option Value} {y : Nat} {x z : Option Value} {r : aL} {v : Value} : stL2 (x0 :: x1 :: some (.ref y) :: x :: z :: r) 3 v = x0 :: x1 :: some (.ref y) :: some v :: none :: r := rfl
theorem stJ_3n {x0 x1 : Option Value} {x z : Option Value} {r : aL} {v : Value} : stL2 (x0 :: x1 :: some .null :: x :: z :: r) 3 v = x0 :: x1 :: some .null :: some v :: none :: r := rfl
theorem stJ_3u {x0 x1 : Option Value} {x z : Option Value} {r : aL} {v : Value} : stL2 (x0 :: x1 :: none :: x :: z :: r) 3 v = x0 :: x1 :: none :: some v :: none :: r := rfl
theorem stJ_4i {x0 x1 x2 : Option Value} {y : Int32} {x z : Option Value} {r : aL} {v : Value} : stL2 (x0 :: x1 :: x2 :: some (.int y) :: x :: z :: r) 4 v = x0 :: x1 :: x2 :: some (.int y) :: some v :: none :: r := rfl
theorem stJ_4r {x0 x1 x2 : Option Value} {y : Nat} {x z : Option Value} {r : aL} {v : Value} : stL2 (x0 :: x1 :: x2 :: some (.ref y) :: x :: z :: r) 4 v = x0 :: x1 :: x2 :: some (.ref y) :: some v :: none :: r := rfl
theorem stJ_4n {x0 x1 x2 : Option Value} {x z : Option Value} {r : aL} {v : Value} : stL2 (x0 :: x1 :: x2 :: some .null :: x :: z :: r) 4 v = x0 :: x1 :: x2 :: some .null :: some v :: none :: r := rfl
theorem stJ_4u {x0 x1 x2 : Option Value} {x z : Option Value} {r : aL} {v : Value} : stL2 (x0 :: x1 :: x2 :: none :: x :: z :: r) 4 v = x0 :: x1 :: x2 :: none :: some v :: none :: r := rfl
theorem stJ_5i {x0 x1 x2 x3 : Option Value} {y : Int32} {x z : Option Value} {r : aL} {v : Value} : stL2 (x0 :: x1 :: x2 :: x3 :: some (.int y) :: x :: z :: r) 5 v = x0 :: x1 :: x2 :: x3 :: some (.int y) :: some v :: none :: r := rfl
theorem stJ_5r {x0 x1 x2 x3 : Option Value} {y : Nat} {x z : Option Value} {r : aL} {v : Value} : stL2 (x0 :: x1 :: x2 :: x3 :: some (.ref y) :: x :: z :: r) 5 v = x0 :: x1 :: x2 :: x3 :: some (.ref y) :: some v :: none :: r := rfl
theorem stJ_5n {x0 x1 x2 x3 : Option Value} {x z : Option Value} {r : aL} {v : Value} : stL2 (x0 :: x1 :: x2 :: x3 :: some .null :: x :: z :: r) 5 v = x0 :: x1 :: x2 :: x3 :: some .null :: some v :: none :: r := rfl
theorem stJ_5u {x0 x1 x2 x3 : Option Value} {x z : Option Value} {r : aL} {v : Value} : stL2 (x0 :: x1 :: x2 :: x3 :: none :: x :: z :: r) 5 v = x0 :: x1 :: x2 :: x3 :: none :: some v :: none :: r := rfl
theorem stJ_6i {x0 x1 x2 x3 x4 : Option Value} {y : Int32} {x z : Option Value} {r : aL} {v : Value} : stL2 (x0 :: x1 :: x2 :: x3 :: x4 :: some (.int y) :: x :: z :: r) 6 v = x0 :: x1 :: x2 :: x3 :: x4 :: some (.int y) :: some v :: none :: r := rfl
theorem stJ_6r {x0 x1 x2 x3 x4 : Option Value} {y : Nat} {x z : Option Value} {r : aL} {v : Value} : stL2 (x0 :: x1 :: x2 :: x3 :: x4 :: some (.ref y) :: x :: z :: r) 6 v = x0 :: x1 :: x2 :: x3 :: x4 :: some (.ref y) :: some v :: none :: r := rfl
theorem stJ_6n {x0 x1 x2 x3 x4 : Option Value} {x z : Option Value} {r : aL} {v : Value} : stL2 (x0 :: x1 :: x2 :: x3 :: x4 :: some .null :: x :: z :: r) 6 v = x0 :: x1 :: x2 :: x3 :: x4 :: some .null :: some v :: none :: r := rfl
theorem stJ_6u {x0 x1 x2 x3 x4 : Option Value} {x z : Option Value} {r : aL} {v : Value} : stL2 (x0 :: x1 :: x2 :: x3 :: x4 :: none :: x :: z :: r) 6 v = x0 :: x1 :: x2 :: x3 :: x4 :: none :: some v :: none :: r := rfl
theorem stJ_7i {x0 x1 x2 x3 x4 x5 : Option Value} {y : Int32} {x z : Option Value} {r : aL} {v : Value} : stL2 (x0 :: x1 :: x2 :: x3 :: x4 :: x5 :: some (.int y) :: x :: z :: r) 7 v = x0 :: x1 :: x2 :: x3 :: x4 :: x5 :: some (.int y) :: some v :: none :: r := rfl
theorem stJ_7r {x0 x1 x2 x3 x4 x5 : Option Value} {y : Nat} {x z : Option Value} {r : aL} {v : Value} : stL2 (x0 :: x1 :: x2 :: x3 :: x4 :: x5 :: some (.ref y) :: x :: z :: r) 7 v = x0 :: x1 :: x2 :: x3 :: x4 :: x5 :: some (.ref y) :: some v :: none :: r := rfl
theorem stJ_7n {x0 x1 x2 x3 x4 x5 : Option Value} {x z : Option Value} {r : aL} {v : Value} : stL2 (x0 :: x1 :: x2 :: x3 :: x4 :: x5 :: some .null :: x :: z :: r) 7 v = x0 :: x1 :: x2 :: x3 :: x4 :: x5 :: some .null :: some v :: none :: r := rfl
theorem stJ_7u {x0 x1 x2 x3 x4 x5 : Option Value} {x z : Option Value} {r : aL} {v : Value} : stL2 (x0 :: x1 :: x2 :: x3 :: x4 :: x5 :: none :: x :: z :: r) 7 v = x0 :: x1 :: x2 :: x3 :: x4 :: x5 :: none :: some v :: none :: r := rfl
theorem stJ_8i {x0 x1 x2 x3 x4 x5 x6 : Option Value} {y : Int32} {x z : Option Value} {r : aL} {v : Value} : stL2 (x0 :: x1 :: x2 :: x3 :: x4 :: x5 :: x6 :: some (.int y) :: x :: z :: r) 8 v = x0 :: x1 :: x2 :: x3 :: x4 :: x5 :: x6 :: some (.int y) :: some v :: none :: r := rfl
theorem stJ_8r {x0 x1 x2 x3 x4 x5 x6 : Option Value} {y : Nat} {x z : Option Value} {r : aL} {v : Value} : stL2 (x0 :: x1 :: x2 :: x3 :: x4 :: x5 :: x6 :: some (.ref y) :: x :: z :: r) 8 v = x0 :: x1 :: x2 :: x3 :: x4 :: x5 :: x6 :: some (.ref y) :: some v :: none :: r := rfl
theorem stJ_8n {x0 x1 x2 x3 x4 x5 x6 : Option Value} {x z : Option Value} {r : aL} {v : Value} : stL2 (x0 :: x1 :: x2 :: x3 :: x4 :: x5 :: x6 :: some .null :: x :: z :: r) 8 v = x0 :: x1 :: x2 :: x3 :: x4 :: x5 :: x6 :: some .null :: some v :: none :: r := rfl
theorem stJ_8u {x0 x1 x2 x3 x4 x5 x6 : Option Value} {x z : Option Value} {r : aL} {v : Value} : stL2 (x0 :: x1 :: x2 :: x3 :: x4 :: x5 :: x6 :: none :: x :: z :: r) 8 v = x0 :: x1 :: x2 :: x3 :: x4 :: x5 :: x6 :: none :: some v :: none :: r := rfl
theorem stJ_9i {x0 x1 x2 x3 x4 x5 x6 x7 : Option Value} {y : Int32} {x z : Option Value} {r : aL} {v : Value} : stL2 (x0 :: x1 :: x2 :: x3 :: x4 :: x5 :: x6 :: x7 :: some (.int y) :: x :: z :: r) 9 v = x0 :: x1 :: x2 :: x3 :: x4 :: x5 :: x6 :: x7 :: some (.int y) :: some v :: none :: r := rfl
theorem stJ_9r {x0 x1 x2 x3 x4 x5 x6 x7 : Option Value} {y : Nat} {x z : Option Value} {r : aL} {v : Value} : stL2 (x0 :: x1 :: x2 :: x3 :: x4 :: x5 :: x6 :: x7 :: some (.ref y) :: x :: z :: r) 9 v = x0 :: x1 :: x2 :: x3 :: x4 :: x5 :: x6 :: x7 :: some (.ref y) :: some v :: none :: r := rfl
theorem stJ_9n {x0 x1 x2 x3 x4 x5 x6 x7 : Option Value} {x z : Option Value} {r : aL} {v : Value} : stL2 (x0 :: x1 :: x2 :: x3 :: x4 :: x5 :: x6 :: x7 :: some .null :: x :: z :: r) 9 v = x0 :: x1 :: x2 :: x3 :: x4 :: x5 :: x6 :: x7 :: some .null :: some v :: none :: r := rfl
theorem stJ_9u {x0 x1 x2 x3 x4 x5 x6 x7 : Option Value} {x z : Option Value} {r : aL} {v : Value} : stL2 (x0 :: x1 :: x2 :: x3 :: x4 :: x5 :: x6 :: x7 :: none :: x :: z :: r) 9 v = x0 :: x1 :: x2 :: x3 :: x4 :: x5 :: x6 :: x7 :: none :: some v :: none :: r := rfl
theorem stJ_10i {x0 x1 x2 x3 x4 x5 x6 x7 x8 : Option Value} {y : Int32} {x z : Option Value} {r : aL} {v : Value} : stL2 (x0 :: x1 :: x2 :: x3 :: x4 :: x5 :: x6 :: x7 :: x8 :: some (.int y) :: x :: z :: r) 10 v = x0 :: x1 :: x2 :: x3 :: x4 :: x5 :: x6 :: x7 :: x8 :: some (.int y) :: some v :: none :: r := rfl
theorem stJ_10r {x0 x1 x2 x3 x4 x5 x6 x7 x8 : Option Value} {y : Nat} {x z : Option Value} {r : aL} {v : Value} : stL2 (x0 :: x1 :: x2 :: x3 :: x4 :: x5 :: x6 :: x7 :: x8 :: some (.ref y) :: x :: z :: r) 10 v = x0 :: x1 :: x2 :: x3 :: x4 :: x5 :: x6 :: x7 :: x8 :: some (.ref y) :: some v :: none :: r := rfl
theorem stJ_10n {x0 x1 x2 x3 x4 x5 x6 x7 x8 : Option Value} {x z : Option Value} {r : aL} {v : Value} : stL2 (x0 :: x1 :: x2 :: x3 :: x4 :: x5 :: x6 :: x7 :: x8 :: some .null :: x :: z :: r) 10 v = x0 :: x1 :: x2 :: x3 :: x4 :: x5 :: x6 :: x7 :: x8 :: some .null :: some v :: none :: r := rfl
theorem stJ_10u {x0 x1 x2 x3 x4 x5 x6 x7 x8 : Option Value} {x z : Option Value} {r : aL} {v : Value} : stL2 (x0 :: x1 :: x2 :: x3 :: x4 :: x5 :: x6 :: x7 :: x8 :: none :: x :: z :: r) 10 v = x0 :: x1 :: x2 :: x3 :: x4 :: x5 :: x6 :: x7 :: x8 :: none :: some v :: none :: r := rfl
theorem aN_I {G : aG} {h : aH} {a t n : Nat} {f : Nat → Int32} (ht : t < 8) (hh : aI h a t = some (n, f)) : aN G h a = some n := by
  unfold aN
  rw [aI_at hh]
  simp [ht]
theorem aN_J {G : aG} {h : aH} {a n : Nat} {f : Nat → Int64} (hh : aJ h a = some (n, f)) : aN G h a = some n := by
  unfold aN
  rw [aJ_at hh]
  simp
theorem aN_R {G : aG} {h : aH} {a t n : Nat} {f : Nat → Option Nat} (hh : aR h a = some (t, n, f)) : aN G h a = some n := by
  obtain ⟨h1, h2⟩ := aR_at hh
  unfold aN
  rw [h1]
  rcases h2 with rfl | rfl | rfl <;> simp
theorem aI_up {h : aH} {a b t t' n : Nat} {f : Nat → Int32} : aI (hup h a (.inl (t', n, .inl f))) b t = if b = a then (if t' = t then some (n, f) else none) else aI h b t := by
  unfold aI hup
  by_cases e : b = a <;> simp [e]
theorem oF_upA {h : aH} {a b ci : Nat} {x : Nat × vp_A} : oF (hup h a (.inl x)) b ci = if b = a then none else oF h b ci := by
  unfold oF hup
  by_cases e : b = a <;> simp [e]
theorem oF_up {h : aH} {a b ci cj : Nat} {fs : List Value} : oF (hup h a (.inr (cj, fs))) b ci = if b = a then (if cj = ci then some fs else none) else oF h b ci := by
  unfold oF hup
  by_cases e : b = a <;> simp [e]
theorem aI_upO {h : aH} {a b t : Nat} {x : Nat × List Value} : aI (hup h a (.inr x)) b t = if b = a then none else aI h b t := by
  unfold aI hup
  by_cases e : b = a <;> simp [e]
theorem hup_up {h : aH} {a : Nat} {e e' : aE} : hup (hup h a e) a e' = hup h a e' := by
  unfold hup
  simp only
  refine congrArg (Prod.mk h.1) (congrArg (fun z => (z, h.2.2)) (funext fun q => ?_))
  by_cases e : q = a <;> simp [e]
def bI (P : Prop) [Decidable P] : Int32 := if P then 1 else 0
theorem nz_bI {P : Prop} [Decidable P] : narrow .boolean (.int (bI P)) = .int (bI P) := by unfold bI; split <;> rfl
theorem nz_0 : narrow .boolean (.int 0) = .int 0 := rfl
theorem nz_1 : narrow .boolean (.int 1) = .int 1 := rfl
theorem bI_0 {P : Prop} [Decidable P] : (bI P = 0) = ¬ P := by unfold bI; split <;> simp [*]
theorem bI_1 {P : Prop} [Decidable P] : (bI P = 1) = P := by unfold bI; split <;> simp [*]
theorem bI_t {P : Prop} [Decidable P] (h : P) : bI P = 1 := by unfold bI; rw [if_pos h]
theorem bI_f {P : Prop} [Decidable P] (h : ¬ P) : bI P = 0 := by unfold bI; rw [if_neg h]
theorem Qcongr {Q : aQ} {h : aH} {a b : Int32} (e : a = b) : Q (some (.int a)) h = Q (some (.int b)) h := by rw [e]
theorem bIcongr {P R : Prop} [Decidable P] [Decidable R] (e : P ↔ R) : bI P = bI R := by unfold bI; simp only [e]
theorem pd_1 {d : Nat} : d + 1 - 1 = d + 0 := rfl
theorem pd_2 {d : Nat} : d + 2 - 1 = d + 1 := rfl
theorem pd_3 {d : Nat} : d + 3 - 1 = d + 2 := rfl
theorem pd_4 {d : Nat} : d + 4 - 1 = d + 3 := rfl
theorem pd_5 {d : Nat} : d + 5 - 1 = d + 4 := rfl
theorem pd_6 {d : Nat} : d + 6 - 1 = d + 5 := rfl
theorem pd_7 {d : Nat} : d + 7 - 1 = d + 6 := rfl
theorem pd_8 {d : Nat} : d + 8 - 1 = d + 7 := rfl
theorem pd_9 {d : Nat} : d + 9 - 1 = d + 8 := rfl
theorem pd_10 {d : Nat} : d + 10 - 1 = d + 9 := rfl
theorem pd_11 {d : Nat} : d + 11 - 1 = d + 10 := rfl
theorem pd_12 {d : Nat} : d + 12 - 1 = d + 11 := rfl
theorem pd_13 {d : Nat} : d + 13 - 1 = d + 12 := rfl
theorem pd_14 {d : Nat} : d + 14 - 1 = d + 13 := rfl
theorem pd_15 {d : Nat} : d + 15 - 1 = d + 14 := rfl
theorem pd_16 {d : Nat} : d + 16 - 1 = d + 15 := rfl
theorem pd_17 {d : Nat} : d + 17 - 1 = d + 16 := rfl
theorem pd_18 {d : Nat} : d + 18 - 1 = d + 17 := rfl
theorem pd_19 {d : Nat} : d + 19 - 1 = d + 18 := rfl
theorem pd_20 {d : Nat} : d + 20 - 1 = d + 19 := rfl
theorem pd_21 {d : Nat} : d + 21 - 1 = d + 20 := rfl
theorem pd_22 {d : Nat} : d + 22 - 1 = d + 21 := rfl
theorem pd_23 {d : Nat} : d + 23 - 1 = d + 22 := rfl
theorem pd_24 {d : Nat} : d + 24 - 1 = d + 23 := rfl
theorem pp_1 {d : Nat} : 0 < d + 1 := Nat.succ_pos _
theorem pp_2 {d : Nat} : 0 < d + 2 := Nat.succ_pos _
theorem pp_3 {d : Nat} : 0 < d + 3 := Nat.succ_pos _
theorem pp_4 {d : Nat} : 0 < d + 4 := Nat.succ_pos _
theorem pp_5 {d : Nat} : 0 < d + 5 := Nat.succ_pos _
theorem pp_6 {d : Nat} : 0 < d + 6 := Nat.succ_pos _
theorem pp_7 {d : Nat} : 0 < d + 7 := Nat.succ_pos _
theorem pp_8 {d : Nat} : 0 < d + 8 := Nat.succ_pos _
theorem pp_9 {d : Nat} : 0 < d + 9 := Nat.succ_pos _
theorem pp_10 {d : Nat} : 0 < d + 10 := Nat.succ_pos _
theorem pp_11 {d : Nat} : 0 < d + 11 := Nat.succ_pos _
theorem pp_12 {d : Nat} : 0 < d + 12 := Nat.succ_pos _
theorem pp_13 {d : Nat} : 0 < d + 13 := Nat.succ_pos _
theorem pp_14 {d : Nat} : 0 < d + 14 := Nat.succ_pos _
theorem pp_15 {d : Nat} : 0 < d + 15 := Nat.succ_pos _
theorem pp_16 {d : Nat} : 0 < d + 16 := Nat.succ_pos _
theorem pp_17 {d : Nat} : 0 < d + 17 := Nat.succ_pos _
theorem pp_18 {d : Nat} : 0 < d + 18 := Nat.succ_pos _
theorem pp_19 {d : Nat} : 0 < d + 19 := Nat.succ_pos _
theorem pp_20 {d : Nat} : 0 < d + 20 := Nat.succ_pos _
theorem pp_21 {d : Nat} : 0 < d + 21 := Nat.succ_pos _
theorem pp_22 {d : Nat} : 0 < d + 22 := Nat.succ_pos _
theorem pp_23 {d : Nat} : 0 < d + 23 := Nat.succ_pos _
theorem pp_24 {d : Nat} : 0 < d + 24 := Nat.succ_pos _
theorem pq_1 {d : Nat} : 1 ≤ d + 1 := Nat.succ_pos _
theorem pq_2 {d : Nat} : 1 ≤ d + 2 := Nat.succ_pos _
theorem pq_3 {d : Nat} : 1 ≤ d + 3 := Nat.succ_pos _
theorem pq_4 {d : Nat} : 1 ≤ d + 4 := Nat.succ_pos _
theorem pq_5 {d : Nat} : 1 ≤ d + 5 := Nat.succ_pos _
theorem pq_6 {d : Nat} : 1 ≤ d + 6 := Nat.succ_pos _
theorem pq_7 {d : Nat} : 1 ≤ d + 7 := Nat.succ_pos _
theorem pq_8 {d : Nat} : 1 ≤ d + 8 := Nat.succ_pos _
theorem pq_9 {d : Nat} : 1 ≤ d + 9 := Nat.succ_pos _
theorem pq_10 {d : Nat} : 1 ≤ d + 10 := Nat.succ_pos _
theorem pq_11 {d : Nat} : 1 ≤ d + 11 := Nat.succ_pos _
theorem pq_12 {d : Nat} : 1 ≤ d + 12 := Nat.succ_pos _
theorem pq_13 {d : Nat} : 1 ≤ d + 13 := Nat.succ_pos _
theorem pq_14 {d : Nat} : 1 ≤ d + 14 := Nat.succ_pos _
theorem pq_15 {d : Nat} : 1 ≤ d + 15 := Nat.succ_pos _
theorem pq_16 {d : Nat} : 1 ≤ d + 16 := Nat.succ_pos _
theorem pq_17 {d : Nat} : 1 ≤ d + 17 := Nat.succ_pos _
theorem pq_18 {d : Nat} : 1 ≤ d + 18 := Nat.succ_pos _
theorem pq_19 {d : Nat} : 1 ≤ d + 19 := Nat.succ_pos _
theorem pq_20 {d : Nat} : 1 ≤ d + 20 := Nat.succ_pos _
theorem pq_21 {d : Nat} : 1 ≤ d + 21 := Nat.succ_pos _
theorem pq_22 {d : Nat} : 1 ≤ d + 22 := Nat.succ_pos _
theorem pq_23 {d : Nat} : 1 ≤ d + 23 := Nat.succ_pos _
theorem pq_24 {d : Nat} : 1 ≤ d + 24 := Nat.succ_pos _
theorem nI_k2 (a : Nat) : nI a + 2 = nI (a + 2) := by rw [show (2 : Int32) = nI 2 from rfl, nI_add]
theorem nI_k3 (a : Nat) : nI a + 3 = nI (a + 3) := by rw [show (3 : Int32) = nI 3 from rfl, nI_add]
theorem nI_k4 (a : Nat) : nI a + 4 = nI (a + 4) := by rw [show (4 : Int32) = nI 4 from rfl, nI_add]
theorem nI_k5 (a : Nat) : nI a + 5 = nI (a + 5) := by rw [show (5 : Int32) = nI 5 from rfl, nI_add]
theorem nI_k6 (a : Nat) : nI a + 6 = nI (a + 6) := by rw [show (6 : Int32) = nI 6 from rfl, nI_add]
theorem nI_k7 (a : Nat) : nI a + 7 = nI (a + 7) := by rw [show (7 : Int32) = nI 7 from rfl, nI_add]
theorem lg_self (a : Int64) : lg_cmp a a = 0 := (lg_cmp_eq a a).mpr rfl
