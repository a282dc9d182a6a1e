/-! the small machine's equations, one an instruction -/
def ldI (o : Option (Option Value)) (K : Int32 → Prop) : Prop := match o with | some (some (.int x)) => K x | _ => False
def ldJ (o : Option (Option Value)) (K : Int64 → Prop) : Prop := match o with | some (some (.long x)) => K x | _ => False
def ldA (o : Option (Option Value)) (K : Value → Prop) : Prop := match o with | some (some (.ref a)) => K (.ref a) | some (some .null) => K .null | _ => False
theorem ldI_s {x : Int32} {K : Int32 → Prop} : ldI (some (some (.int x))) K = K x := rfl
theorem ldJ_s {x : Int64} {K : Int64 → Prop} : ldJ (some (some (.long x))) K = K x := rfl
theorem ldA_r {x : Nat} {K : Value → Prop} : ldA (some (some (.ref x))) K = K (.ref x) := rfl
theorem ldA_n {K : Value → Prop} : ldA (some (some .null)) K = K .null := rfl
theorem ob_s {α : Type} {x : α} {K : α → Prop} : ob (some x) K = K x := rfl
section EQ
variable {G : aG} {d : Nat} {M : aM} {pc : Nat} {ls : aL} {st : List Value} {h : aH} {Q : aQ}
theorem e_of {i : Instr} {n : Nat} {P : Prop} (hd : decode M.2.2.1 pc = .ok (i, n)) (hn : n = ilen i n) (hp : stpA G d (fun M' As h' Q' => 0 < d ∧ Rn G (d - 1) M' 0 (eL M'.2.2.2.1 As) [] h' Q') M (fun pc ls st h => Rn G d M pc ls st h Q) Q i n pc ls st h = P) : Rn G d M pc ls st h Q = P := by
  rw [Rn_eq]
  unfold FX
  rw [hd, ← hp]
  exact propext ⟨fun h => h.2, fun h => ⟨hn, h⟩⟩
theorem e_aload_n {j : Fin 4} (hd : decode M.2.2.1 pc = .ok (.aload_n j, 1)) : Rn G d M pc ls st h Q = (ldA ls[j.val]? fun v => Rn G d M (pc + 1) ls (v :: st) h Q) := e_of hd rfl (by
  show (match ls[j.val]? with | some (some (.ref a)) => Rn G d M (pc + 1) ls (.ref a :: st) h Q | some (some .null) => Rn G d M (pc + 1) ls (.null :: st) h Q | _ => False) = _
  unfold ldA
  split <;> rfl)
theorem e_aload {j : Nat} (hd : decode M.2.2.1 pc = .ok (.aload j, 2)) : Rn G d M pc ls st h Q = (ldA ls[j]? fun v => Rn G d M (pc + 2) ls (v :: st) h Q) := e_of hd rfl (by
  show (match ls[j]? with | some (some (.ref a)) => Rn G d M (pc + 2) ls (.ref a :: st) h Q | some (some .null) => Rn G d M (pc + 2) ls (.null :: st) h Q | _ => False) = _
  unfold ldA
  split <;> rfl)
theorem e_iload_n {j : Fin 4} (hd : decode M.2.2.1 pc = .ok (.iload_n j, 1)) : Rn G d M pc ls st h Q = (ldI ls[j.val]? fun v => Rn G d M (pc + 1) ls (.int v :: st) h Q) := e_of hd rfl (by
  show (match ls[j.val]? with | some (some (.int x)) => Rn G d M (pc + 1) ls (.int x :: st) h Q | _ => False) = _
  unfold ldI
  split <;> rfl)
theorem e_iload {j : Nat} (hd : decode M.2.2.1 pc = .ok (.iload j, 2)) : Rn G d M pc ls st h Q = (ldI ls[j]? fun v => Rn G d M (pc + 2) ls (.int v :: st) h Q) := e_of hd rfl (by
  show (match ls[j]? with | some (some (.int x)) => Rn G d M (pc + 2) ls (.int x :: st) h Q | _ => False) = _
  unfold ldI
  split <;> rfl)
theorem e_lload_n {j : Fin 4} (hd : decode M.2.2.1 pc = .ok (.lload_n j, 1)) : Rn G d M pc ls st h Q = (ldJ ls[j.val]? fun v => Rn G d M (pc + 1) ls (.long v :: st) h Q) := e_of hd rfl (by
  show (match ls[j.val]? with | some (some (.long x)) => Rn G d M (pc + 1) ls (.long x :: st) h Q | _ => False) = _
  unfold ldJ
  split <;> rfl)
theorem e_lload {j : Nat} (hd : decode M.2.2.1 pc = .ok (.lload j, 2)) : Rn G d M pc ls st h Q = (ldJ ls[j]? fun v => Rn G d M (pc + 2) ls (.long v :: st) h Q) := e_of hd rfl (by
  show (match ls[j]? with | some (some (.long x)) => Rn G d M (pc + 2) ls (.long x :: st) h Q | _ => False) = _
  unfold ldJ
  split <;> rfl)
theorem e_istore_n {j : Fin 4} {x : Int32} (hd : decode M.2.2.1 pc = .ok (.istore_n j, 1)) : Rn G d M pc ls (.int x :: st) h Q = (j.val < ls.length ∧ Rn G d M (pc + 1) (stL ls j.val (.int x)) st h Q) := e_of hd rfl (rfl)
theorem e_istore {j : Nat} {x : Int32} (hd : decode M.2.2.1 pc = .ok (.istore j, 2)) : Rn G d M pc ls (.int x :: st) h Q = (j < ls.length ∧ Rn G d M (pc + 2) (stL ls j (.int x)) st h Q) := e_of hd rfl (rfl)
theorem e_lstore_n {j : Fin 4} {x : Int64} (hd : decode M.2.2.1 pc = .ok (.lstore_n j, 1)) : Rn G d M pc ls (.long x :: st) h Q = (j.val + 1 < ls.length ∧ Rn G d M (pc + 1) (stL2 ls j.val (.long x)) st h Q) := e_of hd rfl (rfl)
theorem e_lstore {j : Nat} {x : Int64} (hd : decode M.2.2.1 pc = .ok (.lstore j, 2)) : Rn G d M pc ls (.long x :: st) h Q = (j + 1 < ls.length ∧ Rn G d M (pc + 2) (stL2 ls j (.long x)) st h Q) := e_of hd rfl (rfl)
theorem e_astore_n_r {j : Fin 4} {x : Nat} (hd : decode M.2.2.1 pc = .ok (.astore_n j, 1)) : Rn G d M pc ls (.ref x :: st) h Q = (j.val < ls.length ∧ Rn G d M (pc + 1) (stL ls j.val (.ref x)) st h Q) := e_of hd rfl (rfl)
theorem e_astore_n_0 {j : Fin 4} (hd : decode M.2.2.1 pc = .ok (.astore_n j, 1)) : Rn G d M pc ls (.null :: st) h Q = (j.val < ls.length ∧ Rn G d M (pc + 1) (stL ls j.val .null) st h Q) := e_of hd rfl (rfl)
theorem e_astore_r {j : Nat} {x : Nat} (hd : decode M.2.2.1 pc = .ok (.astore j, 2)) : Rn G d M pc ls (.ref x :: st) h Q = (j < ls.length ∧ Rn G d M (pc + 2) (stL ls j (.ref x)) st h Q) := e_of hd rfl (rfl)
theorem e_astore_0 {j : Nat} (hd : decode M.2.2.1 pc = .ok (.astore j, 2)) : Rn G d M pc ls (.null :: st) h Q = (j < ls.length ∧ Rn G d M (pc + 2) (stL ls j .null) st h Q) := e_of hd rfl (rfl)
theorem e_iinc {j : Nat} {c : Int} (hd : decode M.2.2.1 pc = .ok (.iinc j c, 3)) : Rn G d M pc ls st h Q = (ldI ls[j]? fun x => Rn G d M (pc + 3) (stL ls j (.int (x + Int32.ofInt c))) st h Q) := e_of hd rfl (by
  show (match ls[j]? with | some (some (.int x)) => Rn G d M (pc + 3) (stL ls j (.int (x + Int32.ofInt c))) st h Q | _ => False) = _
  unfold ldI
  split <;> rfl)
theorem e_iconst {c : Int} (hd : decode M.2.2.1 pc = .ok (.iconst c, 1)) : Rn G d M pc ls st h Q = (Rn G d M (pc + 1) ls (.int (Int32.ofInt c) :: st) h Q) := e_of hd rfl (rfl)
theorem e_bipush {c : Int} (hd : decode M.2.2.1 pc = .ok (.bipush c, 2)) : Rn G d M pc ls st h Q = (Rn G d M (pc + 2) ls (.int (Int8.ofInt c).toInt32 :: st) h Q) := e_of hd rfl (rfl)
theorem e_sipush {c : Int} (hd : decode M.2.2.1 pc = .ok (.sipush c, 3)) : Rn G d M pc ls st h Q = (Rn G d M (pc + 3) ls (.int (Int16.ofInt c).toInt32 :: st) h Q) := e_of hd rfl (rfl)
theorem e_lconst {c : Fin 2} (hd : decode M.2.2.1 pc = .ok (.lconst c, 1)) : Rn G d M pc ls st h Q = (Rn G d M (pc + 1) ls (.long (Int64.ofNat c.val) :: st) h Q) := e_of hd rfl (rfl)
theorem e_aconst_null  (hd : decode M.2.2.1 pc = .ok (.aconst_null, 1)) : Rn G d M pc ls st h Q = (Rn G d M (pc + 1) ls (.null :: st) h Q) := e_of hd rfl (rfl)
theorem e_ldcK {idx : Nat} {v : Int32} (hd : decode M.2.2.1 pc = .ok (.ldc idx, 2)) (hv : (pK M.1).lookup idx = some v) : Rn G d M pc ls st h Q = Rn G d M (pc + 2) ls (.int v :: st) h Q := e_of hd rfl (by
  show (match (pK M.1).lookup idx with | some v => Rn G d M (pc + 2) ls (.int v :: st) h Q | none => _) = _
  rw [hv])
theorem e_ldcT {idx s : Nat} (hd : decode M.2.2.1 pc = .ok (.ldc idx, 2)) (hv : (pK M.1).lookup idx = none) (hs : (pT M.1).lookup idx = some s) : Rn G d M pc ls st h Q = Rn G d M (pc + 2) ls (.ref (G.2.2 s) :: st) h Q := e_of hd rfl (by
  show (match (pK M.1).lookup idx with | some v => Rn G d M (pc + 2) ls (.int v :: st) h Q | none => ob ((pT M.1).lookup idx) fun s => Rn G d M (pc + 2) ls (.ref (G.2.2 s) :: st) h Q) = _
  rw [hv, hs]
  rfl)
theorem e_ldc_w {idx : Nat} {v : Int32} (hd : decode M.2.2.1 pc = .ok (.ldc_w idx, 3)) (hv : (pK M.1).lookup idx = some v) : Rn G d M pc ls st h Q = Rn G d M (pc + 3) ls (.int v :: st) h Q := e_of hd rfl (by
  show (match (pK M.1).lookup idx with | some v => Rn G d M (pc + 3) ls (.int v :: st) h Q | none => _) = _
  rw [hv])
theorem e_ldc_wT {idx s : Nat} (hd : decode M.2.2.1 pc = .ok (.ldc_w idx, 3)) (hv : (pK M.1).lookup idx = none) (hs : (pT M.1).lookup idx = some s) : Rn G d M pc ls st h Q = Rn G d M (pc + 3) ls (.ref (G.2.2 s) :: st) h Q := e_of hd rfl (by
  show (match (pK M.1).lookup idx with | some v => Rn G d M (pc + 3) ls (.int v :: st) h Q | none => ob ((pT M.1).lookup idx) fun s => Rn G d M (pc + 3) ls (.ref (G.2.2 s) :: st) h Q) = _
  rw [hv, hs]
  rfl)
theorem e_ldc2_w {idx : Nat} {v : Int64} (hd : decode M.2.2.1 pc = .ok (.ldc2_w idx, 3)) (hv : (pJ M.1).lookup idx = some v) : Rn G d M pc ls st h Q = Rn G d M (pc + 3) ls (.long v :: st) h Q := e_of hd rfl (by
  show (ob ((pJ M.1).lookup idx) fun v => Rn G d M (pc + 3) ls (.long v :: st) h Q) = _
  rw [hv]
  rfl)
theorem e_dup {v : Value} (hd : decode M.2.2.1 pc = .ok (.dup, 1)) : Rn G d M pc ls (v :: st) h Q = (v.category = 1 ∧ Rn G d M (pc + 1) ls (v :: v :: st) h Q) := e_of hd rfl (rfl)
theorem e_dup2 {v w : Value} (hd : decode M.2.2.1 pc = .ok (.dup2, 1)) : Rn G d M pc ls (v :: w :: st) h Q = (v.category = 1 ∧ w.category = 1 ∧ Rn G d M (pc + 1) ls (v :: w :: v :: w :: st) h Q) := e_of hd rfl (rfl)
theorem e_pop {v : Value} (hd : decode M.2.2.1 pc = .ok (.pop, 1)) : Rn G d M pc ls (v :: st) h Q = (v.category = 1 ∧ Rn G d M (pc + 1) ls st h Q) := e_of hd rfl (rfl)
theorem e_iadd {x y : Int32} (hd : decode M.2.2.1 pc = .ok (.iadd, 1)) : Rn G d M pc ls (.int y :: .int x :: st) h Q = (Rn G d M (pc + 1) ls (.int (x + y) :: st) h Q) := e_of hd rfl (rfl)
theorem e_isub {x y : Int32} (hd : decode M.2.2.1 pc = .ok (.isub, 1)) : Rn G d M pc ls (.int y :: .int x :: st) h Q = (Rn G d M (pc + 1) ls (.int (x - y) :: st) h Q) := e_of hd rfl (rfl)
theorem e_imul {x y : Int32} (hd : decode M.2.2.1 pc = .ok (.imul, 1)) : Rn G d M pc ls (.int y :: .int x :: st) h Q = (Rn G d M (pc + 1) ls (.int (x * y) :: st) h Q) := e_of hd rfl (rfl)
theorem e_iand {x y : Int32} (hd : decode M.2.2.1 pc = .ok (.iand, 1)) : Rn G d M pc ls (.int y :: .int x :: st) h Q = (Rn G d M (pc + 1) ls (.int (x &&& y) :: st) h Q) := e_of hd rfl (rfl)
theorem e_ior {x y : Int32} (hd : decode M.2.2.1 pc = .ok (.ior, 1)) : Rn G d M pc ls (.int y :: .int x :: st) h Q = (Rn G d M (pc + 1) ls (.int (x ||| y) :: st) h Q) := e_of hd rfl (rfl)
theorem e_ixor {x y : Int32} (hd : decode M.2.2.1 pc = .ok (.ixor, 1)) : Rn G d M pc ls (.int y :: .int x :: st) h Q = (Rn G d M (pc + 1) ls (.int (x ^^^ y) :: st) h Q) := e_of hd rfl (rfl)
theorem e_ishl {x y : Int32} (hd : decode M.2.2.1 pc = .ok (.ishl, 1)) : Rn G d M pc ls (.int y :: .int x :: st) h Q = (Rn G d M (pc + 1) ls (.int (x <<< (y &&& 31)) :: st) h Q) := e_of hd rfl (rfl)
theorem e_ishr {x y : Int32} (hd : decode M.2.2.1 pc = .ok (.ishr, 1)) : Rn G d M pc ls (.int y :: .int x :: st) h Q = (Rn G d M (pc + 1) ls (.int (x >>> (y &&& 31)) :: st) h Q) := e_of hd rfl (rfl)
theorem e_iushr {x y : Int32} (hd : decode M.2.2.1 pc = .ok (.iushr, 1)) : Rn G d M pc ls (.int y :: .int x :: st) h Q = (Rn G d M (pc + 1) ls (.int ((x.toUInt32 >>> (y.toUInt32 &&& Int32.toUInt32 31)).toInt32) :: st) h Q) := e_of hd rfl (rfl)
theorem e_idiv {x y : Int32} (hd : decode M.2.2.1 pc = .ok (.idiv, 1)) : Rn G d M pc ls (.int y :: .int x :: st) h Q = (¬ y = 0 ∧ Rn G d M (pc + 1) ls (.int (x / y) :: st) h Q) := e_of hd rfl (rfl)
theorem e_irem {x y : Int32} (hd : decode M.2.2.1 pc = .ok (.irem, 1)) : Rn G d M pc ls (.int y :: .int x :: st) h Q = (¬ y = 0 ∧ Rn G d M (pc + 1) ls (.int (x - x / y * y) :: st) h Q) := e_of hd rfl (rfl)
theorem e_ineg {x : Int32} (hd : decode M.2.2.1 pc = .ok (.ineg, 1)) : Rn G d M pc ls (.int x :: st) h Q = (Rn G d M (pc + 1) ls (.int (-x) :: st) h Q) := e_of hd rfl (rfl)
theorem e_ladd {x y : Int64} (hd : decode M.2.2.1 pc = .ok (.ladd, 1)) : Rn G d M pc ls (.long y :: .long x :: st) h Q = (Rn G d M (pc + 1) ls (.long (x + y) :: st) h Q) := e_of hd rfl (rfl)
theorem e_lsub {x y : Int64} (hd : decode M.2.2.1 pc = .ok (.lsub, 1)) : Rn G d M pc ls (.long y :: .long x :: st) h Q = (Rn G d M (pc + 1) ls (.long (x - y) :: st) h Q) := e_of hd rfl (rfl)
theorem e_lmul {x y : Int64} (hd : decode M.2.2.1 pc = .ok (.lmul, 1)) : Rn G d M pc ls (.long y :: .long x :: st) h Q = (Rn G d M (pc + 1) ls (.long (x * y) :: st) h Q) := e_of hd rfl (rfl)
theorem e_land {x y : Int64} (hd : decode M.2.2.1 pc = .ok (.land, 1)) : Rn G d M pc ls (.long y :: .long x :: st) h Q = (Rn G d M (pc + 1) ls (.long (x &&& y) :: st) h Q) := e_of hd rfl (rfl)
theorem e_lor {x y : Int64} (hd : decode M.2.2.1 pc = .ok (.lor, 1)) : Rn G d M pc ls (.long y :: .long x :: st) h Q = (Rn G d M (pc + 1) ls (.long (x ||| y) :: st) h Q) := e_of hd rfl (rfl)
theorem e_lxor {x y : Int64} (hd : decode M.2.2.1 pc = .ok (.lxor, 1)) : Rn G d M pc ls (.long y :: .long x :: st) h Q = (Rn G d M (pc + 1) ls (.long (x ^^^ y) :: st) h Q) := e_of hd rfl (rfl)
theorem e_ldiv {x y : Int64} (hd : decode M.2.2.1 pc = .ok (.ldiv, 1)) : Rn G d M pc ls (.long y :: .long x :: st) h Q = (¬ y = 0 ∧ Rn G d M (pc + 1) ls (.long (x / y) :: st) h Q) := e_of hd rfl (rfl)
theorem e_lrem {x y : Int64} (hd : decode M.2.2.1 pc = .ok (.lrem, 1)) : Rn G d M pc ls (.long y :: .long x :: st) h Q = (¬ y = 0 ∧ Rn G d M (pc + 1) ls (.long (x - x / y * y) :: st) h Q) := e_of hd rfl (rfl)
theorem e_lneg {x : Int64} (hd : decode M.2.2.1 pc = .ok (.lneg, 1)) : Rn G d M pc ls (.long x :: st) h Q = (Rn G d M (pc + 1) ls (.long (-x) :: st) h Q) := e_of hd rfl (rfl)
theorem e_lcmp {x y : Int64} (hd : decode M.2.2.1 pc = .ok (.lcmp, 1)) : Rn G d M pc ls (.long y :: .long x :: st) h Q = (Rn G d M (pc + 1) ls (.int (lg_cmp x y) :: st) h Q) := e_of hd rfl (rfl)
theorem e_i2l {x : Int32} (hd : decode M.2.2.1 pc = .ok (.i2l, 1)) : Rn G d M pc ls (.int x :: st) h Q = (Rn G d M (pc + 1) ls (.long x.toInt64 :: st) h Q) := e_of hd rfl (rfl)
theorem e_l2i {x : Int64} (hd : decode M.2.2.1 pc = .ok (.l2i, 1)) : Rn G d M pc ls (.long x :: st) h Q = (Rn G d M (pc + 1) ls (.int x.toInt32 :: st) h Q) := e_of hd rfl (rfl)
theorem e_i2b {x : Int32} (hd : decode M.2.2.1 pc = .ok (.i2b, 1)) : Rn G d M pc ls (.int x :: st) h Q = (Rn G d M (pc + 1) ls (.int x.toInt8.toInt32 :: st) h Q) := e_of hd rfl (rfl)
theorem e_i2s {x : Int32} (hd : decode M.2.2.1 pc = .ok (.i2s, 1)) : Rn G d M pc ls (.int x :: st) h Q = (Rn G d M (pc + 1) ls (.int x.toInt16.toInt32 :: st) h Q) := e_of hd rfl (rfl)
theorem e_if_eq {off : Int} {t : Nat} {x : Int32} (hd : decode M.2.2.1 pc = .ok (.ifCond .eq off, 3)) (ht : (pc : Int) + off = (t : Int)) : Rn G d M pc ls (.int x :: st) h Q = (if x = 0 then Rn G d M t ls st h Q else Rn G d M (pc + 3) ls st h Q) := e_of hd rfl (by
  show braT (fun pc ls st h => Rn G d M pc ls st h Q) (x = 0) pc off ls st h = _
  have e : tgt pc off = t := by unfold tgt; rw [ht]; rfl
  unfold braT
  rw [e, ht]
  exact propext ⟨fun h => h.2, fun h => ⟨Int.natCast_nonneg t, h⟩⟩)
theorem e_if_ne {off : Int} {t : Nat} {x : Int32} (hd : decode M.2.2.1 pc = .ok (.ifCond .ne off, 3)) (ht : (pc : Int) + off = (t : Int)) : Rn G d M pc ls (.int x :: st) h Q = (if x = 0 then Rn G d M (pc + 3) ls st h Q else Rn G d M t ls st h Q) := e_of hd rfl (by
  show braF (fun pc ls st h => Rn G d M pc ls st h Q) (x = 0) pc off ls st h = _
  have e : tgt pc off = t := by unfold tgt; rw [ht]; rfl
  unfold braF
  rw [e, ht]
  exact propext ⟨fun h => h.2, fun h => ⟨Int.natCast_nonneg t, h⟩⟩)
theorem e_if_lt {off : Int} {t : Nat} {x : Int32} (hd : decode M.2.2.1 pc = .ok (.ifCond .lt off, 3)) (ht : (pc : Int) + off = (t : Int)) : Rn G d M pc ls (.int x :: st) h Q = (if x < 0 then Rn G d M t ls st h Q else Rn G d M (pc + 3) ls st h Q) := e_of hd rfl (by
  show braT (fun pc ls st h => Rn G d M pc ls st h Q) (x < 0) pc off ls st h = _
  have e : tgt pc off = t := by unfold tgt; rw [ht]; rfl
  unfold braT
  rw [e, ht]
  exact propext ⟨fun h => h.2, fun h => ⟨Int.natCast_nonneg t, h⟩⟩)
theorem e_if_ge {off : Int} {t : Nat} {x : Int32} (hd : decode M.2.2.1 pc = .ok (.ifCond .ge off, 3)) (ht : (pc : Int) + off = (t : Int)) : Rn G d M pc ls (.int x :: st) h Q = (if 0 ≤ x then Rn G d M t ls st h Q else Rn G d M (pc + 3) ls st h Q) := e_of hd rfl (by
  show braT (fun pc ls st h => Rn G d M pc ls st h Q) (0 ≤ x) pc off ls st h = _
  have e : tgt pc off = t := by unfold tgt; rw [ht]; rfl
  unfold braT
  rw [e, ht]
  exact propext ⟨fun h => h.2, fun h => ⟨Int.natCast_nonneg t, h⟩⟩)
theorem e_if_gt {off : Int} {t : Nat} {x : Int32} (hd : decode M.2.2.1 pc = .ok (.ifCond .gt off, 3)) (ht : (pc : Int) + off = (t : Int)) : Rn G d M pc ls (.int x :: st) h Q = (if 0 < x then Rn G d M t ls st h Q else Rn G d M (pc + 3) ls st h Q) := e_of hd rfl (by
  show braT (fun pc ls st h => Rn G d M pc ls st h Q) (0 < x) pc off ls st h = _
  have e : tgt pc off = t := by unfold tgt; rw [ht]; rfl
  unfold braT
  rw [e, ht]
  exact propext ⟨fun h => h.2, fun h => ⟨Int.natCast_nonneg t, h⟩⟩)
theorem e_if_le {off : Int} {t : Nat} {x : Int32} (hd : decode M.2.2.1 pc = .ok (.ifCond .le off, 3)) (ht : (pc : Int) + off = (t : Int)) : Rn G d M pc ls (.int x :: st) h Q = (if x ≤ 0 then Rn G d M t ls st h Q else Rn G d M (pc + 3) ls st h Q) := e_of hd rfl (by
  show braT (fun pc ls st h => Rn G d M pc ls st h Q) (x ≤ 0) pc off ls st h = _
  have e : tgt pc off = t := by unfold tgt; rw [ht]; rfl
  unfold braT
  rw [e, ht]
  exact propext ⟨fun h => h.2, fun h => ⟨Int.natCast_nonneg t, h⟩⟩)
theorem e_icmp_eq {off : Int} {t : Nat} {x y : Int32} (hd : decode M.2.2.1 pc = .ok (.if_icmp .eq off, 3)) (ht : (pc : Int) + off = (t : Int)) : Rn G d M pc ls (.int y :: .int x :: st) h Q = (if x = y then Rn G d M t ls st h Q else Rn G d M (pc + 3) ls st h Q) := e_of hd rfl (by
  show braT (fun pc ls st h => Rn G d M pc ls st h Q) (x = y) pc off ls st h = _
  have e : tgt pc off = t := by unfold tgt; rw [ht]; rfl
  unfold braT
  rw [e, ht]
  exact propext ⟨fun h => h.2, fun h => ⟨Int.natCast_nonneg t, h⟩⟩)
theorem e_icmp_ne {off : Int} {t : Nat} {x y : Int32} (hd : decode M.2.2.1 pc = .ok (.if_icmp .ne off, 3)) (ht : (pc : Int) + off = (t : Int)) : Rn G d M pc ls (.int y :: .int x :: st) h Q = (if x = y then Rn G d M (pc + 3) ls st h Q else Rn G d M t ls st h Q) := e_of hd rfl (by
  show braF (fun pc ls st h => Rn G d M pc ls st h Q) (x = y) pc off ls st h = _
  have e : tgt pc off = t := by unfold tgt; rw [ht]; rfl
  unfold braF
  rw [e, ht]
  exact propext ⟨fun h => h.2, fun h => ⟨Int.natCast_nonneg t, h⟩⟩)
theorem e_icmp_lt {off : Int} {t : Nat} {x y : Int32} (hd : decode M.2.2.1 pc = .ok (.if_icmp .lt off, 3)) (ht : (pc : Int) + off = (t : Int)) : Rn G d M pc ls (.int y :: .int x :: st) h Q = (if x < y then Rn G d M t ls st h Q else Rn G d M (pc + 3) ls st h Q) := e_of hd rfl (by
  show braT (fun pc ls st h => Rn G d M pc ls st h Q) (x < y) pc off ls st h = _
  have e : tgt pc off = t := by unfold tgt; rw [ht]; rfl
  unfold braT
  rw [e, ht]
  exact propext ⟨fun h => h.2, fun h => ⟨Int.natCast_nonneg t, h⟩⟩)
theorem e_icmp_ge {off : Int} {t : Nat} {x y : Int32} (hd : decode M.2.2.1 pc = .ok (.if_icmp .ge off, 3)) (ht : (pc : Int) + off = (t : Int)) : Rn G d M pc ls (.int y :: .int x :: st) h Q = (if y ≤ x then Rn G d M t ls st h Q else Rn G d M (pc + 3) ls st h Q) := e_of hd rfl (by
  show braT (fun pc ls st h => Rn G d M pc ls st h Q) (y ≤ x) pc off ls st h = _
  have e : tgt pc off = t := by unfold tgt; rw [ht]; rfl
  unfold braT
  rw [e, ht]
  exact propext ⟨fun h => h.2, fun h => ⟨Int.natCast_nonneg t, h⟩⟩)
theorem e_icmp_gt {off : Int} {t : Nat} {x y : Int32} (hd : decode M.2.2.1 pc = .ok (.if_icmp .gt off, 3)) (ht : (pc : Int) + off = (t : Int)) : Rn G d M pc ls (.int y :: .int x :: st) h Q = (if y < x then Rn G d M t ls st h Q else Rn G d M (pc + 3) ls st h Q) := e_of hd rfl (by
  show braT (fun pc ls st h => Rn G d M pc ls st h Q) (y < x) pc off ls st h = _
  have e : tgt pc off = t := by unfold tgt; rw [ht]; rfl
  unfold braT
  rw [e, ht]
  exact propext ⟨fun h => h.2, fun h => ⟨Int.natCast_nonneg t, h⟩⟩)
theorem e_icmp_le {off : Int} {t : Nat} {x y : Int32} (hd : decode M.2.2.1 pc = .ok (.if_icmp .le off, 3)) (ht : (pc : Int) + off = (t : Int)) : Rn G d M pc ls (.int y :: .int x :: st) h Q = (if x ≤ y then Rn G d M t ls st h Q else Rn G d M (pc + 3) ls st h Q) := e_of hd rfl (by
  show braT (fun pc ls st h => Rn G d M pc ls st h Q) (x ≤ y) pc off ls st h = _
  have e : tgt pc off = t := by unfold tgt; rw [ht]; rfl
  unfold braT
  rw [e, ht]
  exact propext ⟨fun h => h.2, fun h => ⟨Int.natCast_nonneg t, h⟩⟩)
theorem e_goto {off : Int} {t : Nat}  (hd : decode M.2.2.1 pc = .ok (.goto off, 3)) (ht : (pc : Int) + off = (t : Int)) : Rn G d M pc ls st h Q = Rn G d M t ls st h Q := e_of hd rfl (by
  show jmp (fun pc ls st h => Rn G d M pc ls st h Q) pc off ls st h = _
  have e : tgt pc off = t := by unfold tgt; rw [ht]; rfl
  unfold jmp
  rw [e, ht]
  exact propext ⟨fun h => h.2, fun h => ⟨Int.natCast_nonneg t, h⟩⟩)
theorem e_ifnull_0 {off : Int} {t : Nat}  (hd : decode M.2.2.1 pc = .ok (.ifnull off, 3)) (ht : (pc : Int) + off = (t : Int)) : Rn G d M pc ls (.null :: st) h Q = Rn G d M t ls st h Q := e_of hd rfl (by
  show jmp (fun pc ls st h => Rn G d M pc ls st h Q) pc off ls st h = _
  have e : tgt pc off = t := by unfold tgt; rw [ht]; rfl
  unfold jmp
  rw [e, ht]
  exact propext ⟨fun h => h.2, fun h => ⟨Int.natCast_nonneg t, h⟩⟩)
theorem e_ifnonnull_r {off : Int} {t : Nat} {a : Nat} (hd : decode M.2.2.1 pc = .ok (.ifnonnull off, 3)) (ht : (pc : Int) + off = (t : Int)) : Rn G d M pc ls (.ref a :: st) h Q = Rn G d M t ls st h Q := e_of hd rfl (by
  show jmp (fun pc ls st h => Rn G d M pc ls st h Q) pc off ls st h = _
  have e : tgt pc off = t := by unfold tgt; rw [ht]; rfl
  unfold jmp
  rw [e, ht]
  exact propext ⟨fun h => h.2, fun h => ⟨Int.natCast_nonneg t, h⟩⟩)
theorem e_ifnull_r {a : Nat} {off : Int} (hd : decode M.2.2.1 pc = .ok (.ifnull off, 3)) : Rn G d M pc ls (.ref a :: st) h Q = (Rn G d M (pc + 3) ls st h Q) := e_of hd rfl (rfl)
theorem e_ifnonnull_0 {off : Int} (hd : decode M.2.2.1 pc = .ok (.ifnonnull off, 3)) : Rn G d M pc ls (.null :: st) h Q = (Rn G d M (pc + 3) ls st h Q) := e_of hd rfl (rfl)
theorem e_table {df lo hi : Int} {offs : Array Int} {n : Nat} {x : Int32} (hd : decode M.2.2.1 pc = .ok (.tableswitch df lo hi offs, n)) : Rn G d M pc ls (.int x :: st) h Q = (if x.toInt < lo ∨ hi < x.toInt then jmp (fun pc ls st h => Rn G d M pc ls st h Q) pc df ls st h else ob offs[(x.toInt - lo).toNat]? fun off => jmp (fun pc ls st h => Rn G d M pc ls st h Q) pc off ls st h) := e_of hd rfl rfl
theorem jmp_s {K : Nat → aL → List Value → aH → Prop} {off : Int} {t : Nat} (ht : (pc : Int) + off = (t : Int)) : jmp K pc off ls st h = K t ls st h := by
  have e : tgt pc off = t := by unfold tgt; rw [ht]; rfl
  unfold jmp
  rw [e, ht]
  exact propext ⟨fun h => h.2, fun h => ⟨Int.natCast_nonneg t, h⟩⟩
theorem e_lookup {df : Int} {ps : Array (Int × Int)} {n : Nat} {x : Int32} (hd : decode M.2.2.1 pc = .ok (.lookupswitch df ps, n)) : Rn G d M pc ls (.int x :: st) h Q = ((ps.toList.zip (ps.toList.drop 1)).all (fun (a, next) => a.1 < next.1) = true ∧ jmp (fun pc ls st h => Rn G d M pc ls st h Q) pc (Op.lookupswitch.offset ps.toList df x.toInt) ls st h) := e_of hd rfl rfl
theorem e_getfield {idx a ci k : Nat} (hd : decode M.2.2.1 pc = .ok (.getfield idx, 3)) (hq : (pF M.1).lookup idx = some (ci, k)) : Rn G d M pc ls (.ref a :: st) h Q = (ob (oF h a ci) fun fs => ob fs[k]? fun v => Rn G d M (pc + 3) ls (v :: st) h Q) := e_of hd rfl (by
  show (ob ((pF M.1).lookup idx) fun q => ob (oF h a q.1) fun fs => ob fs[q.2]? fun v => Rn G d M (pc + 3) ls (v :: st) h Q) = _
  rw [hq]
  rfl)
theorem e_putfield {idx a ci k : Nat} {v : Value} {ty : FieldType} (hd : decode M.2.2.1 pc = .ok (.putfield idx, 3)) (hq : (pF M.1).lookup idx = some (ci, k)) (hty : fTy ci k = ty) (hf : (fTb ci k).2.2.2 = false) : Rn G d M pc ls (v :: .ref a :: st) h Q = (ob (oF h a ci) fun fs => k < fs.length ∧ G.1 ≤ a ∧ narrow ty v = v ∧ fits ty v = true ∧ Rn G d M (pc + 3) ls st (hup h a (.inr (ci, fs.set k v))) Q) := e_of hd rfl (by
  show (ob ((pF M.1).lookup idx) fun q => ob (oF h a q.1) fun fs => q.2 < fs.length ∧ G.1 ≤ a ∧ narrow (fTy q.1 q.2) v = v ∧ fits (fTy q.1 q.2) v = true ∧ ((fTb q.1 q.2).2.2.2 = true → M.2.1.name = "<init>" ∧ q.1 = M.1) ∧ Rn G d M (pc + 3) ls st (hup h a (.inr (q.1, fs.set q.2 v))) Q) = _
  rw [hq]
  show (ob (oF h a ci) _) = _
  refine congrArg (ob (oF h a ci)) (funext fun fs => ?_)
  subst hty
  rw [hf]
  exact propext ⟨fun h => ⟨h.1, h.2.1, h.2.2.1, h.2.2.2.1, h.2.2.2.2.2⟩, fun h => ⟨h.1, h.2.1, h.2.2.1, h.2.2.2.1, fun z => absurd z (by decide), h.2.2.2.2⟩⟩)
theorem e_putfieldF {idx a ci k : Nat} {v : Value} {ty : FieldType} (hd : decode M.2.2.1 pc = .ok (.putfield idx, 3)) (hq : (pF M.1).lookup idx = some (ci, k)) (hty : fTy ci k = ty) (hm : M.2.1.name = "<init>") (hc : ci = M.1) : Rn G d M pc ls (v :: .ref a :: st) h Q = (ob (oF h a ci) fun fs => k < fs.length ∧ G.1 ≤ a ∧ narrow ty v = v ∧ fits ty v = true ∧ Rn G d M (pc + 3) ls st (hup h a (.inr (ci, fs.set k v))) Q) := e_of hd rfl (by
  show (ob ((pF M.1).lookup idx) fun q => ob (oF h a q.1) fun fs => q.2 < fs.length ∧ G.1 ≤ a ∧ narrow (fTy q.1 q.2) v = v ∧ fits (fTy q.1 q.2) v = true ∧ ((fTb q.1 q.2).2.2.2 = true → M.2.1.name = "<init>" ∧ q.1 = M.1) ∧ Rn G d M (pc + 3) ls st (hup h a (.inr (q.1, fs.set q.2 v))) Q) = _
  rw [hq]
  show (ob (oF h a ci) _) = _
  refine congrArg (ob (oF h a ci)) (funext fun fs => ?_)
  subst hty
  exact propext ⟨fun h => ⟨h.1, h.2.1, h.2.2.1, h.2.2.2.1, h.2.2.2.2.2⟩, fun h => ⟨h.1, h.2.1, h.2.2.1, h.2.2.2.1, fun _ => ⟨hm, hc⟩, h.2.2.2.2⟩⟩)
theorem e_arraylength {a : Nat} (hd : decode M.2.2.1 pc = .ok (.arraylength, 1)) : Rn G d M pc ls (.ref a :: st) h Q = (ob (aN G h a) fun n => Rn G d M (pc + 1) ls (.int (nI n) :: st) h Q) := e_of hd rfl rfl
theorem e_iaload {a : Nat} {i : Int32} (hd : decode M.2.2.1 pc = .ok (.iaload, 1)) : Rn G d M pc ls (.int i :: .ref a :: st) h Q = (if h.2.1 a = none ∧ a = G.2.1.1 then vp_in i G.2.1.2.1 ∧ Rn G d M (pc + 1) ls (.int (G.2.1.2.2 i.toNatClampNeg) :: st) h Q else ob (aI h a 0) fun x => vp_in i x.1 ∧ Rn G d M (pc + 1) ls (.int (x.2 i.toNatClampNeg) :: st) h Q) := e_of hd rfl rfl
theorem e_baload {a : Nat} {i : Int32} (hd : decode M.2.2.1 pc = .ok (.baload, 1)) : Rn G d M pc ls (.int i :: .ref a :: st) h Q = (ob ((aI h a 1).orElse fun _ => aI h a 4) fun x => vp_in i x.1 ∧ Rn G d M (pc + 1) ls (.int (x.2 i.toNatClampNeg) :: st) h Q) := e_of hd rfl rfl
theorem e_saload {a : Nat} {i : Int32} (hd : decode M.2.2.1 pc = .ok (.saload, 1)) : Rn G d M pc ls (.int i :: .ref a :: st) h Q = (ob (aI h a 2) fun x => vp_in i x.1 ∧ Rn G d M (pc + 1) ls (.int (x.2 i.toNatClampNeg) :: st) h Q) := e_of hd rfl rfl
theorem e_laload {a : Nat} {i : Int32} (hd : decode M.2.2.1 pc = .ok (.laload, 1)) : Rn G d M pc ls (.int i :: .ref a :: st) h Q = (ob (aJ h a) fun x => vp_in i x.1 ∧ Rn G d M (pc + 1) ls (.long (x.2 i.toNatClampNeg) :: st) h Q) := e_of hd rfl rfl
theorem e_aaload {a : Nat} {i : Int32} (hd : decode M.2.2.1 pc = .ok (.aaload, 1)) : Rn G d M pc ls (.int i :: .ref a :: st) h Q = (ob (aR h a) fun x => vp_in i x.2.1 ∧ Rn G d M (pc + 1) ls (va_rf (x.2.2 i.toNatClampNeg) :: st) h Q) := e_of hd rfl rfl
theorem e_iastore {a : Nat} {i v : Int32} (hd : decode M.2.2.1 pc = .ok (.iastore, 1)) : Rn G d M pc ls (.int v :: .int i :: .ref a :: st) h Q = (ob (aI h a 0) fun x => vp_in i x.1 ∧ G.1 ≤ a ∧ Rn G d M (pc + 1) ls st (hup h a (.inl (0, x.1, .inl (upd x.2 i.toNatClampNeg v)))) Q) := e_of hd rfl rfl
theorem e_bastore {a : Nat} {i v : Int32} (hd : decode M.2.2.1 pc = .ok (.bastore, 1)) : Rn G d M pc ls (.int v :: .int i :: .ref a :: st) h Q = (match aI h a 1 with
      | some x => vp_in i x.1 ∧ G.1 ≤ a ∧ Rn G d M (pc + 1) ls st (hup h a (.inl (1, x.1, .inl (upd x.2 i.toNatClampNeg (vp_nar .byte v))))) Q
      | none => ob (aI h a 4) fun x => vp_in i x.1 ∧ G.1 ≤ a ∧ Rn G d M (pc + 1) ls st (hup h a (.inl (4, x.1, .inl (upd x.2 i.toNatClampNeg (vp_nar .boolean v))))) Q) := e_of hd rfl rfl
theorem e_sastore {a : Nat} {i v : Int32} (hd : decode M.2.2.1 pc = .ok (.sastore, 1)) : Rn G d M pc ls (.int v :: .int i :: .ref a :: st) h Q = (ob (aI h a 2) fun x => vp_in i x.1 ∧ G.1 ≤ a ∧ Rn G d M (pc + 1) ls st (hup h a (.inl (2, x.1, .inl (upd x.2 i.toNatClampNeg (vp_nar .short v))))) Q) := e_of hd rfl rfl
theorem e_lastore {a : Nat} {i : Int32} {v : Int64} (hd : decode M.2.2.1 pc = .ok (.lastore, 1)) : Rn G d M pc ls (.long v :: .int i :: .ref a :: st) h Q = (ob (aJ h a) fun x => vp_in i x.1 ∧ G.1 ≤ a ∧ Rn G d M (pc + 1) ls st (hup h a (.inl (3, x.1, .inr (.inl (vp_updL x.2 i.toNatClampNeg v))))) Q) := e_of hd rfl rfl
theorem e_aastore {a v : Nat} {i : Int32} (hd : decode M.2.2.1 pc = .ok (.aastore, 1)) : Rn G d M pc ls (.ref v :: .int i :: .ref a :: st) h Q = (ob (aR h a) fun x => vp_in i x.2.1 ∧ G.1 ≤ a ∧ ob (oF h v (aTo x.1)) fun _ => Rn G d M (pc + 1) ls st (hup h a (.inl (x.1, x.2.1, .inr (.inr (.inr (.inr (va_up x.2.2 i.toNatClampNeg (some v)))))))) Q) := e_of hd rfl rfl
theorem e_newarray_int {n : Int32} (hd : decode M.2.2.1 pc = .ok (.newarray .int, 2)) : Rn G d M pc ls (.int n :: st) h Q = (¬ n < 0 ∧ n.toNatClampNeg ≤ 1000000 ∧ Rn G d M (pc + 2) ls (.ref h.1 :: st) (hnew h (.inl (0, n.toNatClampNeg, .inl (fun _ => 0))) n.toNatClampNeg) Q) := e_of hd rfl rfl
theorem e_newarray_byte {n : Int32} (hd : decode M.2.2.1 pc = .ok (.newarray .byte, 2)) : Rn G d M pc ls (.int n :: st) h Q = (¬ n < 0 ∧ n.toNatClampNeg ≤ 1000000 ∧ Rn G d M (pc + 2) ls (.ref h.1 :: st) (hnew h (.inl (1, n.toNatClampNeg, .inl (fun _ => 0))) n.toNatClampNeg) Q) := e_of hd rfl rfl
theorem e_newarray_short {n : Int32} (hd : decode M.2.2.1 pc = .ok (.newarray .short, 2)) : Rn G d M pc ls (.int n :: st) h Q = (¬ n < 0 ∧ n.toNatClampNeg ≤ 1000000 ∧ Rn G d M (pc + 2) ls (.ref h.1 :: st) (hnew h (.inl (2, n.toNatClampNeg, .inl (fun _ => 0))) n.toNatClampNeg) Q) := e_of hd rfl rfl
theorem e_newarray_long {n : Int32} (hd : decode M.2.2.1 pc = .ok (.newarray .long, 2)) : Rn G d M pc ls (.int n :: st) h Q = (¬ n < 0 ∧ n.toNatClampNeg ≤ 1000000 ∧ Rn G d M (pc + 2) ls (.ref h.1 :: st) (hnew h (.inl (3, n.toNatClampNeg, .inr (.inl (fun _ => 0)))) n.toNatClampNeg) Q) := e_of hd rfl rfl
theorem e_newarray_boolean {n : Int32} (hd : decode M.2.2.1 pc = .ok (.newarray .boolean, 2)) : Rn G d M pc ls (.int n :: st) h Q = (¬ n < 0 ∧ n.toNatClampNeg ≤ 1000000 ∧ Rn G d M (pc + 2) ls (.ref h.1 :: st) (hnew h (.inl (4, n.toNatClampNeg, .inl (fun _ => 0))) n.toNatClampNeg) Q) := e_of hd rfl rfl
theorem e_anewarray {idx t : Nat} {n : Int32} (hd : decode M.2.2.1 pc = .ok (.anewarray idx, 3)) (hq : (pA M.1).lookup idx = some t) : Rn G d M pc ls (.int n :: st) h Q = (¬ n < 0 ∧ n.toNatClampNeg ≤ 1000000 ∧ Rn G d M (pc + 3) ls (.ref h.1 :: st) (hnew h (.inl (t, n.toNatClampNeg, .inr (.inr (.inr (.inr (fun _ => none)))))) n.toNatClampNeg) Q) := e_of hd rfl (by
  show (ob ((pA M.1).lookup idx) fun t => ¬ n < 0 ∧ n.toNatClampNeg ≤ 1000000 ∧ Rn G d M (pc + 3) ls (.ref h.1 :: st) (hnew h (.inl (t, n.toNatClampNeg, .inr (.inr (.inr (.inr (fun _ => none)))))) n.toNatClampNeg) Q) = _
  rw [hq]
  rfl)
theorem e_new {idx ci n : Nat} {fs : List Value} (hd : decode M.2.2.1 pc = .ok (.new idx, 3)) (hq : (pN M.1).lookup idx = some ci) (hf : fDef ci = fs) (hn : fN ci = n) : Rn G d M pc ls st h Q = Rn G d M (pc + 3) ls (.ref h.1 :: st) (hnew h (.inr (ci, fs)) n) Q := e_of hd rfl (by
  show (ob ((pN M.1).lookup idx) fun ci => Rn G d M (pc + 3) ls (.ref h.1 :: st) (hnew h (.inr (ci, fDef ci)) (fN ci)) Q) = _
  rw [hq, ← hf, ← hn]
  rfl)
theorem e_checkcast {a : Nat} (hd : decode M.2.2.1 pc = .ok (.checkcast 317, 3)) (hM : M.1 = 14) : Rn G d M pc ls (.ref a :: st) h Q = (ob (aI h a 0) fun _ => Rn G d M (pc + 3) ls (.ref a :: st) h Q) := e_of hd rfl (by
  show (M.1 = 14 ∧ 317 = 317 ∧ _) = _
  exact propext ⟨fun h => h.2.2, fun h => ⟨hM, rfl, h⟩⟩)
theorem e_ireturn {v : Int32} {ty : FieldType} (hd : decode M.2.2.1 pc = .ok (.ireturn, 1)) (hr : M.2.2.2.2 = some ty) : Rn G d M pc ls [.int v] h Q = (narrow ty (.int v) = .int v ∧ Q (some (.int v)) h) := e_of hd rfl (by
  show ((∃ ty, M.2.2.2.2 = some ty ∧ narrow ty (.int v) = .int v) ∧ Q (some (.int v)) h) = _
  rw [hr]
  exact propext ⟨fun ⟨⟨t, h1, h2⟩, h3⟩ => ⟨by cases h1; exact h2, h3⟩, fun ⟨h1, h2⟩ => ⟨⟨_, rfl, h1⟩, h2⟩⟩)
theorem e_ireturnI {v : Int32} (hd : decode M.2.2.1 pc = .ok (.ireturn, 1)) (hr : M.2.2.2.2 = some .int) : Rn G d M pc ls [.int v] h Q = Q (some (.int v)) h := by
  rw [e_ireturn hd hr]
  exact propext ⟨fun h => h.2, fun h => ⟨rfl, h⟩⟩
theorem e_lreturn {v : Int64} (hd : decode M.2.2.1 pc = .ok (.lreturn, 1)) (hr : M.2.2.2.2 = some .long) : Rn G d M pc ls [.long v] h Q = Q (some (.long v)) h := e_of hd rfl (by
  show (M.2.2.2.2 = some .long ∧ Q (some (.long v)) h) = _
  rw [hr]
  exact propext ⟨fun h => h.2, fun h => ⟨rfl, h⟩⟩)
theorem e_areturn_r {a : Nat} {rt : FieldType} (hd : decode M.2.2.1 pc = .ok (.areturn, 1)) (hr : M.2.2.2.2 = some rt) (ho : (∃ n, rt = .object n) ∨ ∃ t, rt = .array t) : Rn G d M pc ls [.ref a] h Q = Q (some (.ref a)) h := e_of hd rfl (by
  show ((∃ rt, M.2.2.2.2 = some rt ∧ _) ∧ Q (some (.ref a)) h) = _
  exact propext ⟨fun h => h.2, fun h => ⟨⟨rt, hr, ho⟩, h⟩⟩)
theorem e_areturn_0 {rt : FieldType} (hd : decode M.2.2.1 pc = .ok (.areturn, 1)) (hr : M.2.2.2.2 = some rt) (ho : (∃ n, rt = .object n) ∨ ∃ t, rt = .array t) : Rn G d M pc ls [.null] h Q = Q (some .null) h := e_of hd rfl (by
  show ((∃ rt, M.2.2.2.2 = some rt ∧ _) ∧ Q (some .null) h) = _
  exact propext ⟨fun h => h.2, fun h => ⟨⟨rt, hr, ho⟩, h⟩⟩)
theorem e_return {rt : Option FieldType} (hd : decode M.2.2.1 pc = .ok (.return_, 1)) (hr : M.2.2.2.2 = none) : Rn G d M pc ls [] h Q = Q none h := e_of hd rfl (by
  show (M.2.2.2.2 = none ∧ Q none h) = _
  exact propext ⟨fun h => h.2, fun h => ⟨hr, h⟩⟩)
/-- calls: the arguments, as they lie on the stack, come as the callee's locals -/
theorem e_virt {idx np ci : Nat} {M' : aM} {as rest : List Value} {a : Nat} {L : aL} (hd : decode M.2.2.1 pc = .ok (.invokevirtual idx, 3)) (hq : (pV M.1).lookup idx = some (np, M')) (hci : M'.1 = ci) (h1 : (idx == pSl M.1 && idx != 0) = false) (h2 : (idx == pSc M.1 && idx != 0) = false) (h3 : (idx == pCn M.1 && idx != 0) = false)
    (hn : as.length = np) (hL : eL M'.2.2.2.1 (.ref a :: as.reverse) = L) (hlen : (eA (.ref a :: as.reverse)).length ≤ M'.2.2.2.1) :
    Rn G d M pc ls (as ++ .ref a :: rest) h Q = ((∃ fs, oF h a ci = some fs) ∧ csum rest ≤ 8 ∧ 0 < d ∧ Rn G (d - 1) M' 0 L [] h (fun r h' => Rn G d M (pc + 3) ls (r.toList ++ rest) h' Q)) := e_of hd rfl (by
  show (if idx = pSl M.1 ∧ idx ≠ 0 then _ else if idx = pSc M.1 ∧ idx ≠ 0 then _ else if idx = pCn M.1 ∧ idx ≠ 0 then _ else ob ((pV M.1).lookup idx) _) = _
  have n1 : ¬ (idx = pSl M.1 ∧ idx ≠ 0) := fun ⟨e1, e2⟩ => by
    have : (idx == pSl M.1 && idx != 0) = true := by simp only [Bool.and_eq_true, beq_iff_eq, bne_iff_ne]; exact ⟨e1, e2⟩
    rw [h1] at this; cases this
  have n2 : ¬ (idx = pSc M.1 ∧ idx ≠ 0) := fun ⟨e1, e2⟩ => by
    have : (idx == pSc M.1 && idx != 0) = true := by simp only [Bool.and_eq_true, beq_iff_eq, bne_iff_ne]; exact ⟨e1, e2⟩
    rw [h2] at this; cases this
  have n3 : ¬ (idx = pCn M.1 ∧ idx ≠ 0) := fun ⟨e1, e2⟩ => by
    have : (idx == pCn M.1 && idx != 0) = true := by simp only [Bool.and_eq_true, beq_iff_eq, bne_iff_ne]; exact ⟨e1, e2⟩
    rw [h3] at this; cases this
  rw [if_neg n1, if_neg n2, if_neg n3, hq]
  subst hn
  subst hci
  subst hL
  have d1 : (as ++ .ref a :: rest).drop as.length = .ref a :: rest := by simp
  have d2 : (as ++ .ref a :: rest).drop (as.length + 1) = rest := by simp
  have d3 : ((as ++ .ref a :: rest).take (as.length + 1)).reverse = .ref a :: as.reverse := by simp [List.take_append, List.take_of_length_le (Nat.le_succ as.length)]
  show ((∃ a' fs, ((as ++ .ref a :: rest).drop as.length)[0]? = some (.ref a') ∧ oF h a' M'.1 = some fs) ∧ cal _ _ M' as.length true pc ls (as ++ .ref a :: rest) h) = _
  unfold cal
  simp only [if_true, d1, d2, d3, List.getElem?_cons_zero, Option.some.injEq, Value.ref.injEq]
  refine propext ⟨fun ⟨⟨a', fs, e1, e2⟩, w1, w2, w3, w4, w5⟩ => ?_, fun ⟨⟨fs, e2⟩, w1, w4, w5⟩ => ?_⟩
  · subst e1
    exact ⟨⟨fs, e2⟩, w1, w4, w5⟩
  · exact ⟨⟨a, fs, rfl, e2⟩, w1, hlen, by simp, w4, w5⟩)
theorem e_stat {idx np : Nat} {M' : aM} {as rest : List Value} {L : aL} (hd : decode M.2.2.1 pc = .ok (.invokestatic idx, 3)) (hq : (pS M.1).lookup idx = some (np, M')) (h1 : (idx == pAc M.1 && idx != 0) = false)
    (hn : as.length = np) (hL : eL M'.2.2.2.1 as.reverse = L) (hlen : (eA as.reverse).length ≤ M'.2.2.2.1) :
    Rn G d M pc ls (as ++ rest) h Q = (csum rest ≤ 8 ∧ 0 < d ∧ Rn G (d - 1) M' 0 L [] h (fun r h' => Rn G d M (pc + 3) ls (r.toList ++ rest) h' Q)) := e_of hd rfl (by
  show (if idx = pAc M.1 ∧ idx ≠ 0 then _ else ob ((pS M.1).lookup idx) _) = _
  have n1 : ¬ (idx = pAc M.1 ∧ idx ≠ 0) := fun ⟨e1, e2⟩ => by
    have : (idx == pAc M.1 && idx != 0) = true := by simp only [Bool.and_eq_true, beq_iff_eq, bne_iff_ne]; exact ⟨e1, e2⟩
    rw [h1] at this; cases this
  rw [if_neg n1, hq]
  subst hn
  subst hL
  rw [ob_s]
  unfold cal
  simp only [Bool.false_eq_true, if_false, List.drop_left, List.take_left]
  exact propext ⟨fun ⟨w1, w2, w3, w4, w5⟩ => ⟨w1, w4, w5⟩, fun ⟨w1, w4, w5⟩ => ⟨w1, hlen, by simp, w4, w5⟩⟩)
theorem e_init {idx np : Nat} {M' : aM} {as rest : List Value} {a : Nat} {L : aL} (hd : decode M.2.2.1 pc = .ok (.invokespecial idx, 3)) (hq : (pC M.1).lookup idx = some (np, M')) (h1 : (idx == pO M.1 && idx != 0) = false)
    (hn : as.length = np) (hL : eL M'.2.2.2.1 (.ref a :: as.reverse) = L) (hlen : (eA (.ref a :: as.reverse)).length ≤ M'.2.2.2.1) :
    Rn G d M pc ls (as ++ .ref a :: rest) h Q = (csum rest ≤ 8 ∧ 0 < d ∧ Rn G (d - 1) M' 0 L [] h (fun r h' => Rn G d M (pc + 3) ls (r.toList ++ rest) h' Q)) := e_of hd rfl (by
  show (if idx = pO M.1 ∧ idx ≠ 0 then _ else ob ((pC M.1).lookup idx) _) = _
  have n1 : ¬ (idx = pO M.1 ∧ idx ≠ 0) := fun ⟨e1, e2⟩ => by
    have : (idx == pO M.1 && idx != 0) = true := by simp only [Bool.and_eq_true, beq_iff_eq, bne_iff_ne]; exact ⟨e1, e2⟩
    rw [h1] at this; cases this
  rw [if_neg n1, hq]
  subst hn
  subst hL
  have d1 : (as ++ .ref a :: rest).drop as.length = .ref a :: rest := by simp
  have d2 : (as ++ .ref a :: rest).drop (as.length + 1) = rest := by simp
  have d3 : ((as ++ .ref a :: rest).take (as.length + 1)).reverse = .ref a :: as.reverse := by simp [List.take_append, List.take_of_length_le (Nat.le_succ as.length)]
  show ((∃ a', ((as ++ .ref a :: rest).drop as.length)[0]? = some (.ref a')) ∧ cal _ _ M' as.length true pc ls (as ++ .ref a :: rest) h) = _
  unfold cal
  simp only [if_true, d1, d2, d3, List.getElem?_cons_zero, Option.some.injEq, Value.ref.injEq]
  exact propext ⟨fun ⟨_, w1, w2, w3, w4, w5⟩ => ⟨w1, w4, w5⟩, fun ⟨w1, w4, w5⟩ => ⟨⟨a, rfl⟩, w1, hlen, by simp, w4, w5⟩⟩)
theorem e_obj {idx a : Nat} {rest : List Value} (hd : decode M.2.2.1 pc = .ok (.invokespecial idx, 3)) (h1 : (idx == pO M.1 && idx != 0) = true) : Rn G d M pc ls (.ref a :: rest) h Q = (1 ≤ d ∧ csum rest ≤ 8 ∧ Rn G d M (pc + 3) ls rest h Q) := e_of hd rfl (by
  show (if idx = pO M.1 ∧ idx ≠ 0 then (1 ≤ d ∧ csum rest ≤ 8 ∧ Rn G d M (pc + 3) ls rest h Q) else _) = _
  have n1 : idx = pO M.1 ∧ idx ≠ 0 := by simpa using h1
  rw [if_pos n1])
theorem e_slen {idx i : Nat} {rest : List Value} (hd : decode M.2.2.1 pc = .ok (.invokevirtual idx, 3)) (h1 : (idx == pSl M.1 && idx != 0) = true) (hi : i < 30) (hd5 : 5 ≤ d) (hc : csum rest ≤ 8) (hw : Rn G d M (pc + 3) ls (.int (nI (slen i)) :: rest) h Q) : Rn G d M pc ls (.ref (G.2.2 i) :: rest) h Q := by
  refine Eq.mpr (e_of hd rfl rfl) ?_
  have n1 : idx = pSl M.1 ∧ idx ≠ 0 := by simpa using h1
  show (if idx = pSl M.1 ∧ idx ≠ 0 then (∃ i', i' < 30 ∧ G.2.2 i = G.2.2 i' ∧ 5 ≤ d ∧ csum rest ≤ 8 ∧ Rn G d M (pc + 3) ls (.int (nI (slen i')) :: rest) h Q) else _)
  rw [if_pos n1]
  exact ⟨i, hi, rfl, hd5, hc, hw⟩
theorem e_schr {idx i k : Nat} {rest : List Value} (hd : decode M.2.2.1 pc = .ok (.invokevirtual idx, 3)) (h0 : (idx == pSl M.1 && idx != 0) = false) (h1 : (idx == pSc M.1 && idx != 0) = true) (hi : i < 30) (hk : k < slen i) (hd5 : 5 ≤ d) (hc : csum rest ≤ 8) (hw : Rn G d M (pc + 3) ls (.int (schr i k) :: rest) h Q) : Rn G d M pc ls (.int (nI k) :: .ref (G.2.2 i) :: rest) h Q := by
  refine Eq.mpr (e_of hd rfl rfl) ?_
  show (if idx = pSl M.1 ∧ idx ≠ 0 then _ else if idx = pSc M.1 ∧ idx ≠ 0 then (∃ i' k', i' < 30 ∧ G.2.2 i = G.2.2 i' ∧ k' < slen i' ∧ nI k = nI k' ∧ 5 ≤ d ∧ csum rest ≤ 8 ∧ Rn G d M (pc + 3) ls (.int (schr i' k') :: rest) h Q) else _)
  have n0 : ¬ (idx = pSl M.1 ∧ idx ≠ 0) := fun ⟨e1, e2⟩ => by
    have : (idx == pSl M.1 && idx != 0) = true := by simp only [Bool.and_eq_true, beq_iff_eq, bne_iff_ne]; exact ⟨e1, e2⟩
    rw [h0] at this; cases this
  have n1 : idx = pSc M.1 ∧ idx ≠ 0 := by simpa using h1
  rw [if_neg n0, if_pos n1]
  exact ⟨i, k, hi, rfl, hk, rfl, hd5, hc, hw⟩
theorem e_tableL {df lo hi : Int} {offs : Array Int} {n t0 : Nat} {ts : List Nat} {x : Int32} (hd : decode M.2.2.1 pc = .ok (.tableswitch df lo hi offs, n)) (h0 : (pc : Int) + df = (t0 : Int)) (ht : offs.toList.map (fun o => (pc : Int) + o) = ts.map (fun t : Nat => (t : Int))) :
    Rn G d M pc ls (.int x :: st) h Q = (if x.toInt < lo ∨ hi < x.toInt then Rn G d M t0 ls st h Q else ob ts[(x.toInt - lo).toNat]? fun t => Rn G d M t ls st h Q) := by
  rw [e_table hd]
  by_cases hc : x.toInt < lo ∨ hi < x.toInt
  · rw [if_pos hc, if_pos hc, jmp_s h0]
  · rw [if_neg hc, if_neg hc]
    have e1 := congrArg (fun l : List Int => l[(x.toInt - lo).toNat]?) ht
    simp only [List.getElem?_map] at e1
    rw [← Array.getElem?_toList]
    cases h1 : offs.toList[(x.toInt - lo).toNat]? with
    | none =>
      rw [h1] at e1
      cases h2 : ts[(x.toInt - lo).toNat]? with
      | none => rfl
      | some t => rw [h2] at e1; cases e1
    | some o =>
      rw [h1] at e1
      cases h2 : ts[(x.toInt - lo).toNat]? with
      | none => rw [h2] at e1; cases e1
      | some t =>
        rw [h2] at e1
        rw [ob_s, ob_s]
        exact jmp_s (Option.some.inj e1)
end EQ
