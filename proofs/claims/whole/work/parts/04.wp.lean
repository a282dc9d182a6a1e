/-! THE SMALL MACHINE: what a method's code does to a heap of typed cells, as a predicate transformer; part 05 shows that the Java machine follows it -/
/-- heap size; the cells by their addresses; slots made so far -/
abbrev aH : Type := Nat × (Nat → Option aE) × Nat
/-- B: the first address of the claim's own cells; the script's address, length, ints; the string constants' addresses -/
abbrev aG : Type := Nat × (Nat × Nat × (Nat → Int32)) × (Nat → Nat)
abbrev aL : Type := List (Option Value)
abbrev aQ : Type := Option Value → aH → Prop
def hup (h : aH) (a : Nat) (e : aE) : aH := (h.1, (fun q => if q = a then some e else h.2.1 q), h.2.2)
def hnew (h : aH) (e : aE) (n : Nat) : aH := (h.1 + 1, (fun q => if q = h.1 then some e else h.2.1 q), h.2.2 + n)
def ilen (i : Instr) (n : Nat) : Nat := match i with
  | .aload _ => 2 | .astore _ => 2 | .bipush _ => 2 | .iload _ => 2 | .istore _ => 2 | .lload _ => 2 | .lstore _ => 2 | .ldc _ => 2 | .newarray _ => 2
  | .sipush _ => 3 | .getfield _ => 3 | .putfield _ => 3 | .goto _ => 3 | .ifCond _ _ => 3 | .if_icmp _ _ => 3 | .ifnull _ => 3 | .ifnonnull _ => 3 | .iinc _ _ => 3
  | .invokevirtual _ => 3 | .invokestatic _ => 3 | .invokespecial _ => 3 | .new _ => 3 | .anewarray _ => 3 | .ldc_w _ => 3 | .ldc2_w _ => 3 | .checkcast _ => 3
  | .tableswitch _ _ _ _ => n | .lookupswitch _ _ => n
  | _ => 1
/-- the locals behind a store at j: a long whose second half stood there is gone -/
def clr (ls : aL) (j : Nat) : aL := match j with
  | 0 => ls
  | i + 1 => match ls[i]? with
    | some (some (.long _)) => ls.set i none
    | some (some (.double _)) => ls.set i none
    | _ => ls
def stL (ls : aL) (j : Nat) (v : Value) : aL := (clr ls j).set j (some v)
def stL2 (ls : aL) (j : Nat) (v : Value) : aL := (stL ls j v).set (j + 1) none
def sl1 (v : Value) : aL := if v.category = 2 then [some v, none] else [some v]
def eA (vs : List Value) : aL := vs.flatMap sl1
def eL (n : Nat) (vs : List Value) : aL := eA vs ++ List.replicate (n - (eA vs).length) none
def csum (st : List Value) : Nat := (st.map fun v => v.category).sum
def retOK (ret : Option FieldType) (i : Instr) (r : Option Value) : Prop := match i, r with
  | .ireturn, some (.int v) => ∃ ty, ret = some ty ∧ narrow ty (.int v) = .int v
  | .lreturn, some (.long _) => ret = some .long
  | .areturn, some .null => ∃ rt, ret = some rt ∧ ((∃ n, rt = .object n) ∨ ∃ t, rt = .array t)
  | .areturn, some (.ref _) => ∃ rt, ret = some rt ∧ ((∃ n, rt = .object n) ∨ ∃ t, rt = .array t)
  | .return_, none => ret = none
  | _, _ => False
def ob {α : Type} (o : Option α) (K : α → Prop) : Prop := match o with
  | some x => K x
  | none => False
/-- the fields of an object of class place ci -/
def oF (h : aH) (a ci : Nat) : Option (List Value) := match h.2.1 a with
  | some (.inr (cj, fs)) => if cj = ci then some fs else none
  | _ => none
/-- an array of ints of kind t -/
def aI (h : aH) (a t : Nat) : Option (Nat × (Nat → Int32)) := match h.2.1 a with
  | some (.inl (t', n, .inl f)) => if t' = t then some (n, f) else none
  | _ => none
def aJ (h : aH) (a : Nat) : Option (Nat × (Nat → Int64)) := match h.2.1 a with
  | some (.inl (t', n, .inr (.inl f))) => if t' = 3 then some (n, f) else none
  | _ => none
def aR (h : aH) (a : Nat) : Option (Nat × Nat × (Nat → Option Nat)) := match h.2.1 a with
  | some (.inl (t', n, .inr (.inr (.inr (.inr f))))) => if t' = 5 ∨ t' = 6 ∨ t' = 7 then some (t', n, f) else none
  | _ => none
/-- an array's length -/
def aN (G : aG) (h : aH) (a : Nat) : Option Nat := match h.2.1 a with
  | some (.inl (t', n, _)) => if t' < 8 then some n else none
  | some (.inr _) => none
  | none => if a = G.2.1.1 then some G.2.1.2.1 else none
def tgt (pc : Nat) (off : Int) : Nat := ((pc : Int) + off).toNat
def slen (i : Nat) : Nat := (sBy.getD i []).length
def schr (i k : Nat) : Int32 := (sBy.getD i []).getD k 0
section STP
variable (G : aG) (d : Nat) (Cal : aM → List Value → aH → aQ → Prop) (M : aM) (K : Nat → aL → List Value → aH → Prop) (Q : aQ)
def jmp (pc : Nat) (off : Int) (ls : aL) (st : List Value) (h : aH) : Prop := 0 ≤ (pc : Int) + off ∧ K (tgt pc off) ls st h
def braT (c : Prop) [Decidable c] (pc : Nat) (off : Int) (ls : aL) (st : List Value) (h : aH) : Prop := 0 ≤ (pc : Int) + off ∧ if c then K (tgt pc off) ls st h else K (pc + 3) ls st h
def braF (c : Prop) [Decidable c] (pc : Nat) (off : Int) (ls : aL) (st : List Value) (h : aH) : Prop := 0 ≤ (pc : Int) + off ∧ if c then K (pc + 3) ls st h else K (tgt pc off) ls st h
/-- a call: the arguments off the stack, the callee, what comes back onto it -/
def cal (M' : aM) (np : Nat) (inst : Bool) (pc : Nat) (ls : aL) (st : List Value) (h : aH) : Prop :=
  csum (st.drop (if inst then np + 1 else np)) ≤ 8 ∧ (eA (st.take (if inst then np + 1 else np)).reverse).length ≤ M'.2.2.2.1 ∧
  (if inst then np + 1 else np) ≤ st.length ∧
  Cal M' (st.take (if inst then np + 1 else np)).reverse h (fun r h' => K (pc + 3) ls (r.toList ++ st.drop (if inst then np + 1 else np)) h')
def stpS (i : Instr) (pc : Nat) (ls : aL) (st : List Value) (h : aH) : Prop := match i with
  | .invokevirtual idx =>
    if idx = pSl M.1 ∧ idx ≠ 0 then match st with
      | .ref a :: r => ∃ i, i < 30 ∧ a = G.2.2 i ∧ 5 ≤ d ∧ csum r ≤ 8 ∧ K (pc + 3) ls (.int (nI (slen i)) :: r) h
      | _ => False
    else if idx = pSc M.1 ∧ idx ≠ 0 then match st with
      | .int j :: .ref a :: r => ∃ i k, i < 30 ∧ a = G.2.2 i ∧ k < slen i ∧ j = nI k ∧ 5 ≤ d ∧ csum r ≤ 8 ∧ K (pc + 3) ls (.int (schr i k) :: r) h
      | _ => False
    else if idx = pCn M.1 ∧ idx ≠ 0 then match st with
      | .ref a :: r => 1 ≤ d ∧ csum r ≤ 8 ∧ ob (aI h a 0) fun x => K (pc + 3) ls (.ref h.1 :: r) (hnew h (.inl (0, x.1, .inl x.2)) x.1)
      | _ => False
    else ob ((pV M.1).lookup idx) fun q => (∃ a fs, (st.drop q.1)[0]? = some (.ref a) ∧ oF h a q.2.1 = some fs) ∧ cal Cal K q.2 q.1 true pc ls st h
  | .invokestatic idx =>
    if idx = pAc M.1 ∧ idx ≠ 0 then match st with
      | .int n :: .int dp :: .ref b :: .int sp :: .ref a :: r => 1 ≤ d ∧ csum r ≤ 8 ∧ ∃ t f n0 g n1, (t = 0 ∨ t = 1 ∨ t = 2) ∧ aI h a t = some (n0, f) ∧ aI h b t = some (n1, g) ∧ G.1 ≤ b ∧ ¬ sp < 0 ∧ ¬ dp < 0 ∧ ¬ n < 0 ∧
          sp.toNatClampNeg + n.toNatClampNeg ≤ n0 ∧ dp.toNatClampNeg + n.toNatClampNeg ≤ n1 ∧ (t = 1 → ∀ i, i < n.toNatClampNeg → fits .byte (.int (f (sp.toNatClampNeg + i))) = true) ∧ (t = 2 → ∀ i, i < n.toNatClampNeg → fits .short (.int (f (sp.toNatClampNeg + i))) = true) ∧
          K (pc + 3) ls r (hup h b (.inl (t, n1, .inl (va_cpy f g sp.toNatClampNeg dp.toNatClampNeg n.toNatClampNeg))))
      | _ => False
    else ob ((pS M.1).lookup idx) fun q => cal Cal K q.2 q.1 false pc ls st h
  | .invokespecial idx =>
    if idx = pO M.1 ∧ idx ≠ 0 then match st with
      | .ref _ :: r => 1 ≤ d ∧ csum r ≤ 8 ∧ K (pc + 3) ls r h
      | _ => False
    else ob ((pC M.1).lookup idx) fun q => (∃ a, (st.drop q.1)[0]? = some (.ref a)) ∧ cal Cal K q.2 q.1 true pc ls st h
  | _ => False
def stpH (i : Instr) (pc : Nat) (ls : aL) (st : List Value) (h : aH) : Prop := match i with
  | .getfield idx => ob ((pF M.1).lookup idx) fun q => match st with
    | .ref a :: r => ob (oF h a q.1) fun fs => ob fs[q.2]? fun v => K (pc + 3) ls (v :: r) h
    | _ => False
  | .putfield idx => ob ((pF M.1).lookup idx) fun q => match st with
    | v :: .ref a :: r => ob (oF h a q.1) fun fs => q.2 < fs.length ∧ G.1 ≤ a ∧ narrow (fTy q.1 q.2) v = v ∧ fits (fTy q.1 q.2) v = true ∧ ((fTb q.1 q.2).2.2.2 = true → M.2.1.name = "<init>" ∧ q.1 = M.1) ∧
        K (pc + 3) ls r (hup h a (.inr (q.1, fs.set q.2 v)))
    | _ => False
  | .arraylength => match st with
    | .ref a :: r => ob (aN G h a) fun n => K (pc + 1) ls (.int (nI n) :: r) h
    | _ => False
  | .iaload => match st with
    | .int i :: .ref a :: r => if h.2.1 a = none ∧ a = G.2.1.1 then vp_in i G.2.1.2.1 ∧ K (pc + 1) ls (.int (G.2.1.2.2 i.toNatClampNeg) :: r) h
        else ob (aI h a 0) fun x => vp_in i x.1 ∧ K (pc + 1) ls (.int (x.2 i.toNatClampNeg) :: r) h
    | _ => False
  | .baload => match st with
    | .int i :: .ref a :: r => ob ((aI h a 1).orElse fun _ => aI h a 4) fun x => vp_in i x.1 ∧ K (pc + 1) ls (.int (x.2 i.toNatClampNeg) :: r) h
    | _ => False
  | .saload => match st with
    | .int i :: .ref a :: r => ob (aI h a 2) fun x => vp_in i x.1 ∧ K (pc + 1) ls (.int (x.2 i.toNatClampNeg) :: r) h
    | _ => False
  | .laload => match st with
    | .int i :: .ref a :: r => ob (aJ h a) fun x => vp_in i x.1 ∧ K (pc + 1) ls (.long (x.2 i.toNatClampNeg) :: r) h
    | _ => False
  | .aaload => match st with
    | .int i :: .ref a :: r => ob (aR h a) fun x => vp_in i x.2.1 ∧ K (pc + 1) ls (va_rf (x.2.2 i.toNatClampNeg) :: r) h
    | _ => False
  | .iastore => match st with
    | .int v :: .int i :: .ref a :: r => ob (aI h a 0) fun x => vp_in i x.1 ∧ G.1 ≤ a ∧ K (pc + 1) ls r (hup h a (.inl (0, x.1, .inl (upd x.2 i.toNatClampNeg v))))
    | _ => False
  | .bastore => match st with
    | .int v :: .int i :: .ref a :: r => match aI h a 1 with
      | some x => vp_in i x.1 ∧ G.1 ≤ a ∧ K (pc + 1) ls r (hup h a (.inl (1, x.1, .inl (upd x.2 i.toNatClampNeg (vp_nar .byte v)))))
      | none => ob (aI h a 4) fun x => vp_in i x.1 ∧ G.1 ≤ a ∧ K (pc + 1) ls r (hup h a (.inl (4, x.1, .inl (upd x.2 i.toNatClampNeg (vp_nar .boolean v)))))
    | _ => False
  | .sastore => match st with
    | .int v :: .int i :: .ref a :: r => ob (aI h a 2) fun x => vp_in i x.1 ∧ G.1 ≤ a ∧ K (pc + 1) ls r (hup h a (.inl (2, x.1, .inl (upd x.2 i.toNatClampNeg (vp_nar .short v)))))
    | _ => False
  | .lastore => match st with
    | .long v :: .int i :: .ref a :: r => ob (aJ h a) fun x => vp_in i x.1 ∧ G.1 ≤ a ∧ K (pc + 1) ls r (hup h a (.inl (3, x.1, .inr (.inl (vp_updL x.2 i.toNatClampNeg v)))))
    | _ => False
  | .aastore => match st with
    | .ref v :: .int i :: .ref a :: r => ob (aR h a) fun x => vp_in i x.2.1 ∧ G.1 ≤ a ∧ ob (oF h v (aTo x.1)) fun _ => K (pc + 1) ls r (hup h a (.inl (x.1, x.2.1, .inr (.inr (.inr (.inr (va_up x.2.2 i.toNatClampNeg (some v))))))))
    | _ => False
  | .newarray at_ => match st with
    | .int n :: r => ¬ n < 0 ∧ n.toNatClampNeg ≤ 1000000 ∧ (match at_ with
      | .int => K (pc + 2) ls (.ref h.1 :: r) (hnew h (.inl (0, n.toNatClampNeg, .inl (fun _ => 0))) n.toNatClampNeg)
      | .byte => K (pc + 2) ls (.ref h.1 :: r) (hnew h (.inl (1, n.toNatClampNeg, .inl (fun _ => 0))) n.toNatClampNeg)
      | .short => K (pc + 2) ls (.ref h.1 :: r) (hnew h (.inl (2, n.toNatClampNeg, .inl (fun _ => 0))) n.toNatClampNeg)
      | .long => K (pc + 2) ls (.ref h.1 :: r) (hnew h (.inl (3, n.toNatClampNeg, .inr (.inl (fun _ => 0)))) n.toNatClampNeg)
      | .boolean => K (pc + 2) ls (.ref h.1 :: r) (hnew h (.inl (4, n.toNatClampNeg, .inl (fun _ => 0))) n.toNatClampNeg)
      | _ => False)
    | _ => False
  | .anewarray idx => ob ((pA M.1).lookup idx) fun t => match st with
    | .int n :: r => ¬ n < 0 ∧ n.toNatClampNeg ≤ 1000000 ∧ K (pc + 3) ls (.ref h.1 :: r) (hnew h (.inl (t, n.toNatClampNeg, .inr (.inr (.inr (.inr (fun _ => none)))))) n.toNatClampNeg)
    | _ => False
  | .new idx => ob ((pN M.1).lookup idx) fun ci => K (pc + 3) ls (.ref h.1 :: st) (hnew h (.inr (ci, fDef ci)) (fN ci))
  | .checkcast idx => match st with
    | .ref a :: r => M.1 = 14 ∧ idx = 317 ∧ ob (aI h a 0) fun _ => K (pc + 3) ls (.ref a :: r) h
    | _ => False
  | .ireturn => match st with | [v] => retOK M.2.2.2.2 .ireturn (some v) ∧ Q (some v) h | _ => False
  | .lreturn => match st with | [v] => retOK M.2.2.2.2 .lreturn (some v) ∧ Q (some v) h | _ => False
  | .areturn => match st with | [v] => retOK M.2.2.2.2 .areturn (some v) ∧ Q (some v) h | _ => False
  | .return_ => match st with | [] => retOK M.2.2.2.2 .return_ none ∧ Q none h | _ => False
  | i => stpS G d Cal M K i pc ls st h
/-- the instructions that look at no heap -/
def stpA (i : Instr) (n : Nat) (pc : Nat) (ls : aL) (st : List Value) (h : aH) : Prop := match i with
  | .aload_n j => match ls[j.val]? with
    | some (some (.ref a)) => K (pc + 1) ls (.ref a :: st) h
    | some (some .null) => K (pc + 1) ls (.null :: st) h
    | _ => False
  | .aload j => match ls[j]? with
    | some (some (.ref a)) => K (pc + 2) ls (.ref a :: st) h
    | some (some .null) => K (pc + 2) ls (.null :: st) h
    | _ => False
  | .iload_n j => match ls[j.val]? with
    | some (some (.int x)) => K (pc + 1) ls (.int x :: st) h
    | _ => False
  | .iload j => match ls[j]? with
    | some (some (.int x)) => K (pc + 2) ls (.int x :: st) h
    | _ => False
  | .lload_n j => match ls[j.val]? with
    | some (some (.long x)) => K (pc + 1) ls (.long x :: st) h
    | _ => False
  | .lload j => match ls[j]? with
    | some (some (.long x)) => K (pc + 2) ls (.long x :: st) h
    | _ => False
  | .istore_n j => match st with | .int x :: r => j.val < ls.length ∧ K (pc + 1) (stL ls j.val (.int x)) r h | _ => False
  | .istore j => match st with | .int x :: r => j < ls.length ∧ K (pc + 2) (stL ls j (.int x)) r h | _ => False
  | .lstore_n j => match st with | .long x :: r => j.val + 1 < ls.length ∧ K (pc + 1) (stL2 ls j.val (.long x)) r h | _ => False
  | .lstore j => match st with | .long x :: r => j + 1 < ls.length ∧ K (pc + 2) (stL2 ls j (.long x)) r h | _ => False
  | .astore_n j => match st with
    | .ref x :: r => j.val < ls.length ∧ K (pc + 1) (stL ls j.val (.ref x)) r h
    | .null :: r => j.val < ls.length ∧ K (pc + 1) (stL ls j.val .null) r h
    | _ => False
  | .astore j => match st with
    | .ref x :: r => j < ls.length ∧ K (pc + 2) (stL ls j (.ref x)) r h
    | .null :: r => j < ls.length ∧ K (pc + 2) (stL ls j .null) r h
    | _ => False
  | .iinc j c => match ls[j]? with
    | some (some (.int x)) => K (pc + 3) (stL ls j (.int (x + Int32.ofInt c))) st h
    | _ => False
  | .iconst v => K (pc + 1) ls (.int (Int32.ofInt v) :: st) h
  | .bipush v => K (pc + 2) ls (.int (Int8.ofInt v).toInt32 :: st) h
  | .sipush v => K (pc + 3) ls (.int (Int16.ofInt v).toInt32 :: st) h
  | .lconst v => K (pc + 1) ls (.long (Int64.ofNat v.val) :: st) h
  | .aconst_null => K (pc + 1) ls (.null :: st) h
  | .ldc idx => match (pK M.1).lookup idx with
    | some v => K (pc + 2) ls (.int v :: st) h
    | none => ob ((pT M.1).lookup idx) fun s => K (pc + 2) ls (.ref (G.2.2 s) :: st) h
  | .ldc_w idx => match (pK M.1).lookup idx with
    | some v => K (pc + 3) ls (.int v :: st) h
    | none => ob ((pT M.1).lookup idx) fun s => K (pc + 3) ls (.ref (G.2.2 s) :: st) h
  | .ldc2_w idx => ob ((pJ M.1).lookup idx) fun v => K (pc + 3) ls (.long v :: st) h
  | .dup => match st with | v :: r => v.category = 1 ∧ K (pc + 1) ls (v :: v :: r) h | _ => False
  | .dup2 => match st with | v :: w :: r => v.category = 1 ∧ w.category = 1 ∧ K (pc + 1) ls (v :: w :: v :: w :: r) h | _ => False
  | .pop => match st with | v :: r => v.category = 1 ∧ K (pc + 1) ls r h | _ => False
  | .iadd => match st with | .int y :: .int x :: r => K (pc + 1) ls (.int (x + y) :: r) h | _ => False
  | .isub => match st with | .int y :: .int x :: r => K (pc + 1) ls (.int (x - y) :: r) h | _ => False
  | .imul => match st with | .int y :: .int x :: r => K (pc + 1) ls (.int (x * y) :: r) h | _ => False
  | .iand => match st with | .int y :: .int x :: r => K (pc + 1) ls (.int (x &&& y) :: r) h | _ => False
  | .ior => match st with | .int y :: .int x :: r => K (pc + 1) ls (.int (x ||| y) :: r) h | _ => False
  | .ixor => match st with | .int y :: .int x :: r => K (pc + 1) ls (.int (x ^^^ y) :: r) h | _ => False
  | .idiv => match st with | .int y :: .int x :: r => ¬ y = 0 ∧ K (pc + 1) ls (.int (x / y) :: r) h | _ => False
  | .irem => match st with | .int y :: .int x :: r => ¬ y = 0 ∧ K (pc + 1) ls (.int (x - x / y * y) :: r) h | _ => False
  | .ineg => match st with | .int x :: r => K (pc + 1) ls (.int (-x) :: r) h | _ => False
  | .ishl => match st with | .int y :: .int x :: r => K (pc + 1) ls (.int (x <<< (y &&& 31)) :: r) h | _ => False
  | .ishr => match st with | .int y :: .int x :: r => K (pc + 1) ls (.int (x >>> (y &&& 31)) :: r) h | _ => False
  | .iushr => match st with | .int y :: .int x :: r => K (pc + 1) ls (.int (x.toUInt32 >>> (y.toUInt32 &&& Int32.toUInt32 31)).toInt32 :: r) h | _ => False
  | .ladd => match st with | .long y :: .long x :: r => K (pc + 1) ls (.long (x + y) :: r) h | _ => False
  | .lsub => match st with | .long y :: .long x :: r => K (pc + 1) ls (.long (x - y) :: r) h | _ => False
  | .lmul => match st with | .long y :: .long x :: r => K (pc + 1) ls (.long (x * y) :: r) h | _ => False
  | .land => match st with | .long y :: .long x :: r => K (pc + 1) ls (.long (x &&& y) :: r) h | _ => False
  | .lor => match st with | .long y :: .long x :: r => K (pc + 1) ls (.long (x ||| y) :: r) h | _ => False
  | .lxor => match st with | .long y :: .long x :: r => K (pc + 1) ls (.long (x ^^^ y) :: r) h | _ => False
  | .ldiv => match st with | .long y :: .long x :: r => ¬ y = 0 ∧ K (pc + 1) ls (.long (x / y) :: r) h | _ => False
  | .lrem => match st with | .long y :: .long x :: r => ¬ y = 0 ∧ K (pc + 1) ls (.long (x - x / y * y) :: r) h | _ => False
  | .lneg => match st with | .long x :: r => K (pc + 1) ls (.long (-x) :: r) h | _ => False
  | .lcmp => match st with | .long y :: .long x :: r => K (pc + 1) ls (.int (lg_cmp x y) :: r) h | _ => False
  | .i2l => match st with | .int x :: r => K (pc + 1) ls (.long x.toInt64 :: r) h | _ => False
  | .l2i => match st with | .long x :: r => K (pc + 1) ls (.int x.toInt32 :: r) h | _ => False
  | .i2b => match st with | .int x :: r => K (pc + 1) ls (.int x.toInt8.toInt32 :: r) h | _ => False
  | .i2s => match st with | .int x :: r => K (pc + 1) ls (.int x.toInt16.toInt32 :: r) h | _ => False
  | .ifCond .eq off => match st with | .int x :: r => braT K (x = 0) pc off ls r h | _ => False
  | .ifCond .ne off => match st with | .int x :: r => braF K (x = 0) pc off ls r h | _ => False
  | .ifCond .lt off => match st with | .int x :: r => braT K (x < 0) pc off ls r h | _ => False
  | .ifCond .ge off => match st with | .int x :: r => braT K (0 ≤ x) pc off ls r h | _ => False
  | .ifCond .gt off => match st with | .int x :: r => braT K (0 < x) pc off ls r h | _ => False
  | .ifCond .le off => match st with | .int x :: r => braT K (x ≤ 0) pc off ls r h | _ => False
  | .if_icmp .eq off => match st with | .int y :: .int x :: r => braT K (x = y) pc off ls r h | _ => False
  | .if_icmp .ne off => match st with | .int y :: .int x :: r => braF K (x = y) pc off ls r h | _ => False
  | .if_icmp .lt off => match st with | .int y :: .int x :: r => braT K (x < y) pc off ls r h | _ => False
  | .if_icmp .ge off => match st with | .int y :: .int x :: r => braT K (y ≤ x) pc off ls r h | _ => False
  | .if_icmp .gt off => match st with | .int y :: .int x :: r => braT K (y < x) pc off ls r h | _ => False
  | .if_icmp .le off => match st with | .int y :: .int x :: r => braT K (x ≤ y) pc off ls r h | _ => False
  | .ifnull off => match st with | .null :: r => jmp K pc off ls r h | .ref _ :: r => K (pc + 3) ls r h | _ => False
  | .ifnonnull off => match st with | .ref _ :: r => jmp K pc off ls r h | .null :: r => K (pc + 3) ls r h | _ => False
  | .goto off => jmp K pc off ls st h
  | .tableswitch df lo hi offs => match st with
    | .int x :: r => if x.toInt < lo ∨ hi < x.toInt then jmp K pc df ls r h else ob offs[(x.toInt - lo).toNat]? fun off => jmp K pc off ls r h
    | _ => False
  | .lookupswitch df ps => match st with
    | .int x :: r => (ps.toList.zip (ps.toList.drop 1)).all (fun (a, next) => a.1 < next.1) = true ∧ jmp K pc (Op.lookupswitch.offset ps.toList df x.toInt) ls r h
    | _ => False
  | i => stpH G d Cal M K Q i pc ls st h
def stp (r : Except DecodeError (Instr × Nat)) (pc : Nat) (ls : aL) (st : List Value) (h : aH) : Prop := match r with
  | .ok (i, n) => n = ilen i n ∧ stpA G d Cal M K Q i n pc ls st h
  | .error _ => False
end STP
