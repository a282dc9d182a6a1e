/-! the small machine's steps are the Java machine's: step by step -/
def fmtV (G : aG) : Value := if G.2.2 60 = 0 then .null else .ref (G.2.2 61)
def BA (G : aG) : Nat → Prop := fun q => G.1 ≤ q
/-- what the tables say, at a state -/
def SV (G : aG) (D : va_G) (tys : List (ClassId × FieldType)) (U : State) : Prop :=
  va_K D aC tys U ∧ tys.map (·.2) = [.int, .byte, .short, .long, .boolean, .object RX8, .object RX9, .object RX3] ∧
  (∀ c i y hst, Cond.methodLinkNest c i y hst ∈ lw_tbl → va_Nw (.methodLinkNest c i y hst) U) ∧
  (∀ C, Cond.arrayOver (.object C) ∈ lw_tbl → va_AO C U) ∧ va_Nw (.castable "[I" "java/lang/Cloneable") U ∧
  (∀ i q, sOw[i]? = some q → vk_R q.1 q.2.1 q.2.2 (G.2.2 i) U)
theorem SV.warm {G : aG} {D : va_G} {tys : List (ClassId × FieldType)} {s U : State} (hW : s.WarmedH U.vm) (h : SV G D tys s) : SV G D tys U :=
  ⟨va_K.moved hW.alike h.1, h.2.1, fun c i y hst hm => va_Nw.warmM hW (h.2.2.1 c i y hst hm), fun C hC => va_AO.moved hW.alike (h.2.2.2.1 C hC), va_Nw.warmC hW h.2.2.2.2.1, fun i q hq => vk_R.warm hW (h.2.2.2.2.2 i q hq)⟩
/-- what lies below the claim's own cells: the string constants, two statics, the script -/
def HV (G : aG) (U : State) (H : Heap) : Prop :=
  (∀ i, i < 30 → va_O "java/lang/String" (G.2.2 i) (BA G) U H ∧ va_OF "java/lang/String" "coder" "B" (.int 0) (G.2.2 i) (BA G) U H ∧ va_OF "java/lang/String" "value" "[B" (.ref (G.2.2 (30 + i))) (G.2.2 i) (BA G) U H ∧ va_T .byte (G.2.2 (30 + i)) (slen i) (fun j => .int (schr i j)) (BA G) U H) ∧
  va_Z "java/lang/String" "COMPACT_STRINGS" "Z" (.int 1) (BA G) U H ∧ va_Z "jdk/internal/util/Preconditions" "SIOOBE_FORMATTER" "Ljava/util/function/BiFunction;" (fmtV G) (BA G) U H ∧ va_X G.2.1.1 G.2.1.2.1 G.2.1.2.2 U H
def PB (G : aG) (D : va_G) (tys : List (ClassId × FieldType)) (h : aH) (U : State) : Prop := Rep G.1 D tys h U.heap ∧ SV G D tys U ∧ HV G U U.heap ∧ G.2.1.1 < G.1 ∧ G.1 ≤ h.1
def QM (G : aG) (D : va_G) (tys : List (ClassId × FieldType)) (r : Option Value) (h : aH) : Array Value → State → Outcome → State → Prop := fun _ st o t => o = .returned r ∧ Rep G.1 D tys h t.heap ∧ va_F (BA G) st t
/-- a walk's standing: heap, frame, locals -/
def St (G : aG) (D : va_G) (tys : List (ClassId × FieldType)) (M : aM) (s : State) (sl0 : Nat) (h : aH) (H : Heap) (locs : List Loc) (lsA : Array Slot) (ls : aL) : Prop :=
  Rep G.1 D tys h H ∧ va_S (BA G) s.heap H locs ∧ LH lsA ls ∧ ls.length = M.2.2.2.1 ∧ sl0 ≤ h.2.2 ∧ s.heap.size ≤ h.1
/-- what a method's body may take for granted; the end Qf is reached from a return with r1 over h1 -/
def Cx (G : aG) (d : Nat) (M : aM) (r1 : Option Value) (h1 : aH) (D : va_G) (tys : List (ClassId × FieldType)) (p : Program) (l : Launch) (e : Env) (R : Room) (s : State) (m : MethodId) (args : Array Value) (below : List Frame) (meth : Method) (c : Code) (sl0 : Nat) (Qf : State → Prop) : Prop :=
  p.tables.exec = Jvm.exec ∧ c.code = M.2.2.1 ∧ c.maxLocals = M.2.2.2.1 ∧ s.vm.findClass (cNm M.1) = some m.cls ∧ (∀ w ∈ TT, w.before args s = true) ∧ (M.2.1.name = "<init>" → meth.name = "<init>") ∧ SV G D tys s ∧ HV G s s.heap ∧ d ≤ R.frames ∧ 60 * d ≤ R.locals ∧
  h1.1 - s.heap.size ≤ R.cells ∧ h1.2.2 - sl0 ≤ R.slots ∧ G.2.1.1 < G.1 ∧ G.1 ≤ s.heap.size ∧
  (∀ (H : Heap) (locs : List Loc) (lsA : Array Slot) (pc : Nat) (i : Instr), decode M.2.2.1 pc = .ok (i, 1) → retOK M.2.2.2.2 i r1 → Rep G.1 D tys h1 H → va_S (BA G) s.heap H locs → W p l e R s m args below meth c H locs (h1.1 - s.heap.size) (h1.2.2 - sl0) Qf (F0 m pc lsA r1.toList))
def WW (G : aG) (d : Nat) (M : aM) (r1 : Option Value) (h1 : aH) (pc : Nat) (ls : aL) (st : List Value) (h : aH) : Prop :=
  h.1 ≤ h1.1 ∧ h.2.2 ≤ h1.2.2 ∧ ∀ D tys p l e R s m args below meth c sl0 Qf, Cx G d M r1 h1 D tys p l e R s m args below meth c sl0 Qf → ∀ H locs lsA, St G D tys M s sl0 h H locs lsA ls →
    W p l e R s m args below meth c H locs (h.1 - s.heap.size) (h.2.2 - sl0) Qf (F0 m pc lsA st)
/-- a step that looks at no heap and writes no local -/
theorem ww_same {G : aG} {d : Nat} {M : aM} {r1 : Option Value} {h1 : aH} {pc pc' : Nat} {ls : aL} {st st' : List Value} {h : aH}
    (f : ∀ (p : Program) (l : Launch) (e : Env) (R : Room) (s : State) (m : MethodId) (args : Array Value) (below : List Frame) (meth : Method) (c : Code) (Qf : State → Prop) (H : Heap) (locs : List Loc) (cells slots : Nat) (lsA : Array Slot), p.tables.exec = Jvm.exec → c.code = M.2.2.1 → LH lsA ls → s.vm.findClass (cNm M.1) = some m.cls → (∀ w ∈ TT, w.before args s = true) → (∀ i q, sOw[i]? = some q → vk_R q.1 q.2.1 q.2.2 (G.2.2 i) s) →
      W p l e R s m args below meth c H locs cells slots Qf (F0 m pc' lsA st') → W p l e R s m args below meth c H locs cells slots Qf (F0 m pc lsA st))
    (hw : WW G d M r1 h1 pc' ls st' h) : WW G d M r1 h1 pc ls st h :=
  ⟨hw.1, hw.2.1, fun D tys p l e R s m args below meth c sl0 Qf C H locs lsA S => f p l e R s m args below meth c Qf H locs _ _ lsA C.1 C.2.1 S.2.2.1 C.2.2.2.1 C.2.2.2.2.1 C.2.2.2.2.2.2.1.2.2.2.2.2 (hw.2.2 D tys p l e R s m args below meth c sl0 Qf C H locs lsA S)⟩
/-- a step that writes a local -/
theorem ww_store {G : aG} {d : Nat} {M : aM} {r1 : Option Value} {h1 : aH} {pc pc' : Nat} {ls ls' : aL} {st st' : List Value} {h : aH} (hlen : ls'.length = ls.length)
    (f : ∀ (p : Program) (l : Launch) (e : Env) (R : Room) (s : State) (m : MethodId) (args : Array Value) (below : List Frame) (meth : Method) (c : Code) (Qf : State → Prop) (H : Heap) (locs : List Loc) (cells slots : Nat) (lsA : Array Slot), p.tables.exec = Jvm.exec → c.code = M.2.2.1 → LH lsA ls →
      (∀ lsB, LH lsB ls' → W p l e R s m args below meth c H locs cells slots Qf (F0 m pc' lsB st')) → W p l e R s m args below meth c H locs cells slots Qf (F0 m pc lsA st))
    (hw : WW G d M r1 h1 pc' ls' st' h) : WW G d M r1 h1 pc ls st h :=
  ⟨hw.1, hw.2.1, fun D tys p l e R s m args below meth c sl0 Qf C H locs lsA S => f p l e R s m args below meth c Qf H locs _ _ lsA C.1 C.2.1 S.2.2.1 (fun lsB hB => hw.2.2 D tys p l e R s m args below meth c sl0 Qf C H locs lsB ⟨S.1, S.2.1, hB, hlen.trans S.2.2.2.1, S.2.2.2.2.1, S.2.2.2.2.2⟩)⟩
def SA (G : aG) (d : Nat) (M : aM) (Q : aQ) (pc : Nat) (ls : aL) (st : List Value) (h : aH) : Prop := ∃ r1 h1, Q r1 h1 ∧ WW G d M r1 h1 pc ls st h
theorem SA.step {G : aG} {d : Nat} {M : aM} {Q : aQ} {pc pc' : Nat} {ls ls' : aL} {st st' : List Value} {h h' : aH} (f : ∀ r1 h1, WW G d M r1 h1 pc' ls' st' h' → WW G d M r1 h1 pc ls st h) (hs : SA G d M Q pc' ls' st' h') : SA G d M Q pc ls st h := by
  obtain ⟨r1, h1, hq, hw⟩ := hs
  exact ⟨r1, h1, hq, f r1 h1 hw⟩
theorem jmp_eq {pc : Nat} {off : Int} (h : 0 ≤ (pc : Int) + off) : (pc : Int) + off = ((tgt pc off : Nat) : Int) := by
  unfold tgt
  exact (Int.toNat_of_nonneg h).symm
theorem my_ldcwS {p : Program} {l : Launch} {e : Env} {R : Room} {s : State} {m : MethodId} {args : Array Value} {below : List Frame} {meth : Method} {c : Code} {H : Heap} {locs : List Loc} {cells slots : Nat} {Q : State → Prop} {cc : ByteArray} {pc : Nat} {ls : Array Slot} {rest : List Value} (hexec : p.tables.exec = Jvm.exec) (hb : c.code = cc) {own tx : String} {index q : Nat} (hown : s.vm.findClass own = some m.cls) (hZ : vk_R own index tx q s) (hdg : decode cc pc = .ok (.ldc_w index, 3))
    (k : W p l e R s m args below meth c H locs cells slots Q (F0 m (pc + 3) ls (.ref q :: rest))) : W p l e R s m args below meth c H locs cells slots Q (F0 m pc ls rest) := by
  intro T hT X
  obtain ⟨t, a1, b1⟩ := k T hT X
  obtain ⟨k0, cf, i, a', hk, hcf, hcp, -, hr, hev'⟩ := Cond.stringRef_spec hown hZ.1
  cases hZ.2.symm.trans hev'
  obtain ⟨k', hk', he⟩ := X.warmed.alike.2.2 _ _ hk
  have hr' : k'.resolved[index]? = some (some (.string q)) := by
    rcases X.warmed.entry hk hk' index with h | ⟨h, -⟩
    · rw [h]; exact hr
    · rw [hr] at h; cases h
  refine ⟨t, ?_, b1⟩
  subst hb
  jvm_step X.here [hexec, hdg, ldc_w.wp_string (e := e) (s := T) (f := F0 m pc ls rest) X.here.top hk' (by rw [he]; exact hcf) hcp hr']
  exact a1
theorem lk_mem {α : Type} {l : List (Nat × α)} {k : Nat} {v : α} (h : l.lookup k = some v) : (k, v) ∈ l := by
  induction l with
  | nil => cases h
  | cons a l ih =>
    obtain ⟨j, w⟩ := a
    rw [List.lookup_cons] at h
    by_cases e : k = j
    · subst e
      simp at h
      subst h
      exact List.mem_cons_self
    · have e2 : (k == j) = false := by simpa using e
      rw [e2] at h
      exact List.mem_cons_of_mem _ (ih h)
theorem ob_at {α : Type} {o : Option α} {K : α → Prop} (h : ob o K) : ∃ x, o = some x ∧ K x := by
  cases o with
  | none => exact h.elim
  | some x => exact ⟨x, rfl, h⟩
set_option maxHeartbeats 8000000 in
theorem snd_A {G : aG} {d : Nat} {Cal : aM → List Value → aH → aQ → Prop} {M : aM} {K : Nat → aL → List Value → aH → Prop} {Q : aQ} (tK : ∀ c, ∀ q ∈ pK c, okK c q) (tJ : ∀ c, ∀ q ∈ pJ c, okJ c q) (tT : ∀ c, ∀ q ∈ pT c, q.2 < 30 ∧ ∃ t, sOw[q.2]? = some (cNm c, q.1, t))
    (hK : ∀ pc ls st h, K pc ls st h → SA G d M Q pc ls st h) {i : Instr} {n pc : Nat} {ls : aL} {st : List Value} {h : aH} (hd : decode M.2.2.1 pc = .ok (i, n)) (hn : n = ilen i n)
    (hH : stpH G d Cal M K Q i pc ls st h → SA G d M Q pc ls st h) (hw : stpA G d Cal M K Q i n pc ls st h) : SA G d M Q pc ls st h := by
  unfold stpA at hw
  have jm : ∀ {off : Int} {ls : aL} {st : List Value} {h : aH}, jmp K pc off ls st h → (pc : Int) + off = ((tgt pc off : Nat) : Int) ∧ SA G d M Q (tgt pc off) ls st h := fun hj => ⟨jmp_eq hj.1, hK _ _ _ _ hj.2⟩
  split at hw
  · have hn : n = 1 := hn
    subst hn
    split at hw
    · rename_i hl
      exact SA.step (fun r1 h1 => ww_same (fun p l e R s m args below meth c Qf H locs cells slots lsA hx hb hL hown hts hvk k => lv_aload_n hx hb hd rfl (hL.at hl) k)) (hK _ _ _ _ hw)
    · rename_i hl
      exact SA.step (fun r1 h1 => ww_same (fun p l e R s m args below meth c Qf H locs cells slots lsA hx hb hL hown hts hvk k => lv_aload_nN hx hb hd rfl (hL.at hl) k)) (hK _ _ _ _ hw)
    · exact hw.elim
  · have hn : n = 2 := hn
    subst hn
    split at hw
    · rename_i hl
      exact SA.step (fun r1 h1 => ww_same (fun p l e R s m args below meth c Qf H locs cells slots lsA hx hb hL hown hts hvk k => lv_aload hx hb hd (hL.at hl) k)) (hK _ _ _ _ hw)
    · rename_i hl
      exact SA.step (fun r1 h1 => ww_same (fun p l e R s m args below meth c Qf H locs cells slots lsA hx hb hL hown hts hvk k => lv_aloadN hx hb hd (hL.at hl) k)) (hK _ _ _ _ hw)
    · exact hw.elim
  · have hn : n = 1 := hn
    subst hn
    split at hw
    · rename_i hl
      exact SA.step (fun r1 h1 => ww_same (fun p l e R s m args below meth c Qf H locs cells slots lsA hx hb hL hown hts hvk k => lv_iload_n hx hb hd rfl (hL.at hl) k)) (hK _ _ _ _ hw)
    · exact hw.elim
  · have hn : n = 2 := hn
    subst hn
    split at hw
    · rename_i hl
      exact SA.step (fun r1 h1 => ww_same (fun p l e R s m args below meth c Qf H locs cells slots lsA hx hb hL hown hts hvk k => lv_iload hx hb hd (hL.at hl) k)) (hK _ _ _ _ hw)
    · exact hw.elim
  · have hn : n = 1 := hn
    subst hn
    split at hw
    · rename_i hl
      exact SA.step (fun r1 h1 => ww_same (fun p l e R s m args below meth c Qf H locs cells slots lsA hx hb hL hown hts hvk k => lv_lload_n hx hb hd rfl (hL.at hl) k)) (hK _ _ _ _ hw)
    · exact hw.elim
  · have hn : n = 2 := hn
    subst hn
    split at hw
    · rename_i hl
      exact SA.step (fun r1 h1 => ww_same (fun p l e R s m args below meth c Qf H locs cells slots lsA hx hb hL hown hts hvk k => lv_lload hx hb hd (hL.at hl) k)) (hK _ _ _ _ hw)
    · exact hw.elim
  · have hn : n = 1 := hn
    subst hn
    split at hw
    · exact SA.step (fun r1 h1 => ww_store (stL_len _ _ _) (fun p l e R s m args below meth c Qf H locs cells slots lsA hx hb hL k => lv_istore_n hx hb hd rfl hL hw.1 rfl (fun lsB hB => k lsB (stL_has hB)))) (hK _ _ _ _ hw.2)
    · exact hw.elim
  · have hn : n = 2 := hn
    subst hn
    split at hw
    · exact SA.step (fun r1 h1 => ww_store (stL_len _ _ _) (fun p l e R s m args below meth c Qf H locs cells slots lsA hx hb hL k => lv_istore hx hb hd  hL hw.1 rfl (fun lsB hB => k lsB (stL_has hB)))) (hK _ _ _ _ hw.2)
    · exact hw.elim
  · have hn : n = 1 := hn
    subst hn
    split at hw
    · exact SA.step (fun r1 h1 => ww_store (stL2_len _ _ _) (fun p l e R s m args below meth c Qf H locs cells slots lsA hx hb hL k => lv_lstore_n hx hb hd rfl hL hw.1 rfl (fun lsB hB => k lsB (stL2_has hB)))) (hK _ _ _ _ hw.2)
    · exact hw.elim
  · have hn : n = 2 := hn
    subst hn
    split at hw
    · exact SA.step (fun r1 h1 => ww_store (stL2_len _ _ _) (fun p l e R s m args below meth c Qf H locs cells slots lsA hx hb hL k => lv_lstore hx hb hd  hL hw.1 rfl (fun lsB hB => k lsB (stL2_has hB)))) (hK _ _ _ _ hw.2)
    · exact hw.elim
  · have hn : n = 1 := hn
    subst hn
    split at hw
    · exact SA.step (fun r1 h1 => ww_store (stL_len _ _ _) (fun p l e R s m args below meth c Qf H locs cells slots lsA hx hb hL k => lv_astore_n hx hb hd rfl hL hw.1 rfl (fun lsB hB => k lsB (stL_has hB)))) (hK _ _ _ _ hw.2)
    · exact SA.step (fun r1 h1 => ww_store (stL_len _ _ _) (fun p l e R s m args below meth c Qf H locs cells slots lsA hx hb hL k => lv_astore_nN hx hb hd rfl hL hw.1 rfl (fun lsB hB => k lsB (stL_has hB)))) (hK _ _ _ _ hw.2)
    · exact hw.elim
  · have hn : n = 2 := hn
    subst hn
    split at hw
    · exact SA.step (fun r1 h1 => ww_store (stL_len _ _ _) (fun p l e R s m args below meth c Qf H locs cells slots lsA hx hb hL k => lv_astore hx hb hd  hL hw.1 rfl (fun lsB hB => k lsB (stL_has hB)))) (hK _ _ _ _ hw.2)
    · exact SA.step (fun r1 h1 => ww_store (stL_len _ _ _) (fun p l e R s m args below meth c Qf H locs cells slots lsA hx hb hL k => lv_astoreN hx hb hd  hL hw.1 rfl (fun lsB hB => k lsB (stL_has hB)))) (hK _ _ _ _ hw.2)
    · exact hw.elim
  · have hn : n = 3 := hn
    subst hn
    split at hw
    · rename_i hl
      obtain ⟨q, hq⟩ := List.getElem?_of_mem (mem_posl.mpr hl)
      exact SA.step (fun r1 h1 => ww_store (stL_len _ _ _) (fun p l e R s m args below meth c Qf H locs cells slots lsA hx hb hL k => lv_iinc hx hb hd hL hq rfl (List.getElem?_eq_some_iff.mp hl).1 rfl (fun lsB hB => k lsB (stL_has hB)))) (hK _ _ _ _ hw)
    · exact hw.elim
  · have hn : n = 1 := hn
    subst hn
    exact SA.step (fun r1 h1 => ww_same (fun p l e R s m args below meth c Qf H locs cells slots lsA hx hb hL hown hts hvk k => lv_iconst hx hb hd rfl k)) (hK _ _ _ _ hw)
  · have hn : n = 2 := hn
    subst hn
    exact SA.step (fun r1 h1 => ww_same (fun p l e R s m args below meth c Qf H locs cells slots lsA hx hb hL hown hts hvk k => lv_bipush hx hb hd rfl k)) (hK _ _ _ _ hw)
  · have hn : n = 3 := hn
    subst hn
    exact SA.step (fun r1 h1 => ww_same (fun p l e R s m args below meth c Qf H locs cells slots lsA hx hb hL hown hts hvk k => lv_sipush hx hb hd rfl k)) (hK _ _ _ _ hw)
  · have hn : n = 1 := hn
    subst hn
    exact SA.step (fun r1 h1 => ww_same (fun p l e R s m args below meth c Qf H locs cells slots lsA hx hb hL hown hts hvk k => lv_lconst hx hb hd rfl k)) (hK _ _ _ _ hw)
  · have hn : n = 1 := hn
    subst hn
    exact SA.step (fun r1 h1 => ww_same (fun p l e R s m args below meth c Qf H locs cells slots lsA hx hb hL hown hts hvk k => lv_null hx hb hd k)) (hK _ _ _ _ hw)
  · have hn : n = 2 := hn
    subst hn
    split at hw
    · rename_i hl
      exact SA.step (fun r1 h1 => ww_same (fun p l e R s m args below meth c Qf H locs cells slots lsA hx hb hL hown hts hvk k => lv_ldc hx hb hown (hts _ (tK _ _ (lk_mem hl))) hd k)) (hK _ _ _ _ hw)
    · obtain ⟨q, hq, hw⟩ := ob_at hw
      obtain ⟨h30, t, ht⟩ := tT _ _ (lk_mem hq)
      exact SA.step (fun r1 h1 => ww_same (fun p l e R s m args below meth c Qf H locs cells slots lsA hx hb hL hown hts hvk k => va_ldcS hx hb hown (hvk _ _ ht) hd k)) (hK _ _ _ _ hw)
  · have hn : n = 3 := hn
    subst hn
    split at hw
    · rename_i hl
      exact SA.step (fun r1 h1 => ww_same (fun p l e R s m args below meth c Qf H locs cells slots lsA hx hb hL hown hts hvk k => lv_ldcw hx hb hown (hts _ (tK _ _ (lk_mem hl))) hd k)) (hK _ _ _ _ hw)
    · obtain ⟨q, hq, hw⟩ := ob_at hw
      obtain ⟨h30, t, ht⟩ := tT _ _ (lk_mem hq)
      exact SA.step (fun r1 h1 => ww_same (fun p l e R s m args below meth c Qf H locs cells slots lsA hx hb hL hown hts hvk k => my_ldcwS hx hb hown (hvk _ _ ht) hd k)) (hK _ _ _ _ hw)
  · have hn : n = 3 := hn
    subst hn
    obtain ⟨q, hq, hw⟩ := ob_at hw
    exact SA.step (fun r1 h1 => ww_same (fun p l e R s m args below meth c Qf H locs cells slots lsA hx hb hL hown hts hvk k => lv_ldc2 hx hb hown (hts _ (tJ _ _ (lk_mem hq))) hd k)) (hK _ _ _ _ hw)
  · have hn : n = 1 := hn
    subst hn
    split at hw
    · exact SA.step (fun r1 h1 => ww_same (fun p l e R s m args below meth c Qf H locs cells slots lsA hx hb hL hown hts hvk k => lv_dup hx hb hd hw.1 k)) (hK _ _ _ _ hw.2)
    · exact hw.elim
  · have hn : n = 1 := hn
    subst hn
    split at hw
    · exact SA.step (fun r1 h1 => ww_same (fun p l e R s m args below meth c Qf H locs cells slots lsA hx hb hL hown hts hvk k => lv_dup2_11 hx hb hd hw.1 hw.2.1 k)) (hK _ _ _ _ hw.2.2)
    · exact hw.elim
  · have hn : n = 1 := hn
    subst hn
    split at hw
    · exact SA.step (fun r1 h1 => ww_same (fun p l e R s m args below meth c Qf H locs cells slots lsA hx hb hL hown hts hvk k => lv_pop hx hb hd hw.1 k)) (hK _ _ _ _ hw.2)
    · exact hw.elim
  · have hn : n = 1 := hn
    subst hn
    split at hw
    · exact SA.step (fun r1 h1 => ww_same (fun p l e R s m args below meth c Qf H locs cells slots lsA hx hb hL hown hts hvk k => lv_iadd hx hb hd k)) (hK _ _ _ _ hw)
    · exact hw.elim
  · have hn : n = 1 := hn
    subst hn
    split at hw
    · exact SA.step (fun r1 h1 => ww_same (fun p l e R s m args below meth c Qf H locs cells slots lsA hx hb hL hown hts hvk k => lv_isub hx hb hd k)) (hK _ _ _ _ hw)
    · exact hw.elim
  · have hn : n = 1 := hn
    subst hn
    split at hw
    · exact SA.step (fun r1 h1 => ww_same (fun p l e R s m args below meth c Qf H locs cells slots lsA hx hb hL hown hts hvk k => lv_imul hx hb hd k)) (hK _ _ _ _ hw)
    · exact hw.elim
  · have hn : n = 1 := hn
    subst hn
    split at hw
    · exact SA.step (fun r1 h1 => ww_same (fun p l e R s m args below meth c Qf H locs cells slots lsA hx hb hL hown hts hvk k => lv_iand hx hb hd k)) (hK _ _ _ _ hw)
    · exact hw.elim
  · have hn : n = 1 := hn
    subst hn
    split at hw
    · exact SA.step (fun r1 h1 => ww_same (fun p l e R s m args below meth c Qf H locs cells slots lsA hx hb hL hown hts hvk k => lv_ior hx hb hd k)) (hK _ _ _ _ hw)
    · exact hw.elim
  · have hn : n = 1 := hn
    subst hn
    split at hw
    · exact SA.step (fun r1 h1 => ww_same (fun p l e R s m args below meth c Qf H locs cells slots lsA hx hb hL hown hts hvk k => lv_ixor hx hb hd k)) (hK _ _ _ _ hw)
    · exact hw.elim
  · have hn : n = 1 := hn
    subst hn
    split at hw
    · exact SA.step (fun r1 h1 => ww_same (fun p l e R s m args below meth c Qf H locs cells slots lsA hx hb hL hown hts hvk k => lv_idiv hx hb hd hw.1 k)) (hK _ _ _ _ hw.2)
    · exact hw.elim
  · have hn : n = 1 := hn
    subst hn
    split at hw
    · exact SA.step (fun r1 h1 => ww_same (fun p l e R s m args below meth c Qf H locs cells slots lsA hx hb hL hown hts hvk k => lv_irem hx hb hd hw.1 k)) (hK _ _ _ _ hw.2)
    · exact hw.elim
  · have hn : n = 1 := hn
    subst hn
    split at hw
    · exact SA.step (fun r1 h1 => ww_same (fun p l e R s m args below meth c Qf H locs cells slots lsA hx hb hL hown hts hvk k => lv_ineg hx hb hd k)) (hK _ _ _ _ hw)
    · exact hw.elim
  · have hn : n = 1 := hn
    subst hn
    split at hw
    · exact SA.step (fun r1 h1 => ww_same (fun p l e R s m args below meth c Qf H locs cells slots lsA hx hb hL hown hts hvk k => lv_ishl hx hb hd k)) (hK _ _ _ _ hw)
    · exact hw.elim
  · have hn : n = 1 := hn
    subst hn
    split at hw
    · exact SA.step (fun r1 h1 => ww_same (fun p l e R s m args below meth c Qf H locs cells slots lsA hx hb hL hown hts hvk k => lv_ishr hx hb hd k)) (hK _ _ _ _ hw)
    · exact hw.elim
  · have hn : n = 1 := hn
    subst hn
    split at hw
    · exact SA.step (fun r1 h1 => ww_same (fun p l e R s m args below meth c Qf H locs cells slots lsA hx hb hL hown hts hvk k => lv_iushr hx hb hd rfl k)) (hK _ _ _ _ hw)
    · exact hw.elim
  · have hn : n = 1 := hn
    subst hn
    split at hw
    · exact SA.step (fun r1 h1 => ww_same (fun p l e R s m args below meth c Qf H locs cells slots lsA hx hb hL hown hts hvk k => lv_ladd hx hb hd k)) (hK _ _ _ _ hw)
    · exact hw.elim
  · have hn : n = 1 := hn
    subst hn
    split at hw
    · exact SA.step (fun r1 h1 => ww_same (fun p l e R s m args below meth c Qf H locs cells slots lsA hx hb hL hown hts hvk k => lv_lsub hx hb hd k)) (hK _ _ _ _ hw)
    · exact hw.elim
  · have hn : n = 1 := hn
    subst hn
    split at hw
    · exact SA.step (fun r1 h1 => ww_same (fun p l e R s m args below meth c Qf H locs cells slots lsA hx hb hL hown hts hvk k => lv_lmul hx hb hd k)) (hK _ _ _ _ hw)
    · exact hw.elim
  · have hn : n = 1 := hn
    subst hn
    split at hw
    · exact SA.step (fun r1 h1 => ww_same (fun p l e R s m args below meth c Qf H locs cells slots lsA hx hb hL hown hts hvk k => lv_land hx hb hd k)) (hK _ _ _ _ hw)
    · exact hw.elim
  · have hn : n = 1 := hn
    subst hn
    split at hw
    · exact SA.step (fun r1 h1 => ww_same (fun p l e R s m args below meth c Qf H locs cells slots lsA hx hb hL hown hts hvk k => lv_lor hx hb hd k)) (hK _ _ _ _ hw)
    · exact hw.elim
  · have hn : n = 1 := hn
    subst hn
    split at hw
    · exact SA.step (fun r1 h1 => ww_same (fun p l e R s m args below meth c Qf H locs cells slots lsA hx hb hL hown hts hvk k => lv_lxor hx hb hd k)) (hK _ _ _ _ hw)
    · exact hw.elim
  · have hn : n = 1 := hn
    subst hn
    split at hw
    · exact SA.step (fun r1 h1 => ww_same (fun p l e R s m args below meth c Qf H locs cells slots lsA hx hb hL hown hts hvk k => lv_ldiv hx hb hd hw.1 k)) (hK _ _ _ _ hw.2)
    · exact hw.elim
  · have hn : n = 1 := hn
    subst hn
    split at hw
    · exact SA.step (fun r1 h1 => ww_same (fun p l e R s m args below meth c Qf H locs cells slots lsA hx hb hL hown hts hvk k => lv_lrem hx hb hd hw.1 k)) (hK _ _ _ _ hw.2)
    · exact hw.elim
  · have hn : n = 1 := hn
    subst hn
    split at hw
    · exact SA.step (fun r1 h1 => ww_same (fun p l e R s m args below meth c Qf H locs cells slots lsA hx hb hL hown hts hvk k => lv_lneg hx hb hd k)) (hK _ _ _ _ hw)
    · exact hw.elim
  · have hn : n = 1 := hn
    subst hn
    split at hw
    · exact SA.step (fun r1 h1 => ww_same (fun p l e R s m args below meth c Qf H locs cells slots lsA hx hb hL hown hts hvk k => W.lcmp hx hb hd k)) (hK _ _ _ _ hw)
    · exact hw.elim
  · have hn : n = 1 := hn
    subst hn
    split at hw
    · exact SA.step (fun r1 h1 => ww_same (fun p l e R s m args below meth c Qf H locs cells slots lsA hx hb hL hown hts hvk k => lv_i2l hx hb hd rfl k)) (hK _ _ _ _ hw)
    · exact hw.elim
  · have hn : n = 1 := hn
    subst hn
    split at hw
    · exact SA.step (fun r1 h1 => ww_same (fun p l e R s m args below meth c Qf H locs cells slots lsA hx hb hL hown hts hvk k => lv_l2i hx hb hd rfl k)) (hK _ _ _ _ hw)
    · exact hw.elim
  · have hn : n = 1 := hn
    subst hn
    split at hw
    · exact SA.step (fun r1 h1 => ww_same (fun p l e R s m args below meth c Qf H locs cells slots lsA hx hb hL hown hts hvk k => lv_i2b hx hb hd rfl k)) (hK _ _ _ _ hw)
    · exact hw.elim
  · have hn : n = 1 := hn
    subst hn
    split at hw
    · exact SA.step (fun r1 h1 => ww_same (fun p l e R s m args below meth c Qf H locs cells slots lsA hx hb hL hown hts hvk k => lv_i2s hx hb hd rfl k)) (hK _ _ _ _ hw)
    · exact hw.elim
  · have hn : n = 3 := hn
    subst hn
    split at hw
    · obtain ⟨ht, hw⟩ := hw
      have ht := jmp_eq ht
      split at hw
      · rename_i hc
        exact SA.step (fun r1 h1 => ww_same (fun p l e R s m args below meth c Qf H locs cells slots lsA hx hb hL hown hts hvk k => lv_if_eq hx hb hd ht (fun _ => k) (fun z => absurd hc z))) (hK _ _ _ _ hw)
      · rename_i hc
        exact SA.step (fun r1 h1 => ww_same (fun p l e R s m args below meth c Qf H locs cells slots lsA hx hb hL hown hts hvk k => lv_if_eq hx hb hd ht (fun z => absurd z hc) (fun _ => k))) (hK _ _ _ _ hw)
    · exact hw.elim
  · have hn : n = 3 := hn
    subst hn
    split at hw
    · obtain ⟨ht, hw⟩ := hw
      have ht := jmp_eq ht
      split at hw
      · rename_i hc
        exact SA.step (fun r1 h1 => ww_same (fun p l e R s m args below meth c Qf H locs cells slots lsA hx hb hL hown hts hvk k => lv_if_ne hx hb hd ht (fun z => absurd hc z) (fun _ => k))) (hK _ _ _ _ hw)
      · rename_i hc
        exact SA.step (fun r1 h1 => ww_same (fun p l e R s m args below meth c Qf H locs cells slots lsA hx hb hL hown hts hvk k => lv_if_ne hx hb hd ht (fun _ => k) (fun z => absurd z hc))) (hK _ _ _ _ hw)
    · exact hw.elim
  · have hn : n = 3 := hn
    subst hn
    split at hw
    · obtain ⟨ht, hw⟩ := hw
      have ht := jmp_eq ht
      split at hw
      · rename_i hc
        exact SA.step (fun r1 h1 => ww_same (fun p l e R s m args below meth c Qf H locs cells slots lsA hx hb hL hown hts hvk k => lv_if_lt hx hb hd ht (fun _ => k) (fun z => absurd hc z))) (hK _ _ _ _ hw)
      · rename_i hc
        exact SA.step (fun r1 h1 => ww_same (fun p l e R s m args below meth c Qf H locs cells slots lsA hx hb hL hown hts hvk k => lv_if_lt hx hb hd ht (fun z => absurd z hc) (fun _ => k))) (hK _ _ _ _ hw)
    · exact hw.elim
  · have hn : n = 3 := hn
    subst hn
    split at hw
    · obtain ⟨ht, hw⟩ := hw
      have ht := jmp_eq ht
      split at hw
      · rename_i hc
        exact SA.step (fun r1 h1 => ww_same (fun p l e R s m args below meth c Qf H locs cells slots lsA hx hb hL hown hts hvk k => lv_if_ge hx hb hd ht (fun _ => k) (fun z => absurd hc z))) (hK _ _ _ _ hw)
      · rename_i hc
        exact SA.step (fun r1 h1 => ww_same (fun p l e R s m args below meth c Qf H locs cells slots lsA hx hb hL hown hts hvk k => lv_if_ge hx hb hd ht (fun z => absurd z hc) (fun _ => k))) (hK _ _ _ _ hw)
    · exact hw.elim
  · have hn : n = 3 := hn
    subst hn
    split at hw
    · obtain ⟨ht, hw⟩ := hw
      have ht := jmp_eq ht
      split at hw
      · rename_i hc
        exact SA.step (fun r1 h1 => ww_same (fun p l e R s m args below meth c Qf H locs cells slots lsA hx hb hL hown hts hvk k => lv_if_gt hx hb hd ht (fun _ => k) (fun z => absurd hc z))) (hK _ _ _ _ hw)
      · rename_i hc
        exact SA.step (fun r1 h1 => ww_same (fun p l e R s m args below meth c Qf H locs cells slots lsA hx hb hL hown hts hvk k => lv_if_gt hx hb hd ht (fun z => absurd z hc) (fun _ => k))) (hK _ _ _ _ hw)
    · exact hw.elim
  · have hn : n = 3 := hn
    subst hn
    split at hw
    · obtain ⟨ht, hw⟩ := hw
      have ht := jmp_eq ht
      split at hw
      · rename_i hc
        exact SA.step (fun r1 h1 => ww_same (fun p l e R s m args below meth c Qf H locs cells slots lsA hx hb hL hown hts hvk k => lv_if_le hx hb hd ht (fun _ => k) (fun z => absurd hc z))) (hK _ _ _ _ hw)
      · rename_i hc
        exact SA.step (fun r1 h1 => ww_same (fun p l e R s m args below meth c Qf H locs cells slots lsA hx hb hL hown hts hvk k => lv_if_le hx hb hd ht (fun z => absurd z hc) (fun _ => k))) (hK _ _ _ _ hw)
    · exact hw.elim
  · have hn : n = 3 := hn
    subst hn
    split at hw
    · obtain ⟨ht, hw⟩ := hw
      have ht := jmp_eq ht
      split at hw
      · rename_i hc
        exact SA.step (fun r1 h1 => ww_same (fun p l e R s m args below meth c Qf H locs cells slots lsA hx hb hL hown hts hvk k => lv_icmp_eq hx hb hd ht (fun _ => k) (fun z => absurd hc z))) (hK _ _ _ _ hw)
      · rename_i hc
        exact SA.step (fun r1 h1 => ww_same (fun p l e R s m args below meth c Qf H locs cells slots lsA hx hb hL hown hts hvk k => lv_icmp_eq hx hb hd ht (fun z => absurd z hc) (fun _ => k))) (hK _ _ _ _ hw)
    · exact hw.elim
  · have hn : n = 3 := hn
    subst hn
    split at hw
    · obtain ⟨ht, hw⟩ := hw
      have ht := jmp_eq ht
      split at hw
      · rename_i hc
        exact SA.step (fun r1 h1 => ww_same (fun p l e R s m args below meth c Qf H locs cells slots lsA hx hb hL hown hts hvk k => lv_icmp_ne hx hb hd ht (fun z => absurd hc z) (fun _ => k))) (hK _ _ _ _ hw)
      · rename_i hc
        exact SA.step (fun r1 h1 => ww_same (fun p l e R s m args below meth c Qf H locs cells slots lsA hx hb hL hown hts hvk k => lv_icmp_ne hx hb hd ht (fun _ => k) (fun z => absurd z hc))) (hK _ _ _ _ hw)
    · exact hw.elim
  · have hn : n = 3 := hn
    subst hn
    split at hw
    · obtain ⟨ht, hw⟩ := hw
      have ht := jmp_eq ht
      split at hw
      · rename_i hc
        exact SA.step (fun r1 h1 => ww_same (fun p l e R s m args below meth c Qf H locs cells slots lsA hx hb hL hown hts hvk k => lv_icmp_lt hx hb hd ht (fun _ => k) (fun z => absurd hc z))) (hK _ _ _ _ hw)
      · rename_i hc
        exact SA.step (fun r1 h1 => ww_same (fun p l e R s m args below meth c Qf H locs cells slots lsA hx hb hL hown hts hvk k => lv_icmp_lt hx hb hd ht (fun z => absurd z hc) (fun _ => k))) (hK _ _ _ _ hw)
    · exact hw.elim
  · have hn : n = 3 := hn
    subst hn
    split at hw
    · obtain ⟨ht, hw⟩ := hw
      have ht := jmp_eq ht
      split at hw
      · rename_i hc
        exact SA.step (fun r1 h1 => ww_same (fun p l e R s m args below meth c Qf H locs cells slots lsA hx hb hL hown hts hvk k => lv_icmp_ge hx hb hd ht (fun _ => k) (fun z => absurd hc z))) (hK _ _ _ _ hw)
      · rename_i hc
        exact SA.step (fun r1 h1 => ww_same (fun p l e R s m args below meth c Qf H locs cells slots lsA hx hb hL hown hts hvk k => lv_icmp_ge hx hb hd ht (fun z => absurd z hc) (fun _ => k))) (hK _ _ _ _ hw)
    · exact hw.elim
  · have hn : n = 3 := hn
    subst hn
    split at hw
    · obtain ⟨ht, hw⟩ := hw
      have ht := jmp_eq ht
      split at hw
      · rename_i hc
        exact SA.step (fun r1 h1 => ww_same (fun p l e R s m args below meth c Qf H locs cells slots lsA hx hb hL hown hts hvk k => lv_icmp_gt hx hb hd ht (fun _ => k) (fun z => absurd hc z))) (hK _ _ _ _ hw)
      · rename_i hc
        exact SA.step (fun r1 h1 => ww_same (fun p l e R s m args below meth c Qf H locs cells slots lsA hx hb hL hown hts hvk k => lv_icmp_gt hx hb hd ht (fun z => absurd z hc) (fun _ => k))) (hK _ _ _ _ hw)
    · exact hw.elim
  · have hn : n = 3 := hn
    subst hn
    split at hw
    · obtain ⟨ht, hw⟩ := hw
      have ht := jmp_eq ht
      split at hw
      · rename_i hc
        exact SA.step (fun r1 h1 => ww_same (fun p l e R s m args below meth c Qf H locs cells slots lsA hx hb hL hown hts hvk k => lv_icmp_le hx hb hd ht (fun _ => k) (fun z => absurd hc z))) (hK _ _ _ _ hw)
      · rename_i hc
        exact SA.step (fun r1 h1 => ww_same (fun p l e R s m args below meth c Qf H locs cells slots lsA hx hb hL hown hts hvk k => lv_icmp_le hx hb hd ht (fun z => absurd z hc) (fun _ => k))) (hK _ _ _ _ hw)
    · exact hw.elim
  · have hn : n = 3 := hn
    subst hn
    split at hw
    · obtain ⟨ht, hs⟩ := jm hw
      exact SA.step (fun r1 h1 => ww_same (fun p l e R s m args below meth c Qf H locs cells slots lsA hx hb hL hown hts hvk k => lv_ifnullN hx hb hd ht k)) hs
    · exact SA.step (fun r1 h1 => ww_same (fun p l e R s m args below meth c Qf H locs cells slots lsA hx hb hL hown hts hvk k => lv_ifnull hx hb hd k)) (hK _ _ _ _ hw)
    · exact hw.elim
  · have hn : n = 3 := hn
    subst hn
    split at hw
    · obtain ⟨ht, hs⟩ := jm hw
      exact SA.step (fun r1 h1 => ww_same (fun p l e R s m args below meth c Qf H locs cells slots lsA hx hb hL hown hts hvk k => lv_ifnonnull hx hb hd ht k)) hs
    · exact SA.step (fun r1 h1 => ww_same (fun p l e R s m args below meth c Qf H locs cells slots lsA hx hb hL hown hts hvk k => lv_ifnonnullN hx hb hd k)) (hK _ _ _ _ hw)
    · exact hw.elim
  · have hn : n = 3 := hn
    subst hn
    obtain ⟨ht, hs⟩ := jm hw
    exact SA.step (fun r1 h1 => ww_same (fun p l e R s m args below meth c Qf H locs cells slots lsA hx hb hL hown hts hvk k => lv_goto hx hb hd ht k)) hs
  · split at hw
    · split at hw
      · rename_i hc
        obtain ⟨ht, hs⟩ := jm hw
        exact SA.step (fun r1 h1 => ww_same (fun p l e R s m args below meth c Qf H locs cells slots lsA hx hb hL hown hts hvk k => lv_tableOut hx hb hd hc ht k)) hs
      · rename_i hc
        obtain ⟨off, ho, hw⟩ := ob_at hw
        obtain ⟨ht, hs⟩ := jm hw
        exact SA.step (fun r1 h1 => ww_same (fun p l e R s m args below meth c Qf H locs cells slots lsA hx hb hL hown hts hvk k => lv_tableIn hx hb hd (fun z => hc (Or.inl z)) (fun z => hc (Or.inr z)) ho ht k)) hs
    · exact hw.elim
  · split at hw
    · obtain ⟨hp, hw⟩ := hw
      obtain ⟨ht, hs⟩ := jm hw
      exact SA.step (fun r1 h1 => ww_same (fun p l e R s m args below meth c Qf H locs cells slots lsA hx hb hL hown hts hvk k => lv_lookup hx hb hd hp rfl ht k)) hs
    · exact hw.elim
  · exact hH hw
