/-! calls -/
theorem HV.moved {G : aG} {u U : State} {H : Heap} (hvm : u.vm.Alike U.vm) (h : HV G u H) : HV G U H :=
  ⟨fun i hi => by
    obtain ⟨h1, h2, h3, h4⟩ := h.1 i hi
    exact ⟨va_O.moved hvm h1, va_OF.moved hvm h2, va_OF.moved hvm h3, va_T.moved hvm h4⟩, va_Z.moved hvm h.2.1, va_Z.moved hvm h.2.2.1, va_X.moved hvm h.2.2.2⟩
theorem HV.kept {G : aG} {U : State} {H H1 : Heap} (h : HV G U H) (hb : G.2.1.1 < G.1) (hB : G.1 ≤ H.size) (hq : ∀ a : Nat, a < H.size → ¬ BA G a → H1[a]? = H[a]?) : HV G U H1 :=
  ⟨fun i hi => by
    obtain ⟨h1, h2, h3, h4⟩ := h.1 i hi
    exact ⟨va_O.kept h1 hq, va_OF.kept h2 hq, va_OF.kept h3 hq, va_T.kept h4 hq⟩, va_Z.kept h.2.1 hq, va_Z.kept h.2.2.1 hq, va_X.kept h.2.2.2 (hq _ (by omega) (fun z => absurd hb (Nat.not_lt.mpr z)))⟩
theorem PB.blind {G : aG} {D : va_G} {tys : List (ClassId × FieldType)} {h : aH} {As : List Value} : FrameBlind (va_Pc As (PB G D tys h)) := by
  intro a U g mk hh
  obtain ⟨h1, h2, h3, h4, h5, h6⟩ := hh
  exact ⟨h1, h2, SV.warm (U := U.calling g mk a) (State.WarmedH.refl U) h3, HV.moved (U := U.calling g mk a) (Vm.Alike.refl U.vm) h4, h5, h6⟩
abbrev wsM (M : aM) : List Cond := Cond.code M.2.1 M.2.2.1 M.2.2.2.1 M.2.2.2.2 :: TT
/-- a callee's contract, at a depth d: from h to r and h2 -/
def CO (G : aG) (d : Nat) (M : aM) (As : List Value) (h : aH) (r : Option Value) (h2 : aH) : Prop := h.1 ≤ h2.1 ∧ h.2.2 ≤ h2.2.2 ∧ ∀ (l : Launch) (D : va_G) (tys : List (ClassId × FieldType)),
  Met l M.2.1 (wsM M) { frames := d, cells := h2.1 - h.1, slots := h2.2.2 - h.2.2, locals := 60 * d } (va_Pc As (PB G D tys h)) (QM G D tys r h2) (h2.1 - h.1) (h2.2.2 - h.2.2) (BA G)
theorem Met.ofWF {l : Launch} {y : MethodName} {ws ws' : List Cond} {rm : Room} {Pc : Array Value → State → Prop} {Qc : Array Value → State → Outcome → State → Prop} {mc ms : Nat} {free : Addr → Prop} {cc : ByteArray} {maxL : Nat} {ret : Option FieldType}
    (hy : plainFor y = true) (hw : ws = Cond.code y cc maxL ret :: ws')
    (body : ∀ p e s m args below meth c s₁, BodyLoose p l y (headSpec ws rm) cc maxL ret e s m args below meth c s₁ → c.maxLocals = maxL → Pc args s →
      W p l e (headSpec ws rm).room s m args below meth c s.heap [] 0 0 (MQ below Qc args s mc ms free) (entryFrame m args maxL)) : Met l y ws rm Pc Qc mc ms free := by
  refine MetFree.of_bodySF (code := cc) (maxLocals := maxL) (ret := ret) hy ?_ ?_
  · intro args s m h hn
    obtain ⟨meth, c, h1, h2, h3, h4, h5, h6, -, -⟩ := Cond.code_spec hn (atoms_spec (ws := ws) h _ (by rw [hw]; exact List.mem_cons_self))
    exact ⟨meth, c, h1, h2, h3, h4, h5, h6⟩
  · intro p e s m args below meth c s₁ B hml hP _
    have hh0 : s₁.heap = s.heap := by rw [B.state]; rfl
    obtain ⟨t, a1, o, b1, b2, b3⟩ := body p e s m args below meth c s₁ B hml hP s₁ hh0 (Stand.of_body B)
    exact ⟨t, o, a1, b1, b2, ⟨b3.1, b3.2⟩⟩
set_option maxHeartbeats 1000000 in
theorem co_of {G : aG} {d : Nat} {M : aM} {n : Nat} {As : List Value} {h : aH} {r1 : Option Value} {h1 : aH} (hM : MOk M n) (hlen : (eA As).length ≤ M.2.2.2.1) (hw : WW G d M r1 h1 0 (eL M.2.2.2.1 As) [] h) : CO G d M As h r1 h1 := by
  refine ⟨hw.1, hw.2.1, fun l D tys => ?_⟩
  obtain ⟨m1, m2, m3, m4, m5, m6⟩ := hM
  refine Met.ofWF (cc := M.2.2.1) (maxL := M.2.2.2.1) (ret := M.2.2.2.2) m5 rfl ?_
  intro p e s m args below meth c s₁ B hml hv
  obtain ⟨rfl, hR, hV, hH, hbB, hB⟩ := hv
  have hts := atoms_spec (ws := wsM M) B.pre
  have hown : s.vm.findClass M.2.1.cls = some m.cls := findClass_of_methodNamed B.named
  have hlocks := B.notSynchronized
  have hr := B.returns
  rw [lg_entry_eq]
  have hsz : s.heap.size = h.1 := hR.1
  have k := hw.2.2 D tys p l e (headSpec (wsM M) { frames := d, cells := h1.1 - h.1, slots := h1.2.2 - h.2.2, locals := 60 * d }).room s m As.toArray below meth c h.2.2
    (MQ below (QM G D tys r1 h1) As.toArray s (h1.1 - h.1) (h1.2.2 - h.2.2) (BA G))
    ⟨B.exec, B.bytes, hml, by rw [m6]; exact hown, fun w hw => hts w (List.mem_cons_of_mem _ hw), fun z => (name_of_methodNamed B.named B.method).1.trans z, hV, hH, Nat.le_refl _, Nat.le_refl _, by rw [hsz]; exact Nat.le_refl _, Nat.le_refl _, hbB, by rw [hsz]; exact hB, ?_⟩
    s.heap [] _ ⟨hR, va_S.rf, eL_has hlen, eL_len hlen, Nat.le_refl _, by rw [hsz]; exact Nat.le_refl _⟩
  · have e1 : h.1 - s.heap.size = 0 := by omega
    have e2 : h.2.2 - h.2.2 = 0 := by omega
    rw [e1, e2] at k
    exact k
  · intro H locs lsA pc i hdg hret hRep hS
    have e1 : h1.1 - s.heap.size = h1.1 - h.1 := by rw [hsz]
    rw [e1]
    have fin : ∀ t : State, t.heap = H → s.WarmedH t.vm → QM G D tys r1 h1 As.toArray s (.returned r1) t := fun t ht _ => ⟨rfl, by rw [ht]; exact hRep, hS.F ht⟩
    unfold retOK at hret
    split at hret
    · obtain ⟨ty, t1, t2⟩ := hret
      exact W.zret B.exec B.bytes (hr.trans t1) t2 fin hS.2.2 hdg
    · exact W.lret B.exec B.bytes (hr.trans hret) fin hS.2.2 hdg
    · obtain ⟨rt, t1, t2⟩ := hret
      exact W.aret B.exec B.bytes (hr.trans t1) t2 (Or.inl rfl) fin hS.2.2 hdg
    · obtain ⟨rt, t1, t2⟩ := hret
      exact W.aret B.exec B.bytes (hr.trans t1) t2 (Or.inr ⟨_, rfl⟩) fin hS.2.2 hdg
    · exact W.vret B.exec B.bytes (hr.trans hret) fin hS.2.2 hdg
    · exact hret.elim
theorem my_call {p : Program} {l : Launch} {e : Env} {R : Room} {s : State} {m : MethodId} {args : Array Value} {below : List Frame} {meth : Method} {c : Code} {H : Heap} {locs : List Loc} {cells slots mc ms : Nat} {Q : State → Prop} {pc : Nat} {ls : Array Slot} {st0 rest : List Value} {Qa : State → Outcome → State → Prop} {free : Addr → Prop}
    (hr : va_Run p l e R s m args below meth c H locs cells slots mc ms (F0 m pc ls st0) rest Qa free)
    (kk : ∀ (v : Option Value) (st₀ t : State) (H1 : Heap) (L : List Loc), st₀.heap = H → (∀ q ∈ L, free q.base) → t.heap = H1 → Qa st₀ (.returned v) t → W p l e R s m args below meth c H1 (locs ++ L) (cells + mc) (slots + ms) Q (F0 m (pc + 3) ls (v.toList ++ rest))) :
    W p l e R s m args below meth c H locs cells slots Q (F0 m pc ls st0) := by
  intro T hT X
  obtain ⟨v, st₀, t, T', L, h0, X', hL, e1, e2, hq, st⟩ := hr T hT X
  obtain ⟨t2, a1, b1⟩ := kk v st₀ t T'.heap L h0 hL e1.symm hq T' rfl X'
  exact ⟨t2, st t2 a1, b1⟩
theorem goodTTM {M : aM} (h : Cond.code M.2.1 M.2.2.1 M.2.2.2.1 M.2.2.2.2 ∈ TT) : GoodIn TT (wsM M) := by
  intro w hw
  rcases List.mem_cons.mp hw with rfl | hw
  · exact ⟨h, good_of_word (goodTT h)⟩
  · exact ⟨hw, good_of_word (goodTT hw)⟩
/-- what a call's row gives, whatever its kind -/
theorem ww_call {G : aG} {d : Nat} {M M' : aM} {r1 : Option Value} {h1 : aH} {pc : Nat} {ls : aL} {st rest As : List Value} {h h2 : aH} {r : Option Value} {idx : Nat} (hd1 : 0 < d) (hco : CO G (d - 1) M' As h r h2) {n : Nat} (hM : MOk M' n) (hc : csum rest ≤ 8)
    (f : ∀ (D : va_G) (tys : List (ClassId × FieldType)) (p : Program) (l : Launch) (e : Env) (R : Room) (s : State) (m : MethodId) (args : Array Value) (below : List Frame) (meth : Method) (c : Code) (sl0 : Nat) (Qf : State → Prop) (H : Heap) (locs : List Loc) (lsA : Array Slot) (cells slots : Nat), Cx G d M r1 h1 D tys p l e R s m args below meth c sl0 Qf → St G D tys M s sl0 h H locs lsA ls →
      Met l M'.2.1 (wsM M') { frames := d - 1, cells := h2.1 - h.1, slots := h2.2.2 - h.2.2, locals := 60 * (d - 1) } (va_Pc As (PB G D tys h)) (QM G D tys r h2) (h2.1 - h.1) (h2.2.2 - h.2.2) (BA G) →
      (∀ U : State, U.heap = H → s.WarmedH U.vm → va_Pc As (PB G D tys h) As.toArray U) → CallFix p m c M.2.2.1 M.2.2.2.1 s args TT (cNm M.1) → d - 1 + 1 ≤ R.frames ∧ 8 + (M'.2.2.2.1 + 11) + 60 * (d - 1) ≤ R.locals → lsA.size = M.2.2.2.1 → cells + (h2.1 - h.1) ≤ R.cells ∧ slots + (h2.2.2 - h.2.2) ≤ R.slots →
      va_Run p l e R s m args below meth c H locs cells slots (h2.1 - h.1) (h2.2.2 - h.2.2) (F0 m pc lsA st) rest (QM G D tys r h2 As.toArray) (BA G))
    (hw : WW G d M r1 h1 (pc + 3) ls (r.toList ++ rest) h2) : WW G d M r1 h1 pc ls st h := by
  obtain ⟨c1, c2, c3⟩ := hco
  refine ⟨Nat.le_trans c1 hw.1, Nat.le_trans c2 hw.2.1, fun D tys p l e R s m args below meth c sl0 Qf C H locs lsA S => ?_⟩
  obtain ⟨hx, hb, hml, hown, hts, hnm, hV, hH, x1, x2, x3, x4, x5, x6, -⟩ := id C
  obtain ⟨s1, s2, s3, s4, s5, s6⟩ := id S
  have w1 := hw.1
  have w2 := hw.2.1
  have m4 := hM.2.2.2.1
  refine my_call (f D tys p l e R s m args below meth c sl0 Qf H locs lsA _ _ C S (c3 l D tys) (fun U hU hW => ⟨rfl, by rw [hU]; exact s1, SV.warm hW hV, ?_, x5, by omega⟩) ⟨hx, hb, hml, hown, hts⟩ ⟨by omega, by omega⟩ (s3.1.trans s4) ⟨by omega, by omega⟩) (fun v st₀ t H1 L q1 q2 q3 q4 => ?_)
  · rw [hU]
    exact HV.moved hW.alike (hH.kept x5 x6 s2.2.1)
  · obtain ⟨y1, y2, y3⟩ := q4
    cases y1
    rw [q3] at y2
    have y4 := y3.1
    have y5 := y3.2
    rw [q1, q3] at y4
    rw [q3, q1] at y5
    have k := hw.2.2 D tys p l e R s m args below meth c sl0 Qf C H1 (locs ++ L) lsA ⟨y2, ⟨Nat.le_trans s2.1 y4, fun q g1 g2 => (y5 q (Nat.lt_of_lt_of_le g1 s2.1) g2).trans (s2.2.1 q g1 g2), fun q hq => by
      rcases List.mem_append.mp hq with g | g
      · exact s2.2.2 q g
      · exact q2 q g⟩, s3, s4, by omega, by omega⟩
    have e1 : h2.1 - s.heap.size = h.1 - s.heap.size + (h2.1 - h.1) := by omega
    have e2 : h2.2.2 - sl0 = h.2.2 - sl0 + (h2.2.2 - h.2.2) := by omega
    rw [e1, e2] at k
    exact k
section CI
variable {G : aG} {d : Nat} {M M' : aM} {r1 : Option Value} {h1 : aH} {pc : Nat} {ls : aL} {st rest : List Value} {h h2 : aH} {r : Option Value} {idx np : Nat}
/-- a virtual call, the receiver's class given by a cell -/
theorem ca_virt {a : Nat} (hd1 : 0 < d) (hl : Cond.methodLink (cNm M.1) idx M'.2.1 ∈ TT) (hM : MOk M' np) (hV1 : Cond.instanceMethod M'.2.1 ∈ TT) (hV2 : Cond.selects M'.2.1.cls M'.2.1 M'.2.1 ∈ TT) (hst : st.drop np = .ref a :: rest) (hnp : np ≤ st.length) (hc : csum rest ≤ 8)
    (hrec : ∀ (D : va_G) (tys : List (ClassId × FieldType)) (s : State) (H : Heap), Rep G.1 D tys h H → SV G D tys s → HV G s H → ∃ cellB : Cell, H[a]? = some cellB ∧ cellB.vm.isStatics = false ∧ s.vm.findClass M'.2.1.cls = some cellB.cls)
    (hco : CO G (d - 1) M' (.ref a :: (st.take np).reverse) h r h2) (hd : decode M.2.2.1 pc = .ok (.invokevirtual idx, 3)) (hw : WW G d M r1 h1 (pc + 3) ls (r.toList ++ rest) h2) : WW G d M r1 h1 pc ls st h := by
  refine ww_call (idx := idx) hd1 hco hM hc (fun D tys p l e R s m args below meth c sl0 Qf H locs lsA cells slots C S hMet hPre hFix hroom hls hf => ?_) hw
  obtain ⟨hx, hb, hml, hown, hts, hnm, hV, hH, x1, x2, x3, x4, x5, x6, -⟩ := id C
  have hstk : st = (st.take np).reverse.reverse ++ .ref a :: rest := by rw [List.reverse_reverse, ← hst, List.take_append_drop]
  exact va_runV (C := M'.2.1.cls) (b := a) (As := (st.take np).reverse) hFix hMet ⟨callB_of np hts (goodTTM hM.1) rfl rfl rfl (hts _ hM.2.1) (hts _ hl) hM.2.2.1 hroom, hts _ hV1, hts _ hV2⟩
    ⟨PB.blind, hrec D tys s H S.1 hV (hH.kept x5 x6 S.2.1.2.1), hPre⟩ rfl (by rw [List.length_reverse, List.length_take]; omega) hls hstk (lv_room hc) hd hf
theorem ca_stat (hd1 : 0 < d) (hl : Cond.methodLink (cNm M.1) idx M'.2.1 ∈ TT) (hM : MOk M' np) (hS1 : MS M') (hnp : np ≤ st.length) (hc : csum (st.drop np) ≤ 8)
    (hco : CO G (d - 1) M' (st.take np).reverse h r h2) (hd : decode M.2.2.1 pc = .ok (.invokestatic idx, 3)) (hw : WW G d M r1 h1 (pc + 3) ls (r.toList ++ st.drop np) h2) : WW G d M r1 h1 pc ls st h := by
  refine ww_call (idx := idx) hd1 hco hM hc (fun D tys p l e R s m args below meth c sl0 Qf H locs lsA cells slots C S hMet hPre hFix hroom hls hf => ?_) hw
  obtain ⟨hx, hb, hml, hown, hts, hnm, hV, hH, x1, x2, x3, x4, x5, x6, -⟩ := id C
  have hstk : st = (st.take np).reverse.reverse ++ st.drop np := by rw [List.reverse_reverse, List.take_append_drop]
  exact va_runS (As := (st.take np).reverse) hFix hMet ⟨callB_of np hts (goodTTM hM.1) rfl rfl rfl (hts _ hM.2.1) (hts _ hl) hM.2.2.1 hroom, hts _ hS1⟩
    ⟨PB.blind, hPre⟩ rfl (by rw [List.length_reverse, List.length_take]; omega) hls hstk (lv_room hc) hd hf
theorem ca_init {a : Nat} (hd1 : 0 < d) (ok : okC M.1 (idx, np, M')) (hst : st.drop np = .ref a :: rest) (hnp : np ≤ st.length) (hc : csum rest ≤ 8)
    (hco : CO G (d - 1) M' (.ref a :: (st.take np).reverse) h r h2) (hd : decode M.2.2.1 pc = .ok (.invokespecial idx, 3)) (hw : WW G d M r1 h1 (pc + 3) ls (r.toList ++ rest) h2) : WW G d M r1 h1 pc ls st h := by
  obtain ⟨hl, hM, i1, i2, i3, i4⟩ := ok
  simp only at hl hM i1 i2 i3 i4
  refine ww_call (idx := idx) hd1 hco hM hc (fun D tys p l e R s m args below meth c sl0 Qf H locs lsA cells slots C S hMet hPre hFix hroom hls hf => ?_) hw
  obtain ⟨hx, hb, hml, hown, hts, hnm, hV, hH, x1, x2, x3, x4, x5, x6, -⟩ := id C
  have hstk : st = (st.take np).reverse.reverse ++ .ref a :: rest := by rw [List.reverse_reverse, ← hst, List.take_append_drop]
  have hM1 := hM.1
  rw [i3] at hM1
  have hG : GoodIn TT (Cond.code M'.2.1 M'.2.2.1 M'.2.2.2.1 none :: TT) := by
    have := goodTTM hM.1
    unfold wsM at this
    rwa [i3] at this
  have hMet' := hMet
  unfold wsM at hMet'
  rw [i3] at hMet'
  rcases hl with hl | ⟨hst2, hl⟩
  · exact va_runI (b := a) (As := (st.take np).reverse) hFix hMet' ⟨callB_of np hts hG rfl rfl rfl (hts _ hM.2.1) (hts _ hl) hM.2.2.1 hroom, i2, hts _ i1⟩
      ⟨PB.blind, hPre⟩ rfl (by rw [List.length_reverse, List.length_take]; omega) hls hstk (lv_room hc) hd hf
  · exact va_runIN (b := a) (As := (st.take np).reverse) hFix hMet' ⟨va_cnB np hts hG rfl rfl rfl (hV.2.2.1 _ _ _ _ hl) (hts _ hM.2.1) hM.2.2.1 hroom, i2, hts _ i1⟩
      ⟨PB.blind, hPre⟩ rfl (by rw [List.length_reverse, List.length_take]; omega) hls hstk (lv_room hc) hd hf
theorem ca_obj {a : Nat} (hO : Cond.methodLink (cNm M.1) idx Lib.objectInit ∈ TT) (hd1 : 1 ≤ d) (hc : csum rest ≤ 8) (hd : decode M.2.2.1 pc = .ok (.invokespecial idx, 3)) (hw : WW G d M r1 h1 (pc + 3) ls rest h) : WW G d M r1 h1 pc ls (.ref a :: rest) h := by
  refine ww_read (fun D tys p l e R s m args below meth c sl0 Qf H locs lsA cells slots C S k9 => ?_) hw
  obtain ⟨hx, hb, hml, hown, hts, hnm, hV, hH, x1, x2, -⟩ := id C
  have hr := lv_room (m := m) (pc := pc) (ls := lsA) (rest := (.ref a :: rest)) hc
  exact W.objInit hx hb hown (hts _ hO) (hts _ tO_i) (hts _ tO_c) rfl (by show lsA.size = _; rw [hml]; exact S.2.2.1.1.trans S.2.2.2.1) rfl hd (by omega) (by omega) k9
theorem ca_clone {a n : Nat} {f : Nat → Int32} (hl : Cond.methodLink (cNm M.1) idx ⟨"[I", "clone", "()Ljava/lang/Object;"⟩ ∈ TT) (hd1 : 1 ≤ d) (hc : csum rest ≤ 8) (ha : aI h a 0 = some (n, f)) (hd : decode M.2.2.1 pc = .ok (.invokevirtual idx, 3)) (hw : WW G d M r1 h1 (pc + 3) ls (.ref h.1 :: rest) (hnew h (.inl (0, n, .inl f)) n)) : WW G d M r1 h1 pc ls (.ref a :: rest) h := by
  refine ww_new (fun D tys p l e R s m args below meth c sl0 Qf H locs lsA cells slots C S q1 q2 hsz k9 => ?_) hw
  obtain ⟨hx, hb, hml, hown, hts, hnm, hV, hH, x1, x2, -⟩ := id C
  obtain ⟨cA, c1, c2, c3, c4, c5⟩ := EA.arr hV (S.1.2 a _ (aI_at ha)).2 (t := 0) rfl
  obtain ⟨c0, t0', f1, f2, f3⟩ := Cond.castable_spec (va_Nw.use (A := args) rfl hV.2.2.2.2.1)
  have f1' : cA = c0 := Option.some.inj (c5.symm.trans f1)
  subst f1'
  have hr := lv_room (m := m) (pc := pc) (ls := lsA) (rest := (.ref a :: rest)) hc
  intro T hT X
  obtain ⟨-, kA, hkA, comp, hkind⟩ := State.isArrayOf_alike X.warmed.alike (c4 0 (fun _ => .null))
  obtain ⟨-, kS, hkS, compS, hkindS⟩ := c4 0 (fun _ => .null)
  have hsl : (vp_cell cA (n, .inl f)).slots.size = n := arrV_size _ _ _
  obtain ⟨vm', X', stp⟩ := X.cloneArray hx hown (hts _ hl) (hts _ tSm) (hts _ tCn_n) (hts _ tCn_i) (hts _ tCn_s) (a := a) (cell := vp_cell cA (n, .inl f)) (by rw [hT]; exact c3) (fun k h => by cases h) (fun h => by cases h) c5 f2 f3
    (fun i v hv => by
      have hk' : T.vm.classes[cA]? = some kA := hkA
      have hvi : ∃ z, v = .int z := by
        rw [vp_cell_i] at hv
        by_cases hi : i < n
        · rw [arrV_read _ _ hi] at hv
          exact ⟨_, (Option.some.inj hv).symm⟩
        · rw [Array.getElem?_eq_none (by rw [arrV_size]; omega)] at hv
          cases hv
      obtain ⟨z, rfl⟩ := hvi
      show T.fitsSlot cA .none i (.int z) = true
      simp [State.fitsSlot, State.slotType?, hk', hkind]
      rfl)
    (g := F0 m pc lsA (.ref a :: rest)) rfl (by show lsA.size = _; rw [hml]; exact S.2.2.1.1.trans S.2.2.2.1) (rest := rest) rfl (by rw [hb]; exact hd) (by omega) (by omega) q1 (by rw [hsl]; exact q2) (hloader := Vm.clonesLoader_of_array hkS hkindS)
  rw [hsl] at X'
  obtain ⟨t, b1, b2⟩ := k9 (H.push (vp_cell cA (n, .inl f))) ⟨_, c1, by rw [← hsz, Array.getElem?_push_size]⟩ (by rw [Array.size_push, hsz]) (fun q hq => by rw [Array.getElem?_push, if_neg (by omega)]) _ (by rw [← hT]; rfl) X'
  refine ⟨t, stp t ?_, b2⟩
  rw [hT, hsz]
  exact b1
theorem nn_clamp {z : Int32} (hz : ¬ z < 0) : z.toInt = (z.toNatClampNeg : Int) := by
  obtain ⟨j, hj, rfl⟩ := nI_of hz
  rw [nI_clamp hj, nI_toInt hj]
theorem ca_copy {a b t n0 n1 : Nat} {f g : Nat → Int32} {sp dp n : Int32} (hl : Cond.methodLink (cNm M.1) idx arraycopyName ∈ TT) (hd1 : 1 ≤ d) (hc : csum rest ≤ 8) (ht : t = 0 ∨ t = 1 ∨ t = 2) (ha : aI h a t = some (n0, f)) (hb' : aI h b t = some (n1, g)) (hB : G.1 ≤ b)
    (h1' : ¬ sp < 0) (h2' : ¬ dp < 0) (h3' : ¬ n < 0) (h4 : sp.toNatClampNeg + n.toNatClampNeg ≤ n0) (h5 : dp.toNatClampNeg + n.toNatClampNeg ≤ n1)
    (hf1 : t = 1 → ∀ i, i < n.toNatClampNeg → fits .byte (.int (f (sp.toNatClampNeg + i))) = true) (hf2 : t = 2 → ∀ i, i < n.toNatClampNeg → fits .short (.int (f (sp.toNatClampNeg + i))) = true)
    (hd : decode M.2.2.1 pc = .ok (.invokestatic idx, 3)) (hw : WW G d M r1 h1 (pc + 3) ls rest (hup h b (.inl (t, n1, .inl (va_cpy f g sp.toNatClampNeg dp.toNatClampNeg n.toNatClampNeg))))) :
    WW G d M r1 h1 pc ls (.int n :: .int dp :: .ref b :: .int sp :: .ref a :: rest) h := by
  refine ww_up hB (fun D tys p l e R s m args below meth c sl0 Qf H locs lsA cells slots C S k9 => ?_) hw
  obtain ⟨hx, hb, hml, hown, hts, hnm, hV, hH, x1, x2, -⟩ := id C
  have key : ∃ cA ty, tys[t]? = some (cA, ty) ∧ H[a]? = some (vp_cell cA (n0, .inl f)) ∧ H[b]? = some (vp_cell cA (n1, .inl g)) ∧ ArrOfT s cA ty ∧ refKind ty = false ∧ (∀ i, i < n.toNatClampNeg → fits ty (.int (f (sp.toNatClampNeg + i))) = true) := by
    have e1 := (S.1.2 a _ (aI_at ha)).2
    have e2 := (S.1.2 b _ (aI_at hb')).2
    rcases ht with rfl | rfl | rfl <;>
      (obtain ⟨cA, c1, c2, c3, c4, c5⟩ := EA.arr hV e1 rfl
       obtain ⟨cB, d1, d2, d3, d4, d5⟩ := EA.arr hV e2 rfl
       have e3 : cA = cB := by have := c1.symm.trans d1; cases this; rfl
       subst e3
       first
         | exact ⟨cA, _, c1, c3, d3, c4, rfl, fun i hi => rfl⟩
         | exact ⟨cA, _, c1, c3, d3, c4, rfl, hf1 rfl⟩
         | exact ⟨cA, _, c1, c3, d3, c4, rfl, hf2 rfl⟩)
  obtain ⟨cA, ty, c1, c3, d3, c4, hprim, hfit⟩ := key
  have hr := lv_room (m := m) (pc := pc) (ls := lsA) (rest := (.int n :: .int dp :: .ref b :: .int sp :: .ref a :: rest)) hc
  have hnw : nativeFrameWords "java/lang/System" "arraycopy" 5 = 7 := by decide
  intro T hT X
  obtain ⟨-, k0, hk0, cm0, hkk0⟩ := c4 n0 (fun j => .int (f j))
  obtain ⟨vm', X', step⟩ := X.arraycopy hx hown (hts _ hl) (hts _ tAc_n) (hts _ tAc_s) (hts _ tAc_i) (src := a) (dst := b) (cs := vp_cell cA (n0, .inl f)) (cd := vp_cell cA (n1, .inl g)) (srcPos := sp) (destPos := dp) (n := n) (by rw [hT]; exact c3) (by rw [hT]; exact d3)
    (fun _ h => by cases h) (fun _ h => by cases h) (fun h => by cases h) (fun h => by cases h) hk0 hk0 hkk0 hkk0 (by simp [hprim]) h1' h2' h3'
    (by rw [nn_clamp h1', nn_clamp h3']; show ¬ _ > ((arrV cA n0 (fun j => .int (f j))).slots.size : Int); rw [arrV_size]; omega)
    (by rw [nn_clamp h2', nn_clamp h3']; show ¬ _ > ((arrV cA n1 (fun j => .int (g j))).slots.size : Int); rw [arrV_size]; omega)
    (fun vm₁ _ i hi => by
      have e : (vp_cell cA (n0, .inl f)).slots.getD (sp.toNatClampNeg + i) .null = .int (f (sp.toNatClampNeg + i)) := by
        show (arrV cA n0 (fun j => .int (f j))).slots.getD _ _ = _
        rw [Array.getD_eq_getD_getElem?, arrV_read _ _ (by omega)]
        rfl
      rw [e]
      exact ⟨hfit i hi, trivial⟩)
    (g := F0 m pc lsA (.int n :: .int dp :: .ref b :: .int sp :: .ref a :: rest)) rfl (by show lsA.size = _; rw [hml]; exact S.2.2.1.1.trans S.2.2.2.1) (rest := rest) rfl (by rw [hb]; exact hd) (by omega) (by rw [hnw]; omega)
  have e1 : copied (vp_cell cA (n0, .inl f)) (vp_cell cA (n1, .inl g)) sp dp n = vp_cell cA (n1, .inl (va_cpy f g sp.toNatClampNeg dp.toNatClampNeg n.toNatClampNeg)) := va_copied (fun z => .int z) cA cA f g h4
  rw [e1] at X' step
  have hl' : b < H.size := (Array.getElem?_eq_some_iff.mp d3).1
  obtain ⟨t', b1, b2⟩ := k9 (H.setIfInBounds b (vp_cell cA (n1, .inl (va_cpy f g sp.toNatClampNeg dp.toNatClampNeg n.toNatClampNeg)))) _ ⟨_, c1, by simp [Array.getElem?_setIfInBounds, hl']⟩ (by simp) (fun q hq => by simp [Array.getElem?_setIfInBounds, Ne.symm hq])
    (fun l hl => by
      obtain ⟨z, -, hz⟩ := List.mem_map.mp hl
      rw [← hz]) _ (by rw [← hT]; rfl) X'
  exact ⟨t', step t' b1, b2⟩
end CI
