/-! from the small machine's run of the law to the claim's walk -/
theorem tabs : Tabs := ⟨tK_all, tJ_all, tT_all, tF_all, tA_all, tN_all, tV_all, tS_all, tC_all, tO, tSl, tSc, tAc, tCn⟩
theorem inst_ok : ∀ c, c < 12 → Cond.instantiable (cNm c) (fN c) ∈ TT := by decide +kernel
theorem sRef_ok : ∀ q ∈ sOw, Cond.stringRef q.1 q.2.1 q.2.2 ∈ lw_tbl := by decide +kernel
def sTm (i : Nat) : Term := match sOw[i]? with
  | some q => .string q.1 q.2.1
  | none => .arg 0
def sNeed (i : Nat) : List Cond := [.exactly (sTm i) "java/lang/String", .eq (.field (sTm i) "java/lang/String" "coder" "B") (.int 0), .arrayOf (.field (sTm i) "java/lang/String" "value" "[B") .byte, .eq (.length (.field (sTm i) "java/lang/String" "value" "[B")) (.int (Int32.ofNat (slen i)))] ++ (List.range (slen i)).map (fun j => .eq (.elem (.field (sTm i) "java/lang/String" "value" "[B") (.int (Int32.ofNat j))) (.int (schr i j)))
def gvL : List Cond := flatC (Jvm.Cond.and given_1 narrow_1)
theorem sN_0 : sNeed 0 = (gvL.drop 45).take 8 := by decide +kernel
theorem sN_1 : sNeed 1 = (gvL.drop 53).take 8 := by decide +kernel
theorem sN_2 : sNeed 2 = (gvL.drop 61).take 9 := by decide +kernel
theorem sN_3 : sNeed 3 = (gvL.drop 70).take 8 := by decide +kernel
theorem sN_4 : sNeed 4 = (gvL.drop 78).take 8 := by decide +kernel
theorem sN_5 : sNeed 5 = (gvL.drop 86).take 9 := by decide +kernel
theorem sN_6 : sNeed 6 = (gvL.drop 95).take 9 := by decide +kernel
theorem sN_7 : sNeed 7 = (gvL.drop 104).take 10 := by decide +kernel
theorem sN_8 : sNeed 8 = (gvL.drop 114).take 9 := by decide +kernel
theorem sN_9 : sNeed 9 = (gvL.drop 123).take 9 := by decide +kernel
theorem sN_10 : sNeed 10 = (gvL.drop 132).take 8 := by decide +kernel
theorem sN_11 : sNeed 11 = (gvL.drop 140).take 6 := by decide +kernel
theorem sN_12 : sNeed 12 = (gvL.drop 146).take 7 := by decide +kernel
theorem sN_13 : sNeed 13 = (gvL.drop 153).take 7 := by decide +kernel
theorem sN_14 : sNeed 14 = (gvL.drop 160).take 6 := by decide +kernel
theorem sN_15 : sNeed 15 = (gvL.drop 166).take 9 := by decide +kernel
theorem sN_16 : sNeed 16 = (gvL.drop 176).take 9 := by decide +kernel
theorem sN_17 : sNeed 17 = (gvL.drop 186).take 8 := by decide +kernel
theorem sN_18 : sNeed 18 = (gvL.drop 195).take 8 := by decide +kernel
theorem sN_19 : sNeed 19 = (gvL.drop 204).take 8 := by decide +kernel
theorem sN_20 : sNeed 20 = (gvL.drop 213).take 9 := by decide +kernel
theorem sN_21 : sNeed 21 = (gvL.drop 223).take 8 := by decide +kernel
theorem sN_22 : sNeed 22 = (gvL.drop 232).take 8 := by decide +kernel
theorem sN_23 : sNeed 23 = (gvL.drop 241).take 9 := by decide +kernel
theorem sN_24 : sNeed 24 = (gvL.drop 251).take 9 := by decide +kernel
theorem sN_25 : sNeed 25 = (gvL.drop 261).take 10 := by decide +kernel
theorem sN_26 : sNeed 26 = (gvL.drop 272).take 6 := by decide +kernel
theorem sN_27 : sNeed 27 = (gvL.drop 279).take 7 := by decide +kernel
theorem sN_28 : sNeed 28 = (gvL.drop 287).take 7 := by decide +kernel
theorem sN_29 : sNeed 29 = (gvL.drop 295).take 6 := by decide +kernel
theorem sN_mem {i p l : Nat} (h : sNeed i = (gvL.drop p).take l) : ∀ c ∈ sNeed i, c ∈ flatC (Jvm.Cond.and given_1 narrow_1) := fun c hc => by
  rw [h] at hc
  exact List.mem_of_mem_drop (List.mem_of_mem_take hc)
theorem sNeed_ok : ∀ i, i < 30 → ∀ c ∈ sNeed i, c ∈ flatC (Jvm.Cond.and given_1 narrow_1) := by
  intro i hi
  match i, hi with
  | 0, _ => exact sN_mem sN_0
  | 1, _ => exact sN_mem sN_1
  | 2, _ => exact sN_mem sN_2
  | 3, _ => exact sN_mem sN_3
  | 4, _ => exact sN_mem sN_4
  | 5, _ => exact sN_mem sN_5
  | 6, _ => exact sN_mem sN_6
  | 7, _ => exact sN_mem sN_7
  | 8, _ => exact sN_mem sN_8
  | 9, _ => exact sN_mem sN_9
  | 10, _ => exact sN_mem sN_10
  | 11, _ => exact sN_mem sN_11
  | 12, _ => exact sN_mem sN_12
  | 13, _ => exact sN_mem sN_13
  | 14, _ => exact sN_mem sN_14
  | 15, _ => exact sN_mem sN_15
  | 16, _ => exact sN_mem sN_16
  | 17, _ => exact sN_mem sN_17
  | 18, _ => exact sN_mem sN_18
  | 19, _ => exact sN_mem sN_19
  | 20, _ => exact sN_mem sN_20
  | 21, _ => exact sN_mem sN_21
  | 22, _ => exact sN_mem sN_22
  | 23, _ => exact sN_mem sN_23
  | 24, _ => exact sN_mem sN_24
  | 25, _ => exact sN_mem sN_25
  | 26, _ => exact sN_mem sN_26
  | 27, _ => exact sN_mem sN_27
  | 28, _ => exact sN_mem sN_28
  | 29, _ => exact sN_mem sN_29
  | n + 30, h => exact absurd h (by omega)
theorem top_str {args : Array Value} {s : State} (hgv : (Jvm.Cond.and given_1 narrow_1).before args s = true) {A : Nat → Prop} (hA : ∀ a : Nat, a < s.heap.size → ¬ A a) (i : Nat) : ∃ q : Nat × Nat, i < 30 →
    (sTm i).eval args s none [] s = some (.ref q.1) ∧ va_O "java/lang/String" q.1 A s s.heap ∧ va_OF "java/lang/String" "coder" "B" (.int 0) q.1 A s s.heap ∧ va_OF "java/lang/String" "value" "[B" (.ref q.2) q.1 A s s.heap ∧ va_T .byte q.2 (slen i) (fun j => .int (schr i j)) A s s.heap := by
  by_cases hi : i < 30
  · have hs := fun c hc => flat_of_before _ hgv c (sNeed_ok i hi c hc)
    have m : ∀ c, c ∈ sNeed i → c.before args s = true := hs
    have hex := m (.exactly (sTm i) "java/lang/String") (by simp [sNeed])
    have hco := m (.eq (.field (sTm i) "java/lang/String" "coder" "B") (.int 0)) (by simp [sNeed])
    have har := m (.arrayOf (.field (sTm i) "java/lang/String" "value" "[B") .byte) (by simp [sNeed])
    have hle := m (.eq (.length (.field (sTm i) "java/lang/String" "value" "[B")) (.int (Int32.ofNat (slen i)))) (by simp [sNeed])
    have hel : ∀ j, j < slen i → (Cond.eq (.elem (.field (sTm i) "java/lang/String" "value" "[B") (.int (Int32.ofNat j))) (.int (schr i j))).before args s = true := fun j hj => m _ (by
      unfold sNeed
      exact List.mem_append_right _ (List.mem_map.mpr ⟨j, List.mem_range.mpr hj, rfl⟩))
    obtain ⟨a, c, cA, kA, q1, q2, q3, q4, q5, q6, -⟩ := Cond.exactly_spec (args := args) (first := s) (o := none) (s := s) (idx := []) (t := sTm i) (cls := "java/lang/String") hex
    obtain ⟨t, ht, hT⟩ := va_Tof (f := fun j => .int (schr i j)) (A := A) (Nat.lt_of_lt_of_le (slen_lt i hi) (by decide)) har (va_eqt hle) (fun j hj => va_eqt (hel j hj)) hA
    exact ⟨(a, t), fun _ => ⟨q1, ⟨cA, q3, q5, by rw [q6]; exact q2, hA a (Array.getElem?_eq_some_iff.mp q3).1⟩, vk_OFof q1 (va_eqt hco) hA, vk_OFof q1 ht hA, hT⟩⟩
  · exact ⟨(0, 0), fun h => absurd h hi⟩
theorem arr_prim {args : Array Value} {s : State} {t : FieldType} (h : (Cond.arrayClass t).before args s = true) : ∃ cA, ArrOfT s cA t ∧ s.vm.findClass ("[" ++ t.toString) = some cA := by
  obtain ⟨cB, kB, comp, h1, h2, h3⟩ := Cond.arrayClass_spec h
  exact ⟨cB, fun n z => ⟨fun k h => (by cases h), kB, h2, comp, h3⟩, h1⟩
theorem arr_obj {args : Array Value} {s : State} {C : String} (h : (Cond.arrayOver (.object C)).before args s = true) : ∃ cA, ArrOfT s cA (.object C) ∧ va_RA s cA (.object C) := by
  obtain ⟨comp, c, k, h1, h2, h3, h4, h5⟩ := Cond.arrayOver_spec h
  exact ⟨c, fun n z => ⟨fun k h => (by cases h), k, h3, comp, h4⟩, k, comp, h3, h4, h1, h5⟩
set_option maxHeartbeats 4000000 in
theorem top {p : Program} {e : Env} {s : State} {m : MethodId} {below : List Frame} {meth : Method} {c : Code} (l : Launch) {b L : Nat} {xs : Nat → Int32} (C0 : lw_At p s m meth c b L xs)
    (hR : ∀ G : aG, G.1 = s.heap.size → G.2.1 = (b, L, xs) → b < G.1 → Rn G 1000 mL_law 0 [some (.ref b), none, none, none] [] (G.1, fun _ => none, 0) (fun r h => r = some (.int 1) ∧ h.1 - G.1 ≤ 600000 ∧ h.2.2 ≤ 7302250)) :
    W p l e room_1 s m #[Value.ref b] below meth c s.heap [] 0 0 (lw_Z below #[Value.ref b] s) (entryFrame m ([Value.ref b] : List Value).toArray 4) := by
  obtain ⟨hx, hb, hr, hml, hown, hts, hX, hbl, hlocks, hgv⟩ := id C0
  have hTT : ∀ w ∈ TT, w.before #[Value.ref b] s = true := fun w hw => hts w (List.mem_filter.mp hw).1
  -- classes
  have hkn : ∀ c, ∃ q : ClassId × (Nat → Nat), c < 12 → u_Kn s (cNm c) (fTb c) (fN c) q.1 q.2 := by
    intro c
    by_cases hc : c < 12
    · obtain ⟨cC, iS, h⟩ := u_known (C := cNm c) (T := fTb c) (N := fN c) (n := fN c) hTT (wsOk c hc) (hTT _ (inst_ok c hc))
      exact ⟨(cC, iS), fun _ => h⟩
    · exact ⟨(0, fun _ => 0), fun h => absurd h hc⟩
  obtain ⟨kf, hkf⟩ := Classical.axiomOfChoice hkn
  -- arrays
  obtain ⟨a0, g0, n0⟩ := arr_prim (hTT _ tAr_int)
  obtain ⟨a1, g1, n1⟩ := arr_prim (hTT _ tAr_byte)
  obtain ⟨a2, g2, n2⟩ := arr_prim (hTT _ tAr_short)
  obtain ⟨a3, g3, n3⟩ := arr_prim (hTT _ tAr_long)
  obtain ⟨a4, g4, n4⟩ := arr_prim (hTT _ tAr_boolean)
  obtain ⟨a5, g5, n5⟩ := arr_obj (hts _ tOv_5)
  obtain ⟨a6, g6, n6⟩ := arr_obj (hts _ tOv_6)
  obtain ⟨a7, g7, n7⟩ := arr_obj (hts _ tOv_7)
  -- strings
  have hA : ∀ a : Nat, a < s.heap.size → ¬ (fun q : Nat => s.heap.size ≤ q) a := fun a h => Nat.not_le.mpr h
  obtain ⟨sf, hsf⟩ := Classical.axiomOfChoice (top_str hgv hA)
  have hZ1 : va_Z "java/lang/String" "COMPACT_STRINGS" "Z" (.int 1) (fun q : Nat => s.heap.size ≤ q) s s.heap := va_Zof (hts _ tZ_1) (hTT _ tZ_2) (va_eqt (flat_of_before _ hgv _ (by decide +kernel))) hA
  obtain ⟨f60, f61, hZ2⟩ : ∃ f60 f61 : Nat, va_Z "jdk/internal/util/Preconditions" "SIOOBE_FORMATTER" "Ljava/util/function/BiFunction;" (if f60 = 0 then .null else .ref f61) (fun q : Nat => s.heap.size ≤ q) s s.heap := by
    rcases va_Zqof (hts _ tZ_3) (hTT _ tZ_4) (flat_of_before _ hgv _ (by decide +kernel)) hA with h | ⟨t, h⟩
    · exact ⟨0, 0, h⟩
    · exact ⟨1, t, h⟩
  let G : aG := (s.heap.size, (b, L, xs), fun i => if i < 30 then (sf i).1 else if i < 60 then (sf (i - 30)).2 else if i = 60 then f60 else f61)
  have hG1 : ∀ i, i < 30 → G.2.2 i = (sf i).1 := fun i hi => by show (if i < 30 then _ else _) = _; rw [if_pos hi]
  have hG2 : ∀ i, i < 30 → G.2.2 (30 + i) = (sf i).2 := fun i hi => by
    show (if 30 + i < 30 then _ else if 30 + i < 60 then _ else _) = _
    rw [if_neg (by omega), if_pos (by omega), Nat.add_sub_cancel_left]
  have hG3 : fmtV G = (if f60 = 0 then .null else .ref f61) := rfl
  let D : va_G := (fun c => (kf c).1, fun c => (kf c).2)
  let tys : List (ClassId × FieldType) := [(a0, .int), (a1, .byte), (a2, .short), (a3, .long), (a4, .boolean), (a5, .object RX8), (a6, .object RX9), (a7, .object RX3)]
  have hV : SV G D tys s := by
    refine ⟨⟨fun c q hq => ?_, fun k q hq => ?_⟩, rfl, fun c i y hst hm => va_Nw.of rfl (hts _ hm), fun C hC => va_AO.of (hts _ hC), va_Nw.of rfl (hts _ tCa), fun i q hq => ?_⟩
    · have hc : c < 12 := (List.getElem?_eq_some_iff.mp hq).1
      rw [aC_at c hc] at hq
      cases hq
      exact hkf c hc
    · match k, hq with
      | 0, hq => cases hq; exact ⟨g0, n0⟩
      | 1, hq => cases hq; exact ⟨g1, n1⟩
      | 2, hq => cases hq; exact ⟨g2, n2⟩
      | 3, hq => cases hq; exact ⟨g3, n3⟩
      | 4, hq => cases hq; exact ⟨g4, n4⟩
      | 5, hq => cases hq; exact ⟨g5, n5⟩
      | 6, hq => cases hq; exact ⟨g6, n6⟩
      | 7, hq => cases hq; exact ⟨g7, n7⟩
      | k + 8, hq => simp [tys] at hq
    · have hi : i < 30 := (List.getElem?_eq_some_iff.mp hq).1
      have h1 := (hsf i hi).1
      have h2 : sTm i = .string q.1 q.2.1 := by unfold sTm; rw [hq]
      rw [h2] at h1
      rw [hG1 i hi]
      exact vk_R.of (hts _ (sRef_ok q (List.mem_of_getElem? hq))) h1
  have hH : HV G s s.heap := by
    refine ⟨fun i hi => ?_, hZ1, ?_, hX⟩
    · rw [hG1 i hi, hG2 i hi]
      obtain ⟨-, h2, h3, h4, h5⟩ := hsf i hi
      exact ⟨h2, h3, h4, h5⟩
    · rw [hG3]
      exact hZ2
  obtain ⟨r1, h1, ⟨rfl, q1, q2⟩, w1, w2, w3⟩ := Rn_sound tabs (hR G rfl rfl hbl)
  have k := w3 D tys p l e room_1 s m #[Value.ref b] below meth c 0 (lw_Z below #[Value.ref b] s)
    ⟨hx, hb, hml, hown, hTT, fun z => absurd z (by decide), hV, hH, by decide, by decide, q1, q2, hbl, Nat.le_refl _, ?_⟩ s.heap [] _
    ⟨⟨rfl, fun a e h => by cases h⟩, va_S.rf, eL_has (n := 4) (vs := [.ref b]) (Nat.le_of_ble_eq_true rfl), rfl, Nat.le_refl _, Nat.le_refl _⟩
  · rw [lg_entry_eq]
    have e1 : s.heap.size - s.heap.size = 0 := Nat.sub_self _
    show W p l e room_1 s m #[Value.ref b] below meth c s.heap [] 0 0 (lw_Z below #[Value.ref b] s) _
    have e0 : G.1 - s.heap.size = 0 := Nat.sub_self _
    rw [e0] at k
    exact k
  · intro H locs lsA pc i hdg hret hRep hS
    refine va_forget hS.2.2 (W.widen q1 q2 ?_)
    unfold retOK at hret
    split at hret
    · rename_i heq
      cases heq
      exact lw_ret hx hb hr hlocks hdg
    all_goals first
      | (rename_i heq; cases heq)
      | exact hret.elim
