/-! the small machine's word holds of the Java machine -/
theorem drop_get {st : List Value} {np : Nat} {v : Value} (h : (st.drop np)[0]? = some v) : st.drop np = v :: st.drop (np + 1) ∧ (st.take (np + 1)).reverse = v :: (st.take np).reverse ∧ np + 1 ≤ st.length := by
  rw [List.getElem?_drop, Nat.add_zero] at h
  obtain ⟨hl, hv⟩ := List.getElem?_eq_some_iff.mp h
  refine ⟨?_, ?_, hl⟩
  · rw [List.drop_eq_getElem_cons hl, hv]
  · have e : st.take (np + 1) = st.take np ++ [v] := by
      first
        | (rw [List.take_succ, h]; rfl)
        | (rw [List.take_add_one, h]; rfl)
    rw [e]
    simp
set_option maxHeartbeats 4000000 in
theorem snd_S {G : aG} {d : Nat} {Cal : aM → List Value → aH → aQ → Prop} {M : aM} {K : Nat → aL → List Value → aH → Prop} {Q : aQ} (tV : ∀ c, ∀ q ∈ pV c, okV c q) (tS : ∀ c, ∀ q ∈ pS c, okS c q) (tC : ∀ c, ∀ q ∈ pC c, okC c q)
    (tO : ∀ c, pO c ≠ 0 → Cond.methodLink (cNm c) (pO c) Lib.objectInit ∈ TT) (tSl : ∀ c, pSl c ≠ 0 → Cond.methodLink (cNm c) (pSl c) mSlen.2.1 ∈ TT) (tSc : ∀ c, pSc c ≠ 0 → Cond.methodLink (cNm c) (pSc c) mSchr.2.1 ∈ TT)
    (tAc : ∀ c, pAc c ≠ 0 → Cond.methodLink (cNm c) (pAc c) arraycopyName ∈ TT) (tCn : ∀ c, pCn c ≠ 0 → Cond.methodLink (cNm c) (pCn c) ⟨"[I", "clone", "()Ljava/lang/Object;"⟩ ∈ TT)
    (hLen : ∀ d', 4 ≤ d' → ∀ i, i < 30 → ∀ h, CO G d' mSlen [.ref (G.2.2 i)] h (some (.int (nI (slen i)))) h) (hChr : ∀ d', 4 ≤ d' → ∀ i, i < 30 → ∀ k, k < slen i → ∀ h, CO G d' mSchr [.ref (G.2.2 i), .int (nI k)] h (some (.int (schr i k))) h)
    (hC : ∀ M' As h' Q', Cal M' As h' Q' → (∃ n, MOk M' n) → (eA As).length ≤ M'.2.2.2.1 → 0 < d ∧ ∃ r h2, Q' r h2 ∧ CO G (d - 1) M' As h' r h2)
    (hK : ∀ pc ls st h, K pc ls st h → SA G d M Q pc ls st h) {i : Instr} {n pc : Nat} {ls : aL} {st : List Value} {h : aH} (hd : decode M.2.2.1 pc = .ok (i, n)) (hn : n = ilen i n)
    (hw : stpS G d Cal M K i pc ls st h) : SA G d M Q pc ls st h := by
  have strec : ∀ i, i < 30 → ∀ (D : va_G) (tys : List (ClassId × FieldType)) (s : State) (H : Heap), Rep G.1 D tys h H → SV G D tys s → HV G s H → ∃ cellB : Cell, H[G.2.2 i]? = some cellB ∧ cellB.vm.isStatics = false ∧ s.vm.findClass "java/lang/String" = some cellB.cls := fun i hi D tys s H _ _ hH => by
    obtain ⟨⟨cell, g1, g2, g3, -⟩, -⟩ := hH.1 i hi
    exact ⟨cell, g1, g2, g3⟩
  unfold stpS at hw
  split at hw
  · have hn : n = 3 := hn
    subst hn
    split at hw
    · rename_i hidx
      obtain ⟨hi1, hi2⟩ := hidx
      subst hi1
      split at hw
      · rename_i a r
        obtain ⟨i, hi, rfl, hd5, hc, hw⟩ := hw
        exact SA.step (fun r1 h1 hh => ca_virt (M' := mSlen) (np := 0) (rest := r) (by omega) (tSl _ hi2) tSM_mSlen_ok tSM_mSlen_v.1 tSM_mSlen_v.2 rfl (Nat.zero_le _) hc (strec i hi) (hLen (d - 1) (by omega) i hi h) hd hh) (hK _ _ _ _ hw)
      · exact hw.elim
    · split at hw
      · rename_i hidx
        obtain ⟨hi1, hi2⟩ := hidx
        subst hi1
        split at hw
        · rename_i j a r
          obtain ⟨i, k, hi, rfl, hk, rfl, hd5, hc, hw⟩ := hw
          exact SA.step (fun r1 h1 hh => ca_virt (M' := mSchr) (np := 1) (rest := r) (by omega) (tSc _ hi2) tSM_mSchr_ok tSM_mSchr_v.1 tSM_mSchr_v.2 rfl (by simp) hc (strec i hi) (hChr (d - 1) (by omega) i hi k hk h) hd hh) (hK _ _ _ _ hw)
        · exact hw.elim
      · split at hw
        · rename_i hidx
          obtain ⟨hi1, hi2⟩ := hidx
          subst hi1
          split at hw
          · obtain ⟨hd1, hc, hw⟩ := hw
            obtain ⟨x, hx, hw⟩ := ob_at hw
            exact SA.step (fun r1 h1 hh => ca_clone (tCn _ hi2) hd1 hc hx hd hh) (hK _ _ _ _ hw)
          · exact hw.elim
        · obtain ⟨q, hq, ⟨a, fs, ha, hfs⟩, hw⟩ := ob_at hw
          obtain ⟨o1, o2, o3, o4, o5⟩ := tV _ _ (lk_mem hq)
          simp only at o1 o2 o3 o4 o5
          unfold cal at hw
          simp only [if_true] at hw
          obtain ⟨w1, w2, w3, w4⟩ := hw
          obtain ⟨e1, e2, e3⟩ := drop_get ha
          rw [e2] at w2 w4
          obtain ⟨hd1, r, h2, hq2, hco⟩ := hC _ _ _ _ w4 ⟨_, o2⟩ w2
          refine SA.step (fun r1 h1 hh => ca_virt hd1 o1 o2 o3 o4 e1 (by omega) w1 (fun D tys s H hR hV hH => ?_) hco hd hh) (hK _ _ _ _ hq2)
          have he := (hR.2 a _ (oF_at hfs)).2
          have := va_recv hV.1 he.obj (aC_at q.2.1 o5) (q0 := 0) rfl
          rw [← o2.2.2.2.2.2]
          exact this
  · have hn : n = 3 := hn
    subst hn
    split at hw
    · rename_i hidx
      obtain ⟨hi1, hi2⟩ := hidx
      subst hi1
      split at hw
      · obtain ⟨hd1, hc, t, f, n0, g, n1, ht, ha, hb, hB, z1, z2, z3, z4, z5, z6, z7, hw⟩ := hw
        exact SA.step (fun r1 h1 hh => ca_copy (tAc _ hi2) hd1 hc ht ha hb hB z1 z2 z3 z4 z5 z6 z7 hd hh) (hK _ _ _ _ hw)
      · exact hw.elim
    · obtain ⟨q, hq, hw⟩ := ob_at hw
      obtain ⟨o1, o2, o3⟩ := tS _ _ (lk_mem hq)
      simp only at o1 o2 o3
      unfold cal at hw
      simp only [Bool.false_eq_true, if_false] at hw
      obtain ⟨w1, w2, w3, w4⟩ := hw
      obtain ⟨hd1, r, h2, hq2, hco⟩ := hC _ _ _ _ w4 ⟨_, o2⟩ w2
      exact SA.step (fun r1 h1 hh => ca_stat hd1 o1 o2 o3 w3 w1 hco hd hh) (hK _ _ _ _ hq2)
  · have hn : n = 3 := hn
    subst hn
    split at hw
    · rename_i hidx
      obtain ⟨hi1, hi2⟩ := hidx
      subst hi1
      split at hw
      · obtain ⟨hd1, hc, hw⟩ := hw
        exact SA.step (fun r1 h1 hh => ca_obj (tO _ hi2) hd1 hc hd hh) (hK _ _ _ _ hw)
      · exact hw.elim
    · obtain ⟨q, hq, ⟨a, ha⟩, hw⟩ := ob_at hw
      have ok := tC _ _ (lk_mem hq)
      unfold cal at hw
      simp only [if_true] at hw
      obtain ⟨w1, w2, w3, w4⟩ := hw
      obtain ⟨e1, e2, e3⟩ := drop_get ha
      rw [e2] at w2 w4
      obtain ⟨hd1, r, h2, hq2, hco⟩ := hC _ _ _ _ w4 ⟨_, ok.2.1⟩ w2
      exact SA.step (fun r1 h1 hh => ca_init hd1 ok e1 (by omega) w1 hco hd hh) (hK _ _ _ _ hq2)
  · exact hw.elim
/-- the tables, all at once -/
def Tabs : Prop := (∀ c, ∀ q ∈ pK c, okK c q) ∧ (∀ c, ∀ q ∈ pJ c, okJ c q) ∧ (∀ c, ∀ q ∈ pT c, q.2 < 30 ∧ ∃ t, sOw[q.2]? = some (cNm c, q.1, t)) ∧ (∀ c, ∀ q ∈ pF c, okF c q) ∧ (∀ c, ∀ q ∈ pA c, okA c q) ∧ (∀ c, ∀ q ∈ pN c, okN c q) ∧
  (∀ c, ∀ q ∈ pV c, okV c q) ∧ (∀ c, ∀ q ∈ pS c, okS c q) ∧ (∀ c, ∀ q ∈ pC c, okC c q) ∧ (∀ c, pO c ≠ 0 → Cond.methodLink (cNm c) (pO c) Lib.objectInit ∈ TT) ∧ (∀ c, pSl c ≠ 0 → Cond.methodLink (cNm c) (pSl c) mSlen.2.1 ∈ TT) ∧ (∀ c, pSc c ≠ 0 → Cond.methodLink (cNm c) (pSc c) mSchr.2.1 ∈ TT) ∧
  (∀ c, pAc c ≠ 0 → Cond.methodLink (cNm c) (pAc c) arraycopyName ∈ TT) ∧ (∀ c, pCn c ≠ 0 → Cond.methodLink (cNm c) (pCn c) ⟨"[I", "clone", "()Ljava/lang/Object;"⟩ ∈ TT)
