/-! the JDK members of the string constants: length(), charAt(k) -/
theorem dJ0_length_8abf5_0 : decode cJ0_length_8abf5 0 = .ok (.aload_n 0, 1) := by decide +kernel
theorem dJ0_length_8abf5_1 : decode cJ0_length_8abf5 1 = .ok (.getfield 9, 3) := by decide +kernel
theorem dJ0_length_8abf5_4 : decode cJ0_length_8abf5 4 = .ok (.arraylength, 1) := by decide +kernel
theorem dJ0_length_8abf5_5 : decode cJ0_length_8abf5 5 = .ok (.aload_n 0, 1) := by decide +kernel
theorem dJ0_length_8abf5_6 : decode cJ0_length_8abf5 6 = .ok (.invokevirtual 335, 3) := by decide +kernel
theorem dJ0_length_8abf5_9 : decode cJ0_length_8abf5 9 = .ok (.ishr, 1) := by decide +kernel
theorem dJ0_length_8abf5_10 : decode cJ0_length_8abf5 10 = .ok (.ireturn, 1) := by decide +kernel
theorem dJ0_charAt_5068e_0 : decode cJ0_charAt_5068e 0 = .ok (.aload_n 0, 1) := by decide +kernel
theorem dJ0_charAt_5068e_1 : decode cJ0_charAt_5068e 1 = .ok (.invokevirtual 492, 3) := by decide +kernel
theorem dJ0_charAt_5068e_4 : decode cJ0_charAt_5068e 4 = .ok (.ifCond .eq 12, 3) := by decide +kernel
theorem dJ0_charAt_5068e_7 : decode cJ0_charAt_5068e 7 = .ok (.aload_n 0, 1) := by decide +kernel
theorem dJ0_charAt_5068e_8 : decode cJ0_charAt_5068e 8 = .ok (.getfield 9, 3) := by decide +kernel
theorem dJ0_charAt_5068e_11 : decode cJ0_charAt_5068e 11 = .ok (.iload_n 1, 1) := by decide +kernel
theorem dJ0_charAt_5068e_12 : decode cJ0_charAt_5068e 12 = .ok (.invokestatic 495, 3) := by decide +kernel
theorem dJ0_charAt_5068e_15 : decode cJ0_charAt_5068e 15 = .ok (.ireturn, 1) := by decide +kernel
theorem dJ0_charAt_5068e_16 : decode cJ0_charAt_5068e 16 = .ok (.aload_n 0, 1) := by decide +kernel
theorem dJ0_charAt_5068e_17 : decode cJ0_charAt_5068e 17 = .ok (.getfield 9, 3) := by decide +kernel
theorem dJ0_charAt_5068e_20 : decode cJ0_charAt_5068e 20 = .ok (.iload_n 1, 1) := by decide +kernel
theorem dJ0_charAt_5068e_21 : decode cJ0_charAt_5068e 21 = .ok (.invokestatic 498, 3) := by decide +kernel
theorem dJ0_charAt_5068e_24 : decode cJ0_charAt_5068e 24 = .ok (.ireturn, 1) := by decide +kernel
theorem dJ0_coder_7d493_0 : decode cJ0_coder_7d493 0 = .ok (.getstatic 38, 3) := by decide +kernel
theorem dJ0_coder_7d493_3 : decode cJ0_coder_7d493 3 = .ok (.ifCond .eq 10, 3) := by decide +kernel
theorem dJ0_coder_7d493_6 : decode cJ0_coder_7d493 6 = .ok (.aload_n 0, 1) := by decide +kernel
theorem dJ0_coder_7d493_7 : decode cJ0_coder_7d493 7 = .ok (.getfield 15, 3) := by decide +kernel
theorem dJ0_coder_7d493_10 : decode cJ0_coder_7d493 10 = .ok (.goto 4, 3) := by decide +kernel
theorem dJ0_coder_7d493_13 : decode cJ0_coder_7d493 13 = .ok (.iconst 1, 1) := by decide +kernel
theorem dJ0_coder_7d493_14 : decode cJ0_coder_7d493 14 = .ok (.ireturn, 1) := by decide +kernel
theorem dJ0_isLatin1_aae02_0 : decode cJ0_isLatin1_aae02 0 = .ok (.getstatic 38, 3) := by decide +kernel
theorem dJ0_isLatin1_aae02_3 : decode cJ0_isLatin1_aae02 3 = .ok (.ifCond .eq 14, 3) := by decide +kernel
theorem dJ0_isLatin1_aae02_6 : decode cJ0_isLatin1_aae02 6 = .ok (.aload_n 0, 1) := by decide +kernel
theorem dJ0_isLatin1_aae02_7 : decode cJ0_isLatin1_aae02 7 = .ok (.getfield 15, 3) := by decide +kernel
theorem dJ0_isLatin1_aae02_10 : decode cJ0_isLatin1_aae02 10 = .ok (.ifCond .ne 7, 3) := by decide +kernel
theorem dJ0_isLatin1_aae02_13 : decode cJ0_isLatin1_aae02 13 = .ok (.iconst 1, 1) := by decide +kernel
theorem dJ0_isLatin1_aae02_14 : decode cJ0_isLatin1_aae02 14 = .ok (.goto 4, 3) := by decide +kernel
theorem dJ0_isLatin1_aae02_17 : decode cJ0_isLatin1_aae02 17 = .ok (.iconst 0, 1) := by decide +kernel
theorem dJ0_isLatin1_aae02_18 : decode cJ0_isLatin1_aae02 18 = .ok (.ireturn, 1) := by decide +kernel
theorem dJ0_checkIndex_df160_0 : decode cJ0_checkIndex_df160 0 = .ok (.iload_n 0, 1) := by decide +kernel
theorem dJ0_checkIndex_df160_1 : decode cJ0_checkIndex_df160 1 = .ok (.iload_n 1, 1) := by decide +kernel
theorem dJ0_checkIndex_df160_2 : decode cJ0_checkIndex_df160 2 = .ok (.getstatic 1053, 3) := by decide +kernel
theorem dJ0_checkIndex_df160_5 : decode cJ0_checkIndex_df160 5 = .ok (.invokestatic 1059, 3) := by decide +kernel
theorem dJ0_checkIndex_df160_8 : decode cJ0_checkIndex_df160 8 = .ok (.pop, 1) := by decide +kernel
theorem dJ0_checkIndex_df160_9 : decode cJ0_checkIndex_df160 9 = .ok (.return_, 1) := by decide +kernel
theorem dJ1_charAt_3b067_0 : decode cJ1_charAt_3b067 0 = .ok (.iload_n 1, 1) := by decide +kernel
theorem dJ1_charAt_3b067_1 : decode cJ1_charAt_3b067 1 = .ok (.aload_n 0, 1) := by decide +kernel
theorem dJ1_charAt_3b067_2 : decode cJ1_charAt_3b067 2 = .ok (.arraylength, 1) := by decide +kernel
theorem dJ1_charAt_3b067_3 : decode cJ1_charAt_3b067 3 = .ok (.invokestatic 9, 3) := by decide +kernel
theorem dJ1_charAt_3b067_6 : decode cJ1_charAt_3b067 6 = .ok (.aload_n 0, 1) := by decide +kernel
theorem dJ1_charAt_3b067_7 : decode cJ1_charAt_3b067 7 = .ok (.iload_n 1, 1) := by decide +kernel
theorem dJ1_charAt_3b067_8 : decode cJ1_charAt_3b067 8 = .ok (.baload, 1) := by decide +kernel
theorem dJ1_charAt_3b067_9 : decode cJ1_charAt_3b067 9 = .ok (.sipush 255, 3) := by decide +kernel
theorem dJ1_charAt_3b067_12 : decode cJ1_charAt_3b067 12 = .ok (.iand, 1) := by decide +kernel
theorem dJ1_charAt_3b067_13 : decode cJ1_charAt_3b067 13 = .ok (.i2c, 1) := by decide +kernel
theorem dJ1_charAt_3b067_14 : decode cJ1_charAt_3b067 14 = .ok (.ireturn, 1) := by decide +kernel
theorem dJ3_checkIndex_8e157_0 : decode cJ3_checkIndex_8e157 0 = .ok (.iload_n 0, 1) := by decide +kernel
theorem dJ3_checkIndex_8e157_1 : decode cJ3_checkIndex_8e157 1 = .ok (.ifCond .lt 8, 3) := by decide +kernel
theorem dJ3_checkIndex_8e157_4 : decode cJ3_checkIndex_8e157 4 = .ok (.iload_n 0, 1) := by decide +kernel
theorem dJ3_checkIndex_8e157_5 : decode cJ3_checkIndex_8e157 5 = .ok (.iload_n 1, 1) := by decide +kernel
theorem dJ3_checkIndex_8e157_6 : decode cJ3_checkIndex_8e157 6 = .ok (.if_icmp .lt 10, 3) := by decide +kernel
theorem dJ3_checkIndex_8e157_9 : decode cJ3_checkIndex_8e157 9 = .ok (.aload_n 2, 1) := by decide +kernel
theorem dJ3_checkIndex_8e157_10 : decode cJ3_checkIndex_8e157 10 = .ok (.iload_n 0, 1) := by decide +kernel
theorem dJ3_checkIndex_8e157_11 : decode cJ3_checkIndex_8e157 11 = .ok (.iload_n 1, 1) := by decide +kernel
theorem dJ3_checkIndex_8e157_12 : decode cJ3_checkIndex_8e157 12 = .ok (.invokestatic 95, 3) := by decide +kernel
theorem dJ3_checkIndex_8e157_15 : decode cJ3_checkIndex_8e157 15 = .ok (.athrow, 1) := by decide +kernel
theorem dJ3_checkIndex_8e157_16 : decode cJ3_checkIndex_8e157 16 = .ok (.iload_n 0, 1) := by decide +kernel
theorem dJ3_checkIndex_8e157_17 : decode cJ3_checkIndex_8e157 17 = .ok (.ireturn, 1) := by decide +kernel
section STR
variable {G : aG} {i : Nat} {h : aH}
theorem slen_lt : ∀ i, i < 30 → slen i < 100 := by decide
theorem schr_ok : ∀ i, i < 30 → ∀ k, k < slen i → schr i k &&& 255 = schr i k ∧ ((schr i k).toUInt32 % 65536).toInt32 = schr i k ∧ narrow .char (.int (schr i k)) = .int (schr i k) := by decide +kernel
theorem st_cod (hi : i < 30) (d : Nat) : WW G d mScod (some (.int 0)) h 0 (eL 1 [.ref (G.2.2 i)]) [] h := by
  show WW G d mScod _ h 0 [some (.ref (G.2.2 i))] [] h
  refine ww_read (fun D tys p l e R s m args below meth c sl0 Qf H locs lsA cells slots C S k => va_gets C.1 C.2.1 C.2.2.2.2.2.2.2.1.2.1 S.2.1 C.2.2.2.1 (C.2.2.2.2.1 _ tSM_f_38) (fun x hx => hx) dJ0_coder_7d493_0 k) ?_
  refine ww_same (fun p l e R s m args below meth c Qf H locs cells slots lsA hx hb hL hown hts hvk k => lv_if_eq hx hb dJ0_coder_7d493_3 (tgt := 13) rfl (fun z => absurd z (by decide)) (fun _ => k)) ?_
  refine ww_same (fun p l e R s m args below meth c Qf H locs cells slots lsA hx hb hL hown hts hvk k => lv_aload_n hx hb dJ0_coder_7d493_6 rfl (hL.at rfl) k) ?_
  refine ww_read (fun D tys p l e R s m args below meth c sl0 Qf H locs lsA cells slots C S k => vk_getf C.1 C.2.1 (C.2.2.2.2.2.2.2.1.1 i hi).2.1 S.2.1 C.2.2.2.1 (C.2.2.2.2.1 _ tSM_f_15) (fun x hx => hx) dJ0_coder_7d493_7 k) ?_
  refine ww_same (fun p l e R s m args below meth c Qf H locs cells slots lsA hx hb hL hown hts hvk k => lv_goto hx hb dJ0_coder_7d493_10 (tgt := 14) rfl k) ?_
  exact hh_ret dJ0_coder_7d493_14 ⟨_, rfl, rfl⟩ rfl
theorem st_lat (hi : i < 30) (d : Nat) : WW G d mSlat (some (.int 1)) h 0 (eL 1 [.ref (G.2.2 i)]) [] h := by
  show WW G d mSlat _ h 0 [some (.ref (G.2.2 i))] [] h
  refine ww_read (fun D tys p l e R s m args below meth c sl0 Qf H locs lsA cells slots C S k => va_gets C.1 C.2.1 C.2.2.2.2.2.2.2.1.2.1 S.2.1 C.2.2.2.1 (C.2.2.2.2.1 _ tSM_f_38) (fun x hx => hx) dJ0_isLatin1_aae02_0 k) ?_
  refine ww_same (fun p l e R s m args below meth c Qf H locs cells slots lsA hx hb hL hown hts hvk k => lv_if_eq hx hb dJ0_isLatin1_aae02_3 (tgt := 17) rfl (fun z => absurd z (by decide)) (fun _ => k)) ?_
  refine ww_same (fun p l e R s m args below meth c Qf H locs cells slots lsA hx hb hL hown hts hvk k => lv_aload_n hx hb dJ0_isLatin1_aae02_6 rfl (hL.at rfl) k) ?_
  refine ww_read (fun D tys p l e R s m args below meth c sl0 Qf H locs lsA cells slots C S k => vk_getf C.1 C.2.1 (C.2.2.2.2.2.2.2.1.1 i hi).2.1 S.2.1 C.2.2.2.1 (C.2.2.2.2.1 _ tSM_f_15) (fun x hx => hx) dJ0_isLatin1_aae02_7 k) ?_
  refine ww_same (fun p l e R s m args below meth c Qf H locs cells slots lsA hx hb hL hown hts hvk k => lv_if_ne hx hb dJ0_isLatin1_aae02_10 (tgt := 17) rfl (fun z => absurd rfl z) (fun _ => k)) ?_
  refine ww_same (fun p l e R s m args below meth c Qf H locs cells slots lsA hx hb hL hown hts hvk k => lv_iconst hx hb dJ0_isLatin1_aae02_13 rfl k) ?_
  refine ww_same (fun p l e R s m args below meth c Qf H locs cells slots lsA hx hb hL hown hts hvk k => lv_goto hx hb dJ0_isLatin1_aae02_14 (tgt := 18) rfl k) ?_
  exact hh_ret dJ0_isLatin1_aae02_18 ⟨_, rfl, rfl⟩ rfl
theorem co_cod (hi : i < 30) (d : Nat) : CO G d mScod [.ref (G.2.2 i)] h (some (.int 0)) h := co_of tSM_mScod_ok (Nat.le_of_ble_eq_true rfl) (st_cod hi d)
theorem co_lat (hi : i < 30) (d : Nat) : CO G d mSlat [.ref (G.2.2 i)] h (some (.int 1)) h := co_of tSM_mSlat_ok (Nat.le_of_ble_eq_true rfl) (st_lat hi d)
theorem st_rec (hi : i < 30) : ∀ (D : va_G) (tys : List (ClassId × FieldType)) (s : State) (H : Heap), Rep G.1 D tys h H → SV G D tys s → HV G s H → ∃ cellB : Cell, H[G.2.2 i]? = some cellB ∧ cellB.vm.isStatics = false ∧ s.vm.findClass "java/lang/String" = some cellB.cls := fun D tys s H _ _ hH => by
  obtain ⟨⟨cell, g1, g2, g3, -⟩, -⟩ := hH.1 i hi
  exact ⟨cell, g1, g2, g3⟩
/-- the length of a constant's bytes -/
theorem st_alen {d : Nat} {M : aM} {r1 : Option Value} {h1 : aH} {pc : Nat} {ls : aL} {r : List Value} (hi : i < 30) (hd : decode M.2.2.1 pc = .ok (.arraylength, 1)) (hw : WW G d M r1 h1 (pc + 1) ls (.int (nI (slen i)) :: r) h) : WW G d M r1 h1 pc ls (.ref (G.2.2 (30 + i)) :: r) h := by
  refine ww_read (fun D tys p l e R s m args below meth c sl0 Qf H locs lsA cells slots C S k => ?_) hw
  obtain ⟨hx, hb, hml, hown, hts, hnm, hV, hH, x1, x2, x3, x4, x5, x6, -⟩ := id C
  obtain ⟨cell, g1, g2, g3, g4, g5, g6, g7⟩ := ((hH.kept x5 x6 S.2.1.2.1).1 i hi).2.2.2
  exact W.alen (n := nI (slen i)) hx hb g1 g2 g5 rfl rfl hd k
theorem st_bald {d : Nat} {M : aM} {r1 : Option Value} {h1 : aH} {pc k : Nat} {ls : aL} {r : List Value} (hi : i < 30) (hk : k < slen i) (hd : decode M.2.2.1 pc = .ok (.baload, 1)) (hw : WW G d M r1 h1 (pc + 1) ls (.int (schr i k) :: r) h) : WW G d M r1 h1 pc ls (.int (nI k) :: .ref (G.2.2 (30 + i)) :: r) h := by
  have hl := slen_lt i hi
  refine ww_read (fun D tys p l e R s m args below meth c sl0 Qf H locs lsA cells slots C S k9 => ?_) hw
  obtain ⟨hx, hb, hml, hown, hts, hnm, hV, hH, x1, x2, x3, x4, x5, x6, -⟩ := id C
  obtain ⟨cell, g1, g2, g3, g4, g5, g6, g7⟩ := ((hH.kept x5 x6 S.2.1.2.1).1 i hi).2.2.2
  have hc : (nI k).toNatClampNeg = k := nI_clamp (by omega)
  exact W.bald (v := .int (schr i k)) hx hb g1 g2 g3 (by rw [hc]; exact fun z => z.elim (nI_pos (by omega)) (fun z => by omega)) (by rw [hc]; exact g6 k hk) rfl rfl hd k9
theorem st_len (hi : i < 30) {d : Nat} (hd : 1 ≤ d) : WW G d mSlen (some (.int (nI (slen i)))) h 0 (eL 1 [.ref (G.2.2 i)]) [] h := by
  have hl := slen_lt i hi
  show WW G d mSlen _ h 0 [some (.ref (G.2.2 i))] [] h
  refine ww_same (fun p l e R s m args below meth c Qf H locs cells slots lsA hx hb hL hown hts hvk k => lv_aload_n hx hb dJ0_length_8abf5_0 rfl (hL.at rfl) k) ?_
  refine ww_read (fun D tys p l e R s m args below meth c sl0 Qf H locs lsA cells slots C S k => vk_getf C.1 C.2.1 (C.2.2.2.2.2.2.2.1.1 i hi).2.2.1 S.2.1 C.2.2.2.1 (C.2.2.2.2.1 _ tSM_f_9) (fun x hx => hx) dJ0_length_8abf5_1 k) ?_
  refine st_alen hi dJ0_length_8abf5_4 ?_
  refine ww_same (fun p l e R s m args below meth c Qf H locs cells slots lsA hx hb hL hown hts hvk k => lv_aload_n hx hb dJ0_length_8abf5_5 rfl (hL.at rfl) k) ?_
  refine ca_virt (M' := mScod) (np := 0) (rest := [.int (nI (slen i))]) (r := some (.int 0)) (by omega) tSM_l_String_335 tSM_mScod_ok tSM_mScod_v.1 tSM_mScod_v.2 rfl (Nat.zero_le _) (by show (1 : Nat) ≤ 8; omega) (st_rec hi) (co_cod hi (d - 1)) dJ0_length_8abf5_6 ?_
  refine ww_same (pc' := 10) (st' := [.int (nI (slen i))]) (fun p l e R s m args below meth c Qf H locs cells slots lsA hx hb hL hown hts hvk k => lv_ishr hx hb dJ0_length_8abf5_9 ?_) ?_
  · rw [sc_shr0 (by omega)]; exact k
  · exact hh_ret dJ0_length_8abf5_10 ⟨_, rfl, rfl⟩ rfl
theorem st_pre {n k : Nat} (hn : n < 100) (hk : k < n) (v : Value) (d : Nat) : WW G d mSpre (some (.int (nI k))) h 0 [some (.int (nI k)), some (.int (nI n)), some v] [] h := by
  refine ww_same (fun p l e R s m args below meth c Qf H locs cells slots lsA hx hb hL hown hts hvk k => lv_iload_n hx hb dJ3_checkIndex_8e157_0 rfl (hL.at rfl) k) ?_
  refine ww_same (fun p l e R s m args below meth c Qf H locs cells slots lsA hx hb hL hown hts hvk k => lv_if_lt hx hb dJ3_checkIndex_8e157_1 (tgt := 9) rfl (fun z => absurd z (nI_pos (by omega))) (fun _ => k)) ?_
  refine ww_same (fun p l e R s m args below meth c Qf H locs cells slots lsA hx hb hL hown hts hvk k => lv_iload_n hx hb dJ3_checkIndex_8e157_4 rfl (hL.at rfl) k) ?_
  refine ww_same (fun p l e R s m args below meth c Qf H locs cells slots lsA hx hb hL hown hts hvk k => lv_iload_n hx hb dJ3_checkIndex_8e157_5 rfl (hL.at rfl) k) ?_
  refine ww_same (fun p l e R s m args below meth c Qf H locs cells slots lsA hx hb hL hown hts hvk k => lv_icmp_lt hx hb dJ3_checkIndex_8e157_6 (tgt := 16) rfl (fun _ => k) (fun z => absurd (nI_lt hk (by omega)) z)) ?_
  refine ww_same (fun p l e R s m args below meth c Qf H locs cells slots lsA hx hb hL hown hts hvk k => lv_iload_n hx hb dJ3_checkIndex_8e157_16 rfl (hL.at rfl) k) ?_
  exact hh_ret dJ3_checkIndex_8e157_17 ⟨_, rfl, rfl⟩ rfl
theorem fmt_cat : (fmtV G).category = 1 := by
  unfold fmtV
  split <;> rfl
theorem co_pre {n k : Nat} (hn : n < 100) (hk : k < n) (d : Nat) : CO G d mSpre [.int (nI k), .int (nI n), fmtV G] h (some (.int (nI k))) h := by
  have e : eL 3 [.int (nI k), .int (nI n), fmtV G] = [some (.int (nI k)), some (.int (nI n)), some (fmtV G)] := by
    unfold fmtV
    split <;> rfl
  have e2 : (eA [.int (nI k), .int (nI n), fmtV G]).length = 3 := by
    unfold fmtV
    split <;> rfl
  refine co_of tSM_mSpre_ok (by rw [e2]; decide) ?_
  show WW G d mSpre _ h 0 (eL 3 _) [] h
  rw [e]
  exact st_pre hn hk _ d
theorem st_chk {n k : Nat} (hn : n < 100) (hk : k < n) {d : Nat} (hd : 1 ≤ d) : WW G d mSchk none h 0 (eL 2 [.int (nI k), .int (nI n)]) [] h := by
  show WW G d mSchk _ h 0 [some (.int (nI k)), some (.int (nI n))] [] h
  refine ww_same (fun p l e R s m args below meth c Qf H locs cells slots lsA hx hb hL hown hts hvk k => lv_iload_n hx hb dJ0_checkIndex_df160_0 rfl (hL.at rfl) k) ?_
  refine ww_same (fun p l e R s m args below meth c Qf H locs cells slots lsA hx hb hL hown hts hvk k => lv_iload_n hx hb dJ0_checkIndex_df160_1 rfl (hL.at rfl) k) ?_
  refine ww_read (fun D tys p l e R s m args below meth c sl0 Qf H locs lsA cells slots C S k => va_gets C.1 C.2.1 C.2.2.2.2.2.2.2.1.2.2.1 S.2.1 C.2.2.2.1 (C.2.2.2.2.1 _ tSM_f_1053) (fun x hx => hx) dJ0_checkIndex_df160_2 k) ?_
  refine ca_stat (M' := mSpre) (np := 3) (r := some (.int (nI k))) (by omega) tSM_l_String_1059 tSM_mSpre_ok tSM_mSpre_s (by simp) (Nat.le_of_ble_eq_true rfl) (co_pre hn hk (d - 1)) dJ0_checkIndex_df160_5 ?_
  refine ww_same (fun p l e R s m args below meth c Qf H locs cells slots lsA hx hb hL hown hts hvk k => lv_pop hx hb dJ0_checkIndex_df160_8 rfl k) ?_
  exact hh_ret dJ0_checkIndex_df160_9 rfl rfl
theorem co_chk {n k : Nat} (hn : n < 100) (hk : k < n) {d : Nat} (hd : 1 ≤ d) : CO G d mSchk [.int (nI k), .int (nI n)] h none h := co_of tSM_mSchk_ok (Nat.le_of_ble_eq_true rfl) (st_chk hn hk hd)
theorem st_lch {k : Nat} (hi : i < 30) (hk : k < slen i) {d : Nat} (hd : 2 ≤ d) : WW G d mSlch (some (.int (schr i k))) h 0 (eL 2 [.ref (G.2.2 (30 + i)), .int (nI k)]) [] h := by
  have hl := slen_lt i hi
  obtain ⟨e1, e2, e3⟩ := schr_ok i hi k hk
  show WW G d mSlch _ h 0 [some (.ref (G.2.2 (30 + i))), some (.int (nI k))] [] h
  refine ww_same (fun p l e R s m args below meth c Qf H locs cells slots lsA hx hb hL hown hts hvk k => lv_iload_n hx hb dJ1_charAt_3b067_0 rfl (hL.at rfl) k) ?_
  refine ww_same (fun p l e R s m args below meth c Qf H locs cells slots lsA hx hb hL hown hts hvk k => lv_aload_n hx hb dJ1_charAt_3b067_1 rfl (hL.at rfl) k) ?_
  refine st_alen hi dJ1_charAt_3b067_2 ?_
  refine ca_stat (M' := mSchk) (np := 2) (r := none) (by omega) tSM_l_StringLatin1_9 tSM_mSchk_ok tSM_mSchk_s (by simp) (Nat.le_of_ble_eq_true rfl) (co_chk hl hk (by omega)) dJ1_charAt_3b067_3 ?_
  refine ww_same (fun p l e R s m args below meth c Qf H locs cells slots lsA hx hb hL hown hts hvk k => lv_aload_n hx hb dJ1_charAt_3b067_6 rfl (hL.at rfl) k) ?_
  refine ww_same (fun p l e R s m args below meth c Qf H locs cells slots lsA hx hb hL hown hts hvk k => lv_iload_n hx hb dJ1_charAt_3b067_7 rfl (hL.at rfl) k) ?_
  refine st_bald hi hk dJ1_charAt_3b067_8 ?_
  refine ww_same (fun p l e R s m args below meth c Qf H locs cells slots lsA hx hb hL hown hts hvk k => lv_sipush hx hb dJ1_charAt_3b067_9 rfl k) ?_
  refine ww_same (pc' := 13) (st' := [.int (schr i k)]) (fun p l e R s m args below meth c Qf H locs cells slots lsA hx hb hL hown hts hvk k9 => lv_iand hx hb dJ1_charAt_3b067_12 ?_) ?_
  · rw [show (Int16.ofInt 255).toInt32 = 255 from by decide, e1]; exact k9
  · refine ww_same (fun p l e R s m args below meth c Qf H locs cells slots lsA hx hb hL hown hts hvk k9 => lv_i2c hx hb dJ1_charAt_3b067_13 e2 k9) ?_
    exact hh_ret dJ1_charAt_3b067_14 ⟨_, rfl, e3⟩ rfl
theorem co_lch {k : Nat} (hi : i < 30) (hk : k < slen i) {d : Nat} (hd : 2 ≤ d) : CO G d mSlch [.ref (G.2.2 (30 + i)), .int (nI k)] h (some (.int (schr i k))) h := co_of tSM_mSlch_ok (Nat.le_of_ble_eq_true rfl) (st_lch hi hk hd)
theorem st_chr {k : Nat} (hi : i < 30) (hk : k < slen i) {d : Nat} (hd : 3 ≤ d) : WW G d mSchr (some (.int (schr i k))) h 0 (eL 2 [.ref (G.2.2 i), .int (nI k)]) [] h := by
  obtain ⟨e1, e2, e3⟩ := schr_ok i hi k hk
  show WW G d mSchr _ h 0 [some (.ref (G.2.2 i)), some (.int (nI k))] [] h
  refine ww_same (fun p l e R s m args below meth c Qf H locs cells slots lsA hx hb hL hown hts hvk k => lv_aload_n hx hb dJ0_charAt_5068e_0 rfl (hL.at rfl) k) ?_
  refine ca_virt (M' := mSlat) (np := 0) (rest := []) (r := some (.int 1)) (by omega) tSM_l_String_492 tSM_mSlat_ok tSM_mSlat_v.1 tSM_mSlat_v.2 rfl (Nat.zero_le _) (Nat.zero_le _) (st_rec hi) (co_lat hi (d - 1)) dJ0_charAt_5068e_1 ?_
  refine ww_same (fun p l e R s m args below meth c Qf H locs cells slots lsA hx hb hL hown hts hvk k => lv_if_eq hx hb dJ0_charAt_5068e_4 (tgt := 16) rfl (fun z => absurd z (by decide)) (fun _ => k)) ?_
  refine ww_same (fun p l e R s m args below meth c Qf H locs cells slots lsA hx hb hL hown hts hvk k => lv_aload_n hx hb dJ0_charAt_5068e_7 rfl (hL.at rfl) k) ?_
  refine ww_read (fun D tys p l e R s m args below meth c sl0 Qf H locs lsA cells slots C S k => vk_getf C.1 C.2.1 (C.2.2.2.2.2.2.2.1.1 i hi).2.2.1 S.2.1 C.2.2.2.1 (C.2.2.2.2.1 _ tSM_f_9) (fun x hx => hx) dJ0_charAt_5068e_8 k) ?_
  refine ww_same (fun p l e R s m args below meth c Qf H locs cells slots lsA hx hb hL hown hts hvk k => lv_iload_n hx hb dJ0_charAt_5068e_11 rfl (hL.at rfl) k) ?_
  refine ca_stat (M' := mSlch) (np := 2) (r := some (.int (schr i k))) (by omega) tSM_l_String_495 tSM_mSlch_ok tSM_mSlch_s (by simp) (Nat.le_of_ble_eq_true rfl) (co_lch hi hk (by omega)) dJ0_charAt_5068e_12 ?_
  exact hh_ret dJ0_charAt_5068e_15 ⟨_, rfl, e3⟩ rfl
theorem co_len (d' : Nat) (hd : 4 ≤ d') (i : Nat) (hi : i < 30) (h : aH) : CO G d' mSlen [.ref (G.2.2 i)] h (some (.int (nI (slen i)))) h := co_of tSM_mSlen_ok (Nat.le_of_ble_eq_true rfl) (st_len hi (by omega))
theorem co_chr (d' : Nat) (hd : 4 ≤ d') (i : Nat) (hi : i < 30) (k : Nat) (hk : k < slen i) (h : aH) : CO G d' mSchr [.ref (G.2.2 i), .int (nI k)] h (some (.int (schr i k))) h := co_of tSM_mSchr_ok (Nat.le_of_ble_eq_true rfl) (st_chr hi hk (by omega))
end STR
