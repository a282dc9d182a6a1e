theorem aC_at : ∀ c, c < 12 → aC[c]? = some (aCl c) := by
  intro c hc
  match c, hc with
  | 0, _ => rfl
  | 1, _ => rfl
  | 2, _ => rfl
  | 3, _ => rfl
  | 4, _ => rfl
  | 5, _ => rfl
  | 6, _ => rfl
  | 7, _ => rfl
  | 8, _ => rfl
  | 9, _ => rfl
  | 10, _ => rfl
  | 11, _ => rfl
theorem tO_i : Cond.instanceMethod Lib.objectInit ∈ TT := inTT 106 (by decide +kernel) rfl
theorem tO_c : Cond.code Lib.objectInit ⟨#[0xb1]⟩ 1 none ∈ TT := inTT 107 (by decide +kernel) rfl
theorem tCn : ∀ c, pCn c ≠ 0 → Cond.methodLink (cNm c) (pCn c) ⟨"[I", "clone", "()Ljava/lang/Object;"⟩ ∈ TT := by
  intro c h
  match c, h with
  | 0, h => exact absurd rfl h
  | 1, h => exact absurd rfl h
  | 2, h => exact absurd rfl h
  | 3, h => exact absurd rfl h
  | 4, h => exact absurd rfl h
  | 5, h => exact absurd rfl h
  | 6, h => exact absurd rfl h
  | 7, h => exact absurd rfl h
  | 8, h => exact absurd rfl h
  | 9, h => exact absurd rfl h
  | 10, h => exact absurd rfl h
  | 11, h => exact absurd rfl h
  | 12, h => exact absurd rfl h
  | 13, h => exact absurd rfl h
  | 14, _ => exact inTT 666 (by decide +kernel) rfl
  | _ + 15, h => exact absurd rfl h
theorem tT_all : ∀ c, ∀ q ∈ pT c, q.2 < 30 ∧ ∃ t, sOw[q.2]? = some (cNm c, q.1, t) := by
  intro c
  match c with
  | 7 => exact List.forall_mem_cons.mpr ⟨⟨by decide, _, rfl⟩, List.forall_mem_cons.mpr ⟨⟨by decide, _, rfl⟩, List.forall_mem_cons.mpr ⟨⟨by decide, _, rfl⟩, List.forall_mem_cons.mpr ⟨⟨by decide, _, rfl⟩, List.forall_mem_cons.mpr ⟨⟨by decide, _, rfl⟩, List.forall_mem_cons.mpr ⟨⟨by decide, _, rfl⟩, List.forall_mem_cons.mpr ⟨⟨by decide, _, rfl⟩, List.forall_mem_cons.mpr ⟨⟨by decide, _, rfl⟩, List.forall_mem_cons.mpr ⟨⟨by decide, _, rfl⟩, List.forall_mem_cons.mpr ⟨⟨by decide, _, rfl⟩, List.forall_mem_cons.mpr ⟨⟨by decide, _, rfl⟩, List.forall_mem_cons.mpr ⟨⟨by decide, _, rfl⟩, List.forall_mem_cons.mpr ⟨⟨by decide, _, rfl⟩, List.forall_mem_cons.mpr ⟨⟨by decide, _, rfl⟩, List.forall_mem_cons.mpr ⟨⟨by decide, _, rfl⟩, fun _ h => absurd h List.not_mem_nil⟩⟩⟩⟩⟩⟩⟩⟩⟩⟩⟩⟩⟩⟩⟩
  | 11 => exact List.forall_mem_cons.mpr ⟨⟨by decide, _, rfl⟩, List.forall_mem_cons.mpr ⟨⟨by decide, _, rfl⟩, List.forall_mem_cons.mpr ⟨⟨by decide, _, rfl⟩, List.forall_mem_cons.mpr ⟨⟨by decide, _, rfl⟩, List.forall_mem_cons.mpr ⟨⟨by decide, _, rfl⟩, List.forall_mem_cons.mpr ⟨⟨by decide, _, rfl⟩, List.forall_mem_cons.mpr ⟨⟨by decide, _, rfl⟩, List.forall_mem_cons.mpr ⟨⟨by decide, _, rfl⟩, List.forall_mem_cons.mpr ⟨⟨by decide, _, rfl⟩, List.forall_mem_cons.mpr ⟨⟨by decide, _, rfl⟩, List.forall_mem_cons.mpr ⟨⟨by decide, _, rfl⟩, List.forall_mem_cons.mpr ⟨⟨by decide, _, rfl⟩, List.forall_mem_cons.mpr ⟨⟨by decide, _, rfl⟩, List.forall_mem_cons.mpr ⟨⟨by decide, _, rfl⟩, List.forall_mem_cons.mpr ⟨⟨by decide, _, rfl⟩, fun _ h => absurd h List.not_mem_nil⟩⟩⟩⟩⟩⟩⟩⟩⟩⟩⟩⟩⟩⟩⟩
  | 0 => exact fun _ h => absurd h List.not_mem_nil
  | 1 => exact fun _ h => absurd h List.not_mem_nil
  | 2 => exact fun _ h => absurd h List.not_mem_nil
  | 3 => exact fun _ h => absurd h List.not_mem_nil
  | 4 => exact fun _ h => absurd h List.not_mem_nil
  | 5 => exact fun _ h => absurd h List.not_mem_nil
  | 6 => exact fun _ h => absurd h List.not_mem_nil
  | 8 => exact fun _ h => absurd h List.not_mem_nil
  | 9 => exact fun _ h => absurd h List.not_mem_nil
  | 10 => exact fun _ h => absurd h List.not_mem_nil
  | _ + 12 => exact fun _ h => absurd h List.not_mem_nil
theorem wsOk_0 : ∀ w ∈ u_ws RX0 TX0 3, w ∈ TT := inTTs [307, 309, 311] (by decide +kernel) (by decide +kernel)
theorem wsOk_1 : ∀ w ∈ u_ws RX1 TX1 7, w ∈ TT := inTTs [283, 285, 287, 289, 291, 293, 295] (by decide +kernel) (by decide +kernel)
theorem wsOk_2 : ∀ w ∈ u_ws RX2 TX2 2, w ∈ TT := inTTs [238, 240] (by decide +kernel) (by decide +kernel)
theorem wsOk_3 : ∀ w ∈ u_ws RX3 TX3 2, w ∈ TT := inTTs [689, 691] (by decide +kernel) (by decide +kernel)
theorem wsOk_4 : ∀ w ∈ u_ws RX4 TX4 11, w ∈ TT := inTTs [199, 201, 203, 205, 207, 209, 211, 213, 215, 217, 219] (by decide +kernel) (by decide +kernel)
theorem wsOk_5 : ∀ w ∈ u_ws RX5 TX5 3, w ∈ TT := inTTs [250, 252, 254] (by decide +kernel) (by decide +kernel)
theorem wsOk_6 : ∀ w ∈ u_ws RX6 TX6 2, w ∈ TT := inTTs [271, 273] (by decide +kernel) (by decide +kernel)
theorem wsOk_7 : ∀ w ∈ u_ws RX7 TX7 7, w ∈ TT := inTTs [172, 174, 176, 178, 180, 182, 184] (by decide +kernel) (by decide +kernel)
theorem wsOk_8 : ∀ w ∈ u_ws RX8 TX8 6, w ∈ TT := inTTs [393, 395, 397, 399, 401, 403] (by decide +kernel) (by decide +kernel)
theorem wsOk_9 : ∀ w ∈ u_ws RX9 TX9 7, w ∈ TT := inTTs [132, 134, 136, 138, 140, 142, 144] (by decide +kernel) (by decide +kernel)
theorem wsOk_10 : ∀ w ∈ u_ws RX10 TX10 12, w ∈ TT := inTTs [326, 328, 330, 332, 334, 336, 338, 340, 342, 344, 346, 348] (by decide +kernel) (by decide +kernel)
theorem wsOk_11 : ∀ w ∈ u_ws RX11 TX11 51, w ∈ TT := inTTs [1101, 1103, 1105, 1107, 1109, 1111, 1113, 1115, 1117, 1119, 1121, 1123, 1125, 1127, 1129, 1131, 1133, 1135, 1137, 1139, 1141, 1143, 1145, 1147, 1149, 1151, 1153, 1155, 1157, 1159, 1161, 1163, 1165, 1167, 1169, 1171, 1173, 1175, 1177, 1179, 1181, 1183, 1185, 1187, 1189, 1191, 1193, 1195, 1197, 1199, 1201] (by decide +kernel) (by decide +kernel)
theorem wsOk : ∀ c, c < 12 → ∀ w ∈ u_ws (cNm c) (fTb c) (fN c), w ∈ TT := by
  intro c hc
  match c, hc with
  | 0, _ => exact wsOk_0
  | 1, _ => exact wsOk_1
  | 2, _ => exact wsOk_2
  | 3, _ => exact wsOk_3
  | 4, _ => exact wsOk_4
  | 5, _ => exact wsOk_5
  | 6, _ => exact wsOk_6
  | 7, _ => exact wsOk_7
  | 8, _ => exact wsOk_8
  | 9, _ => exact wsOk_9
  | 10, _ => exact wsOk_10
  | 11, _ => exact wsOk_11
theorem nmOk : ∀ c, c < 12 → ∀ a, a < fN c → ∀ b, b < fN c → a ≠ b → (fTb c a).2.1 ≠ (fTb c b).2.1 := by
  intro c hc
  match c, hc with
  | 0, _ => exact nmX0
  | 1, _ => exact nmX1
  | 2, _ => exact nmX2
  | 3, _ => exact nmX3
  | 4, _ => exact nmX4
  | 5, _ => exact nmX5
  | 6, _ => exact nmX6
  | 7, _ => exact nmX7
  | 8, _ => exact nmX8
  | 9, _ => exact nmX9
  | 10, _ => exact nmX10
  | 11, _ => exact nmX11
theorem tyOk : ∀ c, c < 12 → ∀ k, k < fN c → parseFieldDescriptor (fTb c k).2.2.1 = some (fTy c k) := by
  intro c hc
  match c, hc with
  | 0, _ => exact tyX0_ok
  | 1, _ => exact tyX1_ok
  | 2, _ => exact tyX2_ok
  | 3, _ => exact tyX3_ok
  | 4, _ => exact tyX4_ok
  | 5, _ => exact tyX5_ok
  | 6, _ => exact tyX6_ok
  | 7, _ => exact tyX7_ok
  | 8, _ => exact tyX8_ok
  | 9, _ => exact tyX9_ok
  | 10, _ => exact tyX10_ok
  | 11, _ => exact tyX11_ok
theorem defOk : ∀ c, c < 12 → ∀ j, j < fN c → defaultValue (fTy c j) = vp_V (fDef c) j := by
  intro c hc j hj
  match c, hc, hj with
  | 0, _, hj => exact (by decide +kernel : ∀ j, j < 3 → defaultValue (tyX0 j) = vp_V (fDef 0) j) j hj
  | 1, _, hj => exact (by decide +kernel : ∀ j, j < 7 → defaultValue (tyX1 j) = vp_V (fDef 1) j) j hj
  | 2, _, hj => exact (by decide +kernel : ∀ j, j < 2 → defaultValue (tyX2 j) = vp_V (fDef 2) j) j hj
  | 3, _, hj => exact (by decide +kernel : ∀ j, j < 2 → defaultValue (tyX3 j) = vp_V (fDef 3) j) j hj
  | 4, _, hj => exact (by decide +kernel : ∀ j, j < 11 → defaultValue (tyX4 j) = vp_V (fDef 4) j) j hj
  | 5, _, hj => exact (by decide +kernel : ∀ j, j < 3 → defaultValue (tyX5 j) = vp_V (fDef 5) j) j hj
  | 6, _, hj => exact (by decide +kernel : ∀ j, j < 2 → defaultValue (tyX6 j) = vp_V (fDef 6) j) j hj
  | 7, _, hj => exact (by decide +kernel : ∀ j, j < 7 → defaultValue (tyX7 j) = vp_V (fDef 7) j) j hj
  | 8, _, hj => exact (by decide +kernel : ∀ j, j < 6 → defaultValue (tyX8 j) = vp_V (fDef 8) j) j hj
  | 9, _, hj => exact (by decide +kernel : ∀ j, j < 7 → defaultValue (tyX9 j) = vp_V (fDef 9) j) j hj
  | 10, _, hj => exact (by decide +kernel : ∀ j, j < 12 → defaultValue (tyX10 j) = vp_V (fDef 10) j) j hj
  | 11, _, hj => exact (by decide +kernel : ∀ j, j < 51 → defaultValue (tyX11 j) = vp_V (fDef 11) j) j hj
theorem fDef_len : ∀ c, c < 12 → (fDef c).length = fN c := by decide
theorem tAr_int : Cond.arrayClass .int ∈ TT := inTT 147 (by decide +kernel) rfl
theorem tAr_byte : Cond.arrayClass .byte ∈ TT := inTT 187 (by decide +kernel) rfl
theorem tAr_short : Cond.arrayClass .short ∈ TT := inTT 406 (by decide +kernel) rfl
theorem tAr_long : Cond.arrayClass .long ∈ TT := inTT 243 (by decide +kernel) rfl
theorem tAr_boolean : Cond.arrayClass .boolean ∈ TT := inTT 1204 (by decide +kernel) rfl
theorem tOv_5 : Cond.arrayOver (.object "GuardedStreets$Street") ∈ lw_tbl := List.mem_of_getElem? (i := 115) (by decide +kernel)
theorem tOv_6 : Cond.arrayOver (.object "GuardedStreets$Town") ∈ lw_tbl := List.mem_of_getElem? (i := 148) (by decide +kernel)
theorem tOv_7 : Cond.arrayOver (.object "GuardedStreets$Law") ∈ lw_tbl := List.mem_of_getElem? (i := 223) (by decide +kernel)
theorem tCa : Cond.castable "[I" "java/lang/Cloneable" ∈ lw_tbl := List.mem_of_getElem? (i := 671) (by decide +kernel)
theorem tSm : Cond.sameMethod "[I" "java/lang/Object" "clone" "()Ljava/lang/Object;" ∈ TT := inTT 667 (by decide +kernel) rfl
theorem tCn_n : Cond.native ⟨"java/lang/Object", "clone", "()Ljava/lang/Object;"⟩ ∈ TT := inTT 668 (by decide +kernel) rfl
theorem tCn_i : Cond.instanceMethod ⟨"java/lang/Object", "clone", "()Ljava/lang/Object;"⟩ ∈ TT := inTT 669 (by decide +kernel) rfl
theorem tCn_s : Cond.selects "[I" ⟨"[I", "clone", "()Ljava/lang/Object;"⟩ ⟨"java/lang/Object", "clone", "()Ljava/lang/Object;"⟩ ∈ TT := inTT 670 (by decide +kernel) rfl
theorem tCn_l : Cond.classLink RJ7 317 "[I" ∈ TT := inTT 672 (by decide +kernel) rfl
theorem tAc_n : Cond.native arraycopyName ∈ TT := inTT 678 (by decide +kernel) rfl
theorem tAc_s : Cond.static arraycopyName ∈ TT := inTT 677 (by decide +kernel) rfl
theorem tAc_i : Cond.initialized "java/lang/System" ∈ TT := inTT 97 (by decide +kernel) rfl
theorem tSM_mSlen_ok : MOk mSlen 0 := ⟨inTT 548 (by decide +kernel) rfl, inTT 92 (by decide +kernel) rfl, by decide +kernel, by decide, by decide +kernel, rfl⟩
theorem tSM_mSlen_v : Cond.instanceMethod mSlen.2.1 ∈ TT ∧ Cond.selects mSlen.2.1.cls mSlen.2.1 mSlen.2.1 ∈ TT := ⟨inTT 546 (by decide +kernel) rfl, inTT 547 (by decide +kernel) rfl⟩
theorem tSM_mScod_ok : MOk mScod 0 := ⟨inTT 552 (by decide +kernel) rfl, inTT 92 (by decide +kernel) rfl, by decide +kernel, by decide, by decide +kernel, rfl⟩
theorem tSM_mScod_v : Cond.instanceMethod mScod.2.1 ∈ TT ∧ Cond.selects mScod.2.1.cls mScod.2.1 mScod.2.1 ∈ TT := ⟨inTT 550 (by decide +kernel) rfl, inTT 551 (by decide +kernel) rfl⟩
theorem tSM_mSchr_ok : MOk mSchr 1 := ⟨inTT 558 (by decide +kernel) rfl, inTT 92 (by decide +kernel) rfl, by decide +kernel, by decide, by decide +kernel, rfl⟩
theorem tSM_mSchr_v : Cond.instanceMethod mSchr.2.1 ∈ TT ∧ Cond.selects mSchr.2.1.cls mSchr.2.1 mSchr.2.1 ∈ TT := ⟨inTT 556 (by decide +kernel) rfl, inTT 557 (by decide +kernel) rfl⟩
theorem tSM_mSlat_ok : MOk mSlat 0 := ⟨inTT 562 (by decide +kernel) rfl, inTT 92 (by decide +kernel) rfl, by decide +kernel, by decide, by decide +kernel, rfl⟩
theorem tSM_mSlat_v : Cond.instanceMethod mSlat.2.1 ∈ TT ∧ Cond.selects mSlat.2.1.cls mSlat.2.1 mSlat.2.1 ∈ TT := ⟨inTT 560 (by decide +kernel) rfl, inTT 561 (by decide +kernel) rfl⟩
theorem tSM_mSlch_ok : MOk mSlch 2 := ⟨inTT 565 (by decide +kernel) rfl, inTT 93 (by decide +kernel) rfl, by decide +kernel, by decide, by decide +kernel, rfl⟩
theorem tSM_mSlch_s : MS mSlch := inTT 564 (by decide +kernel) rfl
theorem tSM_mSchk_ok : MOk mSchk 2 := ⟨inTT 568 (by decide +kernel) rfl, inTT 92 (by decide +kernel) rfl, by decide +kernel, by decide, by decide +kernel, rfl⟩
theorem tSM_mSchk_s : MS mSchk := inTT 567 (by decide +kernel) rfl
theorem tSM_mSpre_ok : MOk mSpre 3 := ⟨inTT 573 (by decide +kernel) rfl, inTT 94 (by decide +kernel) rfl, by decide +kernel, by decide, by decide +kernel, rfl⟩
theorem tSM_mSpre_s : MS mSpre := inTT 572 (by decide +kernel) rfl
theorem tSM_l_String_335 : Cond.methodLink RJ0 335 mScod.2.1 ∈ TT := inTT 549 (by decide +kernel) rfl
theorem tSM_l_String_492 : Cond.methodLink RJ0 492 mSlat.2.1 ∈ TT := inTT 559 (by decide +kernel) rfl
theorem tSM_l_String_495 : Cond.methodLink RJ0 495 mSlch.2.1 ∈ TT := inTT 563 (by decide +kernel) rfl
theorem tSM_l_StringLatin1_9 : Cond.methodLink RJ1 9 mSchk.2.1 ∈ TT := inTT 566 (by decide +kernel) rfl
theorem tSM_l_String_1059 : Cond.methodLink RJ0 1059 mSpre.2.1 ∈ TT := inTT 571 (by decide +kernel) rfl
theorem tSM_f_38 : Cond.fieldLink RJ0 38 "java/lang/String" "COMPACT_STRINGS" "Z" ∈ TT := inTT 553 (by decide +kernel) rfl
theorem tSM_f_1053 : Cond.fieldLink RJ0 1053 "jdk/internal/util/Preconditions" "SIOOBE_FORMATTER" "Ljava/util/function/BiFunction;" ∈ TT := inTT 569 (by decide +kernel) rfl
theorem tSM_f_9 : Cond.fieldLink RJ0 9 "java/lang/String" "value" "[B" ∈ TT := inTT 1594 (by decide +kernel) rfl
theorem tSM_f_15 : Cond.fieldLink RJ0 15 "java/lang/String" "coder" "B" ∈ TT := inTT 1595 (by decide +kernel) rfl
