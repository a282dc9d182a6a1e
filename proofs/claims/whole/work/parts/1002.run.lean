/-! the first heap: the standing; the law's run -/
def c70 (A : Nat) (f1 f2 : Nat → Int32) : List aE := [.inr (10, [.ref (A + 1), .ref (A + 4), .ref (A + 5), .int 0, .ref (A + 6), .ref (A + 13), .int 0, .ref (A + 14), .ref (A + 15), .ref (A + 17), .ref (A + 27), .ref (A + 37)]), .inr (9, [.int 0, .int (-1), .int 0, .int 0, .int 0, .ref (A + 2), .ref (A + 3)]), .inl (5, 24, .inr (.inr (.inr (.inr (fun _ => none))))), .inl (0, 4, .inl (fun _ => 0)), .inl (6, 4, .inr (.inr (.inr (.inr (fun _ => none))))), .inl (1, 400, .inl (fun _ => 0)), .inr (4, [.ref (A + 7), .int 0, .int 0, .int 0, .int 0, .int 0, .int 0, .ref (A + 11), .int 0, .ref (A + 12), .int 0]), .inr (7, [.ref (A + 8), .ref (A + 9), .ref (A + 10), .int 0, .null, .int 0, .int 0]), .inl (0, 401, .inl (fun _ => 0)), .inl (0, 401, .inl (fun _ => 0)), .inl (0, 401, .inl (fun _ => 0)), .inl (0, 400, .inl (fun _ => 0)), .inl (0, 48, .inl (fun _ => 0)), .inl (7, 8, .inr (.inr (.inr (.inr (fun _ => none))))), .inl (3, 8, .inr (.inl (fun _ => 0))), .inr (5, [.long 0, .int 0, .ref (A + 16)]), .inr (2, [.long 0, .long 1]), .inr (1, [.ref (A + 18), .ref (A + 21), .ref (A + 22), .ref (A + 23), .ref (A + 24), .ref (A + 25), .ref (A + 26)]), .inr (6, [.ref (A + 19), .ref (A + 20)]), .inl (3, 8, .inr (.inl (fun _ => 0))), .inl (3, 60, .inr (.inl (fun _ => 0))), .inl (0, 48, .inl (fun _ => 0)), .inl (0, 48, .inl (fun _ => 0)), .inl (0, 48, .inl (fun _ => 0)), .inl (0, 48, .inl (fun _ => 0)), .inl (0, 24, .inl (fun _ => 0)), .inl (0, 24, .inl (fun _ => 0)), .inr (1, [.ref (A + 28), .ref (A + 31), .ref (A + 32), .ref (A + 33), .ref (A + 34), .ref (A + 35), .ref (A + 36)]), .inr (6, [.ref (A + 29), .ref (A + 30)]), .inl (3, 8, .inr (.inl (fun _ => 0))), .inl (3, 60, .inr (.inl (fun _ => 0))), .inl (0, 48, .inl (fun _ => 0)), .inl (0, 48, .inl (fun _ => 0)), .inl (0, 48, .inl (fun _ => 0)), .inl (0, 48, .inl (fun _ => 0)), .inl (0, 24, .inl (fun _ => 0)), .inl (0, 24, .inl (fun _ => 0)), .inr (0, [.long 0, .ref (A + 38), .ref (A + 39)]), .inl (0, 576, .inl (fun _ => 0)), .inl (3, 8, .inr (.inl (fun _ => 0))), .inr (11, [.int 0, .int 0, .int 0, .int 0, .int 0, .int 0, .int (-1), .ref (A + 41), .ref (A + 42), .ref (A + 43), .ref (A + 44), .ref (A + 45), .ref (A + 46), .int 0, .int 0, .int 0, .int 0, .int 0, .int 0, .int 0, .int 0, .ref (A + 47), .ref (A + 48), .ref (A + 49), .ref (A + 50), .ref (A + 51), .ref (A + 52), .ref (A + 53), .ref (A + 54), .ref (A + 55), .ref (A + 56), .ref (A + 57), .ref (A + 58), .ref (A + 59), .ref (A + 60), .ref (A + 61), .ref (A + 62), .ref (A + 63), .int 0, .int 0, .long 0, .long 0, .ref (A + 64), .long 0, .ref (A + 65), .ref (A + 66), .ref (A + 67), .ref (A + 68), .ref (A + 69), .int 0, .int 0]), .inl (0, 24, .inl (fun _ => 0)), .inl (0, 24, .inl (fun _ => 0)), .inl (0, 24, .inl (fun _ => 0)), .inl (0, 24, .inl (fun _ => 0)), .inl (0, 24960, .inl f1), .inl (0, 6240, .inl f2), .inl (1, 400, .inl (fun _ => 0)), .inl (0, 2400, .inl (fun _ => 0)), .inl (0, 2400, .inl (fun _ => 0)), .inl (0, 8, .inl (fun _ => 0)), .inl (0, 96, .inl (fun _ => 0)), .inl (0, 96, .inl (fun _ => 0)), .inl (0, 96, .inl (fun _ => 0)), .inl (0, 96, .inl (fun _ => 0)), .inl (0, 402, .inl (fun _ => 0)), .inl (3, 8, .inr (.inl (fun _ => 0))), .inl (3, 300, .inr (.inl (fun _ => 0))), .inl (0, 24, .inl (fun _ => 0)), .inl (0, 24, .inl (fun _ => 0)), .inl (0, 24, .inl (fun _ => 0)), .inl (0, 24, .inl (fun _ => 0)), .inl (0, 24, .inl (fun _ => 0)), .inl (0, 24, .inl (fun _ => 0)), .inl (3, 8, .inr (.inl (fun _ => 0))), .inl (3, 4, .inr (.inl (fun _ => 0))), .inl (0, 24, .inl (fun _ => 0)), .inl (0, 125600, .inl (fun _ => 0)), .inl (0, 6, .inl (fun _ => 0)), .inl (4, 4, .inl (fun _ => 0))]
def t00 (f1 f2 : Nat → Int32) : Tn := mkTn 0 (-1) 0 0 0 0 (fun _ => 0) (fun _ => 0) (fun _ => 0) (fun _ => 0) f1 f2
def s00 (f1 f2 : Nat → Int32) : Sg := mkSg (t00 f1 f2) (fun _ => none) 0 (fun _ => 0) 0 (fun _ => mkLw 0 (fun _ => 0) 0 (fun _ => 0))
def al00 : Al := mkAl (fun _ => 0) (fun _ => false) 0
theorem OK_00 {f1 f2 : Nat → Int32} (h1 : ∀ j, j < 24960 → f1 j = -1) (h2 : ∀ j, j < 6240 → f2 j = -1) : OK (s00 f1 f2) := by
  have z : ∀ {k : Nat} {P : Prop}, k < 0 → P := fun h => absurd h (Nat.not_lt_zero _)
  refine ⟨⟨Nat.zero_le _, ⟨0, by decide, rfl⟩, Or.inl rfl, fun k hk => z hk, fun k hk => z hk, fun k hk => z hk, fun k hk => z hk, fun a b ha _ => z ha, fun a ha => z ha, ⟨0, rfl, rfl⟩, fun j hj => Or.inl (h1 j hj), fun j hj _ => h1 j hj, fun j hj => Or.inl (h2 j hj), fun j hj _ => h2 j hj⟩, fun i _ t ht => (by cases ht), Nat.zero_le _, Nat.zero_le _, fun r hr => z hr, fun j => (by show (0 : Int32).toInt8.toInt32 = 0; decide)⟩
theorem cnB_le {f : Nat → Bool} : ∀ n, cnB f n ≤ n := by
  intro n
  induction n with
  | zero => exact Nat.le_refl _
  | succ n ih =>
    show cnB f n + _ ≤ n + 1
    split <;> omega
theorem rgS_0 : ∀ r, r < 4 → rgS 0 (fun _ => 0) (fun _ => 0) r = 0 := by decide +kernel
theorem Iv_00 {G : aG} (hlt : G.2.1.1 < G.1) {f1 f2 : Nat → Int32} : Iv (s00 f1 f2) (s00 f1 f2) al00 G (hP (fun _ => none) G.1 (c70 G.1 f1 f2) 166801) := by
  have at_ : ∀ j, (hP (fun _ => none) G.1 (c70 G.1 f1 f2) 166801).2.1 (G.1 + j) = (c70 G.1 f1 f2)[j]? := fun j => hP_at
  have z : ∀ {k : Nat} {P : Prop}, k < 0 → P := fun h => absurd h (Nat.not_lt_zero _)
  have h1 : (hP (fun _ => none) G.1 (c70 G.1 f1 f2) 166801).1 = G.1 + 70 := rfl
  have h3 : (hP (fun _ => none) G.1 (c70 G.1 f1 f2) 166801).2.2 = 166801 := rfl
  have hg : ∀ q, q < G.1 → (hP (fun _ => none) G.1 (c70 G.1 f1 f2) 166801).2.1 q = none := fun q hq => if_pos hq
  generalize hP (fun _ => none) G.1 (c70 G.1 f1 f2) 166801 = h at *
  refine ⟨⟨oF_of (at_ 0), aI_of (at_ 5), ⟨fun _ => none, aR_of (Or.inr (Or.inl rfl)) (at_ 4), fun i hi => rfl⟩, ⟨fun _ => none, aR_of (Or.inr (Or.inr rfl)) (at_ 13), fun r hr => z hr⟩, ?_, fun i _ t ht => (by cases ht), fun i hi _ => ⟨rfl, fun k hk => rfl⟩, fun o _ ho => (by cases ho), fun r hr => z hr, fun r _ _ => rfl⟩, ?_, ?_, ?_, ?_, ?_, hg _ hlt, hlt⟩
  · refine ⟨fun _ => none, ?_, fun k hk => rfl⟩
    rw [tA_0]
    exact ⟨⟨Nat.zero_le _, oF_of (at_ 1), aR_of (Or.inl rfl) (at_ 2), fun k hk => z hk⟩, ⟨fun _ => 0, aI_of (at_ 3), fun r hr => (rgS_0 r hr).symm⟩, fun k hk => z hk⟩
  · exact ⟨⟨mkMs 0 0 0 0 0 0 0 0 0 0 0 0 0 0, oF_of (at_ 40)⟩, aI_of (at_ 41), aI_of (at_ 42), aI_of (at_ 43), aI_of (at_ 44), aI_of (at_ 45), aI_of (at_ 46), aI_of (at_ 47), ⟨_, _, _, _, _, _, _, aI_of (at_ 48), aI_of (at_ 49), aI_of (at_ 50), aI_of (at_ 51), aI_of (at_ 52), aI_of (at_ 53), aI_of (at_ 54), fun r hr => z hr⟩, ⟨_, aI_of (at_ 67), fun i _ t ht => (by cases ht)⟩, ⟨_, aI_of (at_ 69), fun i _ => rfl⟩⟩
  · intro o ho
    have lt : o < 69 := by
      unfold scr at ho
      simp at ho
      omega
    match o, ho, lt with
    | 0, ho, _ => exact absurd ho (by decide)
    | 1, ho, _ => exact absurd ho (by decide)
    | 2, ho, _ => exact absurd ho (by decide)
    | 3, ho, _ => exact absurd ho (by decide)
    | 4, ho, _ => exact absurd ho (by decide)
    | 5, ho, _ => exact absurd ho (by decide)
    | 6, _, _ => exact ⟨_, at_ 6, Sk_O rfl rfl ⟨_, _, _, _, _, _, _, _, rfl⟩⟩
    | 7, _, _ => exact ⟨_, at_ 7, Sk_O rfl rfl ⟨_, _, _, _, Or.inl rfl, rfl⟩⟩
    | 8, _, _ => exact ⟨_, at_ 8, Sk_I (n := 401) rfl⟩
    | 9, _, _ => exact ⟨_, at_ 9, Sk_I (n := 401) rfl⟩
    | 10, _, _ => exact ⟨_, at_ 10, Sk_I (n := 401) rfl⟩
    | 11, _, _ => exact ⟨_, at_ 11, Sk_I (n := 400) rfl⟩
    | 12, _, _ => exact ⟨_, at_ 12, Sk_I (n := 48) rfl⟩
    | 13, ho, _ => exact absurd ho (by decide)
    | 14, _, _ => exact ⟨_, at_ 14, Sk_J (n := 8) rfl rfl⟩
    | 15, _, _ => exact ⟨_, at_ 15, Sk_O rfl rfl ⟨_, _, rfl⟩⟩
    | 16, _, _ => exact ⟨_, at_ 16, Sk_O rfl rfl ⟨_, _, rfl⟩⟩
    | 17, _, _ => exact ⟨_, at_ 17, Sk_O rfl rfl rfl⟩
    | 18, _, _ => exact ⟨_, at_ 18, Sk_O rfl rfl rfl⟩
    | 19, _, _ => exact ⟨_, at_ 19, Sk_J (n := 8) rfl rfl⟩
    | 20, _, _ => exact ⟨_, at_ 20, Sk_J (n := 60) rfl rfl⟩
    | 21, _, _ => exact ⟨_, at_ 21, Sk_I (n := 48) rfl⟩
    | 22, _, _ => exact ⟨_, at_ 22, Sk_I (n := 48) rfl⟩
    | 23, _, _ => exact ⟨_, at_ 23, Sk_I (n := 48) rfl⟩
    | 24, _, _ => exact ⟨_, at_ 24, Sk_I (n := 48) rfl⟩
    | 25, _, _ => exact ⟨_, at_ 25, Sk_I (n := 24) rfl⟩
    | 26, _, _ => exact ⟨_, at_ 26, Sk_I (n := 24) rfl⟩
    | 27, _, _ => exact ⟨_, at_ 27, Sk_O rfl rfl rfl⟩
    | 28, _, _ => exact ⟨_, at_ 28, Sk_O rfl rfl rfl⟩
    | 29, _, _ => exact ⟨_, at_ 29, Sk_J (n := 8) rfl rfl⟩
    | 30, _, _ => exact ⟨_, at_ 30, Sk_J (n := 60) rfl rfl⟩
    | 31, _, _ => exact ⟨_, at_ 31, Sk_I (n := 48) rfl⟩
    | 32, _, _ => exact ⟨_, at_ 32, Sk_I (n := 48) rfl⟩
    | 33, _, _ => exact ⟨_, at_ 33, Sk_I (n := 48) rfl⟩
    | 34, _, _ => exact ⟨_, at_ 34, Sk_I (n := 48) rfl⟩
    | 35, _, _ => exact ⟨_, at_ 35, Sk_I (n := 24) rfl⟩
    | 36, _, _ => exact ⟨_, at_ 36, Sk_I (n := 24) rfl⟩
    | 37, _, _ => exact ⟨_, at_ 37, Sk_O rfl rfl ⟨_, rfl⟩⟩
    | 38, _, _ => exact ⟨_, at_ 38, Sk_I (n := 576) rfl⟩
    | 39, _, _ => exact ⟨_, at_ 39, Sk_J (n := 8) rfl rfl⟩
    | 40, ho, _ => exact absurd ho (by decide)
    | 41, ho, _ => exact absurd ho (by decide)
    | 42, ho, _ => exact absurd ho (by decide)
    | 43, ho, _ => exact absurd ho (by decide)
    | 44, ho, _ => exact absurd ho (by decide)
    | 45, ho, _ => exact absurd ho (by decide)
    | 46, ho, _ => exact absurd ho (by decide)
    | 47, ho, _ => exact absurd ho (by decide)
    | 48, ho, _ => exact absurd ho (by decide)
    | 49, ho, _ => exact absurd ho (by decide)
    | 50, ho, _ => exact absurd ho (by decide)
    | 51, ho, _ => exact absurd ho (by decide)
    | 52, ho, _ => exact absurd ho (by decide)
    | 53, ho, _ => exact absurd ho (by decide)
    | 54, ho, _ => exact absurd ho (by decide)
    | 55, _, _ => exact ⟨_, at_ 55, Sk_I (n := 402) rfl⟩
    | 56, _, _ => exact ⟨_, at_ 56, Sk_J (n := 8) rfl rfl⟩
    | 57, _, _ => exact ⟨_, at_ 57, Sk_J (n := 300) rfl rfl⟩
    | 58, _, _ => exact ⟨_, at_ 58, Sk_I (n := 24) rfl⟩
    | 59, _, _ => exact ⟨_, at_ 59, Sk_I (n := 24) rfl⟩
    | 60, _, _ => exact ⟨_, at_ 60, Sk_I (n := 24) rfl⟩
    | 61, _, _ => exact ⟨_, at_ 61, Sk_I (n := 24) rfl⟩
    | 62, _, _ => exact ⟨_, at_ 62, Sk_I (n := 24) rfl⟩
    | 63, _, _ => exact ⟨_, at_ 63, Sk_I (n := 24) rfl⟩
    | 64, _, _ => exact ⟨_, at_ 64, Sk_J (n := 8) rfl rfl⟩
    | 65, _, _ => exact ⟨_, at_ 65, Sk_J (n := 4) rfl rfl⟩
    | 66, _, _ => exact ⟨_, at_ 66, Sk_I (n := 24) rfl⟩
    | 67, ho, _ => exact absurd ho (by decide)
    | 68, _, _ => exact ⟨_, at_ 68, Sk_I (n := 6) rfl⟩
    | o + 69, _, lt => exact absurd lt (by omega)
  · rw [h1]; rfl
  · rw [h3]; decide
  · exact ⟨fun o o' ho => (by cases ho), fun o ho => (by cases ho), by decide +kernel⟩
theorem Inv_00 {G : aG} (hlt : G.2.1.1 < G.1) {f1 f2 : Nat → Int32} (h1 : ∀ j, j < 24960 → f1 j = -1) (h2 : ∀ j, j < 6240 → f2 j = -1) : Inv G (hP (fun _ => none) G.1 (c70 G.1 f1 f2) 166801) := ⟨_, _, OK_00 h1 h2, Iv_00 hlt⟩
theorem pairs {G : aG} : Pairs G (Inv G) 999 := fun i => ⟨P_clock (d := 995), P_street (d := 991), P_beside (d := 991), P_ring (d := 995), P_start (d := 995), P_book (d := 995), P_film (d := 995), P_feed (d := 995), P_end (d := 995), P_law (d := 949), P_by (d := 991), P_share (d := 991), P_differ (d := 991), P_alike (d := 991), P_off (d := 991), P_thin (d := 991), P_cars (d := 991), P_edge (d := 991), P_cost (d := 991), P_where (d := 991), P_like (d := 991), P_deeds (d := 991), P_miss (d := 991), P_best (d := 991), P_run (d := 991), P_towns (d := 991), P_plan (d := 991), P_image (d := 991), P_back (d := 991), P_count (d := 995)⟩
theorem i1_X11 {G : aG} {d : Nat} {Q : aQ} {g : Nat → Option aE} {A n : Nat} {cs : List aE} (hB : G.1 ≤ A) (hq : ∀ f1 f2 : Nat → Int32, (∀ j, j < 24960 → f1 j = -1) → (∀ j, j < 6240 → f2 j = -1) → Q none (hP g A (cs ++ [.inr (11, [.int 0, .int 0, .int 0, .int 0, .int 0, .int 0, .int (-1), .ref (A + cs.length + 1), .ref (A + cs.length + 2), .ref (A + cs.length + 3), .ref (A + cs.length + 4), .ref (A + cs.length + 5), .ref (A + cs.length + 6), .int 0, .int 0, .int 0, .int 0, .int 0, .int 0, .int 0, .int 0, .ref (A + cs.length + 7), .ref (A + cs.length + 8), .ref (A + cs.length + 9), .ref (A + cs.length + 10), .ref (A + cs.length + 11), .ref (A + cs.length + 12), .ref (A + cs.length + 13), .ref (A + cs.length + 14), .ref (A + cs.length + 15), .ref (A + cs.length + 16), .ref (A + cs.length + 17), .ref (A + cs.length + 18), .ref (A + cs.length + 19), .ref (A + cs.length + 20), .ref (A + cs.length + 21), .ref (A + cs.length + 22), .ref (A + cs.length + 23), .int 0, .int 0, .long 0, .long 0, .ref (A + cs.length + 24), .long 0, .ref (A + cs.length + 25), .ref (A + cs.length + 26), .ref (A + cs.length + 27), .ref (A + cs.length + 28), .ref (A + cs.length + 29), .int 0, .int 0]), .inl (0, 24, .inl (fun _ => 0)), .inl (0, 24, .inl (fun _ => 0)), .inl (0, 24, .inl (fun _ => 0)), .inl (0, 24, .inl (fun _ => 0)), .inl (0, 24960, .inl f1), .inl (0, 6240, .inl f2), .inl (1, 400, .inl (fun _ => 0)), .inl (0, 2400, .inl (fun _ => 0)), .inl (0, 2400, .inl (fun _ => 0)), .inl (0, 8, .inl (fun _ => 0)), .inl (0, 96, .inl (fun _ => 0)), .inl (0, 96, .inl (fun _ => 0)), .inl (0, 96, .inl (fun _ => 0)), .inl (0, 96, .inl (fun _ => 0)), .inl (0, 402, .inl (fun _ => 0)), .inl (3, 8, .inr (.inl (fun _ => 0))), .inl (3, 300, .inr (.inl (fun _ => 0))), .inl (0, 24, .inl (fun _ => 0)), .inl (0, 24, .inl (fun _ => 0)), .inl (0, 24, .inl (fun _ => 0)), .inl (0, 24, .inl (fun _ => 0)), .inl (0, 24, .inl (fun _ => 0)), .inl (0, 24, .inl (fun _ => 0)), .inl (3, 8, .inr (.inl (fun _ => 0))), .inl (3, 4, .inr (.inl (fun _ => 0))), .inl (0, 24, .inl (fun _ => 0)), .inl (0, 125600, .inl (fun _ => 0)), .inl (0, 6, .inl (fun _ => 0)), .inl (4, 4, .inl (fun _ => 0))]) (n + 163388))) : Rn G (d + 1) mX11_init 0 [some (.ref (A + cs.length)), none] [] (hP g A (cs ++ [.inr (11, [.int 0, .int 0, .int 0, .int 0, .int 0, .int 0, .int 0, .null, .null, .null, .null, .null, .null, .int 0, .int 0, .int 0, .int 0, .int 0, .int 0, .int 0, .int 0, .null, .null, .null, .null, .null, .null, .null, .null, .null, .null, .null, .null, .null, .null, .null, .null, .null, .int 0, .int 0, .long 0, .long 0, .null, .long 0, .null, .null, .null, .null, .null, .int 0, .int 0])]) n) Q := by
  rw [hP_re]
  refine i0_X11 (by omega) (fun f1 f2 h1 h2 => ?_)
  have k := hq f1 f2 h1 h2
  rw [hP_re] at k
  exact k
section RUN
variable {G : aG}
theorem law_run (hlt : G.2.1.1 < G.1) (hL : G.2.1.2.1 < 2 ^ 30) : Rn G 1000 mL_law 0 [some (.ref G.2.1.1), none, none, none] [] (G.1, fun _ => none, 0) (fun r h => r = some (.int 1) ∧ h.1 - G.1 ≤ 600000 ∧ h.2.2 ≤ 7302250) := by
  rw [hP_0]
  simp only [q_L_law_0, q_L_law_3, q_L_law_4, ldI_s, ldJ_s, ldA_r, ldA_n, ob_s, List.getElem?_cons_zero, List.getElem?_cons_succ, List.length_cons, List.length_nil, gx_0, gx_1, gx_2, gx_3, gx_4, gx_5, gx_6, gx_7, gx_8, gx_9, gx_10, gx_11, Nat.reduceAdd, Nat.reduceLT, Nat.reduceLeDiff, Nat.reduceSub, Nat.lt_irrefl, true_and, and_true, Option.toList_some, Option.toList_none, List.cons_append, List.nil_append, csum_nil, csum_int, csum_long, csum_ref, csum_null, nar_int, nar_long, nar_ref, nar_null, nar_refA, nar_nullA, fit_int, fit_long, fit_ref, fit_refA, fit_null, fit_nullA, stL_0, stL_1i, stL_1r, stL_1n, stL_1u, stL_2i, stL_2r, stL_2n, stL_2u, stL_3i, stL_3r, stL_3n, stL_3u, stL_4i, stL_4r, stL_4n, stL_4u, stL_5i, stL_5r, stL_5n, stL_5u, stL_6i, stL_6r, stL_6n, stL_6u, stL_7i, stL_7r, stL_7n, stL_7u, stL_8i, stL_8r, stL_8n, stL_8u, stL_9i, stL_9r, stL_9n, stL_9u, stL_10i, stL_10r, stL_10n, stL_10u, stL_11i, stL_11r, stL_11n, stL_11u, stJ_0, stJ_1i, stJ_1r, stJ_1n, stJ_1u, stJ_2i, stJ_2r, stJ_2n, stJ_2u, stJ_3i, stJ_3r, stJ_3n, stJ_3u, stJ_4i, stJ_4r, stJ_4n, stJ_4u, stJ_5i, stJ_5r, stJ_5n, stJ_5u, stJ_6i, stJ_6r, stJ_6n, stJ_6u, stJ_7i, stJ_7r, stJ_7n, stJ_7u, stJ_8i, stJ_8r, stJ_8n, stJ_8u, stJ_9i, stJ_9r, stJ_9n, stJ_9u, stJ_10i, stJ_10r, stJ_10n, stJ_10u, ↓reduceIte, cat_int, cat_ref, cat_null, cat_long, va_rf_s, va_rf_n, nz_bI, nz_0, nz_1, bI_0, pd_1, pp_1, pq_1, pd_2, pp_2, pq_2, pd_3, pp_3, pq_3, pd_4, pp_4, pq_4, pd_5, pp_5, pq_5, pd_6, pp_6, pq_6, pd_7, pp_7, pq_7, pd_8, pp_8, pq_8, pd_9, pp_9, pq_9, pd_10, pp_10, pq_10, pd_11, pp_11, pq_11, pd_12, pp_12, pq_12, pd_13, pp_13, pq_13, pd_14, pp_14, pq_14, pd_15, pp_15, pq_15, pd_16, pp_16, pq_16, pd_17, pp_17, pq_17, pd_18, pp_18, pq_18, pd_19, pp_19, pq_19, pd_20, pp_20, pq_20, pd_21, pp_21, pq_21, pd_22, pp_22, pq_22, pd_23, pp_23, pq_23, pd_24, pp_24, pq_24, Nat.add_zero, Nat.zero_le, Nat.le_refl, eq_self, Option.some.injEq, exists_eq', hP_new, hP_1, List.nil_append, Nat.zero_add, Nat.add_zero]
  refine i0_X10 (d := 996) (Nat.le_refl _) ?_
  simp only [q_L_law_7r, q_L_law_7n, q_L_law_8, q_L_law_11, q_L_law_12, ldI_s, ldJ_s, ldA_r, ldA_n, ob_s, List.getElem?_cons_zero, List.getElem?_cons_succ, List.length_cons, List.length_nil, gx_0, gx_1, gx_2, gx_3, gx_4, gx_5, gx_6, gx_7, gx_8, gx_9, gx_10, gx_11, Nat.reduceAdd, Nat.reduceLT, Nat.reduceLeDiff, Nat.reduceSub, Nat.lt_irrefl, true_and, and_true, Option.toList_some, Option.toList_none, List.cons_append, List.nil_append, csum_nil, csum_int, csum_long, csum_ref, csum_null, nar_int, nar_long, nar_ref, nar_null, nar_refA, nar_nullA, fit_int, fit_long, fit_ref, fit_refA, fit_null, fit_nullA, stL_0, stL_1i, stL_1r, stL_1n, stL_1u, stL_2i, stL_2r, stL_2n, stL_2u, stL_3i, stL_3r, stL_3n, stL_3u, stL_4i, stL_4r, stL_4n, stL_4u, stL_5i, stL_5r, stL_5n, stL_5u, stL_6i, stL_6r, stL_6n, stL_6u, stL_7i, stL_7r, stL_7n, stL_7u, stL_8i, stL_8r, stL_8n, stL_8u, stL_9i, stL_9r, stL_9n, stL_9u, stL_10i, stL_10r, stL_10n, stL_10u, stL_11i, stL_11r, stL_11n, stL_11u, stJ_0, stJ_1i, stJ_1r, stJ_1n, stJ_1u, stJ_2i, stJ_2r, stJ_2n, stJ_2u, stJ_3i, stJ_3r, stJ_3n, stJ_3u, stJ_4i, stJ_4r, stJ_4n, stJ_4u, stJ_5i, stJ_5r, stJ_5n, stJ_5u, stJ_6i, stJ_6r, stJ_6n, stJ_6u, stJ_7i, stJ_7r, stJ_7n, stJ_7u, stJ_8i, stJ_8r, stJ_8n, stJ_8u, stJ_9i, stJ_9r, stJ_9n, stJ_9u, stJ_10i, stJ_10r, stJ_10n, stJ_10u, ↓reduceIte, cat_int, cat_ref, cat_null, cat_long, va_rf_s, va_rf_n, nz_bI, nz_0, nz_1, bI_0, pd_1, pp_1, pq_1, pd_2, pp_2, pq_2, pd_3, pp_3, pq_3, pd_4, pp_4, pq_4, pd_5, pp_5, pq_5, pd_6, pp_6, pq_6, pd_7, pp_7, pq_7, pd_8, pp_8, pq_8, pd_9, pp_9, pq_9, pd_10, pp_10, pq_10, pd_11, pp_11, pq_11, pd_12, pp_12, pq_12, pd_13, pp_13, pq_13, pd_14, pp_14, pq_14, pd_15, pp_15, pq_15, pd_16, pp_16, pq_16, pd_17, pp_17, pq_17, pd_18, pp_18, pq_18, pd_19, pp_19, pq_19, pd_20, pp_20, pq_20, pd_21, pp_21, pq_21, pd_22, pp_22, pq_22, pd_23, pp_23, pq_23, pd_24, pp_24, pq_24, Nat.add_zero, Nat.zero_le, Nat.le_refl, eq_self, Option.some.injEq, exists_eq', hP_new, hP_1, List.cons_append, List.nil_append]
  refine i1_X11 (d := 998) (cs := [_, _, _, _, _, _, _, _, _, _, _, _, _, _, _, _, _, _, _, _, _, _, _, _, _, _, _, _, _, _, _, _, _, _, _, _, _, _, _, _]) (Nat.le_refl _) (fun f1 f2 h1 h2 => ?_)
  simp only [q_L_law_15r, q_L_law_15n, q_L_law_16, q_L_law_17, ldI_s, ldJ_s, ldA_r, ldA_n, ob_s, List.getElem?_cons_zero, List.getElem?_cons_succ, List.length_cons, List.length_nil, gx_0, gx_1, gx_2, gx_3, gx_4, gx_5, gx_6, gx_7, gx_8, gx_9, gx_10, gx_11, Nat.reduceAdd, Nat.reduceLT, Nat.reduceLeDiff, Nat.reduceSub, Nat.lt_irrefl, true_and, and_true, Option.toList_some, Option.toList_none, List.cons_append, List.nil_append, csum_nil, csum_int, csum_long, csum_ref, csum_null, nar_int, nar_long, nar_ref, nar_null, nar_refA, nar_nullA, fit_int, fit_long, fit_ref, fit_refA, fit_null, fit_nullA, stL_0, stL_1i, stL_1r, stL_1n, stL_1u, stL_2i, stL_2r, stL_2n, stL_2u, stL_3i, stL_3r, stL_3n, stL_3u, stL_4i, stL_4r, stL_4n, stL_4u, stL_5i, stL_5r, stL_5n, stL_5u, stL_6i, stL_6r, stL_6n, stL_6u, stL_7i, stL_7r, stL_7n, stL_7u, stL_8i, stL_8r, stL_8n, stL_8u, stL_9i, stL_9r, stL_9n, stL_9u, stL_10i, stL_10r, stL_10n, stL_10u, stL_11i, stL_11r, stL_11n, stL_11u, stJ_0, stJ_1i, stJ_1r, stJ_1n, stJ_1u, stJ_2i, stJ_2r, stJ_2n, stJ_2u, stJ_3i, stJ_3r, stJ_3n, stJ_3u, stJ_4i, stJ_4r, stJ_4n, stJ_4u, stJ_5i, stJ_5r, stJ_5n, stJ_5u, stJ_6i, stJ_6r, stJ_6n, stJ_6u, stJ_7i, stJ_7r, stJ_7n, stJ_7u, stJ_8i, stJ_8r, stJ_8n, stJ_8u, stJ_9i, stJ_9r, stJ_9n, stJ_9u, stJ_10i, stJ_10r, stJ_10n, stJ_10u, ↓reduceIte, cat_int, cat_ref, cat_null, cat_long, va_rf_s, va_rf_n, nz_bI, nz_0, nz_1, bI_0, pd_1, pp_1, pq_1, pd_2, pp_2, pq_2, pd_3, pp_3, pq_3, pd_4, pp_4, pq_4, pd_5, pp_5, pq_5, pd_6, pp_6, pq_6, pd_7, pp_7, pq_7, pd_8, pp_8, pq_8, pd_9, pp_9, pq_9, pd_10, pp_10, pq_10, pd_11, pp_11, pq_11, pd_12, pp_12, pq_12, pd_13, pp_13, pq_13, pd_14, pp_14, pq_14, pd_15, pp_15, pq_15, pd_16, pp_16, pq_16, pd_17, pp_17, pq_17, pd_18, pp_18, pq_18, pd_19, pp_19, pq_19, pd_20, pp_20, pq_20, pd_21, pp_21, pq_21, pd_22, pp_22, pq_22, pd_23, pp_23, pq_23, pd_24, pp_24, pq_24, Nat.add_zero, Nat.zero_le, Nat.le_refl, eq_self, Option.some.injEq, exists_eq', List.cons_append, List.nil_append, Nat.add_assoc]
  refine l_law (d := 999) Inv_LI hL pairs (fun h hI => ?_) (G.2.1.2.1 + 1) 0 _ (by omega) (by omega) (Inv_00 hlt h1 h2)
  obtain ⟨σ, al, hO, hI⟩ := hI
  have z := hI.z
  have z2 := hI.z2
  have ng : al.ng ≤ 132 := by rw [hI.al.2.2]; exact cnB_le _
  exact ⟨rfl, by omega, by omega⟩
end RUN
