/-! the small machine as a least fixed point: what holds of every closed X -/
theorem ob_mono {α : Type} {o : Option α} {K K' : α → Prop} (h : ∀ x, o = some x → K x → K' x) (hw : ob o K) : ob o K' := by
  obtain ⟨x, hx, hk⟩ := ob_at hw
  rw [hx]
  exact h x hx hk
section MONO
variable {G : aG} {d : Nat} {Cal Cal' : aM → List Value → aH → aQ → Prop} {M : aM} {K K' : Nat → aL → List Value → aH → Prop} {Q Q' : aQ}
theorem jmp_mono (hK : ∀ pc ls st h, K pc ls st h → K' pc ls st h) {pc : Nat} {off : Int} {ls : aL} {st : List Value} {h : aH} (hw : jmp K pc off ls st h) : jmp K' pc off ls st h := ⟨hw.1, hK _ _ _ _ hw.2⟩
theorem braT_mono (hK : ∀ pc ls st h, K pc ls st h → K' pc ls st h) {c : Prop} [Decidable c] {pc : Nat} {off : Int} {ls : aL} {st : List Value} {h : aH} (hw : braT K c pc off ls st h) : braT K' c pc off ls st h := by
  refine ⟨hw.1, ?_⟩
  have h2 := hw.2
  split at h2
  · rename_i hc; rw [if_pos hc]; exact hK _ _ _ _ h2
  · rename_i hc; rw [if_neg hc]; exact hK _ _ _ _ h2
theorem braF_mono (hK : ∀ pc ls st h, K pc ls st h → K' pc ls st h) {c : Prop} [Decidable c] {pc : Nat} {off : Int} {ls : aL} {st : List Value} {h : aH} (hw : braF K c pc off ls st h) : braF K' c pc off ls st h := by
  refine ⟨hw.1, ?_⟩
  have h2 := hw.2
  split at h2
  · rename_i hc; rw [if_pos hc]; exact hK _ _ _ _ h2
  · rename_i hc; rw [if_neg hc]; exact hK _ _ _ _ h2
set_option maxHeartbeats 8000000 in
theorem stpA_mono (hK : ∀ pc ls st h, K pc ls st h → K' pc ls st h) {i : Instr} {n pc : Nat} {ls : aL} {st : List Value} {h : aH} (hH : stpH G d Cal M K Q i pc ls st h → stpH G d Cal' M K' Q' i pc ls st h) (hw : stpA G d Cal M K Q i n pc ls st h) : stpA G d Cal' M K' Q' i n pc ls st h := by
  unfold stpA at hw ⊢
  split at hw
  all_goals first
    | exact hK _ _ _ _ hw
    | exact hH hw
    | exact jmp_mono hK hw
    | exact ob_mono (fun x hx hk => hK _ _ _ _ hk) hw
    | (revert hw
       split
       all_goals first
         | exact fun hw => hK _ _ _ _ hw
         | exact fun hw => ⟨hw.1, hK _ _ _ _ hw.2⟩
         | exact fun hw => ⟨hw.1, hw.2.1, hK _ _ _ _ hw.2.2⟩
         | exact fun hw => braT_mono hK hw
         | exact fun hw => braF_mono hK hw
         | exact fun hw => jmp_mono hK hw
         | exact fun hw => ⟨hw.1, jmp_mono hK hw.2⟩
         | exact fun hw => ob_mono (fun x hx hk => hK _ _ _ _ hk) hw
         | exact fun hw => hw.elim
         | (intro hw
            split at hw
            · rename_i hc; rw [if_pos hc]; exact jmp_mono hK hw
            · rename_i hc; rw [if_neg hc]; exact ob_mono (fun x hx hk => jmp_mono hK hk) hw))
theorem cal_mono (hK : ∀ pc ls st h, K pc ls st h → K' pc ls st h) (hC : ∀ M' As h q q', (∀ r h, q r h → q' r h) → Cal M' As h q → Cal' M' As h q') {M' : aM} {np : Nat} {inst : Bool} {pc : Nat} {ls : aL} {st : List Value} {h : aH} (hw : cal Cal K M' np inst pc ls st h) : cal Cal' K' M' np inst pc ls st h := by
  unfold cal at hw ⊢
  exact ⟨hw.1, hw.2.1, hw.2.2.1, hC _ _ _ _ _ (fun r h hk => hK _ _ _ _ hk) hw.2.2.2⟩
set_option maxHeartbeats 8000000 in
theorem stpS_mono (hK : ∀ pc ls st h, K pc ls st h → K' pc ls st h) (hC : ∀ M' As h q q', (∀ r h, q r h → q' r h) → Cal M' As h q → Cal' M' As h q') {i : Instr} {pc : Nat} {ls : aL} {st : List Value} {h : aH} (hw : stpS G d Cal M K i pc ls st h) : stpS G d Cal' M K' i pc ls st h := by
  unfold stpS at hw ⊢
  split at hw
  · revert hw
    split
    · split
      · rintro ⟨i, h1, h2, h3, h4, h5⟩
        exact ⟨i, h1, h2, h3, h4, hK _ _ _ _ h5⟩
      · exact fun hw => hw
    · split
      · split
        · rintro ⟨i, k, h1, h2, h3, h4, h5, h6, h7⟩
          exact ⟨i, k, h1, h2, h3, h4, h5, h6, hK _ _ _ _ h7⟩
        · exact fun hw => hw
      · split
        · split
          · rintro ⟨h1, h2, h3⟩
            exact ⟨h1, h2, ob_mono (fun x hx hk => hK _ _ _ _ hk) h3⟩
          · exact fun hw => hw
        · exact fun hw => ob_mono (fun x hx hk => ⟨hk.1, cal_mono hK hC hk.2⟩) hw
  · revert hw
    split
    · split
      · rintro ⟨h1, h2, t, f, n0, g, n1, z1, z2, z3, z4, z5, z6, z7, z8, z9, z10, z11, z12⟩
        exact ⟨h1, h2, t, f, n0, g, n1, z1, z2, z3, z4, z5, z6, z7, z8, z9, z10, z11, hK _ _ _ _ z12⟩
      · exact fun hw => hw
    · exact fun hw => ob_mono (fun x hx hk => cal_mono hK hC hk) hw
  · revert hw
    split
    · split
      · rintro ⟨h1, h2, h3⟩
        exact ⟨h1, h2, hK _ _ _ _ h3⟩
      · exact fun hw => hw
    · exact fun hw => ob_mono (fun x hx hk => ⟨hk.1, cal_mono hK hC hk.2⟩) hw
  · exact hw
set_option maxHeartbeats 8000000 in
theorem stpH_mono (hK : ∀ pc ls st h, K pc ls st h → K' pc ls st h) (hQ : ∀ r h, Q r h → Q' r h) {i : Instr} {pc : Nat} {ls : aL} {st : List Value} {h : aH} (hS : stpS G d Cal M K i pc ls st h → stpS G d Cal' M K' i pc ls st h) (hw : stpH G d Cal M K Q i pc ls st h) : stpH G d Cal' M K' Q' i pc ls st h := by
  unfold stpH at hw ⊢
  split at hw
  all_goals first
    | exact hS hw
    | exact ob_mono (fun x hx hk => hK _ _ _ _ hk) hw
    | (revert hw
       split
       all_goals first
         | exact fun hw => hw.elim
         | exact fun hw => ob_mono (fun x hx hk => hK _ _ _ _ hk) hw
         | exact fun hw => ob_mono (fun x hx hk => ⟨hk.1, hK _ _ _ _ hk.2⟩) hw
         | exact fun hw => ob_mono (fun x hx hk => ⟨hk.1, hk.2.1, hK _ _ _ _ hk.2.2⟩) hw
         | exact fun hw => ob_mono (fun x hx hk => ⟨hk.1, hk.2.1, ob_mono (fun x hx hk => hK _ _ _ _ hk) hk.2.2⟩) hw
         | exact fun hw => ⟨hw.1, hw.2.1, ob_mono (fun x hx hk => hK _ _ _ _ hk) hw.2.2⟩
         | exact fun hw => ⟨hw.1, hQ _ _ hw.2⟩
         | (split
            · exact fun hw => ⟨hw.1, hK _ _ _ _ hw.2⟩
            · exact fun hw => ob_mono (fun x hx hk => ⟨hk.1, hK _ _ _ _ hk.2⟩) hw)
         | (split
            · exact fun hw => ⟨hw.1, hw.2.1, hK _ _ _ _ hw.2.2⟩
            · exact fun hw => ob_mono (fun x hx hk => ⟨hk.1, hk.2.1, hK _ _ _ _ hk.2.2⟩) hw)
         | (rintro ⟨h1, h2, hw⟩
            refine ⟨h1, h2, ?_⟩
            split at hw <;> first | exact hK _ _ _ _ hw | exact hw.elim))
    | (obtain ⟨x, hx, hw⟩ := ob_at hw
       rw [hx]
       revert hw
       split
       all_goals first
         | exact fun hw => hw.elim
         | exact fun hw => ⟨hw.1, hw.2.1, hK _ _ _ _ hw.2.2⟩
         | (show ob (oF h _ x.1) _ → ob (oF h _ x.1) _
            exact fun hw => ob_mono (fun x hx hk => ob_mono (fun x hx hk => hK _ _ _ _ hk) hk) hw)
         | (show ob (oF h _ x.1) _ → ob (oF h _ x.1) _
            exact fun hw => ob_mono (fun x hx hk => ⟨hk.1, hk.2.1, hk.2.2.1, hk.2.2.2.1, hk.2.2.2.2.1, hK _ _ _ _ hk.2.2.2.2.2⟩) hw))
theorem stp_mono (hK : ∀ pc ls st h, K pc ls st h → K' pc ls st h) (hC : ∀ M' As h q q', (∀ r h, q r h → q' r h) → Cal M' As h q → Cal' M' As h q') (hQ : ∀ r h, Q r h → Q' r h) {r : Except DecodeError (Instr × Nat)} {pc : Nat} {ls : aL} {st : List Value} {h : aH} (hw : stp G d Cal M K Q r pc ls st h) : stp G d Cal' M K' Q' r pc ls st h := by
  unfold stp at hw ⊢
  split at hw
  · exact ⟨hw.1, stpA_mono hK (fun hw => stpH_mono hK hQ (fun hw => stpS_mono hK hC hw) hw) hw.2⟩
  · exact hw
end MONO
abbrev aX : Type := Nat → aM → Nat → aL → List Value → aH → aQ → Prop
def FX (G : aG) (X : aX) : aX := fun d M pc ls st h Q => stp G d (fun M' As h' Q' => 0 < d ∧ X (d - 1) M' 0 (eL M'.2.2.2.1 As) [] h' Q') M (fun pc ls st h => X d M pc ls st h Q) Q (decode M.2.2.1 pc) pc ls st h
def MX (X : aX) : Prop := ∀ d M pc ls st h Q Q', (∀ r h, Q r h → Q' r h) → X d M pc ls st h Q → X d M pc ls st h Q'
/-- from here the code comes to a return that Q says -/
def Rn (G : aG) : aX := fun d M pc ls st h Q => ∀ X : aX, MX X → (∀ d M pc ls st h Q, FX G X d M pc ls st h Q → X d M pc ls st h Q) → X d M pc ls st h Q
theorem FX_mono {G : aG} {X Y : aX} (hX : MX X) (hXY : ∀ d M pc ls st h Q, X d M pc ls st h Q → Y d M pc ls st h Q) {d : Nat} {M : aM} {pc : Nat} {ls : aL} {st : List Value} {h : aH} {Q Q' : aQ} (hQ : ∀ r h, Q r h → Q' r h) (hw : FX G X d M pc ls st h Q) : FX G Y d M pc ls st h Q' :=
  stp_mono (fun pc ls st h hk => hXY _ _ _ _ _ _ _ (hX _ _ _ _ _ _ _ _ hQ hk)) (fun M' As h q q' hq hk => ⟨hk.1, hXY _ _ _ _ _ _ _ (hX _ _ _ _ _ _ _ _ hq hk.2)⟩) hQ hw
theorem Rn_mx {G : aG} : MX (Rn G) := fun d M pc ls st h Q Q' hQ hw X hX hF => hX _ _ _ _ _ _ _ _ hQ (hw X hX hF)
theorem Rn_in {G : aG} {d : Nat} {M : aM} {pc : Nat} {ls : aL} {st : List Value} {h : aH} {Q : aQ} (hw : FX G (Rn G) d M pc ls st h Q) : Rn G d M pc ls st h Q := fun X hX hF => hF _ _ _ _ _ _ _ (FX_mono Rn_mx (fun d M pc ls st h Q hk => hk X hX hF) (fun _ _ hq => hq) hw)
theorem FXR_mx {G : aG} : MX (FX G (Rn G)) := by
  intro d M pc ls st h Q Q' hQ hk
  exact FX_mono (X := Rn G) (Y := Rn G) Rn_mx (fun _ _ _ _ _ _ _ hk => hk) hQ hk
theorem FXR_cl {G : aG} : ∀ d M pc ls st h Q, FX G (FX G (Rn G)) d M pc ls st h Q → FX G (Rn G) d M pc ls st h Q := by
  intro d M pc ls st h Q hk
  exact FX_mono (X := FX G (Rn G)) (Y := Rn G) FXR_mx (fun d M pc ls st h Q hk => Rn_in hk) (fun _ _ hq => hq) hk
theorem Rn_out {G : aG} {d : Nat} {M : aM} {pc : Nat} {ls : aL} {st : List Value} {h : aH} {Q : aQ} (hw : Rn G d M pc ls st h Q) : FX G (Rn G) d M pc ls st h Q := hw (FX G (Rn G)) FXR_mx FXR_cl
theorem Rn_eq {G : aG} {d : Nat} {M : aM} {pc : Nat} {ls : aL} {st : List Value} {h : aH} {Q : aQ} : Rn G d M pc ls st h Q = FX G (Rn G) d M pc ls st h Q := propext ⟨Rn_out, Rn_in⟩
theorem SA_mx {G : aG} : MX (fun d M pc ls st h Q => SA G d M Q pc ls st h) := fun d M pc ls st h Q Q' hQ hw => by
  obtain ⟨r1, h1, hq, hw⟩ := hw
  exact ⟨r1, h1, hQ _ _ hq, hw⟩
theorem Rn_sound {G : aG} (T : Tabs) {d : Nat} {M : aM} {pc : Nat} {ls : aL} {st : List Value} {h : aH} {Q : aQ} (hw : Rn G d M pc ls st h Q) : SA G d M Q pc ls st h := by
  refine hw (fun d M pc ls st h Q => SA G d M Q pc ls st h) SA_mx ?_
  obtain ⟨t1, t2, t3, t4, t5, t6, t7, t8, t9, t10, t11, t12, t13, t14⟩ := T
  intro d M pc ls st h Q hw
  unfold FX stp at hw
  split at hw
  · rename_i i n hd
    obtain ⟨hn, hw⟩ := hw
    refine snd_A t1 t2 t3 (fun _ _ _ _ hk => hk) hd hn (fun hw => snd_H t4 t5 t6 (fun _ _ _ _ hk => hk) hd hn (fun hw => snd_S t7 t8 t9 t10 t11 t12 t13 t14 co_len co_chr ?_ (fun _ _ _ _ hk => hk) hd hn hw) hw) hw
    intro M' As h' Q' hcal hM hlen
    obtain ⟨hd1, r, h2, hq, hww⟩ := hcal
    obtain ⟨n', hM⟩ := hM
    exact ⟨hd1, r, h2, hq, co_of hM hlen hww⟩
  · exact hw.elim
