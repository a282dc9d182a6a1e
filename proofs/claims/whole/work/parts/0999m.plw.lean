/-! the pair law -/
theorem OK_sP0 {σ : Sg} (hO : OK σ) : OK (σ.sP 0 σ.tb) := ⟨hO.t, hO.im, Nat.zero_le _, hO.ln, hO.lw, hO.tb⟩
theorem OK_sL {σ : Sg} (hO : OK σ) (h8 : σ.ln < 8) (f0 : (zR σ).1.f = 0) {l : Lw} (hl : LwR l (zR σ).1.L (zR σ).2.2 (zR σ).2.1) : OK (σ.sL l) := by
  have hb := bT_OK (tb := σ.tb) hO.tp
  have k := zW_g (tokOK hb) 401 0 0 0 [] [] (by omega) ⟨rfl, fun q hq => absurd hq (Nat.not_lt_zero _)⟩ ⟨0, by omega, by simp⟩ (by omega) f0
  obtain ⟨k1, k2, k3, k4⟩ := k
  have k5 := LnOK_280 k2 k4
  refine ⟨hO.t, hO.im, Nat.zero_le _, by show σ.ln + 1 ≤ 8; omega, fun r hr => ?_, hO.tb⟩
  have hr2 : r < σ.ln + 1 := hr
  by_cases z : r = σ.ln
  · have el : (σ.sL l).lw r = l := if_pos z
    rw [el]
    exact LwR_OK hl k1 (by show (zR σ).1.L.length ≤ 300; exact Nat.le_trans k5 (by decide)) k3
  · have el : (σ.sL l).lw r = σ.lw r := if_neg z
    rw [el]
    exact hO.lw r (by omega)
theorem Iv_mo {σ τ : Sg} {al : Al} {G : aG} {h : aH} (hI : Iv σ τ al G h) : ∃ fs, oF h (G.1 + 40) 11 = some fs := by
  obtain ⟨s, hs⟩ := hI.m.o
  exact ⟨_, hs⟩
theorem P_law {G : aG} {d : Nat} : PRi G (Inv G) (d + 50) mX10_law mX11_law [] := by
  intro h hI Qx hq
  obtain ⟨σ, al, hO, hI⟩ := hI
  show Rn G (d + 50) mX10_law 0 [some (.ref G.1), none] [] h Qx
  refine X_law hI hO (fun n8 => ?_) (fun h8 f0 h' I' => ?_) (fun h8 f0 al' h' l hl I' => ?_)
  · refine hq _ h hI.nn (Iv_mo hI) (fun Qm hm => ?_)
    show Rn G (d + 50) mX11_law 0 [some (.ref (G.1 + 40)), none, none] [] h Qm
    exact M_law (d := d + 35) hI hO (fun _ => hm h ⟨σ, al, hO, hI⟩) (fun h8 => absurd h8 n8) (fun h8 => absurd h8 n8)
  · refine hq _ h' I'.nn (Iv_mo I') (fun Qm hm => ?_)
    show Rn G (d + 50) mX11_law 0 [some (.ref (G.1 + 40)), none, none] [] h' Qm
    exact M_law (d := d + 35) I' hO (fun n8 => absurd h8 n8) (fun _ _ h2 I2 => hm h2 ⟨_, al, OK_sP0 hO, I2⟩) (fun _ z => absurd z f0)
  · refine hq _ h' I'.nn (Iv_mo I') (fun Qm hm => ?_)
    show Rn G (d + 50) mX11_law 0 [some (.ref (G.1 + 40)), none, none] [] h' Qm
    exact M_law (d := d + 35) I' hO (fun n8 => absurd h8 n8) (fun _ z => absurd f0 z) (fun _ _ h2 I2 => hm h2 ⟨_, al', OK_sL hO h8 f0 hl, I2 l hl⟩)
