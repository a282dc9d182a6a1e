/-! the reading of a law, on signs: ts, tw, tq are a sign's sort, its worth and its place -/
def Rp : Type := Nat × Nat × Nat × (List Int32)
def Rp.f (t : Rp) : Nat := t.1
def Rp.i (t : Rp) : Nat := t.2.1
def Rp.g (t : Rp) : Nat := t.2.2.1
def Rp.L (t : Rp) : List Int32 := t.2.2.2
def mkRp (x0 : Nat) (x1 : Nat) (x2 : Nat) (x3 : List Int32) : Rp := (x0, x1, x2, x3)
theorem mkRp_f {x0 : Nat} {x1 : Nat} {x2 : Nat} {x3 : List Int32} : (mkRp x0 x1 x2 x3).f = x0 := rfl
theorem mkRp_i {x0 : Nat} {x1 : Nat} {x2 : Nat} {x3 : List Int32} : (mkRp x0 x1 x2 x3).i = x1 := rfl
theorem mkRp_g {x0 : Nat} {x1 : Nat} {x2 : Nat} {x3 : List Int32} : (mkRp x0 x1 x2 x3).g = x2 := rfl
theorem mkRp_L {x0 : Nat} {x1 : Nat} {x2 : Nat} {x3 : List Int32} : (mkRp x0 x1 x2 x3).L = x3 := rfl
def bd (r : Rp) (k : Nat → Nat → List Int32 → Rp) : Rp := if r.f = 0 then k r.i r.g r.L else r
theorem bd_0 {i g : Nat} {L : List Int32} {k : Nat → Nat → List Int32 → Rp} : bd (mkRp 0 i g L) k = k i g L := if_pos rfl
theorem bd_t {r : Rp} {k : Nat → Nat → List Int32 → Rp} (h : r.f = 0) : bd r k = k r.i r.g r.L := if_pos h
theorem bd_f {r : Rp} {k : Nat → Nat → List Int32 → Rp} (h : ¬ r.f = 0) : bd r k = r := if_neg h
section PAR
variable (ts : Nat → Nat) (tw : Nat → Int32) (tq : Nat → Nat)
def flt (i k : Nat) : Rp := mkRp (1 + 8 * tq i + k) i 0 []
def zV (i g : Nat) (L : List Int32) : Rp := if ts i = 3 then flt tq i 1 else if ts i = 2 ∨ ts i = 4 then (if 60 ≤ g then flt tq i 3 else mkRp 0 (i + 1) (g + 1) (L ++ [if ts i = 2 then tw i else -1 - tw i])) else flt tq i 0
/-- while the sort is x: on, another one, its step -/
def zLo (x : Nat) (F : Nat → Nat → List Int32 → Rp) (code : Nat → Int32) : Nat → Nat → Nat → List Int32 → Rp
  | 0, i, g, L => mkRp 0 i g L
  | k + 1, i, g, L => if ts i = x then bd (F (i + 1) g L) (fun i' g' L' => zLo x F code k i' g' (L' ++ [code i])) else mkRp 0 i g L
def zT (i g : Nat) (L : List Int32) : Rp := bd (zV ts tw tq i g L) (zLo ts 13 (zV ts tw tq) tw 401)
def zS (i g : Nat) (L : List Int32) : Rp := bd (zT ts tw tq i g L) (zLo ts 12 (zT ts tw tq) tw 401)
def zA (F : Nat → Nat → List Int32 → Rp) (i g : Nat) (L : List Int32) : Rp := bd (F i g L) (zLo ts 8 F (fun _ => -20) 401)
def zO (F : Nat → Nat → List Int32 → Rp) (i g : Nat) (L : List Int32) : Rp := bd (zA ts F i g L) (zLo ts 9 (zA ts F) (fun _ => -21) 401)
def zcm (i g : Nat) (L : List Int32) : Rp := bd (zS ts tw tq i g L) (fun i' g' L' => if ts i' = 14 then (if 60 ≤ g' then flt tq i' 3 else bd (zS ts tw tq (i' + 1) (g' + 1) L') (fun i2 g2 L2 => mkRp 0 i2 g2 (L2 ++ [tw i']))) else flt tq i' 0)
def zF : Nat → Nat → Nat → List Int32 → Rp
  | 0 => fun i g L => if ts i = 7 ∨ ts i = 10 then flt tq i 2 else zcm ts tw tq i g L
  | e + 1 => fun i g L => if ts i = 7 then bd (zF e (i + 1) g L) (fun i' g' L' => mkRp 0 i' g' (L' ++ [-22])) else if ts i = 10 then bd (zO ts (zF e) (i + 1) g L) (fun i' g' L' => if ts i' = 11 then mkRp 0 (i' + 1) g' L' else flt tq i' 0) else zcm ts tw tq i g L
/-- a clause; m tells how many stand before it -/
def zC (m i g : Nat) (L : List Int32) : Rp := if ts i = 5 then (if 12 ≤ m then flt tq i 4 else bd (zS ts tw tq (i + 1) g L) (fun i' g' L' => if ts i' = 6 then zO ts (zF ts tw tq 10) (i' + 1) g' L' else mkRp 0 i' g' L')) else flt tq i 0
def zCl (i g : Nat) (L : List Int32) (r : Rp) : List Int32 := [tw i, nI L.length, nI (zS ts tw tq (i + 1) g L).L.length, nI r.L.length]
def zW : Nat → Nat → Nat → Nat → List Int32 → List Int32 → Rp × Nat × List Int32
  | 0, m, i, g, L, cl => (flt tq i 0, m, cl)
  | k + 1, m, i, g, L, cl => if (zC ts tw tq m i g L).f = 0 then (if ts (zC ts tw tq m i g L).i = 15 then zW k (m + 1) ((zC ts tw tq m i g L).i + 1) (zC ts tw tq m i g L).g (zC ts tw tq m i g L).L (cl ++ zCl ts tw tq i g L (zC ts tw tq m i g L)) else if ts (zC ts tw tq m i g L).i = 0 then (zC ts tw tq m i g L, m + 1, cl ++ zCl ts tw tq i g L (zC ts tw tq m i g L)) else (flt tq (zC ts tw tq m i g L).i 0, m + 1, cl ++ zCl ts tw tq i g L (zC ts tw tq m i g L))) else (zC ts tw tq m i g L, m, cl)
end PAR
/-! what a parse that ends well gives: signs used up, weight, steps, their sorts -/
def tyL : List Int32 → List Bool → Option (List Bool)
  | [], s => some s
  | x :: r, s => match ty1 x s with
    | some s' => if s'.length ≤ 60 then tyL r s' else none
    | none => none
theorem tyL_app : ∀ (a b : List Int32) (s : List Bool), tyL (a ++ b) s = (match tyL a s with | some s' => tyL b s' | none => none) := by
  intro a
  induction a with
  | nil => intro b s; rfl
  | cons x a ih =>
    intro b s
    show tyL (x :: (a ++ b)) s = _
    rw [tyL, tyL]
    cases ty1 x s with
    | none => rfl
    | some s' =>
      show (if s'.length ≤ 60 then tyL (a ++ b) s' else none) = match (if s'.length ≤ 60 then tyL a s' else none) with | some s' => tyL b s' | none => none
      by_cases c : s'.length ≤ 60
      · rw [if_pos c, if_pos c]; exact ih b s'
      · rw [if_neg c, if_neg c]
/-- F adds steps M that leave a v more, within the weight -/
def Pg (N : Nat) (v : Bool) (r : Rp) (i g : Nat) (L : List Int32) : Prop := (i < r.i ∧ r.i ≤ N) ∧ (g < r.g ∧ r.g ≤ 60) ∧ (∃ M, r.L = L ++ M ∧ M.length + 1 ≤ 2 * (r.g - g) ∧ ∀ s, s.length + (r.g - g) ≤ 60 → tyL M s = some (v :: s))
theorem Pg.i {N : Nat} {v : Bool} {r : Rp} {i g : Nat} {L : List Int32} (H : Pg N v r i g L) : i < r.i ∧ r.i ≤ N := H.1
theorem Pg.g {N : Nat} {v : Bool} {r : Rp} {i g : Nat} {L : List Int32} (H : Pg N v r i g L) : g < r.g ∧ r.g ≤ 60 := H.2.1
theorem Pg.M {N : Nat} {v : Bool} {r : Rp} {i g : Nat} {L : List Int32} (H : Pg N v r i g L) : ∃ M, r.L = L ++ M ∧ M.length + 1 ≤ 2 * (r.g - g) ∧ ∀ s, s.length + (r.g - g) ≤ 60 → tyL M s = some (v :: s) := H.2.2
/-- the same of a fact, with the count of its comparisons -/
def Pk (N e : Nat) (r : Rp) (i g : Nat) (L : List Int32) : Prop := (i < r.i ∧ r.i ≤ N) ∧ (g < r.g ∧ r.g ≤ 60) ∧ (∃ M F, r.L = L ++ M ∧ 0 < F ∧ 3 * F ≤ r.g - g ∧ M.length + 1 + 2 * F ≤ 2 * (r.g - g) + e * F ∧ ∀ s, s.length + (r.g - g) ≤ 60 → tyL M s = some (true :: s))
theorem Pk.i {N e : Nat} {r : Rp} {i g : Nat} {L : List Int32} (H : Pk N e r i g L) : i < r.i ∧ r.i ≤ N := H.1
theorem Pk.g {N e : Nat} {r : Rp} {i g : Nat} {L : List Int32} (H : Pk N e r i g L) : g < r.g ∧ r.g ≤ 60 := H.2.1
theorem Pk.M {N e : Nat} {r : Rp} {i g : Nat} {L : List Int32} (H : Pk N e r i g L) : ∃ M F, r.L = L ++ M ∧ 0 < F ∧ 3 * F ≤ r.g - g ∧ M.length + 1 + 2 * F ≤ 2 * (r.g - g) + e * F ∧ ∀ s, s.length + (r.g - g) ≤ 60 → tyL M s = some (true :: s) := H.2.2
/-- what is told of the signs: none stands behind the last one, worths fit their sorts -/
def TkOK (ts : Nat → Nat) (tw : Nat → Int32) (N : Nat) : Prop := (∀ i, ¬ ts i = 0 → i < N) ∧ (∀ i, ts i = 2 → 0 ≤ (tw i).toInt ∧ (tw i).toInt ≤ 99999) ∧ (∀ i, ts i = 4 → 0 ≤ (tw i).toInt ∧ (tw i).toInt ≤ 7) ∧ (∀ i, ts i = 12 → tw i = -11 ∨ tw i = -12) ∧ (∀ i, ts i = 13 → tw i = -13 ∨ tw i = -14) ∧ (∀ i, ts i = 14 → tw i = -15 ∨ tw i = -16 ∨ tw i = -17 ∨ tw i = -18 ∨ tw i = -19) ∧ (∀ i, ts i = 5 → 0 ≤ (tw i).toInt ∧ (tw i).toInt ≤ 2)
theorem TkOK.e {ts : Nat → Nat} {tw : Nat → Int32} {N : Nat} (H : TkOK ts tw N) : ∀ i, ¬ ts i = 0 → i < N := H.1
theorem TkOK.n {ts : Nat → Nat} {tw : Nat → Int32} {N : Nat} (H : TkOK ts tw N) : ∀ i, ts i = 2 → 0 ≤ (tw i).toInt ∧ (tw i).toInt ≤ 99999 := H.2.1
theorem TkOK.w {ts : Nat → Nat} {tw : Nat → Int32} {N : Nat} (H : TkOK ts tw N) : ∀ i, ts i = 4 → 0 ≤ (tw i).toInt ∧ (tw i).toInt ≤ 7 := H.2.2.1
theorem TkOK.a {ts : Nat → Nat} {tw : Nat → Int32} {N : Nat} (H : TkOK ts tw N) : ∀ i, ts i = 12 → tw i = -11 ∨ tw i = -12 := H.2.2.2.1
theorem TkOK.m {ts : Nat → Nat} {tw : Nat → Int32} {N : Nat} (H : TkOK ts tw N) : ∀ i, ts i = 13 → tw i = -13 ∨ tw i = -14 := H.2.2.2.2.1
theorem TkOK.c {ts : Nat → Nat} {tw : Nat → Int32} {N : Nat} (H : TkOK ts tw N) : ∀ i, ts i = 14 → tw i = -15 ∨ tw i = -16 ∨ tw i = -17 ∨ tw i = -18 ∨ tw i = -19 := H.2.2.2.2.2.1
theorem TkOK.k {ts : Nat → Nat} {tw : Nat → Int32} {N : Nat} (H : TkOK ts tw N) : ∀ i, ts i = 5 → 0 ≤ (tw i).toInt ∧ (tw i).toInt ≤ 2 := H.2.2.2.2.2.2
theorem flt_f {tq : Nat → Nat} {i k : Nat} : ¬ (flt tq i k).f = 0 := by
  show ¬ 1 + 8 * tq i + k = 0
  omega
theorem ty_num {x : Int32} {s : List Bool} (h : -9 < x.toInt) : ty1 x s = some (false :: s) := by
  unfold ty1
  have : -9 < x := by rw [Int32.lt_iff_toInt_lt]; exact h
  rw [if_pos this]
theorem ty_ari {x : Int32} {s : List Bool} (h : x = -11 ∨ x = -12 ∨ x = -13 ∨ x = -14) : ty1 x (false :: false :: s) = some (false :: s) := by
  rcases h with rfl | rfl | rfl | rfl <;> rfl
theorem ty_cmp {x : Int32} {s : List Bool} (h : x = -15 ∨ x = -16 ∨ x = -17 ∨ x = -18 ∨ x = -19) : ty1 x (false :: false :: s) = some (true :: s) := by
  rcases h with rfl | rfl | rfl | rfl | rfl <;> rfl
theorem ty_bool {x : Int32} {s : List Bool} (h : x = -20 ∨ x = -21) : ty1 x (true :: true :: s) = some (true :: s) := by
  rcases h with rfl | rfl <;> rfl
theorem ty_neg {s : List Bool} : ty1 (-22) (true :: s) = some (true :: s) := rfl
theorem tyL_1 {x : Int32} {s s' : List Bool} (h : ty1 x s = some s') (hl : s'.length ≤ 60) : tyL [x] s = some s' := by
  rw [tyL, h]
  show (if s'.length ≤ 60 then tyL [] s' else none) = _
  rw [if_pos hl]
  rfl
/-- one more of the same, and a step that takes two and leaves one -/
theorem tyL_2 {M M2 : List Int32} {x : Int32} {v w : Bool} {s : List Bool} (h1 : tyL M s = some (v :: s)) (h2 : tyL M2 (v :: s) = some (v :: v :: s)) (h3 : ty1 x (v :: v :: s) = some (w :: s)) (hl : s.length + 1 ≤ 60) : tyL (M ++ (M2 ++ [x])) s = some (w :: s) := by
  rw [tyL_app, h1]
  show tyL (M2 ++ [x]) (v :: s) = _
  rw [tyL_app, h2]
  exact tyL_1 h3 (by simpa using hl)
section PG
variable {ts : Nat → Nat} {tw : Nat → Int32} {tq : Nat → Nat} {N : Nat}
theorem zV_g (hT : TkOK ts tw N) {i g : Nat} {L : List Int32} (h : (zV ts tw tq i g L).f = 0) : Pg N false (zV ts tw tq i g L) i g L := by
  unfold zV at h ⊢
  by_cases c3 : ts i = 3
  · rw [if_pos c3] at h; exact absurd h flt_f
  · rw [if_neg c3] at h ⊢
    by_cases c : ts i = 2 ∨ ts i = 4
    · rw [if_pos c] at h ⊢
      by_cases c6 : 60 ≤ g
      · rw [if_pos c6] at h; exact absurd h flt_f
      · rw [if_neg c6]
        have hi := hT.e i (by omega)
        refine ⟨⟨by show i < i + 1; omega, by show i + 1 ≤ N; omega⟩, ⟨by show g < g + 1; omega, by show g + 1 ≤ 60; omega⟩, _, rfl, ?_, fun s hs => ?_⟩
        · show 1 + 1 ≤ 2 * (g + 1 - g); omega
        · have hs' : s.length + (g + 1 - g) ≤ 60 := hs
          refine tyL_1 (ty_num ?_) (by simp; omega)
          by_cases c2 : ts i = 2
          · rw [if_pos c2]; have := hT.n i c2; omega
          · rw [if_neg c2]
            have := hT.w i (by omega)
            have e : (-1 - tw i).toInt = -1 - (tw i).toInt := by
              rw [Int32.toInt_sub]
              have : (-1 : Int32).toInt = -1 := rfl
              rw [this, Int.bmod_eq_of_le (by omega) (by omega)]
            rw [e]; omega
    · rw [if_neg c] at h; exact absurd h flt_f
theorem zLo_g {x : Nat} {F : Nat → Nat → List Int32 → Rp} {code : Nat → Int32} {v : Bool} (hF : ∀ i g L, (F i g L).f = 0 → Pg N v (F i g L) i g L) (hc : ∀ i s, ts i = x → ty1 (code i) (v :: v :: s) = some (v :: s)) :
    ∀ k i g L r0 i0 g0 L0, r0 = mkRp 0 i g L → Pg N v r0 i0 g0 L0 → (zLo ts x F code k i g L).f = 0 → Pg N v (zLo ts x F code k i g L) i0 g0 L0 := by
  intro k
  induction k with
  | zero => intro i g L r0 i0 g0 L0 hr hP _; rw [hr] at hP; exact hP
  | succ k ih =>
    intro i g L r0 i0 g0 L0 hr hP h
    rw [zLo] at h ⊢
    by_cases c : ts i = x
    · rw [if_pos c] at h ⊢
      by_cases z : (F (i + 1) g L).f = 0
      · rw [bd_t z] at h ⊢
        have P2 := hF _ _ _ z
        subst hr
        obtain ⟨⟨a1, a2⟩, ⟨b1, b2⟩, M, e1, e2, e3⟩ := hP
        obtain ⟨⟨c1, c2⟩, ⟨d1, d2⟩, M2, f1, f2, f3⟩ := P2
        have a1' : i0 < i := a1
        have b1' : g0 < g := b1
        have b2' : g ≤ 60 := b2
        have e1' : L = L0 ++ M := e1
        have e2' : M.length + 1 ≤ 2 * (g - g0) := e2
        have e3' : ∀ s, s.length + (g - g0) ≤ 60 → tyL M s = some (v :: s) := e3
        refine ih _ _ _ _ i0 g0 L0 rfl ⟨⟨by show i0 < (F (i + 1) g L).i; omega, c2⟩, ⟨by show g0 < (F (i + 1) g L).g; omega, d2⟩, M ++ (M2 ++ [code i]), ?_, ?_, fun s hs => ?_⟩ h
        · show (F (i + 1) g L).L ++ [code i] = _
          rw [f1, e1']; simp
        · show (M ++ (M2 ++ [code i])).length + 1 ≤ 2 * ((F (i + 1) g L).g - g0)
          simp only [List.length_append, List.length_cons, List.length_nil]
          omega
        · have hs' : s.length + ((F (i + 1) g L).g - g0) ≤ 60 := hs
          exact tyL_2 (e3' s (by omega)) (f3 (v :: s) (by simp; omega)) (hc i s c) (by omega)
      · rw [bd_f z] at h; exact absurd h z
    · rw [if_neg c]; rw [hr] at hP; exact hP
theorem zT_g (hT : TkOK ts tw N) {i g : Nat} {L : List Int32} (h : (zT ts tw tq i g L).f = 0) : Pg N false (zT ts tw tq i g L) i g L := by
  unfold zT at h ⊢
  by_cases z : (zV ts tw tq i g L).f = 0
  · rw [bd_t z] at h ⊢
    have P := zV_g hT z
    refine zLo_g (fun i g L h => zV_g hT h) (fun i s hi => ty_ari (by have := hT.m i hi; rcases this with a | a <;> simp [a])) 401 _ _ _ (mkRp 0 (zV ts tw tq i g L).i (zV ts tw tq i g L).g (zV ts tw tq i g L).L) i g L rfl P h
  · rw [bd_f z] at h; exact absurd h z
theorem zS_g (hT : TkOK ts tw N) {i g : Nat} {L : List Int32} (h : (zS ts tw tq i g L).f = 0) : Pg N false (zS ts tw tq i g L) i g L := by
  unfold zS at h ⊢
  by_cases z : (zT ts tw tq i g L).f = 0
  · rw [bd_t z] at h ⊢
    have P := zT_g hT z
    refine zLo_g (fun i g L h => zT_g hT h) (fun i s hi => ty_ari (by have := hT.a i hi; rcases this with a | a <;> simp [a])) 401 _ _ _ (mkRp 0 (zT ts tw tq i g L).i (zT ts tw tq i g L).g (zT ts tw tq i g L).L) i g L rfl P h
  · rw [bd_f z] at h; exact absurd h z
theorem zcm_g (hT : TkOK ts tw N) {i g : Nat} {L : List Int32} (h : (zcm ts tw tq i g L).f = 0) : Pk N 0 (zcm ts tw tq i g L) i g L := by
  unfold zcm at h ⊢
  by_cases z : (zS ts tw tq i g L).f = 0
  · rw [bd_t z] at h ⊢
    obtain ⟨⟨a1, a2⟩, ⟨b1, b2⟩, M, e1, e2, e3⟩ := zS_g hT z
    generalize zS ts tw tq i g L = r at *
    by_cases c : ts r.i = 14
    · rw [if_pos c] at h ⊢
      by_cases c6 : 60 ≤ r.g
      · rw [if_pos c6] at h; exact absurd h flt_f
      · rw [if_neg c6] at h ⊢
        by_cases z2 : (zS ts tw tq (r.i + 1) (r.g + 1) r.L).f = 0
        · rw [bd_t z2]
          obtain ⟨⟨c1, c2⟩, ⟨d1, d2⟩, M2, f1, f2, f3⟩ := zS_g hT z2
          generalize zS ts tw tq (r.i + 1) (r.g + 1) r.L = r2 at *
          refine ⟨⟨by show i < r2.i; omega, c2⟩, ⟨by show g < r2.g; omega, d2⟩, M ++ (M2 ++ [tw r.i]), 1, ?_, by decide, ?_, ?_, fun s hs => ?_⟩
          · show r2.L ++ [tw r.i] = _
            rw [f1, e1]; simp
          · show 3 * 1 ≤ r2.g - g; omega
          · show (M ++ (M2 ++ [tw r.i])).length + 1 + 2 * 1 ≤ 2 * (r2.g - g) + 0 * 1
            simp only [List.length_append, List.length_cons, List.length_nil]
            omega
          · have hs' : s.length + (r2.g - g) ≤ 60 := hs
            exact tyL_2 (e3 s (by omega)) (f3 (false :: s) (by simp; omega)) (ty_cmp (hT.c _ c)) (by omega)
        · rw [bd_f z2] at h; exact absurd h z2
    · rw [if_neg c] at h; exact absurd h flt_f
  · rw [bd_f z] at h; exact absurd h z
theorem zLo_k {e x : Nat} {F : Nat → Nat → List Int32 → Rp} {code : Nat → Int32} (hF : ∀ i g L, (F i g L).f = 0 → Pk N e (F i g L) i g L) (hc : ∀ i s, ty1 (code i) (true :: true :: s) = some (true :: s)) :
    ∀ k i g L r0 i0 g0 L0, r0 = mkRp 0 i g L → Pk N e r0 i0 g0 L0 → (zLo ts x F code k i g L).f = 0 → Pk N e (zLo ts x F code k i g L) i0 g0 L0 := by
  intro k
  induction k with
  | zero => intro i g L r0 i0 g0 L0 hr hP _; rw [hr] at hP; exact hP
  | succ k ih =>
    intro i g L r0 i0 g0 L0 hr hP h
    rw [zLo] at h ⊢
    by_cases c : ts i = x
    · rw [if_pos c] at h ⊢
      by_cases z : (F (i + 1) g L).f = 0
      · rw [bd_t z] at h ⊢
        have P2 := hF _ _ _ z
        subst hr
        obtain ⟨⟨a1, a2⟩, ⟨b1, b2⟩, M, F1, e1, e0, e4, e2, e3⟩ := hP
        obtain ⟨⟨c1, c2⟩, ⟨d1, d2⟩, M2, F2, f1, f0, f4, f2, f3⟩ := P2
        have a1' : i0 < i := a1
        have b1' : g0 < g := b1
        have b2' : g ≤ 60 := b2
        have e1' : L = L0 ++ M := e1
        have e4' : 3 * F1 ≤ g - g0 := e4
        have e2' : M.length + 1 + 2 * F1 ≤ 2 * (g - g0) + e * F1 := e2
        have e3' : ∀ s, s.length + (g - g0) ≤ 60 → tyL M s = some (true :: s) := e3
        refine ih _ _ _ _ i0 g0 L0 rfl ⟨⟨by show i0 < (F (i + 1) g L).i; omega, c2⟩, ⟨by show g0 < (F (i + 1) g L).g; omega, d2⟩, M ++ (M2 ++ [code i]), F1 + F2, ?_, by omega, ?_, ?_, fun s hs => ?_⟩ h
        · show (F (i + 1) g L).L ++ [code i] = _
          rw [f1, e1']; simp
        · show 3 * (F1 + F2) ≤ (F (i + 1) g L).g - g0
          omega
        · show (M ++ (M2 ++ [code i])).length + 1 + 2 * (F1 + F2) ≤ 2 * ((F (i + 1) g L).g - g0) + e * (F1 + F2)
          simp only [List.length_append, List.length_cons, List.length_nil, Nat.mul_add]
          omega
        · have hs' : s.length + ((F (i + 1) g L).g - g0) ≤ 60 := hs
          exact tyL_2 (e3' s (by omega)) (f3 (true :: s) (by simp; omega)) (hc i s) (by omega)
      · rw [bd_f z] at h; exact absurd h z
    · rw [if_neg c]; rw [hr] at hP; exact hP
theorem zA_k {e : Nat} {F : Nat → Nat → List Int32 → Rp} (hF : ∀ i g L, (F i g L).f = 0 → Pk N e (F i g L) i g L) {i g : Nat} {L : List Int32} (h : (zA ts F i g L).f = 0) : Pk N e (zA ts F i g L) i g L := by
  unfold zA at h ⊢
  by_cases z : (F i g L).f = 0
  · rw [bd_t z] at h ⊢
    exact zLo_k hF (fun i s => ty_bool (Or.inl rfl)) 401 _ _ _ (mkRp 0 (F i g L).i (F i g L).g (F i g L).L) i g L rfl (hF _ _ _ z) h
  · rw [bd_f z] at h; exact absurd h z
theorem zO_k {e : Nat} {F : Nat → Nat → List Int32 → Rp} (hF : ∀ i g L, (F i g L).f = 0 → Pk N e (F i g L) i g L) {i g : Nat} {L : List Int32} (h : (zO ts F i g L).f = 0) : Pk N e (zO ts F i g L) i g L := by
  unfold zO at h ⊢
  by_cases z : (zA ts F i g L).f = 0
  · rw [bd_t z] at h ⊢
    exact zLo_k (fun i g L h => zA_k hF h) (fun i s => ty_bool (Or.inr rfl)) 401 _ _ _ (mkRp 0 (zA ts F i g L).i (zA ts F i g L).g (zA ts F i g L).L) i g L rfl (zA_k hF z) h
  · rw [bd_f z] at h; exact absurd h z
theorem Pk_e {e e' : Nat} {r : Rp} {i g : Nat} {L : List Int32} (h : Pk N e r i g L) (he : e ≤ e') : Pk N e' r i g L := by
  obtain ⟨a, b, M, F, c, d, f, k, l⟩ := h
  refine ⟨a, b, M, F, c, d, f, ?_, l⟩
  have : e * F ≤ e' * F := Nat.mul_le_mul_right _ he
  omega
theorem zF_k (hT : TkOK ts tw N) : ∀ e i g L, (zF ts tw tq e i g L).f = 0 → Pk N e (zF ts tw tq e i g L) i g L := by
  intro e
  induction e with
  | zero =>
    intro i g L h
    rw [zF] at h ⊢
    simp only at h ⊢
    by_cases c : ts i = 7 ∨ ts i = 10
    · rw [if_pos c] at h; exact absurd h flt_f
    · rw [if_neg c] at h ⊢; exact zcm_g hT h
  | succ e ih =>
    intro i g L h
    rw [zF] at h ⊢
    simp only at h ⊢
    by_cases c : ts i = 7
    · rw [if_pos c] at h ⊢
      by_cases z : (zF ts tw tq e (i + 1) g L).f = 0
      · rw [bd_t z]
        obtain ⟨⟨a1, a2⟩, ⟨b1, b2⟩, M, F, e1, e0, e4, e2, e3⟩ := ih _ _ _ z
        generalize zF ts tw tq e (i + 1) g L = r at *
        refine ⟨⟨by show i < r.i; omega, a2⟩, ⟨b1, b2⟩, M ++ [-22], F, ?_, e0, e4, ?_, fun s hs => ?_⟩
        · show r.L ++ [-22] = _
          rw [e1]; simp
        · show (M ++ [-22]).length + 1 + 2 * F ≤ 2 * (r.g - g) + (e + 1) * F
          simp only [List.length_append, List.length_cons, List.length_nil, Nat.add_mul, Nat.one_mul]
          omega
        · have hs' : s.length + (r.g - g) ≤ 60 := hs
          rw [tyL_app, e3 s hs]
          exact tyL_1 ty_neg (by simp; omega)
      · rw [bd_f z] at h; exact absurd h z
    · rw [if_neg c] at h ⊢
      by_cases c2 : ts i = 10
      · rw [if_pos c2] at h ⊢
        by_cases z : (zO ts (zF ts tw tq e) (i + 1) g L).f = 0
        · rw [bd_t z] at h ⊢
          obtain ⟨⟨a1, a2⟩, ⟨b1, b2⟩, M, F, e1, e0, e4, e2, e3⟩ := zO_k ih z
          generalize zO ts (zF ts tw tq e) (i + 1) g L = r at *
          by_cases c3 : ts r.i = 11
          · rw [if_pos c3]
            have := hT.e r.i (by omega)
            refine ⟨⟨by show i < r.i + 1; omega, by show r.i + 1 ≤ N; omega⟩, ⟨b1, b2⟩, M, F, e1, e0, e4, ?_, e3⟩
            show M.length + 1 + 2 * F ≤ 2 * (r.g - g) + (e + 1) * F
            rw [Nat.add_mul, Nat.one_mul]
            omega
          · rw [if_neg c3] at h; exact absurd h flt_f
        · rw [bd_f z] at h; exact absurd h z
      · rw [if_neg c2] at h ⊢
        exact Pk_e (zcm_g hT h) (by omega)
end PG
