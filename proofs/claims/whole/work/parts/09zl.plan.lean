/-! PURE PART: plan, the class -/
def frP (w w1 : Vt) : Prop := (∀ c a, vI w1 c a = vI w c a) ∧ ∀ k a i, ¬ k = 1104 → ¬ k = 1105 → vA w1 k a i = vA w k a i
theorem frP.rfl (w : Vt) : frP w w := ⟨fun _ _ => Eq.refl _, fun _ _ _ _ _ => Eq.refl _⟩
theorem frP.trans {w w1 w2 : Vt} (h : frP w w1) (h2 : frP w1 w2) : frP w w2 := ⟨fun c a => (h2.1 c a).trans (h.1 c a), fun k a i q r => (h2.2 k a i q r).trans (h.2 k a i q r)⟩
theorem frP.u {w w1 : Vt} {k0 a0 j : Nat} {v : Int32} (h : frP w w1) (hk : k0 = 1104 ∨ k0 = 1105) : frP w (uA w1 k0 a0 j v) := ⟨h.1, fun k a i q r => by
  have hq : ¬ (k = k0 ∧ a = a0 ∧ i = j) := fun s => by
    rcases hk with g | g
    · exact q (s.1.trans g)
    · exact r (s.1.trans g)
  rw [rA_u, if_neg hq]
  exact h.2 k a i q r⟩
section PC
variable {z : Zt} {x t n : Nat} {B : Nat → Nat → Nat → Nat} {N : Nat → Nat → Nat} {w : Vt}
theorem fill_c {K : Vt → Prop} (hS : SC z x t B N) (hK : ∀ w1 : Vt, (∀ i, i < 17 → vA w1 1104 (B 104 0 0) i = -1) → frP w w1 → K w1) : wp_J7_fill_53178 z (B 104 0 0) (-1) w K := by
  have key : ∀ d k (w1 : Vt), k + d = 17 → (∀ i, i < k → vA w1 1104 (B 104 0 0) i = -1) → frP w w1 → wL_J7_fill_53178_5 z (B 104 0 0) K (fun x5 x6 x7 w8 => K w8) (d + 1) 17 (nI k) (-1) w1 := by
    intro d
    induction d with
    | zero =>
      intro k w1 hk h1 hF
      have : k = 17 := by omega
      subst this
      rw [wL_J7_fill_53178_5]
      exact ⟨fun _ => hK w1 h1 hF, fun q => absurd (nI_le (a := 17) (b := 17) (Nat.le_refl _) (by decide)) q⟩
    | succ d ih =>
      intro k w1 hk h1 hF
      rw [wL_J7_fill_53178_5]
      refine ⟨fun q => absurd q (nI_ge (b := 17) (by omega) (by decide)), fun _ => ⟨vp_in_nI (by omega) (by decide), fun w2 e2 x3 e3 => ?_⟩⟩
      rw [nI_clamp (by omega)] at e2
      rw [e3, nI_1]
      refine ih (k + 1) w2 (by omega) (fun i hi => ?_) (by rw [e2]; exact hF.u (Or.inl rfl))
      by_cases hh : i = k
      · rw [e2, rA_u, if_pos ⟨rfl, rfl, hh⟩]
      · have hq : ¬ (1104 = 1104 ∧ B 104 0 0 = B 104 0 0 ∧ i = k) := fun r => hh r.2.2
        rw [e2, rA_u, if_neg hq]
        exact h1 i (by omega)
  unfold wp_J7_fill_53178
  exact ⟨(sc_104 hS).2, 17 + 1, key 17 0 w (by omega) (fun i hi => absurd hi (by omega)) (frP.rfl w)⟩
theorem fair_c {K : Int32 → Vt → Prop} {p : Nat} (hS : SC z x t B N) (hn : n ≤ 16) (hp : p < 100) (e : vI w 103 (B 913 0 0) = nI n) (hK : K (if p < n ∧ vA w 1102 (B 102 0 0) p = 0 then 1 else 0) w) : wp_X1_isFair z (B 913 0 0) (nI p) w K := by
  unfold wp_X1_isFair
  rw [e]
  refine ⟨(sc_913 hS).2, fun h => absurd h (nI_pos (by omega)), fun _ => ⟨fun h => ?_, fun h => ⟨fun h2 => ?_, fun h2 => ⟨B 102 0 0, (sc_102 hS).1, (sc_102 hS).2, ?_, ?_⟩⟩⟩⟩
  · have : n ≤ p := (nI_leI (by omega) (by omega)).mp h
    rw [if_neg (fun q => by omega)] at hK
    exact hK
  · have : 16 ≤ p := (nI_leI (a := 16) (by decide) (by omega)).mp h2
    have : p < n := Nat.lt_of_not_le (fun q => h (nI_le q (by omega)))
    omega
  · have : p < n := Nat.lt_of_not_le (fun q => h (nI_le q (by omega)))
    exact vp_in_nI (by omega) (by decide)
  · have hpn : p < n := Nat.lt_of_not_le (fun q => h (nI_le q (by omega)))
    rw [nI_clamp (by omega)]
    refine ⟨fun q => ?_, fun q => ?_⟩
    · rw [if_neg (fun r => q r.2)] at hK
      exact hK
    · rw [if_pos ⟨hpn, q⟩] at hK
      exact hK
theorem great_c {K : Int32 → Vt → Prop} (hS : SC z x t B N) (hK : ∀ g : Int32, 0 ≤ g.toInt → (∀ i, i < 17 → (vA w 1104 (B 104 0 0) i).toInt ≤ g.toInt) → (g = 0 ∨ ∃ i, i < 17 ∧ g = vA w 1104 (B 104 0 0) i) → K g w) : wp_X1_greatestDry z (B 913 0 0) w K := by
  have key : ∀ d k (g : Int32), k + d = 17 → 0 ≤ g.toInt → (∀ i, i < k → (vA w 1104 (B 104 0 0) i).toInt ≤ g.toInt) → (g = 0 ∨ ∃ i, i < 17 ∧ g = vA w 1104 (B 104 0 0) i) → wL_X1_greatestDry_13 z (B 104 0 0) (B 913 0 0) K (fun x7 x8 x9 w10 => K x9 w10) (d + 1) (nI k) 17 g w := by
    intro d
    induction d with
    | zero =>
      intro k g hk h0 h1 h2
      have : k = 17 := by omega
      subst this
      rw [wL_X1_greatestDry_13]
      exact ⟨fun _ => hK g h0 h1 h2, fun q => absurd (nI_le (a := 17) (b := 17) (Nat.le_refl _) (by decide)) q⟩
    | succ d ih =>
      intro k g hk h0 h1 h2
      rw [wL_X1_greatestDry_13]
      refine ⟨fun q => absurd q (nI_ge (b := 17) (by omega) (by decide)), fun _ => ⟨vp_in_nI (by omega) (by decide), fun x3 e3 x4 e4 x5 e5 => ?_⟩⟩
      rw [nI_clamp (by omega)] at e3
      rw [e5, nI_1]
      by_cases hh : g < x3
      · rw [if_pos hh] at e4
        have hh := Int32.lt_iff_toInt_lt.mp hh
        subst e4
        refine ih (k + 1) x4 (by omega) (by omega) (fun i hi => ?_) (Or.inr ⟨k, by omega, e3⟩)
        by_cases hi2 : i = k
        · rw [hi2, ← e3]
          exact Int.le_refl _
        · have := h1 i (by omega)
          omega
      · rw [if_neg hh] at e4
        rw [Int32.lt_iff_toInt_lt] at hh
        subst e4
        refine ih (k + 1) x4 (by omega) h0 (fun i hi => ?_) h2
        by_cases hi2 : i = k
        · rw [hi2, ← e3]
          omega
        · exact h1 i (by omega)
  unfold wp_X1_greatestDry
  exact ⟨(sc_913 hS).2, B 104 0 0, (sc_104 hS).1, (sc_104 hS).2, 17 + 1, key 17 0 0 (by omega) (by decide) (fun i hi => absurd hi (by omega)) (Or.inl rfl)⟩
def mxI (a b : Int) : Int := if a < b then b else a
theorem wcut_c {K : Vt → Prop} (hS : SC z x t B N) (hK : ∀ w1 : Vt, (∀ i, i < 17 → (vA w1 1104 (B 104 0 0) i).toInt = if 1 ≤ i then mxI (vA w 1104 (B 104 0 0) i).toInt (vA w 1105 (B 105 0 0) (i - 1)).toInt else (vA w 1104 (B 104 0 0) i).toInt) → (∀ i, vA w1 1105 (B 105 0 0) i = vA w 1105 (B 105 0 0) i) → frP w w1 → K w1) : wp_X1_weighCutting z (B 913 0 0) w K := by
  have key : ∀ d k (w1 : Vt), 1 ≤ k → k + d = 17 → (∀ i, i < 17 → (vA w1 1104 (B 104 0 0) i).toInt = if 1 ≤ i ∧ i < k then mxI (vA w 1104 (B 104 0 0) i).toInt (vA w 1105 (B 105 0 0) (i - 1)).toInt else (vA w 1104 (B 104 0 0) i).toInt) → (∀ i, vA w1 1105 (B 105 0 0) i = vA w 1105 (B 105 0 0) i) → frP w w1 → wL_X1_weighCutting_2 z (B 913 0 0) K (fun x9 w10 => K w10) (d + 1) (nI k) w1 := by
    intro d
    induction d with
    | zero =>
      intro k w1 hk0 hk h1 h2 hF
      have : k = 17 := by omega
      subst this
      rw [wL_X1_weighCutting_2]
      refine ⟨B 104 0 0, (sc_104 hS).1, (sc_104 hS).2, fun _ => hK w1 (fun i hi => ?_) h2 hF, fun q => absurd (nI_le (a := 17) (b := 17) (Nat.le_refl _) (by decide)) q⟩
      rw [h1 i hi]
      by_cases q : 1 ≤ i
      · rw [if_pos ⟨q, hi⟩, if_pos q]
      · rw [if_neg (fun r => q r.1), if_neg q]
    | succ d ih =>
      intro k w1 hk0 hk h1 h2 hF
      have ge : ¬ (17 : Int32) ≤ nI k := nI_ge (b := 17) (by omega) (by decide)
      have ek : nI k - 1 = nI (k - 1) := nI_sub (b := 1) hk0
      rw [wL_X1_weighCutting_2]
      refine ⟨B 104 0 0, (sc_104 hS).1, (sc_104 hS).2, fun q => absurd q ge, fun _ => ⟨B 105 0 0, (sc_105 hS).1, (sc_105 hS).2, fun q => absurd q ge, fun _ => ⟨vp_in_nI (by omega) (by decide), ?_, fun x5 e5 => ⟨vp_in_nI (by omega) (by decide), fun w6 e6 x7 e7 => ?_⟩⟩⟩⟩
      · rw [ek]
        exact vp_in_nI (by omega) (by decide)
      · rw [ek, nI_clamp (by omega), nI_clamp (by omega), h2] at e5
        rw [nI_clamp (by omega)] at e6
        rw [e7, nI_1]
        have v5 : x5.toInt = mxI (vA w1 1104 (B 104 0 0) k).toInt (vA w 1105 (B 105 0 0) (k - 1)).toInt := by
          rw [e5]
          unfold mxI
          by_cases q : vA w1 1104 (B 104 0 0) k < vA w 1105 (B 105 0 0) (k - 1)
          · rw [if_pos q, if_pos (Int32.lt_iff_toInt_lt.mp q)]
          · rw [if_neg q, if_neg (fun r => q (Int32.lt_iff_toInt_lt.mpr r))]
        refine ih (k + 1) w6 (by omega) (by omega) (fun i hi => ?_) (fun i => ?_) (by rw [e6]; exact hF.u (Or.inl rfl))
        · by_cases hh : i = k
          · subst hh
            rw [e6, rA_u, if_pos ⟨rfl, rfl, rfl⟩, v5, h1 i hi, if_neg (fun r => by omega), if_pos ⟨hk0, by omega⟩]
          · have hq : ¬ (1104 = 1104 ∧ B 104 0 0 = B 104 0 0 ∧ i = k) := fun r => hh r.2.2
            rw [e6, rA_u, if_neg hq, h1 i hi]
            by_cases q : 1 ≤ i ∧ i < k
            · rw [if_pos q, if_pos ⟨q.1, by omega⟩]
            · rw [if_neg q, if_neg (fun r => q ⟨r.1, by omega⟩)]
        · have hq : ¬ (1105 = 1104 ∧ B 105 0 0 = B 104 0 0 ∧ i = k) := fun r => absurd r.1 (by decide)
          rw [e6, rA_u, if_neg hq]
          exact h2 i
  unfold wp_X1_weighCutting
  exact ⟨(sc_913 hS).2, 16 + 1, key 16 1 w (by omega) (by omega) (fun i hi => by rw [if_neg (fun r => by omega)]) (fun _ => rfl) (frP.rfl w)⟩
theorem wdry_c {K : Vt → Prop} (hS : SC z x t B N) (hb : ∀ i, i < 17 → (vA w 1105 (B 105 0 0) i).toInt ≤ 100) (hK : ∀ w1 : Vt, (∀ i, i < 17 → (vA w1 1104 (B 104 0 0) i).toInt = if i < 16 ∧ ¬ (vA w 1105 (B 105 0 0) (i + 1)).toInt = -1 then mxI (vA w 1104 (B 104 0 0) i).toInt ((vA w 1105 (B 105 0 0) (i + 1)).toInt + 1) else (vA w 1104 (B 104 0 0) i).toInt) → (∀ i, vA w1 1105 (B 105 0 0) i = vA w 1105 (B 105 0 0) i) → frP w w1 → K w1) : wp_X1_weighDrying z (B 913 0 0) w K := by
  have e1 : (-1 : Int32).toInt = -1 := by decide
  have key : ∀ d k (w1 : Vt), k + d = 16 → (∀ i, i < 17 → (vA w1 1104 (B 104 0 0) i).toInt = if i < k ∧ ¬ (vA w 1105 (B 105 0 0) (i + 1)).toInt = -1 then mxI (vA w 1104 (B 104 0 0) i).toInt ((vA w 1105 (B 105 0 0) (i + 1)).toInt + 1) else (vA w 1104 (B 104 0 0) i).toInt) → (∀ i, vA w1 1105 (B 105 0 0) i = vA w 1105 (B 105 0 0) i) → frP w w1 → wL_X1_weighDrying_2 z (B 913 0 0) K (fun x11 w12 => K w12) (d + 1) (nI k) w1 := by
    intro d
    induction d with
    | zero =>
      intro k w1 hk h1 h2 hF
      have : k = 16 := by omega
      subst this
      rw [wL_X1_weighDrying_2]
      exact ⟨B 104 0 0, (sc_104 hS).1, (sc_104 hS).2, fun q => absurd q (by decide), fun _ => ⟨B 105 0 0, (sc_105 hS).1, (sc_105 hS).2, fun _ => hK w1 h1 h2 hF, fun q => absurd (by decide) q⟩⟩
    | succ d ih =>
      intro k w1 hk h1 h2 hF
      have ge : ¬ (17 : Int32) ≤ nI k := nI_ge (b := 17) (by omega) (by decide)
      have ge2 : ¬ (17 : Int32) ≤ nI (k + 1) := nI_ge (b := 17) (by omega) (by decide)
      rw [wL_X1_weighDrying_2]
      simp only [nI_1]
      refine ⟨B 104 0 0, (sc_104 hS).1, (sc_104 hS).2, fun q => absurd q ge, fun _ => ⟨B 105 0 0, (sc_105 hS).1, (sc_105 hS).2, fun q => absurd q ge2, fun _ => ⟨vp_in_nI (by omega) (by decide), ?_, ?_⟩⟩⟩
      · intro q x6 e6
        rw [nI_clamp (by omega), h2] at q
        rw [e6]
        refine ih (k + 1) w1 (by omega) (fun i hi => ?_) h2 hF
        rw [h1 i hi]
        have qi : (vA w 1105 (B 105 0 0) (k + 1)).toInt = -1 := by rw [q]; exact e1
        by_cases hh : i < k ∧ ¬ (vA w 1105 (B 105 0 0) (i + 1)).toInt = -1
        · rw [if_pos hh, if_pos ⟨by omega, hh.2⟩]
        · rw [if_neg hh, if_neg (fun r => ?_)]
          by_cases hik : i = k
          · rw [hik] at r
            exact r.2 qi
          · exact hh ⟨by omega, r.2⟩
      · intro q
        refine ⟨vp_in_nI (by omega) (by decide), vp_in_nI (by omega) (by decide), fun x7 e7 => ⟨vp_in_nI (by omega) (by decide), fun w8 e8 x9 e9 => ?_⟩⟩
        rw [nI_clamp (by omega), h2] at q
        rw [nI_clamp (by omega), nI_clamp (by omega), h2] at e7
        rw [nI_clamp (by omega)] at e8
        rw [e9]
        have qi : ¬ (vA w 1105 (B 105 0 0) (k + 1)).toInt = -1 := fun r => q (by rw [← Int32.toInt_inj, r]; exact e1.symm)
        have hbk := hb (k + 1) (by omega)
        have hlow := Int32.le_toInt (vA w 1105 (B 105 0 0) (k + 1))
        have ta : (vA w 1105 (B 105 0 0) (k + 1) + 1).toInt = (vA w 1105 (B 105 0 0) (k + 1)).toInt + 1 := by
          have e : (1 : Int32).toInt = 1 := by decide
          rw [t_add (by rw [e]; omega) (by rw [e]; omega), e]
        have v7 : x7.toInt = mxI (vA w1 1104 (B 104 0 0) k).toInt ((vA w 1105 (B 105 0 0) (k + 1)).toInt + 1) := by
          rw [e7]
          unfold mxI
          by_cases q : vA w1 1104 (B 104 0 0) k < vA w 1105 (B 105 0 0) (k + 1) + 1
          · have q' := Int32.lt_iff_toInt_lt.mp q
            rw [ta] at q'
            rw [if_pos q, if_pos q', ta]
          · have q' : ¬ (vA w1 1104 (B 104 0 0) k).toInt < (vA w 1105 (B 105 0 0) (k + 1)).toInt + 1 := fun r => q (Int32.lt_iff_toInt_lt.mpr (by rw [ta]; exact r))
            rw [if_neg q, if_neg q']
        refine ih (k + 1) w8 (by omega) (fun i hi => ?_) (fun i => ?_) (by rw [e8]; exact hF.u (Or.inl rfl))
        · by_cases hh : i = k
          · subst hh
            rw [e8, rA_u, if_pos ⟨rfl, rfl, rfl⟩, v7, h1 i hi, if_neg (fun r => by omega), if_pos ⟨by omega, qi⟩]
          · have hq : ¬ (1104 = 1104 ∧ B 104 0 0 = B 104 0 0 ∧ i = k) := fun r => hh r.2.2
            rw [e8, rA_u, if_neg hq, h1 i hi]
            by_cases q : i < k ∧ ¬ (vA w 1105 (B 105 0 0) (i + 1)).toInt = -1
            · rw [if_pos q, if_pos ⟨by omega, q.2⟩]
            · rw [if_neg q, if_neg (fun r => q ⟨by omega, r.2⟩)]
        · have hq : ¬ (1105 = 1104 ∧ B 105 0 0 = B 104 0 0 ∧ i = k) := fun r => absurd r.1 (by decide)
          rw [e8, rA_u, if_neg hq]
          exact h2 i
  unfold wp_X1_weighDrying
  exact ⟨(sc_913 hS).2, 16 + 1, key 16 0 w (by omega) (fun i hi => by rw [if_neg (fun r => by omega)]) (fun _ => rfl) (frP.rfl w)⟩
end PC
