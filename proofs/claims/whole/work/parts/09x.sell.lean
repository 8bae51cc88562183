/-! PURE PART: the loops of sell -/
theorem nt_bad {z : Zt} {x t : Nat} {B : Nat → Nat → Nat → Nat} {N : Nat → Nat → Nat} {w : Vt} {many : Int32} {K : Vt → Prop} {X : Nat → Vt → Prop} (hS : SC z x t B N) (hX : X 2 w) : ∀ d i, i + d = 5 → wL_X9_needTests_9 z x K X (fun _ x16 _ w18 => (¬ x16 = 0 → K w18) ∧ (x16 = 0 → X 2 w18)) (d + 1) (nI i) 0 many w := by
  intro d
  induction d with
  | zero =>
    intro i hi
    have : i = 5 := by omega
    subst this
    rw [wL_X9_needTests_9]
    exact ⟨B 911 0 0, (sc_911 hS).1, (sc_911 hS).2, fun _ => ⟨fun h => absurd rfl h, fun _ => hX⟩, fun h => absurd (nI_le (a := 5) (b := 5) (Nat.le_refl 5) (by decide)) h⟩
  | succ d ih =>
    intro i hi
    rw [wL_X9_needTests_9]
    refine ⟨B 911 0 0, (sc_911 hS).1, (sc_911 hS).2, fun h => absurd h (nI_ge (b := 5) (by omega) (by decide)), fun _ => ⟨fun _ x6 e6 => ?_, fun h => absurd rfl h⟩⟩
    rw [e6, nI_1]
    exact ih (i + 1) (by omega)
theorem nt_good {z : Zt} {x t mm : Nat} {B : Nat → Nat → Nat → Nat} {N : Nat → Nat → Nat} {w : Vt} {K : Vt → Prop} {X : Nat → Vt → Prop} (hS : SC z x t B N) (hmm : mm ≤ 5) (hK : allT (vA w 1911 (B 911 0 0)) mm = true → K w) (hX : ¬ allT (vA w 1911 (B 911 0 0)) mm = true → X 2 w) : ∀ d i, i + d = 5 → allT (vA w 1911 (B 911 0 0)) (if i ≤ mm then i else mm) = true → wL_X9_needTests_9 z x K X (fun _ x16 _ w18 => (¬ x16 = 0 → K w18) ∧ (x16 = 0 → X 2 w18)) (d + 1) (nI i) 1 (nI mm) w := by
  intro d
  induction d with
  | zero =>
    intro i hi ha
    have : i = 5 := by omega
    subst this
    rw [wL_X9_needTests_9]
    refine ⟨B 911 0 0, (sc_911 hS).1, (sc_911 hS).2, fun _ => ⟨fun _ => hK ?_, fun h => absurd h (by decide)⟩, fun h => absurd (nI_le (a := 5) (b := 5) (Nat.le_refl 5) (by decide)) h⟩
    by_cases h5 : 5 ≤ mm
    · rw [if_pos h5, show 5 = mm by omega] at ha
      exact ha
    · rw [if_neg h5] at ha
      exact ha
  | succ d ih =>
    intro i hi ha
    have v1 : vp_in (nI i) 5 := vp_in_nI (by omega) (by decide)
    have v2 : (nI i).toNatClampNeg = i := nI_clamp (by omega)
    rw [wL_X9_needTests_9]
    refine ⟨B 911 0 0, (sc_911 hS).1, (sc_911 hS).2, fun h => absurd h (nI_ge (b := 5) (by omega) (by decide)), fun _ => ⟨fun h => absurd h (by decide), fun _ => ⟨fun hc x8 e8 => ?_, fun hc => ?_⟩⟩⟩
    · rw [e8, nI_1]
      have hmi : mm ≤ i := (nI_leI (by omega) (by omega)).mp hc
      refine ih (i + 1) (by omega) ?_
      rw [if_neg (by omega)]
      by_cases h5 : i ≤ mm
      · rw [if_pos h5, show i = mm by omega] at ha
        exact ha
      · rw [if_neg h5] at ha
        exact ha
    · have hmi : i < mm := Nat.lt_of_not_le (fun h => hc (nI_le h (by omega)))
      rw [if_pos (by omega)] at ha
      refine ⟨v1, ?_⟩
      rw [v2, in9]
      rcases inI_01 (vA w 1911 (B 911 0 0) i) 0 99 with g | g
      · rw [g]
        refine ⟨fun _ x12 e12 => ?_, fun h => absurd rfl h⟩
        rw [e12, nI_1]
        refine nt_bad hS (hX (fun h => ?_)) d (i + 1) (by omega)
        have := (allT_iff mm).mp h i hmi
        rw [g] at this
        exact absurd this (by decide)
      · rw [g]
        refine ⟨fun h => absurd h (by decide), fun _ x12 e12 => ?_⟩
        rw [e12, nI_1]
        refine ih (i + 1) (by omega) ?_
        rw [if_pos (by omega)]
        simp [allT, ha, g]
theorem nt_c {z : Zt} {x t : Nat} {B : Nat → Nat → Nat → Nat} {N : Nat → Nat → Nat} {w : Vt} {many : Int32} {K : Vt → Prop} {X : Nat → Vt → Prop} (hS : SC z x t B N) (hK : ∀ mm : Nat, 3 ≤ mm → mm ≤ 5 → many = nI mm → allT (vA w 1911 (B 911 0 0)) mm = true → K w) (hX : inI many 3 5 = 0 ∨ (∃ mm : Nat, 3 ≤ mm ∧ mm ≤ 5 ∧ many = nI mm ∧ ¬ allT (vA w 1911 (B 911 0 0)) mm = true) → X 2 w) : wp_X9_needTests z x many w K X := by
  unfold wp_X9_needTests
  rw [in9]
  refine ⟨sc_x hS, 5 + 1, ?_⟩
  rcases inI_01 many 3 5 with g | g
  · rw [g]
    exact nt_bad hS (hX (Or.inl g)) 5 0 rfl
  · rw [g]
    obtain ⟨g1, g2⟩ := inI_1 g
    have e3 : (3 : Int32).toInt = 3 := rfl
    have e5 : (5 : Int32).toInt = 5 := rfl
    have h0 : ¬ many < 0 := by
      rw [Int32.lt_iff_toInt_lt]
      have e0 : (0 : Int32).toInt = 0 := rfl
      omega
    obtain ⟨mm, hmm, rfl⟩ := nI_of h0
    rw [nI_toInt hmm] at g1 g2
    exact nt_good hS (by omega) (fun h => hK mm (by omega) (by omega) rfl h) (fun h => hX (Or.inr ⟨mm, by omega, by omega, rfl, h⟩)) 5 0 rfl (by rw [if_pos (Nat.zero_le _)]; rfl)
def sameC (f g : Nat → Int32) (n : Nat) : Prop := ∀ v, cLt g v n = cLt f v n ∧ cLe g v n = cLe f v n
theorem sort_c {z : Zt} {x t mm : Nat} {B : Nat → Nat → Nat → Nat} {N : Nat → Nat → Nat} {w : Vt} {K : Vt → Prop} (hS : SC z x t B N) (h3 : 3 ≤ mm) (h5 : mm ≤ 5) (hK : ∀ w1 : Vt, tailOk (vA w1 1911 (B 911 0 0)) mm (mm - 1) → sameC (vA w 1911 (B 911 0 0)) (vA w1 1911 (B 911 0 0)) mm → frW aC aK w w1 → K w1) : wp_X9_sortTests z x (nI mm) w K := by
  have inner : ∀ (Kx : Int32 → Int32 → Int32 → Vt → Prop) (rnd : Int32) (p : Nat), p + 1 < mm → (∀ (a : Int32) (w1 : Vt), tailOk (vA w1 1911 (B 911 0 0)) mm (p + 1) → sameC (vA w 1911 (B 911 0 0)) (vA w1 1911 (B 911 0 0)) mm → frW aC aK w w1 → Kx a rnd (nI mm) w1) → ∀ (d k : Nat) (w1 : Vt), k + 1 + d = mm → midOk (vA w1 1911 (B 911 0 0)) mm p k → sameC (vA w 1911 (B 911 0 0)) (vA w1 1911 (B 911 0 0)) mm → frW aC aK w w1 → wL_X9_sortTests_9 z x K Kx (d + 1) (nI k) rnd (nI mm) w1 := by
    intro Kx rnd p hp hKx d
    induction d with
    | zero =>
      intro k w1 hk hm hc hF
      rw [wL_X9_sortTests_9, nI_1]
      refine ⟨fun _ => hKx _ w1 ?_ hc hF, fun h => absurd (nI_le (by omega) (by omega)) h⟩
      have := hm.2
      rw [if_neg (by omega)] at this
      exact this
    | succ d ih =>
      intro k w1 hk hm hc hF
      have v1 : vp_in (nI k) 5 := vp_in_nI (by omega) (by decide)
      have v2 : (nI k).toNatClampNeg = k := nI_clamp (by omega)
      have v3 : vp_in (nI (k + 1)) 5 := vp_in_nI (by omega) (by decide)
      have v4 : (nI (k + 1)).toNatClampNeg = k + 1 := nI_clamp (by omega)
      rw [wL_X9_sortTests_9, nI_1]
      refine ⟨fun h => absurd h (nI_ge (by omega) (by omega)), fun _ => ⟨B 911 0 0, (sc_911 hS).1, (sc_911 hS).2, fun h => absurd h (nI_ge (b := 5) (by omega) (by decide)), fun _ => ⟨v1, v3, ?_⟩⟩⟩
      rw [v2, v4]
      intro x5 e5
      refine ⟨v1, v3, fun x6 e6 => ⟨v3, fun w7 e7 => ⟨v1, fun w8 e8 x9 e9 => ?_⟩⟩⟩
      have er : vA w8 1911 (B 911 0 0) = exch (vA w1 1911 (B 911 0 0)) k := by
        funext j
        rw [e8, rA_u, e7, rA_u]
        unfold exch
        by_cases hj : j = k
        · rw [if_pos ⟨rfl, rfl, hj⟩, if_pos hj, e5]
        · rw [if_neg (fun h => hj h.2.2), if_neg hj]
          by_cases hj1 : j = k + 1
          · rw [if_pos ⟨rfl, rfl, hj1⟩, if_pos hj1, e6]
          · rw [if_neg (fun h => hj1 h.2.2), if_neg hj1]
      rw [e9]
      refine ih (k + 1) w8 (by omega) ?_ ?_ ?_
      · rw [er]
        exact exch_mid hp (by omega) hm
      · intro v
        rw [er, exch_cLt mm (by omega), exch_cLe mm (by omega)]
        exact hc v
      · rw [e8, e7]
        exact (hF.uA (by decide)).uA (by decide)
  have outer : ∀ (d p : Nat) (w1 : Vt), p + 1 + d = mm → tailOk (vA w1 1911 (B 911 0 0)) mm p → sameC (vA w 1911 (B 911 0 0)) (vA w1 1911 (B 911 0 0)) mm → frW aC aK w w1 → wL_X9_sortTests_2 z x K (fun _ _ w19 => K w19) (d + 1) (nI (p + 1)) (nI mm) w1 := by
    intro d
    induction d with
    | zero =>
      intro p w1 hp ht hc hF
      rw [wL_X9_sortTests_2]
      refine ⟨fun _ => hK w1 ?_ hc hF, fun h => absurd (nI_le (by omega) (by omega)) h⟩
      rw [show mm - 1 = p by omega]
      exact ht
    | succ d ih =>
      intro p w1 hp ht hc hF
      rw [wL_X9_sortTests_2]
      refine ⟨fun h => absurd h (nI_ge (by omega) (by omega)), fun _ => ⟨(mm - 1) + 1, ?_⟩⟩
      refine inner _ _ p (by omega) (fun a w2 ht2 hc2 hF2 x15 e15 => ?_) (mm - 1) 0 w1 (by omega) ⟨ht, ?_⟩ hc hF
      · rw [e15, nI_1]
        exact ih (p + 1) w2 (by omega) ht2 hc2 hF2
      · rw [if_pos (by omega)]
        intro j hj
        exact absurd hj (by omega)
  unfold wp_X9_sortTests
  refine ⟨sc_x hS, (mm - 1) + 1, outer (mm - 1) 0 w (by omega) (fun i hi hi2 => absurd hi (by omega)) (fun v => ⟨rfl, rfl⟩) (frW.rfl _ _ _)⟩
theorem s75 {z : Zt} {m mm : Nat} {M : Nat → Nat} {w : Vt} {b1 b2 b4 b5 b6 b7 b8 : Int32} {K : Int32 → Vt → Prop} {Kx : Int32 → Int32 → Int32 → Int32 → Int32 → Int32 → Int32 → Int32 → Int32 → Int32 → Vt → Prop} (hM : SM z m M) (h5 : mm ≤ 5) (hK : ∀ a : Int32, Kx a (if allT (vA w 2039 (M 1039)) mm = true then 1 else 0) b1 b2 (nI mm) b4 b5 b6 b7 b8 w) : ∃ n23 : Nat, wL_X10_sell_75 z m K Kx n23 0 1 b1 b2 (nI mm) b4 b5 b6 b7 b8 w := by
  have key : ∀ d i, i + d = mm → allT (vA w 2039 (M 1039)) i = true → wL_X10_sell_75 z m K Kx (d + 1 + 1) (nI i) 1 b1 b2 (nI mm) b4 b5 b6 b7 b8 w := by
    intro d
    induction d with
    | zero =>
      intro i hi ha
      have : i = mm := by omega
      subst this
      rw [wL_X10_sell_75]
      have hK' := hK (nI i)
      rw [if_pos ha] at hK'
      exact ⟨fun h => absurd h (by decide), fun _ => ⟨fun _ => hK', fun h => absurd (nI_le (Nat.le_refl i) (by omega)) h⟩⟩
    | succ d ih =>
      intro i hi ha
      have v1 : vp_in (nI i) 5 := vp_in_nI (by omega) (by decide)
      have v2 : (nI i).toNatClampNeg = i := nI_clamp (by omega)
      rw [wL_X10_sell_75]
      refine ⟨fun h => absurd h (by decide), fun _ => ⟨fun h => absurd h (nI_ge (by omega) (by omega)), fun _ => ⟨M 1039, (sm_1039 hM).1, (sm_1039 hM).2, v1, ?_⟩⟩⟩
      rw [v2, in10]
      rcases inI_01 (vA w 2039 (M 1039) i) 0 99 with g | g
      · rw [g]
        intro x22 e22
        rw [wL_X10_sell_75]
        refine ⟨fun _ => ?_, fun h => absurd rfl h⟩
        have hK' := hK x22
        rw [if_neg (fun h => by
          have := (allT_iff mm).mp h i (by omega)
          rw [g] at this
          exact absurd this (by decide))] at hK'
        exact hK'
      · rw [g]
        intro x22 e22
        rw [e22, nI_1]
        refine ih (i + 1) (by omega) ?_
        simp [allT, ha, g]
  exact ⟨mm + 1 + 1, key mm 0 (by omega) rfl⟩
theorem s75_0 {z : Zt} {m : Nat} {w : Vt} {b1 b2 b3 b4 b5 b6 b7 b8 : Int32} {K : Int32 → Vt → Prop} {Kx : Int32 → Int32 → Int32 → Int32 → Int32 → Int32 → Int32 → Int32 → Int32 → Int32 → Vt → Prop} (hK : Kx 0 0 b1 b2 b3 b4 b5 b6 b7 b8 w) : ∃ n23 : Nat, wL_X10_sell_75 z m K Kx n23 0 0 b1 b2 b3 b4 b5 b6 b7 b8 w := by
  refine ⟨1, ?_⟩
  rw [wL_X10_sell_75]
  exact ⟨fun _ => hK, fun h => absurd rfl h⟩
theorem s223 {z : Zt} {m mm k : Nat} {M : Nat → Nat} {w : Vt} {y9 y10 y11 y12 b1 b2 b4 b5 b6 b7 b8 : Int32} {K : Int32 → Vt → Prop} {Kx : Int32 → Int32 → Int32 → Int32 → Int32 → Int32 → Int32 → Int32 → Int32 → Int32 → Int32 → Int32 → Int32 → Int32 → Int32 → Vt → Prop} (hM : SM z m M) (h5 : mm ≤ 5) (hk : k < mm) (hK : ∀ a : Int32, Kx a (nI (rkC (vA w 2039 (M 1039)) k mm)) y11 y10 (nI k) y12 y9 b1 b2 (nI mm) b4 b5 b6 b7 b8 w) : ∃ n65 : Nat, wL_X10_sell_223 z m K Kx n65 0 0 y11 y10 (nI k) y12 y9 b1 b2 (nI mm) b4 b5 b6 b7 b8 w := by
  have u1 : vp_in (nI k) 5 := vp_in_nI (by omega) (by decide)
  have u2 : (nI k).toNatClampNeg = k := nI_clamp (by omega)
  have key : ∀ d i, i + d = mm → wL_X10_sell_223 z m K Kx (d + 1) (nI i) (nI (rkC (vA w 2039 (M 1039)) k i)) y11 y10 (nI k) y12 y9 b1 b2 (nI mm) b4 b5 b6 b7 b8 w := by
    intro d
    induction d with
    | zero =>
      intro i hi
      have : i = mm := by omega
      subst this
      rw [wL_X10_sell_223]
      exact ⟨fun _ => hK _, fun h => absurd (nI_le (Nat.le_refl i) (by omega)) h⟩
    | succ d ih =>
      intro i hi
      have v1 : vp_in (nI i) 5 := vp_in_nI (by omega) (by decide)
      have v2 : (nI i).toNatClampNeg = i := nI_clamp (by omega)
      have nx : ∀ (v : Int32), v = nI (if vA w 2039 (M 1039) i < vA w 2039 (M 1039) k ∨ (vA w 2039 (M 1039) i = vA w 2039 (M 1039) k ∧ i < k) then 1 else 0) → ∀ x63 : Int32, x63 = nI (rkC (vA w 2039 (M 1039)) k i) + v → ∀ x64 : Int32, x64 = nI i + 1 → wL_X10_sell_223 z m K Kx (d + 1) x64 x63 y11 y10 (nI k) y12 y9 b1 b2 (nI mm) b4 b5 b6 b7 b8 w := by
        intro v ev x63 e63 x64 e64
        rw [e63, e64, ev, nI_1, nI_add]
        exact ih (i + 1) (by omega)
      rw [wL_X10_sell_223]
      refine ⟨fun h => absurd h (nI_ge (by omega) (by omega)), fun _ => ⟨M 1039, (sm_1039 hM).1, (sm_1039 hM).2, v1, u1, ?_⟩⟩
      rw [v2, u2]
      refine ⟨fun v w' => v = nI (if vA w 2039 (M 1039) i < vA w 2039 (M 1039) k ∨ (vA w 2039 (M 1039) i = vA w 2039 (M 1039) k ∧ i < k) then 1 else 0) ∧ w' = w, ?_, ?_, ?_⟩
      · rintro v w' ⟨h1, rfl⟩
        exact nx v h1
      · intro hc
        exact ⟨by rw [if_pos (Or.inl hc)]; rfl, rfl⟩
      · intro hc
        refine ⟨v1, u1, fun hc2 => ⟨?_, rfl⟩, fun hc2 => ⟨fun hc3 => ⟨?_, rfl⟩, fun hc3 => ⟨?_, rfl⟩⟩⟩
        · rw [if_neg (fun h => h.elim hc (fun q => hc2 q.1))]; rfl
        · have : k ≤ i := (nI_leI (by omega) (by omega)).mp hc3
          rw [if_neg (fun h => h.elim hc (fun q => absurd q.2 (by omega)))]; rfl
        · have : i < k := Nat.lt_of_not_le (fun h => hc3 (nI_le h (by omega)))
          rw [if_pos (Or.inr ⟨hc2, this⟩)]; rfl
  exact ⟨mm + 1, key mm 0 (by omega)⟩
theorem rkC_le {f : Nat → Int32} {k : Nat} : ∀ i, rkC f k i ≤ i := by
  intro i
  induction i with
  | zero => exact Nat.le_refl 0
  | succ i ih => simp only [rkC]; split <;> omega
theorem s183 {z : Zt} {m mm : Nat} {M : Nat → Nat} {w : Vt} {y9 b1 b2 b4 b5 b6 b7 b8 : Int32} {K : Int32 → Vt → Prop} {Kx : Int32 → Int32 → Int32 → Int32 → Int32 → Int32 → Int32 → Int32 → Int32 → Int32 → Int32 → Int32 → Int32 → Vt → Prop} (hM : SM z m M) (h3 : 3 ≤ mm) (h5 : mm ≤ 5) (hK : ∀ a : Int32, Kx a (mdF (vA w 2039 (M 1039)) mm ((mm - 1) / 2) mm) (mxF (vA w 2039 (M 1039)) mm) (mnF (vA w 2039 (M 1039)) mm) y9 b1 b2 (nI mm) b4 b5 b6 b7 b8 w) : ∃ n86 : Nat, wL_X10_sell_183 z m K Kx n86 0 0 0 100 y9 b1 b2 (nI mm) b4 b5 b6 b7 b8 w := by
  have em : (nI mm - 1) / 2 = nI ((mm - 1) / 2) := by
    rw [show nI mm - 1 = nI (mm - 1) from pk_sub (b := 1) (by omega)]
    exact pk_div (d := 2) (by omega) (by decide) (by decide)
  have key : ∀ d k, k + d = mm → wL_X10_sell_183 z m K Kx (d + 1) (nI k) (mdF (vA w 2039 (M 1039)) mm ((mm - 1) / 2) k) (mxF (vA w 2039 (M 1039)) k) (mnF (vA w 2039 (M 1039)) k) y9 b1 b2 (nI mm) b4 b5 b6 b7 b8 w := by
    intro d
    induction d with
    | zero =>
      intro k hk
      have : k = mm := by omega
      subst this
      rw [wL_X10_sell_183]
      exact ⟨fun _ => hK _, fun h => absurd (nI_le (Nat.le_refl k) (by omega)) h⟩
    | succ d ih =>
      intro k hk
      have v1 : vp_in (nI k) 5 := vp_in_nI (by omega) (by decide)
      have v2 : (nI k).toNatClampNeg = k := nI_clamp (by omega)
      have h := ih (k + 1) (by omega)
      rw [wL_X10_sell_183]
      refine ⟨fun h => absurd h (nI_ge (by omega) (by omega)), fun _ => ⟨M 1039, (sm_1039 hM).1, (sm_1039 hM).2, v1, ?_⟩⟩
      rw [v2]
      intro x53 e53
      refine ⟨v1, fun x54 e54 => ?_⟩
      have em1 : x53 = mnF (vA w 2039 (M 1039)) (k + 1) := e53
      have em2 : x54 = mxF (vA w 2039 (M 1039)) (k + 1) := e54
      refine s223 hM h5 (by omega) (fun a => ?_)
      have hrk := rkC_le (f := vA w 2039 (M 1039)) (k := k) mm
      rw [em]
      constructor
      · intro hc x83 e83
        rw [e83, nI_1, em1, em2]
        have hne : ¬ rkC (vA w 2039 (M 1039)) k mm = (mm - 1) / 2 := fun e => hc (by rw [e])
        simp only [mdF, if_neg hne] at h
        exact h
      · intro hc
        have he : rkC (vA w 2039 (M 1039)) k mm = (mm - 1) / 2 := (nI_eq (by omega) (by omega)).mp hc
        refine ⟨v1, fun x84 e84 x85 e85 => ?_⟩
        rw [v2] at e84
        rw [e84, e85, nI_1, em1, em2]
        simp only [mdF, if_pos he] at h
        exact h
  exact ⟨mm + 1, key mm 0 (by omega)⟩
