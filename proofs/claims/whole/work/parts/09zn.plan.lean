/-! PURE PART: plan, the reference -/
theorem atI (a b c : Nat) : (((18 * nI a) + nI b) * 18) + nI c = nI ((18 * a + b) * 18 + c) := by
  show (((nI 18 * nI a) + nI b) * nI 18) + nI c = _
  rw [nI_mul, nI_add, nI_mul, nI_add]
theorem mxN {a b : Nat} (ha : a < 2147483648) (hb : b < 2147483648) : (if nI a < nI b then nI b else nI a) = nI (max a b) := by
  by_cases h : a < b
  · rw [if_pos (nI_lt h hb)]
    congr 1
    omega
  · rw [if_neg (nI_nlt (by omega) ha)]
    congr 1
    omega
def frQ (w w1 : Vt) : Prop := (∀ c a, vI w1 c a = vI w c a) ∧ ∀ k a i, ¬ k = 2052 → vA w1 k a i = vA w k a i
theorem frQ.rfl (w : Vt) : frQ w w := ⟨fun _ _ => Eq.refl _, fun _ _ _ _ => Eq.refl _⟩
theorem frQ.u {w w1 : Vt} {a0 j : Nat} {v : Int32} (h : frQ w w1) : frQ w (uA w1 2052 a0 j v) := ⟨h.1, fun k a i q => by
  have hq : ¬ (k = 2052 ∧ a = a0 ∧ i = j) := fun s => q s.1
  rw [rA_u, if_neg hq]
  exact h.2 k a i q⟩
section PM
variable {z : Zt} {m n : Nat} {w : Vt} {M : Nat → Nat} {a0 a1 a2 : Nat → Int32}
theorem best_m {K : Int32 → Vt → Prop} {d u r : Nat} (hM : SM z m M) (hn : n ≤ 16) (e51 : vI w 1051 m = nI n) (hd : d < n) (hwr : u + r ≤ d) (ht : ∀ u r, u + r ≤ d + 1 → vA w 2052 (M 1052) ((18 * (d + 1) + u) * 18 + r) = nI (pV (pLo a0) (pDr a1 a2) (pLi n a2) (n - (d + 1)) (d + 1) u r)) (f0 : vA w 2048 (M 1048) d = a0 d) (f1 : vA w 2049 (M 1049) d = a1 d) (f2 : ∀ p, p < n → vA w 2050 (M 1050) p = a2 p) (hK : K (nI (pV (pLo a0) (pDr a1 a2) (pLi n a2) (n - d) d u r)) w) : wp_X10_best z m (nI d) (nI u) (nI r) w K := by
  have hv : ∀ k d u r, pV (pLo a0) (pDr a1 a2) (pLi n a2) k d u r ≤ u + r + k := pV_le
  have ek : n - d = (n - (d + 1)) + 1 := by omega
  rw [ek] at hK
  have V1 := hv (n - (d + 1)) (d + 1) u r
  have V2 := hv (n - (d + 1)) (d + 1) (u + 1) r
  have V3 := hv (n - (d + 1)) (d + 1) (u - 1) (r + 1)
  have V4 := hv (n - (d + 1)) (d + 1) u 0
  have h1 := ht u r (by omega)
  have h2 := ht (u + 1) r (by omega)
  have h4 := ht u 0 (by omega)
  have h3 : 0 < u → vA w 2052 (M 1052) ((18 * (d + 1) + (u - 1)) * 18 + (r + 1)) = nI (pV (pLo a0) (pDr a1 a2) (pLi n a2) (n - (d + 1)) (d + 1) (u - 1) (r + 1)) := fun hu => ht (u - 1) (r + 1) (by omega)
  simp only [pV] at hK
  generalize pV (pLo a0) (pDr a1 a2) (pLi n a2) (n - (d + 1)) (d + 1) u r = v1 at *
  generalize pV (pLo a0) (pDr a1 a2) (pLi n a2) (n - (d + 1)) (d + 1) (u + 1) r = v2 at *
  generalize pV (pLo a0) (pDr a1 a2) (pLi n a2) (n - (d + 1)) (d + 1) (u - 1) (r + 1) = v3 at *
  generalize pV (pLo a0) (pDr a1 a2) (pLi n a2) (n - (d + 1)) (d + 1) u 0 = v4 at *
  generalize hX2 : (if pLo a0 d = true then v2 else 0) = X2 at *
  generalize hX3 : (if pDr a1 a2 d = true ∧ 0 < u then v3 else 0) = X3 at *
  have x2b : X2 ≤ 1000 := by
    rw [← hX2]
    split <;> omega
  have x3b : X3 ≤ 1000 := by
    rw [← hX3]
    split <;> omega
  have p0 : vp_in (nI d) 18 := vp_in_nI (by omega) (by decide)
  have p1 : vp_in (nI (d + 1)) 18 := vp_in_nI (by omega) (by decide)
  have p2 : vp_in (nI (d + 2)) 18 := vp_in_nI (by omega) (by decide)
  have hx2 : nI d + 2 = nI (d + 2) := nI_add d 2
  have a_1 := atI (d + 1) u r
  have a_2 := atI (d + 1) (u + 1) r
  have a_4 : (((18 * nI (d + 1)) + nI u) * 18) + 0 = nI ((18 * (d + 1) + u) * 18 + 0) := atI (d + 1) u 0
  unfold wp_X10_best wp_X10_at
  simp only [nI_1, hx2, a_1, a_2, a_4]
  refine ⟨sm_m hM, M 1052, (sm_1052 hM).1, (sm_1052 hM).2, vp_in_nI (by omega) (by decide), fun x4 e4 => ?_⟩
  rw [nI_clamp (by omega), h1] at e4
  subst e4
  refine ⟨M 1048, (sm_1048 hM).1, (sm_1048 hM).2, p0, fun x w' => w' = w ∧ x = nI (max v1 X2), ?_, ?_, ?_⟩
  · intro x7 w8 hJ
    obtain ⟨rfl, rfl⟩ := hJ
    refine ⟨fun x w' => w' = w8 ∧ x = nI (max (max v1 X2) X3), ?_, ?_, ?_⟩
    · intro x14 w15 hJ
      obtain ⟨rfl, rfl⟩ := hJ
      refine ⟨fun x w' => w' = w15 ∧ ((x = 0 ∧ ¬ (pLi n a2 d = true ∧ 0 < r)) ∨ (x = 1 ∧ (pLi n a2 d = true ∧ 0 < r))), ?_, ?_, ?_⟩
      · intro x25 w26 hJ
        obtain ⟨rfl, hJ⟩ := hJ
        rcases hJ with ⟨rfl, hno⟩ | ⟨rfl, hyes⟩
        · refine ⟨fun _ => ?_, fun q => absurd rfl q⟩
          rw [if_neg hno] at hK
          rw [show max (max (max v1 X2) X3) 0 = max (max v1 X2) X3 by omega] at hK
          exact hK
        · refine ⟨fun q => absurd q (by decide), fun _ => ⟨vp_in_nI (by omega) (by decide), fun x36 e36 => ?_⟩⟩
          rw [nI_clamp (by omega), h4, nI_add, mxN (by omega) (by omega)] at e36
          rw [if_pos hyes] at hK
          rw [e36]
          exact hK
      · intro q
        have : r = 0 := by
          rcases Nat.eq_zero_or_pos r with g | g
          · exact g
          · exact absurd q (nI_nle g (by omega))
        exact ⟨rfl, Or.inl ⟨rfl, fun s => by omega⟩⟩
      · intro q
        have hr : 0 < r := by
          rcases Nat.eq_zero_or_pos r with g | g
          · exact absurd (by rw [g]; decide) q
          · exact g
        rw [e51]
        refine ⟨fun h => ⟨rfl, Or.inl ⟨rfl, fun s => ?_⟩⟩, fun h => ⟨M 1050, (sm_1050 hM).1, (sm_1050 hM).2, p0, ?_⟩⟩
        · have : n ≤ d + 2 := (nI_leI (by omega) (by omega)).mp h
          have := of_decide_eq_true s.1
          omega
        · have hd2 : d + 2 < n := Nat.lt_of_not_le (fun q => h (nI_le q (by omega)))
          rw [nI_clamp (by omega), nI_clamp (by omega), nI_clamp (by omega), f2 d hd, f2 (d + 1) (by omega), f2 (d + 2) hd2]
          refine ⟨fun g => ⟨rfl, Or.inl ⟨rfl, fun s => g (of_decide_eq_true s.1).2.1⟩⟩, fun g => ⟨p1, fun g1 => ⟨rfl, Or.inl ⟨rfl, fun s => g1 (of_decide_eq_true s.1).2.2.1⟩⟩, fun g1 => ⟨p2, fun g2 => ⟨rfl, Or.inl ⟨rfl, fun s => g2 (of_decide_eq_true s.1).2.2.2⟩⟩, fun g2 => ⟨rfl, Or.inr ⟨rfl, decide_eq_true ⟨hd2, g, g1, g2⟩, hr⟩⟩⟩⟩⟩
    · intro q
      have hu : u = 0 := by
        rcases Nat.eq_zero_or_pos u with g | g
        · exact g
        · exact absurd q (nI_nle g (by omega))
      refine ⟨rfl, ?_⟩
      rw [← hX3, if_neg (fun s => by omega)]
      congr 1
      omega
    · intro q
      have hu : 0 < u := by
        rcases Nat.eq_zero_or_pos u with g | g
        · exact absurd (by rw [g]; decide) q
        · exact g
      have hu1 : nI u - 1 = nI (u - 1) := nI_sub (b := 1) hu
      refine ⟨M 1049, (sm_1049 hM).1, (sm_1049 hM).2, p0, ?_⟩
      rw [nI_clamp (by omega), f1]
      refine ⟨fun h => ⟨rfl, ?_⟩, fun h => ⟨M 1050, (sm_1050 hM).1, (sm_1050 hM).2, p0, ?_⟩⟩
      · rw [← hX3, if_neg (fun s => (of_decide_eq_true s.1).1 h)]
        congr 1
        omega
      · rw [f2 d hd]
        refine ⟨fun g => ⟨rfl, ?_⟩, fun g => ?_⟩
        · rw [← hX3, if_neg (fun s => g (of_decide_eq_true s.1).2)]
          congr 1
          omega
        · have hdr : pDr a1 a2 d = true ∧ 0 < u := ⟨decide_eq_true ⟨h, g⟩, hu⟩
          rw [if_pos hdr] at hX3
          subst hX3
          rw [hu1, atI]
          refine ⟨vp_in_nI (by omega) (by decide), fun x23 e23 => ⟨rfl, ?_⟩⟩
          rw [nI_clamp (by omega), h3 hu, mxN (by omega) (by omega)] at e23
          exact e23
  · intro h
    rw [nI_clamp (by omega), f0] at h
    refine ⟨rfl, ?_⟩
    rw [← hX2, if_neg (fun s => (of_decide_eq_true s) h)]
    congr 1
    omega
  · intro h
    rw [nI_clamp (by omega), f0] at h
    have hlo : pLo a0 d = true := decide_eq_true h
    rw [if_pos hlo] at hX2
    subst hX2
    refine ⟨vp_in_nI (by omega) (by decide), fun x12 e12 => ⟨rfl, ?_⟩⟩
    rw [nI_clamp (by omega), h2, mxN (by omega) (by omega)] at e12
    exact e12
def tbl (a0 a1 a2 : Nat → Int32) (M : Nat → Nat) (n e : Nat) (w : Vt) : Prop := ∀ d, e ≤ d → d ≤ n → ∀ u r, u + r ≤ d → vA w 2052 (M 1052) ((18 * d + u) * 18 + r) = nI (pV (pLo a0) (pDr a1 a2) (pLi n a2) (n - d) d u r)
def tb2 (a0 a1 a2 : Nat → Int32) (M : Nat → Nat) (n d u0 r0 : Nat) (w : Vt) : Prop := ∀ u r, u + r ≤ d → (u < u0 ∨ (u = u0 ∧ r < r0)) → vA w 2052 (M 1052) ((18 * d + u) * 18 + r) = nI (pV (pLo a0) (pDr a1 a2) (pLi n a2) (n - d) d u r)
theorem l68 {K : Int32 → Vt → Prop} {Kx : Int32 → Int32 → Int32 → Int32 → Vt → Prop} {d u : Nat} (hM : SM z m M) (hn : n ≤ 16) (e51 : vI w 1051 m = nI n) (hd : d < n) (hu : u ≤ d) (f0 : ∀ p, p < n → vA w 2048 (M 1048) p = a0 p ∧ vA w 2049 (M 1049) p = a1 p ∧ vA w 2050 (M 1050) p = a2 p) (hK : ∀ (w2 : Vt) (x : Int32), frQ w w2 → tbl a0 a1 a2 M n (d + 1) w2 → tb2 a0 a1 a2 M n d (u + 1) 0 w2 → Kx x (nI u) (nI d) (nI n) w2) : ∀ k r (w1 : Vt), u + r + k = d + 1 → frQ w w1 → tbl a0 a1 a2 M n (d + 1) w1 → tb2 a0 a1 a2 M n d u r w1 → wL_X10_plan_68 z m K Kx (k + 1) (nI r) (nI u) (nI d) (nI n) w1 := by
  intro k
  induction k with
  | zero =>
    intro r w1 hk hF h1 h2
    rw [wL_X10_plan_68, nI_add]
    refine ⟨fun _ => hK w1 _ hF h1 (fun u' r' h h3 => ?_), fun q => absurd (nI_lt (by omega) (by omega)) q⟩
    exact h2 u' r' h (by omega)
  | succ k ih =>
    intro r w1 hk hF h1 h2
    rw [wL_X10_plan_68, nI_add]
    refine ⟨fun q => absurd q (nI_nlt (by omega) (by omega)), fun _ => ⟨M 1052, (sm_1052 hM).1, (sm_1052 hM).2, ?_⟩⟩
    unfold wp_X10_at
    rw [atI]
    have q2048 : ∀ p, p < n → vA w1 2048 (M 1048) p = a0 p := fun p hp => (hF.2 _ _ _ (by decide)).trans (f0 p hp).1
    have q2049 : ∀ p, p < n → vA w1 2049 (M 1049) p = a1 p := fun p hp => (hF.2 _ _ _ (by decide)).trans (f0 p hp).2.1
    have q2050 : ∀ p, p < n → vA w1 2050 (M 1050) p = a2 p := fun p hp => (hF.2 _ _ _ (by decide)).trans (f0 p hp).2.2
    refine best_m hM hn ((hF.1 _ _).trans e51) hd (by omega) (fun u r h => h1 (d + 1) (Nat.le_refl _) (by omega) u r h) (q2048 d hd) (q2049 d hd) q2050 ⟨vp_in_nI (by omega) (by decide), fun w29 e29 x30 e30 => ?_⟩
    rw [nI_clamp (by omega)] at e29
    rw [e30, nI_1]
    refine ih (r + 1) w29 (by omega) (by rw [e29]; exact hF.u) (fun d' hd' hdn u' r' h => ?_) (fun u' r' h h3 => ?_)
    · have hq : ¬ (2052 = 2052 ∧ M 1052 = M 1052 ∧ (18 * d' + u') * 18 + r' = (18 * d + u) * 18 + r) := fun s => by omega
      rw [e29, rA_u, if_neg hq]
      exact h1 d' hd' hdn u' r' h
    · by_cases hh : u' = u ∧ r' = r
      · rw [e29, rA_u, if_pos ⟨rfl, rfl, by rw [hh.1, hh.2]⟩, hh.1, hh.2]
      · have hq : ¬ (2052 = 2052 ∧ M 1052 = M 1052 ∧ (18 * d + u') * 18 + r' = (18 * d + u) * 18 + r) := fun s => by omega
        rw [e29, rA_u, if_neg hq]
        exact h2 u' r' h (by omega)
theorem l60 {K : Int32 → Vt → Prop} {Kx : Int32 → Int32 → Int32 → Vt → Prop} {d : Nat} (hM : SM z m M) (hn : n ≤ 16) (e51 : vI w 1051 m = nI n) (hd : d < n) (f0 : ∀ p, p < n → vA w 2048 (M 1048) p = a0 p ∧ vA w 2049 (M 1049) p = a1 p ∧ vA w 2050 (M 1050) p = a2 p) (hK : ∀ (w2 : Vt) (x : Int32), frQ w w2 → tbl a0 a1 a2 M n d w2 → Kx x (nI d) (nI n) w2) : ∀ k u (w1 : Vt), u + k = d + 1 → frQ w w1 → tbl a0 a1 a2 M n (d + 1) w1 → tb2 a0 a1 a2 M n d u 0 w1 → wL_X10_plan_60 z m K Kx (k + 1) (nI u) (nI d) (nI n) w1 := by
  intro k
  induction k with
  | zero =>
    intro u w1 hk hF h1 h2
    rw [wL_X10_plan_60]
    refine ⟨fun _ => hK w1 _ hF (fun d' hd' hdn u' r' h => ?_), fun q => absurd (nI_lt (by omega) (by omega)) q⟩
    by_cases hh : d' = d
    · subst hh
      exact h2 u' r' h (by omega)
    · exact h1 d' (by omega) hdn u' r' h
  | succ k ih =>
    intro u w1 hk hF h1 h2
    rw [wL_X10_plan_60]
    refine ⟨fun q => absurd q (nI_nlt (by omega) (by omega)), fun _ => ⟨(d + 1 - u) + 1, l68 hM hn e51 hd (by omega) f0 (fun w2 x hF2 h12 h22 x37 e37 => ?_) (d + 1 - u) 0 w1 (by omega) hF h1 h2⟩⟩
    rw [e37, nI_1]
    exact ih (u + 1) w2 (by omega) hF2 h12 h22
theorem l54 {K : Int32 → Vt → Prop} {Kx : Int32 → Int32 → Vt → Prop} (hM : SM z m M) (hn : n ≤ 16) (e51 : vI w 1051 m = nI n) (f0 : ∀ p, p < n → vA w 2048 (M 1048) p = a0 p ∧ vA w 2049 (M 1049) p = a1 p ∧ vA w 2050 (M 1050) p = a2 p) (hK : ∀ (w2 : Vt) (x : Int32), frQ w w2 → tbl a0 a1 a2 M n 0 w2 → Kx x (nI n) w2) : ∀ e (w1 : Vt), e ≤ n → frQ w w1 → tbl a0 a1 a2 M n e w1 → wL_X10_plan_54 z m K Kx (e + 1) (nI e - 1) (nI n) w1 := by
  intro e
  induction e with
  | zero =>
    intro w1 he hF h1
    rw [wL_X10_plan_54]
    exact ⟨fun _ => hK w1 _ hF h1, fun q => absurd (by rw [nI_0]; decide) q⟩
  | succ e ih =>
    intro w1 he hF h1
    rw [wL_X10_plan_54, nI_pred]
    refine ⟨fun q => absurd q (nI_pos (by omega)), fun _ => ⟨(e + 1) + 1, l60 hM hn e51 (by omega) f0 (fun w2 x hF2 h12 x43 e43 => ?_) (e + 1) 0 w1 (by omega) hF h1 (fun u r h h3 => absurd h3 (by omega))⟩⟩
    have e44 : x43 = nI e - 1 := by
      rw [e43, Int32.sub_eq_add_neg]
    rw [e44]
    exact ih w2 (by omega) hF2 h12
def zer (M : Nat → Nat) (n u0 r0 : Nat) (w : Vt) : Prop := ∀ u r, u < 18 → r < 18 → (u < u0 ∨ (u = u0 ∧ r < r0)) → vA w 2052 (M 1052) ((18 * n + u) * 18 + r) = 0
theorem l20 {K : Int32 → Vt → Prop} {Kx : Int32 → Int32 → Int32 → Vt → Prop} {u : Nat} (hM : SM z m M) (hn : n ≤ 16) (hu : u < 18) (hK : ∀ (w2 : Vt) (x : Int32), frQ w w2 → zer M n (u + 1) 0 w2 → Kx x (nI u) (nI n) w2) : ∀ k r (w1 : Vt), r + k = 18 → frQ w w1 → zer M n u r w1 → wL_X10_plan_20 z m K Kx (k + 1) (nI r) (nI u) (nI n) w1 := by
  intro k
  induction k with
  | zero =>
    intro r w1 hk hF h1
    have : r = 18 := by omega
    subst this
    rw [wL_X10_plan_20]
    exact ⟨fun _ => hK w1 _ hF (fun u' r' a b h => h1 u' r' a b (by omega)), fun q => absurd (nI_le (a := 18) (b := 18) (Nat.le_refl _) (by decide)) q⟩
  | succ k ih =>
    intro r w1 hk hF h1
    rw [wL_X10_plan_20]
    refine ⟨fun q => absurd q (nI_ge (b := 18) (by omega) (by decide)), fun _ => ⟨M 1052, (sm_1052 hM).1, (sm_1052 hM).2, ?_⟩⟩
    unfold wp_X10_at
    rw [atI]
    refine ⟨vp_in_nI (by omega) (by decide), fun w8 e8 x9 e9 => ?_⟩
    rw [nI_clamp (by omega)] at e8
    rw [e9, nI_1]
    refine ih (r + 1) w8 (by omega) (by rw [e8]; exact hF.u) (fun u' r' a b h => ?_)
    by_cases hh : (18 * n + u') * 18 + r' = (18 * n + u) * 18 + r
    · rw [e8, rA_u, if_pos ⟨rfl, rfl, hh⟩]
    · have hq : ¬ (2052 = 2052 ∧ M 1052 = M 1052 ∧ (18 * n + u') * 18 + r' = (18 * n + u) * 18 + r) := fun s => hh s.2.2
      rw [e8, rA_u, if_neg hq]
      exact h1 u' r' a b (by omega)
theorem l12 {K : Int32 → Vt → Prop} {Kx : Int32 → Int32 → Vt → Prop} (hM : SM z m M) (hn : n ≤ 16) (hK : ∀ (w2 : Vt) (x : Int32), frQ w w2 → zer M n 18 0 w2 → Kx x (nI n) w2) : ∀ k u (w1 : Vt), u + k = 18 → frQ w w1 → zer M n u 0 w1 → wL_X10_plan_12 z m K Kx (k + 1) (nI u) (nI n) w1 := by
  intro k
  induction k with
  | zero =>
    intro u w1 hk hF h1
    have : u = 18 := by omega
    subst this
    rw [wL_X10_plan_12]
    exact ⟨fun _ => hK w1 _ hF h1, fun q => absurd (nI_le (a := 18) (b := 18) (Nat.le_refl _) (by decide)) q⟩
  | succ k ih =>
    intro u w1 hk hF h1
    rw [wL_X10_plan_12]
    refine ⟨fun q => absurd q (nI_ge (b := 18) (by omega) (by decide)), fun _ => ⟨18 + 1, l20 hM hn (by omega) (fun w2 x hF2 h2 x15 e15 => ?_) 18 0 w1 (by omega) hF h1⟩⟩
    rw [e15, nI_1]
    exact ih (u + 1) w2 (by omega) hF2 h2
theorem plan_m {K : Int32 → Vt → Prop} (hM : SM z m M) (hn : n ≤ 16) (e51 : vI w 1051 m = nI n) (f0 : ∀ p, p < n → vA w 2048 (M 1048) p = a0 p ∧ vA w 2049 (M 1049) p = a1 p ∧ vA w 2050 (M 1050) p = a2 p) (hK : ∀ w1 : Vt, vI w1 1051 m = 0 → (∀ c a, ¬ c ∈ [1000, 1051] → vI w1 c a = vI w c a) → (∀ k a i, ¬ k = 2052 → vA w1 k a i = vA w k a i) → K (nI (pV (pLo a0) (pDr a1 a2) (pLi n a2) n 0 0 0)) w1) : wp_X10_plan z m w K := by
  unfold wp_X10_plan
  refine ⟨sm_m hM, fun w1 e1 x2 e2 => ⟨18 + 1, ?_⟩⟩
  have i1 : vI w1 1051 m = nI n := by
    rw [e1, vI_u, if_neg (fun q => absurd q.1 (by decide))]
    exact e51
  rw [i1] at e2
  subst e2
  have g0 : ∀ p, p < n → vA w1 2048 (M 1048) p = a0 p ∧ vA w1 2049 (M 1049) p = a1 p ∧ vA w1 2050 (M 1050) p = a2 p := by
    rw [e1]
    exact f0
  refine l12 (w := w1) hM hn (fun w2 x hF2 h2 x20 e20 => ⟨n + 1, ?_⟩) 18 0 w1 (by omega) (frQ.rfl w1) (fun u r _ _ h => absurd h (by omega))
  rw [e20]
  refine l54 (a0 := a0) (a1 := a1) (a2 := a2) (w := w2) hM hn ((hF2.1 _ _).trans i1) (fun p hp => ?_) (fun w3 x hF3 h3 w48 e48 => ?_) n w2 (Nat.le_refl _) (frQ.rfl w2) (fun d hd hdn u r h => ?_)
  · obtain ⟨a, b, c⟩ := g0 p hp
    exact ⟨(hF2.2 _ _ _ (by decide)).trans a, (hF2.2 _ _ _ (by decide)).trans b, (hF2.2 _ _ _ (by decide)).trans c⟩
  · have k1 : vI w48 1051 m = 0 := by rw [e48, vI_u, if_pos ⟨rfl, rfl⟩]
    have k2 : ∀ c a, ¬ c ∈ [1000, 1051] → vI w48 c a = vI w c a := fun c a hc => by
      simp only [List.mem_cons, List.not_mem_nil, or_false, not_or] at hc
      rw [e48, vI_u, if_neg (fun q => hc.2 q.1), hF3.1, hF2.1, e1, vI_u, if_neg (fun q => hc.1 q.1)]
    have k3 : ∀ k a i, ¬ k = 2052 → vA w48 k a i = vA w k a i := fun k a i hk => by
      rw [e48, rA_uI, hF3.2 k a i hk, hF2.2 k a i hk, e1, rA_uI]
    have k4 := hK w48 k1 k2 k3
    refine ⟨fun q => ⟨M 1052, (sm_1052 hM).1, (sm_1052 hM).2, ?_⟩, fun q => ?_⟩
    · unfold wp_X10_at
      have e0 : ((((18 : Int32) * 0) + 0) * 18) + 0 = nI 0 := by decide
      rw [e0]
      refine ⟨vp_in_nI (by omega) (by decide), ?_⟩
      rw [nI_clamp (by omega), e48, rA_uI]
      have h00 := h3 0 (Nat.le_refl _) (Nat.zero_le _) 0 0 (Nat.le_refl _)
      have h00' : vA w3 2052 (M 1052) 0 = nI (pV (pLo a0) (pDr a1 a2) (pLi n a2) n 0 0 0) := h00
      rw [h00', ← e48]
      exact k4
    · have hn0 : n = 0 := (nI_eq (by omega) (by decide)).mp (q.trans nI_0.symm)
      subst hn0
      exact k4
  · have hdn : d = n := by omega
    subst hdn
    rw [Nat.sub_self]
    exact h2 u r (by omega) (by omega) (Or.inl (by omega))
end PM
theorem lw_ok_24 (x m t : Nat) : ok_24 (lw_I x m t) x m t := by
  intro k zc wc zm wm hk hI
  obtain ⟨B, N, M, hS, hM, hV⟩ := id hI
  obtain ⟨hTim, hTap, hRig, hSho, hRoc, hFam, hPit, hLot, hSto, hFor⟩ := id hV
  have hox := sc_x hS
  have hom := sm_m hM
  obtain ⟨F1, n, hn, F2, F3⟩ := hFor
  unfold wc_24 wp_X9_plan
  refine ⟨hox, hox, B 913 0 0, (sc_913 hS).1, (sc_913 hS).2, mb_c (a0 := fun i => vA wm 2048 (M 1048) i) (a1 := fun i => vA wm 2049 (M 1049) i) (a2 := fun i => vA wm 2050 (M 1050) i) hS hn (F1.trans F2) F3 (fun w1 G1 w4 e4 => ⟨hom, plan_m (a0 := fun i => vA wm 2048 (M 1048) i) (a1 := fun i => vA wm 2049 (M 1049) i) (a2 := fun i => vA wm 2050 (M 1050) i) hM hn F2 (fun p hp => ⟨rfl, rfl, rfl⟩) (fun w5 i1 g1 g2 => ⟨by rw [pV_pS], ?_⟩)⟩)⟩
  have f3 : ∀ cs ks : List Nat, (∀ c ∈ cs, ¬ c = 103) → (∀ c ∈ ks, ¬ c = 1104 ∧ ¬ c = 1105) → frW cs ks wc w4 := fun cs ks h1 h2 => ⟨fun c hc a => by
    rw [e4, vI_u, if_neg (fun q => h1 c hc q.1)]
    exact G1.1 c a, fun c hc a i => by
    rw [e4, rA_uI]
    exact G1.2 c a i (h2 c hc).1 (h2 c hc).2⟩
  have g3 : ∀ cs ks : List Nat, (∀ c ∈ cs, ¬ c ∈ [1000, 1051]) → (∀ c ∈ ks, ¬ c = 2052) → frW cs ks wm w5 := fun cs ks h1 h2 => ⟨fun c hc a => g1 c a (h1 c hc), fun c hc a i => g2 c a i (h2 c hc)⟩
  refine ⟨B, N, M, hS, hM, hTim.fr (f3 _ _ (by decide) (by decide)) (g3 _ _ (by decide) (by decide)), hTap.fr (f3 _ _ (by decide) (by decide)) (g3 _ _ (by decide) (by decide)), hRig.fr (f3 _ _ (by decide) (by decide)) (g3 _ _ (by decide) (by decide)), hSho.fr (f3 _ _ (by decide) (by decide)) (g3 _ _ (by decide) (by decide)), hRoc.fr (f3 _ _ (by decide) (by decide)) (g3 _ _ (by decide) (by decide)), (hFam.mono (Nat.le_succ k)).fr (f3 _ _ (by decide) (by decide)) (g3 _ _ (by decide) (by decide)), hPit.fr (f3 _ _ (by decide) (by decide)) (g3 _ _ (by decide) (by decide)), hLot.fr (f3 _ _ (by decide) (by decide)) (g3 _ _ (by decide) (by decide)), hSto.fr (f3 _ _ (by decide) (by decide)) (g3 _ _ (by decide) (by decide)), ?_, 0, by omega, i1.trans nI_0.symm, fun i hi => absurd hi (Nat.not_lt_zero _)⟩
  rw [e4, vI_u, if_pos ⟨rfl, rfl⟩, i1]
