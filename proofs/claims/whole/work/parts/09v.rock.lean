/-! PURE PART: rock; counting and sorting -/
set_option maxHeartbeats 2000000 in
theorem lw_ok_3 (x m t : Nat) : ok_3 (lw_I x m t) x m t := by
  intro k zc wc zm wm hk hI a1 a2 a3
  obtain ⟨B, N, M, hS, hM, hV⟩ := id hI
  obtain ⟨hTim, hTap, hRig, hSho, hRoc, hFam, hPit, hLot, hSto, hFor⟩ := id hV
  have hox := sc_x hS
  have hot := sc_t hS
  have hom := sm_m hM
  unfold wc_3 wp_L_rock
  have hn6 := hS.2.2.1.1
  have e14 := hSho.2.1
  have eS : vI (uI wm 1000 m 0) 1014 m = nI (N 905 0) := by rw [vI_u]; simpa using e14
  rcases inI_cases a1 (N 905 0) (by omega) with h1 | ⟨q, hq, rfl, h1⟩
  · unfold wp_X9_rock wp_X10_rock
    simp [-Prod.forall, -Prod.exists, hox, hot, hom, th0 hom, th1 hom, thr hom, vI_u, rI_uA, rI_uL, rA_uI, rL_uI, rL_uA, rL_u, i10, i11, n10, mF, in9, in10, c0, jx, jx0, jb, jb0, nS0 hS h1, mS hM eS, h1]
    exact lw_keep hI (by repeat' (first | with_reducible refine frW.uI ?_ (by decide) | with_reducible refine frW.uA ?_ (by decide) | with_reducible refine frW.uF ?_ (by decide) | with_reducible refine frW.uL ?_ | exact frW.rfl _ _ _)) (by repeat' (first | with_reducible refine frW.uI ?_ (by decide) | with_reducible refine frW.uA ?_ (by decide) | with_reducible refine frW.uF ?_ (by decide) | with_reducible refine frW.uL ?_ | exact frW.rfl _ _ _))
  have v1 : vp_in (nI q) 6 := vp_in_nI (by omega) (by decide)
  have v2 : (nI q).toNatClampNeg = q := nI_clamp (by omega)
  obtain ⟨c1, c2, c3⟩ := hSho.2.2.1 q hq
  obtain ⟨s1, s2, s3, s4⟩ := hS.2.2.1.2.2.1 q hq
  rcases inI_01 a2 0 9 with h2 | h2
  · unfold wp_X9_rock wp_X10_rock
    simp [-Prod.forall, -Prod.exists, hox, hot, hom, th0 hom, th1 hom, thr hom, vI_u, rI_uA, rI_uL, rA_uI, rL_uI, rL_uA, rL_u, i10, i11, n10, mF, in9, in10, c0, jx, jx0, jb, jb0, nS1 hS hq, s1, mS hM eS, h1, h2]
    exact lw_keep hI (by repeat' (first | with_reducible refine frW.uI ?_ (by decide) | with_reducible refine frW.uA ?_ (by decide) | with_reducible refine frW.uF ?_ (by decide) | with_reducible refine frW.uL ?_ | exact frW.rfl _ _ _)) (by repeat' (first | with_reducible refine frW.uI ?_ (by decide) | with_reducible refine frW.uA ?_ (by decide) | with_reducible refine frW.uF ?_ (by decide) | with_reducible refine frW.uL ?_ | exact frW.rfl _ _ _))
  rcases inI_01 a3 1 1000 with h3 | h3
  · unfold wp_X9_rock wp_X10_rock
    simp [-Prod.forall, -Prod.exists, hox, hot, hom, th0 hom, th1 hom, thr hom, vI_u, rI_uA, rI_uL, rA_uI, rL_uI, rL_uA, rL_u, i10, i11, n10, mF, in9, in10, c0, jx, jx0, jb, jb0, nS1 hS hq, s1, mS hM eS, h1, h2, h3]
    exact lw_keep hI (by repeat' (first | with_reducible refine frW.uI ?_ (by decide) | with_reducible refine frW.uA ?_ (by decide) | with_reducible refine frW.uF ?_ (by decide) | with_reducible refine frW.uL ?_ | exact frW.rfl _ _ _)) (by repeat' (first | with_reducible refine frW.uI ?_ (by decide) | with_reducible refine frW.uA ?_ (by decide) | with_reducible refine frW.uF ?_ (by decide) | with_reducible refine frW.uL ?_ | exact frW.rfl _ _ _))
  by_cases h6 : N 601 q = 4
  · have w1 : nI (N 601 q) = 4 := by rw [h6]; rfl
    have w2 : ¬ (4 : Int32) < 4 := by decide
    have E1 : vI wc 601 (B 1904 q 0) = 4 := c1.trans w1
    have E2 : vA wm 2012 (M 1012) q = 4 := c3.trans w1
    unfold wp_X9_rock wp_X10_rock
    simp [-Prod.forall, -Prod.exists, hox, hot, hom, th0 hom, th1 hom, thr hom, vI_u, rI_uA, rI_uL, rA_uI, rL_uI, rL_uA, rL_u, i10, i11, n10, mF, in9, in10, c0, jx, jx0, jb, jb0, nS1 hS hq, s1, s2, s3, mS hM eS, h1, h2, h3, v1, v2, E1, E2, w2, sm_1012 hM]
    exact lw_keep hI (by repeat' (first | with_reducible refine frW.uI ?_ (by decide) | with_reducible refine frW.uA ?_ (by decide) | with_reducible refine frW.uF ?_ (by decide) | with_reducible refine frW.uL ?_ | exact frW.rfl _ _ _)) (by repeat' (first | with_reducible refine frW.uI ?_ (by decide) | with_reducible refine frW.uA ?_ (by decide) | with_reducible refine frW.uF ?_ (by decide) | with_reducible refine frW.uL ?_ | exact frW.rfl _ _ _))
  · refine ⟨hox, hot, rock_c hS hq h2 h3 c1 (by omega) (fun r z1 w1 hr S1 fz g => ⟨sc_t S1, fun w2 e2 => ⟨hom, ?_⟩⟩)⟩
    have w1' : ¬ nI (N 601 q) = 4 := fun h => h6 ((nI_eq (by omega) (by decide : 4 < 2 ^ 31)).mp h)
    have v3 : (4 : Int32) * nI q + nI (N 601 q) = nI (4 * q + N 601 q) := ix4 _ _
    have v4 : vp_in (nI (4 * q + N 601 q)) 24 := vp_in_nI (by omega) (by decide)
    have v5 : (nI (4 * q + N 601 q)).toNatClampNeg = 4 * q + N 601 q := nI_clamp (by omega)
    unfold wp_X10_rock
    simp [nI_pred, ← nI_succ, -Prod.forall, -Prod.exists, hox, hot, hom, th0 hom, th1 hom, thr hom, vI_u, rI_uA, rI_uL, rA_uI, rL_uI, rL_uA, rL_u, i10, i11, n10, mF, in9, in10, c0, jx, jx0, jb, jb0, mS hM eS, h1, h2, h3, v1, v2, v3, v4, v5, c3, w1', rA_u, sm_1012 hM, sm_1003 hM, sm_1004 hM, sm_1005 hM, sm_1006 hM, sm_1007 hM, sm_1011 hM]
    have hV1 := (hV.up (Nat.le_succ k)).frZ hS fz
    obtain ⟨k1, k2, k3, k4, k5, k6, k7, k8, k9, k10⟩ := hV1
    obtain ⟨g0, g1, g2, g3, g4, g5, g6, g7⟩ := g
    subst e2
    refine ⟨sc_t S1, by simp [rL_u], rkB B q (N 601 q) r, rkN N q (N 601 q), M, S1, hM, k1.fr (by repeat' (first | with_reducible refine frW.uI ?_ (by decide) | with_reducible refine frW.uA ?_ (by decide) | with_reducible refine frW.uF ?_ (by decide) | with_reducible refine frW.uL ?_ | exact frW.rfl _ _ _)) (by repeat' (first | with_reducible refine frW.uI ?_ (by decide) | with_reducible refine frW.uA ?_ (by decide) | with_reducible refine frW.uF ?_ (by decide) | with_reducible refine frW.uL ?_ | exact frW.rfl _ _ _)), k2.fr (by repeat' (first | with_reducible refine frW.uI ?_ (by decide) | with_reducible refine frW.uA ?_ (by decide) | with_reducible refine frW.uF ?_ (by decide) | with_reducible refine frW.uL ?_ | exact frW.rfl _ _ _)) (by repeat' (first | with_reducible refine frW.uI ?_ (by decide) | with_reducible refine frW.uA ?_ (by decide) | with_reducible refine frW.uF ?_ (by decide) | with_reducible refine frW.uL ?_ | exact frW.rfl _ _ _)), k3.fr (by repeat' (first | with_reducible refine frW.uI ?_ (by decide) | with_reducible refine frW.uA ?_ (by decide) | with_reducible refine frW.uF ?_ (by decide) | with_reducible refine frW.uL ?_ | exact frW.rfl _ _ _)) (by repeat' (first | with_reducible refine frW.uI ?_ (by decide) | with_reducible refine frW.uA ?_ (by decide) | with_reducible refine frW.uF ?_ (by decide) | with_reducible refine frW.uL ?_ | exact frW.rfl _ _ _)), ?_, ?_, k6.fr (by repeat' (first | with_reducible refine frW.uI ?_ (by decide) | with_reducible refine frW.uA ?_ (by decide) | with_reducible refine frW.uF ?_ (by decide) | with_reducible refine frW.uL ?_ | exact frW.rfl _ _ _)) (by repeat' (first | with_reducible refine frW.uI ?_ (by decide) | with_reducible refine frW.uA ?_ (by decide) | with_reducible refine frW.uF ?_ (by decide) | with_reducible refine frW.uL ?_ | exact frW.rfl _ _ _)), k7.fr (by repeat' (first | with_reducible refine frW.uI ?_ (by decide) | with_reducible refine frW.uA ?_ (by decide) | with_reducible refine frW.uF ?_ (by decide) | with_reducible refine frW.uL ?_ | exact frW.rfl _ _ _)) (by repeat' (first | with_reducible refine frW.uI ?_ (by decide) | with_reducible refine frW.uA ?_ (by decide) | with_reducible refine frW.uF ?_ (by decide) | with_reducible refine frW.uL ?_ | exact frW.rfl _ _ _)), k8.fr (by repeat' (first | with_reducible refine frW.uI ?_ (by decide) | with_reducible refine frW.uA ?_ (by decide) | with_reducible refine frW.uF ?_ (by decide) | with_reducible refine frW.uL ?_ | exact frW.rfl _ _ _)) (by repeat' (first | with_reducible refine frW.uI ?_ (by decide) | with_reducible refine frW.uA ?_ (by decide) | with_reducible refine frW.uF ?_ (by decide) | with_reducible refine frW.uL ?_ | exact frW.rfl _ _ _)), k9.fr (by repeat' (first | with_reducible refine frW.uI ?_ (by decide) | with_reducible refine frW.uA ?_ (by decide) | with_reducible refine frW.uF ?_ (by decide) | with_reducible refine frW.uL ?_ | exact frW.rfl _ _ _)) (by repeat' (first | with_reducible refine frW.uI ?_ (by decide) | with_reducible refine frW.uA ?_ (by decide) | with_reducible refine frW.uF ?_ (by decide) | with_reducible refine frW.uL ?_ | exact frW.rfl _ _ _)), k10.fr (by repeat' (first | with_reducible refine frW.uI ?_ (by decide) | with_reducible refine frW.uA ?_ (by decide) | with_reducible refine frW.uF ?_ (by decide) | with_reducible refine frW.uL ?_ | exact frW.rfl _ _ _)) (by repeat' (first | with_reducible refine frW.uI ?_ (by decide) | with_reducible refine frW.uA ?_ (by decide) | with_reducible refine frW.uF ?_ (by decide) | with_reducible refine frW.uL ?_ | exact frW.rfl _ _ _))⟩
    · refine ⟨by simpa [rI_uL, vI_u, rkN] using k4.1, by simpa [rI_uA, vI_u, rkN] using k4.2.1, fun j hj => ?_, fun j hj hn => ?_⟩
      · have hj : j < N 905 0 := hj
        obtain ⟨b1, b2, b3⟩ := k4.2.2.1 j hj
        have hij := hS.2.2.1.2.2.2.1 j q hj hq
        by_cases hh : j = q
        · subst hh
          refine ⟨?_, ?_, ?_⟩
          · simp [rI_uL, vI_u, rkN, rkB]
          · simpa [rI_uL, vI_u, rA_u, rA_uI, rkB] using b2
          · simp [rA_u, rA_uI, rkN]
        · have h9 : ¬ B 1904 j 0 = B 1904 q 0 := fun h => hh (hij.mp h)
          refine ⟨?_, ?_, ?_⟩
          · simpa [rI_uL, vI_u, rkN, rkB, h9, hh] using b1
          · simpa [rI_uL, vI_u, rA_u, rA_uI, rkB] using b2
          · simpa [rA_u, rA_uI, rkN, hh] using b3
      · have hn : N 905 0 ≤ j := hn
        have hh : ¬ j = q := by omega
        simpa [rA_u, rA_uI, hh] using hSho.2.2.2 j hj hn
    · refine ⟨fun j p hj hp => ?_, fun j p hj hp hn => ?_⟩
      · have hj : j < N 905 0 := hj
        have h4j := (hS.2.2.1.2.2.1 j hj).2.2.2
        by_cases hh : j = q ∧ p = N 601 q
        · obtain ⟨rfl, rfl⟩ := hh
          have b1 : rkB B j (N 601 j) r 1600 j (N 601 j) = r := by simp [rkB]
          obtain ⟨z1', z2'⟩ := hRoc.2 j (N 601 j) (by omega) (by omega) (fun h => absurd h.2 (Nat.lt_irrefl _))
          rw [b1]
          refine ⟨?_, ?_, ?_, ?_, ?_, ?_, ?_, ?_, Or.inr ?_, Or.inl ?_⟩ <;> simp [rI_uL, vI_u, rA_u, rA_uI, g0, g1, g2, g3, g4, g5, g6, g7, z1', z2']
        · have hp2 : p < N 601 j := by
            by_cases h3 : j = q
            · simp [rkN, h3] at hp
              subst h3
              have : ¬ p = N 601 j := fun h => hh ⟨rfl, h⟩
              omega
            · simpa [rkN, h3] using hp
          have b1 : rkB B q (N 601 q) r 1600 j p = B 1600 j p := by simp [rkB, hh]
          have h9 : ¬ 4 * j + p = 4 * q + N 601 q := by omega
          obtain ⟨l0, l1, l2, l3, l4, l5, l6, l7, l8, l9⟩ := k5.1 j p hj hp2
          rw [b1]
          refine ⟨?_, ?_, ?_, ?_, ?_, ?_, ?_, ?_, ?_, ?_⟩
          all_goals simp [rI_uL, vI_u, rA_u, rA_uI, h9, l0, l1, l2, l3, l4, l5, l6, l7]
          · exact l8
          · exact l9
      · have hn2 : ¬ (j < N 905 0 ∧ p < N 601 j) := fun h => hn ⟨h.1, by
          by_cases h3 : j = q
          · subst h3
            simp [rkN]
            omega
          · simpa [rkN, h3] using h.2⟩
        simpa [rA_u, rA_uI] using hRoc.2 j p hj hp hn2
theorem i_three (a b : Int32) : a < b ∨ a = b ∨ b < a := by
  rw [Int32.lt_iff_toInt_lt, Int32.lt_iff_toInt_lt, ← Int32.toInt_inj]
  omega
def cLt (f : Nat → Int32) (v : Int32) : Nat → Nat
  | 0 => 0
  | n + 1 => cLt f v n + (if f n < v then 1 else 0)
def cLe (f : Nat → Int32) (v : Int32) : Nat → Nat
  | 0 => 0
  | n + 1 => cLe f v n + (if f n ≤ v then 1 else 0)
theorem cLt_le_cLe {f : Nat → Int32} {v u : Int32} (h : v < u) : ∀ n, cLe f v n ≤ cLt f u n := by
  intro n
  induction n with
  | zero => exact Nat.le_refl 0
  | succ n ih =>
    simp only [cLe, cLt]
    by_cases h1 : f n ≤ v
    · have h2 : f n < u := by
        rw [Int32.lt_iff_toInt_lt] at *
        rw [Int32.le_iff_toInt_le] at h1
        omega
      rw [if_pos h1, if_pos h2]
      omega
    · rw [if_neg h1]
      omega
def kth (f : Nat → Int32) (n k : Nat) (v : Int32) : Prop := cLt f v n ≤ k ∧ k < cLe f v n
theorem kth_uniq {f : Nat → Int32} {n k : Nat} {v u : Int32} (h : kth f n k v) (h2 : kth f n k u) : v = u := by
  rcases i_three v u with g | g | g
  · have := cLt_le_cLe (f := f) g n
    have := h.2
    have := h2.1
    omega
  · exact g
  · have := cLt_le_cLe (f := f) g n
    have := h2.2
    have := h.1
    omega
theorem cLt_congr {f g : Nat → Int32} {v : Int32} : ∀ n, (∀ i, i < n → f i = g i) → cLt f v n = cLt g v n := by
  intro n
  induction n with
  | zero => intro _; rfl
  | succ n ih => intro h; simp only [cLt]; rw [ih (fun i hi => h i (by omega)), h n (by omega)]
theorem cLe_congr {f g : Nat → Int32} {v : Int32} : ∀ n, (∀ i, i < n → f i = g i) → cLe f v n = cLe g v n := by
  intro n
  induction n with
  | zero => intro _; rfl
  | succ n ih => intro h; simp only [cLe]; rw [ih (fun i hi => h i (by omega)), h n (by omega)]
/-- smaller of two neighbours first -/
def exch (f : Nat → Int32) (i : Nat) : Nat → Int32 := fun j => if j = i then (if f (i + 1) < f i then f (i + 1) else f i) else if j = i + 1 then (if f i < f (i + 1) then f (i + 1) else f i) else f j
theorem exch_cLt {f : Nat → Int32} {v : Int32} {i : Nat} : ∀ n, i + 1 < n → cLt (exch f i) v n = cLt f v n := by
  intro n
  induction n with
  | zero => intro h; omega
  | succ n ih =>
    intro h
    by_cases hn : n = i + 1
    · subst hn
      simp only [cLt]
      have e0 : cLt (exch f i) v i = cLt f v i := cLt_congr i (fun j hj => by simp [exch, show ¬ j = i by omega, show ¬ j = i + 1 by omega])
      rw [e0]
      simp only [exch, if_true, show ¬ i + 1 = i by omega, if_false]
      rcases i_three (f i) (f (i + 1)) with g | g | g
      · have g2 : ¬ f (i + 1) < f i := by rw [Int32.lt_iff_toInt_lt] at *; omega
        simp [g, g2]
      · rw [g]; simp
      · have g2 : ¬ f i < f (i + 1) := by rw [Int32.lt_iff_toInt_lt] at *; omega
        simp [g, g2]
        omega
    · simp only [cLt]
      rw [ih (by omega)]
      simp [exch, show ¬ n = i by omega, hn]
theorem exch_cLe {f : Nat → Int32} {v : Int32} {i : Nat} : ∀ n, i + 1 < n → cLe (exch f i) v n = cLe f v n := by
  intro n
  induction n with
  | zero => intro h; omega
  | succ n ih =>
    intro h
    by_cases hn : n = i + 1
    · subst hn
      simp only [cLe]
      have e0 : cLe (exch f i) v i = cLe f v i := cLe_congr i (fun j hj => by simp [exch, show ¬ j = i by omega, show ¬ j = i + 1 by omega])
      rw [e0]
      simp only [exch, if_true, show ¬ i + 1 = i by omega, if_false]
      rcases i_three (f i) (f (i + 1)) with g | g | g
      · have g2 : ¬ f (i + 1) < f i := by rw [Int32.lt_iff_toInt_lt] at *; omega
        simp [g, g2]
      · rw [g]; simp
      · have g2 : ¬ f i < f (i + 1) := by rw [Int32.lt_iff_toInt_lt] at *; omega
        simp [g, g2]
        omega
    · simp only [cLe]
      rw [ih (by omega)]
      simp [exch, show ¬ n = i by omega, hn]
/-- the last p are where they belong -/
def tailOk (f : Nat → Int32) (n p : Nat) : Prop := ∀ i, i < n → n - p ≤ i → ∀ j, j < i → f j ≤ f i
def headMax (f : Nat → Int32) (k : Nat) : Prop := ∀ j, j < k → f j ≤ f k
theorem exch_same {f : Nat → Int32} {i : Nat} (h : f i ≤ f (i + 1)) : exch f i = f := by
  funext j
  unfold exch
  have g2 : ¬ f (i + 1) < f i := Int32.not_lt.mpr h
  by_cases h1 : j = i
  · simp [h1, g2]
  · by_cases h2 : j = i + 1
    · simp only [h2, show ¬ i + 1 = i by omega, if_false, if_true]
      by_cases h3 : f i < f (i + 1)
      · simp [h3]
      · simp only [h3, if_false]
        exact Int32.le_antisymm h (Int32.not_lt.mp h3)
    · simp [h1, h2]
/-- one step of a round: p rounds are done, k neighbours compared -/
def midOk (f : Nat → Int32) (n p k : Nat) : Prop := tailOk f n p ∧ (if k < n - p - 1 then headMax f k else tailOk f n (p + 1))
theorem exch_mid {f : Nat → Int32} {n p k : Nat} (hp : p + 1 < n) (hk : k + 1 < n) (h : midOk f n p k) : midOk (exch f k) n p (k + 1) := by
  obtain ⟨h1, h2⟩ := h
  by_cases hc : k < n - p - 1
  · rw [if_pos hc] at h2
    have emax : ∀ a b : Int32, a ≤ (if b < a then a else b) ∧ b ≤ (if b < a then a else b) := fun a b => by
      by_cases g : b < a
      · simp [g]; rw [Int32.le_iff_toInt_le]; rw [Int32.lt_iff_toInt_lt] at g; omega
      · simp [g]; exact Int32.not_lt.mp g
    have ht : tailOk (exch f k) n p := by
      intro i hi hip j hj
      have hik : ¬ i = k := by omega
      by_cases hik1 : i = k + 1
      · omega
      · have ei : exch f k i = f i := by simp [exch, hik, hik1]
        rw [ei]
        by_cases hjk : j = k
        · subst hjk
          simp only [exch, if_true]
          split
          · exact h1 i hi hip (j + 1) (by omega)
          · exact h1 i hi hip j hj
        · by_cases hjk1 : j = k + 1
          · subst hjk1
            simp only [exch, show ¬ k + 1 = k by omega, if_false, if_true]
            split
            · exact h1 i hi hip (k + 1) hj
            · exact h1 i hi hip k (by omega)
          · simp only [exch, hjk, hjk1, if_false]
            exact h1 i hi hip j hj
    have hm : headMax (exch f k) (k + 1) := by
      intro j hj
      have e1 : exch f k (k + 1) = if f k < f (k + 1) then f (k + 1) else f k := by simp [exch, show ¬ k + 1 = k by omega]
      rw [e1]
      obtain ⟨m1, m2⟩ := emax (f (k + 1)) (f k)
      by_cases hjk : j = k
      · subst hjk
        simp only [exch, if_true]
        split
        · exact m1
        · exact m2
      · simp only [exch, hjk, show ¬ j = k + 1 by omega, if_false]
        have h3 := h2 j (by omega)
        rw [Int32.le_iff_toInt_le] at *
        omega
    refine ⟨ht, ?_⟩
    by_cases hc2 : k + 1 < n - p - 1
    · rw [if_pos hc2]
      exact hm
    · rw [if_neg hc2]
      intro i hi hip j hj
      by_cases he : i = k + 1
      · subst he
        exact hm j hj
      · exact ht i hi (by omega) j hj
  · rw [if_neg hc] at h2
    have h3 : f k ≤ f (k + 1) := h2 (k + 1) hk (by omega) k (by omega)
    rw [exch_same h3]
    refine ⟨h1, ?_⟩
    rw [if_neg (by omega)]
    exact h2
theorem sorted_kth {f : Nat → Int32} {n : Nat} (h : tailOk f n (n - 1)) : ∀ k, k < n → kth f n k (f k) := by
  intro k hk
  have hs : ∀ i j, j < i → i < n → f j ≤ f i := fun i j hj hi => h i hi (by omega) j hj
  have a1 : ∀ m, m ≤ n → cLt f (f k) m ≤ (if m ≤ k then m else k) := by
    intro m
    induction m with
    | zero => intro _; simp [cLt]
    | succ m ih =>
      intro hm
      have := ih (by omega)
      simp only [cLt]
      by_cases h1 : m < k
      · rw [if_pos (show m ≤ k by omega)] at this
        rw [if_pos (show m + 1 ≤ k by omega)]
        split <;> omega
      · have h2 : ¬ f m < f k := by
          rcases Nat.lt_or_ge k m with q | q
          · exact Int32.not_lt.mpr (hs m k q (by omega))
          · have : m = k := by omega
            rw [this]
            exact fun h => Int32.lt_irrefl h
        rw [if_neg h2]
        rw [if_neg (show ¬ m + 1 ≤ k by omega)]
        by_cases h3 : m ≤ k
        · rw [if_pos h3] at this; omega
        · rw [if_neg h3] at this; omega
  have a2 : ∀ m, m ≤ n → (if m ≤ k + 1 then m else k + 1) ≤ cLe f (f k) m := by
    intro m
    induction m with
    | zero => intro _; simp [cLe]
    | succ m ih =>
      intro hm
      have := ih (by omega)
      simp only [cLe]
      by_cases h1 : m ≤ k
      · have h2 : f m ≤ f k := by
          rcases Nat.lt_or_ge m k with q | q
          · exact hs k m q hk
          · have : m = k := by omega
            rw [this]
            exact Int32.le_refl _
        rw [if_pos h2]
        rw [if_pos (show m ≤ k + 1 by omega)] at this
        rw [if_pos (show m + 1 ≤ k + 1 by omega)]
        omega
      · rw [if_neg (show ¬ m + 1 ≤ k + 1 by omega)]
        by_cases h3 : m ≤ k + 1
        · rw [if_pos h3] at this; omega
        · rw [if_neg h3] at this; omega
  have b1 := a1 n (Nat.le_refl n)
  have b2 := a2 n (Nat.le_refl n)
  rw [if_neg (by omega)] at b1
  refine ⟨b1, ?_⟩
  by_cases h3 : n ≤ k + 1
  · rw [if_pos h3] at b2; omega
  · rw [if_neg h3] at b2; omega
