/-! PURE PART: the first right; may, balance -/
def fstP (P : Nat → Bool) : Nat → Nat → Int32
  | _, 0 => -1
  | i, d + 1 => if P i = true then nI i else fstP P (i + 1) d
theorem fstP_cases (P : Nat → Bool) : ∀ d i, fstP P i d = -1 ∨ ∃ j, i ≤ j ∧ j < i + d ∧ P j = true ∧ fstP P i d = nI j := by
  intro d
  induction d with
  | zero => intro i; exact Or.inl rfl
  | succ d ih =>
    intro i
    rw [fstP]
    by_cases h : P i = true
    · rw [if_pos h]
      exact Or.inr ⟨i, Nat.le_refl i, by omega, h, rfl⟩
    · rw [if_neg h]
      rcases ih (i + 1) with h1 | ⟨j, h1, h2, h3, h4⟩
      · exact Or.inl h1
      · exact Or.inr ⟨j, by omega, by omega, h3, h4⟩
theorem fstP_congr {P Q : Nat → Bool} : ∀ d i, (∀ j, i ≤ j → j < i + d → P j = Q j) → fstP P i d = fstP Q i d := by
  intro d
  induction d with
  | zero => intro i _; rfl
  | succ d ih =>
    intro i h
    rw [fstP, fstP, h i (Nat.le_refl i) (by omega), ih (i + 1) (fun j h1 h2 => h j (by omega) (by omega))]
def hitR (a b c e : Nat → Int32) (s f y : Int32) (i : Nat) : Bool := decide (a i = s) && decide (b i = f) && decide (inI y (c i) (e i) = 1)
def hitC (B : Nat → Nat → Nat → Nat) (w : Vt) (s f y : Int32) : Nat → Bool := hitR (vA w 1400 (B 400 0 0)) (vA w 1401 (B 401 0 0)) (vA w 1402 (B 402 0 0)) (vA w 1403 (B 403 0 0)) s f y
def hitM (M : Nat → Nat) (w : Vt) (s f y : Int32) : Nat → Bool := hitR (fun i => vA w 2027 (M 1027) (5 * i)) (fun i => vA w 2027 (M 1027) (5 * i + 1)) (fun i => vA w 2027 (M 1027) (5 * i + 2)) (fun i => vA w 2027 (M 1027) (5 * i + 3)) s f y
theorem fp_c {z : Zt} {x t n : Nat} {B : Nat → Nat → Nat → Nat} {N : Nat → Nat → Nat} {w : Vt} {s f y : Int32} {K : Int32 → Vt → Prop} (hS : SC z x t B N) (hn : n ≤ 14) (e : vI w 405 (B 901 0 0) = nI n) (hK0 : K (fstP (hitC B w s f y) 0 n) w) : wp_X4_firstPart z (B 901 0 0) s f y w K := by
  have key : ∀ d i, i + d = n → K (fstP (hitC B w s f y) i d) w → wL_X4_firstPart_3 z (B 901 0 0) K (fun _ _ _ _ w => K (-1) w) (d + 1) (nI i) s f y w := by
    intro d
    induction d with
    | zero =>
      intro i hi hK
      rw [wL_X4_firstPart_3, e]
      have : i = n := by omega
      subst this
      exact ⟨fun _ => hK, fun h => absurd (nI_le (Nat.le_refl i) (by omega)) h⟩
    | succ d ih =>
      intro i hi hK
      have v1 : vp_in (nI i) 15 := vp_in_nI (by omega) (by decide)
      have v2 : (nI i).toNatClampNeg = i := nI_clamp (by omega)
      rw [wL_X4_firstPart_3, e]
      refine ⟨fun h => absurd h (nI_ge (by omega) (by omega)), fun _ => ⟨fun h => absurd h (nI_ge (b := 15) (by omega) (by decide)), fun _ => ?_⟩⟩
      refine ⟨B 400 0 0, (sc_400 hS).1, (sc_400 hS).2, v1, ?_⟩
      rw [v2]
      rw [fstP] at hK
      have nx : ¬ hitC B w s f y i = true → ∀ x1 : Int32, x1 = nI i + 1 → wL_X4_firstPart_3 z (B 901 0 0) K (fun _ _ _ _ w => K (-1) w) (d + 1) x1 s f y w := by
        intro h x1 e1
        rw [if_neg h] at hK
        rw [e1, nI_1]
        exact ih (i + 1) (by omega) hK
      refine ⟨fun h => nx (by simp [hitC, hitR, h]), fun h1 => ⟨B 401 0 0, (sc_401 hS).1, (sc_401 hS).2, v1, fun h => nx (by simp [hitC, hitR, h]), fun h2 => ⟨B 402 0 0, (sc_402 hS).1, (sc_402 hS).2, v1, B 403 0 0, (sc_403 hS).1, (sc_403 hS).2, v1, ?_⟩⟩⟩
      rw [in9]
      rcases inI_01 y (vA w 1402 (B 402 0 0) i) (vA w 1403 (B 403 0 0) i) with h3 | h3
      · exact ⟨fun _ => nx (by simp [hitC, hitR, h3]), fun h => absurd h3 h⟩
      · refine ⟨fun h => absurd (h3.symm.trans h) (by decide), fun _ => ?_⟩
        rw [if_pos (by simp [hitC, hitR, h1, h2, h3])] at hK
        exact hK
  exact ⟨(sc_901 hS).2, n + 1, key n 0 (by omega) hK0⟩
theorem fp_m {z : Zt} {m n : Nat} {M : Nat → Nat} {w : Vt} {s f y : Int32} {K : Int32 → Vt → Prop} (hM : SM z m M) (hn : n ≤ 14) (e : vI w 1029 m = nI n) (hK0 : K (fstP (hitM M w s f y) 0 n) w) : wp_X10_right z m s f y w K := by
  have key : ∀ d i, i + d = n → K (fstP (hitM M w s f y) i d) w → wL_X10_right_3 z m K (fun _ _ _ _ w => K (-1) w) (d + 1) (nI i) s f y w := by
    intro d
    induction d with
    | zero =>
      intro i hi hK
      rw [wL_X10_right_3, e]
      have : i = n := by omega
      subst this
      exact ⟨fun _ => hK, fun h => absurd (nI_le (Nat.le_refl i) (by omega)) h⟩
    | succ d ih =>
      intro i hi hK
      have u0 : (5 : Int32) * nI i = nI (5 * i) := pk_mul 5 i
      have u1 : nI (5 * i) + 1 = nI (5 * i + 1) := nI_add _ 1
      have u2 : nI (5 * i) + 2 = nI (5 * i + 2) := nI_add _ 2
      have u3 : nI (5 * i) + 3 = nI (5 * i + 3) := nI_add _ 3
      have c0 : (nI (5 * i)).toNatClampNeg = 5 * i := nI_clamp (by omega)
      have c1 : (nI (5 * i + 1)).toNatClampNeg = 5 * i + 1 := nI_clamp (by omega)
      have c2 : (nI (5 * i + 2)).toNatClampNeg = 5 * i + 2 := nI_clamp (by omega)
      have c3 : (nI (5 * i + 3)).toNatClampNeg = 5 * i + 3 := nI_clamp (by omega)
      rw [wL_X10_right_3, e]
      refine ⟨fun h => absurd h (nI_ge (by omega) (by omega)), fun _ => ⟨M 1027, (sm_1027 hM).1, (sm_1027 hM).2, ?_⟩⟩
      rw [u0, u1, u2, u3, c0, c1, c2, c3]
      rw [fstP] at hK
      have nx : ¬ hitM M w s f y i = true → ∀ x1 : Int32, x1 = nI i + 1 → wL_X10_right_3 z m K (fun _ _ _ _ w => K (-1) w) (d + 1) x1 s f y w := by
        intro h x1 e1
        rw [if_neg h] at hK
        rw [e1, nI_1]
        exact ih (i + 1) (by omega) hK
      refine ⟨vp_in_nI (by omega) (by decide), fun h => nx (by simp [hitM, hitR, h]), fun h1 => ⟨vp_in_nI (by omega) (by decide), fun h => nx (by simp [hitM, hitR, h]), fun h2 => ⟨vp_in_nI (by omega) (by decide), vp_in_nI (by omega) (by decide), ?_⟩⟩⟩
      rw [in10]
      rcases inI_01 y (vA w 2027 (M 1027) (5 * i + 2)) (vA w 2027 (M 1027) (5 * i + 3)) with h3 | h3
      · exact ⟨fun _ => nx (by simp [hitM, hitR, h3]), fun h => absurd h3 h⟩
      · refine ⟨fun h => absurd (h3.symm.trans h) (by decide), fun _ => ?_⟩
        rw [if_pos (by simp [hitM, hitR, h1, h2, h3])] at hK
        exact hK
  exact ⟨sm_m hM, n + 1, key n 0 (by omega) hK0⟩
theorem fp_same {m n : Nat} {B : Nat → Nat → Nat → Nat} {M : Nat → Nat} {wc wm : Vt} {s f y : Int32} (h : ∀ i, i < n → vA wc 1400 (B 400 0 0) i = vA wm 2027 (M 1027) (5 * i) ∧ vA wc 1401 (B 401 0 0) i = vA wm 2027 (M 1027) (5 * i + 1) ∧ vA wc 1402 (B 402 0 0) i = vA wm 2027 (M 1027) (5 * i + 2) ∧ vA wc 1403 (B 403 0 0) i = vA wm 2027 (M 1027) (5 * i + 3) ∧ vA wc 1404 (B 404 0 0) i = vA wm 2027 (M 1027) (5 * i + 4)) : fstP (hitC B wc s f y) 0 n = fstP (hitM M wm s f y) 0 n := by
  refine fstP_congr n 0 (fun j _ hj => ?_)
  obtain ⟨e1, e2, e3, e4, -⟩ := h j (by omega)
  simp [hitC, hitM, hitR, e1, e2, e3, e4]
set_option maxHeartbeats 2000000 in
theorem lw_ok_7 (x m t : Nat) : ok_7 (lw_I x m t) x m t := by
  intro k zc wc zm wm hk hI a1 a2 a3
  obtain ⟨B, N, M, hS, hM, hV⟩ := id hI
  obtain ⟨hTim, hTap, hRig, hSho, hRoc, hFam, hPit, hLot, hSto, hFor⟩ := id hV
  have hox := sc_x hS
  have hot := sc_t hS
  have hom := sm_m hM
  unfold wc_7 wp_L_may wp_X9_may wp_X10_may
  obtain ⟨R1, R2, n, hn, R3, R4⟩ := hRig
  have hn6 := hS.2.2.1.1
  have e14 := hSho.2.1
  have eS : vI (uI wm 1000 m 0) 1014 m = nI (N 905 0) := by rw [vI_u]; simpa using e14
  rcases inI_cases a1 (N 905 0) (by omega) with h1 | ⟨q, hq, rfl, h1⟩
  · simp [-Prod.forall, -Prod.exists, hox, hot, hom, th0 hom, th1 hom, thr hom, vI_u, rI_uA, rI_uL, rA_uI, rL_uI, rL_uA, rL_u, i10, i11, n10, mF, in9, in10, c0, jx, jx0, jb, jb0, nS0 hS h1, mS hM eS, h1]
    exact lw_keep hI (by repeat' (first | with_reducible refine frW.uI ?_ (by decide) | with_reducible refine frW.uA ?_ (by decide) | with_reducible refine frW.uF ?_ (by decide) | with_reducible refine frW.uL ?_ | exact frW.rfl _ _ _)) (by repeat' (first | with_reducible refine frW.uI ?_ (by decide) | with_reducible refine frW.uA ?_ (by decide) | with_reducible refine frW.uF ?_ (by decide) | with_reducible refine frW.uL ?_ | exact frW.rfl _ _ _))
  · have s1 := (hS.2.2.1.2.2.1 q hq).1
    rcases inI_cases a2 8 (by decide) with h2 | ⟨i, hi, rfl, h2⟩ <;> rw [i8_eq] at h2
    · simp [-Prod.forall, -Prod.exists, hox, hot, hom, th0 hom, th1 hom, thr hom, vI_u, rI_uA, rI_uL, rA_uI, rL_uI, rL_uA, rL_u, i10, i11, n10, mF, in9, in10, c0, jx, jx0, jb, jb0, nS1 hS hq, nF0 hS h2, s1, mS hM eS, h1, h2]
      exact lw_keep hI (by repeat' (first | with_reducible refine frW.uI ?_ (by decide) | with_reducible refine frW.uA ?_ (by decide) | with_reducible refine frW.uF ?_ (by decide) | with_reducible refine frW.uL ?_ | exact frW.rfl _ _ _)) (by repeat' (first | with_reducible refine frW.uI ?_ (by decide) | with_reducible refine frW.uA ?_ (by decide) | with_reducible refine frW.uF ?_ (by decide) | with_reducible refine frW.uL ?_ | exact frW.rfl _ _ _))
    · have f1 := (hS.2.1.1 i hi).2.1
      refine ⟨hox, hot, hox, (nS1 hS hq).mpr ⟨s1, (nF1 hS hi).mpr ⟨f1, B 901 0 0, (sc_901 hS).1, (sc_901 hS).2, fp_c hS hn (R2.trans R3) ?_⟩⟩⟩
      rw [fp_same (m := m) R4]
      have e29 : vI (uI wm 1000 m 0) 1029 m = nI n := by rw [vI_u]; simpa using R3
      rcases fstP_cases (hitM M wm (nI q) (nI i) a3) n 0 with g | ⟨j, -, hj, -, g⟩
      · simp [-Prod.forall, -Prod.exists, hox, hot, hom, th0 hom, th1 hom, thr hom, vI_u, rI_uA, rI_uL, rA_uI, rL_uI, rL_uA, rL_u, i10, i11, n10, mF, in9, in10, c0, jx, jx0, jb, jb0, g, h1, h2, mS hM eS]
        refine fp_m hM hn e29 ?_
        rw [show hitM M (uI wm 1000 m 0) = hitM M wm from rfl, g]
        simp [-Prod.forall, -Prod.exists, hox, hot, hom, th0 hom, th1 hom, thr hom, vI_u, rI_uA, rI_uL, rA_uI, rL_uI, rL_uA, rL_u, i10, i11, n10, mF, in9, in10, c0, jx, jx0, jb, jb0, g]
        exact lw_keep hI (by repeat' (first | with_reducible refine frW.uI ?_ (by decide) | with_reducible refine frW.uA ?_ (by decide) | with_reducible refine frW.uF ?_ (by decide) | with_reducible refine frW.uL ?_ | exact frW.rfl _ _ _)) (by repeat' (first | with_reducible refine frW.uI ?_ (by decide) | with_reducible refine frW.uA ?_ (by decide) | with_reducible refine frW.uF ?_ (by decide) | with_reducible refine frW.uL ?_ | exact frW.rfl _ _ _))
      · have g1 : ¬ nI j = -1 := fun h => absurd (h ▸ nI_pos (n := j) (by omega)) (by decide)
        have g2 : ¬ nI j < 0 := nI_pos (by omega)
        have g2b : 0 ≤ nI j := nI_pos' (by omega)
        simp [-Prod.forall, -Prod.exists, hox, hot, hom, th0 hom, th1 hom, thr hom, vI_u, rI_uA, rI_uL, rA_uI, rL_uI, rL_uA, rL_u, i10, i11, n10, mF, in9, in10, c0, jx, jx0, jb, jb0, g, g1, g2, g2b, h1, h2, mS hM eS]
        refine fp_m hM hn e29 ?_
        rw [show hitM M (uI wm 1000 m 0) = hitM M wm from rfl, g]
        simp [-Prod.forall, -Prod.exists, hox, hot, hom, th0 hom, th1 hom, thr hom, vI_u, rI_uA, rI_uL, rA_uI, rL_uI, rL_uA, rL_u, i10, i11, n10, mF, in9, in10, c0, jx, jx0, jb, jb0, g, g1, g2, g2b]
        exact lw_keep hI (by repeat' (first | with_reducible refine frW.uI ?_ (by decide) | with_reducible refine frW.uA ?_ (by decide) | with_reducible refine frW.uF ?_ (by decide) | with_reducible refine frW.uL ?_ | exact frW.rfl _ _ _)) (by repeat' (first | with_reducible refine frW.uI ?_ (by decide) | with_reducible refine frW.uA ?_ (by decide) | with_reducible refine frW.uF ?_ (by decide) | with_reducible refine frW.uL ?_ | exact frW.rfl _ _ _))
def knB (told back known : Int32) : Bool := if known < told then false else if back = -1 then true else if back ≤ known then false else true
def sumB (P : Nat → Bool) (f : Nat → Int32) : Nat → Nat → Int32 → Int32
  | _, 0, a => a
  | i, d + 1, a => sumB P f (i + 1) d (if P i = true then a + f i else a)
theorem sumB_congr {P Q : Nat → Bool} {f g : Nat → Int32} : ∀ d i a, (∀ j, i ≤ j → j < i + d → P j = Q j ∧ f j = g j) → sumB P f i d a = sumB Q g i d a := by
  intro d
  induction d with
  | zero => intro i a _; rfl
  | succ d ih =>
    intro i a h
    rw [sumB, sumB, (h i (Nat.le_refl i) (by omega)).1, (h i (Nat.le_refl i) (by omega)).2, ih (i + 1) _ (fun j h1 h2 => h j (by omega) (by omega))]
theorem wk_c {z : Zt} {x t n i : Nat} {B : Nat → Nat → Nat → Nat} {N : Nat → Nat → Nat} {w : Vt} {y : Int32} {K : Int32 → Vt → Prop} (hS : SC z x t B N) (hn : n ≤ 200) (hi : i < n) (e : vI w 705 (B 912 0 0) = nI n) : wp_X7_wasKnown z (B 912 0 0) (nI i) y w K ↔ K (if knB (vA w 1703 (B 703 0 0) i) (vA w 1704 (B 704 0 0) i) y = true then 1 else 0) w := by
  have v1 : vp_in (nI i) 200 := vp_in_nI (by omega) (by decide)
  have v2 : (nI i).toNatClampNeg = i := nI_clamp (by omega)
  have v3 : ¬ nI i < 0 := nI_pos (by omega)
  have v4 : ¬ nI n ≤ nI i := nI_ge hi (by omega)
  have v4b : nI i < nI n := nI_lt hi (by omega)
  have v5 : ¬ 200 ≤ nI i := nI_ge (b := 200) (by omega) (by decide)
  have v5b : nI i < 200 := nI_lt (b := 200) (by omega) (by decide)
  unfold wp_X7_wasKnown wp_X7_hasEntry knB
  by_cases h1 : y < vA w 1703 (B 703 0 0) i
  · simp [-Prod.forall, -Prod.exists, sc_912 hS, sc_703 hS, sc_704 hS, e, v1, v2, v3, v4, v4b, v5, v5b, n10, h1, Int32.not_le.mpr h1]
  · have h1b := Int32.not_lt.mp h1
    by_cases h2 : vA w 1704 (B 704 0 0) i = -1
    · simp [-Prod.forall, -Prod.exists, sc_912 hS, sc_703 hS, sc_704 hS, e, v1, v2, v3, v4, v4b, v5, v5b, n10, h1, h1b, h2]
    · by_cases h3 : vA w 1704 (B 704 0 0) i ≤ y
      · have h3b := Int32.not_lt.mpr h3
        simp [-Prod.forall, -Prod.exists, sc_912 hS, sc_703 hS, sc_704 hS, e, v1, v2, v3, v4, v4b, v5, v5b, n10, h1, h1b, h2, h3, h3b]
      · have h3b := Int32.not_le.mp h3
        simp [-Prod.forall, -Prod.exists, sc_912 hS, sc_703 hS, sc_704 hS, e, v1, v2, v3, v4, v4b, v5, v5b, n10, h1, h1b, h2, h3, h3b]
def balP (fam day told back : Nat → Int32) (f d y : Int32) (i : Nat) : Bool := decide (fam i = f) && decide (day i ≤ d) && knB (told i) (back i) y
theorem sk_c {z : Zt} {x t n : Nat} {B : Nat → Nat → Nat → Nat} {N : Nat → Nat → Nat} {w : Vt} {f d y : Int32} {K : Int32 → Vt → Prop} (hS : SC z x t B N) (hn : n ≤ 200) (e : vI w 705 (B 912 0 0) = nI n) (hK0 : K (sumB (balP (vA w 1700 (B 700 0 0)) (vA w 1702 (B 702 0 0)) (vA w 1703 (B 703 0 0)) (vA w 1704 (B 704 0 0)) f d y) (vA w 1701 (B 701 0 0)) 0 n 0) w) : wp_X7_sumKnown z (B 912 0 0) f d y w K := by
  have key : ∀ q i a, i + q = n → K (sumB (balP (vA w 1700 (B 700 0 0)) (vA w 1702 (B 702 0 0)) (vA w 1703 (B 703 0 0)) (vA w 1704 (B 704 0 0)) f d y) (vA w 1701 (B 701 0 0)) i q a) w → wL_X7_sumKnown_6 z (B 912 0 0) K (fun _ r _ _ _ w => K r w) (q + 1) (nI i) a f d y w := by
    intro q
    induction q with
    | zero =>
      intro i a hi hK
      rw [wL_X7_sumKnown_6, e]
      have : i = n := by omega
      subst this
      exact ⟨fun _ => hK, fun h => absurd (nI_le (Nat.le_refl i) (by omega)) h⟩
    | succ q ih =>
      intro i a hi hK
      have v1 : vp_in (nI i) 200 := vp_in_nI (by omega) (by decide)
      have v2 : (nI i).toNatClampNeg = i := nI_clamp (by omega)
      rw [wL_X7_sumKnown_6, e]
      refine ⟨fun h => absurd h (nI_ge (by omega) (by omega)), fun _ => ⟨fun h => absurd h (nI_ge (b := 200) (by omega) (by decide)), fun _ => ⟨B 700 0 0, (sc_700 hS).1, (sc_700 hS).2, v1, ?_⟩⟩⟩
      rw [v2]
      rw [sumB] at hK
      have nx : ¬ balP (vA w 1700 (B 700 0 0)) (vA w 1702 (B 702 0 0)) (vA w 1703 (B 703 0 0)) (vA w 1704 (B 704 0 0)) f d y i = true → ∀ x1 : Int32, x1 = nI i + 1 → wL_X7_sumKnown_6 z (B 912 0 0) K (fun _ r _ _ _ w => K r w) (q + 1) x1 a f d y w := by
        intro h x1 e1
        rw [if_neg h] at hK
        rw [e1, nI_1]
        exact ih (i + 1) a (by omega) hK
      refine ⟨fun h => nx (by simp [balP, h]), fun h1 => ⟨B 702 0 0, (sc_702 hS).1, (sc_702 hS).2, v1, fun h => nx (by simp [balP, Int32.not_le.mpr h]), fun h2 => ?_⟩⟩
      rw [wk_c hS hn (by omega) e]
      by_cases h3 : knB (vA w 1703 (B 703 0 0) i) (vA w 1704 (B 704 0 0) i) y = true
      · rw [if_pos h3]
        refine ⟨fun h => absurd h (by decide), fun _ => ⟨B 701 0 0, (sc_701 hS).1, (sc_701 hS).2, v1, fun x1 e1 x2 e2 => ?_⟩⟩
        rw [if_pos (by simp [balP, h1, Int32.not_lt.mp h2, h3])] at hK
        rw [e1, e2, nI_1]
        exact ih (i + 1) _ (by omega) hK
      · rw [if_neg h3]
        exact ⟨fun _ => nx (by simp [balP, h3]), fun h => absurd rfl h⟩
  exact ⟨(sc_912 hS).2, n + 1, key n 0 0 (by omega) hK0⟩
theorem sk_m {z : Zt} {m n : Nat} {M : Nat → Nat} {w : Vt} {f d y : Int32} {K : Int32 → Vt → Prop} (hM : SM z m M) (hn : n ≤ 200) (e : vI w 1047 m = nI n) (hb : ∀ i, i < n → vA w 2046 (M 1046) i = -1 ∨ ∃ d : Nat, d ≤ 9999 ∧ vA w 2046 (M 1046) i = nI d) (hK0 : K (sumB (balP (vA w 2042 (M 1042)) (vA w 2044 (M 1044)) (vA w 2045 (M 1045)) (vA w 2046 (M 1046)) f d y) (vA w 2043 (M 1043)) 0 n 0) w) : ∃ n27 : Nat, wL_X10_balance_25 z m K (fun _ r _ _ _ w => K r w) n27 0 0 f d y w := by
  have key : ∀ q i a, i + q = n → K (sumB (balP (vA w 2042 (M 1042)) (vA w 2044 (M 1044)) (vA w 2045 (M 1045)) (vA w 2046 (M 1046)) f d y) (vA w 2043 (M 1043)) i q a) w → wL_X10_balance_25 z m K (fun _ r _ _ _ w => K r w) (q + 1) (nI i) a f d y w := by
    intro q
    induction q with
    | zero =>
      intro i a hi hK
      rw [wL_X10_balance_25, e]
      have : i = n := by omega
      subst this
      exact ⟨fun _ => hK, fun h => absurd (nI_le (Nat.le_refl i) (by omega)) h⟩
    | succ q ih =>
      intro i a hi hK
      have v1 : vp_in (nI i) 200 := vp_in_nI (by omega) (by decide)
      have v2 : (nI i).toNatClampNeg = i := nI_clamp (by omega)
      rw [wL_X10_balance_25, e]
      refine ⟨fun h => absurd h (nI_ge (by omega) (by omega)), fun _ => ⟨M 1045, (sm_1045 hM).1, (sm_1045 hM).2, v1, ?_⟩⟩
      rw [v2]
      rw [sumB] at hK
      have nx : ¬ balP (vA w 2042 (M 1042)) (vA w 2044 (M 1044)) (vA w 2045 (M 1045)) (vA w 2046 (M 1046)) f d y i = true → ∀ x0 : Int32, x0 = a + 0 → ∀ x1 : Int32, x1 = nI i + 1 → wL_X10_balance_25 z m K (fun _ r _ _ _ w => K r w) (q + 1) x1 x0 f d y w := by
        intro h x0 e0 x1 e1
        rw [if_neg h] at hK
        rw [e0, e1, nI_1, Int32.add_zero]
        exact ih (i + 1) a (by omega) hK
      -- the second test
      have two : ∀ v : Int32, v = (if knB (vA w 2045 (M 1045) i) (vA w 2046 (M 1046) i) y = true then 1 else 0) → ∃ J16 : Int32 → Vt → Prop, (∀ (x17 : Int32) (w18 : Vt), J16 x17 w18 → ∀ x25 : Int32, x25 = a + x17 → ∀ x26 : Int32, x26 = nI i + 1 → wL_X10_balance_25 z m K (fun _ r _ _ _ w => K r w) (q + 1) x26 x25 f d y w18) ∧ (v = 0 → J16 0 w) ∧ (¬ v = 0 → ∃ b20 : Nat, zR z 1042 m = some b20 ∧ isO z 2042 b20 ∧ vp_in (nI i) 200 ∧ (¬ (vA w 2042 b20 i) = f → J16 0 w) ∧ ((vA w 2042 b20 i) = f → ∃ b22 : Nat, zR z 1044 m = some b22 ∧ isO z 2044 b22 ∧ vp_in (nI i) 200 ∧ (d < (vA w 2044 b22 i) → J16 0 w) ∧ (¬ d < (vA w 2044 b22 i) → ∃ b24 : Nat, zR z 1043 m = some b24 ∧ isO z 2043 b24 ∧ vp_in (nI i) 200 ∧ J16 (vA w 2043 b24 i) w))) := by
        intro v ev
        refine ⟨fun x17 w18 => w18 = w ∧ (∀ x25 : Int32, x25 = a + x17 → ∀ x26 : Int32, x26 = nI i + 1 → wL_X10_balance_25 z m K (fun _ r _ _ _ w => K r w) (q + 1) x26 x25 f d y w), fun x17 w18 h => by rw [h.1]; exact h.2, ?_, ?_⟩
        · intro h0
          rw [ev] at h0
          by_cases h3 : knB (vA w 2045 (M 1045) i) (vA w 2046 (M 1046) i) y = true
          · rw [if_pos h3] at h0
            exact absurd h0 (by decide)
          · exact ⟨rfl, nx (by simp [balP, h3])⟩
        · intro h0
          have h3 : knB (vA w 2045 (M 1045) i) (vA w 2046 (M 1046) i) y = true := by
            by_cases h3 : knB (vA w 2045 (M 1045) i) (vA w 2046 (M 1046) i) y = true
            · exact h3
            · rw [ev, if_neg h3] at h0
              exact absurd rfl h0
          refine ⟨M 1042, (sm_1042 hM).1, (sm_1042 hM).2, v1, fun h => ⟨rfl, nx (by simp [balP, h])⟩, fun h1 => ⟨M 1044, (sm_1044 hM).1, (sm_1044 hM).2, v1, fun h => ⟨rfl, nx (by simp [balP, Int32.not_le.mpr h])⟩, fun h2 => ⟨M 1043, (sm_1043 hM).1, (sm_1043 hM).2, v1, rfl, fun x1 e1 x2 e2 => ?_⟩⟩⟩
          rw [if_pos (by simp [balP, h1, Int32.not_lt.mp h2, h3])] at hK
          rw [e1, e2, nI_1]
          exact ih (i + 1) _ (by omega) hK
      refine ⟨fun v w11 => w11 = w ∧ v = (if knB (vA w 2045 (M 1045) i) (vA w 2046 (M 1046) i) y = true then 1 else 0), fun v w11 h => by rw [h.1]; exact two v h.2, ?_, ?_⟩
      · intro h
        refine ⟨rfl, ?_⟩
        simp [knB, h]
      · intro h
        refine ⟨M 1046, (sm_1046 hM).1, (sm_1046 hM).2, v1, ?_, ?_⟩
        · intro h2
          have h3 : vA w 2046 (M 1046) i = -1 := by
            rcases hb i (by omega) with g | ⟨c, hc, g⟩
            · exact g
            · rw [g] at h2
              exact absurd h2 (nI_pos (by omega))
          exact ⟨rfl, by simp [knB, h, h3]⟩
        · intro h2
          have h3 : ¬ vA w 2046 (M 1046) i = -1 := fun g => h2 (by rw [g]; decide)
          exact ⟨v1, fun h4 => ⟨rfl, by simp [knB, h, h3, h4]⟩, fun h4 => ⟨rfl, by simp [knB, h, h3, h4]⟩⟩
  exact ⟨n + 1, key n 0 0 (by omega) hK0⟩
set_option maxHeartbeats 2000000 in
theorem lw_ok_22 (x m t : Nat) : ok_22 (lw_I x m t) x m t := by
  intro k zc wc zm wm hk hI a1 a2 a3
  obtain ⟨B, N, M, hS, hM, hV⟩ := id hI
  obtain ⟨hTim, hTap, hRig, hSho, hRoc, hFam, hPit, hLot, hSto, hFor⟩ := id hV
  have hox := sc_x hS
  have hot := sc_t hS
  have hom := sm_m hM
  unfold wc_22 wp_L_balance wp_X9_balance wp_X10_balance
  obtain ⟨S1, n, hn, S2, S3⟩ := hSto
  rcases inI_cases a1 8 (by decide) with h1 | ⟨i, hi, rfl, h1⟩ <;> rw [i8_eq] at h1
  · simp [-Prod.forall, -Prod.exists, hox, hot, hom, th0 hom, th1 hom, thr hom, vI_u, rI_uA, rI_uL, rA_uI, rL_uI, rL_uA, rL_u, i10, i11, n10, mF, in9, in10, c0, jx, jx0, jb, jb0, nF0 hS h1, h1]
    exact lw_keep hI (by repeat' (first | with_reducible refine frW.uI ?_ (by decide) | with_reducible refine frW.uA ?_ (by decide) | with_reducible refine frW.uF ?_ (by decide) | with_reducible refine frW.uL ?_ | exact frW.rfl _ _ _)) (by repeat' (first | with_reducible refine frW.uI ?_ (by decide) | with_reducible refine frW.uA ?_ (by decide) | with_reducible refine frW.uF ?_ (by decide) | with_reducible refine frW.uL ?_ | exact frW.rfl _ _ _))
  · have f1 := (hS.2.1.1 i hi).2.1
    refine ⟨hox, hot, hox, (nF1 hS hi).mpr ⟨f1, B 912 0 0, (sc_912 hS).1, (sc_912 hS).2, sk_c hS hn (S1.trans S2) ?_⟩⟩
    have e47 : vI (uI wm 1000 m 0) 1047 m = nI n := by rw [vI_u]; simpa using S2
    have es : sumB (balP (vA wc 1700 (B 700 0 0)) (vA wc 1702 (B 702 0 0)) (vA wc 1703 (B 703 0 0)) (vA wc 1704 (B 704 0 0)) (nI i) a2 a3) (vA wc 1701 (B 701 0 0)) 0 n 0 = sumB (balP (vA wm 2042 (M 1042)) (vA wm 2044 (M 1044)) (vA wm 2045 (M 1045)) (vA wm 2046 (M 1046)) (nI i) a2 a3) (vA wm 2043 (M 1043)) 0 n 0 := by
      refine sumB_congr n 0 0 (fun j _ hj => ?_)
      obtain ⟨l0, l1, l2, l3, l4, -⟩ := S3 j (by omega)
      simp [balP, l0, l1, l2, l3, l4]
    rw [es]
    simp only [hot, hom, true_and, forall_eq, mF, h1, i11, th0 hom]
    refine ⟨fun _ => sk_m hM hn e47 (fun j hj => (S3 j hj).2.2.2.2.2) ?_, fun h => absurd trivial h⟩
    simp [-Prod.forall, -Prod.exists, hox, hot, hom, th0 hom, th1 hom, thr hom, vI_u, rI_uA, rI_uL, rA_uI, rL_uI, rL_uA, rL_u, i10, i11, n10, mF, in9, in10, c0, jx, jx0, jb, jb0]
    exact lw_keep hI (by repeat' (first | with_reducible refine frW.uI ?_ (by decide) | with_reducible refine frW.uA ?_ (by decide) | with_reducible refine frW.uF ?_ (by decide) | with_reducible refine frW.uL ?_ | exact frW.rfl _ _ _)) (by repeat' (first | with_reducible refine frW.uI ?_ (by decide) | with_reducible refine frW.uA ?_ (by decide) | with_reducible refine frW.uF ?_ (by decide) | with_reducible refine frW.uL ?_ | exact frW.rfl _ _ _))
