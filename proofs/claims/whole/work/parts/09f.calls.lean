/-! PURE PART: foretell, count, may, balance -/
set_option maxHeartbeats 2000000 in
theorem fore_ok {x m t k : Nat} {zc zm : Zt} {wc wm : Vt} (hI : lw_I x m t k zc wc zm wm) (c1 c2 c3 : Int32) : isO zc 9 x ∧ wp_X9_foretell zc x c1 c2 c3 wc (fun r1 wc1 => isO zm 10 m ∧ wp_X10_foretell zm m c1 c2 c3 wm (fun b1 wm1 => r1 = b1 ∧ lw_I x m t (k + 1) zc wc1 zm wm1)) := by
  obtain ⟨B, N, M, hS, hM, hV⟩ := id hI
  obtain ⟨hTim, hTap, hRig, hSho, hRoc, hFam, hPit, hLot, hSto, hFor⟩ := id hV
  have hox := sc_x hS
  have hot := sc_t hS
  have hom := sm_m hM
  unfold wp_X9_foretell wp_X10_foretell wp_X1_addDay
  obtain ⟨F1, n, hn, F2, F3⟩ := hFor
  by_cases h4 : n = 16
  · have w1 : ¬ nI n < 16 := nI_nlt (b := 16) (by omega) (by omega)
    have w1b : 16 ≤ nI n := Int32.not_lt.mp w1
    have w2 : nI n = 16 := by rw [h4]; rfl
    have w3 : ¬ (16 : Int32) < 16 := by decide
    simp [-Prod.forall, -Prod.exists, hox, hot, hom, th0 hom, th1 hom, thr hom, vI_u, rI_uA, rI_uL, rA_uI, rL_uI, rL_uA, rL_u, i10, i11, n10, mF, in9, in10, c0, jx, jx0, jb, jb0, sc_913 hS, F1, F2, w1, w1b, w2, w3]
    exact lw_keep hI (by repeat' (first | with_reducible refine frW.uI ?_ (by decide) | with_reducible refine frW.uA ?_ (by decide) | with_reducible refine frW.uF ?_ (by decide) | with_reducible refine frW.uL ?_ | exact frW.rfl _ _ _)) (by repeat' (first | with_reducible refine frW.uI ?_ (by decide) | with_reducible refine frW.uA ?_ (by decide) | with_reducible refine frW.uF ?_ (by decide) | with_reducible refine frW.uL ?_ | exact frW.rfl _ _ _))
  · have w1 : nI n < 16 := nI_lt (b := 16) (by omega) (by decide)
    have w1b : ¬ 16 ≤ nI n := Int32.not_le.mpr w1
    have w2 : ¬ nI n = 16 := fun h => h4 ((nI_eq (by omega) (by decide : 16 < 2 ^ 31)).mp h)
    have v3 : vp_in (nI n) 16 := vp_in_nI (by omega) (by decide)
    have v3b : vp_in (nI n) 18 := vp_in_nI (by omega) (by decide)
    have v4 : (nI n).toNatClampNeg = n := nI_clamp (by omega)
    simp [-Prod.forall, -Prod.exists, hox, hot, hom, th0 hom, th1 hom, thr hom, vI_u, rI_uA, rI_uL, rA_uI, rL_uI, rL_uA, rL_u, i10, i11, n10, mF, in9, in10, c0, jx, jx0, jb, jb0, sc_913 hS, sc_100 hS, sc_101 hS, sc_102 hS, F1, F2, w1, w1b, w2, v3, v3b, v4, sm_1048 hM, sm_1049 hM, sm_1050 hM]
    refine ⟨B, N, M, hS, hM, hTim.fr (by repeat' (first | with_reducible refine frW.uI ?_ (by decide) | with_reducible refine frW.uA ?_ (by decide) | with_reducible refine frW.uF ?_ (by decide) | with_reducible refine frW.uL ?_ | exact frW.rfl _ _ _)) (by repeat' (first | with_reducible refine frW.uI ?_ (by decide) | with_reducible refine frW.uA ?_ (by decide) | with_reducible refine frW.uF ?_ (by decide) | with_reducible refine frW.uL ?_ | exact frW.rfl _ _ _)), hTap.fr (by repeat' (first | with_reducible refine frW.uI ?_ (by decide) | with_reducible refine frW.uA ?_ (by decide) | with_reducible refine frW.uF ?_ (by decide) | with_reducible refine frW.uL ?_ | exact frW.rfl _ _ _)) (by repeat' (first | with_reducible refine frW.uI ?_ (by decide) | with_reducible refine frW.uA ?_ (by decide) | with_reducible refine frW.uF ?_ (by decide) | with_reducible refine frW.uL ?_ | exact frW.rfl _ _ _)), hRig.fr (by repeat' (first | with_reducible refine frW.uI ?_ (by decide) | with_reducible refine frW.uA ?_ (by decide) | with_reducible refine frW.uF ?_ (by decide) | with_reducible refine frW.uL ?_ | exact frW.rfl _ _ _)) (by repeat' (first | with_reducible refine frW.uI ?_ (by decide) | with_reducible refine frW.uA ?_ (by decide) | with_reducible refine frW.uF ?_ (by decide) | with_reducible refine frW.uL ?_ | exact frW.rfl _ _ _)), hSho.fr (by repeat' (first | with_reducible refine frW.uI ?_ (by decide) | with_reducible refine frW.uA ?_ (by decide) | with_reducible refine frW.uF ?_ (by decide) | with_reducible refine frW.uL ?_ | exact frW.rfl _ _ _)) (by repeat' (first | with_reducible refine frW.uI ?_ (by decide) | with_reducible refine frW.uA ?_ (by decide) | with_reducible refine frW.uF ?_ (by decide) | with_reducible refine frW.uL ?_ | exact frW.rfl _ _ _)), hRoc.fr (by repeat' (first | with_reducible refine frW.uI ?_ (by decide) | with_reducible refine frW.uA ?_ (by decide) | with_reducible refine frW.uF ?_ (by decide) | with_reducible refine frW.uL ?_ | exact frW.rfl _ _ _)) (by repeat' (first | with_reducible refine frW.uI ?_ (by decide) | with_reducible refine frW.uA ?_ (by decide) | with_reducible refine frW.uF ?_ (by decide) | with_reducible refine frW.uL ?_ | exact frW.rfl _ _ _)), (hFam.mono (Nat.le_succ k)).fr (by repeat' (first | with_reducible refine frW.uI ?_ (by decide) | with_reducible refine frW.uA ?_ (by decide) | with_reducible refine frW.uF ?_ (by decide) | with_reducible refine frW.uL ?_ | exact frW.rfl _ _ _)) (by repeat' (first | with_reducible refine frW.uI ?_ (by decide) | with_reducible refine frW.uA ?_ (by decide) | with_reducible refine frW.uF ?_ (by decide) | with_reducible refine frW.uL ?_ | exact frW.rfl _ _ _)), hPit.fr (by repeat' (first | with_reducible refine frW.uI ?_ (by decide) | with_reducible refine frW.uA ?_ (by decide) | with_reducible refine frW.uF ?_ (by decide) | with_reducible refine frW.uL ?_ | exact frW.rfl _ _ _)) (by repeat' (first | with_reducible refine frW.uI ?_ (by decide) | with_reducible refine frW.uA ?_ (by decide) | with_reducible refine frW.uF ?_ (by decide) | with_reducible refine frW.uL ?_ | exact frW.rfl _ _ _)), hLot.fr (by repeat' (first | with_reducible refine frW.uI ?_ (by decide) | with_reducible refine frW.uA ?_ (by decide) | with_reducible refine frW.uF ?_ (by decide) | with_reducible refine frW.uL ?_ | exact frW.rfl _ _ _)) (by repeat' (first | with_reducible refine frW.uI ?_ (by decide) | with_reducible refine frW.uA ?_ (by decide) | with_reducible refine frW.uF ?_ (by decide) | with_reducible refine frW.uL ?_ | exact frW.rfl _ _ _)), hSto.fr (by repeat' (first | with_reducible refine frW.uI ?_ (by decide) | with_reducible refine frW.uA ?_ (by decide) | with_reducible refine frW.uF ?_ (by decide) | with_reducible refine frW.uL ?_ | exact frW.rfl _ _ _)) (by repeat' (first | with_reducible refine frW.uI ?_ (by decide) | with_reducible refine frW.uA ?_ (by decide) | with_reducible refine frW.uF ?_ (by decide) | with_reducible refine frW.uL ?_ | exact frW.rfl _ _ _)), ?_⟩
    refine ⟨by simp [vI_u, rI_uA, rI_uL, F1, F2], n + 1, by omega, by simp [vI_u, rI_uA, F2, nI_succ], fun j hj => ?_⟩
    by_cases hjn : j = n
    · subst hjn
      refine ⟨by simp [rA_u, rA_uI, rA_uL], by simp [rA_u, rA_uI, rA_uL], by simp [rA_u, rA_uI, rA_uL]⟩
    · obtain ⟨l0, l1, l2⟩ := F3 j (by omega)
      exact ⟨by simp [rA_u, rA_uI, rA_uL, hjn, l0], by simp [rA_u, rA_uI, rA_uL, hjn, l1], by simp [rA_u, rA_uI, rA_uL, hjn, l2]⟩
theorem lw_ok_23 (x m t : Nat) : ok_23 (lw_I x m t) x m t := by
  intro k zc wc zm wm hk hI a1 a2 a3
  unfold wc_23
  exact ⟨fun _ => ⟨fun _ => ⟨fun _ => fore_ok hI 0 0 0, fun _ => fore_ok hI 0 0 1⟩, fun _ => ⟨fun _ => fore_ok hI 0 1 0, fun _ => fore_ok hI 0 1 1⟩⟩, fun _ => ⟨fun _ => ⟨fun _ => fore_ok hI 1 0 0, fun _ => fore_ok hI 1 0 1⟩, fun _ => ⟨fun _ => fore_ok hI 1 1 0, fun _ => fore_ok hI 1 1 1⟩⟩⟩
/-- how many of the first n are above 0 -/
def cntP (f : Nat → Int32) : Nat → Int32
  | 0 => 0
  | n + 1 => cntP f n + (if f n ≤ 0 then 0 else 1)
theorem ct_m {z : Zt} {m n : Nat} {M : Nat → Nat} {w : Vt} {a : Int32} {K : Int32 → Vt → Prop} {Kx : Int32 → Int32 → Int32 → Vt → Prop} (hM : SM z m M) (hn : n ≤ 12) (e : vI w 1026 m = nI n) (hK : Kx (nI n) (cntP (vA w 2025 (M 1025)) n) a w) : ∀ d i, i + d = n → wL_X10_count_77 z m K Kx (d + 1) (nI i) (cntP (vA w 2025 (M 1025)) i) a w := by
  intro d
  induction d with
  | zero =>
    intro i hi
    rw [wL_X10_count_77, e]
    have : i = n := by omega
    subst this
    exact ⟨fun _ => hK, fun h => absurd (nI_le (Nat.le_refl i) (by omega)) h⟩
  | succ d ih =>
    intro i hi
    have v1 : vp_in (nI i) 12 := vp_in_nI (by omega) (by decide)
    have v2 : (nI i).toNatClampNeg = i := nI_clamp (by omega)
    rw [wL_X10_count_77, e]
    refine ⟨fun h => absurd h (nI_ge (by omega) (by omega)), fun _ => ⟨M 1025, (sm_1025 hM).1, (sm_1025 hM).2, v1, ?_⟩⟩
    rw [v2, jb]
    have h := ih (i + 1) (by omega)
    constructor
    · intro hc x1 e1 x2 e2
      rw [cntP, if_pos hc] at h
      rw [e1, e2, nI_1]
      exact h
    · intro hc x1 e1 x2 e2
      rw [cntP, if_neg hc] at h
      rw [e1, e2, nI_1]
      exact h
theorem ct_c {z : Zt} {x t : Nat} {B : Nat → Nat → Nat → Nat} {N : Nat → Nat → Nat} {w : Vt} {f : Nat → Int32} {K : Int32 → Vt → Prop} {Kx : Int32 → Int32 → Int32 → Vt → Prop} (hS : SC z x t B N) (hf : ∀ i, i < N 908 0 → vI w 302 (B 1907 i 0) = f i) (hf0 : ∀ i, i < 12 → N 908 0 ≤ i → f i = 0) (hK : Kx 12 12 (cntP f 12) w) : ∀ d i, i + d = 12 → wL_X9_burningPits_13 z (B 907 0 0) x K Kx (d + 1) (nI i) 12 (cntP f i) w := by
  intro d
  induction d with
  | zero =>
    intro i hi
    rw [wL_X9_burningPits_13]
    have : i = 12 := by omega
    subst this
    exact ⟨fun _ => hK, fun h => absurd (nI_le (a := 12) (Nat.le_refl 12) (by decide)) h⟩
  | succ d ih =>
    intro i hi
    have v1 : vp_in (nI i) 12 := vp_in_nI (by omega) (by decide)
    have v2 : (nI i).toNatClampNeg = i := nI_clamp (by omega)
    have h5 := hS.2.2.2.2.1.2.1 i (by omega)
    have h := ih (i + 1) (by omega)
    rw [wL_X9_burningPits_13]
    refine ⟨fun h => absurd h (nI_ge (b := 12) (by omega) (by decide)), fun _ => ⟨v1, ?_⟩⟩
    rw [v2]
    by_cases hi2 : i < N 908 0
    · rw [if_pos hi2] at h5
      have p1 := (hS.2.2.2.2.1.2.2.1 i hi2).1
      rw [h5]
      refine ⟨fun h => (by cases h), fun b hb => ?_⟩
      cases hb
      rw [hf i hi2]
      refine ⟨p1, ?_, ?_⟩
      · intro hc x1 e1
        rw [cntP, if_pos hc] at h
        rw [e1, nI_1]
        simpa using h
      · intro hc x1 e1 x2 e2
        rw [cntP, if_neg hc] at h
        rw [e1, e2, nI_1]
        exact h
    · rw [if_neg hi2] at h5
      rw [h5]
      refine ⟨fun _ x1 e1 => ?_, fun b hb => (by cases hb)⟩
      have f0 := hf0 i (by omega) (by omega)
      rw [cntP, f0, if_pos (by decide)] at h
      rw [e1, nI_1]
      simpa using h
theorem cnt_tail {f : Nat → Int32} {n : Nat} (hn : n ≤ 12) (h : ∀ i, i < 12 → n ≤ i → f i = 0) : ∀ d, n + d ≤ 12 → cntP f (n + d) = cntP f n := by
  intro d
  induction d with
  | zero => intro _; rfl
  | succ d ih =>
    intro hd
    rw [show n + (d + 1) = (n + d) + 1 from rfl, cntP, h (n + d) (by omega) (by omega), if_pos (by decide), ih (by omega)]
    simp
set_option maxHeartbeats 2000000 in
theorem lw_ok_25 (x m t : Nat) : ok_25 (lw_I x m t) x m t := by
  intro k zc wc zm wm hk hI a1
  obtain ⟨B, N, M, hS, hM, hV⟩ := id hI
  obtain ⟨hTim, hTap, hRig, hSho, hRoc, hFam, hPit, hLot, hSto, hFor⟩ := id hV
  have hox := sc_x hS
  have hot := sc_t hS
  have hom := sm_m hM
  unfold wc_25 wp_X9_count wp_X10_count wp_X9_burningPits
  by_cases g0 : a1 = 0
  · subst g0
    simp [-Prod.forall, -Prod.exists, hox, hot, hom, th0 hom, th1 hom, thr hom, vI_u, rI_uA, rI_uL, rA_uI, rL_uI, rL_uA, rL_u, i10, i11, n10, mF, in9, in10, c0, jx, jx0, jb, jb0, hox, hom, hTim.1, hSho.1, hSho.2.1, hPit.1, hPit.2.1, hLot.1, hLot.2.1, sc_912 hS, sc_913 hS, sc_901 hS, hSto.1, hFor.1, hRig.1, hRig.2.1]
    exact lw_keep hI (by repeat' (first | with_reducible refine frW.uI ?_ (by decide) | with_reducible refine frW.uA ?_ (by decide) | with_reducible refine frW.uF ?_ (by decide) | with_reducible refine frW.uL ?_ | exact frW.rfl _ _ _)) (by repeat' (first | with_reducible refine frW.uI ?_ (by decide) | with_reducible refine frW.uA ?_ (by decide) | with_reducible refine frW.uF ?_ (by decide) | with_reducible refine frW.uL ?_ | exact frW.rfl _ _ _))
  by_cases g1 : a1 = 1
  · subst g1
    simp [-Prod.forall, -Prod.exists, hox, hot, hom, th0 hom, th1 hom, thr hom, vI_u, rI_uA, rI_uL, rA_uI, rL_uI, rL_uA, rL_u, i10, i11, n10, mF, in9, in10, c0, jx, jx0, jb, jb0, hox, hom, hTim.1, hSho.1, hSho.2.1, hPit.1, hPit.2.1, hLot.1, hLot.2.1, sc_912 hS, sc_913 hS, sc_901 hS, hSto.1, hFor.1, hRig.1, hRig.2.1]
    exact lw_keep hI (by repeat' (first | with_reducible refine frW.uI ?_ (by decide) | with_reducible refine frW.uA ?_ (by decide) | with_reducible refine frW.uF ?_ (by decide) | with_reducible refine frW.uL ?_ | exact frW.rfl _ _ _)) (by repeat' (first | with_reducible refine frW.uI ?_ (by decide) | with_reducible refine frW.uA ?_ (by decide) | with_reducible refine frW.uF ?_ (by decide) | with_reducible refine frW.uL ?_ | exact frW.rfl _ _ _))
  by_cases g2 : a1 = 2
  · subst g2
    simp [-Prod.forall, -Prod.exists, hox, hot, hom, th0 hom, th1 hom, thr hom, vI_u, rI_uA, rI_uL, rA_uI, rL_uI, rL_uA, rL_u, i10, i11, n10, mF, in9, in10, c0, jx, jx0, jb, jb0, hox, hom, hTim.1, hSho.1, hSho.2.1, hPit.1, hPit.2.1, hLot.1, hLot.2.1, sc_912 hS, sc_913 hS, sc_901 hS, hSto.1, hFor.1, hRig.1, hRig.2.1]
    exact lw_keep hI (by repeat' (first | with_reducible refine frW.uI ?_ (by decide) | with_reducible refine frW.uA ?_ (by decide) | with_reducible refine frW.uF ?_ (by decide) | with_reducible refine frW.uL ?_ | exact frW.rfl _ _ _)) (by repeat' (first | with_reducible refine frW.uI ?_ (by decide) | with_reducible refine frW.uA ?_ (by decide) | with_reducible refine frW.uF ?_ (by decide) | with_reducible refine frW.uL ?_ | exact frW.rfl _ _ _))
  by_cases g3 : a1 = 3
  · subst g3
    have hn := hS.2.2.2.2.1.1
    have hz : ∀ i, i < 12 → N 908 0 ≤ i → vA wm 2025 (M 1025) i = 0 := fun i h1 h2 => (hPit.2.2.2 i h1 h2).2
    have e12 : cntP (vA wm 2025 (M 1025)) 12 = cntP (vA wm 2025 (M 1025)) (N 908 0) := by
      have := cnt_tail hn hz (12 - N 908 0) (by omega)
      rwa [show N 908 0 + (12 - N 908 0) = 12 by omega] at this
    refine ⟨hox, hox, fun h => absurd h (by decide), fun h => absurd h (by decide), fun h => absurd h (by decide), fun _ => ⟨hox, B 907 0 0, (sc_907 hS).1, (sc_907 hS).2, 12 + 1, ?_⟩, fun h => absurd h (by decide), fun h => absurd h (by decide), fun h => absurd h (by decide), fun h => absurd h (by decide), fun h => absurd h (by decide), fun _ _ _ h => absurd rfl h⟩
    refine ct_c hS (f := vA wm 2025 (M 1025)) (fun i hi => (hPit.2.2.1 i hi).2.1) hz ?_ 12 0 rfl
    refine ⟨hom, hom, fun w1 ew => ?_⟩
    refine ⟨fun h => absurd h (by decide), fun h => absurd h (by decide), fun h => absurd h (by decide), fun _ => ⟨N 908 0 + 1, ?_⟩, fun h => absurd h (by decide), fun h => absurd h (by decide), fun h => absurd h (by decide), fun h => absurd h (by decide), fun h => absurd h (by decide), fun _ _ _ h => absurd rfl h⟩
    subst ew
    refine ct_m (n := N 908 0) hM hn (by rw [vI_u]; simpa using hPit.2.1) ?_ (N 908 0) 0 (by omega)
    exact ⟨e12, lw_keep hI (by repeat' (first | with_reducible refine frW.uI ?_ (by decide) | with_reducible refine frW.uA ?_ (by decide) | with_reducible refine frW.uF ?_ (by decide) | with_reducible refine frW.uL ?_ | exact frW.rfl _ _ _)) (by repeat' (first | with_reducible refine frW.uI ?_ (by decide) | with_reducible refine frW.uA ?_ (by decide) | with_reducible refine frW.uF ?_ (by decide) | with_reducible refine frW.uL ?_ | exact frW.rfl _ _ _))⟩
  by_cases g4 : a1 = 4
  · subst g4
    simp [-Prod.forall, -Prod.exists, hox, hot, hom, th0 hom, th1 hom, thr hom, vI_u, rI_uA, rI_uL, rA_uI, rL_uI, rL_uA, rL_u, i10, i11, n10, mF, in9, in10, c0, jx, jx0, jb, jb0, hox, hom, hTim.1, hSho.1, hSho.2.1, hPit.1, hPit.2.1, hLot.1, hLot.2.1, sc_912 hS, sc_913 hS, sc_901 hS, hSto.1, hFor.1, hRig.1, hRig.2.1]
    exact lw_keep hI (by repeat' (first | with_reducible refine frW.uI ?_ (by decide) | with_reducible refine frW.uA ?_ (by decide) | with_reducible refine frW.uF ?_ (by decide) | with_reducible refine frW.uL ?_ | exact frW.rfl _ _ _)) (by repeat' (first | with_reducible refine frW.uI ?_ (by decide) | with_reducible refine frW.uA ?_ (by decide) | with_reducible refine frW.uF ?_ (by decide) | with_reducible refine frW.uL ?_ | exact frW.rfl _ _ _))
  by_cases g5 : a1 = 5
  · subst g5
    simp [-Prod.forall, -Prod.exists, hox, hot, hom, th0 hom, th1 hom, thr hom, vI_u, rI_uA, rI_uL, rA_uI, rL_uI, rL_uA, rL_u, i10, i11, n10, mF, in9, in10, c0, jx, jx0, jb, jb0, hox, hom, hTim.1, hSho.1, hSho.2.1, hPit.1, hPit.2.1, hLot.1, hLot.2.1, sc_912 hS, sc_913 hS, sc_901 hS, hSto.1, hFor.1, hRig.1, hRig.2.1]
    exact lw_keep hI (by repeat' (first | with_reducible refine frW.uI ?_ (by decide) | with_reducible refine frW.uA ?_ (by decide) | with_reducible refine frW.uF ?_ (by decide) | with_reducible refine frW.uL ?_ | exact frW.rfl _ _ _)) (by repeat' (first | with_reducible refine frW.uI ?_ (by decide) | with_reducible refine frW.uA ?_ (by decide) | with_reducible refine frW.uF ?_ (by decide) | with_reducible refine frW.uL ?_ | exact frW.rfl _ _ _))
  by_cases g6 : a1 = 6
  · subst g6
    simp [-Prod.forall, -Prod.exists, hox, hot, hom, th0 hom, th1 hom, thr hom, vI_u, rI_uA, rI_uL, rA_uI, rL_uI, rL_uA, rL_u, i10, i11, n10, mF, in9, in10, c0, jx, jx0, jb, jb0, hox, hom, hTim.1, hSho.1, hSho.2.1, hPit.1, hPit.2.1, hLot.1, hLot.2.1, sc_912 hS, sc_913 hS, sc_901 hS, hSto.1, hFor.1, hRig.1, hRig.2.1]
    exact lw_keep hI (by repeat' (first | with_reducible refine frW.uI ?_ (by decide) | with_reducible refine frW.uA ?_ (by decide) | with_reducible refine frW.uF ?_ (by decide) | with_reducible refine frW.uL ?_ | exact frW.rfl _ _ _)) (by repeat' (first | with_reducible refine frW.uI ?_ (by decide) | with_reducible refine frW.uA ?_ (by decide) | with_reducible refine frW.uF ?_ (by decide) | with_reducible refine frW.uL ?_ | exact frW.rfl _ _ _))
  by_cases g7 : a1 = 7
  · subst g7
    simp [-Prod.forall, -Prod.exists, hox, hot, hom, th0 hom, th1 hom, thr hom, vI_u, rI_uA, rI_uL, rA_uI, rL_uI, rL_uA, rL_u, i10, i11, n10, mF, in9, in10, c0, jx, jx0, jb, jb0, hox, hom, hTim.1, hSho.1, hSho.2.1, hPit.1, hPit.2.1, hLot.1, hLot.2.1, sc_912 hS, sc_913 hS, sc_901 hS, hSto.1, hFor.1, hRig.1, hRig.2.1]
    exact lw_keep hI (by repeat' (first | with_reducible refine frW.uI ?_ (by decide) | with_reducible refine frW.uA ?_ (by decide) | with_reducible refine frW.uF ?_ (by decide) | with_reducible refine frW.uL ?_ | exact frW.rfl _ _ _)) (by repeat' (first | with_reducible refine frW.uI ?_ (by decide) | with_reducible refine frW.uA ?_ (by decide) | with_reducible refine frW.uF ?_ (by decide) | with_reducible refine frW.uL ?_ | exact frW.rfl _ _ _))
  by_cases g8 : a1 = 8
  · subst g8
    simp [-Prod.forall, -Prod.exists, hox, hot, hom, th0 hom, th1 hom, thr hom, vI_u, rI_uA, rI_uL, rA_uI, rL_uI, rL_uA, rL_u, i10, i11, n10, mF, in9, in10, c0, jx, jx0, jb, jb0, hox, hom, hTim.1, hSho.1, hSho.2.1, hPit.1, hPit.2.1, hLot.1, hLot.2.1, sc_912 hS, sc_913 hS, sc_901 hS, hSto.1, hFor.1, hRig.1, hRig.2.1]
    exact lw_keep hI (by repeat' (first | with_reducible refine frW.uI ?_ (by decide) | with_reducible refine frW.uA ?_ (by decide) | with_reducible refine frW.uF ?_ (by decide) | with_reducible refine frW.uL ?_ | exact frW.rfl _ _ _)) (by repeat' (first | with_reducible refine frW.uI ?_ (by decide) | with_reducible refine frW.uA ?_ (by decide) | with_reducible refine frW.uF ?_ (by decide) | with_reducible refine frW.uL ?_ | exact frW.rfl _ _ _))
  simp [-Prod.forall, -Prod.exists, hox, hot, hom, th0 hom, th1 hom, thr hom, vI_u, rI_uA, rI_uL, rA_uI, rL_uI, rL_uA, rL_u, i10, i11, n10, mF, in9, in10, c0, jx, jx0, jb, jb0, hox, hom, hTim.1, hSho.1, hSho.2.1, hPit.1, hPit.2.1, hLot.1, hLot.2.1, sc_912 hS, sc_913 hS, sc_901 hS, hSto.1, hFor.1, hRig.1, hRig.2.1, g0, g1, g2, g3, g4, g5, g6, g7, g8]
  exact lw_keep hI (by repeat' (first | with_reducible refine frW.uI ?_ (by decide) | with_reducible refine frW.uA ?_ (by decide) | with_reducible refine frW.uF ?_ (by decide) | with_reducible refine frW.uL ?_ | exact frW.rfl _ _ _)) (by repeat' (first | with_reducible refine frW.uI ?_ (by decide) | with_reducible refine frW.uA ?_ (by decide) | with_reducible refine frW.uF ?_ (by decide) | with_reducible refine frW.uL ?_ | exact frW.rfl _ _ _))
