/-! PURE PART: more calls without loops -/
set_option maxHeartbeats 2000000 in
theorem lw_ok_21 (x m t : Nat) : ok_21 (lw_I x m t) x m t := by
  intro k zc wc zm wm hk hI a1
  obtain ⟨B, N, M, hS, hM, hV⟩ := id hI
  obtain ⟨hTim, hTap, hRig, hSho, hRoc, hFam, hPit, hLot, hSto, hFor⟩ := id hV
  have hox := sc_x hS
  have hot := sc_t hS
  have hom := sm_m hM
  unfold wc_21 wp_L_undo wp_X9_undo wp_X10_undo wp_X7_takeBack wp_X7_hasEntry
  obtain ⟨S1, n, hn, S2, S3⟩ := hSto
  obtain ⟨T1, T2, d, hd, T3⟩ := hTim
  have eE : vI (uI wm 1000 m 0) 1047 m = nI n := by rw [vI_u]; simpa using S2
  rcases inI_cases a1 n (by omega) with h1 | ⟨i, hi, rfl, h1⟩
  · have h0 : a1 < 0 ∨ nI n ≤ a1 := by
      rcases in_out (by omega) h1 with g | ⟨-, j, hj, g, rfl⟩
      · exact Or.inl g
      · exact Or.inr (nI_le g hj)
    by_cases h2 : a1 < 0
    · simp [-Prod.forall, -Prod.exists, hox, hot, hom, th0 hom, th1 hom, thr hom, vI_u, rI_uA, rI_uL, rA_uI, rL_uI, rL_uA, rL_u, i10, i11, n10, mF, in9, in10, c0, jx, jx0, jb, jb0, sc_912 hS, S1, S2, eE, h1, h2]
      exact lw_keep hI (by repeat' (first | with_reducible refine frW.uI ?_ (by decide) | with_reducible refine frW.uA ?_ (by decide) | with_reducible refine frW.uF ?_ (by decide) | with_reducible refine frW.uL ?_ | exact frW.rfl _ _ _)) (by repeat' (first | with_reducible refine frW.uI ?_ (by decide) | with_reducible refine frW.uA ?_ (by decide) | with_reducible refine frW.uF ?_ (by decide) | with_reducible refine frW.uL ?_ | exact frW.rfl _ _ _))
    · have h3 := h0.resolve_left h2
      have h3b : ¬ a1 < nI n := Int32.not_lt.mpr h3
      simp [-Prod.forall, -Prod.exists, hox, hot, hom, th0 hom, th1 hom, thr hom, vI_u, rI_uA, rI_uL, rA_uI, rL_uI, rL_uA, rL_u, i10, i11, n10, mF, in9, in10, c0, jx, jx0, jb, jb0, sc_912 hS, S1, S2, eE, h1, h2, h3, h3b]
      exact lw_keep hI (by repeat' (first | with_reducible refine frW.uI ?_ (by decide) | with_reducible refine frW.uA ?_ (by decide) | with_reducible refine frW.uF ?_ (by decide) | with_reducible refine frW.uL ?_ | exact frW.rfl _ _ _)) (by repeat' (first | with_reducible refine frW.uI ?_ (by decide) | with_reducible refine frW.uA ?_ (by decide) | with_reducible refine frW.uF ?_ (by decide) | with_reducible refine frW.uL ?_ | exact frW.rfl _ _ _))
  · have v1 : vp_in (nI i) 200 := vp_in_nI (by omega) (by decide)
    have v2 : (nI i).toNatClampNeg = i := nI_clamp (by omega)
    have v3 : ¬ nI i < 0 := nI_pos (by omega)
    have v4 : ¬ nI n ≤ nI i := nI_ge hi (by omega)
    have v4b : nI i < nI n := nI_lt hi (by omega)
    have v5 : ¬ 200 ≤ nI i := nI_ge (b := 200) (by omega) (by decide)
    have v5b : nI i < 200 := nI_lt (b := 200) (by omega) (by decide)
    obtain ⟨k0, k1, k2, k3, k4, k5⟩ := S3 i hi
    rcases k5 with k5 | ⟨e, he, k5⟩
    · simp [-Prod.forall, -Prod.exists, hox, hot, hom, th0 hom, th1 hom, thr hom, vI_u, rI_uA, rI_uL, rA_uI, rL_uI, rL_uA, rL_u, i10, i11, n10, mF, in9, in10, c0, jx, jx0, jb, jb0, sc_912 hS, sc_704 hS, S1, S2, eE, h1, v1, v2, v3, v4, v4b, v5, v5b, k4, k5, sm_1046 hM, isB1]
      refine ⟨B, N, M, hS, hM, (show vTim x m wc wm from ⟨T1, T2, d, hd, T3⟩).fr (by repeat' (first | with_reducible refine frW.uI ?_ (by decide) | with_reducible refine frW.uA ?_ (by decide) | with_reducible refine frW.uF ?_ (by decide) | with_reducible refine frW.uL ?_ | exact frW.rfl _ _ _)) (by repeat' (first | with_reducible refine frW.uI ?_ (by decide) | with_reducible refine frW.uA ?_ (by decide) | with_reducible refine frW.uF ?_ (by decide) | with_reducible refine frW.uL ?_ | exact frW.rfl _ _ _)), hTap.fr (by repeat' (first | with_reducible refine frW.uI ?_ (by decide) | with_reducible refine frW.uA ?_ (by decide) | with_reducible refine frW.uF ?_ (by decide) | with_reducible refine frW.uL ?_ | exact frW.rfl _ _ _)) (by repeat' (first | with_reducible refine frW.uI ?_ (by decide) | with_reducible refine frW.uA ?_ (by decide) | with_reducible refine frW.uF ?_ (by decide) | with_reducible refine frW.uL ?_ | exact frW.rfl _ _ _)), hRig.fr (by repeat' (first | with_reducible refine frW.uI ?_ (by decide) | with_reducible refine frW.uA ?_ (by decide) | with_reducible refine frW.uF ?_ (by decide) | with_reducible refine frW.uL ?_ | exact frW.rfl _ _ _)) (by repeat' (first | with_reducible refine frW.uI ?_ (by decide) | with_reducible refine frW.uA ?_ (by decide) | with_reducible refine frW.uF ?_ (by decide) | with_reducible refine frW.uL ?_ | exact frW.rfl _ _ _)), hSho.fr (by repeat' (first | with_reducible refine frW.uI ?_ (by decide) | with_reducible refine frW.uA ?_ (by decide) | with_reducible refine frW.uF ?_ (by decide) | with_reducible refine frW.uL ?_ | exact frW.rfl _ _ _)) (by repeat' (first | with_reducible refine frW.uI ?_ (by decide) | with_reducible refine frW.uA ?_ (by decide) | with_reducible refine frW.uF ?_ (by decide) | with_reducible refine frW.uL ?_ | exact frW.rfl _ _ _)), hRoc.fr (by repeat' (first | with_reducible refine frW.uI ?_ (by decide) | with_reducible refine frW.uA ?_ (by decide) | with_reducible refine frW.uF ?_ (by decide) | with_reducible refine frW.uL ?_ | exact frW.rfl _ _ _)) (by repeat' (first | with_reducible refine frW.uI ?_ (by decide) | with_reducible refine frW.uA ?_ (by decide) | with_reducible refine frW.uF ?_ (by decide) | with_reducible refine frW.uL ?_ | exact frW.rfl _ _ _)), (hFam.mono (Nat.le_succ k)).fr (by repeat' (first | with_reducible refine frW.uI ?_ (by decide) | with_reducible refine frW.uA ?_ (by decide) | with_reducible refine frW.uF ?_ (by decide) | with_reducible refine frW.uL ?_ | exact frW.rfl _ _ _)) (by repeat' (first | with_reducible refine frW.uI ?_ (by decide) | with_reducible refine frW.uA ?_ (by decide) | with_reducible refine frW.uF ?_ (by decide) | with_reducible refine frW.uL ?_ | exact frW.rfl _ _ _)), hPit.fr (by repeat' (first | with_reducible refine frW.uI ?_ (by decide) | with_reducible refine frW.uA ?_ (by decide) | with_reducible refine frW.uF ?_ (by decide) | with_reducible refine frW.uL ?_ | exact frW.rfl _ _ _)) (by repeat' (first | with_reducible refine frW.uI ?_ (by decide) | with_reducible refine frW.uA ?_ (by decide) | with_reducible refine frW.uF ?_ (by decide) | with_reducible refine frW.uL ?_ | exact frW.rfl _ _ _)), hLot.fr (by repeat' (first | with_reducible refine frW.uI ?_ (by decide) | with_reducible refine frW.uA ?_ (by decide) | with_reducible refine frW.uF ?_ (by decide) | with_reducible refine frW.uL ?_ | exact frW.rfl _ _ _)) (by repeat' (first | with_reducible refine frW.uI ?_ (by decide) | with_reducible refine frW.uA ?_ (by decide) | with_reducible refine frW.uF ?_ (by decide) | with_reducible refine frW.uL ?_ | exact frW.rfl _ _ _)), ?_, hFor.fr (by repeat' (first | with_reducible refine frW.uI ?_ (by decide) | with_reducible refine frW.uA ?_ (by decide) | with_reducible refine frW.uF ?_ (by decide) | with_reducible refine frW.uL ?_ | exact frW.rfl _ _ _)) (by repeat' (first | with_reducible refine frW.uI ?_ (by decide) | with_reducible refine frW.uA ?_ (by decide) | with_reducible refine frW.uF ?_ (by decide) | with_reducible refine frW.uL ?_ | exact frW.rfl _ _ _))⟩
      refine ⟨by simp [vI_u, rI_uA, rI_uL, S1], n, hn, by simp [vI_u, rI_uA, S2], fun j hj => ?_⟩
      obtain ⟨l0, l1, l2, l3, l4, l5⟩ := S3 j hj
      refine ⟨by simp [rA_u, rA_uI, rA_uL, l0], by simp [rA_u, rA_uI, rA_uL, l1], by simp [rA_u, rA_uI, rA_uL, l2], by simp [rA_u, rA_uI, rA_uL, l3], by simp [rA_u, rA_uI, rA_uL, l4, T1], ?_⟩
      by_cases hji : j = i
      · exact Or.inr ⟨d, hd, by simp [rA_u, hji, T3]⟩
      · simpa [rA_u, rA_uI, hji] using l5
    · have v6 : ¬ nI e < 0 := nI_pos (by omega)
      have v6b : 0 ≤ nI e := nI_pos' (by omega)
      have v7 : ¬ nI e = -1 := fun h => by rw [h] at v6; exact v6 (by decide)
      simp [-Prod.forall, -Prod.exists, hox, hot, hom, th0 hom, th1 hom, thr hom, vI_u, rI_uA, rI_uL, rA_uI, rL_uI, rL_uA, rL_u, i10, i11, n10, mF, in9, in10, c0, jx, jx0, jb, jb0, sc_912 hS, sc_704 hS, S1, S2, eE, h1, v1, v2, v3, v4, v4b, v5, v5b, k4, k5, v6, v6b, v7, sm_1046 hM, isB0]
      exact lw_keep hI (by repeat' (first | with_reducible refine frW.uI ?_ (by decide) | with_reducible refine frW.uA ?_ (by decide) | with_reducible refine frW.uF ?_ (by decide) | with_reducible refine frW.uL ?_ | exact frW.rfl _ _ _)) (by repeat' (first | with_reducible refine frW.uI ?_ (by decide) | with_reducible refine frW.uA ?_ (by decide) | with_reducible refine frW.uF ?_ (by decide) | with_reducible refine frW.uL ?_ | exact frW.rfl _ _ _))
set_option maxHeartbeats 2000000 in
theorem lw_ok_20 (x m t : Nat) : ok_20 (lw_I x m t) x m t := by
  intro k zc wc zm wm hk hI a1 a2 a3
  obtain ⟨B, N, M, hS, hM, hV⟩ := id hI
  obtain ⟨hTim, hTap, hRig, hSho, hRoc, hFam, hPit, hLot, hSto, hFor⟩ := id hV
  have hox := sc_x hS
  have hot := sc_t hS
  have hom := sm_m hM
  unfold wc_20 wp_L_enter wp_X9_enter wp_X10_enter
  obtain ⟨S1, n, hn, S2, S3⟩ := hSto
  obtain ⟨T1, T2, d, hd, T3⟩ := hTim
  rcases inI_cases a1 8 (by decide) with h1 | ⟨i, hi, rfl, h1⟩ <;> rw [i8_eq] at h1
  · simp [-Prod.forall, -Prod.exists, hox, hot, hom, th0 hom, th1 hom, thr hom, vI_u, rI_uA, rI_uL, rA_uI, rL_uI, rL_uA, rL_u, i10, i11, n10, mF, in9, in10, c0, jx, jx0, jb, jb0, nF0 hS h1, h1]
    exact lw_keep hI (by repeat' (first | with_reducible refine frW.uI ?_ (by decide) | with_reducible refine frW.uA ?_ (by decide) | with_reducible refine frW.uF ?_ (by decide) | with_reducible refine frW.uL ?_ | exact frW.rfl _ _ _)) (by repeat' (first | with_reducible refine frW.uI ?_ (by decide) | with_reducible refine frW.uA ?_ (by decide) | with_reducible refine frW.uF ?_ (by decide) | with_reducible refine frW.uL ?_ | exact frW.rfl _ _ _))
  · have v1 : vp_in (nI i) 8 := vp_in_nI hi (by decide)
    have v2 : (nI i).toNatClampNeg = i := nI_clamp (by omega)
    have f1 := (hS.2.1.1 i hi).2.1
    rcases inI_01 a2 (-100000) 100000 with h2 | h2
    · simp [-Prod.forall, -Prod.exists, hox, hot, hom, th0 hom, th1 hom, thr hom, vI_u, rI_uA, rI_uL, rA_uI, rL_uI, rL_uA, rL_u, i10, i11, n10, mF, in9, in10, c0, jx, jx0, jb, jb0, nF1 hS hi, f1, h1, h2]
      exact lw_keep hI (by repeat' (first | with_reducible refine frW.uI ?_ (by decide) | with_reducible refine frW.uA ?_ (by decide) | with_reducible refine frW.uF ?_ (by decide) | with_reducible refine frW.uL ?_ | exact frW.rfl _ _ _)) (by repeat' (first | with_reducible refine frW.uI ?_ (by decide) | with_reducible refine frW.uA ?_ (by decide) | with_reducible refine frW.uF ?_ (by decide) | with_reducible refine frW.uL ?_ | exact frW.rfl _ _ _))
    rcases inI_01 a3 0 9999 with h3 | h3
    · simp [-Prod.forall, -Prod.exists, hox, hot, hom, th0 hom, th1 hom, thr hom, vI_u, rI_uA, rI_uL, rA_uI, rL_uI, rL_uA, rL_u, i10, i11, n10, mF, in9, in10, c0, jx, jx0, jb, jb0, nF1 hS hi, f1, h1, h2, h3]
      exact lw_keep hI (by repeat' (first | with_reducible refine frW.uI ?_ (by decide) | with_reducible refine frW.uA ?_ (by decide) | with_reducible refine frW.uF ?_ (by decide) | with_reducible refine frW.uL ?_ | exact frW.rfl _ _ _)) (by repeat' (first | with_reducible refine frW.uI ?_ (by decide) | with_reducible refine frW.uA ?_ (by decide) | with_reducible refine frW.uF ?_ (by decide) | with_reducible refine frW.uL ?_ | exact frW.rfl _ _ _))
    by_cases h4 : n = 200
    · have w1 : ¬ nI n < 200 := nI_nlt (b := 200) (by omega) (by omega)
      have w1b : 200 ≤ nI n := Int32.not_lt.mp w1
      have w2 : nI n = 200 := by rw [h4]; rfl
      have w3 : ¬ (200 : Int32) < 200 := by decide
      simp [-Prod.forall, -Prod.exists, hox, hot, hom, th0 hom, th1 hom, thr hom, vI_u, rI_uA, rI_uL, rA_uI, rL_uI, rL_uA, rL_u, i10, i11, n10, mF, in9, in10, c0, jx, jx0, jb, jb0, wp_X7_isFull, wp_X7_addEntry, wp_X10_enters, nF1 hS hi, f1, h1, h2, h3, sc_912 hS, S1, S2, w1, w1b, w2, w3]
      exact lw_keep hI (by repeat' (first | with_reducible refine frW.uI ?_ (by decide) | with_reducible refine frW.uA ?_ (by decide) | with_reducible refine frW.uF ?_ (by decide) | with_reducible refine frW.uL ?_ | exact frW.rfl _ _ _)) (by repeat' (first | with_reducible refine frW.uI ?_ (by decide) | with_reducible refine frW.uA ?_ (by decide) | with_reducible refine frW.uF ?_ (by decide) | with_reducible refine frW.uL ?_ | exact frW.rfl _ _ _))
    · have w1 : nI n < 200 := nI_lt (b := 200) (by omega) (by decide)
      have w1b : ¬ 200 ≤ nI n := Int32.not_le.mpr w1
      have w2 : ¬ nI n = 200 := fun h => h4 ((nI_eq (by omega) (by decide : 200 < 2 ^ 31)).mp h)
      have v3 : vp_in (nI n) 200 := vp_in_nI (by omega) (by decide)
      have v4 : (nI n).toNatClampNeg = n := nI_clamp (by omega)
      simp [-Prod.forall, -Prod.exists, hox, hot, hom, th0 hom, th1 hom, thr hom, vI_u, rI_uA, rI_uL, rA_uI, rL_uI, rL_uA, rL_u, i10, i11, n10, mF, in9, in10, c0, jx, jx0, jb, jb0, wp_X7_isFull, wp_X7_addEntry, wp_X10_enters, nF1 hS hi, f1, h1, h2, h3, sc_912 hS, sc_700 hS, sc_701 hS, sc_702 hS, sc_703 hS, sc_704 hS, S1, S2, w1, w1b, w2, v3, v4, sm_1042 hM, sm_1043 hM, sm_1044 hM, sm_1045 hM, sm_1046 hM, T1]
      refine ⟨B, N, M, hS, hM, (show vTim x m wc wm from ⟨T1, T2, d, hd, T3⟩).fr (by repeat' (first | with_reducible refine frW.uI ?_ (by decide) | with_reducible refine frW.uA ?_ (by decide) | with_reducible refine frW.uF ?_ (by decide) | with_reducible refine frW.uL ?_ | exact frW.rfl _ _ _)) (by repeat' (first | with_reducible refine frW.uI ?_ (by decide) | with_reducible refine frW.uA ?_ (by decide) | with_reducible refine frW.uF ?_ (by decide) | with_reducible refine frW.uL ?_ | exact frW.rfl _ _ _)), hTap.fr (by repeat' (first | with_reducible refine frW.uI ?_ (by decide) | with_reducible refine frW.uA ?_ (by decide) | with_reducible refine frW.uF ?_ (by decide) | with_reducible refine frW.uL ?_ | exact frW.rfl _ _ _)) (by repeat' (first | with_reducible refine frW.uI ?_ (by decide) | with_reducible refine frW.uA ?_ (by decide) | with_reducible refine frW.uF ?_ (by decide) | with_reducible refine frW.uL ?_ | exact frW.rfl _ _ _)), hRig.fr (by repeat' (first | with_reducible refine frW.uI ?_ (by decide) | with_reducible refine frW.uA ?_ (by decide) | with_reducible refine frW.uF ?_ (by decide) | with_reducible refine frW.uL ?_ | exact frW.rfl _ _ _)) (by repeat' (first | with_reducible refine frW.uI ?_ (by decide) | with_reducible refine frW.uA ?_ (by decide) | with_reducible refine frW.uF ?_ (by decide) | with_reducible refine frW.uL ?_ | exact frW.rfl _ _ _)), hSho.fr (by repeat' (first | with_reducible refine frW.uI ?_ (by decide) | with_reducible refine frW.uA ?_ (by decide) | with_reducible refine frW.uF ?_ (by decide) | with_reducible refine frW.uL ?_ | exact frW.rfl _ _ _)) (by repeat' (first | with_reducible refine frW.uI ?_ (by decide) | with_reducible refine frW.uA ?_ (by decide) | with_reducible refine frW.uF ?_ (by decide) | with_reducible refine frW.uL ?_ | exact frW.rfl _ _ _)), hRoc.fr (by repeat' (first | with_reducible refine frW.uI ?_ (by decide) | with_reducible refine frW.uA ?_ (by decide) | with_reducible refine frW.uF ?_ (by decide) | with_reducible refine frW.uL ?_ | exact frW.rfl _ _ _)) (by repeat' (first | with_reducible refine frW.uI ?_ (by decide) | with_reducible refine frW.uA ?_ (by decide) | with_reducible refine frW.uF ?_ (by decide) | with_reducible refine frW.uL ?_ | exact frW.rfl _ _ _)), (hFam.mono (Nat.le_succ k)).fr (by repeat' (first | with_reducible refine frW.uI ?_ (by decide) | with_reducible refine frW.uA ?_ (by decide) | with_reducible refine frW.uF ?_ (by decide) | with_reducible refine frW.uL ?_ | exact frW.rfl _ _ _)) (by repeat' (first | with_reducible refine frW.uI ?_ (by decide) | with_reducible refine frW.uA ?_ (by decide) | with_reducible refine frW.uF ?_ (by decide) | with_reducible refine frW.uL ?_ | exact frW.rfl _ _ _)), hPit.fr (by repeat' (first | with_reducible refine frW.uI ?_ (by decide) | with_reducible refine frW.uA ?_ (by decide) | with_reducible refine frW.uF ?_ (by decide) | with_reducible refine frW.uL ?_ | exact frW.rfl _ _ _)) (by repeat' (first | with_reducible refine frW.uI ?_ (by decide) | with_reducible refine frW.uA ?_ (by decide) | with_reducible refine frW.uF ?_ (by decide) | with_reducible refine frW.uL ?_ | exact frW.rfl _ _ _)), hLot.fr (by repeat' (first | with_reducible refine frW.uI ?_ (by decide) | with_reducible refine frW.uA ?_ (by decide) | with_reducible refine frW.uF ?_ (by decide) | with_reducible refine frW.uL ?_ | exact frW.rfl _ _ _)) (by repeat' (first | with_reducible refine frW.uI ?_ (by decide) | with_reducible refine frW.uA ?_ (by decide) | with_reducible refine frW.uF ?_ (by decide) | with_reducible refine frW.uL ?_ | exact frW.rfl _ _ _)), ?_, hFor.fr (by repeat' (first | with_reducible refine frW.uI ?_ (by decide) | with_reducible refine frW.uA ?_ (by decide) | with_reducible refine frW.uF ?_ (by decide) | with_reducible refine frW.uL ?_ | exact frW.rfl _ _ _)) (by repeat' (first | with_reducible refine frW.uI ?_ (by decide) | with_reducible refine frW.uA ?_ (by decide) | with_reducible refine frW.uF ?_ (by decide) | with_reducible refine frW.uL ?_ | exact frW.rfl _ _ _))⟩
      refine ⟨by simp [vI_u, rI_uA, rI_uL, S1, S2], n + 1, by omega, by simp [vI_u, rI_uA, S2, nI_succ], fun j hj => ?_⟩
      by_cases hjn : j = n
      · subst hjn
        refine ⟨by simp [rA_u, rA_uI, rA_uL], by simp [rA_u, rA_uI, rA_uL], by simp [rA_u, rA_uI, rA_uL], by simp [rA_u, rA_uI, rA_uL, rI_uA, vI_u, T1], by simp [rA_u, rA_uI, rA_uL], Or.inl (by simp [rA_u, rA_uI])⟩
      · obtain ⟨l0, l1, l2, l3, l4, l5⟩ := S3 j (by omega)
        exact ⟨by simp [rA_u, rA_uI, rA_uL, hjn, l0], by simp [rA_u, rA_uI, rA_uL, hjn, l1], by simp [rA_u, rA_uI, rA_uL, hjn, l2], by simp [rA_u, rA_uI, rA_uL, hjn, l3], by simp [rA_u, rA_uI, rA_uL, hjn, l4], by simpa [rA_u, rA_uI, hjn] using l5⟩
set_option maxHeartbeats 2000000 in
theorem lw_ok_16 (x m t : Nat) : ok_16 (lw_I x m t) x m t := by
  intro k zc wc zm wm hk hI a1 a2
  obtain ⟨B, N, M, hS, hM, hV⟩ := id hI
  obtain ⟨hTim, hTap, hRig, hSho, hRoc, hFam, hPit, hLot, hSto, hFor⟩ := id hV
  have hox := sc_x hS
  have hot := sc_t hS
  have hom := sm_m hM
  unfold wc_16 wp_L_light wp_X9_light wp_X10_light
  have hn12 := hS.2.2.2.2.1.1
  have e26 := hPit.2.1
  have eP : vI (uI wm 1000 m 0) 1026 m = nI (N 908 0) := by rw [vI_u]; simpa using e26
  rcases inI_cases a1 (N 908 0) (by omega) with h1 | ⟨i, hi, rfl, h1⟩
  · simp [-Prod.forall, -Prod.exists, hox, hot, hom, th0 hom, th1 hom, thr hom, vI_u, rI_uA, rI_uL, rA_uI, rL_uI, rL_uA, rL_u, i10, i11, n10, mF, in9, in10, c0, jx, jx0, jb, jb0, nP0 hS h1, mP hM eP, h1]
    exact lw_keep hI (by repeat' (first | with_reducible refine frW.uI ?_ (by decide) | with_reducible refine frW.uA ?_ (by decide) | with_reducible refine frW.uF ?_ (by decide) | with_reducible refine frW.uL ?_ | exact frW.rfl _ _ _)) (by repeat' (first | with_reducible refine frW.uI ?_ (by decide) | with_reducible refine frW.uA ?_ (by decide) | with_reducible refine frW.uF ?_ (by decide) | with_reducible refine frW.uL ?_ | exact frW.rfl _ _ _))
  · have v1 : vp_in (nI i) 12 := vp_in_nI (by omega) (by decide)
    have v2 : (nI i).toNatClampNeg = i := nI_clamp (by omega)
    obtain ⟨p1, p2, p3⟩ := hS.2.2.2.2.1.2.2.1 i hi
    obtain ⟨q1, q2, q3, d, hd, q4⟩ := hPit.2.2.1 i hi
    obtain ⟨f1, f2, f3, f4⟩ := hS.2.1.1 (N 300 i) p3
    rcases inI_01 a2 20 1000 with h2 | h2
    · simp [-Prod.forall, -Prod.exists, hox, hot, hom, th0 hom, th1 hom, thr hom, vI_u, rI_uA, rI_uL, rA_uI, rL_uI, rL_uA, rL_u, i10, i11, n10, mF, in9, in10, c0, jx, jx0, jb, jb0, nP1 hS hi, p1, h1, h2, mP hM eP]
      exact lw_keep hI (by repeat' (first | with_reducible refine frW.uI ?_ (by decide) | with_reducible refine frW.uA ?_ (by decide) | with_reducible refine frW.uF ?_ (by decide) | with_reducible refine frW.uL ?_ | exact frW.rfl _ _ _)) (by repeat' (first | with_reducible refine frW.uI ?_ (by decide) | with_reducible refine frW.uA ?_ (by decide) | with_reducible refine frW.uF ?_ (by decide) | with_reducible refine frW.uL ?_ | exact frW.rfl _ _ _))
    by_cases h3 : d = 0
    · subst h3
      rw [nI_0] at q4
      obtain ⟨e1, e2, e3, e4, e5, e6, e7, -⟩ := hFam.1 (N 300 i) p3
      have v3 : vp_in (nI (N 300 i)) 8 := vp_in_nI p3 (by decide)
      have v4 : (nI (N 300 i)).toNatClampNeg = N 300 i := nI_clamp (by omega)
      have w0 : ¬ (0 : Int32) < 0 := by decide
      by_cases h4 : a2 ≤ vA wm 2017 (M 1017) (N 300 i)
      · have h4b : ¬ vA wm 2017 (M 1017) (N 300 i) < a2 := Int32.not_lt.mpr h4
        simp [-Prod.forall, -Prod.exists, hox, hot, hom, th0 hom, th1 hom, thr hom, vI_u, rI_uA, rI_uL, rA_uI, rL_uI, rL_uA, rL_u, i10, i11, n10, mF, in9, in10, c0, jx, jx0, jb, jb0, nP1 hS hi, p1, p2, f2, h1, h2, mP hM eP, q1, q2, q3, q4, w0, v1, v2, v3, v4, e4, h4, h4b, sm_1017 hM, sm_1023 hM, sm_1024 hM, sm_1025 hM, rA_u]
        refine ⟨B, N, M, hS, hM, hTim.fr (by repeat' (first | with_reducible refine frW.uI ?_ (by decide) | with_reducible refine frW.uA ?_ (by decide) | with_reducible refine frW.uF ?_ (by decide) | with_reducible refine frW.uL ?_ | exact frW.rfl _ _ _)) (by repeat' (first | with_reducible refine frW.uI ?_ (by decide) | with_reducible refine frW.uA ?_ (by decide) | with_reducible refine frW.uF ?_ (by decide) | with_reducible refine frW.uL ?_ | exact frW.rfl _ _ _)), hTap.fr (by repeat' (first | with_reducible refine frW.uI ?_ (by decide) | with_reducible refine frW.uA ?_ (by decide) | with_reducible refine frW.uF ?_ (by decide) | with_reducible refine frW.uL ?_ | exact frW.rfl _ _ _)) (by repeat' (first | with_reducible refine frW.uI ?_ (by decide) | with_reducible refine frW.uA ?_ (by decide) | with_reducible refine frW.uF ?_ (by decide) | with_reducible refine frW.uL ?_ | exact frW.rfl _ _ _)), hRig.fr (by repeat' (first | with_reducible refine frW.uI ?_ (by decide) | with_reducible refine frW.uA ?_ (by decide) | with_reducible refine frW.uF ?_ (by decide) | with_reducible refine frW.uL ?_ | exact frW.rfl _ _ _)) (by repeat' (first | with_reducible refine frW.uI ?_ (by decide) | with_reducible refine frW.uA ?_ (by decide) | with_reducible refine frW.uF ?_ (by decide) | with_reducible refine frW.uL ?_ | exact frW.rfl _ _ _)), hSho.fr (by repeat' (first | with_reducible refine frW.uI ?_ (by decide) | with_reducible refine frW.uA ?_ (by decide) | with_reducible refine frW.uF ?_ (by decide) | with_reducible refine frW.uL ?_ | exact frW.rfl _ _ _)) (by repeat' (first | with_reducible refine frW.uI ?_ (by decide) | with_reducible refine frW.uA ?_ (by decide) | with_reducible refine frW.uF ?_ (by decide) | with_reducible refine frW.uL ?_ | exact frW.rfl _ _ _)), hRoc.fr (by repeat' (first | with_reducible refine frW.uI ?_ (by decide) | with_reducible refine frW.uA ?_ (by decide) | with_reducible refine frW.uF ?_ (by decide) | with_reducible refine frW.uL ?_ | exact frW.rfl _ _ _)) (by repeat' (first | with_reducible refine frW.uI ?_ (by decide) | with_reducible refine frW.uA ?_ (by decide) | with_reducible refine frW.uF ?_ (by decide) | with_reducible refine frW.uL ?_ | exact frW.rfl _ _ _)), ?_, ?_, hLot.fr (by repeat' (first | with_reducible refine frW.uI ?_ (by decide) | with_reducible refine frW.uA ?_ (by decide) | with_reducible refine frW.uF ?_ (by decide) | with_reducible refine frW.uL ?_ | exact frW.rfl _ _ _)) (by repeat' (first | with_reducible refine frW.uI ?_ (by decide) | with_reducible refine frW.uA ?_ (by decide) | with_reducible refine frW.uF ?_ (by decide) | with_reducible refine frW.uL ?_ | exact frW.rfl _ _ _)), hSto.fr (by repeat' (first | with_reducible refine frW.uI ?_ (by decide) | with_reducible refine frW.uA ?_ (by decide) | with_reducible refine frW.uF ?_ (by decide) | with_reducible refine frW.uL ?_ | exact frW.rfl _ _ _)) (by repeat' (first | with_reducible refine frW.uI ?_ (by decide) | with_reducible refine frW.uA ?_ (by decide) | with_reducible refine frW.uF ?_ (by decide) | with_reducible refine frW.uL ?_ | exact frW.rfl _ _ _)), hFor.fr (by repeat' (first | with_reducible refine frW.uI ?_ (by decide) | with_reducible refine frW.uA ?_ (by decide) | with_reducible refine frW.uF ?_ (by decide) | with_reducible refine frW.uL ?_ | exact frW.rfl _ _ _)) (by repeat' (first | with_reducible refine frW.uI ?_ (by decide) | with_reducible refine frW.uA ?_ (by decide) | with_reducible refine frW.uF ?_ (by decide) | with_reducible refine frW.uL ?_ | exact frW.rfl _ _ _))⟩
        · refine ⟨fun j hj => ?_, hFam.2⟩
          obtain ⟨e1, e2, e3, e4, e5, e6, e7, v, hv, e8⟩ := hFam.1 j hj
          have hij := hS.2.1.2.1 j (N 300 i) hj p3
          refine ⟨?_, ?_, ?_, ?_, ?_, ?_, ?_, v, by omega, ?_⟩ <;> simp [vI_u, rA_u, rA_uI, rI_uA, rI_uL, hij, e1, e2, e3, e4, e5, e6, e7, e8]
        · refine ⟨by simp [vI_u, rI_uL, hPit.1], by simp [vI_u, rI_uA, e26], fun j hj => ?_, fun j hj hj2 => ?_⟩
          · obtain ⟨q1, q2, q3, dj, hdj, q4⟩ := hPit.2.2.1 j hj
            have hij := hS.2.2.2.2.1.2.2.2 j i hj hi
            refine ⟨by simp [vI_u, rA_u, rA_uI, rI_uL, hij, q1], by simp [vI_u, rA_u, rA_uI, rI_uL, hij, q2], by simp [rA_u, rA_uI, q3], ?_⟩
            by_cases hji : j = i
            · exact ⟨3, by omega, by simp [rA_u, hji]; rfl⟩
            · exact ⟨dj, hdj, by simp [rA_u, rA_uI, hji, q4]⟩
          · have hji : ¬ j = i := by omega
            simpa [rA_u, rA_uI, hji] using hPit.2.2.2 j hj hj2
      · have h4b : vA wm 2017 (M 1017) (N 300 i) < a2 := Int32.not_le.mp h4
        simp [-Prod.forall, -Prod.exists, hox, hot, hom, th0 hom, th1 hom, thr hom, vI_u, rI_uA, rI_uL, rA_uI, rL_uI, rL_uA, rL_u, i10, i11, n10, mF, in9, in10, c0, jx, jx0, jb, jb0, nP1 hS hi, p1, p2, f2, h1, h2, mP hM eP, q1, q2, q3, q4, w0, v1, v2, v3, v4, e4, h4, h4b, sm_1017 hM, sm_1023 hM, sm_1024 hM, sm_1025 hM]
        exact lw_keep hI (by repeat' (first | with_reducible refine frW.uI ?_ (by decide) | with_reducible refine frW.uA ?_ (by decide) | with_reducible refine frW.uF ?_ (by decide) | with_reducible refine frW.uL ?_ | exact frW.rfl _ _ _)) (by repeat' (first | with_reducible refine frW.uI ?_ (by decide) | with_reducible refine frW.uA ?_ (by decide) | with_reducible refine frW.uF ?_ (by decide) | with_reducible refine frW.uL ?_ | exact frW.rfl _ _ _))
    · have w0 : (0 : Int32) < nI d := nI_lt (a := 0) (by omega) (by omega)
      have w0b : ¬ nI d ≤ 0 := Int32.not_le.mpr w0
      simp [-Prod.forall, -Prod.exists, hox, hot, hom, th0 hom, th1 hom, thr hom, vI_u, rI_uA, rI_uL, rA_uI, rL_uI, rL_uA, rL_u, i10, i11, n10, mF, in9, in10, c0, jx, jx0, jb, jb0, nP1 hS hi, p1, p2, f2, h1, h2, mP hM eP, q1, q2, q3, q4, w0, w0b, v1, v2, sm_1017 hM, sm_1023 hM, sm_1024 hM, sm_1025 hM]
      exact lw_keep hI (by repeat' (first | with_reducible refine frW.uI ?_ (by decide) | with_reducible refine frW.uA ?_ (by decide) | with_reducible refine frW.uF ?_ (by decide) | with_reducible refine frW.uL ?_ | exact frW.rfl _ _ _)) (by repeat' (first | with_reducible refine frW.uI ?_ (by decide) | with_reducible refine frW.uA ?_ (by decide) | with_reducible refine frW.uF ?_ (by decide) | with_reducible refine frW.uL ?_ | exact frW.rfl _ _ _))
