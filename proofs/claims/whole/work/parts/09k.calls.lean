/-! PURE PART: gather agrees -/
set_option maxHeartbeats 2000000 in
theorem lw_ok_10 (x m t : Nat) : ok_10 (lw_I x m t) x m t := by
  intro k zc wc zm wm hk hI a1 a2 a3
  obtain ⟨B, N, M, hS, hM, hV⟩ := id hI
  obtain ⟨hTim, hTap, hRig, hSho, hRoc, hFam, hPit, hLot, hSto, hFor⟩ := id hV
  have hox := sc_x hS
  have hot := sc_t hS
  have hom := sm_m hM
  obtain ⟨T1, T2, d, hd, T3⟩ := hTim
  obtain ⟨R1, R2, n, hn, R3, R4⟩ := hRig
  have hn6 := hS.2.2.1.1
  have e14 := hSho.2.1
  have eS : vI (uI wm 1000 m 0) 1014 m = nI (N 905 0) := by rw [vI_u]; simpa using e14
  unfold wc_10 wp_L_gather
  rcases inI_cases a1 (N 905 0) (by omega) with h1 | ⟨q, hq, rfl, h1⟩
  · unfold wp_X9_gather wp_X10_gather
    simp [-Prod.forall, -Prod.exists, hox, hot, hom, th0 hom, th1 hom, thr hom, vI_u, rI_uA, rI_uL, rA_uI, rL_uI, rL_uA, rL_u, i10, i11, n10, mF, in9, in10, c0, jx, jx0, jb, jb0, nS0 hS h1, mS hM eS, h1]
    exact lw_keep hI (by repeat' (first | with_reducible refine frW.uI ?_ (by decide) | with_reducible refine frW.uA ?_ (by decide) | with_reducible refine frW.uF ?_ (by decide) | with_reducible refine frW.uL ?_ | exact frW.rfl _ _ _)) (by repeat' (first | with_reducible refine frW.uI ?_ (by decide) | with_reducible refine frW.uA ?_ (by decide) | with_reducible refine frW.uF ?_ (by decide) | with_reducible refine frW.uL ?_ | exact frW.rfl _ _ _))
  have v1 : vp_in (nI q) 6 := vp_in_nI (by omega) (by decide)
  have v2 : (nI q).toNatClampNeg = q := nI_clamp (by omega)
  obtain ⟨c1, c2, c3⟩ := hSho.2.2.1 q hq
  obtain ⟨s1, s2, s3, s4⟩ := hS.2.2.1.2.2.1 q hq
  rcases inI_cases a2 8 (by decide) with h3 | ⟨i, hi, rfl, h3⟩ <;> rw [i8_eq] at h3
  · unfold wp_X9_gather wp_X10_gather
    simp [-Prod.forall, -Prod.exists, hox, hot, hom, th0 hom, th1 hom, thr hom, vI_u, rI_uA, rI_uL, rA_uI, rL_uI, rL_uA, rL_u, i10, i11, n10, mF, in9, in10, c0, jx, jx0, jb, jb0, nS1 hS hq, nF0 hS h3, s1, mS hM eS, h1, h3]
    exact lw_keep hI (by repeat' (first | with_reducible refine frW.uI ?_ (by decide) | with_reducible refine frW.uA ?_ (by decide) | with_reducible refine frW.uF ?_ (by decide) | with_reducible refine frW.uL ?_ | exact frW.rfl _ _ _)) (by repeat' (first | with_reducible refine frW.uI ?_ (by decide) | with_reducible refine frW.uA ?_ (by decide) | with_reducible refine frW.uF ?_ (by decide) | with_reducible refine frW.uL ?_ | exact frW.rfl _ _ _))
  have f1 := (hS.2.1.1 i hi).2.1
  rcases inI_01 a3 1 1000 with ha | ha
  · unfold wp_X9_gather wp_X10_gather wp_X9_needAmount
    simp [-Prod.forall, -Prod.exists, hox, hot, hom, th0 hom, th1 hom, thr hom, vI_u, rI_uA, rI_uL, rA_uI, rL_uI, rL_uA, rL_u, i10, i11, n10, mF, in9, in10, c0, jx, jx0, jb, jb0, nS1 hS hq, nF1 hS hi, s1, f1, mS hM eS, h1, h3, ha]
    exact lw_keep hI (by repeat' (first | with_reducible refine frW.uI ?_ (by decide) | with_reducible refine frW.uA ?_ (by decide) | with_reducible refine frW.uF ?_ (by decide) | with_reducible refine frW.uL ?_ | exact frW.rfl _ _ _)) (by repeat' (first | with_reducible refine frW.uI ?_ (by decide) | with_reducible refine frW.uA ?_ (by decide) | with_reducible refine frW.uF ?_ (by decide) | with_reducible refine frW.uL ?_ | exact frW.rfl _ _ _))
  refine ⟨hox, hot, gat_cF hS hq hi ha hn (R2.trans R3) hd (T1.trans T3) ?_⟩
  obtain ⟨y1, y2, y3, y4, y5, y6, y7, yv, hyv, y8⟩ := hFam.1 i hi
  rw [fp_same (m := m) R4, c2, y1, y2]
  refine ⟨hot, fun w2 e2 => ⟨hom, gat_mF hM hq hn6 hi ha hn e14 R3 hd T3 ?_⟩⟩
  rw [thr hom]
  subst e2
  generalize hov : gatO (fstP (hitM M wm (nI q) (nI i) (nI (d % 100))) 0 n) a3 (vA wm 2013 (M 1013) q) (wlV (vA wm 2015 (M 1015) i) (vA wm 2019 (M 1019) i)) = ov
  by_cases h0 : ov = 0
  · subst h0
    rcases fstP_cases (hitM M wm (nI q) (nI i) (nI (d % 100))) n 0 with g | ⟨j, -, hj, -, g⟩
    · rw [g] at hov
      simp [gatO, n10] at hov
    have hj : j < n := by omega
    have v9 : (nI j).toNatClampNeg = j := nI_clamp (by omega)
    rw [g, v9, if_pos rfl, if_pos rfl]
    refine ⟨hom, by simp [vI_u, rI_uA], fun h => absurd rfl h, fun _ => ⟨hot, by simp [rL_u], ?_⟩⟩
    refine ⟨B, N, M, hS, hM, (show vTim x m wc wm from ⟨T1, T2, d, hd, T3⟩).fr (by repeat' (first | with_reducible refine frW.uI ?_ (by decide) | with_reducible refine frW.uA ?_ (by decide) | with_reducible refine frW.uF ?_ (by decide) | with_reducible refine frW.uL ?_ | exact frW.rfl _ _ _)) (by repeat' (first | with_reducible refine frW.uI ?_ (by decide) | with_reducible refine frW.uA ?_ (by decide) | with_reducible refine frW.uF ?_ (by decide) | with_reducible refine frW.uL ?_ | exact frW.rfl _ _ _)), hTap.fr (by repeat' (first | with_reducible refine frW.uI ?_ (by decide) | with_reducible refine frW.uA ?_ (by decide) | with_reducible refine frW.uF ?_ (by decide) | with_reducible refine frW.uL ?_ | exact frW.rfl _ _ _)) (by repeat' (first | with_reducible refine frW.uI ?_ (by decide) | with_reducible refine frW.uA ?_ (by decide) | with_reducible refine frW.uF ?_ (by decide) | with_reducible refine frW.uL ?_ | exact frW.rfl _ _ _)), (show vRig m B M wc wm from ⟨R1, R2, n, hn, R3, R4⟩).fr (by repeat' (first | with_reducible refine frW.uI ?_ (by decide) | with_reducible refine frW.uA ?_ (by decide) | with_reducible refine frW.uF ?_ (by decide) | with_reducible refine frW.uL ?_ | exact frW.rfl _ _ _)) (by repeat' (first | with_reducible refine frW.uI ?_ (by decide) | with_reducible refine frW.uA ?_ (by decide) | with_reducible refine frW.uF ?_ (by decide) | with_reducible refine frW.uL ?_ | exact frW.rfl _ _ _)), ?_, hRoc.fr (by repeat' (first | with_reducible refine frW.uI ?_ (by decide) | with_reducible refine frW.uA ?_ (by decide) | with_reducible refine frW.uF ?_ (by decide) | with_reducible refine frW.uL ?_ | exact frW.rfl _ _ _)) (by repeat' (first | with_reducible refine frW.uI ?_ (by decide) | with_reducible refine frW.uA ?_ (by decide) | with_reducible refine frW.uF ?_ (by decide) | with_reducible refine frW.uL ?_ | exact frW.rfl _ _ _)), ?_, hPit.fr (by repeat' (first | with_reducible refine frW.uI ?_ (by decide) | with_reducible refine frW.uA ?_ (by decide) | with_reducible refine frW.uF ?_ (by decide) | with_reducible refine frW.uL ?_ | exact frW.rfl _ _ _)) (by repeat' (first | with_reducible refine frW.uI ?_ (by decide) | with_reducible refine frW.uA ?_ (by decide) | with_reducible refine frW.uF ?_ (by decide) | with_reducible refine frW.uL ?_ | exact frW.rfl _ _ _)), hLot.fr (by repeat' (first | with_reducible refine frW.uI ?_ (by decide) | with_reducible refine frW.uA ?_ (by decide) | with_reducible refine frW.uF ?_ (by decide) | with_reducible refine frW.uL ?_ | exact frW.rfl _ _ _)) (by repeat' (first | with_reducible refine frW.uI ?_ (by decide) | with_reducible refine frW.uA ?_ (by decide) | with_reducible refine frW.uF ?_ (by decide) | with_reducible refine frW.uL ?_ | exact frW.rfl _ _ _)), hSto.fr (by repeat' (first | with_reducible refine frW.uI ?_ (by decide) | with_reducible refine frW.uA ?_ (by decide) | with_reducible refine frW.uF ?_ (by decide) | with_reducible refine frW.uL ?_ | exact frW.rfl _ _ _)) (by repeat' (first | with_reducible refine frW.uI ?_ (by decide) | with_reducible refine frW.uA ?_ (by decide) | with_reducible refine frW.uF ?_ (by decide) | with_reducible refine frW.uL ?_ | exact frW.rfl _ _ _)), hFor.fr (by repeat' (first | with_reducible refine frW.uI ?_ (by decide) | with_reducible refine frW.uA ?_ (by decide) | with_reducible refine frW.uF ?_ (by decide) | with_reducible refine frW.uL ?_ | exact frW.rfl _ _ _)) (by repeat' (first | with_reducible refine frW.uI ?_ (by decide) | with_reducible refine frW.uA ?_ (by decide) | with_reducible refine frW.uF ?_ (by decide) | with_reducible refine frW.uL ?_ | exact frW.rfl _ _ _))⟩
    · refine ⟨by simp [vI_u, rI_uA, rI_uL, hSho.1], by simp [vI_u, rI_uA, e14], fun i' hi' => ?_, fun i' hi' hn' => ?_⟩
      · obtain ⟨l0, l1, l2⟩ := hSho.2.2.1 i' hi'
        have hij := hS.2.2.1.2.2.2.1 i' q hi' hq
        by_cases hh : i' = q
        · subst hh
          refine ⟨?_, ?_, ?_⟩ <;> simp [vI_u, rA_u, rA_uI, rI_uA, rI_uL, rA_uL, l0, l1, l2]
        · have h5 : ¬ B 1904 i' 0 = B 1904 q 0 := fun h => hh (hij.mp h)
          refine ⟨?_, ?_, ?_⟩ <;> simp [vI_u, rA_u, rA_uI, rI_uA, rI_uL, rA_uL, h5, hh, l0, l1, l2]
      · have hh : ¬ i' = q := by omega
        simpa [rA_u, rA_uI, hh] using hSho.2.2.2 i' hi' hn'
    · refine ⟨fun j' hj' => ?_, fun i' j' hi' hj' => ?_⟩
      · obtain ⟨e1, e2, e3, e4, e5, e6, e7, v, hv, e8⟩ := hFam.1 j' hj'
        have hij := hS.2.1.2.1 j' i hj' hi
        obtain ⟨ca, hca, rfl⟩ := amt ha
        by_cases hji : j' = i
        · subst hji
          refine ⟨?_, ?_, ?_, ?_, ?_, ?_, ?_, v + ca, by omega, ?_⟩ <;> simp [vI_u, rA_u, rA_uI, rI_uA, rI_uL, rA_uL, e1, e2, e3, e4, e5, e6, e7, e8, nI_add]
        · have hij2 : ¬ B 1906 j' 0 = B 1906 i 0 := fun h => hji (hij.mp h)
          refine ⟨?_, ?_, ?_, ?_, ?_, ?_, ?_, v, by omega, ?_⟩ <;> simp [vI_u, rA_u, rA_uI, rI_uA, rI_uL, rA_uL, hij2, hji, e1, e2, e3, e4, e5, e6, e7, e8]
      · have e9 := hFam.2 i' j' hi' hj'
        have e10 := hFam.2 i (6 * (d / 100) + q) hi (by omega)
        have e11 := (R4 j hj).2.2.2.2
        have hij := hS.2.1.2.2 i' i hi' hi
        by_cases hh : i' = i ∧ j' = 6 * (d / 100) + q
        · obtain ⟨rfl, rfl⟩ := hh
          simp [rA_u, rA_uI, rA_uL, e9, e11]
        · have h5 : ¬ (B 0 i' 0 = B 0 i 0 ∧ j' = 6 * (d / 100) + q) := fun h => hh ⟨hij.mp h.1, h.2⟩
          have h6 : ¬ 8 * j' + i' = 8 * (6 * (d / 100) + q) + i := by omega
          simp [rA_u, rA_uI, rA_uL, h5, h6, e9]
  · rw [if_neg h0, if_neg h0]
    refine ⟨hom, by simp [vI_u], fun h => absurd rfl h, fun _ => ⟨hot, by simp [rL_u], ?_⟩⟩
    exact lw_keep hI (by repeat' (first | with_reducible refine frW.uI ?_ (by decide) | with_reducible refine frW.uA ?_ (by decide) | with_reducible refine frW.uF ?_ (by decide) | with_reducible refine frW.uL ?_ | exact frW.rfl _ _ _)) (by repeat' (first | with_reducible refine frW.uI ?_ (by decide) | with_reducible refine frW.uA ?_ (by decide) | with_reducible refine frW.uF ?_ (by decide) | with_reducible refine frW.uL ?_ | exact frW.rfl _ _ _))
