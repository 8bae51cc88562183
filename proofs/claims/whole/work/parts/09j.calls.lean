/-! PURE PART: cut, gather agree -/
theorem amt {a : Int32} (h : inI a 1 1000 = 1) : ∃ c : Nat, c ≤ 1000 ∧ a = nI c := by
  obtain ⟨h1, h2⟩ := inI_1 h
  have e1 : (1 : Int32).toInt = 1 := rfl
  have e2 : (1000 : Int32).toInt = 1000 := rfl
  have h3 : ¬ a < 0 := by
    rw [Int32.lt_iff_toInt_lt]
    have e0 : (0 : Int32).toInt = 0 := rfl
    omega
  obtain ⟨j, hj, rfl⟩ := nI_of h3
  rw [nI_toInt hj] at h1 h2
  exact ⟨j, by omega, rfl⟩
theorem mr_same {cy cd cb cb2 f td rest : Int32} (h : cb = cb2 ∨ cd = -1) (ht : ¬ td = -1) : mrV cy cd cb f td rest = mrV cy cd cb2 f td rest := by
  rcases h with rfl | h
  · rfl
  · have h1 : ∀ y : Int32, ¬ (cd = td ∧ y = f) := fun y q => ht (q.1 ▸ h)
    unfold mrV
    rw [if_neg (h1 _), if_neg (h1 _)]
set_option maxHeartbeats 2000000 in
theorem lw_ok_9 (x m t : Nat) : ok_9 (lw_I x m t) x m t := by
  intro k zc wc zm wm hk hI a1 a2 a3 a4
  obtain ⟨B, N, M, hS, hM, hV⟩ := id hI
  obtain ⟨hTim, hTap, hRig, hSho, hRoc, hFam, hPit, hLot, hSto, hFor⟩ := id hV
  have hox := sc_x hS
  have hot := sc_t hS
  have hom := sm_m hM
  obtain ⟨T1, T2, d, hd, T3⟩ := hTim
  obtain ⟨R1, R2, n, hn, R3, R4⟩ := hRig
  have hn6 := hS.2.2.1.1
  have e14 := hSho.2.1
  have eS : vI (uI wm 1000 m 0) 1014 m = nI (N 905 0) := by rw [vI_u]; simpa using e14
  unfold wc_9 wp_L_cut
  rcases inI_cases a1 (N 905 0) (by omega) with h1 | ⟨q, hq, rfl, h1⟩
  · unfold wp_X9_cut wp_X10_cut wp_X10_noRock
    simp [-Prod.forall, -Prod.exists, hox, hot, hom, th0 hom, th1 hom, thr hom, vI_u, rI_uA, rI_uL, rA_uI, rL_uI, rL_uA, rL_u, i10, i11, n10, mF, in9, in10, c0, jx, jx0, jb, jb0, nS0 hS h1, mS hM eS, h1]
    exact lw_keep hI (by repeat' (first | with_reducible refine frW.uI ?_ (by decide) | with_reducible refine frW.uA ?_ (by decide) | with_reducible refine frW.uF ?_ (by decide) | with_reducible refine frW.uL ?_ | exact frW.rfl _ _ _)) (by repeat' (first | with_reducible refine frW.uI ?_ (by decide) | with_reducible refine frW.uA ?_ (by decide) | with_reducible refine frW.uF ?_ (by decide) | with_reducible refine frW.uL ?_ | exact frW.rfl _ _ _))
  have v1 : vp_in (nI q) 6 := vp_in_nI (by omega) (by decide)
  have v2 : (nI q).toNatClampNeg = q := nI_clamp (by omega)
  obtain ⟨c1, c2, c3⟩ := hSho.2.2.1 q hq
  obtain ⟨s1, s2, s3, s4⟩ := hS.2.2.1.2.2.1 q hq
  rcases inI_cases a2 (N 601 q) (by omega) with h2 | ⟨r, hr, rfl, h2⟩
  · unfold wp_X9_cut wp_X10_cut wp_X10_noRock
    simp [-Prod.forall, -Prod.exists, hox, hot, hom, th0 hom, th1 hom, thr hom, vI_u, rI_uA, rI_uL, rA_uI, rL_uI, rL_uA, rL_u, i10, i11, n10, mF, in9, in10, c0, jx, jx0, jb, jb0, nS1 hS hq, nR0 hS hq h2, s1, mS hM eS, h1, h2, v1, v2, c3, sm_1012 hM]
    exact lw_keep hI (by repeat' (first | with_reducible refine frW.uI ?_ (by decide) | with_reducible refine frW.uA ?_ (by decide) | with_reducible refine frW.uF ?_ (by decide) | with_reducible refine frW.uL ?_ | exact frW.rfl _ _ _)) (by repeat' (first | with_reducible refine frW.uI ?_ (by decide) | with_reducible refine frW.uA ?_ (by decide) | with_reducible refine frW.uF ?_ (by decide) | with_reducible refine frW.uL ?_ | exact frW.rfl _ _ _))
  have r1 := hS.2.2.2.1.2.1 q r hq hr
  rcases inI_cases a3 8 (by decide) with h3 | ⟨i, hi, rfl, h3⟩ <;> rw [i8_eq] at h3
  · unfold wp_X9_cut wp_X10_cut wp_X10_noRock
    simp [-Prod.forall, -Prod.exists, hox, hot, hom, th0 hom, th1 hom, thr hom, vI_u, rI_uA, rI_uL, rA_uI, rL_uI, rL_uA, rL_u, i10, i11, n10, mF, in9, in10, c0, jx, jx0, jb, jb0, nS1 hS hq, nR1 hS hq hr, nF0 hS h3, s1, r1, mS hM eS, h1, h2, h3, v1, v2, c3, sm_1012 hM]
    exact lw_keep hI (by repeat' (first | with_reducible refine frW.uI ?_ (by decide) | with_reducible refine frW.uA ?_ (by decide) | with_reducible refine frW.uF ?_ (by decide) | with_reducible refine frW.uL ?_ | exact frW.rfl _ _ _)) (by repeat' (first | with_reducible refine frW.uI ?_ (by decide) | with_reducible refine frW.uA ?_ (by decide) | with_reducible refine frW.uF ?_ (by decide) | with_reducible refine frW.uL ?_ | exact frW.rfl _ _ _))
  have f1 := (hS.2.1.1 i hi).2.1
  rcases inI_01 a4 1 1000 with ha | ha
  · unfold wp_X9_cut wp_X10_cut wp_X10_noRock wp_X9_needAmount
    simp [-Prod.forall, -Prod.exists, hox, hot, hom, th0 hom, th1 hom, thr hom, vI_u, rI_uA, rI_uL, rA_uI, rL_uI, rL_uA, rL_u, i10, i11, n10, mF, in9, in10, c0, jx, jx0, jb, jb0, nS1 hS hq, nR1 hS hq hr, nF1 hS hi, s1, r1, f1, mS hM eS, h1, h2, h3, ha, v1, v2, c3, sm_1012 hM]
    exact lw_keep hI (by repeat' (first | with_reducible refine frW.uI ?_ (by decide) | with_reducible refine frW.uA ?_ (by decide) | with_reducible refine frW.uF ?_ (by decide) | with_reducible refine frW.uL ?_ | exact frW.rfl _ _ _)) (by repeat' (first | with_reducible refine frW.uI ?_ (by decide) | with_reducible refine frW.uA ?_ (by decide) | with_reducible refine frW.uF ?_ (by decide) | with_reducible refine frW.uL ?_ | exact frW.rfl _ _ _))
  refine ⟨hox, hot, cut_cF hS hq hr hi ha hn (R2.trans R3) hd (T1.trans T3) ?_⟩
  obtain ⟨k0, k1, k2, k3, k4, k5, k6, k7, k8, k9⟩ := hRoc.1 q r hq hr
  obtain ⟨y1, y2, y3, y4, y5, y6, y7, yv, hyv, y8⟩ := hFam.1 i hi
  rw [fp_same (m := m) R4, T2, k0, k6, k7, mr_same k8 (nIne (j := d) (by omega)), R1, k2, y1, y2]
  refine ⟨hot, fun w2 e2 => ⟨hom, cut_mF hM hq hn6 hr s4 hi ha hn e14 c3 R3 hd T3 k9 ?_⟩⟩
  rw [thr hom]
  subst e2
  generalize hov : cutO (fstP (hitM M wm (nI q) (nI i) (nI (d % 100))) 0 n) (vI wm 1002 m) (vA wm 2003 (M 1003) (4 * q + r)) (mrV (vA wm 2006 (M 1006) (4 * q + r)) (vA wm 2011 (M 1011) (4 * q + r)) (vA wm 2010 (M 1010) (4 * q + r)) (nI i) (nI d) (vI wm 1031 m)) a4 (vA wm 2005 (M 1005) (4 * q + r)) (wlV (vA wm 2015 (M 1015) i) (vA wm 2019 (M 1019) i)) = ov
  by_cases h0 : ov = 0
  · subst h0
    rcases fstP_cases (hitM M wm (nI q) (nI i) (nI (d % 100))) n 0 with g | ⟨j, -, hj, -, g⟩
    · rw [g] at hov
      simp [cutO, n10] at hov
    have hj : j < n := by omega
    have v9 : (nI j).toNatClampNeg = j := nI_clamp (by omega)
    rw [g, v9, if_pos rfl, if_pos rfl]
    refine ⟨hom, by simp [vI_u, rI_uA], fun h => absurd rfl h, fun _ => ⟨hot, by simp [rL_u], ?_⟩⟩
    refine ⟨B, N, M, hS, hM, (show vTim x m wc wm from ⟨T1, T2, d, hd, T3⟩).fr (by repeat' (first | with_reducible refine frW.uI ?_ (by decide) | with_reducible refine frW.uA ?_ (by decide) | with_reducible refine frW.uF ?_ (by decide) | with_reducible refine frW.uL ?_ | exact frW.rfl _ _ _)) (by repeat' (first | with_reducible refine frW.uI ?_ (by decide) | with_reducible refine frW.uA ?_ (by decide) | with_reducible refine frW.uF ?_ (by decide) | with_reducible refine frW.uL ?_ | exact frW.rfl _ _ _)), hTap.fr (by repeat' (first | with_reducible refine frW.uI ?_ (by decide) | with_reducible refine frW.uA ?_ (by decide) | with_reducible refine frW.uF ?_ (by decide) | with_reducible refine frW.uL ?_ | exact frW.rfl _ _ _)) (by repeat' (first | with_reducible refine frW.uI ?_ (by decide) | with_reducible refine frW.uA ?_ (by decide) | with_reducible refine frW.uF ?_ (by decide) | with_reducible refine frW.uL ?_ | exact frW.rfl _ _ _)), (show vRig m B M wc wm from ⟨R1, R2, n, hn, R3, R4⟩).fr (by repeat' (first | with_reducible refine frW.uI ?_ (by decide) | with_reducible refine frW.uA ?_ (by decide) | with_reducible refine frW.uF ?_ (by decide) | with_reducible refine frW.uL ?_ | exact frW.rfl _ _ _)) (by repeat' (first | with_reducible refine frW.uI ?_ (by decide) | with_reducible refine frW.uA ?_ (by decide) | with_reducible refine frW.uF ?_ (by decide) | with_reducible refine frW.uL ?_ | exact frW.rfl _ _ _)), hSho.fr (by repeat' (first | with_reducible refine frW.uI ?_ (by decide) | with_reducible refine frW.uA ?_ (by decide) | with_reducible refine frW.uF ?_ (by decide) | with_reducible refine frW.uL ?_ | exact frW.rfl _ _ _)) (by repeat' (first | with_reducible refine frW.uI ?_ (by decide) | with_reducible refine frW.uA ?_ (by decide) | with_reducible refine frW.uF ?_ (by decide) | with_reducible refine frW.uL ?_ | exact frW.rfl _ _ _)), ?_, ?_, hPit.fr (by repeat' (first | with_reducible refine frW.uI ?_ (by decide) | with_reducible refine frW.uA ?_ (by decide) | with_reducible refine frW.uF ?_ (by decide) | with_reducible refine frW.uL ?_ | exact frW.rfl _ _ _)) (by repeat' (first | with_reducible refine frW.uI ?_ (by decide) | with_reducible refine frW.uA ?_ (by decide) | with_reducible refine frW.uF ?_ (by decide) | with_reducible refine frW.uL ?_ | exact frW.rfl _ _ _)), hLot.fr (by repeat' (first | with_reducible refine frW.uI ?_ (by decide) | with_reducible refine frW.uA ?_ (by decide) | with_reducible refine frW.uF ?_ (by decide) | with_reducible refine frW.uL ?_ | exact frW.rfl _ _ _)) (by repeat' (first | with_reducible refine frW.uI ?_ (by decide) | with_reducible refine frW.uA ?_ (by decide) | with_reducible refine frW.uF ?_ (by decide) | with_reducible refine frW.uL ?_ | exact frW.rfl _ _ _)), hSto.fr (by repeat' (first | with_reducible refine frW.uI ?_ (by decide) | with_reducible refine frW.uA ?_ (by decide) | with_reducible refine frW.uF ?_ (by decide) | with_reducible refine frW.uL ?_ | exact frW.rfl _ _ _)) (by repeat' (first | with_reducible refine frW.uI ?_ (by decide) | with_reducible refine frW.uA ?_ (by decide) | with_reducible refine frW.uF ?_ (by decide) | with_reducible refine frW.uL ?_ | exact frW.rfl _ _ _)), hFor.fr (by repeat' (first | with_reducible refine frW.uI ?_ (by decide) | with_reducible refine frW.uA ?_ (by decide) | with_reducible refine frW.uF ?_ (by decide) | with_reducible refine frW.uL ?_ | exact frW.rfl _ _ _)) (by repeat' (first | with_reducible refine frW.uI ?_ (by decide) | with_reducible refine frW.uA ?_ (by decide) | with_reducible refine frW.uF ?_ (by decide) | with_reducible refine frW.uL ?_ | exact frW.rfl _ _ _))⟩
    · refine ⟨fun i' r' hi' hr' => ?_, fun i' r' hi' hr' hn' => ?_⟩
      · obtain ⟨l0, l1, l2, l3, l4, l5, l6, l7, l8, l9⟩ := hRoc.1 i' r' hi' hr'
        have hr4 : r' < 4 := by have := (hS.2.2.1.2.2.1 i' hi').2.2.2; omega
        have hij := hS.2.2.2.1.2.2 i' r' q r hi' hr' hq hr
        by_cases hh : i' = q ∧ r' = r
        · obtain ⟨rfl, rfl⟩ := hh
          refine ⟨?_, ?_, ?_, ?_, ?_, ?_, ?_, ?_, Or.inl ?_, Or.inr ⟨d / 100, by omega, ?_⟩⟩ <;> simp [vI_u, rA_u, rA_uI, rI_uA, rI_uL, rA_uL, l0, l1, l2, l3, l4, l5, l6, l7]
        · have h5 : ¬ B 1600 i' r' = B 1600 q r := fun h => hh (hij.mp h)
          have h6 : ¬ 4 * i' + r' = 4 * q + r := by omega
          refine ⟨?_, ?_, ?_, ?_, ?_, ?_, ?_, ?_, ?_, ?_⟩
          all_goals simp [vI_u, rA_u, rA_uI, rI_uA, rI_uL, rA_uL, h5, h6, l0, l1, l2, l3, l4, l5, l6, l7]
          · exact l8
          · exact l9
      · have h6 : ¬ 4 * i' + r' = 4 * q + r := by
          intro h
          have h7 : i' = q ∧ r' = r := by omega
          exact hn' ⟨h7.1 ▸ hq, h7.1 ▸ h7.2 ▸ hr⟩
        simpa [rA_u, rA_uI, h6] using hRoc.2 i' r' hi' hr' hn'
    · refine ⟨fun j' hj' => ?_, fun i' j' hi' hj' => ?_⟩
      · obtain ⟨e1, e2, e3, e4, e5, e6, e7, v, hv, e8⟩ := hFam.1 j' hj'
        have hij := hS.2.1.2.1 j' i hj' hi
        obtain ⟨ca, hca, rfl⟩ := amt ha
        by_cases hji : j' = i
        · subst hji
          refine ⟨?_, ?_, ?_, ?_, ?_, ?_, ?_, v + ca, by omega, ?_⟩ <;> simp [vI_u, rA_u, rA_uI, rI_uA, rI_uL, rA_uL, e1, e2, e3, e4, e5, e6, e7, e8, nI_add]
        · have hij2 : ¬ B 1906 j' 0 = B 1906 i 0 := fun h => hji (hij.mp h)
          refine ⟨?_, ?_, ?_, ?_, ?_, ?_, ?_, v, by omega, ?_⟩ <;> simp [vI_u, rA_u, rA_uI, rI_uA, rI_uL, rA_uL, hij2, hji, e1, e2, e3, e4, e5, e6, e7, e8]
      · have e9 := hFam.2 i' j' hi' hj'
        have e10 := hFam.2 i (6 * (d / 100) + q) hi (by omega)
        have e11 := (R4 j hj).2.2.2.2
        have hij := hS.2.1.2.2 i' i hi' hi
        by_cases hh : i' = i ∧ j' = 6 * (d / 100) + q
        · obtain ⟨rfl, rfl⟩ := hh
          simp [rA_u, rA_uI, rA_uL, e9, e11]
        · have h5 : ¬ (B 0 i' 0 = B 0 i 0 ∧ j' = 6 * (d / 100) + q) := fun h => hh ⟨hij.mp h.1, h.2⟩
          have h6 : ¬ 8 * j' + i' = 8 * (6 * (d / 100) + q) + i := by omega
          simp [rA_u, rA_uI, rA_uL, h5, h6, e9]
  · rw [if_neg h0, if_neg h0]
    refine ⟨hom, by simp [vI_u], fun h => absurd rfl h, fun _ => ⟨hot, by simp [rL_u], ?_⟩⟩
    exact lw_keep hI (by repeat' (first | with_reducible refine frW.uI ?_ (by decide) | with_reducible refine frW.uA ?_ (by decide) | with_reducible refine frW.uF ?_ (by decide) | with_reducible refine frW.uL ?_ | exact frW.rfl _ _ _)) (by repeat' (first | with_reducible refine frW.uI ?_ (by decide) | with_reducible refine frW.uA ?_ (by decide) | with_reducible refine frW.uF ?_ (by decide) | with_reducible refine frW.uL ?_ | exact frW.rfl _ _ _))
