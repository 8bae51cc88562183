/-! PURE PART: the day agrees -/
theorem wth {a : Int32} (h : inI a 0 9 = 1) : ∃ u : Nat, u ≤ 9 ∧ a = nI u := by
  have h2 : inI a 0 (nI 10 - 1) = 1 := by rw [show nI 10 - 1 = (9 : Int32) by decide]; exact h
  rcases inI_cases a 10 (by decide) with q | ⟨i, hi, e, -⟩
  · rw [q] at h2; exact absurd h2 (by decide)
  · exact ⟨i, by omega, e⟩
theorem day_c {z : Zt} {x t d : Nat} {B : Nat → Nat → Nat → Nat} {N : Nat → Nat → Nat} {w : Vt} {a1 a2 a3 a4 : Int32} {K : Int32 → Vt → Prop} {X : Nat → Vt → Prop} (hS : SC z x t B N) (h1 : inI a1 0 9 = 1) (h2 : inI a2 0 9 = 1) (h3 : inI a3 0 9 = 1) (h4 : inI a4 0 9 = 1) (hd : d < 9999) (eT : vI w 914 x = nI d)
    (hK : wp_X9_passOverShores z x a4 (uI (uI w 914 x (nI (d + 1))) 915 x a1) (fun w16 => wp_X9_passOverFamilies z x a2 a3 w16 (fun w18 => wp_X9_passOverPits z x a3 w18 (fun w20 => ∃ n27 : Nat, wL_X9_day_105 z (B 906 0 0) x K X (fun _ _ _ _ _ _ w34 => K (vI w34 914 x) w34) n27 0 8 a1 a2 a3 a4 w20)))) : wp_X9_day z x a1 a2 a3 a4 w K X := by
  have c1 : nI d < 9999 := nI_lt (b := 9999) hd (by decide)
  unfold wp_X9_day wp_X9_isWeather
  simp only [in9, h1, h2, h3, h4, sc_x hS, true_and, isB1, eT]
  refine ⟨fun h => absurd h (by decide), fun _ => ⟨fun h => absurd h (by decide), fun _ => ⟨fun h => absurd h (by decide), fun _ => ⟨fun _ => ⟨fun _ => ?_, fun h => absurd c1 h⟩, fun h => absurd h (by decide)⟩⟩⟩⟩
  intro w14 e14 w15 e15
  subst e14 e15
  rw [nI_1]
  refine cast ?_ hK
  congr 1
  funext w16
  congr 1
  funext w18
  congr 1
  funext w20
  simp only [sc_906 hS, Option.some.injEq, exists_eq_left', true_and]
theorem day_m {z : Zt} {m d : Nat} {M : Nat → Nat} {w : Vt} {a1 a2 a3 a4 : Int32} {K : Int32 → Vt → Prop} (hM : SM z m M) (h1 : inI a1 0 9 = 1) (h2 : inI a2 0 9 = 1) (h3 : inI a3 0 9 = 1) (h4 : inI a4 0 9 = 1) (hd : d < 9999) (eT : vI w 1001 m = nI d)
    (hK : ∃ n33 : Nat, wL_X10_day_102 z m K (fun _ x35 x36 x37 x38 w39 => ∃ n46 : Nat, wL_X10_day_128 z m K (fun _ x48 x49 x50 x51 w52 => ∃ n57 : Nat, wL_X10_day_160 z m K (fun _ _ _ _ _ w63 => K (vI w63 1001 m) w63) n57 0 x48 x49 x50 x51 w52) n46 0 x35 x36 x37 x38 w39) n33 0 a1 a2 a3 a4 (uI (uI (uI w 1000 m 0) 1001 m (nI (d + 1))) 1002 m a1)) : wp_X10_day z m a1 a2 a3 a4 w K := by
  have hom := sm_m hM
  have c1 : ¬ nI d = 9999 := fun h => absurd ((nI_eq (b := 9999) (by omega) (by decide)).mp h) (by omega)
  have e1 : vI (uI w 1000 m 0) 1001 m = nI d := by rw [vI_u]; simpa using eT
  unfold wp_X10_day
  simp only [in10, h1, h2, h3, h4, hom, true_and, forall_eq]
  refine ⟨fun x5 w6 => x5 = 0 ∧ w6 = uI w 1000 m 0, ?_, fun h => absurd h (by decide), fun _ => ⟨fun h => absurd h (by decide), fun _ => ⟨fun h => absurd h (by decide), fun _ => ⟨fun _ => ⟨rfl, rfl⟩, fun h => absurd h (by decide)⟩⟩⟩⟩
  rintro x5 w6 ⟨rfl, rfl⟩
  rw [th0 hom]
  refine ⟨fun h => absurd rfl h, fun _ => ?_⟩
  rw [e1]
  refine ⟨fun x5 w6 => x5 = 0 ∧ w6 = uI w 1000 m 0, ?_, fun _ => ⟨rfl, rfl⟩, fun h => absurd h c1⟩
  rintro x5 w6 ⟨rfl, rfl⟩
  rw [th0 hom]
  refine ⟨fun _ => ?_, fun h => absurd rfl h⟩
  rw [e1, nI_1]
  exact hK
set_option maxHeartbeats 2000000 in
theorem lw_ok_8 (x m t : Nat) : ok_8 (lw_I x m t) x m t := by
  intro k zc wc zm wm hk hI a1 a2 a3 a4
  obtain ⟨B, N, M, hS, hM, hV⟩ := id hI
  obtain ⟨hTim, hTap, hRig, hSho, hRoc, hFam, hPit, hLot, hSto, hFor⟩ := id hV
  have hox := sc_x hS
  have hot := sc_t hS
  have hom := sm_m hM
  obtain ⟨T1, T2, d, hd, T3⟩ := hTim
  unfold wc_8 wp_L_day
  rcases inI_01 a1 0 9 with h1 | h1
  · unfold wp_X9_day wp_X9_isWeather wp_X10_day
    simp [-Prod.forall, -Prod.exists, hox, hot, hom, th0 hom, th1 hom, thr hom, vI_u, rI_uA, rI_uL, rA_uI, rL_uI, rL_uA, rL_u, i10, i11, n10, mF, in9, in10, c0, jx, jx0, jb, jb0, isB0, isB1, h1]
    exact lw_keep hI (by repeat' (first | with_reducible refine frW.uI ?_ (by decide) | with_reducible refine frW.uA ?_ (by decide) | with_reducible refine frW.uF ?_ (by decide) | with_reducible refine frW.uL ?_ | exact frW.rfl _ _ _)) (by repeat' (first | with_reducible refine frW.uI ?_ (by decide) | with_reducible refine frW.uA ?_ (by decide) | with_reducible refine frW.uF ?_ (by decide) | with_reducible refine frW.uL ?_ | exact frW.rfl _ _ _))
  rcases inI_01 a2 0 9 with h2 | h2
  · unfold wp_X9_day wp_X9_isWeather wp_X10_day
    simp [-Prod.forall, -Prod.exists, hox, hot, hom, th0 hom, th1 hom, thr hom, vI_u, rI_uA, rI_uL, rA_uI, rL_uI, rL_uA, rL_u, i10, i11, n10, mF, in9, in10, c0, jx, jx0, jb, jb0, isB0, isB1, h1, h2]
    exact lw_keep hI (by repeat' (first | with_reducible refine frW.uI ?_ (by decide) | with_reducible refine frW.uA ?_ (by decide) | with_reducible refine frW.uF ?_ (by decide) | with_reducible refine frW.uL ?_ | exact frW.rfl _ _ _)) (by repeat' (first | with_reducible refine frW.uI ?_ (by decide) | with_reducible refine frW.uA ?_ (by decide) | with_reducible refine frW.uF ?_ (by decide) | with_reducible refine frW.uL ?_ | exact frW.rfl _ _ _))
  rcases inI_01 a3 0 9 with h3 | h3
  · unfold wp_X9_day wp_X9_isWeather wp_X10_day
    simp [-Prod.forall, -Prod.exists, hox, hot, hom, th0 hom, th1 hom, thr hom, vI_u, rI_uA, rI_uL, rA_uI, rL_uI, rL_uA, rL_u, i10, i11, n10, mF, in9, in10, c0, jx, jx0, jb, jb0, isB0, isB1, h1, h2, h3]
    exact lw_keep hI (by repeat' (first | with_reducible refine frW.uI ?_ (by decide) | with_reducible refine frW.uA ?_ (by decide) | with_reducible refine frW.uF ?_ (by decide) | with_reducible refine frW.uL ?_ | exact frW.rfl _ _ _)) (by repeat' (first | with_reducible refine frW.uI ?_ (by decide) | with_reducible refine frW.uA ?_ (by decide) | with_reducible refine frW.uF ?_ (by decide) | with_reducible refine frW.uL ?_ | exact frW.rfl _ _ _))
  rcases inI_01 a4 0 9 with h4 | h4
  · unfold wp_X9_day wp_X9_isWeather wp_X10_day
    simp [-Prod.forall, -Prod.exists, hox, hot, hom, th0 hom, th1 hom, thr hom, vI_u, rI_uA, rI_uL, rA_uI, rL_uI, rL_uA, rL_u, i10, i11, n10, mF, in9, in10, c0, jx, jx0, jb, jb0, isB0, isB1, h1, h2, h3, h4]
    exact lw_keep hI (by repeat' (first | with_reducible refine frW.uI ?_ (by decide) | with_reducible refine frW.uA ?_ (by decide) | with_reducible refine frW.uF ?_ (by decide) | with_reducible refine frW.uL ?_ | exact frW.rfl _ _ _)) (by repeat' (first | with_reducible refine frW.uI ?_ (by decide) | with_reducible refine frW.uA ?_ (by decide) | with_reducible refine frW.uF ?_ (by decide) | with_reducible refine frW.uL ?_ | exact frW.rfl _ _ _))
  by_cases hd9 : d = 9999
  · subst hd9
    have w1 : nI 9999 = 9999 := rfl
    have w2 : ¬ (9999 : Int32) < 9999 := by decide
    have T1b : vI wc 914 x = 9999 := T1.trans T3
    have T3b : vI wm 1001 m = 9999 := T3
    unfold wp_X9_day wp_X9_isWeather wp_X10_day
    simp [-Prod.forall, -Prod.exists, hox, hot, hom, th0 hom, th1 hom, thr hom, vI_u, rI_uA, rI_uL, rA_uI, rL_uI, rL_uA, rL_u, i10, i11, n10, mF, in9, in10, c0, jx, jx0, jb, jb0, isB0, isB1, h1, h2, h3, h4, T1b, T3b, w2]
    exact lw_keep hI (by repeat' (first | with_reducible refine frW.uI ?_ (by decide) | with_reducible refine frW.uA ?_ (by decide) | with_reducible refine frW.uF ?_ (by decide) | with_reducible refine frW.uL ?_ | exact frW.rfl _ _ _)) (by repeat' (first | with_reducible refine frW.uI ?_ (by decide) | with_reducible refine frW.uA ?_ (by decide) | with_reducible refine frW.uF ?_ (by decide) | with_reducible refine frW.uL ?_ | exact frW.rfl _ _ _))
  obtain ⟨u, hu, rfl⟩ := wth h2
  have hn6 := hS.2.2.1.1
  have hr0 : ¬ a3 < 0 := by
    obtain ⟨u3, hu3, rfl⟩ := wth h3
    exact nI_pos (by omega)
  have y0 : ∃ y : Int32, y = if (d + 1) % 100 = 0 then 1 else 0 := ⟨_, rfl⟩
  obtain ⟨y, hy⟩ := y0
  have hb6 : ∀ j, j < 8 → ∃ v : Nat, v ≤ 1000 * k ∧ vA wm 2016 (M 1016) j = nI v := fun j hj => by
    obtain ⟨-, -, -, -, -, -, -, h⟩ := hFam.1 j hj
    exact h
  have hlok : ∀ p, p < N 908 0 → ∃ dd : Nat, dd ≤ 3 ∧ vA wm 2025 (M 1025) p = nI dd := fun p hp => (hPit.2.2.1 p hp).2.2.2
  refine ⟨hox, hot, day_c hS h1 h2 h3 h4 (by omega) (T1.trans T3) ?_⟩
  -- the shores of the class
  refine shs_day_c (S := (fun i r => vA wm 2005 (M 1005) (4 * i + r), fun i r => vA wm 2007 (M 1007) (4 * i + r), fun i r => vA wm 2009 (M 1009) (4 * i + r), fun i => vA wm 2013 (M 1013) i)) (room := fun i r => vA wm 2004 (M 1004) (4 * i + r)) (depth := fun i r => vA wm 2003 (M 1003) (4 * i + r)) (y := y) (d0 := d + 1) hS ?_ ?_ (by omega) (by simp [vI_u]) hy (fun w16 A1 F1 => ?_)
  · intro i hi
    refine ⟨fun r hr => ?_, by simp [vI_u, (hSho.2.2.1 i hi).2.1]⟩
    obtain ⟨l0, l1, l2, l3, l4, l5, -⟩ := hRoc.1 i r hi hr
    refine ⟨by simp [vI_u, l2], by simp [vI_u, l3], by simp [vI_u, l5]⟩
  · intro i r hi hr
    obtain ⟨l0, l1, -⟩ := hRoc.1 i r hi hr
    exact ⟨by simp [vI_u, l1], by simp [vI_u, l0]⟩
  -- the families
  refine fam_day_c (S := (fun j => vA wm 2016 (M 1016) j, fun j => vA wm 2017 (M 1017) j, fun j => vA wm 2020 (M 1020) j)) hS (fun j hj => ?_) (fun w18 A2 F2 => ?_)
  · obtain ⟨e1, e2, e3, e4, e5, e6, e7, -⟩ := hFam.1 j hj
    refine ⟨?_, ?_, ?_⟩
    · rw [F1.1 3 (by decide)]; simp [vI_u, e3]
    · rw [F1.1 4 (by decide)]; simp [vI_u, e4]
    · rw [F1.1 6 (by decide)]; simp [vI_u, e6]
  -- the pits
  refine pit_day_c (S := ((foF (nI u) a3 (fun j => vA wm 2016 (M 1016) j, fun j => vA wm 2017 (M 1017) j, fun j => vA wm 2020 (M 1020) j) 8).2.1, fun j => vA wm 2021 (M 1021) j, fun j => vA wm 2018 (M 1018) j, fun p => vA wm 2025 (M 1025) p)) (load := fun p => vA wm 2024 (M 1024) p) hS ⟨fun j hj => ?_, fun p hp => ?_⟩ (fun p hp => ?_) (fun p hp => hlok p hp) (fun w20 A3 F3 => ?_)
  · obtain ⟨e1, e2, e3, e4, e5, e6, e7, -⟩ := hFam.1 j hj
    refine ⟨(A2 j hj).2.1, ?_, ?_⟩
    · rw [F2.1 7 (by decide), F1.1 7 (by decide)]; simp [vI_u, e7]
    · rw [F2.1 5 (by decide), F1.1 5 (by decide)]; simp [vI_u, e5]
  · rw [F2.1 302 (by decide), F1.1 302 (by decide)]; simp [vI_u, (hPit.2.2.1 p hp).2.1]
  · rw [F2.1 301 (by decide), F1.1 301 (by decide)]; simp [vI_u, (hPit.2.2.1 p hp).1]
  refine wk0_c hS (fun _ _ w34 A4 F4 => ?_)
  have t34 : vI w34 914 x = nI (d + 1) := by
    rw [F4.1 914 (by decide), F3.1 914 (by decide), F2.1 914 (by decide), F1.1 914 (by decide)]; simp [vI_u]
  have t35 : vI w34 915 x = a1 := by
    rw [F4.1 915 (by decide), F3.1 915 (by decide), F2.1 915 (by decide), F1.1 915 (by decide)]; simp [vI_u]
  refine ⟨hot, fun w2 e2 => ⟨hom, ?_⟩⟩
  rw [t34] at e2
  have FC : frW [801, 903, 405, 406, 905, 601, 500, 501, 504, 506, 507, 508, 1, 908, 301, 910, 200, 201, 202, 203, 204, 705, 103] aK wc w2 := by
    rw [e2]
    refine frW.uL ?_
    refine frW.trans ?_ (F4.sub (by decide) (by decide))
    refine frW.trans ?_ (F3.sub (by decide) (by decide))
    refine frW.trans ?_ (F2.sub (by decide) (by decide))
    refine frW.trans ?_ (F1.sub (by decide) (by decide))
    exact ((frW.rfl _ _ _).uI (by decide)).uI (by decide)
  have e2I : vI w2 = vI w34 := by rw [e2]; rfl
  have e2L : vL w2 3000 t 0 = (nI (d + 1)).toInt64 := by rw [e2, rL_u]; simp
  -- the reference
  refine day_m hM h1 h2 h3 h4 (by omega) T3 ?_
  refine shs_day_m (N := N) (S := (fun i r => vA wm 2005 (M 1005) (4 * i + r), fun i r => vA wm 2007 (M 1007) (4 * i + r), fun i r => vA wm 2009 (M 1009) (4 * i + r), fun i => vA wm 2013 (M 1013) i)) (room := fun i r => vA wm 2004 (M 1004) (4 * i + r)) (depth := fun i r => vA wm 2003 (M 1003) (4 * i + r)) (y := y) (d0 := d + 1) hM hn6 (fun i hi => (hS.2.2.1.2.2.1 i hi).2.2.2) (fun i hi => ⟨fun r hr => ⟨rfl, rfl, rfl⟩, rfl⟩) (by simp [vI_u, hSho.2.1]) (fun i hi => (hSho.2.2.1 i hi).2.2) (fun i r hi hr => ⟨rfl, rfl⟩) (by omega) (by simp [vI_u]) hy (fun _ v1 C1 G1 Z1 => ?_)
  refine fam_day_m (S := (fun j => vA wm 2016 (M 1016) j, fun j => vA wm 2017 (M 1017) j, fun j => vA wm 2020 (M 1020) j)) hM (fun j hj => ⟨G1.2 2016 (by decide) _ _, G1.2 2017 (by decide) _ _, G1.2 2020 (by decide) _ _⟩) hu (fun j hj => ?_) hr0 (fun _ v2 C2 W2 G2 => ?_)
  · obtain ⟨v, hv, e⟩ := hb6 j hj
    exact ⟨v, by omega, e⟩
  refine pit_day_m (N := N) (S := ((foF (nI u) a3 (fun j => vA wm 2016 (M 1016) j, fun j => vA wm 2017 (M 1017) j, fun j => vA wm 2020 (M 1020) j) 8).2.1, fun j => vA wm 2021 (M 1021) j, fun j => vA wm 2018 (M 1018) j, fun p => vA wm 2025 (M 1025) p)) (load := fun p => vA wm 2024 (M 1024) p) hM hS.2.2.2.2.1.1 ⟨fun j hj => ⟨(C2 j hj).2.1, ?_, ?_⟩, fun p hp => ?_⟩ ?_ (fun p hp => ⟨?_, ?_, (hS.2.2.2.2.1.2.2.1 p hp).2.2⟩) (fun _ v3 C3 Z3 G3 => ?_)
  · rw [G2.2 2021 (by decide), G1.2 2021 (by decide)]; rfl
  · rw [G2.2 2018 (by decide), G1.2 2018 (by decide)]; rfl
  · rw [G2.2 2025 (by decide), G1.2 2025 (by decide)]; rfl
  · rw [G2.1 1026 (by decide), G1.1 1026 (by decide)]; simp [vI_u, hPit.2.1]
  · rw [G2.2 2024 (by decide), G1.2 2024 (by decide)]; rfl
  · rw [G2.2 2023 (by decide), G1.2 2023 (by decide)]; exact (hPit.2.2.1 p hp).2.2.1
  have s34 : vI v3 1001 m = nI (d + 1) := by
    rw [G3.1 1001 (by decide), G2.1 1001 (by decide), G1.1 1001 (by decide)]; simp [vI_u]
  have s35 : vI v3 1002 m = a1 := by
    rw [G3.1 1002 (by decide), G2.1 1002 (by decide), G1.1 1002 (by decide)]; simp [vI_u]
  rw [s34]
  refine ⟨hom, hom, ?_, fun h => absurd rfl h, fun _ => ⟨hot, e2L, ?_⟩⟩
  · rw [G3.1 1000 (by decide), G2.1 1000 (by decide), G1.1 1000 (by decide)]; simp [vI_u]
  have FM : frW [1034, 1038, 1029, 1031, 1014, 1026, 1041, 1047, 1051] [2033, 2027, 2012, 2003, 2004, 2006, 2008, 2010, 2011, 2015, 2022, 2023, 2024, 2040, 2042, 2043, 2044, 2045, 2046, 2048, 2049, 2050] wm v3 := by
    refine frW.trans ?_ (G3.sub (by decide) (by decide))
    refine frW.trans ?_ (G2.sub (by decide) (by decide))
    refine frW.trans ?_ (G1.sub (by decide) (by decide))
    exact (((frW.rfl _ _ _).uI (by decide)).uI (by decide)).uI (by decide)
  refine ⟨B, N, M, hS, hM, ⟨?_, ?_, d + 1, by omega, s34⟩, hTap.fr (FC.sub (by decide) (by decide)) (FM.sub (by decide) (by decide)), hRig.fr (FC.sub (by decide) (by decide)) (FM.sub (by decide) (by decide)), ?_, ?_, ?_, ?_, hLot.fr (FC.sub (by decide) (by decide)) (FM.sub (by decide) (by decide)), hSto.fr (FC.sub (by decide) (by decide)) (FM.sub (by decide) (by decide)), hFor.fr (FC.sub (by decide) (by decide)) (FM.sub (by decide) (by decide))⟩
  · rw [e2I, t34, s34]
  · rw [e2I, t35, s35]
  · refine ⟨(FC.1 905 (by decide) _).trans hSho.1, (FM.1 1014 (by decide) _).trans hSho.2.1, fun i hi => ⟨(FC.1 601 (by decide) _).trans (hSho.2.2.1 i hi).1, ?_, (FM.2 2012 (by decide) _ _).trans (hSho.2.2.1 i hi).2.2⟩, fun i hi hn => ⟨(FM.2 2012 (by decide) _ _).trans (hSho.2.2.2 i hi hn).1, ?_⟩⟩
    · rw [e2I, F4.1 602 (by decide), F3.1 602 (by decide), F2.1 602 (by decide), (A1 i hi).2, G3.2 2013 (by decide), G2.2 2013 (by decide), (C1 i hi).2]
    · rw [G3.2 2013 (by decide), G2.2 2013 (by decide), Z1.1 i hn]
      exact (hSho.2.2.2 i hi hn).2
  · refine ⟨fun i r hi hr => ?_, fun i r hi hr hn => ⟨(FM.2 2008 (by decide) _ _).trans (hRoc.2 i r hi hr hn).1, ?_⟩⟩
    · obtain ⟨l0, l1, l2, l3, l4, l5, l6, l7, l8, l9⟩ := hRoc.1 i r hi hr
      obtain ⟨b1, b2, b3⟩ := (A1 i hi).1 r hr
      obtain ⟨c1, c2, c3⟩ := (C1 i hi).1 r hr
      have m6 := FM.2 2006 (by decide) (M 1006) (4 * i + r)
      have m10 := FM.2 2010 (by decide) (M 1010) (4 * i + r)
      have m11 := FM.2 2011 (by decide) (M 1011) (4 * i + r)
      refine ⟨?_, ?_, ?_, ?_, ?_, ?_, ?_, ?_, ?_, ?_⟩
      · rw [FC.1 500 (by decide), FM.2 2003 (by decide), l0]
      · rw [FC.1 501 (by decide), FM.2 2004 (by decide), l1]
      · rw [e2I, F4.1 502 (by decide), F3.1 502 (by decide), F2.1 502 (by decide), b1, G3.2 2005 (by decide), G2.2 2005 (by decide), c1]
      · rw [e2I, F4.1 503 (by decide), F3.1 503 (by decide), F2.1 503 (by decide), b2, G3.2 2007 (by decide), G2.2 2007 (by decide), c2]
      · rw [FC.1 504 (by decide), FM.2 2008 (by decide), l4]
      · rw [e2I, F4.1 505 (by decide), F3.1 505 (by decide), F2.1 505 (by decide), b3, G3.2 2009 (by decide), G2.2 2009 (by decide), c3]
      · rw [FC.1 506 (by decide), m6, l6]
      · rw [FC.1 507 (by decide), m11, l7]
      · rw [FC.1 508 (by decide), m10, m11]
        exact l8
      · rw [m6]
        exact l9
    · rw [G3.2 2009 (by decide), G2.2 2009 (by decide), Z1.2 i r hi hr hn]
      exact (hRoc.2 i r hi hr hn).2
  · refine ⟨fun j hj => ?_, fun i j hi hj => ?_⟩
    · obtain ⟨e1, -, -, -, -, -, -, -⟩ := hFam.1 j hj
      obtain ⟨b1, b2, b3⟩ := A2 j hj
      obtain ⟨c1, c2, c3⟩ := C2 j hj
      obtain ⟨p1, p2, p3⟩ := A3.1 j hj
      obtain ⟨q1, q2, q3⟩ := C3.1 j hj
      obtain ⟨v, hv, ev⟩ := foF_wet (S := (fun j => vA wm 2016 (M 1016) j, fun j => vA wm 2017 (M 1017) j, fun j => vA wm 2020 (M 1020) j)) (k := 1000 * k) (rain := a3) hu (by omega) hb6 8 (Nat.le_refl 8) j hj
      refine ⟨?_, ?_, ?_, ?_, ?_, ?_, ?_, v, by omega, ?_⟩
      · rw [FC.1 1 (by decide), FM.2 2015 (by decide), e1]
      · rw [e2I, A4 j hj, G3.2 2019 (by decide), W2 j hj]
      · rw [e2I, F4.1 3 (by decide), F3.1 3 (by decide), b1, G3.2 2016 (by decide), c1]
      · rw [e2I, F4.1 4 (by decide), p1, q1]
      · rw [e2I, F4.1 5 (by decide), p3, q3]
      · rw [e2I, F4.1 6 (by decide), F3.1 6 (by decide), b3, G3.2 2020 (by decide), c3]
      · rw [e2I, F4.1 7 (by decide), p2, q2]
      · rw [G3.2 2016 (by decide), c1]
        exact ev
    · rw [FC.2 1000 (by decide), FM.2 2022 (by decide)]
      exact hFam.2 i j hi hj
  · refine ⟨(FC.1 908 (by decide) _).trans hPit.1, (FM.1 1026 (by decide) _).trans hPit.2.1, fun i hi => ⟨?_, ?_, (FM.2 2023 (by decide) _ _).trans (hPit.2.2.1 i hi).2.2.1, ?_⟩, fun i hi hn => ⟨(FM.2 2024 (by decide) _ _).trans (hPit.2.2.2 i hi hn).1, ?_⟩⟩
    · rw [FC.1 301 (by decide), FM.2 2024 (by decide)]
      exact (hPit.2.2.1 i hi).1
    · rw [e2I, F4.1 302 (by decide), A3.2 i hi, C3.2 i hi]
    · rw [C3.2 i hi]
      exact foP_ok (fun p hp => hlok p hp) (N 908 0) (Nat.le_refl _) i hi
    · rw [Z3 i hn, G2.2 2025 (by decide), G1.2 2025 (by decide)]
      exact (hPit.2.2.2 i hi hn).2
