/-! PURE PART: sell agrees -/
theorem lotM_old {M : Nat → Nat} {m L n i j : Nat} {w : Vt} {f a st db d : Int32} (h : j < 6 * L) : vA (lotM M m w L n f a st db d i) 2040 (M 1040) j = vA w 2040 (M 1040) j := by
  have h0 : ¬ j = 6 * L := by omega
  have h1 : ¬ j = 6 * L + 1 := by omega
  have h2 : ¬ j = 6 * L + 2 := by omega
  have h3 : ¬ j = 6 * L + 3 := by omega
  have h4 : ¬ j = 6 * L + 4 := by omega
  have h5 : ¬ j = 6 * L + 5 := by omega
  simp [rA_u, rA_uI, h0, h1, h2, h3, h4, h5]
theorem lotM_new {M : Nat → Nat} {m L n i : Nat} {w : Vt} {f a st db d : Int32} : vA (lotM M m w L n f a st db d i) 2040 (M 1040) (6 * L) = f ∧ vA (lotM M m w L n f a st db d i) 2040 (M 1040) (6 * L + 1) = a ∧ vA (lotM M m w L n f a st db d i) 2040 (M 1040) (6 * L + 2) = st ∧ vA (lotM M m w L n f a st db d i) 2040 (M 1040) (6 * L + 3) = db ∧ vA (lotM M m w L n f a st db d i) 2040 (M 1040) (6 * L + 4) = a * st ∧ vA (lotM M m w L n f a st db d i) 2040 (M 1040) (6 * L + 5) = nI n := by
  refine ⟨?_, ?_, ?_, ?_, ?_, ?_⟩ <;> simp [rA_u, rA_uI]
theorem gv1 {a many v : Int32} {F : Nat → Int32} {mm : Nat} (ha : inI a 1 1000 = 1) (h3 : 3 ≤ mm) (h5 : mm ≤ 5) (em : many = nI mm) (hT : allT F mm = true) (h : goodV a many F v) : v = 1 := by
  rcases h with ⟨e, -⟩ | ⟨-, g | g | ⟨m2, a3, a5, e2, hT2⟩⟩
  · exact e
  · rw [ha] at g; exact absurd g (by decide)
  · exfalso
    rw [em] at g
    have : mm = 3 ∨ mm = 4 ∨ mm = 5 := by omega
    rcases this with rfl | rfl | rfl <;> exact absurd g (by decide)
  · have : mm = m2 := (nI_eq (by omega) (by omega)).mp (em.symm.trans e2)
    subst this
    exact absurd hT hT2
theorem gv0 {a many v : Int32} {F : Nat → Int32} (hb : inI many 3 5 = 0 ∨ ∃ mm : Nat, 3 ≤ mm ∧ mm ≤ 5 ∧ many = nI mm ∧ ¬ allT F mm = true) (h : goodV a many F v) : v = 0 := by
  rcases h with ⟨-, -, mm, h3, h5, em, hT⟩ | ⟨e, -⟩
  · exfalso
    rcases hb with g | ⟨m2, a3, a5, e2, hT2⟩
    · rw [em] at g
      have : mm = 3 ∨ mm = 4 ∨ mm = 5 := by omega
      rcases this with rfl | rfl | rfl <;> exact absurd g (by decide)
    · have : mm = m2 := (nI_eq (by omega) (by omega)).mp (em.symm.trans e2)
      subst this
      exact hT2 hT
  · exact e
theorem gv00 {a many v : Int32} {F : Nat → Int32} (ha : inI a 1 1000 = 0) (h : goodV a many F v) : v = 0 := by
  rcases h with ⟨-, g, -⟩ | ⟨e, -⟩
  · rw [ha] at g; exact absurd g (by decide)
  · exact e
set_option maxHeartbeats 2000000 in
theorem lw_ok_18 (x m t : Nat) : ok_18 (lw_I x m t) x m t := by
  intro k zc wc zm wm hk hI a1 a2 a3 a4 a5 a6 a7 a8
  obtain ⟨B, N, M, hS, hM, hV⟩ := id hI
  obtain ⟨hTim, hTap, hRig, hSho, hRoc, hFam, hPit, hLot, hSto, hFor⟩ := id hV
  have hox := sc_x hS
  have hot := sc_t hS
  have hom := sm_m hM
  obtain ⟨F, rfl, rfl, rfl, rfl, rfl⟩ : ∃ F : Nat → Int32, F 0 = a4 ∧ F 1 = a5 ∧ F 2 = a6 ∧ F 3 = a7 ∧ F 4 = a8 := ⟨fun j => match j with
    | 0 => a4
    | 1 => a5
    | 2 => a6
    | 3 => a7
    | _ => a8, rfl, rfl, rfl, rfl, rfl⟩
  obtain ⟨T1, T2, d, hd, T3⟩ := hTim
  obtain ⟨S1, n, hn, S2, S3⟩ := hSto
  obtain ⟨L1, L2, L3⟩ := hLot
  have hn60 := hS.2.2.2.2.2.1
  have i01 : ¬ (0 : Int32) = 1 := by decide
  unfold wc_18 wp_L_sell
  rcases inI_cases a1 8 (by decide) with h1 | ⟨i, hi, rfl, h1⟩ <;> rw [i8_eq] at h1
  · unfold wp_X9_sell
    refine ⟨hox, hot, hox, (nF0 hS h1).mpr (Or.inl ⟨rfl, hom, sell_m0 hM (fun y v hv => ?_)⟩)⟩
    unfold sellR
    rw [mF, h1, i10, th1 hom]
    refine ⟨fun _ => ?_, fun h => absurd h (by decide)⟩
    refine ⟨hom, (thr hom _ _).mpr ⟨by simp [vI_u], fun _ => ?_, fun h => absurd h (by decide)⟩⟩
    exact lw_keep hI (by repeat' (first | with_reducible refine frW.uI ?_ (by decide) | with_reducible refine frW.uA ?_ (by decide) | with_reducible refine frW.uF ?_ (by decide) | with_reducible refine frW.uL ?_ | exact frW.rfl _ _ _)) (by repeat' (first | with_reducible refine frW.uI ?_ (by decide) | with_reducible refine frW.uA ?_ (by decide) | with_reducible refine frW.uF ?_ (by decide) | with_reducible refine frW.uL ?_ | exact frW.rfl _ _ _))
  have f1 := (hS.2.1.1 i hi).2.1
  have r5 : ∀ j, j < 5 → vA (m5 M (uI wm 1000 m 0) F) 2039 (M 1039) j = F j := m5_row
  rcases inI_01 a2 1 1000 with ha | ha
  · unfold wp_X9_sell wp_X9_needAmount
    refine ⟨hox, hot, hox, (nF1 hS hi).mpr ⟨f1, ?_⟩⟩
    rw [in9, ha]
    refine ⟨fun h => absurd rfl h, fun _ => Or.inr ⟨rfl, hom, sell_m0 hM (fun y v hv => sellR_m hM hi hn60 hn r5 L2 S2 T3 hv (fun h0 => ?_) (fun h => absurd ((gv00 ha hv).symm.trans h) i01) (fun h => absurd ((gv00 ha hv).symm.trans h) i01))⟩⟩
    refine ⟨hom, (thr hom _ _).mpr ⟨by simp [vI_u], fun _ => ?_, fun h => absurd h (by decide)⟩⟩
    exact lw_keep hI (by repeat' (first | with_reducible refine frW.uI ?_ (by decide) | with_reducible refine frW.uA ?_ (by decide) | with_reducible refine frW.uF ?_ (by decide) | with_reducible refine frW.uL ?_ | exact frW.rfl _ _ _)) (by repeat' (first | with_reducible refine frW.uI ?_ (by decide) | with_reducible refine frW.uA ?_ (by decide) | with_reducible refine frW.uF ?_ (by decide) | with_reducible refine frW.uL ?_ | exact frW.rfl _ _ _))
  refine ⟨hox, hot, sell_c hS hi ha hn (S1.trans S2) L1 (T1.trans T3) (fun hb => Or.inr ⟨rfl, hom, sell_m0 hM (fun y v hv => sellR_m hM hi hn60 hn r5 L2 S2 T3 hv (fun h0 => ?_) (fun h => absurd ((gv0 hb hv).symm.trans h) i01) (fun h => absurd ((gv0 hb hv).symm.trans h) i01))⟩) (fun mm h3 h5 em hT hb => ⟨hot, fun w2 e2 => ⟨hom, sell_m0 hM (fun y v hv => sellR_m hM hi hn60 hn r5 L2 S2 T3 hv (fun h0 => absurd (h0.symm.trans (gv1 ha h3 h5 em hT hv)) i01) (fun _ _ => ?_) (fun _ m2 _ _ _ _ g1 g2 g3 => ?_))⟩⟩) (fun mm h3 h5 em hT g1 g2 g3 w20 lo hi' md q1 q2 q3 hF q hq Sq => ⟨sc_t Sq, fun w2 e2 => ⟨hom, sell_m0 hM (fun y v hv => sellR_m hM hi hn60 hn r5 L2 S2 T3 hv (fun h0 => absurd (h0.symm.trans (gv1 ha h3 h5 em hT hv)) i01) (fun _ gg => ?_) (fun _ m2 b3 b5 em2 hT2 _ _ _ => ?_))⟩⟩)⟩
  · refine ⟨hom, (thr hom _ _).mpr ⟨by simp [vI_u], fun _ => ?_, fun h => absurd h (by decide)⟩⟩
    exact lw_keep hI (by repeat' (first | with_reducible refine frW.uI ?_ (by decide) | with_reducible refine frW.uA ?_ (by decide) | with_reducible refine frW.uF ?_ (by decide) | with_reducible refine frW.uL ?_ | exact frW.rfl _ _ _)) (by repeat' (first | with_reducible refine frW.uI ?_ (by decide) | with_reducible refine frW.uA ?_ (by decide) | with_reducible refine frW.uF ?_ (by decide) | with_reducible refine frW.uL ?_ | exact frW.rfl _ _ _))
  · subst e2
    refine ⟨hom, (thr hom _ _).mpr ⟨by simp [vI_u, rI_uA], fun h => absurd rfl h, fun _ => ⟨hot, by simp [rL_u], ?_⟩⟩⟩
    exact lw_keep hI (by repeat' (first | with_reducible refine frW.uI ?_ (by decide) | with_reducible refine frW.uA ?_ (by decide) | with_reducible refine frW.uF ?_ (by decide) | with_reducible refine frW.uL ?_ | exact frW.rfl _ _ _)) (by repeat' (first | with_reducible refine frW.uI ?_ (by decide) | with_reducible refine frW.uA ?_ (by decide) | with_reducible refine frW.uF ?_ (by decide) | with_reducible refine frW.uL ?_ | exact frW.rfl _ _ _))
  · exfalso
    obtain ⟨e1, e2, e3, e4, e5, -⟩ := hFam.1 i hi
    have g1' : ¬ vA wm 2018 (M 1018) i < a2 := by simpa [rA_u, rA_uI] using g1
    rcases hb with hb | hb | hb
    · rw [e5] at hb
      exact g1' hb
    · omega
    · omega
  · exfalso
    obtain ⟨e1, e2, e3, e4, e5, -⟩ := hFam.1 i hi
    rcases gg with gg | gg | gg
    · have gg' : vA wm 2018 (M 1018) i < a2 := by simpa [rA_u, rA_uI] using gg
      rw [e5] at g1
      exact g1 gg'
    · omega
    · omega
  · have em3 : mm = m2 := (nI_eq (by omega) (by omega)).mp (em.symm.trans em2)
    subst em3
    have hall := (allT_iff mm).mp hT
    have z1 : lo = mnF F mm := kth_uniq q1 (mn_kth (by omega) hall)
    have z2 : hi' = mxF F mm := kth_uniq q2 (mx_kth (by omega) hall)
    have z3 : md = mdF F mm ((mm - 1) / 2) mm := kth_uniq q3 (md_kth q3)
    rw [← z1, ← z2, ← z3]
    clear z1 z2 z3 q1 q2 q3
    generalize stV lo hi' md = st at *
    have hdb : isB (dbV lo hi') := by
      unfold dbV
      split
      · exact isB0
      · exact isB1
    generalize dbV lo hi' = db at *
    subst e2
    have V20 : VV x m (k + 1) B N M w20 wm := (hV.up (Nat.le_succ k)).fr hF (frW.rfl _ _ _)
    obtain ⟨k1, k2, k3, k4, k5, k6, k7, k8, k9, k10⟩ := id V20
    obtain ⟨A1, nn, hnn, A2, A3⟩ := k9
    have hnn2 : nn = n := (nI_eq (by omega) (by omega)).mp (A2.symm.trans S2)
    subst hnn2
    have V32 : VV x m (k + 1) B N M (uI (addC B w20 nn (nI i) (a2 * st) (nI d)) 5 (B 1906 i 0) (vI w20 5 (B 1906 i 0) - a2)) (lotM M m (m5 M (uI wm 1000 m 0) F) (N 910 0) nn (nI i) a2 st db (nI d) i) := by
      refine ⟨k1.fr (by repeat' (first | with_reducible refine frW.uI ?_ (by decide) | with_reducible refine frW.uA ?_ (by decide) | with_reducible refine frW.uF ?_ (by decide) | with_reducible refine frW.uL ?_ | exact frW.rfl _ _ _)) (by repeat' (first | with_reducible refine frW.uI ?_ (by decide) | with_reducible refine frW.uA ?_ (by decide) | with_reducible refine frW.uF ?_ (by decide) | with_reducible refine frW.uL ?_ | exact frW.rfl _ _ _)), k2.fr (by repeat' (first | with_reducible refine frW.uI ?_ (by decide) | with_reducible refine frW.uA ?_ (by decide) | with_reducible refine frW.uF ?_ (by decide) | with_reducible refine frW.uL ?_ | exact frW.rfl _ _ _)) (by repeat' (first | with_reducible refine frW.uI ?_ (by decide) | with_reducible refine frW.uA ?_ (by decide) | with_reducible refine frW.uF ?_ (by decide) | with_reducible refine frW.uL ?_ | exact frW.rfl _ _ _)), k3.fr (by repeat' (first | with_reducible refine frW.uI ?_ (by decide) | with_reducible refine frW.uA ?_ (by decide) | with_reducible refine frW.uF ?_ (by decide) | with_reducible refine frW.uL ?_ | exact frW.rfl _ _ _)) (by repeat' (first | with_reducible refine frW.uI ?_ (by decide) | with_reducible refine frW.uA ?_ (by decide) | with_reducible refine frW.uF ?_ (by decide) | with_reducible refine frW.uL ?_ | exact frW.rfl _ _ _)), k4.fr (by repeat' (first | with_reducible refine frW.uI ?_ (by decide) | with_reducible refine frW.uA ?_ (by decide) | with_reducible refine frW.uF ?_ (by decide) | with_reducible refine frW.uL ?_ | exact frW.rfl _ _ _)) (by repeat' (first | with_reducible refine frW.uI ?_ (by decide) | with_reducible refine frW.uA ?_ (by decide) | with_reducible refine frW.uF ?_ (by decide) | with_reducible refine frW.uL ?_ | exact frW.rfl _ _ _)), k5.fr (by repeat' (first | with_reducible refine frW.uI ?_ (by decide) | with_reducible refine frW.uA ?_ (by decide) | with_reducible refine frW.uF ?_ (by decide) | with_reducible refine frW.uL ?_ | exact frW.rfl _ _ _)) (by repeat' (first | with_reducible refine frW.uI ?_ (by decide) | with_reducible refine frW.uA ?_ (by decide) | with_reducible refine frW.uF ?_ (by decide) | with_reducible refine frW.uL ?_ | exact frW.rfl _ _ _)), ?_, k7.fr (by repeat' (first | with_reducible refine frW.uI ?_ (by decide) | with_reducible refine frW.uA ?_ (by decide) | with_reducible refine frW.uF ?_ (by decide) | with_reducible refine frW.uL ?_ | exact frW.rfl _ _ _)) (by repeat' (first | with_reducible refine frW.uI ?_ (by decide) | with_reducible refine frW.uA ?_ (by decide) | with_reducible refine frW.uF ?_ (by decide) | with_reducible refine frW.uL ?_ | exact frW.rfl _ _ _)), ?_, ?_, k10.fr (by repeat' (first | with_reducible refine frW.uI ?_ (by decide) | with_reducible refine frW.uA ?_ (by decide) | with_reducible refine frW.uF ?_ (by decide) | with_reducible refine frW.uL ?_ | exact frW.rfl _ _ _)) (by repeat' (first | with_reducible refine frW.uI ?_ (by decide) | with_reducible refine frW.uA ?_ (by decide) | with_reducible refine frW.uF ?_ (by decide) | with_reducible refine frW.uL ?_ | exact frW.rfl _ _ _))⟩
      · refine ⟨fun j hj => ?_, fun i' j' hi2 hj2 => ?_⟩
        · obtain ⟨e1, e2, e3, e4, e5, e6, e7, v, hv2, e8⟩ := k6.1 j hj
          have hij := hS.2.1.2.1 j i hj hi
          refine ⟨?_, ?_, ?_, ?_, ?_, ?_, ?_, v, by omega, ?_⟩ <;> simp [vI_u, rA_u, rA_uI, rI_uA, hij, e1, e2, e3, e4, e5, e6, e7, e8]
          by_cases hh : j = i
          · subst hh
            simp [e5]
          · simp [hh, e5]
        · simpa [rA_u, rA_uI] using k6.2 i' j' hi2 hj2
      · refine ⟨by simpa [vI_u, rI_uA] using k8.1, by simpa [vI_u, rI_uA] using k8.2.1, fun j hj => ?_⟩
        obtain ⟨l0, l1, l2, l3, l5, lb, l4⟩ := k8.2.2 j hj
        have q5 : ∀ c, vA (m5 M (uI wm 1000 m 0) F) 2040 (M 1040) c = vA wm 2040 (M 1040) c := fun c => by simp [rA_u, rA_uI]
        rw [lotM_old (by omega), lotM_old (by omega), lotM_old (by omega), lotM_old (by omega), lotM_old (by omega), lotM_old (by omega), q5, q5, q5, q5, q5, q5]
        exact ⟨by simpa [vI_u, rI_uA] using l0, by simpa [vI_u, rI_uA] using l1, by simpa [vI_u, rI_uA] using l2, by simpa [vI_u, rI_uA] using l3, by simpa [vI_u, rI_uA] using l5, lb, l4⟩
      · refine ⟨by simp [vI_u, rI_uA], nn + 1, by omega, by simp [vI_u, rI_uA], fun j hj => ?_⟩
        by_cases hjn : j = nn
        · subst hjn
          refine ⟨by simp [rA_u, rA_uI], by simp [rA_u, rA_uI], by simp [rA_u, rA_uI], by simp [rA_u, rA_uI], by simp [rA_u, rA_uI], Or.inl (by simp [rA_u, rA_uI])⟩
        · obtain ⟨l0, l1, l2, l3, l4, l5⟩ := A3 j (by omega)
          exact ⟨by simp [rA_u, rA_uI, hjn, l0], by simp [rA_u, rA_uI, hjn, l1], by simp [rA_u, rA_uI, hjn, l2], by simp [rA_u, rA_uI, hjn, l3], by simp [rA_u, rA_uI, hjn, l4], by simpa [rA_u, rA_uI, hjn] using l5⟩
    have fz : frZ zc (uI (addC B w20 nn (nI i) (a2 * st) (nI d)) 5 (B 1906 i 0) (vI w20 5 (B 1906 i 0) - a2)) (uI (uI (uI (uI (uI (nV (uI (addC B w20 nn (nI i) (a2 * st) (nI d)) 5 (B 1906 i 0) (vI w20 5 (B 1906 i 0) - a2)) q) 200 q (nI i)) 201 q a2) 202 q st) 203 q db) 204 q (nI nn)) := ((((((frZ.rfl _ _).nV hq).uI hq).uI hq).uI hq).uI hq).uI hq
    have V35 := V32.frZ hS fz
    have hxq : ¬ x = q := lt_of_mem hox hq
    have g0 : ∀ W : Vt, (vI (uI (uI (uI (uI (uI W 200 q (nI i)) 201 q a2) 202 q st) 203 q db) 204 q (nI nn)) 200 q = nI i ∧ vI (uI (uI (uI (uI (uI W 200 q (nI i)) 201 q a2) 202 q st) 203 q db) 204 q (nI nn)) 201 q = a2 ∧ vI (uI (uI (uI (uI (uI W 200 q (nI i)) 201 q a2) 202 q st) 203 q db) 204 q (nI nn)) 202 q = st ∧ vI (uI (uI (uI (uI (uI W 200 q (nI i)) 201 q a2) 202 q st) 203 q db) 204 q (nI nn)) 203 q = db ∧ vI (uI (uI (uI (uI (uI W 200 q (nI i)) 201 q a2) 202 q st) 203 q db) 204 q (nI nn)) 204 q = nI nn) := by
      intro W
      refine ⟨?_, ?_, ?_, ?_, ?_⟩ <;> simp [vI_u]
    have g9 := g0 (nV (uI (addC B w20 nn (nI i) (a2 * st) (nI d)) 5 (B 1906 i 0) (vI w20 5 (B 1906 i 0) - a2)) q)
    generalize (uI (uI (uI (uI (uI (nV (uI (addC B w20 nn (nI i) (a2 * st) (nI d)) 5 (B 1906 i 0) (vI w20 5 (B 1906 i 0) - a2)) q) 200 q (nI i)) 201 q a2) 202 q st) 203 q db) 204 q (nI nn)) = w35 at *
    obtain ⟨p0, p1, p2, p3, p4, p5⟩ := lotM_new (M := M) (m := m) (L := N 910 0) (n := nn) (i := i) (w := m5 M (uI wm 1000 m 0) F) (f := nI i) (a := a2) (st := st) (db := db) (d := nI d)
    have t0 : vI (lotM M m (m5 M (uI wm 1000 m 0) F) (N 910 0) nn (nI i) a2 st db (nI d) i) 1000 m = 0 := by simp [vI_u, rI_uA]
    generalize lotM M m (m5 M (uI wm 1000 m 0) F) (N 910 0) nn (nI i) a2 st db (nI d) i = wm2 at *
    obtain ⟨m1, m2, m3, m4, m5', m6, m7, m8, m9, m10⟩ := V35
    refine ⟨hom, (thr hom _ _).mpr ⟨by simp [vI_u, t0], fun h => absurd rfl h, fun _ => ⟨sc_t Sq, by simp [rL_u], ?_⟩⟩⟩
    refine ⟨ltB B (N 910 0) q, ltN N (N 910 0), M, Sq, hM, m1.fr (by repeat' (first | with_reducible refine frW.uI ?_ (by decide) | with_reducible refine frW.uA ?_ (by decide) | with_reducible refine frW.uF ?_ (by decide) | with_reducible refine frW.uL ?_ | exact frW.rfl _ _ _)) (by repeat' (first | with_reducible refine frW.uI ?_ (by decide) | with_reducible refine frW.uA ?_ (by decide) | with_reducible refine frW.uF ?_ (by decide) | with_reducible refine frW.uL ?_ | exact frW.rfl _ _ _)), m2.fr (by repeat' (first | with_reducible refine frW.uI ?_ (by decide) | with_reducible refine frW.uA ?_ (by decide) | with_reducible refine frW.uF ?_ (by decide) | with_reducible refine frW.uL ?_ | exact frW.rfl _ _ _)) (by repeat' (first | with_reducible refine frW.uI ?_ (by decide) | with_reducible refine frW.uA ?_ (by decide) | with_reducible refine frW.uF ?_ (by decide) | with_reducible refine frW.uL ?_ | exact frW.rfl _ _ _)), m3.fr (by repeat' (first | with_reducible refine frW.uI ?_ (by decide) | with_reducible refine frW.uA ?_ (by decide) | with_reducible refine frW.uF ?_ (by decide) | with_reducible refine frW.uL ?_ | exact frW.rfl _ _ _)) (by repeat' (first | with_reducible refine frW.uI ?_ (by decide) | with_reducible refine frW.uA ?_ (by decide) | with_reducible refine frW.uF ?_ (by decide) | with_reducible refine frW.uL ?_ | exact frW.rfl _ _ _)), m4.fr (by repeat' (first | with_reducible refine frW.uI ?_ (by decide) | with_reducible refine frW.uA ?_ (by decide) | with_reducible refine frW.uF ?_ (by decide) | with_reducible refine frW.uL ?_ | exact frW.rfl _ _ _)) (by repeat' (first | with_reducible refine frW.uI ?_ (by decide) | with_reducible refine frW.uA ?_ (by decide) | with_reducible refine frW.uF ?_ (by decide) | with_reducible refine frW.uL ?_ | exact frW.rfl _ _ _)), m5'.fr (by repeat' (first | with_reducible refine frW.uI ?_ (by decide) | with_reducible refine frW.uA ?_ (by decide) | with_reducible refine frW.uF ?_ (by decide) | with_reducible refine frW.uL ?_ | exact frW.rfl _ _ _)) (by repeat' (first | with_reducible refine frW.uI ?_ (by decide) | with_reducible refine frW.uA ?_ (by decide) | with_reducible refine frW.uF ?_ (by decide) | with_reducible refine frW.uL ?_ | exact frW.rfl _ _ _)), m6.fr (by repeat' (first | with_reducible refine frW.uI ?_ (by decide) | with_reducible refine frW.uA ?_ (by decide) | with_reducible refine frW.uF ?_ (by decide) | with_reducible refine frW.uL ?_ | exact frW.rfl _ _ _)) (by repeat' (first | with_reducible refine frW.uI ?_ (by decide) | with_reducible refine frW.uA ?_ (by decide) | with_reducible refine frW.uF ?_ (by decide) | with_reducible refine frW.uL ?_ | exact frW.rfl _ _ _)), m7.fr (by repeat' (first | with_reducible refine frW.uI ?_ (by decide) | with_reducible refine frW.uA ?_ (by decide) | with_reducible refine frW.uF ?_ (by decide) | with_reducible refine frW.uL ?_ | exact frW.rfl _ _ _)) (by repeat' (first | with_reducible refine frW.uI ?_ (by decide) | with_reducible refine frW.uA ?_ (by decide) | with_reducible refine frW.uF ?_ (by decide) | with_reducible refine frW.uL ?_ | exact frW.rfl _ _ _)), ?_, m9.fr (by repeat' (first | with_reducible refine frW.uI ?_ (by decide) | with_reducible refine frW.uA ?_ (by decide) | with_reducible refine frW.uF ?_ (by decide) | with_reducible refine frW.uL ?_ | exact frW.rfl _ _ _)) (by repeat' (first | with_reducible refine frW.uI ?_ (by decide) | with_reducible refine frW.uA ?_ (by decide) | with_reducible refine frW.uF ?_ (by decide) | with_reducible refine frW.uL ?_ | exact frW.rfl _ _ _)), m10.fr (by repeat' (first | with_reducible refine frW.uI ?_ (by decide) | with_reducible refine frW.uA ?_ (by decide) | with_reducible refine frW.uF ?_ (by decide) | with_reducible refine frW.uL ?_ | exact frW.rfl _ _ _)) (by repeat' (first | with_reducible refine frW.uI ?_ (by decide) | with_reducible refine frW.uA ?_ (by decide) | with_reducible refine frW.uF ?_ (by decide) | with_reducible refine frW.uL ?_ | exact frW.rfl _ _ _))⟩
    refine ⟨by simp [rI_uL, vI_u, ltN], by simp [vI_u, ltN], fun j hj => ?_⟩
    have hj : j < N 910 0 + 1 := hj
    by_cases hh : j = N 910 0
    · subst hh
      have b1 : ltB B (N 910 0) q 1909 (N 910 0) 0 = q := by simp [ltB]
      obtain ⟨y0, y1, y2, y3, y4⟩ := g9
      rw [b1]
      refine ⟨?_, ?_, ?_, ?_, ?_, ?_, ?_⟩
      · simp [rI_uL, vI_u, rA_uI, y0, p0]
      · simp [rI_uL, vI_u, rA_uI, y1, p1]
      · simp [rI_uL, vI_u, rA_uI, y2, p2]
      · simp [rI_uL, vI_u, rA_uI, y3, p3]
      · simp [rI_uL, vI_u, rA_uI, y4, p5]
      · rw [rA_uI, p3]
        exact hdb
      · rw [rA_uI, p4, p1, p2]
    · have b1 : ltB B (N 910 0) q 1909 j 0 = B 1909 j 0 := by simp [ltB, hh]
      obtain ⟨l0, l1, l2, l3, l5, lb, l4⟩ := m8.2.2 j (by omega)
      rw [b1, rA_uI]
      exact ⟨by simpa [rI_uL, vI_u] using l0, by simpa [rI_uL, vI_u] using l1, by simpa [rI_uL, vI_u] using l2, by simpa [rI_uL, vI_u] using l3, by simpa [rI_uL, vI_u] using l5, lb, l4⟩
