/-! PURE PART: shore, rock, pit -/
theorem lt_of_mem {z : Zt} {t b q : Nat} (h : isO z t b) (hq : q ∉ z.2.1) : b ≠ q := fun e => hq (e ▸ h.1)
theorem nZ_mem {z : Zt} {q t b : Nat} (h : b ∈ z.2.1) : b ∈ (nZ z q t).2.1 := List.mem_append_left _ h
theorem nZ_q {z : Zt} {q t : Nat} : q ∈ (nZ z q t).2.1 := List.mem_append_right _ (List.mem_singleton.mpr rfl)
abbrev shB (B : Nat → Nat → Nat → Nat) (n q q1 : Nat) : Nat → Nat → Nat → Nat := fun a i r => if a = 1904 ∧ i = n then q else if a = 600 ∧ i = n then q1 else B a i r
abbrev shN (N : Nat → Nat → Nat) (n : Nat) : Nat → Nat → Nat := fun a i => if a = 905 then n + 1 else if a = 601 ∧ i = n then 0 else N a i
theorem shore_c {z : Zt} {x t : Nat} {B : Nat → Nat → Nat → Nat} {N : Nat → Nat → Nat} {w : Vt} {K : Int32 → Zt → Vt → Prop} {X : Nat → Vt → Prop} (hS : SC z x t B N) (e : vI w 905 x = nI (N 905 0)) (hn : N 905 0 < 6)
    (hK : ∀ (q q1 : Nat) (z1 : Zt) (w1 : Vt), q ∉ z.2.1 → q1 ∉ z.2.1 → SC z1 x t (shB B (N 905 0) q q1) (shN N (N 905 0)) → frZ z w w1 → vI w1 601 q = 0 → vI w1 602 q = 0 → K (nI (N 905 0)) z1 (uI w1 905 x (nI (N 905 0 + 1)))) : wp_X9_shore z x w K X := by
  have c1 : nI (N 905 0) < 6 := nI_lt (b := 6) hn (by decide)
  unfold wp_X9_shore wp_X6_init
  refine ⟨sc_x hS, B 904 0 0, (sc_904 hS).1, (sc_904 hS).2, ?_, fun h => absurd (e ▸ c1) h⟩
  intro _ q hq z1 ez1 w4 e4
  subst ez1 e4
  have x1 : ext z (nZ z q 6) := (ext.rfl z).nZ hq (fun _ h => h)
  have hqq : isO (nZ z q 6) 6 q := isO_nZq
  refine ⟨x1.1 _ _ (sc_x hS), hqq, x1.1 _ _ (sc_904 hS).2, hqq, ?_⟩
  intro q1 hq1 z2 ez2 w2 e2
  subst ez2 e2
  have hqq1 : q1 ≠ q := fun h => hq1 (h ▸ nZ_q)
  have hq1z : q1 ∉ z.2.1 := fun h => hq1 (nZ_mem h)
  have x2 : ext z (nZ (nZ z q 6) q1 1600) := x1.nZ hq1 (fun _ h => nZ_mem h)
  have hqq2 : isO (nZ (nZ z q 6) q1 1600) 6 q := isO_nZ hq1 hqq
  have hqq3 : isO (nZ (nZ z q 6) q1 1600) 1600 q1 := isO_nZq
  refine ⟨hqq2, hqq3, ?_⟩
  intro z3 ez3
  subst ez3
  have x3 : ext z (uR (nZ (nZ z q 6) q1 1600) 600 q (some q1)) := x2.uR hq
  have S3 := hS.ext x3
  refine ⟨hqq2, x3.1 _ _ (sc_x hS), hqq2, x3.1 _ _ (sc_904 hS).2, ?_⟩
  rw [e]
  refine ⟨vp_in_nI (by omega) (by decide), ?_⟩
  intro z4 ez4
  subst ez4
  refine ⟨x3.1 _ _ (sc_x hS), ?_⟩
  intro w6 e6
  have v2 : (nI (N 905 0)).toNatClampNeg = N 905 0 := nI_clamp (by omega)
  have f1 : frZ z w (nV (nV w q) q1) := ((frZ.rfl z w).nV hq).nV hq1z
  have e905 : vI (nV (nV w q) q1) 905 x = nI (N 905 0) := (f1.1 905 x (sc_x hS).1).trans e
  rw [e905, nI_1] at e6
  subst e6
  have r1 : vI (uI (nV (nV w q) q1) 905 x (nI (N 905 0 + 1))) 905 x - 1 = nI (N 905 0) := by
    rw [vI_u, if_pos ⟨rfl, rfl⟩]
    exact nI_pred _
  rw [r1, v2]
  have hqB : ∀ j, j < N 905 0 → ¬ B 1904 j 0 = q := fun j hj => lt_of_mem (hS.2.2.1.2.2.1 j hj).1 hq
  have hqB1 : ∀ j, j < N 905 0 → ¬ B 600 j 0 = q1 := fun j hj => lt_of_mem (hS.2.2.1.2.2.1 j hj).2.2.1 hq1z
  refine hK q q1 _ _ hq hq1z ⟨S3.1, ?_, ?_, ?_, ?_, ?_⟩ f1 ?_ ?_
  · refine ⟨fun i hi => ?_, S3.2.1.2.1, S3.2.1.2.2⟩
    obtain ⟨a1, a2, a3, a4⟩ := S3.2.1.1 i hi
    refine ⟨?_, a2, a3, a4⟩
    rw [rO_u, if_neg (fun h => absurd h.1 (by decide))]
    exact a1
  · refine ⟨by show N 905 0 + 1 ≤ 6; omega, fun i hi => ?_, fun i hi => ?_, fun i j hi hj => ?_, fun i j hi hj => ?_⟩
    · show zO (uO _ 1904 (B 904 0 0) (N 905 0) (some q)) 1904 (B 904 0 0) i = if i < N 905 0 + 1 then some (shB B (N 905 0) q q1 1904 i 0) else none
      rw [rO_u]
      by_cases hh : i = N 905 0
      · rw [if_pos ⟨rfl, rfl, hh⟩, if_pos (by omega)]
        simp [shB, hh]
      · rw [if_neg (fun h => hh h.2.2), S3.2.2.1.2.1 i hi]
        by_cases h2 : i < N 905 0
        · rw [if_pos h2, if_pos (by omega)]
          simp [shB, hh]
        · rw [if_neg h2, if_neg (by omega)]
    · have hi : i < N 905 0 + 1 := hi
      by_cases hh : i = N 905 0
      · have b1 : shB B (N 905 0) q q1 1904 i 0 = q := by simp [shB, hh]
        have b2 : shB B (N 905 0) q q1 600 i 0 = q1 := by simp [shB, hh]
        have b3 : shN N (N 905 0) 601 i = 0 := by simp [shN, hh]
        rw [b1, b2, b3]
        refine ⟨hqq2, ?_, hqq3, by omega⟩
        show zR (uR (nZ (nZ z q 6) q1 1600) 600 q (some q1)) 600 q = some q1
        rw [zR_u, if_pos ⟨rfl, rfl⟩]
      · have b1 : shB B (N 905 0) q q1 1904 i 0 = B 1904 i 0 := by simp [shB, hh]
        have b2 : shB B (N 905 0) q q1 600 i 0 = B 600 i 0 := by simp [shB, hh]
        have b3 : shN N (N 905 0) 601 i = N 601 i := by simp [shN, hh]
        rw [b1, b2, b3]
        exact S3.2.2.1.2.2.1 i (by omega)
    · have hi : i < N 905 0 + 1 := hi
      have hj : j < N 905 0 + 1 := hj
      by_cases h1 : i = N 905 0 <;> by_cases h2 : j = N 905 0
      · simp [shB, h1, h2]
      · simp [shB, h1, h2]
        exact ⟨fun h => absurd h.symm (hqB j (by omega)), fun h => by omega⟩
      · simp [shB, h1, h2]
        exact hqB i (by omega)
      · simp [shB, h1, h2]
        exact S3.2.2.1.2.2.2.1 i j (by omega) (by omega)
    · have hi : i < N 905 0 + 1 := hi
      have hj : j < N 905 0 + 1 := hj
      by_cases h1 : i = N 905 0 <;> by_cases h2 : j = N 905 0
      · simp [shB, h1, h2]
      · simp [shB, h1, h2]
        exact ⟨fun h => absurd h.symm (hqB1 j (by omega)), fun h => by omega⟩
      · simp [shB, h1, h2]
        exact hqB1 i (by omega)
      · simp [shB, h1, h2]
        exact S3.2.2.1.2.2.2.2 i j (by omega) (by omega)
  · refine ⟨fun i r hi hr => ?_, fun i r hi hr => ?_, fun i r j p hi hr hj hp => ?_⟩
    · have hi : i < N 905 0 + 1 := hi
      rw [rO_u, if_neg (fun h => absurd h.1 (by decide))]
      by_cases hh : i = N 905 0
      · have b2 : shB B (N 905 0) q q1 600 i 0 = q1 := by simp [shB, hh]
        have b3 : shN N (N 905 0) 601 i = 0 := by simp [shN, hh]
        rw [b2, b3, if_neg (by omega)]
        show va_up ((nZ z q 6).2.2.2 1600) q1 (fun _ => none) q1 r = none
        rw [va_up_self]
      · have b2 : shB B (N 905 0) q q1 600 i 0 = B 600 i 0 := by simp [shB, hh]
        have b3 : shN N (N 905 0) 601 i = N 601 i := by simp [shN, hh]
        have b4 : shB B (N 905 0) q q1 1600 i r = B 1600 i r := by simp [shB]
        rw [b2, b3, b4]
        exact S3.2.2.2.1.1 i r (by omega) hr
    · have hi : i < N 905 0 + 1 := hi
      by_cases hh : i = N 905 0
      · have b3 : shN N (N 905 0) 601 i = 0 := by simp [shN, hh]
        rw [b3] at hr
        omega
      · have b3 : shN N (N 905 0) 601 i = N 601 i := by simp [shN, hh]
        have b4 : shB B (N 905 0) q q1 1600 i r = B 1600 i r := by simp [shB]
        rw [b3] at hr
        rw [b4]
        exact S3.2.2.2.1.2.1 i r (by omega) hr
    · have hi : i < N 905 0 + 1 := hi
      have hj : j < N 905 0 + 1 := hj
      have h1 : ¬ i = N 905 0 := fun hh => by
        have b3 : shN N (N 905 0) 601 i = 0 := by simp [shN, hh]
        rw [b3] at hr
        omega
      have h2 : ¬ j = N 905 0 := fun hh => by
        have b3 : shN N (N 905 0) 601 j = 0 := by simp [shN, hh]
        rw [b3] at hp
        omega
      have b3 : shN N (N 905 0) 601 i = N 601 i := by simp [shN, h1]
      have b5 : shN N (N 905 0) 601 j = N 601 j := by simp [shN, h2]
      have b4 : shB B (N 905 0) q q1 1600 i r = B 1600 i r := by simp [shB]
      have b6 : shB B (N 905 0) q q1 1600 j p = B 1600 j p := by simp [shB]
      rw [b3] at hr
      rw [b5] at hp
      rw [b4, b6]
      exact S3.2.2.2.1.2.2 i r j p (by omega) hr (by omega) hp
  · refine ⟨S3.2.2.2.2.1.1, fun i hi => ?_, S3.2.2.2.2.1.2.2.1, S3.2.2.2.2.1.2.2.2⟩
    rw [rO_u, if_neg (fun h => absurd h.1 (by decide))]
    exact S3.2.2.2.2.1.2.1 i hi
  · refine ⟨S3.2.2.2.2.2.1, fun i hi => ?_, S3.2.2.2.2.2.2.2.1, S3.2.2.2.2.2.2.2.2⟩
    rw [rO_u, if_neg (fun h => absurd h.1 (by decide))]
    exact S3.2.2.2.2.2.2.1 i hi
  · simp [rI_nV]
  · simp [rI_nV]
set_option maxHeartbeats 2000000 in
theorem lw_ok_2 (x m t : Nat) : ok_2 (lw_I x m t) x m t := by
  intro k zc wc zm wm hk hI 
  obtain ⟨B, N, M, hS, hM, hV⟩ := id hI
  obtain ⟨hTim, hTap, hRig, hSho, hRoc, hFam, hPit, hLot, hSto, hFor⟩ := id hV
  have hox := sc_x hS
  have hot := sc_t hS
  have hom := sm_m hM
  unfold wc_2 wp_L_shore
  have hn6 := hS.2.2.1.1
  by_cases h6 : N 905 0 = 6
  · have w1 : nI (N 905 0) = 6 := by rw [h6]; rfl
    have w2 : ¬ (6 : Int32) < 6 := by decide
    have E1 : vI wc 905 x = 6 := hSho.1.trans w1
    have E2 : vI wm 1014 m = 6 := hSho.2.1.trans w1
    unfold wp_X9_shore wp_X10_shore
    simp [-Prod.forall, -Prod.exists, hox, hot, hom, th0 hom, th1 hom, thr hom, vI_u, rI_uA, rI_uL, rA_uI, rL_uI, rL_uA, rL_u, i10, i11, n10, mF, in9, in10, c0, jx, jx0, jb, jb0, sc_904 hS, E1, E2, w2]
    exact lw_keep hI (by repeat' (first | with_reducible refine frW.uI ?_ (by decide) | with_reducible refine frW.uA ?_ (by decide) | with_reducible refine frW.uF ?_ (by decide) | with_reducible refine frW.uL ?_ | exact frW.rfl _ _ _)) (by repeat' (first | with_reducible refine frW.uI ?_ (by decide) | with_reducible refine frW.uA ?_ (by decide) | with_reducible refine frW.uF ?_ (by decide) | with_reducible refine frW.uL ?_ | exact frW.rfl _ _ _))
  · refine ⟨hox, hot, shore_c hS hSho.1 (by omega) (fun q q1 z1 w1 hq hq1 S1 f1 g1 g2 => ⟨sc_t S1, fun w2 e2 => ⟨hom, ?_⟩⟩)⟩
    have w1' : ¬ nI (N 905 0) = 6 := fun h => h6 ((nI_eq (by omega) (by decide : 6 < 2 ^ 31)).mp h)
    have eN : vI wm 1014 m = nI (N 905 0) := hSho.2.1
    unfold wp_X10_shore
    simp [nI_pred, ← nI_succ, -Prod.forall, -Prod.exists, hox, hot, hom, th0 hom, th1 hom, thr hom, vI_u, rI_uA, rI_uL, rA_uI, rL_uI, rL_uA, rL_u, i10, i11, n10, mF, in9, in10, c0, jx, jx0, jb, jb0, eN, w1']
    have hV1 := (hV.up (Nat.le_succ k)).frZ hS f1
    obtain ⟨k1, k2, k3, k4, k5, k6, k7, k8, k9, k10⟩ := hV1
    subst e2
    refine ⟨sc_t S1, by simp [rL_u], shB B (N 905 0) q q1, shN N (N 905 0), M, S1, hM, k1.fr (by repeat' (first | with_reducible refine frW.uI ?_ (by decide) | with_reducible refine frW.uA ?_ (by decide) | with_reducible refine frW.uF ?_ (by decide) | with_reducible refine frW.uL ?_ | exact frW.rfl _ _ _)) (by repeat' (first | with_reducible refine frW.uI ?_ (by decide) | with_reducible refine frW.uA ?_ (by decide) | with_reducible refine frW.uF ?_ (by decide) | with_reducible refine frW.uL ?_ | exact frW.rfl _ _ _)), k2.fr (by repeat' (first | with_reducible refine frW.uI ?_ (by decide) | with_reducible refine frW.uA ?_ (by decide) | with_reducible refine frW.uF ?_ (by decide) | with_reducible refine frW.uL ?_ | exact frW.rfl _ _ _)) (by repeat' (first | with_reducible refine frW.uI ?_ (by decide) | with_reducible refine frW.uA ?_ (by decide) | with_reducible refine frW.uF ?_ (by decide) | with_reducible refine frW.uL ?_ | exact frW.rfl _ _ _)), k3.fr (by repeat' (first | with_reducible refine frW.uI ?_ (by decide) | with_reducible refine frW.uA ?_ (by decide) | with_reducible refine frW.uF ?_ (by decide) | with_reducible refine frW.uL ?_ | exact frW.rfl _ _ _)) (by repeat' (first | with_reducible refine frW.uI ?_ (by decide) | with_reducible refine frW.uA ?_ (by decide) | with_reducible refine frW.uF ?_ (by decide) | with_reducible refine frW.uL ?_ | exact frW.rfl _ _ _)), ?_, ?_, k6.fr (by repeat' (first | with_reducible refine frW.uI ?_ (by decide) | with_reducible refine frW.uA ?_ (by decide) | with_reducible refine frW.uF ?_ (by decide) | with_reducible refine frW.uL ?_ | exact frW.rfl _ _ _)) (by repeat' (first | with_reducible refine frW.uI ?_ (by decide) | with_reducible refine frW.uA ?_ (by decide) | with_reducible refine frW.uF ?_ (by decide) | with_reducible refine frW.uL ?_ | exact frW.rfl _ _ _)), k7.fr (by repeat' (first | with_reducible refine frW.uI ?_ (by decide) | with_reducible refine frW.uA ?_ (by decide) | with_reducible refine frW.uF ?_ (by decide) | with_reducible refine frW.uL ?_ | exact frW.rfl _ _ _)) (by repeat' (first | with_reducible refine frW.uI ?_ (by decide) | with_reducible refine frW.uA ?_ (by decide) | with_reducible refine frW.uF ?_ (by decide) | with_reducible refine frW.uL ?_ | exact frW.rfl _ _ _)), k8.fr (by repeat' (first | with_reducible refine frW.uI ?_ (by decide) | with_reducible refine frW.uA ?_ (by decide) | with_reducible refine frW.uF ?_ (by decide) | with_reducible refine frW.uL ?_ | exact frW.rfl _ _ _)) (by repeat' (first | with_reducible refine frW.uI ?_ (by decide) | with_reducible refine frW.uA ?_ (by decide) | with_reducible refine frW.uF ?_ (by decide) | with_reducible refine frW.uL ?_ | exact frW.rfl _ _ _)), k9.fr (by repeat' (first | with_reducible refine frW.uI ?_ (by decide) | with_reducible refine frW.uA ?_ (by decide) | with_reducible refine frW.uF ?_ (by decide) | with_reducible refine frW.uL ?_ | exact frW.rfl _ _ _)) (by repeat' (first | with_reducible refine frW.uI ?_ (by decide) | with_reducible refine frW.uA ?_ (by decide) | with_reducible refine frW.uF ?_ (by decide) | with_reducible refine frW.uL ?_ | exact frW.rfl _ _ _)), k10.fr (by repeat' (first | with_reducible refine frW.uI ?_ (by decide) | with_reducible refine frW.uA ?_ (by decide) | with_reducible refine frW.uF ?_ (by decide) | with_reducible refine frW.uL ?_ | exact frW.rfl _ _ _)) (by repeat' (first | with_reducible refine frW.uI ?_ (by decide) | with_reducible refine frW.uA ?_ (by decide) | with_reducible refine frW.uF ?_ (by decide) | with_reducible refine frW.uL ?_ | exact frW.rfl _ _ _))⟩
    · refine ⟨?_, ?_, fun i hi => ?_, fun i hi hn => ?_⟩
      · simp [rI_uL, vI_u, shN]
      · simp [vI_u, shN]
      · have hi : i < N 905 0 + 1 := hi
        by_cases hh : i = N 905 0
        · have b1 : shB B (N 905 0) q q1 1904 i 0 = q := by simp [shB, hh]
          have b3 : shN N (N 905 0) 601 i = 0 := by simp [shN, hh]
          obtain ⟨c1, c2⟩ := hSho.2.2.2 i (by omega) (by omega)
          rw [b1, b3]
          refine ⟨?_, ?_, ?_⟩
          · simp [rI_uL, vI_u, g1, nI_0]
          · simp [rI_uL, vI_u, g2, rA_uI, c2]
          · simp [rA_uI, c1, nI_0]
        · have b1 : shB B (N 905 0) q q1 1904 i 0 = B 1904 i 0 := by simp [shB, hh]
          have b3 : shN N (N 905 0) 601 i = N 601 i := by simp [shN, hh]
          obtain ⟨c1, c2, c3⟩ := k4.2.2.1 i (by omega)
          rw [b1, b3]
          refine ⟨?_, ?_, ?_⟩
          · simp [rI_uL, vI_u, c1]
          · simp [rI_uL, vI_u, rA_uI, c2]
          · simp [rA_uI, c3]
      · have hn : N 905 0 + 1 ≤ i := hn
        simpa [rA_uI] using hSho.2.2.2 i hi (by omega)
    · refine ⟨fun i r hi hr => ?_, fun i r hi hr hn => ?_⟩
      · have hi : i < N 905 0 + 1 := hi
        have h1 : ¬ i = N 905 0 := fun hh => by
          have b3 : shN N (N 905 0) 601 i = 0 := by simp [shN, hh]
          rw [b3] at hr
          omega
        have b3 : shN N (N 905 0) 601 i = N 601 i := by simp [shN, h1]
        have b4 : shB B (N 905 0) q q1 1600 i r = B 1600 i r := by simp [shB]
        rw [b3] at hr
        rw [b4]
        obtain ⟨l0, l1, l2, l3, l4, l5, l6, l7, l8, l9⟩ := k5.1 i r (by omega) hr
        refine ⟨?_, ?_, ?_, ?_, ?_, ?_, ?_, ?_, ?_, ?_⟩
        all_goals simp [rI_uL, vI_u, rA_uI, l0, l1, l2, l3, l4, l5, l6, l7]
        · exact l8
        · exact l9
      · have hn2 : ¬ (i < N 905 0 ∧ r < N 601 i) := fun h => hn ⟨by show i < N 905 0 + 1; omega, by
          have b3 : shN N (N 905 0) 601 i = N 601 i := by simp [shN, show ¬ i = N 905 0 by omega]
          rw [b3]
          exact h.2⟩
        simpa [rA_uI] using hRoc.2 i r hi hr hn2
