/-! PURE PART: pit, rock -/
abbrev ptB (B : Nat → Nat → Nat → Nat) (n q : Nat) : Nat → Nat → Nat → Nat := fun a i r => if a = 1907 ∧ i = n then q else B a i r
abbrev ptN (N : Nat → Nat → Nat) (n f : Nat) : Nat → Nat → Nat := fun a i => if a = 908 then n + 1 else if a = 300 ∧ i = n then f else N a i
theorem pit_c {z : Zt} {x t f : Nat} {B : Nat → Nat → Nat → Nat} {N : Nat → Nat → Nat} {w : Vt} {K : Int32 → Zt → Vt → Prop} {X : Nat → Vt → Prop} (hS : SC z x t B N) (hf : f < 8) (e : vI w 908 x = nI (N 908 0)) (hn : N 908 0 < 12)
    (hK : ∀ (q : Nat) (z1 : Zt) (w1 : Vt), q ∉ z.2.1 → SC z1 x t (ptB B (N 908 0) q) (ptN N (N 908 0) f) → frZ z w w1 → vI w1 301 q = 0 → vI w1 302 q = 0 → K (nI (N 908 0)) z1 (uI w1 908 x (nI (N 908 0 + 1)))) : wp_X9_pit z x (nI f) w K X := by
  have c1 : nI (N 908 0) < 12 := nI_lt (b := 12) hn (by decide)
  have f1 := (hS.2.1.1 f hf).2.1
  unfold wp_X9_pit wp_X3_init
  refine ⟨sc_x hS, (nF1 hS hf).mpr ⟨f1, B 907 0 0, (sc_907 hS).1, (sc_907 hS).2, ?_, fun h => absurd (e ▸ c1) h⟩⟩
  intro _ q hq z1 ez1 w4 e4
  subst ez1 e4
  have x1 : ext z (nZ z q 3) := (ext.rfl z).nZ hq (fun _ h => h)
  have hqq : isO (nZ z q 3) 3 q := isO_nZq
  refine ⟨x1.1 _ _ f1, x1.1 _ _ (sc_x hS), hqq, x1.1 _ _ (sc_907 hS).2, hqq, x1.1 _ _ f1, ?_⟩
  intro z3 ez3
  subst ez3
  have x3 : ext z (uR (nZ z q 3) 300 q (some (B 1906 f 0))) := x1.uR hq
  have S3 := hS.ext x3
  refine ⟨hqq, x3.1 _ _ f1, x3.1 _ _ f1, x3.1 _ _ (sc_x hS), hqq, x3.1 _ _ (sc_907 hS).2, ?_⟩
  rw [e]
  refine ⟨vp_in_nI (by omega) (by decide), ?_⟩
  intro z4 ez4
  subst ez4
  refine ⟨x3.1 _ _ f1, x3.1 _ _ (sc_x hS), ?_⟩
  intro w6 e6
  have v2 : (nI (N 908 0)).toNatClampNeg = N 908 0 := nI_clamp (by omega)
  have fz : frZ z w (nV w q) := (frZ.rfl z w).nV hq
  have e908 : vI (nV w q) 908 x = nI (N 908 0) := (fz.1 908 x (sc_x hS).1).trans e
  rw [e908, nI_1] at e6
  subst e6
  have r1 : vI (uI (nV w q) 908 x (nI (N 908 0 + 1))) 908 x - 1 = nI (N 908 0) := by
    rw [vI_u, if_pos ⟨rfl, rfl⟩]
    exact nI_pred _
  rw [r1, v2]
  have hqB : ∀ j, j < N 908 0 → ¬ B 1907 j 0 = q := fun j hj => lt_of_mem (hS.2.2.2.2.1.2.2.1 j hj).1 hq
  refine hK q _ _ hq ⟨S3.1, ?_, ?_, ?_, ?_, ?_⟩ fz ?_ ?_
  · refine ⟨fun i hi => ?_, S3.2.1.2.1, S3.2.1.2.2⟩
    obtain ⟨a1, a2, a3, a4⟩ := S3.2.1.1 i hi
    refine ⟨?_, a2, a3, a4⟩
    rw [rO_u, if_neg (fun h => absurd h.1 (by decide))]
    exact a1
  · refine ⟨S3.2.2.1.1, fun i hi => ?_, S3.2.2.1.2.2.1, S3.2.2.1.2.2.2.1, S3.2.2.1.2.2.2.2⟩
    rw [rO_u, if_neg (fun h => absurd h.1 (by decide))]
    exact S3.2.2.1.2.1 i hi
  · refine ⟨fun i r hi hr => ?_, S3.2.2.2.1.2.1, S3.2.2.2.1.2.2⟩
    rw [rO_u, if_neg (fun h => absurd h.1 (by decide))]
    exact S3.2.2.2.1.1 i r hi hr
  · refine ⟨by show N 908 0 + 1 ≤ 12; omega, fun i hi => ?_, fun i hi => ?_, fun i j hi hj => ?_⟩
    · show zO (uO _ 1907 (B 907 0 0) (N 908 0) (some q)) 1907 (B 907 0 0) i = if i < N 908 0 + 1 then some (ptB B (N 908 0) q 1907 i 0) else none
      rw [rO_u]
      by_cases hh : i = N 908 0
      · rw [if_pos ⟨rfl, rfl, hh⟩, if_pos (by omega)]
        simp [ptB, hh]
      · rw [if_neg (fun h => hh h.2.2), S3.2.2.2.2.1.2.1 i hi]
        by_cases h2 : i < N 908 0
        · rw [if_pos h2, if_pos (by omega)]
          simp [ptB, hh]
        · rw [if_neg h2, if_neg (by omega)]
    · have hi : i < N 908 0 + 1 := hi
      by_cases hh : i = N 908 0
      · have b1 : ptB B (N 908 0) q 1907 i 0 = q := by simp [ptB, hh]
        have b3 : ptN N (N 908 0) f 300 i = f := by simp [ptN, hh]
        rw [b1, b3]
        refine ⟨hqq, ?_, hf⟩
        show zR (uR (nZ z q 3) 300 q (some (B 1906 f 0))) 300 q = some (B 1906 f 0)
        rw [zR_u, if_pos ⟨rfl, rfl⟩]
      · have b1 : ptB B (N 908 0) q 1907 i 0 = B 1907 i 0 := by simp [ptB, hh]
        have b3 : ptN N (N 908 0) f 300 i = N 300 i := by simp [ptN, hh]
        rw [b1, b3]
        exact S3.2.2.2.2.1.2.2.1 i (by omega)
    · have hi : i < N 908 0 + 1 := hi
      have hj : j < N 908 0 + 1 := hj
      by_cases h1 : i = N 908 0 <;> by_cases h2 : j = N 908 0
      · simp [ptB, h1, h2]
      · simp [ptB, h1, h2]
        exact ⟨fun h => absurd h.symm (hqB j (by omega)), fun h => by omega⟩
      · simp [ptB, h1, h2]
        exact hqB i (by omega)
      · simp [ptB, h1, h2]
        exact S3.2.2.2.2.1.2.2.2 i j (by omega) (by omega)
  · refine ⟨S3.2.2.2.2.2.1, fun i hi => ?_, S3.2.2.2.2.2.2.2.1, S3.2.2.2.2.2.2.2.2⟩
    rw [rO_u, if_neg (fun h => absurd h.1 (by decide))]
    exact S3.2.2.2.2.2.2.1 i hi
  · simp [rI_nV]
  · simp [rI_nV]
set_option maxHeartbeats 2000000 in
theorem lw_ok_15 (x m t : Nat) : ok_15 (lw_I x m t) x m t := by
  intro k zc wc zm wm hk hI a1
  obtain ⟨B, N, M, hS, hM, hV⟩ := id hI
  obtain ⟨hTim, hTap, hRig, hSho, hRoc, hFam, hPit, hLot, hSto, hFor⟩ := id hV
  have hox := sc_x hS
  have hot := sc_t hS
  have hom := sm_m hM
  unfold wc_15 wp_L_pit
  have hn12 := hS.2.2.2.2.1.1
  have e26 := hPit.2.1
  rcases inI_cases a1 8 (by decide) with h1 | ⟨i, hi, rfl, h1⟩ <;> rw [i8_eq] at h1
  · unfold wp_X9_pit wp_X10_pit
    simp [-Prod.forall, -Prod.exists, hox, hot, hom, th0 hom, th1 hom, thr hom, vI_u, rI_uA, rI_uL, rA_uI, rL_uI, rL_uA, rL_u, i10, i11, n10, mF, in9, in10, c0, jx, jx0, jb, jb0, nF0 hS h1, h1]
    exact lw_keep hI (by repeat' (first | with_reducible refine frW.uI ?_ (by decide) | with_reducible refine frW.uA ?_ (by decide) | with_reducible refine frW.uF ?_ (by decide) | with_reducible refine frW.uL ?_ | exact frW.rfl _ _ _)) (by repeat' (first | with_reducible refine frW.uI ?_ (by decide) | with_reducible refine frW.uA ?_ (by decide) | with_reducible refine frW.uF ?_ (by decide) | with_reducible refine frW.uL ?_ | exact frW.rfl _ _ _))
  have f1 := (hS.2.1.1 i hi).2.1
  by_cases h6 : N 908 0 = 12
  · have w1 : nI (N 908 0) = 12 := by rw [h6]; rfl
    have w2 : ¬ (12 : Int32) < 12 := by decide
    have E1 : vI wc 908 x = 12 := hPit.1.trans w1
    have E2 : vI wm 1026 m = 12 := hPit.2.1.trans w1
    unfold wp_X9_pit wp_X10_pit
    simp [-Prod.forall, -Prod.exists, hox, hot, hom, th0 hom, th1 hom, thr hom, vI_u, rI_uA, rI_uL, rA_uI, rL_uI, rL_uA, rL_u, i10, i11, n10, mF, in9, in10, c0, jx, jx0, jb, jb0, nF1 hS hi, f1, h1, sc_907 hS, E1, E2, w2]
    exact lw_keep hI (by repeat' (first | with_reducible refine frW.uI ?_ (by decide) | with_reducible refine frW.uA ?_ (by decide) | with_reducible refine frW.uF ?_ (by decide) | with_reducible refine frW.uL ?_ | exact frW.rfl _ _ _)) (by repeat' (first | with_reducible refine frW.uI ?_ (by decide) | with_reducible refine frW.uA ?_ (by decide) | with_reducible refine frW.uF ?_ (by decide) | with_reducible refine frW.uL ?_ | exact frW.rfl _ _ _))
  · refine ⟨hox, hot, pit_c hS hi hPit.1 (by omega) (fun q z1 w1 hq S1 fz g1 g2 => ⟨sc_t S1, fun w2 e2 => ⟨hom, ?_⟩⟩)⟩
    have w1' : ¬ nI (N 908 0) = 12 := fun h => h6 ((nI_eq (by omega) (by decide : 12 < 2 ^ 31)).mp h)
    have v1 : vp_in (nI (N 908 0)) 12 := vp_in_nI (by omega) (by decide)
    have v2 : (nI (N 908 0)).toNatClampNeg = N 908 0 := nI_clamp (by omega)
    unfold wp_X10_pit
    simp [nI_pred, ← nI_succ, -Prod.forall, -Prod.exists, hox, hot, hom, th0 hom, th1 hom, thr hom, vI_u, rI_uA, rI_uL, rA_uI, rL_uI, rL_uA, rL_u, i10, i11, n10, mF, in9, in10, c0, jx, jx0, jb, jb0, h1, e26, w1', v1, v2, sm_1023 hM]
    have hV1 := (hV.up (Nat.le_succ k)).frZ hS fz
    obtain ⟨k1, k2, k3, k4, k5, k6, k7, k8, k9, k10⟩ := hV1
    subst e2
    refine ⟨sc_t S1, by simp [rL_u], ptB B (N 908 0) q, ptN N (N 908 0) i, M, S1, hM, k1.fr (by repeat' (first | with_reducible refine frW.uI ?_ (by decide) | with_reducible refine frW.uA ?_ (by decide) | with_reducible refine frW.uF ?_ (by decide) | with_reducible refine frW.uL ?_ | exact frW.rfl _ _ _)) (by repeat' (first | with_reducible refine frW.uI ?_ (by decide) | with_reducible refine frW.uA ?_ (by decide) | with_reducible refine frW.uF ?_ (by decide) | with_reducible refine frW.uL ?_ | exact frW.rfl _ _ _)), k2.fr (by repeat' (first | with_reducible refine frW.uI ?_ (by decide) | with_reducible refine frW.uA ?_ (by decide) | with_reducible refine frW.uF ?_ (by decide) | with_reducible refine frW.uL ?_ | exact frW.rfl _ _ _)) (by repeat' (first | with_reducible refine frW.uI ?_ (by decide) | with_reducible refine frW.uA ?_ (by decide) | with_reducible refine frW.uF ?_ (by decide) | with_reducible refine frW.uL ?_ | exact frW.rfl _ _ _)), k3.fr (by repeat' (first | with_reducible refine frW.uI ?_ (by decide) | with_reducible refine frW.uA ?_ (by decide) | with_reducible refine frW.uF ?_ (by decide) | with_reducible refine frW.uL ?_ | exact frW.rfl _ _ _)) (by repeat' (first | with_reducible refine frW.uI ?_ (by decide) | with_reducible refine frW.uA ?_ (by decide) | with_reducible refine frW.uF ?_ (by decide) | with_reducible refine frW.uL ?_ | exact frW.rfl _ _ _)), k4.fr (by repeat' (first | with_reducible refine frW.uI ?_ (by decide) | with_reducible refine frW.uA ?_ (by decide) | with_reducible refine frW.uF ?_ (by decide) | with_reducible refine frW.uL ?_ | exact frW.rfl _ _ _)) (by repeat' (first | with_reducible refine frW.uI ?_ (by decide) | with_reducible refine frW.uA ?_ (by decide) | with_reducible refine frW.uF ?_ (by decide) | with_reducible refine frW.uL ?_ | exact frW.rfl _ _ _)), k5.fr (by repeat' (first | with_reducible refine frW.uI ?_ (by decide) | with_reducible refine frW.uA ?_ (by decide) | with_reducible refine frW.uF ?_ (by decide) | with_reducible refine frW.uL ?_ | exact frW.rfl _ _ _)) (by repeat' (first | with_reducible refine frW.uI ?_ (by decide) | with_reducible refine frW.uA ?_ (by decide) | with_reducible refine frW.uF ?_ (by decide) | with_reducible refine frW.uL ?_ | exact frW.rfl _ _ _)), k6.fr (by repeat' (first | with_reducible refine frW.uI ?_ (by decide) | with_reducible refine frW.uA ?_ (by decide) | with_reducible refine frW.uF ?_ (by decide) | with_reducible refine frW.uL ?_ | exact frW.rfl _ _ _)) (by repeat' (first | with_reducible refine frW.uI ?_ (by decide) | with_reducible refine frW.uA ?_ (by decide) | with_reducible refine frW.uF ?_ (by decide) | with_reducible refine frW.uL ?_ | exact frW.rfl _ _ _)), ?_, k8.fr (by repeat' (first | with_reducible refine frW.uI ?_ (by decide) | with_reducible refine frW.uA ?_ (by decide) | with_reducible refine frW.uF ?_ (by decide) | with_reducible refine frW.uL ?_ | exact frW.rfl _ _ _)) (by repeat' (first | with_reducible refine frW.uI ?_ (by decide) | with_reducible refine frW.uA ?_ (by decide) | with_reducible refine frW.uF ?_ (by decide) | with_reducible refine frW.uL ?_ | exact frW.rfl _ _ _)), k9.fr (by repeat' (first | with_reducible refine frW.uI ?_ (by decide) | with_reducible refine frW.uA ?_ (by decide) | with_reducible refine frW.uF ?_ (by decide) | with_reducible refine frW.uL ?_ | exact frW.rfl _ _ _)) (by repeat' (first | with_reducible refine frW.uI ?_ (by decide) | with_reducible refine frW.uA ?_ (by decide) | with_reducible refine frW.uF ?_ (by decide) | with_reducible refine frW.uL ?_ | exact frW.rfl _ _ _)), k10.fr (by repeat' (first | with_reducible refine frW.uI ?_ (by decide) | with_reducible refine frW.uA ?_ (by decide) | with_reducible refine frW.uF ?_ (by decide) | with_reducible refine frW.uL ?_ | exact frW.rfl _ _ _)) (by repeat' (first | with_reducible refine frW.uI ?_ (by decide) | with_reducible refine frW.uA ?_ (by decide) | with_reducible refine frW.uF ?_ (by decide) | with_reducible refine frW.uL ?_ | exact frW.rfl _ _ _))⟩
    refine ⟨?_, ?_, fun j hj => ?_, fun j hj hn => ?_⟩
    · simp [rI_uL, vI_u, ptN]
    · simp [rI_uA, vI_u, ptN]
    · have hj : j < N 908 0 + 1 := hj
      by_cases hh : j = N 908 0
      · have b1 : ptB B (N 908 0) q 1907 j 0 = q := by simp [ptB, hh]
        have b3 : ptN N (N 908 0) i 300 j = i := by simp [ptN, hh]
        obtain ⟨c1, c2⟩ := hPit.2.2.2 j (by omega) (by omega)
        rw [b1, b3]
        refine ⟨?_, ?_, ?_, 0, by omega, ?_⟩
        · simp [rI_uL, vI_u, g1, rA_u, rA_uI, c1]
        · simp [rI_uL, vI_u, g2, rA_u, rA_uI, c2]
        · simp [rA_u, rA_uI, hh]
        · simp [rA_u, rA_uI, c2, nI_0]
      · have b1 : ptB B (N 908 0) q 1907 j 0 = B 1907 j 0 := by simp [ptB, hh]
        have b3 : ptN N (N 908 0) i 300 j = N 300 j := by simp [ptN, hh]
        obtain ⟨c1, c2, c3, dd, hdd, c4⟩ := k7.2.2.1 j (by omega)
        rw [b1, b3]
        refine ⟨?_, ?_, ?_, dd, hdd, ?_⟩
        · simp [rI_uL, vI_u, rA_u, rA_uI, c1]
        · simp [rI_uL, vI_u, rA_u, rA_uI, c2]
        · simp [rA_u, rA_uI, hh, c3]
        · simp [rA_u, rA_uI, c4]
    · have hn : N 908 0 + 1 ≤ j := hn
      simpa [rA_u, rA_uI] using hPit.2.2.2 j hj (by omega)
abbrev rkB (B : Nat → Nat → Nat → Nat) (s n q : Nat) : Nat → Nat → Nat → Nat := fun a i r => if a = 1600 ∧ i = s ∧ r = n then q else B a i r
abbrev rkN (N : Nat → Nat → Nat) (s n : Nat) : Nat → Nat → Nat := fun a i => if a = 601 ∧ i = s then n + 1 else N a i
theorem rock_c {z : Zt} {x t s : Nat} {B : Nat → Nat → Nat → Nat} {N : Nat → Nat → Nat} {w : Vt} {p1 p2 : Int32} {K : Int32 → Zt → Vt → Prop} {X : Nat → Vt → Prop} (hS : SC z x t B N) (hs : s < N 905 0) (h1 : inI p1 0 9 = 1) (h2 : inI p2 1 1000 = 1) (e : vI w 601 (B 1904 s 0) = nI (N 601 s)) (hn : N 601 s < 4)
    (hK : ∀ (q : Nat) (z1 : Zt) (w1 : Vt), q ∉ z.2.1 → SC z1 x t (rkB B s (N 601 s) q) (rkN N s (N 601 s)) → frZ z w w1 → (vI w1 500 q = p1 ∧ vI w1 501 q = p2 ∧ vI w1 502 q = p2 ∧ vI w1 503 q = p2 ∧ vI w1 504 q = 0 ∧ vI w1 505 q = 0 ∧ vI w1 506 q = -1 ∧ vI w1 507 q = -1) → K (nI (N 601 s)) z1 (uI w1 601 (B 1904 s 0) (nI (N 601 s + 1)))) : wp_X9_rock z x (nI s) p1 p2 w K X := by
  have c1 : nI (N 601 s) < 4 := nI_lt (b := 4) hn (by decide)
  obtain ⟨s1, s2, s3, s4⟩ := hS.2.2.1.2.2.1 s hs
  unfold wp_X9_rock wp_X5_init wp_X6_addRock
  refine ⟨sc_x hS, (nS1 hS hs).mpr ⟨s1, ?_⟩⟩
  rw [in9, h1]
  refine ⟨fun h => absurd h (by decide), fun _ => ?_⟩
  rw [in9, h2]
  refine ⟨fun _ => ⟨B 600 s 0, s2, s3, ?_, fun h => absurd (e ▸ c1) h⟩, fun h => absurd h (by decide)⟩
  intro _ q hq z1 ez1 w4 e4
  subst ez1 e4
  have x1 : ext z (nZ z q 5) := (ext.rfl z).nZ hq (fun _ h => h)
  have hqq : isO (nZ z q 5) 5 q := isO_nZq
  have S3 := hS.ext x1
  refine ⟨x1.1 _ _ s1, x1.1 _ _ (sc_x hS), hqq, hqq, ?_⟩
  intro w1 e1 w2 e2 w3 e3 w5 e5 w6 e6 w7 e7 w8 e8
  subst e1 e2 e3 e5 e6 e7 e8
  have hBq : B 1904 s 0 ≠ q := lt_of_mem s1 hq
  refine ⟨x1.1 _ _ s1, x1.1 _ _ (sc_x hS), hqq, x1.1 _ _ s1, hqq, B 600 s 0, (x1.2.1 600 _ s1.1).trans s2, x1.1 _ _ s3, ?_⟩
  have ee : vI (uI (uI (uI (uI (uI (uI (uI (nV w q) 506 q (-1)) 507 q (-1)) 508 q (-1)) 500 q p1) 501 q p2) 502 q p2) 503 q p2) 601 (B 1904 s 0) = nI (N 601 s) := by
    simp [vI_u, rI_nV, hBq, e]
  rw [ee]
  refine ⟨fun _ => ⟨vp_in_nI (by omega) (by decide), ?_⟩, fun h => absurd c1 h⟩
  intro z4 ez4
  subst ez4
  have v2 : (nI (N 601 s)).toNatClampNeg = N 601 s := nI_clamp (by omega)
  rw [v2]
  refine ⟨x1.1 _ _ s1, hqq, ?_⟩
  intro w9 e9
  rw [nI_1] at e9
  subst e9
  have r1 : ∀ w0 : Vt, vI (uI w0 601 (B 1904 s 0) (nI (N 601 s + 1))) 601 (B 1904 s 0) - 1 = nI (N 601 s) := by
    intro w0
    rw [vI_u, if_pos ⟨rfl, rfl⟩]
    exact nI_pred _
  rw [r1]
  refine ⟨x1.1 _ _ s1, x1.1 _ _ (sc_x hS), ?_⟩
  have hqB : ∀ j r, j < N 905 0 → r < N 601 j → ¬ B 1600 j r = q := fun j r hj hr => lt_of_mem (hS.2.2.2.1.2.1 j r hj hr) hq
  refine hK q _ _ hq ⟨S3.1, ?_, ?_, ?_, ?_, ?_⟩ ((((((((frZ.rfl z w).nV hq).uI hq).uI hq).uI hq).uI hq).uI hq).uI hq |>.uI hq) ?_
  · refine ⟨fun i hi => ?_, S3.2.1.2.1, S3.2.1.2.2⟩
    obtain ⟨a1, a2, a3, a4⟩ := S3.2.1.1 i hi
    refine ⟨?_, a2, a3, a4⟩
    rw [rO_u, if_neg (fun h => absurd h.1 (by decide))]
    exact a1
  · refine ⟨S3.2.2.1.1, fun i hi => ?_, fun i hi => ?_, S3.2.2.1.2.2.2.1, S3.2.2.1.2.2.2.2⟩
    · rw [rO_u, if_neg (fun h => absurd h.1 (by decide))]
      exact S3.2.2.1.2.1 i hi
    · obtain ⟨a1, a2, a3, a4⟩ := S3.2.2.1.2.2.1 i hi
      refine ⟨a1, a2, a3, ?_⟩
      by_cases hh : i = s
      · simp [rkN, hh]
        omega
      · simp [rkN, hh]
        exact a4
  · refine ⟨fun i r hi hr => ?_, fun i r hi hr => ?_, fun i r j p hi hr hj hp => ?_⟩
    · have hi : i < N 905 0 := hi
      show zO (uO (nZ z q 5) 1600 (B 600 s 0) (N 601 s) (some q)) 1600 (B 600 i 0) r = if r < rkN N s (N 601 s) 601 i then some (rkB B s (N 601 s) q 1600 i r) else none
      rw [rO_u]
      have hij := hS.2.2.1.2.2.2.2 i s hi hs
      by_cases hh : i = s
      · subst hh
        by_cases hr2 : r = N 601 i
        · rw [if_pos ⟨rfl, rfl, hr2⟩]
          simp [rkN, rkB, hr2]
        · rw [if_neg (fun h => hr2 h.2.2), S3.2.2.2.1.1 i r hi hr]
          by_cases h3 : r < N 601 i
          · rw [if_pos h3]
            simp [rkN, rkB, hr2, show r < N 601 i + 1 by omega]
          · rw [if_neg h3]
            simp [rkN, show ¬ r < N 601 i + 1 by omega]
      · rw [if_neg (fun h => hh (hij.mp h.2.1)), S3.2.2.2.1.1 i r hi hr]
        simp [rkN, rkB, hh]
    · have hi : i < N 905 0 := hi
      show isO (nZ z q 5) 5 (rkB B s (N 601 s) q 1600 i r)
      by_cases hh : i = s ∧ r = N 601 s
      · simp only [rkB, hh.1, hh.2, and_self, if_true]
        exact hqq
      · simp only [rkB, true_and, if_neg hh]
        refine S3.2.2.2.1.2.1 i r hi ?_
        by_cases h3 : i = s
        · simp [rkN, h3] at hr
          subst h3
          have : ¬ r = N 601 i := fun h => hh ⟨rfl, h⟩
          omega
        · simpa [rkN, h3] using hr
    · have hi : i < N 905 0 := hi
      have hj : j < N 905 0 := hj
      have hr' : ¬ (i = s ∧ r = N 601 s) → r < N 601 i := fun hh => by
        by_cases h3 : i = s
        · simp [rkN, h3] at hr
          subst h3
          have : ¬ r = N 601 i := fun h => hh ⟨rfl, h⟩
          omega
        · simpa [rkN, h3] using hr
      have hp' : ¬ (j = s ∧ p = N 601 s) → p < N 601 j := fun hh => by
        by_cases h3 : j = s
        · simp [rkN, h3] at hp
          subst h3
          have : ¬ p = N 601 j := fun h => hh ⟨rfl, h⟩
          omega
        · simpa [rkN, h3] using hp
      by_cases g1 : i = s ∧ r = N 601 s <;> by_cases g2 : j = s ∧ p = N 601 s
      · simp [rkB, g1, g2]
      · simp only [rkB, true_and, if_pos g1, if_neg g2]
        exact ⟨fun h => absurd h.symm (hqB j p hj (hp' g2)), fun h => absurd ⟨h.1 ▸ g1.1, h.2 ▸ g1.2⟩ g2⟩
      · simp only [rkB, true_and, if_pos g2, if_neg g1]
        exact ⟨fun h => absurd h (hqB i r hi (hr' g1)), fun h => absurd ⟨h.1 ▸ g2.1, h.2 ▸ g2.2⟩ g1⟩
      · simp only [rkB, true_and, if_neg g1, if_neg g2]
        exact hS.2.2.2.1.2.2 i r j p hi (hr' g1) hj (hp' g2)
  · refine ⟨S3.2.2.2.2.1.1, fun i hi => ?_, S3.2.2.2.2.1.2.2.1, S3.2.2.2.2.1.2.2.2⟩
    rw [rO_u, if_neg (fun h => absurd h.1 (by decide))]
    exact S3.2.2.2.2.1.2.1 i hi
  · refine ⟨S3.2.2.2.2.2.1, fun i hi => ?_, S3.2.2.2.2.2.2.2.1, S3.2.2.2.2.2.2.2.2⟩
    rw [rO_u, if_neg (fun h => absurd h.1 (by decide))]
    exact S3.2.2.2.2.2.2.1 i hi
  · refine ⟨?_, ?_, ?_, ?_, ?_, ?_, ?_, ?_⟩ <;> simp [vI_u, rI_nV]
