/-! PURE PART: cut and gather -/
set_option maxHeartbeats 2000000 in
theorem cut_m {z : Zt} {m q r i n d nS nR : Nat} {M : Nat → Nat} {w : Vt} {a : Int32} {K : Int32 → Vt → Prop} (hM : SM z m M) (hq : q < nS) (hnS : nS ≤ 6) (hr : r < nR) (hnR : nR ≤ 4) (hi : i < 8) (ha : inI a 1 1000 = 1) (hn : n ≤ 14) (e14 : vI w 1014 m = nI nS) (e12 : vA w 2012 (M 1012) q = nI nR) (e29 : vI w 1029 m = nI n) (hd : d ≤ 9999) (eT : vI w 1001 m = nI d) (hy : vA w 2006 (M 1006) (4 * q + r) = -1 ∨ ∃ y : Nat, y ≤ 99 ∧ vA w 2006 (M 1006) (4 * q + r) = nI y)
    (h1 : fstP (hitM M w (nI q) (nI i) (nI (d % 100))) 0 n = -1 → K 1 (uI w 1000 m 0))
    (h2 : ∀ j, j < n → fstP (hitM M w (nI q) (nI i) (nI (d % 100))) 0 n = nI j → ¬ vI w 1002 m ≤ vA w 2003 (M 1003) (4 * q + r) → K 2 (uI w 1000 m 0))
    (h3 : ∀ j, j < n → fstP (hitM M w (nI q) (nI i) (nI (d % 100))) 0 n = nI j → vI w 1002 m ≤ vA w 2003 (M 1003) (4 * q + r) → mrV (vA w 2006 (M 1006) (4 * q + r)) (vA w 2011 (M 1011) (4 * q + r)) (vA w 2010 (M 1010) (4 * q + r)) (nI i) (nI d) (vI w 1031 m) = 1 → K 3 (uI w 1000 m 0))
    (h4 : ∀ j, j < n → fstP (hitM M w (nI q) (nI i) (nI (d % 100))) 0 n = nI j → vI w 1002 m ≤ vA w 2003 (M 1003) (4 * q + r) → mrV (vA w 2006 (M 1006) (4 * q + r)) (vA w 2011 (M 1011) (4 * q + r)) (vA w 2010 (M 1010) (4 * q + r)) (nI i) (nI d) (vI w 1031 m) = 0 → ¬ a ≤ vA w 2005 (M 1005) (4 * q + r) → K 4 (uI w 1000 m 0))
    (h5 : ∀ j, j < n → fstP (hitM M w (nI q) (nI i) (nI (d % 100))) 0 n = nI j → vI w 1002 m ≤ vA w 2003 (M 1003) (4 * q + r) → mrV (vA w 2006 (M 1006) (4 * q + r)) (vA w 2011 (M 1011) (4 * q + r)) (vA w 2010 (M 1010) (4 * q + r)) (nI i) (nI d) (vI w 1031 m) = 0 → a ≤ vA w 2005 (M 1005) (4 * q + r) → ¬ a ≤ wlV (vA w 2015 (M 1015) i) (vA w 2019 (M 1019) i) → K 5 (uI w 1000 m 0))
    (h6 : ∀ j, j < n → fstP (hitM M w (nI q) (nI i) (nI (d % 100))) 0 n = nI j → vI w 1002 m ≤ vA w 2003 (M 1003) (4 * q + r) → mrV (vA w 2006 (M 1006) (4 * q + r)) (vA w 2011 (M 1011) (4 * q + r)) (vA w 2010 (M 1010) (4 * q + r)) (nI i) (nI d) (vI w 1031 m) = 0 → a ≤ vA w 2005 (M 1005) (4 * q + r) → a ≤ wlV (vA w 2015 (M 1015) i) (vA w 2019 (M 1019) i) → K 0 (cutM M (uI w 1000 m 0) (4 * q + r) i j d q a)) :
    wp_X10_cut z m (nI q) (nI r) (nI i) a w K := by
  have hom := sm_m hM
  have v1 : vp_in (nI q) 6 := vp_in_nI (by omega) (by decide)
  have v2 : (nI q).toNatClampNeg = q := nI_clamp (by omega)
  have v3 : (4 : Int32) * nI q + nI r = nI (4 * q + r) := ix4 q r
  have v4 : vp_in (nI (4 * q + r)) 24 := vp_in_nI (by omega) (by decide)
  have v5 : (nI (4 * q + r)).toNatClampNeg = 4 * q + r := nI_clamp (by omega)
  have v6 : vp_in (nI i) 8 := vp_in_nI (by omega) (by decide)
  have v7 : (nI i).toNatClampNeg = i := nI_clamp (by omega)
  have g1 : inI (nI q) 0 (nI nS - 1) = 1 := inI_nI hq (by omega)
  have g2 : inI (nI r) 0 (nI nR - 1) = 1 := inI_nI hr (by omega)
  have g3 : inI (nI i) 0 7 = 1 := by rw [← i8_eq]; exact inI_nI hi (by decide)
  have eS : vI (uI w 1000 m 0) 1014 m = nI nS := by rw [vI_u]; simpa using e14
  have e29b : vI (uI w 1000 m 0) 1029 m = nI n := by rw [vI_u]; simpa using e29
  have eTb : vI (uI w 1000 m 0) 1001 m = nI d := by rw [vI_u]; simpa using eT
  unfold wp_X10_cut wp_X10_noRock
  simp only [hom, true_and, forall_eq, mS hM eS, g1, i11, mF, g3, in10, ha, rA_uI]
  refine ⟨fun h => absurd h (by decide), fun _ => ⟨M 1012, (sm_1012 hM).1, (sm_1012 hM).2, v1, ?_⟩⟩
  rw [v2, e12, g2]
  refine ⟨fun _ => ?_, fun h => absurd h (by decide)⟩
  refine ⟨fun x5 w6 => x5 = 0 ∧ w6 = uI w 1000 m 0, ?_, fun h => absurd trivial h, fun _ => ⟨fun _ => ⟨rfl, rfl⟩, fun h => absurd trivial h⟩⟩
  rintro x5 w6 ⟨rfl, rfl⟩
  rw [th0 hom]
  refine ⟨fun h => absurd rfl h, fun _ => ?_⟩
  refine ⟨fun x5 w6 => x5 = 0 ∧ w6 = uI w 1000 m 0, ?_, fun _ => ⟨rfl, rfl⟩, fun h => absurd h (by decide)⟩
  rintro x5 w6 ⟨rfl, rfl⟩
  rw [th0 hom]
  refine ⟨fun _ => ?_, fun h => absurd rfl h⟩
  rw [v3, v5]
  refine ⟨M 1011, (sm_1011 hM).1, (sm_1011 hM).2, v4, ?_⟩
  rw [eTb, rA_uI]
  refine ⟨fun x26 w27 => x26 = (if vA w 2011 (M 1011) (4 * q + r) = nI d ∧ vA w 2010 (M 1010) (4 * q + r) = nI i then 1 else 0) ∧ w27 = uI w 1000 m 0, ?_, ?_, ?_⟩
  · rintro x26 w27 ⟨hx, rfl⟩
    rw [eTb, dayrem hd]
    refine fp_m hM hn e29b ?_
    rw [show hitM M (uI w 1000 m 0) = hitM M w from rfl]
    rcases fstP_cases (hitM M w (nI q) (nI i) (nI (d % 100))) n 0 with g | ⟨j, -, hj, -, g⟩
    · rw [g]
      exact ⟨fun h => absurd h (by decide), fun _ => h1 g⟩
    have hj : j < n := by omega
    rw [g]
    refine ⟨fun _ => ⟨M 1003, (sm_1003 hM).1, (sm_1003 hM).2, v4, ?_⟩, fun h => absurd (nI_pos' (by omega)) h⟩
    rw [rA_uI]
    have e2 : vI (uI w 1000 m 0) 1002 m = vI w 1002 m := by rw [vI_u]; simp
    have e31 : vI (uI w 1000 m 0) 1031 m = vI w 1031 m := by rw [vI_u]; simp
    rw [e2]
    refine ⟨fun k1 => ?_, fun k1 => h2 j hj g k1⟩
    rw [e31, eTb]
    refine ⟨fun hx0 => ?_, fun hx0 => ⟨M 1006, (sm_1006 hM).1, (sm_1006 hM).2, v4, fun c1 => ?_, fun c1 => ⟨v4, fun c2 => ?_, fun c2 => ?_⟩⟩⟩
    · have k2 : mrV (vA w 2006 (M 1006) (4 * q + r)) (vA w 2011 (M 1011) (4 * q + r)) (vA w 2010 (M 1010) (4 * q + r)) (nI i) (nI d) (vI w 1031 m) = 0 := by
        have hAB : vA w 2011 (M 1011) (4 * q + r) = nI d ∧ vA w 2010 (M 1010) (4 * q + r) = nI i := by
          by_cases hAB : vA w 2011 (M 1011) (4 * q + r) = nI d ∧ vA w 2010 (M 1010) (4 * q + r) = nI i
          · exact hAB
          · rw [if_neg hAB] at hx
            exact absurd hx hx0
        unfold mrV
        rw [if_pos hAB]
        split <;> rfl
      refine ⟨M 1005, (sm_1005 hM).1, (sm_1005 hM).2, v4, fun k3 => ?_, fun k3 => h4 j hj g k1 k2 k3⟩
      rw [wl_m hM hi]
      refine ⟨fun k4 => ?_, fun k4 => h5 j hj g k1 k2 k3 k4⟩
      have f := h6 j hj g k1 k2 k3 k4
      refine ⟨v4, v4, M 1008, (sm_1008 hM).1, (sm_1008 hM).2, v4, v4, M 1016, (sm_1016 hM).1, (sm_1016 hM).2, v6, v6, M 1019, (sm_1019 hM).1, (sm_1019 hM).2, v6, v6, M 1006, (sm_1006 hM).1, (sm_1006 hM).2, v4, v4, M 1010, (sm_1010 hM).1, (sm_1010 hM).2, v4, ?_⟩
      refine ow_m (j := j) hM hi (by omega) hn hj hd (by simp [vI_u, rI_uA, eT]) (by simp [vI_u, rI_uA, e29]) ?_ ?_
      · simpa [hitM, rA_u, rA_uI] using g
      · simpa [cutM, vI_u, rI_uA, rA_u, rA_uI, eT, day100 hd, v7] using f
    · have k2 : mrV (vA w 2006 (M 1006) (4 * q + r)) (vA w 2011 (M 1011) (4 * q + r)) (vA w 2010 (M 1010) (4 * q + r)) (nI i) (nI d) (vI w 1031 m) = 0 := by
        have hc : vA w 2006 (M 1006) (4 * q + r) = -1 := by
          rcases hy with hy | ⟨y, hy0, hy⟩
          · exact hy
          · rw [hy] at c1
            exact absurd c1 (nI_pos (by omega))
        unfold mrV
        rw [if_pos hc]
      refine ⟨M 1005, (sm_1005 hM).1, (sm_1005 hM).2, v4, fun k3 => ?_, fun k3 => h4 j hj g k1 k2 k3⟩
      rw [wl_m hM hi]
      refine ⟨fun k4 => ?_, fun k4 => h5 j hj g k1 k2 k3 k4⟩
      have f := h6 j hj g k1 k2 k3 k4
      refine ⟨v4, v4, M 1008, (sm_1008 hM).1, (sm_1008 hM).2, v4, v4, M 1016, (sm_1016 hM).1, (sm_1016 hM).2, v6, v6, M 1019, (sm_1019 hM).1, (sm_1019 hM).2, v6, v6, v4, v4, M 1010, (sm_1010 hM).1, (sm_1010 hM).2, v4, ?_⟩
      refine ow_m (j := j) hM hi (by omega) hn hj hd (by simp [vI_u, rI_uA, eT]) (by simp [vI_u, rI_uA, e29]) ?_ ?_
      · simpa [hitM, rA_u, rA_uI] using g
      · simpa [cutM, vI_u, rI_uA, rA_u, rA_uI, eT, day100 hd, v7] using f
    · have k2 : mrV (vA w 2006 (M 1006) (4 * q + r)) (vA w 2011 (M 1011) (4 * q + r)) (vA w 2010 (M 1010) (4 * q + r)) (nI i) (nI d) (vI w 1031 m) = 0 := by
        unfold mrV
        rw [if_pos c2]
        split
        · rfl
        · split <;> rfl
      refine ⟨M 1005, (sm_1005 hM).1, (sm_1005 hM).2, v4, fun k3 => ?_, fun k3 => h4 j hj g k1 k2 k3⟩
      rw [wl_m hM hi]
      refine ⟨fun k4 => ?_, fun k4 => h5 j hj g k1 k2 k3 k4⟩
      have f := h6 j hj g k1 k2 k3 k4
      refine ⟨v4, v4, M 1008, (sm_1008 hM).1, (sm_1008 hM).2, v4, v4, M 1016, (sm_1016 hM).1, (sm_1016 hM).2, v6, v6, M 1019, (sm_1019 hM).1, (sm_1019 hM).2, v6, v6, v4, v4, M 1010, (sm_1010 hM).1, (sm_1010 hM).2, v4, ?_⟩
      refine ow_m (j := j) hM hi (by omega) hn hj hd (by simp [vI_u, rI_uA, eT]) (by simp [vI_u, rI_uA, e29]) ?_ ?_
      · simpa [hitM, rA_u, rA_uI] using g
      · simpa [cutM, vI_u, rI_uA, rA_u, rA_uI, eT, day100 hd, v7] using f
    · have k2 : mrV (vA w 2006 (M 1006) (4 * q + r)) (vA w 2011 (M 1011) (4 * q + r)) (vA w 2010 (M 1010) (4 * q + r)) (nI i) (nI d) (vI w 1031 m) = 1 := by
        have hAB : ¬ (vA w 2011 (M 1011) (4 * q + r) = nI d ∧ vA w 2010 (M 1010) (4 * q + r) = nI i) := by
          intro hAB
          rw [if_pos hAB] at hx
          rw [hx] at hx0
          exact absurd hx0 (by decide)
        have hc : ¬ vA w 2006 (M 1006) (4 * q + r) = -1 := fun h => c1 (by rw [h]; decide)
        unfold mrV
        rw [if_neg hc, if_neg hAB, if_neg c2]
      exact h3 j hj g k1 k2
  · intro hc
    exact ⟨by rw [if_neg (fun h => hc h.1)], rfl⟩
  · intro hc
    refine ⟨M 1010, (sm_1010 hM).1, (sm_1010 hM).2, v4, fun hc2 => ⟨by rw [if_neg (fun h => hc2 h.2)], rfl⟩, fun hc2 => ⟨by rw [if_pos ⟨hc, hc2⟩], rfl⟩⟩
abbrev gatC (B : Nat → Nat → Nat → Nat) (w : Vt) (i j d q : Nat) (n : Int32) : Vt :=
  uA (uI (uI (uI w 602 (B 1904 q 0) (vI w 602 (B 1904 q 0) - n)) 3 (B 1906 i 0) (vI w 3 (B 1906 i 0) + n)) 2 (B 1906 i 0) (vI w 2 (B 1906 i 0) + n)) 1000 (B 0 i 0) (6 * (d / 100) + q) (vA w 1000 (B 0 i 0) (6 * (d / 100) + q) + n * vA w 1404 (B 404 0 0) j / 100)
abbrev gatM (M : Nat → Nat) (w : Vt) (i j d q : Nat) (n : Int32) : Vt :=
  uA (uA (uA (uA w 2013 (M 1013) q (vA w 2013 (M 1013) q - n)) 2016 (M 1016) i (vA w 2016 (M 1016) i + n)) 2019 (M 1019) i (vA w 2019 (M 1019) i + n)) 2022 (M 1022) (8 * (6 * (d / 100) + q) + i) (vA w 2022 (M 1022) (8 * (6 * (d / 100) + q) + i) + n * vA w 2027 (M 1027) (5 * j + 4) / 100)
set_option maxHeartbeats 2000000 in
theorem gat_c {z : Zt} {x t q i n d : Nat} {B : Nat → Nat → Nat → Nat} {N : Nat → Nat → Nat} {w : Vt} {a : Int32} {K : Int32 → Vt → Prop} {X : Nat → Vt → Prop} (hS : SC z x t B N) (hq : q < N 905 0) (hi : i < 8) (ha : inI a 1 1000 = 1) (hn : n ≤ 14) (e405 : vI w 405 (B 901 0 0) = nI n) (hd : d ≤ 9999) (eT : vI w 914 x = nI d)
    (h1 : fstP (hitC B w (nI q) (nI i) (nI (d % 100))) 0 n = -1 → K 1 w)
    (h4 : ∀ j, j < n → fstP (hitC B w (nI q) (nI i) (nI (d % 100))) 0 n = nI j → ¬ a ≤ vI w 602 (B 1904 q 0) → K 4 w)
    (h5 : ∀ j, j < n → fstP (hitC B w (nI q) (nI i) (nI (d % 100))) 0 n = nI j → a ≤ vI w 602 (B 1904 q 0) → ¬ a ≤ wlV (vI w 1 (B 1906 i 0)) (vI w 2 (B 1906 i 0)) → K 5 w)
    (h6 : ∀ j, j < n → fstP (hitC B w (nI q) (nI i) (nI (d % 100))) 0 n = nI j → a ≤ vI w 602 (B 1904 q 0) → a ≤ wlV (vI w 1 (B 1906 i 0)) (vI w 2 (B 1906 i 0)) → K 0 (gatC B w i j d q a)) :
    wp_X9_gather z x (nI q) (nI i) a w K X := by
  have hn6 := hS.2.2.1.1
  have s1 := (hS.2.2.1.2.2.1 q hq).1
  have f1 := (hS.2.1.1 i hi).2.1
  unfold wp_X9_gather
  refine ⟨sc_x hS, (nS1 hS hq).mpr ⟨s1, (nF1 hS hi).mpr ⟨f1, ?_⟩⟩⟩
  unfold wp_X9_needAmount
  rw [in9, ha]
  refine ⟨fun _ => ⟨B 901 0 0, (sc_901 hS).1, (sc_901 hS).2, ?_⟩, fun h => absurd h (by decide)⟩
  rw [eT, dayrem hd]
  refine fp_c hS hn e405 ?_
  rcases fstP_cases (hitC B w (nI q) (nI i) (nI (d % 100))) n 0 with g | ⟨j, -, hj, -, g⟩
  · rw [g]
    exact ⟨fun h => absurd rfl h, fun _ => h1 g⟩
  · have hj : j < n := by omega
    have g1 : ¬ nI j = -1 := fun h => absurd (h ▸ nI_pos (n := j) (by omega)) (by decide)
    rw [g]
    refine ⟨fun _ => ?_, fun h => absurd h g1⟩
    rw [at_c f1]
    by_cases k3 : a ≤ vI w 602 (B 1904 q 0)
    · rw [if_pos k3]
      by_cases k4 : a ≤ wlV (vI w 1 (B 1906 i 0)) (vI w 2 (B 1906 i 0))
      · rw [if_pos k4]
        refine ⟨fun h => absurd rfl h, fun _ w1 e1 => ?_⟩
        have f := h6 j hj g k3 k4
        subst e1
        rw [th_c hS hi (by omega) (by omega) hd (by simp [vI_u, eT])]
        simpa [vI_u, rA_uI, eT, day100 hd] using f
      · rw [if_neg k4]
        exact ⟨fun _ => h5 j hj g k3 k4, fun h => absurd h (by decide)⟩
    · rw [if_neg k3]
      exact ⟨fun _ => h4 j hj g k3, fun h => absurd h (by decide)⟩
set_option maxHeartbeats 2000000 in
theorem gat_m {z : Zt} {m q i n d nS : Nat} {M : Nat → Nat} {w : Vt} {a : Int32} {K : Int32 → Vt → Prop} (hM : SM z m M) (hq : q < nS) (hnS : nS ≤ 6) (hi : i < 8) (ha : inI a 1 1000 = 1) (hn : n ≤ 14) (e14 : vI w 1014 m = nI nS) (e29 : vI w 1029 m = nI n) (hd : d ≤ 9999) (eT : vI w 1001 m = nI d)
    (h1 : fstP (hitM M w (nI q) (nI i) (nI (d % 100))) 0 n = -1 → K 1 (uI w 1000 m 0))
    (h4 : ∀ j, j < n → fstP (hitM M w (nI q) (nI i) (nI (d % 100))) 0 n = nI j → ¬ a ≤ vA w 2013 (M 1013) q → K 4 (uI w 1000 m 0))
    (h5 : ∀ j, j < n → fstP (hitM M w (nI q) (nI i) (nI (d % 100))) 0 n = nI j → a ≤ vA w 2013 (M 1013) q → ¬ a ≤ wlV (vA w 2015 (M 1015) i) (vA w 2019 (M 1019) i) → K 5 (uI w 1000 m 0))
    (h6 : ∀ j, j < n → fstP (hitM M w (nI q) (nI i) (nI (d % 100))) 0 n = nI j → a ≤ vA w 2013 (M 1013) q → a ≤ wlV (vA w 2015 (M 1015) i) (vA w 2019 (M 1019) i) → K 0 (gatM M (uI w 1000 m 0) i j d q a)) :
    wp_X10_gather z m (nI q) (nI i) a w K := by
  have hom := sm_m hM
  have v1 : vp_in (nI q) 6 := vp_in_nI (by omega) (by decide)
  have v2 : (nI q).toNatClampNeg = q := nI_clamp (by omega)
  have v6 : vp_in (nI i) 8 := vp_in_nI (by omega) (by decide)
  have v7 : (nI i).toNatClampNeg = i := nI_clamp (by omega)
  have g1 : inI (nI q) 0 (nI nS - 1) = 1 := inI_nI hq (by omega)
  have g3 : inI (nI i) 0 7 = 1 := by rw [← i8_eq]; exact inI_nI hi (by decide)
  have eS : vI (uI w 1000 m 0) 1014 m = nI nS := by rw [vI_u]; simpa using e14
  have e29b : vI (uI w 1000 m 0) 1029 m = nI n := by rw [vI_u]; simpa using e29
  have eTb : vI (uI w 1000 m 0) 1001 m = nI d := by rw [vI_u]; simpa using eT
  unfold wp_X10_gather
  simp only [hom, true_and, forall_eq, mS hM eS, g1, i11, mF, g3, in10, ha, rA_uI]
  refine ⟨fun x5 w6 => x5 = 0 ∧ w6 = uI w 1000 m 0, ?_, fun h => absurd trivial h, fun _ => ⟨fun _ => ⟨rfl, rfl⟩, fun h => absurd trivial h⟩⟩
  rintro x5 w6 ⟨rfl, rfl⟩
  rw [th0 hom]
  refine ⟨fun h => absurd rfl h, fun _ => ?_⟩
  refine ⟨fun x5 w6 => x5 = 0 ∧ w6 = uI w 1000 m 0, ?_, fun _ => ⟨rfl, rfl⟩, fun h => absurd h (by decide)⟩
  rintro x5 w6 ⟨rfl, rfl⟩
  rw [th0 hom]
  refine ⟨fun _ => ?_, fun h => absurd rfl h⟩
  rw [eTb, dayrem hd]
  refine fp_m hM hn e29b ?_
  rw [show hitM M (uI w 1000 m 0) = hitM M w from rfl]
  rcases fstP_cases (hitM M w (nI q) (nI i) (nI (d % 100))) n 0 with g | ⟨j, -, hj, -, g⟩
  · rw [g]
    exact ⟨fun h => absurd h (by decide), fun _ => h1 g⟩
  have hj : j < n := by omega
  rw [g]
  refine ⟨fun _ => ⟨M 1013, (sm_1013 hM).1, (sm_1013 hM).2, v1, ?_⟩, fun h => absurd (nI_pos' (by omega)) h⟩
  rw [v2, rA_uI]
  refine ⟨fun k3 => ?_, fun k3 => h4 j hj g k3⟩
  rw [wl_m hM hi]
  refine ⟨fun k4 => ?_, fun k4 => h5 j hj g k3 k4⟩
  have f := h6 j hj g k3 k4
  refine ⟨v1, v1, M 1016, (sm_1016 hM).1, (sm_1016 hM).2, v6, v6, M 1019, (sm_1019 hM).1, (sm_1019 hM).2, v6, v6, ?_⟩
  refine ow_m (j := j) hM hi (by omega) hn hj hd (by simp [vI_u, rI_uA, eT]) (by simp [vI_u, rI_uA, e29]) ?_ ?_
  · simpa [hitM, rA_u, rA_uI] using g
  · simpa [gatM, vI_u, rI_uA, rA_u, rA_uI, eT, day100 hd, v7] using f
def cutO (f td dp mr n wd wl : Int32) : Int32 := if f = -1 then 1 else if td ≤ dp then (if mr = 1 then 3 else if n ≤ wd then (if n ≤ wl then 0 else 5) else 4) else 2
theorem nIne {j : Nat} (h : j < 2147483648) : ¬ nI j = -1 := fun e => absurd (e ▸ nI_pos (n := j) h) (by decide)
theorem n51 : ¬ (5 : Int32) = 0 := by decide
theorem n41 : ¬ (4 : Int32) = 0 := by decide
theorem n31 : ¬ (3 : Int32) = 0 := by decide
theorem n21 : ¬ (2 : Int32) = 0 := by decide
theorem n01 : ¬ (0 : Int32) = 1 := by decide
theorem cut_cF {z : Zt} {x t q r i n d : Nat} {B : Nat → Nat → Nat → Nat} {N : Nat → Nat → Nat} {w : Vt} {a : Int32} {K : Int32 → Vt → Prop} {X : Nat → Vt → Prop} (hS : SC z x t B N) (hq : q < N 905 0) (hr : r < N 601 q) (hi : i < 8) (ha : inI a 1 1000 = 1) (hn : n ≤ 14) (e405 : vI w 405 (B 901 0 0) = nI n) (hd : d ≤ 9999) (eT : vI w 914 x = nI d)
    (hK : K (cutO (fstP (hitC B w (nI q) (nI i) (nI (d % 100))) 0 n) (vI w 915 x) (vI w 500 (B 1600 q r)) (mrV (vI w 506 (B 1600 q r)) (vI w 507 (B 1600 q r)) (vI w 508 (B 1600 q r)) (nI i) (nI d) (vI w 406 (B 901 0 0))) a (vI w 502 (B 1600 q r)) (wlV (vI w 1 (B 1906 i 0)) (vI w 2 (B 1906 i 0)))) (if cutO (fstP (hitC B w (nI q) (nI i) (nI (d % 100))) 0 n) (vI w 915 x) (vI w 500 (B 1600 q r)) (mrV (vI w 506 (B 1600 q r)) (vI w 507 (B 1600 q r)) (vI w 508 (B 1600 q r)) (nI i) (nI d) (vI w 406 (B 901 0 0))) a (vI w 502 (B 1600 q r)) (wlV (vI w 1 (B 1906 i 0)) (vI w 2 (B 1906 i 0))) = 0 then cutC B w (B 1600 q r) i (fstP (hitC B w (nI q) (nI i) (nI (d % 100))) 0 n).toNatClampNeg d q a else w)) : wp_X9_cut z x (nI q) (nI r) (nI i) a w K X := by
  refine cut_c hS hq hr hi ha hn e405 hd eT ?_ ?_ ?_ ?_ ?_ ?_
  · intro g
    simpa [cutO, g, n10] using hK
  · intro j hj g k1
    have v := nIne (j := j) (by omega)
    simpa [cutO, g, v, k1, n21] using hK
  · intro j hj g k1 k2
    have v := nIne (j := j) (by omega)
    simpa [cutO, g, v, k1, k2, n31] using hK
  · intro j hj g k1 k2 k3
    have v := nIne (j := j) (by omega)
    simpa [cutO, g, v, k1, k2, k3, n41, n01] using hK
  · intro j hj g k1 k2 k3 k4
    have v := nIne (j := j) (by omega)
    simpa [cutO, g, v, k1, k2, k3, k4, n51, n01] using hK
  · intro j hj g k1 k2 k3 k4
    have v := nIne (j := j) (by omega)
    have v2 : (nI j).toNatClampNeg = j := nI_clamp (by omega)
    simpa [cutO, g, v, v2, k1, k2, k3, k4, n01] using hK
theorem cut_mF {z : Zt} {m q r i n d nS nR : Nat} {M : Nat → Nat} {w : Vt} {a : Int32} {K : Int32 → Vt → Prop} (hM : SM z m M) (hq : q < nS) (hnS : nS ≤ 6) (hr : r < nR) (hnR : nR ≤ 4) (hi : i < 8) (ha : inI a 1 1000 = 1) (hn : n ≤ 14) (e14 : vI w 1014 m = nI nS) (e12 : vA w 2012 (M 1012) q = nI nR) (e29 : vI w 1029 m = nI n) (hd : d ≤ 9999) (eT : vI w 1001 m = nI d) (hy : vA w 2006 (M 1006) (4 * q + r) = -1 ∨ ∃ y : Nat, y ≤ 99 ∧ vA w 2006 (M 1006) (4 * q + r) = nI y)
    (hK : K (cutO (fstP (hitM M w (nI q) (nI i) (nI (d % 100))) 0 n) (vI w 1002 m) (vA w 2003 (M 1003) (4 * q + r)) (mrV (vA w 2006 (M 1006) (4 * q + r)) (vA w 2011 (M 1011) (4 * q + r)) (vA w 2010 (M 1010) (4 * q + r)) (nI i) (nI d) (vI w 1031 m)) a (vA w 2005 (M 1005) (4 * q + r)) (wlV (vA w 2015 (M 1015) i) (vA w 2019 (M 1019) i))) (if cutO (fstP (hitM M w (nI q) (nI i) (nI (d % 100))) 0 n) (vI w 1002 m) (vA w 2003 (M 1003) (4 * q + r)) (mrV (vA w 2006 (M 1006) (4 * q + r)) (vA w 2011 (M 1011) (4 * q + r)) (vA w 2010 (M 1010) (4 * q + r)) (nI i) (nI d) (vI w 1031 m)) a (vA w 2005 (M 1005) (4 * q + r)) (wlV (vA w 2015 (M 1015) i) (vA w 2019 (M 1019) i)) = 0 then cutM M (uI w 1000 m 0) (4 * q + r) i (fstP (hitM M w (nI q) (nI i) (nI (d % 100))) 0 n).toNatClampNeg d q a else uI w 1000 m 0)) : wp_X10_cut z m (nI q) (nI r) (nI i) a w K := by
  refine cut_m hM hq hnS hr hnR hi ha hn e14 e12 e29 hd eT hy ?_ ?_ ?_ ?_ ?_ ?_
  · intro g
    simpa [cutO, g, n10] using hK
  · intro j hj g k1
    have v := nIne (j := j) (by omega)
    simpa [cutO, g, v, k1, n21] using hK
  · intro j hj g k1 k2
    have v := nIne (j := j) (by omega)
    simpa [cutO, g, v, k1, k2, n31] using hK
  · intro j hj g k1 k2 k3
    have v := nIne (j := j) (by omega)
    simpa [cutO, g, v, k1, k2, k3, n41, n01] using hK
  · intro j hj g k1 k2 k3 k4
    have v := nIne (j := j) (by omega)
    simpa [cutO, g, v, k1, k2, k3, k4, n51, n01] using hK
  · intro j hj g k1 k2 k3 k4
    have v := nIne (j := j) (by omega)
    have v2 : (nI j).toNatClampNeg = j := nI_clamp (by omega)
    simpa [cutO, g, v, v2, k1, k2, k3, k4, n01] using hK
def gatO (f n wd wl : Int32) : Int32 := if f = -1 then 1 else if n ≤ wd then (if n ≤ wl then 0 else 5) else 4
theorem gat_cF {z : Zt} {x t q i n d : Nat} {B : Nat → Nat → Nat → Nat} {N : Nat → Nat → Nat} {w : Vt} {a : Int32} {K : Int32 → Vt → Prop} {X : Nat → Vt → Prop} (hS : SC z x t B N) (hq : q < N 905 0) (hi : i < 8) (ha : inI a 1 1000 = 1) (hn : n ≤ 14) (e405 : vI w 405 (B 901 0 0) = nI n) (hd : d ≤ 9999) (eT : vI w 914 x = nI d)
    (hK : K (gatO (fstP (hitC B w (nI q) (nI i) (nI (d % 100))) 0 n) a (vI w 602 (B 1904 q 0)) (wlV (vI w 1 (B 1906 i 0)) (vI w 2 (B 1906 i 0)))) (if gatO (fstP (hitC B w (nI q) (nI i) (nI (d % 100))) 0 n) a (vI w 602 (B 1904 q 0)) (wlV (vI w 1 (B 1906 i 0)) (vI w 2 (B 1906 i 0))) = 0 then gatC B w i (fstP (hitC B w (nI q) (nI i) (nI (d % 100))) 0 n).toNatClampNeg d q a else w)) : wp_X9_gather z x (nI q) (nI i) a w K X := by
  refine gat_c hS hq hi ha hn e405 hd eT ?_ ?_ ?_ ?_
  · intro g
    simpa [gatO, g, n10] using hK
  · intro j hj g k3
    have v := nIne (j := j) (by omega)
    simpa [gatO, g, v, k3, n41, n01] using hK
  · intro j hj g k3 k4
    have v := nIne (j := j) (by omega)
    simpa [gatO, g, v, k3, k4, n51, n01] using hK
  · intro j hj g k3 k4
    have v := nIne (j := j) (by omega)
    have v2 : (nI j).toNatClampNeg = j := nI_clamp (by omega)
    simpa [gatO, g, v, v2, k3, k4, n01] using hK
theorem gat_mF {z : Zt} {m q i n d nS : Nat} {M : Nat → Nat} {w : Vt} {a : Int32} {K : Int32 → Vt → Prop} (hM : SM z m M) (hq : q < nS) (hnS : nS ≤ 6) (hi : i < 8) (ha : inI a 1 1000 = 1) (hn : n ≤ 14) (e14 : vI w 1014 m = nI nS) (e29 : vI w 1029 m = nI n) (hd : d ≤ 9999) (eT : vI w 1001 m = nI d)
    (hK : K (gatO (fstP (hitM M w (nI q) (nI i) (nI (d % 100))) 0 n) a (vA w 2013 (M 1013) q) (wlV (vA w 2015 (M 1015) i) (vA w 2019 (M 1019) i))) (if gatO (fstP (hitM M w (nI q) (nI i) (nI (d % 100))) 0 n) a (vA w 2013 (M 1013) q) (wlV (vA w 2015 (M 1015) i) (vA w 2019 (M 1019) i)) = 0 then gatM M (uI w 1000 m 0) i (fstP (hitM M w (nI q) (nI i) (nI (d % 100))) 0 n).toNatClampNeg d q a else uI w 1000 m 0)) : wp_X10_gather z m (nI q) (nI i) a w K := by
  refine gat_m hM hq hnS hi ha hn e14 e29 hd eT ?_ ?_ ?_ ?_
  · intro g
    simpa [gatO, g, n10] using hK
  · intro j hj g k3
    have v := nIne (j := j) (by omega)
    simpa [gatO, g, v, k3, n41, n01] using hK
  · intro j hj g k3 k4
    have v := nIne (j := j) (by omega)
    simpa [gatO, g, v, k3, k4, n51, n01] using hK
  · intro j hj g k3 k4
    have v := nIne (j := j) (by omega)
    have v2 : (nI j).toNatClampNeg = j := nI_clamp (by omega)
    simpa [gatO, g, v, v2, k3, k4, n01] using hK
