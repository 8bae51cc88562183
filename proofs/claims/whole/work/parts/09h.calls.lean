/-! PURE PART: cut, gather -/
def wlV (h w : Int32) : Int32 := if 0 < 5 * h - w then 5 * h - w else 0
def mrV (cy cd cb fm td rest : Int32) : Int32 := if cy = -1 then 0 else if cd = td ∧ cb = fm then 0 else if rest < td / 100 - cy then 0 else 1
theorem wl_c {z : Zt} {a : Nat} {w : Vt} {K : Int32 → Vt → Prop} (h : isO z 0 a) : wp_X0_workLeft z a w K ↔ K (wlV (vI w 1 a) (vI w 2 a)) w := by
  unfold wp_X0_workLeft wlV
  simp [-Prod.forall, -Prod.exists, h]
theorem wl_m {z : Zt} {m i : Nat} {M : Nat → Nat} {w : Vt} {K : Int32 → Vt → Prop} (hM : SM z m M) (hi : i < 8) : wp_X10_workLeft z m (nI i) w K ↔ K (wlV (vA w 2015 (M 1015) i) (vA w 2019 (M 1019) i)) w := by
  have v1 : vp_in (nI i) 8 := vp_in_nI hi (by decide)
  have v2 : (nI i).toNatClampNeg = i := nI_clamp (by omega)
  unfold wp_X10_workLeft wlV
  simp [-Prod.forall, -Prod.exists, sm_m hM, sm_1015 hM, sm_1019 hM, v1, v2]
theorem mr_c {z : Zt} {a : Nat} {w : Vt} {f td rest : Int32} {K : Int32 → Vt → Prop} (h : isO z 5 a) : wp_X5_mustRest z a f td rest w K ↔ K (mrV (vI w 506 a) (vI w 507 a) (vI w 508 a) f td rest) w := by
  unfold wp_X5_mustRest mrV
  by_cases h1 : vI w 506 a = -1
  · by_cases h2 : vI w 507 a = td
    · by_cases h3 : vI w 508 a = f
      · simp [-Prod.forall, -Prod.exists, h, h1, h2, h3, jx]
      · simp [-Prod.forall, -Prod.exists, h, h1, h2, h3, jx]
    · simp [-Prod.forall, -Prod.exists, h, h1, h2, jx]
  · by_cases h2 : vI w 507 a = td
    · by_cases h3 : vI w 508 a = f
      · simp [-Prod.forall, -Prod.exists, h, h1, h2, h3, jx, n10]
      · by_cases h4 : rest < td / 100 - vI w 506 a
        · simp [-Prod.forall, -Prod.exists, h, h1, h2, h3, jx, h4, Int32.not_le.mpr h4]
        · simp [-Prod.forall, -Prod.exists, h, h1, h2, h3, jx, h4, Int32.not_lt.mp h4]
    · by_cases h4 : rest < td / 100 - vI w 506 a
      · simp [-Prod.forall, -Prod.exists, h, h1, h2, jx, h4, Int32.not_le.mpr h4]
      · simp [-Prod.forall, -Prod.exists, h, h1, h2, jx, h4, Int32.not_lt.mp h4]
theorem at_c {z : Zt} {a : Nat} {w : Vt} {n have_ : Int32} {K : Int32 → Vt → Prop} (h : isO z 0 a) : wp_X9_againstTaking z n have_ a w K ↔ K (if n ≤ have_ then (if n ≤ wlV (vI w 1 a) (vI w 2 a) then 0 else 5) else 4) w := by
  unfold wp_X9_againstTaking
  rw [wl_c h]
  by_cases h1 : n ≤ have_ <;> by_cases h2 : n ≤ wlV (vI w 1 a) (vI w 2 a)
  · simp [h, h1, h2, Int32.not_lt.mpr h1, Int32.not_lt.mpr h2]
  · simp [h, h1, h2, Int32.not_lt.mpr h1, Int32.not_le.mp h2]
  · simp [h, h1, Int32.not_le.mp h1]
  · simp [h, h1, Int32.not_le.mp h1]
theorem day100 {d : Nat} (hd : d ≤ 9999) : nI d / 100 = nI (d / 100) := pk_div (d := 100) (by omega) (by decide) (by decide)
theorem dayrem {d : Nat} (hd : d ≤ 9999) : nI d - nI d / 100 * 100 = nI (d % 100) := pk_rem (d := 100) (by omega) (by decide) (by decide)
theorem ow_c {z : Zt} {x t i q y : Nat} {B : Nat → Nat → Nat → Nat} {N : Nat → Nat → Nat} {w : Vt} {n : Int32} {K : Vt → Prop} (hS : SC z x t B N) (hi : i < 8) (hq : q < 6) (hy : y < 100) : wp_X0_owe z (B 1906 i 0) (nI q) (nI y) n w K ↔ K (uA w 1000 (B 0 i 0) (6 * y + q) (vA w 1000 (B 0 i 0) (6 * y + q) + n)) := by
  obtain ⟨-, f1, f2, f3⟩ := hS.2.1.1 i hi
  have h3 : inI (nI q) 0 5 = 1 := inI_nI (n := 6) hq (by decide)
  have h4 : inI (nI y) 0 99 = 1 := inI_nI (n := 100) hy (by decide)
  have v3 : nI y * 6 + nI q = nI (6 * y + q) := ix6r y q
  have v4 : vp_in (nI (6 * y + q)) 600 := vp_in_nI (by omega) (by decide)
  have v5 : (nI (6 * y + q)).toNatClampNeg = 6 * y + q := nI_clamp (by omega)
  unfold wp_X0_owe wp_X0_isOwedRow
  simp [-Prod.forall, -Prod.exists, f1, f2, f3, in9, h3, h4, v3, v4, v5, n10]
theorem sh_c {z : Zt} {x t j : Nat} {B : Nat → Nat → Nat → Nat} {N : Nat → Nat → Nat} {w : Vt} {K : Int32 → Vt → Prop} (hS : SC z x t B N) (hj : j < 14) : wp_X4_shareOf z (B 901 0 0) (nI j) w K ↔ K (vA w 1404 (B 404 0 0) j) w := by
  have v1 : ¬ nI j < 0 := nI_pos (by omega)
  have v2 : nI j < 15 := nI_lt (b := 15) (by omega) (by decide)
  have v3 : vp_in (nI j) 15 := vp_in_nI (by omega) (by decide)
  have v4 : (nI j).toNatClampNeg = j := nI_clamp (by omega)
  unfold wp_X4_shareOf
  simp [-Prod.forall, -Prod.exists, sc_901 hS, sc_404 hS, v1, v2, v3, v4]
theorem th_c {z : Zt} {x t i q j d : Nat} {B : Nat → Nat → Nat → Nat} {N : Nat → Nat → Nat} {w : Vt} {n : Int32} {K : Vt → Prop} (hS : SC z x t B N) (hi : i < 8) (hq : q < 6) (hj : j < 14) (hd : d ≤ 9999) (e : vI w 914 x = nI d) : wp_X9_takeHome z x (B 1906 i 0) (nI q) (nI j) n w K ↔ K (uA (uI (uI w 3 (B 1906 i 0) (vI w 3 (B 1906 i 0) + n)) 2 (B 1906 i 0) (vI w 2 (B 1906 i 0) + n)) 1000 (B 0 i 0) (6 * (d / 100) + q) (vA w 1000 (B 0 i 0) (6 * (d / 100) + q) + n * vA w 1404 (B 404 0 0) j / 100)) := by
  have f1 := (hS.2.1.1 i hi).2.1
  have f9 := fun (w : Vt) (n : Int32) (K : Vt → Prop) => ow_c (w := w) (n := n) (K := K) hS hi hq (show d / 100 < 100 by omega)
  unfold wp_X9_takeHome
  simp only [sc_x hS, f1, true_and, forall_eq, sc_901 hS, Option.some.injEq, exists_eq_left', sh_c hS hj]
  simp [-Prod.forall, -Prod.exists, vI_u, e, day100 hd, f9, rA_uI, sc_901 hS, sh_c hS hj]
theorem ow_m {z : Zt} {m i q j n d : Nat} {M : Nat → Nat} {w : Vt} {a : Int32} {K : Vt → Prop} (hM : SM z m M) (hi : i < 8) (hq : q < 6) (hn : n ≤ 14) (hj : j < n) (hd : d ≤ 9999) (e : vI w 1001 m = nI d) (e29 : vI w 1029 m = nI n) (hf : fstP (hitM M w (nI q) (nI i) (nI (d % 100))) 0 n = nI j) (hK : K (uA w 2022 (M 1022) (8 * (6 * (d / 100) + q) + i) (vA w 2022 (M 1022) (8 * (6 * (d / 100) + q) + i) + a * vA w 2027 (M 1027) (5 * j + 4) / 100))) : wp_X10_owe z m (nI q) (nI i) a w K := by
  have v3 : nI (d / 100) * 6 + nI q = nI (6 * (d / 100) + q) := ix6r _ _
  have v6 : nI (6 * (d / 100) + q) * 8 + nI i = nI (8 * (6 * (d / 100) + q) + i) := ix8r _ _
  have v7 : vp_in (nI (8 * (6 * (d / 100) + q) + i)) 4800 := vp_in_nI (by omega) (by decide)
  have v8 : (nI (8 * (6 * (d / 100) + q) + i)).toNatClampNeg = 8 * (6 * (d / 100) + q) + i := nI_clamp (by omega)
  have u0 : (5 : Int32) * nI j = nI (5 * j) := pk_mul 5 j
  have u4 : nI (5 * j) + 4 = nI (5 * j + 4) := nI_add _ 4
  have v9 : vp_in (nI (5 * j + 4)) 300 := vp_in_nI (by omega) (by decide)
  have c4 : (nI (5 * j + 4)).toNatClampNeg = 5 * j + 4 := nI_clamp (by omega)
  unfold wp_X10_owe
  rw [e, dayrem hd, day100 hd, v3, v6]
  refine ⟨sm_m hM, M 1022, (sm_1022 hM).1, (sm_1022 hM).2, v7, M 1027, (sm_1027 hM).1, (sm_1027 hM).2, fp_m hM hn e29 ?_⟩
  rw [hf, u0, u4]
  refine ⟨v9, v7, fun w5 e5 => ?_⟩
  rw [e5, v8, c4]
  exact hK
abbrev cutC (B : Nat → Nat → Nat → Nat) (w : Vt) (R i j d q : Nat) (n : Int32) : Vt :=
  uA (uI (uI (uI (uI (uI (uI (uI w 502 R (vI w 502 R - n)) 504 R (vI w 504 R + n)) 506 R (nI (d / 100))) 507 R (nI d)) 508 R (nI i)) 3 (B 1906 i 0) (vI w 3 (B 1906 i 0) + n)) 2 (B 1906 i 0) (vI w 2 (B 1906 i 0) + n)) 1000 (B 0 i 0) (6 * (d / 100) + q) (vA w 1000 (B 0 i 0) (6 * (d / 100) + q) + n * vA w 1404 (B 404 0 0) j / 100)
abbrev cutM (M : Nat → Nat) (w : Vt) (k i j d q : Nat) (n : Int32) : Vt :=
  uA (uA (uA (uA (uA (uA (uA (uA w 2005 (M 1005) k (vA w 2005 (M 1005) k - n)) 2008 (M 1008) k (vA w 2008 (M 1008) k + n)) 2016 (M 1016) i (vA w 2016 (M 1016) i + n)) 2019 (M 1019) i (vA w 2019 (M 1019) i + n)) 2006 (M 1006) k (nI (d / 100))) 2011 (M 1011) k (nI d)) 2010 (M 1010) k (nI i)) 2022 (M 1022) (8 * (6 * (d / 100) + q) + i) (vA w 2022 (M 1022) (8 * (6 * (d / 100) + q) + i) + n * vA w 2027 (M 1027) (5 * j + 4) / 100)
set_option maxHeartbeats 2000000 in
theorem cut_c {z : Zt} {x t q r i n d : Nat} {B : Nat → Nat → Nat → Nat} {N : Nat → Nat → Nat} {w : Vt} {a : Int32} {K : Int32 → Vt → Prop} {X : Nat → Vt → Prop} (hS : SC z x t B N) (hq : q < N 905 0) (hr : r < N 601 q) (hi : i < 8) (ha : inI a 1 1000 = 1) (hn : n ≤ 14) (e405 : vI w 405 (B 901 0 0) = nI n) (hd : d ≤ 9999) (eT : vI w 914 x = nI d)
    (h1 : fstP (hitC B w (nI q) (nI i) (nI (d % 100))) 0 n = -1 → K 1 w)
    (h2 : ∀ j, j < n → fstP (hitC B w (nI q) (nI i) (nI (d % 100))) 0 n = nI j → ¬ vI w 915 x ≤ vI w 500 (B 1600 q r) → K 2 w)
    (h3 : ∀ j, j < n → fstP (hitC B w (nI q) (nI i) (nI (d % 100))) 0 n = nI j → vI w 915 x ≤ vI w 500 (B 1600 q r) → mrV (vI w 506 (B 1600 q r)) (vI w 507 (B 1600 q r)) (vI w 508 (B 1600 q r)) (nI i) (nI d) (vI w 406 (B 901 0 0)) = 1 → K 3 w)
    (h4 : ∀ j, j < n → fstP (hitC B w (nI q) (nI i) (nI (d % 100))) 0 n = nI j → vI w 915 x ≤ vI w 500 (B 1600 q r) → mrV (vI w 506 (B 1600 q r)) (vI w 507 (B 1600 q r)) (vI w 508 (B 1600 q r)) (nI i) (nI d) (vI w 406 (B 901 0 0)) = 0 → ¬ a ≤ vI w 502 (B 1600 q r) → K 4 w)
    (h5 : ∀ j, j < n → fstP (hitC B w (nI q) (nI i) (nI (d % 100))) 0 n = nI j → vI w 915 x ≤ vI w 500 (B 1600 q r) → mrV (vI w 506 (B 1600 q r)) (vI w 507 (B 1600 q r)) (vI w 508 (B 1600 q r)) (nI i) (nI d) (vI w 406 (B 901 0 0)) = 0 → a ≤ vI w 502 (B 1600 q r) → ¬ a ≤ wlV (vI w 1 (B 1906 i 0)) (vI w 2 (B 1906 i 0)) → K 5 w)
    (h6 : ∀ j, j < n → fstP (hitC B w (nI q) (nI i) (nI (d % 100))) 0 n = nI j → vI w 915 x ≤ vI w 500 (B 1600 q r) → mrV (vI w 506 (B 1600 q r)) (vI w 507 (B 1600 q r)) (vI w 508 (B 1600 q r)) (nI i) (nI d) (vI w 406 (B 901 0 0)) = 0 → a ≤ vI w 502 (B 1600 q r) → a ≤ wlV (vI w 1 (B 1906 i 0)) (vI w 2 (B 1906 i 0)) → K 0 (cutC B w (B 1600 q r) i j d q a)) :
    wp_X9_cut z x (nI q) (nI r) (nI i) a w K X := by
  have hn6 := hS.2.2.1.1
  have s1 := (hS.2.2.1.2.2.1 q hq).1
  have r1 := hS.2.2.2.1.2.1 q r hq hr
  have f1 := (hS.2.1.1 i hi).2.1
  unfold wp_X9_cut
  refine ⟨sc_x hS, (nS1 hS hq).mpr ⟨s1, (nR1 hS hq hr).mpr ⟨r1, (nF1 hS hi).mpr ⟨f1, ?_⟩⟩⟩⟩
  unfold wp_X9_needAmount
  rw [in9, ha]
  refine ⟨fun _ => ⟨B 901 0 0, (sc_901 hS).1, (sc_901 hS).2, ?_⟩, fun h => absurd h (by decide)⟩
  rw [eT, dayrem hd]
  refine fp_c hS hn e405 ?_
  rcases fstP_cases (hitC B w (nI q) (nI i) (nI (d % 100))) n 0 with g | ⟨j, -, hj, -, g⟩
  · rw [g]
    exact ⟨fun h => absurd rfl h, fun _ => h1 g⟩
  · have hj : j < n := by omega
    have g1 : ¬ nI j = -1 := fun h => absurd (h ▸ nI_pos (n := j) (by omega)) (by decide)
    rw [g]
    refine ⟨fun _ => ⟨fun k1 => ?_, fun k1 => h2 j hj g k1⟩, fun h => absurd h g1⟩
    rw [mr_c r1, eT]
    by_cases k2 : mrV (vI w 506 (B 1600 q r)) (vI w 507 (B 1600 q r)) (vI w 508 (B 1600 q r)) (nI i) (nI d) (vI w 406 (B 901 0 0)) = 0
    · rw [k2]
      refine ⟨fun _ => ?_, fun h => absurd rfl h⟩
      rw [at_c f1]
      by_cases k3 : a ≤ vI w 502 (B 1600 q r)
      · rw [if_pos k3]
        by_cases k4 : a ≤ wlV (vI w 1 (B 1906 i 0)) (vI w 2 (B 1906 i 0))
        · rw [if_pos k4]
          refine ⟨fun h => absurd rfl h, fun _ => ?_⟩
          have f := h6 j hj g k1 k2 k3 k4
          unfold wp_X5_loseToCutting
          refine ⟨r1, fun w1 e1 w2 e2 w3 e3 w4 e4 w5 e5 => ?_⟩
          subst e1 e2 e3 e4 e5
          rw [th_c hS hi (by omega) (by omega) hd (by simp [vI_u, eT])]
          simpa [vI_u, rA_uI, eT, day100 hd] using f
        · rw [if_neg k4]
          exact ⟨fun _ => h5 j hj g k1 k2 k3 k4, fun h => absurd h (by decide)⟩
      · rw [if_neg k3]
        exact ⟨fun _ => h4 j hj g k1 k2 k3, fun h => absurd h (by decide)⟩
    · have k2b : mrV (vI w 506 (B 1600 q r)) (vI w 507 (B 1600 q r)) (vI w 508 (B 1600 q r)) (nI i) (nI d) (vI w 406 (B 901 0 0)) = 1 := by
        unfold mrV at k2 ⊢
        split at k2
        · exact absurd rfl k2
        · split at k2
          · exact absurd rfl k2
          · split at k2
            · exact absurd rfl k2
            · simp [*]
      exact ⟨fun h => absurd h k2, fun _ => h3 j hj g k1 k2b⟩
