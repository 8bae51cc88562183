/-! PURE PART: feed agrees -/
def tpD (f : Int32 → Nat → Int32) (arg : Nat → Int32) (n k : Nat) (old : Nat → Int32) (i : Nat) : Int32 := if n ≤ i ∧ i < n + k then f (arg ((i - n) / 4)) ((i - n) % 4) else old i
theorem tpD_0 (f : Int32 → Nat → Int32) (arg : Nat → Int32) (n : Nat) (old : Nat → Int32) (i : Nat) : tpD f arg n 0 old i = old i := by
  unfold tpD
  rw [if_neg (by omega)]
theorem feed_c {z : Zt} {x t n : Nat} {B : Nat → Nat → Nat → Nat} {N : Nat → Nat → Nat} {w : Vt} {a1 a2 a3 a4 a5 : Int32} {K : Int32 → Vt → Prop} (hS : SC z x t B N) (hn : n + 20 ≤ 400) (e : vI w 801 (B 900 0 0) = nI n) (arg : Nat → Int32) (ha : arg 0 = a1 ∧ arg 1 = a2 ∧ arg 2 = a3 ∧ arg 3 = a4 ∧ arg 4 = a5)
    (hK : ∀ w1 : Vt, vI w1 801 (B 900 0 0) = nI (n + 20) → (∀ i, vA w1 1800 (B 800 0 0) i = tpD byC arg n 20 (vA w 1800 (B 800 0 0)) i) → frW tC tK w w1 → K (nI (n + 20)) w1) : wp_X9_feed z x a1 a2 a3 a4 a5 w K := by
  obtain ⟨rfl, rfl, rfl, rfl, rfl⟩ := ha
  have st : ∀ (j : Nat) (w0 w1 : Vt), (∀ i, vA w0 1800 (B 800 0 0) i = tpD byC arg n (4 * j) (vA w 1800 (B 800 0 0)) i) → (∀ i, vA w1 1800 (B 800 0 0) i = if n + 4 * j ≤ i ∧ i < n + 4 * j + 4 then byC (arg j) (i - (n + 4 * j)) else vA w0 1800 (B 800 0 0) i) → ∀ i, vA w1 1800 (B 800 0 0) i = tpD byC arg n (4 * (j + 1)) (vA w 1800 (B 800 0 0)) i := by
    intro j w0 w1 h0 h1 i
    rw [h1 i]
    by_cases hh : n + 4 * j ≤ i ∧ i < n + 4 * j + 4
    · unfold tpD
      rw [if_pos hh, if_pos (by omega), show (i - n) / 4 = j by omega, show (i - n) % 4 = i - (n + 4 * j) by omega]
    · rw [if_neg hh, h0 i]
      unfold tpD
      by_cases h2 : n ≤ i ∧ i < n + 4 * j
      · rw [if_pos h2, if_pos (by omega)]
      · rw [if_neg h2, if_neg (by omega)]
  unfold wp_X9_feed
  have c0 : nI n + 20 ≤ 400 := by
    rw [show (20 : Int32) = nI 20 from rfl, nI_add]
    exact nI_le (b := 400) hn (by decide)
  refine ⟨sc_x hS, B 900 0 0, (sc_900 hS).1, (sc_900 hS).2, ?_, ?_⟩
  · intro _
    refine put_c hS (n := n) (by omega) e (fun w1 b1 d1 f1 => ?_)
    have g1 := st 0 w w1 (fun i => (tpD_0 _ _ _ _ i).symm) d1
    refine put_c hS (n := n + 4) (by omega) b1 (fun w2 b2 d2 f2 => ?_)
    have g2 := st 1 w1 w2 g1 d2
    refine put_c hS (n := n + 4 + 4) (by omega) b2 (fun w3 b3 d3 f3 => ?_)
    have g3 := st 2 w2 w3 g2 d3
    refine put_c hS (n := n + 4 + 4 + 4) (by omega) b3 (fun w4 b4 d4 f4 => ?_)
    have g4 := st 3 w3 w4 g3 d4
    refine put_c hS (n := n + 4 + 4 + 4 + 4) (by omega) b4 (fun w5 b5 d5 f5 => ?_)
    have g5 := st 4 w4 w5 g4 d5
    rw [b5]
    exact hK w5 b5 g5 ((((f1.trans f2).trans f3).trans f4).trans f5)
  · intro h
    rw [e] at h
    exact absurd c0 h
theorem feed_m {z : Zt} {m n : Nat} {M : Nat → Nat} {w : Vt} {a1 a2 a3 a4 a5 : Int32} {K : Int32 → Vt → Prop} (hM : SM z m M) (hn : n + 20 ≤ 400) (e : vI w 1034 m = nI n) (arg : Nat → Int32) (ha : arg 0 = a1 ∧ arg 1 = a2 ∧ arg 2 = a3 ∧ arg 3 = a4 ∧ arg 4 = a5)
    (hK : ∀ w1 : Vt, vI w1 1034 m = nI (n + 20) → (∀ i, vA w1 2033 (M 1033) i = tpD byM arg n 20 (vA w 2033 (M 1033)) i) → frW tMC tMK w w1 → K (nI (n + 20)) w1) : wp_X10_feed z m a1 a2 a3 a4 a5 w K := by
  obtain ⟨rfl, rfl, rfl, rfl, rfl⟩ := ha
  have key : ∀ (d k : Nat) (w1 : Vt), k + d = 20 → vI w1 1034 m = nI n → (∀ j, j < 5 → vA w1 2039 (M 1039) j = arg j) → (∀ i, vA w1 2033 (M 1033) i = tpD byM arg n k (vA w 2033 (M 1033)) i) → frW tMC tMK w w1 → wL_X10_feed_60 z m K (fun _ _ _ _ _ _ w21 => ∀ w22 : Vt, w22 = uI w21 1034 m ((vI w21 1034 m) + 20) → K (vI w22 1034 m) w22) (d + 1) (nI k) (arg 0) (arg 1) (arg 2) (arg 3) (arg 4) w1 := by
    intro d
    induction d with
    | zero =>
      intro k w1 hk e1 h5 hA hF
      have : k = 20 := by omega
      subst this
      rw [wL_X10_feed_60]
      refine ⟨fun _ w22 e22 => ?_, fun h => absurd (nI_le (a := 20) (b := 20) (Nat.le_refl 20) (by decide)) h⟩
      have e3 : vI w22 1034 m = nI (n + 20) := by
        rw [e22, vI_u, if_pos ⟨rfl, rfl⟩, e1]
        exact nI_add n 20
      rw [e3]
      subst e22
      exact hK _ e3 hA (hF.uI (by decide))
    | succ d ih =>
      intro k w1 hk e1 h5 hA hF
      have q1 : nI k / 4 = nI (k / 4) := pk_div (d := 4) (by omega) (by decide) (by decide)
      have q2 : nI k - nI k / 4 * 4 = nI (k % 4) := pk_rem (d := 4) (by omega) (by decide) (by decide)
      have q3 : (8 : Int32) * nI (k % 4) = nI (8 * (k % 4)) := pk_mul 8 _
      have q4 : (24 : Int32) - nI (8 * (k % 4)) = nI (24 - 8 * (k % 4)) := pk_sub (a := 24) (by omega)
      rw [wL_X10_feed_60]
      refine ⟨fun h => absurd h (nI_ge (b := 20) (by omega) (by decide)), fun _ => ⟨M 1033, (sm_1033 hM).1, (sm_1033 hM).2, M 1039, (sm_1039 hM).1, (sm_1039 hM).2, ?_⟩⟩
      rw [q2, q1, q3, q4, e1, nI_add, nI_clamp (n := k / 4) (by omega), nI_clamp (n := n + k) (by omega), h5 (k / 4) (by omega)]
      refine ⟨vp_in_nI (by omega) (by decide), vp_in_nI (by omega) (by decide), fun w12 e12 x13 e13 => ?_⟩
      rw [e13, nI_1]
      refine ih (k + 1) w12 (by omega) ?_ ?_ ?_ ?_
      · rw [e12, rI_uA, e1]
      · intro j hj
        rw [e12, rA_u, if_neg (fun h => absurd h.1 (by decide)), h5 j hj]
      · intro i
        rw [e12, rA_u]
        by_cases hi : i = n + k
        · subst hi
          rw [if_pos ⟨rfl, rfl, rfl⟩]
          unfold tpD
          rw [if_pos (by omega), show n + k - n = k by omega]
          rfl
        · rw [if_neg (fun h => hi h.2.2), hA i]
          unfold tpD
          by_cases h2 : n ≤ i ∧ i < n + k
          · rw [if_pos h2, if_pos (by omega)]
          · rw [if_neg h2, if_neg (by omega)]
      · rw [e12]
        exact hF.uA (by decide)
  unfold wp_X10_feed
  have c0 : nI n + 20 ≤ 400 := by
    rw [show (20 : Int32) = nI 20 from rfl, nI_add]
    exact nI_le (b := 400) hn (by decide)
  refine ⟨sm_m hM, fun w1 ew => ?_⟩
  have e1 : vI w1 1034 m = nI n := by rw [ew, vI_u]; simpa using e
  rw [e1]
  refine ⟨fun _ => ⟨M 1039, (sm_1039 hM).1, (sm_1039 hM).2, vp_in_nI (n := 0) (by decide) (by decide), fun w4 e4 => ⟨vp_in_nI (n := 1) (by decide) (by decide), fun w5 e5 => ⟨vp_in_nI (n := 2) (by decide) (by decide), fun w6 e6 => ⟨vp_in_nI (n := 3) (by decide) (by decide), fun w7 e7 => ⟨vp_in_nI (n := 4) (by decide) (by decide), fun w8 e8 => ⟨20 + 1, ?_⟩⟩⟩⟩⟩⟩, fun h => absurd c0 h⟩
  have t0 : (0 : Int32).toNatClampNeg = 0 := by decide
  have t1 : (1 : Int32).toNatClampNeg = 1 := by decide
  have t2 : (2 : Int32).toNatClampNeg = 2 := by decide
  have t3 : (3 : Int32).toNatClampNeg = 3 := by decide
  have t4 : (4 : Int32).toNatClampNeg = 4 := by decide
  rw [t0] at e4
  rw [t1] at e5
  rw [t2] at e6
  rw [t3] at e7
  rw [t4] at e8
  subst ew e4 e5 e6 e7 e8
  refine key 20 0 _ rfl (by simp [rI_uA, vI_u, e]) (fun j hj => ?_) (fun i => ?_) (by repeat' (first | with_reducible refine frW.uI ?_ (by decide) | with_reducible refine frW.uA ?_ (by decide) | with_reducible refine frW.uF ?_ (by decide) | with_reducible refine frW.uL ?_ | exact frW.rfl _ _ _))
  · match j, hj with
    | 0, _ => simp [rA_u]
    | 1, _ => simp [rA_u]
    | 2, _ => simp [rA_u]
    | 3, _ => simp [rA_u]
    | 4, _ => simp [rA_u]
  · rw [tpD_0]
    simp [rA_u, rA_uI]
set_option maxHeartbeats 2000000 in
theorem lw_ok_0 (x m t : Nat) : ok_0 (lw_I x m t) x m t := by
  intro k zc wc zm wm hk hI a1 a2 a3 a4 a5
  obtain ⟨B, N, M, hS, hM, hV⟩ := id hI
  obtain ⟨hTim, hTap, hRig, hSho, hRoc, hFam, hPit, hLot, hSto, hFor⟩ := id hV
  have hox := sc_x hS
  have hot := sc_t hS
  have hom := sm_m hM
  obtain ⟨T1, T2, ⟨n, hn, T3⟩, T4⟩ := hTap
  unfold wc_0
  by_cases h : n + 20 ≤ 400
  · obtain ⟨arg, ha⟩ : ∃ arg : Nat → Int32, arg 0 = a1 ∧ arg 1 = a2 ∧ arg 2 = a3 ∧ arg 3 = a4 ∧ arg 4 = a5 := ⟨fun j => match j with
      | 0 => a1
      | 1 => a2
      | 2 => a3
      | 3 => a4
      | _ => a5, rfl, rfl, rfl, rfl, rfl⟩
    refine ⟨hox, feed_c hS h (T1.trans T3) arg ha (fun wc1 b1 d1 f1 => ⟨hom, feed_m hM h T3 arg ha (fun wm1 b2 d2 f2 => ⟨rfl, ?_⟩)⟩)⟩
    refine ⟨B, N, M, hS, hM, hTim.fr (f1.sub (by decide) (by decide)) (f2.sub (by decide) (by decide)), ?_, hRig.fr (f1.sub (by decide) (by decide)) (f2.sub (by decide) (by decide)), hSho.fr (f1.sub (by decide) (by decide)) (f2.sub (by decide) (by decide)), hRoc.fr (f1.sub (by decide) (by decide)) (f2.sub (by decide) (by decide)), (hFam.mono (Nat.le_succ k)).fr (f1.sub (by decide) (by decide)) (f2.sub (by decide) (by decide)), hPit.fr (f1.sub (by decide) (by decide)) (f2.sub (by decide) (by decide)), hLot.fr (f1.sub (by decide) (by decide)) (f2.sub (by decide) (by decide)), hSto.fr (f1.sub (by decide) (by decide)) (f2.sub (by decide) (by decide)), hFor.fr (f1.sub (by decide) (by decide)) (f2.sub (by decide) (by decide))⟩
    refine ⟨b1.trans b2.symm, ?_, ⟨n + 20, h, b2⟩, fun i hi => ?_⟩
    · rw [f1.1 903 (by decide), f2.1 1038 (by decide)]
      exact T2
    · rw [d1 i, d2 i]
      unfold tpD
      by_cases hh : n ≤ i ∧ i < n + 20
      · rw [if_pos hh, if_pos hh]
        exact byt_eq _ (by omega)
      · rw [if_neg hh, if_neg hh]
        exact T4 i hi
  · have c0 : ¬ nI n + 20 ≤ 400 := by
      rw [show (20 : Int32) = nI 20 from rfl, nI_add]
      exact nI_ge (a := 400) (by omega) (by omega)
    have c1 : 400 < nI n + 20 := Int32.not_le.mp c0
    unfold wp_X9_feed wp_X10_feed
    simp [-Prod.forall, -Prod.exists, hox, hot, hom, th0 hom, th1 hom, thr hom, vI_u, rI_uA, rI_uL, rA_uI, rL_uI, rL_uA, rL_u, i10, i11, n10, mF, in9, in10, c0, jx, jx0, jb, jb0, sc_900 hS, T1, T3, c0, c1]
    exact lw_keep hI (by repeat' (first | with_reducible refine frW.uI ?_ (by decide) | with_reducible refine frW.uA ?_ (by decide) | with_reducible refine frW.uF ?_ (by decide) | with_reducible refine frW.uL ?_ | exact frW.rfl _ _ _)) (by repeat' (first | with_reducible refine frW.uI ?_ (by decide) | with_reducible refine frW.uA ?_ (by decide) | with_reducible refine frW.uF ?_ (by decide) | with_reducible refine frW.uL ?_ | exact frW.rfl _ _ _))
