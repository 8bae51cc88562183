/-! PURE PART: rights -/
def swB (B : Nat → Nat → Nat → Nat) : Nat → Nat → Nat → Nat := fun k i j => if k = 901 then B 902 i j else if k = 902 then B 901 i j else if 400 ≤ k ∧ k ≤ 404 then B k (1 - i) j else B k i j
theorem SC.sw {z : Zt} {x t : Nat} {B : Nat → Nat → Nat → Nat} {N : Nat → Nat → Nat} (hS : SC z x t B N) : SC (uR (uR z 902 x (some (B 901 0 0))) 901 x (some (B 902 0 0))) x t (swB B) N := by
  have he : ∀ c b, ¬ c = 901 → ¬ c = 902 → zR (uR (uR z 902 x (some (B 901 0 0))) 901 x (some (B 902 0 0))) c b = zR z c b := fun c b h1 h2 => by
    rw [zR_u, if_neg (fun q => h1 q.1), zR_u, if_neg (fun q => h2 q.1)]
  refine ⟨⟨(show isO z 9 x from sc_x hS), (show isO z 3000 t from sc_t hS), ((he 900 _ (by decide) (by decide)).trans (sc_900 hS).1), (sc_900 hS).2, (by rw [zR_u, if_pos ⟨rfl, rfl⟩]; rfl), (sc_902 hS).2, (by rw [zR_u, if_neg (fun q => absurd q.1 (by decide)), zR_u, if_pos ⟨rfl, rfl⟩]; rfl), (sc_901 hS).2, ((he 904 _ (by decide) (by decide)).trans (sc_904 hS).1), (sc_904 hS).2, ((he 906 _ (by decide) (by decide)).trans (sc_906 hS).1), (sc_906 hS).2, ((he 907 _ (by decide) (by decide)).trans (sc_907 hS).1), (sc_907 hS).2, ((he 909 _ (by decide) (by decide)).trans (sc_909 hS).1), (sc_909 hS).2, ((he 911 _ (by decide) (by decide)).trans (sc_911 hS).1), (sc_911 hS).2, ((he 912 _ (by decide) (by decide)).trans (sc_912 hS).1), (sc_912 hS).2, ((he 913 _ (by decide) (by decide)).trans (sc_913 hS).1), (sc_913 hS).2, ((he 800 _ (by decide) (by decide)).trans (sc_800 hS).1), (sc_800 hS).2, ((he 700 _ (by decide) (by decide)).trans (sc_700 hS).1), (sc_700 hS).2, ((he 701 _ (by decide) (by decide)).trans (sc_701 hS).1), (sc_701 hS).2, ((he 702 _ (by decide) (by decide)).trans (sc_702 hS).1), (sc_702 hS).2, ((he 703 _ (by decide) (by decide)).trans (sc_703 hS).1), (sc_703 hS).2, ((he 704 _ (by decide) (by decide)).trans (sc_704 hS).1), (sc_704 hS).2, ((he 100 _ (by decide) (by decide)).trans (sc_100 hS).1), (sc_100 hS).2, ((he 101 _ (by decide) (by decide)).trans (sc_101 hS).1), (sc_101 hS).2, ((he 102 _ (by decide) (by decide)).trans (sc_102 hS).1), (sc_102 hS).2, ((he 104 _ (by decide) (by decide)).trans (sc_104 hS).1), (sc_104 hS).2, ((he 105 _ (by decide) (by decide)).trans (sc_105 hS).1), (sc_105 hS).2, ((he 400 _ (by decide) (by decide)).trans (sc_400s hS).1), (sc_400s hS).2, ((he 401 _ (by decide) (by decide)).trans (sc_401s hS).1), (sc_401s hS).2, ((he 402 _ (by decide) (by decide)).trans (sc_402s hS).1), (sc_402s hS).2, ((he 403 _ (by decide) (by decide)).trans (sc_403s hS).1), (sc_403s hS).2, ((he 404 _ (by decide) (by decide)).trans (sc_404s hS).1), (sc_404s hS).2, ((he 400 _ (by decide) (by decide)).trans (sc_400 hS).1), (sc_400 hS).2, ((he 401 _ (by decide) (by decide)).trans (sc_401 hS).1), (sc_401 hS).2, ((he 402 _ (by decide) (by decide)).trans (sc_402 hS).1), (sc_402 hS).2, ((he 403 _ (by decide) (by decide)).trans (sc_403 hS).1), (sc_403 hS).2, ((he 404 _ (by decide) (by decide)).trans (sc_404 hS).1), (sc_404 hS).2, (Ne.symm (sc_ne901 hS)), (Ne.symm (sc_ne400 hS)), (Ne.symm (sc_ne401 hS)), (Ne.symm (sc_ne402 hS)), (Ne.symm (sc_ne403 hS)), (Ne.symm (sc_ne404 hS))⟩, ⟨fun i hi => ?_, hS.2.1.2⟩, ⟨hS.2.2.1.1, hS.2.2.1.2.1, fun i hi => ?_, hS.2.2.1.2.2.2⟩, hS.2.2.2.1, ⟨hS.2.2.2.2.1.1, hS.2.2.2.2.1.2.1, fun i hi => ?_, hS.2.2.2.2.1.2.2.2⟩, hS.2.2.2.2.2⟩
  · obtain ⟨a1, a2, a3, a4⟩ := hS.2.1.1 i hi
    exact ⟨a1, a2, (he 0 _ (by decide) (by decide)).trans a3, a4⟩
  · obtain ⟨a1, a2, a3, a4⟩ := hS.2.2.1.2.2.1 i hi
    exact ⟨a1, (he 600 _ (by decide) (by decide)).trans a2, a3, a4⟩
  · obtain ⟨a1, a2, a3⟩ := hS.2.2.2.2.1.2.2.1 i hi
    exact ⟨a1, (he 300 _ (by decide) (by decide)).trans a2, a3⟩
section RC
variable {z : Zt} {x t n : Nat} {B : Nat → Nat → Nat → Nat} {N : Nat → Nat → Nat} {w0 w : Vt} {M : Nat → Nat}
theorem rights_c {K : Int32 → Zt → Vt → Prop} {X : Nat → Vt → Prop} {sh : Int32} {R : Bool × Nat × Nat × Int32 × List Pv} (hS : SC z x t B N) (hT : tapC B w0 M n w) (hn : n ≤ 400) (esh : vI w 905 x = sh) (hR : R = pL (btI w0 M n) (byI w0 M) n sh (n + 1) 0 0 2 [])
    (hX : ∀ w1 : Vt, R.1 = false → vI w1 801 (B 900 0 0) = 0 → vI w1 903 x = nI R.2.1 → (∀ c a, ¬ c ∈ [801, 802, 903] → ¬ (c = 405 ∧ a = B 902 0 0) → ¬ (c = 406 ∧ a = B 902 0 0) → vI w1 c a = vI w c a) → (∀ k a i, ¬ (k = 1400 ∧ a = B 400 1 0) → ¬ (k = 1401 ∧ a = B 401 1 0) → ¬ (k = 1402 ∧ a = B 402 1 0) → ¬ (k = 1403 ∧ a = B 403 1 0) → ¬ (k = 1404 ∧ a = B 404 1 0) → vA w1 k a i = vA w k a i) → X 2 w1)
    (hK : ∀ w1 : Vt, R.1 = true → R.2.2.1 ≤ 400 → vI w1 801 (B 900 0 0) = 0 → vI w1 903 x = -1 → vI w1 406 (B 902 0 0) = R.2.2.2.1 → tcP B w1 R.2.2.2.2 → R.2.2.2.2.length ≤ 14 → (∀ c a, ¬ c ∈ [801, 802, 903, 405, 406] → vI w1 c a = vI w c a) → (∀ k a i, ¬ k ∈ [1400, 1401, 1402, 1403, 1404] → vA w1 k a i = vA w k a i) → K (nI R.2.2.1) (uR (uR z 902 x (some (B 901 0 0))) 901 x (some (B 902 0 0))) w1) : wp_X9_rights z x w K X := by
  unfold wp_X9_rights wp_X8_partsRead wp_X4_forgetAll
  refine ⟨sc_x hS, B 900 0 0, (sc_900 hS).1, (sc_900 hS).2, B 902 0 0, (sc_902 hS).1, (sc_902 hS).2, (sc_900 hS).2, (sc_902 hS).2, (sc_902 hS).2, fun w1 e1 w2 e2 w4 e4 => ⟨n + 1, ?_⟩⟩
  have E : w4 = uI (uI (uI w 405 (B 902 0 0) 0) 406 (B 902 0 0) 2) 802 (B 900 0 0) 0 := by rw [e4, e2, e1]
  have hF4 : frK B w w4 := by
    rw [E]
    exact (((frK.rfl w).u (Or.inr (Or.inl ⟨rfl, rfl⟩))).u (Or.inr (Or.inr ⟨rfl, rfl⟩))).u (Or.inl rfl)
  rw [esh]
  refine lp_c (w := w) (w0 := w0) (M := M) (R := R) hS hn (fun w5 hr e5 _ F5 => ?_) (fun w5 hr hcnt e6 hC hlen F5 => ?_) (n + 1) 0 0 2 [] w4 hR (by omega) (by omega) (by simp) (by omega) (hT.k hF4) (by rw [E]; simp [vI_u]; rfl) ⟨by rw [E]; simp [vI_u]; rfl, fun i hi => absurd hi (Nat.not_lt_zero _)⟩ (by rw [E]; simp [vI_u]) hF4
  · intro w6 e6
    refine ⟨fun v w' => v = nI R.2.1 ∧ w' = w6, fun x7 w8 hJ w10 e10 => ?_, fun h => absurd rfl h, fun _ => ⟨?_, rfl⟩⟩
    · obtain ⟨rfl, rfl⟩ := hJ
      have E2 : w10 = uI (uI w5 801 (B 900 0 0) 0) 903 x (nI R.2.1) := by rw [e10, e6]
      refine ⟨fun h => absurd rfl h, fun _ => hX w10 hr ?_ ?_ (fun c a hc h1 h2 => ?_) (fun k a i h1 h2 h3 h4 h5 => ?_)⟩
      · rw [E2]; simp [vI_u]
      · rw [E2]; simp [vI_u]
      · simp only [List.mem_cons, List.not_mem_nil, or_false, not_or] at hc
        rw [E2]
        simp [vI_u, hc]
        exact F5.1 c a hc.2.1 h1 h2
      · rw [E2, rA_uI, rA_uI]
        exact F5.2 k a i h1 h2 h3 h4 h5
    · rw [e6, vI_u, if_neg (fun q => absurd q.1 (by decide))]
      exact e5
  · have hne : ¬ nI R.2.2.1 = -1 := nIne (by omega)
    intro w6 e6'
    refine ⟨fun v w' => v = -1 ∧ w' = w6, fun x7 w8 hJ w10 e10 => ?_, fun _ => ⟨rfl, rfl⟩, fun h => absurd h hne⟩
    obtain ⟨rfl, rfl⟩ := hJ
    have E2 : w10 = uI (uI w5 801 (B 900 0 0) 0) 903 x (-1) := by rw [e10, e6']
    refine ⟨fun _ => ⟨B 901 0 0, (sc_901 hS).1, (sc_901 hS).2, fun z1 ez1 => ⟨?_, ?_, fun z2 ez2 => ⟨?_, ?_, ?_⟩⟩⟩, fun h => absurd h hne⟩
    · rw [ez1]; exact (sc_902 hS).2
    · rw [ez1]; exact show isO z 9 x from sc_x hS
    · rw [ez2, ez1]; exact (sc_902 hS).2
    · rw [ez2, ez1]; exact show isO z 9 x from sc_x hS
    · rw [ez2, ez1]
      refine hK w10 hr hcnt ?_ ?_ ?_ ?_ hlen (fun c a hc => ?_) (fun k a i hk => ?_)
      · rw [E2]; simp [vI_u]
      · rw [E2]; simp [vI_u]
      · rw [E2]; simp [vI_u]; exact e6
      · rw [E2]
        exact (hC.u (by decide)).u (by decide)
      · simp only [List.mem_cons, List.not_mem_nil, or_false, not_or] at hc
        rw [E2]
        simp [vI_u, hc]
        exact F5.1 c a hc.2.1 (fun q => hc.2.2.2.1 q.1) (fun q => hc.2.2.2.2 q.1)
      · simp only [List.mem_cons, List.not_mem_nil, or_false, not_or] at hk
        rw [E2, rA_uI, rA_uI]
        exact F5.2 k a i (fun q => hk.1 q.1) (fun q => hk.2.1 q.1) (fun q => hk.2.2.1 q.1) (fun q => hk.2.2.2.1 q.1) (fun q => hk.2.2.2.2 q.1)
end RC
theorem ne_of_in {l l2 : List Nat} {c : Nat} (hd : ∀ c ∈ l, ¬ c ∈ l2) (h : c ∈ l) : ¬ c ∈ l2 := hd c h
theorem lw_ok_5 (x m t : Nat) : ok_5 (lw_I x m t) x m t := by
  intro k zc wc zm wm hk hI
  obtain ⟨B, N, M, hS, hM, hV⟩ := id hI
  obtain ⟨hTim, hTap, hRig, hSho, hRoc, hFam, hPit, hLot, hSto, hFor⟩ := id hV
  have hox := sc_x hS
  have hot := sc_t hS
  have hom := sm_m hM
  obtain ⟨T1, T2, ⟨n, hn, T3⟩, T4⟩ := hTap
  unfold wc_5 wp_L_rights
  have hT : tapC B wm M n wc := ⟨T1.trans T3, fun i hi => (T4 i hi).1⟩
  have hB : byB wm M := fun i hi => (T4 i hi).2
  have esc : vI wc 905 x = nI (N 905 0) := hSho.1
  have esm : vI wm 1014 m = nI (N 905 0) := hSho.2.1
  refine ⟨hox, hot, rights_c hS hT hn esc rfl (fun w1 hr a1 a2 f1 f2 => ⟨rfl, ?_⟩) (fun w1 hr hcnt a1 a2 a3 hC hlen f1 f2 => ⟨hot, fun w2 e2 => ?_⟩)⟩
  · refine ⟨hom, rights_m hM hn hB T3 esm rfl (fun h => by rw [hr] at h; cases h) (fun w2 hr2 b0 b1 b2 g1 g2 => ⟨hom, (thr hom _ _).mpr ⟨b0, fun _ => ?_, fun h => absurd h (by decide)⟩⟩) (fun w2 hr2 => by rw [hr] at hr2; cases hr2)⟩
    have f3 : ∀ cs ks : List Nat, (∀ c ∈ cs, ¬ c ∈ [801, 802, 903, 405, 406]) → (∀ c ∈ ks, ¬ c ∈ [1400, 1401, 1402, 1403, 1404]) → frW cs ks wc w1 := fun cs ks h1 h2 => ⟨fun c hc a => by
      have h := h1 c hc
      simp only [List.mem_cons, List.not_mem_nil, or_false, not_or] at h
      exact f1 c a (by simp only [List.mem_cons, List.not_mem_nil, or_false, not_or]; exact ⟨h.1, h.2.1, h.2.2.1⟩) (fun q => h.2.2.2.1 q.1) (fun q => h.2.2.2.2 q.1), fun c hc a i => by
      have h := h2 c hc
      simp only [List.mem_cons, List.not_mem_nil, or_false, not_or] at h
      exact f2 c a i (fun q => h.1 q.1) (fun q => h.2.1 q.1) (fun q => h.2.2.1 q.1) (fun q => h.2.2.2.1 q.1) (fun q => h.2.2.2.2 q.1)⟩
    have g3 : ∀ cs ks : List Nat, (∀ c ∈ cs, ¬ c ∈ [1000, 1030, 1032, 1034, 1035, 1036, 1037, 1038]) → (∀ c ∈ ks, ¬ c = 2028) → frW cs ks wm w2 := fun cs ks h1 h2 => ⟨fun c hc a => g1 c a (h1 c hc), fun c hc a i => g2 c a i (h2 c hc)⟩
    refine ⟨B, N, M, hS, hM, hTim.fr (f3 _ _ (by decide) (by decide)) (g3 _ _ (by decide) (by decide)), ?_, ?_, hSho.fr (f3 _ _ (by decide) (by decide)) (g3 _ _ (by decide) (by decide)), hRoc.fr (f3 _ _ (by decide) (by decide)) (g3 _ _ (by decide) (by decide)), (hFam.mono (Nat.le_succ k)).fr (f3 _ _ (by decide) (by decide)) (g3 _ _ (by decide) (by decide)), hPit.fr (f3 _ _ (by decide) (by decide)) (g3 _ _ (by decide) (by decide)), hLot.fr (f3 _ _ (by decide) (by decide)) (g3 _ _ (by decide) (by decide)), hSto.fr (f3 _ _ (by decide) (by decide)) (g3 _ _ (by decide) (by decide)), hFor.fr (f3 _ _ (by decide) (by decide)) (g3 _ _ (by decide) (by decide))⟩
    · refine ⟨a1.trans b1.symm, a2.trans b2.symm, ⟨0, by omega, b1⟩, fun i hi => ?_⟩
      rw [f2 1800 _ i (fun q => absurd q.1 (by decide)) (fun q => absurd q.1 (by decide)) (fun q => absurd q.1 (by decide)) (fun q => absurd q.1 (by decide)) (fun q => absurd q.1 (by decide)), g2 2033 _ i (by decide)]
      exact T4 i hi
    · obtain ⟨c1, c2, n', hn', c3, c4⟩ := hRig
      have hne := sc_ne901 hS
      refine ⟨?_, ?_, n', hn', ?_, fun i hi => ?_⟩
      · rw [f1 406 _ (by decide) (fun q => absurd q.1 (by decide)) (fun q => hne q.2), g1 1031 _ (by decide)]
        exact c1
      · rw [f1 405 _ (by decide) (fun q => hne q.2) (fun q => absurd q.1 (by decide)), g1 1029 _ (by decide)]
        exact c2
      · rw [g1 1029 _ (by decide)]
        exact c3
      · have d := c4 i hi
        rw [f2 1400 _ i (fun q => sc_ne400 hS q.2) (fun q => absurd q.1 (by decide)) (fun q => absurd q.1 (by decide)) (fun q => absurd q.1 (by decide)) (fun q => absurd q.1 (by decide))]
        rw [f2 1401 _ i (fun q => absurd q.1 (by decide)) (fun q => sc_ne401 hS q.2) (fun q => absurd q.1 (by decide)) (fun q => absurd q.1 (by decide)) (fun q => absurd q.1 (by decide))]
        rw [f2 1402 _ i (fun q => absurd q.1 (by decide)) (fun q => absurd q.1 (by decide)) (fun q => sc_ne402 hS q.2) (fun q => absurd q.1 (by decide)) (fun q => absurd q.1 (by decide))]
        rw [f2 1403 _ i (fun q => absurd q.1 (by decide)) (fun q => absurd q.1 (by decide)) (fun q => absurd q.1 (by decide)) (fun q => sc_ne403 hS q.2) (fun q => absurd q.1 (by decide))]
        rw [f2 1404 _ i (fun q => absurd q.1 (by decide)) (fun q => absurd q.1 (by decide)) (fun q => absurd q.1 (by decide)) (fun q => absurd q.1 (by decide)) (fun q => sc_ne404 hS q.2)]
        rw [g2 2027 _ (5 * i) (by decide)]
        rw [g2 2027 _ (5 * i + 1) (by decide)]
        rw [g2 2027 _ (5 * i + 2) (by decide)]
        rw [g2 2027 _ (5 * i + 3) (by decide)]
        rw [g2 2027 _ (5 * i + 4) (by decide)]
        exact d
  · refine ⟨hom, rights_m hM hn hB T3 esm rfl (fun _ => hcnt) (fun w3 hr2 => by rw [hr] at hr2; cases hr2) (fun w3 hr2 b0 b1 b2 b3 b4 _ bC g1 g2 => ⟨hom, (thr hom _ _).mpr ⟨b0, fun h => absurd rfl h, fun _ => ⟨hot, ?_, ?_⟩⟩⟩)⟩
    · rw [e2, rL_u, if_pos ⟨rfl, rfl, rfl⟩]
    · have f3 : ∀ cs ks : List Nat, (∀ c ∈ cs, ¬ c ∈ [801, 802, 903, 405, 406]) → (∀ c ∈ ks, ¬ c ∈ [1400, 1401, 1402, 1403, 1404]) → frW cs ks wc w2 := fun cs ks h1 h2 => ⟨fun c hc a => by rw [e2]; exact f1 c a (h1 c hc), fun c hc a i => by rw [e2]; exact f2 c a i (h2 c hc)⟩
      have g3 : ∀ cs ks : List Nat, (∀ c ∈ cs, ¬ c ∈ [1000, 1029, 1030, 1031, 1032, 1034, 1035, 1036, 1037, 1038]) → (∀ c ∈ ks, ¬ c ∈ [2027, 2028]) → frW cs ks wm w3 := fun cs ks h1 h2 => ⟨fun c hc a => g1 c a (h1 c hc), fun c hc a i => g2 c a i (h2 c hc)⟩
      refine ⟨swB B, N, M, hS.sw, hM, hTim.fr (f3 _ _ (by decide) (by decide)) (g3 _ _ (by decide) (by decide)), ?_, ?_, hSho.fr (f3 _ _ (by decide) (by decide)) (g3 _ _ (by decide) (by decide)), hRoc.fr (f3 _ _ (by decide) (by decide)) (g3 _ _ (by decide) (by decide)), (hFam.mono (Nat.le_succ k)).fr (f3 _ _ (by decide) (by decide)) (g3 _ _ (by decide) (by decide)), hPit.fr (f3 _ _ (by decide) (by decide)) (g3 _ _ (by decide) (by decide)), hLot.fr (f3 _ _ (by decide) (by decide)) (g3 _ _ (by decide) (by decide)), hSto.fr (f3 _ _ (by decide) (by decide)) (g3 _ _ (by decide) (by decide)), hFor.fr (f3 _ _ (by decide) (by decide)) (g3 _ _ (by decide) (by decide))⟩
      · refine ⟨?_, ?_, ⟨0, by omega, b1⟩, fun i hi => ?_⟩
        · show vI w2 801 (B 900 0 0) = _
          rw [e2]
          exact a1.trans b1.symm
        · rw [e2]
          exact a2.trans b2.symm
        · show vA w2 1800 (B 800 0 0) i = _ ∧ _
          rw [e2, rA_uL, f2 1800 _ i (by decide), g2 2033 _ i (by decide)]
          exact T4 i hi
      · refine ⟨?_, ?_, _, hlen, b3, fun i hi => ?_⟩
        · show vI w2 406 (B 902 0 0) = _
          rw [e2]
          exact a3.trans b4.symm
        · show vI w2 405 (B 902 0 0) = _
          rw [e2]
          exact hC.1.trans b3.symm
        · obtain ⟨p1, p2, p3, p4, p5⟩ := hC.2 i hi
          obtain ⟨q1, q2, q3, q4, q5⟩ := bC i hi
          show vA w2 1400 (B 400 1 0) i = _ ∧ vA w2 1401 (B 401 1 0) i = _ ∧ vA w2 1402 (B 402 1 0) i = _ ∧ vA w2 1403 (B 403 1 0) i = _ ∧ vA w2 1404 (B 404 1 0) i = _
          rw [e2]
          exact ⟨p1.trans q1.symm, p2.trans q2.symm, p3.trans q3.symm, p4.trans q4.symm, p5.trans q5.symm⟩
