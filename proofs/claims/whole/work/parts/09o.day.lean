/-! PURE PART: a day passes over the shores of the reference -/
abbrev mC0 : List Nat := [1000, 1001, 1002, 1034, 1038, 1029, 1031, 1014, 1026, 1041, 1047, 1051]
def zM (N : Nat → Nat → Nat) (M : Nat → Nat) (w0 w : Vt) : Prop := (∀ i, N 905 0 ≤ i → vA w 2013 (M 1013) i = vA w0 2013 (M 1013) i) ∧ (∀ i r, i < 6 → r < 4 → ¬ (i < N 905 0 ∧ r < N 601 i) → vA w 2009 (M 1009) (4 * i + r) = vA w0 2009 (M 1009) (4 * i + r))
theorem zM.rfl (N : Nat → Nat → Nat) (M : Nat → Nat) (w : Vt) : zM N M w w := ⟨fun _ _ => Eq.refl _, fun _ _ _ _ _ => Eq.refl _⟩
theorem zM_2 {N : Nat → Nat → Nat} {M : Nat → Nat} {w0 w : Vt} {a b j l : Nat} {u v : Int32} (h : zM N M w0 w) : zM N M w0 (uA (uA w 2005 a j u) 2007 b l v) := by
  refine ⟨fun i hi => ?_, fun i r hi hr hn => ?_⟩
  · simp [rA_u, h.1 i hi]
  · simp [rA_u, h.2 i r hi hr hn]
theorem zM_3 {N : Nat → Nat → Nat} {M : Nat → Nat} {w0 w : Vt} {a i r : Nat} {u v y : Int32} (h : zM N M w0 w) (hi : i < N 905 0) (hr : r < N 601 i) (h4 : N 601 i ≤ 4) : zM N M w0 (uA (uA (uA w 2005 a (4 * i + r) u) 2009 (M 1009) (4 * i + r) v) 2013 (M 1013) i y) := by
  refine ⟨fun j hj => ?_, fun j q hj hq hn => ?_⟩
  · have hh : ¬ j = i := by omega
    simp [rA_u, hh, h.1 j hj]
  · have hh : ¬ 4 * j + q = 4 * i + r := by
      intro e
      have h7 : j = i ∧ q = r := by omega
      exact hn ⟨h7.1 ▸ hi, h7.1 ▸ h7.2 ▸ hr⟩
    simp [rA_u, hh, h.2 j q hj hq hn]
theorem shr_day_m {N : Nat → Nat → Nat} {z : Zt} {m i d0 : Nat} {M : Nat → Nat} {w0 w : Vt} {S : Sd} {y st : Int32} {room depth : Nat → Nat → Int32} {K : Vt → Prop} (hM : SM z m M) (hn6 : N 905 0 ≤ 6) (h4 : ∀ i, i < N 905 0 → N 601 i ≤ 4) (hi : i < N 905 0) (hA : agM N M w S) (hF : frW mC0 sMK w0 w) (hz : zM N M w0 w) (e12 : vA w0 2012 (M 1012) i = nI (N 601 i)) (hr1 : ∀ r, r < N 601 i → vA w0 2004 (M 1004) (4 * i + r) = room i r ∧ vA w0 2003 (M 1003) (4 * i + r) = depth i r) (hd0 : d0 ≤ 10000) (eT : vI w0 1001 m = nI d0) (hy : y = if d0 % 100 = 0 then 1 else 0)
    (hK : ∀ w1 : Vt, agM N M w1 (foR y st room depth S i (N 601 i)) → frW mC0 sMK w0 w1 → zM N M w0 w1 → K w1) : wp_X10_shoreDay z m (nI i) st w K := by
  have hi4 := h4 i hi
  have u1 : (4 : Int32) * nI i = nI (4 * i) := pk_mul 4 i
  have u2 : nI (4 * i) + nI (N 601 i) = nI (4 * i + N 601 i) := nI_add _ _
  have v1 : vp_in (nI i) 6 := vp_in_nI (by omega) (by decide)
  have v2 : (nI i).toNatClampNeg = i := nI_clamp (by omega)
  have e2 : nI d0 - nI d0 / 100 * 100 = nI (d0 % 100) := pk_rem (d := 100) (by omega) (by decide) (by decide)
  have key : ∀ (d r : Nat) (w : Vt), r + d = N 601 i → agM N M w (foR y st room depth S i r) → frW mC0 sMK w0 w → zM N M w0 w → wL_X10_shoreDay_4 z m K (fun _ _ _ w28 => K w28) (d + 1) (nI (4 * i + r)) (nI i) st w := by
    intro d
    induction d with
    | zero =>
      intro r w hd hA hF hz
      have : r = N 601 i := by omega
      subst this
      rw [wL_X10_shoreDay_4]
      refine ⟨M 1012, (sm_1012 hM).1, (sm_1012 hM).2, v1, ?_⟩
      rw [v2, hF.2 2012 (by decide), e12, u1, u2]
      exact ⟨fun _ => hK w hA hF hz, fun h => absurd (nI_le (Nat.le_refl _) (by omega)) h⟩
    | succ d ih =>
      intro r w hd hA hF hz
      have hr : r < N 601 i := by omega
      have v3 : vp_in (nI (4 * i + r)) 24 := vp_in_nI (by omega) (by decide)
      have v4 : (nI (4 * i + r)).toNatClampNeg = 4 * i + r := nI_clamp (by omega)
      obtain ⟨q1, q2⟩ := hr1 r hr
      have er : vA w 2004 (M 1004) (4 * i + r) = room i r := (hF.2 2004 (by decide) _ _).trans q1
      have ed : vA w 2003 (M 1003) (4 * i + r) = depth i r := (hF.2 2003 (by decide) _ _).trans q2
      have eTw : vI w 1001 m = nI d0 := (hF.1 1001 (by decide) _).trans eT
      generalize hSr : foR y st room depth S i r = Sr at hA
      have nx : ∀ w1 : Vt, agM N M w1 (stR y st room depth Sr i r) → frW mC0 sMK w0 w1 → zM N M w0 w1 → ∀ x22 : Int32, x22 = nI (4 * i + r) + 1 → wL_X10_shoreDay_4 z m K (fun _ _ _ w28 => K w28) (d + 1) x22 (nI i) st w1 := by
        intro w1 hA1 hF1 hz1 x22 e22
        rw [e22, nI_1]
        refine ih (r + 1) w1 (by omega) ?_ hF1 hz1
        show agM N M w1 (stR y st room depth (foR y st room depth S i r) i r)
        rw [hSr]
        exact hA1
      obtain ⟨hA1, hA2⟩ := hA i hi
      obtain ⟨a1, a2, a3⟩ := hA1 r hr
      rw [wL_X10_shoreDay_4]
      refine ⟨M 1012, (sm_1012 hM).1, (sm_1012 hM).2, v1, ?_⟩
      rw [v2, hF.2 2012 (by decide), e12, u1, u2, v4, eTw, e2]
      refine ⟨fun h => absurd h (nI_ge (by omega) (by omega)), fun _ => ?_⟩
      refine ⟨fun w6 => vA w6 2005 (M 1005) (4 * i + r) = Sr.1 i r + moR y (room i r) (Sr.1 i r) ∧ vA w6 2007 (M 1007) (4 * i + r) = Sr.2.1 i r + moR y (room i r) (Sr.1 i r) ∧ (∀ k a j, ¬ ((k = 2005 ∨ k = 2007) ∧ j = 4 * i + r) → vA w6 k a j = vA w k a j) ∧ frW mC0 sMK w0 w6 ∧ zM N M w0 w6, ?_, ?_, ?_⟩
      · rintro w6 ⟨h1, h2, h3, h4', h5'⟩
        have e5 : vA w6 2009 (M 1009) (4 * i + r) = Sr.2.2.1 i r := by rw [h3 2009 _ _ (by omega)]; exact a3
        have e6 : vA w6 2013 (M 1013) i = Sr.2.2.2 i := by rw [h3 2013 _ _ (by omega)]; exact hA2
        have e7 : vA w6 2003 (M 1003) (4 * i + r) = depth i r := by rw [h3 2003 _ _ (by omega)]; exact ed
        refine ⟨M 1003, (sm_1003 hM).1, (sm_1003 hM).2, v3, ?_⟩
        rw [e7]
        constructor
        · intro hc
          refine ⟨M 1005, (sm_1005 hM).1, (sm_1005 hM).2, v3, fun x16 e16 => ⟨v3, v3, fun w17 e17 => ⟨M 1009, (sm_1009 hM).1, (sm_1009 hM).2, v3, v3, fun w19 e19 => ⟨M 1013, (sm_1013 hM).1, (sm_1013 hM).2, v1, v1, fun w21 e21 => ?_⟩⟩⟩⟩
          have et : x16 = tkR y st (room i r) (Sr.1 i r) (depth i r) := by rw [e16, h1]; simp [tkR, hc]
          subst e17 e19 e21
          refine nx _ (fun j hj => ⟨fun q hq => ?_, ?_⟩) (((h4'.uA (by decide)).uA (by decide)).uA (by decide)) (zM_3 h5' hi hr hi4)
          · obtain ⟨b1, b2, b3⟩ := (hA j hj).1 q hq
            have hj4 := h4 j hj
            by_cases hh : j = i ∧ q = r
            · obtain ⟨rfl, rfl⟩ := hh
              refine ⟨?_, ?_, ?_⟩ <;> simp [rA_u, stR, up2, h1, h2, e5, et]
            · have h9 : ¬ 4 * j + q = 4 * i + r := by omega
              refine ⟨?_, ?_, ?_⟩
              · simp [rA_u, stR, up2, h9, hh, h3 2005 _ _ (fun q => h9 q.2), b1]
              · simp [rA_u, stR, up2, h9, hh, h3 2007 _ _ (fun q => h9 q.2), b2]
              · simp [rA_u, stR, up2, h9, hh, h3 2009 _ _ (fun q => h9 q.2), b3]
          · by_cases hh : j = i
            · subst hh
              simp [rA_u, stR, upd, e6, et]
            · simp [rA_u, stR, upd, hh, h3 2013 _ _ (by omega), (hA j hj).2]
        · intro hc
          have et : tkR y st (room i r) (Sr.1 i r) (depth i r) = 0 := by simp [tkR, hc]
          refine nx _ (fun j hj => ⟨fun q hq => ?_, ?_⟩) h4' h5'
          · obtain ⟨b1, b2, b3⟩ := (hA j hj).1 q hq
            have hj4 := h4 j hj
            by_cases hh : j = i ∧ q = r
            · obtain ⟨rfl, rfl⟩ := hh
              refine ⟨?_, ?_, ?_⟩ <;> simp [stR, up2, h1, h2, e5, et]
            · have h9 : ¬ 4 * j + q = 4 * i + r := by omega
              refine ⟨?_, ?_, ?_⟩
              · simp [stR, up2, hh, h3 2005 _ _ (fun q => h9 q.2), b1]
              · simp [stR, up2, hh, h3 2007 _ _ (fun q => h9 q.2), b2]
              · simp [stR, up2, hh, h3 2009 _ _ (fun q => h9 q.2), b3]
          · by_cases hh : j = i
            · subst hh
              simp [stR, upd, e6, et]
            · simp [stR, upd, hh, h3 2013 _ _ (by omega), (hA j hj).2]
      · intro h
        have h0 : ¬ d0 % 100 = 0 := fun q => h (by rw [q]; rfl)
        rw [if_neg h0] at hy
        refine ⟨?_, ?_, fun _ _ _ _ => rfl, hF, hz⟩
        · rw [a1]; simp [moR, hy]
        · rw [a2]; simp [moR, hy]
      · intro h
        have h0 : d0 % 100 = 0 := (nI_eq (b := 0) (by omega) (by decide)).mp h
        rw [if_pos h0] at hy
        refine ⟨M 1004, (sm_1004 hM).1, (sm_1004 hM).2, v3, M 1005, (sm_1005 hM).1, (sm_1005 hM).2, v3, fun x9 e9 => ⟨v3, v3, fun w10 e10 => ⟨M 1007, (sm_1007 hM).1, (sm_1007 hM).2, v3, v3, fun w12 e12' => ?_⟩⟩⟩
        have ex2 : x9 = moR y (room i r) (Sr.1 i r) := by rw [e9, er, a1]; simp [moR, hy, n10]
        subst e10 e12'
        refine ⟨?_, ?_, ?_, (hF.uA (by decide)).uA (by decide), zM_2 hz⟩
        · simp [rA_u, a1, ex2]
        · simp [rA_u, a2, ex2]
        · intro k a j hh
          rw [rA_u, if_neg (by omega), rA_u, if_neg (by omega)]
  unfold wp_X10_shoreDay
  refine ⟨sm_m hM, fun x1 e1 => ⟨N 601 i + 1, ?_⟩⟩
  rw [e1, u1]
  exact key (N 601 i) 0 w (by omega) hA hF hz
theorem shs_day_m {N : Nat → Nat → Nat} {z : Zt} {m d0 : Nat} {M : Nat → Nat} {w : Vt} {S : Sd} {y st : Int32} {p1 p2 p3 : Int32} {room depth : Nat → Nat → Int32} {K : Int32 → Vt → Prop} {Kx : Int32 → Int32 → Int32 → Int32 → Int32 → Vt → Prop} (hM : SM z m M) (hn6 : N 905 0 ≤ 6) (h4 : ∀ i, i < N 905 0 → N 601 i ≤ 4) (hA : agM N M w S) (e14 : vI w 1014 m = nI (N 905 0)) (e12 : ∀ i, i < N 905 0 → vA w 2012 (M 1012) i = nI (N 601 i)) (hr1 : ∀ i r, i < N 905 0 → r < N 601 i → vA w 2004 (M 1004) (4 * i + r) = room i r ∧ vA w 2003 (M 1003) (4 * i + r) = depth i r) (hd0 : d0 ≤ 10000) (eT : vI w 1001 m = nI d0) (hy : y = if d0 % 100 = 0 then 1 else 0)
    (hK : ∀ (x5 : Int32) (w1 : Vt), agM N M w1 (foS y st room depth (N 601) S (N 905 0)) → frW mC0 sMK w w1 → zM N M w w1 → Kx x5 p1 p2 p3 st w1) : ∃ n33 : Nat, wL_X10_day_102 z m K Kx n33 0 p1 p2 p3 st w := by
  have key : ∀ (d i : Nat) (w1 : Vt), i + d = N 905 0 → agM N M w1 (foS y st room depth (N 601) S i) → frW mC0 sMK w w1 → zM N M w w1 → wL_X10_day_102 z m K Kx (d + 1) (nI i) p1 p2 p3 st w1 := by
    intro d
    induction d with
    | zero =>
      intro i w1 hd hA hF hz
      have : i = N 905 0 := by omega
      subst this
      rw [wL_X10_day_102, hF.1 1014 (by decide), e14]
      exact ⟨fun _ => hK _ w1 hA hF hz, fun h => absurd (nI_le (Nat.le_refl _) (by omega)) h⟩
    | succ d ih =>
      intro i w1 hd hA hF hz
      rw [wL_X10_day_102, hF.1 1014 (by decide), e14]
      refine ⟨fun h => absurd h (nI_ge (by omega) (by omega)), fun _ => ?_⟩
      refine shr_day_m (room := room) (depth := depth) hM hn6 h4 (by omega) hA hF hz (e12 i (by omega)) (fun r hr => hr1 i r (by omega) hr) hd0 eT hy (fun w2 hA2 hF2 hz2 x32 e32 => ?_)
      rw [e32, nI_1]
      exact ih (i + 1) w2 (by omega) hA2 hF2 hz2
  exact ⟨N 905 0 + 1, key (N 905 0) 0 w (by omega) hA (frW.rfl _ _ _) (zM.rfl _ _ _)⟩
