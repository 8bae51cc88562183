/-! PURE PART: a day passes over the pits; the day -/
abbrev Sp : Type := (Nat → Int32) × (Nat → Int32) × (Nat → Int32) × (Nat → Int32)
/-- dry, lost, ash of the families, days left of the pits -/
def stP (rain : Int32) (load : Nat → Int32) (own : Nat → Nat) (S : Sp) (p : Nat) : Sp :=
  if S.2.2.2 p = 0 then S else if rain < 3 then (S.1, S.2.1, upd S.2.2.1 (own p) (S.2.2.1 (own p) + (if S.2.2.2 p - 1 = 0 then load p / 5 else 0)), upd S.2.2.2 p (S.2.2.2 p - 1))
  else (upd S.1 (own p) (S.1 (own p) + load p / 2), upd S.2.1 (own p) (S.2.1 (own p) + (load p - load p / 2)), S.2.2.1, upd S.2.2.2 p 0)
def foP (rain : Int32) (load : Nat → Int32) (own : Nat → Nat) (S : Sp) : Nat → Sp
  | 0 => S
  | p + 1 => stP rain load own (foP rain load own S p) p
def agPc (B : Nat → Nat → Nat → Nat) (N : Nat → Nat → Nat) (w : Vt) (S : Sp) : Prop := (∀ j, j < 8 → vI w 4 (B 1906 j 0) = S.1 j ∧ vI w 7 (B 1906 j 0) = S.2.1 j ∧ vI w 5 (B 1906 j 0) = S.2.2.1 j) ∧ ∀ p, p < N 908 0 → vI w 302 (B 1907 p 0) = S.2.2.2 p
def agPm (N : Nat → Nat → Nat) (M : Nat → Nat) (w : Vt) (S : Sp) : Prop := (∀ j, j < 8 → vA w 2017 (M 1017) j = S.1 j ∧ vA w 2021 (M 1021) j = S.2.1 j ∧ vA w 2018 (M 1018) j = S.2.2.1 j) ∧ ∀ p, p < N 908 0 → vA w 2025 (M 1025) p = S.2.2.2 p
abbrev pC : List Nat := [914, 915, 801, 903, 405, 406, 905, 601, 602, 500, 501, 502, 503, 504, 505, 506, 507, 508, 1, 2, 3, 6, 908, 301, 910, 200, 201, 202, 203, 204, 705, 103]
abbrev pMK : List Nat := [2033, 2027, 2012, 2013, 2003, 2004, 2005, 2006, 2007, 2008, 2009, 2010, 2011, 2015, 2016, 2019, 2020, 2022, 2023, 2024, 2040, 2042, 2043, 2044, 2045, 2046, 2048, 2049, 2050]
def leftOk (n : Nat) (S : Sp) : Prop := ∀ p, p < n → ∃ d : Nat, d ≤ 3 ∧ S.2.2.2 p = nI d
theorem stP_ok {rain : Int32} {load : Nat → Int32} {own : Nat → Nat} {S : Sp} {p n : Nat} (h : leftOk n S) (hp : p < n) : leftOk n (stP rain load own S p) := by
  intro q hq
  obtain ⟨d, hd, e⟩ := h q hq
  unfold stP
  by_cases h0 : S.2.2.2 p = 0
  · rw [if_pos h0]
    exact ⟨d, hd, e⟩
  · rw [if_neg h0]
    by_cases hr : rain < 3
    · rw [if_pos hr]
      by_cases hh : q = p
      · subst hh
        have hd0 : d ≠ 0 := fun h => h0 (by rw [e, h]; rfl)
        refine ⟨d - 1, by omega, ?_⟩
        simp only [upd, if_true]
        rw [e]
        exact pk_sub (b := 1) (by omega)
      · exact ⟨d, hd, by simp [upd, hh, e]⟩
    · rw [if_neg hr]
      by_cases hh : q = p
      · exact ⟨0, by omega, by simp [upd, hh]; rfl⟩
      · exact ⟨d, hd, by simp [upd, hh, e]⟩
theorem foP_ok {rain : Int32} {load : Nat → Int32} {own : Nat → Nat} {S : Sp} {n : Nat} (h : leftOk n S) : ∀ p, p ≤ n → leftOk n (foP rain load own S p) := by
  intro p
  induction p with
  | zero => intro _; exact h
  | succ p ih => intro hp; exact stP_ok (ih (by omega)) (by omega)
theorem pit_day_c {B : Nat → Nat → Nat → Nat} {N : Nat → Nat → Nat} {z : Zt} {x t : Nat} {w : Vt} {S : Sp} {rain : Int32} {load : Nat → Int32} {K : Vt → Prop} (hS : SC z x t B N) (hA : agPc B N w S) (hL : ∀ p, p < N 908 0 → vI w 301 (B 1907 p 0) = load p) (hok : leftOk (N 908 0) S)
    (hK : ∀ w1 : Vt, agPc B N w1 (foP rain load (N 300) S (N 908 0)) → frW pC aK w w1 → K w1) : wp_X9_passOverPits z x rain w K := by
  have hn := hS.2.2.2.2.1.1
  have key : ∀ (d i : Nat) (w1 : Vt), i + d = 12 → agPc B N w1 (foP rain load (N 300) S (if i ≤ N 908 0 then i else N 908 0)) → frW pC aK w w1 → wL_X9_passOverPits_11 z (B 907 0 0) x K (fun _ _ _ w14 => K w14) (d + 1) (nI i) 12 rain w1 := by
    intro d
    induction d with
    | zero =>
      intro i w1 hd hA hF
      have : i = 12 := by omega
      subst this
      rw [wL_X9_passOverPits_11]
      refine ⟨fun _ => hK w1 ?_ hF, fun h => absurd (nI_le (a := 12) (b := 12) (Nat.le_refl 12) (by decide)) h⟩
      by_cases h4 : 12 ≤ N 908 0
      · rw [if_pos h4, show 12 = N 908 0 by omega] at hA
        exact hA
      · rw [if_neg h4] at hA
        exact hA
    | succ d ih =>
      intro i w1 hd hA hF
      have v1 : vp_in (nI i) 12 := vp_in_nI (by omega) (by decide)
      have v2 : (nI i).toNatClampNeg = i := nI_clamp (by omega)
      have h5 := hS.2.2.2.2.1.2.1 i (by omega)
      rw [wL_X9_passOverPits_11]
      refine ⟨fun h => absurd h (nI_ge (b := 12) (by omega) (by decide)), fun _ => ⟨v1, ?_⟩⟩
      rw [v2]
      by_cases hi : i < N 908 0
      · rw [if_pos hi] at h5
        obtain ⟨p1, p2, p3⟩ := hS.2.2.2.2.1.2.2.1 i hi
        rw [h5]
        refine ⟨fun h => (by cases h), fun b hb => ?_⟩
        cases hb
        rw [if_pos (by omega)] at hA
        obtain ⟨g1, g2, g3, g4⟩ := hS.2.1.1 (N 300 i) p3
        obtain ⟨dl, hdl, edl⟩ := foP_ok (rain := rain) (load := load) (own := N 300) hok i (by omega) i hi
        generalize hSr : foP rain load (N 300) S i = Sr at hA edl
        have nx : ∀ w2 : Vt, agPc B N w2 (stP rain load (N 300) Sr i) → frW pC aK w w2 → ∀ x22 : Int32, x22 = nI i + 1 → wL_X9_passOverPits_11 z (B 907 0 0) x K (fun _ _ _ w14 => K w14) (d + 1) x22 12 rain w2 := by
          intro w2 hA1 hF1 x22 e22
          rw [e22, nI_1]
          refine ih (i + 1) w2 (by omega) ?_ hF1
          rw [if_pos (by omega)]
          show agPc B N w2 (stP rain load (N 300) (foP rain load (N 300) S i) i)
          rw [hSr]
          exact hA1
        have a4 := hA.2 i hi
        obtain ⟨a1, a2, a3⟩ := hA.1 (N 300 i) p3
        have el : vI w1 301 (B 1907 i 0) = load i := (hF.1 301 (by decide) _).trans (hL i hi)
        rw [a4]
        refine ⟨p1, ?_, ?_⟩
        · intro hc
          have h0 : Sr.2.2.2 i = 0 := by
            rw [edl] at hc ⊢
            by_cases hz : dl = 0
            · rw [hz]; rfl
            · exact absurd hc (nI_nle (by omega) (by omega))
          refine nx w1 ?_ hF
          unfold stP
          rw [if_pos h0]
          exact hA
        · intro hc
          have h0 : ¬ Sr.2.2.2 i = 0 := fun h => hc (by rw [h]; decide)
          unfold wp_X3_passDay
          refine ⟨p1, ?_, ?_⟩
          · intro hr w2 e2
            subst e2
            have e302 : vI (uI w1 302 (B 1907 i 0) (vI w1 302 (B 1907 i 0) - 1)) 302 (B 1907 i 0) = Sr.2.2.2 i - 1 := by simp [vI_u, a4]
            have e5 : vI (uI w1 302 (B 1907 i 0) (vI w1 302 (B 1907 i 0) - 1)) 5 (B 1906 (N 300 i) 0) = Sr.2.2.1 (N 300 i) := by simp [vI_u, a3]
            have e301 : vI (uI w1 302 (B 1907 i 0) (vI w1 302 (B 1907 i 0) - 1)) 301 (B 1907 i 0) = load i := by simp [vI_u, el]
            refine ⟨B 1906 (N 300 i) 0, p2, g2, ?_⟩
            rw [e302, e5, e301]
            have fin : ∀ (v : Int32), v = Sr.2.2.1 (N 300 i) + (if Sr.2.2.2 i - 1 = 0 then load i / 5 else 0) → agPc B N (uI (uI w1 302 (B 1907 i 0) (vI w1 302 (B 1907 i 0) - 1)) 5 (B 1906 (N 300 i) 0) v) (stP rain load (N 300) Sr i) := by
              intro v ev
              unfold stP
              rw [if_neg h0, if_pos hr]
              refine ⟨fun j hj => ?_, fun q hq => ?_⟩
              · obtain ⟨b1, b2, b3⟩ := hA.1 j hj
                have hij := hS.2.1.2.1 j (N 300 i) hj p3
                by_cases hh : j = N 300 i
                · refine ⟨?_, ?_, ?_⟩
                  · simp [vI_u, b1]
                  · simp [vI_u, b2]
                  · simp [vI_u, upd, hh, ev]
                · have h9 : ¬ B 1906 j 0 = B 1906 (N 300 i) 0 := fun h => hh (hij.mp h)
                  refine ⟨?_, ?_, ?_⟩
                  · simp [vI_u, b1]
                  · simp [vI_u, b2]
                  · simp [vI_u, upd, hh, h9, b3]
              · have hij := hS.2.2.2.2.1.2.2.2 q i hq hi
                by_cases hh : q = i
                · simp [vI_u, upd, hh, a4]
                · have h9 : ¬ B 1907 q 0 = B 1907 i 0 := fun h => hh (hij.mp h)
                  simp [vI_u, upd, hh, h9, hA.2 q hq]
            constructor
            · intro hl w5 ew5
              subst ew5
              exact nx _ (fin _ (by rw [if_neg hl])) ((hF.uI (by decide)).uI (by decide))
            · intro hl w5 ew5
              subst ew5
              exact nx _ (fin _ (by rw [if_pos hl])) ((hF.uI (by decide)).uI (by decide))
          · intro hr x7 e7
            refine ⟨B 1906 (N 300 i) 0, p2, g2, fun w9 e9 w10 e10 w11 e11 => ?_⟩
            subst e9 e10 e11
            refine nx _ ?_ (((hF.uI (by decide)).uI (by decide)).uI (by decide))
            unfold stP
            rw [if_neg h0, if_neg hr]
            refine ⟨fun j hj => ?_, fun q hq => ?_⟩
            · obtain ⟨b1, b2, b3⟩ := hA.1 j hj
              have hij := hS.2.1.2.1 j (N 300 i) hj p3
              by_cases hh : j = N 300 i
              · refine ⟨?_, ?_, ?_⟩
                · simp [vI_u, upd, hh, a1, e7, el]
                · simp [vI_u, upd, hh, a2, e7, el]
                · simp [vI_u, b3]
              · have h9 : ¬ B 1906 j 0 = B 1906 (N 300 i) 0 := fun h => hh (hij.mp h)
                refine ⟨?_, ?_, ?_⟩
                · simp [vI_u, upd, hh, h9, b1]
                · simp [vI_u, upd, hh, h9, b2]
                · simp [vI_u, b3]
            · have hij := hS.2.2.2.2.1.2.2.2 q i hq hi
              by_cases hh : q = i
              · simp [vI_u, upd, hh]
              · have h9 : ¬ B 1907 q 0 = B 1907 i 0 := fun h => hh (hij.mp h)
                simp [vI_u, upd, hh, h9, hA.2 q hq]
      · rw [if_neg hi] at h5
        rw [h5]
        refine ⟨fun _ x4 e4 => ?_, fun b hb => (by cases hb)⟩
        rw [e4, nI_1]
        refine ih (i + 1) w1 (by omega) ?_ hF
        by_cases hi2 : i ≤ N 908 0
        · have : i = N 908 0 := by omega
          rw [if_pos hi2] at hA
          rw [if_neg (by omega), ← this]
          exact hA
        · rw [if_neg hi2] at hA
          rw [if_neg (by omega)]
          exact hA
  unfold wp_X9_passOverPits
  refine ⟨sc_x hS, B 907 0 0, (sc_907 hS).1, (sc_907 hS).2, 12 + 1, key 12 0 w rfl ?_ (frW.rfl _ _ _)⟩
  rw [if_pos (Nat.zero_le _)]
  exact hA
theorem pit_day_m {N : Nat → Nat → Nat} {z : Zt} {m : Nat} {M : Nat → Nat} {w : Vt} {S : Sp} {p0 p1 rain st : Int32} {load : Nat → Int32} {K : Int32 → Vt → Prop} {Kx : Int32 → Int32 → Int32 → Int32 → Int32 → Vt → Prop} (hM : SM z m M) (hn : N 908 0 ≤ 12) (hA : agPm N M w S) (e26 : vI w 1026 m = nI (N 908 0)) (hL : ∀ p, p < N 908 0 → vA w 2024 (M 1024) p = load p ∧ vA w 2023 (M 1023) p = nI (N 300 p) ∧ N 300 p < 8)
    (hK : ∀ (x5 : Int32) (w1 : Vt), agPm N M w1 (foP rain load (N 300) S (N 908 0)) → (∀ i, N 908 0 ≤ i → vA w1 2025 (M 1025) i = vA w 2025 (M 1025) i) → frW mC0 pMK w w1 → Kx x5 p0 p1 rain st w1) : ∃ n57 : Nat, wL_X10_day_160 z m K Kx n57 0 p0 p1 rain st w := by
  have key : ∀ (d i : Nat) (w1 : Vt), i + d = N 908 0 → agPm N M w1 (foP rain load (N 300) S i) → (∀ i, N 908 0 ≤ i → vA w1 2025 (M 1025) i = vA w 2025 (M 1025) i) → frW mC0 pMK w w1 → wL_X10_day_160 z m K Kx (d + 1) (nI i) p0 p1 rain st w1 := by
    intro d
    induction d with
    | zero =>
      intro i w1 hd hA hz hF
      have : i = N 908 0 := by omega
      subst this
      rw [wL_X10_day_160, hF.1 1026 (by decide), e26]
      exact ⟨fun _ => hK _ w1 hA hz hF, fun h => absurd (nI_le (Nat.le_refl _) (by omega)) h⟩
    | succ d ih =>
      intro i w1 hd hA hz hF
      have hi : i < N 908 0 := by omega
      obtain ⟨l1, l2, l3⟩ := hL i hi
      have el : vA w1 2024 (M 1024) i = load i := (hF.2 2024 (by decide) _ _).trans l1
      have eo : vA w1 2023 (M 1023) i = nI (N 300 i) := (hF.2 2023 (by decide) _ _).trans l2
      have v1 : vp_in (nI i) 12 := vp_in_nI (by omega) (by decide)
      have v2 : (nI i).toNatClampNeg = i := nI_clamp (by omega)
      have v3 : vp_in (nI (N 300 i)) 8 := vp_in_nI (by omega) (by decide)
      have v4 : (nI (N 300 i)).toNatClampNeg = N 300 i := nI_clamp (by omega)
      generalize hSr : foP rain load (N 300) S i = Sr at hA
      have nx : ∀ w2 : Vt, agPm N M w2 (stP rain load (N 300) Sr i) → (∀ i, N 908 0 ≤ i → vA w2 2025 (M 1025) i = vA w 2025 (M 1025) i) → frW mC0 pMK w w2 → ∀ x22 : Int32, x22 = nI i + 1 → wL_X10_day_160 z m K Kx (d + 1) x22 p0 p1 rain st w2 := by
        intro w2 hA1 hz1 hF1 x22 e22
        rw [e22, nI_1]
        refine ih (i + 1) w2 (by omega) ?_ hz1 hF1
        show agPm N M w2 (stP rain load (N 300) (foP rain load (N 300) S i) i)
        rw [hSr]
        exact hA1
      have a4 := hA.2 i hi
      obtain ⟨a1, a2, a3⟩ := hA.1 (N 300 i) l3
      rw [wL_X10_day_160, hF.1 1026 (by decide), e26]
      refine ⟨fun h => absurd h (nI_ge (by omega) (by omega)), fun _ => ?_⟩
      unfold wp_X10_pitDay
      rw [v2]
      refine ⟨sm_m hM, M 1025, (sm_1025 hM).1, (sm_1025 hM).2, v1, ?_⟩
      rw [a4]
      refine ⟨fun h0 => ⟨M 1023, (sm_1023 hM).1, (sm_1023 hM).2, v1, fun x4 e4 => ?_⟩, fun h0 => ?_⟩
      · rw [eo] at e4
        subst e4
        rw [v4]
        constructor
        · intro hr
          refine ⟨v1, v1, fun w6 e6 => ⟨v1, ?_⟩⟩
          subst e6
          have e25 : vA (uA w1 2025 (M 1025) i (Sr.2.2.2 i - 1)) 2025 (M 1025) i = Sr.2.2.2 i - 1 := by simp [rA_u]
          rw [e25]
          constructor
          · intro hl
            refine nx _ ?_ (fun q hq => ?_) (hF.uA (by decide))
            · unfold stP
              rw [if_neg h0, if_pos hr]
              refine ⟨fun j hj => ?_, fun q hq => ?_⟩
              · obtain ⟨b1, b2, b3⟩ := hA.1 j hj
                refine ⟨?_, ?_, ?_⟩
                · simp [rA_u, b1]
                · simp [rA_u, b2]
                · by_cases hh : j = N 300 i
                  · simp [rA_u, upd, hh, hl, a3]
                  · simp [rA_u, upd, hh, b3]
              · by_cases hh : q = i
                · simp [rA_u, upd, hh]
                · simp [rA_u, upd, hh, hA.2 q hq]
            · have hh : ¬ q = i := by omega
              simp [rA_u, hh, hz q hq]
          · intro hl
            refine ⟨M 1018, (sm_1018 hM).1, (sm_1018 hM).2, v3, M 1024, (sm_1024 hM).1, (sm_1024 hM).2, v1, v3, fun w10 e10 => ?_⟩
            subst e10
            refine nx _ ?_ (fun q hq => ?_) ((hF.uA (by decide)).uA (by decide))
            · unfold stP
              rw [if_neg h0, if_pos hr]
              refine ⟨fun j hj => ?_, fun q hq => ?_⟩
              · obtain ⟨b1, b2, b3⟩ := hA.1 j hj
                refine ⟨?_, ?_, ?_⟩
                · simp [rA_u, b1]
                · simp [rA_u, b2]
                · by_cases hh : j = N 300 i
                  · simp [rA_u, upd, hh, hl, a3, el]
                  · simp [rA_u, upd, hh, b3]
              · by_cases hh : q = i
                · simp [rA_u, upd, hh]
                · simp [rA_u, upd, hh, hA.2 q hq]
            · have hh : ¬ q = i := by omega
              simp [rA_u, hh, hz q hq]
        · intro hr
          refine ⟨M 1017, (sm_1017 hM).1, (sm_1017 hM).2, v3, M 1024, (sm_1024 hM).1, (sm_1024 hM).2, v1, v3, fun w13 e13 => ⟨M 1021, (sm_1021 hM).1, (sm_1021 hM).2, v3, v1, v1, v3, fun w15 e15 => ⟨v1, fun w16 e16 => ?_⟩⟩⟩
          subst e13 e15 e16
          refine nx _ ?_ (fun q hq => ?_) (((hF.uA (by decide)).uA (by decide)).uA (by decide))
          · unfold stP
            rw [if_neg h0, if_neg hr]
            refine ⟨fun j hj => ?_, fun q hq => ?_⟩
            · obtain ⟨b1, b2, b3⟩ := hA.1 j hj
              by_cases hh : j = N 300 i
              · refine ⟨?_, ?_, ?_⟩
                · simp [rA_u, upd, hh, a1, el]
                · simp [rA_u, upd, hh, a2, el]
                · simp [rA_u, b3]
              · refine ⟨?_, ?_, ?_⟩
                · simp [rA_u, upd, hh, b1]
                · simp [rA_u, upd, hh, b2]
                · simp [rA_u, b3]
            · by_cases hh : q = i
              · simp [rA_u, upd, hh]
              · simp [rA_u, upd, hh, hA.2 q hq]
          · have hh : ¬ q = i := by omega
            simp [rA_u, hh, hz q hq]
      · refine nx w1 ?_ hz hF
        unfold stP
        rw [if_pos h0]
        exact hA
  exact ⟨N 908 0 + 1, key (N 908 0) 0 w (by omega) hA (fun _ _ => rfl) (frW.rfl _ _ _)⟩
theorem wk0_c {B : Nat → Nat → Nat → Nat} {N : Nat → Nat → Nat} {z : Zt} {x t : Nat} {w : Vt} {p0 p1 p2 p3 : Int32} {K : Int32 → Vt → Prop} {X : Nat → Vt → Prop} {Kx : Int32 → Int32 → Int32 → Int32 → Int32 → Int32 → Vt → Prop} (hS : SC z x t B N)
    (hK : ∀ (a b : Int32) (w1 : Vt), (∀ j, j < 8 → vI w1 2 (B 1906 j 0) = 0) → frW [914, 915, 801, 903, 405, 406, 905, 601, 602, 500, 501, 502, 503, 504, 505, 506, 507, 508, 1, 3, 4, 5, 6, 7, 908, 301, 302, 910, 200, 201, 202, 203, 204, 705, 103] aK w w1 → Kx a b p0 p1 p2 p3 w1) : ∃ n27 : Nat, wL_X9_day_105 z (B 906 0 0) x K X Kx n27 0 8 p0 p1 p2 p3 w := by
  have key : ∀ (d i : Nat) (w1 : Vt), i + d = 8 → (∀ j, j < i → vI w1 2 (B 1906 j 0) = 0) → frW [914, 915, 801, 903, 405, 406, 905, 601, 602, 500, 501, 502, 503, 504, 505, 506, 507, 508, 1, 3, 4, 5, 6, 7, 908, 301, 302, 910, 200, 201, 202, 203, 204, 705, 103] aK w w1 → wL_X9_day_105 z (B 906 0 0) x K X Kx (d + 1) (nI i) 8 p0 p1 p2 p3 w1 := by
    intro d
    induction d with
    | zero =>
      intro i w1 hd hA hF
      have : i = 8 := by omega
      subst this
      rw [wL_X9_day_105]
      exact ⟨fun _ => hK _ _ w1 hA hF, fun h => absurd (nI_le (a := 8) (b := 8) (Nat.le_refl 8) (by decide)) h⟩
    | succ d ih =>
      intro i w1 hd hA hF
      obtain ⟨g1, g2, -⟩ := hS.2.1.1 i (by omega)
      have v2 : (nI i).toNatClampNeg = i := nI_clamp (by omega)
      rw [wL_X9_day_105]
      refine ⟨fun h => absurd h (nI_ge (b := 8) (by omega) (by decide)), fun _ => ⟨vp_in_nI (by omega) (by decide), B 1906 i 0, ?_⟩⟩
      rw [v2]
      refine ⟨g1, g2, fun w25 e25 x26 e26 => ?_⟩
      subst e25
      rw [e26, nI_1]
      refine ih (i + 1) _ (by omega) (fun j hj => ?_) (hF.uI (by decide))
      by_cases hh : j = i
      · simp [vI_u, hh]
      · have h9 : ¬ B 1906 j 0 = B 1906 i 0 := fun h => hh ((hS.2.1.2.1 j i (by omega) (by omega)).mp h)
        simp [vI_u, h9, hA j (by omega)]
  exact ⟨8 + 1, key 8 0 w rfl (fun j hj => absurd hj (by omega)) (frW.rfl _ _ _)⟩
