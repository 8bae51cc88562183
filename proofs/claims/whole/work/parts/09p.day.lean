/-! PURE PART: a day passes over the families -/
theorem lN_div {a d : Nat} (ha : a < 2 ^ 31) (h0 : 0 < d) (hd : d < 2 ^ 31) : lN a / lN d = lN (a / d) := by
  have h1 : a / d ≤ a := Nat.div_le_self a d
  refine Int64.toInt_inj.mp ?_
  rw [Int64.toInt_div, lN_toInt ha, lN_toInt hd, lN_toInt (by omega), Int.tdiv_eq_ediv_of_nonneg (by omega)]
  have h2 : ((a : Int) / (d : Int)) = ((a / d : Nat) : Int) := by simp
  rw [h2]
  clear h2
  generalize a / d = q at *
  rw [Int.bmod_def]
  split <;> omega
theorem dry64 {v u : Nat} (hv : v ≤ 1000000) (hu : u ≤ 9) : (((nI v : Int32).toInt64 * ((nI u : Int32).toInt64)) / 10 / 4).toInt32 = nI v * nI u / 10 / 4 := by
  have hvu : v * u ≤ 1000000 * 9 := Nat.mul_le_mul hv hu
  have a1 : lN (v * u) / 10 = lN (v * u / 10) := lN_div (d := 10) (by omega) (by decide) (by decide)
  have a2 : lN (v * u / 10) / 4 = lN (v * u / 10 / 4) := lN_div (d := 4) (by omega) (by decide) (by decide)
  have b1 : nI (v * u) / 10 = nI (v * u / 10) := pk_div (d := 10) (by omega) (by decide) (by decide)
  have b2 : nI (v * u / 10) / 4 = nI (v * u / 10 / 4) := pk_div (d := 4) (by omega) (by decide) (by decide)
  rw [nI_l (by omega), nI_l (by omega), lN_mul, a1, a2, lN_i, pk_mul, b1, b2]
theorem dry_nI {v u : Nat} (hv : v ≤ 1000000) (hu : u ≤ 9) : nI v * nI u / 10 / 4 = nI (v * u / 10 / 4) := by
  have hvu : v * u ≤ 1000000 * 9 := Nat.mul_le_mul hv hu
  have b1 : nI (v * u) / 10 = nI (v * u / 10) := pk_div (d := 10) (by omega) (by decide) (by decide)
  have b2 : nI (v * u / 10) / 4 = nI (v * u / 10 / 4) := pk_div (d := 4) (by omega) (by decide) (by decide)
  rw [pk_mul, b1, b2]
abbrev Sf : Type := (Nat → Int32) × (Nat → Int32) × (Nat → Int32)
def spF (rain dry : Int32) : Int32 := if rain < 5 then 0 else (dry + 9) / 10
def drF (wind rain wet : Int32) : Int32 := if rain = 0 then wet * wind / 10 / 4 else 0
def stF (wind rain : Int32) (S : Sf) (i : Nat) : Sf := (upd S.1 i (S.1 i - drF wind rain (S.1 i) * 4), upd S.2.1 i (S.2.1 i - spF rain (S.2.1 i) + drF wind rain (S.1 i)), upd S.2.2 i (S.2.2 i + spF rain (S.2.1 i)))
def foF (wind rain : Int32) (S : Sf) : Nat → Sf
  | 0 => S
  | i + 1 => stF wind rain (foF wind rain S i) i
theorem foF_out {wind rain : Int32} {S : Sf} : ∀ n j, n ≤ j → (foF wind rain S n).1 j = S.1 j ∧ (foF wind rain S n).2.1 j = S.2.1 j ∧ (foF wind rain S n).2.2 j = S.2.2 j := by
  intro n
  induction n with
  | zero => intro j _; exact ⟨rfl, rfl, rfl⟩
  | succ n ih =>
    intro j hj
    obtain ⟨h1, h2, h3⟩ := ih j (by omega)
    have hne : ¬ j = n := by omega
    simp [foF, stF, upd, hne, h1, h2, h3]
def agFc (B : Nat → Nat → Nat → Nat) (w : Vt) (S : Sf) : Prop := ∀ j, j < 8 → vI w 3 (B 1906 j 0) = S.1 j ∧ vI w 4 (B 1906 j 0) = S.2.1 j ∧ vI w 6 (B 1906 j 0) = S.2.2 j
def agFm (M : Nat → Nat) (w : Vt) (S : Sf) : Prop := ∀ j, j < 8 → vA w 2016 (M 1016) j = S.1 j ∧ vA w 2017 (M 1017) j = S.2.1 j ∧ vA w 2020 (M 1020) j = S.2.2 j
abbrev fC : List Nat := [914, 915, 801, 903, 405, 406, 905, 601, 602, 500, 501, 502, 503, 504, 505, 506, 507, 508, 1, 2, 5, 7, 908, 301, 302, 910, 200, 201, 202, 203, 204, 705, 103]
abbrev fMK : List Nat := [2033, 2027, 2012, 2013, 2003, 2004, 2005, 2006, 2007, 2008, 2009, 2010, 2011, 2015, 2018, 2021, 2022, 2023, 2024, 2025, 2040, 2042, 2043, 2044, 2045, 2046, 2048, 2049, 2050]
theorem fam_day_c {B : Nat → Nat → Nat → Nat} {N : Nat → Nat → Nat} {z : Zt} {x t : Nat} {w : Vt} {S : Sf} {wind rain : Int32} {K : Vt → Prop} (hS : SC z x t B N) (hA : agFc B w S)
    (hK : ∀ w1 : Vt, agFc B w1 (foF wind rain S 8) → frW fC aK w w1 → K w1) : wp_X9_passOverFamilies z x wind rain w K := by
  have key : ∀ (d i : Nat) (w1 : Vt), i + d = 8 → agFc B w1 (foF wind rain S i) → frW fC aK w w1 → wL_X9_passOverFamilies_12 z (B 906 0 0) x K (fun _ _ _ _ w24 => K w24) (d + 1) (nI i) 8 wind rain w1 := by
    intro d
    induction d with
    | zero =>
      intro i w1 hd hA hF
      have : i = 8 := by omega
      subst this
      rw [wL_X9_passOverFamilies_12]
      exact ⟨fun _ => hK w1 hA hF, fun h => absurd (nI_le (a := 8) (b := 8) (Nat.le_refl 8) (by decide)) h⟩
    | succ d ih =>
      intro i w1 hd hA hF
      have hi : i < 8 := by omega
      obtain ⟨g1, g2, -⟩ := hS.2.1.1 i hi
      have v1 : vp_in (nI i) 8 := vp_in_nI (by omega) (by decide)
      have v2 : (nI i).toNatClampNeg = i := nI_clamp (by omega)
      generalize hSr : foF wind rain S i = Sr at hA
      have nx : ∀ w2 : Vt, agFc B w2 (stF wind rain Sr i) → frW fC aK w w2 → ∀ x22 : Int32, x22 = nI i + 1 → wL_X9_passOverFamilies_12 z (B 906 0 0) x K (fun _ _ _ _ w24 => K w24) (d + 1) x22 8 wind rain w2 := by
        intro w2 hA1 hF1 x22 e22
        rw [e22, nI_1]
        refine ih (i + 1) w2 (by omega) ?_ hF1
        show agFc B w2 (stF wind rain (foF wind rain S i) i)
        rw [hSr]
        exact hA1
      obtain ⟨a1, a2, a3⟩ := hA i hi
      rw [wL_X9_passOverFamilies_12]
      refine ⟨fun h => absurd h (nI_ge (b := 8) (by omega) (by decide)), fun _ => ⟨v1, B 1906 i 0, ?_⟩⟩
      rw [v2]
      refine ⟨g1, g2, fun w6 => vI w6 3 (B 1906 i 0) = Sr.1 i ∧ vI w6 4 (B 1906 i 0) = Sr.2.1 i - spF rain (Sr.2.1 i) ∧ vI w6 6 (B 1906 i 0) = Sr.2.2 i + spF rain (Sr.2.1 i) ∧ (∀ c a, ¬ ((c = 4 ∨ c = 6) ∧ a = B 1906 i 0) → vI w6 c a = vI w1 c a) ∧ frW fC aK w w6, ?_, ?_, ?_⟩
      · rintro w6 ⟨h1, h2, h3, h4, h5⟩
        constructor
        · intro hc
          refine nx w6 (fun j hj => ?_) h5
          obtain ⟨b1, b2, b3⟩ := hA j hj
          have hij := hS.2.1.2.1 j i hj hi
          by_cases hh : j = i
          · subst hh
            refine ⟨?_, ?_, ?_⟩ <;> simp [stF, upd, drF, hc, h1, h2, h3]
          · have h9 : ¬ B 1906 j 0 = B 1906 i 0 := fun h => hh (hij.mp h)
            refine ⟨?_, ?_, ?_⟩
            · simp [stF, upd, hh, h4 3 _ (fun q => h9 q.2), b1]
            · simp [stF, upd, hh, h4 4 _ (fun q => h9 q.2), b2]
            · simp [stF, upd, hh, h4 6 _ (fun q => h9 q.2), b3]
        · intro hc
          refine ⟨g2, fun x1 ex w2 e2 w3 e3 => ?_⟩
          have et : x1 = drF wind rain (Sr.1 i) := by rw [ex, h1]; simp [drF, hc]
          subst e2 e3
          refine nx _ (fun j hj => ?_) ((h5.uI (by decide)).uI (by decide))
          obtain ⟨b1, b2, b3⟩ := hA j hj
          have hij := hS.2.1.2.1 j i hj hi
          by_cases hh : j = i
          · subst hh
            refine ⟨?_, ?_, ?_⟩ <;> simp [vI_u, stF, upd, h1, h2, h3, et]
          · have h9 : ¬ B 1906 j 0 = B 1906 i 0 := fun h => hh (hij.mp h)
            refine ⟨?_, ?_, ?_⟩
            · simp [vI_u, stF, upd, hh, h9, h4 3 _ (fun q => h9 q.2), b1]
            · simp [vI_u, stF, upd, hh, h9, h4 4 _ (fun q => h9 q.2), b2]
            · simp [vI_u, stF, upd, hh, h9, h4 6 _ (fun q => h9 q.2), b3]
      · intro hc
        refine ⟨a1, ?_, ?_, fun _ _ _ => rfl, hF⟩
        · rw [a2]; simp [spF, hc]
        · rw [a3]; simp [spF, hc]
      · intro hc
        refine ⟨g2, fun x1 ex w2 e2 w3 e3 => ?_⟩
        have et : x1 = spF rain (Sr.2.1 i) := by rw [ex, a2]; simp [spF, hc]
        subst e2 e3
        refine ⟨?_, ?_, ?_, ?_, (hF.uI (by decide)).uI (by decide)⟩
        · simp [vI_u, a1]
        · simp [vI_u, a2, et]
        · simp [vI_u, a3, et]
        · intro c a hh
          rw [vI_u, if_neg (by omega), vI_u, if_neg (by omega)]
  unfold wp_X9_passOverFamilies
  exact ⟨sc_x hS, B 906 0 0, (sc_906 hS).1, (sc_906 hS).2, 8 + 1, key 8 0 w rfl hA (frW.rfl _ _ _)⟩
theorem fam_day_m {z : Zt} {m u : Nat} {M : Nat → Nat} {w : Vt} {S : Sf} {p0 rain st : Int32} {K : Int32 → Vt → Prop} {Kx : Int32 → Int32 → Int32 → Int32 → Int32 → Vt → Prop} (hM : SM z m M) (hA : agFm M w S) (hu : u ≤ 9) (hb : ∀ j, j < 8 → ∃ v : Nat, v ≤ 1000000 ∧ S.1 j = nI v) (hr : ¬ rain < 0)
    (hK : ∀ (x5 : Int32) (w1 : Vt), agFm M w1 (foF (nI u) rain S 8) → (∀ j, j < 8 → vA w1 2019 (M 1019) j = 0) → frW mC0 fMK w w1 → Kx x5 p0 (nI u) rain st w1) : ∃ n46 : Nat, wL_X10_day_128 z m K Kx n46 0 p0 (nI u) rain st w := by
  have key : ∀ (d i : Nat) (w1 : Vt), i + d = 8 → agFm M w1 (foF (nI u) rain S i) → (∀ j, j < i → vA w1 2019 (M 1019) j = 0) → frW mC0 fMK w w1 → wL_X10_day_128 z m K Kx (d + 1) (nI i) p0 (nI u) rain st w1 := by
    intro d
    induction d with
    | zero =>
      intro i w1 hd hA hw hF
      have : i = 8 := by omega
      subst this
      rw [wL_X10_day_128]
      exact ⟨fun _ => hK _ w1 hA hw hF, fun h => absurd (nI_le (a := 8) (b := 8) (Nat.le_refl 8) (by decide)) h⟩
    | succ d ih =>
      intro i w1 hd hA hw hF
      have hi : i < 8 := by omega
      have v1 : vp_in (nI i) 8 := vp_in_nI (by omega) (by decide)
      have v2 : (nI i).toNatClampNeg = i := nI_clamp (by omega)
      have hwet : (foF (nI u) rain S i).1 i = S.1 i := (foF_out i i (Nat.le_refl i)).1
      generalize hSr : foF (nI u) rain S i = Sr at hA hwet
      obtain ⟨vw, hvw, hvw2⟩ := hb i hi
      have nx : ∀ w2 : Vt, agFm M w2 (stF (nI u) rain Sr i) → (∀ j, j < i → vA w2 2019 (M 1019) j = 0) → frW mC0 fMK w w2 → ∃ b43 : Nat, zR z 1019 m = some b43 ∧ isO z 2019 b43 ∧ vp_in (nI i) 8 ∧ ∀ w44 : Vt, w44 = uA w2 2019 b43 i 0 → ∀ x45 : Int32, x45 = nI i + 1 → wL_X10_day_128 z m K Kx (d + 1) x45 p0 (nI u) rain st w44 := by
        intro w2 hA1 hw1 hF1
        refine ⟨M 1019, (sm_1019 hM).1, (sm_1019 hM).2, v1, fun w44 e44 x45 e45 => ?_⟩
        subst e44
        rw [e45, nI_1]
        refine ih (i + 1) _ (by omega) ?_ ?_ (hF1.uA (by decide))
        · show agFm M _ (stF (nI u) rain (foF (nI u) rain S i) i)
          rw [hSr]
          intro j hj
          obtain ⟨b1, b2, b3⟩ := hA1 j hj
          refine ⟨?_, ?_, ?_⟩
          · simp [rA_u, b1]
          · simp [rA_u, b2]
          · simp [rA_u, b3]
        · intro j hj
          by_cases hh : j = i
          · simp [rA_u, hh]
          · simp [rA_u, hh, hw1 j (by omega)]
      obtain ⟨a1, a2, a3⟩ := hA i hi
      rw [wL_X10_day_128]
      refine ⟨fun h => absurd h (nI_ge (b := 8) (by omega) (by decide)), fun _ => ?_⟩
      unfold wp_X10_familyDay
      rw [v2]
      refine ⟨sm_m hM, fun w6 => vA w6 2016 (M 1016) i = Sr.1 i ∧ vA w6 2017 (M 1017) i = Sr.2.1 i - spF rain (Sr.2.1 i) ∧ vA w6 2020 (M 1020) i = Sr.2.2 i + spF rain (Sr.2.1 i) ∧ (∀ k a j, ¬ ((k = 2017 ∨ k = 2020) ∧ j = i) → vA w6 k a j = vA w1 k a j) ∧ frW mC0 fMK w w6, ?_, ?_, ?_⟩
      · rintro w6 ⟨h1, h2, h3, h4, h5⟩
        have hw6 : ∀ j, j < i → vA w6 2019 (M 1019) j = 0 := fun j hj => (h4 2019 _ j (by omega)).trans (hw j hj)
        constructor
        · intro hc
          have hr0 : rain = 0 := Int32.le_antisymm hc (Int32.not_lt.mp hr)
          refine ⟨M 1016, (sm_1016 hM).1, (sm_1016 hM).2, v1, fun x11 e11 => ⟨v1, v1, fun w12 e12 => ⟨M 1017, (sm_1017 hM).1, (sm_1017 hM).2, v1, v1, fun w14 e14 => ?_⟩⟩⟩
          have et : x11 = drF (nI u) rain (Sr.1 i) := by
            rw [e11, h1, hwet, hvw2, dry64 hvw hu]
            simp [drF, hr0]
          subst e12 e14
          refine nx _ (fun j hj => ?_) (fun j hj => ?_) ((h5.uA (by decide)).uA (by decide))
          · obtain ⟨b1, b2, b3⟩ := hA j hj
            by_cases hh : j = i
            · subst hh
              refine ⟨?_, ?_, ?_⟩
              · simp [rA_u, stF, upd, h1, et, Int32.mul_comm]
              · simp [rA_u, stF, upd, h2, et]
              · simp [rA_u, stF, upd, h3]
            · refine ⟨?_, ?_, ?_⟩
              · simp [rA_u, stF, upd, hh, h4 2016 _ j (by omega), b1]
              · simp [rA_u, stF, upd, hh, h4 2017 _ j (by omega), b2]
              · simp [rA_u, stF, upd, hh, h4 2020 _ j (by omega), b3]
          · simp [rA_u, hw6 j hj]
        · intro hc
          have hr0 : ¬ rain = 0 := fun h => hc (by rw [h]; decide)
          refine nx _ (fun j hj => ?_) hw6 h5
          obtain ⟨b1, b2, b3⟩ := hA j hj
          by_cases hh : j = i
          · subst hh
            refine ⟨?_, ?_, ?_⟩ <;> simp [stF, upd, drF, hr0, h1, h2, h3]
          · refine ⟨?_, ?_, ?_⟩
            · simp [stF, upd, hh, h4 2016 _ j (by omega), b1]
            · simp [stF, upd, hh, h4 2017 _ j (by omega), b2]
            · simp [stF, upd, hh, h4 2020 _ j (by omega), b3]
      · intro hc
        refine ⟨a1, ?_, ?_, fun _ _ _ _ => rfl, hF⟩
        · rw [a2]; simp [spF, hc]
        · rw [a3]; simp [spF, hc]
      · intro hc
        refine ⟨M 1017, (sm_1017 hM).1, (sm_1017 hM).2, v1, fun x5 e5 => ⟨v1, v1, fun w6 e6 => ⟨M 1020, (sm_1020 hM).1, (sm_1020 hM).2, v1, v1, fun w8 e8 => ?_⟩⟩⟩
        have et : x5 = spF rain (Sr.2.1 i) := by rw [e5, a2]; simp [spF, hc]
        subst e6 e8
        refine ⟨?_, ?_, ?_, ?_, (hF.uA (by decide)).uA (by decide)⟩
        · simp [rA_u, a1]
        · simp [rA_u, a2, et]
        · simp [rA_u, a3, et]
        · intro k a j hh
          rw [rA_u, if_neg (by omega), rA_u, if_neg (by omega)]
  exact ⟨8 + 1, key 8 0 w rfl hA (fun j hj => absurd hj (by omega)) (frW.rfl _ _ _)⟩
theorem foF_wet {u k : Nat} {rain : Int32} {S : Sf} (hu : u ≤ 9) (hk : k ≤ 1000000) (hb : ∀ j, j < 8 → ∃ v : Nat, v ≤ k ∧ S.1 j = nI v) : ∀ n, n ≤ 8 → ∀ j, j < 8 → ∃ v : Nat, v ≤ k ∧ (foF (nI u) rain S n).1 j = nI v := by
  intro n
  induction n with
  | zero => intro _ j hj; exact hb j hj
  | succ n ih =>
    intro hn j hj
    obtain ⟨v, hv, e⟩ := ih (by omega) j hj
    by_cases hh : j = n
    · subst hh
      by_cases hr : rain = 0
      · have hvu : v * u ≤ v * 9 := Nat.mul_le_mul_left v hu
        refine ⟨v - v * u / 10 / 4 * 4, by omega, ?_⟩
        simp only [foF, stF, upd, if_true]
        rw [e]
        simp only [drF, hr, if_true]
        rw [dry_nI (by omega) hu, show (4 : Int32) = nI 4 from rfl, pk_mul, pk_sub (by omega)]
      · refine ⟨v, hv, ?_⟩
        simp [foF, stF, upd, drF, hr, e]
    · refine ⟨v, hv, ?_⟩
      simp [foF, stF, upd, hh, e]
