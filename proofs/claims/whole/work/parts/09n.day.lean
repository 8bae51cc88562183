/-! PURE PART: a day passes over the shores -/
abbrev Sd : Type := (Nat → Nat → Int32) × (Nat → Nat → Int32) × (Nat → Nat → Int32) × (Nat → Int32)
def up2 (f : Nat → Nat → Int32) (i r : Nat) (v : Int32) : Nat → Nat → Int32 := fun a b => if a = i ∧ b = r then v else f a b
def moR (y room weed : Int32) : Int32 := if y = 0 then 0 else (room - weed + 3) / 4
def tkR (y st room weed depth : Int32) : Int32 := if depth ≤ st then (weed + moR y room weed) * st / 100 else 0
def stR (y st : Int32) (room depth : Nat → Nat → Int32) (S : Sd) (i r : Nat) : Sd :=
  (up2 S.1 i r (S.1 i r + moR y (room i r) (S.1 i r) - tkR y st (room i r) (S.1 i r) (depth i r)), up2 S.2.1 i r (S.2.1 i r + moR y (room i r) (S.1 i r)), up2 S.2.2.1 i r (S.2.2.1 i r + tkR y st (room i r) (S.1 i r) (depth i r)), upd S.2.2.2 i (S.2.2.2 i + tkR y st (room i r) (S.1 i r) (depth i r)))
def foR (y st : Int32) (room depth : Nat → Nat → Int32) (S : Sd) (i : Nat) : Nat → Sd
  | 0 => S
  | r + 1 => stR y st room depth (foR y st room depth S i r) i r
def foS (y st : Int32) (room depth : Nat → Nat → Int32) (nR : Nat → Nat) (S : Sd) : Nat → Sd
  | 0 => S
  | i + 1 => foR y st room depth (foS y st room depth nR S i) i (nR i)
def agC (B : Nat → Nat → Nat → Nat) (N : Nat → Nat → Nat) (w : Vt) (S : Sd) : Prop := ∀ i, i < N 905 0 → (∀ r, r < N 601 i → vI w 502 (B 1600 i r) = S.1 i r ∧ vI w 503 (B 1600 i r) = S.2.1 i r ∧ vI w 505 (B 1600 i r) = S.2.2.1 i r) ∧ vI w 602 (B 1904 i 0) = S.2.2.2 i
def agM (N : Nat → Nat → Nat) (M : Nat → Nat) (w : Vt) (S : Sd) : Prop := ∀ i, i < N 905 0 → (∀ r, r < N 601 i → vA w 2005 (M 1005) (4 * i + r) = S.1 i r ∧ vA w 2007 (M 1007) (4 * i + r) = S.2.1 i r ∧ vA w 2009 (M 1009) (4 * i + r) = S.2.2.1 i r) ∧ vA w 2013 (M 1013) i = S.2.2.2 i
abbrev sC : List Nat := [914, 915, 801, 903, 405, 406, 905, 601, 500, 501, 504, 506, 507, 508, 1, 2, 3, 4, 5, 6, 7, 908, 301, 302, 910, 200, 201, 202, 203, 204, 705, 103]
abbrev sMK : List Nat := [2033, 2027, 2012, 2003, 2004, 2006, 2008, 2010, 2011, 2015, 2016, 2017, 2018, 2019, 2020, 2021, 2022, 2023, 2024, 2025, 2040, 2042, 2043, 2044, 2045, 2046, 2048, 2049, 2050]
/-- one rock, in the class -/
theorem rk_c {B : Nat → Nat → Nat → Nat} {N : Nat → Nat → Nat} {z : Zt} {x t i r : Nat} {w : Vt} {S : Sd} {y st : Int32} {room depth : Nat → Nat → Int32} {K : Vt → Prop} (hS : SC z x t B N) (hi : i < N 905 0) (hr : r < N 601 i) (hA : agC B N w S) (e1 : vI w 501 (B 1600 i r) = room i r) (e0 : vI w 500 (B 1600 i r) = depth i r)
    (hK : ∀ w1 : Vt, agC B N w1 (stR y st room depth S i r) → frW sC aK w w1 → K w1) : ∃ J5 : Vt → Prop, (∀ (w6 : Vt), J5 w6 → wp_X5_loseToStorm z (B 1600 i r) st w6 (fun r11 w10 => ∀ w12 : Vt, w12 = uI w10 602 (B 1904 i 0) ((vI w6 602 (B 1904 i 0)) + r11) → K w12)) ∧ (y = 0 → J5 w) ∧ (¬ y = 0 → wp_X5_growAgain z (B 1600 i r) w (fun w8 => J5 w8)) := by
  have r1 := hS.2.2.2.1.2.1 i r hi hr
  obtain ⟨hA1, hA2⟩ := hA i hi
  obtain ⟨a1, a2, a3⟩ := hA1 r hr
  refine ⟨fun w6 => vI w6 502 (B 1600 i r) = S.1 i r + moR y (room i r) (S.1 i r) ∧ vI w6 503 (B 1600 i r) = S.2.1 i r + moR y (room i r) (S.1 i r) ∧ (∀ c a, ¬ ((c = 502 ∨ c = 503) ∧ a = B 1600 i r) → vI w6 c a = vI w c a) ∧ frW sC aK w w6, ?_, ?_, ?_⟩
  · rintro w6 ⟨h1, h2, h3, h4⟩
    have e5 : vI w6 505 (B 1600 i r) = S.2.2.1 i r := by rw [h3 505 _ (by omega)]; exact a3
    have e6 : vI w6 602 (B 1904 i 0) = S.2.2.2 i := by rw [h3 602 _ (by omega)]; exact hA2
    have e7 : vI w6 500 (B 1600 i r) = depth i r := by rw [h3 500 _ (by omega)]; exact e0
    unfold wp_X5_loseToStorm
    refine ⟨r1, fun tk w' => tk = tkR y st (room i r) (S.1 i r) (depth i r) ∧ w' = w6, ?_, ?_, ?_⟩
    · rintro tk w' ⟨rfl, rfl⟩ w5 e5' w9 e9 w12 e12
      subst e5' e9 e12
      refine hK _ (fun j hj => ⟨fun q hq => ?_, ?_⟩) ((((h4.uI (by decide)).uI (by decide)).uI (by decide)))
      · have hij := hS.2.2.2.1.2.2 j q i r hj hq hi hr
        obtain ⟨b1, b2, b3⟩ := (hA j hj).1 q hq
        by_cases hh : j = i ∧ q = r
        · obtain ⟨rfl, rfl⟩ := hh
          refine ⟨?_, ?_, ?_⟩ <;> simp [vI_u, stR, up2, h1, h2, e5]
        · have h9 : ¬ B 1600 j q = B 1600 i r := fun h => hh (hij.mp h)
          refine ⟨?_, ?_, ?_⟩
          · simp [vI_u, stR, up2, h9, hh, h3 502 _ (fun q => h9 q.2), b1]
          · simp [vI_u, stR, up2, h9, hh, h3 503 _ (fun q => h9 q.2), b2]
          · simp [vI_u, stR, up2, h9, hh, h3 505 _ (fun q => h9 q.2), b3]
      · have hij := hS.2.2.1.2.2.2.1 j i hj hi
        by_cases hh : j = i
        · subst hh
          simp [vI_u, stR, upd, e6]
        · have h9 : ¬ B 1904 j 0 = B 1904 i 0 := fun h => hh (hij.mp h)
          simp [vI_u, stR, upd, h9, hh, h3 602 _ (by omega), (hA j hj).2]
    · intro h
      rw [e7] at h
      refine ⟨?_, rfl⟩
      rw [h1]
      simp [tkR, h]
    · intro h
      rw [e7] at h
      refine ⟨?_, rfl⟩
      simp [tkR, h]
  · intro hy
    refine ⟨?_, ?_, fun _ _ _ => rfl, frW.rfl _ _ _⟩
    · rw [a1]; simp [moR, hy]
    · rw [a2]; simp [moR, hy]
  · intro hy
    unfold wp_X5_growAgain
    refine ⟨r1, fun x1 ex w2 ew2 w3 ew3 => ?_⟩
    have ex2 : x1 = moR y (room i r) (S.1 i r) := by rw [ex, e1, a1]; simp [moR, hy]
    subst ew2 ew3
    refine ⟨?_, ?_, ?_, ((frW.rfl _ _ _).uI (by decide)).uI (by decide)⟩
    · simp [vI_u, a1, ex2]
    · simp [vI_u, a2, ex2]
    · intro c a h
      rw [vI_u, if_neg (by omega), vI_u, if_neg (by omega)]
theorem sh_day_c {B : Nat → Nat → Nat → Nat} {N : Nat → Nat → Nat} {z : Zt} {x t i : Nat} {w0 w : Vt} {S : Sd} {y st : Int32} {room depth : Nat → Nat → Int32} {K : Vt → Prop} (hS : SC z x t B N) (hi : i < N 905 0) (hA : agC B N w S) (hF : frW sC aK w0 w) (hr1 : ∀ r, r < N 601 i → vI w0 501 (B 1600 i r) = room i r ∧ vI w0 500 (B 1600 i r) = depth i r)
    (hK : ∀ w1 : Vt, agC B N w1 (foR y st room depth S i (N 601 i)) → frW sC aK w0 w1 → K w1) : wp_X6_passDay z (B 1904 i 0) y st w K := by
  obtain ⟨s1, s2, s3, s4⟩ := hS.2.2.1.2.2.1 i hi
  have key : ∀ (d r : Nat) (w : Vt), r + d = 4 → agC B N w (foR y st room depth S i (if r ≤ N 601 i then r else N 601 i)) → frW sC aK w0 w → wL_X6_passDay_12 z (B 600 i 0) (B 1904 i 0) K (fun _ _ _ _ w19 => K w19) (d + 1) (nI r) 4 y st w := by
    intro d
    induction d with
    | zero =>
      intro r w hd hA hF
      have : r = 4 := by omega
      subst this
      rw [wL_X6_passDay_12]
      refine ⟨fun _ => hK w ?_ hF, fun h => absurd (nI_le (a := 4) (b := 4) (Nat.le_refl 4) (by decide)) h⟩
      by_cases h4 : 4 ≤ N 601 i
      · rw [if_pos h4, show 4 = N 601 i by omega] at hA
        exact hA
      · rw [if_neg h4] at hA
        exact hA
    | succ d ih =>
      intro r w hd hA hF
      have v1 : vp_in (nI r) 4 := vp_in_nI (by omega) (by decide)
      have v2 : (nI r).toNatClampNeg = r := nI_clamp (by omega)
      have h5 := hS.2.2.2.1.1 i r hi (by omega)
      rw [wL_X6_passDay_12]
      refine ⟨fun h => absurd h (nI_ge (b := 4) (by omega) (by decide)), fun _ => ⟨v1, ?_⟩⟩
      rw [v2]
      by_cases hr : r < N 601 i
      · rw [if_pos hr] at h5
        have r1 := hS.2.2.2.1.2.1 i r hi hr
        rw [h5]
        refine ⟨fun h => (by cases h), fun b hb => ?_⟩
        cases hb
        refine ⟨r1, ?_⟩
        rw [if_pos (by omega)] at hA
        obtain ⟨q1, q2⟩ := hr1 r hr
        refine rk_c (room := room) (depth := depth) hS hi hr hA ((hF.1 501 (by decide) _).trans q1) ((hF.1 500 (by decide) _).trans q2) (fun w1 hA1 hF1 x13 e13 => ?_)
        rw [e13, nI_1]
        refine ih (r + 1) w1 (by omega) ?_ (hF.trans hF1)
        rw [if_pos (by omega)]
        exact hA1
      · rw [if_neg hr] at h5
        rw [h5]
        refine ⟨fun _ x4 e4 => ?_, fun b hb => (by cases hb)⟩
        rw [e4, nI_1]
        refine ih (r + 1) w (by omega) ?_ hF
        by_cases hr2 : r ≤ N 601 i
        · have : r = N 601 i := by omega
          rw [if_pos hr2] at hA
          rw [if_neg (by omega), ← this]
          exact hA
        · rw [if_neg hr2] at hA
          rw [if_neg (by omega)]
          exact hA
  refine ⟨s1, B 600 i 0, s2, s3, 4 + 1, key 4 0 w rfl ?_ hF⟩
  rw [if_pos (Nat.zero_le _)]
  exact hA
theorem shs_day_c {B : Nat → Nat → Nat → Nat} {N : Nat → Nat → Nat} {z : Zt} {x t d0 : Nat} {w : Vt} {S : Sd} {y st : Int32} {room depth : Nat → Nat → Int32} {K : Vt → Prop} (hS : SC z x t B N) (hA : agC B N w S) (hr1 : ∀ i r, i < N 905 0 → r < N 601 i → vI w 501 (B 1600 i r) = room i r ∧ vI w 500 (B 1600 i r) = depth i r) (hd0 : d0 ≤ 10000) (eT : vI w 914 x = nI d0) (hy : y = if d0 % 100 = 0 then 1 else 0)
    (hK : ∀ w1 : Vt, agC B N w1 (foS y st room depth (N 601) S (N 905 0)) → frW sC aK w w1 → K w1) : wp_X9_passOverShores z x st w K := by
  have hn6 := hS.2.2.1.1
  have key : ∀ (d i : Nat) (w1 : Vt), i + d = 6 → agC B N w1 (foS y st room depth (N 601) S (if i ≤ N 905 0 then i else N 905 0)) → frW sC aK w w1 → wL_X9_passOverShores_28 z (B 904 0 0) x K (fun _ _ _ _ w17 => K w17) (d + 1) (nI i) 6 y st w1 := by
    intro d
    induction d with
    | zero =>
      intro i w1 hd hA hF
      have : i = 6 := by omega
      subst this
      rw [wL_X9_passOverShores_28]
      refine ⟨fun _ => hK w1 ?_ hF, fun h => absurd (nI_le (a := 6) (b := 6) (Nat.le_refl 6) (by decide)) h⟩
      by_cases h4 : 6 ≤ N 905 0
      · rw [if_pos h4, show 6 = N 905 0 by omega] at hA
        exact hA
      · rw [if_neg h4] at hA
        exact hA
    | succ d ih =>
      intro i w1 hd hA hF
      have v1 : vp_in (nI i) 6 := vp_in_nI (by omega) (by decide)
      have v2 : (nI i).toNatClampNeg = i := nI_clamp (by omega)
      have h5 := hS.2.2.1.2.1 i (by omega)
      rw [wL_X9_passOverShores_28]
      refine ⟨fun h => absurd h (nI_ge (b := 6) (by omega) (by decide)), fun _ => ⟨v1, ?_⟩⟩
      rw [v2]
      by_cases hi : i < N 905 0
      · rw [if_pos hi] at h5
        have s1 := (hS.2.2.1.2.2.1 i hi).1
        rw [h5]
        refine ⟨fun h => (by cases h), fun b hb => ?_⟩
        cases hb
        rw [if_pos (by omega)] at hA
        refine ⟨s1, sh_day_c (room := room) (depth := depth) hS hi hA hF (fun r hr => hr1 i r hi hr) (fun w2 hA2 hF2 x11 e11 => ?_)⟩
        rw [e11, nI_1]
        refine ih (i + 1) w2 (by omega) ?_ hF2
        rw [if_pos (by omega)]
        exact hA2
      · rw [if_neg hi] at h5
        rw [h5]
        refine ⟨fun _ x4 e4 => ?_, fun b hb => (by cases hb)⟩
        rw [e4, nI_1]
        refine ih (i + 1) w1 (by omega) ?_ hF
        by_cases hi2 : i ≤ N 905 0
        · have : i = N 905 0 := by omega
          rw [if_pos hi2] at hA
          rw [if_neg (by omega), ← this]
          exact hA
        · rw [if_neg hi2] at hA
          rw [if_neg (by omega)]
          exact hA
  unfold wp_X9_passOverShores
  have e2 : nI d0 - nI d0 / 100 * 100 = nI (d0 % 100) := pk_rem (d := 100) (by omega) (by decide) (by decide)
  rw [eT, e2]
  refine ⟨sc_x hS, fun x2 w3 => x2 = y ∧ w3 = w, ?_, ?_, ?_⟩
  · rintro x2 w3 ⟨rfl, rfl⟩
    refine ⟨B 904 0 0, (sc_904 hS).1, (sc_904 hS).2, 6 + 1, key 6 0 _ rfl ?_ (frW.rfl _ _ _)⟩
    rw [if_pos (Nat.zero_le _)]
    exact hA
  · intro h
    have h0 : ¬ d0 % 100 = 0 := fun q => h (by rw [q]; rfl)
    rw [if_neg h0] at hy
    exact ⟨hy.symm, rfl⟩
  · intro h
    have h0 : d0 % 100 = 0 := (nI_eq (b := 0) (by omega) (by decide)).mp h
    rw [if_pos h0] at hy
    exact ⟨hy.symm, rfl⟩
