/-! PURE PART: the day agrees -/
theorem wth {a : Int32} (h : inI a 0 9 = 1) : ∃ u : Nat, u ≤ 9 ∧ a = nI u := by
  have h2 : inI a 0 (nI 10 - 1) = 1 := by rw [show nI 10 - 1 = (9 : Int32) by decide]; exact h
  rcases inI_cases a 10 (by decide) with q | ⟨i, hi, e, -⟩
  · rw [q] at h2; exact absurd h2 (by decide)
  · exact ⟨i, by omega, e⟩
theorem day_c {z : Zt} {x t d : Nat} {B : Nat → Nat → Nat → Nat} {N : Nat → Nat → Nat} {w : Vt} {a1 a2 a3 a4 : Int32} {K : Int32 → Vt → Prop} {X : Nat → Vt → Prop} (hS : SC z x t B N) (h1 : inI a1 0 9 = 1) (h2 : inI a2 0 9 = 1) (h3 : inI a3 0 9 = 1) (h4 : inI a4 0 9 = 1) (hd : d < 9999) (eT : vI w 914 x = nI d)
    (hK : wp_X9_passOverShores z x a4 (uI (uI w 914 x (nI (d + 1))) 915 x a1) (fun w16 => wp_X9_passOverFamilies z x a2 a3 w16 (fun w18 => wp_X9_passOverPits z x a3 w18 (fun w20 => ∃ n27 : Nat, wL_X9_day_105 z (B 906 0 0) x K X (fun _ _ _ _ _ _ w34 => K (vI w34 914 x) w34) n27 0 8 a1 a2 a3 a4 w20)))) : wp_X9_day z x a1 a2 a3 a4 w K X := by
  have c1 : nI d < 9999 := nI_lt (b := 9999) hd (by decide)
  unfold wp_X9_day wp_X9_isWeather
  simp only [in9, h1, h2, h3, h4, sc_x hS, true_and, isB1, eT]
  refine ⟨fun h => absurd h (by decide), fun _ => ⟨fun h => absurd h (by decide), fun _ => ⟨fun h => absurd h (by decide), fun _ => ⟨fun _ => ⟨fun _ => ?_, fun h => absurd c1 h⟩, fun h => absurd h (by decide)⟩⟩⟩⟩
  intro w14 e14 w15 e15
  subst e14 e15
  rw [nI_1]
  refine cast ?_ hK
  congr 1
  funext w16
  congr 1
  funext w18
  congr 1
  funext w20
  simp only [sc_906 hS, Option.some.injEq, exists_eq_left', true_and]
