/-! PURE PART: plan, the days of the class -/
def pLo (a : Nat → Int32) (d : Nat) : Bool := decide (¬ a d = 0)
def pDr (a b : Nat → Int32) (d : Nat) : Bool := decide (¬ a d = 0 ∧ b d = 0)
def pLi (n : Nat) (b : Nat → Int32) (d : Nat) : Bool := decide (d + 2 < n ∧ b d = 0 ∧ b (d + 1) = 0 ∧ b (d + 2) = 0)
theorem pI_step2 {lo dr li : Nat → Bool} {T n d m m' : Nat} {D E F : Nat → Int} (h : pI lo dr li T n d D m) (hd : d < n) (hn : n ≤ 16)
    (hE : ∀ i, i < 17 → E i = if lo d = true ∧ 1 ≤ i then mxI (D i) (D (i - 1)) else D i)
    (hF : ∀ i, i < 17 → F i = if dr d = true ∧ i < 16 ∧ ¬ D (i + 1) = -1 then mxI (E i) (D (i + 1) + 1) else E i)
    (hm1 : m ≤ m' ∧ (li d = true → ∀ w, w ≤ 16 → D w ≤ m')) (hm2 : m' = m ∨ (li d = true ∧ ∃ w, w ≤ 16 ∧ (m' : Int) = D w)) : pI lo dr li T n (d + 1) F m' := by
  have c := h.2.2
  have e1 : ∀ w, w ≤ 16 → (E w = D w ∨ (lo d = true ∧ 1 ≤ w ∧ E w = D (w - 1))) ∧ D w ≤ E w ∧ (lo d = true → 1 ≤ w → D (w - 1) ≤ E w) := by
    intro w hw
    rw [hE w (by omega)]
    by_cases q : lo d = true ∧ 1 ≤ w
    · rw [if_pos q]
      unfold mxI
      by_cases r : D w < D (w - 1)
      · rw [if_pos r]
        exact ⟨Or.inr ⟨q.1, q.2, rfl⟩, by omega, fun _ _ => by omega⟩
      · rw [if_neg r]
        exact ⟨Or.inl rfl, by omega, fun _ _ => by omega⟩
    · rw [if_neg q]
      exact ⟨Or.inl rfl, by omega, fun a b => absurd ⟨a, b⟩ q⟩
  have e2 : ∀ w, w ≤ 16 → (F w = E w ∨ (dr d = true ∧ w ≤ 15 ∧ 0 ≤ D (w + 1) ∧ F w = D (w + 1) + 1)) ∧ E w ≤ F w ∧ (dr d = true → w ≤ 15 → 0 ≤ D (w + 1) → D (w + 1) + 1 ≤ F w) := by
    intro w hw
    rw [hF w (by omega)]
    by_cases q : dr d = true ∧ w < 16 ∧ ¬ D (w + 1) = -1
    · rw [if_pos q]
      have := (c (w + 1) (by omega)).1
      have q3 := q.2.2
      unfold mxI
      by_cases r : E w < D (w + 1) + 1
      · rw [if_pos r]
        exact ⟨Or.inr ⟨q.1, by omega, by omega, rfl⟩, by omega, fun _ _ _ => by omega⟩
      · rw [if_neg r]
        exact ⟨Or.inl rfl, by omega, fun _ _ _ => by omega⟩
    · rw [if_neg q]
      exact ⟨Or.inl rfl, by omega, fun a b b2 => absurd ⟨a, by omega, by omega⟩ q⟩
  refine pI_step h hd hn (fun w hw => ?_) (fun w hw => ?_) hm1 hm2
  · rcases (e2 w hw).1 with q | q
    · rcases (e1 w hw).1 with r | r
      · exact Or.inl (q.trans r)
      · exact Or.inr (Or.inl ⟨r.1, r.2.1, q.trans r.2.2⟩)
    · exact Or.inr (Or.inr q)
  · obtain ⟨-, a2, a3⟩ := e1 w hw
    obtain ⟨-, b2, b3⟩ := e2 w hw
    exact ⟨by omega, fun q r => by have := a3 q r; omega, b3⟩
theorem i32_nat {g : Int32} (h : 0 ≤ g.toInt) : ∃ k : Nat, k < 2147483648 ∧ g = nI k ∧ (k : Int) = g.toInt := by
  obtain ⟨j, hj, e⟩ := nI_of (x := g) (fun q => by
    rw [Int32.lt_iff_toInt_lt] at q
    have : (0 : Int32).toInt = 0 := rfl
    omega)
  exact ⟨j, hj, e, by rw [e, nI_toInt hj]⟩
section PD
variable {z : Zt} {x t n : Nat} {B : Nat → Nat → Nat → Nat} {N : Nat → Nat → Nat} {w : Vt} {a0 a1 a2 : Nat → Int32}
theorem mb_c {K : Int32 → Vt → Prop} (hS : SC z x t B N) (hn : n ≤ 16) (e : vI w 103 (B 913 0 0) = nI n) (hE : ∀ i, i < n → vA w 1100 (B 100 0 0) i = a0 i ∧ vA w 1101 (B 101 0 0) i = a1 i ∧ vA w 1102 (B 102 0 0) i = a2 i) (hK : ∀ w1 : Vt, frP w w1 → K (nI (pS (pLo a0) (pDr a1 a2) (pLi n a2) n 0 0 0)) w1) : wp_X1_mostBurnt z (B 913 0 0) w K := by
  generalize hTT : pS (pLo a0) (pDr a1 a2) (pLi n a2) n 0 0 0 = T at hK
  have key : ∀ k d m (w1 : Vt), d + k = n → pI (pLo a0) (pDr a1 a2) (pLi n a2) T n d (fun i => (vA w1 1104 (B 104 0 0) i).toInt) m → frP w w1 → wL_X1_mostBurnt_19 z (B 913 0 0) K (fun x42 x43 w44 => K x43 w44) (k + 1) (nI d) (nI m) w1 := by
    intro k
    induction k with
    | zero =>
      intro d m w1 hd hI hF
      have : d = n := by omega
      subst this
      have := pI_end hI
      subst this
      rw [wL_X1_mostBurnt_19, hF.1, e]
      exact ⟨fun _ => hK w1 hF, fun q => absurd (nI_le (Nat.le_refl _) (by omega)) q⟩
    | succ k ih =>
      intro d m w1 hd hI hF
      have e1 : vI w1 103 (B 913 0 0) = nI n := (hF.1 _ _).trans e
      have hdn : d < n := by omega
      obtain ⟨E0, E1, E2⟩ := hE d hdn
      have f0 : vA w1 1100 (B 100 0 0) d = a0 d := (hF.2 _ _ _ (by decide) (by decide)).trans E0
      have f1 : vA w1 1101 (B 101 0 0) d = a1 d := (hF.2 _ _ _ (by decide) (by decide)).trans E1
      have f2 : ∀ p, p < n → vA w1 1102 (B 102 0 0) p = a2 p := fun p hp => (hF.2 _ _ _ (by decide) (by decide)).trans (hE p hp).2.2
      have hx2 : nI d + 2 = nI (d + 2) := nI_add d 2
      have hI3 := hI.2.2
      have hm : m ≤ 1000 := by
        have h1 := hI.1.1
        have h2 := pV_le (lo := pLo a0) (dr := pDr a1 a2) (li := pLi n a2) n 0 0 0
        rw [pV_pS, hTT] at h2
        omega
      rw [wL_X1_mostBurnt_19, e1]
      refine ⟨fun q => absurd q (nI_ge hdn (by omega)), fun _ => ⟨fun q => absurd q (nI_ge (b := 16) (by omega) (by decide)), fun _ => fair_c hS hn (by omega) e1 ?_⟩⟩
      have cfair : ∀ p, (p < n ∧ vA w1 1102 (B 102 0 0) p = 0) ↔ (p < n ∧ a2 p = 0) := fun p => ⟨fun q => ⟨q.1, by rw [← f2 p q.1]; exact q.2⟩, fun q => ⟨q.1, by rw [f2 p q.1]; exact q.2⟩⟩
      have nolit : ∀ p, (p = d ∨ p = d + 1 ∨ p = d + 2) → (if p < n ∧ vA w1 1102 (B 102 0 0) p = 0 then (1 : Int32) else 0) = 0 → ¬ pLi n a2 d = true := by
        intro p hp h hl
        unfold pLi at hl
        simp only [decide_eq_true_eq] at hl
        have : p < n ∧ vA w1 1102 (B 102 0 0) p = 0 := (cfair p).mpr (by
          rcases hp with g | g | g
          · rw [g]; exact ⟨by omega, hl.2.1⟩
          · rw [g]; exact ⟨by omega, hl.2.2.1⟩
          · rw [g]; exact ⟨by omega, hl.2.2.2⟩)
        rw [if_pos this] at h
        exact absurd h (by decide)
      have isf : ∀ p, ¬ (if p < n ∧ vA w1 1102 (B 102 0 0) p = 0 then (1 : Int32) else 0) = 0 → p < n ∧ a2 p = 0 := fun p h => Classical.byContradiction (fun q => h (if_neg (fun r => q ((cfair p).mp r))))
      refine ⟨fun v w' => w' = w1 ∧ ∃ m' : Nat, v = nI m' ∧ (m ≤ m' ∧ (pLi n a2 d = true → ∀ i, i ≤ 16 → (vA w1 1104 (B 104 0 0) i).toInt ≤ m')) ∧ (m' = m ∨ (pLi n a2 d = true ∧ ∃ i, i ≤ 16 ∧ (m' : Int) = (vA w1 1104 (B 104 0 0) i).toInt)), ?_, ?_, ?_⟩
      · intro x10 w11 hJ
        obtain ⟨rfl, m', rfl, hm1, hm2⟩ := hJ
        refine ⟨B 104 0 0, (sc_104 hS).1, (sc_104 hS).2, B 105 0 0, (sc_105 hS).1, (sc_105 hS).2, fun w24 e24 => ?_⟩
        have g4 : ∀ i, vA w24 1104 (B 104 0 0) i = vA w11 1104 (B 104 0 0) i := fun i => by
          have hq : ¬ (1104 = 1105 ∧ B 104 0 0 = B 105 0 0) := fun r => absurd r.1 (by decide)
          rw [e24, vA_uF, if_neg hq]
        have g5 : ∀ i, i < 17 → vA w24 1105 (B 105 0 0) i = vA w11 1104 (B 104 0 0) i := fun i hi => by
          rw [e24, vA_uF, if_pos ⟨rfl, rfl⟩]
          unfold va_cpy
          have c0 : (0 : Int32).toNatClampNeg = 0 := by decide
          have c17 : (17 : Int32).toNatClampNeg = 17 := by decide
          rw [c0, c17, if_pos ⟨by omega, by omega⟩]
          congr 1
          omega
        have F24 : frP w11 w24 := ⟨fun c a => by rw [e24]; rfl, fun k a i q r => by
          have hq : ¬ (k = 1105 ∧ a = B 105 0 0) := fun s => r s.1
          rw [e24, vA_uF, if_neg hq]⟩
        have h24 : vA w24 1100 (B 100 0 0) d = a0 d := (F24.2 _ _ _ (by decide) (by decide)).trans f0
        have fin : ∀ w9 : Vt, frP w24 w9 → (∀ i, i < 17 → (vA w9 1104 (B 104 0 0) i).toInt = if pDr a1 a2 d = true ∧ i < 16 ∧ ¬ (vA w11 1104 (B 104 0 0) (i + 1)).toInt = -1 then mxI (if pLo a0 d = true ∧ 1 ≤ i then mxI (vA w11 1104 (B 104 0 0) i).toInt (vA w11 1104 (B 104 0 0) (i - 1)).toInt else (vA w11 1104 (B 104 0 0) i).toInt) ((vA w11 1104 (B 104 0 0) (i + 1)).toInt + 1) else if pLo a0 d = true ∧ 1 ≤ i then mxI (vA w11 1104 (B 104 0 0) i).toInt (vA w11 1104 (B 104 0 0) (i - 1)).toInt else (vA w11 1104 (B 104 0 0) i).toInt) → ∀ x33 : Int32, x33 = nI d + 1 → wL_X1_mostBurnt_19 z (B 913 0 0) K (fun x42 x43 w44 => K x43 w44) (k + 1) x33 (nI m') w9 := by
          intro w9 F9 h9 x33 e33
          rw [e33, nI_1]
          exact ih (d + 1) m' w9 (by omega) (pI_step2 (E := fun i => if pLo a0 d = true ∧ 1 ≤ i then mxI (vA w11 1104 (B 104 0 0) i).toInt (vA w11 1104 (B 104 0 0) (i - 1)).toInt else (vA w11 1104 (B 104 0 0) i).toInt) hI hdn hn (fun i _ => rfl) h9 hm1 hm2) ((hF.trans F24).trans F9)
        refine ⟨B 100 0 0, (sc_100 hS).1, (sc_100 hS).2, vp_in_nI (by omega) (by decide), ?_⟩
        rw [nI_clamp (by omega), h24]
        refine ⟨fun w' => frP w24 w' ∧ (∀ i, i < 17 → vA w' 1105 (B 105 0 0) i = vA w11 1104 (B 104 0 0) i) ∧ ∀ i, i < 17 → (vA w' 1104 (B 104 0 0) i).toInt = if pLo a0 d = true ∧ 1 ≤ i then mxI (vA w11 1104 (B 104 0 0) i).toInt (vA w11 1104 (B 104 0 0) (i - 1)).toInt else (vA w11 1104 (B 104 0 0) i).toInt, ?_, ?_, ?_⟩
        · intro w27 hJ
          obtain ⟨F27, h27, d27⟩ := hJ
          have h271 : vA w27 1101 (B 101 0 0) d = a1 d := ((F27.2 _ _ _ (by decide) (by decide)).trans (F24.2 _ _ _ (by decide) (by decide))).trans f1
          have h272 : vA w27 1102 (B 102 0 0) d = a2 d := ((F27.2 _ _ _ (by decide) (by decide)).trans (F24.2 _ _ _ (by decide) (by decide))).trans (f2 d hdn)
          have e27 : vI w27 103 (B 913 0 0) = nI n := ((F27.1 _ _).trans (F24.1 _ _)).trans e1
          have no : pDr a1 a2 d = false → ∀ x33 : Int32, x33 = nI d + 1 → wL_X1_mostBurnt_19 z (B 913 0 0) K (fun x42 x43 w44 => K x43 w44) (k + 1) x33 (nI m') w27 := fun hdr => fin w27 F27 (fun i hi => by
            rw [hdr, if_neg (fun q => absurd q.1 (by decide))]
            exact d27 i hi)
          refine ⟨B 101 0 0, (sc_101 hS).1, (sc_101 hS).2, vp_in_nI (by omega) (by decide), ?_⟩
          rw [h271]
          refine ⟨fun h => no ?_, fun h => fair_c hS hn (by omega) e27 ?_⟩
          · unfold pDr
            exact decide_eq_false (fun q => q.1 h)
          · rw [h272]
            by_cases hr : a2 d = 0
            · rw [if_pos ⟨hdn, hr⟩]
              have hdr : pDr a1 a2 d = true := decide_eq_true ⟨h, hr⟩
              refine ⟨fun q => absurd q (by decide), fun _ => wdry_c hS (fun i hi => ?_) (fun w38 d38 h38 F38 => fin w38 (F27.trans F38) (fun i hi => ?_))⟩
              · rw [h27 i hi]
                have h9 : (vA w11 1104 (B 104 0 0) i).toInt ≤ d := (hI3 i (by omega)).2.1
                omega
              · rw [d38 i hi, d27 i hi, hdr]
                by_cases q : i < 16
                · rw [h27 (i + 1) (by omega)]
                  simp only [q, true_and]
                · have n1 : ¬ (i < 16 ∧ ¬ (vA w27 1105 (B 105 0 0) (i + 1)).toInt = -1) := fun r => q r.1
                  have n2 : ¬ (true = true ∧ i < 16 ∧ ¬ (vA w11 1104 (B 104 0 0) (i + 1)).toInt = -1) := fun r => q r.2.1
                  rw [if_neg n1, if_neg n2]
            · rw [if_neg (fun q => hr q.2)]
              refine ⟨fun _ => no ?_, fun q => absurd rfl q⟩
              unfold pDr
              exact decide_eq_false (fun q => hr q.2)
        · intro h
          have hlo : pLo a0 d = false := decide_eq_false (fun q => q h)
          refine ⟨frP.rfl w24, g5, fun i hi => ?_⟩
          rw [hlo, if_neg (fun q => absurd q.1 (by decide)), g4]
        · intro h
          have hlo : pLo a0 d = true := decide_eq_true h
          refine wcut_c hS (fun w29 d29 h29 F29 => ⟨F29, fun i hi => (h29 i).trans (g5 i hi), fun i hi => ?_⟩)
          rw [d29 i hi, hlo, g4]
          by_cases q : 1 ≤ i
          · rw [if_pos q, if_pos ⟨rfl, q⟩, g5 (i - 1) (by omega)]
          · rw [if_neg q, if_neg (fun r => q r.2)]
      · intro h
        exact ⟨rfl, m, rfl, ⟨Nat.le_refl _, fun q => absurd q (nolit d (Or.inl rfl) h)⟩, Or.inl rfl⟩
      · intro h
        rw [nI_1]
        refine fair_c hS hn (by omega) e1 ⟨fun h2 => ?_, fun h2 => ?_⟩
        · exact ⟨rfl, m, rfl, ⟨Nat.le_refl _, fun q => absurd q (nolit (d + 1) (Or.inr (Or.inl rfl)) h2)⟩, Or.inl rfl⟩
        · rw [hx2]
          refine fair_c hS hn (by omega) e1 ⟨fun h3 => ?_, fun h3 => ?_⟩
          · exact ⟨rfl, m, rfl, ⟨Nat.le_refl _, fun q => absurd q (nolit (d + 2) (Or.inr (Or.inr rfl)) h3)⟩, Or.inl rfl⟩
          · have hlit : pLi n a2 d = true := decide_eq_true ⟨(isf _ h3).1, (isf _ h).2, (isf _ h2).2, (isf _ h3).2⟩
            refine great_c hS (fun g hg0 hg1 hg2 x21 e21 => ⟨rfl, ?_⟩)
            obtain ⟨kg, hkg, rfl, hkg2⟩ := i32_nat hg0
            by_cases q : nI m < nI kg
            · rw [if_pos q] at e21
              have q' : m < kg := (nI_ltI (by omega) hkg).mp q
              refine ⟨kg, e21, ⟨by omega, fun _ i hi => by rw [hkg2]; exact hg1 i (by omega)⟩, Or.inr ⟨hlit, ?_⟩⟩
              rcases hg2 with r | ⟨i, hi, r⟩
              · have : kg = 0 := (nI_eq hkg (by decide)).mp (r.trans nI_0.symm)
                omega
              · exact ⟨i, by omega, by rw [hkg2, r]⟩
            · rw [if_neg q] at e21
              have q' : kg ≤ m := by
                rcases Nat.lt_or_ge m kg with s | s
                · exact absurd (nI_lt s hkg) q
                · exact s
              refine ⟨m, e21, ⟨Nat.le_refl _, fun _ i hi => ?_⟩, Or.inl rfl⟩
              have := hg1 i (by omega)
              omega
  unfold wp_X1_mostBurnt
  refine ⟨(sc_913 hS).2, B 104 0 0, (sc_104 hS).1, (sc_104 hS).2, fill_c hS (fun w2 h2 F2 => ⟨(vp_in_nI (show 0 < 17 by decide) (by decide) : vp_in (nI 0) 17), fun w4 e4 => ⟨n + 1, ?_⟩⟩)⟩
  have e4' : w4 = uA w2 1104 (B 104 0 0) 0 0 := e4
  refine key n 0 0 w4 (by omega) ?_ (by rw [e4']; exact F2.u (Or.inl rfl))
  rw [← hTT]
  refine pI_begin ?_ (fun i h1 h16 => ?_)
  · show (vA w4 1104 (B 104 0 0) 0).toInt = 0
    rw [e4', rA_u, if_pos ⟨rfl, rfl, rfl⟩]
    rfl
  · show (vA w4 1104 (B 104 0 0) i).toInt = -1
    have hq : ¬ (1104 = 1104 ∧ B 104 0 0 = B 104 0 0 ∧ i = 0) := fun r => by omega
    rw [e4', rA_u, if_neg hq, h2 i (by omega)]
    decide
end PD
