/-! PURE PART: the best use of foretold days -/
/-- the most that one lighting burns, with k days left -/
def pS (lo dr li : Nat → Bool) : Nat → Nat → Nat → Nat → Nat
  | 0, _, _, _ => 0
  | k + 1, d, w, r => max (max (if li d = true then r else 0) (pS lo dr li k (d + 1) w r)) (max (if lo d = true then pS lo dr li k (d + 1) (w + 1) r else 0) (if dr d = true ∧ 0 < w then pS lo dr li k (d + 1) (w - 1) (r + 1) else 0))
/-- the most that any lightings burn -/
def pV (lo dr li : Nat → Bool) : Nat → Nat → Nat → Nat → Nat
  | 0, _, _, _ => 0
  | k + 1, d, w, r => max (max (max (pV lo dr li k (d + 1) w r) (if lo d = true then pV lo dr li k (d + 1) (w + 1) r else 0)) (if dr d = true ∧ 0 < w then pV lo dr li k (d + 1) (w - 1) (r + 1) else 0)) (if li d = true ∧ 0 < r then r + pV lo dr li k (d + 1) w 0 else 0)
section PS
variable {lo dr li : Nat → Bool}
theorem pS_shift (r : Nat) : ∀ k d w s, pS lo dr li k d w s + r ≤ max (pS lo dr li k d w (s + r)) r := by
  intro k
  induction k with
  | zero => intro d w s; simp only [pS]; omega
  | succ k ih =>
    intro d w s
    have a1 := ih (d + 1) w s
    have a2 := ih (d + 1) (w + 1) s
    have a3 := ih (d + 1) (w - 1) (s + 1)
    rw [show s + 1 + r = s + r + 1 by omega] at a3
    simp only [pS]
    by_cases h1 : li d = true <;> by_cases h2 : lo d = true <;> by_cases h3 : dr d = true ∧ 0 < w <;> (first | simp only [if_pos h1] | simp only [if_neg h1]) <;> (first | simp only [if_pos h2] | simp only [if_neg h2]) <;> (first | simp only [if_pos h3] | simp only [if_neg h3]) <;> omega
theorem pS_mono {r r' : Nat} (h : r ≤ r') : ∀ k d w s, pS lo dr li k d w (s + r) ≤ pS lo dr li k d w (s + r') := by
  intro k
  induction k with
  | zero => intro d w s; exact Nat.le_refl _
  | succ k ih =>
    intro d w s
    have a1 := ih (d + 1) w s
    have a2 := ih (d + 1) (w + 1) s
    have a3 := ih (d + 1) (w - 1) (s + 1)
    rw [show s + 1 + r = s + r + 1 by omega, show s + 1 + r' = s + r' + 1 by omega] at a3
    simp only [pS]
    by_cases h1 : li d = true <;> by_cases h2 : lo d = true <;> by_cases h3 : dr d = true ∧ 0 < w <;> (first | simp only [if_pos h1] | simp only [if_neg h1]) <;> (first | simp only [if_pos h2] | simp only [if_neg h2]) <;> (first | simp only [if_pos h3] | simp only [if_neg h3]) <;> omega
theorem pS_mono' {r r' : Nat} (h : r ≤ r') (k d w : Nat) : pS lo dr li k d w r ≤ pS lo dr li k d w r' := by
  have := pS_mono (lo := lo) (dr := dr) (li := li) h k d w 0
  rw [Nat.zero_add, Nat.zero_add] at this
  exact this
theorem pV_pS : ∀ k d w r, pV lo dr li k d w r = pS lo dr li k d w r := by
  intro k
  induction k with
  | zero => intro d w r; rfl
  | succ k ih =>
    intro d w r
    have a1 := pS_shift (lo := lo) (dr := dr) (li := li) r k (d + 1) w 0
    rw [Nat.zero_add] at a1
    simp only [pV, pS, ih]
    by_cases h1 : li d = true
    · by_cases h0 : 0 < r
      · have h4 : li d = true ∧ 0 < r := ⟨h1, h0⟩
        simp only [if_pos h1, if_pos h4]
        by_cases h2 : lo d = true <;> by_cases h3 : dr d = true ∧ 0 < w <;> (first | simp only [if_pos h2] | simp only [if_neg h2]) <;> (first | simp only [if_pos h3] | simp only [if_neg h3]) <;> omega
      · have hr : r = 0 := by omega
        subst hr
        have h4 : ¬ (li d = true ∧ 0 < 0) := fun q => absurd q.2 (Nat.lt_irrefl 0)
        simp only [if_pos h1, if_neg h4]
        by_cases h2 : lo d = true <;> by_cases h3 : dr d = true ∧ 0 < w <;> (first | simp only [if_pos h2] | simp only [if_neg h2]) <;> (first | simp only [if_pos h3] | simp only [if_neg h3]) <;> omega
    · have h4 : ¬ (li d = true ∧ 0 < r) := fun q => h1 q.1
      simp only [if_neg h1, if_neg h4]
      by_cases h2 : lo d = true <;> by_cases h3 : dr d = true ∧ 0 < w <;> (first | simp only [if_pos h2] | simp only [if_neg h2]) <;> (first | simp only [if_pos h3] | simp only [if_neg h3]) <;> omega
theorem pV_le : ∀ k d w r, pV lo dr li k d w r ≤ w + r + k := by
  intro k
  induction k with
  | zero => intro d w r; exact Nat.zero_le _
  | succ k ih =>
    intro d w r
    have a1 := ih (d + 1) w r
    have a2 := ih (d + 1) (w + 1) r
    have a3 := ih (d + 1) (w - 1) (r + 1)
    have a4 := ih (d + 1) w 0
    simp only [pV]
    by_cases h1 : li d = true ∧ 0 < r <;> by_cases h2 : lo d = true <;> by_cases h3 : dr d = true ∧ 0 < w <;> (first | simp only [if_pos h1] | simp only [if_neg h1]) <;> (first | simp only [if_pos h2] | simp only [if_neg h2]) <;> (first | simp only [if_pos h3] | simp only [if_neg h3]) <;> omega
/-- the class's table at day d: D w the most dry loads beside w wet ones, -1 if that can't be -/
def pI (lo dr li : Nat → Bool) (T n d : Nat) (D : Nat → Int) (m : Nat) : Prop := (m ≤ T ∧ ∀ w, w ≤ 16 → 0 ≤ D w → pS lo dr li (n - d) d w (D w).toNat ≤ T) ∧ (T ≤ m ∨ ∃ w, w ≤ 16 ∧ 0 ≤ D w ∧ T ≤ pS lo dr li (n - d) d w (D w).toNat) ∧ ∀ w, w ≤ 16 → -1 ≤ D w ∧ D w ≤ d ∧ (0 ≤ D w → w ≤ d)
theorem pI_step {T n d m m' : Nat} {D D' : Nat → Int} (h : pI lo dr li T n d D m) (hd : d < n) (hn : n ≤ 16)
    (h1 : ∀ w, w ≤ 16 → D' w = D w ∨ (lo d = true ∧ 1 ≤ w ∧ D' w = D (w - 1)) ∨ (dr d = true ∧ w ≤ 15 ∧ 0 ≤ D (w + 1) ∧ D' w = D (w + 1) + 1))
    (h2 : ∀ w, w ≤ 16 → D w ≤ D' w ∧ (lo d = true → 1 ≤ w → D (w - 1) ≤ D' w) ∧ (dr d = true → w ≤ 15 → 0 ≤ D (w + 1) → D (w + 1) + 1 ≤ D' w))
    (hm1 : m ≤ m' ∧ (li d = true → ∀ w, w ≤ 16 → D w ≤ m')) (hm2 : m' = m ∨ (li d = true ∧ ∃ w, w ≤ 16 ∧ (m' : Int) = D w)) : pI lo dr li T n (d + 1) D' m' := by
  obtain ⟨⟨a1, a2⟩, b, c⟩ := h
  have ek : n - d = (n - (d + 1)) + 1 := by omega
  rw [ek] at a2 b
  unfold pI
  generalize n - (d + 1) = k at *
  refine ⟨⟨?_, fun w hw h0 => ?_⟩, ?_, fun w hw => ?_⟩
  · rcases hm2 with e | ⟨hl, w, hw, e⟩
    · omega
    · have h0 : 0 ≤ D w := by omega
      have := a2 w hw h0
      simp only [pS, hl, if_true] at this
      omega
  · rcases h1 w hw with e | ⟨hl, hw1, e⟩ | ⟨hl, hw1, h00, e⟩
    · rw [e] at h0 ⊢
      have := a2 w hw h0
      simp only [pS] at this
      omega
    · rw [e] at h0 ⊢
      have := a2 (w - 1) (by omega) h0
      simp only [pS, hl, if_true] at this
      rw [show w - 1 + 1 = w by omega] at this
      omega
    · rw [e]
      have := a2 (w + 1) (by omega) h00
      simp only [pS, hl, true_and, show 0 < w + 1 by omega, if_true, Nat.add_sub_cancel] at this
      rw [show (D (w + 1) + 1).toNat = (D (w + 1)).toNat + 1 by omega]
      omega
  · rcases b with b | ⟨w, hw, h0, b⟩
    · exact Or.inl (by omega)
    · have hwd := (c w hw).2.2 h0
      simp only [pS] at b
      obtain ⟨g1, -, -⟩ := h2 w hw
      have s1 := pS_mono' (lo := lo) (dr := dr) (li := li) (show (D w).toNat ≤ (D' w).toNat by omega) k (d + 1) w
      have t1 : T ≤ pS lo dr li k (d + 1) w (D w).toNat → T ≤ m' ∨ ∃ w, w ≤ 16 ∧ 0 ≤ D' w ∧ T ≤ pS lo dr li k (d + 1) w (D' w).toNat := fun q => Or.inr ⟨w, hw, by omega, by omega⟩
      have t2 : lo d = true → T ≤ pS lo dr li k (d + 1) (w + 1) (D w).toNat → T ≤ m' ∨ ∃ w, w ≤ 16 ∧ 0 ≤ D' w ∧ T ≤ pS lo dr li k (d + 1) w (D' w).toNat := fun hl q => by
        have g := (h2 (w + 1) (by omega)).2.1 hl (by omega)
        rw [Nat.add_sub_cancel] at g
        have s2 := pS_mono' (lo := lo) (dr := dr) (li := li) (show (D w).toNat ≤ (D' (w + 1)).toNat by omega) k (d + 1) (w + 1)
        exact Or.inr ⟨w + 1, by omega, by omega, by omega⟩
      have t3 : dr d = true → 0 < w → T ≤ pS lo dr li k (d + 1) (w - 1) ((D w).toNat + 1) → T ≤ m' ∨ ∃ w, w ≤ 16 ∧ 0 ≤ D' w ∧ T ≤ pS lo dr li k (d + 1) w (D' w).toNat := fun hl hw0 q => by
        have e : w - 1 + 1 = w := by omega
        have g := (h2 (w - 1) (by omega)).2.2 hl (by omega)
        rw [e] at g
        have g := g h0
        have s2 := pS_mono' (lo := lo) (dr := dr) (li := li) (show (D w).toNat + 1 ≤ (D' (w - 1)).toNat by omega) k (d + 1) (w - 1)
        exact Or.inr ⟨w - 1, by omega, by omega, by omega⟩
      have t4 : li d = true → T ≤ (D w).toNat → T ≤ m' := fun hl q => by
        have := hm1.2 hl w hw
        omega
      by_cases q1 : T ≤ pS lo dr li k (d + 1) w (D w).toNat
      · exact t1 q1
      · by_cases q2 : lo d = true ∧ T ≤ pS lo dr li k (d + 1) (w + 1) (D w).toNat
        · exact t2 q2.1 q2.2
        · by_cases q3 : (dr d = true ∧ 0 < w) ∧ T ≤ pS lo dr li k (d + 1) (w - 1) ((D w).toNat + 1)
          · exact t3 q3.1.1 q3.1.2 q3.2
          · refine Or.inl ?_
            have z2 : ¬ T ≤ (if lo d = true then pS lo dr li k (d + 1) (w + 1) (D w).toNat else 0) ∨ T = 0 := by
              by_cases hl : lo d = true
              · rw [if_pos hl]
                exact Or.inl (fun q => q2 ⟨hl, q⟩)
              · rw [if_neg hl]
                omega
            have z3 : ¬ T ≤ (if dr d = true ∧ 0 < w then pS lo dr li k (d + 1) (w - 1) ((D w).toNat + 1) else 0) ∨ T = 0 := by
              by_cases hl : dr d = true ∧ 0 < w
              · rw [if_pos hl]
                exact Or.inl (fun q => q3 ⟨hl, q⟩)
              · rw [if_neg hl]
                omega
            generalize (if lo d = true then pS lo dr li k (d + 1) (w + 1) (D w).toNat else 0) = X2 at *
            generalize (if dr d = true ∧ 0 < w then pS lo dr li k (d + 1) (w - 1) ((D w).toNat + 1) else 0) = X3 at *
            by_cases hl : li d = true
            · rw [if_pos hl] at b
              by_cases q4 : T ≤ (D w).toNat
              · exact t4 hl q4
              · omega
            · rw [if_neg hl] at b
              omega
  · obtain ⟨c1, c2, c3⟩ := c w hw
    rcases h1 w hw with e | ⟨hl, hw1, e⟩ | ⟨hl, hw1, h00, e⟩
    · rw [e]
      omega
    · rw [e]
      have := c (w - 1) (by omega)
      omega
    · rw [e]
      have := c (w + 1) (by omega)
      omega
theorem pI_end {T n m : Nat} {D : Nat → Int} (h : pI lo dr li T n n D m) : m = T := by
  obtain ⟨⟨a1, a2⟩, b, c⟩ := h
  rcases b with b | ⟨w, hw, h0, b⟩
  · omega
  · rw [Nat.sub_self] at b
    simp only [pS] at b
    omega
theorem pI_begin {n : Nat} {D : Nat → Int} (h0 : D 0 = 0) (h : ∀ w, 1 ≤ w → w ≤ 16 → D w = -1) : pI lo dr li (pS lo dr li n 0 0 0) n 0 D 0 := by
  refine ⟨⟨Nat.zero_le _, fun w hw hw0 => ?_⟩, Or.inr ⟨0, by omega, by omega, ?_⟩, fun w hw => ?_⟩
  · have e : w = 0 := by
      rcases Nat.eq_zero_or_pos w with q | q
      · exact q
      · have := h w q hw
        omega
    rw [e, h0]
    exact Nat.le_refl _
  · rw [h0]
    exact Nat.le_refl _
  · rcases Nat.eq_zero_or_pos w with q | q
    · rw [q, h0]
      omega
    · rw [h w q hw]
      omega
end PS
