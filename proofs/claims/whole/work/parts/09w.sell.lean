/-! PURE PART: ranks; the loops of sell -/
def eqC (f : Nat → Int32) (v : Int32) : Nat → Nat
  | 0 => 0
  | n + 1 => eqC f v n + (if f n = v then 1 else 0)
theorem cLe_eq (f : Nat → Int32) (v : Int32) : ∀ n, cLe f v n = cLt f v n + eqC f v n := by
  intro n
  induction n with
  | zero => rfl
  | succ n ih =>
    simp only [cLe, cLt, eqC]
    rw [ih]
    rcases i_three (f n) v with g | g | g
    · have h1 : f n ≤ v := by rw [Int32.le_iff_toInt_le]; rw [Int32.lt_iff_toInt_lt] at g; omega
      have h2 : ¬ f n = v := fun h => by rw [h] at g; exact Int32.lt_irrefl g
      simp [g, h1, h2]
      omega
    · have h1 : ¬ v < v := fun h => Int32.lt_irrefl h
      rw [g]
      simp
      omega
    · have h1 : ¬ f n ≤ v := Int32.not_le.mpr g
      have h2 : ¬ f n = v := fun h => by rw [h] at g; exact Int32.lt_irrefl g
      have h3 : ¬ f n < v := by rw [Int32.lt_iff_toInt_lt] at *; omega
      simp [h1, h2, h3]
def rkC (f : Nat → Int32) (k : Nat) : Nat → Nat
  | 0 => 0
  | i + 1 => rkC f k i + (if f i < f k ∨ (f i = f k ∧ i < k) then 1 else 0)
theorem rkC_eq (f : Nat → Int32) (k : Nat) : ∀ i, rkC f k i = cLt f (f k) i + eqC f (f k) (if i ≤ k then i else k) := by
  intro i
  induction i with
  | zero => simp [rkC, cLt, eqC]
  | succ i ih =>
    simp only [rkC, cLt]
    rw [ih]
    by_cases h : i < k
    · rw [if_pos (show i ≤ k by omega), if_pos (show i + 1 ≤ k by omega)]
      simp only [eqC]
      by_cases g : f i < f k
      · have h2 : ¬ f i = f k := fun h => by rw [h] at g; exact Int32.lt_irrefl g
        simp [g, h2]
        omega
      · by_cases g2 : f i = f k
        · simp [g2, h]
          omega
        · simp [g, g2]
    · rw [if_neg (show ¬ i + 1 ≤ k by omega)]
      have e : (if i ≤ k then i else k) = k := by
        by_cases h3 : i ≤ k
        · rw [if_pos h3]; omega
        · rw [if_neg h3]
      rw [e]
      by_cases g : f i < f k
      · simp [g]
        omega
      · simp [g, h]
theorem eqC_mono (f : Nat → Int32) (v : Int32) : ∀ d n, eqC f v n ≤ eqC f v (n + d) := by
  intro d
  induction d with
  | zero => intro n; exact Nat.le_refl _
  | succ d ih =>
    intro n
    have := ih n
    rw [show n + (d + 1) = (n + d) + 1 from rfl]
    simp only [eqC]
    omega
theorem rk_kth {f : Nat → Int32} {n k : Nat} (hk : k < n) : kth f n (rkC f k n) (f k) := by
  have e := rkC_eq f k n
  rw [if_neg (by omega)] at e
  refine ⟨by omega, ?_⟩
  rw [cLe_eq, e]
  have h1 : eqC f (f k) (k + 1) = eqC f (f k) k + 1 := by simp [eqC]
  have h2 := eqC_mono f (f k) (n - (k + 1)) (k + 1)
  rw [show k + 1 + (n - (k + 1)) = n by omega] at h2
  omega
theorem rk_ex {f : Nat → Int32} {n mid : Nat} {v : Int32} (h : kth f n mid v) : ∃ k, k < n ∧ rkC f k n = mid := by
  obtain ⟨h1, h2⟩ := h
  rw [cLe_eq] at h2
  have key : ∀ m, m ≤ n → mid < cLt f v n + eqC f v m → ∃ k, k < m ∧ f k = v ∧ cLt f v n + eqC f v k = mid := by
    intro m
    induction m with
    | zero => intro _ h; simp [eqC] at h; omega
    | succ m ih =>
      intro hm h
      by_cases g : mid < cLt f v n + eqC f v m
      · obtain ⟨k, a, b⟩ := ih (by omega) g
        exact ⟨k, by omega, b⟩
      · simp only [eqC] at h
        by_cases g2 : f m = v
        · rw [if_pos g2] at h
          exact ⟨m, by omega, g2, by omega⟩
        · rw [if_neg g2] at h
          omega
  obtain ⟨k, a, b, c⟩ := key n (Nat.le_refl n) h2
  refine ⟨k, a, ?_⟩
  have e := rkC_eq f k n
  rw [if_neg (by omega), b] at e
  omega
def mnF (f : Nat → Int32) : Nat → Int32
  | 0 => 100
  | k + 1 => if f k < mnF f k then f k else mnF f k
def mxF (f : Nat → Int32) : Nat → Int32
  | 0 => 0
  | k + 1 => if mxF f k < f k then f k else mxF f k
def mdF (f : Nat → Int32) (n mid : Nat) : Nat → Int32
  | 0 => 0
  | k + 1 => if rkC f k n = mid then f k else mdF f n mid k
theorem cLt_zero {f : Nat → Int32} {v : Int32} : ∀ n, (∀ i, i < n → ¬ f i < v) → cLt f v n = 0 := by
  intro n
  induction n with
  | zero => intro _; rfl
  | succ n ih => intro h; simp only [cLt]; rw [ih (fun i hi => h i (by omega)), if_neg (h n (by omega))]
theorem cLe_full {f : Nat → Int32} {v : Int32} : ∀ n, (∀ i, i < n → f i ≤ v) → cLe f v n = n := by
  intro n
  induction n with
  | zero => intro _; rfl
  | succ n ih => intro h; simp only [cLe]; rw [ih (fun i hi => h i (by omega)), if_pos (h n (by omega))]
theorem eqC_pos {f : Nat → Int32} {v : Int32} {n i : Nat} (hi : i < n) (h : f i = v) : 1 ≤ eqC f v n := by
  have h1 : eqC f v (i + 1) = eqC f v i + 1 := by simp [eqC, h]
  have h2 := eqC_mono f v (n - (i + 1)) (i + 1)
  rw [show i + 1 + (n - (i + 1)) = n by omega] at h2
  omega
theorem mn_spec {f : Nat → Int32} : ∀ n, (∀ i, i < n → inI (f i) 0 99 = 1) → (∀ i, i < n → mnF f n ≤ f i) ∧ (mnF f n = 100 ∨ ∃ i, i < n ∧ mnF f n = f i) ∧ (0 < n → ∃ i, i < n ∧ mnF f n = f i) := by
  intro n
  induction n with
  | zero => intro _; exact ⟨fun i h => absurd h (by omega), Or.inl rfl, fun h => absurd h (by omega)⟩
  | succ n ih =>
    intro h
    obtain ⟨a, b, -⟩ := ih (fun i hi => h i (by omega))
    have hr := inI_1 (h n (by omega))
    have e99 : (99 : Int32).toInt = 99 := rfl
    have e100 : (100 : Int32).toInt = 100 := rfl
    simp only [mnF]
    by_cases g : f n < mnF f n
    · rw [if_pos g]
      refine ⟨fun i hi => ?_, Or.inr ⟨n, by omega, rfl⟩, fun _ => ⟨n, by omega, rfl⟩⟩
      by_cases hin : i = n
      · rw [hin]; exact Int32.le_refl _
      · have h1 := a i (by omega)
        rw [Int32.le_iff_toInt_le] at *
        rw [Int32.lt_iff_toInt_lt] at g
        omega
    · rw [if_neg g]
      have hex : ∃ i, i < n + 1 ∧ mnF f n = f i := by
        rcases b with b | ⟨i, hi, b⟩
        · exfalso
          apply g
          rw [b, Int32.lt_iff_toInt_lt]
          omega
        · exact ⟨i, by omega, b⟩
      refine ⟨fun i hi => ?_, Or.inr hex, fun _ => hex⟩
      by_cases hin : i = n
      · rw [hin]; exact Int32.not_lt.mp g
      · exact a i (by omega)
theorem mx_spec {f : Nat → Int32} : ∀ n, (∀ i, i < n → inI (f i) 0 99 = 1) → (∀ i, i < n → f i ≤ mxF f n) ∧ (0 < n → ∃ i, i < n ∧ mxF f n = f i) ∧ (n = 0 → mxF f n = 0) := by
  intro n
  induction n with
  | zero => intro _; exact ⟨fun i h => absurd h (by omega), fun h => absurd h (by omega), fun _ => rfl⟩
  | succ n ih =>
    intro h
    obtain ⟨a, b, c⟩ := ih (fun i hi => h i (by omega))
    have hr := inI_1 (h n (by omega))
    have e0 : (0 : Int32).toInt = 0 := rfl
    simp only [mxF]
    by_cases g : mxF f n < f n
    · rw [if_pos g]
      refine ⟨fun i hi => ?_, fun _ => ⟨n, by omega, rfl⟩, fun h => absurd h (by omega)⟩
      by_cases hin : i = n
      · rw [hin]; exact Int32.le_refl _
      · have h1 := a i (by omega)
        rw [Int32.le_iff_toInt_le] at *
        rw [Int32.lt_iff_toInt_lt] at g
        omega
    · rw [if_neg g]
      refine ⟨fun i hi => ?_, fun _ => ?_, fun h => absurd h (by omega)⟩
      · by_cases hin : i = n
        · rw [hin]; exact Int32.not_lt.mp g
        · exact a i (by omega)
      · by_cases hn : 0 < n
        · obtain ⟨i, hi, e⟩ := b hn
          exact ⟨i, by omega, e⟩
        · have hn0 : n = 0 := by omega
          refine ⟨n, by omega, ?_⟩
          have h1 := Int32.not_lt.mp g
          rw [c hn0] at h1 ⊢
          rw [Int32.le_iff_toInt_le] at h1
          rw [← Int32.toInt_inj]
          omega
theorem mn_kth {f : Nat → Int32} {n : Nat} (hn : 0 < n) (h : ∀ i, i < n → inI (f i) 0 99 = 1) : kth f n 0 (mnF f n) := by
  obtain ⟨a, -, b⟩ := mn_spec n h
  obtain ⟨i, hi, e⟩ := b hn
  refine ⟨Nat.le_of_eq (cLt_zero n (fun i hi => Int32.not_lt.mpr (a i hi))), ?_⟩
  rw [cLe_eq]
  have := eqC_pos hi e.symm
  omega
theorem mx_kth {f : Nat → Int32} {n : Nat} (hn : 0 < n) (h : ∀ i, i < n → inI (f i) 0 99 = 1) : kth f n (n - 1) (mxF f n) := by
  obtain ⟨a, b, -⟩ := mx_spec n h
  obtain ⟨i, hi, e⟩ := b hn
  have h1 := cLe_full n a
  have h2 := eqC_pos hi e.symm
  have h3 := cLe_eq f (mxF f n) n
  refine ⟨by omega, by omega⟩
theorem md_spec {f : Nat → Int32} {n mid : Nat} : ∀ k, k ≤ n → (∃ i, i < k ∧ rkC f i n = mid) → ∃ i, i < k ∧ rkC f i n = mid ∧ mdF f n mid k = f i := by
  intro k
  induction k with
  | zero => intro _ ⟨i, hi, _⟩; omega
  | succ k ih =>
    intro hk ⟨i, hi, e⟩
    simp only [mdF]
    by_cases g : rkC f k n = mid
    · rw [if_pos g]
      exact ⟨k, by omega, g, rfl⟩
    · rw [if_neg g]
      have hik : i < k := by
        rcases Nat.lt_or_ge i k with q | q
        · exact q
        · exact absurd (show rkC f k n = mid by rw [← e, show i = k by omega]) g
      obtain ⟨j, a, b, c⟩ := ih (by omega) ⟨i, hik, e⟩
      exact ⟨j, by omega, b, c⟩
theorem md_kth {f : Nat → Int32} {n mid : Nat} {v : Int32} (h : kth f n mid v) : kth f n mid (mdF f n mid n) := by
  obtain ⟨i, hi, e1, e2⟩ := md_spec n (Nat.le_refl n) (rk_ex h)
  rw [e2, ← e1]
  exact rk_kth hi
def allT (f : Nat → Int32) : Nat → Bool
  | 0 => true
  | n + 1 => allT f n && decide (inI (f n) 0 99 = 1)
theorem allT_iff {f : Nat → Int32} : ∀ n, allT f n = true ↔ ∀ i, i < n → inI (f i) 0 99 = 1 := by
  intro n
  induction n with
  | zero => exact ⟨fun _ i h => absurd h (by omega), fun _ => rfl⟩
  | succ n ih =>
    simp only [allT, Bool.and_eq_true, decide_eq_true_eq, ih]
    exact ⟨fun h i hi => by
      by_cases e : i = n
      · rw [e]; exact h.2
      · exact h.1 i (by omega), fun h => ⟨fun i hi => h i (by omega), h n (by omega)⟩⟩
