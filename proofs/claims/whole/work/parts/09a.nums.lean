/-! PURE PART: reading after writing, small ints -/
theorem rA_u (w : Vt) (k a j : Nat) (v : Int32) (k' b i : Nat) : vA (uA w k a j v) k' b i = if k' = k ∧ b = a ∧ i = j then v else vA w k' b i := by
  rw [vA_u]
  by_cases h : k' = k ∧ b = a
  · obtain ⟨rfl, rfl⟩ := h
    simp [upd]
  · have h2 : ¬ (k' = k ∧ b = a ∧ i = j) := fun q => h ⟨q.1, q.2.1⟩
    rw [if_neg h, if_neg h2]
theorem rL_u (w : Vt) (k a j : Nat) (v : Int64) (k' b i : Nat) : vL (uL w k a j v) k' b i = if k' = k ∧ b = a ∧ i = j then v else vL w k' b i := by
  rw [vL_u]
  by_cases h : k' = k ∧ b = a
  · obtain ⟨rfl, rfl⟩ := h
    simp [vp_updL]
  · have h2 : ¬ (k' = k ∧ b = a ∧ i = j) := fun q => h ⟨q.1, q.2.1⟩
    rw [if_neg h, if_neg h2]
theorem rI_uA (w : Vt) (k a j : Nat) (v : Int32) : vI (uA w k a j v) = vI w := rfl
theorem rI_uF (w : Vt) (k a : Nat) (f : Nat → Int32) : vI (uF w k a f) = vI w := rfl
theorem rI_uL (w : Vt) (k a j : Nat) (v : Int64) : vI (uL w k a j v) = vI w := rfl
theorem rA_uI (w : Vt) (c a : Nat) (v : Int32) : vA (uI w c a v) = vA w := rfl
theorem rA_uL (w : Vt) (k a j : Nat) (v : Int64) : vA (uL w k a j v) = vA w := rfl
theorem rL_uI (w : Vt) (c a : Nat) (v : Int32) : vL (uI w c a v) = vL w := rfl
theorem rL_uA (w : Vt) (k a j : Nat) (v : Int32) : vL (uA w k a j v) = vL w := rfl
theorem rI_nV (w : Vt) (q c b : Nat) : vI (nV w q) c b = if b = q then 0 else vI w c b := rfl
theorem rA_nV (w : Vt) (q c b i : Nat) : vA (nV w q) c b i = if b = q then 0 else vA w c b i := by
  show va_up (w.2.1 c) q (fun _ => 0) b i = _
  unfold va_up
  by_cases h : b = q <;> simp [h, vA]
theorem nI_mul (a b : Nat) : nI a * nI b = nI (a * b) := (Int32.ofNat_mul a b).symm
theorem nI_lit (n : Nat) : (OfNat.ofNat n : Int32) = nI n := rfl
def inI (p lo hi : Int32) : Int32 := if p < lo then 0 else if hi < p then 0 else 1
theorem in9 (z : Zt) (p lo hi : Int32) (w : Vt) (K : Int32 → Vt → Prop) : wp_X9_isWithin z p lo hi w K ↔ K (inI p lo hi) w := by
  unfold wp_X9_isWithin inI
  by_cases h1 : p < lo <;> by_cases h2 : hi < p <;> simp [h1, h2]
theorem in10 (z : Zt) (p lo hi : Int32) (w : Vt) (K : Int32 → Vt → Prop) : wp_X10_in z p lo hi w K ↔ K (inI p lo hi) w := by
  unfold wp_X10_in inI
  by_cases h1 : p < lo <;> by_cases h2 : hi < p <;> simp [h1, h2]
theorem inI_01 (p lo hi : Int32) : inI p lo hi = 0 ∨ inI p lo hi = 1 := by
  unfold inI
  by_cases h1 : p < lo <;> by_cases h2 : hi < p <;> simp [h1, h2]
theorem inI_1 {p lo hi : Int32} (h : inI p lo hi = 1) : lo.toInt ≤ p.toInt ∧ p.toInt ≤ hi.toInt := by
  unfold inI at h
  by_cases h1 : p < lo
  · simp [h1] at h
  · by_cases h2 : hi < p
    · simp [h1, h2] at h
    · rw [Int32.lt_iff_toInt_lt] at h1 h2
      omega
theorem inI_nI {n i : Nat} (hi : i < n) (hn : n ≤ 1000000) : inI (nI i) 0 (nI n - 1) = 1 := by
  obtain ⟨k, rfl⟩ : ∃ k, n = k + 1 := ⟨n - 1, by omega⟩
  unfold inI
  rw [nI_pred, if_neg (nI_pos (by omega)), if_neg (nI_nlt (by omega) (by omega))]
theorem inI_cases (p : Int32) (n : Nat) (hn : n ≤ 1000000) : inI p 0 (nI n - 1) = 0 ∨ ∃ i, i < n ∧ p = nI i ∧ inI p 0 (nI n - 1) = 1 := by
  by_cases h1 : p < 0
  · exact Or.inl (by simp [inI, h1])
  · by_cases h2 : nI n - 1 < p
    · exact Or.inl (by simp [inI, h2])
    · obtain ⟨j, hj, rfl⟩ := nI_of h1
      have hjn : j < n := by
        rcases Nat.lt_or_ge j n with q | q
        · exact q
        · exfalso
          apply h2
          rcases Nat.eq_zero_or_pos n with rfl | hp
          · rw [nI_0, Int32.lt_iff_toInt_lt, nI_toInt hj]
            have : ((0 : Int32) - 1).toInt = -1 := by decide
            omega
          · obtain ⟨k, rfl⟩ : ∃ k, n = k + 1 := ⟨n - 1, by omega⟩
            rw [nI_pred]
            exact nI_lt (by omega) hj
      exact Or.inr ⟨j, hjn, rfl, inI_nI hjn hn⟩
theorem i8_eq : nI 8 - 1 = 7 := by decide
theorem t_add {x y : Int32} (h1 : -2147483648 ≤ x.toInt + y.toInt) (h2 : x.toInt + y.toInt < 2147483648) : (x + y).toInt = x.toInt + y.toInt := by
  rw [Int32.toInt_add, Int.bmod_def]
  split <;> omega
theorem t_sub {x y : Int32} (h1 : -2147483648 ≤ x.toInt - y.toInt) (h2 : x.toInt - y.toInt < 2147483648) : (x - y).toInt = x.toInt - y.toInt := by
  rw [Int32.toInt_sub, Int.bmod_def]
  split <;> omega
theorem t_mul {x y : Int32} (h1 : -2147483648 ≤ x.toInt * y.toInt) (h2 : x.toInt * y.toInt < 2147483648) : (x * y).toInt = x.toInt * y.toInt := by
  rw [Int32.toInt_mul, Int.bmod_def]
  generalize x.toInt * y.toInt = k at *
  split <;> omega
theorem nI_sub {a b : Nat} (h : b ≤ a) : nI a - nI b = nI (a - b) := by
  have e : nI a = nI (a - b) + nI b := by rw [nI_add]; congr 1; omega
  rw [e, Int32.add_sub_cancel]
theorem isB0 : isB 0 := Or.inl rfl
theorem isB1 : isB 1 := Or.inr rfl
theorem th0 {z : Zt} {o : Nat} (ho : isO z 10 o) (c : Int32) (w : Vt) (K : Int32 → Vt → Prop) : wp_X10_throwsIf z o 0 c w K ↔ K 0 w := by
  unfold wp_X10_throwsIf
  simp [ho, isB0]
theorem th1 {z : Zt} {o : Nat} (ho : isO z 10 o) (c : Int32) (w : Vt) (K : Int32 → Vt → Prop) : wp_X10_throwsIf z o 1 c w K ↔ K 1 (uI w 1000 o c) := by
  unfold wp_X10_throwsIf
  simp [ho, isB1]
theorem thr {z : Zt} {o : Nat} (ho : isO z 10 o) (w : Vt) (K : Int32 → Vt → Prop) : wp_X10_thrown z o w K ↔ K (vI w 1000 o) w := by
  unfold wp_X10_thrown
  simp [ho]
theorem in_lit {n i : Nat} (h : i < n) (hn : n < 2147483648) : vp_in (nI i) n := vp_in_nI h hn
