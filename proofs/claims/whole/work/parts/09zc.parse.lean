/-! PURE PART: numbers; the reference reads -/
def byI (w : Vt) (M : Nat → Nat) (i : Nat) : Int32 := vA w 2033 (M 1033) i &&& 255
def vlI (by_ : Nat → Int32) (j : Nat) : Nat → Int32
  | 0 => 0
  | k + 1 => vlI by_ j k * 10 + by_ (j + k) - 48
def rnD (b : Nat → Int) (j : Nat) : Nat := rn (isDi b) 401 j - j
def tn (b : Nat → Int) (by_ : Nat → Int32) (lo hi : Int32) (i : Nat) : Int32 × Nat := if rnD b (bl b i) = 0 ∨ 3 < rnD b (bl b i) ∨ inI (vlI by_ (bl b i) (rnD b (bl b i))) lo hi = 0 then (-1, bl b i) else (vlI by_ (bl b i) (rnD b (bl b i)), bl b i + rnD b (bl b i))
section CN
variable {z : Zt} {x t n : Nat} {B : Nat → Nat → Nat → Nat} {N : Nat → Nat → Nat} {w0 w : Vt} {M : Nat → Nat}
theorem bl_le {i : Nat} (hn : n ≤ 400) (hi : i ≤ n) : bl (btI w0 M n) i ≤ n ∧ i ≤ bl (btI w0 M n) i := by
  obtain ⟨b1, b2, -, -⟩ := rn_spec (P := isBl (btI w0 M n)) (n := n) bl_lt 401 i (by omega)
  exact ⟨b2 hi, b1⟩
theorem rnD_le {j : Nat} (hn : n ≤ 400) (hj : j ≤ n) : j + rnD (btI w0 M n) j ≤ n ∧ isDi (btI w0 M n) (j + rnD (btI w0 M n) j) = false ∧ ∀ k, k < rnD (btI w0 M n) j → isDi (btI w0 M n) (j + k) = true := by
  obtain ⟨b1, b2, b3, b4⟩ := rn_spec (P := isDi (btI w0 M n)) (n := n) di_lt 401 j (by omega)
  have e : j + rnD (btI w0 M n) j = rn (isDi (btI w0 M n)) 401 j := by unfold rnD; omega
  rw [e]
  exact ⟨b2 hj, b3, fun k hk => b4 (j + k) (by omega) (by unfold rnD at hk; omega)⟩
theorem rnD_eq {j c : Nat} (hn : n ≤ 400) (hj : j ≤ n) (h1 : ∀ k, k < c → isDi (btI w0 M n) (j + k) = true) : c ≤ rnD (btI w0 M n) j ∧ (isDi (btI w0 M n) (j + c) = false → c = rnD (btI w0 M n) j) := by
  obtain ⟨a1, a2, a3⟩ := rnD_le (w0 := w0) (M := M) hn hj
  have hle : c ≤ rnD (btI w0 M n) j := by
    rcases Nat.lt_or_ge (rnD (btI w0 M n) j) c with q | q
    · have := h1 _ q
      rw [a2] at this
      cases this
    · exact q
  refine ⟨hle, fun h => ?_⟩
  rcases Nat.lt_or_ge c (rnD (btI w0 M n) j) with q | q
  · have := a3 c q
    rw [h] at this
    cases this
  · omega
theorem tn_c {K : Int32 → Vt → Prop} {i : Nat} {lo hi : Int32} (hS : SC z x t B N) (hT : tapC B w0 M n w) (hn : n ≤ 400) (hi0 : i ≤ n) (e : vI w 802 (B 900 0 0) = nI i) (hK : ∀ w1 : Vt, vI w1 802 (B 900 0 0) = nI (tn (btI w0 M n) (byI w0 M) lo hi i).2 → fr2 w w1 → K (tn (btI w0 M n) (byI w0 M) lo hi i).1 w1) : wp_X8_takenNumber z (B 900 0 0) lo hi w K := by
  unfold wp_X8_takenNumber
  refine ⟨(sc_900 hS).2, skp_c hS hT hn hi0 e (fun w1 e1 hF1 => ?_)⟩
  have hT1 := hT.fr hF1
  obtain ⟨hj, hij⟩ := bl_le (w0 := w0) (M := M) hn hi0
  generalize hjj : bl (btI w0 M n) i = j at *
  have e48 : (48 : Int32).toInt = 48 := rfl
  have e57 : (57 : Int32).toInt = 57 := rfl
  have din : ∀ (v : Int32) (p : Nat), v.toInt = btI w0 M n p → (inI v 48 57 = 1 ↔ isDi (btI w0 M n) p = true) := by
    intro v p hv
    unfold isDi
    simp only [decide_eq_true_eq]
    constructor
    · intro g
      obtain ⟨g1, g2⟩ := inI_1 g
      omega
    · intro g
      unfold inI
      rw [if_neg (by rw [Int32.lt_iff_toInt_lt]; omega), if_neg (by rw [Int32.lt_iff_toInt_lt]; omega)]
  -- the end
  have fin : ∀ (c : Nat) (v : Int32), c ≤ 4 → (∀ k, k < c → isDi (btI w0 M n) (j + k) = true) → (c = 4 ∨ isDi (btI w0 M n) (j + c) = false) → v = vlI (byI w0 M) j c → (nI c < 1 → K (-1) w1) ∧ (¬ nI c < 1 → (3 < nI c → K (-1) w1) ∧ (¬ 3 < nI c → wp_X9_isWithin z v lo hi w1 (fun r22 w21 => (¬ r22 = 0 → ∀ w24 : Vt, w24 = uI w21 802 (B 900 0 0) ((vI w21 802 (B 900 0 0)) + nI c) → K v w24) ∧ (r22 = 0 → K (-1) w21)))) := by
    intro c v hc hd hs hv
    obtain ⟨r1, r2⟩ := rnD_eq (w0 := w0) (M := M) hn hj hd
    have neg : (rnD (btI w0 M n) j = 0 ∨ 3 < rnD (btI w0 M n) j ∨ inI (vlI (byI w0 M) j (rnD (btI w0 M n) j)) lo hi = 0) → K (-1) w1 := by
      intro h
      have ht : tn (btI w0 M n) (byI w0 M) lo hi i = (-1, j) := by unfold tn; rw [hjj, if_pos h]
      have := hK w1 (by rw [ht]; exact e1) hF1
      rw [ht] at this
      exact this
    refine ⟨fun h => neg (Or.inl ?_), fun h => ⟨fun h2 => neg (Or.inr (Or.inl ?_)), fun h2 => ?_⟩⟩
    · have hc0 : c = 0 := by
        rcases Nat.eq_zero_or_pos c with q | q
        · exact q
        · exact absurd h (nI_nlt (b := 1) (by omega) (by omega))
      subst hc0
      have := r2 (hs.resolve_left (by omega))
      omega
    · have hc3 : 3 < c := by
        rcases Nat.lt_or_ge 3 c with q | q
        · exact q
        · exact absurd h2 (nI_nlt (a := 3) q (by decide))
      omega
    · have hc3 : c ≤ 3 := by
        rcases Nat.lt_or_ge 3 c with q | q
        · exact absurd (nI_lt (a := 3) q (by omega)) h2
        · exact q
      have hc1 : 1 ≤ c := by
        rcases Nat.eq_zero_or_pos c with q | q
        · exact absurd (by rw [q]; decide) h
        · exact q
      have hcr := r2 (hs.resolve_left (by omega))
      rw [in9]
      refine ⟨fun hr w24 e24 => ?_, fun hr => neg (Or.inr (Or.inr ?_))⟩
      · have hno : ¬ (rnD (btI w0 M n) j = 0 ∨ 3 < rnD (btI w0 M n) j ∨ inI (vlI (byI w0 M) j (rnD (btI w0 M n) j)) lo hi = 0) := by
          rw [← hcr, ← hv]
          intro q
          rcases q with q | q | q
          · omega
          · omega
          · exact hr q
        have ht : tn (btI w0 M n) (byI w0 M) lo hi i = (v, j + c) := by unfold tn; rw [hjj, if_neg hno, ← hcr, ← hv]
        have e25 : vI w24 802 (B 900 0 0) = nI (j + c) := by rw [e24, vI_u, if_pos ⟨rfl, rfl⟩, e1, nI_add]
        have := hK w24 (by rw [ht]; exact e25) (hF1.trans (by rw [e24]; exact (fr2.rfl w1).u))
        rw [ht] at this
        exact this
      · rw [← hcr, ← hv]
        exact hr
  have key : ∀ d c v, c + d = 4 → (∀ k, k < c → isDi (btI w0 M n) (j + k) = true) → v = vlI (byI w0 M) j c → wL_X8_takenNumber_9 z (B 900 0 0) K (fun x14 x15 x16 x17 w18 => (x15 < 1 → K (-1) w18) ∧ (¬ x15 < 1 → (3 < x15 → K (-1) w18) ∧ (¬ 3 < x15 → wp_X9_isWithin z x14 x16 x17 w18 (fun r22 w21 => (¬ r22 = 0 → ∀ w24 : Vt, w24 = uI w21 802 (B 900 0 0) ((vI w21 802 (B 900 0 0)) + x15) → K x14 w24) ∧ (r22 = 0 → K (-1) w21))))) (d + 1) v (nI c) lo hi w1 := by
    intro d
    induction d with
    | zero =>
      intro c v hc hd hv
      have : c = 4 := by omega
      subst this
      rw [wL_X8_takenNumber_9]
      exact ⟨fun _ => fin 4 v (by omega) hd (Or.inl rfl) hv, fun h => absurd (nI_le (a := 4) (b := 4) (Nat.le_refl 4) (by decide)) h⟩
    | succ d ih =>
      intro c v hc hd hv
      rw [wL_X8_takenNumber_9]
      refine ⟨fun h => absurd h (nI_ge (b := 4) (by omega) (by decide)), fun _ => ?_⟩
      rw [e1, nI_add]
      refine by_c hS hT1 hn (by omega) (fun u hu => ?_)
      rw [in9]
      have hdi := din u (j + c) hu
      rcases inI_01 u 48 57 with g | g
      · rw [g]
        refine ⟨fun _ => fin c v (by omega) hd (Or.inr ?_) hv, fun h => absurd rfl h⟩
        cases h9 : isDi (btI w0 M n) (j + c) with
        | false => rfl
        | true =>
          have := hdi.mpr h9
          rw [g] at this
          exact absurd this (by decide)
      · rw [g]
        refine ⟨fun h => absurd h (by decide), fun _ => ?_⟩
        have hdig := hdi.mp g
        have hlt := di_lt _ hdig
        rw [e1, nI_add]
        refine by_c hS hT1 hn (by omega) (fun u2 hu2 x11 e11 x12 e12 => ?_)
        have eu : u2 = byI w0 M (j + c) := by
          rw [← Int32.toInt_inj, hu2]
          unfold btI byI
          rw [if_pos hlt]
        rw [e12, nI_1]
        refine ih (c + 1) x11 (by omega) (fun k hk => ?_) ?_
        · by_cases hh : k = c
          · rw [hh]; exact hdig
          · exact hd k (by omega)
        · rw [e11, hv, eu]
          rfl
  exact ⟨4 + 1, key 4 0 0 rfl (fun k hk => absurd hk (by omega)) rfl⟩
end CN
def fr5 (w w1 : Vt) : Prop := (∀ c a, ¬ c = 1035 → ¬ c = 1037 → vI w1 c a = vI w c a) ∧ ∀ k a i, vA w1 k a i = vA w k a i
theorem fr5.rfl (w : Vt) : fr5 w w := ⟨fun _ _ _ _ => Eq.refl _, fun _ _ _ => Eq.refl _⟩
theorem fr5.trans {w w1 w2 : Vt} (h : fr5 w w1) (h2 : fr5 w1 w2) : fr5 w w2 := ⟨fun c a hc hd => (h2.1 c a hc hd).trans (h.1 c a hc hd), fun k a i => (h2.2 k a i).trans (h.2 k a i)⟩
theorem fr5.u {w w1 : Vt} {a : Nat} {v : Int32} (h : fr5 w w1) : fr5 w (uI w1 1035 a v) := ⟨fun c b hc hd => by
  have hq : ¬ (c = 1035 ∧ b = a) := fun q => hc q.1
  rw [vI_u, if_neg hq]
  exact h.1 c b hc hd, h.2⟩
theorem fr5.v {w w1 : Vt} {a : Nat} {v : Int32} (h : fr5 w w1) : fr5 w (uI w1 1037 a v) := ⟨fun c b hc hd => by
  have hq : ¬ (c = 1037 ∧ b = a) := fun q => hd q.1
  rw [vI_u, if_neg hq]
  exact h.1 c b hc hd, h.2⟩
def tapM (w0 : Vt) (M : Nat → Nat) (m n : Nat) (w : Vt) : Prop := vI w 1036 m = nI n ∧ ∀ i, vA w 2033 (M 1033) i = vA w0 2033 (M 1033) i
theorem tapM.fr {w0 : Vt} {M : Nat → Nat} {m n : Nat} {w w1 : Vt} (h : tapM w0 M m n w) (hf : fr5 w w1) : tapM w0 M m n w1 := ⟨(hf.1 1036 _ (by decide) (by decide)).trans h.1, fun i => (hf.2 2033 _ i).trans (h.2 i)⟩
section MN
variable {z : Zt} {m n : Nat} {w0 w : Vt} {M : Nat → Nat}
theorem at_m {K : Int32 → Vt → Prop} {p : Nat} {lo hi : Int32} {R : Bool} (hM : SM z m M) (hT : tapM w0 M m n w) (hn : n ≤ 400) (hp : p ≤ n) (e : vI w 1035 m = nI p) (hB : ∀ i, i < 400 → -128 ≤ (vA w0 2033 (M 1033) i).toInt ∧ (vA w0 2033 (M 1033) i).toInt ≤ 127) (hlo : 0 ≤ lo.toInt) (hhi : hi.toInt ≤ 127) (hR : R = decide (lo.toInt ≤ btI w0 M n p ∧ btI w0 M n p ≤ hi.toInt)) (hK : K (if R = true then 1 else 0) w) : wp_X10_isAt z m lo hi w K := by
  unfold wp_X10_isAt
  rw [hT.1, e]
  refine ⟨sm_m hM, fun h => ?_, fun h => ⟨M 1033, (sm_1033 hM).1, (sm_1033 hM).2, ?_, ?_⟩⟩
  · have hnp : n ≤ p := (nI_leI (by omega) (by omega)).mp h
    have : R = false := by
      rw [hR, bt_n hnp]
      simp only [decide_eq_false_iff_not]
      omega
    rw [this] at hK
    exact hK
  · have hlt : p < n := Nat.lt_of_not_le (fun q => h (nI_le q (by omega)))
    exact vp_in_nI (by omega) (by decide)
  · have hlt : p < n := Nat.lt_of_not_le (fun q => h (nI_le q (by omega)))
    have v1 : vp_in (nI p) 400 := vp_in_nI (by omega) (by decide)
    obtain ⟨d1, d2⟩ := hB p (by omega)
    have hv := byte_val d1 d2
    have hbt : btI w0 M n p = if 0 ≤ (vA w0 2033 (M 1033) p).toInt then (vA w0 2033 (M 1033) p).toInt else (vA w0 2033 (M 1033) p).toInt + 256 := by
      unfold btI
      rw [if_pos hlt, hv]
    rw [nI_clamp (by omega), hT.2 p]
    generalize (vA w0 2033 (M 1033) p) = D at *
    refine ⟨fun h1 => ?_, fun h1 => ⟨v1, fun h2 => ?_, fun h2 => ?_⟩⟩
    · have : R = false := by
        rw [hR, hbt]
        rw [Int32.lt_iff_toInt_lt] at h1
        simp only [decide_eq_false_iff_not]
        split <;> omega
      rw [this] at hK
      exact hK
    · have : R = false := by
        rw [hR, hbt]
        rw [Int32.lt_iff_toInt_lt] at h1 h2
        simp only [decide_eq_false_iff_not]
        split <;> omega
      rw [this] at hK
      exact hK
    · have : R = true := by
        rw [hR, hbt]
        rw [Int32.lt_iff_toInt_lt] at h1 h2
        simp only [decide_eq_true_eq]
        split <;> omega
      rw [this] at hK
      exact hK
theorem bk_m {K : Vt → Prop} {i : Nat} (hM : SM z m M) (hT : tapM w0 M m n w) (hn : n ≤ 400) (hi : i ≤ n) (e : vI w 1035 m = nI i) (hB : ∀ i, i < 400 → -128 ≤ (vA w0 2033 (M 1033) i).toInt ∧ (vA w0 2033 (M 1033) i).toInt ≤ 127) (hK : ∀ w1 : Vt, vI w1 1035 m = nI (bl (btI w0 M n) i) → vI w1 1037 m = nI (bl (btI w0 M n) i) → fr5 w w1 → K w1) : wp_X10_blanks z m w K := by
  have key : ∀ (f i : Nat) (w1 : Vt), n ≤ i + f → i ≤ n → tapM w0 M m n w1 → vI w1 1035 m = nI i → fr5 w w1 → (∀ w2 : Vt, vI w2 1035 m = nI (rn (isBl (btI w0 M n)) f i) → vI w2 1037 m = nI (rn (isBl (btI w0 M n)) f i) → fr5 w w2 → K w2) → wL_X10_blanks_0 z m K (fun w6 => ∀ w7 : Vt, w7 = uI w6 1037 m (vI w6 1035 m) → K w7) (f + 1) w1 := by
    intro f
    induction f with
    | zero =>
      intro i w1 hf hi hT e hF hK
      rw [wL_X10_blanks_0]
      refine at_m (R := isBl (btI w0 M n) i) hM hT hn hi e hB (by decide) (by decide) ?_ ?_
      · unfold isBl
        have e32 : (32 : Int32).toInt = 32 := rfl
        rw [e32]
        congr 1
        exact propext ⟨fun h => by omega, fun h => by omega⟩
      · have hs : isBl (btI w0 M n) i = false := by simp [isBl, bt_n (show n ≤ i by omega)]
        rw [hs]
        refine ⟨fun _ w7 e7 => ?_, fun h => absurd rfl h⟩
        refine hK w7 ?_ ?_ ?_
        · rw [e7, vI_u, if_neg (fun q => absurd q.1 (by decide))]; exact e
        · rw [e7, vI_u, if_pos ⟨rfl, rfl⟩]; exact e
        · rw [e7]; exact hF.v
    | succ f ih =>
      intro i w1 hf hi hT e hF hK
      rw [wL_X10_blanks_0]
      refine at_m (R := isBl (btI w0 M n) i) hM hT hn hi e hB (by decide) (by decide) ?_ ?_
      · unfold isBl
        have e32 : (32 : Int32).toInt = 32 := rfl
        rw [e32]
        congr 1
        exact propext ⟨fun h => by omega, fun h => by omega⟩
      · by_cases hb : isBl (btI w0 M n) i = true
        · rw [hb]
          refine ⟨fun h => absurd h (by decide), fun _ w4 e4 => ?_⟩
          have hin := bl_lt i hb
          have e6 : vI w4 1035 m = nI (i + 1) := by rw [e4, vI_u, if_pos ⟨rfl, rfl⟩, e, nI_1]
          have hF5 : fr5 w1 w4 := by rw [e4]; exact (fr5.rfl w1).u
          refine ih (i + 1) w4 (by omega) (by omega) (hT.fr hF5) e6 (hF.trans hF5) ?_
          intro w2 e2 e3 hF2
          simp only [rn, if_pos hb] at hK
          exact hK w2 e2 e3 hF2
        · have hs : isBl (btI w0 M n) i = false := by simpa using hb
          rw [hs]
          refine ⟨fun _ w7 e7 => ?_, fun h => absurd rfl h⟩
          simp only [rn, hs] at hK
          refine hK w7 ?_ ?_ ?_
          · rw [e7, vI_u, if_neg (fun q => absurd q.1 (by decide))]; exact e
          · rw [e7, vI_u, if_pos ⟨rfl, rfl⟩]; exact e
          · rw [e7]; exact hF.v
  unfold wp_X10_blanks
  exact ⟨sm_m hM, 401 + 1, key 401 i w (by omega) hi hT e (fr5.rfl w) hK⟩
end MN
