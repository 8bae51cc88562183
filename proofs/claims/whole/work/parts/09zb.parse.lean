/-! PURE PART: reading the rights -/
def rn (P : Nat → Bool) : Nat → Nat → Nat
  | 0, i => i
  | f + 1, i => if P i = true then rn P f (i + 1) else i
theorem rn_spec {P : Nat → Bool} {n : Nat} (hP : ∀ i, P i = true → i < n) : ∀ f i, n ≤ i + f → i ≤ rn P f i ∧ (i ≤ n → rn P f i ≤ n) ∧ P (rn P f i) = false ∧ ∀ k, i ≤ k → k < rn P f i → P k = true := by
  intro f
  induction f with
  | zero =>
    intro i hi
    refine ⟨Nat.le_refl i, fun h => h, ?_, fun k h1 h2 => absurd h2 (by simp only [rn]; omega)⟩
    simp only [rn]
    cases h : P i with
    | false => rfl
    | true => exact absurd (hP i h) (by omega)
  | succ f ih =>
    intro i hi
    simp only [rn]
    by_cases h : P i = true
    · rw [if_pos h]
      obtain ⟨a, b, c, d⟩ := ih (i + 1) (by omega)
      refine ⟨by omega, fun _ => b (by have := hP i h; omega), c, fun k h1 h2 => ?_⟩
      by_cases hk : k = i
      · rw [hk]; exact h
      · exact d k (by omega) h2
    · rw [if_neg h]
      refine ⟨Nat.le_refl i, fun h => h, ?_, fun k h1 h2 => absurd h2 (by omega)⟩
      cases h2 : P i with
      | false => rfl
      | true => exact absurd h2 h
theorem rn_stop {P : Nat → Bool} {f i : Nat} (h : P i = false) : rn P f i = i := by
  cases f with
  | zero => rfl
  | succ f => simp [rn, h]
/-- the byte at a place, -1 behind the end -/
def btI (w : Vt) (M : Nat → Nat) (n i : Nat) : Int := if i < n then ((vA w 2033 (M 1033) i) &&& 255).toInt else -1
def isBl (b : Nat → Int) (i : Nat) : Bool := decide (b i = 32)
def isLe (b : Nat → Int) (i : Nat) : Bool := decide (97 ≤ b i ∧ b i ≤ 122)
def isDi (b : Nat → Int) (i : Nat) : Bool := decide (48 ≤ b i ∧ b i ≤ 57)
def bl (b : Nat → Int) (i : Nat) : Nat := rn (isBl b) 401 i
theorem byte_and : ∀ k : Fin 256, ((Int32.ofInt ((k.val : Int) - 128)) &&& 255).toInt = if 128 ≤ k.val then (k.val : Int) - 128 else (k.val : Int) + 128 := by decide +kernel
theorem byte_val {D : Int32} (h1 : -128 ≤ D.toInt) (h2 : D.toInt ≤ 127) : (D &&& 255).toInt = if 0 ≤ D.toInt then D.toInt else D.toInt + 256 := by
  have e : D = Int32.ofInt D.toInt := by simp
  have h := byte_and ⟨(D.toInt + 128).toNat, by omega⟩
  have e2 : (((D.toInt + 128).toNat : Nat) : Int) - 128 = D.toInt := by omega
  simp only [e2] at h
  rw [← e] at h
  rw [h]
  by_cases h0 : 0 ≤ D.toInt
  · rw [if_pos (by omega), if_pos h0]
  · rw [if_neg (by omega), if_neg h0]
    omega
/-- how the two tapes hang together while the rights are read -/
def tapC (B : Nat → Nat → Nat → Nat) (w0 : Vt) (M : Nat → Nat) (n : Nat) (w : Vt) : Prop := vI w 801 (B 900 0 0) = nI n ∧ ∀ i, i < 400 → vA w 1800 (B 800 0 0) i = vA w0 2033 (M 1033) i &&& 255
def fr2 (w w1 : Vt) : Prop := (∀ c a, ¬ c = 802 → vI w1 c a = vI w c a) ∧ ∀ k a i, vA w1 k a i = vA w k a i
theorem fr2.rfl (w : Vt) : fr2 w w := ⟨fun _ _ _ => Eq.refl _, fun _ _ _ => Eq.refl _⟩
theorem fr2.trans {w w1 w2 : Vt} (h : fr2 w w1) (h2 : fr2 w1 w2) : fr2 w w2 := ⟨fun c a hc => (h2.1 c a hc).trans (h.1 c a hc), fun k a i => (h2.2 k a i).trans (h.2 k a i)⟩
theorem fr2.u {w w1 : Vt} {a : Nat} {v : Int32} (h : fr2 w w1) : fr2 w (uI w1 802 a v) := ⟨fun c b hc => by
  have hq : ¬ (c = 802 ∧ b = a) := fun q => hc q.1
  rw [vI_u, if_neg hq]
  exact h.1 c b hc, h.2⟩
theorem tapC.fr {B : Nat → Nat → Nat → Nat} {w0 : Vt} {M : Nat → Nat} {n : Nat} {w w1 : Vt} (h : tapC B w0 M n w) (hf : fr2 w w1) : tapC B w0 M n w1 := ⟨(hf.1 801 _ (by decide)).trans h.1, fun i hi => (hf.2 1800 _ i).trans (h.2 i hi)⟩
section CT
variable {z : Zt} {x t n : Nat} {B : Nat → Nat → Nat → Nat} {N : Nat → Nat → Nat} {w0 w : Vt} {M : Nat → Nat}
theorem by_c {K : Int32 → Vt → Prop} {p : Nat} (hS : SC z x t B N) (hT : tapC B w0 M n w) (hn : n ≤ 400) (hp : p < 2147483648) (hK : ∀ v : Int32, v.toInt = btI w0 M n p → K v w) : wp_X8_byteAt z (B 900 0 0) (nI p) w K := by
  unfold wp_X8_byteAt
  rw [hT.1]
  refine ⟨(sc_900 hS).2, fun h => absurd h (nI_pos hp), fun _ => ⟨fun h => hK (-1) ?_, fun h => ⟨B 800 0 0, (sc_800 hS).1, (sc_800 hS).2, fun _ => ⟨?_, ?_⟩, fun h2 => ?_⟩⟩⟩
  · have : n ≤ p := (nI_leI (by omega) hp).mp h
    unfold btI
    rw [if_neg (by omega)]
    rfl
  · have : p < n := Nat.lt_of_not_le (fun q => h (nI_le q hp))
    exact vp_in_nI (by omega) (by decide)
  · have : p < n := Nat.lt_of_not_le (fun q => h (nI_le q hp))
    rw [nI_clamp hp]
    refine hK _ ?_
    rw [hT.2 p (by omega)]
    unfold btI
    rw [if_pos this]
  · have : p < n := Nat.lt_of_not_le (fun q => h (nI_le q hp))
    exact absurd (nI_lt (b := 400) (by omega) (by decide)) h2
theorem bt_n {i : Nat} (h : n ≤ i) : btI w0 M n i = -1 := by
  unfold btI
  rw [if_neg (by omega)]
theorem bl_lt : ∀ i, isBl (btI w0 M n) i = true → i < n := fun i h => by
  rcases Nat.lt_or_ge i n with q | q
  · exact q
  · simp [isBl, bt_n q] at h
theorem le_lt : ∀ i, isLe (btI w0 M n) i = true → i < n := fun i h => by
  rcases Nat.lt_or_ge i n with q | q
  · exact q
  · simp [isLe, bt_n q] at h
theorem di_lt : ∀ i, isDi (btI w0 M n) i = true → i < n := fun i h => by
  rcases Nat.lt_or_ge i n with q | q
  · exact q
  · simp [isDi, bt_n q] at h
theorem skp_c {K : Vt → Prop} {i : Nat} (hS : SC z x t B N) (hT : tapC B w0 M n w) (hn : n ≤ 400) (hi : i ≤ n) (e : vI w 802 (B 900 0 0) = nI i) (hK : ∀ w1 : Vt, vI w1 802 (B 900 0 0) = nI (bl (btI w0 M n) i) → fr2 w w1 → K w1) : wp_X8_skipBlanks z (B 900 0 0) w K := by
  have key : ∀ (f i : Nat) (w1 : Vt), n ≤ i + f → i ≤ n → tapC B w0 M n w1 → vI w1 802 (B 900 0 0) = nI i → fr2 w w1 → (∀ w2 : Vt, vI w2 802 (B 900 0 0) = nI (rn (isBl (btI w0 M n)) f i) → fr2 w w2 → K w2) → wL_X8_skipBlanks_0 z (B 900 0 0) K (fun w7 => K w7) (f + 1) w1 := by
    intro f
    induction f with
    | zero =>
      intro i w1 hf hi hT e hF hK
      rw [wL_X8_skipBlanks_0, hT.1, e]
      exact ⟨fun _ => hK w1 e hF, fun h => absurd (nI_le (by omega) (by omega)) h⟩
    | succ f ih =>
      intro i w1 hf hi hT e hF hK
      rw [wL_X8_skipBlanks_0, hT.1, e]
      refine ⟨fun h => ?_, fun h => ?_⟩
      · have hni : n ≤ i := (nI_leI (by omega) (by omega)).mp h
        refine hK w1 ?_ hF
        rw [rn_stop (by simp [isBl, bt_n hni])]
        exact e
      · refine by_c hS hT hn (by omega) (fun v hv => ⟨fun h2 => ?_, fun h2 w5 e5 => ?_⟩)
        · refine hK w1 ?_ hF
          rw [rn_stop]
          · exact e
          · unfold isBl
            rw [← hv]
            have e32 : (32 : Int32).toInt = 32 := rfl
            simp only [decide_eq_false_iff_not]
            intro h3
            apply h2
            rw [← Int32.toInt_inj, h3]
            rfl
        · have hb : isBl (btI w0 M n) i = true := by
            unfold isBl
            rw [← hv, h2]
            rfl
          have hin := bl_lt i hb
          have e6 : vI w5 802 (B 900 0 0) = nI (i + 1) := by rw [e5, vI_u, if_pos ⟨rfl, rfl⟩, e, nI_1]
          have hF5 : fr2 w1 w5 := by rw [e5]; exact (fr2.rfl w1).u
          refine ih (i + 1) w5 (by omega) (by omega) (hT.fr hF5) e6 (hF.trans hF5) ?_
          intro w2 e2 hF2
          refine hK w2 ?_ hF2
          simp only [rn, if_pos hb]
          exact e2
  unfold wp_X8_skipBlanks
  exact ⟨(sc_900 hS).2, 401 + 1, key 401 i w (by omega) hi hT e (fr2.rfl w) hK⟩
end CT
/-- the six words -/
def wdL (p : Nat) : Nat := envL.getD p 0
def wdB (p k : Nat) : Int := ((envB.getD p []).getD k 0).toInt
def mw (b : Nat → Int) (j p : Nat) : Bool := decide (∀ k, k < wdL p → b (j + k) = wdB p k) && !(isLe b (j + wdL p))
def tw (b : Nat → Int) (p i : Nat) : Bool × Nat := if mw b (bl b i) p = true then (true, bl b i + wdL p) else (false, bl b i)
theorem wd_ok : ∀ p, p < 6 → 2 ≤ wdL p ∧ wdL p ≤ 6 ∧ ∀ k, k < wdL p → 97 ≤ wdB p k ∧ wdB p k ≤ 122 ∧ (((((envB.getD p []).getD k 0) &&& 255).toUInt32 % 65536).toInt32).toInt = wdB p k := by decide +kernel
theorem wd_len : ∀ p, p < 6 → Int32.ofNat (envL.getD p 0) >>> ((0 : Int32) &&& 31) = nI (wdL p) := by decide +kernel
section CW
variable {z : Zt} {x t n : Nat} {B : Nat → Nat → Nat → Nat} {N : Nat → Nat → Nat} {w0 w : Vt} {M : Nat → Nat}
theorem tw_c {K : Int32 → Vt → Prop} {i p : Nat} (hS : SC z x t B N) (hT : tapC B w0 M n w) (hn : n ≤ 400) (hi : i ≤ n) (hp : p < 6) (e : vI w 802 (B 900 0 0) = nI i) (hK : ∀ w1 : Vt, vI w1 802 (B 900 0 0) = nI (tw (btI w0 M n) p i).2 → fr2 w w1 → K (if (tw (btI w0 M n) p i).1 = true then 1 else 0) w1) : wp_X8_takesWord z (B 900 0 0) p w K := by
  obtain ⟨q1, q2, q3⟩ := wd_ok p hp
  unfold wp_X8_takesWord
  refine ⟨(sc_900 hS).2, hp, skp_c hS hT hn hi e (fun w1 e1 hF1 r3 er3 => ?_)⟩
  rw [wd_len p hp] at er3
  subst er3
  have hT1 := hT.fr hF1
  obtain ⟨b1, b2, b3, b4⟩ := rn_spec (P := isBl (btI w0 M n)) (n := n) bl_lt 401 i (by omega)
  have hj := b2 hi
  change rn (isBl (btI w0 M n)) 401 i ≤ n at hj
  generalize hjj : bl (btI w0 M n) i = j at *
  have hj : j ≤ n := by rw [← hjj]; exact hj
  have key : ∀ d k, k + d = wdL p → (∀ k', k' < k → btI w0 M n (j + k') = wdB p k') → wL_X8_takesWord_11 z (B 900 0 0) p K (fun x11 x12 w13 => wp_X8_byteAt z (B 900 0 0) ((vI w13 802 (B 900 0 0)) + x12) w13 (fun r15 w14 => wp_X9_isWithin z r15 97 122 w14 (fun r17 w16 => (r17 = 0 → ∀ w19 : Vt, w19 = uI w16 802 (B 900 0 0) ((vI w16 802 (B 900 0 0)) + x12) → K 1 w19) ∧ (¬ r17 = 0 → K 0 w16)))) (d + 1) (nI k) (nI (wdL p)) w1 := by
    intro d
    induction d with
    | zero =>
      intro k hk hm
      have : k = wdL p := by omega
      rw [wL_X8_takesWord_11]
      refine ⟨fun _ => ?_, fun h => absurd (nI_le (by omega) (by omega)) h⟩
      rw [e1, nI_add]
      refine by_c hS hT1 hn (by omega) (fun v hv => ?_)
      rw [in9]
      have hm' : ∀ k', k' < wdL p → btI w0 M n (j + k') = wdB p k' := fun k' h => hm k' (by omega)
      have e97 : (97 : Int32).toInt = 97 := rfl
      have e122 : (122 : Int32).toInt = 122 := rfl
      by_cases hl : isLe (btI w0 M n) (j + wdL p) = true
      · have hv1 : inI v 97 122 = 1 := by
          unfold isLe at hl
          simp only [decide_eq_true_eq] at hl
          unfold inI
          rw [if_neg (by rw [Int32.lt_iff_toInt_lt]; omega), if_neg (by rw [Int32.lt_iff_toInt_lt]; omega)]
        rw [hv1]
        refine ⟨fun h => absurd h (by decide), fun _ => ?_⟩
        have hmw : mw (btI w0 M n) j p = false := by simp [mw, hl]
        have htw : tw (btI w0 M n) p i = (false, j) := by unfold tw; rw [hjj, hmw]; rfl
        have := hK w1 (by rw [htw]; exact e1) hF1
        rw [htw] at this
        exact this
      · have hv1 : inI v 97 122 = 0 := by
          rcases inI_01 v 97 122 with g | g
          · exact g
          · exfalso
            apply hl
            obtain ⟨g1, g2⟩ := inI_1 g
            unfold isLe
            simp only [decide_eq_true_eq]
            omega
        rw [hv1]
        refine ⟨fun _ w19 e19 => ?_, fun h => absurd rfl h⟩
        have hmw : mw (btI w0 M n) j p = true := by
          simp only [mw, Bool.and_eq_true, decide_eq_true_eq, Bool.not_eq_true']
          exact ⟨hm', by simpa using hl⟩
        have htw : tw (btI w0 M n) p i = (true, j + wdL p) := by unfold tw; rw [hjj, hmw]; rfl
        have e20 : vI w19 802 (B 900 0 0) = nI (j + wdL p) := by rw [e19, vI_u, if_pos ⟨rfl, rfl⟩, e1, nI_add]
        have := hK w19 (by rw [htw]; exact e20) (hF1.trans (by rw [e19]; exact (fr2.rfl w1).u))
        rw [htw] at this
        exact this
    | succ d ih =>
      intro k hk hm
      have v2 : (nI k).toNatClampNeg = k := nI_clamp (by omega)
      rw [wL_X8_takesWord_11]
      refine ⟨fun h => absurd h (nI_ge (by omega) (by omega)), fun _ => ?_⟩
      rw [e1, nI_add, v2]
      refine by_c hS hT1 hn (by omega) (fun v hv => ⟨vp_in_nI (show k < envL.getD p 0 from by show k < wdL p; omega) (by show wdL p < _; omega), fun r7 e7 => ?_⟩)
      have e7' : r7.toInt = wdB p k := by rw [e7]; exact (q3 k (by omega)).2.2
      constructor
      · intro h x9 e9
        rw [e9, nI_1]
        refine ih (k + 1) (by omega) (fun k' hk' => ?_)
        by_cases hh : k' = k
        · rw [hh, ← hv, h, e7']
        · exact hm k' (by omega)
      · intro h
        have hmw : mw (btI w0 M n) j p = false := by
          unfold mw
          rw [show decide (∀ k, k < wdL p → btI w0 M n (j + k) = wdB p k) = false from ?_]
          · rfl
          · simp only [decide_eq_false_iff_not]
            intro hall
            apply h
            rw [← Int32.toInt_inj, hv, e7']
            exact hall k (by omega)
        have htw : tw (btI w0 M n) p i = (false, j) := by unfold tw; rw [hjj, hmw]; rfl
        have := hK w1 (by rw [htw]; exact e1) hF1
        rw [htw] at this
        exact this
  exact ⟨wdL p + 1, key (wdL p) 0 (by omega) (fun k' h => absurd h (by omega))⟩
end CW
