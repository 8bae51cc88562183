/-! PURE PART: sell -/
abbrev t5 (B : Nat → Nat → Nat → Nat) (w : Vt) (F : Nat → Int32) : Vt := uA (uA (uA (uA (uA w 1911 (B 911 0 0) 0 (F 0)) 1911 (B 911 0 0) 1 (F 1)) 1911 (B 911 0 0) 2 (F 2)) 1911 (B 911 0 0) 3 (F 3)) 1911 (B 911 0 0) 4 (F 4)
abbrev m5 (M : Nat → Nat) (w : Vt) (F : Nat → Int32) : Vt := uA (uA (uA (uA (uA w 2039 (M 1039) 0 (F 0)) 2039 (M 1039) 1 (F 1)) 2039 (M 1039) 2 (F 2)) 2039 (M 1039) 3 (F 3)) 2039 (M 1039) 4 (F 4)
theorem t5_row {B : Nat → Nat → Nat → Nat} {w : Vt} {F : Nat → Int32} : ∀ j, j < 5 → vA (t5 B w F) 1911 (B 911 0 0) j = F j := fun j hj => match j, hj with
  | 0, _ => by simp [rA_u]
  | 1, _ => by simp [rA_u]
  | 2, _ => by simp [rA_u]
  | 3, _ => by simp [rA_u]
  | 4, _ => by simp [rA_u]
theorem m5_row {M : Nat → Nat} {w : Vt} {F : Nat → Int32} : ∀ j, j < 5 → vA (m5 M w F) 2039 (M 1039) j = F j := fun j hj => match j, hj with
  | 0, _ => by simp [rA_u]
  | 1, _ => by simp [rA_u]
  | 2, _ => by simp [rA_u]
  | 3, _ => by simp [rA_u]
  | 4, _ => by simp [rA_u]
theorem allT_congr {f g : Nat → Int32} : ∀ n, (∀ i, i < n → f i = g i) → allT f n = allT g n := by
  intro n
  induction n with
  | zero => intro _; rfl
  | succ n ih => intro h; simp only [allT]; rw [ih (fun i hi => h i (by omega)), h n (by omega)]
abbrev addC (B : Nat → Nat → Nat → Nat) (w : Vt) (n : Nat) (f mo d : Int32) : Vt := uI (uA (uA (uA (uA (uA w 1700 (B 700 0 0) n f) 1701 (B 701 0 0) n mo) 1702 (B 702 0 0) n d) 1703 (B 703 0 0) n d) 1704 (B 704 0 0) n (-1)) 705 (B 912 0 0) (nI (n + 1))
abbrev ltB (B : Nat → Nat → Nat → Nat) (n q : Nat) : Nat → Nat → Nat → Nat := fun a i r => if a = 1909 ∧ i = n then q else B a i r
abbrev ltN (N : Nat → Nat → Nat) (n : Nat) : Nat → Nat → Nat := fun a i => if a = 910 then n + 1 else N a i
def dbV (lo hi : Int32) : Int32 := if hi - lo ≤ 20 then 0 else 1
def stV (lo hi md : Int32) : Int32 := if hi - lo ≤ 20 then md else lo
theorem add_c {z : Zt} {x t n : Nat} {B : Nat → Nat → Nat → Nat} {N : Nat → Nat → Nat} {w : Vt} {f mo d : Int32} {K : Int32 → Vt → Prop} (hS : SC z x t B N) (hn : n < 200) (e : vI w 705 (B 912 0 0) = nI n) (hK : K (nI n) (addC B w n f mo d)) : wp_X7_addEntry z (B 912 0 0) f mo d d w K := by
  have w1 : nI n < 200 := nI_lt (b := 200) (by omega) (by decide)
  have w1b : ¬ 200 ≤ nI n := Int32.not_le.mpr w1
  have v3 : vp_in (nI n) 200 := vp_in_nI (by omega) (by decide)
  have v4 : (nI n).toNatClampNeg = n := nI_clamp (by omega)
  unfold wp_X7_addEntry wp_X7_isFull
  simpa [-Prod.forall, -Prod.exists, sc_912 hS, sc_700 hS, sc_701 hS, sc_702 hS, sc_703 hS, sc_704 hS, e, w1, w1b, v3, v4, vI_u, rI_uA, nI_1, nI_pred, n10, ← nI_succ] using hK
theorem lot_shape {z : Zt} {x t q : Nat} {B : Nat → Nat → Nat → Nat} {N : Nat → Nat → Nat} (hS : SC z x t B N) (hq : q ∉ z.2.1) (hn : N 910 0 < 60) : SC (uO (nZ z q 2) 1909 (B 909 0 0) (N 910 0) (some q)) x t (ltB B (N 910 0) q) (ltN N (N 910 0)) := by
  have x1 : ext z (nZ z q 2) := (ext.rfl z).nZ hq (fun _ h => h)
  have hqq : isO (nZ z q 2) 2 q := isO_nZq
  have S3 := hS.ext x1
  have hqB : ∀ j, j < N 910 0 → ¬ B 1909 j 0 = q := fun j hj => lt_of_mem (hS.2.2.2.2.2.2.2.1 j hj) hq
  refine ⟨S3.1, ?_, ?_, ?_, ?_, ?_⟩
  · refine ⟨fun i hi => ?_, S3.2.1.2.1, S3.2.1.2.2⟩
    obtain ⟨a1, a2, a3, a4⟩ := S3.2.1.1 i hi
    refine ⟨?_, a2, a3, a4⟩
    rw [rO_u, if_neg (fun h => absurd h.1 (by decide))]
    exact a1
  · refine ⟨S3.2.2.1.1, fun i hi => ?_, S3.2.2.1.2.2.1, S3.2.2.1.2.2.2.1, S3.2.2.1.2.2.2.2⟩
    rw [rO_u, if_neg (fun h => absurd h.1 (by decide))]
    exact S3.2.2.1.2.1 i hi
  · refine ⟨fun i r hi hr => ?_, S3.2.2.2.1.2.1, S3.2.2.2.1.2.2⟩
    rw [rO_u, if_neg (fun h => absurd h.1 (by decide))]
    exact S3.2.2.2.1.1 i r hi hr
  · refine ⟨S3.2.2.2.2.1.1, fun i hi => ?_, S3.2.2.2.2.1.2.2.1, S3.2.2.2.2.1.2.2.2⟩
    rw [rO_u, if_neg (fun h => absurd h.1 (by decide))]
    exact S3.2.2.2.2.1.2.1 i hi
  · refine ⟨by show N 910 0 + 1 ≤ 60; omega, fun i hi => ?_, fun i hi => ?_, fun i j hi hj => ?_⟩
    · show zO (uO _ 1909 (B 909 0 0) (N 910 0) (some q)) 1909 (B 909 0 0) i = if i < N 910 0 + 1 then some (ltB B (N 910 0) q 1909 i 0) else none
      rw [rO_u]
      by_cases hh : i = N 910 0
      · rw [if_pos ⟨rfl, rfl, hh⟩, if_pos (by omega)]
        simp [ltB, hh]
      · rw [if_neg (fun h => hh h.2.2), S3.2.2.2.2.2.2.1 i hi]
        by_cases h2 : i < N 910 0
        · rw [if_pos h2, if_pos (by omega)]
          simp [ltB, hh]
        · rw [if_neg h2, if_neg (by omega)]
    · have hi : i < N 910 0 + 1 := hi
      show isO (nZ z q 2) 2 (ltB B (N 910 0) q 1909 i 0)
      by_cases hh : i = N 910 0
      · simp only [ltB, hh, and_self, if_true]
        exact hqq
      · simp only [ltB, true_and, if_neg hh]
        exact S3.2.2.2.2.2.2.2.1 i (by omega)
    · have hi : i < N 910 0 + 1 := hi
      have hj : j < N 910 0 + 1 := hj
      by_cases h1 : i = N 910 0 <;> by_cases h2 : j = N 910 0
      · simp [ltB, h1, h2]
      · simp [ltB, h1, h2]
        exact ⟨fun h => absurd h.symm (hqB j (by omega)), fun h => by omega⟩
      · simp [ltB, h1, h2]
        exact hqB i (by omega)
      · simp [ltB, h1, h2]
        exact S3.2.2.2.2.2.2.2.2 i j (by omega) (by omega)
set_option maxHeartbeats 2000000 in
theorem sell_c {z : Zt} {x t i n d : Nat} {B : Nat → Nat → Nat → Nat} {N : Nat → Nat → Nat} {w : Vt} {a many : Int32} {F : Nat → Int32} {K : Int32 → Zt → Vt → Prop} {X : Nat → Vt → Prop} (hS : SC z x t B N) (hi : i < 8) (ha : inI a 1 1000 = 1) (hn : n ≤ 200) (e705 : vI w 705 (B 912 0 0) = nI n) (e910 : vI w 910 x = nI (N 910 0)) (eT : vI w 914 x = nI d)
    (hbad : inI many 3 5 = 0 ∨ (∃ mm : Nat, 3 ≤ mm ∧ mm ≤ 5 ∧ many = nI mm ∧ ¬ allT F mm = true) → X 2 (t5 B w F))
    (hnone : ∀ mm : Nat, 3 ≤ mm → mm ≤ 5 → many = nI mm → allT F mm = true → (vI w 5 (B 1906 i 0) < a ∨ N 910 0 = 60 ∨ n = 200) → K (-1) z (t5 B w F))
    (hgo : ∀ mm : Nat, 3 ≤ mm → mm ≤ 5 → many = nI mm → allT F mm = true → ¬ vI w 5 (B 1906 i 0) < a → N 910 0 < 60 → n < 200 → ∀ (w20 : Vt) (lo hi' md : Int32), kth F mm 0 lo → kth F mm (mm - 1) hi' → kth F mm ((mm - 1) / 2) md → frW aC aK w w20 → ∀ q : Nat, q ∉ z.2.1 → SC (uO (nZ z q 2) 1909 (B 909 0 0) (N 910 0) (some q)) x t (ltB B (N 910 0) q) (ltN N (N 910 0)) → K (nI (N 910 0)) (uO (nZ z q 2) 1909 (B 909 0 0) (N 910 0) (some q)) (uI (uI (uI (uI (uI (uI (nV (uI (addC B w20 n (nI i) (a * stV lo hi' md) (nI d)) 5 (B 1906 i 0) (vI w20 5 (B 1906 i 0) - a)) q) 200 q (nI i)) 201 q a) 202 q (stV lo hi' md)) 203 q (dbV lo hi')) 204 q (nI n)) 910 x (nI (N 910 0 + 1)))) :
    wp_X9_sell z x (nI i) a many (F 0) (F 1) (F 2) (F 3) (F 4) w K X := by
  have f1 := (hS.2.1.1 i hi).2.1
  have hn60 := hS.2.2.2.2.2.1
  have c0 : (0 : Int32).toNatClampNeg = 0 := by decide
  have c1 : (1 : Int32).toNatClampNeg = 1 := by decide
  have c2 : (2 : Int32).toNatClampNeg = 2 := by decide
  have c3 : (3 : Int32).toNatClampNeg = 3 := by decide
  have c4 : (4 : Int32).toNatClampNeg = 4 := by decide
  have v0 : vp_in 0 5 := vp_in_nI (n := 0) (by decide) (by decide)
  have v1 : vp_in 1 5 := vp_in_nI (n := 1) (by decide) (by decide)
  have v2 : vp_in 2 5 := vp_in_nI (n := 2) (by decide) (by decide)
  have v3 : vp_in 3 5 := vp_in_nI (n := 3) (by decide) (by decide)
  have v4 : vp_in 4 5 := vp_in_nI (n := 4) (by decide) (by decide)
  unfold wp_X9_sell wp_X9_needAmount
  refine ⟨sc_x hS, (nF1 hS hi).mpr ⟨f1, ?_⟩⟩
  rw [in9, ha]
  refine ⟨fun _ => ⟨B 911 0 0, (sc_911 hS).1, (sc_911 hS).2, v0, ?_⟩, fun h => absurd h (by decide)⟩
  rw [c0, c1, c2, c3, c4]
  intro w6 e6
  refine ⟨v1, fun w7 e7 => ⟨v2, fun w8 e8 => ⟨v3, fun w9 e9 => ⟨v4, fun w10 e10 => ?_⟩⟩⟩⟩
  subst e6 e7 e8 e9 e10
  have hall : ∀ mm, mm ≤ 5 → allT (vA (t5 B w F) 1911 (B 911 0 0)) mm = allT F mm := fun mm h => allT_congr mm (fun i hi => t5_row i (by omega))
  refine nt_c hS (fun mm h3 h5 em hT => ?_) (fun h => hbad ?_)
  · rw [hall mm h5] at hT
    have eash : vI (t5 B w F) 5 (B 1906 i 0) = vI w 5 (B 1906 i 0) := rfl
    have e910' : vI (t5 B w F) 910 x = nI (N 910 0) := e910
    have e705' : vI (t5 B w F) 705 (B 912 0 0) = nI n := e705
    rw [eash]
    refine ⟨fun g => hnone mm h3 h5 em hT (Or.inl g), fun g => ⟨B 909 0 0, (sc_909 hS).1, (sc_909 hS).2, ?_⟩⟩
    rw [e910']
    refine ⟨fun g2 => hnone mm h3 h5 em hT (Or.inr (Or.inl ?_)), fun g2 => ⟨B 912 0 0, (sc_912 hS).1, (sc_912 hS).2, ?_⟩⟩
    · have := (nI_leI (a := 60) (by decide) (by omega)).mp g2
      omega
    have h60 : N 910 0 < 60 := Nat.lt_of_not_le (fun h => g2 (nI_le (a := 60) h (by omega)))
    unfold wp_X7_isFull
    rw [e705']
    have hn2 : ¬ nI n < 200 → n = 200 := fun g3 => by
      have : ¬ n < 200 := fun h => g3 (nI_lt (b := 200) h (by decide))
      omega
    refine ⟨(sc_912 hS).2, fun g3 => ⟨fun _ => ?_, fun h => absurd rfl h⟩, fun g3 => ⟨fun h => absurd h (by decide), fun _ => hnone mm h3 h5 em hT (Or.inr (Or.inr (hn2 g3)))⟩⟩
    have h200 : n < 200 := Nat.lt_of_not_le (fun h => absurd g3 (nI_nlt (b := 200) h (by omega)))
    rw [em]
    refine sort_c hS h3 h5 (fun w20 ht hc hF => ?_)
    have hrow : ∀ v, cLt F v mm = cLt (vA (t5 B w F) 1911 (B 911 0 0)) v mm ∧ cLe F v mm = cLe (vA (t5 B w F) 1911 (B 911 0 0)) v mm := fun v => ⟨cLt_congr mm (fun j hj => (t5_row j (by omega)).symm), cLe_congr mm (fun j hj => (t5_row j (by omega)).symm)⟩
    have hk : ∀ k, k < mm → kth F mm k (vA w20 1911 (B 911 0 0) k) := fun k hk => by
      have h1 := sorted_kth ht k hk
      unfold kth at h1 ⊢
      rw [(hc _).1, (hc _).2] at h1
      rw [(hrow _).1, (hrow _).2]
      exact h1
    have u1 : nI mm - 1 = nI (mm - 1) := pk_sub (b := 1) (by omega)
    have u2 : nI (mm - 1) / 2 = nI ((mm - 1) / 2) := pk_div (d := 2) (by omega) (by decide) (by decide)
    have u3 : (nI (mm - 1)).toNatClampNeg = mm - 1 := nI_clamp (by omega)
    have u4 : (nI ((mm - 1) / 2)).toNatClampNeg = (mm - 1) / 2 := nI_clamp (by omega)
    rw [u1, u2, u3, u4]
    have hF0 : frW aC aK w w20 := frW.trans (by repeat' (first | with_reducible refine frW.uI ?_ (by decide) | with_reducible refine frW.uA ?_ (by decide) | with_reducible refine frW.uF ?_ (by decide) | with_reducible refine frW.uL ?_ | exact frW.rfl _ _ _)) hF
    have fin := hgo mm h3 h5 em hT g h60 h200 w20 _ _ _ (hk 0 (by omega)) (hk (mm - 1) (by omega)) (hk ((mm - 1) / 2) (by omega)) hF0
    refine ⟨vp_in_nI (by omega) (by decide), v0, ?_⟩
    refine ⟨fun x23 w24 => x23 = dbV (vA w20 1911 (B 911 0 0) 0) (vA w20 1911 (B 911 0 0) (mm - 1)) ∧ w24 = w20, ?_, ?_, ?_⟩
    · rintro x23 w24 ⟨hx, rfl⟩
      refine ⟨fun x27 w28 => x27 = stV (vA w24 1911 (B 911 0 0) 0) (vA w24 1911 (B 911 0 0) (mm - 1)) (vA w24 1911 (B 911 0 0) ((mm - 1) / 2)) ∧ w28 = w24, ?_, ?_, ?_⟩
      · rintro x27 w28 ⟨hx2, rfl⟩
        have eT' : vI w28 914 x = nI d := (hF0.1 914 (by decide) _).trans eT
        have e705'' : vI w28 705 (B 912 0 0) = nI n := (hF0.1 705 (by decide) _).trans e705
        have e910'' : vI w28 910 x = nI (N 910 0) := (hF0.1 910 (by decide) _).trans e910
        rw [eT']
        refine add_c hS h200 e705'' ?_
        intro w32 e32 q hq z1 ez1 w34 e34
        subst e32 ez1 e34
        have x1 : ext z (nZ z q 2) := (ext.rfl z).nZ hq (fun _ h => h)
        have hqq : isO (nZ z q 2) 2 q := isO_nZq
        have hxq : ¬ x = q := lt_of_mem (sc_x hS) hq
        refine ⟨x1.1 _ _ f1, x1.1 _ _ (sc_x hS), hqq, x1.1 _ _ (sc_909 hS).2, ?_⟩
        unfold wp_X2_init
        refine ⟨hqq, ?_⟩
        intro w1 e1 w2 e2 w3 e3
        refine ⟨by rw [hx]; unfold dbV; split; exact isB0; exact isB1, ?_⟩
        intro w4 e4 w5 e5
        subst e1 e2 e3 e4 e5
        refine ⟨x1.1 _ _ f1, x1.1 _ _ (sc_x hS), hqq, x1.1 _ _ (sc_909 hS).2, ?_⟩
        have e910a : vI (uI (addC B w28 n (nI i) (a * x27) (nI d)) 5 (B 1906 i 0) (vI (addC B w28 n (nI i) (a * x27) (nI d)) 5 (B 1906 i 0) - a)) 910 x = nI (N 910 0) := by simp [vI_u, rI_uA, e910'']
        rw [e910a]
        refine ⟨vp_in_nI (by omega) (by decide), ?_⟩
        rw [nI_clamp (n := N 910 0) (by omega)]
        intro z4 ez4
        subst ez4
        refine ⟨x1.1 _ _ f1, x1.1 _ _ (sc_x hS), ?_⟩
        intro w36 e36
        have r1 : w36 = uI (uI (uI (uI (uI (uI (nV (uI (addC B w28 n (nI i) (a * x27) (nI d)) 5 (B 1906 i 0) (vI w28 5 (B 1906 i 0) - a)) q) 200 q (nI i)) 201 q a) 202 q x27) 203 q x23) 204 q (nI n)) 910 x (nI (N 910 0 + 1)) := by
          rw [e36]
          simp [vI_u, rI_uA, rI_nV, hxq, e910'', nI_1]
        have r2 : vI w36 910 x - 1 = nI (N 910 0) := by
          rw [r1, vI_u, if_pos ⟨rfl, rfl⟩]
          exact nI_pred _
        rw [r2, r1, hx, hx2]
        exact fin q hq (lot_shape hS hq h60)
      · intro h0
        refine ⟨vp_in_nI (by omega) (by decide), ?_, rfl⟩
        have : vA w24 1911 (B 911 0 0) (mm - 1) - vA w24 1911 (B 911 0 0) 0 ≤ 20 := by
          unfold dbV at hx
          split at hx
          · assumption
          · rw [hx] at h0; exact absurd h0 (by decide)
        unfold stV
        rw [if_pos this]
      · intro h0
        refine ⟨v0, ?_, rfl⟩
        have : ¬ vA w24 1911 (B 911 0 0) (mm - 1) - vA w24 1911 (B 911 0 0) 0 ≤ 20 := by
          unfold dbV at hx
          split at hx
          · exact absurd hx h0
          · assumption
        unfold stV
        rw [if_neg this]
    · intro h
      exact ⟨by unfold dbV; rw [if_pos h], rfl⟩
    · intro h
      exact ⟨by unfold dbV; rw [if_neg h], rfl⟩
  · rcases h with h | ⟨mm, h3, h5, em, hT⟩
    · exact Or.inl h
    · rw [hall mm h5] at hT
      exact Or.inr ⟨mm, h3, h5, em, hT⟩
