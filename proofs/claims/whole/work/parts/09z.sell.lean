/-! PURE PART: sell in the reference; sell -/
def sellE (z : Zt) (o : Nat) (K : Int32 → Vt → Prop) (b47 : Nat) (x87 x88 x89 x90 x91 x92 x93 x94 x95 x96 x97 x98 x99 : Int32) (w100 : Vt) : Prop := ∀ x101 : Int32, x101 = 6 * (vI w100 1041 o) → ∃ b102 : Nat, zR z 1040 o = some b102 ∧ isO z 2040 b102 ∧ vp_in x101 360 ∧ ∀ w103 : Vt, w103 = uA w100 2040 b102 (x101 : Int32).toNatClampNeg x92 → vp_in (x101 + 1) 360 ∧ ∀ w104 : Vt, w104 = uA w103 2040 b102 (x101 + 1 : Int32).toNatClampNeg x93 → ∃ J105 : Int32 → Vt → Prop, (∀ (x106 : Int32) (w107 : Vt), J105 x106 w107 → vp_in (x101 + 3) 360 ∧ ∀ w109 : Vt, w109 = uA w107 2040 b102 (x101 + 3 : Int32).toNatClampNeg x106 → vp_in (x101 + 3) 360 ∧ ∃ J110 : Int32 → Vt → Prop, (∀ (x111 : Int32) (w112 : Vt), J110 x111 w112 → vp_in (x101 + 2) 360 ∧ ∀ w114 : Vt, w114 = uA w112 2040 b102 (x101 + 2 : Int32).toNatClampNeg x111 → vp_in (x101 + 2) 360 ∧ vp_in (x101 + 4) 360 ∧ ∀ w115 : Vt, w115 = uA w114 2040 b102 (x101 + 4 : Int32).toNatClampNeg (x93 * (vA w114 2040 b102 (x101 + 2 : Int32).toNatClampNeg)) → vp_in (x101 + 4) 360 ∧ wp_X10_enters z o x92 (vA w115 2040 b102 (x101 + 4 : Int32).toNatClampNeg) (vI w115 1001 o) w115 (fun r117 w116 => vp_in (x101 + 5) 360 ∧ ∀ w118 : Vt, w118 = uA w116 2040 b102 (x101 + 5 : Int32).toNatClampNeg r117 → vp_in x92 8 ∧ vp_in x92 8 ∧ ∀ w119 : Vt, w119 = uA w118 2018 b47 (x92 : Int32).toNatClampNeg ((vA w118 2018 b47 (x92 : Int32).toNatClampNeg) - x93) → ∀ w120 : Vt, w120 = uI w119 1041 o ((vI w119 1041 o) + 1) → K ((vI w120 1041 o) - 1) w120)) ∧ (¬ (vA w109 2040 b102 (x101 + 3 : Int32).toNatClampNeg) = 1 → J110 x88 w109) ∧ ((vA w109 2040 b102 (x101 + 3 : Int32).toNatClampNeg) = 1 → J110 x90 w109)) ∧ ((x89 - x90) ≤ 20 → J105 0 w104) ∧ (¬ (x89 - x90) ≤ 20 → J105 1 w104)
def sellR (z : Zt) (o : Nat) (K : Int32 → Vt → Prop) (x24 x25 x26 x27 x28 x29 x30 x31 x32 x33 : Int32) (w34 : Vt) : Prop := wp_X10_noFamily z x26 w34 (fun r36 w35 => wp_X10_throwsIf z o r36 1 w35 (fun r38 w37 => (¬ r38 = 0 → K 0 w37) ∧ (r38 = 0 → ∃ J40 : Int32 → Vt → Prop, (∀ (x41 : Int32) (w42 : Vt), J40 x41 w42 → wp_X10_throwsIf z o x41 2 w42 (fun r45 w44 => (r45 = 0 → ∃ b47 : Nat, zR z 1018 o = some b47 ∧ isO z 2018 b47 ∧ vp_in x26 8 ∧ ((vA w44 2018 b47 (x26 : Int32).toNatClampNeg) < x27 → K (-1) w44) ∧ (¬ (vA w44 2018 b47 (x26 : Int32).toNatClampNeg) < x27 → ((vI w44 1041 o) = 60 → K (-1) w44) ∧ (¬ (vI w44 1041 o) = 60 → (¬ (vI w44 1047 o) = 200 → ∃ n86 : Nat, wL_X10_sell_183 z o K (fun x87 x88 x89 x90 x91 x92 x93 x94 x95 x96 x97 x98 x99 w100 => sellE z o K b47 x87 x88 x89 x90 x91 x92 x93 x94 x95 x96 x97 x98 x99 w100) n86 0 0 0 100 x25 x26 x27 x28 x29 x30 x31 x32 x33 w44) ∧ ((vI w44 1047 o) = 200 → K (-1) w44)))) ∧ (¬ r45 = 0 → K 0 w44))) ∧ (¬ x25 = 0 → J40 0 w37) ∧ (x25 = 0 → J40 1 w37))))
def goodV (a many : Int32) (F : Nat → Int32) (v : Int32) : Prop := (v = 1 ∧ inI a 1 1000 = 1 ∧ ∃ mm : Nat, 3 ≤ mm ∧ mm ≤ 5 ∧ many = nI mm ∧ allT F mm = true) ∨ (v = 0 ∧ (inI a 1 1000 = 0 ∨ inI many 3 5 = 0 ∨ ∃ mm : Nat, 3 ≤ mm ∧ mm ≤ 5 ∧ many = nI mm ∧ ¬ allT F mm = true))
theorem many_nI {many : Int32} (g : inI many 3 5 = 1) : ∃ mm : Nat, 3 ≤ mm ∧ mm ≤ 5 ∧ many = nI mm := by
  obtain ⟨g1, g2⟩ := inI_1 g
  have e3 : (3 : Int32).toInt = 3 := rfl
  have e5 : (5 : Int32).toInt = 5 := rfl
  have h0 : ¬ many < 0 := by
    rw [Int32.lt_iff_toInt_lt]
    have e0 : (0 : Int32).toInt = 0 := rfl
    omega
  obtain ⟨mm, hmm, rfl⟩ := nI_of h0
  rw [nI_toInt hmm] at g1 g2
  exact ⟨mm, by omega, by omega, rfl⟩
theorem sell_m0 {z : Zt} {m : Nat} {M : Nat → Nat} {w : Vt} {b a many : Int32} {F : Nat → Int32} {K : Int32 → Vt → Prop} (hM : SM z m M) (hK : ∀ (y v : Int32), goodV a many F v → sellR z m K y v b a many (F 0) (F 1) (F 2) (F 3) (F 4) (m5 M (uI w 1000 m 0) F)) : wp_X10_sell z m b a many (F 0) (F 1) (F 2) (F 3) (F 4) w K := by
  have c0 : (0 : Int32).toNatClampNeg = 0 := by decide
  have c1 : (1 : Int32).toNatClampNeg = 1 := by decide
  have c2 : (2 : Int32).toNatClampNeg = 2 := by decide
  have c3 : (3 : Int32).toNatClampNeg = 3 := by decide
  have c4 : (4 : Int32).toNatClampNeg = 4 := by decide
  have v0 : vp_in 0 5 := vp_in_nI (n := 0) (by decide) (by decide)
  have v1 : vp_in 1 5 := vp_in_nI (n := 1) (by decide) (by decide)
  have v2 : vp_in 2 5 := vp_in_nI (n := 2) (by decide) (by decide)
  have v3 : vp_in 3 5 := vp_in_nI (n := 3) (by decide) (by decide)
  have v4 : vp_in 4 5 := vp_in_nI (n := 4) (by decide) (by decide)
  unfold wp_X10_sell
  refine ⟨sm_m hM, fun w1 e1 => ⟨M 1039, (sm_1039 hM).1, (sm_1039 hM).2, v0, ?_⟩⟩
  rw [c0, c1, c2, c3, c4]
  intro w3 e3
  refine ⟨v1, fun w4 e4 => ⟨v2, fun w5 e5 => ⟨v3, fun w6 e6 => ⟨v4, fun w7 e7 => ?_⟩⟩⟩⟩
  subst e1 e3 e4 e5 e6 e7
  have hall : ∀ mm, mm ≤ 5 → allT (vA (m5 M (uI w 1000 m 0) F) 2039 (M 1039)) mm = allT F mm := fun mm h => allT_congr mm (fun i hi => m5_row i (by omega))
  rw [in10]
  have z0 : (inI a 1 1000 = 0 ∨ inI many 3 5 = 0) → ∃ n23 : Nat, wL_X10_sell_75 z m K (fun x24 x25 x26 x27 x28 x29 x30 x31 x32 x33 w34 => sellR z m K x24 x25 x26 x27 x28 x29 x30 x31 x32 x33 w34) n23 0 0 b a many (F 0) (F 1) (F 2) (F 3) (F 4) (m5 M (uI w 1000 m 0) F) := fun h => s75_0 (hK 0 0 (Or.inr ⟨rfl, h.elim Or.inl (fun g => Or.inr (Or.inl g))⟩))
  rcases inI_01 a 1 1000 with ga | ga
  · refine ⟨fun x11 w12 => x11 = 0 ∧ w12 = m5 M (uI w 1000 m 0) F, ?_, fun _ => ⟨rfl, rfl⟩, fun h => absurd ga h⟩
    rintro x11 w12 ⟨rfl, rfl⟩
    exact z0 (Or.inl ga)
  · rw [ga]
    rcases inI_01 many 3 5 with gm | gm
    · refine ⟨fun x11 w12 => x11 = 0 ∧ w12 = m5 M (uI w 1000 m 0) F, ?_, fun h => absurd h (by decide), fun _ => ?_⟩
      · rintro x11 w12 ⟨rfl, rfl⟩
        exact z0 (Or.inr gm)
      · rw [in10, gm]
        exact ⟨fun _ => ⟨rfl, rfl⟩, fun h => absurd rfl h⟩
    · obtain ⟨mm, h3, h5, rfl⟩ := many_nI gm
      refine ⟨fun x11 w12 => x11 = 1 ∧ w12 = m5 M (uI w 1000 m 0) F, ?_, fun h => absurd h (by decide), fun _ => ?_⟩
      · rintro x11 w12 ⟨rfl, rfl⟩
        refine s75 hM h5 (fun y => ?_)
        rw [hall mm h5]
        refine hK y _ ?_
        by_cases hT : allT F mm = true
        · rw [if_pos hT]
          exact Or.inl ⟨rfl, ga, mm, h3, h5, rfl, hT⟩
        · rw [if_neg hT]
          exact Or.inr ⟨rfl, Or.inr (Or.inr ⟨mm, h3, h5, rfl, hT⟩)⟩
      · rw [in10, gm]
        exact ⟨fun h => absurd h (by decide), fun _ => ⟨rfl, rfl⟩⟩
abbrev addM (M : Nat → Nat) (m : Nat) (w : Vt) (n : Nat) (f mo d : Int32) : Vt := uI (uA (uA (uA (uA (uA w 2042 (M 1042) n f) 2043 (M 1043) n mo) 2044 (M 1044) n d) 2045 (M 1045) n d) 2046 (M 1046) n (-1)) 1047 m (nI (n + 1))
theorem add_m {z : Zt} {m n : Nat} {M : Nat → Nat} {w : Vt} {f mo d : Int32} {K : Int32 → Vt → Prop} (hM : SM z m M) (hn : n < 200) (e : vI w 1047 m = nI n) (eT : vI w 1001 m = d) (hK : K (nI n) (addM M m w n f mo d)) : wp_X10_enters z m f mo d w K := by
  have w2 : ¬ nI n = 200 := fun h => absurd ((nI_eq (by omega) (by decide : 200 < 2 ^ 31)).mp h) (by omega)
  have v3 : vp_in (nI n) 200 := vp_in_nI (by omega) (by decide)
  have v4 : (nI n).toNatClampNeg = n := nI_clamp (by omega)
  unfold wp_X10_enters
  simpa [-Prod.forall, -Prod.exists, sm_m hM, sm_1042 hM, sm_1043 hM, sm_1044 hM, sm_1045 hM, sm_1046 hM, e, eT, w2, v3, v4, vI_u, rI_uA, nI_1, nI_pred, ← nI_succ] using hK
abbrev lotM (M : Nat → Nat) (m : Nat) (w : Vt) (L n : Nat) (f a st db d : Int32) (i : Nat) : Vt :=
  uA (uA (addM M m (uA (uA (uA (uA (uA w 2040 (M 1040) (6 * L) f) 2040 (M 1040) (6 * L + 1) a) 2040 (M 1040) (6 * L + 3) db) 2040 (M 1040) (6 * L + 2) st) 2040 (M 1040) (6 * L + 4) (a * st)) n f (a * st) d) 2040 (M 1040) (6 * L + 5) (nI n)) 2018 (M 1018) i (vA w 2018 (M 1018) i - a)
set_option maxHeartbeats 2000000 in
theorem sellE_m {z : Zt} {m i n L : Nat} {M : Nat → Nat} {w : Vt} {a d md hi' lo y0 y4 y8 y9 y10 y11 y12 y13 : Int32} {K : Int32 → Vt → Prop} (hM : SM z m M) (hi : i < 8) (hL : L < 60) (hn : n < 200) (e41 : vI w 1041 m = nI L) (e47 : vI w 1047 m = nI n) (eT : vI w 1001 m = d) (hK : K (nI L) (uI (lotM M m w L n (nI i) a (stV lo hi' md) (dbV lo hi') d i) 1041 m (nI (L + 1)))) : sellE z m K (M 1018) y0 md hi' lo y4 (nI i) a y8 y9 y10 y11 y12 y13 w := by
  have u0 : (6 : Int32) * nI L = nI (6 * L) := pk_mul 6 L
  have u1 : nI (6 * L) + 1 = nI (6 * L + 1) := nI_add _ 1
  have u2 : nI (6 * L) + 2 = nI (6 * L + 2) := nI_add _ 2
  have u3 : nI (6 * L) + 3 = nI (6 * L + 3) := nI_add _ 3
  have u4 : nI (6 * L) + 4 = nI (6 * L + 4) := nI_add _ 4
  have u5 : nI (6 * L) + 5 = nI (6 * L + 5) := nI_add _ 5
  have p0 : vp_in (nI (6 * L)) 360 := vp_in_nI (by omega) (by decide)
  have p1 : vp_in (nI (6 * L + 1)) 360 := vp_in_nI (by omega) (by decide)
  have p2 : vp_in (nI (6 * L + 2)) 360 := vp_in_nI (by omega) (by decide)
  have p3 : vp_in (nI (6 * L + 3)) 360 := vp_in_nI (by omega) (by decide)
  have p4 : vp_in (nI (6 * L + 4)) 360 := vp_in_nI (by omega) (by decide)
  have p5 : vp_in (nI (6 * L + 5)) 360 := vp_in_nI (by omega) (by decide)
  have c0 : (nI (6 * L)).toNatClampNeg = 6 * L := nI_clamp (by omega)
  have c1 : (nI (6 * L + 1)).toNatClampNeg = 6 * L + 1 := nI_clamp (by omega)
  have c2 : (nI (6 * L + 2)).toNatClampNeg = 6 * L + 2 := nI_clamp (by omega)
  have c3 : (nI (6 * L + 3)).toNatClampNeg = 6 * L + 3 := nI_clamp (by omega)
  have c4 : (nI (6 * L + 4)).toNatClampNeg = 6 * L + 4 := nI_clamp (by omega)
  have c5 : (nI (6 * L + 5)).toNatClampNeg = 6 * L + 5 := nI_clamp (by omega)
  have v1 : vp_in (nI i) 8 := vp_in_nI (by omega) (by decide)
  have v2 : (nI i).toNatClampNeg = i := nI_clamp (by omega)
  unfold sellE
  rw [e41]
  intro x101 e101
  rw [u0] at e101
  subst e101
  rw [u1, u2, u3, u4, u5, c0, c1, c2, c3, c4, c5, v2]
  refine ⟨M 1040, (sm_1040 hM).1, (sm_1040 hM).2, p0, fun w103 e103 => ⟨p1, fun w104 e104 => ?_⟩⟩
  refine ⟨fun x106 w107 => x106 = dbV lo hi' ∧ w107 = w104, ?_, ?_, ?_⟩
  · rintro x106 w107 ⟨hx, rfl⟩
    refine ⟨p3, fun w109 e109 => ⟨p3, ?_⟩⟩
    have e9 : vA w109 2040 (M 1040) (6 * L + 3) = dbV lo hi' := by rw [e109, rA_u, if_pos ⟨rfl, rfl, rfl⟩, hx]
    rw [e9]
    refine ⟨fun x111 w112 => x111 = stV lo hi' md ∧ w112 = w109, ?_, ?_, ?_⟩
    · rintro x111 w112 ⟨hx2, rfl⟩
      refine ⟨p2, fun w114 e114 => ⟨p2, p4, fun w115 e115 => ⟨p4, ?_⟩⟩⟩
      have e14 : vA w114 2040 (M 1040) (6 * L + 2) = stV lo hi' md := by rw [e114, rA_u, if_pos ⟨rfl, rfl, rfl⟩, hx2]
      have e15 : vA w115 2040 (M 1040) (6 * L + 4) = a * stV lo hi' md := by rw [e115, rA_u, if_pos ⟨rfl, rfl, rfl⟩, e14]
      have eT5 : vI w115 1001 m = d := by rw [e115, e114, e109, e104, e103]; exact eT
      have e475 : vI w115 1047 m = nI n := by rw [e115, e114, e109, e104, e103]; exact e47
      have e415 : vI w115 1041 m = nI L := by rw [e115, e114, e109, e104, e103]; exact e41
      rw [e15, eT5]
      refine add_m hM hn e475 eT5 ?_
      refine ⟨p5, fun w118 e118 => ⟨v1, v1, fun w119 e119 w120 e120 => ?_⟩⟩
      have e41b : vI w119 1041 m = nI L := by rw [e119, e118]; simp [rI_uA, vI_u, e415]
      rw [e41b, nI_1] at e120
      have r1 : vI w120 1041 m - 1 = nI L := by
        rw [e120, vI_u, if_pos ⟨rfl, rfl⟩]
        exact nI_pred _
      rw [r1, e120]
      have r2 : w119 = lotM M m w L n (nI i) a (stV lo hi' md) (dbV lo hi') d i := by
        have q1 : vA w118 2018 (M 1018) i = vA w 2018 (M 1018) i := by
          rw [e118, e115, e114, e109, e104, e103]; simp [rA_u, rA_uI]
        rw [e119, q1, e118, e115, e14, e114, e109, e104, e103, hx, hx2]
      rw [r2]
      exact hK
    · intro hc
      refine ⟨?_, rfl⟩
      unfold dbV at hc
      unfold stV
      split at hc
      · rename_i h
        rw [if_pos h]
      · exact absurd rfl hc
    · intro hc
      refine ⟨?_, rfl⟩
      unfold dbV at hc
      unfold stV
      split at hc
      · exact absurd hc (by decide)
      · rename_i h
        rw [if_neg h]
  · intro h
    exact ⟨by unfold dbV; rw [if_pos h], rfl⟩
  · intro h
    exact ⟨by unfold dbV; rw [if_neg h], rfl⟩
theorem sellR_m {z : Zt} {m i n L : Nat} {M : Nat → Nat} {w : Vt} {y v a many d : Int32} {F : Nat → Int32} {K : Int32 → Vt → Prop} (hM : SM z m M) (hi : i < 8) (hL : L ≤ 60) (hn : n ≤ 200) (hrow : ∀ j, j < 5 → vA w 2039 (M 1039) j = F j) (e41 : vI w 1041 m = nI L) (e47 : vI w 1047 m = nI n) (eT : vI w 1001 m = d) (hv : goodV a many F v)
    (hbad : v = 0 → K 0 (uI w 1000 m 2))
    (hnone : v = 1 → (vA w 2018 (M 1018) i < a ∨ L = 60 ∨ n = 200) → K (-1) w)
    (hgo : v = 1 → ∀ mm : Nat, 3 ≤ mm → mm ≤ 5 → many = nI mm → allT F mm = true → ¬ vA w 2018 (M 1018) i < a → L < 60 → n < 200 → K (nI L) (uI (lotM M m w L n (nI i) a (stV (mnF F mm) (mxF F mm) (mdF F mm ((mm - 1) / 2) mm)) (dbV (mnF F mm) (mxF F mm)) d i) 1041 m (nI (L + 1)))) :
    sellR z m K y v (nI i) a many (F 0) (F 1) (F 2) (F 3) (F 4) w := by
  have hom := sm_m hM
  have g3 : inI (nI i) 0 7 = 1 := by rw [← i8_eq]; exact inI_nI hi (by decide)
  have v1 : vp_in (nI i) 8 := vp_in_nI (by omega) (by decide)
  have v2 : (nI i).toNatClampNeg = i := nI_clamp (by omega)
  unfold sellR
  rw [mF, g3, i11, th0 hom]
  refine ⟨fun h => absurd rfl h, fun _ => ?_⟩
  rcases hv with ⟨rfl, -, mm, h3, h5, em, hT⟩ | ⟨rfl, -⟩
  · refine ⟨fun x41 w42 => x41 = 0 ∧ w42 = w, ?_, fun _ => ⟨rfl, rfl⟩, fun h => absurd h (by decide)⟩
    rintro x41 w42 ⟨rfl, rfl⟩
    rw [th0 hom]
    refine ⟨fun _ => ⟨M 1018, (sm_1018 hM).1, (sm_1018 hM).2, v1, ?_⟩, fun h => absurd rfl h⟩
    rw [v2, e41, e47]
    refine ⟨fun g => hnone rfl (Or.inl g), fun g => ⟨fun g2 => hnone rfl (Or.inr (Or.inl ((nI_eq (b := 60) (by omega) (by decide)).mp g2))), fun g2 => ⟨fun g4 => ?_, fun g4 => hnone rfl (Or.inr (Or.inr ((nI_eq (b := 200) (by omega) (by decide)).mp g4)))⟩⟩⟩
    have hL6 : L < 60 := by
      have : ¬ L = 60 := fun e => g2 (by rw [e]; rfl)
      omega
    have hn2 : n < 200 := by
      have : ¬ n = 200 := fun e => g4 (by rw [e]; rfl)
      omega
    rw [em]
    refine s183 hM h3 h5 (fun y2 => ?_)
    have r1 : ∀ k, k ≤ mm → mnF (vA w42 2039 (M 1039)) k = mnF F k := by
      intro k
      induction k with
      | zero => intro _; rfl
      | succ k ih => intro hk; simp only [mnF]; rw [ih (by omega), hrow k (by omega)]
    have r2 : ∀ k, k ≤ mm → mxF (vA w42 2039 (M 1039)) k = mxF F k := by
      intro k
      induction k with
      | zero => intro _; rfl
      | succ k ih => intro hk; simp only [mxF]; rw [ih (by omega), hrow k (by omega)]
    have r3 : ∀ k, k < mm → ∀ j, j ≤ mm → rkC (vA w42 2039 (M 1039)) k j = rkC F k j := by
      intro k hk j
      induction j with
      | zero => intro _; rfl
      | succ j ih => intro hj; simp only [rkC]; rw [ih (by omega), hrow j (by omega), hrow k (by omega)]
    have r4 : ∀ k, k ≤ mm → mdF (vA w42 2039 (M 1039)) mm ((mm - 1) / 2) k = mdF F mm ((mm - 1) / 2) k := by
      intro k
      induction k with
      | zero => intro _; rfl
      | succ k ih => intro hk; simp only [mdF]; rw [ih (by omega), r3 k (by omega) mm (Nat.le_refl mm), hrow k (by omega)]
    rw [r1 mm (Nat.le_refl mm), r2 mm (Nat.le_refl mm), r4 mm (Nat.le_refl mm)]
    exact sellE_m hM hi hL6 hn2 e41 e47 eT (hgo rfl mm h3 h5 em hT g hL6 hn2)
  · refine ⟨fun x41 w42 => x41 = 1 ∧ w42 = w, ?_, fun h => absurd rfl h, fun _ => ⟨rfl, rfl⟩⟩
    rintro x41 w42 ⟨rfl, rfl⟩
    rw [th1 hom]
    exact ⟨fun h => absurd h (by decide), fun _ => hbad rfl⟩
