/-! PURE PART: the whole text, as the reference reads it -/
def stL (M : Nat → Nat) (w : Vt) (l : List Pv) : Prop := ∀ i, i < l.length → vA w 2028 (M 1028) (5 * i + 0) = (gP l i).1 ∧ vA w 2028 (M 1028) (5 * i + 1) = (gP l i).2.1 ∧ vA w 2028 (M 1028) (5 * i + 2) = (gP l i).2.2.1 ∧ vA w 2028 (M 1028) (5 * i + 3) = (gP l i).2.2.2.1 ∧ vA w 2028 (M 1028) (5 * i + 4) = (gP l i).2.2.2.2
def frR (w w1 : Vt) : Prop := (∀ c a, ¬ c = 1035 → ¬ c = 1037 → ¬ c = 1030 → ¬ c = 1032 → vI w1 c a = vI w c a) ∧ ∀ k a i, ¬ k = 2028 → vA w1 k a i = vA w k a i
section LM
variable {z : Zt} {m n : Nat} {w0 w w1 w2 : Vt} {M : Nat → Nat}
theorem frR.rfl (w : Vt) : frR w w := ⟨fun _ _ _ _ _ _ => Eq.refl _, fun _ _ _ _ => Eq.refl _⟩
theorem frR.trans (h : frR w w1) (h2 : frR w1 w2) : frR w w2 := ⟨fun c a q1 q2 q3 q4 => (h2.1 c a q1 q2 q3 q4).trans (h.1 c a q1 q2 q3 q4), fun k a i q => (h2.2 k a i q).trans (h.2 k a i q)⟩
theorem frM.r {p : Nat} (h : frM p M w w1) : frR w w1 := ⟨fun c a q1 q2 _ _ => h.1 c a q1 q2, fun k a i q => h.2 k a i (fun r => q r.1)⟩
theorem fr5.r (h : fr5 w w1) : frR w w1 := ⟨fun c a q1 q2 _ _ => h.1 c a q1 q2, fun k a i _ => h.2 k a i⟩
theorem frR.u {c0 a0 : Nat} {v : Int32} (h : frR w w1) (hc : c0 = 1035 ∨ c0 = 1037 ∨ c0 = 1030 ∨ c0 = 1032) : frR w (uI w1 c0 a0 v) := ⟨fun c a q1 q2 q3 q4 => by
  have hq : ¬ (c = c0 ∧ a = a0) := fun r => by
    obtain ⟨r1, -⟩ := r
    subst r1
    rcases hc with g | g | g | g
    · exact q1 g
    · exact q2 g
    · exact q3 g
    · exact q4 g
  rw [vI_u, if_neg hq]
  exact h.1 c a q1 q2 q3 q4, h.2⟩
theorem tapM.r (h : tapM w0 M m n w) (hf : frR w w1) : tapM w0 M m n w1 := ⟨(hf.1 1036 _ (by decide) (by decide) (by decide) (by decide)).trans h.1, fun i => (hf.2 2033 _ i (by decide)).trans (h.2 i)⟩
theorem stL.fr {l : List Pv} (h : stL M w l) (hf : fr5 w w1) : stL M w1 l := fun i hi => by
  obtain ⟨a1, a2, a3, a4, a5⟩ := h i hi
  exact ⟨(hf.2 _ _ _).trans a1, (hf.2 _ _ _).trans a2, (hf.2 _ _ _).trans a3, (hf.2 _ _ _).trans a4, (hf.2 _ _ _).trans a5⟩
theorem stL.fm {l : List Pv} {p : Nat} (h : stL M w l) (hp : p = l.length) (hf : frM p M w w1) : stL M w1 l := fun i hi => by
  obtain ⟨a1, a2, a3, a4, a5⟩ := h i hi
  subst hp
  exact ⟨(hf.2 _ _ _ (fun q => by omega)).trans a1, (hf.2 _ _ _ (fun q => by omega)).trans a2, (hf.2 _ _ _ (fun q => by omega)).trans a3, (hf.2 _ _ _ (fun q => by omega)).trans a4, (hf.2 _ _ _ (fun q => by omega)).trans a5⟩
theorem stL.app {l : List Pv} {s f u v c : Int32} (h : stL M w l) (hs : spP l.length M w [s, f, u, v, c]) : stL M w (l ++ [(s, f, u, v, c)]) := fun i hi => by
  rw [gP_app _ _ _ hi]
  by_cases hh : i = l.length
  · subst hh
    rw [if_pos rfl]
    exact ⟨hs 0 (by simp), hs 1 (by simp), hs 2 (by simp), hs 3 (by simp), hs 4 (by simp)⟩
  · rw [if_neg hh]
    refine h i ?_
    rw [List.length_append] at hi
    simp at hi
    omega
theorem lp_m {K : Int32 → Vt → Prop} {sh : Int32} {R : Bool × Nat × Nat × Int32 × List Pv} (hM : SM z m M) (hn : n ≤ 400) (hB : byB w0 M) (esh : vI w 1014 m = sh) (hK0 : ∀ w2 : Vt, R.1 = false → vI w2 1037 m = nI R.2.1 → frR w w2 → K (-1) w2) (hK1 : ∀ w2 : Vt, R.1 = true → vI w2 1030 m = nI R.2.2.2.2.length → vI w2 1032 m = R.2.2.2.1 → stL M w2 R.2.2.2.2 → R.2.2.2.2.length ≤ 14 → frR w w2 → K (nI R.2.2.1) w2) : ∀ (f i c : Nat) (r : Int32) (l : List Pv) (w1 : Vt), R = pL (btI w0 M n) (byI w0 M) n sh f i c r l → n + 1 ≤ i + f → i ≤ n → 28 * l.length ≤ i → tapM w0 M m n w1 → vI w1 1035 m = nI i → vI w1 1030 m = nI l.length → vI w1 1032 m = r → stL M w1 l → frR w w1 → wL_X10_readAll_17 z m K (fun x16 w17 => K (-1) w17) f (nI c) w1 := by
  intro f
  induction f with
  | zero =>
    intro i c r l w1 hR hf hi
    exact absurd hf (by omega)
  | succ f ih =>
    intro i c r l w1 hR hf hi hl hT e e3 e6 hC hF
    rw [pL] at hR
    obtain ⟨u1, u2⟩ := pPt_le (w0 := w0) (M := M) (sh := sh) (y := byI w0 M) hn hi
    generalize hq : pPt (btI w0 M n) (byI w0 M) sh i = q at *
    have tail : ∀ (w3 : Vt), ¬ q.1 = 0 → 28 * (nl q l).length ≤ q.2.2.2 + 1 → i ≤ q.2.2.2 → tapM w0 M m n w3 → vI w3 1035 m = nI q.2.2.2 → vI w3 1030 m = nI (nl q l).length → stL M w3 (nl q l) → vI w3 1032 m = nr q r → frR w w3 → wp_X10_blanks z m w3 (fun w8 => (¬ (vI w8 1035 m) = (vI w8 1036 m) → wp_X10_isAt z m 59 59 w8 (fun r12 w11 => (¬ r12 = 0 → ∀ w14 : Vt, w14 = uI w11 1035 m ((vI w11 1035 m) + 1) → wL_X10_readAll_17 z m K (fun x16 w17 => K (-1) w17) f (nI (c + 1)) w14) ∧ (r12 = 0 → K (-1) w11))) ∧ ((vI w8 1035 m) = (vI w8 1036 m) → K (nI (c + 1)) w8)) := by
      intro w3 hq0 hl3 hij hT3 e23 e33 hC3 e63 hF3
      rw [if_neg hq0] at hR
      obtain ⟨b1, b2⟩ := bl_le (w0 := w0) (M := M) hn u1
      refine bk_m hM hT3 hn u1 e23 hB (fun w9 e9 e97 F9 => ?_)
      have hT9 := hT3.fr F9
      have hF9 := hF3.trans (fr5.r F9)
      have hC9 := hC3.fr F9
      have e93 : vI w9 1030 m = nI (nl q l).length := (F9.1 1030 _ (by decide) (by decide)).trans e33
      have e96 : vI w9 1032 m = nr q r := (F9.1 1032 _ (by decide) (by decide)).trans e63
      generalize hJ : bl (btI w0 M n) q.2.2.2 = J at *
      rw [e9, hT9.1]
      refine ⟨fun h => ?_, fun h => ?_⟩
      · have hJn : J < n := by
          rcases Nat.lt_or_ge J n with g | g
          · exact g
          · exact absurd (by rw [show J = n by omega]) h
        rw [if_neg (by omega : ¬ n ≤ J)] at hR
        refine at_m (R := decide (btI w0 M n J = 59)) hM hT9 hn b1 e9 hB (by decide) (by decide) ?_ ?_
        · have e59 : (59 : Int32).toInt = 59 := rfl
          rw [e59]
          congr 1
          exact propext ⟨fun h => by omega, fun h => by omega⟩
        · by_cases hb : btI w0 M n J = 59
          · rw [if_pos hb] at hR
            rw [decide_eq_true hb]
            refine ⟨fun _ w14 e14 => ?_, fun q => absurd q (by decide)⟩
            rw [e9, nI_1] at e14
            have hF17 : frR w9 w14 := by rw [e14]; exact (frR.rfl w9).u (Or.inl rfl)
            refine ih (J + 1) (c + 1) (nr q r) (nl q l) w14 hR (by omega) (by omega) (by omega) (hT9.r hF17) ?_ ?_ ?_ ?_ (hF9.trans hF17)
            · rw [e14, vI_u, if_pos ⟨rfl, rfl⟩]
            · rw [e14, vI_u, if_neg (fun q => absurd q.1 (by decide))]
              exact e93
            · rw [e14, vI_u, if_neg (fun q => absurd q.1 (by decide))]
              exact e96
            · rw [e14]
              exact hC9
          · rw [if_neg hb] at hR
            rw [decide_eq_false hb]
            exact ⟨fun q => absurd rfl q, fun _ => hK0 w9 (by rw [hR]) (by rw [hR]; exact e97) hF9⟩
      · have hJn : J = n := (nI_eq (by omega) (by omega)).mp h
        rw [if_pos (by omega)] at hR
        have := hK1 w9 (by rw [hR]) (by rw [hR]; exact e93) (by rw [hR]; exact e96) (by rw [hR]; exact hC9) (by rw [hR]; show (nl q l).length ≤ 14; omega) hF9
        rw [hR] at this
        exact this
    rw [wL_X10_readAll_17]
    refine rp_m hM hT hn hi e hB (by omega) e3 ((hF.1 1014 m (by decide) (by decide) (by decide) (by decide)).trans esh) hq.symm (fun w2 w3 j h e2 F2 h3 => ⟨fun q => absurd rfl q, fun _ => ?_⟩) (fun w2 v j h e2 F2 => ⟨fun _ x7 ex7 => ?_, fun q => absurd q (by decide)⟩) (fun w2 s f' u v c' j h e2 F2 hs => ⟨fun _ x7 ex7 => ?_, fun q => absurd q (by decide)⟩)
    · rw [if_pos (by rw [h]; rfl)] at hR
      have hj : q.2.2.2 = j := by rw [h]; rfl
      refine hK0 w3 (by rw [hR]) (by rw [hR, hj]; exact e2) ?_
      rcases h3 with h3 | ⟨v, h3⟩
      · rw [h3]
        exact hF.trans (frM.r F2)
      · rw [h3]
        exact (hF.trans (frM.r F2)).u (Or.inr (Or.inr (Or.inr rfl)))
    · rw [nI_1] at ex7
      subst ex7
      have hj : q.2.2.2 = j := by rw [h]
      have hq1 : q.1 = 1 := by rw [h]
      have hnl : nl q l = l := by unfold nl; rw [if_neg (by rw [hq1]; decide)]
      have hnr : nr q r = v := by unfold nr; rw [if_pos hq1, h]
      have hp : i + 5 ≤ q.2.2.2 := by
        rcases u2 with g | g | g
        · omega
        · exact g.2
        · omega
      have hF3 : frR w2 (uI w2 1032 m v) := (frR.rfl w2).u (Or.inr (Or.inr (Or.inr rfl)))
      refine tail _ (by rw [hq1]; decide) (by rw [hnl]; omega) (by omega) ((hT.fr F2).r hF3) ?_ ?_ ?_ ?_ ((hF.trans (fr5.r F2)).trans hF3)
      · rw [vI_u, if_neg (fun q => absurd q.1 (by decide)), hj]
        exact e2
      · rw [vI_u, if_neg (fun q => absurd q.1 (by decide)), F2.1 1030 _ (by decide) (by decide), hnl]
        exact e3
      · rw [hnl]
        exact show stL M w2 l from hC.fr F2
      · rw [vI_u, if_pos ⟨rfl, rfl⟩, hnr]
    · rw [nI_1] at ex7
      subst ex7
      have hj : q.2.2.2 = j := by rw [h]
      have hq1 : q.1 = 2 := by rw [h]
      have hnl : nl q l = l ++ [(s, f', u, v, c')] := by unfold nl; rw [if_pos hq1, h]
      have hnr : nr q r = r := by unfold nr; rw [if_neg (by rw [hq1]; decide)]
      have hp : i + 27 ≤ q.2.2.2 := by
        rcases u2 with g | g | g
        · omega
        · omega
        · exact g.2
      have hlen : (l ++ [(s, f', u, v, c')]).length = l.length + 1 := by simp
      have hF3 : frR w2 (uI w2 1030 m (nI (l.length + 1))) := (frR.rfl w2).u (Or.inr (Or.inr (Or.inl rfl)))
      refine tail _ (by rw [hq1]; decide) (by rw [hnl, hlen]; omega) (by omega) ((hT.frm F2).r hF3) ?_ ?_ ?_ ?_ ((hF.trans (frM.r F2)).trans hF3)
      · rw [vI_u, if_neg (fun q => absurd q.1 (by decide)), hj]
        exact e2
      · rw [vI_u, if_pos ⟨rfl, rfl⟩, hnl, hlen]
      · rw [hnl]
        exact show stL M w2 _ from (hC.fm rfl F2).app hs
      · rw [vI_u, if_neg (fun q => absurd q.1 (by decide)), F2.1 1032 _ (by decide) (by decide), hnr]
        exact e6
theorem cp_m {K : Int32 → Vt → Prop} {x1 : Int32} {p : Nat} (hM : SM z m M) (hp : p ≤ 14) (e29 : vI w 1029 m = nI p) (hK : ∀ w1 : Vt, (∀ c a, vI w1 c a = vI w c a) → (∀ k a i, ¬ k = 2027 → vA w1 k a i = vA w k a i) → (∀ i, i < 5 * p → vA w1 2027 (M 1027) i = vA w 2028 (M 1028) i) → K x1 w1) : ∃ n25 : Nat, wL_X10_rights_76 z m K (fun x26 x27 w28 => K x27 w28) n25 0 x1 w := by
  have key : ∀ d k (w1 : Vt), k + d = 5 * p → (∀ c a, vI w1 c a = vI w c a) → (∀ k a i, ¬ k = 2027 → vA w1 k a i = vA w k a i) → (∀ i, i < k → vA w1 2027 (M 1027) i = vA w 2028 (M 1028) i) → wL_X10_rights_76 z m K (fun x26 x27 w28 => K x27 w28) (d + 1) (nI k) x1 w1 := by
    have e5 : (5 : Int32) * nI p = nI (5 * p) := nI_mul 5 p
    intro d
    induction d with
    | zero =>
      intro k w1 hk h1 h2 h3
      rw [wL_X10_rights_76, h1 1029 m, e29, e5]
      exact ⟨fun _ => hK w1 h1 h2 (fun i hi => h3 i (by omega)), fun q => absurd (nI_le (by omega) (by omega)) q⟩
    | succ d ih =>
      intro k w1 hk h1 h2 h3
      rw [wL_X10_rights_76, h1 1029 m, e29, e5]
      have v : vp_in (nI k) 300 := vp_in_nI (by omega) (by decide)
      refine ⟨fun q => absurd q (nI_ge (by omega) (by omega)), fun _ => ⟨M 1027, (sm_1027 hM).1, (sm_1027 hM).2, M 1028, (sm_1028 hM).1, (sm_1028 hM).2, v, v, fun w23 e23 x24 e24 => ?_⟩⟩
      rw [nI_clamp (by omega)] at e23
      rw [e24, nI_1]
      refine ih (k + 1) w23 (by omega) (fun c a => by rw [e23]; exact h1 c a) (fun k' a i q => ?_) (fun i hi => ?_)
      · have hq : ¬ (k' = 2027 ∧ a = M 1027 ∧ i = k) := fun r => q r.1
        rw [e23, rA_u, if_neg hq]
        exact h2 k' a i q
      · by_cases hh : i = k
        · rw [e23, rA_u, if_pos ⟨rfl, rfl, hh⟩, hh]
          exact h2 2028 _ k (by decide)
        · have hq : ¬ (2027 = 2027 ∧ M 1027 = M 1027 ∧ i = k) := fun r => hh r.2.2
          rw [e23, rA_u, if_neg hq]
          exact h3 i (by omega)
  exact ⟨5 * p + 1, key (5 * p) 0 w (by omega) (fun _ _ => rfl) (fun _ _ _ _ => rfl) (fun i hi => absurd hi (by omega))⟩
theorem rights_m {K : Int32 → Vt → Prop} {sh : Int32} {R : Bool × Nat × Nat × Int32 × List Pv} (hM : SM z m M) (hn : n ≤ 400) (hB : byB w M) (e34 : vI w 1034 m = nI n) (esh : vI w 1014 m = sh) (hR : R = pL (btI w M n) (byI w M) n sh (n + 1) 0 0 2 []) (hcnt : R.1 = true → R.2.2.1 ≤ 400)
    (hK0 : ∀ w1 : Vt, R.1 = false → vI w1 1000 m = 1 → vI w1 1034 m = 0 → vI w1 1038 m = nI R.2.1 → (∀ c a, ¬ c ∈ [1000, 1030, 1032, 1034, 1035, 1036, 1037, 1038] → vI w1 c a = vI w c a) → (∀ k a i, ¬ k = 2028 → vA w1 k a i = vA w k a i) → K 0 w1)
    (hK1 : ∀ w1 : Vt, R.1 = true → vI w1 1000 m = 0 → vI w1 1034 m = 0 → vI w1 1038 m = -1 → vI w1 1029 m = nI R.2.2.2.2.length → vI w1 1031 m = R.2.2.2.1 → R.2.2.2.2.length ≤ 14 → (∀ i, i < R.2.2.2.2.length → vA w1 2027 (M 1027) (5 * i + 0) = (gP R.2.2.2.2 i).1 ∧ vA w1 2027 (M 1027) (5 * i + 1) = (gP R.2.2.2.2 i).2.1 ∧ vA w1 2027 (M 1027) (5 * i + 2) = (gP R.2.2.2.2 i).2.2.1 ∧ vA w1 2027 (M 1027) (5 * i + 3) = (gP R.2.2.2.2 i).2.2.2.1 ∧ vA w1 2027 (M 1027) (5 * i + 4) = (gP R.2.2.2.2 i).2.2.2.2) → (∀ c a, ¬ c ∈ [1000, 1029, 1030, 1031, 1032, 1034, 1035, 1036, 1037, 1038] → vI w1 c a = vI w c a) → (∀ k a i, ¬ k ∈ [2027, 2028] → vA w1 k a i = vA w k a i) → K (nI R.2.2.1) w1) : wp_X10_rights z m w K := by
  unfold wp_X10_rights wp_X10_readAll
  refine ⟨sm_m hM, fun w1 e1 w2 e2 w3 e3 => ⟨sm_m hM, fun w4 e4 w5 e5 w6 e6 => ⟨n + 1, ?_⟩⟩⟩
  have E : w6 = uI (uI (uI (uI (uI (uI w 1000 m 0) 1036 m (nI n)) 1034 m 0) 1035 m 0) 1030 m 0) 1032 m 2 := by
    rw [e6, e5, e4, e3, e2, e1]
    rw [show vI (uI w 1000 m 0) 1034 m = nI n from by rw [vI_u, if_neg (fun q => absurd q.1 (by decide)), e34]]
  have i0 : vI w6 1000 m = 0 := by rw [E]; simp [vI_u]
  have i34 : vI w6 1034 m = 0 := by rw [E]; simp [vI_u]
  have fI : ∀ c a, ¬ c ∈ [1000, 1030, 1032, 1034, 1035, 1036, 1037, 1038] → vI w6 c a = vI w c a := by
    intro c a hc
    simp only [List.mem_cons, List.not_mem_nil, or_false, not_or] at hc
    rw [E]
    simp [vI_u, hc]
  have fA : ∀ k a i, vA w6 k a i = vA w k a i := by
    intro k a i
    rw [E]
    rfl
  have hT6 : tapM w M m n w6 := ⟨by rw [E]; simp [vI_u], fun i => fA _ _ i⟩
  refine lp_m (w := w6) (w0 := w) hM hn hB ((fI 1014 m (by decide)).trans esh) (fun w7 hr e37 F7 => ?_) (fun w7 hr e30 e32 hC hlen F7 => ?_) (n + 1) 0 0 2 [] w6 hR (by omega) (by omega) (by simp) hT6 (by rw [E]; simp [vI_u]; rfl) (by rw [E]; simp [vI_u]; rfl) (by rw [E]; simp [vI_u]) (fun i hi => absurd hi (Nat.not_lt_zero _)) (frR.rfl w6)
  · refine ⟨fun x w' => x = nI R.2.1 ∧ w' = w7, fun x7 w8 hJ w10 e10 => ?_, fun h => absurd h (by decide), fun _ => ⟨e37, rfl⟩⟩
    obtain ⟨rfl, rfl⟩ := hJ
    refine ⟨fun x w' => x = 1 ∧ w' = w10, fun x12 w13 hJ => ?_, fun h => absurd h (by decide), fun _ => ⟨rfl, rfl⟩⟩
    obtain ⟨rfl, rfl⟩ := hJ
    rw [th1 (sm_m hM)]
    refine ⟨fun h => absurd h (by decide), fun _ => hK0 _ hr (by rw [vI_u, if_pos ⟨rfl, rfl⟩]) ?_ ?_ (fun c a hc => ?_) (fun k a i hk => ?_)⟩
    · rw [vI_u, if_neg (fun q => absurd q.1 (by decide)), e10, vI_u, if_neg (fun q => absurd q.1 (by decide)), F7.1 1034 m (by decide) (by decide) (by decide) (by decide)]
      exact i34
    · rw [vI_u, if_neg (fun q => absurd q.1 (by decide)), e10, vI_u, if_pos ⟨rfl, rfl⟩]
    · have hc' := hc
      simp only [List.mem_cons, List.not_mem_nil, or_false, not_or] at hc'
      rw [vI_u, if_neg (fun q => hc'.1 q.1), e10, vI_u, if_neg (fun q => hc'.2.2.2.2.2.2.2 q.1), F7.1 c a hc'.2.2.2.2.1 hc'.2.2.2.2.2.2.1 hc'.2.1 hc'.2.2.1]
      exact fI c a hc
    · rw [rA_uI, e10, rA_uI, F7.2 k a i hk]
      exact fA k a i
  · refine ⟨fun x w' => x = -1 ∧ w' = w7, fun x7 w8 hJ w10 e10 => ?_, fun _ => ⟨rfl, rfl⟩, fun h => absurd ?_ h⟩
    · obtain ⟨rfl, rfl⟩ := hJ
      refine ⟨fun x w' => x = 0 ∧ w' = w10, fun x12 w13 hJ => ?_, fun _ => ⟨rfl, rfl⟩, fun h => absurd ?_ h⟩
      · obtain ⟨rfl, rfl⟩ := hJ
        rw [th0 (sm_m hM)]
        refine ⟨fun _ w18 e18 w19 e19 => ?_, fun h => absurd rfl h⟩
        have q30 : vI w13 1030 m = nI R.2.2.2.2.length := by rw [e10, vI_u, if_neg (fun q => absurd q.1 (by decide))]; exact e30
        have q32 : vI w18 1032 m = R.2.2.2.1 := by rw [e18, vI_u, if_neg (fun q => absurd q.1 (by decide)), e10, vI_u, if_neg (fun q => absurd q.1 (by decide))]; exact e32
        rw [q30] at e18
        rw [q32] at e19
        have E2 : w19 = uI (uI (uI w8 1038 m (-1)) 1029 m (nI R.2.2.2.2.length)) 1031 m R.2.2.2.1 := by rw [e19, e18, e10]
        refine cp_m hM hlen (by rw [E2]; simp [vI_u]) (fun w20 g1 g2 g3 => hK1 w20 hr ?_ ?_ ?_ ?_ ?_ hlen (fun i hi => ?_) (fun c a hc => ?_) (fun k a i hk => ?_))
        · rw [g1, E2]
          simp [vI_u]
          rw [F7.1 1000 m (by decide) (by decide) (by decide) (by decide)]
          exact i0
        · rw [g1, E2]
          simp [vI_u]
          rw [F7.1 1034 m (by decide) (by decide) (by decide) (by decide)]
          exact i34
        · rw [g1, E2]
          simp [vI_u]
        · rw [g1, E2]
          simp [vI_u]
        · rw [g1, E2]
          simp [vI_u]
        · have a := hC i hi
          have b : ∀ j, vA w19 2028 (M 1028) j = vA w8 2028 (M 1028) j := fun j => by rw [E2]; rfl
          rw [g3 (5 * i + 0) (by omega), g3 (5 * i + 1) (by omega), g3 (5 * i + 2) (by omega), g3 (5 * i + 3) (by omega), g3 (5 * i + 4) (by omega), b, b, b, b, b]
          exact a
        · have hc' := hc
          simp only [List.mem_cons, List.not_mem_nil, or_false, not_or] at hc'
          have e9 : vI w19 c a = vI w8 c a := by
            rw [E2]
            simp [vI_u, hc']
          rw [g1, e9, F7.1 c a hc'.2.2.2.2.2.2.1 hc'.2.2.2.2.2.2.2.2.1 hc'.2.2.1 hc'.2.2.2.2.1]
          refine fI c a ?_
          simp only [List.mem_cons, List.not_mem_nil, or_false, not_or]
          exact ⟨hc'.1, hc'.2.2.1, hc'.2.2.2.2.1, hc'.2.2.2.2.2.1, hc'.2.2.2.2.2.2.1, hc'.2.2.2.2.2.2.2.1, hc'.2.2.2.2.2.2.2.2.1, hc'.2.2.2.2.2.2.2.2.2⟩
        · simp only [List.mem_cons, List.not_mem_nil, or_false, not_or] at hk
          have e9 : vA w19 k a i = vA w8 k a i := by rw [E2]; rfl
          rw [g2 k a i hk.1, e9, F7.2 k a i hk.2]
          exact fA k a i
      · exact nI_pos' (by have := hcnt hr; omega)
    · exact nI_pos' (by have := hcnt hr; omega)
end LM
