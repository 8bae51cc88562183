/-! PURE PART: the whole text of the rights -/
def nr (q : Pr) (r : Int32) : Int32 := if q.1 = 1 then q.2.1 else r
def nl (q : Pr) (l : List Pv) : List Pv := if q.1 = 2 then l ++ [q.2.2.1] else l
def pL (b : Nat → Int) (y : Nat → Int32) (n : Nat) (sh : Int32) : Nat → Nat → Nat → Int32 → List Pv → Bool × Nat × Nat × Int32 × List Pv
  | 0, i, c, r, l => (false, i, c, r, l)
  | f + 1, i, c, r, l => if (pPt b y sh i).1 = 0 then (false, (pPt b y sh i).2.2.2, c, r, l) else if n ≤ bl b (pPt b y sh i).2.2.2 then (true, bl b (pPt b y sh i).2.2.2, c + 1, nr (pPt b y sh i) r, nl (pPt b y sh i) l) else if b (bl b (pPt b y sh i).2.2.2) = 59 then pL b y n sh f (bl b (pPt b y sh i).2.2.2 + 1) (c + 1) (nr (pPt b y sh i) r) (nl (pPt b y sh i) l) else (false, bl b (pPt b y sh i).2.2.2, c, nr (pPt b y sh i) r, nl (pPt b y sh i) l)
def gP (l : List Pv) (i : Nat) : Pv := l.getD i p0v
theorem gP_app (l : List Pv) (v : Pv) (i : Nat) (hi : i < (l ++ [v]).length) : gP (l ++ [v]) i = if i = l.length then v else gP l i := by
  unfold gP
  by_cases h : i = l.length
  · rw [if_pos h, h]
    simp
  · rw [if_neg h]
    have h2 : i < l.length := by
      rw [List.length_append] at hi
      simp at hi
      omega
    simp [h2, List.getElem?_append_left h2]
def tcP (B : Nat → Nat → Nat → Nat) (w : Vt) (l : List Pv) : Prop := vI w 405 (B 902 0 0) = nI l.length ∧ ∀ i, i < l.length → vA w 1400 (B 400 1 0) i = (gP l i).1 ∧ vA w 1401 (B 401 1 0) i = (gP l i).2.1 ∧ vA w 1402 (B 402 1 0) i = (gP l i).2.2.1 ∧ vA w 1403 (B 403 1 0) i = (gP l i).2.2.2.1 ∧ vA w 1404 (B 404 1 0) i = (gP l i).2.2.2.2
def frK (B : Nat → Nat → Nat → Nat) (w w1 : Vt) : Prop := (∀ c a, ¬ c = 802 → ¬ (c = 405 ∧ a = B 902 0 0) → ¬ (c = 406 ∧ a = B 902 0 0) → vI w1 c a = vI w c a) ∧ ∀ k a i, ¬ (k = 1400 ∧ a = B 400 1 0) → ¬ (k = 1401 ∧ a = B 401 1 0) → ¬ (k = 1402 ∧ a = B 402 1 0) → ¬ (k = 1403 ∧ a = B 403 1 0) → ¬ (k = 1404 ∧ a = B 404 1 0) → vA w1 k a i = vA w k a i
section LC
variable {z : Zt} {x t n : Nat} {B : Nat → Nat → Nat → Nat} {N : Nat → Nat → Nat} {w0 w w1 w2 : Vt} {M : Nat → Nat}
theorem frK.rfl (w : Vt) : frK B w w := ⟨fun _ _ _ _ _ => Eq.refl _, fun _ _ _ _ _ _ _ _ => Eq.refl _⟩
theorem frK.trans (h : frK B w w1) (h2 : frK B w1 w2) : frK B w w2 := ⟨fun c a q1 q3 q4 => (h2.1 c a q1 q3 q4).trans (h.1 c a q1 q3 q4), fun k a i q1 q2 q3 q4 q5 => (h2.2 k a i q1 q2 q3 q4 q5).trans (h.2 k a i q1 q2 q3 q4 q5)⟩
theorem fr2.k (h : fr2 w w1) : frK B w w1 := ⟨fun c a q _ _ => h.1 c a q, fun k a i _ _ _ _ _ => h.2 k a i⟩
theorem frK.u {c0 a0 : Nat} {v : Int32} (h : frK B w w1) (hc : c0 = 802 ∨ (c0 = 405 ∧ a0 = B 902 0 0) ∨ (c0 = 406 ∧ a0 = B 902 0 0)) : frK B w (uI w1 c0 a0 v) := ⟨fun c a q1 q3 q4 => by
  have hq : ¬ (c = c0 ∧ a = a0) := fun r => by
    obtain ⟨r1, r2⟩ := r
    subst r1
    subst r2
    rcases hc with g | g | g
    · exact q1 g
    · exact q3 g
    · exact q4 g
  rw [vI_u, if_neg hq]
  exact h.1 c a q1 q3 q4, h.2⟩
theorem tapC.k (h : tapC B w0 M n w) (hf : frK B w w1) : tapC B w0 M n w1 := ⟨(hf.1 801 _ (by decide) (fun q => absurd q.1 (by decide)) (fun q => absurd q.1 (by decide))).trans h.1, fun i hi => (hf.2 1800 _ i (fun q => absurd q.1 (by decide)) (fun q => absurd q.1 (by decide)) (fun q => absurd q.1 (by decide)) (fun q => absurd q.1 (by decide)) (fun q => absurd q.1 (by decide))).trans (h.2 i hi)⟩
theorem tcP.fr {l : List Pv} (h : tcP B w l) (hf : fr2 w w1) : tcP B w1 l := ⟨(hf.1 405 _ (by decide)).trans h.1, fun i hi => by
  obtain ⟨a1, a2, a3, a4, a5⟩ := h.2 i hi
  exact ⟨(hf.2 _ _ i).trans a1, (hf.2 _ _ i).trans a2, (hf.2 _ _ i).trans a3, (hf.2 _ _ i).trans a4, (hf.2 _ _ i).trans a5⟩⟩
theorem tcP.u {l : List Pv} {c0 a0 : Nat} {v : Int32} (h : tcP B w l) (hc : ¬ c0 = 405) : tcP B (uI w c0 a0 v) l := ⟨by
  have hq : ¬ (405 = c0 ∧ B 902 0 0 = a0) := fun r => hc r.1.symm
  rw [vI_u, if_neg hq]
  exact h.1, h.2⟩
theorem ap_c {K : Vt → Prop} {l : List Pv} {s f u v c : Int32} (hS : SC z x t B N) (h : tcP B w l) (hl : l.length < 15) (hK : ∀ w1 : Vt, tcP B w1 (l ++ [(s, f, u, v, c)]) → frK B w w1 → (∀ c a, ¬ c = 405 → vI w1 c a = vI w c a) → K w1) : wp_X4_addPart z (B 902 0 0) s f u v c w K := by
  have v1 : vp_in (vI w 405 (B 902 0 0)) 15 := by rw [h.1]; exact vp_in_nI hl (by decide)
  unfold wp_X4_addPart
  refine ⟨(sc_902 hS).2, fun _ => ⟨B 400 1 0, (sc_400s hS).1, (sc_400s hS).2, v1, fun w3 e3 => ?_⟩, fun q => absurd ?_ q⟩
  · subst e3
    refine ⟨B 401 1 0, (sc_401s hS).1, (sc_401s hS).2, v1, fun w5 e5 => ?_⟩
    subst e5
    refine ⟨B 402 1 0, (sc_402s hS).1, (sc_402s hS).2, v1, fun w7 e7 => ?_⟩
    subst e7
    refine ⟨B 403 1 0, (sc_403s hS).1, (sc_403s hS).2, v1, fun w9 e9 => ?_⟩
    subst e9
    refine ⟨B 404 1 0, (sc_404s hS).1, (sc_404s hS).2, v1, fun w11 e11 => ?_⟩
    subst e11
    intro w12 e12
    have e13 : w12 = uI (uA (uA (uA (uA (uA w 1400 (B 400 1 0) l.length s) 1401 (B 401 1 0) l.length f) 1402 (B 402 1 0) l.length u) 1403 (B 403 1 0) l.length v) 1404 (B 404 1 0) l.length c) 405 (B 902 0 0) (nI (l.length + 1)) := by
      have e14 : w12 = uI (uA (uA (uA (uA (uA w 1400 (B 400 1 0) (vI w 405 (B 902 0 0)).toNatClampNeg s) 1401 (B 401 1 0) (vI w 405 (B 902 0 0)).toNatClampNeg f) 1402 (B 402 1 0) (vI w 405 (B 902 0 0)).toNatClampNeg u) 1403 (B 403 1 0) (vI w 405 (B 902 0 0)).toNatClampNeg v) 1404 (B 404 1 0) (vI w 405 (B 902 0 0)).toNatClampNeg c) 405 (B 902 0 0) (vI w 405 (B 902 0 0) + 1) := e12
      rw [e14, h.1, nI_clamp (by omega), nI_1]
    clear e12
    subst e13
    refine hK _ ⟨?_, fun i hi => ?_⟩ ⟨fun c' a q1 q3 q4 => ?_, fun k a i q1 q2 q3 q4 q5 => ?_⟩ (fun c' a hc => ?_)
    · rw [vI_u, if_pos ⟨rfl, rfl⟩, List.length_append]
      rfl
    · rw [gP_app _ _ _ hi]
      by_cases hh : i = l.length
      · subst hh
        simp [rA_uI, rA_u]
      · have hi2 : i < l.length := by
          rw [List.length_append] at hi
          simp at hi
          omega
        have g := h.2 i hi2
        simp [rA_uI, rA_u, hh]
        exact g
    · rw [vI_u, if_neg q3]
      rfl
    · rw [rA_uI]
      have g1 : ¬ (k = 1400 ∧ a = B 400 1 0 ∧ i = l.length) := fun r => q1 ⟨r.1, r.2.1⟩
      have g2 : ¬ (k = 1401 ∧ a = B 401 1 0 ∧ i = l.length) := fun r => q2 ⟨r.1, r.2.1⟩
      have g3 : ¬ (k = 1402 ∧ a = B 402 1 0 ∧ i = l.length) := fun r => q3 ⟨r.1, r.2.1⟩
      have g4 : ¬ (k = 1403 ∧ a = B 403 1 0 ∧ i = l.length) := fun r => q4 ⟨r.1, r.2.1⟩
      have g5 : ¬ (k = 1404 ∧ a = B 404 1 0 ∧ i = l.length) := fun r => q5 ⟨r.1, r.2.1⟩
      rw [rA_u, if_neg g5, rA_u, if_neg g4, rA_u, if_neg g3, rA_u, if_neg g2, rA_u, if_neg g1]
    · have hq : ¬ (c' = 405 ∧ a = B 902 0 0) := fun r => hc r.1
      rw [vI_u, if_neg hq]
      rfl
  · rw [h.1]
    exact nI_lt hl (by decide)
theorem lp_c {K : Int32 → Vt → Prop} {sh : Int32} {R : Bool × Nat × Nat × Int32 × List Pv} (hS : SC z x t B N) (hn : n ≤ 400) (hK0 : ∀ w2 : Vt, R.1 = false → vI w2 802 (B 900 0 0) = nI R.2.1 → R.2.1 ≤ n → frK B w w2 → K (-1) w2) (hK1 : ∀ w2 : Vt, R.1 = true → R.2.2.1 ≤ 400 → vI w2 406 (B 902 0 0) = R.2.2.2.1 → tcP B w2 R.2.2.2.2 → R.2.2.2.2.length ≤ 14 → frK B w w2 → K (nI R.2.2.1) w2) : ∀ (f i c : Nat) (r : Int32) (l : List Pv) (w1 : Vt), R = pL (btI w0 M n) (byI w0 M) n sh f i c r l → n + 1 ≤ i + f → i ≤ n → 28 * l.length ≤ i → 2 * c ≤ i → tapC B w0 M n w1 → vI w1 802 (B 900 0 0) = nI i → tcP B w1 l → vI w1 406 (B 902 0 0) = r → frK B w w1 → wL_X8_partsRead_11 z (B 900 0 0) (B 902 0 0) K (fun x17 x18 w19 => K (-1) w19) f (nI (c + 1)) sh w1 := by
  intro f
  induction f with
  | zero =>
    intro i c r l w1 hR hf hi
    exact absurd hf (by omega)
  | succ f ih =>
    intro i c r l w1 hR hf hi hl hc hT e hC e6 hF
    rw [pL] at hR
    obtain ⟨u1, u2⟩ := pPt_le (w0 := w0) (M := M) (sh := sh) (y := byI w0 M) hn hi
    generalize hq : pPt (btI w0 M n) (byI w0 M) sh i = q at *
    have tail : ∀ (w3 : Vt), ¬ q.1 = 0 → 28 * (nl q l).length ≤ q.2.2.2 + 1 → 2 * (c + 1) ≤ q.2.2.2 + 1 → i ≤ q.2.2.2 → tapC B w0 M n w3 → vI w3 802 (B 900 0 0) = nI q.2.2.2 → tcP B w3 (nl q l) → vI w3 406 (B 902 0 0) = nr q r → frK B w w3 → wp_X8_skipBlanks z (B 900 0 0) w3 (fun w9 => ((vI w9 802 (B 900 0 0)) < (vI w9 801 (B 900 0 0)) → wp_X8_byteAt z (B 900 0 0) (vI w9 802 (B 900 0 0)) w9 (fun r13 w12 => (r13 = 59 → ∀ w15 : Vt, w15 = uI w12 802 (B 900 0 0) ((vI w12 802 (B 900 0 0)) + 1) → ∀ x15 : Int32, x15 = nI (c + 1) + 1 → wL_X8_partsRead_11 z (B 900 0 0) (B 902 0 0) K (fun x17 x18 w19 => K (-1) w19) f x15 sh w15) ∧ (¬ r13 = 59 → K (-1) w12))) ∧ (¬ (vI w9 802 (B 900 0 0)) < (vI w9 801 (B 900 0 0)) → K (nI (c + 1)) w9)) := by
      intro w3 hq0 hl3 hc3 hij hT3 e23 hC3 e63 hF3
      rw [if_neg hq0] at hR
      obtain ⟨b1, b2⟩ := bl_le (w0 := w0) (M := M) hn u1
      refine skp_c hS hT3 hn u1 e23 (fun w9 e9 F9 => ?_)
      have hT9 := hT3.fr F9
      have hF9 := hF3.trans (fr2.k F9)
      have hC9 := hC3.fr F9
      have e96 : vI w9 406 (B 902 0 0) = nr q r := (F9.1 406 _ (by decide)).trans e63
      generalize hJ : bl (btI w0 M n) q.2.2.2 = J at *
      rw [e9, hT9.1]
      refine ⟨fun h => ?_, fun h => ?_⟩
      · have hJn : J < n := (nI_ltI (by omega) (by omega)).mp h
        rw [if_neg (by omega : ¬ n ≤ J)] at hR
        refine by_c hS hT9 hn (by omega) (fun v hv => ⟨fun h2 w15 e15 x15 ex15 => ?_, fun h2 => ?_⟩)
        · have hb : btI w0 M n J = 59 := by rw [← hv, h2]; rfl
          rw [if_pos hb] at hR
          have e17 : w15 = uI w9 802 (B 900 0 0) (nI (J + 1)) := by rw [e15, e9, nI_1]
          have hF17 : frK B w9 w15 := by rw [e17]; exact (frK.rfl w9).u (Or.inl rfl)
          rw [ex15, nI_1]
          refine ih (J + 1) (c + 1) (nr q r) (nl q l) w15 hR (by omega) (by omega) (by omega) (by omega) (hT9.k hF17) ?_ ?_ ?_ (hF9.trans hF17)
          · rw [e17, vI_u, if_pos ⟨rfl, rfl⟩]
          · rw [e17]
            exact hC9.u (by decide)
          · rw [e17, vI_u, if_neg (fun q => absurd q.1 (by decide))]
            exact e96
        · have hb : ¬ btI w0 M n J = 59 := fun q => h2 (by
            rw [← Int32.toInt_inj, hv, q]
            rfl)
          rw [if_neg hb] at hR
          exact hK0 w9 (by rw [hR]) (by rw [hR]; exact e9) (by rw [hR]; exact b1) hF9
      · have hJn : n ≤ J := by
          rcases Nat.lt_or_ge J n with g | g
          · exact absurd (nI_lt g (by omega)) h
          · exact g
        rw [if_pos hJn] at hR
        have g := hK1 w9 (by rw [hR]) (by rw [hR]; show c + 1 ≤ 400; omega) (by rw [hR]; exact e96) (by rw [hR]; exact hC9) (by rw [hR]; show (nl q l).length ≤ 14; omega) hF9
        rw [hR] at g
        exact g
    rw [wL_X8_partsRead_11]
    refine ⟨fun h => absurd h ?_, fun _ => rp_c hS (sc_902 hS).2 hT hn hi e hq.symm (fun w2 j h e2 F2 => ⟨fun q => absurd rfl q, fun _ => ?_⟩) (fun w2 v j h e2 F2 => ⟨fun _ => ?_, fun q => absurd q (by decide)⟩) (fun w2 s f' u v c' j h e2 F2 => ?_)⟩
    · exact nI_nlt (a := 400) (by omega) (by decide)
    · rw [if_pos (by rw [h]; rfl)] at hR
      have hj : q.2.2.2 = j := by rw [h]; rfl
      exact hK0 w2 (by rw [hR]) (by rw [hR, hj]; exact e2) (by rw [hR]; exact u1) (hF.trans (fr2.k F2))
    · have hj : q.2.2.2 = j := by rw [h]
      have hq1 : q.1 = 1 := by rw [h]
      have hnl : nl q l = l := by unfold nl; rw [if_neg (by rw [hq1]; decide)]
      have hnr : nr q r = v := by unfold nr; rw [if_pos hq1, h]
      have hp : i + 5 ≤ q.2.2.2 := by
        rcases u2 with g | g | g
        · omega
        · exact g.2
        · omega
      have hF3 : frK B w2 (uI w2 406 (B 902 0 0) v) := (frK.rfl w2).u (Or.inr (Or.inr ⟨rfl, rfl⟩))
      refine tail _ (by rw [hq1]; decide) (by rw [hnl]; omega) (by omega) (by omega) ((hT.fr F2).k hF3) ?_ ?_ ?_ ((hF.trans (fr2.k F2)).trans hF3)
      · rw [vI_u, if_neg (fun q => absurd q.1 (by decide)), hj]
        exact e2
      · rw [hnl]
        exact (hC.fr F2).u (by decide)
      · rw [vI_u, if_pos ⟨rfl, rfl⟩, hnr]
    · have hj : q.2.2.2 = j := by rw [h]
      have hq1 : q.1 = 2 := by rw [h]
      have hnl : nl q l = l ++ [(s, f', u, v, c')] := by unfold nl; rw [if_pos hq1, h]
      have hnr : nr q r = r := by unfold nr; rw [if_neg (by rw [hq1]; decide)]
      have hp : i + 27 ≤ q.2.2.2 := by
        rcases u2 with g | g | g
        · omega
        · omega
        · exact g.2
      have hlen : (l ++ [(s, f', u, v, c')]).length = l.length + 1 := by simp
      refine ap_c hS (hC.fr F2) (by omega) (fun w3 hC3 hF3 hI3 => ⟨fun _ => ?_, fun q => absurd q (by decide)⟩)
      refine tail w3 (by rw [hq1]; decide) (by rw [hnl, hlen]; omega) (by omega) (by omega) ((hT.fr F2).k hF3) ?_ ?_ ?_ ((hF.trans (fr2.k F2)).trans hF3)
      · rw [hI3 802 _ (by decide), hj]
        exact e2
      · rw [hnl]
        exact hC3
      · rw [hI3 406 _ (by decide), F2.1 406 _ (by decide), hnr]
        exact e6
end LC
