/-! PURE PART: one part of the text, as the reference reads it -/
def frM (p : Nat) (M : Nat → Nat) (w w1 : Vt) : Prop := (∀ c a, ¬ c = 1035 → ¬ c = 1037 → vI w1 c a = vI w c a) ∧ ∀ k a i, ¬ (k = 2028 ∧ a = M 1028 ∧ 5 * p ≤ i) → vA w1 k a i = vA w k a i
theorem fr5.m {p : Nat} {M : Nat → Nat} {w w1 : Vt} (h : fr5 w w1) : frM p M w w1 := ⟨h.1, fun k a i _ => h.2 k a i⟩
theorem frM.t {p : Nat} {M : Nat → Nat} {w w1 w2 : Vt} (h : frM p M w w1) (h2 : fr5 w1 w2) : frM p M w w2 := ⟨fun c a q r => (h2.1 c a q r).trans (h.1 c a q r), fun k a i q => (h2.2 k a i).trans (h.2 k a i q)⟩
theorem frM.put {p k : Nat} {M : Nat → Nat} {w w1 : Vt} {v : Int32} (h : frM p M w w1) : frM p M w (uA w1 2028 (M 1028) (5 * p + k) v) := ⟨h.1, fun k' a i q => by
  have hq : ¬ (k' = 2028 ∧ a = M 1028 ∧ i = 5 * p + k) := fun r => q ⟨r.1, r.2.1, by omega⟩
  rw [rA_u, if_neg hq]
  exact h.2 k' a i q⟩
theorem tapM.frm {p : Nat} {w0 : Vt} {M : Nat → Nat} {m n : Nat} {w w1 : Vt} (h : tapM w0 M m n w) (hf : frM p M w w1) : tapM w0 M m n w1 := ⟨(hf.1 1036 _ (by decide) (by decide)).trans h.1, fun i => (hf.2 2033 _ i (fun q => absurd q.1 (by decide))).trans (h.2 i)⟩
def spP (p : Nat) (M : Nat → Nat) (w1 : Vt) (l : List Int32) : Prop := ∀ k, k < l.length → vA w1 2028 (M 1028) (5 * p + k) = l.getD k 0
theorem spP.fr {p : Nat} {M : Nat → Nat} {w1 w2 : Vt} {l : List Int32} (h : spP p M w1 l) (hf : fr5 w1 w2) : spP p M w2 l := fun k hk => (hf.2 _ _ _).trans (h k hk)
theorem spP.put {p : Nat} {M : Nat → Nat} {w1 : Vt} {l : List Int32} {v : Int32} (h : spP p M w1 l) (q : Nat) (hq : q = l.length) : spP p M (uA w1 2028 (M 1028) (5 * p + q) v) (l ++ [v]) := by
  intro k hk
  subst hq
  rw [rA_u]
  by_cases e : k = l.length
  · rw [if_pos ⟨rfl, rfl, by omega⟩, e]
    simp
  · have hk2 : k < l.length := by
      rw [List.length_append] at hk
      simp at hk
      omega
    have hn : ¬ ((2028 : Nat) = 2028 ∧ M 1028 = M 1028 ∧ 5 * p + k = 5 * p + l.length) := fun r => by omega
    rw [if_neg hn, h k hk2]
    simp [hk2, List.getElem?_append_left hk2]
def rdP (b : Nat → Int) (y : Nat → Int32) (p : Nat) (lo hi : Int32) (i : Nat) : Int32 × Nat := if (tw b p i).1 = true then tn b y lo hi (tw b p i).2 else (-1, (tw b p i).2)
theorem rdP_eq (b : Nat → Int) (y : Nat → Int32) (p : Nat) (lo hi : Int32) (i : Nat) (f : Int32 → Nat → Pr) : pN (rdP b y p lo hi i) f = pW (tw b p i) (fun i => pN (tn b y lo hi i) f) := by
  unfold rdP
  by_cases h : (tw b p i).1 = true
  · rw [if_pos h, pW_t h]
  · rw [if_neg h, pW_f h, pN_f rfl]
def pRm (b : Nat → Int) (y : Nat → Int32) (sh : Int32) (i : Nat) : Pr := pN (tn b y 0 (sh - 1) i) (fun s i => pN (rdP b y 2 0 7 i) (fun f i => pN (rdP b y 3 0 99 i) (fun u i => pN (rdP b y 4 u 99 i) (fun v i => pN (rdP b y 5 0 100 i) (fun c i => (2, 0, (s, f, u, v, c), i))))))
theorem pRm_eq (b : Nat → Int) (y : Nat → Int32) (sh : Int32) (i : Nat) : pRt b y sh i = pRm b y sh i := by
  simp only [pRm, pRt, rdP_eq]
section MP
variable {z : Zt} {m n : Nat} {w0 w : Vt} {M : Nat → Nat}
theorem tw1 (p i : Nat) : (tw (btI w0 M n) p i).1 = mw (btI w0 M n) (bl (btI w0 M n) i) p := by
  unfold tw
  by_cases h : mw (btI w0 M n) (bl (btI w0 M n) i) p = true
  · rw [if_pos h, h]
  · rw [if_neg h]
    cases hh : mw (btI w0 M n) (bl (btI w0 M n) i) p with
    | false => rfl
    | true => exact absurd hh h
theorem tw2 {p i : Nat} (hn : n ≤ 400) (hi : i ≤ n) (hp : p < 6) (h : (tw (btI w0 M n) p i).1 = true) : (tw (btI w0 M n) p i).2 = rn (isLe (btI w0 M n)) 401 (bl (btI w0 M n) i) := by
  rw [tw1] at h
  rw [((mw_iff hn (bl_le hn hi).1 hp).mp h).1]
  unfold tw
  rw [if_pos h]
theorem rd_le {p i : Nat} {lo hi : Int32} {y : Nat → Int32} (hn : n ≤ 400) (hi0 : i ≤ n) (hp : p < 6) (hlo : 0 ≤ lo.toInt) : (rdP (btI w0 M n) y p lo hi i).2 ≤ n ∧ (¬ (rdP (btI w0 M n) y p lo hi i).1 = -1 → lo.toInt ≤ (rdP (btI w0 M n) y p lo hi i).1.toInt) := by
  obtain ⟨a1, a2, a3⟩ := tw_le (w0 := w0) (M := M) hn hi0 hp
  unfold rdP
  by_cases h : (tw (btI w0 M n) p i).1 = true
  · rw [if_pos h]
    obtain ⟨c1, c2, c3, c4⟩ := tn_le (w0 := w0) (M := M) (lo := lo) (hi := hi) (y := y) hn a1 hlo
    exact ⟨c1, fun q => (c4 q).2⟩
  · rw [if_neg h]
    exact ⟨a1, fun q => absurd rfl q⟩
theorem rd_m {K : Int32 → Vt → Prop} {i p : Nat} {lo hi : Int32} (hM : SM z m M) (hT : tapM w0 M m n w) (hn : n ≤ 400) (hi0 : i ≤ n) (hp : p < 6) (e : vI w 1035 m = nI i) (hB : byB w0 M) (hlo : 0 ≤ lo.toInt) (hK : ∀ w1 : Vt, ((rdP (btI w0 M n) (byI w0 M) p lo hi i).1 = -1 → vI w1 1037 m = nI (rdP (btI w0 M n) (byI w0 M) p lo hi i).2) → (¬ (rdP (btI w0 M n) (byI w0 M) p lo hi i).1 = -1 → vI w1 1035 m = nI (rdP (btI w0 M n) (byI w0 M) p lo hi i).2) → fr5 w w1 → K (rdP (btI w0 M n) (byI w0 M) p lo hi i).1 w1) : wp_X10_reads z m p lo hi w K := by
  unfold wp_X10_reads
  have b1 := (bl_le (w0 := w0) (M := M) hn hi0).1
  refine ⟨sm_m hM, hp, wo_m hM hT hn hi0 e hB (fun w1 e1 e2 F1 => iw_m hM (hT.fr F1) hn b1 hp e1 e2 hB ⟨fun h => ?_, fun h => ?_⟩)⟩
  · have h := fl0 h
    rw [← tw1] at h
    have hr : rdP (btI w0 M n) (byI w0 M) p lo hi i = (-1, bl (btI w0 M n) i) := by unfold rdP; rw [if_neg h, tw_f h]
    have := hK w1 (fun _ => by rw [hr]; exact e2) (fun q => absurd (by rw [hr]) q) F1
    rw [hr] at this
    exact this
  · have h := fl1 h
    rw [← tw1] at h
    have hr : rdP (btI w0 M n) (byI w0 M) p lo hi i = tn (btI w0 M n) (byI w0 M) lo hi (tw (btI w0 M n) p i).2 := by unfold rdP; rw [if_pos h]
    rw [hr] at hK
    rw [← tw2 hn hi0 hp h] at e1
    have c1 := (tw_le (w0 := w0) (M := M) hn hi0 hp).1
    refine nu_m hM (hT.fr F1) hn c1 e1 hB (fun w2 q1 q2 F2 => hK w2 (fun q => ?_) q2 (F1.trans F2))
    rw [(tn_le (w0 := w0) (M := M) (hi := hi) (y := byI w0 M) hn c1 hlo).2.2.1 q]
    exact q1
theorem rp_m {K : Int32 → Vt → Prop} {i p : Nat} {sh : Int32} {R : Pr} (hM : SM z m M) (hT : tapM w0 M m n w) (hn : n ≤ 400) (hi0 : i ≤ n) (e : vI w 1035 m = nI i) (hB : byB w0 M) (hp : p ≤ 14) (e30 : vI w 1030 m = nI p) (esh : vI w 1014 m = sh) (hR : R = pPt (btI w0 M n) (byI w0 M) sh i)
    (hF : ∀ (w1 w2 : Vt) (j : Nat), R = pF j → vI w2 1037 m = nI j → frM p M w w1 → (w2 = w1 ∨ ∃ v, w2 = uI w1 1032 m v) → K 0 w2)
    (hH : ∀ (w1 : Vt) (v : Int32) (j : Nat), R = (1, v, p0v, j) → vI w1 1035 m = nI j → fr5 w w1 → K 1 (uI w1 1032 m v))
    (hG : ∀ (w1 : Vt) (s f u v c : Int32) (j : Nat), R = (2, 0, (s, f, u, v, c), j) → vI w1 1035 m = nI j → frM p M w w1 → spP p M w1 [s, f, u, v, c] → K 1 (uI w1 1030 m (nI (p + 1)))) : wp_X10_readPart z m w K := by
  unfold wp_X10_readPart
  unfold pPt at hR
  have b1 := (bl_le (w0 := w0) (M := M) hn hi0).1
  refine ⟨sm_m hM, wo_m hM hT hn hi0 e hB (fun w1 e1 e2 F1 => iw_m hM (hT.fr F1) hn b1 (by decide) e1 e2 hB ⟨fun h => ?_, fun h => ?_⟩)⟩
  · have h := fl0 h
    rw [← tw1] at h
    rw [if_neg h] at hR
    refine iw_m hM (hT.fr F1) hn b1 (by decide) e1 e2 hB ⟨fun h2 => ?_, fun h2 => ?_⟩
    · have h2 := fl1 h2
      rw [← tw1] at h2
      rw [pW_t h2] at hR
      have hR : R = pRt (btI w0 M n) (byI w0 M) sh (tw (btI w0 M n) 1 i).2 := hR
      rw [pRm_eq] at hR
      unfold pRm at hR
      rw [← tw2 hn hi0 (by decide) h2] at e1
      have b1 := (tw_le (w0 := w0) (M := M) hn hi0 (show 1 < 6 by decide)).1
      intro x9 ex9
      have ex : x9 = nI (5 * p) := by
        rw [ex9, F1.1 1030 m (by decide) (by decide), e30]
        exact nI_mul 5 p
      subst ex
      have hx1 : nI (5 * p) + 1 = nI (5 * p + 1) := nI_add (5 * p) 1
      have hx2 : nI (5 * p) + 2 = nI (5 * p + 2) := nI_add (5 * p) 2
      have hx3 : nI (5 * p) + 3 = nI (5 * p + 3) := nI_add (5 * p) 3
      have hx4 : nI (5 * p) + 4 = nI (5 * p + 4) := nI_add (5 * p) 4
      have hc0 : (nI (5 * p)).toNatClampNeg = 5 * p + 0 := nI_clamp (by omega)
      have hc1 : (nI (5 * p + 1)).toNatClampNeg = 5 * p + 1 := nI_clamp (by omega)
      have hc2 : (nI (5 * p + 2)).toNatClampNeg = 5 * p + 2 := nI_clamp (by omega)
      have hc3 : (nI (5 * p + 3)).toNatClampNeg = 5 * p + 3 := nI_clamp (by omega)
      have hc4 : (nI (5 * p + 4)).toNatClampNeg = 5 * p + 4 := nI_clamp (by omega)
      have v0 : vp_in (nI (5 * p)) 300 := vp_in_nI (by omega) (by decide)
      have v1 : vp_in (nI (5 * p + 1)) 300 := vp_in_nI (by omega) (by decide)
      have v2 : vp_in (nI (5 * p + 2)) 300 := vp_in_nI (by omega) (by decide)
      have v3 : vp_in (nI (5 * p + 3)) 300 := vp_in_nI (by omega) (by decide)
      have v4 : vp_in (nI (5 * p + 4)) 300 := vp_in_nI (by omega) (by decide)
      refine ⟨M 1028, (sm_1028 hM).1, (sm_1028 hM).2, ?_⟩
      rw [show vI w1 1014 m = sh from (F1.1 1014 m (by decide) (by decide)).trans esh]
      have T1 := hT.fr F1
      refine nu_m hM T1 hn b1 e1 hB (fun a0 p0 q0 G0 => ?_)
      obtain ⟨b_0, -, u_0, r_0⟩ := tn_le (w0 := w0) (M := M) (lo := 0) (hi := (sh - 1)) (y := byI w0 M) hn b1 (by decide)
      have p0 : (tn (btI w0 M n) (byI w0 M) 0 (sh - 1) (tw (btI w0 M n) 1 i).2).1 = -1 → vI a0 1037 m = nI (tn (btI w0 M n) (byI w0 M) 0 (sh - 1) (tw (btI w0 M n) 1 i).2).2 := fun q => by rw [u_0 q]; exact p0
      have g0 := ge0_iff (lo := 0) (by decide) (fun q => (r_0 q).2)
      refine ⟨v0, fun d0 ed0 => ⟨v0, ?_⟩⟩
      rw [hc0] at ed0 ⊢
      have val0 : vA d0 2028 (M 1028) (5 * p + 0) = (tn (btI w0 M n) (byI w0 M) 0 (sh - 1) (tw (btI w0 M n) 1 i).2).1 := by rw [ed0, rA_u, if_pos ⟨rfl, rfl, rfl⟩]
      have F_0 : frM p M w d0 := by rw [ed0]; exact ((fr5.m F1).t G0).put
      have S_0 : spP p M d0 [(tn (btI w0 M n) (byI w0 M) 0 (sh - 1) (tw (btI w0 M n) 1 i).2).1] := by rw [ed0]; exact spP.put (l := []) (fun k hk => absurd hk (Nat.not_lt_zero _)) 0 rfl
      have T_0 := hT.frm F_0
      rw [val0]
      have y0 : ¬ 0 ≤ (tn (btI w0 M n) (byI w0 M) 0 (sh - 1) (tw (btI w0 M n) 1 i).2).1 → (tn (btI w0 M n) (byI w0 M) 0 (sh - 1) (tw (btI w0 M n) 1 i).2).1 = -1 := fun h => Classical.byContradiction (fun q => h (g0.1 q))
      refine ⟨fun z0 => ?_, fun z0 => hF d0 d0 _ (by rw [hR, pN_f (y0 z0)]) (by rw [ed0]; exact p0 (y0 z0)) F_0 (Or.inl rfl)⟩
      have z0 : ¬ (tn (btI w0 M n) (byI w0 M) 0 (sh - 1) (tw (btI w0 M n) 1 i).2).1 = -1 := fun q => g0.2 q z0
      rw [pN_t z0] at hR
      have e_0 : vI d0 1035 m = nI (tn (btI w0 M n) (byI w0 M) 0 (sh - 1) (tw (btI w0 M n) 1 i).2).2 := by rw [ed0]; exact q0 z0
      simp only [hx1]
      refine rd_m hM T_0 hn b_0 (by decide) e_0 hB (by decide) (fun a1 p1 q1 G1 => ?_)
      obtain ⟨b_1, r_1⟩ := rd_le (w0 := w0) (M := M) (lo := 0) (hi := 7) (y := byI w0 M) hn b_0 (show 2 < 6 by decide) (by decide)
      have g1 := ge0_iff (lo := 0) (by decide) r_1
      refine ⟨v1, fun d1 ed1 => ⟨v1, ?_⟩⟩
      rw [hc1] at ed1 ⊢
      have val1 : vA d1 2028 (M 1028) (5 * p + 1) = (rdP (btI w0 M n) (byI w0 M) 2 0 7 (tn (btI w0 M n) (byI w0 M) 0 (sh - 1) (tw (btI w0 M n) 1 i).2).2).1 := by rw [ed1, rA_u, if_pos ⟨rfl, rfl, rfl⟩]
      have F_1 : frM p M w d1 := by rw [ed1]; exact (F_0.t G1).put
      have S_1 := (S_0.fr G1).put (v := (rdP (btI w0 M n) (byI w0 M) 2 0 7 (tn (btI w0 M n) (byI w0 M) 0 (sh - 1) (tw (btI w0 M n) 1 i).2).2).1) 1 rfl
      rw [← ed1] at S_1
      have T_1 := hT.frm F_1
      rw [val1]
      have y1 : ¬ 0 ≤ (rdP (btI w0 M n) (byI w0 M) 2 0 7 (tn (btI w0 M n) (byI w0 M) 0 (sh - 1) (tw (btI w0 M n) 1 i).2).2).1 → (rdP (btI w0 M n) (byI w0 M) 2 0 7 (tn (btI w0 M n) (byI w0 M) 0 (sh - 1) (tw (btI w0 M n) 1 i).2).2).1 = -1 := fun h => Classical.byContradiction (fun q => h (g1.1 q))
      refine ⟨fun z1 => ?_, fun z1 => hF d1 d1 _ (by rw [hR, pN_f (y1 z1)]) (by rw [ed1]; exact p1 (y1 z1)) F_1 (Or.inl rfl)⟩
      have z1 : ¬ (rdP (btI w0 M n) (byI w0 M) 2 0 7 (tn (btI w0 M n) (byI w0 M) 0 (sh - 1) (tw (btI w0 M n) 1 i).2).2).1 = -1 := fun q => g1.2 q z1
      rw [pN_t z1] at hR
      have e_1 : vI d1 1035 m = nI (rdP (btI w0 M n) (byI w0 M) 2 0 7 (tn (btI w0 M n) (byI w0 M) 0 (sh - 1) (tw (btI w0 M n) 1 i).2).2).2 := by rw [ed1]; exact q1 z1
      simp only [hx2]
      refine rd_m hM T_1 hn b_1 (by decide) e_1 hB (by decide) (fun a2 p2 q2 G2 => ?_)
      obtain ⟨b_2, r_2⟩ := rd_le (w0 := w0) (M := M) (lo := 0) (hi := 99) (y := byI w0 M) hn b_1 (show 3 < 6 by decide) (by decide)
      have g2 := ge0_iff (lo := 0) (by decide) r_2
      refine ⟨v2, fun d2 ed2 => ⟨v2, ?_⟩⟩
      rw [hc2] at ed2 ⊢
      have val2 : vA d2 2028 (M 1028) (5 * p + 2) = (rdP (btI w0 M n) (byI w0 M) 3 0 99 (rdP (btI w0 M n) (byI w0 M) 2 0 7 (tn (btI w0 M n) (byI w0 M) 0 (sh - 1) (tw (btI w0 M n) 1 i).2).2).2).1 := by rw [ed2, rA_u, if_pos ⟨rfl, rfl, rfl⟩]
      have F_2 : frM p M w d2 := by rw [ed2]; exact (F_1.t G2).put
      have S_2 := (S_1.fr G2).put (v := (rdP (btI w0 M n) (byI w0 M) 3 0 99 (rdP (btI w0 M n) (byI w0 M) 2 0 7 (tn (btI w0 M n) (byI w0 M) 0 (sh - 1) (tw (btI w0 M n) 1 i).2).2).2).1) 2 rfl
      rw [← ed2] at S_2
      have T_2 := hT.frm F_2
      rw [val2]
      have y2 : ¬ 0 ≤ (rdP (btI w0 M n) (byI w0 M) 3 0 99 (rdP (btI w0 M n) (byI w0 M) 2 0 7 (tn (btI w0 M n) (byI w0 M) 0 (sh - 1) (tw (btI w0 M n) 1 i).2).2).2).1 → (rdP (btI w0 M n) (byI w0 M) 3 0 99 (rdP (btI w0 M n) (byI w0 M) 2 0 7 (tn (btI w0 M n) (byI w0 M) 0 (sh - 1) (tw (btI w0 M n) 1 i).2).2).2).1 = -1 := fun h => Classical.byContradiction (fun q => h (g2.1 q))
      refine ⟨fun z2 => ?_, fun z2 => hF d2 d2 _ (by rw [hR, pN_f (y2 z2)]) (by rw [ed2]; exact p2 (y2 z2)) F_2 (Or.inl rfl)⟩
      have z2 : ¬ (rdP (btI w0 M n) (byI w0 M) 3 0 99 (rdP (btI w0 M n) (byI w0 M) 2 0 7 (tn (btI w0 M n) (byI w0 M) 0 (sh - 1) (tw (btI w0 M n) 1 i).2).2).2).1 = -1 := fun q => g2.2 q z2
      rw [pN_t z2] at hR
      have hU : 0 ≤ (rdP (btI w0 M n) (byI w0 M) 3 0 99 (rdP (btI w0 M n) (byI w0 M) 2 0 7 (tn (btI w0 M n) (byI w0 M) 0 (sh - 1) (tw (btI w0 M n) 1 i).2).2).2).1.toInt := r_2 z2
      have e_2 : vI d2 1035 m = nI (rdP (btI w0 M n) (byI w0 M) 3 0 99 (rdP (btI w0 M n) (byI w0 M) 2 0 7 (tn (btI w0 M n) (byI w0 M) 0 (sh - 1) (tw (btI w0 M n) 1 i).2).2).2).2 := by rw [ed2]; exact q2 z2
      simp only [hx3]
      refine ⟨v2, ?_⟩
      refine rd_m hM T_2 hn b_2 (by decide) e_2 hB hU (fun a3 p3 q3 G3 => ?_)
      obtain ⟨b_3, r_3⟩ := rd_le (w0 := w0) (M := M) (lo := (rdP (btI w0 M n) (byI w0 M) 3 0 99 (rdP (btI w0 M n) (byI w0 M) 2 0 7 (tn (btI w0 M n) (byI w0 M) 0 (sh - 1) (tw (btI w0 M n) 1 i).2).2).2).1) (hi := 99) (y := byI w0 M) hn b_2 (show 4 < 6 by decide) hU
      have g3 := ge0_iff (lo := (rdP (btI w0 M n) (byI w0 M) 3 0 99 (rdP (btI w0 M n) (byI w0 M) 2 0 7 (tn (btI w0 M n) (byI w0 M) 0 (sh - 1) (tw (btI w0 M n) 1 i).2).2).2).1) hU r_3
      refine ⟨v3, fun d3 ed3 => ⟨v3, ?_⟩⟩
      rw [hc3] at ed3 ⊢
      have val3 : vA d3 2028 (M 1028) (5 * p + 3) = (rdP (btI w0 M n) (byI w0 M) 4 (rdP (btI w0 M n) (byI w0 M) 3 0 99 (rdP (btI w0 M n) (byI w0 M) 2 0 7 (tn (btI w0 M n) (byI w0 M) 0 (sh - 1) (tw (btI w0 M n) 1 i).2).2).2).1 99 (rdP (btI w0 M n) (byI w0 M) 3 0 99 (rdP (btI w0 M n) (byI w0 M) 2 0 7 (tn (btI w0 M n) (byI w0 M) 0 (sh - 1) (tw (btI w0 M n) 1 i).2).2).2).2).1 := by rw [ed3, rA_u, if_pos ⟨rfl, rfl, rfl⟩]
      have F_3 : frM p M w d3 := by rw [ed3]; exact (F_2.t G3).put
      have S_3 := (S_2.fr G3).put (v := (rdP (btI w0 M n) (byI w0 M) 4 (rdP (btI w0 M n) (byI w0 M) 3 0 99 (rdP (btI w0 M n) (byI w0 M) 2 0 7 (tn (btI w0 M n) (byI w0 M) 0 (sh - 1) (tw (btI w0 M n) 1 i).2).2).2).1 99 (rdP (btI w0 M n) (byI w0 M) 3 0 99 (rdP (btI w0 M n) (byI w0 M) 2 0 7 (tn (btI w0 M n) (byI w0 M) 0 (sh - 1) (tw (btI w0 M n) 1 i).2).2).2).2).1) 3 rfl
      rw [← ed3] at S_3
      have T_3 := hT.frm F_3
      rw [val3]
      have y3 : ¬ 0 ≤ (rdP (btI w0 M n) (byI w0 M) 4 (rdP (btI w0 M n) (byI w0 M) 3 0 99 (rdP (btI w0 M n) (byI w0 M) 2 0 7 (tn (btI w0 M n) (byI w0 M) 0 (sh - 1) (tw (btI w0 M n) 1 i).2).2).2).1 99 (rdP (btI w0 M n) (byI w0 M) 3 0 99 (rdP (btI w0 M n) (byI w0 M) 2 0 7 (tn (btI w0 M n) (byI w0 M) 0 (sh - 1) (tw (btI w0 M n) 1 i).2).2).2).2).1 → (rdP (btI w0 M n) (byI w0 M) 4 (rdP (btI w0 M n) (byI w0 M) 3 0 99 (rdP (btI w0 M n) (byI w0 M) 2 0 7 (tn (btI w0 M n) (byI w0 M) 0 (sh - 1) (tw (btI w0 M n) 1 i).2).2).2).1 99 (rdP (btI w0 M n) (byI w0 M) 3 0 99 (rdP (btI w0 M n) (byI w0 M) 2 0 7 (tn (btI w0 M n) (byI w0 M) 0 (sh - 1) (tw (btI w0 M n) 1 i).2).2).2).2).1 = -1 := fun h => Classical.byContradiction (fun q => h (g3.1 q))
      refine ⟨fun z3 => ?_, fun z3 => hF d3 d3 _ (by rw [hR, pN_f (y3 z3)]) (by rw [ed3]; exact p3 (y3 z3)) F_3 (Or.inl rfl)⟩
      have z3 : ¬ (rdP (btI w0 M n) (byI w0 M) 4 (rdP (btI w0 M n) (byI w0 M) 3 0 99 (rdP (btI w0 M n) (byI w0 M) 2 0 7 (tn (btI w0 M n) (byI w0 M) 0 (sh - 1) (tw (btI w0 M n) 1 i).2).2).2).1 99 (rdP (btI w0 M n) (byI w0 M) 3 0 99 (rdP (btI w0 M n) (byI w0 M) 2 0 7 (tn (btI w0 M n) (byI w0 M) 0 (sh - 1) (tw (btI w0 M n) 1 i).2).2).2).2).1 = -1 := fun q => g3.2 q z3
      rw [pN_t z3] at hR
      have e_3 : vI d3 1035 m = nI (rdP (btI w0 M n) (byI w0 M) 4 (rdP (btI w0 M n) (byI w0 M) 3 0 99 (rdP (btI w0 M n) (byI w0 M) 2 0 7 (tn (btI w0 M n) (byI w0 M) 0 (sh - 1) (tw (btI w0 M n) 1 i).2).2).2).1 99 (rdP (btI w0 M n) (byI w0 M) 3 0 99 (rdP (btI w0 M n) (byI w0 M) 2 0 7 (tn (btI w0 M n) (byI w0 M) 0 (sh - 1) (tw (btI w0 M n) 1 i).2).2).2).2).2 := by rw [ed3]; exact q3 z3
      simp only [hx4]
      refine rd_m hM T_3 hn b_3 (by decide) e_3 hB (by decide) (fun a4 p4 q4 G4 => ?_)
      obtain ⟨b_4, r_4⟩ := rd_le (w0 := w0) (M := M) (lo := 0) (hi := 100) (y := byI w0 M) hn b_3 (show 5 < 6 by decide) (by decide)
      have g4 := ge0_iff (lo := 0) (by decide) r_4
      refine ⟨v4, fun d4 ed4 => ⟨v4, ?_⟩⟩
      rw [hc4] at ed4 ⊢
      have val4 : vA d4 2028 (M 1028) (5 * p + 4) = (rdP (btI w0 M n) (byI w0 M) 5 0 100 (rdP (btI w0 M n) (byI w0 M) 4 (rdP (btI w0 M n) (byI w0 M) 3 0 99 (rdP (btI w0 M n) (byI w0 M) 2 0 7 (tn (btI w0 M n) (byI w0 M) 0 (sh - 1) (tw (btI w0 M n) 1 i).2).2).2).1 99 (rdP (btI w0 M n) (byI w0 M) 3 0 99 (rdP (btI w0 M n) (byI w0 M) 2 0 7 (tn (btI w0 M n) (byI w0 M) 0 (sh - 1) (tw (btI w0 M n) 1 i).2).2).2).2).2).1 := by rw [ed4, rA_u, if_pos ⟨rfl, rfl, rfl⟩]
      have F_4 : frM p M w d4 := by rw [ed4]; exact (F_3.t G4).put
      have S_4 := (S_3.fr G4).put (v := (rdP (btI w0 M n) (byI w0 M) 5 0 100 (rdP (btI w0 M n) (byI w0 M) 4 (rdP (btI w0 M n) (byI w0 M) 3 0 99 (rdP (btI w0 M n) (byI w0 M) 2 0 7 (tn (btI w0 M n) (byI w0 M) 0 (sh - 1) (tw (btI w0 M n) 1 i).2).2).2).1 99 (rdP (btI w0 M n) (byI w0 M) 3 0 99 (rdP (btI w0 M n) (byI w0 M) 2 0 7 (tn (btI w0 M n) (byI w0 M) 0 (sh - 1) (tw (btI w0 M n) 1 i).2).2).2).2).2).1) 4 rfl
      rw [← ed4] at S_4
      have T_4 := hT.frm F_4
      rw [val4]
      have y4 : ¬ 0 ≤ (rdP (btI w0 M n) (byI w0 M) 5 0 100 (rdP (btI w0 M n) (byI w0 M) 4 (rdP (btI w0 M n) (byI w0 M) 3 0 99 (rdP (btI w0 M n) (byI w0 M) 2 0 7 (tn (btI w0 M n) (byI w0 M) 0 (sh - 1) (tw (btI w0 M n) 1 i).2).2).2).1 99 (rdP (btI w0 M n) (byI w0 M) 3 0 99 (rdP (btI w0 M n) (byI w0 M) 2 0 7 (tn (btI w0 M n) (byI w0 M) 0 (sh - 1) (tw (btI w0 M n) 1 i).2).2).2).2).2).1 → (rdP (btI w0 M n) (byI w0 M) 5 0 100 (rdP (btI w0 M n) (byI w0 M) 4 (rdP (btI w0 M n) (byI w0 M) 3 0 99 (rdP (btI w0 M n) (byI w0 M) 2 0 7 (tn (btI w0 M n) (byI w0 M) 0 (sh - 1) (tw (btI w0 M n) 1 i).2).2).2).1 99 (rdP (btI w0 M n) (byI w0 M) 3 0 99 (rdP (btI w0 M n) (byI w0 M) 2 0 7 (tn (btI w0 M n) (byI w0 M) 0 (sh - 1) (tw (btI w0 M n) 1 i).2).2).2).2).2).1 = -1 := fun h => Classical.byContradiction (fun q => h (g4.1 q))
      refine ⟨fun z4 => ?_, fun z4 => hF d4 d4 _ (by rw [hR, pN_f (y4 z4)]) (by rw [ed4]; exact p4 (y4 z4)) F_4 (Or.inl rfl)⟩
      have z4 : ¬ (rdP (btI w0 M n) (byI w0 M) 5 0 100 (rdP (btI w0 M n) (byI w0 M) 4 (rdP (btI w0 M n) (byI w0 M) 3 0 99 (rdP (btI w0 M n) (byI w0 M) 2 0 7 (tn (btI w0 M n) (byI w0 M) 0 (sh - 1) (tw (btI w0 M n) 1 i).2).2).2).1 99 (rdP (btI w0 M n) (byI w0 M) 3 0 99 (rdP (btI w0 M n) (byI w0 M) 2 0 7 (tn (btI w0 M n) (byI w0 M) 0 (sh - 1) (tw (btI w0 M n) 1 i).2).2).2).2).2).1 = -1 := fun q => g4.2 q z4
      rw [pN_t z4] at hR
      have e_4 : vI d4 1035 m = nI (rdP (btI w0 M n) (byI w0 M) 5 0 100 (rdP (btI w0 M n) (byI w0 M) 4 (rdP (btI w0 M n) (byI w0 M) 3 0 99 (rdP (btI w0 M n) (byI w0 M) 2 0 7 (tn (btI w0 M n) (byI w0 M) 0 (sh - 1) (tw (btI w0 M n) 1 i).2).2).2).1 99 (rdP (btI w0 M n) (byI w0 M) 3 0 99 (rdP (btI w0 M n) (byI w0 M) 2 0 7 (tn (btI w0 M n) (byI w0 M) 0 (sh - 1) (tw (btI w0 M n) 1 i).2).2).2).2).2).2 := by rw [ed4]; exact q4 z4
      intro w31 e31
      have e9 : vI d4 1030 m = nI p := (F_4.1 1030 m (by decide) (by decide)).trans e30
      rw [e9, nI_1] at e31
      rw [e31]
      exact hG d4 _ _ _ _ _ _ hR e_4 F_4 S_4
    · have h2 := fl0 h2
      rw [← tw1] at h2
      exact hF w1 w1 _ (by rw [hR, pW_f h2, tw_f h2]) e2 F1.m (Or.inl rfl)
  · have h := fl1 h
    rw [← tw1] at h
    rw [if_pos h] at hR
    rw [← tw2 hn hi0 (by decide) h] at e1
    have c1 := (tw_le (w0 := w0) (M := M) hn hi0 (show 0 < 6 by decide)).1
    refine nu_m hM (hT.fr F1) hn c1 e1 hB (fun w2 q1 q2 F2 w34 e34 => ?_)
    have F := F1.trans F2
    obtain ⟨t1, t2, t3, t4⟩ := tn_le (w0 := w0) (M := M) (lo := 0) (hi := 20) (y := byI w0 M) hn c1 (by decide)
    have t5 := ge0_iff (lo := 0) (by decide) (fun q => (t4 q).2)
    have er : vI w34 1032 m = (tn (btI w0 M n) (byI w0 M) 0 20 (tw (btI w0 M n) 0 i).2).1 := by rw [e34, vI_u, if_pos ⟨rfl, rfl⟩]
    rw [er]
    refine ⟨fun h3 => ?_, fun h3 => ?_⟩
    · have h4 : (tn (btI w0 M n) (byI w0 M) 0 20 (tw (btI w0 M n) 0 i).2).1 = -1 := Classical.byContradiction (fun q => by
        have := t5.1 q
        rw [Int32.le_iff_toInt_le] at this
        rw [Int32.lt_iff_toInt_lt] at h3
        omega)
      refine hF w2 w34 _ (by rw [hR, pN_f h4]) ?_ F.m (Or.inr ⟨_, e34⟩)
      rw [e34, vI_u, if_neg (fun q => absurd q.1 (by decide)), t3 h4]
      exact q1
    · have h4 : ¬ (tn (btI w0 M n) (byI w0 M) 0 20 (tw (btI w0 M n) 0 i).2).1 = -1 := fun q => h3 (by rw [q]; decide)
      rw [pN_t h4] at hR
      rw [e34]
      exact hH _ _ _ hR (q2 h4) F
end MP
/-! PURE PART: the whole text of the rights -/
def nr (q : Pr) (r : Int32) : Int32 := if q.1 = 1 then q.2.1 else r
def nl (q : Pr) (l : List Pv) : List Pv := if q.1 = 2 then l ++ [q.2.2.1] else l
def pL (b : Nat → Int) (y : Nat → Int32) (n : Nat) (sh : Int32) : Nat → Nat → Nat → Int32 → List Pv → Bool × Nat × Nat × Int32 × List Pv
  | 0, i, c, r, l => (false, i, c, r, l)
  | f + 1, i, c, r, l => if (pPt b y sh i).1 = 0 then (false, (pPt b y sh i).2.2.2, c, r, l) else if n ≤ bl b (pPt b y sh i).2.2.2 then (true, bl b (pPt b y sh i).2.2.2, c + 1, nr (pPt b y sh i) r, nl (pPt b y sh i) l) else if b (bl b (pPt b y sh i).2.2.2) = 59 then pL b y n sh f (bl b (pPt b y sh i).2.2.2 + 1) (c + 1) (nr (pPt b y sh i) r) (nl (pPt b y sh i) l) else (false, bl b (pPt b y sh i).2.2.2, c, nr (pPt b y sh i) r, nl (pPt b y sh i) l)
def gP (l : List Pv) (i : Nat) : Pv := l.getD i p0v
theorem gP_app (l : List Pv) (v : Pv) (i : Nat) (hi : i < (l ++ [v]).length) : gP (l ++ [v]) i = if i = l.length then v else gP l i := by
  unfold gP
  by_cases h : i = l.length
  · rw [if_pos h, h]
    simp
  · rw [if_neg h]
    have h2 : i < l.length := by
      rw [List.length_append] at hi
      simp at hi
      omega
    simp [h2, List.getElem?_append_left h2]
def tcP (B : Nat → Nat → Nat → Nat) (w : Vt) (l : List Pv) : Prop := vI w 405 (B 902 0 0) = nI l.length ∧ ∀ i, i < l.length → vA w 1400 (B 400 1 0) i = (gP l i).1 ∧ vA w 1401 (B 401 1 0) i = (gP l i).2.1 ∧ vA w 1402 (B 402 1 0) i = (gP l i).2.2.1 ∧ vA w 1403 (B 403 1 0) i = (gP l i).2.2.2.1 ∧ vA w 1404 (B 404 1 0) i = (gP l i).2.2.2.2
def frK (B : Nat → Nat → Nat → Nat) (w w1 : Vt) : Prop := (∀ c a, ¬ c = 802 → ¬ c = 803 → ¬ (c = 405 ∧ a = B 902 0 0) → ¬ (c = 406 ∧ a = B 902 0 0) → vI w1 c a = vI w c a) ∧ ∀ k a i, ¬ (k = 1400 ∧ a = B 400 1 0) → ¬ (k = 1401 ∧ a = B 401 1 0) → ¬ (k = 1402 ∧ a = B 402 1 0) → ¬ (k = 1403 ∧ a = B 403 1 0) → ¬ (k = 1404 ∧ a = B 404 1 0) → vA w1 k a i = vA w k a i
section LC
variable {z : Zt} {x t n : Nat} {B : Nat → Nat → Nat → Nat} {N : Nat → Nat → Nat} {w0 w w1 w2 : Vt} {M : Nat → Nat}
theorem frK.rfl (w : Vt) : frK B w w := ⟨fun _ _ _ _ _ _ => Eq.refl _, fun _ _ _ _ _ _ _ _ => Eq.refl _⟩
theorem frK.trans (h : frK B w w1) (h2 : frK B w1 w2) : frK B w w2 := ⟨fun c a q1 q2 q3 q4 => (h2.1 c a q1 q2 q3 q4).trans (h.1 c a q1 q2 q3 q4), fun k a i q1 q2 q3 q4 q5 => (h2.2 k a i q1 q2 q3 q4 q5).trans (h.2 k a i q1 q2 q3 q4 q5)⟩
theorem fr2.k (h : fr2 w w1) : frK B w w1 := ⟨fun c a q _ _ _ => h.1 c a q, fun k a i _ _ _ _ _ => h.2 k a i⟩
theorem frK.u {c0 a0 : Nat} {v : Int32} (h : frK B w w1) (hc : c0 = 802 ∨ c0 = 803 ∨ (c0 = 405 ∧ a0 = B 902 0 0) ∨ (c0 = 406 ∧ a0 = B 902 0 0)) : frK B w (uI w1 c0 a0 v) := ⟨fun c a q1 q2 q3 q4 => by
  have hq : ¬ (c = c0 ∧ a = a0) := fun r => by
    obtain ⟨r1, r2⟩ := r
    subst r1
    subst r2
    rcases hc with g | g | g | g
    · exact q1 g
    · exact q2 g
    · exact q3 g
    · exact q4 g
  rw [vI_u, if_neg hq]
  exact h.1 c a q1 q2 q3 q4, h.2⟩
theorem tapC.k (h : tapC B w0 M n w) (hf : frK B w w1) : tapC B w0 M n w1 := ⟨(hf.1 801 _ (by decide) (by decide) (fun q => absurd q.1 (by decide)) (fun q => absurd q.1 (by decide))).trans h.1, fun i hi => (hf.2 1800 _ i (fun q => absurd q.1 (by decide)) (fun q => absurd q.1 (by decide)) (fun q => absurd q.1 (by decide)) (fun q => absurd q.1 (by decide)) (fun q => absurd q.1 (by decide))).trans (h.2 i hi)⟩
theorem tcP.fr {l : List Pv} (h : tcP B w l) (hf : fr2 w w1) : tcP B w1 l := ⟨(hf.1 405 _ (by decide)).trans h.1, fun i hi => by
  obtain ⟨a1, a2, a3, a4, a5⟩ := h.2 i hi
  exact ⟨(hf.2 _ _ i).trans a1, (hf.2 _ _ i).trans a2, (hf.2 _ _ i).trans a3, (hf.2 _ _ i).trans a4, (hf.2 _ _ i).trans a5⟩⟩
theorem tcP.u {l : List Pv} {c0 a0 : Nat} {v : Int32} (h : tcP B w l) (hc : ¬ c0 = 405) : tcP B (uI w c0 a0 v) l := ⟨by
  have hq : ¬ (405 = c0 ∧ B 902 0 0 = a0) := fun r => hc r.1.symm
  rw [vI_u, if_neg hq]
  exact h.1, h.2⟩
theorem ap_c {K : Vt → Prop} {l : List Pv} {s f u v c : Int32} (hS : SC z x t B N) (h : tcP B w l) (hl : l.length < 15) (hK : ∀ w1 : Vt, tcP B w1 (l ++ [(s, f, u, v, c)]) → frK B w w1 → (∀ c a, ¬ c = 405 → vI w1 c a = vI w c a) → K w1) : wp_X4_addPart z (B 902 0 0) s f u v c w K := by
  have v1 : vp_in (vI w 405 (B 902 0 0)) 15 := by rw [h.1]; exact vp_in_nI hl (by decide)
  unfold wp_X4_addPart
  refine ⟨(sc_902 hS).2, fun _ => ⟨B 400 1 0, (sc_400s hS).1, (sc_400s hS).2, v1, fun w3 e3 => ?_⟩, fun q => absurd ?_ q⟩
  · subst e3
    refine ⟨B 401 1 0, (sc_401s hS).1, (sc_401s hS).2, v1, fun w5 e5 => ?_⟩
    subst e5
    refine ⟨B 402 1 0, (sc_402s hS).1, (sc_402s hS).2, v1, fun w7 e7 => ?_⟩
    subst e7
    refine ⟨B 403 1 0, (sc_403s hS).1, (sc_403s hS).2, v1, fun w9 e9 => ?_⟩
    subst e9
    refine ⟨B 404 1 0, (sc_404s hS).1, (sc_404s hS).2, v1, fun w11 e11 => ?_⟩
    subst e11
    intro w12 e12
    have e13 : w12 = uI (uA (uA (uA (uA (uA w 1400 (B 400 1 0) l.length s) 1401 (B 401 1 0) l.length f) 1402 (B 402 1 0) l.length u) 1403 (B 403 1 0) l.length v) 1404 (B 404 1 0) l.length c) 405 (B 902 0 0) (nI (l.length + 1)) := by
      have e14 : w12 = uI (uA (uA (uA (uA (uA w 1400 (B 400 1 0) (vI w 405 (B 902 0 0)).toNatClampNeg s) 1401 (B 401 1 0) (vI w 405 (B 902 0 0)).toNatClampNeg f) 1402 (B 402 1 0) (vI w 405 (B 902 0 0)).toNatClampNeg u) 1403 (B 403 1 0) (vI w 405 (B 902 0 0)).toNatClampNeg v) 1404 (B 404 1 0) (vI w 405 (B 902 0 0)).toNatClampNeg c) 405 (B 902 0 0) (vI w 405 (B 902 0 0) + 1) := e12
      rw [e14, h.1, nI_clamp (by omega), nI_1]
    clear e12
    subst e13
    refine hK _ ⟨?_, fun i hi => ?_⟩ ⟨fun c' a q1 q2 q3 q4 => ?_, fun k a i q1 q2 q3 q4 q5 => ?_⟩ (fun c' a hc => ?_)
    · rw [vI_u, if_pos ⟨rfl, rfl⟩, List.length_append]
      rfl
    · rw [gP_app _ _ _ hi]
      by_cases hh : i = l.length
      · subst hh
        simp [rA_uI, rA_u]
      · have hi2 : i < l.length := by
          rw [List.length_append] at hi
          simp at hi
          omega
        have g := h.2 i hi2
        simp [rA_uI, rA_u, hh]
        exact g
    · rw [vI_u, if_neg q3]
      rfl
    · rw [rA_uI]
      have g1 : ¬ (k = 1400 ∧ a = B 400 1 0 ∧ i = l.length) := fun r => q1 ⟨r.1, r.2.1⟩
      have g2 : ¬ (k = 1401 ∧ a = B 401 1 0 ∧ i = l.length) := fun r => q2 ⟨r.1, r.2.1⟩
      have g3 : ¬ (k = 1402 ∧ a = B 402 1 0 ∧ i = l.length) := fun r => q3 ⟨r.1, r.2.1⟩
      have g4 : ¬ (k = 1403 ∧ a = B 403 1 0 ∧ i = l.length) := fun r => q4 ⟨r.1, r.2.1⟩
      have g5 : ¬ (k = 1404 ∧ a = B 404 1 0 ∧ i = l.length) := fun r => q5 ⟨r.1, r.2.1⟩
      rw [rA_u, if_neg g5, rA_u, if_neg g4, rA_u, if_neg g3, rA_u, if_neg g2, rA_u, if_neg g1]
    · have hq : ¬ (c' = 405 ∧ a = B 902 0 0) := fun r => hc r.1
      rw [vI_u, if_neg hq]
      rfl
  · rw [h.1]
    exact nI_lt hl (by decide)
theorem lp_c {K : Int32 → Vt → Prop} {sh : Int32} {R : Bool × Nat × Nat × Int32 × List Pv} (hS : SC z x t B N) (hn : n ≤ 400) (hK0 : ∀ w2 : Vt, R.1 = false → vI w2 802 (B 900 0 0) = nI R.2.1 → R.2.1 ≤ n → frK B w w2 → K 0 w2) (hK1 : ∀ w2 : Vt, R.1 = true → vI w2 803 (B 900 0 0) = nI R.2.2.1 → R.2.2.1 ≤ 400 → vI w2 406 (B 902 0 0) = R.2.2.2.1 → tcP B w2 R.2.2.2.2 → R.2.2.2.2.length ≤ 14 → frK B w w2 → K 1 w2) : ∀ (f i c : Nat) (r : Int32) (l : List Pv) (w1 : Vt), R = pL (btI w0 M n) (byI w0 M) n sh f i c r l → n + 1 ≤ i + f → i ≤ n → 28 * l.length ≤ i → 2 * c ≤ i → tapC B w0 M n w1 → vI w1 802 (B 900 0 0) = nI i → vI w1 803 (B 900 0 0) = nI (c + 1) → tcP B w1 l → vI w1 406 (B 902 0 0) = r → frK B w w1 → wL_X8_readsRights_14 z (B 900 0 0) (B 902 0 0) K (fun x18 w19 => K 0 w19) f sh w1 := by
  intro f
  induction f with
  | zero =>
    intro i c r l w1 hR hf hi
    exact absurd hf (by omega)
  | succ f ih =>
    intro i c r l w1 hR hf hi hl hc hT e e3 hC e6 hF
    rw [pL] at hR
    obtain ⟨u1, u2⟩ := pPt_le (w0 := w0) (M := M) (sh := sh) (y := byI w0 M) hn hi
    generalize hq : pPt (btI w0 M n) (byI w0 M) sh i = q at *
    have tail : ∀ (w3 : Vt), ¬ q.1 = 0 → 28 * (nl q l).length ≤ q.2.2.2 + 1 → 2 * (c + 1) ≤ q.2.2.2 + 1 → i ≤ q.2.2.2 → tapC B w0 M n w3 → vI w3 802 (B 900 0 0) = nI q.2.2.2 → vI w3 803 (B 900 0 0) = nI (c + 1) → tcP B w3 (nl q l) → vI w3 406 (B 902 0 0) = nr q r → frK B w w3 → wp_X8_skipBlanks z (B 900 0 0) w3 (fun w9 => ((vI w9 802 (B 900 0 0)) < (vI w9 801 (B 900 0 0)) → wp_X8_byteAt z (B 900 0 0) (vI w9 802 (B 900 0 0)) w9 (fun r13 w12 => (r13 = 59 → ∀ w15 : Vt, w15 = uI w12 802 (B 900 0 0) ((vI w12 802 (B 900 0 0)) + 1) → ∀ w16 : Vt, w16 = uI w15 803 (B 900 0 0) ((vI w15 803 (B 900 0 0)) + 1) → wL_X8_readsRights_14 z (B 900 0 0) (B 902 0 0) K (fun x18 w19 => K 0 w19) f sh w16) ∧ (¬ r13 = 59 → K 0 w12))) ∧ (¬ (vI w9 802 (B 900 0 0)) < (vI w9 801 (B 900 0 0)) → K 1 w9)) := by
      intro w3 hq0 hl3 hc3 hij hT3 e23 e33 hC3 e63 hF3
      rw [if_neg hq0] at hR
      obtain ⟨b1, b2⟩ := bl_le (w0 := w0) (M := M) hn u1
      refine skp_c hS hT3 hn u1 e23 (fun w9 e9 F9 => ?_)
      have hT9 := hT3.fr F9
      have hF9 := hF3.trans (fr2.k F9)
      have hC9 := hC3.fr F9
      have e93 : vI w9 803 (B 900 0 0) = nI (c + 1) := (F9.1 803 _ (by decide)).trans e33
      have e96 : vI w9 406 (B 902 0 0) = nr q r := (F9.1 406 _ (by decide)).trans e63
      generalize hJ : bl (btI w0 M n) q.2.2.2 = J at *
      rw [e9, hT9.1]
      refine ⟨fun h => ?_, fun h => ?_⟩
      · have hJn : J < n := (nI_ltI (by omega) (by omega)).mp h
        rw [if_neg (by omega : ¬ n ≤ J)] at hR
        refine by_c hS hT9 hn (by omega) (fun v hv => ⟨fun h2 w15 e15 w16 e16 => ?_, fun h2 => ?_⟩)
        · have hb : btI w0 M n J = 59 := by rw [← hv, h2]; rfl
          rw [if_pos hb] at hR
          have e17 : w16 = uI (uI w9 802 (B 900 0 0) (nI (J + 1))) 803 (B 900 0 0) (nI (c + 1 + 1)) := by
            rw [e16, e15, e9, nI_1]
            have : vI (uI w9 802 (B 900 0 0) (nI (J + 1))) 803 (B 900 0 0) = nI (c + 1) := by
              rw [vI_u, if_neg (fun q => absurd q.1 (by decide))]
              exact e93
            rw [this, nI_1]
          have hF17 : frK B w9 w16 := by rw [e17]; exact ((frK.rfl w9).u (Or.inl rfl)).u (Or.inr (Or.inl rfl))
          refine ih (J + 1) (c + 1) (nr q r) (nl q l) w16 hR (by omega) (by omega) (by omega) (by omega) (hT9.k hF17) ?_ ?_ ?_ ?_ (hF9.trans hF17)
          · rw [e17, vI_u, if_neg (fun q => absurd q.1 (by decide)), vI_u, if_pos ⟨rfl, rfl⟩]
          · rw [e17, vI_u, if_pos ⟨rfl, rfl⟩]
          · rw [e17]
            exact (hC9.u (by decide)).u (by decide)
          · rw [e17, vI_u, if_neg (fun q => absurd q.1 (by decide)), vI_u, if_neg (fun q => absurd q.1 (by decide))]
            exact e96
        · have hb : ¬ btI w0 M n J = 59 := fun q => h2 (by
            rw [← Int32.toInt_inj, hv, q]
            rfl)
          rw [if_neg hb] at hR
          exact hK0 w9 (by rw [hR]) (by rw [hR]; exact e9) (by rw [hR]; exact b1) hF9
      · have hJn : n ≤ J := by
          rcases Nat.lt_or_ge J n with g | g
          · exact absurd (nI_lt g (by omega)) h
          · exact g
        rw [if_pos hJn] at hR
        exact hK1 w9 (by rw [hR]) (by rw [hR]; exact e93) (by rw [hR]; show c + 1 ≤ 400; omega) (by rw [hR]; exact e96) (by rw [hR]; exact hC9) (by rw [hR]; show (nl q l).length ≤ 14; omega) hF9
    rw [wL_X8_readsRights_14]
    refine ⟨fun h => absurd h ?_, fun _ => rp_c hS (sc_902 hS).2 hT hn hi e hq.symm (fun w2 j h e2 F2 => ⟨fun q => absurd rfl q, fun _ => ?_⟩) (fun w2 v j h e2 F2 => ⟨fun _ => ?_, fun q => absurd q (by decide)⟩) (fun w2 s f' u v c' j h e2 F2 => ?_)⟩
    · rw [e3]
      exact nI_nlt (a := 400) (by omega) (by decide)
    · rw [if_pos (by rw [h]; rfl)] at hR
      have hj : q.2.2.2 = j := by rw [h]; rfl
      exact hK0 w2 (by rw [hR]) (by rw [hR, hj]; exact e2) (by rw [hR]; exact u1) (hF.trans (fr2.k F2))
    · have hj : q.2.2.2 = j := by rw [h]
      have hq1 : q.1 = 1 := by rw [h]
      have hnl : nl q l = l := by unfold nl; rw [if_neg (by rw [hq1]; decide)]
      have hnr : nr q r = v := by unfold nr; rw [if_pos hq1, h]
      have hp : i + 5 ≤ q.2.2.2 := by
        rcases u2 with g | g | g
        · omega
        · exact g.2
        · omega
      have hF3 : frK B w2 (uI w2 406 (B 902 0 0) v) := (frK.rfl w2).u (Or.inr (Or.inr (Or.inr ⟨rfl, rfl⟩)))
      refine tail _ (by rw [hq1]; decide) (by rw [hnl]; omega) (by omega) (by omega) ((hT.fr F2).k hF3) ?_ ?_ ?_ ?_ ((hF.trans (fr2.k F2)).trans hF3)
      · rw [vI_u, if_neg (fun q => absurd q.1 (by decide)), hj]
        exact e2
      · rw [vI_u, if_neg (fun q => absurd q.1 (by decide)), F2.1 803 _ (by decide)]
        exact e3
      · rw [hnl]
        exact (hC.fr F2).u (by decide)
      · rw [vI_u, if_pos ⟨rfl, rfl⟩, hnr]
    · have hj : q.2.2.2 = j := by rw [h]
      have hq1 : q.1 = 2 := by rw [h]
      have hnl : nl q l = l ++ [(s, f', u, v, c')] := by unfold nl; rw [if_pos hq1, h]
      have hnr : nr q r = r := by unfold nr; rw [if_neg (by rw [hq1]; decide)]
      have hp : i + 27 ≤ q.2.2.2 := by
        rcases u2 with g | g | g
        · omega
        · omega
        · exact g.2
      have hlen : (l ++ [(s, f', u, v, c')]).length = l.length + 1 := by simp
      refine ap_c hS (hC.fr F2) (by omega) (fun w3 hC3 hF3 hI3 => ⟨fun _ => ?_, fun q => absurd q (by decide)⟩)
      refine tail w3 (by rw [hq1]; decide) (by rw [hnl, hlen]; omega) (by omega) (by omega) ((hT.fr F2).k hF3) ?_ ?_ ?_ ?_ ((hF.trans (fr2.k F2)).trans hF3)
      · rw [hI3 802 _ (by decide), hj]
        exact e2
      · rw [hI3 803 _ (by decide), F2.1 803 _ (by decide)]
        exact e3
      · rw [hnl]
        exact hC3
      · rw [hI3 406 _ (by decide), F2.1 406 _ (by decide), hnr]
        exact e6
end LC
/-! PURE PART: the whole text, as the reference reads it -/
def stL (M : Nat → Nat) (w : Vt) (l : List Pv) : Prop := ∀ i, i < l.length → vA w 2028 (M 1028) (5 * i + 0) = (gP l i).1 ∧ vA w 2028 (M 1028) (5 * i + 1) = (gP l i).2.1 ∧ vA w 2028 (M 1028) (5 * i + 2) = (gP l i).2.2.1 ∧ vA w 2028 (M 1028) (5 * i + 3) = (gP l i).2.2.2.1 ∧ vA w 2028 (M 1028) (5 * i + 4) = (gP l i).2.2.2.2
def frR (w w1 : Vt) : Prop := (∀ c a, ¬ c = 1035 → ¬ c = 1037 → ¬ c = 1030 → ¬ c = 1032 → vI w1 c a = vI w c a) ∧ ∀ k a i, ¬ k = 2028 → vA w1 k a i = vA w k a i
section LM
variable {z : Zt} {m n : Nat} {w0 w w1 w2 : Vt} {M : Nat → Nat}
theorem frR.rfl (w : Vt) : frR w w := ⟨fun _ _ _ _ _ _ => Eq.refl _, fun _ _ _ _ => Eq.refl _⟩
theorem frR.trans (h : frR w w1) (h2 : frR w1 w2) : frR w w2 := ⟨fun c a q1 q2 q3 q4 => (h2.1 c a q1 q2 q3 q4).trans (h.1 c a q1 q2 q3 q4), fun k a i q => (h2.2 k a i q).trans (h.2 k a i q)⟩
theorem frM.r {p : Nat} (h : frM p M w w1) : frR w w1 := ⟨fun c a q1 q2 _ _ => h.1 c a q1 q2, fun k a i q => h.2 k a i (fun r => q r.1)⟩
theorem fr5.r (h : fr5 w w1) : frR w w1 := ⟨fun c a q1 q2 _ _ => h.1 c a q1 q2, fun k a i _ => h.2 k a i⟩
theorem frR.u {c0 a0 : Nat} {v : Int32} (h : frR w w1) (hc : c0 = 1035 ∨ c0 = 1037 ∨ c0 = 1030 ∨ c0 = 1032) : frR w (uI w1 c0 a0 v) := ⟨fun c a q1 q2 q3 q4 => by
  have hq : ¬ (c = c0 ∧ a = a0) := fun r => by
    obtain ⟨r1, -⟩ := r
    subst r1
    rcases hc with g | g | g | g
    · exact q1 g
    · exact q2 g
    · exact q3 g
    · exact q4 g
  rw [vI_u, if_neg hq]
  exact h.1 c a q1 q2 q3 q4, h.2⟩
theorem tapM.r (h : tapM w0 M m n w) (hf : frR w w1) : tapM w0 M m n w1 := ⟨(hf.1 1036 _ (by decide) (by decide) (by decide) (by decide)).trans h.1, fun i => (hf.2 2033 _ i (by decide)).trans (h.2 i)⟩
theorem stL.fr {l : List Pv} (h : stL M w l) (hf : fr5 w w1) : stL M w1 l := fun i hi => by
  obtain ⟨a1, a2, a3, a4, a5⟩ := h i hi
  exact ⟨(hf.2 _ _ _).trans a1, (hf.2 _ _ _).trans a2, (hf.2 _ _ _).trans a3, (hf.2 _ _ _).trans a4, (hf.2 _ _ _).trans a5⟩
theorem stL.fm {l : List Pv} {p : Nat} (h : stL M w l) (hp : p = l.length) (hf : frM p M w w1) : stL M w1 l := fun i hi => by
  obtain ⟨a1, a2, a3, a4, a5⟩ := h i hi
  subst hp
  exact ⟨(hf.2 _ _ _ (fun q => by omega)).trans a1, (hf.2 _ _ _ (fun q => by omega)).trans a2, (hf.2 _ _ _ (fun q => by omega)).trans a3, (hf.2 _ _ _ (fun q => by omega)).trans a4, (hf.2 _ _ _ (fun q => by omega)).trans a5⟩
theorem stL.app {l : List Pv} {s f u v c : Int32} (h : stL M w l) (hs : spP l.length M w [s, f, u, v, c]) : stL M w (l ++ [(s, f, u, v, c)]) := fun i hi => by
  rw [gP_app _ _ _ hi]
  by_cases hh : i = l.length
  · subst hh
    rw [if_pos rfl]
    exact ⟨hs 0 (by simp), hs 1 (by simp), hs 2 (by simp), hs 3 (by simp), hs 4 (by simp)⟩
  · rw [if_neg hh]
    refine h i ?_
    rw [List.length_append] at hi
    simp at hi
    omega
theorem lp_m {K : Int32 → Vt → Prop} {sh : Int32} {R : Bool × Nat × Nat × Int32 × List Pv} (hM : SM z m M) (hn : n ≤ 400) (hB : byB w0 M) (esh : vI w 1014 m = sh) (hK0 : ∀ w2 : Vt, R.1 = false → vI w2 1037 m = nI R.2.1 → frR w w2 → K (-1) w2) (hK1 : ∀ w2 : Vt, R.1 = true → vI w2 1030 m = nI R.2.2.2.2.length → vI w2 1032 m = R.2.2.2.1 → stL M w2 R.2.2.2.2 → R.2.2.2.2.length ≤ 14 → frR w w2 → K (nI R.2.2.1) w2) : ∀ (f i c : Nat) (r : Int32) (l : List Pv) (w1 : Vt), R = pL (btI w0 M n) (byI w0 M) n sh f i c r l → n + 1 ≤ i + f → i ≤ n → 28 * l.length ≤ i → tapM w0 M m n w1 → vI w1 1035 m = nI i → vI w1 1030 m = nI l.length → vI w1 1032 m = r → stL M w1 l → frR w w1 → wL_X10_readAll_17 z m K (fun x16 w17 => K (-1) w17) f (nI c) w1 := by
  intro f
  induction f with
  | zero =>
    intro i c r l w1 hR hf hi
    exact absurd hf (by omega)
  | succ f ih =>
    intro i c r l w1 hR hf hi hl hT e e3 e6 hC hF
    rw [pL] at hR
    obtain ⟨u1, u2⟩ := pPt_le (w0 := w0) (M := M) (sh := sh) (y := byI w0 M) hn hi
    generalize hq : pPt (btI w0 M n) (byI w0 M) sh i = q at *
    have tail : ∀ (w3 : Vt), ¬ q.1 = 0 → 28 * (nl q l).length ≤ q.2.2.2 + 1 → i ≤ q.2.2.2 → tapM w0 M m n w3 → vI w3 1035 m = nI q.2.2.2 → vI w3 1030 m = nI (nl q l).length → stL M w3 (nl q l) → vI w3 1032 m = nr q r → frR w w3 → wp_X10_blanks z m w3 (fun w8 => (¬ (vI w8 1035 m) = (vI w8 1036 m) → wp_X10_isAt z m 59 59 w8 (fun r12 w11 => (¬ r12 = 0 → ∀ w14 : Vt, w14 = uI w11 1035 m ((vI w11 1035 m) + 1) → wL_X10_readAll_17 z m K (fun x16 w17 => K (-1) w17) f (nI (c + 1)) w14) ∧ (r12 = 0 → K (-1) w11))) ∧ ((vI w8 1035 m) = (vI w8 1036 m) → K (nI (c + 1)) w8)) := by
      intro w3 hq0 hl3 hij hT3 e23 e33 hC3 e63 hF3
      rw [if_neg hq0] at hR
      obtain ⟨b1, b2⟩ := bl_le (w0 := w0) (M := M) hn u1
      refine bk_m hM hT3 hn u1 e23 hB (fun w9 e9 e97 F9 => ?_)
      have hT9 := hT3.fr F9
      have hF9 := hF3.trans (fr5.r F9)
      have hC9 := hC3.fr F9
      have e93 : vI w9 1030 m = nI (nl q l).length := (F9.1 1030 _ (by decide) (by decide)).trans e33
      have e96 : vI w9 1032 m = nr q r := (F9.1 1032 _ (by decide) (by decide)).trans e63
      generalize hJ : bl (btI w0 M n) q.2.2.2 = J at *
      rw [e9, hT9.1]
      refine ⟨fun h => ?_, fun h => ?_⟩
      · have hJn : J < n := by
          rcases Nat.lt_or_ge J n with g | g
          · exact g
          · exact absurd (by rw [show J = n by omega]) h
        rw [if_neg (by omega : ¬ n ≤ J)] at hR
        refine at_m (R := decide (btI w0 M n J = 59)) hM hT9 hn b1 e9 hB (by decide) (by decide) ?_ ?_
        · have e59 : (59 : Int32).toInt = 59 := rfl
          rw [e59]
          congr 1
          exact propext ⟨fun h => by omega, fun h => by omega⟩
        · by_cases hb : btI w0 M n J = 59
          · rw [if_pos hb] at hR
            rw [decide_eq_true hb]
            refine ⟨fun _ w14 e14 => ?_, fun q => absurd q (by decide)⟩
            rw [e9, nI_1] at e14
            have hF17 : frR w9 w14 := by rw [e14]; exact (frR.rfl w9).u (Or.inl rfl)
            refine ih (J + 1) (c + 1) (nr q r) (nl q l) w14 hR (by omega) (by omega) (by omega) (hT9.r hF17) ?_ ?_ ?_ ?_ (hF9.trans hF17)
            · rw [e14, vI_u, if_pos ⟨rfl, rfl⟩]
            · rw [e14, vI_u, if_neg (fun q => absurd q.1 (by decide))]
              exact e93
            · rw [e14, vI_u, if_neg (fun q => absurd q.1 (by decide))]
              exact e96
            · rw [e14]
              exact hC9
          · rw [if_neg hb] at hR
            rw [decide_eq_false hb]
            exact ⟨fun q => absurd rfl q, fun _ => hK0 w9 (by rw [hR]) (by rw [hR]; exact e97) hF9⟩
      · have hJn : J = n := (nI_eq (by omega) (by omega)).mp h
        rw [if_pos (by omega)] at hR
        have := hK1 w9 (by rw [hR]) (by rw [hR]; exact e93) (by rw [hR]; exact e96) (by rw [hR]; exact hC9) (by rw [hR]; show (nl q l).length ≤ 14; omega) hF9
        rw [hR] at this
        exact this
    rw [wL_X10_readAll_17]
    refine rp_m hM hT hn hi e hB (by omega) e3 ((hF.1 1014 m (by decide) (by decide) (by decide) (by decide)).trans esh) hq.symm (fun w2 w3 j h e2 F2 h3 => ⟨fun q => absurd rfl q, fun _ => ?_⟩) (fun w2 v j h e2 F2 => ⟨fun _ x7 ex7 => ?_, fun q => absurd q (by decide)⟩) (fun w2 s f' u v c' j h e2 F2 hs => ⟨fun _ x7 ex7 => ?_, fun q => absurd q (by decide)⟩)
    · rw [if_pos (by rw [h]; rfl)] at hR
      have hj : q.2.2.2 = j := by rw [h]; rfl
      refine hK0 w3 (by rw [hR]) (by rw [hR, hj]; exact e2) ?_
      rcases h3 with h3 | ⟨v, h3⟩
      · rw [h3]
        exact hF.trans (frM.r F2)
      · rw [h3]
        exact (hF.trans (frM.r F2)).u (Or.inr (Or.inr (Or.inr rfl)))
    · rw [nI_1] at ex7
      subst ex7
      have hj : q.2.2.2 = j := by rw [h]
      have hq1 : q.1 = 1 := by rw [h]
      have hnl : nl q l = l := by unfold nl; rw [if_neg (by rw [hq1]; decide)]
      have hnr : nr q r = v := by unfold nr; rw [if_pos hq1, h]
      have hp : i + 5 ≤ q.2.2.2 := by
        rcases u2 with g | g | g
        · omega
        · exact g.2
        · omega
      have hF3 : frR w2 (uI w2 1032 m v) := (frR.rfl w2).u (Or.inr (Or.inr (Or.inr rfl)))
      refine tail _ (by rw [hq1]; decide) (by rw [hnl]; omega) (by omega) ((hT.fr F2).r hF3) ?_ ?_ ?_ ?_ ((hF.trans (fr5.r F2)).trans hF3)
      · rw [vI_u, if_neg (fun q => absurd q.1 (by decide)), hj]
        exact e2
      · rw [vI_u, if_neg (fun q => absurd q.1 (by decide)), F2.1 1030 _ (by decide) (by decide), hnl]
        exact e3
      · rw [hnl]
        exact show stL M w2 l from hC.fr F2
      · rw [vI_u, if_pos ⟨rfl, rfl⟩, hnr]
    · rw [nI_1] at ex7
      subst ex7
      have hj : q.2.2.2 = j := by rw [h]
      have hq1 : q.1 = 2 := by rw [h]
      have hnl : nl q l = l ++ [(s, f', u, v, c')] := by unfold nl; rw [if_pos hq1, h]
      have hnr : nr q r = r := by unfold nr; rw [if_neg (by rw [hq1]; decide)]
      have hp : i + 27 ≤ q.2.2.2 := by
        rcases u2 with g | g | g
        · omega
        · omega
        · exact g.2
      have hlen : (l ++ [(s, f', u, v, c')]).length = l.length + 1 := by simp
      have hF3 : frR w2 (uI w2 1030 m (nI (l.length + 1))) := (frR.rfl w2).u (Or.inr (Or.inr (Or.inl rfl)))
      refine tail _ (by rw [hq1]; decide) (by rw [hnl, hlen]; omega) (by omega) ((hT.frm F2).r hF3) ?_ ?_ ?_ ?_ ((hF.trans (frM.r F2)).trans hF3)
      · rw [vI_u, if_neg (fun q => absurd q.1 (by decide)), hj]
        exact e2
      · rw [vI_u, if_pos ⟨rfl, rfl⟩, hnl, hlen]
      · rw [hnl]
        exact show stL M w2 _ from (hC.fm rfl F2).app hs
      · rw [vI_u, if_neg (fun q => absurd q.1 (by decide)), F2.1 1032 _ (by decide) (by decide), hnr]
        exact e6
theorem cp_m {K : Int32 → Vt → Prop} {x1 : Int32} {p : Nat} (hM : SM z m M) (hp : p ≤ 14) (e29 : vI w 1029 m = nI p) (hK : ∀ w1 : Vt, (∀ c a, vI w1 c a = vI w c a) → (∀ k a i, ¬ k = 2027 → vA w1 k a i = vA w k a i) → (∀ i, i < 5 * p → vA w1 2027 (M 1027) i = vA w 2028 (M 1028) i) → K x1 w1) : ∃ n25 : Nat, wL_X10_rights_76 z m K (fun x26 x27 w28 => K x27 w28) n25 0 x1 w := by
  have key : ∀ d k (w1 : Vt), k + d = 5 * p → (∀ c a, vI w1 c a = vI w c a) → (∀ k a i, ¬ k = 2027 → vA w1 k a i = vA w k a i) → (∀ i, i < k → vA w1 2027 (M 1027) i = vA w 2028 (M 1028) i) → wL_X10_rights_76 z m K (fun x26 x27 w28 => K x27 w28) (d + 1) (nI k) x1 w1 := by
    have e5 : (5 : Int32) * nI p = nI (5 * p) := nI_mul 5 p
    intro d
    induction d with
    | zero =>
      intro k w1 hk h1 h2 h3
      rw [wL_X10_rights_76, h1 1029 m, e29, e5]
      exact ⟨fun _ => hK w1 h1 h2 (fun i hi => h3 i (by omega)), fun q => absurd (nI_le (by omega) (by omega)) q⟩
    | succ d ih =>
      intro k w1 hk h1 h2 h3
      rw [wL_X10_rights_76, h1 1029 m, e29, e5]
      have v : vp_in (nI k) 300 := vp_in_nI (by omega) (by decide)
      refine ⟨fun q => absurd q (nI_ge (by omega) (by omega)), fun _ => ⟨M 1027, (sm_1027 hM).1, (sm_1027 hM).2, M 1028, (sm_1028 hM).1, (sm_1028 hM).2, v, v, fun w23 e23 x24 e24 => ?_⟩⟩
      rw [nI_clamp (by omega)] at e23
      rw [e24, nI_1]
      refine ih (k + 1) w23 (by omega) (fun c a => by rw [e23]; exact h1 c a) (fun k' a i q => ?_) (fun i hi => ?_)
      · have hq : ¬ (k' = 2027 ∧ a = M 1027 ∧ i = k) := fun r => q r.1
        rw [e23, rA_u, if_neg hq]
        exact h2 k' a i q
      · by_cases hh : i = k
        · rw [e23, rA_u, if_pos ⟨rfl, rfl, hh⟩, hh]
          exact h2 2028 _ k (by decide)
        · have hq : ¬ (2027 = 2027 ∧ M 1027 = M 1027 ∧ i = k) := fun r => hh r.2.2
          rw [e23, rA_u, if_neg hq]
          exact h3 i (by omega)
  exact ⟨5 * p + 1, key (5 * p) 0 w (by omega) (fun _ _ => rfl) (fun _ _ _ _ => rfl) (fun i hi => absurd hi (by omega))⟩
theorem rights_m {K : Int32 → Vt → Prop} {sh : Int32} {R : Bool × Nat × Nat × Int32 × List Pv} (hM : SM z m M) (hn : n ≤ 400) (hB : byB w M) (e34 : vI w 1034 m = nI n) (esh : vI w 1014 m = sh) (hR : R = pL (btI w M n) (byI w M) n sh (n + 1) 0 0 2 []) (hcnt : R.1 = true → R.2.2.1 ≤ 400)
    (hK0 : ∀ w1 : Vt, R.1 = false → vI w1 1000 m = 1 → vI w1 1034 m = 0 → vI w1 1038 m = nI R.2.1 → (∀ c a, ¬ c ∈ [1000, 1030, 1032, 1034, 1035, 1036, 1037, 1038] → vI w1 c a = vI w c a) → (∀ k a i, ¬ k = 2028 → vA w1 k a i = vA w k a i) → K 0 w1)
    (hK1 : ∀ w1 : Vt, R.1 = true → vI w1 1000 m = 0 → vI w1 1034 m = 0 → vI w1 1038 m = -1 → vI w1 1029 m = nI R.2.2.2.2.length → vI w1 1031 m = R.2.2.2.1 → R.2.2.2.2.length ≤ 14 → (∀ i, i < R.2.2.2.2.length → vA w1 2027 (M 1027) (5 * i + 0) = (gP R.2.2.2.2 i).1 ∧ vA w1 2027 (M 1027) (5 * i + 1) = (gP R.2.2.2.2 i).2.1 ∧ vA w1 2027 (M 1027) (5 * i + 2) = (gP R.2.2.2.2 i).2.2.1 ∧ vA w1 2027 (M 1027) (5 * i + 3) = (gP R.2.2.2.2 i).2.2.2.1 ∧ vA w1 2027 (M 1027) (5 * i + 4) = (gP R.2.2.2.2 i).2.2.2.2) → (∀ c a, ¬ c ∈ [1000, 1029, 1030, 1031, 1032, 1034, 1035, 1036, 1037, 1038] → vI w1 c a = vI w c a) → (∀ k a i, ¬ k ∈ [2027, 2028] → vA w1 k a i = vA w k a i) → K (nI R.2.2.1) w1) : wp_X10_rights z m w K := by
  unfold wp_X10_rights wp_X10_readAll
  refine ⟨sm_m hM, fun w1 e1 w2 e2 w3 e3 => ⟨sm_m hM, fun w4 e4 w5 e5 w6 e6 => ⟨n + 1, ?_⟩⟩⟩
  have E : w6 = uI (uI (uI (uI (uI (uI w 1000 m 0) 1036 m (nI n)) 1034 m 0) 1035 m 0) 1030 m 0) 1032 m 2 := by
    rw [e6, e5, e4, e3, e2, e1]
    rw [show vI (uI w 1000 m 0) 1034 m = nI n from by rw [vI_u, if_neg (fun q => absurd q.1 (by decide)), e34]]
  have i0 : vI w6 1000 m = 0 := by rw [E]; simp [vI_u]
  have i34 : vI w6 1034 m = 0 := by rw [E]; simp [vI_u]
  have fI : ∀ c a, ¬ c ∈ [1000, 1030, 1032, 1034, 1035, 1036, 1037, 1038] → vI w6 c a = vI w c a := by
    intro c a hc
    simp only [List.mem_cons, List.not_mem_nil, or_false, not_or] at hc
    rw [E]
    simp [vI_u, hc]
  have fA : ∀ k a i, vA w6 k a i = vA w k a i := by
    intro k a i
    rw [E]
    rfl
  have hT6 : tapM w M m n w6 := ⟨by rw [E]; simp [vI_u], fun i => fA _ _ i⟩
  refine lp_m (w := w6) (w0 := w) hM hn hB ((fI 1014 m (by decide)).trans esh) (fun w7 hr e37 F7 => ?_) (fun w7 hr e30 e32 hC hlen F7 => ?_) (n + 1) 0 0 2 [] w6 hR (by omega) (by omega) (by simp) hT6 (by rw [E]; simp [vI_u]; rfl) (by rw [E]; simp [vI_u]; rfl) (by rw [E]; simp [vI_u]) (fun i hi => absurd hi (Nat.not_lt_zero _)) (frR.rfl w6)
  · refine ⟨fun x w' => x = nI R.2.1 ∧ w' = w7, fun x7 w8 hJ w10 e10 => ?_, fun h => absurd h (by decide), fun _ => ⟨e37, rfl⟩⟩
    obtain ⟨rfl, rfl⟩ := hJ
    refine ⟨fun x w' => x = 1 ∧ w' = w10, fun x12 w13 hJ => ?_, fun h => absurd h (by decide), fun _ => ⟨rfl, rfl⟩⟩
    obtain ⟨rfl, rfl⟩ := hJ
    rw [th1 (sm_m hM)]
    refine ⟨fun h => absurd h (by decide), fun _ => hK0 _ hr (by rw [vI_u, if_pos ⟨rfl, rfl⟩]) ?_ ?_ (fun c a hc => ?_) (fun k a i hk => ?_)⟩
    · rw [vI_u, if_neg (fun q => absurd q.1 (by decide)), e10, vI_u, if_neg (fun q => absurd q.1 (by decide)), F7.1 1034 m (by decide) (by decide) (by decide) (by decide)]
      exact i34
    · rw [vI_u, if_neg (fun q => absurd q.1 (by decide)), e10, vI_u, if_pos ⟨rfl, rfl⟩]
    · have hc' := hc
      simp only [List.mem_cons, List.not_mem_nil, or_false, not_or] at hc'
      rw [vI_u, if_neg (fun q => hc'.1 q.1), e10, vI_u, if_neg (fun q => hc'.2.2.2.2.2.2.2 q.1), F7.1 c a hc'.2.2.2.2.1 hc'.2.2.2.2.2.2.1 hc'.2.1 hc'.2.2.1]
      exact fI c a hc
    · rw [rA_uI, e10, rA_uI, F7.2 k a i hk]
      exact fA k a i
  · refine ⟨fun x w' => x = -1 ∧ w' = w7, fun x7 w8 hJ w10 e10 => ?_, fun _ => ⟨rfl, rfl⟩, fun h => absurd ?_ h⟩
    · obtain ⟨rfl, rfl⟩ := hJ
      refine ⟨fun x w' => x = 0 ∧ w' = w10, fun x12 w13 hJ => ?_, fun _ => ⟨rfl, rfl⟩, fun h => absurd ?_ h⟩
      · obtain ⟨rfl, rfl⟩ := hJ
        rw [th0 (sm_m hM)]
        refine ⟨fun _ w18 e18 w19 e19 => ?_, fun h => absurd rfl h⟩
        have q30 : vI w13 1030 m = nI R.2.2.2.2.length := by rw [e10, vI_u, if_neg (fun q => absurd q.1 (by decide))]; exact e30
        have q32 : vI w18 1032 m = R.2.2.2.1 := by rw [e18, vI_u, if_neg (fun q => absurd q.1 (by decide)), e10, vI_u, if_neg (fun q => absurd q.1 (by decide))]; exact e32
        rw [q30] at e18
        rw [q32] at e19
        have E2 : w19 = uI (uI (uI w8 1038 m (-1)) 1029 m (nI R.2.2.2.2.length)) 1031 m R.2.2.2.1 := by rw [e19, e18, e10]
        refine cp_m hM hlen (by rw [E2]; simp [vI_u]) (fun w20 g1 g2 g3 => hK1 w20 hr ?_ ?_ ?_ ?_ ?_ hlen (fun i hi => ?_) (fun c a hc => ?_) (fun k a i hk => ?_))
        · rw [g1, E2]
          simp [vI_u]
          rw [F7.1 1000 m (by decide) (by decide) (by decide) (by decide)]
          exact i0
        · rw [g1, E2]
          simp [vI_u]
          rw [F7.1 1034 m (by decide) (by decide) (by decide) (by decide)]
          exact i34
        · rw [g1, E2]
          simp [vI_u]
        · rw [g1, E2]
          simp [vI_u]
        · rw [g1, E2]
          simp [vI_u]
        · have a := hC i hi
          have b : ∀ j, vA w19 2028 (M 1028) j = vA w8 2028 (M 1028) j := fun j => by rw [E2]; rfl
          rw [g3 (5 * i + 0) (by omega), g3 (5 * i + 1) (by omega), g3 (5 * i + 2) (by omega), g3 (5 * i + 3) (by omega), g3 (5 * i + 4) (by omega), b, b, b, b, b]
          exact a
        · have hc' := hc
          simp only [List.mem_cons, List.not_mem_nil, or_false, not_or] at hc'
          have e9 : vI w19 c a = vI w8 c a := by
            rw [E2]
            simp [vI_u, hc']
          rw [g1, e9, F7.1 c a hc'.2.2.2.2.2.2.1 hc'.2.2.2.2.2.2.2.2.1 hc'.2.2.1 hc'.2.2.2.2.1]
          refine fI c a ?_
          simp only [List.mem_cons, List.not_mem_nil, or_false, not_or]
          exact ⟨hc'.1, hc'.2.2.1, hc'.2.2.2.2.1, hc'.2.2.2.2.2.1, hc'.2.2.2.2.2.2.1, hc'.2.2.2.2.2.2.2.1, hc'.2.2.2.2.2.2.2.2.1, hc'.2.2.2.2.2.2.2.2.2⟩
        · simp only [List.mem_cons, List.not_mem_nil, or_false, not_or] at hk
          have e9 : vA w19 k a i = vA w8 k a i := by rw [E2]; rfl
          rw [g2 k a i hk.1, e9, F7.2 k a i hk.2]
          exact fA k a i
      · exact nI_pos' (by have := hcnt hr; omega)
    · exact nI_pos' (by have := hcnt hr; omega)
end LM
/-! PURE PART: rights -/
def swB (B : Nat → Nat → Nat → Nat) : Nat → Nat → Nat → Nat := fun k i j => if k = 901 then B 902 i j else if k = 902 then B 901 i j else if 400 ≤ k ∧ k ≤ 404 then B k (1 - i) j else B k i j
theorem SC.sw {z : Zt} {x t : Nat} {B : Nat → Nat → Nat → Nat} {N : Nat → Nat → Nat} (hS : SC z x t B N) : SC (uR (uR z 902 x (some (B 901 0 0))) 901 x (some (B 902 0 0))) x t (swB B) N := by
  have he : ∀ c b, ¬ c = 901 → ¬ c = 902 → zR (uR (uR z 902 x (some (B 901 0 0))) 901 x (some (B 902 0 0))) c b = zR z c b := fun c b h1 h2 => by
    rw [zR_u, if_neg (fun q => h1 q.1), zR_u, if_neg (fun q => h2 q.1)]
  refine ⟨⟨(show isO z 9 x from sc_x hS), (show isO z 3000 t from sc_t hS), ((he 900 _ (by decide) (by decide)).trans (sc_900 hS).1), (sc_900 hS).2, (by rw [zR_u, if_pos ⟨rfl, rfl⟩]; rfl), (sc_902 hS).2, (by rw [zR_u, if_neg (fun q => absurd q.1 (by decide)), zR_u, if_pos ⟨rfl, rfl⟩]; rfl), (sc_901 hS).2, ((he 904 _ (by decide) (by decide)).trans (sc_904 hS).1), (sc_904 hS).2, ((he 906 _ (by decide) (by decide)).trans (sc_906 hS).1), (sc_906 hS).2, ((he 907 _ (by decide) (by decide)).trans (sc_907 hS).1), (sc_907 hS).2, ((he 909 _ (by decide) (by decide)).trans (sc_909 hS).1), (sc_909 hS).2, ((he 911 _ (by decide) (by decide)).trans (sc_911 hS).1), (sc_911 hS).2, ((he 912 _ (by decide) (by decide)).trans (sc_912 hS).1), (sc_912 hS).2, ((he 913 _ (by decide) (by decide)).trans (sc_913 hS).1), (sc_913 hS).2, ((he 800 _ (by decide) (by decide)).trans (sc_800 hS).1), (sc_800 hS).2, ((he 700 _ (by decide) (by decide)).trans (sc_700 hS).1), (sc_700 hS).2, ((he 701 _ (by decide) (by decide)).trans (sc_701 hS).1), (sc_701 hS).2, ((he 702 _ (by decide) (by decide)).trans (sc_702 hS).1), (sc_702 hS).2, ((he 703 _ (by decide) (by decide)).trans (sc_703 hS).1), (sc_703 hS).2, ((he 704 _ (by decide) (by decide)).trans (sc_704 hS).1), (sc_704 hS).2, ((he 100 _ (by decide) (by decide)).trans (sc_100 hS).1), (sc_100 hS).2, ((he 101 _ (by decide) (by decide)).trans (sc_101 hS).1), (sc_101 hS).2, ((he 102 _ (by decide) (by decide)).trans (sc_102 hS).1), (sc_102 hS).2, ((he 104 _ (by decide) (by decide)).trans (sc_104 hS).1), (sc_104 hS).2, ((he 105 _ (by decide) (by decide)).trans (sc_105 hS).1), (sc_105 hS).2, ((he 400 _ (by decide) (by decide)).trans (sc_400s hS).1), (sc_400s hS).2, ((he 401 _ (by decide) (by decide)).trans (sc_401s hS).1), (sc_401s hS).2, ((he 402 _ (by decide) (by decide)).trans (sc_402s hS).1), (sc_402s hS).2, ((he 403 _ (by decide) (by decide)).trans (sc_403s hS).1), (sc_403s hS).2, ((he 404 _ (by decide) (by decide)).trans (sc_404s hS).1), (sc_404s hS).2, ((he 400 _ (by decide) (by decide)).trans (sc_400 hS).1), (sc_400 hS).2, ((he 401 _ (by decide) (by decide)).trans (sc_401 hS).1), (sc_401 hS).2, ((he 402 _ (by decide) (by decide)).trans (sc_402 hS).1), (sc_402 hS).2, ((he 403 _ (by decide) (by decide)).trans (sc_403 hS).1), (sc_403 hS).2, ((he 404 _ (by decide) (by decide)).trans (sc_404 hS).1), (sc_404 hS).2, (Ne.symm (sc_ne901 hS)), (Ne.symm (sc_ne400 hS)), (Ne.symm (sc_ne401 hS)), (Ne.symm (sc_ne402 hS)), (Ne.symm (sc_ne403 hS)), (Ne.symm (sc_ne404 hS))⟩, ⟨fun i hi => ?_, hS.2.1.2⟩, ⟨hS.2.2.1.1, hS.2.2.1.2.1, fun i hi => ?_, hS.2.2.1.2.2.2⟩, hS.2.2.2.1, ⟨hS.2.2.2.2.1.1, hS.2.2.2.2.1.2.1, fun i hi => ?_, hS.2.2.2.2.1.2.2.2⟩, hS.2.2.2.2.2⟩
  · obtain ⟨a1, a2, a3, a4⟩ := hS.2.1.1 i hi
    exact ⟨a1, a2, (he 0 _ (by decide) (by decide)).trans a3, a4⟩
  · obtain ⟨a1, a2, a3, a4⟩ := hS.2.2.1.2.2.1 i hi
    exact ⟨a1, (he 600 _ (by decide) (by decide)).trans a2, a3, a4⟩
  · obtain ⟨a1, a2, a3⟩ := hS.2.2.2.2.1.2.2.1 i hi
    exact ⟨a1, (he 300 _ (by decide) (by decide)).trans a2, a3⟩
section RC
variable {z : Zt} {x t n : Nat} {B : Nat → Nat → Nat → Nat} {N : Nat → Nat → Nat} {w0 w : Vt} {M : Nat → Nat}
theorem rights_c {K : Int32 → Zt → Vt → Prop} {X : Nat → Vt → Prop} {sh : Int32} {R : Bool × Nat × Nat × Int32 × List Pv} (hS : SC z x t B N) (hT : tapC B w0 M n w) (hn : n ≤ 400) (esh : vI w 905 x = sh) (hR : R = pL (btI w0 M n) (byI w0 M) n sh (n + 1) 0 0 2 [])
    (hX : ∀ w1 : Vt, R.1 = false → vI w1 801 (B 900 0 0) = 0 → vI w1 903 x = nI R.2.1 → (∀ c a, ¬ c ∈ [801, 802, 803, 903] → ¬ (c = 405 ∧ a = B 902 0 0) → ¬ (c = 406 ∧ a = B 902 0 0) → vI w1 c a = vI w c a) → (∀ k a i, ¬ (k = 1400 ∧ a = B 400 1 0) → ¬ (k = 1401 ∧ a = B 401 1 0) → ¬ (k = 1402 ∧ a = B 402 1 0) → ¬ (k = 1403 ∧ a = B 403 1 0) → ¬ (k = 1404 ∧ a = B 404 1 0) → vA w1 k a i = vA w k a i) → X 2 w1)
    (hK : ∀ w1 : Vt, R.1 = true → R.2.2.1 ≤ 400 → vI w1 801 (B 900 0 0) = 0 → vI w1 903 x = -1 → vI w1 406 (B 902 0 0) = R.2.2.2.1 → tcP B w1 R.2.2.2.2 → R.2.2.2.2.length ≤ 14 → (∀ c a, ¬ c ∈ [801, 802, 803, 903, 405, 406] → vI w1 c a = vI w c a) → (∀ k a i, ¬ k ∈ [1400, 1401, 1402, 1403, 1404] → vA w1 k a i = vA w k a i) → K (nI R.2.2.1) (uR (uR z 902 x (some (B 901 0 0))) 901 x (some (B 902 0 0))) w1) : wp_X9_rights z x w K X := by
  unfold wp_X9_rights wp_X8_readsRights wp_X4_forgetAll
  refine ⟨sc_x hS, B 900 0 0, (sc_900 hS).1, (sc_900 hS).2, B 902 0 0, (sc_902 hS).1, (sc_902 hS).2, (sc_900 hS).2, (sc_902 hS).2, (sc_902 hS).2, fun w1 e1 w2 e2 w3 e3 w4 e4 => ⟨n + 1, ?_⟩⟩
  have E : w4 = uI (uI (uI (uI w 405 (B 902 0 0) 0) 406 (B 902 0 0) 2) 802 (B 900 0 0) 0) 803 (B 900 0 0) 1 := by rw [e4, e3, e2, e1]
  have hF4 : frK B w w4 := by
    rw [E]
    exact ((((frK.rfl w).u (Or.inr (Or.inr (Or.inl ⟨rfl, rfl⟩)))).u (Or.inr (Or.inr (Or.inr ⟨rfl, rfl⟩)))).u (Or.inl rfl)).u (Or.inr (Or.inl rfl))
  rw [esh]
  refine lp_c (w := w) (w0 := w0) (M := M) (R := R) hS hn (fun w5 hr e5 _ F5 => ?_) (fun w5 hr e5 hcnt e6 hC hlen F5 => ?_) (n + 1) 0 0 2 [] w4 hR (by omega) (by omega) (by simp) (by omega) (hT.k hF4) (by rw [E]; simp [vI_u]; rfl) (by rw [E]; simp [vI_u]; rfl) ⟨by rw [E]; simp [vI_u]; rfl, fun i hi => absurd hi (Nat.not_lt_zero _)⟩ (by rw [E]; simp [vI_u]) hF4
  · intro w6 e6
    refine ⟨fun v w' => v = nI R.2.1 ∧ w' = w6, fun x7 w8 hJ w10 e10 => ?_, fun _ => ⟨?_, rfl⟩, fun h => absurd rfl h⟩
    · obtain ⟨rfl, rfl⟩ := hJ
      have E2 : w10 = uI (uI w5 801 (B 900 0 0) 0) 903 x (nI R.2.1) := by rw [e10, e6]
      refine ⟨fun h => absurd rfl h, fun _ => hX w10 hr ?_ ?_ (fun c a hc h1 h2 => ?_) (fun k a i h1 h2 h3 h4 h5 => ?_)⟩
      · rw [E2]; simp [vI_u]
      · rw [E2]; simp [vI_u]
      · simp only [List.mem_cons, List.not_mem_nil, or_false, not_or] at hc
        rw [E2]
        simp [vI_u, hc]
        exact F5.1 c a hc.2.1 hc.2.2.1 h1 h2
      · rw [E2, rA_uI, rA_uI]
        exact F5.2 k a i h1 h2 h3 h4 h5
    · rw [e6, vI_u, if_neg (fun q => absurd q.1 (by decide))]
      exact e5
  · intro w6 e6'
    refine ⟨fun v w' => v = -1 ∧ w' = w6, fun x7 w8 hJ w10 e10 => ?_, fun h => absurd h (by decide), fun _ => ⟨rfl, rfl⟩⟩
    obtain ⟨rfl, rfl⟩ := hJ
    have E2 : w10 = uI (uI w5 801 (B 900 0 0) 0) 903 x (-1) := by rw [e10, e6']
    refine ⟨fun _ => ⟨B 901 0 0, (sc_901 hS).1, (sc_901 hS).2, fun z1 ez1 => ⟨?_, ?_, fun z2 ez2 => ⟨?_, ?_, B 900 0 0, ?_, ?_, ?_⟩⟩⟩, fun h => absurd h (by decide)⟩
    · rw [ez1]; exact (sc_902 hS).2
    · rw [ez1]; exact show isO z 9 x from sc_x hS
    · rw [ez2, ez1]; exact (sc_902 hS).2
    · rw [ez2, ez1]; exact show isO z 9 x from sc_x hS
    · rw [ez2, ez1, zR_u, if_neg (fun q => absurd q.1 (by decide)), zR_u, if_neg (fun q => absurd q.1 (by decide))]
      exact (sc_900 hS).1
    · rw [ez2, ez1]; exact (sc_900 hS).2
    · have e803 : vI w10 803 (B 900 0 0) = nI R.2.2.1 := by
        rw [E2]
        simp [vI_u]
        exact e5
      rw [e803, ez2, ez1]
      refine hK w10 hr hcnt ?_ ?_ ?_ ?_ hlen (fun c a hc => ?_) (fun k a i hk => ?_)
      · rw [E2]; simp [vI_u]
      · rw [E2]; simp [vI_u]
      · rw [E2]; simp [vI_u]; exact e6
      · rw [E2]
        exact (hC.u (by decide)).u (by decide)
      · simp only [List.mem_cons, List.not_mem_nil, or_false, not_or] at hc
        rw [E2]
        simp [vI_u, hc]
        exact F5.1 c a hc.2.1 hc.2.2.1 (fun q => hc.2.2.2.2.1 q.1) (fun q => hc.2.2.2.2.2 q.1)
      · simp only [List.mem_cons, List.not_mem_nil, or_false, not_or] at hk
        rw [E2, rA_uI, rA_uI]
        exact F5.2 k a i (fun q => hk.1 q.1) (fun q => hk.2.1 q.1) (fun q => hk.2.2.1 q.1) (fun q => hk.2.2.2.1 q.1) (fun q => hk.2.2.2.2 q.1)
end RC
theorem ne_of_in {l l2 : List Nat} {c : Nat} (hd : ∀ c ∈ l, ¬ c ∈ l2) (h : c ∈ l) : ¬ c ∈ l2 := hd c h
theorem lw_ok_5 (x m t : Nat) : ok_5 (lw_I x m t) x m t := by
  intro k zc wc zm wm hk hI
  obtain ⟨B, N, M, hS, hM, hV⟩ := id hI
  obtain ⟨hTim, hTap, hRig, hSho, hRoc, hFam, hPit, hLot, hSto, hFor⟩ := id hV
  have hox := sc_x hS
  have hot := sc_t hS
  have hom := sm_m hM
  obtain ⟨T1, T2, ⟨n, hn, T3⟩, T4⟩ := hTap
  unfold wc_5 wp_L_rights
  have hT : tapC B wm M n wc := ⟨T1.trans T3, fun i hi => (T4 i hi).1⟩
  have hB : byB wm M := fun i hi => (T4 i hi).2
  have esc : vI wc 905 x = nI (N 905 0) := hSho.1
  have esm : vI wm 1014 m = nI (N 905 0) := hSho.2.1
  refine ⟨hox, hot, rights_c hS hT hn esc rfl (fun w1 hr a1 a2 f1 f2 => ⟨rfl, ?_⟩) (fun w1 hr hcnt a1 a2 a3 hC hlen f1 f2 => ⟨hot, fun w2 e2 => ?_⟩)⟩
  · refine ⟨hom, rights_m hM hn hB T3 esm rfl (fun h => by rw [hr] at h; cases h) (fun w2 hr2 b0 b1 b2 g1 g2 => ⟨hom, (thr hom _ _).mpr ⟨b0, fun _ => ?_, fun h => absurd h (by decide)⟩⟩) (fun w2 hr2 => by rw [hr] at hr2; cases hr2)⟩
    have f3 : ∀ cs ks : List Nat, (∀ c ∈ cs, ¬ c ∈ [801, 802, 803, 903, 405, 406]) → (∀ c ∈ ks, ¬ c ∈ [1400, 1401, 1402, 1403, 1404]) → frW cs ks wc w1 := fun cs ks h1 h2 => ⟨fun c hc a => by
      have h := h1 c hc
      simp only [List.mem_cons, List.not_mem_nil, or_false, not_or] at h
      exact f1 c a (by simp only [List.mem_cons, List.not_mem_nil, or_false, not_or]; exact ⟨h.1, h.2.1, h.2.2.1, h.2.2.2.1⟩) (fun q => h.2.2.2.2.1 q.1) (fun q => h.2.2.2.2.2 q.1), fun c hc a i => by
      have h := h2 c hc
      simp only [List.mem_cons, List.not_mem_nil, or_false, not_or] at h
      exact f2 c a i (fun q => h.1 q.1) (fun q => h.2.1 q.1) (fun q => h.2.2.1 q.1) (fun q => h.2.2.2.1 q.1) (fun q => h.2.2.2.2 q.1)⟩
    have g3 : ∀ cs ks : List Nat, (∀ c ∈ cs, ¬ c ∈ [1000, 1030, 1032, 1034, 1035, 1036, 1037, 1038]) → (∀ c ∈ ks, ¬ c = 2028) → frW cs ks wm w2 := fun cs ks h1 h2 => ⟨fun c hc a => g1 c a (h1 c hc), fun c hc a i => g2 c a i (h2 c hc)⟩
    refine ⟨B, N, M, hS, hM, hTim.fr (f3 _ _ (by decide) (by decide)) (g3 _ _ (by decide) (by decide)), ?_, ?_, hSho.fr (f3 _ _ (by decide) (by decide)) (g3 _ _ (by decide) (by decide)), hRoc.fr (f3 _ _ (by decide) (by decide)) (g3 _ _ (by decide) (by decide)), (hFam.mono (Nat.le_succ k)).fr (f3 _ _ (by decide) (by decide)) (g3 _ _ (by decide) (by decide)), hPit.fr (f3 _ _ (by decide) (by decide)) (g3 _ _ (by decide) (by decide)), hLot.fr (f3 _ _ (by decide) (by decide)) (g3 _ _ (by decide) (by decide)), hSto.fr (f3 _ _ (by decide) (by decide)) (g3 _ _ (by decide) (by decide)), hFor.fr (f3 _ _ (by decide) (by decide)) (g3 _ _ (by decide) (by decide))⟩
    · refine ⟨a1.trans b1.symm, a2.trans b2.symm, ⟨0, by omega, b1⟩, fun i hi => ?_⟩
      rw [f2 1800 _ i (fun q => absurd q.1 (by decide)) (fun q => absurd q.1 (by decide)) (fun q => absurd q.1 (by decide)) (fun q => absurd q.1 (by decide)) (fun q => absurd q.1 (by decide)), g2 2033 _ i (by decide)]
      exact T4 i hi
    · obtain ⟨c1, c2, n', hn', c3, c4⟩ := hRig
      have hne := sc_ne901 hS
      refine ⟨?_, ?_, n', hn', ?_, fun i hi => ?_⟩
      · rw [f1 406 _ (by decide) (fun q => absurd q.1 (by decide)) (fun q => hne q.2), g1 1031 _ (by decide)]
        exact c1
      · rw [f1 405 _ (by decide) (fun q => hne q.2) (fun q => absurd q.1 (by decide)), g1 1029 _ (by decide)]
        exact c2
      · rw [g1 1029 _ (by decide)]
        exact c3
      · have d := c4 i hi
        rw [f2 1400 _ i (fun q => sc_ne400 hS q.2) (fun q => absurd q.1 (by decide)) (fun q => absurd q.1 (by decide)) (fun q => absurd q.1 (by decide)) (fun q => absurd q.1 (by decide))]
        rw [f2 1401 _ i (fun q => absurd q.1 (by decide)) (fun q => sc_ne401 hS q.2) (fun q => absurd q.1 (by decide)) (fun q => absurd q.1 (by decide)) (fun q => absurd q.1 (by decide))]
        rw [f2 1402 _ i (fun q => absurd q.1 (by decide)) (fun q => absurd q.1 (by decide)) (fun q => sc_ne402 hS q.2) (fun q => absurd q.1 (by decide)) (fun q => absurd q.1 (by decide))]
        rw [f2 1403 _ i (fun q => absurd q.1 (by decide)) (fun q => absurd q.1 (by decide)) (fun q => absurd q.1 (by decide)) (fun q => sc_ne403 hS q.2) (fun q => absurd q.1 (by decide))]
        rw [f2 1404 _ i (fun q => absurd q.1 (by decide)) (fun q => absurd q.1 (by decide)) (fun q => absurd q.1 (by decide)) (fun q => absurd q.1 (by decide)) (fun q => sc_ne404 hS q.2)]
        rw [g2 2027 _ (5 * i) (by decide)]
        rw [g2 2027 _ (5 * i + 1) (by decide)]
        rw [g2 2027 _ (5 * i + 2) (by decide)]
        rw [g2 2027 _ (5 * i + 3) (by decide)]
        rw [g2 2027 _ (5 * i + 4) (by decide)]
        exact d
  · refine ⟨hom, rights_m hM hn hB T3 esm rfl (fun _ => hcnt) (fun w3 hr2 => by rw [hr] at hr2; cases hr2) (fun w3 hr2 b0 b1 b2 b3 b4 _ bC g1 g2 => ⟨hom, (thr hom _ _).mpr ⟨b0, fun h => absurd rfl h, fun _ => ⟨hot, ?_, ?_⟩⟩⟩)⟩
    · rw [e2, rL_u, if_pos ⟨rfl, rfl, rfl⟩]
    · have f3 : ∀ cs ks : List Nat, (∀ c ∈ cs, ¬ c ∈ [801, 802, 803, 903, 405, 406]) → (∀ c ∈ ks, ¬ c ∈ [1400, 1401, 1402, 1403, 1404]) → frW cs ks wc w2 := fun cs ks h1 h2 => ⟨fun c hc a => by rw [e2]; exact f1 c a (h1 c hc), fun c hc a i => by rw [e2]; exact f2 c a i (h2 c hc)⟩
      have g3 : ∀ cs ks : List Nat, (∀ c ∈ cs, ¬ c ∈ [1000, 1029, 1030, 1031, 1032, 1034, 1035, 1036, 1037, 1038]) → (∀ c ∈ ks, ¬ c ∈ [2027, 2028]) → frW cs ks wm w3 := fun cs ks h1 h2 => ⟨fun c hc a => g1 c a (h1 c hc), fun c hc a i => g2 c a i (h2 c hc)⟩
      refine ⟨swB B, N, M, hS.sw, hM, hTim.fr (f3 _ _ (by decide) (by decide)) (g3 _ _ (by decide) (by decide)), ?_, ?_, hSho.fr (f3 _ _ (by decide) (by decide)) (g3 _ _ (by decide) (by decide)), hRoc.fr (f3 _ _ (by decide) (by decide)) (g3 _ _ (by decide) (by decide)), (hFam.mono (Nat.le_succ k)).fr (f3 _ _ (by decide) (by decide)) (g3 _ _ (by decide) (by decide)), hPit.fr (f3 _ _ (by decide) (by decide)) (g3 _ _ (by decide) (by decide)), hLot.fr (f3 _ _ (by decide) (by decide)) (g3 _ _ (by decide) (by decide)), hSto.fr (f3 _ _ (by decide) (by decide)) (g3 _ _ (by decide) (by decide)), hFor.fr (f3 _ _ (by decide) (by decide)) (g3 _ _ (by decide) (by decide))⟩
      · refine ⟨?_, ?_, ⟨0, by omega, b1⟩, fun i hi => ?_⟩
        · show vI w2 801 (B 900 0 0) = _
          rw [e2]
          exact a1.trans b1.symm
        · rw [e2]
          exact a2.trans b2.symm
        · show vA w2 1800 (B 800 0 0) i = _ ∧ _
          rw [e2, rA_uL, f2 1800 _ i (by decide), g2 2033 _ i (by decide)]
          exact T4 i hi
      · refine ⟨?_, ?_, _, hlen, b3, fun i hi => ?_⟩
        · show vI w2 406 (B 902 0 0) = _
          rw [e2]
          exact a3.trans b4.symm
        · show vI w2 405 (B 902 0 0) = _
          rw [e2]
          exact hC.1.trans b3.symm
        · obtain ⟨p1, p2, p3, p4, p5⟩ := hC.2 i hi
          obtain ⟨q1, q2, q3, q4, q5⟩ := bC i hi
          show vA w2 1400 (B 400 1 0) i = _ ∧ vA w2 1401 (B 401 1 0) i = _ ∧ vA w2 1402 (B 402 1 0) i = _ ∧ vA w2 1403 (B 403 1 0) i = _ ∧ vA w2 1404 (B 404 1 0) i = _
          rw [e2]
          exact ⟨p1.trans q1.symm, p2.trans q2.symm, p3.trans q3.symm, p4.trans q4.symm, p5.trans q5.symm⟩
/-! PURE PART: the best use of foretold days -/
/-- the most that one lighting burns, with k days left -/
def pS (lo dr li : Nat → Bool) : Nat → Nat → Nat → Nat → Nat
  | 0, _, _, _ => 0
  | k + 1, d, w, r => max (max (if li d = true then r else 0) (pS lo dr li k (d + 1) w r)) (max (if lo d = true then pS lo dr li k (d + 1) (w + 1) r else 0) (if dr d = true ∧ 0 < w then pS lo dr li k (d + 1) (w - 1) (r + 1) else 0))
/-- the most that any lightings burn -/
def pV (lo dr li : Nat → Bool) : Nat → Nat → Nat → Nat → Nat
  | 0, _, _, _ => 0
  | k + 1, d, w, r => max (max (max (pV lo dr li k (d + 1) w r) (if lo d = true then pV lo dr li k (d + 1) (w + 1) r else 0)) (if dr d = true ∧ 0 < w then pV lo dr li k (d + 1) (w - 1) (r + 1) else 0)) (if li d = true ∧ 0 < r then r + pV lo dr li k (d + 1) w 0 else 0)
section PS
variable {lo dr li : Nat → Bool}
theorem pS_shift (r : Nat) : ∀ k d w s, pS lo dr li k d w s + r ≤ max (pS lo dr li k d w (s + r)) r := by
  intro k
  induction k with
  | zero => intro d w s; simp only [pS]; omega
  | succ k ih =>
    intro d w s
    have a1 := ih (d + 1) w s
    have a2 := ih (d + 1) (w + 1) s
    have a3 := ih (d + 1) (w - 1) (s + 1)
    rw [show s + 1 + r = s + r + 1 by omega] at a3
    simp only [pS]
    by_cases h1 : li d = true <;> by_cases h2 : lo d = true <;> by_cases h3 : dr d = true ∧ 0 < w <;> (first | simp only [if_pos h1] | simp only [if_neg h1]) <;> (first | simp only [if_pos h2] | simp only [if_neg h2]) <;> (first | simp only [if_pos h3] | simp only [if_neg h3]) <;> omega
theorem pS_mono {r r' : Nat} (h : r ≤ r') : ∀ k d w s, pS lo dr li k d w (s + r) ≤ pS lo dr li k d w (s + r') := by
  intro k
  induction k with
  | zero => intro d w s; exact Nat.le_refl _
  | succ k ih =>
    intro d w s
    have a1 := ih (d + 1) w s
    have a2 := ih (d + 1) (w + 1) s
    have a3 := ih (d + 1) (w - 1) (s + 1)
    rw [show s + 1 + r = s + r + 1 by omega, show s + 1 + r' = s + r' + 1 by omega] at a3
    simp only [pS]
    by_cases h1 : li d = true <;> by_cases h2 : lo d = true <;> by_cases h3 : dr d = true ∧ 0 < w <;> (first | simp only [if_pos h1] | simp only [if_neg h1]) <;> (first | simp only [if_pos h2] | simp only [if_neg h2]) <;> (first | simp only [if_pos h3] | simp only [if_neg h3]) <;> omega
theorem pS_mono' {r r' : Nat} (h : r ≤ r') (k d w : Nat) : pS lo dr li k d w r ≤ pS lo dr li k d w r' := by
  have := pS_mono (lo := lo) (dr := dr) (li := li) h k d w 0
  rw [Nat.zero_add, Nat.zero_add] at this
  exact this
theorem pV_pS : ∀ k d w r, pV lo dr li k d w r = pS lo dr li k d w r := by
  intro k
  induction k with
  | zero => intro d w r; rfl
  | succ k ih =>
    intro d w r
    have a1 := pS_shift (lo := lo) (dr := dr) (li := li) r k (d + 1) w 0
    rw [Nat.zero_add] at a1
    simp only [pV, pS, ih]
    by_cases h1 : li d = true
    · by_cases h0 : 0 < r
      · have h4 : li d = true ∧ 0 < r := ⟨h1, h0⟩
        simp only [if_pos h1, if_pos h4]
        by_cases h2 : lo d = true <;> by_cases h3 : dr d = true ∧ 0 < w <;> (first | simp only [if_pos h2] | simp only [if_neg h2]) <;> (first | simp only [if_pos h3] | simp only [if_neg h3]) <;> omega
      · have hr : r = 0 := by omega
        subst hr
        have h4 : ¬ (li d = true ∧ 0 < 0) := fun q => absurd q.2 (Nat.lt_irrefl 0)
        simp only [if_pos h1, if_neg h4]
        by_cases h2 : lo d = true <;> by_cases h3 : dr d = true ∧ 0 < w <;> (first | simp only [if_pos h2] | simp only [if_neg h2]) <;> (first | simp only [if_pos h3] | simp only [if_neg h3]) <;> omega
    · have h4 : ¬ (li d = true ∧ 0 < r) := fun q => h1 q.1
      simp only [if_neg h1, if_neg h4]
      by_cases h2 : lo d = true <;> by_cases h3 : dr d = true ∧ 0 < w <;> (first | simp only [if_pos h2] | simp only [if_neg h2]) <;> (first | simp only [if_pos h3] | simp only [if_neg h3]) <;> omega
theorem pV_le : ∀ k d w r, pV lo dr li k d w r ≤ w + r + k := by
  intro k
  induction k with
  | zero => intro d w r; exact Nat.zero_le _
  | succ k ih =>
    intro d w r
    have a1 := ih (d + 1) w r
    have a2 := ih (d + 1) (w + 1) r
    have a3 := ih (d + 1) (w - 1) (r + 1)
    have a4 := ih (d + 1) w 0
    simp only [pV]
    by_cases h1 : li d = true ∧ 0 < r <;> by_cases h2 : lo d = true <;> by_cases h3 : dr d = true ∧ 0 < w <;> (first | simp only [if_pos h1] | simp only [if_neg h1]) <;> (first | simp only [if_pos h2] | simp only [if_neg h2]) <;> (first | simp only [if_pos h3] | simp only [if_neg h3]) <;> omega
/-- the class's table at day d: D w the most dry loads beside w wet ones, -1 if that can't be -/
def pI (lo dr li : Nat → Bool) (T n d : Nat) (D : Nat → Int) (m : Nat) : Prop := (m ≤ T ∧ ∀ w, w ≤ 16 → 0 ≤ D w → pS lo dr li (n - d) d w (D w).toNat ≤ T) ∧ (T ≤ m ∨ ∃ w, w ≤ 16 ∧ 0 ≤ D w ∧ T ≤ pS lo dr li (n - d) d w (D w).toNat) ∧ ∀ w, w ≤ 16 → -1 ≤ D w ∧ D w ≤ d ∧ (0 ≤ D w → w ≤ d)
theorem pI_step {T n d m m' : Nat} {D D' : Nat → Int} (h : pI lo dr li T n d D m) (hd : d < n) (hn : n ≤ 16)
    (h1 : ∀ w, w ≤ 16 → D' w = D w ∨ (lo d = true ∧ 1 ≤ w ∧ D' w = D (w - 1)) ∨ (dr d = true ∧ w ≤ 15 ∧ 0 ≤ D (w + 1) ∧ D' w = D (w + 1) + 1))
    (h2 : ∀ w, w ≤ 16 → D w ≤ D' w ∧ (lo d = true → 1 ≤ w → D (w - 1) ≤ D' w) ∧ (dr d = true → w ≤ 15 → 0 ≤ D (w + 1) → D (w + 1) + 1 ≤ D' w))
    (hm1 : m ≤ m' ∧ (li d = true → ∀ w, w ≤ 16 → D w ≤ m')) (hm2 : m' = m ∨ (li d = true ∧ ∃ w, w ≤ 16 ∧ (m' : Int) = D w)) : pI lo dr li T n (d + 1) D' m' := by
  obtain ⟨⟨a1, a2⟩, b, c⟩ := h
  have ek : n - d = (n - (d + 1)) + 1 := by omega
  rw [ek] at a2 b
  unfold pI
  generalize n - (d + 1) = k at *
  refine ⟨⟨?_, fun w hw h0 => ?_⟩, ?_, fun w hw => ?_⟩
  · rcases hm2 with e | ⟨hl, w, hw, e⟩
    · omega
    · have h0 : 0 ≤ D w := by omega
      have := a2 w hw h0
      simp only [pS, hl, if_true] at this
      omega
  · rcases h1 w hw with e | ⟨hl, hw1, e⟩ | ⟨hl, hw1, h00, e⟩
    · rw [e] at h0 ⊢
      have := a2 w hw h0
      simp only [pS] at this
      omega
    · rw [e] at h0 ⊢
      have := a2 (w - 1) (by omega) h0
      simp only [pS, hl, if_true] at this
      rw [show w - 1 + 1 = w by omega] at this
      omega
    · rw [e]
      have := a2 (w + 1) (by omega) h00
      simp only [pS, hl, true_and, show 0 < w + 1 by omega, if_true, Nat.add_sub_cancel] at this
      rw [show (D (w + 1) + 1).toNat = (D (w + 1)).toNat + 1 by omega]
      omega
  · rcases b with b | ⟨w, hw, h0, b⟩
    · exact Or.inl (by omega)
    · have hwd := (c w hw).2.2 h0
      simp only [pS] at b
      obtain ⟨g1, -, -⟩ := h2 w hw
      have s1 := pS_mono' (lo := lo) (dr := dr) (li := li) (show (D w).toNat ≤ (D' w).toNat by omega) k (d + 1) w
      have t1 : T ≤ pS lo dr li k (d + 1) w (D w).toNat → T ≤ m' ∨ ∃ w, w ≤ 16 ∧ 0 ≤ D' w ∧ T ≤ pS lo dr li k (d + 1) w (D' w).toNat := fun q => Or.inr ⟨w, hw, by omega, by omega⟩
      have t2 : lo d = true → T ≤ pS lo dr li k (d + 1) (w + 1) (D w).toNat → T ≤ m' ∨ ∃ w, w ≤ 16 ∧ 0 ≤ D' w ∧ T ≤ pS lo dr li k (d + 1) w (D' w).toNat := fun hl q => by
        have g := (h2 (w + 1) (by omega)).2.1 hl (by omega)
        rw [Nat.add_sub_cancel] at g
        have s2 := pS_mono' (lo := lo) (dr := dr) (li := li) (show (D w).toNat ≤ (D' (w + 1)).toNat by omega) k (d + 1) (w + 1)
        exact Or.inr ⟨w + 1, by omega, by omega, by omega⟩
      have t3 : dr d = true → 0 < w → T ≤ pS lo dr li k (d + 1) (w - 1) ((D w).toNat + 1) → T ≤ m' ∨ ∃ w, w ≤ 16 ∧ 0 ≤ D' w ∧ T ≤ pS lo dr li k (d + 1) w (D' w).toNat := fun hl hw0 q => by
        have e : w - 1 + 1 = w := by omega
        have g := (h2 (w - 1) (by omega)).2.2 hl (by omega)
        rw [e] at g
        have g := g h0
        have s2 := pS_mono' (lo := lo) (dr := dr) (li := li) (show (D w).toNat + 1 ≤ (D' (w - 1)).toNat by omega) k (d + 1) (w - 1)
        exact Or.inr ⟨w - 1, by omega, by omega, by omega⟩
      have t4 : li d = true → T ≤ (D w).toNat → T ≤ m' := fun hl q => by
        have := hm1.2 hl w hw
        omega
      by_cases q1 : T ≤ pS lo dr li k (d + 1) w (D w).toNat
      · exact t1 q1
      · by_cases q2 : lo d = true ∧ T ≤ pS lo dr li k (d + 1) (w + 1) (D w).toNat
        · exact t2 q2.1 q2.2
        · by_cases q3 : (dr d = true ∧ 0 < w) ∧ T ≤ pS lo dr li k (d + 1) (w - 1) ((D w).toNat + 1)
          · exact t3 q3.1.1 q3.1.2 q3.2
          · refine Or.inl ?_
            have z2 : ¬ T ≤ (if lo d = true then pS lo dr li k (d + 1) (w + 1) (D w).toNat else 0) ∨ T = 0 := by
              by_cases hl : lo d = true
              · rw [if_pos hl]
                exact Or.inl (fun q => q2 ⟨hl, q⟩)
              · rw [if_neg hl]
                omega
            have z3 : ¬ T ≤ (if dr d = true ∧ 0 < w then pS lo dr li k (d + 1) (w - 1) ((D w).toNat + 1) else 0) ∨ T = 0 := by
              by_cases hl : dr d = true ∧ 0 < w
              · rw [if_pos hl]
                exact Or.inl (fun q => q3 ⟨hl, q⟩)
              · rw [if_neg hl]
                omega
            generalize (if lo d = true then pS lo dr li k (d + 1) (w + 1) (D w).toNat else 0) = X2 at *
            generalize (if dr d = true ∧ 0 < w then pS lo dr li k (d + 1) (w - 1) ((D w).toNat + 1) else 0) = X3 at *
            by_cases hl : li d = true
            · rw [if_pos hl] at b
              by_cases q4 : T ≤ (D w).toNat
              · exact t4 hl q4
              · omega
            · rw [if_neg hl] at b
              omega
  · obtain ⟨c1, c2, c3⟩ := c w hw
    rcases h1 w hw with e | ⟨hl, hw1, e⟩ | ⟨hl, hw1, h00, e⟩
    · rw [e]
      omega
    · rw [e]
      have := c (w - 1) (by omega)
      omega
    · rw [e]
      have := c (w + 1) (by omega)
      omega
theorem pI_end {T n m : Nat} {D : Nat → Int} (h : pI lo dr li T n n D m) : m = T := by
  obtain ⟨⟨a1, a2⟩, b, c⟩ := h
  rcases b with b | ⟨w, hw, h0, b⟩
  · omega
  · rw [Nat.sub_self] at b
    simp only [pS] at b
    omega
theorem pI_begin {n : Nat} {D : Nat → Int} (h0 : D 0 = 0) (h : ∀ w, 1 ≤ w → w ≤ 16 → D w = -1) : pI lo dr li (pS lo dr li n 0 0 0) n 0 D 0 := by
  refine ⟨⟨Nat.zero_le _, fun w hw hw0 => ?_⟩, Or.inr ⟨0, by omega, by omega, ?_⟩, fun w hw => ?_⟩
  · have e : w = 0 := by
      rcases Nat.eq_zero_or_pos w with q | q
      · exact q
      · have := h w q hw
        omega
    rw [e, h0]
    exact Nat.le_refl _
  · rw [h0]
    exact Nat.le_refl _
  · rcases Nat.eq_zero_or_pos w with q | q
    · rw [q, h0]
      omega
    · rw [h w q hw]
      omega
end PS
/-! PURE PART: plan, the class -/
def frP (w w1 : Vt) : Prop := (∀ c a, vI w1 c a = vI w c a) ∧ ∀ k a i, ¬ k = 1104 → ¬ k = 1105 → vA w1 k a i = vA w k a i
theorem frP.rfl (w : Vt) : frP w w := ⟨fun _ _ => Eq.refl _, fun _ _ _ _ _ => Eq.refl _⟩
theorem frP.trans {w w1 w2 : Vt} (h : frP w w1) (h2 : frP w1 w2) : frP w w2 := ⟨fun c a => (h2.1 c a).trans (h.1 c a), fun k a i q r => (h2.2 k a i q r).trans (h.2 k a i q r)⟩
theorem frP.u {w w1 : Vt} {k0 a0 j : Nat} {v : Int32} (h : frP w w1) (hk : k0 = 1104 ∨ k0 = 1105) : frP w (uA w1 k0 a0 j v) := ⟨h.1, fun k a i q r => by
  have hq : ¬ (k = k0 ∧ a = a0 ∧ i = j) := fun s => by
    rcases hk with g | g
    · exact q (s.1.trans g)
    · exact r (s.1.trans g)
  rw [rA_u, if_neg hq]
  exact h.2 k a i q r⟩
section PC
variable {z : Zt} {x t n : Nat} {B : Nat → Nat → Nat → Nat} {N : Nat → Nat → Nat} {w : Vt}
theorem fill_c {K : Vt → Prop} (hS : SC z x t B N) (hK : ∀ w1 : Vt, (∀ i, i < 17 → vA w1 1104 (B 104 0 0) i = -1) → frP w w1 → K w1) : wp_J7_fill_53178 z (B 104 0 0) (-1) w K := by
  have key : ∀ d k (w1 : Vt), k + d = 17 → (∀ i, i < k → vA w1 1104 (B 104 0 0) i = -1) → frP w w1 → wL_J7_fill_53178_5 z (B 104 0 0) K (fun x5 x6 x7 w8 => K w8) (d + 1) 17 (nI k) (-1) w1 := by
    intro d
    induction d with
    | zero =>
      intro k w1 hk h1 hF
      have : k = 17 := by omega
      subst this
      rw [wL_J7_fill_53178_5]
      exact ⟨fun _ => hK w1 h1 hF, fun q => absurd (nI_le (a := 17) (b := 17) (Nat.le_refl _) (by decide)) q⟩
    | succ d ih =>
      intro k w1 hk h1 hF
      rw [wL_J7_fill_53178_5]
      refine ⟨fun q => absurd q (nI_ge (b := 17) (by omega) (by decide)), fun _ => ⟨vp_in_nI (by omega) (by decide), fun w2 e2 x3 e3 => ?_⟩⟩
      rw [nI_clamp (by omega)] at e2
      rw [e3, nI_1]
      refine ih (k + 1) w2 (by omega) (fun i hi => ?_) (by rw [e2]; exact hF.u (Or.inl rfl))
      by_cases hh : i = k
      · rw [e2, rA_u, if_pos ⟨rfl, rfl, hh⟩]
      · have hq : ¬ (1104 = 1104 ∧ B 104 0 0 = B 104 0 0 ∧ i = k) := fun r => hh r.2.2
        rw [e2, rA_u, if_neg hq]
        exact h1 i (by omega)
  unfold wp_J7_fill_53178
  exact ⟨(sc_104 hS).2, 17 + 1, key 17 0 w (by omega) (fun i hi => absurd hi (by omega)) (frP.rfl w)⟩
theorem fair_c {K : Int32 → Vt → Prop} {p : Nat} (hS : SC z x t B N) (hn : n ≤ 16) (hp : p < 100) (e : vI w 103 (B 913 0 0) = nI n) (hK : K (if p < n ∧ vA w 1102 (B 102 0 0) p = 0 then 1 else 0) w) : wp_X1_isFair z (B 913 0 0) (nI p) w K := by
  unfold wp_X1_isFair
  rw [e]
  refine ⟨(sc_913 hS).2, fun h => absurd h (nI_pos (by omega)), fun _ => ⟨fun h => ?_, fun h => ⟨fun h2 => ?_, fun h2 => ⟨B 102 0 0, (sc_102 hS).1, (sc_102 hS).2, ?_, ?_⟩⟩⟩⟩
  · have : n ≤ p := (nI_leI (by omega) (by omega)).mp h
    rw [if_neg (fun q => by omega)] at hK
    exact hK
  · have : 16 ≤ p := (nI_leI (a := 16) (by decide) (by omega)).mp h2
    have : p < n := Nat.lt_of_not_le (fun q => h (nI_le q (by omega)))
    omega
  · have : p < n := Nat.lt_of_not_le (fun q => h (nI_le q (by omega)))
    exact vp_in_nI (by omega) (by decide)
  · have hpn : p < n := Nat.lt_of_not_le (fun q => h (nI_le q (by omega)))
    rw [nI_clamp (by omega)]
    refine ⟨fun q => ?_, fun q => ?_⟩
    · rw [if_neg (fun r => q r.2)] at hK
      exact hK
    · rw [if_pos ⟨hpn, q⟩] at hK
      exact hK
theorem great_c {K : Int32 → Vt → Prop} (hS : SC z x t B N) (hK : ∀ g : Int32, 0 ≤ g.toInt → (∀ i, i < 17 → (vA w 1104 (B 104 0 0) i).toInt ≤ g.toInt) → (g = 0 ∨ ∃ i, i < 17 ∧ g = vA w 1104 (B 104 0 0) i) → K g w) : wp_X1_greatestDry z (B 913 0 0) w K := by
  have key : ∀ d k (g : Int32), k + d = 17 → 0 ≤ g.toInt → (∀ i, i < k → (vA w 1104 (B 104 0 0) i).toInt ≤ g.toInt) → (g = 0 ∨ ∃ i, i < 17 ∧ g = vA w 1104 (B 104 0 0) i) → wL_X1_greatestDry_13 z (B 104 0 0) (B 913 0 0) K (fun x7 x8 x9 w10 => K x9 w10) (d + 1) (nI k) 17 g w := by
    intro d
    induction d with
    | zero =>
      intro k g hk h0 h1 h2
      have : k = 17 := by omega
      subst this
      rw [wL_X1_greatestDry_13]
      exact ⟨fun _ => hK g h0 h1 h2, fun q => absurd (nI_le (a := 17) (b := 17) (Nat.le_refl _) (by decide)) q⟩
    | succ d ih =>
      intro k g hk h0 h1 h2
      rw [wL_X1_greatestDry_13]
      refine ⟨fun q => absurd q (nI_ge (b := 17) (by omega) (by decide)), fun _ => ⟨vp_in_nI (by omega) (by decide), fun x3 e3 x4 e4 x5 e5 => ?_⟩⟩
      rw [nI_clamp (by omega)] at e3
      rw [e5, nI_1]
      by_cases hh : g < x3
      · rw [if_pos hh] at e4
        have hh := Int32.lt_iff_toInt_lt.mp hh
        subst e4
        refine ih (k + 1) x4 (by omega) (by omega) (fun i hi => ?_) (Or.inr ⟨k, by omega, e3⟩)
        by_cases hi2 : i = k
        · rw [hi2, ← e3]
          exact Int.le_refl _
        · have := h1 i (by omega)
          omega
      · rw [if_neg hh] at e4
        rw [Int32.lt_iff_toInt_lt] at hh
        subst e4
        refine ih (k + 1) x4 (by omega) h0 (fun i hi => ?_) h2
        by_cases hi2 : i = k
        · rw [hi2, ← e3]
          omega
        · exact h1 i (by omega)
  unfold wp_X1_greatestDry
  exact ⟨(sc_913 hS).2, B 104 0 0, (sc_104 hS).1, (sc_104 hS).2, 17 + 1, key 17 0 0 (by omega) (by decide) (fun i hi => absurd hi (by omega)) (Or.inl rfl)⟩
def mxI (a b : Int) : Int := if a < b then b else a
theorem wcut_c {K : Vt → Prop} (hS : SC z x t B N) (hK : ∀ w1 : Vt, (∀ i, i < 17 → (vA w1 1104 (B 104 0 0) i).toInt = if 1 ≤ i then mxI (vA w 1104 (B 104 0 0) i).toInt (vA w 1105 (B 105 0 0) (i - 1)).toInt else (vA w 1104 (B 104 0 0) i).toInt) → (∀ i, vA w1 1105 (B 105 0 0) i = vA w 1105 (B 105 0 0) i) → frP w w1 → K w1) : wp_X1_weighCutting z (B 913 0 0) w K := by
  have key : ∀ d k (w1 : Vt), 1 ≤ k → k + d = 17 → (∀ i, i < 17 → (vA w1 1104 (B 104 0 0) i).toInt = if 1 ≤ i ∧ i < k then mxI (vA w 1104 (B 104 0 0) i).toInt (vA w 1105 (B 105 0 0) (i - 1)).toInt else (vA w 1104 (B 104 0 0) i).toInt) → (∀ i, vA w1 1105 (B 105 0 0) i = vA w 1105 (B 105 0 0) i) → frP w w1 → wL_X1_weighCutting_2 z (B 913 0 0) K (fun x9 w10 => K w10) (d + 1) (nI k) w1 := by
    intro d
    induction d with
    | zero =>
      intro k w1 hk0 hk h1 h2 hF
      have : k = 17 := by omega
      subst this
      rw [wL_X1_weighCutting_2]
      refine ⟨B 104 0 0, (sc_104 hS).1, (sc_104 hS).2, fun _ => hK w1 (fun i hi => ?_) h2 hF, fun q => absurd (nI_le (a := 17) (b := 17) (Nat.le_refl _) (by decide)) q⟩
      rw [h1 i hi]
      by_cases q : 1 ≤ i
      · rw [if_pos ⟨q, hi⟩, if_pos q]
      · rw [if_neg (fun r => q r.1), if_neg q]
    | succ d ih =>
      intro k w1 hk0 hk h1 h2 hF
      have ge : ¬ (17 : Int32) ≤ nI k := nI_ge (b := 17) (by omega) (by decide)
      have ek : nI k - 1 = nI (k - 1) := nI_sub (b := 1) hk0
      rw [wL_X1_weighCutting_2]
      refine ⟨B 104 0 0, (sc_104 hS).1, (sc_104 hS).2, fun q => absurd q ge, fun _ => ⟨B 105 0 0, (sc_105 hS).1, (sc_105 hS).2, fun q => absurd q ge, fun _ => ⟨vp_in_nI (by omega) (by decide), ?_, fun x5 e5 => ⟨vp_in_nI (by omega) (by decide), fun w6 e6 x7 e7 => ?_⟩⟩⟩⟩
      · rw [ek]
        exact vp_in_nI (by omega) (by decide)
      · rw [ek, nI_clamp (by omega), nI_clamp (by omega), h2] at e5
        rw [nI_clamp (by omega)] at e6
        rw [e7, nI_1]
        have v5 : x5.toInt = mxI (vA w1 1104 (B 104 0 0) k).toInt (vA w 1105 (B 105 0 0) (k - 1)).toInt := by
          rw [e5]
          unfold mxI
          by_cases q : vA w1 1104 (B 104 0 0) k < vA w 1105 (B 105 0 0) (k - 1)
          · rw [if_pos q, if_pos (Int32.lt_iff_toInt_lt.mp q)]
          · rw [if_neg q, if_neg (fun r => q (Int32.lt_iff_toInt_lt.mpr r))]
        refine ih (k + 1) w6 (by omega) (by omega) (fun i hi => ?_) (fun i => ?_) (by rw [e6]; exact hF.u (Or.inl rfl))
        · by_cases hh : i = k
          · subst hh
            rw [e6, rA_u, if_pos ⟨rfl, rfl, rfl⟩, v5, h1 i hi, if_neg (fun r => by omega), if_pos ⟨hk0, by omega⟩]
          · have hq : ¬ (1104 = 1104 ∧ B 104 0 0 = B 104 0 0 ∧ i = k) := fun r => hh r.2.2
            rw [e6, rA_u, if_neg hq, h1 i hi]
            by_cases q : 1 ≤ i ∧ i < k
            · rw [if_pos q, if_pos ⟨q.1, by omega⟩]
            · rw [if_neg q, if_neg (fun r => q ⟨r.1, by omega⟩)]
        · have hq : ¬ (1105 = 1104 ∧ B 105 0 0 = B 104 0 0 ∧ i = k) := fun r => absurd r.1 (by decide)
          rw [e6, rA_u, if_neg hq]
          exact h2 i
  unfold wp_X1_weighCutting
  exact ⟨(sc_913 hS).2, 16 + 1, key 16 1 w (by omega) (by omega) (fun i hi => by rw [if_neg (fun r => by omega)]) (fun _ => rfl) (frP.rfl w)⟩
theorem wdry_c {K : Vt → Prop} (hS : SC z x t B N) (hb : ∀ i, i < 17 → (vA w 1105 (B 105 0 0) i).toInt ≤ 100) (hK : ∀ w1 : Vt, (∀ i, i < 17 → (vA w1 1104 (B 104 0 0) i).toInt = if i < 16 ∧ ¬ (vA w 1105 (B 105 0 0) (i + 1)).toInt = -1 then mxI (vA w 1104 (B 104 0 0) i).toInt ((vA w 1105 (B 105 0 0) (i + 1)).toInt + 1) else (vA w 1104 (B 104 0 0) i).toInt) → (∀ i, vA w1 1105 (B 105 0 0) i = vA w 1105 (B 105 0 0) i) → frP w w1 → K w1) : wp_X1_weighDrying z (B 913 0 0) w K := by
  have e1 : (-1 : Int32).toInt = -1 := by decide
  have key : ∀ d k (w1 : Vt), k + d = 16 → (∀ i, i < 17 → (vA w1 1104 (B 104 0 0) i).toInt = if i < k ∧ ¬ (vA w 1105 (B 105 0 0) (i + 1)).toInt = -1 then mxI (vA w 1104 (B 104 0 0) i).toInt ((vA w 1105 (B 105 0 0) (i + 1)).toInt + 1) else (vA w 1104 (B 104 0 0) i).toInt) → (∀ i, vA w1 1105 (B 105 0 0) i = vA w 1105 (B 105 0 0) i) → frP w w1 → wL_X1_weighDrying_2 z (B 913 0 0) K (fun x11 w12 => K w12) (d + 1) (nI k) w1 := by
    intro d
    induction d with
    | zero =>
      intro k w1 hk h1 h2 hF
      have : k = 16 := by omega
      subst this
      rw [wL_X1_weighDrying_2]
      exact ⟨B 104 0 0, (sc_104 hS).1, (sc_104 hS).2, fun q => absurd q (by decide), fun _ => ⟨B 105 0 0, (sc_105 hS).1, (sc_105 hS).2, fun _ => hK w1 h1 h2 hF, fun q => absurd (by decide) q⟩⟩
    | succ d ih =>
      intro k w1 hk h1 h2 hF
      have ge : ¬ (17 : Int32) ≤ nI k := nI_ge (b := 17) (by omega) (by decide)
      have ge2 : ¬ (17 : Int32) ≤ nI (k + 1) := nI_ge (b := 17) (by omega) (by decide)
      rw [wL_X1_weighDrying_2]
      simp only [nI_1]
      refine ⟨B 104 0 0, (sc_104 hS).1, (sc_104 hS).2, fun q => absurd q ge, fun _ => ⟨B 105 0 0, (sc_105 hS).1, (sc_105 hS).2, fun q => absurd q ge2, fun _ => ⟨vp_in_nI (by omega) (by decide), ?_, ?_⟩⟩⟩
      · intro q x6 e6
        rw [nI_clamp (by omega), h2] at q
        rw [e6]
        refine ih (k + 1) w1 (by omega) (fun i hi => ?_) h2 hF
        rw [h1 i hi]
        have qi : (vA w 1105 (B 105 0 0) (k + 1)).toInt = -1 := by rw [q]; exact e1
        by_cases hh : i < k ∧ ¬ (vA w 1105 (B 105 0 0) (i + 1)).toInt = -1
        · rw [if_pos hh, if_pos ⟨by omega, hh.2⟩]
        · rw [if_neg hh, if_neg (fun r => ?_)]
          by_cases hik : i = k
          · rw [hik] at r
            exact r.2 qi
          · exact hh ⟨by omega, r.2⟩
      · intro q
        refine ⟨vp_in_nI (by omega) (by decide), vp_in_nI (by omega) (by decide), fun x7 e7 => ⟨vp_in_nI (by omega) (by decide), fun w8 e8 x9 e9 => ?_⟩⟩
        rw [nI_clamp (by omega), h2] at q
        rw [nI_clamp (by omega), nI_clamp (by omega), h2] at e7
        rw [nI_clamp (by omega)] at e8
        rw [e9]
        have qi : ¬ (vA w 1105 (B 105 0 0) (k + 1)).toInt = -1 := fun r => q (by rw [← Int32.toInt_inj, r]; exact e1.symm)
        have hbk := hb (k + 1) (by omega)
        have hlow := Int32.le_toInt (vA w 1105 (B 105 0 0) (k + 1))
        have ta : (vA w 1105 (B 105 0 0) (k + 1) + 1).toInt = (vA w 1105 (B 105 0 0) (k + 1)).toInt + 1 := by
          have e : (1 : Int32).toInt = 1 := by decide
          rw [t_add (by rw [e]; omega) (by rw [e]; omega), e]
        have v7 : x7.toInt = mxI (vA w1 1104 (B 104 0 0) k).toInt ((vA w 1105 (B 105 0 0) (k + 1)).toInt + 1) := by
          rw [e7]
          unfold mxI
          by_cases q : vA w1 1104 (B 104 0 0) k < vA w 1105 (B 105 0 0) (k + 1) + 1
          · have q' := Int32.lt_iff_toInt_lt.mp q
            rw [ta] at q'
            rw [if_pos q, if_pos q', ta]
          · have q' : ¬ (vA w1 1104 (B 104 0 0) k).toInt < (vA w 1105 (B 105 0 0) (k + 1)).toInt + 1 := fun r => q (Int32.lt_iff_toInt_lt.mpr (by rw [ta]; exact r))
            rw [if_neg q, if_neg q']
        refine ih (k + 1) w8 (by omega) (fun i hi => ?_) (fun i => ?_) (by rw [e8]; exact hF.u (Or.inl rfl))
        · by_cases hh : i = k
          · subst hh
            rw [e8, rA_u, if_pos ⟨rfl, rfl, rfl⟩, v7, h1 i hi, if_neg (fun r => by omega), if_pos ⟨by omega, qi⟩]
          · have hq : ¬ (1104 = 1104 ∧ B 104 0 0 = B 104 0 0 ∧ i = k) := fun r => hh r.2.2
            rw [e8, rA_u, if_neg hq, h1 i hi]
            by_cases q : i < k ∧ ¬ (vA w 1105 (B 105 0 0) (i + 1)).toInt = -1
            · rw [if_pos q, if_pos ⟨by omega, q.2⟩]
            · rw [if_neg q, if_neg (fun r => q ⟨by omega, r.2⟩)]
        · have hq : ¬ (1105 = 1104 ∧ B 105 0 0 = B 104 0 0 ∧ i = k) := fun r => absurd r.1 (by decide)
          rw [e8, rA_u, if_neg hq]
          exact h2 i
  unfold wp_X1_weighDrying
  exact ⟨(sc_913 hS).2, 16 + 1, key 16 0 w (by omega) (fun i hi => by rw [if_neg (fun r => by omega)]) (fun _ => rfl) (frP.rfl w)⟩
end PC
/-! PURE PART: plan, the days of the class -/
def pLo (a : Nat → Int32) (d : Nat) : Bool := decide (¬ a d = 0)
def pDr (a b : Nat → Int32) (d : Nat) : Bool := decide (¬ a d = 0 ∧ b d = 0)
def pLi (n : Nat) (b : Nat → Int32) (d : Nat) : Bool := decide (d + 2 < n ∧ b d = 0 ∧ b (d + 1) = 0 ∧ b (d + 2) = 0)
theorem pI_step2 {lo dr li : Nat → Bool} {T n d m m' : Nat} {D E F : Nat → Int} (h : pI lo dr li T n d D m) (hd : d < n) (hn : n ≤ 16)
    (hE : ∀ i, i < 17 → E i = if lo d = true ∧ 1 ≤ i then mxI (D i) (D (i - 1)) else D i)
    (hF : ∀ i, i < 17 → F i = if dr d = true ∧ i < 16 ∧ ¬ D (i + 1) = -1 then mxI (E i) (D (i + 1) + 1) else E i)
    (hm1 : m ≤ m' ∧ (li d = true → ∀ w, w ≤ 16 → D w ≤ m')) (hm2 : m' = m ∨ (li d = true ∧ ∃ w, w ≤ 16 ∧ (m' : Int) = D w)) : pI lo dr li T n (d + 1) F m' := by
  have c := h.2.2
  have e1 : ∀ w, w ≤ 16 → (E w = D w ∨ (lo d = true ∧ 1 ≤ w ∧ E w = D (w - 1))) ∧ D w ≤ E w ∧ (lo d = true → 1 ≤ w → D (w - 1) ≤ E w) := by
    intro w hw
    rw [hE w (by omega)]
    by_cases q : lo d = true ∧ 1 ≤ w
    · rw [if_pos q]
      unfold mxI
      by_cases r : D w < D (w - 1)
      · rw [if_pos r]
        exact ⟨Or.inr ⟨q.1, q.2, rfl⟩, by omega, fun _ _ => by omega⟩
      · rw [if_neg r]
        exact ⟨Or.inl rfl, by omega, fun _ _ => by omega⟩
    · rw [if_neg q]
      exact ⟨Or.inl rfl, by omega, fun a b => absurd ⟨a, b⟩ q⟩
  have e2 : ∀ w, w ≤ 16 → (F w = E w ∨ (dr d = true ∧ w ≤ 15 ∧ 0 ≤ D (w + 1) ∧ F w = D (w + 1) + 1)) ∧ E w ≤ F w ∧ (dr d = true → w ≤ 15 → 0 ≤ D (w + 1) → D (w + 1) + 1 ≤ F w) := by
    intro w hw
    rw [hF w (by omega)]
    by_cases q : dr d = true ∧ w < 16 ∧ ¬ D (w + 1) = -1
    · rw [if_pos q]
      have := (c (w + 1) (by omega)).1
      have q3 := q.2.2
      unfold mxI
      by_cases r : E w < D (w + 1) + 1
      · rw [if_pos r]
        exact ⟨Or.inr ⟨q.1, by omega, by omega, rfl⟩, by omega, fun _ _ _ => by omega⟩
      · rw [if_neg r]
        exact ⟨Or.inl rfl, by omega, fun _ _ _ => by omega⟩
    · rw [if_neg q]
      exact ⟨Or.inl rfl, by omega, fun a b b2 => absurd ⟨a, by omega, by omega⟩ q⟩
  refine pI_step h hd hn (fun w hw => ?_) (fun w hw => ?_) hm1 hm2
  · rcases (e2 w hw).1 with q | q
    · rcases (e1 w hw).1 with r | r
      · exact Or.inl (q.trans r)
      · exact Or.inr (Or.inl ⟨r.1, r.2.1, q.trans r.2.2⟩)
    · exact Or.inr (Or.inr q)
  · obtain ⟨-, a2, a3⟩ := e1 w hw
    obtain ⟨-, b2, b3⟩ := e2 w hw
    exact ⟨by omega, fun q r => by have := a3 q r; omega, b3⟩
theorem i32_nat {g : Int32} (h : 0 ≤ g.toInt) : ∃ k : Nat, k < 2147483648 ∧ g = nI k ∧ (k : Int) = g.toInt := by
  obtain ⟨j, hj, e⟩ := nI_of (x := g) (fun q => by
    rw [Int32.lt_iff_toInt_lt] at q
    have : (0 : Int32).toInt = 0 := rfl
    omega)
  exact ⟨j, hj, e, by rw [e, nI_toInt hj]⟩
section PD
variable {z : Zt} {x t n : Nat} {B : Nat → Nat → Nat → Nat} {N : Nat → Nat → Nat} {w : Vt} {a0 a1 a2 : Nat → Int32}
theorem mb_c {K : Int32 → Vt → Prop} (hS : SC z x t B N) (hn : n ≤ 16) (e : vI w 103 (B 913 0 0) = nI n) (hE : ∀ i, i < n → vA w 1100 (B 100 0 0) i = a0 i ∧ vA w 1101 (B 101 0 0) i = a1 i ∧ vA w 1102 (B 102 0 0) i = a2 i) (hK : ∀ w1 : Vt, frP w w1 → K (nI (pS (pLo a0) (pDr a1 a2) (pLi n a2) n 0 0 0)) w1) : wp_X1_mostBurnt z (B 913 0 0) w K := by
  generalize hTT : pS (pLo a0) (pDr a1 a2) (pLi n a2) n 0 0 0 = T at hK
  have key : ∀ k d m (w1 : Vt), d + k = n → pI (pLo a0) (pDr a1 a2) (pLi n a2) T n d (fun i => (vA w1 1104 (B 104 0 0) i).toInt) m → frP w w1 → wL_X1_mostBurnt_19 z (B 913 0 0) K (fun x42 x43 w44 => K x43 w44) (k + 1) (nI d) (nI m) w1 := by
    intro k
    induction k with
    | zero =>
      intro d m w1 hd hI hF
      have : d = n := by omega
      subst this
      have := pI_end hI
      subst this
      rw [wL_X1_mostBurnt_19, hF.1, e]
      exact ⟨fun _ => hK w1 hF, fun q => absurd (nI_le (Nat.le_refl _) (by omega)) q⟩
    | succ k ih =>
      intro d m w1 hd hI hF
      have e1 : vI w1 103 (B 913 0 0) = nI n := (hF.1 _ _).trans e
      have hdn : d < n := by omega
      obtain ⟨E0, E1, E2⟩ := hE d hdn
      have f0 : vA w1 1100 (B 100 0 0) d = a0 d := (hF.2 _ _ _ (by decide) (by decide)).trans E0
      have f1 : vA w1 1101 (B 101 0 0) d = a1 d := (hF.2 _ _ _ (by decide) (by decide)).trans E1
      have f2 : ∀ p, p < n → vA w1 1102 (B 102 0 0) p = a2 p := fun p hp => (hF.2 _ _ _ (by decide) (by decide)).trans (hE p hp).2.2
      have hx2 : nI d + 2 = nI (d + 2) := nI_add d 2
      have hI3 := hI.2.2
      have hm : m ≤ 1000 := by
        have h1 := hI.1.1
        have h2 := pV_le (lo := pLo a0) (dr := pDr a1 a2) (li := pLi n a2) n 0 0 0
        rw [pV_pS, hTT] at h2
        omega
      rw [wL_X1_mostBurnt_19, e1]
      refine ⟨fun q => absurd q (nI_ge hdn (by omega)), fun _ => ⟨fun q => absurd q (nI_ge (b := 16) (by omega) (by decide)), fun _ => fair_c hS hn (by omega) e1 ?_⟩⟩
      have cfair : ∀ p, (p < n ∧ vA w1 1102 (B 102 0 0) p = 0) ↔ (p < n ∧ a2 p = 0) := fun p => ⟨fun q => ⟨q.1, by rw [← f2 p q.1]; exact q.2⟩, fun q => ⟨q.1, by rw [f2 p q.1]; exact q.2⟩⟩
      have nolit : ∀ p, (p = d ∨ p = d + 1 ∨ p = d + 2) → (if p < n ∧ vA w1 1102 (B 102 0 0) p = 0 then (1 : Int32) else 0) = 0 → ¬ pLi n a2 d = true := by
        intro p hp h hl
        unfold pLi at hl
        simp only [decide_eq_true_eq] at hl
        have : p < n ∧ vA w1 1102 (B 102 0 0) p = 0 := (cfair p).mpr (by
          rcases hp with g | g | g
          · rw [g]; exact ⟨by omega, hl.2.1⟩
          · rw [g]; exact ⟨by omega, hl.2.2.1⟩
          · rw [g]; exact ⟨by omega, hl.2.2.2⟩)
        rw [if_pos this] at h
        exact absurd h (by decide)
      have isf : ∀ p, ¬ (if p < n ∧ vA w1 1102 (B 102 0 0) p = 0 then (1 : Int32) else 0) = 0 → p < n ∧ a2 p = 0 := fun p h => Classical.byContradiction (fun q => h (if_neg (fun r => q ((cfair p).mp r))))
      refine ⟨fun v w' => w' = w1 ∧ ∃ m' : Nat, v = nI m' ∧ (m ≤ m' ∧ (pLi n a2 d = true → ∀ i, i ≤ 16 → (vA w1 1104 (B 104 0 0) i).toInt ≤ m')) ∧ (m' = m ∨ (pLi n a2 d = true ∧ ∃ i, i ≤ 16 ∧ (m' : Int) = (vA w1 1104 (B 104 0 0) i).toInt)), ?_, ?_, ?_⟩
      · intro x10 w11 hJ
        obtain ⟨rfl, m', rfl, hm1, hm2⟩ := hJ
        refine ⟨B 104 0 0, (sc_104 hS).1, (sc_104 hS).2, B 105 0 0, (sc_105 hS).1, (sc_105 hS).2, fun w24 e24 => ?_⟩
        have g4 : ∀ i, vA w24 1104 (B 104 0 0) i = vA w11 1104 (B 104 0 0) i := fun i => by
          have hq : ¬ (1104 = 1105 ∧ B 104 0 0 = B 105 0 0) := fun r => absurd r.1 (by decide)
          rw [e24, vA_uF, if_neg hq]
        have g5 : ∀ i, i < 17 → vA w24 1105 (B 105 0 0) i = vA w11 1104 (B 104 0 0) i := fun i hi => by
          rw [e24, vA_uF, if_pos ⟨rfl, rfl⟩]
          unfold va_cpy
          have c0 : (0 : Int32).toNatClampNeg = 0 := by decide
          have c17 : (17 : Int32).toNatClampNeg = 17 := by decide
          rw [c0, c17, if_pos ⟨by omega, by omega⟩]
          congr 1
          omega
        have F24 : frP w11 w24 := ⟨fun c a => by rw [e24]; rfl, fun k a i q r => by
          have hq : ¬ (k = 1105 ∧ a = B 105 0 0) := fun s => r s.1
          rw [e24, vA_uF, if_neg hq]⟩
        have h24 : vA w24 1100 (B 100 0 0) d = a0 d := (F24.2 _ _ _ (by decide) (by decide)).trans f0
        have fin : ∀ w9 : Vt, frP w24 w9 → (∀ i, i < 17 → (vA w9 1104 (B 104 0 0) i).toInt = if pDr a1 a2 d = true ∧ i < 16 ∧ ¬ (vA w11 1104 (B 104 0 0) (i + 1)).toInt = -1 then mxI (if pLo a0 d = true ∧ 1 ≤ i then mxI (vA w11 1104 (B 104 0 0) i).toInt (vA w11 1104 (B 104 0 0) (i - 1)).toInt else (vA w11 1104 (B 104 0 0) i).toInt) ((vA w11 1104 (B 104 0 0) (i + 1)).toInt + 1) else if pLo a0 d = true ∧ 1 ≤ i then mxI (vA w11 1104 (B 104 0 0) i).toInt (vA w11 1104 (B 104 0 0) (i - 1)).toInt else (vA w11 1104 (B 104 0 0) i).toInt) → ∀ x33 : Int32, x33 = nI d + 1 → wL_X1_mostBurnt_19 z (B 913 0 0) K (fun x42 x43 w44 => K x43 w44) (k + 1) x33 (nI m') w9 := by
          intro w9 F9 h9 x33 e33
          rw [e33, nI_1]
          exact ih (d + 1) m' w9 (by omega) (pI_step2 (E := fun i => if pLo a0 d = true ∧ 1 ≤ i then mxI (vA w11 1104 (B 104 0 0) i).toInt (vA w11 1104 (B 104 0 0) (i - 1)).toInt else (vA w11 1104 (B 104 0 0) i).toInt) hI hdn hn (fun i _ => rfl) h9 hm1 hm2) ((hF.trans F24).trans F9)
        refine ⟨B 100 0 0, (sc_100 hS).1, (sc_100 hS).2, vp_in_nI (by omega) (by decide), ?_⟩
        rw [nI_clamp (by omega), h24]
        refine ⟨fun w' => frP w24 w' ∧ (∀ i, i < 17 → vA w' 1105 (B 105 0 0) i = vA w11 1104 (B 104 0 0) i) ∧ ∀ i, i < 17 → (vA w' 1104 (B 104 0 0) i).toInt = if pLo a0 d = true ∧ 1 ≤ i then mxI (vA w11 1104 (B 104 0 0) i).toInt (vA w11 1104 (B 104 0 0) (i - 1)).toInt else (vA w11 1104 (B 104 0 0) i).toInt, ?_, ?_, ?_⟩
        · intro w27 hJ
          obtain ⟨F27, h27, d27⟩ := hJ
          have h271 : vA w27 1101 (B 101 0 0) d = a1 d := ((F27.2 _ _ _ (by decide) (by decide)).trans (F24.2 _ _ _ (by decide) (by decide))).trans f1
          have h272 : vA w27 1102 (B 102 0 0) d = a2 d := ((F27.2 _ _ _ (by decide) (by decide)).trans (F24.2 _ _ _ (by decide) (by decide))).trans (f2 d hdn)
          have e27 : vI w27 103 (B 913 0 0) = nI n := ((F27.1 _ _).trans (F24.1 _ _)).trans e1
          have no : pDr a1 a2 d = false → ∀ x33 : Int32, x33 = nI d + 1 → wL_X1_mostBurnt_19 z (B 913 0 0) K (fun x42 x43 w44 => K x43 w44) (k + 1) x33 (nI m') w27 := fun hdr => fin w27 F27 (fun i hi => by
            rw [hdr, if_neg (fun q => absurd q.1 (by decide))]
            exact d27 i hi)
          refine ⟨B 101 0 0, (sc_101 hS).1, (sc_101 hS).2, vp_in_nI (by omega) (by decide), ?_⟩
          rw [h271]
          refine ⟨fun h => no ?_, fun h => fair_c hS hn (by omega) e27 ?_⟩
          · unfold pDr
            exact decide_eq_false (fun q => q.1 h)
          · rw [h272]
            by_cases hr : a2 d = 0
            · rw [if_pos ⟨hdn, hr⟩]
              have hdr : pDr a1 a2 d = true := decide_eq_true ⟨h, hr⟩
              refine ⟨fun q => absurd q (by decide), fun _ => wdry_c hS (fun i hi => ?_) (fun w38 d38 h38 F38 => fin w38 (F27.trans F38) (fun i hi => ?_))⟩
              · rw [h27 i hi]
                have h9 : (vA w11 1104 (B 104 0 0) i).toInt ≤ d := (hI3 i (by omega)).2.1
                omega
              · rw [d38 i hi, d27 i hi, hdr]
                by_cases q : i < 16
                · rw [h27 (i + 1) (by omega)]
                  simp only [q, true_and]
                · have n1 : ¬ (i < 16 ∧ ¬ (vA w27 1105 (B 105 0 0) (i + 1)).toInt = -1) := fun r => q r.1
                  have n2 : ¬ (true = true ∧ i < 16 ∧ ¬ (vA w11 1104 (B 104 0 0) (i + 1)).toInt = -1) := fun r => q r.2.1
                  rw [if_neg n1, if_neg n2]
            · rw [if_neg (fun q => hr q.2)]
              refine ⟨fun _ => no ?_, fun q => absurd rfl q⟩
              unfold pDr
              exact decide_eq_false (fun q => hr q.2)
        · intro h
          have hlo : pLo a0 d = false := decide_eq_false (fun q => q h)
          refine ⟨frP.rfl w24, g5, fun i hi => ?_⟩
          rw [hlo, if_neg (fun q => absurd q.1 (by decide)), g4]
        · intro h
          have hlo : pLo a0 d = true := decide_eq_true h
          refine wcut_c hS (fun w29 d29 h29 F29 => ⟨F29, fun i hi => (h29 i).trans (g5 i hi), fun i hi => ?_⟩)
          rw [d29 i hi, hlo, g4]
          by_cases q : 1 ≤ i
          · rw [if_pos q, if_pos ⟨rfl, q⟩, g5 (i - 1) (by omega)]
          · rw [if_neg q, if_neg (fun r => q r.2)]
      · intro h
        exact ⟨rfl, m, rfl, ⟨Nat.le_refl _, fun q => absurd q (nolit d (Or.inl rfl) h)⟩, Or.inl rfl⟩
      · intro h
        rw [nI_1]
        refine fair_c hS hn (by omega) e1 ⟨fun h2 => ?_, fun h2 => ?_⟩
        · exact ⟨rfl, m, rfl, ⟨Nat.le_refl _, fun q => absurd q (nolit (d + 1) (Or.inr (Or.inl rfl)) h2)⟩, Or.inl rfl⟩
        · rw [hx2]
          refine fair_c hS hn (by omega) e1 ⟨fun h3 => ?_, fun h3 => ?_⟩
          · exact ⟨rfl, m, rfl, ⟨Nat.le_refl _, fun q => absurd q (nolit (d + 2) (Or.inr (Or.inr rfl)) h3)⟩, Or.inl rfl⟩
          · have hlit : pLi n a2 d = true := decide_eq_true ⟨(isf _ h3).1, (isf _ h).2, (isf _ h2).2, (isf _ h3).2⟩
            refine great_c hS (fun g hg0 hg1 hg2 x21 e21 => ⟨rfl, ?_⟩)
            obtain ⟨kg, hkg, rfl, hkg2⟩ := i32_nat hg0
            by_cases q : nI m < nI kg
            · rw [if_pos q] at e21
              have q' : m < kg := (nI_ltI (by omega) hkg).mp q
              refine ⟨kg, e21, ⟨by omega, fun _ i hi => by rw [hkg2]; exact hg1 i (by omega)⟩, Or.inr ⟨hlit, ?_⟩⟩
              rcases hg2 with r | ⟨i, hi, r⟩
              · have : kg = 0 := (nI_eq hkg (by decide)).mp (r.trans nI_0.symm)
                omega
              · exact ⟨i, by omega, by rw [hkg2, r]⟩
            · rw [if_neg q] at e21
              have q' : kg ≤ m := by
                rcases Nat.lt_or_ge m kg with s | s
                · exact absurd (nI_lt s hkg) q
                · exact s
              refine ⟨m, e21, ⟨Nat.le_refl _, fun _ i hi => ?_⟩, Or.inl rfl⟩
              have := hg1 i (by omega)
              omega
  unfold wp_X1_mostBurnt
  refine ⟨(sc_913 hS).2, B 104 0 0, (sc_104 hS).1, (sc_104 hS).2, fill_c hS (fun w2 h2 F2 => ⟨(vp_in_nI (show 0 < 17 by decide) (by decide) : vp_in (nI 0) 17), fun w4 e4 => ⟨n + 1, ?_⟩⟩)⟩
  have e4' : w4 = uA w2 1104 (B 104 0 0) 0 0 := e4
  refine key n 0 0 w4 (by omega) ?_ (by rw [e4']; exact F2.u (Or.inl rfl))
  rw [← hTT]
  refine pI_begin ?_ (fun i h1 h16 => ?_)
  · show (vA w4 1104 (B 104 0 0) 0).toInt = 0
    rw [e4', rA_u, if_pos ⟨rfl, rfl, rfl⟩]
    rfl
  · show (vA w4 1104 (B 104 0 0) i).toInt = -1
    have hq : ¬ (1104 = 1104 ∧ B 104 0 0 = B 104 0 0 ∧ i = 0) := fun r => by omega
    rw [e4', rA_u, if_neg hq, h2 i (by omega)]
    decide
end PD
/-! PURE PART: plan, the reference -/
theorem atI (a b c : Nat) : (((18 * nI a) + nI b) * 18) + nI c = nI ((18 * a + b) * 18 + c) := by
  show (((nI 18 * nI a) + nI b) * nI 18) + nI c = _
  rw [nI_mul, nI_add, nI_mul, nI_add]
theorem mxN {a b : Nat} (ha : a < 2147483648) (hb : b < 2147483648) : (if nI a < nI b then nI b else nI a) = nI (max a b) := by
  by_cases h : a < b
  · rw [if_pos (nI_lt h hb)]
    congr 1
    omega
  · rw [if_neg (nI_nlt (by omega) ha)]
    congr 1
    omega
def frQ (w w1 : Vt) : Prop := (∀ c a, vI w1 c a = vI w c a) ∧ ∀ k a i, ¬ k = 2052 → vA w1 k a i = vA w k a i
theorem frQ.rfl (w : Vt) : frQ w w := ⟨fun _ _ => Eq.refl _, fun _ _ _ _ => Eq.refl _⟩
theorem frQ.u {w w1 : Vt} {a0 j : Nat} {v : Int32} (h : frQ w w1) : frQ w (uA w1 2052 a0 j v) := ⟨h.1, fun k a i q => by
  have hq : ¬ (k = 2052 ∧ a = a0 ∧ i = j) := fun s => q s.1
  rw [rA_u, if_neg hq]
  exact h.2 k a i q⟩
section PM
variable {z : Zt} {m n : Nat} {w : Vt} {M : Nat → Nat} {a0 a1 a2 : Nat → Int32}
theorem best_m {K : Int32 → Vt → Prop} {d u r : Nat} (hM : SM z m M) (hn : n ≤ 16) (e51 : vI w 1051 m = nI n) (hd : d < n) (hwr : u + r ≤ d) (ht : ∀ u r, u + r ≤ d + 1 → vA w 2052 (M 1052) ((18 * (d + 1) + u) * 18 + r) = nI (pV (pLo a0) (pDr a1 a2) (pLi n a2) (n - (d + 1)) (d + 1) u r)) (f0 : vA w 2048 (M 1048) d = a0 d) (f1 : vA w 2049 (M 1049) d = a1 d) (f2 : ∀ p, p < n → vA w 2050 (M 1050) p = a2 p) (hK : K (nI (pV (pLo a0) (pDr a1 a2) (pLi n a2) (n - d) d u r)) w) : wp_X10_best z m (nI d) (nI u) (nI r) w K := by
  have hv : ∀ k d u r, pV (pLo a0) (pDr a1 a2) (pLi n a2) k d u r ≤ u + r + k := pV_le
  have ek : n - d = (n - (d + 1)) + 1 := by omega
  rw [ek] at hK
  have V1 := hv (n - (d + 1)) (d + 1) u r
  have V2 := hv (n - (d + 1)) (d + 1) (u + 1) r
  have V3 := hv (n - (d + 1)) (d + 1) (u - 1) (r + 1)
  have V4 := hv (n - (d + 1)) (d + 1) u 0
  have h1 := ht u r (by omega)
  have h2 := ht (u + 1) r (by omega)
  have h4 := ht u 0 (by omega)
  have h3 : 0 < u → vA w 2052 (M 1052) ((18 * (d + 1) + (u - 1)) * 18 + (r + 1)) = nI (pV (pLo a0) (pDr a1 a2) (pLi n a2) (n - (d + 1)) (d + 1) (u - 1) (r + 1)) := fun hu => ht (u - 1) (r + 1) (by omega)
  simp only [pV] at hK
  generalize pV (pLo a0) (pDr a1 a2) (pLi n a2) (n - (d + 1)) (d + 1) u r = v1 at *
  generalize pV (pLo a0) (pDr a1 a2) (pLi n a2) (n - (d + 1)) (d + 1) (u + 1) r = v2 at *
  generalize pV (pLo a0) (pDr a1 a2) (pLi n a2) (n - (d + 1)) (d + 1) (u - 1) (r + 1) = v3 at *
  generalize pV (pLo a0) (pDr a1 a2) (pLi n a2) (n - (d + 1)) (d + 1) u 0 = v4 at *
  generalize hX2 : (if pLo a0 d = true then v2 else 0) = X2 at *
  generalize hX3 : (if pDr a1 a2 d = true ∧ 0 < u then v3 else 0) = X3 at *
  have x2b : X2 ≤ 1000 := by
    rw [← hX2]
    split <;> omega
  have x3b : X3 ≤ 1000 := by
    rw [← hX3]
    split <;> omega
  have p0 : vp_in (nI d) 18 := vp_in_nI (by omega) (by decide)
  have p1 : vp_in (nI (d + 1)) 18 := vp_in_nI (by omega) (by decide)
  have p2 : vp_in (nI (d + 2)) 18 := vp_in_nI (by omega) (by decide)
  have hx2 : nI d + 2 = nI (d + 2) := nI_add d 2
  have a_1 := atI (d + 1) u r
  have a_2 := atI (d + 1) (u + 1) r
  have a_4 : (((18 * nI (d + 1)) + nI u) * 18) + 0 = nI ((18 * (d + 1) + u) * 18 + 0) := atI (d + 1) u 0
  unfold wp_X10_best wp_X10_at
  simp only [nI_1, hx2, a_1, a_2, a_4]
  refine ⟨sm_m hM, M 1052, (sm_1052 hM).1, (sm_1052 hM).2, vp_in_nI (by omega) (by decide), fun x4 e4 => ?_⟩
  rw [nI_clamp (by omega), h1] at e4
  subst e4
  refine ⟨M 1048, (sm_1048 hM).1, (sm_1048 hM).2, p0, fun x w' => w' = w ∧ x = nI (max v1 X2), ?_, ?_, ?_⟩
  · intro x7 w8 hJ
    obtain ⟨rfl, rfl⟩ := hJ
    refine ⟨fun x w' => w' = w8 ∧ x = nI (max (max v1 X2) X3), ?_, ?_, ?_⟩
    · intro x14 w15 hJ
      obtain ⟨rfl, rfl⟩ := hJ
      refine ⟨fun x w' => w' = w15 ∧ ((x = 0 ∧ ¬ (pLi n a2 d = true ∧ 0 < r)) ∨ (x = 1 ∧ (pLi n a2 d = true ∧ 0 < r))), ?_, ?_, ?_⟩
      · intro x25 w26 hJ
        obtain ⟨rfl, hJ⟩ := hJ
        rcases hJ with ⟨rfl, hno⟩ | ⟨rfl, hyes⟩
        · refine ⟨fun _ => ?_, fun q => absurd rfl q⟩
          rw [if_neg hno] at hK
          rw [show max (max (max v1 X2) X3) 0 = max (max v1 X2) X3 by omega] at hK
          exact hK
        · refine ⟨fun q => absurd q (by decide), fun _ => ⟨vp_in_nI (by omega) (by decide), fun x36 e36 => ?_⟩⟩
          rw [nI_clamp (by omega), h4, nI_add, mxN (by omega) (by omega)] at e36
          rw [if_pos hyes] at hK
          rw [e36]
          exact hK
      · intro q
        have : r = 0 := by
          rcases Nat.eq_zero_or_pos r with g | g
          · exact g
          · exact absurd q (nI_nle g (by omega))
        exact ⟨rfl, Or.inl ⟨rfl, fun s => by omega⟩⟩
      · intro q
        have hr : 0 < r := by
          rcases Nat.eq_zero_or_pos r with g | g
          · exact absurd (by rw [g]; decide) q
          · exact g
        rw [e51]
        refine ⟨fun h => ⟨rfl, Or.inl ⟨rfl, fun s => ?_⟩⟩, fun h => ⟨M 1050, (sm_1050 hM).1, (sm_1050 hM).2, p0, ?_⟩⟩
        · have : n ≤ d + 2 := (nI_leI (by omega) (by omega)).mp h
          have := of_decide_eq_true s.1
          omega
        · have hd2 : d + 2 < n := Nat.lt_of_not_le (fun q => h (nI_le q (by omega)))
          rw [nI_clamp (by omega), nI_clamp (by omega), nI_clamp (by omega), f2 d hd, f2 (d + 1) (by omega), f2 (d + 2) hd2]
          refine ⟨fun g => ⟨rfl, Or.inl ⟨rfl, fun s => g (of_decide_eq_true s.1).2.1⟩⟩, fun g => ⟨p1, fun g1 => ⟨rfl, Or.inl ⟨rfl, fun s => g1 (of_decide_eq_true s.1).2.2.1⟩⟩, fun g1 => ⟨p2, fun g2 => ⟨rfl, Or.inl ⟨rfl, fun s => g2 (of_decide_eq_true s.1).2.2.2⟩⟩, fun g2 => ⟨rfl, Or.inr ⟨rfl, decide_eq_true ⟨hd2, g, g1, g2⟩, hr⟩⟩⟩⟩⟩
    · intro q
      have hu : u = 0 := by
        rcases Nat.eq_zero_or_pos u with g | g
        · exact g
        · exact absurd q (nI_nle g (by omega))
      refine ⟨rfl, ?_⟩
      rw [← hX3, if_neg (fun s => by omega)]
      congr 1
      omega
    · intro q
      have hu : 0 < u := by
        rcases Nat.eq_zero_or_pos u with g | g
        · exact absurd (by rw [g]; decide) q
        · exact g
      have hu1 : nI u - 1 = nI (u - 1) := nI_sub (b := 1) hu
      refine ⟨M 1049, (sm_1049 hM).1, (sm_1049 hM).2, p0, ?_⟩
      rw [nI_clamp (by omega), f1]
      refine ⟨fun h => ⟨rfl, ?_⟩, fun h => ⟨M 1050, (sm_1050 hM).1, (sm_1050 hM).2, p0, ?_⟩⟩
      · rw [← hX3, if_neg (fun s => (of_decide_eq_true s.1).1 h)]
        congr 1
        omega
      · rw [f2 d hd]
        refine ⟨fun g => ⟨rfl, ?_⟩, fun g => ?_⟩
        · rw [← hX3, if_neg (fun s => g (of_decide_eq_true s.1).2)]
          congr 1
          omega
        · have hdr : pDr a1 a2 d = true ∧ 0 < u := ⟨decide_eq_true ⟨h, g⟩, hu⟩
          rw [if_pos hdr] at hX3
          subst hX3
          rw [hu1, atI]
          refine ⟨vp_in_nI (by omega) (by decide), fun x23 e23 => ⟨rfl, ?_⟩⟩
          rw [nI_clamp (by omega), h3 hu, mxN (by omega) (by omega)] at e23
          exact e23
  · intro h
    rw [nI_clamp (by omega), f0] at h
    refine ⟨rfl, ?_⟩
    rw [← hX2, if_neg (fun s => (of_decide_eq_true s) h)]
    congr 1
    omega
  · intro h
    rw [nI_clamp (by omega), f0] at h
    have hlo : pLo a0 d = true := decide_eq_true h
    rw [if_pos hlo] at hX2
    subst hX2
    refine ⟨vp_in_nI (by omega) (by decide), fun x12 e12 => ⟨rfl, ?_⟩⟩
    rw [nI_clamp (by omega), h2, mxN (by omega) (by omega)] at e12
    exact e12
def tbl (a0 a1 a2 : Nat → Int32) (M : Nat → Nat) (n e : Nat) (w : Vt) : Prop := ∀ d, e ≤ d → d ≤ n → ∀ u r, u + r ≤ d → vA w 2052 (M 1052) ((18 * d + u) * 18 + r) = nI (pV (pLo a0) (pDr a1 a2) (pLi n a2) (n - d) d u r)
def tb2 (a0 a1 a2 : Nat → Int32) (M : Nat → Nat) (n d u0 r0 : Nat) (w : Vt) : Prop := ∀ u r, u + r ≤ d → (u < u0 ∨ (u = u0 ∧ r < r0)) → vA w 2052 (M 1052) ((18 * d + u) * 18 + r) = nI (pV (pLo a0) (pDr a1 a2) (pLi n a2) (n - d) d u r)
theorem l68 {K : Int32 → Vt → Prop} {Kx : Int32 → Int32 → Int32 → Int32 → Vt → Prop} {d u : Nat} (hM : SM z m M) (hn : n ≤ 16) (e51 : vI w 1051 m = nI n) (hd : d < n) (hu : u ≤ d) (f0 : ∀ p, p < n → vA w 2048 (M 1048) p = a0 p ∧ vA w 2049 (M 1049) p = a1 p ∧ vA w 2050 (M 1050) p = a2 p) (hK : ∀ (w2 : Vt) (x : Int32), frQ w w2 → tbl a0 a1 a2 M n (d + 1) w2 → tb2 a0 a1 a2 M n d (u + 1) 0 w2 → Kx x (nI u) (nI d) (nI n) w2) : ∀ k r (w1 : Vt), u + r + k = d + 1 → frQ w w1 → tbl a0 a1 a2 M n (d + 1) w1 → tb2 a0 a1 a2 M n d u r w1 → wL_X10_plan_68 z m K Kx (k + 1) (nI r) (nI u) (nI d) (nI n) w1 := by
  intro k
  induction k with
  | zero =>
    intro r w1 hk hF h1 h2
    rw [wL_X10_plan_68, nI_add]
    refine ⟨fun _ => hK w1 _ hF h1 (fun u' r' h h3 => ?_), fun q => absurd (nI_lt (by omega) (by omega)) q⟩
    exact h2 u' r' h (by omega)
  | succ k ih =>
    intro r w1 hk hF h1 h2
    rw [wL_X10_plan_68, nI_add]
    refine ⟨fun q => absurd q (nI_nlt (by omega) (by omega)), fun _ => ⟨M 1052, (sm_1052 hM).1, (sm_1052 hM).2, ?_⟩⟩
    unfold wp_X10_at
    rw [atI]
    have q2048 : ∀ p, p < n → vA w1 2048 (M 1048) p = a0 p := fun p hp => (hF.2 _ _ _ (by decide)).trans (f0 p hp).1
    have q2049 : ∀ p, p < n → vA w1 2049 (M 1049) p = a1 p := fun p hp => (hF.2 _ _ _ (by decide)).trans (f0 p hp).2.1
    have q2050 : ∀ p, p < n → vA w1 2050 (M 1050) p = a2 p := fun p hp => (hF.2 _ _ _ (by decide)).trans (f0 p hp).2.2
    refine best_m hM hn ((hF.1 _ _).trans e51) hd (by omega) (fun u r h => h1 (d + 1) (Nat.le_refl _) (by omega) u r h) (q2048 d hd) (q2049 d hd) q2050 ⟨vp_in_nI (by omega) (by decide), fun w29 e29 x30 e30 => ?_⟩
    rw [nI_clamp (by omega)] at e29
    rw [e30, nI_1]
    refine ih (r + 1) w29 (by omega) (by rw [e29]; exact hF.u) (fun d' hd' hdn u' r' h => ?_) (fun u' r' h h3 => ?_)
    · have hq : ¬ (2052 = 2052 ∧ M 1052 = M 1052 ∧ (18 * d' + u') * 18 + r' = (18 * d + u) * 18 + r) := fun s => by omega
      rw [e29, rA_u, if_neg hq]
      exact h1 d' hd' hdn u' r' h
    · by_cases hh : u' = u ∧ r' = r
      · rw [e29, rA_u, if_pos ⟨rfl, rfl, by rw [hh.1, hh.2]⟩, hh.1, hh.2]
      · have hq : ¬ (2052 = 2052 ∧ M 1052 = M 1052 ∧ (18 * d + u') * 18 + r' = (18 * d + u) * 18 + r) := fun s => by omega
        rw [e29, rA_u, if_neg hq]
        exact h2 u' r' h (by omega)
theorem l60 {K : Int32 → Vt → Prop} {Kx : Int32 → Int32 → Int32 → Vt → Prop} {d : Nat} (hM : SM z m M) (hn : n ≤ 16) (e51 : vI w 1051 m = nI n) (hd : d < n) (f0 : ∀ p, p < n → vA w 2048 (M 1048) p = a0 p ∧ vA w 2049 (M 1049) p = a1 p ∧ vA w 2050 (M 1050) p = a2 p) (hK : ∀ (w2 : Vt) (x : Int32), frQ w w2 → tbl a0 a1 a2 M n d w2 → Kx x (nI d) (nI n) w2) : ∀ k u (w1 : Vt), u + k = d + 1 → frQ w w1 → tbl a0 a1 a2 M n (d + 1) w1 → tb2 a0 a1 a2 M n d u 0 w1 → wL_X10_plan_60 z m K Kx (k + 1) (nI u) (nI d) (nI n) w1 := by
  intro k
  induction k with
  | zero =>
    intro u w1 hk hF h1 h2
    rw [wL_X10_plan_60]
    refine ⟨fun _ => hK w1 _ hF (fun d' hd' hdn u' r' h => ?_), fun q => absurd (nI_lt (by omega) (by omega)) q⟩
    by_cases hh : d' = d
    · subst hh
      exact h2 u' r' h (by omega)
    · exact h1 d' (by omega) hdn u' r' h
  | succ k ih =>
    intro u w1 hk hF h1 h2
    rw [wL_X10_plan_60]
    refine ⟨fun q => absurd q (nI_nlt (by omega) (by omega)), fun _ => ⟨(d + 1 - u) + 1, l68 hM hn e51 hd (by omega) f0 (fun w2 x hF2 h12 h22 x37 e37 => ?_) (d + 1 - u) 0 w1 (by omega) hF h1 h2⟩⟩
    rw [e37, nI_1]
    exact ih (u + 1) w2 (by omega) hF2 h12 h22
theorem l54 {K : Int32 → Vt → Prop} {Kx : Int32 → Int32 → Vt → Prop} (hM : SM z m M) (hn : n ≤ 16) (e51 : vI w 1051 m = nI n) (f0 : ∀ p, p < n → vA w 2048 (M 1048) p = a0 p ∧ vA w 2049 (M 1049) p = a1 p ∧ vA w 2050 (M 1050) p = a2 p) (hK : ∀ (w2 : Vt) (x : Int32), frQ w w2 → tbl a0 a1 a2 M n 0 w2 → Kx x (nI n) w2) : ∀ e (w1 : Vt), e ≤ n → frQ w w1 → tbl a0 a1 a2 M n e w1 → wL_X10_plan_54 z m K Kx (e + 1) (nI e - 1) (nI n) w1 := by
  intro e
  induction e with
  | zero =>
    intro w1 he hF h1
    rw [wL_X10_plan_54]
    exact ⟨fun _ => hK w1 _ hF h1, fun q => absurd (by rw [nI_0]; decide) q⟩
  | succ e ih =>
    intro w1 he hF h1
    rw [wL_X10_plan_54, nI_pred]
    refine ⟨fun q => absurd q (nI_pos (by omega)), fun _ => ⟨(e + 1) + 1, l60 hM hn e51 (by omega) f0 (fun w2 x hF2 h12 x43 e43 => ?_) (e + 1) 0 w1 (by omega) hF h1 (fun u r h h3 => absurd h3 (by omega))⟩⟩
    have e44 : x43 = nI e - 1 := by
      rw [e43, Int32.sub_eq_add_neg]
    rw [e44]
    exact ih w2 (by omega) hF2 h12
def zer (M : Nat → Nat) (n u0 r0 : Nat) (w : Vt) : Prop := ∀ u r, u < 18 → r < 18 → (u < u0 ∨ (u = u0 ∧ r < r0)) → vA w 2052 (M 1052) ((18 * n + u) * 18 + r) = 0
theorem l20 {K : Int32 → Vt → Prop} {Kx : Int32 → Int32 → Int32 → Vt → Prop} {u : Nat} (hM : SM z m M) (hn : n ≤ 16) (hu : u < 18) (hK : ∀ (w2 : Vt) (x : Int32), frQ w w2 → zer M n (u + 1) 0 w2 → Kx x (nI u) (nI n) w2) : ∀ k r (w1 : Vt), r + k = 18 → frQ w w1 → zer M n u r w1 → wL_X10_plan_20 z m K Kx (k + 1) (nI r) (nI u) (nI n) w1 := by
  intro k
  induction k with
  | zero =>
    intro r w1 hk hF h1
    have : r = 18 := by omega
    subst this
    rw [wL_X10_plan_20]
    exact ⟨fun _ => hK w1 _ hF (fun u' r' a b h => h1 u' r' a b (by omega)), fun q => absurd (nI_le (a := 18) (b := 18) (Nat.le_refl _) (by decide)) q⟩
  | succ k ih =>
    intro r w1 hk hF h1
    rw [wL_X10_plan_20]
    refine ⟨fun q => absurd q (nI_ge (b := 18) (by omega) (by decide)), fun _ => ⟨M 1052, (sm_1052 hM).1, (sm_1052 hM).2, ?_⟩⟩
    unfold wp_X10_at
    rw [atI]
    refine ⟨vp_in_nI (by omega) (by decide), fun w8 e8 x9 e9 => ?_⟩
    rw [nI_clamp (by omega)] at e8
    rw [e9, nI_1]
    refine ih (r + 1) w8 (by omega) (by rw [e8]; exact hF.u) (fun u' r' a b h => ?_)
    by_cases hh : (18 * n + u') * 18 + r' = (18 * n + u) * 18 + r
    · rw [e8, rA_u, if_pos ⟨rfl, rfl, hh⟩]
    · have hq : ¬ (2052 = 2052 ∧ M 1052 = M 1052 ∧ (18 * n + u') * 18 + r' = (18 * n + u) * 18 + r) := fun s => hh s.2.2
      rw [e8, rA_u, if_neg hq]
      exact h1 u' r' a b (by omega)
theorem l12 {K : Int32 → Vt → Prop} {Kx : Int32 → Int32 → Vt → Prop} (hM : SM z m M) (hn : n ≤ 16) (hK : ∀ (w2 : Vt) (x : Int32), frQ w w2 → zer M n 18 0 w2 → Kx x (nI n) w2) : ∀ k u (w1 : Vt), u + k = 18 → frQ w w1 → zer M n u 0 w1 → wL_X10_plan_12 z m K Kx (k + 1) (nI u) (nI n) w1 := by
  intro k
  induction k with
  | zero =>
    intro u w1 hk hF h1
    have : u = 18 := by omega
    subst this
    rw [wL_X10_plan_12]
    exact ⟨fun _ => hK w1 _ hF h1, fun q => absurd (nI_le (a := 18) (b := 18) (Nat.le_refl _) (by decide)) q⟩
  | succ k ih =>
    intro u w1 hk hF h1
    rw [wL_X10_plan_12]
    refine ⟨fun q => absurd q (nI_ge (b := 18) (by omega) (by decide)), fun _ => ⟨18 + 1, l20 hM hn (by omega) (fun w2 x hF2 h2 x15 e15 => ?_) 18 0 w1 (by omega) hF h1⟩⟩
    rw [e15, nI_1]
    exact ih (u + 1) w2 (by omega) hF2 h2
theorem plan_m {K : Int32 → Vt → Prop} (hM : SM z m M) (hn : n ≤ 16) (e51 : vI w 1051 m = nI n) (f0 : ∀ p, p < n → vA w 2048 (M 1048) p = a0 p ∧ vA w 2049 (M 1049) p = a1 p ∧ vA w 2050 (M 1050) p = a2 p) (hK : ∀ w1 : Vt, vI w1 1051 m = 0 → (∀ c a, ¬ c ∈ [1000, 1051] → vI w1 c a = vI w c a) → (∀ k a i, ¬ k = 2052 → vA w1 k a i = vA w k a i) → K (nI (pV (pLo a0) (pDr a1 a2) (pLi n a2) n 0 0 0)) w1) : wp_X10_plan z m w K := by
  unfold wp_X10_plan
  refine ⟨sm_m hM, fun w1 e1 x2 e2 => ⟨18 + 1, ?_⟩⟩
  have i1 : vI w1 1051 m = nI n := by
    rw [e1, vI_u, if_neg (fun q => absurd q.1 (by decide))]
    exact e51
  rw [i1] at e2
  subst e2
  have g0 : ∀ p, p < n → vA w1 2048 (M 1048) p = a0 p ∧ vA w1 2049 (M 1049) p = a1 p ∧ vA w1 2050 (M 1050) p = a2 p := by
    rw [e1]
    exact f0
  refine l12 (w := w1) hM hn (fun w2 x hF2 h2 x20 e20 => ⟨n + 1, ?_⟩) 18 0 w1 (by omega) (frQ.rfl w1) (fun u r _ _ h => absurd h (by omega))
  rw [e20]
  refine l54 (a0 := a0) (a1 := a1) (a2 := a2) (w := w2) hM hn ((hF2.1 _ _).trans i1) (fun p hp => ?_) (fun w3 x hF3 h3 w48 e48 => ?_) n w2 (Nat.le_refl _) (frQ.rfl w2) (fun d hd hdn u r h => ?_)
  · obtain ⟨a, b, c⟩ := g0 p hp
    exact ⟨(hF2.2 _ _ _ (by decide)).trans a, (hF2.2 _ _ _ (by decide)).trans b, (hF2.2 _ _ _ (by decide)).trans c⟩
  · have k1 : vI w48 1051 m = 0 := by rw [e48, vI_u, if_pos ⟨rfl, rfl⟩]
    have k2 : ∀ c a, ¬ c ∈ [1000, 1051] → vI w48 c a = vI w c a := fun c a hc => by
      simp only [List.mem_cons, List.not_mem_nil, or_false, not_or] at hc
      rw [e48, vI_u, if_neg (fun q => hc.2 q.1), hF3.1, hF2.1, e1, vI_u, if_neg (fun q => hc.1 q.1)]
    have k3 : ∀ k a i, ¬ k = 2052 → vA w48 k a i = vA w k a i := fun k a i hk => by
      rw [e48, rA_uI, hF3.2 k a i hk, hF2.2 k a i hk, e1, rA_uI]
    have k4 := hK w48 k1 k2 k3
    refine ⟨fun q => ⟨M 1052, (sm_1052 hM).1, (sm_1052 hM).2, ?_⟩, fun q => ?_⟩
    · unfold wp_X10_at
      have e0 : ((((18 : Int32) * 0) + 0) * 18) + 0 = nI 0 := by decide
      rw [e0]
      refine ⟨vp_in_nI (by omega) (by decide), ?_⟩
      rw [nI_clamp (by omega), e48, rA_uI]
      have h00 := h3 0 (Nat.le_refl _) (Nat.zero_le _) 0 0 (Nat.le_refl _)
      have h00' : vA w3 2052 (M 1052) 0 = nI (pV (pLo a0) (pDr a1 a2) (pLi n a2) n 0 0 0) := h00
      rw [h00', ← e48]
      exact k4
    · have hn0 : n = 0 := (nI_eq (by omega) (by decide)).mp (q.trans nI_0.symm)
      subst hn0
      exact k4
  · have hdn : d = n := by omega
    subst hdn
    rw [Nat.sub_self]
    exact h2 u r (by omega) (by omega) (Or.inl (by omega))
end PM
theorem lw_ok_24 (x m t : Nat) : ok_24 (lw_I x m t) x m t := by
  intro k zc wc zm wm hk hI
  obtain ⟨B, N, M, hS, hM, hV⟩ := id hI
  obtain ⟨hTim, hTap, hRig, hSho, hRoc, hFam, hPit, hLot, hSto, hFor⟩ := id hV
  have hox := sc_x hS
  have hom := sm_m hM
  obtain ⟨F1, n, hn, F2, F3⟩ := hFor
  unfold wc_24 wp_X9_plan
  refine ⟨hox, hox, B 913 0 0, (sc_913 hS).1, (sc_913 hS).2, mb_c (a0 := fun i => vA wm 2048 (M 1048) i) (a1 := fun i => vA wm 2049 (M 1049) i) (a2 := fun i => vA wm 2050 (M 1050) i) hS hn (F1.trans F2) F3 (fun w1 G1 w4 e4 => ⟨hom, plan_m (a0 := fun i => vA wm 2048 (M 1048) i) (a1 := fun i => vA wm 2049 (M 1049) i) (a2 := fun i => vA wm 2050 (M 1050) i) hM hn F2 (fun p hp => ⟨rfl, rfl, rfl⟩) (fun w5 i1 g1 g2 => ⟨by rw [pV_pS], ?_⟩)⟩)⟩
  have f3 : ∀ cs ks : List Nat, (∀ c ∈ cs, ¬ c = 103) → (∀ c ∈ ks, ¬ c = 1104 ∧ ¬ c = 1105) → frW cs ks wc w4 := fun cs ks h1 h2 => ⟨fun c hc a => by
    rw [e4, vI_u, if_neg (fun q => h1 c hc q.1)]
    exact G1.1 c a, fun c hc a i => by
    rw [e4, rA_uI]
    exact G1.2 c a i (h2 c hc).1 (h2 c hc).2⟩
  have g3 : ∀ cs ks : List Nat, (∀ c ∈ cs, ¬ c ∈ [1000, 1051]) → (∀ c ∈ ks, ¬ c = 2052) → frW cs ks wm w5 := fun cs ks h1 h2 => ⟨fun c hc a => g1 c a (h1 c hc), fun c hc a i => g2 c a i (h2 c hc)⟩
  refine ⟨B, N, M, hS, hM, hTim.fr (f3 _ _ (by decide) (by decide)) (g3 _ _ (by decide) (by decide)), hTap.fr (f3 _ _ (by decide) (by decide)) (g3 _ _ (by decide) (by decide)), hRig.fr (f3 _ _ (by decide) (by decide)) (g3 _ _ (by decide) (by decide)), hSho.fr (f3 _ _ (by decide) (by decide)) (g3 _ _ (by decide) (by decide)), hRoc.fr (f3 _ _ (by decide) (by decide)) (g3 _ _ (by decide) (by decide)), (hFam.mono (Nat.le_succ k)).fr (f3 _ _ (by decide) (by decide)) (g3 _ _ (by decide) (by decide)), hPit.fr (f3 _ _ (by decide) (by decide)) (g3 _ _ (by decide) (by decide)), hLot.fr (f3 _ _ (by decide) (by decide)) (g3 _ _ (by decide) (by decide)), hSto.fr (f3 _ _ (by decide) (by decide)) (g3 _ _ (by decide) (by decide)), ?_, 0, by omega, i1.trans nI_0.symm, fun i hi => absurd hi (Nat.not_lt_zero _)⟩
  rw [e4, vI_u, if_pos ⟨rfl, rfl⟩, i1]
