/-! PURE PART: one part of the text, as the reference reads it -/
def frM (p : Nat) (M : Nat → Nat) (w w1 : Vt) : Prop := (∀ c a, ¬ c = 1035 → ¬ c = 1037 → vI w1 c a = vI w c a) ∧ ∀ k a i, ¬ (k = 2028 ∧ a = M 1028 ∧ 5 * p ≤ i) → vA w1 k a i = vA w k a i
theorem fr5.m {p : Nat} {M : Nat → Nat} {w w1 : Vt} (h : fr5 w w1) : frM p M w w1 := ⟨h.1, fun k a i _ => h.2 k a i⟩
theorem frM.t {p : Nat} {M : Nat → Nat} {w w1 w2 : Vt} (h : frM p M w w1) (h2 : fr5 w1 w2) : frM p M w w2 := ⟨fun c a q r => (h2.1 c a q r).trans (h.1 c a q r), fun k a i q => (h2.2 k a i).trans (h.2 k a i q)⟩
theorem frM.put {p k : Nat} {M : Nat → Nat} {w w1 : Vt} {v : Int32} (h : frM p M w w1) : frM p M w (uA w1 2028 (M 1028) (5 * p + k) v) := ⟨h.1, fun k' a i q => by
  have hq : ¬ (k' = 2028 ∧ a = M 1028 ∧ i = 5 * p + k) := fun r => q ⟨r.1, r.2.1, by omega⟩
  rw [rA_u, if_neg hq]
  exact h.2 k' a i q⟩
theorem tapM.frm {p : Nat} {w0 : Vt} {M : Nat → Nat} {m n : Nat} {w w1 : Vt} (h : tapM w0 M m n w) (hf : frM p M w w1) : tapM w0 M m n w1 := ⟨(hf.1 1036 _ (by decide) (by decide)).trans h.1, fun i => (hf.2 2033 _ i (fun q => absurd q.1 (by decide))).trans (h.2 i)⟩
def spP (p : Nat) (M : Nat → Nat) (w1 : Vt) (l : List Int32) : Prop := ∀ k, k < l.length → vA w1 2028 (M 1028) (5 * p + k) = l.getD k 0
theorem spP.fr {p : Nat} {M : Nat → Nat} {w1 w2 : Vt} {l : List Int32} (h : spP p M w1 l) (hf : fr5 w1 w2) : spP p M w2 l := fun k hk => (hf.2 _ _ _).trans (h k hk)
theorem spP.put {p : Nat} {M : Nat → Nat} {w1 : Vt} {l : List Int32} {v : Int32} (h : spP p M w1 l) (q : Nat) (hq : q = l.length) : spP p M (uA w1 2028 (M 1028) (5 * p + q) v) (l ++ [v]) := by
  intro k hk
  subst hq
  rw [rA_u]
  by_cases e : k = l.length
  · rw [if_pos ⟨rfl, rfl, by omega⟩, e]
    simp
  · have hk2 : k < l.length := by
      rw [List.length_append] at hk
      simp at hk
      omega
    have hn : ¬ ((2028 : Nat) = 2028 ∧ M 1028 = M 1028 ∧ 5 * p + k = 5 * p + l.length) := fun r => by omega
    rw [if_neg hn, h k hk2]
    simp [hk2, List.getElem?_append_left hk2]
def rdP (b : Nat → Int) (y : Nat → Int32) (p : Nat) (lo hi : Int32) (i : Nat) : Int32 × Nat := if (tw b p i).1 = true then tn b y lo hi (tw b p i).2 else (-1, (tw b p i).2)
theorem rdP_eq (b : Nat → Int) (y : Nat → Int32) (p : Nat) (lo hi : Int32) (i : Nat) (f : Int32 → Nat → Pr) : pN (rdP b y p lo hi i) f = pW (tw b p i) (fun i => pN (tn b y lo hi i) f) := by
  unfold rdP
  by_cases h : (tw b p i).1 = true
  · rw [if_pos h, pW_t h]
  · rw [if_neg h, pW_f h, pN_f rfl]
def pRm (b : Nat → Int) (y : Nat → Int32) (sh : Int32) (i : Nat) : Pr := pN (tn b y 0 (sh - 1) i) (fun s i => pN (rdP b y 2 0 7 i) (fun f i => pN (rdP b y 3 0 99 i) (fun u i => pN (rdP b y 4 u 99 i) (fun v i => pN (rdP b y 5 0 100 i) (fun c i => (2, 0, (s, f, u, v, c), i))))))
theorem pRm_eq (b : Nat → Int) (y : Nat → Int32) (sh : Int32) (i : Nat) : pRt b y sh i = pRm b y sh i := by
  simp only [pRm, pRt, rdP_eq]
section MP
variable {z : Zt} {m n : Nat} {w0 w : Vt} {M : Nat → Nat}
theorem tw1 (p i : Nat) : (tw (btI w0 M n) p i).1 = mw (btI w0 M n) (bl (btI w0 M n) i) p := by
  unfold tw
  by_cases h : mw (btI w0 M n) (bl (btI w0 M n) i) p = true
  · rw [if_pos h, h]
  · rw [if_neg h]
    cases hh : mw (btI w0 M n) (bl (btI w0 M n) i) p with
    | false => rfl
    | true => exact absurd hh h
theorem tw2 {p i : Nat} (hn : n ≤ 400) (hi : i ≤ n) (hp : p < 6) (h : (tw (btI w0 M n) p i).1 = true) : (tw (btI w0 M n) p i).2 = rn (isLe (btI w0 M n)) 401 (bl (btI w0 M n) i) := by
  rw [tw1] at h
  rw [((mw_iff hn (bl_le hn hi).1 hp).mp h).1]
  unfold tw
  rw [if_pos h]
theorem rd_le {p i : Nat} {lo hi : Int32} {y : Nat → Int32} (hn : n ≤ 400) (hi0 : i ≤ n) (hp : p < 6) (hlo : 0 ≤ lo.toInt) : (rdP (btI w0 M n) y p lo hi i).2 ≤ n ∧ (¬ (rdP (btI w0 M n) y p lo hi i).1 = -1 → lo.toInt ≤ (rdP (btI w0 M n) y p lo hi i).1.toInt) := by
  obtain ⟨a1, a2, a3⟩ := tw_le (w0 := w0) (M := M) hn hi0 hp
  unfold rdP
  by_cases h : (tw (btI w0 M n) p i).1 = true
  · rw [if_pos h]
    obtain ⟨c1, c2, c3, c4⟩ := tn_le (w0 := w0) (M := M) (lo := lo) (hi := hi) (y := y) hn a1 hlo
    exact ⟨c1, fun q => (c4 q).2⟩
  · rw [if_neg h]
    exact ⟨a1, fun q => absurd rfl q⟩
theorem rd_m {K : Int32 → Vt → Prop} {i p : Nat} {lo hi : Int32} (hM : SM z m M) (hT : tapM w0 M m n w) (hn : n ≤ 400) (hi0 : i ≤ n) (hp : p < 6) (e : vI w 1035 m = nI i) (hB : byB w0 M) (hlo : 0 ≤ lo.toInt) (hK : ∀ w1 : Vt, ((rdP (btI w0 M n) (byI w0 M) p lo hi i).1 = -1 → vI w1 1037 m = nI (rdP (btI w0 M n) (byI w0 M) p lo hi i).2) → (¬ (rdP (btI w0 M n) (byI w0 M) p lo hi i).1 = -1 → vI w1 1035 m = nI (rdP (btI w0 M n) (byI w0 M) p lo hi i).2) → fr5 w w1 → K (rdP (btI w0 M n) (byI w0 M) p lo hi i).1 w1) : wp_X10_reads z m p lo hi w K := by
  unfold wp_X10_reads
  have b1 := (bl_le (w0 := w0) (M := M) hn hi0).1
  refine ⟨sm_m hM, hp, wo_m hM hT hn hi0 e hB (fun w1 e1 e2 F1 => iw_m hM (hT.fr F1) hn b1 hp e1 e2 hB ⟨fun h => ?_, fun h => ?_⟩)⟩
  · have h := fl0 h
    rw [← tw1] at h
    have hr : rdP (btI w0 M n) (byI w0 M) p lo hi i = (-1, bl (btI w0 M n) i) := by unfold rdP; rw [if_neg h, tw_f h]
    have := hK w1 (fun _ => by rw [hr]; exact e2) (fun q => absurd (by rw [hr]) q) F1
    rw [hr] at this
    exact this
  · have h := fl1 h
    rw [← tw1] at h
    have hr : rdP (btI w0 M n) (byI w0 M) p lo hi i = tn (btI w0 M n) (byI w0 M) lo hi (tw (btI w0 M n) p i).2 := by unfold rdP; rw [if_pos h]
    rw [hr] at hK
    rw [← tw2 hn hi0 hp h] at e1
    have c1 := (tw_le (w0 := w0) (M := M) hn hi0 hp).1
    refine nu_m hM (hT.fr F1) hn c1 e1 hB (fun w2 q1 q2 F2 => hK w2 (fun q => ?_) q2 (F1.trans F2))
    rw [(tn_le (w0 := w0) (M := M) (hi := hi) (y := byI w0 M) hn c1 hlo).2.2.1 q]
    exact q1
theorem rp_m {K : Int32 → Vt → Prop} {i p : Nat} {sh : Int32} {R : Pr} (hM : SM z m M) (hT : tapM w0 M m n w) (hn : n ≤ 400) (hi0 : i ≤ n) (e : vI w 1035 m = nI i) (hB : byB w0 M) (hp : p ≤ 14) (e30 : vI w 1030 m = nI p) (esh : vI w 1014 m = sh) (hR : R = pPt (btI w0 M n) (byI w0 M) sh i)
    (hF : ∀ (w1 w2 : Vt) (j : Nat), R = pF j → vI w2 1037 m = nI j → frM p M w w1 → (w2 = w1 ∨ ∃ v, w2 = uI w1 1032 m v) → K 0 w2)
    (hH : ∀ (w1 : Vt) (v : Int32) (j : Nat), R = (1, v, p0v, j) → vI w1 1035 m = nI j → fr5 w w1 → K 1 (uI w1 1032 m v))
    (hG : ∀ (w1 : Vt) (s f u v c : Int32) (j : Nat), R = (2, 0, (s, f, u, v, c), j) → vI w1 1035 m = nI j → frM p M w w1 → spP p M w1 [s, f, u, v, c] → K 1 (uI w1 1030 m (nI (p + 1)))) : wp_X10_readPart z m w K := by
  unfold wp_X10_readPart
  unfold pPt at hR
  have b1 := (bl_le (w0 := w0) (M := M) hn hi0).1
  refine ⟨sm_m hM, wo_m hM hT hn hi0 e hB (fun w1 e1 e2 F1 => iw_m hM (hT.fr F1) hn b1 (by decide) e1 e2 hB ⟨fun h => ?_, fun h => ?_⟩)⟩
  · have h := fl0 h
    rw [← tw1] at h
    rw [if_neg h] at hR
    refine iw_m hM (hT.fr F1) hn b1 (by decide) e1 e2 hB ⟨fun h2 => ?_, fun h2 => ?_⟩
    · have h2 := fl1 h2
      rw [← tw1] at h2
      rw [pW_t h2] at hR
      have hR : R = pRt (btI w0 M n) (byI w0 M) sh (tw (btI w0 M n) 1 i).2 := hR
      rw [pRm_eq] at hR
      unfold pRm at hR
      rw [← tw2 hn hi0 (by decide) h2] at e1
      have b1 := (tw_le (w0 := w0) (M := M) hn hi0 (show 1 < 6 by decide)).1
      intro x9 ex9
      have ex : x9 = nI (5 * p) := by
        rw [ex9, F1.1 1030 m (by decide) (by decide), e30]
        exact nI_mul 5 p
      subst ex
      have hx1 : nI (5 * p) + 1 = nI (5 * p + 1) := nI_add (5 * p) 1
      have hx2 : nI (5 * p) + 2 = nI (5 * p + 2) := nI_add (5 * p) 2
      have hx3 : nI (5 * p) + 3 = nI (5 * p + 3) := nI_add (5 * p) 3
      have hx4 : nI (5 * p) + 4 = nI (5 * p + 4) := nI_add (5 * p) 4
      have hc0 : (nI (5 * p)).toNatClampNeg = 5 * p + 0 := nI_clamp (by omega)
      have hc1 : (nI (5 * p + 1)).toNatClampNeg = 5 * p + 1 := nI_clamp (by omega)
      have hc2 : (nI (5 * p + 2)).toNatClampNeg = 5 * p + 2 := nI_clamp (by omega)
      have hc3 : (nI (5 * p + 3)).toNatClampNeg = 5 * p + 3 := nI_clamp (by omega)
      have hc4 : (nI (5 * p + 4)).toNatClampNeg = 5 * p + 4 := nI_clamp (by omega)
      have v0 : vp_in (nI (5 * p)) 300 := vp_in_nI (by omega) (by decide)
      have v1 : vp_in (nI (5 * p + 1)) 300 := vp_in_nI (by omega) (by decide)
      have v2 : vp_in (nI (5 * p + 2)) 300 := vp_in_nI (by omega) (by decide)
      have v3 : vp_in (nI (5 * p + 3)) 300 := vp_in_nI (by omega) (by decide)
      have v4 : vp_in (nI (5 * p + 4)) 300 := vp_in_nI (by omega) (by decide)
      refine ⟨M 1028, (sm_1028 hM).1, (sm_1028 hM).2, ?_⟩
      rw [show vI w1 1014 m = sh from (F1.1 1014 m (by decide) (by decide)).trans esh]
      have T1 := hT.fr F1
      refine nu_m hM T1 hn b1 e1 hB (fun a0 p0 q0 G0 => ?_)
      obtain ⟨b_0, -, u_0, r_0⟩ := tn_le (w0 := w0) (M := M) (lo := 0) (hi := (sh - 1)) (y := byI w0 M) hn b1 (by decide)
      have p0 : (tn (btI w0 M n) (byI w0 M) 0 (sh - 1) (tw (btI w0 M n) 1 i).2).1 = -1 → vI a0 1037 m = nI (tn (btI w0 M n) (byI w0 M) 0 (sh - 1) (tw (btI w0 M n) 1 i).2).2 := fun q => by rw [u_0 q]; exact p0
      have g0 := ge0_iff (lo := 0) (by decide) (fun q => (r_0 q).2)
      refine ⟨v0, fun d0 ed0 => ⟨v0, ?_⟩⟩
      rw [hc0] at ed0 ⊢
      have val0 : vA d0 2028 (M 1028) (5 * p + 0) = (tn (btI w0 M n) (byI w0 M) 0 (sh - 1) (tw (btI w0 M n) 1 i).2).1 := by rw [ed0, rA_u, if_pos ⟨rfl, rfl, rfl⟩]
      have F_0 : frM p M w d0 := by rw [ed0]; exact ((fr5.m F1).t G0).put
      have S_0 : spP p M d0 [(tn (btI w0 M n) (byI w0 M) 0 (sh - 1) (tw (btI w0 M n) 1 i).2).1] := by rw [ed0]; exact spP.put (l := []) (fun k hk => absurd hk (Nat.not_lt_zero _)) 0 rfl
      have T_0 := hT.frm F_0
      rw [val0]
      have y0 : ¬ 0 ≤ (tn (btI w0 M n) (byI w0 M) 0 (sh - 1) (tw (btI w0 M n) 1 i).2).1 → (tn (btI w0 M n) (byI w0 M) 0 (sh - 1) (tw (btI w0 M n) 1 i).2).1 = -1 := fun h => Classical.byContradiction (fun q => h (g0.1 q))
      refine ⟨fun z0 => ?_, fun z0 => hF d0 d0 _ (by rw [hR, pN_f (y0 z0)]) (by rw [ed0]; exact p0 (y0 z0)) F_0 (Or.inl rfl)⟩
      have z0 : ¬ (tn (btI w0 M n) (byI w0 M) 0 (sh - 1) (tw (btI w0 M n) 1 i).2).1 = -1 := fun q => g0.2 q z0
      rw [pN_t z0] at hR
      have e_0 : vI d0 1035 m = nI (tn (btI w0 M n) (byI w0 M) 0 (sh - 1) (tw (btI w0 M n) 1 i).2).2 := by rw [ed0]; exact q0 z0
      simp only [hx1]
      refine rd_m hM T_0 hn b_0 (by decide) e_0 hB (by decide) (fun a1 p1 q1 G1 => ?_)
      obtain ⟨b_1, r_1⟩ := rd_le (w0 := w0) (M := M) (lo := 0) (hi := 7) (y := byI w0 M) hn b_0 (show 2 < 6 by decide) (by decide)
      have g1 := ge0_iff (lo := 0) (by decide) r_1
      refine ⟨v1, fun d1 ed1 => ⟨v1, ?_⟩⟩
      rw [hc1] at ed1 ⊢
      have val1 : vA d1 2028 (M 1028) (5 * p + 1) = (rdP (btI w0 M n) (byI w0 M) 2 0 7 (tn (btI w0 M n) (byI w0 M) 0 (sh - 1) (tw (btI w0 M n) 1 i).2).2).1 := by rw [ed1, rA_u, if_pos ⟨rfl, rfl, rfl⟩]
      have F_1 : frM p M w d1 := by rw [ed1]; exact (F_0.t G1).put
      have S_1 := (S_0.fr G1).put (v := (rdP (btI w0 M n) (byI w0 M) 2 0 7 (tn (btI w0 M n) (byI w0 M) 0 (sh - 1) (tw (btI w0 M n) 1 i).2).2).1) 1 rfl
      rw [← ed1] at S_1
      have T_1 := hT.frm F_1
      rw [val1]
      have y1 : ¬ 0 ≤ (rdP (btI w0 M n) (byI w0 M) 2 0 7 (tn (btI w0 M n) (byI w0 M) 0 (sh - 1) (tw (btI w0 M n) 1 i).2).2).1 → (rdP (btI w0 M n) (byI w0 M) 2 0 7 (tn (btI w0 M n) (byI w0 M) 0 (sh - 1) (tw (btI w0 M n) 1 i).2).2).1 = -1 := fun h => Classical.byContradiction (fun q => h (g1.1 q))
      refine ⟨fun z1 => ?_, fun z1 => hF d1 d1 _ (by rw [hR, pN_f (y1 z1)]) (by rw [ed1]; exact p1 (y1 z1)) F_1 (Or.inl rfl)⟩
      have z1 : ¬ (rdP (btI w0 M n) (byI w0 M) 2 0 7 (tn (btI w0 M n) (byI w0 M) 0 (sh - 1) (tw (btI w0 M n) 1 i).2).2).1 = -1 := fun q => g1.2 q z1
      rw [pN_t z1] at hR
      have e_1 : vI d1 1035 m = nI (rdP (btI w0 M n) (byI w0 M) 2 0 7 (tn (btI w0 M n) (byI w0 M) 0 (sh - 1) (tw (btI w0 M n) 1 i).2).2).2 := by rw [ed1]; exact q1 z1
      simp only [hx2]
      refine rd_m hM T_1 hn b_1 (by decide) e_1 hB (by decide) (fun a2 p2 q2 G2 => ?_)
      obtain ⟨b_2, r_2⟩ := rd_le (w0 := w0) (M := M) (lo := 0) (hi := 99) (y := byI w0 M) hn b_1 (show 3 < 6 by decide) (by decide)
      have g2 := ge0_iff (lo := 0) (by decide) r_2
      refine ⟨v2, fun d2 ed2 => ⟨v2, ?_⟩⟩
      rw [hc2] at ed2 ⊢
      have val2 : vA d2 2028 (M 1028) (5 * p + 2) = (rdP (btI w0 M n) (byI w0 M) 3 0 99 (rdP (btI w0 M n) (byI w0 M) 2 0 7 (tn (btI w0 M n) (byI w0 M) 0 (sh - 1) (tw (btI w0 M n) 1 i).2).2).2).1 := by rw [ed2, rA_u, if_pos ⟨rfl, rfl, rfl⟩]
      have F_2 : frM p M w d2 := by rw [ed2]; exact (F_1.t G2).put
      have S_2 := (S_1.fr G2).put (v := (rdP (btI w0 M n) (byI w0 M) 3 0 99 (rdP (btI w0 M n) (byI w0 M) 2 0 7 (tn (btI w0 M n) (byI w0 M) 0 (sh - 1) (tw (btI w0 M n) 1 i).2).2).2).1) 2 rfl
      rw [← ed2] at S_2
      have T_2 := hT.frm F_2
      rw [val2]
      have y2 : ¬ 0 ≤ (rdP (btI w0 M n) (byI w0 M) 3 0 99 (rdP (btI w0 M n) (byI w0 M) 2 0 7 (tn (btI w0 M n) (byI w0 M) 0 (sh - 1) (tw (btI w0 M n) 1 i).2).2).2).1 → (rdP (btI w0 M n) (byI w0 M) 3 0 99 (rdP (btI w0 M n) (byI w0 M) 2 0 7 (tn (btI w0 M n) (byI w0 M) 0 (sh - 1) (tw (btI w0 M n) 1 i).2).2).2).1 = -1 := fun h => Classical.byContradiction (fun q => h (g2.1 q))
      refine ⟨fun z2 => ?_, fun z2 => hF d2 d2 _ (by rw [hR, pN_f (y2 z2)]) (by rw [ed2]; exact p2 (y2 z2)) F_2 (Or.inl rfl)⟩
      have z2 : ¬ (rdP (btI w0 M n) (byI w0 M) 3 0 99 (rdP (btI w0 M n) (byI w0 M) 2 0 7 (tn (btI w0 M n) (byI w0 M) 0 (sh - 1) (tw (btI w0 M n) 1 i).2).2).2).1 = -1 := fun q => g2.2 q z2
      rw [pN_t z2] at hR
      have hU : 0 ≤ (rdP (btI w0 M n) (byI w0 M) 3 0 99 (rdP (btI w0 M n) (byI w0 M) 2 0 7 (tn (btI w0 M n) (byI w0 M) 0 (sh - 1) (tw (btI w0 M n) 1 i).2).2).2).1.toInt := r_2 z2
      have e_2 : vI d2 1035 m = nI (rdP (btI w0 M n) (byI w0 M) 3 0 99 (rdP (btI w0 M n) (byI w0 M) 2 0 7 (tn (btI w0 M n) (byI w0 M) 0 (sh - 1) (tw (btI w0 M n) 1 i).2).2).2).2 := by rw [ed2]; exact q2 z2
      simp only [hx3]
      refine ⟨v2, ?_⟩
      refine rd_m hM T_2 hn b_2 (by decide) e_2 hB hU (fun a3 p3 q3 G3 => ?_)
      obtain ⟨b_3, r_3⟩ := rd_le (w0 := w0) (M := M) (lo := (rdP (btI w0 M n) (byI w0 M) 3 0 99 (rdP (btI w0 M n) (byI w0 M) 2 0 7 (tn (btI w0 M n) (byI w0 M) 0 (sh - 1) (tw (btI w0 M n) 1 i).2).2).2).1) (hi := 99) (y := byI w0 M) hn b_2 (show 4 < 6 by decide) hU
      have g3 := ge0_iff (lo := (rdP (btI w0 M n) (byI w0 M) 3 0 99 (rdP (btI w0 M n) (byI w0 M) 2 0 7 (tn (btI w0 M n) (byI w0 M) 0 (sh - 1) (tw (btI w0 M n) 1 i).2).2).2).1) hU r_3
      refine ⟨v3, fun d3 ed3 => ⟨v3, ?_⟩⟩
      rw [hc3] at ed3 ⊢
      have val3 : vA d3 2028 (M 1028) (5 * p + 3) = (rdP (btI w0 M n) (byI w0 M) 4 (rdP (btI w0 M n) (byI w0 M) 3 0 99 (rdP (btI w0 M n) (byI w0 M) 2 0 7 (tn (btI w0 M n) (byI w0 M) 0 (sh - 1) (tw (btI w0 M n) 1 i).2).2).2).1 99 (rdP (btI w0 M n) (byI w0 M) 3 0 99 (rdP (btI w0 M n) (byI w0 M) 2 0 7 (tn (btI w0 M n) (byI w0 M) 0 (sh - 1) (tw (btI w0 M n) 1 i).2).2).2).2).1 := by rw [ed3, rA_u, if_pos ⟨rfl, rfl, rfl⟩]
      have F_3 : frM p M w d3 := by rw [ed3]; exact (F_2.t G3).put
      have S_3 := (S_2.fr G3).put (v := (rdP (btI w0 M n) (byI w0 M) 4 (rdP (btI w0 M n) (byI w0 M) 3 0 99 (rdP (btI w0 M n) (byI w0 M) 2 0 7 (tn (btI w0 M n) (byI w0 M) 0 (sh - 1) (tw (btI w0 M n) 1 i).2).2).2).1 99 (rdP (btI w0 M n) (byI w0 M) 3 0 99 (rdP (btI w0 M n) (byI w0 M) 2 0 7 (tn (btI w0 M n) (byI w0 M) 0 (sh - 1) (tw (btI w0 M n) 1 i).2).2).2).2).1) 3 rfl
      rw [← ed3] at S_3
      have T_3 := hT.frm F_3
      rw [val3]
      have y3 : ¬ 0 ≤ (rdP (btI w0 M n) (byI w0 M) 4 (rdP (btI w0 M n) (byI w0 M) 3 0 99 (rdP (btI w0 M n) (byI w0 M) 2 0 7 (tn (btI w0 M n) (byI w0 M) 0 (sh - 1) (tw (btI w0 M n) 1 i).2).2).2).1 99 (rdP (btI w0 M n) (byI w0 M) 3 0 99 (rdP (btI w0 M n) (byI w0 M) 2 0 7 (tn (btI w0 M n) (byI w0 M) 0 (sh - 1) (tw (btI w0 M n) 1 i).2).2).2).2).1 → (rdP (btI w0 M n) (byI w0 M) 4 (rdP (btI w0 M n) (byI w0 M) 3 0 99 (rdP (btI w0 M n) (byI w0 M) 2 0 7 (tn (btI w0 M n) (byI w0 M) 0 (sh - 1) (tw (btI w0 M n) 1 i).2).2).2).1 99 (rdP (btI w0 M n) (byI w0 M) 3 0 99 (rdP (btI w0 M n) (byI w0 M) 2 0 7 (tn (btI w0 M n) (byI w0 M) 0 (sh - 1) (tw (btI w0 M n) 1 i).2).2).2).2).1 = -1 := fun h => Classical.byContradiction (fun q => h (g3.1 q))
      refine ⟨fun z3 => ?_, fun z3 => hF d3 d3 _ (by rw [hR, pN_f (y3 z3)]) (by rw [ed3]; exact p3 (y3 z3)) F_3 (Or.inl rfl)⟩
      have z3 : ¬ (rdP (btI w0 M n) (byI w0 M) 4 (rdP (btI w0 M n) (byI w0 M) 3 0 99 (rdP (btI w0 M n) (byI w0 M) 2 0 7 (tn (btI w0 M n) (byI w0 M) 0 (sh - 1) (tw (btI w0 M n) 1 i).2).2).2).1 99 (rdP (btI w0 M n) (byI w0 M) 3 0 99 (rdP (btI w0 M n) (byI w0 M) 2 0 7 (tn (btI w0 M n) (byI w0 M) 0 (sh - 1) (tw (btI w0 M n) 1 i).2).2).2).2).1 = -1 := fun q => g3.2 q z3
      rw [pN_t z3] at hR
      have e_3 : vI d3 1035 m = nI (rdP (btI w0 M n) (byI w0 M) 4 (rdP (btI w0 M n) (byI w0 M) 3 0 99 (rdP (btI w0 M n) (byI w0 M) 2 0 7 (tn (btI w0 M n) (byI w0 M) 0 (sh - 1) (tw (btI w0 M n) 1 i).2).2).2).1 99 (rdP (btI w0 M n) (byI w0 M) 3 0 99 (rdP (btI w0 M n) (byI w0 M) 2 0 7 (tn (btI w0 M n) (byI w0 M) 0 (sh - 1) (tw (btI w0 M n) 1 i).2).2).2).2).2 := by rw [ed3]; exact q3 z3
      simp only [hx4]
      refine rd_m hM T_3 hn b_3 (by decide) e_3 hB (by decide) (fun a4 p4 q4 G4 => ?_)
      obtain ⟨b_4, r_4⟩ := rd_le (w0 := w0) (M := M) (lo := 0) (hi := 100) (y := byI w0 M) hn b_3 (show 5 < 6 by decide) (by decide)
      have g4 := ge0_iff (lo := 0) (by decide) r_4
      refine ⟨v4, fun d4 ed4 => ⟨v4, ?_⟩⟩
      rw [hc4] at ed4 ⊢
      have val4 : vA d4 2028 (M 1028) (5 * p + 4) = (rdP (btI w0 M n) (byI w0 M) 5 0 100 (rdP (btI w0 M n) (byI w0 M) 4 (rdP (btI w0 M n) (byI w0 M) 3 0 99 (rdP (btI w0 M n) (byI w0 M) 2 0 7 (tn (btI w0 M n) (byI w0 M) 0 (sh - 1) (tw (btI w0 M n) 1 i).2).2).2).1 99 (rdP (btI w0 M n) (byI w0 M) 3 0 99 (rdP (btI w0 M n) (byI w0 M) 2 0 7 (tn (btI w0 M n) (byI w0 M) 0 (sh - 1) (tw (btI w0 M n) 1 i).2).2).2).2).2).1 := by rw [ed4, rA_u, if_pos ⟨rfl, rfl, rfl⟩]
      have F_4 : frM p M w d4 := by rw [ed4]; exact (F_3.t G4).put
      have S_4 := (S_3.fr G4).put (v := (rdP (btI w0 M n) (byI w0 M) 5 0 100 (rdP (btI w0 M n) (byI w0 M) 4 (rdP (btI w0 M n) (byI w0 M) 3 0 99 (rdP (btI w0 M n) (byI w0 M) 2 0 7 (tn (btI w0 M n) (byI w0 M) 0 (sh - 1) (tw (btI w0 M n) 1 i).2).2).2).1 99 (rdP (btI w0 M n) (byI w0 M) 3 0 99 (rdP (btI w0 M n) (byI w0 M) 2 0 7 (tn (btI w0 M n) (byI w0 M) 0 (sh - 1) (tw (btI w0 M n) 1 i).2).2).2).2).2).1) 4 rfl
      rw [← ed4] at S_4
      have T_4 := hT.frm F_4
      rw [val4]
      have y4 : ¬ 0 ≤ (rdP (btI w0 M n) (byI w0 M) 5 0 100 (rdP (btI w0 M n) (byI w0 M) 4 (rdP (btI w0 M n) (byI w0 M) 3 0 99 (rdP (btI w0 M n) (byI w0 M) 2 0 7 (tn (btI w0 M n) (byI w0 M) 0 (sh - 1) (tw (btI w0 M n) 1 i).2).2).2).1 99 (rdP (btI w0 M n) (byI w0 M) 3 0 99 (rdP (btI w0 M n) (byI w0 M) 2 0 7 (tn (btI w0 M n) (byI w0 M) 0 (sh - 1) (tw (btI w0 M n) 1 i).2).2).2).2).2).1 → (rdP (btI w0 M n) (byI w0 M) 5 0 100 (rdP (btI w0 M n) (byI w0 M) 4 (rdP (btI w0 M n) (byI w0 M) 3 0 99 (rdP (btI w0 M n) (byI w0 M) 2 0 7 (tn (btI w0 M n) (byI w0 M) 0 (sh - 1) (tw (btI w0 M n) 1 i).2).2).2).1 99 (rdP (btI w0 M n) (byI w0 M) 3 0 99 (rdP (btI w0 M n) (byI w0 M) 2 0 7 (tn (btI w0 M n) (byI w0 M) 0 (sh - 1) (tw (btI w0 M n) 1 i).2).2).2).2).2).1 = -1 := fun h => Classical.byContradiction (fun q => h (g4.1 q))
      refine ⟨fun z4 => ?_, fun z4 => hF d4 d4 _ (by rw [hR, pN_f (y4 z4)]) (by rw [ed4]; exact p4 (y4 z4)) F_4 (Or.inl rfl)⟩
      have z4 : ¬ (rdP (btI w0 M n) (byI w0 M) 5 0 100 (rdP (btI w0 M n) (byI w0 M) 4 (rdP (btI w0 M n) (byI w0 M) 3 0 99 (rdP (btI w0 M n) (byI w0 M) 2 0 7 (tn (btI w0 M n) (byI w0 M) 0 (sh - 1) (tw (btI w0 M n) 1 i).2).2).2).1 99 (rdP (btI w0 M n) (byI w0 M) 3 0 99 (rdP (btI w0 M n) (byI w0 M) 2 0 7 (tn (btI w0 M n) (byI w0 M) 0 (sh - 1) (tw (btI w0 M n) 1 i).2).2).2).2).2).1 = -1 := fun q => g4.2 q z4
      rw [pN_t z4] at hR
      have e_4 : vI d4 1035 m = nI (rdP (btI w0 M n) (byI w0 M) 5 0 100 (rdP (btI w0 M n) (byI w0 M) 4 (rdP (btI w0 M n) (byI w0 M) 3 0 99 (rdP (btI w0 M n) (byI w0 M) 2 0 7 (tn (btI w0 M n) (byI w0 M) 0 (sh - 1) (tw (btI w0 M n) 1 i).2).2).2).1 99 (rdP (btI w0 M n) (byI w0 M) 3 0 99 (rdP (btI w0 M n) (byI w0 M) 2 0 7 (tn (btI w0 M n) (byI w0 M) 0 (sh - 1) (tw (btI w0 M n) 1 i).2).2).2).2).2).2 := by rw [ed4]; exact q4 z4
      intro w31 e31
      have e9 : vI d4 1030 m = nI p := (F_4.1 1030 m (by decide) (by decide)).trans e30
      rw [e9, nI_1] at e31
      rw [e31]
      exact hG d4 _ _ _ _ _ _ hR e_4 F_4 S_4
    · have h2 := fl0 h2
      rw [← tw1] at h2
      exact hF w1 w1 _ (by rw [hR, pW_f h2, tw_f h2]) e2 F1.m (Or.inl rfl)
  · have h := fl1 h
    rw [← tw1] at h
    rw [if_pos h] at hR
    rw [← tw2 hn hi0 (by decide) h] at e1
    have c1 := (tw_le (w0 := w0) (M := M) hn hi0 (show 0 < 6 by decide)).1
    refine nu_m hM (hT.fr F1) hn c1 e1 hB (fun w2 q1 q2 F2 w34 e34 => ?_)
    have F := F1.trans F2
    obtain ⟨t1, t2, t3, t4⟩ := tn_le (w0 := w0) (M := M) (lo := 0) (hi := 20) (y := byI w0 M) hn c1 (by decide)
    have t5 := ge0_iff (lo := 0) (by decide) (fun q => (t4 q).2)
    have er : vI w34 1032 m = (tn (btI w0 M n) (byI w0 M) 0 20 (tw (btI w0 M n) 0 i).2).1 := by rw [e34, vI_u, if_pos ⟨rfl, rfl⟩]
    rw [er]
    refine ⟨fun h3 => ?_, fun h3 => ?_⟩
    · have h4 : (tn (btI w0 M n) (byI w0 M) 0 20 (tw (btI w0 M n) 0 i).2).1 = -1 := Classical.byContradiction (fun q => by
        have := t5.1 q
        rw [Int32.le_iff_toInt_le] at this
        rw [Int32.lt_iff_toInt_lt] at h3
        omega)
      refine hF w2 w34 _ (by rw [hR, pN_f h4]) ?_ F.m (Or.inr ⟨_, e34⟩)
      rw [e34, vI_u, if_neg (fun q => absurd q.1 (by decide)), t3 h4]
      exact q1
    · have h4 : ¬ (tn (btI w0 M n) (byI w0 M) 0 20 (tw (btI w0 M n) 0 i).2).1 = -1 := fun q => h3 (by rw [q]; decide)
      rw [pN_t h4] at hR
      rw [e34]
      exact hH _ _ _ hR (q2 h4) F
end MP
