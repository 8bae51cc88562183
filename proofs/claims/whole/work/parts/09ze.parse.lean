/-! PURE PART: one part of the text of the rights -/
abbrev Pv := Int32 × Int32 × Int32 × Int32 × Int32
abbrev Pr := Nat × Int32 × Pv × Nat
def p0v : Pv := (0, 0, 0, 0, 0)
def pF (j : Nat) : Pr := (0, 0, p0v, j)
def pW (r : Bool × Nat) (f : Nat → Pr) : Pr := if r.1 = true then f r.2 else pF r.2
def pN (r : Int32 × Nat) (f : Int32 → Nat → Pr) : Pr := if r.1 = -1 then pF r.2 else f r.1 r.2
theorem pW_t {r : Bool × Nat} {f : Nat → Pr} (h : r.1 = true) : pW r f = f r.2 := if_pos h
theorem pW_f {r : Bool × Nat} {f : Nat → Pr} (h : ¬ r.1 = true) : pW r f = pF r.2 := if_neg h
theorem pN_f {r : Int32 × Nat} {f : Int32 → Nat → Pr} (h : r.1 = -1) : pN r f = pF r.2 := if_pos h
theorem pN_t {r : Int32 × Nat} {f : Int32 → Nat → Pr} (h : ¬ r.1 = -1) : pN r f = f r.1 r.2 := if_neg h
theorem fl0 {c : Bool} (h : (if c = true then (1 : Int32) else 0) = 0) : ¬ c = true := fun q => by rw [if_pos q] at h; exact absurd h (by decide)
theorem fl1 {c : Bool} (h : ¬ (if c = true then (1 : Int32) else 0) = 0) : c = true := by
  cases c with
  | true => rfl
  | false => exact absurd rfl h
def pRt (b : Nat → Int) (y : Nat → Int32) (sh : Int32) (i : Nat) : Pr := pN (tn b y 0 (sh - 1) i) (fun s i => pW (tw b 2 i) (fun i => pN (tn b y 0 7 i) (fun f i => pW (tw b 3 i) (fun i => pN (tn b y 0 99 i) (fun u i => pW (tw b 4 i) (fun i => pN (tn b y u 99 i) (fun v i => pW (tw b 5 i) (fun i => pN (tn b y 0 100 i) (fun c i => (2, 0, (s, f, u, v, c), i))))))))))
def pPt (b : Nat → Int) (y : Nat → Int32) (sh : Int32) (i : Nat) : Pr := if (tw b 0 i).1 = true then pN (tn b y 0 20 (tw b 0 i).2) (fun v i => (1, v, p0v, i)) else pW (tw b 1 i) (fun i => pRt b y sh i)
section PU
variable {n : Nat} {w0 : Vt} {M : Nat → Nat}
theorem tw_le {p i : Nat} (hn : n ≤ 400) (hi : i ≤ n) (hp : p < 6) : (tw (btI w0 M n) p i).2 ≤ n ∧ i ≤ (tw (btI w0 M n) p i).2 ∧ ((tw (btI w0 M n) p i).1 = true → i + wdL p ≤ (tw (btI w0 M n) p i).2) := by
  obtain ⟨h1, h2⟩ := bl_le (w0 := w0) (M := M) hn hi
  obtain ⟨q1, q2, q3⟩ := wd_ok p hp
  unfold tw
  by_cases h : mw (btI w0 M n) (bl (btI w0 M n) i) p = true
  · rw [if_pos h]
    have hm := ((mw_iff hn h1 hp).mp h).2 (wdL p - 1) (by omega)
    have hlt : bl (btI w0 M n) i + (wdL p - 1) < n := by
      rcases Nat.lt_or_ge (bl (btI w0 M n) i + (wdL p - 1)) n with q | q
      · exact q
      · rw [bt_n q] at hm
        have := (q3 (wdL p - 1) (by omega)).1
        omega
    exact ⟨by show bl (btI w0 M n) i + wdL p ≤ n; omega, by show i ≤ bl (btI w0 M n) i + wdL p; omega, fun _ => by show i + wdL p ≤ bl (btI w0 M n) i + wdL p; omega⟩
  · rw [if_neg h]
    exact ⟨h1, h2, fun q => absurd (show false = true from q) (by decide)⟩
theorem tw_bl {p i : Nat} (hn : n ≤ 400) (hi : i ≤ n) : tw (btI w0 M n) p (bl (btI w0 M n) i) = tw (btI w0 M n) p i := by
  obtain ⟨b1, b2, b3, b4⟩ := rn_spec (P := isBl (btI w0 M n)) (n := n) bl_lt 401 i (by omega)
  have e : bl (btI w0 M n) (bl (btI w0 M n) i) = bl (btI w0 M n) i := rn_stop b3
  unfold tw
  rw [e]
theorem tw_f {p i : Nat} (h : ¬ (tw (btI w0 M n) p i).1 = true) : (tw (btI w0 M n) p i).2 = bl (btI w0 M n) i := by
  unfold tw at h ⊢
  by_cases q : mw (btI w0 M n) (bl (btI w0 M n) i) p = true
  · rw [if_pos q] at h
    exact absurd rfl h
  · rw [if_neg q]
theorem tn_le {i : Nat} {lo hi : Int32} {y : Nat → Int32} (hn : n ≤ 400) (hi0 : i ≤ n) (hlo : 0 ≤ lo.toInt) : (tn (btI w0 M n) y lo hi i).2 ≤ n ∧ i ≤ (tn (btI w0 M n) y lo hi i).2 ∧ ((tn (btI w0 M n) y lo hi i).1 = -1 → (tn (btI w0 M n) y lo hi i).2 = bl (btI w0 M n) i) ∧ (¬ (tn (btI w0 M n) y lo hi i).1 = -1 → i + 1 ≤ (tn (btI w0 M n) y lo hi i).2 ∧ lo.toInt ≤ (tn (btI w0 M n) y lo hi i).1.toInt) := by
  obtain ⟨h1, h2⟩ := bl_le (w0 := w0) (M := M) hn hi0
  have h3 := (rnD_le (w0 := w0) (M := M) hn h1).1
  unfold tn
  generalize rnD (btI w0 M n) (bl (btI w0 M n) i) = d at *
  generalize bl (btI w0 M n) i = j at *
  by_cases h : d = 0 ∨ 3 < d ∨ inI (vlI y j d) lo hi = 0
  · rw [if_pos h]
    exact ⟨h1, h2, fun _ => rfl, fun q => absurd rfl q⟩
  · rw [if_neg h]
    have h4 : inI (vlI y j d) lo hi = 1 := (inI_01 _ _ _).resolve_left (fun q => h (Or.inr (Or.inr q)))
    have h5 := inI_1 h4
    have h6 : ¬ d = 0 := fun q => h (Or.inl q)
    refine ⟨h3, by show i ≤ j + d; omega, fun q => ?_, fun _ => ⟨by show i + 1 ≤ j + d; omega, h5.1⟩⟩
    exfalso
    have q1 : vlI y j d = -1 := q
    rw [q1] at h5
    have : (-1 : Int32).toInt = -1 := by decide
    omega
theorem ge0_iff {v lo : Int32} (hlo : 0 ≤ lo.toInt) (h : ¬ v = -1 → lo.toInt ≤ v.toInt) : (¬ v = -1 → 0 ≤ v) ∧ (v = -1 → ¬ 0 ≤ v) := by
  refine ⟨fun q => ?_, fun q => by rw [q]; decide⟩
  rw [Int32.le_iff_toInt_le]
  have := h q
  have e0 : (0 : Int32).toInt = 0 := rfl
  omega
theorem pRt_le {i : Nat} {sh : Int32} {y : Nat → Int32} (hn : n ≤ 400) (hi0 : i ≤ n) : (pRt (btI w0 M n) y sh i).2.2.2 ≤ n ∧ ((pRt (btI w0 M n) y sh i).1 = 0 ∨ ((pRt (btI w0 M n) y sh i).1 = 2 ∧ i + 22 ≤ (pRt (btI w0 M n) y sh i).2.2.2)) := by
  unfold pRt
  have w2l : wdL 2 = 6 := by decide
  have w3l : wdL 3 = 4 := by decide
  have w4l : wdL 4 = 2 := by decide
  have w5l : wdL 5 = 5 := by decide
  obtain ⟨c1, c2, c3, c4⟩ := tn_le (w0 := w0) (M := M) (lo := 0) (hi := (sh - 1)) (y := y) hn hi0 (by decide)
  by_cases g0 : (tn (btI w0 M n) y 0 (sh - 1) i).1 = -1
  · rw [pN_f g0]
    exact ⟨c1, Or.inl rfl⟩
  rw [pN_t g0]
  have d0 := (c4 g0).1
  generalize (tn (btI w0 M n) y 0 (sh - 1) i).2 = j0 at *
  have b0 := c1
  clear c1 c2 c3 c4
  obtain ⟨c1, c2, c3⟩ := tw_le (w0 := w0) (M := M) hn b0 (show 2 < 6 by decide)
  by_cases g1 : ¬ (tw (btI w0 M n) 2 j0).1 = true
  · rw [pW_f g1]
    exact ⟨c1, Or.inl rfl⟩
  have g1 : (tw (btI w0 M n) 2 j0).1 = true := Classical.byContradiction g1
  rw [pW_t g1]
  have d1 := c3 g1
  generalize (tw (btI w0 M n) 2 j0).2 = j1 at *
  have b1 := c1
  clear c1 c2 c3
  obtain ⟨c1, c2, c3, c4⟩ := tn_le (w0 := w0) (M := M) (lo := 0) (hi := 7) (y := y) hn b1 (by decide)
  by_cases g2 : (tn (btI w0 M n) y 0 7 j1).1 = -1
  · rw [pN_f g2]
    exact ⟨c1, Or.inl rfl⟩
  rw [pN_t g2]
  have d2 := (c4 g2).1
  generalize (tn (btI w0 M n) y 0 7 j1).2 = j2 at *
  have b2 := c1
  clear c1 c2 c3 c4
  obtain ⟨c1, c2, c3⟩ := tw_le (w0 := w0) (M := M) hn b2 (show 3 < 6 by decide)
  by_cases g3 : ¬ (tw (btI w0 M n) 3 j2).1 = true
  · rw [pW_f g3]
    exact ⟨c1, Or.inl rfl⟩
  have g3 : (tw (btI w0 M n) 3 j2).1 = true := Classical.byContradiction g3
  rw [pW_t g3]
  have d3 := c3 g3
  generalize (tw (btI w0 M n) 3 j2).2 = j3 at *
  have b3 := c1
  clear c1 c2 c3
  obtain ⟨c1, c2, c3, c4⟩ := tn_le (w0 := w0) (M := M) (lo := 0) (hi := 99) (y := y) hn b3 (by decide)
  by_cases g4 : (tn (btI w0 M n) y 0 99 j3).1 = -1
  · rw [pN_f g4]
    exact ⟨c1, Or.inl rfl⟩
  rw [pN_t g4]
  have d4 := (c4 g4).1
  have hU : 0 ≤ (tn (btI w0 M n) y 0 99 j3).1.toInt := (c4 g4).2
  generalize hu4 : (tn (btI w0 M n) y 0 99 j3).1 = u4 at *
  generalize (tn (btI w0 M n) y 0 99 j3).2 = j4 at *
  have b4 := c1
  clear c1 c2 c3 c4
  obtain ⟨c1, c2, c3⟩ := tw_le (w0 := w0) (M := M) hn b4 (show 4 < 6 by decide)
  by_cases g5 : ¬ (tw (btI w0 M n) 4 j4).1 = true
  · rw [pW_f g5]
    exact ⟨c1, Or.inl rfl⟩
  have g5 : (tw (btI w0 M n) 4 j4).1 = true := Classical.byContradiction g5
  rw [pW_t g5]
  have d5 := c3 g5
  generalize (tw (btI w0 M n) 4 j4).2 = j5 at *
  have b5 := c1
  clear c1 c2 c3
  obtain ⟨c1, c2, c3, c4⟩ := tn_le (w0 := w0) (M := M) (lo := u4) (hi := 99) (y := y) hn b5 (by have := hU; omega)
  by_cases g6 : (tn (btI w0 M n) y u4 99 j5).1 = -1
  · rw [pN_f g6]
    exact ⟨c1, Or.inl rfl⟩
  rw [pN_t g6]
  have d6 := (c4 g6).1
  generalize (tn (btI w0 M n) y u4 99 j5).2 = j6 at *
  have b6 := c1
  clear c1 c2 c3 c4
  obtain ⟨c1, c2, c3⟩ := tw_le (w0 := w0) (M := M) hn b6 (show 5 < 6 by decide)
  by_cases g7 : ¬ (tw (btI w0 M n) 5 j6).1 = true
  · rw [pW_f g7]
    exact ⟨c1, Or.inl rfl⟩
  have g7 : (tw (btI w0 M n) 5 j6).1 = true := Classical.byContradiction g7
  rw [pW_t g7]
  have d7 := c3 g7
  generalize (tw (btI w0 M n) 5 j6).2 = j7 at *
  have b7 := c1
  clear c1 c2 c3
  obtain ⟨c1, c2, c3, c4⟩ := tn_le (w0 := w0) (M := M) (lo := 0) (hi := 100) (y := y) hn b7 (by decide)
  by_cases g8 : (tn (btI w0 M n) y 0 100 j7).1 = -1
  · rw [pN_f g8]
    exact ⟨c1, Or.inl rfl⟩
  rw [pN_t g8]
  have d8 := (c4 g8).1
  exact ⟨c1, Or.inr ⟨rfl, by show i + 22 ≤ (tn (btI w0 M n) y 0 100 j7).2; omega⟩⟩
theorem pPt_le {i : Nat} {sh : Int32} {y : Nat → Int32} (hn : n ≤ 400) (hi0 : i ≤ n) : (pPt (btI w0 M n) y sh i).2.2.2 ≤ n ∧ ((pPt (btI w0 M n) y sh i).1 = 0 ∨ ((pPt (btI w0 M n) y sh i).1 = 1 ∧ i + 5 ≤ (pPt (btI w0 M n) y sh i).2.2.2) ∨ ((pPt (btI w0 M n) y sh i).1 = 2 ∧ i + 27 ≤ (pPt (btI w0 M n) y sh i).2.2.2)) := by
  have w0l : wdL 0 = 4 := by decide
  have w1l : wdL 1 = 5 := by decide
  unfold pPt
  by_cases h : (tw (btI w0 M n) 0 i).1 = true
  · rw [if_pos h]
    obtain ⟨a1, a2, a3⟩ := tw_le (w0 := w0) (M := M) hn hi0 (show 0 < 6 by decide)
    have a3 := a3 h
    generalize (tw (btI w0 M n) 0 i).2 = j at *
    obtain ⟨c1, c2, c3, c4⟩ := tn_le (w0 := w0) (M := M) (lo := 0) (hi := 20) (y := y) hn a1 (by decide)
    by_cases g : (tn (btI w0 M n) y 0 20 j).1 = -1
    · rw [pN_f g]
      exact ⟨c1, Or.inl rfl⟩
    · rw [pN_t g]
      exact ⟨c1, Or.inr (Or.inl ⟨rfl, by show i + 5 ≤ (tn (btI w0 M n) y 0 20 j).2; have := (c4 g).1; omega⟩)⟩
  · rw [if_neg h]
    obtain ⟨a1, a2, a3⟩ := tw_le (w0 := w0) (M := M) hn hi0 (show 1 < 6 by decide)
    by_cases g : (tw (btI w0 M n) 1 i).1 = true
    · rw [pW_t g]
      have a3 := a3 g
      obtain ⟨c1, c2⟩ := pRt_le (w0 := w0) (M := M) (sh := sh) (y := y) hn a1
      exact ⟨c1, c2.elim Or.inl (fun q => Or.inr (Or.inr ⟨q.1, by have := q.2; omega⟩))⟩
    · rw [pW_f g]
      exact ⟨a1, Or.inl rfl⟩
end PU
section PC
variable {z : Zt} {x t n : Nat} {B : Nat → Nat → Nat → Nat} {N : Nat → Nat → Nat} {w0 w : Vt} {M : Nat → Nat}
theorem rr_c {K : Int32 → Vt → Prop} {i p0 : Nat} {sh : Int32} {R : Pr} (hS : SC z x t B N) (hp0 : isO z 4 p0) (hT : tapC B w0 M n w) (hn : n ≤ 400) (hi0 : i ≤ n) (e : vI w 802 (B 900 0 0) = nI i) (hR : R = pRt (btI w0 M n) (byI w0 M) sh i) (hF : ∀ (w1 : Vt) (j : Nat), R = pF j → vI w1 802 (B 900 0 0) = nI j → fr2 w w1 → K 0 w1) (hG : ∀ (w1 : Vt) (s f u v c : Int32) (j : Nat), R = (2, 0, (s, f, u, v, c), j) → vI w1 802 (B 900 0 0) = nI j → fr2 w w1 → wp_X4_addPart z p0 s f u v c w1 (fun w2 => K 1 w2)) : wp_X8_readsRight z (B 900 0 0) p0 sh w K := by
  unfold wp_X8_readsRight
  refine ⟨(sc_900 hS).2, hp0, ?_⟩
  unfold pRt at hR
  refine tn_c hS hT hn hi0 e (fun s0 e0 G0 => ?_)
  have F0 : fr2 w s0 := G0
  have T0 := hT.fr G0
  obtain ⟨b0, -, -, r0⟩ := tn_le (w0 := w0) (M := M) (lo := 0) (hi := (sh - 1)) (y := byI w0 M) hn hi0 (by decide)
  refine ⟨fun h => hF _ _ (by rw [hR, pN_f h]) e0 F0, fun h => ?_⟩
  rw [pN_t h] at hR
  refine tw_c hS T0 hn b0 (by decide) e0 (fun s1 e1 G1 => ?_)
  have F1 : fr2 w s1 := F0.trans G1
  have T1 := T0.fr G1
  obtain ⟨b1, -, -⟩ := tw_le (w0 := w0) (M := M) hn b0 (show 2 < 6 by decide)
  refine ⟨fun h => ?_, fun h => hF _ _ (by rw [hR, pW_f (fl0 h)]) e1 F1⟩
  rw [pW_t (fl1 h)] at hR
  refine tn_c hS T1 hn b1 e1 (fun s2 e2 G2 => ?_)
  have F2 : fr2 w s2 := F1.trans G2
  have T2 := T1.fr G2
  obtain ⟨b2, -, -, r2⟩ := tn_le (w0 := w0) (M := M) (lo := 0) (hi := 7) (y := byI w0 M) hn b1 (by decide)
  refine ⟨fun h => hF _ _ (by rw [hR, pN_f h]) e2 F2, fun h => ?_⟩
  rw [pN_t h] at hR
  refine tw_c hS T2 hn b2 (by decide) e2 (fun s3 e3 G3 => ?_)
  have F3 : fr2 w s3 := F2.trans G3
  have T3 := T2.fr G3
  obtain ⟨b3, -, -⟩ := tw_le (w0 := w0) (M := M) hn b2 (show 3 < 6 by decide)
  refine ⟨fun h => ?_, fun h => hF _ _ (by rw [hR, pW_f (fl0 h)]) e3 F3⟩
  rw [pW_t (fl1 h)] at hR
  refine tn_c hS T3 hn b3 e3 (fun s4 e4 G4 => ?_)
  have F4 : fr2 w s4 := F3.trans G4
  have T4 := T3.fr G4
  obtain ⟨b4, -, -, r4⟩ := tn_le (w0 := w0) (M := M) (lo := 0) (hi := 99) (y := byI w0 M) hn b3 (by decide)
  refine ⟨fun h => hF _ _ (by rw [hR, pN_f h]) e4 F4, fun h => ?_⟩
  rw [pN_t h] at hR
  have hU : 0 ≤ (tn (btI w0 M n) (byI w0 M) 0 99 (tw (btI w0 M n) 3 (tn (btI w0 M n) (byI w0 M) 0 7 (tw (btI w0 M n) 2 (tn (btI w0 M n) (byI w0 M) 0 (sh - 1) i).2).2).2).2).1.toInt := (r4 h).2
  refine tw_c hS T4 hn b4 (by decide) e4 (fun s5 e5 G5 => ?_)
  have F5 : fr2 w s5 := F4.trans G5
  have T5 := T4.fr G5
  obtain ⟨b5, -, -⟩ := tw_le (w0 := w0) (M := M) hn b4 (show 4 < 6 by decide)
  refine ⟨fun h => ?_, fun h => hF _ _ (by rw [hR, pW_f (fl0 h)]) e5 F5⟩
  rw [pW_t (fl1 h)] at hR
  refine tn_c hS T5 hn b5 e5 (fun s6 e6 G6 => ?_)
  have F6 : fr2 w s6 := F5.trans G6
  have T6 := T5.fr G6
  obtain ⟨b6, -, -, r6⟩ := tn_le (w0 := w0) (M := M) (lo := (tn (btI w0 M n) (byI w0 M) 0 99 (tw (btI w0 M n) 3 (tn (btI w0 M n) (byI w0 M) 0 7 (tw (btI w0 M n) 2 (tn (btI w0 M n) (byI w0 M) 0 (sh - 1) i).2).2).2).2).1) (hi := 99) (y := byI w0 M) hn b5 hU
  refine ⟨fun h => hF _ _ (by rw [hR, pN_f h]) e6 F6, fun h => ?_⟩
  rw [pN_t h] at hR
  refine tw_c hS T6 hn b6 (by decide) e6 (fun s7 e7 G7 => ?_)
  have F7 : fr2 w s7 := F6.trans G7
  have T7 := T6.fr G7
  obtain ⟨b7, -, -⟩ := tw_le (w0 := w0) (M := M) hn b6 (show 5 < 6 by decide)
  refine ⟨fun h => ?_, fun h => hF _ _ (by rw [hR, pW_f (fl0 h)]) e7 F7⟩
  rw [pW_t (fl1 h)] at hR
  refine tn_c hS T7 hn b7 e7 (fun s8 e8 G8 => ?_)
  have F8 : fr2 w s8 := F7.trans G8
  have T8 := T7.fr G8
  obtain ⟨b8, -, -, r8⟩ := tn_le (w0 := w0) (M := M) (lo := 0) (hi := 100) (y := byI w0 M) hn b7 (by decide)
  refine ⟨fun h => ?_, fun h => hF _ _ (by rw [hR, pN_f h]) e8 F8⟩
  rw [pN_t h] at hR
  exact hG _ _ _ _ _ _ _ hR e8 F8
theorem rp_c {K : Int32 → Vt → Prop} {i p0 : Nat} {sh : Int32} {R : Pr} (hS : SC z x t B N) (hp0 : isO z 4 p0) (hT : tapC B w0 M n w) (hn : n ≤ 400) (hi0 : i ≤ n) (e : vI w 802 (B 900 0 0) = nI i) (hR : R = pPt (btI w0 M n) (byI w0 M) sh i) (hF : ∀ (w1 : Vt) (j : Nat), R = pF j → vI w1 802 (B 900 0 0) = nI j → fr2 w w1 → K 0 w1) (hH : ∀ (w1 : Vt) (v : Int32) (j : Nat), R = (1, v, p0v, j) → vI w1 802 (B 900 0 0) = nI j → fr2 w w1 → K 1 (uI w1 406 p0 v)) (hG : ∀ (w1 : Vt) (s f u v c : Int32) (j : Nat), R = (2, 0, (s, f, u, v, c), j) → vI w1 802 (B 900 0 0) = nI j → fr2 w w1 → wp_X4_addPart z p0 s f u v c w1 (fun w2 => K 1 w2)) : wp_X8_readsPart z (B 900 0 0) p0 sh w K := by
  unfold wp_X8_readsPart
  unfold pPt at hR
  refine ⟨(sc_900 hS).2, hp0, tw_c hS hT hn hi0 (by decide) e (fun w1 e1 F1 => ⟨fun h => ?_, fun h => ?_⟩)⟩
  · have h := fl0 h
    rw [if_neg h] at hR
    rw [tw_f h] at e1
    obtain ⟨b1, -⟩ := bl_le (w0 := w0) (M := M) hn hi0
    refine tw_c hS (hT.fr F1) hn b1 (by decide) e1 (fun w2 e2 F2 => ?_)
    rw [tw_bl hn hi0] at e2 ⊢
    have F := F1.trans F2
    refine ⟨fun h2 => hF _ _ (by rw [hR, pW_f (fl0 h2)]) e2 F, fun h2 => ?_⟩
    rw [pW_t (fl1 h2)] at hR
    obtain ⟨c1, -⟩ := tw_le (w0 := w0) (M := M) hn hi0 (show 1 < 6 by decide)
    refine rr_c hS hp0 (hT.fr F) hn c1 e2 hR (fun w3 j h3 e3 F3 => ⟨fun _ => hF w3 j h3 e3 (F.trans F3), fun q => absurd rfl q⟩) (fun w3 s f u v c j h3 e3 F3 => ?_)
    have g := hG w3 s f u v c j h3 e3 (F.trans F3)
    have ee : (fun w2 : Vt => ((1 : Int32) = 0 → K 0 w2) ∧ (¬ (1 : Int32) = 0 → K 1 w2)) = fun w2 => K 1 w2 := by
      funext w2
      exact propext ⟨fun q => q.2 (by decide), fun q => ⟨fun r => absurd r (by decide), fun _ => q⟩⟩
    rw [ee]
    exact g
  · have h := fl1 h
    rw [if_pos h] at hR
    obtain ⟨c1, -⟩ := tw_le (w0 := w0) (M := M) hn hi0 (show 0 < 6 by decide)
    unfold wp_X8_readsRest
    refine ⟨(sc_900 hS).2, hp0, tn_c hS (hT.fr F1) hn c1 e1 (fun w2 e2 F2 => ⟨fun h2 w4 e4 => ⟨isB1, ?_⟩, fun h2 => ⟨isB0, hF _ _ (by rw [hR, pN_f h2]) e2 (F1.trans F2)⟩⟩)⟩
    rw [pN_t h2] at hR
    rw [e4]
    exact hH _ _ _ hR e2 (F1.trans F2)
end PC
