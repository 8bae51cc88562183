/-! PURE PART: the new objects -/
abbrev T3 := Nat × Nat × Nat
def CP (z : Zt) (L : List T3) (Ks E : List (Nat × Nat)) (O : List (Nat × Nat × Nat × Nat)) : Prop := (∀ p ∈ L, p.2.1 ∈ z.2.1 ∧ zR z p.1 p.2.1 = some p.2.2) ∧ (∀ p ∈ Ks, isO z p.1 p.2) ∧ (∀ p ∈ E, p.2 ∈ z.2.1 ∧ ∀ i, zO z p.1 p.2 i = none) ∧ (∀ p ∈ O, p.2.1 ∈ z.2.1 ∧ zO z p.1 p.2.1 p.2.2.1 = some p.2.2.2)
theorem CP.new {z z1 : Zt} {L : List T3} {Ks E : List (Nat × Nat)} {O : List (Nat × Nat × Nat × Nat)} {q t : Nat} (h : CP z L Ks E O) (hq : q ∉ z.2.1) (e : z1 = nZ z q t) : CP z1 L ((t, q) :: Ks) E O ∧ (∀ p ∈ L, ¬ p.2.1 = q) ∧ (∀ b, b ∈ z.2.1 → b ∈ z1.2.1) ∧ q ∈ z1.2.1 ∧ ∀ k i, zO z1 k q i = none := by
  subst e
  obtain ⟨h1, h2, h3, h4⟩ := h
  have hn : ∀ b, b ∈ z.2.1 → ¬ b = q := fun b hb e => hq (e ▸ hb)
  refine ⟨⟨fun p hp => ?_, fun p hp => ?_, fun p hp => ?_, fun p hp => ?_⟩, fun p hp => hn _ (h1 p hp).1, fun b hb => List.mem_append_left _ hb, List.mem_append_right _ (List.mem_singleton.mpr rfl), fun k i => ?_⟩
  · obtain ⟨a, b⟩ := h1 p hp
    refine ⟨List.mem_append_left _ a, ?_⟩
    show va_up (z.2.2.1 p.1) q none p.2.1 = _
    unfold va_up
    rw [if_neg (hn _ a)]
    exact b
  · rcases List.mem_cons.mp hp with e | hp
    · rw [e]
      exact isO_nZq
    · exact isO_nZ hq (h2 p hp)
  · obtain ⟨a, b⟩ := h3 p hp
    refine ⟨List.mem_append_left _ a, fun i => ?_⟩
    show va_up (z.2.2.2 p.1) q (fun _ => none) p.2 i = _
    unfold va_up
    rw [if_neg (hn _ a)]
    exact b i
  · obtain ⟨a, b⟩ := h4 p hp
    refine ⟨List.mem_append_left _ a, ?_⟩
    show va_up (z.2.2.2 p.1) q (fun _ => none) p.2.1 p.2.2.1 = _
    unfold va_up
    rw [if_neg (hn _ a)]
    exact b
  · show va_up (z.2.2.2 k) q (fun _ => none) q i = _
    unfold va_up
    rw [if_pos rfl]
theorem CP.ref {z z1 : Zt} {L : List T3} {Ks E : List (Nat × Nat)} {O : List (Nat × Nat × Nat × Nat)} {c a b : Nat} (h : CP z L Ks E O) (ha : a ∈ z.2.1) (hL : ∀ p ∈ L, ¬ (p.1 = c ∧ p.2.1 = a)) (e : z1 = uR z c a (some b)) : CP z1 ((c, a, b) :: L) Ks E O ∧ z1.2.1 = z.2.1 := by
  subst e
  obtain ⟨h1, h2, h3, h4⟩ := h
  refine ⟨⟨fun p hp => ?_, h2, h3, h4⟩, rfl⟩
  rcases List.mem_cons.mp hp with e | hp
  · rw [e]
    exact ⟨ha, by rw [zR_u, if_pos ⟨rfl, rfl⟩]⟩
  · obtain ⟨a1, b1⟩ := h1 p hp
    exact ⟨a1, by rw [zR_u, if_neg (hL p hp)]; exact b1⟩
theorem CP.put {z z1 : Zt} {L : List T3} {Ks E : List (Nat × Nat)} {O : List (Nat × Nat × Nat × Nat)} {k a j b : Nat} (h : CP z L Ks E O) (ha : a ∈ z.2.1) (hE : ∀ p ∈ E, ¬ p.1 = k) (hO : ∀ p ∈ O, ¬ p.2.2.1 = j) (e : z1 = uO z k a j (some b)) : CP z1 L Ks E ((k, a, j, b) :: O) ∧ z1.2.1 = z.2.1 := by
  subst e
  obtain ⟨h1, h2, h3, h4⟩ := h
  refine ⟨⟨h1, h2, fun p hp => ?_, fun p hp => ?_⟩, rfl⟩
  · obtain ⟨a1, b1⟩ := h3 p hp
    exact ⟨a1, fun i => by rw [rO_u, if_neg (fun q => hE p hp q.1)]; exact b1 i⟩
  · rcases List.mem_cons.mp hp with e | hp
    · rw [e]
      exact ⟨ha, by rw [rO_u, if_pos ⟨rfl, rfl, rfl⟩]⟩
    · obtain ⟨a1, b1⟩ := h4 p hp
      exact ⟨a1, by rw [rO_u, if_neg (fun q => hO p hp q.2.2)]; exact b1⟩
theorem CP.emp {z : Zt} {L : List T3} {Ks E : List (Nat × Nat)} {O : List (Nat × Nat × Nat × Nat)} {k a : Nat} (h : CP z L Ks E O) (ha : a ∈ z.2.1) (hE : ∀ i, zO z k a i = none) : CP z L Ks ((k, a) :: E) O := ⟨h.1, h.2.1, fun p hp => by
  rcases List.mem_cons.mp hp with e | hp
  · rw [e]
    exact ⟨ha, hE⟩
  · exact h.2.2.1 p hp, h.2.2.2⟩
/-- every value is 0 but those of f, g -/
def VF (z : Zt) (w : Vt) (f : Nat → Nat → Int32) (g : Nat → Nat → Nat → Int32) : Prop := (∀ c a, vI w c a = f c a) ∧ (∀ k a i, vA w k a i = g k a i) ∧ (∀ c a, a ∉ z.2.1 → f c a = 0) ∧ ∀ k a i, a ∉ z.2.1 → g k a i = 0
def sI (f : Nat → Nat → Int32) (c a : Nat) (v : Int32) : Nat → Nat → Int32 := fun c' b => if c' = c ∧ b = a then v else f c' b
def sA (g : Nat → Nat → Nat → Int32) (k a j : Nat) (v : Int32) : Nat → Nat → Nat → Int32 := fun k' b i => if k' = k ∧ b = a ∧ i = j then v else g k' b i
theorem VF.new {z z1 : Zt} {w w1 : Vt} {f : Nat → Nat → Int32} {g : Nat → Nat → Nat → Int32} {q t : Nat} (h : VF z w f g) (hq : q ∉ z.2.1) (e : z1 = nZ z q t) (e2 : w1 = nV w q) : VF z1 w1 f g := by
  subst e
  subst e2
  obtain ⟨h1, h2, h3, h4⟩ := h
  refine ⟨fun c a => ?_, fun k a i => ?_, fun c a ha => h3 c a (fun q => ha (List.mem_append_left _ q)), fun k a i ha => h4 k a i (fun q => ha (List.mem_append_left _ q))⟩
  · rw [rI_nV]
    by_cases e : a = q
    · rw [if_pos e, e, h3 c q hq]
    · rw [if_neg e]
      exact h1 c a
  · rw [rA_nV]
    by_cases e : a = q
    · rw [if_pos e, e, h4 k q i hq]
    · rw [if_neg e]
      exact h2 k a i
theorem VF.z {z z1 : Zt} {w : Vt} {f : Nat → Nat → Int32} {g : Nat → Nat → Nat → Int32} (h : VF z w f g) (e : z1.2.1 = z.2.1) : VF z1 w f g := ⟨h.1, h.2.1, fun c a ha => h.2.2.1 c a (e ▸ ha), fun k a i ha => h.2.2.2 k a i (e ▸ ha)⟩
theorem VF.i {z : Zt} {w w1 : Vt} {f : Nat → Nat → Int32} {g : Nat → Nat → Nat → Int32} {c a : Nat} {v : Int32} (h : VF z w f g) (ha : a ∈ z.2.1) (e : w1 = uI w c a v) : VF z w1 (sI f c a v) g := by
  subst e
  refine ⟨fun c' b => ?_, h.2.1, fun c' b hb => ?_, h.2.2.2⟩
  · rw [vI_u]
    unfold sI
    rw [h.1]
  · unfold sI
    have hq : ¬ (c' = c ∧ b = a) := fun q => hb (q.2 ▸ ha)
    rw [if_neg hq]
    exact h.2.2.1 c' b hb
theorem VF.a {z : Zt} {w w1 : Vt} {f : Nat → Nat → Int32} {g : Nat → Nat → Nat → Int32} {k a j : Nat} {v : Int32} (h : VF z w f g) (ha : a ∈ z.2.1) (e : w1 = uA w k a j v) : VF z w1 f (sA g k a j v) := by
  subst e
  refine ⟨h.1, fun k' b i => ?_, h.2.2.1, fun k' b i hb => ?_⟩
  · rw [rA_u]
    unfold sA
    rw [h.2.1]
  · unfold sA
    have hq : ¬ (k' = k ∧ b = a ∧ i = j) := fun q => hb (q.2.1 ▸ ha)
    rw [if_neg hq]
    exact h.2.2.2 k' b i hb
theorem nd_inj {l : List Nat} (h : l.Nodup) {i j : Nat} (hi : i < l.length) (hj : j < l.length) : (l.getD i 0 = l.getD j 0 ↔ i = j) := List.getD_inj hi hj h
theorem new8 {z : Zt} {w : Vt} {K : Zt → Vt → Prop} {L : List T3} {Ks E : List (Nat × Nat)} {O : List (Nat × Nat × Nat × Nat)} {f : Nat → Nat → Int32} {g : Nat → Nat → Nat → Int32} {q : Nat} (c0 : CP z L Ks E O) (v0 : VF z w f g) (hq : isO z 8 q) (hL : ∀ p ∈ L, ¬ p.2.1 = q) (hK : ∀ (z9 : Zt) (w9 : Vt) (a0 : Nat), CP z9 ((800, q, a0) :: L) ((1800, a0) :: Ks) E O → VF z9 w9 f g → (∀ b, b ∈ z.2.1 → b ∈ z9.2.1) → (∀ t b, isO z t b → isO z9 t b) → a0 ∉ z.2.1 → a0 ∈ z9.2.1 → K z9 w9) : wp_X8_init z q w K := by
  unfold wp_X8_init
  refine ⟨hq, ?_⟩
  intro a0 ha0 z0 ez0 w0 ew0
  obtain ⟨c0a, -, s0, m0, -⟩ := c0.new ha0 ez0
  have v0a := v0.new ha0 ez0 ew0
  have hq0 : isO z0 8 q := by rw [ez0]; exact isO_nZ ha0 hq
  have k0 : ∀ t b, isO z t b → isO z0 t b := fun t b h => by rw [ez0]; exact isO_nZ ha0 h
  refine ⟨hq0, c0a.2.1 _ List.mem_cons_self, ?_⟩
  intro y0 ey0
  obtain ⟨c0b, e0⟩ := c0a.ref (c := 800) (a := q) (b := a0) hq0.1 (fun p hp r => by
    skip
    exact hL p hp r.2) ey0
  have v0b := v0a.z e0
  have hq0 : isO y0 8 q := by rw [ey0]; exact hq0
  have k0 : ∀ t b, isO z t b → isO y0 t b := fun t b h => by rw [ey0]; exact k0 t b h
  refine ⟨hq0, ?_⟩
  have v9 := v0b
  have S0 : ∀ b, b ∈ z.2.1 → b ∈ y0.2.1 := fun b h => by rw [e0]; exact s0 b h
  exact hK y0 w0 a0 c0b v9 (fun _ h => S0 _ (h)) (fun _ _ h => k0 _ _ (h)) (fun h => ha0 (h)) (by rw [e0]; exact m0)
theorem new4 {z : Zt} {w : Vt} {K : Zt → Vt → Prop} {L : List T3} {Ks E : List (Nat × Nat)} {O : List (Nat × Nat × Nat × Nat)} {f : Nat → Nat → Int32} {g : Nat → Nat → Nat → Int32} {q : Nat} (c0 : CP z L Ks E O) (v0 : VF z w f g) (hq : isO z 4 q) (hL : ∀ p ∈ L, ¬ p.2.1 = q) (hK : ∀ (z9 : Zt) (w9 : Vt) (a0 a1 a2 a3 a4 : Nat), CP z9 ((404, q, a4) :: (403, q, a3) :: (402, q, a2) :: (401, q, a1) :: (400, q, a0) :: L) ((1404, a4) :: (1403, a3) :: (1402, a2) :: (1401, a1) :: (1400, a0) :: Ks) E O → VF z9 w9 (sI f 406 q 2) g → (∀ b, b ∈ z.2.1 → b ∈ z9.2.1) → (∀ t b, isO z t b → isO z9 t b) → a0 ∉ z.2.1 → a0 ∈ z9.2.1 → a1 ∉ z.2.1 → a1 ∈ z9.2.1 → a2 ∉ z.2.1 → a2 ∈ z9.2.1 → a3 ∉ z.2.1 → a3 ∈ z9.2.1 → a4 ∉ z.2.1 → a4 ∈ z9.2.1 → K z9 w9) : wp_X4_init z q w K := by
  unfold wp_X4_init
  refine ⟨hq, ?_⟩
  intro a0 ha0 z0 ez0 w0 ew0
  obtain ⟨c0a, -, s0, m0, -⟩ := c0.new ha0 ez0
  have v0a := v0.new ha0 ez0 ew0
  have hq0 : isO z0 4 q := by rw [ez0]; exact isO_nZ ha0 hq
  have k0 : ∀ t b, isO z t b → isO z0 t b := fun t b h => by rw [ez0]; exact isO_nZ ha0 h
  refine ⟨hq0, c0a.2.1 _ List.mem_cons_self, ?_⟩
  intro y0 ey0
  obtain ⟨c0b, e0⟩ := c0a.ref (c := 400) (a := q) (b := a0) hq0.1 (fun p hp r => by
    skip
    exact hL p hp r.2) ey0
  have v0b := v0a.z e0
  have hq0 : isO y0 4 q := by rw [ey0]; exact hq0
  have k0 : ∀ t b, isO z t b → isO y0 t b := fun t b h => by rw [ey0]; exact k0 t b h
  refine ⟨hq0, ?_⟩
  intro a1 ha1 z1 ez1 w1 ew1
  obtain ⟨c1a, -, s1, m1, -⟩ := c0b.new ha1 ez1
  have v1a := v0b.new ha1 ez1 ew1
  have hq1 : isO z1 4 q := by rw [ez1]; exact isO_nZ ha1 hq0
  have k1 : ∀ t b, isO y0 t b → isO z1 t b := fun t b h => by rw [ez1]; exact isO_nZ ha1 h
  refine ⟨hq1, c1a.2.1 _ List.mem_cons_self, ?_⟩
  intro y1 ey1
  obtain ⟨c1b, e1⟩ := c1a.ref (c := 401) (a := q) (b := a1) hq1.1 (fun p hp r => by
    rcases List.mem_cons.mp hp with hp | hp
    · rw [hp] at r
      exact absurd r.1 (by simp)
    exact hL p hp r.2) ey1
  have v1b := v1a.z e1
  have hq1 : isO y1 4 q := by rw [ey1]; exact hq1
  have k1 : ∀ t b, isO y0 t b → isO y1 t b := fun t b h => by rw [ey1]; exact k1 t b h
  refine ⟨hq1, ?_⟩
  intro a2 ha2 z2 ez2 w2 ew2
  obtain ⟨c2a, -, s2, m2, -⟩ := c1b.new ha2 ez2
  have v2a := v1b.new ha2 ez2 ew2
  have hq2 : isO z2 4 q := by rw [ez2]; exact isO_nZ ha2 hq1
  have k2 : ∀ t b, isO y1 t b → isO z2 t b := fun t b h => by rw [ez2]; exact isO_nZ ha2 h
  refine ⟨hq2, c2a.2.1 _ List.mem_cons_self, ?_⟩
  intro y2 ey2
  obtain ⟨c2b, e2⟩ := c2a.ref (c := 402) (a := q) (b := a2) hq2.1 (fun p hp r => by
    rcases List.mem_cons.mp hp with hp | hp
    · rw [hp] at r
      exact absurd r.1 (by simp)
    rcases List.mem_cons.mp hp with hp | hp
    · rw [hp] at r
      exact absurd r.1 (by simp)
    exact hL p hp r.2) ey2
  have v2b := v2a.z e2
  have hq2 : isO y2 4 q := by rw [ey2]; exact hq2
  have k2 : ∀ t b, isO y1 t b → isO y2 t b := fun t b h => by rw [ey2]; exact k2 t b h
  refine ⟨hq2, ?_⟩
  intro a3 ha3 z3 ez3 w3 ew3
  obtain ⟨c3a, -, s3, m3, -⟩ := c2b.new ha3 ez3
  have v3a := v2b.new ha3 ez3 ew3
  have hq3 : isO z3 4 q := by rw [ez3]; exact isO_nZ ha3 hq2
  have k3 : ∀ t b, isO y2 t b → isO z3 t b := fun t b h => by rw [ez3]; exact isO_nZ ha3 h
  refine ⟨hq3, c3a.2.1 _ List.mem_cons_self, ?_⟩
  intro y3 ey3
  obtain ⟨c3b, e3⟩ := c3a.ref (c := 403) (a := q) (b := a3) hq3.1 (fun p hp r => by
    rcases List.mem_cons.mp hp with hp | hp
    · rw [hp] at r
      exact absurd r.1 (by simp)
    rcases List.mem_cons.mp hp with hp | hp
    · rw [hp] at r
      exact absurd r.1 (by simp)
    rcases List.mem_cons.mp hp with hp | hp
    · rw [hp] at r
      exact absurd r.1 (by simp)
    exact hL p hp r.2) ey3
  have v3b := v3a.z e3
  have hq3 : isO y3 4 q := by rw [ey3]; exact hq3
  have k3 : ∀ t b, isO y2 t b → isO y3 t b := fun t b h => by rw [ey3]; exact k3 t b h
  refine ⟨hq3, ?_⟩
  intro a4 ha4 z4 ez4 w4 ew4
  obtain ⟨c4a, -, s4, m4, -⟩ := c3b.new ha4 ez4
  have v4a := v3b.new ha4 ez4 ew4
  have hq4 : isO z4 4 q := by rw [ez4]; exact isO_nZ ha4 hq3
  have k4 : ∀ t b, isO y3 t b → isO z4 t b := fun t b h => by rw [ez4]; exact isO_nZ ha4 h
  refine ⟨hq4, c4a.2.1 _ List.mem_cons_self, ?_⟩
  intro y4 ey4
  obtain ⟨c4b, e4⟩ := c4a.ref (c := 404) (a := q) (b := a4) hq4.1 (fun p hp r => by
    rcases List.mem_cons.mp hp with hp | hp
    · rw [hp] at r
      exact absurd r.1 (by simp)
    rcases List.mem_cons.mp hp with hp | hp
    · rw [hp] at r
      exact absurd r.1 (by simp)
    rcases List.mem_cons.mp hp with hp | hp
    · rw [hp] at r
      exact absurd r.1 (by simp)
    rcases List.mem_cons.mp hp with hp | hp
    · rw [hp] at r
      exact absurd r.1 (by simp)
    exact hL p hp r.2) ey4
  have v4b := v4a.z e4
  have hq4 : isO y4 4 q := by rw [ey4]; exact hq4
  have k4 : ∀ t b, isO y3 t b → isO y4 t b := fun t b h => by rw [ey4]; exact k4 t b h
  refine ⟨hq4, ?_⟩
  intro w9 ew9
  have v9 := v4b.i hq4.1 ew9
  have S0 : ∀ b, b ∈ z.2.1 → b ∈ y0.2.1 := fun b h => by rw [e0]; exact s0 b h
  have S1 : ∀ b, b ∈ y0.2.1 → b ∈ y1.2.1 := fun b h => by rw [e1]; exact s1 b h
  have S2 : ∀ b, b ∈ y1.2.1 → b ∈ y2.2.1 := fun b h => by rw [e2]; exact s2 b h
  have S3 : ∀ b, b ∈ y2.2.1 → b ∈ y3.2.1 := fun b h => by rw [e3]; exact s3 b h
  have S4 : ∀ b, b ∈ y3.2.1 → b ∈ y4.2.1 := fun b h => by rw [e4]; exact s4 b h
  exact hK y4 w9 a0 a1 a2 a3 a4 c4b v9 (fun _ h => S4 _ (S3 _ (S2 _ (S1 _ (S0 _ (h)))))) (fun _ _ h => k4 _ _ (k3 _ _ (k2 _ _ (k1 _ _ (k0 _ _ (h)))))) (fun h => ha0 (h)) (S4 _ (S3 _ (S2 _ (S1 _ (by rw [e0]; exact m0))))) (fun h => ha1 (S0 _ (h))) (S4 _ (S3 _ (S2 _ (by rw [e1]; exact m1)))) (fun h => ha2 (S1 _ (S0 _ (h)))) (S4 _ (S3 _ (by rw [e2]; exact m2))) (fun h => ha3 (S2 _ (S1 _ (S0 _ (h))))) (S4 _ (by rw [e3]; exact m3)) (fun h => ha4 (S3 _ (S2 _ (S1 _ (S0 _ (h)))))) (by rw [e4]; exact m4)
theorem new7 {z : Zt} {w : Vt} {K : Zt → Vt → Prop} {L : List T3} {Ks E : List (Nat × Nat)} {O : List (Nat × Nat × Nat × Nat)} {f : Nat → Nat → Int32} {g : Nat → Nat → Nat → Int32} {q : Nat} (c0 : CP z L Ks E O) (v0 : VF z w f g) (hq : isO z 7 q) (hL : ∀ p ∈ L, ¬ p.2.1 = q) (hK : ∀ (z9 : Zt) (w9 : Vt) (a0 a1 a2 a3 a4 : Nat), CP z9 ((704, q, a4) :: (703, q, a3) :: (702, q, a2) :: (701, q, a1) :: (700, q, a0) :: L) ((1704, a4) :: (1703, a3) :: (1702, a2) :: (1701, a1) :: (1700, a0) :: Ks) E O → VF z9 w9 f g → (∀ b, b ∈ z.2.1 → b ∈ z9.2.1) → (∀ t b, isO z t b → isO z9 t b) → a0 ∉ z.2.1 → a0 ∈ z9.2.1 → a1 ∉ z.2.1 → a1 ∈ z9.2.1 → a2 ∉ z.2.1 → a2 ∈ z9.2.1 → a3 ∉ z.2.1 → a3 ∈ z9.2.1 → a4 ∉ z.2.1 → a4 ∈ z9.2.1 → K z9 w9) : wp_X7_init z q w K := by
  unfold wp_X7_init
  refine ⟨hq, ?_⟩
  intro a0 ha0 z0 ez0 w0 ew0
  obtain ⟨c0a, -, s0, m0, -⟩ := c0.new ha0 ez0
  have v0a := v0.new ha0 ez0 ew0
  have hq0 : isO z0 7 q := by rw [ez0]; exact isO_nZ ha0 hq
  have k0 : ∀ t b, isO z t b → isO z0 t b := fun t b h => by rw [ez0]; exact isO_nZ ha0 h
  refine ⟨hq0, c0a.2.1 _ List.mem_cons_self, ?_⟩
  intro y0 ey0
  obtain ⟨c0b, e0⟩ := c0a.ref (c := 700) (a := q) (b := a0) hq0.1 (fun p hp r => by
    skip
    exact hL p hp r.2) ey0
  have v0b := v0a.z e0
  have hq0 : isO y0 7 q := by rw [ey0]; exact hq0
  have k0 : ∀ t b, isO z t b → isO y0 t b := fun t b h => by rw [ey0]; exact k0 t b h
  refine ⟨hq0, ?_⟩
  intro a1 ha1 z1 ez1 w1 ew1
  obtain ⟨c1a, -, s1, m1, -⟩ := c0b.new ha1 ez1
  have v1a := v0b.new ha1 ez1 ew1
  have hq1 : isO z1 7 q := by rw [ez1]; exact isO_nZ ha1 hq0
  have k1 : ∀ t b, isO y0 t b → isO z1 t b := fun t b h => by rw [ez1]; exact isO_nZ ha1 h
  refine ⟨hq1, c1a.2.1 _ List.mem_cons_self, ?_⟩
  intro y1 ey1
  obtain ⟨c1b, e1⟩ := c1a.ref (c := 701) (a := q) (b := a1) hq1.1 (fun p hp r => by
    rcases List.mem_cons.mp hp with hp | hp
    · rw [hp] at r
      exact absurd r.1 (by simp)
    exact hL p hp r.2) ey1
  have v1b := v1a.z e1
  have hq1 : isO y1 7 q := by rw [ey1]; exact hq1
  have k1 : ∀ t b, isO y0 t b → isO y1 t b := fun t b h => by rw [ey1]; exact k1 t b h
  refine ⟨hq1, ?_⟩
  intro a2 ha2 z2 ez2 w2 ew2
  obtain ⟨c2a, -, s2, m2, -⟩ := c1b.new ha2 ez2
  have v2a := v1b.new ha2 ez2 ew2
  have hq2 : isO z2 7 q := by rw [ez2]; exact isO_nZ ha2 hq1
  have k2 : ∀ t b, isO y1 t b → isO z2 t b := fun t b h => by rw [ez2]; exact isO_nZ ha2 h
  refine ⟨hq2, c2a.2.1 _ List.mem_cons_self, ?_⟩
  intro y2 ey2
  obtain ⟨c2b, e2⟩ := c2a.ref (c := 702) (a := q) (b := a2) hq2.1 (fun p hp r => by
    rcases List.mem_cons.mp hp with hp | hp
    · rw [hp] at r
      exact absurd r.1 (by simp)
    rcases List.mem_cons.mp hp with hp | hp
    · rw [hp] at r
      exact absurd r.1 (by simp)
    exact hL p hp r.2) ey2
  have v2b := v2a.z e2
  have hq2 : isO y2 7 q := by rw [ey2]; exact hq2
  have k2 : ∀ t b, isO y1 t b → isO y2 t b := fun t b h => by rw [ey2]; exact k2 t b h
  refine ⟨hq2, ?_⟩
  intro a3 ha3 z3 ez3 w3 ew3
  obtain ⟨c3a, -, s3, m3, -⟩ := c2b.new ha3 ez3
  have v3a := v2b.new ha3 ez3 ew3
  have hq3 : isO z3 7 q := by rw [ez3]; exact isO_nZ ha3 hq2
  have k3 : ∀ t b, isO y2 t b → isO z3 t b := fun t b h => by rw [ez3]; exact isO_nZ ha3 h
  refine ⟨hq3, c3a.2.1 _ List.mem_cons_self, ?_⟩
  intro y3 ey3
  obtain ⟨c3b, e3⟩ := c3a.ref (c := 703) (a := q) (b := a3) hq3.1 (fun p hp r => by
    rcases List.mem_cons.mp hp with hp | hp
    · rw [hp] at r
      exact absurd r.1 (by simp)
    rcases List.mem_cons.mp hp with hp | hp
    · rw [hp] at r
      exact absurd r.1 (by simp)
    rcases List.mem_cons.mp hp with hp | hp
    · rw [hp] at r
      exact absurd r.1 (by simp)
    exact hL p hp r.2) ey3
  have v3b := v3a.z e3
  have hq3 : isO y3 7 q := by rw [ey3]; exact hq3
  have k3 : ∀ t b, isO y2 t b → isO y3 t b := fun t b h => by rw [ey3]; exact k3 t b h
  refine ⟨hq3, ?_⟩
  intro a4 ha4 z4 ez4 w4 ew4
  obtain ⟨c4a, -, s4, m4, -⟩ := c3b.new ha4 ez4
  have v4a := v3b.new ha4 ez4 ew4
  have hq4 : isO z4 7 q := by rw [ez4]; exact isO_nZ ha4 hq3
  have k4 : ∀ t b, isO y3 t b → isO z4 t b := fun t b h => by rw [ez4]; exact isO_nZ ha4 h
  refine ⟨hq4, c4a.2.1 _ List.mem_cons_self, ?_⟩
  intro y4 ey4
  obtain ⟨c4b, e4⟩ := c4a.ref (c := 704) (a := q) (b := a4) hq4.1 (fun p hp r => by
    rcases List.mem_cons.mp hp with hp | hp
    · rw [hp] at r
      exact absurd r.1 (by simp)
    rcases List.mem_cons.mp hp with hp | hp
    · rw [hp] at r
      exact absurd r.1 (by simp)
    rcases List.mem_cons.mp hp with hp | hp
    · rw [hp] at r
      exact absurd r.1 (by simp)
    rcases List.mem_cons.mp hp with hp | hp
    · rw [hp] at r
      exact absurd r.1 (by simp)
    exact hL p hp r.2) ey4
  have v4b := v4a.z e4
  have hq4 : isO y4 7 q := by rw [ey4]; exact hq4
  have k4 : ∀ t b, isO y3 t b → isO y4 t b := fun t b h => by rw [ey4]; exact k4 t b h
  refine ⟨hq4, ?_⟩
  have v9 := v4b
  have S0 : ∀ b, b ∈ z.2.1 → b ∈ y0.2.1 := fun b h => by rw [e0]; exact s0 b h
  have S1 : ∀ b, b ∈ y0.2.1 → b ∈ y1.2.1 := fun b h => by rw [e1]; exact s1 b h
  have S2 : ∀ b, b ∈ y1.2.1 → b ∈ y2.2.1 := fun b h => by rw [e2]; exact s2 b h
  have S3 : ∀ b, b ∈ y2.2.1 → b ∈ y3.2.1 := fun b h => by rw [e3]; exact s3 b h
  have S4 : ∀ b, b ∈ y3.2.1 → b ∈ y4.2.1 := fun b h => by rw [e4]; exact s4 b h
  exact hK y4 w4 a0 a1 a2 a3 a4 c4b v9 (fun _ h => S4 _ (S3 _ (S2 _ (S1 _ (S0 _ (h)))))) (fun _ _ h => k4 _ _ (k3 _ _ (k2 _ _ (k1 _ _ (k0 _ _ (h)))))) (fun h => ha0 (h)) (S4 _ (S3 _ (S2 _ (S1 _ (by rw [e0]; exact m0))))) (fun h => ha1 (S0 _ (h))) (S4 _ (S3 _ (S2 _ (by rw [e1]; exact m1)))) (fun h => ha2 (S1 _ (S0 _ (h)))) (S4 _ (S3 _ (by rw [e2]; exact m2))) (fun h => ha3 (S2 _ (S1 _ (S0 _ (h))))) (S4 _ (by rw [e3]; exact m3)) (fun h => ha4 (S3 _ (S2 _ (S1 _ (S0 _ (h)))))) (by rw [e4]; exact m4)
theorem new1 {z : Zt} {w : Vt} {K : Zt → Vt → Prop} {L : List T3} {Ks E : List (Nat × Nat)} {O : List (Nat × Nat × Nat × Nat)} {f : Nat → Nat → Int32} {g : Nat → Nat → Nat → Int32} {q : Nat} (c0 : CP z L Ks E O) (v0 : VF z w f g) (hq : isO z 1 q) (hL : ∀ p ∈ L, ¬ p.2.1 = q) (hK : ∀ (z9 : Zt) (w9 : Vt) (a0 a1 a2 a3 a4 : Nat), CP z9 ((105, q, a4) :: (104, q, a3) :: (102, q, a2) :: (101, q, a1) :: (100, q, a0) :: L) ((1105, a4) :: (1104, a3) :: (1102, a2) :: (1101, a1) :: (1100, a0) :: Ks) E O → VF z9 w9 f g → (∀ b, b ∈ z.2.1 → b ∈ z9.2.1) → (∀ t b, isO z t b → isO z9 t b) → a0 ∉ z.2.1 → a0 ∈ z9.2.1 → a1 ∉ z.2.1 → a1 ∈ z9.2.1 → a2 ∉ z.2.1 → a2 ∈ z9.2.1 → a3 ∉ z.2.1 → a3 ∈ z9.2.1 → a4 ∉ z.2.1 → a4 ∈ z9.2.1 → K z9 w9) : wp_X1_init z q w K := by
  unfold wp_X1_init
  refine ⟨hq, ?_⟩
  intro a0 ha0 z0 ez0 w0 ew0
  obtain ⟨c0a, -, s0, m0, -⟩ := c0.new ha0 ez0
  have v0a := v0.new ha0 ez0 ew0
  have hq0 : isO z0 1 q := by rw [ez0]; exact isO_nZ ha0 hq
  have k0 : ∀ t b, isO z t b → isO z0 t b := fun t b h => by rw [ez0]; exact isO_nZ ha0 h
  refine ⟨hq0, c0a.2.1 _ List.mem_cons_self, ?_⟩
  intro y0 ey0
  obtain ⟨c0b, e0⟩ := c0a.ref (c := 100) (a := q) (b := a0) hq0.1 (fun p hp r => by
    skip
    exact hL p hp r.2) ey0
  have v0b := v0a.z e0
  have hq0 : isO y0 1 q := by rw [ey0]; exact hq0
  have k0 : ∀ t b, isO z t b → isO y0 t b := fun t b h => by rw [ey0]; exact k0 t b h
  refine ⟨hq0, ?_⟩
  intro a1 ha1 z1 ez1 w1 ew1
  obtain ⟨c1a, -, s1, m1, -⟩ := c0b.new ha1 ez1
  have v1a := v0b.new ha1 ez1 ew1
  have hq1 : isO z1 1 q := by rw [ez1]; exact isO_nZ ha1 hq0
  have k1 : ∀ t b, isO y0 t b → isO z1 t b := fun t b h => by rw [ez1]; exact isO_nZ ha1 h
  refine ⟨hq1, c1a.2.1 _ List.mem_cons_self, ?_⟩
  intro y1 ey1
  obtain ⟨c1b, e1⟩ := c1a.ref (c := 101) (a := q) (b := a1) hq1.1 (fun p hp r => by
    rcases List.mem_cons.mp hp with hp | hp
    · rw [hp] at r
      exact absurd r.1 (by simp)
    exact hL p hp r.2) ey1
  have v1b := v1a.z e1
  have hq1 : isO y1 1 q := by rw [ey1]; exact hq1
  have k1 : ∀ t b, isO y0 t b → isO y1 t b := fun t b h => by rw [ey1]; exact k1 t b h
  refine ⟨hq1, ?_⟩
  intro a2 ha2 z2 ez2 w2 ew2
  obtain ⟨c2a, -, s2, m2, -⟩ := c1b.new ha2 ez2
  have v2a := v1b.new ha2 ez2 ew2
  have hq2 : isO z2 1 q := by rw [ez2]; exact isO_nZ ha2 hq1
  have k2 : ∀ t b, isO y1 t b → isO z2 t b := fun t b h => by rw [ez2]; exact isO_nZ ha2 h
  refine ⟨hq2, c2a.2.1 _ List.mem_cons_self, ?_⟩
  intro y2 ey2
  obtain ⟨c2b, e2⟩ := c2a.ref (c := 102) (a := q) (b := a2) hq2.1 (fun p hp r => by
    rcases List.mem_cons.mp hp with hp | hp
    · rw [hp] at r
      exact absurd r.1 (by simp)
    rcases List.mem_cons.mp hp with hp | hp
    · rw [hp] at r
      exact absurd r.1 (by simp)
    exact hL p hp r.2) ey2
  have v2b := v2a.z e2
  have hq2 : isO y2 1 q := by rw [ey2]; exact hq2
  have k2 : ∀ t b, isO y1 t b → isO y2 t b := fun t b h => by rw [ey2]; exact k2 t b h
  refine ⟨hq2, ?_⟩
  intro a3 ha3 z3 ez3 w3 ew3
  obtain ⟨c3a, -, s3, m3, -⟩ := c2b.new ha3 ez3
  have v3a := v2b.new ha3 ez3 ew3
  have hq3 : isO z3 1 q := by rw [ez3]; exact isO_nZ ha3 hq2
  have k3 : ∀ t b, isO y2 t b → isO z3 t b := fun t b h => by rw [ez3]; exact isO_nZ ha3 h
  refine ⟨hq3, c3a.2.1 _ List.mem_cons_self, ?_⟩
  intro y3 ey3
  obtain ⟨c3b, e3⟩ := c3a.ref (c := 104) (a := q) (b := a3) hq3.1 (fun p hp r => by
    rcases List.mem_cons.mp hp with hp | hp
    · rw [hp] at r
      exact absurd r.1 (by simp)
    rcases List.mem_cons.mp hp with hp | hp
    · rw [hp] at r
      exact absurd r.1 (by simp)
    rcases List.mem_cons.mp hp with hp | hp
    · rw [hp] at r
      exact absurd r.1 (by simp)
    exact hL p hp r.2) ey3
  have v3b := v3a.z e3
  have hq3 : isO y3 1 q := by rw [ey3]; exact hq3
  have k3 : ∀ t b, isO y2 t b → isO y3 t b := fun t b h => by rw [ey3]; exact k3 t b h
  refine ⟨hq3, ?_⟩
  intro a4 ha4 z4 ez4 w4 ew4
  obtain ⟨c4a, -, s4, m4, -⟩ := c3b.new ha4 ez4
  have v4a := v3b.new ha4 ez4 ew4
  have hq4 : isO z4 1 q := by rw [ez4]; exact isO_nZ ha4 hq3
  have k4 : ∀ t b, isO y3 t b → isO z4 t b := fun t b h => by rw [ez4]; exact isO_nZ ha4 h
  refine ⟨hq4, c4a.2.1 _ List.mem_cons_self, ?_⟩
  intro y4 ey4
  obtain ⟨c4b, e4⟩ := c4a.ref (c := 105) (a := q) (b := a4) hq4.1 (fun p hp r => by
    rcases List.mem_cons.mp hp with hp | hp
    · rw [hp] at r
      exact absurd r.1 (by simp)
    rcases List.mem_cons.mp hp with hp | hp
    · rw [hp] at r
      exact absurd r.1 (by simp)
    rcases List.mem_cons.mp hp with hp | hp
    · rw [hp] at r
      exact absurd r.1 (by simp)
    rcases List.mem_cons.mp hp with hp | hp
    · rw [hp] at r
      exact absurd r.1 (by simp)
    exact hL p hp r.2) ey4
  have v4b := v4a.z e4
  have hq4 : isO y4 1 q := by rw [ey4]; exact hq4
  have k4 : ∀ t b, isO y3 t b → isO y4 t b := fun t b h => by rw [ey4]; exact k4 t b h
  refine ⟨hq4, ?_⟩
  have v9 := v4b
  have S0 : ∀ b, b ∈ z.2.1 → b ∈ y0.2.1 := fun b h => by rw [e0]; exact s0 b h
  have S1 : ∀ b, b ∈ y0.2.1 → b ∈ y1.2.1 := fun b h => by rw [e1]; exact s1 b h
  have S2 : ∀ b, b ∈ y1.2.1 → b ∈ y2.2.1 := fun b h => by rw [e2]; exact s2 b h
  have S3 : ∀ b, b ∈ y2.2.1 → b ∈ y3.2.1 := fun b h => by rw [e3]; exact s3 b h
  have S4 : ∀ b, b ∈ y3.2.1 → b ∈ y4.2.1 := fun b h => by rw [e4]; exact s4 b h
  exact hK y4 w4 a0 a1 a2 a3 a4 c4b v9 (fun _ h => S4 _ (S3 _ (S2 _ (S1 _ (S0 _ (h)))))) (fun _ _ h => k4 _ _ (k3 _ _ (k2 _ _ (k1 _ _ (k0 _ _ (h)))))) (fun h => ha0 (h)) (S4 _ (S3 _ (S2 _ (S1 _ (by rw [e0]; exact m0))))) (fun h => ha1 (S0 _ (h))) (S4 _ (S3 _ (S2 _ (by rw [e1]; exact m1)))) (fun h => ha2 (S1 _ (S0 _ (h)))) (S4 _ (S3 _ (by rw [e2]; exact m2))) (fun h => ha3 (S2 _ (S1 _ (S0 _ (h))))) (S4 _ (by rw [e3]; exact m3)) (fun h => ha4 (S3 _ (S2 _ (S1 _ (S0 _ (h)))))) (by rw [e4]; exact m4)
theorem new0 {z : Zt} {w : Vt} {K : Zt → Vt → Prop} {L : List T3} {Ks E : List (Nat × Nat)} {O : List (Nat × Nat × Nat × Nat)} {f : Nat → Nat → Int32} {g : Nat → Nat → Nat → Int32} {q : Nat} (c0 : CP z L Ks E O) (v0 : VF z w f g) (hq : isO z 0 q) (hL : ∀ p ∈ L, ¬ p.2.1 = q) (hK : ∀ (z9 : Zt) (w9 : Vt) (a0 : Nat), CP z9 ((0, q, a0) :: L) ((1000, a0) :: Ks) E O → VF z9 w9 (sI f 1 q 4) g → (∀ b, b ∈ z.2.1 → b ∈ z9.2.1) → (∀ t b, isO z t b → isO z9 t b) → a0 ∉ z.2.1 → a0 ∈ z9.2.1 → K z9 w9) : wp_X0_init z q w K := by
  unfold wp_X0_init
  refine ⟨hq, ?_⟩
  intro a0 ha0 z0 ez0 w0 ew0
  obtain ⟨c0a, -, s0, m0, -⟩ := c0.new ha0 ez0
  have v0a := v0.new ha0 ez0 ew0
  have hq0 : isO z0 0 q := by rw [ez0]; exact isO_nZ ha0 hq
  have k0 : ∀ t b, isO z t b → isO z0 t b := fun t b h => by rw [ez0]; exact isO_nZ ha0 h
  refine ⟨hq0, c0a.2.1 _ List.mem_cons_self, ?_⟩
  intro y0 ey0
  obtain ⟨c0b, e0⟩ := c0a.ref (c := 0) (a := q) (b := a0) hq0.1 (fun p hp r => by
    skip
    exact hL p hp r.2) ey0
  have v0b := v0a.z e0
  have hq0 : isO y0 0 q := by rw [ey0]; exact hq0
  have k0 : ∀ t b, isO z t b → isO y0 t b := fun t b h => by rw [ey0]; exact k0 t b h
  refine ⟨hq0, ?_⟩
  intro w9 ew9
  have v9 := v0b.i hq0.1 ew9
  have S0 : ∀ b, b ∈ z.2.1 → b ∈ y0.2.1 := fun b h => by rw [e0]; exact s0 b h
  exact hK y0 w9 a0 c0b v9 (fun _ h => S0 _ (h)) (fun _ _ h => k0 _ _ (h)) (fun h => ha0 (h)) (by rw [e0]; exact m0)
