/-! THE SHAPE CHANGES: new cells, references written -/
def nZ (z : Zt) (q t : Nat) : Zt := (va_up z.1 q t, z.2.1 ++ [q], fun c => va_up (z.2.2.1 c) q none, fun k => va_up (z.2.2.2 k) q (fun _ => none))
def nV (w : Vt) (q : Nat) : Vt := (fun c => va_up (w.1 c) q 0, fun k => va_up (w.2.1 k) q (fun _ => 0), fun k => va_up (w.2.2 k) q (fun _ => 0))
theorem isO_nZ {z : Zt} {q t t' b : Nat} (hq : q ∉ z.2.1) (h : isO z t' b) : isO (nZ z q t) t' b := by
  refine ⟨List.mem_append_left _ h.1, ?_⟩
  show va_up z.1 q t b = t'
  rw [va_up_ne _ _ (fun e => hq (by rw [← e]; exact h.1))]
  exact h.2
theorem isO_nZq {z : Zt} {q t : Nat} : isO (nZ z q t) t q := ⟨List.mem_append_right _ (List.mem_singleton.mpr rfl), va_up_self _ _ _⟩
theorem hpE_nZ {ac : Nat → ClassId} {z : Zt} {w : Vt} {q t b : Nat} (hb : b ≠ q) : hpE ac (nZ z q t) (nV w q) b = hpE ac z w b := by
  have e1 : (nZ z q t).1 b = z.1 b := va_up_ne _ _ hb
  have e2 : (fun c => vI (nV w q) c b) = (fun c => vI w c b) := funext fun c => va_up_ne _ _ hb
  have e3 : (fun c => zR (nZ z q t) c b) = (fun c => zR z c b) := funext fun c => va_up_ne _ _ hb
  have e4 : ∀ k, vA (nV w q) k b = vA w k b := fun k => va_up_ne _ _ hb
  have e5 : ∀ k, zO (nZ z q t) k b = zO z k b := fun k => va_up_ne _ _ hb
  have e6 : ∀ k, vL (nV w q) k b = vL w k b := fun k => va_up_ne _ _ hb
  unfold hpE
  rw [e1, e2, e3, e4, e5, e6]
theorem hpE_nZq {ac : Nat → ClassId} {z : Zt} {w : Vt} {q t : Nat} : hpE ac (nZ z q t) (nV w q) q = hpC ac t (fun _ => 0) (fun _ => none) (fun _ => 0) (fun _ => none) (fun _ => 0) := by
  have e1 : (nZ z q t).1 q = t := va_up_self _ _ _
  have e2 : (fun c => vI (nV w q) c q) = (fun _ => 0) := funext fun c => va_up_self _ _ _
  have e3 : (fun c => zR (nZ z q t) c q) = (fun _ => none) := funext fun c => va_up_self _ _ _
  have e4 : ∀ k, vA (nV w q) k q = fun _ => 0 := fun k => va_up_self _ _ _
  have e5 : ∀ k, zO (nZ z q t) k q = fun _ => none := fun k => va_up_self _ _ _
  have e6 : ∀ k, vL (nV w q) k q = fun _ => 0 := fun k => va_up_self _ _ _
  unfold hpE
  rw [e1, e2, e3, e4, e5, e6]
theorem hp_push {ac : Nat → ClassId} {z : Zt} {w : Vt} {q t : Nat} {e : va_E} (hq : q ∉ z.2.1) (he : hpC ac t (fun _ => 0) (fun _ => none) (fun _ => 0) (fun _ => none) (fun _ => 0) = e) : hpW ac z w ++ [(q, e)] = hpW ac (nZ z q t) (nV w q) := by
  have h1 : hpW ac z w ++ [(q, e)] = va_pl (z.2.1 ++ [q]) (va_up (hpE ac z w) q e) := va_pl_push hq
  rw [h1]
  refine va_pl_congr (fun b => ?_)
  by_cases hb : b = q
  · subst hb
    rw [va_up_self, hpE_nZq]
    exact he.symm
  · rw [va_up_ne _ _ hb]
    exact (hpE_nZ hb).symm
theorem hp_notin {A : Nat → Prop} {ac : Nat → ClassId} {z : Zt} {w : Vt} {q : Nat} {e : va_E} (hD : va_D A (hpW ac z w ++ [(q, e)])) : q ∉ z.2.1 := by
  intro hq
  obtain ⟨k, hk⟩ := hp_at (ac := ac) (w := w) hq
  have hlt : k < (hpW ac z w).length := (List.getElem?_eq_some_iff.mp hk).1
  have h1 : (hpW ac z w ++ [(q, e)])[k]? = some (q, hpE ac z w q) := by rw [List.getElem?_append_left hlt]; exact hk
  have h2 : (hpW ac z w ++ [(q, e)])[(hpW ac z w).length]? = some (q, e) := by simp
  have := hD.1 _ _ _ _ h1 h2 rfl
  omega
theorem zR_u (z : Zt) (c a : Nat) (x : Option Nat) (c' b : Nat) : zR (uR z c a x) c' b = if c' = c ∧ b = a then x else zR z c' b := by
  simp only [zR, uR, va_up]
  by_cases h : c' = c
  · subst h
    by_cases h2 : b = a <;> simp [va_up, h2]
  · simp [h]
theorem zO_u (z : Zt) (k a j : Nat) (x : Option Nat) (k' b : Nat) : zO (uO z k a j x) k' b = if k' = k ∧ b = a then va_up (zO z k a) j x else zO z k' b := by
  simp only [zO, uO, va_up]
  by_cases h : k' = k
  · subst h
    by_cases h2 : b = a <;> simp [va_up, h2]
  · simp [h]
theorem hpE_uR {ac : Nat → ClassId} {z : Zt} {w : Vt} {c a b : Nat} {x : Option Nat} (h : b ≠ a) : hpE ac (uR z c a x) w b = hpE ac z w b := by
  have e1 : (fun c' => zR (uR z c a x) c' b) = (fun c' => zR z c' b) := funext fun c' => by rw [zR_u]; simp [h]
  show hpC ac (z.1 b) _ (fun c' => zR (uR z c a x) c' b) _ _ _ = _
  rw [e1]
  rfl
theorem hpE_uO {ac : Nat → ClassId} {z : Zt} {w : Vt} {k a b j : Nat} {x : Option Nat} (h : b ≠ a) : hpE ac (uO z k a j x) w b = hpE ac z w b := by
  have e1 : ∀ k', zO (uO z k a j x) k' b = zO z k' b := fun k' => by rw [zO_u]; simp [h]
  show hpC ac (z.1 b) _ _ _ (zO (uO z k a j x) (z.1 b) b) _ = _
  rw [e1]
  rfl
theorem zR_at (z : Zt) (c a : Nat) (x : Option Nat) : (fun c' => zR (uR z c a x) c' a) = va_up (fun c' => zR z c' a) c x := by
  funext c'
  rw [zR_u]
  simp [va_up]
theorem hp_setZ {A : Nat → Prop} {ac : Nat → ClassId} {z z' : Zt} {w : Vt} {a k : Nat} {e : va_E} (hz : z'.2.1 = z.2.1) (hD : va_D A (hpW ac z w)) (ha : a ∈ z.2.1) (hk : (hpW ac z w)[k]? = some (a, hpE ac z w a)) (hne : ∀ b, b ≠ a → hpE ac z' w b = hpE ac z w b) (hat : hpE ac z' w a = e) : (hpW ac z w).set k (a, e) = hpW ac z' w := by
  have h2 : (hpW ac z w).set k (a, e) = va_pl z.2.1 (va_up (hpE ac z w) a e) := va_pl_set (X := []) (A := A) hD ha hk
  rw [h2]
  unfold hpW
  rw [hz]
  refine va_pl_congr (fun b => ?_)
  by_cases hb : b = a
  · subst hb
    rw [va_up_self]
    exact hat.symm
  · rw [va_up_ne _ _ hb]
    exact (hne b hb).symm
section HPN
variable {p : Program} {l : Launch} {e : Env} {R : Room} {s : State} {m : MethodId} {args : Array Value} {below : List Frame} {meth : Method} {c : Code} {H : Heap} {locs : List Loc} {cells slots : Nat} {Q : State → Prop}
variable {cc : ByteArray} {pc : Nat} {ls : Array Slot} {rest : List Value} {D : va_G} {ac : Nat → ClassId} {A : Nat → Prop} {a : Nat} {z : Zt} {w : Vt} {H0 : Heap}
theorem hp_new (hx : p.tables.exec = Jvm.exec) (hb : c.code = cc) {own C : String} {T : u_T} {N ci index : Nat} {Ts : List Cond} (hts : ∀ w ∈ Ts, w.before args s = true) (hin : ∀ w ∈ u_ws C T N, w ∈ Ts) (ty : Nat → FieldType) (hty : ∀ k, k < N → parseFieldDescriptor (T k).2.2.1 = some (ty k)) (hown : s.vm.findClass own = some m.cls) (hcl : (Cond.classLink own index C).before args s = true) (hinst : (Cond.instantiable C N).before args s = true) (hini : (Cond.initialized C).before args s = true)
    (hK : va_K D vwCl (aT ac) s) (h : hpH D ac A H0 z w H locs) (hA : ∀ q, H0.size ≤ q → A q) (hci : ci < 11) (hc : vwCl[ci]? = some (C, T, N)) (hfs : ∀ j, j < N → defaultValue (ty j) = vp_V (hpO ci (fun _ => 0) (fun _ => none)) j) (hcells : cells + 1 ≤ R.cells) (hslots : slots + N ≤ R.slots) (hdg : decode cc pc = .ok (.new index, 3))
    (kk : ∀ (q : Nat) (z1 : Zt) (w1 : Vt) (H1 : Heap), q ∉ z.2.1 → z1 = nZ z q ci → w1 = nV w q → hpH D ac A H0 z1 w1 H1 locs → W p l e R s m args below meth c H1 locs (cells + 1) (slots + N) Q (F0 m (pc + 3) ls (.ref q :: rest))) : W p l e R s m args below meth c H locs cells slots Q (F0 m pc ls rest) := by
  refine va_new (ci := ci) hx hb hts hin ty hty hown hcl hinst hini hK h.1 h.2.1 h.2.2 hA hc hfs hcells hslots hdg (fun q H1 hP hD hS => ?_)
  have hq := hp_notin hD
  refine kk q _ _ H1 hq rfl rfl ?_
  rw [hp_push hq (hpC_o hci)] at hP hD
  exact ⟨hP, hD, hS⟩
/-- a new row of ints, bytes or booleans -/
theorem hp_newa (hx : p.tables.exec = Jvm.exec) (hb : c.code = cc) {atype : ArrayType} (harr : (Cond.arrayClass (newarray.typeOf atype)).before args s = true) {ty : FieldType} (hty : newarray.typeOf atype = ty) (t j : Nat) (hj : (aT ac)[j]? = some (ac j, ty)) (hRA : ∀ cA : ClassId, va_RA s cA ty → s.vm.findClass ("[" ++ ty.toString) = some cA) (hK : va_K D vwCl (aT ac) s) (h : hpH D ac A H0 z w H locs) (hA : ∀ q, H0.size ≤ q → A q)
    {n : Int32} {N' : Nat} (ha : ∀ cA : ClassId, vp_cell cA (N', .inl (fun _ => 0)) = arrV cA N' (fun _ => defaultValue ty)) (ht : ¬ t < 11) (hk : hpA ac t (fun _ => 0) (fun _ => none) (fun _ => 0) = .inl (ac j, N', .inl (fun _ => 0))) (hn : ¬ n < 0) (hN : n.toNatClampNeg = N') (hbytes : N' * componentBytes ty ≤ 536870912) (hcells : cells + 1 ≤ R.cells) (hslots : slots + N' ≤ R.slots) (hdg : decode cc pc = .ok (.newarray atype, 2))
    (kk : ∀ (q : Nat) (z1 : Zt) (w1 : Vt) (H1 : Heap), q ∉ z.2.1 → z1 = nZ z q t → w1 = nV w q → hpH D ac A H0 z1 w1 H1 locs → W p l e R s m args below meth c H1 locs (cells + 1) (slots + N') Q (F0 m (pc + 2) ls (.ref q :: rest))) : W p l e R s m args below meth c H locs cells slots Q (F0 m pc ls (.int n :: rest)) := by
  refine va_newa hx hb harr hty hK h.1 h.2.1 h.2.2 hA ha hn hN hbytes hcells hslots hdg (fun q cA H1 hK1 hP hD hS => ?_)
  have e : cA = ac j := by
    have h1 := hRA _ (hK1.2 (aT ac).length (cA, ty) (by simp)).2
    have h2 := hRA _ (hK.2 j _ hj).2
    exact Option.some.inj (h1.symm.trans h2)
  subst e
  have hq := hp_notin hD
  refine kk q _ _ H1 hq rfl rfl ?_
  rw [hp_push hq ((hpC_a ht).trans hk)] at hP hD
  exact ⟨hP, hD, hS⟩
/-- a new row of references -/
theorem hp_newq (hx : p.tables.exec = Jvm.exec) (hb : c.code = cc) {own C : String} {index : Nat} (t j : Nat) (hown : s.vm.findClass own = some m.cls) (hclink : (Cond.classLink own index C).before args s = true) (hover : va_AO C s) (hj : (aT ac)[j]? = some (ac j, .object C)) (hK : va_K D vwCl (aT ac) s) (h : hpH D ac A H0 z w H locs) (hA : ∀ q, H0.size ≤ q → A q)
    {n : Int32} {N' : Nat} (ht : ¬ t < 11) (hk : hpA ac t (fun _ => 0) (fun _ => none) (fun _ => 0) = .inl (ac j, N', .inr (.inr (.inr (.inr (fun _ => none)))))) (hn : ¬ n < 0) (hN : n.toNatClampNeg = N') (hbytes : N' * 4 ≤ 536870912) (hcells : cells + 1 ≤ R.cells) (hslots : slots + N' ≤ R.slots) (hdg : decode cc pc = .ok (.anewarray index, 3))
    (kk : ∀ (q : Nat) (z1 : Zt) (w1 : Vt) (H1 : Heap), q ∉ z.2.1 → z1 = nZ z q t → w1 = nV w q → hpH D ac A H0 z1 w1 H1 locs → W p l e R s m args below meth c H1 locs (cells + 1) (slots + N') Q (F0 m (pc + 3) ls (.ref q :: rest))) : W p l e R s m args below meth c H locs cells slots Q (F0 m pc ls (.int n :: rest)) := by
  refine va_newq hx hb hown hclink hover hK h.1 h.2.1 h.2.2 hA hn hN hbytes hcells hslots hdg (fun q cA H1 hK1 hP hD hS => ?_)
  have e : cA = ac j := by
    obtain ⟨-, -, -, -, -, h1⟩ := (hK1.2 (aT ac).length (cA, .object C) (by simp)).2
    obtain ⟨-, -, -, -, -, h2⟩ := (hK.2 j _ hj).2
    exact Option.some.inj (h1.symm.trans h2)
  subst e
  have hq := hp_notin hD
  refine kk q _ _ H1 hq rfl rfl ?_
  rw [hp_push hq ((hpC_a ht).trans hk)] at hP hD
  exact ⟨hP, hD, hS⟩
/-- a final field of a number, in a constructor -/
theorem hp_putiF (hx : p.tables.exec = Jvm.exec) (hb : c.code = cc) {own ref C : String} {T : u_T} {N ci index : Nat} {Ts : List Cond} (hts : ∀ w ∈ Ts, w.before args s = true) (hin : ∀ w ∈ u_ws C T N, w ∈ Ts) (ty0 : Nat → FieldType) (hty : ∀ k, k < N → parseFieldDescriptor (T k).2.2.1 = some (ty0 k)) (hnm : ∀ a, a < N → ∀ b, b < N → a ≠ b → (T a).2.1 ≠ (T b).2.1) (hown : s.vm.findClass own = some m.cls) (hK : va_K D vwCl (aT ac) s) (h : hpH D ac A H0 z w H locs) (ho : isO z ci a) (hci : ci < 11) (hc : vwCl[ci]? = some (C, T, N)) (k cm : Nat) (hk : k < N) (hlink : (Cond.fieldLink own index ref (T k).2.1 (T k).2.2.1).before args s = true) (hsame : ∀ x, s.fieldFound? (T k).1 (T k).2.1 (T k).2.2.1 = some x → s.fieldFound? ref (T k).2.1 (T k).2.2.1 = some x) (hfin : (T k).2.2.2 = true) (hmn : meth.name = "<init>") (hdecl : (T k).1 = own) {ty : FieldType} {x : Int32} (hd : parseFieldDescriptor (T k).2.2.1 = some ty) (hn : narrow ty (.int x) = .int x) (hfit : fits ty (.int x) = true)
    (hset : ∀ i r, hpO ci (va_up i cm x) r = (hpO ci i r).set k (.int x)) (hl : ∀ i r, k < (hpO ci i r).length) (hdg : decode cc pc = .ok (.putfield index, 3))
    (kk : ∀ (H1 : Heap) (locs1 : List Loc) (w1 : Vt), w1 = uI w cm a x → hpH D ac A H0 z w1 H1 locs1 → W p l e R s m args below meth c H1 locs1 cells slots Q (F0 m (pc + 3) ls rest)) : W p l e R s m args below meth c H locs cells slots Q (F0 m pc ls (.int x :: .ref a :: rest)) := by
  obtain ⟨q0, hq0⟩ := hp_at (ac := ac) (w := w) ho.1
  have hq := hq0
  rw [hpE_o ho hci] at hq
  refine va_putF hx hb hts hin ty0 hty hnm hown hK h.1 h.2.1 h.2.2 q0 hq hc k hk hlink hsame hfin hmn hdecl hd hn hfit (hl _ _) hdg (fun H1 locs1 hP hD hS => kk H1 locs1 _ rfl ?_)
  have e : (hpW ac z w).set q0 (a, .inr (ci, (hpO ci (fun c => vI w c a) (fun c => zR z c a)).set k (.int x))) = hpW ac z (uI w cm a x) := hp_set h.2.1 ho.1 hq0 (fun b hb => hpE_uI hb) (by rw [hpE_o ho hci, vI_at, hset])
  rw [e] at hP hD
  exact ⟨hP, hD, hS⟩
/-- a final reference, in a constructor; then one that isn't final -/
theorem hp_putrF (hx : p.tables.exec = Jvm.exec) (hb : c.code = cc) {own ref C : String} {T : u_T} {N ci index : Nat} {Ts : List Cond} (hts : ∀ w ∈ Ts, w.before args s = true) (hin : ∀ w ∈ u_ws C T N, w ∈ Ts) (ty0 : Nat → FieldType) (hty : ∀ k, k < N → parseFieldDescriptor (T k).2.2.1 = some (ty0 k)) (hnm : ∀ a, a < N → ∀ b, b < N → a ≠ b → (T a).2.1 ≠ (T b).2.1) (hown : s.vm.findClass own = some m.cls) (hK : va_K D vwCl (aT ac) s) (h : hpH D ac A H0 z w H locs) (ho : isO z ci a) (hci : ci < 11) (hc : vwCl[ci]? = some (C, T, N)) (k cm : Nat) (hk : k < N) (hlink : (Cond.fieldLink own index ref (T k).2.1 (T k).2.2.1).before args s = true) (hsame : ∀ x, s.fieldFound? (T k).1 (T k).2.1 (T k).2.2.1 = some x → s.fieldFound? ref (T k).2.1 (T k).2.2.1 = some x) (hfin : (T k).2.2.2 = true) (hmn : meth.name = "<init>") (hdecl : (T k).1 = own) {ty : FieldType} {b : Nat} (hd : parseFieldDescriptor (T k).2.2.1 = some ty) (hn : narrow ty (.ref b) = .ref b) (hfit : fits ty (.ref b) = true)
    (hset : ∀ i r, hpO ci i (va_up r cm (some b)) = (hpO ci i r).set k (.ref b)) (hl : ∀ i r, k < (hpO ci i r).length) (hdg : decode cc pc = .ok (.putfield index, 3))
    (kk : ∀ (H1 : Heap) (locs1 : List Loc) (z1 : Zt), z1 = uR z cm a (some b) → hpH D ac A H0 z1 w H1 locs1 → W p l e R s m args below meth c H1 locs1 cells slots Q (F0 m (pc + 3) ls rest)) : W p l e R s m args below meth c H locs cells slots Q (F0 m pc ls (.ref b :: .ref a :: rest)) := by
  obtain ⟨q0, hq0⟩ := hp_at (ac := ac) (w := w) ho.1
  have hq := hq0
  rw [hpE_o ho hci] at hq
  refine va_putF hx hb hts hin ty0 hty hnm hown hK h.1 h.2.1 h.2.2 q0 hq hc k hk hlink hsame hfin hmn hdecl hd hn hfit (hl _ _) hdg (fun H1 locs1 hP hD hS => kk H1 locs1 _ rfl ?_)
  have ho' : isO (uR z cm a (some b)) ci a := ho
  have e : (hpW ac z w).set q0 (a, .inr (ci, (hpO ci (fun c => vI w c a) (fun c => zR z c a)).set k (.ref b))) = hpW ac (uR z cm a (some b)) w := hp_setZ rfl h.2.1 ho.1 hq0 (fun b hb => hpE_uR hb) (by rw [hpE_o ho' hci, zR_at, hset])
  rw [e] at hP hD
  exact ⟨hP, hD, hS⟩
theorem hp_putr (hx : p.tables.exec = Jvm.exec) (hb : c.code = cc) {own ref C : String} {T : u_T} {N ci index : Nat} {Ts : List Cond} (hts : ∀ w ∈ Ts, w.before args s = true) (hin : ∀ w ∈ u_ws C T N, w ∈ Ts) (ty0 : Nat → FieldType) (hty : ∀ k, k < N → parseFieldDescriptor (T k).2.2.1 = some (ty0 k)) (hnm : ∀ a, a < N → ∀ b, b < N → a ≠ b → (T a).2.1 ≠ (T b).2.1) (hown : s.vm.findClass own = some m.cls) (hK : va_K D vwCl (aT ac) s) (h : hpH D ac A H0 z w H locs) (ho : isO z ci a) (hci : ci < 11) (hc : vwCl[ci]? = some (C, T, N)) (k cm : Nat) (hk : k < N) (hlink : (Cond.fieldLink own index ref (T k).2.1 (T k).2.2.1).before args s = true) (hsame : ∀ x, s.fieldFound? (T k).1 (T k).2.1 (T k).2.2.1 = some x → s.fieldFound? ref (T k).2.1 (T k).2.2.1 = some x) (hfin : (T k).2.2.2 = false) {ty : FieldType} {b : Nat} (hd : parseFieldDescriptor (T k).2.2.1 = some ty) (hn : narrow ty (.ref b) = .ref b) (hfit : fits ty (.ref b) = true)
    (hset : ∀ i r, hpO ci i (va_up r cm (some b)) = (hpO ci i r).set k (.ref b)) (hl : ∀ i r, k < (hpO ci i r).length) (hdg : decode cc pc = .ok (.putfield index, 3))
    (kk : ∀ (H1 : Heap) (locs1 : List Loc) (z1 : Zt), z1 = uR z cm a (some b) → hpH D ac A H0 z1 w H1 locs1 → W p l e R s m args below meth c H1 locs1 cells slots Q (F0 m (pc + 3) ls rest)) : W p l e R s m args below meth c H locs cells slots Q (F0 m pc ls (.ref b :: .ref a :: rest)) := by
  obtain ⟨q0, hq0⟩ := hp_at (ac := ac) (w := w) ho.1
  have hq := hq0
  rw [hpE_o ho hci] at hq
  refine va_put hx hb hts hin ty0 hty hnm hown hK h.1 h.2.1 h.2.2 q0 hq hc k hk hlink hsame hfin hd hn hfit (hl _ _) hdg (fun H1 locs1 hP hD hS => kk H1 locs1 _ rfl ?_)
  have ho' : isO (uR z cm a (some b)) ci a := ho
  have e : (hpW ac z w).set q0 (a, .inr (ci, (hpO ci (fun c => vI w c a) (fun c => zR z c a)).set k (.ref b))) = hpW ac (uR z cm a (some b)) w := hp_setZ rfl h.2.1 ho.1 hq0 (fun b hb => hpE_uR hb) (by rw [hpE_o ho' hci, zR_at, hset])
  rw [e] at hP hD
  exact ⟨hP, hD, hS⟩
/-- a reference into a row -/
theorem hp_aast (hx : p.tables.exec = Jvm.exec) (hb : c.code = cc) (hK : va_K D vwCl (aT ac) s) (h : hpH D ac A H0 z w H locs) {t n j ci v : Nat} {C : String} {T : u_T} {N : Nat} (hj : (aT ac)[j]? = some (ac j, .object C)) (ho : isO z t a) (ht : ¬ t < 11) (hk : ∀ f o g, hpA ac t f o g = .inl (ac j, n, .inr (.inr (.inr (.inr o))))) (hov : isO z ci v) (hci : ci < 11) (hc : vwCl[ci]? = some (C, T, N)) {i : Int32} (hin : vp_in i n) (hdg : decode cc pc = .ok (.aastore, 1))
    (kk : ∀ (H1 : Heap) (locs1 : List Loc) (z1 : Zt), z1 = uO z t a i.toNatClampNeg (some v) → hpH D ac A H0 z1 w H1 locs1 → W p l e R s m args below meth c H1 locs1 cells slots Q (F0 m (pc + 1) ls rest)) : W p l e R s m args below meth c H locs cells slots Q (F0 m pc ls (.ref v :: .int i :: .ref a :: rest)) := by
  obtain ⟨q0, hq0, hq⟩ := hp_arr (ac := ac) (w := w) ho (hk _ _ _) ht
  obtain ⟨qk, hqk⟩ := hp_at (ac := ac) (w := w) hov.1
  rw [hpE_o hov hci] at hqk
  refine va_astq hx hb hK h.1 h.2.1 h.2.2 q0 j qk ci (r := (C, T, N)) hq hj hqk hc hin hdg (fun H1 locs1 hP hD hS => kk H1 locs1 _ rfl ?_)
  have ho' : isO (uO z t a i.toNatClampNeg (some v)) t a := ho
  have e : (hpW ac z w).set q0 (a, .inl (ac j, n, .inr (.inr (.inr (.inr (va_up (zO z t a) i.toNatClampNeg (some v))))))) = hpW ac (uO z t a i.toNatClampNeg (some v)) w := hp_setZ rfl h.2.1 ho.1 hq0 (fun b hb => hpE_uO hb) (by rw [hpE_a ho' ht, hk, zO_u]; simp)
  rw [e] at hP hD
  exact ⟨hP, hD, hS⟩
end HPN
/-! CONTRACTS of methods that change the shape -/
def gN (G : Gt) (A : Nat → Prop) (u : Zt × Vt) (t : State) : Prop := gB G A u.1 u.2 t
def NV (l : Launch) (y : MethodName) (ws : List Cond) (rm : Room) (G : Gt) (z : Zt) (w : Vt) (sz : Nat) (av : List Value) (K : Zt → Vt → Prop) (mc ms : Nat) : Prop := Met l y ws rm (gPre G z w sz av) (va_Qv (fun u : Zt × Vt => K u.1 u.2) (gN G (gA G z w sz)) (gA G z w sz)) mc ms (gA G z w sz)
def NI (l : Launch) (y : MethodName) (ws : List Cond) (rm : Room) (G : Gt) (z : Zt) (w : Vt) (sz : Nat) (av : List Value) (K : Int32 → Zt → Vt → Prop) (mc ms : Nat) : Prop := Met l y ws rm (gPre G z w sz av) (va_Qi (fun r (u : Zt × Vt) => K r u.1 u.2) (gN G (gA G z w sz)) (gA G z w sz)) mc ms (gA G z w sz)
def YI (l : Launch) (y : MethodName) (ws : List Cond) (rm : Room) (G : Gt) (z : Zt) (w : Vt) (sz : Nat) (av : List Value) (K : Int32 → Zt → Vt → Prop) (X : Nat → Vt → Prop) (mc ms : Nat) : Prop := vx_Met l y ws rm (gPre G z w sz av) (va_Qi (fun r (u : Zt × Vt) => K r u.1 u.2) (gN G (gA G z w sz)) (gA G z w sz)) (gX G (gA G z w sz) z X) mc ms (gA G z w sz)
section HPM
variable {p : Program} {l : Launch} {e : Env} {R : Room} {s : State} {m : MethodId} {args : Array Value} {below : List Frame} {meth : Method} {c : Code} {H : Heap} {locs : List Loc} {cells slots : Nat} {Q : State → Prop}
variable {cc : ByteArray} {pc : Nat} {ls : Array Slot} {rest st0 : List Value} {G : Gt} {A : Nat → Prop} {a : Nat} {z z1 : Zt} {w : Vt} {X : Nat → Vt → Prop} {MC MS : Nat}
theorem hp_backN {u : Vt} {t : State} {H1 : Heap} {locs1 : List Loc} (h : hpH G.1 G.2.1 A s.heap z w H locs) (hA : ∀ q, s.heap.size ≤ q → A q) (ht : t.heap = H1) (hB : gB G (gA G z w H.size) z1 u t) (hS : va_S A s.heap H1 locs1) : hpH G.1 G.2.1 A s.heap z1 u H1 locs1 := by
  obtain ⟨b1, -, b3⟩ := hB
  rw [ht] at b1
  exact ⟨b1, b3.weaken (fun _ q _ h9 => hp_free h hA q.1 h9), hS⟩
variable {y : MethodName} {ws : List Cond} {rm : Room} {bytes : ByteArray} {maxL nL n index mc ms : Nat} {ret : Option FieldType} {Ts : List Cond} {own C : String} {b ci N : Nat} {T : u_T} {As : List Value}
theorem hp_nI {K : Zt → Vt → Prop} (S : CallFix p m c cc nL s args Ts own) (hM : NV l y ws rm G z w H.size (.ref b :: As) K mc ms) (cw : CallB R s args own index y bytes maxL none ws rm mc ms n ∧ y.name = "<init>" ∧ (Cond.instanceMethod y).before args s = true) (hK : va_K G.1 vwCl (aT G.2.1) s) (h : hpH G.1 G.2.1 A s.heap z w H locs) (hA : ∀ q, s.heap.size ≤ q → A q) (hE : gE G A s s.heap) (hn : As.length = n) (hsize : ls.size = nL) (hstack : st0 = As.reverse ++ .ref b :: rest) (hw : (rest.map fun v => v.category).sum ≤ 8) (hdg : decode cc pc = .ok (.invokespecial index, 3)) (hf : cells + mc ≤ R.cells ∧ slots + ms ≤ R.slots)
    (kk : ∀ (z1 : Zt) (u : Vt) (H1 : Heap) (locs1 : List Loc), K z1 u → hpH G.1 G.2.1 A s.heap z1 u H1 locs1 → W p l e R s m args below meth c H1 locs1 (cells + mc) (slots + ms) Q (F0 m (pc + 3) ls rest)) : W p l e R s m args below meth c H locs cells slots Q (F0 m pc ls st0) :=
  va_callv (va_runI (g := F0 m pc ls st0) S hM cw ⟨gPre_blind _ _ _ _ _, hp_pre hK h hA hE _⟩ rfl hn hsize hstack (lv_room hw) hdg hf) h.2.2 (fun q _ hq => hp_free h hA q hq) (hp_free h hA) (fun u t H1 locs1 ht _ hk hB _ _ hS => kk u.1 u.2 H1 locs1 hk (hp_backN h hA ht hB hS))
theorem hp_nIN {host : String} {K : Zt → Vt → Prop} (S : CallFix p m c cc nL s args Ts own) (hM : NV l y ws rm G z w H.size (.ref b :: As) K mc ms) (cw : va_CN R s args own index y host bytes maxL none ws rm mc ms n ∧ y.name = "<init>" ∧ (Cond.instanceMethod y).before args s = true) (hK : va_K G.1 vwCl (aT G.2.1) s) (h : hpH G.1 G.2.1 A s.heap z w H locs) (hA : ∀ q, s.heap.size ≤ q → A q) (hE : gE G A s s.heap) (hn : As.length = n) (hsize : ls.size = nL) (hstack : st0 = As.reverse ++ .ref b :: rest) (hw : (rest.map fun v => v.category).sum ≤ 8) (hdg : decode cc pc = .ok (.invokespecial index, 3)) (hf : cells + mc ≤ R.cells ∧ slots + ms ≤ R.slots)
    (kk : ∀ (z1 : Zt) (u : Vt) (H1 : Heap) (locs1 : List Loc), K z1 u → hpH G.1 G.2.1 A s.heap z1 u H1 locs1 → W p l e R s m args below meth c H1 locs1 (cells + mc) (slots + ms) Q (F0 m (pc + 3) ls rest)) : W p l e R s m args below meth c H locs cells slots Q (F0 m pc ls st0) :=
  va_callv (va_runIN (g := F0 m pc ls st0) S hM cw ⟨gPre_blind _ _ _ _ _, hp_pre hK h hA hE _⟩ rfl hn hsize hstack (lv_room hw) hdg hf) h.2.2 (fun q _ hq => hp_free h hA q hq) (hp_free h hA) (fun u t H1 locs1 ht _ hk hB _ _ hS => kk u.1 u.2 H1 locs1 hk (hp_backN h hA ht hB hS))
theorem hp_nVi {K : Int32 → Zt → Vt → Prop} (S : CallFix p m c cc nL s args Ts own) (hM : NI l y ws rm G z w H.size (.ref b :: As) K mc ms) (cw : CallW R s args own C index y bytes maxL ret ws rm mc ms n) (ho : isO z ci b) (hci : ci < 11) (hc : vwCl[ci]? = some (C, T, N)) (hK : va_K G.1 vwCl (aT G.2.1) s) (h : hpH G.1 G.2.1 A s.heap z w H locs) (hA : ∀ q, s.heap.size ≤ q → A q) (hE : gE G A s s.heap) (hn : As.length = n) (hsize : ls.size = nL) (hstack : st0 = As.reverse ++ .ref b :: rest) (hw : (rest.map fun v => v.category).sum ≤ 8) (hdg : decode cc pc = .ok (.invokevirtual index, 3)) (hf : cells + mc ≤ R.cells ∧ slots + ms ≤ R.slots)
    (kk : ∀ (r : Int32) (z1 : Zt) (u : Vt) (H1 : Heap) (locs1 : List Loc), K r z1 u → hpH G.1 G.2.1 A s.heap z1 u H1 locs1 → W p l e R s m args below meth c H1 locs1 (cells + mc) (slots + ms) Q (F0 m (pc + 3) ls (.int r :: rest))) : W p l e R s m args below meth c H locs cells slots Q (F0 m pc ls st0) :=
  va_calli (va_runV (g := F0 m pc ls st0) S hM cw ⟨gPre_blind _ _ _ _ _, hp_recv hK h ho hci hc, hp_pre hK h hA hE _⟩ rfl hn hsize hstack (lv_room hw) hdg hf) h.2.2 (fun q _ hq => hp_free h hA q hq) (hp_free h hA) (fun r u t H1 locs1 ht _ hk hB _ _ hS => kk r u.1 u.2 H1 locs1 hk (hp_backN h hA ht hB hS))
theorem hp_nvret {K : Zt → Vt → Prop} {u : Vt} (hx : p.tables.exec = Jvm.exec) (hb : c.code = cc) (hr : meth.sig.returnType = none) (hlocks : meth.locks = false) (hK : va_K G.1 vwCl (aT G.2.1) s) (h : hpH G.1 G.2.1 A s.heap z1 u H locs) (hk : K z1 u) (hdg : decode cc pc = .ok (.return_, 1)) (hc : cells ≤ MC) (hs : slots ≤ MS) : W p l e R s m args below meth c H locs cells slots (MQ below (va_Qv (fun u : Zt × Vt => K u.1 u.2) (gN G A) A) args s MC MS A) (F0 m pc ls []) :=
  W.widen hc hs (W.vret hx hb hr (fun t ht hW => ⟨⟨(z1, u), rfl, hk, by rw [ht]; exact h.1, va_K.moved hW.alike hK, h.2.1⟩, h.2.2.F ht⟩) h.2.2.2.2 hdg hlocks)
theorem hp_niret {K : Int32 → Zt → Vt → Prop} {v : Int32} {u : Vt} (hx : p.tables.exec = Jvm.exec) (hb : c.code = cc) (hr : meth.sig.returnType = some .int) (hlocks : meth.locks = false) (hK : va_K G.1 vwCl (aT G.2.1) s) (h : hpH G.1 G.2.1 A s.heap z1 u H locs) (hk : K v z1 u) (hdg : decode cc pc = .ok (.ireturn, 1)) (hc : cells ≤ MC) (hs : slots ≤ MS) : W p l e R s m args below meth c H locs cells slots (MQ below (va_Qi (fun r (u : Zt × Vt) => K r u.1 u.2) (gN G A) A) args s MC MS A) (F0 m pc ls [.int v]) :=
  W.widen hc hs (W.iret (v := v) hx hb hr (fun t ht hW => ⟨⟨v, (z1, u), rfl, hk, by rw [ht]; exact h.1, va_K.moved hW.alike hK, h.2.1⟩, h.2.2.F ht⟩) h.2.2.2.2 hdg hlocks)
theorem hp_yiret {K : Int32 → Zt → Vt → Prop} {v : Int32} {u : Vt} (hx : p.tables.exec = Jvm.exec) (hb : c.code = cc) (hr : meth.sig.returnType = some .int) (hlocks : meth.locks = false) (hK : va_K G.1 vwCl (aT G.2.1) s) (h : hpH G.1 G.2.1 A s.heap z1 u H locs) (hk : K v z1 u) (hdg : decode cc pc = .ok (.ireturn, 1)) (hc : cells ≤ MC) (hs : slots ≤ MS) : W p l e R s m args below meth c H locs cells slots (vx_MQ below (va_Qi (fun r (u : Zt × Vt) => K r u.1 u.2) (gN G A) A) (gX G A z X) args s MC MS A) (F0 m pc ls [.int v]) :=
  vx_ret (hp_niret hx hb hr hlocks hK h hk hdg hc hs)
end HPM
abbrev wZ (z0 : Zt) (P : Zt → Prop) : Prop := ∀ z : Zt, z = z0 → P z
theorem isB_f {x : Int32} (h : isB x) : fits .boolean (.int x) = true := by rcases h with rfl | rfl <;> rfl
theorem hfs_0 : ∀ j, j < 8 → defaultValue (tyX0 j) = vp_V (hpO 0 (fun _ => 0) (fun _ => none)) j := fun j hj => match j, hj with
  | 0, _ => rfl
  | 1, _ => rfl
  | 2, _ => rfl
  | 3, _ => rfl
  | 4, _ => rfl
  | 5, _ => rfl
  | 6, _ => rfl
  | 7, _ => rfl
  | k + 8, h => absurd h (by omega)
theorem hfs_1 : ∀ j, j < 6 → defaultValue (tyX1 j) = vp_V (hpO 1 (fun _ => 0) (fun _ => none)) j := fun j hj => match j, hj with
  | 0, _ => rfl
  | 1, _ => rfl
  | 2, _ => rfl
  | 3, _ => rfl
  | 4, _ => rfl
  | 5, _ => rfl
  | k + 6, h => absurd h (by omega)
theorem hfs_2 : ∀ j, j < 5 → defaultValue (tyX2 j) = vp_V (hpO 2 (fun _ => 0) (fun _ => none)) j := fun j hj => match j, hj with
  | 0, _ => rfl
  | 1, _ => rfl
  | 2, _ => rfl
  | 3, _ => rfl
  | 4, _ => rfl
  | k + 5, h => absurd h (by omega)
theorem hfs_3 : ∀ j, j < 3 → defaultValue (tyX3 j) = vp_V (hpO 3 (fun _ => 0) (fun _ => none)) j := fun j hj => match j, hj with
  | 0, _ => rfl
  | 1, _ => rfl
  | 2, _ => rfl
  | k + 3, h => absurd h (by omega)
theorem hfs_4 : ∀ j, j < 7 → defaultValue (tyX4 j) = vp_V (hpO 4 (fun _ => 0) (fun _ => none)) j := fun j hj => match j, hj with
  | 0, _ => rfl
  | 1, _ => rfl
  | 2, _ => rfl
  | 3, _ => rfl
  | 4, _ => rfl
  | 5, _ => rfl
  | 6, _ => rfl
  | k + 7, h => absurd h (by omega)
theorem hfs_5 : ∀ j, j < 9 → defaultValue (tyX5 j) = vp_V (hpO 5 (fun _ => 0) (fun _ => none)) j := fun j hj => match j, hj with
  | 0, _ => rfl
  | 1, _ => rfl
  | 2, _ => rfl
  | 3, _ => rfl
  | 4, _ => rfl
  | 5, _ => rfl
  | 6, _ => rfl
  | 7, _ => rfl
  | 8, _ => rfl
  | k + 9, h => absurd h (by omega)
theorem hfs_6 : ∀ j, j < 3 → defaultValue (tyX6 j) = vp_V (hpO 6 (fun _ => 0) (fun _ => none)) j := fun j hj => match j, hj with
  | 0, _ => rfl
  | 1, _ => rfl
  | 2, _ => rfl
  | k + 3, h => absurd h (by omega)
theorem hfs_7 : ∀ j, j < 6 → defaultValue (tyX7 j) = vp_V (hpO 7 (fun _ => 0) (fun _ => none)) j := fun j hj => match j, hj with
  | 0, _ => rfl
  | 1, _ => rfl
  | 2, _ => rfl
  | 3, _ => rfl
  | 4, _ => rfl
  | 5, _ => rfl
  | k + 6, h => absurd h (by omega)
theorem hfs_8 : ∀ j, j < 3 → defaultValue (tyX8 j) = vp_V (hpO 8 (fun _ => 0) (fun _ => none)) j := fun j hj => match j, hj with
  | 0, _ => rfl
  | 1, _ => rfl
  | 2, _ => rfl
  | k + 3, h => absurd h (by omega)
theorem hfs_9 : ∀ j, j < 16 → defaultValue (tyX9 j) = vp_V (hpO 9 (fun _ => 0) (fun _ => none)) j := fun j hj => match j, hj with
  | 0, _ => rfl
  | 1, _ => rfl
  | 2, _ => rfl
  | 3, _ => rfl
  | 4, _ => rfl
  | 5, _ => rfl
  | 6, _ => rfl
  | 7, _ => rfl
  | 8, _ => rfl
  | 9, _ => rfl
  | 10, _ => rfl
  | 11, _ => rfl
  | 12, _ => rfl
  | 13, _ => rfl
  | 14, _ => rfl
  | 15, _ => rfl
  | k + 16, h => absurd h (by omega)
theorem hfs_10 : ∀ j, j < 53 → defaultValue (tyX10 j) = vp_V (hpO 10 (fun _ => 0) (fun _ => none)) j := fun j hj => match j, hj with
  | 0, _ => rfl
  | 1, _ => rfl
  | 2, _ => rfl
  | 3, _ => rfl
  | 4, _ => rfl
  | 5, _ => rfl
  | 6, _ => rfl
  | 7, _ => rfl
  | 8, _ => rfl
  | 9, _ => rfl
  | 10, _ => rfl
  | 11, _ => rfl
  | 12, _ => rfl
  | 13, _ => rfl
  | 14, _ => rfl
  | 15, _ => rfl
  | 16, _ => rfl
  | 17, _ => rfl
  | 18, _ => rfl
  | 19, _ => rfl
  | 20, _ => rfl
  | 21, _ => rfl
  | 22, _ => rfl
  | 23, _ => rfl
  | 24, _ => rfl
  | 25, _ => rfl
  | 26, _ => rfl
  | 27, _ => rfl
  | 28, _ => rfl
  | 29, _ => rfl
  | 30, _ => rfl
  | 31, _ => rfl
  | 32, _ => rfl
  | 33, _ => rfl
  | 34, _ => rfl
  | 35, _ => rfl
  | 36, _ => rfl
  | 37, _ => rfl
  | 38, _ => rfl
  | 39, _ => rfl
  | 40, _ => rfl
  | 41, _ => rfl
  | 42, _ => rfl
  | 43, _ => rfl
  | 44, _ => rfl
  | 45, _ => rfl
  | 46, _ => rfl
  | 47, _ => rfl
  | 48, _ => rfl
  | 49, _ => rfl
  | 50, _ => rfl
  | 51, _ => rfl
  | 52, _ => rfl
  | k + 53, h => absurd h (by omega)
