/-! TWO WORLDS IN ONE HEAP: the class's (zc, wc) and the reference's (zm, wm) -/
abbrev hpH2 (G : Gt) (A : Nat → Prop) (H0 : Heap) (zc : Zt) (wc : Vt) (zm : Zt) (wm : Vt) (H : Heap) (locs : List Loc) : Prop := va_P G.1 vwCl (hpW G.2.1 zc wc ++ hpW G.2.1 zm wm) H ∧ va_D A (hpW G.2.1 zc wc ++ hpW G.2.1 zm wm) ∧ va_S A H0 H locs
theorem ap_l {α : Type} {a b : List α} {k : Nat} {q : α} (h : a[k]? = some q) : (a ++ b)[k]? = some q := by
  rw [List.getElem?_append_left (List.getElem?_eq_some_iff.mp h).1]
  exact h
theorem ap_r {α : Type} {a b : List α} {k : Nat} {q : α} (h : b[k]? = some q) : (a ++ b)[a.length + k]? = some q := by
  rw [List.getElem?_append_right (Nat.le_add_right _ _), Nat.add_sub_cancel_left]
  exact h
theorem h2_l {G : Gt} {A : Nat → Prop} {H0 H : Heap} {zc zm : Zt} {wc wm : Vt} {locs : List Loc} (h : hpH2 G A H0 zc wc zm wm H locs) : hpH G.1 G.2.1 A H0 zc wc H locs :=
  ⟨fun k q hk => h.1 k q (ap_l hk), ⟨fun i j p q hi hj e => h.2.1.1 i j p q (ap_l hi) (ap_l hj) e, fun k q hk => h.2.1.2 k q (ap_l hk)⟩, h.2.2⟩
theorem h2_r {G : Gt} {A : Nat → Prop} {H0 H : Heap} {zc zm : Zt} {wc wm : Vt} {locs : List Loc} (h : hpH2 G A H0 zc wc zm wm H locs) : hpH G.1 G.2.1 A H0 zm wm H locs :=
  ⟨fun k q hk => h.1 _ q (ap_r hk), ⟨fun i j p q hi hj e => by have := h.2.1.1 _ _ p q (ap_r hi) (ap_r hj) e; omega, fun k q hk => h.2.1.2 _ q (ap_r hk)⟩, h.2.2⟩
/-- two lists of cells, the one renewed by a callee that had it alone -/
theorem h2_mix {D : va_G} {A A1 : Nat → Prop} {b a' : va_W} {H H1 : Heap} (hb : va_P D vwCl b H) (hbD : va_D A b) (hsep : ∀ (k : Nat) (q : Nat × va_E), b[k]? = some q → ¬ A1 q.1) (hk : ∀ q : Nat, q < H.size → ¬ A1 q → H1[q]? = H[q]?) (hA1 : ∀ q, A1 q → A q) (hP : va_P D vwCl a' H1) (hD : va_D A1 a') : va_P D vwCl b H1 ∧ (∀ (i j : Nat) (p q : Nat × va_E), a'[i]? = some p → b[j]? = some q → p.1 ≠ q.1) := by
  refine ⟨fun k q hq => (hb k q hq).kept (hk q.1 ((hb k q hq).lt) (hsep k q hq)), fun i j p q hi hj e => hsep j q hj ?_⟩
  rw [← e]
  exact hD.2 i p hi
theorem va_P_app {D : va_G} {a b : va_W} {H : Heap} (ha : va_P D vwCl a H) (hb : va_P D vwCl b H) : va_P D vwCl (a ++ b) H := va_P.app ha hb
theorem h2_sepR {G : Gt} {A : Nat → Prop} {H0 H : Heap} {zc zm : Zt} {wc wm : Vt} {locs : List Loc} (h : hpH2 G A H0 zc wc zm wm H locs) : ∀ (k : Nat) (q : Nat × va_E), (hpW G.2.1 zm wm)[k]? = some q → ¬ gA G zc wc H.size q.1 := by
  intro k q hq hg
  have hlt := ((h2_r h).1 k q hq).lt
  rcases hg with ⟨k2, e2, h2⟩ | h2
  · have h3 := h.2.1.1 _ _ _ _ (ap_l h2) (ap_r hq) rfl
    have h4 : k2 < (hpW G.2.1 zc wc).length := (List.getElem?_eq_some_iff.mp h2).1
    omega
  · omega
theorem h2_sepL {G : Gt} {A : Nat → Prop} {H0 H : Heap} {zc zm : Zt} {wc wm : Vt} {locs : List Loc} (h : hpH2 G A H0 zc wc zm wm H locs) : ∀ (k : Nat) (q : Nat × va_E), (hpW G.2.1 zc wc)[k]? = some q → ¬ gA G zm wm H.size q.1 := by
  intro k q hq hg
  have hlt := ((h2_l h).1 k q hq).lt
  rcases hg with ⟨k2, e2, h2⟩ | h2
  · have h3 := h.2.1.1 _ _ _ _ (ap_l hq) (ap_r h2) rfl
    have h4 : k < (hpW G.2.1 zc wc).length := (List.getElem?_eq_some_iff.mp hq).1
    omega
  · omega
theorem h2_backL {G : Gt} {A : Nat → Prop} {s t : State} {H H1 : Heap} {zc zc' zm : Zt} {wc wc' wm : Vt} {locs locs1 : List Loc} (h : hpH2 G A s.heap zc wc zm wm H locs) (hA : ∀ q, s.heap.size ≤ q → A q) (ht : t.heap = H1) (hB : gB G (gA G zc wc H.size) zc' wc' t) (hk : ∀ q : Nat, q < H.size → ¬ gA G zc wc H.size q → H1[q]? = H[q]?) (hS : va_S A s.heap H1 locs1) : hpH2 G A s.heap zc' wc' zm wm H1 locs1 := by
  obtain ⟨b1, -, b3⟩ := hB
  rw [ht] at b1
  obtain ⟨hr, hs⟩ := h2_mix (h2_r h).1 (h2_r h).2.1 (h2_sepR h) hk (hp_free (h2_l h) hA) b1 b3
  exact ⟨va_P.app b1 hr, va_D.app (b3.weaken (fun _ q _ h9 => hp_free (h2_l h) hA q.1 h9)) (h2_r h).2.1 (fun i j x y hx hy hxy => hs i j x y hx hy hxy), hS⟩
theorem h2_backR {G : Gt} {A : Nat → Prop} {s t : State} {H H1 : Heap} {zc zm zm' : Zt} {wc wm wm' : Vt} {locs locs1 : List Loc} (h : hpH2 G A s.heap zc wc zm wm H locs) (hA : ∀ q, s.heap.size ≤ q → A q) (ht : t.heap = H1) (hB : gB G (gA G zm wm H.size) zm' wm' t) (hk : ∀ q : Nat, q < H.size → ¬ gA G zm wm H.size q → H1[q]? = H[q]?) (hS : va_S A s.heap H1 locs1) : hpH2 G A s.heap zc wc zm' wm' H1 locs1 := by
  obtain ⟨b1, -, b3⟩ := hB
  rw [ht] at b1
  obtain ⟨hr, hs⟩ := h2_mix (h2_l h).1 (h2_l h).2.1 (h2_sepL h) hk (hp_free (h2_r h) hA) b1 b3
  exact ⟨va_P.app hr b1, va_D.app (h2_l h).2.1 (b3.weaken (fun _ q _ h9 => hp_free (h2_r h) hA q.1 h9)) (fun i j x y hx hy hxy => hs j i y x hy hx hxy.symm), hS⟩
section HP2
variable {p : Program} {l : Launch} {e : Env} {R : Room} {s : State} {m : MethodId} {args : Array Value} {below : List Frame} {meth : Method} {c : Code} {H : Heap} {locs : List Loc} {cells slots : Nat} {Q : State → Prop}
variable {cc : ByteArray} {pc : Nat} {ls : Array Slot} {rest st0 : List Value} {G : Gt} {A : Nat → Prop} {zc zm : Zt} {wc wm : Vt}
variable {y : MethodName} {ws : List Cond} {rm : Room} {bytes : ByteArray} {maxL nL n index mc ms : Nat} {ret : Option FieldType} {Ts : List Cond} {own C : String} {b ci N : Nat} {T : u_T} {As : List Value}
/-- a wrapper of the law is called: it has the class's world -/
theorem h2_wrap {hh : List (Nat × Nat × Nat × Nat)} {K : Int32 → Zt → Vt → Prop} (S : CallFix p m c cc nL s args Ts own) (hM : NI l y ws rm G zc wc H.size As K mc ms) (cw : vx_CSW R s args own index y bytes maxL ret hh ws rm mc ms n) (hK : va_K G.1 vwCl (aT G.2.1) s) (h : hpH2 G A s.heap zc wc zm wm H locs) (hA : ∀ q, s.heap.size ≤ q → A q) (hE : gE G A s s.heap) (hn : As.length = n) (hsize : ls.size = nL) (hstack : st0 = As.reverse ++ rest) (hw : (rest.map fun v => v.category).sum ≤ 8) (hdg : decode cc pc = .ok (.invokestatic index, 3)) (hf : cells + mc ≤ R.cells ∧ slots + ms ≤ R.slots)
    (kk : ∀ (r : Int32) (z1 : Zt) (u : Vt) (H1 : Heap) (locs1 : List Loc), K r z1 u → hpH2 G A s.heap z1 u zm wm H1 locs1 → W p l e R s m args below meth c H1 locs1 (cells + mc) (slots + ms) Q (F0 m (pc + 3) ls (.int r :: rest))) : W p l e R s m args below meth c H locs cells slots Q (F0 m pc ls st0) :=
  va_calli (vx_runSW (g := F0 m pc ls st0) S hM cw ⟨gPre_blind _ _ _ _ _, hp_pre hK (h2_l h) hA hE _⟩ rfl hn hsize hstack (lv_room hw) hdg hf) h.2.2 (fun q _ hq => hp_free (h2_l h) hA q hq) (hp_free (h2_l h) hA) (fun r u t H1 locs1 ht _ hk hB _ hk1 hS => kk r u.1 u.2 H1 locs1 hk (h2_backL h hA ht hB hk1 hS))
/-- a method of the class; of the reference -/
theorem h2_cls {K : Int32 → Vt → Prop} (S : CallFix p m c cc nL s args Ts own) (hM : MI l y ws rm G zc wc H.size (.ref b :: As) K) (cw : CallW R s args own C index y bytes maxL ret ws rm 0 0 n) (ho : isO zc ci b) (hci : ci < 11) (hc : vwCl[ci]? = some (C, T, N)) (hK : va_K G.1 vwCl (aT G.2.1) s) (h : hpH2 G A s.heap zc wc zm wm H locs) (hA : ∀ q, s.heap.size ≤ q → A q) (hE : gE G A s s.heap) (hn : As.length = n) (hsize : ls.size = nL) (hstack : st0 = As.reverse ++ .ref b :: rest) (hw : (rest.map fun v => v.category).sum ≤ 8) (hdg : decode cc pc = .ok (.invokevirtual index, 3)) (hf : cells + 0 ≤ R.cells ∧ slots + 0 ≤ R.slots)
    (kk : ∀ (r : Int32) (u : Vt) (H1 : Heap) (locs1 : List Loc), K r u → hpH2 G A s.heap zc u zm wm H1 locs1 → W p l e R s m args below meth c H1 locs1 cells slots Q (F0 m (pc + 3) ls (.int r :: rest))) : W p l e R s m args below meth c H locs cells slots Q (F0 m pc ls st0) :=
  va_calli (va_runV (g := F0 m pc ls st0) S hM cw ⟨gPre_blind _ _ _ _ _, hp_recv hK (h2_l h) ho hci hc, hp_pre hK (h2_l h) hA hE _⟩ rfl hn hsize hstack (lv_room hw) hdg hf) h.2.2 (fun q _ hq => hp_free (h2_l h) hA q hq) (hp_free (h2_l h) hA) (fun r u t H1 locs1 ht _ hk hB _ hk1 hS => kk r u H1 locs1 hk (h2_backL h hA ht hB hk1 hS))
theorem h2_mod {K : Int32 → Vt → Prop} (S : CallFix p m c cc nL s args Ts own) (hM : MI l y ws rm G zm wm H.size (.ref b :: As) K) (cw : CallW R s args own C index y bytes maxL ret ws rm 0 0 n) (ho : isO zm ci b) (hci : ci < 11) (hc : vwCl[ci]? = some (C, T, N)) (hK : va_K G.1 vwCl (aT G.2.1) s) (h : hpH2 G A s.heap zc wc zm wm H locs) (hA : ∀ q, s.heap.size ≤ q → A q) (hE : gE G A s s.heap) (hn : As.length = n) (hsize : ls.size = nL) (hstack : st0 = As.reverse ++ .ref b :: rest) (hw : (rest.map fun v => v.category).sum ≤ 8) (hdg : decode cc pc = .ok (.invokevirtual index, 3)) (hf : cells + 0 ≤ R.cells ∧ slots + 0 ≤ R.slots)
    (kk : ∀ (r : Int32) (u : Vt) (H1 : Heap) (locs1 : List Loc), K r u → hpH2 G A s.heap zc wc zm u H1 locs1 → W p l e R s m args below meth c H1 locs1 cells slots Q (F0 m (pc + 3) ls (.int r :: rest))) : W p l e R s m args below meth c H locs cells slots Q (F0 m pc ls st0) :=
  va_calli (va_runV (g := F0 m pc ls st0) S hM cw ⟨gPre_blind _ _ _ _ _, hp_recv hK (h2_r h) ho hci hc, hp_pre hK (h2_r h) hA hE _⟩ rfl hn hsize hstack (lv_room hw) hdg hf) h.2.2 (fun q _ hq => hp_free (h2_r h) hA q hq) (hp_free (h2_r h) hA) (fun r u t H1 locs1 ht _ hk hB _ hk1 hS => kk r u H1 locs1 hk (h2_backR h hA ht hB hk1 hS))
theorem h2_modv {K : Vt → Prop} (S : CallFix p m c cc nL s args Ts own) (hM : MV l y ws rm G zm wm H.size (.ref b :: As) K) (cw : CallW R s args own C index y bytes maxL ret ws rm 0 0 n) (ho : isO zm ci b) (hci : ci < 11) (hc : vwCl[ci]? = some (C, T, N)) (hK : va_K G.1 vwCl (aT G.2.1) s) (h : hpH2 G A s.heap zc wc zm wm H locs) (hA : ∀ q, s.heap.size ≤ q → A q) (hE : gE G A s s.heap) (hn : As.length = n) (hsize : ls.size = nL) (hstack : st0 = As.reverse ++ .ref b :: rest) (hw : (rest.map fun v => v.category).sum ≤ 8) (hdg : decode cc pc = .ok (.invokevirtual index, 3)) (hf : cells + 0 ≤ R.cells ∧ slots + 0 ≤ R.slots)
    (kk : ∀ (u : Vt) (H1 : Heap) (locs1 : List Loc), K u → hpH2 G A s.heap zc wc zm u H1 locs1 → W p l e R s m args below meth c H1 locs1 cells slots Q (F0 m (pc + 3) ls rest)) : W p l e R s m args below meth c H locs cells slots Q (F0 m pc ls st0) :=
  va_callv (va_runV (g := F0 m pc ls st0) S hM cw ⟨gPre_blind _ _ _ _ _, hp_recv hK (h2_r h) ho hci hc, hp_pre hK (h2_r h) hA hE _⟩ rfl hn hsize hstack (lv_room hw) hdg hf) h.2.2 (fun q _ hq => hp_free (h2_r h) hA q hq) (hp_free (h2_r h) hA) (fun u t H1 locs1 ht _ hk hB _ hk1 hS => kk u H1 locs1 hk (h2_backR h hA ht hB hk1 hS))
/-- what the wrapper left in 'out' is read -/
theorem h2_lald (hx : p.tables.exec = Jvm.exec) (hb : c.code = cc) (hK : va_K G.1 vwCl (aT G.2.1) s) (h : hpH2 G A s.heap zc wc zm wm H locs) {a : Nat} (ho : isO zc 3000 a) {i : Int32} (hin : vp_in i 1) (hdg : decode cc pc = .ok (.laload, 1))
    (kk : W p l e R s m args below meth c H locs cells slots Q (F0 m (pc + 1) ls (.long (vL wc 3000 a i.toNatClampNeg) :: rest))) : W p l e R s m args below meth c H locs cells slots Q (F0 m pc ls (.int i :: .ref a :: rest)) := by
  have ht : ¬ (3000 : Nat) < 11 := by decide
  have hk : ∀ f o g, hpA G.2.1 3000 f o g = .inl (G.2.1 8, 1, .inr (.inl g)) := fun _ _ _ => rfl
  obtain ⟨q0, hq0, hq⟩ := hp_arr (ac := G.2.1) (w := wc) ho (hk _ _ _) ht
  exact va_lald hx hb hK (h2_l h).1 q0 8 hq rfl hin hdg kk
end HP2
