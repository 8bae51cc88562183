/-! NEW CELLS IN ONE OF TWO WORLDS -/
def z00 : Zt := (fun _ => 0, [], fun _ _ => none, fun _ _ _ => none)
def w00 : Vt := (fun _ _ => 0, fun _ _ _ => 0, fun _ _ _ => 0)
theorem va_D_l {A : Nat → Prop} {a b : va_W} (h : va_D A (a ++ b)) : va_D A a := ⟨fun i j p q hi hj e => h.1 i j p q (ap_l hi) (ap_l hj) e, fun k q hk => h.2 k q (ap_l hk)⟩
theorem va_D_r {A : Nat → Prop} {a b : va_W} (h : va_D A (a ++ b)) : va_D A b := ⟨fun i j p q hi hj e => by have := h.1 _ _ p q (ap_r hi) (ap_r hj) e; omega, fun k q hk => h.2 _ q (ap_r hk)⟩
theorem va_D_x {A : Nat → Prop} {a b : va_W} (h : va_D A (a ++ b)) : ∀ (i j : Nat) (p q : Nat × va_E), a[i]? = some p → b[j]? = some q → p.1 ≠ q.1 := fun i j p q hi hj e => by
  have h1 := h.1 _ _ p q (ap_l hi) (ap_r hj) e
  have h2 := (List.getElem?_eq_some_iff.mp hi).1
  omega
theorem va_P_mem {D : va_G} {cl : List vw_C} {a b : va_W} {H : Heap} (h : va_P D cl a H) (hm : ∀ q ∈ b, q ∈ a) : va_P D cl b H := fun k q hk => by
  obtain ⟨i, hi⟩ := List.getElem?_of_mem (hm q (List.mem_of_getElem? hk))
  exact h i q hi
theorem h2_one {G : Gt} {A : Nat → Prop} {H0 H : Heap} {z : Zt} {w : Vt} {locs : List Loc} (h : hpH G.1 G.2.1 A H0 z w H locs) : hpH2 G A H0 z w z00 w00 H locs := by
  have e : hpW G.2.1 z w ++ hpW G.2.1 z00 w00 = hpW G.2.1 z w := List.append_nil _
  unfold hpH2
  rw [e]
  exact h
theorem h2_nil {G : Gt} {A : Nat → Prop} {H0 : Heap} : hpH G.1 G.2.1 A H0 z00 w00 H0 [] :=
  ⟨fun k q h => (by cases h), ⟨fun i j p q h => (by cases h), fun k q h => (by cases h)⟩, va_S.rf⟩
section H2N
variable {p : Program} {l : Launch} {e : Env} {R : Room} {s : State} {m : MethodId} {args : Array Value} {below : List Frame} {meth : Method} {c : Code} {H : Heap} {locs : List Loc} {cells slots : Nat} {Q : State → Prop}
variable {cc : ByteArray} {pc : Nat} {ls : Array Slot} {rest st0 : List Value} {G : Gt} {A : Nat → Prop} {zc zm : Zt} {wc wm : Vt}
variable {y : MethodName} {ws : List Cond} {rm : Room} {bytes : ByteArray} {maxL nL n index mc ms : Nat} {ret : Option FieldType} {own C : String} {b ci N : Nat} {T : u_T} {As : List Value}
theorem h2_new {Ts : List Cond} (hx : p.tables.exec = Jvm.exec) (hb : c.code = cc) (hts : ∀ w ∈ Ts, w.before args s = true) (hin : ∀ w ∈ u_ws C T N, w ∈ Ts) (ty : Nat → FieldType) (hty : ∀ k, k < N → parseFieldDescriptor (T k).2.2.1 = some (ty k)) (hown : s.vm.findClass own = some m.cls) (hcl : (Cond.classLink own index C).before args s = true) (hinst : (Cond.instantiable C N).before args s = true) (hini : (Cond.initialized C).before args s = true)
    (hK : va_K G.1 vwCl (aT G.2.1) s) (h : hpH2 G A s.heap zc wc zm wm H locs) (hA : ∀ q, s.heap.size ≤ q → A q) (hci : ci < 11) (hc : vwCl[ci]? = some (C, T, N)) (hfs : ∀ j, j < N → defaultValue (ty j) = vp_V (hpO ci (fun _ => 0) (fun _ => none)) j) (hcells : cells + 1 ≤ R.cells) (hslots : slots + N ≤ R.slots) (hdg : decode cc pc = .ok (.new index, 3))
    (kk : ∀ (q : Nat) (z1 : Zt) (w1 : Vt) (H1 : Heap), q ∉ zm.2.1 → z1 = nZ zm q ci → w1 = nV wm q → hpH2 G A s.heap zc wc z1 w1 H1 locs → W p l e R s m args below meth c H1 locs (cells + 1) (slots + N) Q (F0 m (pc + 3) ls (.ref q :: rest))) : W p l e R s m args below meth c H locs cells slots Q (F0 m pc ls rest) := by
  refine va_new (ci := ci) hx hb hts hin ty hty hown hcl hinst hini hK h.1 h.2.1 h.2.2 hA hc hfs hcells hslots hdg (fun q H1 hP hD hS => ?_)
  rw [List.append_assoc] at hP hD
  have hq := hp_notin (va_D_r hD)
  refine kk q _ _ H1 hq rfl rfl ?_
  rw [hp_push hq (hpC_o hci)] at hP hD
  exact ⟨hP, hD, hS⟩
theorem h2_init {Ts : List Cond} {K : Zt → Vt → Prop} (S : CallFix p m c cc nL s args Ts own) (hM : NV l y ws rm G zm wm H.size (.ref b :: As) K mc ms) (cw : CallB R s args own index y bytes maxL none ws rm mc ms n ∧ y.name = "<init>" ∧ (Cond.instanceMethod y).before args s = true) (hK : va_K G.1 vwCl (aT G.2.1) s) (h : hpH2 G A s.heap zc wc zm wm H locs) (hA : ∀ q, s.heap.size ≤ q → A q) (hE : gE G A s s.heap) (hn : As.length = n) (hsize : ls.size = nL) (hstack : st0 = As.reverse ++ .ref b :: rest) (hw : (rest.map fun v => v.category).sum ≤ 8) (hdg : decode cc pc = .ok (.invokespecial index, 3)) (hf : cells + mc ≤ R.cells ∧ slots + ms ≤ R.slots)
    (kk : ∀ (z1 : Zt) (u : Vt) (H1 : Heap) (locs1 : List Loc), K z1 u → hpH2 G A s.heap zc wc z1 u H1 locs1 → W p l e R s m args below meth c H1 locs1 (cells + mc) (slots + ms) Q (F0 m (pc + 3) ls rest)) : W p l e R s m args below meth c H locs cells slots Q (F0 m pc ls st0) :=
  va_callv (va_runI (g := F0 m pc ls st0) S hM cw ⟨gPre_blind _ _ _ _ _, hp_pre hK (h2_r h) hA hE _⟩ rfl hn hsize hstack (lv_room hw) hdg hf) h.2.2 (fun q _ hq => hp_free (h2_r h) hA q hq) (hp_free (h2_r h) hA) (fun u t H1 locs1 ht _ hk hB _ hk1 hS => kk u.1 u.2 H1 locs1 hk (h2_backR h hA ht hB hk1 hS))
theorem h2_newl (hx : p.tables.exec = Jvm.exec) (hb : c.code = cc) (harr : (Cond.arrayClass .long).before args s = true) (hK : va_K G.1 vwCl (aT G.2.1) s) (h : hpH2 G A s.heap zc wc zm wm H locs) (hA : ∀ q, s.heap.size ≤ q → A q) (hcells : cells + 1 ≤ R.cells) (hslots : slots + 1 ≤ R.slots) (hdg : decode cc pc = .ok (.newarray .long, 2))
    (kk : ∀ (q : Nat) (H1 : Heap), q ∉ zc.2.1 → hpH2 G A s.heap (nZ zc q 3000) (nV wc q) zm wm H1 locs → W p l e R s m args below meth c H1 locs (cells + 1) (slots + 1) Q (F0 m (pc + 2) ls (.ref q :: rest))) : W p l e R s m args below meth c H locs cells slots Q (F0 m pc ls (.int 1 :: rest)) := by
  have hcell : ∀ cA : ClassId, vp_cell cA ((1, .inr (.inl (fun _ => 0))) : vp_A) = arrV cA 1 (fun _ => defaultValue FieldType.long) := fun cA => rfl
  refine va_newa (atype := .long) (ty := .long) (n := 1) (a0 := (1, .inr (.inl (fun _ => 0)))) (N' := 1) hx hb harr rfl hK h.1 h.2.1 h.2.2 hA hcell (by decide) (by decide) (by decide) hcells hslots hdg (fun q cA H1 hK1 hP hD hS => ?_)
  have e : cA = G.2.1 8 := by
    have h1 : s.vm.findClass ("[" ++ (FieldType.long).toString) = some cA := (hK1.2 (aT G.2.1).length (cA, .long) (by simp)).2
    have h2 : s.vm.findClass ("[" ++ (FieldType.long).toString) = some (G.2.1 8) := (hK.2 8 _ rfl).2
    exact Option.some.inj (h1.symm.trans h2)
  subst e
  have hD1 := va_D_l hD
  have hDn := va_D_r hD
  have hDx := va_D_x hD
  have hDl : va_D A (hpW G.2.1 zc wc ++ [(q, .inl (G.2.1 8, 1, .inr (.inl (fun _ => 0))))]) := va_D.app (va_D_l hD1) hDn (fun i j p q hi hj => hDx i j p q (ap_l hi) hj)
  have hq := hp_notin hDl
  have hk3 : hpC G.2.1 3000 (fun _ => 0) (fun _ => none) (fun _ => 0) (fun _ => none) (fun _ => 0) = .inl (G.2.1 8, 1, .inr (.inl (fun _ => 0))) := (hpC_a (by decide)).trans rfl
  refine kk q H1 hq ⟨?_, ?_, hS⟩
  · rw [← hp_push hq hk3]
    refine va_P_mem hP (fun x hx => ?_)
    simp only [List.mem_append] at hx ⊢
    rcases hx with (h1 | h1) | h1
    · exact Or.inl (Or.inl h1)
    · exact Or.inr h1
    · exact Or.inl (Or.inr h1)
  · rw [← hp_push hq hk3]
    refine va_D.app hDl (va_D_r hD1) (fun i j p q hi hj => ?_)
    rcases List.mem_append.mp (List.mem_of_getElem? hi) with h1 | h1
    · obtain ⟨i2, hi2⟩ := List.getElem?_of_mem h1
      exact va_D_x hD1 i2 j p q hi2 hj
    · obtain ⟨i2, hi2⟩ := List.getElem?_of_mem h1
      exact fun e9 => hDx (_ + j) i2 q p (ap_r hj) hi2 e9.symm
end H2N
/-! THE LAW'S LOOP -/
theorem lw_head {L k : Nat} (hL : L ≤ 4608) (hk : 9 * k ≤ 4608) (h : ¬ nI L - 9 < nI (9 * k)) : 9 * k + 9 ≤ L := by
  have h9 : (9 : Int32).toInt = 9 := rfl
  rw [Int32.lt_iff_toInt_lt, Int32.toInt_sub, nI_toInt (by omega), nI_toInt (by omega), h9, Int.bmod_def] at h
  split at h <;> omega
theorem lw_in {L k j : Nat} (hL : L ≤ 4608) (h : 9 * k + j < L) : vp_in (nI (9 * k) + nI j) L := by
  rw [nI_add]
  exact vp_in_nI h (by omega)

def ok_0 (I : Nat → Zt → Vt → Zt → Vt → Prop) (x mm t : Nat) : Prop := ∀ (k : Nat) (zc : Zt) (wc : Vt) (zm : Zt) (wm : Vt), k < 512 → I k zc wc zm wm → ∀ a1 a2 a3 a4 a5 : Int32, wc_0 zc wc zm wm x mm t a1 a2 a3 a4 a5 (I (k + 1))
def ok_1 (I : Nat → Zt → Vt → Zt → Vt → Prop) (x mm t : Nat) : Prop := ∀ (k : Nat) (zc : Zt) (wc : Vt) (zm : Zt) (wm : Vt), k < 512 → I k zc wc zm wm → ∀ a1 : Int32, wc_1 zc wc zm wm x mm t a1 (I (k + 1))
def ok_2 (I : Nat → Zt → Vt → Zt → Vt → Prop) (x mm t : Nat) : Prop := ∀ (k : Nat) (zc : Zt) (wc : Vt) (zm : Zt) (wm : Vt), k < 512 → I k zc wc zm wm → wc_2 zc wc zm wm x mm t (I (k + 1))
def ok_3 (I : Nat → Zt → Vt → Zt → Vt → Prop) (x mm t : Nat) : Prop := ∀ (k : Nat) (zc : Zt) (wc : Vt) (zm : Zt) (wm : Vt), k < 512 → I k zc wc zm wm → ∀ a1 a2 a3 : Int32, wc_3 zc wc zm wm x mm t a1 a2 a3 (I (k + 1))
def ok_4 (I : Nat → Zt → Vt → Zt → Vt → Prop) (x mm t : Nat) : Prop := ∀ (k : Nat) (zc : Zt) (wc : Vt) (zm : Zt) (wm : Vt), k < 512 → I k zc wc zm wm → ∀ a1 a2 : Int32, wc_4 zc wc zm wm x mm t a1 a2 (I (k + 1))
def ok_5 (I : Nat → Zt → Vt → Zt → Vt → Prop) (x mm t : Nat) : Prop := ∀ (k : Nat) (zc : Zt) (wc : Vt) (zm : Zt) (wm : Vt), k < 512 → I k zc wc zm wm → wc_5 zc wc zm wm x mm t (I (k + 1))
def ok_6 (I : Nat → Zt → Vt → Zt → Vt → Prop) (x mm t : Nat) : Prop := ∀ (k : Nat) (zc : Zt) (wc : Vt) (zm : Zt) (wm : Vt), k < 512 → I k zc wc zm wm → wc_6 zc wc zm wm x mm t (I (k + 1))
def ok_7 (I : Nat → Zt → Vt → Zt → Vt → Prop) (x mm t : Nat) : Prop := ∀ (k : Nat) (zc : Zt) (wc : Vt) (zm : Zt) (wm : Vt), k < 512 → I k zc wc zm wm → ∀ a1 a2 a3 : Int32, wc_7 zc wc zm wm x mm t a1 a2 a3 (I (k + 1))
def ok_8 (I : Nat → Zt → Vt → Zt → Vt → Prop) (x mm t : Nat) : Prop := ∀ (k : Nat) (zc : Zt) (wc : Vt) (zm : Zt) (wm : Vt), k < 512 → I k zc wc zm wm → ∀ a1 a2 a3 a4 : Int32, wc_8 zc wc zm wm x mm t a1 a2 a3 a4 (I (k + 1))
def ok_9 (I : Nat → Zt → Vt → Zt → Vt → Prop) (x mm t : Nat) : Prop := ∀ (k : Nat) (zc : Zt) (wc : Vt) (zm : Zt) (wm : Vt), k < 512 → I k zc wc zm wm → ∀ a1 a2 a3 a4 : Int32, wc_9 zc wc zm wm x mm t a1 a2 a3 a4 (I (k + 1))
def ok_10 (I : Nat → Zt → Vt → Zt → Vt → Prop) (x mm t : Nat) : Prop := ∀ (k : Nat) (zc : Zt) (wc : Vt) (zm : Zt) (wm : Vt), k < 512 → I k zc wc zm wm → ∀ a1 a2 a3 : Int32, wc_10 zc wc zm wm x mm t a1 a2 a3 (I (k + 1))
def ok_11 (I : Nat → Zt → Vt → Zt → Vt → Prop) (x mm t : Nat) : Prop := ∀ (k : Nat) (zc : Zt) (wc : Vt) (zm : Zt) (wm : Vt), k < 512 → I k zc wc zm wm → ∀ a1 a2 a3 : Int32, wc_11 zc wc zm wm x mm t a1 a2 a3 (I (k + 1))
def ok_12 (I : Nat → Zt → Vt → Zt → Vt → Prop) (x mm t : Nat) : Prop := ∀ (k : Nat) (zc : Zt) (wc : Vt) (zm : Zt) (wm : Vt), k < 512 → I k zc wc zm wm → ∀ a1 : Int32, wc_12 zc wc zm wm x mm t a1 (I (k + 1))
def ok_13 (I : Nat → Zt → Vt → Zt → Vt → Prop) (x mm t : Nat) : Prop := ∀ (k : Nat) (zc : Zt) (wc : Vt) (zm : Zt) (wm : Vt), k < 512 → I k zc wc zm wm → ∀ a1 a2 : Int32, wc_13 zc wc zm wm x mm t a1 a2 (I (k + 1))
def ok_14 (I : Nat → Zt → Vt → Zt → Vt → Prop) (x mm t : Nat) : Prop := ∀ (k : Nat) (zc : Zt) (wc : Vt) (zm : Zt) (wm : Vt), k < 512 → I k zc wc zm wm → ∀ a1 a2 a3 : Int32, wc_14 zc wc zm wm x mm t a1 a2 a3 (I (k + 1))
def ok_15 (I : Nat → Zt → Vt → Zt → Vt → Prop) (x mm t : Nat) : Prop := ∀ (k : Nat) (zc : Zt) (wc : Vt) (zm : Zt) (wm : Vt), k < 512 → I k zc wc zm wm → ∀ a1 : Int32, wc_15 zc wc zm wm x mm t a1 (I (k + 1))
def ok_16 (I : Nat → Zt → Vt → Zt → Vt → Prop) (x mm t : Nat) : Prop := ∀ (k : Nat) (zc : Zt) (wc : Vt) (zm : Zt) (wm : Vt), k < 512 → I k zc wc zm wm → ∀ a1 a2 : Int32, wc_16 zc wc zm wm x mm t a1 a2 (I (k + 1))
def ok_17 (I : Nat → Zt → Vt → Zt → Vt → Prop) (x mm t : Nat) : Prop := ∀ (k : Nat) (zc : Zt) (wc : Vt) (zm : Zt) (wm : Vt), k < 512 → I k zc wc zm wm → ∀ a1 : Int32, wc_17 zc wc zm wm x mm t a1 (I (k + 1))
def ok_18 (I : Nat → Zt → Vt → Zt → Vt → Prop) (x mm t : Nat) : Prop := ∀ (k : Nat) (zc : Zt) (wc : Vt) (zm : Zt) (wm : Vt), k < 512 → I k zc wc zm wm → ∀ a1 a2 a3 a4 a5 a6 a7 a8 : Int32, wc_18 zc wc zm wm x mm t a1 a2 a3 a4 a5 a6 a7 a8 (I (k + 1))
def ok_19 (I : Nat → Zt → Vt → Zt → Vt → Prop) (x mm t : Nat) : Prop := ∀ (k : Nat) (zc : Zt) (wc : Vt) (zm : Zt) (wm : Vt), k < 512 → I k zc wc zm wm → ∀ a1 a2 : Int32, wc_19 zc wc zm wm x mm t a1 a2 (I (k + 1))
def ok_20 (I : Nat → Zt → Vt → Zt → Vt → Prop) (x mm t : Nat) : Prop := ∀ (k : Nat) (zc : Zt) (wc : Vt) (zm : Zt) (wm : Vt), k < 512 → I k zc wc zm wm → ∀ a1 a2 a3 : Int32, wc_20 zc wc zm wm x mm t a1 a2 a3 (I (k + 1))
def ok_21 (I : Nat → Zt → Vt → Zt → Vt → Prop) (x mm t : Nat) : Prop := ∀ (k : Nat) (zc : Zt) (wc : Vt) (zm : Zt) (wm : Vt), k < 512 → I k zc wc zm wm → ∀ a1 : Int32, wc_21 zc wc zm wm x mm t a1 (I (k + 1))
def ok_22 (I : Nat → Zt → Vt → Zt → Vt → Prop) (x mm t : Nat) : Prop := ∀ (k : Nat) (zc : Zt) (wc : Vt) (zm : Zt) (wm : Vt), k < 512 → I k zc wc zm wm → ∀ a1 a2 a3 : Int32, wc_22 zc wc zm wm x mm t a1 a2 a3 (I (k + 1))
def ok_23 (I : Nat → Zt → Vt → Zt → Vt → Prop) (x mm t : Nat) : Prop := ∀ (k : Nat) (zc : Zt) (wc : Vt) (zm : Zt) (wm : Vt), k < 512 → I k zc wc zm wm → ∀ a1 a2 a3 : Int32, wc_23 zc wc zm wm x mm t a1 a2 a3 (I (k + 1))
def ok_24 (I : Nat → Zt → Vt → Zt → Vt → Prop) (x mm t : Nat) : Prop := ∀ (k : Nat) (zc : Zt) (wc : Vt) (zm : Zt) (wm : Vt), k < 512 → I k zc wc zm wm → wc_24 zc wc zm wm x mm t (I (k + 1))
def ok_25 (I : Nat → Zt → Vt → Zt → Vt → Prop) (x mm t : Nat) : Prop := ∀ (k : Nat) (zc : Zt) (wc : Vt) (zm : Zt) (wm : Vt), k < 512 → I k zc wc zm wm → ∀ a1 : Int32, wc_25 zc wc zm wm x mm t a1 (I (k + 1))
set_option maxHeartbeats 8000000 in
set_option maxRecDepth 100000 in
theorem lw_loop {p : Program} {l : Launch} {e : Env} {s : State} {m : MethodId} {below : List Frame} {meth : Method} {c : Code} {G : Gt} {b L : Nat} {xs : Nat → Int32} {Q : State → Prop} (hst : l.stackTraces = false) (F : lwF p s m c b L xs G) (hL : L ≤ 4608) {x mm t : Nat} (I : Nat → Zt → Vt → Zt → Vt → Prop) (h0 : ok_0 I x mm t) (h1 : ok_1 I x mm t) (h2 : ok_2 I x mm t) (h3 : ok_3 I x mm t) (h4 : ok_4 I x mm t) (h5 : ok_5 I x mm t) (h6 : ok_6 I x mm t) (h7 : ok_7 I x mm t) (h8 : ok_8 I x mm t) (h9 : ok_9 I x mm t) (h10 : ok_10 I x mm t) (h11 : ok_11 I x mm t) (h12 : ok_12 I x mm t) (h13 : ok_13 I x mm t) (h14 : ok_14 I x mm t) (h15 : ok_15 I x mm t) (h16 : ok_16 I x mm t) (h17 : ok_17 I x mm t) (h18 : ok_18 I x mm t) (h19 : ok_19 I x mm t) (h20 : ok_20 I x mm t) (h21 : ok_21 I x mm t) (h22 : ok_22 I x mm t) (h23 : ok_23 I x mm t) (h24 : ok_24 I x mm t) (h25 : ok_25 I x mm t) (hd : ∀ (k : Nat) (zc : Zt) (wc : Vt) (zm : Zt) (wm : Vt), k < 512 → I k zc wc zm wm → I (k + 1) zc wc zm wm)
    (hend : ∀ (H : Heap) (locs : List Loc) (ls : Array Slot) (cells slots : Nat), cells ≤ 601024 → slots ≤ 7293034 → (∀ q ∈ locs, s.heap.size ≤ q.base) → W p l e room_1 s m #[Value.ref b] below meth c H locs cells slots Q (F0 m 1887 ls [])) :
    ∀ (n k : Nat) (zc : Zt) (wc : Vt) (zm : Zt) (wm : Vt) (H : Heap) (locs : List Loc) (ls : Array Slot), L < 9 * k + 9 * n → 9 * k ≤ L → I k zc wc zm wm → hpH2 G (fun q : Nat => s.heap.size ≤ q) s.heap zc wc zm wm H locs → lv_has ls 7 [(0, .ref b), (1, .ref x), (2, .ref mm), (3, .ref t), (4, .int (nI (9 * k)))] → W p l e room_1 s m #[Value.ref b] below meth c H locs (100 + 4 * k) (20000 + 24 * k) Q (F0 m 23 ls []) := by
  obtain ⟨hx, hb, hml, hown, hts, hX, hbl, hK, hE⟩ := id F
  intro n
  induction n with
  | zero =>
    intro k zc wc zm wm H locs ls hq1 hq2
    exact absurd hq1 (by omega)
  | succ n ih =>
    intro k zc wc zm wm H locs ls hq1 hq2 hI h hl
    refine lv_iload hx hb dL_law_23 (lv_at hl 4 rfl) ?_
    refine lv_aload_n hx hb dL_law_25 rfl (lv_at hl 0 rfl) ?_
    refine va_slen hx hb hX hbl (Nat.not_le.mpr hbl) h.2.2 dL_law_26 ?_
    refine lv_bipush (v := 9) hx hb dL_law_27 (by decide) ?_
    refine lv_isub hx hb dL_law_29 ?_
    refine lv_icmp_gt (tgt := 1887) hx hb dL_law_30 (by decide) (fun hc => ?_) (fun hc => ?_)
    · exact hend H locs ls _ _ (by omega) (by omega) (fun q hq => h.2.2.2.2 q hq)
    have hlt : 9 * k + 9 ≤ L := lw_head hL (by omega) hc
    have hk : k < 512 := by omega
    have hin0 : vp_in (nI (9 * k)) L := vp_in_nI (by omega) (by omega)
    have hcc : 100 + 4 * k + 4 ≤ room_1.cells := by show _ ≤ 601024; omega
    have hss : 20000 + 24 * k + 24 ≤ room_1.slots := by show _ ≤ 7293034; omega
    have hin1 : vp_in (nI (9 * k) + 1) L := lw_in (j := 1) hL (by omega)
    have hin2 : vp_in (nI (9 * k) + 2) L := lw_in (j := 2) hL (by omega)
    have hin3 : vp_in (nI (9 * k) + 3) L := lw_in (j := 3) hL (by omega)
    have hin4 : vp_in (nI (9 * k) + 4) L := lw_in (j := 4) hL (by omega)
    have hin5 : vp_in (nI (9 * k) + 5) L := lw_in (j := 5) hL (by omega)
    have hin6 : vp_in (nI (9 * k) + 6) L := lw_in (j := 6) hL (by omega)
    have hin7 : vp_in (nI (9 * k) + 7) L := lw_in (j := 7) hL (by omega)
    have hin8 : vp_in (nI (9 * k) + 8) L := lw_in (j := 8) hL (by omega)
    have tail : ∀ (zc : Zt) (wc : Vt) (zm : Zt) (wm : Vt) (H : Heap) (locs : List Loc) (ls : Array Slot), I (k + 1) zc wc zm wm → hpH2 G (fun q : Nat => s.heap.size ≤ q) s.heap zc wc zm wm H locs → lv_has ls 7 [(0, .ref b), (1, .ref x), (2, .ref mm), (3, .ref t), (4, .int (nI (9 * k)))] → W p l e room_1 s m #[Value.ref b] below meth c H locs (100 + 4 * k + 4) (20000 + 24 * k + 24) Q (F0 m 1881 ls []) := by
      intro zc wc zm wm H locs ls hI h hl
      refine lv_iinc (v := nI (9 * (k + 1))) (lv' := [(4, .int (nI (9 * (k + 1)))), (0, .ref b), (1, .ref x), (2, .ref mm), (3, .ref t)]) hx hb dL_law_1881 hl (k := 4) rfl (show nI (9 * k) + nI 9 = _ from nI_add _ _) (by decide) rfl (fun ls hl => ?_)
      refine lv_goto (tgt := 23) hx hb dL_law_1884 (by decide) ?_
      refine W.widen (k := 100 + 4 * (k + 1)) (n := 20000 + 24 * (k + 1)) (by omega) (by omega) ?_
      exact ih (k + 1) zc wc zm wm H locs ls (by omega) (by omega) hI h (lv_sub hl [1, 2, 3, 4, 0] rfl)
    refine lv_aload_n hx hb dL_law_33 rfl (lv_at hl 0 rfl) ?_
    refine lv_iload hx hb dL_law_34 (lv_at hl 4 rfl) ?_
    refine lw_sld F h hin0 rfl dL_law_36 ?_
    refine lv_bipush (v := 31) hx hb dL_law_37 (by decide) ?_
    refine lv_iand hx hb dL_law_39 ?_
    refine lv_topi (fun v ev => ?_)
    by_cases hc0 : v = 0
    · refine lv_tableIn (off := 120) (tgt := 160) hx hb dL_law_40 (by rw [hc0]; decide) (by rw [hc0]; decide) (by rw [hc0]; rfl) (by decide) ?_
      exact lc_0 hst F hin1 hin2 hin3 hin4 hin5 rfl rfl rfl rfl rfl h hl hcc hss _ (h0 k zc wc zm wm hk hI _ _ _ _ _) tail
    by_cases hc1 : v = 1
    · refine lv_tableIn (off := 193) (tgt := 233) hx hb dL_law_40 (by rw [hc1]; decide) (by rw [hc1]; decide) (by rw [hc1]; rfl) (by decide) ?_
      exact lc_1 hst F hin1 rfl h hl hcc hss _ (h1 k zc wc zm wm hk hI _) tail
    by_cases hc2 : v = 2
    · refine lv_tableIn (off := 218) (tgt := 258) hx hb dL_law_40 (by rw [hc2]; decide) (by rw [hc2]; decide) (by rw [hc2]; rfl) (by decide) ?_
      exact lc_2 hst F h hl hcc hss _ (h2 k zc wc zm wm hk hI) tail
    by_cases hc3 : v = 3
    · refine lv_tableIn (off := 262) (tgt := 302) hx hb dL_law_40 (by rw [hc3]; decide) (by rw [hc3]; decide) (by rw [hc3]; rfl) (by decide) ?_
      exact lc_3 hst F hin1 hin2 hin3 rfl rfl rfl h hl hcc hss _ (h3 k zc wc zm wm hk hI _ _ _) tail
    by_cases hc4 : v = 4
    · refine lv_tableIn (off := 342) (tgt := 382) hx hb dL_law_40 (by rw [hc4]; decide) (by rw [hc4]; decide) (by rw [hc4]; rfl) (by decide) ?_
      exact lc_4 hst F hin1 hin2 rfl rfl h hl hcc hss _ (h4 k zc wc zm wm hk hI _ _) tail
    by_cases hc5 : v = 5
    · refine lv_tableIn (off := 390) (tgt := 430) hx hb dL_law_40 (by rw [hc5]; decide) (by rw [hc5]; decide) (by rw [hc5]; rfl) (by decide) ?_
      exact lc_5 hst F h hl hcc hss _ (h5 k zc wc zm wm hk hI) tail
    by_cases hc6 : v = 6
    · refine lv_tableIn (off := 434) (tgt := 474) hx hb dL_law_40 (by rw [hc6]; decide) (by rw [hc6]; decide) (by rw [hc6]; rfl) (by decide) ?_
      exact lc_6 hst F h hl hcc hss _ (h6 k zc wc zm wm hk hI) tail
    by_cases hc7 : v = 7
    · refine lv_tableIn (off := 447) (tgt := 487) hx hb dL_law_40 (by rw [hc7]; decide) (by rw [hc7]; decide) (by rw [hc7]; rfl) (by decide) ?_
      exact lc_7 hst F hin1 hin2 hin3 rfl rfl rfl h hl hcc hss _ (h7 k zc wc zm wm hk hI _ _ _) tail
    by_cases hc8 : v = 8
    · refine lv_tableIn (off := 534) (tgt := 574) hx hb dL_law_40 (by rw [hc8]; decide) (by rw [hc8]; decide) (by rw [hc8]; rfl) (by decide) ?_
      exact lc_8 hst F hin1 hin2 hin3 hin4 rfl rfl rfl rfl h hl hcc hss _ (h8 k zc wc zm wm hk hI _ _ _ _) tail
    by_cases hc9 : v = 9
    · refine lv_tableIn (off := 626) (tgt := 666) hx hb dL_law_40 (by rw [hc9]; decide) (by rw [hc9]; decide) (by rw [hc9]; rfl) (by decide) ?_
      exact lc_9 hst F hin1 hin2 hin3 hin4 rfl rfl rfl rfl h hl hcc hss _ (h9 k zc wc zm wm hk hI _ _ _ _) tail
    by_cases hc10 : v = 10
    · refine lv_tableIn (off := 718) (tgt := 758) hx hb dL_law_40 (by rw [hc10]; decide) (by rw [hc10]; decide) (by rw [hc10]; rfl) (by decide) ?_
      exact lc_10 hst F hin1 hin2 hin3 rfl rfl rfl h hl hcc hss _ (h10 k zc wc zm wm hk hI _ _ _) tail
    by_cases hc11 : v = 11
    · refine lv_tableIn (off := 798) (tgt := 838) hx hb dL_law_40 (by rw [hc11]; decide) (by rw [hc11]; decide) (by rw [hc11]; rfl) (by decide) ?_
      exact lc_11 hst F hin1 hin2 hin3 rfl rfl rfl h hl hcc hss _ (h11 k zc wc zm wm hk hI _ _ _) tail
    by_cases hc12 : v = 12
    · refine lv_tableIn (off := 878) (tgt := 918) hx hb dL_law_40 (by rw [hc12]; decide) (by rw [hc12]; decide) (by rw [hc12]; rfl) (by decide) ?_
      exact lc_12 hst F hin1 rfl h hl hcc hss _ (h12 k zc wc zm wm hk hI _) tail
    by_cases hc13 : v = 13
    · refine lv_tableIn (off := 934) (tgt := 974) hx hb dL_law_40 (by rw [hc13]; decide) (by rw [hc13]; decide) (by rw [hc13]; rfl) (by decide) ?_
      exact lc_13 hst F hin1 hin2 rfl rfl h hl hcc hss _ (h13 k zc wc zm wm hk hI _ _) tail
    by_cases hc14 : v = 14
    · refine lv_tableIn (off := 1002) (tgt := 1042) hx hb dL_law_40 (by rw [hc14]; decide) (by rw [hc14]; decide) (by rw [hc14]; rfl) (by decide) ?_
      exact lc_14 hst F hin1 hin2 hin3 rfl rfl rfl h hl hcc hss _ (h14 k zc wc zm wm hk hI _ _ _) tail
    by_cases hc15 : v = 15
    · refine lv_tableIn (off := 1082) (tgt := 1122) hx hb dL_law_40 (by rw [hc15]; decide) (by rw [hc15]; decide) (by rw [hc15]; rfl) (by decide) ?_
      exact lc_15 hst F hin1 rfl h hl hcc hss _ (h15 k zc wc zm wm hk hI _) tail
    by_cases hc16 : v = 16
    · refine lv_tableIn (off := 1138) (tgt := 1178) hx hb dL_law_40 (by rw [hc16]; decide) (by rw [hc16]; decide) (by rw [hc16]; rfl) (by decide) ?_
      exact lc_16 hst F hin1 hin2 rfl rfl h hl hcc hss _ (h16 k zc wc zm wm hk hI _ _) tail
    by_cases hc17 : v = 17
    · refine lv_tableIn (off := 1213) (tgt := 1253) hx hb dL_law_40 (by rw [hc17]; decide) (by rw [hc17]; decide) (by rw [hc17]; rfl) (by decide) ?_
      exact lc_17 hst F hin1 rfl h hl hcc hss _ (h17 k zc wc zm wm hk hI _) tail
    by_cases hc18 : v = 18
    · refine lv_tableIn (off := 1269) (tgt := 1309) hx hb dL_law_40 (by rw [hc18]; decide) (by rw [hc18]; decide) (by rw [hc18]; rfl) (by decide) ?_
      exact lc_18 hst F hin1 hin2 hin3 hin4 hin5 hin6 hin7 hin8 rfl rfl rfl rfl rfl rfl rfl rfl h hl hcc hss _ (h18 k zc wc zm wm hk hI _ _ _ _ _ _ _ _) tail
    by_cases hc19 : v = 19
    · refine lv_tableIn (off := 1415) (tgt := 1455) hx hb dL_law_40 (by rw [hc19]; decide) (by rw [hc19]; decide) (by rw [hc19]; rfl) (by decide) ?_
      exact lc_19 hst F hin1 hin2 rfl rfl h hl hcc hss _ (h19 k zc wc zm wm hk hI _ _) tail
    by_cases hc20 : v = 20
    · refine lv_tableIn (off := 1483) (tgt := 1523) hx hb dL_law_40 (by rw [hc20]; decide) (by rw [hc20]; decide) (by rw [hc20]; rfl) (by decide) ?_
      exact lc_20 hst F hin1 hin2 hin3 rfl rfl rfl h hl hcc hss _ (h20 k zc wc zm wm hk hI _ _ _) tail
    by_cases hc21 : v = 21
    · refine lv_tableIn (off := 1563) (tgt := 1603) hx hb dL_law_40 (by rw [hc21]; decide) (by rw [hc21]; decide) (by rw [hc21]; rfl) (by decide) ?_
      exact lc_21 hst F hin1 rfl h hl hcc hss _ (h21 k zc wc zm wm hk hI _) tail
    by_cases hc22 : v = 22
    · refine lv_tableIn (off := 1626) (tgt := 1666) hx hb dL_law_40 (by rw [hc22]; decide) (by rw [hc22]; decide) (by rw [hc22]; rfl) (by decide) ?_
      exact lc_22 hst F hin1 hin2 hin3 rfl rfl rfl h hl hcc hss _ (h22 k zc wc zm wm hk hI _ _ _) tail
    by_cases hc23 : v = 23
    · refine lv_tableIn (off := 1706) (tgt := 1746) hx hb dL_law_40 (by rw [hc23]; decide) (by rw [hc23]; decide) (by rw [hc23]; rfl) (by decide) ?_
      exact lc_23 hst F hin1 hin2 hin3 rfl rfl rfl h hl hcc hss _ (h23 k zc wc zm wm hk hI _ _ _) tail
    by_cases hc24 : v = 24
    · refine lv_tableIn (off := 1803) (tgt := 1843) hx hb dL_law_40 (by rw [hc24]; decide) (by rw [hc24]; decide) (by rw [hc24]; rfl) (by decide) ?_
      exact lc_24 hst F h hl hcc hss _ (h24 k zc wc zm wm hk hI) tail
    by_cases hc25 : v = 25
    · refine lv_tableIn (off := 1816) (tgt := 1856) hx hb dL_law_40 (by rw [hc25]; decide) (by rw [hc25]; decide) (by rw [hc25]; rfl) (by decide) ?_
      exact lc_25 hst F hin1 rfl h hl hcc hss _ (h25 k zc wc zm wm hk hI _) tail
    have t0 := lv_neT (a := 0) hc0 (by decide)
    have t1 := lv_neT (a := 1) hc1 (by decide)
    have t2 := lv_neT (a := 2) hc2 (by decide)
    have t3 := lv_neT (a := 3) hc3 (by decide)
    have t4 := lv_neT (a := 4) hc4 (by decide)
    have t5 := lv_neT (a := 5) hc5 (by decide)
    have t6 := lv_neT (a := 6) hc6 (by decide)
    have t7 := lv_neT (a := 7) hc7 (by decide)
    have t8 := lv_neT (a := 8) hc8 (by decide)
    have t9 := lv_neT (a := 9) hc9 (by decide)
    have t10 := lv_neT (a := 10) hc10 (by decide)
    have t11 := lv_neT (a := 11) hc11 (by decide)
    have t12 := lv_neT (a := 12) hc12 (by decide)
    have t13 := lv_neT (a := 13) hc13 (by decide)
    have t14 := lv_neT (a := 14) hc14 (by decide)
    have t15 := lv_neT (a := 15) hc15 (by decide)
    have t16 := lv_neT (a := 16) hc16 (by decide)
    have t17 := lv_neT (a := 17) hc17 (by decide)
    have t18 := lv_neT (a := 18) hc18 (by decide)
    have t19 := lv_neT (a := 19) hc19 (by decide)
    have t20 := lv_neT (a := 20) hc20 (by decide)
    have t21 := lv_neT (a := 21) hc21 (by decide)
    have t22 := lv_neT (a := 22) hc22 (by decide)
    have t23 := lv_neT (a := 23) hc23 (by decide)
    have t24 := lv_neT (a := 24) hc24 (by decide)
    have t25 := lv_neT (a := 25) hc25 (by decide)
    refine lv_tableOut (tgt := 1881) hx hb dL_law_40 (by omega) (by decide) ?_
    refine W.widen (k := 100 + 4 * k + 4) (n := 20000 + 24 * k + 24) (by omega) (by omega) ?_
    exact tail zc wc zm wm H locs ls (hd k zc wc zm wm hk hI) h hl
