/-! FROM THE ENTRY TO THE LOOP -/
def R_law : String := "KelpShoresLaw"
def lw_P (b : Addr) (xs : List Int32) (args : Array Value) (s : State) : Prop := args = #[.ref b] ∧ s.IntsAt b xs ∧ xs.length ≤ 4608 ∧ (Jvm.Cond.and given_1 narrow_1).before args s = true
def lw_Q (_ : Array Value) (s : State) (o : Outcome) (t : State) : Prop := o = .returned (some (.int 1)) ∧ Framed s o t [] 601024 7293034
def lw_Z (below : List Frame) (a : Array Value) (s : State) : State → Prop := fun t => ∃ o, t.status = .running ∧ Ended t below o ∧ lw_Q a s o t
/-- the law's own end, with 1 on the stack, nothing written that was there before, its room as the claim has it -/
theorem lw_ret {p : Program} {l : Launch} {e : Env} {s : State} {m : MethodId} {below : List Frame} {meth : Method} {c : Code} {b : Nat} (hx : p.tables.exec = Jvm.exec) (hb : c.code = code) (hr : meth.sig.returnType = ret) (hlocks : meth.locks = false) {pc : Nat} {H : Heap} {ls : Array Slot} (hdg : decode code pc = .ok (.ireturn, 1)) : W p l e room_1 s m #[Value.ref b] below meth c H [] 601024 7293034 (lw_Z below #[Value.ref b] s) (F0 m pc ls [.int 1]) := by
  intro T hT X
  obtain ⟨fs, hret, hrun, hended, hW, hframe⟩ := X.leave (v := some (.int 1)) (hlocks := hlocks) (fun h => by rw [hr] at h; cases h)
  have hmeth' : T.vm.method? m = some meth := X.method'
  refine ⟨T.setFrames fs, ?_, .returned (some (.int 1)), hrun, hended, rfl, ⟨_, rfl⟩, hW, hframe⟩
  jvm_step X.here [X.here.top, hx, hb, hdg, hmeth', hr, ret, narrow_b1]
  (try refine ⟨rfl, ?_⟩); (try refine ⟨rfl, ?_⟩)
  first | (intro acts; rw [hret _ acts rfl rfl rfl]) | rw [hret _ _ rfl rfl rfl]
  exact Steps.refl _
/-- what holds at the law's entry: the machine, the code, the tables' words (any of lw_tbl by 'hts w (by decide +kernel)'), the script of L ints xs at the cell b, what the Statement gives of the start (any of its parts by flat_of_before) -/
def lw_At (p : Program) (s : State) (m : MethodId) (meth : Method) (c : Code) (b L : Nat) (xs : Nat → Int32) : Prop :=
  p.tables.exec = Jvm.exec ∧ c.code = code ∧ meth.sig.returnType = ret ∧ c.maxLocals = 7 ∧ s.vm.findClass R_law = some m.cls ∧ (∀ w ∈ lw_tbl, w.before #[Value.ref b] s = true) ∧ va_X b L xs s s.heap ∧ b < s.heap.size ∧ meth.locks = false ∧ (Jvm.Cond.and given_1 narrow_1).before #[Value.ref b] s = true

def lw_first (K : Nat → Nat → Nat → Zt → Vt → Zt → Vt → Prop) : Prop := ∀ x : Nat, wp_X9_init (nZ z00 x 9) x (nV w00 x) (fun zc wc => ∀ mm : Nat, wp_X10_init (nZ z00 mm 10) mm (nV w00 mm) (fun zm wm => ∀ t : Nat, t ∉ zc.2.1 → K x mm t (nZ zc t 3000) (nV wc t) zm wm))
theorem lw_i0 : Cond.instantiable RX0 8 ∈ wsL_law := lw_b1 _ (List.mem_of_getElem? (i := 17) (by decide +kernel))
theorem lw_i1 : Cond.instantiable RX1 6 ∈ wsL_law := lw_b1 _ (List.mem_of_getElem? (i := 14) (by decide +kernel))
theorem lw_i2 : Cond.instantiable RX2 5 ∈ wsL_law := lw_b28 _ (List.mem_of_getElem? (i := 2) (by decide +kernel))
theorem lw_i3 : Cond.instantiable RX3 3 ∈ wsL_law := lw_b26 _ (List.mem_of_getElem? (i := 3) (by decide +kernel))
theorem lw_i4 : Cond.instantiable RX4 7 ∈ wsL_law := lw_b0 _ (List.mem_of_getElem? (i := 18) (by decide +kernel))
theorem lw_i5 : Cond.instantiable RX5 9 ∈ wsL_law := lw_b7 _ (List.mem_of_getElem? (i := 20) (by decide +kernel))
theorem lw_i6 : Cond.instantiable RX6 3 ∈ wsL_law := lw_b6 _ (List.mem_of_getElem? (i := 12) (by decide +kernel))
theorem lw_i7 : Cond.instantiable RX7 6 ∈ wsL_law := lw_b1 _ (List.mem_of_getElem? (i := 10) (by decide +kernel))
theorem lw_i8 : Cond.instantiable RX8 3 ∈ wsL_law := lw_b0 _ (List.mem_of_getElem? (i := 14) (by decide +kernel))
theorem lw_i9 : Cond.instantiable RX9 16 ∈ wsL_law := lw_b0 _ (List.mem_of_getElem? (i := 1) (by decide +kernel))
theorem lw_i10 : Cond.instantiable RX10 53 ∈ wsL_law := lw_b0 _ (List.mem_of_getElem? (i := 4) (by decide +kernel))
theorem lw_wc9 : Cond.classLink RL 8 RX9 ∈ wsL_law := lw_b0 _ (List.mem_of_getElem? (i := 0) (by decide +kernel))
theorem lw_wc10 : Cond.classLink RL 88 RX10 ∈ wsL_law := lw_b0 _ (List.mem_of_getElem? (i := 3) (by decide +kernel))
theorem lw_wn9 : Cond.initialized RX9 ∈ wsL_law := lw_b0 _ (List.mem_of_getElem? (i := 2) (by decide +kernel))
theorem lw_wn10 : Cond.initialized RX10 ∈ wsL_law := lw_b0 _ (List.mem_of_getElem? (i := 5) (by decide +kernel))
theorem lw_wal : Cond.arrayClass .long ∈ wsL_law := lw_b0 _ (List.mem_of_getElem? (i := 6) (by decide +kernel))
theorem lw_wm9 : Cond.methodLink RL 87 yX9_init ∈ wsL_law := lw_b0 _ (List.mem_of_getElem? (i := 7) (by decide +kernel))
theorem lw_wm10 : Cond.methodLink RL 90 yX10_init ∈ wsL_law := lw_b3 _ (List.mem_of_getElem? (i := 6) (by decide +kernel))
theorem lw_wv9 : Cond.instanceMethod yX9_init ∈ wsL_law := lw_b0 _ (List.mem_of_getElem? (i := 8) (by decide +kernel))
theorem lw_wv10 : Cond.instanceMethod yX10_init ∈ wsL_law := lw_b3 _ (List.mem_of_getElem? (i := 7) (by decide +kernel))
theorem lw_cls {s : State} {b : Nat} (hts : ∀ w ∈ wsL_law, w.before #[Value.ref b] s = true) : ∃ D : va_G, ∀ (k : Nat) (q : vw_C), vwCl[k]? = some q → u_Kn s q.1 q.2.1 q.2.2 (D.1 k) (D.2 k) := by
  obtain ⟨c0, i0, h0⟩ := u_known (C := RX0) (T := TX0) (N := 8) (n := 8) hts inlX0 (hts _ lw_i0)
  obtain ⟨c1, i1, h1⟩ := u_known (C := RX1) (T := TX1) (N := 6) (n := 6) hts inlX1 (hts _ lw_i1)
  obtain ⟨c2, i2, h2⟩ := u_known (C := RX2) (T := TX2) (N := 5) (n := 5) hts inlX2 (hts _ lw_i2)
  obtain ⟨c3, i3, h3⟩ := u_known (C := RX3) (T := TX3) (N := 3) (n := 3) hts inlX3 (hts _ lw_i3)
  obtain ⟨c4, i4, h4⟩ := u_known (C := RX4) (T := TX4) (N := 7) (n := 7) hts inlX4 (hts _ lw_i4)
  obtain ⟨c5, i5, h5⟩ := u_known (C := RX5) (T := TX5) (N := 9) (n := 9) hts inlX5 (hts _ lw_i5)
  obtain ⟨c6, i6, h6⟩ := u_known (C := RX6) (T := TX6) (N := 3) (n := 3) hts inlX6 (hts _ lw_i6)
  obtain ⟨c7, i7, h7⟩ := u_known (C := RX7) (T := TX7) (N := 6) (n := 6) hts inlX7 (hts _ lw_i7)
  obtain ⟨c8, i8, h8⟩ := u_known (C := RX8) (T := TX8) (N := 3) (n := 3) hts inlX8 (hts _ lw_i8)
  obtain ⟨c9, i9, h9⟩ := u_known (C := RX9) (T := TX9) (N := 16) (n := 16) hts inlX9 (hts _ lw_i9)
  obtain ⟨c10, i10, h10⟩ := u_known (C := RX10) (T := TX10) (N := 53) (n := 53) hts inlX10 (hts _ lw_i10)
  refine ⟨(fun k => match k with
    | 0 => c0
    | 1 => c1
    | 2 => c2
    | 3 => c3
    | 4 => c4
    | 5 => c5
    | 6 => c6
    | 7 => c7
    | 8 => c8
    | 9 => c9
    | _ => c10, fun k => match k with
    | 0 => i0
    | 1 => i1
    | 2 => i2
    | 3 => i3
    | 4 => i4
    | 5 => i5
    | 6 => i6
    | 7 => i7
    | 8 => i8
    | 9 => i9
    | _ => i10), fun k q hq => ?_⟩
  match k, hq with
  | 0, hq => cases hq; exact h0
  | 1, hq => cases hq; exact h1
  | 2, hq => cases hq; exact h2
  | 3, hq => cases hq; exact h3
  | 4, hq => cases hq; exact h4
  | 5, hq => cases hq; exact h5
  | 6, hq => cases hq; exact h6
  | 7, hq => cases hq; exact h7
  | 8, hq => cases hq; exact h8
  | 9, hq => cases hq; exact h9
  | 10, hq => cases hq; exact h10
  | k + 11, hq => cases hq
set_option maxHeartbeats 8000000 in
set_option maxRecDepth 100000 in
theorem lw_begin {p : Program} {e : Env} {s : State} {m : MethodId} {below : List Frame} {meth : Method} {c : Code} (l : Launch) (hst : l.stackTraces = false) (I : Nat → Nat → Nat → Nat → Zt → Vt → Zt → Vt → Prop) (hfirst : lw_first (fun x mm t => I x mm t 0)) (h0 : ∀ x mm t, ok_0 (I x mm t) x mm t) (h1 : ∀ x mm t, ok_1 (I x mm t) x mm t) (h2 : ∀ x mm t, ok_2 (I x mm t) x mm t) (h3 : ∀ x mm t, ok_3 (I x mm t) x mm t) (h4 : ∀ x mm t, ok_4 (I x mm t) x mm t) (h5 : ∀ x mm t, ok_5 (I x mm t) x mm t) (h6 : ∀ x mm t, ok_6 (I x mm t) x mm t) (h7 : ∀ x mm t, ok_7 (I x mm t) x mm t) (h8 : ∀ x mm t, ok_8 (I x mm t) x mm t) (h9 : ∀ x mm t, ok_9 (I x mm t) x mm t) (h10 : ∀ x mm t, ok_10 (I x mm t) x mm t) (h11 : ∀ x mm t, ok_11 (I x mm t) x mm t) (h12 : ∀ x mm t, ok_12 (I x mm t) x mm t) (h13 : ∀ x mm t, ok_13 (I x mm t) x mm t) (h14 : ∀ x mm t, ok_14 (I x mm t) x mm t) (h15 : ∀ x mm t, ok_15 (I x mm t) x mm t) (h16 : ∀ x mm t, ok_16 (I x mm t) x mm t) (h17 : ∀ x mm t, ok_17 (I x mm t) x mm t) (h18 : ∀ x mm t, ok_18 (I x mm t) x mm t) (h19 : ∀ x mm t, ok_19 (I x mm t) x mm t) (h20 : ∀ x mm t, ok_20 (I x mm t) x mm t) (h21 : ∀ x mm t, ok_21 (I x mm t) x mm t) (h22 : ∀ x mm t, ok_22 (I x mm t) x mm t) (h23 : ∀ x mm t, ok_23 (I x mm t) x mm t) (h24 : ∀ x mm t, ok_24 (I x mm t) x mm t) (h25 : ∀ x mm t, ok_25 (I x mm t) x mm t) (hd : ∀ (x mm t k : Nat) (zc : Zt) (wc : Vt) (zm : Zt) (wm : Vt), k < 512 → I x mm t k zc wc zm wm → I x mm t (k + 1) zc wc zm wm)
    {b L : Nat} {xs : Nat → Int32} (hL : L ≤ 4608) (C0 : lw_At p s m meth c b L xs) : W p l e room_1 s m #[Value.ref b] below meth c s.heap [] 0 0 (lw_Z below #[Value.ref b] s) (entryFrame m ([Value.ref b] : List Value).toArray 7) := by
  obtain ⟨hx, hb, hr, hml, hown, hts0, hX, hbl, hlocks, hgv⟩ := C0
  have hts : ∀ w ∈ wsL_law, w.before #[Value.ref b] s = true := fun w h => hts0 w (wsL_law_in w h)
  have htb : ∀ w ∈ tables_1, w.before #[Value.ref b] s = true := fun w h => hts0 w (List.mem_append_right _ h)
  obtain ⟨D, hD⟩ := lw_cls hts
  obtain ⟨ac, hac⟩ := lw_arr htb
  obtain ⟨ad, adV, hE⟩ := lw_env htb (flat_of_before _ hgv)
  have hA : ∀ q : Nat, s.heap.size ≤ q → (fun q : Nat => s.heap.size ≤ q) q := fun _ h => h
  obtain ⟨G, eG⟩ : ∃ G : Gt, G = (D, ac, ad, adV) := ⟨_, rfl⟩
  have hK : va_K G.1 vwCl (aT G.2.1) s := by rw [eG]; exact ⟨hD, hac⟩
  have hE : gE G (fun q : Nat => s.heap.size ≤ q) s s.heap := by rw [eG]; exact hE
  clear eG hD hac
  have F : lwF p s m c b L xs G := ⟨hx, hb, hml, hown, hts, hX, hbl, hK, hE⟩
  have hl := lv_entry ([.ref b]) (n := 7) (Nat.le_of_ble_eq_true rfl)
  rw [lg_entry_eq]
  generalize (lg_sl ([.ref b]) ++ List.replicate (7 - (lg_sl ([.ref b])).length) Slot.unset).toArray = ls at hl ⊢
  have hl : lv_has ls 7 [(0, .ref b)] := hl
  have h : hpH G.1 G.2.1 (fun q : Nat => s.heap.size ≤ q) s.heap z00 w00 s.heap [] := h2_nil
  refine hp_new (ci := 9) hx hb hts inlX9 tyX9 tyX9_ok hown (hts _ lw_wc9) (hts _ lw_i9) (hts _ lw_wn9) hK h hA (by decide) rfl hfs_9 (Nat.le_of_ble_eq_true rfl) (Nat.le_of_ble_eq_true rfl) dL_law_0 (fun x z w H hqx ez ew h => ?_)
  have hp := hfirst x
  rw [← ez, ← ew] at hp
  refine lv_dup hx hb dL_law_3 rfl ?_
  refine hp_nI ⟨hx, hb, hml, hown, hts⟩ (k_X9_init l G z w _ x _ hp) (cwI 0 hts gL_law_X9_init rfl rfl rfl (hts _ lw_wn9) (hts _ lw_wm9) (hts _ lw_wv9) rfl (by decide +kernel) ⟨Nat.le_of_ble_eq_true rfl, Nat.le_of_ble_eq_true rfl⟩) hK h hA hE rfl hl.1 rfl (Nat.le_of_ble_eq_true rfl) dL_law_4 ⟨Nat.le_of_ble_eq_true rfl, Nat.le_of_ble_eq_true rfl⟩ (fun zc wc H locs hp h => ?_)
  refine lv_astore_n (lv' := [(1, .ref x), (0, .ref b)]) hx hb dL_law_7 rfl hl (by decide) rfl (fun ls hl => ?_)
  have h := h2_one h
  refine h2_new (ci := 10) hx hb hts inlX10 tyX10 tyX10_ok hown (hts _ lw_wc10) (hts _ lw_i10) (hts _ lw_wn10) hK h hA (by decide) rfl hfs_10 (Nat.le_of_ble_eq_true rfl) (Nat.le_of_ble_eq_true rfl) dL_law_8 (fun mm zm wm H hqm ez ew h => ?_)
  have hp := hp mm
  rw [← ez, ← ew] at hp
  refine lv_dup hx hb dL_law_11 rfl ?_
  refine h2_init ⟨hx, hb, hml, hown, hts⟩ (k_X10_init l G zm wm _ mm _ hp) (cwI 0 hts gL_law_X10_init rfl rfl rfl (hts _ lw_wn10) (hts _ lw_wm10) (hts _ lw_wv10) rfl (by decide +kernel) ⟨Nat.le_of_ble_eq_true rfl, Nat.le_of_ble_eq_true rfl⟩) hK h hA hE rfl hl.1 rfl (Nat.le_of_ble_eq_true rfl) dL_law_12 ⟨Nat.le_of_ble_eq_true rfl, Nat.le_of_ble_eq_true rfl⟩ (fun zm wm H locs hp h => ?_)
  refine lv_astore_n (lv' := [(2, .ref mm), (1, .ref x), (0, .ref b)]) hx hb dL_law_15 rfl hl (by decide) rfl (fun ls hl => ?_)
  refine lv_iconst (v := 1) hx hb dL_law_16 (by decide) ?_
  refine h2_newl hx hb (hts _ lw_wal) hK h hA (Nat.le_of_ble_eq_true rfl) (Nat.le_of_ble_eq_true rfl) dL_law_17 (fun t H hqt h => ?_)
  have hp := hp t hqt
  refine lv_astore_n (lv' := [(3, .ref t), (2, .ref mm), (1, .ref x), (0, .ref b)]) hx hb dL_law_19 rfl hl (by decide) rfl (fun ls hl => ?_)
  refine lv_iconst (v := 0) hx hb dL_law_20 (by decide) ?_
  refine lv_istore (lv' := [(4, .int 0), (3, .ref t), (2, .ref mm), (1, .ref x), (0, .ref b)]) hx hb dL_law_21 hl (by decide) rfl (fun ls hl => ?_)
  refine W.widen (k := 100 + 4 * 0) (n := 20000 + 24 * 0) (Nat.le_of_ble_eq_true rfl) (Nat.le_of_ble_eq_true rfl) ?_
  refine lw_loop hst F hL (I x mm t) (h0 x mm t) (h1 x mm t) (h2 x mm t) (h3 x mm t) (h4 x mm t) (h5 x mm t) (h6 x mm t) (h7 x mm t) (h8 x mm t) (h9 x mm t) (h10 x mm t) (h11 x mm t) (h12 x mm t) (h13 x mm t) (h14 x mm t) (h15 x mm t) (h16 x mm t) (h17 x mm t) (h18 x mm t) (h19 x mm t) (h20 x mm t) (h21 x mm t) (h22 x mm t) (h23 x mm t) (h24 x mm t) (h25 x mm t) (hd x mm t) (fun H locs ls cells slots hc hs hq => ?_) (L + 1) 0 _ _ _ _ _ _ _ (by omega) (Nat.zero_le _) hp h (lv_sub hl [4, 3, 2, 1, 0] rfl)
  refine lv_iconst (v := 1) hx hb dL_law_1887 (by decide) ?_
  refine va_forget hq ?_
  refine W.widen (k := 601024) (n := 7293034) hc hs ?_
  exact lw_ret hx hb hr hlocks dL_law_1888
