abbrev rmX6_addRock : Room := { frames := 0, cells := 0, slots := 0, locals := 0 }
theorem ix_X6_addRock_6 : ∀ w ∈ wsX60, w ∈ wsX6_addRock := by decide +kernel
theorem lk_X6_addRock_17 : Cond.fieldLink RX6 17 "KelpShores$Shore" "rockCount" "I" ∈ wsX6_addRock := by decide +kernel
theorem lk_X6_addRock_11 : Cond.fieldLink RX6 11 "KelpShores$Shore" "rocks" "[LKelpShores$Rock;" ∈ wsX6_addRock := by decide +kernel
set_option maxRecDepth 100000 in
def wp_X6_addRock (z : Zt) (o : Nat) (p0 : Nat) (w : Vt) (K : Int32 → Zt → Vt → Prop) : Prop := isO z 6 o ∧ isO z 5 p0 ∧ ∃ b1 : Nat, zR z 600 o = some b1 ∧ isO z 1600 b1 ∧ ((vI w 601 o) < 4 → vp_in (vI w 601 o) 4 ∧ wZ (uO z 1600 b1 (vI w 601 o : Int32).toNatClampNeg (some p0)) (fun z => isO z 6 o ∧ isO z 5 p0 ∧ ∀ w3 : Vt, w3 = uI w 601 o ((vI w 601 o) + 1) → K ((vI w3 601 o) - 1) z w3)) ∧ (¬ (vI w 601 o) < 4 → K (-1) z w)
set_option maxHeartbeats 4000000 in
set_option maxRecDepth 100000 in
theorem k_X6_addRock (l : Launch) (G : Gt) (z : Zt) (w : Vt) (sz : Nat) (o : Nat) (p0 : Nat) (K : Int32 → Zt → Vt → Prop) (hp : wp_X6_addRock z o p0 w K) : NI l yX6_addRock wsX6_addRock rmX6_addRock G z w sz [.ref o, .ref p0] K 0 0 := by
  refine Met.ofW (cc := cX6_addRock) (maxL := 2) (ret := (some .int)) (by decide +kernel) rfl ?_
  intro p e s m args below meth c s₁ B hml hv
  obtain ⟨rfl, rfl, C, h⟩ := hp_start B hml hv
  generalize gA G z w s.heap.size = A at C h ⊢
  obtain ⟨hx, hb, hr, hlocks, hml, hown, hts, hK, hA, hE⟩ := id C
  obtain ⟨ho, hp⟩ := hp
  obtain ⟨hop0, hp⟩ := hp
  have hl := lv_entry ([.ref o, .ref p0]) (n := 2) (Nat.le_of_ble_eq_true rfl)
  rw [lg_entry_eq]
  generalize (lg_sl ([.ref o, .ref p0]) ++ List.replicate (2 - (lg_sl ([.ref o, .ref p0])).length) Slot.unset).toArray = ls at hl ⊢
  have hl : lv_has ls 2 [(0, .ref o), (1, .ref p0)] := hl
  refine lv_aload_n hx hb dX6_addRock_0 rfl (lv_at hl 0 rfl) ?_
  refine hp_get (ci := 6) (v := .int (vI w 601 o)) hx hb hts ix_X6_addRock_6 hown hK h ho (by decide) rfl 1 (by decide) (hts _ lk_X6_addRock_17) (fun _ h9 => h9) rfl dX6_addRock_1 ?_
  refine lv_aload_n hx hb dX6_addRock_4 rfl (lv_at hl 0 rfl) ?_
  obtain ⟨b1, eb1, hob1, hp⟩ := hp
  refine hp_get (ci := 6) (v := .ref b1) hx hb hts ix_X6_addRock_6 hown hK h ho (by decide) rfl 0 (by decide) (hts _ lk_X6_addRock_11) (fun _ h9 => h9) (by show some (va_rf (zR z 600 o)) = some (Value.ref b1); rw [eb1]; rfl) dX6_addRock_5 ?_
  refine hp_alen (t := 1600) (n := 4) hx hb hK h 6 rfl hob1 (by decide) (fun _ _ _ => ⟨_, rfl, rfl⟩) (v := 4) (by decide) dX6_addRock_8 ?_
  refine lv_icmp_lt (tgt := 14) hx hb dX6_addRock_9 (by decide) (fun hc2 => ?_) (fun hc2 => ?_)
  · have hp := hp.1 hc2
    refine lv_aload_n hx hb dX6_addRock_14 rfl (lv_at hl 0 rfl) ?_
    refine hp_get (ci := 6) (v := .ref b1) hx hb hts ix_X6_addRock_6 hown hK h ho (by decide) rfl 0 (by decide) (hts _ lk_X6_addRock_11) (fun _ h9 => h9) (by show some (va_rf (zR z 600 o)) = some (Value.ref b1); rw [eb1]; rfl) dX6_addRock_15 ?_
    refine lv_aload_n hx hb dX6_addRock_18 rfl (lv_at hl 0 rfl) ?_
    refine hp_get (ci := 6) (v := .int (vI w 601 o)) hx hb hts ix_X6_addRock_6 hown hK h ho (by decide) rfl 1 (by decide) (hts _ lk_X6_addRock_17) (fun _ h9 => h9) rfl dX6_addRock_19 ?_
    refine lv_aload_n hx hb dX6_addRock_22 rfl (lv_at hl 1 rfl) ?_
    refine hp_aast (t := 1600) (n := 4) (j := 6) (ci := 5) hx hb hK h rfl hob1 (by decide) (fun _ _ _ => rfl) hop0 (by decide) rfl hp.1 dX6_addRock_23 (fun H locs z ez h => ?_)
    have hp := hp.2 z ez
    obtain ⟨ho, hp⟩ := hp
    obtain ⟨hop0, hp⟩ := hp
    refine lv_aload_n hx hb dX6_addRock_24 rfl (lv_at hl 0 rfl) ?_
    refine lv_dup hx hb dX6_addRock_25 rfl ?_
    refine hp_get (ci := 6) (v := .int (vI w 601 o)) hx hb hts ix_X6_addRock_6 hown hK h ho (by decide) rfl 1 (by decide) (hts _ lk_X6_addRock_17) (fun _ h9 => h9) rfl dX6_addRock_26 ?_
    refine lv_iconst (v := 1) hx hb dX6_addRock_29 (by decide) ?_
    refine lv_iadd hx hb dX6_addRock_30 ?_
    refine hp_puti (ci := 6) (ty := .int) (x := (vI w 601 o) + 1) hx hb hts ix_X6_addRock_6 tyX6 tyX6_ok nmX6 hown hK h ho (by decide) rfl 1 601 (by decide) (hts _ lk_X6_addRock_17) (fun _ h9 => h9) rfl (by decide +kernel) rfl rfl (fun _ _ => rfl) (fun _ _ => Nat.le_of_ble_eq_true rfl) dX6_addRock_31 (fun H locs w3 ew3 h => ?_)
    have hp := hp w3 ew3
    refine lv_aload_n hx hb dX6_addRock_34 rfl (lv_at hl 0 rfl) ?_
    refine hp_get (ci := 6) (v := .int (vI w3 601 o)) hx hb hts ix_X6_addRock_6 hown hK h ho (by decide) rfl 1 (by decide) (hts _ lk_X6_addRock_17) (fun _ h9 => h9) rfl dX6_addRock_35 ?_
    refine lv_iconst (v := 1) hx hb dX6_addRock_38 (by decide) ?_
    refine lv_isub hx hb dX6_addRock_39 ?_
    exact hp_niret hx hb hr hlocks hK h hp dX6_addRock_40 (Nat.le_of_ble_eq_true rfl) (Nat.le_of_ble_eq_true rfl)
  · have hp := hp.2 hc2
    refine lv_iconst (v := (-1)) hx hb dX6_addRock_12 (by decide) ?_
    exact hp_niret hx hb hr hlocks hK h hp dX6_addRock_13 (Nat.le_of_ble_eq_true rfl) (Nat.le_of_ble_eq_true rfl)
abbrev rmX9_shore : Room := { frames := 6, cells := 2, slots := 7, locals := 90 }
theorem ix_X9_shore_9 : ∀ w ∈ wsX90, w ∈ wsX9_shore := by decide +kernel
theorem lk_X9_shore_80 : Cond.fieldLink RX9 80 "KelpShores" "shoreCount" "I" ∈ wsX9_shore := by decide +kernel
theorem lk_X9_shore_32 : Cond.fieldLink RX9 32 "KelpShores" "shores" "[LKelpShores$Shore;" ∈ wsX9_shore := by decide +kernel
theorem ix_X9_shore_6 : ∀ w ∈ wsX60, w ∈ wsX9_shore := by decide +kernel
theorem wd_X9_shore_cl30 : Cond.classLink RX9 30 RX6 ∈ wsX9_shore := by decide +kernel
theorem wd_X9_shore_is6 : Cond.instantiable RX6 3 ∈ wsX9_shore := by decide +kernel
theorem wd_X9_shore_ii6 : Cond.initialized RX6 ∈ wsX9_shore := by decide +kernel
theorem wd_X9_shore_iiX6 : Cond.initialized RX6 ∈ wsX9_shore := by decide +kernel
theorem wd_X9_shore_imX6_init : Cond.instanceMethod yX6_init ∈ wsX9_shore := by decide +kernel
theorem ln_X9_shore_114 {G : Gt} {A : Nat → Prop} {s : State} (hE : gE G A s s.heap) : va_Nw (Cond.methodLinkNest RX9 114 yX6_init "KelpShores") s := hE.2.1 (RX9, 114, yX6_init) (List.mem_of_getElem? (i := 5) rfl)
theorem xm_X9_shore_113 : ∀ w ∈ (vx_atS RX9 113 "java/lang/UnsupportedOperationException" xNs).filter goodWord, w ∈ wsX9_shore := fun _ h => List.mem_cons_of_mem _ (List.mem_append_right _ h)
theorem wd_X9_shore_cl109 : Cond.classLink RX9 109 "java/lang/UnsupportedOperationException" ∈ wsX9_shore := by decide +kernel
theorem wd_X9_shore_in109 : Cond.initialized "java/lang/UnsupportedOperationException" ∈ wsX9_shore := by decide +kernel
set_option maxRecDepth 100000 in
def wp_X9_shore (z : Zt) (o : Nat) (w : Vt) (K : Int32 → Zt → Vt → Prop) (X : Nat → Vt → Prop) : Prop := isO z 9 o ∧ ∃ b1 : Nat, zR z 904 o = some b1 ∧ isO z 1904 b1 ∧ ((vI w 905 o) < 6 → ∀ q3 : Nat, q3 ∉ z.2.1 → wZ (nZ z q3 6) (fun z => ∀ w4 : Vt, w4 = nV w q3 → isO z 9 o ∧ isO z 6 q3 ∧ isO z 1904 b1 ∧ wp_X6_init z q3 w4 (fun z w5 => isO z 9 o ∧ isO z 6 q3 ∧ isO z 1904 b1 ∧ vp_in (vI w 905 o) 6 ∧ wZ (uO z 1904 b1 (vI w 905 o : Int32).toNatClampNeg (some q3)) (fun z => isO z 9 o ∧ ∀ w6 : Vt, w6 = uI w5 905 o ((vI w5 905 o) + 1) → K ((vI w6 905 o) - 1) z w6)))) ∧ (¬ (vI w 905 o) < 6 → X 3 w)
set_option maxHeartbeats 4000000 in
set_option maxRecDepth 100000 in
theorem k_X9_shore (l : Launch) (hst : l.stackTraces = false) (G : Gt) (z : Zt) (w : Vt) (sz : Nat) (o : Nat) (K : Int32 → Zt → Vt → Prop) (X : Nat → Vt → Prop) (hp : wp_X9_shore z o w K X) : YI l yX9_shore wsX9_shore rmX9_shore G z w sz [.ref o] K X 2 7 := by
  refine vx_ofW (cc := cX9_shore) (maxL := 1) (ret := (some .int)) (by decide +kernel) rfl ?_
  intro p e s m args below meth c s₁ B hml htab hv
  obtain ⟨rfl, rfl, C, h⟩ := hp_start B hml hv
  generalize gA G z w s.heap.size = A at C h ⊢
  obtain ⟨hx, hb, hr, hlocks, hml, hown, hts, hK, hA, hE⟩ := id C
  obtain ⟨ho, hp⟩ := hp
  have hl := lv_entry ([.ref o]) (n := 1) (Nat.le_of_ble_eq_true rfl)
  rw [lg_entry_eq]
  generalize (lg_sl ([.ref o]) ++ List.replicate (1 - (lg_sl ([.ref o])).length) Slot.unset).toArray = ls at hl ⊢
  have hl : lv_has ls 1 [(0, .ref o)] := hl
  refine lv_aload_n hx hb dX9_shore_0 rfl (lv_at hl 0 rfl) ?_
  refine hp_get (ci := 9) (v := .int (vI w 905 o)) hx hb hts ix_X9_shore_9 hown hK h ho (by decide) rfl 5 (by decide) (hts _ lk_X9_shore_80) (fun _ h9 => h9) rfl dX9_shore_1 ?_
  refine lv_aload_n hx hb dX9_shore_4 rfl (lv_at hl 0 rfl) ?_
  obtain ⟨b1, eb1, hob1, hp⟩ := hp
  refine hp_get (ci := 9) (v := .ref b1) hx hb hts ix_X9_shore_9 hown hK h ho (by decide) rfl 4 (by decide) (hts _ lk_X9_shore_32) (fun _ h9 => h9) (by show some (va_rf (zR z 904 o)) = some (Value.ref b1); rw [eb1]; rfl) dX9_shore_5 ?_
  refine hp_alen (t := 1904) (n := 6) hx hb hK h 7 rfl hob1 (by decide) (fun _ _ _ => ⟨_, rfl, rfl⟩) (v := 6) (by decide) dX9_shore_8 ?_
  refine lv_icmp_lt (tgt := 22) hx hb dX9_shore_9 (by decide) (fun hc2 => ?_) (fun hc2 => ?_)
  · have hp := hp.1 hc2
    refine lv_aload_n hx hb dX9_shore_22 rfl (lv_at hl 0 rfl) ?_
    refine hp_get (ci := 9) (v := .ref b1) hx hb hts ix_X9_shore_9 hown hK h ho (by decide) rfl 4 (by decide) (hts _ lk_X9_shore_32) (fun _ h9 => h9) (by show some (va_rf (zR z 904 o)) = some (Value.ref b1); rw [eb1]; rfl) dX9_shore_23 ?_
    refine lv_aload_n hx hb dX9_shore_26 rfl (lv_at hl 0 rfl) ?_
    refine hp_get (ci := 9) (v := .int (vI w 905 o)) hx hb hts ix_X9_shore_9 hown hK h ho (by decide) rfl 5 (by decide) (hts _ lk_X9_shore_80) (fun _ h9 => h9) rfl dX9_shore_27 ?_
    refine hp_new (ci := 6) hx hb hts ix_X9_shore_6 tyX6 tyX6_ok hown (hts _ wd_X9_shore_cl30) (hts _ wd_X9_shore_is6) (hts _ wd_X9_shore_ii6) hK h hA (by decide) rfl hfs_6 (Nat.le_of_ble_eq_true rfl) (Nat.le_of_ble_eq_true rfl) dX9_shore_30 (fun q3 z w4 H hqq3 ezq3 ewq3 h => ?_)
    have hp := hp q3 hqq3 z ezq3 w4 ewq3
    obtain ⟨ho, hp⟩ := hp
    obtain ⟨hoq3, hp⟩ := hp
    obtain ⟨hob1, hp⟩ := hp
    refine lv_dup hx hb dX9_shore_33 rfl ?_
    refine hp_nIN ⟨hx, hb, hml, hown, hts⟩ (k_X6_init l G z w4 _ q3 _ hp) ⟨va_cnB 0 hts gX9_shore_X6_init_n114 rfl rfl rfl (ln_X9_shore_114 hE) (hts _ wd_X9_shore_iiX6) (by decide +kernel) ⟨Nat.le_of_ble_eq_true rfl, Nat.le_of_ble_eq_true rfl⟩, rfl, (hts _ wd_X9_shore_imX6_init)⟩ hK h hA hE rfl hl.1 rfl (Nat.le_of_ble_eq_true rfl) dX9_shore_34 ⟨Nat.le_of_ble_eq_true rfl, Nat.le_of_ble_eq_true rfl⟩ (fun z w5 H locs hp h => ?_)
    obtain ⟨ho, hp⟩ := hp
    obtain ⟨hoq3, hp⟩ := hp
    obtain ⟨hob1, hp⟩ := hp
    refine hp_aast (t := 1904) (n := 6) (j := 7) (ci := 6) hx hb hK h rfl hob1 (by decide) (fun _ _ _ => rfl) hoq3 (by decide) rfl hp.1 dX9_shore_37 (fun H locs z ez h => ?_)
    have hp := hp.2 z ez
    obtain ⟨ho, hp⟩ := hp
    refine lv_aload_n hx hb dX9_shore_38 rfl (lv_at hl 0 rfl) ?_
    refine lv_dup hx hb dX9_shore_39 rfl ?_
    refine hp_get (ci := 9) (v := .int (vI w5 905 o)) hx hb hts ix_X9_shore_9 hown hK h ho (by decide) rfl 5 (by decide) (hts _ lk_X9_shore_80) (fun _ h9 => h9) rfl dX9_shore_40 ?_
    refine lv_iconst (v := 1) hx hb dX9_shore_43 (by decide) ?_
    refine lv_iadd hx hb dX9_shore_44 ?_
    refine hp_puti (ci := 9) (ty := .int) (x := (vI w5 905 o) + 1) hx hb hts ix_X9_shore_9 tyX9 tyX9_ok nmX9 hown hK h ho (by decide) rfl 5 905 (by decide) (hts _ lk_X9_shore_80) (fun _ h9 => h9) rfl (by decide +kernel) rfl rfl (fun _ _ => rfl) (fun _ _ => Nat.le_of_ble_eq_true rfl) dX9_shore_45 (fun H locs w6 ew6 h => ?_)
    have hp := hp w6 ew6
    refine lv_aload_n hx hb dX9_shore_48 rfl (lv_at hl 0 rfl) ?_
    refine hp_get (ci := 9) (v := .int (vI w6 905 o)) hx hb hts ix_X9_shore_9 hown hK h ho (by decide) rfl 5 (by decide) (hts _ lk_X9_shore_80) (fun _ h9 => h9) rfl dX9_shore_49 ?_
    refine lv_iconst (v := 1) hx hb dX9_shore_52 (by decide) ?_
    refine lv_isub hx hb dX9_shore_53 ?_
    exact hp_yiret hx hb hr hlocks hK h hp dX9_shore_54 (Nat.le_of_ble_eq_true rfl) (Nat.le_of_ble_eq_true rfl)
  · have hp := hp.2 hc2
    exact hp_throw (text := "there are as many shores as there may be") (j := 6) 3 hx hb hst hown xf_3 (hts _ wd_X9_shore_cl109) (hts _ wd_X9_shore_in109) (List.mem_of_getElem? (i := 0) rfl) (fun w h => hts w (xm_X9_shore_113 w h)) xb_X9_113 xg_X9_113 (List.mem_of_getElem? (i := 2) rfl) hE hK h (by rw [hml]; exact hl.1) dX9_shore_12 dX9_shore_15 dX9_shore_16 dX9_shore_18 dX9_shore_21 htab (Nat.le_of_ble_eq_true rfl) (Nat.le_of_ble_eq_true rfl) (Nat.le_of_ble_eq_true rfl) (Nat.le_of_ble_eq_true rfl) hlocks rfl hp (Nat.le_of_ble_eq_true rfl) (Nat.le_of_ble_eq_true rfl)
abbrev rmX9_rock : Room := { frames := 7, cells := 2, slots := 15, locals := 112 }
theorem xm_X9_rock_94 : ∀ w ∈ (vx_atS RX9 94 "java/lang/IllegalArgumentException" xNs).filter goodWord, w ∈ wsX9_rock := fun _ h => List.mem_cons_of_mem _ (List.mem_append_left _ (List.mem_append_left _ (List.mem_append_right _ h)))
theorem wd_X9_rock_cl90 : Cond.classLink RX9 90 "java/lang/IllegalArgumentException" ∈ wsX9_rock := by decide +kernel
theorem wd_X9_rock_in90 : Cond.initialized "java/lang/IllegalArgumentException" ∈ wsX9_rock := by decide +kernel
theorem ix_X9_rock_6 : ∀ w ∈ wsX60, w ∈ wsX9_rock := by decide +kernel
theorem lk_X9_rock_121 {G : Gt} {A : Nat → Prop} {s : State} {args : Array Value} (hE : gE G A s s.heap) : (Cond.fieldLinkNest RX9 121 "KelpShores$Shore" "rockCount" "I" "KelpShores").before args s = true := by
  have h : va_Nw (Cond.fieldLinkNest RX9 121 "KelpShores$Shore" "rockCount" "I" "KelpShores") s := hE.1 (RX9, 121, "KelpShores$Shore", "rockCount", "I") (List.mem_of_getElem? (i := 18) rfl)
  exact va_Nw.use rfl h
theorem lk_X9_rock_124 {G : Gt} {A : Nat → Prop} {s : State} {args : Array Value} (hE : gE G A s s.heap) : (Cond.fieldLinkNest RX9 124 "KelpShores$Shore" "rocks" "[LKelpShores$Rock;" "KelpShores").before args s = true := by
  have h : va_Nw (Cond.fieldLinkNest RX9 124 "KelpShores$Shore" "rocks" "[LKelpShores$Rock;" "KelpShores") s := hE.1 (RX9, 124, "KelpShores$Shore", "rocks", "[LKelpShores$Rock;") (List.mem_of_getElem? (i := 17) rfl)
  exact va_Nw.use rfl h
theorem ix_X9_rock_5 : ∀ w ∈ wsX50, w ∈ wsX9_rock := by decide +kernel
theorem wd_X9_rock_cl130 : Cond.classLink RX9 130 RX5 ∈ wsX9_rock := by decide +kernel
theorem wd_X9_rock_is5 : Cond.instantiable RX5 9 ∈ wsX9_rock := by decide +kernel
theorem wd_X9_rock_ii5 : Cond.initialized RX5 ∈ wsX9_rock := by decide +kernel
theorem wd_X9_rock_iiX5 : Cond.initialized RX5 ∈ wsX9_rock := by decide +kernel
theorem wd_X9_rock_imX5_init : Cond.instanceMethod yX5_init ∈ wsX9_rock := by decide +kernel
theorem wd_X9_rock_ml132 : Cond.methodLink RX9 132 yX5_init ∈ wsX9_rock := by decide +kernel
theorem xm_X9_rock_113 : ∀ w ∈ (vx_atS RX9 113 "java/lang/UnsupportedOperationException" xNs).filter goodWord, w ∈ wsX9_rock := fun _ h => List.mem_cons_of_mem _ (List.mem_append_left _ (List.mem_append_right _ h))
theorem wd_X9_rock_cl109 : Cond.classLink RX9 109 "java/lang/UnsupportedOperationException" ∈ wsX9_rock := by decide +kernel
theorem wd_X9_rock_in109 : Cond.initialized "java/lang/UnsupportedOperationException" ∈ wsX9_rock := by decide +kernel
set_option maxRecDepth 100000 in
def wp_X9_rock (z : Zt) (o : Nat) (p0 : Int32) (p1 : Int32) (p2 : Int32) (w : Vt) (K : Int32 → Zt → Vt → Prop) (X : Nat → Vt → Prop) : Prop := isO z 9 o ∧ wp_X9_needShore z o p0 w (fun b2 w1 => isO z 6 b2 ∧ wp_X9_isWithin z p1 0 9 w1 (fun r4 w3 => (r4 = 0 → X 2 w3) ∧ (¬ r4 = 0 → wp_X9_isWithin z p2 1 1000 w3 (fun r7 w6 => (¬ r7 = 0 → ∃ b9 : Nat, zR z 600 b2 = some b9 ∧ isO z 1600 b9 ∧ ((vI w6 601 b2) < 4 → ∀ q11 : Nat, q11 ∉ z.2.1 → wZ (nZ z q11 5) (fun z => ∀ w12 : Vt, w12 = nV w6 q11 → isO z 6 b2 ∧ isO z 9 o ∧ isO z 5 q11 ∧ wp_X5_init z q11 p1 p2 w12 (fun z w13 => isO z 6 b2 ∧ isO z 9 o ∧ isO z 5 q11 ∧ wp_X6_addRock z b2 q11 w13 (fun r15 z w14 => isO z 6 b2 ∧ isO z 9 o ∧ K r15 z w14)))) ∧ (¬ (vI w6 601 b2) < 4 → X 3 w6)) ∧ (r7 = 0 → X 2 w6))))) X
set_option maxHeartbeats 4000000 in
set_option maxRecDepth 100000 in
theorem k_X9_rock (l : Launch) (hst : l.stackTraces = false) (G : Gt) (z : Zt) (w : Vt) (sz : Nat) (o : Nat) (p0 : Int32) (p1 : Int32) (p2 : Int32) (K : Int32 → Zt → Vt → Prop) (X : Nat → Vt → Prop) (hp : wp_X9_rock z o p0 p1 p2 w K X) : YI l yX9_rock wsX9_rock rmX9_rock G z w sz [.ref o, .int p0, .int p1, .int p2] K X 2 15 := by
  refine vx_ofW (cc := cX9_rock) (maxL := 5) (ret := (some .int)) (by decide +kernel) rfl ?_
  intro p e s m args below meth c s₁ B hml htab hv
  obtain ⟨rfl, rfl, C, h⟩ := hp_start B hml hv
  generalize gA G z w s.heap.size = A at C h ⊢
  obtain ⟨hx, hb, hr, hlocks, hml, hown, hts, hK, hA, hE⟩ := id C
  obtain ⟨ho, hp⟩ := hp
  have hl := lv_entry ([.ref o, .int p0, .int p1, .int p2]) (n := 5) (Nat.le_of_ble_eq_true rfl)
  rw [lg_entry_eq]
  generalize (lg_sl ([.ref o, .int p0, .int p1, .int p2]) ++ List.replicate (5 - (lg_sl ([.ref o, .int p0, .int p1, .int p2])).length) Slot.unset).toArray = ls at hl ⊢
  have hl : lv_has ls 5 [(0, .ref o), (1, .int p0), (2, .int p1), (3, .int p2)] := hl
  refine lv_aload_n hx hb dX9_rock_0 rfl (lv_at hl 0 rfl) ?_
  refine lv_iload_n hx hb dX9_rock_1 rfl (lv_at hl 1 rfl) ?_
  refine hp_xVr ⟨hx, hb, hml, hown, hts⟩ (k_X9_needShore l hst G z w _ o p0 _ _ hp) (cwV 1 hts gX9_rock_X9_needShore rfl rfl rfl (by decide +kernel) ⟨Nat.le_of_ble_eq_true rfl, Nat.le_of_ble_eq_true rfl⟩) htab hlocks ho (by decide) rfl hK h hA hE rfl hl.1 rfl (Nat.le_of_ble_eq_true rfl) dX9_rock_2 ⟨Nat.le_of_ble_eq_true rfl, Nat.le_of_ble_eq_true rfl⟩ ⟨Nat.le_of_ble_eq_true rfl, Nat.le_of_ble_eq_true rfl⟩ (fun b2 w1 H locs hp h => ?_)
  obtain ⟨hob2, hp⟩ := hp
  refine lv_astore (lv' := [(4, .ref b2), (0, .ref o), (1, .int p0), (2, .int p1), (3, .int p2)]) hx hb dX9_rock_5 hl (by decide) rfl (fun ls hl => ?_)
  refine lv_iload_n hx hb dX9_rock_7 rfl (lv_at hl 3 rfl) ?_
  refine lv_iconst (v := 0) hx hb dX9_rock_8 (by decide) ?_
  refine lv_bipush (v := 9) hx hb dX9_rock_9 (by decide) ?_
  refine hp_cSi ⟨hx, hb, hml, hown, hts⟩ (k_X9_isWithin l G z w1 _ p1 0 9 _ hp) (cwS 3 hts gX9_rock_X9_isWithin rfl rfl rfl (by decide +kernel) ⟨Nat.le_of_ble_eq_true rfl, Nat.le_of_ble_eq_true rfl⟩) hK h hA hE rfl hl.1 rfl (Nat.le_of_ble_eq_true rfl) dX9_rock_11 ⟨Nat.le_of_ble_eq_true rfl, Nat.le_of_ble_eq_true rfl⟩ (fun r4 w3 H locs hp h => ?_)
  refine lv_if_eq (tgt := 28) hx hb dX9_rock_14 (by decide) (fun hc5 => ?_) (fun hc5 => ?_)
  · have hp := hp.1 hc5
    exact hp_throw (text := "no such depth or room") (j := 8) 2 hx hb hst hown xf_2 (hts _ wd_X9_rock_cl90) (hts _ wd_X9_rock_in90) (List.mem_of_getElem? (i := 2) rfl) (fun w h => hts w (xm_X9_rock_94 w h)) xb_X9_94 xg_X9_94 (List.mem_of_getElem? (i := 1) rfl) hE hK h (by rw [hml]; exact hl.1) dX9_rock_28 dX9_rock_31 dX9_rock_32 dX9_rock_34 dX9_rock_37 htab (Nat.le_of_ble_eq_true rfl) (Nat.le_of_ble_eq_true rfl) (Nat.le_of_ble_eq_true rfl) (Nat.le_of_ble_eq_true rfl) hlocks rfl hp (Nat.le_of_ble_eq_true rfl) (Nat.le_of_ble_eq_true rfl)
  · have hp := hp.2 hc5
    refine lv_iload_n hx hb dX9_rock_17 rfl (lv_at hl 4 rfl) ?_
    refine lv_iconst (v := 1) hx hb dX9_rock_18 (by decide) ?_
    refine lv_sipush (v := 1000) hx hb dX9_rock_19 (by decide) ?_
    refine hp_cSi ⟨hx, hb, hml, hown, hts⟩ (k_X9_isWithin l G z w3 _ p2 1 1000 _ hp) (cwS 3 hts gX9_rock_X9_isWithin rfl rfl rfl (by decide +kernel) ⟨Nat.le_of_ble_eq_true rfl, Nat.le_of_ble_eq_true rfl⟩) hK h hA hE rfl hl.1 rfl (Nat.le_of_ble_eq_true rfl) dX9_rock_22 ⟨Nat.le_of_ble_eq_true rfl, Nat.le_of_ble_eq_true rfl⟩ (fun r7 w6 H locs hp h => ?_)
    refine lv_if_ne (tgt := 38) hx hb dX9_rock_25 (by decide) (fun hc8 => ?_) (fun hc8 => ?_)
    · have hp := hp.1 hc8
      refine lv_aload hx hb dX9_rock_38 (lv_at hl 0 rfl) ?_
      refine hp_getN (ci := 6) (v := .int (vI w6 601 b2)) hx hb hts ix_X9_rock_6 hown hK h hob2 (by decide) rfl 1 (by decide) (lk_X9_rock_121 hE) (fun _ h9 => h9) rfl dX9_rock_40 ?_
      refine lv_aload hx hb dX9_rock_43 (lv_at hl 0 rfl) ?_
      obtain ⟨b9, eb9, hob9, hp⟩ := hp
      refine hp_getN (ci := 6) (v := .ref b9) hx hb hts ix_X9_rock_6 hown hK h hob2 (by decide) rfl 0 (by decide) (lk_X9_rock_124 hE) (fun _ h9 => h9) (by show some (va_rf (zR z 600 b2)) = some (Value.ref b9); rw [eb9]; rfl) dX9_rock_45 ?_
      refine hp_alen (t := 1600) (n := 4) hx hb hK h 6 rfl hob9 (by decide) (fun _ _ _ => ⟨_, rfl, rfl⟩) (v := 4) (by decide) dX9_rock_48 ?_
      refine lv_icmp_lt (tgt := 62) hx hb dX9_rock_49 (by decide) (fun hc10 => ?_) (fun hc10 => ?_)
      · have hp := hp.1 hc10
        refine lv_aload hx hb dX9_rock_62 (lv_at hl 0 rfl) ?_
        refine hp_new (ci := 5) hx hb hts ix_X9_rock_5 tyX5 tyX5_ok hown (hts _ wd_X9_rock_cl130) (hts _ wd_X9_rock_is5) (hts _ wd_X9_rock_ii5) hK h hA (by decide) rfl hfs_5 (Nat.le_of_ble_eq_true rfl) (Nat.le_of_ble_eq_true rfl) dX9_rock_64 (fun q11 z w12 H hqq11 ezq11 ewq11 h => ?_)
        have hp := hp q11 hqq11 z ezq11 w12 ewq11
        obtain ⟨hob2, hp⟩ := hp
        obtain ⟨ho, hp⟩ := hp
        obtain ⟨hoq11, hp⟩ := hp
        refine lv_dup hx hb dX9_rock_67 rfl ?_
        refine lv_iload_n hx hb dX9_rock_68 rfl (lv_at hl 3 rfl) ?_
        refine lv_iload_n hx hb dX9_rock_69 rfl (lv_at hl 4 rfl) ?_
        refine hp_nI ⟨hx, hb, hml, hown, hts⟩ (k_X5_init l G z w12 _ q11 p1 p2 _ hp) (cwI 2 hts gX9_rock_X5_init rfl rfl rfl (hts _ wd_X9_rock_iiX5) (hts _ wd_X9_rock_ml132) (hts _ wd_X9_rock_imX5_init) rfl (by decide +kernel) ⟨Nat.le_of_ble_eq_true rfl, Nat.le_of_ble_eq_true rfl⟩) hK h hA hE rfl hl.1 rfl (Nat.le_of_ble_eq_true rfl) dX9_rock_70 ⟨Nat.le_of_ble_eq_true rfl, Nat.le_of_ble_eq_true rfl⟩ (fun z w13 H locs hp h => ?_)
        obtain ⟨hob2, hp⟩ := hp
        obtain ⟨ho, hp⟩ := hp
        obtain ⟨hoq11, hp⟩ := hp
        refine hp_nVi ⟨hx, hb, hml, hown, hts⟩ (k_X6_addRock l G z w13 _ b2 q11 _ hp) (cwV 1 hts gX9_rock_X6_addRock rfl rfl rfl (by decide +kernel) ⟨Nat.le_of_ble_eq_true rfl, Nat.le_of_ble_eq_true rfl⟩) hob2 (by decide) rfl hK h hA hE rfl hl.1 rfl (Nat.le_of_ble_eq_true rfl) dX9_rock_73 ⟨Nat.le_of_ble_eq_true rfl, Nat.le_of_ble_eq_true rfl⟩ (fun r15 z w14 H locs hp h => ?_)
        obtain ⟨hob2, hp⟩ := hp
        obtain ⟨ho, hp⟩ := hp
        exact hp_yiret hx hb hr hlocks hK h hp dX9_rock_76 (Nat.le_of_ble_eq_true rfl) (Nat.le_of_ble_eq_true rfl)
      · have hp := hp.2 hc10
        exact hp_throw (text := "the shore has as many rocks as it may have") (j := 9) 3 hx hb hst hown xf_3 (hts _ wd_X9_rock_cl109) (hts _ wd_X9_rock_in109) (List.mem_of_getElem? (i := 3) rfl) (fun w h => hts w (xm_X9_rock_113 w h)) xb_X9_113 xg_X9_113 (List.mem_of_getElem? (i := 2) rfl) hE hK h (by rw [hml]; exact hl.1) dX9_rock_52 dX9_rock_55 dX9_rock_56 dX9_rock_58 dX9_rock_61 htab (Nat.le_of_ble_eq_true rfl) (Nat.le_of_ble_eq_true rfl) (Nat.le_of_ble_eq_true rfl) (Nat.le_of_ble_eq_true rfl) hlocks rfl hp (Nat.le_of_ble_eq_true rfl) (Nat.le_of_ble_eq_true rfl)
    · have hp := hp.2 hc8
      exact hp_throw (text := "no such depth or room") (j := 8) 2 hx hb hst hown xf_2 (hts _ wd_X9_rock_cl90) (hts _ wd_X9_rock_in90) (List.mem_of_getElem? (i := 2) rfl) (fun w h => hts w (xm_X9_rock_94 w h)) xb_X9_94 xg_X9_94 (List.mem_of_getElem? (i := 1) rfl) hE hK h (by rw [hml]; exact hl.1) dX9_rock_28 dX9_rock_31 dX9_rock_32 dX9_rock_34 dX9_rock_37 htab (Nat.le_of_ble_eq_true rfl) (Nat.le_of_ble_eq_true rfl) (Nat.le_of_ble_eq_true rfl) (Nat.le_of_ble_eq_true rfl) hlocks rfl hp (Nat.le_of_ble_eq_true rfl) (Nat.le_of_ble_eq_true rfl)
abbrev rmX9_pit : Room := { frames := 7, cells := 2, slots := 12, locals := 112 }
theorem ix_X9_pit_9 : ∀ w ∈ wsX90, w ∈ wsX9_pit := by decide +kernel
theorem lk_X9_pit_246 : Cond.fieldLink RX9 246 "KelpShores" "pitCount" "I" ∈ wsX9_pit := by decide +kernel
theorem lk_X9_pit_44 : Cond.fieldLink RX9 44 "KelpShores" "pits" "[LKelpShores$Pit;" ∈ wsX9_pit := by decide +kernel
theorem ix_X9_pit_3 : ∀ w ∈ wsX30, w ∈ wsX9_pit := by decide +kernel
theorem wd_X9_pit_cl42 : Cond.classLink RX9 42 RX3 ∈ wsX9_pit := by decide +kernel
theorem wd_X9_pit_is3 : Cond.instantiable RX3 3 ∈ wsX9_pit := by decide +kernel
theorem wd_X9_pit_ii3 : Cond.initialized RX3 ∈ wsX9_pit := by decide +kernel
theorem wd_X9_pit_iiX3 : Cond.initialized RX3 ∈ wsX9_pit := by decide +kernel
theorem wd_X9_pit_imX3_init : Cond.instanceMethod yX3_init ∈ wsX9_pit := by decide +kernel
theorem wd_X9_pit_ml251 : Cond.methodLink RX9 251 yX3_init ∈ wsX9_pit := by decide +kernel
theorem xm_X9_pit_113 : ∀ w ∈ (vx_atS RX9 113 "java/lang/UnsupportedOperationException" xNs).filter goodWord, w ∈ wsX9_pit := fun _ h => List.mem_cons_of_mem _ (List.mem_append_left _ (List.mem_append_right _ h))
theorem wd_X9_pit_cl109 : Cond.classLink RX9 109 "java/lang/UnsupportedOperationException" ∈ wsX9_pit := by decide +kernel
theorem wd_X9_pit_in109 : Cond.initialized "java/lang/UnsupportedOperationException" ∈ wsX9_pit := by decide +kernel
set_option maxRecDepth 100000 in
def wp_X9_pit (z : Zt) (o : Nat) (p0 : Int32) (w : Vt) (K : Int32 → Zt → Vt → Prop) (X : Nat → Vt → Prop) : Prop := isO z 9 o ∧ wp_X9_needFamily z o p0 w (fun b2 w1 => isO z 0 b2 ∧ ∃ b3 : Nat, zR z 907 o = some b3 ∧ isO z 1907 b3 ∧ ((vI w1 908 o) < 12 → ∀ q5 : Nat, q5 ∉ z.2.1 → wZ (nZ z q5 3) (fun z => ∀ w6 : Vt, w6 = nV w1 q5 → isO z 0 b2 ∧ isO z 9 o ∧ isO z 3 q5 ∧ isO z 1907 b3 ∧ wp_X3_init z q5 b2 w6 (fun z w7 => isO z 0 b2 ∧ isO z 9 o ∧ isO z 3 q5 ∧ isO z 1907 b3 ∧ vp_in (vI w1 908 o) 12 ∧ wZ (uO z 1907 b3 (vI w1 908 o : Int32).toNatClampNeg (some q5)) (fun z => isO z 0 b2 ∧ isO z 9 o ∧ ∀ w8 : Vt, w8 = uI w7 908 o ((vI w7 908 o) + 1) → K ((vI w8 908 o) - 1) z w8)))) ∧ (¬ (vI w1 908 o) < 12 → X 3 w1)) X
set_option maxHeartbeats 4000000 in
set_option maxRecDepth 100000 in
theorem k_X9_pit (l : Launch) (hst : l.stackTraces = false) (G : Gt) (z : Zt) (w : Vt) (sz : Nat) (o : Nat) (p0 : Int32) (K : Int32 → Zt → Vt → Prop) (X : Nat → Vt → Prop) (hp : wp_X9_pit z o p0 w K X) : YI l yX9_pit wsX9_pit rmX9_pit G z w sz [.ref o, .int p0] K X 2 12 := by
  refine vx_ofW (cc := cX9_pit) (maxL := 3) (ret := (some .int)) (by decide +kernel) rfl ?_
  intro p e s m args below meth c s₁ B hml htab hv
  obtain ⟨rfl, rfl, C, h⟩ := hp_start B hml hv
  generalize gA G z w s.heap.size = A at C h ⊢
  obtain ⟨hx, hb, hr, hlocks, hml, hown, hts, hK, hA, hE⟩ := id C
  obtain ⟨ho, hp⟩ := hp
  have hl := lv_entry ([.ref o, .int p0]) (n := 3) (Nat.le_of_ble_eq_true rfl)
  rw [lg_entry_eq]
  generalize (lg_sl ([.ref o, .int p0]) ++ List.replicate (3 - (lg_sl ([.ref o, .int p0])).length) Slot.unset).toArray = ls at hl ⊢
  have hl : lv_has ls 3 [(0, .ref o), (1, .int p0)] := hl
  refine lv_aload_n hx hb dX9_pit_0 rfl (lv_at hl 0 rfl) ?_
  refine lv_iload_n hx hb dX9_pit_1 rfl (lv_at hl 1 rfl) ?_
  refine hp_xVr ⟨hx, hb, hml, hown, hts⟩ (k_X9_needFamily l hst G z w _ o p0 _ _ hp) (cwV 1 hts gX9_pit_X9_needFamily rfl rfl rfl (by decide +kernel) ⟨Nat.le_of_ble_eq_true rfl, Nat.le_of_ble_eq_true rfl⟩) htab hlocks ho (by decide) rfl hK h hA hE rfl hl.1 rfl (Nat.le_of_ble_eq_true rfl) dX9_pit_2 ⟨Nat.le_of_ble_eq_true rfl, Nat.le_of_ble_eq_true rfl⟩ ⟨Nat.le_of_ble_eq_true rfl, Nat.le_of_ble_eq_true rfl⟩ (fun b2 w1 H locs hp h => ?_)
  obtain ⟨hob2, hp⟩ := hp
  refine lv_astore_n (lv' := [(2, .ref b2), (0, .ref o), (1, .int p0)]) hx hb dX9_pit_5 rfl hl (by decide) rfl (fun ls hl => ?_)
  refine lv_aload_n hx hb dX9_pit_6 rfl (lv_at hl 1 rfl) ?_
  refine hp_get (ci := 9) (v := .int (vI w1 908 o)) hx hb hts ix_X9_pit_9 hown hK h ho (by decide) rfl 8 (by decide) (hts _ lk_X9_pit_246) (fun _ h9 => h9) rfl dX9_pit_7 ?_
  refine lv_aload_n hx hb dX9_pit_10 rfl (lv_at hl 1 rfl) ?_
  obtain ⟨b3, eb3, hob3, hp⟩ := hp
  refine hp_get (ci := 9) (v := .ref b3) hx hb hts ix_X9_pit_9 hown hK h ho (by decide) rfl 7 (by decide) (hts _ lk_X9_pit_44) (fun _ h9 => h9) (by show some (va_rf (zR z 907 o)) = some (Value.ref b3); rw [eb3]; rfl) dX9_pit_11 ?_
  refine hp_alen (t := 1907) (n := 12) hx hb hK h 5 rfl hob3 (by decide) (fun _ _ _ => ⟨_, rfl, rfl⟩) (v := 12) (by decide) dX9_pit_14 ?_
  refine lv_icmp_lt (tgt := 28) hx hb dX9_pit_15 (by decide) (fun hc4 => ?_) (fun hc4 => ?_)
  · have hp := hp.1 hc4
    refine lv_aload_n hx hb dX9_pit_28 rfl (lv_at hl 1 rfl) ?_
    refine hp_get (ci := 9) (v := .ref b3) hx hb hts ix_X9_pit_9 hown hK h ho (by decide) rfl 7 (by decide) (hts _ lk_X9_pit_44) (fun _ h9 => h9) (by show some (va_rf (zR z 907 o)) = some (Value.ref b3); rw [eb3]; rfl) dX9_pit_29 ?_
    refine lv_aload_n hx hb dX9_pit_32 rfl (lv_at hl 1 rfl) ?_
    refine hp_get (ci := 9) (v := .int (vI w1 908 o)) hx hb hts ix_X9_pit_9 hown hK h ho (by decide) rfl 8 (by decide) (hts _ lk_X9_pit_246) (fun _ h9 => h9) rfl dX9_pit_33 ?_
    refine hp_new (ci := 3) hx hb hts ix_X9_pit_3 tyX3 tyX3_ok hown (hts _ wd_X9_pit_cl42) (hts _ wd_X9_pit_is3) (hts _ wd_X9_pit_ii3) hK h hA (by decide) rfl hfs_3 (Nat.le_of_ble_eq_true rfl) (Nat.le_of_ble_eq_true rfl) dX9_pit_36 (fun q5 z w6 H hqq5 ezq5 ewq5 h => ?_)
    have hp := hp q5 hqq5 z ezq5 w6 ewq5
    obtain ⟨hob2, hp⟩ := hp
    obtain ⟨ho, hp⟩ := hp
    obtain ⟨hoq5, hp⟩ := hp
    obtain ⟨hob3, hp⟩ := hp
    refine lv_dup hx hb dX9_pit_39 rfl ?_
    refine lv_aload_n hx hb dX9_pit_40 rfl (lv_at hl 0 rfl) ?_
    refine hp_nI ⟨hx, hb, hml, hown, hts⟩ (k_X3_init l G z w6 _ q5 b2 _ hp) (cwI 1 hts gX9_pit_X3_init rfl rfl rfl (hts _ wd_X9_pit_iiX3) (hts _ wd_X9_pit_ml251) (hts _ wd_X9_pit_imX3_init) rfl (by decide +kernel) ⟨Nat.le_of_ble_eq_true rfl, Nat.le_of_ble_eq_true rfl⟩) hK h hA hE rfl hl.1 rfl (Nat.le_of_ble_eq_true rfl) dX9_pit_41 ⟨Nat.le_of_ble_eq_true rfl, Nat.le_of_ble_eq_true rfl⟩ (fun z w7 H locs hp h => ?_)
    obtain ⟨hob2, hp⟩ := hp
    obtain ⟨ho, hp⟩ := hp
    obtain ⟨hoq5, hp⟩ := hp
    obtain ⟨hob3, hp⟩ := hp
    refine hp_aast (t := 1907) (n := 12) (j := 5) (ci := 3) hx hb hK h rfl hob3 (by decide) (fun _ _ _ => rfl) hoq5 (by decide) rfl hp.1 dX9_pit_44 (fun H locs z ez h => ?_)
    have hp := hp.2 z ez
    obtain ⟨hob2, hp⟩ := hp
    obtain ⟨ho, hp⟩ := hp
    refine lv_aload_n hx hb dX9_pit_45 rfl (lv_at hl 1 rfl) ?_
    refine lv_dup hx hb dX9_pit_46 rfl ?_
    refine hp_get (ci := 9) (v := .int (vI w7 908 o)) hx hb hts ix_X9_pit_9 hown hK h ho (by decide) rfl 8 (by decide) (hts _ lk_X9_pit_246) (fun _ h9 => h9) rfl dX9_pit_47 ?_
    refine lv_iconst (v := 1) hx hb dX9_pit_50 (by decide) ?_
    refine lv_iadd hx hb dX9_pit_51 ?_
    refine hp_puti (ci := 9) (ty := .int) (x := (vI w7 908 o) + 1) hx hb hts ix_X9_pit_9 tyX9 tyX9_ok nmX9 hown hK h ho (by decide) rfl 8 908 (by decide) (hts _ lk_X9_pit_246) (fun _ h9 => h9) rfl (by decide +kernel) rfl rfl (fun _ _ => rfl) (fun _ _ => Nat.le_of_ble_eq_true rfl) dX9_pit_52 (fun H locs w8 ew8 h => ?_)
    have hp := hp w8 ew8
    refine lv_aload_n hx hb dX9_pit_55 rfl (lv_at hl 1 rfl) ?_
    refine hp_get (ci := 9) (v := .int (vI w8 908 o)) hx hb hts ix_X9_pit_9 hown hK h ho (by decide) rfl 8 (by decide) (hts _ lk_X9_pit_246) (fun _ h9 => h9) rfl dX9_pit_56 ?_
    refine lv_iconst (v := 1) hx hb dX9_pit_59 (by decide) ?_
    refine lv_isub hx hb dX9_pit_60 ?_
    exact hp_yiret hx hb hr hlocks hK h hp dX9_pit_61 (Nat.le_of_ble_eq_true rfl) (Nat.le_of_ble_eq_true rfl)
  · have hp := hp.2 hc4
    exact hp_throw (text := "there are as many pits as there may be") (j := 19) 3 hx hb hst hown xf_3 (hts _ wd_X9_pit_cl109) (hts _ wd_X9_pit_in109) (List.mem_of_getElem? (i := 19) rfl) (fun w h => hts w (xm_X9_pit_113 w h)) xb_X9_113 xg_X9_113 (List.mem_of_getElem? (i := 2) rfl) hE hK h (by rw [hml]; exact hl.1) dX9_pit_18 dX9_pit_21 dX9_pit_22 dX9_pit_24 dX9_pit_27 htab (Nat.le_of_ble_eq_true rfl) (Nat.le_of_ble_eq_true rfl) (Nat.le_of_ble_eq_true rfl) (Nat.le_of_ble_eq_true rfl) hlocks rfl hp (Nat.le_of_ble_eq_true rfl) (Nat.le_of_ble_eq_true rfl)
abbrev rmX9_sell : Room := { frames := 7, cells := 4, slots := 23, locals := 113 }
theorem ix_X9_sell_9 : ∀ w ∈ wsX90, w ∈ wsX9_sell := by decide +kernel
theorem lk_X9_sell_54 : Cond.fieldLink RX9 54 "KelpShores" "tests" "[I" ∈ wsX9_sell := by decide +kernel
theorem ix_X9_sell_0 : ∀ w ∈ wsX00, w ∈ wsX9_sell := by decide +kernel
theorem lk_X9_sell_177 {G : Gt} {A : Nat → Prop} {s : State} {args : Array Value} (hE : gE G A s s.heap) : (Cond.fieldLinkNest RX9 177 "KelpShores$Family" "ash" "I" "KelpShores").before args s = true := by
  have h : va_Nw (Cond.fieldLinkNest RX9 177 "KelpShores$Family" "ash" "I" "KelpShores") s := hE.1 (RX9, 177, "KelpShores$Family", "ash", "I") (List.mem_of_getElem? (i := 13) rfl)
  exact va_Nw.use rfl h
theorem lk_X9_sell_273 : Cond.fieldLink RX9 273 "KelpShores" "lotCount" "I" ∈ wsX9_sell := by decide +kernel
theorem lk_X9_sell_50 : Cond.fieldLink RX9 50 "KelpShores" "lots" "[LKelpShores$Lot;" ∈ wsX9_sell := by decide +kernel
theorem lk_X9_sell_61 : Cond.fieldLink RX9 61 "KelpShores" "store" "LKelpShores$Store;" ∈ wsX9_sell := by decide +kernel
theorem lk_X9_sell_202 : Cond.fieldLink RX9 202 "KelpShores" "today" "I" ∈ wsX9_sell := by decide +kernel
theorem ix_X9_sell_2 : ∀ w ∈ wsX20, w ∈ wsX9_sell := by decide +kernel
theorem wd_X9_sell_cl48 : Cond.classLink RX9 48 RX2 ∈ wsX9_sell := by decide +kernel
theorem wd_X9_sell_is2 : Cond.instantiable RX2 5 ∈ wsX9_sell := by decide +kernel
theorem wd_X9_sell_ii2 : Cond.initialized RX2 ∈ wsX9_sell := by decide +kernel
theorem wd_X9_sell_iiX2 : Cond.initialized RX2 ∈ wsX9_sell := by decide +kernel
theorem wd_X9_sell_imX2_init : Cond.instanceMethod yX2_init ∈ wsX9_sell := by decide +kernel
theorem wd_X9_sell_ml287 : Cond.methodLink RX9 287 yX2_init ∈ wsX9_sell := by decide +kernel
set_option maxRecDepth 100000 in
def wp_X9_sell (z : Zt) (o : Nat) (p0 : Int32) (p1 : Int32) (p2 : Int32) (p3 : Int32) (p4 : Int32) (p5 : Int32) (p6 : Int32) (p7 : Int32) (w : Vt) (K : Int32 → Zt → Vt → Prop) (X : Nat → Vt → Prop) : Prop := isO z 9 o ∧ wp_X9_needFamily z o p0 w (fun b2 w1 => isO z 0 b2 ∧ wp_X9_needAmount z p1 w1 (fun w3 => ∃ b5 : Nat, zR z 911 o = some b5 ∧ isO z 1911 b5 ∧ vp_in 0 5 ∧ ∀ w6 : Vt, w6 = uA w3 1911 b5 (0 : Int32).toNatClampNeg p3 → vp_in 1 5 ∧ ∀ w7 : Vt, w7 = uA w6 1911 b5 (1 : Int32).toNatClampNeg p4 → vp_in 2 5 ∧ ∀ w8 : Vt, w8 = uA w7 1911 b5 (2 : Int32).toNatClampNeg p5 → vp_in 3 5 ∧ ∀ w9 : Vt, w9 = uA w8 1911 b5 (3 : Int32).toNatClampNeg p6 → vp_in 4 5 ∧ ∀ w10 : Vt, w10 = uA w9 1911 b5 (4 : Int32).toNatClampNeg p7 → wp_X9_needTests z o p2 w10 (fun w11 => ((vI w11 5 b2) < p1 → K (-1) z w11) ∧ (¬ (vI w11 5 b2) < p1 → ∃ b14 : Nat, zR z 909 o = some b14 ∧ isO z 1909 b14 ∧ (60 ≤ (vI w11 910 o) → K (-1) z w11) ∧ (¬ 60 ≤ (vI w11 910 o) → ∃ b16 : Nat, zR z 912 o = some b16 ∧ isO z 7 b16 ∧ wp_X7_isFull z b16 w11 (fun r18 w17 => (r18 = 0 → wp_X9_sortTests z o p2 w17 (fun w20 => vp_in (p2 - 1) 5 ∧ vp_in 0 5 ∧ ∃ J22 : Int32 → Vt → Prop, (∀ (x23 : Int32) (w24 : Vt), J22 x23 w24 → ∃ J26 : Int32 → Vt → Prop, (∀ (x27 : Int32) (w28 : Vt), J26 x27 w28 → wp_X7_addEntry z b16 p0 (p1 * x27) (vI w28 914 o) (vI w28 914 o) w28 (fun r31 w30 => ∀ w32 : Vt, w32 = uI w30 5 b2 ((vI w30 5 b2) - p1) → ∀ q33 : Nat, q33 ∉ z.2.1 → wZ (nZ z q33 2) (fun z => ∀ w34 : Vt, w34 = nV w32 q33 → isO z 0 b2 ∧ isO z 9 o ∧ isO z 2 q33 ∧ isO z 1909 b14 ∧ wp_X2_init z q33 p0 p1 x27 x23 r31 w34 (fun z w35 => isO z 0 b2 ∧ isO z 9 o ∧ isO z 2 q33 ∧ isO z 1909 b14 ∧ vp_in (vI w32 910 o) 60 ∧ wZ (uO z 1909 b14 (vI w32 910 o : Int32).toNatClampNeg (some q33)) (fun z => isO z 0 b2 ∧ isO z 9 o ∧ ∀ w36 : Vt, w36 = uI w35 910 o ((vI w35 910 o) + 1) → K ((vI w36 910 o) - 1) z w36))))) ∧ (x23 = 0 → vp_in ((p2 - 1) / 2) 5 ∧ J26 (vA w24 1911 b5 ((p2 - 1) / 2 : Int32).toNatClampNeg) w24) ∧ (¬ x23 = 0 → vp_in 0 5 ∧ J26 (vA w24 1911 b5 (0 : Int32).toNatClampNeg) w24)) ∧ (((vA w20 1911 b5 (p2 - 1 : Int32).toNatClampNeg) - (vA w20 1911 b5 (0 : Int32).toNatClampNeg)) ≤ 20 → J22 0 w20) ∧ (¬ ((vA w20 1911 b5 (p2 - 1 : Int32).toNatClampNeg) - (vA w20 1911 b5 (0 : Int32).toNatClampNeg)) ≤ 20 → J22 1 w20))) ∧ (¬ r18 = 0 → K (-1) z w17))))) X) X) X
set_option maxHeartbeats 4000000 in
set_option maxRecDepth 100000 in
theorem k_X9_sell (l : Launch) (hst : l.stackTraces = false) (G : Gt) (z : Zt) (w : Vt) (sz : Nat) (o : Nat) (p0 : Int32) (p1 : Int32) (p2 : Int32) (p3 : Int32) (p4 : Int32) (p5 : Int32) (p6 : Int32) (p7 : Int32) (K : Int32 → Zt → Vt → Prop) (X : Nat → Vt → Prop) (hp : wp_X9_sell z o p0 p1 p2 p3 p4 p5 p6 p7 w K X) : YI l yX9_sell wsX9_sell rmX9_sell G z w sz [.ref o, .int p0, .int p1, .int p2, .int p3, .int p4, .int p5, .int p6, .int p7] K X 4 23 := by
  refine vx_ofW (cc := cX9_sell) (maxL := 13) (ret := (some .int)) (by decide +kernel) rfl ?_
  intro p e s m args below meth c s₁ B hml htab hv
  obtain ⟨rfl, rfl, C, h⟩ := hp_start B hml hv
  generalize gA G z w s.heap.size = A at C h ⊢
  obtain ⟨hx, hb, hr, hlocks, hml, hown, hts, hK, hA, hE⟩ := id C
  obtain ⟨ho, hp⟩ := hp
  have hl := lv_entry ([.ref o, .int p0, .int p1, .int p2, .int p3, .int p4, .int p5, .int p6, .int p7]) (n := 13) (Nat.le_of_ble_eq_true rfl)
  rw [lg_entry_eq]
  generalize (lg_sl ([.ref o, .int p0, .int p1, .int p2, .int p3, .int p4, .int p5, .int p6, .int p7]) ++ List.replicate (13 - (lg_sl ([.ref o, .int p0, .int p1, .int p2, .int p3, .int p4, .int p5, .int p6, .int p7])).length) Slot.unset).toArray = ls at hl ⊢
  have hl : lv_has ls 13 [(0, .ref o), (1, .int p0), (2, .int p1), (3, .int p2), (4, .int p3), (5, .int p4), (6, .int p5), (7, .int p6), (8, .int p7)] := hl
  refine lv_aload_n hx hb dX9_sell_0 rfl (lv_at hl 0 rfl) ?_
  refine lv_iload_n hx hb dX9_sell_1 rfl (lv_at hl 1 rfl) ?_
  refine hp_xVr ⟨hx, hb, hml, hown, hts⟩ (k_X9_needFamily l hst G z w _ o p0 _ _ hp) (cwV 1 hts gX9_sell_X9_needFamily rfl rfl rfl (by decide +kernel) ⟨Nat.le_of_ble_eq_true rfl, Nat.le_of_ble_eq_true rfl⟩) htab hlocks ho (by decide) rfl hK h hA hE rfl hl.1 rfl (Nat.le_of_ble_eq_true rfl) dX9_sell_2 ⟨Nat.le_of_ble_eq_true rfl, Nat.le_of_ble_eq_true rfl⟩ ⟨Nat.le_of_ble_eq_true rfl, Nat.le_of_ble_eq_true rfl⟩ (fun b2 w1 H locs hp h => ?_)
  obtain ⟨hob2, hp⟩ := hp
  refine lv_astore (lv' := [(9, .ref b2), (0, .ref o), (1, .int p0), (2, .int p1), (3, .int p2), (4, .int p3), (5, .int p4), (6, .int p5), (7, .int p6), (8, .int p7)]) hx hb dX9_sell_5 hl (by decide) rfl (fun ls hl => ?_)
  refine lv_iload_n hx hb dX9_sell_7 rfl (lv_at hl 3 rfl) ?_
  refine hp_xSv ⟨hx, hb, hml, hown, hts⟩ (k_X9_needAmount l hst G z w1 _ p1 _ _ hp) (cwS 1 hts gX9_sell_X9_needAmount rfl rfl rfl (by decide +kernel) ⟨Nat.le_of_ble_eq_true rfl, Nat.le_of_ble_eq_true rfl⟩) htab hlocks hK h hA hE rfl hl.1 rfl (Nat.le_of_ble_eq_true rfl) dX9_sell_8 ⟨Nat.le_of_ble_eq_true rfl, Nat.le_of_ble_eq_true rfl⟩ ⟨Nat.le_of_ble_eq_true rfl, Nat.le_of_ble_eq_true rfl⟩ (fun w3 H locs hp h => ?_)
  refine lv_aload_n hx hb dX9_sell_11 rfl (lv_at hl 1 rfl) ?_
  obtain ⟨b5, eb5, hob5, hp⟩ := hp
  refine hp_get (ci := 9) (v := .ref b5) hx hb hts ix_X9_sell_9 hown hK h ho (by decide) rfl 11 (by decide) (hts _ lk_X9_sell_54) (fun _ h9 => h9) (by show some (va_rf (zR z 911 o)) = some (Value.ref b5); rw [eb5]; rfl) dX9_sell_12 ?_
  refine lv_iconst (v := 0) hx hb dX9_sell_15 (by decide) ?_
  refine lv_iload hx hb dX9_sell_16 (lv_at hl 5 rfl) ?_
  refine hp_iast (t := 1911) (n := 5) hx hb hK h hob5 (by decide) (fun _ _ _ => rfl) hp.1 dX9_sell_18 (fun H locs w6 ew6 h => ?_)
  have hp := hp.2 w6 ew6
  refine lv_aload_n hx hb dX9_sell_19 rfl (lv_at hl 1 rfl) ?_
  refine hp_get (ci := 9) (v := .ref b5) hx hb hts ix_X9_sell_9 hown hK h ho (by decide) rfl 11 (by decide) (hts _ lk_X9_sell_54) (fun _ h9 => h9) (by show some (va_rf (zR z 911 o)) = some (Value.ref b5); rw [eb5]; rfl) dX9_sell_20 ?_
  refine lv_iconst (v := 1) hx hb dX9_sell_23 (by decide) ?_
  refine lv_iload hx hb dX9_sell_24 (lv_at hl 6 rfl) ?_
  refine hp_iast (t := 1911) (n := 5) hx hb hK h hob5 (by decide) (fun _ _ _ => rfl) hp.1 dX9_sell_26 (fun H locs w7 ew7 h => ?_)
  have hp := hp.2 w7 ew7
  refine lv_aload_n hx hb dX9_sell_27 rfl (lv_at hl 1 rfl) ?_
  refine hp_get (ci := 9) (v := .ref b5) hx hb hts ix_X9_sell_9 hown hK h ho (by decide) rfl 11 (by decide) (hts _ lk_X9_sell_54) (fun _ h9 => h9) (by show some (va_rf (zR z 911 o)) = some (Value.ref b5); rw [eb5]; rfl) dX9_sell_28 ?_
  refine lv_iconst (v := 2) hx hb dX9_sell_31 (by decide) ?_
  refine lv_iload hx hb dX9_sell_32 (lv_at hl 7 rfl) ?_
  refine hp_iast (t := 1911) (n := 5) hx hb hK h hob5 (by decide) (fun _ _ _ => rfl) hp.1 dX9_sell_34 (fun H locs w8 ew8 h => ?_)
  have hp := hp.2 w8 ew8
  refine lv_aload_n hx hb dX9_sell_35 rfl (lv_at hl 1 rfl) ?_
  refine hp_get (ci := 9) (v := .ref b5) hx hb hts ix_X9_sell_9 hown hK h ho (by decide) rfl 11 (by decide) (hts _ lk_X9_sell_54) (fun _ h9 => h9) (by show some (va_rf (zR z 911 o)) = some (Value.ref b5); rw [eb5]; rfl) dX9_sell_36 ?_
  refine lv_iconst (v := 3) hx hb dX9_sell_39 (by decide) ?_
  refine lv_iload hx hb dX9_sell_40 (lv_at hl 8 rfl) ?_
  refine hp_iast (t := 1911) (n := 5) hx hb hK h hob5 (by decide) (fun _ _ _ => rfl) hp.1 dX9_sell_42 (fun H locs w9 ew9 h => ?_)
  have hp := hp.2 w9 ew9
  refine lv_aload_n hx hb dX9_sell_43 rfl (lv_at hl 1 rfl) ?_
  refine hp_get (ci := 9) (v := .ref b5) hx hb hts ix_X9_sell_9 hown hK h ho (by decide) rfl 11 (by decide) (hts _ lk_X9_sell_54) (fun _ h9 => h9) (by show some (va_rf (zR z 911 o)) = some (Value.ref b5); rw [eb5]; rfl) dX9_sell_44 ?_
  refine lv_iconst (v := 4) hx hb dX9_sell_47 (by decide) ?_
  refine lv_iload hx hb dX9_sell_48 (lv_at hl 9 rfl) ?_
  refine hp_iast (t := 1911) (n := 5) hx hb hK h hob5 (by decide) (fun _ _ _ => rfl) hp.1 dX9_sell_50 (fun H locs w10 ew10 h => ?_)
  have hp := hp.2 w10 ew10
  refine lv_aload_n hx hb dX9_sell_51 rfl (lv_at hl 1 rfl) ?_
  refine lv_iload_n hx hb dX9_sell_52 rfl (lv_at hl 4 rfl) ?_
  refine hp_xVv ⟨hx, hb, hml, hown, hts⟩ (k_X9_needTests l hst G z w10 _ o p2 _ _ hp) (cwV 1 hts gX9_sell_X9_needTests rfl rfl rfl (by decide +kernel) ⟨Nat.le_of_ble_eq_true rfl, Nat.le_of_ble_eq_true rfl⟩) htab hlocks ho (by decide) rfl hK h hA hE rfl hl.1 rfl (Nat.le_of_ble_eq_true rfl) dX9_sell_53 ⟨Nat.le_of_ble_eq_true rfl, Nat.le_of_ble_eq_true rfl⟩ ⟨Nat.le_of_ble_eq_true rfl, Nat.le_of_ble_eq_true rfl⟩ (fun w11 H locs hp h => ?_)
  refine lv_aload hx hb dX9_sell_56 (lv_at hl 0 rfl) ?_
  refine hp_getN (ci := 0) (v := .int (vI w11 5 b2)) hx hb hts ix_X9_sell_0 hown hK h hob2 (by decide) rfl 5 (by decide) (lk_X9_sell_177 hE) (fun _ h9 => h9) rfl dX9_sell_58 ?_
  refine lv_iload_n hx hb dX9_sell_61 rfl (lv_at hl 3 rfl) ?_
  refine lv_icmp_lt (tgt := 87) hx hb dX9_sell_62 (by decide) (fun hc13 => ?_) (fun hc13 => ?_)
  · have hp := hp.1 hc13
    refine lv_iconst (v := (-1)) hx hb dX9_sell_87 (by decide) ?_
    exact hp_yiret hx hb hr hlocks hK h hp dX9_sell_88 (Nat.le_of_ble_eq_true rfl) (Nat.le_of_ble_eq_true rfl)
  · have hp := hp.2 hc13
    refine lv_aload_n hx hb dX9_sell_65 rfl (lv_at hl 1 rfl) ?_
    refine hp_get (ci := 9) (v := .int (vI w11 910 o)) hx hb hts ix_X9_sell_9 hown hK h ho (by decide) rfl 10 (by decide) (hts _ lk_X9_sell_273) (fun _ h9 => h9) rfl dX9_sell_66 ?_
    refine lv_aload_n hx hb dX9_sell_69 rfl (lv_at hl 1 rfl) ?_
    obtain ⟨b14, eb14, hob14, hp⟩ := hp
    refine hp_get (ci := 9) (v := .ref b14) hx hb hts ix_X9_sell_9 hown hK h ho (by decide) rfl 9 (by decide) (hts _ lk_X9_sell_50) (fun _ h9 => h9) (by show some (va_rf (zR z 909 o)) = some (Value.ref b14); rw [eb14]; rfl) dX9_sell_70 ?_
    refine hp_alen (t := 1909) (n := 60) hx hb hK h 4 rfl hob14 (by decide) (fun _ _ _ => ⟨_, rfl, rfl⟩) (v := 60) (by decide) dX9_sell_73 ?_
    refine lv_icmp_ge (tgt := 87) hx hb dX9_sell_74 (by decide) (fun hc15 => ?_) (fun hc15 => ?_)
    · have hp := hp.1 hc15
      refine lv_iconst (v := (-1)) hx hb dX9_sell_87 (by decide) ?_
      exact hp_yiret hx hb hr hlocks hK h hp dX9_sell_88 (Nat.le_of_ble_eq_true rfl) (Nat.le_of_ble_eq_true rfl)
    · have hp := hp.2 hc15
      refine lv_aload_n hx hb dX9_sell_77 rfl (lv_at hl 1 rfl) ?_
      obtain ⟨b16, eb16, hob16, hp⟩ := hp
      refine hp_get (ci := 9) (v := .ref b16) hx hb hts ix_X9_sell_9 hown hK h ho (by decide) rfl 12 (by decide) (hts _ lk_X9_sell_61) (fun _ h9 => h9) (by show some (va_rf (zR z 912 o)) = some (Value.ref b16); rw [eb16]; rfl) dX9_sell_78 ?_
      refine hp_cVi ⟨hx, hb, hml, hown, hts⟩ (k_X7_isFull l G z w11 _ b16 _ hp) (cwV 0 hts gX9_sell_X7_isFull rfl rfl rfl (by decide +kernel) ⟨Nat.le_of_ble_eq_true rfl, Nat.le_of_ble_eq_true rfl⟩) hob16 (by decide) rfl hK h hA hE rfl hl.1 rfl (Nat.le_of_ble_eq_true rfl) dX9_sell_81 ⟨Nat.le_of_ble_eq_true rfl, Nat.le_of_ble_eq_true rfl⟩ (fun r18 w17 H locs hp h => ?_)
      refine lv_if_eq (tgt := 89) hx hb dX9_sell_84 (by decide) (fun hc19 => ?_) (fun hc19 => ?_)
      · have hp := hp.1 hc19
        refine lv_aload_n hx hb dX9_sell_89 rfl (lv_at hl 1 rfl) ?_
        refine lv_iload_n hx hb dX9_sell_90 rfl (lv_at hl 4 rfl) ?_
        refine hp_cVv ⟨hx, hb, hml, hown, hts⟩ (k_X9_sortTests l G z w17 _ o p2 _ hp) (cwV 1 hts gX9_sell_X9_sortTests rfl rfl rfl (by decide +kernel) ⟨Nat.le_of_ble_eq_true rfl, Nat.le_of_ble_eq_true rfl⟩) ho (by decide) rfl hK h hA hE rfl hl.1 rfl (Nat.le_of_ble_eq_true rfl) dX9_sell_91 ⟨Nat.le_of_ble_eq_true rfl, Nat.le_of_ble_eq_true rfl⟩ (fun w20 H locs hp h => ?_)
        refine lv_aload_n hx hb dX9_sell_94 rfl (lv_at hl 1 rfl) ?_
        refine hp_get (ci := 9) (v := .ref b5) hx hb hts ix_X9_sell_9 hown hK h ho (by decide) rfl 11 (by decide) (hts _ lk_X9_sell_54) (fun _ h9 => h9) (by show some (va_rf (zR z 911 o)) = some (Value.ref b5); rw [eb5]; rfl) dX9_sell_95 ?_
        refine lv_iload_n hx hb dX9_sell_98 rfl (lv_at hl 4 rfl) ?_
        refine lv_iconst (v := 1) hx hb dX9_sell_99 (by decide) ?_
        refine lv_isub hx hb dX9_sell_100 ?_
        refine hp_iald (t := 1911) (n := 5) hx hb hK h hob5 (by decide) (fun _ _ _ => rfl) hp.1 dX9_sell_101 ?_
        have hp := hp.2
        refine lv_aload_n hx hb dX9_sell_102 rfl (lv_at hl 1 rfl) ?_
        refine hp_get (ci := 9) (v := .ref b5) hx hb hts ix_X9_sell_9 hown hK h ho (by decide) rfl 11 (by decide) (hts _ lk_X9_sell_54) (fun _ h9 => h9) (by show some (va_rf (zR z 911 o)) = some (Value.ref b5); rw [eb5]; rfl) dX9_sell_103 ?_
        refine lv_iconst (v := 0) hx hb dX9_sell_106 (by decide) ?_
        refine hp_iald (t := 1911) (n := 5) hx hb hK h hob5 (by decide) (fun _ _ _ => rfl) hp.1 dX9_sell_107 ?_
        have hp := hp.2
        refine lv_isub hx hb dX9_sell_108 ?_
        refine lv_bipush (v := 20) hx hb dX9_sell_109 (by decide) ?_
        obtain ⟨J22, jJ22, hp⟩ := hp
        refine hp_jn1 (G := G) (A := A) (z := z) (J := J22) (nL := 13) (j := 119) (lvf := fun x23 => [(9, .ref b2), (0, .ref o), (1, .int p0), (2, .int p1), (3, .int p2), (4, .int p3), (5, .int p4), (6, .int p5), (7, .int p6), (8, .int p7)]) (stf := fun x23 => [.int x23]) (fun kJ22 => ?_) (fun x23 w24 H locs ls hp h hl => ?_)
        · refine lv_icmp_le (tgt := 118) hx hb dX9_sell_111 (by decide) (fun hc25 => ?_) (fun hc25 => ?_)
          · have hp := hp.1 hc25
            refine lv_iconst (v := 0) hx hb dX9_sell_118 (by decide) ?_
            exact kJ22 0 w20 _ _ _ hp h (lv_sub hl [0, 1, 2, 3, 4, 5, 6, 7, 8, 9] rfl)
          · have hp := hp.2 hc25
            refine lv_iconst (v := 1) hx hb dX9_sell_114 (by decide) ?_
            refine lv_goto (tgt := 119) hx hb dX9_sell_115 (by decide) ?_
            exact kJ22 1 w20 _ _ _ hp h (lv_sub hl [0, 1, 2, 3, 4, 5, 6, 7, 8, 9] rfl)
        have hp := jJ22 x23 w24 hp
        refine lv_istore (lv' := [(10, .int x23), (9, .ref b2), (0, .ref o), (1, .int p0), (2, .int p1), (3, .int p2), (4, .int p3), (5, .int p4), (6, .int p5), (7, .int p6), (8, .int p7)]) hx hb dX9_sell_119 hl (by decide) rfl (fun ls hl => ?_)
        refine lv_iload hx hb dX9_sell_121 (lv_at hl 0 rfl) ?_
        obtain ⟨J26, jJ26, hp⟩ := hp
        refine hp_jn1 (G := G) (A := A) (z := z) (J := J26) (nL := 13) (j := 145) (lvf := fun x27 => [(10, .int x23), (9, .ref b2), (0, .ref o), (1, .int p0), (2, .int p1), (3, .int p2), (4, .int p3), (5, .int p4), (6, .int p5), (7, .int p6), (8, .int p7)]) (stf := fun x27 => [.int x27]) (fun kJ26 => ?_) (fun x27 w28 H locs ls hp h hl => ?_)
        · refine lv_if_eq (tgt := 135) hx hb dX9_sell_123 (by decide) (fun hc29 => ?_) (fun hc29 => ?_)
          · have hp := hp.1 hc29
            refine lv_aload_n hx hb dX9_sell_135 rfl (lv_at hl 2 rfl) ?_
            refine hp_get (ci := 9) (v := .ref b5) hx hb hts ix_X9_sell_9 hown hK h ho (by decide) rfl 11 (by decide) (hts _ lk_X9_sell_54) (fun _ h9 => h9) (by show some (va_rf (zR z 911 o)) = some (Value.ref b5); rw [eb5]; rfl) dX9_sell_136 ?_
            refine lv_iload_n hx hb dX9_sell_139 rfl (lv_at hl 5 rfl) ?_
            refine lv_iconst (v := 1) hx hb dX9_sell_140 (by decide) ?_
            refine lv_isub hx hb dX9_sell_141 ?_
            refine lv_iconst (v := 2) hx hb dX9_sell_142 (by decide) ?_
            refine lv_idiv hx hb dX9_sell_143 (by decide) ?_
            refine hp_iald (t := 1911) (n := 5) hx hb hK h hob5 (by decide) (fun _ _ _ => rfl) hp.1 dX9_sell_144 ?_
            have hp := hp.2
            exact kJ26 (vA w24 1911 b5 ((p2 - 1) / 2 : Int32).toNatClampNeg) w24 _ _ _ hp h (lv_sub hl [0, 1, 2, 3, 4, 5, 6, 7, 8, 9, 10] rfl)
          · have hp := hp.2 hc29
            refine lv_aload_n hx hb dX9_sell_126 rfl (lv_at hl 2 rfl) ?_
            refine hp_get (ci := 9) (v := .ref b5) hx hb hts ix_X9_sell_9 hown hK h ho (by decide) rfl 11 (by decide) (hts _ lk_X9_sell_54) (fun _ h9 => h9) (by show some (va_rf (zR z 911 o)) = some (Value.ref b5); rw [eb5]; rfl) dX9_sell_127 ?_
            refine lv_iconst (v := 0) hx hb dX9_sell_130 (by decide) ?_
            refine hp_iald (t := 1911) (n := 5) hx hb hK h hob5 (by decide) (fun _ _ _ => rfl) hp.1 dX9_sell_131 ?_
            have hp := hp.2
            refine lv_goto (tgt := 145) hx hb dX9_sell_132 (by decide) ?_
            exact kJ26 (vA w24 1911 b5 (0 : Int32).toNatClampNeg) w24 _ _ _ hp h (lv_sub hl [0, 1, 2, 3, 4, 5, 6, 7, 8, 9, 10] rfl)
        have hp := jJ26 x27 w28 hp
        refine lv_istore (lv' := [(11, .int x27), (10, .int x23), (9, .ref b2), (0, .ref o), (1, .int p0), (2, .int p1), (3, .int p2), (4, .int p3), (5, .int p4), (6, .int p5), (7, .int p6), (8, .int p7)]) hx hb dX9_sell_145 hl (by decide) rfl (fun ls hl => ?_)
        refine lv_aload_n hx hb dX9_sell_147 rfl (lv_at hl 3 rfl) ?_
        refine hp_get (ci := 9) (v := .ref b16) hx hb hts ix_X9_sell_9 hown hK h ho (by decide) rfl 12 (by decide) (hts _ lk_X9_sell_61) (fun _ h9 => h9) (by show some (va_rf (zR z 912 o)) = some (Value.ref b16); rw [eb16]; rfl) dX9_sell_148 ?_
        refine lv_iload_n hx hb dX9_sell_151 rfl (lv_at hl 4 rfl) ?_
        refine lv_iload_n hx hb dX9_sell_152 rfl (lv_at hl 5 rfl) ?_
        refine lv_iload hx hb dX9_sell_153 (lv_at hl 0 rfl) ?_
        refine lv_imul hx hb dX9_sell_155 ?_
        refine lv_aload_n hx hb dX9_sell_156 rfl (lv_at hl 3 rfl) ?_
        refine hp_get (ci := 9) (v := .int (vI w28 914 o)) hx hb hts ix_X9_sell_9 hown hK h ho (by decide) rfl 14 (by decide) (hts _ lk_X9_sell_202) (fun _ h9 => h9) rfl dX9_sell_157 ?_
        refine lv_aload_n hx hb dX9_sell_160 rfl (lv_at hl 3 rfl) ?_
        refine hp_get (ci := 9) (v := .int (vI w28 914 o)) hx hb hts ix_X9_sell_9 hown hK h ho (by decide) rfl 14 (by decide) (hts _ lk_X9_sell_202) (fun _ h9 => h9) rfl dX9_sell_161 ?_
        refine hp_cVi ⟨hx, hb, hml, hown, hts⟩ (k_X7_addEntry l G z w28 _ b16 p0 (p1 * x27) (vI w28 914 o) (vI w28 914 o) _ hp) (cwV 4 hts gX9_sell_X7_addEntry rfl rfl rfl (by decide +kernel) ⟨Nat.le_of_ble_eq_true rfl, Nat.le_of_ble_eq_true rfl⟩) hob16 (by decide) rfl hK h hA hE rfl hl.1 rfl (Nat.le_of_ble_eq_true rfl) dX9_sell_164 ⟨Nat.le_of_ble_eq_true rfl, Nat.le_of_ble_eq_true rfl⟩ (fun r31 w30 H locs hp h => ?_)
        refine lv_istore (lv' := [(12, .int r31), (11, .int x27), (10, .int x23), (9, .ref b2), (0, .ref o), (1, .int p0), (2, .int p1), (3, .int p2), (4, .int p3), (5, .int p4), (6, .int p5), (7, .int p6), (8, .int p7)]) hx hb dX9_sell_167 hl (by decide) rfl (fun ls hl => ?_)
        refine lv_aload hx hb dX9_sell_169 (lv_at hl 3 rfl) ?_
        refine lv_dup hx hb dX9_sell_171 rfl ?_
        refine hp_getN (ci := 0) (v := .int (vI w30 5 b2)) hx hb hts ix_X9_sell_0 hown hK h hob2 (by decide) rfl 5 (by decide) (lk_X9_sell_177 hE) (fun _ h9 => h9) rfl dX9_sell_172 ?_
        refine lv_iload_n hx hb dX9_sell_175 rfl (lv_at hl 6 rfl) ?_
        refine lv_isub hx hb dX9_sell_176 ?_
        refine hp_putiN (ci := 0) (ty := .int) (x := (vI w30 5 b2) - p1) hx hb hts ix_X9_sell_0 tyX0 tyX0_ok nmX0 hown hK h hob2 (by decide) rfl 5 5 (by decide) (lk_X9_sell_177 hE) (fun _ h9 => h9) rfl (by decide +kernel) rfl rfl (fun _ _ => rfl) (fun _ _ => Nat.le_of_ble_eq_true rfl) dX9_sell_177 (fun H locs w32 ew32 h => ?_)
        have hp := hp w32 ew32
        refine lv_aload_n hx hb dX9_sell_180 rfl (lv_at hl 4 rfl) ?_
        refine hp_get (ci := 9) (v := .ref b14) hx hb hts ix_X9_sell_9 hown hK h ho (by decide) rfl 9 (by decide) (hts _ lk_X9_sell_50) (fun _ h9 => h9) (by show some (va_rf (zR z 909 o)) = some (Value.ref b14); rw [eb14]; rfl) dX9_sell_181 ?_
        refine lv_aload_n hx hb dX9_sell_184 rfl (lv_at hl 4 rfl) ?_
        refine hp_get (ci := 9) (v := .int (vI w32 910 o)) hx hb hts ix_X9_sell_9 hown hK h ho (by decide) rfl 10 (by decide) (hts _ lk_X9_sell_273) (fun _ h9 => h9) rfl dX9_sell_185 ?_
        refine hp_new (ci := 2) hx hb hts ix_X9_sell_2 tyX2 tyX2_ok hown (hts _ wd_X9_sell_cl48) (hts _ wd_X9_sell_is2) (hts _ wd_X9_sell_ii2) hK h hA (by decide) rfl hfs_2 (Nat.le_of_ble_eq_true rfl) (Nat.le_of_ble_eq_true rfl) dX9_sell_188 (fun q33 z w34 H hqq33 ezq33 ewq33 h => ?_)
        have hp := hp q33 hqq33 z ezq33 w34 ewq33
        obtain ⟨hob2, hp⟩ := hp
        obtain ⟨ho, hp⟩ := hp
        obtain ⟨hoq33, hp⟩ := hp
        obtain ⟨hob14, hp⟩ := hp
        refine lv_dup hx hb dX9_sell_191 rfl ?_
        refine lv_iload_n hx hb dX9_sell_192 rfl (lv_at hl 5 rfl) ?_
        refine lv_iload_n hx hb dX9_sell_193 rfl (lv_at hl 6 rfl) ?_
        refine lv_iload hx hb dX9_sell_194 (lv_at hl 1 rfl) ?_
        refine lv_iload hx hb dX9_sell_196 (lv_at hl 2 rfl) ?_
        refine lv_iload hx hb dX9_sell_198 (lv_at hl 0 rfl) ?_
        refine hp_nI ⟨hx, hb, hml, hown, hts⟩ (k_X2_init l G z w34 _ q33 p0 p1 x27 x23 r31 _ hp) (cwI 5 hts gX9_sell_X2_init rfl rfl rfl (hts _ wd_X9_sell_iiX2) (hts _ wd_X9_sell_ml287) (hts _ wd_X9_sell_imX2_init) rfl (by decide +kernel) ⟨Nat.le_of_ble_eq_true rfl, Nat.le_of_ble_eq_true rfl⟩) hK h hA hE rfl hl.1 rfl (Nat.le_of_ble_eq_true rfl) dX9_sell_200 ⟨Nat.le_of_ble_eq_true rfl, Nat.le_of_ble_eq_true rfl⟩ (fun z w35 H locs hp h => ?_)
        obtain ⟨hob2, hp⟩ := hp
        obtain ⟨ho, hp⟩ := hp
        obtain ⟨hoq33, hp⟩ := hp
        obtain ⟨hob14, hp⟩ := hp
        refine hp_aast (t := 1909) (n := 60) (j := 4) (ci := 2) hx hb hK h rfl hob14 (by decide) (fun _ _ _ => rfl) hoq33 (by decide) rfl hp.1 dX9_sell_203 (fun H locs z ez h => ?_)
        have hp := hp.2 z ez
        obtain ⟨hob2, hp⟩ := hp
        obtain ⟨ho, hp⟩ := hp
        refine lv_aload_n hx hb dX9_sell_204 rfl (lv_at hl 4 rfl) ?_
        refine lv_dup hx hb dX9_sell_205 rfl ?_
        refine hp_get (ci := 9) (v := .int (vI w35 910 o)) hx hb hts ix_X9_sell_9 hown hK h ho (by decide) rfl 10 (by decide) (hts _ lk_X9_sell_273) (fun _ h9 => h9) rfl dX9_sell_206 ?_
        refine lv_iconst (v := 1) hx hb dX9_sell_209 (by decide) ?_
        refine lv_iadd hx hb dX9_sell_210 ?_
        refine hp_puti (ci := 9) (ty := .int) (x := (vI w35 910 o) + 1) hx hb hts ix_X9_sell_9 tyX9 tyX9_ok nmX9 hown hK h ho (by decide) rfl 10 910 (by decide) (hts _ lk_X9_sell_273) (fun _ h9 => h9) rfl (by decide +kernel) rfl rfl (fun _ _ => rfl) (fun _ _ => Nat.le_of_ble_eq_true rfl) dX9_sell_211 (fun H locs w36 ew36 h => ?_)
        have hp := hp w36 ew36
        refine lv_aload_n hx hb dX9_sell_214 rfl (lv_at hl 4 rfl) ?_
        refine hp_get (ci := 9) (v := .int (vI w36 910 o)) hx hb hts ix_X9_sell_9 hown hK h ho (by decide) rfl 10 (by decide) (hts _ lk_X9_sell_273) (fun _ h9 => h9) rfl dX9_sell_215 ?_
        refine lv_iconst (v := 1) hx hb dX9_sell_218 (by decide) ?_
        refine lv_isub hx hb dX9_sell_219 ?_
        exact hp_yiret hx hb hr hlocks hK h hp dX9_sell_220 (Nat.le_of_ble_eq_true rfl) (Nat.le_of_ble_eq_true rfl)
      · have hp := hp.2 hc19
        refine lv_iconst (v := (-1)) hx hb dX9_sell_87 (by decide) ?_
        exact hp_yiret hx hb hr hlocks hK h hp dX9_sell_88 (Nat.le_of_ble_eq_true rfl) (Nat.le_of_ble_eq_true rfl)
abbrev rmX9_rights : Room := { frames := 8, cells := 1, slots := 6, locals := 180 }
theorem ix_X9_rights_9 : ∀ w ∈ wsX90, w ∈ wsX9_rights := by decide +kernel
theorem lk_X9_rights_10 : Cond.fieldLink RX9 10 "KelpShores" "tape" "LKelpShores$Tape;" ∈ wsX9_rights := by decide +kernel
theorem lk_X9_rights_23 : Cond.fieldLink RX9 23 "KelpShores" "spareRights" "LKelpShores$Rights;" ∈ wsX9_rights := by decide +kernel
theorem lk_X9_rights_80 : Cond.fieldLink RX9 80 "KelpShores" "shoreCount" "I" ∈ wsX9_rights := by decide +kernel
theorem ix_X9_rights_8 : ∀ w ∈ wsX80, w ∈ wsX9_rights := by decide +kernel
theorem lk_X9_rights_73 {G : Gt} {A : Nat → Prop} {s : State} {args : Array Value} (hE : gE G A s s.heap) : (Cond.fieldLinkNest RX9 73 "KelpShores$Tape" "length" "I" "KelpShores").before args s = true := by
  have h : va_Nw (Cond.fieldLinkNest RX9 73 "KelpShores$Tape" "length" "I" "KelpShores") s := hE.1 (RX9, 73, "KelpShores$Tape", "length", "I") (List.mem_of_getElem? (i := 0) rfl)
  exact va_Nw.use rfl h
theorem lk_X9_rights_87 {G : Gt} {A : Nat → Prop} {s : State} {args : Array Value} (hE : gE G A s s.heap) : (Cond.fieldLinkNest RX9 87 "KelpShores$Tape" "at" "I" "KelpShores").before args s = true := by
  have h : va_Nw (Cond.fieldLinkNest RX9 87 "KelpShores$Tape" "at" "I" "KelpShores") s := hE.1 (RX9, 87, "KelpShores$Tape", "at", "I") (List.mem_of_getElem? (i := 1) rfl)
  exact va_Nw.use rfl h
theorem lk_X9_rights_26 : Cond.fieldLink RX9 26 "KelpShores" "wrongByte" "I" ∈ wsX9_rights := by decide +kernel
theorem lk_X9_rights_19 : Cond.fieldLink RX9 19 "KelpShores" "rights" "LKelpShores$Rights;" ∈ wsX9_rights := by decide +kernel
theorem xm_X9_rights_94 : ∀ w ∈ (vx_atS RX9 94 "java/lang/IllegalArgumentException" xNs).filter goodWord, w ∈ wsX9_rights := fun _ h => List.mem_cons_of_mem _ (List.mem_append_right _ h)
theorem wd_X9_rights_cl90 : Cond.classLink RX9 90 "java/lang/IllegalArgumentException" ∈ wsX9_rights := by decide +kernel
theorem wd_X9_rights_in90 : Cond.initialized "java/lang/IllegalArgumentException" ∈ wsX9_rights := by decide +kernel
set_option maxRecDepth 100000 in
def wp_X9_rights (z : Zt) (o : Nat) (w : Vt) (K : Int32 → Zt → Vt → Prop) (X : Nat → Vt → Prop) : Prop := isO z 9 o ∧ ∃ b1 : Nat, zR z 900 o = some b1 ∧ isO z 8 b1 ∧ ∃ b2 : Nat, zR z 902 o = some b2 ∧ isO z 4 b2 ∧ wp_X8_partsRead z b1 b2 (vI w 905 o) w (fun r4 w3 => ∀ w5 : Vt, w5 = uI w3 801 b1 0 → ∃ J6 : Int32 → Vt → Prop, (∀ (x7 : Int32) (w8 : Vt), J6 x7 w8 → ∀ w10 : Vt, w10 = uI w8 903 o x7 → (¬ r4 = (-1) → ∃ b12 : Nat, zR z 901 o = some b12 ∧ isO z 4 b12 ∧ wZ (uR z 902 o (some b12)) (fun z => isO z 4 b2 ∧ isO z 9 o ∧ wZ (uR z 901 o (some b2)) (fun z => isO z 4 b2 ∧ isO z 9 o ∧ K r4 z w10))) ∧ (r4 = (-1) → X 2 w10)) ∧ (¬ r4 = (-1) → J6 (-1) w5) ∧ (r4 = (-1) → J6 (vI w5 802 b1) w5))
set_option maxHeartbeats 4000000 in
set_option maxRecDepth 100000 in
theorem k_X9_rights (l : Launch) (hst : l.stackTraces = false) (G : Gt) (z : Zt) (w : Vt) (sz : Nat) (o : Nat) (K : Int32 → Zt → Vt → Prop) (X : Nat → Vt → Prop) (hp : wp_X9_rights z o w K X) : YI l yX9_rights wsX9_rights rmX9_rights G z w sz [.ref o] K X 1 6 := by
  refine vx_ofW (cc := cX9_rights) (maxL := 3) (ret := (some .int)) (by decide +kernel) rfl ?_
  intro p e s m args below meth c s₁ B hml htab hv
  obtain ⟨rfl, rfl, C, h⟩ := hp_start B hml hv
  generalize gA G z w s.heap.size = A at C h ⊢
  obtain ⟨hx, hb, hr, hlocks, hml, hown, hts, hK, hA, hE⟩ := id C
  obtain ⟨ho, hp⟩ := hp
  have hl := lv_entry ([.ref o]) (n := 3) (Nat.le_of_ble_eq_true rfl)
  rw [lg_entry_eq]
  generalize (lg_sl ([.ref o]) ++ List.replicate (3 - (lg_sl ([.ref o])).length) Slot.unset).toArray = ls at hl ⊢
  have hl : lv_has ls 3 [(0, .ref o)] := hl
  refine lv_aload_n hx hb dX9_rights_0 rfl (lv_at hl 0 rfl) ?_
  obtain ⟨b1, eb1, hob1, hp⟩ := hp
  refine hp_get (ci := 9) (v := .ref b1) hx hb hts ix_X9_rights_9 hown hK h ho (by decide) rfl 0 (by decide) (hts _ lk_X9_rights_10) (fun _ h9 => h9) (by show some (va_rf (zR z 900 o)) = some (Value.ref b1); rw [eb1]; rfl) dX9_rights_1 ?_
  refine lv_aload_n hx hb dX9_rights_4 rfl (lv_at hl 0 rfl) ?_
  obtain ⟨b2, eb2, hob2, hp⟩ := hp
  refine hp_get (ci := 9) (v := .ref b2) hx hb hts ix_X9_rights_9 hown hK h ho (by decide) rfl 2 (by decide) (hts _ lk_X9_rights_23) (fun _ h9 => h9) (by show some (va_rf (zR z 902 o)) = some (Value.ref b2); rw [eb2]; rfl) dX9_rights_5 ?_
  refine lv_aload_n hx hb dX9_rights_8 rfl (lv_at hl 0 rfl) ?_
  refine hp_get (ci := 9) (v := .int (vI w 905 o)) hx hb hts ix_X9_rights_9 hown hK h ho (by decide) rfl 5 (by decide) (hts _ lk_X9_rights_80) (fun _ h9 => h9) rfl dX9_rights_9 ?_
  refine hp_cVi ⟨hx, hb, hml, hown, hts⟩ (k_X8_partsRead l G z w _ b1 b2 (vI w 905 o) _ hp) (cwV 2 hts gX9_rights_X8_partsRead rfl rfl rfl (by decide +kernel) ⟨Nat.le_of_ble_eq_true rfl, Nat.le_of_ble_eq_true rfl⟩) hob1 (by decide) rfl hK h hA hE rfl hl.1 rfl (Nat.le_of_ble_eq_true rfl) dX9_rights_12 ⟨Nat.le_of_ble_eq_true rfl, Nat.le_of_ble_eq_true rfl⟩ (fun r4 w3 H locs hp h => ?_)
  refine lv_istore_n (lv' := [(1, .int r4), (0, .ref o)]) hx hb dX9_rights_15 rfl hl (by decide) rfl (fun ls hl => ?_)
  refine lv_aload_n hx hb dX9_rights_16 rfl (lv_at hl 1 rfl) ?_
  refine hp_get (ci := 9) (v := .ref b1) hx hb hts ix_X9_rights_9 hown hK h ho (by decide) rfl 0 (by decide) (hts _ lk_X9_rights_10) (fun _ h9 => h9) (by show some (va_rf (zR z 900 o)) = some (Value.ref b1); rw [eb1]; rfl) dX9_rights_17 ?_
  refine lv_iconst (v := 0) hx hb dX9_rights_20 (by decide) ?_
  refine hp_putiN (ci := 8) (ty := .int) (x := 0) hx hb hts ix_X9_rights_8 tyX8 tyX8_ok nmX8 hown hK h hob1 (by decide) rfl 1 801 (by decide) (lk_X9_rights_73 hE) (fun _ h9 => h9) rfl (by decide +kernel) rfl rfl (fun _ _ => rfl) (fun _ _ => Nat.le_of_ble_eq_true rfl) dX9_rights_21 (fun H locs w5 ew5 h => ?_)
  have hp := hp w5 ew5
  refine lv_aload_n hx hb dX9_rights_24 rfl (lv_at hl 1 rfl) ?_
  refine lv_iload_n hx hb dX9_rights_25 rfl (lv_at hl 0 rfl) ?_
  refine lv_iconst (v := (-1)) hx hb dX9_rights_26 (by decide) ?_
  obtain ⟨J6, jJ6, hp⟩ := hp
  refine hp_jn1 (G := G) (A := A) (z := z) (J := J6) (nL := 3) (j := 41) (lvf := fun x7 => [(1, .int r4), (0, .ref o)]) (stf := fun x7 => [.int x7, .ref o]) (fun kJ6 => ?_) (fun x7 w8 H locs ls hp h hl => ?_)
  · refine lv_icmp_ne (tgt := 40) hx hb dX9_rights_27 (by decide) (fun hc9 => ?_) (fun hc9 => ?_)
    · have hp := hp.1 hc9
      refine lv_iconst (v := (-1)) hx hb dX9_rights_40 (by decide) ?_
      exact kJ6 (-1) w5 _ _ _ hp h (lv_sub hl [0, 1] rfl)
    · have hp := hp.2 hc9
      refine lv_aload_n hx hb dX9_rights_30 rfl (lv_at hl 1 rfl) ?_
      refine hp_get (ci := 9) (v := .ref b1) hx hb hts ix_X9_rights_9 hown hK h ho (by decide) rfl 0 (by decide) (hts _ lk_X9_rights_10) (fun _ h9 => h9) (by show some (va_rf (zR z 900 o)) = some (Value.ref b1); rw [eb1]; rfl) dX9_rights_31 ?_
      refine hp_getN (ci := 8) (v := .int (vI w5 802 b1)) hx hb hts ix_X9_rights_8 hown hK h hob1 (by decide) rfl 2 (by decide) (lk_X9_rights_87 hE) (fun _ h9 => h9) rfl dX9_rights_34 ?_
      refine lv_goto (tgt := 41) hx hb dX9_rights_37 (by decide) ?_
      exact kJ6 (vI w5 802 b1) w5 _ _ _ hp h (lv_sub hl [0, 1] rfl)
  have hp := jJ6 x7 w8 hp
  refine hp_puti (ci := 9) (ty := .int) (x := x7) hx hb hts ix_X9_rights_9 tyX9 tyX9_ok nmX9 hown hK h ho (by decide) rfl 3 903 (by decide) (hts _ lk_X9_rights_26) (fun _ h9 => h9) rfl (by decide +kernel) rfl rfl (fun _ _ => rfl) (fun _ _ => Nat.le_of_ble_eq_true rfl) dX9_rights_41 (fun H locs w10 ew10 h => ?_)
  have hp := hp w10 ew10
  refine lv_iload_n hx hb dX9_rights_44 rfl (lv_at hl 0 rfl) ?_
  refine lv_iconst (v := (-1)) hx hb dX9_rights_45 (by decide) ?_
  refine lv_icmp_ne (tgt := 59) hx hb dX9_rights_46 (by decide) (fun hc11 => ?_) (fun hc11 => ?_)
  · have hp := hp.1 hc11
    refine lv_aload_n hx hb dX9_rights_59 rfl (lv_at hl 1 rfl) ?_
    refine hp_get (ci := 9) (v := .ref b2) hx hb hts ix_X9_rights_9 hown hK h ho (by decide) rfl 2 (by decide) (hts _ lk_X9_rights_23) (fun _ h9 => h9) (by show some (va_rf (zR z 902 o)) = some (Value.ref b2); rw [eb2]; rfl) dX9_rights_60 ?_
    refine lv_astore_n (lv' := [(2, .ref b2), (1, .int r4), (0, .ref o)]) hx hb dX9_rights_63 rfl hl (by decide) rfl (fun ls hl => ?_)
    refine lv_aload_n hx hb dX9_rights_64 rfl (lv_at hl 2 rfl) ?_
    refine lv_aload_n hx hb dX9_rights_65 rfl (lv_at hl 2 rfl) ?_
    obtain ⟨b12, eb12, hob12, hp⟩ := hp
    refine hp_get (ci := 9) (v := .ref b12) hx hb hts ix_X9_rights_9 hown hK h ho (by decide) rfl 1 (by decide) (hts _ lk_X9_rights_19) (fun _ h9 => h9) (by show some (va_rf (zR z 901 o)) = some (Value.ref b12); rw [eb12]; rfl) dX9_rights_66 ?_
    refine hp_putr (ci := 9) (ty := .object "KelpShores$Rights") (b := b12) hx hb hts ix_X9_rights_9 tyX9 tyX9_ok nmX9 hown hK h ho (by decide) rfl 2 902 (by decide) (hts _ lk_X9_rights_23) (fun _ h9 => h9) rfl (by decide +kernel) rfl rfl (fun _ _ => rfl) (fun _ _ => Nat.le_of_ble_eq_true rfl) dX9_rights_69 (fun H locs z ez h => ?_)
    have hp := hp z ez
    obtain ⟨hob2, hp⟩ := hp
    obtain ⟨ho, hp⟩ := hp
    refine lv_aload_n hx hb dX9_rights_72 rfl (lv_at hl 2 rfl) ?_
    refine lv_aload_n hx hb dX9_rights_73 rfl (lv_at hl 0 rfl) ?_
    refine hp_putr (ci := 9) (ty := .object "KelpShores$Rights") (b := b2) hx hb hts ix_X9_rights_9 tyX9 tyX9_ok nmX9 hown hK h ho (by decide) rfl 1 901 (by decide) (hts _ lk_X9_rights_19) (fun _ h9 => h9) rfl (by decide +kernel) rfl rfl (fun _ _ => rfl) (fun _ _ => Nat.le_of_ble_eq_true rfl) dX9_rights_74 (fun H locs z ez h => ?_)
    have hp := hp z ez
    obtain ⟨hob2, hp⟩ := hp
    obtain ⟨ho, hp⟩ := hp
    refine lv_iload_n hx hb dX9_rights_77 rfl (lv_at hl 1 rfl) ?_
    exact hp_yiret hx hb hr hlocks hK h hp dX9_rights_78 (Nat.le_of_ble_eq_true rfl) (Nat.le_of_ble_eq_true rfl)
  · have hp := hp.2 hc11
    exact hp_throw (text := "the text of the rights is wrong") (j := 12) 2 hx hb hst hown xf_2 (hts _ wd_X9_rights_cl90) (hts _ wd_X9_rights_in90) (List.mem_of_getElem? (i := 12) rfl) (fun w h => hts w (xm_X9_rights_94 w h)) xb_X9_94 xg_X9_94 (List.mem_of_getElem? (i := 1) rfl) hE hK h (by rw [hml]; exact hl.1) dX9_rights_49 dX9_rights_52 dX9_rights_53 dX9_rights_55 dX9_rights_58 htab (Nat.le_of_ble_eq_true rfl) (Nat.le_of_ble_eq_true rfl) (Nat.le_of_ble_eq_true rfl) (Nat.le_of_ble_eq_true rfl) hlocks rfl hp (Nat.le_of_ble_eq_true rfl) (Nat.le_of_ble_eq_true rfl)
