abbrev rmX8_init : Room := { frames := 1, cells := 1, slots := 400, locals := 12 }
theorem wd_X8_init_oi3 : Cond.methodLink RX8 3 objectInit ∈ wsX8_init := by decide +kernel
theorem wd_X8_init_oii : Cond.instanceMethod objectInit ∈ wsX8_init := by decide +kernel
theorem wd_X8_init_oic : Cond.code objectInit ⟨#[0xb1]⟩ 1 none ∈ wsX8_init := by decide +kernel
theorem wd_X8_init_acint : Cond.arrayClass .int ∈ wsX8_init := by decide +kernel
theorem ix_X8_init_8 : ∀ w ∈ wsX80, w ∈ wsX8_init := by decide +kernel
theorem lk_X8_init_9 : Cond.fieldLink RX8 9 "KelpShores$Tape" "bytes" "[I" ∈ wsX8_init := by decide +kernel
set_option maxRecDepth 100000 in
def wp_X8_init (z : Zt) (o : Nat) (w : Vt) (K : Zt → Vt → Prop) : Prop := isO z 8 o ∧ ∀ q1 : Nat, q1 ∉ z.2.1 → wZ (nZ z q1 1800) (fun z => ∀ w2 : Vt, w2 = nV w q1 → isO z 8 o ∧ isO z 1800 q1 ∧ wZ (uR z 800 o (some q1)) (fun z => isO z 8 o ∧ K z w2))
set_option maxHeartbeats 4000000 in
set_option maxRecDepth 100000 in
theorem k_X8_init (l : Launch) (G : Gt) (z : Zt) (w : Vt) (sz : Nat) (o : Nat) (K : Zt → Vt → Prop) (hp : wp_X8_init z o w K) : NV l yX8_init wsX8_init rmX8_init G z w sz [.ref o] K 1 400 := by
  refine Met.ofW (cc := cX8_init) (maxL := 1) (ret := none) (by decide +kernel) rfl ?_
  intro p e s m args below meth c s₁ B hml hv
  obtain ⟨rfl, rfl, C, h⟩ := hp_start B hml hv
  generalize gA G z w s.heap.size = A at C h ⊢
  obtain ⟨hx, hb, hr, hlocks, hml, hown, hts, hK, hA, hE⟩ := id C
  have hmn : meth.name = "<init>" := (name_of_methodNamed B.named B.method).1
  obtain ⟨ho, hp⟩ := hp
  have hl := lv_entry ([.ref o]) (n := 1) (Nat.le_of_ble_eq_true rfl)
  rw [lg_entry_eq]
  generalize (lg_sl ([.ref o]) ++ List.replicate (1 - (lg_sl ([.ref o])).length) Slot.unset).toArray = ls at hl ⊢
  have hl : lv_has ls 1 [(0, .ref o)] := hl
  refine lv_aload_n hx hb dX8_init_0 rfl (lv_at hl 0 rfl) ?_
  refine W.objInit hx hb hown (hts _ wd_X8_init_oi3) (hts _ wd_X8_init_oii) (hts _ wd_X8_init_oic) rfl (by rw [hml]; exact hl.1) rfl dX8_init_1 (Nat.le_of_ble_eq_true rfl) (Nat.le_of_ble_eq_true rfl) ?_
  refine W.eq (g2 := F0 m 4 ls []) rfl ?_
  refine lv_aload_n hx hb dX8_init_4 rfl (lv_at hl 0 rfl) ?_
  refine lv_sipush (v := 400) hx hb dX8_init_5 (by decide) ?_
  refine hp_newa (atype := .int) (ty := .int) hx hb (hts _ wd_X8_init_acint) rfl 1800 1 rfl (fun _ h9 => h9) hK h hA (fun _ => rfl) (by decide) rfl (by decide) (by decide) (by decide) (Nat.le_of_ble_eq_true rfl) (Nat.le_of_ble_eq_true rfl) dX8_init_8 (fun q1 z w2 H hqq1 ezq1 ewq1 h => ?_)
  have hp := hp q1 hqq1 z ezq1 w2 ewq1
  obtain ⟨ho, hp⟩ := hp
  obtain ⟨hoq1, hp⟩ := hp
  refine hp_putrF (ci := 8) (ty := .array .int) (b := q1) hx hb hts ix_X8_init_8 tyX8 tyX8_ok nmX8 hown hK h ho (by decide) rfl 0 800 (by decide) (hts _ lk_X8_init_9) (fun _ h9 => h9) rfl hmn rfl (by decide +kernel) rfl rfl (fun _ _ => rfl) (fun _ _ => Nat.le_of_ble_eq_true rfl) dX8_init_10 (fun H locs z ez h => ?_)
  have hp := hp z ez
  obtain ⟨ho, hp⟩ := hp
  exact hp_nvret hx hb hr hlocks hK h hp dX8_init_13 (Nat.le_of_ble_eq_true rfl) (Nat.le_of_ble_eq_true rfl)
abbrev rmX4_init : Room := { frames := 1, cells := 5, slots := 75, locals := 12 }
theorem wd_X4_init_oi3 : Cond.methodLink RX4 3 objectInit ∈ wsX4_init := by decide +kernel
theorem wd_X4_init_oii : Cond.instanceMethod objectInit ∈ wsX4_init := by decide +kernel
theorem wd_X4_init_oic : Cond.code objectInit ⟨#[0xb1]⟩ 1 none ∈ wsX4_init := by decide +kernel
theorem wd_X4_init_acint : Cond.arrayClass .int ∈ wsX4_init := by decide +kernel
theorem ix_X4_init_4 : ∀ w ∈ wsX40, w ∈ wsX4_init := by decide +kernel
theorem lk_X4_init_9 : Cond.fieldLink RX4 9 "KelpShores$Rights" "shoreOf" "[I" ∈ wsX4_init := by decide +kernel
theorem lk_X4_init_15 : Cond.fieldLink RX4 15 "KelpShores$Rights" "familyOf" "[I" ∈ wsX4_init := by decide +kernel
theorem lk_X4_init_18 : Cond.fieldLink RX4 18 "KelpShores$Rights" "firstDay" "[I" ∈ wsX4_init := by decide +kernel
theorem lk_X4_init_21 : Cond.fieldLink RX4 21 "KelpShores$Rights" "lastDay" "[I" ∈ wsX4_init := by decide +kernel
theorem lk_X4_init_24 : Cond.fieldLink RX4 24 "KelpShores$Rights" "share" "[I" ∈ wsX4_init := by decide +kernel
theorem lk_X4_init_27 : Cond.fieldLink RX4 27 "KelpShores$Rights" "rest" "I" ∈ wsX4_init := by decide +kernel
set_option maxRecDepth 100000 in
def wp_X4_init (z : Zt) (o : Nat) (w : Vt) (K : Zt → Vt → Prop) : Prop := isO z 4 o ∧ ∀ q1 : Nat, q1 ∉ z.2.1 → wZ (nZ z q1 1400) (fun z => ∀ w2 : Vt, w2 = nV w q1 → isO z 4 o ∧ isO z 1400 q1 ∧ wZ (uR z 400 o (some q1)) (fun z => isO z 4 o ∧ ∀ q3 : Nat, q3 ∉ z.2.1 → wZ (nZ z q3 1401) (fun z => ∀ w4 : Vt, w4 = nV w2 q3 → isO z 4 o ∧ isO z 1401 q3 ∧ wZ (uR z 401 o (some q3)) (fun z => isO z 4 o ∧ ∀ q5 : Nat, q5 ∉ z.2.1 → wZ (nZ z q5 1402) (fun z => ∀ w6 : Vt, w6 = nV w4 q5 → isO z 4 o ∧ isO z 1402 q5 ∧ wZ (uR z 402 o (some q5)) (fun z => isO z 4 o ∧ ∀ q7 : Nat, q7 ∉ z.2.1 → wZ (nZ z q7 1403) (fun z => ∀ w8 : Vt, w8 = nV w6 q7 → isO z 4 o ∧ isO z 1403 q7 ∧ wZ (uR z 403 o (some q7)) (fun z => isO z 4 o ∧ ∀ q9 : Nat, q9 ∉ z.2.1 → wZ (nZ z q9 1404) (fun z => ∀ w10 : Vt, w10 = nV w8 q9 → isO z 4 o ∧ isO z 1404 q9 ∧ wZ (uR z 404 o (some q9)) (fun z => isO z 4 o ∧ ∀ w11 : Vt, w11 = uI w10 406 o 2 → K z w11))))))))))
set_option maxHeartbeats 4000000 in
set_option maxRecDepth 100000 in
theorem k_X4_init (l : Launch) (G : Gt) (z : Zt) (w : Vt) (sz : Nat) (o : Nat) (K : Zt → Vt → Prop) (hp : wp_X4_init z o w K) : NV l yX4_init wsX4_init rmX4_init G z w sz [.ref o] K 5 75 := by
  refine Met.ofW (cc := cX4_init) (maxL := 1) (ret := none) (by decide +kernel) rfl ?_
  intro p e s m args below meth c s₁ B hml hv
  obtain ⟨rfl, rfl, C, h⟩ := hp_start B hml hv
  generalize gA G z w s.heap.size = A at C h ⊢
  obtain ⟨hx, hb, hr, hlocks, hml, hown, hts, hK, hA, hE⟩ := id C
  have hmn : meth.name = "<init>" := (name_of_methodNamed B.named B.method).1
  obtain ⟨ho, hp⟩ := hp
  have hl := lv_entry ([.ref o]) (n := 1) (Nat.le_of_ble_eq_true rfl)
  rw [lg_entry_eq]
  generalize (lg_sl ([.ref o]) ++ List.replicate (1 - (lg_sl ([.ref o])).length) Slot.unset).toArray = ls at hl ⊢
  have hl : lv_has ls 1 [(0, .ref o)] := hl
  refine lv_aload_n hx hb dX4_init_0 rfl (lv_at hl 0 rfl) ?_
  refine W.objInit hx hb hown (hts _ wd_X4_init_oi3) (hts _ wd_X4_init_oii) (hts _ wd_X4_init_oic) rfl (by rw [hml]; exact hl.1) rfl dX4_init_1 (Nat.le_of_ble_eq_true rfl) (Nat.le_of_ble_eq_true rfl) ?_
  refine W.eq (g2 := F0 m 4 ls []) rfl ?_
  refine lv_aload_n hx hb dX4_init_4 rfl (lv_at hl 0 rfl) ?_
  refine lv_bipush (v := 15) hx hb dX4_init_5 (by decide) ?_
  refine hp_newa (atype := .int) (ty := .int) hx hb (hts _ wd_X4_init_acint) rfl 1400 1 rfl (fun _ h9 => h9) hK h hA (fun _ => rfl) (by decide) rfl (by decide) (by decide) (by decide) (Nat.le_of_ble_eq_true rfl) (Nat.le_of_ble_eq_true rfl) dX4_init_7 (fun q1 z w2 H hqq1 ezq1 ewq1 h => ?_)
  have hp := hp q1 hqq1 z ezq1 w2 ewq1
  obtain ⟨ho, hp⟩ := hp
  obtain ⟨hoq1, hp⟩ := hp
  refine hp_putrF (ci := 4) (ty := .array .int) (b := q1) hx hb hts ix_X4_init_4 tyX4 tyX4_ok nmX4 hown hK h ho (by decide) rfl 0 400 (by decide) (hts _ lk_X4_init_9) (fun _ h9 => h9) rfl hmn rfl (by decide +kernel) rfl rfl (fun _ _ => rfl) (fun _ _ => Nat.le_of_ble_eq_true rfl) dX4_init_9 (fun H locs z ez h => ?_)
  have hp := hp z ez
  obtain ⟨ho, hp⟩ := hp
  refine lv_aload_n hx hb dX4_init_12 rfl (lv_at hl 0 rfl) ?_
  refine lv_bipush (v := 15) hx hb dX4_init_13 (by decide) ?_
  refine hp_newa (atype := .int) (ty := .int) hx hb (hts _ wd_X4_init_acint) rfl 1401 1 rfl (fun _ h9 => h9) hK h hA (fun _ => rfl) (by decide) rfl (by decide) (by decide) (by decide) (Nat.le_of_ble_eq_true rfl) (Nat.le_of_ble_eq_true rfl) dX4_init_15 (fun q3 z w4 H hqq3 ezq3 ewq3 h => ?_)
  have hp := hp q3 hqq3 z ezq3 w4 ewq3
  obtain ⟨ho, hp⟩ := hp
  obtain ⟨hoq3, hp⟩ := hp
  refine hp_putrF (ci := 4) (ty := .array .int) (b := q3) hx hb hts ix_X4_init_4 tyX4 tyX4_ok nmX4 hown hK h ho (by decide) rfl 1 401 (by decide) (hts _ lk_X4_init_15) (fun _ h9 => h9) rfl hmn rfl (by decide +kernel) rfl rfl (fun _ _ => rfl) (fun _ _ => Nat.le_of_ble_eq_true rfl) dX4_init_17 (fun H locs z ez h => ?_)
  have hp := hp z ez
  obtain ⟨ho, hp⟩ := hp
  refine lv_aload_n hx hb dX4_init_20 rfl (lv_at hl 0 rfl) ?_
  refine lv_bipush (v := 15) hx hb dX4_init_21 (by decide) ?_
  refine hp_newa (atype := .int) (ty := .int) hx hb (hts _ wd_X4_init_acint) rfl 1402 1 rfl (fun _ h9 => h9) hK h hA (fun _ => rfl) (by decide) rfl (by decide) (by decide) (by decide) (Nat.le_of_ble_eq_true rfl) (Nat.le_of_ble_eq_true rfl) dX4_init_23 (fun q5 z w6 H hqq5 ezq5 ewq5 h => ?_)
  have hp := hp q5 hqq5 z ezq5 w6 ewq5
  obtain ⟨ho, hp⟩ := hp
  obtain ⟨hoq5, hp⟩ := hp
  refine hp_putrF (ci := 4) (ty := .array .int) (b := q5) hx hb hts ix_X4_init_4 tyX4 tyX4_ok nmX4 hown hK h ho (by decide) rfl 2 402 (by decide) (hts _ lk_X4_init_18) (fun _ h9 => h9) rfl hmn rfl (by decide +kernel) rfl rfl (fun _ _ => rfl) (fun _ _ => Nat.le_of_ble_eq_true rfl) dX4_init_25 (fun H locs z ez h => ?_)
  have hp := hp z ez
  obtain ⟨ho, hp⟩ := hp
  refine lv_aload_n hx hb dX4_init_28 rfl (lv_at hl 0 rfl) ?_
  refine lv_bipush (v := 15) hx hb dX4_init_29 (by decide) ?_
  refine hp_newa (atype := .int) (ty := .int) hx hb (hts _ wd_X4_init_acint) rfl 1403 1 rfl (fun _ h9 => h9) hK h hA (fun _ => rfl) (by decide) rfl (by decide) (by decide) (by decide) (Nat.le_of_ble_eq_true rfl) (Nat.le_of_ble_eq_true rfl) dX4_init_31 (fun q7 z w8 H hqq7 ezq7 ewq7 h => ?_)
  have hp := hp q7 hqq7 z ezq7 w8 ewq7
  obtain ⟨ho, hp⟩ := hp
  obtain ⟨hoq7, hp⟩ := hp
  refine hp_putrF (ci := 4) (ty := .array .int) (b := q7) hx hb hts ix_X4_init_4 tyX4 tyX4_ok nmX4 hown hK h ho (by decide) rfl 3 403 (by decide) (hts _ lk_X4_init_21) (fun _ h9 => h9) rfl hmn rfl (by decide +kernel) rfl rfl (fun _ _ => rfl) (fun _ _ => Nat.le_of_ble_eq_true rfl) dX4_init_33 (fun H locs z ez h => ?_)
  have hp := hp z ez
  obtain ⟨ho, hp⟩ := hp
  refine lv_aload_n hx hb dX4_init_36 rfl (lv_at hl 0 rfl) ?_
  refine lv_bipush (v := 15) hx hb dX4_init_37 (by decide) ?_
  refine hp_newa (atype := .int) (ty := .int) hx hb (hts _ wd_X4_init_acint) rfl 1404 1 rfl (fun _ h9 => h9) hK h hA (fun _ => rfl) (by decide) rfl (by decide) (by decide) (by decide) (Nat.le_of_ble_eq_true rfl) (Nat.le_of_ble_eq_true rfl) dX4_init_39 (fun q9 z w10 H hqq9 ezq9 ewq9 h => ?_)
  have hp := hp q9 hqq9 z ezq9 w10 ewq9
  obtain ⟨ho, hp⟩ := hp
  obtain ⟨hoq9, hp⟩ := hp
  refine hp_putrF (ci := 4) (ty := .array .int) (b := q9) hx hb hts ix_X4_init_4 tyX4 tyX4_ok nmX4 hown hK h ho (by decide) rfl 4 404 (by decide) (hts _ lk_X4_init_24) (fun _ h9 => h9) rfl hmn rfl (by decide +kernel) rfl rfl (fun _ _ => rfl) (fun _ _ => Nat.le_of_ble_eq_true rfl) dX4_init_41 (fun H locs z ez h => ?_)
  have hp := hp z ez
  obtain ⟨ho, hp⟩ := hp
  refine lv_aload_n hx hb dX4_init_44 rfl (lv_at hl 0 rfl) ?_
  refine lv_iconst (v := 2) hx hb dX4_init_45 (by decide) ?_
  refine hp_puti (ci := 4) (ty := .int) (x := 2) hx hb hts ix_X4_init_4 tyX4 tyX4_ok nmX4 hown hK h ho (by decide) rfl 6 406 (by decide) (hts _ lk_X4_init_27) (fun _ h9 => h9) rfl (by decide +kernel) rfl rfl (fun _ _ => rfl) (fun _ _ => Nat.le_of_ble_eq_true rfl) dX4_init_46 (fun H locs w11 ew11 h => ?_)
  have hp := hp w11 ew11
  exact hp_nvret hx hb hr hlocks hK h hp dX4_init_49 (Nat.le_of_ble_eq_true rfl) (Nat.le_of_ble_eq_true rfl)
abbrev rmX6_init : Room := { frames := 1, cells := 1, slots := 4, locals := 12 }
theorem wd_X6_init_oi3 : Cond.methodLink RX6 3 objectInit ∈ wsX6_init := by decide +kernel
theorem wd_X6_init_oii : Cond.instanceMethod objectInit ∈ wsX6_init := by decide +kernel
theorem wd_X6_init_oic : Cond.code objectInit ⟨#[0xb1]⟩ 1 none ∈ wsX6_init := by decide +kernel
theorem wd_X6_init_cl9 : Cond.classLink RX6 9 RX5 ∈ wsX6_init := by decide +kernel
theorem ix_X6_init_6 : ∀ w ∈ wsX60, w ∈ wsX6_init := by decide +kernel
theorem lk_X6_init_11 : Cond.fieldLink RX6 11 "KelpShores$Shore" "rocks" "[LKelpShores$Rock;" ∈ wsX6_init := by decide +kernel
set_option maxRecDepth 100000 in
def wp_X6_init (z : Zt) (o : Nat) (w : Vt) (K : Zt → Vt → Prop) : Prop := isO z 6 o ∧ ∀ q1 : Nat, q1 ∉ z.2.1 → wZ (nZ z q1 1600) (fun z => ∀ w2 : Vt, w2 = nV w q1 → isO z 6 o ∧ isO z 1600 q1 ∧ wZ (uR z 600 o (some q1)) (fun z => isO z 6 o ∧ K z w2))
set_option maxHeartbeats 4000000 in
set_option maxRecDepth 100000 in
theorem k_X6_init (l : Launch) (G : Gt) (z : Zt) (w : Vt) (sz : Nat) (o : Nat) (K : Zt → Vt → Prop) (hp : wp_X6_init z o w K) : NV l yX6_init wsX6_init rmX6_init G z w sz [.ref o] K 1 4 := by
  refine Met.ofW (cc := cX6_init) (maxL := 1) (ret := none) (by decide +kernel) rfl ?_
  intro p e s m args below meth c s₁ B hml hv
  obtain ⟨rfl, rfl, C, h⟩ := hp_start B hml hv
  generalize gA G z w s.heap.size = A at C h ⊢
  obtain ⟨hx, hb, hr, hlocks, hml, hown, hts, hK, hA, hE⟩ := id C
  have hmn : meth.name = "<init>" := (name_of_methodNamed B.named B.method).1
  obtain ⟨ho, hp⟩ := hp
  have hl := lv_entry ([.ref o]) (n := 1) (Nat.le_of_ble_eq_true rfl)
  rw [lg_entry_eq]
  generalize (lg_sl ([.ref o]) ++ List.replicate (1 - (lg_sl ([.ref o])).length) Slot.unset).toArray = ls at hl ⊢
  have hl : lv_has ls 1 [(0, .ref o)] := hl
  refine lv_aload_n hx hb dX6_init_0 rfl (lv_at hl 0 rfl) ?_
  refine W.objInit hx hb hown (hts _ wd_X6_init_oi3) (hts _ wd_X6_init_oii) (hts _ wd_X6_init_oic) rfl (by rw [hml]; exact hl.1) rfl dX6_init_1 (Nat.le_of_ble_eq_true rfl) (Nat.le_of_ble_eq_true rfl) ?_
  refine W.eq (g2 := F0 m 4 ls []) rfl ?_
  refine lv_aload_n hx hb dX6_init_4 rfl (lv_at hl 0 rfl) ?_
  refine lv_iconst (v := 4) hx hb dX6_init_5 (by decide) ?_
  refine hp_newq hx hb 1600 6 hown (hts _ wd_X6_init_cl9) (hE.2.2.2.2.1 "KelpShores$Rock" (List.mem_of_getElem? (i := 3) rfl)) rfl hK h hA (by decide) rfl (by decide) (by decide) (by decide) (Nat.le_of_ble_eq_true rfl) (Nat.le_of_ble_eq_true rfl) dX6_init_6 (fun q1 z w2 H hqq1 ezq1 ewq1 h => ?_)
  have hp := hp q1 hqq1 z ezq1 w2 ewq1
  obtain ⟨ho, hp⟩ := hp
  obtain ⟨hoq1, hp⟩ := hp
  refine hp_putrF (ci := 6) (ty := .array (.object "KelpShores$Rock")) (b := q1) hx hb hts ix_X6_init_6 tyX6 tyX6_ok nmX6 hown hK h ho (by decide) rfl 0 600 (by decide) (hts _ lk_X6_init_11) (fun _ h9 => h9) rfl hmn rfl (by decide +kernel) rfl rfl (fun _ _ => rfl) (fun _ _ => Nat.le_of_ble_eq_true rfl) dX6_init_9 (fun H locs z ez h => ?_)
  have hp := hp z ez
  obtain ⟨ho, hp⟩ := hp
  exact hp_nvret hx hb hr hlocks hK h hp dX6_init_12 (Nat.le_of_ble_eq_true rfl) (Nat.le_of_ble_eq_true rfl)
abbrev rmX5_init : Room := { frames := 1, cells := 0, slots := 0, locals := 12 }
theorem wd_X5_init_oi3 : Cond.methodLink RX5 3 objectInit ∈ wsX5_init := by decide +kernel
theorem wd_X5_init_oii : Cond.instanceMethod objectInit ∈ wsX5_init := by decide +kernel
theorem wd_X5_init_oic : Cond.code objectInit ⟨#[0xb1]⟩ 1 none ∈ wsX5_init := by decide +kernel
theorem ix_X5_init_5 : ∀ w ∈ wsX50, w ∈ wsX5_init := by decide +kernel
theorem lk_X5_init_9 : Cond.fieldLink RX5 9 "KelpShores$Rock" "cutYear" "I" ∈ wsX5_init := by decide +kernel
theorem lk_X5_init_15 : Cond.fieldLink RX5 15 "KelpShores$Rock" "cutDay" "I" ∈ wsX5_init := by decide +kernel
theorem lk_X5_init_18 : Cond.fieldLink RX5 18 "KelpShores$Rock" "cutBy" "I" ∈ wsX5_init := by decide +kernel
theorem lk_X5_init_21 : Cond.fieldLink RX5 21 "KelpShores$Rock" "depth" "I" ∈ wsX5_init := by decide +kernel
theorem lk_X5_init_24 : Cond.fieldLink RX5 24 "KelpShores$Rock" "room" "I" ∈ wsX5_init := by decide +kernel
theorem lk_X5_init_27 : Cond.fieldLink RX5 27 "KelpShores$Rock" "weed" "I" ∈ wsX5_init := by decide +kernel
theorem lk_X5_init_30 : Cond.fieldLink RX5 30 "KelpShores$Rock" "grown" "I" ∈ wsX5_init := by decide +kernel
set_option maxRecDepth 100000 in
def wp_X5_init (z : Zt) (o : Nat) (p0 : Int32) (p1 : Int32) (w : Vt) (K : Zt → Vt → Prop) : Prop := isO z 5 o ∧ ∀ w1 : Vt, w1 = uI w 506 o (-1) → ∀ w2 : Vt, w2 = uI w1 507 o (-1) → ∀ w3 : Vt, w3 = uI w2 508 o (-1) → ∀ w4 : Vt, w4 = uI w3 500 o p0 → ∀ w5 : Vt, w5 = uI w4 501 o p1 → ∀ w6 : Vt, w6 = uI w5 502 o p1 → ∀ w7 : Vt, w7 = uI w6 503 o p1 → K z w7
set_option maxHeartbeats 4000000 in
set_option maxRecDepth 100000 in
theorem k_X5_init (l : Launch) (G : Gt) (z : Zt) (w : Vt) (sz : Nat) (o : Nat) (p0 : Int32) (p1 : Int32) (K : Zt → Vt → Prop) (hp : wp_X5_init z o p0 p1 w K) : NV l yX5_init wsX5_init rmX5_init G z w sz [.ref o, .int p0, .int p1] K 0 0 := by
  refine Met.ofW (cc := cX5_init) (maxL := 3) (ret := none) (by decide +kernel) rfl ?_
  intro p e s m args below meth c s₁ B hml hv
  obtain ⟨rfl, rfl, C, h⟩ := hp_start B hml hv
  generalize gA G z w s.heap.size = A at C h ⊢
  obtain ⟨hx, hb, hr, hlocks, hml, hown, hts, hK, hA, hE⟩ := id C
  have hmn : meth.name = "<init>" := (name_of_methodNamed B.named B.method).1
  obtain ⟨ho, hp⟩ := hp
  have hl := lv_entry ([.ref o, .int p0, .int p1]) (n := 3) (Nat.le_of_ble_eq_true rfl)
  rw [lg_entry_eq]
  generalize (lg_sl ([.ref o, .int p0, .int p1]) ++ List.replicate (3 - (lg_sl ([.ref o, .int p0, .int p1])).length) Slot.unset).toArray = ls at hl ⊢
  have hl : lv_has ls 3 [(0, .ref o), (1, .int p0), (2, .int p1)] := hl
  refine lv_aload_n hx hb dX5_init_0 rfl (lv_at hl 0 rfl) ?_
  refine W.objInit hx hb hown (hts _ wd_X5_init_oi3) (hts _ wd_X5_init_oii) (hts _ wd_X5_init_oic) rfl (by rw [hml]; exact hl.1) rfl dX5_init_1 (Nat.le_of_ble_eq_true rfl) (Nat.le_of_ble_eq_true rfl) ?_
  refine W.eq (g2 := F0 m 4 ls []) rfl ?_
  refine lv_aload_n hx hb dX5_init_4 rfl (lv_at hl 0 rfl) ?_
  refine lv_iconst (v := (-1)) hx hb dX5_init_5 (by decide) ?_
  refine hp_puti (ci := 5) (ty := .int) (x := (-1)) hx hb hts ix_X5_init_5 tyX5 tyX5_ok nmX5 hown hK h ho (by decide) rfl 6 506 (by decide) (hts _ lk_X5_init_9) (fun _ h9 => h9) rfl (by decide +kernel) rfl rfl (fun _ _ => rfl) (fun _ _ => Nat.le_of_ble_eq_true rfl) dX5_init_6 (fun H locs w1 ew1 h => ?_)
  have hp := hp w1 ew1
  refine lv_aload_n hx hb dX5_init_9 rfl (lv_at hl 0 rfl) ?_
  refine lv_iconst (v := (-1)) hx hb dX5_init_10 (by decide) ?_
  refine hp_puti (ci := 5) (ty := .int) (x := (-1)) hx hb hts ix_X5_init_5 tyX5 tyX5_ok nmX5 hown hK h ho (by decide) rfl 7 507 (by decide) (hts _ lk_X5_init_15) (fun _ h9 => h9) rfl (by decide +kernel) rfl rfl (fun _ _ => rfl) (fun _ _ => Nat.le_of_ble_eq_true rfl) dX5_init_11 (fun H locs w2 ew2 h => ?_)
  have hp := hp w2 ew2
  refine lv_aload_n hx hb dX5_init_14 rfl (lv_at hl 0 rfl) ?_
  refine lv_iconst (v := (-1)) hx hb dX5_init_15 (by decide) ?_
  refine hp_puti (ci := 5) (ty := .int) (x := (-1)) hx hb hts ix_X5_init_5 tyX5 tyX5_ok nmX5 hown hK h ho (by decide) rfl 8 508 (by decide) (hts _ lk_X5_init_18) (fun _ h9 => h9) rfl (by decide +kernel) rfl rfl (fun _ _ => rfl) (fun _ _ => Nat.le_of_ble_eq_true rfl) dX5_init_16 (fun H locs w3 ew3 h => ?_)
  have hp := hp w3 ew3
  refine lv_aload_n hx hb dX5_init_19 rfl (lv_at hl 0 rfl) ?_
  refine lv_iload_n hx hb dX5_init_20 rfl (lv_at hl 1 rfl) ?_
  refine hp_putiF (ci := 5) (ty := .int) (x := p0) hx hb hts ix_X5_init_5 tyX5 tyX5_ok nmX5 hown hK h ho (by decide) rfl 0 500 (by decide) (hts _ lk_X5_init_21) (fun _ h9 => h9) rfl hmn rfl (by decide +kernel) rfl rfl (fun _ _ => rfl) (fun _ _ => Nat.le_of_ble_eq_true rfl) dX5_init_21 (fun H locs w4 ew4 h => ?_)
  have hp := hp w4 ew4
  refine lv_aload_n hx hb dX5_init_24 rfl (lv_at hl 0 rfl) ?_
  refine lv_iload_n hx hb dX5_init_25 rfl (lv_at hl 2 rfl) ?_
  refine hp_putiF (ci := 5) (ty := .int) (x := p1) hx hb hts ix_X5_init_5 tyX5 tyX5_ok nmX5 hown hK h ho (by decide) rfl 1 501 (by decide) (hts _ lk_X5_init_24) (fun _ h9 => h9) rfl hmn rfl (by decide +kernel) rfl rfl (fun _ _ => rfl) (fun _ _ => Nat.le_of_ble_eq_true rfl) dX5_init_26 (fun H locs w5 ew5 h => ?_)
  have hp := hp w5 ew5
  refine lv_aload_n hx hb dX5_init_29 rfl (lv_at hl 0 rfl) ?_
  refine lv_iload_n hx hb dX5_init_30 rfl (lv_at hl 2 rfl) ?_
  refine hp_puti (ci := 5) (ty := .int) (x := p1) hx hb hts ix_X5_init_5 tyX5 tyX5_ok nmX5 hown hK h ho (by decide) rfl 2 502 (by decide) (hts _ lk_X5_init_27) (fun _ h9 => h9) rfl (by decide +kernel) rfl rfl (fun _ _ => rfl) (fun _ _ => Nat.le_of_ble_eq_true rfl) dX5_init_31 (fun H locs w6 ew6 h => ?_)
  have hp := hp w6 ew6
  refine lv_aload_n hx hb dX5_init_34 rfl (lv_at hl 0 rfl) ?_
  refine lv_iload_n hx hb dX5_init_35 rfl (lv_at hl 2 rfl) ?_
  refine hp_puti (ci := 5) (ty := .int) (x := p1) hx hb hts ix_X5_init_5 tyX5 tyX5_ok nmX5 hown hK h ho (by decide) rfl 3 503 (by decide) (hts _ lk_X5_init_30) (fun _ h9 => h9) rfl (by decide +kernel) rfl rfl (fun _ _ => rfl) (fun _ _ => Nat.le_of_ble_eq_true rfl) dX5_init_36 (fun H locs w7 ew7 h => ?_)
  have hp := hp w7 ew7
  exact hp_nvret hx hb hr hlocks hK h hp dX5_init_39 (Nat.le_of_ble_eq_true rfl) (Nat.le_of_ble_eq_true rfl)
abbrev rmX0_init : Room := { frames := 1, cells := 1, slots := 600, locals := 12 }
theorem wd_X0_init_oi3 : Cond.methodLink RX0 3 objectInit ∈ wsX0_init := by decide +kernel
theorem wd_X0_init_oii : Cond.instanceMethod objectInit ∈ wsX0_init := by decide +kernel
theorem wd_X0_init_oic : Cond.code objectInit ⟨#[0xb1]⟩ 1 none ∈ wsX0_init := by decide +kernel
theorem wd_X0_init_acint : Cond.arrayClass .int ∈ wsX0_init := by decide +kernel
theorem ix_X0_init_0 : ∀ w ∈ wsX00, w ∈ wsX0_init := by decide +kernel
theorem lk_X0_init_9 : Cond.fieldLink RX0 9 "KelpShores$Family" "owed" "[I" ∈ wsX0_init := by decide +kernel
theorem lk_X0_init_15 : Cond.fieldLink RX0 15 "KelpShores$Family" "hands" "I" ∈ wsX0_init := by decide +kernel
set_option maxRecDepth 100000 in
def wp_X0_init (z : Zt) (o : Nat) (w : Vt) (K : Zt → Vt → Prop) : Prop := isO z 0 o ∧ ∀ q1 : Nat, q1 ∉ z.2.1 → wZ (nZ z q1 1000) (fun z => ∀ w2 : Vt, w2 = nV w q1 → isO z 0 o ∧ isO z 1000 q1 ∧ wZ (uR z 0 o (some q1)) (fun z => isO z 0 o ∧ ∀ w3 : Vt, w3 = uI w2 1 o 4 → K z w3))
set_option maxHeartbeats 4000000 in
set_option maxRecDepth 100000 in
theorem k_X0_init (l : Launch) (G : Gt) (z : Zt) (w : Vt) (sz : Nat) (o : Nat) (K : Zt → Vt → Prop) (hp : wp_X0_init z o w K) : NV l yX0_init wsX0_init rmX0_init G z w sz [.ref o] K 1 600 := by
  refine Met.ofW (cc := cX0_init) (maxL := 1) (ret := none) (by decide +kernel) rfl ?_
  intro p e s m args below meth c s₁ B hml hv
  obtain ⟨rfl, rfl, C, h⟩ := hp_start B hml hv
  generalize gA G z w s.heap.size = A at C h ⊢
  obtain ⟨hx, hb, hr, hlocks, hml, hown, hts, hK, hA, hE⟩ := id C
  have hmn : meth.name = "<init>" := (name_of_methodNamed B.named B.method).1
  obtain ⟨ho, hp⟩ := hp
  have hl := lv_entry ([.ref o]) (n := 1) (Nat.le_of_ble_eq_true rfl)
  rw [lg_entry_eq]
  generalize (lg_sl ([.ref o]) ++ List.replicate (1 - (lg_sl ([.ref o])).length) Slot.unset).toArray = ls at hl ⊢
  have hl : lv_has ls 1 [(0, .ref o)] := hl
  refine lv_aload_n hx hb dX0_init_0 rfl (lv_at hl 0 rfl) ?_
  refine W.objInit hx hb hown (hts _ wd_X0_init_oi3) (hts _ wd_X0_init_oii) (hts _ wd_X0_init_oic) rfl (by rw [hml]; exact hl.1) rfl dX0_init_1 (Nat.le_of_ble_eq_true rfl) (Nat.le_of_ble_eq_true rfl) ?_
  refine W.eq (g2 := F0 m 4 ls []) rfl ?_
  refine lv_aload_n hx hb dX0_init_4 rfl (lv_at hl 0 rfl) ?_
  refine lv_sipush (v := 600) hx hb dX0_init_5 (by decide) ?_
  refine hp_newa (atype := .int) (ty := .int) hx hb (hts _ wd_X0_init_acint) rfl 1000 1 rfl (fun _ h9 => h9) hK h hA (fun _ => rfl) (by decide) rfl (by decide) (by decide) (by decide) (Nat.le_of_ble_eq_true rfl) (Nat.le_of_ble_eq_true rfl) dX0_init_8 (fun q1 z w2 H hqq1 ezq1 ewq1 h => ?_)
  have hp := hp q1 hqq1 z ezq1 w2 ewq1
  obtain ⟨ho, hp⟩ := hp
  obtain ⟨hoq1, hp⟩ := hp
  refine hp_putrF (ci := 0) (ty := .array .int) (b := q1) hx hb hts ix_X0_init_0 tyX0 tyX0_ok nmX0 hown hK h ho (by decide) rfl 0 0 (by decide) (hts _ lk_X0_init_9) (fun _ h9 => h9) rfl hmn rfl (by decide +kernel) rfl rfl (fun _ _ => rfl) (fun _ _ => Nat.le_of_ble_eq_true rfl) dX0_init_10 (fun H locs z ez h => ?_)
  have hp := hp z ez
  obtain ⟨ho, hp⟩ := hp
  refine lv_aload_n hx hb dX0_init_13 rfl (lv_at hl 0 rfl) ?_
  refine lv_iconst (v := 4) hx hb dX0_init_14 (by decide) ?_
  refine hp_puti (ci := 0) (ty := .int) (x := 4) hx hb hts ix_X0_init_0 tyX0 tyX0_ok nmX0 hown hK h ho (by decide) rfl 1 1 (by decide) (hts _ lk_X0_init_15) (fun _ h9 => h9) rfl (by decide +kernel) rfl rfl (fun _ _ => rfl) (fun _ _ => Nat.le_of_ble_eq_true rfl) dX0_init_15 (fun H locs w3 ew3 h => ?_)
  have hp := hp w3 ew3
  exact hp_nvret hx hb hr hlocks hK h hp dX0_init_18 (Nat.le_of_ble_eq_true rfl) (Nat.le_of_ble_eq_true rfl)
abbrev rmX7_init : Room := { frames := 1, cells := 5, slots := 1000, locals := 12 }
theorem wd_X7_init_oi3 : Cond.methodLink RX7 3 objectInit ∈ wsX7_init := by decide +kernel
theorem wd_X7_init_oii : Cond.instanceMethod objectInit ∈ wsX7_init := by decide +kernel
theorem wd_X7_init_oic : Cond.code objectInit ⟨#[0xb1]⟩ 1 none ∈ wsX7_init := by decide +kernel
theorem wd_X7_init_acint : Cond.arrayClass .int ∈ wsX7_init := by decide +kernel
theorem ix_X7_init_7 : ∀ w ∈ wsX70, w ∈ wsX7_init := by decide +kernel
theorem lk_X7_init_9 : Cond.fieldLink RX7 9 "KelpShores$Store" "familyOf" "[I" ∈ wsX7_init := by decide +kernel
theorem lk_X7_init_15 : Cond.fieldLink RX7 15 "KelpShores$Store" "money" "[I" ∈ wsX7_init := by decide +kernel
theorem lk_X7_init_18 : Cond.fieldLink RX7 18 "KelpShores$Store" "forDay" "[I" ∈ wsX7_init := by decide +kernel
theorem lk_X7_init_21 : Cond.fieldLink RX7 21 "KelpShores$Store" "toldOn" "[I" ∈ wsX7_init := by decide +kernel
theorem lk_X7_init_24 : Cond.fieldLink RX7 24 "KelpShores$Store" "takenBackOn" "[I" ∈ wsX7_init := by decide +kernel
set_option maxRecDepth 100000 in
def wp_X7_init (z : Zt) (o : Nat) (w : Vt) (K : Zt → Vt → Prop) : Prop := isO z 7 o ∧ ∀ q1 : Nat, q1 ∉ z.2.1 → wZ (nZ z q1 1700) (fun z => ∀ w2 : Vt, w2 = nV w q1 → isO z 7 o ∧ isO z 1700 q1 ∧ wZ (uR z 700 o (some q1)) (fun z => isO z 7 o ∧ ∀ q3 : Nat, q3 ∉ z.2.1 → wZ (nZ z q3 1701) (fun z => ∀ w4 : Vt, w4 = nV w2 q3 → isO z 7 o ∧ isO z 1701 q3 ∧ wZ (uR z 701 o (some q3)) (fun z => isO z 7 o ∧ ∀ q5 : Nat, q5 ∉ z.2.1 → wZ (nZ z q5 1702) (fun z => ∀ w6 : Vt, w6 = nV w4 q5 → isO z 7 o ∧ isO z 1702 q5 ∧ wZ (uR z 702 o (some q5)) (fun z => isO z 7 o ∧ ∀ q7 : Nat, q7 ∉ z.2.1 → wZ (nZ z q7 1703) (fun z => ∀ w8 : Vt, w8 = nV w6 q7 → isO z 7 o ∧ isO z 1703 q7 ∧ wZ (uR z 703 o (some q7)) (fun z => isO z 7 o ∧ ∀ q9 : Nat, q9 ∉ z.2.1 → wZ (nZ z q9 1704) (fun z => ∀ w10 : Vt, w10 = nV w8 q9 → isO z 7 o ∧ isO z 1704 q9 ∧ wZ (uR z 704 o (some q9)) (fun z => isO z 7 o ∧ K z w10))))))))))
set_option maxHeartbeats 4000000 in
set_option maxRecDepth 100000 in
theorem k_X7_init (l : Launch) (G : Gt) (z : Zt) (w : Vt) (sz : Nat) (o : Nat) (K : Zt → Vt → Prop) (hp : wp_X7_init z o w K) : NV l yX7_init wsX7_init rmX7_init G z w sz [.ref o] K 5 1000 := by
  refine Met.ofW (cc := cX7_init) (maxL := 1) (ret := none) (by decide +kernel) rfl ?_
  intro p e s m args below meth c s₁ B hml hv
  obtain ⟨rfl, rfl, C, h⟩ := hp_start B hml hv
  generalize gA G z w s.heap.size = A at C h ⊢
  obtain ⟨hx, hb, hr, hlocks, hml, hown, hts, hK, hA, hE⟩ := id C
  have hmn : meth.name = "<init>" := (name_of_methodNamed B.named B.method).1
  obtain ⟨ho, hp⟩ := hp
  have hl := lv_entry ([.ref o]) (n := 1) (Nat.le_of_ble_eq_true rfl)
  rw [lg_entry_eq]
  generalize (lg_sl ([.ref o]) ++ List.replicate (1 - (lg_sl ([.ref o])).length) Slot.unset).toArray = ls at hl ⊢
  have hl : lv_has ls 1 [(0, .ref o)] := hl
  refine lv_aload_n hx hb dX7_init_0 rfl (lv_at hl 0 rfl) ?_
  refine W.objInit hx hb hown (hts _ wd_X7_init_oi3) (hts _ wd_X7_init_oii) (hts _ wd_X7_init_oic) rfl (by rw [hml]; exact hl.1) rfl dX7_init_1 (Nat.le_of_ble_eq_true rfl) (Nat.le_of_ble_eq_true rfl) ?_
  refine W.eq (g2 := F0 m 4 ls []) rfl ?_
  refine lv_aload_n hx hb dX7_init_4 rfl (lv_at hl 0 rfl) ?_
  refine lv_sipush (v := 200) hx hb dX7_init_5 (by decide) ?_
  refine hp_newa (atype := .int) (ty := .int) hx hb (hts _ wd_X7_init_acint) rfl 1700 1 rfl (fun _ h9 => h9) hK h hA (fun _ => rfl) (by decide) rfl (by decide) (by decide) (by decide) (Nat.le_of_ble_eq_true rfl) (Nat.le_of_ble_eq_true rfl) dX7_init_8 (fun q1 z w2 H hqq1 ezq1 ewq1 h => ?_)
  have hp := hp q1 hqq1 z ezq1 w2 ewq1
  obtain ⟨ho, hp⟩ := hp
  obtain ⟨hoq1, hp⟩ := hp
  refine hp_putrF (ci := 7) (ty := .array .int) (b := q1) hx hb hts ix_X7_init_7 tyX7 tyX7_ok nmX7 hown hK h ho (by decide) rfl 0 700 (by decide) (hts _ lk_X7_init_9) (fun _ h9 => h9) rfl hmn rfl (by decide +kernel) rfl rfl (fun _ _ => rfl) (fun _ _ => Nat.le_of_ble_eq_true rfl) dX7_init_10 (fun H locs z ez h => ?_)
  have hp := hp z ez
  obtain ⟨ho, hp⟩ := hp
  refine lv_aload_n hx hb dX7_init_13 rfl (lv_at hl 0 rfl) ?_
  refine lv_sipush (v := 200) hx hb dX7_init_14 (by decide) ?_
  refine hp_newa (atype := .int) (ty := .int) hx hb (hts _ wd_X7_init_acint) rfl 1701 1 rfl (fun _ h9 => h9) hK h hA (fun _ => rfl) (by decide) rfl (by decide) (by decide) (by decide) (Nat.le_of_ble_eq_true rfl) (Nat.le_of_ble_eq_true rfl) dX7_init_17 (fun q3 z w4 H hqq3 ezq3 ewq3 h => ?_)
  have hp := hp q3 hqq3 z ezq3 w4 ewq3
  obtain ⟨ho, hp⟩ := hp
  obtain ⟨hoq3, hp⟩ := hp
  refine hp_putrF (ci := 7) (ty := .array .int) (b := q3) hx hb hts ix_X7_init_7 tyX7 tyX7_ok nmX7 hown hK h ho (by decide) rfl 1 701 (by decide) (hts _ lk_X7_init_15) (fun _ h9 => h9) rfl hmn rfl (by decide +kernel) rfl rfl (fun _ _ => rfl) (fun _ _ => Nat.le_of_ble_eq_true rfl) dX7_init_19 (fun H locs z ez h => ?_)
  have hp := hp z ez
  obtain ⟨ho, hp⟩ := hp
  refine lv_aload_n hx hb dX7_init_22 rfl (lv_at hl 0 rfl) ?_
  refine lv_sipush (v := 200) hx hb dX7_init_23 (by decide) ?_
  refine hp_newa (atype := .int) (ty := .int) hx hb (hts _ wd_X7_init_acint) rfl 1702 1 rfl (fun _ h9 => h9) hK h hA (fun _ => rfl) (by decide) rfl (by decide) (by decide) (by decide) (Nat.le_of_ble_eq_true rfl) (Nat.le_of_ble_eq_true rfl) dX7_init_26 (fun q5 z w6 H hqq5 ezq5 ewq5 h => ?_)
  have hp := hp q5 hqq5 z ezq5 w6 ewq5
  obtain ⟨ho, hp⟩ := hp
  obtain ⟨hoq5, hp⟩ := hp
  refine hp_putrF (ci := 7) (ty := .array .int) (b := q5) hx hb hts ix_X7_init_7 tyX7 tyX7_ok nmX7 hown hK h ho (by decide) rfl 2 702 (by decide) (hts _ lk_X7_init_18) (fun _ h9 => h9) rfl hmn rfl (by decide +kernel) rfl rfl (fun _ _ => rfl) (fun _ _ => Nat.le_of_ble_eq_true rfl) dX7_init_28 (fun H locs z ez h => ?_)
  have hp := hp z ez
  obtain ⟨ho, hp⟩ := hp
  refine lv_aload_n hx hb dX7_init_31 rfl (lv_at hl 0 rfl) ?_
  refine lv_sipush (v := 200) hx hb dX7_init_32 (by decide) ?_
  refine hp_newa (atype := .int) (ty := .int) hx hb (hts _ wd_X7_init_acint) rfl 1703 1 rfl (fun _ h9 => h9) hK h hA (fun _ => rfl) (by decide) rfl (by decide) (by decide) (by decide) (Nat.le_of_ble_eq_true rfl) (Nat.le_of_ble_eq_true rfl) dX7_init_35 (fun q7 z w8 H hqq7 ezq7 ewq7 h => ?_)
  have hp := hp q7 hqq7 z ezq7 w8 ewq7
  obtain ⟨ho, hp⟩ := hp
  obtain ⟨hoq7, hp⟩ := hp
  refine hp_putrF (ci := 7) (ty := .array .int) (b := q7) hx hb hts ix_X7_init_7 tyX7 tyX7_ok nmX7 hown hK h ho (by decide) rfl 3 703 (by decide) (hts _ lk_X7_init_21) (fun _ h9 => h9) rfl hmn rfl (by decide +kernel) rfl rfl (fun _ _ => rfl) (fun _ _ => Nat.le_of_ble_eq_true rfl) dX7_init_37 (fun H locs z ez h => ?_)
  have hp := hp z ez
  obtain ⟨ho, hp⟩ := hp
  refine lv_aload_n hx hb dX7_init_40 rfl (lv_at hl 0 rfl) ?_
  refine lv_sipush (v := 200) hx hb dX7_init_41 (by decide) ?_
  refine hp_newa (atype := .int) (ty := .int) hx hb (hts _ wd_X7_init_acint) rfl 1704 1 rfl (fun _ h9 => h9) hK h hA (fun _ => rfl) (by decide) rfl (by decide) (by decide) (by decide) (Nat.le_of_ble_eq_true rfl) (Nat.le_of_ble_eq_true rfl) dX7_init_44 (fun q9 z w10 H hqq9 ezq9 ewq9 h => ?_)
  have hp := hp q9 hqq9 z ezq9 w10 ewq9
  obtain ⟨ho, hp⟩ := hp
  obtain ⟨hoq9, hp⟩ := hp
  refine hp_putrF (ci := 7) (ty := .array .int) (b := q9) hx hb hts ix_X7_init_7 tyX7 tyX7_ok nmX7 hown hK h ho (by decide) rfl 4 704 (by decide) (hts _ lk_X7_init_24) (fun _ h9 => h9) rfl hmn rfl (by decide +kernel) rfl rfl (fun _ _ => rfl) (fun _ _ => Nat.le_of_ble_eq_true rfl) dX7_init_46 (fun H locs z ez h => ?_)
  have hp := hp z ez
  obtain ⟨ho, hp⟩ := hp
  exact hp_nvret hx hb hr hlocks hK h hp dX7_init_49 (Nat.le_of_ble_eq_true rfl) (Nat.le_of_ble_eq_true rfl)
abbrev rmX1_init : Room := { frames := 1, cells := 5, slots := 82, locals := 12 }
theorem wd_X1_init_oi3 : Cond.methodLink RX1 3 objectInit ∈ wsX1_init := by decide +kernel
theorem wd_X1_init_oii : Cond.instanceMethod objectInit ∈ wsX1_init := by decide +kernel
theorem wd_X1_init_oic : Cond.code objectInit ⟨#[0xb1]⟩ 1 none ∈ wsX1_init := by decide +kernel
theorem wd_X1_init_acboolean : Cond.arrayClass .boolean ∈ wsX1_init := by decide +kernel
theorem ix_X1_init_1 : ∀ w ∈ wsX10, w ∈ wsX1_init := by decide +kernel
theorem lk_X1_init_9 : Cond.fieldLink RX1 9 "KelpShores$Forecast" "low" "[Z" ∈ wsX1_init := by decide +kernel
theorem lk_X1_init_15 : Cond.fieldLink RX1 15 "KelpShores$Forecast" "windy" "[Z" ∈ wsX1_init := by decide +kernel
theorem lk_X1_init_18 : Cond.fieldLink RX1 18 "KelpShores$Forecast" "rainy" "[Z" ∈ wsX1_init := by decide +kernel
theorem wd_X1_init_acint : Cond.arrayClass .int ∈ wsX1_init := by decide +kernel
theorem lk_X1_init_21 : Cond.fieldLink RX1 21 "KelpShores$Forecast" "mostDry" "[I" ∈ wsX1_init := by decide +kernel
theorem lk_X1_init_25 : Cond.fieldLink RX1 25 "KelpShores$Forecast" "dayBefore" "[I" ∈ wsX1_init := by decide +kernel
set_option maxRecDepth 100000 in
def wp_X1_init (z : Zt) (o : Nat) (w : Vt) (K : Zt → Vt → Prop) : Prop := isO z 1 o ∧ ∀ q1 : Nat, q1 ∉ z.2.1 → wZ (nZ z q1 1100) (fun z => ∀ w2 : Vt, w2 = nV w q1 → isO z 1 o ∧ isO z 1100 q1 ∧ wZ (uR z 100 o (some q1)) (fun z => isO z 1 o ∧ ∀ q3 : Nat, q3 ∉ z.2.1 → wZ (nZ z q3 1101) (fun z => ∀ w4 : Vt, w4 = nV w2 q3 → isO z 1 o ∧ isO z 1101 q3 ∧ wZ (uR z 101 o (some q3)) (fun z => isO z 1 o ∧ ∀ q5 : Nat, q5 ∉ z.2.1 → wZ (nZ z q5 1102) (fun z => ∀ w6 : Vt, w6 = nV w4 q5 → isO z 1 o ∧ isO z 1102 q5 ∧ wZ (uR z 102 o (some q5)) (fun z => isO z 1 o ∧ ∀ q7 : Nat, q7 ∉ z.2.1 → wZ (nZ z q7 1104) (fun z => ∀ w8 : Vt, w8 = nV w6 q7 → isO z 1 o ∧ isO z 1104 q7 ∧ wZ (uR z 104 o (some q7)) (fun z => isO z 1 o ∧ ∀ q9 : Nat, q9 ∉ z.2.1 → wZ (nZ z q9 1105) (fun z => ∀ w10 : Vt, w10 = nV w8 q9 → isO z 1 o ∧ isO z 1105 q9 ∧ wZ (uR z 105 o (some q9)) (fun z => isO z 1 o ∧ K z w10))))))))))
set_option maxHeartbeats 4000000 in
set_option maxRecDepth 100000 in
theorem k_X1_init (l : Launch) (G : Gt) (z : Zt) (w : Vt) (sz : Nat) (o : Nat) (K : Zt → Vt → Prop) (hp : wp_X1_init z o w K) : NV l yX1_init wsX1_init rmX1_init G z w sz [.ref o] K 5 82 := by
  refine Met.ofW (cc := cX1_init) (maxL := 1) (ret := none) (by decide +kernel) rfl ?_
  intro p e s m args below meth c s₁ B hml hv
  obtain ⟨rfl, rfl, C, h⟩ := hp_start B hml hv
  generalize gA G z w s.heap.size = A at C h ⊢
  obtain ⟨hx, hb, hr, hlocks, hml, hown, hts, hK, hA, hE⟩ := id C
  have hmn : meth.name = "<init>" := (name_of_methodNamed B.named B.method).1
  obtain ⟨ho, hp⟩ := hp
  have hl := lv_entry ([.ref o]) (n := 1) (Nat.le_of_ble_eq_true rfl)
  rw [lg_entry_eq]
  generalize (lg_sl ([.ref o]) ++ List.replicate (1 - (lg_sl ([.ref o])).length) Slot.unset).toArray = ls at hl ⊢
  have hl : lv_has ls 1 [(0, .ref o)] := hl
  refine lv_aload_n hx hb dX1_init_0 rfl (lv_at hl 0 rfl) ?_
  refine W.objInit hx hb hown (hts _ wd_X1_init_oi3) (hts _ wd_X1_init_oii) (hts _ wd_X1_init_oic) rfl (by rw [hml]; exact hl.1) rfl dX1_init_1 (Nat.le_of_ble_eq_true rfl) (Nat.le_of_ble_eq_true rfl) ?_
  refine W.eq (g2 := F0 m 4 ls []) rfl ?_
  refine lv_aload_n hx hb dX1_init_4 rfl (lv_at hl 0 rfl) ?_
  refine lv_bipush (v := 16) hx hb dX1_init_5 (by decide) ?_
  refine hp_newa (atype := .boolean) (ty := .boolean) hx hb (hts _ wd_X1_init_acboolean) rfl 1100 2 rfl (fun _ h9 => h9) hK h hA (fun _ => rfl) (by decide) rfl (by decide) (by decide) (by decide) (Nat.le_of_ble_eq_true rfl) (Nat.le_of_ble_eq_true rfl) dX1_init_7 (fun q1 z w2 H hqq1 ezq1 ewq1 h => ?_)
  have hp := hp q1 hqq1 z ezq1 w2 ewq1
  obtain ⟨ho, hp⟩ := hp
  obtain ⟨hoq1, hp⟩ := hp
  refine hp_putrF (ci := 1) (ty := .array .boolean) (b := q1) hx hb hts ix_X1_init_1 tyX1 tyX1_ok nmX1 hown hK h ho (by decide) rfl 0 100 (by decide) (hts _ lk_X1_init_9) (fun _ h9 => h9) rfl hmn rfl (by decide +kernel) rfl rfl (fun _ _ => rfl) (fun _ _ => Nat.le_of_ble_eq_true rfl) dX1_init_9 (fun H locs z ez h => ?_)
  have hp := hp z ez
  obtain ⟨ho, hp⟩ := hp
  refine lv_aload_n hx hb dX1_init_12 rfl (lv_at hl 0 rfl) ?_
  refine lv_bipush (v := 16) hx hb dX1_init_13 (by decide) ?_
  refine hp_newa (atype := .boolean) (ty := .boolean) hx hb (hts _ wd_X1_init_acboolean) rfl 1101 2 rfl (fun _ h9 => h9) hK h hA (fun _ => rfl) (by decide) rfl (by decide) (by decide) (by decide) (Nat.le_of_ble_eq_true rfl) (Nat.le_of_ble_eq_true rfl) dX1_init_15 (fun q3 z w4 H hqq3 ezq3 ewq3 h => ?_)
  have hp := hp q3 hqq3 z ezq3 w4 ewq3
  obtain ⟨ho, hp⟩ := hp
  obtain ⟨hoq3, hp⟩ := hp
  refine hp_putrF (ci := 1) (ty := .array .boolean) (b := q3) hx hb hts ix_X1_init_1 tyX1 tyX1_ok nmX1 hown hK h ho (by decide) rfl 1 101 (by decide) (hts _ lk_X1_init_15) (fun _ h9 => h9) rfl hmn rfl (by decide +kernel) rfl rfl (fun _ _ => rfl) (fun _ _ => Nat.le_of_ble_eq_true rfl) dX1_init_17 (fun H locs z ez h => ?_)
  have hp := hp z ez
  obtain ⟨ho, hp⟩ := hp
  refine lv_aload_n hx hb dX1_init_20 rfl (lv_at hl 0 rfl) ?_
  refine lv_bipush (v := 16) hx hb dX1_init_21 (by decide) ?_
  refine hp_newa (atype := .boolean) (ty := .boolean) hx hb (hts _ wd_X1_init_acboolean) rfl 1102 2 rfl (fun _ h9 => h9) hK h hA (fun _ => rfl) (by decide) rfl (by decide) (by decide) (by decide) (Nat.le_of_ble_eq_true rfl) (Nat.le_of_ble_eq_true rfl) dX1_init_23 (fun q5 z w6 H hqq5 ezq5 ewq5 h => ?_)
  have hp := hp q5 hqq5 z ezq5 w6 ewq5
  obtain ⟨ho, hp⟩ := hp
  obtain ⟨hoq5, hp⟩ := hp
  refine hp_putrF (ci := 1) (ty := .array .boolean) (b := q5) hx hb hts ix_X1_init_1 tyX1 tyX1_ok nmX1 hown hK h ho (by decide) rfl 2 102 (by decide) (hts _ lk_X1_init_18) (fun _ h9 => h9) rfl hmn rfl (by decide +kernel) rfl rfl (fun _ _ => rfl) (fun _ _ => Nat.le_of_ble_eq_true rfl) dX1_init_25 (fun H locs z ez h => ?_)
  have hp := hp z ez
  obtain ⟨ho, hp⟩ := hp
  refine lv_aload_n hx hb dX1_init_28 rfl (lv_at hl 0 rfl) ?_
  refine lv_bipush (v := 17) hx hb dX1_init_29 (by decide) ?_
  refine hp_newa (atype := .int) (ty := .int) hx hb (hts _ wd_X1_init_acint) rfl 1104 1 rfl (fun _ h9 => h9) hK h hA (fun _ => rfl) (by decide) rfl (by decide) (by decide) (by decide) (Nat.le_of_ble_eq_true rfl) (Nat.le_of_ble_eq_true rfl) dX1_init_31 (fun q7 z w8 H hqq7 ezq7 ewq7 h => ?_)
  have hp := hp q7 hqq7 z ezq7 w8 ewq7
  obtain ⟨ho, hp⟩ := hp
  obtain ⟨hoq7, hp⟩ := hp
  refine hp_putrF (ci := 1) (ty := .array .int) (b := q7) hx hb hts ix_X1_init_1 tyX1 tyX1_ok nmX1 hown hK h ho (by decide) rfl 4 104 (by decide) (hts _ lk_X1_init_21) (fun _ h9 => h9) rfl hmn rfl (by decide +kernel) rfl rfl (fun _ _ => rfl) (fun _ _ => Nat.le_of_ble_eq_true rfl) dX1_init_33 (fun H locs z ez h => ?_)
  have hp := hp z ez
  obtain ⟨ho, hp⟩ := hp
  refine lv_aload_n hx hb dX1_init_36 rfl (lv_at hl 0 rfl) ?_
  refine lv_bipush (v := 17) hx hb dX1_init_37 (by decide) ?_
  refine hp_newa (atype := .int) (ty := .int) hx hb (hts _ wd_X1_init_acint) rfl 1105 1 rfl (fun _ h9 => h9) hK h hA (fun _ => rfl) (by decide) rfl (by decide) (by decide) (by decide) (Nat.le_of_ble_eq_true rfl) (Nat.le_of_ble_eq_true rfl) dX1_init_39 (fun q9 z w10 H hqq9 ezq9 ewq9 h => ?_)
  have hp := hp q9 hqq9 z ezq9 w10 ewq9
  obtain ⟨ho, hp⟩ := hp
  obtain ⟨hoq9, hp⟩ := hp
  refine hp_putrF (ci := 1) (ty := .array .int) (b := q9) hx hb hts ix_X1_init_1 tyX1 tyX1_ok nmX1 hown hK h ho (by decide) rfl 5 105 (by decide) (hts _ lk_X1_init_25) (fun _ h9 => h9) rfl hmn rfl (by decide +kernel) rfl rfl (fun _ _ => rfl) (fun _ _ => Nat.le_of_ble_eq_true rfl) dX1_init_41 (fun H locs z ez h => ?_)
  have hp := hp z ez
  obtain ⟨ho, hp⟩ := hp
  exact hp_nvret hx hb hr hlocks hK h hp dX1_init_44 (Nat.le_of_ble_eq_true rfl) (Nat.le_of_ble_eq_true rfl)
abbrev rmX3_init : Room := { frames := 1, cells := 0, slots := 0, locals := 12 }
theorem wd_X3_init_oi3 : Cond.methodLink RX3 3 objectInit ∈ wsX3_init := by decide +kernel
theorem wd_X3_init_oii : Cond.instanceMethod objectInit ∈ wsX3_init := by decide +kernel
theorem wd_X3_init_oic : Cond.code objectInit ⟨#[0xb1]⟩ 1 none ∈ wsX3_init := by decide +kernel
theorem ix_X3_init_3 : ∀ w ∈ wsX30, w ∈ wsX3_init := by decide +kernel
theorem lk_X3_init_9 : Cond.fieldLink RX3 9 "KelpShores$Pit" "owner" "LKelpShores$Family;" ∈ wsX3_init := by decide +kernel
set_option maxRecDepth 100000 in
def wp_X3_init (z : Zt) (o : Nat) (p0 : Nat) (w : Vt) (K : Zt → Vt → Prop) : Prop := isO z 3 o ∧ isO z 0 p0 ∧ wZ (uR z 300 o (some p0)) (fun z => isO z 3 o ∧ isO z 0 p0 ∧ K z w)
set_option maxHeartbeats 4000000 in
set_option maxRecDepth 100000 in
theorem k_X3_init (l : Launch) (G : Gt) (z : Zt) (w : Vt) (sz : Nat) (o : Nat) (p0 : Nat) (K : Zt → Vt → Prop) (hp : wp_X3_init z o p0 w K) : NV l yX3_init wsX3_init rmX3_init G z w sz [.ref o, .ref p0] K 0 0 := by
  refine Met.ofW (cc := cX3_init) (maxL := 2) (ret := none) (by decide +kernel) rfl ?_
  intro p e s m args below meth c s₁ B hml hv
  obtain ⟨rfl, rfl, C, h⟩ := hp_start B hml hv
  generalize gA G z w s.heap.size = A at C h ⊢
  obtain ⟨hx, hb, hr, hlocks, hml, hown, hts, hK, hA, hE⟩ := id C
  have hmn : meth.name = "<init>" := (name_of_methodNamed B.named B.method).1
  obtain ⟨ho, hp⟩ := hp
  obtain ⟨hop0, hp⟩ := hp
  have hl := lv_entry ([.ref o, .ref p0]) (n := 2) (Nat.le_of_ble_eq_true rfl)
  rw [lg_entry_eq]
  generalize (lg_sl ([.ref o, .ref p0]) ++ List.replicate (2 - (lg_sl ([.ref o, .ref p0])).length) Slot.unset).toArray = ls at hl ⊢
  have hl : lv_has ls 2 [(0, .ref o), (1, .ref p0)] := hl
  refine lv_aload_n hx hb dX3_init_0 rfl (lv_at hl 0 rfl) ?_
  refine W.objInit hx hb hown (hts _ wd_X3_init_oi3) (hts _ wd_X3_init_oii) (hts _ wd_X3_init_oic) rfl (by rw [hml]; exact hl.1) rfl dX3_init_1 (Nat.le_of_ble_eq_true rfl) (Nat.le_of_ble_eq_true rfl) ?_
  refine W.eq (g2 := F0 m 4 ls []) rfl ?_
  refine lv_aload_n hx hb dX3_init_4 rfl (lv_at hl 0 rfl) ?_
  refine lv_aload_n hx hb dX3_init_5 rfl (lv_at hl 1 rfl) ?_
  refine hp_putrF (ci := 3) (ty := .object "KelpShores$Family") (b := p0) hx hb hts ix_X3_init_3 tyX3 tyX3_ok nmX3 hown hK h ho (by decide) rfl 0 300 (by decide) (hts _ lk_X3_init_9) (fun _ h9 => h9) rfl hmn rfl (by decide +kernel) rfl rfl (fun _ _ => rfl) (fun _ _ => Nat.le_of_ble_eq_true rfl) dX3_init_6 (fun H locs z ez h => ?_)
  have hp := hp z ez
  obtain ⟨ho, hp⟩ := hp
  obtain ⟨hop0, hp⟩ := hp
  exact hp_nvret hx hb hr hlocks hK h hp dX3_init_9 (Nat.le_of_ble_eq_true rfl) (Nat.le_of_ble_eq_true rfl)
abbrev rmX2_init : Room := { frames := 1, cells := 0, slots := 0, locals := 12 }
theorem wd_X2_init_oi1 : Cond.methodLink RX2 1 objectInit ∈ wsX2_init := by decide +kernel
theorem wd_X2_init_oii : Cond.instanceMethod objectInit ∈ wsX2_init := by decide +kernel
theorem wd_X2_init_oic : Cond.code objectInit ⟨#[0xb1]⟩ 1 none ∈ wsX2_init := by decide +kernel
theorem ix_X2_init_2 : ∀ w ∈ wsX20, w ∈ wsX2_init := by decide +kernel
theorem lk_X2_init_7 : Cond.fieldLink RX2 7 "KelpShores$Lot" "family" "I" ∈ wsX2_init := by decide +kernel
theorem lk_X2_init_13 : Cond.fieldLink RX2 13 "KelpShores$Lot" "amount" "I" ∈ wsX2_init := by decide +kernel
theorem lk_X2_init_16 : Cond.fieldLink RX2 16 "KelpShores$Lot" "strength" "I" ∈ wsX2_init := by decide +kernel
theorem lk_X2_init_19 : Cond.fieldLink RX2 19 "KelpShores$Lot" "doubted" "Z" ∈ wsX2_init := by decide +kernel
theorem lk_X2_init_23 : Cond.fieldLink RX2 23 "KelpShores$Lot" "entry" "I" ∈ wsX2_init := by decide +kernel
set_option maxRecDepth 100000 in
def wp_X2_init (z : Zt) (o : Nat) (p0 : Int32) (p1 : Int32) (p2 : Int32) (p3 : Int32) (p4 : Int32) (w : Vt) (K : Zt → Vt → Prop) : Prop := isO z 2 o ∧ ∀ w1 : Vt, w1 = uI w 200 o p0 → ∀ w2 : Vt, w2 = uI w1 201 o p1 → ∀ w3 : Vt, w3 = uI w2 202 o p2 → isB p3 ∧ ∀ w4 : Vt, w4 = uI w3 203 o p3 → ∀ w5 : Vt, w5 = uI w4 204 o p4 → K z w5
set_option maxHeartbeats 4000000 in
set_option maxRecDepth 100000 in
theorem k_X2_init (l : Launch) (G : Gt) (z : Zt) (w : Vt) (sz : Nat) (o : Nat) (p0 : Int32) (p1 : Int32) (p2 : Int32) (p3 : Int32) (p4 : Int32) (K : Zt → Vt → Prop) (hp : wp_X2_init z o p0 p1 p2 p3 p4 w K) : NV l yX2_init wsX2_init rmX2_init G z w sz [.ref o, .int p0, .int p1, .int p2, .int p3, .int p4] K 0 0 := by
  refine Met.ofW (cc := cX2_init) (maxL := 6) (ret := none) (by decide +kernel) rfl ?_
  intro p e s m args below meth c s₁ B hml hv
  obtain ⟨rfl, rfl, C, h⟩ := hp_start B hml hv
  generalize gA G z w s.heap.size = A at C h ⊢
  obtain ⟨hx, hb, hr, hlocks, hml, hown, hts, hK, hA, hE⟩ := id C
  have hmn : meth.name = "<init>" := (name_of_methodNamed B.named B.method).1
  obtain ⟨ho, hp⟩ := hp
  have hl := lv_entry ([.ref o, .int p0, .int p1, .int p2, .int p3, .int p4]) (n := 6) (Nat.le_of_ble_eq_true rfl)
  rw [lg_entry_eq]
  generalize (lg_sl ([.ref o, .int p0, .int p1, .int p2, .int p3, .int p4]) ++ List.replicate (6 - (lg_sl ([.ref o, .int p0, .int p1, .int p2, .int p3, .int p4])).length) Slot.unset).toArray = ls at hl ⊢
  have hl : lv_has ls 6 [(0, .ref o), (1, .int p0), (2, .int p1), (3, .int p2), (4, .int p3), (5, .int p4)] := hl
  refine lv_aload_n hx hb dX2_init_0 rfl (lv_at hl 0 rfl) ?_
  refine W.objInit hx hb hown (hts _ wd_X2_init_oi1) (hts _ wd_X2_init_oii) (hts _ wd_X2_init_oic) rfl (by rw [hml]; exact hl.1) rfl dX2_init_1 (Nat.le_of_ble_eq_true rfl) (Nat.le_of_ble_eq_true rfl) ?_
  refine W.eq (g2 := F0 m 4 ls []) rfl ?_
  refine lv_aload_n hx hb dX2_init_4 rfl (lv_at hl 0 rfl) ?_
  refine lv_iload_n hx hb dX2_init_5 rfl (lv_at hl 1 rfl) ?_
  refine hp_putiF (ci := 2) (ty := .int) (x := p0) hx hb hts ix_X2_init_2 tyX2 tyX2_ok nmX2 hown hK h ho (by decide) rfl 0 200 (by decide) (hts _ lk_X2_init_7) (fun _ h9 => h9) rfl hmn rfl (by decide +kernel) rfl rfl (fun _ _ => rfl) (fun _ _ => Nat.le_of_ble_eq_true rfl) dX2_init_6 (fun H locs w1 ew1 h => ?_)
  have hp := hp w1 ew1
  refine lv_aload_n hx hb dX2_init_9 rfl (lv_at hl 0 rfl) ?_
  refine lv_iload_n hx hb dX2_init_10 rfl (lv_at hl 2 rfl) ?_
  refine hp_putiF (ci := 2) (ty := .int) (x := p1) hx hb hts ix_X2_init_2 tyX2 tyX2_ok nmX2 hown hK h ho (by decide) rfl 1 201 (by decide) (hts _ lk_X2_init_13) (fun _ h9 => h9) rfl hmn rfl (by decide +kernel) rfl rfl (fun _ _ => rfl) (fun _ _ => Nat.le_of_ble_eq_true rfl) dX2_init_11 (fun H locs w2 ew2 h => ?_)
  have hp := hp w2 ew2
  refine lv_aload_n hx hb dX2_init_14 rfl (lv_at hl 0 rfl) ?_
  refine lv_iload_n hx hb dX2_init_15 rfl (lv_at hl 3 rfl) ?_
  refine hp_putiF (ci := 2) (ty := .int) (x := p2) hx hb hts ix_X2_init_2 tyX2 tyX2_ok nmX2 hown hK h ho (by decide) rfl 2 202 (by decide) (hts _ lk_X2_init_16) (fun _ h9 => h9) rfl hmn rfl (by decide +kernel) rfl rfl (fun _ _ => rfl) (fun _ _ => Nat.le_of_ble_eq_true rfl) dX2_init_16 (fun H locs w3 ew3 h => ?_)
  have hp := hp w3 ew3
  refine lv_aload_n hx hb dX2_init_19 rfl (lv_at hl 0 rfl) ?_
  refine lv_iload hx hb dX2_init_20 (lv_at hl 4 rfl) ?_
  obtain ⟨hBw4, hp⟩ := hp
  refine hp_putiF (ci := 2) (ty := .boolean) (x := p3) hx hb hts ix_X2_init_2 tyX2 tyX2_ok nmX2 hown hK h ho (by decide) rfl 3 203 (by decide) (hts _ lk_X2_init_19) (fun _ h9 => h9) rfl hmn rfl (by decide +kernel) (isB_n hBw4) (isB_f hBw4) (fun _ _ => rfl) (fun _ _ => Nat.le_of_ble_eq_true rfl) dX2_init_22 (fun H locs w4 ew4 h => ?_)
  have hp := hp w4 ew4
  refine lv_aload_n hx hb dX2_init_25 rfl (lv_at hl 0 rfl) ?_
  refine lv_iload hx hb dX2_init_26 (lv_at hl 5 rfl) ?_
  refine hp_putiF (ci := 2) (ty := .int) (x := p4) hx hb hts ix_X2_init_2 tyX2 tyX2_ok nmX2 hown hK h ho (by decide) rfl 4 204 (by decide) (hts _ lk_X2_init_23) (fun _ h9 => h9) rfl hmn rfl (by decide +kernel) rfl rfl (fun _ _ => rfl) (fun _ _ => Nat.le_of_ble_eq_true rfl) dX2_init_28 (fun H locs w5 ew5 h => ?_)
  have hp := hp w5 ew5
  exact hp_nvret hx hb hr hlocks hK h hp dX2_init_31 (Nat.le_of_ble_eq_true rfl) (Nat.le_of_ble_eq_true rfl)
