abbrev rmX9_isWithin : Room := { frames := 0, cells := 0, slots := 0, locals := 0 }
def wp_X9_isWithin (z : Zt) (p0 : Int32) (p1 : Int32) (p2 : Int32) (w : Vt) (K : Int32 → Vt → Prop) : Prop := (p0 < p1 → K 0 w) ∧ (¬ p0 < p1 → (p2 < p0 → K 0 w) ∧ (¬ p2 < p0 → K 1 w))
set_option maxHeartbeats 4000000 in
set_option maxRecDepth 100000 in
theorem k_X9_isWithin (l : Launch) (G : Gt) (z : Zt) (w : Vt) (sz : Nat) (p0 : Int32) (p1 : Int32) (p2 : Int32) (K : Int32 → Vt → Prop) (hp : wp_X9_isWithin z p0 p1 p2 w K) : MI l yX9_isWithin wsX9_isWithin rmX9_isWithin G z w sz [.int p0, .int p1, .int p2] K := by
  refine Met.ofW (cc := cX9_isWithin) (maxL := 3) (ret := (some .boolean)) (by decide +kernel) rfl ?_
  intro p e s m args below meth c s₁ B hml hv
  obtain ⟨rfl, rfl, C, h⟩ := hp_start B hml hv
  generalize gA G z w s.heap.size = A at C h ⊢
  obtain ⟨hx, hb, hr, hlocks, hml, hown, hts, hK, hA, hE⟩ := id C
  have hl := lv_entry ([.int p0, .int p1, .int p2]) (n := 3) (Nat.le_of_ble_eq_true rfl)
  rw [lg_entry_eq]
  generalize (lg_sl ([.int p0, .int p1, .int p2]) ++ List.replicate (3 - (lg_sl ([.int p0, .int p1, .int p2])).length) Slot.unset).toArray = ls at hl ⊢
  have hl : lv_has ls 3 [(0, .int p0), (1, .int p1), (2, .int p2)] := hl
  refine lv_iload_n hx hb dX9_isWithin_0 rfl (lv_at hl 0 rfl) ?_
  refine lv_iload_n hx hb dX9_isWithin_1 rfl (lv_at hl 1 rfl) ?_
  refine lv_icmp_lt (tgt := 14) hx hb dX9_isWithin_2 (by decide) (fun hc1 => ?_) (fun hc1 => ?_)
  · have hp := hp.1 hc1
    refine lv_iconst (v := 0) hx hb dX9_isWithin_14 (by decide) ?_
    exact hp_iret hx hb hr rfl hlocks hK h hp dX9_isWithin_15
  · have hp := hp.2 hc1
    refine lv_iload_n hx hb dX9_isWithin_5 rfl (lv_at hl 0 rfl) ?_
    refine lv_iload_n hx hb dX9_isWithin_6 rfl (lv_at hl 2 rfl) ?_
    refine lv_icmp_gt (tgt := 14) hx hb dX9_isWithin_7 (by decide) (fun hc2 => ?_) (fun hc2 => ?_)
    · have hp := hp.1 hc2
      refine lv_iconst (v := 0) hx hb dX9_isWithin_14 (by decide) ?_
      exact hp_iret hx hb hr rfl hlocks hK h hp dX9_isWithin_15
    · have hp := hp.2 hc2
      refine lv_iconst (v := 1) hx hb dX9_isWithin_10 (by decide) ?_
      refine lv_goto (tgt := 15) hx hb dX9_isWithin_11 (by decide) ?_
      exact hp_iret hx hb hr rfl hlocks hK h hp dX9_isWithin_15
abbrev rmX0_workLeft : Room := { frames := 1, cells := 0, slots := 0, locals := 21 }
theorem ix_X0_workLeft_0 : ∀ w ∈ wsX00, w ∈ wsX0_workLeft := by decide +kernel
theorem lk_X0_workLeft_15 : Cond.fieldLink RX0 15 "KelpShores$Family" "hands" "I" ∈ wsX0_workLeft := by decide +kernel
theorem lk_X0_workLeft_19 : Cond.fieldLink RX0 19 "KelpShores$Family" "worked" "I" ∈ wsX0_workLeft := by decide +kernel
theorem wd_X0_workLeft_l22 : Cond.methodLink RX0 22 Lib.Math.max.name ∈ wsX0_workLeft := by decide +kernel
theorem wd_X0_workLeft_smax : Cond.static Lib.Math.max.name ∈ wsX0_workLeft := by decide +kernel
theorem wd_X0_workLeft_iM : Cond.initialized "java/lang/Math" ∈ wsX0_workLeft := by decide +kernel
theorem wd_X0_workLeft_kmax : Cond.code Lib.Math.max.name Lib.Math.max.code 2 (some .int) ∈ wsX0_workLeft := by decide +kernel
def wp_X0_workLeft (z : Zt) (o : Nat) (w : Vt) (K : Int32 → Vt → Prop) : Prop := isO z 0 o ∧ ∀ x1 : Int32, x1 = (if 0 < ((5 * (vI w 1 o)) - (vI w 2 o)) then (5 * (vI w 1 o)) - (vI w 2 o) else 0) → K x1 w
set_option maxHeartbeats 4000000 in
set_option maxRecDepth 100000 in
theorem k_X0_workLeft (l : Launch) (G : Gt) (z : Zt) (w : Vt) (sz : Nat) (o : Nat) (K : Int32 → Vt → Prop) (hp : wp_X0_workLeft z o w K) : MI l yX0_workLeft wsX0_workLeft rmX0_workLeft G z w sz [.ref o] K := by
  refine Met.ofW (cc := cX0_workLeft) (maxL := 1) (ret := (some .int)) (by decide +kernel) rfl ?_
  intro p e s m args below meth c s₁ B hml hv
  obtain ⟨rfl, rfl, C, h⟩ := hp_start B hml hv
  generalize gA G z w s.heap.size = A at C h ⊢
  obtain ⟨hx, hb, hr, hlocks, hml, hown, hts, hK, hA, hE⟩ := id C
  obtain ⟨ho, hp⟩ := hp
  have hl := lv_entry ([.ref o]) (n := 1) (Nat.le_of_ble_eq_true rfl)
  rw [lg_entry_eq]
  generalize (lg_sl ([.ref o]) ++ List.replicate (1 - (lg_sl ([.ref o])).length) Slot.unset).toArray = ls at hl ⊢
  have hl : lv_has ls 1 [(0, .ref o)] := hl
  refine lv_iconst (v := 0) hx hb dX0_workLeft_0 (by decide) ?_
  refine lv_iconst (v := 5) hx hb dX0_workLeft_1 (by decide) ?_
  refine lv_aload_n hx hb dX0_workLeft_2 rfl (lv_at hl 0 rfl) ?_
  refine hp_get (ci := 0) (v := .int (vI w 1 o)) hx hb hts ix_X0_workLeft_0 hown hK h ho (by decide) rfl 1 (by decide) (hts _ lk_X0_workLeft_15) (fun _ h9 => h9) rfl dX0_workLeft_3 ?_
  refine lv_imul hx hb dX0_workLeft_6 ?_
  refine lv_aload_n hx hb dX0_workLeft_7 rfl (lv_at hl 0 rfl) ?_
  refine hp_get (ci := 0) (v := .int (vI w 2 o)) hx hb hts ix_X0_workLeft_0 hown hK h ho (by decide) rfl 2 (by decide) (hts _ lk_X0_workLeft_19) (fun _ h9 => h9) rfl dX0_workLeft_8 ?_
  refine lv_isub hx hb dX0_workLeft_11 ?_
  refine va_mmax hx hb (by rw [hml]; exact hl.1.symm) hown (hts _ wd_X0_workLeft_l22) (hts _ wd_X0_workLeft_smax) (hts _ wd_X0_workLeft_iM) (hts _ wd_X0_workLeft_kmax) (Nat.le_of_ble_eq_true rfl) (Nat.le_of_ble_eq_true rfl) (Nat.zero_le _) (Nat.zero_le _) dX0_workLeft_12 ?_
  refine lv_topi (fun x1 ex1 => ?_)
  have hp := hp x1 ex1
  exact hp_iret hx hb hr rfl hlocks hK h hp dX0_workLeft_15
abbrev rmX0_spoilDry : Room := { frames := 0, cells := 0, slots := 0, locals := 0 }
theorem ix_X0_spoilDry_0 : ∀ w ∈ wsX00, w ∈ wsX0_spoilDry := by decide +kernel
theorem lk_X0_spoilDry_28 : Cond.fieldLink RX0 28 "KelpShores$Family" "dry" "I" ∈ wsX0_spoilDry := by decide +kernel
theorem lk_X0_spoilDry_31 : Cond.fieldLink RX0 31 "KelpShores$Family" "spoilt" "I" ∈ wsX0_spoilDry := by decide +kernel
def wp_X0_spoilDry (z : Zt) (o : Nat) (w : Vt) (K : Vt → Prop) : Prop := isO z 0 o ∧ ∀ x1 : Int32, x1 = ((vI w 4 o) + 9) / 10 → ∀ w2 : Vt, w2 = uI w 4 o ((vI w 4 o) - x1) → ∀ w3 : Vt, w3 = uI w2 6 o ((vI w2 6 o) + x1) → K w3
set_option maxHeartbeats 4000000 in
set_option maxRecDepth 100000 in
theorem k_X0_spoilDry (l : Launch) (G : Gt) (z : Zt) (w : Vt) (sz : Nat) (o : Nat) (K : Vt → Prop) (hp : wp_X0_spoilDry z o w K) : MV l yX0_spoilDry wsX0_spoilDry rmX0_spoilDry G z w sz [.ref o] K := by
  refine Met.ofW (cc := cX0_spoilDry) (maxL := 2) (ret := none) (by decide +kernel) rfl ?_
  intro p e s m args below meth c s₁ B hml hv
  obtain ⟨rfl, rfl, C, h⟩ := hp_start B hml hv
  generalize gA G z w s.heap.size = A at C h ⊢
  obtain ⟨hx, hb, hr, hlocks, hml, hown, hts, hK, hA, hE⟩ := id C
  obtain ⟨ho, hp⟩ := hp
  have hl := lv_entry ([.ref o]) (n := 2) (Nat.le_of_ble_eq_true rfl)
  rw [lg_entry_eq]
  generalize (lg_sl ([.ref o]) ++ List.replicate (2 - (lg_sl ([.ref o])).length) Slot.unset).toArray = ls at hl ⊢
  have hl : lv_has ls 2 [(0, .ref o)] := hl
  refine lv_aload_n hx hb dX0_spoilDry_0 rfl (lv_at hl 0 rfl) ?_
  refine hp_get (ci := 0) (v := .int (vI w 4 o)) hx hb hts ix_X0_spoilDry_0 hown hK h ho (by decide) rfl 4 (by decide) (hts _ lk_X0_spoilDry_28) (fun _ h9 => h9) rfl dX0_spoilDry_1 ?_
  refine lv_bipush (v := 9) hx hb dX0_spoilDry_4 (by decide) ?_
  refine lv_iadd hx hb dX0_spoilDry_6 ?_
  refine lv_bipush (v := 10) hx hb dX0_spoilDry_7 (by decide) ?_
  refine lv_idiv hx hb dX0_spoilDry_9 (by decide) ?_
  refine lv_topi (fun x1 ex1 => ?_)
  have hp := hp x1 ex1
  refine lv_istore_n (lv' := [(1, .int x1), (0, .ref o)]) hx hb dX0_spoilDry_10 rfl hl (by decide) rfl (fun ls hl => ?_)
  refine lv_aload_n hx hb dX0_spoilDry_11 rfl (lv_at hl 1 rfl) ?_
  refine lv_dup hx hb dX0_spoilDry_12 rfl ?_
  refine hp_get (ci := 0) (v := .int (vI w 4 o)) hx hb hts ix_X0_spoilDry_0 hown hK h ho (by decide) rfl 4 (by decide) (hts _ lk_X0_spoilDry_28) (fun _ h9 => h9) rfl dX0_spoilDry_13 ?_
  refine lv_iload_n hx hb dX0_spoilDry_16 rfl (lv_at hl 0 rfl) ?_
  refine lv_isub hx hb dX0_spoilDry_17 ?_
  refine hp_puti (ci := 0) (ty := .int) (x := (vI w 4 o) - x1) hx hb hts ix_X0_spoilDry_0 tyX0 tyX0_ok nmX0 hown hK h ho (by decide) rfl 4 4 (by decide) (hts _ lk_X0_spoilDry_28) (fun _ h9 => h9) rfl (by decide +kernel) rfl rfl (fun _ _ => rfl) (fun _ _ => Nat.le_of_ble_eq_true rfl) dX0_spoilDry_18 (fun H locs w2 ew2 h => ?_)
  have hp := hp w2 ew2
  refine lv_aload_n hx hb dX0_spoilDry_21 rfl (lv_at hl 1 rfl) ?_
  refine lv_dup hx hb dX0_spoilDry_22 rfl ?_
  refine hp_get (ci := 0) (v := .int (vI w2 6 o)) hx hb hts ix_X0_spoilDry_0 hown hK h ho (by decide) rfl 6 (by decide) (hts _ lk_X0_spoilDry_31) (fun _ h9 => h9) rfl dX0_spoilDry_23 ?_
  refine lv_iload_n hx hb dX0_spoilDry_26 rfl (lv_at hl 0 rfl) ?_
  refine lv_iadd hx hb dX0_spoilDry_27 ?_
  refine hp_puti (ci := 0) (ty := .int) (x := (vI w2 6 o) + x1) hx hb hts ix_X0_spoilDry_0 tyX0 tyX0_ok nmX0 hown hK h ho (by decide) rfl 6 6 (by decide) (hts _ lk_X0_spoilDry_31) (fun _ h9 => h9) rfl (by decide +kernel) rfl rfl (fun _ _ => rfl) (fun _ _ => Nat.le_of_ble_eq_true rfl) dX0_spoilDry_28 (fun H locs w3 ew3 h => ?_)
  have hp := hp w3 ew3
  exact hp_vret hx hb hr hlocks hK h hp dX0_spoilDry_31
abbrev rmX0_dryWet : Room := { frames := 0, cells := 0, slots := 0, locals := 0 }
theorem ix_X0_dryWet_0 : ∀ w ∈ wsX00, w ∈ wsX0_dryWet := by decide +kernel
theorem lk_X0_dryWet_34 : Cond.fieldLink RX0 34 "KelpShores$Family" "wet" "I" ∈ wsX0_dryWet := by decide +kernel
theorem lk_X0_dryWet_28 : Cond.fieldLink RX0 28 "KelpShores$Family" "dry" "I" ∈ wsX0_dryWet := by decide +kernel
def wp_X0_dryWet (z : Zt) (o : Nat) (p0 : Int32) (w : Vt) (K : Vt → Prop) : Prop := isO z 0 o ∧ ∀ x1 : Int32, x1 = (((vI w 3 o) * p0) / 10) / 4 → ∀ w2 : Vt, w2 = uI w 3 o ((vI w 3 o) - (x1 * 4)) → ∀ w3 : Vt, w3 = uI w2 4 o ((vI w2 4 o) + x1) → K w3
set_option maxHeartbeats 4000000 in
set_option maxRecDepth 100000 in
theorem k_X0_dryWet (l : Launch) (G : Gt) (z : Zt) (w : Vt) (sz : Nat) (o : Nat) (p0 : Int32) (K : Vt → Prop) (hp : wp_X0_dryWet z o p0 w K) : MV l yX0_dryWet wsX0_dryWet rmX0_dryWet G z w sz [.ref o, .int p0] K := by
  refine Met.ofW (cc := cX0_dryWet) (maxL := 3) (ret := none) (by decide +kernel) rfl ?_
  intro p e s m args below meth c s₁ B hml hv
  obtain ⟨rfl, rfl, C, h⟩ := hp_start B hml hv
  generalize gA G z w s.heap.size = A at C h ⊢
  obtain ⟨hx, hb, hr, hlocks, hml, hown, hts, hK, hA, hE⟩ := id C
  obtain ⟨ho, hp⟩ := hp
  have hl := lv_entry ([.ref o, .int p0]) (n := 3) (Nat.le_of_ble_eq_true rfl)
  rw [lg_entry_eq]
  generalize (lg_sl ([.ref o, .int p0]) ++ List.replicate (3 - (lg_sl ([.ref o, .int p0])).length) Slot.unset).toArray = ls at hl ⊢
  have hl : lv_has ls 3 [(0, .ref o), (1, .int p0)] := hl
  refine lv_aload_n hx hb dX0_dryWet_0 rfl (lv_at hl 0 rfl) ?_
  refine hp_get (ci := 0) (v := .int (vI w 3 o)) hx hb hts ix_X0_dryWet_0 hown hK h ho (by decide) rfl 3 (by decide) (hts _ lk_X0_dryWet_34) (fun _ h9 => h9) rfl dX0_dryWet_1 ?_
  refine lv_iload_n hx hb dX0_dryWet_4 rfl (lv_at hl 1 rfl) ?_
  refine lv_imul hx hb dX0_dryWet_5 ?_
  refine lv_bipush (v := 10) hx hb dX0_dryWet_6 (by decide) ?_
  refine lv_idiv hx hb dX0_dryWet_8 (by decide) ?_
  refine lv_iconst (v := 4) hx hb dX0_dryWet_9 (by decide) ?_
  refine lv_idiv hx hb dX0_dryWet_10 (by decide) ?_
  refine lv_topi (fun x1 ex1 => ?_)
  have hp := hp x1 ex1
  refine lv_istore_n (lv' := [(2, .int x1), (0, .ref o), (1, .int p0)]) hx hb dX0_dryWet_11 rfl hl (by decide) rfl (fun ls hl => ?_)
  refine lv_aload_n hx hb dX0_dryWet_12 rfl (lv_at hl 1 rfl) ?_
  refine lv_dup hx hb dX0_dryWet_13 rfl ?_
  refine hp_get (ci := 0) (v := .int (vI w 3 o)) hx hb hts ix_X0_dryWet_0 hown hK h ho (by decide) rfl 3 (by decide) (hts _ lk_X0_dryWet_34) (fun _ h9 => h9) rfl dX0_dryWet_14 ?_
  refine lv_iload_n hx hb dX0_dryWet_17 rfl (lv_at hl 0 rfl) ?_
  refine lv_iconst (v := 4) hx hb dX0_dryWet_18 (by decide) ?_
  refine lv_imul hx hb dX0_dryWet_19 ?_
  refine lv_isub hx hb dX0_dryWet_20 ?_
  refine hp_puti (ci := 0) (ty := .int) (x := (vI w 3 o) - (x1 * 4)) hx hb hts ix_X0_dryWet_0 tyX0 tyX0_ok nmX0 hown hK h ho (by decide) rfl 3 3 (by decide) (hts _ lk_X0_dryWet_34) (fun _ h9 => h9) rfl (by decide +kernel) rfl rfl (fun _ _ => rfl) (fun _ _ => Nat.le_of_ble_eq_true rfl) dX0_dryWet_21 (fun H locs w2 ew2 h => ?_)
  have hp := hp w2 ew2
  refine lv_aload_n hx hb dX0_dryWet_24 rfl (lv_at hl 1 rfl) ?_
  refine lv_dup hx hb dX0_dryWet_25 rfl ?_
  refine hp_get (ci := 0) (v := .int (vI w2 4 o)) hx hb hts ix_X0_dryWet_0 hown hK h ho (by decide) rfl 4 (by decide) (hts _ lk_X0_dryWet_28) (fun _ h9 => h9) rfl dX0_dryWet_26 ?_
  refine lv_iload_n hx hb dX0_dryWet_29 rfl (lv_at hl 0 rfl) ?_
  refine lv_iadd hx hb dX0_dryWet_30 ?_
  refine hp_puti (ci := 0) (ty := .int) (x := (vI w2 4 o) + x1) hx hb hts ix_X0_dryWet_0 tyX0 tyX0_ok nmX0 hown hK h ho (by decide) rfl 4 4 (by decide) (hts _ lk_X0_dryWet_28) (fun _ h9 => h9) rfl (by decide +kernel) rfl rfl (fun _ _ => rfl) (fun _ _ => Nat.le_of_ble_eq_true rfl) dX0_dryWet_31 (fun H locs w3 ew3 h => ?_)
  have hp := hp w3 ew3
  exact hp_vret hx hb hr hlocks hK h hp dX0_dryWet_34
abbrev rmX0_isOwedRow : Room := { frames := 1, cells := 0, slots := 0, locals := 22 }
theorem ln_X0_isOwedRow_41 {G : Gt} {A : Nat → Prop} {s : State} (hE : gE G A s s.heap) : va_Nw (Cond.methodLinkNest RX0 41 yX9_isWithin "KelpShores") s := hE.2.1 (RX0, 41, yX9_isWithin) (List.mem_of_getElem? (i := 8) rfl)
theorem wd_X0_isOwedRow_iX9 : Cond.initialized RX9 ∈ wsX0_isOwedRow := by decide +kernel
theorem wd_X0_isOwedRow_tX9_isWithin : Cond.static yX9_isWithin ∈ wsX0_isOwedRow := by decide +kernel
def wp_X0_isOwedRow (z : Zt) (p0 : Int32) (p1 : Int32) (w : Vt) (K : Int32 → Vt → Prop) : Prop := wp_X9_isWithin z p0 0 5 w (fun r2 w1 => (r2 = 0 → K 0 w1) ∧ (¬ r2 = 0 → wp_X9_isWithin z p1 0 99 w1 (fun r5 w4 => (r5 = 0 → K 0 w4) ∧ (¬ r5 = 0 → K 1 w4))))
set_option maxHeartbeats 4000000 in
set_option maxRecDepth 100000 in
theorem k_X0_isOwedRow (l : Launch) (G : Gt) (z : Zt) (w : Vt) (sz : Nat) (p0 : Int32) (p1 : Int32) (K : Int32 → Vt → Prop) (hp : wp_X0_isOwedRow z p0 p1 w K) : MI l yX0_isOwedRow wsX0_isOwedRow rmX0_isOwedRow G z w sz [.int p0, .int p1] K := by
  refine Met.ofW (cc := cX0_isOwedRow) (maxL := 2) (ret := (some .boolean)) (by decide +kernel) rfl ?_
  intro p e s m args below meth c s₁ B hml hv
  obtain ⟨rfl, rfl, C, h⟩ := hp_start B hml hv
  generalize gA G z w s.heap.size = A at C h ⊢
  obtain ⟨hx, hb, hr, hlocks, hml, hown, hts, hK, hA, hE⟩ := id C
  have hl := lv_entry ([.int p0, .int p1]) (n := 2) (Nat.le_of_ble_eq_true rfl)
  rw [lg_entry_eq]
  generalize (lg_sl ([.int p0, .int p1]) ++ List.replicate (2 - (lg_sl ([.int p0, .int p1])).length) Slot.unset).toArray = ls at hl ⊢
  have hl : lv_has ls 2 [(0, .int p0), (1, .int p1)] := hl
  refine lv_iload_n hx hb dX0_isOwedRow_0 rfl (lv_at hl 0 rfl) ?_
  refine lv_iconst (v := 0) hx hb dX0_isOwedRow_1 (by decide) ?_
  refine lv_iconst (v := 5) hx hb dX0_isOwedRow_2 (by decide) ?_
  refine hp_cSNi ⟨hx, hb, hml, hown, hts⟩ (k_X9_isWithin l G z w _ p0 0 5 _ hp) ⟨va_cnB 3 hts gX0_isOwedRow_X9_isWithin_n41 rfl rfl rfl (ln_X0_isOwedRow_41 hE) (hts _ wd_X0_isOwedRow_iX9) (by decide +kernel) ⟨Nat.le_of_ble_eq_true rfl, Nat.le_of_ble_eq_true rfl⟩, (hts _ wd_X0_isOwedRow_tX9_isWithin), trivial⟩ hK h hA hE rfl hl.1 rfl (Nat.le_of_ble_eq_true rfl) dX0_isOwedRow_3 ⟨Nat.le_of_ble_eq_true rfl, Nat.le_of_ble_eq_true rfl⟩ (fun r2 w1 H locs hp h => ?_)
  refine lv_if_eq (tgt := 23) hx hb dX0_isOwedRow_6 (by decide) (fun hc3 => ?_) (fun hc3 => ?_)
  · have hp := hp.1 hc3
    refine lv_iconst (v := 0) hx hb dX0_isOwedRow_23 (by decide) ?_
    exact hp_iret hx hb hr rfl hlocks hK h hp dX0_isOwedRow_24
  · have hp := hp.2 hc3
    refine lv_iload_n hx hb dX0_isOwedRow_9 rfl (lv_at hl 1 rfl) ?_
    refine lv_iconst (v := 0) hx hb dX0_isOwedRow_10 (by decide) ?_
    refine lv_bipush (v := 99) hx hb dX0_isOwedRow_11 (by decide) ?_
    refine hp_cSNi ⟨hx, hb, hml, hown, hts⟩ (k_X9_isWithin l G z w1 _ p1 0 99 _ hp) ⟨va_cnB 3 hts gX0_isOwedRow_X9_isWithin_n41 rfl rfl rfl (ln_X0_isOwedRow_41 hE) (hts _ wd_X0_isOwedRow_iX9) (by decide +kernel) ⟨Nat.le_of_ble_eq_true rfl, Nat.le_of_ble_eq_true rfl⟩, (hts _ wd_X0_isOwedRow_tX9_isWithin), trivial⟩ hK h hA hE rfl hl.1 rfl (Nat.le_of_ble_eq_true rfl) dX0_isOwedRow_13 ⟨Nat.le_of_ble_eq_true rfl, Nat.le_of_ble_eq_true rfl⟩ (fun r5 w4 H locs hp h => ?_)
    refine lv_if_eq (tgt := 23) hx hb dX0_isOwedRow_16 (by decide) (fun hc6 => ?_) (fun hc6 => ?_)
    · have hp := hp.1 hc6
      refine lv_iconst (v := 0) hx hb dX0_isOwedRow_23 (by decide) ?_
      exact hp_iret hx hb hr rfl hlocks hK h hp dX0_isOwedRow_24
    · have hp := hp.2 hc6
      refine lv_iconst (v := 1) hx hb dX0_isOwedRow_19 (by decide) ?_
      refine lv_goto (tgt := 24) hx hb dX0_isOwedRow_20 (by decide) ?_
      exact hp_iret hx hb hr rfl hlocks hK h hp dX0_isOwedRow_24
abbrev rmX0_owe : Room := { frames := 2, cells := 0, slots := 0, locals := 43 }
theorem ix_X0_owe_0 : ∀ w ∈ wsX00, w ∈ wsX0_owe := by decide +kernel
theorem lk_X0_owe_9 : Cond.fieldLink RX0 9 "KelpShores$Family" "owed" "[I" ∈ wsX0_owe := by decide +kernel
def wp_X0_owe (z : Zt) (o : Nat) (p0 : Int32) (p1 : Int32) (p2 : Int32) (w : Vt) (K : Vt → Prop) : Prop := isO z 0 o ∧ wp_X0_isOwedRow z p0 p1 w (fun r2 w1 => (r2 = 0 → K w1) ∧ (¬ r2 = 0 → ∃ b4 : Nat, zR z 0 o = some b4 ∧ isO z 1000 b4 ∧ vp_in ((p1 * 6) + p0) 600 ∧ vp_in ((p1 * 6) + p0) 600 ∧ ∀ w5 : Vt, w5 = uA w1 1000 b4 ((p1 * 6) + p0 : Int32).toNatClampNeg ((vA w1 1000 b4 ((p1 * 6) + p0 : Int32).toNatClampNeg) + p2) → K w5))
set_option maxHeartbeats 4000000 in
set_option maxRecDepth 100000 in
theorem k_X0_owe (l : Launch) (G : Gt) (z : Zt) (w : Vt) (sz : Nat) (o : Nat) (p0 : Int32) (p1 : Int32) (p2 : Int32) (K : Vt → Prop) (hp : wp_X0_owe z o p0 p1 p2 w K) : MV l yX0_owe wsX0_owe rmX0_owe G z w sz [.ref o, .int p0, .int p1, .int p2] K := by
  refine Met.ofW (cc := cX0_owe) (maxL := 4) (ret := none) (by decide +kernel) rfl ?_
  intro p e s m args below meth c s₁ B hml hv
  obtain ⟨rfl, rfl, C, h⟩ := hp_start B hml hv
  generalize gA G z w s.heap.size = A at C h ⊢
  obtain ⟨hx, hb, hr, hlocks, hml, hown, hts, hK, hA, hE⟩ := id C
  obtain ⟨ho, hp⟩ := hp
  have hl := lv_entry ([.ref o, .int p0, .int p1, .int p2]) (n := 4) (Nat.le_of_ble_eq_true rfl)
  rw [lg_entry_eq]
  generalize (lg_sl ([.ref o, .int p0, .int p1, .int p2]) ++ List.replicate (4 - (lg_sl ([.ref o, .int p0, .int p1, .int p2])).length) Slot.unset).toArray = ls at hl ⊢
  have hl : lv_has ls 4 [(0, .ref o), (1, .int p0), (2, .int p1), (3, .int p2)] := hl
  refine lv_iload_n hx hb dX0_owe_0 rfl (lv_at hl 1 rfl) ?_
  refine lv_iload_n hx hb dX0_owe_1 rfl (lv_at hl 2 rfl) ?_
  refine hp_cSi ⟨hx, hb, hml, hown, hts⟩ (k_X0_isOwedRow l G z w _ p0 p1 _ hp) (cwS 2 hts gX0_owe_X0_isOwedRow rfl rfl rfl (by decide +kernel) ⟨Nat.le_of_ble_eq_true rfl, Nat.le_of_ble_eq_true rfl⟩) hK h hA hE rfl hl.1 rfl (Nat.le_of_ble_eq_true rfl) dX0_owe_2 ⟨Nat.le_of_ble_eq_true rfl, Nat.le_of_ble_eq_true rfl⟩ (fun r2 w1 H locs hp h => ?_)
  refine lv_if_eq (tgt := 23) hx hb dX0_owe_5 (by decide) (fun hc3 => ?_) (fun hc3 => ?_)
  · have hp := hp.1 hc3
    exact hp_vret hx hb hr hlocks hK h hp dX0_owe_23
  · have hp := hp.2 hc3
    refine lv_aload_n hx hb dX0_owe_8 rfl (lv_at hl 0 rfl) ?_
    obtain ⟨b4, eb4, hob4, hp⟩ := hp
    refine hp_get (ci := 0) (v := .ref b4) hx hb hts ix_X0_owe_0 hown hK h ho (by decide) rfl 0 (by decide) (hts _ lk_X0_owe_9) (fun _ h9 => h9) (by show some (va_rf (zR z 0 o)) = some (Value.ref b4); rw [eb4]; rfl) dX0_owe_9 ?_
    refine lv_iload_n hx hb dX0_owe_12 rfl (lv_at hl 2 rfl) ?_
    refine lv_bipush (v := 6) hx hb dX0_owe_13 (by decide) ?_
    refine lv_imul hx hb dX0_owe_15 ?_
    refine lv_iload_n hx hb dX0_owe_16 rfl (lv_at hl 1 rfl) ?_
    refine lv_iadd hx hb dX0_owe_17 ?_
    refine lv_dup2_11 hx hb dX0_owe_18 rfl rfl ?_
    refine hp_iald (t := 1000) (n := 600) hx hb hK h hob4 (by decide) (fun _ _ _ => rfl) hp.1 dX0_owe_19 ?_
    have hp := hp.2
    refine lv_iload_n hx hb dX0_owe_20 rfl (lv_at hl 3 rfl) ?_
    refine lv_iadd hx hb dX0_owe_21 ?_
    refine hp_iast (t := 1000) (n := 600) hx hb hK h hob4 (by decide) (fun _ _ _ => rfl) hp.1 dX0_owe_22 (fun H locs w5 ew5 h => ?_)
    have hp := hp.2 w5 ew5
    exact hp_vret hx hb hr hlocks hK h hp dX0_owe_23
abbrev rmX0_owedFor : Room := { frames := 2, cells := 0, slots := 0, locals := 43 }
theorem ix_X0_owedFor_0 : ∀ w ∈ wsX00, w ∈ wsX0_owedFor := by decide +kernel
theorem lk_X0_owedFor_9 : Cond.fieldLink RX0 9 "KelpShores$Family" "owed" "[I" ∈ wsX0_owedFor := by decide +kernel
def wp_X0_owedFor (z : Zt) (o : Nat) (p0 : Int32) (p1 : Int32) (w : Vt) (K : Int32 → Vt → Prop) : Prop := isO z 0 o ∧ wp_X0_isOwedRow z p0 p1 w (fun r2 w1 => (r2 = 0 → K 0 w1) ∧ (¬ r2 = 0 → ∃ b4 : Nat, zR z 0 o = some b4 ∧ isO z 1000 b4 ∧ vp_in ((p1 * 6) + p0) 600 ∧ K (vA w1 1000 b4 ((p1 * 6) + p0 : Int32).toNatClampNeg) w1))
set_option maxHeartbeats 4000000 in
set_option maxRecDepth 100000 in
theorem k_X0_owedFor (l : Launch) (G : Gt) (z : Zt) (w : Vt) (sz : Nat) (o : Nat) (p0 : Int32) (p1 : Int32) (K : Int32 → Vt → Prop) (hp : wp_X0_owedFor z o p0 p1 w K) : MI l yX0_owedFor wsX0_owedFor rmX0_owedFor G z w sz [.ref o, .int p0, .int p1] K := by
  refine Met.ofW (cc := cX0_owedFor) (maxL := 3) (ret := (some .int)) (by decide +kernel) rfl ?_
  intro p e s m args below meth c s₁ B hml hv
  obtain ⟨rfl, rfl, C, h⟩ := hp_start B hml hv
  generalize gA G z w s.heap.size = A at C h ⊢
  obtain ⟨hx, hb, hr, hlocks, hml, hown, hts, hK, hA, hE⟩ := id C
  obtain ⟨ho, hp⟩ := hp
  have hl := lv_entry ([.ref o, .int p0, .int p1]) (n := 3) (Nat.le_of_ble_eq_true rfl)
  rw [lg_entry_eq]
  generalize (lg_sl ([.ref o, .int p0, .int p1]) ++ List.replicate (3 - (lg_sl ([.ref o, .int p0, .int p1])).length) Slot.unset).toArray = ls at hl ⊢
  have hl : lv_has ls 3 [(0, .ref o), (1, .int p0), (2, .int p1)] := hl
  refine lv_iload_n hx hb dX0_owedFor_0 rfl (lv_at hl 1 rfl) ?_
  refine lv_iload_n hx hb dX0_owedFor_1 rfl (lv_at hl 2 rfl) ?_
  refine hp_cSi ⟨hx, hb, hml, hown, hts⟩ (k_X0_isOwedRow l G z w _ p0 p1 _ hp) (cwS 2 hts gX0_owedFor_X0_isOwedRow rfl rfl rfl (by decide +kernel) ⟨Nat.le_of_ble_eq_true rfl, Nat.le_of_ble_eq_true rfl⟩) hK h hA hE rfl hl.1 rfl (Nat.le_of_ble_eq_true rfl) dX0_owedFor_2 ⟨Nat.le_of_ble_eq_true rfl, Nat.le_of_ble_eq_true rfl⟩ (fun r2 w1 H locs hp h => ?_)
  refine lv_if_eq (tgt := 22) hx hb dX0_owedFor_5 (by decide) (fun hc3 => ?_) (fun hc3 => ?_)
  · have hp := hp.1 hc3
    refine lv_iconst (v := 0) hx hb dX0_owedFor_22 (by decide) ?_
    exact hp_iret hx hb hr rfl hlocks hK h hp dX0_owedFor_23
  · have hp := hp.2 hc3
    refine lv_aload_n hx hb dX0_owedFor_8 rfl (lv_at hl 0 rfl) ?_
    obtain ⟨b4, eb4, hob4, hp⟩ := hp
    refine hp_get (ci := 0) (v := .ref b4) hx hb hts ix_X0_owedFor_0 hown hK h ho (by decide) rfl 0 (by decide) (hts _ lk_X0_owedFor_9) (fun _ h9 => h9) (by show some (va_rf (zR z 0 o)) = some (Value.ref b4); rw [eb4]; rfl) dX0_owedFor_9 ?_
    refine lv_iload_n hx hb dX0_owedFor_12 rfl (lv_at hl 2 rfl) ?_
    refine lv_bipush (v := 6) hx hb dX0_owedFor_13 (by decide) ?_
    refine lv_imul hx hb dX0_owedFor_15 ?_
    refine lv_iload_n hx hb dX0_owedFor_16 rfl (lv_at hl 1 rfl) ?_
    refine lv_iadd hx hb dX0_owedFor_17 ?_
    refine hp_iald (t := 1000) (n := 600) hx hb hK h hob4 (by decide) (fun _ _ _ => rfl) hp.1 dX0_owedFor_18 ?_
    have hp := hp.2
    refine lv_goto (tgt := 23) hx hb dX0_owedFor_19 (by decide) ?_
    exact hp_iret hx hb hr rfl hlocks hK h hp dX0_owedFor_23
abbrev rmX1_addDay : Room := { frames := 0, cells := 0, slots := 0, locals := 0 }
theorem ix_X1_addDay_1 : ∀ w ∈ wsX10, w ∈ wsX1_addDay := by decide +kernel
theorem lk_X1_addDay_28 : Cond.fieldLink RX1 28 "KelpShores$Forecast" "days" "I" ∈ wsX1_addDay := by decide +kernel
theorem lk_X1_addDay_9 : Cond.fieldLink RX1 9 "KelpShores$Forecast" "low" "[Z" ∈ wsX1_addDay := by decide +kernel
theorem lk_X1_addDay_15 : Cond.fieldLink RX1 15 "KelpShores$Forecast" "windy" "[Z" ∈ wsX1_addDay := by decide +kernel
theorem lk_X1_addDay_18 : Cond.fieldLink RX1 18 "KelpShores$Forecast" "rainy" "[Z" ∈ wsX1_addDay := by decide +kernel
def wp_X1_addDay (z : Zt) (o : Nat) (p0 : Int32) (p1 : Int32) (p2 : Int32) (w : Vt) (K : Int32 → Vt → Prop) : Prop := isO z 1 o ∧ ((vI w 103 o) < 16 → ∃ b2 : Nat, zR z 100 o = some b2 ∧ isO z 1100 b2 ∧ vp_in (vI w 103 o) 16 ∧ ∀ w3 : Vt, w3 = uA w 1100 b2 (vI w 103 o : Int32).toNatClampNeg (vp_nar .boolean p0) → ∃ b4 : Nat, zR z 101 o = some b4 ∧ isO z 1101 b4 ∧ vp_in (vI w3 103 o) 16 ∧ ∀ w5 : Vt, w5 = uA w3 1101 b4 (vI w3 103 o : Int32).toNatClampNeg (vp_nar .boolean p1) → ∃ b6 : Nat, zR z 102 o = some b6 ∧ isO z 1102 b6 ∧ vp_in (vI w5 103 o) 16 ∧ ∀ w7 : Vt, w7 = uA w5 1102 b6 (vI w5 103 o : Int32).toNatClampNeg (vp_nar .boolean p2) → ∀ w8 : Vt, w8 = uI w7 103 o ((vI w7 103 o) + 1) → K 1 w8) ∧ (¬ (vI w 103 o) < 16 → K 0 w)
set_option maxHeartbeats 4000000 in
set_option maxRecDepth 100000 in
theorem k_X1_addDay (l : Launch) (G : Gt) (z : Zt) (w : Vt) (sz : Nat) (o : Nat) (p0 : Int32) (p1 : Int32) (p2 : Int32) (K : Int32 → Vt → Prop) (hp : wp_X1_addDay z o p0 p1 p2 w K) : MI l yX1_addDay wsX1_addDay rmX1_addDay G z w sz [.ref o, .int p0, .int p1, .int p2] K := by
  refine Met.ofW (cc := cX1_addDay) (maxL := 4) (ret := (some .boolean)) (by decide +kernel) rfl ?_
  intro p e s m args below meth c s₁ B hml hv
  obtain ⟨rfl, rfl, C, h⟩ := hp_start B hml hv
  generalize gA G z w s.heap.size = A at C h ⊢
  obtain ⟨hx, hb, hr, hlocks, hml, hown, hts, hK, hA, hE⟩ := id C
  obtain ⟨ho, hp⟩ := hp
  have hl := lv_entry ([.ref o, .int p0, .int p1, .int p2]) (n := 4) (Nat.le_of_ble_eq_true rfl)
  rw [lg_entry_eq]
  generalize (lg_sl ([.ref o, .int p0, .int p1, .int p2]) ++ List.replicate (4 - (lg_sl ([.ref o, .int p0, .int p1, .int p2])).length) Slot.unset).toArray = ls at hl ⊢
  have hl : lv_has ls 4 [(0, .ref o), (1, .int p0), (2, .int p1), (3, .int p2)] := hl
  refine lv_aload_n hx hb dX1_addDay_0 rfl (lv_at hl 0 rfl) ?_
  refine hp_get (ci := 1) (v := .int (vI w 103 o)) hx hb hts ix_X1_addDay_1 hown hK h ho (by decide) rfl 3 (by decide) (hts _ lk_X1_addDay_28) (fun _ h9 => h9) rfl dX1_addDay_1 ?_
  refine lv_bipush (v := 16) hx hb dX1_addDay_4 (by decide) ?_
  refine lv_icmp_lt (tgt := 11) hx hb dX1_addDay_6 (by decide) (fun hc1 => ?_) (fun hc1 => ?_)
  · have hp := hp.1 hc1
    refine lv_aload_n hx hb dX1_addDay_11 rfl (lv_at hl 0 rfl) ?_
    obtain ⟨b2, eb2, hob2, hp⟩ := hp
    refine hp_get (ci := 1) (v := .ref b2) hx hb hts ix_X1_addDay_1 hown hK h ho (by decide) rfl 0 (by decide) (hts _ lk_X1_addDay_9) (fun _ h9 => h9) (by show some (va_rf (zR z 100 o)) = some (Value.ref b2); rw [eb2]; rfl) dX1_addDay_12 ?_
    refine lv_aload_n hx hb dX1_addDay_15 rfl (lv_at hl 0 rfl) ?_
    refine hp_get (ci := 1) (v := .int (vI w 103 o)) hx hb hts ix_X1_addDay_1 hown hK h ho (by decide) rfl 3 (by decide) (hts _ lk_X1_addDay_28) (fun _ h9 => h9) rfl dX1_addDay_16 ?_
    refine lv_iload_n hx hb dX1_addDay_19 rfl (lv_at hl 1 rfl) ?_
    refine hp_zast (t := 1100) (n := 16) hx hb hK h hob2 (by decide) (fun _ _ _ => rfl) hp.1 dX1_addDay_20 (fun H locs w3 ew3 h => ?_)
    have hp := hp.2 w3 ew3
    refine lv_aload_n hx hb dX1_addDay_21 rfl (lv_at hl 0 rfl) ?_
    obtain ⟨b4, eb4, hob4, hp⟩ := hp
    refine hp_get (ci := 1) (v := .ref b4) hx hb hts ix_X1_addDay_1 hown hK h ho (by decide) rfl 1 (by decide) (hts _ lk_X1_addDay_15) (fun _ h9 => h9) (by show some (va_rf (zR z 101 o)) = some (Value.ref b4); rw [eb4]; rfl) dX1_addDay_22 ?_
    refine lv_aload_n hx hb dX1_addDay_25 rfl (lv_at hl 0 rfl) ?_
    refine hp_get (ci := 1) (v := .int (vI w3 103 o)) hx hb hts ix_X1_addDay_1 hown hK h ho (by decide) rfl 3 (by decide) (hts _ lk_X1_addDay_28) (fun _ h9 => h9) rfl dX1_addDay_26 ?_
    refine lv_iload_n hx hb dX1_addDay_29 rfl (lv_at hl 2 rfl) ?_
    refine hp_zast (t := 1101) (n := 16) hx hb hK h hob4 (by decide) (fun _ _ _ => rfl) hp.1 dX1_addDay_30 (fun H locs w5 ew5 h => ?_)
    have hp := hp.2 w5 ew5
    refine lv_aload_n hx hb dX1_addDay_31 rfl (lv_at hl 0 rfl) ?_
    obtain ⟨b6, eb6, hob6, hp⟩ := hp
    refine hp_get (ci := 1) (v := .ref b6) hx hb hts ix_X1_addDay_1 hown hK h ho (by decide) rfl 2 (by decide) (hts _ lk_X1_addDay_18) (fun _ h9 => h9) (by show some (va_rf (zR z 102 o)) = some (Value.ref b6); rw [eb6]; rfl) dX1_addDay_32 ?_
    refine lv_aload_n hx hb dX1_addDay_35 rfl (lv_at hl 0 rfl) ?_
    refine hp_get (ci := 1) (v := .int (vI w5 103 o)) hx hb hts ix_X1_addDay_1 hown hK h ho (by decide) rfl 3 (by decide) (hts _ lk_X1_addDay_28) (fun _ h9 => h9) rfl dX1_addDay_36 ?_
    refine lv_iload_n hx hb dX1_addDay_39 rfl (lv_at hl 3 rfl) ?_
    refine hp_zast (t := 1102) (n := 16) hx hb hK h hob6 (by decide) (fun _ _ _ => rfl) hp.1 dX1_addDay_40 (fun H locs w7 ew7 h => ?_)
    have hp := hp.2 w7 ew7
    refine lv_aload_n hx hb dX1_addDay_41 rfl (lv_at hl 0 rfl) ?_
    refine lv_dup hx hb dX1_addDay_42 rfl ?_
    refine hp_get (ci := 1) (v := .int (vI w7 103 o)) hx hb hts ix_X1_addDay_1 hown hK h ho (by decide) rfl 3 (by decide) (hts _ lk_X1_addDay_28) (fun _ h9 => h9) rfl dX1_addDay_43 ?_
    refine lv_iconst (v := 1) hx hb dX1_addDay_46 (by decide) ?_
    refine lv_iadd hx hb dX1_addDay_47 ?_
    refine hp_puti (ci := 1) (ty := .int) (x := (vI w7 103 o) + 1) hx hb hts ix_X1_addDay_1 tyX1 tyX1_ok nmX1 hown hK h ho (by decide) rfl 3 103 (by decide) (hts _ lk_X1_addDay_28) (fun _ h9 => h9) rfl (by decide +kernel) rfl rfl (fun _ _ => rfl) (fun _ _ => Nat.le_of_ble_eq_true rfl) dX1_addDay_48 (fun H locs w8 ew8 h => ?_)
    have hp := hp w8 ew8
    refine lv_iconst (v := 1) hx hb dX1_addDay_51 (by decide) ?_
    exact hp_iret hx hb hr rfl hlocks hK h hp dX1_addDay_52
  · have hp := hp.2 hc1
    refine lv_iconst (v := 0) hx hb dX1_addDay_9 (by decide) ?_
    exact hp_iret hx hb hr rfl hlocks hK h hp dX1_addDay_10
abbrev rmX1_isFair : Room := { frames := 0, cells := 0, slots := 0, locals := 0 }
theorem ix_X1_isFair_1 : ∀ w ∈ wsX10, w ∈ wsX1_isFair := by decide +kernel
theorem lk_X1_isFair_28 : Cond.fieldLink RX1 28 "KelpShores$Forecast" "days" "I" ∈ wsX1_isFair := by decide +kernel
theorem lk_X1_isFair_18 : Cond.fieldLink RX1 18 "KelpShores$Forecast" "rainy" "[Z" ∈ wsX1_isFair := by decide +kernel
def wp_X1_isFair (z : Zt) (o : Nat) (p0 : Int32) (w : Vt) (K : Int32 → Vt → Prop) : Prop := isO z 1 o ∧ (p0 < 0 → K 0 w) ∧ (¬ p0 < 0 → ((vI w 103 o) ≤ p0 → K 0 w) ∧ (¬ (vI w 103 o) ≤ p0 → (16 ≤ p0 → K 0 w) ∧ (¬ 16 ≤ p0 → ∃ b4 : Nat, zR z 102 o = some b4 ∧ isO z 1102 b4 ∧ vp_in p0 16 ∧ (¬ (vA w 1102 b4 (p0 : Int32).toNatClampNeg) = 0 → K 0 w) ∧ ((vA w 1102 b4 (p0 : Int32).toNatClampNeg) = 0 → K 1 w))))
set_option maxHeartbeats 4000000 in
set_option maxRecDepth 100000 in
theorem k_X1_isFair (l : Launch) (G : Gt) (z : Zt) (w : Vt) (sz : Nat) (o : Nat) (p0 : Int32) (K : Int32 → Vt → Prop) (hp : wp_X1_isFair z o p0 w K) : MI l yX1_isFair wsX1_isFair rmX1_isFair G z w sz [.ref o, .int p0] K := by
  refine Met.ofW (cc := cX1_isFair) (maxL := 2) (ret := (some .boolean)) (by decide +kernel) rfl ?_
  intro p e s m args below meth c s₁ B hml hv
  obtain ⟨rfl, rfl, C, h⟩ := hp_start B hml hv
  generalize gA G z w s.heap.size = A at C h ⊢
  obtain ⟨hx, hb, hr, hlocks, hml, hown, hts, hK, hA, hE⟩ := id C
  obtain ⟨ho, hp⟩ := hp
  have hl := lv_entry ([.ref o, .int p0]) (n := 2) (Nat.le_of_ble_eq_true rfl)
  rw [lg_entry_eq]
  generalize (lg_sl ([.ref o, .int p0]) ++ List.replicate (2 - (lg_sl ([.ref o, .int p0])).length) Slot.unset).toArray = ls at hl ⊢
  have hl : lv_has ls 2 [(0, .ref o), (1, .int p0)] := hl
  refine lv_iload_n hx hb dX1_isFair_0 rfl (lv_at hl 1 rfl) ?_
  refine lv_if_lt (tgt := 31) hx hb dX1_isFair_1 (by decide) (fun hc1 => ?_) (fun hc1 => ?_)
  · have hp := hp.1 hc1
    refine lv_iconst (v := 0) hx hb dX1_isFair_31 (by decide) ?_
    exact hp_iret hx hb hr rfl hlocks hK h hp dX1_isFair_32
  · have hp := hp.2 hc1
    refine lv_iload_n hx hb dX1_isFair_4 rfl (lv_at hl 1 rfl) ?_
    refine lv_aload_n hx hb dX1_isFair_5 rfl (lv_at hl 0 rfl) ?_
    refine hp_get (ci := 1) (v := .int (vI w 103 o)) hx hb hts ix_X1_isFair_1 hown hK h ho (by decide) rfl 3 (by decide) (hts _ lk_X1_isFair_28) (fun _ h9 => h9) rfl dX1_isFair_6 ?_
    refine lv_icmp_ge (tgt := 31) hx hb dX1_isFair_9 (by decide) (fun hc2 => ?_) (fun hc2 => ?_)
    · have hp := hp.1 hc2
      refine lv_iconst (v := 0) hx hb dX1_isFair_31 (by decide) ?_
      exact hp_iret hx hb hr rfl hlocks hK h hp dX1_isFair_32
    · have hp := hp.2 hc2
      refine lv_iload_n hx hb dX1_isFair_12 rfl (lv_at hl 1 rfl) ?_
      refine lv_bipush (v := 16) hx hb dX1_isFair_13 (by decide) ?_
      refine lv_icmp_ge (tgt := 31) hx hb dX1_isFair_15 (by decide) (fun hc3 => ?_) (fun hc3 => ?_)
      · have hp := hp.1 hc3
        refine lv_iconst (v := 0) hx hb dX1_isFair_31 (by decide) ?_
        exact hp_iret hx hb hr rfl hlocks hK h hp dX1_isFair_32
      · have hp := hp.2 hc3
        refine lv_aload_n hx hb dX1_isFair_18 rfl (lv_at hl 0 rfl) ?_
        obtain ⟨b4, eb4, hob4, hp⟩ := hp
        refine hp_get (ci := 1) (v := .ref b4) hx hb hts ix_X1_isFair_1 hown hK h ho (by decide) rfl 2 (by decide) (hts _ lk_X1_isFair_18) (fun _ h9 => h9) (by show some (va_rf (zR z 102 o)) = some (Value.ref b4); rw [eb4]; rfl) dX1_isFair_19 ?_
        refine lv_iload_n hx hb dX1_isFair_22 rfl (lv_at hl 1 rfl) ?_
        refine hp_zald (t := 1102) (n := 16) hx hb hK h hob4 (by decide) (fun _ _ _ => rfl) hp.1 dX1_isFair_23 ?_
        have hp := hp.2
        refine lv_if_ne (tgt := 31) hx hb dX1_isFair_24 (by decide) (fun hc5 => ?_) (fun hc5 => ?_)
        · have hp := hp.1 hc5
          refine lv_iconst (v := 0) hx hb dX1_isFair_31 (by decide) ?_
          exact hp_iret hx hb hr rfl hlocks hK h hp dX1_isFair_32
        · have hp := hp.2 hc5
          refine lv_iconst (v := 1) hx hb dX1_isFair_27 (by decide) ?_
          refine lv_goto (tgt := 32) hx hb dX1_isFair_28 (by decide) ?_
          exact hp_iret hx hb hr rfl hlocks hK h hp dX1_isFair_32
abbrev rmX1_greatestDry : Room := { frames := 1, cells := 0, slots := 0, locals := 21 }
theorem ix_X1_greatestDry_1 : ∀ w ∈ wsX10, w ∈ wsX1_greatestDry := by decide +kernel
theorem lk_X1_greatestDry_21 : Cond.fieldLink RX1 21 "KelpShores$Forecast" "mostDry" "[I" ∈ wsX1_greatestDry := by decide +kernel
theorem wd_X1_greatestDry_l46 : Cond.methodLink RX1 46 Lib.Math.max.name ∈ wsX1_greatestDry := by decide +kernel
theorem wd_X1_greatestDry_smax : Cond.static Lib.Math.max.name ∈ wsX1_greatestDry := by decide +kernel
theorem wd_X1_greatestDry_iM : Cond.initialized "java/lang/Math" ∈ wsX1_greatestDry := by decide +kernel
theorem wd_X1_greatestDry_kmax : Cond.code Lib.Math.max.name Lib.Math.max.code 2 (some .int) ∈ wsX1_greatestDry := by decide +kernel
def wL_X1_greatestDry_13 (z : Zt) (b1 : Nat) (o : Nat) (K : Int32 → Vt → Prop) (Kx : Int32 → Int32 → Int32 → Vt → Prop) : Nat → Int32 → Int32 → Int32 → Vt → Prop
  | 0, _, _, _, _ => False
  | n + 1, x4_, x3_, x1_, w => (x3_ ≤ x4_ → Kx x4_ x3_ x1_ w) ∧ (¬ x3_ ≤ x4_ → vp_in x4_ 17 ∧ ∀ x3 : Int32, x3 = vA w 1104 b1 (x4_ : Int32).toNatClampNeg → ∀ x4 : Int32, x4 = (if x1_ < x3 then x3 else x1_) → ∀ x5 : Int32, x5 = x4_ + 1 → wL_X1_greatestDry_13 z b1 o K Kx n x5 x3_ x4 w)
set_option maxHeartbeats 4000000 in
set_option maxRecDepth 100000 in
theorem kL_X1_greatestDry_13 {p : Program} {l : Launch} {e : Env} {s : State} {m : MethodId} {args : Array Value} {below : List Frame} {meth : Method} {c : Code} {G : Gt} {A : Nat → Prop} {z : Zt} (C : gC p s m args meth c cX1_greatestDry 6 RX1 wsX1_greatestDry (some .int) G A) (b1 : Nat) (o : Nat) (hob1 : isO z 1104 b1) (ho : isO z 1 o) (K : Int32 → Vt → Prop) (Kx : Int32 → Int32 → Int32 → Vt → Prop) (kKx : ∀ (x4_ x3_ x1_ : Int32) (w : Vt) (H : Heap) (locs : List Loc) (ls : Array Slot), Kx x4_ x3_ x1_ w → hpH G.1 G.2.1 A s.heap z w H locs → lv_has ls 6 [(4, .int x4_), (3, .int x3_), (2, .ref b1), (1, .int x1_), (0, .ref o)] → W p l e (headSpec wsX1_greatestDry rmX1_greatestDry).room s m args below meth c H locs 0 0 (MQ below (va_Qi K (gB G A z) A) args s 0 0 A) (F0 m 38 ls [])) : ∀ (n : Nat) (x4_ x3_ x1_ : Int32) (w : Vt) (H : Heap) (locs : List Loc) (ls : Array Slot), wL_X1_greatestDry_13 z b1 o K Kx n x4_ x3_ x1_ w → hpH G.1 G.2.1 A s.heap z w H locs → lv_has ls 6 [(4, .int x4_), (3, .int x3_), (2, .ref b1), (1, .int x1_), (0, .ref o)] → W p l e (headSpec wsX1_greatestDry rmX1_greatestDry).room s m args below meth c H locs 0 0 (MQ below (va_Qi K (gB G A z) A) args s 0 0 A) (F0 m 13 ls []) := by
  obtain ⟨hx, hb, hr, hlocks, hml, hown, hts, hK, hA, hE⟩ := id C
  intro n
  induction n with
  | zero =>
    intro x4_ x3_ x1_ w H locs ls hp
    exact hp.elim
  | succ n ih =>
    intro x4_ x3_ x1_ w H locs ls hp h hl
    refine lv_iload hx hb dX1_greatestDry_13 (lv_at hl 0 rfl) ?_
    refine lv_iload_n hx hb dX1_greatestDry_15 rfl (lv_at hl 1 rfl) ?_
    refine lv_icmp_ge (tgt := 38) hx hb dX1_greatestDry_16 (by decide) (fun hc2 => ?_) (fun hc2 => ?_)
    · have hp := hp.1 hc2
      exact kKx x4_ x3_ x1_ w _ _ _ hp h (lv_sub hl [0, 1, 2, 3, 4] rfl)
    · have hp := hp.2 hc2
      refine lv_aload_n hx hb dX1_greatestDry_19 rfl (lv_at hl 2 rfl) ?_
      refine lv_iload hx hb dX1_greatestDry_20 (lv_at hl 0 rfl) ?_
      refine hp_iald (t := 1104) (n := 17) hx hb hK h hob1 (by decide) (fun _ _ _ => rfl) hp.1 dX1_greatestDry_22 ?_
      have hp := hp.2
      refine lv_topi (fun x3 ex3 => ?_)
      have hp := hp x3 ex3
      refine lv_istore (lv' := [(5, .int x3), (4, .int x4_), (3, .int x3_), (2, .ref b1), (1, .int x1_), (0, .ref o)]) hx hb dX1_greatestDry_23 hl (by decide) rfl (fun ls hl => ?_)
      refine lv_iload_n hx hb dX1_greatestDry_25 rfl (lv_at hl 4 rfl) ?_
      refine lv_iload hx hb dX1_greatestDry_26 (lv_at hl 0 rfl) ?_
      refine va_mmax hx hb (by rw [hml]; exact hl.1.symm) hown (hts _ wd_X1_greatestDry_l46) (hts _ wd_X1_greatestDry_smax) (hts _ wd_X1_greatestDry_iM) (hts _ wd_X1_greatestDry_kmax) (Nat.le_of_ble_eq_true rfl) (Nat.le_of_ble_eq_true rfl) (Nat.zero_le _) (Nat.zero_le _) dX1_greatestDry_28 ?_
      refine lv_topi (fun x4 ex4 => ?_)
      have hp := hp x4 ex4
      refine lv_istore_n (lv' := [(1, .int x4), (5, .int x3), (4, .int x4_), (3, .int x3_), (2, .ref b1), (0, .ref o)]) hx hb dX1_greatestDry_31 rfl hl (by decide) rfl (fun ls hl => ?_)
      obtain ⟨x5, ex5⟩ : ∃ y : Int32, y = x4_ + 1 := ⟨_, rfl⟩
      have hp := hp x5 ex5
      refine lv_iinc (v := x5) (lv' := [(4, .int x5), (1, .int x4), (5, .int x3), (3, .int x3_), (2, .ref b1), (0, .ref o)]) hx hb dX1_greatestDry_32 hl (k := 2) rfl (by rw [ex5]; rfl) (by decide) rfl (fun ls hl => ?_)
      refine lv_goto (tgt := 13) hx hb dX1_greatestDry_35 (by decide) ?_
      exact ih x5 x3_ x4 w _ _ _ hp h (lv_sub hl [0, 3, 4, 1, 5] rfl)
def wp_X1_greatestDry (z : Zt) (o : Nat) (w : Vt) (K : Int32 → Vt → Prop) : Prop := isO z 1 o ∧ ∃ b1 : Nat, zR z 104 o = some b1 ∧ isO z 1104 b1 ∧ ∃ n6 : Nat, wL_X1_greatestDry_13 z b1 o K (fun x7 x8 x9 w10 => K x9 w10) n6 0 17 0 w
set_option maxHeartbeats 4000000 in
set_option maxRecDepth 100000 in
theorem k_X1_greatestDry (l : Launch) (G : Gt) (z : Zt) (w : Vt) (sz : Nat) (o : Nat) (K : Int32 → Vt → Prop) (hp : wp_X1_greatestDry z o w K) : MI l yX1_greatestDry wsX1_greatestDry rmX1_greatestDry G z w sz [.ref o] K := by
  refine Met.ofW (cc := cX1_greatestDry) (maxL := 6) (ret := (some .int)) (by decide +kernel) rfl ?_
  intro p e s m args below meth c s₁ B hml hv
  obtain ⟨rfl, rfl, C, h⟩ := hp_start B hml hv
  generalize gA G z w s.heap.size = A at C h ⊢
  obtain ⟨hx, hb, hr, hlocks, hml, hown, hts, hK, hA, hE⟩ := id C
  obtain ⟨ho, hp⟩ := hp
  have hl := lv_entry ([.ref o]) (n := 6) (Nat.le_of_ble_eq_true rfl)
  rw [lg_entry_eq]
  generalize (lg_sl ([.ref o]) ++ List.replicate (6 - (lg_sl ([.ref o])).length) Slot.unset).toArray = ls at hl ⊢
  have hl : lv_has ls 6 [(0, .ref o)] := hl
  refine lv_iconst (v := 0) hx hb dX1_greatestDry_0 (by decide) ?_
  refine lv_istore_n (lv' := [(1, .int 0), (0, .ref o)]) hx hb dX1_greatestDry_1 rfl hl (by decide) rfl (fun ls hl => ?_)
  refine lv_aload_n hx hb dX1_greatestDry_2 rfl (lv_at hl 1 rfl) ?_
  obtain ⟨b1, eb1, hob1, hp⟩ := hp
  refine hp_get (ci := 1) (v := .ref b1) hx hb hts ix_X1_greatestDry_1 hown hK h ho (by decide) rfl 4 (by decide) (hts _ lk_X1_greatestDry_21) (fun _ h9 => h9) (by show some (va_rf (zR z 104 o)) = some (Value.ref b1); rw [eb1]; rfl) dX1_greatestDry_3 ?_
  refine lv_astore_n (lv' := [(2, .ref b1), (1, .int 0), (0, .ref o)]) hx hb dX1_greatestDry_6 rfl hl (by decide) rfl (fun ls hl => ?_)
  refine lv_aload_n hx hb dX1_greatestDry_7 rfl (lv_at hl 0 rfl) ?_
  refine hp_alen (t := 1104) (n := 17) hx hb hK h 1 rfl hob1 (by decide) (fun _ _ _ => ⟨_, rfl, rfl⟩) (v := 17) (by decide) dX1_greatestDry_8 ?_
  refine lv_istore_n (lv' := [(3, .int 17), (2, .ref b1), (1, .int 0), (0, .ref o)]) hx hb dX1_greatestDry_9 rfl hl (by decide) rfl (fun ls hl => ?_)
  refine lv_iconst (v := 0) hx hb dX1_greatestDry_10 (by decide) ?_
  refine lv_istore (lv' := [(4, .int 0), (3, .int 17), (2, .ref b1), (1, .int 0), (0, .ref o)]) hx hb dX1_greatestDry_11 hl (by decide) rfl (fun ls hl => ?_)
  obtain ⟨n6, hp⟩ := hp
  refine kL_X1_greatestDry_13 C b1 o hob1 ho _ _ (fun x7 x8 x9 w10 H locs ls hp h hl => ?_) n6 0 17 0 w _ _ _ hp h (lv_sub hl [0, 1, 2, 3, 4] rfl)
  refine lv_iload_n hx hb dX1_greatestDry_38 rfl (lv_at hl 3 rfl) ?_
  exact hp_iret hx hb hr rfl hlocks hK h hp dX1_greatestDry_39
abbrev rmX1_weighCutting : Room := { frames := 1, cells := 0, slots := 0, locals := 21 }
theorem ix_X1_weighCutting_1 : ∀ w ∈ wsX10, w ∈ wsX1_weighCutting := by decide +kernel
theorem lk_X1_weighCutting_21 : Cond.fieldLink RX1 21 "KelpShores$Forecast" "mostDry" "[I" ∈ wsX1_weighCutting := by decide +kernel
theorem lk_X1_weighCutting_25 : Cond.fieldLink RX1 25 "KelpShores$Forecast" "dayBefore" "[I" ∈ wsX1_weighCutting := by decide +kernel
theorem wd_X1_weighCutting_l46 : Cond.methodLink RX1 46 Lib.Math.max.name ∈ wsX1_weighCutting := by decide +kernel
theorem wd_X1_weighCutting_smax : Cond.static Lib.Math.max.name ∈ wsX1_weighCutting := by decide +kernel
theorem wd_X1_weighCutting_iM : Cond.initialized "java/lang/Math" ∈ wsX1_weighCutting := by decide +kernel
theorem wd_X1_weighCutting_kmax : Cond.code Lib.Math.max.name Lib.Math.max.code 2 (some .int) ∈ wsX1_weighCutting := by decide +kernel
def wL_X1_weighCutting_2 (z : Zt) (o : Nat) (K : Vt → Prop) (Kx : Int32 → Vt → Prop) : Nat → Int32 → Vt → Prop
  | 0, _, _ => False
  | n + 1, x1_, w => ∃ b1 : Nat, zR z 104 o = some b1 ∧ isO z 1104 b1 ∧ (17 ≤ x1_ → Kx x1_ w) ∧ (¬ 17 ≤ x1_ → ∃ b3 : Nat, zR z 105 o = some b3 ∧ isO z 1105 b3 ∧ (17 ≤ x1_ → Kx x1_ w) ∧ (¬ 17 ≤ x1_ → vp_in x1_ 17 ∧ vp_in (x1_ - 1) 17 ∧ ∀ x5 : Int32, x5 = (if (vA w 1104 b1 (x1_ : Int32).toNatClampNeg) < (vA w 1105 b3 (x1_ - 1 : Int32).toNatClampNeg) then vA w 1105 b3 (x1_ - 1 : Int32).toNatClampNeg else vA w 1104 b1 (x1_ : Int32).toNatClampNeg) → vp_in x1_ 17 ∧ ∀ w6 : Vt, w6 = uA w 1104 b1 (x1_ : Int32).toNatClampNeg x5 → ∀ x7 : Int32, x7 = x1_ + 1 → wL_X1_weighCutting_2 z o K Kx n x7 w6))
set_option maxHeartbeats 4000000 in
set_option maxRecDepth 100000 in
theorem kL_X1_weighCutting_2 {p : Program} {l : Launch} {e : Env} {s : State} {m : MethodId} {args : Array Value} {below : List Frame} {meth : Method} {c : Code} {G : Gt} {A : Nat → Prop} {z : Zt} (C : gC p s m args meth c cX1_weighCutting 2 RX1 wsX1_weighCutting none G A) (o : Nat) (ho : isO z 1 o) (K : Vt → Prop) (Kx : Int32 → Vt → Prop) (kKx : ∀ (x1_ : Int32) (w : Vt) (H : Heap) (locs : List Loc) (ls : Array Slot), Kx x1_ w → hpH G.1 G.2.1 A s.heap z w H locs → lv_has ls 2 [(1, .int x1_), (0, .ref o)] → W p l e (headSpec wsX1_weighCutting rmX1_weighCutting).room s m args below meth c H locs 0 0 (MQ below (va_Qv K (gB G A z) A) args s 0 0 A) (F0 m 49 ls [])) : ∀ (n : Nat) (x1_ : Int32) (w : Vt) (H : Heap) (locs : List Loc) (ls : Array Slot), wL_X1_weighCutting_2 z o K Kx n x1_ w → hpH G.1 G.2.1 A s.heap z w H locs → lv_has ls 2 [(1, .int x1_), (0, .ref o)] → W p l e (headSpec wsX1_weighCutting rmX1_weighCutting).room s m args below meth c H locs 0 0 (MQ below (va_Qv K (gB G A z) A) args s 0 0 A) (F0 m 2 ls []) := by
  obtain ⟨hx, hb, hr, hlocks, hml, hown, hts, hK, hA, hE⟩ := id C
  intro n
  induction n with
  | zero =>
    intro x1_ w H locs ls hp
    exact hp.elim
  | succ n ih =>
    intro x1_ w H locs ls hp h hl
    refine lv_iload_n hx hb dX1_weighCutting_2 rfl (lv_at hl 0 rfl) ?_
    refine lv_aload_n hx hb dX1_weighCutting_3 rfl (lv_at hl 1 rfl) ?_
    obtain ⟨b1, eb1, hob1, hp⟩ := hp
    refine hp_get (ci := 1) (v := .ref b1) hx hb hts ix_X1_weighCutting_1 hown hK h ho (by decide) rfl 4 (by decide) (hts _ lk_X1_weighCutting_21) (fun _ h9 => h9) (by show some (va_rf (zR z 104 o)) = some (Value.ref b1); rw [eb1]; rfl) dX1_weighCutting_4 ?_
    refine hp_alen (t := 1104) (n := 17) hx hb hK h 1 rfl hob1 (by decide) (fun _ _ _ => ⟨_, rfl, rfl⟩) (v := 17) (by decide) dX1_weighCutting_7 ?_
    refine lv_icmp_ge (tgt := 49) hx hb dX1_weighCutting_8 (by decide) (fun hc2 => ?_) (fun hc2 => ?_)
    · have hp := hp.1 hc2
      exact kKx x1_ w _ _ _ hp h (lv_sub hl [0, 1] rfl)
    · have hp := hp.2 hc2
      refine lv_iload_n hx hb dX1_weighCutting_11 rfl (lv_at hl 0 rfl) ?_
      refine lv_aload_n hx hb dX1_weighCutting_12 rfl (lv_at hl 1 rfl) ?_
      obtain ⟨b3, eb3, hob3, hp⟩ := hp
      refine hp_get (ci := 1) (v := .ref b3) hx hb hts ix_X1_weighCutting_1 hown hK h ho (by decide) rfl 5 (by decide) (hts _ lk_X1_weighCutting_25) (fun _ h9 => h9) (by show some (va_rf (zR z 105 o)) = some (Value.ref b3); rw [eb3]; rfl) dX1_weighCutting_13 ?_
      refine hp_alen (t := 1105) (n := 17) hx hb hK h 1 rfl hob3 (by decide) (fun _ _ _ => ⟨_, rfl, rfl⟩) (v := 17) (by decide) dX1_weighCutting_16 ?_
      refine lv_icmp_ge (tgt := 49) hx hb dX1_weighCutting_17 (by decide) (fun hc4 => ?_) (fun hc4 => ?_)
      · have hp := hp.1 hc4
        exact kKx x1_ w _ _ _ hp h (lv_sub hl [0, 1] rfl)
      · have hp := hp.2 hc4
        refine lv_aload_n hx hb dX1_weighCutting_20 rfl (lv_at hl 1 rfl) ?_
        refine hp_get (ci := 1) (v := .ref b1) hx hb hts ix_X1_weighCutting_1 hown hK h ho (by decide) rfl 4 (by decide) (hts _ lk_X1_weighCutting_21) (fun _ h9 => h9) (by show some (va_rf (zR z 104 o)) = some (Value.ref b1); rw [eb1]; rfl) dX1_weighCutting_21 ?_
        refine lv_iload_n hx hb dX1_weighCutting_24 rfl (lv_at hl 0 rfl) ?_
        refine lv_aload_n hx hb dX1_weighCutting_25 rfl (lv_at hl 1 rfl) ?_
        refine hp_get (ci := 1) (v := .ref b1) hx hb hts ix_X1_weighCutting_1 hown hK h ho (by decide) rfl 4 (by decide) (hts _ lk_X1_weighCutting_21) (fun _ h9 => h9) (by show some (va_rf (zR z 104 o)) = some (Value.ref b1); rw [eb1]; rfl) dX1_weighCutting_26 ?_
        refine lv_iload_n hx hb dX1_weighCutting_29 rfl (lv_at hl 0 rfl) ?_
        refine hp_iald (t := 1104) (n := 17) hx hb hK h hob1 (by decide) (fun _ _ _ => rfl) hp.1 dX1_weighCutting_30 ?_
        have hp := hp.2
        refine lv_aload_n hx hb dX1_weighCutting_31 rfl (lv_at hl 1 rfl) ?_
        refine hp_get (ci := 1) (v := .ref b3) hx hb hts ix_X1_weighCutting_1 hown hK h ho (by decide) rfl 5 (by decide) (hts _ lk_X1_weighCutting_25) (fun _ h9 => h9) (by show some (va_rf (zR z 105 o)) = some (Value.ref b3); rw [eb3]; rfl) dX1_weighCutting_32 ?_
        refine lv_iload_n hx hb dX1_weighCutting_35 rfl (lv_at hl 0 rfl) ?_
        refine lv_iconst (v := 1) hx hb dX1_weighCutting_36 (by decide) ?_
        refine lv_isub hx hb dX1_weighCutting_37 ?_
        refine hp_iald (t := 1105) (n := 17) hx hb hK h hob3 (by decide) (fun _ _ _ => rfl) hp.1 dX1_weighCutting_38 ?_
        have hp := hp.2
        refine va_mmax hx hb (by rw [hml]; exact hl.1.symm) hown (hts _ wd_X1_weighCutting_l46) (hts _ wd_X1_weighCutting_smax) (hts _ wd_X1_weighCutting_iM) (hts _ wd_X1_weighCutting_kmax) (Nat.le_of_ble_eq_true rfl) (Nat.le_of_ble_eq_true rfl) (Nat.zero_le _) (Nat.zero_le _) dX1_weighCutting_39 ?_
        refine lv_topi (fun x5 ex5 => ?_)
        have hp := hp x5 ex5
        refine hp_iast (t := 1104) (n := 17) hx hb hK h hob1 (by decide) (fun _ _ _ => rfl) hp.1 dX1_weighCutting_42 (fun H locs w6 ew6 h => ?_)
        have hp := hp.2 w6 ew6
        obtain ⟨x7, ex7⟩ : ∃ y : Int32, y = x1_ + 1 := ⟨_, rfl⟩
        have hp := hp x7 ex7
        refine lv_iinc (v := x7) (lv' := [(1, .int x7), (0, .ref o)]) hx hb dX1_weighCutting_43 hl (k := 0) rfl (by rw [ex7]; rfl) (by decide) rfl (fun ls hl => ?_)
        refine lv_goto (tgt := 2) hx hb dX1_weighCutting_46 (by decide) ?_
        exact ih x7 w6 _ _ _ hp h (lv_sub hl [0, 1] rfl)
def wp_X1_weighCutting (z : Zt) (o : Nat) (w : Vt) (K : Vt → Prop) : Prop := isO z 1 o ∧ ∃ n8 : Nat, wL_X1_weighCutting_2 z o K (fun x9 w10 => K w10) n8 1 w
set_option maxHeartbeats 4000000 in
set_option maxRecDepth 100000 in
theorem k_X1_weighCutting (l : Launch) (G : Gt) (z : Zt) (w : Vt) (sz : Nat) (o : Nat) (K : Vt → Prop) (hp : wp_X1_weighCutting z o w K) : MV l yX1_weighCutting wsX1_weighCutting rmX1_weighCutting G z w sz [.ref o] K := by
  refine Met.ofW (cc := cX1_weighCutting) (maxL := 2) (ret := none) (by decide +kernel) rfl ?_
  intro p e s m args below meth c s₁ B hml hv
  obtain ⟨rfl, rfl, C, h⟩ := hp_start B hml hv
  generalize gA G z w s.heap.size = A at C h ⊢
  obtain ⟨hx, hb, hr, hlocks, hml, hown, hts, hK, hA, hE⟩ := id C
  obtain ⟨ho, hp⟩ := hp
  have hl := lv_entry ([.ref o]) (n := 2) (Nat.le_of_ble_eq_true rfl)
  rw [lg_entry_eq]
  generalize (lg_sl ([.ref o]) ++ List.replicate (2 - (lg_sl ([.ref o])).length) Slot.unset).toArray = ls at hl ⊢
  have hl : lv_has ls 2 [(0, .ref o)] := hl
  refine lv_iconst (v := 1) hx hb dX1_weighCutting_0 (by decide) ?_
  refine lv_istore_n (lv' := [(1, .int 1), (0, .ref o)]) hx hb dX1_weighCutting_1 rfl hl (by decide) rfl (fun ls hl => ?_)
  obtain ⟨n8, hp⟩ := hp
  refine kL_X1_weighCutting_2 C o ho _ _ (fun x9 w10 H locs ls hp h hl => ?_) n8 1 w _ _ _ hp h (lv_sub hl [0, 1] rfl)
  exact hp_vret hx hb hr hlocks hK h hp dX1_weighCutting_49
abbrev rmX1_weighDrying : Room := { frames := 1, cells := 0, slots := 0, locals := 21 }
theorem ix_X1_weighDrying_1 : ∀ w ∈ wsX10, w ∈ wsX1_weighDrying := by decide +kernel
theorem lk_X1_weighDrying_21 : Cond.fieldLink RX1 21 "KelpShores$Forecast" "mostDry" "[I" ∈ wsX1_weighDrying := by decide +kernel
theorem lk_X1_weighDrying_25 : Cond.fieldLink RX1 25 "KelpShores$Forecast" "dayBefore" "[I" ∈ wsX1_weighDrying := by decide +kernel
theorem wd_X1_weighDrying_l46 : Cond.methodLink RX1 46 Lib.Math.max.name ∈ wsX1_weighDrying := by decide +kernel
theorem wd_X1_weighDrying_smax : Cond.static Lib.Math.max.name ∈ wsX1_weighDrying := by decide +kernel
theorem wd_X1_weighDrying_iM : Cond.initialized "java/lang/Math" ∈ wsX1_weighDrying := by decide +kernel
theorem wd_X1_weighDrying_kmax : Cond.code Lib.Math.max.name Lib.Math.max.code 2 (some .int) ∈ wsX1_weighDrying := by decide +kernel
def wL_X1_weighDrying_2 (z : Zt) (o : Nat) (K : Vt → Prop) (Kx : Int32 → Vt → Prop) : Nat → Int32 → Vt → Prop
  | 0, _, _ => False
  | n + 1, x1_, w => ∃ b1 : Nat, zR z 104 o = some b1 ∧ isO z 1104 b1 ∧ (17 ≤ x1_ → Kx x1_ w) ∧ (¬ 17 ≤ x1_ → ∃ b3 : Nat, zR z 105 o = some b3 ∧ isO z 1105 b3 ∧ (17 ≤ (x1_ + 1) → Kx x1_ w) ∧ (¬ 17 ≤ (x1_ + 1) → vp_in (x1_ + 1) 17 ∧ ((vA w 1105 b3 (x1_ + 1 : Int32).toNatClampNeg) = (-1) → ∀ x6 : Int32, x6 = x1_ + 1 → wL_X1_weighDrying_2 z o K Kx n x6 w) ∧ (¬ (vA w 1105 b3 (x1_ + 1 : Int32).toNatClampNeg) = (-1) → vp_in x1_ 17 ∧ vp_in (x1_ + 1) 17 ∧ ∀ x7 : Int32, x7 = (if (vA w 1104 b1 (x1_ : Int32).toNatClampNeg) < ((vA w 1105 b3 (x1_ + 1 : Int32).toNatClampNeg) + 1) then (vA w 1105 b3 (x1_ + 1 : Int32).toNatClampNeg) + 1 else vA w 1104 b1 (x1_ : Int32).toNatClampNeg) → vp_in x1_ 17 ∧ ∀ w8 : Vt, w8 = uA w 1104 b1 (x1_ : Int32).toNatClampNeg x7 → ∀ x9 : Int32, x9 = x1_ + 1 → wL_X1_weighDrying_2 z o K Kx n x9 w8)))
set_option maxHeartbeats 4000000 in
set_option maxRecDepth 100000 in
theorem kL_X1_weighDrying_2 {p : Program} {l : Launch} {e : Env} {s : State} {m : MethodId} {args : Array Value} {below : List Frame} {meth : Method} {c : Code} {G : Gt} {A : Nat → Prop} {z : Zt} (C : gC p s m args meth c cX1_weighDrying 2 RX1 wsX1_weighDrying none G A) (o : Nat) (ho : isO z 1 o) (K : Vt → Prop) (Kx : Int32 → Vt → Prop) (kKx : ∀ (x1_ : Int32) (w : Vt) (H : Heap) (locs : List Loc) (ls : Array Slot), Kx x1_ w → hpH G.1 G.2.1 A s.heap z w H locs → lv_has ls 2 [(1, .int x1_), (0, .ref o)] → W p l e (headSpec wsX1_weighDrying rmX1_weighDrying).room s m args below meth c H locs 0 0 (MQ below (va_Qv K (gB G A z) A) args s 0 0 A) (F0 m 65 ls [])) : ∀ (n : Nat) (x1_ : Int32) (w : Vt) (H : Heap) (locs : List Loc) (ls : Array Slot), wL_X1_weighDrying_2 z o K Kx n x1_ w → hpH G.1 G.2.1 A s.heap z w H locs → lv_has ls 2 [(1, .int x1_), (0, .ref o)] → W p l e (headSpec wsX1_weighDrying rmX1_weighDrying).room s m args below meth c H locs 0 0 (MQ below (va_Qv K (gB G A z) A) args s 0 0 A) (F0 m 2 ls []) := by
  obtain ⟨hx, hb, hr, hlocks, hml, hown, hts, hK, hA, hE⟩ := id C
  intro n
  induction n with
  | zero =>
    intro x1_ w H locs ls hp
    exact hp.elim
  | succ n ih =>
    intro x1_ w H locs ls hp h hl
    refine lv_iload_n hx hb dX1_weighDrying_2 rfl (lv_at hl 0 rfl) ?_
    refine lv_aload_n hx hb dX1_weighDrying_3 rfl (lv_at hl 1 rfl) ?_
    obtain ⟨b1, eb1, hob1, hp⟩ := hp
    refine hp_get (ci := 1) (v := .ref b1) hx hb hts ix_X1_weighDrying_1 hown hK h ho (by decide) rfl 4 (by decide) (hts _ lk_X1_weighDrying_21) (fun _ h9 => h9) (by show some (va_rf (zR z 104 o)) = some (Value.ref b1); rw [eb1]; rfl) dX1_weighDrying_4 ?_
    refine hp_alen (t := 1104) (n := 17) hx hb hK h 1 rfl hob1 (by decide) (fun _ _ _ => ⟨_, rfl, rfl⟩) (v := 17) (by decide) dX1_weighDrying_7 ?_
    refine lv_icmp_ge (tgt := 65) hx hb dX1_weighDrying_8 (by decide) (fun hc2 => ?_) (fun hc2 => ?_)
    · have hp := hp.1 hc2
      exact kKx x1_ w _ _ _ hp h (lv_sub hl [0, 1] rfl)
    · have hp := hp.2 hc2
      refine lv_iload_n hx hb dX1_weighDrying_11 rfl (lv_at hl 0 rfl) ?_
      refine lv_iconst (v := 1) hx hb dX1_weighDrying_12 (by decide) ?_
      refine lv_iadd hx hb dX1_weighDrying_13 ?_
      refine lv_aload_n hx hb dX1_weighDrying_14 rfl (lv_at hl 1 rfl) ?_
      obtain ⟨b3, eb3, hob3, hp⟩ := hp
      refine hp_get (ci := 1) (v := .ref b3) hx hb hts ix_X1_weighDrying_1 hown hK h ho (by decide) rfl 5 (by decide) (hts _ lk_X1_weighDrying_25) (fun _ h9 => h9) (by show some (va_rf (zR z 105 o)) = some (Value.ref b3); rw [eb3]; rfl) dX1_weighDrying_15 ?_
      refine hp_alen (t := 1105) (n := 17) hx hb hK h 1 rfl hob3 (by decide) (fun _ _ _ => ⟨_, rfl, rfl⟩) (v := 17) (by decide) dX1_weighDrying_18 ?_
      refine lv_icmp_ge (tgt := 65) hx hb dX1_weighDrying_19 (by decide) (fun hc4 => ?_) (fun hc4 => ?_)
      · have hp := hp.1 hc4
        exact kKx x1_ w _ _ _ hp h (lv_sub hl [0, 1] rfl)
      · have hp := hp.2 hc4
        refine lv_aload_n hx hb dX1_weighDrying_22 rfl (lv_at hl 1 rfl) ?_
        refine hp_get (ci := 1) (v := .ref b3) hx hb hts ix_X1_weighDrying_1 hown hK h ho (by decide) rfl 5 (by decide) (hts _ lk_X1_weighDrying_25) (fun _ h9 => h9) (by show some (va_rf (zR z 105 o)) = some (Value.ref b3); rw [eb3]; rfl) dX1_weighDrying_23 ?_
        refine lv_iload_n hx hb dX1_weighDrying_26 rfl (lv_at hl 0 rfl) ?_
        refine lv_iconst (v := 1) hx hb dX1_weighDrying_27 (by decide) ?_
        refine lv_iadd hx hb dX1_weighDrying_28 ?_
        refine hp_iald (t := 1105) (n := 17) hx hb hK h hob3 (by decide) (fun _ _ _ => rfl) hp.1 dX1_weighDrying_29 ?_
        have hp := hp.2
        refine lv_iconst (v := (-1)) hx hb dX1_weighDrying_30 (by decide) ?_
        refine lv_icmp_eq (tgt := 59) hx hb dX1_weighDrying_31 (by decide) (fun hc5 => ?_) (fun hc5 => ?_)
        · have hp := hp.1 hc5
          obtain ⟨x6, ex6⟩ : ∃ y : Int32, y = x1_ + 1 := ⟨_, rfl⟩
          have hp := hp x6 ex6
          refine lv_iinc (v := x6) (lv' := [(1, .int x6), (0, .ref o)]) hx hb dX1_weighDrying_59 hl (k := 0) rfl (by rw [ex6]; rfl) (by decide) rfl (fun ls hl => ?_)
          refine lv_goto (tgt := 2) hx hb dX1_weighDrying_62 (by decide) ?_
          exact ih x6 w _ _ _ hp h (lv_sub hl [0, 1] rfl)
        · have hp := hp.2 hc5
          refine lv_aload_n hx hb dX1_weighDrying_34 rfl (lv_at hl 1 rfl) ?_
          refine hp_get (ci := 1) (v := .ref b1) hx hb hts ix_X1_weighDrying_1 hown hK h ho (by decide) rfl 4 (by decide) (hts _ lk_X1_weighDrying_21) (fun _ h9 => h9) (by show some (va_rf (zR z 104 o)) = some (Value.ref b1); rw [eb1]; rfl) dX1_weighDrying_35 ?_
          refine lv_iload_n hx hb dX1_weighDrying_38 rfl (lv_at hl 0 rfl) ?_
          refine lv_aload_n hx hb dX1_weighDrying_39 rfl (lv_at hl 1 rfl) ?_
          refine hp_get (ci := 1) (v := .ref b1) hx hb hts ix_X1_weighDrying_1 hown hK h ho (by decide) rfl 4 (by decide) (hts _ lk_X1_weighDrying_21) (fun _ h9 => h9) (by show some (va_rf (zR z 104 o)) = some (Value.ref b1); rw [eb1]; rfl) dX1_weighDrying_40 ?_
          refine lv_iload_n hx hb dX1_weighDrying_43 rfl (lv_at hl 0 rfl) ?_
          refine hp_iald (t := 1104) (n := 17) hx hb hK h hob1 (by decide) (fun _ _ _ => rfl) hp.1 dX1_weighDrying_44 ?_
          have hp := hp.2
          refine lv_aload_n hx hb dX1_weighDrying_45 rfl (lv_at hl 1 rfl) ?_
          refine hp_get (ci := 1) (v := .ref b3) hx hb hts ix_X1_weighDrying_1 hown hK h ho (by decide) rfl 5 (by decide) (hts _ lk_X1_weighDrying_25) (fun _ h9 => h9) (by show some (va_rf (zR z 105 o)) = some (Value.ref b3); rw [eb3]; rfl) dX1_weighDrying_46 ?_
          refine lv_iload_n hx hb dX1_weighDrying_49 rfl (lv_at hl 0 rfl) ?_
          refine lv_iconst (v := 1) hx hb dX1_weighDrying_50 (by decide) ?_
          refine lv_iadd hx hb dX1_weighDrying_51 ?_
          refine hp_iald (t := 1105) (n := 17) hx hb hK h hob3 (by decide) (fun _ _ _ => rfl) hp.1 dX1_weighDrying_52 ?_
          have hp := hp.2
          refine lv_iconst (v := 1) hx hb dX1_weighDrying_53 (by decide) ?_
          refine lv_iadd hx hb dX1_weighDrying_54 ?_
          refine va_mmax hx hb (by rw [hml]; exact hl.1.symm) hown (hts _ wd_X1_weighDrying_l46) (hts _ wd_X1_weighDrying_smax) (hts _ wd_X1_weighDrying_iM) (hts _ wd_X1_weighDrying_kmax) (Nat.le_of_ble_eq_true rfl) (Nat.le_of_ble_eq_true rfl) (Nat.zero_le _) (Nat.zero_le _) dX1_weighDrying_55 ?_
          refine lv_topi (fun x7 ex7 => ?_)
          have hp := hp x7 ex7
          refine hp_iast (t := 1104) (n := 17) hx hb hK h hob1 (by decide) (fun _ _ _ => rfl) hp.1 dX1_weighDrying_58 (fun H locs w8 ew8 h => ?_)
          have hp := hp.2 w8 ew8
          obtain ⟨x9, ex9⟩ : ∃ y : Int32, y = x1_ + 1 := ⟨_, rfl⟩
          have hp := hp x9 ex9
          refine lv_iinc (v := x9) (lv' := [(1, .int x9), (0, .ref o)]) hx hb dX1_weighDrying_59 hl (k := 0) rfl (by rw [ex9]; rfl) (by decide) rfl (fun ls hl => ?_)
          refine lv_goto (tgt := 2) hx hb dX1_weighDrying_62 (by decide) ?_
          exact ih x9 w8 _ _ _ hp h (lv_sub hl [0, 1] rfl)
def wp_X1_weighDrying (z : Zt) (o : Nat) (w : Vt) (K : Vt → Prop) : Prop := isO z 1 o ∧ ∃ n10 : Nat, wL_X1_weighDrying_2 z o K (fun x11 w12 => K w12) n10 0 w
set_option maxHeartbeats 4000000 in
set_option maxRecDepth 100000 in
theorem k_X1_weighDrying (l : Launch) (G : Gt) (z : Zt) (w : Vt) (sz : Nat) (o : Nat) (K : Vt → Prop) (hp : wp_X1_weighDrying z o w K) : MV l yX1_weighDrying wsX1_weighDrying rmX1_weighDrying G z w sz [.ref o] K := by
  refine Met.ofW (cc := cX1_weighDrying) (maxL := 2) (ret := none) (by decide +kernel) rfl ?_
  intro p e s m args below meth c s₁ B hml hv
  obtain ⟨rfl, rfl, C, h⟩ := hp_start B hml hv
  generalize gA G z w s.heap.size = A at C h ⊢
  obtain ⟨hx, hb, hr, hlocks, hml, hown, hts, hK, hA, hE⟩ := id C
  obtain ⟨ho, hp⟩ := hp
  have hl := lv_entry ([.ref o]) (n := 2) (Nat.le_of_ble_eq_true rfl)
  rw [lg_entry_eq]
  generalize (lg_sl ([.ref o]) ++ List.replicate (2 - (lg_sl ([.ref o])).length) Slot.unset).toArray = ls at hl ⊢
  have hl : lv_has ls 2 [(0, .ref o)] := hl
  refine lv_iconst (v := 0) hx hb dX1_weighDrying_0 (by decide) ?_
  refine lv_istore_n (lv' := [(1, .int 0), (0, .ref o)]) hx hb dX1_weighDrying_1 rfl hl (by decide) rfl (fun ls hl => ?_)
  obtain ⟨n10, hp⟩ := hp
  refine kL_X1_weighDrying_2 C o ho _ _ (fun x11 w12 H locs ls hp h hl => ?_) n10 0 w _ _ _ hp h (lv_sub hl [0, 1] rfl)
  exact hp_vret hx hb hr hlocks hK h hp dX1_weighDrying_65
abbrev rmX3_passDay : Room := { frames := 0, cells := 0, slots := 0, locals := 0 }
theorem ix_X3_passDay_3 : ∀ w ∈ wsX30, w ∈ wsX3_passDay := by decide +kernel
theorem lk_X3_passDay_27 : Cond.fieldLink RX3 27 "KelpShores$Pit" "daysLeft" "I" ∈ wsX3_passDay := by decide +kernel
theorem lk_X3_passDay_9 : Cond.fieldLink RX3 9 "KelpShores$Pit" "owner" "LKelpShores$Family;" ∈ wsX3_passDay := by decide +kernel
theorem ix_X3_passDay_0 : ∀ w ∈ wsX00, w ∈ wsX3_passDay := by decide +kernel
theorem lk_X3_passDay_30 {G : Gt} {A : Nat → Prop} {s : State} {args : Array Value} (hE : gE G A s s.heap) : (Cond.fieldLinkNest RX3 30 "KelpShores$Family" "ash" "I" "KelpShores").before args s = true := by
  have h : va_Nw (Cond.fieldLinkNest RX3 30 "KelpShores$Family" "ash" "I" "KelpShores") s := hE.1 (RX3, 30, "KelpShores$Family", "ash", "I") (List.mem_of_getElem? (i := 12) rfl)
  exact va_Nw.use rfl h
theorem lk_X3_passDay_15 : Cond.fieldLink RX3 15 "KelpShores$Pit" "load" "I" ∈ wsX3_passDay := by decide +kernel
theorem lk_X3_passDay_19 {G : Gt} {A : Nat → Prop} {s : State} {args : Array Value} (hE : gE G A s s.heap) : (Cond.fieldLinkNest RX3 19 "KelpShores$Family" "dry" "I" "KelpShores").before args s = true := by
  have h : va_Nw (Cond.fieldLinkNest RX3 19 "KelpShores$Family" "dry" "I" "KelpShores") s := hE.1 (RX3, 19, "KelpShores$Family", "dry", "I") (List.mem_of_getElem? (i := 10) rfl)
  exact va_Nw.use rfl h
theorem lk_X3_passDay_24 {G : Gt} {A : Nat → Prop} {s : State} {args : Array Value} (hE : gE G A s s.heap) : (Cond.fieldLinkNest RX3 24 "KelpShores$Family" "lost" "I" "KelpShores").before args s = true := by
  have h : va_Nw (Cond.fieldLinkNest RX3 24 "KelpShores$Family" "lost" "I" "KelpShores") s := hE.1 (RX3, 24, "KelpShores$Family", "lost", "I") (List.mem_of_getElem? (i := 15) rfl)
  exact va_Nw.use rfl h
def wp_X3_passDay (z : Zt) (o : Nat) (p0 : Int32) (w : Vt) (K : Vt → Prop) : Prop := isO z 3 o ∧ (p0 < 3 → ∀ w2 : Vt, w2 = uI w 302 o ((vI w 302 o) - 1) → ∃ b3 : Nat, zR z 300 o = some b3 ∧ isO z 0 b3 ∧ (¬ (vI w2 302 o) = 0 → ∀ w5 : Vt, w5 = uI w2 5 b3 ((vI w2 5 b3) + 0) → K w5) ∧ ((vI w2 302 o) = 0 → ∀ w6 : Vt, w6 = uI w2 5 b3 ((vI w2 5 b3) + ((vI w2 301 o) / 5)) → K w6)) ∧ (¬ p0 < 3 → ∀ x7 : Int32, x7 = (vI w 301 o) / 2 → ∃ b8 : Nat, zR z 300 o = some b8 ∧ isO z 0 b8 ∧ ∀ w9 : Vt, w9 = uI w 4 b8 ((vI w 4 b8) + x7) → ∀ w10 : Vt, w10 = uI w9 7 b8 ((vI w9 7 b8) + ((vI w9 301 o) - x7)) → ∀ w11 : Vt, w11 = uI w10 302 o 0 → K w11)
set_option maxHeartbeats 4000000 in
set_option maxRecDepth 100000 in
theorem k_X3_passDay (l : Launch) (G : Gt) (z : Zt) (w : Vt) (sz : Nat) (o : Nat) (p0 : Int32) (K : Vt → Prop) (hp : wp_X3_passDay z o p0 w K) : MV l yX3_passDay wsX3_passDay rmX3_passDay G z w sz [.ref o, .int p0] K := by
  refine Met.ofW (cc := cX3_passDay) (maxL := 3) (ret := none) (by decide +kernel) rfl ?_
  intro p e s m args below meth c s₁ B hml hv
  obtain ⟨rfl, rfl, C, h⟩ := hp_start B hml hv
  generalize gA G z w s.heap.size = A at C h ⊢
  obtain ⟨hx, hb, hr, hlocks, hml, hown, hts, hK, hA, hE⟩ := id C
  obtain ⟨ho, hp⟩ := hp
  have hl := lv_entry ([.ref o, .int p0]) (n := 3) (Nat.le_of_ble_eq_true rfl)
  rw [lg_entry_eq]
  generalize (lg_sl ([.ref o, .int p0]) ++ List.replicate (3 - (lg_sl ([.ref o, .int p0])).length) Slot.unset).toArray = ls at hl ⊢
  have hl : lv_has ls 3 [(0, .ref o), (1, .int p0)] := hl
  refine lv_iload_n hx hb dX3_passDay_0 rfl (lv_at hl 1 rfl) ?_
  refine lv_iconst (v := 3) hx hb dX3_passDay_1 (by decide) ?_
  refine lv_icmp_lt (tgt := 51) hx hb dX3_passDay_2 (by decide) (fun hc1 => ?_) (fun hc1 => ?_)
  · have hp := hp.1 hc1
    refine lv_aload_n hx hb dX3_passDay_51 rfl (lv_at hl 0 rfl) ?_
    refine lv_dup hx hb dX3_passDay_52 rfl ?_
    refine hp_get (ci := 3) (v := .int (vI w 302 o)) hx hb hts ix_X3_passDay_3 hown hK h ho (by decide) rfl 2 (by decide) (hts _ lk_X3_passDay_27) (fun _ h9 => h9) rfl dX3_passDay_53 ?_
    refine lv_iconst (v := 1) hx hb dX3_passDay_56 (by decide) ?_
    refine lv_isub hx hb dX3_passDay_57 ?_
    refine hp_puti (ci := 3) (ty := .int) (x := (vI w 302 o) - 1) hx hb hts ix_X3_passDay_3 tyX3 tyX3_ok nmX3 hown hK h ho (by decide) rfl 2 302 (by decide) (hts _ lk_X3_passDay_27) (fun _ h9 => h9) rfl (by decide +kernel) rfl rfl (fun _ _ => rfl) (fun _ _ => Nat.le_of_ble_eq_true rfl) dX3_passDay_58 (fun H locs w2 ew2 h => ?_)
    have hp := hp w2 ew2
    refine lv_aload_n hx hb dX3_passDay_61 rfl (lv_at hl 0 rfl) ?_
    obtain ⟨b3, eb3, hob3, hp⟩ := hp
    refine hp_get (ci := 3) (v := .ref b3) hx hb hts ix_X3_passDay_3 hown hK h ho (by decide) rfl 0 (by decide) (hts _ lk_X3_passDay_9) (fun _ h9 => h9) (by show some (va_rf (zR z 300 o)) = some (Value.ref b3); rw [eb3]; rfl) dX3_passDay_62 ?_
    refine lv_dup hx hb dX3_passDay_65 rfl ?_
    refine hp_getN (ci := 0) (v := .int (vI w2 5 b3)) hx hb hts ix_X3_passDay_0 hown hK h hob3 (by decide) rfl 5 (by decide) (lk_X3_passDay_30 hE) (fun _ h9 => h9) rfl dX3_passDay_66 ?_
    refine lv_aload_n hx hb dX3_passDay_69 rfl (lv_at hl 0 rfl) ?_
    refine hp_get (ci := 3) (v := .int (vI w2 302 o)) hx hb hts ix_X3_passDay_3 hown hK h ho (by decide) rfl 2 (by decide) (hts _ lk_X3_passDay_27) (fun _ h9 => h9) rfl dX3_passDay_70 ?_
    refine lv_if_ne (tgt := 85) hx hb dX3_passDay_73 (by decide) (fun hc4 => ?_) (fun hc4 => ?_)
    · have hp := hp.1 hc4
      refine lv_iconst (v := 0) hx hb dX3_passDay_85 (by decide) ?_
      refine lv_iadd hx hb dX3_passDay_86 ?_
      refine hp_putiN (ci := 0) (ty := .int) (x := (vI w2 5 b3) + 0) hx hb hts ix_X3_passDay_0 tyX0 tyX0_ok nmX0 hown hK h hob3 (by decide) rfl 5 5 (by decide) (lk_X3_passDay_30 hE) (fun _ h9 => h9) rfl (by decide +kernel) rfl rfl (fun _ _ => rfl) (fun _ _ => Nat.le_of_ble_eq_true rfl) dX3_passDay_87 (fun H locs w5 ew5 h => ?_)
      have hp := hp w5 ew5
      exact hp_vret hx hb hr hlocks hK h hp dX3_passDay_90
    · have hp := hp.2 hc4
      refine lv_aload_n hx hb dX3_passDay_76 rfl (lv_at hl 0 rfl) ?_
      refine hp_get (ci := 3) (v := .int (vI w2 301 o)) hx hb hts ix_X3_passDay_3 hown hK h ho (by decide) rfl 1 (by decide) (hts _ lk_X3_passDay_15) (fun _ h9 => h9) rfl dX3_passDay_77 ?_
      refine lv_iconst (v := 5) hx hb dX3_passDay_80 (by decide) ?_
      refine lv_idiv hx hb dX3_passDay_81 (by decide) ?_
      refine lv_goto (tgt := 86) hx hb dX3_passDay_82 (by decide) ?_
      refine lv_iadd hx hb dX3_passDay_86 ?_
      refine hp_putiN (ci := 0) (ty := .int) (x := (vI w2 5 b3) + ((vI w2 301 o) / 5)) hx hb hts ix_X3_passDay_0 tyX0 tyX0_ok nmX0 hown hK h hob3 (by decide) rfl 5 5 (by decide) (lk_X3_passDay_30 hE) (fun _ h9 => h9) rfl (by decide +kernel) rfl rfl (fun _ _ => rfl) (fun _ _ => Nat.le_of_ble_eq_true rfl) dX3_passDay_87 (fun H locs w6 ew6 h => ?_)
      have hp := hp w6 ew6
      exact hp_vret hx hb hr hlocks hK h hp dX3_passDay_90
  · have hp := hp.2 hc1
    refine lv_aload_n hx hb dX3_passDay_5 rfl (lv_at hl 0 rfl) ?_
    refine hp_get (ci := 3) (v := .int (vI w 301 o)) hx hb hts ix_X3_passDay_3 hown hK h ho (by decide) rfl 1 (by decide) (hts _ lk_X3_passDay_15) (fun _ h9 => h9) rfl dX3_passDay_6 ?_
    refine lv_iconst (v := 2) hx hb dX3_passDay_9 (by decide) ?_
    refine lv_idiv hx hb dX3_passDay_10 (by decide) ?_
    refine lv_topi (fun x7 ex7 => ?_)
    have hp := hp x7 ex7
    refine lv_istore_n (lv' := [(2, .int x7), (0, .ref o), (1, .int p0)]) hx hb dX3_passDay_11 rfl hl (by decide) rfl (fun ls hl => ?_)
    refine lv_aload_n hx hb dX3_passDay_12 rfl (lv_at hl 1 rfl) ?_
    obtain ⟨b8, eb8, hob8, hp⟩ := hp
    refine hp_get (ci := 3) (v := .ref b8) hx hb hts ix_X3_passDay_3 hown hK h ho (by decide) rfl 0 (by decide) (hts _ lk_X3_passDay_9) (fun _ h9 => h9) (by show some (va_rf (zR z 300 o)) = some (Value.ref b8); rw [eb8]; rfl) dX3_passDay_13 ?_
    refine lv_dup hx hb dX3_passDay_16 rfl ?_
    refine hp_getN (ci := 0) (v := .int (vI w 4 b8)) hx hb hts ix_X3_passDay_0 hown hK h hob8 (by decide) rfl 4 (by decide) (lk_X3_passDay_19 hE) (fun _ h9 => h9) rfl dX3_passDay_17 ?_
    refine lv_iload_n hx hb dX3_passDay_20 rfl (lv_at hl 0 rfl) ?_
    refine lv_iadd hx hb dX3_passDay_21 ?_
    refine hp_putiN (ci := 0) (ty := .int) (x := (vI w 4 b8) + x7) hx hb hts ix_X3_passDay_0 tyX0 tyX0_ok nmX0 hown hK h hob8 (by decide) rfl 4 4 (by decide) (lk_X3_passDay_19 hE) (fun _ h9 => h9) rfl (by decide +kernel) rfl rfl (fun _ _ => rfl) (fun _ _ => Nat.le_of_ble_eq_true rfl) dX3_passDay_22 (fun H locs w9 ew9 h => ?_)
    have hp := hp w9 ew9
    refine lv_aload_n hx hb dX3_passDay_25 rfl (lv_at hl 1 rfl) ?_
    refine hp_get (ci := 3) (v := .ref b8) hx hb hts ix_X3_passDay_3 hown hK h ho (by decide) rfl 0 (by decide) (hts _ lk_X3_passDay_9) (fun _ h9 => h9) (by show some (va_rf (zR z 300 o)) = some (Value.ref b8); rw [eb8]; rfl) dX3_passDay_26 ?_
    refine lv_dup hx hb dX3_passDay_29 rfl ?_
    refine hp_getN (ci := 0) (v := .int (vI w9 7 b8)) hx hb hts ix_X3_passDay_0 hown hK h hob8 (by decide) rfl 7 (by decide) (lk_X3_passDay_24 hE) (fun _ h9 => h9) rfl dX3_passDay_30 ?_
    refine lv_aload_n hx hb dX3_passDay_33 rfl (lv_at hl 1 rfl) ?_
    refine hp_get (ci := 3) (v := .int (vI w9 301 o)) hx hb hts ix_X3_passDay_3 hown hK h ho (by decide) rfl 1 (by decide) (hts _ lk_X3_passDay_15) (fun _ h9 => h9) rfl dX3_passDay_34 ?_
    refine lv_iload_n hx hb dX3_passDay_37 rfl (lv_at hl 0 rfl) ?_
    refine lv_isub hx hb dX3_passDay_38 ?_
    refine lv_iadd hx hb dX3_passDay_39 ?_
    refine hp_putiN (ci := 0) (ty := .int) (x := (vI w9 7 b8) + ((vI w9 301 o) - x7)) hx hb hts ix_X3_passDay_0 tyX0 tyX0_ok nmX0 hown hK h hob8 (by decide) rfl 7 7 (by decide) (lk_X3_passDay_24 hE) (fun _ h9 => h9) rfl (by decide +kernel) rfl rfl (fun _ _ => rfl) (fun _ _ => Nat.le_of_ble_eq_true rfl) dX3_passDay_40 (fun H locs w10 ew10 h => ?_)
    have hp := hp w10 ew10
    refine lv_aload_n hx hb dX3_passDay_43 rfl (lv_at hl 1 rfl) ?_
    refine lv_iconst (v := 0) hx hb dX3_passDay_44 (by decide) ?_
    refine hp_puti (ci := 3) (ty := .int) (x := 0) hx hb hts ix_X3_passDay_3 tyX3 tyX3_ok nmX3 hown hK h ho (by decide) rfl 2 302 (by decide) (hts _ lk_X3_passDay_27) (fun _ h9 => h9) rfl (by decide +kernel) rfl rfl (fun _ _ => rfl) (fun _ _ => Nat.le_of_ble_eq_true rfl) dX3_passDay_45 (fun H locs w11 ew11 h => ?_)
    have hp := hp w11 ew11
    refine lv_goto (tgt := 90) hx hb dX3_passDay_48 (by decide) ?_
    exact hp_vret hx hb hr hlocks hK h hp dX3_passDay_90
abbrev rmX4_forgetAll : Room := { frames := 0, cells := 0, slots := 0, locals := 0 }
theorem ix_X4_forgetAll_4 : ∀ w ∈ wsX40, w ∈ wsX4_forgetAll := by decide +kernel
theorem lk_X4_forgetAll_31 : Cond.fieldLink RX4 31 "KelpShores$Rights" "size" "I" ∈ wsX4_forgetAll := by decide +kernel
theorem lk_X4_forgetAll_27 : Cond.fieldLink RX4 27 "KelpShores$Rights" "rest" "I" ∈ wsX4_forgetAll := by decide +kernel
def wp_X4_forgetAll (z : Zt) (o : Nat) (w : Vt) (K : Vt → Prop) : Prop := isO z 4 o ∧ ∀ w1 : Vt, w1 = uI w 405 o 0 → ∀ w2 : Vt, w2 = uI w1 406 o 2 → K w2
set_option maxHeartbeats 4000000 in
set_option maxRecDepth 100000 in
theorem k_X4_forgetAll (l : Launch) (G : Gt) (z : Zt) (w : Vt) (sz : Nat) (o : Nat) (K : Vt → Prop) (hp : wp_X4_forgetAll z o w K) : MV l yX4_forgetAll wsX4_forgetAll rmX4_forgetAll G z w sz [.ref o] K := by
  refine Met.ofW (cc := cX4_forgetAll) (maxL := 1) (ret := none) (by decide +kernel) rfl ?_
  intro p e s m args below meth c s₁ B hml hv
  obtain ⟨rfl, rfl, C, h⟩ := hp_start B hml hv
  generalize gA G z w s.heap.size = A at C h ⊢
  obtain ⟨hx, hb, hr, hlocks, hml, hown, hts, hK, hA, hE⟩ := id C
  obtain ⟨ho, hp⟩ := hp
  have hl := lv_entry ([.ref o]) (n := 1) (Nat.le_of_ble_eq_true rfl)
  rw [lg_entry_eq]
  generalize (lg_sl ([.ref o]) ++ List.replicate (1 - (lg_sl ([.ref o])).length) Slot.unset).toArray = ls at hl ⊢
  have hl : lv_has ls 1 [(0, .ref o)] := hl
  refine lv_aload_n hx hb dX4_forgetAll_0 rfl (lv_at hl 0 rfl) ?_
  refine lv_iconst (v := 0) hx hb dX4_forgetAll_1 (by decide) ?_
  refine hp_puti (ci := 4) (ty := .int) (x := 0) hx hb hts ix_X4_forgetAll_4 tyX4 tyX4_ok nmX4 hown hK h ho (by decide) rfl 5 405 (by decide) (hts _ lk_X4_forgetAll_31) (fun _ h9 => h9) rfl (by decide +kernel) rfl rfl (fun _ _ => rfl) (fun _ _ => Nat.le_of_ble_eq_true rfl) dX4_forgetAll_2 (fun H locs w1 ew1 h => ?_)
  have hp := hp w1 ew1
  refine lv_aload_n hx hb dX4_forgetAll_5 rfl (lv_at hl 0 rfl) ?_
  refine lv_iconst (v := 2) hx hb dX4_forgetAll_6 (by decide) ?_
  refine hp_puti (ci := 4) (ty := .int) (x := 2) hx hb hts ix_X4_forgetAll_4 tyX4 tyX4_ok nmX4 hown hK h ho (by decide) rfl 6 406 (by decide) (hts _ lk_X4_forgetAll_27) (fun _ h9 => h9) rfl (by decide +kernel) rfl rfl (fun _ _ => rfl) (fun _ _ => Nat.le_of_ble_eq_true rfl) dX4_forgetAll_7 (fun H locs w2 ew2 h => ?_)
  have hp := hp w2 ew2
  exact hp_vret hx hb hr hlocks hK h hp dX4_forgetAll_10
abbrev rmX4_addPart : Room := { frames := 0, cells := 0, slots := 0, locals := 0 }
theorem ix_X4_addPart_4 : ∀ w ∈ wsX40, w ∈ wsX4_addPart := by decide +kernel
theorem lk_X4_addPart_31 : Cond.fieldLink RX4 31 "KelpShores$Rights" "size" "I" ∈ wsX4_addPart := by decide +kernel
theorem lk_X4_addPart_9 : Cond.fieldLink RX4 9 "KelpShores$Rights" "shoreOf" "[I" ∈ wsX4_addPart := by decide +kernel
theorem lk_X4_addPart_15 : Cond.fieldLink RX4 15 "KelpShores$Rights" "familyOf" "[I" ∈ wsX4_addPart := by decide +kernel
theorem lk_X4_addPart_18 : Cond.fieldLink RX4 18 "KelpShores$Rights" "firstDay" "[I" ∈ wsX4_addPart := by decide +kernel
theorem lk_X4_addPart_21 : Cond.fieldLink RX4 21 "KelpShores$Rights" "lastDay" "[I" ∈ wsX4_addPart := by decide +kernel
theorem lk_X4_addPart_24 : Cond.fieldLink RX4 24 "KelpShores$Rights" "share" "[I" ∈ wsX4_addPart := by decide +kernel
def wp_X4_addPart (z : Zt) (o : Nat) (p0 : Int32) (p1 : Int32) (p2 : Int32) (p3 : Int32) (p4 : Int32) (w : Vt) (K : Vt → Prop) : Prop := isO z 4 o ∧ ((vI w 405 o) < 15 → ∃ b2 : Nat, zR z 400 o = some b2 ∧ isO z 1400 b2 ∧ vp_in (vI w 405 o) 15 ∧ ∀ w3 : Vt, w3 = uA w 1400 b2 (vI w 405 o : Int32).toNatClampNeg p0 → ∃ b4 : Nat, zR z 401 o = some b4 ∧ isO z 1401 b4 ∧ vp_in (vI w3 405 o) 15 ∧ ∀ w5 : Vt, w5 = uA w3 1401 b4 (vI w3 405 o : Int32).toNatClampNeg p1 → ∃ b6 : Nat, zR z 402 o = some b6 ∧ isO z 1402 b6 ∧ vp_in (vI w5 405 o) 15 ∧ ∀ w7 : Vt, w7 = uA w5 1402 b6 (vI w5 405 o : Int32).toNatClampNeg p2 → ∃ b8 : Nat, zR z 403 o = some b8 ∧ isO z 1403 b8 ∧ vp_in (vI w7 405 o) 15 ∧ ∀ w9 : Vt, w9 = uA w7 1403 b8 (vI w7 405 o : Int32).toNatClampNeg p3 → ∃ b10 : Nat, zR z 404 o = some b10 ∧ isO z 1404 b10 ∧ vp_in (vI w9 405 o) 15 ∧ ∀ w11 : Vt, w11 = uA w9 1404 b10 (vI w9 405 o : Int32).toNatClampNeg p4 → ∀ w12 : Vt, w12 = uI w11 405 o ((vI w11 405 o) + 1) → K w12) ∧ (¬ (vI w 405 o) < 15 → K w)
set_option maxHeartbeats 4000000 in
set_option maxRecDepth 100000 in
theorem k_X4_addPart (l : Launch) (G : Gt) (z : Zt) (w : Vt) (sz : Nat) (o : Nat) (p0 : Int32) (p1 : Int32) (p2 : Int32) (p3 : Int32) (p4 : Int32) (K : Vt → Prop) (hp : wp_X4_addPart z o p0 p1 p2 p3 p4 w K) : MV l yX4_addPart wsX4_addPart rmX4_addPart G z w sz [.ref o, .int p0, .int p1, .int p2, .int p3, .int p4] K := by
  refine Met.ofW (cc := cX4_addPart) (maxL := 6) (ret := none) (by decide +kernel) rfl ?_
  intro p e s m args below meth c s₁ B hml hv
  obtain ⟨rfl, rfl, C, h⟩ := hp_start B hml hv
  generalize gA G z w s.heap.size = A at C h ⊢
  obtain ⟨hx, hb, hr, hlocks, hml, hown, hts, hK, hA, hE⟩ := id C
  obtain ⟨ho, hp⟩ := hp
  have hl := lv_entry ([.ref o, .int p0, .int p1, .int p2, .int p3, .int p4]) (n := 6) (Nat.le_of_ble_eq_true rfl)
  rw [lg_entry_eq]
  generalize (lg_sl ([.ref o, .int p0, .int p1, .int p2, .int p3, .int p4]) ++ List.replicate (6 - (lg_sl ([.ref o, .int p0, .int p1, .int p2, .int p3, .int p4])).length) Slot.unset).toArray = ls at hl ⊢
  have hl : lv_has ls 6 [(0, .ref o), (1, .int p0), (2, .int p1), (3, .int p2), (4, .int p3), (5, .int p4)] := hl
  refine lv_aload_n hx hb dX4_addPart_0 rfl (lv_at hl 0 rfl) ?_
  refine hp_get (ci := 4) (v := .int (vI w 405 o)) hx hb hts ix_X4_addPart_4 hown hK h ho (by decide) rfl 5 (by decide) (hts _ lk_X4_addPart_31) (fun _ h9 => h9) rfl dX4_addPart_1 ?_
  refine lv_bipush (v := 15) hx hb dX4_addPart_4 (by decide) ?_
  refine lv_icmp_lt (tgt := 10) hx hb dX4_addPart_6 (by decide) (fun hc1 => ?_) (fun hc1 => ?_)
  · have hp := hp.1 hc1
    refine lv_aload_n hx hb dX4_addPart_10 rfl (lv_at hl 0 rfl) ?_
    obtain ⟨b2, eb2, hob2, hp⟩ := hp
    refine hp_get (ci := 4) (v := .ref b2) hx hb hts ix_X4_addPart_4 hown hK h ho (by decide) rfl 0 (by decide) (hts _ lk_X4_addPart_9) (fun _ h9 => h9) (by show some (va_rf (zR z 400 o)) = some (Value.ref b2); rw [eb2]; rfl) dX4_addPart_11 ?_
    refine lv_aload_n hx hb dX4_addPart_14 rfl (lv_at hl 0 rfl) ?_
    refine hp_get (ci := 4) (v := .int (vI w 405 o)) hx hb hts ix_X4_addPart_4 hown hK h ho (by decide) rfl 5 (by decide) (hts _ lk_X4_addPart_31) (fun _ h9 => h9) rfl dX4_addPart_15 ?_
    refine lv_iload_n hx hb dX4_addPart_18 rfl (lv_at hl 1 rfl) ?_
    refine hp_iast (t := 1400) (n := 15) hx hb hK h hob2 (by decide) (fun _ _ _ => rfl) hp.1 dX4_addPart_19 (fun H locs w3 ew3 h => ?_)
    have hp := hp.2 w3 ew3
    refine lv_aload_n hx hb dX4_addPart_20 rfl (lv_at hl 0 rfl) ?_
    obtain ⟨b4, eb4, hob4, hp⟩ := hp
    refine hp_get (ci := 4) (v := .ref b4) hx hb hts ix_X4_addPart_4 hown hK h ho (by decide) rfl 1 (by decide) (hts _ lk_X4_addPart_15) (fun _ h9 => h9) (by show some (va_rf (zR z 401 o)) = some (Value.ref b4); rw [eb4]; rfl) dX4_addPart_21 ?_
    refine lv_aload_n hx hb dX4_addPart_24 rfl (lv_at hl 0 rfl) ?_
    refine hp_get (ci := 4) (v := .int (vI w3 405 o)) hx hb hts ix_X4_addPart_4 hown hK h ho (by decide) rfl 5 (by decide) (hts _ lk_X4_addPart_31) (fun _ h9 => h9) rfl dX4_addPart_25 ?_
    refine lv_iload_n hx hb dX4_addPart_28 rfl (lv_at hl 2 rfl) ?_
    refine hp_iast (t := 1401) (n := 15) hx hb hK h hob4 (by decide) (fun _ _ _ => rfl) hp.1 dX4_addPart_29 (fun H locs w5 ew5 h => ?_)
    have hp := hp.2 w5 ew5
    refine lv_aload_n hx hb dX4_addPart_30 rfl (lv_at hl 0 rfl) ?_
    obtain ⟨b6, eb6, hob6, hp⟩ := hp
    refine hp_get (ci := 4) (v := .ref b6) hx hb hts ix_X4_addPart_4 hown hK h ho (by decide) rfl 2 (by decide) (hts _ lk_X4_addPart_18) (fun _ h9 => h9) (by show some (va_rf (zR z 402 o)) = some (Value.ref b6); rw [eb6]; rfl) dX4_addPart_31 ?_
    refine lv_aload_n hx hb dX4_addPart_34 rfl (lv_at hl 0 rfl) ?_
    refine hp_get (ci := 4) (v := .int (vI w5 405 o)) hx hb hts ix_X4_addPart_4 hown hK h ho (by decide) rfl 5 (by decide) (hts _ lk_X4_addPart_31) (fun _ h9 => h9) rfl dX4_addPart_35 ?_
    refine lv_iload_n hx hb dX4_addPart_38 rfl (lv_at hl 3 rfl) ?_
    refine hp_iast (t := 1402) (n := 15) hx hb hK h hob6 (by decide) (fun _ _ _ => rfl) hp.1 dX4_addPart_39 (fun H locs w7 ew7 h => ?_)
    have hp := hp.2 w7 ew7
    refine lv_aload_n hx hb dX4_addPart_40 rfl (lv_at hl 0 rfl) ?_
    obtain ⟨b8, eb8, hob8, hp⟩ := hp
    refine hp_get (ci := 4) (v := .ref b8) hx hb hts ix_X4_addPart_4 hown hK h ho (by decide) rfl 3 (by decide) (hts _ lk_X4_addPart_21) (fun _ h9 => h9) (by show some (va_rf (zR z 403 o)) = some (Value.ref b8); rw [eb8]; rfl) dX4_addPart_41 ?_
    refine lv_aload_n hx hb dX4_addPart_44 rfl (lv_at hl 0 rfl) ?_
    refine hp_get (ci := 4) (v := .int (vI w7 405 o)) hx hb hts ix_X4_addPart_4 hown hK h ho (by decide) rfl 5 (by decide) (hts _ lk_X4_addPart_31) (fun _ h9 => h9) rfl dX4_addPart_45 ?_
    refine lv_iload hx hb dX4_addPart_48 (lv_at hl 4 rfl) ?_
    refine hp_iast (t := 1403) (n := 15) hx hb hK h hob8 (by decide) (fun _ _ _ => rfl) hp.1 dX4_addPart_50 (fun H locs w9 ew9 h => ?_)
    have hp := hp.2 w9 ew9
    refine lv_aload_n hx hb dX4_addPart_51 rfl (lv_at hl 0 rfl) ?_
    obtain ⟨b10, eb10, hob10, hp⟩ := hp
    refine hp_get (ci := 4) (v := .ref b10) hx hb hts ix_X4_addPart_4 hown hK h ho (by decide) rfl 4 (by decide) (hts _ lk_X4_addPart_24) (fun _ h9 => h9) (by show some (va_rf (zR z 404 o)) = some (Value.ref b10); rw [eb10]; rfl) dX4_addPart_52 ?_
    refine lv_aload_n hx hb dX4_addPart_55 rfl (lv_at hl 0 rfl) ?_
    refine hp_get (ci := 4) (v := .int (vI w9 405 o)) hx hb hts ix_X4_addPart_4 hown hK h ho (by decide) rfl 5 (by decide) (hts _ lk_X4_addPart_31) (fun _ h9 => h9) rfl dX4_addPart_56 ?_
    refine lv_iload hx hb dX4_addPart_59 (lv_at hl 5 rfl) ?_
    refine hp_iast (t := 1404) (n := 15) hx hb hK h hob10 (by decide) (fun _ _ _ => rfl) hp.1 dX4_addPart_61 (fun H locs w11 ew11 h => ?_)
    have hp := hp.2 w11 ew11
    refine lv_aload_n hx hb dX4_addPart_62 rfl (lv_at hl 0 rfl) ?_
    refine lv_dup hx hb dX4_addPart_63 rfl ?_
    refine hp_get (ci := 4) (v := .int (vI w11 405 o)) hx hb hts ix_X4_addPart_4 hown hK h ho (by decide) rfl 5 (by decide) (hts _ lk_X4_addPart_31) (fun _ h9 => h9) rfl dX4_addPart_64 ?_
    refine lv_iconst (v := 1) hx hb dX4_addPart_67 (by decide) ?_
    refine lv_iadd hx hb dX4_addPart_68 ?_
    refine hp_puti (ci := 4) (ty := .int) (x := (vI w11 405 o) + 1) hx hb hts ix_X4_addPart_4 tyX4 tyX4_ok nmX4 hown hK h ho (by decide) rfl 5 405 (by decide) (hts _ lk_X4_addPart_31) (fun _ h9 => h9) rfl (by decide +kernel) rfl rfl (fun _ _ => rfl) (fun _ _ => Nat.le_of_ble_eq_true rfl) dX4_addPart_69 (fun H locs w12 ew12 h => ?_)
    have hp := hp w12 ew12
    exact hp_vret hx hb hr hlocks hK h hp dX4_addPart_72
  · have hp := hp.2 hc1
    exact hp_vret hx hb hr hlocks hK h hp dX4_addPart_9
abbrev rmX4_firstPart : Room := { frames := 1, cells := 0, slots := 0, locals := 22 }
theorem ix_X4_firstPart_4 : ∀ w ∈ wsX40, w ∈ wsX4_firstPart := by decide +kernel
theorem lk_X4_firstPart_31 : Cond.fieldLink RX4 31 "KelpShores$Rights" "size" "I" ∈ wsX4_firstPart := by decide +kernel
theorem lk_X4_firstPart_9 : Cond.fieldLink RX4 9 "KelpShores$Rights" "shoreOf" "[I" ∈ wsX4_firstPart := by decide +kernel
theorem lk_X4_firstPart_15 : Cond.fieldLink RX4 15 "KelpShores$Rights" "familyOf" "[I" ∈ wsX4_firstPart := by decide +kernel
theorem lk_X4_firstPart_18 : Cond.fieldLink RX4 18 "KelpShores$Rights" "firstDay" "[I" ∈ wsX4_firstPart := by decide +kernel
theorem lk_X4_firstPart_21 : Cond.fieldLink RX4 21 "KelpShores$Rights" "lastDay" "[I" ∈ wsX4_firstPart := by decide +kernel
theorem ln_X4_firstPart_34 {G : Gt} {A : Nat → Prop} {s : State} (hE : gE G A s s.heap) : va_Nw (Cond.methodLinkNest RX4 34 yX9_isWithin "KelpShores") s := hE.2.1 (RX4, 34, yX9_isWithin) (List.mem_of_getElem? (i := 7) rfl)
theorem wd_X4_firstPart_iX9 : Cond.initialized RX9 ∈ wsX4_firstPart := by decide +kernel
theorem wd_X4_firstPart_tX9_isWithin : Cond.static yX9_isWithin ∈ wsX4_firstPart := by decide +kernel
def wL_X4_firstPart_3 (z : Zt) (o : Nat) (K : Int32 → Vt → Prop) (Kx : Int32 → Int32 → Int32 → Int32 → Vt → Prop) : Nat → Int32 → Int32 → Int32 → Int32 → Vt → Prop
  | 0, _, _, _, _, _ => False
  | n + 1, x4_, x1_, x2_, x3_, w => ((vI w 405 o) ≤ x4_ → Kx x4_ x1_ x2_ x3_ w) ∧ (¬ (vI w 405 o) ≤ x4_ → (15 ≤ x4_ → Kx x4_ x1_ x2_ x3_ w) ∧ (¬ 15 ≤ x4_ → ∃ b3 : Nat, zR z 400 o = some b3 ∧ isO z 1400 b3 ∧ vp_in x4_ 15 ∧ (¬ (vA w 1400 b3 (x4_ : Int32).toNatClampNeg) = x1_ → ∀ x5 : Int32, x5 = x4_ + 1 → wL_X4_firstPart_3 z o K Kx n x5 x1_ x2_ x3_ w) ∧ ((vA w 1400 b3 (x4_ : Int32).toNatClampNeg) = x1_ → ∃ b6 : Nat, zR z 401 o = some b6 ∧ isO z 1401 b6 ∧ vp_in x4_ 15 ∧ (¬ (vA w 1401 b6 (x4_ : Int32).toNatClampNeg) = x2_ → ∀ x8 : Int32, x8 = x4_ + 1 → wL_X4_firstPart_3 z o K Kx n x8 x1_ x2_ x3_ w) ∧ ((vA w 1401 b6 (x4_ : Int32).toNatClampNeg) = x2_ → ∃ b9 : Nat, zR z 402 o = some b9 ∧ isO z 1402 b9 ∧ vp_in x4_ 15 ∧ ∃ b10 : Nat, zR z 403 o = some b10 ∧ isO z 1403 b10 ∧ vp_in x4_ 15 ∧ wp_X9_isWithin z x3_ (vA w 1402 b9 (x4_ : Int32).toNatClampNeg) (vA w 1403 b10 (x4_ : Int32).toNatClampNeg) w (fun r12 w11 => (r12 = 0 → ∀ x14 : Int32, x14 = x4_ + 1 → wL_X4_firstPart_3 z o K Kx n x14 x1_ x2_ x3_ w11) ∧ (¬ r12 = 0 → K x4_ w11))))))
set_option maxHeartbeats 4000000 in
set_option maxRecDepth 100000 in
theorem kL_X4_firstPart_3 {p : Program} {l : Launch} {e : Env} {s : State} {m : MethodId} {args : Array Value} {below : List Frame} {meth : Method} {c : Code} {G : Gt} {A : Nat → Prop} {z : Zt} (C : gC p s m args meth c cX4_firstPart 5 RX4 wsX4_firstPart (some .int) G A) (o : Nat) (ho : isO z 4 o) (K : Int32 → Vt → Prop) (Kx : Int32 → Int32 → Int32 → Int32 → Vt → Prop) (kKx : ∀ (x4_ x1_ x2_ x3_ : Int32) (w : Vt) (H : Heap) (locs : List Loc) (ls : Array Slot), Kx x4_ x1_ x2_ x3_ w → hpH G.1 G.2.1 A s.heap z w H locs → lv_has ls 5 [(4, .int x4_), (0, .ref o), (1, .int x1_), (2, .int x2_), (3, .int x3_)] → W p l e (headSpec wsX4_firstPart rmX4_firstPart).room s m args below meth c H locs 0 0 (MQ below (va_Qi K (gB G A z) A) args s 0 0 A) (F0 m 71 ls [])) : ∀ (n : Nat) (x4_ x1_ x2_ x3_ : Int32) (w : Vt) (H : Heap) (locs : List Loc) (ls : Array Slot), wL_X4_firstPart_3 z o K Kx n x4_ x1_ x2_ x3_ w → hpH G.1 G.2.1 A s.heap z w H locs → lv_has ls 5 [(4, .int x4_), (0, .ref o), (1, .int x1_), (2, .int x2_), (3, .int x3_)] → W p l e (headSpec wsX4_firstPart rmX4_firstPart).room s m args below meth c H locs 0 0 (MQ below (va_Qi K (gB G A z) A) args s 0 0 A) (F0 m 3 ls []) := by
  obtain ⟨hx, hb, hr, hlocks, hml, hown, hts, hK, hA, hE⟩ := id C
  intro n
  induction n with
  | zero =>
    intro x4_ x1_ x2_ x3_ w H locs ls hp
    exact hp.elim
  | succ n ih =>
    intro x4_ x1_ x2_ x3_ w H locs ls hp h hl
    refine lv_iload hx hb dX4_firstPart_3 (lv_at hl 0 rfl) ?_
    refine lv_aload_n hx hb dX4_firstPart_5 rfl (lv_at hl 1 rfl) ?_
    refine hp_get (ci := 4) (v := .int (vI w 405 o)) hx hb hts ix_X4_firstPart_4 hown hK h ho (by decide) rfl 5 (by decide) (hts _ lk_X4_firstPart_31) (fun _ h9 => h9) rfl dX4_firstPart_6 ?_
    refine lv_icmp_ge (tgt := 71) hx hb dX4_firstPart_9 (by decide) (fun hc1 => ?_) (fun hc1 => ?_)
    · have hp := hp.1 hc1
      exact kKx x4_ x1_ x2_ x3_ w _ _ _ hp h (lv_sub hl [0, 1, 2, 3, 4] rfl)
    · have hp := hp.2 hc1
      refine lv_iload hx hb dX4_firstPart_12 (lv_at hl 0 rfl) ?_
      refine lv_bipush (v := 15) hx hb dX4_firstPart_14 (by decide) ?_
      refine lv_icmp_ge (tgt := 71) hx hb dX4_firstPart_16 (by decide) (fun hc2 => ?_) (fun hc2 => ?_)
      · have hp := hp.1 hc2
        exact kKx x4_ x1_ x2_ x3_ w _ _ _ hp h (lv_sub hl [0, 1, 2, 3, 4] rfl)
      · have hp := hp.2 hc2
        refine lv_aload_n hx hb dX4_firstPart_19 rfl (lv_at hl 1 rfl) ?_
        obtain ⟨b3, eb3, hob3, hp⟩ := hp
        refine hp_get (ci := 4) (v := .ref b3) hx hb hts ix_X4_firstPart_4 hown hK h ho (by decide) rfl 0 (by decide) (hts _ lk_X4_firstPart_9) (fun _ h9 => h9) (by show some (va_rf (zR z 400 o)) = some (Value.ref b3); rw [eb3]; rfl) dX4_firstPart_20 ?_
        refine lv_iload hx hb dX4_firstPart_23 (lv_at hl 0 rfl) ?_
        refine hp_iald (t := 1400) (n := 15) hx hb hK h hob3 (by decide) (fun _ _ _ => rfl) hp.1 dX4_firstPart_25 ?_
        have hp := hp.2
        refine lv_iload_n hx hb dX4_firstPart_26 rfl (lv_at hl 2 rfl) ?_
        refine lv_icmp_ne (tgt := 65) hx hb dX4_firstPart_27 (by decide) (fun hc4 => ?_) (fun hc4 => ?_)
        · have hp := hp.1 hc4
          obtain ⟨x5, ex5⟩ : ∃ y : Int32, y = x4_ + 1 := ⟨_, rfl⟩
          have hp := hp x5 ex5
          refine lv_iinc (v := x5) (lv' := [(4, .int x5), (0, .ref o), (1, .int x1_), (2, .int x2_), (3, .int x3_)]) hx hb dX4_firstPart_65 hl (k := 0) rfl (by rw [ex5]; rfl) (by decide) rfl (fun ls hl => ?_)
          refine lv_goto (tgt := 3) hx hb dX4_firstPart_68 (by decide) ?_
          exact ih x5 x1_ x2_ x3_ w _ _ _ hp h (lv_sub hl [0, 1, 2, 3, 4] rfl)
        · have hp := hp.2 hc4
          refine lv_aload_n hx hb dX4_firstPart_30 rfl (lv_at hl 1 rfl) ?_
          obtain ⟨b6, eb6, hob6, hp⟩ := hp
          refine hp_get (ci := 4) (v := .ref b6) hx hb hts ix_X4_firstPart_4 hown hK h ho (by decide) rfl 1 (by decide) (hts _ lk_X4_firstPart_15) (fun _ h9 => h9) (by show some (va_rf (zR z 401 o)) = some (Value.ref b6); rw [eb6]; rfl) dX4_firstPart_31 ?_
          refine lv_iload hx hb dX4_firstPart_34 (lv_at hl 0 rfl) ?_
          refine hp_iald (t := 1401) (n := 15) hx hb hK h hob6 (by decide) (fun _ _ _ => rfl) hp.1 dX4_firstPart_36 ?_
          have hp := hp.2
          refine lv_iload_n hx hb dX4_firstPart_37 rfl (lv_at hl 3 rfl) ?_
          refine lv_icmp_ne (tgt := 65) hx hb dX4_firstPart_38 (by decide) (fun hc7 => ?_) (fun hc7 => ?_)
          · have hp := hp.1 hc7
            obtain ⟨x8, ex8⟩ : ∃ y : Int32, y = x4_ + 1 := ⟨_, rfl⟩
            have hp := hp x8 ex8
            refine lv_iinc (v := x8) (lv' := [(4, .int x8), (0, .ref o), (1, .int x1_), (2, .int x2_), (3, .int x3_)]) hx hb dX4_firstPart_65 hl (k := 0) rfl (by rw [ex8]; rfl) (by decide) rfl (fun ls hl => ?_)
            refine lv_goto (tgt := 3) hx hb dX4_firstPart_68 (by decide) ?_
            exact ih x8 x1_ x2_ x3_ w _ _ _ hp h (lv_sub hl [0, 1, 2, 3, 4] rfl)
          · have hp := hp.2 hc7
            refine lv_iload_n hx hb dX4_firstPart_41 rfl (lv_at hl 4 rfl) ?_
            refine lv_aload_n hx hb dX4_firstPart_42 rfl (lv_at hl 1 rfl) ?_
            obtain ⟨b9, eb9, hob9, hp⟩ := hp
            refine hp_get (ci := 4) (v := .ref b9) hx hb hts ix_X4_firstPart_4 hown hK h ho (by decide) rfl 2 (by decide) (hts _ lk_X4_firstPart_18) (fun _ h9 => h9) (by show some (va_rf (zR z 402 o)) = some (Value.ref b9); rw [eb9]; rfl) dX4_firstPart_43 ?_
            refine lv_iload hx hb dX4_firstPart_46 (lv_at hl 0 rfl) ?_
            refine hp_iald (t := 1402) (n := 15) hx hb hK h hob9 (by decide) (fun _ _ _ => rfl) hp.1 dX4_firstPart_48 ?_
            have hp := hp.2
            refine lv_aload_n hx hb dX4_firstPart_49 rfl (lv_at hl 1 rfl) ?_
            obtain ⟨b10, eb10, hob10, hp⟩ := hp
            refine hp_get (ci := 4) (v := .ref b10) hx hb hts ix_X4_firstPart_4 hown hK h ho (by decide) rfl 3 (by decide) (hts _ lk_X4_firstPart_21) (fun _ h9 => h9) (by show some (va_rf (zR z 403 o)) = some (Value.ref b10); rw [eb10]; rfl) dX4_firstPart_50 ?_
            refine lv_iload hx hb dX4_firstPart_53 (lv_at hl 0 rfl) ?_
            refine hp_iald (t := 1403) (n := 15) hx hb hK h hob10 (by decide) (fun _ _ _ => rfl) hp.1 dX4_firstPart_55 ?_
            have hp := hp.2
            refine hp_cSNi ⟨hx, hb, hml, hown, hts⟩ (k_X9_isWithin l G z w _ x3_ (vA w 1402 b9 (x4_ : Int32).toNatClampNeg) (vA w 1403 b10 (x4_ : Int32).toNatClampNeg) _ hp) ⟨va_cnB 3 hts gX4_firstPart_X9_isWithin_n34 rfl rfl rfl (ln_X4_firstPart_34 hE) (hts _ wd_X4_firstPart_iX9) (by decide +kernel) ⟨Nat.le_of_ble_eq_true rfl, Nat.le_of_ble_eq_true rfl⟩, (hts _ wd_X4_firstPart_tX9_isWithin), trivial⟩ hK h hA hE rfl hl.1 rfl (Nat.le_of_ble_eq_true rfl) dX4_firstPart_56 ⟨Nat.le_of_ble_eq_true rfl, Nat.le_of_ble_eq_true rfl⟩ (fun r12 w11 H locs hp h => ?_)
            refine lv_if_eq (tgt := 65) hx hb dX4_firstPart_59 (by decide) (fun hc13 => ?_) (fun hc13 => ?_)
            · have hp := hp.1 hc13
              obtain ⟨x14, ex14⟩ : ∃ y : Int32, y = x4_ + 1 := ⟨_, rfl⟩
              have hp := hp x14 ex14
              refine lv_iinc (v := x14) (lv' := [(4, .int x14), (0, .ref o), (1, .int x1_), (2, .int x2_), (3, .int x3_)]) hx hb dX4_firstPart_65 hl (k := 0) rfl (by rw [ex14]; rfl) (by decide) rfl (fun ls hl => ?_)
              refine lv_goto (tgt := 3) hx hb dX4_firstPart_68 (by decide) ?_
              exact ih x14 x1_ x2_ x3_ w11 _ _ _ hp h (lv_sub hl [0, 1, 2, 3, 4] rfl)
            · have hp := hp.2 hc13
              refine lv_iload hx hb dX4_firstPart_62 (lv_at hl 0 rfl) ?_
              exact hp_iret hx hb hr rfl hlocks hK h hp dX4_firstPart_64
def wp_X4_firstPart (z : Zt) (o : Nat) (p0 : Int32) (p1 : Int32) (p2 : Int32) (w : Vt) (K : Int32 → Vt → Prop) : Prop := isO z 4 o ∧ ∃ n15 : Nat, wL_X4_firstPart_3 z o K (fun x16 x17 x18 x19 w20 => K (-1) w20) n15 0 p0 p1 p2 w
set_option maxHeartbeats 4000000 in
set_option maxRecDepth 100000 in
theorem k_X4_firstPart (l : Launch) (G : Gt) (z : Zt) (w : Vt) (sz : Nat) (o : Nat) (p0 : Int32) (p1 : Int32) (p2 : Int32) (K : Int32 → Vt → Prop) (hp : wp_X4_firstPart z o p0 p1 p2 w K) : MI l yX4_firstPart wsX4_firstPart rmX4_firstPart G z w sz [.ref o, .int p0, .int p1, .int p2] K := by
  refine Met.ofW (cc := cX4_firstPart) (maxL := 5) (ret := (some .int)) (by decide +kernel) rfl ?_
  intro p e s m args below meth c s₁ B hml hv
  obtain ⟨rfl, rfl, C, h⟩ := hp_start B hml hv
  generalize gA G z w s.heap.size = A at C h ⊢
  obtain ⟨hx, hb, hr, hlocks, hml, hown, hts, hK, hA, hE⟩ := id C
  obtain ⟨ho, hp⟩ := hp
  have hl := lv_entry ([.ref o, .int p0, .int p1, .int p2]) (n := 5) (Nat.le_of_ble_eq_true rfl)
  rw [lg_entry_eq]
  generalize (lg_sl ([.ref o, .int p0, .int p1, .int p2]) ++ List.replicate (5 - (lg_sl ([.ref o, .int p0, .int p1, .int p2])).length) Slot.unset).toArray = ls at hl ⊢
  have hl : lv_has ls 5 [(0, .ref o), (1, .int p0), (2, .int p1), (3, .int p2)] := hl
  refine lv_iconst (v := 0) hx hb dX4_firstPart_0 (by decide) ?_
  refine lv_istore (lv' := [(4, .int 0), (0, .ref o), (1, .int p0), (2, .int p1), (3, .int p2)]) hx hb dX4_firstPart_1 hl (by decide) rfl (fun ls hl => ?_)
  obtain ⟨n15, hp⟩ := hp
  refine kL_X4_firstPart_3 C o ho _ _ (fun x16 x17 x18 x19 w20 H locs ls hp h hl => ?_) n15 0 p0 p1 p2 w _ _ _ hp h (lv_sub hl [0, 1, 2, 3, 4] rfl)
  refine lv_iconst (v := (-1)) hx hb dX4_firstPart_71 (by decide) ?_
  exact hp_iret hx hb hr rfl hlocks hK h hp dX4_firstPart_72
abbrev rmX4_shareOf : Room := { frames := 0, cells := 0, slots := 0, locals := 0 }
theorem ix_X4_shareOf_4 : ∀ w ∈ wsX40, w ∈ wsX4_shareOf := by decide +kernel
theorem lk_X4_shareOf_24 : Cond.fieldLink RX4 24 "KelpShores$Rights" "share" "[I" ∈ wsX4_shareOf := by decide +kernel
def wp_X4_shareOf (z : Zt) (o : Nat) (p0 : Int32) (w : Vt) (K : Int32 → Vt → Prop) : Prop := isO z 4 o ∧ (p0 < 0 → K 0 w) ∧ (¬ p0 < 0 → ∃ b2 : Nat, zR z 404 o = some b2 ∧ isO z 1404 b2 ∧ (p0 < 15 → vp_in p0 15 ∧ K (vA w 1404 b2 (p0 : Int32).toNatClampNeg) w) ∧ (¬ p0 < 15 → K 0 w))
set_option maxHeartbeats 4000000 in
set_option maxRecDepth 100000 in
theorem k_X4_shareOf (l : Launch) (G : Gt) (z : Zt) (w : Vt) (sz : Nat) (o : Nat) (p0 : Int32) (K : Int32 → Vt → Prop) (hp : wp_X4_shareOf z o p0 w K) : MI l yX4_shareOf wsX4_shareOf rmX4_shareOf G z w sz [.ref o, .int p0] K := by
  refine Met.ofW (cc := cX4_shareOf) (maxL := 2) (ret := (some .int)) (by decide +kernel) rfl ?_
  intro p e s m args below meth c s₁ B hml hv
  obtain ⟨rfl, rfl, C, h⟩ := hp_start B hml hv
  generalize gA G z w s.heap.size = A at C h ⊢
  obtain ⟨hx, hb, hr, hlocks, hml, hown, hts, hK, hA, hE⟩ := id C
  obtain ⟨ho, hp⟩ := hp
  have hl := lv_entry ([.ref o, .int p0]) (n := 2) (Nat.le_of_ble_eq_true rfl)
  rw [lg_entry_eq]
  generalize (lg_sl ([.ref o, .int p0]) ++ List.replicate (2 - (lg_sl ([.ref o, .int p0])).length) Slot.unset).toArray = ls at hl ⊢
  have hl : lv_has ls 2 [(0, .ref o), (1, .int p0)] := hl
  refine lv_iload_n hx hb dX4_shareOf_0 rfl (lv_at hl 1 rfl) ?_
  refine lv_if_lt (tgt := 13) hx hb dX4_shareOf_1 (by decide) (fun hc1 => ?_) (fun hc1 => ?_)
  · have hp := hp.1 hc1
    refine lv_iconst (v := 0) hx hb dX4_shareOf_13 (by decide) ?_
    refine lv_goto (tgt := 23) hx hb dX4_shareOf_14 (by decide) ?_
    exact hp_iret hx hb hr rfl hlocks hK h hp dX4_shareOf_23
  · have hp := hp.2 hc1
    refine lv_iload_n hx hb dX4_shareOf_4 rfl (lv_at hl 1 rfl) ?_
    refine lv_aload_n hx hb dX4_shareOf_5 rfl (lv_at hl 0 rfl) ?_
    obtain ⟨b2, eb2, hob2, hp⟩ := hp
    refine hp_get (ci := 4) (v := .ref b2) hx hb hts ix_X4_shareOf_4 hown hK h ho (by decide) rfl 4 (by decide) (hts _ lk_X4_shareOf_24) (fun _ h9 => h9) (by show some (va_rf (zR z 404 o)) = some (Value.ref b2); rw [eb2]; rfl) dX4_shareOf_6 ?_
    refine hp_alen (t := 1404) (n := 15) hx hb hK h 1 rfl hob2 (by decide) (fun _ _ _ => ⟨_, rfl, rfl⟩) (v := 15) (by decide) dX4_shareOf_9 ?_
    refine lv_icmp_lt (tgt := 17) hx hb dX4_shareOf_10 (by decide) (fun hc3 => ?_) (fun hc3 => ?_)
    · have hp := hp.1 hc3
      refine lv_aload_n hx hb dX4_shareOf_17 rfl (lv_at hl 0 rfl) ?_
      refine hp_get (ci := 4) (v := .ref b2) hx hb hts ix_X4_shareOf_4 hown hK h ho (by decide) rfl 4 (by decide) (hts _ lk_X4_shareOf_24) (fun _ h9 => h9) (by show some (va_rf (zR z 404 o)) = some (Value.ref b2); rw [eb2]; rfl) dX4_shareOf_18 ?_
      refine lv_iload_n hx hb dX4_shareOf_21 rfl (lv_at hl 1 rfl) ?_
      refine hp_iald (t := 1404) (n := 15) hx hb hK h hob2 (by decide) (fun _ _ _ => rfl) hp.1 dX4_shareOf_22 ?_
      have hp := hp.2
      exact hp_iret hx hb hr rfl hlocks hK h hp dX4_shareOf_23
    · have hp := hp.2 hc3
      refine lv_iconst (v := 0) hx hb dX4_shareOf_13 (by decide) ?_
      refine lv_goto (tgt := 23) hx hb dX4_shareOf_14 (by decide) ?_
      exact hp_iret hx hb hr rfl hlocks hK h hp dX4_shareOf_23
abbrev rmX5_growAgain : Room := { frames := 0, cells := 0, slots := 0, locals := 0 }
theorem ix_X5_growAgain_5 : ∀ w ∈ wsX50, w ∈ wsX5_growAgain := by decide +kernel
theorem lk_X5_growAgain_24 : Cond.fieldLink RX5 24 "KelpShores$Rock" "room" "I" ∈ wsX5_growAgain := by decide +kernel
theorem lk_X5_growAgain_27 : Cond.fieldLink RX5 27 "KelpShores$Rock" "weed" "I" ∈ wsX5_growAgain := by decide +kernel
theorem lk_X5_growAgain_30 : Cond.fieldLink RX5 30 "KelpShores$Rock" "grown" "I" ∈ wsX5_growAgain := by decide +kernel
def wp_X5_growAgain (z : Zt) (o : Nat) (w : Vt) (K : Vt → Prop) : Prop := isO z 5 o ∧ ∀ x1 : Int32, x1 = (((vI w 501 o) - (vI w 502 o)) + 3) / 4 → ∀ w2 : Vt, w2 = uI w 502 o ((vI w 502 o) + x1) → ∀ w3 : Vt, w3 = uI w2 503 o ((vI w2 503 o) + x1) → K w3
set_option maxHeartbeats 4000000 in
set_option maxRecDepth 100000 in
theorem k_X5_growAgain (l : Launch) (G : Gt) (z : Zt) (w : Vt) (sz : Nat) (o : Nat) (K : Vt → Prop) (hp : wp_X5_growAgain z o w K) : MV l yX5_growAgain wsX5_growAgain rmX5_growAgain G z w sz [.ref o] K := by
  refine Met.ofW (cc := cX5_growAgain) (maxL := 2) (ret := none) (by decide +kernel) rfl ?_
  intro p e s m args below meth c s₁ B hml hv
  obtain ⟨rfl, rfl, C, h⟩ := hp_start B hml hv
  generalize gA G z w s.heap.size = A at C h ⊢
  obtain ⟨hx, hb, hr, hlocks, hml, hown, hts, hK, hA, hE⟩ := id C
  obtain ⟨ho, hp⟩ := hp
  have hl := lv_entry ([.ref o]) (n := 2) (Nat.le_of_ble_eq_true rfl)
  rw [lg_entry_eq]
  generalize (lg_sl ([.ref o]) ++ List.replicate (2 - (lg_sl ([.ref o])).length) Slot.unset).toArray = ls at hl ⊢
  have hl : lv_has ls 2 [(0, .ref o)] := hl
  refine lv_aload_n hx hb dX5_growAgain_0 rfl (lv_at hl 0 rfl) ?_
  refine hp_get (ci := 5) (v := .int (vI w 501 o)) hx hb hts ix_X5_growAgain_5 hown hK h ho (by decide) rfl 1 (by decide) (hts _ lk_X5_growAgain_24) (fun _ h9 => h9) rfl dX5_growAgain_1 ?_
  refine lv_aload_n hx hb dX5_growAgain_4 rfl (lv_at hl 0 rfl) ?_
  refine hp_get (ci := 5) (v := .int (vI w 502 o)) hx hb hts ix_X5_growAgain_5 hown hK h ho (by decide) rfl 2 (by decide) (hts _ lk_X5_growAgain_27) (fun _ h9 => h9) rfl dX5_growAgain_5 ?_
  refine lv_isub hx hb dX5_growAgain_8 ?_
  refine lv_iconst (v := 3) hx hb dX5_growAgain_9 (by decide) ?_
  refine lv_iadd hx hb dX5_growAgain_10 ?_
  refine lv_iconst (v := 4) hx hb dX5_growAgain_11 (by decide) ?_
  refine lv_idiv hx hb dX5_growAgain_12 (by decide) ?_
  refine lv_topi (fun x1 ex1 => ?_)
  have hp := hp x1 ex1
  refine lv_istore_n (lv' := [(1, .int x1), (0, .ref o)]) hx hb dX5_growAgain_13 rfl hl (by decide) rfl (fun ls hl => ?_)
  refine lv_aload_n hx hb dX5_growAgain_14 rfl (lv_at hl 1 rfl) ?_
  refine lv_dup hx hb dX5_growAgain_15 rfl ?_
  refine hp_get (ci := 5) (v := .int (vI w 502 o)) hx hb hts ix_X5_growAgain_5 hown hK h ho (by decide) rfl 2 (by decide) (hts _ lk_X5_growAgain_27) (fun _ h9 => h9) rfl dX5_growAgain_16 ?_
  refine lv_iload_n hx hb dX5_growAgain_19 rfl (lv_at hl 0 rfl) ?_
  refine lv_iadd hx hb dX5_growAgain_20 ?_
  refine hp_puti (ci := 5) (ty := .int) (x := (vI w 502 o) + x1) hx hb hts ix_X5_growAgain_5 tyX5 tyX5_ok nmX5 hown hK h ho (by decide) rfl 2 502 (by decide) (hts _ lk_X5_growAgain_27) (fun _ h9 => h9) rfl (by decide +kernel) rfl rfl (fun _ _ => rfl) (fun _ _ => Nat.le_of_ble_eq_true rfl) dX5_growAgain_21 (fun H locs w2 ew2 h => ?_)
  have hp := hp w2 ew2
  refine lv_aload_n hx hb dX5_growAgain_24 rfl (lv_at hl 1 rfl) ?_
  refine lv_dup hx hb dX5_growAgain_25 rfl ?_
  refine hp_get (ci := 5) (v := .int (vI w2 503 o)) hx hb hts ix_X5_growAgain_5 hown hK h ho (by decide) rfl 3 (by decide) (hts _ lk_X5_growAgain_30) (fun _ h9 => h9) rfl dX5_growAgain_26 ?_
  refine lv_iload_n hx hb dX5_growAgain_29 rfl (lv_at hl 0 rfl) ?_
  refine lv_iadd hx hb dX5_growAgain_30 ?_
  refine hp_puti (ci := 5) (ty := .int) (x := (vI w2 503 o) + x1) hx hb hts ix_X5_growAgain_5 tyX5 tyX5_ok nmX5 hown hK h ho (by decide) rfl 3 503 (by decide) (hts _ lk_X5_growAgain_30) (fun _ h9 => h9) rfl (by decide +kernel) rfl rfl (fun _ _ => rfl) (fun _ _ => Nat.le_of_ble_eq_true rfl) dX5_growAgain_31 (fun H locs w3 ew3 h => ?_)
  have hp := hp w3 ew3
  exact hp_vret hx hb hr hlocks hK h hp dX5_growAgain_34
abbrev rmX5_loseToStorm : Room := { frames := 0, cells := 0, slots := 0, locals := 0 }
theorem ix_X5_loseToStorm_5 : ∀ w ∈ wsX50, w ∈ wsX5_loseToStorm := by decide +kernel
theorem lk_X5_loseToStorm_21 : Cond.fieldLink RX5 21 "KelpShores$Rock" "depth" "I" ∈ wsX5_loseToStorm := by decide +kernel
theorem lk_X5_loseToStorm_27 : Cond.fieldLink RX5 27 "KelpShores$Rock" "weed" "I" ∈ wsX5_loseToStorm := by decide +kernel
theorem lk_X5_loseToStorm_33 : Cond.fieldLink RX5 33 "KelpShores$Rock" "takenByStorms" "I" ∈ wsX5_loseToStorm := by decide +kernel
def wp_X5_loseToStorm (z : Zt) (o : Nat) (p0 : Int32) (w : Vt) (K : Int32 → Vt → Prop) : Prop := isO z 5 o ∧ ∃ J1 : Int32 → Vt → Prop, (∀ (x2 : Int32) (w3 : Vt), J1 x2 w3 → ∀ w5 : Vt, w5 = uI w3 502 o ((vI w3 502 o) - x2) → ∀ w6 : Vt, w6 = uI w5 505 o ((vI w5 505 o) + x2) → K x2 w6) ∧ ((vI w 500 o) ≤ p0 → J1 (((vI w 502 o) * p0) / 100) w) ∧ (¬ (vI w 500 o) ≤ p0 → J1 0 w)
set_option maxHeartbeats 4000000 in
set_option maxRecDepth 100000 in
theorem k_X5_loseToStorm (l : Launch) (G : Gt) (z : Zt) (w : Vt) (sz : Nat) (o : Nat) (p0 : Int32) (K : Int32 → Vt → Prop) (hp : wp_X5_loseToStorm z o p0 w K) : MI l yX5_loseToStorm wsX5_loseToStorm rmX5_loseToStorm G z w sz [.ref o, .int p0] K := by
  refine Met.ofW (cc := cX5_loseToStorm) (maxL := 3) (ret := (some .int)) (by decide +kernel) rfl ?_
  intro p e s m args below meth c s₁ B hml hv
  obtain ⟨rfl, rfl, C, h⟩ := hp_start B hml hv
  generalize gA G z w s.heap.size = A at C h ⊢
  obtain ⟨hx, hb, hr, hlocks, hml, hown, hts, hK, hA, hE⟩ := id C
  obtain ⟨ho, hp⟩ := hp
  have hl := lv_entry ([.ref o, .int p0]) (n := 3) (Nat.le_of_ble_eq_true rfl)
  rw [lg_entry_eq]
  generalize (lg_sl ([.ref o, .int p0]) ++ List.replicate (3 - (lg_sl ([.ref o, .int p0])).length) Slot.unset).toArray = ls at hl ⊢
  have hl : lv_has ls 3 [(0, .ref o), (1, .int p0)] := hl
  refine lv_aload_n hx hb dX5_loseToStorm_0 rfl (lv_at hl 0 rfl) ?_
  refine hp_get (ci := 5) (v := .int (vI w 500 o)) hx hb hts ix_X5_loseToStorm_5 hown hK h ho (by decide) rfl 0 (by decide) (hts _ lk_X5_loseToStorm_21) (fun _ h9 => h9) rfl dX5_loseToStorm_1 ?_
  refine lv_iload_n hx hb dX5_loseToStorm_4 rfl (lv_at hl 1 rfl) ?_
  obtain ⟨J1, jJ1, hp⟩ := hp
  refine hp_jn1 (G := G) (A := A) (z := z) (J := J1) (nL := 3) (j := 21) (lvf := fun x2 => [(0, .ref o), (1, .int p0)]) (stf := fun x2 => [.int x2]) (fun kJ1 => ?_) (fun x2 w3 H locs ls hp h hl => ?_)
  · refine lv_icmp_le (tgt := 12) hx hb dX5_loseToStorm_5 (by decide) (fun hc4 => ?_) (fun hc4 => ?_)
    · have hp := hp.1 hc4
      refine lv_aload_n hx hb dX5_loseToStorm_12 rfl (lv_at hl 0 rfl) ?_
      refine hp_get (ci := 5) (v := .int (vI w 502 o)) hx hb hts ix_X5_loseToStorm_5 hown hK h ho (by decide) rfl 2 (by decide) (hts _ lk_X5_loseToStorm_27) (fun _ h9 => h9) rfl dX5_loseToStorm_13 ?_
      refine lv_iload_n hx hb dX5_loseToStorm_16 rfl (lv_at hl 1 rfl) ?_
      refine lv_imul hx hb dX5_loseToStorm_17 ?_
      refine lv_bipush (v := 100) hx hb dX5_loseToStorm_18 (by decide) ?_
      refine lv_idiv hx hb dX5_loseToStorm_20 (by decide) ?_
      exact kJ1 (((vI w 502 o) * p0) / 100) w _ _ _ hp h (lv_sub hl [0, 1] rfl)
    · have hp := hp.2 hc4
      refine lv_iconst (v := 0) hx hb dX5_loseToStorm_8 (by decide) ?_
      refine lv_goto (tgt := 21) hx hb dX5_loseToStorm_9 (by decide) ?_
      exact kJ1 0 w _ _ _ hp h (lv_sub hl [0, 1] rfl)
  have hp := jJ1 x2 w3 hp
  refine lv_istore_n (lv' := [(2, .int x2), (0, .ref o), (1, .int p0)]) hx hb dX5_loseToStorm_21 rfl hl (by decide) rfl (fun ls hl => ?_)
  refine lv_aload_n hx hb dX5_loseToStorm_22 rfl (lv_at hl 1 rfl) ?_
  refine lv_dup hx hb dX5_loseToStorm_23 rfl ?_
  refine hp_get (ci := 5) (v := .int (vI w3 502 o)) hx hb hts ix_X5_loseToStorm_5 hown hK h ho (by decide) rfl 2 (by decide) (hts _ lk_X5_loseToStorm_27) (fun _ h9 => h9) rfl dX5_loseToStorm_24 ?_
  refine lv_iload_n hx hb dX5_loseToStorm_27 rfl (lv_at hl 0 rfl) ?_
  refine lv_isub hx hb dX5_loseToStorm_28 ?_
  refine hp_puti (ci := 5) (ty := .int) (x := (vI w3 502 o) - x2) hx hb hts ix_X5_loseToStorm_5 tyX5 tyX5_ok nmX5 hown hK h ho (by decide) rfl 2 502 (by decide) (hts _ lk_X5_loseToStorm_27) (fun _ h9 => h9) rfl (by decide +kernel) rfl rfl (fun _ _ => rfl) (fun _ _ => Nat.le_of_ble_eq_true rfl) dX5_loseToStorm_29 (fun H locs w5 ew5 h => ?_)
  have hp := hp w5 ew5
  refine lv_aload_n hx hb dX5_loseToStorm_32 rfl (lv_at hl 1 rfl) ?_
  refine lv_dup hx hb dX5_loseToStorm_33 rfl ?_
  refine hp_get (ci := 5) (v := .int (vI w5 505 o)) hx hb hts ix_X5_loseToStorm_5 hown hK h ho (by decide) rfl 5 (by decide) (hts _ lk_X5_loseToStorm_33) (fun _ h9 => h9) rfl dX5_loseToStorm_34 ?_
  refine lv_iload_n hx hb dX5_loseToStorm_37 rfl (lv_at hl 0 rfl) ?_
  refine lv_iadd hx hb dX5_loseToStorm_38 ?_
  refine hp_puti (ci := 5) (ty := .int) (x := (vI w5 505 o) + x2) hx hb hts ix_X5_loseToStorm_5 tyX5 tyX5_ok nmX5 hown hK h ho (by decide) rfl 5 505 (by decide) (hts _ lk_X5_loseToStorm_33) (fun _ h9 => h9) rfl (by decide +kernel) rfl rfl (fun _ _ => rfl) (fun _ _ => Nat.le_of_ble_eq_true rfl) dX5_loseToStorm_39 (fun H locs w6 ew6 h => ?_)
  have hp := hp w6 ew6
  refine lv_iload_n hx hb dX5_loseToStorm_42 rfl (lv_at hl 0 rfl) ?_
  exact hp_iret hx hb hr rfl hlocks hK h hp dX5_loseToStorm_43
abbrev rmX5_mustRest : Room := { frames := 0, cells := 0, slots := 0, locals := 0 }
theorem ix_X5_mustRest_5 : ∀ w ∈ wsX50, w ∈ wsX5_mustRest := by decide +kernel
theorem lk_X5_mustRest_15 : Cond.fieldLink RX5 15 "KelpShores$Rock" "cutDay" "I" ∈ wsX5_mustRest := by decide +kernel
theorem lk_X5_mustRest_18 : Cond.fieldLink RX5 18 "KelpShores$Rock" "cutBy" "I" ∈ wsX5_mustRest := by decide +kernel
theorem lk_X5_mustRest_9 : Cond.fieldLink RX5 9 "KelpShores$Rock" "cutYear" "I" ∈ wsX5_mustRest := by decide +kernel
def wp_X5_mustRest (z : Zt) (o : Nat) (p0 : Int32) (p1 : Int32) (p2 : Int32) (w : Vt) (K : Int32 → Vt → Prop) : Prop := isO z 5 o ∧ ∃ J1 : Int32 → Vt → Prop, (∀ (x2 : Int32) (w3 : Vt), J1 x2 w3 → ((vI w3 506 o) = (-1) → K 0 w3) ∧ (¬ (vI w3 506 o) = (-1) → (¬ x2 = 0 → K 0 w3) ∧ (x2 = 0 → (p2 < ((p1 / 100) - (vI w3 506 o)) → K 0 w3) ∧ (¬ p2 < ((p1 / 100) - (vI w3 506 o)) → K 1 w3)))) ∧ (¬ (vI w 507 o) = p1 → J1 0 w) ∧ ((vI w 507 o) = p1 → (¬ (vI w 508 o) = p0 → J1 0 w) ∧ ((vI w 508 o) = p0 → J1 1 w))
set_option maxHeartbeats 4000000 in
set_option maxRecDepth 100000 in
theorem k_X5_mustRest (l : Launch) (G : Gt) (z : Zt) (w : Vt) (sz : Nat) (o : Nat) (p0 : Int32) (p1 : Int32) (p2 : Int32) (K : Int32 → Vt → Prop) (hp : wp_X5_mustRest z o p0 p1 p2 w K) : MI l yX5_mustRest wsX5_mustRest rmX5_mustRest G z w sz [.ref o, .int p0, .int p1, .int p2] K := by
  refine Met.ofW (cc := cX5_mustRest) (maxL := 5) (ret := (some .boolean)) (by decide +kernel) rfl ?_
  intro p e s m args below meth c s₁ B hml hv
  obtain ⟨rfl, rfl, C, h⟩ := hp_start B hml hv
  generalize gA G z w s.heap.size = A at C h ⊢
  obtain ⟨hx, hb, hr, hlocks, hml, hown, hts, hK, hA, hE⟩ := id C
  obtain ⟨ho, hp⟩ := hp
  have hl := lv_entry ([.ref o, .int p0, .int p1, .int p2]) (n := 5) (Nat.le_of_ble_eq_true rfl)
  rw [lg_entry_eq]
  generalize (lg_sl ([.ref o, .int p0, .int p1, .int p2]) ++ List.replicate (5 - (lg_sl ([.ref o, .int p0, .int p1, .int p2])).length) Slot.unset).toArray = ls at hl ⊢
  have hl : lv_has ls 5 [(0, .ref o), (1, .int p0), (2, .int p1), (3, .int p2)] := hl
  refine lv_aload_n hx hb dX5_mustRest_0 rfl (lv_at hl 0 rfl) ?_
  refine hp_get (ci := 5) (v := .int (vI w 507 o)) hx hb hts ix_X5_mustRest_5 hown hK h ho (by decide) rfl 7 (by decide) (hts _ lk_X5_mustRest_15) (fun _ h9 => h9) rfl dX5_mustRest_1 ?_
  refine lv_iload_n hx hb dX5_mustRest_4 rfl (lv_at hl 2 rfl) ?_
  obtain ⟨J1, jJ1, hp⟩ := hp
  refine hp_jn1 (G := G) (A := A) (z := z) (J := J1) (nL := 5) (j := 21) (lvf := fun x2 => [(0, .ref o), (1, .int p0), (2, .int p1), (3, .int p2)]) (stf := fun x2 => [.int x2]) (fun kJ1 => ?_) (fun x2 w3 H locs ls hp h hl => ?_)
  · refine lv_icmp_ne (tgt := 20) hx hb dX5_mustRest_5 (by decide) (fun hc4 => ?_) (fun hc4 => ?_)
    · have hp := hp.1 hc4
      refine lv_iconst (v := 0) hx hb dX5_mustRest_20 (by decide) ?_
      exact kJ1 0 w _ _ _ hp h (lv_sub hl [0, 1, 2, 3] rfl)
    · have hp := hp.2 hc4
      refine lv_aload_n hx hb dX5_mustRest_8 rfl (lv_at hl 0 rfl) ?_
      refine hp_get (ci := 5) (v := .int (vI w 508 o)) hx hb hts ix_X5_mustRest_5 hown hK h ho (by decide) rfl 8 (by decide) (hts _ lk_X5_mustRest_18) (fun _ h9 => h9) rfl dX5_mustRest_9 ?_
      refine lv_iload_n hx hb dX5_mustRest_12 rfl (lv_at hl 1 rfl) ?_
      refine lv_icmp_ne (tgt := 20) hx hb dX5_mustRest_13 (by decide) (fun hc5 => ?_) (fun hc5 => ?_)
      · have hp := hp.1 hc5
        refine lv_iconst (v := 0) hx hb dX5_mustRest_20 (by decide) ?_
        exact kJ1 0 w _ _ _ hp h (lv_sub hl [0, 1, 2, 3] rfl)
      · have hp := hp.2 hc5
        refine lv_iconst (v := 1) hx hb dX5_mustRest_16 (by decide) ?_
        refine lv_goto (tgt := 21) hx hb dX5_mustRest_17 (by decide) ?_
        exact kJ1 1 w _ _ _ hp h (lv_sub hl [0, 1, 2, 3] rfl)
  have hp := jJ1 x2 w3 hp
  refine lv_istore (lv' := [(4, .int x2), (0, .ref o), (1, .int p0), (2, .int p1), (3, .int p2)]) hx hb dX5_mustRest_21 hl (by decide) rfl (fun ls hl => ?_)
  refine lv_aload_n hx hb dX5_mustRest_23 rfl (lv_at hl 1 rfl) ?_
  refine hp_get (ci := 5) (v := .int (vI w3 506 o)) hx hb hts ix_X5_mustRest_5 hown hK h ho (by decide) rfl 6 (by decide) (hts _ lk_X5_mustRest_9) (fun _ h9 => h9) rfl dX5_mustRest_24 ?_
  refine lv_iconst (v := (-1)) hx hb dX5_mustRest_27 (by decide) ?_
  refine lv_icmp_eq (tgt := 53) hx hb dX5_mustRest_28 (by decide) (fun hc6 => ?_) (fun hc6 => ?_)
  · have hp := hp.1 hc6
    refine lv_iconst (v := 0) hx hb dX5_mustRest_53 (by decide) ?_
    exact hp_iret hx hb hr rfl hlocks hK h hp dX5_mustRest_54
  · have hp := hp.2 hc6
    refine lv_iload hx hb dX5_mustRest_31 (lv_at hl 0 rfl) ?_
    refine lv_if_ne (tgt := 53) hx hb dX5_mustRest_33 (by decide) (fun hc7 => ?_) (fun hc7 => ?_)
    · have hp := hp.1 hc7
      refine lv_iconst (v := 0) hx hb dX5_mustRest_53 (by decide) ?_
      exact hp_iret hx hb hr rfl hlocks hK h hp dX5_mustRest_54
    · have hp := hp.2 hc7
      refine lv_iload_n hx hb dX5_mustRest_36 rfl (lv_at hl 3 rfl) ?_
      refine lv_bipush (v := 100) hx hb dX5_mustRest_37 (by decide) ?_
      refine lv_idiv hx hb dX5_mustRest_39 (by decide) ?_
      refine lv_aload_n hx hb dX5_mustRest_40 rfl (lv_at hl 1 rfl) ?_
      refine hp_get (ci := 5) (v := .int (vI w3 506 o)) hx hb hts ix_X5_mustRest_5 hown hK h ho (by decide) rfl 6 (by decide) (hts _ lk_X5_mustRest_9) (fun _ h9 => h9) rfl dX5_mustRest_41 ?_
      refine lv_isub hx hb dX5_mustRest_44 ?_
      refine lv_iload_n hx hb dX5_mustRest_45 rfl (lv_at hl 4 rfl) ?_
      refine lv_icmp_gt (tgt := 53) hx hb dX5_mustRest_46 (by decide) (fun hc8 => ?_) (fun hc8 => ?_)
      · have hp := hp.1 hc8
        refine lv_iconst (v := 0) hx hb dX5_mustRest_53 (by decide) ?_
        exact hp_iret hx hb hr rfl hlocks hK h hp dX5_mustRest_54
      · have hp := hp.2 hc8
        refine lv_iconst (v := 1) hx hb dX5_mustRest_49 (by decide) ?_
        refine lv_goto (tgt := 54) hx hb dX5_mustRest_50 (by decide) ?_
        exact hp_iret hx hb hr rfl hlocks hK h hp dX5_mustRest_54
abbrev rmX5_loseToCutting : Room := { frames := 0, cells := 0, slots := 0, locals := 0 }
theorem ix_X5_loseToCutting_5 : ∀ w ∈ wsX50, w ∈ wsX5_loseToCutting := by decide +kernel
theorem lk_X5_loseToCutting_27 : Cond.fieldLink RX5 27 "KelpShores$Rock" "weed" "I" ∈ wsX5_loseToCutting := by decide +kernel
theorem lk_X5_loseToCutting_36 : Cond.fieldLink RX5 36 "KelpShores$Rock" "cutInAll" "I" ∈ wsX5_loseToCutting := by decide +kernel
theorem lk_X5_loseToCutting_9 : Cond.fieldLink RX5 9 "KelpShores$Rock" "cutYear" "I" ∈ wsX5_loseToCutting := by decide +kernel
theorem lk_X5_loseToCutting_15 : Cond.fieldLink RX5 15 "KelpShores$Rock" "cutDay" "I" ∈ wsX5_loseToCutting := by decide +kernel
theorem lk_X5_loseToCutting_18 : Cond.fieldLink RX5 18 "KelpShores$Rock" "cutBy" "I" ∈ wsX5_loseToCutting := by decide +kernel
def wp_X5_loseToCutting (z : Zt) (o : Nat) (p0 : Int32) (p1 : Int32) (p2 : Int32) (w : Vt) (K : Vt → Prop) : Prop := isO z 5 o ∧ ∀ w1 : Vt, w1 = uI w 502 o ((vI w 502 o) - p0) → ∀ w2 : Vt, w2 = uI w1 504 o ((vI w1 504 o) + p0) → ∀ w3 : Vt, w3 = uI w2 506 o (p2 / 100) → ∀ w4 : Vt, w4 = uI w3 507 o p2 → ∀ w5 : Vt, w5 = uI w4 508 o p1 → K w5
set_option maxHeartbeats 4000000 in
set_option maxRecDepth 100000 in
theorem k_X5_loseToCutting (l : Launch) (G : Gt) (z : Zt) (w : Vt) (sz : Nat) (o : Nat) (p0 : Int32) (p1 : Int32) (p2 : Int32) (K : Vt → Prop) (hp : wp_X5_loseToCutting z o p0 p1 p2 w K) : MV l yX5_loseToCutting wsX5_loseToCutting rmX5_loseToCutting G z w sz [.ref o, .int p0, .int p1, .int p2] K := by
  refine Met.ofW (cc := cX5_loseToCutting) (maxL := 4) (ret := none) (by decide +kernel) rfl ?_
  intro p e s m args below meth c s₁ B hml hv
  obtain ⟨rfl, rfl, C, h⟩ := hp_start B hml hv
  generalize gA G z w s.heap.size = A at C h ⊢
  obtain ⟨hx, hb, hr, hlocks, hml, hown, hts, hK, hA, hE⟩ := id C
  obtain ⟨ho, hp⟩ := hp
  have hl := lv_entry ([.ref o, .int p0, .int p1, .int p2]) (n := 4) (Nat.le_of_ble_eq_true rfl)
  rw [lg_entry_eq]
  generalize (lg_sl ([.ref o, .int p0, .int p1, .int p2]) ++ List.replicate (4 - (lg_sl ([.ref o, .int p0, .int p1, .int p2])).length) Slot.unset).toArray = ls at hl ⊢
  have hl : lv_has ls 4 [(0, .ref o), (1, .int p0), (2, .int p1), (3, .int p2)] := hl
  refine lv_aload_n hx hb dX5_loseToCutting_0 rfl (lv_at hl 0 rfl) ?_
  refine lv_dup hx hb dX5_loseToCutting_1 rfl ?_
  refine hp_get (ci := 5) (v := .int (vI w 502 o)) hx hb hts ix_X5_loseToCutting_5 hown hK h ho (by decide) rfl 2 (by decide) (hts _ lk_X5_loseToCutting_27) (fun _ h9 => h9) rfl dX5_loseToCutting_2 ?_
  refine lv_iload_n hx hb dX5_loseToCutting_5 rfl (lv_at hl 1 rfl) ?_
  refine lv_isub hx hb dX5_loseToCutting_6 ?_
  refine hp_puti (ci := 5) (ty := .int) (x := (vI w 502 o) - p0) hx hb hts ix_X5_loseToCutting_5 tyX5 tyX5_ok nmX5 hown hK h ho (by decide) rfl 2 502 (by decide) (hts _ lk_X5_loseToCutting_27) (fun _ h9 => h9) rfl (by decide +kernel) rfl rfl (fun _ _ => rfl) (fun _ _ => Nat.le_of_ble_eq_true rfl) dX5_loseToCutting_7 (fun H locs w1 ew1 h => ?_)
  have hp := hp w1 ew1
  refine lv_aload_n hx hb dX5_loseToCutting_10 rfl (lv_at hl 0 rfl) ?_
  refine lv_dup hx hb dX5_loseToCutting_11 rfl ?_
  refine hp_get (ci := 5) (v := .int (vI w1 504 o)) hx hb hts ix_X5_loseToCutting_5 hown hK h ho (by decide) rfl 4 (by decide) (hts _ lk_X5_loseToCutting_36) (fun _ h9 => h9) rfl dX5_loseToCutting_12 ?_
  refine lv_iload_n hx hb dX5_loseToCutting_15 rfl (lv_at hl 1 rfl) ?_
  refine lv_iadd hx hb dX5_loseToCutting_16 ?_
  refine hp_puti (ci := 5) (ty := .int) (x := (vI w1 504 o) + p0) hx hb hts ix_X5_loseToCutting_5 tyX5 tyX5_ok nmX5 hown hK h ho (by decide) rfl 4 504 (by decide) (hts _ lk_X5_loseToCutting_36) (fun _ h9 => h9) rfl (by decide +kernel) rfl rfl (fun _ _ => rfl) (fun _ _ => Nat.le_of_ble_eq_true rfl) dX5_loseToCutting_17 (fun H locs w2 ew2 h => ?_)
  have hp := hp w2 ew2
  refine lv_aload_n hx hb dX5_loseToCutting_20 rfl (lv_at hl 0 rfl) ?_
  refine lv_iload_n hx hb dX5_loseToCutting_21 rfl (lv_at hl 3 rfl) ?_
  refine lv_bipush (v := 100) hx hb dX5_loseToCutting_22 (by decide) ?_
  refine lv_idiv hx hb dX5_loseToCutting_24 (by decide) ?_
  refine hp_puti (ci := 5) (ty := .int) (x := p2 / 100) hx hb hts ix_X5_loseToCutting_5 tyX5 tyX5_ok nmX5 hown hK h ho (by decide) rfl 6 506 (by decide) (hts _ lk_X5_loseToCutting_9) (fun _ h9 => h9) rfl (by decide +kernel) rfl rfl (fun _ _ => rfl) (fun _ _ => Nat.le_of_ble_eq_true rfl) dX5_loseToCutting_25 (fun H locs w3 ew3 h => ?_)
  have hp := hp w3 ew3
  refine lv_aload_n hx hb dX5_loseToCutting_28 rfl (lv_at hl 0 rfl) ?_
  refine lv_iload_n hx hb dX5_loseToCutting_29 rfl (lv_at hl 3 rfl) ?_
  refine hp_puti (ci := 5) (ty := .int) (x := p2) hx hb hts ix_X5_loseToCutting_5 tyX5 tyX5_ok nmX5 hown hK h ho (by decide) rfl 7 507 (by decide) (hts _ lk_X5_loseToCutting_15) (fun _ h9 => h9) rfl (by decide +kernel) rfl rfl (fun _ _ => rfl) (fun _ _ => Nat.le_of_ble_eq_true rfl) dX5_loseToCutting_30 (fun H locs w4 ew4 h => ?_)
  have hp := hp w4 ew4
  refine lv_aload_n hx hb dX5_loseToCutting_33 rfl (lv_at hl 0 rfl) ?_
  refine lv_iload_n hx hb dX5_loseToCutting_34 rfl (lv_at hl 2 rfl) ?_
  refine hp_puti (ci := 5) (ty := .int) (x := p1) hx hb hts ix_X5_loseToCutting_5 tyX5 tyX5_ok nmX5 hown hK h ho (by decide) rfl 8 508 (by decide) (hts _ lk_X5_loseToCutting_18) (fun _ h9 => h9) rfl (by decide +kernel) rfl rfl (fun _ _ => rfl) (fun _ _ => Nat.le_of_ble_eq_true rfl) dX5_loseToCutting_35 (fun H locs w5 ew5 h => ?_)
  have hp := hp w5 ew5
  exact hp_vret hx hb hr hlocks hK h hp dX5_loseToCutting_38
abbrev rmX6_passDay : Room := { frames := 1, cells := 0, slots := 0, locals := 22 }
theorem ix_X6_passDay_6 : ∀ w ∈ wsX60, w ∈ wsX6_passDay := by decide +kernel
theorem lk_X6_passDay_11 : Cond.fieldLink RX6 11 "KelpShores$Shore" "rocks" "[LKelpShores$Rock;" ∈ wsX6_passDay := by decide +kernel
theorem lk_X6_passDay_24 : Cond.fieldLink RX6 24 "KelpShores$Shore" "castWeed" "I" ∈ wsX6_passDay := by decide +kernel
def wL_X6_passDay_12 (z : Zt) (b1 : Nat) (o : Nat) (K : Vt → Prop) (Kx : Int32 → Int32 → Int32 → Int32 → Vt → Prop) : Nat → Int32 → Int32 → Int32 → Int32 → Vt → Prop
  | 0, _, _, _, _, _ => False
  | n + 1, x5_, x4_, x1_, x2_, w => (x4_ ≤ x5_ → Kx x5_ x4_ x1_ x2_ w) ∧ (¬ x4_ ≤ x5_ → vp_in x5_ 4 ∧ (zO z 1600 b1 (x5_ : Int32).toNatClampNeg = none → ∀ x4 : Int32, x4 = x5_ + 1 → wL_X6_passDay_12 z b1 o K Kx n x4 x4_ x1_ x2_ w) ∧ (∀ b3 : Nat, zO z 1600 b1 (x5_ : Int32).toNatClampNeg = some b3 → isO z 5 b3 ∧ ∃ J5 : Vt → Prop, (∀ (w6 : Vt), J5 w6 → wp_X5_loseToStorm z b3 x2_ w6 (fun r11 w10 => ∀ w12 : Vt, w12 = uI w10 602 o ((vI w6 602 o) + r11) → ∀ x13 : Int32, x13 = x5_ + 1 → wL_X6_passDay_12 z b1 o K Kx n x13 x4_ x1_ x2_ w12)) ∧ (x1_ = 0 → J5 w) ∧ (¬ x1_ = 0 → wp_X5_growAgain z b3 w (fun w8 => J5 w8))))
set_option maxHeartbeats 4000000 in
set_option maxRecDepth 100000 in
theorem kL_X6_passDay_12 {p : Program} {l : Launch} {e : Env} {s : State} {m : MethodId} {args : Array Value} {below : List Frame} {meth : Method} {c : Code} {G : Gt} {A : Nat → Prop} {z : Zt} (C : gC p s m args meth c cX6_passDay 7 RX6 wsX6_passDay none G A) (b1 : Nat) (o : Nat) (hob1 : isO z 1600 b1) (ho : isO z 6 o) (K : Vt → Prop) (Kx : Int32 → Int32 → Int32 → Int32 → Vt → Prop) (kKx : ∀ (x5_ x4_ x1_ x2_ : Int32) (w : Vt) (H : Heap) (locs : List Loc) (ls : Array Slot), Kx x5_ x4_ x1_ x2_ w → hpH G.1 G.2.1 A s.heap z w H locs → lv_has ls 7 [(5, .int x5_), (4, .int x4_), (3, .ref b1), (0, .ref o), (1, .int x1_), (2, .int x2_)] → W p l e (headSpec wsX6_passDay rmX6_passDay).room s m args below meth c H locs 0 0 (MQ below (va_Qv K (gB G A z) A) args s 0 0 A) (F0 m 63 ls [])) : ∀ (n : Nat) (x5_ x4_ x1_ x2_ : Int32) (w : Vt) (H : Heap) (locs : List Loc) (ls : Array Slot), wL_X6_passDay_12 z b1 o K Kx n x5_ x4_ x1_ x2_ w → hpH G.1 G.2.1 A s.heap z w H locs → lv_has ls 7 [(5, .int x5_), (4, .int x4_), (3, .ref b1), (0, .ref o), (1, .int x1_), (2, .int x2_)] → W p l e (headSpec wsX6_passDay rmX6_passDay).room s m args below meth c H locs 0 0 (MQ below (va_Qv K (gB G A z) A) args s 0 0 A) (F0 m 12 ls []) := by
  obtain ⟨hx, hb, hr, hlocks, hml, hown, hts, hK, hA, hE⟩ := id C
  intro n
  induction n with
  | zero =>
    intro x5_ x4_ x1_ x2_ w H locs ls hp
    exact hp.elim
  | succ n ih =>
    intro x5_ x4_ x1_ x2_ w H locs ls hp h hl
    refine lv_iload hx hb dX6_passDay_12 (lv_at hl 0 rfl) ?_
    refine lv_iload hx hb dX6_passDay_14 (lv_at hl 1 rfl) ?_
    refine lv_icmp_ge (tgt := 63) hx hb dX6_passDay_16 (by decide) (fun hc2 => ?_) (fun hc2 => ?_)
    · have hp := hp.1 hc2
      exact kKx x5_ x4_ x1_ x2_ w _ _ _ hp h (lv_sub hl [0, 1, 2, 3, 4, 5] rfl)
    · have hp := hp.2 hc2
      refine lv_aload_n hx hb dX6_passDay_19 rfl (lv_at hl 2 rfl) ?_
      refine lv_iload hx hb dX6_passDay_20 (lv_at hl 0 rfl) ?_
      refine hp_aald (t := 1600) (n := 4) hx hb hK h 6 rfl hob1 (by decide) (fun _ _ _ => rfl) hp.1 dX6_passDay_22 ?_
      have hp := hp.2
      cases eb3 : zO z 1600 b1 (x5_ : Int32).toNatClampNeg with
      | none =>
        have hp := hp.1 eb3
        refine lv_astoreN (lv' := [(6, .null), (5, .int x5_), (4, .int x4_), (3, .ref b1), (0, .ref o), (1, .int x1_), (2, .int x2_)]) hx hb dX6_passDay_23 hl (by decide) rfl (fun ls hl => ?_)
        refine lv_aloadN hx hb dX6_passDay_25 (lv_at hl 0 rfl) ?_
        refine lv_ifnonnullN hx hb dX6_passDay_27 ?_
        refine lv_goto (tgt := 57) hx hb dX6_passDay_30 (by decide) ?_
        obtain ⟨x4, ex4⟩ : ∃ y : Int32, y = x5_ + 1 := ⟨_, rfl⟩
        have hp := hp x4 ex4
        refine lv_iinc (v := x4) (lv' := [(5, .int x4), (6, .null), (4, .int x4_), (3, .ref b1), (0, .ref o), (1, .int x1_), (2, .int x2_)]) hx hb dX6_passDay_57 hl (k := 1) rfl (by rw [ex4]; rfl) (by decide) rfl (fun ls hl => ?_)
        refine lv_goto (tgt := 12) hx hb dX6_passDay_60 (by decide) ?_
        exact ih x4 x4_ x1_ x2_ w _ _ _ hp h (lv_sub hl [0, 2, 3, 4, 5, 6] rfl)
      | some b3 =>
        obtain ⟨hob3, hp⟩ := hp.2 b3 eb3
        refine lv_astore (lv' := [(6, .ref b3), (5, .int x5_), (4, .int x4_), (3, .ref b1), (0, .ref o), (1, .int x1_), (2, .int x2_)]) hx hb dX6_passDay_23 hl (by decide) rfl (fun ls hl => ?_)
        refine lv_aload hx hb dX6_passDay_25 (lv_at hl 0 rfl) ?_
        refine lv_ifnonnull (tgt := 33) hx hb dX6_passDay_27 (by decide) ?_
        refine lv_iload_n hx hb dX6_passDay_33 rfl (lv_at hl 5 rfl) ?_
        obtain ⟨J5, jJ5, hp⟩ := hp
        refine hp_jn0 (G := G) (A := A) (z := z) (J := J5) (nL := 7) (j := 42) (lvf := [(6, .ref b3), (5, .int x5_), (4, .int x4_), (3, .ref b1), (0, .ref o), (1, .int x1_), (2, .int x2_)]) (stf := []) (fun kJ5 => ?_) (fun  w6 H locs ls hp h hl => ?_)
        · refine lv_if_eq (tgt := 42) hx hb dX6_passDay_34 (by decide) (fun hc7 => ?_) (fun hc7 => ?_)
          · have hp := hp.1 hc7
            exact kJ5 w _ _ _ hp h (lv_sub hl [0, 1, 2, 3, 4, 5, 6] rfl)
          · have hp := hp.2 hc7
            refine lv_aload hx hb dX6_passDay_37 (lv_at hl 0 rfl) ?_
            refine hp_cVv ⟨hx, hb, hml, hown, hts⟩ (k_X5_growAgain l G z w _ b3 _ hp) (cwV 0 hts gX6_passDay_X5_growAgain rfl rfl rfl (by decide +kernel) ⟨Nat.le_of_ble_eq_true rfl, Nat.le_of_ble_eq_true rfl⟩) hob3 (by decide) rfl hK h hA hE rfl hl.1 rfl (Nat.le_of_ble_eq_true rfl) dX6_passDay_39 ⟨Nat.le_of_ble_eq_true rfl, Nat.le_of_ble_eq_true rfl⟩ (fun w8 H locs hp h => ?_)
            exact kJ5 w8 _ _ _ hp h (lv_sub hl [0, 1, 2, 3, 4, 5, 6] rfl)
        have hp := jJ5  w6 hp
        refine lv_aload_n hx hb dX6_passDay_42 rfl (lv_at hl 4 rfl) ?_
        refine lv_dup hx hb dX6_passDay_43 rfl ?_
        refine hp_get (ci := 6) (v := .int (vI w6 602 o)) hx hb hts ix_X6_passDay_6 hown hK h ho (by decide) rfl 2 (by decide) (hts _ lk_X6_passDay_24) (fun _ h9 => h9) rfl dX6_passDay_44 ?_
        refine lv_aload hx hb dX6_passDay_47 (lv_at hl 0 rfl) ?_
        refine lv_iload_n hx hb dX6_passDay_49 rfl (lv_at hl 6 rfl) ?_
        refine hp_cVi ⟨hx, hb, hml, hown, hts⟩ (k_X5_loseToStorm l G z w6 _ b3 x2_ _ hp) (cwV 1 hts gX6_passDay_X5_loseToStorm rfl rfl rfl (by decide +kernel) ⟨Nat.le_of_ble_eq_true rfl, Nat.le_of_ble_eq_true rfl⟩) hob3 (by decide) rfl hK h hA hE rfl hl.1 rfl (Nat.le_of_ble_eq_true rfl) dX6_passDay_50 ⟨Nat.le_of_ble_eq_true rfl, Nat.le_of_ble_eq_true rfl⟩ (fun r11 w10 H locs hp h => ?_)
        refine lv_iadd hx hb dX6_passDay_53 ?_
        refine hp_puti (ci := 6) (ty := .int) (x := (vI w6 602 o) + r11) hx hb hts ix_X6_passDay_6 tyX6 tyX6_ok nmX6 hown hK h ho (by decide) rfl 2 602 (by decide) (hts _ lk_X6_passDay_24) (fun _ h9 => h9) rfl (by decide +kernel) rfl rfl (fun _ _ => rfl) (fun _ _ => Nat.le_of_ble_eq_true rfl) dX6_passDay_54 (fun H locs w12 ew12 h => ?_)
        have hp := hp w12 ew12
        obtain ⟨x13, ex13⟩ : ∃ y : Int32, y = x5_ + 1 := ⟨_, rfl⟩
        have hp := hp x13 ex13
        refine lv_iinc (v := x13) (lv' := [(5, .int x13), (6, .ref b3), (4, .int x4_), (3, .ref b1), (0, .ref o), (1, .int x1_), (2, .int x2_)]) hx hb dX6_passDay_57 hl (k := 1) rfl (by rw [ex13]; rfl) (by decide) rfl (fun ls hl => ?_)
        refine lv_goto (tgt := 12) hx hb dX6_passDay_60 (by decide) ?_
        exact ih x13 x4_ x1_ x2_ w12 _ _ _ hp h (lv_sub hl [0, 2, 3, 4, 5, 6] rfl)
def wp_X6_passDay (z : Zt) (o : Nat) (p0 : Int32) (p1 : Int32) (w : Vt) (K : Vt → Prop) : Prop := isO z 6 o ∧ ∃ b1 : Nat, zR z 600 o = some b1 ∧ isO z 1600 b1 ∧ ∃ n14 : Nat, wL_X6_passDay_12 z b1 o K (fun x15 x16 x17 x18 w19 => K w19) n14 0 4 p0 p1 w
set_option maxHeartbeats 4000000 in
set_option maxRecDepth 100000 in
theorem k_X6_passDay (l : Launch) (G : Gt) (z : Zt) (w : Vt) (sz : Nat) (o : Nat) (p0 : Int32) (p1 : Int32) (K : Vt → Prop) (hp : wp_X6_passDay z o p0 p1 w K) : MV l yX6_passDay wsX6_passDay rmX6_passDay G z w sz [.ref o, .int p0, .int p1] K := by
  refine Met.ofW (cc := cX6_passDay) (maxL := 7) (ret := none) (by decide +kernel) rfl ?_
  intro p e s m args below meth c s₁ B hml hv
  obtain ⟨rfl, rfl, C, h⟩ := hp_start B hml hv
  generalize gA G z w s.heap.size = A at C h ⊢
  obtain ⟨hx, hb, hr, hlocks, hml, hown, hts, hK, hA, hE⟩ := id C
  obtain ⟨ho, hp⟩ := hp
  have hl := lv_entry ([.ref o, .int p0, .int p1]) (n := 7) (Nat.le_of_ble_eq_true rfl)
  rw [lg_entry_eq]
  generalize (lg_sl ([.ref o, .int p0, .int p1]) ++ List.replicate (7 - (lg_sl ([.ref o, .int p0, .int p1])).length) Slot.unset).toArray = ls at hl ⊢
  have hl : lv_has ls 7 [(0, .ref o), (1, .int p0), (2, .int p1)] := hl
  refine lv_aload_n hx hb dX6_passDay_0 rfl (lv_at hl 0 rfl) ?_
  obtain ⟨b1, eb1, hob1, hp⟩ := hp
  refine hp_get (ci := 6) (v := .ref b1) hx hb hts ix_X6_passDay_6 hown hK h ho (by decide) rfl 0 (by decide) (hts _ lk_X6_passDay_11) (fun _ h9 => h9) (by show some (va_rf (zR z 600 o)) = some (Value.ref b1); rw [eb1]; rfl) dX6_passDay_1 ?_
  refine lv_astore_n (lv' := [(3, .ref b1), (0, .ref o), (1, .int p0), (2, .int p1)]) hx hb dX6_passDay_4 rfl hl (by decide) rfl (fun ls hl => ?_)
  refine lv_aload_n hx hb dX6_passDay_5 rfl (lv_at hl 0 rfl) ?_
  refine hp_alen (t := 1600) (n := 4) hx hb hK h 6 rfl hob1 (by decide) (fun _ _ _ => ⟨_, rfl, rfl⟩) (v := 4) (by decide) dX6_passDay_6 ?_
  refine lv_istore (lv' := [(4, .int 4), (3, .ref b1), (0, .ref o), (1, .int p0), (2, .int p1)]) hx hb dX6_passDay_7 hl (by decide) rfl (fun ls hl => ?_)
  refine lv_iconst (v := 0) hx hb dX6_passDay_9 (by decide) ?_
  refine lv_istore (lv' := [(5, .int 0), (4, .int 4), (3, .ref b1), (0, .ref o), (1, .int p0), (2, .int p1)]) hx hb dX6_passDay_10 hl (by decide) rfl (fun ls hl => ?_)
  obtain ⟨n14, hp⟩ := hp
  refine kL_X6_passDay_12 C b1 o hob1 ho _ _ (fun x15 x16 x17 x18 w19 H locs ls hp h hl => ?_) n14 0 4 p0 p1 w _ _ _ hp h (lv_sub hl [0, 1, 2, 3, 4, 5] rfl)
  exact hp_vret hx hb hr hlocks hK h hp dX6_passDay_63
abbrev rmX7_isFull : Room := { frames := 0, cells := 0, slots := 0, locals := 0 }
theorem ix_X7_isFull_7 : ∀ w ∈ wsX70, w ∈ wsX7_isFull := by decide +kernel
theorem lk_X7_isFull_27 : Cond.fieldLink RX7 27 "KelpShores$Store" "size" "I" ∈ wsX7_isFull := by decide +kernel
def wp_X7_isFull (z : Zt) (o : Nat) (w : Vt) (K : Int32 → Vt → Prop) : Prop := isO z 7 o ∧ ((vI w 705 o) < 200 → K 0 w) ∧ (¬ (vI w 705 o) < 200 → K 1 w)
set_option maxHeartbeats 4000000 in
set_option maxRecDepth 100000 in
theorem k_X7_isFull (l : Launch) (G : Gt) (z : Zt) (w : Vt) (sz : Nat) (o : Nat) (K : Int32 → Vt → Prop) (hp : wp_X7_isFull z o w K) : MI l yX7_isFull wsX7_isFull rmX7_isFull G z w sz [.ref o] K := by
  refine Met.ofW (cc := cX7_isFull) (maxL := 1) (ret := (some .boolean)) (by decide +kernel) rfl ?_
  intro p e s m args below meth c s₁ B hml hv
  obtain ⟨rfl, rfl, C, h⟩ := hp_start B hml hv
  generalize gA G z w s.heap.size = A at C h ⊢
  obtain ⟨hx, hb, hr, hlocks, hml, hown, hts, hK, hA, hE⟩ := id C
  obtain ⟨ho, hp⟩ := hp
  have hl := lv_entry ([.ref o]) (n := 1) (Nat.le_of_ble_eq_true rfl)
  rw [lg_entry_eq]
  generalize (lg_sl ([.ref o]) ++ List.replicate (1 - (lg_sl ([.ref o])).length) Slot.unset).toArray = ls at hl ⊢
  have hl : lv_has ls 1 [(0, .ref o)] := hl
  refine lv_aload_n hx hb dX7_isFull_0 rfl (lv_at hl 0 rfl) ?_
  refine hp_get (ci := 7) (v := .int (vI w 705 o)) hx hb hts ix_X7_isFull_7 hown hK h ho (by decide) rfl 5 (by decide) (hts _ lk_X7_isFull_27) (fun _ h9 => h9) rfl dX7_isFull_1 ?_
  refine lv_sipush (v := 200) hx hb dX7_isFull_4 (by decide) ?_
  refine lv_icmp_lt (tgt := 14) hx hb dX7_isFull_7 (by decide) (fun hc1 => ?_) (fun hc1 => ?_)
  · have hp := hp.1 hc1
    refine lv_iconst (v := 0) hx hb dX7_isFull_14 (by decide) ?_
    exact hp_iret hx hb hr rfl hlocks hK h hp dX7_isFull_15
  · have hp := hp.2 hc1
    refine lv_iconst (v := 1) hx hb dX7_isFull_10 (by decide) ?_
    refine lv_goto (tgt := 15) hx hb dX7_isFull_11 (by decide) ?_
    exact hp_iret hx hb hr rfl hlocks hK h hp dX7_isFull_15
abbrev rmX7_hasEntry : Room := { frames := 0, cells := 0, slots := 0, locals := 0 }
theorem ix_X7_hasEntry_7 : ∀ w ∈ wsX70, w ∈ wsX7_hasEntry := by decide +kernel
theorem lk_X7_hasEntry_27 : Cond.fieldLink RX7 27 "KelpShores$Store" "size" "I" ∈ wsX7_hasEntry := by decide +kernel
def wp_X7_hasEntry (z : Zt) (o : Nat) (p0 : Int32) (w : Vt) (K : Int32 → Vt → Prop) : Prop := isO z 7 o ∧ (p0 < 0 → K 0 w) ∧ (¬ p0 < 0 → ((vI w 705 o) ≤ p0 → K 0 w) ∧ (¬ (vI w 705 o) ≤ p0 → (200 ≤ p0 → K 0 w) ∧ (¬ 200 ≤ p0 → K 1 w)))
set_option maxHeartbeats 4000000 in
set_option maxRecDepth 100000 in
theorem k_X7_hasEntry (l : Launch) (G : Gt) (z : Zt) (w : Vt) (sz : Nat) (o : Nat) (p0 : Int32) (K : Int32 → Vt → Prop) (hp : wp_X7_hasEntry z o p0 w K) : MI l yX7_hasEntry wsX7_hasEntry rmX7_hasEntry G z w sz [.ref o, .int p0] K := by
  refine Met.ofW (cc := cX7_hasEntry) (maxL := 2) (ret := (some .boolean)) (by decide +kernel) rfl ?_
  intro p e s m args below meth c s₁ B hml hv
  obtain ⟨rfl, rfl, C, h⟩ := hp_start B hml hv
  generalize gA G z w s.heap.size = A at C h ⊢
  obtain ⟨hx, hb, hr, hlocks, hml, hown, hts, hK, hA, hE⟩ := id C
  obtain ⟨ho, hp⟩ := hp
  have hl := lv_entry ([.ref o, .int p0]) (n := 2) (Nat.le_of_ble_eq_true rfl)
  rw [lg_entry_eq]
  generalize (lg_sl ([.ref o, .int p0]) ++ List.replicate (2 - (lg_sl ([.ref o, .int p0])).length) Slot.unset).toArray = ls at hl ⊢
  have hl : lv_has ls 2 [(0, .ref o), (1, .int p0)] := hl
  refine lv_iload_n hx hb dX7_hasEntry_0 rfl (lv_at hl 1 rfl) ?_
  refine lv_if_lt (tgt := 23) hx hb dX7_hasEntry_1 (by decide) (fun hc1 => ?_) (fun hc1 => ?_)
  · have hp := hp.1 hc1
    refine lv_iconst (v := 0) hx hb dX7_hasEntry_23 (by decide) ?_
    exact hp_iret hx hb hr rfl hlocks hK h hp dX7_hasEntry_24
  · have hp := hp.2 hc1
    refine lv_iload_n hx hb dX7_hasEntry_4 rfl (lv_at hl 1 rfl) ?_
    refine lv_aload_n hx hb dX7_hasEntry_5 rfl (lv_at hl 0 rfl) ?_
    refine hp_get (ci := 7) (v := .int (vI w 705 o)) hx hb hts ix_X7_hasEntry_7 hown hK h ho (by decide) rfl 5 (by decide) (hts _ lk_X7_hasEntry_27) (fun _ h9 => h9) rfl dX7_hasEntry_6 ?_
    refine lv_icmp_ge (tgt := 23) hx hb dX7_hasEntry_9 (by decide) (fun hc2 => ?_) (fun hc2 => ?_)
    · have hp := hp.1 hc2
      refine lv_iconst (v := 0) hx hb dX7_hasEntry_23 (by decide) ?_
      exact hp_iret hx hb hr rfl hlocks hK h hp dX7_hasEntry_24
    · have hp := hp.2 hc2
      refine lv_iload_n hx hb dX7_hasEntry_12 rfl (lv_at hl 1 rfl) ?_
      refine lv_sipush (v := 200) hx hb dX7_hasEntry_13 (by decide) ?_
      refine lv_icmp_ge (tgt := 23) hx hb dX7_hasEntry_16 (by decide) (fun hc3 => ?_) (fun hc3 => ?_)
      · have hp := hp.1 hc3
        refine lv_iconst (v := 0) hx hb dX7_hasEntry_23 (by decide) ?_
        exact hp_iret hx hb hr rfl hlocks hK h hp dX7_hasEntry_24
      · have hp := hp.2 hc3
        refine lv_iconst (v := 1) hx hb dX7_hasEntry_19 (by decide) ?_
        refine lv_goto (tgt := 24) hx hb dX7_hasEntry_20 (by decide) ?_
        exact hp_iret hx hb hr rfl hlocks hK h hp dX7_hasEntry_24
abbrev rmX7_addEntry : Room := { frames := 1, cells := 0, slots := 0, locals := 20 }
theorem ix_X7_addEntry_7 : ∀ w ∈ wsX70, w ∈ wsX7_addEntry := by decide +kernel
theorem lk_X7_addEntry_9 : Cond.fieldLink RX7 9 "KelpShores$Store" "familyOf" "[I" ∈ wsX7_addEntry := by decide +kernel
theorem lk_X7_addEntry_27 : Cond.fieldLink RX7 27 "KelpShores$Store" "size" "I" ∈ wsX7_addEntry := by decide +kernel
theorem lk_X7_addEntry_15 : Cond.fieldLink RX7 15 "KelpShores$Store" "money" "[I" ∈ wsX7_addEntry := by decide +kernel
theorem lk_X7_addEntry_18 : Cond.fieldLink RX7 18 "KelpShores$Store" "forDay" "[I" ∈ wsX7_addEntry := by decide +kernel
theorem lk_X7_addEntry_21 : Cond.fieldLink RX7 21 "KelpShores$Store" "toldOn" "[I" ∈ wsX7_addEntry := by decide +kernel
theorem lk_X7_addEntry_24 : Cond.fieldLink RX7 24 "KelpShores$Store" "takenBackOn" "[I" ∈ wsX7_addEntry := by decide +kernel
def wp_X7_addEntry (z : Zt) (o : Nat) (p0 : Int32) (p1 : Int32) (p2 : Int32) (p3 : Int32) (w : Vt) (K : Int32 → Vt → Prop) : Prop := isO z 7 o ∧ wp_X7_isFull z o w (fun r2 w1 => (r2 = 0 → ∃ b4 : Nat, zR z 700 o = some b4 ∧ isO z 1700 b4 ∧ vp_in (vI w1 705 o) 200 ∧ ∀ w5 : Vt, w5 = uA w1 1700 b4 (vI w1 705 o : Int32).toNatClampNeg p0 → ∃ b6 : Nat, zR z 701 o = some b6 ∧ isO z 1701 b6 ∧ vp_in (vI w5 705 o) 200 ∧ ∀ w7 : Vt, w7 = uA w5 1701 b6 (vI w5 705 o : Int32).toNatClampNeg p1 → ∃ b8 : Nat, zR z 702 o = some b8 ∧ isO z 1702 b8 ∧ vp_in (vI w7 705 o) 200 ∧ ∀ w9 : Vt, w9 = uA w7 1702 b8 (vI w7 705 o : Int32).toNatClampNeg p2 → ∃ b10 : Nat, zR z 703 o = some b10 ∧ isO z 1703 b10 ∧ vp_in (vI w9 705 o) 200 ∧ ∀ w11 : Vt, w11 = uA w9 1703 b10 (vI w9 705 o : Int32).toNatClampNeg p3 → ∃ b12 : Nat, zR z 704 o = some b12 ∧ isO z 1704 b12 ∧ vp_in (vI w11 705 o) 200 ∧ ∀ w13 : Vt, w13 = uA w11 1704 b12 (vI w11 705 o : Int32).toNatClampNeg (-1) → ∀ w14 : Vt, w14 = uI w13 705 o ((vI w13 705 o) + 1) → K ((vI w14 705 o) - 1) w14) ∧ (¬ r2 = 0 → K (-1) w1))
set_option maxHeartbeats 4000000 in
set_option maxRecDepth 100000 in
theorem k_X7_addEntry (l : Launch) (G : Gt) (z : Zt) (w : Vt) (sz : Nat) (o : Nat) (p0 : Int32) (p1 : Int32) (p2 : Int32) (p3 : Int32) (K : Int32 → Vt → Prop) (hp : wp_X7_addEntry z o p0 p1 p2 p3 w K) : MI l yX7_addEntry wsX7_addEntry rmX7_addEntry G z w sz [.ref o, .int p0, .int p1, .int p2, .int p3] K := by
  refine Met.ofW (cc := cX7_addEntry) (maxL := 5) (ret := (some .int)) (by decide +kernel) rfl ?_
  intro p e s m args below meth c s₁ B hml hv
  obtain ⟨rfl, rfl, C, h⟩ := hp_start B hml hv
  generalize gA G z w s.heap.size = A at C h ⊢
  obtain ⟨hx, hb, hr, hlocks, hml, hown, hts, hK, hA, hE⟩ := id C
  obtain ⟨ho, hp⟩ := hp
  have hl := lv_entry ([.ref o, .int p0, .int p1, .int p2, .int p3]) (n := 5) (Nat.le_of_ble_eq_true rfl)
  rw [lg_entry_eq]
  generalize (lg_sl ([.ref o, .int p0, .int p1, .int p2, .int p3]) ++ List.replicate (5 - (lg_sl ([.ref o, .int p0, .int p1, .int p2, .int p3])).length) Slot.unset).toArray = ls at hl ⊢
  have hl : lv_has ls 5 [(0, .ref o), (1, .int p0), (2, .int p1), (3, .int p2), (4, .int p3)] := hl
  refine lv_aload_n hx hb dX7_addEntry_0 rfl (lv_at hl 0 rfl) ?_
  refine hp_cVi ⟨hx, hb, hml, hown, hts⟩ (k_X7_isFull l G z w _ o _ hp) (cwV 0 hts gX7_addEntry_X7_isFull rfl rfl rfl (by decide +kernel) ⟨Nat.le_of_ble_eq_true rfl, Nat.le_of_ble_eq_true rfl⟩) ho (by decide) rfl hK h hA hE rfl hl.1 rfl (Nat.le_of_ble_eq_true rfl) dX7_addEntry_1 ⟨Nat.le_of_ble_eq_true rfl, Nat.le_of_ble_eq_true rfl⟩ (fun r2 w1 H locs hp h => ?_)
  refine lv_if_eq (tgt := 9) hx hb dX7_addEntry_4 (by decide) (fun hc3 => ?_) (fun hc3 => ?_)
  · have hp := hp.1 hc3
    refine lv_aload_n hx hb dX7_addEntry_9 rfl (lv_at hl 0 rfl) ?_
    obtain ⟨b4, eb4, hob4, hp⟩ := hp
    refine hp_get (ci := 7) (v := .ref b4) hx hb hts ix_X7_addEntry_7 hown hK h ho (by decide) rfl 0 (by decide) (hts _ lk_X7_addEntry_9) (fun _ h9 => h9) (by show some (va_rf (zR z 700 o)) = some (Value.ref b4); rw [eb4]; rfl) dX7_addEntry_10 ?_
    refine lv_aload_n hx hb dX7_addEntry_13 rfl (lv_at hl 0 rfl) ?_
    refine hp_get (ci := 7) (v := .int (vI w1 705 o)) hx hb hts ix_X7_addEntry_7 hown hK h ho (by decide) rfl 5 (by decide) (hts _ lk_X7_addEntry_27) (fun _ h9 => h9) rfl dX7_addEntry_14 ?_
    refine lv_iload_n hx hb dX7_addEntry_17 rfl (lv_at hl 1 rfl) ?_
    refine hp_iast (t := 1700) (n := 200) hx hb hK h hob4 (by decide) (fun _ _ _ => rfl) hp.1 dX7_addEntry_18 (fun H locs w5 ew5 h => ?_)
    have hp := hp.2 w5 ew5
    refine lv_aload_n hx hb dX7_addEntry_19 rfl (lv_at hl 0 rfl) ?_
    obtain ⟨b6, eb6, hob6, hp⟩ := hp
    refine hp_get (ci := 7) (v := .ref b6) hx hb hts ix_X7_addEntry_7 hown hK h ho (by decide) rfl 1 (by decide) (hts _ lk_X7_addEntry_15) (fun _ h9 => h9) (by show some (va_rf (zR z 701 o)) = some (Value.ref b6); rw [eb6]; rfl) dX7_addEntry_20 ?_
    refine lv_aload_n hx hb dX7_addEntry_23 rfl (lv_at hl 0 rfl) ?_
    refine hp_get (ci := 7) (v := .int (vI w5 705 o)) hx hb hts ix_X7_addEntry_7 hown hK h ho (by decide) rfl 5 (by decide) (hts _ lk_X7_addEntry_27) (fun _ h9 => h9) rfl dX7_addEntry_24 ?_
    refine lv_iload_n hx hb dX7_addEntry_27 rfl (lv_at hl 2 rfl) ?_
    refine hp_iast (t := 1701) (n := 200) hx hb hK h hob6 (by decide) (fun _ _ _ => rfl) hp.1 dX7_addEntry_28 (fun H locs w7 ew7 h => ?_)
    have hp := hp.2 w7 ew7
    refine lv_aload_n hx hb dX7_addEntry_29 rfl (lv_at hl 0 rfl) ?_
    obtain ⟨b8, eb8, hob8, hp⟩ := hp
    refine hp_get (ci := 7) (v := .ref b8) hx hb hts ix_X7_addEntry_7 hown hK h ho (by decide) rfl 2 (by decide) (hts _ lk_X7_addEntry_18) (fun _ h9 => h9) (by show some (va_rf (zR z 702 o)) = some (Value.ref b8); rw [eb8]; rfl) dX7_addEntry_30 ?_
    refine lv_aload_n hx hb dX7_addEntry_33 rfl (lv_at hl 0 rfl) ?_
    refine hp_get (ci := 7) (v := .int (vI w7 705 o)) hx hb hts ix_X7_addEntry_7 hown hK h ho (by decide) rfl 5 (by decide) (hts _ lk_X7_addEntry_27) (fun _ h9 => h9) rfl dX7_addEntry_34 ?_
    refine lv_iload_n hx hb dX7_addEntry_37 rfl (lv_at hl 3 rfl) ?_
    refine hp_iast (t := 1702) (n := 200) hx hb hK h hob8 (by decide) (fun _ _ _ => rfl) hp.1 dX7_addEntry_38 (fun H locs w9 ew9 h => ?_)
    have hp := hp.2 w9 ew9
    refine lv_aload_n hx hb dX7_addEntry_39 rfl (lv_at hl 0 rfl) ?_
    obtain ⟨b10, eb10, hob10, hp⟩ := hp
    refine hp_get (ci := 7) (v := .ref b10) hx hb hts ix_X7_addEntry_7 hown hK h ho (by decide) rfl 3 (by decide) (hts _ lk_X7_addEntry_21) (fun _ h9 => h9) (by show some (va_rf (zR z 703 o)) = some (Value.ref b10); rw [eb10]; rfl) dX7_addEntry_40 ?_
    refine lv_aload_n hx hb dX7_addEntry_43 rfl (lv_at hl 0 rfl) ?_
    refine hp_get (ci := 7) (v := .int (vI w9 705 o)) hx hb hts ix_X7_addEntry_7 hown hK h ho (by decide) rfl 5 (by decide) (hts _ lk_X7_addEntry_27) (fun _ h9 => h9) rfl dX7_addEntry_44 ?_
    refine lv_iload hx hb dX7_addEntry_47 (lv_at hl 4 rfl) ?_
    refine hp_iast (t := 1703) (n := 200) hx hb hK h hob10 (by decide) (fun _ _ _ => rfl) hp.1 dX7_addEntry_49 (fun H locs w11 ew11 h => ?_)
    have hp := hp.2 w11 ew11
    refine lv_aload_n hx hb dX7_addEntry_50 rfl (lv_at hl 0 rfl) ?_
    obtain ⟨b12, eb12, hob12, hp⟩ := hp
    refine hp_get (ci := 7) (v := .ref b12) hx hb hts ix_X7_addEntry_7 hown hK h ho (by decide) rfl 4 (by decide) (hts _ lk_X7_addEntry_24) (fun _ h9 => h9) (by show some (va_rf (zR z 704 o)) = some (Value.ref b12); rw [eb12]; rfl) dX7_addEntry_51 ?_
    refine lv_aload_n hx hb dX7_addEntry_54 rfl (lv_at hl 0 rfl) ?_
    refine hp_get (ci := 7) (v := .int (vI w11 705 o)) hx hb hts ix_X7_addEntry_7 hown hK h ho (by decide) rfl 5 (by decide) (hts _ lk_X7_addEntry_27) (fun _ h9 => h9) rfl dX7_addEntry_55 ?_
    refine lv_iconst (v := (-1)) hx hb dX7_addEntry_58 (by decide) ?_
    refine hp_iast (t := 1704) (n := 200) hx hb hK h hob12 (by decide) (fun _ _ _ => rfl) hp.1 dX7_addEntry_59 (fun H locs w13 ew13 h => ?_)
    have hp := hp.2 w13 ew13
    refine lv_aload_n hx hb dX7_addEntry_60 rfl (lv_at hl 0 rfl) ?_
    refine lv_dup hx hb dX7_addEntry_61 rfl ?_
    refine hp_get (ci := 7) (v := .int (vI w13 705 o)) hx hb hts ix_X7_addEntry_7 hown hK h ho (by decide) rfl 5 (by decide) (hts _ lk_X7_addEntry_27) (fun _ h9 => h9) rfl dX7_addEntry_62 ?_
    refine lv_iconst (v := 1) hx hb dX7_addEntry_65 (by decide) ?_
    refine lv_iadd hx hb dX7_addEntry_66 ?_
    refine hp_puti (ci := 7) (ty := .int) (x := (vI w13 705 o) + 1) hx hb hts ix_X7_addEntry_7 tyX7 tyX7_ok nmX7 hown hK h ho (by decide) rfl 5 705 (by decide) (hts _ lk_X7_addEntry_27) (fun _ h9 => h9) rfl (by decide +kernel) rfl rfl (fun _ _ => rfl) (fun _ _ => Nat.le_of_ble_eq_true rfl) dX7_addEntry_67 (fun H locs w14 ew14 h => ?_)
    have hp := hp w14 ew14
    refine lv_aload_n hx hb dX7_addEntry_70 rfl (lv_at hl 0 rfl) ?_
    refine hp_get (ci := 7) (v := .int (vI w14 705 o)) hx hb hts ix_X7_addEntry_7 hown hK h ho (by decide) rfl 5 (by decide) (hts _ lk_X7_addEntry_27) (fun _ h9 => h9) rfl dX7_addEntry_71 ?_
    refine lv_iconst (v := 1) hx hb dX7_addEntry_74 (by decide) ?_
    refine lv_isub hx hb dX7_addEntry_75 ?_
    exact hp_iret hx hb hr rfl hlocks hK h hp dX7_addEntry_76
  · have hp := hp.2 hc3
    refine lv_iconst (v := (-1)) hx hb dX7_addEntry_7 (by decide) ?_
    exact hp_iret hx hb hr rfl hlocks hK h hp dX7_addEntry_8
abbrev rmX7_takeBack : Room := { frames := 1, cells := 0, slots := 0, locals := 21 }
theorem ix_X7_takeBack_7 : ∀ w ∈ wsX70, w ∈ wsX7_takeBack := by decide +kernel
theorem lk_X7_takeBack_24 : Cond.fieldLink RX7 24 "KelpShores$Store" "takenBackOn" "[I" ∈ wsX7_takeBack := by decide +kernel
def wp_X7_takeBack (z : Zt) (o : Nat) (p0 : Int32) (p1 : Int32) (w : Vt) (K : Int32 → Vt → Prop) : Prop := isO z 7 o ∧ wp_X7_hasEntry z o p0 w (fun r2 w1 => (r2 = 0 → K 0 w1) ∧ (¬ r2 = 0 → ∃ b4 : Nat, zR z 704 o = some b4 ∧ isO z 1704 b4 ∧ vp_in p0 200 ∧ ((vA w1 1704 b4 (p0 : Int32).toNatClampNeg) = (-1) → vp_in p0 200 ∧ ∀ w6 : Vt, w6 = uA w1 1704 b4 (p0 : Int32).toNatClampNeg p1 → K 1 w6) ∧ (¬ (vA w1 1704 b4 (p0 : Int32).toNatClampNeg) = (-1) → K 0 w1)))
set_option maxHeartbeats 4000000 in
set_option maxRecDepth 100000 in
theorem k_X7_takeBack (l : Launch) (G : Gt) (z : Zt) (w : Vt) (sz : Nat) (o : Nat) (p0 : Int32) (p1 : Int32) (K : Int32 → Vt → Prop) (hp : wp_X7_takeBack z o p0 p1 w K) : MI l yX7_takeBack wsX7_takeBack rmX7_takeBack G z w sz [.ref o, .int p0, .int p1] K := by
  refine Met.ofW (cc := cX7_takeBack) (maxL := 3) (ret := (some .boolean)) (by decide +kernel) rfl ?_
  intro p e s m args below meth c s₁ B hml hv
  obtain ⟨rfl, rfl, C, h⟩ := hp_start B hml hv
  generalize gA G z w s.heap.size = A at C h ⊢
  obtain ⟨hx, hb, hr, hlocks, hml, hown, hts, hK, hA, hE⟩ := id C
  obtain ⟨ho, hp⟩ := hp
  have hl := lv_entry ([.ref o, .int p0, .int p1]) (n := 3) (Nat.le_of_ble_eq_true rfl)
  rw [lg_entry_eq]
  generalize (lg_sl ([.ref o, .int p0, .int p1]) ++ List.replicate (3 - (lg_sl ([.ref o, .int p0, .int p1])).length) Slot.unset).toArray = ls at hl ⊢
  have hl : lv_has ls 3 [(0, .ref o), (1, .int p0), (2, .int p1)] := hl
  refine lv_aload_n hx hb dX7_takeBack_0 rfl (lv_at hl 0 rfl) ?_
  refine lv_iload_n hx hb dX7_takeBack_1 rfl (lv_at hl 1 rfl) ?_
  refine hp_cVi ⟨hx, hb, hml, hown, hts⟩ (k_X7_hasEntry l G z w _ o p0 _ hp) (cwV 1 hts gX7_takeBack_X7_hasEntry rfl rfl rfl (by decide +kernel) ⟨Nat.le_of_ble_eq_true rfl, Nat.le_of_ble_eq_true rfl⟩) ho (by decide) rfl hK h hA hE rfl hl.1 rfl (Nat.le_of_ble_eq_true rfl) dX7_takeBack_2 ⟨Nat.le_of_ble_eq_true rfl, Nat.le_of_ble_eq_true rfl⟩ (fun r2 w1 H locs hp h => ?_)
  refine lv_if_eq (tgt := 18) hx hb dX7_takeBack_5 (by decide) (fun hc3 => ?_) (fun hc3 => ?_)
  · have hp := hp.1 hc3
    refine lv_iconst (v := 0) hx hb dX7_takeBack_18 (by decide) ?_
    exact hp_iret hx hb hr rfl hlocks hK h hp dX7_takeBack_19
  · have hp := hp.2 hc3
    refine lv_aload_n hx hb dX7_takeBack_8 rfl (lv_at hl 0 rfl) ?_
    obtain ⟨b4, eb4, hob4, hp⟩ := hp
    refine hp_get (ci := 7) (v := .ref b4) hx hb hts ix_X7_takeBack_7 hown hK h ho (by decide) rfl 4 (by decide) (hts _ lk_X7_takeBack_24) (fun _ h9 => h9) (by show some (va_rf (zR z 704 o)) = some (Value.ref b4); rw [eb4]; rfl) dX7_takeBack_9 ?_
    refine lv_iload_n hx hb dX7_takeBack_12 rfl (lv_at hl 1 rfl) ?_
    refine hp_iald (t := 1704) (n := 200) hx hb hK h hob4 (by decide) (fun _ _ _ => rfl) hp.1 dX7_takeBack_13 ?_
    have hp := hp.2
    refine lv_iconst (v := (-1)) hx hb dX7_takeBack_14 (by decide) ?_
    refine lv_icmp_eq (tgt := 20) hx hb dX7_takeBack_15 (by decide) (fun hc5 => ?_) (fun hc5 => ?_)
    · have hp := hp.1 hc5
      refine lv_aload_n hx hb dX7_takeBack_20 rfl (lv_at hl 0 rfl) ?_
      refine hp_get (ci := 7) (v := .ref b4) hx hb hts ix_X7_takeBack_7 hown hK h ho (by decide) rfl 4 (by decide) (hts _ lk_X7_takeBack_24) (fun _ h9 => h9) (by show some (va_rf (zR z 704 o)) = some (Value.ref b4); rw [eb4]; rfl) dX7_takeBack_21 ?_
      refine lv_iload_n hx hb dX7_takeBack_24 rfl (lv_at hl 1 rfl) ?_
      refine lv_iload_n hx hb dX7_takeBack_25 rfl (lv_at hl 2 rfl) ?_
      refine hp_iast (t := 1704) (n := 200) hx hb hK h hob4 (by decide) (fun _ _ _ => rfl) hp.1 dX7_takeBack_26 (fun H locs w6 ew6 h => ?_)
      have hp := hp.2 w6 ew6
      refine lv_iconst (v := 1) hx hb dX7_takeBack_27 (by decide) ?_
      exact hp_iret hx hb hr rfl hlocks hK h hp dX7_takeBack_28
    · have hp := hp.2 hc5
      refine lv_iconst (v := 0) hx hb dX7_takeBack_18 (by decide) ?_
      exact hp_iret hx hb hr rfl hlocks hK h hp dX7_takeBack_19
abbrev rmX7_wasKnown : Room := { frames := 1, cells := 0, slots := 0, locals := 21 }
theorem ix_X7_wasKnown_7 : ∀ w ∈ wsX70, w ∈ wsX7_wasKnown := by decide +kernel
theorem lk_X7_wasKnown_21 : Cond.fieldLink RX7 21 "KelpShores$Store" "toldOn" "[I" ∈ wsX7_wasKnown := by decide +kernel
theorem lk_X7_wasKnown_24 : Cond.fieldLink RX7 24 "KelpShores$Store" "takenBackOn" "[I" ∈ wsX7_wasKnown := by decide +kernel
def wp_X7_wasKnown (z : Zt) (o : Nat) (p0 : Int32) (p1 : Int32) (w : Vt) (K : Int32 → Vt → Prop) : Prop := isO z 7 o ∧ wp_X7_hasEntry z o p0 w (fun r2 w1 => (r2 = 0 → K 0 w1) ∧ (¬ r2 = 0 → ∃ b4 : Nat, zR z 703 o = some b4 ∧ isO z 1703 b4 ∧ vp_in p0 200 ∧ (p1 < (vA w1 1703 b4 (p0 : Int32).toNatClampNeg) → K 0 w1) ∧ (¬ p1 < (vA w1 1703 b4 (p0 : Int32).toNatClampNeg) → ∃ b6 : Nat, zR z 704 o = some b6 ∧ isO z 1704 b6 ∧ vp_in p0 200 ∧ ((vA w1 1704 b6 (p0 : Int32).toNatClampNeg) = (-1) → K 1 w1) ∧ (¬ (vA w1 1704 b6 (p0 : Int32).toNatClampNeg) = (-1) → vp_in p0 200 ∧ ((vA w1 1704 b6 (p0 : Int32).toNatClampNeg) ≤ p1 → K 0 w1) ∧ (¬ (vA w1 1704 b6 (p0 : Int32).toNatClampNeg) ≤ p1 → K 1 w1)))))
set_option maxHeartbeats 4000000 in
set_option maxRecDepth 100000 in
theorem k_X7_wasKnown (l : Launch) (G : Gt) (z : Zt) (w : Vt) (sz : Nat) (o : Nat) (p0 : Int32) (p1 : Int32) (K : Int32 → Vt → Prop) (hp : wp_X7_wasKnown z o p0 p1 w K) : MI l yX7_wasKnown wsX7_wasKnown rmX7_wasKnown G z w sz [.ref o, .int p0, .int p1] K := by
  refine Met.ofW (cc := cX7_wasKnown) (maxL := 3) (ret := (some .boolean)) (by decide +kernel) rfl ?_
  intro p e s m args below meth c s₁ B hml hv
  obtain ⟨rfl, rfl, C, h⟩ := hp_start B hml hv
  generalize gA G z w s.heap.size = A at C h ⊢
  obtain ⟨hx, hb, hr, hlocks, hml, hown, hts, hK, hA, hE⟩ := id C
  obtain ⟨ho, hp⟩ := hp
  have hl := lv_entry ([.ref o, .int p0, .int p1]) (n := 3) (Nat.le_of_ble_eq_true rfl)
  rw [lg_entry_eq]
  generalize (lg_sl ([.ref o, .int p0, .int p1]) ++ List.replicate (3 - (lg_sl ([.ref o, .int p0, .int p1])).length) Slot.unset).toArray = ls at hl ⊢
  have hl : lv_has ls 3 [(0, .ref o), (1, .int p0), (2, .int p1)] := hl
  refine lv_aload_n hx hb dX7_wasKnown_0 rfl (lv_at hl 0 rfl) ?_
  refine lv_iload_n hx hb dX7_wasKnown_1 rfl (lv_at hl 1 rfl) ?_
  refine hp_cVi ⟨hx, hb, hml, hown, hts⟩ (k_X7_hasEntry l G z w _ o p0 _ hp) (cwV 1 hts gX7_wasKnown_X7_hasEntry rfl rfl rfl (by decide +kernel) ⟨Nat.le_of_ble_eq_true rfl, Nat.le_of_ble_eq_true rfl⟩) ho (by decide) rfl hK h hA hE rfl hl.1 rfl (Nat.le_of_ble_eq_true rfl) dX7_wasKnown_2 ⟨Nat.le_of_ble_eq_true rfl, Nat.le_of_ble_eq_true rfl⟩ (fun r2 w1 H locs hp h => ?_)
  refine lv_if_eq (tgt := 42) hx hb dX7_wasKnown_5 (by decide) (fun hc3 => ?_) (fun hc3 => ?_)
  · have hp := hp.1 hc3
    refine lv_iconst (v := 0) hx hb dX7_wasKnown_42 (by decide) ?_
    exact hp_iret hx hb hr rfl hlocks hK h hp dX7_wasKnown_43
  · have hp := hp.2 hc3
    refine lv_aload_n hx hb dX7_wasKnown_8 rfl (lv_at hl 0 rfl) ?_
    obtain ⟨b4, eb4, hob4, hp⟩ := hp
    refine hp_get (ci := 7) (v := .ref b4) hx hb hts ix_X7_wasKnown_7 hown hK h ho (by decide) rfl 3 (by decide) (hts _ lk_X7_wasKnown_21) (fun _ h9 => h9) (by show some (va_rf (zR z 703 o)) = some (Value.ref b4); rw [eb4]; rfl) dX7_wasKnown_9 ?_
    refine lv_iload_n hx hb dX7_wasKnown_12 rfl (lv_at hl 1 rfl) ?_
    refine hp_iald (t := 1703) (n := 200) hx hb hK h hob4 (by decide) (fun _ _ _ => rfl) hp.1 dX7_wasKnown_13 ?_
    have hp := hp.2
    refine lv_iload_n hx hb dX7_wasKnown_14 rfl (lv_at hl 2 rfl) ?_
    refine lv_icmp_gt (tgt := 42) hx hb dX7_wasKnown_15 (by decide) (fun hc5 => ?_) (fun hc5 => ?_)
    · have hp := hp.1 hc5
      refine lv_iconst (v := 0) hx hb dX7_wasKnown_42 (by decide) ?_
      exact hp_iret hx hb hr rfl hlocks hK h hp dX7_wasKnown_43
    · have hp := hp.2 hc5
      refine lv_aload_n hx hb dX7_wasKnown_18 rfl (lv_at hl 0 rfl) ?_
      obtain ⟨b6, eb6, hob6, hp⟩ := hp
      refine hp_get (ci := 7) (v := .ref b6) hx hb hts ix_X7_wasKnown_7 hown hK h ho (by decide) rfl 4 (by decide) (hts _ lk_X7_wasKnown_24) (fun _ h9 => h9) (by show some (va_rf (zR z 704 o)) = some (Value.ref b6); rw [eb6]; rfl) dX7_wasKnown_19 ?_
      refine lv_iload_n hx hb dX7_wasKnown_22 rfl (lv_at hl 1 rfl) ?_
      refine hp_iald (t := 1704) (n := 200) hx hb hK h hob6 (by decide) (fun _ _ _ => rfl) hp.1 dX7_wasKnown_23 ?_
      have hp := hp.2
      refine lv_iconst (v := (-1)) hx hb dX7_wasKnown_24 (by decide) ?_
      refine lv_icmp_eq (tgt := 38) hx hb dX7_wasKnown_25 (by decide) (fun hc7 => ?_) (fun hc7 => ?_)
      · have hp := hp.1 hc7
        refine lv_iconst (v := 1) hx hb dX7_wasKnown_38 (by decide) ?_
        refine lv_goto (tgt := 43) hx hb dX7_wasKnown_39 (by decide) ?_
        exact hp_iret hx hb hr rfl hlocks hK h hp dX7_wasKnown_43
      · have hp := hp.2 hc7
        refine lv_iload_n hx hb dX7_wasKnown_28 rfl (lv_at hl 2 rfl) ?_
        refine lv_aload_n hx hb dX7_wasKnown_29 rfl (lv_at hl 0 rfl) ?_
        refine hp_get (ci := 7) (v := .ref b6) hx hb hts ix_X7_wasKnown_7 hown hK h ho (by decide) rfl 4 (by decide) (hts _ lk_X7_wasKnown_24) (fun _ h9 => h9) (by show some (va_rf (zR z 704 o)) = some (Value.ref b6); rw [eb6]; rfl) dX7_wasKnown_30 ?_
        refine lv_iload_n hx hb dX7_wasKnown_33 rfl (lv_at hl 1 rfl) ?_
        refine hp_iald (t := 1704) (n := 200) hx hb hK h hob6 (by decide) (fun _ _ _ => rfl) hp.1 dX7_wasKnown_34 ?_
        have hp := hp.2
        refine lv_icmp_ge (tgt := 42) hx hb dX7_wasKnown_35 (by decide) (fun hc8 => ?_) (fun hc8 => ?_)
        · have hp := hp.1 hc8
          refine lv_iconst (v := 0) hx hb dX7_wasKnown_42 (by decide) ?_
          exact hp_iret hx hb hr rfl hlocks hK h hp dX7_wasKnown_43
        · have hp := hp.2 hc8
          refine lv_iconst (v := 1) hx hb dX7_wasKnown_38 (by decide) ?_
          refine lv_goto (tgt := 43) hx hb dX7_wasKnown_39 (by decide) ?_
          exact hp_iret hx hb hr rfl hlocks hK h hp dX7_wasKnown_43
abbrev rmX7_sumKnown : Room := { frames := 2, cells := 0, slots := 0, locals := 43 }
theorem ix_X7_sumKnown_7 : ∀ w ∈ wsX70, w ∈ wsX7_sumKnown := by decide +kernel
theorem lk_X7_sumKnown_27 : Cond.fieldLink RX7 27 "KelpShores$Store" "size" "I" ∈ wsX7_sumKnown := by decide +kernel
theorem lk_X7_sumKnown_9 : Cond.fieldLink RX7 9 "KelpShores$Store" "familyOf" "[I" ∈ wsX7_sumKnown := by decide +kernel
theorem lk_X7_sumKnown_18 : Cond.fieldLink RX7 18 "KelpShores$Store" "forDay" "[I" ∈ wsX7_sumKnown := by decide +kernel
theorem lk_X7_sumKnown_15 : Cond.fieldLink RX7 15 "KelpShores$Store" "money" "[I" ∈ wsX7_sumKnown := by decide +kernel
def wL_X7_sumKnown_6 (z : Zt) (o : Nat) (K : Int32 → Vt → Prop) (Kx : Int32 → Int32 → Int32 → Int32 → Int32 → Vt → Prop) : Nat → Int32 → Int32 → Int32 → Int32 → Int32 → Vt → Prop
  | 0, _, _, _, _, _, _ => False
  | n + 1, x5_, x4_, x1_, x2_, x3_, w => ((vI w 705 o) ≤ x5_ → Kx x5_ x4_ x1_ x2_ x3_ w) ∧ (¬ (vI w 705 o) ≤ x5_ → (200 ≤ x5_ → Kx x5_ x4_ x1_ x2_ x3_ w) ∧ (¬ 200 ≤ x5_ → ∃ b3 : Nat, zR z 700 o = some b3 ∧ isO z 1700 b3 ∧ vp_in x5_ 200 ∧ (¬ (vA w 1700 b3 (x5_ : Int32).toNatClampNeg) = x1_ → ∀ x5 : Int32, x5 = x5_ + 1 → wL_X7_sumKnown_6 z o K Kx n x5 x4_ x1_ x2_ x3_ w) ∧ ((vA w 1700 b3 (x5_ : Int32).toNatClampNeg) = x1_ → ∃ b6 : Nat, zR z 702 o = some b6 ∧ isO z 1702 b6 ∧ vp_in x5_ 200 ∧ (x2_ < (vA w 1702 b6 (x5_ : Int32).toNatClampNeg) → ∀ x8 : Int32, x8 = x5_ + 1 → wL_X7_sumKnown_6 z o K Kx n x8 x4_ x1_ x2_ x3_ w) ∧ (¬ x2_ < (vA w 1702 b6 (x5_ : Int32).toNatClampNeg) → wp_X7_wasKnown z o x5_ x3_ w (fun r10 w9 => (r10 = 0 → ∀ x12 : Int32, x12 = x5_ + 1 → wL_X7_sumKnown_6 z o K Kx n x12 x4_ x1_ x2_ x3_ w9) ∧ (¬ r10 = 0 → ∃ b13 : Nat, zR z 701 o = some b13 ∧ isO z 1701 b13 ∧ vp_in x5_ 200 ∧ ∀ x14 : Int32, x14 = x4_ + (vA w9 1701 b13 (x5_ : Int32).toNatClampNeg) → ∀ x15 : Int32, x15 = x5_ + 1 → wL_X7_sumKnown_6 z o K Kx n x15 x14 x1_ x2_ x3_ w9))))))
set_option maxHeartbeats 4000000 in
set_option maxRecDepth 100000 in
theorem kL_X7_sumKnown_6 {p : Program} {l : Launch} {e : Env} {s : State} {m : MethodId} {args : Array Value} {below : List Frame} {meth : Method} {c : Code} {G : Gt} {A : Nat → Prop} {z : Zt} (C : gC p s m args meth c cX7_sumKnown 6 RX7 wsX7_sumKnown (some .int) G A) (o : Nat) (ho : isO z 7 o) (K : Int32 → Vt → Prop) (Kx : Int32 → Int32 → Int32 → Int32 → Int32 → Vt → Prop) (kKx : ∀ (x5_ x4_ x1_ x2_ x3_ : Int32) (w : Vt) (H : Heap) (locs : List Loc) (ls : Array Slot), Kx x5_ x4_ x1_ x2_ x3_ w → hpH G.1 G.2.1 A s.heap z w H locs → lv_has ls 6 [(5, .int x5_), (4, .int x4_), (0, .ref o), (1, .int x1_), (2, .int x2_), (3, .int x3_)] → W p l e (headSpec wsX7_sumKnown rmX7_sumKnown).room s m args below meth c H locs 0 0 (MQ below (va_Qi K (gB G A z) A) args s 0 0 A) (F0 m 73 ls [])) : ∀ (n : Nat) (x5_ x4_ x1_ x2_ x3_ : Int32) (w : Vt) (H : Heap) (locs : List Loc) (ls : Array Slot), wL_X7_sumKnown_6 z o K Kx n x5_ x4_ x1_ x2_ x3_ w → hpH G.1 G.2.1 A s.heap z w H locs → lv_has ls 6 [(5, .int x5_), (4, .int x4_), (0, .ref o), (1, .int x1_), (2, .int x2_), (3, .int x3_)] → W p l e (headSpec wsX7_sumKnown rmX7_sumKnown).room s m args below meth c H locs 0 0 (MQ below (va_Qi K (gB G A z) A) args s 0 0 A) (F0 m 6 ls []) := by
  obtain ⟨hx, hb, hr, hlocks, hml, hown, hts, hK, hA, hE⟩ := id C
  intro n
  induction n with
  | zero =>
    intro x5_ x4_ x1_ x2_ x3_ w H locs ls hp
    exact hp.elim
  | succ n ih =>
    intro x5_ x4_ x1_ x2_ x3_ w H locs ls hp h hl
    refine lv_iload hx hb dX7_sumKnown_6 (lv_at hl 0 rfl) ?_
    refine lv_aload_n hx hb dX7_sumKnown_8 rfl (lv_at hl 2 rfl) ?_
    refine hp_get (ci := 7) (v := .int (vI w 705 o)) hx hb hts ix_X7_sumKnown_7 hown hK h ho (by decide) rfl 5 (by decide) (hts _ lk_X7_sumKnown_27) (fun _ h9 => h9) rfl dX7_sumKnown_9 ?_
    refine lv_icmp_ge (tgt := 73) hx hb dX7_sumKnown_12 (by decide) (fun hc1 => ?_) (fun hc1 => ?_)
    · have hp := hp.1 hc1
      exact kKx x5_ x4_ x1_ x2_ x3_ w _ _ _ hp h (lv_sub hl [0, 1, 2, 3, 4, 5] rfl)
    · have hp := hp.2 hc1
      refine lv_iload hx hb dX7_sumKnown_15 (lv_at hl 0 rfl) ?_
      refine lv_sipush (v := 200) hx hb dX7_sumKnown_17 (by decide) ?_
      refine lv_icmp_ge (tgt := 73) hx hb dX7_sumKnown_20 (by decide) (fun hc2 => ?_) (fun hc2 => ?_)
      · have hp := hp.1 hc2
        exact kKx x5_ x4_ x1_ x2_ x3_ w _ _ _ hp h (lv_sub hl [0, 1, 2, 3, 4, 5] rfl)
      · have hp := hp.2 hc2
        refine lv_aload_n hx hb dX7_sumKnown_23 rfl (lv_at hl 2 rfl) ?_
        obtain ⟨b3, eb3, hob3, hp⟩ := hp
        refine hp_get (ci := 7) (v := .ref b3) hx hb hts ix_X7_sumKnown_7 hown hK h ho (by decide) rfl 0 (by decide) (hts _ lk_X7_sumKnown_9) (fun _ h9 => h9) (by show some (va_rf (zR z 700 o)) = some (Value.ref b3); rw [eb3]; rfl) dX7_sumKnown_24 ?_
        refine lv_iload hx hb dX7_sumKnown_27 (lv_at hl 0 rfl) ?_
        refine hp_iald (t := 1700) (n := 200) hx hb hK h hob3 (by decide) (fun _ _ _ => rfl) hp.1 dX7_sumKnown_29 ?_
        have hp := hp.2
        refine lv_iload_n hx hb dX7_sumKnown_30 rfl (lv_at hl 3 rfl) ?_
        refine lv_icmp_ne (tgt := 67) hx hb dX7_sumKnown_31 (by decide) (fun hc4 => ?_) (fun hc4 => ?_)
        · have hp := hp.1 hc4
          obtain ⟨x5, ex5⟩ : ∃ y : Int32, y = x5_ + 1 := ⟨_, rfl⟩
          have hp := hp x5 ex5
          refine lv_iinc (v := x5) (lv' := [(5, .int x5), (4, .int x4_), (0, .ref o), (1, .int x1_), (2, .int x2_), (3, .int x3_)]) hx hb dX7_sumKnown_67 hl (k := 0) rfl (by rw [ex5]; rfl) (by decide) rfl (fun ls hl => ?_)
          refine lv_goto (tgt := 6) hx hb dX7_sumKnown_70 (by decide) ?_
          exact ih x5 x4_ x1_ x2_ x3_ w _ _ _ hp h (lv_sub hl [0, 1, 2, 3, 4, 5] rfl)
        · have hp := hp.2 hc4
          refine lv_aload_n hx hb dX7_sumKnown_34 rfl (lv_at hl 2 rfl) ?_
          obtain ⟨b6, eb6, hob6, hp⟩ := hp
          refine hp_get (ci := 7) (v := .ref b6) hx hb hts ix_X7_sumKnown_7 hown hK h ho (by decide) rfl 2 (by decide) (hts _ lk_X7_sumKnown_18) (fun _ h9 => h9) (by show some (va_rf (zR z 702 o)) = some (Value.ref b6); rw [eb6]; rfl) dX7_sumKnown_35 ?_
          refine lv_iload hx hb dX7_sumKnown_38 (lv_at hl 0 rfl) ?_
          refine hp_iald (t := 1702) (n := 200) hx hb hK h hob6 (by decide) (fun _ _ _ => rfl) hp.1 dX7_sumKnown_40 ?_
          have hp := hp.2
          refine lv_iload_n hx hb dX7_sumKnown_41 rfl (lv_at hl 4 rfl) ?_
          refine lv_icmp_gt (tgt := 67) hx hb dX7_sumKnown_42 (by decide) (fun hc7 => ?_) (fun hc7 => ?_)
          · have hp := hp.1 hc7
            obtain ⟨x8, ex8⟩ : ∃ y : Int32, y = x5_ + 1 := ⟨_, rfl⟩
            have hp := hp x8 ex8
            refine lv_iinc (v := x8) (lv' := [(5, .int x8), (4, .int x4_), (0, .ref o), (1, .int x1_), (2, .int x2_), (3, .int x3_)]) hx hb dX7_sumKnown_67 hl (k := 0) rfl (by rw [ex8]; rfl) (by decide) rfl (fun ls hl => ?_)
            refine lv_goto (tgt := 6) hx hb dX7_sumKnown_70 (by decide) ?_
            exact ih x8 x4_ x1_ x2_ x3_ w _ _ _ hp h (lv_sub hl [0, 1, 2, 3, 4, 5] rfl)
          · have hp := hp.2 hc7
            refine lv_aload_n hx hb dX7_sumKnown_45 rfl (lv_at hl 2 rfl) ?_
            refine lv_iload hx hb dX7_sumKnown_46 (lv_at hl 0 rfl) ?_
            refine lv_iload_n hx hb dX7_sumKnown_48 rfl (lv_at hl 5 rfl) ?_
            refine hp_cVi ⟨hx, hb, hml, hown, hts⟩ (k_X7_wasKnown l G z w _ o x5_ x3_ _ hp) (cwV 2 hts gX7_sumKnown_X7_wasKnown rfl rfl rfl (by decide +kernel) ⟨Nat.le_of_ble_eq_true rfl, Nat.le_of_ble_eq_true rfl⟩) ho (by decide) rfl hK h hA hE rfl hl.1 rfl (Nat.le_of_ble_eq_true rfl) dX7_sumKnown_49 ⟨Nat.le_of_ble_eq_true rfl, Nat.le_of_ble_eq_true rfl⟩ (fun r10 w9 H locs hp h => ?_)
            refine lv_if_eq (tgt := 67) hx hb dX7_sumKnown_52 (by decide) (fun hc11 => ?_) (fun hc11 => ?_)
            · have hp := hp.1 hc11
              obtain ⟨x12, ex12⟩ : ∃ y : Int32, y = x5_ + 1 := ⟨_, rfl⟩
              have hp := hp x12 ex12
              refine lv_iinc (v := x12) (lv' := [(5, .int x12), (4, .int x4_), (0, .ref o), (1, .int x1_), (2, .int x2_), (3, .int x3_)]) hx hb dX7_sumKnown_67 hl (k := 0) rfl (by rw [ex12]; rfl) (by decide) rfl (fun ls hl => ?_)
              refine lv_goto (tgt := 6) hx hb dX7_sumKnown_70 (by decide) ?_
              exact ih x12 x4_ x1_ x2_ x3_ w9 _ _ _ hp h (lv_sub hl [0, 1, 2, 3, 4, 5] rfl)
            · have hp := hp.2 hc11
              refine lv_iload hx hb dX7_sumKnown_55 (lv_at hl 1 rfl) ?_
              refine lv_aload_n hx hb dX7_sumKnown_57 rfl (lv_at hl 2 rfl) ?_
              obtain ⟨b13, eb13, hob13, hp⟩ := hp
              refine hp_get (ci := 7) (v := .ref b13) hx hb hts ix_X7_sumKnown_7 hown hK h ho (by decide) rfl 1 (by decide) (hts _ lk_X7_sumKnown_15) (fun _ h9 => h9) (by show some (va_rf (zR z 701 o)) = some (Value.ref b13); rw [eb13]; rfl) dX7_sumKnown_58 ?_
              refine lv_iload hx hb dX7_sumKnown_61 (lv_at hl 0 rfl) ?_
              refine hp_iald (t := 1701) (n := 200) hx hb hK h hob13 (by decide) (fun _ _ _ => rfl) hp.1 dX7_sumKnown_63 ?_
              have hp := hp.2
              refine lv_iadd hx hb dX7_sumKnown_64 ?_
              refine lv_topi (fun x14 ex14 => ?_)
              have hp := hp x14 ex14
              refine lv_istore (lv' := [(4, .int x14), (5, .int x5_), (0, .ref o), (1, .int x1_), (2, .int x2_), (3, .int x3_)]) hx hb dX7_sumKnown_65 hl (by decide) rfl (fun ls hl => ?_)
              obtain ⟨x15, ex15⟩ : ∃ y : Int32, y = x5_ + 1 := ⟨_, rfl⟩
              have hp := hp x15 ex15
              refine lv_iinc (v := x15) (lv' := [(5, .int x15), (4, .int x14), (0, .ref o), (1, .int x1_), (2, .int x2_), (3, .int x3_)]) hx hb dX7_sumKnown_67 hl (k := 1) rfl (by rw [ex15]; rfl) (by decide) rfl (fun ls hl => ?_)
              refine lv_goto (tgt := 6) hx hb dX7_sumKnown_70 (by decide) ?_
              exact ih x15 x14 x1_ x2_ x3_ w9 _ _ _ hp h (lv_sub hl [0, 1, 2, 3, 4, 5] rfl)
def wp_X7_sumKnown (z : Zt) (o : Nat) (p0 : Int32) (p1 : Int32) (p2 : Int32) (w : Vt) (K : Int32 → Vt → Prop) : Prop := isO z 7 o ∧ ∃ n16 : Nat, wL_X7_sumKnown_6 z o K (fun x17 x18 x19 x20 x21 w22 => K x18 w22) n16 0 0 p0 p1 p2 w
set_option maxHeartbeats 4000000 in
set_option maxRecDepth 100000 in
theorem k_X7_sumKnown (l : Launch) (G : Gt) (z : Zt) (w : Vt) (sz : Nat) (o : Nat) (p0 : Int32) (p1 : Int32) (p2 : Int32) (K : Int32 → Vt → Prop) (hp : wp_X7_sumKnown z o p0 p1 p2 w K) : MI l yX7_sumKnown wsX7_sumKnown rmX7_sumKnown G z w sz [.ref o, .int p0, .int p1, .int p2] K := by
  refine Met.ofW (cc := cX7_sumKnown) (maxL := 6) (ret := (some .int)) (by decide +kernel) rfl ?_
  intro p e s m args below meth c s₁ B hml hv
  obtain ⟨rfl, rfl, C, h⟩ := hp_start B hml hv
  generalize gA G z w s.heap.size = A at C h ⊢
  obtain ⟨hx, hb, hr, hlocks, hml, hown, hts, hK, hA, hE⟩ := id C
  obtain ⟨ho, hp⟩ := hp
  have hl := lv_entry ([.ref o, .int p0, .int p1, .int p2]) (n := 6) (Nat.le_of_ble_eq_true rfl)
  rw [lg_entry_eq]
  generalize (lg_sl ([.ref o, .int p0, .int p1, .int p2]) ++ List.replicate (6 - (lg_sl ([.ref o, .int p0, .int p1, .int p2])).length) Slot.unset).toArray = ls at hl ⊢
  have hl : lv_has ls 6 [(0, .ref o), (1, .int p0), (2, .int p1), (3, .int p2)] := hl
  refine lv_iconst (v := 0) hx hb dX7_sumKnown_0 (by decide) ?_
  refine lv_istore (lv' := [(4, .int 0), (0, .ref o), (1, .int p0), (2, .int p1), (3, .int p2)]) hx hb dX7_sumKnown_1 hl (by decide) rfl (fun ls hl => ?_)
  refine lv_iconst (v := 0) hx hb dX7_sumKnown_3 (by decide) ?_
  refine lv_istore (lv' := [(5, .int 0), (4, .int 0), (0, .ref o), (1, .int p0), (2, .int p1), (3, .int p2)]) hx hb dX7_sumKnown_4 hl (by decide) rfl (fun ls hl => ?_)
  obtain ⟨n16, hp⟩ := hp
  refine kL_X7_sumKnown_6 C o ho _ _ (fun x17 x18 x19 x20 x21 w22 H locs ls hp h hl => ?_) n16 0 0 p0 p1 p2 w _ _ _ hp h (lv_sub hl [0, 1, 2, 3, 4, 5] rfl)
  refine lv_iload hx hb dX7_sumKnown_73 (lv_at hl 1 rfl) ?_
  exact hp_iret hx hb hr rfl hlocks hK h hp dX7_sumKnown_75
abbrev rmX8_putNumber : Room := { frames := 0, cells := 0, slots := 0, locals := 0 }
theorem ix_X8_putNumber_8 : ∀ w ∈ wsX80, w ∈ wsX8_putNumber := by decide +kernel
theorem lk_X8_putNumber_15 : Cond.fieldLink RX8 15 "KelpShores$Tape" "length" "I" ∈ wsX8_putNumber := by decide +kernel
theorem lk_X8_putNumber_9 : Cond.fieldLink RX8 9 "KelpShores$Tape" "bytes" "[I" ∈ wsX8_putNumber := by decide +kernel
def wL_X8_putNumber_3 (z : Zt) (o : Nat) (K : Vt → Prop) (Kx : Int32 → Int32 → Vt → Prop) : Nat → Int32 → Int32 → Vt → Prop
  | 0, _, _, _ => False
  | n + 1, x2_, x1_, w => (x2_ < 0 → Kx x2_ x1_ w) ∧ (¬ x2_ < 0 → ∃ b2 : Nat, zR z 800 o = some b2 ∧ isO z 1800 b2 ∧ (400 ≤ (vI w 801 o) → Kx x2_ x1_ w) ∧ (¬ 400 ≤ (vI w 801 o) → vp_in (vI w 801 o) 400 ∧ ∀ w4 : Vt, w4 = uA w 1800 b2 (vI w 801 o : Int32).toNatClampNeg ((((x1_ : Int32).toUInt32 >>> ((x2_ : Int32).toUInt32 &&& Int32.toUInt32 31)).toInt32) &&& 255) → ∀ w5 : Vt, w5 = uI w4 801 o ((vI w4 801 o) + 1) → ∀ x6 : Int32, x6 = x2_ + (-8) → wL_X8_putNumber_3 z o K Kx n x6 x1_ w5))
set_option maxHeartbeats 4000000 in
set_option maxRecDepth 100000 in
theorem kL_X8_putNumber_3 {p : Program} {l : Launch} {e : Env} {s : State} {m : MethodId} {args : Array Value} {below : List Frame} {meth : Method} {c : Code} {G : Gt} {A : Nat → Prop} {z : Zt} (C : gC p s m args meth c cX8_putNumber 3 RX8 wsX8_putNumber none G A) (o : Nat) (ho : isO z 8 o) (K : Vt → Prop) (Kx : Int32 → Int32 → Vt → Prop) (kKx : ∀ (x2_ x1_ : Int32) (w : Vt) (H : Heap) (locs : List Loc) (ls : Array Slot), Kx x2_ x1_ w → hpH G.1 G.2.1 A s.heap z w H locs → lv_has ls 3 [(2, .int x2_), (0, .ref o), (1, .int x1_)] → W p l e (headSpec wsX8_putNumber rmX8_putNumber).room s m args below meth c H locs 0 0 (MQ below (va_Qv K (gB G A z) A) args s 0 0 A) (F0 m 51 ls [])) : ∀ (n : Nat) (x2_ x1_ : Int32) (w : Vt) (H : Heap) (locs : List Loc) (ls : Array Slot), wL_X8_putNumber_3 z o K Kx n x2_ x1_ w → hpH G.1 G.2.1 A s.heap z w H locs → lv_has ls 3 [(2, .int x2_), (0, .ref o), (1, .int x1_)] → W p l e (headSpec wsX8_putNumber rmX8_putNumber).room s m args below meth c H locs 0 0 (MQ below (va_Qv K (gB G A z) A) args s 0 0 A) (F0 m 3 ls []) := by
  obtain ⟨hx, hb, hr, hlocks, hml, hown, hts, hK, hA, hE⟩ := id C
  intro n
  induction n with
  | zero =>
    intro x2_ x1_ w H locs ls hp
    exact hp.elim
  | succ n ih =>
    intro x2_ x1_ w H locs ls hp h hl
    refine lv_iload_n hx hb dX8_putNumber_3 rfl (lv_at hl 0 rfl) ?_
    refine lv_if_lt (tgt := 51) hx hb dX8_putNumber_4 (by decide) (fun hc1 => ?_) (fun hc1 => ?_)
    · have hp := hp.1 hc1
      exact kKx x2_ x1_ w _ _ _ hp h (lv_sub hl [0, 1, 2] rfl)
    · have hp := hp.2 hc1
      refine lv_aload_n hx hb dX8_putNumber_7 rfl (lv_at hl 1 rfl) ?_
      refine hp_get (ci := 8) (v := .int (vI w 801 o)) hx hb hts ix_X8_putNumber_8 hown hK h ho (by decide) rfl 1 (by decide) (hts _ lk_X8_putNumber_15) (fun _ h9 => h9) rfl dX8_putNumber_8 ?_
      refine lv_aload_n hx hb dX8_putNumber_11 rfl (lv_at hl 1 rfl) ?_
      obtain ⟨b2, eb2, hob2, hp⟩ := hp
      refine hp_get (ci := 8) (v := .ref b2) hx hb hts ix_X8_putNumber_8 hown hK h ho (by decide) rfl 0 (by decide) (hts _ lk_X8_putNumber_9) (fun _ h9 => h9) (by show some (va_rf (zR z 800 o)) = some (Value.ref b2); rw [eb2]; rfl) dX8_putNumber_12 ?_
      refine hp_alen (t := 1800) (n := 400) hx hb hK h 1 rfl hob2 (by decide) (fun _ _ _ => ⟨_, rfl, rfl⟩) (v := 400) (by decide) dX8_putNumber_15 ?_
      refine lv_icmp_ge (tgt := 51) hx hb dX8_putNumber_16 (by decide) (fun hc3 => ?_) (fun hc3 => ?_)
      · have hp := hp.1 hc3
        exact kKx x2_ x1_ w _ _ _ hp h (lv_sub hl [0, 1, 2] rfl)
      · have hp := hp.2 hc3
        refine lv_aload_n hx hb dX8_putNumber_19 rfl (lv_at hl 1 rfl) ?_
        refine hp_get (ci := 8) (v := .ref b2) hx hb hts ix_X8_putNumber_8 hown hK h ho (by decide) rfl 0 (by decide) (hts _ lk_X8_putNumber_9) (fun _ h9 => h9) (by show some (va_rf (zR z 800 o)) = some (Value.ref b2); rw [eb2]; rfl) dX8_putNumber_20 ?_
        refine lv_aload_n hx hb dX8_putNumber_23 rfl (lv_at hl 1 rfl) ?_
        refine hp_get (ci := 8) (v := .int (vI w 801 o)) hx hb hts ix_X8_putNumber_8 hown hK h ho (by decide) rfl 1 (by decide) (hts _ lk_X8_putNumber_15) (fun _ h9 => h9) rfl dX8_putNumber_24 ?_
        refine lv_iload_n hx hb dX8_putNumber_27 rfl (lv_at hl 2 rfl) ?_
        refine lv_iload_n hx hb dX8_putNumber_28 rfl (lv_at hl 0 rfl) ?_
        refine lv_iushr hx hb dX8_putNumber_29 rfl ?_
        refine lv_sipush (v := 255) hx hb dX8_putNumber_30 (by decide) ?_
        refine lv_iand hx hb dX8_putNumber_33 ?_
        refine hp_iast (t := 1800) (n := 400) hx hb hK h hob2 (by decide) (fun _ _ _ => rfl) hp.1 dX8_putNumber_34 (fun H locs w4 ew4 h => ?_)
        have hp := hp.2 w4 ew4
        refine lv_aload_n hx hb dX8_putNumber_35 rfl (lv_at hl 1 rfl) ?_
        refine lv_dup hx hb dX8_putNumber_36 rfl ?_
        refine hp_get (ci := 8) (v := .int (vI w4 801 o)) hx hb hts ix_X8_putNumber_8 hown hK h ho (by decide) rfl 1 (by decide) (hts _ lk_X8_putNumber_15) (fun _ h9 => h9) rfl dX8_putNumber_37 ?_
        refine lv_iconst (v := 1) hx hb dX8_putNumber_40 (by decide) ?_
        refine lv_iadd hx hb dX8_putNumber_41 ?_
        refine hp_puti (ci := 8) (ty := .int) (x := (vI w4 801 o) + 1) hx hb hts ix_X8_putNumber_8 tyX8 tyX8_ok nmX8 hown hK h ho (by decide) rfl 1 801 (by decide) (hts _ lk_X8_putNumber_15) (fun _ h9 => h9) rfl (by decide +kernel) rfl rfl (fun _ _ => rfl) (fun _ _ => Nat.le_of_ble_eq_true rfl) dX8_putNumber_42 (fun H locs w5 ew5 h => ?_)
        have hp := hp w5 ew5
        obtain ⟨x6, ex6⟩ : ∃ y : Int32, y = x2_ + (-8) := ⟨_, rfl⟩
        have hp := hp x6 ex6
        refine lv_iinc (v := x6) (lv' := [(2, .int x6), (0, .ref o), (1, .int x1_)]) hx hb dX8_putNumber_45 hl (k := 0) rfl (by rw [ex6]; rfl) (by decide) rfl (fun ls hl => ?_)
        refine lv_goto (tgt := 3) hx hb dX8_putNumber_48 (by decide) ?_
        exact ih x6 x1_ w5 _ _ _ hp h (lv_sub hl [0, 1, 2] rfl)
def wp_X8_putNumber (z : Zt) (o : Nat) (p0 : Int32) (w : Vt) (K : Vt → Prop) : Prop := isO z 8 o ∧ ∃ n7 : Nat, wL_X8_putNumber_3 z o K (fun x8 x9 w10 => K w10) n7 24 p0 w
set_option maxHeartbeats 4000000 in
set_option maxRecDepth 100000 in
theorem k_X8_putNumber (l : Launch) (G : Gt) (z : Zt) (w : Vt) (sz : Nat) (o : Nat) (p0 : Int32) (K : Vt → Prop) (hp : wp_X8_putNumber z o p0 w K) : MV l yX8_putNumber wsX8_putNumber rmX8_putNumber G z w sz [.ref o, .int p0] K := by
  refine Met.ofW (cc := cX8_putNumber) (maxL := 3) (ret := none) (by decide +kernel) rfl ?_
  intro p e s m args below meth c s₁ B hml hv
  obtain ⟨rfl, rfl, C, h⟩ := hp_start B hml hv
  generalize gA G z w s.heap.size = A at C h ⊢
  obtain ⟨hx, hb, hr, hlocks, hml, hown, hts, hK, hA, hE⟩ := id C
  obtain ⟨ho, hp⟩ := hp
  have hl := lv_entry ([.ref o, .int p0]) (n := 3) (Nat.le_of_ble_eq_true rfl)
  rw [lg_entry_eq]
  generalize (lg_sl ([.ref o, .int p0]) ++ List.replicate (3 - (lg_sl ([.ref o, .int p0])).length) Slot.unset).toArray = ls at hl ⊢
  have hl : lv_has ls 3 [(0, .ref o), (1, .int p0)] := hl
  refine lv_bipush (v := 24) hx hb dX8_putNumber_0 (by decide) ?_
  refine lv_istore_n (lv' := [(2, .int 24), (0, .ref o), (1, .int p0)]) hx hb dX8_putNumber_2 rfl hl (by decide) rfl (fun ls hl => ?_)
  obtain ⟨n7, hp⟩ := hp
  refine kL_X8_putNumber_3 C o ho _ _ (fun x8 x9 w10 H locs ls hp h hl => ?_) n7 24 p0 w _ _ _ hp h (lv_sub hl [0, 1, 2] rfl)
  exact hp_vret hx hb hr hlocks hK h hp dX8_putNumber_51
abbrev rmX8_byteAt : Room := { frames := 0, cells := 0, slots := 0, locals := 0 }
theorem ix_X8_byteAt_8 : ∀ w ∈ wsX80, w ∈ wsX8_byteAt := by decide +kernel
theorem lk_X8_byteAt_15 : Cond.fieldLink RX8 15 "KelpShores$Tape" "length" "I" ∈ wsX8_byteAt := by decide +kernel
theorem lk_X8_byteAt_9 : Cond.fieldLink RX8 9 "KelpShores$Tape" "bytes" "[I" ∈ wsX8_byteAt := by decide +kernel
def wp_X8_byteAt (z : Zt) (o : Nat) (p0 : Int32) (w : Vt) (K : Int32 → Vt → Prop) : Prop := isO z 8 o ∧ (p0 < 0 → K (-1) w) ∧ (¬ p0 < 0 → ((vI w 801 o) ≤ p0 → K (-1) w) ∧ (¬ (vI w 801 o) ≤ p0 → ∃ b3 : Nat, zR z 800 o = some b3 ∧ isO z 1800 b3 ∧ (p0 < 400 → vp_in p0 400 ∧ K (vA w 1800 b3 (p0 : Int32).toNatClampNeg) w) ∧ (¬ p0 < 400 → K (-1) w)))
set_option maxHeartbeats 4000000 in
set_option maxRecDepth 100000 in
theorem k_X8_byteAt (l : Launch) (G : Gt) (z : Zt) (w : Vt) (sz : Nat) (o : Nat) (p0 : Int32) (K : Int32 → Vt → Prop) (hp : wp_X8_byteAt z o p0 w K) : MI l yX8_byteAt wsX8_byteAt rmX8_byteAt G z w sz [.ref o, .int p0] K := by
  refine Met.ofW (cc := cX8_byteAt) (maxL := 2) (ret := (some .int)) (by decide +kernel) rfl ?_
  intro p e s m args below meth c s₁ B hml hv
  obtain ⟨rfl, rfl, C, h⟩ := hp_start B hml hv
  generalize gA G z w s.heap.size = A at C h ⊢
  obtain ⟨hx, hb, hr, hlocks, hml, hown, hts, hK, hA, hE⟩ := id C
  obtain ⟨ho, hp⟩ := hp
  have hl := lv_entry ([.ref o, .int p0]) (n := 2) (Nat.le_of_ble_eq_true rfl)
  rw [lg_entry_eq]
  generalize (lg_sl ([.ref o, .int p0]) ++ List.replicate (2 - (lg_sl ([.ref o, .int p0])).length) Slot.unset).toArray = ls at hl ⊢
  have hl : lv_has ls 2 [(0, .ref o), (1, .int p0)] := hl
  refine lv_iload_n hx hb dX8_byteAt_0 rfl (lv_at hl 1 rfl) ?_
  refine lv_if_lt (tgt := 21) hx hb dX8_byteAt_1 (by decide) (fun hc1 => ?_) (fun hc1 => ?_)
  · have hp := hp.1 hc1
    refine lv_iconst (v := (-1)) hx hb dX8_byteAt_21 (by decide) ?_
    refine lv_goto (tgt := 31) hx hb dX8_byteAt_22 (by decide) ?_
    exact hp_iret hx hb hr rfl hlocks hK h hp dX8_byteAt_31
  · have hp := hp.2 hc1
    refine lv_iload_n hx hb dX8_byteAt_4 rfl (lv_at hl 1 rfl) ?_
    refine lv_aload_n hx hb dX8_byteAt_5 rfl (lv_at hl 0 rfl) ?_
    refine hp_get (ci := 8) (v := .int (vI w 801 o)) hx hb hts ix_X8_byteAt_8 hown hK h ho (by decide) rfl 1 (by decide) (hts _ lk_X8_byteAt_15) (fun _ h9 => h9) rfl dX8_byteAt_6 ?_
    refine lv_icmp_ge (tgt := 21) hx hb dX8_byteAt_9 (by decide) (fun hc2 => ?_) (fun hc2 => ?_)
    · have hp := hp.1 hc2
      refine lv_iconst (v := (-1)) hx hb dX8_byteAt_21 (by decide) ?_
      refine lv_goto (tgt := 31) hx hb dX8_byteAt_22 (by decide) ?_
      exact hp_iret hx hb hr rfl hlocks hK h hp dX8_byteAt_31
    · have hp := hp.2 hc2
      refine lv_iload_n hx hb dX8_byteAt_12 rfl (lv_at hl 1 rfl) ?_
      refine lv_aload_n hx hb dX8_byteAt_13 rfl (lv_at hl 0 rfl) ?_
      obtain ⟨b3, eb3, hob3, hp⟩ := hp
      refine hp_get (ci := 8) (v := .ref b3) hx hb hts ix_X8_byteAt_8 hown hK h ho (by decide) rfl 0 (by decide) (hts _ lk_X8_byteAt_9) (fun _ h9 => h9) (by show some (va_rf (zR z 800 o)) = some (Value.ref b3); rw [eb3]; rfl) dX8_byteAt_14 ?_
      refine hp_alen (t := 1800) (n := 400) hx hb hK h 1 rfl hob3 (by decide) (fun _ _ _ => ⟨_, rfl, rfl⟩) (v := 400) (by decide) dX8_byteAt_17 ?_
      refine lv_icmp_lt (tgt := 25) hx hb dX8_byteAt_18 (by decide) (fun hc4 => ?_) (fun hc4 => ?_)
      · have hp := hp.1 hc4
        refine lv_aload_n hx hb dX8_byteAt_25 rfl (lv_at hl 0 rfl) ?_
        refine hp_get (ci := 8) (v := .ref b3) hx hb hts ix_X8_byteAt_8 hown hK h ho (by decide) rfl 0 (by decide) (hts _ lk_X8_byteAt_9) (fun _ h9 => h9) (by show some (va_rf (zR z 800 o)) = some (Value.ref b3); rw [eb3]; rfl) dX8_byteAt_26 ?_
        refine lv_iload_n hx hb dX8_byteAt_29 rfl (lv_at hl 1 rfl) ?_
        refine hp_iald (t := 1800) (n := 400) hx hb hK h hob3 (by decide) (fun _ _ _ => rfl) hp.1 dX8_byteAt_30 ?_
        have hp := hp.2
        exact hp_iret hx hb hr rfl hlocks hK h hp dX8_byteAt_31
      · have hp := hp.2 hc4
        refine lv_iconst (v := (-1)) hx hb dX8_byteAt_21 (by decide) ?_
        refine lv_goto (tgt := 31) hx hb dX8_byteAt_22 (by decide) ?_
        exact hp_iret hx hb hr rfl hlocks hK h hp dX8_byteAt_31
abbrev rmX8_skipBlanks : Room := { frames := 1, cells := 0, slots := 0, locals := 21 }
theorem ix_X8_skipBlanks_8 : ∀ w ∈ wsX80, w ∈ wsX8_skipBlanks := by decide +kernel
theorem lk_X8_skipBlanks_24 : Cond.fieldLink RX8 24 "KelpShores$Tape" "at" "I" ∈ wsX8_skipBlanks := by decide +kernel
theorem lk_X8_skipBlanks_15 : Cond.fieldLink RX8 15 "KelpShores$Tape" "length" "I" ∈ wsX8_skipBlanks := by decide +kernel
def wL_X8_skipBlanks_0 (z : Zt) (o : Nat) (K : Vt → Prop) (Kx : Vt → Prop) : Nat → Vt → Prop
  | 0, _ => False
  | n + 1, w => ((vI w 801 o) ≤ (vI w 802 o) → Kx w) ∧ (¬ (vI w 801 o) ≤ (vI w 802 o) → wp_X8_byteAt z o (vI w 802 o) w (fun r3 w2 => (¬ r3 = 32 → Kx w2) ∧ (r3 = 32 → ∀ w5 : Vt, w5 = uI w2 802 o ((vI w2 802 o) + 1) → wL_X8_skipBlanks_0 z o K Kx n w5)))
set_option maxHeartbeats 4000000 in
set_option maxRecDepth 100000 in
theorem kL_X8_skipBlanks_0 {p : Program} {l : Launch} {e : Env} {s : State} {m : MethodId} {args : Array Value} {below : List Frame} {meth : Method} {c : Code} {G : Gt} {A : Nat → Prop} {z : Zt} (C : gC p s m args meth c cX8_skipBlanks 1 RX8 wsX8_skipBlanks none G A) (o : Nat) (ho : isO z 8 o) (K : Vt → Prop) (Kx : Vt → Prop) (kKx : ∀ (w : Vt) (H : Heap) (locs : List Loc) (ls : Array Slot), Kx  w → hpH G.1 G.2.1 A s.heap z w H locs → lv_has ls 1 [(0, .ref o)] → W p l e (headSpec wsX8_skipBlanks rmX8_skipBlanks).room s m args below meth c H locs 0 0 (MQ below (va_Qv K (gB G A z) A) args s 0 0 A) (F0 m 37 ls [])) : ∀ (n : Nat) (w : Vt) (H : Heap) (locs : List Loc) (ls : Array Slot), wL_X8_skipBlanks_0 z o K Kx n w → hpH G.1 G.2.1 A s.heap z w H locs → lv_has ls 1 [(0, .ref o)] → W p l e (headSpec wsX8_skipBlanks rmX8_skipBlanks).room s m args below meth c H locs 0 0 (MQ below (va_Qv K (gB G A z) A) args s 0 0 A) (F0 m 0 ls []) := by
  obtain ⟨hx, hb, hr, hlocks, hml, hown, hts, hK, hA, hE⟩ := id C
  intro n
  induction n with
  | zero =>
    intro w H locs ls hp
    exact hp.elim
  | succ n ih =>
    intro w H locs ls hp h hl
    refine lv_aload_n hx hb dX8_skipBlanks_0 rfl (lv_at hl 0 rfl) ?_
    refine hp_get (ci := 8) (v := .int (vI w 802 o)) hx hb hts ix_X8_skipBlanks_8 hown hK h ho (by decide) rfl 2 (by decide) (hts _ lk_X8_skipBlanks_24) (fun _ h9 => h9) rfl dX8_skipBlanks_1 ?_
    refine lv_aload_n hx hb dX8_skipBlanks_4 rfl (lv_at hl 0 rfl) ?_
    refine hp_get (ci := 8) (v := .int (vI w 801 o)) hx hb hts ix_X8_skipBlanks_8 hown hK h ho (by decide) rfl 1 (by decide) (hts _ lk_X8_skipBlanks_15) (fun _ h9 => h9) rfl dX8_skipBlanks_5 ?_
    refine lv_icmp_ge (tgt := 37) hx hb dX8_skipBlanks_8 (by decide) (fun hc1 => ?_) (fun hc1 => ?_)
    · have hp := hp.1 hc1
      exact kKx w _ _ _ hp h (lv_sub hl [0] rfl)
    · have hp := hp.2 hc1
      refine lv_aload_n hx hb dX8_skipBlanks_11 rfl (lv_at hl 0 rfl) ?_
      refine lv_aload_n hx hb dX8_skipBlanks_12 rfl (lv_at hl 0 rfl) ?_
      refine hp_get (ci := 8) (v := .int (vI w 802 o)) hx hb hts ix_X8_skipBlanks_8 hown hK h ho (by decide) rfl 2 (by decide) (hts _ lk_X8_skipBlanks_24) (fun _ h9 => h9) rfl dX8_skipBlanks_13 ?_
      refine hp_cVi ⟨hx, hb, hml, hown, hts⟩ (k_X8_byteAt l G z w _ o (vI w 802 o) _ hp) (cwV 1 hts gX8_skipBlanks_X8_byteAt rfl rfl rfl (by decide +kernel) ⟨Nat.le_of_ble_eq_true rfl, Nat.le_of_ble_eq_true rfl⟩) ho (by decide) rfl hK h hA hE rfl hl.1 rfl (Nat.le_of_ble_eq_true rfl) dX8_skipBlanks_16 ⟨Nat.le_of_ble_eq_true rfl, Nat.le_of_ble_eq_true rfl⟩ (fun r3 w2 H locs hp h => ?_)
      refine lv_bipush (v := 32) hx hb dX8_skipBlanks_19 (by decide) ?_
      refine lv_icmp_ne (tgt := 37) hx hb dX8_skipBlanks_21 (by decide) (fun hc4 => ?_) (fun hc4 => ?_)
      · have hp := hp.1 hc4
        exact kKx w2 _ _ _ hp h (lv_sub hl [0] rfl)
      · have hp := hp.2 hc4
        refine lv_aload_n hx hb dX8_skipBlanks_24 rfl (lv_at hl 0 rfl) ?_
        refine lv_dup hx hb dX8_skipBlanks_25 rfl ?_
        refine hp_get (ci := 8) (v := .int (vI w2 802 o)) hx hb hts ix_X8_skipBlanks_8 hown hK h ho (by decide) rfl 2 (by decide) (hts _ lk_X8_skipBlanks_24) (fun _ h9 => h9) rfl dX8_skipBlanks_26 ?_
        refine lv_iconst (v := 1) hx hb dX8_skipBlanks_29 (by decide) ?_
        refine lv_iadd hx hb dX8_skipBlanks_30 ?_
        refine hp_puti (ci := 8) (ty := .int) (x := (vI w2 802 o) + 1) hx hb hts ix_X8_skipBlanks_8 tyX8 tyX8_ok nmX8 hown hK h ho (by decide) rfl 2 802 (by decide) (hts _ lk_X8_skipBlanks_24) (fun _ h9 => h9) rfl (by decide +kernel) rfl rfl (fun _ _ => rfl) (fun _ _ => Nat.le_of_ble_eq_true rfl) dX8_skipBlanks_31 (fun H locs w5 ew5 h => ?_)
        have hp := hp w5 ew5
        refine lv_goto (tgt := 0) hx hb dX8_skipBlanks_34 (by decide) ?_
        exact ih w5 _ _ _ hp h (lv_sub hl [0] rfl)
def wp_X8_skipBlanks (z : Zt) (o : Nat) (w : Vt) (K : Vt → Prop) : Prop := isO z 8 o ∧ ∃ n6 : Nat, wL_X8_skipBlanks_0 z o K (fun  w7 => K w7) n6 w
set_option maxHeartbeats 4000000 in
set_option maxRecDepth 100000 in
theorem k_X8_skipBlanks (l : Launch) (G : Gt) (z : Zt) (w : Vt) (sz : Nat) (o : Nat) (K : Vt → Prop) (hp : wp_X8_skipBlanks z o w K) : MV l yX8_skipBlanks wsX8_skipBlanks rmX8_skipBlanks G z w sz [.ref o] K := by
  refine Met.ofW (cc := cX8_skipBlanks) (maxL := 1) (ret := none) (by decide +kernel) rfl ?_
  intro p e s m args below meth c s₁ B hml hv
  obtain ⟨rfl, rfl, C, h⟩ := hp_start B hml hv
  generalize gA G z w s.heap.size = A at C h ⊢
  obtain ⟨hx, hb, hr, hlocks, hml, hown, hts, hK, hA, hE⟩ := id C
  obtain ⟨ho, hp⟩ := hp
  have hl := lv_entry ([.ref o]) (n := 1) (Nat.le_of_ble_eq_true rfl)
  rw [lg_entry_eq]
  generalize (lg_sl ([.ref o]) ++ List.replicate (1 - (lg_sl ([.ref o])).length) Slot.unset).toArray = ls at hl ⊢
  have hl : lv_has ls 1 [(0, .ref o)] := hl
  obtain ⟨n6, hp⟩ := hp
  refine kL_X8_skipBlanks_0 C o ho _ _ (fun  w7 H locs ls hp h hl => ?_) n6  w _ _ _ hp h (lv_sub hl [0] rfl)
  exact hp_vret hx hb hr hlocks hK h hp dX8_skipBlanks_37
abbrev rmX8_takenNumber : Room := { frames := 2, cells := 0, slots := 0, locals := 41 }
theorem ix_X8_takenNumber_8 : ∀ w ∈ wsX80, w ∈ wsX8_takenNumber := by decide +kernel
theorem lk_X8_takenNumber_24 : Cond.fieldLink RX8 24 "KelpShores$Tape" "at" "I" ∈ wsX8_takenNumber := by decide +kernel
theorem ln_X8_takenNumber_80 {G : Gt} {A : Nat → Prop} {s : State} (hE : gE G A s s.heap) : va_Nw (Cond.methodLinkNest RX8 80 yX9_isWithin "KelpShores") s := hE.2.1 (RX8, 80, yX9_isWithin) (List.mem_of_getElem? (i := 6) rfl)
theorem wd_X8_takenNumber_iX9 : Cond.initialized RX9 ∈ wsX8_takenNumber := by decide +kernel
theorem wd_X8_takenNumber_tX9_isWithin : Cond.static yX9_isWithin ∈ wsX8_takenNumber := by decide +kernel
def wL_X8_takenNumber_9 (z : Zt) (o : Nat) (K : Int32 → Vt → Prop) (Kx : Int32 → Int32 → Int32 → Int32 → Vt → Prop) : Nat → Int32 → Int32 → Int32 → Int32 → Vt → Prop
  | 0, _, _, _, _, _ => False
  | n + 1, x4_, x3_, x1_, x2_, w => (4 ≤ x3_ → Kx x4_ x3_ x1_ x2_ w) ∧ (¬ 4 ≤ x3_ → wp_X8_byteAt z o ((vI w 802 o) + x3_) w (fun r5 w4 => wp_X9_isWithin z r5 48 57 w4 (fun r7 w6 => (r7 = 0 → Kx x4_ x3_ x1_ x2_ w6) ∧ (¬ r7 = 0 → wp_X8_byteAt z o ((vI w6 802 o) + x3_) w6 (fun r10 w9 => ∀ x11 : Int32, x11 = ((x4_ * 10) + r10) - 48 → ∀ x12 : Int32, x12 = x3_ + 1 → wL_X8_takenNumber_9 z o K Kx n x11 x12 x1_ x2_ w9)))))
set_option maxHeartbeats 4000000 in
set_option maxRecDepth 100000 in
theorem kL_X8_takenNumber_9 {p : Program} {l : Launch} {e : Env} {s : State} {m : MethodId} {args : Array Value} {below : List Frame} {meth : Method} {c : Code} {G : Gt} {A : Nat → Prop} {z : Zt} (C : gC p s m args meth c cX8_takenNumber 5 RX8 wsX8_takenNumber (some .int) G A) (o : Nat) (ho : isO z 8 o) (K : Int32 → Vt → Prop) (Kx : Int32 → Int32 → Int32 → Int32 → Vt → Prop) (kKx : ∀ (x4_ x3_ x1_ x2_ : Int32) (w : Vt) (H : Heap) (locs : List Loc) (ls : Array Slot), Kx x4_ x3_ x1_ x2_ w → hpH G.1 G.2.1 A s.heap z w H locs → lv_has ls 5 [(4, .int x4_), (3, .int x3_), (0, .ref o), (1, .int x1_), (2, .int x2_)] → W p l e (headSpec wsX8_takenNumber rmX8_takenNumber).room s m args below meth c H locs 0 0 (MQ below (va_Qi K (gB G A z) A) args s 0 0 A) (F0 m 61 ls [])) : ∀ (n : Nat) (x4_ x3_ x1_ x2_ : Int32) (w : Vt) (H : Heap) (locs : List Loc) (ls : Array Slot), wL_X8_takenNumber_9 z o K Kx n x4_ x3_ x1_ x2_ w → hpH G.1 G.2.1 A s.heap z w H locs → lv_has ls 5 [(4, .int x4_), (3, .int x3_), (0, .ref o), (1, .int x1_), (2, .int x2_)] → W p l e (headSpec wsX8_takenNumber rmX8_takenNumber).room s m args below meth c H locs 0 0 (MQ below (va_Qi K (gB G A z) A) args s 0 0 A) (F0 m 9 ls []) := by
  obtain ⟨hx, hb, hr, hlocks, hml, hown, hts, hK, hA, hE⟩ := id C
  intro n
  induction n with
  | zero =>
    intro x4_ x3_ x1_ x2_ w H locs ls hp
    exact hp.elim
  | succ n ih =>
    intro x4_ x3_ x1_ x2_ w H locs ls hp h hl
    refine lv_iload_n hx hb dX8_takenNumber_9 rfl (lv_at hl 1 rfl) ?_
    refine lv_iconst (v := 4) hx hb dX8_takenNumber_10 (by decide) ?_
    refine lv_icmp_ge (tgt := 61) hx hb dX8_takenNumber_11 (by decide) (fun hc3 => ?_) (fun hc3 => ?_)
    · have hp := hp.1 hc3
      exact kKx x4_ x3_ x1_ x2_ w _ _ _ hp h (lv_sub hl [0, 1, 2, 3, 4] rfl)
    · have hp := hp.2 hc3
      refine lv_aload_n hx hb dX8_takenNumber_14 rfl (lv_at hl 2 rfl) ?_
      refine lv_aload_n hx hb dX8_takenNumber_15 rfl (lv_at hl 2 rfl) ?_
      refine hp_get (ci := 8) (v := .int (vI w 802 o)) hx hb hts ix_X8_takenNumber_8 hown hK h ho (by decide) rfl 2 (by decide) (hts _ lk_X8_takenNumber_24) (fun _ h9 => h9) rfl dX8_takenNumber_16 ?_
      refine lv_iload_n hx hb dX8_takenNumber_19 rfl (lv_at hl 1 rfl) ?_
      refine lv_iadd hx hb dX8_takenNumber_20 ?_
      refine hp_cVi ⟨hx, hb, hml, hown, hts⟩ (k_X8_byteAt l G z w _ o ((vI w 802 o) + x3_) _ hp) (cwV 1 hts gX8_takenNumber_X8_byteAt rfl rfl rfl (by decide +kernel) ⟨Nat.le_of_ble_eq_true rfl, Nat.le_of_ble_eq_true rfl⟩) ho (by decide) rfl hK h hA hE rfl hl.1 rfl (Nat.le_of_ble_eq_true rfl) dX8_takenNumber_21 ⟨Nat.le_of_ble_eq_true rfl, Nat.le_of_ble_eq_true rfl⟩ (fun r5 w4 H locs hp h => ?_)
      refine lv_bipush (v := 48) hx hb dX8_takenNumber_24 (by decide) ?_
      refine lv_bipush (v := 57) hx hb dX8_takenNumber_26 (by decide) ?_
      refine hp_cSNi ⟨hx, hb, hml, hown, hts⟩ (k_X9_isWithin l G z w4 _ r5 48 57 _ hp) ⟨va_cnB 3 hts gX8_takenNumber_X9_isWithin_n80 rfl rfl rfl (ln_X8_takenNumber_80 hE) (hts _ wd_X8_takenNumber_iX9) (by decide +kernel) ⟨Nat.le_of_ble_eq_true rfl, Nat.le_of_ble_eq_true rfl⟩, (hts _ wd_X8_takenNumber_tX9_isWithin), trivial⟩ hK h hA hE rfl hl.1 rfl (Nat.le_of_ble_eq_true rfl) dX8_takenNumber_28 ⟨Nat.le_of_ble_eq_true rfl, Nat.le_of_ble_eq_true rfl⟩ (fun r7 w6 H locs hp h => ?_)
      refine lv_if_eq (tgt := 61) hx hb dX8_takenNumber_31 (by decide) (fun hc8 => ?_) (fun hc8 => ?_)
      · have hp := hp.1 hc8
        exact kKx x4_ x3_ x1_ x2_ w6 _ _ _ hp h (lv_sub hl [0, 1, 2, 3, 4] rfl)
      · have hp := hp.2 hc8
        refine lv_iload hx hb dX8_takenNumber_34 (lv_at hl 0 rfl) ?_
        refine lv_bipush (v := 10) hx hb dX8_takenNumber_36 (by decide) ?_
        refine lv_imul hx hb dX8_takenNumber_38 ?_
        refine lv_aload_n hx hb dX8_takenNumber_39 rfl (lv_at hl 2 rfl) ?_
        refine lv_aload_n hx hb dX8_takenNumber_40 rfl (lv_at hl 2 rfl) ?_
        refine hp_get (ci := 8) (v := .int (vI w6 802 o)) hx hb hts ix_X8_takenNumber_8 hown hK h ho (by decide) rfl 2 (by decide) (hts _ lk_X8_takenNumber_24) (fun _ h9 => h9) rfl dX8_takenNumber_41 ?_
        refine lv_iload_n hx hb dX8_takenNumber_44 rfl (lv_at hl 1 rfl) ?_
        refine lv_iadd hx hb dX8_takenNumber_45 ?_
        refine hp_cVi ⟨hx, hb, hml, hown, hts⟩ (k_X8_byteAt l G z w6 _ o ((vI w6 802 o) + x3_) _ hp) (cwV 1 hts gX8_takenNumber_X8_byteAt rfl rfl rfl (by decide +kernel) ⟨Nat.le_of_ble_eq_true rfl, Nat.le_of_ble_eq_true rfl⟩) ho (by decide) rfl hK h hA hE rfl hl.1 rfl (Nat.le_of_ble_eq_true rfl) dX8_takenNumber_46 ⟨Nat.le_of_ble_eq_true rfl, Nat.le_of_ble_eq_true rfl⟩ (fun r10 w9 H locs hp h => ?_)
        refine lv_iadd hx hb dX8_takenNumber_49 ?_
        refine lv_bipush (v := 48) hx hb dX8_takenNumber_50 (by decide) ?_
        refine lv_isub hx hb dX8_takenNumber_52 ?_
        refine lv_topi (fun x11 ex11 => ?_)
        have hp := hp x11 ex11
        refine lv_istore (lv' := [(4, .int x11), (3, .int x3_), (0, .ref o), (1, .int x1_), (2, .int x2_)]) hx hb dX8_takenNumber_53 hl (by decide) rfl (fun ls hl => ?_)
        obtain ⟨x12, ex12⟩ : ∃ y : Int32, y = x3_ + 1 := ⟨_, rfl⟩
        have hp := hp x12 ex12
        refine lv_iinc (v := x12) (lv' := [(3, .int x12), (4, .int x11), (0, .ref o), (1, .int x1_), (2, .int x2_)]) hx hb dX8_takenNumber_55 hl (k := 1) rfl (by rw [ex12]; rfl) (by decide) rfl (fun ls hl => ?_)
        refine lv_goto (tgt := 9) hx hb dX8_takenNumber_58 (by decide) ?_
        exact ih x11 x12 x1_ x2_ w9 _ _ _ hp h (lv_sub hl [1, 0, 2, 3, 4] rfl)
def wp_X8_takenNumber (z : Zt) (o : Nat) (p0 : Int32) (p1 : Int32) (w : Vt) (K : Int32 → Vt → Prop) : Prop := isO z 8 o ∧ wp_X8_skipBlanks z o w (fun w1 => ∃ n13 : Nat, wL_X8_takenNumber_9 z o K (fun x14 x15 x16 x17 w18 => (x15 < 1 → K (-1) w18) ∧ (¬ x15 < 1 → (3 < x15 → K (-1) w18) ∧ (¬ 3 < x15 → wp_X9_isWithin z x14 x16 x17 w18 (fun r22 w21 => (¬ r22 = 0 → ∀ w24 : Vt, w24 = uI w21 802 o ((vI w21 802 o) + x15) → K x14 w24) ∧ (r22 = 0 → K (-1) w21))))) n13 0 0 p0 p1 w1)
set_option maxHeartbeats 4000000 in
set_option maxRecDepth 100000 in
theorem k_X8_takenNumber (l : Launch) (G : Gt) (z : Zt) (w : Vt) (sz : Nat) (o : Nat) (p0 : Int32) (p1 : Int32) (K : Int32 → Vt → Prop) (hp : wp_X8_takenNumber z o p0 p1 w K) : MI l yX8_takenNumber wsX8_takenNumber rmX8_takenNumber G z w sz [.ref o, .int p0, .int p1] K := by
  refine Met.ofW (cc := cX8_takenNumber) (maxL := 5) (ret := (some .int)) (by decide +kernel) rfl ?_
  intro p e s m args below meth c s₁ B hml hv
  obtain ⟨rfl, rfl, C, h⟩ := hp_start B hml hv
  generalize gA G z w s.heap.size = A at C h ⊢
  obtain ⟨hx, hb, hr, hlocks, hml, hown, hts, hK, hA, hE⟩ := id C
  obtain ⟨ho, hp⟩ := hp
  have hl := lv_entry ([.ref o, .int p0, .int p1]) (n := 5) (Nat.le_of_ble_eq_true rfl)
  rw [lg_entry_eq]
  generalize (lg_sl ([.ref o, .int p0, .int p1]) ++ List.replicate (5 - (lg_sl ([.ref o, .int p0, .int p1])).length) Slot.unset).toArray = ls at hl ⊢
  have hl : lv_has ls 5 [(0, .ref o), (1, .int p0), (2, .int p1)] := hl
  refine lv_aload_n hx hb dX8_takenNumber_0 rfl (lv_at hl 0 rfl) ?_
  refine hp_cVv ⟨hx, hb, hml, hown, hts⟩ (k_X8_skipBlanks l G z w _ o _ hp) (cwV 0 hts gX8_takenNumber_X8_skipBlanks rfl rfl rfl (by decide +kernel) ⟨Nat.le_of_ble_eq_true rfl, Nat.le_of_ble_eq_true rfl⟩) ho (by decide) rfl hK h hA hE rfl hl.1 rfl (Nat.le_of_ble_eq_true rfl) dX8_takenNumber_1 ⟨Nat.le_of_ble_eq_true rfl, Nat.le_of_ble_eq_true rfl⟩ (fun w1 H locs hp h => ?_)
  refine lv_iconst (v := 0) hx hb dX8_takenNumber_4 (by decide) ?_
  refine lv_istore_n (lv' := [(3, .int 0), (0, .ref o), (1, .int p0), (2, .int p1)]) hx hb dX8_takenNumber_5 rfl hl (by decide) rfl (fun ls hl => ?_)
  refine lv_iconst (v := 0) hx hb dX8_takenNumber_6 (by decide) ?_
  refine lv_istore (lv' := [(4, .int 0), (3, .int 0), (0, .ref o), (1, .int p0), (2, .int p1)]) hx hb dX8_takenNumber_7 hl (by decide) rfl (fun ls hl => ?_)
  obtain ⟨n13, hp⟩ := hp
  refine kL_X8_takenNumber_9 C o ho _ _ (fun x14 x15 x16 x17 w18 H locs ls hp h hl => ?_) n13 0 0 p0 p1 w1 _ _ _ hp h (lv_sub hl [0, 1, 2, 3, 4] rfl)
  refine lv_iload_n hx hb dX8_takenNumber_61 rfl (lv_at hl 1 rfl) ?_
  refine lv_iconst (v := 1) hx hb dX8_takenNumber_62 (by decide) ?_
  refine lv_icmp_lt (tgt := 81) hx hb dX8_takenNumber_63 (by decide) (fun hc19 => ?_) (fun hc19 => ?_)
  · have hp := hp.1 hc19
    refine lv_iconst (v := (-1)) hx hb dX8_takenNumber_81 (by decide) ?_
    exact hp_iret hx hb hr rfl hlocks hK h hp dX8_takenNumber_82
  · have hp := hp.2 hc19
    refine lv_iload_n hx hb dX8_takenNumber_66 rfl (lv_at hl 1 rfl) ?_
    refine lv_iconst (v := 3) hx hb dX8_takenNumber_67 (by decide) ?_
    refine lv_icmp_gt (tgt := 81) hx hb dX8_takenNumber_68 (by decide) (fun hc20 => ?_) (fun hc20 => ?_)
    · have hp := hp.1 hc20
      refine lv_iconst (v := (-1)) hx hb dX8_takenNumber_81 (by decide) ?_
      exact hp_iret hx hb hr rfl hlocks hK h hp dX8_takenNumber_82
    · have hp := hp.2 hc20
      refine lv_iload hx hb dX8_takenNumber_71 (lv_at hl 0 rfl) ?_
      refine lv_iload_n hx hb dX8_takenNumber_73 rfl (lv_at hl 3 rfl) ?_
      refine lv_iload_n hx hb dX8_takenNumber_74 rfl (lv_at hl 4 rfl) ?_
      refine hp_cSNi ⟨hx, hb, hml, hown, hts⟩ (k_X9_isWithin l G z w18 _ x14 x16 x17 _ hp) ⟨va_cnB 3 hts gX8_takenNumber_X9_isWithin_n80 rfl rfl rfl (ln_X8_takenNumber_80 hE) (hts _ wd_X8_takenNumber_iX9) (by decide +kernel) ⟨Nat.le_of_ble_eq_true rfl, Nat.le_of_ble_eq_true rfl⟩, (hts _ wd_X8_takenNumber_tX9_isWithin), trivial⟩ hK h hA hE rfl hl.1 rfl (Nat.le_of_ble_eq_true rfl) dX8_takenNumber_75 ⟨Nat.le_of_ble_eq_true rfl, Nat.le_of_ble_eq_true rfl⟩ (fun r22 w21 H locs hp h => ?_)
      refine lv_if_ne (tgt := 83) hx hb dX8_takenNumber_78 (by decide) (fun hc23 => ?_) (fun hc23 => ?_)
      · have hp := hp.1 hc23
        refine lv_aload_n hx hb dX8_takenNumber_83 rfl (lv_at hl 2 rfl) ?_
        refine lv_dup hx hb dX8_takenNumber_84 rfl ?_
        refine hp_get (ci := 8) (v := .int (vI w21 802 o)) hx hb hts ix_X8_takenNumber_8 hown hK h ho (by decide) rfl 2 (by decide) (hts _ lk_X8_takenNumber_24) (fun _ h9 => h9) rfl dX8_takenNumber_85 ?_
        refine lv_iload_n hx hb dX8_takenNumber_88 rfl (lv_at hl 1 rfl) ?_
        refine lv_iadd hx hb dX8_takenNumber_89 ?_
        refine hp_puti (ci := 8) (ty := .int) (x := (vI w21 802 o) + x15) hx hb hts ix_X8_takenNumber_8 tyX8 tyX8_ok nmX8 hown hK h ho (by decide) rfl 2 802 (by decide) (hts _ lk_X8_takenNumber_24) (fun _ h9 => h9) rfl (by decide +kernel) rfl rfl (fun _ _ => rfl) (fun _ _ => Nat.le_of_ble_eq_true rfl) dX8_takenNumber_90 (fun H locs w24 ew24 h => ?_)
        have hp := hp w24 ew24
        refine lv_iload hx hb dX8_takenNumber_93 (lv_at hl 0 rfl) ?_
        exact hp_iret hx hb hr rfl hlocks hK h hp dX8_takenNumber_95
      · have hp := hp.2 hc23
        refine lv_iconst (v := (-1)) hx hb dX8_takenNumber_81 (by decide) ?_
        exact hp_iret hx hb hr rfl hlocks hK h hp dX8_takenNumber_82
abbrev rmX8_readsRest : Room := { frames := 3, cells := 0, slots := 0, locals := 65 }
theorem ix_X8_readsRest_4 : ∀ w ∈ wsX40, w ∈ wsX8_readsRest := by decide +kernel
theorem lk_X8_readsRest_57 {G : Gt} {A : Nat → Prop} {s : State} {args : Array Value} (hE : gE G A s s.heap) : (Cond.fieldLinkNest RX8 57 "KelpShores$Rights" "rest" "I" "KelpShores").before args s = true := by
  have h : va_Nw (Cond.fieldLinkNest RX8 57 "KelpShores$Rights" "rest" "I" "KelpShores") s := hE.1 (RX8, 57, "KelpShores$Rights", "rest", "I") (List.mem_of_getElem? (i := 3) rfl)
  exact va_Nw.use rfl h
def wp_X8_readsRest (z : Zt) (o : Nat) (p0 : Nat) (w : Vt) (K : Int32 → Vt → Prop) : Prop := isO z 8 o ∧ isO z 4 p0 ∧ wp_X8_takenNumber z o 0 20 w (fun r2 w1 => (¬ r2 = (-1) → ∀ w4 : Vt, w4 = uI w1 406 p0 r2 → K 1 w4) ∧ (r2 = (-1) → K 0 w1))
set_option maxHeartbeats 4000000 in
set_option maxRecDepth 100000 in
theorem k_X8_readsRest (l : Launch) (G : Gt) (z : Zt) (w : Vt) (sz : Nat) (o : Nat) (p0 : Nat) (K : Int32 → Vt → Prop) (hp : wp_X8_readsRest z o p0 w K) : MI l yX8_readsRest wsX8_readsRest rmX8_readsRest G z w sz [.ref o, .ref p0] K := by
  refine Met.ofW (cc := cX8_readsRest) (maxL := 3) (ret := (some .boolean)) (by decide +kernel) rfl ?_
  intro p e s m args below meth c s₁ B hml hv
  obtain ⟨rfl, rfl, C, h⟩ := hp_start B hml hv
  generalize gA G z w s.heap.size = A at C h ⊢
  obtain ⟨hx, hb, hr, hlocks, hml, hown, hts, hK, hA, hE⟩ := id C
  obtain ⟨ho, hp⟩ := hp
  obtain ⟨hop0, hp⟩ := hp
  have hl := lv_entry ([.ref o, .ref p0]) (n := 3) (Nat.le_of_ble_eq_true rfl)
  rw [lg_entry_eq]
  generalize (lg_sl ([.ref o, .ref p0]) ++ List.replicate (3 - (lg_sl ([.ref o, .ref p0])).length) Slot.unset).toArray = ls at hl ⊢
  have hl : lv_has ls 3 [(0, .ref o), (1, .ref p0)] := hl
  refine lv_aload_n hx hb dX8_readsRest_0 rfl (lv_at hl 0 rfl) ?_
  refine lv_iconst (v := 0) hx hb dX8_readsRest_1 (by decide) ?_
  refine lv_bipush (v := 20) hx hb dX8_readsRest_2 (by decide) ?_
  refine hp_cVi ⟨hx, hb, hml, hown, hts⟩ (k_X8_takenNumber l G z w _ o 0 20 _ hp) (cwV 2 hts gX8_readsRest_X8_takenNumber rfl rfl rfl (by decide +kernel) ⟨Nat.le_of_ble_eq_true rfl, Nat.le_of_ble_eq_true rfl⟩) ho (by decide) rfl hK h hA hE rfl hl.1 rfl (Nat.le_of_ble_eq_true rfl) dX8_readsRest_4 ⟨Nat.le_of_ble_eq_true rfl, Nat.le_of_ble_eq_true rfl⟩ (fun r2 w1 H locs hp h => ?_)
  refine lv_istore_n (lv' := [(2, .int r2), (0, .ref o), (1, .ref p0)]) hx hb dX8_readsRest_7 rfl hl (by decide) rfl (fun ls hl => ?_)
  refine lv_iload_n hx hb dX8_readsRest_8 rfl (lv_at hl 0 rfl) ?_
  refine lv_iconst (v := (-1)) hx hb dX8_readsRest_9 (by decide) ?_
  refine lv_icmp_ne (tgt := 15) hx hb dX8_readsRest_10 (by decide) (fun hc3 => ?_) (fun hc3 => ?_)
  · have hp := hp.1 hc3
    refine lv_aload_n hx hb dX8_readsRest_15 rfl (lv_at hl 2 rfl) ?_
    refine lv_iload_n hx hb dX8_readsRest_16 rfl (lv_at hl 0 rfl) ?_
    refine hp_putiN (ci := 4) (ty := .int) (x := r2) hx hb hts ix_X8_readsRest_4 tyX4 tyX4_ok nmX4 hown hK h hop0 (by decide) rfl 6 406 (by decide) (lk_X8_readsRest_57 hE) (fun _ h9 => h9) rfl (by decide +kernel) rfl rfl (fun _ _ => rfl) (fun _ _ => Nat.le_of_ble_eq_true rfl) dX8_readsRest_17 (fun H locs w4 ew4 h => ?_)
    have hp := hp w4 ew4
    refine lv_iconst (v := 1) hx hb dX8_readsRest_20 (by decide) ?_
    exact hp_iret hx hb hr rfl hlocks hK h hp dX8_readsRest_21
  · have hp := hp.2 hc3
    refine lv_iconst (v := 0) hx hb dX8_readsRest_13 (by decide) ?_
    exact hp_iret hx hb hr rfl hlocks hK h hp dX8_readsRest_14
abbrev rmX8_takesWord : Room := { frames := 4, cells := 0, slots := 0, locals := 85 }
theorem ix_X8_takesWord_8 : ∀ w ∈ wsX80, w ∈ wsX8_takesWord := by decide +kernel
theorem lk_X8_takesWord_24 : Cond.fieldLink RX8 24 "KelpShores$Tape" "at" "I" ∈ wsX8_takesWord := by decide +kernel
theorem ln_X8_takesWord_80 {G : Gt} {A : Nat → Prop} {s : State} (hE : gE G A s s.heap) : va_Nw (Cond.methodLinkNest RX8 80 yX9_isWithin "KelpShores") s := hE.2.1 (RX8, 80, yX9_isWithin) (List.mem_of_getElem? (i := 6) rfl)
theorem wd_X8_takesWord_iX9 : Cond.initialized RX9 ∈ wsX8_takesWord := by decide +kernel
theorem wd_X8_takesWord_tX9_isWithin : Cond.static yX9_isWithin ∈ wsX8_takesWord := by decide +kernel
def wL_X8_takesWord_11 (z : Zt) (o : Nat) (p0 : Nat) (K : Int32 → Vt → Prop) (Kx : Int32 → Int32 → Vt → Prop) : Nat → Int32 → Int32 → Vt → Prop
  | 0, _, _, _ => False
  | n + 1, x3_, x2_, w => (x2_ ≤ x3_ → Kx x3_ x2_ w) ∧ (¬ x2_ ≤ x3_ → wp_X8_byteAt z o ((vI w 802 o) + x3_) w (fun r6 w5 => vp_in x3_ (envL.getD p0 0) ∧ ∀ r7 : Int32, r7 = ((((envB.getD p0 []).getD (x3_ : Int32).toNatClampNeg 0) &&& 255).toUInt32 % 65536).toInt32 → (r6 = r7 → ∀ x9 : Int32, x9 = x3_ + 1 → wL_X8_takesWord_11 z o p0 K Kx n x9 x2_ w5) ∧ (¬ r6 = r7 → K 0 w5)))
set_option maxHeartbeats 4000000 in
set_option maxRecDepth 100000 in
theorem kL_X8_takesWord_11 {p : Program} {l : Launch} {e : Env} {s : State} {m : MethodId} {args : Array Value} {below : List Frame} {meth : Method} {c : Code} {G : Gt} {A : Nat → Prop} {z : Zt} (C : gC p s m args meth c cX8_takesWord 4 RX8 wsX8_takesWord (some .boolean) G A) (o : Nat) (p0 : Nat) (ho : isO z 8 o) (hsp0 : p0 < 6) (K : Int32 → Vt → Prop) (Kx : Int32 → Int32 → Vt → Prop) (kKx : ∀ (x3_ x2_ : Int32) (w : Vt) (H : Heap) (locs : List Loc) (ls : Array Slot), Kx x3_ x2_ w → hpH G.1 G.2.1 A s.heap z w H locs → lv_has ls 4 [(3, .int x3_), (2, .int x2_), (0, .ref o), (1, .ref (G.2.2.1 p0))] → W p l e (headSpec wsX8_takesWord rmX8_takesWord).room s m args below meth c H locs 0 0 (MQ below (va_Qi K (gB G A z) A) args s 0 0 A) (F0 m 42 ls [])) : ∀ (n : Nat) (x3_ x2_ : Int32) (w : Vt) (H : Heap) (locs : List Loc) (ls : Array Slot), wL_X8_takesWord_11 z o p0 K Kx n x3_ x2_ w → hpH G.1 G.2.1 A s.heap z w H locs → lv_has ls 4 [(3, .int x3_), (2, .int x2_), (0, .ref o), (1, .ref (G.2.2.1 p0))] → W p l e (headSpec wsX8_takesWord rmX8_takesWord).room s m args below meth c H locs 0 0 (MQ below (va_Qi K (gB G A z) A) args s 0 0 A) (F0 m 11 ls []) := by
  obtain ⟨hx, hb, hr, hlocks, hml, hown, hts, hK, hA, hE⟩ := id C
  intro n
  induction n with
  | zero =>
    intro x3_ x2_ w H locs ls hp
    exact hp.elim
  | succ n ih =>
    intro x3_ x2_ w H locs ls hp h hl
    refine lv_iload_n hx hb dX8_takesWord_11 rfl (lv_at hl 0 rfl) ?_
    refine lv_iload_n hx hb dX8_takesWord_12 rfl (lv_at hl 1 rfl) ?_
    refine lv_icmp_ge (tgt := 42) hx hb dX8_takesWord_13 (by decide) (fun hc4 => ?_) (fun hc4 => ?_)
    · have hp := hp.1 hc4
      exact kKx x3_ x2_ w _ _ _ hp h (lv_sub hl [0, 1, 2, 3] rfl)
    · have hp := hp.2 hc4
      refine lv_aload_n hx hb dX8_takesWord_16 rfl (lv_at hl 2 rfl) ?_
      refine lv_aload_n hx hb dX8_takesWord_17 rfl (lv_at hl 2 rfl) ?_
      refine hp_get (ci := 8) (v := .int (vI w 802 o)) hx hb hts ix_X8_takesWord_8 hown hK h ho (by decide) rfl 2 (by decide) (hts _ lk_X8_takesWord_24) (fun _ h9 => h9) rfl dX8_takesWord_18 ?_
      refine lv_iload_n hx hb dX8_takesWord_21 rfl (lv_at hl 0 rfl) ?_
      refine lv_iadd hx hb dX8_takesWord_22 ?_
      refine hp_cVi ⟨hx, hb, hml, hown, hts⟩ (k_X8_byteAt l G z w _ o ((vI w 802 o) + x3_) _ hp) (cwV 1 hts gX8_takesWord_X8_byteAt rfl rfl rfl (by decide +kernel) ⟨Nat.le_of_ble_eq_true rfl, Nat.le_of_ble_eq_true rfl⟩) ho (by decide) rfl hK h hA hE rfl hl.1 rfl (Nat.le_of_ble_eq_true rfl) dX8_takesWord_23 ⟨Nat.le_of_ble_eq_true rfl, Nat.le_of_ble_eq_true rfl⟩ (fun r6 w5 H locs hp h => ?_)
      refine lv_aload_n hx hb dX8_takesWord_26 rfl (lv_at hl 3 rfl) ?_
      refine lv_iload_n hx hb dX8_takesWord_27 rfl (lv_at hl 0 rfl) ?_
      obtain ⟨hvr7, hp⟩ := hp
      refine hp_cTi (i := p0) (K := fun r u => r = ((((envB.getD p0 []).getD (x3_ : Int32).toNatClampNeg 0) &&& 255).toUInt32 % 65536).toInt32 ∧ u = w5) ⟨hx, hb, hml, hown, hts⟩ (k_J0_charAt_5068e l G z w5 _ p0 x3_ _ hsp0 (vp_ltN hvr7 (envL_lt _)).1 (vp_ltN hvr7 (envL_lt _)).2 hvr7 (pk_nc _) ⟨rfl, rfl⟩) (cwV 1 hts gX8_takesWord_J0_charAt_5068e rfl rfl rfl (by decide +kernel) ⟨Nat.le_of_ble_eq_true rfl, Nat.le_of_ble_eq_true rfl⟩) hsp0 hK h hA hE rfl hl.1 rfl (Nat.le_of_ble_eq_true rfl) dX8_takesWord_28 ⟨Nat.le_of_ble_eq_true rfl, Nat.le_of_ble_eq_true rfl⟩ (fun r7 ur7 H locs hqr7 hr7 => ?_)
      obtain ⟨er7, eur7⟩ := hqr7
      rw [eur7] at hr7
      have h := hr7
      have hp := hp r7 er7
      refine lv_icmp_eq (tgt := 36) hx hb dX8_takesWord_31 (by decide) (fun hc8 => ?_) (fun hc8 => ?_)
      · have hp := hp.1 hc8
        obtain ⟨x9, ex9⟩ : ∃ y : Int32, y = x3_ + 1 := ⟨_, rfl⟩
        have hp := hp x9 ex9
        refine lv_iinc (v := x9) (lv' := [(3, .int x9), (2, .int x2_), (0, .ref o), (1, .ref (G.2.2.1 p0))]) hx hb dX8_takesWord_36 hl (k := 0) rfl (by rw [ex9]; rfl) (by decide) rfl (fun ls hl => ?_)
        refine lv_goto (tgt := 11) hx hb dX8_takesWord_39 (by decide) ?_
        exact ih x9 x2_ w5 _ _ _ hp h (lv_sub hl [0, 1, 2, 3] rfl)
      · have hp := hp.2 hc8
        refine lv_iconst (v := 0) hx hb dX8_takesWord_34 (by decide) ?_
        exact hp_iret hx hb hr rfl hlocks hK h hp dX8_takesWord_35
def wp_X8_takesWord (z : Zt) (o : Nat) (p0 : Nat) (w : Vt) (K : Int32 → Vt → Prop) : Prop := isO z 8 o ∧ p0 < 6 ∧ wp_X8_skipBlanks z o w (fun w1 => ∀ r3 : Int32, r3 = Int32.ofNat (envL.getD p0 0) >>> ((0 : Int32) &&& 31) → ∃ n10 : Nat, wL_X8_takesWord_11 z o p0 K (fun x11 x12 w13 => wp_X8_byteAt z o ((vI w13 802 o) + x12) w13 (fun r15 w14 => wp_X9_isWithin z r15 97 122 w14 (fun r17 w16 => (r17 = 0 → ∀ w19 : Vt, w19 = uI w16 802 o ((vI w16 802 o) + x12) → K 1 w19) ∧ (¬ r17 = 0 → K 0 w16)))) n10 0 r3 w1)
set_option maxHeartbeats 4000000 in
set_option maxRecDepth 100000 in
theorem k_X8_takesWord (l : Launch) (G : Gt) (z : Zt) (w : Vt) (sz : Nat) (o : Nat) (p0 : Nat) (K : Int32 → Vt → Prop) (hp : wp_X8_takesWord z o p0 w K) : MI l yX8_takesWord wsX8_takesWord rmX8_takesWord G z w sz [.ref o, .ref (G.2.2.1 p0)] K := by
  refine Met.ofW (cc := cX8_takesWord) (maxL := 4) (ret := (some .boolean)) (by decide +kernel) rfl ?_
  intro p e s m args below meth c s₁ B hml hv
  obtain ⟨rfl, rfl, C, h⟩ := hp_start B hml hv
  generalize gA G z w s.heap.size = A at C h ⊢
  obtain ⟨hx, hb, hr, hlocks, hml, hown, hts, hK, hA, hE⟩ := id C
  obtain ⟨ho, hp⟩ := hp
  obtain ⟨hsp0, hp⟩ := hp
  have hl := lv_entry ([.ref o, .ref (G.2.2.1 p0)]) (n := 4) (Nat.le_of_ble_eq_true rfl)
  rw [lg_entry_eq]
  generalize (lg_sl ([.ref o, .ref (G.2.2.1 p0)]) ++ List.replicate (4 - (lg_sl ([.ref o, .ref (G.2.2.1 p0)])).length) Slot.unset).toArray = ls at hl ⊢
  have hl : lv_has ls 4 [(0, .ref o), (1, .ref (G.2.2.1 p0))] := hl
  refine lv_aload_n hx hb dX8_takesWord_0 rfl (lv_at hl 0 rfl) ?_
  refine hp_cVv ⟨hx, hb, hml, hown, hts⟩ (k_X8_skipBlanks l G z w _ o _ hp) (cwV 0 hts gX8_takesWord_X8_skipBlanks rfl rfl rfl (by decide +kernel) ⟨Nat.le_of_ble_eq_true rfl, Nat.le_of_ble_eq_true rfl⟩) ho (by decide) rfl hK h hA hE rfl hl.1 rfl (Nat.le_of_ble_eq_true rfl) dX8_takesWord_1 ⟨Nat.le_of_ble_eq_true rfl, Nat.le_of_ble_eq_true rfl⟩ (fun w1 H locs hp h => ?_)
  refine lv_aload_n hx hb dX8_takesWord_4 rfl (lv_at hl 1 rfl) ?_
  refine hp_cTi (i := p0) (K := fun r u => r = Int32.ofNat (envL.getD p0 0) >>> ((0 : Int32) &&& 31) ∧ u = w1) ⟨hx, hb, hml, hown, hts⟩ (k_J0_length_8abf5 l G z w1 _ p0 _ hsp0 ⟨rfl, rfl⟩) (cwV 0 hts gX8_takesWord_J0_length_8abf5 rfl rfl rfl (by decide +kernel) ⟨Nat.le_of_ble_eq_true rfl, Nat.le_of_ble_eq_true rfl⟩) hsp0 hK h hA hE rfl hl.1 rfl (Nat.le_of_ble_eq_true rfl) dX8_takesWord_5 ⟨Nat.le_of_ble_eq_true rfl, Nat.le_of_ble_eq_true rfl⟩ (fun r3 ur3 H locs hqr3 hr3 => ?_)
  obtain ⟨er3, eur3⟩ := hqr3
  rw [eur3] at hr3
  have h := hr3
  have hp := hp r3 er3
  refine lv_istore_n (lv' := [(2, .int r3), (0, .ref o), (1, .ref (G.2.2.1 p0))]) hx hb dX8_takesWord_8 rfl hl (by decide) rfl (fun ls hl => ?_)
  refine lv_iconst (v := 0) hx hb dX8_takesWord_9 (by decide) ?_
  refine lv_istore_n (lv' := [(3, .int 0), (2, .int r3), (0, .ref o), (1, .ref (G.2.2.1 p0))]) hx hb dX8_takesWord_10 rfl hl (by decide) rfl (fun ls hl => ?_)
  obtain ⟨n10, hp⟩ := hp
  refine kL_X8_takesWord_11 C o p0 ho hsp0 _ _ (fun x11 x12 w13 H locs ls hp h hl => ?_) n10 0 r3 w1 _ _ _ hp h (lv_sub hl [0, 1, 2, 3] rfl)
  refine lv_aload_n hx hb dX8_takesWord_42 rfl (lv_at hl 2 rfl) ?_
  refine lv_aload_n hx hb dX8_takesWord_43 rfl (lv_at hl 2 rfl) ?_
  refine hp_get (ci := 8) (v := .int (vI w13 802 o)) hx hb hts ix_X8_takesWord_8 hown hK h ho (by decide) rfl 2 (by decide) (hts _ lk_X8_takesWord_24) (fun _ h9 => h9) rfl dX8_takesWord_44 ?_
  refine lv_iload_n hx hb dX8_takesWord_47 rfl (lv_at hl 1 rfl) ?_
  refine lv_iadd hx hb dX8_takesWord_48 ?_
  refine hp_cVi ⟨hx, hb, hml, hown, hts⟩ (k_X8_byteAt l G z w13 _ o ((vI w13 802 o) + x12) _ hp) (cwV 1 hts gX8_takesWord_X8_byteAt rfl rfl rfl (by decide +kernel) ⟨Nat.le_of_ble_eq_true rfl, Nat.le_of_ble_eq_true rfl⟩) ho (by decide) rfl hK h hA hE rfl hl.1 rfl (Nat.le_of_ble_eq_true rfl) dX8_takesWord_49 ⟨Nat.le_of_ble_eq_true rfl, Nat.le_of_ble_eq_true rfl⟩ (fun r15 w14 H locs hp h => ?_)
  refine lv_bipush (v := 97) hx hb dX8_takesWord_52 (by decide) ?_
  refine lv_bipush (v := 122) hx hb dX8_takesWord_54 (by decide) ?_
  refine hp_cSNi ⟨hx, hb, hml, hown, hts⟩ (k_X9_isWithin l G z w14 _ r15 97 122 _ hp) ⟨va_cnB 3 hts gX8_takesWord_X9_isWithin_n80 rfl rfl rfl (ln_X8_takesWord_80 hE) (hts _ wd_X8_takesWord_iX9) (by decide +kernel) ⟨Nat.le_of_ble_eq_true rfl, Nat.le_of_ble_eq_true rfl⟩, (hts _ wd_X8_takesWord_tX9_isWithin), trivial⟩ hK h hA hE rfl hl.1 rfl (Nat.le_of_ble_eq_true rfl) dX8_takesWord_56 ⟨Nat.le_of_ble_eq_true rfl, Nat.le_of_ble_eq_true rfl⟩ (fun r17 w16 H locs hp h => ?_)
  refine lv_if_eq (tgt := 64) hx hb dX8_takesWord_59 (by decide) (fun hc18 => ?_) (fun hc18 => ?_)
  · have hp := hp.1 hc18
    refine lv_aload_n hx hb dX8_takesWord_64 rfl (lv_at hl 2 rfl) ?_
    refine lv_dup hx hb dX8_takesWord_65 rfl ?_
    refine hp_get (ci := 8) (v := .int (vI w16 802 o)) hx hb hts ix_X8_takesWord_8 hown hK h ho (by decide) rfl 2 (by decide) (hts _ lk_X8_takesWord_24) (fun _ h9 => h9) rfl dX8_takesWord_66 ?_
    refine lv_iload_n hx hb dX8_takesWord_69 rfl (lv_at hl 1 rfl) ?_
    refine lv_iadd hx hb dX8_takesWord_70 ?_
    refine hp_puti (ci := 8) (ty := .int) (x := (vI w16 802 o) + x12) hx hb hts ix_X8_takesWord_8 tyX8 tyX8_ok nmX8 hown hK h ho (by decide) rfl 2 802 (by decide) (hts _ lk_X8_takesWord_24) (fun _ h9 => h9) rfl (by decide +kernel) rfl rfl (fun _ _ => rfl) (fun _ _ => Nat.le_of_ble_eq_true rfl) dX8_takesWord_71 (fun H locs w19 ew19 h => ?_)
    have hp := hp w19 ew19
    refine lv_iconst (v := 1) hx hb dX8_takesWord_74 (by decide) ?_
    exact hp_iret hx hb hr rfl hlocks hK h hp dX8_takesWord_75
  · have hp := hp.2 hc18
    refine lv_iconst (v := 0) hx hb dX8_takesWord_62 (by decide) ?_
    exact hp_iret hx hb hr rfl hlocks hK h hp dX8_takesWord_63
abbrev rmX8_readsRight : Room := { frames := 5, cells := 0, slots := 0, locals := 108 }
theorem ls_X8_readsRight_59 {G : Gt} {A : Nat → Prop} {s : State} (hE : gE G A s s.heap) : vk_R RX8 59 "family" (G.2.2.1 2) s := hE.2.2.2.2.2.2.2.2.1 (RX8, 59, "family", 2) (List.mem_of_getElem? (i := 8) rfl)
theorem ls_X8_readsRight_61 {G : Gt} {A : Nat → Prop} {s : State} (hE : gE G A s s.heap) : vk_R RX8 61 "from" (G.2.2.1 3) s := hE.2.2.2.2.2.2.2.2.1 (RX8, 61, "from", 3) (List.mem_of_getElem? (i := 9) rfl)
theorem ls_X8_readsRight_63 {G : Gt} {A : Nat → Prop} {s : State} (hE : gE G A s s.heap) : vk_R RX8 63 "to" (G.2.2.1 4) s := hE.2.2.2.2.2.2.2.2.1 (RX8, 63, "to", 4) (List.mem_of_getElem? (i := 10) rfl)
theorem ls_X8_readsRight_65 {G : Gt} {A : Nat → Prop} {s : State} (hE : gE G A s s.heap) : vk_R RX8 65 "share" (G.2.2.1 5) s := hE.2.2.2.2.2.2.2.2.1 (RX8, 65, "share", 5) (List.mem_of_getElem? (i := 11) rfl)
def wp_X8_readsRight (z : Zt) (o : Nat) (p0 : Nat) (p1 : Int32) (w : Vt) (K : Int32 → Vt → Prop) : Prop := isO z 8 o ∧ isO z 4 p0 ∧ wp_X8_takenNumber z o 0 (p1 - 1) w (fun r2 w1 => (r2 = (-1) → K 0 w1) ∧ (¬ r2 = (-1) → wp_X8_takesWord z o 2 w1 (fun r5 w4 => (¬ r5 = 0 → wp_X8_takenNumber z o 0 7 w4 (fun r8 w7 => (r8 = (-1) → K 0 w7) ∧ (¬ r8 = (-1) → wp_X8_takesWord z o 3 w7 (fun r11 w10 => (¬ r11 = 0 → wp_X8_takenNumber z o 0 99 w10 (fun r14 w13 => (r14 = (-1) → K 0 w13) ∧ (¬ r14 = (-1) → wp_X8_takesWord z o 4 w13 (fun r17 w16 => (¬ r17 = 0 → wp_X8_takenNumber z o r14 99 w16 (fun r20 w19 => (r20 = (-1) → K 0 w19) ∧ (¬ r20 = (-1) → wp_X8_takesWord z o 5 w19 (fun r23 w22 => (¬ r23 = 0 → wp_X8_takenNumber z o 0 100 w22 (fun r26 w25 => (¬ r26 = (-1) → wp_X4_addPart z p0 r2 r8 r14 r20 r26 w25 (fun w28 => K 1 w28)) ∧ (r26 = (-1) → K 0 w25))) ∧ (r23 = 0 → K 0 w22))))) ∧ (r17 = 0 → K 0 w16))))) ∧ (r11 = 0 → K 0 w10))))) ∧ (r5 = 0 → K 0 w4))))
set_option maxHeartbeats 4000000 in
set_option maxRecDepth 100000 in
theorem k_X8_readsRight (l : Launch) (G : Gt) (z : Zt) (w : Vt) (sz : Nat) (o : Nat) (p0 : Nat) (p1 : Int32) (K : Int32 → Vt → Prop) (hp : wp_X8_readsRight z o p0 p1 w K) : MI l yX8_readsRight wsX8_readsRight rmX8_readsRight G z w sz [.ref o, .ref p0, .int p1] K := by
  refine Met.ofW (cc := cX8_readsRight) (maxL := 8) (ret := (some .boolean)) (by decide +kernel) rfl ?_
  intro p e s m args below meth c s₁ B hml hv
  obtain ⟨rfl, rfl, C, h⟩ := hp_start B hml hv
  generalize gA G z w s.heap.size = A at C h ⊢
  obtain ⟨hx, hb, hr, hlocks, hml, hown, hts, hK, hA, hE⟩ := id C
  obtain ⟨ho, hp⟩ := hp
  obtain ⟨hop0, hp⟩ := hp
  have hl := lv_entry ([.ref o, .ref p0, .int p1]) (n := 8) (Nat.le_of_ble_eq_true rfl)
  rw [lg_entry_eq]
  generalize (lg_sl ([.ref o, .ref p0, .int p1]) ++ List.replicate (8 - (lg_sl ([.ref o, .ref p0, .int p1])).length) Slot.unset).toArray = ls at hl ⊢
  have hl : lv_has ls 8 [(0, .ref o), (1, .ref p0), (2, .int p1)] := hl
  refine lv_aload_n hx hb dX8_readsRight_0 rfl (lv_at hl 0 rfl) ?_
  refine lv_iconst (v := 0) hx hb dX8_readsRight_1 (by decide) ?_
  refine lv_iload_n hx hb dX8_readsRight_2 rfl (lv_at hl 2 rfl) ?_
  refine lv_iconst (v := 1) hx hb dX8_readsRight_3 (by decide) ?_
  refine lv_isub hx hb dX8_readsRight_4 ?_
  refine hp_cVi ⟨hx, hb, hml, hown, hts⟩ (k_X8_takenNumber l G z w _ o 0 (p1 - 1) _ hp) (cwV 2 hts gX8_readsRight_X8_takenNumber rfl rfl rfl (by decide +kernel) ⟨Nat.le_of_ble_eq_true rfl, Nat.le_of_ble_eq_true rfl⟩) ho (by decide) rfl hK h hA hE rfl hl.1 rfl (Nat.le_of_ble_eq_true rfl) dX8_readsRight_5 ⟨Nat.le_of_ble_eq_true rfl, Nat.le_of_ble_eq_true rfl⟩ (fun r2 w1 H locs hp h => ?_)
  refine lv_istore_n (lv' := [(3, .int r2), (0, .ref o), (1, .ref p0), (2, .int p1)]) hx hb dX8_readsRight_8 rfl hl (by decide) rfl (fun ls hl => ?_)
  refine lv_iload_n hx hb dX8_readsRight_9 rfl (lv_at hl 0 rfl) ?_
  refine lv_iconst (v := (-1)) hx hb dX8_readsRight_10 (by decide) ?_
  refine lv_icmp_eq (tgt := 23) hx hb dX8_readsRight_11 (by decide) (fun hc3 => ?_) (fun hc3 => ?_)
  · have hp := hp.1 hc3
    refine lv_iconst (v := 0) hx hb dX8_readsRight_23 (by decide) ?_
    exact hp_iret hx hb hr rfl hlocks hK h hp dX8_readsRight_24
  · have hp := hp.2 hc3
    refine lv_aload_n hx hb dX8_readsRight_14 rfl (lv_at hl 1 rfl) ?_
    refine va_ldcS hx hb hown (ls_X8_readsRight_59 hE) dX8_readsRight_15 ?_
    refine hp_cVi ⟨hx, hb, hml, hown, hts⟩ (k_X8_takesWord l G z w1 _ o 2 _ hp) (cwV 1 hts gX8_readsRight_X8_takesWord rfl rfl rfl (by decide +kernel) ⟨Nat.le_of_ble_eq_true rfl, Nat.le_of_ble_eq_true rfl⟩) ho (by decide) rfl hK h hA hE rfl hl.1 rfl (Nat.le_of_ble_eq_true rfl) dX8_readsRight_17 ⟨Nat.le_of_ble_eq_true rfl, Nat.le_of_ble_eq_true rfl⟩ (fun r5 w4 H locs hp h => ?_)
    refine lv_if_ne (tgt := 25) hx hb dX8_readsRight_20 (by decide) (fun hc6 => ?_) (fun hc6 => ?_)
    · have hp := hp.1 hc6
      refine lv_aload_n hx hb dX8_readsRight_25 rfl (lv_at hl 1 rfl) ?_
      refine lv_iconst (v := 0) hx hb dX8_readsRight_26 (by decide) ?_
      refine lv_bipush (v := 7) hx hb dX8_readsRight_27 (by decide) ?_
      refine hp_cVi ⟨hx, hb, hml, hown, hts⟩ (k_X8_takenNumber l G z w4 _ o 0 7 _ hp) (cwV 2 hts gX8_readsRight_X8_takenNumber rfl rfl rfl (by decide +kernel) ⟨Nat.le_of_ble_eq_true rfl, Nat.le_of_ble_eq_true rfl⟩) ho (by decide) rfl hK h hA hE rfl hl.1 rfl (Nat.le_of_ble_eq_true rfl) dX8_readsRight_29 ⟨Nat.le_of_ble_eq_true rfl, Nat.le_of_ble_eq_true rfl⟩ (fun r8 w7 H locs hp h => ?_)
      refine lv_istore (lv' := [(4, .int r8), (3, .int r2), (0, .ref o), (1, .ref p0), (2, .int p1)]) hx hb dX8_readsRight_32 hl (by decide) rfl (fun ls hl => ?_)
      refine lv_iload hx hb dX8_readsRight_34 (lv_at hl 0 rfl) ?_
      refine lv_iconst (v := (-1)) hx hb dX8_readsRight_36 (by decide) ?_
      refine lv_icmp_eq (tgt := 49) hx hb dX8_readsRight_37 (by decide) (fun hc9 => ?_) (fun hc9 => ?_)
      · have hp := hp.1 hc9
        refine lv_iconst (v := 0) hx hb dX8_readsRight_49 (by decide) ?_
        exact hp_iret hx hb hr rfl hlocks hK h hp dX8_readsRight_50
      · have hp := hp.2 hc9
        refine lv_aload_n hx hb dX8_readsRight_40 rfl (lv_at hl 2 rfl) ?_
        refine va_ldcS hx hb hown (ls_X8_readsRight_61 hE) dX8_readsRight_41 ?_
        refine hp_cVi ⟨hx, hb, hml, hown, hts⟩ (k_X8_takesWord l G z w7 _ o 3 _ hp) (cwV 1 hts gX8_readsRight_X8_takesWord rfl rfl rfl (by decide +kernel) ⟨Nat.le_of_ble_eq_true rfl, Nat.le_of_ble_eq_true rfl⟩) ho (by decide) rfl hK h hA hE rfl hl.1 rfl (Nat.le_of_ble_eq_true rfl) dX8_readsRight_43 ⟨Nat.le_of_ble_eq_true rfl, Nat.le_of_ble_eq_true rfl⟩ (fun r11 w10 H locs hp h => ?_)
        refine lv_if_ne (tgt := 51) hx hb dX8_readsRight_46 (by decide) (fun hc12 => ?_) (fun hc12 => ?_)
        · have hp := hp.1 hc12
          refine lv_aload_n hx hb dX8_readsRight_51 rfl (lv_at hl 2 rfl) ?_
          refine lv_iconst (v := 0) hx hb dX8_readsRight_52 (by decide) ?_
          refine lv_bipush (v := 99) hx hb dX8_readsRight_53 (by decide) ?_
          refine hp_cVi ⟨hx, hb, hml, hown, hts⟩ (k_X8_takenNumber l G z w10 _ o 0 99 _ hp) (cwV 2 hts gX8_readsRight_X8_takenNumber rfl rfl rfl (by decide +kernel) ⟨Nat.le_of_ble_eq_true rfl, Nat.le_of_ble_eq_true rfl⟩) ho (by decide) rfl hK h hA hE rfl hl.1 rfl (Nat.le_of_ble_eq_true rfl) dX8_readsRight_55 ⟨Nat.le_of_ble_eq_true rfl, Nat.le_of_ble_eq_true rfl⟩ (fun r14 w13 H locs hp h => ?_)
          refine lv_istore (lv' := [(5, .int r14), (4, .int r8), (3, .int r2), (0, .ref o), (1, .ref p0), (2, .int p1)]) hx hb dX8_readsRight_58 hl (by decide) rfl (fun ls hl => ?_)
          refine lv_iload hx hb dX8_readsRight_60 (lv_at hl 0 rfl) ?_
          refine lv_iconst (v := (-1)) hx hb dX8_readsRight_62 (by decide) ?_
          refine lv_icmp_eq (tgt := 75) hx hb dX8_readsRight_63 (by decide) (fun hc15 => ?_) (fun hc15 => ?_)
          · have hp := hp.1 hc15
            refine lv_iconst (v := 0) hx hb dX8_readsRight_75 (by decide) ?_
            exact hp_iret hx hb hr rfl hlocks hK h hp dX8_readsRight_76
          · have hp := hp.2 hc15
            refine lv_aload_n hx hb dX8_readsRight_66 rfl (lv_at hl 3 rfl) ?_
            refine va_ldcS hx hb hown (ls_X8_readsRight_63 hE) dX8_readsRight_67 ?_
            refine hp_cVi ⟨hx, hb, hml, hown, hts⟩ (k_X8_takesWord l G z w13 _ o 4 _ hp) (cwV 1 hts gX8_readsRight_X8_takesWord rfl rfl rfl (by decide +kernel) ⟨Nat.le_of_ble_eq_true rfl, Nat.le_of_ble_eq_true rfl⟩) ho (by decide) rfl hK h hA hE rfl hl.1 rfl (Nat.le_of_ble_eq_true rfl) dX8_readsRight_69 ⟨Nat.le_of_ble_eq_true rfl, Nat.le_of_ble_eq_true rfl⟩ (fun r17 w16 H locs hp h => ?_)
            refine lv_if_ne (tgt := 77) hx hb dX8_readsRight_72 (by decide) (fun hc18 => ?_) (fun hc18 => ?_)
            · have hp := hp.1 hc18
              refine lv_aload_n hx hb dX8_readsRight_77 rfl (lv_at hl 3 rfl) ?_
              refine lv_iload hx hb dX8_readsRight_78 (lv_at hl 0 rfl) ?_
              refine lv_bipush (v := 99) hx hb dX8_readsRight_80 (by decide) ?_
              refine hp_cVi ⟨hx, hb, hml, hown, hts⟩ (k_X8_takenNumber l G z w16 _ o r14 99 _ hp) (cwV 2 hts gX8_readsRight_X8_takenNumber rfl rfl rfl (by decide +kernel) ⟨Nat.le_of_ble_eq_true rfl, Nat.le_of_ble_eq_true rfl⟩) ho (by decide) rfl hK h hA hE rfl hl.1 rfl (Nat.le_of_ble_eq_true rfl) dX8_readsRight_82 ⟨Nat.le_of_ble_eq_true rfl, Nat.le_of_ble_eq_true rfl⟩ (fun r20 w19 H locs hp h => ?_)
              refine lv_istore (lv' := [(6, .int r20), (5, .int r14), (4, .int r8), (3, .int r2), (0, .ref o), (1, .ref p0), (2, .int p1)]) hx hb dX8_readsRight_85 hl (by decide) rfl (fun ls hl => ?_)
              refine lv_iload hx hb dX8_readsRight_87 (lv_at hl 0 rfl) ?_
              refine lv_iconst (v := (-1)) hx hb dX8_readsRight_89 (by decide) ?_
              refine lv_icmp_eq (tgt := 102) hx hb dX8_readsRight_90 (by decide) (fun hc21 => ?_) (fun hc21 => ?_)
              · have hp := hp.1 hc21
                refine lv_iconst (v := 0) hx hb dX8_readsRight_102 (by decide) ?_
                exact hp_iret hx hb hr rfl hlocks hK h hp dX8_readsRight_103
              · have hp := hp.2 hc21
                refine lv_aload_n hx hb dX8_readsRight_93 rfl (lv_at hl 4 rfl) ?_
                refine va_ldcS hx hb hown (ls_X8_readsRight_65 hE) dX8_readsRight_94 ?_
                refine hp_cVi ⟨hx, hb, hml, hown, hts⟩ (k_X8_takesWord l G z w19 _ o 5 _ hp) (cwV 1 hts gX8_readsRight_X8_takesWord rfl rfl rfl (by decide +kernel) ⟨Nat.le_of_ble_eq_true rfl, Nat.le_of_ble_eq_true rfl⟩) ho (by decide) rfl hK h hA hE rfl hl.1 rfl (Nat.le_of_ble_eq_true rfl) dX8_readsRight_96 ⟨Nat.le_of_ble_eq_true rfl, Nat.le_of_ble_eq_true rfl⟩ (fun r23 w22 H locs hp h => ?_)
                refine lv_if_ne (tgt := 104) hx hb dX8_readsRight_99 (by decide) (fun hc24 => ?_) (fun hc24 => ?_)
                · have hp := hp.1 hc24
                  refine lv_aload_n hx hb dX8_readsRight_104 rfl (lv_at hl 4 rfl) ?_
                  refine lv_iconst (v := 0) hx hb dX8_readsRight_105 (by decide) ?_
                  refine lv_bipush (v := 100) hx hb dX8_readsRight_106 (by decide) ?_
                  refine hp_cVi ⟨hx, hb, hml, hown, hts⟩ (k_X8_takenNumber l G z w22 _ o 0 100 _ hp) (cwV 2 hts gX8_readsRight_X8_takenNumber rfl rfl rfl (by decide +kernel) ⟨Nat.le_of_ble_eq_true rfl, Nat.le_of_ble_eq_true rfl⟩) ho (by decide) rfl hK h hA hE rfl hl.1 rfl (Nat.le_of_ble_eq_true rfl) dX8_readsRight_108 ⟨Nat.le_of_ble_eq_true rfl, Nat.le_of_ble_eq_true rfl⟩ (fun r26 w25 H locs hp h => ?_)
                  refine lv_istore (lv' := [(7, .int r26), (6, .int r20), (5, .int r14), (4, .int r8), (3, .int r2), (0, .ref o), (1, .ref p0), (2, .int p1)]) hx hb dX8_readsRight_111 hl (by decide) rfl (fun ls hl => ?_)
                  refine lv_iload hx hb dX8_readsRight_113 (lv_at hl 0 rfl) ?_
                  refine lv_iconst (v := (-1)) hx hb dX8_readsRight_115 (by decide) ?_
                  refine lv_icmp_ne (tgt := 121) hx hb dX8_readsRight_116 (by decide) (fun hc27 => ?_) (fun hc27 => ?_)
                  · have hp := hp.1 hc27
                    refine lv_aload_n hx hb dX8_readsRight_121 rfl (lv_at hl 6 rfl) ?_
                    refine lv_iload_n hx hb dX8_readsRight_122 rfl (lv_at hl 4 rfl) ?_
                    refine lv_iload hx hb dX8_readsRight_123 (lv_at hl 3 rfl) ?_
                    refine lv_iload hx hb dX8_readsRight_125 (lv_at hl 2 rfl) ?_
                    refine lv_iload hx hb dX8_readsRight_127 (lv_at hl 1 rfl) ?_
                    refine lv_iload hx hb dX8_readsRight_129 (lv_at hl 0 rfl) ?_
                    refine hp_cVv ⟨hx, hb, hml, hown, hts⟩ (k_X4_addPart l G z w25 _ p0 r2 r8 r14 r20 r26 _ hp) (cwV 5 hts gX8_readsRight_X4_addPart rfl rfl rfl (by decide +kernel) ⟨Nat.le_of_ble_eq_true rfl, Nat.le_of_ble_eq_true rfl⟩) hop0 (by decide) rfl hK h hA hE rfl hl.1 rfl (Nat.le_of_ble_eq_true rfl) dX8_readsRight_131 ⟨Nat.le_of_ble_eq_true rfl, Nat.le_of_ble_eq_true rfl⟩ (fun w28 H locs hp h => ?_)
                    refine lv_iconst (v := 1) hx hb dX8_readsRight_134 (by decide) ?_
                    exact hp_iret hx hb hr rfl hlocks hK h hp dX8_readsRight_135
                  · have hp := hp.2 hc27
                    refine lv_iconst (v := 0) hx hb dX8_readsRight_119 (by decide) ?_
                    exact hp_iret hx hb hr rfl hlocks hK h hp dX8_readsRight_120
                · have hp := hp.2 hc24
                  refine lv_iconst (v := 0) hx hb dX8_readsRight_102 (by decide) ?_
                  exact hp_iret hx hb hr rfl hlocks hK h hp dX8_readsRight_103
            · have hp := hp.2 hc18
              refine lv_iconst (v := 0) hx hb dX8_readsRight_75 (by decide) ?_
              exact hp_iret hx hb hr rfl hlocks hK h hp dX8_readsRight_76
        · have hp := hp.2 hc12
          refine lv_iconst (v := 0) hx hb dX8_readsRight_49 (by decide) ?_
          exact hp_iret hx hb hr rfl hlocks hK h hp dX8_readsRight_50
    · have hp := hp.2 hc6
      refine lv_iconst (v := 0) hx hb dX8_readsRight_23 (by decide) ?_
      exact hp_iret hx hb hr rfl hlocks hK h hp dX8_readsRight_24
abbrev rmX8_readsPart : Room := { frames := 6, cells := 0, slots := 0, locals := 135 }
theorem ls_X8_readsPart_38 {G : Gt} {A : Nat → Prop} {s : State} (hE : gE G A s s.heap) : vk_R RX8 38 "rest" (G.2.2.1 0) s := hE.2.2.2.2.2.2.2.2.1 (RX8, 38, "rest", 0) (List.mem_of_getElem? (i := 6) rfl)
theorem ls_X8_readsPart_48 {G : Gt} {A : Nat → Prop} {s : State} (hE : gE G A s s.heap) : vk_R RX8 48 "shore" (G.2.2.1 1) s := hE.2.2.2.2.2.2.2.2.1 (RX8, 48, "shore", 1) (List.mem_of_getElem? (i := 7) rfl)
def wp_X8_readsPart (z : Zt) (o : Nat) (p0 : Nat) (p1 : Int32) (w : Vt) (K : Int32 → Vt → Prop) : Prop := isO z 8 o ∧ isO z 4 p0 ∧ wp_X8_takesWord z o 0 w (fun r2 w1 => (r2 = 0 → wp_X8_takesWord z o 1 w1 (fun r5 w4 => (r5 = 0 → K 0 w4) ∧ (¬ r5 = 0 → wp_X8_readsRight z o p0 p1 w4 (fun r8 w7 => (r8 = 0 → K 0 w7) ∧ (¬ r8 = 0 → K 1 w7))))) ∧ (¬ r2 = 0 → wp_X8_readsRest z o p0 w1 (fun r11 w10 => isB r11 ∧ K r11 w10)))
set_option maxHeartbeats 4000000 in
set_option maxRecDepth 100000 in
theorem k_X8_readsPart (l : Launch) (G : Gt) (z : Zt) (w : Vt) (sz : Nat) (o : Nat) (p0 : Nat) (p1 : Int32) (K : Int32 → Vt → Prop) (hp : wp_X8_readsPart z o p0 p1 w K) : MI l yX8_readsPart wsX8_readsPart rmX8_readsPart G z w sz [.ref o, .ref p0, .int p1] K := by
  refine Met.ofW (cc := cX8_readsPart) (maxL := 3) (ret := (some .boolean)) (by decide +kernel) rfl ?_
  intro p e s m args below meth c s₁ B hml hv
  obtain ⟨rfl, rfl, C, h⟩ := hp_start B hml hv
  generalize gA G z w s.heap.size = A at C h ⊢
  obtain ⟨hx, hb, hr, hlocks, hml, hown, hts, hK, hA, hE⟩ := id C
  obtain ⟨ho, hp⟩ := hp
  obtain ⟨hop0, hp⟩ := hp
  have hl := lv_entry ([.ref o, .ref p0, .int p1]) (n := 3) (Nat.le_of_ble_eq_true rfl)
  rw [lg_entry_eq]
  generalize (lg_sl ([.ref o, .ref p0, .int p1]) ++ List.replicate (3 - (lg_sl ([.ref o, .ref p0, .int p1])).length) Slot.unset).toArray = ls at hl ⊢
  have hl : lv_has ls 3 [(0, .ref o), (1, .ref p0), (2, .int p1)] := hl
  refine lv_aload_n hx hb dX8_readsPart_0 rfl (lv_at hl 0 rfl) ?_
  refine va_ldcS hx hb hown (ls_X8_readsPart_38 hE) dX8_readsPart_1 ?_
  refine hp_cVi ⟨hx, hb, hml, hown, hts⟩ (k_X8_takesWord l G z w _ o 0 _ hp) (cwV 1 hts gX8_readsPart_X8_takesWord rfl rfl rfl (by decide +kernel) ⟨Nat.le_of_ble_eq_true rfl, Nat.le_of_ble_eq_true rfl⟩) ho (by decide) rfl hK h hA hE rfl hl.1 rfl (Nat.le_of_ble_eq_true rfl) dX8_readsPart_3 ⟨Nat.le_of_ble_eq_true rfl, Nat.le_of_ble_eq_true rfl⟩ (fun r2 w1 H locs hp h => ?_)
  refine lv_if_eq (tgt := 15) hx hb dX8_readsPart_6 (by decide) (fun hc3 => ?_) (fun hc3 => ?_)
  · have hp := hp.1 hc3
    refine lv_aload_n hx hb dX8_readsPart_15 rfl (lv_at hl 0 rfl) ?_
    refine va_ldcS hx hb hown (ls_X8_readsPart_48 hE) dX8_readsPart_16 ?_
    refine hp_cVi ⟨hx, hb, hml, hown, hts⟩ (k_X8_takesWord l G z w1 _ o 1 _ hp) (cwV 1 hts gX8_readsPart_X8_takesWord rfl rfl rfl (by decide +kernel) ⟨Nat.le_of_ble_eq_true rfl, Nat.le_of_ble_eq_true rfl⟩) ho (by decide) rfl hK h hA hE rfl hl.1 rfl (Nat.le_of_ble_eq_true rfl) dX8_readsPart_18 ⟨Nat.le_of_ble_eq_true rfl, Nat.le_of_ble_eq_true rfl⟩ (fun r5 w4 H locs hp h => ?_)
    refine lv_if_eq (tgt := 37) hx hb dX8_readsPart_21 (by decide) (fun hc6 => ?_) (fun hc6 => ?_)
    · have hp := hp.1 hc6
      refine lv_iconst (v := 0) hx hb dX8_readsPart_37 (by decide) ?_
      exact hp_iret hx hb hr rfl hlocks hK h hp dX8_readsPart_38
    · have hp := hp.2 hc6
      refine lv_aload_n hx hb dX8_readsPart_24 rfl (lv_at hl 0 rfl) ?_
      refine lv_aload_n hx hb dX8_readsPart_25 rfl (lv_at hl 1 rfl) ?_
      refine lv_iload_n hx hb dX8_readsPart_26 rfl (lv_at hl 2 rfl) ?_
      refine hp_cVi ⟨hx, hb, hml, hown, hts⟩ (k_X8_readsRight l G z w4 _ o p0 p1 _ hp) (cwV 2 hts gX8_readsPart_X8_readsRight rfl rfl rfl (by decide +kernel) ⟨Nat.le_of_ble_eq_true rfl, Nat.le_of_ble_eq_true rfl⟩) ho (by decide) rfl hK h hA hE rfl hl.1 rfl (Nat.le_of_ble_eq_true rfl) dX8_readsPart_27 ⟨Nat.le_of_ble_eq_true rfl, Nat.le_of_ble_eq_true rfl⟩ (fun r8 w7 H locs hp h => ?_)
      refine lv_if_eq (tgt := 37) hx hb dX8_readsPart_30 (by decide) (fun hc9 => ?_) (fun hc9 => ?_)
      · have hp := hp.1 hc9
        refine lv_iconst (v := 0) hx hb dX8_readsPart_37 (by decide) ?_
        exact hp_iret hx hb hr rfl hlocks hK h hp dX8_readsPart_38
      · have hp := hp.2 hc9
        refine lv_iconst (v := 1) hx hb dX8_readsPart_33 (by decide) ?_
        refine lv_goto (tgt := 38) hx hb dX8_readsPart_34 (by decide) ?_
        exact hp_iret hx hb hr rfl hlocks hK h hp dX8_readsPart_38
  · have hp := hp.2 hc3
    refine lv_aload_n hx hb dX8_readsPart_9 rfl (lv_at hl 0 rfl) ?_
    refine lv_aload_n hx hb dX8_readsPart_10 rfl (lv_at hl 1 rfl) ?_
    refine hp_cVi ⟨hx, hb, hml, hown, hts⟩ (k_X8_readsRest l G z w1 _ o p0 _ hp) (cwV 1 hts gX8_readsPart_X8_readsRest rfl rfl rfl (by decide +kernel) ⟨Nat.le_of_ble_eq_true rfl, Nat.le_of_ble_eq_true rfl⟩) ho (by decide) rfl hK h hA hE rfl hl.1 rfl (Nat.le_of_ble_eq_true rfl) dX8_readsPart_11 ⟨Nat.le_of_ble_eq_true rfl, Nat.le_of_ble_eq_true rfl⟩ (fun r11 w10 H locs hp h => ?_)
    exact hp_iret hx hb hr (isB_n hp.1) hlocks hK h hp.2 dX8_readsPart_14
abbrev rmX8_partsRead : Room := { frames := 7, cells := 0, slots := 0, locals := 157 }
theorem ix_X8_partsRead_8 : ∀ w ∈ wsX80, w ∈ wsX8_partsRead := by decide +kernel
theorem lk_X8_partsRead_24 : Cond.fieldLink RX8 24 "KelpShores$Tape" "at" "I" ∈ wsX8_partsRead := by decide +kernel
theorem lk_X8_partsRead_15 : Cond.fieldLink RX8 15 "KelpShores$Tape" "length" "I" ∈ wsX8_partsRead := by decide +kernel
def wL_X8_partsRead_11 (z : Zt) (o : Nat) (p0 : Nat) (K : Int32 → Vt → Prop) (Kx : Int32 → Int32 → Vt → Prop) : Nat → Int32 → Int32 → Vt → Prop
  | 0, _, _, _ => False
  | n + 1, x3_, x2_, w => (400 < x3_ → Kx x3_ x2_ w) ∧ (¬ 400 < x3_ → wp_X8_readsPart z o p0 x2_ w (fun r6 w5 => (¬ r6 = 0 → wp_X8_skipBlanks z o w5 (fun w8 => ((vI w8 802 o) < (vI w8 801 o) → wp_X8_byteAt z o (vI w8 802 o) w8 (fun r12 w11 => (r12 = 59 → ∀ w14 : Vt, w14 = uI w11 802 o ((vI w11 802 o) + 1) → ∀ x15 : Int32, x15 = x3_ + 1 → wL_X8_partsRead_11 z o p0 K Kx n x15 x2_ w14) ∧ (¬ r12 = 59 → K (-1) w11))) ∧ (¬ (vI w8 802 o) < (vI w8 801 o) → K x3_ w8))) ∧ (r6 = 0 → K (-1) w5)))
set_option maxHeartbeats 4000000 in
set_option maxRecDepth 100000 in
theorem kL_X8_partsRead_11 {p : Program} {l : Launch} {e : Env} {s : State} {m : MethodId} {args : Array Value} {below : List Frame} {meth : Method} {c : Code} {G : Gt} {A : Nat → Prop} {z : Zt} (C : gC p s m args meth c cX8_partsRead 4 RX8 wsX8_partsRead (some .int) G A) (o : Nat) (p0 : Nat) (ho : isO z 8 o) (hop0 : isO z 4 p0) (K : Int32 → Vt → Prop) (Kx : Int32 → Int32 → Vt → Prop) (kKx : ∀ (x3_ x2_ : Int32) (w : Vt) (H : Heap) (locs : List Loc) (ls : Array Slot), Kx x3_ x2_ w → hpH G.1 G.2.1 A s.heap z w H locs → lv_has ls 4 [(3, .int x3_), (0, .ref o), (1, .ref p0), (2, .int x2_)] → W p l e (headSpec wsX8_partsRead rmX8_partsRead).room s m args below meth c H locs 0 0 (MQ below (va_Qi K (gB G A z) A) args s 0 0 A) (F0 m 77 ls [])) : ∀ (n : Nat) (x3_ x2_ : Int32) (w : Vt) (H : Heap) (locs : List Loc) (ls : Array Slot), wL_X8_partsRead_11 z o p0 K Kx n x3_ x2_ w → hpH G.1 G.2.1 A s.heap z w H locs → lv_has ls 4 [(3, .int x3_), (0, .ref o), (1, .ref p0), (2, .int x2_)] → W p l e (headSpec wsX8_partsRead rmX8_partsRead).room s m args below meth c H locs 0 0 (MQ below (va_Qi K (gB G A z) A) args s 0 0 A) (F0 m 11 ls []) := by
  obtain ⟨hx, hb, hr, hlocks, hml, hown, hts, hK, hA, hE⟩ := id C
  intro n
  induction n with
  | zero =>
    intro x3_ x2_ w H locs ls hp
    exact hp.elim
  | succ n ih =>
    intro x3_ x2_ w H locs ls hp h hl
    refine lv_iload_n hx hb dX8_partsRead_11 rfl (lv_at hl 0 rfl) ?_
    refine lv_sipush (v := 400) hx hb dX8_partsRead_12 (by decide) ?_
    refine lv_icmp_gt (tgt := 77) hx hb dX8_partsRead_15 (by decide) (fun hc4 => ?_) (fun hc4 => ?_)
    · have hp := hp.1 hc4
      exact kKx x3_ x2_ w _ _ _ hp h (lv_sub hl [0, 1, 2, 3] rfl)
    · have hp := hp.2 hc4
      refine lv_aload_n hx hb dX8_partsRead_18 rfl (lv_at hl 1 rfl) ?_
      refine lv_aload_n hx hb dX8_partsRead_19 rfl (lv_at hl 2 rfl) ?_
      refine lv_iload_n hx hb dX8_partsRead_20 rfl (lv_at hl 3 rfl) ?_
      refine hp_cVi ⟨hx, hb, hml, hown, hts⟩ (k_X8_readsPart l G z w _ o p0 x2_ _ hp) (cwV 2 hts gX8_partsRead_X8_readsPart rfl rfl rfl (by decide +kernel) ⟨Nat.le_of_ble_eq_true rfl, Nat.le_of_ble_eq_true rfl⟩) ho (by decide) rfl hK h hA hE rfl hl.1 rfl (Nat.le_of_ble_eq_true rfl) dX8_partsRead_21 ⟨Nat.le_of_ble_eq_true rfl, Nat.le_of_ble_eq_true rfl⟩ (fun r6 w5 H locs hp h => ?_)
      refine lv_if_ne (tgt := 29) hx hb dX8_partsRead_24 (by decide) (fun hc7 => ?_) (fun hc7 => ?_)
      · have hp := hp.1 hc7
        refine lv_aload_n hx hb dX8_partsRead_29 rfl (lv_at hl 1 rfl) ?_
        refine hp_cVv ⟨hx, hb, hml, hown, hts⟩ (k_X8_skipBlanks l G z w5 _ o _ hp) (cwV 0 hts gX8_partsRead_X8_skipBlanks rfl rfl rfl (by decide +kernel) ⟨Nat.le_of_ble_eq_true rfl, Nat.le_of_ble_eq_true rfl⟩) ho (by decide) rfl hK h hA hE rfl hl.1 rfl (Nat.le_of_ble_eq_true rfl) dX8_partsRead_30 ⟨Nat.le_of_ble_eq_true rfl, Nat.le_of_ble_eq_true rfl⟩ (fun w8 H locs hp h => ?_)
        refine lv_aload_n hx hb dX8_partsRead_33 rfl (lv_at hl 1 rfl) ?_
        refine hp_get (ci := 8) (v := .int (vI w8 802 o)) hx hb hts ix_X8_partsRead_8 hown hK h ho (by decide) rfl 2 (by decide) (hts _ lk_X8_partsRead_24) (fun _ h9 => h9) rfl dX8_partsRead_34 ?_
        refine lv_aload_n hx hb dX8_partsRead_37 rfl (lv_at hl 1 rfl) ?_
        refine hp_get (ci := 8) (v := .int (vI w8 801 o)) hx hb hts ix_X8_partsRead_8 hown hK h ho (by decide) rfl 1 (by decide) (hts _ lk_X8_partsRead_15) (fun _ h9 => h9) rfl dX8_partsRead_38 ?_
        refine lv_icmp_lt (tgt := 46) hx hb dX8_partsRead_41 (by decide) (fun hc10 => ?_) (fun hc10 => ?_)
        · have hp := hp.1 hc10
          refine lv_aload_n hx hb dX8_partsRead_46 rfl (lv_at hl 1 rfl) ?_
          refine lv_aload_n hx hb dX8_partsRead_47 rfl (lv_at hl 1 rfl) ?_
          refine hp_get (ci := 8) (v := .int (vI w8 802 o)) hx hb hts ix_X8_partsRead_8 hown hK h ho (by decide) rfl 2 (by decide) (hts _ lk_X8_partsRead_24) (fun _ h9 => h9) rfl dX8_partsRead_48 ?_
          refine hp_cVi ⟨hx, hb, hml, hown, hts⟩ (k_X8_byteAt l G z w8 _ o (vI w8 802 o) _ hp) (cwV 1 hts gX8_partsRead_X8_byteAt rfl rfl rfl (by decide +kernel) ⟨Nat.le_of_ble_eq_true rfl, Nat.le_of_ble_eq_true rfl⟩) ho (by decide) rfl hK h hA hE rfl hl.1 rfl (Nat.le_of_ble_eq_true rfl) dX8_partsRead_51 ⟨Nat.le_of_ble_eq_true rfl, Nat.le_of_ble_eq_true rfl⟩ (fun r12 w11 H locs hp h => ?_)
          refine lv_bipush (v := 59) hx hb dX8_partsRead_54 (by decide) ?_
          refine lv_icmp_eq (tgt := 61) hx hb dX8_partsRead_56 (by decide) (fun hc13 => ?_) (fun hc13 => ?_)
          · have hp := hp.1 hc13
            refine lv_aload_n hx hb dX8_partsRead_61 rfl (lv_at hl 1 rfl) ?_
            refine lv_dup hx hb dX8_partsRead_62 rfl ?_
            refine hp_get (ci := 8) (v := .int (vI w11 802 o)) hx hb hts ix_X8_partsRead_8 hown hK h ho (by decide) rfl 2 (by decide) (hts _ lk_X8_partsRead_24) (fun _ h9 => h9) rfl dX8_partsRead_63 ?_
            refine lv_iconst (v := 1) hx hb dX8_partsRead_66 (by decide) ?_
            refine lv_iadd hx hb dX8_partsRead_67 ?_
            refine hp_puti (ci := 8) (ty := .int) (x := (vI w11 802 o) + 1) hx hb hts ix_X8_partsRead_8 tyX8 tyX8_ok nmX8 hown hK h ho (by decide) rfl 2 802 (by decide) (hts _ lk_X8_partsRead_24) (fun _ h9 => h9) rfl (by decide +kernel) rfl rfl (fun _ _ => rfl) (fun _ _ => Nat.le_of_ble_eq_true rfl) dX8_partsRead_68 (fun H locs w14 ew14 h => ?_)
            have hp := hp w14 ew14
            obtain ⟨x15, ex15⟩ : ∃ y : Int32, y = x3_ + 1 := ⟨_, rfl⟩
            have hp := hp x15 ex15
            refine lv_iinc (v := x15) (lv' := [(3, .int x15), (0, .ref o), (1, .ref p0), (2, .int x2_)]) hx hb dX8_partsRead_71 hl (k := 0) rfl (by rw [ex15]; rfl) (by decide) rfl (fun ls hl => ?_)
            refine lv_goto (tgt := 11) hx hb dX8_partsRead_74 (by decide) ?_
            exact ih x15 x2_ w14 _ _ _ hp h (lv_sub hl [0, 1, 2, 3] rfl)
          · have hp := hp.2 hc13
            refine lv_iconst (v := (-1)) hx hb dX8_partsRead_59 (by decide) ?_
            exact hp_iret hx hb hr rfl hlocks hK h hp dX8_partsRead_60
        · have hp := hp.2 hc10
          refine lv_iload_n hx hb dX8_partsRead_44 rfl (lv_at hl 0 rfl) ?_
          exact hp_iret hx hb hr rfl hlocks hK h hp dX8_partsRead_45
      · have hp := hp.2 hc7
        refine lv_iconst (v := (-1)) hx hb dX8_partsRead_27 (by decide) ?_
        exact hp_iret hx hb hr rfl hlocks hK h hp dX8_partsRead_28
def wp_X8_partsRead (z : Zt) (o : Nat) (p0 : Nat) (p1 : Int32) (w : Vt) (K : Int32 → Vt → Prop) : Prop := isO z 8 o ∧ isO z 4 p0 ∧ wp_X4_forgetAll z p0 w (fun w1 => ∀ w3 : Vt, w3 = uI w1 802 o 0 → ∃ n16 : Nat, wL_X8_partsRead_11 z o p0 K (fun x17 x18 w19 => K (-1) w19) n16 1 p1 w3)
set_option maxHeartbeats 4000000 in
set_option maxRecDepth 100000 in
theorem k_X8_partsRead (l : Launch) (G : Gt) (z : Zt) (w : Vt) (sz : Nat) (o : Nat) (p0 : Nat) (p1 : Int32) (K : Int32 → Vt → Prop) (hp : wp_X8_partsRead z o p0 p1 w K) : MI l yX8_partsRead wsX8_partsRead rmX8_partsRead G z w sz [.ref o, .ref p0, .int p1] K := by
  refine Met.ofW (cc := cX8_partsRead) (maxL := 4) (ret := (some .int)) (by decide +kernel) rfl ?_
  intro p e s m args below meth c s₁ B hml hv
  obtain ⟨rfl, rfl, C, h⟩ := hp_start B hml hv
  generalize gA G z w s.heap.size = A at C h ⊢
  obtain ⟨hx, hb, hr, hlocks, hml, hown, hts, hK, hA, hE⟩ := id C
  obtain ⟨ho, hp⟩ := hp
  obtain ⟨hop0, hp⟩ := hp
  have hl := lv_entry ([.ref o, .ref p0, .int p1]) (n := 4) (Nat.le_of_ble_eq_true rfl)
  rw [lg_entry_eq]
  generalize (lg_sl ([.ref o, .ref p0, .int p1]) ++ List.replicate (4 - (lg_sl ([.ref o, .ref p0, .int p1])).length) Slot.unset).toArray = ls at hl ⊢
  have hl : lv_has ls 4 [(0, .ref o), (1, .ref p0), (2, .int p1)] := hl
  refine lv_aload_n hx hb dX8_partsRead_0 rfl (lv_at hl 1 rfl) ?_
  refine hp_cVv ⟨hx, hb, hml, hown, hts⟩ (k_X4_forgetAll l G z w _ p0 _ hp) (cwV 0 hts gX8_partsRead_X4_forgetAll rfl rfl rfl (by decide +kernel) ⟨Nat.le_of_ble_eq_true rfl, Nat.le_of_ble_eq_true rfl⟩) hop0 (by decide) rfl hK h hA hE rfl hl.1 rfl (Nat.le_of_ble_eq_true rfl) dX8_partsRead_1 ⟨Nat.le_of_ble_eq_true rfl, Nat.le_of_ble_eq_true rfl⟩ (fun w1 H locs hp h => ?_)
  refine lv_aload_n hx hb dX8_partsRead_4 rfl (lv_at hl 0 rfl) ?_
  refine lv_iconst (v := 0) hx hb dX8_partsRead_5 (by decide) ?_
  refine hp_puti (ci := 8) (ty := .int) (x := 0) hx hb hts ix_X8_partsRead_8 tyX8 tyX8_ok nmX8 hown hK h ho (by decide) rfl 2 802 (by decide) (hts _ lk_X8_partsRead_24) (fun _ h9 => h9) rfl (by decide +kernel) rfl rfl (fun _ _ => rfl) (fun _ _ => Nat.le_of_ble_eq_true rfl) dX8_partsRead_6 (fun H locs w3 ew3 h => ?_)
  have hp := hp w3 ew3
  refine lv_iconst (v := 1) hx hb dX8_partsRead_9 (by decide) ?_
  refine lv_istore_n (lv' := [(3, .int 1), (0, .ref o), (1, .ref p0), (2, .int p1)]) hx hb dX8_partsRead_10 rfl hl (by decide) rfl (fun ls hl => ?_)
  obtain ⟨n16, hp⟩ := hp
  refine kL_X8_partsRead_11 C o p0 ho hop0 _ _ (fun x17 x18 w19 H locs ls hp h hl => ?_) n16 1 p1 w3 _ _ _ hp h (lv_sub hl [0, 1, 2, 3] rfl)
  refine lv_iconst (v := (-1)) hx hb dX8_partsRead_77 (by decide) ?_
  exact hp_iret hx hb hr rfl hlocks hK h hp dX8_partsRead_78
