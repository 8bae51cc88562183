abbrev rmX9_feed : Room := { frames := 1, cells := 0, slots := 0, locals := 22 }
theorem ix_X9_feed_9 : ∀ w ∈ wsX90, w ∈ wsX9_feed := by decide +kernel
theorem lk_X9_feed_10 : Cond.fieldLink RX9 10 "KelpShores" "tape" "LKelpShores$Tape;" ∈ wsX9_feed := by decide +kernel
theorem ix_X9_feed_8 : ∀ w ∈ wsX80, w ∈ wsX9_feed := by decide +kernel
theorem lk_X9_feed_73 {G : Gt} {A : Nat → Prop} {s : State} {args : Array Value} (hE : gE G A s s.heap) : (Cond.fieldLinkNest RX9 73 "KelpShores$Tape" "length" "I" "KelpShores").before args s = true := by
  have h : va_Nw (Cond.fieldLinkNest RX9 73 "KelpShores$Tape" "length" "I" "KelpShores") s := hE.1 (RX9, 73, "KelpShores$Tape", "length", "I") (List.mem_of_getElem? (i := 0) rfl)
  exact va_Nw.use rfl h
def wp_X9_feed (z : Zt) (o : Nat) (p0 : Int32) (p1 : Int32) (p2 : Int32) (p3 : Int32) (p4 : Int32) (w : Vt) (K : Int32 → Vt → Prop) : Prop := isO z 9 o ∧ ∃ b1 : Nat, zR z 900 o = some b1 ∧ isO z 8 b1 ∧ (((vI w 801 b1) + 20) ≤ 400 → wp_X8_putNumber z b1 p0 w (fun w3 => wp_X8_putNumber z b1 p1 w3 (fun w5 => wp_X8_putNumber z b1 p2 w5 (fun w7 => wp_X8_putNumber z b1 p3 w7 (fun w9 => wp_X8_putNumber z b1 p4 w9 (fun w11 => K (vI w11 801 b1) w11)))))) ∧ (¬ ((vI w 801 b1) + 20) ≤ 400 → K (-1) w)
set_option maxHeartbeats 4000000 in
set_option maxRecDepth 100000 in
theorem k_X9_feed (l : Launch) (G : Gt) (z : Zt) (w : Vt) (sz : Nat) (o : Nat) (p0 : Int32) (p1 : Int32) (p2 : Int32) (p3 : Int32) (p4 : Int32) (K : Int32 → Vt → Prop) (hp : wp_X9_feed z o p0 p1 p2 p3 p4 w K) : MI l yX9_feed wsX9_feed rmX9_feed G z w sz [.ref o, .int p0, .int p1, .int p2, .int p3, .int p4] K := by
  refine Met.ofW (cc := cX9_feed) (maxL := 6) (ret := (some .int)) (by decide +kernel) rfl ?_
  intro p e s m args below meth c s₁ B hml hv
  obtain ⟨rfl, rfl, C, h⟩ := hp_start B hml hv
  generalize gA G z w s.heap.size = A at C h ⊢
  obtain ⟨hx, hb, hr, hlocks, hml, hown, hts, hK, hA, hE⟩ := id C
  obtain ⟨ho, hp⟩ := hp
  have hl := lv_entry ([.ref o, .int p0, .int p1, .int p2, .int p3, .int p4]) (n := 6) (Nat.le_of_ble_eq_true rfl)
  rw [lg_entry_eq]
  generalize (lg_sl ([.ref o, .int p0, .int p1, .int p2, .int p3, .int p4]) ++ List.replicate (6 - (lg_sl ([.ref o, .int p0, .int p1, .int p2, .int p3, .int p4])).length) Slot.unset).toArray = ls at hl ⊢
  have hl : lv_has ls 6 [(0, .ref o), (1, .int p0), (2, .int p1), (3, .int p2), (4, .int p3), (5, .int p4)] := hl
  refine lv_aload_n hx hb dX9_feed_0 rfl (lv_at hl 0 rfl) ?_
  obtain ⟨b1, eb1, hob1, hp⟩ := hp
  refine hp_get (ci := 9) (v := .ref b1) hx hb hts ix_X9_feed_9 hown hK h ho (by decide) rfl 0 (by decide) (hts _ lk_X9_feed_10) (fun _ h9 => h9) (by show some (va_rf (zR z 900 o)) = some (Value.ref b1); rw [eb1]; rfl) dX9_feed_1 ?_
  refine hp_getN (ci := 8) (v := .int (vI w 801 b1)) hx hb hts ix_X9_feed_8 hown hK h hob1 (by decide) rfl 1 (by decide) (lk_X9_feed_73 hE) (fun _ h9 => h9) rfl dX9_feed_4 ?_
  refine lv_bipush (v := 20) hx hb dX9_feed_7 (by decide) ?_
  refine lv_iadd hx hb dX9_feed_9 ?_
  refine lv_sipush (v := 400) hx hb dX9_feed_10 (by decide) ?_
  refine lv_icmp_le (tgt := 18) hx hb dX9_feed_13 (by decide) (fun hc2 => ?_) (fun hc2 => ?_)
  · have hp := hp.1 hc2
    refine lv_aload_n hx hb dX9_feed_18 rfl (lv_at hl 0 rfl) ?_
    refine hp_get (ci := 9) (v := .ref b1) hx hb hts ix_X9_feed_9 hown hK h ho (by decide) rfl 0 (by decide) (hts _ lk_X9_feed_10) (fun _ h9 => h9) (by show some (va_rf (zR z 900 o)) = some (Value.ref b1); rw [eb1]; rfl) dX9_feed_19 ?_
    refine lv_iload_n hx hb dX9_feed_22 rfl (lv_at hl 1 rfl) ?_
    refine hp_cVv ⟨hx, hb, hml, hown, hts⟩ (k_X8_putNumber l G z w _ b1 p0 _ hp) (cwV 1 hts gX9_feed_X8_putNumber rfl rfl rfl (by decide +kernel) ⟨Nat.le_of_ble_eq_true rfl, Nat.le_of_ble_eq_true rfl⟩) hob1 (by decide) rfl hK h hA hE rfl hl.1 rfl (Nat.le_of_ble_eq_true rfl) dX9_feed_23 ⟨Nat.le_of_ble_eq_true rfl, Nat.le_of_ble_eq_true rfl⟩ (fun w3 H locs hp h => ?_)
    refine lv_aload_n hx hb dX9_feed_26 rfl (lv_at hl 0 rfl) ?_
    refine hp_get (ci := 9) (v := .ref b1) hx hb hts ix_X9_feed_9 hown hK h ho (by decide) rfl 0 (by decide) (hts _ lk_X9_feed_10) (fun _ h9 => h9) (by show some (va_rf (zR z 900 o)) = some (Value.ref b1); rw [eb1]; rfl) dX9_feed_27 ?_
    refine lv_iload_n hx hb dX9_feed_30 rfl (lv_at hl 2 rfl) ?_
    refine hp_cVv ⟨hx, hb, hml, hown, hts⟩ (k_X8_putNumber l G z w3 _ b1 p1 _ hp) (cwV 1 hts gX9_feed_X8_putNumber rfl rfl rfl (by decide +kernel) ⟨Nat.le_of_ble_eq_true rfl, Nat.le_of_ble_eq_true rfl⟩) hob1 (by decide) rfl hK h hA hE rfl hl.1 rfl (Nat.le_of_ble_eq_true rfl) dX9_feed_31 ⟨Nat.le_of_ble_eq_true rfl, Nat.le_of_ble_eq_true rfl⟩ (fun w5 H locs hp h => ?_)
    refine lv_aload_n hx hb dX9_feed_34 rfl (lv_at hl 0 rfl) ?_
    refine hp_get (ci := 9) (v := .ref b1) hx hb hts ix_X9_feed_9 hown hK h ho (by decide) rfl 0 (by decide) (hts _ lk_X9_feed_10) (fun _ h9 => h9) (by show some (va_rf (zR z 900 o)) = some (Value.ref b1); rw [eb1]; rfl) dX9_feed_35 ?_
    refine lv_iload_n hx hb dX9_feed_38 rfl (lv_at hl 3 rfl) ?_
    refine hp_cVv ⟨hx, hb, hml, hown, hts⟩ (k_X8_putNumber l G z w5 _ b1 p2 _ hp) (cwV 1 hts gX9_feed_X8_putNumber rfl rfl rfl (by decide +kernel) ⟨Nat.le_of_ble_eq_true rfl, Nat.le_of_ble_eq_true rfl⟩) hob1 (by decide) rfl hK h hA hE rfl hl.1 rfl (Nat.le_of_ble_eq_true rfl) dX9_feed_39 ⟨Nat.le_of_ble_eq_true rfl, Nat.le_of_ble_eq_true rfl⟩ (fun w7 H locs hp h => ?_)
    refine lv_aload_n hx hb dX9_feed_42 rfl (lv_at hl 0 rfl) ?_
    refine hp_get (ci := 9) (v := .ref b1) hx hb hts ix_X9_feed_9 hown hK h ho (by decide) rfl 0 (by decide) (hts _ lk_X9_feed_10) (fun _ h9 => h9) (by show some (va_rf (zR z 900 o)) = some (Value.ref b1); rw [eb1]; rfl) dX9_feed_43 ?_
    refine lv_iload hx hb dX9_feed_46 (lv_at hl 4 rfl) ?_
    refine hp_cVv ⟨hx, hb, hml, hown, hts⟩ (k_X8_putNumber l G z w7 _ b1 p3 _ hp) (cwV 1 hts gX9_feed_X8_putNumber rfl rfl rfl (by decide +kernel) ⟨Nat.le_of_ble_eq_true rfl, Nat.le_of_ble_eq_true rfl⟩) hob1 (by decide) rfl hK h hA hE rfl hl.1 rfl (Nat.le_of_ble_eq_true rfl) dX9_feed_48 ⟨Nat.le_of_ble_eq_true rfl, Nat.le_of_ble_eq_true rfl⟩ (fun w9 H locs hp h => ?_)
    refine lv_aload_n hx hb dX9_feed_51 rfl (lv_at hl 0 rfl) ?_
    refine hp_get (ci := 9) (v := .ref b1) hx hb hts ix_X9_feed_9 hown hK h ho (by decide) rfl 0 (by decide) (hts _ lk_X9_feed_10) (fun _ h9 => h9) (by show some (va_rf (zR z 900 o)) = some (Value.ref b1); rw [eb1]; rfl) dX9_feed_52 ?_
    refine lv_iload hx hb dX9_feed_55 (lv_at hl 5 rfl) ?_
    refine hp_cVv ⟨hx, hb, hml, hown, hts⟩ (k_X8_putNumber l G z w9 _ b1 p4 _ hp) (cwV 1 hts gX9_feed_X8_putNumber rfl rfl rfl (by decide +kernel) ⟨Nat.le_of_ble_eq_true rfl, Nat.le_of_ble_eq_true rfl⟩) hob1 (by decide) rfl hK h hA hE rfl hl.1 rfl (Nat.le_of_ble_eq_true rfl) dX9_feed_57 ⟨Nat.le_of_ble_eq_true rfl, Nat.le_of_ble_eq_true rfl⟩ (fun w11 H locs hp h => ?_)
    refine lv_aload_n hx hb dX9_feed_60 rfl (lv_at hl 0 rfl) ?_
    refine hp_get (ci := 9) (v := .ref b1) hx hb hts ix_X9_feed_9 hown hK h ho (by decide) rfl 0 (by decide) (hts _ lk_X9_feed_10) (fun _ h9 => h9) (by show some (va_rf (zR z 900 o)) = some (Value.ref b1); rw [eb1]; rfl) dX9_feed_61 ?_
    refine hp_getN (ci := 8) (v := .int (vI w11 801 b1)) hx hb hts ix_X9_feed_8 hown hK h hob1 (by decide) rfl 1 (by decide) (lk_X9_feed_73 hE) (fun _ h9 => h9) rfl dX9_feed_64 ?_
    exact hp_iret hx hb hr rfl hlocks hK h hp dX9_feed_67
  · have hp := hp.2 hc2
    refine lv_iconst (v := (-1)) hx hb dX9_feed_16 (by decide) ?_
    exact hp_iret hx hb hr rfl hlocks hK h hp dX9_feed_17
abbrev rmX9_end : Room := { frames := 0, cells := 0, slots := 0, locals := 0 }
theorem ix_X9_end_9 : ∀ w ∈ wsX90, w ∈ wsX9_end := by decide +kernel
theorem lk_X9_end_10 : Cond.fieldLink RX9 10 "KelpShores" "tape" "LKelpShores$Tape;" ∈ wsX9_end := by decide +kernel
theorem ix_X9_end_8 : ∀ w ∈ wsX80, w ∈ wsX9_end := by decide +kernel
theorem lk_X9_end_73 {G : Gt} {A : Nat → Prop} {s : State} {args : Array Value} (hE : gE G A s s.heap) : (Cond.fieldLinkNest RX9 73 "KelpShores$Tape" "length" "I" "KelpShores").before args s = true := by
  have h : va_Nw (Cond.fieldLinkNest RX9 73 "KelpShores$Tape" "length" "I" "KelpShores") s := hE.1 (RX9, 73, "KelpShores$Tape", "length", "I") (List.mem_of_getElem? (i := 0) rfl)
  exact va_Nw.use rfl h
def wp_X9_end (z : Zt) (o : Nat) (p0 : Int32) (w : Vt) (K : Int32 → Vt → Prop) : Prop := isO z 9 o ∧ (p0 < 0 → K 0 w) ∧ (¬ p0 < 0 → ∃ b2 : Nat, zR z 900 o = some b2 ∧ isO z 8 b2 ∧ (p0 ≤ (vI w 801 b2) → ∀ w4 : Vt, w4 = uI w 801 b2 p0 → K 1 w4) ∧ (¬ p0 ≤ (vI w 801 b2) → K 0 w))
set_option maxHeartbeats 4000000 in
set_option maxRecDepth 100000 in
theorem k_X9_end (l : Launch) (G : Gt) (z : Zt) (w : Vt) (sz : Nat) (o : Nat) (p0 : Int32) (K : Int32 → Vt → Prop) (hp : wp_X9_end z o p0 w K) : MI l yX9_end wsX9_end rmX9_end G z w sz [.ref o, .int p0] K := by
  refine Met.ofW (cc := cX9_end) (maxL := 2) (ret := (some .boolean)) (by decide +kernel) rfl ?_
  intro p e s m args below meth c s₁ B hml hv
  obtain ⟨rfl, rfl, C, h⟩ := hp_start B hml hv
  generalize gA G z w s.heap.size = A at C h ⊢
  obtain ⟨hx, hb, hr, hlocks, hml, hown, hts, hK, hA, hE⟩ := id C
  obtain ⟨ho, hp⟩ := hp
  have hl := lv_entry ([.ref o, .int p0]) (n := 2) (Nat.le_of_ble_eq_true rfl)
  rw [lg_entry_eq]
  generalize (lg_sl ([.ref o, .int p0]) ++ List.replicate (2 - (lg_sl ([.ref o, .int p0])).length) Slot.unset).toArray = ls at hl ⊢
  have hl : lv_has ls 2 [(0, .ref o), (1, .int p0)] := hl
  refine lv_iload_n hx hb dX9_end_0 rfl (lv_at hl 1 rfl) ?_
  refine lv_if_lt (tgt := 15) hx hb dX9_end_1 (by decide) (fun hc1 => ?_) (fun hc1 => ?_)
  · have hp := hp.1 hc1
    refine lv_iconst (v := 0) hx hb dX9_end_15 (by decide) ?_
    exact hp_iret hx hb hr rfl hlocks hK h hp dX9_end_16
  · have hp := hp.2 hc1
    refine lv_iload_n hx hb dX9_end_4 rfl (lv_at hl 1 rfl) ?_
    refine lv_aload_n hx hb dX9_end_5 rfl (lv_at hl 0 rfl) ?_
    obtain ⟨b2, eb2, hob2, hp⟩ := hp
    refine hp_get (ci := 9) (v := .ref b2) hx hb hts ix_X9_end_9 hown hK h ho (by decide) rfl 0 (by decide) (hts _ lk_X9_end_10) (fun _ h9 => h9) (by show some (va_rf (zR z 900 o)) = some (Value.ref b2); rw [eb2]; rfl) dX9_end_6 ?_
    refine hp_getN (ci := 8) (v := .int (vI w 801 b2)) hx hb hts ix_X9_end_8 hown hK h hob2 (by decide) rfl 1 (by decide) (lk_X9_end_73 hE) (fun _ h9 => h9) rfl dX9_end_9 ?_
    refine lv_icmp_le (tgt := 17) hx hb dX9_end_12 (by decide) (fun hc3 => ?_) (fun hc3 => ?_)
    · have hp := hp.1 hc3
      refine lv_aload_n hx hb dX9_end_17 rfl (lv_at hl 0 rfl) ?_
      refine hp_get (ci := 9) (v := .ref b2) hx hb hts ix_X9_end_9 hown hK h ho (by decide) rfl 0 (by decide) (hts _ lk_X9_end_10) (fun _ h9 => h9) (by show some (va_rf (zR z 900 o)) = some (Value.ref b2); rw [eb2]; rfl) dX9_end_18 ?_
      refine lv_iload_n hx hb dX9_end_21 rfl (lv_at hl 1 rfl) ?_
      refine hp_putiN (ci := 8) (ty := .int) (x := p0) hx hb hts ix_X9_end_8 tyX8 tyX8_ok nmX8 hown hK h hob2 (by decide) rfl 1 801 (by decide) (lk_X9_end_73 hE) (fun _ h9 => h9) rfl (by decide +kernel) rfl rfl (fun _ _ => rfl) (fun _ _ => Nat.le_of_ble_eq_true rfl) dX9_end_22 (fun H locs w4 ew4 h => ?_)
      have hp := hp w4 ew4
      refine lv_iconst (v := 1) hx hb dX9_end_25 (by decide) ?_
      exact hp_iret hx hb hr rfl hlocks hK h hp dX9_end_26
    · have hp := hp.2 hc3
      refine lv_iconst (v := 0) hx hb dX9_end_15 (by decide) ?_
      exact hp_iret hx hb hr rfl hlocks hK h hp dX9_end_16
abbrev rmX9_fault : Room := { frames := 0, cells := 0, slots := 0, locals := 0 }
theorem ix_X9_fault_9 : ∀ w ∈ wsX90, w ∈ wsX9_fault := by decide +kernel
theorem lk_X9_fault_26 : Cond.fieldLink RX9 26 "KelpShores" "wrongByte" "I" ∈ wsX9_fault := by decide +kernel
def wp_X9_fault (z : Zt) (o : Nat) (w : Vt) (K : Int32 → Vt → Prop) : Prop := isO z 9 o ∧ K (vI w 903 o) w
set_option maxHeartbeats 4000000 in
set_option maxRecDepth 100000 in
theorem k_X9_fault (l : Launch) (G : Gt) (z : Zt) (w : Vt) (sz : Nat) (o : Nat) (K : Int32 → Vt → Prop) (hp : wp_X9_fault z o w K) : MI l yX9_fault wsX9_fault rmX9_fault G z w sz [.ref o] K := by
  refine Met.ofW (cc := cX9_fault) (maxL := 1) (ret := (some .int)) (by decide +kernel) rfl ?_
  intro p e s m args below meth c s₁ B hml hv
  obtain ⟨rfl, rfl, C, h⟩ := hp_start B hml hv
  generalize gA G z w s.heap.size = A at C h ⊢
  obtain ⟨hx, hb, hr, hlocks, hml, hown, hts, hK, hA, hE⟩ := id C
  obtain ⟨ho, hp⟩ := hp
  have hl := lv_entry ([.ref o]) (n := 1) (Nat.le_of_ble_eq_true rfl)
  rw [lg_entry_eq]
  generalize (lg_sl ([.ref o]) ++ List.replicate (1 - (lg_sl ([.ref o])).length) Slot.unset).toArray = ls at hl ⊢
  have hl : lv_has ls 1 [(0, .ref o)] := hl
  refine lv_aload_n hx hb dX9_fault_0 rfl (lv_at hl 0 rfl) ?_
  refine hp_get (ci := 9) (v := .int (vI w 903 o)) hx hb hts ix_X9_fault_9 hown hK h ho (by decide) rfl 3 (by decide) (hts _ lk_X9_fault_26) (fun _ h9 => h9) rfl dX9_fault_1 ?_
  exact hp_iret hx hb hr rfl hlocks hK h hp dX9_fault_4
abbrev rmX9_isWeather : Room := { frames := 1, cells := 0, slots := 0, locals := 22 }
def wp_X9_isWeather (z : Zt) (p0 : Int32) (w : Vt) (K : Int32 → Vt → Prop) : Prop := wp_X9_isWithin z p0 0 9 w (fun r2 w1 => isB r2 ∧ K r2 w1)
set_option maxHeartbeats 4000000 in
set_option maxRecDepth 100000 in
theorem k_X9_isWeather (l : Launch) (G : Gt) (z : Zt) (w : Vt) (sz : Nat) (p0 : Int32) (K : Int32 → Vt → Prop) (hp : wp_X9_isWeather z p0 w K) : MI l yX9_isWeather wsX9_isWeather rmX9_isWeather G z w sz [.int p0] K := by
  refine Met.ofW (cc := cX9_isWeather) (maxL := 1) (ret := (some .boolean)) (by decide +kernel) rfl ?_
  intro p e s m args below meth c s₁ B hml hv
  obtain ⟨rfl, rfl, C, h⟩ := hp_start B hml hv
  generalize gA G z w s.heap.size = A at C h ⊢
  obtain ⟨hx, hb, hr, hlocks, hml, hown, hts, hK, hA, hE⟩ := id C
  have hl := lv_entry ([.int p0]) (n := 1) (Nat.le_of_ble_eq_true rfl)
  rw [lg_entry_eq]
  generalize (lg_sl ([.int p0]) ++ List.replicate (1 - (lg_sl ([.int p0])).length) Slot.unset).toArray = ls at hl ⊢
  have hl : lv_has ls 1 [(0, .int p0)] := hl
  refine lv_iload_n hx hb dX9_isWeather_0 rfl (lv_at hl 0 rfl) ?_
  refine lv_iconst (v := 0) hx hb dX9_isWeather_1 (by decide) ?_
  refine lv_bipush (v := 9) hx hb dX9_isWeather_2 (by decide) ?_
  refine hp_cSi ⟨hx, hb, hml, hown, hts⟩ (k_X9_isWithin l G z w _ p0 0 9 _ hp) (cwS 3 hts gX9_isWeather_X9_isWithin rfl rfl rfl (by decide +kernel) ⟨Nat.le_of_ble_eq_true rfl, Nat.le_of_ble_eq_true rfl⟩) hK h hA hE rfl hl.1 rfl (Nat.le_of_ble_eq_true rfl) dX9_isWeather_4 ⟨Nat.le_of_ble_eq_true rfl, Nat.le_of_ble_eq_true rfl⟩ (fun r2 w1 H locs hp h => ?_)
  exact hp_iret hx hb hr (isB_n hp.1) hlocks hK h hp.2 dX9_isWeather_7
abbrev rmX9_passOverShores : Room := { frames := 2, cells := 0, slots := 0, locals := 48 }
theorem ix_X9_passOverShores_9 : ∀ w ∈ wsX90, w ∈ wsX9_passOverShores := by decide +kernel
theorem lk_X9_passOverShores_202 : Cond.fieldLink RX9 202 "KelpShores" "today" "I" ∈ wsX9_passOverShores := by decide +kernel
theorem lk_X9_passOverShores_32 : Cond.fieldLink RX9 32 "KelpShores" "shores" "[LKelpShores$Shore;" ∈ wsX9_passOverShores := by decide +kernel
def wL_X9_passOverShores_28 (z : Zt) (b5 : Nat) (o : Nat) (K : Vt → Prop) (Kx : Int32 → Int32 → Int32 → Int32 → Vt → Prop) : Nat → Int32 → Int32 → Int32 → Int32 → Vt → Prop
  | 0, _, _, _, _, _ => False
  | n + 1, x5_, x4_, x2_, x1_, w => (x4_ ≤ x5_ → Kx x5_ x4_ x2_ x1_ w) ∧ (¬ x4_ ≤ x5_ → vp_in x5_ 6 ∧ (zO z 1904 b5 (x5_ : Int32).toNatClampNeg = none → ∀ x8 : Int32, x8 = x5_ + 1 → wL_X9_passOverShores_28 z b5 o K Kx n x8 x4_ x2_ x1_ w) ∧ (∀ b7 : Nat, zO z 1904 b5 (x5_ : Int32).toNatClampNeg = some b7 → isO z 6 b7 ∧ wp_X6_passDay z b7 x2_ x1_ w (fun w9 => ∀ x11 : Int32, x11 = x5_ + 1 → wL_X9_passOverShores_28 z b5 o K Kx n x11 x4_ x2_ x1_ w9)))
set_option maxHeartbeats 4000000 in
set_option maxRecDepth 100000 in
theorem kL_X9_passOverShores_28 {p : Program} {l : Launch} {e : Env} {s : State} {m : MethodId} {args : Array Value} {below : List Frame} {meth : Method} {c : Code} {G : Gt} {A : Nat → Prop} {z : Zt} (C : gC p s m args meth c cX9_passOverShores 7 RX9 wsX9_passOverShores none G A) (b5 : Nat) (o : Nat) (hob5 : isO z 1904 b5) (ho : isO z 9 o) (K : Vt → Prop) (Kx : Int32 → Int32 → Int32 → Int32 → Vt → Prop) (kKx : ∀ (x5_ x4_ x2_ x1_ : Int32) (w : Vt) (H : Heap) (locs : List Loc) (ls : Array Slot), Kx x5_ x4_ x2_ x1_ w → hpH G.1 G.2.1 A s.heap z w H locs → lv_has ls 7 [(5, .int x5_), (4, .int x4_), (3, .ref b5), (2, .int x2_), (0, .ref o), (1, .int x1_)] → W p l e (headSpec wsX9_passOverShores rmX9_passOverShores).room s m args below meth c H locs 0 0 (MQ below (va_Qv K (gB G A z) A) args s 0 0 A) (F0 m 59 ls [])) : ∀ (n : Nat) (x5_ x4_ x2_ x1_ : Int32) (w : Vt) (H : Heap) (locs : List Loc) (ls : Array Slot), wL_X9_passOverShores_28 z b5 o K Kx n x5_ x4_ x2_ x1_ w → hpH G.1 G.2.1 A s.heap z w H locs → lv_has ls 7 [(5, .int x5_), (4, .int x4_), (3, .ref b5), (2, .int x2_), (0, .ref o), (1, .int x1_)] → W p l e (headSpec wsX9_passOverShores rmX9_passOverShores).room s m args below meth c H locs 0 0 (MQ below (va_Qv K (gB G A z) A) args s 0 0 A) (F0 m 28 ls []) := by
  obtain ⟨hx, hb, hr, hlocks, hml, hown, hts, hK, hA, hE⟩ := id C
  intro n
  induction n with
  | zero =>
    intro x5_ x4_ x2_ x1_ w H locs ls hp
    exact hp.elim
  | succ n ih =>
    intro x5_ x4_ x2_ x1_ w H locs ls hp h hl
    refine lv_iload hx hb dX9_passOverShores_28 (lv_at hl 0 rfl) ?_
    refine lv_iload hx hb dX9_passOverShores_30 (lv_at hl 1 rfl) ?_
    refine lv_icmp_ge (tgt := 59) hx hb dX9_passOverShores_32 (by decide) (fun hc6 => ?_) (fun hc6 => ?_)
    · have hp := hp.1 hc6
      exact kKx x5_ x4_ x2_ x1_ w _ _ _ hp h (lv_sub hl [0, 1, 2, 3, 4, 5] rfl)
    · have hp := hp.2 hc6
      refine lv_aload_n hx hb dX9_passOverShores_35 rfl (lv_at hl 2 rfl) ?_
      refine lv_iload hx hb dX9_passOverShores_36 (lv_at hl 0 rfl) ?_
      refine hp_aald (t := 1904) (n := 6) hx hb hK h 7 rfl hob5 (by decide) (fun _ _ _ => rfl) hp.1 dX9_passOverShores_38 ?_
      have hp := hp.2
      cases eb7 : zO z 1904 b5 (x5_ : Int32).toNatClampNeg with
      | none =>
        have hp := hp.1 eb7
        refine lv_astoreN (lv' := [(6, .null), (5, .int x5_), (4, .int x4_), (3, .ref b5), (2, .int x2_), (0, .ref o), (1, .int x1_)]) hx hb dX9_passOverShores_39 hl (by decide) rfl (fun ls hl => ?_)
        refine lv_aloadN hx hb dX9_passOverShores_41 (lv_at hl 0 rfl) ?_
        refine lv_ifnullN (tgt := 53) hx hb dX9_passOverShores_43 (by decide) ?_
        obtain ⟨x8, ex8⟩ : ∃ y : Int32, y = x5_ + 1 := ⟨_, rfl⟩
        have hp := hp x8 ex8
        refine lv_iinc (v := x8) (lv' := [(5, .int x8), (6, .null), (4, .int x4_), (3, .ref b5), (2, .int x2_), (0, .ref o), (1, .int x1_)]) hx hb dX9_passOverShores_53 hl (k := 1) rfl (by rw [ex8]; rfl) (by decide) rfl (fun ls hl => ?_)
        refine lv_goto (tgt := 28) hx hb dX9_passOverShores_56 (by decide) ?_
        exact ih x8 x4_ x2_ x1_ w _ _ _ hp h (lv_sub hl [0, 2, 3, 4, 5, 6] rfl)
      | some b7 =>
        obtain ⟨hob7, hp⟩ := hp.2 b7 eb7
        refine lv_astore (lv' := [(6, .ref b7), (5, .int x5_), (4, .int x4_), (3, .ref b5), (2, .int x2_), (0, .ref o), (1, .int x1_)]) hx hb dX9_passOverShores_39 hl (by decide) rfl (fun ls hl => ?_)
        refine lv_aload hx hb dX9_passOverShores_41 (lv_at hl 0 rfl) ?_
        refine lv_ifnull hx hb dX9_passOverShores_43 ?_
        refine lv_aload hx hb dX9_passOverShores_46 (lv_at hl 0 rfl) ?_
        refine lv_iload_n hx hb dX9_passOverShores_48 rfl (lv_at hl 4 rfl) ?_
        refine lv_iload_n hx hb dX9_passOverShores_49 rfl (lv_at hl 6 rfl) ?_
        refine hp_cVv ⟨hx, hb, hml, hown, hts⟩ (k_X6_passDay l G z w _ b7 x2_ x1_ _ hp) (cwV 2 hts gX9_passOverShores_X6_passDay rfl rfl rfl (by decide +kernel) ⟨Nat.le_of_ble_eq_true rfl, Nat.le_of_ble_eq_true rfl⟩) hob7 (by decide) rfl hK h hA hE rfl hl.1 rfl (Nat.le_of_ble_eq_true rfl) dX9_passOverShores_50 ⟨Nat.le_of_ble_eq_true rfl, Nat.le_of_ble_eq_true rfl⟩ (fun w9 H locs hp h => ?_)
        obtain ⟨x11, ex11⟩ : ∃ y : Int32, y = x5_ + 1 := ⟨_, rfl⟩
        have hp := hp x11 ex11
        refine lv_iinc (v := x11) (lv' := [(5, .int x11), (6, .ref b7), (4, .int x4_), (3, .ref b5), (2, .int x2_), (0, .ref o), (1, .int x1_)]) hx hb dX9_passOverShores_53 hl (k := 1) rfl (by rw [ex11]; rfl) (by decide) rfl (fun ls hl => ?_)
        refine lv_goto (tgt := 28) hx hb dX9_passOverShores_56 (by decide) ?_
        exact ih x11 x4_ x2_ x1_ w9 _ _ _ hp h (lv_sub hl [0, 2, 3, 4, 5, 6] rfl)
def wp_X9_passOverShores (z : Zt) (o : Nat) (p0 : Int32) (w : Vt) (K : Vt → Prop) : Prop := isO z 9 o ∧ ∃ J1 : Int32 → Vt → Prop, (∀ (x2 : Int32) (w3 : Vt), J1 x2 w3 → ∃ b5 : Nat, zR z 904 o = some b5 ∧ isO z 1904 b5 ∧ ∃ n12 : Nat, wL_X9_passOverShores_28 z b5 o K (fun x13 x14 x15 x16 w17 => K w17) n12 0 6 x2 p0 w3) ∧ (¬ ((vI w 914 o) - (vI w 914 o) / 100 * 100) = 0 → J1 0 w) ∧ (((vI w 914 o) - (vI w 914 o) / 100 * 100) = 0 → J1 1 w)
set_option maxHeartbeats 4000000 in
set_option maxRecDepth 100000 in
theorem k_X9_passOverShores (l : Launch) (G : Gt) (z : Zt) (w : Vt) (sz : Nat) (o : Nat) (p0 : Int32) (K : Vt → Prop) (hp : wp_X9_passOverShores z o p0 w K) : MV l yX9_passOverShores wsX9_passOverShores rmX9_passOverShores G z w sz [.ref o, .int p0] K := by
  refine Met.ofW (cc := cX9_passOverShores) (maxL := 7) (ret := none) (by decide +kernel) rfl ?_
  intro p e s m args below meth c s₁ B hml hv
  obtain ⟨rfl, rfl, C, h⟩ := hp_start B hml hv
  generalize gA G z w s.heap.size = A at C h ⊢
  obtain ⟨hx, hb, hr, hlocks, hml, hown, hts, hK, hA, hE⟩ := id C
  obtain ⟨ho, hp⟩ := hp
  have hl := lv_entry ([.ref o, .int p0]) (n := 7) (Nat.le_of_ble_eq_true rfl)
  rw [lg_entry_eq]
  generalize (lg_sl ([.ref o, .int p0]) ++ List.replicate (7 - (lg_sl ([.ref o, .int p0])).length) Slot.unset).toArray = ls at hl ⊢
  have hl : lv_has ls 7 [(0, .ref o), (1, .int p0)] := hl
  refine lv_aload_n hx hb dX9_passOverShores_0 rfl (lv_at hl 0 rfl) ?_
  refine hp_get (ci := 9) (v := .int (vI w 914 o)) hx hb hts ix_X9_passOverShores_9 hown hK h ho (by decide) rfl 14 (by decide) (hts _ lk_X9_passOverShores_202) (fun _ h9 => h9) rfl dX9_passOverShores_1 ?_
  refine lv_bipush (v := 100) hx hb dX9_passOverShores_4 (by decide) ?_
  refine lv_irem hx hb dX9_passOverShores_6 (by decide) ?_
  obtain ⟨J1, jJ1, hp⟩ := hp
  refine hp_jn1 (G := G) (A := A) (z := z) (J := J1) (nL := 7) (j := 15) (lvf := fun x2 => [(0, .ref o), (1, .int p0)]) (stf := fun x2 => [.int x2]) (fun kJ1 => ?_) (fun x2 w3 H locs ls hp h hl => ?_)
  · refine lv_if_ne (tgt := 14) hx hb dX9_passOverShores_7 (by decide) (fun hc4 => ?_) (fun hc4 => ?_)
    · have hp := hp.1 hc4
      refine lv_iconst (v := 0) hx hb dX9_passOverShores_14 (by decide) ?_
      exact kJ1 0 w _ _ _ hp h (lv_sub hl [0, 1] rfl)
    · have hp := hp.2 hc4
      refine lv_iconst (v := 1) hx hb dX9_passOverShores_10 (by decide) ?_
      refine lv_goto (tgt := 15) hx hb dX9_passOverShores_11 (by decide) ?_
      exact kJ1 1 w _ _ _ hp h (lv_sub hl [0, 1] rfl)
  have hp := jJ1 x2 w3 hp
  refine lv_istore_n (lv' := [(2, .int x2), (0, .ref o), (1, .int p0)]) hx hb dX9_passOverShores_15 rfl hl (by decide) rfl (fun ls hl => ?_)
  refine lv_aload_n hx hb dX9_passOverShores_16 rfl (lv_at hl 1 rfl) ?_
  obtain ⟨b5, eb5, hob5, hp⟩ := hp
  refine hp_get (ci := 9) (v := .ref b5) hx hb hts ix_X9_passOverShores_9 hown hK h ho (by decide) rfl 4 (by decide) (hts _ lk_X9_passOverShores_32) (fun _ h9 => h9) (by show some (va_rf (zR z 904 o)) = some (Value.ref b5); rw [eb5]; rfl) dX9_passOverShores_17 ?_
  refine lv_astore_n (lv' := [(3, .ref b5), (2, .int x2), (0, .ref o), (1, .int p0)]) hx hb dX9_passOverShores_20 rfl hl (by decide) rfl (fun ls hl => ?_)
  refine lv_aload_n hx hb dX9_passOverShores_21 rfl (lv_at hl 0 rfl) ?_
  refine hp_alen (t := 1904) (n := 6) hx hb hK h 7 rfl hob5 (by decide) (fun _ _ _ => ⟨_, rfl, rfl⟩) (v := 6) (by decide) dX9_passOverShores_22 ?_
  refine lv_istore (lv' := [(4, .int 6), (3, .ref b5), (2, .int x2), (0, .ref o), (1, .int p0)]) hx hb dX9_passOverShores_23 hl (by decide) rfl (fun ls hl => ?_)
  refine lv_iconst (v := 0) hx hb dX9_passOverShores_25 (by decide) ?_
  refine lv_istore (lv' := [(5, .int 0), (4, .int 6), (3, .ref b5), (2, .int x2), (0, .ref o), (1, .int p0)]) hx hb dX9_passOverShores_26 hl (by decide) rfl (fun ls hl => ?_)
  obtain ⟨n12, hp⟩ := hp
  refine kL_X9_passOverShores_28 C b5 o hob5 ho _ _ (fun x13 x14 x15 x16 w17 H locs ls hp h hl => ?_) n12 0 6 x2 p0 w3 _ _ _ hp h (lv_sub hl [0, 1, 2, 3, 4, 5] rfl)
  exact hp_vret hx hb hr hlocks hK h hp dX9_passOverShores_59
abbrev rmX9_passOverFamilies : Room := { frames := 1, cells := 0, slots := 0, locals := 22 }
theorem ix_X9_passOverFamilies_9 : ∀ w ∈ wsX90, w ∈ wsX9_passOverFamilies := by decide +kernel
theorem lk_X9_passOverFamilies_38 : Cond.fieldLink RX9 38 "KelpShores" "families" "[LKelpShores$Family;" ∈ wsX9_passOverFamilies := by decide +kernel
def wL_X9_passOverFamilies_12 (z : Zt) (b1 : Nat) (o : Nat) (K : Vt → Prop) (Kx : Int32 → Int32 → Int32 → Int32 → Vt → Prop) : Nat → Int32 → Int32 → Int32 → Int32 → Vt → Prop
  | 0, _, _, _, _, _ => False
  | n + 1, x5_, x4_, x1_, x2_, w => (x4_ ≤ x5_ → Kx x5_ x4_ x1_ x2_ w) ∧ (¬ x4_ ≤ x5_ → vp_in x5_ 8 ∧ ∃ b3 : Nat, zO z 1906 b1 (x5_ : Int32).toNatClampNeg = some b3 ∧ isO z 0 b3 ∧ ∃ J9 : Vt → Prop, (∀ (w10 : Vt), J9 w10 → (¬ x2_ = 0 → ∀ x15 : Int32, x15 = x5_ + 1 → wL_X9_passOverFamilies_12 z b1 o K Kx n x15 x4_ x1_ x2_ w10) ∧ (x2_ = 0 → wp_X0_dryWet z b3 x1_ w10 (fun w16 => ∀ x18 : Int32, x18 = x5_ + 1 → wL_X9_passOverFamilies_12 z b1 o K Kx n x18 x4_ x1_ x2_ w16))) ∧ (x2_ < 5 → J9 w) ∧ (¬ x2_ < 5 → wp_X0_spoilDry z b3 w (fun w12 => J9 w12)))
set_option maxHeartbeats 4000000 in
set_option maxRecDepth 100000 in
theorem kL_X9_passOverFamilies_12 {p : Program} {l : Launch} {e : Env} {s : State} {m : MethodId} {args : Array Value} {below : List Frame} {meth : Method} {c : Code} {G : Gt} {A : Nat → Prop} {z : Zt} (C : gC p s m args meth c cX9_passOverFamilies 7 RX9 wsX9_passOverFamilies none G A) (b1 : Nat) (o : Nat) (hob1 : isO z 1906 b1) (ho : isO z 9 o) (K : Vt → Prop) (Kx : Int32 → Int32 → Int32 → Int32 → Vt → Prop) (kKx : ∀ (x5_ x4_ x1_ x2_ : Int32) (w : Vt) (H : Heap) (locs : List Loc) (ls : Array Slot), Kx x5_ x4_ x1_ x2_ w → hpH G.1 G.2.1 A s.heap z w H locs → lv_has ls 7 [(5, .int x5_), (4, .int x4_), (3, .ref b1), (0, .ref o), (1, .int x1_), (2, .int x2_)] → W p l e (headSpec wsX9_passOverFamilies rmX9_passOverFamilies).room s m args below meth c H locs 0 0 (MQ below (va_Qv K (gB G A z) A) args s 0 0 A) (F0 m 51 ls [])) : ∀ (n : Nat) (x5_ x4_ x1_ x2_ : Int32) (w : Vt) (H : Heap) (locs : List Loc) (ls : Array Slot), wL_X9_passOverFamilies_12 z b1 o K Kx n x5_ x4_ x1_ x2_ w → hpH G.1 G.2.1 A s.heap z w H locs → lv_has ls 7 [(5, .int x5_), (4, .int x4_), (3, .ref b1), (0, .ref o), (1, .int x1_), (2, .int x2_)] → W p l e (headSpec wsX9_passOverFamilies rmX9_passOverFamilies).room s m args below meth c H locs 0 0 (MQ below (va_Qv K (gB G A z) A) args s 0 0 A) (F0 m 12 ls []) := by
  obtain ⟨hx, hb, hr, hlocks, hml, hown, hts, hK, hA, hE⟩ := id C
  intro n
  induction n with
  | zero =>
    intro x5_ x4_ x1_ x2_ w H locs ls hp
    exact hp.elim
  | succ n ih =>
    intro x5_ x4_ x1_ x2_ w H locs ls hp h hl
    refine lv_iload hx hb dX9_passOverFamilies_12 (lv_at hl 0 rfl) ?_
    refine lv_iload hx hb dX9_passOverFamilies_14 (lv_at hl 1 rfl) ?_
    refine lv_icmp_ge (tgt := 51) hx hb dX9_passOverFamilies_16 (by decide) (fun hc2 => ?_) (fun hc2 => ?_)
    · have hp := hp.1 hc2
      exact kKx x5_ x4_ x1_ x2_ w _ _ _ hp h (lv_sub hl [0, 1, 2, 3, 4, 5] rfl)
    · have hp := hp.2 hc2
      refine lv_aload_n hx hb dX9_passOverFamilies_19 rfl (lv_at hl 2 rfl) ?_
      refine lv_iload hx hb dX9_passOverFamilies_20 (lv_at hl 0 rfl) ?_
      refine hp_aald (t := 1906) (n := 8) hx hb hK h 3 rfl hob1 (by decide) (fun _ _ _ => rfl) hp.1 dX9_passOverFamilies_22 ?_
      have hp := hp.2
      obtain ⟨b3, eb3, hob3, hp⟩ := hp
      rw [eb3]
      show W _ _ _ _ _ _ _ _ _ _ _ _ _ _ _ (F0 _ _ _ (.ref b3 :: _))
      refine lv_astore (lv' := [(6, .ref b3), (5, .int x5_), (4, .int x4_), (3, .ref b1), (0, .ref o), (1, .int x1_), (2, .int x2_)]) hx hb dX9_passOverFamilies_23 hl (by decide) rfl (fun ls hl => ?_)
      refine lv_iload_n hx hb dX9_passOverFamilies_25 rfl (lv_at hl 6 rfl) ?_
      refine lv_iconst (v := 5) hx hb dX9_passOverFamilies_26 (by decide) ?_
      obtain ⟨J9, jJ9, hp⟩ := hp
      refine hp_jn0 (G := G) (A := A) (z := z) (J := J9) (nL := 7) (j := 35) (lvf := [(6, .ref b3), (5, .int x5_), (4, .int x4_), (3, .ref b1), (0, .ref o), (1, .int x1_), (2, .int x2_)]) (stf := []) (fun kJ9 => ?_) (fun  w10 H locs ls hp h hl => ?_)
      · refine lv_icmp_lt (tgt := 35) hx hb dX9_passOverFamilies_27 (by decide) (fun hc11 => ?_) (fun hc11 => ?_)
        · have hp := hp.1 hc11
          exact kJ9 w _ _ _ hp h (lv_sub hl [0, 1, 2, 3, 4, 5, 6] rfl)
        · have hp := hp.2 hc11
          refine lv_aload hx hb dX9_passOverFamilies_30 (lv_at hl 0 rfl) ?_
          refine hp_cVv ⟨hx, hb, hml, hown, hts⟩ (k_X0_spoilDry l G z w _ b3 _ hp) (cwV 0 hts gX9_passOverFamilies_X0_spoilDry rfl rfl rfl (by decide +kernel) ⟨Nat.le_of_ble_eq_true rfl, Nat.le_of_ble_eq_true rfl⟩) hob3 (by decide) rfl hK h hA hE rfl hl.1 rfl (Nat.le_of_ble_eq_true rfl) dX9_passOverFamilies_32 ⟨Nat.le_of_ble_eq_true rfl, Nat.le_of_ble_eq_true rfl⟩ (fun w12 H locs hp h => ?_)
          exact kJ9 w12 _ _ _ hp h (lv_sub hl [0, 1, 2, 3, 4, 5, 6] rfl)
      have hp := jJ9  w10 hp
      refine lv_iload_n hx hb dX9_passOverFamilies_35 rfl (lv_at hl 6 rfl) ?_
      refine lv_if_ne (tgt := 45) hx hb dX9_passOverFamilies_36 (by decide) (fun hc14 => ?_) (fun hc14 => ?_)
      · have hp := hp.1 hc14
        obtain ⟨x15, ex15⟩ : ∃ y : Int32, y = x5_ + 1 := ⟨_, rfl⟩
        have hp := hp x15 ex15
        refine lv_iinc (v := x15) (lv' := [(5, .int x15), (6, .ref b3), (4, .int x4_), (3, .ref b1), (0, .ref o), (1, .int x1_), (2, .int x2_)]) hx hb dX9_passOverFamilies_45 hl (k := 1) rfl (by rw [ex15]; rfl) (by decide) rfl (fun ls hl => ?_)
        refine lv_goto (tgt := 12) hx hb dX9_passOverFamilies_48 (by decide) ?_
        exact ih x15 x4_ x1_ x2_ w10 _ _ _ hp h (lv_sub hl [0, 2, 3, 4, 5, 6] rfl)
      · have hp := hp.2 hc14
        refine lv_aload hx hb dX9_passOverFamilies_39 (lv_at hl 0 rfl) ?_
        refine lv_iload_n hx hb dX9_passOverFamilies_41 rfl (lv_at hl 5 rfl) ?_
        refine hp_cVv ⟨hx, hb, hml, hown, hts⟩ (k_X0_dryWet l G z w10 _ b3 x1_ _ hp) (cwV 1 hts gX9_passOverFamilies_X0_dryWet rfl rfl rfl (by decide +kernel) ⟨Nat.le_of_ble_eq_true rfl, Nat.le_of_ble_eq_true rfl⟩) hob3 (by decide) rfl hK h hA hE rfl hl.1 rfl (Nat.le_of_ble_eq_true rfl) dX9_passOverFamilies_42 ⟨Nat.le_of_ble_eq_true rfl, Nat.le_of_ble_eq_true rfl⟩ (fun w16 H locs hp h => ?_)
        obtain ⟨x18, ex18⟩ : ∃ y : Int32, y = x5_ + 1 := ⟨_, rfl⟩
        have hp := hp x18 ex18
        refine lv_iinc (v := x18) (lv' := [(5, .int x18), (6, .ref b3), (4, .int x4_), (3, .ref b1), (0, .ref o), (1, .int x1_), (2, .int x2_)]) hx hb dX9_passOverFamilies_45 hl (k := 1) rfl (by rw [ex18]; rfl) (by decide) rfl (fun ls hl => ?_)
        refine lv_goto (tgt := 12) hx hb dX9_passOverFamilies_48 (by decide) ?_
        exact ih x18 x4_ x1_ x2_ w16 _ _ _ hp h (lv_sub hl [0, 2, 3, 4, 5, 6] rfl)
def wp_X9_passOverFamilies (z : Zt) (o : Nat) (p0 : Int32) (p1 : Int32) (w : Vt) (K : Vt → Prop) : Prop := isO z 9 o ∧ ∃ b1 : Nat, zR z 906 o = some b1 ∧ isO z 1906 b1 ∧ ∃ n19 : Nat, wL_X9_passOverFamilies_12 z b1 o K (fun x20 x21 x22 x23 w24 => K w24) n19 0 8 p0 p1 w
set_option maxHeartbeats 4000000 in
set_option maxRecDepth 100000 in
theorem k_X9_passOverFamilies (l : Launch) (G : Gt) (z : Zt) (w : Vt) (sz : Nat) (o : Nat) (p0 : Int32) (p1 : Int32) (K : Vt → Prop) (hp : wp_X9_passOverFamilies z o p0 p1 w K) : MV l yX9_passOverFamilies wsX9_passOverFamilies rmX9_passOverFamilies G z w sz [.ref o, .int p0, .int p1] K := by
  refine Met.ofW (cc := cX9_passOverFamilies) (maxL := 7) (ret := none) (by decide +kernel) rfl ?_
  intro p e s m args below meth c s₁ B hml hv
  obtain ⟨rfl, rfl, C, h⟩ := hp_start B hml hv
  generalize gA G z w s.heap.size = A at C h ⊢
  obtain ⟨hx, hb, hr, hlocks, hml, hown, hts, hK, hA, hE⟩ := id C
  obtain ⟨ho, hp⟩ := hp
  have hl := lv_entry ([.ref o, .int p0, .int p1]) (n := 7) (Nat.le_of_ble_eq_true rfl)
  rw [lg_entry_eq]
  generalize (lg_sl ([.ref o, .int p0, .int p1]) ++ List.replicate (7 - (lg_sl ([.ref o, .int p0, .int p1])).length) Slot.unset).toArray = ls at hl ⊢
  have hl : lv_has ls 7 [(0, .ref o), (1, .int p0), (2, .int p1)] := hl
  refine lv_aload_n hx hb dX9_passOverFamilies_0 rfl (lv_at hl 0 rfl) ?_
  obtain ⟨b1, eb1, hob1, hp⟩ := hp
  refine hp_get (ci := 9) (v := .ref b1) hx hb hts ix_X9_passOverFamilies_9 hown hK h ho (by decide) rfl 6 (by decide) (hts _ lk_X9_passOverFamilies_38) (fun _ h9 => h9) (by show some (va_rf (zR z 906 o)) = some (Value.ref b1); rw [eb1]; rfl) dX9_passOverFamilies_1 ?_
  refine lv_astore_n (lv' := [(3, .ref b1), (0, .ref o), (1, .int p0), (2, .int p1)]) hx hb dX9_passOverFamilies_4 rfl hl (by decide) rfl (fun ls hl => ?_)
  refine lv_aload_n hx hb dX9_passOverFamilies_5 rfl (lv_at hl 0 rfl) ?_
  refine hp_alen (t := 1906) (n := 8) hx hb hK h 3 rfl hob1 (by decide) (fun _ _ _ => ⟨_, rfl, rfl⟩) (v := 8) (by decide) dX9_passOverFamilies_6 ?_
  refine lv_istore (lv' := [(4, .int 8), (3, .ref b1), (0, .ref o), (1, .int p0), (2, .int p1)]) hx hb dX9_passOverFamilies_7 hl (by decide) rfl (fun ls hl => ?_)
  refine lv_iconst (v := 0) hx hb dX9_passOverFamilies_9 (by decide) ?_
  refine lv_istore (lv' := [(5, .int 0), (4, .int 8), (3, .ref b1), (0, .ref o), (1, .int p0), (2, .int p1)]) hx hb dX9_passOverFamilies_10 hl (by decide) rfl (fun ls hl => ?_)
  obtain ⟨n19, hp⟩ := hp
  refine kL_X9_passOverFamilies_12 C b1 o hob1 ho _ _ (fun x20 x21 x22 x23 w24 H locs ls hp h hl => ?_) n19 0 8 p0 p1 w _ _ _ hp h (lv_sub hl [0, 1, 2, 3, 4, 5] rfl)
  exact hp_vret hx hb hr hlocks hK h hp dX9_passOverFamilies_51
abbrev rmX9_passOverPits : Room := { frames := 1, cells := 0, slots := 0, locals := 22 }
theorem ix_X9_passOverPits_9 : ∀ w ∈ wsX90, w ∈ wsX9_passOverPits := by decide +kernel
theorem lk_X9_passOverPits_44 : Cond.fieldLink RX9 44 "KelpShores" "pits" "[LKelpShores$Pit;" ∈ wsX9_passOverPits := by decide +kernel
theorem ix_X9_passOverPits_3 : ∀ w ∈ wsX30, w ∈ wsX9_passOverPits := by decide +kernel
theorem lk_X9_passOverPits_260 {G : Gt} {A : Nat → Prop} {s : State} {args : Array Value} (hE : gE G A s s.heap) : (Cond.fieldLinkNest RX9 260 "KelpShores$Pit" "daysLeft" "I" "KelpShores").before args s = true := by
  have h : va_Nw (Cond.fieldLinkNest RX9 260 "KelpShores$Pit" "daysLeft" "I" "KelpShores") s := hE.1 (RX9, 260, "KelpShores$Pit", "daysLeft", "I") (List.mem_of_getElem? (i := 28) rfl)
  exact va_Nw.use rfl h
def wL_X9_passOverPits_11 (z : Zt) (b1 : Nat) (o : Nat) (K : Vt → Prop) (Kx : Int32 → Int32 → Int32 → Vt → Prop) : Nat → Int32 → Int32 → Int32 → Vt → Prop
  | 0, _, _, _, _ => False
  | n + 1, x4_, x3_, x1_, w => (x3_ ≤ x4_ → Kx x4_ x3_ x1_ w) ∧ (¬ x3_ ≤ x4_ → vp_in x4_ 12 ∧ (zO z 1907 b1 (x4_ : Int32).toNatClampNeg = none → ∀ x4 : Int32, x4 = x4_ + 1 → wL_X9_passOverPits_11 z b1 o K Kx n x4 x3_ x1_ w) ∧ (∀ b3 : Nat, zO z 1907 b1 (x4_ : Int32).toNatClampNeg = some b3 → isO z 3 b3 ∧ ((vI w 302 b3) ≤ 0 → ∀ x6 : Int32, x6 = x4_ + 1 → wL_X9_passOverPits_11 z b1 o K Kx n x6 x3_ x1_ w) ∧ (¬ (vI w 302 b3) ≤ 0 → wp_X3_passDay z b3 x1_ w (fun w7 => ∀ x9 : Int32, x9 = x4_ + 1 → wL_X9_passOverPits_11 z b1 o K Kx n x9 x3_ x1_ w7))))
set_option maxHeartbeats 4000000 in
set_option maxRecDepth 100000 in
theorem kL_X9_passOverPits_11 {p : Program} {l : Launch} {e : Env} {s : State} {m : MethodId} {args : Array Value} {below : List Frame} {meth : Method} {c : Code} {G : Gt} {A : Nat → Prop} {z : Zt} (C : gC p s m args meth c cX9_passOverPits 6 RX9 wsX9_passOverPits none G A) (b1 : Nat) (o : Nat) (hob1 : isO z 1907 b1) (ho : isO z 9 o) (K : Vt → Prop) (Kx : Int32 → Int32 → Int32 → Vt → Prop) (kKx : ∀ (x4_ x3_ x1_ : Int32) (w : Vt) (H : Heap) (locs : List Loc) (ls : Array Slot), Kx x4_ x3_ x1_ w → hpH G.1 G.2.1 A s.heap z w H locs → lv_has ls 6 [(4, .int x4_), (3, .int x3_), (2, .ref b1), (0, .ref o), (1, .int x1_)] → W p l e (headSpec wsX9_passOverPits rmX9_passOverPits).room s m args below meth c H locs 0 0 (MQ below (va_Qv K (gB G A z) A) args s 0 0 A) (F0 m 48 ls [])) : ∀ (n : Nat) (x4_ x3_ x1_ : Int32) (w : Vt) (H : Heap) (locs : List Loc) (ls : Array Slot), wL_X9_passOverPits_11 z b1 o K Kx n x4_ x3_ x1_ w → hpH G.1 G.2.1 A s.heap z w H locs → lv_has ls 6 [(4, .int x4_), (3, .int x3_), (2, .ref b1), (0, .ref o), (1, .int x1_)] → W p l e (headSpec wsX9_passOverPits rmX9_passOverPits).room s m args below meth c H locs 0 0 (MQ below (va_Qv K (gB G A z) A) args s 0 0 A) (F0 m 11 ls []) := by
  obtain ⟨hx, hb, hr, hlocks, hml, hown, hts, hK, hA, hE⟩ := id C
  intro n
  induction n with
  | zero =>
    intro x4_ x3_ x1_ w H locs ls hp
    exact hp.elim
  | succ n ih =>
    intro x4_ x3_ x1_ w H locs ls hp h hl
    refine lv_iload hx hb dX9_passOverPits_11 (lv_at hl 0 rfl) ?_
    refine lv_iload_n hx hb dX9_passOverPits_13 rfl (lv_at hl 1 rfl) ?_
    refine lv_icmp_ge (tgt := 48) hx hb dX9_passOverPits_14 (by decide) (fun hc2 => ?_) (fun hc2 => ?_)
    · have hp := hp.1 hc2
      exact kKx x4_ x3_ x1_ w _ _ _ hp h (lv_sub hl [0, 1, 2, 3, 4] rfl)
    · have hp := hp.2 hc2
      refine lv_aload_n hx hb dX9_passOverPits_17 rfl (lv_at hl 2 rfl) ?_
      refine lv_iload hx hb dX9_passOverPits_18 (lv_at hl 0 rfl) ?_
      refine hp_aald (t := 1907) (n := 12) hx hb hK h 5 rfl hob1 (by decide) (fun _ _ _ => rfl) hp.1 dX9_passOverPits_20 ?_
      have hp := hp.2
      cases eb3 : zO z 1907 b1 (x4_ : Int32).toNatClampNeg with
      | none =>
        have hp := hp.1 eb3
        refine lv_astoreN (lv' := [(5, .null), (4, .int x4_), (3, .int x3_), (2, .ref b1), (0, .ref o), (1, .int x1_)]) hx hb dX9_passOverPits_21 hl (by decide) rfl (fun ls hl => ?_)
        refine lv_aloadN hx hb dX9_passOverPits_23 (lv_at hl 0 rfl) ?_
        refine lv_ifnullN (tgt := 42) hx hb dX9_passOverPits_25 (by decide) ?_
        obtain ⟨x4, ex4⟩ : ∃ y : Int32, y = x4_ + 1 := ⟨_, rfl⟩
        have hp := hp x4 ex4
        refine lv_iinc (v := x4) (lv' := [(4, .int x4), (5, .null), (3, .int x3_), (2, .ref b1), (0, .ref o), (1, .int x1_)]) hx hb dX9_passOverPits_42 hl (k := 1) rfl (by rw [ex4]; rfl) (by decide) rfl (fun ls hl => ?_)
        refine lv_goto (tgt := 11) hx hb dX9_passOverPits_45 (by decide) ?_
        exact ih x4 x3_ x1_ w _ _ _ hp h (lv_sub hl [0, 2, 3, 4, 5] rfl)
      | some b3 =>
        obtain ⟨hob3, hp⟩ := hp.2 b3 eb3
        refine lv_astore (lv' := [(5, .ref b3), (4, .int x4_), (3, .int x3_), (2, .ref b1), (0, .ref o), (1, .int x1_)]) hx hb dX9_passOverPits_21 hl (by decide) rfl (fun ls hl => ?_)
        refine lv_aload hx hb dX9_passOverPits_23 (lv_at hl 0 rfl) ?_
        refine lv_ifnull hx hb dX9_passOverPits_25 ?_
        refine lv_aload hx hb dX9_passOverPits_28 (lv_at hl 0 rfl) ?_
        refine hp_getN (ci := 3) (v := .int (vI w 302 b3)) hx hb hts ix_X9_passOverPits_3 hown hK h hob3 (by decide) rfl 2 (by decide) (lk_X9_passOverPits_260 hE) (fun _ h9 => h9) rfl dX9_passOverPits_30 ?_
        refine lv_if_le (tgt := 42) hx hb dX9_passOverPits_33 (by decide) (fun hc5 => ?_) (fun hc5 => ?_)
        · have hp := hp.1 hc5
          obtain ⟨x6, ex6⟩ : ∃ y : Int32, y = x4_ + 1 := ⟨_, rfl⟩
          have hp := hp x6 ex6
          refine lv_iinc (v := x6) (lv' := [(4, .int x6), (5, .ref b3), (3, .int x3_), (2, .ref b1), (0, .ref o), (1, .int x1_)]) hx hb dX9_passOverPits_42 hl (k := 1) rfl (by rw [ex6]; rfl) (by decide) rfl (fun ls hl => ?_)
          refine lv_goto (tgt := 11) hx hb dX9_passOverPits_45 (by decide) ?_
          exact ih x6 x3_ x1_ w _ _ _ hp h (lv_sub hl [0, 2, 3, 4, 5] rfl)
        · have hp := hp.2 hc5
          refine lv_aload hx hb dX9_passOverPits_36 (lv_at hl 0 rfl) ?_
          refine lv_iload_n hx hb dX9_passOverPits_38 rfl (lv_at hl 5 rfl) ?_
          refine hp_cVv ⟨hx, hb, hml, hown, hts⟩ (k_X3_passDay l G z w _ b3 x1_ _ hp) (cwV 1 hts gX9_passOverPits_X3_passDay rfl rfl rfl (by decide +kernel) ⟨Nat.le_of_ble_eq_true rfl, Nat.le_of_ble_eq_true rfl⟩) hob3 (by decide) rfl hK h hA hE rfl hl.1 rfl (Nat.le_of_ble_eq_true rfl) dX9_passOverPits_39 ⟨Nat.le_of_ble_eq_true rfl, Nat.le_of_ble_eq_true rfl⟩ (fun w7 H locs hp h => ?_)
          obtain ⟨x9, ex9⟩ : ∃ y : Int32, y = x4_ + 1 := ⟨_, rfl⟩
          have hp := hp x9 ex9
          refine lv_iinc (v := x9) (lv' := [(4, .int x9), (5, .ref b3), (3, .int x3_), (2, .ref b1), (0, .ref o), (1, .int x1_)]) hx hb dX9_passOverPits_42 hl (k := 1) rfl (by rw [ex9]; rfl) (by decide) rfl (fun ls hl => ?_)
          refine lv_goto (tgt := 11) hx hb dX9_passOverPits_45 (by decide) ?_
          exact ih x9 x3_ x1_ w7 _ _ _ hp h (lv_sub hl [0, 2, 3, 4, 5] rfl)
def wp_X9_passOverPits (z : Zt) (o : Nat) (p0 : Int32) (w : Vt) (K : Vt → Prop) : Prop := isO z 9 o ∧ ∃ b1 : Nat, zR z 907 o = some b1 ∧ isO z 1907 b1 ∧ ∃ n10 : Nat, wL_X9_passOverPits_11 z b1 o K (fun x11 x12 x13 w14 => K w14) n10 0 12 p0 w
set_option maxHeartbeats 4000000 in
set_option maxRecDepth 100000 in
theorem k_X9_passOverPits (l : Launch) (G : Gt) (z : Zt) (w : Vt) (sz : Nat) (o : Nat) (p0 : Int32) (K : Vt → Prop) (hp : wp_X9_passOverPits z o p0 w K) : MV l yX9_passOverPits wsX9_passOverPits rmX9_passOverPits G z w sz [.ref o, .int p0] K := by
  refine Met.ofW (cc := cX9_passOverPits) (maxL := 6) (ret := none) (by decide +kernel) rfl ?_
  intro p e s m args below meth c s₁ B hml hv
  obtain ⟨rfl, rfl, C, h⟩ := hp_start B hml hv
  generalize gA G z w s.heap.size = A at C h ⊢
  obtain ⟨hx, hb, hr, hlocks, hml, hown, hts, hK, hA, hE⟩ := id C
  obtain ⟨ho, hp⟩ := hp
  have hl := lv_entry ([.ref o, .int p0]) (n := 6) (Nat.le_of_ble_eq_true rfl)
  rw [lg_entry_eq]
  generalize (lg_sl ([.ref o, .int p0]) ++ List.replicate (6 - (lg_sl ([.ref o, .int p0])).length) Slot.unset).toArray = ls at hl ⊢
  have hl : lv_has ls 6 [(0, .ref o), (1, .int p0)] := hl
  refine lv_aload_n hx hb dX9_passOverPits_0 rfl (lv_at hl 0 rfl) ?_
  obtain ⟨b1, eb1, hob1, hp⟩ := hp
  refine hp_get (ci := 9) (v := .ref b1) hx hb hts ix_X9_passOverPits_9 hown hK h ho (by decide) rfl 7 (by decide) (hts _ lk_X9_passOverPits_44) (fun _ h9 => h9) (by show some (va_rf (zR z 907 o)) = some (Value.ref b1); rw [eb1]; rfl) dX9_passOverPits_1 ?_
  refine lv_astore_n (lv' := [(2, .ref b1), (0, .ref o), (1, .int p0)]) hx hb dX9_passOverPits_4 rfl hl (by decide) rfl (fun ls hl => ?_)
  refine lv_aload_n hx hb dX9_passOverPits_5 rfl (lv_at hl 0 rfl) ?_
  refine hp_alen (t := 1907) (n := 12) hx hb hK h 5 rfl hob1 (by decide) (fun _ _ _ => ⟨_, rfl, rfl⟩) (v := 12) (by decide) dX9_passOverPits_6 ?_
  refine lv_istore_n (lv' := [(3, .int 12), (2, .ref b1), (0, .ref o), (1, .int p0)]) hx hb dX9_passOverPits_7 rfl hl (by decide) rfl (fun ls hl => ?_)
  refine lv_iconst (v := 0) hx hb dX9_passOverPits_8 (by decide) ?_
  refine lv_istore (lv' := [(4, .int 0), (3, .int 12), (2, .ref b1), (0, .ref o), (1, .int p0)]) hx hb dX9_passOverPits_9 hl (by decide) rfl (fun ls hl => ?_)
  obtain ⟨n10, hp⟩ := hp
  refine kL_X9_passOverPits_11 C b1 o hob1 ho _ _ (fun x11 x12 x13 w14 H locs ls hp h hl => ?_) n10 0 12 p0 w _ _ _ hp h (lv_sub hl [0, 1, 2, 3, 4] rfl)
  exact hp_vret hx hb hr hlocks hK h hp dX9_passOverPits_48
abbrev rmX9_againstTaking : Room := { frames := 2, cells := 0, slots := 0, locals := 41 }
def wp_X9_againstTaking (z : Zt) (p0 : Int32) (p1 : Int32) (p2 : Nat) (w : Vt) (K : Int32 → Vt → Prop) : Prop := isO z 0 p2 ∧ (p0 ≤ p1 → wp_X0_workLeft z p2 w (fun r3 w2 => (p0 ≤ r3 → K 0 w2) ∧ (¬ p0 ≤ r3 → K 5 w2))) ∧ (¬ p0 ≤ p1 → K 4 w)
set_option maxHeartbeats 4000000 in
set_option maxRecDepth 100000 in
theorem k_X9_againstTaking (l : Launch) (G : Gt) (z : Zt) (w : Vt) (sz : Nat) (p0 : Int32) (p1 : Int32) (p2 : Nat) (K : Int32 → Vt → Prop) (hp : wp_X9_againstTaking z p0 p1 p2 w K) : MI l yX9_againstTaking wsX9_againstTaking rmX9_againstTaking G z w sz [.int p0, .int p1, .ref p2] K := by
  refine Met.ofW (cc := cX9_againstTaking) (maxL := 3) (ret := (some .int)) (by decide +kernel) rfl ?_
  intro p e s m args below meth c s₁ B hml hv
  obtain ⟨rfl, rfl, C, h⟩ := hp_start B hml hv
  generalize gA G z w s.heap.size = A at C h ⊢
  obtain ⟨hx, hb, hr, hlocks, hml, hown, hts, hK, hA, hE⟩ := id C
  obtain ⟨hop2, hp⟩ := hp
  have hl := lv_entry ([.int p0, .int p1, .ref p2]) (n := 3) (Nat.le_of_ble_eq_true rfl)
  rw [lg_entry_eq]
  generalize (lg_sl ([.int p0, .int p1, .ref p2]) ++ List.replicate (3 - (lg_sl ([.int p0, .int p1, .ref p2])).length) Slot.unset).toArray = ls at hl ⊢
  have hl : lv_has ls 3 [(0, .int p0), (1, .int p1), (2, .ref p2)] := hl
  refine lv_iload_n hx hb dX9_againstTaking_0 rfl (lv_at hl 0 rfl) ?_
  refine lv_iload_n hx hb dX9_againstTaking_1 rfl (lv_at hl 1 rfl) ?_
  refine lv_icmp_le (tgt := 7) hx hb dX9_againstTaking_2 (by decide) (fun hc1 => ?_) (fun hc1 => ?_)
  · have hp := hp.1 hc1
    refine lv_iload_n hx hb dX9_againstTaking_7 rfl (lv_at hl 0 rfl) ?_
    refine lv_aload_n hx hb dX9_againstTaking_8 rfl (lv_at hl 2 rfl) ?_
    refine hp_cVi ⟨hx, hb, hml, hown, hts⟩ (k_X0_workLeft l G z w _ p2 _ hp) (cwV 0 hts gX9_againstTaking_X0_workLeft rfl rfl rfl (by decide +kernel) ⟨Nat.le_of_ble_eq_true rfl, Nat.le_of_ble_eq_true rfl⟩) hop2 (by decide) rfl hK h hA hE rfl hl.1 rfl (Nat.le_of_ble_eq_true rfl) dX9_againstTaking_9 ⟨Nat.le_of_ble_eq_true rfl, Nat.le_of_ble_eq_true rfl⟩ (fun r3 w2 H locs hp h => ?_)
    refine lv_icmp_le (tgt := 19) hx hb dX9_againstTaking_12 (by decide) (fun hc4 => ?_) (fun hc4 => ?_)
    · have hp := hp.1 hc4
      refine lv_iconst (v := 0) hx hb dX9_againstTaking_19 (by decide) ?_
      exact hp_iret hx hb hr rfl hlocks hK h hp dX9_againstTaking_20
    · have hp := hp.2 hc4
      refine lv_iconst (v := 5) hx hb dX9_againstTaking_15 (by decide) ?_
      refine lv_goto (tgt := 20) hx hb dX9_againstTaking_16 (by decide) ?_
      exact hp_iret hx hb hr rfl hlocks hK h hp dX9_againstTaking_20
  · have hp := hp.2 hc1
    refine lv_iconst (v := 4) hx hb dX9_againstTaking_5 (by decide) ?_
    exact hp_iret hx hb hr rfl hlocks hK h hp dX9_againstTaking_6
abbrev rmX9_takeHome : Room := { frames := 3, cells := 0, slots := 0, locals := 66 }
theorem ix_X9_takeHome_0 : ∀ w ∈ wsX00, w ∈ wsX9_takeHome := by decide +kernel
theorem lk_X9_takeHome_171 {G : Gt} {A : Nat → Prop} {s : State} {args : Array Value} (hE : gE G A s s.heap) : (Cond.fieldLinkNest RX9 171 "KelpShores$Family" "wet" "I" "KelpShores").before args s = true := by
  have h : va_Nw (Cond.fieldLinkNest RX9 171 "KelpShores$Family" "wet" "I" "KelpShores") s := hE.1 (RX9, 171, "KelpShores$Family", "wet", "I") (List.mem_of_getElem? (i := 9) rfl)
  exact va_Nw.use rfl h
theorem lk_X9_takeHome_219 {G : Gt} {A : Nat → Prop} {s : State} {args : Array Value} (hE : gE G A s s.heap) : (Cond.fieldLinkNest RX9 219 "KelpShores$Family" "worked" "I" "KelpShores").before args s = true := by
  have h : va_Nw (Cond.fieldLinkNest RX9 219 "KelpShores$Family" "worked" "I" "KelpShores") s := hE.1 (RX9, 219, "KelpShores$Family", "worked", "I") (List.mem_of_getElem? (i := 8) rfl)
  exact va_Nw.use rfl h
theorem ix_X9_takeHome_9 : ∀ w ∈ wsX90, w ∈ wsX9_takeHome := by decide +kernel
theorem lk_X9_takeHome_202 : Cond.fieldLink RX9 202 "KelpShores" "today" "I" ∈ wsX9_takeHome := by decide +kernel
theorem lk_X9_takeHome_19 : Cond.fieldLink RX9 19 "KelpShores" "rights" "LKelpShores$Rights;" ∈ wsX9_takeHome := by decide +kernel
def wp_X9_takeHome (z : Zt) (o : Nat) (p0 : Nat) (p1 : Int32) (p2 : Int32) (p3 : Int32) (w : Vt) (K : Vt → Prop) : Prop := isO z 9 o ∧ isO z 0 p0 ∧ ∀ w1 : Vt, w1 = uI w 3 p0 ((vI w 3 p0) + p3) → ∀ w2 : Vt, w2 = uI w1 2 p0 ((vI w1 2 p0) + p3) → ∃ b3 : Nat, zR z 901 o = some b3 ∧ isO z 4 b3 ∧ wp_X4_shareOf z b3 p2 w2 (fun r5 w4 => wp_X0_owe z p0 p1 ((vI w2 914 o) / 100) ((p3 * r5) / 100) w4 (fun w6 => K w6))
set_option maxHeartbeats 4000000 in
set_option maxRecDepth 100000 in
theorem k_X9_takeHome (l : Launch) (G : Gt) (z : Zt) (w : Vt) (sz : Nat) (o : Nat) (p0 : Nat) (p1 : Int32) (p2 : Int32) (p3 : Int32) (K : Vt → Prop) (hp : wp_X9_takeHome z o p0 p1 p2 p3 w K) : MV l yX9_takeHome wsX9_takeHome rmX9_takeHome G z w sz [.ref o, .ref p0, .int p1, .int p2, .int p3] K := by
  refine Met.ofW (cc := cX9_takeHome) (maxL := 5) (ret := none) (by decide +kernel) rfl ?_
  intro p e s m args below meth c s₁ B hml hv
  obtain ⟨rfl, rfl, C, h⟩ := hp_start B hml hv
  generalize gA G z w s.heap.size = A at C h ⊢
  obtain ⟨hx, hb, hr, hlocks, hml, hown, hts, hK, hA, hE⟩ := id C
  obtain ⟨ho, hp⟩ := hp
  obtain ⟨hop0, hp⟩ := hp
  have hl := lv_entry ([.ref o, .ref p0, .int p1, .int p2, .int p3]) (n := 5) (Nat.le_of_ble_eq_true rfl)
  rw [lg_entry_eq]
  generalize (lg_sl ([.ref o, .ref p0, .int p1, .int p2, .int p3]) ++ List.replicate (5 - (lg_sl ([.ref o, .ref p0, .int p1, .int p2, .int p3])).length) Slot.unset).toArray = ls at hl ⊢
  have hl : lv_has ls 5 [(0, .ref o), (1, .ref p0), (2, .int p1), (3, .int p2), (4, .int p3)] := hl
  refine lv_aload_n hx hb dX9_takeHome_0 rfl (lv_at hl 1 rfl) ?_
  refine lv_dup hx hb dX9_takeHome_1 rfl ?_
  refine hp_getN (ci := 0) (v := .int (vI w 3 p0)) hx hb hts ix_X9_takeHome_0 hown hK h hop0 (by decide) rfl 3 (by decide) (lk_X9_takeHome_171 hE) (fun _ h9 => h9) rfl dX9_takeHome_2 ?_
  refine lv_iload hx hb dX9_takeHome_5 (lv_at hl 4 rfl) ?_
  refine lv_iadd hx hb dX9_takeHome_7 ?_
  refine hp_putiN (ci := 0) (ty := .int) (x := (vI w 3 p0) + p3) hx hb hts ix_X9_takeHome_0 tyX0 tyX0_ok nmX0 hown hK h hop0 (by decide) rfl 3 3 (by decide) (lk_X9_takeHome_171 hE) (fun _ h9 => h9) rfl (by decide +kernel) rfl rfl (fun _ _ => rfl) (fun _ _ => Nat.le_of_ble_eq_true rfl) dX9_takeHome_8 (fun H locs w1 ew1 h => ?_)
  have hp := hp w1 ew1
  refine lv_aload_n hx hb dX9_takeHome_11 rfl (lv_at hl 1 rfl) ?_
  refine lv_dup hx hb dX9_takeHome_12 rfl ?_
  refine hp_getN (ci := 0) (v := .int (vI w1 2 p0)) hx hb hts ix_X9_takeHome_0 hown hK h hop0 (by decide) rfl 2 (by decide) (lk_X9_takeHome_219 hE) (fun _ h9 => h9) rfl dX9_takeHome_13 ?_
  refine lv_iload hx hb dX9_takeHome_16 (lv_at hl 4 rfl) ?_
  refine lv_iadd hx hb dX9_takeHome_18 ?_
  refine hp_putiN (ci := 0) (ty := .int) (x := (vI w1 2 p0) + p3) hx hb hts ix_X9_takeHome_0 tyX0 tyX0_ok nmX0 hown hK h hop0 (by decide) rfl 2 2 (by decide) (lk_X9_takeHome_219 hE) (fun _ h9 => h9) rfl (by decide +kernel) rfl rfl (fun _ _ => rfl) (fun _ _ => Nat.le_of_ble_eq_true rfl) dX9_takeHome_19 (fun H locs w2 ew2 h => ?_)
  have hp := hp w2 ew2
  refine lv_aload_n hx hb dX9_takeHome_22 rfl (lv_at hl 1 rfl) ?_
  refine lv_iload_n hx hb dX9_takeHome_23 rfl (lv_at hl 2 rfl) ?_
  refine lv_aload_n hx hb dX9_takeHome_24 rfl (lv_at hl 0 rfl) ?_
  refine hp_get (ci := 9) (v := .int (vI w2 914 o)) hx hb hts ix_X9_takeHome_9 hown hK h ho (by decide) rfl 14 (by decide) (hts _ lk_X9_takeHome_202) (fun _ h9 => h9) rfl dX9_takeHome_25 ?_
  refine lv_bipush (v := 100) hx hb dX9_takeHome_28 (by decide) ?_
  refine lv_idiv hx hb dX9_takeHome_30 (by decide) ?_
  refine lv_iload hx hb dX9_takeHome_31 (lv_at hl 4 rfl) ?_
  refine lv_aload_n hx hb dX9_takeHome_33 rfl (lv_at hl 0 rfl) ?_
  obtain ⟨b3, eb3, hob3, hp⟩ := hp
  refine hp_get (ci := 9) (v := .ref b3) hx hb hts ix_X9_takeHome_9 hown hK h ho (by decide) rfl 1 (by decide) (hts _ lk_X9_takeHome_19) (fun _ h9 => h9) (by show some (va_rf (zR z 901 o)) = some (Value.ref b3); rw [eb3]; rfl) dX9_takeHome_34 ?_
  refine lv_iload_n hx hb dX9_takeHome_37 rfl (lv_at hl 3 rfl) ?_
  refine hp_cVi ⟨hx, hb, hml, hown, hts⟩ (k_X4_shareOf l G z w2 _ b3 p2 _ hp) (cwV 1 hts gX9_takeHome_X4_shareOf rfl rfl rfl (by decide +kernel) ⟨Nat.le_of_ble_eq_true rfl, Nat.le_of_ble_eq_true rfl⟩) hob3 (by decide) rfl hK h hA hE rfl hl.1 rfl (Nat.le_of_ble_eq_true rfl) dX9_takeHome_38 ⟨Nat.le_of_ble_eq_true rfl, Nat.le_of_ble_eq_true rfl⟩ (fun r5 w4 H locs hp h => ?_)
  refine lv_imul hx hb dX9_takeHome_41 ?_
  refine lv_bipush (v := 100) hx hb dX9_takeHome_42 (by decide) ?_
  refine lv_idiv hx hb dX9_takeHome_44 (by decide) ?_
  refine hp_cVv ⟨hx, hb, hml, hown, hts⟩ (k_X0_owe l G z w4 _ p0 p1 ((vI w2 914 o) / 100) ((p3 * r5) / 100) _ hp) (cwV 3 hts gX9_takeHome_X0_owe rfl rfl rfl (by decide +kernel) ⟨Nat.le_of_ble_eq_true rfl, Nat.le_of_ble_eq_true rfl⟩) hop0 (by decide) rfl hK h hA hE rfl hl.1 rfl (Nat.le_of_ble_eq_true rfl) dX9_takeHome_45 ⟨Nat.le_of_ble_eq_true rfl, Nat.le_of_ble_eq_true rfl⟩ (fun w6 H locs hp h => ?_)
  exact hp_vret hx hb hr hlocks hK h hp dX9_takeHome_48
abbrev rmX9_sortTests : Room := { frames := 1, cells := 0, slots := 0, locals := 21 }
theorem ix_X9_sortTests_9 : ∀ w ∈ wsX90, w ∈ wsX9_sortTests := by decide +kernel
theorem lk_X9_sortTests_54 : Cond.fieldLink RX9 54 "KelpShores" "tests" "[I" ∈ wsX9_sortTests := by decide +kernel
theorem wd_X9_sortTests_l381 : Cond.methodLink RX9 381 Lib.Math.min.name ∈ wsX9_sortTests := by decide +kernel
theorem wd_X9_sortTests_smin : Cond.static Lib.Math.min.name ∈ wsX9_sortTests := by decide +kernel
theorem wd_X9_sortTests_iM : Cond.initialized "java/lang/Math" ∈ wsX9_sortTests := by decide +kernel
theorem wd_X9_sortTests_kmin : Cond.code Lib.Math.min.name Lib.Math.min.code 2 (some .int) ∈ wsX9_sortTests := by decide +kernel
theorem wd_X9_sortTests_l386 : Cond.methodLink RX9 386 Lib.Math.max.name ∈ wsX9_sortTests := by decide +kernel
theorem wd_X9_sortTests_smax : Cond.static Lib.Math.max.name ∈ wsX9_sortTests := by decide +kernel
theorem wd_X9_sortTests_kmax : Cond.code Lib.Math.max.name Lib.Math.max.code 2 (some .int) ∈ wsX9_sortTests := by decide +kernel
def wL_X9_sortTests_9 (z : Zt) (o : Nat) (K : Vt → Prop) (Kx : Int32 → Int32 → Int32 → Vt → Prop) : Nat → Int32 → Int32 → Int32 → Vt → Prop
  | 0, _, _, _, _ => False
  | n + 1, x3_, x2_, x1_, w => (x1_ ≤ (x3_ + 1) → Kx x3_ x2_ x1_ w) ∧ (¬ x1_ ≤ (x3_ + 1) → ∃ b3 : Nat, zR z 911 o = some b3 ∧ isO z 1911 b3 ∧ (5 ≤ (x3_ + 1) → Kx x3_ x2_ x1_ w) ∧ (¬ 5 ≤ (x3_ + 1) → vp_in x3_ 5 ∧ vp_in (x3_ + 1) 5 ∧ ∀ x5 : Int32, x5 = (if (vA w 1911 b3 (x3_ + 1 : Int32).toNatClampNeg) < (vA w 1911 b3 (x3_ : Int32).toNatClampNeg) then vA w 1911 b3 (x3_ + 1 : Int32).toNatClampNeg else vA w 1911 b3 (x3_ : Int32).toNatClampNeg) → vp_in x3_ 5 ∧ vp_in (x3_ + 1) 5 ∧ ∀ x6 : Int32, x6 = (if (vA w 1911 b3 (x3_ : Int32).toNatClampNeg) < (vA w 1911 b3 (x3_ + 1 : Int32).toNatClampNeg) then vA w 1911 b3 (x3_ + 1 : Int32).toNatClampNeg else vA w 1911 b3 (x3_ : Int32).toNatClampNeg) → vp_in (x3_ + 1) 5 ∧ ∀ w7 : Vt, w7 = uA w 1911 b3 (x3_ + 1 : Int32).toNatClampNeg x6 → vp_in x3_ 5 ∧ ∀ w8 : Vt, w8 = uA w7 1911 b3 (x3_ : Int32).toNatClampNeg x5 → ∀ x9 : Int32, x9 = x3_ + 1 → wL_X9_sortTests_9 z o K Kx n x9 x2_ x1_ w8))
set_option maxHeartbeats 4000000 in
set_option maxRecDepth 100000 in
theorem kL_X9_sortTests_9 {p : Program} {l : Launch} {e : Env} {s : State} {m : MethodId} {args : Array Value} {below : List Frame} {meth : Method} {c : Code} {G : Gt} {A : Nat → Prop} {z : Zt} (C : gC p s m args meth c cX9_sortTests 5 RX9 wsX9_sortTests none G A) (o : Nat) (ho : isO z 9 o) (K : Vt → Prop) (Kx : Int32 → Int32 → Int32 → Vt → Prop) (kKx : ∀ (x3_ x2_ x1_ : Int32) (w : Vt) (H : Heap) (locs : List Loc) (ls : Array Slot), Kx x3_ x2_ x1_ w → hpH G.1 G.2.1 A s.heap z w H locs → lv_has ls 5 [(3, .int x3_), (2, .int x2_), (0, .ref o), (1, .int x1_)] → W p l e (headSpec wsX9_sortTests rmX9_sortTests).room s m args below meth c H locs 0 0 (MQ below (va_Qv K (gB G A z) A) args s 0 0 A) (F0 m 85 ls [])) : ∀ (n : Nat) (x3_ x2_ x1_ : Int32) (w : Vt) (H : Heap) (locs : List Loc) (ls : Array Slot), wL_X9_sortTests_9 z o K Kx n x3_ x2_ x1_ w → hpH G.1 G.2.1 A s.heap z w H locs → lv_has ls 5 [(3, .int x3_), (2, .int x2_), (0, .ref o), (1, .int x1_)] → W p l e (headSpec wsX9_sortTests rmX9_sortTests).room s m args below meth c H locs 0 0 (MQ below (va_Qv K (gB G A z) A) args s 0 0 A) (F0 m 9 ls []) := by
  obtain ⟨hx, hb, hr, hlocks, hml, hown, hts, hK, hA, hE⟩ := id C
  intro n
  induction n with
  | zero =>
    intro x3_ x2_ x1_ w H locs ls hp
    exact hp.elim
  | succ n ih =>
    intro x3_ x2_ x1_ w H locs ls hp h hl
    refine lv_iload_n hx hb dX9_sortTests_9 rfl (lv_at hl 0 rfl) ?_
    refine lv_iconst (v := 1) hx hb dX9_sortTests_10 (by decide) ?_
    refine lv_iadd hx hb dX9_sortTests_11 ?_
    refine lv_iload_n hx hb dX9_sortTests_12 rfl (lv_at hl 3 rfl) ?_
    refine lv_icmp_ge (tgt := 85) hx hb dX9_sortTests_13 (by decide) (fun hc2 => ?_) (fun hc2 => ?_)
    · have hp := hp.1 hc2
      exact kKx x3_ x2_ x1_ w _ _ _ hp h (lv_sub hl [0, 1, 2, 3] rfl)
    · have hp := hp.2 hc2
      refine lv_iload_n hx hb dX9_sortTests_16 rfl (lv_at hl 0 rfl) ?_
      refine lv_iconst (v := 1) hx hb dX9_sortTests_17 (by decide) ?_
      refine lv_iadd hx hb dX9_sortTests_18 ?_
      refine lv_aload_n hx hb dX9_sortTests_19 rfl (lv_at hl 2 rfl) ?_
      obtain ⟨b3, eb3, hob3, hp⟩ := hp
      refine hp_get (ci := 9) (v := .ref b3) hx hb hts ix_X9_sortTests_9 hown hK h ho (by decide) rfl 11 (by decide) (hts _ lk_X9_sortTests_54) (fun _ h9 => h9) (by show some (va_rf (zR z 911 o)) = some (Value.ref b3); rw [eb3]; rfl) dX9_sortTests_20 ?_
      refine hp_alen (t := 1911) (n := 5) hx hb hK h 1 rfl hob3 (by decide) (fun _ _ _ => ⟨_, rfl, rfl⟩) (v := 5) (by decide) dX9_sortTests_23 ?_
      refine lv_icmp_ge (tgt := 85) hx hb dX9_sortTests_24 (by decide) (fun hc4 => ?_) (fun hc4 => ?_)
      · have hp := hp.1 hc4
        exact kKx x3_ x2_ x1_ w _ _ _ hp h (lv_sub hl [0, 1, 2, 3] rfl)
      · have hp := hp.2 hc4
        refine lv_aload_n hx hb dX9_sortTests_27 rfl (lv_at hl 2 rfl) ?_
        refine hp_get (ci := 9) (v := .ref b3) hx hb hts ix_X9_sortTests_9 hown hK h ho (by decide) rfl 11 (by decide) (hts _ lk_X9_sortTests_54) (fun _ h9 => h9) (by show some (va_rf (zR z 911 o)) = some (Value.ref b3); rw [eb3]; rfl) dX9_sortTests_28 ?_
        refine lv_iload_n hx hb dX9_sortTests_31 rfl (lv_at hl 0 rfl) ?_
        refine hp_iald (t := 1911) (n := 5) hx hb hK h hob3 (by decide) (fun _ _ _ => rfl) hp.1 dX9_sortTests_32 ?_
        have hp := hp.2
        refine lv_aload_n hx hb dX9_sortTests_33 rfl (lv_at hl 2 rfl) ?_
        refine hp_get (ci := 9) (v := .ref b3) hx hb hts ix_X9_sortTests_9 hown hK h ho (by decide) rfl 11 (by decide) (hts _ lk_X9_sortTests_54) (fun _ h9 => h9) (by show some (va_rf (zR z 911 o)) = some (Value.ref b3); rw [eb3]; rfl) dX9_sortTests_34 ?_
        refine lv_iload_n hx hb dX9_sortTests_37 rfl (lv_at hl 0 rfl) ?_
        refine lv_iconst (v := 1) hx hb dX9_sortTests_38 (by decide) ?_
        refine lv_iadd hx hb dX9_sortTests_39 ?_
        refine hp_iald (t := 1911) (n := 5) hx hb hK h hob3 (by decide) (fun _ _ _ => rfl) hp.1 dX9_sortTests_40 ?_
        have hp := hp.2
        refine va_mmin hx hb (by rw [hml]; exact hl.1.symm) hown (hts _ wd_X9_sortTests_l381) (hts _ wd_X9_sortTests_smin) (hts _ wd_X9_sortTests_iM) (hts _ wd_X9_sortTests_kmin) (Nat.le_of_ble_eq_true rfl) (Nat.le_of_ble_eq_true rfl) (Nat.zero_le _) (Nat.zero_le _) dX9_sortTests_41 ?_
        refine lv_topi (fun x5 ex5 => ?_)
        have hp := hp x5 ex5
        refine lv_istore (lv' := [(4, .int x5), (3, .int x3_), (2, .int x2_), (0, .ref o), (1, .int x1_)]) hx hb dX9_sortTests_44 hl (by decide) rfl (fun ls hl => ?_)
        refine lv_aload_n hx hb dX9_sortTests_46 rfl (lv_at hl 3 rfl) ?_
        refine hp_get (ci := 9) (v := .ref b3) hx hb hts ix_X9_sortTests_9 hown hK h ho (by decide) rfl 11 (by decide) (hts _ lk_X9_sortTests_54) (fun _ h9 => h9) (by show some (va_rf (zR z 911 o)) = some (Value.ref b3); rw [eb3]; rfl) dX9_sortTests_47 ?_
        refine lv_iload_n hx hb dX9_sortTests_50 rfl (lv_at hl 1 rfl) ?_
        refine lv_iconst (v := 1) hx hb dX9_sortTests_51 (by decide) ?_
        refine lv_iadd hx hb dX9_sortTests_52 ?_
        refine lv_aload_n hx hb dX9_sortTests_53 rfl (lv_at hl 3 rfl) ?_
        refine hp_get (ci := 9) (v := .ref b3) hx hb hts ix_X9_sortTests_9 hown hK h ho (by decide) rfl 11 (by decide) (hts _ lk_X9_sortTests_54) (fun _ h9 => h9) (by show some (va_rf (zR z 911 o)) = some (Value.ref b3); rw [eb3]; rfl) dX9_sortTests_54 ?_
        refine lv_iload_n hx hb dX9_sortTests_57 rfl (lv_at hl 1 rfl) ?_
        refine hp_iald (t := 1911) (n := 5) hx hb hK h hob3 (by decide) (fun _ _ _ => rfl) hp.1 dX9_sortTests_58 ?_
        have hp := hp.2
        refine lv_aload_n hx hb dX9_sortTests_59 rfl (lv_at hl 3 rfl) ?_
        refine hp_get (ci := 9) (v := .ref b3) hx hb hts ix_X9_sortTests_9 hown hK h ho (by decide) rfl 11 (by decide) (hts _ lk_X9_sortTests_54) (fun _ h9 => h9) (by show some (va_rf (zR z 911 o)) = some (Value.ref b3); rw [eb3]; rfl) dX9_sortTests_60 ?_
        refine lv_iload_n hx hb dX9_sortTests_63 rfl (lv_at hl 1 rfl) ?_
        refine lv_iconst (v := 1) hx hb dX9_sortTests_64 (by decide) ?_
        refine lv_iadd hx hb dX9_sortTests_65 ?_
        refine hp_iald (t := 1911) (n := 5) hx hb hK h hob3 (by decide) (fun _ _ _ => rfl) hp.1 dX9_sortTests_66 ?_
        have hp := hp.2
        refine va_mmax hx hb (by rw [hml]; exact hl.1.symm) hown (hts _ wd_X9_sortTests_l386) (hts _ wd_X9_sortTests_smax) (hts _ wd_X9_sortTests_iM) (hts _ wd_X9_sortTests_kmax) (Nat.le_of_ble_eq_true rfl) (Nat.le_of_ble_eq_true rfl) (Nat.zero_le _) (Nat.zero_le _) dX9_sortTests_67 ?_
        refine lv_topi (fun x6 ex6 => ?_)
        have hp := hp x6 ex6
        refine hp_iast (t := 1911) (n := 5) hx hb hK h hob3 (by decide) (fun _ _ _ => rfl) hp.1 dX9_sortTests_70 (fun H locs w7 ew7 h => ?_)
        have hp := hp.2 w7 ew7
        refine lv_aload_n hx hb dX9_sortTests_71 rfl (lv_at hl 3 rfl) ?_
        refine hp_get (ci := 9) (v := .ref b3) hx hb hts ix_X9_sortTests_9 hown hK h ho (by decide) rfl 11 (by decide) (hts _ lk_X9_sortTests_54) (fun _ h9 => h9) (by show some (va_rf (zR z 911 o)) = some (Value.ref b3); rw [eb3]; rfl) dX9_sortTests_72 ?_
        refine lv_iload_n hx hb dX9_sortTests_75 rfl (lv_at hl 1 rfl) ?_
        refine lv_iload hx hb dX9_sortTests_76 (lv_at hl 0 rfl) ?_
        refine hp_iast (t := 1911) (n := 5) hx hb hK h hob3 (by decide) (fun _ _ _ => rfl) hp.1 dX9_sortTests_78 (fun H locs w8 ew8 h => ?_)
        have hp := hp.2 w8 ew8
        obtain ⟨x9, ex9⟩ : ∃ y : Int32, y = x3_ + 1 := ⟨_, rfl⟩
        have hp := hp x9 ex9
        refine lv_iinc (v := x9) (lv' := [(3, .int x9), (4, .int x5), (2, .int x2_), (0, .ref o), (1, .int x1_)]) hx hb dX9_sortTests_79 hl (k := 1) rfl (by rw [ex9]; rfl) (by decide) rfl (fun ls hl => ?_)
        refine lv_goto (tgt := 9) hx hb dX9_sortTests_82 (by decide) ?_
        exact ih x9 x2_ x1_ w8 _ _ _ hp h (lv_sub hl [0, 2, 3, 4] rfl)
def wL_X9_sortTests_2 (z : Zt) (o : Nat) (K : Vt → Prop) (Kx : Int32 → Int32 → Vt → Prop) : Nat → Int32 → Int32 → Vt → Prop
  | 0, _, _, _ => False
  | n + 1, x2_, x1_, w => (x1_ ≤ x2_ → Kx x2_ x1_ w) ∧ (¬ x1_ ≤ x2_ → ∃ n10 : Nat, wL_X9_sortTests_9 z o K (fun x11 x12 x13 w14 => ∀ x15 : Int32, x15 = x12 + 1 → wL_X9_sortTests_2 z o K Kx n x15 x13 w14) n10 0 x2_ x1_ w)
set_option maxHeartbeats 4000000 in
set_option maxRecDepth 100000 in
theorem kL_X9_sortTests_2 {p : Program} {l : Launch} {e : Env} {s : State} {m : MethodId} {args : Array Value} {below : List Frame} {meth : Method} {c : Code} {G : Gt} {A : Nat → Prop} {z : Zt} (C : gC p s m args meth c cX9_sortTests 5 RX9 wsX9_sortTests none G A) (o : Nat) (ho : isO z 9 o) (K : Vt → Prop) (Kx : Int32 → Int32 → Vt → Prop) (kKx : ∀ (x2_ x1_ : Int32) (w : Vt) (H : Heap) (locs : List Loc) (ls : Array Slot), Kx x2_ x1_ w → hpH G.1 G.2.1 A s.heap z w H locs → lv_has ls 5 [(2, .int x2_), (0, .ref o), (1, .int x1_)] → W p l e (headSpec wsX9_sortTests rmX9_sortTests).room s m args below meth c H locs 0 0 (MQ below (va_Qv K (gB G A z) A) args s 0 0 A) (F0 m 91 ls [])) : ∀ (n : Nat) (x2_ x1_ : Int32) (w : Vt) (H : Heap) (locs : List Loc) (ls : Array Slot), wL_X9_sortTests_2 z o K Kx n x2_ x1_ w → hpH G.1 G.2.1 A s.heap z w H locs → lv_has ls 5 [(2, .int x2_), (0, .ref o), (1, .int x1_)] → W p l e (headSpec wsX9_sortTests rmX9_sortTests).room s m args below meth c H locs 0 0 (MQ below (va_Qv K (gB G A z) A) args s 0 0 A) (F0 m 2 ls []) := by
  obtain ⟨hx, hb, hr, hlocks, hml, hown, hts, hK, hA, hE⟩ := id C
  intro n
  induction n with
  | zero =>
    intro x2_ x1_ w H locs ls hp
    exact hp.elim
  | succ n ih =>
    intro x2_ x1_ w H locs ls hp h hl
    refine lv_iload_n hx hb dX9_sortTests_2 rfl (lv_at hl 0 rfl) ?_
    refine lv_iload_n hx hb dX9_sortTests_3 rfl (lv_at hl 2 rfl) ?_
    refine lv_icmp_ge (tgt := 91) hx hb dX9_sortTests_4 (by decide) (fun hc1 => ?_) (fun hc1 => ?_)
    · have hp := hp.1 hc1
      exact kKx x2_ x1_ w _ _ _ hp h (lv_sub hl [0, 1, 2] rfl)
    · have hp := hp.2 hc1
      refine lv_iconst (v := 0) hx hb dX9_sortTests_7 (by decide) ?_
      refine lv_istore_n (lv' := [(3, .int 0), (2, .int x2_), (0, .ref o), (1, .int x1_)]) hx hb dX9_sortTests_8 rfl hl (by decide) rfl (fun ls hl => ?_)
      obtain ⟨n10, hp⟩ := hp
      refine kL_X9_sortTests_9 C o ho _ _ (fun x11 x12 x13 w14 H locs ls hp h hl => ?_) n10 0 x2_ x1_ w _ _ _ hp h (lv_sub hl [0, 1, 2, 3] rfl)
      obtain ⟨x15, ex15⟩ : ∃ y : Int32, y = x12 + 1 := ⟨_, rfl⟩
      have hp := hp x15 ex15
      refine lv_iinc (v := x15) (lv' := [(2, .int x15), (3, .int x11), (0, .ref o), (1, .int x13)]) hx hb dX9_sortTests_85 hl (k := 1) rfl (by rw [ex15]; rfl) (by decide) rfl (fun ls hl => ?_)
      refine lv_goto (tgt := 2) hx hb dX9_sortTests_88 (by decide) ?_
      exact ih x15 x13 w14 _ _ _ hp h (lv_sub hl [0, 2, 3] rfl)
def wp_X9_sortTests (z : Zt) (o : Nat) (p0 : Int32) (w : Vt) (K : Vt → Prop) : Prop := isO z 9 o ∧ ∃ n16 : Nat, wL_X9_sortTests_2 z o K (fun x17 x18 w19 => K w19) n16 1 p0 w
set_option maxHeartbeats 4000000 in
set_option maxRecDepth 100000 in
theorem k_X9_sortTests (l : Launch) (G : Gt) (z : Zt) (w : Vt) (sz : Nat) (o : Nat) (p0 : Int32) (K : Vt → Prop) (hp : wp_X9_sortTests z o p0 w K) : MV l yX9_sortTests wsX9_sortTests rmX9_sortTests G z w sz [.ref o, .int p0] K := by
  refine Met.ofW (cc := cX9_sortTests) (maxL := 5) (ret := none) (by decide +kernel) rfl ?_
  intro p e s m args below meth c s₁ B hml hv
  obtain ⟨rfl, rfl, C, h⟩ := hp_start B hml hv
  generalize gA G z w s.heap.size = A at C h ⊢
  obtain ⟨hx, hb, hr, hlocks, hml, hown, hts, hK, hA, hE⟩ := id C
  obtain ⟨ho, hp⟩ := hp
  have hl := lv_entry ([.ref o, .int p0]) (n := 5) (Nat.le_of_ble_eq_true rfl)
  rw [lg_entry_eq]
  generalize (lg_sl ([.ref o, .int p0]) ++ List.replicate (5 - (lg_sl ([.ref o, .int p0])).length) Slot.unset).toArray = ls at hl ⊢
  have hl : lv_has ls 5 [(0, .ref o), (1, .int p0)] := hl
  refine lv_iconst (v := 1) hx hb dX9_sortTests_0 (by decide) ?_
  refine lv_istore_n (lv' := [(2, .int 1), (0, .ref o), (1, .int p0)]) hx hb dX9_sortTests_1 rfl hl (by decide) rfl (fun ls hl => ?_)
  obtain ⟨n16, hp⟩ := hp
  refine kL_X9_sortTests_2 C o ho _ _ (fun x17 x18 w19 H locs ls hp h hl => ?_) n16 1 p0 w _ _ _ hp h (lv_sub hl [0, 1, 2] rfl)
  exact hp_vret hx hb hr hlocks hK h hp dX9_sortTests_91
abbrev rmX9_foretell : Room := { frames := 1, cells := 0, slots := 0, locals := 23 }
theorem ix_X9_foretell_9 : ∀ w ∈ wsX90, w ∈ wsX9_foretell := by decide +kernel
theorem lk_X9_foretell_68 : Cond.fieldLink RX9 68 "KelpShores" "forecast" "LKelpShores$Forecast;" ∈ wsX9_foretell := by decide +kernel
theorem ix_X9_foretell_1 : ∀ w ∈ wsX10, w ∈ wsX9_foretell := by decide +kernel
theorem lk_X9_foretell_335 {G : Gt} {A : Nat → Prop} {s : State} {args : Array Value} (hE : gE G A s s.heap) : (Cond.fieldLinkNest RX9 335 "KelpShores$Forecast" "days" "I" "KelpShores").before args s = true := by
  have h : va_Nw (Cond.fieldLinkNest RX9 335 "KelpShores$Forecast" "days" "I" "KelpShores") s := hE.1 (RX9, 335, "KelpShores$Forecast", "days", "I") (List.mem_of_getElem? (i := 6) rfl)
  exact va_Nw.use rfl h
def wp_X9_foretell (z : Zt) (o : Nat) (p0 : Int32) (p1 : Int32) (p2 : Int32) (w : Vt) (K : Int32 → Vt → Prop) : Prop := isO z 9 o ∧ ∃ b1 : Nat, zR z 913 o = some b1 ∧ isO z 1 b1 ∧ wp_X1_addDay z b1 p0 p1 p2 w (fun r3 w2 => (r3 = 0 → K (-1) w2) ∧ (¬ r3 = 0 → K (vI w2 103 b1) w2))
set_option maxHeartbeats 4000000 in
set_option maxRecDepth 100000 in
theorem k_X9_foretell (l : Launch) (G : Gt) (z : Zt) (w : Vt) (sz : Nat) (o : Nat) (p0 : Int32) (p1 : Int32) (p2 : Int32) (K : Int32 → Vt → Prop) (hp : wp_X9_foretell z o p0 p1 p2 w K) : MI l yX9_foretell wsX9_foretell rmX9_foretell G z w sz [.ref o, .int p0, .int p1, .int p2] K := by
  refine Met.ofW (cc := cX9_foretell) (maxL := 4) (ret := (some .int)) (by decide +kernel) rfl ?_
  intro p e s m args below meth c s₁ B hml hv
  obtain ⟨rfl, rfl, C, h⟩ := hp_start B hml hv
  generalize gA G z w s.heap.size = A at C h ⊢
  obtain ⟨hx, hb, hr, hlocks, hml, hown, hts, hK, hA, hE⟩ := id C
  obtain ⟨ho, hp⟩ := hp
  have hl := lv_entry ([.ref o, .int p0, .int p1, .int p2]) (n := 4) (Nat.le_of_ble_eq_true rfl)
  rw [lg_entry_eq]
  generalize (lg_sl ([.ref o, .int p0, .int p1, .int p2]) ++ List.replicate (4 - (lg_sl ([.ref o, .int p0, .int p1, .int p2])).length) Slot.unset).toArray = ls at hl ⊢
  have hl : lv_has ls 4 [(0, .ref o), (1, .int p0), (2, .int p1), (3, .int p2)] := hl
  refine lv_aload_n hx hb dX9_foretell_0 rfl (lv_at hl 0 rfl) ?_
  obtain ⟨b1, eb1, hob1, hp⟩ := hp
  refine hp_get (ci := 9) (v := .ref b1) hx hb hts ix_X9_foretell_9 hown hK h ho (by decide) rfl 13 (by decide) (hts _ lk_X9_foretell_68) (fun _ h9 => h9) (by show some (va_rf (zR z 913 o)) = some (Value.ref b1); rw [eb1]; rfl) dX9_foretell_1 ?_
  refine lv_iload_n hx hb dX9_foretell_4 rfl (lv_at hl 1 rfl) ?_
  refine lv_iload_n hx hb dX9_foretell_5 rfl (lv_at hl 2 rfl) ?_
  refine lv_iload_n hx hb dX9_foretell_6 rfl (lv_at hl 3 rfl) ?_
  refine hp_cVi ⟨hx, hb, hml, hown, hts⟩ (k_X1_addDay l G z w _ b1 p0 p1 p2 _ hp) (cwV 3 hts gX9_foretell_X1_addDay rfl rfl rfl (by decide +kernel) ⟨Nat.le_of_ble_eq_true rfl, Nat.le_of_ble_eq_true rfl⟩) hob1 (by decide) rfl hK h hA hE rfl hl.1 rfl (Nat.le_of_ble_eq_true rfl) dX9_foretell_7 ⟨Nat.le_of_ble_eq_true rfl, Nat.le_of_ble_eq_true rfl⟩ (fun r3 w2 H locs hp h => ?_)
  refine lv_if_eq (tgt := 23) hx hb dX9_foretell_10 (by decide) (fun hc4 => ?_) (fun hc4 => ?_)
  · have hp := hp.1 hc4
    refine lv_iconst (v := (-1)) hx hb dX9_foretell_23 (by decide) ?_
    exact hp_iret hx hb hr rfl hlocks hK h hp dX9_foretell_24
  · have hp := hp.2 hc4
    refine lv_aload_n hx hb dX9_foretell_13 rfl (lv_at hl 0 rfl) ?_
    refine hp_get (ci := 9) (v := .ref b1) hx hb hts ix_X9_foretell_9 hown hK h ho (by decide) rfl 13 (by decide) (hts _ lk_X9_foretell_68) (fun _ h9 => h9) (by show some (va_rf (zR z 913 o)) = some (Value.ref b1); rw [eb1]; rfl) dX9_foretell_14 ?_
    refine hp_getN (ci := 1) (v := .int (vI w2 103 b1)) hx hb hts ix_X9_foretell_1 hown hK h hob1 (by decide) rfl 3 (by decide) (lk_X9_foretell_335 hE) (fun _ h9 => h9) rfl dX9_foretell_17 ?_
    refine lv_goto (tgt := 24) hx hb dX9_foretell_20 (by decide) ?_
    exact hp_iret hx hb hr rfl hlocks hK h hp dX9_foretell_24
abbrev rmX9_burningPits : Room := { frames := 0, cells := 0, slots := 0, locals := 0 }
theorem ix_X9_burningPits_9 : ∀ w ∈ wsX90, w ∈ wsX9_burningPits := by decide +kernel
theorem lk_X9_burningPits_44 : Cond.fieldLink RX9 44 "KelpShores" "pits" "[LKelpShores$Pit;" ∈ wsX9_burningPits := by decide +kernel
theorem ix_X9_burningPits_3 : ∀ w ∈ wsX30, w ∈ wsX9_burningPits := by decide +kernel
theorem lk_X9_burningPits_260 {G : Gt} {A : Nat → Prop} {s : State} {args : Array Value} (hE : gE G A s s.heap) : (Cond.fieldLinkNest RX9 260 "KelpShores$Pit" "daysLeft" "I" "KelpShores").before args s = true := by
  have h : va_Nw (Cond.fieldLinkNest RX9 260 "KelpShores$Pit" "daysLeft" "I" "KelpShores") s := hE.1 (RX9, 260, "KelpShores$Pit", "daysLeft", "I") (List.mem_of_getElem? (i := 28) rfl)
  exact va_Nw.use rfl h
def wL_X9_burningPits_13 (z : Zt) (b1 : Nat) (o : Nat) (K : Int32 → Vt → Prop) (Kx : Int32 → Int32 → Int32 → Vt → Prop) : Nat → Int32 → Int32 → Int32 → Vt → Prop
  | 0, _, _, _, _ => False
  | n + 1, x4_, x3_, x1_, w => (x3_ ≤ x4_ → Kx x4_ x3_ x1_ w) ∧ (¬ x3_ ≤ x4_ → vp_in x4_ 12 ∧ (zO z 1907 b1 (x4_ : Int32).toNatClampNeg = none → ∀ x4 : Int32, x4 = x4_ + 1 → wL_X9_burningPits_13 z b1 o K Kx n x4 x3_ x1_ w) ∧ (∀ b3 : Nat, zO z 1907 b1 (x4_ : Int32).toNatClampNeg = some b3 → isO z 3 b3 ∧ ((vI w 302 b3) ≤ 0 → ∀ x6 : Int32, x6 = x4_ + 1 → wL_X9_burningPits_13 z b1 o K Kx n x6 x3_ x1_ w) ∧ (¬ (vI w 302 b3) ≤ 0 → ∀ x7 : Int32, x7 = x1_ + 1 → ∀ x8 : Int32, x8 = x4_ + 1 → wL_X9_burningPits_13 z b1 o K Kx n x8 x3_ x7 w)))
set_option maxHeartbeats 4000000 in
set_option maxRecDepth 100000 in
theorem kL_X9_burningPits_13 {p : Program} {l : Launch} {e : Env} {s : State} {m : MethodId} {args : Array Value} {below : List Frame} {meth : Method} {c : Code} {G : Gt} {A : Nat → Prop} {z : Zt} (C : gC p s m args meth c cX9_burningPits 6 RX9 wsX9_burningPits (some .int) G A) (b1 : Nat) (o : Nat) (hob1 : isO z 1907 b1) (ho : isO z 9 o) (K : Int32 → Vt → Prop) (Kx : Int32 → Int32 → Int32 → Vt → Prop) (kKx : ∀ (x4_ x3_ x1_ : Int32) (w : Vt) (H : Heap) (locs : List Loc) (ls : Array Slot), Kx x4_ x3_ x1_ w → hpH G.1 G.2.1 A s.heap z w H locs → lv_has ls 6 [(4, .int x4_), (3, .int x3_), (2, .ref b1), (1, .int x1_), (0, .ref o)] → W p l e (headSpec wsX9_burningPits rmX9_burningPits).room s m args below meth c H locs 0 0 (MQ below (va_Qi K (gB G A z) A) args s 0 0 A) (F0 m 47 ls [])) : ∀ (n : Nat) (x4_ x3_ x1_ : Int32) (w : Vt) (H : Heap) (locs : List Loc) (ls : Array Slot), wL_X9_burningPits_13 z b1 o K Kx n x4_ x3_ x1_ w → hpH G.1 G.2.1 A s.heap z w H locs → lv_has ls 6 [(4, .int x4_), (3, .int x3_), (2, .ref b1), (1, .int x1_), (0, .ref o)] → W p l e (headSpec wsX9_burningPits rmX9_burningPits).room s m args below meth c H locs 0 0 (MQ below (va_Qi K (gB G A z) A) args s 0 0 A) (F0 m 13 ls []) := by
  obtain ⟨hx, hb, hr, hlocks, hml, hown, hts, hK, hA, hE⟩ := id C
  intro n
  induction n with
  | zero =>
    intro x4_ x3_ x1_ w H locs ls hp
    exact hp.elim
  | succ n ih =>
    intro x4_ x3_ x1_ w H locs ls hp h hl
    refine lv_iload hx hb dX9_burningPits_13 (lv_at hl 0 rfl) ?_
    refine lv_iload_n hx hb dX9_burningPits_15 rfl (lv_at hl 1 rfl) ?_
    refine lv_icmp_ge (tgt := 47) hx hb dX9_burningPits_16 (by decide) (fun hc2 => ?_) (fun hc2 => ?_)
    · have hp := hp.1 hc2
      exact kKx x4_ x3_ x1_ w _ _ _ hp h (lv_sub hl [0, 1, 2, 3, 4] rfl)
    · have hp := hp.2 hc2
      refine lv_aload_n hx hb dX9_burningPits_19 rfl (lv_at hl 2 rfl) ?_
      refine lv_iload hx hb dX9_burningPits_20 (lv_at hl 0 rfl) ?_
      refine hp_aald (t := 1907) (n := 12) hx hb hK h 5 rfl hob1 (by decide) (fun _ _ _ => rfl) hp.1 dX9_burningPits_22 ?_
      have hp := hp.2
      cases eb3 : zO z 1907 b1 (x4_ : Int32).toNatClampNeg with
      | none =>
        have hp := hp.1 eb3
        refine lv_astoreN (lv' := [(5, .null), (4, .int x4_), (3, .int x3_), (2, .ref b1), (1, .int x1_), (0, .ref o)]) hx hb dX9_burningPits_23 hl (by decide) rfl (fun ls hl => ?_)
        refine lv_aloadN hx hb dX9_burningPits_25 (lv_at hl 0 rfl) ?_
        refine lv_ifnullN (tgt := 41) hx hb dX9_burningPits_27 (by decide) ?_
        obtain ⟨x4, ex4⟩ : ∃ y : Int32, y = x4_ + 1 := ⟨_, rfl⟩
        have hp := hp x4 ex4
        refine lv_iinc (v := x4) (lv' := [(4, .int x4), (5, .null), (3, .int x3_), (2, .ref b1), (1, .int x1_), (0, .ref o)]) hx hb dX9_burningPits_41 hl (k := 1) rfl (by rw [ex4]; rfl) (by decide) rfl (fun ls hl => ?_)
        refine lv_goto (tgt := 13) hx hb dX9_burningPits_44 (by decide) ?_
        exact ih x4 x3_ x1_ w _ _ _ hp h (lv_sub hl [0, 2, 3, 4, 5] rfl)
      | some b3 =>
        obtain ⟨hob3, hp⟩ := hp.2 b3 eb3
        refine lv_astore (lv' := [(5, .ref b3), (4, .int x4_), (3, .int x3_), (2, .ref b1), (1, .int x1_), (0, .ref o)]) hx hb dX9_burningPits_23 hl (by decide) rfl (fun ls hl => ?_)
        refine lv_aload hx hb dX9_burningPits_25 (lv_at hl 0 rfl) ?_
        refine lv_ifnull hx hb dX9_burningPits_27 ?_
        refine lv_aload hx hb dX9_burningPits_30 (lv_at hl 0 rfl) ?_
        refine hp_getN (ci := 3) (v := .int (vI w 302 b3)) hx hb hts ix_X9_burningPits_3 hown hK h hob3 (by decide) rfl 2 (by decide) (lk_X9_burningPits_260 hE) (fun _ h9 => h9) rfl dX9_burningPits_32 ?_
        refine lv_if_le (tgt := 41) hx hb dX9_burningPits_35 (by decide) (fun hc5 => ?_) (fun hc5 => ?_)
        · have hp := hp.1 hc5
          obtain ⟨x6, ex6⟩ : ∃ y : Int32, y = x4_ + 1 := ⟨_, rfl⟩
          have hp := hp x6 ex6
          refine lv_iinc (v := x6) (lv' := [(4, .int x6), (5, .ref b3), (3, .int x3_), (2, .ref b1), (1, .int x1_), (0, .ref o)]) hx hb dX9_burningPits_41 hl (k := 1) rfl (by rw [ex6]; rfl) (by decide) rfl (fun ls hl => ?_)
          refine lv_goto (tgt := 13) hx hb dX9_burningPits_44 (by decide) ?_
          exact ih x6 x3_ x1_ w _ _ _ hp h (lv_sub hl [0, 2, 3, 4, 5] rfl)
        · have hp := hp.2 hc5
          obtain ⟨x7, ex7⟩ : ∃ y : Int32, y = x1_ + 1 := ⟨_, rfl⟩
          have hp := hp x7 ex7
          refine lv_iinc (v := x7) (lv' := [(1, .int x7), (5, .ref b3), (4, .int x4_), (3, .int x3_), (2, .ref b1), (0, .ref o)]) hx hb dX9_burningPits_38 hl (k := 4) rfl (by rw [ex7]; rfl) (by decide) rfl (fun ls hl => ?_)
          obtain ⟨x8, ex8⟩ : ∃ y : Int32, y = x4_ + 1 := ⟨_, rfl⟩
          have hp := hp x8 ex8
          refine lv_iinc (v := x8) (lv' := [(4, .int x8), (1, .int x7), (5, .ref b3), (3, .int x3_), (2, .ref b1), (0, .ref o)]) hx hb dX9_burningPits_41 hl (k := 2) rfl (by rw [ex8]; rfl) (by decide) rfl (fun ls hl => ?_)
          refine lv_goto (tgt := 13) hx hb dX9_burningPits_44 (by decide) ?_
          exact ih x8 x3_ x7 w _ _ _ hp h (lv_sub hl [0, 3, 4, 1, 5] rfl)
def wp_X9_burningPits (z : Zt) (o : Nat) (w : Vt) (K : Int32 → Vt → Prop) : Prop := isO z 9 o ∧ ∃ b1 : Nat, zR z 907 o = some b1 ∧ isO z 1907 b1 ∧ ∃ n9 : Nat, wL_X9_burningPits_13 z b1 o K (fun x10 x11 x12 w13 => K x12 w13) n9 0 12 0 w
set_option maxHeartbeats 4000000 in
set_option maxRecDepth 100000 in
theorem k_X9_burningPits (l : Launch) (G : Gt) (z : Zt) (w : Vt) (sz : Nat) (o : Nat) (K : Int32 → Vt → Prop) (hp : wp_X9_burningPits z o w K) : MI l yX9_burningPits wsX9_burningPits rmX9_burningPits G z w sz [.ref o] K := by
  refine Met.ofW (cc := cX9_burningPits) (maxL := 6) (ret := (some .int)) (by decide +kernel) rfl ?_
  intro p e s m args below meth c s₁ B hml hv
  obtain ⟨rfl, rfl, C, h⟩ := hp_start B hml hv
  generalize gA G z w s.heap.size = A at C h ⊢
  obtain ⟨hx, hb, hr, hlocks, hml, hown, hts, hK, hA, hE⟩ := id C
  obtain ⟨ho, hp⟩ := hp
  have hl := lv_entry ([.ref o]) (n := 6) (Nat.le_of_ble_eq_true rfl)
  rw [lg_entry_eq]
  generalize (lg_sl ([.ref o]) ++ List.replicate (6 - (lg_sl ([.ref o])).length) Slot.unset).toArray = ls at hl ⊢
  have hl : lv_has ls 6 [(0, .ref o)] := hl
  refine lv_iconst (v := 0) hx hb dX9_burningPits_0 (by decide) ?_
  refine lv_istore_n (lv' := [(1, .int 0), (0, .ref o)]) hx hb dX9_burningPits_1 rfl hl (by decide) rfl (fun ls hl => ?_)
  refine lv_aload_n hx hb dX9_burningPits_2 rfl (lv_at hl 1 rfl) ?_
  obtain ⟨b1, eb1, hob1, hp⟩ := hp
  refine hp_get (ci := 9) (v := .ref b1) hx hb hts ix_X9_burningPits_9 hown hK h ho (by decide) rfl 7 (by decide) (hts _ lk_X9_burningPits_44) (fun _ h9 => h9) (by show some (va_rf (zR z 907 o)) = some (Value.ref b1); rw [eb1]; rfl) dX9_burningPits_3 ?_
  refine lv_astore_n (lv' := [(2, .ref b1), (1, .int 0), (0, .ref o)]) hx hb dX9_burningPits_6 rfl hl (by decide) rfl (fun ls hl => ?_)
  refine lv_aload_n hx hb dX9_burningPits_7 rfl (lv_at hl 0 rfl) ?_
  refine hp_alen (t := 1907) (n := 12) hx hb hK h 5 rfl hob1 (by decide) (fun _ _ _ => ⟨_, rfl, rfl⟩) (v := 12) (by decide) dX9_burningPits_8 ?_
  refine lv_istore_n (lv' := [(3, .int 12), (2, .ref b1), (1, .int 0), (0, .ref o)]) hx hb dX9_burningPits_9 rfl hl (by decide) rfl (fun ls hl => ?_)
  refine lv_iconst (v := 0) hx hb dX9_burningPits_10 (by decide) ?_
  refine lv_istore (lv' := [(4, .int 0), (3, .int 12), (2, .ref b1), (1, .int 0), (0, .ref o)]) hx hb dX9_burningPits_11 hl (by decide) rfl (fun ls hl => ?_)
  obtain ⟨n9, hp⟩ := hp
  refine kL_X9_burningPits_13 C b1 o hob1 ho _ _ (fun x10 x11 x12 w13 H locs ls hp h hl => ?_) n9 0 12 0 w _ _ _ hp h (lv_sub hl [0, 1, 2, 3, 4] rfl)
  refine lv_iload_n hx hb dX9_burningPits_47 rfl (lv_at hl 3 rfl) ?_
  exact hp_iret hx hb hr rfl hlocks hK h hp dX9_burningPits_48
abbrev rmX9_count : Room := { frames := 1, cells := 0, slots := 0, locals := 25 }
theorem ix_X9_count_9 : ∀ w ∈ wsX90, w ∈ wsX9_count := by decide +kernel
theorem lk_X9_count_202 : Cond.fieldLink RX9 202 "KelpShores" "today" "I" ∈ wsX9_count := by decide +kernel
theorem lk_X9_count_80 : Cond.fieldLink RX9 80 "KelpShores" "shoreCount" "I" ∈ wsX9_count := by decide +kernel
theorem lk_X9_count_246 : Cond.fieldLink RX9 246 "KelpShores" "pitCount" "I" ∈ wsX9_count := by decide +kernel
theorem lk_X9_count_273 : Cond.fieldLink RX9 273 "KelpShores" "lotCount" "I" ∈ wsX9_count := by decide +kernel
theorem lk_X9_count_61 : Cond.fieldLink RX9 61 "KelpShores" "store" "LKelpShores$Store;" ∈ wsX9_count := by decide +kernel
theorem ix_X9_count_7 : ∀ w ∈ wsX70, w ∈ wsX9_count := by decide +kernel
theorem lk_X9_count_344 {G : Gt} {A : Nat → Prop} {s : State} {args : Array Value} (hE : gE G A s s.heap) : (Cond.fieldLinkNest RX9 344 "KelpShores$Store" "size" "I" "KelpShores").before args s = true := by
  have h : va_Nw (Cond.fieldLinkNest RX9 344 "KelpShores$Store" "size" "I" "KelpShores") s := hE.1 (RX9, 344, "KelpShores$Store", "size", "I") (List.mem_of_getElem? (i := 5) rfl)
  exact va_Nw.use rfl h
theorem lk_X9_count_68 : Cond.fieldLink RX9 68 "KelpShores" "forecast" "LKelpShores$Forecast;" ∈ wsX9_count := by decide +kernel
theorem ix_X9_count_1 : ∀ w ∈ wsX10, w ∈ wsX9_count := by decide +kernel
theorem lk_X9_count_335 {G : Gt} {A : Nat → Prop} {s : State} {args : Array Value} (hE : gE G A s s.heap) : (Cond.fieldLinkNest RX9 335 "KelpShores$Forecast" "days" "I" "KelpShores").before args s = true := by
  have h : va_Nw (Cond.fieldLinkNest RX9 335 "KelpShores$Forecast" "days" "I" "KelpShores") s := hE.1 (RX9, 335, "KelpShores$Forecast", "days", "I") (List.mem_of_getElem? (i := 6) rfl)
  exact va_Nw.use rfl h
theorem lk_X9_count_19 : Cond.fieldLink RX9 19 "KelpShores" "rights" "LKelpShores$Rights;" ∈ wsX9_count := by decide +kernel
theorem ix_X9_count_4 : ∀ w ∈ wsX40, w ∈ wsX9_count := by decide +kernel
theorem lk_X9_count_228 {G : Gt} {A : Nat → Prop} {s : State} {args : Array Value} (hE : gE G A s s.heap) : (Cond.fieldLinkNest RX9 228 "KelpShores$Rights" "rest" "I" "KelpShores").before args s = true := by
  have h : va_Nw (Cond.fieldLinkNest RX9 228 "KelpShores$Rights" "rest" "I" "KelpShores") s := hE.1 (RX9, 228, "KelpShores$Rights", "rest", "I") (List.mem_of_getElem? (i := 4) rfl)
  exact va_Nw.use rfl h
theorem lk_X9_count_347 {G : Gt} {A : Nat → Prop} {s : State} {args : Array Value} (hE : gE G A s s.heap) : (Cond.fieldLinkNest RX9 347 "KelpShores$Rights" "size" "I" "KelpShores").before args s = true := by
  have h : va_Nw (Cond.fieldLinkNest RX9 347 "KelpShores$Rights" "size" "I" "KelpShores") s := hE.1 (RX9, 347, "KelpShores$Rights", "size", "I") (List.mem_of_getElem? (i := 2) rfl)
  exact va_Nw.use rfl h
def wp_X9_count (z : Zt) (o : Nat) (p0 : Int32) (w : Vt) (K : Int32 → Vt → Prop) : Prop := isO z 9 o ∧ (p0 = 0 → K (vI w 914 o) w) ∧ (p0 = 1 → K (vI w 905 o) w) ∧ (p0 = 2 → K (vI w 908 o) w) ∧ (p0 = 3 → wp_X9_burningPits z o w (fun r6 w5 => K r6 w5)) ∧ (p0 = 4 → K (vI w 910 o) w) ∧ (p0 = 5 → ∃ b9 : Nat, zR z 912 o = some b9 ∧ isO z 7 b9 ∧ K (vI w 705 b9) w) ∧ (p0 = 6 → ∃ b11 : Nat, zR z 913 o = some b11 ∧ isO z 1 b11 ∧ K (vI w 103 b11) w) ∧ (p0 = 7 → ∃ b13 : Nat, zR z 901 o = some b13 ∧ isO z 4 b13 ∧ K (vI w 406 b13) w) ∧ (p0 = 8 → ∃ b15 : Nat, zR z 901 o = some b15 ∧ isO z 4 b15 ∧ K (vI w 405 b15) w) ∧ (¬ p0 = 0 → ¬ p0 = 1 → ¬ p0 = 2 → ¬ p0 = 3 → ¬ p0 = 4 → ¬ p0 = 5 → ¬ p0 = 6 → ¬ p0 = 7 → ¬ p0 = 8 → K (-1) w)
set_option maxHeartbeats 4000000 in
set_option maxRecDepth 100000 in
theorem k_X9_count (l : Launch) (G : Gt) (z : Zt) (w : Vt) (sz : Nat) (o : Nat) (p0 : Int32) (K : Int32 → Vt → Prop) (hp : wp_X9_count z o p0 w K) : MI l yX9_count wsX9_count rmX9_count G z w sz [.ref o, .int p0] K := by
  refine Met.ofW (cc := cX9_count) (maxL := 2) (ret := (some .int)) (by decide +kernel) rfl ?_
  intro p e s m args below meth c s₁ B hml hv
  obtain ⟨rfl, rfl, C, h⟩ := hp_start B hml hv
  generalize gA G z w s.heap.size = A at C h ⊢
  obtain ⟨hx, hb, hr, hlocks, hml, hown, hts, hK, hA, hE⟩ := id C
  obtain ⟨ho, hp⟩ := hp
  have hl := lv_entry ([.ref o, .int p0]) (n := 2) (Nat.le_of_ble_eq_true rfl)
  rw [lg_entry_eq]
  generalize (lg_sl ([.ref o, .int p0]) ++ List.replicate (2 - (lg_sl ([.ref o, .int p0])).length) Slot.unset).toArray = ls at hl ⊢
  have hl : lv_has ls 2 [(0, .ref o), (1, .int p0)] := hl
  refine lv_iload_n hx hb dX9_count_0 rfl (lv_at hl 1 rfl) ?_
  by_cases hc1 : p0 = 0
  · refine lv_tableIn (off := 51) (tgt := 52) hx hb dX9_count_1 (by rw [hc1]; decide) (by rw [hc1]; decide) (by rw [hc1]; rfl) (by decide) ?_
    have hp := hp.1 hc1
    refine lv_aload_n hx hb dX9_count_52 rfl (lv_at hl 0 rfl) ?_
    refine hp_get (ci := 9) (v := .int (vI w 914 o)) hx hb hts ix_X9_count_9 hown hK h ho (by decide) rfl 14 (by decide) (hts _ lk_X9_count_202) (fun _ h9 => h9) rfl dX9_count_53 ?_
    exact hp_iret hx hb hr rfl hlocks hK h hp dX9_count_56
  have hp := hp.2
  by_cases hc2 : p0 = 1
  · refine lv_tableIn (off := 56) (tgt := 57) hx hb dX9_count_1 (by rw [hc2]; decide) (by rw [hc2]; decide) (by rw [hc2]; rfl) (by decide) ?_
    have hp := hp.1 hc2
    refine lv_aload_n hx hb dX9_count_57 rfl (lv_at hl 0 rfl) ?_
    refine hp_get (ci := 9) (v := .int (vI w 905 o)) hx hb hts ix_X9_count_9 hown hK h ho (by decide) rfl 5 (by decide) (hts _ lk_X9_count_80) (fun _ h9 => h9) rfl dX9_count_58 ?_
    exact hp_iret hx hb hr rfl hlocks hK h hp dX9_count_61
  have hp := hp.2
  by_cases hc3 : p0 = 2
  · refine lv_tableIn (off := 61) (tgt := 62) hx hb dX9_count_1 (by rw [hc3]; decide) (by rw [hc3]; decide) (by rw [hc3]; rfl) (by decide) ?_
    have hp := hp.1 hc3
    refine lv_aload_n hx hb dX9_count_62 rfl (lv_at hl 0 rfl) ?_
    refine hp_get (ci := 9) (v := .int (vI w 908 o)) hx hb hts ix_X9_count_9 hown hK h ho (by decide) rfl 8 (by decide) (hts _ lk_X9_count_246) (fun _ h9 => h9) rfl dX9_count_63 ?_
    exact hp_iret hx hb hr rfl hlocks hK h hp dX9_count_66
  have hp := hp.2
  by_cases hc4 : p0 = 3
  · refine lv_tableIn (off := 66) (tgt := 67) hx hb dX9_count_1 (by rw [hc4]; decide) (by rw [hc4]; decide) (by rw [hc4]; rfl) (by decide) ?_
    have hp := hp.1 hc4
    refine lv_aload_n hx hb dX9_count_67 rfl (lv_at hl 0 rfl) ?_
    refine hp_cVi ⟨hx, hb, hml, hown, hts⟩ (k_X9_burningPits l G z w _ o _ hp) (cwV 0 hts gX9_count_X9_burningPits rfl rfl rfl (by decide +kernel) ⟨Nat.le_of_ble_eq_true rfl, Nat.le_of_ble_eq_true rfl⟩) ho (by decide) rfl hK h hA hE rfl hl.1 rfl (Nat.le_of_ble_eq_true rfl) dX9_count_68 ⟨Nat.le_of_ble_eq_true rfl, Nat.le_of_ble_eq_true rfl⟩ (fun r6 w5 H locs hp h => ?_)
    exact hp_iret hx hb hr rfl hlocks hK h hp dX9_count_71
  have hp := hp.2
  by_cases hc7 : p0 = 4
  · refine lv_tableIn (off := 71) (tgt := 72) hx hb dX9_count_1 (by rw [hc7]; decide) (by rw [hc7]; decide) (by rw [hc7]; rfl) (by decide) ?_
    have hp := hp.1 hc7
    refine lv_aload_n hx hb dX9_count_72 rfl (lv_at hl 0 rfl) ?_
    refine hp_get (ci := 9) (v := .int (vI w 910 o)) hx hb hts ix_X9_count_9 hown hK h ho (by decide) rfl 10 (by decide) (hts _ lk_X9_count_273) (fun _ h9 => h9) rfl dX9_count_73 ?_
    exact hp_iret hx hb hr rfl hlocks hK h hp dX9_count_76
  have hp := hp.2
  by_cases hc8 : p0 = 5
  · refine lv_tableIn (off := 76) (tgt := 77) hx hb dX9_count_1 (by rw [hc8]; decide) (by rw [hc8]; decide) (by rw [hc8]; rfl) (by decide) ?_
    have hp := hp.1 hc8
    refine lv_aload_n hx hb dX9_count_77 rfl (lv_at hl 0 rfl) ?_
    obtain ⟨b9, eb9, hob9, hp⟩ := hp
    refine hp_get (ci := 9) (v := .ref b9) hx hb hts ix_X9_count_9 hown hK h ho (by decide) rfl 12 (by decide) (hts _ lk_X9_count_61) (fun _ h9 => h9) (by show some (va_rf (zR z 912 o)) = some (Value.ref b9); rw [eb9]; rfl) dX9_count_78 ?_
    refine hp_getN (ci := 7) (v := .int (vI w 705 b9)) hx hb hts ix_X9_count_7 hown hK h hob9 (by decide) rfl 5 (by decide) (lk_X9_count_344 hE) (fun _ h9 => h9) rfl dX9_count_81 ?_
    exact hp_iret hx hb hr rfl hlocks hK h hp dX9_count_84
  have hp := hp.2
  by_cases hc10 : p0 = 6
  · refine lv_tableIn (off := 84) (tgt := 85) hx hb dX9_count_1 (by rw [hc10]; decide) (by rw [hc10]; decide) (by rw [hc10]; rfl) (by decide) ?_
    have hp := hp.1 hc10
    refine lv_aload_n hx hb dX9_count_85 rfl (lv_at hl 0 rfl) ?_
    obtain ⟨b11, eb11, hob11, hp⟩ := hp
    refine hp_get (ci := 9) (v := .ref b11) hx hb hts ix_X9_count_9 hown hK h ho (by decide) rfl 13 (by decide) (hts _ lk_X9_count_68) (fun _ h9 => h9) (by show some (va_rf (zR z 913 o)) = some (Value.ref b11); rw [eb11]; rfl) dX9_count_86 ?_
    refine hp_getN (ci := 1) (v := .int (vI w 103 b11)) hx hb hts ix_X9_count_1 hown hK h hob11 (by decide) rfl 3 (by decide) (lk_X9_count_335 hE) (fun _ h9 => h9) rfl dX9_count_89 ?_
    exact hp_iret hx hb hr rfl hlocks hK h hp dX9_count_92
  have hp := hp.2
  by_cases hc12 : p0 = 7
  · refine lv_tableIn (off := 92) (tgt := 93) hx hb dX9_count_1 (by rw [hc12]; decide) (by rw [hc12]; decide) (by rw [hc12]; rfl) (by decide) ?_
    have hp := hp.1 hc12
    refine lv_aload_n hx hb dX9_count_93 rfl (lv_at hl 0 rfl) ?_
    obtain ⟨b13, eb13, hob13, hp⟩ := hp
    refine hp_get (ci := 9) (v := .ref b13) hx hb hts ix_X9_count_9 hown hK h ho (by decide) rfl 1 (by decide) (hts _ lk_X9_count_19) (fun _ h9 => h9) (by show some (va_rf (zR z 901 o)) = some (Value.ref b13); rw [eb13]; rfl) dX9_count_94 ?_
    refine hp_getN (ci := 4) (v := .int (vI w 406 b13)) hx hb hts ix_X9_count_4 hown hK h hob13 (by decide) rfl 6 (by decide) (lk_X9_count_228 hE) (fun _ h9 => h9) rfl dX9_count_97 ?_
    exact hp_iret hx hb hr rfl hlocks hK h hp dX9_count_100
  have hp := hp.2
  by_cases hc14 : p0 = 8
  · refine lv_tableIn (off := 100) (tgt := 101) hx hb dX9_count_1 (by rw [hc14]; decide) (by rw [hc14]; decide) (by rw [hc14]; rfl) (by decide) ?_
    have hp := hp.1 hc14
    refine lv_aload_n hx hb dX9_count_101 rfl (lv_at hl 0 rfl) ?_
    obtain ⟨b15, eb15, hob15, hp⟩ := hp
    refine hp_get (ci := 9) (v := .ref b15) hx hb hts ix_X9_count_9 hown hK h ho (by decide) rfl 1 (by decide) (hts _ lk_X9_count_19) (fun _ h9 => h9) (by show some (va_rf (zR z 901 o)) = some (Value.ref b15); rw [eb15]; rfl) dX9_count_102 ?_
    refine hp_getN (ci := 4) (v := .int (vI w 405 b15)) hx hb hts ix_X9_count_4 hown hK h hob15 (by decide) rfl 5 (by decide) (lk_X9_count_347 hE) (fun _ h9 => h9) rfl dX9_count_105 ?_
    exact hp_iret hx hb hr rfl hlocks hK h hp dX9_count_108
  have hp := hp.2
  have thc1 := lv_neT (a := 0) hc1 (by decide)
  have hp := hp hc1
  have thc2 := lv_neT (a := 1) hc2 (by decide)
  have hp := hp hc2
  have thc3 := lv_neT (a := 2) hc3 (by decide)
  have hp := hp hc3
  have thc4 := lv_neT (a := 3) hc4 (by decide)
  have hp := hp hc4
  have thc7 := lv_neT (a := 4) hc7 (by decide)
  have hp := hp hc7
  have thc8 := lv_neT (a := 5) hc8 (by decide)
  have hp := hp hc8
  have thc10 := lv_neT (a := 6) hc10 (by decide)
  have hp := hp hc10
  have thc12 := lv_neT (a := 7) hc12 (by decide)
  have hp := hp hc12
  have thc14 := lv_neT (a := 8) hc14 (by decide)
  have hp := hp hc14
  refine lv_tableOut (tgt := 109) hx hb dX9_count_1 (by omega) (by decide) ?_
  refine lv_iconst (v := (-1)) hx hb dX9_count_109 (by decide) ?_
  exact hp_iret hx hb hr rfl hlocks hK h hp dX9_count_110
