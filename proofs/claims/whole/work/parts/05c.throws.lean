abbrev rmX9_needShore : Room := { frames := 6, cells := 1, slots := 6, locals := 90 }
theorem xm_X9_needShore_323 : ∀ w ∈ (vx_atS RX9 323 "java/lang/IndexOutOfBoundsException" xNs).filter goodWord, w ∈ wsX9_needShore := fun _ h => List.mem_cons_of_mem _ (List.mem_append_right _ h)
theorem wd_X9_needShore_cl319 : Cond.classLink RX9 319 "java/lang/IndexOutOfBoundsException" ∈ wsX9_needShore := by decide +kernel
theorem wd_X9_needShore_in319 : Cond.initialized "java/lang/IndexOutOfBoundsException" ∈ wsX9_needShore := by decide +kernel
theorem ix_X9_needShore_9 : ∀ w ∈ wsX90, w ∈ wsX9_needShore := by decide +kernel
theorem lk_X9_needShore_32 : Cond.fieldLink RX9 32 "KelpShores" "shores" "[LKelpShores$Shore;" ∈ wsX9_needShore := by decide +kernel
def wp_X9_needShore (z : Zt) (o : Nat) (p0 : Int32) (w : Vt) (K : Nat → Vt → Prop) (X : Nat → Vt → Prop) : Prop := isO z 9 o ∧ (p0 < 0 → X 1 w) ∧ (¬ p0 < 0 → ∃ b6 : Nat, zR z 904 o = some b6 ∧ isO z 1904 b6 ∧ (p0 < 6 → vp_in p0 6 ∧ (zO z 1904 b6 (p0 : Int32).toNatClampNeg = none → X 1 w) ∧ (∀ b13 : Nat, zO z 1904 b6 (p0 : Int32).toNatClampNeg = some b13 → isO z 6 b13 ∧ K b13 w)) ∧ (¬ p0 < 6 → X 1 w))
set_option maxHeartbeats 4000000 in
set_option maxRecDepth 100000 in
theorem k_X9_needShore (l : Launch) (hst : l.stackTraces = false) (G : Gt) (z : Zt) (w : Vt) (sz : Nat) (o : Nat) (p0 : Int32) (K : Nat → Vt → Prop) (X : Nat → Vt → Prop) (hp : wp_X9_needShore z o p0 w K X) : XR l yX9_needShore wsX9_needShore rmX9_needShore G z w sz [.ref o, .int p0] K X 1 6 := by
  refine vx_ofW (cc := cX9_needShore) (maxL := 3) (ret := (some (.object "KelpShores$Shore"))) (by decide +kernel) rfl ?_
  intro p e s m args below meth c s₁ B hml htab hv
  obtain ⟨rfl, rfl, C, h⟩ := hp_start B hml hv
  generalize gA G z w s.heap.size = A at C h ⊢
  obtain ⟨hx, hb, hr, hlocks, hml, hown, hts, hK, hA, hE⟩ := id C
  obtain ⟨ho, hp⟩ := hp
  have hl := lv_entry ([.ref o, .int p0]) (n := 3) (Nat.le_of_ble_eq_true rfl)
  rw [lg_entry_eq]
  generalize (lg_sl ([.ref o, .int p0]) ++ List.replicate (3 - (lg_sl ([.ref o, .int p0])).length) Slot.unset).toArray = ls at hl ⊢
  have hl : lv_has ls 3 [(0, .ref o), (1, .int p0)] := hl
  refine lv_iload_n hx hb dX9_needShore_0 rfl (lv_at hl 1 rfl) ?_
  refine lv_if_lt (tgt := 13) hx hb dX9_needShore_1 (by decide) (fun hc5 => ?_) (fun hc5 => ?_)
  · have hp := hp.1 hc5
    refine lv_null hx hb dX9_needShore_13 ?_
    refine lv_goto (tgt := 23) hx hb dX9_needShore_14 (by decide) ?_
    refine lv_astore_nN (lv' := [(2, .null), (0, .ref o), (1, .int p0)]) hx hb dX9_needShore_23 rfl hl (by decide) rfl (fun ls hl => ?_)
    refine lv_aload_nN hx hb dX9_needShore_24 rfl (lv_at hl 0 rfl) ?_
    refine lv_ifnonnullN hx hb dX9_needShore_25 ?_
    exact hp_throwW (text := "no such shore") (j := 7) 1 hx hb hst hown xf_1 (hts _ wd_X9_needShore_cl319) (hts _ wd_X9_needShore_in319) (List.mem_of_getElem? (i := 1) rfl) (fun w h => hts w (xm_X9_needShore_323 w h)) xb_X9_323 xg_X9_323 (List.mem_of_getElem? (i := 0) rfl) hE hK h (by rw [hml]; exact hl.1) dX9_needShore_28 dX9_needShore_31 dX9_needShore_32 dX9_needShore_35 dX9_needShore_38 htab (Nat.le_of_ble_eq_true rfl) (Nat.le_of_ble_eq_true rfl) (Nat.le_of_ble_eq_true rfl) (Nat.le_of_ble_eq_true rfl) hlocks rfl hp (Nat.le_of_ble_eq_true rfl) (Nat.le_of_ble_eq_true rfl)
  · have hp := hp.2 hc5
    refine lv_iload_n hx hb dX9_needShore_4 rfl (lv_at hl 1 rfl) ?_
    refine lv_aload_n hx hb dX9_needShore_5 rfl (lv_at hl 0 rfl) ?_
    obtain ⟨b6, eb6, hob6, hp⟩ := hp
    refine hp_get (ci := 9) (v := .ref b6) hx hb hts ix_X9_needShore_9 hown hK h ho (by decide) rfl 4 (by decide) (hts _ lk_X9_needShore_32) (fun _ h9 => h9) (by show some (va_rf (zR z 904 o)) = some (Value.ref b6); rw [eb6]; rfl) dX9_needShore_6 ?_
    refine hp_alen (t := 1904) (n := 6) hx hb hK h 7 rfl hob6 (by decide) (fun _ _ _ => ⟨_, rfl, rfl⟩) (v := 6) (by decide) dX9_needShore_9 ?_
    refine lv_icmp_lt (tgt := 17) hx hb dX9_needShore_10 (by decide) (fun hc12 => ?_) (fun hc12 => ?_)
    · have hp := hp.1 hc12
      refine lv_aload_n hx hb dX9_needShore_17 rfl (lv_at hl 0 rfl) ?_
      refine hp_get (ci := 9) (v := .ref b6) hx hb hts ix_X9_needShore_9 hown hK h ho (by decide) rfl 4 (by decide) (hts _ lk_X9_needShore_32) (fun _ h9 => h9) (by show some (va_rf (zR z 904 o)) = some (Value.ref b6); rw [eb6]; rfl) dX9_needShore_18 ?_
      refine lv_iload_n hx hb dX9_needShore_21 rfl (lv_at hl 1 rfl) ?_
      refine hp_aald (t := 1904) (n := 6) hx hb hK h 7 rfl hob6 (by decide) (fun _ _ _ => rfl) hp.1 dX9_needShore_22 ?_
      have hp := hp.2
      cases eb13 : zO z 1904 b6 (p0 : Int32).toNatClampNeg with
      | none =>
        have hp := hp.1 eb13
        refine lv_astore_nN (lv' := [(2, .null), (0, .ref o), (1, .int p0)]) hx hb dX9_needShore_23 rfl hl (by decide) rfl (fun ls hl => ?_)
        refine lv_aload_nN hx hb dX9_needShore_24 rfl (lv_at hl 0 rfl) ?_
        refine lv_ifnonnullN hx hb dX9_needShore_25 ?_
        exact hp_throwW (text := "no such shore") (j := 7) 1 hx hb hst hown xf_1 (hts _ wd_X9_needShore_cl319) (hts _ wd_X9_needShore_in319) (List.mem_of_getElem? (i := 1) rfl) (fun w h => hts w (xm_X9_needShore_323 w h)) xb_X9_323 xg_X9_323 (List.mem_of_getElem? (i := 0) rfl) hE hK h (by rw [hml]; exact hl.1) dX9_needShore_28 dX9_needShore_31 dX9_needShore_32 dX9_needShore_35 dX9_needShore_38 htab (Nat.le_of_ble_eq_true rfl) (Nat.le_of_ble_eq_true rfl) (Nat.le_of_ble_eq_true rfl) (Nat.le_of_ble_eq_true rfl) hlocks rfl hp (Nat.le_of_ble_eq_true rfl) (Nat.le_of_ble_eq_true rfl)
      | some b13 =>
        obtain ⟨hob13, hp⟩ := hp.2 b13 eb13
        refine lv_astore_n (lv' := [(2, .ref b13), (0, .ref o), (1, .int p0)]) hx hb dX9_needShore_23 rfl hl (by decide) rfl (fun ls hl => ?_)
        refine lv_aload_n hx hb dX9_needShore_24 rfl (lv_at hl 0 rfl) ?_
        refine lv_ifnonnull (tgt := 39) hx hb dX9_needShore_25 (by decide) ?_
        refine lv_aload_n hx hb dX9_needShore_39 rfl (lv_at hl 0 rfl) ?_
        exact hp_xaret hx hb hr hlocks hK h hp dX9_needShore_40 (Nat.le_of_ble_eq_true rfl) (Nat.le_of_ble_eq_true rfl)
    · have hp := hp.2 hc12
      refine lv_null hx hb dX9_needShore_13 ?_
      refine lv_goto (tgt := 23) hx hb dX9_needShore_14 (by decide) ?_
      refine lv_astore_nN (lv' := [(2, .null), (0, .ref o), (1, .int p0)]) hx hb dX9_needShore_23 rfl hl (by decide) rfl (fun ls hl => ?_)
      refine lv_aload_nN hx hb dX9_needShore_24 rfl (lv_at hl 0 rfl) ?_
      refine lv_ifnonnullN hx hb dX9_needShore_25 ?_
      exact hp_throwW (text := "no such shore") (j := 7) 1 hx hb hst hown xf_1 (hts _ wd_X9_needShore_cl319) (hts _ wd_X9_needShore_in319) (List.mem_of_getElem? (i := 1) rfl) (fun w h => hts w (xm_X9_needShore_323 w h)) xb_X9_323 xg_X9_323 (List.mem_of_getElem? (i := 0) rfl) hE hK h (by rw [hml]; exact hl.1) dX9_needShore_28 dX9_needShore_31 dX9_needShore_32 dX9_needShore_35 dX9_needShore_38 htab (Nat.le_of_ble_eq_true rfl) (Nat.le_of_ble_eq_true rfl) (Nat.le_of_ble_eq_true rfl) (Nat.le_of_ble_eq_true rfl) hlocks rfl hp (Nat.le_of_ble_eq_true rfl) (Nat.le_of_ble_eq_true rfl)
abbrev rmX9_needFamily : Room := { frames := 6, cells := 1, slots := 6, locals := 90 }
theorem xm_X9_needFamily_323 : ∀ w ∈ (vx_atS RX9 323 "java/lang/IndexOutOfBoundsException" xNs).filter goodWord, w ∈ wsX9_needFamily := fun _ h => List.mem_cons_of_mem _ (List.mem_append_right _ h)
theorem wd_X9_needFamily_cl319 : Cond.classLink RX9 319 "java/lang/IndexOutOfBoundsException" ∈ wsX9_needFamily := by decide +kernel
theorem wd_X9_needFamily_in319 : Cond.initialized "java/lang/IndexOutOfBoundsException" ∈ wsX9_needFamily := by decide +kernel
theorem ix_X9_needFamily_9 : ∀ w ∈ wsX90, w ∈ wsX9_needFamily := by decide +kernel
theorem lk_X9_needFamily_38 : Cond.fieldLink RX9 38 "KelpShores" "families" "[LKelpShores$Family;" ∈ wsX9_needFamily := by decide +kernel
def wp_X9_needFamily (z : Zt) (o : Nat) (p0 : Int32) (w : Vt) (K : Nat → Vt → Prop) (X : Nat → Vt → Prop) : Prop := isO z 9 o ∧ (p0 < 0 → X 1 w) ∧ (¬ p0 < 0 → ∃ b6 : Nat, zR z 906 o = some b6 ∧ isO z 1906 b6 ∧ (p0 < 8 → vp_in p0 8 ∧ (zO z 1906 b6 (p0 : Int32).toNatClampNeg = none → X 1 w) ∧ (∀ b13 : Nat, zO z 1906 b6 (p0 : Int32).toNatClampNeg = some b13 → isO z 0 b13 ∧ K b13 w)) ∧ (¬ p0 < 8 → X 1 w))
set_option maxHeartbeats 4000000 in
set_option maxRecDepth 100000 in
theorem k_X9_needFamily (l : Launch) (hst : l.stackTraces = false) (G : Gt) (z : Zt) (w : Vt) (sz : Nat) (o : Nat) (p0 : Int32) (K : Nat → Vt → Prop) (X : Nat → Vt → Prop) (hp : wp_X9_needFamily z o p0 w K X) : XR l yX9_needFamily wsX9_needFamily rmX9_needFamily G z w sz [.ref o, .int p0] K X 1 6 := by
  refine vx_ofW (cc := cX9_needFamily) (maxL := 3) (ret := (some (.object "KelpShores$Family"))) (by decide +kernel) rfl ?_
  intro p e s m args below meth c s₁ B hml htab hv
  obtain ⟨rfl, rfl, C, h⟩ := hp_start B hml hv
  generalize gA G z w s.heap.size = A at C h ⊢
  obtain ⟨hx, hb, hr, hlocks, hml, hown, hts, hK, hA, hE⟩ := id C
  obtain ⟨ho, hp⟩ := hp
  have hl := lv_entry ([.ref o, .int p0]) (n := 3) (Nat.le_of_ble_eq_true rfl)
  rw [lg_entry_eq]
  generalize (lg_sl ([.ref o, .int p0]) ++ List.replicate (3 - (lg_sl ([.ref o, .int p0])).length) Slot.unset).toArray = ls at hl ⊢
  have hl : lv_has ls 3 [(0, .ref o), (1, .int p0)] := hl
  refine lv_iload_n hx hb dX9_needFamily_0 rfl (lv_at hl 1 rfl) ?_
  refine lv_if_lt (tgt := 13) hx hb dX9_needFamily_1 (by decide) (fun hc5 => ?_) (fun hc5 => ?_)
  · have hp := hp.1 hc5
    refine lv_null hx hb dX9_needFamily_13 ?_
    refine lv_goto (tgt := 23) hx hb dX9_needFamily_14 (by decide) ?_
    refine lv_astore_nN (lv' := [(2, .null), (0, .ref o), (1, .int p0)]) hx hb dX9_needFamily_23 rfl hl (by decide) rfl (fun ls hl => ?_)
    refine lv_aload_nN hx hb dX9_needFamily_24 rfl (lv_at hl 0 rfl) ?_
    refine lv_ifnonnullN hx hb dX9_needFamily_25 ?_
    exact hp_throwW (text := "no such family") (j := 10) 1 hx hb hst hown xf_1 (hts _ wd_X9_needFamily_cl319) (hts _ wd_X9_needFamily_in319) (List.mem_of_getElem? (i := 4) rfl) (fun w h => hts w (xm_X9_needFamily_323 w h)) xb_X9_323 xg_X9_323 (List.mem_of_getElem? (i := 0) rfl) hE hK h (by rw [hml]; exact hl.1) dX9_needFamily_28 dX9_needFamily_31 dX9_needFamily_32 dX9_needFamily_35 dX9_needFamily_38 htab (Nat.le_of_ble_eq_true rfl) (Nat.le_of_ble_eq_true rfl) (Nat.le_of_ble_eq_true rfl) (Nat.le_of_ble_eq_true rfl) hlocks rfl hp (Nat.le_of_ble_eq_true rfl) (Nat.le_of_ble_eq_true rfl)
  · have hp := hp.2 hc5
    refine lv_iload_n hx hb dX9_needFamily_4 rfl (lv_at hl 1 rfl) ?_
    refine lv_aload_n hx hb dX9_needFamily_5 rfl (lv_at hl 0 rfl) ?_
    obtain ⟨b6, eb6, hob6, hp⟩ := hp
    refine hp_get (ci := 9) (v := .ref b6) hx hb hts ix_X9_needFamily_9 hown hK h ho (by decide) rfl 6 (by decide) (hts _ lk_X9_needFamily_38) (fun _ h9 => h9) (by show some (va_rf (zR z 906 o)) = some (Value.ref b6); rw [eb6]; rfl) dX9_needFamily_6 ?_
    refine hp_alen (t := 1906) (n := 8) hx hb hK h 3 rfl hob6 (by decide) (fun _ _ _ => ⟨_, rfl, rfl⟩) (v := 8) (by decide) dX9_needFamily_9 ?_
    refine lv_icmp_lt (tgt := 17) hx hb dX9_needFamily_10 (by decide) (fun hc12 => ?_) (fun hc12 => ?_)
    · have hp := hp.1 hc12
      refine lv_aload_n hx hb dX9_needFamily_17 rfl (lv_at hl 0 rfl) ?_
      refine hp_get (ci := 9) (v := .ref b6) hx hb hts ix_X9_needFamily_9 hown hK h ho (by decide) rfl 6 (by decide) (hts _ lk_X9_needFamily_38) (fun _ h9 => h9) (by show some (va_rf (zR z 906 o)) = some (Value.ref b6); rw [eb6]; rfl) dX9_needFamily_18 ?_
      refine lv_iload_n hx hb dX9_needFamily_21 rfl (lv_at hl 1 rfl) ?_
      refine hp_aald (t := 1906) (n := 8) hx hb hK h 3 rfl hob6 (by decide) (fun _ _ _ => rfl) hp.1 dX9_needFamily_22 ?_
      have hp := hp.2
      cases eb13 : zO z 1906 b6 (p0 : Int32).toNatClampNeg with
      | none =>
        have hp := hp.1 eb13
        refine lv_astore_nN (lv' := [(2, .null), (0, .ref o), (1, .int p0)]) hx hb dX9_needFamily_23 rfl hl (by decide) rfl (fun ls hl => ?_)
        refine lv_aload_nN hx hb dX9_needFamily_24 rfl (lv_at hl 0 rfl) ?_
        refine lv_ifnonnullN hx hb dX9_needFamily_25 ?_
        exact hp_throwW (text := "no such family") (j := 10) 1 hx hb hst hown xf_1 (hts _ wd_X9_needFamily_cl319) (hts _ wd_X9_needFamily_in319) (List.mem_of_getElem? (i := 4) rfl) (fun w h => hts w (xm_X9_needFamily_323 w h)) xb_X9_323 xg_X9_323 (List.mem_of_getElem? (i := 0) rfl) hE hK h (by rw [hml]; exact hl.1) dX9_needFamily_28 dX9_needFamily_31 dX9_needFamily_32 dX9_needFamily_35 dX9_needFamily_38 htab (Nat.le_of_ble_eq_true rfl) (Nat.le_of_ble_eq_true rfl) (Nat.le_of_ble_eq_true rfl) (Nat.le_of_ble_eq_true rfl) hlocks rfl hp (Nat.le_of_ble_eq_true rfl) (Nat.le_of_ble_eq_true rfl)
      | some b13 =>
        obtain ⟨hob13, hp⟩ := hp.2 b13 eb13
        refine lv_astore_n (lv' := [(2, .ref b13), (0, .ref o), (1, .int p0)]) hx hb dX9_needFamily_23 rfl hl (by decide) rfl (fun ls hl => ?_)
        refine lv_aload_n hx hb dX9_needFamily_24 rfl (lv_at hl 0 rfl) ?_
        refine lv_ifnonnull (tgt := 39) hx hb dX9_needFamily_25 (by decide) ?_
        refine lv_aload_n hx hb dX9_needFamily_39 rfl (lv_at hl 0 rfl) ?_
        exact hp_xaret hx hb hr hlocks hK h hp dX9_needFamily_40 (Nat.le_of_ble_eq_true rfl) (Nat.le_of_ble_eq_true rfl)
    · have hp := hp.2 hc12
      refine lv_null hx hb dX9_needFamily_13 ?_
      refine lv_goto (tgt := 23) hx hb dX9_needFamily_14 (by decide) ?_
      refine lv_astore_nN (lv' := [(2, .null), (0, .ref o), (1, .int p0)]) hx hb dX9_needFamily_23 rfl hl (by decide) rfl (fun ls hl => ?_)
      refine lv_aload_nN hx hb dX9_needFamily_24 rfl (lv_at hl 0 rfl) ?_
      refine lv_ifnonnullN hx hb dX9_needFamily_25 ?_
      exact hp_throwW (text := "no such family") (j := 10) 1 hx hb hst hown xf_1 (hts _ wd_X9_needFamily_cl319) (hts _ wd_X9_needFamily_in319) (List.mem_of_getElem? (i := 4) rfl) (fun w h => hts w (xm_X9_needFamily_323 w h)) xb_X9_323 xg_X9_323 (List.mem_of_getElem? (i := 0) rfl) hE hK h (by rw [hml]; exact hl.1) dX9_needFamily_28 dX9_needFamily_31 dX9_needFamily_32 dX9_needFamily_35 dX9_needFamily_38 htab (Nat.le_of_ble_eq_true rfl) (Nat.le_of_ble_eq_true rfl) (Nat.le_of_ble_eq_true rfl) (Nat.le_of_ble_eq_true rfl) hlocks rfl hp (Nat.le_of_ble_eq_true rfl) (Nat.le_of_ble_eq_true rfl)
abbrev rmX9_needRock : Room := { frames := 6, cells := 1, slots := 6, locals := 90 }
theorem xm_X9_needRock_323 : ∀ w ∈ (vx_atS RX9 323 "java/lang/IndexOutOfBoundsException" xNs).filter goodWord, w ∈ wsX9_needRock := fun _ h => List.mem_cons_of_mem _ (List.mem_append_right _ h)
theorem wd_X9_needRock_cl319 : Cond.classLink RX9 319 "java/lang/IndexOutOfBoundsException" ∈ wsX9_needRock := by decide +kernel
theorem wd_X9_needRock_in319 : Cond.initialized "java/lang/IndexOutOfBoundsException" ∈ wsX9_needRock := by decide +kernel
theorem ix_X9_needRock_6 : ∀ w ∈ wsX60, w ∈ wsX9_needRock := by decide +kernel
theorem lk_X9_needRock_124 {G : Gt} {A : Nat → Prop} {s : State} {args : Array Value} (hE : gE G A s s.heap) : (Cond.fieldLinkNest RX9 124 "KelpShores$Shore" "rocks" "[LKelpShores$Rock;" "KelpShores").before args s = true := by
  have h : va_Nw (Cond.fieldLinkNest RX9 124 "KelpShores$Shore" "rocks" "[LKelpShores$Rock;" "KelpShores") s := hE.1 (RX9, 124, "KelpShores$Shore", "rocks", "[LKelpShores$Rock;") (List.mem_of_getElem? (i := 17) rfl)
  exact va_Nw.use rfl h
def wp_X9_needRock (z : Zt) (p0 : Nat) (p1 : Int32) (w : Vt) (K : Nat → Vt → Prop) (X : Nat → Vt → Prop) : Prop := isO z 6 p0 ∧ (p1 < 0 → X 1 w) ∧ (¬ p1 < 0 → ∃ b6 : Nat, zR z 600 p0 = some b6 ∧ isO z 1600 b6 ∧ (p1 < 4 → vp_in p1 4 ∧ (zO z 1600 b6 (p1 : Int32).toNatClampNeg = none → X 1 w) ∧ (∀ b13 : Nat, zO z 1600 b6 (p1 : Int32).toNatClampNeg = some b13 → isO z 5 b13 ∧ K b13 w)) ∧ (¬ p1 < 4 → X 1 w))
set_option maxHeartbeats 4000000 in
set_option maxRecDepth 100000 in
theorem k_X9_needRock (l : Launch) (hst : l.stackTraces = false) (G : Gt) (z : Zt) (w : Vt) (sz : Nat) (p0 : Nat) (p1 : Int32) (K : Nat → Vt → Prop) (X : Nat → Vt → Prop) (hp : wp_X9_needRock z p0 p1 w K X) : XR l yX9_needRock wsX9_needRock rmX9_needRock G z w sz [.ref p0, .int p1] K X 1 6 := by
  refine vx_ofW (cc := cX9_needRock) (maxL := 3) (ret := (some (.object "KelpShores$Rock"))) (by decide +kernel) rfl ?_
  intro p e s m args below meth c s₁ B hml htab hv
  obtain ⟨rfl, rfl, C, h⟩ := hp_start B hml hv
  generalize gA G z w s.heap.size = A at C h ⊢
  obtain ⟨hx, hb, hr, hlocks, hml, hown, hts, hK, hA, hE⟩ := id C
  obtain ⟨hop0, hp⟩ := hp
  have hl := lv_entry ([.ref p0, .int p1]) (n := 3) (Nat.le_of_ble_eq_true rfl)
  rw [lg_entry_eq]
  generalize (lg_sl ([.ref p0, .int p1]) ++ List.replicate (3 - (lg_sl ([.ref p0, .int p1])).length) Slot.unset).toArray = ls at hl ⊢
  have hl : lv_has ls 3 [(0, .ref p0), (1, .int p1)] := hl
  refine lv_iload_n hx hb dX9_needRock_0 rfl (lv_at hl 1 rfl) ?_
  refine lv_if_lt (tgt := 13) hx hb dX9_needRock_1 (by decide) (fun hc5 => ?_) (fun hc5 => ?_)
  · have hp := hp.1 hc5
    refine lv_null hx hb dX9_needRock_13 ?_
    refine lv_goto (tgt := 23) hx hb dX9_needRock_14 (by decide) ?_
    refine lv_astore_nN (lv' := [(2, .null), (0, .ref p0), (1, .int p1)]) hx hb dX9_needRock_23 rfl hl (by decide) rfl (fun ls hl => ?_)
    refine lv_aload_nN hx hb dX9_needRock_24 rfl (lv_at hl 0 rfl) ?_
    refine lv_ifnonnullN hx hb dX9_needRock_25 ?_
    exact hp_throwW (text := "no such rock") (j := 15) 1 hx hb hst hown xf_1 (hts _ wd_X9_needRock_cl319) (hts _ wd_X9_needRock_in319) (List.mem_of_getElem? (i := 15) rfl) (fun w h => hts w (xm_X9_needRock_323 w h)) xb_X9_323 xg_X9_323 (List.mem_of_getElem? (i := 0) rfl) hE hK h (by rw [hml]; exact hl.1) dX9_needRock_28 dX9_needRock_31 dX9_needRock_32 dX9_needRock_35 dX9_needRock_38 htab (Nat.le_of_ble_eq_true rfl) (Nat.le_of_ble_eq_true rfl) (Nat.le_of_ble_eq_true rfl) (Nat.le_of_ble_eq_true rfl) hlocks rfl hp (Nat.le_of_ble_eq_true rfl) (Nat.le_of_ble_eq_true rfl)
  · have hp := hp.2 hc5
    refine lv_iload_n hx hb dX9_needRock_4 rfl (lv_at hl 1 rfl) ?_
    refine lv_aload_n hx hb dX9_needRock_5 rfl (lv_at hl 0 rfl) ?_
    obtain ⟨b6, eb6, hob6, hp⟩ := hp
    refine hp_getN (ci := 6) (v := .ref b6) hx hb hts ix_X9_needRock_6 hown hK h hop0 (by decide) rfl 0 (by decide) (lk_X9_needRock_124 hE) (fun _ h9 => h9) (by show some (va_rf (zR z 600 p0)) = some (Value.ref b6); rw [eb6]; rfl) dX9_needRock_6 ?_
    refine hp_alen (t := 1600) (n := 4) hx hb hK h 6 rfl hob6 (by decide) (fun _ _ _ => ⟨_, rfl, rfl⟩) (v := 4) (by decide) dX9_needRock_9 ?_
    refine lv_icmp_lt (tgt := 17) hx hb dX9_needRock_10 (by decide) (fun hc12 => ?_) (fun hc12 => ?_)
    · have hp := hp.1 hc12
      refine lv_aload_n hx hb dX9_needRock_17 rfl (lv_at hl 0 rfl) ?_
      refine hp_getN (ci := 6) (v := .ref b6) hx hb hts ix_X9_needRock_6 hown hK h hop0 (by decide) rfl 0 (by decide) (lk_X9_needRock_124 hE) (fun _ h9 => h9) (by show some (va_rf (zR z 600 p0)) = some (Value.ref b6); rw [eb6]; rfl) dX9_needRock_18 ?_
      refine lv_iload_n hx hb dX9_needRock_21 rfl (lv_at hl 1 rfl) ?_
      refine hp_aald (t := 1600) (n := 4) hx hb hK h 6 rfl hob6 (by decide) (fun _ _ _ => rfl) hp.1 dX9_needRock_22 ?_
      have hp := hp.2
      cases eb13 : zO z 1600 b6 (p1 : Int32).toNatClampNeg with
      | none =>
        have hp := hp.1 eb13
        refine lv_astore_nN (lv' := [(2, .null), (0, .ref p0), (1, .int p1)]) hx hb dX9_needRock_23 rfl hl (by decide) rfl (fun ls hl => ?_)
        refine lv_aload_nN hx hb dX9_needRock_24 rfl (lv_at hl 0 rfl) ?_
        refine lv_ifnonnullN hx hb dX9_needRock_25 ?_
        exact hp_throwW (text := "no such rock") (j := 15) 1 hx hb hst hown xf_1 (hts _ wd_X9_needRock_cl319) (hts _ wd_X9_needRock_in319) (List.mem_of_getElem? (i := 15) rfl) (fun w h => hts w (xm_X9_needRock_323 w h)) xb_X9_323 xg_X9_323 (List.mem_of_getElem? (i := 0) rfl) hE hK h (by rw [hml]; exact hl.1) dX9_needRock_28 dX9_needRock_31 dX9_needRock_32 dX9_needRock_35 dX9_needRock_38 htab (Nat.le_of_ble_eq_true rfl) (Nat.le_of_ble_eq_true rfl) (Nat.le_of_ble_eq_true rfl) (Nat.le_of_ble_eq_true rfl) hlocks rfl hp (Nat.le_of_ble_eq_true rfl) (Nat.le_of_ble_eq_true rfl)
      | some b13 =>
        obtain ⟨hob13, hp⟩ := hp.2 b13 eb13
        refine lv_astore_n (lv' := [(2, .ref b13), (0, .ref p0), (1, .int p1)]) hx hb dX9_needRock_23 rfl hl (by decide) rfl (fun ls hl => ?_)
        refine lv_aload_n hx hb dX9_needRock_24 rfl (lv_at hl 0 rfl) ?_
        refine lv_ifnonnull (tgt := 39) hx hb dX9_needRock_25 (by decide) ?_
        refine lv_aload_n hx hb dX9_needRock_39 rfl (lv_at hl 0 rfl) ?_
        exact hp_xaret hx hb hr hlocks hK h hp dX9_needRock_40 (Nat.le_of_ble_eq_true rfl) (Nat.le_of_ble_eq_true rfl)
    · have hp := hp.2 hc12
      refine lv_null hx hb dX9_needRock_13 ?_
      refine lv_goto (tgt := 23) hx hb dX9_needRock_14 (by decide) ?_
      refine lv_astore_nN (lv' := [(2, .null), (0, .ref p0), (1, .int p1)]) hx hb dX9_needRock_23 rfl hl (by decide) rfl (fun ls hl => ?_)
      refine lv_aload_nN hx hb dX9_needRock_24 rfl (lv_at hl 0 rfl) ?_
      refine lv_ifnonnullN hx hb dX9_needRock_25 ?_
      exact hp_throwW (text := "no such rock") (j := 15) 1 hx hb hst hown xf_1 (hts _ wd_X9_needRock_cl319) (hts _ wd_X9_needRock_in319) (List.mem_of_getElem? (i := 15) rfl) (fun w h => hts w (xm_X9_needRock_323 w h)) xb_X9_323 xg_X9_323 (List.mem_of_getElem? (i := 0) rfl) hE hK h (by rw [hml]; exact hl.1) dX9_needRock_28 dX9_needRock_31 dX9_needRock_32 dX9_needRock_35 dX9_needRock_38 htab (Nat.le_of_ble_eq_true rfl) (Nat.le_of_ble_eq_true rfl) (Nat.le_of_ble_eq_true rfl) (Nat.le_of_ble_eq_true rfl) hlocks rfl hp (Nat.le_of_ble_eq_true rfl) (Nat.le_of_ble_eq_true rfl)
abbrev rmX9_needPit : Room := { frames := 6, cells := 1, slots := 6, locals := 90 }
theorem xm_X9_needPit_323 : ∀ w ∈ (vx_atS RX9 323 "java/lang/IndexOutOfBoundsException" xNs).filter goodWord, w ∈ wsX9_needPit := fun _ h => List.mem_cons_of_mem _ (List.mem_append_right _ h)
theorem wd_X9_needPit_cl319 : Cond.classLink RX9 319 "java/lang/IndexOutOfBoundsException" ∈ wsX9_needPit := by decide +kernel
theorem wd_X9_needPit_in319 : Cond.initialized "java/lang/IndexOutOfBoundsException" ∈ wsX9_needPit := by decide +kernel
theorem ix_X9_needPit_9 : ∀ w ∈ wsX90, w ∈ wsX9_needPit := by decide +kernel
theorem lk_X9_needPit_44 : Cond.fieldLink RX9 44 "KelpShores" "pits" "[LKelpShores$Pit;" ∈ wsX9_needPit := by decide +kernel
def wp_X9_needPit (z : Zt) (o : Nat) (p0 : Int32) (w : Vt) (K : Nat → Vt → Prop) (X : Nat → Vt → Prop) : Prop := isO z 9 o ∧ (p0 < 0 → X 1 w) ∧ (¬ p0 < 0 → ∃ b6 : Nat, zR z 907 o = some b6 ∧ isO z 1907 b6 ∧ (p0 < 12 → vp_in p0 12 ∧ (zO z 1907 b6 (p0 : Int32).toNatClampNeg = none → X 1 w) ∧ (∀ b13 : Nat, zO z 1907 b6 (p0 : Int32).toNatClampNeg = some b13 → isO z 3 b13 ∧ K b13 w)) ∧ (¬ p0 < 12 → X 1 w))
set_option maxHeartbeats 4000000 in
set_option maxRecDepth 100000 in
theorem k_X9_needPit (l : Launch) (hst : l.stackTraces = false) (G : Gt) (z : Zt) (w : Vt) (sz : Nat) (o : Nat) (p0 : Int32) (K : Nat → Vt → Prop) (X : Nat → Vt → Prop) (hp : wp_X9_needPit z o p0 w K X) : XR l yX9_needPit wsX9_needPit rmX9_needPit G z w sz [.ref o, .int p0] K X 1 6 := by
  refine vx_ofW (cc := cX9_needPit) (maxL := 3) (ret := (some (.object "KelpShores$Pit"))) (by decide +kernel) rfl ?_
  intro p e s m args below meth c s₁ B hml htab hv
  obtain ⟨rfl, rfl, C, h⟩ := hp_start B hml hv
  generalize gA G z w s.heap.size = A at C h ⊢
  obtain ⟨hx, hb, hr, hlocks, hml, hown, hts, hK, hA, hE⟩ := id C
  obtain ⟨ho, hp⟩ := hp
  have hl := lv_entry ([.ref o, .int p0]) (n := 3) (Nat.le_of_ble_eq_true rfl)
  rw [lg_entry_eq]
  generalize (lg_sl ([.ref o, .int p0]) ++ List.replicate (3 - (lg_sl ([.ref o, .int p0])).length) Slot.unset).toArray = ls at hl ⊢
  have hl : lv_has ls 3 [(0, .ref o), (1, .int p0)] := hl
  refine lv_iload_n hx hb dX9_needPit_0 rfl (lv_at hl 1 rfl) ?_
  refine lv_if_lt (tgt := 13) hx hb dX9_needPit_1 (by decide) (fun hc5 => ?_) (fun hc5 => ?_)
  · have hp := hp.1 hc5
    refine lv_null hx hb dX9_needPit_13 ?_
    refine lv_goto (tgt := 23) hx hb dX9_needPit_14 (by decide) ?_
    refine lv_astore_nN (lv' := [(2, .null), (0, .ref o), (1, .int p0)]) hx hb dX9_needPit_23 rfl hl (by decide) rfl (fun ls hl => ?_)
    refine lv_aload_nN hx hb dX9_needPit_24 rfl (lv_at hl 0 rfl) ?_
    refine lv_ifnonnullN hx hb dX9_needPit_25 ?_
    exact hp_throwW (text := "no such pit") (j := 20) 1 hx hb hst hown xf_1 (hts _ wd_X9_needPit_cl319) (hts _ wd_X9_needPit_in319) (List.mem_of_getElem? (i := 20) rfl) (fun w h => hts w (xm_X9_needPit_323 w h)) xb_X9_323 xg_X9_323 (List.mem_of_getElem? (i := 0) rfl) hE hK h (by rw [hml]; exact hl.1) dX9_needPit_28 dX9_needPit_31 dX9_needPit_32 dX9_needPit_35 dX9_needPit_38 htab (Nat.le_of_ble_eq_true rfl) (Nat.le_of_ble_eq_true rfl) (Nat.le_of_ble_eq_true rfl) (Nat.le_of_ble_eq_true rfl) hlocks rfl hp (Nat.le_of_ble_eq_true rfl) (Nat.le_of_ble_eq_true rfl)
  · have hp := hp.2 hc5
    refine lv_iload_n hx hb dX9_needPit_4 rfl (lv_at hl 1 rfl) ?_
    refine lv_aload_n hx hb dX9_needPit_5 rfl (lv_at hl 0 rfl) ?_
    obtain ⟨b6, eb6, hob6, hp⟩ := hp
    refine hp_get (ci := 9) (v := .ref b6) hx hb hts ix_X9_needPit_9 hown hK h ho (by decide) rfl 7 (by decide) (hts _ lk_X9_needPit_44) (fun _ h9 => h9) (by show some (va_rf (zR z 907 o)) = some (Value.ref b6); rw [eb6]; rfl) dX9_needPit_6 ?_
    refine hp_alen (t := 1907) (n := 12) hx hb hK h 5 rfl hob6 (by decide) (fun _ _ _ => ⟨_, rfl, rfl⟩) (v := 12) (by decide) dX9_needPit_9 ?_
    refine lv_icmp_lt (tgt := 17) hx hb dX9_needPit_10 (by decide) (fun hc12 => ?_) (fun hc12 => ?_)
    · have hp := hp.1 hc12
      refine lv_aload_n hx hb dX9_needPit_17 rfl (lv_at hl 0 rfl) ?_
      refine hp_get (ci := 9) (v := .ref b6) hx hb hts ix_X9_needPit_9 hown hK h ho (by decide) rfl 7 (by decide) (hts _ lk_X9_needPit_44) (fun _ h9 => h9) (by show some (va_rf (zR z 907 o)) = some (Value.ref b6); rw [eb6]; rfl) dX9_needPit_18 ?_
      refine lv_iload_n hx hb dX9_needPit_21 rfl (lv_at hl 1 rfl) ?_
      refine hp_aald (t := 1907) (n := 12) hx hb hK h 5 rfl hob6 (by decide) (fun _ _ _ => rfl) hp.1 dX9_needPit_22 ?_
      have hp := hp.2
      cases eb13 : zO z 1907 b6 (p0 : Int32).toNatClampNeg with
      | none =>
        have hp := hp.1 eb13
        refine lv_astore_nN (lv' := [(2, .null), (0, .ref o), (1, .int p0)]) hx hb dX9_needPit_23 rfl hl (by decide) rfl (fun ls hl => ?_)
        refine lv_aload_nN hx hb dX9_needPit_24 rfl (lv_at hl 0 rfl) ?_
        refine lv_ifnonnullN hx hb dX9_needPit_25 ?_
        exact hp_throwW (text := "no such pit") (j := 20) 1 hx hb hst hown xf_1 (hts _ wd_X9_needPit_cl319) (hts _ wd_X9_needPit_in319) (List.mem_of_getElem? (i := 20) rfl) (fun w h => hts w (xm_X9_needPit_323 w h)) xb_X9_323 xg_X9_323 (List.mem_of_getElem? (i := 0) rfl) hE hK h (by rw [hml]; exact hl.1) dX9_needPit_28 dX9_needPit_31 dX9_needPit_32 dX9_needPit_35 dX9_needPit_38 htab (Nat.le_of_ble_eq_true rfl) (Nat.le_of_ble_eq_true rfl) (Nat.le_of_ble_eq_true rfl) (Nat.le_of_ble_eq_true rfl) hlocks rfl hp (Nat.le_of_ble_eq_true rfl) (Nat.le_of_ble_eq_true rfl)
      | some b13 =>
        obtain ⟨hob13, hp⟩ := hp.2 b13 eb13
        refine lv_astore_n (lv' := [(2, .ref b13), (0, .ref o), (1, .int p0)]) hx hb dX9_needPit_23 rfl hl (by decide) rfl (fun ls hl => ?_)
        refine lv_aload_n hx hb dX9_needPit_24 rfl (lv_at hl 0 rfl) ?_
        refine lv_ifnonnull (tgt := 39) hx hb dX9_needPit_25 (by decide) ?_
        refine lv_aload_n hx hb dX9_needPit_39 rfl (lv_at hl 0 rfl) ?_
        exact hp_xaret hx hb hr hlocks hK h hp dX9_needPit_40 (Nat.le_of_ble_eq_true rfl) (Nat.le_of_ble_eq_true rfl)
    · have hp := hp.2 hc12
      refine lv_null hx hb dX9_needPit_13 ?_
      refine lv_goto (tgt := 23) hx hb dX9_needPit_14 (by decide) ?_
      refine lv_astore_nN (lv' := [(2, .null), (0, .ref o), (1, .int p0)]) hx hb dX9_needPit_23 rfl hl (by decide) rfl (fun ls hl => ?_)
      refine lv_aload_nN hx hb dX9_needPit_24 rfl (lv_at hl 0 rfl) ?_
      refine lv_ifnonnullN hx hb dX9_needPit_25 ?_
      exact hp_throwW (text := "no such pit") (j := 20) 1 hx hb hst hown xf_1 (hts _ wd_X9_needPit_cl319) (hts _ wd_X9_needPit_in319) (List.mem_of_getElem? (i := 20) rfl) (fun w h => hts w (xm_X9_needPit_323 w h)) xb_X9_323 xg_X9_323 (List.mem_of_getElem? (i := 0) rfl) hE hK h (by rw [hml]; exact hl.1) dX9_needPit_28 dX9_needPit_31 dX9_needPit_32 dX9_needPit_35 dX9_needPit_38 htab (Nat.le_of_ble_eq_true rfl) (Nat.le_of_ble_eq_true rfl) (Nat.le_of_ble_eq_true rfl) (Nat.le_of_ble_eq_true rfl) hlocks rfl hp (Nat.le_of_ble_eq_true rfl) (Nat.le_of_ble_eq_true rfl)
abbrev rmX9_needLot : Room := { frames := 6, cells := 1, slots := 6, locals := 90 }
theorem xm_X9_needLot_323 : ∀ w ∈ (vx_atS RX9 323 "java/lang/IndexOutOfBoundsException" xNs).filter goodWord, w ∈ wsX9_needLot := fun _ h => List.mem_cons_of_mem _ (List.mem_append_right _ h)
theorem wd_X9_needLot_cl319 : Cond.classLink RX9 319 "java/lang/IndexOutOfBoundsException" ∈ wsX9_needLot := by decide +kernel
theorem wd_X9_needLot_in319 : Cond.initialized "java/lang/IndexOutOfBoundsException" ∈ wsX9_needLot := by decide +kernel
theorem ix_X9_needLot_9 : ∀ w ∈ wsX90, w ∈ wsX9_needLot := by decide +kernel
theorem lk_X9_needLot_50 : Cond.fieldLink RX9 50 "KelpShores" "lots" "[LKelpShores$Lot;" ∈ wsX9_needLot := by decide +kernel
def wp_X9_needLot (z : Zt) (o : Nat) (p0 : Int32) (w : Vt) (K : Nat → Vt → Prop) (X : Nat → Vt → Prop) : Prop := isO z 9 o ∧ (p0 < 0 → X 1 w) ∧ (¬ p0 < 0 → ∃ b6 : Nat, zR z 909 o = some b6 ∧ isO z 1909 b6 ∧ (p0 < 60 → vp_in p0 60 ∧ (zO z 1909 b6 (p0 : Int32).toNatClampNeg = none → X 1 w) ∧ (∀ b13 : Nat, zO z 1909 b6 (p0 : Int32).toNatClampNeg = some b13 → isO z 2 b13 ∧ K b13 w)) ∧ (¬ p0 < 60 → X 1 w))
set_option maxHeartbeats 4000000 in
set_option maxRecDepth 100000 in
theorem k_X9_needLot (l : Launch) (hst : l.stackTraces = false) (G : Gt) (z : Zt) (w : Vt) (sz : Nat) (o : Nat) (p0 : Int32) (K : Nat → Vt → Prop) (X : Nat → Vt → Prop) (hp : wp_X9_needLot z o p0 w K X) : XR l yX9_needLot wsX9_needLot rmX9_needLot G z w sz [.ref o, .int p0] K X 1 6 := by
  refine vx_ofW (cc := cX9_needLot) (maxL := 3) (ret := (some (.object "KelpShores$Lot"))) (by decide +kernel) rfl ?_
  intro p e s m args below meth c s₁ B hml htab hv
  obtain ⟨rfl, rfl, C, h⟩ := hp_start B hml hv
  generalize gA G z w s.heap.size = A at C h ⊢
  obtain ⟨hx, hb, hr, hlocks, hml, hown, hts, hK, hA, hE⟩ := id C
  obtain ⟨ho, hp⟩ := hp
  have hl := lv_entry ([.ref o, .int p0]) (n := 3) (Nat.le_of_ble_eq_true rfl)
  rw [lg_entry_eq]
  generalize (lg_sl ([.ref o, .int p0]) ++ List.replicate (3 - (lg_sl ([.ref o, .int p0])).length) Slot.unset).toArray = ls at hl ⊢
  have hl : lv_has ls 3 [(0, .ref o), (1, .int p0)] := hl
  refine lv_iload_n hx hb dX9_needLot_0 rfl (lv_at hl 1 rfl) ?_
  refine lv_if_lt (tgt := 13) hx hb dX9_needLot_1 (by decide) (fun hc5 => ?_) (fun hc5 => ?_)
  · have hp := hp.1 hc5
    refine lv_null hx hb dX9_needLot_13 ?_
    refine lv_goto (tgt := 23) hx hb dX9_needLot_14 (by decide) ?_
    refine lv_astore_nN (lv' := [(2, .null), (0, .ref o), (1, .int p0)]) hx hb dX9_needLot_23 rfl hl (by decide) rfl (fun ls hl => ?_)
    refine lv_aload_nN hx hb dX9_needLot_24 rfl (lv_at hl 0 rfl) ?_
    refine lv_ifnonnullN hx hb dX9_needLot_25 ?_
    exact hp_throwW (text := "no such lot") (j := 23) 1 hx hb hst hown xf_1 (hts _ wd_X9_needLot_cl319) (hts _ wd_X9_needLot_in319) (List.mem_of_getElem? (i := 23) rfl) (fun w h => hts w (xm_X9_needLot_323 w h)) xb_X9_323 xg_X9_323 (List.mem_of_getElem? (i := 0) rfl) hE hK h (by rw [hml]; exact hl.1) dX9_needLot_28 dX9_needLot_31 dX9_needLot_32 dX9_needLot_35 dX9_needLot_38 htab (Nat.le_of_ble_eq_true rfl) (Nat.le_of_ble_eq_true rfl) (Nat.le_of_ble_eq_true rfl) (Nat.le_of_ble_eq_true rfl) hlocks rfl hp (Nat.le_of_ble_eq_true rfl) (Nat.le_of_ble_eq_true rfl)
  · have hp := hp.2 hc5
    refine lv_iload_n hx hb dX9_needLot_4 rfl (lv_at hl 1 rfl) ?_
    refine lv_aload_n hx hb dX9_needLot_5 rfl (lv_at hl 0 rfl) ?_
    obtain ⟨b6, eb6, hob6, hp⟩ := hp
    refine hp_get (ci := 9) (v := .ref b6) hx hb hts ix_X9_needLot_9 hown hK h ho (by decide) rfl 9 (by decide) (hts _ lk_X9_needLot_50) (fun _ h9 => h9) (by show some (va_rf (zR z 909 o)) = some (Value.ref b6); rw [eb6]; rfl) dX9_needLot_6 ?_
    refine hp_alen (t := 1909) (n := 60) hx hb hK h 4 rfl hob6 (by decide) (fun _ _ _ => ⟨_, rfl, rfl⟩) (v := 60) (by decide) dX9_needLot_9 ?_
    refine lv_icmp_lt (tgt := 17) hx hb dX9_needLot_10 (by decide) (fun hc12 => ?_) (fun hc12 => ?_)
    · have hp := hp.1 hc12
      refine lv_aload_n hx hb dX9_needLot_17 rfl (lv_at hl 0 rfl) ?_
      refine hp_get (ci := 9) (v := .ref b6) hx hb hts ix_X9_needLot_9 hown hK h ho (by decide) rfl 9 (by decide) (hts _ lk_X9_needLot_50) (fun _ h9 => h9) (by show some (va_rf (zR z 909 o)) = some (Value.ref b6); rw [eb6]; rfl) dX9_needLot_18 ?_
      refine lv_iload_n hx hb dX9_needLot_21 rfl (lv_at hl 1 rfl) ?_
      refine hp_aald (t := 1909) (n := 60) hx hb hK h 4 rfl hob6 (by decide) (fun _ _ _ => rfl) hp.1 dX9_needLot_22 ?_
      have hp := hp.2
      cases eb13 : zO z 1909 b6 (p0 : Int32).toNatClampNeg with
      | none =>
        have hp := hp.1 eb13
        refine lv_astore_nN (lv' := [(2, .null), (0, .ref o), (1, .int p0)]) hx hb dX9_needLot_23 rfl hl (by decide) rfl (fun ls hl => ?_)
        refine lv_aload_nN hx hb dX9_needLot_24 rfl (lv_at hl 0 rfl) ?_
        refine lv_ifnonnullN hx hb dX9_needLot_25 ?_
        exact hp_throwW (text := "no such lot") (j := 23) 1 hx hb hst hown xf_1 (hts _ wd_X9_needLot_cl319) (hts _ wd_X9_needLot_in319) (List.mem_of_getElem? (i := 23) rfl) (fun w h => hts w (xm_X9_needLot_323 w h)) xb_X9_323 xg_X9_323 (List.mem_of_getElem? (i := 0) rfl) hE hK h (by rw [hml]; exact hl.1) dX9_needLot_28 dX9_needLot_31 dX9_needLot_32 dX9_needLot_35 dX9_needLot_38 htab (Nat.le_of_ble_eq_true rfl) (Nat.le_of_ble_eq_true rfl) (Nat.le_of_ble_eq_true rfl) (Nat.le_of_ble_eq_true rfl) hlocks rfl hp (Nat.le_of_ble_eq_true rfl) (Nat.le_of_ble_eq_true rfl)
      | some b13 =>
        obtain ⟨hob13, hp⟩ := hp.2 b13 eb13
        refine lv_astore_n (lv' := [(2, .ref b13), (0, .ref o), (1, .int p0)]) hx hb dX9_needLot_23 rfl hl (by decide) rfl (fun ls hl => ?_)
        refine lv_aload_n hx hb dX9_needLot_24 rfl (lv_at hl 0 rfl) ?_
        refine lv_ifnonnull (tgt := 39) hx hb dX9_needLot_25 (by decide) ?_
        refine lv_aload_n hx hb dX9_needLot_39 rfl (lv_at hl 0 rfl) ?_
        exact hp_xaret hx hb hr hlocks hK h hp dX9_needLot_40 (Nat.le_of_ble_eq_true rfl) (Nat.le_of_ble_eq_true rfl)
    · have hp := hp.2 hc12
      refine lv_null hx hb dX9_needLot_13 ?_
      refine lv_goto (tgt := 23) hx hb dX9_needLot_14 (by decide) ?_
      refine lv_astore_nN (lv' := [(2, .null), (0, .ref o), (1, .int p0)]) hx hb dX9_needLot_23 rfl hl (by decide) rfl (fun ls hl => ?_)
      refine lv_aload_nN hx hb dX9_needLot_24 rfl (lv_at hl 0 rfl) ?_
      refine lv_ifnonnullN hx hb dX9_needLot_25 ?_
      exact hp_throwW (text := "no such lot") (j := 23) 1 hx hb hst hown xf_1 (hts _ wd_X9_needLot_cl319) (hts _ wd_X9_needLot_in319) (List.mem_of_getElem? (i := 23) rfl) (fun w h => hts w (xm_X9_needLot_323 w h)) xb_X9_323 xg_X9_323 (List.mem_of_getElem? (i := 0) rfl) hE hK h (by rw [hml]; exact hl.1) dX9_needLot_28 dX9_needLot_31 dX9_needLot_32 dX9_needLot_35 dX9_needLot_38 htab (Nat.le_of_ble_eq_true rfl) (Nat.le_of_ble_eq_true rfl) (Nat.le_of_ble_eq_true rfl) (Nat.le_of_ble_eq_true rfl) hlocks rfl hp (Nat.le_of_ble_eq_true rfl) (Nat.le_of_ble_eq_true rfl)
abbrev rmX9_needAmount : Room := { frames := 6, cells := 1, slots := 6, locals := 90 }
theorem xm_X9_needAmount_94 : ∀ w ∈ (vx_atS RX9 94 "java/lang/IllegalArgumentException" xNs).filter goodWord, w ∈ wsX9_needAmount := fun _ h => List.mem_cons_of_mem _ (List.mem_append_right _ h)
theorem wd_X9_needAmount_cl90 : Cond.classLink RX9 90 "java/lang/IllegalArgumentException" ∈ wsX9_needAmount := by decide +kernel
theorem wd_X9_needAmount_in90 : Cond.initialized "java/lang/IllegalArgumentException" ∈ wsX9_needAmount := by decide +kernel
def wp_X9_needAmount (z : Zt) (p0 : Int32) (w : Vt) (K : Vt → Prop) (X : Nat → Vt → Prop) : Prop := wp_X9_isWithin z p0 1 1000 w (fun r2 w1 => (¬ r2 = 0 → K w1) ∧ (r2 = 0 → X 2 w1))
set_option maxHeartbeats 4000000 in
set_option maxRecDepth 100000 in
theorem k_X9_needAmount (l : Launch) (hst : l.stackTraces = false) (G : Gt) (z : Zt) (w : Vt) (sz : Nat) (p0 : Int32) (K : Vt → Prop) (X : Nat → Vt → Prop) (hp : wp_X9_needAmount z p0 w K X) : XV l yX9_needAmount wsX9_needAmount rmX9_needAmount G z w sz [.int p0] K X 1 6 := by
  refine vx_ofW (cc := cX9_needAmount) (maxL := 1) (ret := none) (by decide +kernel) rfl ?_
  intro p e s m args below meth c s₁ B hml htab hv
  obtain ⟨rfl, rfl, C, h⟩ := hp_start B hml hv
  generalize gA G z w s.heap.size = A at C h ⊢
  obtain ⟨hx, hb, hr, hlocks, hml, hown, hts, hK, hA, hE⟩ := id C
  have hl := lv_entry ([.int p0]) (n := 1) (Nat.le_of_ble_eq_true rfl)
  rw [lg_entry_eq]
  generalize (lg_sl ([.int p0]) ++ List.replicate (1 - (lg_sl ([.int p0])).length) Slot.unset).toArray = ls at hl ⊢
  have hl : lv_has ls 1 [(0, .int p0)] := hl
  refine lv_iload_n hx hb dX9_needAmount_0 rfl (lv_at hl 0 rfl) ?_
  refine lv_iconst (v := 1) hx hb dX9_needAmount_1 (by decide) ?_
  refine lv_sipush (v := 1000) hx hb dX9_needAmount_2 (by decide) ?_
  refine hp_cSi ⟨hx, hb, hml, hown, hts⟩ (k_X9_isWithin l G z w _ p0 1 1000 _ hp) (cwS 3 hts gX9_needAmount_X9_isWithin rfl rfl rfl (by decide +kernel) ⟨Nat.le_of_ble_eq_true rfl, Nat.le_of_ble_eq_true rfl⟩) hK h hA hE rfl hl.1 rfl (Nat.le_of_ble_eq_true rfl) dX9_needAmount_5 ⟨Nat.le_of_ble_eq_true rfl, Nat.le_of_ble_eq_true rfl⟩ (fun r2 w1 H locs hp h => ?_)
  refine lv_if_ne (tgt := 22) hx hb dX9_needAmount_8 (by decide) (fun hc3 => ?_) (fun hc3 => ?_)
  · have hp := hp.1 hc3
    exact hp_xvret hx hb hr hlocks hK h hp dX9_needAmount_22 (Nat.le_of_ble_eq_true rfl) (Nat.le_of_ble_eq_true rfl)
  · have hp := hp.2 hc3
    exact hp_throwW (text := "no such amount") (j := 16) 2 hx hb hst hown xf_2 (hts _ wd_X9_needAmount_cl90) (hts _ wd_X9_needAmount_in90) (List.mem_of_getElem? (i := 16) rfl) (fun w h => hts w (xm_X9_needAmount_94 w h)) xb_X9_94 xg_X9_94 (List.mem_of_getElem? (i := 1) rfl) hE hK h (by rw [hml]; exact hl.1) dX9_needAmount_11 dX9_needAmount_14 dX9_needAmount_15 dX9_needAmount_18 dX9_needAmount_21 htab (Nat.le_of_ble_eq_true rfl) (Nat.le_of_ble_eq_true rfl) (Nat.le_of_ble_eq_true rfl) (Nat.le_of_ble_eq_true rfl) hlocks rfl hp (Nat.le_of_ble_eq_true rfl) (Nat.le_of_ble_eq_true rfl)
abbrev rmX9_needTests : Room := { frames := 6, cells := 1, slots := 6, locals := 90 }
theorem ix_X9_needTests_9 : ∀ w ∈ wsX90, w ∈ wsX9_needTests := by decide +kernel
theorem lk_X9_needTests_54 : Cond.fieldLink RX9 54 "KelpShores" "tests" "[I" ∈ wsX9_needTests := by decide +kernel
theorem xm_X9_needTests_94 : ∀ w ∈ (vx_atS RX9 94 "java/lang/IllegalArgumentException" xNs).filter goodWord, w ∈ wsX9_needTests := fun _ h => List.mem_cons_of_mem _ (List.mem_append_right _ h)
theorem wd_X9_needTests_cl90 : Cond.classLink RX9 90 "java/lang/IllegalArgumentException" ∈ wsX9_needTests := by decide +kernel
theorem wd_X9_needTests_in90 : Cond.initialized "java/lang/IllegalArgumentException" ∈ wsX9_needTests := by decide +kernel
def wL_X9_needTests_9 (z : Zt) (o : Nat) (K : Vt → Prop) (X : Nat → Vt → Prop) (Kx : Int32 → Int32 → Int32 → Vt → Prop) : Nat → Int32 → Int32 → Int32 → Vt → Prop
  | 0, _, _, _, _ => False
  | n + 1, x3_, x2_, x1_, w => ∃ b3 : Nat, zR z 911 o = some b3 ∧ isO z 1911 b3 ∧ (5 ≤ x3_ → Kx x3_ x2_ x1_ w) ∧ (¬ 5 ≤ x3_ → (x2_ = 0 → ∀ x6 : Int32, x6 = x3_ + 1 → wL_X9_needTests_9 z o K X Kx n x6 0 x1_ w) ∧ (¬ x2_ = 0 → (x1_ ≤ x3_ → ∀ x8 : Int32, x8 = x3_ + 1 → wL_X9_needTests_9 z o K X Kx n x8 1 x1_ w) ∧ (¬ x1_ ≤ x3_ → vp_in x3_ 5 ∧ wp_X9_isWithin z (vA w 1911 b3 (x3_ : Int32).toNatClampNeg) 0 99 w (fun r10 w9 => (r10 = 0 → ∀ x12 : Int32, x12 = x3_ + 1 → wL_X9_needTests_9 z o K X Kx n x12 0 x1_ w9) ∧ (¬ r10 = 0 → ∀ x13 : Int32, x13 = x3_ + 1 → wL_X9_needTests_9 z o K X Kx n x13 1 x1_ w9)))))
set_option maxHeartbeats 4000000 in
set_option maxRecDepth 100000 in
theorem kL_X9_needTests_9 {p : Program} {l : Launch} {e : Env} {s : State} {m : MethodId} {args : Array Value} {below : List Frame} {meth : Method} {c : Code} {G : Gt} {A : Nat → Prop} {z : Zt} (C : gC p s m args meth c cX9_needTests 4 RX9 wsX9_needTests none G A) (o : Nat) (ho : isO z 9 o) (K : Vt → Prop) (X : Nat → Vt → Prop) (Kx : Int32 → Int32 → Int32 → Vt → Prop) (kKx : ∀ (x3_ x2_ x1_ : Int32) (w : Vt) (H : Heap) (locs : List Loc) (ls : Array Slot), Kx x3_ x2_ x1_ w → hpH G.1 G.2.1 A s.heap z w H locs → lv_has ls 4 [(3, .int x3_), (2, .int x2_), (0, .ref o), (1, .int x1_)] → W p l e (headSpec wsX9_needTests rmX9_needTests).room s m args below meth c H locs 0 0 (vx_MQ below (va_Qv K (gB G A z) A) (gX G A z X) args s 1 6 A) (F0 m 54 ls [])) : ∀ (n : Nat) (x3_ x2_ x1_ : Int32) (w : Vt) (H : Heap) (locs : List Loc) (ls : Array Slot), wL_X9_needTests_9 z o K X Kx n x3_ x2_ x1_ w → hpH G.1 G.2.1 A s.heap z w H locs → lv_has ls 4 [(3, .int x3_), (2, .int x2_), (0, .ref o), (1, .int x1_)] → W p l e (headSpec wsX9_needTests rmX9_needTests).room s m args below meth c H locs 0 0 (vx_MQ below (va_Qv K (gB G A z) A) (gX G A z X) args s 1 6 A) (F0 m 9 ls []) := by
  obtain ⟨hx, hb, hr, hlocks, hml, hown, hts, hK, hA, hE⟩ := id C
  intro n
  induction n with
  | zero =>
    intro x3_ x2_ x1_ w H locs ls hp
    exact hp.elim
  | succ n ih =>
    intro x3_ x2_ x1_ w H locs ls hp h hl
    refine lv_iload_n hx hb dX9_needTests_9 rfl (lv_at hl 0 rfl) ?_
    refine lv_aload_n hx hb dX9_needTests_10 rfl (lv_at hl 2 rfl) ?_
    obtain ⟨b3, eb3, hob3, hp⟩ := hp
    refine hp_get (ci := 9) (v := .ref b3) hx hb hts ix_X9_needTests_9 hown hK h ho (by decide) rfl 11 (by decide) (hts _ lk_X9_needTests_54) (fun _ h9 => h9) (by show some (va_rf (zR z 911 o)) = some (Value.ref b3); rw [eb3]; rfl) dX9_needTests_11 ?_
    refine hp_alen (t := 1911) (n := 5) hx hb hK h 1 rfl hob3 (by decide) (fun _ _ _ => ⟨_, rfl, rfl⟩) (v := 5) (by decide) dX9_needTests_14 ?_
    refine lv_icmp_ge (tgt := 54) hx hb dX9_needTests_15 (by decide) (fun hc4 => ?_) (fun hc4 => ?_)
    · have hp := hp.1 hc4
      exact kKx x3_ x2_ x1_ w _ _ _ hp h (lv_sub hl [0, 1, 2, 3] rfl)
    · have hp := hp.2 hc4
      refine lv_iload_n hx hb dX9_needTests_18 rfl (lv_at hl 1 rfl) ?_
      refine lv_if_eq (tgt := 46) hx hb dX9_needTests_19 (by decide) (fun hc5 => ?_) (fun hc5 => ?_)
      · have hp := hp.1 hc5
        refine lv_iconst (v := 0) hx hb dX9_needTests_46 (by decide) ?_
        refine lv_istore_n (lv' := [(2, .int 0), (3, .int x3_), (0, .ref o), (1, .int x1_)]) hx hb dX9_needTests_47 rfl hl (by decide) rfl (fun ls hl => ?_)
        obtain ⟨x6, ex6⟩ : ∃ y : Int32, y = x3_ + 1 := ⟨_, rfl⟩
        have hp := hp x6 ex6
        refine lv_iinc (v := x6) (lv' := [(3, .int x6), (2, .int 0), (0, .ref o), (1, .int x1_)]) hx hb dX9_needTests_48 hl (k := 1) rfl (by rw [ex6]; rfl) (by decide) rfl (fun ls hl => ?_)
        refine lv_goto (tgt := 9) hx hb dX9_needTests_51 (by decide) ?_
        exact ih x6 0 x1_ w _ _ _ hp h (lv_sub hl [0, 1, 2, 3] rfl)
      · have hp := hp.2 hc5
        refine lv_iload_n hx hb dX9_needTests_22 rfl (lv_at hl 0 rfl) ?_
        refine lv_iload_n hx hb dX9_needTests_23 rfl (lv_at hl 3 rfl) ?_
        refine lv_icmp_ge (tgt := 42) hx hb dX9_needTests_24 (by decide) (fun hc7 => ?_) (fun hc7 => ?_)
        · have hp := hp.1 hc7
          refine lv_iconst (v := 1) hx hb dX9_needTests_42 (by decide) ?_
          refine lv_goto (tgt := 47) hx hb dX9_needTests_43 (by decide) ?_
          refine lv_istore_n (lv' := [(2, .int 1), (3, .int x3_), (0, .ref o), (1, .int x1_)]) hx hb dX9_needTests_47 rfl hl (by decide) rfl (fun ls hl => ?_)
          obtain ⟨x8, ex8⟩ : ∃ y : Int32, y = x3_ + 1 := ⟨_, rfl⟩
          have hp := hp x8 ex8
          refine lv_iinc (v := x8) (lv' := [(3, .int x8), (2, .int 1), (0, .ref o), (1, .int x1_)]) hx hb dX9_needTests_48 hl (k := 1) rfl (by rw [ex8]; rfl) (by decide) rfl (fun ls hl => ?_)
          refine lv_goto (tgt := 9) hx hb dX9_needTests_51 (by decide) ?_
          exact ih x8 1 x1_ w _ _ _ hp h (lv_sub hl [0, 1, 2, 3] rfl)
        · have hp := hp.2 hc7
          refine lv_aload_n hx hb dX9_needTests_27 rfl (lv_at hl 2 rfl) ?_
          refine hp_get (ci := 9) (v := .ref b3) hx hb hts ix_X9_needTests_9 hown hK h ho (by decide) rfl 11 (by decide) (hts _ lk_X9_needTests_54) (fun _ h9 => h9) (by show some (va_rf (zR z 911 o)) = some (Value.ref b3); rw [eb3]; rfl) dX9_needTests_28 ?_
          refine lv_iload_n hx hb dX9_needTests_31 rfl (lv_at hl 0 rfl) ?_
          refine hp_iald (t := 1911) (n := 5) hx hb hK h hob3 (by decide) (fun _ _ _ => rfl) hp.1 dX9_needTests_32 ?_
          have hp := hp.2
          refine lv_iconst (v := 0) hx hb dX9_needTests_33 (by decide) ?_
          refine lv_bipush (v := 99) hx hb dX9_needTests_34 (by decide) ?_
          refine hp_cSi ⟨hx, hb, hml, hown, hts⟩ (k_X9_isWithin l G z w _ (vA w 1911 b3 (x3_ : Int32).toNatClampNeg) 0 99 _ hp) (cwS 3 hts gX9_needTests_X9_isWithin rfl rfl rfl (by decide +kernel) ⟨Nat.le_of_ble_eq_true rfl, Nat.le_of_ble_eq_true rfl⟩) hK h hA hE rfl hl.1 rfl (Nat.le_of_ble_eq_true rfl) dX9_needTests_36 ⟨Nat.le_of_ble_eq_true rfl, Nat.le_of_ble_eq_true rfl⟩ (fun r10 w9 H locs hp h => ?_)
          refine lv_if_eq (tgt := 46) hx hb dX9_needTests_39 (by decide) (fun hc11 => ?_) (fun hc11 => ?_)
          · have hp := hp.1 hc11
            refine lv_iconst (v := 0) hx hb dX9_needTests_46 (by decide) ?_
            refine lv_istore_n (lv' := [(2, .int 0), (3, .int x3_), (0, .ref o), (1, .int x1_)]) hx hb dX9_needTests_47 rfl hl (by decide) rfl (fun ls hl => ?_)
            obtain ⟨x12, ex12⟩ : ∃ y : Int32, y = x3_ + 1 := ⟨_, rfl⟩
            have hp := hp x12 ex12
            refine lv_iinc (v := x12) (lv' := [(3, .int x12), (2, .int 0), (0, .ref o), (1, .int x1_)]) hx hb dX9_needTests_48 hl (k := 1) rfl (by rw [ex12]; rfl) (by decide) rfl (fun ls hl => ?_)
            refine lv_goto (tgt := 9) hx hb dX9_needTests_51 (by decide) ?_
            exact ih x12 0 x1_ w9 _ _ _ hp h (lv_sub hl [0, 1, 2, 3] rfl)
          · have hp := hp.2 hc11
            refine lv_iconst (v := 1) hx hb dX9_needTests_42 (by decide) ?_
            refine lv_goto (tgt := 47) hx hb dX9_needTests_43 (by decide) ?_
            refine lv_istore_n (lv' := [(2, .int 1), (3, .int x3_), (0, .ref o), (1, .int x1_)]) hx hb dX9_needTests_47 rfl hl (by decide) rfl (fun ls hl => ?_)
            obtain ⟨x13, ex13⟩ : ∃ y : Int32, y = x3_ + 1 := ⟨_, rfl⟩
            have hp := hp x13 ex13
            refine lv_iinc (v := x13) (lv' := [(3, .int x13), (2, .int 1), (0, .ref o), (1, .int x1_)]) hx hb dX9_needTests_48 hl (k := 1) rfl (by rw [ex13]; rfl) (by decide) rfl (fun ls hl => ?_)
            refine lv_goto (tgt := 9) hx hb dX9_needTests_51 (by decide) ?_
            exact ih x13 1 x1_ w9 _ _ _ hp h (lv_sub hl [0, 1, 2, 3] rfl)
def wp_X9_needTests (z : Zt) (o : Nat) (p0 : Int32) (w : Vt) (K : Vt → Prop) (X : Nat → Vt → Prop) : Prop := isO z 9 o ∧ wp_X9_isWithin z p0 3 5 w (fun r2 w1 => ∃ n14 : Nat, wL_X9_needTests_9 z o K X (fun x15 x16 x17 w18 => (¬ x16 = 0 → K w18) ∧ (x16 = 0 → X 2 w18)) n14 0 r2 p0 w1)
set_option maxHeartbeats 4000000 in
set_option maxRecDepth 100000 in
theorem k_X9_needTests (l : Launch) (hst : l.stackTraces = false) (G : Gt) (z : Zt) (w : Vt) (sz : Nat) (o : Nat) (p0 : Int32) (K : Vt → Prop) (X : Nat → Vt → Prop) (hp : wp_X9_needTests z o p0 w K X) : XV l yX9_needTests wsX9_needTests rmX9_needTests G z w sz [.ref o, .int p0] K X 1 6 := by
  refine vx_ofW (cc := cX9_needTests) (maxL := 4) (ret := none) (by decide +kernel) rfl ?_
  intro p e s m args below meth c s₁ B hml htab hv
  obtain ⟨rfl, rfl, C, h⟩ := hp_start B hml hv
  generalize gA G z w s.heap.size = A at C h ⊢
  obtain ⟨hx, hb, hr, hlocks, hml, hown, hts, hK, hA, hE⟩ := id C
  obtain ⟨ho, hp⟩ := hp
  have hl := lv_entry ([.ref o, .int p0]) (n := 4) (Nat.le_of_ble_eq_true rfl)
  rw [lg_entry_eq]
  generalize (lg_sl ([.ref o, .int p0]) ++ List.replicate (4 - (lg_sl ([.ref o, .int p0])).length) Slot.unset).toArray = ls at hl ⊢
  have hl : lv_has ls 4 [(0, .ref o), (1, .int p0)] := hl
  refine lv_iload_n hx hb dX9_needTests_0 rfl (lv_at hl 1 rfl) ?_
  refine lv_iconst (v := 3) hx hb dX9_needTests_1 (by decide) ?_
  refine lv_iconst (v := 5) hx hb dX9_needTests_2 (by decide) ?_
  refine hp_cSi ⟨hx, hb, hml, hown, hts⟩ (k_X9_isWithin l G z w _ p0 3 5 _ hp) (cwS 3 hts gX9_needTests_X9_isWithin rfl rfl rfl (by decide +kernel) ⟨Nat.le_of_ble_eq_true rfl, Nat.le_of_ble_eq_true rfl⟩) hK h hA hE rfl hl.1 rfl (Nat.le_of_ble_eq_true rfl) dX9_needTests_3 ⟨Nat.le_of_ble_eq_true rfl, Nat.le_of_ble_eq_true rfl⟩ (fun r2 w1 H locs hp h => ?_)
  refine lv_istore_n (lv' := [(2, .int r2), (0, .ref o), (1, .int p0)]) hx hb dX9_needTests_6 rfl hl (by decide) rfl (fun ls hl => ?_)
  refine lv_iconst (v := 0) hx hb dX9_needTests_7 (by decide) ?_
  refine lv_istore_n (lv' := [(3, .int 0), (2, .int r2), (0, .ref o), (1, .int p0)]) hx hb dX9_needTests_8 rfl hl (by decide) rfl (fun ls hl => ?_)
  obtain ⟨n14, hp⟩ := hp
  refine kL_X9_needTests_9 C o ho _ _ _ (fun x15 x16 x17 w18 H locs ls hp h hl => ?_) n14 0 r2 p0 w1 _ _ _ hp h (lv_sub hl [0, 1, 2, 3] rfl)
  refine lv_iload_n hx hb dX9_needTests_54 rfl (lv_at hl 1 rfl) ?_
  refine lv_if_ne (tgt := 69) hx hb dX9_needTests_55 (by decide) (fun hc19 => ?_) (fun hc19 => ?_)
  · have hp := hp.1 hc19
    exact hp_xvret hx hb hr hlocks hK h hp dX9_needTests_69 (Nat.le_of_ble_eq_true rfl) (Nat.le_of_ble_eq_true rfl)
  · have hp := hp.2 hc19
    exact hp_throwW (text := "no such tests") (j := 22) 2 hx hb hst hown xf_2 (hts _ wd_X9_needTests_cl90) (hts _ wd_X9_needTests_in90) (List.mem_of_getElem? (i := 22) rfl) (fun w h => hts w (xm_X9_needTests_94 w h)) xb_X9_94 xg_X9_94 (List.mem_of_getElem? (i := 1) rfl) hE hK h (by rw [hml]; exact hl.1) dX9_needTests_58 dX9_needTests_61 dX9_needTests_62 dX9_needTests_65 dX9_needTests_68 htab (Nat.le_of_ble_eq_true rfl) (Nat.le_of_ble_eq_true rfl) (Nat.le_of_ble_eq_true rfl) (Nat.le_of_ble_eq_true rfl) hlocks rfl hp (Nat.le_of_ble_eq_true rfl) (Nat.le_of_ble_eq_true rfl)
abbrev rmX9_may : Room := { frames := 7, cells := 2, slots := 12, locals := 112 }
theorem ix_X9_may_9 : ∀ w ∈ wsX90, w ∈ wsX9_may := by decide +kernel
theorem lk_X9_may_19 : Cond.fieldLink RX9 19 "KelpShores" "rights" "LKelpShores$Rights;" ∈ wsX9_may := by decide +kernel
def wp_X9_may (z : Zt) (o : Nat) (p0 : Int32) (p1 : Int32) (p2 : Int32) (w : Vt) (K : Int32 → Vt → Prop) (X : Nat → Vt → Prop) : Prop := isO z 9 o ∧ wp_X9_needShore z o p0 w (fun b2 w1 => isO z 6 b2 ∧ wp_X9_needFamily z o p1 w1 (fun b4 w3 => isO z 0 b4 ∧ ∃ b5 : Nat, zR z 901 o = some b5 ∧ isO z 4 b5 ∧ wp_X4_firstPart z b5 p0 p1 p2 w3 (fun r7 w6 => (r7 = (-1) → K 0 w6) ∧ (¬ r7 = (-1) → K 1 w6))) X) X
set_option maxHeartbeats 4000000 in
set_option maxRecDepth 100000 in
theorem k_X9_may (l : Launch) (hst : l.stackTraces = false) (G : Gt) (z : Zt) (w : Vt) (sz : Nat) (o : Nat) (p0 : Int32) (p1 : Int32) (p2 : Int32) (K : Int32 → Vt → Prop) (X : Nat → Vt → Prop) (hp : wp_X9_may z o p0 p1 p2 w K X) : XI l yX9_may wsX9_may rmX9_may G z w sz [.ref o, .int p0, .int p1, .int p2] K X 2 12 := by
  refine vx_ofW (cc := cX9_may) (maxL := 4) (ret := (some .boolean)) (by decide +kernel) rfl ?_
  intro p e s m args below meth c s₁ B hml htab hv
  obtain ⟨rfl, rfl, C, h⟩ := hp_start B hml hv
  generalize gA G z w s.heap.size = A at C h ⊢
  obtain ⟨hx, hb, hr, hlocks, hml, hown, hts, hK, hA, hE⟩ := id C
  obtain ⟨ho, hp⟩ := hp
  have hl := lv_entry ([.ref o, .int p0, .int p1, .int p2]) (n := 4) (Nat.le_of_ble_eq_true rfl)
  rw [lg_entry_eq]
  generalize (lg_sl ([.ref o, .int p0, .int p1, .int p2]) ++ List.replicate (4 - (lg_sl ([.ref o, .int p0, .int p1, .int p2])).length) Slot.unset).toArray = ls at hl ⊢
  have hl : lv_has ls 4 [(0, .ref o), (1, .int p0), (2, .int p1), (3, .int p2)] := hl
  refine lv_aload_n hx hb dX9_may_0 rfl (lv_at hl 0 rfl) ?_
  refine lv_iload_n hx hb dX9_may_1 rfl (lv_at hl 1 rfl) ?_
  refine hp_xVr ⟨hx, hb, hml, hown, hts⟩ (k_X9_needShore l hst G z w _ o p0 _ _ hp) (cwV 1 hts gX9_may_X9_needShore rfl rfl rfl (by decide +kernel) ⟨Nat.le_of_ble_eq_true rfl, Nat.le_of_ble_eq_true rfl⟩) htab hlocks ho (by decide) rfl hK h hA hE rfl hl.1 rfl (Nat.le_of_ble_eq_true rfl) dX9_may_2 ⟨Nat.le_of_ble_eq_true rfl, Nat.le_of_ble_eq_true rfl⟩ ⟨Nat.le_of_ble_eq_true rfl, Nat.le_of_ble_eq_true rfl⟩ (fun b2 w1 H locs hp h => ?_)
  obtain ⟨hob2, hp⟩ := hp
  refine lv_pop hx hb dX9_may_5 rfl ?_
  refine lv_aload_n hx hb dX9_may_6 rfl (lv_at hl 0 rfl) ?_
  refine lv_iload_n hx hb dX9_may_7 rfl (lv_at hl 2 rfl) ?_
  refine hp_xVr ⟨hx, hb, hml, hown, hts⟩ (k_X9_needFamily l hst G z w1 _ o p1 _ _ hp) (cwV 1 hts gX9_may_X9_needFamily rfl rfl rfl (by decide +kernel) ⟨Nat.le_of_ble_eq_true rfl, Nat.le_of_ble_eq_true rfl⟩) htab hlocks ho (by decide) rfl hK h hA hE rfl hl.1 rfl (Nat.le_of_ble_eq_true rfl) dX9_may_8 ⟨Nat.le_of_ble_eq_true rfl, Nat.le_of_ble_eq_true rfl⟩ ⟨Nat.le_of_ble_eq_true rfl, Nat.le_of_ble_eq_true rfl⟩ (fun b4 w3 H locs hp h => ?_)
  obtain ⟨hob4, hp⟩ := hp
  refine lv_pop hx hb dX9_may_11 rfl ?_
  refine lv_aload_n hx hb dX9_may_12 rfl (lv_at hl 0 rfl) ?_
  obtain ⟨b5, eb5, hob5, hp⟩ := hp
  refine hp_get (ci := 9) (v := .ref b5) hx hb hts ix_X9_may_9 hown hK h ho (by decide) rfl 1 (by decide) (hts _ lk_X9_may_19) (fun _ h9 => h9) (by show some (va_rf (zR z 901 o)) = some (Value.ref b5); rw [eb5]; rfl) dX9_may_13 ?_
  refine lv_iload_n hx hb dX9_may_16 rfl (lv_at hl 1 rfl) ?_
  refine lv_iload_n hx hb dX9_may_17 rfl (lv_at hl 2 rfl) ?_
  refine lv_iload_n hx hb dX9_may_18 rfl (lv_at hl 3 rfl) ?_
  refine hp_cVi ⟨hx, hb, hml, hown, hts⟩ (k_X4_firstPart l G z w3 _ b5 p0 p1 p2 _ hp) (cwV 3 hts gX9_may_X4_firstPart rfl rfl rfl (by decide +kernel) ⟨Nat.le_of_ble_eq_true rfl, Nat.le_of_ble_eq_true rfl⟩) hob5 (by decide) rfl hK h hA hE rfl hl.1 rfl (Nat.le_of_ble_eq_true rfl) dX9_may_19 ⟨Nat.le_of_ble_eq_true rfl, Nat.le_of_ble_eq_true rfl⟩ (fun r7 w6 H locs hp h => ?_)
  refine lv_iconst (v := (-1)) hx hb dX9_may_22 (by decide) ?_
  refine lv_icmp_eq (tgt := 30) hx hb dX9_may_23 (by decide) (fun hc8 => ?_) (fun hc8 => ?_)
  · have hp := hp.1 hc8
    refine lv_iconst (v := 0) hx hb dX9_may_30 (by decide) ?_
    exact hp_xiret hx hb hr rfl hlocks hK h hp dX9_may_31 (Nat.le_of_ble_eq_true rfl) (Nat.le_of_ble_eq_true rfl)
  · have hp := hp.2 hc8
    refine lv_iconst (v := 1) hx hb dX9_may_26 (by decide) ?_
    refine lv_goto (tgt := 31) hx hb dX9_may_27 (by decide) ?_
    exact hp_xiret hx hb hr rfl hlocks hK h hp dX9_may_31 (Nat.le_of_ble_eq_true rfl) (Nat.le_of_ble_eq_true rfl)
abbrev rmX9_hands : Room := { frames := 7, cells := 2, slots := 12, locals := 112 }
theorem ix_X9_hands_0 : ∀ w ∈ wsX00, w ∈ wsX9_hands := by decide +kernel
theorem lk_X9_hands_141 {G : Gt} {A : Nat → Prop} {s : State} {args : Array Value} (hE : gE G A s s.heap) : (Cond.fieldLinkNest RX9 141 "KelpShores$Family" "hands" "I" "KelpShores").before args s = true := by
  have h : va_Nw (Cond.fieldLinkNest RX9 141 "KelpShores$Family" "hands" "I" "KelpShores") s := hE.1 (RX9, 141, "KelpShores$Family", "hands", "I") (List.mem_of_getElem? (i := 7) rfl)
  exact va_Nw.use rfl h
theorem xm_X9_hands_94 : ∀ w ∈ (vx_atS RX9 94 "java/lang/IllegalArgumentException" xNs).filter goodWord, w ∈ wsX9_hands := fun _ h => List.mem_cons_of_mem _ (List.mem_append_left _ (List.mem_append_right _ h))
theorem wd_X9_hands_cl90 : Cond.classLink RX9 90 "java/lang/IllegalArgumentException" ∈ wsX9_hands := by decide +kernel
theorem wd_X9_hands_in90 : Cond.initialized "java/lang/IllegalArgumentException" ∈ wsX9_hands := by decide +kernel
def wp_X9_hands (z : Zt) (o : Nat) (p0 : Int32) (p1 : Int32) (w : Vt) (K : Vt → Prop) (X : Nat → Vt → Prop) : Prop := isO z 9 o ∧ wp_X9_needFamily z o p0 w (fun b2 w1 => isO z 0 b2 ∧ wp_X9_isWithin z p1 0 20 w1 (fun r4 w3 => (¬ r4 = 0 → ∀ w6 : Vt, w6 = uI w3 1 b2 p1 → K w6) ∧ (r4 = 0 → X 2 w3))) X
set_option maxHeartbeats 4000000 in
set_option maxRecDepth 100000 in
theorem k_X9_hands (l : Launch) (hst : l.stackTraces = false) (G : Gt) (z : Zt) (w : Vt) (sz : Nat) (o : Nat) (p0 : Int32) (p1 : Int32) (K : Vt → Prop) (X : Nat → Vt → Prop) (hp : wp_X9_hands z o p0 p1 w K X) : XV l yX9_hands wsX9_hands rmX9_hands G z w sz [.ref o, .int p0, .int p1] K X 2 12 := by
  refine vx_ofW (cc := cX9_hands) (maxL := 4) (ret := none) (by decide +kernel) rfl ?_
  intro p e s m args below meth c s₁ B hml htab hv
  obtain ⟨rfl, rfl, C, h⟩ := hp_start B hml hv
  generalize gA G z w s.heap.size = A at C h ⊢
  obtain ⟨hx, hb, hr, hlocks, hml, hown, hts, hK, hA, hE⟩ := id C
  obtain ⟨ho, hp⟩ := hp
  have hl := lv_entry ([.ref o, .int p0, .int p1]) (n := 4) (Nat.le_of_ble_eq_true rfl)
  rw [lg_entry_eq]
  generalize (lg_sl ([.ref o, .int p0, .int p1]) ++ List.replicate (4 - (lg_sl ([.ref o, .int p0, .int p1])).length) Slot.unset).toArray = ls at hl ⊢
  have hl : lv_has ls 4 [(0, .ref o), (1, .int p0), (2, .int p1)] := hl
  refine lv_aload_n hx hb dX9_hands_0 rfl (lv_at hl 0 rfl) ?_
  refine lv_iload_n hx hb dX9_hands_1 rfl (lv_at hl 1 rfl) ?_
  refine hp_xVr ⟨hx, hb, hml, hown, hts⟩ (k_X9_needFamily l hst G z w _ o p0 _ _ hp) (cwV 1 hts gX9_hands_X9_needFamily rfl rfl rfl (by decide +kernel) ⟨Nat.le_of_ble_eq_true rfl, Nat.le_of_ble_eq_true rfl⟩) htab hlocks ho (by decide) rfl hK h hA hE rfl hl.1 rfl (Nat.le_of_ble_eq_true rfl) dX9_hands_2 ⟨Nat.le_of_ble_eq_true rfl, Nat.le_of_ble_eq_true rfl⟩ ⟨Nat.le_of_ble_eq_true rfl, Nat.le_of_ble_eq_true rfl⟩ (fun b2 w1 H locs hp h => ?_)
  obtain ⟨hob2, hp⟩ := hp
  refine lv_astore_n (lv' := [(3, .ref b2), (0, .ref o), (1, .int p0), (2, .int p1)]) hx hb dX9_hands_5 rfl hl (by decide) rfl (fun ls hl => ?_)
  refine lv_iload_n hx hb dX9_hands_6 rfl (lv_at hl 3 rfl) ?_
  refine lv_iconst (v := 0) hx hb dX9_hands_7 (by decide) ?_
  refine lv_bipush (v := 20) hx hb dX9_hands_8 (by decide) ?_
  refine hp_cSi ⟨hx, hb, hml, hown, hts⟩ (k_X9_isWithin l G z w1 _ p1 0 20 _ hp) (cwS 3 hts gX9_hands_X9_isWithin rfl rfl rfl (by decide +kernel) ⟨Nat.le_of_ble_eq_true rfl, Nat.le_of_ble_eq_true rfl⟩) hK h hA hE rfl hl.1 rfl (Nat.le_of_ble_eq_true rfl) dX9_hands_10 ⟨Nat.le_of_ble_eq_true rfl, Nat.le_of_ble_eq_true rfl⟩ (fun r4 w3 H locs hp h => ?_)
  refine lv_if_ne (tgt := 26) hx hb dX9_hands_13 (by decide) (fun hc5 => ?_) (fun hc5 => ?_)
  · have hp := hp.1 hc5
    refine lv_aload_n hx hb dX9_hands_26 rfl (lv_at hl 0 rfl) ?_
    refine lv_iload_n hx hb dX9_hands_27 rfl (lv_at hl 3 rfl) ?_
    refine hp_putiN (ci := 0) (ty := .int) (x := p1) hx hb hts ix_X9_hands_0 tyX0 tyX0_ok nmX0 hown hK h hob2 (by decide) rfl 1 1 (by decide) (lk_X9_hands_141 hE) (fun _ h9 => h9) rfl (by decide +kernel) rfl rfl (fun _ _ => rfl) (fun _ _ => Nat.le_of_ble_eq_true rfl) dX9_hands_28 (fun H locs w6 ew6 h => ?_)
    have hp := hp w6 ew6
    exact hp_xvret hx hb hr hlocks hK h hp dX9_hands_31 (Nat.le_of_ble_eq_true rfl) (Nat.le_of_ble_eq_true rfl)
  · have hp := hp.2 hc5
    exact hp_throw (text := "no such number of hands") (j := 11) 2 hx hb hst hown xf_2 (hts _ wd_X9_hands_cl90) (hts _ wd_X9_hands_in90) (List.mem_of_getElem? (i := 5) rfl) (fun w h => hts w (xm_X9_hands_94 w h)) xb_X9_94 xg_X9_94 (List.mem_of_getElem? (i := 1) rfl) hE hK h (by rw [hml]; exact hl.1) dX9_hands_16 dX9_hands_19 dX9_hands_20 dX9_hands_22 dX9_hands_25 htab (Nat.le_of_ble_eq_true rfl) (Nat.le_of_ble_eq_true rfl) (Nat.le_of_ble_eq_true rfl) (Nat.le_of_ble_eq_true rfl) hlocks rfl hp (Nat.le_of_ble_eq_true rfl) (Nat.le_of_ble_eq_true rfl)
abbrev rmX9_look : Room := { frames := 7, cells := 3, slots := 18, locals := 112 }
theorem ix_X9_look_5 : ∀ w ∈ wsX50, w ∈ wsX9_look := by decide +kernel
theorem lk_X9_look_148 {G : Gt} {A : Nat → Prop} {s : State} {args : Array Value} (hE : gE G A s s.heap) : (Cond.fieldLinkNest RX9 148 "KelpShores$Rock" "weed" "I" "KelpShores").before args s = true := by
  have h : va_Nw (Cond.fieldLinkNest RX9 148 "KelpShores$Rock" "weed" "I" "KelpShores") s := hE.1 (RX9, 148, "KelpShores$Rock", "weed", "I") (List.mem_of_getElem? (i := 21) rfl)
  exact va_Nw.use rfl h
theorem lk_X9_look_151 {G : Gt} {A : Nat → Prop} {s : State} {args : Array Value} (hE : gE G A s s.heap) : (Cond.fieldLinkNest RX9 151 "KelpShores$Rock" "cutYear" "I" "KelpShores").before args s = true := by
  have h : va_Nw (Cond.fieldLinkNest RX9 151 "KelpShores$Rock" "cutYear" "I" "KelpShores") s := hE.1 (RX9, 151, "KelpShores$Rock", "cutYear", "I") (List.mem_of_getElem? (i := 25) rfl)
  exact va_Nw.use rfl h
theorem lk_X9_look_154 {G : Gt} {A : Nat → Prop} {s : State} {args : Array Value} (hE : gE G A s s.heap) : (Cond.fieldLinkNest RX9 154 "KelpShores$Rock" "grown" "I" "KelpShores").before args s = true := by
  have h : va_Nw (Cond.fieldLinkNest RX9 154 "KelpShores$Rock" "grown" "I" "KelpShores") s := hE.1 (RX9, 154, "KelpShores$Rock", "grown", "I") (List.mem_of_getElem? (i := 22) rfl)
  exact va_Nw.use rfl h
theorem lk_X9_look_157 {G : Gt} {A : Nat → Prop} {s : State} {args : Array Value} (hE : gE G A s s.heap) : (Cond.fieldLinkNest RX9 157 "KelpShores$Rock" "cutInAll" "I" "KelpShores").before args s = true := by
  have h : va_Nw (Cond.fieldLinkNest RX9 157 "KelpShores$Rock" "cutInAll" "I" "KelpShores") s := hE.1 (RX9, 157, "KelpShores$Rock", "cutInAll", "I") (List.mem_of_getElem? (i := 23) rfl)
  exact va_Nw.use rfl h
theorem lk_X9_look_160 {G : Gt} {A : Nat → Prop} {s : State} {args : Array Value} (hE : gE G A s s.heap) : (Cond.fieldLinkNest RX9 160 "KelpShores$Rock" "takenByStorms" "I" "KelpShores").before args s = true := by
  have h : va_Nw (Cond.fieldLinkNest RX9 160 "KelpShores$Rock" "takenByStorms" "I" "KelpShores") s := hE.1 (RX9, 160, "KelpShores$Rock", "takenByStorms", "I") (List.mem_of_getElem? (i := 24) rfl)
  exact va_Nw.use rfl h
theorem xm_X9_look_167 : ∀ w ∈ (vx_atS RX9 167 "java/util/NoSuchElementException" xNs).filter goodWord, w ∈ wsX9_look := fun _ h => List.mem_cons_of_mem _ (List.mem_append_left _ (List.mem_append_right _ h))
theorem wd_X9_look_cl163 : Cond.classLink RX9 163 "java/util/NoSuchElementException" ∈ wsX9_look := by decide +kernel
theorem wd_X9_look_in163 : Cond.initialized "java/util/NoSuchElementException" ∈ wsX9_look := by decide +kernel
def wp_X9_look (z : Zt) (o : Nat) (p0 : Int32) (p1 : Int32) (p2 : Int32) (w : Vt) (K : Int32 → Vt → Prop) (X : Nat → Vt → Prop) : Prop := isO z 9 o ∧ wp_X9_needShore z o p0 w (fun b2 w1 => isO z 6 b2 ∧ wp_X9_needRock z b2 p1 w1 (fun b4 w3 => isO z 5 b4 ∧ (p2 = 0 → K (vI w3 502 b4) w3) ∧ (p2 = 1 → K (vI w3 506 b4) w3) ∧ (p2 = 2 → K (vI w3 503 b4) w3) ∧ (p2 = 3 → K (vI w3 504 b4) w3) ∧ (p2 = 4 → K (vI w3 505 b4) w3) ∧ (¬ p2 = 0 → ¬ p2 = 1 → ¬ p2 = 2 → ¬ p2 = 3 → ¬ p2 = 4 → X 4 w3)) X) X
set_option maxHeartbeats 4000000 in
set_option maxRecDepth 100000 in
theorem k_X9_look (l : Launch) (hst : l.stackTraces = false) (G : Gt) (z : Zt) (w : Vt) (sz : Nat) (o : Nat) (p0 : Int32) (p1 : Int32) (p2 : Int32) (K : Int32 → Vt → Prop) (X : Nat → Vt → Prop) (hp : wp_X9_look z o p0 p1 p2 w K X) : XI l yX9_look wsX9_look rmX9_look G z w sz [.ref o, .int p0, .int p1, .int p2] K X 3 18 := by
  refine vx_ofW (cc := cX9_look) (maxL := 5) (ret := (some .int)) (by decide +kernel) rfl ?_
  intro p e s m args below meth c s₁ B hml htab hv
  obtain ⟨rfl, rfl, C, h⟩ := hp_start B hml hv
  generalize gA G z w s.heap.size = A at C h ⊢
  obtain ⟨hx, hb, hr, hlocks, hml, hown, hts, hK, hA, hE⟩ := id C
  obtain ⟨ho, hp⟩ := hp
  have hl := lv_entry ([.ref o, .int p0, .int p1, .int p2]) (n := 5) (Nat.le_of_ble_eq_true rfl)
  rw [lg_entry_eq]
  generalize (lg_sl ([.ref o, .int p0, .int p1, .int p2]) ++ List.replicate (5 - (lg_sl ([.ref o, .int p0, .int p1, .int p2])).length) Slot.unset).toArray = ls at hl ⊢
  have hl : lv_has ls 5 [(0, .ref o), (1, .int p0), (2, .int p1), (3, .int p2)] := hl
  refine lv_aload_n hx hb dX9_look_0 rfl (lv_at hl 0 rfl) ?_
  refine lv_iload_n hx hb dX9_look_1 rfl (lv_at hl 1 rfl) ?_
  refine hp_xVr ⟨hx, hb, hml, hown, hts⟩ (k_X9_needShore l hst G z w _ o p0 _ _ hp) (cwV 1 hts gX9_look_X9_needShore rfl rfl rfl (by decide +kernel) ⟨Nat.le_of_ble_eq_true rfl, Nat.le_of_ble_eq_true rfl⟩) htab hlocks ho (by decide) rfl hK h hA hE rfl hl.1 rfl (Nat.le_of_ble_eq_true rfl) dX9_look_2 ⟨Nat.le_of_ble_eq_true rfl, Nat.le_of_ble_eq_true rfl⟩ ⟨Nat.le_of_ble_eq_true rfl, Nat.le_of_ble_eq_true rfl⟩ (fun b2 w1 H locs hp h => ?_)
  obtain ⟨hob2, hp⟩ := hp
  refine lv_iload_n hx hb dX9_look_5 rfl (lv_at hl 2 rfl) ?_
  refine hp_xSr ⟨hx, hb, hml, hown, hts⟩ (k_X9_needRock l hst G z w1 _ b2 p1 _ _ hp) (cwS 2 hts gX9_look_X9_needRock rfl rfl rfl (by decide +kernel) ⟨Nat.le_of_ble_eq_true rfl, Nat.le_of_ble_eq_true rfl⟩) htab hlocks hK h hA hE rfl hl.1 rfl (Nat.le_of_ble_eq_true rfl) dX9_look_6 ⟨Nat.le_of_ble_eq_true rfl, Nat.le_of_ble_eq_true rfl⟩ ⟨Nat.le_of_ble_eq_true rfl, Nat.le_of_ble_eq_true rfl⟩ (fun b4 w3 H locs hp h => ?_)
  obtain ⟨hob4, hp⟩ := hp
  refine lv_astore (lv' := [(4, .ref b4), (0, .ref o), (1, .int p0), (2, .int p1), (3, .int p2)]) hx hb dX9_look_9 hl (by decide) rfl (fun ls hl => ?_)
  refine lv_iload_n hx hb dX9_look_11 rfl (lv_at hl 4 rfl) ?_
  by_cases hc5 : p2 = 0
  · refine lv_tableIn (off := 36) (tgt := 48) hx hb dX9_look_12 (by rw [hc5]; decide) (by rw [hc5]; decide) (by rw [hc5]; rfl) (by decide) ?_
    have hp := hp.1 hc5
    refine lv_aload hx hb dX9_look_48 (lv_at hl 0 rfl) ?_
    refine hp_getN (ci := 5) (v := .int (vI w3 502 b4)) hx hb hts ix_X9_look_5 hown hK h hob4 (by decide) rfl 2 (by decide) (lk_X9_look_148 hE) (fun _ h9 => h9) rfl dX9_look_50 ?_
    exact hp_xiret hx hb hr rfl hlocks hK h hp dX9_look_53 (Nat.le_of_ble_eq_true rfl) (Nat.le_of_ble_eq_true rfl)
  have hp := hp.2
  by_cases hc6 : p2 = 1
  · refine lv_tableIn (off := 42) (tgt := 54) hx hb dX9_look_12 (by rw [hc6]; decide) (by rw [hc6]; decide) (by rw [hc6]; rfl) (by decide) ?_
    have hp := hp.1 hc6
    refine lv_aload hx hb dX9_look_54 (lv_at hl 0 rfl) ?_
    refine hp_getN (ci := 5) (v := .int (vI w3 506 b4)) hx hb hts ix_X9_look_5 hown hK h hob4 (by decide) rfl 6 (by decide) (lk_X9_look_151 hE) (fun _ h9 => h9) rfl dX9_look_56 ?_
    exact hp_xiret hx hb hr rfl hlocks hK h hp dX9_look_59 (Nat.le_of_ble_eq_true rfl) (Nat.le_of_ble_eq_true rfl)
  have hp := hp.2
  by_cases hc7 : p2 = 2
  · refine lv_tableIn (off := 48) (tgt := 60) hx hb dX9_look_12 (by rw [hc7]; decide) (by rw [hc7]; decide) (by rw [hc7]; rfl) (by decide) ?_
    have hp := hp.1 hc7
    refine lv_aload hx hb dX9_look_60 (lv_at hl 0 rfl) ?_
    refine hp_getN (ci := 5) (v := .int (vI w3 503 b4)) hx hb hts ix_X9_look_5 hown hK h hob4 (by decide) rfl 3 (by decide) (lk_X9_look_154 hE) (fun _ h9 => h9) rfl dX9_look_62 ?_
    exact hp_xiret hx hb hr rfl hlocks hK h hp dX9_look_65 (Nat.le_of_ble_eq_true rfl) (Nat.le_of_ble_eq_true rfl)
  have hp := hp.2
  by_cases hc8 : p2 = 3
  · refine lv_tableIn (off := 54) (tgt := 66) hx hb dX9_look_12 (by rw [hc8]; decide) (by rw [hc8]; decide) (by rw [hc8]; rfl) (by decide) ?_
    have hp := hp.1 hc8
    refine lv_aload hx hb dX9_look_66 (lv_at hl 0 rfl) ?_
    refine hp_getN (ci := 5) (v := .int (vI w3 504 b4)) hx hb hts ix_X9_look_5 hown hK h hob4 (by decide) rfl 4 (by decide) (lk_X9_look_157 hE) (fun _ h9 => h9) rfl dX9_look_68 ?_
    exact hp_xiret hx hb hr rfl hlocks hK h hp dX9_look_71 (Nat.le_of_ble_eq_true rfl) (Nat.le_of_ble_eq_true rfl)
  have hp := hp.2
  by_cases hc9 : p2 = 4
  · refine lv_tableIn (off := 60) (tgt := 72) hx hb dX9_look_12 (by rw [hc9]; decide) (by rw [hc9]; decide) (by rw [hc9]; rfl) (by decide) ?_
    have hp := hp.1 hc9
    refine lv_aload hx hb dX9_look_72 (lv_at hl 0 rfl) ?_
    refine hp_getN (ci := 5) (v := .int (vI w3 505 b4)) hx hb hts ix_X9_look_5 hown hK h hob4 (by decide) rfl 5 (by decide) (lk_X9_look_160 hE) (fun _ h9 => h9) rfl dX9_look_74 ?_
    exact hp_xiret hx hb hr rfl hlocks hK h hp dX9_look_77 (Nat.le_of_ble_eq_true rfl) (Nat.le_of_ble_eq_true rfl)
  have hp := hp.2
  have thc5 := lv_neT (a := 0) hc5 (by decide)
  have hp := hp hc5
  have thc6 := lv_neT (a := 1) hc6 (by decide)
  have hp := hp hc6
  have thc7 := lv_neT (a := 2) hc7 (by decide)
  have hp := hp hc7
  have thc8 := lv_neT (a := 3) hc8 (by decide)
  have hp := hp hc8
  have thc9 := lv_neT (a := 4) hc9 (by decide)
  have hp := hp hc9
  refine lv_tableOut (tgt := 78) hx hb dX9_look_12 (by omega) (by decide) ?_
  exact hp_throw (text := "nothing of a rock has this number") (j := 17) 4 hx hb hst hown xf_4 (hts _ wd_X9_look_cl163) (hts _ wd_X9_look_in163) (List.mem_of_getElem? (i := 17) rfl) (fun w h => hts w (xm_X9_look_167 w h)) xb_X9_167 xg_X9_167 (List.mem_of_getElem? (i := 3) rfl) hE hK h (by rw [hml]; exact hl.1) dX9_look_78 dX9_look_81 dX9_look_82 dX9_look_84 dX9_look_87 htab (Nat.le_of_ble_eq_true rfl) (Nat.le_of_ble_eq_true rfl) (Nat.le_of_ble_eq_true rfl) (Nat.le_of_ble_eq_true rfl) hlocks rfl hp (Nat.le_of_ble_eq_true rfl) (Nat.le_of_ble_eq_true rfl)
abbrev rmX9_cast : Room := { frames := 7, cells := 1, slots := 6, locals := 112 }
theorem ix_X9_cast_6 : ∀ w ∈ wsX60, w ∈ wsX9_cast := by decide +kernel
theorem lk_X9_cast_168 {G : Gt} {A : Nat → Prop} {s : State} {args : Array Value} (hE : gE G A s s.heap) : (Cond.fieldLinkNest RX9 168 "KelpShores$Shore" "castWeed" "I" "KelpShores").before args s = true := by
  have h : va_Nw (Cond.fieldLinkNest RX9 168 "KelpShores$Shore" "castWeed" "I" "KelpShores") s := hE.1 (RX9, 168, "KelpShores$Shore", "castWeed", "I") (List.mem_of_getElem? (i := 19) rfl)
  exact va_Nw.use rfl h
def wp_X9_cast (z : Zt) (o : Nat) (p0 : Int32) (w : Vt) (K : Int32 → Vt → Prop) (X : Nat → Vt → Prop) : Prop := isO z 9 o ∧ wp_X9_needShore z o p0 w (fun b2 w1 => isO z 6 b2 ∧ K (vI w1 602 b2) w1) X
set_option maxHeartbeats 4000000 in
set_option maxRecDepth 100000 in
theorem k_X9_cast (l : Launch) (hst : l.stackTraces = false) (G : Gt) (z : Zt) (w : Vt) (sz : Nat) (o : Nat) (p0 : Int32) (K : Int32 → Vt → Prop) (X : Nat → Vt → Prop) (hp : wp_X9_cast z o p0 w K X) : XI l yX9_cast wsX9_cast rmX9_cast G z w sz [.ref o, .int p0] K X 1 6 := by
  refine vx_ofW (cc := cX9_cast) (maxL := 2) (ret := (some .int)) (by decide +kernel) rfl ?_
  intro p e s m args below meth c s₁ B hml htab hv
  obtain ⟨rfl, rfl, C, h⟩ := hp_start B hml hv
  generalize gA G z w s.heap.size = A at C h ⊢
  obtain ⟨hx, hb, hr, hlocks, hml, hown, hts, hK, hA, hE⟩ := id C
  obtain ⟨ho, hp⟩ := hp
  have hl := lv_entry ([.ref o, .int p0]) (n := 2) (Nat.le_of_ble_eq_true rfl)
  rw [lg_entry_eq]
  generalize (lg_sl ([.ref o, .int p0]) ++ List.replicate (2 - (lg_sl ([.ref o, .int p0])).length) Slot.unset).toArray = ls at hl ⊢
  have hl : lv_has ls 2 [(0, .ref o), (1, .int p0)] := hl
  refine lv_aload_n hx hb dX9_cast_0 rfl (lv_at hl 0 rfl) ?_
  refine lv_iload_n hx hb dX9_cast_1 rfl (lv_at hl 1 rfl) ?_
  refine hp_xVr ⟨hx, hb, hml, hown, hts⟩ (k_X9_needShore l hst G z w _ o p0 _ _ hp) (cwV 1 hts gX9_cast_X9_needShore rfl rfl rfl (by decide +kernel) ⟨Nat.le_of_ble_eq_true rfl, Nat.le_of_ble_eq_true rfl⟩) htab hlocks ho (by decide) rfl hK h hA hE rfl hl.1 rfl (Nat.le_of_ble_eq_true rfl) dX9_cast_2 ⟨Nat.le_of_ble_eq_true rfl, Nat.le_of_ble_eq_true rfl⟩ ⟨Nat.le_of_ble_eq_true rfl, Nat.le_of_ble_eq_true rfl⟩ (fun b2 w1 H locs hp h => ?_)
  obtain ⟨hob2, hp⟩ := hp
  refine hp_getN (ci := 6) (v := .int (vI w1 602 b2)) hx hb hts ix_X9_cast_6 hown hK h hob2 (by decide) rfl 2 (by decide) (lk_X9_cast_168 hE) (fun _ h9 => h9) rfl dX9_cast_5 ?_
  exact hp_xiret hx hb hr rfl hlocks hK h hp dX9_cast_8 (Nat.le_of_ble_eq_true rfl) (Nat.le_of_ble_eq_true rfl)
abbrev rmX9_has : Room := { frames := 7, cells := 2, slots := 12, locals := 112 }
theorem ix_X9_has_0 : ∀ w ∈ wsX00, w ∈ wsX9_has := by decide +kernel
theorem lk_X9_has_171 {G : Gt} {A : Nat → Prop} {s : State} {args : Array Value} (hE : gE G A s s.heap) : (Cond.fieldLinkNest RX9 171 "KelpShores$Family" "wet" "I" "KelpShores").before args s = true := by
  have h : va_Nw (Cond.fieldLinkNest RX9 171 "KelpShores$Family" "wet" "I" "KelpShores") s := hE.1 (RX9, 171, "KelpShores$Family", "wet", "I") (List.mem_of_getElem? (i := 9) rfl)
  exact va_Nw.use rfl h
theorem lk_X9_has_174 {G : Gt} {A : Nat → Prop} {s : State} {args : Array Value} (hE : gE G A s s.heap) : (Cond.fieldLinkNest RX9 174 "KelpShores$Family" "dry" "I" "KelpShores").before args s = true := by
  have h : va_Nw (Cond.fieldLinkNest RX9 174 "KelpShores$Family" "dry" "I" "KelpShores") s := hE.1 (RX9, 174, "KelpShores$Family", "dry", "I") (List.mem_of_getElem? (i := 11) rfl)
  exact va_Nw.use rfl h
theorem lk_X9_has_177 {G : Gt} {A : Nat → Prop} {s : State} {args : Array Value} (hE : gE G A s s.heap) : (Cond.fieldLinkNest RX9 177 "KelpShores$Family" "ash" "I" "KelpShores").before args s = true := by
  have h : va_Nw (Cond.fieldLinkNest RX9 177 "KelpShores$Family" "ash" "I" "KelpShores") s := hE.1 (RX9, 177, "KelpShores$Family", "ash", "I") (List.mem_of_getElem? (i := 13) rfl)
  exact va_Nw.use rfl h
theorem lk_X9_has_184 {G : Gt} {A : Nat → Prop} {s : State} {args : Array Value} (hE : gE G A s s.heap) : (Cond.fieldLinkNest RX9 184 "KelpShores$Family" "spoilt" "I" "KelpShores").before args s = true := by
  have h : va_Nw (Cond.fieldLinkNest RX9 184 "KelpShores$Family" "spoilt" "I" "KelpShores") s := hE.1 (RX9, 184, "KelpShores$Family", "spoilt", "I") (List.mem_of_getElem? (i := 14) rfl)
  exact va_Nw.use rfl h
theorem lk_X9_has_187 {G : Gt} {A : Nat → Prop} {s : State} {args : Array Value} (hE : gE G A s s.heap) : (Cond.fieldLinkNest RX9 187 "KelpShores$Family" "lost" "I" "KelpShores").before args s = true := by
  have h : va_Nw (Cond.fieldLinkNest RX9 187 "KelpShores$Family" "lost" "I" "KelpShores") s := hE.1 (RX9, 187, "KelpShores$Family", "lost", "I") (List.mem_of_getElem? (i := 16) rfl)
  exact va_Nw.use rfl h
theorem lk_X9_has_141 {G : Gt} {A : Nat → Prop} {s : State} {args : Array Value} (hE : gE G A s s.heap) : (Cond.fieldLinkNest RX9 141 "KelpShores$Family" "hands" "I" "KelpShores").before args s = true := by
  have h : va_Nw (Cond.fieldLinkNest RX9 141 "KelpShores$Family" "hands" "I" "KelpShores") s := hE.1 (RX9, 141, "KelpShores$Family", "hands", "I") (List.mem_of_getElem? (i := 7) rfl)
  exact va_Nw.use rfl h
theorem xm_X9_has_167 : ∀ w ∈ (vx_atS RX9 167 "java/util/NoSuchElementException" xNs).filter goodWord, w ∈ wsX9_has := fun _ h => List.mem_cons_of_mem _ (List.mem_append_left _ (List.mem_append_right _ h))
theorem wd_X9_has_cl163 : Cond.classLink RX9 163 "java/util/NoSuchElementException" ∈ wsX9_has := by decide +kernel
theorem wd_X9_has_in163 : Cond.initialized "java/util/NoSuchElementException" ∈ wsX9_has := by decide +kernel
def wp_X9_has (z : Zt) (o : Nat) (p0 : Int32) (p1 : Int32) (w : Vt) (K : Int32 → Vt → Prop) (X : Nat → Vt → Prop) : Prop := isO z 9 o ∧ wp_X9_needFamily z o p0 w (fun b2 w1 => isO z 0 b2 ∧ (p1 = 0 → K (vI w1 3 b2) w1) ∧ (p1 = 1 → K (vI w1 4 b2) w1) ∧ (p1 = 2 → K (vI w1 5 b2) w1) ∧ (p1 = 3 → wp_X0_workLeft z b2 w1 (fun r8 w7 => K r8 w7)) ∧ (p1 = 4 → K (vI w1 6 b2) w1) ∧ (p1 = 5 → K (vI w1 7 b2) w1) ∧ (p1 = 6 → K (vI w1 1 b2) w1) ∧ (¬ p1 = 0 → ¬ p1 = 1 → ¬ p1 = 2 → ¬ p1 = 3 → ¬ p1 = 4 → ¬ p1 = 5 → ¬ p1 = 6 → X 4 w1)) X
set_option maxHeartbeats 4000000 in
set_option maxRecDepth 100000 in
theorem k_X9_has (l : Launch) (hst : l.stackTraces = false) (G : Gt) (z : Zt) (w : Vt) (sz : Nat) (o : Nat) (p0 : Int32) (p1 : Int32) (K : Int32 → Vt → Prop) (X : Nat → Vt → Prop) (hp : wp_X9_has z o p0 p1 w K X) : XI l yX9_has wsX9_has rmX9_has G z w sz [.ref o, .int p0, .int p1] K X 2 12 := by
  refine vx_ofW (cc := cX9_has) (maxL := 4) (ret := (some .int)) (by decide +kernel) rfl ?_
  intro p e s m args below meth c s₁ B hml htab hv
  obtain ⟨rfl, rfl, C, h⟩ := hp_start B hml hv
  generalize gA G z w s.heap.size = A at C h ⊢
  obtain ⟨hx, hb, hr, hlocks, hml, hown, hts, hK, hA, hE⟩ := id C
  obtain ⟨ho, hp⟩ := hp
  have hl := lv_entry ([.ref o, .int p0, .int p1]) (n := 4) (Nat.le_of_ble_eq_true rfl)
  rw [lg_entry_eq]
  generalize (lg_sl ([.ref o, .int p0, .int p1]) ++ List.replicate (4 - (lg_sl ([.ref o, .int p0, .int p1])).length) Slot.unset).toArray = ls at hl ⊢
  have hl : lv_has ls 4 [(0, .ref o), (1, .int p0), (2, .int p1)] := hl
  refine lv_aload_n hx hb dX9_has_0 rfl (lv_at hl 0 rfl) ?_
  refine lv_iload_n hx hb dX9_has_1 rfl (lv_at hl 1 rfl) ?_
  refine hp_xVr ⟨hx, hb, hml, hown, hts⟩ (k_X9_needFamily l hst G z w _ o p0 _ _ hp) (cwV 1 hts gX9_has_X9_needFamily rfl rfl rfl (by decide +kernel) ⟨Nat.le_of_ble_eq_true rfl, Nat.le_of_ble_eq_true rfl⟩) htab hlocks ho (by decide) rfl hK h hA hE rfl hl.1 rfl (Nat.le_of_ble_eq_true rfl) dX9_has_2 ⟨Nat.le_of_ble_eq_true rfl, Nat.le_of_ble_eq_true rfl⟩ ⟨Nat.le_of_ble_eq_true rfl, Nat.le_of_ble_eq_true rfl⟩ (fun b2 w1 H locs hp h => ?_)
  obtain ⟨hob2, hp⟩ := hp
  refine lv_astore_n (lv' := [(3, .ref b2), (0, .ref o), (1, .int p0), (2, .int p1)]) hx hb dX9_has_5 rfl hl (by decide) rfl (fun ls hl => ?_)
  refine lv_iload_n hx hb dX9_has_6 rfl (lv_at hl 3 rfl) ?_
  by_cases hc3 : p1 = 0
  · refine lv_tableIn (off := 41) (tgt := 48) hx hb dX9_has_7 (by rw [hc3]; decide) (by rw [hc3]; decide) (by rw [hc3]; rfl) (by decide) ?_
    have hp := hp.1 hc3
    refine lv_aload_n hx hb dX9_has_48 rfl (lv_at hl 0 rfl) ?_
    refine hp_getN (ci := 0) (v := .int (vI w1 3 b2)) hx hb hts ix_X9_has_0 hown hK h hob2 (by decide) rfl 3 (by decide) (lk_X9_has_171 hE) (fun _ h9 => h9) rfl dX9_has_49 ?_
    exact hp_xiret hx hb hr rfl hlocks hK h hp dX9_has_52 (Nat.le_of_ble_eq_true rfl) (Nat.le_of_ble_eq_true rfl)
  have hp := hp.2
  by_cases hc4 : p1 = 1
  · refine lv_tableIn (off := 46) (tgt := 53) hx hb dX9_has_7 (by rw [hc4]; decide) (by rw [hc4]; decide) (by rw [hc4]; rfl) (by decide) ?_
    have hp := hp.1 hc4
    refine lv_aload_n hx hb dX9_has_53 rfl (lv_at hl 0 rfl) ?_
    refine hp_getN (ci := 0) (v := .int (vI w1 4 b2)) hx hb hts ix_X9_has_0 hown hK h hob2 (by decide) rfl 4 (by decide) (lk_X9_has_174 hE) (fun _ h9 => h9) rfl dX9_has_54 ?_
    exact hp_xiret hx hb hr rfl hlocks hK h hp dX9_has_57 (Nat.le_of_ble_eq_true rfl) (Nat.le_of_ble_eq_true rfl)
  have hp := hp.2
  by_cases hc5 : p1 = 2
  · refine lv_tableIn (off := 51) (tgt := 58) hx hb dX9_has_7 (by rw [hc5]; decide) (by rw [hc5]; decide) (by rw [hc5]; rfl) (by decide) ?_
    have hp := hp.1 hc5
    refine lv_aload_n hx hb dX9_has_58 rfl (lv_at hl 0 rfl) ?_
    refine hp_getN (ci := 0) (v := .int (vI w1 5 b2)) hx hb hts ix_X9_has_0 hown hK h hob2 (by decide) rfl 5 (by decide) (lk_X9_has_177 hE) (fun _ h9 => h9) rfl dX9_has_59 ?_
    exact hp_xiret hx hb hr rfl hlocks hK h hp dX9_has_62 (Nat.le_of_ble_eq_true rfl) (Nat.le_of_ble_eq_true rfl)
  have hp := hp.2
  by_cases hc6 : p1 = 3
  · refine lv_tableIn (off := 56) (tgt := 63) hx hb dX9_has_7 (by rw [hc6]; decide) (by rw [hc6]; decide) (by rw [hc6]; rfl) (by decide) ?_
    have hp := hp.1 hc6
    refine lv_aload_n hx hb dX9_has_63 rfl (lv_at hl 0 rfl) ?_
    refine hp_cVi ⟨hx, hb, hml, hown, hts⟩ (k_X0_workLeft l G z w1 _ b2 _ hp) (cwV 0 hts gX9_has_X0_workLeft rfl rfl rfl (by decide +kernel) ⟨Nat.le_of_ble_eq_true rfl, Nat.le_of_ble_eq_true rfl⟩) hob2 (by decide) rfl hK h hA hE rfl hl.1 rfl (Nat.le_of_ble_eq_true rfl) dX9_has_64 ⟨Nat.le_of_ble_eq_true rfl, Nat.le_of_ble_eq_true rfl⟩ (fun r8 w7 H locs hp h => ?_)
    exact hp_xiret hx hb hr rfl hlocks hK h hp dX9_has_67 (Nat.le_of_ble_eq_true rfl) (Nat.le_of_ble_eq_true rfl)
  have hp := hp.2
  by_cases hc9 : p1 = 4
  · refine lv_tableIn (off := 61) (tgt := 68) hx hb dX9_has_7 (by rw [hc9]; decide) (by rw [hc9]; decide) (by rw [hc9]; rfl) (by decide) ?_
    have hp := hp.1 hc9
    refine lv_aload_n hx hb dX9_has_68 rfl (lv_at hl 0 rfl) ?_
    refine hp_getN (ci := 0) (v := .int (vI w1 6 b2)) hx hb hts ix_X9_has_0 hown hK h hob2 (by decide) rfl 6 (by decide) (lk_X9_has_184 hE) (fun _ h9 => h9) rfl dX9_has_69 ?_
    exact hp_xiret hx hb hr rfl hlocks hK h hp dX9_has_72 (Nat.le_of_ble_eq_true rfl) (Nat.le_of_ble_eq_true rfl)
  have hp := hp.2
  by_cases hc10 : p1 = 5
  · refine lv_tableIn (off := 66) (tgt := 73) hx hb dX9_has_7 (by rw [hc10]; decide) (by rw [hc10]; decide) (by rw [hc10]; rfl) (by decide) ?_
    have hp := hp.1 hc10
    refine lv_aload_n hx hb dX9_has_73 rfl (lv_at hl 0 rfl) ?_
    refine hp_getN (ci := 0) (v := .int (vI w1 7 b2)) hx hb hts ix_X9_has_0 hown hK h hob2 (by decide) rfl 7 (by decide) (lk_X9_has_187 hE) (fun _ h9 => h9) rfl dX9_has_74 ?_
    exact hp_xiret hx hb hr rfl hlocks hK h hp dX9_has_77 (Nat.le_of_ble_eq_true rfl) (Nat.le_of_ble_eq_true rfl)
  have hp := hp.2
  by_cases hc11 : p1 = 6
  · refine lv_tableIn (off := 71) (tgt := 78) hx hb dX9_has_7 (by rw [hc11]; decide) (by rw [hc11]; decide) (by rw [hc11]; rfl) (by decide) ?_
    have hp := hp.1 hc11
    refine lv_aload_n hx hb dX9_has_78 rfl (lv_at hl 0 rfl) ?_
    refine hp_getN (ci := 0) (v := .int (vI w1 1 b2)) hx hb hts ix_X9_has_0 hown hK h hob2 (by decide) rfl 1 (by decide) (lk_X9_has_141 hE) (fun _ h9 => h9) rfl dX9_has_79 ?_
    exact hp_xiret hx hb hr rfl hlocks hK h hp dX9_has_82 (Nat.le_of_ble_eq_true rfl) (Nat.le_of_ble_eq_true rfl)
  have hp := hp.2
  have thc3 := lv_neT (a := 0) hc3 (by decide)
  have hp := hp hc3
  have thc4 := lv_neT (a := 1) hc4 (by decide)
  have hp := hp hc4
  have thc5 := lv_neT (a := 2) hc5 (by decide)
  have hp := hp hc5
  have thc6 := lv_neT (a := 3) hc6 (by decide)
  have hp := hp hc6
  have thc9 := lv_neT (a := 4) hc9 (by decide)
  have hp := hp hc9
  have thc10 := lv_neT (a := 5) hc10 (by decide)
  have hp := hp hc10
  have thc11 := lv_neT (a := 6) hc11 (by decide)
  have hp := hp hc11
  refine lv_tableOut (tgt := 83) hx hb dX9_has_7 (by omega) (by decide) ?_
  exact hp_throw (text := "nothing of a family has this number") (j := 18) 4 hx hb hst hown xf_4 (hts _ wd_X9_has_cl163) (hts _ wd_X9_has_in163) (List.mem_of_getElem? (i := 18) rfl) (fun w h => hts w (xm_X9_has_167 w h)) xb_X9_167 xg_X9_167 (List.mem_of_getElem? (i := 3) rfl) hE hK h (by rw [hml]; exact hl.1) dX9_has_83 dX9_has_86 dX9_has_87 dX9_has_89 dX9_has_92 htab (Nat.le_of_ble_eq_true rfl) (Nat.le_of_ble_eq_true rfl) (Nat.le_of_ble_eq_true rfl) (Nat.le_of_ble_eq_true rfl) hlocks rfl hp (Nat.le_of_ble_eq_true rfl) (Nat.le_of_ble_eq_true rfl)
abbrev rmX9_owes : Room := { frames := 7, cells := 2, slots := 12, locals := 112 }
def wp_X9_owes (z : Zt) (o : Nat) (p0 : Int32) (p1 : Int32) (p2 : Int32) (w : Vt) (K : Int32 → Vt → Prop) (X : Nat → Vt → Prop) : Prop := isO z 9 o ∧ wp_X9_needFamily z o p0 w (fun b2 w1 => isO z 0 b2 ∧ wp_X9_needShore z o p1 w1 (fun b4 w3 => isO z 6 b4 ∧ wp_X0_owedFor z b2 p1 p2 w3 (fun r6 w5 => K r6 w5)) X) X
set_option maxHeartbeats 4000000 in
set_option maxRecDepth 100000 in
theorem k_X9_owes (l : Launch) (hst : l.stackTraces = false) (G : Gt) (z : Zt) (w : Vt) (sz : Nat) (o : Nat) (p0 : Int32) (p1 : Int32) (p2 : Int32) (K : Int32 → Vt → Prop) (X : Nat → Vt → Prop) (hp : wp_X9_owes z o p0 p1 p2 w K X) : XI l yX9_owes wsX9_owes rmX9_owes G z w sz [.ref o, .int p0, .int p1, .int p2] K X 2 12 := by
  refine vx_ofW (cc := cX9_owes) (maxL := 5) (ret := (some .int)) (by decide +kernel) rfl ?_
  intro p e s m args below meth c s₁ B hml htab hv
  obtain ⟨rfl, rfl, C, h⟩ := hp_start B hml hv
  generalize gA G z w s.heap.size = A at C h ⊢
  obtain ⟨hx, hb, hr, hlocks, hml, hown, hts, hK, hA, hE⟩ := id C
  obtain ⟨ho, hp⟩ := hp
  have hl := lv_entry ([.ref o, .int p0, .int p1, .int p2]) (n := 5) (Nat.le_of_ble_eq_true rfl)
  rw [lg_entry_eq]
  generalize (lg_sl ([.ref o, .int p0, .int p1, .int p2]) ++ List.replicate (5 - (lg_sl ([.ref o, .int p0, .int p1, .int p2])).length) Slot.unset).toArray = ls at hl ⊢
  have hl : lv_has ls 5 [(0, .ref o), (1, .int p0), (2, .int p1), (3, .int p2)] := hl
  refine lv_aload_n hx hb dX9_owes_0 rfl (lv_at hl 0 rfl) ?_
  refine lv_iload_n hx hb dX9_owes_1 rfl (lv_at hl 1 rfl) ?_
  refine hp_xVr ⟨hx, hb, hml, hown, hts⟩ (k_X9_needFamily l hst G z w _ o p0 _ _ hp) (cwV 1 hts gX9_owes_X9_needFamily rfl rfl rfl (by decide +kernel) ⟨Nat.le_of_ble_eq_true rfl, Nat.le_of_ble_eq_true rfl⟩) htab hlocks ho (by decide) rfl hK h hA hE rfl hl.1 rfl (Nat.le_of_ble_eq_true rfl) dX9_owes_2 ⟨Nat.le_of_ble_eq_true rfl, Nat.le_of_ble_eq_true rfl⟩ ⟨Nat.le_of_ble_eq_true rfl, Nat.le_of_ble_eq_true rfl⟩ (fun b2 w1 H locs hp h => ?_)
  obtain ⟨hob2, hp⟩ := hp
  refine lv_astore (lv' := [(4, .ref b2), (0, .ref o), (1, .int p0), (2, .int p1), (3, .int p2)]) hx hb dX9_owes_5 hl (by decide) rfl (fun ls hl => ?_)
  refine lv_aload_n hx hb dX9_owes_7 rfl (lv_at hl 1 rfl) ?_
  refine lv_iload_n hx hb dX9_owes_8 rfl (lv_at hl 3 rfl) ?_
  refine hp_xVr ⟨hx, hb, hml, hown, hts⟩ (k_X9_needShore l hst G z w1 _ o p1 _ _ hp) (cwV 1 hts gX9_owes_X9_needShore rfl rfl rfl (by decide +kernel) ⟨Nat.le_of_ble_eq_true rfl, Nat.le_of_ble_eq_true rfl⟩) htab hlocks ho (by decide) rfl hK h hA hE rfl hl.1 rfl (Nat.le_of_ble_eq_true rfl) dX9_owes_9 ⟨Nat.le_of_ble_eq_true rfl, Nat.le_of_ble_eq_true rfl⟩ ⟨Nat.le_of_ble_eq_true rfl, Nat.le_of_ble_eq_true rfl⟩ (fun b4 w3 H locs hp h => ?_)
  obtain ⟨hob4, hp⟩ := hp
  refine lv_pop hx hb dX9_owes_12 rfl ?_
  refine lv_aload hx hb dX9_owes_13 (lv_at hl 0 rfl) ?_
  refine lv_iload_n hx hb dX9_owes_15 rfl (lv_at hl 3 rfl) ?_
  refine lv_iload_n hx hb dX9_owes_16 rfl (lv_at hl 4 rfl) ?_
  refine hp_cVi ⟨hx, hb, hml, hown, hts⟩ (k_X0_owedFor l G z w3 _ b2 p1 p2 _ hp) (cwV 2 hts gX9_owes_X0_owedFor rfl rfl rfl (by decide +kernel) ⟨Nat.le_of_ble_eq_true rfl, Nat.le_of_ble_eq_true rfl⟩) hob2 (by decide) rfl hK h hA hE rfl hl.1 rfl (Nat.le_of_ble_eq_true rfl) dX9_owes_17 ⟨Nat.le_of_ble_eq_true rfl, Nat.le_of_ble_eq_true rfl⟩ (fun r6 w5 H locs hp h => ?_)
  exact hp_xiret hx hb hr rfl hlocks hK h hp dX9_owes_20 (Nat.le_of_ble_eq_true rfl) (Nat.le_of_ble_eq_true rfl)
abbrev rmX9_day : Room := { frames := 6, cells := 1, slots := 6, locals := 90 }
theorem xm_X9_day_94 : ∀ w ∈ (vx_atS RX9 94 "java/lang/IllegalArgumentException" xNs).filter goodWord, w ∈ wsX9_day := fun _ h => List.mem_cons_of_mem _ (List.mem_append_left _ (List.mem_append_right _ h))
theorem wd_X9_day_cl90 : Cond.classLink RX9 90 "java/lang/IllegalArgumentException" ∈ wsX9_day := by decide +kernel
theorem wd_X9_day_in90 : Cond.initialized "java/lang/IllegalArgumentException" ∈ wsX9_day := by decide +kernel
theorem ix_X9_day_9 : ∀ w ∈ wsX90, w ∈ wsX9_day := by decide +kernel
theorem lk_X9_day_202 : Cond.fieldLink RX9 202 "KelpShores" "today" "I" ∈ wsX9_day := by decide +kernel
theorem lk_X9_day_207 : Cond.fieldLink RX9 207 "KelpShores" "tideToday" "I" ∈ wsX9_day := by decide +kernel
theorem lk_X9_day_38 : Cond.fieldLink RX9 38 "KelpShores" "families" "[LKelpShores$Family;" ∈ wsX9_day := by decide +kernel
theorem ix_X9_day_0 : ∀ w ∈ wsX00, w ∈ wsX9_day := by decide +kernel
theorem lk_X9_day_219 {G : Gt} {A : Nat → Prop} {s : State} {args : Array Value} (hE : gE G A s s.heap) : (Cond.fieldLinkNest RX9 219 "KelpShores$Family" "worked" "I" "KelpShores").before args s = true := by
  have h : va_Nw (Cond.fieldLinkNest RX9 219 "KelpShores$Family" "worked" "I" "KelpShores") s := hE.1 (RX9, 219, "KelpShores$Family", "worked", "I") (List.mem_of_getElem? (i := 8) rfl)
  exact va_Nw.use rfl h
theorem xm_X9_day_113 : ∀ w ∈ (vx_atS RX9 113 "java/lang/UnsupportedOperationException" xNs).filter goodWord, w ∈ wsX9_day := fun _ h => List.mem_cons_of_mem _ (List.mem_append_right _ h)
theorem wd_X9_day_cl109 : Cond.classLink RX9 109 "java/lang/UnsupportedOperationException" ∈ wsX9_day := by decide +kernel
theorem wd_X9_day_in109 : Cond.initialized "java/lang/UnsupportedOperationException" ∈ wsX9_day := by decide +kernel
def wL_X9_day_105 (z : Zt) (b22 : Nat) (o : Nat) (K : Int32 → Vt → Prop) (X : Nat → Vt → Prop) (Kx : Int32 → Int32 → Int32 → Int32 → Int32 → Int32 → Vt → Prop) : Nat → Int32 → Int32 → Int32 → Int32 → Int32 → Int32 → Vt → Prop
  | 0, _, _, _, _, _, _, _ => False
  | n + 1, x7_, x6_, x1_, x2_, x3_, x4_, w => (x6_ ≤ x7_ → Kx x7_ x6_ x1_ x2_ x3_ x4_ w) ∧ (¬ x6_ ≤ x7_ → vp_in x7_ 8 ∧ ∃ b24 : Nat, zO z 1906 b22 (x7_ : Int32).toNatClampNeg = some b24 ∧ isO z 0 b24 ∧ ∀ w25 : Vt, w25 = uI w 2 b24 0 → ∀ x26 : Int32, x26 = x7_ + 1 → wL_X9_day_105 z b22 o K X Kx n x26 x6_ x1_ x2_ x3_ x4_ w25)
set_option maxHeartbeats 4000000 in
set_option maxRecDepth 100000 in
theorem kL_X9_day_105 {p : Program} {l : Launch} {e : Env} {s : State} {m : MethodId} {args : Array Value} {below : List Frame} {meth : Method} {c : Code} {G : Gt} {A : Nat → Prop} {z : Zt} (C : gC p s m args meth c cX9_day 9 RX9 wsX9_day (some .int) G A) (b22 : Nat) (o : Nat) (hob22 : isO z 1906 b22) (ho : isO z 9 o) (K : Int32 → Vt → Prop) (X : Nat → Vt → Prop) (Kx : Int32 → Int32 → Int32 → Int32 → Int32 → Int32 → Vt → Prop) (kKx : ∀ (x7_ x6_ x1_ x2_ x3_ x4_ : Int32) (w : Vt) (H : Heap) (locs : List Loc) (ls : Array Slot), Kx x7_ x6_ x1_ x2_ x3_ x4_ w → hpH G.1 G.2.1 A s.heap z w H locs → lv_has ls 9 [(7, .int x7_), (6, .int x6_), (5, .ref b22), (0, .ref o), (1, .int x1_), (2, .int x2_), (3, .int x3_), (4, .int x4_)] → W p l e (headSpec wsX9_day rmX9_day).room s m args below meth c H locs 0 0 (vx_MQ below (va_Qi K (gB G A z) A) (gX G A z X) args s 1 6 A) (F0 m 131 ls [])) : ∀ (n : Nat) (x7_ x6_ x1_ x2_ x3_ x4_ : Int32) (w : Vt) (H : Heap) (locs : List Loc) (ls : Array Slot), wL_X9_day_105 z b22 o K X Kx n x7_ x6_ x1_ x2_ x3_ x4_ w → hpH G.1 G.2.1 A s.heap z w H locs → lv_has ls 9 [(7, .int x7_), (6, .int x6_), (5, .ref b22), (0, .ref o), (1, .int x1_), (2, .int x2_), (3, .int x3_), (4, .int x4_)] → W p l e (headSpec wsX9_day rmX9_day).room s m args below meth c H locs 0 0 (vx_MQ below (va_Qi K (gB G A z) A) (gX G A z X) args s 1 6 A) (F0 m 105 ls []) := by
  obtain ⟨hx, hb, hr, hlocks, hml, hown, hts, hK, hA, hE⟩ := id C
  intro n
  induction n with
  | zero =>
    intro x7_ x6_ x1_ x2_ x3_ x4_ w H locs ls hp
    exact hp.elim
  | succ n ih =>
    intro x7_ x6_ x1_ x2_ x3_ x4_ w H locs ls hp h hl
    refine lv_iload hx hb dX9_day_105 (lv_at hl 0 rfl) ?_
    refine lv_iload hx hb dX9_day_107 (lv_at hl 1 rfl) ?_
    refine lv_icmp_ge (tgt := 131) hx hb dX9_day_109 (by decide) (fun hc23 => ?_) (fun hc23 => ?_)
    · have hp := hp.1 hc23
      exact kKx x7_ x6_ x1_ x2_ x3_ x4_ w _ _ _ hp h (lv_sub hl [0, 1, 2, 3, 4, 5, 6, 7] rfl)
    · have hp := hp.2 hc23
      refine lv_aload hx hb dX9_day_112 (lv_at hl 2 rfl) ?_
      refine lv_iload hx hb dX9_day_114 (lv_at hl 0 rfl) ?_
      refine hp_aald (t := 1906) (n := 8) hx hb hK h 3 rfl hob22 (by decide) (fun _ _ _ => rfl) hp.1 dX9_day_116 ?_
      have hp := hp.2
      obtain ⟨b24, eb24, hob24, hp⟩ := hp
      rw [eb24]
      show W _ _ _ _ _ _ _ _ _ _ _ _ _ _ _ (F0 _ _ _ (.ref b24 :: _))
      refine lv_astore (lv' := [(8, .ref b24), (7, .int x7_), (6, .int x6_), (5, .ref b22), (0, .ref o), (1, .int x1_), (2, .int x2_), (3, .int x3_), (4, .int x4_)]) hx hb dX9_day_117 hl (by decide) rfl (fun ls hl => ?_)
      refine lv_aload hx hb dX9_day_119 (lv_at hl 0 rfl) ?_
      refine lv_iconst (v := 0) hx hb dX9_day_121 (by decide) ?_
      refine hp_putiN (ci := 0) (ty := .int) (x := 0) hx hb hts ix_X9_day_0 tyX0 tyX0_ok nmX0 hown hK h hob24 (by decide) rfl 2 2 (by decide) (lk_X9_day_219 hE) (fun _ h9 => h9) rfl (by decide +kernel) rfl rfl (fun _ _ => rfl) (fun _ _ => Nat.le_of_ble_eq_true rfl) dX9_day_122 (fun H locs w25 ew25 h => ?_)
      have hp := hp w25 ew25
      obtain ⟨x26, ex26⟩ : ∃ y : Int32, y = x7_ + 1 := ⟨_, rfl⟩
      have hp := hp x26 ex26
      refine lv_iinc (v := x26) (lv' := [(7, .int x26), (8, .ref b24), (6, .int x6_), (5, .ref b22), (0, .ref o), (1, .int x1_), (2, .int x2_), (3, .int x3_), (4, .int x4_)]) hx hb dX9_day_125 hl (k := 1) rfl (by rw [ex26]; rfl) (by decide) rfl (fun ls hl => ?_)
      refine lv_goto (tgt := 105) hx hb dX9_day_128 (by decide) ?_
      exact ih x26 x6_ x1_ x2_ x3_ x4_ w25 _ _ _ hp h (lv_sub hl [0, 2, 3, 4, 5, 6, 7, 8] rfl)
def wp_X9_day (z : Zt) (o : Nat) (p0 : Int32) (p1 : Int32) (p2 : Int32) (p3 : Int32) (w : Vt) (K : Int32 → Vt → Prop) (X : Nat → Vt → Prop) : Prop := isO z 9 o ∧ wp_X9_isWeather z p0 w (fun r2 w1 => (r2 = 0 → X 2 w1) ∧ (¬ r2 = 0 → wp_X9_isWeather z p1 w1 (fun r5 w4 => (r5 = 0 → X 2 w4) ∧ (¬ r5 = 0 → wp_X9_isWeather z p2 w4 (fun r8 w7 => (r8 = 0 → X 2 w7) ∧ (¬ r8 = 0 → wp_X9_isWeather z p3 w7 (fun r11 w10 => (¬ r11 = 0 → ((vI w10 914 o) < 9999 → ∀ w14 : Vt, w14 = uI w10 914 o ((vI w10 914 o) + 1) → ∀ w15 : Vt, w15 = uI w14 915 o p0 → wp_X9_passOverShores z o p3 w15 (fun w16 => wp_X9_passOverFamilies z o p1 p2 w16 (fun w18 => wp_X9_passOverPits z o p2 w18 (fun w20 => ∃ b22 : Nat, zR z 906 o = some b22 ∧ isO z 1906 b22 ∧ ∃ n27 : Nat, wL_X9_day_105 z b22 o K X (fun x28 x29 x30 x31 x32 x33 w34 => K (vI w34 914 o) w34) n27 0 8 p0 p1 p2 p3 w20)))) ∧ (¬ (vI w10 914 o) < 9999 → X 3 w10)) ∧ (r11 = 0 → X 2 w10))))))))
set_option maxHeartbeats 4000000 in
set_option maxRecDepth 100000 in
theorem k_X9_day (l : Launch) (hst : l.stackTraces = false) (G : Gt) (z : Zt) (w : Vt) (sz : Nat) (o : Nat) (p0 : Int32) (p1 : Int32) (p2 : Int32) (p3 : Int32) (K : Int32 → Vt → Prop) (X : Nat → Vt → Prop) (hp : wp_X9_day z o p0 p1 p2 p3 w K X) : XI l yX9_day wsX9_day rmX9_day G z w sz [.ref o, .int p0, .int p1, .int p2, .int p3] K X 1 6 := by
  refine vx_ofW (cc := cX9_day) (maxL := 9) (ret := (some .int)) (by decide +kernel) rfl ?_
  intro p e s m args below meth c s₁ B hml htab hv
  obtain ⟨rfl, rfl, C, h⟩ := hp_start B hml hv
  generalize gA G z w s.heap.size = A at C h ⊢
  obtain ⟨hx, hb, hr, hlocks, hml, hown, hts, hK, hA, hE⟩ := id C
  obtain ⟨ho, hp⟩ := hp
  have hl := lv_entry ([.ref o, .int p0, .int p1, .int p2, .int p3]) (n := 9) (Nat.le_of_ble_eq_true rfl)
  rw [lg_entry_eq]
  generalize (lg_sl ([.ref o, .int p0, .int p1, .int p2, .int p3]) ++ List.replicate (9 - (lg_sl ([.ref o, .int p0, .int p1, .int p2, .int p3])).length) Slot.unset).toArray = ls at hl ⊢
  have hl : lv_has ls 9 [(0, .ref o), (1, .int p0), (2, .int p1), (3, .int p2), (4, .int p3)] := hl
  refine lv_iload_n hx hb dX9_day_0 rfl (lv_at hl 1 rfl) ?_
  refine hp_cSi ⟨hx, hb, hml, hown, hts⟩ (k_X9_isWeather l G z w _ p0 _ hp) (cwS 1 hts gX9_day_X9_isWeather rfl rfl rfl (by decide +kernel) ⟨Nat.le_of_ble_eq_true rfl, Nat.le_of_ble_eq_true rfl⟩) hK h hA hE rfl hl.1 rfl (Nat.le_of_ble_eq_true rfl) dX9_day_1 ⟨Nat.le_of_ble_eq_true rfl, Nat.le_of_ble_eq_true rfl⟩ (fun r2 w1 H locs hp h => ?_)
  refine lv_if_eq (tgt := 29) hx hb dX9_day_4 (by decide) (fun hc3 => ?_) (fun hc3 => ?_)
  · have hp := hp.1 hc3
    exact hp_throw (text := "no such weather") (j := 13) 2 hx hb hst hown xf_2 (hts _ wd_X9_day_cl90) (hts _ wd_X9_day_in90) (List.mem_of_getElem? (i := 13) rfl) (fun w h => hts w (xm_X9_day_94 w h)) xb_X9_94 xg_X9_94 (List.mem_of_getElem? (i := 1) rfl) hE hK h (by rw [hml]; exact hl.1) dX9_day_29 dX9_day_32 dX9_day_33 dX9_day_35 dX9_day_38 htab (Nat.le_of_ble_eq_true rfl) (Nat.le_of_ble_eq_true rfl) (Nat.le_of_ble_eq_true rfl) (Nat.le_of_ble_eq_true rfl) hlocks rfl hp (Nat.le_of_ble_eq_true rfl) (Nat.le_of_ble_eq_true rfl)
  · have hp := hp.2 hc3
    refine lv_iload_n hx hb dX9_day_7 rfl (lv_at hl 2 rfl) ?_
    refine hp_cSi ⟨hx, hb, hml, hown, hts⟩ (k_X9_isWeather l G z w1 _ p1 _ hp) (cwS 1 hts gX9_day_X9_isWeather rfl rfl rfl (by decide +kernel) ⟨Nat.le_of_ble_eq_true rfl, Nat.le_of_ble_eq_true rfl⟩) hK h hA hE rfl hl.1 rfl (Nat.le_of_ble_eq_true rfl) dX9_day_8 ⟨Nat.le_of_ble_eq_true rfl, Nat.le_of_ble_eq_true rfl⟩ (fun r5 w4 H locs hp h => ?_)
    refine lv_if_eq (tgt := 29) hx hb dX9_day_11 (by decide) (fun hc6 => ?_) (fun hc6 => ?_)
    · have hp := hp.1 hc6
      exact hp_throw (text := "no such weather") (j := 13) 2 hx hb hst hown xf_2 (hts _ wd_X9_day_cl90) (hts _ wd_X9_day_in90) (List.mem_of_getElem? (i := 13) rfl) (fun w h => hts w (xm_X9_day_94 w h)) xb_X9_94 xg_X9_94 (List.mem_of_getElem? (i := 1) rfl) hE hK h (by rw [hml]; exact hl.1) dX9_day_29 dX9_day_32 dX9_day_33 dX9_day_35 dX9_day_38 htab (Nat.le_of_ble_eq_true rfl) (Nat.le_of_ble_eq_true rfl) (Nat.le_of_ble_eq_true rfl) (Nat.le_of_ble_eq_true rfl) hlocks rfl hp (Nat.le_of_ble_eq_true rfl) (Nat.le_of_ble_eq_true rfl)
    · have hp := hp.2 hc6
      refine lv_iload_n hx hb dX9_day_14 rfl (lv_at hl 3 rfl) ?_
      refine hp_cSi ⟨hx, hb, hml, hown, hts⟩ (k_X9_isWeather l G z w4 _ p2 _ hp) (cwS 1 hts gX9_day_X9_isWeather rfl rfl rfl (by decide +kernel) ⟨Nat.le_of_ble_eq_true rfl, Nat.le_of_ble_eq_true rfl⟩) hK h hA hE rfl hl.1 rfl (Nat.le_of_ble_eq_true rfl) dX9_day_15 ⟨Nat.le_of_ble_eq_true rfl, Nat.le_of_ble_eq_true rfl⟩ (fun r8 w7 H locs hp h => ?_)
      refine lv_if_eq (tgt := 29) hx hb dX9_day_18 (by decide) (fun hc9 => ?_) (fun hc9 => ?_)
      · have hp := hp.1 hc9
        exact hp_throw (text := "no such weather") (j := 13) 2 hx hb hst hown xf_2 (hts _ wd_X9_day_cl90) (hts _ wd_X9_day_in90) (List.mem_of_getElem? (i := 13) rfl) (fun w h => hts w (xm_X9_day_94 w h)) xb_X9_94 xg_X9_94 (List.mem_of_getElem? (i := 1) rfl) hE hK h (by rw [hml]; exact hl.1) dX9_day_29 dX9_day_32 dX9_day_33 dX9_day_35 dX9_day_38 htab (Nat.le_of_ble_eq_true rfl) (Nat.le_of_ble_eq_true rfl) (Nat.le_of_ble_eq_true rfl) (Nat.le_of_ble_eq_true rfl) hlocks rfl hp (Nat.le_of_ble_eq_true rfl) (Nat.le_of_ble_eq_true rfl)
      · have hp := hp.2 hc9
        refine lv_iload hx hb dX9_day_21 (lv_at hl 4 rfl) ?_
        refine hp_cSi ⟨hx, hb, hml, hown, hts⟩ (k_X9_isWeather l G z w7 _ p3 _ hp) (cwS 1 hts gX9_day_X9_isWeather rfl rfl rfl (by decide +kernel) ⟨Nat.le_of_ble_eq_true rfl, Nat.le_of_ble_eq_true rfl⟩) hK h hA hE rfl hl.1 rfl (Nat.le_of_ble_eq_true rfl) dX9_day_23 ⟨Nat.le_of_ble_eq_true rfl, Nat.le_of_ble_eq_true rfl⟩ (fun r11 w10 H locs hp h => ?_)
        refine lv_if_ne (tgt := 39) hx hb dX9_day_26 (by decide) (fun hc12 => ?_) (fun hc12 => ?_)
        · have hp := hp.1 hc12
          refine lv_aload_n hx hb dX9_day_39 rfl (lv_at hl 0 rfl) ?_
          refine hp_get (ci := 9) (v := .int (vI w10 914 o)) hx hb hts ix_X9_day_9 hown hK h ho (by decide) rfl 14 (by decide) (hts _ lk_X9_day_202) (fun _ h9 => h9) rfl dX9_day_40 ?_
          refine lv_sipush (v := 9999) hx hb dX9_day_43 (by decide) ?_
          refine lv_icmp_lt (tgt := 59) hx hb dX9_day_46 (by decide) (fun hc13 => ?_) (fun hc13 => ?_)
          · have hp := hp.1 hc13
            refine lv_aload_n hx hb dX9_day_59 rfl (lv_at hl 0 rfl) ?_
            refine lv_dup hx hb dX9_day_60 rfl ?_
            refine hp_get (ci := 9) (v := .int (vI w10 914 o)) hx hb hts ix_X9_day_9 hown hK h ho (by decide) rfl 14 (by decide) (hts _ lk_X9_day_202) (fun _ h9 => h9) rfl dX9_day_61 ?_
            refine lv_iconst (v := 1) hx hb dX9_day_64 (by decide) ?_
            refine lv_iadd hx hb dX9_day_65 ?_
            refine hp_puti (ci := 9) (ty := .int) (x := (vI w10 914 o) + 1) hx hb hts ix_X9_day_9 tyX9 tyX9_ok nmX9 hown hK h ho (by decide) rfl 14 914 (by decide) (hts _ lk_X9_day_202) (fun _ h9 => h9) rfl (by decide +kernel) rfl rfl (fun _ _ => rfl) (fun _ _ => Nat.le_of_ble_eq_true rfl) dX9_day_66 (fun H locs w14 ew14 h => ?_)
            have hp := hp w14 ew14
            refine lv_aload_n hx hb dX9_day_69 rfl (lv_at hl 0 rfl) ?_
            refine lv_iload_n hx hb dX9_day_70 rfl (lv_at hl 1 rfl) ?_
            refine hp_puti (ci := 9) (ty := .int) (x := p0) hx hb hts ix_X9_day_9 tyX9 tyX9_ok nmX9 hown hK h ho (by decide) rfl 15 915 (by decide) (hts _ lk_X9_day_207) (fun _ h9 => h9) rfl (by decide +kernel) rfl rfl (fun _ _ => rfl) (fun _ _ => Nat.le_of_ble_eq_true rfl) dX9_day_71 (fun H locs w15 ew15 h => ?_)
            have hp := hp w15 ew15
            refine lv_aload_n hx hb dX9_day_74 rfl (lv_at hl 0 rfl) ?_
            refine lv_iload hx hb dX9_day_75 (lv_at hl 4 rfl) ?_
            refine hp_cVv ⟨hx, hb, hml, hown, hts⟩ (k_X9_passOverShores l G z w15 _ o p3 _ hp) (cwV 1 hts gX9_day_X9_passOverShores rfl rfl rfl (by decide +kernel) ⟨Nat.le_of_ble_eq_true rfl, Nat.le_of_ble_eq_true rfl⟩) ho (by decide) rfl hK h hA hE rfl hl.1 rfl (Nat.le_of_ble_eq_true rfl) dX9_day_77 ⟨Nat.le_of_ble_eq_true rfl, Nat.le_of_ble_eq_true rfl⟩ (fun w16 H locs hp h => ?_)
            refine lv_aload_n hx hb dX9_day_80 rfl (lv_at hl 0 rfl) ?_
            refine lv_iload_n hx hb dX9_day_81 rfl (lv_at hl 2 rfl) ?_
            refine lv_iload_n hx hb dX9_day_82 rfl (lv_at hl 3 rfl) ?_
            refine hp_cVv ⟨hx, hb, hml, hown, hts⟩ (k_X9_passOverFamilies l G z w16 _ o p1 p2 _ hp) (cwV 2 hts gX9_day_X9_passOverFamilies rfl rfl rfl (by decide +kernel) ⟨Nat.le_of_ble_eq_true rfl, Nat.le_of_ble_eq_true rfl⟩) ho (by decide) rfl hK h hA hE rfl hl.1 rfl (Nat.le_of_ble_eq_true rfl) dX9_day_83 ⟨Nat.le_of_ble_eq_true rfl, Nat.le_of_ble_eq_true rfl⟩ (fun w18 H locs hp h => ?_)
            refine lv_aload_n hx hb dX9_day_86 rfl (lv_at hl 0 rfl) ?_
            refine lv_iload_n hx hb dX9_day_87 rfl (lv_at hl 3 rfl) ?_
            refine hp_cVv ⟨hx, hb, hml, hown, hts⟩ (k_X9_passOverPits l G z w18 _ o p2 _ hp) (cwV 1 hts gX9_day_X9_passOverPits rfl rfl rfl (by decide +kernel) ⟨Nat.le_of_ble_eq_true rfl, Nat.le_of_ble_eq_true rfl⟩) ho (by decide) rfl hK h hA hE rfl hl.1 rfl (Nat.le_of_ble_eq_true rfl) dX9_day_88 ⟨Nat.le_of_ble_eq_true rfl, Nat.le_of_ble_eq_true rfl⟩ (fun w20 H locs hp h => ?_)
            refine lv_aload_n hx hb dX9_day_91 rfl (lv_at hl 0 rfl) ?_
            obtain ⟨b22, eb22, hob22, hp⟩ := hp
            refine hp_get (ci := 9) (v := .ref b22) hx hb hts ix_X9_day_9 hown hK h ho (by decide) rfl 6 (by decide) (hts _ lk_X9_day_38) (fun _ h9 => h9) (by show some (va_rf (zR z 906 o)) = some (Value.ref b22); rw [eb22]; rfl) dX9_day_92 ?_
            refine lv_astore (lv' := [(5, .ref b22), (0, .ref o), (1, .int p0), (2, .int p1), (3, .int p2), (4, .int p3)]) hx hb dX9_day_95 hl (by decide) rfl (fun ls hl => ?_)
            refine lv_aload hx hb dX9_day_97 (lv_at hl 0 rfl) ?_
            refine hp_alen (t := 1906) (n := 8) hx hb hK h 3 rfl hob22 (by decide) (fun _ _ _ => ⟨_, rfl, rfl⟩) (v := 8) (by decide) dX9_day_99 ?_
            refine lv_istore (lv' := [(6, .int 8), (5, .ref b22), (0, .ref o), (1, .int p0), (2, .int p1), (3, .int p2), (4, .int p3)]) hx hb dX9_day_100 hl (by decide) rfl (fun ls hl => ?_)
            refine lv_iconst (v := 0) hx hb dX9_day_102 (by decide) ?_
            refine lv_istore (lv' := [(7, .int 0), (6, .int 8), (5, .ref b22), (0, .ref o), (1, .int p0), (2, .int p1), (3, .int p2), (4, .int p3)]) hx hb dX9_day_103 hl (by decide) rfl (fun ls hl => ?_)
            obtain ⟨n27, hp⟩ := hp
            refine kL_X9_day_105 C b22 o hob22 ho _ _ _ (fun x28 x29 x30 x31 x32 x33 w34 H locs ls hp h hl => ?_) n27 0 8 p0 p1 p2 p3 w20 _ _ _ hp h (lv_sub hl [0, 1, 2, 3, 4, 5, 6, 7] rfl)
            refine lv_aload_n hx hb dX9_day_131 rfl (lv_at hl 3 rfl) ?_
            refine hp_get (ci := 9) (v := .int (vI w34 914 o)) hx hb hts ix_X9_day_9 hown hK h ho (by decide) rfl 14 (by decide) (hts _ lk_X9_day_202) (fun _ h9 => h9) rfl dX9_day_132 ?_
            exact hp_xiret hx hb hr rfl hlocks hK h hp dX9_day_135 (Nat.le_of_ble_eq_true rfl) (Nat.le_of_ble_eq_true rfl)
          · have hp := hp.2 hc13
            exact hp_throw (text := "the last day has come") (j := 14) 3 hx hb hst hown xf_3 (hts _ wd_X9_day_cl109) (hts _ wd_X9_day_in109) (List.mem_of_getElem? (i := 14) rfl) (fun w h => hts w (xm_X9_day_113 w h)) xb_X9_113 xg_X9_113 (List.mem_of_getElem? (i := 2) rfl) hE hK h (by rw [hml]; exact hl.1) dX9_day_49 dX9_day_52 dX9_day_53 dX9_day_55 dX9_day_58 htab (Nat.le_of_ble_eq_true rfl) (Nat.le_of_ble_eq_true rfl) (Nat.le_of_ble_eq_true rfl) (Nat.le_of_ble_eq_true rfl) hlocks rfl hp (Nat.le_of_ble_eq_true rfl) (Nat.le_of_ble_eq_true rfl)
        · have hp := hp.2 hc12
          exact hp_throw (text := "no such weather") (j := 13) 2 hx hb hst hown xf_2 (hts _ wd_X9_day_cl90) (hts _ wd_X9_day_in90) (List.mem_of_getElem? (i := 13) rfl) (fun w h => hts w (xm_X9_day_94 w h)) xb_X9_94 xg_X9_94 (List.mem_of_getElem? (i := 1) rfl) hE hK h (by rw [hml]; exact hl.1) dX9_day_29 dX9_day_32 dX9_day_33 dX9_day_35 dX9_day_38 htab (Nat.le_of_ble_eq_true rfl) (Nat.le_of_ble_eq_true rfl) (Nat.le_of_ble_eq_true rfl) (Nat.le_of_ble_eq_true rfl) hlocks rfl hp (Nat.le_of_ble_eq_true rfl) (Nat.le_of_ble_eq_true rfl)
abbrev rmX9_cut : Room := { frames := 7, cells := 4, slots := 24, locals := 112 }
theorem ix_X9_cut_9 : ∀ w ∈ wsX90, w ∈ wsX9_cut := by decide +kernel
theorem lk_X9_cut_19 : Cond.fieldLink RX9 19 "KelpShores" "rights" "LKelpShores$Rights;" ∈ wsX9_cut := by decide +kernel
theorem lk_X9_cut_202 : Cond.fieldLink RX9 202 "KelpShores" "today" "I" ∈ wsX9_cut := by decide +kernel
theorem lk_X9_cut_207 : Cond.fieldLink RX9 207 "KelpShores" "tideToday" "I" ∈ wsX9_cut := by decide +kernel
theorem ix_X9_cut_5 : ∀ w ∈ wsX50, w ∈ wsX9_cut := by decide +kernel
theorem lk_X9_cut_225 {G : Gt} {A : Nat → Prop} {s : State} {args : Array Value} (hE : gE G A s s.heap) : (Cond.fieldLinkNest RX9 225 "KelpShores$Rock" "depth" "I" "KelpShores").before args s = true := by
  have h : va_Nw (Cond.fieldLinkNest RX9 225 "KelpShores$Rock" "depth" "I" "KelpShores") s := hE.1 (RX9, 225, "KelpShores$Rock", "depth", "I") (List.mem_of_getElem? (i := 20) rfl)
  exact va_Nw.use rfl h
theorem ix_X9_cut_4 : ∀ w ∈ wsX40, w ∈ wsX9_cut := by decide +kernel
theorem lk_X9_cut_228 {G : Gt} {A : Nat → Prop} {s : State} {args : Array Value} (hE : gE G A s s.heap) : (Cond.fieldLinkNest RX9 228 "KelpShores$Rights" "rest" "I" "KelpShores").before args s = true := by
  have h : va_Nw (Cond.fieldLinkNest RX9 228 "KelpShores$Rights" "rest" "I" "KelpShores") s := hE.1 (RX9, 228, "KelpShores$Rights", "rest", "I") (List.mem_of_getElem? (i := 4) rfl)
  exact va_Nw.use rfl h
theorem lk_X9_cut_148 {G : Gt} {A : Nat → Prop} {s : State} {args : Array Value} (hE : gE G A s s.heap) : (Cond.fieldLinkNest RX9 148 "KelpShores$Rock" "weed" "I" "KelpShores").before args s = true := by
  have h : va_Nw (Cond.fieldLinkNest RX9 148 "KelpShores$Rock" "weed" "I" "KelpShores") s := hE.1 (RX9, 148, "KelpShores$Rock", "weed", "I") (List.mem_of_getElem? (i := 21) rfl)
  exact va_Nw.use rfl h
def wp_X9_cut (z : Zt) (o : Nat) (p0 : Int32) (p1 : Int32) (p2 : Int32) (p3 : Int32) (w : Vt) (K : Int32 → Vt → Prop) (X : Nat → Vt → Prop) : Prop := isO z 9 o ∧ wp_X9_needShore z o p0 w (fun b2 w1 => isO z 6 b2 ∧ wp_X9_needRock z b2 p1 w1 (fun b4 w3 => isO z 5 b4 ∧ wp_X9_needFamily z o p2 w3 (fun b6 w5 => isO z 0 b6 ∧ wp_X9_needAmount z p3 w5 (fun w7 => ∃ b9 : Nat, zR z 901 o = some b9 ∧ isO z 4 b9 ∧ wp_X4_firstPart z b9 p0 p2 ((vI w7 914 o) - (vI w7 914 o) / 100 * 100) w7 (fun r11 w10 => (¬ r11 = (-1) → ((vI w10 915 o) ≤ (vI w10 500 b4) → wp_X5_mustRest z b4 p2 (vI w10 914 o) (vI w10 406 b9) w10 (fun r15 w14 => (r15 = 0 → wp_X9_againstTaking z p3 (vI w14 502 b4) b6 w14 (fun r18 w17 => (¬ r18 = 0 → K r18 w17) ∧ (r18 = 0 → wp_X5_loseToCutting z b4 p3 p2 (vI w17 914 o) w17 (fun w20 => wp_X9_takeHome z o b6 p0 r11 p3 w20 (fun w22 => K r18 w22))))) ∧ (¬ r15 = 0 → K 3 w14))) ∧ (¬ (vI w10 915 o) ≤ (vI w10 500 b4) → K 2 w10)) ∧ (r11 = (-1) → K 1 w10))) X) X) X) X
set_option maxHeartbeats 4000000 in
set_option maxRecDepth 100000 in
theorem k_X9_cut (l : Launch) (hst : l.stackTraces = false) (G : Gt) (z : Zt) (w : Vt) (sz : Nat) (o : Nat) (p0 : Int32) (p1 : Int32) (p2 : Int32) (p3 : Int32) (K : Int32 → Vt → Prop) (X : Nat → Vt → Prop) (hp : wp_X9_cut z o p0 p1 p2 p3 w K X) : XI l yX9_cut wsX9_cut rmX9_cut G z w sz [.ref o, .int p0, .int p1, .int p2, .int p3] K X 4 24 := by
  refine vx_ofW (cc := cX9_cut) (maxL := 9) (ret := (some .int)) (by decide +kernel) rfl ?_
  intro p e s m args below meth c s₁ B hml htab hv
  obtain ⟨rfl, rfl, C, h⟩ := hp_start B hml hv
  generalize gA G z w s.heap.size = A at C h ⊢
  obtain ⟨hx, hb, hr, hlocks, hml, hown, hts, hK, hA, hE⟩ := id C
  obtain ⟨ho, hp⟩ := hp
  have hl := lv_entry ([.ref o, .int p0, .int p1, .int p2, .int p3]) (n := 9) (Nat.le_of_ble_eq_true rfl)
  rw [lg_entry_eq]
  generalize (lg_sl ([.ref o, .int p0, .int p1, .int p2, .int p3]) ++ List.replicate (9 - (lg_sl ([.ref o, .int p0, .int p1, .int p2, .int p3])).length) Slot.unset).toArray = ls at hl ⊢
  have hl : lv_has ls 9 [(0, .ref o), (1, .int p0), (2, .int p1), (3, .int p2), (4, .int p3)] := hl
  refine lv_aload_n hx hb dX9_cut_0 rfl (lv_at hl 0 rfl) ?_
  refine lv_iload_n hx hb dX9_cut_1 rfl (lv_at hl 1 rfl) ?_
  refine hp_xVr ⟨hx, hb, hml, hown, hts⟩ (k_X9_needShore l hst G z w _ o p0 _ _ hp) (cwV 1 hts gX9_cut_X9_needShore rfl rfl rfl (by decide +kernel) ⟨Nat.le_of_ble_eq_true rfl, Nat.le_of_ble_eq_true rfl⟩) htab hlocks ho (by decide) rfl hK h hA hE rfl hl.1 rfl (Nat.le_of_ble_eq_true rfl) dX9_cut_2 ⟨Nat.le_of_ble_eq_true rfl, Nat.le_of_ble_eq_true rfl⟩ ⟨Nat.le_of_ble_eq_true rfl, Nat.le_of_ble_eq_true rfl⟩ (fun b2 w1 H locs hp h => ?_)
  obtain ⟨hob2, hp⟩ := hp
  refine lv_iload_n hx hb dX9_cut_5 rfl (lv_at hl 2 rfl) ?_
  refine hp_xSr ⟨hx, hb, hml, hown, hts⟩ (k_X9_needRock l hst G z w1 _ b2 p1 _ _ hp) (cwS 2 hts gX9_cut_X9_needRock rfl rfl rfl (by decide +kernel) ⟨Nat.le_of_ble_eq_true rfl, Nat.le_of_ble_eq_true rfl⟩) htab hlocks hK h hA hE rfl hl.1 rfl (Nat.le_of_ble_eq_true rfl) dX9_cut_6 ⟨Nat.le_of_ble_eq_true rfl, Nat.le_of_ble_eq_true rfl⟩ ⟨Nat.le_of_ble_eq_true rfl, Nat.le_of_ble_eq_true rfl⟩ (fun b4 w3 H locs hp h => ?_)
  obtain ⟨hob4, hp⟩ := hp
  refine lv_astore (lv' := [(5, .ref b4), (0, .ref o), (1, .int p0), (2, .int p1), (3, .int p2), (4, .int p3)]) hx hb dX9_cut_9 hl (by decide) rfl (fun ls hl => ?_)
  refine lv_aload_n hx hb dX9_cut_11 rfl (lv_at hl 1 rfl) ?_
  refine lv_iload_n hx hb dX9_cut_12 rfl (lv_at hl 4 rfl) ?_
  refine hp_xVr ⟨hx, hb, hml, hown, hts⟩ (k_X9_needFamily l hst G z w3 _ o p2 _ _ hp) (cwV 1 hts gX9_cut_X9_needFamily rfl rfl rfl (by decide +kernel) ⟨Nat.le_of_ble_eq_true rfl, Nat.le_of_ble_eq_true rfl⟩) htab hlocks ho (by decide) rfl hK h hA hE rfl hl.1 rfl (Nat.le_of_ble_eq_true rfl) dX9_cut_13 ⟨Nat.le_of_ble_eq_true rfl, Nat.le_of_ble_eq_true rfl⟩ ⟨Nat.le_of_ble_eq_true rfl, Nat.le_of_ble_eq_true rfl⟩ (fun b6 w5 H locs hp h => ?_)
  obtain ⟨hob6, hp⟩ := hp
  refine lv_astore (lv' := [(6, .ref b6), (5, .ref b4), (0, .ref o), (1, .int p0), (2, .int p1), (3, .int p2), (4, .int p3)]) hx hb dX9_cut_16 hl (by decide) rfl (fun ls hl => ?_)
  refine lv_iload hx hb dX9_cut_18 (lv_at hl 6 rfl) ?_
  refine hp_xSv ⟨hx, hb, hml, hown, hts⟩ (k_X9_needAmount l hst G z w5 _ p3 _ _ hp) (cwS 1 hts gX9_cut_X9_needAmount rfl rfl rfl (by decide +kernel) ⟨Nat.le_of_ble_eq_true rfl, Nat.le_of_ble_eq_true rfl⟩) htab hlocks hK h hA hE rfl hl.1 rfl (Nat.le_of_ble_eq_true rfl) dX9_cut_20 ⟨Nat.le_of_ble_eq_true rfl, Nat.le_of_ble_eq_true rfl⟩ ⟨Nat.le_of_ble_eq_true rfl, Nat.le_of_ble_eq_true rfl⟩ (fun w7 H locs hp h => ?_)
  refine lv_aload_n hx hb dX9_cut_23 rfl (lv_at hl 2 rfl) ?_
  obtain ⟨b9, eb9, hob9, hp⟩ := hp
  refine hp_get (ci := 9) (v := .ref b9) hx hb hts ix_X9_cut_9 hown hK h ho (by decide) rfl 1 (by decide) (hts _ lk_X9_cut_19) (fun _ h9 => h9) (by show some (va_rf (zR z 901 o)) = some (Value.ref b9); rw [eb9]; rfl) dX9_cut_24 ?_
  refine lv_iload_n hx hb dX9_cut_27 rfl (lv_at hl 3 rfl) ?_
  refine lv_iload_n hx hb dX9_cut_28 rfl (lv_at hl 5 rfl) ?_
  refine lv_aload_n hx hb dX9_cut_29 rfl (lv_at hl 2 rfl) ?_
  refine hp_get (ci := 9) (v := .int (vI w7 914 o)) hx hb hts ix_X9_cut_9 hown hK h ho (by decide) rfl 14 (by decide) (hts _ lk_X9_cut_202) (fun _ h9 => h9) rfl dX9_cut_30 ?_
  refine lv_bipush (v := 100) hx hb dX9_cut_33 (by decide) ?_
  refine lv_irem hx hb dX9_cut_35 (by decide) ?_
  refine hp_cVi ⟨hx, hb, hml, hown, hts⟩ (k_X4_firstPart l G z w7 _ b9 p0 p2 ((vI w7 914 o) - (vI w7 914 o) / 100 * 100) _ hp) (cwV 3 hts gX9_cut_X4_firstPart rfl rfl rfl (by decide +kernel) ⟨Nat.le_of_ble_eq_true rfl, Nat.le_of_ble_eq_true rfl⟩) hob9 (by decide) rfl hK h hA hE rfl hl.1 rfl (Nat.le_of_ble_eq_true rfl) dX9_cut_36 ⟨Nat.le_of_ble_eq_true rfl, Nat.le_of_ble_eq_true rfl⟩ (fun r11 w10 H locs hp h => ?_)
  refine lv_istore (lv' := [(7, .int r11), (6, .ref b6), (5, .ref b4), (0, .ref o), (1, .int p0), (2, .int p1), (3, .int p2), (4, .int p3)]) hx hb dX9_cut_39 hl (by decide) rfl (fun ls hl => ?_)
  refine lv_iload hx hb dX9_cut_41 (lv_at hl 0 rfl) ?_
  refine lv_iconst (v := (-1)) hx hb dX9_cut_43 (by decide) ?_
  refine lv_icmp_ne (tgt := 49) hx hb dX9_cut_44 (by decide) (fun hc12 => ?_) (fun hc12 => ?_)
  · have hp := hp.1 hc12
    refine lv_aload_n hx hb dX9_cut_49 rfl (lv_at hl 3 rfl) ?_
    refine hp_get (ci := 9) (v := .int (vI w10 915 o)) hx hb hts ix_X9_cut_9 hown hK h ho (by decide) rfl 15 (by decide) (hts _ lk_X9_cut_207) (fun _ h9 => h9) rfl dX9_cut_50 ?_
    refine lv_aload hx hb dX9_cut_53 (lv_at hl 2 rfl) ?_
    refine hp_getN (ci := 5) (v := .int (vI w10 500 b4)) hx hb hts ix_X9_cut_5 hown hK h hob4 (by decide) rfl 0 (by decide) (lk_X9_cut_225 hE) (fun _ h9 => h9) rfl dX9_cut_55 ?_
    refine lv_icmp_le (tgt := 63) hx hb dX9_cut_58 (by decide) (fun hc13 => ?_) (fun hc13 => ?_)
    · have hp := hp.1 hc13
      refine lv_aload hx hb dX9_cut_63 (lv_at hl 2 rfl) ?_
      refine lv_iload_n hx hb dX9_cut_65 rfl (lv_at hl 6 rfl) ?_
      refine lv_aload_n hx hb dX9_cut_66 rfl (lv_at hl 3 rfl) ?_
      refine hp_get (ci := 9) (v := .int (vI w10 914 o)) hx hb hts ix_X9_cut_9 hown hK h ho (by decide) rfl 14 (by decide) (hts _ lk_X9_cut_202) (fun _ h9 => h9) rfl dX9_cut_67 ?_
      refine lv_aload_n hx hb dX9_cut_70 rfl (lv_at hl 3 rfl) ?_
      refine hp_get (ci := 9) (v := .ref b9) hx hb hts ix_X9_cut_9 hown hK h ho (by decide) rfl 1 (by decide) (hts _ lk_X9_cut_19) (fun _ h9 => h9) (by show some (va_rf (zR z 901 o)) = some (Value.ref b9); rw [eb9]; rfl) dX9_cut_71 ?_
      refine hp_getN (ci := 4) (v := .int (vI w10 406 b9)) hx hb hts ix_X9_cut_4 hown hK h hob9 (by decide) rfl 6 (by decide) (lk_X9_cut_228 hE) (fun _ h9 => h9) rfl dX9_cut_74 ?_
      refine hp_cVi ⟨hx, hb, hml, hown, hts⟩ (k_X5_mustRest l G z w10 _ b4 p2 (vI w10 914 o) (vI w10 406 b9) _ hp) (cwV 3 hts gX9_cut_X5_mustRest rfl rfl rfl (by decide +kernel) ⟨Nat.le_of_ble_eq_true rfl, Nat.le_of_ble_eq_true rfl⟩) hob4 (by decide) rfl hK h hA hE rfl hl.1 rfl (Nat.le_of_ble_eq_true rfl) dX9_cut_77 ⟨Nat.le_of_ble_eq_true rfl, Nat.le_of_ble_eq_true rfl⟩ (fun r15 w14 H locs hp h => ?_)
      refine lv_if_eq (tgt := 85) hx hb dX9_cut_80 (by decide) (fun hc16 => ?_) (fun hc16 => ?_)
      · have hp := hp.1 hc16
        refine lv_iload hx hb dX9_cut_85 (lv_at hl 7 rfl) ?_
        refine lv_aload hx hb dX9_cut_87 (lv_at hl 2 rfl) ?_
        refine hp_getN (ci := 5) (v := .int (vI w14 502 b4)) hx hb hts ix_X9_cut_5 hown hK h hob4 (by decide) rfl 2 (by decide) (lk_X9_cut_148 hE) (fun _ h9 => h9) rfl dX9_cut_89 ?_
        refine lv_aload hx hb dX9_cut_92 (lv_at hl 1 rfl) ?_
        refine hp_cSi ⟨hx, hb, hml, hown, hts⟩ (k_X9_againstTaking l G z w14 _ p3 (vI w14 502 b4) b6 _ hp) (cwS 3 hts gX9_cut_X9_againstTaking rfl rfl rfl (by decide +kernel) ⟨Nat.le_of_ble_eq_true rfl, Nat.le_of_ble_eq_true rfl⟩) hK h hA hE rfl hl.1 rfl (Nat.le_of_ble_eq_true rfl) dX9_cut_94 ⟨Nat.le_of_ble_eq_true rfl, Nat.le_of_ble_eq_true rfl⟩ (fun r18 w17 H locs hp h => ?_)
        refine lv_istore (lv' := [(8, .int r18), (7, .int r11), (6, .ref b6), (5, .ref b4), (0, .ref o), (1, .int p0), (2, .int p1), (3, .int p2), (4, .int p3)]) hx hb dX9_cut_97 hl (by decide) rfl (fun ls hl => ?_)
        refine lv_iload hx hb dX9_cut_99 (lv_at hl 0 rfl) ?_
        refine lv_if_ne (tgt := 127) hx hb dX9_cut_101 (by decide) (fun hc19 => ?_) (fun hc19 => ?_)
        · have hp := hp.1 hc19
          refine lv_iload hx hb dX9_cut_127 (lv_at hl 0 rfl) ?_
          exact hp_xiret hx hb hr rfl hlocks hK h hp dX9_cut_129 (Nat.le_of_ble_eq_true rfl) (Nat.le_of_ble_eq_true rfl)
        · have hp := hp.2 hc19
          refine lv_aload hx hb dX9_cut_104 (lv_at hl 3 rfl) ?_
          refine lv_iload hx hb dX9_cut_106 (lv_at hl 8 rfl) ?_
          refine lv_iload_n hx hb dX9_cut_108 rfl (lv_at hl 7 rfl) ?_
          refine lv_aload_n hx hb dX9_cut_109 rfl (lv_at hl 4 rfl) ?_
          refine hp_get (ci := 9) (v := .int (vI w17 914 o)) hx hb hts ix_X9_cut_9 hown hK h ho (by decide) rfl 14 (by decide) (hts _ lk_X9_cut_202) (fun _ h9 => h9) rfl dX9_cut_110 ?_
          refine hp_cVv ⟨hx, hb, hml, hown, hts⟩ (k_X5_loseToCutting l G z w17 _ b4 p3 p2 (vI w17 914 o) _ hp) (cwV 3 hts gX9_cut_X5_loseToCutting rfl rfl rfl (by decide +kernel) ⟨Nat.le_of_ble_eq_true rfl, Nat.le_of_ble_eq_true rfl⟩) hob4 (by decide) rfl hK h hA hE rfl hl.1 rfl (Nat.le_of_ble_eq_true rfl) dX9_cut_113 ⟨Nat.le_of_ble_eq_true rfl, Nat.le_of_ble_eq_true rfl⟩ (fun w20 H locs hp h => ?_)
          refine lv_aload_n hx hb dX9_cut_116 rfl (lv_at hl 4 rfl) ?_
          refine lv_aload hx hb dX9_cut_117 (lv_at hl 2 rfl) ?_
          refine lv_iload_n hx hb dX9_cut_119 rfl (lv_at hl 5 rfl) ?_
          refine lv_iload hx hb dX9_cut_120 (lv_at hl 1 rfl) ?_
          refine lv_iload hx hb dX9_cut_122 (lv_at hl 8 rfl) ?_
          refine hp_cVv ⟨hx, hb, hml, hown, hts⟩ (k_X9_takeHome l G z w20 _ o b6 p0 r11 p3 _ hp) (cwV 4 hts gX9_cut_X9_takeHome rfl rfl rfl (by decide +kernel) ⟨Nat.le_of_ble_eq_true rfl, Nat.le_of_ble_eq_true rfl⟩) ho (by decide) rfl hK h hA hE rfl hl.1 rfl (Nat.le_of_ble_eq_true rfl) dX9_cut_124 ⟨Nat.le_of_ble_eq_true rfl, Nat.le_of_ble_eq_true rfl⟩ (fun w22 H locs hp h => ?_)
          refine lv_iload hx hb dX9_cut_127 (lv_at hl 0 rfl) ?_
          exact hp_xiret hx hb hr rfl hlocks hK h hp dX9_cut_129 (Nat.le_of_ble_eq_true rfl) (Nat.le_of_ble_eq_true rfl)
      · have hp := hp.2 hc16
        refine lv_iconst (v := 3) hx hb dX9_cut_83 (by decide) ?_
        exact hp_xiret hx hb hr rfl hlocks hK h hp dX9_cut_84 (Nat.le_of_ble_eq_true rfl) (Nat.le_of_ble_eq_true rfl)
    · have hp := hp.2 hc13
      refine lv_iconst (v := 2) hx hb dX9_cut_61 (by decide) ?_
      exact hp_xiret hx hb hr rfl hlocks hK h hp dX9_cut_62 (Nat.le_of_ble_eq_true rfl) (Nat.le_of_ble_eq_true rfl)
  · have hp := hp.2 hc12
    refine lv_iconst (v := 1) hx hb dX9_cut_47 (by decide) ?_
    exact hp_xiret hx hb hr rfl hlocks hK h hp dX9_cut_48 (Nat.le_of_ble_eq_true rfl) (Nat.le_of_ble_eq_true rfl)
abbrev rmX9_gather : Room := { frames := 7, cells := 3, slots := 18, locals := 112 }
theorem ix_X9_gather_9 : ∀ w ∈ wsX90, w ∈ wsX9_gather := by decide +kernel
theorem lk_X9_gather_19 : Cond.fieldLink RX9 19 "KelpShores" "rights" "LKelpShores$Rights;" ∈ wsX9_gather := by decide +kernel
theorem lk_X9_gather_202 : Cond.fieldLink RX9 202 "KelpShores" "today" "I" ∈ wsX9_gather := by decide +kernel
theorem ix_X9_gather_6 : ∀ w ∈ wsX60, w ∈ wsX9_gather := by decide +kernel
theorem lk_X9_gather_168 {G : Gt} {A : Nat → Prop} {s : State} {args : Array Value} (hE : gE G A s s.heap) : (Cond.fieldLinkNest RX9 168 "KelpShores$Shore" "castWeed" "I" "KelpShores").before args s = true := by
  have h : va_Nw (Cond.fieldLinkNest RX9 168 "KelpShores$Shore" "castWeed" "I" "KelpShores") s := hE.1 (RX9, 168, "KelpShores$Shore", "castWeed", "I") (List.mem_of_getElem? (i := 19) rfl)
  exact va_Nw.use rfl h
def wp_X9_gather (z : Zt) (o : Nat) (p0 : Int32) (p1 : Int32) (p2 : Int32) (w : Vt) (K : Int32 → Vt → Prop) (X : Nat → Vt → Prop) : Prop := isO z 9 o ∧ wp_X9_needShore z o p0 w (fun b2 w1 => isO z 6 b2 ∧ wp_X9_needFamily z o p1 w1 (fun b4 w3 => isO z 0 b4 ∧ wp_X9_needAmount z p2 w3 (fun w5 => ∃ b7 : Nat, zR z 901 o = some b7 ∧ isO z 4 b7 ∧ wp_X4_firstPart z b7 p0 p1 ((vI w5 914 o) - (vI w5 914 o) / 100 * 100) w5 (fun r9 w8 => (¬ r9 = (-1) → wp_X9_againstTaking z p2 (vI w8 602 b2) b4 w8 (fun r12 w11 => (¬ r12 = 0 → K r12 w11) ∧ (r12 = 0 → ∀ w14 : Vt, w14 = uI w11 602 b2 ((vI w11 602 b2) - p2) → wp_X9_takeHome z o b4 p0 r9 p2 w14 (fun w15 => K r12 w15)))) ∧ (r9 = (-1) → K 1 w8))) X) X) X
set_option maxHeartbeats 4000000 in
set_option maxRecDepth 100000 in
theorem k_X9_gather (l : Launch) (hst : l.stackTraces = false) (G : Gt) (z : Zt) (w : Vt) (sz : Nat) (o : Nat) (p0 : Int32) (p1 : Int32) (p2 : Int32) (K : Int32 → Vt → Prop) (X : Nat → Vt → Prop) (hp : wp_X9_gather z o p0 p1 p2 w K X) : XI l yX9_gather wsX9_gather rmX9_gather G z w sz [.ref o, .int p0, .int p1, .int p2] K X 3 18 := by
  refine vx_ofW (cc := cX9_gather) (maxL := 8) (ret := (some .int)) (by decide +kernel) rfl ?_
  intro p e s m args below meth c s₁ B hml htab hv
  obtain ⟨rfl, rfl, C, h⟩ := hp_start B hml hv
  generalize gA G z w s.heap.size = A at C h ⊢
  obtain ⟨hx, hb, hr, hlocks, hml, hown, hts, hK, hA, hE⟩ := id C
  obtain ⟨ho, hp⟩ := hp
  have hl := lv_entry ([.ref o, .int p0, .int p1, .int p2]) (n := 8) (Nat.le_of_ble_eq_true rfl)
  rw [lg_entry_eq]
  generalize (lg_sl ([.ref o, .int p0, .int p1, .int p2]) ++ List.replicate (8 - (lg_sl ([.ref o, .int p0, .int p1, .int p2])).length) Slot.unset).toArray = ls at hl ⊢
  have hl : lv_has ls 8 [(0, .ref o), (1, .int p0), (2, .int p1), (3, .int p2)] := hl
  refine lv_aload_n hx hb dX9_gather_0 rfl (lv_at hl 0 rfl) ?_
  refine lv_iload_n hx hb dX9_gather_1 rfl (lv_at hl 1 rfl) ?_
  refine hp_xVr ⟨hx, hb, hml, hown, hts⟩ (k_X9_needShore l hst G z w _ o p0 _ _ hp) (cwV 1 hts gX9_gather_X9_needShore rfl rfl rfl (by decide +kernel) ⟨Nat.le_of_ble_eq_true rfl, Nat.le_of_ble_eq_true rfl⟩) htab hlocks ho (by decide) rfl hK h hA hE rfl hl.1 rfl (Nat.le_of_ble_eq_true rfl) dX9_gather_2 ⟨Nat.le_of_ble_eq_true rfl, Nat.le_of_ble_eq_true rfl⟩ ⟨Nat.le_of_ble_eq_true rfl, Nat.le_of_ble_eq_true rfl⟩ (fun b2 w1 H locs hp h => ?_)
  obtain ⟨hob2, hp⟩ := hp
  refine lv_astore (lv' := [(4, .ref b2), (0, .ref o), (1, .int p0), (2, .int p1), (3, .int p2)]) hx hb dX9_gather_5 hl (by decide) rfl (fun ls hl => ?_)
  refine lv_aload_n hx hb dX9_gather_7 rfl (lv_at hl 1 rfl) ?_
  refine lv_iload_n hx hb dX9_gather_8 rfl (lv_at hl 3 rfl) ?_
  refine hp_xVr ⟨hx, hb, hml, hown, hts⟩ (k_X9_needFamily l hst G z w1 _ o p1 _ _ hp) (cwV 1 hts gX9_gather_X9_needFamily rfl rfl rfl (by decide +kernel) ⟨Nat.le_of_ble_eq_true rfl, Nat.le_of_ble_eq_true rfl⟩) htab hlocks ho (by decide) rfl hK h hA hE rfl hl.1 rfl (Nat.le_of_ble_eq_true rfl) dX9_gather_9 ⟨Nat.le_of_ble_eq_true rfl, Nat.le_of_ble_eq_true rfl⟩ ⟨Nat.le_of_ble_eq_true rfl, Nat.le_of_ble_eq_true rfl⟩ (fun b4 w3 H locs hp h => ?_)
  obtain ⟨hob4, hp⟩ := hp
  refine lv_astore (lv' := [(5, .ref b4), (4, .ref b2), (0, .ref o), (1, .int p0), (2, .int p1), (3, .int p2)]) hx hb dX9_gather_12 hl (by decide) rfl (fun ls hl => ?_)
  refine lv_iload_n hx hb dX9_gather_14 rfl (lv_at hl 5 rfl) ?_
  refine hp_xSv ⟨hx, hb, hml, hown, hts⟩ (k_X9_needAmount l hst G z w3 _ p2 _ _ hp) (cwS 1 hts gX9_gather_X9_needAmount rfl rfl rfl (by decide +kernel) ⟨Nat.le_of_ble_eq_true rfl, Nat.le_of_ble_eq_true rfl⟩) htab hlocks hK h hA hE rfl hl.1 rfl (Nat.le_of_ble_eq_true rfl) dX9_gather_15 ⟨Nat.le_of_ble_eq_true rfl, Nat.le_of_ble_eq_true rfl⟩ ⟨Nat.le_of_ble_eq_true rfl, Nat.le_of_ble_eq_true rfl⟩ (fun w5 H locs hp h => ?_)
  refine lv_aload_n hx hb dX9_gather_18 rfl (lv_at hl 2 rfl) ?_
  obtain ⟨b7, eb7, hob7, hp⟩ := hp
  refine hp_get (ci := 9) (v := .ref b7) hx hb hts ix_X9_gather_9 hown hK h ho (by decide) rfl 1 (by decide) (hts _ lk_X9_gather_19) (fun _ h9 => h9) (by show some (va_rf (zR z 901 o)) = some (Value.ref b7); rw [eb7]; rfl) dX9_gather_19 ?_
  refine lv_iload_n hx hb dX9_gather_22 rfl (lv_at hl 3 rfl) ?_
  refine lv_iload_n hx hb dX9_gather_23 rfl (lv_at hl 4 rfl) ?_
  refine lv_aload_n hx hb dX9_gather_24 rfl (lv_at hl 2 rfl) ?_
  refine hp_get (ci := 9) (v := .int (vI w5 914 o)) hx hb hts ix_X9_gather_9 hown hK h ho (by decide) rfl 14 (by decide) (hts _ lk_X9_gather_202) (fun _ h9 => h9) rfl dX9_gather_25 ?_
  refine lv_bipush (v := 100) hx hb dX9_gather_28 (by decide) ?_
  refine lv_irem hx hb dX9_gather_30 (by decide) ?_
  refine hp_cVi ⟨hx, hb, hml, hown, hts⟩ (k_X4_firstPart l G z w5 _ b7 p0 p1 ((vI w5 914 o) - (vI w5 914 o) / 100 * 100) _ hp) (cwV 3 hts gX9_gather_X4_firstPart rfl rfl rfl (by decide +kernel) ⟨Nat.le_of_ble_eq_true rfl, Nat.le_of_ble_eq_true rfl⟩) hob7 (by decide) rfl hK h hA hE rfl hl.1 rfl (Nat.le_of_ble_eq_true rfl) dX9_gather_31 ⟨Nat.le_of_ble_eq_true rfl, Nat.le_of_ble_eq_true rfl⟩ (fun r9 w8 H locs hp h => ?_)
  refine lv_istore (lv' := [(6, .int r9), (5, .ref b4), (4, .ref b2), (0, .ref o), (1, .int p0), (2, .int p1), (3, .int p2)]) hx hb dX9_gather_34 hl (by decide) rfl (fun ls hl => ?_)
  refine lv_iload hx hb dX9_gather_36 (lv_at hl 0 rfl) ?_
  refine lv_iconst (v := (-1)) hx hb dX9_gather_38 (by decide) ?_
  refine lv_icmp_ne (tgt := 44) hx hb dX9_gather_39 (by decide) (fun hc10 => ?_) (fun hc10 => ?_)
  · have hp := hp.1 hc10
    refine lv_iload_n hx hb dX9_gather_44 rfl (lv_at hl 6 rfl) ?_
    refine lv_aload hx hb dX9_gather_45 (lv_at hl 2 rfl) ?_
    refine hp_getN (ci := 6) (v := .int (vI w8 602 b2)) hx hb hts ix_X9_gather_6 hown hK h hob2 (by decide) rfl 2 (by decide) (lk_X9_gather_168 hE) (fun _ h9 => h9) rfl dX9_gather_47 ?_
    refine lv_aload hx hb dX9_gather_50 (lv_at hl 1 rfl) ?_
    refine hp_cSi ⟨hx, hb, hml, hown, hts⟩ (k_X9_againstTaking l G z w8 _ p2 (vI w8 602 b2) b4 _ hp) (cwS 3 hts gX9_gather_X9_againstTaking rfl rfl rfl (by decide +kernel) ⟨Nat.le_of_ble_eq_true rfl, Nat.le_of_ble_eq_true rfl⟩) hK h hA hE rfl hl.1 rfl (Nat.le_of_ble_eq_true rfl) dX9_gather_52 ⟨Nat.le_of_ble_eq_true rfl, Nat.le_of_ble_eq_true rfl⟩ (fun r12 w11 H locs hp h => ?_)
    refine lv_istore (lv' := [(7, .int r12), (6, .int r9), (5, .ref b4), (4, .ref b2), (0, .ref o), (1, .int p0), (2, .int p1), (3, .int p2)]) hx hb dX9_gather_55 hl (by decide) rfl (fun ls hl => ?_)
    refine lv_iload hx hb dX9_gather_57 (lv_at hl 0 rfl) ?_
    refine lv_if_ne (tgt := 83) hx hb dX9_gather_59 (by decide) (fun hc13 => ?_) (fun hc13 => ?_)
    · have hp := hp.1 hc13
      refine lv_iload hx hb dX9_gather_83 (lv_at hl 0 rfl) ?_
      exact hp_xiret hx hb hr rfl hlocks hK h hp dX9_gather_85 (Nat.le_of_ble_eq_true rfl) (Nat.le_of_ble_eq_true rfl)
    · have hp := hp.2 hc13
      refine lv_aload hx hb dX9_gather_62 (lv_at hl 3 rfl) ?_
      refine lv_dup hx hb dX9_gather_64 rfl ?_
      refine hp_getN (ci := 6) (v := .int (vI w11 602 b2)) hx hb hts ix_X9_gather_6 hown hK h hob2 (by decide) rfl 2 (by decide) (lk_X9_gather_168 hE) (fun _ h9 => h9) rfl dX9_gather_65 ?_
      refine lv_iload_n hx hb dX9_gather_68 rfl (lv_at hl 7 rfl) ?_
      refine lv_isub hx hb dX9_gather_69 ?_
      refine hp_putiN (ci := 6) (ty := .int) (x := (vI w11 602 b2) - p2) hx hb hts ix_X9_gather_6 tyX6 tyX6_ok nmX6 hown hK h hob2 (by decide) rfl 2 602 (by decide) (lk_X9_gather_168 hE) (fun _ h9 => h9) rfl (by decide +kernel) rfl rfl (fun _ _ => rfl) (fun _ _ => Nat.le_of_ble_eq_true rfl) dX9_gather_70 (fun H locs w14 ew14 h => ?_)
      have hp := hp w14 ew14
      refine lv_aload_n hx hb dX9_gather_73 rfl (lv_at hl 4 rfl) ?_
      refine lv_aload hx hb dX9_gather_74 (lv_at hl 2 rfl) ?_
      refine lv_iload_n hx hb dX9_gather_76 rfl (lv_at hl 5 rfl) ?_
      refine lv_iload hx hb dX9_gather_77 (lv_at hl 1 rfl) ?_
      refine lv_iload_n hx hb dX9_gather_79 rfl (lv_at hl 7 rfl) ?_
      refine hp_cVv ⟨hx, hb, hml, hown, hts⟩ (k_X9_takeHome l G z w14 _ o b4 p0 r9 p2 _ hp) (cwV 4 hts gX9_gather_X9_takeHome rfl rfl rfl (by decide +kernel) ⟨Nat.le_of_ble_eq_true rfl, Nat.le_of_ble_eq_true rfl⟩) ho (by decide) rfl hK h hA hE rfl hl.1 rfl (Nat.le_of_ble_eq_true rfl) dX9_gather_80 ⟨Nat.le_of_ble_eq_true rfl, Nat.le_of_ble_eq_true rfl⟩ (fun w15 H locs hp h => ?_)
      refine lv_iload hx hb dX9_gather_83 (lv_at hl 0 rfl) ?_
      exact hp_xiret hx hb hr rfl hlocks hK h hp dX9_gather_85 (Nat.le_of_ble_eq_true rfl) (Nat.le_of_ble_eq_true rfl)
  · have hp := hp.2 hc10
    refine lv_iconst (v := 1) hx hb dX9_gather_42 (by decide) ?_
    exact hp_xiret hx hb hr rfl hlocks hK h hp dX9_gather_43 (Nat.le_of_ble_eq_true rfl) (Nat.le_of_ble_eq_true rfl)
abbrev rmX9_light : Room := { frames := 7, cells := 2, slots := 12, locals := 112 }
theorem ix_X9_light_3 : ∀ w ∈ wsX30, w ∈ wsX9_light := by decide +kernel
theorem lk_X9_light_260 {G : Gt} {A : Nat → Prop} {s : State} {args : Array Value} (hE : gE G A s s.heap) : (Cond.fieldLinkNest RX9 260 "KelpShores$Pit" "daysLeft" "I" "KelpShores").before args s = true := by
  have h : va_Nw (Cond.fieldLinkNest RX9 260 "KelpShores$Pit" "daysLeft" "I" "KelpShores") s := hE.1 (RX9, 260, "KelpShores$Pit", "daysLeft", "I") (List.mem_of_getElem? (i := 28) rfl)
  exact va_Nw.use rfl h
theorem lk_X9_light_263 {G : Gt} {A : Nat → Prop} {s : State} {args : Array Value} (hE : gE G A s s.heap) : (Cond.fieldLinkNest RX9 263 "KelpShores$Pit" "owner" "LKelpShores$Family;" "KelpShores").before args s = true := by
  have h : va_Nw (Cond.fieldLinkNest RX9 263 "KelpShores$Pit" "owner" "LKelpShores$Family;" "KelpShores") s := hE.1 (RX9, 263, "KelpShores$Pit", "owner", "LKelpShores$Family;") (List.mem_of_getElem? (i := 26) rfl)
  exact va_Nw.use rfl h
theorem ix_X9_light_0 : ∀ w ∈ wsX00, w ∈ wsX9_light := by decide +kernel
theorem lk_X9_light_174 {G : Gt} {A : Nat → Prop} {s : State} {args : Array Value} (hE : gE G A s s.heap) : (Cond.fieldLinkNest RX9 174 "KelpShores$Family" "dry" "I" "KelpShores").before args s = true := by
  have h : va_Nw (Cond.fieldLinkNest RX9 174 "KelpShores$Family" "dry" "I" "KelpShores") s := hE.1 (RX9, 174, "KelpShores$Family", "dry", "I") (List.mem_of_getElem? (i := 11) rfl)
  exact va_Nw.use rfl h
theorem lk_X9_light_267 {G : Gt} {A : Nat → Prop} {s : State} {args : Array Value} (hE : gE G A s s.heap) : (Cond.fieldLinkNest RX9 267 "KelpShores$Pit" "load" "I" "KelpShores").before args s = true := by
  have h : va_Nw (Cond.fieldLinkNest RX9 267 "KelpShores$Pit" "load" "I" "KelpShores") s := hE.1 (RX9, 267, "KelpShores$Pit", "load", "I") (List.mem_of_getElem? (i := 27) rfl)
  exact va_Nw.use rfl h
theorem xm_X9_light_94 : ∀ w ∈ (vx_atS RX9 94 "java/lang/IllegalArgumentException" xNs).filter goodWord, w ∈ wsX9_light := fun _ h => List.mem_cons_of_mem _ (List.mem_append_left _ (List.mem_append_right _ h))
theorem wd_X9_light_cl90 : Cond.classLink RX9 90 "java/lang/IllegalArgumentException" ∈ wsX9_light := by decide +kernel
theorem wd_X9_light_in90 : Cond.initialized "java/lang/IllegalArgumentException" ∈ wsX9_light := by decide +kernel
def wp_X9_light (z : Zt) (o : Nat) (p0 : Int32) (p1 : Int32) (w : Vt) (K : Int32 → Vt → Prop) (X : Nat → Vt → Prop) : Prop := isO z 9 o ∧ wp_X9_needPit z o p0 w (fun b2 w1 => isO z 3 b2 ∧ wp_X9_isWithin z p1 20 1000 w1 (fun r4 w3 => (¬ r4 = 0 → (0 < (vI w3 302 b2) → K 0 w3) ∧ (¬ 0 < (vI w3 302 b2) → ∃ b7 : Nat, zR z 300 b2 = some b7 ∧ isO z 0 b7 ∧ (p1 ≤ (vI w3 4 b7) → ∀ w9 : Vt, w9 = uI w3 4 b7 ((vI w3 4 b7) - p1) → ∀ w10 : Vt, w10 = uI w9 301 b2 p1 → ∀ w11 : Vt, w11 = uI w10 302 b2 3 → K 1 w11) ∧ (¬ p1 ≤ (vI w3 4 b7) → K 0 w3))) ∧ (r4 = 0 → X 2 w3))) X
set_option maxHeartbeats 4000000 in
set_option maxRecDepth 100000 in
theorem k_X9_light (l : Launch) (hst : l.stackTraces = false) (G : Gt) (z : Zt) (w : Vt) (sz : Nat) (o : Nat) (p0 : Int32) (p1 : Int32) (K : Int32 → Vt → Prop) (X : Nat → Vt → Prop) (hp : wp_X9_light z o p0 p1 w K X) : XI l yX9_light wsX9_light rmX9_light G z w sz [.ref o, .int p0, .int p1] K X 2 12 := by
  refine vx_ofW (cc := cX9_light) (maxL := 4) (ret := (some .boolean)) (by decide +kernel) rfl ?_
  intro p e s m args below meth c s₁ B hml htab hv
  obtain ⟨rfl, rfl, C, h⟩ := hp_start B hml hv
  generalize gA G z w s.heap.size = A at C h ⊢
  obtain ⟨hx, hb, hr, hlocks, hml, hown, hts, hK, hA, hE⟩ := id C
  obtain ⟨ho, hp⟩ := hp
  have hl := lv_entry ([.ref o, .int p0, .int p1]) (n := 4) (Nat.le_of_ble_eq_true rfl)
  rw [lg_entry_eq]
  generalize (lg_sl ([.ref o, .int p0, .int p1]) ++ List.replicate (4 - (lg_sl ([.ref o, .int p0, .int p1])).length) Slot.unset).toArray = ls at hl ⊢
  have hl : lv_has ls 4 [(0, .ref o), (1, .int p0), (2, .int p1)] := hl
  refine lv_aload_n hx hb dX9_light_0 rfl (lv_at hl 0 rfl) ?_
  refine lv_iload_n hx hb dX9_light_1 rfl (lv_at hl 1 rfl) ?_
  refine hp_xVr ⟨hx, hb, hml, hown, hts⟩ (k_X9_needPit l hst G z w _ o p0 _ _ hp) (cwV 1 hts gX9_light_X9_needPit rfl rfl rfl (by decide +kernel) ⟨Nat.le_of_ble_eq_true rfl, Nat.le_of_ble_eq_true rfl⟩) htab hlocks ho (by decide) rfl hK h hA hE rfl hl.1 rfl (Nat.le_of_ble_eq_true rfl) dX9_light_2 ⟨Nat.le_of_ble_eq_true rfl, Nat.le_of_ble_eq_true rfl⟩ ⟨Nat.le_of_ble_eq_true rfl, Nat.le_of_ble_eq_true rfl⟩ (fun b2 w1 H locs hp h => ?_)
  obtain ⟨hob2, hp⟩ := hp
  refine lv_astore_n (lv' := [(3, .ref b2), (0, .ref o), (1, .int p0), (2, .int p1)]) hx hb dX9_light_5 rfl hl (by decide) rfl (fun ls hl => ?_)
  refine lv_iload_n hx hb dX9_light_6 rfl (lv_at hl 3 rfl) ?_
  refine lv_bipush (v := 20) hx hb dX9_light_7 (by decide) ?_
  refine lv_sipush (v := 1000) hx hb dX9_light_9 (by decide) ?_
  refine hp_cSi ⟨hx, hb, hml, hown, hts⟩ (k_X9_isWithin l G z w1 _ p1 20 1000 _ hp) (cwS 3 hts gX9_light_X9_isWithin rfl rfl rfl (by decide +kernel) ⟨Nat.le_of_ble_eq_true rfl, Nat.le_of_ble_eq_true rfl⟩) hK h hA hE rfl hl.1 rfl (Nat.le_of_ble_eq_true rfl) dX9_light_12 ⟨Nat.le_of_ble_eq_true rfl, Nat.le_of_ble_eq_true rfl⟩ (fun r4 w3 H locs hp h => ?_)
  refine lv_if_ne (tgt := 29) hx hb dX9_light_15 (by decide) (fun hc5 => ?_) (fun hc5 => ?_)
  · have hp := hp.1 hc5
    refine lv_aload_n hx hb dX9_light_29 rfl (lv_at hl 0 rfl) ?_
    refine hp_getN (ci := 3) (v := .int (vI w3 302 b2)) hx hb hts ix_X9_light_3 hown hK h hob2 (by decide) rfl 2 (by decide) (lk_X9_light_260 hE) (fun _ h9 => h9) rfl dX9_light_30 ?_
    refine lv_if_gt (tgt := 47) hx hb dX9_light_33 (by decide) (fun hc6 => ?_) (fun hc6 => ?_)
    · have hp := hp.1 hc6
      refine lv_iconst (v := 0) hx hb dX9_light_47 (by decide) ?_
      exact hp_xiret hx hb hr rfl hlocks hK h hp dX9_light_48 (Nat.le_of_ble_eq_true rfl) (Nat.le_of_ble_eq_true rfl)
    · have hp := hp.2 hc6
      refine lv_aload_n hx hb dX9_light_36 rfl (lv_at hl 0 rfl) ?_
      obtain ⟨b7, eb7, hob7, hp⟩ := hp
      refine hp_getN (ci := 3) (v := .ref b7) hx hb hts ix_X9_light_3 hown hK h hob2 (by decide) rfl 0 (by decide) (lk_X9_light_263 hE) (fun _ h9 => h9) (by show some (va_rf (zR z 300 b2)) = some (Value.ref b7); rw [eb7]; rfl) dX9_light_37 ?_
      refine hp_getN (ci := 0) (v := .int (vI w3 4 b7)) hx hb hts ix_X9_light_0 hown hK h hob7 (by decide) rfl 4 (by decide) (lk_X9_light_174 hE) (fun _ h9 => h9) rfl dX9_light_40 ?_
      refine lv_iload_n hx hb dX9_light_43 rfl (lv_at hl 3 rfl) ?_
      refine lv_icmp_ge (tgt := 49) hx hb dX9_light_44 (by decide) (fun hc8 => ?_) (fun hc8 => ?_)
      · have hp := hp.1 hc8
        refine lv_aload_n hx hb dX9_light_49 rfl (lv_at hl 0 rfl) ?_
        refine hp_getN (ci := 3) (v := .ref b7) hx hb hts ix_X9_light_3 hown hK h hob2 (by decide) rfl 0 (by decide) (lk_X9_light_263 hE) (fun _ h9 => h9) (by show some (va_rf (zR z 300 b2)) = some (Value.ref b7); rw [eb7]; rfl) dX9_light_50 ?_
        refine lv_dup hx hb dX9_light_53 rfl ?_
        refine hp_getN (ci := 0) (v := .int (vI w3 4 b7)) hx hb hts ix_X9_light_0 hown hK h hob7 (by decide) rfl 4 (by decide) (lk_X9_light_174 hE) (fun _ h9 => h9) rfl dX9_light_54 ?_
        refine lv_iload_n hx hb dX9_light_57 rfl (lv_at hl 3 rfl) ?_
        refine lv_isub hx hb dX9_light_58 ?_
        refine hp_putiN (ci := 0) (ty := .int) (x := (vI w3 4 b7) - p1) hx hb hts ix_X9_light_0 tyX0 tyX0_ok nmX0 hown hK h hob7 (by decide) rfl 4 4 (by decide) (lk_X9_light_174 hE) (fun _ h9 => h9) rfl (by decide +kernel) rfl rfl (fun _ _ => rfl) (fun _ _ => Nat.le_of_ble_eq_true rfl) dX9_light_59 (fun H locs w9 ew9 h => ?_)
        have hp := hp w9 ew9
        refine lv_aload_n hx hb dX9_light_62 rfl (lv_at hl 0 rfl) ?_
        refine lv_iload_n hx hb dX9_light_63 rfl (lv_at hl 3 rfl) ?_
        refine hp_putiN (ci := 3) (ty := .int) (x := p1) hx hb hts ix_X9_light_3 tyX3 tyX3_ok nmX3 hown hK h hob2 (by decide) rfl 1 301 (by decide) (lk_X9_light_267 hE) (fun _ h9 => h9) rfl (by decide +kernel) rfl rfl (fun _ _ => rfl) (fun _ _ => Nat.le_of_ble_eq_true rfl) dX9_light_64 (fun H locs w10 ew10 h => ?_)
        have hp := hp w10 ew10
        refine lv_aload_n hx hb dX9_light_67 rfl (lv_at hl 0 rfl) ?_
        refine lv_iconst (v := 3) hx hb dX9_light_68 (by decide) ?_
        refine hp_putiN (ci := 3) (ty := .int) (x := 3) hx hb hts ix_X9_light_3 tyX3 tyX3_ok nmX3 hown hK h hob2 (by decide) rfl 2 302 (by decide) (lk_X9_light_260 hE) (fun _ h9 => h9) rfl (by decide +kernel) rfl rfl (fun _ _ => rfl) (fun _ _ => Nat.le_of_ble_eq_true rfl) dX9_light_69 (fun H locs w11 ew11 h => ?_)
        have hp := hp w11 ew11
        refine lv_iconst (v := 1) hx hb dX9_light_72 (by decide) ?_
        exact hp_xiret hx hb hr rfl hlocks hK h hp dX9_light_73 (Nat.le_of_ble_eq_true rfl) (Nat.le_of_ble_eq_true rfl)
      · have hp := hp.2 hc8
        refine lv_iconst (v := 0) hx hb dX9_light_47 (by decide) ?_
        exact hp_xiret hx hb hr rfl hlocks hK h hp dX9_light_48 (Nat.le_of_ble_eq_true rfl) (Nat.le_of_ble_eq_true rfl)
  · have hp := hp.2 hc5
    exact hp_throwW (text := "no such load") (j := 21) 2 hx hb hst hown xf_2 (hts _ wd_X9_light_cl90) (hts _ wd_X9_light_in90) (List.mem_of_getElem? (i := 21) rfl) (fun w h => hts w (xm_X9_light_94 w h)) xb_X9_94 xg_X9_94 (List.mem_of_getElem? (i := 1) rfl) hE hK h (by rw [hml]; exact hl.1) dX9_light_18 dX9_light_21 dX9_light_22 dX9_light_25 dX9_light_28 htab (Nat.le_of_ble_eq_true rfl) (Nat.le_of_ble_eq_true rfl) (Nat.le_of_ble_eq_true rfl) (Nat.le_of_ble_eq_true rfl) hlocks rfl hp (Nat.le_of_ble_eq_true rfl) (Nat.le_of_ble_eq_true rfl)
abbrev rmX9_burns : Room := { frames := 7, cells := 1, slots := 6, locals := 112 }
theorem ix_X9_burns_3 : ∀ w ∈ wsX30, w ∈ wsX9_burns := by decide +kernel
theorem lk_X9_burns_260 {G : Gt} {A : Nat → Prop} {s : State} {args : Array Value} (hE : gE G A s s.heap) : (Cond.fieldLinkNest RX9 260 "KelpShores$Pit" "daysLeft" "I" "KelpShores").before args s = true := by
  have h : va_Nw (Cond.fieldLinkNest RX9 260 "KelpShores$Pit" "daysLeft" "I" "KelpShores") s := hE.1 (RX9, 260, "KelpShores$Pit", "daysLeft", "I") (List.mem_of_getElem? (i := 28) rfl)
  exact va_Nw.use rfl h
def wp_X9_burns (z : Zt) (o : Nat) (p0 : Int32) (w : Vt) (K : Int32 → Vt → Prop) (X : Nat → Vt → Prop) : Prop := isO z 9 o ∧ wp_X9_needPit z o p0 w (fun b2 w1 => isO z 3 b2 ∧ K (vI w1 302 b2) w1) X
set_option maxHeartbeats 4000000 in
set_option maxRecDepth 100000 in
theorem k_X9_burns (l : Launch) (hst : l.stackTraces = false) (G : Gt) (z : Zt) (w : Vt) (sz : Nat) (o : Nat) (p0 : Int32) (K : Int32 → Vt → Prop) (X : Nat → Vt → Prop) (hp : wp_X9_burns z o p0 w K X) : XI l yX9_burns wsX9_burns rmX9_burns G z w sz [.ref o, .int p0] K X 1 6 := by
  refine vx_ofW (cc := cX9_burns) (maxL := 2) (ret := (some .int)) (by decide +kernel) rfl ?_
  intro p e s m args below meth c s₁ B hml htab hv
  obtain ⟨rfl, rfl, C, h⟩ := hp_start B hml hv
  generalize gA G z w s.heap.size = A at C h ⊢
  obtain ⟨hx, hb, hr, hlocks, hml, hown, hts, hK, hA, hE⟩ := id C
  obtain ⟨ho, hp⟩ := hp
  have hl := lv_entry ([.ref o, .int p0]) (n := 2) (Nat.le_of_ble_eq_true rfl)
  rw [lg_entry_eq]
  generalize (lg_sl ([.ref o, .int p0]) ++ List.replicate (2 - (lg_sl ([.ref o, .int p0])).length) Slot.unset).toArray = ls at hl ⊢
  have hl : lv_has ls 2 [(0, .ref o), (1, .int p0)] := hl
  refine lv_aload_n hx hb dX9_burns_0 rfl (lv_at hl 0 rfl) ?_
  refine lv_iload_n hx hb dX9_burns_1 rfl (lv_at hl 1 rfl) ?_
  refine hp_xVr ⟨hx, hb, hml, hown, hts⟩ (k_X9_needPit l hst G z w _ o p0 _ _ hp) (cwV 1 hts gX9_burns_X9_needPit rfl rfl rfl (by decide +kernel) ⟨Nat.le_of_ble_eq_true rfl, Nat.le_of_ble_eq_true rfl⟩) htab hlocks ho (by decide) rfl hK h hA hE rfl hl.1 rfl (Nat.le_of_ble_eq_true rfl) dX9_burns_2 ⟨Nat.le_of_ble_eq_true rfl, Nat.le_of_ble_eq_true rfl⟩ ⟨Nat.le_of_ble_eq_true rfl, Nat.le_of_ble_eq_true rfl⟩ (fun b2 w1 H locs hp h => ?_)
  obtain ⟨hob2, hp⟩ := hp
  refine hp_getN (ci := 3) (v := .int (vI w1 302 b2)) hx hb hts ix_X9_burns_3 hown hK h hob2 (by decide) rfl 2 (by decide) (lk_X9_burns_260 hE) (fun _ h9 => h9) rfl dX9_burns_5 ?_
  exact hp_xiret hx hb hr rfl hlocks hK h hp dX9_burns_8 (Nat.le_of_ble_eq_true rfl) (Nat.le_of_ble_eq_true rfl)
abbrev rmX9_lot : Room := { frames := 7, cells := 2, slots := 12, locals := 112 }
theorem ix_X9_lot_2 : ∀ w ∈ wsX20, w ∈ wsX9_lot := by decide +kernel
theorem lk_X9_lot_294 {G : Gt} {A : Nat → Prop} {s : State} {args : Array Value} (hE : gE G A s s.heap) : (Cond.fieldLinkNest RX9 294 "KelpShores$Lot" "family" "I" "KelpShores").before args s = true := by
  have h : va_Nw (Cond.fieldLinkNest RX9 294 "KelpShores$Lot" "family" "I" "KelpShores") s := hE.1 (RX9, 294, "KelpShores$Lot", "family", "I") (List.mem_of_getElem? (i := 29) rfl)
  exact va_Nw.use rfl h
theorem lk_X9_lot_297 {G : Gt} {A : Nat → Prop} {s : State} {args : Array Value} (hE : gE G A s s.heap) : (Cond.fieldLinkNest RX9 297 "KelpShores$Lot" "amount" "I" "KelpShores").before args s = true := by
  have h : va_Nw (Cond.fieldLinkNest RX9 297 "KelpShores$Lot" "amount" "I" "KelpShores") s := hE.1 (RX9, 297, "KelpShores$Lot", "amount", "I") (List.mem_of_getElem? (i := 30) rfl)
  exact va_Nw.use rfl h
theorem lk_X9_lot_300 {G : Gt} {A : Nat → Prop} {s : State} {args : Array Value} (hE : gE G A s s.heap) : (Cond.fieldLinkNest RX9 300 "KelpShores$Lot" "strength" "I" "KelpShores").before args s = true := by
  have h : va_Nw (Cond.fieldLinkNest RX9 300 "KelpShores$Lot" "strength" "I" "KelpShores") s := hE.1 (RX9, 300, "KelpShores$Lot", "strength", "I") (List.mem_of_getElem? (i := 31) rfl)
  exact va_Nw.use rfl h
theorem lk_X9_lot_303 {G : Gt} {A : Nat → Prop} {s : State} {args : Array Value} (hE : gE G A s s.heap) : (Cond.fieldLinkNest RX9 303 "KelpShores$Lot" "doubted" "Z" "KelpShores").before args s = true := by
  have h : va_Nw (Cond.fieldLinkNest RX9 303 "KelpShores$Lot" "doubted" "Z" "KelpShores") s := hE.1 (RX9, 303, "KelpShores$Lot", "doubted", "Z") (List.mem_of_getElem? (i := 32) rfl)
  exact va_Nw.use rfl h
theorem lk_X9_lot_307 {G : Gt} {A : Nat → Prop} {s : State} {args : Array Value} (hE : gE G A s s.heap) : (Cond.fieldLinkNest RX9 307 "KelpShores$Lot" "entry" "I" "KelpShores").before args s = true := by
  have h : va_Nw (Cond.fieldLinkNest RX9 307 "KelpShores$Lot" "entry" "I" "KelpShores") s := hE.1 (RX9, 307, "KelpShores$Lot", "entry", "I") (List.mem_of_getElem? (i := 33) rfl)
  exact va_Nw.use rfl h
theorem xm_X9_lot_167 : ∀ w ∈ (vx_atS RX9 167 "java/util/NoSuchElementException" xNs).filter goodWord, w ∈ wsX9_lot := fun _ h => List.mem_cons_of_mem _ (List.mem_append_left _ (List.mem_append_right _ h))
theorem wd_X9_lot_cl163 : Cond.classLink RX9 163 "java/util/NoSuchElementException" ∈ wsX9_lot := by decide +kernel
theorem wd_X9_lot_in163 : Cond.initialized "java/util/NoSuchElementException" ∈ wsX9_lot := by decide +kernel
def wp_X9_lot (z : Zt) (o : Nat) (p0 : Int32) (p1 : Int32) (w : Vt) (K : Int32 → Vt → Prop) (X : Nat → Vt → Prop) : Prop := isO z 9 o ∧ wp_X9_needLot z o p0 w (fun b2 w1 => isO z 2 b2 ∧ (p1 = 0 → K (vI w1 200 b2) w1) ∧ (p1 = 1 → K (vI w1 201 b2) w1) ∧ (p1 = 2 → K (vI w1 202 b2) w1) ∧ (p1 = 3 → ((vI w1 203 b2) = 0 → K 0 w1) ∧ (¬ (vI w1 203 b2) = 0 → K 1 w1)) ∧ (p1 = 4 → K ((vI w1 201 b2) * (vI w1 202 b2)) w1) ∧ (p1 = 5 → K (vI w1 204 b2) w1) ∧ (¬ p1 = 0 → ¬ p1 = 1 → ¬ p1 = 2 → ¬ p1 = 3 → ¬ p1 = 4 → ¬ p1 = 5 → X 4 w1)) X
set_option maxHeartbeats 4000000 in
set_option maxRecDepth 100000 in
theorem k_X9_lot (l : Launch) (hst : l.stackTraces = false) (G : Gt) (z : Zt) (w : Vt) (sz : Nat) (o : Nat) (p0 : Int32) (p1 : Int32) (K : Int32 → Vt → Prop) (X : Nat → Vt → Prop) (hp : wp_X9_lot z o p0 p1 w K X) : XI l yX9_lot wsX9_lot rmX9_lot G z w sz [.ref o, .int p0, .int p1] K X 2 12 := by
  refine vx_ofW (cc := cX9_lot) (maxL := 4) (ret := (some .int)) (by decide +kernel) rfl ?_
  intro p e s m args below meth c s₁ B hml htab hv
  obtain ⟨rfl, rfl, C, h⟩ := hp_start B hml hv
  generalize gA G z w s.heap.size = A at C h ⊢
  obtain ⟨hx, hb, hr, hlocks, hml, hown, hts, hK, hA, hE⟩ := id C
  obtain ⟨ho, hp⟩ := hp
  have hl := lv_entry ([.ref o, .int p0, .int p1]) (n := 4) (Nat.le_of_ble_eq_true rfl)
  rw [lg_entry_eq]
  generalize (lg_sl ([.ref o, .int p0, .int p1]) ++ List.replicate (4 - (lg_sl ([.ref o, .int p0, .int p1])).length) Slot.unset).toArray = ls at hl ⊢
  have hl : lv_has ls 4 [(0, .ref o), (1, .int p0), (2, .int p1)] := hl
  refine lv_aload_n hx hb dX9_lot_0 rfl (lv_at hl 0 rfl) ?_
  refine lv_iload_n hx hb dX9_lot_1 rfl (lv_at hl 1 rfl) ?_
  refine hp_xVr ⟨hx, hb, hml, hown, hts⟩ (k_X9_needLot l hst G z w _ o p0 _ _ hp) (cwV 1 hts gX9_lot_X9_needLot rfl rfl rfl (by decide +kernel) ⟨Nat.le_of_ble_eq_true rfl, Nat.le_of_ble_eq_true rfl⟩) htab hlocks ho (by decide) rfl hK h hA hE rfl hl.1 rfl (Nat.le_of_ble_eq_true rfl) dX9_lot_2 ⟨Nat.le_of_ble_eq_true rfl, Nat.le_of_ble_eq_true rfl⟩ ⟨Nat.le_of_ble_eq_true rfl, Nat.le_of_ble_eq_true rfl⟩ (fun b2 w1 H locs hp h => ?_)
  obtain ⟨hob2, hp⟩ := hp
  refine lv_astore_n (lv' := [(3, .ref b2), (0, .ref o), (1, .int p0), (2, .int p1)]) hx hb dX9_lot_5 rfl hl (by decide) rfl (fun ls hl => ?_)
  refine lv_iload_n hx hb dX9_lot_6 rfl (lv_at hl 3 rfl) ?_
  by_cases hc3 : p1 = 0
  · refine lv_tableIn (off := 37) (tgt := 44) hx hb dX9_lot_7 (by rw [hc3]; decide) (by rw [hc3]; decide) (by rw [hc3]; rfl) (by decide) ?_
    have hp := hp.1 hc3
    refine lv_aload_n hx hb dX9_lot_44 rfl (lv_at hl 0 rfl) ?_
    refine hp_getN (ci := 2) (v := .int (vI w1 200 b2)) hx hb hts ix_X9_lot_2 hown hK h hob2 (by decide) rfl 0 (by decide) (lk_X9_lot_294 hE) (fun _ h9 => h9) rfl dX9_lot_45 ?_
    exact hp_xiret hx hb hr rfl hlocks hK h hp dX9_lot_48 (Nat.le_of_ble_eq_true rfl) (Nat.le_of_ble_eq_true rfl)
  have hp := hp.2
  by_cases hc4 : p1 = 1
  · refine lv_tableIn (off := 42) (tgt := 49) hx hb dX9_lot_7 (by rw [hc4]; decide) (by rw [hc4]; decide) (by rw [hc4]; rfl) (by decide) ?_
    have hp := hp.1 hc4
    refine lv_aload_n hx hb dX9_lot_49 rfl (lv_at hl 0 rfl) ?_
    refine hp_getN (ci := 2) (v := .int (vI w1 201 b2)) hx hb hts ix_X9_lot_2 hown hK h hob2 (by decide) rfl 1 (by decide) (lk_X9_lot_297 hE) (fun _ h9 => h9) rfl dX9_lot_50 ?_
    exact hp_xiret hx hb hr rfl hlocks hK h hp dX9_lot_53 (Nat.le_of_ble_eq_true rfl) (Nat.le_of_ble_eq_true rfl)
  have hp := hp.2
  by_cases hc5 : p1 = 2
  · refine lv_tableIn (off := 47) (tgt := 54) hx hb dX9_lot_7 (by rw [hc5]; decide) (by rw [hc5]; decide) (by rw [hc5]; rfl) (by decide) ?_
    have hp := hp.1 hc5
    refine lv_aload_n hx hb dX9_lot_54 rfl (lv_at hl 0 rfl) ?_
    refine hp_getN (ci := 2) (v := .int (vI w1 202 b2)) hx hb hts ix_X9_lot_2 hown hK h hob2 (by decide) rfl 2 (by decide) (lk_X9_lot_300 hE) (fun _ h9 => h9) rfl dX9_lot_55 ?_
    exact hp_xiret hx hb hr rfl hlocks hK h hp dX9_lot_58 (Nat.le_of_ble_eq_true rfl) (Nat.le_of_ble_eq_true rfl)
  have hp := hp.2
  by_cases hc6 : p1 = 3
  · refine lv_tableIn (off := 52) (tgt := 59) hx hb dX9_lot_7 (by rw [hc6]; decide) (by rw [hc6]; decide) (by rw [hc6]; rfl) (by decide) ?_
    have hp := hp.1 hc6
    refine lv_aload_n hx hb dX9_lot_59 rfl (lv_at hl 0 rfl) ?_
    refine hp_getN (ci := 2) (v := .int (vI w1 203 b2)) hx hb hts ix_X9_lot_2 hown hK h hob2 (by decide) rfl 3 (by decide) (lk_X9_lot_303 hE) (fun _ h9 => h9) rfl dX9_lot_60 ?_
    refine lv_if_eq (tgt := 70) hx hb dX9_lot_63 (by decide) (fun hc7 => ?_) (fun hc7 => ?_)
    · have hp := hp.1 hc7
      refine lv_iconst (v := 0) hx hb dX9_lot_70 (by decide) ?_
      exact hp_xiret hx hb hr rfl hlocks hK h hp dX9_lot_71 (Nat.le_of_ble_eq_true rfl) (Nat.le_of_ble_eq_true rfl)
    · have hp := hp.2 hc7
      refine lv_iconst (v := 1) hx hb dX9_lot_66 (by decide) ?_
      refine lv_goto (tgt := 71) hx hb dX9_lot_67 (by decide) ?_
      exact hp_xiret hx hb hr rfl hlocks hK h hp dX9_lot_71 (Nat.le_of_ble_eq_true rfl) (Nat.le_of_ble_eq_true rfl)
  have hp := hp.2
  by_cases hc8 : p1 = 4
  · refine lv_tableIn (off := 65) (tgt := 72) hx hb dX9_lot_7 (by rw [hc8]; decide) (by rw [hc8]; decide) (by rw [hc8]; rfl) (by decide) ?_
    have hp := hp.1 hc8
    refine lv_aload_n hx hb dX9_lot_72 rfl (lv_at hl 0 rfl) ?_
    refine hp_getN (ci := 2) (v := .int (vI w1 201 b2)) hx hb hts ix_X9_lot_2 hown hK h hob2 (by decide) rfl 1 (by decide) (lk_X9_lot_297 hE) (fun _ h9 => h9) rfl dX9_lot_73 ?_
    refine lv_aload_n hx hb dX9_lot_76 rfl (lv_at hl 0 rfl) ?_
    refine hp_getN (ci := 2) (v := .int (vI w1 202 b2)) hx hb hts ix_X9_lot_2 hown hK h hob2 (by decide) rfl 2 (by decide) (lk_X9_lot_300 hE) (fun _ h9 => h9) rfl dX9_lot_77 ?_
    refine lv_imul hx hb dX9_lot_80 ?_
    exact hp_xiret hx hb hr rfl hlocks hK h hp dX9_lot_81 (Nat.le_of_ble_eq_true rfl) (Nat.le_of_ble_eq_true rfl)
  have hp := hp.2
  by_cases hc9 : p1 = 5
  · refine lv_tableIn (off := 75) (tgt := 82) hx hb dX9_lot_7 (by rw [hc9]; decide) (by rw [hc9]; decide) (by rw [hc9]; rfl) (by decide) ?_
    have hp := hp.1 hc9
    refine lv_aload_n hx hb dX9_lot_82 rfl (lv_at hl 0 rfl) ?_
    refine hp_getN (ci := 2) (v := .int (vI w1 204 b2)) hx hb hts ix_X9_lot_2 hown hK h hob2 (by decide) rfl 4 (by decide) (lk_X9_lot_307 hE) (fun _ h9 => h9) rfl dX9_lot_83 ?_
    exact hp_xiret hx hb hr rfl hlocks hK h hp dX9_lot_86 (Nat.le_of_ble_eq_true rfl) (Nat.le_of_ble_eq_true rfl)
  have hp := hp.2
  have thc3 := lv_neT (a := 0) hc3 (by decide)
  have hp := hp hc3
  have thc4 := lv_neT (a := 1) hc4 (by decide)
  have hp := hp hc4
  have thc5 := lv_neT (a := 2) hc5 (by decide)
  have hp := hp hc5
  have thc6 := lv_neT (a := 3) hc6 (by decide)
  have hp := hp hc6
  have thc8 := lv_neT (a := 4) hc8 (by decide)
  have hp := hp hc8
  have thc9 := lv_neT (a := 5) hc9 (by decide)
  have hp := hp hc9
  refine lv_tableOut (tgt := 87) hx hb dX9_lot_7 (by omega) (by decide) ?_
  exact hp_throwW (text := "nothing of a lot has this number") (j := 24) 4 hx hb hst hown xf_4 (hts _ wd_X9_lot_cl163) (hts _ wd_X9_lot_in163) (List.mem_of_getElem? (i := 24) rfl) (fun w h => hts w (xm_X9_lot_167 w h)) xb_X9_167 xg_X9_167 (List.mem_of_getElem? (i := 3) rfl) hE hK h (by rw [hml]; exact hl.1) dX9_lot_87 dX9_lot_90 dX9_lot_91 dX9_lot_94 dX9_lot_97 htab (Nat.le_of_ble_eq_true rfl) (Nat.le_of_ble_eq_true rfl) (Nat.le_of_ble_eq_true rfl) (Nat.le_of_ble_eq_true rfl) hlocks rfl hp (Nat.le_of_ble_eq_true rfl) (Nat.le_of_ble_eq_true rfl)
abbrev rmX9_enter : Room := { frames := 7, cells := 2, slots := 12, locals := 112 }
theorem wd_X9_enter_c312 : Cond.constant RX9 312 (-100000) ∈ wsX9_enter := by decide +kernel
theorem wd_X9_enter_c313 : Cond.constant RX9 313 (100000) ∈ wsX9_enter := by decide +kernel
theorem xm_X9_enter_94 : ∀ w ∈ (vx_atS RX9 94 "java/lang/IllegalArgumentException" xNs).filter goodWord, w ∈ wsX9_enter := fun _ h => List.mem_cons_of_mem _ (List.mem_append_left _ (List.mem_append_right _ h))
theorem wd_X9_enter_cl90 : Cond.classLink RX9 90 "java/lang/IllegalArgumentException" ∈ wsX9_enter := by decide +kernel
theorem wd_X9_enter_in90 : Cond.initialized "java/lang/IllegalArgumentException" ∈ wsX9_enter := by decide +kernel
theorem ix_X9_enter_9 : ∀ w ∈ wsX90, w ∈ wsX9_enter := by decide +kernel
theorem lk_X9_enter_61 : Cond.fieldLink RX9 61 "KelpShores" "store" "LKelpShores$Store;" ∈ wsX9_enter := by decide +kernel
theorem lk_X9_enter_202 : Cond.fieldLink RX9 202 "KelpShores" "today" "I" ∈ wsX9_enter := by decide +kernel
def wp_X9_enter (z : Zt) (o : Nat) (p0 : Int32) (p1 : Int32) (p2 : Int32) (w : Vt) (K : Int32 → Vt → Prop) (X : Nat → Vt → Prop) : Prop := isO z 9 o ∧ wp_X9_needFamily z o p0 w (fun b2 w1 => isO z 0 b2 ∧ wp_X9_isWithin z p1 (-100000) 100000 w1 (fun r4 w3 => (r4 = 0 → X 2 w3) ∧ (¬ r4 = 0 → wp_X9_isWithin z p2 0 9999 w3 (fun r7 w6 => (¬ r7 = 0 → ∃ b9 : Nat, zR z 912 o = some b9 ∧ isO z 7 b9 ∧ wp_X7_isFull z b9 w6 (fun r11 w10 => (r11 = 0 → wp_X7_addEntry z b9 p0 p1 p2 (vI w10 914 o) w10 (fun r14 w13 => K r14 w13)) ∧ (¬ r11 = 0 → K (-1) w10))) ∧ (r7 = 0 → X 2 w6))))) X
set_option maxHeartbeats 4000000 in
set_option maxRecDepth 100000 in
theorem k_X9_enter (l : Launch) (hst : l.stackTraces = false) (G : Gt) (z : Zt) (w : Vt) (sz : Nat) (o : Nat) (p0 : Int32) (p1 : Int32) (p2 : Int32) (K : Int32 → Vt → Prop) (X : Nat → Vt → Prop) (hp : wp_X9_enter z o p0 p1 p2 w K X) : XI l yX9_enter wsX9_enter rmX9_enter G z w sz [.ref o, .int p0, .int p1, .int p2] K X 2 12 := by
  refine vx_ofW (cc := cX9_enter) (maxL := 4) (ret := (some .int)) (by decide +kernel) rfl ?_
  intro p e s m args below meth c s₁ B hml htab hv
  obtain ⟨rfl, rfl, C, h⟩ := hp_start B hml hv
  generalize gA G z w s.heap.size = A at C h ⊢
  obtain ⟨hx, hb, hr, hlocks, hml, hown, hts, hK, hA, hE⟩ := id C
  obtain ⟨ho, hp⟩ := hp
  have hl := lv_entry ([.ref o, .int p0, .int p1, .int p2]) (n := 4) (Nat.le_of_ble_eq_true rfl)
  rw [lg_entry_eq]
  generalize (lg_sl ([.ref o, .int p0, .int p1, .int p2]) ++ List.replicate (4 - (lg_sl ([.ref o, .int p0, .int p1, .int p2])).length) Slot.unset).toArray = ls at hl ⊢
  have hl : lv_has ls 4 [(0, .ref o), (1, .int p0), (2, .int p1), (3, .int p2)] := hl
  refine lv_aload_n hx hb dX9_enter_0 rfl (lv_at hl 0 rfl) ?_
  refine lv_iload_n hx hb dX9_enter_1 rfl (lv_at hl 1 rfl) ?_
  refine hp_xVr ⟨hx, hb, hml, hown, hts⟩ (k_X9_needFamily l hst G z w _ o p0 _ _ hp) (cwV 1 hts gX9_enter_X9_needFamily rfl rfl rfl (by decide +kernel) ⟨Nat.le_of_ble_eq_true rfl, Nat.le_of_ble_eq_true rfl⟩) htab hlocks ho (by decide) rfl hK h hA hE rfl hl.1 rfl (Nat.le_of_ble_eq_true rfl) dX9_enter_2 ⟨Nat.le_of_ble_eq_true rfl, Nat.le_of_ble_eq_true rfl⟩ ⟨Nat.le_of_ble_eq_true rfl, Nat.le_of_ble_eq_true rfl⟩ (fun b2 w1 H locs hp h => ?_)
  obtain ⟨hob2, hp⟩ := hp
  refine lv_pop hx hb dX9_enter_5 rfl ?_
  refine lv_iload_n hx hb dX9_enter_6 rfl (lv_at hl 2 rfl) ?_
  refine lv_ldcw (v := (-100000)) hx hb hown (hts _ wd_X9_enter_c312) dX9_enter_7 ?_
  refine lv_ldcw (v := 100000) hx hb hown (hts _ wd_X9_enter_c313) dX9_enter_10 ?_
  refine hp_cSi ⟨hx, hb, hml, hown, hts⟩ (k_X9_isWithin l G z w1 _ p1 (-100000) 100000 _ hp) (cwS 3 hts gX9_enter_X9_isWithin rfl rfl rfl (by decide +kernel) ⟨Nat.le_of_ble_eq_true rfl, Nat.le_of_ble_eq_true rfl⟩) hK h hA hE rfl hl.1 rfl (Nat.le_of_ble_eq_true rfl) dX9_enter_13 ⟨Nat.le_of_ble_eq_true rfl, Nat.le_of_ble_eq_true rfl⟩ (fun r4 w3 H locs hp h => ?_)
  refine lv_if_eq (tgt := 30) hx hb dX9_enter_16 (by decide) (fun hc5 => ?_) (fun hc5 => ?_)
  · have hp := hp.1 hc5
    exact hp_throwW (text := "no such money or day") (j := 25) 2 hx hb hst hown xf_2 (hts _ wd_X9_enter_cl90) (hts _ wd_X9_enter_in90) (List.mem_of_getElem? (i := 25) rfl) (fun w h => hts w (xm_X9_enter_94 w h)) xb_X9_94 xg_X9_94 (List.mem_of_getElem? (i := 1) rfl) hE hK h (by rw [hml]; exact hl.1) dX9_enter_30 dX9_enter_33 dX9_enter_34 dX9_enter_37 dX9_enter_40 htab (Nat.le_of_ble_eq_true rfl) (Nat.le_of_ble_eq_true rfl) (Nat.le_of_ble_eq_true rfl) (Nat.le_of_ble_eq_true rfl) hlocks rfl hp (Nat.le_of_ble_eq_true rfl) (Nat.le_of_ble_eq_true rfl)
  · have hp := hp.2 hc5
    refine lv_iload_n hx hb dX9_enter_19 rfl (lv_at hl 3 rfl) ?_
    refine lv_iconst (v := 0) hx hb dX9_enter_20 (by decide) ?_
    refine lv_sipush (v := 9999) hx hb dX9_enter_21 (by decide) ?_
    refine hp_cSi ⟨hx, hb, hml, hown, hts⟩ (k_X9_isWithin l G z w3 _ p2 0 9999 _ hp) (cwS 3 hts gX9_enter_X9_isWithin rfl rfl rfl (by decide +kernel) ⟨Nat.le_of_ble_eq_true rfl, Nat.le_of_ble_eq_true rfl⟩) hK h hA hE rfl hl.1 rfl (Nat.le_of_ble_eq_true rfl) dX9_enter_24 ⟨Nat.le_of_ble_eq_true rfl, Nat.le_of_ble_eq_true rfl⟩ (fun r7 w6 H locs hp h => ?_)
    refine lv_if_ne (tgt := 41) hx hb dX9_enter_27 (by decide) (fun hc8 => ?_) (fun hc8 => ?_)
    · have hp := hp.1 hc8
      refine lv_aload_n hx hb dX9_enter_41 rfl (lv_at hl 0 rfl) ?_
      obtain ⟨b9, eb9, hob9, hp⟩ := hp
      refine hp_get (ci := 9) (v := .ref b9) hx hb hts ix_X9_enter_9 hown hK h ho (by decide) rfl 12 (by decide) (hts _ lk_X9_enter_61) (fun _ h9 => h9) (by show some (va_rf (zR z 912 o)) = some (Value.ref b9); rw [eb9]; rfl) dX9_enter_42 ?_
      refine hp_cVi ⟨hx, hb, hml, hown, hts⟩ (k_X7_isFull l G z w6 _ b9 _ hp) (cwV 0 hts gX9_enter_X7_isFull rfl rfl rfl (by decide +kernel) ⟨Nat.le_of_ble_eq_true rfl, Nat.le_of_ble_eq_true rfl⟩) hob9 (by decide) rfl hK h hA hE rfl hl.1 rfl (Nat.le_of_ble_eq_true rfl) dX9_enter_45 ⟨Nat.le_of_ble_eq_true rfl, Nat.le_of_ble_eq_true rfl⟩ (fun r11 w10 H locs hp h => ?_)
      refine lv_if_eq (tgt := 55) hx hb dX9_enter_48 (by decide) (fun hc12 => ?_) (fun hc12 => ?_)
      · have hp := hp.1 hc12
        refine lv_aload_n hx hb dX9_enter_55 rfl (lv_at hl 0 rfl) ?_
        refine hp_get (ci := 9) (v := .ref b9) hx hb hts ix_X9_enter_9 hown hK h ho (by decide) rfl 12 (by decide) (hts _ lk_X9_enter_61) (fun _ h9 => h9) (by show some (va_rf (zR z 912 o)) = some (Value.ref b9); rw [eb9]; rfl) dX9_enter_56 ?_
        refine lv_iload_n hx hb dX9_enter_59 rfl (lv_at hl 1 rfl) ?_
        refine lv_iload_n hx hb dX9_enter_60 rfl (lv_at hl 2 rfl) ?_
        refine lv_iload_n hx hb dX9_enter_61 rfl (lv_at hl 3 rfl) ?_
        refine lv_aload_n hx hb dX9_enter_62 rfl (lv_at hl 0 rfl) ?_
        refine hp_get (ci := 9) (v := .int (vI w10 914 o)) hx hb hts ix_X9_enter_9 hown hK h ho (by decide) rfl 14 (by decide) (hts _ lk_X9_enter_202) (fun _ h9 => h9) rfl dX9_enter_63 ?_
        refine hp_cVi ⟨hx, hb, hml, hown, hts⟩ (k_X7_addEntry l G z w10 _ b9 p0 p1 p2 (vI w10 914 o) _ hp) (cwV 4 hts gX9_enter_X7_addEntry rfl rfl rfl (by decide +kernel) ⟨Nat.le_of_ble_eq_true rfl, Nat.le_of_ble_eq_true rfl⟩) hob9 (by decide) rfl hK h hA hE rfl hl.1 rfl (Nat.le_of_ble_eq_true rfl) dX9_enter_66 ⟨Nat.le_of_ble_eq_true rfl, Nat.le_of_ble_eq_true rfl⟩ (fun r14 w13 H locs hp h => ?_)
        exact hp_xiret hx hb hr rfl hlocks hK h hp dX9_enter_69 (Nat.le_of_ble_eq_true rfl) (Nat.le_of_ble_eq_true rfl)
      · have hp := hp.2 hc12
        refine lv_iconst (v := (-1)) hx hb dX9_enter_51 (by decide) ?_
        refine lv_goto (tgt := 69) hx hb dX9_enter_52 (by decide) ?_
        exact hp_xiret hx hb hr rfl hlocks hK h hp dX9_enter_69 (Nat.le_of_ble_eq_true rfl) (Nat.le_of_ble_eq_true rfl)
    · have hp := hp.2 hc8
      exact hp_throwW (text := "no such money or day") (j := 25) 2 hx hb hst hown xf_2 (hts _ wd_X9_enter_cl90) (hts _ wd_X9_enter_in90) (List.mem_of_getElem? (i := 25) rfl) (fun w h => hts w (xm_X9_enter_94 w h)) xb_X9_94 xg_X9_94 (List.mem_of_getElem? (i := 1) rfl) hE hK h (by rw [hml]; exact hl.1) dX9_enter_30 dX9_enter_33 dX9_enter_34 dX9_enter_37 dX9_enter_40 htab (Nat.le_of_ble_eq_true rfl) (Nat.le_of_ble_eq_true rfl) (Nat.le_of_ble_eq_true rfl) (Nat.le_of_ble_eq_true rfl) hlocks rfl hp (Nat.le_of_ble_eq_true rfl) (Nat.le_of_ble_eq_true rfl)
abbrev rmX9_undo : Room := { frames := 6, cells := 1, slots := 6, locals := 90 }
theorem ix_X9_undo_9 : ∀ w ∈ wsX90, w ∈ wsX9_undo := by decide +kernel
theorem lk_X9_undo_61 : Cond.fieldLink RX9 61 "KelpShores" "store" "LKelpShores$Store;" ∈ wsX9_undo := by decide +kernel
theorem lk_X9_undo_202 : Cond.fieldLink RX9 202 "KelpShores" "today" "I" ∈ wsX9_undo := by decide +kernel
theorem xm_X9_undo_323 : ∀ w ∈ (vx_atS RX9 323 "java/lang/IndexOutOfBoundsException" xNs).filter goodWord, w ∈ wsX9_undo := fun _ h => List.mem_cons_of_mem _ (List.mem_append_right _ h)
theorem wd_X9_undo_cl319 : Cond.classLink RX9 319 "java/lang/IndexOutOfBoundsException" ∈ wsX9_undo := by decide +kernel
theorem wd_X9_undo_in319 : Cond.initialized "java/lang/IndexOutOfBoundsException" ∈ wsX9_undo := by decide +kernel
def wp_X9_undo (z : Zt) (o : Nat) (p0 : Int32) (w : Vt) (K : Int32 → Vt → Prop) (X : Nat → Vt → Prop) : Prop := isO z 9 o ∧ ∃ b1 : Nat, zR z 912 o = some b1 ∧ isO z 7 b1 ∧ wp_X7_hasEntry z b1 p0 w (fun r3 w2 => (¬ r3 = 0 → wp_X7_takeBack z b1 p0 (vI w2 914 o) w2 (fun r6 w5 => isB r6 ∧ K r6 w5)) ∧ (r3 = 0 → X 1 w2))
set_option maxHeartbeats 4000000 in
set_option maxRecDepth 100000 in
theorem k_X9_undo (l : Launch) (hst : l.stackTraces = false) (G : Gt) (z : Zt) (w : Vt) (sz : Nat) (o : Nat) (p0 : Int32) (K : Int32 → Vt → Prop) (X : Nat → Vt → Prop) (hp : wp_X9_undo z o p0 w K X) : XI l yX9_undo wsX9_undo rmX9_undo G z w sz [.ref o, .int p0] K X 1 6 := by
  refine vx_ofW (cc := cX9_undo) (maxL := 2) (ret := (some .boolean)) (by decide +kernel) rfl ?_
  intro p e s m args below meth c s₁ B hml htab hv
  obtain ⟨rfl, rfl, C, h⟩ := hp_start B hml hv
  generalize gA G z w s.heap.size = A at C h ⊢
  obtain ⟨hx, hb, hr, hlocks, hml, hown, hts, hK, hA, hE⟩ := id C
  obtain ⟨ho, hp⟩ := hp
  have hl := lv_entry ([.ref o, .int p0]) (n := 2) (Nat.le_of_ble_eq_true rfl)
  rw [lg_entry_eq]
  generalize (lg_sl ([.ref o, .int p0]) ++ List.replicate (2 - (lg_sl ([.ref o, .int p0])).length) Slot.unset).toArray = ls at hl ⊢
  have hl : lv_has ls 2 [(0, .ref o), (1, .int p0)] := hl
  refine lv_aload_n hx hb dX9_undo_0 rfl (lv_at hl 0 rfl) ?_
  obtain ⟨b1, eb1, hob1, hp⟩ := hp
  refine hp_get (ci := 9) (v := .ref b1) hx hb hts ix_X9_undo_9 hown hK h ho (by decide) rfl 12 (by decide) (hts _ lk_X9_undo_61) (fun _ h9 => h9) (by show some (va_rf (zR z 912 o)) = some (Value.ref b1); rw [eb1]; rfl) dX9_undo_1 ?_
  refine lv_iload_n hx hb dX9_undo_4 rfl (lv_at hl 1 rfl) ?_
  refine hp_cVi ⟨hx, hb, hml, hown, hts⟩ (k_X7_hasEntry l G z w _ b1 p0 _ hp) (cwV 1 hts gX9_undo_X7_hasEntry rfl rfl rfl (by decide +kernel) ⟨Nat.le_of_ble_eq_true rfl, Nat.le_of_ble_eq_true rfl⟩) hob1 (by decide) rfl hK h hA hE rfl hl.1 rfl (Nat.le_of_ble_eq_true rfl) dX9_undo_5 ⟨Nat.le_of_ble_eq_true rfl, Nat.le_of_ble_eq_true rfl⟩ (fun r3 w2 H locs hp h => ?_)
  refine lv_if_ne (tgt := 22) hx hb dX9_undo_8 (by decide) (fun hc4 => ?_) (fun hc4 => ?_)
  · have hp := hp.1 hc4
    refine lv_aload_n hx hb dX9_undo_22 rfl (lv_at hl 0 rfl) ?_
    refine hp_get (ci := 9) (v := .ref b1) hx hb hts ix_X9_undo_9 hown hK h ho (by decide) rfl 12 (by decide) (hts _ lk_X9_undo_61) (fun _ h9 => h9) (by show some (va_rf (zR z 912 o)) = some (Value.ref b1); rw [eb1]; rfl) dX9_undo_23 ?_
    refine lv_iload_n hx hb dX9_undo_26 rfl (lv_at hl 1 rfl) ?_
    refine lv_aload_n hx hb dX9_undo_27 rfl (lv_at hl 0 rfl) ?_
    refine hp_get (ci := 9) (v := .int (vI w2 914 o)) hx hb hts ix_X9_undo_9 hown hK h ho (by decide) rfl 14 (by decide) (hts _ lk_X9_undo_202) (fun _ h9 => h9) rfl dX9_undo_28 ?_
    refine hp_cVi ⟨hx, hb, hml, hown, hts⟩ (k_X7_takeBack l G z w2 _ b1 p0 (vI w2 914 o) _ hp) (cwV 2 hts gX9_undo_X7_takeBack rfl rfl rfl (by decide +kernel) ⟨Nat.le_of_ble_eq_true rfl, Nat.le_of_ble_eq_true rfl⟩) hob1 (by decide) rfl hK h hA hE rfl hl.1 rfl (Nat.le_of_ble_eq_true rfl) dX9_undo_31 ⟨Nat.le_of_ble_eq_true rfl, Nat.le_of_ble_eq_true rfl⟩ (fun r6 w5 H locs hp h => ?_)
    exact hp_xiret hx hb hr (isB_n hp.1) hlocks hK h hp.2 dX9_undo_34 (Nat.le_of_ble_eq_true rfl) (Nat.le_of_ble_eq_true rfl)
  · have hp := hp.2 hc4
    exact hp_throwW (text := "no such entry") (j := 26) 1 hx hb hst hown xf_1 (hts _ wd_X9_undo_cl319) (hts _ wd_X9_undo_in319) (List.mem_of_getElem? (i := 26) rfl) (fun w h => hts w (xm_X9_undo_323 w h)) xb_X9_323 xg_X9_323 (List.mem_of_getElem? (i := 0) rfl) hE hK h (by rw [hml]; exact hl.1) dX9_undo_11 dX9_undo_14 dX9_undo_15 dX9_undo_18 dX9_undo_21 htab (Nat.le_of_ble_eq_true rfl) (Nat.le_of_ble_eq_true rfl) (Nat.le_of_ble_eq_true rfl) (Nat.le_of_ble_eq_true rfl) hlocks rfl hp (Nat.le_of_ble_eq_true rfl) (Nat.le_of_ble_eq_true rfl)
abbrev rmX9_balance : Room := { frames := 7, cells := 1, slots := 6, locals := 112 }
theorem ix_X9_balance_9 : ∀ w ∈ wsX90, w ∈ wsX9_balance := by decide +kernel
theorem lk_X9_balance_61 : Cond.fieldLink RX9 61 "KelpShores" "store" "LKelpShores$Store;" ∈ wsX9_balance := by decide +kernel
def wp_X9_balance (z : Zt) (o : Nat) (p0 : Int32) (p1 : Int32) (p2 : Int32) (w : Vt) (K : Int32 → Vt → Prop) (X : Nat → Vt → Prop) : Prop := isO z 9 o ∧ wp_X9_needFamily z o p0 w (fun b2 w1 => isO z 0 b2 ∧ ∃ b3 : Nat, zR z 912 o = some b3 ∧ isO z 7 b3 ∧ wp_X7_sumKnown z b3 p0 p1 p2 w1 (fun r5 w4 => K r5 w4)) X
set_option maxHeartbeats 4000000 in
set_option maxRecDepth 100000 in
theorem k_X9_balance (l : Launch) (hst : l.stackTraces = false) (G : Gt) (z : Zt) (w : Vt) (sz : Nat) (o : Nat) (p0 : Int32) (p1 : Int32) (p2 : Int32) (K : Int32 → Vt → Prop) (X : Nat → Vt → Prop) (hp : wp_X9_balance z o p0 p1 p2 w K X) : XI l yX9_balance wsX9_balance rmX9_balance G z w sz [.ref o, .int p0, .int p1, .int p2] K X 1 6 := by
  refine vx_ofW (cc := cX9_balance) (maxL := 4) (ret := (some .int)) (by decide +kernel) rfl ?_
  intro p e s m args below meth c s₁ B hml htab hv
  obtain ⟨rfl, rfl, C, h⟩ := hp_start B hml hv
  generalize gA G z w s.heap.size = A at C h ⊢
  obtain ⟨hx, hb, hr, hlocks, hml, hown, hts, hK, hA, hE⟩ := id C
  obtain ⟨ho, hp⟩ := hp
  have hl := lv_entry ([.ref o, .int p0, .int p1, .int p2]) (n := 4) (Nat.le_of_ble_eq_true rfl)
  rw [lg_entry_eq]
  generalize (lg_sl ([.ref o, .int p0, .int p1, .int p2]) ++ List.replicate (4 - (lg_sl ([.ref o, .int p0, .int p1, .int p2])).length) Slot.unset).toArray = ls at hl ⊢
  have hl : lv_has ls 4 [(0, .ref o), (1, .int p0), (2, .int p1), (3, .int p2)] := hl
  refine lv_aload_n hx hb dX9_balance_0 rfl (lv_at hl 0 rfl) ?_
  refine lv_iload_n hx hb dX9_balance_1 rfl (lv_at hl 1 rfl) ?_
  refine hp_xVr ⟨hx, hb, hml, hown, hts⟩ (k_X9_needFamily l hst G z w _ o p0 _ _ hp) (cwV 1 hts gX9_balance_X9_needFamily rfl rfl rfl (by decide +kernel) ⟨Nat.le_of_ble_eq_true rfl, Nat.le_of_ble_eq_true rfl⟩) htab hlocks ho (by decide) rfl hK h hA hE rfl hl.1 rfl (Nat.le_of_ble_eq_true rfl) dX9_balance_2 ⟨Nat.le_of_ble_eq_true rfl, Nat.le_of_ble_eq_true rfl⟩ ⟨Nat.le_of_ble_eq_true rfl, Nat.le_of_ble_eq_true rfl⟩ (fun b2 w1 H locs hp h => ?_)
  obtain ⟨hob2, hp⟩ := hp
  refine lv_pop hx hb dX9_balance_5 rfl ?_
  refine lv_aload_n hx hb dX9_balance_6 rfl (lv_at hl 0 rfl) ?_
  obtain ⟨b3, eb3, hob3, hp⟩ := hp
  refine hp_get (ci := 9) (v := .ref b3) hx hb hts ix_X9_balance_9 hown hK h ho (by decide) rfl 12 (by decide) (hts _ lk_X9_balance_61) (fun _ h9 => h9) (by show some (va_rf (zR z 912 o)) = some (Value.ref b3); rw [eb3]; rfl) dX9_balance_7 ?_
  refine lv_iload_n hx hb dX9_balance_10 rfl (lv_at hl 1 rfl) ?_
  refine lv_iload_n hx hb dX9_balance_11 rfl (lv_at hl 2 rfl) ?_
  refine lv_iload_n hx hb dX9_balance_12 rfl (lv_at hl 3 rfl) ?_
  refine hp_cVi ⟨hx, hb, hml, hown, hts⟩ (k_X7_sumKnown l G z w1 _ b3 p0 p1 p2 _ hp) (cwV 3 hts gX9_balance_X7_sumKnown rfl rfl rfl (by decide +kernel) ⟨Nat.le_of_ble_eq_true rfl, Nat.le_of_ble_eq_true rfl⟩) hob3 (by decide) rfl hK h hA hE rfl hl.1 rfl (Nat.le_of_ble_eq_true rfl) dX9_balance_13 ⟨Nat.le_of_ble_eq_true rfl, Nat.le_of_ble_eq_true rfl⟩ (fun r5 w4 H locs hp h => ?_)
  exact hp_xiret hx hb hr rfl hlocks hK h hp dX9_balance_16 (Nat.le_of_ble_eq_true rfl) (Nat.le_of_ble_eq_true rfl)
