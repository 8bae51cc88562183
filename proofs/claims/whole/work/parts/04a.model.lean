abbrev rmX10_thrown : Room := { frames := 0, cells := 0, slots := 0, locals := 0 }
theorem ix_X10_thrown_10 : ∀ w ∈ wsX100, w ∈ wsX10_thrown := by decide +kernel
theorem lk_X10_thrown_127 : Cond.fieldLink RX10 127 "KelpShoresModel" "thrown" "I" ∈ wsX10_thrown := by decide +kernel
def wp_X10_thrown (z : Zt) (o : Nat) (w : Vt) (K : Int32 → Vt → Prop) : Prop := isO z 10 o ∧ K (vI w 1000 o) w
set_option maxHeartbeats 4000000 in
set_option maxRecDepth 100000 in
theorem k_X10_thrown (l : Launch) (G : Gt) (z : Zt) (w : Vt) (sz : Nat) (o : Nat) (K : Int32 → Vt → Prop) (hp : wp_X10_thrown z o w K) : MI l yX10_thrown wsX10_thrown rmX10_thrown G z w sz [.ref o] K := by
  refine Met.ofW (cc := cX10_thrown) (maxL := 1) (ret := (some .int)) (by decide +kernel) rfl ?_
  intro p e s m args below meth c s₁ B hml hv
  obtain ⟨rfl, rfl, C, h⟩ := hp_start B hml hv
  generalize gA G z w s.heap.size = A at C h ⊢
  obtain ⟨hx, hb, hr, hlocks, hml, hown, hts, hK, hA, hE⟩ := id C
  obtain ⟨ho, hp⟩ := hp
  have hl := lv_entry ([.ref o]) (n := 1) (Nat.le_of_ble_eq_true rfl)
  rw [lg_entry_eq]
  generalize (lg_sl ([.ref o]) ++ List.replicate (1 - (lg_sl ([.ref o])).length) Slot.unset).toArray = ls at hl ⊢
  have hl : lv_has ls 1 [(0, .ref o)] := hl
  refine lv_aload_n hx hb dX10_thrown_0 rfl (lv_at hl 0 rfl) ?_
  refine hp_get (ci := 10) (v := .int (vI w 1000 o)) hx hb hts ix_X10_thrown_10 hown hK h ho (by decide) rfl 0 (by decide) (hts _ lk_X10_thrown_127) (fun _ h9 => h9) rfl dX10_thrown_1 ?_
  exact hp_iret hx hb hr rfl hlocks hK h hp dX10_thrown_4
abbrev rmX10_throwsIf : Room := { frames := 0, cells := 0, slots := 0, locals := 0 }
theorem ix_X10_throwsIf_10 : ∀ w ∈ wsX100, w ∈ wsX10_throwsIf := by decide +kernel
theorem lk_X10_throwsIf_127 : Cond.fieldLink RX10 127 "KelpShoresModel" "thrown" "I" ∈ wsX10_throwsIf := by decide +kernel
def wp_X10_throwsIf (z : Zt) (o : Nat) (p0 : Int32) (p1 : Int32) (w : Vt) (K : Int32 → Vt → Prop) : Prop := isO z 10 o ∧ (p0 = 0 → isB p0 ∧ K p0 w) ∧ (¬ p0 = 0 → ∀ w2 : Vt, w2 = uI w 1000 o p1 → isB p0 ∧ K p0 w2)
set_option maxHeartbeats 4000000 in
set_option maxRecDepth 100000 in
theorem k_X10_throwsIf (l : Launch) (G : Gt) (z : Zt) (w : Vt) (sz : Nat) (o : Nat) (p0 : Int32) (p1 : Int32) (K : Int32 → Vt → Prop) (hp : wp_X10_throwsIf z o p0 p1 w K) : MI l yX10_throwsIf wsX10_throwsIf rmX10_throwsIf G z w sz [.ref o, .int p0, .int p1] K := by
  refine Met.ofW (cc := cX10_throwsIf) (maxL := 3) (ret := (some .boolean)) (by decide +kernel) rfl ?_
  intro p e s m args below meth c s₁ B hml hv
  obtain ⟨rfl, rfl, C, h⟩ := hp_start B hml hv
  generalize gA G z w s.heap.size = A at C h ⊢
  obtain ⟨hx, hb, hr, hlocks, hml, hown, hts, hK, hA, hE⟩ := id C
  obtain ⟨ho, hp⟩ := hp
  have hl := lv_entry ([.ref o, .int p0, .int p1]) (n := 3) (Nat.le_of_ble_eq_true rfl)
  rw [lg_entry_eq]
  generalize (lg_sl ([.ref o, .int p0, .int p1]) ++ List.replicate (3 - (lg_sl ([.ref o, .int p0, .int p1])).length) Slot.unset).toArray = ls at hl ⊢
  have hl : lv_has ls 3 [(0, .ref o), (1, .int p0), (2, .int p1)] := hl
  refine lv_iload_n hx hb dX10_throwsIf_0 rfl (lv_at hl 1 rfl) ?_
  refine lv_if_eq (tgt := 9) hx hb dX10_throwsIf_1 (by decide) (fun hc1 => ?_) (fun hc1 => ?_)
  · have hp := hp.1 hc1
    refine lv_iload_n hx hb dX10_throwsIf_9 rfl (lv_at hl 1 rfl) ?_
    exact hp_iret hx hb hr (isB_n hp.1) hlocks hK h hp.2 dX10_throwsIf_10
  · have hp := hp.2 hc1
    refine lv_aload_n hx hb dX10_throwsIf_4 rfl (lv_at hl 0 rfl) ?_
    refine lv_iload_n hx hb dX10_throwsIf_5 rfl (lv_at hl 2 rfl) ?_
    refine hp_puti (ci := 10) (ty := .int) (x := p1) hx hb hts ix_X10_throwsIf_10 tyX10 tyX10_ok nmX10 hown hK h ho (by decide) rfl 0 1000 (by decide) (hts _ lk_X10_throwsIf_127) (fun _ h9 => h9) rfl (by decide +kernel) rfl rfl (fun _ _ => rfl) (fun _ _ => Nat.le_of_ble_eq_true rfl) dX10_throwsIf_6 (fun H locs w2 ew2 h => ?_)
    have hp := hp w2 ew2
    refine lv_iload_n hx hb dX10_throwsIf_9 rfl (lv_at hl 1 rfl) ?_
    exact hp_iret hx hb hr (isB_n hp.1) hlocks hK h hp.2 dX10_throwsIf_10
abbrev rmX10_in : Room := { frames := 0, cells := 0, slots := 0, locals := 0 }
def wp_X10_in (z : Zt) (p0 : Int32) (p1 : Int32) (p2 : Int32) (w : Vt) (K : Int32 → Vt → Prop) : Prop := (p0 < p1 → K 0 w) ∧ (¬ p0 < p1 → (p2 < p0 → K 0 w) ∧ (¬ p2 < p0 → K 1 w))
set_option maxHeartbeats 4000000 in
set_option maxRecDepth 100000 in
theorem k_X10_in (l : Launch) (G : Gt) (z : Zt) (w : Vt) (sz : Nat) (p0 : Int32) (p1 : Int32) (p2 : Int32) (K : Int32 → Vt → Prop) (hp : wp_X10_in z p0 p1 p2 w K) : MI l yX10_in wsX10_in rmX10_in G z w sz [.int p0, .int p1, .int p2] K := by
  refine Met.ofW (cc := cX10_in) (maxL := 3) (ret := (some .boolean)) (by decide +kernel) rfl ?_
  intro p e s m args below meth c s₁ B hml hv
  obtain ⟨rfl, rfl, C, h⟩ := hp_start B hml hv
  generalize gA G z w s.heap.size = A at C h ⊢
  obtain ⟨hx, hb, hr, hlocks, hml, hown, hts, hK, hA, hE⟩ := id C
  have hl := lv_entry ([.int p0, .int p1, .int p2]) (n := 3) (Nat.le_of_ble_eq_true rfl)
  rw [lg_entry_eq]
  generalize (lg_sl ([.int p0, .int p1, .int p2]) ++ List.replicate (3 - (lg_sl ([.int p0, .int p1, .int p2])).length) Slot.unset).toArray = ls at hl ⊢
  have hl : lv_has ls 3 [(0, .int p0), (1, .int p1), (2, .int p2)] := hl
  refine lv_iload_n hx hb dX10_in_0 rfl (lv_at hl 0 rfl) ?_
  refine lv_iload_n hx hb dX10_in_1 rfl (lv_at hl 1 rfl) ?_
  refine lv_icmp_lt (tgt := 14) hx hb dX10_in_2 (by decide) (fun hc1 => ?_) (fun hc1 => ?_)
  · have hp := hp.1 hc1
    refine lv_iconst (v := 0) hx hb dX10_in_14 (by decide) ?_
    exact hp_iret hx hb hr rfl hlocks hK h hp dX10_in_15
  · have hp := hp.2 hc1
    refine lv_iload_n hx hb dX10_in_5 rfl (lv_at hl 0 rfl) ?_
    refine lv_iload_n hx hb dX10_in_6 rfl (lv_at hl 2 rfl) ?_
    refine lv_icmp_gt (tgt := 14) hx hb dX10_in_7 (by decide) (fun hc2 => ?_) (fun hc2 => ?_)
    · have hp := hp.1 hc2
      refine lv_iconst (v := 0) hx hb dX10_in_14 (by decide) ?_
      exact hp_iret hx hb hr rfl hlocks hK h hp dX10_in_15
    · have hp := hp.2 hc2
      refine lv_iconst (v := 1) hx hb dX10_in_10 (by decide) ?_
      refine lv_goto (tgt := 15) hx hb dX10_in_11 (by decide) ?_
      exact hp_iret hx hb hr rfl hlocks hK h hp dX10_in_15
abbrev rmX10_noShore : Room := { frames := 1, cells := 0, slots := 0, locals := 22 }
theorem ix_X10_noShore_10 : ∀ w ∈ wsX100, w ∈ wsX10_noShore := by decide +kernel
theorem lk_X10_noShore_130 : Cond.fieldLink RX10 130 "KelpShoresModel" "shores" "I" ∈ wsX10_noShore := by decide +kernel
def wp_X10_noShore (z : Zt) (o : Nat) (p0 : Int32) (w : Vt) (K : Int32 → Vt → Prop) : Prop := isO z 10 o ∧ wp_X10_in z p0 0 ((vI w 1014 o) - 1) w (fun r2 w1 => (¬ r2 = 0 → K 0 w1) ∧ (r2 = 0 → K 1 w1))
set_option maxHeartbeats 4000000 in
set_option maxRecDepth 100000 in
theorem k_X10_noShore (l : Launch) (G : Gt) (z : Zt) (w : Vt) (sz : Nat) (o : Nat) (p0 : Int32) (K : Int32 → Vt → Prop) (hp : wp_X10_noShore z o p0 w K) : MI l yX10_noShore wsX10_noShore rmX10_noShore G z w sz [.ref o, .int p0] K := by
  refine Met.ofW (cc := cX10_noShore) (maxL := 2) (ret := (some .boolean)) (by decide +kernel) rfl ?_
  intro p e s m args below meth c s₁ B hml hv
  obtain ⟨rfl, rfl, C, h⟩ := hp_start B hml hv
  generalize gA G z w s.heap.size = A at C h ⊢
  obtain ⟨hx, hb, hr, hlocks, hml, hown, hts, hK, hA, hE⟩ := id C
  obtain ⟨ho, hp⟩ := hp
  have hl := lv_entry ([.ref o, .int p0]) (n := 2) (Nat.le_of_ble_eq_true rfl)
  rw [lg_entry_eq]
  generalize (lg_sl ([.ref o, .int p0]) ++ List.replicate (2 - (lg_sl ([.ref o, .int p0])).length) Slot.unset).toArray = ls at hl ⊢
  have hl : lv_has ls 2 [(0, .ref o), (1, .int p0)] := hl
  refine lv_iload_n hx hb dX10_noShore_0 rfl (lv_at hl 1 rfl) ?_
  refine lv_iconst (v := 0) hx hb dX10_noShore_1 (by decide) ?_
  refine lv_aload_n hx hb dX10_noShore_2 rfl (lv_at hl 0 rfl) ?_
  refine hp_get (ci := 10) (v := .int (vI w 1014 o)) hx hb hts ix_X10_noShore_10 hown hK h ho (by decide) rfl 14 (by decide) (hts _ lk_X10_noShore_130) (fun _ h9 => h9) rfl dX10_noShore_3 ?_
  refine lv_iconst (v := 1) hx hb dX10_noShore_6 (by decide) ?_
  refine lv_isub hx hb dX10_noShore_7 ?_
  refine hp_cSi ⟨hx, hb, hml, hown, hts⟩ (k_X10_in l G z w _ p0 0 ((vI w 1014 o) - 1) _ hp) (cwS 3 hts gX10_noShore_X10_in rfl rfl rfl (by decide +kernel) ⟨Nat.le_of_ble_eq_true rfl, Nat.le_of_ble_eq_true rfl⟩) hK h hA hE rfl hl.1 rfl (Nat.le_of_ble_eq_true rfl) dX10_noShore_8 ⟨Nat.le_of_ble_eq_true rfl, Nat.le_of_ble_eq_true rfl⟩ (fun r2 w1 H locs hp h => ?_)
  refine lv_if_ne (tgt := 18) hx hb dX10_noShore_11 (by decide) (fun hc3 => ?_) (fun hc3 => ?_)
  · have hp := hp.1 hc3
    refine lv_iconst (v := 0) hx hb dX10_noShore_18 (by decide) ?_
    exact hp_iret hx hb hr rfl hlocks hK h hp dX10_noShore_19
  · have hp := hp.2 hc3
    refine lv_iconst (v := 1) hx hb dX10_noShore_14 (by decide) ?_
    refine lv_goto (tgt := 19) hx hb dX10_noShore_15 (by decide) ?_
    exact hp_iret hx hb hr rfl hlocks hK h hp dX10_noShore_19
abbrev rmX10_noRock : Room := { frames := 2, cells := 0, slots := 0, locals := 43 }
theorem ix_X10_noRock_10 : ∀ w ∈ wsX100, w ∈ wsX10_noRock := by decide +kernel
theorem lk_X10_noRock_37 : Cond.fieldLink RX10 37 "KelpShoresModel" "rocks" "[I" ∈ wsX10_noRock := by decide +kernel
def wp_X10_noRock (z : Zt) (o : Nat) (p0 : Int32) (p1 : Int32) (w : Vt) (K : Int32 → Vt → Prop) : Prop := isO z 10 o ∧ wp_X10_noShore z o p0 w (fun r2 w1 => (¬ r2 = 0 → K 1 w1) ∧ (r2 = 0 → ∃ b4 : Nat, zR z 1012 o = some b4 ∧ isO z 2012 b4 ∧ vp_in p0 6 ∧ wp_X10_in z p1 0 ((vA w1 2012 b4 (p0 : Int32).toNatClampNeg) - 1) w1 (fun r6 w5 => (¬ r6 = 0 → K 0 w5) ∧ (r6 = 0 → K 1 w5))))
set_option maxHeartbeats 4000000 in
set_option maxRecDepth 100000 in
theorem k_X10_noRock (l : Launch) (G : Gt) (z : Zt) (w : Vt) (sz : Nat) (o : Nat) (p0 : Int32) (p1 : Int32) (K : Int32 → Vt → Prop) (hp : wp_X10_noRock z o p0 p1 w K) : MI l yX10_noRock wsX10_noRock rmX10_noRock G z w sz [.ref o, .int p0, .int p1] K := by
  refine Met.ofW (cc := cX10_noRock) (maxL := 3) (ret := (some .boolean)) (by decide +kernel) rfl ?_
  intro p e s m args below meth c s₁ B hml hv
  obtain ⟨rfl, rfl, C, h⟩ := hp_start B hml hv
  generalize gA G z w s.heap.size = A at C h ⊢
  obtain ⟨hx, hb, hr, hlocks, hml, hown, hts, hK, hA, hE⟩ := id C
  obtain ⟨ho, hp⟩ := hp
  have hl := lv_entry ([.ref o, .int p0, .int p1]) (n := 3) (Nat.le_of_ble_eq_true rfl)
  rw [lg_entry_eq]
  generalize (lg_sl ([.ref o, .int p0, .int p1]) ++ List.replicate (3 - (lg_sl ([.ref o, .int p0, .int p1])).length) Slot.unset).toArray = ls at hl ⊢
  have hl : lv_has ls 3 [(0, .ref o), (1, .int p0), (2, .int p1)] := hl
  refine lv_aload_n hx hb dX10_noRock_0 rfl (lv_at hl 0 rfl) ?_
  refine lv_iload_n hx hb dX10_noRock_1 rfl (lv_at hl 1 rfl) ?_
  refine hp_cVi ⟨hx, hb, hml, hown, hts⟩ (k_X10_noShore l G z w _ o p0 _ hp) (cwV 1 hts gX10_noRock_X10_noShore rfl rfl rfl (by decide +kernel) ⟨Nat.le_of_ble_eq_true rfl, Nat.le_of_ble_eq_true rfl⟩) ho (by decide) rfl hK h hA hE rfl hl.1 rfl (Nat.le_of_ble_eq_true rfl) dX10_noRock_2 ⟨Nat.le_of_ble_eq_true rfl, Nat.le_of_ble_eq_true rfl⟩ (fun r2 w1 H locs hp h => ?_)
  refine lv_if_ne (tgt := 24) hx hb dX10_noRock_5 (by decide) (fun hc3 => ?_) (fun hc3 => ?_)
  · have hp := hp.1 hc3
    refine lv_iconst (v := 1) hx hb dX10_noRock_24 (by decide) ?_
    refine lv_goto (tgt := 29) hx hb dX10_noRock_25 (by decide) ?_
    exact hp_iret hx hb hr rfl hlocks hK h hp dX10_noRock_29
  · have hp := hp.2 hc3
    refine lv_iload_n hx hb dX10_noRock_8 rfl (lv_at hl 2 rfl) ?_
    refine lv_iconst (v := 0) hx hb dX10_noRock_9 (by decide) ?_
    refine lv_aload_n hx hb dX10_noRock_10 rfl (lv_at hl 0 rfl) ?_
    obtain ⟨b4, eb4, hob4, hp⟩ := hp
    refine hp_get (ci := 10) (v := .ref b4) hx hb hts ix_X10_noRock_10 hown hK h ho (by decide) rfl 12 (by decide) (hts _ lk_X10_noRock_37) (fun _ h9 => h9) (by show some (va_rf (zR z 1012 o)) = some (Value.ref b4); rw [eb4]; rfl) dX10_noRock_11 ?_
    refine lv_iload_n hx hb dX10_noRock_14 rfl (lv_at hl 1 rfl) ?_
    refine hp_iald (t := 2012) (n := 6) hx hb hK h hob4 (by decide) (fun _ _ _ => rfl) hp.1 dX10_noRock_15 ?_
    have hp := hp.2
    refine lv_iconst (v := 1) hx hb dX10_noRock_16 (by decide) ?_
    refine lv_isub hx hb dX10_noRock_17 ?_
    refine hp_cSi ⟨hx, hb, hml, hown, hts⟩ (k_X10_in l G z w1 _ p1 0 ((vA w1 2012 b4 (p0 : Int32).toNatClampNeg) - 1) _ hp) (cwS 3 hts gX10_noRock_X10_in rfl rfl rfl (by decide +kernel) ⟨Nat.le_of_ble_eq_true rfl, Nat.le_of_ble_eq_true rfl⟩) hK h hA hE rfl hl.1 rfl (Nat.le_of_ble_eq_true rfl) dX10_noRock_18 ⟨Nat.le_of_ble_eq_true rfl, Nat.le_of_ble_eq_true rfl⟩ (fun r6 w5 H locs hp h => ?_)
    refine lv_if_ne (tgt := 28) hx hb dX10_noRock_21 (by decide) (fun hc7 => ?_) (fun hc7 => ?_)
    · have hp := hp.1 hc7
      refine lv_iconst (v := 0) hx hb dX10_noRock_28 (by decide) ?_
      exact hp_iret hx hb hr rfl hlocks hK h hp dX10_noRock_29
    · have hp := hp.2 hc7
      refine lv_iconst (v := 1) hx hb dX10_noRock_24 (by decide) ?_
      refine lv_goto (tgt := 29) hx hb dX10_noRock_25 (by decide) ?_
      exact hp_iret hx hb hr rfl hlocks hK h hp dX10_noRock_29
abbrev rmX10_noFamily : Room := { frames := 1, cells := 0, slots := 0, locals := 22 }
def wp_X10_noFamily (z : Zt) (p0 : Int32) (w : Vt) (K : Int32 → Vt → Prop) : Prop := wp_X10_in z p0 0 7 w (fun r2 w1 => (¬ r2 = 0 → K 0 w1) ∧ (r2 = 0 → K 1 w1))
set_option maxHeartbeats 4000000 in
set_option maxRecDepth 100000 in
theorem k_X10_noFamily (l : Launch) (G : Gt) (z : Zt) (w : Vt) (sz : Nat) (p0 : Int32) (K : Int32 → Vt → Prop) (hp : wp_X10_noFamily z p0 w K) : MI l yX10_noFamily wsX10_noFamily rmX10_noFamily G z w sz [.int p0] K := by
  refine Met.ofW (cc := cX10_noFamily) (maxL := 1) (ret := (some .boolean)) (by decide +kernel) rfl ?_
  intro p e s m args below meth c s₁ B hml hv
  obtain ⟨rfl, rfl, C, h⟩ := hp_start B hml hv
  generalize gA G z w s.heap.size = A at C h ⊢
  obtain ⟨hx, hb, hr, hlocks, hml, hown, hts, hK, hA, hE⟩ := id C
  have hl := lv_entry ([.int p0]) (n := 1) (Nat.le_of_ble_eq_true rfl)
  rw [lg_entry_eq]
  generalize (lg_sl ([.int p0]) ++ List.replicate (1 - (lg_sl ([.int p0])).length) Slot.unset).toArray = ls at hl ⊢
  have hl : lv_has ls 1 [(0, .int p0)] := hl
  refine lv_iload_n hx hb dX10_noFamily_0 rfl (lv_at hl 0 rfl) ?_
  refine lv_iconst (v := 0) hx hb dX10_noFamily_1 (by decide) ?_
  refine lv_bipush (v := 7) hx hb dX10_noFamily_2 (by decide) ?_
  refine hp_cSi ⟨hx, hb, hml, hown, hts⟩ (k_X10_in l G z w _ p0 0 7 _ hp) (cwS 3 hts gX10_noFamily_X10_in rfl rfl rfl (by decide +kernel) ⟨Nat.le_of_ble_eq_true rfl, Nat.le_of_ble_eq_true rfl⟩) hK h hA hE rfl hl.1 rfl (Nat.le_of_ble_eq_true rfl) dX10_noFamily_4 ⟨Nat.le_of_ble_eq_true rfl, Nat.le_of_ble_eq_true rfl⟩ (fun r2 w1 H locs hp h => ?_)
  refine lv_if_ne (tgt := 14) hx hb dX10_noFamily_7 (by decide) (fun hc3 => ?_) (fun hc3 => ?_)
  · have hp := hp.1 hc3
    refine lv_iconst (v := 0) hx hb dX10_noFamily_14 (by decide) ?_
    exact hp_iret hx hb hr rfl hlocks hK h hp dX10_noFamily_15
  · have hp := hp.2 hc3
    refine lv_iconst (v := 1) hx hb dX10_noFamily_10 (by decide) ?_
    refine lv_goto (tgt := 15) hx hb dX10_noFamily_11 (by decide) ?_
    exact hp_iret hx hb hr rfl hlocks hK h hp dX10_noFamily_15
abbrev rmX10_shore : Room := { frames := 1, cells := 0, slots := 0, locals := 22 }
theorem ix_X10_shore_10 : ∀ w ∈ wsX100, w ∈ wsX10_shore := by decide +kernel
theorem lk_X10_shore_127 : Cond.fieldLink RX10 127 "KelpShoresModel" "thrown" "I" ∈ wsX10_shore := by decide +kernel
theorem lk_X10_shore_130 : Cond.fieldLink RX10 130 "KelpShoresModel" "shores" "I" ∈ wsX10_shore := by decide +kernel
def wp_X10_shore (z : Zt) (o : Nat) (w : Vt) (K : Int32 → Vt → Prop) : Prop := isO z 10 o ∧ ∀ w1 : Vt, w1 = uI w 1000 o 0 → ∃ J2 : Int32 → Vt → Prop, (∀ (x3 : Int32) (w4 : Vt), J2 x3 w4 → wp_X10_throwsIf z o x3 1 w4 (fun r7 w6 => (r7 = 0 → ∀ w9 : Vt, w9 = uI w6 1014 o ((vI w6 1014 o) + 1) → K ((vI w9 1014 o) - 1) w9) ∧ (¬ r7 = 0 → K 0 w6))) ∧ (¬ (vI w1 1014 o) = 6 → J2 0 w1) ∧ ((vI w1 1014 o) = 6 → J2 1 w1)
set_option maxHeartbeats 4000000 in
set_option maxRecDepth 100000 in
theorem k_X10_shore (l : Launch) (G : Gt) (z : Zt) (w : Vt) (sz : Nat) (o : Nat) (K : Int32 → Vt → Prop) (hp : wp_X10_shore z o w K) : MI l yX10_shore wsX10_shore rmX10_shore G z w sz [.ref o] K := by
  refine Met.ofW (cc := cX10_shore) (maxL := 1) (ret := (some .int)) (by decide +kernel) rfl ?_
  intro p e s m args below meth c s₁ B hml hv
  obtain ⟨rfl, rfl, C, h⟩ := hp_start B hml hv
  generalize gA G z w s.heap.size = A at C h ⊢
  obtain ⟨hx, hb, hr, hlocks, hml, hown, hts, hK, hA, hE⟩ := id C
  obtain ⟨ho, hp⟩ := hp
  have hl := lv_entry ([.ref o]) (n := 1) (Nat.le_of_ble_eq_true rfl)
  rw [lg_entry_eq]
  generalize (lg_sl ([.ref o]) ++ List.replicate (1 - (lg_sl ([.ref o])).length) Slot.unset).toArray = ls at hl ⊢
  have hl : lv_has ls 1 [(0, .ref o)] := hl
  refine lv_aload_n hx hb dX10_shore_0 rfl (lv_at hl 0 rfl) ?_
  refine lv_iconst (v := 0) hx hb dX10_shore_1 (by decide) ?_
  refine hp_puti (ci := 10) (ty := .int) (x := 0) hx hb hts ix_X10_shore_10 tyX10 tyX10_ok nmX10 hown hK h ho (by decide) rfl 0 1000 (by decide) (hts _ lk_X10_shore_127) (fun _ h9 => h9) rfl (by decide +kernel) rfl rfl (fun _ _ => rfl) (fun _ _ => Nat.le_of_ble_eq_true rfl) dX10_shore_2 (fun H locs w1 ew1 h => ?_)
  have hp := hp w1 ew1
  refine lv_aload_n hx hb dX10_shore_5 rfl (lv_at hl 0 rfl) ?_
  refine lv_aload_n hx hb dX10_shore_6 rfl (lv_at hl 0 rfl) ?_
  refine hp_get (ci := 10) (v := .int (vI w1 1014 o)) hx hb hts ix_X10_shore_10 hown hK h ho (by decide) rfl 14 (by decide) (hts _ lk_X10_shore_130) (fun _ h9 => h9) rfl dX10_shore_7 ?_
  refine lv_bipush (v := 6) hx hb dX10_shore_10 (by decide) ?_
  obtain ⟨J2, jJ2, hp⟩ := hp
  refine hp_jn1 (G := G) (A := A) (z := z) (J := J2) (nL := 1) (j := 20) (lvf := fun x3 => [(0, .ref o)]) (stf := fun x3 => [.int x3, .ref o]) (fun kJ2 => ?_) (fun x3 w4 H locs ls hp h hl => ?_)
  · refine lv_icmp_ne (tgt := 19) hx hb dX10_shore_12 (by decide) (fun hc5 => ?_) (fun hc5 => ?_)
    · have hp := hp.1 hc5
      refine lv_iconst (v := 0) hx hb dX10_shore_19 (by decide) ?_
      exact kJ2 0 w1 _ _ _ hp h (lv_sub hl [0] rfl)
    · have hp := hp.2 hc5
      refine lv_iconst (v := 1) hx hb dX10_shore_15 (by decide) ?_
      refine lv_goto (tgt := 20) hx hb dX10_shore_16 (by decide) ?_
      exact kJ2 1 w1 _ _ _ hp h (lv_sub hl [0] rfl)
  have hp := jJ2 x3 w4 hp
  refine lv_iconst (v := 1) hx hb dX10_shore_20 (by decide) ?_
  refine hp_cVi ⟨hx, hb, hml, hown, hts⟩ (k_X10_throwsIf l G z w4 _ o x3 1 _ hp) (cwV 2 hts gX10_shore_X10_throwsIf rfl rfl rfl (by decide +kernel) ⟨Nat.le_of_ble_eq_true rfl, Nat.le_of_ble_eq_true rfl⟩) ho (by decide) rfl hK h hA hE rfl hl.1 rfl (Nat.le_of_ble_eq_true rfl) dX10_shore_21 ⟨Nat.le_of_ble_eq_true rfl, Nat.le_of_ble_eq_true rfl⟩ (fun r7 w6 H locs hp h => ?_)
  refine lv_if_eq (tgt := 29) hx hb dX10_shore_24 (by decide) (fun hc8 => ?_) (fun hc8 => ?_)
  · have hp := hp.1 hc8
    refine lv_aload_n hx hb dX10_shore_29 rfl (lv_at hl 0 rfl) ?_
    refine lv_dup hx hb dX10_shore_30 rfl ?_
    refine hp_get (ci := 10) (v := .int (vI w6 1014 o)) hx hb hts ix_X10_shore_10 hown hK h ho (by decide) rfl 14 (by decide) (hts _ lk_X10_shore_130) (fun _ h9 => h9) rfl dX10_shore_31 ?_
    refine lv_iconst (v := 1) hx hb dX10_shore_34 (by decide) ?_
    refine lv_iadd hx hb dX10_shore_35 ?_
    refine hp_puti (ci := 10) (ty := .int) (x := (vI w6 1014 o) + 1) hx hb hts ix_X10_shore_10 tyX10 tyX10_ok nmX10 hown hK h ho (by decide) rfl 14 1014 (by decide) (hts _ lk_X10_shore_130) (fun _ h9 => h9) rfl (by decide +kernel) rfl rfl (fun _ _ => rfl) (fun _ _ => Nat.le_of_ble_eq_true rfl) dX10_shore_36 (fun H locs w9 ew9 h => ?_)
    have hp := hp w9 ew9
    refine lv_aload_n hx hb dX10_shore_39 rfl (lv_at hl 0 rfl) ?_
    refine hp_get (ci := 10) (v := .int (vI w9 1014 o)) hx hb hts ix_X10_shore_10 hown hK h ho (by decide) rfl 14 (by decide) (hts _ lk_X10_shore_130) (fun _ h9 => h9) rfl dX10_shore_40 ?_
    refine lv_iconst (v := 1) hx hb dX10_shore_43 (by decide) ?_
    refine lv_isub hx hb dX10_shore_44 ?_
    exact hp_iret hx hb hr rfl hlocks hK h hp dX10_shore_45
  · have hp := hp.2 hc8
    refine lv_iconst (v := 0) hx hb dX10_shore_27 (by decide) ?_
    exact hp_iret hx hb hr rfl hlocks hK h hp dX10_shore_28
abbrev rmX10_rock : Room := { frames := 2, cells := 0, slots := 0, locals := 43 }
theorem ix_X10_rock_10 : ∀ w ∈ wsX100, w ∈ wsX10_rock := by decide +kernel
theorem lk_X10_rock_127 : Cond.fieldLink RX10 127 "KelpShoresModel" "thrown" "I" ∈ wsX10_rock := by decide +kernel
theorem lk_X10_rock_37 : Cond.fieldLink RX10 37 "KelpShoresModel" "rocks" "[I" ∈ wsX10_rock := by decide +kernel
theorem lk_X10_rock_9 : Cond.fieldLink RX10 9 "KelpShoresModel" "depth" "[I" ∈ wsX10_rock := by decide +kernel
theorem lk_X10_rock_13 : Cond.fieldLink RX10 13 "KelpShoresModel" "room" "[I" ∈ wsX10_rock := by decide +kernel
theorem lk_X10_rock_16 : Cond.fieldLink RX10 16 "KelpShoresModel" "weed" "[I" ∈ wsX10_rock := by decide +kernel
theorem lk_X10_rock_22 : Cond.fieldLink RX10 22 "KelpShoresModel" "grew" "[I" ∈ wsX10_rock := by decide +kernel
theorem lk_X10_rock_19 : Cond.fieldLink RX10 19 "KelpShoresModel" "cutYear" "[I" ∈ wsX10_rock := by decide +kernel
theorem lk_X10_rock_34 : Cond.fieldLink RX10 34 "KelpShoresModel" "cutOn" "[I" ∈ wsX10_rock := by decide +kernel
def wp_X10_rock (z : Zt) (o : Nat) (p0 : Int32) (p1 : Int32) (p2 : Int32) (w : Vt) (K : Int32 → Vt → Prop) : Prop := isO z 10 o ∧ ∀ w1 : Vt, w1 = uI w 1000 o 0 → wp_X10_noShore z o p0 w1 (fun r3 w2 => wp_X10_throwsIf z o r3 1 w2 (fun r5 w4 => (¬ r5 = 0 → K 0 w4) ∧ (r5 = 0 → wp_X10_in z p1 0 9 w4 (fun r8 w7 => ∃ J9 : Int32 → Vt → Prop, (∀ (x10 : Int32) (w11 : Vt), J9 x10 w11 → wp_X10_throwsIf z o x10 2 w11 (fun r17 w16 => (¬ r17 = 0 → K 0 w16) ∧ (r17 = 0 → ∃ b19 : Nat, zR z 1012 o = some b19 ∧ isO z 2012 b19 ∧ vp_in p0 6 ∧ ∃ J20 : Int32 → Vt → Prop, (∀ (x21 : Int32) (w22 : Vt), J20 x21 w22 → wp_X10_throwsIf z o x21 3 w22 (fun r25 w24 => (r25 = 0 → vp_in p0 6 ∧ ∀ x27 : Int32, x27 = (4 * p0) + (vA w24 2012 b19 (p0 : Int32).toNatClampNeg) → ∃ b28 : Nat, zR z 1003 o = some b28 ∧ isO z 2003 b28 ∧ vp_in x27 24 ∧ ∀ w29 : Vt, w29 = uA w24 2003 b28 (x27 : Int32).toNatClampNeg p1 → ∃ b30 : Nat, zR z 1004 o = some b30 ∧ isO z 2004 b30 ∧ vp_in x27 24 ∧ ∀ w31 : Vt, w31 = uA w29 2004 b30 (x27 : Int32).toNatClampNeg p2 → ∃ b32 : Nat, zR z 1005 o = some b32 ∧ isO z 2005 b32 ∧ vp_in x27 24 ∧ ∀ w33 : Vt, w33 = uA w31 2005 b32 (x27 : Int32).toNatClampNeg p2 → ∃ b34 : Nat, zR z 1007 o = some b34 ∧ isO z 2007 b34 ∧ vp_in x27 24 ∧ ∀ w35 : Vt, w35 = uA w33 2007 b34 (x27 : Int32).toNatClampNeg p2 → ∃ b36 : Nat, zR z 1006 o = some b36 ∧ isO z 2006 b36 ∧ vp_in x27 24 ∧ ∀ w37 : Vt, w37 = uA w35 2006 b36 (x27 : Int32).toNatClampNeg (-1) → ∃ b38 : Nat, zR z 1011 o = some b38 ∧ isO z 2011 b38 ∧ vp_in x27 24 ∧ ∀ w39 : Vt, w39 = uA w37 2011 b38 (x27 : Int32).toNatClampNeg (-1) → vp_in p0 6 ∧ vp_in p0 6 ∧ ∀ w40 : Vt, w40 = uA w39 2012 b19 (p0 : Int32).toNatClampNeg ((vA w39 2012 b19 (p0 : Int32).toNatClampNeg) + 1) → vp_in p0 6 ∧ K ((vA w40 2012 b19 (p0 : Int32).toNatClampNeg) - 1) w40) ∧ (¬ r25 = 0 → K 0 w24))) ∧ (¬ (vA w16 2012 b19 (p0 : Int32).toNatClampNeg) = 4 → J20 0 w16) ∧ ((vA w16 2012 b19 (p0 : Int32).toNatClampNeg) = 4 → J20 1 w16)))) ∧ (r8 = 0 → J9 1 w7) ∧ (¬ r8 = 0 → wp_X10_in z p2 1 1000 w7 (fun r14 w13 => (¬ r14 = 0 → J9 0 w13) ∧ (r14 = 0 → J9 1 w13)))))))
set_option maxHeartbeats 4000000 in
set_option maxRecDepth 100000 in
theorem k_X10_rock (l : Launch) (G : Gt) (z : Zt) (w : Vt) (sz : Nat) (o : Nat) (p0 : Int32) (p1 : Int32) (p2 : Int32) (K : Int32 → Vt → Prop) (hp : wp_X10_rock z o p0 p1 p2 w K) : MI l yX10_rock wsX10_rock rmX10_rock G z w sz [.ref o, .int p0, .int p1, .int p2] K := by
  refine Met.ofW (cc := cX10_rock) (maxL := 5) (ret := (some .int)) (by decide +kernel) rfl ?_
  intro p e s m args below meth c s₁ B hml hv
  obtain ⟨rfl, rfl, C, h⟩ := hp_start B hml hv
  generalize gA G z w s.heap.size = A at C h ⊢
  obtain ⟨hx, hb, hr, hlocks, hml, hown, hts, hK, hA, hE⟩ := id C
  obtain ⟨ho, hp⟩ := hp
  have hl := lv_entry ([.ref o, .int p0, .int p1, .int p2]) (n := 5) (Nat.le_of_ble_eq_true rfl)
  rw [lg_entry_eq]
  generalize (lg_sl ([.ref o, .int p0, .int p1, .int p2]) ++ List.replicate (5 - (lg_sl ([.ref o, .int p0, .int p1, .int p2])).length) Slot.unset).toArray = ls at hl ⊢
  have hl : lv_has ls 5 [(0, .ref o), (1, .int p0), (2, .int p1), (3, .int p2)] := hl
  refine lv_aload_n hx hb dX10_rock_0 rfl (lv_at hl 0 rfl) ?_
  refine lv_iconst (v := 0) hx hb dX10_rock_1 (by decide) ?_
  refine hp_puti (ci := 10) (ty := .int) (x := 0) hx hb hts ix_X10_rock_10 tyX10 tyX10_ok nmX10 hown hK h ho (by decide) rfl 0 1000 (by decide) (hts _ lk_X10_rock_127) (fun _ h9 => h9) rfl (by decide +kernel) rfl rfl (fun _ _ => rfl) (fun _ _ => Nat.le_of_ble_eq_true rfl) dX10_rock_2 (fun H locs w1 ew1 h => ?_)
  have hp := hp w1 ew1
  refine lv_aload_n hx hb dX10_rock_5 rfl (lv_at hl 0 rfl) ?_
  refine lv_aload_n hx hb dX10_rock_6 rfl (lv_at hl 0 rfl) ?_
  refine lv_iload_n hx hb dX10_rock_7 rfl (lv_at hl 1 rfl) ?_
  refine hp_cVi ⟨hx, hb, hml, hown, hts⟩ (k_X10_noShore l G z w1 _ o p0 _ hp) (cwV 1 hts gX10_rock_X10_noShore rfl rfl rfl (by decide +kernel) ⟨Nat.le_of_ble_eq_true rfl, Nat.le_of_ble_eq_true rfl⟩) ho (by decide) rfl hK h hA hE rfl hl.1 rfl (Nat.le_of_ble_eq_true rfl) dX10_rock_8 ⟨Nat.le_of_ble_eq_true rfl, Nat.le_of_ble_eq_true rfl⟩ (fun r3 w2 H locs hp h => ?_)
  refine lv_iconst (v := 1) hx hb dX10_rock_11 (by decide) ?_
  refine hp_cVi ⟨hx, hb, hml, hown, hts⟩ (k_X10_throwsIf l G z w2 _ o r3 1 _ hp) (cwV 2 hts gX10_rock_X10_throwsIf rfl rfl rfl (by decide +kernel) ⟨Nat.le_of_ble_eq_true rfl, Nat.le_of_ble_eq_true rfl⟩) ho (by decide) rfl hK h hA hE rfl hl.1 rfl (Nat.le_of_ble_eq_true rfl) dX10_rock_12 ⟨Nat.le_of_ble_eq_true rfl, Nat.le_of_ble_eq_true rfl⟩ (fun r5 w4 H locs hp h => ?_)
  refine lv_if_ne (tgt := 75) hx hb dX10_rock_15 (by decide) (fun hc6 => ?_) (fun hc6 => ?_)
  · have hp := hp.1 hc6
    refine lv_iconst (v := 0) hx hb dX10_rock_75 (by decide) ?_
    exact hp_iret hx hb hr rfl hlocks hK h hp dX10_rock_76
  · have hp := hp.2 hc6
    refine lv_aload_n hx hb dX10_rock_18 rfl (lv_at hl 0 rfl) ?_
    refine lv_iload_n hx hb dX10_rock_19 rfl (lv_at hl 2 rfl) ?_
    refine lv_iconst (v := 0) hx hb dX10_rock_20 (by decide) ?_
    refine lv_bipush (v := 9) hx hb dX10_rock_21 (by decide) ?_
    refine hp_cSi ⟨hx, hb, hml, hown, hts⟩ (k_X10_in l G z w4 _ p1 0 9 _ hp) (cwS 3 hts gX10_rock_X10_in rfl rfl rfl (by decide +kernel) ⟨Nat.le_of_ble_eq_true rfl, Nat.le_of_ble_eq_true rfl⟩) hK h hA hE rfl hl.1 rfl (Nat.le_of_ble_eq_true rfl) dX10_rock_23 ⟨Nat.le_of_ble_eq_true rfl, Nat.le_of_ble_eq_true rfl⟩ (fun r8 w7 H locs hp h => ?_)
    obtain ⟨J9, jJ9, hp⟩ := hp
    refine hp_jn1 (G := G) (A := A) (z := z) (J := J9) (nL := 5) (j := 45) (lvf := fun x10 => [(0, .ref o), (1, .int p0), (2, .int p1), (3, .int p2)]) (stf := fun x10 => [.int x10, .ref o]) (fun kJ9 => ?_) (fun x10 w11 H locs ls hp h hl => ?_)
    · refine lv_if_eq (tgt := 40) hx hb dX10_rock_26 (by decide) (fun hc12 => ?_) (fun hc12 => ?_)
      · have hp := hp.1 hc12
        refine lv_iconst (v := 1) hx hb dX10_rock_40 (by decide) ?_
        refine lv_goto (tgt := 45) hx hb dX10_rock_41 (by decide) ?_
        exact kJ9 1 w7 _ _ _ hp h (lv_sub hl [0, 1, 2, 3] rfl)
      · have hp := hp.2 hc12
        refine lv_iload_n hx hb dX10_rock_29 rfl (lv_at hl 3 rfl) ?_
        refine lv_iconst (v := 1) hx hb dX10_rock_30 (by decide) ?_
        refine lv_sipush (v := 1000) hx hb dX10_rock_31 (by decide) ?_
        refine hp_cSi ⟨hx, hb, hml, hown, hts⟩ (k_X10_in l G z w7 _ p2 1 1000 _ hp) (cwS 3 hts gX10_rock_X10_in rfl rfl rfl (by decide +kernel) ⟨Nat.le_of_ble_eq_true rfl, Nat.le_of_ble_eq_true rfl⟩) hK h hA hE rfl hl.1 rfl (Nat.le_of_ble_eq_true rfl) dX10_rock_34 ⟨Nat.le_of_ble_eq_true rfl, Nat.le_of_ble_eq_true rfl⟩ (fun r14 w13 H locs hp h => ?_)
        refine lv_if_ne (tgt := 44) hx hb dX10_rock_37 (by decide) (fun hc15 => ?_) (fun hc15 => ?_)
        · have hp := hp.1 hc15
          refine lv_iconst (v := 0) hx hb dX10_rock_44 (by decide) ?_
          exact kJ9 0 w13 _ _ _ hp h (lv_sub hl [0, 1, 2, 3] rfl)
        · have hp := hp.2 hc15
          refine lv_iconst (v := 1) hx hb dX10_rock_40 (by decide) ?_
          refine lv_goto (tgt := 45) hx hb dX10_rock_41 (by decide) ?_
          exact kJ9 1 w13 _ _ _ hp h (lv_sub hl [0, 1, 2, 3] rfl)
    have hp := jJ9 x10 w11 hp
    refine lv_iconst (v := 2) hx hb dX10_rock_45 (by decide) ?_
    refine hp_cVi ⟨hx, hb, hml, hown, hts⟩ (k_X10_throwsIf l G z w11 _ o x10 2 _ hp) (cwV 2 hts gX10_rock_X10_throwsIf rfl rfl rfl (by decide +kernel) ⟨Nat.le_of_ble_eq_true rfl, Nat.le_of_ble_eq_true rfl⟩) ho (by decide) rfl hK h hA hE rfl hl.1 rfl (Nat.le_of_ble_eq_true rfl) dX10_rock_46 ⟨Nat.le_of_ble_eq_true rfl, Nat.le_of_ble_eq_true rfl⟩ (fun r17 w16 H locs hp h => ?_)
    refine lv_if_ne (tgt := 75) hx hb dX10_rock_49 (by decide) (fun hc18 => ?_) (fun hc18 => ?_)
    · have hp := hp.1 hc18
      refine lv_iconst (v := 0) hx hb dX10_rock_75 (by decide) ?_
      exact hp_iret hx hb hr rfl hlocks hK h hp dX10_rock_76
    · have hp := hp.2 hc18
      refine lv_aload_n hx hb dX10_rock_52 rfl (lv_at hl 0 rfl) ?_
      refine lv_aload_n hx hb dX10_rock_53 rfl (lv_at hl 0 rfl) ?_
      obtain ⟨b19, eb19, hob19, hp⟩ := hp
      refine hp_get (ci := 10) (v := .ref b19) hx hb hts ix_X10_rock_10 hown hK h ho (by decide) rfl 12 (by decide) (hts _ lk_X10_rock_37) (fun _ h9 => h9) (by show some (va_rf (zR z 1012 o)) = some (Value.ref b19); rw [eb19]; rfl) dX10_rock_54 ?_
      refine lv_iload_n hx hb dX10_rock_57 rfl (lv_at hl 1 rfl) ?_
      refine hp_iald (t := 2012) (n := 6) hx hb hK h hob19 (by decide) (fun _ _ _ => rfl) hp.1 dX10_rock_58 ?_
      have hp := hp.2
      refine lv_iconst (v := 4) hx hb dX10_rock_59 (by decide) ?_
      obtain ⟨J20, jJ20, hp⟩ := hp
      refine hp_jn1 (G := G) (A := A) (z := z) (J := J20) (nL := 5) (j := 68) (lvf := fun x21 => [(0, .ref o), (1, .int p0), (2, .int p1), (3, .int p2)]) (stf := fun x21 => [.int x21, .ref o]) (fun kJ20 => ?_) (fun x21 w22 H locs ls hp h hl => ?_)
      · refine lv_icmp_ne (tgt := 67) hx hb dX10_rock_60 (by decide) (fun hc23 => ?_) (fun hc23 => ?_)
        · have hp := hp.1 hc23
          refine lv_iconst (v := 0) hx hb dX10_rock_67 (by decide) ?_
          exact kJ20 0 w16 _ _ _ hp h (lv_sub hl [0, 1, 2, 3] rfl)
        · have hp := hp.2 hc23
          refine lv_iconst (v := 1) hx hb dX10_rock_63 (by decide) ?_
          refine lv_goto (tgt := 68) hx hb dX10_rock_64 (by decide) ?_
          exact kJ20 1 w16 _ _ _ hp h (lv_sub hl [0, 1, 2, 3] rfl)
      have hp := jJ20 x21 w22 hp
      refine lv_iconst (v := 3) hx hb dX10_rock_68 (by decide) ?_
      refine hp_cVi ⟨hx, hb, hml, hown, hts⟩ (k_X10_throwsIf l G z w22 _ o x21 3 _ hp) (cwV 2 hts gX10_rock_X10_throwsIf rfl rfl rfl (by decide +kernel) ⟨Nat.le_of_ble_eq_true rfl, Nat.le_of_ble_eq_true rfl⟩) ho (by decide) rfl hK h hA hE rfl hl.1 rfl (Nat.le_of_ble_eq_true rfl) dX10_rock_69 ⟨Nat.le_of_ble_eq_true rfl, Nat.le_of_ble_eq_true rfl⟩ (fun r25 w24 H locs hp h => ?_)
      refine lv_if_eq (tgt := 77) hx hb dX10_rock_72 (by decide) (fun hc26 => ?_) (fun hc26 => ?_)
      · have hp := hp.1 hc26
        refine lv_iconst (v := 4) hx hb dX10_rock_77 (by decide) ?_
        refine lv_iload_n hx hb dX10_rock_78 rfl (lv_at hl 1 rfl) ?_
        refine lv_imul hx hb dX10_rock_79 ?_
        refine lv_aload_n hx hb dX10_rock_80 rfl (lv_at hl 0 rfl) ?_
        refine hp_get (ci := 10) (v := .ref b19) hx hb hts ix_X10_rock_10 hown hK h ho (by decide) rfl 12 (by decide) (hts _ lk_X10_rock_37) (fun _ h9 => h9) (by show some (va_rf (zR z 1012 o)) = some (Value.ref b19); rw [eb19]; rfl) dX10_rock_81 ?_
        refine lv_iload_n hx hb dX10_rock_84 rfl (lv_at hl 1 rfl) ?_
        refine hp_iald (t := 2012) (n := 6) hx hb hK h hob19 (by decide) (fun _ _ _ => rfl) hp.1 dX10_rock_85 ?_
        have hp := hp.2
        refine lv_iadd hx hb dX10_rock_86 ?_
        refine lv_topi (fun x27 ex27 => ?_)
        have hp := hp x27 ex27
        refine lv_istore (lv' := [(4, .int x27), (0, .ref o), (1, .int p0), (2, .int p1), (3, .int p2)]) hx hb dX10_rock_87 hl (by decide) rfl (fun ls hl => ?_)
        refine lv_aload_n hx hb dX10_rock_89 rfl (lv_at hl 1 rfl) ?_
        obtain ⟨b28, eb28, hob28, hp⟩ := hp
        refine hp_get (ci := 10) (v := .ref b28) hx hb hts ix_X10_rock_10 hown hK h ho (by decide) rfl 3 (by decide) (hts _ lk_X10_rock_9) (fun _ h9 => h9) (by show some (va_rf (zR z 1003 o)) = some (Value.ref b28); rw [eb28]; rfl) dX10_rock_90 ?_
        refine lv_iload hx hb dX10_rock_93 (lv_at hl 0 rfl) ?_
        refine lv_iload_n hx hb dX10_rock_95 rfl (lv_at hl 3 rfl) ?_
        refine hp_iast (t := 2003) (n := 24) hx hb hK h hob28 (by decide) (fun _ _ _ => rfl) hp.1 dX10_rock_96 (fun H locs w29 ew29 h => ?_)
        have hp := hp.2 w29 ew29
        refine lv_aload_n hx hb dX10_rock_97 rfl (lv_at hl 1 rfl) ?_
        obtain ⟨b30, eb30, hob30, hp⟩ := hp
        refine hp_get (ci := 10) (v := .ref b30) hx hb hts ix_X10_rock_10 hown hK h ho (by decide) rfl 4 (by decide) (hts _ lk_X10_rock_13) (fun _ h9 => h9) (by show some (va_rf (zR z 1004 o)) = some (Value.ref b30); rw [eb30]; rfl) dX10_rock_98 ?_
        refine lv_iload hx hb dX10_rock_101 (lv_at hl 0 rfl) ?_
        refine lv_iload_n hx hb dX10_rock_103 rfl (lv_at hl 4 rfl) ?_
        refine hp_iast (t := 2004) (n := 24) hx hb hK h hob30 (by decide) (fun _ _ _ => rfl) hp.1 dX10_rock_104 (fun H locs w31 ew31 h => ?_)
        have hp := hp.2 w31 ew31
        refine lv_aload_n hx hb dX10_rock_105 rfl (lv_at hl 1 rfl) ?_
        obtain ⟨b32, eb32, hob32, hp⟩ := hp
        refine hp_get (ci := 10) (v := .ref b32) hx hb hts ix_X10_rock_10 hown hK h ho (by decide) rfl 5 (by decide) (hts _ lk_X10_rock_16) (fun _ h9 => h9) (by show some (va_rf (zR z 1005 o)) = some (Value.ref b32); rw [eb32]; rfl) dX10_rock_106 ?_
        refine lv_iload hx hb dX10_rock_109 (lv_at hl 0 rfl) ?_
        refine lv_iload_n hx hb dX10_rock_111 rfl (lv_at hl 4 rfl) ?_
        refine hp_iast (t := 2005) (n := 24) hx hb hK h hob32 (by decide) (fun _ _ _ => rfl) hp.1 dX10_rock_112 (fun H locs w33 ew33 h => ?_)
        have hp := hp.2 w33 ew33
        refine lv_aload_n hx hb dX10_rock_113 rfl (lv_at hl 1 rfl) ?_
        obtain ⟨b34, eb34, hob34, hp⟩ := hp
        refine hp_get (ci := 10) (v := .ref b34) hx hb hts ix_X10_rock_10 hown hK h ho (by decide) rfl 7 (by decide) (hts _ lk_X10_rock_22) (fun _ h9 => h9) (by show some (va_rf (zR z 1007 o)) = some (Value.ref b34); rw [eb34]; rfl) dX10_rock_114 ?_
        refine lv_iload hx hb dX10_rock_117 (lv_at hl 0 rfl) ?_
        refine lv_iload_n hx hb dX10_rock_119 rfl (lv_at hl 4 rfl) ?_
        refine hp_iast (t := 2007) (n := 24) hx hb hK h hob34 (by decide) (fun _ _ _ => rfl) hp.1 dX10_rock_120 (fun H locs w35 ew35 h => ?_)
        have hp := hp.2 w35 ew35
        refine lv_aload_n hx hb dX10_rock_121 rfl (lv_at hl 1 rfl) ?_
        obtain ⟨b36, eb36, hob36, hp⟩ := hp
        refine hp_get (ci := 10) (v := .ref b36) hx hb hts ix_X10_rock_10 hown hK h ho (by decide) rfl 6 (by decide) (hts _ lk_X10_rock_19) (fun _ h9 => h9) (by show some (va_rf (zR z 1006 o)) = some (Value.ref b36); rw [eb36]; rfl) dX10_rock_122 ?_
        refine lv_iload hx hb dX10_rock_125 (lv_at hl 0 rfl) ?_
        refine lv_iconst (v := (-1)) hx hb dX10_rock_127 (by decide) ?_
        refine hp_iast (t := 2006) (n := 24) hx hb hK h hob36 (by decide) (fun _ _ _ => rfl) hp.1 dX10_rock_128 (fun H locs w37 ew37 h => ?_)
        have hp := hp.2 w37 ew37
        refine lv_aload_n hx hb dX10_rock_129 rfl (lv_at hl 1 rfl) ?_
        obtain ⟨b38, eb38, hob38, hp⟩ := hp
        refine hp_get (ci := 10) (v := .ref b38) hx hb hts ix_X10_rock_10 hown hK h ho (by decide) rfl 11 (by decide) (hts _ lk_X10_rock_34) (fun _ h9 => h9) (by show some (va_rf (zR z 1011 o)) = some (Value.ref b38); rw [eb38]; rfl) dX10_rock_130 ?_
        refine lv_iload hx hb dX10_rock_133 (lv_at hl 0 rfl) ?_
        refine lv_iconst (v := (-1)) hx hb dX10_rock_135 (by decide) ?_
        refine hp_iast (t := 2011) (n := 24) hx hb hK h hob38 (by decide) (fun _ _ _ => rfl) hp.1 dX10_rock_136 (fun H locs w39 ew39 h => ?_)
        have hp := hp.2 w39 ew39
        refine lv_aload_n hx hb dX10_rock_137 rfl (lv_at hl 1 rfl) ?_
        refine hp_get (ci := 10) (v := .ref b19) hx hb hts ix_X10_rock_10 hown hK h ho (by decide) rfl 12 (by decide) (hts _ lk_X10_rock_37) (fun _ h9 => h9) (by show some (va_rf (zR z 1012 o)) = some (Value.ref b19); rw [eb19]; rfl) dX10_rock_138 ?_
        refine lv_iload_n hx hb dX10_rock_141 rfl (lv_at hl 2 rfl) ?_
        refine lv_dup2_11 hx hb dX10_rock_142 rfl rfl ?_
        refine hp_iald (t := 2012) (n := 6) hx hb hK h hob19 (by decide) (fun _ _ _ => rfl) hp.1 dX10_rock_143 ?_
        have hp := hp.2
        refine lv_iconst (v := 1) hx hb dX10_rock_144 (by decide) ?_
        refine lv_iadd hx hb dX10_rock_145 ?_
        refine hp_iast (t := 2012) (n := 6) hx hb hK h hob19 (by decide) (fun _ _ _ => rfl) hp.1 dX10_rock_146 (fun H locs w40 ew40 h => ?_)
        have hp := hp.2 w40 ew40
        refine lv_aload_n hx hb dX10_rock_147 rfl (lv_at hl 1 rfl) ?_
        refine hp_get (ci := 10) (v := .ref b19) hx hb hts ix_X10_rock_10 hown hK h ho (by decide) rfl 12 (by decide) (hts _ lk_X10_rock_37) (fun _ h9 => h9) (by show some (va_rf (zR z 1012 o)) = some (Value.ref b19); rw [eb19]; rfl) dX10_rock_148 ?_
        refine lv_iload_n hx hb dX10_rock_151 rfl (lv_at hl 2 rfl) ?_
        refine hp_iald (t := 2012) (n := 6) hx hb hK h hob19 (by decide) (fun _ _ _ => rfl) hp.1 dX10_rock_152 ?_
        have hp := hp.2
        refine lv_iconst (v := 1) hx hb dX10_rock_153 (by decide) ?_
        refine lv_isub hx hb dX10_rock_154 ?_
        exact hp_iret hx hb hr rfl hlocks hK h hp dX10_rock_155
      · have hp := hp.2 hc26
        refine lv_iconst (v := 0) hx hb dX10_rock_75 (by decide) ?_
        exact hp_iret hx hb hr rfl hlocks hK h hp dX10_rock_76
abbrev rmX10_hands : Room := { frames := 2, cells := 0, slots := 0, locals := 42 }
theorem ix_X10_hands_10 : ∀ w ∈ wsX100, w ∈ wsX10_hands := by decide +kernel
theorem lk_X10_hands_127 : Cond.fieldLink RX10 127 "KelpShoresModel" "thrown" "I" ∈ wsX10_hands := by decide +kernel
theorem lk_X10_hands_43 : Cond.fieldLink RX10 43 "KelpShoresModel" "hands" "[I" ∈ wsX10_hands := by decide +kernel
def wp_X10_hands (z : Zt) (o : Nat) (p0 : Int32) (p1 : Int32) (w : Vt) (K : Vt → Prop) : Prop := isO z 10 o ∧ ∀ w1 : Vt, w1 = uI w 1000 o 0 → wp_X10_noFamily z p0 w1 (fun r3 w2 => wp_X10_throwsIf z o r3 1 w2 (fun r5 w4 => (¬ r5 = 0 → K w4) ∧ (r5 = 0 → wp_X10_in z p1 0 20 w4 (fun r8 w7 => ∃ J9 : Int32 → Vt → Prop, (∀ (x10 : Int32) (w11 : Vt), J9 x10 w11 → wp_X10_throwsIf z o x10 2 w11 (fun r14 w13 => (r14 = 0 → ∃ b16 : Nat, zR z 1015 o = some b16 ∧ isO z 2015 b16 ∧ vp_in p0 8 ∧ ∀ w17 : Vt, w17 = uA w13 2015 b16 (p0 : Int32).toNatClampNeg p1 → K w17) ∧ (¬ r14 = 0 → K w13))) ∧ (¬ r8 = 0 → J9 0 w7) ∧ (r8 = 0 → J9 1 w7)))))
set_option maxHeartbeats 4000000 in
set_option maxRecDepth 100000 in
theorem k_X10_hands (l : Launch) (G : Gt) (z : Zt) (w : Vt) (sz : Nat) (o : Nat) (p0 : Int32) (p1 : Int32) (K : Vt → Prop) (hp : wp_X10_hands z o p0 p1 w K) : MV l yX10_hands wsX10_hands rmX10_hands G z w sz [.ref o, .int p0, .int p1] K := by
  refine Met.ofW (cc := cX10_hands) (maxL := 3) (ret := none) (by decide +kernel) rfl ?_
  intro p e s m args below meth c s₁ B hml hv
  obtain ⟨rfl, rfl, C, h⟩ := hp_start B hml hv
  generalize gA G z w s.heap.size = A at C h ⊢
  obtain ⟨hx, hb, hr, hlocks, hml, hown, hts, hK, hA, hE⟩ := id C
  obtain ⟨ho, hp⟩ := hp
  have hl := lv_entry ([.ref o, .int p0, .int p1]) (n := 3) (Nat.le_of_ble_eq_true rfl)
  rw [lg_entry_eq]
  generalize (lg_sl ([.ref o, .int p0, .int p1]) ++ List.replicate (3 - (lg_sl ([.ref o, .int p0, .int p1])).length) Slot.unset).toArray = ls at hl ⊢
  have hl : lv_has ls 3 [(0, .ref o), (1, .int p0), (2, .int p1)] := hl
  refine lv_aload_n hx hb dX10_hands_0 rfl (lv_at hl 0 rfl) ?_
  refine lv_iconst (v := 0) hx hb dX10_hands_1 (by decide) ?_
  refine hp_puti (ci := 10) (ty := .int) (x := 0) hx hb hts ix_X10_hands_10 tyX10 tyX10_ok nmX10 hown hK h ho (by decide) rfl 0 1000 (by decide) (hts _ lk_X10_hands_127) (fun _ h9 => h9) rfl (by decide +kernel) rfl rfl (fun _ _ => rfl) (fun _ _ => Nat.le_of_ble_eq_true rfl) dX10_hands_2 (fun H locs w1 ew1 h => ?_)
  have hp := hp w1 ew1
  refine lv_aload_n hx hb dX10_hands_5 rfl (lv_at hl 0 rfl) ?_
  refine lv_iload_n hx hb dX10_hands_6 rfl (lv_at hl 1 rfl) ?_
  refine hp_cSi ⟨hx, hb, hml, hown, hts⟩ (k_X10_noFamily l G z w1 _ p0 _ hp) (cwS 1 hts gX10_hands_X10_noFamily rfl rfl rfl (by decide +kernel) ⟨Nat.le_of_ble_eq_true rfl, Nat.le_of_ble_eq_true rfl⟩) hK h hA hE rfl hl.1 rfl (Nat.le_of_ble_eq_true rfl) dX10_hands_7 ⟨Nat.le_of_ble_eq_true rfl, Nat.le_of_ble_eq_true rfl⟩ (fun r3 w2 H locs hp h => ?_)
  refine lv_iconst (v := 1) hx hb dX10_hands_10 (by decide) ?_
  refine hp_cVi ⟨hx, hb, hml, hown, hts⟩ (k_X10_throwsIf l G z w2 _ o r3 1 _ hp) (cwV 2 hts gX10_hands_X10_throwsIf rfl rfl rfl (by decide +kernel) ⟨Nat.le_of_ble_eq_true rfl, Nat.le_of_ble_eq_true rfl⟩) ho (by decide) rfl hK h hA hE rfl hl.1 rfl (Nat.le_of_ble_eq_true rfl) dX10_hands_11 ⟨Nat.le_of_ble_eq_true rfl, Nat.le_of_ble_eq_true rfl⟩ (fun r5 w4 H locs hp h => ?_)
  refine lv_if_ne (tgt := 40) hx hb dX10_hands_14 (by decide) (fun hc6 => ?_) (fun hc6 => ?_)
  · have hp := hp.1 hc6
    exact hp_vret hx hb hr hlocks hK h hp dX10_hands_40
  · have hp := hp.2 hc6
    refine lv_aload_n hx hb dX10_hands_17 rfl (lv_at hl 0 rfl) ?_
    refine lv_iload_n hx hb dX10_hands_18 rfl (lv_at hl 2 rfl) ?_
    refine lv_iconst (v := 0) hx hb dX10_hands_19 (by decide) ?_
    refine lv_bipush (v := 20) hx hb dX10_hands_20 (by decide) ?_
    refine hp_cSi ⟨hx, hb, hml, hown, hts⟩ (k_X10_in l G z w4 _ p1 0 20 _ hp) (cwS 3 hts gX10_hands_X10_in rfl rfl rfl (by decide +kernel) ⟨Nat.le_of_ble_eq_true rfl, Nat.le_of_ble_eq_true rfl⟩) hK h hA hE rfl hl.1 rfl (Nat.le_of_ble_eq_true rfl) dX10_hands_22 ⟨Nat.le_of_ble_eq_true rfl, Nat.le_of_ble_eq_true rfl⟩ (fun r8 w7 H locs hp h => ?_)
    obtain ⟨J9, jJ9, hp⟩ := hp
    refine hp_jn1 (G := G) (A := A) (z := z) (J := J9) (nL := 3) (j := 33) (lvf := fun x10 => [(0, .ref o), (1, .int p0), (2, .int p1)]) (stf := fun x10 => [.int x10, .ref o]) (fun kJ9 => ?_) (fun x10 w11 H locs ls hp h hl => ?_)
    · refine lv_if_ne (tgt := 32) hx hb dX10_hands_25 (by decide) (fun hc12 => ?_) (fun hc12 => ?_)
      · have hp := hp.1 hc12
        refine lv_iconst (v := 0) hx hb dX10_hands_32 (by decide) ?_
        exact kJ9 0 w7 _ _ _ hp h (lv_sub hl [0, 1, 2] rfl)
      · have hp := hp.2 hc12
        refine lv_iconst (v := 1) hx hb dX10_hands_28 (by decide) ?_
        refine lv_goto (tgt := 33) hx hb dX10_hands_29 (by decide) ?_
        exact kJ9 1 w7 _ _ _ hp h (lv_sub hl [0, 1, 2] rfl)
    have hp := jJ9 x10 w11 hp
    refine lv_iconst (v := 2) hx hb dX10_hands_33 (by decide) ?_
    refine hp_cVi ⟨hx, hb, hml, hown, hts⟩ (k_X10_throwsIf l G z w11 _ o x10 2 _ hp) (cwV 2 hts gX10_hands_X10_throwsIf rfl rfl rfl (by decide +kernel) ⟨Nat.le_of_ble_eq_true rfl, Nat.le_of_ble_eq_true rfl⟩) ho (by decide) rfl hK h hA hE rfl hl.1 rfl (Nat.le_of_ble_eq_true rfl) dX10_hands_34 ⟨Nat.le_of_ble_eq_true rfl, Nat.le_of_ble_eq_true rfl⟩ (fun r14 w13 H locs hp h => ?_)
    refine lv_if_eq (tgt := 41) hx hb dX10_hands_37 (by decide) (fun hc15 => ?_) (fun hc15 => ?_)
    · have hp := hp.1 hc15
      refine lv_aload_n hx hb dX10_hands_41 rfl (lv_at hl 0 rfl) ?_
      obtain ⟨b16, eb16, hob16, hp⟩ := hp
      refine hp_get (ci := 10) (v := .ref b16) hx hb hts ix_X10_hands_10 hown hK h ho (by decide) rfl 15 (by decide) (hts _ lk_X10_hands_43) (fun _ h9 => h9) (by show some (va_rf (zR z 1015 o)) = some (Value.ref b16); rw [eb16]; rfl) dX10_hands_42 ?_
      refine lv_iload_n hx hb dX10_hands_45 rfl (lv_at hl 1 rfl) ?_
      refine lv_iload_n hx hb dX10_hands_46 rfl (lv_at hl 2 rfl) ?_
      refine hp_iast (t := 2015) (n := 8) hx hb hK h hob16 (by decide) (fun _ _ _ => rfl) hp.1 dX10_hands_47 (fun H locs w17 ew17 h => ?_)
      have hp := hp.2 w17 ew17
      exact hp_vret hx hb hr hlocks hK h hp dX10_hands_48
    · have hp := hp.2 hc15
      exact hp_vret hx hb hr hlocks hK h hp dX10_hands_40
abbrev rmX10_shoreDay : Room := { frames := 0, cells := 0, slots := 0, locals := 0 }
theorem ix_X10_shoreDay_10 : ∀ w ∈ wsX100, w ∈ wsX10_shoreDay := by decide +kernel
theorem lk_X10_shoreDay_37 : Cond.fieldLink RX10 37 "KelpShoresModel" "rocks" "[I" ∈ wsX10_shoreDay := by decide +kernel
theorem lk_X10_shoreDay_148 : Cond.fieldLink RX10 148 "KelpShoresModel" "today" "I" ∈ wsX10_shoreDay := by decide +kernel
theorem lk_X10_shoreDay_13 : Cond.fieldLink RX10 13 "KelpShoresModel" "room" "[I" ∈ wsX10_shoreDay := by decide +kernel
theorem lk_X10_shoreDay_16 : Cond.fieldLink RX10 16 "KelpShoresModel" "weed" "[I" ∈ wsX10_shoreDay := by decide +kernel
theorem lk_X10_shoreDay_22 : Cond.fieldLink RX10 22 "KelpShoresModel" "grew" "[I" ∈ wsX10_shoreDay := by decide +kernel
theorem lk_X10_shoreDay_9 : Cond.fieldLink RX10 9 "KelpShoresModel" "depth" "[I" ∈ wsX10_shoreDay := by decide +kernel
theorem lk_X10_shoreDay_28 : Cond.fieldLink RX10 28 "KelpShoresModel" "torn" "[I" ∈ wsX10_shoreDay := by decide +kernel
theorem lk_X10_shoreDay_40 : Cond.fieldLink RX10 40 "KelpShoresModel" "cast" "[I" ∈ wsX10_shoreDay := by decide +kernel
def wL_X10_shoreDay_4 (z : Zt) (o : Nat) (K : Vt → Prop) (Kx : Int32 → Int32 → Int32 → Vt → Prop) : Nat → Int32 → Int32 → Int32 → Vt → Prop
  | 0, _, _, _, _ => False
  | n + 1, x3_, x1_, x2_, w => ∃ b2 : Nat, zR z 1012 o = some b2 ∧ isO z 2012 b2 ∧ vp_in x1_ 6 ∧ (((4 * x1_) + (vA w 2012 b2 (x1_ : Int32).toNatClampNeg)) ≤ x3_ → Kx x3_ x1_ x2_ w) ∧ (¬ ((4 * x1_) + (vA w 2012 b2 (x1_ : Int32).toNatClampNeg)) ≤ x3_ → ∃ J4 : Vt → Prop, (∀ (w5 : Vt), J4 w5 → ∃ b13 : Nat, zR z 1003 o = some b13 ∧ isO z 2003 b13 ∧ vp_in x3_ 24 ∧ ((vA w5 2003 b13 (x3_ : Int32).toNatClampNeg) ≤ x2_ → ∃ b15 : Nat, zR z 1005 o = some b15 ∧ isO z 2005 b15 ∧ vp_in x3_ 24 ∧ ∀ x16 : Int32, x16 = ((vA w5 2005 b15 (x3_ : Int32).toNatClampNeg) * x2_) / 100 → vp_in x3_ 24 ∧ vp_in x3_ 24 ∧ ∀ w17 : Vt, w17 = uA w5 2005 b15 (x3_ : Int32).toNatClampNeg ((vA w5 2005 b15 (x3_ : Int32).toNatClampNeg) - x16) → ∃ b18 : Nat, zR z 1009 o = some b18 ∧ isO z 2009 b18 ∧ vp_in x3_ 24 ∧ vp_in x3_ 24 ∧ ∀ w19 : Vt, w19 = uA w17 2009 b18 (x3_ : Int32).toNatClampNeg ((vA w17 2009 b18 (x3_ : Int32).toNatClampNeg) + x16) → ∃ b20 : Nat, zR z 1013 o = some b20 ∧ isO z 2013 b20 ∧ vp_in x1_ 6 ∧ vp_in x1_ 6 ∧ ∀ w21 : Vt, w21 = uA w19 2013 b20 (x1_ : Int32).toNatClampNeg ((vA w19 2013 b20 (x1_ : Int32).toNatClampNeg) + x16) → ∀ x22 : Int32, x22 = x3_ + 1 → wL_X10_shoreDay_4 z o K Kx n x22 x1_ x2_ w21) ∧ (¬ (vA w5 2003 b13 (x3_ : Int32).toNatClampNeg) ≤ x2_ → ∀ x23 : Int32, x23 = x3_ + 1 → wL_X10_shoreDay_4 z o K Kx n x23 x1_ x2_ w5)) ∧ (¬ ((vI w 1001 o) - (vI w 1001 o) / 100 * 100) = 0 → J4 w) ∧ (((vI w 1001 o) - (vI w 1001 o) / 100 * 100) = 0 → ∃ b7 : Nat, zR z 1004 o = some b7 ∧ isO z 2004 b7 ∧ vp_in x3_ 24 ∧ ∃ b8 : Nat, zR z 1005 o = some b8 ∧ isO z 2005 b8 ∧ vp_in x3_ 24 ∧ ∀ x9 : Int32, x9 = (((vA w 2004 b7 (x3_ : Int32).toNatClampNeg) - (vA w 2005 b8 (x3_ : Int32).toNatClampNeg)) + 3) / 4 → vp_in x3_ 24 ∧ vp_in x3_ 24 ∧ ∀ w10 : Vt, w10 = uA w 2005 b8 (x3_ : Int32).toNatClampNeg ((vA w 2005 b8 (x3_ : Int32).toNatClampNeg) + x9) → ∃ b11 : Nat, zR z 1007 o = some b11 ∧ isO z 2007 b11 ∧ vp_in x3_ 24 ∧ vp_in x3_ 24 ∧ ∀ w12 : Vt, w12 = uA w10 2007 b11 (x3_ : Int32).toNatClampNeg ((vA w10 2007 b11 (x3_ : Int32).toNatClampNeg) + x9) → J4 w12))
set_option maxHeartbeats 4000000 in
set_option maxRecDepth 100000 in
theorem kL_X10_shoreDay_4 {p : Program} {l : Launch} {e : Env} {s : State} {m : MethodId} {args : Array Value} {below : List Frame} {meth : Method} {c : Code} {G : Gt} {A : Nat → Prop} {z : Zt} (C : gC p s m args meth c cX10_shoreDay 5 RX10 wsX10_shoreDay none G A) (o : Nat) (ho : isO z 10 o) (K : Vt → Prop) (Kx : Int32 → Int32 → Int32 → Vt → Prop) (kKx : ∀ (x3_ x1_ x2_ : Int32) (w : Vt) (H : Heap) (locs : List Loc) (ls : Array Slot), Kx x3_ x1_ x2_ w → hpH G.1 G.2.1 A s.heap z w H locs → lv_has ls 5 [(3, .int x3_), (0, .ref o), (1, .int x1_), (2, .int x2_)] → W p l e (headSpec wsX10_shoreDay rmX10_shoreDay).room s m args below meth c H locs 0 0 (MQ below (va_Qv K (gB G A z) A) args s 0 0 A) (F0 m 134 ls [])) : ∀ (n : Nat) (x3_ x1_ x2_ : Int32) (w : Vt) (H : Heap) (locs : List Loc) (ls : Array Slot), wL_X10_shoreDay_4 z o K Kx n x3_ x1_ x2_ w → hpH G.1 G.2.1 A s.heap z w H locs → lv_has ls 5 [(3, .int x3_), (0, .ref o), (1, .int x1_), (2, .int x2_)] → W p l e (headSpec wsX10_shoreDay rmX10_shoreDay).room s m args below meth c H locs 0 0 (MQ below (va_Qv K (gB G A z) A) args s 0 0 A) (F0 m 4 ls []) := by
  obtain ⟨hx, hb, hr, hlocks, hml, hown, hts, hK, hA, hE⟩ := id C
  intro n
  induction n with
  | zero =>
    intro x3_ x1_ x2_ w H locs ls hp
    exact hp.elim
  | succ n ih =>
    intro x3_ x1_ x2_ w H locs ls hp h hl
    refine lv_iload_n hx hb dX10_shoreDay_4 rfl (lv_at hl 0 rfl) ?_
    refine lv_iconst (v := 4) hx hb dX10_shoreDay_5 (by decide) ?_
    refine lv_iload_n hx hb dX10_shoreDay_6 rfl (lv_at hl 2 rfl) ?_
    refine lv_imul hx hb dX10_shoreDay_7 ?_
    refine lv_aload_n hx hb dX10_shoreDay_8 rfl (lv_at hl 1 rfl) ?_
    obtain ⟨b2, eb2, hob2, hp⟩ := hp
    refine hp_get (ci := 10) (v := .ref b2) hx hb hts ix_X10_shoreDay_10 hown hK h ho (by decide) rfl 12 (by decide) (hts _ lk_X10_shoreDay_37) (fun _ h9 => h9) (by show some (va_rf (zR z 1012 o)) = some (Value.ref b2); rw [eb2]; rfl) dX10_shoreDay_9 ?_
    refine lv_iload_n hx hb dX10_shoreDay_12 rfl (lv_at hl 2 rfl) ?_
    refine hp_iald (t := 2012) (n := 6) hx hb hK h hob2 (by decide) (fun _ _ _ => rfl) hp.1 dX10_shoreDay_13 ?_
    have hp := hp.2
    refine lv_iadd hx hb dX10_shoreDay_14 ?_
    refine lv_icmp_ge (tgt := 134) hx hb dX10_shoreDay_15 (by decide) (fun hc3 => ?_) (fun hc3 => ?_)
    · have hp := hp.1 hc3
      exact kKx x3_ x1_ x2_ w _ _ _ hp h (lv_sub hl [0, 1, 2, 3] rfl)
    · have hp := hp.2 hc3
      refine lv_aload_n hx hb dX10_shoreDay_18 rfl (lv_at hl 1 rfl) ?_
      refine hp_get (ci := 10) (v := .int (vI w 1001 o)) hx hb hts ix_X10_shoreDay_10 hown hK h ho (by decide) rfl 1 (by decide) (hts _ lk_X10_shoreDay_148) (fun _ h9 => h9) rfl dX10_shoreDay_19 ?_
      refine lv_bipush (v := 100) hx hb dX10_shoreDay_22 (by decide) ?_
      refine lv_irem hx hb dX10_shoreDay_24 (by decide) ?_
      obtain ⟨J4, jJ4, hp⟩ := hp
      refine hp_jn0 (G := G) (A := A) (z := z) (J := J4) (nL := 5) (j := 69) (lvf := [(3, .int x3_), (0, .ref o), (1, .int x1_), (2, .int x2_)]) (stf := []) (fun kJ4 => ?_) (fun  w5 H locs ls hp h hl => ?_)
      · refine lv_if_ne (tgt := 69) hx hb dX10_shoreDay_25 (by decide) (fun hc6 => ?_) (fun hc6 => ?_)
        · have hp := hp.1 hc6
          exact kJ4 w _ _ _ hp h (lv_sub hl [0, 1, 2, 3] rfl)
        · have hp := hp.2 hc6
          refine lv_aload_n hx hb dX10_shoreDay_28 rfl (lv_at hl 1 rfl) ?_
          obtain ⟨b7, eb7, hob7, hp⟩ := hp
          refine hp_get (ci := 10) (v := .ref b7) hx hb hts ix_X10_shoreDay_10 hown hK h ho (by decide) rfl 4 (by decide) (hts _ lk_X10_shoreDay_13) (fun _ h9 => h9) (by show some (va_rf (zR z 1004 o)) = some (Value.ref b7); rw [eb7]; rfl) dX10_shoreDay_29 ?_
          refine lv_iload_n hx hb dX10_shoreDay_32 rfl (lv_at hl 0 rfl) ?_
          refine hp_iald (t := 2004) (n := 24) hx hb hK h hob7 (by decide) (fun _ _ _ => rfl) hp.1 dX10_shoreDay_33 ?_
          have hp := hp.2
          refine lv_aload_n hx hb dX10_shoreDay_34 rfl (lv_at hl 1 rfl) ?_
          obtain ⟨b8, eb8, hob8, hp⟩ := hp
          refine hp_get (ci := 10) (v := .ref b8) hx hb hts ix_X10_shoreDay_10 hown hK h ho (by decide) rfl 5 (by decide) (hts _ lk_X10_shoreDay_16) (fun _ h9 => h9) (by show some (va_rf (zR z 1005 o)) = some (Value.ref b8); rw [eb8]; rfl) dX10_shoreDay_35 ?_
          refine lv_iload_n hx hb dX10_shoreDay_38 rfl (lv_at hl 0 rfl) ?_
          refine hp_iald (t := 2005) (n := 24) hx hb hK h hob8 (by decide) (fun _ _ _ => rfl) hp.1 dX10_shoreDay_39 ?_
          have hp := hp.2
          refine lv_isub hx hb dX10_shoreDay_40 ?_
          refine lv_iconst (v := 3) hx hb dX10_shoreDay_41 (by decide) ?_
          refine lv_iadd hx hb dX10_shoreDay_42 ?_
          refine lv_iconst (v := 4) hx hb dX10_shoreDay_43 (by decide) ?_
          refine lv_idiv hx hb dX10_shoreDay_44 (by decide) ?_
          refine lv_topi (fun x9 ex9 => ?_)
          have hp := hp x9 ex9
          refine lv_istore (lv' := [(4, .int x9), (3, .int x3_), (0, .ref o), (1, .int x1_), (2, .int x2_)]) hx hb dX10_shoreDay_45 hl (by decide) rfl (fun ls hl => ?_)
          refine lv_aload_n hx hb dX10_shoreDay_47 rfl (lv_at hl 2 rfl) ?_
          refine hp_get (ci := 10) (v := .ref b8) hx hb hts ix_X10_shoreDay_10 hown hK h ho (by decide) rfl 5 (by decide) (hts _ lk_X10_shoreDay_16) (fun _ h9 => h9) (by show some (va_rf (zR z 1005 o)) = some (Value.ref b8); rw [eb8]; rfl) dX10_shoreDay_48 ?_
          refine lv_iload_n hx hb dX10_shoreDay_51 rfl (lv_at hl 1 rfl) ?_
          refine lv_dup2_11 hx hb dX10_shoreDay_52 rfl rfl ?_
          refine hp_iald (t := 2005) (n := 24) hx hb hK h hob8 (by decide) (fun _ _ _ => rfl) hp.1 dX10_shoreDay_53 ?_
          have hp := hp.2
          refine lv_iload hx hb dX10_shoreDay_54 (lv_at hl 0 rfl) ?_
          refine lv_iadd hx hb dX10_shoreDay_56 ?_
          refine hp_iast (t := 2005) (n := 24) hx hb hK h hob8 (by decide) (fun _ _ _ => rfl) hp.1 dX10_shoreDay_57 (fun H locs w10 ew10 h => ?_)
          have hp := hp.2 w10 ew10
          refine lv_aload_n hx hb dX10_shoreDay_58 rfl (lv_at hl 2 rfl) ?_
          obtain ⟨b11, eb11, hob11, hp⟩ := hp
          refine hp_get (ci := 10) (v := .ref b11) hx hb hts ix_X10_shoreDay_10 hown hK h ho (by decide) rfl 7 (by decide) (hts _ lk_X10_shoreDay_22) (fun _ h9 => h9) (by show some (va_rf (zR z 1007 o)) = some (Value.ref b11); rw [eb11]; rfl) dX10_shoreDay_59 ?_
          refine lv_iload_n hx hb dX10_shoreDay_62 rfl (lv_at hl 1 rfl) ?_
          refine lv_dup2_11 hx hb dX10_shoreDay_63 rfl rfl ?_
          refine hp_iald (t := 2007) (n := 24) hx hb hK h hob11 (by decide) (fun _ _ _ => rfl) hp.1 dX10_shoreDay_64 ?_
          have hp := hp.2
          refine lv_iload hx hb dX10_shoreDay_65 (lv_at hl 0 rfl) ?_
          refine lv_iadd hx hb dX10_shoreDay_67 ?_
          refine hp_iast (t := 2007) (n := 24) hx hb hK h hob11 (by decide) (fun _ _ _ => rfl) hp.1 dX10_shoreDay_68 (fun H locs w12 ew12 h => ?_)
          have hp := hp.2 w12 ew12
          exact kJ4 w12 _ _ _ hp h (lv_sub hl [1, 2, 3, 4] rfl)
      have hp := jJ4  w5 hp
      refine lv_aload_n hx hb dX10_shoreDay_69 rfl (lv_at hl 1 rfl) ?_
      obtain ⟨b13, eb13, hob13, hp⟩ := hp
      refine hp_get (ci := 10) (v := .ref b13) hx hb hts ix_X10_shoreDay_10 hown hK h ho (by decide) rfl 3 (by decide) (hts _ lk_X10_shoreDay_9) (fun _ h9 => h9) (by show some (va_rf (zR z 1003 o)) = some (Value.ref b13); rw [eb13]; rfl) dX10_shoreDay_70 ?_
      refine lv_iload_n hx hb dX10_shoreDay_73 rfl (lv_at hl 0 rfl) ?_
      refine hp_iald (t := 2003) (n := 24) hx hb hK h hob13 (by decide) (fun _ _ _ => rfl) hp.1 dX10_shoreDay_74 ?_
      have hp := hp.2
      refine lv_iload_n hx hb dX10_shoreDay_75 rfl (lv_at hl 3 rfl) ?_
      refine lv_icmp_le (tgt := 82) hx hb dX10_shoreDay_76 (by decide) (fun hc14 => ?_) (fun hc14 => ?_)
      · have hp := hp.1 hc14
        refine lv_aload_n hx hb dX10_shoreDay_82 rfl (lv_at hl 1 rfl) ?_
        obtain ⟨b15, eb15, hob15, hp⟩ := hp
        refine hp_get (ci := 10) (v := .ref b15) hx hb hts ix_X10_shoreDay_10 hown hK h ho (by decide) rfl 5 (by decide) (hts _ lk_X10_shoreDay_16) (fun _ h9 => h9) (by show some (va_rf (zR z 1005 o)) = some (Value.ref b15); rw [eb15]; rfl) dX10_shoreDay_83 ?_
        refine lv_iload_n hx hb dX10_shoreDay_86 rfl (lv_at hl 0 rfl) ?_
        refine hp_iald (t := 2005) (n := 24) hx hb hK h hob15 (by decide) (fun _ _ _ => rfl) hp.1 dX10_shoreDay_87 ?_
        have hp := hp.2
        refine lv_iload_n hx hb dX10_shoreDay_88 rfl (lv_at hl 3 rfl) ?_
        refine lv_imul hx hb dX10_shoreDay_89 ?_
        refine lv_bipush (v := 100) hx hb dX10_shoreDay_90 (by decide) ?_
        refine lv_idiv hx hb dX10_shoreDay_92 (by decide) ?_
        refine lv_topi (fun x16 ex16 => ?_)
        have hp := hp x16 ex16
        refine lv_istore (lv' := [(4, .int x16), (3, .int x3_), (0, .ref o), (1, .int x1_), (2, .int x2_)]) hx hb dX10_shoreDay_93 hl (by decide) rfl (fun ls hl => ?_)
        refine lv_aload_n hx hb dX10_shoreDay_95 rfl (lv_at hl 2 rfl) ?_
        refine hp_get (ci := 10) (v := .ref b15) hx hb hts ix_X10_shoreDay_10 hown hK h ho (by decide) rfl 5 (by decide) (hts _ lk_X10_shoreDay_16) (fun _ h9 => h9) (by show some (va_rf (zR z 1005 o)) = some (Value.ref b15); rw [eb15]; rfl) dX10_shoreDay_96 ?_
        refine lv_iload_n hx hb dX10_shoreDay_99 rfl (lv_at hl 1 rfl) ?_
        refine lv_dup2_11 hx hb dX10_shoreDay_100 rfl rfl ?_
        refine hp_iald (t := 2005) (n := 24) hx hb hK h hob15 (by decide) (fun _ _ _ => rfl) hp.1 dX10_shoreDay_101 ?_
        have hp := hp.2
        refine lv_iload hx hb dX10_shoreDay_102 (lv_at hl 0 rfl) ?_
        refine lv_isub hx hb dX10_shoreDay_104 ?_
        refine hp_iast (t := 2005) (n := 24) hx hb hK h hob15 (by decide) (fun _ _ _ => rfl) hp.1 dX10_shoreDay_105 (fun H locs w17 ew17 h => ?_)
        have hp := hp.2 w17 ew17
        refine lv_aload_n hx hb dX10_shoreDay_106 rfl (lv_at hl 2 rfl) ?_
        obtain ⟨b18, eb18, hob18, hp⟩ := hp
        refine hp_get (ci := 10) (v := .ref b18) hx hb hts ix_X10_shoreDay_10 hown hK h ho (by decide) rfl 9 (by decide) (hts _ lk_X10_shoreDay_28) (fun _ h9 => h9) (by show some (va_rf (zR z 1009 o)) = some (Value.ref b18); rw [eb18]; rfl) dX10_shoreDay_107 ?_
        refine lv_iload_n hx hb dX10_shoreDay_110 rfl (lv_at hl 1 rfl) ?_
        refine lv_dup2_11 hx hb dX10_shoreDay_111 rfl rfl ?_
        refine hp_iald (t := 2009) (n := 24) hx hb hK h hob18 (by decide) (fun _ _ _ => rfl) hp.1 dX10_shoreDay_112 ?_
        have hp := hp.2
        refine lv_iload hx hb dX10_shoreDay_113 (lv_at hl 0 rfl) ?_
        refine lv_iadd hx hb dX10_shoreDay_115 ?_
        refine hp_iast (t := 2009) (n := 24) hx hb hK h hob18 (by decide) (fun _ _ _ => rfl) hp.1 dX10_shoreDay_116 (fun H locs w19 ew19 h => ?_)
        have hp := hp.2 w19 ew19
        refine lv_aload_n hx hb dX10_shoreDay_117 rfl (lv_at hl 2 rfl) ?_
        obtain ⟨b20, eb20, hob20, hp⟩ := hp
        refine hp_get (ci := 10) (v := .ref b20) hx hb hts ix_X10_shoreDay_10 hown hK h ho (by decide) rfl 13 (by decide) (hts _ lk_X10_shoreDay_40) (fun _ h9 => h9) (by show some (va_rf (zR z 1013 o)) = some (Value.ref b20); rw [eb20]; rfl) dX10_shoreDay_118 ?_
        refine lv_iload_n hx hb dX10_shoreDay_121 rfl (lv_at hl 3 rfl) ?_
        refine lv_dup2_11 hx hb dX10_shoreDay_122 rfl rfl ?_
        refine hp_iald (t := 2013) (n := 6) hx hb hK h hob20 (by decide) (fun _ _ _ => rfl) hp.1 dX10_shoreDay_123 ?_
        have hp := hp.2
        refine lv_iload hx hb dX10_shoreDay_124 (lv_at hl 0 rfl) ?_
        refine lv_iadd hx hb dX10_shoreDay_126 ?_
        refine hp_iast (t := 2013) (n := 6) hx hb hK h hob20 (by decide) (fun _ _ _ => rfl) hp.1 dX10_shoreDay_127 (fun H locs w21 ew21 h => ?_)
        have hp := hp.2 w21 ew21
        obtain ⟨x22, ex22⟩ : ∃ y : Int32, y = x3_ + 1 := ⟨_, rfl⟩
        have hp := hp x22 ex22
        refine lv_iinc (v := x22) (lv' := [(3, .int x22), (4, .int x16), (0, .ref o), (1, .int x1_), (2, .int x2_)]) hx hb dX10_shoreDay_128 hl (k := 1) rfl (by rw [ex22]; rfl) (by decide) rfl (fun ls hl => ?_)
        refine lv_goto (tgt := 4) hx hb dX10_shoreDay_131 (by decide) ?_
        exact ih x22 x1_ x2_ w21 _ _ _ hp h (lv_sub hl [0, 2, 3, 4] rfl)
      · have hp := hp.2 hc14
        refine lv_goto (tgt := 128) hx hb dX10_shoreDay_79 (by decide) ?_
        obtain ⟨x23, ex23⟩ : ∃ y : Int32, y = x3_ + 1 := ⟨_, rfl⟩
        have hp := hp x23 ex23
        refine lv_iinc (v := x23) (lv' := [(3, .int x23), (0, .ref o), (1, .int x1_), (2, .int x2_)]) hx hb dX10_shoreDay_128 hl (k := 0) rfl (by rw [ex23]; rfl) (by decide) rfl (fun ls hl => ?_)
        refine lv_goto (tgt := 4) hx hb dX10_shoreDay_131 (by decide) ?_
        exact ih x23 x1_ x2_ w5 _ _ _ hp h (lv_sub hl [0, 1, 2, 3] rfl)
def wp_X10_shoreDay (z : Zt) (o : Nat) (p0 : Int32) (p1 : Int32) (w : Vt) (K : Vt → Prop) : Prop := isO z 10 o ∧ ∀ x1 : Int32, x1 = 4 * p0 → ∃ n24 : Nat, wL_X10_shoreDay_4 z o K (fun x25 x26 x27 w28 => K w28) n24 x1 p0 p1 w
set_option maxHeartbeats 4000000 in
set_option maxRecDepth 100000 in
theorem k_X10_shoreDay (l : Launch) (G : Gt) (z : Zt) (w : Vt) (sz : Nat) (o : Nat) (p0 : Int32) (p1 : Int32) (K : Vt → Prop) (hp : wp_X10_shoreDay z o p0 p1 w K) : MV l yX10_shoreDay wsX10_shoreDay rmX10_shoreDay G z w sz [.ref o, .int p0, .int p1] K := by
  refine Met.ofW (cc := cX10_shoreDay) (maxL := 5) (ret := none) (by decide +kernel) rfl ?_
  intro p e s m args below meth c s₁ B hml hv
  obtain ⟨rfl, rfl, C, h⟩ := hp_start B hml hv
  generalize gA G z w s.heap.size = A at C h ⊢
  obtain ⟨hx, hb, hr, hlocks, hml, hown, hts, hK, hA, hE⟩ := id C
  obtain ⟨ho, hp⟩ := hp
  have hl := lv_entry ([.ref o, .int p0, .int p1]) (n := 5) (Nat.le_of_ble_eq_true rfl)
  rw [lg_entry_eq]
  generalize (lg_sl ([.ref o, .int p0, .int p1]) ++ List.replicate (5 - (lg_sl ([.ref o, .int p0, .int p1])).length) Slot.unset).toArray = ls at hl ⊢
  have hl : lv_has ls 5 [(0, .ref o), (1, .int p0), (2, .int p1)] := hl
  refine lv_iconst (v := 4) hx hb dX10_shoreDay_0 (by decide) ?_
  refine lv_iload_n hx hb dX10_shoreDay_1 rfl (lv_at hl 1 rfl) ?_
  refine lv_imul hx hb dX10_shoreDay_2 ?_
  refine lv_topi (fun x1 ex1 => ?_)
  have hp := hp x1 ex1
  refine lv_istore_n (lv' := [(3, .int x1), (0, .ref o), (1, .int p0), (2, .int p1)]) hx hb dX10_shoreDay_3 rfl hl (by decide) rfl (fun ls hl => ?_)
  obtain ⟨n24, hp⟩ := hp
  refine kL_X10_shoreDay_4 C o ho _ _ (fun x25 x26 x27 w28 H locs ls hp h hl => ?_) n24 x1 p0 p1 w _ _ _ hp h (lv_sub hl [0, 1, 2, 3] rfl)
  exact hp_vret hx hb hr hlocks hK h hp dX10_shoreDay_134
abbrev rmX10_familyDay : Room := { frames := 0, cells := 0, slots := 0, locals := 0 }
theorem ix_X10_familyDay_10 : ∀ w ∈ wsX100, w ∈ wsX10_familyDay := by decide +kernel
theorem lk_X10_familyDay_49 : Cond.fieldLink RX10 49 "KelpShoresModel" "dry" "[I" ∈ wsX10_familyDay := by decide +kernel
theorem lk_X10_familyDay_58 : Cond.fieldLink RX10 58 "KelpShoresModel" "spoilt" "[I" ∈ wsX10_familyDay := by decide +kernel
theorem lk_X10_familyDay_46 : Cond.fieldLink RX10 46 "KelpShoresModel" "wet" "[I" ∈ wsX10_familyDay := by decide +kernel
theorem wd_X10_familyDay_c151 : Cond.constantLong RX10 151 (10) ∈ wsX10_familyDay := by decide +kernel
theorem wd_X10_familyDay_c153 : Cond.constantLong RX10 153 (4) ∈ wsX10_familyDay := by decide +kernel
def wp_X10_familyDay (z : Zt) (o : Nat) (p0 : Int32) (p1 : Int32) (p2 : Int32) (w : Vt) (K : Vt → Prop) : Prop := isO z 10 o ∧ ∃ J1 : Vt → Prop, (∀ (w2 : Vt), J1 w2 → (p2 ≤ 0 → ∃ b10 : Nat, zR z 1016 o = some b10 ∧ isO z 2016 b10 ∧ vp_in p0 8 ∧ ∀ x11 : Int32, x11 = (((((vA w2 2016 b10 (p0 : Int32).toNatClampNeg : Int32).toInt64) * ((p1 : Int32).toInt64)) / 10) / 4).toInt32 → vp_in p0 8 ∧ vp_in p0 8 ∧ ∀ w12 : Vt, w12 = uA w2 2016 b10 (p0 : Int32).toNatClampNeg ((vA w2 2016 b10 (p0 : Int32).toNatClampNeg) - (4 * x11)) → ∃ b13 : Nat, zR z 1017 o = some b13 ∧ isO z 2017 b13 ∧ vp_in p0 8 ∧ vp_in p0 8 ∧ ∀ w14 : Vt, w14 = uA w12 2017 b13 (p0 : Int32).toNatClampNeg ((vA w12 2017 b13 (p0 : Int32).toNatClampNeg) + x11) → K w14) ∧ (¬ p2 ≤ 0 → K w2)) ∧ (p2 < 5 → J1 w) ∧ (¬ p2 < 5 → ∃ b4 : Nat, zR z 1017 o = some b4 ∧ isO z 2017 b4 ∧ vp_in p0 8 ∧ ∀ x5 : Int32, x5 = ((vA w 2017 b4 (p0 : Int32).toNatClampNeg) + 9) / 10 → vp_in p0 8 ∧ vp_in p0 8 ∧ ∀ w6 : Vt, w6 = uA w 2017 b4 (p0 : Int32).toNatClampNeg ((vA w 2017 b4 (p0 : Int32).toNatClampNeg) - x5) → ∃ b7 : Nat, zR z 1020 o = some b7 ∧ isO z 2020 b7 ∧ vp_in p0 8 ∧ vp_in p0 8 ∧ ∀ w8 : Vt, w8 = uA w6 2020 b7 (p0 : Int32).toNatClampNeg ((vA w6 2020 b7 (p0 : Int32).toNatClampNeg) + x5) → J1 w8)
set_option maxHeartbeats 4000000 in
set_option maxRecDepth 100000 in
theorem k_X10_familyDay (l : Launch) (G : Gt) (z : Zt) (w : Vt) (sz : Nat) (o : Nat) (p0 : Int32) (p1 : Int32) (p2 : Int32) (K : Vt → Prop) (hp : wp_X10_familyDay z o p0 p1 p2 w K) : MV l yX10_familyDay wsX10_familyDay rmX10_familyDay G z w sz [.ref o, .int p0, .int p1, .int p2] K := by
  refine Met.ofW (cc := cX10_familyDay) (maxL := 5) (ret := none) (by decide +kernel) rfl ?_
  intro p e s m args below meth c s₁ B hml hv
  obtain ⟨rfl, rfl, C, h⟩ := hp_start B hml hv
  generalize gA G z w s.heap.size = A at C h ⊢
  obtain ⟨hx, hb, hr, hlocks, hml, hown, hts, hK, hA, hE⟩ := id C
  obtain ⟨ho, hp⟩ := hp
  have hl := lv_entry ([.ref o, .int p0, .int p1, .int p2]) (n := 5) (Nat.le_of_ble_eq_true rfl)
  rw [lg_entry_eq]
  generalize (lg_sl ([.ref o, .int p0, .int p1, .int p2]) ++ List.replicate (5 - (lg_sl ([.ref o, .int p0, .int p1, .int p2])).length) Slot.unset).toArray = ls at hl ⊢
  have hl : lv_has ls 5 [(0, .ref o), (1, .int p0), (2, .int p1), (3, .int p2)] := hl
  refine lv_iload_n hx hb dX10_familyDay_0 rfl (lv_at hl 3 rfl) ?_
  refine lv_iconst (v := 5) hx hb dX10_familyDay_1 (by decide) ?_
  obtain ⟨J1, jJ1, hp⟩ := hp
  refine hp_jn0 (G := G) (A := A) (z := z) (J := J1) (nL := 5) (j := 41) (lvf := [(0, .ref o), (1, .int p0), (2, .int p1), (3, .int p2)]) (stf := []) (fun kJ1 => ?_) (fun  w2 H locs ls hp h hl => ?_)
  · refine lv_icmp_lt (tgt := 41) hx hb dX10_familyDay_2 (by decide) (fun hc3 => ?_) (fun hc3 => ?_)
    · have hp := hp.1 hc3
      exact kJ1 w _ _ _ hp h (lv_sub hl [0, 1, 2, 3] rfl)
    · have hp := hp.2 hc3
      refine lv_aload_n hx hb dX10_familyDay_5 rfl (lv_at hl 0 rfl) ?_
      obtain ⟨b4, eb4, hob4, hp⟩ := hp
      refine hp_get (ci := 10) (v := .ref b4) hx hb hts ix_X10_familyDay_10 hown hK h ho (by decide) rfl 17 (by decide) (hts _ lk_X10_familyDay_49) (fun _ h9 => h9) (by show some (va_rf (zR z 1017 o)) = some (Value.ref b4); rw [eb4]; rfl) dX10_familyDay_6 ?_
      refine lv_iload_n hx hb dX10_familyDay_9 rfl (lv_at hl 1 rfl) ?_
      refine hp_iald (t := 2017) (n := 8) hx hb hK h hob4 (by decide) (fun _ _ _ => rfl) hp.1 dX10_familyDay_10 ?_
      have hp := hp.2
      refine lv_bipush (v := 9) hx hb dX10_familyDay_11 (by decide) ?_
      refine lv_iadd hx hb dX10_familyDay_13 ?_
      refine lv_bipush (v := 10) hx hb dX10_familyDay_14 (by decide) ?_
      refine lv_idiv hx hb dX10_familyDay_16 (by decide) ?_
      refine lv_topi (fun x5 ex5 => ?_)
      have hp := hp x5 ex5
      refine lv_istore (lv' := [(4, .int x5), (0, .ref o), (1, .int p0), (2, .int p1), (3, .int p2)]) hx hb dX10_familyDay_17 hl (by decide) rfl (fun ls hl => ?_)
      refine lv_aload_n hx hb dX10_familyDay_19 rfl (lv_at hl 1 rfl) ?_
      refine hp_get (ci := 10) (v := .ref b4) hx hb hts ix_X10_familyDay_10 hown hK h ho (by decide) rfl 17 (by decide) (hts _ lk_X10_familyDay_49) (fun _ h9 => h9) (by show some (va_rf (zR z 1017 o)) = some (Value.ref b4); rw [eb4]; rfl) dX10_familyDay_20 ?_
      refine lv_iload_n hx hb dX10_familyDay_23 rfl (lv_at hl 2 rfl) ?_
      refine lv_dup2_11 hx hb dX10_familyDay_24 rfl rfl ?_
      refine hp_iald (t := 2017) (n := 8) hx hb hK h hob4 (by decide) (fun _ _ _ => rfl) hp.1 dX10_familyDay_25 ?_
      have hp := hp.2
      refine lv_iload hx hb dX10_familyDay_26 (lv_at hl 0 rfl) ?_
      refine lv_isub hx hb dX10_familyDay_28 ?_
      refine hp_iast (t := 2017) (n := 8) hx hb hK h hob4 (by decide) (fun _ _ _ => rfl) hp.1 dX10_familyDay_29 (fun H locs w6 ew6 h => ?_)
      have hp := hp.2 w6 ew6
      refine lv_aload_n hx hb dX10_familyDay_30 rfl (lv_at hl 1 rfl) ?_
      obtain ⟨b7, eb7, hob7, hp⟩ := hp
      refine hp_get (ci := 10) (v := .ref b7) hx hb hts ix_X10_familyDay_10 hown hK h ho (by decide) rfl 20 (by decide) (hts _ lk_X10_familyDay_58) (fun _ h9 => h9) (by show some (va_rf (zR z 1020 o)) = some (Value.ref b7); rw [eb7]; rfl) dX10_familyDay_31 ?_
      refine lv_iload_n hx hb dX10_familyDay_34 rfl (lv_at hl 2 rfl) ?_
      refine lv_dup2_11 hx hb dX10_familyDay_35 rfl rfl ?_
      refine hp_iald (t := 2020) (n := 8) hx hb hK h hob7 (by decide) (fun _ _ _ => rfl) hp.1 dX10_familyDay_36 ?_
      have hp := hp.2
      refine lv_iload hx hb dX10_familyDay_37 (lv_at hl 0 rfl) ?_
      refine lv_iadd hx hb dX10_familyDay_39 ?_
      refine hp_iast (t := 2020) (n := 8) hx hb hK h hob7 (by decide) (fun _ _ _ => rfl) hp.1 dX10_familyDay_40 (fun H locs w8 ew8 h => ?_)
      have hp := hp.2 w8 ew8
      exact kJ1 w8 _ _ _ hp h (lv_sub hl [1, 2, 3, 4] rfl)
  have hp := jJ1  w2 hp
  refine lv_iload_n hx hb dX10_familyDay_41 rfl (lv_at hl 3 rfl) ?_
  refine lv_if_le (tgt := 46) hx hb dX10_familyDay_42 (by decide) (fun hc9 => ?_) (fun hc9 => ?_)
  · have hp := hp.1 hc9
    refine lv_aload_n hx hb dX10_familyDay_46 rfl (lv_at hl 0 rfl) ?_
    obtain ⟨b10, eb10, hob10, hp⟩ := hp
    refine hp_get (ci := 10) (v := .ref b10) hx hb hts ix_X10_familyDay_10 hown hK h ho (by decide) rfl 16 (by decide) (hts _ lk_X10_familyDay_46) (fun _ h9 => h9) (by show some (va_rf (zR z 1016 o)) = some (Value.ref b10); rw [eb10]; rfl) dX10_familyDay_47 ?_
    refine lv_iload_n hx hb dX10_familyDay_50 rfl (lv_at hl 1 rfl) ?_
    refine hp_iald (t := 2016) (n := 8) hx hb hK h hob10 (by decide) (fun _ _ _ => rfl) hp.1 dX10_familyDay_51 ?_
    have hp := hp.2
    refine lv_i2l hx hb dX10_familyDay_52 rfl ?_
    refine lv_iload_n hx hb dX10_familyDay_53 rfl (lv_at hl 2 rfl) ?_
    refine lv_i2l hx hb dX10_familyDay_54 rfl ?_
    refine lv_lmul hx hb dX10_familyDay_55 ?_
    refine lv_ldc2 (v := 10) hx hb hown (hts _ wd_X10_familyDay_c151) dX10_familyDay_56 ?_
    refine lv_ldiv hx hb dX10_familyDay_59 (by decide) ?_
    refine lv_ldc2 (v := 4) hx hb hown (hts _ wd_X10_familyDay_c153) dX10_familyDay_60 ?_
    refine lv_ldiv hx hb dX10_familyDay_63 (by decide) ?_
    refine lv_l2i hx hb dX10_familyDay_64 rfl ?_
    refine lv_topi (fun x11 ex11 => ?_)
    have hp := hp x11 ex11
    refine lv_istore (lv' := [(4, .int x11), (0, .ref o), (1, .int p0), (2, .int p1), (3, .int p2)]) hx hb dX10_familyDay_65 hl (by decide) rfl (fun ls hl => ?_)
    refine lv_aload_n hx hb dX10_familyDay_67 rfl (lv_at hl 1 rfl) ?_
    refine hp_get (ci := 10) (v := .ref b10) hx hb hts ix_X10_familyDay_10 hown hK h ho (by decide) rfl 16 (by decide) (hts _ lk_X10_familyDay_46) (fun _ h9 => h9) (by show some (va_rf (zR z 1016 o)) = some (Value.ref b10); rw [eb10]; rfl) dX10_familyDay_68 ?_
    refine lv_iload_n hx hb dX10_familyDay_71 rfl (lv_at hl 2 rfl) ?_
    refine lv_dup2_11 hx hb dX10_familyDay_72 rfl rfl ?_
    refine hp_iald (t := 2016) (n := 8) hx hb hK h hob10 (by decide) (fun _ _ _ => rfl) hp.1 dX10_familyDay_73 ?_
    have hp := hp.2
    refine lv_iconst (v := 4) hx hb dX10_familyDay_74 (by decide) ?_
    refine lv_iload hx hb dX10_familyDay_75 (lv_at hl 0 rfl) ?_
    refine lv_imul hx hb dX10_familyDay_77 ?_
    refine lv_isub hx hb dX10_familyDay_78 ?_
    refine hp_iast (t := 2016) (n := 8) hx hb hK h hob10 (by decide) (fun _ _ _ => rfl) hp.1 dX10_familyDay_79 (fun H locs w12 ew12 h => ?_)
    have hp := hp.2 w12 ew12
    refine lv_aload_n hx hb dX10_familyDay_80 rfl (lv_at hl 1 rfl) ?_
    obtain ⟨b13, eb13, hob13, hp⟩ := hp
    refine hp_get (ci := 10) (v := .ref b13) hx hb hts ix_X10_familyDay_10 hown hK h ho (by decide) rfl 17 (by decide) (hts _ lk_X10_familyDay_49) (fun _ h9 => h9) (by show some (va_rf (zR z 1017 o)) = some (Value.ref b13); rw [eb13]; rfl) dX10_familyDay_81 ?_
    refine lv_iload_n hx hb dX10_familyDay_84 rfl (lv_at hl 2 rfl) ?_
    refine lv_dup2_11 hx hb dX10_familyDay_85 rfl rfl ?_
    refine hp_iald (t := 2017) (n := 8) hx hb hK h hob13 (by decide) (fun _ _ _ => rfl) hp.1 dX10_familyDay_86 ?_
    have hp := hp.2
    refine lv_iload hx hb dX10_familyDay_87 (lv_at hl 0 rfl) ?_
    refine lv_iadd hx hb dX10_familyDay_89 ?_
    refine hp_iast (t := 2017) (n := 8) hx hb hK h hob13 (by decide) (fun _ _ _ => rfl) hp.1 dX10_familyDay_90 (fun H locs w14 ew14 h => ?_)
    have hp := hp.2 w14 ew14
    exact hp_vret hx hb hr hlocks hK h hp dX10_familyDay_91
  · have hp := hp.2 hc9
    exact hp_vret hx hb hr hlocks hK h hp dX10_familyDay_45
abbrev rmX10_pitDay : Room := { frames := 0, cells := 0, slots := 0, locals := 0 }
theorem ix_X10_pitDay_10 : ∀ w ∈ wsX100, w ∈ wsX10_pitDay := by decide +kernel
theorem lk_X10_pitDay_73 : Cond.fieldLink RX10 73 "KelpShoresModel" "left" "[I" ∈ wsX10_pitDay := by decide +kernel
theorem lk_X10_pitDay_67 : Cond.fieldLink RX10 67 "KelpShoresModel" "pitOf" "[I" ∈ wsX10_pitDay := by decide +kernel
theorem lk_X10_pitDay_52 : Cond.fieldLink RX10 52 "KelpShoresModel" "ash" "[I" ∈ wsX10_pitDay := by decide +kernel
theorem lk_X10_pitDay_70 : Cond.fieldLink RX10 70 "KelpShoresModel" "load" "[I" ∈ wsX10_pitDay := by decide +kernel
theorem lk_X10_pitDay_49 : Cond.fieldLink RX10 49 "KelpShoresModel" "dry" "[I" ∈ wsX10_pitDay := by decide +kernel
theorem lk_X10_pitDay_61 : Cond.fieldLink RX10 61 "KelpShoresModel" "lost" "[I" ∈ wsX10_pitDay := by decide +kernel
def wp_X10_pitDay (z : Zt) (o : Nat) (p0 : Int32) (p1 : Int32) (w : Vt) (K : Vt → Prop) : Prop := isO z 10 o ∧ ∃ b1 : Nat, zR z 1025 o = some b1 ∧ isO z 2025 b1 ∧ vp_in p0 12 ∧ (¬ (vA w 2025 b1 (p0 : Int32).toNatClampNeg) = 0 → ∃ b3 : Nat, zR z 1023 o = some b3 ∧ isO z 2023 b3 ∧ vp_in p0 12 ∧ ∀ x4 : Int32, x4 = vA w 2023 b3 (p0 : Int32).toNatClampNeg → (p1 < 3 → vp_in p0 12 ∧ vp_in p0 12 ∧ ∀ w6 : Vt, w6 = uA w 2025 b1 (p0 : Int32).toNatClampNeg ((vA w 2025 b1 (p0 : Int32).toNatClampNeg) - 1) → vp_in p0 12 ∧ (¬ (vA w6 2025 b1 (p0 : Int32).toNatClampNeg) = 0 → K w6) ∧ ((vA w6 2025 b1 (p0 : Int32).toNatClampNeg) = 0 → ∃ b8 : Nat, zR z 1018 o = some b8 ∧ isO z 2018 b8 ∧ vp_in x4 8 ∧ ∃ b9 : Nat, zR z 1024 o = some b9 ∧ isO z 2024 b9 ∧ vp_in p0 12 ∧ vp_in x4 8 ∧ ∀ w10 : Vt, w10 = uA w6 2018 b8 (x4 : Int32).toNatClampNeg ((vA w6 2018 b8 (x4 : Int32).toNatClampNeg) + ((vA w6 2024 b9 (p0 : Int32).toNatClampNeg) / 5)) → K w10)) ∧ (¬ p1 < 3 → ∃ b11 : Nat, zR z 1017 o = some b11 ∧ isO z 2017 b11 ∧ vp_in x4 8 ∧ ∃ b12 : Nat, zR z 1024 o = some b12 ∧ isO z 2024 b12 ∧ vp_in p0 12 ∧ vp_in x4 8 ∧ ∀ w13 : Vt, w13 = uA w 2017 b11 (x4 : Int32).toNatClampNeg ((vA w 2017 b11 (x4 : Int32).toNatClampNeg) + ((vA w 2024 b12 (p0 : Int32).toNatClampNeg) / 2)) → ∃ b14 : Nat, zR z 1021 o = some b14 ∧ isO z 2021 b14 ∧ vp_in x4 8 ∧ vp_in p0 12 ∧ vp_in p0 12 ∧ vp_in x4 8 ∧ ∀ w15 : Vt, w15 = uA w13 2021 b14 (x4 : Int32).toNatClampNeg ((vA w13 2021 b14 (x4 : Int32).toNatClampNeg) + ((vA w13 2024 b12 (p0 : Int32).toNatClampNeg) - ((vA w13 2024 b12 (p0 : Int32).toNatClampNeg) / 2))) → vp_in p0 12 ∧ ∀ w16 : Vt, w16 = uA w15 2025 b1 (p0 : Int32).toNatClampNeg 0 → K w16)) ∧ ((vA w 2025 b1 (p0 : Int32).toNatClampNeg) = 0 → K w)
set_option maxHeartbeats 4000000 in
set_option maxRecDepth 100000 in
theorem k_X10_pitDay (l : Launch) (G : Gt) (z : Zt) (w : Vt) (sz : Nat) (o : Nat) (p0 : Int32) (p1 : Int32) (K : Vt → Prop) (hp : wp_X10_pitDay z o p0 p1 w K) : MV l yX10_pitDay wsX10_pitDay rmX10_pitDay G z w sz [.ref o, .int p0, .int p1] K := by
  refine Met.ofW (cc := cX10_pitDay) (maxL := 4) (ret := none) (by decide +kernel) rfl ?_
  intro p e s m args below meth c s₁ B hml hv
  obtain ⟨rfl, rfl, C, h⟩ := hp_start B hml hv
  generalize gA G z w s.heap.size = A at C h ⊢
  obtain ⟨hx, hb, hr, hlocks, hml, hown, hts, hK, hA, hE⟩ := id C
  obtain ⟨ho, hp⟩ := hp
  have hl := lv_entry ([.ref o, .int p0, .int p1]) (n := 4) (Nat.le_of_ble_eq_true rfl)
  rw [lg_entry_eq]
  generalize (lg_sl ([.ref o, .int p0, .int p1]) ++ List.replicate (4 - (lg_sl ([.ref o, .int p0, .int p1])).length) Slot.unset).toArray = ls at hl ⊢
  have hl : lv_has ls 4 [(0, .ref o), (1, .int p0), (2, .int p1)] := hl
  refine lv_aload_n hx hb dX10_pitDay_0 rfl (lv_at hl 0 rfl) ?_
  obtain ⟨b1, eb1, hob1, hp⟩ := hp
  refine hp_get (ci := 10) (v := .ref b1) hx hb hts ix_X10_pitDay_10 hown hK h ho (by decide) rfl 25 (by decide) (hts _ lk_X10_pitDay_73) (fun _ h9 => h9) (by show some (va_rf (zR z 1025 o)) = some (Value.ref b1); rw [eb1]; rfl) dX10_pitDay_1 ?_
  refine lv_iload_n hx hb dX10_pitDay_4 rfl (lv_at hl 1 rfl) ?_
  refine hp_iald (t := 2025) (n := 12) hx hb hK h hob1 (by decide) (fun _ _ _ => rfl) hp.1 dX10_pitDay_5 ?_
  have hp := hp.2
  refine lv_if_ne (tgt := 10) hx hb dX10_pitDay_6 (by decide) (fun hc2 => ?_) (fun hc2 => ?_)
  · have hp := hp.1 hc2
    refine lv_aload_n hx hb dX10_pitDay_10 rfl (lv_at hl 0 rfl) ?_
    obtain ⟨b3, eb3, hob3, hp⟩ := hp
    refine hp_get (ci := 10) (v := .ref b3) hx hb hts ix_X10_pitDay_10 hown hK h ho (by decide) rfl 23 (by decide) (hts _ lk_X10_pitDay_67) (fun _ h9 => h9) (by show some (va_rf (zR z 1023 o)) = some (Value.ref b3); rw [eb3]; rfl) dX10_pitDay_11 ?_
    refine lv_iload_n hx hb dX10_pitDay_14 rfl (lv_at hl 1 rfl) ?_
    refine hp_iald (t := 2023) (n := 12) hx hb hK h hob3 (by decide) (fun _ _ _ => rfl) hp.1 dX10_pitDay_15 ?_
    have hp := hp.2
    refine lv_topi (fun x4 ex4 => ?_)
    have hp := hp x4 ex4
    refine lv_istore_n (lv' := [(3, .int x4), (0, .ref o), (1, .int p0), (2, .int p1)]) hx hb dX10_pitDay_16 rfl hl (by decide) rfl (fun ls hl => ?_)
    refine lv_iload_n hx hb dX10_pitDay_17 rfl (lv_at hl 3 rfl) ?_
    refine lv_iconst (v := 3) hx hb dX10_pitDay_18 (by decide) ?_
    refine lv_icmp_lt (tgt := 71) hx hb dX10_pitDay_19 (by decide) (fun hc5 => ?_) (fun hc5 => ?_)
    · have hp := hp.1 hc5
      refine lv_aload_n hx hb dX10_pitDay_71 rfl (lv_at hl 1 rfl) ?_
      refine hp_get (ci := 10) (v := .ref b1) hx hb hts ix_X10_pitDay_10 hown hK h ho (by decide) rfl 25 (by decide) (hts _ lk_X10_pitDay_73) (fun _ h9 => h9) (by show some (va_rf (zR z 1025 o)) = some (Value.ref b1); rw [eb1]; rfl) dX10_pitDay_72 ?_
      refine lv_iload_n hx hb dX10_pitDay_75 rfl (lv_at hl 2 rfl) ?_
      refine lv_dup2_11 hx hb dX10_pitDay_76 rfl rfl ?_
      refine hp_iald (t := 2025) (n := 12) hx hb hK h hob1 (by decide) (fun _ _ _ => rfl) hp.1 dX10_pitDay_77 ?_
      have hp := hp.2
      refine lv_iconst (v := 1) hx hb dX10_pitDay_78 (by decide) ?_
      refine lv_isub hx hb dX10_pitDay_79 ?_
      refine hp_iast (t := 2025) (n := 12) hx hb hK h hob1 (by decide) (fun _ _ _ => rfl) hp.1 dX10_pitDay_80 (fun H locs w6 ew6 h => ?_)
      have hp := hp.2 w6 ew6
      refine lv_aload_n hx hb dX10_pitDay_81 rfl (lv_at hl 1 rfl) ?_
      refine hp_get (ci := 10) (v := .ref b1) hx hb hts ix_X10_pitDay_10 hown hK h ho (by decide) rfl 25 (by decide) (hts _ lk_X10_pitDay_73) (fun _ h9 => h9) (by show some (va_rf (zR z 1025 o)) = some (Value.ref b1); rw [eb1]; rfl) dX10_pitDay_82 ?_
      refine lv_iload_n hx hb dX10_pitDay_85 rfl (lv_at hl 2 rfl) ?_
      refine hp_iald (t := 2025) (n := 12) hx hb hK h hob1 (by decide) (fun _ _ _ => rfl) hp.1 dX10_pitDay_86 ?_
      have hp := hp.2
      refine lv_if_ne (tgt := 107) hx hb dX10_pitDay_87 (by decide) (fun hc7 => ?_) (fun hc7 => ?_)
      · have hp := hp.1 hc7
        exact hp_vret hx hb hr hlocks hK h hp dX10_pitDay_107
      · have hp := hp.2 hc7
        refine lv_aload_n hx hb dX10_pitDay_90 rfl (lv_at hl 1 rfl) ?_
        obtain ⟨b8, eb8, hob8, hp⟩ := hp
        refine hp_get (ci := 10) (v := .ref b8) hx hb hts ix_X10_pitDay_10 hown hK h ho (by decide) rfl 18 (by decide) (hts _ lk_X10_pitDay_52) (fun _ h9 => h9) (by show some (va_rf (zR z 1018 o)) = some (Value.ref b8); rw [eb8]; rfl) dX10_pitDay_91 ?_
        refine lv_iload_n hx hb dX10_pitDay_94 rfl (lv_at hl 0 rfl) ?_
        refine lv_dup2_11 hx hb dX10_pitDay_95 rfl rfl ?_
        refine hp_iald (t := 2018) (n := 8) hx hb hK h hob8 (by decide) (fun _ _ _ => rfl) hp.1 dX10_pitDay_96 ?_
        have hp := hp.2
        refine lv_aload_n hx hb dX10_pitDay_97 rfl (lv_at hl 1 rfl) ?_
        obtain ⟨b9, eb9, hob9, hp⟩ := hp
        refine hp_get (ci := 10) (v := .ref b9) hx hb hts ix_X10_pitDay_10 hown hK h ho (by decide) rfl 24 (by decide) (hts _ lk_X10_pitDay_70) (fun _ h9 => h9) (by show some (va_rf (zR z 1024 o)) = some (Value.ref b9); rw [eb9]; rfl) dX10_pitDay_98 ?_
        refine lv_iload_n hx hb dX10_pitDay_101 rfl (lv_at hl 2 rfl) ?_
        refine hp_iald (t := 2024) (n := 12) hx hb hK h hob9 (by decide) (fun _ _ _ => rfl) hp.1 dX10_pitDay_102 ?_
        have hp := hp.2
        refine lv_iconst (v := 5) hx hb dX10_pitDay_103 (by decide) ?_
        refine lv_idiv hx hb dX10_pitDay_104 (by decide) ?_
        refine lv_iadd hx hb dX10_pitDay_105 ?_
        refine hp_iast (t := 2018) (n := 8) hx hb hK h hob8 (by decide) (fun _ _ _ => rfl) hp.1 dX10_pitDay_106 (fun H locs w10 ew10 h => ?_)
        have hp := hp.2 w10 ew10
        exact hp_vret hx hb hr hlocks hK h hp dX10_pitDay_107
    · have hp := hp.2 hc5
      refine lv_aload_n hx hb dX10_pitDay_22 rfl (lv_at hl 1 rfl) ?_
      obtain ⟨b11, eb11, hob11, hp⟩ := hp
      refine hp_get (ci := 10) (v := .ref b11) hx hb hts ix_X10_pitDay_10 hown hK h ho (by decide) rfl 17 (by decide) (hts _ lk_X10_pitDay_49) (fun _ h9 => h9) (by show some (va_rf (zR z 1017 o)) = some (Value.ref b11); rw [eb11]; rfl) dX10_pitDay_23 ?_
      refine lv_iload_n hx hb dX10_pitDay_26 rfl (lv_at hl 0 rfl) ?_
      refine lv_dup2_11 hx hb dX10_pitDay_27 rfl rfl ?_
      refine hp_iald (t := 2017) (n := 8) hx hb hK h hob11 (by decide) (fun _ _ _ => rfl) hp.1 dX10_pitDay_28 ?_
      have hp := hp.2
      refine lv_aload_n hx hb dX10_pitDay_29 rfl (lv_at hl 1 rfl) ?_
      obtain ⟨b12, eb12, hob12, hp⟩ := hp
      refine hp_get (ci := 10) (v := .ref b12) hx hb hts ix_X10_pitDay_10 hown hK h ho (by decide) rfl 24 (by decide) (hts _ lk_X10_pitDay_70) (fun _ h9 => h9) (by show some (va_rf (zR z 1024 o)) = some (Value.ref b12); rw [eb12]; rfl) dX10_pitDay_30 ?_
      refine lv_iload_n hx hb dX10_pitDay_33 rfl (lv_at hl 2 rfl) ?_
      refine hp_iald (t := 2024) (n := 12) hx hb hK h hob12 (by decide) (fun _ _ _ => rfl) hp.1 dX10_pitDay_34 ?_
      have hp := hp.2
      refine lv_iconst (v := 2) hx hb dX10_pitDay_35 (by decide) ?_
      refine lv_idiv hx hb dX10_pitDay_36 (by decide) ?_
      refine lv_iadd hx hb dX10_pitDay_37 ?_
      refine hp_iast (t := 2017) (n := 8) hx hb hK h hob11 (by decide) (fun _ _ _ => rfl) hp.1 dX10_pitDay_38 (fun H locs w13 ew13 h => ?_)
      have hp := hp.2 w13 ew13
      refine lv_aload_n hx hb dX10_pitDay_39 rfl (lv_at hl 1 rfl) ?_
      obtain ⟨b14, eb14, hob14, hp⟩ := hp
      refine hp_get (ci := 10) (v := .ref b14) hx hb hts ix_X10_pitDay_10 hown hK h ho (by decide) rfl 21 (by decide) (hts _ lk_X10_pitDay_61) (fun _ h9 => h9) (by show some (va_rf (zR z 1021 o)) = some (Value.ref b14); rw [eb14]; rfl) dX10_pitDay_40 ?_
      refine lv_iload_n hx hb dX10_pitDay_43 rfl (lv_at hl 0 rfl) ?_
      refine lv_dup2_11 hx hb dX10_pitDay_44 rfl rfl ?_
      refine hp_iald (t := 2021) (n := 8) hx hb hK h hob14 (by decide) (fun _ _ _ => rfl) hp.1 dX10_pitDay_45 ?_
      have hp := hp.2
      refine lv_aload_n hx hb dX10_pitDay_46 rfl (lv_at hl 1 rfl) ?_
      refine hp_get (ci := 10) (v := .ref b12) hx hb hts ix_X10_pitDay_10 hown hK h ho (by decide) rfl 24 (by decide) (hts _ lk_X10_pitDay_70) (fun _ h9 => h9) (by show some (va_rf (zR z 1024 o)) = some (Value.ref b12); rw [eb12]; rfl) dX10_pitDay_47 ?_
      refine lv_iload_n hx hb dX10_pitDay_50 rfl (lv_at hl 2 rfl) ?_
      refine hp_iald (t := 2024) (n := 12) hx hb hK h hob12 (by decide) (fun _ _ _ => rfl) hp.1 dX10_pitDay_51 ?_
      have hp := hp.2
      refine lv_aload_n hx hb dX10_pitDay_52 rfl (lv_at hl 1 rfl) ?_
      refine hp_get (ci := 10) (v := .ref b12) hx hb hts ix_X10_pitDay_10 hown hK h ho (by decide) rfl 24 (by decide) (hts _ lk_X10_pitDay_70) (fun _ h9 => h9) (by show some (va_rf (zR z 1024 o)) = some (Value.ref b12); rw [eb12]; rfl) dX10_pitDay_53 ?_
      refine lv_iload_n hx hb dX10_pitDay_56 rfl (lv_at hl 2 rfl) ?_
      refine hp_iald (t := 2024) (n := 12) hx hb hK h hob12 (by decide) (fun _ _ _ => rfl) hp.1 dX10_pitDay_57 ?_
      have hp := hp.2
      refine lv_iconst (v := 2) hx hb dX10_pitDay_58 (by decide) ?_
      refine lv_idiv hx hb dX10_pitDay_59 (by decide) ?_
      refine lv_isub hx hb dX10_pitDay_60 ?_
      refine lv_iadd hx hb dX10_pitDay_61 ?_
      refine hp_iast (t := 2021) (n := 8) hx hb hK h hob14 (by decide) (fun _ _ _ => rfl) hp.1 dX10_pitDay_62 (fun H locs w15 ew15 h => ?_)
      have hp := hp.2 w15 ew15
      refine lv_aload_n hx hb dX10_pitDay_63 rfl (lv_at hl 1 rfl) ?_
      refine hp_get (ci := 10) (v := .ref b1) hx hb hts ix_X10_pitDay_10 hown hK h ho (by decide) rfl 25 (by decide) (hts _ lk_X10_pitDay_73) (fun _ h9 => h9) (by show some (va_rf (zR z 1025 o)) = some (Value.ref b1); rw [eb1]; rfl) dX10_pitDay_64 ?_
      refine lv_iload_n hx hb dX10_pitDay_67 rfl (lv_at hl 2 rfl) ?_
      refine lv_iconst (v := 0) hx hb dX10_pitDay_68 (by decide) ?_
      refine hp_iast (t := 2025) (n := 12) hx hb hK h hob1 (by decide) (fun _ _ _ => rfl) hp.1 dX10_pitDay_69 (fun H locs w16 ew16 h => ?_)
      have hp := hp.2 w16 ew16
      exact hp_vret hx hb hr hlocks hK h hp dX10_pitDay_70
  · have hp := hp.2 hc2
    exact hp_vret hx hb hr hlocks hK h hp dX10_pitDay_9
abbrev rmX10_day : Room := { frames := 1, cells := 0, slots := 0, locals := 24 }
theorem ix_X10_day_10 : ∀ w ∈ wsX100, w ∈ wsX10_day := by decide +kernel
theorem lk_X10_day_127 : Cond.fieldLink RX10 127 "KelpShoresModel" "thrown" "I" ∈ wsX10_day := by decide +kernel
theorem lk_X10_day_148 : Cond.fieldLink RX10 148 "KelpShoresModel" "today" "I" ∈ wsX10_day := by decide +kernel
theorem lk_X10_day_155 : Cond.fieldLink RX10 155 "KelpShoresModel" "tide" "I" ∈ wsX10_day := by decide +kernel
theorem lk_X10_day_130 : Cond.fieldLink RX10 130 "KelpShoresModel" "shores" "I" ∈ wsX10_day := by decide +kernel
theorem lk_X10_day_55 : Cond.fieldLink RX10 55 "KelpShoresModel" "work" "[I" ∈ wsX10_day := by decide +kernel
theorem lk_X10_day_166 : Cond.fieldLink RX10 166 "KelpShoresModel" "pits" "I" ∈ wsX10_day := by decide +kernel
def wL_X10_day_102 (z : Zt) (o : Nat) (K : Int32 → Vt → Prop) (Kx : Int32 → Int32 → Int32 → Int32 → Int32 → Vt → Prop) : Nat → Int32 → Int32 → Int32 → Int32 → Int32 → Vt → Prop
  | 0, _, _, _, _, _, _ => False
  | n + 1, x5_, x1_, x2_, x3_, x4_, w => ((vI w 1014 o) ≤ x5_ → Kx x5_ x1_ x2_ x3_ x4_ w) ∧ (¬ (vI w 1014 o) ≤ x5_ → wp_X10_shoreDay z o x5_ x4_ w (fun w30 => ∀ x32 : Int32, x32 = x5_ + 1 → wL_X10_day_102 z o K Kx n x32 x1_ x2_ x3_ x4_ w30))
set_option maxHeartbeats 4000000 in
set_option maxRecDepth 100000 in
theorem kL_X10_day_102 {p : Program} {l : Launch} {e : Env} {s : State} {m : MethodId} {args : Array Value} {below : List Frame} {meth : Method} {c : Code} {G : Gt} {A : Nat → Prop} {z : Zt} (C : gC p s m args meth c cX10_day 6 RX10 wsX10_day (some .int) G A) (o : Nat) (ho : isO z 10 o) (K : Int32 → Vt → Prop) (Kx : Int32 → Int32 → Int32 → Int32 → Int32 → Vt → Prop) (kKx : ∀ (x5_ x1_ x2_ x3_ x4_ : Int32) (w : Vt) (H : Heap) (locs : List Loc) (ls : Array Slot), Kx x5_ x1_ x2_ x3_ x4_ w → hpH G.1 G.2.1 A s.heap z w H locs → lv_has ls 6 [(5, .int x5_), (0, .ref o), (1, .int x1_), (2, .int x2_), (3, .int x3_), (4, .int x4_)] → W p l e (headSpec wsX10_day rmX10_day).room s m args below meth c H locs 0 0 (MQ below (va_Qi K (gB G A z) A) args s 0 0 A) (F0 m 125 ls [])) : ∀ (n : Nat) (x5_ x1_ x2_ x3_ x4_ : Int32) (w : Vt) (H : Heap) (locs : List Loc) (ls : Array Slot), wL_X10_day_102 z o K Kx n x5_ x1_ x2_ x3_ x4_ w → hpH G.1 G.2.1 A s.heap z w H locs → lv_has ls 6 [(5, .int x5_), (0, .ref o), (1, .int x1_), (2, .int x2_), (3, .int x3_), (4, .int x4_)] → W p l e (headSpec wsX10_day rmX10_day).room s m args below meth c H locs 0 0 (MQ below (va_Qi K (gB G A z) A) args s 0 0 A) (F0 m 102 ls []) := by
  obtain ⟨hx, hb, hr, hlocks, hml, hown, hts, hK, hA, hE⟩ := id C
  intro n
  induction n with
  | zero =>
    intro x5_ x1_ x2_ x3_ x4_ w H locs ls hp
    exact hp.elim
  | succ n ih =>
    intro x5_ x1_ x2_ x3_ x4_ w H locs ls hp h hl
    refine lv_iload hx hb dX10_day_102 (lv_at hl 0 rfl) ?_
    refine lv_aload_n hx hb dX10_day_104 rfl (lv_at hl 1 rfl) ?_
    refine hp_get (ci := 10) (v := .int (vI w 1014 o)) hx hb hts ix_X10_day_10 hown hK h ho (by decide) rfl 14 (by decide) (hts _ lk_X10_day_130) (fun _ h9 => h9) rfl dX10_day_105 ?_
    refine lv_icmp_ge (tgt := 125) hx hb dX10_day_108 (by decide) (fun hc29 => ?_) (fun hc29 => ?_)
    · have hp := hp.1 hc29
      exact kKx x5_ x1_ x2_ x3_ x4_ w _ _ _ hp h (lv_sub hl [0, 1, 2, 3, 4, 5] rfl)
    · have hp := hp.2 hc29
      refine lv_aload_n hx hb dX10_day_111 rfl (lv_at hl 1 rfl) ?_
      refine lv_iload hx hb dX10_day_112 (lv_at hl 0 rfl) ?_
      refine lv_iload hx hb dX10_day_114 (lv_at hl 5 rfl) ?_
      refine hp_cVv ⟨hx, hb, hml, hown, hts⟩ (k_X10_shoreDay l G z w _ o x5_ x4_ _ hp) (cwV 2 hts gX10_day_X10_shoreDay rfl rfl rfl (by decide +kernel) ⟨Nat.le_of_ble_eq_true rfl, Nat.le_of_ble_eq_true rfl⟩) ho (by decide) rfl hK h hA hE rfl hl.1 rfl (Nat.le_of_ble_eq_true rfl) dX10_day_116 ⟨Nat.le_of_ble_eq_true rfl, Nat.le_of_ble_eq_true rfl⟩ (fun w30 H locs hp h => ?_)
      obtain ⟨x32, ex32⟩ : ∃ y : Int32, y = x5_ + 1 := ⟨_, rfl⟩
      have hp := hp x32 ex32
      refine lv_iinc (v := x32) (lv' := [(5, .int x32), (0, .ref o), (1, .int x1_), (2, .int x2_), (3, .int x3_), (4, .int x4_)]) hx hb dX10_day_119 hl (k := 0) rfl (by rw [ex32]; rfl) (by decide) rfl (fun ls hl => ?_)
      refine lv_goto (tgt := 102) hx hb dX10_day_122 (by decide) ?_
      exact ih x32 x1_ x2_ x3_ x4_ w30 _ _ _ hp h (lv_sub hl [0, 1, 2, 3, 4, 5] rfl)
def wL_X10_day_128 (z : Zt) (o : Nat) (K : Int32 → Vt → Prop) (Kx : Int32 → Int32 → Int32 → Int32 → Int32 → Vt → Prop) : Nat → Int32 → Int32 → Int32 → Int32 → Int32 → Vt → Prop
  | 0, _, _, _, _, _, _ => False
  | n + 1, x5_, x1_, x2_, x3_, x4_, w => (8 ≤ x5_ → Kx x5_ x1_ x2_ x3_ x4_ w) ∧ (¬ 8 ≤ x5_ → wp_X10_familyDay z o x5_ x2_ x3_ w (fun w41 => ∃ b43 : Nat, zR z 1019 o = some b43 ∧ isO z 2019 b43 ∧ vp_in x5_ 8 ∧ ∀ w44 : Vt, w44 = uA w41 2019 b43 (x5_ : Int32).toNatClampNeg 0 → ∀ x45 : Int32, x45 = x5_ + 1 → wL_X10_day_128 z o K Kx n x45 x1_ x2_ x3_ x4_ w44))
set_option maxHeartbeats 4000000 in
set_option maxRecDepth 100000 in
theorem kL_X10_day_128 {p : Program} {l : Launch} {e : Env} {s : State} {m : MethodId} {args : Array Value} {below : List Frame} {meth : Method} {c : Code} {G : Gt} {A : Nat → Prop} {z : Zt} (C : gC p s m args meth c cX10_day 6 RX10 wsX10_day (some .int) G A) (o : Nat) (ho : isO z 10 o) (K : Int32 → Vt → Prop) (Kx : Int32 → Int32 → Int32 → Int32 → Int32 → Vt → Prop) (kKx : ∀ (x5_ x1_ x2_ x3_ x4_ : Int32) (w : Vt) (H : Heap) (locs : List Loc) (ls : Array Slot), Kx x5_ x1_ x2_ x3_ x4_ w → hpH G.1 G.2.1 A s.heap z w H locs → lv_has ls 6 [(5, .int x5_), (0, .ref o), (1, .int x1_), (2, .int x2_), (3, .int x3_), (4, .int x4_)] → W p l e (headSpec wsX10_day rmX10_day).room s m args below meth c H locs 0 0 (MQ below (va_Qi K (gB G A z) A) args s 0 0 A) (F0 m 157 ls [])) : ∀ (n : Nat) (x5_ x1_ x2_ x3_ x4_ : Int32) (w : Vt) (H : Heap) (locs : List Loc) (ls : Array Slot), wL_X10_day_128 z o K Kx n x5_ x1_ x2_ x3_ x4_ w → hpH G.1 G.2.1 A s.heap z w H locs → lv_has ls 6 [(5, .int x5_), (0, .ref o), (1, .int x1_), (2, .int x2_), (3, .int x3_), (4, .int x4_)] → W p l e (headSpec wsX10_day rmX10_day).room s m args below meth c H locs 0 0 (MQ below (va_Qi K (gB G A z) A) args s 0 0 A) (F0 m 128 ls []) := by
  obtain ⟨hx, hb, hr, hlocks, hml, hown, hts, hK, hA, hE⟩ := id C
  intro n
  induction n with
  | zero =>
    intro x5_ x1_ x2_ x3_ x4_ w H locs ls hp
    exact hp.elim
  | succ n ih =>
    intro x5_ x1_ x2_ x3_ x4_ w H locs ls hp h hl
    refine lv_iload hx hb dX10_day_128 (lv_at hl 0 rfl) ?_
    refine lv_bipush (v := 8) hx hb dX10_day_130 (by decide) ?_
    refine lv_icmp_ge (tgt := 157) hx hb dX10_day_132 (by decide) (fun hc40 => ?_) (fun hc40 => ?_)
    · have hp := hp.1 hc40
      exact kKx x5_ x1_ x2_ x3_ x4_ w _ _ _ hp h (lv_sub hl [0, 1, 2, 3, 4, 5] rfl)
    · have hp := hp.2 hc40
      refine lv_aload_n hx hb dX10_day_135 rfl (lv_at hl 1 rfl) ?_
      refine lv_iload hx hb dX10_day_136 (lv_at hl 0 rfl) ?_
      refine lv_iload_n hx hb dX10_day_138 rfl (lv_at hl 3 rfl) ?_
      refine lv_iload_n hx hb dX10_day_139 rfl (lv_at hl 4 rfl) ?_
      refine hp_cVv ⟨hx, hb, hml, hown, hts⟩ (k_X10_familyDay l G z w _ o x5_ x2_ x3_ _ hp) (cwV 3 hts gX10_day_X10_familyDay rfl rfl rfl (by decide +kernel) ⟨Nat.le_of_ble_eq_true rfl, Nat.le_of_ble_eq_true rfl⟩) ho (by decide) rfl hK h hA hE rfl hl.1 rfl (Nat.le_of_ble_eq_true rfl) dX10_day_140 ⟨Nat.le_of_ble_eq_true rfl, Nat.le_of_ble_eq_true rfl⟩ (fun w41 H locs hp h => ?_)
      refine lv_aload_n hx hb dX10_day_143 rfl (lv_at hl 1 rfl) ?_
      obtain ⟨b43, eb43, hob43, hp⟩ := hp
      refine hp_get (ci := 10) (v := .ref b43) hx hb hts ix_X10_day_10 hown hK h ho (by decide) rfl 19 (by decide) (hts _ lk_X10_day_55) (fun _ h9 => h9) (by show some (va_rf (zR z 1019 o)) = some (Value.ref b43); rw [eb43]; rfl) dX10_day_144 ?_
      refine lv_iload hx hb dX10_day_147 (lv_at hl 0 rfl) ?_
      refine lv_iconst (v := 0) hx hb dX10_day_149 (by decide) ?_
      refine hp_iast (t := 2019) (n := 8) hx hb hK h hob43 (by decide) (fun _ _ _ => rfl) hp.1 dX10_day_150 (fun H locs w44 ew44 h => ?_)
      have hp := hp.2 w44 ew44
      obtain ⟨x45, ex45⟩ : ∃ y : Int32, y = x5_ + 1 := ⟨_, rfl⟩
      have hp := hp x45 ex45
      refine lv_iinc (v := x45) (lv' := [(5, .int x45), (0, .ref o), (1, .int x1_), (2, .int x2_), (3, .int x3_), (4, .int x4_)]) hx hb dX10_day_151 hl (k := 0) rfl (by rw [ex45]; rfl) (by decide) rfl (fun ls hl => ?_)
      refine lv_goto (tgt := 128) hx hb dX10_day_154 (by decide) ?_
      exact ih x45 x1_ x2_ x3_ x4_ w44 _ _ _ hp h (lv_sub hl [0, 1, 2, 3, 4, 5] rfl)
def wL_X10_day_160 (z : Zt) (o : Nat) (K : Int32 → Vt → Prop) (Kx : Int32 → Int32 → Int32 → Int32 → Int32 → Vt → Prop) : Nat → Int32 → Int32 → Int32 → Int32 → Int32 → Vt → Prop
  | 0, _, _, _, _, _, _ => False
  | n + 1, x5_, x1_, x2_, x3_, x4_, w => ((vI w 1026 o) ≤ x5_ → Kx x5_ x1_ x2_ x3_ x4_ w) ∧ (¬ (vI w 1026 o) ≤ x5_ → wp_X10_pitDay z o x5_ x3_ w (fun w54 => ∀ x56 : Int32, x56 = x5_ + 1 → wL_X10_day_160 z o K Kx n x56 x1_ x2_ x3_ x4_ w54))
set_option maxHeartbeats 4000000 in
set_option maxRecDepth 100000 in
theorem kL_X10_day_160 {p : Program} {l : Launch} {e : Env} {s : State} {m : MethodId} {args : Array Value} {below : List Frame} {meth : Method} {c : Code} {G : Gt} {A : Nat → Prop} {z : Zt} (C : gC p s m args meth c cX10_day 6 RX10 wsX10_day (some .int) G A) (o : Nat) (ho : isO z 10 o) (K : Int32 → Vt → Prop) (Kx : Int32 → Int32 → Int32 → Int32 → Int32 → Vt → Prop) (kKx : ∀ (x5_ x1_ x2_ x3_ x4_ : Int32) (w : Vt) (H : Heap) (locs : List Loc) (ls : Array Slot), Kx x5_ x1_ x2_ x3_ x4_ w → hpH G.1 G.2.1 A s.heap z w H locs → lv_has ls 6 [(5, .int x5_), (0, .ref o), (1, .int x1_), (2, .int x2_), (3, .int x3_), (4, .int x4_)] → W p l e (headSpec wsX10_day rmX10_day).room s m args below meth c H locs 0 0 (MQ below (va_Qi K (gB G A z) A) args s 0 0 A) (F0 m 182 ls [])) : ∀ (n : Nat) (x5_ x1_ x2_ x3_ x4_ : Int32) (w : Vt) (H : Heap) (locs : List Loc) (ls : Array Slot), wL_X10_day_160 z o K Kx n x5_ x1_ x2_ x3_ x4_ w → hpH G.1 G.2.1 A s.heap z w H locs → lv_has ls 6 [(5, .int x5_), (0, .ref o), (1, .int x1_), (2, .int x2_), (3, .int x3_), (4, .int x4_)] → W p l e (headSpec wsX10_day rmX10_day).room s m args below meth c H locs 0 0 (MQ below (va_Qi K (gB G A z) A) args s 0 0 A) (F0 m 160 ls []) := by
  obtain ⟨hx, hb, hr, hlocks, hml, hown, hts, hK, hA, hE⟩ := id C
  intro n
  induction n with
  | zero =>
    intro x5_ x1_ x2_ x3_ x4_ w H locs ls hp
    exact hp.elim
  | succ n ih =>
    intro x5_ x1_ x2_ x3_ x4_ w H locs ls hp h hl
    refine lv_iload hx hb dX10_day_160 (lv_at hl 0 rfl) ?_
    refine lv_aload_n hx hb dX10_day_162 rfl (lv_at hl 1 rfl) ?_
    refine hp_get (ci := 10) (v := .int (vI w 1026 o)) hx hb hts ix_X10_day_10 hown hK h ho (by decide) rfl 26 (by decide) (hts _ lk_X10_day_166) (fun _ h9 => h9) rfl dX10_day_163 ?_
    refine lv_icmp_ge (tgt := 182) hx hb dX10_day_166 (by decide) (fun hc53 => ?_) (fun hc53 => ?_)
    · have hp := hp.1 hc53
      exact kKx x5_ x1_ x2_ x3_ x4_ w _ _ _ hp h (lv_sub hl [0, 1, 2, 3, 4, 5] rfl)
    · have hp := hp.2 hc53
      refine lv_aload_n hx hb dX10_day_169 rfl (lv_at hl 1 rfl) ?_
      refine lv_iload hx hb dX10_day_170 (lv_at hl 0 rfl) ?_
      refine lv_iload_n hx hb dX10_day_172 rfl (lv_at hl 4 rfl) ?_
      refine hp_cVv ⟨hx, hb, hml, hown, hts⟩ (k_X10_pitDay l G z w _ o x5_ x3_ _ hp) (cwV 2 hts gX10_day_X10_pitDay rfl rfl rfl (by decide +kernel) ⟨Nat.le_of_ble_eq_true rfl, Nat.le_of_ble_eq_true rfl⟩) ho (by decide) rfl hK h hA hE rfl hl.1 rfl (Nat.le_of_ble_eq_true rfl) dX10_day_173 ⟨Nat.le_of_ble_eq_true rfl, Nat.le_of_ble_eq_true rfl⟩ (fun w54 H locs hp h => ?_)
      obtain ⟨x56, ex56⟩ : ∃ y : Int32, y = x5_ + 1 := ⟨_, rfl⟩
      have hp := hp x56 ex56
      refine lv_iinc (v := x56) (lv' := [(5, .int x56), (0, .ref o), (1, .int x1_), (2, .int x2_), (3, .int x3_), (4, .int x4_)]) hx hb dX10_day_176 hl (k := 0) rfl (by rw [ex56]; rfl) (by decide) rfl (fun ls hl => ?_)
      refine lv_goto (tgt := 160) hx hb dX10_day_179 (by decide) ?_
      exact ih x56 x1_ x2_ x3_ x4_ w54 _ _ _ hp h (lv_sub hl [0, 1, 2, 3, 4, 5] rfl)
def wp_X10_day (z : Zt) (o : Nat) (p0 : Int32) (p1 : Int32) (p2 : Int32) (p3 : Int32) (w : Vt) (K : Int32 → Vt → Prop) : Prop := isO z 10 o ∧ ∀ w1 : Vt, w1 = uI w 1000 o 0 → wp_X10_in z p0 0 9 w1 (fun r3 w2 => ∃ J4 : Int32 → Vt → Prop, (∀ (x5 : Int32) (w6 : Vt), J4 x5 w6 → wp_X10_throwsIf z o x5 1 w6 (fun r18 w17 => (¬ r18 = 0 → K 0 w17) ∧ (r18 = 0 → ∃ J20 : Int32 → Vt → Prop, (∀ (x21 : Int32) (w22 : Vt), J20 x21 w22 → wp_X10_throwsIf z o x21 2 w22 (fun r25 w24 => (r25 = 0 → ∀ w27 : Vt, w27 = uI w24 1001 o ((vI w24 1001 o) + 1) → ∀ w28 : Vt, w28 = uI w27 1002 o p0 → ∃ n33 : Nat, wL_X10_day_102 z o K (fun x34 x35 x36 x37 x38 w39 => ∃ n46 : Nat, wL_X10_day_128 z o K (fun x47 x48 x49 x50 x51 w52 => ∃ n57 : Nat, wL_X10_day_160 z o K (fun x58 x59 x60 x61 x62 w63 => K (vI w63 1001 o) w63) n57 0 x48 x49 x50 x51 w52) n46 0 x35 x36 x37 x38 w39) n33 0 p0 p1 p2 p3 w28) ∧ (¬ r25 = 0 → K 0 w24))) ∧ (¬ (vI w17 1001 o) = 9999 → J20 0 w17) ∧ ((vI w17 1001 o) = 9999 → J20 1 w17)))) ∧ (r3 = 0 → J4 1 w2) ∧ (¬ r3 = 0 → wp_X10_in z p1 0 9 w2 (fun r9 w8 => (r9 = 0 → J4 1 w8) ∧ (¬ r9 = 0 → wp_X10_in z p2 0 9 w8 (fun r12 w11 => (r12 = 0 → J4 1 w11) ∧ (¬ r12 = 0 → wp_X10_in z p3 0 9 w11 (fun r15 w14 => (¬ r15 = 0 → J4 0 w14) ∧ (r15 = 0 → J4 1 w14))))))))
set_option maxHeartbeats 4000000 in
set_option maxRecDepth 100000 in
theorem k_X10_day (l : Launch) (G : Gt) (z : Zt) (w : Vt) (sz : Nat) (o : Nat) (p0 : Int32) (p1 : Int32) (p2 : Int32) (p3 : Int32) (K : Int32 → Vt → Prop) (hp : wp_X10_day z o p0 p1 p2 p3 w K) : MI l yX10_day wsX10_day rmX10_day G z w sz [.ref o, .int p0, .int p1, .int p2, .int p3] K := by
  refine Met.ofW (cc := cX10_day) (maxL := 6) (ret := (some .int)) (by decide +kernel) rfl ?_
  intro p e s m args below meth c s₁ B hml hv
  obtain ⟨rfl, rfl, C, h⟩ := hp_start B hml hv
  generalize gA G z w s.heap.size = A at C h ⊢
  obtain ⟨hx, hb, hr, hlocks, hml, hown, hts, hK, hA, hE⟩ := id C
  obtain ⟨ho, hp⟩ := hp
  have hl := lv_entry ([.ref o, .int p0, .int p1, .int p2, .int p3]) (n := 6) (Nat.le_of_ble_eq_true rfl)
  rw [lg_entry_eq]
  generalize (lg_sl ([.ref o, .int p0, .int p1, .int p2, .int p3]) ++ List.replicate (6 - (lg_sl ([.ref o, .int p0, .int p1, .int p2, .int p3])).length) Slot.unset).toArray = ls at hl ⊢
  have hl : lv_has ls 6 [(0, .ref o), (1, .int p0), (2, .int p1), (3, .int p2), (4, .int p3)] := hl
  refine lv_aload_n hx hb dX10_day_0 rfl (lv_at hl 0 rfl) ?_
  refine lv_iconst (v := 0) hx hb dX10_day_1 (by decide) ?_
  refine hp_puti (ci := 10) (ty := .int) (x := 0) hx hb hts ix_X10_day_10 tyX10 tyX10_ok nmX10 hown hK h ho (by decide) rfl 0 1000 (by decide) (hts _ lk_X10_day_127) (fun _ h9 => h9) rfl (by decide +kernel) rfl rfl (fun _ _ => rfl) (fun _ _ => Nat.le_of_ble_eq_true rfl) dX10_day_2 (fun H locs w1 ew1 h => ?_)
  have hp := hp w1 ew1
  refine lv_aload_n hx hb dX10_day_5 rfl (lv_at hl 0 rfl) ?_
  refine lv_iload_n hx hb dX10_day_6 rfl (lv_at hl 1 rfl) ?_
  refine lv_iconst (v := 0) hx hb dX10_day_7 (by decide) ?_
  refine lv_bipush (v := 9) hx hb dX10_day_8 (by decide) ?_
  refine hp_cSi ⟨hx, hb, hml, hown, hts⟩ (k_X10_in l G z w1 _ p0 0 9 _ hp) (cwS 3 hts gX10_day_X10_in rfl rfl rfl (by decide +kernel) ⟨Nat.le_of_ble_eq_true rfl, Nat.le_of_ble_eq_true rfl⟩) hK h hA hE rfl hl.1 rfl (Nat.le_of_ble_eq_true rfl) dX10_day_10 ⟨Nat.le_of_ble_eq_true rfl, Nat.le_of_ble_eq_true rfl⟩ (fun r3 w2 H locs hp h => ?_)
  obtain ⟨J4, jJ4, hp⟩ := hp
  refine hp_jn1 (G := G) (A := A) (z := z) (J := J4) (nL := 6) (j := 52) (lvf := fun x5 => [(0, .ref o), (1, .int p0), (2, .int p1), (3, .int p2), (4, .int p3)]) (stf := fun x5 => [.int x5, .ref o]) (fun kJ4 => ?_) (fun x5 w6 H locs ls hp h hl => ?_)
  · refine lv_if_eq (tgt := 47) hx hb dX10_day_13 (by decide) (fun hc7 => ?_) (fun hc7 => ?_)
    · have hp := hp.1 hc7
      refine lv_iconst (v := 1) hx hb dX10_day_47 (by decide) ?_
      refine lv_goto (tgt := 52) hx hb dX10_day_48 (by decide) ?_
      exact kJ4 1 w2 _ _ _ hp h (lv_sub hl [0, 1, 2, 3, 4] rfl)
    · have hp := hp.2 hc7
      refine lv_iload_n hx hb dX10_day_16 rfl (lv_at hl 2 rfl) ?_
      refine lv_iconst (v := 0) hx hb dX10_day_17 (by decide) ?_
      refine lv_bipush (v := 9) hx hb dX10_day_18 (by decide) ?_
      refine hp_cSi ⟨hx, hb, hml, hown, hts⟩ (k_X10_in l G z w2 _ p1 0 9 _ hp) (cwS 3 hts gX10_day_X10_in rfl rfl rfl (by decide +kernel) ⟨Nat.le_of_ble_eq_true rfl, Nat.le_of_ble_eq_true rfl⟩) hK h hA hE rfl hl.1 rfl (Nat.le_of_ble_eq_true rfl) dX10_day_20 ⟨Nat.le_of_ble_eq_true rfl, Nat.le_of_ble_eq_true rfl⟩ (fun r9 w8 H locs hp h => ?_)
      refine lv_if_eq (tgt := 47) hx hb dX10_day_23 (by decide) (fun hc10 => ?_) (fun hc10 => ?_)
      · have hp := hp.1 hc10
        refine lv_iconst (v := 1) hx hb dX10_day_47 (by decide) ?_
        refine lv_goto (tgt := 52) hx hb dX10_day_48 (by decide) ?_
        exact kJ4 1 w8 _ _ _ hp h (lv_sub hl [0, 1, 2, 3, 4] rfl)
      · have hp := hp.2 hc10
        refine lv_iload_n hx hb dX10_day_26 rfl (lv_at hl 3 rfl) ?_
        refine lv_iconst (v := 0) hx hb dX10_day_27 (by decide) ?_
        refine lv_bipush (v := 9) hx hb dX10_day_28 (by decide) ?_
        refine hp_cSi ⟨hx, hb, hml, hown, hts⟩ (k_X10_in l G z w8 _ p2 0 9 _ hp) (cwS 3 hts gX10_day_X10_in rfl rfl rfl (by decide +kernel) ⟨Nat.le_of_ble_eq_true rfl, Nat.le_of_ble_eq_true rfl⟩) hK h hA hE rfl hl.1 rfl (Nat.le_of_ble_eq_true rfl) dX10_day_30 ⟨Nat.le_of_ble_eq_true rfl, Nat.le_of_ble_eq_true rfl⟩ (fun r12 w11 H locs hp h => ?_)
        refine lv_if_eq (tgt := 47) hx hb dX10_day_33 (by decide) (fun hc13 => ?_) (fun hc13 => ?_)
        · have hp := hp.1 hc13
          refine lv_iconst (v := 1) hx hb dX10_day_47 (by decide) ?_
          refine lv_goto (tgt := 52) hx hb dX10_day_48 (by decide) ?_
          exact kJ4 1 w11 _ _ _ hp h (lv_sub hl [0, 1, 2, 3, 4] rfl)
        · have hp := hp.2 hc13
          refine lv_iload hx hb dX10_day_36 (lv_at hl 4 rfl) ?_
          refine lv_iconst (v := 0) hx hb dX10_day_38 (by decide) ?_
          refine lv_bipush (v := 9) hx hb dX10_day_39 (by decide) ?_
          refine hp_cSi ⟨hx, hb, hml, hown, hts⟩ (k_X10_in l G z w11 _ p3 0 9 _ hp) (cwS 3 hts gX10_day_X10_in rfl rfl rfl (by decide +kernel) ⟨Nat.le_of_ble_eq_true rfl, Nat.le_of_ble_eq_true rfl⟩) hK h hA hE rfl hl.1 rfl (Nat.le_of_ble_eq_true rfl) dX10_day_41 ⟨Nat.le_of_ble_eq_true rfl, Nat.le_of_ble_eq_true rfl⟩ (fun r15 w14 H locs hp h => ?_)
          refine lv_if_ne (tgt := 51) hx hb dX10_day_44 (by decide) (fun hc16 => ?_) (fun hc16 => ?_)
          · have hp := hp.1 hc16
            refine lv_iconst (v := 0) hx hb dX10_day_51 (by decide) ?_
            exact kJ4 0 w14 _ _ _ hp h (lv_sub hl [0, 1, 2, 3, 4] rfl)
          · have hp := hp.2 hc16
            refine lv_iconst (v := 1) hx hb dX10_day_47 (by decide) ?_
            refine lv_goto (tgt := 52) hx hb dX10_day_48 (by decide) ?_
            exact kJ4 1 w14 _ _ _ hp h (lv_sub hl [0, 1, 2, 3, 4] rfl)
  have hp := jJ4 x5 w6 hp
  refine lv_iconst (v := 1) hx hb dX10_day_52 (by decide) ?_
  refine hp_cVi ⟨hx, hb, hml, hown, hts⟩ (k_X10_throwsIf l G z w6 _ o x5 1 _ hp) (cwV 2 hts gX10_day_X10_throwsIf rfl rfl rfl (by decide +kernel) ⟨Nat.le_of_ble_eq_true rfl, Nat.le_of_ble_eq_true rfl⟩) ho (by decide) rfl hK h hA hE rfl hl.1 rfl (Nat.le_of_ble_eq_true rfl) dX10_day_53 ⟨Nat.le_of_ble_eq_true rfl, Nat.le_of_ble_eq_true rfl⟩ (fun r18 w17 H locs hp h => ?_)
  refine lv_if_ne (tgt := 82) hx hb dX10_day_56 (by decide) (fun hc19 => ?_) (fun hc19 => ?_)
  · have hp := hp.1 hc19
    refine lv_iconst (v := 0) hx hb dX10_day_82 (by decide) ?_
    exact hp_iret hx hb hr rfl hlocks hK h hp dX10_day_83
  · have hp := hp.2 hc19
    refine lv_aload_n hx hb dX10_day_59 rfl (lv_at hl 0 rfl) ?_
    refine lv_aload_n hx hb dX10_day_60 rfl (lv_at hl 0 rfl) ?_
    refine hp_get (ci := 10) (v := .int (vI w17 1001 o)) hx hb hts ix_X10_day_10 hown hK h ho (by decide) rfl 1 (by decide) (hts _ lk_X10_day_148) (fun _ h9 => h9) rfl dX10_day_61 ?_
    refine lv_sipush (v := 9999) hx hb dX10_day_64 (by decide) ?_
    obtain ⟨J20, jJ20, hp⟩ := hp
    refine hp_jn1 (G := G) (A := A) (z := z) (J := J20) (nL := 6) (j := 75) (lvf := fun x21 => [(0, .ref o), (1, .int p0), (2, .int p1), (3, .int p2), (4, .int p3)]) (stf := fun x21 => [.int x21, .ref o]) (fun kJ20 => ?_) (fun x21 w22 H locs ls hp h hl => ?_)
    · refine lv_icmp_ne (tgt := 74) hx hb dX10_day_67 (by decide) (fun hc23 => ?_) (fun hc23 => ?_)
      · have hp := hp.1 hc23
        refine lv_iconst (v := 0) hx hb dX10_day_74 (by decide) ?_
        exact kJ20 0 w17 _ _ _ hp h (lv_sub hl [0, 1, 2, 3, 4] rfl)
      · have hp := hp.2 hc23
        refine lv_iconst (v := 1) hx hb dX10_day_70 (by decide) ?_
        refine lv_goto (tgt := 75) hx hb dX10_day_71 (by decide) ?_
        exact kJ20 1 w17 _ _ _ hp h (lv_sub hl [0, 1, 2, 3, 4] rfl)
    have hp := jJ20 x21 w22 hp
    refine lv_iconst (v := 2) hx hb dX10_day_75 (by decide) ?_
    refine hp_cVi ⟨hx, hb, hml, hown, hts⟩ (k_X10_throwsIf l G z w22 _ o x21 2 _ hp) (cwV 2 hts gX10_day_X10_throwsIf rfl rfl rfl (by decide +kernel) ⟨Nat.le_of_ble_eq_true rfl, Nat.le_of_ble_eq_true rfl⟩) ho (by decide) rfl hK h hA hE rfl hl.1 rfl (Nat.le_of_ble_eq_true rfl) dX10_day_76 ⟨Nat.le_of_ble_eq_true rfl, Nat.le_of_ble_eq_true rfl⟩ (fun r25 w24 H locs hp h => ?_)
    refine lv_if_eq (tgt := 84) hx hb dX10_day_79 (by decide) (fun hc26 => ?_) (fun hc26 => ?_)
    · have hp := hp.1 hc26
      refine lv_aload_n hx hb dX10_day_84 rfl (lv_at hl 0 rfl) ?_
      refine lv_dup hx hb dX10_day_85 rfl ?_
      refine hp_get (ci := 10) (v := .int (vI w24 1001 o)) hx hb hts ix_X10_day_10 hown hK h ho (by decide) rfl 1 (by decide) (hts _ lk_X10_day_148) (fun _ h9 => h9) rfl dX10_day_86 ?_
      refine lv_iconst (v := 1) hx hb dX10_day_89 (by decide) ?_
      refine lv_iadd hx hb dX10_day_90 ?_
      refine hp_puti (ci := 10) (ty := .int) (x := (vI w24 1001 o) + 1) hx hb hts ix_X10_day_10 tyX10 tyX10_ok nmX10 hown hK h ho (by decide) rfl 1 1001 (by decide) (hts _ lk_X10_day_148) (fun _ h9 => h9) rfl (by decide +kernel) rfl rfl (fun _ _ => rfl) (fun _ _ => Nat.le_of_ble_eq_true rfl) dX10_day_91 (fun H locs w27 ew27 h => ?_)
      have hp := hp w27 ew27
      refine lv_aload_n hx hb dX10_day_94 rfl (lv_at hl 0 rfl) ?_
      refine lv_iload_n hx hb dX10_day_95 rfl (lv_at hl 1 rfl) ?_
      refine hp_puti (ci := 10) (ty := .int) (x := p0) hx hb hts ix_X10_day_10 tyX10 tyX10_ok nmX10 hown hK h ho (by decide) rfl 2 1002 (by decide) (hts _ lk_X10_day_155) (fun _ h9 => h9) rfl (by decide +kernel) rfl rfl (fun _ _ => rfl) (fun _ _ => Nat.le_of_ble_eq_true rfl) dX10_day_96 (fun H locs w28 ew28 h => ?_)
      have hp := hp w28 ew28
      refine lv_iconst (v := 0) hx hb dX10_day_99 (by decide) ?_
      refine lv_istore (lv' := [(5, .int 0), (0, .ref o), (1, .int p0), (2, .int p1), (3, .int p2), (4, .int p3)]) hx hb dX10_day_100 hl (by decide) rfl (fun ls hl => ?_)
      obtain ⟨n33, hp⟩ := hp
      refine kL_X10_day_102 C o ho _ _ (fun x34 x35 x36 x37 x38 w39 H locs ls hp h hl => ?_) n33 0 p0 p1 p2 p3 w28 _ _ _ hp h (lv_sub hl [0, 1, 2, 3, 4, 5] rfl)
      refine lv_iconst (v := 0) hx hb dX10_day_125 (by decide) ?_
      refine lv_istore (lv' := [(5, .int 0), (0, .ref o), (1, .int x35), (2, .int x36), (3, .int x37), (4, .int x38)]) hx hb dX10_day_126 hl (by decide) rfl (fun ls hl => ?_)
      obtain ⟨n46, hp⟩ := hp
      refine kL_X10_day_128 C o ho _ _ (fun x47 x48 x49 x50 x51 w52 H locs ls hp h hl => ?_) n46 0 x35 x36 x37 x38 w39 _ _ _ hp h (lv_sub hl [0, 1, 2, 3, 4, 5] rfl)
      refine lv_iconst (v := 0) hx hb dX10_day_157 (by decide) ?_
      refine lv_istore (lv' := [(5, .int 0), (0, .ref o), (1, .int x48), (2, .int x49), (3, .int x50), (4, .int x51)]) hx hb dX10_day_158 hl (by decide) rfl (fun ls hl => ?_)
      obtain ⟨n57, hp⟩ := hp
      refine kL_X10_day_160 C o ho _ _ (fun x58 x59 x60 x61 x62 w63 H locs ls hp h hl => ?_) n57 0 x48 x49 x50 x51 w52 _ _ _ hp h (lv_sub hl [0, 1, 2, 3, 4, 5] rfl)
      refine lv_aload_n hx hb dX10_day_182 rfl (lv_at hl 1 rfl) ?_
      refine hp_get (ci := 10) (v := .int (vI w63 1001 o)) hx hb hts ix_X10_day_10 hown hK h ho (by decide) rfl 1 (by decide) (hts _ lk_X10_day_148) (fun _ h9 => h9) rfl dX10_day_183 ?_
      exact hp_iret hx hb hr rfl hlocks hK h hp dX10_day_186
    · have hp := hp.2 hc26
      refine lv_iconst (v := 0) hx hb dX10_day_82 (by decide) ?_
      exact hp_iret hx hb hr rfl hlocks hK h hp dX10_day_83
abbrev rmX10_right : Room := { frames := 1, cells := 0, slots := 0, locals := 22 }
theorem ix_X10_right_10 : ∀ w ∈ wsX100, w ∈ wsX10_right := by decide +kernel
theorem lk_X10_right_172 : Cond.fieldLink RX10 172 "KelpShoresModel" "parts" "I" ∈ wsX10_right := by decide +kernel
theorem lk_X10_right_76 : Cond.fieldLink RX10 76 "KelpShoresModel" "part" "[I" ∈ wsX10_right := by decide +kernel
def wL_X10_right_3 (z : Zt) (o : Nat) (K : Int32 → Vt → Prop) (Kx : Int32 → Int32 → Int32 → Int32 → Vt → Prop) : Nat → Int32 → Int32 → Int32 → Int32 → Vt → Prop
  | 0, _, _, _, _, _ => False
  | n + 1, x4_, x1_, x2_, x3_, w => ((vI w 1029 o) ≤ x4_ → Kx x4_ x1_ x2_ x3_ w) ∧ (¬ (vI w 1029 o) ≤ x4_ → ∃ b2 : Nat, zR z 1027 o = some b2 ∧ isO z 2027 b2 ∧ vp_in (5 * x4_) 300 ∧ (¬ (vA w 2027 b2 (5 * x4_ : Int32).toNatClampNeg) = x1_ → ∀ x4 : Int32, x4 = x4_ + 1 → wL_X10_right_3 z o K Kx n x4 x1_ x2_ x3_ w) ∧ ((vA w 2027 b2 (5 * x4_ : Int32).toNatClampNeg) = x1_ → vp_in ((5 * x4_) + 1) 300 ∧ (¬ (vA w 2027 b2 ((5 * x4_) + 1 : Int32).toNatClampNeg) = x2_ → ∀ x6 : Int32, x6 = x4_ + 1 → wL_X10_right_3 z o K Kx n x6 x1_ x2_ x3_ w) ∧ ((vA w 2027 b2 ((5 * x4_) + 1 : Int32).toNatClampNeg) = x2_ → vp_in ((5 * x4_) + 2) 300 ∧ vp_in ((5 * x4_) + 3) 300 ∧ wp_X10_in z x3_ (vA w 2027 b2 ((5 * x4_) + 2 : Int32).toNatClampNeg) (vA w 2027 b2 ((5 * x4_) + 3 : Int32).toNatClampNeg) w (fun r8 w7 => (r8 = 0 → ∀ x10 : Int32, x10 = x4_ + 1 → wL_X10_right_3 z o K Kx n x10 x1_ x2_ x3_ w7) ∧ (¬ r8 = 0 → K x4_ w7)))))
set_option maxHeartbeats 4000000 in
set_option maxRecDepth 100000 in
theorem kL_X10_right_3 {p : Program} {l : Launch} {e : Env} {s : State} {m : MethodId} {args : Array Value} {below : List Frame} {meth : Method} {c : Code} {G : Gt} {A : Nat → Prop} {z : Zt} (C : gC p s m args meth c cX10_right 5 RX10 wsX10_right (some .int) G A) (o : Nat) (ho : isO z 10 o) (K : Int32 → Vt → Prop) (Kx : Int32 → Int32 → Int32 → Int32 → Vt → Prop) (kKx : ∀ (x4_ x1_ x2_ x3_ : Int32) (w : Vt) (H : Heap) (locs : List Loc) (ls : Array Slot), Kx x4_ x1_ x2_ x3_ w → hpH G.1 G.2.1 A s.heap z w H locs → lv_has ls 5 [(4, .int x4_), (0, .ref o), (1, .int x1_), (2, .int x2_), (3, .int x3_)] → W p l e (headSpec wsX10_right rmX10_right).room s m args below meth c H locs 0 0 (MQ below (va_Qi K (gB G A z) A) args s 0 0 A) (F0 m 78 ls [])) : ∀ (n : Nat) (x4_ x1_ x2_ x3_ : Int32) (w : Vt) (H : Heap) (locs : List Loc) (ls : Array Slot), wL_X10_right_3 z o K Kx n x4_ x1_ x2_ x3_ w → hpH G.1 G.2.1 A s.heap z w H locs → lv_has ls 5 [(4, .int x4_), (0, .ref o), (1, .int x1_), (2, .int x2_), (3, .int x3_)] → W p l e (headSpec wsX10_right rmX10_right).room s m args below meth c H locs 0 0 (MQ below (va_Qi K (gB G A z) A) args s 0 0 A) (F0 m 3 ls []) := by
  obtain ⟨hx, hb, hr, hlocks, hml, hown, hts, hK, hA, hE⟩ := id C
  intro n
  induction n with
  | zero =>
    intro x4_ x1_ x2_ x3_ w H locs ls hp
    exact hp.elim
  | succ n ih =>
    intro x4_ x1_ x2_ x3_ w H locs ls hp h hl
    refine lv_iload hx hb dX10_right_3 (lv_at hl 0 rfl) ?_
    refine lv_aload_n hx hb dX10_right_5 rfl (lv_at hl 1 rfl) ?_
    refine hp_get (ci := 10) (v := .int (vI w 1029 o)) hx hb hts ix_X10_right_10 hown hK h ho (by decide) rfl 29 (by decide) (hts _ lk_X10_right_172) (fun _ h9 => h9) rfl dX10_right_6 ?_
    refine lv_icmp_ge (tgt := 78) hx hb dX10_right_9 (by decide) (fun hc1 => ?_) (fun hc1 => ?_)
    · have hp := hp.1 hc1
      exact kKx x4_ x1_ x2_ x3_ w _ _ _ hp h (lv_sub hl [0, 1, 2, 3, 4] rfl)
    · have hp := hp.2 hc1
      refine lv_aload_n hx hb dX10_right_12 rfl (lv_at hl 1 rfl) ?_
      obtain ⟨b2, eb2, hob2, hp⟩ := hp
      refine hp_get (ci := 10) (v := .ref b2) hx hb hts ix_X10_right_10 hown hK h ho (by decide) rfl 27 (by decide) (hts _ lk_X10_right_76) (fun _ h9 => h9) (by show some (va_rf (zR z 1027 o)) = some (Value.ref b2); rw [eb2]; rfl) dX10_right_13 ?_
      refine lv_iconst (v := 5) hx hb dX10_right_16 (by decide) ?_
      refine lv_iload hx hb dX10_right_17 (lv_at hl 0 rfl) ?_
      refine lv_imul hx hb dX10_right_19 ?_
      refine hp_iald (t := 2027) (n := 300) hx hb hK h hob2 (by decide) (fun _ _ _ => rfl) hp.1 dX10_right_20 ?_
      have hp := hp.2
      refine lv_iload_n hx hb dX10_right_21 rfl (lv_at hl 2 rfl) ?_
      refine lv_icmp_ne (tgt := 72) hx hb dX10_right_22 (by decide) (fun hc3 => ?_) (fun hc3 => ?_)
      · have hp := hp.1 hc3
        obtain ⟨x4, ex4⟩ : ∃ y : Int32, y = x4_ + 1 := ⟨_, rfl⟩
        have hp := hp x4 ex4
        refine lv_iinc (v := x4) (lv' := [(4, .int x4), (0, .ref o), (1, .int x1_), (2, .int x2_), (3, .int x3_)]) hx hb dX10_right_72 hl (k := 0) rfl (by rw [ex4]; rfl) (by decide) rfl (fun ls hl => ?_)
        refine lv_goto (tgt := 3) hx hb dX10_right_75 (by decide) ?_
        exact ih x4 x1_ x2_ x3_ w _ _ _ hp h (lv_sub hl [0, 1, 2, 3, 4] rfl)
      · have hp := hp.2 hc3
        refine lv_aload_n hx hb dX10_right_25 rfl (lv_at hl 1 rfl) ?_
        refine hp_get (ci := 10) (v := .ref b2) hx hb hts ix_X10_right_10 hown hK h ho (by decide) rfl 27 (by decide) (hts _ lk_X10_right_76) (fun _ h9 => h9) (by show some (va_rf (zR z 1027 o)) = some (Value.ref b2); rw [eb2]; rfl) dX10_right_26 ?_
        refine lv_iconst (v := 5) hx hb dX10_right_29 (by decide) ?_
        refine lv_iload hx hb dX10_right_30 (lv_at hl 0 rfl) ?_
        refine lv_imul hx hb dX10_right_32 ?_
        refine lv_iconst (v := 1) hx hb dX10_right_33 (by decide) ?_
        refine lv_iadd hx hb dX10_right_34 ?_
        refine hp_iald (t := 2027) (n := 300) hx hb hK h hob2 (by decide) (fun _ _ _ => rfl) hp.1 dX10_right_35 ?_
        have hp := hp.2
        refine lv_iload_n hx hb dX10_right_36 rfl (lv_at hl 3 rfl) ?_
        refine lv_icmp_ne (tgt := 72) hx hb dX10_right_37 (by decide) (fun hc5 => ?_) (fun hc5 => ?_)
        · have hp := hp.1 hc5
          obtain ⟨x6, ex6⟩ : ∃ y : Int32, y = x4_ + 1 := ⟨_, rfl⟩
          have hp := hp x6 ex6
          refine lv_iinc (v := x6) (lv' := [(4, .int x6), (0, .ref o), (1, .int x1_), (2, .int x2_), (3, .int x3_)]) hx hb dX10_right_72 hl (k := 0) rfl (by rw [ex6]; rfl) (by decide) rfl (fun ls hl => ?_)
          refine lv_goto (tgt := 3) hx hb dX10_right_75 (by decide) ?_
          exact ih x6 x1_ x2_ x3_ w _ _ _ hp h (lv_sub hl [0, 1, 2, 3, 4] rfl)
        · have hp := hp.2 hc5
          refine lv_iload_n hx hb dX10_right_40 rfl (lv_at hl 4 rfl) ?_
          refine lv_aload_n hx hb dX10_right_41 rfl (lv_at hl 1 rfl) ?_
          refine hp_get (ci := 10) (v := .ref b2) hx hb hts ix_X10_right_10 hown hK h ho (by decide) rfl 27 (by decide) (hts _ lk_X10_right_76) (fun _ h9 => h9) (by show some (va_rf (zR z 1027 o)) = some (Value.ref b2); rw [eb2]; rfl) dX10_right_42 ?_
          refine lv_iconst (v := 5) hx hb dX10_right_45 (by decide) ?_
          refine lv_iload hx hb dX10_right_46 (lv_at hl 0 rfl) ?_
          refine lv_imul hx hb dX10_right_48 ?_
          refine lv_iconst (v := 2) hx hb dX10_right_49 (by decide) ?_
          refine lv_iadd hx hb dX10_right_50 ?_
          refine hp_iald (t := 2027) (n := 300) hx hb hK h hob2 (by decide) (fun _ _ _ => rfl) hp.1 dX10_right_51 ?_
          have hp := hp.2
          refine lv_aload_n hx hb dX10_right_52 rfl (lv_at hl 1 rfl) ?_
          refine hp_get (ci := 10) (v := .ref b2) hx hb hts ix_X10_right_10 hown hK h ho (by decide) rfl 27 (by decide) (hts _ lk_X10_right_76) (fun _ h9 => h9) (by show some (va_rf (zR z 1027 o)) = some (Value.ref b2); rw [eb2]; rfl) dX10_right_53 ?_
          refine lv_iconst (v := 5) hx hb dX10_right_56 (by decide) ?_
          refine lv_iload hx hb dX10_right_57 (lv_at hl 0 rfl) ?_
          refine lv_imul hx hb dX10_right_59 ?_
          refine lv_iconst (v := 3) hx hb dX10_right_60 (by decide) ?_
          refine lv_iadd hx hb dX10_right_61 ?_
          refine hp_iald (t := 2027) (n := 300) hx hb hK h hob2 (by decide) (fun _ _ _ => rfl) hp.1 dX10_right_62 ?_
          have hp := hp.2
          refine hp_cSi ⟨hx, hb, hml, hown, hts⟩ (k_X10_in l G z w _ x3_ (vA w 2027 b2 ((5 * x4_) + 2 : Int32).toNatClampNeg) (vA w 2027 b2 ((5 * x4_) + 3 : Int32).toNatClampNeg) _ hp) (cwS 3 hts gX10_right_X10_in rfl rfl rfl (by decide +kernel) ⟨Nat.le_of_ble_eq_true rfl, Nat.le_of_ble_eq_true rfl⟩) hK h hA hE rfl hl.1 rfl (Nat.le_of_ble_eq_true rfl) dX10_right_63 ⟨Nat.le_of_ble_eq_true rfl, Nat.le_of_ble_eq_true rfl⟩ (fun r8 w7 H locs hp h => ?_)
          refine lv_if_eq (tgt := 72) hx hb dX10_right_66 (by decide) (fun hc9 => ?_) (fun hc9 => ?_)
          · have hp := hp.1 hc9
            obtain ⟨x10, ex10⟩ : ∃ y : Int32, y = x4_ + 1 := ⟨_, rfl⟩
            have hp := hp x10 ex10
            refine lv_iinc (v := x10) (lv' := [(4, .int x10), (0, .ref o), (1, .int x1_), (2, .int x2_), (3, .int x3_)]) hx hb dX10_right_72 hl (k := 0) rfl (by rw [ex10]; rfl) (by decide) rfl (fun ls hl => ?_)
            refine lv_goto (tgt := 3) hx hb dX10_right_75 (by decide) ?_
            exact ih x10 x1_ x2_ x3_ w7 _ _ _ hp h (lv_sub hl [0, 1, 2, 3, 4] rfl)
          · have hp := hp.2 hc9
            refine lv_iload hx hb dX10_right_69 (lv_at hl 0 rfl) ?_
            exact hp_iret hx hb hr rfl hlocks hK h hp dX10_right_71
def wp_X10_right (z : Zt) (o : Nat) (p0 : Int32) (p1 : Int32) (p2 : Int32) (w : Vt) (K : Int32 → Vt → Prop) : Prop := isO z 10 o ∧ ∃ n11 : Nat, wL_X10_right_3 z o K (fun x12 x13 x14 x15 w16 => K (-1) w16) n11 0 p0 p1 p2 w
set_option maxHeartbeats 4000000 in
set_option maxRecDepth 100000 in
theorem k_X10_right (l : Launch) (G : Gt) (z : Zt) (w : Vt) (sz : Nat) (o : Nat) (p0 : Int32) (p1 : Int32) (p2 : Int32) (K : Int32 → Vt → Prop) (hp : wp_X10_right z o p0 p1 p2 w K) : MI l yX10_right wsX10_right rmX10_right G z w sz [.ref o, .int p0, .int p1, .int p2] K := by
  refine Met.ofW (cc := cX10_right) (maxL := 5) (ret := (some .int)) (by decide +kernel) rfl ?_
  intro p e s m args below meth c s₁ B hml hv
  obtain ⟨rfl, rfl, C, h⟩ := hp_start B hml hv
  generalize gA G z w s.heap.size = A at C h ⊢
  obtain ⟨hx, hb, hr, hlocks, hml, hown, hts, hK, hA, hE⟩ := id C
  obtain ⟨ho, hp⟩ := hp
  have hl := lv_entry ([.ref o, .int p0, .int p1, .int p2]) (n := 5) (Nat.le_of_ble_eq_true rfl)
  rw [lg_entry_eq]
  generalize (lg_sl ([.ref o, .int p0, .int p1, .int p2]) ++ List.replicate (5 - (lg_sl ([.ref o, .int p0, .int p1, .int p2])).length) Slot.unset).toArray = ls at hl ⊢
  have hl : lv_has ls 5 [(0, .ref o), (1, .int p0), (2, .int p1), (3, .int p2)] := hl
  refine lv_iconst (v := 0) hx hb dX10_right_0 (by decide) ?_
  refine lv_istore (lv' := [(4, .int 0), (0, .ref o), (1, .int p0), (2, .int p1), (3, .int p2)]) hx hb dX10_right_1 hl (by decide) rfl (fun ls hl => ?_)
  obtain ⟨n11, hp⟩ := hp
  refine kL_X10_right_3 C o ho _ _ (fun x12 x13 x14 x15 w16 H locs ls hp h hl => ?_) n11 0 p0 p1 p2 w _ _ _ hp h (lv_sub hl [0, 1, 2, 3, 4] rfl)
  refine lv_iconst (v := (-1)) hx hb dX10_right_78 (by decide) ?_
  exact hp_iret hx hb hr rfl hlocks hK h hp dX10_right_79
abbrev rmX10_may : Room := { frames := 2, cells := 0, slots := 0, locals := 46 }
theorem ix_X10_may_10 : ∀ w ∈ wsX100, w ∈ wsX10_may := by decide +kernel
theorem lk_X10_may_127 : Cond.fieldLink RX10 127 "KelpShoresModel" "thrown" "I" ∈ wsX10_may := by decide +kernel
def wp_X10_may (z : Zt) (o : Nat) (p0 : Int32) (p1 : Int32) (p2 : Int32) (w : Vt) (K : Int32 → Vt → Prop) : Prop := isO z 10 o ∧ ∀ w1 : Vt, w1 = uI w 1000 o 0 → wp_X10_noShore z o p0 w1 (fun r3 w2 => ∃ J4 : Int32 → Vt → Prop, (∀ (x5 : Int32) (w6 : Vt), J4 x5 w6 → wp_X10_throwsIf z o x5 1 w6 (fun r12 w11 => (¬ r12 = 0 → K 0 w11) ∧ (r12 = 0 → wp_X10_right z o p0 p1 p2 w11 (fun r15 w14 => (r15 < 0 → K 0 w14) ∧ (¬ r15 < 0 → K 1 w14))))) ∧ (¬ r3 = 0 → J4 1 w2) ∧ (r3 = 0 → wp_X10_noFamily z p1 w2 (fun r9 w8 => (r9 = 0 → J4 0 w8) ∧ (¬ r9 = 0 → J4 1 w8))))
set_option maxHeartbeats 4000000 in
set_option maxRecDepth 100000 in
theorem k_X10_may (l : Launch) (G : Gt) (z : Zt) (w : Vt) (sz : Nat) (o : Nat) (p0 : Int32) (p1 : Int32) (p2 : Int32) (K : Int32 → Vt → Prop) (hp : wp_X10_may z o p0 p1 p2 w K) : MI l yX10_may wsX10_may rmX10_may G z w sz [.ref o, .int p0, .int p1, .int p2] K := by
  refine Met.ofW (cc := cX10_may) (maxL := 4) (ret := (some .boolean)) (by decide +kernel) rfl ?_
  intro p e s m args below meth c s₁ B hml hv
  obtain ⟨rfl, rfl, C, h⟩ := hp_start B hml hv
  generalize gA G z w s.heap.size = A at C h ⊢
  obtain ⟨hx, hb, hr, hlocks, hml, hown, hts, hK, hA, hE⟩ := id C
  obtain ⟨ho, hp⟩ := hp
  have hl := lv_entry ([.ref o, .int p0, .int p1, .int p2]) (n := 4) (Nat.le_of_ble_eq_true rfl)
  rw [lg_entry_eq]
  generalize (lg_sl ([.ref o, .int p0, .int p1, .int p2]) ++ List.replicate (4 - (lg_sl ([.ref o, .int p0, .int p1, .int p2])).length) Slot.unset).toArray = ls at hl ⊢
  have hl : lv_has ls 4 [(0, .ref o), (1, .int p0), (2, .int p1), (3, .int p2)] := hl
  refine lv_aload_n hx hb dX10_may_0 rfl (lv_at hl 0 rfl) ?_
  refine lv_iconst (v := 0) hx hb dX10_may_1 (by decide) ?_
  refine hp_puti (ci := 10) (ty := .int) (x := 0) hx hb hts ix_X10_may_10 tyX10 tyX10_ok nmX10 hown hK h ho (by decide) rfl 0 1000 (by decide) (hts _ lk_X10_may_127) (fun _ h9 => h9) rfl (by decide +kernel) rfl rfl (fun _ _ => rfl) (fun _ _ => Nat.le_of_ble_eq_true rfl) dX10_may_2 (fun H locs w1 ew1 h => ?_)
  have hp := hp w1 ew1
  refine lv_aload_n hx hb dX10_may_5 rfl (lv_at hl 0 rfl) ?_
  refine lv_aload_n hx hb dX10_may_6 rfl (lv_at hl 0 rfl) ?_
  refine lv_iload_n hx hb dX10_may_7 rfl (lv_at hl 1 rfl) ?_
  refine hp_cVi ⟨hx, hb, hml, hown, hts⟩ (k_X10_noShore l G z w1 _ o p0 _ hp) (cwV 1 hts gX10_may_X10_noShore rfl rfl rfl (by decide +kernel) ⟨Nat.le_of_ble_eq_true rfl, Nat.le_of_ble_eq_true rfl⟩) ho (by decide) rfl hK h hA hE rfl hl.1 rfl (Nat.le_of_ble_eq_true rfl) dX10_may_8 ⟨Nat.le_of_ble_eq_true rfl, Nat.le_of_ble_eq_true rfl⟩ (fun r3 w2 H locs hp h => ?_)
  obtain ⟨J4, jJ4, hp⟩ := hp
  refine hp_jn1 (G := G) (A := A) (z := z) (J := J4) (nL := 4) (j := 26) (lvf := fun x5 => [(0, .ref o), (1, .int p0), (2, .int p1), (3, .int p2)]) (stf := fun x5 => [.int x5, .ref o]) (fun kJ4 => ?_) (fun x5 w6 H locs ls hp h hl => ?_)
  · refine lv_if_ne (tgt := 21) hx hb dX10_may_11 (by decide) (fun hc7 => ?_) (fun hc7 => ?_)
    · have hp := hp.1 hc7
      refine lv_iconst (v := 1) hx hb dX10_may_21 (by decide) ?_
      refine lv_goto (tgt := 26) hx hb dX10_may_22 (by decide) ?_
      exact kJ4 1 w2 _ _ _ hp h (lv_sub hl [0, 1, 2, 3] rfl)
    · have hp := hp.2 hc7
      refine lv_iload_n hx hb dX10_may_14 rfl (lv_at hl 2 rfl) ?_
      refine hp_cSi ⟨hx, hb, hml, hown, hts⟩ (k_X10_noFamily l G z w2 _ p1 _ hp) (cwS 1 hts gX10_may_X10_noFamily rfl rfl rfl (by decide +kernel) ⟨Nat.le_of_ble_eq_true rfl, Nat.le_of_ble_eq_true rfl⟩) hK h hA hE rfl hl.1 rfl (Nat.le_of_ble_eq_true rfl) dX10_may_15 ⟨Nat.le_of_ble_eq_true rfl, Nat.le_of_ble_eq_true rfl⟩ (fun r9 w8 H locs hp h => ?_)
      refine lv_if_eq (tgt := 25) hx hb dX10_may_18 (by decide) (fun hc10 => ?_) (fun hc10 => ?_)
      · have hp := hp.1 hc10
        refine lv_iconst (v := 0) hx hb dX10_may_25 (by decide) ?_
        exact kJ4 0 w8 _ _ _ hp h (lv_sub hl [0, 1, 2, 3] rfl)
      · have hp := hp.2 hc10
        refine lv_iconst (v := 1) hx hb dX10_may_21 (by decide) ?_
        refine lv_goto (tgt := 26) hx hb dX10_may_22 (by decide) ?_
        exact kJ4 1 w8 _ _ _ hp h (lv_sub hl [0, 1, 2, 3] rfl)
  have hp := jJ4 x5 w6 hp
  refine lv_iconst (v := 1) hx hb dX10_may_26 (by decide) ?_
  refine hp_cVi ⟨hx, hb, hml, hown, hts⟩ (k_X10_throwsIf l G z w6 _ o x5 1 _ hp) (cwV 2 hts gX10_may_X10_throwsIf rfl rfl rfl (by decide +kernel) ⟨Nat.le_of_ble_eq_true rfl, Nat.le_of_ble_eq_true rfl⟩) ho (by decide) rfl hK h hA hE rfl hl.1 rfl (Nat.le_of_ble_eq_true rfl) dX10_may_27 ⟨Nat.le_of_ble_eq_true rfl, Nat.le_of_ble_eq_true rfl⟩ (fun r12 w11 H locs hp h => ?_)
  refine lv_if_ne (tgt := 47) hx hb dX10_may_30 (by decide) (fun hc13 => ?_) (fun hc13 => ?_)
  · have hp := hp.1 hc13
    refine lv_iconst (v := 0) hx hb dX10_may_47 (by decide) ?_
    exact hp_iret hx hb hr rfl hlocks hK h hp dX10_may_48
  · have hp := hp.2 hc13
    refine lv_aload_n hx hb dX10_may_33 rfl (lv_at hl 0 rfl) ?_
    refine lv_iload_n hx hb dX10_may_34 rfl (lv_at hl 1 rfl) ?_
    refine lv_iload_n hx hb dX10_may_35 rfl (lv_at hl 2 rfl) ?_
    refine lv_iload_n hx hb dX10_may_36 rfl (lv_at hl 3 rfl) ?_
    refine hp_cVi ⟨hx, hb, hml, hown, hts⟩ (k_X10_right l G z w11 _ o p0 p1 p2 _ hp) (cwV 3 hts gX10_may_X10_right rfl rfl rfl (by decide +kernel) ⟨Nat.le_of_ble_eq_true rfl, Nat.le_of_ble_eq_true rfl⟩) ho (by decide) rfl hK h hA hE rfl hl.1 rfl (Nat.le_of_ble_eq_true rfl) dX10_may_37 ⟨Nat.le_of_ble_eq_true rfl, Nat.le_of_ble_eq_true rfl⟩ (fun r15 w14 H locs hp h => ?_)
    refine lv_if_lt (tgt := 47) hx hb dX10_may_40 (by decide) (fun hc16 => ?_) (fun hc16 => ?_)
    · have hp := hp.1 hc16
      refine lv_iconst (v := 0) hx hb dX10_may_47 (by decide) ?_
      exact hp_iret hx hb hr rfl hlocks hK h hp dX10_may_48
    · have hp := hp.2 hc16
      refine lv_iconst (v := 1) hx hb dX10_may_43 (by decide) ?_
      refine lv_goto (tgt := 48) hx hb dX10_may_44 (by decide) ?_
      exact hp_iret hx hb hr rfl hlocks hK h hp dX10_may_48
abbrev rmX10_owe : Room := { frames := 2, cells := 0, slots := 0, locals := 46 }
theorem ix_X10_owe_10 : ∀ w ∈ wsX100, w ∈ wsX10_owe := by decide +kernel
theorem lk_X10_owe_64 : Cond.fieldLink RX10 64 "KelpShoresModel" "owed" "[I" ∈ wsX10_owe := by decide +kernel
theorem lk_X10_owe_148 : Cond.fieldLink RX10 148 "KelpShoresModel" "today" "I" ∈ wsX10_owe := by decide +kernel
theorem lk_X10_owe_76 : Cond.fieldLink RX10 76 "KelpShoresModel" "part" "[I" ∈ wsX10_owe := by decide +kernel
def wp_X10_owe (z : Zt) (o : Nat) (p0 : Int32) (p1 : Int32) (p2 : Int32) (w : Vt) (K : Vt → Prop) : Prop := isO z 10 o ∧ ∃ b1 : Nat, zR z 1022 o = some b1 ∧ isO z 2022 b1 ∧ vp_in ((((((vI w 1001 o) / 100) * 6) + p0) * 8) + p1) 4800 ∧ ∃ b2 : Nat, zR z 1027 o = some b2 ∧ isO z 2027 b2 ∧ wp_X10_right z o p0 p1 ((vI w 1001 o) - (vI w 1001 o) / 100 * 100) w (fun r4 w3 => vp_in ((5 * r4) + 4) 300 ∧ vp_in ((((((vI w 1001 o) / 100) * 6) + p0) * 8) + p1) 4800 ∧ ∀ w5 : Vt, w5 = uA w3 2022 b1 ((((((vI w 1001 o) / 100) * 6) + p0) * 8) + p1 : Int32).toNatClampNeg ((vA w 2022 b1 ((((((vI w 1001 o) / 100) * 6) + p0) * 8) + p1 : Int32).toNatClampNeg) + ((p2 * (vA w3 2027 b2 ((5 * r4) + 4 : Int32).toNatClampNeg)) / 100)) → K w5)
set_option maxHeartbeats 4000000 in
set_option maxRecDepth 100000 in
theorem k_X10_owe (l : Launch) (G : Gt) (z : Zt) (w : Vt) (sz : Nat) (o : Nat) (p0 : Int32) (p1 : Int32) (p2 : Int32) (K : Vt → Prop) (hp : wp_X10_owe z o p0 p1 p2 w K) : MV l yX10_owe wsX10_owe rmX10_owe G z w sz [.ref o, .int p0, .int p1, .int p2] K := by
  refine Met.ofW (cc := cX10_owe) (maxL := 4) (ret := none) (by decide +kernel) rfl ?_
  intro p e s m args below meth c s₁ B hml hv
  obtain ⟨rfl, rfl, C, h⟩ := hp_start B hml hv
  generalize gA G z w s.heap.size = A at C h ⊢
  obtain ⟨hx, hb, hr, hlocks, hml, hown, hts, hK, hA, hE⟩ := id C
  obtain ⟨ho, hp⟩ := hp
  have hl := lv_entry ([.ref o, .int p0, .int p1, .int p2]) (n := 4) (Nat.le_of_ble_eq_true rfl)
  rw [lg_entry_eq]
  generalize (lg_sl ([.ref o, .int p0, .int p1, .int p2]) ++ List.replicate (4 - (lg_sl ([.ref o, .int p0, .int p1, .int p2])).length) Slot.unset).toArray = ls at hl ⊢
  have hl : lv_has ls 4 [(0, .ref o), (1, .int p0), (2, .int p1), (3, .int p2)] := hl
  refine lv_aload_n hx hb dX10_owe_0 rfl (lv_at hl 0 rfl) ?_
  obtain ⟨b1, eb1, hob1, hp⟩ := hp
  refine hp_get (ci := 10) (v := .ref b1) hx hb hts ix_X10_owe_10 hown hK h ho (by decide) rfl 22 (by decide) (hts _ lk_X10_owe_64) (fun _ h9 => h9) (by show some (va_rf (zR z 1022 o)) = some (Value.ref b1); rw [eb1]; rfl) dX10_owe_1 ?_
  refine lv_aload_n hx hb dX10_owe_4 rfl (lv_at hl 0 rfl) ?_
  refine hp_get (ci := 10) (v := .int (vI w 1001 o)) hx hb hts ix_X10_owe_10 hown hK h ho (by decide) rfl 1 (by decide) (hts _ lk_X10_owe_148) (fun _ h9 => h9) rfl dX10_owe_5 ?_
  refine lv_bipush (v := 100) hx hb dX10_owe_8 (by decide) ?_
  refine lv_idiv hx hb dX10_owe_10 (by decide) ?_
  refine lv_bipush (v := 6) hx hb dX10_owe_11 (by decide) ?_
  refine lv_imul hx hb dX10_owe_13 ?_
  refine lv_iload_n hx hb dX10_owe_14 rfl (lv_at hl 1 rfl) ?_
  refine lv_iadd hx hb dX10_owe_15 ?_
  refine lv_bipush (v := 8) hx hb dX10_owe_16 (by decide) ?_
  refine lv_imul hx hb dX10_owe_18 ?_
  refine lv_iload_n hx hb dX10_owe_19 rfl (lv_at hl 2 rfl) ?_
  refine lv_iadd hx hb dX10_owe_20 ?_
  refine lv_dup2_11 hx hb dX10_owe_21 rfl rfl ?_
  refine hp_iald (t := 2022) (n := 4800) hx hb hK h hob1 (by decide) (fun _ _ _ => rfl) hp.1 dX10_owe_22 ?_
  have hp := hp.2
  refine lv_iload_n hx hb dX10_owe_23 rfl (lv_at hl 3 rfl) ?_
  refine lv_aload_n hx hb dX10_owe_24 rfl (lv_at hl 0 rfl) ?_
  obtain ⟨b2, eb2, hob2, hp⟩ := hp
  refine hp_get (ci := 10) (v := .ref b2) hx hb hts ix_X10_owe_10 hown hK h ho (by decide) rfl 27 (by decide) (hts _ lk_X10_owe_76) (fun _ h9 => h9) (by show some (va_rf (zR z 1027 o)) = some (Value.ref b2); rw [eb2]; rfl) dX10_owe_25 ?_
  refine lv_iconst (v := 5) hx hb dX10_owe_28 (by decide) ?_
  refine lv_aload_n hx hb dX10_owe_29 rfl (lv_at hl 0 rfl) ?_
  refine lv_iload_n hx hb dX10_owe_30 rfl (lv_at hl 1 rfl) ?_
  refine lv_iload_n hx hb dX10_owe_31 rfl (lv_at hl 2 rfl) ?_
  refine lv_aload_n hx hb dX10_owe_32 rfl (lv_at hl 0 rfl) ?_
  refine hp_get (ci := 10) (v := .int (vI w 1001 o)) hx hb hts ix_X10_owe_10 hown hK h ho (by decide) rfl 1 (by decide) (hts _ lk_X10_owe_148) (fun _ h9 => h9) rfl dX10_owe_33 ?_
  refine lv_bipush (v := 100) hx hb dX10_owe_36 (by decide) ?_
  refine lv_irem hx hb dX10_owe_38 (by decide) ?_
  refine hp_cVi ⟨hx, hb, hml, hown, hts⟩ (k_X10_right l G z w _ o p0 p1 ((vI w 1001 o) - (vI w 1001 o) / 100 * 100) _ hp) (cwV 3 hts gX10_owe_X10_right rfl rfl rfl (by decide +kernel) ⟨Nat.le_of_ble_eq_true rfl, Nat.le_of_ble_eq_true rfl⟩) ho (by decide) rfl hK h hA hE rfl hl.1 rfl (Nat.le_of_ble_eq_true rfl) dX10_owe_39 ⟨Nat.le_of_ble_eq_true rfl, Nat.le_of_ble_eq_true rfl⟩ (fun r4 w3 H locs hp h => ?_)
  refine lv_imul hx hb dX10_owe_42 ?_
  refine lv_iconst (v := 4) hx hb dX10_owe_43 (by decide) ?_
  refine lv_iadd hx hb dX10_owe_44 ?_
  refine hp_iald (t := 2027) (n := 300) hx hb hK h hob2 (by decide) (fun _ _ _ => rfl) hp.1 dX10_owe_45 ?_
  have hp := hp.2
  refine lv_imul hx hb dX10_owe_46 ?_
  refine lv_bipush (v := 100) hx hb dX10_owe_47 (by decide) ?_
  refine lv_idiv hx hb dX10_owe_49 (by decide) ?_
  refine lv_iadd hx hb dX10_owe_50 ?_
  refine hp_iast (t := 2022) (n := 4800) hx hb hK h hob1 (by decide) (fun _ _ _ => rfl) hp.1 dX10_owe_51 (fun H locs w5 ew5 h => ?_)
  have hp := hp.2 w5 ew5
  exact hp_vret hx hb hr hlocks hK h hp dX10_owe_52
abbrev rmX10_workLeft : Room := { frames := 1, cells := 0, slots := 0, locals := 21 }
theorem ix_X10_workLeft_10 : ∀ w ∈ wsX100, w ∈ wsX10_workLeft := by decide +kernel
theorem lk_X10_workLeft_43 : Cond.fieldLink RX10 43 "KelpShoresModel" "hands" "[I" ∈ wsX10_workLeft := by decide +kernel
theorem lk_X10_workLeft_55 : Cond.fieldLink RX10 55 "KelpShoresModel" "work" "[I" ∈ wsX10_workLeft := by decide +kernel
theorem wd_X10_workLeft_l179 : Cond.methodLink RX10 179 Lib.Math.max.name ∈ wsX10_workLeft := by decide +kernel
theorem wd_X10_workLeft_smax : Cond.static Lib.Math.max.name ∈ wsX10_workLeft := by decide +kernel
theorem wd_X10_workLeft_iM : Cond.initialized "java/lang/Math" ∈ wsX10_workLeft := by decide +kernel
theorem wd_X10_workLeft_kmax : Cond.code Lib.Math.max.name Lib.Math.max.code 2 (some .int) ∈ wsX10_workLeft := by decide +kernel
def wp_X10_workLeft (z : Zt) (o : Nat) (p0 : Int32) (w : Vt) (K : Int32 → Vt → Prop) : Prop := isO z 10 o ∧ ∃ b1 : Nat, zR z 1015 o = some b1 ∧ isO z 2015 b1 ∧ vp_in p0 8 ∧ ∃ b2 : Nat, zR z 1019 o = some b2 ∧ isO z 2019 b2 ∧ vp_in p0 8 ∧ ∀ x3 : Int32, x3 = (if 0 < ((5 * (vA w 2015 b1 (p0 : Int32).toNatClampNeg)) - (vA w 2019 b2 (p0 : Int32).toNatClampNeg)) then (5 * (vA w 2015 b1 (p0 : Int32).toNatClampNeg)) - (vA w 2019 b2 (p0 : Int32).toNatClampNeg) else 0) → K x3 w
set_option maxHeartbeats 4000000 in
set_option maxRecDepth 100000 in
theorem k_X10_workLeft (l : Launch) (G : Gt) (z : Zt) (w : Vt) (sz : Nat) (o : Nat) (p0 : Int32) (K : Int32 → Vt → Prop) (hp : wp_X10_workLeft z o p0 w K) : MI l yX10_workLeft wsX10_workLeft rmX10_workLeft G z w sz [.ref o, .int p0] K := by
  refine Met.ofW (cc := cX10_workLeft) (maxL := 2) (ret := (some .int)) (by decide +kernel) rfl ?_
  intro p e s m args below meth c s₁ B hml hv
  obtain ⟨rfl, rfl, C, h⟩ := hp_start B hml hv
  generalize gA G z w s.heap.size = A at C h ⊢
  obtain ⟨hx, hb, hr, hlocks, hml, hown, hts, hK, hA, hE⟩ := id C
  obtain ⟨ho, hp⟩ := hp
  have hl := lv_entry ([.ref o, .int p0]) (n := 2) (Nat.le_of_ble_eq_true rfl)
  rw [lg_entry_eq]
  generalize (lg_sl ([.ref o, .int p0]) ++ List.replicate (2 - (lg_sl ([.ref o, .int p0])).length) Slot.unset).toArray = ls at hl ⊢
  have hl : lv_has ls 2 [(0, .ref o), (1, .int p0)] := hl
  refine lv_iconst (v := 0) hx hb dX10_workLeft_0 (by decide) ?_
  refine lv_iconst (v := 5) hx hb dX10_workLeft_1 (by decide) ?_
  refine lv_aload_n hx hb dX10_workLeft_2 rfl (lv_at hl 0 rfl) ?_
  obtain ⟨b1, eb1, hob1, hp⟩ := hp
  refine hp_get (ci := 10) (v := .ref b1) hx hb hts ix_X10_workLeft_10 hown hK h ho (by decide) rfl 15 (by decide) (hts _ lk_X10_workLeft_43) (fun _ h9 => h9) (by show some (va_rf (zR z 1015 o)) = some (Value.ref b1); rw [eb1]; rfl) dX10_workLeft_3 ?_
  refine lv_iload_n hx hb dX10_workLeft_6 rfl (lv_at hl 1 rfl) ?_
  refine hp_iald (t := 2015) (n := 8) hx hb hK h hob1 (by decide) (fun _ _ _ => rfl) hp.1 dX10_workLeft_7 ?_
  have hp := hp.2
  refine lv_imul hx hb dX10_workLeft_8 ?_
  refine lv_aload_n hx hb dX10_workLeft_9 rfl (lv_at hl 0 rfl) ?_
  obtain ⟨b2, eb2, hob2, hp⟩ := hp
  refine hp_get (ci := 10) (v := .ref b2) hx hb hts ix_X10_workLeft_10 hown hK h ho (by decide) rfl 19 (by decide) (hts _ lk_X10_workLeft_55) (fun _ h9 => h9) (by show some (va_rf (zR z 1019 o)) = some (Value.ref b2); rw [eb2]; rfl) dX10_workLeft_10 ?_
  refine lv_iload_n hx hb dX10_workLeft_13 rfl (lv_at hl 1 rfl) ?_
  refine hp_iald (t := 2019) (n := 8) hx hb hK h hob2 (by decide) (fun _ _ _ => rfl) hp.1 dX10_workLeft_14 ?_
  have hp := hp.2
  refine lv_isub hx hb dX10_workLeft_15 ?_
  refine va_mmax hx hb (by rw [hml]; exact hl.1.symm) hown (hts _ wd_X10_workLeft_l179) (hts _ wd_X10_workLeft_smax) (hts _ wd_X10_workLeft_iM) (hts _ wd_X10_workLeft_kmax) (Nat.le_of_ble_eq_true rfl) (Nat.le_of_ble_eq_true rfl) (Nat.zero_le _) (Nat.zero_le _) dX10_workLeft_16 ?_
  refine lv_topi (fun x3 ex3 => ?_)
  have hp := hp x3 ex3
  exact hp_iret hx hb hr rfl hlocks hK h hp dX10_workLeft_19
