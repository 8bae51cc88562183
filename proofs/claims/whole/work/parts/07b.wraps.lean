theorem vp01 : vp_in 0 1 := by unfold vp_in; decide
abbrev rmL_shore : Room := { frames := 7, cells := 2, slots := 7, locals := 110 }
theorem wd_L_shore_13 : Cond.classLink RL 13 "java/lang/UnsupportedOperationException" ∈ wsL_shore := by decide +kernel
def wp_L_shore (z : Zt) (x : Nat) (t : Nat) (w : Vt) (K : Int32 → Zt → Vt → Prop) : Prop := isO z 9 x ∧ isO z 3000 t ∧ wp_X9_shore z x w (fun r1 z w1 => isO z 3000 t ∧ ∀ w2 : Vt, w2 = uL w1 3000 t (0 : Int32).toNatClampNeg r1.toInt64 → K 0 z w2) (fun k w1 => (k = 3 ∧ K 1 z w1))
set_option maxHeartbeats 4000000 in
set_option maxRecDepth 100000 in
theorem k_L_shore (l : Launch) (hst : l.stackTraces = false) (G : Gt) (z : Zt) (w : Vt) (sz : Nat) (x : Nat) (t : Nat) (K : Int32 → Zt → Vt → Prop) (hp : wp_L_shore z x t w K) : NI l yL_shore wsL_shore rmL_shore G z w sz [.ref x, .ref t] K 2 7 := by
  refine met_ofWH (cc := cL_shore) (maxL := 3) (ret := some .int) (hh := [(0, 8, 11, 13)]) (by decide +kernel) rfl ?_
  intro p e s m args below meth c s₁ B hml hv
  obtain ⟨rfl, rfl, C, h⟩ := hp_start B hml hv
  generalize gA G z w s.heap.size = A at C h ⊢
  obtain ⟨hx, hb, hr, hlocks, hml, hown, hts, hK, hA, hE⟩ := id C
  have htab : c.exceptionTable.toList = [⟨0, 8, 11, 13⟩] := vx_table (x := yL_shore) B (hts _ List.mem_cons_self)
  obtain ⟨hox, hp⟩ := hp
  obtain ⟨hot, hp⟩ := hp
  have hl := lv_entry ([.ref x, .ref t]) (n := 3) (Nat.le_of_ble_eq_true rfl)
  rw [lg_entry_eq]
  generalize (lg_sl ([.ref x, .ref t]) ++ List.replicate (3 - (lg_sl ([.ref x, .ref t])).length) Slot.unset).toArray = ls at hl ⊢
  have hl : lv_has ls 3 [(0, .ref x), (1, .ref t)] := hl
  refine lv_aload_n hx hb dL_shore_0 rfl (lv_at hl 1 rfl) ?_
  refine lv_iconst (v := 0) hx hb dL_shore_1 (by decide) ?_
  refine lv_aload_n hx hb dL_shore_2 rfl (lv_at hl 0 rfl) ?_
  refine hp_tYi ⟨hx, hb, hml, hown, hts⟩ (k_X9_shore l hst G z w _ x _ _ hp) (cwV 0 hts gL_shore_X9_shore rfl rfl rfl (by decide +kernel) ⟨Nat.le_of_ble_eq_true rfl, Nat.le_of_ble_eq_true rfl⟩) hox (by decide) rfl hK h hA hE rfl hl.1 rfl (Nat.le_of_ble_eq_true rfl) dL_shore_3 ⟨Nat.le_of_ble_eq_true rfl, Nat.le_of_ble_eq_true rfl⟩ (fun k9 w1 H locs q9 ce hX h hce hcv hcl => ?_) (fun r1 z w1 H locs hp h => ?_)
  · rcases hX with ⟨rfl, hp⟩
    · refine vx_catch (E := "java/lang/UnsupportedOperationException") (name := "java/lang/UnsupportedOperationException") hown [] ⟨0, 8, 11, 13⟩ [] htab (fun _ h9 => absurd h9 List.not_mem_nil) (by decide) (by decide) (hts _ wd_L_shore_13) (va_Nw.use rfl (hE.2.2.1 "java/lang/UnsupportedOperationException" (List.mem_of_getElem? (i := 2) rfl))) hce hcv hcl ?_
      refine lv_astore_n (lv' := [(2, .ref q9), (0, .ref x), (1, .ref t)]) hx hb dL_shore_11 rfl hl (by decide) rfl (fun ls hl => ?_)
      refine lv_iconst (v := 1) hx hb dL_shore_12 (by decide) ?_
      exact hp_niret hx hb hr hlocks hK h hp dL_shore_13 (Nat.le_of_ble_eq_true rfl) (Nat.le_of_ble_eq_true rfl)
  · obtain ⟨hot, hp⟩ := hp
    refine lv_i2l hx hb dL_shore_6 rfl ?_
    refine hp_last hx hb hK h hot vp01 dL_shore_7 (fun H locs w2 ew2 h => ?_)
    have hp := hp w2 ew2
    refine lv_goto (tgt := 14) hx hb dL_shore_8 (by decide) ?_
    refine lv_iconst (v := 0) hx hb dL_shore_14 (by decide) ?_
    exact hp_niret hx hb hr hlocks hK h hp dL_shore_15 (Nat.le_of_ble_eq_true rfl) (Nat.le_of_ble_eq_true rfl)
abbrev rmL_rock : Room := { frames := 8, cells := 2, slots := 15, locals := 136 }
theorem wd_L_rock_13 : Cond.classLink RL 13 "java/lang/UnsupportedOperationException" ∈ wsL_rock := by decide +kernel
theorem wd_L_rock_19 : Cond.classLink RL 19 "java/lang/IndexOutOfBoundsException" ∈ wsL_rock := by decide +kernel
theorem wd_L_rock_21 : Cond.classLink RL 21 "java/lang/IllegalArgumentException" ∈ wsL_rock := by decide +kernel
def wp_L_rock (z : Zt) (x : Nat) (p0 : Int32) (p1 : Int32) (p2 : Int32) (t : Nat) (w : Vt) (K : Int32 → Zt → Vt → Prop) : Prop := isO z 9 x ∧ isO z 3000 t ∧ wp_X9_rock z x p0 p1 p2 w (fun r1 z w1 => isO z 3000 t ∧ ∀ w2 : Vt, w2 = uL w1 3000 t (0 : Int32).toNatClampNeg r1.toInt64 → K 0 z w2) (fun k w1 => (k = 1 ∧ K 1 z w1) ∨ (k = 2 ∧ K 2 z w1) ∨ (k = 3 ∧ K 3 z w1))
set_option maxHeartbeats 4000000 in
set_option maxRecDepth 100000 in
theorem k_L_rock (l : Launch) (hst : l.stackTraces = false) (G : Gt) (z : Zt) (w : Vt) (sz : Nat) (x : Nat) (p0 : Int32) (p1 : Int32) (p2 : Int32) (t : Nat) (K : Int32 → Zt → Vt → Prop) (hp : wp_L_rock z x p0 p1 p2 t w K) : NI l yL_rock wsL_rock rmL_rock G z w sz [.ref x, .int p0, .int p1, .int p2, .ref t] K 2 15 := by
  refine met_ofWH (cc := cL_rock) (maxL := 6) (ret := some .int) (hh := [(0, 12, 15, 19), (0, 12, 19, 21), (0, 12, 23, 13)]) (by decide +kernel) rfl ?_
  intro p e s m args below meth c s₁ B hml hv
  obtain ⟨rfl, rfl, C, h⟩ := hp_start B hml hv
  generalize gA G z w s.heap.size = A at C h ⊢
  obtain ⟨hx, hb, hr, hlocks, hml, hown, hts, hK, hA, hE⟩ := id C
  have htab : c.exceptionTable.toList = [⟨0, 12, 15, 19⟩, ⟨0, 12, 19, 21⟩, ⟨0, 12, 23, 13⟩] := vx_table (x := yL_rock) B (hts _ List.mem_cons_self)
  obtain ⟨hox, hp⟩ := hp
  obtain ⟨hot, hp⟩ := hp
  have hl := lv_entry ([.ref x, .int p0, .int p1, .int p2, .ref t]) (n := 6) (Nat.le_of_ble_eq_true rfl)
  rw [lg_entry_eq]
  generalize (lg_sl ([.ref x, .int p0, .int p1, .int p2, .ref t]) ++ List.replicate (6 - (lg_sl ([.ref x, .int p0, .int p1, .int p2, .ref t])).length) Slot.unset).toArray = ls at hl ⊢
  have hl : lv_has ls 6 [(0, .ref x), (1, .int p0), (2, .int p1), (3, .int p2), (4, .ref t)] := hl
  refine lv_aload hx hb dL_rock_0 (lv_at hl 4 rfl) ?_
  refine lv_iconst (v := 0) hx hb dL_rock_2 (by decide) ?_
  refine lv_aload_n hx hb dL_rock_3 rfl (lv_at hl 0 rfl) ?_
  refine lv_iload_n hx hb dL_rock_4 rfl (lv_at hl 1 rfl) ?_
  refine lv_iload_n hx hb dL_rock_5 rfl (lv_at hl 2 rfl) ?_
  refine lv_iload_n hx hb dL_rock_6 rfl (lv_at hl 3 rfl) ?_
  refine hp_tYi ⟨hx, hb, hml, hown, hts⟩ (k_X9_rock l hst G z w _ x p0 p1 p2 _ _ hp) (cwV 3 hts gL_rock_X9_rock rfl rfl rfl (by decide +kernel) ⟨Nat.le_of_ble_eq_true rfl, Nat.le_of_ble_eq_true rfl⟩) hox (by decide) rfl hK h hA hE rfl hl.1 rfl (Nat.le_of_ble_eq_true rfl) dL_rock_7 ⟨Nat.le_of_ble_eq_true rfl, Nat.le_of_ble_eq_true rfl⟩ (fun k9 w1 H locs q9 ce hX h hce hcv hcl => ?_) (fun r1 z w1 H locs hp h => ?_)
  · rcases hX with ⟨rfl, hp⟩ | ⟨rfl, hp⟩ | ⟨rfl, hp⟩
    · refine vx_catch (E := "java/lang/IndexOutOfBoundsException") (name := "java/lang/IndexOutOfBoundsException") hown [] ⟨0, 12, 15, 19⟩ [⟨0, 12, 19, 21⟩, ⟨0, 12, 23, 13⟩] htab (fun _ h9 => absurd h9 List.not_mem_nil) (by decide) (by decide) (hts _ wd_L_rock_19) (va_Nw.use rfl (hE.2.2.1 "java/lang/IndexOutOfBoundsException" (List.mem_of_getElem? (i := 0) rfl))) hce hcv hcl ?_
      refine lv_astore (lv' := [(5, .ref q9), (0, .ref x), (1, .int p0), (2, .int p1), (3, .int p2), (4, .ref t)]) hx hb dL_rock_15 hl (by decide) rfl (fun ls hl => ?_)
      refine lv_iconst (v := 1) hx hb dL_rock_17 (by decide) ?_
      exact hp_niret hx hb hr hlocks hK h hp dL_rock_18 (Nat.le_of_ble_eq_true rfl) (Nat.le_of_ble_eq_true rfl)
    · refine vx_catch (E := "java/lang/IllegalArgumentException") (name := "java/lang/IllegalArgumentException") hown [⟨0, 12, 15, 19⟩] ⟨0, 12, 19, 21⟩ [⟨0, 12, 23, 13⟩] htab (List.forall_mem_cons.mpr ⟨Or.inr ⟨by decide, "java/lang/IndexOutOfBoundsException", hts _ wd_L_rock_19, hE.2.2.2.2.2.2.2.2.2.2.2 ("java/lang/IllegalArgumentException", "java/lang/IndexOutOfBoundsException") (List.mem_of_getElem? (i := 0) rfl)⟩, fun _ h9 => absurd h9 List.not_mem_nil⟩) (by decide) (by decide) (hts _ wd_L_rock_21) (va_Nw.use rfl (hE.2.2.1 "java/lang/IllegalArgumentException" (List.mem_of_getElem? (i := 1) rfl))) hce hcv hcl ?_
      refine lv_astore (lv' := [(5, .ref q9), (0, .ref x), (1, .int p0), (2, .int p1), (3, .int p2), (4, .ref t)]) hx hb dL_rock_19 hl (by decide) rfl (fun ls hl => ?_)
      refine lv_iconst (v := 2) hx hb dL_rock_21 (by decide) ?_
      exact hp_niret hx hb hr hlocks hK h hp dL_rock_22 (Nat.le_of_ble_eq_true rfl) (Nat.le_of_ble_eq_true rfl)
    · refine vx_catch (E := "java/lang/UnsupportedOperationException") (name := "java/lang/UnsupportedOperationException") hown [⟨0, 12, 15, 19⟩, ⟨0, 12, 19, 21⟩] ⟨0, 12, 23, 13⟩ [] htab (List.forall_mem_cons.mpr ⟨Or.inr ⟨by decide, "java/lang/IndexOutOfBoundsException", hts _ wd_L_rock_19, hE.2.2.2.2.2.2.2.2.2.2.2 ("java/lang/UnsupportedOperationException", "java/lang/IndexOutOfBoundsException") (List.mem_of_getElem? (i := 1) rfl)⟩, (List.forall_mem_cons.mpr ⟨Or.inr ⟨by decide, "java/lang/IllegalArgumentException", hts _ wd_L_rock_21, hE.2.2.2.2.2.2.2.2.2.2.2 ("java/lang/UnsupportedOperationException", "java/lang/IllegalArgumentException") (List.mem_of_getElem? (i := 2) rfl)⟩, fun _ h9 => absurd h9 List.not_mem_nil⟩)⟩) (by decide) (by decide) (hts _ wd_L_rock_13) (va_Nw.use rfl (hE.2.2.1 "java/lang/UnsupportedOperationException" (List.mem_of_getElem? (i := 2) rfl))) hce hcv hcl ?_
      refine lv_astore (lv' := [(5, .ref q9), (0, .ref x), (1, .int p0), (2, .int p1), (3, .int p2), (4, .ref t)]) hx hb dL_rock_23 hl (by decide) rfl (fun ls hl => ?_)
      refine lv_iconst (v := 3) hx hb dL_rock_25 (by decide) ?_
      exact hp_niret hx hb hr hlocks hK h hp dL_rock_26 (Nat.le_of_ble_eq_true rfl) (Nat.le_of_ble_eq_true rfl)
  · obtain ⟨hot, hp⟩ := hp
    refine lv_i2l hx hb dL_rock_10 rfl ?_
    refine hp_last hx hb hK h hot vp01 dL_rock_11 (fun H locs w2 ew2 h => ?_)
    have hp := hp w2 ew2
    refine lv_goto (tgt := 27) hx hb dL_rock_12 (by decide) ?_
    refine lv_iconst (v := 0) hx hb dL_rock_27 (by decide) ?_
    exact hp_niret hx hb hr hlocks hK h hp dL_rock_28 (Nat.le_of_ble_eq_true rfl) (Nat.le_of_ble_eq_true rfl)
abbrev rmL_hands : Room := { frames := 8, cells := 2, slots := 12, locals := 135 }
theorem wd_L_hands_19 : Cond.classLink RL 19 "java/lang/IndexOutOfBoundsException" ∈ wsL_hands := by decide +kernel
theorem wd_L_hands_21 : Cond.classLink RL 21 "java/lang/IllegalArgumentException" ∈ wsL_hands := by decide +kernel
def wp_L_hands (z : Zt) (x : Nat) (p0 : Int32) (p1 : Int32) (w : Vt) (K : Int32 → Zt → Vt → Prop) : Prop := isO z 9 x ∧ wp_X9_hands z x p0 p1 w (fun w1 => K 0 z w1) (fun k w1 => (k = 1 ∧ K 1 z w1) ∨ (k = 2 ∧ K 2 z w1))
set_option maxHeartbeats 4000000 in
set_option maxRecDepth 100000 in
theorem k_L_hands (l : Launch) (hst : l.stackTraces = false) (G : Gt) (z : Zt) (w : Vt) (sz : Nat) (x : Nat) (p0 : Int32) (p1 : Int32) (K : Int32 → Zt → Vt → Prop) (hp : wp_L_hands z x p0 p1 w K) : NI l yL_hands wsL_hands rmL_hands G z w sz [.ref x, .int p0, .int p1] K 2 12 := by
  refine met_ofWH (cc := cL_hands) (maxL := 4) (ret := some .int) (hh := [(0, 6, 9, 19), (0, 6, 12, 21)]) (by decide +kernel) rfl ?_
  intro p e s m args below meth c s₁ B hml hv
  obtain ⟨rfl, rfl, C, h⟩ := hp_start B hml hv
  generalize gA G z w s.heap.size = A at C h ⊢
  obtain ⟨hx, hb, hr, hlocks, hml, hown, hts, hK, hA, hE⟩ := id C
  have htab : c.exceptionTable.toList = [⟨0, 6, 9, 19⟩, ⟨0, 6, 12, 21⟩] := vx_table (x := yL_hands) B (hts _ List.mem_cons_self)
  obtain ⟨hox, hp⟩ := hp
  have hl := lv_entry ([.ref x, .int p0, .int p1]) (n := 4) (Nat.le_of_ble_eq_true rfl)
  rw [lg_entry_eq]
  generalize (lg_sl ([.ref x, .int p0, .int p1]) ++ List.replicate (4 - (lg_sl ([.ref x, .int p0, .int p1])).length) Slot.unset).toArray = ls at hl ⊢
  have hl : lv_has ls 4 [(0, .ref x), (1, .int p0), (2, .int p1)] := hl
  refine lv_aload_n hx hb dL_hands_0 rfl (lv_at hl 0 rfl) ?_
  refine lv_iload_n hx hb dL_hands_1 rfl (lv_at hl 1 rfl) ?_
  refine lv_iload_n hx hb dL_hands_2 rfl (lv_at hl 2 rfl) ?_
  refine hp_tVv ⟨hx, hb, hml, hown, hts⟩ (k_X9_hands l hst G z w _ x p0 p1 _ _ hp) (cwV 2 hts gL_hands_X9_hands rfl rfl rfl (by decide +kernel) ⟨Nat.le_of_ble_eq_true rfl, Nat.le_of_ble_eq_true rfl⟩) hox (by decide) rfl hK h hA hE rfl hl.1 rfl (Nat.le_of_ble_eq_true rfl) dL_hands_3 ⟨Nat.le_of_ble_eq_true rfl, Nat.le_of_ble_eq_true rfl⟩ (fun k9 w1 H locs q9 ce hX h hce hcv hcl => ?_) (fun w1 H locs hp h => ?_)
  · rcases hX with ⟨rfl, hp⟩ | ⟨rfl, hp⟩
    · refine vx_catch (E := "java/lang/IndexOutOfBoundsException") (name := "java/lang/IndexOutOfBoundsException") hown [] ⟨0, 6, 9, 19⟩ [⟨0, 6, 12, 21⟩] htab (fun _ h9 => absurd h9 List.not_mem_nil) (by decide) (by decide) (hts _ wd_L_hands_19) (va_Nw.use rfl (hE.2.2.1 "java/lang/IndexOutOfBoundsException" (List.mem_of_getElem? (i := 0) rfl))) hce hcv hcl ?_
      refine lv_astore_n (lv' := [(3, .ref q9), (0, .ref x), (1, .int p0), (2, .int p1)]) hx hb dL_hands_9 rfl hl (by decide) rfl (fun ls hl => ?_)
      refine lv_iconst (v := 1) hx hb dL_hands_10 (by decide) ?_
      exact hp_niret hx hb hr hlocks hK h hp dL_hands_11 (Nat.le_of_ble_eq_true rfl) (Nat.le_of_ble_eq_true rfl)
    · refine vx_catch (E := "java/lang/IllegalArgumentException") (name := "java/lang/IllegalArgumentException") hown [⟨0, 6, 9, 19⟩] ⟨0, 6, 12, 21⟩ [] htab (List.forall_mem_cons.mpr ⟨Or.inr ⟨by decide, "java/lang/IndexOutOfBoundsException", hts _ wd_L_hands_19, hE.2.2.2.2.2.2.2.2.2.2.2 ("java/lang/IllegalArgumentException", "java/lang/IndexOutOfBoundsException") (List.mem_of_getElem? (i := 0) rfl)⟩, fun _ h9 => absurd h9 List.not_mem_nil⟩) (by decide) (by decide) (hts _ wd_L_hands_21) (va_Nw.use rfl (hE.2.2.1 "java/lang/IllegalArgumentException" (List.mem_of_getElem? (i := 1) rfl))) hce hcv hcl ?_
      refine lv_astore_n (lv' := [(3, .ref q9), (0, .ref x), (1, .int p0), (2, .int p1)]) hx hb dL_hands_12 rfl hl (by decide) rfl (fun ls hl => ?_)
      refine lv_iconst (v := 2) hx hb dL_hands_13 (by decide) ?_
      exact hp_niret hx hb hr hlocks hK h hp dL_hands_14 (Nat.le_of_ble_eq_true rfl) (Nat.le_of_ble_eq_true rfl)
  · skip
    refine lv_goto (tgt := 15) hx hb dL_hands_6 (by decide) ?_
    refine lv_iconst (v := 0) hx hb dL_hands_15 (by decide) ?_
    exact hp_niret hx hb hr hlocks hK h hp dL_hands_16 (Nat.le_of_ble_eq_true rfl) (Nat.le_of_ble_eq_true rfl)
abbrev rmL_rights : Room := { frames := 9, cells := 1, slots := 6, locals := 202 }
theorem wd_L_rights_21 : Cond.classLink RL 21 "java/lang/IllegalArgumentException" ∈ wsL_rights := by decide +kernel
def wp_L_rights (z : Zt) (x : Nat) (t : Nat) (w : Vt) (K : Int32 → Zt → Vt → Prop) : Prop := isO z 9 x ∧ isO z 3000 t ∧ wp_X9_rights z x w (fun r1 z w1 => isO z 3000 t ∧ ∀ w2 : Vt, w2 = uL w1 3000 t (0 : Int32).toNatClampNeg r1.toInt64 → K 0 z w2) (fun k w1 => (k = 2 ∧ K 1 z w1))
set_option maxHeartbeats 4000000 in
set_option maxRecDepth 100000 in
theorem k_L_rights (l : Launch) (hst : l.stackTraces = false) (G : Gt) (z : Zt) (w : Vt) (sz : Nat) (x : Nat) (t : Nat) (K : Int32 → Zt → Vt → Prop) (hp : wp_L_rights z x t w K) : NI l yL_rights wsL_rights rmL_rights G z w sz [.ref x, .ref t] K 1 6 := by
  refine met_ofWH (cc := cL_rights) (maxL := 3) (ret := some .int) (hh := [(0, 8, 11, 21)]) (by decide +kernel) rfl ?_
  intro p e s m args below meth c s₁ B hml hv
  obtain ⟨rfl, rfl, C, h⟩ := hp_start B hml hv
  generalize gA G z w s.heap.size = A at C h ⊢
  obtain ⟨hx, hb, hr, hlocks, hml, hown, hts, hK, hA, hE⟩ := id C
  have htab : c.exceptionTable.toList = [⟨0, 8, 11, 21⟩] := vx_table (x := yL_rights) B (hts _ List.mem_cons_self)
  obtain ⟨hox, hp⟩ := hp
  obtain ⟨hot, hp⟩ := hp
  have hl := lv_entry ([.ref x, .ref t]) (n := 3) (Nat.le_of_ble_eq_true rfl)
  rw [lg_entry_eq]
  generalize (lg_sl ([.ref x, .ref t]) ++ List.replicate (3 - (lg_sl ([.ref x, .ref t])).length) Slot.unset).toArray = ls at hl ⊢
  have hl : lv_has ls 3 [(0, .ref x), (1, .ref t)] := hl
  refine lv_aload_n hx hb dL_rights_0 rfl (lv_at hl 1 rfl) ?_
  refine lv_iconst (v := 0) hx hb dL_rights_1 (by decide) ?_
  refine lv_aload_n hx hb dL_rights_2 rfl (lv_at hl 0 rfl) ?_
  refine hp_tYi ⟨hx, hb, hml, hown, hts⟩ (k_X9_rights l hst G z w _ x _ _ hp) (cwV 0 hts gL_rights_X9_rights rfl rfl rfl (by decide +kernel) ⟨Nat.le_of_ble_eq_true rfl, Nat.le_of_ble_eq_true rfl⟩) hox (by decide) rfl hK h hA hE rfl hl.1 rfl (Nat.le_of_ble_eq_true rfl) dL_rights_3 ⟨Nat.le_of_ble_eq_true rfl, Nat.le_of_ble_eq_true rfl⟩ (fun k9 w1 H locs q9 ce hX h hce hcv hcl => ?_) (fun r1 z w1 H locs hp h => ?_)
  · rcases hX with ⟨rfl, hp⟩
    · refine vx_catch (E := "java/lang/IllegalArgumentException") (name := "java/lang/IllegalArgumentException") hown [] ⟨0, 8, 11, 21⟩ [] htab (fun _ h9 => absurd h9 List.not_mem_nil) (by decide) (by decide) (hts _ wd_L_rights_21) (va_Nw.use rfl (hE.2.2.1 "java/lang/IllegalArgumentException" (List.mem_of_getElem? (i := 1) rfl))) hce hcv hcl ?_
      refine lv_astore_n (lv' := [(2, .ref q9), (0, .ref x), (1, .ref t)]) hx hb dL_rights_11 rfl hl (by decide) rfl (fun ls hl => ?_)
      refine lv_iconst (v := 1) hx hb dL_rights_12 (by decide) ?_
      exact hp_niret hx hb hr hlocks hK h hp dL_rights_13 (Nat.le_of_ble_eq_true rfl) (Nat.le_of_ble_eq_true rfl)
  · obtain ⟨hot, hp⟩ := hp
    refine lv_i2l hx hb dL_rights_6 rfl ?_
    refine hp_last hx hb hK h hot vp01 dL_rights_7 (fun H locs w2 ew2 h => ?_)
    have hp := hp w2 ew2
    refine lv_goto (tgt := 14) hx hb dL_rights_8 (by decide) ?_
    refine lv_iconst (v := 0) hx hb dL_rights_14 (by decide) ?_
    exact hp_niret hx hb hr hlocks hK h hp dL_rights_15 (Nat.le_of_ble_eq_true rfl) (Nat.le_of_ble_eq_true rfl)
abbrev rmL_may : Room := { frames := 8, cells := 2, slots := 12, locals := 135 }
theorem wd_L_may_19 : Cond.classLink RL 19 "java/lang/IndexOutOfBoundsException" ∈ wsL_may := by decide +kernel
def wp_L_may (z : Zt) (x : Nat) (p0 : Int32) (p1 : Int32) (p2 : Int32) (t : Nat) (w : Vt) (K : Int32 → Zt → Vt → Prop) : Prop := isO z 9 x ∧ isO z 3000 t ∧ wp_X9_may z x p0 p1 p2 w (fun r1 w1 => isO z 3000 t ∧ (r1 = 0 → ∀ w2 : Vt, w2 = uL w1 3000 t (0 : Int32).toNatClampNeg 0 → K 0 z w2) ∧ (¬ r1 = 0 → ∀ w2 : Vt, w2 = uL w1 3000 t (0 : Int32).toNatClampNeg 1 → K 0 z w2)) (fun k w1 => (k = 1 ∧ K 1 z w1))
set_option maxHeartbeats 4000000 in
set_option maxRecDepth 100000 in
theorem k_L_may (l : Launch) (hst : l.stackTraces = false) (G : Gt) (z : Zt) (w : Vt) (sz : Nat) (x : Nat) (p0 : Int32) (p1 : Int32) (p2 : Int32) (t : Nat) (K : Int32 → Zt → Vt → Prop) (hp : wp_L_may z x p0 p1 p2 t w K) : NI l yL_may wsL_may rmL_may G z w sz [.ref x, .int p0, .int p1, .int p2, .ref t] K 2 12 := by
  refine met_ofWH (cc := cL_may) (maxL := 6) (ret := some .int) (hh := [(0, 19, 22, 19)]) (by decide +kernel) rfl ?_
  intro p e s m args below meth c s₁ B hml hv
  obtain ⟨rfl, rfl, C, h⟩ := hp_start B hml hv
  generalize gA G z w s.heap.size = A at C h ⊢
  obtain ⟨hx, hb, hr, hlocks, hml, hown, hts, hK, hA, hE⟩ := id C
  have htab : c.exceptionTable.toList = [⟨0, 19, 22, 19⟩] := vx_table (x := yL_may) B (hts _ List.mem_cons_self)
  obtain ⟨hox, hp⟩ := hp
  obtain ⟨hot, hp⟩ := hp
  have hl := lv_entry ([.ref x, .int p0, .int p1, .int p2, .ref t]) (n := 6) (Nat.le_of_ble_eq_true rfl)
  rw [lg_entry_eq]
  generalize (lg_sl ([.ref x, .int p0, .int p1, .int p2, .ref t]) ++ List.replicate (6 - (lg_sl ([.ref x, .int p0, .int p1, .int p2, .ref t])).length) Slot.unset).toArray = ls at hl ⊢
  have hl : lv_has ls 6 [(0, .ref x), (1, .int p0), (2, .int p1), (3, .int p2), (4, .ref t)] := hl
  refine lv_aload hx hb dL_may_0 (lv_at hl 4 rfl) ?_
  refine lv_iconst (v := 0) hx hb dL_may_2 (by decide) ?_
  refine lv_aload_n hx hb dL_may_3 rfl (lv_at hl 0 rfl) ?_
  refine lv_iload_n hx hb dL_may_4 rfl (lv_at hl 1 rfl) ?_
  refine lv_iload_n hx hb dL_may_5 rfl (lv_at hl 2 rfl) ?_
  refine lv_iload_n hx hb dL_may_6 rfl (lv_at hl 3 rfl) ?_
  refine hp_tVi ⟨hx, hb, hml, hown, hts⟩ (k_X9_may l hst G z w _ x p0 p1 p2 _ _ hp) (cwV 3 hts gL_may_X9_may rfl rfl rfl (by decide +kernel) ⟨Nat.le_of_ble_eq_true rfl, Nat.le_of_ble_eq_true rfl⟩) hox (by decide) rfl hK h hA hE rfl hl.1 rfl (Nat.le_of_ble_eq_true rfl) dL_may_7 ⟨Nat.le_of_ble_eq_true rfl, Nat.le_of_ble_eq_true rfl⟩ (fun k9 w1 H locs q9 ce hX h hce hcv hcl => ?_) (fun r1 w1 H locs hp h => ?_)
  · rcases hX with ⟨rfl, hp⟩
    · refine vx_catch (E := "java/lang/IndexOutOfBoundsException") (name := "java/lang/IndexOutOfBoundsException") hown [] ⟨0, 19, 22, 19⟩ [] htab (fun _ h9 => absurd h9 List.not_mem_nil) (by decide) (by decide) (hts _ wd_L_may_19) (va_Nw.use rfl (hE.2.2.1 "java/lang/IndexOutOfBoundsException" (List.mem_of_getElem? (i := 0) rfl))) hce hcv hcl ?_
      refine lv_astore (lv' := [(5, .ref q9), (0, .ref x), (1, .int p0), (2, .int p1), (3, .int p2), (4, .ref t)]) hx hb dL_may_22 hl (by decide) rfl (fun ls hl => ?_)
      refine lv_iconst (v := 1) hx hb dL_may_24 (by decide) ?_
      exact hp_niret hx hb hr hlocks hK h hp dL_may_25 (Nat.le_of_ble_eq_true rfl) (Nat.le_of_ble_eq_true rfl)
  · obtain ⟨hot, hp⟩ := hp
    refine lv_if_eq (tgt := 17) hx hb dL_may_10 (by decide) (fun hc => ?_) (fun hc => ?_)
    · have hp := hp.1 hc
      refine lv_lconst (v := 0) hx hb dL_may_17 (by decide) ?_
      refine hp_last hx hb hK h hot vp01 dL_may_18 (fun H locs w2 ew2 h => ?_)
      have hp := hp w2 ew2
      refine lv_goto (tgt := 26) hx hb dL_may_19 (by decide) ?_
      refine lv_iconst (v := 0) hx hb dL_may_26 (by decide) ?_
      exact hp_niret hx hb hr hlocks hK h hp dL_may_27 (Nat.le_of_ble_eq_true rfl) (Nat.le_of_ble_eq_true rfl)
    · have hp := hp.2 hc
      refine lv_lconst (v := 1) hx hb dL_may_13 (by decide) ?_
      refine lv_goto (tgt := 18) hx hb dL_may_14 (by decide) ?_
      refine hp_last hx hb hK h hot vp01 dL_may_18 (fun H locs w2 ew2 h => ?_)
      have hp := hp w2 ew2
      refine lv_goto (tgt := 26) hx hb dL_may_19 (by decide) ?_
      refine lv_iconst (v := 0) hx hb dL_may_26 (by decide) ?_
      exact hp_niret hx hb hr hlocks hK h hp dL_may_27 (Nat.le_of_ble_eq_true rfl) (Nat.le_of_ble_eq_true rfl)
abbrev rmL_day : Room := { frames := 7, cells := 1, slots := 6, locals := 118 }
theorem wd_L_day_13 : Cond.classLink RL 13 "java/lang/UnsupportedOperationException" ∈ wsL_day := by decide +kernel
theorem wd_L_day_21 : Cond.classLink RL 21 "java/lang/IllegalArgumentException" ∈ wsL_day := by decide +kernel
def wp_L_day (z : Zt) (x : Nat) (p0 : Int32) (p1 : Int32) (p2 : Int32) (p3 : Int32) (t : Nat) (w : Vt) (K : Int32 → Zt → Vt → Prop) : Prop := isO z 9 x ∧ isO z 3000 t ∧ wp_X9_day z x p0 p1 p2 p3 w (fun r1 w1 => isO z 3000 t ∧ ∀ w2 : Vt, w2 = uL w1 3000 t (0 : Int32).toNatClampNeg r1.toInt64 → K 0 z w2) (fun k w1 => (k = 2 ∧ K 1 z w1) ∨ (k = 3 ∧ K 2 z w1))
set_option maxHeartbeats 4000000 in
set_option maxRecDepth 100000 in
theorem k_L_day (l : Launch) (hst : l.stackTraces = false) (G : Gt) (z : Zt) (w : Vt) (sz : Nat) (x : Nat) (p0 : Int32) (p1 : Int32) (p2 : Int32) (p3 : Int32) (t : Nat) (K : Int32 → Zt → Vt → Prop) (hp : wp_L_day z x p0 p1 p2 p3 t w K) : NI l yL_day wsL_day rmL_day G z w sz [.ref x, .int p0, .int p1, .int p2, .int p3, .ref t] K 1 6 := by
  refine met_ofWH (cc := cL_day) (maxL := 7) (ret := some .int) (hh := [(0, 14, 17, 21), (0, 14, 21, 13)]) (by decide +kernel) rfl ?_
  intro p e s m args below meth c s₁ B hml hv
  obtain ⟨rfl, rfl, C, h⟩ := hp_start B hml hv
  generalize gA G z w s.heap.size = A at C h ⊢
  obtain ⟨hx, hb, hr, hlocks, hml, hown, hts, hK, hA, hE⟩ := id C
  have htab : c.exceptionTable.toList = [⟨0, 14, 17, 21⟩, ⟨0, 14, 21, 13⟩] := vx_table (x := yL_day) B (hts _ List.mem_cons_self)
  obtain ⟨hox, hp⟩ := hp
  obtain ⟨hot, hp⟩ := hp
  have hl := lv_entry ([.ref x, .int p0, .int p1, .int p2, .int p3, .ref t]) (n := 7) (Nat.le_of_ble_eq_true rfl)
  rw [lg_entry_eq]
  generalize (lg_sl ([.ref x, .int p0, .int p1, .int p2, .int p3, .ref t]) ++ List.replicate (7 - (lg_sl ([.ref x, .int p0, .int p1, .int p2, .int p3, .ref t])).length) Slot.unset).toArray = ls at hl ⊢
  have hl : lv_has ls 7 [(0, .ref x), (1, .int p0), (2, .int p1), (3, .int p2), (4, .int p3), (5, .ref t)] := hl
  refine lv_aload hx hb dL_day_0 (lv_at hl 5 rfl) ?_
  refine lv_iconst (v := 0) hx hb dL_day_2 (by decide) ?_
  refine lv_aload_n hx hb dL_day_3 rfl (lv_at hl 0 rfl) ?_
  refine lv_iload_n hx hb dL_day_4 rfl (lv_at hl 1 rfl) ?_
  refine lv_iload_n hx hb dL_day_5 rfl (lv_at hl 2 rfl) ?_
  refine lv_iload_n hx hb dL_day_6 rfl (lv_at hl 3 rfl) ?_
  refine lv_iload hx hb dL_day_7 (lv_at hl 4 rfl) ?_
  refine hp_tVi ⟨hx, hb, hml, hown, hts⟩ (k_X9_day l hst G z w _ x p0 p1 p2 p3 _ _ hp) (cwV 4 hts gL_day_X9_day rfl rfl rfl (by decide +kernel) ⟨Nat.le_of_ble_eq_true rfl, Nat.le_of_ble_eq_true rfl⟩) hox (by decide) rfl hK h hA hE rfl hl.1 rfl (Nat.le_of_ble_eq_true rfl) dL_day_9 ⟨Nat.le_of_ble_eq_true rfl, Nat.le_of_ble_eq_true rfl⟩ (fun k9 w1 H locs q9 ce hX h hce hcv hcl => ?_) (fun r1 w1 H locs hp h => ?_)
  · rcases hX with ⟨rfl, hp⟩ | ⟨rfl, hp⟩
    · refine vx_catch (E := "java/lang/IllegalArgumentException") (name := "java/lang/IllegalArgumentException") hown [] ⟨0, 14, 17, 21⟩ [⟨0, 14, 21, 13⟩] htab (fun _ h9 => absurd h9 List.not_mem_nil) (by decide) (by decide) (hts _ wd_L_day_21) (va_Nw.use rfl (hE.2.2.1 "java/lang/IllegalArgumentException" (List.mem_of_getElem? (i := 1) rfl))) hce hcv hcl ?_
      refine lv_astore (lv' := [(6, .ref q9), (0, .ref x), (1, .int p0), (2, .int p1), (3, .int p2), (4, .int p3), (5, .ref t)]) hx hb dL_day_17 hl (by decide) rfl (fun ls hl => ?_)
      refine lv_iconst (v := 1) hx hb dL_day_19 (by decide) ?_
      exact hp_niret hx hb hr hlocks hK h hp dL_day_20 (Nat.le_of_ble_eq_true rfl) (Nat.le_of_ble_eq_true rfl)
    · refine vx_catch (E := "java/lang/UnsupportedOperationException") (name := "java/lang/UnsupportedOperationException") hown [⟨0, 14, 17, 21⟩] ⟨0, 14, 21, 13⟩ [] htab (List.forall_mem_cons.mpr ⟨Or.inr ⟨by decide, "java/lang/IllegalArgumentException", hts _ wd_L_day_21, hE.2.2.2.2.2.2.2.2.2.2.2 ("java/lang/UnsupportedOperationException", "java/lang/IllegalArgumentException") (List.mem_of_getElem? (i := 2) rfl)⟩, fun _ h9 => absurd h9 List.not_mem_nil⟩) (by decide) (by decide) (hts _ wd_L_day_13) (va_Nw.use rfl (hE.2.2.1 "java/lang/UnsupportedOperationException" (List.mem_of_getElem? (i := 2) rfl))) hce hcv hcl ?_
      refine lv_astore (lv' := [(6, .ref q9), (0, .ref x), (1, .int p0), (2, .int p1), (3, .int p2), (4, .int p3), (5, .ref t)]) hx hb dL_day_21 hl (by decide) rfl (fun ls hl => ?_)
      refine lv_iconst (v := 2) hx hb dL_day_23 (by decide) ?_
      exact hp_niret hx hb hr hlocks hK h hp dL_day_24 (Nat.le_of_ble_eq_true rfl) (Nat.le_of_ble_eq_true rfl)
  · obtain ⟨hot, hp⟩ := hp
    refine lv_i2l hx hb dL_day_12 rfl ?_
    refine hp_last hx hb hK h hot vp01 dL_day_13 (fun H locs w2 ew2 h => ?_)
    have hp := hp w2 ew2
    refine lv_goto (tgt := 25) hx hb dL_day_14 (by decide) ?_
    refine lv_iconst (v := 0) hx hb dL_day_25 (by decide) ?_
    exact hp_niret hx hb hr hlocks hK h hp dL_day_26 (Nat.le_of_ble_eq_true rfl) (Nat.le_of_ble_eq_true rfl)
abbrev rmL_cut : Room := { frames := 8, cells := 4, slots := 24, locals := 140 }
theorem wd_L_cut_19 : Cond.classLink RL 19 "java/lang/IndexOutOfBoundsException" ∈ wsL_cut := by decide +kernel
theorem wd_L_cut_21 : Cond.classLink RL 21 "java/lang/IllegalArgumentException" ∈ wsL_cut := by decide +kernel
def wp_L_cut (z : Zt) (x : Nat) (p0 : Int32) (p1 : Int32) (p2 : Int32) (p3 : Int32) (t : Nat) (w : Vt) (K : Int32 → Zt → Vt → Prop) : Prop := isO z 9 x ∧ isO z 3000 t ∧ wp_X9_cut z x p0 p1 p2 p3 w (fun r1 w1 => isO z 3000 t ∧ ∀ w2 : Vt, w2 = uL w1 3000 t (0 : Int32).toNatClampNeg r1.toInt64 → K 0 z w2) (fun k w1 => (k = 1 ∧ K 1 z w1) ∨ (k = 2 ∧ K 2 z w1))
set_option maxHeartbeats 4000000 in
set_option maxRecDepth 100000 in
theorem k_L_cut (l : Launch) (hst : l.stackTraces = false) (G : Gt) (z : Zt) (w : Vt) (sz : Nat) (x : Nat) (p0 : Int32) (p1 : Int32) (p2 : Int32) (p3 : Int32) (t : Nat) (K : Int32 → Zt → Vt → Prop) (hp : wp_L_cut z x p0 p1 p2 p3 t w K) : NI l yL_cut wsL_cut rmL_cut G z w sz [.ref x, .int p0, .int p1, .int p2, .int p3, .ref t] K 4 24 := by
  refine met_ofWH (cc := cL_cut) (maxL := 7) (ret := some .int) (hh := [(0, 14, 17, 19), (0, 14, 21, 21)]) (by decide +kernel) rfl ?_
  intro p e s m args below meth c s₁ B hml hv
  obtain ⟨rfl, rfl, C, h⟩ := hp_start B hml hv
  generalize gA G z w s.heap.size = A at C h ⊢
  obtain ⟨hx, hb, hr, hlocks, hml, hown, hts, hK, hA, hE⟩ := id C
  have htab : c.exceptionTable.toList = [⟨0, 14, 17, 19⟩, ⟨0, 14, 21, 21⟩] := vx_table (x := yL_cut) B (hts _ List.mem_cons_self)
  obtain ⟨hox, hp⟩ := hp
  obtain ⟨hot, hp⟩ := hp
  have hl := lv_entry ([.ref x, .int p0, .int p1, .int p2, .int p3, .ref t]) (n := 7) (Nat.le_of_ble_eq_true rfl)
  rw [lg_entry_eq]
  generalize (lg_sl ([.ref x, .int p0, .int p1, .int p2, .int p3, .ref t]) ++ List.replicate (7 - (lg_sl ([.ref x, .int p0, .int p1, .int p2, .int p3, .ref t])).length) Slot.unset).toArray = ls at hl ⊢
  have hl : lv_has ls 7 [(0, .ref x), (1, .int p0), (2, .int p1), (3, .int p2), (4, .int p3), (5, .ref t)] := hl
  refine lv_aload hx hb dL_cut_0 (lv_at hl 5 rfl) ?_
  refine lv_iconst (v := 0) hx hb dL_cut_2 (by decide) ?_
  refine lv_aload_n hx hb dL_cut_3 rfl (lv_at hl 0 rfl) ?_
  refine lv_iload_n hx hb dL_cut_4 rfl (lv_at hl 1 rfl) ?_
  refine lv_iload_n hx hb dL_cut_5 rfl (lv_at hl 2 rfl) ?_
  refine lv_iload_n hx hb dL_cut_6 rfl (lv_at hl 3 rfl) ?_
  refine lv_iload hx hb dL_cut_7 (lv_at hl 4 rfl) ?_
  refine hp_tVi ⟨hx, hb, hml, hown, hts⟩ (k_X9_cut l hst G z w _ x p0 p1 p2 p3 _ _ hp) (cwV 4 hts gL_cut_X9_cut rfl rfl rfl (by decide +kernel) ⟨Nat.le_of_ble_eq_true rfl, Nat.le_of_ble_eq_true rfl⟩) hox (by decide) rfl hK h hA hE rfl hl.1 rfl (Nat.le_of_ble_eq_true rfl) dL_cut_9 ⟨Nat.le_of_ble_eq_true rfl, Nat.le_of_ble_eq_true rfl⟩ (fun k9 w1 H locs q9 ce hX h hce hcv hcl => ?_) (fun r1 w1 H locs hp h => ?_)
  · rcases hX with ⟨rfl, hp⟩ | ⟨rfl, hp⟩
    · refine vx_catch (E := "java/lang/IndexOutOfBoundsException") (name := "java/lang/IndexOutOfBoundsException") hown [] ⟨0, 14, 17, 19⟩ [⟨0, 14, 21, 21⟩] htab (fun _ h9 => absurd h9 List.not_mem_nil) (by decide) (by decide) (hts _ wd_L_cut_19) (va_Nw.use rfl (hE.2.2.1 "java/lang/IndexOutOfBoundsException" (List.mem_of_getElem? (i := 0) rfl))) hce hcv hcl ?_
      refine lv_astore (lv' := [(6, .ref q9), (0, .ref x), (1, .int p0), (2, .int p1), (3, .int p2), (4, .int p3), (5, .ref t)]) hx hb dL_cut_17 hl (by decide) rfl (fun ls hl => ?_)
      refine lv_iconst (v := 1) hx hb dL_cut_19 (by decide) ?_
      exact hp_niret hx hb hr hlocks hK h hp dL_cut_20 (Nat.le_of_ble_eq_true rfl) (Nat.le_of_ble_eq_true rfl)
    · refine vx_catch (E := "java/lang/IllegalArgumentException") (name := "java/lang/IllegalArgumentException") hown [⟨0, 14, 17, 19⟩] ⟨0, 14, 21, 21⟩ [] htab (List.forall_mem_cons.mpr ⟨Or.inr ⟨by decide, "java/lang/IndexOutOfBoundsException", hts _ wd_L_cut_19, hE.2.2.2.2.2.2.2.2.2.2.2 ("java/lang/IllegalArgumentException", "java/lang/IndexOutOfBoundsException") (List.mem_of_getElem? (i := 0) rfl)⟩, fun _ h9 => absurd h9 List.not_mem_nil⟩) (by decide) (by decide) (hts _ wd_L_cut_21) (va_Nw.use rfl (hE.2.2.1 "java/lang/IllegalArgumentException" (List.mem_of_getElem? (i := 1) rfl))) hce hcv hcl ?_
      refine lv_astore (lv' := [(6, .ref q9), (0, .ref x), (1, .int p0), (2, .int p1), (3, .int p2), (4, .int p3), (5, .ref t)]) hx hb dL_cut_21 hl (by decide) rfl (fun ls hl => ?_)
      refine lv_iconst (v := 2) hx hb dL_cut_23 (by decide) ?_
      exact hp_niret hx hb hr hlocks hK h hp dL_cut_24 (Nat.le_of_ble_eq_true rfl) (Nat.le_of_ble_eq_true rfl)
  · obtain ⟨hot, hp⟩ := hp
    refine lv_i2l hx hb dL_cut_12 rfl ?_
    refine hp_last hx hb hK h hot vp01 dL_cut_13 (fun H locs w2 ew2 h => ?_)
    have hp := hp w2 ew2
    refine lv_goto (tgt := 25) hx hb dL_cut_14 (by decide) ?_
    refine lv_iconst (v := 0) hx hb dL_cut_25 (by decide) ?_
    exact hp_niret hx hb hr hlocks hK h hp dL_cut_26 (Nat.le_of_ble_eq_true rfl) (Nat.le_of_ble_eq_true rfl)
abbrev rmL_gather : Room := { frames := 8, cells := 3, slots := 18, locals := 139 }
theorem wd_L_gather_19 : Cond.classLink RL 19 "java/lang/IndexOutOfBoundsException" ∈ wsL_gather := by decide +kernel
theorem wd_L_gather_21 : Cond.classLink RL 21 "java/lang/IllegalArgumentException" ∈ wsL_gather := by decide +kernel
def wp_L_gather (z : Zt) (x : Nat) (p0 : Int32) (p1 : Int32) (p2 : Int32) (t : Nat) (w : Vt) (K : Int32 → Zt → Vt → Prop) : Prop := isO z 9 x ∧ isO z 3000 t ∧ wp_X9_gather z x p0 p1 p2 w (fun r1 w1 => isO z 3000 t ∧ ∀ w2 : Vt, w2 = uL w1 3000 t (0 : Int32).toNatClampNeg r1.toInt64 → K 0 z w2) (fun k w1 => (k = 1 ∧ K 1 z w1) ∨ (k = 2 ∧ K 2 z w1))
set_option maxHeartbeats 4000000 in
set_option maxRecDepth 100000 in
theorem k_L_gather (l : Launch) (hst : l.stackTraces = false) (G : Gt) (z : Zt) (w : Vt) (sz : Nat) (x : Nat) (p0 : Int32) (p1 : Int32) (p2 : Int32) (t : Nat) (K : Int32 → Zt → Vt → Prop) (hp : wp_L_gather z x p0 p1 p2 t w K) : NI l yL_gather wsL_gather rmL_gather G z w sz [.ref x, .int p0, .int p1, .int p2, .ref t] K 3 18 := by
  refine met_ofWH (cc := cL_gather) (maxL := 6) (ret := some .int) (hh := [(0, 12, 15, 19), (0, 12, 19, 21)]) (by decide +kernel) rfl ?_
  intro p e s m args below meth c s₁ B hml hv
  obtain ⟨rfl, rfl, C, h⟩ := hp_start B hml hv
  generalize gA G z w s.heap.size = A at C h ⊢
  obtain ⟨hx, hb, hr, hlocks, hml, hown, hts, hK, hA, hE⟩ := id C
  have htab : c.exceptionTable.toList = [⟨0, 12, 15, 19⟩, ⟨0, 12, 19, 21⟩] := vx_table (x := yL_gather) B (hts _ List.mem_cons_self)
  obtain ⟨hox, hp⟩ := hp
  obtain ⟨hot, hp⟩ := hp
  have hl := lv_entry ([.ref x, .int p0, .int p1, .int p2, .ref t]) (n := 6) (Nat.le_of_ble_eq_true rfl)
  rw [lg_entry_eq]
  generalize (lg_sl ([.ref x, .int p0, .int p1, .int p2, .ref t]) ++ List.replicate (6 - (lg_sl ([.ref x, .int p0, .int p1, .int p2, .ref t])).length) Slot.unset).toArray = ls at hl ⊢
  have hl : lv_has ls 6 [(0, .ref x), (1, .int p0), (2, .int p1), (3, .int p2), (4, .ref t)] := hl
  refine lv_aload hx hb dL_gather_0 (lv_at hl 4 rfl) ?_
  refine lv_iconst (v := 0) hx hb dL_gather_2 (by decide) ?_
  refine lv_aload_n hx hb dL_gather_3 rfl (lv_at hl 0 rfl) ?_
  refine lv_iload_n hx hb dL_gather_4 rfl (lv_at hl 1 rfl) ?_
  refine lv_iload_n hx hb dL_gather_5 rfl (lv_at hl 2 rfl) ?_
  refine lv_iload_n hx hb dL_gather_6 rfl (lv_at hl 3 rfl) ?_
  refine hp_tVi ⟨hx, hb, hml, hown, hts⟩ (k_X9_gather l hst G z w _ x p0 p1 p2 _ _ hp) (cwV 3 hts gL_gather_X9_gather rfl rfl rfl (by decide +kernel) ⟨Nat.le_of_ble_eq_true rfl, Nat.le_of_ble_eq_true rfl⟩) hox (by decide) rfl hK h hA hE rfl hl.1 rfl (Nat.le_of_ble_eq_true rfl) dL_gather_7 ⟨Nat.le_of_ble_eq_true rfl, Nat.le_of_ble_eq_true rfl⟩ (fun k9 w1 H locs q9 ce hX h hce hcv hcl => ?_) (fun r1 w1 H locs hp h => ?_)
  · rcases hX with ⟨rfl, hp⟩ | ⟨rfl, hp⟩
    · refine vx_catch (E := "java/lang/IndexOutOfBoundsException") (name := "java/lang/IndexOutOfBoundsException") hown [] ⟨0, 12, 15, 19⟩ [⟨0, 12, 19, 21⟩] htab (fun _ h9 => absurd h9 List.not_mem_nil) (by decide) (by decide) (hts _ wd_L_gather_19) (va_Nw.use rfl (hE.2.2.1 "java/lang/IndexOutOfBoundsException" (List.mem_of_getElem? (i := 0) rfl))) hce hcv hcl ?_
      refine lv_astore (lv' := [(5, .ref q9), (0, .ref x), (1, .int p0), (2, .int p1), (3, .int p2), (4, .ref t)]) hx hb dL_gather_15 hl (by decide) rfl (fun ls hl => ?_)
      refine lv_iconst (v := 1) hx hb dL_gather_17 (by decide) ?_
      exact hp_niret hx hb hr hlocks hK h hp dL_gather_18 (Nat.le_of_ble_eq_true rfl) (Nat.le_of_ble_eq_true rfl)
    · refine vx_catch (E := "java/lang/IllegalArgumentException") (name := "java/lang/IllegalArgumentException") hown [⟨0, 12, 15, 19⟩] ⟨0, 12, 19, 21⟩ [] htab (List.forall_mem_cons.mpr ⟨Or.inr ⟨by decide, "java/lang/IndexOutOfBoundsException", hts _ wd_L_gather_19, hE.2.2.2.2.2.2.2.2.2.2.2 ("java/lang/IllegalArgumentException", "java/lang/IndexOutOfBoundsException") (List.mem_of_getElem? (i := 0) rfl)⟩, fun _ h9 => absurd h9 List.not_mem_nil⟩) (by decide) (by decide) (hts _ wd_L_gather_21) (va_Nw.use rfl (hE.2.2.1 "java/lang/IllegalArgumentException" (List.mem_of_getElem? (i := 1) rfl))) hce hcv hcl ?_
      refine lv_astore (lv' := [(5, .ref q9), (0, .ref x), (1, .int p0), (2, .int p1), (3, .int p2), (4, .ref t)]) hx hb dL_gather_19 hl (by decide) rfl (fun ls hl => ?_)
      refine lv_iconst (v := 2) hx hb dL_gather_21 (by decide) ?_
      exact hp_niret hx hb hr hlocks hK h hp dL_gather_22 (Nat.le_of_ble_eq_true rfl) (Nat.le_of_ble_eq_true rfl)
  · obtain ⟨hot, hp⟩ := hp
    refine lv_i2l hx hb dL_gather_10 rfl ?_
    refine hp_last hx hb hK h hot vp01 dL_gather_11 (fun H locs w2 ew2 h => ?_)
    have hp := hp w2 ew2
    refine lv_goto (tgt := 23) hx hb dL_gather_12 (by decide) ?_
    refine lv_iconst (v := 0) hx hb dL_gather_23 (by decide) ?_
    exact hp_niret hx hb hr hlocks hK h hp dL_gather_24 (Nat.le_of_ble_eq_true rfl) (Nat.le_of_ble_eq_true rfl)
abbrev rmL_look : Room := { frames := 8, cells := 3, slots := 18, locals := 136 }
theorem wd_L_look_19 : Cond.classLink RL 19 "java/lang/IndexOutOfBoundsException" ∈ wsL_look := by decide +kernel
theorem wd_L_look_47 : Cond.classLink RL 47 "java/util/NoSuchElementException" ∈ wsL_look := by decide +kernel
def wp_L_look (z : Zt) (x : Nat) (p0 : Int32) (p1 : Int32) (p2 : Int32) (t : Nat) (w : Vt) (K : Int32 → Zt → Vt → Prop) : Prop := isO z 9 x ∧ isO z 3000 t ∧ wp_X9_look z x p0 p1 p2 w (fun r1 w1 => isO z 3000 t ∧ ∀ w2 : Vt, w2 = uL w1 3000 t (0 : Int32).toNatClampNeg r1.toInt64 → K 0 z w2) (fun k w1 => (k = 1 ∧ K 1 z w1) ∨ (k = 4 ∧ K 2 z w1))
set_option maxHeartbeats 4000000 in
set_option maxRecDepth 100000 in
theorem k_L_look (l : Launch) (hst : l.stackTraces = false) (G : Gt) (z : Zt) (w : Vt) (sz : Nat) (x : Nat) (p0 : Int32) (p1 : Int32) (p2 : Int32) (t : Nat) (K : Int32 → Zt → Vt → Prop) (hp : wp_L_look z x p0 p1 p2 t w K) : NI l yL_look wsL_look rmL_look G z w sz [.ref x, .int p0, .int p1, .int p2, .ref t] K 3 18 := by
  refine met_ofWH (cc := cL_look) (maxL := 6) (ret := some .int) (hh := [(0, 12, 15, 19), (0, 12, 19, 47)]) (by decide +kernel) rfl ?_
  intro p e s m args below meth c s₁ B hml hv
  obtain ⟨rfl, rfl, C, h⟩ := hp_start B hml hv
  generalize gA G z w s.heap.size = A at C h ⊢
  obtain ⟨hx, hb, hr, hlocks, hml, hown, hts, hK, hA, hE⟩ := id C
  have htab : c.exceptionTable.toList = [⟨0, 12, 15, 19⟩, ⟨0, 12, 19, 47⟩] := vx_table (x := yL_look) B (hts _ List.mem_cons_self)
  obtain ⟨hox, hp⟩ := hp
  obtain ⟨hot, hp⟩ := hp
  have hl := lv_entry ([.ref x, .int p0, .int p1, .int p2, .ref t]) (n := 6) (Nat.le_of_ble_eq_true rfl)
  rw [lg_entry_eq]
  generalize (lg_sl ([.ref x, .int p0, .int p1, .int p2, .ref t]) ++ List.replicate (6 - (lg_sl ([.ref x, .int p0, .int p1, .int p2, .ref t])).length) Slot.unset).toArray = ls at hl ⊢
  have hl : lv_has ls 6 [(0, .ref x), (1, .int p0), (2, .int p1), (3, .int p2), (4, .ref t)] := hl
  refine lv_aload hx hb dL_look_0 (lv_at hl 4 rfl) ?_
  refine lv_iconst (v := 0) hx hb dL_look_2 (by decide) ?_
  refine lv_aload_n hx hb dL_look_3 rfl (lv_at hl 0 rfl) ?_
  refine lv_iload_n hx hb dL_look_4 rfl (lv_at hl 1 rfl) ?_
  refine lv_iload_n hx hb dL_look_5 rfl (lv_at hl 2 rfl) ?_
  refine lv_iload_n hx hb dL_look_6 rfl (lv_at hl 3 rfl) ?_
  refine hp_tVi ⟨hx, hb, hml, hown, hts⟩ (k_X9_look l hst G z w _ x p0 p1 p2 _ _ hp) (cwV 3 hts gL_look_X9_look rfl rfl rfl (by decide +kernel) ⟨Nat.le_of_ble_eq_true rfl, Nat.le_of_ble_eq_true rfl⟩) hox (by decide) rfl hK h hA hE rfl hl.1 rfl (Nat.le_of_ble_eq_true rfl) dL_look_7 ⟨Nat.le_of_ble_eq_true rfl, Nat.le_of_ble_eq_true rfl⟩ (fun k9 w1 H locs q9 ce hX h hce hcv hcl => ?_) (fun r1 w1 H locs hp h => ?_)
  · rcases hX with ⟨rfl, hp⟩ | ⟨rfl, hp⟩
    · refine vx_catch (E := "java/lang/IndexOutOfBoundsException") (name := "java/lang/IndexOutOfBoundsException") hown [] ⟨0, 12, 15, 19⟩ [⟨0, 12, 19, 47⟩] htab (fun _ h9 => absurd h9 List.not_mem_nil) (by decide) (by decide) (hts _ wd_L_look_19) (va_Nw.use rfl (hE.2.2.1 "java/lang/IndexOutOfBoundsException" (List.mem_of_getElem? (i := 0) rfl))) hce hcv hcl ?_
      refine lv_astore (lv' := [(5, .ref q9), (0, .ref x), (1, .int p0), (2, .int p1), (3, .int p2), (4, .ref t)]) hx hb dL_look_15 hl (by decide) rfl (fun ls hl => ?_)
      refine lv_iconst (v := 1) hx hb dL_look_17 (by decide) ?_
      exact hp_niret hx hb hr hlocks hK h hp dL_look_18 (Nat.le_of_ble_eq_true rfl) (Nat.le_of_ble_eq_true rfl)
    · refine vx_catch (E := "java/util/NoSuchElementException") (name := "java/util/NoSuchElementException") hown [⟨0, 12, 15, 19⟩] ⟨0, 12, 19, 47⟩ [] htab (List.forall_mem_cons.mpr ⟨Or.inr ⟨by decide, "java/lang/IndexOutOfBoundsException", hts _ wd_L_look_19, hE.2.2.2.2.2.2.2.2.2.2.2 ("java/util/NoSuchElementException", "java/lang/IndexOutOfBoundsException") (List.mem_of_getElem? (i := 3) rfl)⟩, fun _ h9 => absurd h9 List.not_mem_nil⟩) (by decide) (by decide) (hts _ wd_L_look_47) (va_Nw.use rfl (hE.2.2.1 "java/util/NoSuchElementException" (List.mem_of_getElem? (i := 3) rfl))) hce hcv hcl ?_
      refine lv_astore (lv' := [(5, .ref q9), (0, .ref x), (1, .int p0), (2, .int p1), (3, .int p2), (4, .ref t)]) hx hb dL_look_19 hl (by decide) rfl (fun ls hl => ?_)
      refine lv_iconst (v := 2) hx hb dL_look_21 (by decide) ?_
      exact hp_niret hx hb hr hlocks hK h hp dL_look_22 (Nat.le_of_ble_eq_true rfl) (Nat.le_of_ble_eq_true rfl)
  · obtain ⟨hot, hp⟩ := hp
    refine lv_i2l hx hb dL_look_10 rfl ?_
    refine hp_last hx hb hK h hot vp01 dL_look_11 (fun H locs w2 ew2 h => ?_)
    have hp := hp w2 ew2
    refine lv_goto (tgt := 23) hx hb dL_look_12 (by decide) ?_
    refine lv_iconst (v := 0) hx hb dL_look_23 (by decide) ?_
    exact hp_niret hx hb hr hlocks hK h hp dL_look_24 (Nat.le_of_ble_eq_true rfl) (Nat.le_of_ble_eq_true rfl)
abbrev rmL_cast : Room := { frames := 8, cells := 1, slots := 6, locals := 133 }
theorem wd_L_cast_19 : Cond.classLink RL 19 "java/lang/IndexOutOfBoundsException" ∈ wsL_cast := by decide +kernel
def wp_L_cast (z : Zt) (x : Nat) (p0 : Int32) (t : Nat) (w : Vt) (K : Int32 → Zt → Vt → Prop) : Prop := isO z 9 x ∧ isO z 3000 t ∧ wp_X9_cast z x p0 w (fun r1 w1 => isO z 3000 t ∧ ∀ w2 : Vt, w2 = uL w1 3000 t (0 : Int32).toNatClampNeg r1.toInt64 → K 0 z w2) (fun k w1 => (k = 1 ∧ K 1 z w1))
set_option maxHeartbeats 4000000 in
set_option maxRecDepth 100000 in
theorem k_L_cast (l : Launch) (hst : l.stackTraces = false) (G : Gt) (z : Zt) (w : Vt) (sz : Nat) (x : Nat) (p0 : Int32) (t : Nat) (K : Int32 → Zt → Vt → Prop) (hp : wp_L_cast z x p0 t w K) : NI l yL_cast wsL_cast rmL_cast G z w sz [.ref x, .int p0, .ref t] K 1 6 := by
  refine met_ofWH (cc := cL_cast) (maxL := 4) (ret := some .int) (hh := [(0, 9, 12, 19)]) (by decide +kernel) rfl ?_
  intro p e s m args below meth c s₁ B hml hv
  obtain ⟨rfl, rfl, C, h⟩ := hp_start B hml hv
  generalize gA G z w s.heap.size = A at C h ⊢
  obtain ⟨hx, hb, hr, hlocks, hml, hown, hts, hK, hA, hE⟩ := id C
  have htab : c.exceptionTable.toList = [⟨0, 9, 12, 19⟩] := vx_table (x := yL_cast) B (hts _ List.mem_cons_self)
  obtain ⟨hox, hp⟩ := hp
  obtain ⟨hot, hp⟩ := hp
  have hl := lv_entry ([.ref x, .int p0, .ref t]) (n := 4) (Nat.le_of_ble_eq_true rfl)
  rw [lg_entry_eq]
  generalize (lg_sl ([.ref x, .int p0, .ref t]) ++ List.replicate (4 - (lg_sl ([.ref x, .int p0, .ref t])).length) Slot.unset).toArray = ls at hl ⊢
  have hl : lv_has ls 4 [(0, .ref x), (1, .int p0), (2, .ref t)] := hl
  refine lv_aload_n hx hb dL_cast_0 rfl (lv_at hl 2 rfl) ?_
  refine lv_iconst (v := 0) hx hb dL_cast_1 (by decide) ?_
  refine lv_aload_n hx hb dL_cast_2 rfl (lv_at hl 0 rfl) ?_
  refine lv_iload_n hx hb dL_cast_3 rfl (lv_at hl 1 rfl) ?_
  refine hp_tVi ⟨hx, hb, hml, hown, hts⟩ (k_X9_cast l hst G z w _ x p0 _ _ hp) (cwV 1 hts gL_cast_X9_cast rfl rfl rfl (by decide +kernel) ⟨Nat.le_of_ble_eq_true rfl, Nat.le_of_ble_eq_true rfl⟩) hox (by decide) rfl hK h hA hE rfl hl.1 rfl (Nat.le_of_ble_eq_true rfl) dL_cast_4 ⟨Nat.le_of_ble_eq_true rfl, Nat.le_of_ble_eq_true rfl⟩ (fun k9 w1 H locs q9 ce hX h hce hcv hcl => ?_) (fun r1 w1 H locs hp h => ?_)
  · rcases hX with ⟨rfl, hp⟩
    · refine vx_catch (E := "java/lang/IndexOutOfBoundsException") (name := "java/lang/IndexOutOfBoundsException") hown [] ⟨0, 9, 12, 19⟩ [] htab (fun _ h9 => absurd h9 List.not_mem_nil) (by decide) (by decide) (hts _ wd_L_cast_19) (va_Nw.use rfl (hE.2.2.1 "java/lang/IndexOutOfBoundsException" (List.mem_of_getElem? (i := 0) rfl))) hce hcv hcl ?_
      refine lv_astore_n (lv' := [(3, .ref q9), (0, .ref x), (1, .int p0), (2, .ref t)]) hx hb dL_cast_12 rfl hl (by decide) rfl (fun ls hl => ?_)
      refine lv_iconst (v := 1) hx hb dL_cast_13 (by decide) ?_
      exact hp_niret hx hb hr hlocks hK h hp dL_cast_14 (Nat.le_of_ble_eq_true rfl) (Nat.le_of_ble_eq_true rfl)
  · obtain ⟨hot, hp⟩ := hp
    refine lv_i2l hx hb dL_cast_7 rfl ?_
    refine hp_last hx hb hK h hot vp01 dL_cast_8 (fun H locs w2 ew2 h => ?_)
    have hp := hp w2 ew2
    refine lv_goto (tgt := 15) hx hb dL_cast_9 (by decide) ?_
    refine lv_iconst (v := 0) hx hb dL_cast_15 (by decide) ?_
    exact hp_niret hx hb hr hlocks hK h hp dL_cast_16 (Nat.le_of_ble_eq_true rfl) (Nat.le_of_ble_eq_true rfl)
abbrev rmL_has : Room := { frames := 8, cells := 2, slots := 12, locals := 135 }
theorem wd_L_has_19 : Cond.classLink RL 19 "java/lang/IndexOutOfBoundsException" ∈ wsL_has := by decide +kernel
theorem wd_L_has_47 : Cond.classLink RL 47 "java/util/NoSuchElementException" ∈ wsL_has := by decide +kernel
def wp_L_has (z : Zt) (x : Nat) (p0 : Int32) (p1 : Int32) (t : Nat) (w : Vt) (K : Int32 → Zt → Vt → Prop) : Prop := isO z 9 x ∧ isO z 3000 t ∧ wp_X9_has z x p0 p1 w (fun r1 w1 => isO z 3000 t ∧ ∀ w2 : Vt, w2 = uL w1 3000 t (0 : Int32).toNatClampNeg r1.toInt64 → K 0 z w2) (fun k w1 => (k = 1 ∧ K 1 z w1) ∨ (k = 4 ∧ K 2 z w1))
set_option maxHeartbeats 4000000 in
set_option maxRecDepth 100000 in
theorem k_L_has (l : Launch) (hst : l.stackTraces = false) (G : Gt) (z : Zt) (w : Vt) (sz : Nat) (x : Nat) (p0 : Int32) (p1 : Int32) (t : Nat) (K : Int32 → Zt → Vt → Prop) (hp : wp_L_has z x p0 p1 t w K) : NI l yL_has wsL_has rmL_has G z w sz [.ref x, .int p0, .int p1, .ref t] K 2 12 := by
  refine met_ofWH (cc := cL_has) (maxL := 5) (ret := some .int) (hh := [(0, 10, 13, 19), (0, 10, 17, 47)]) (by decide +kernel) rfl ?_
  intro p e s m args below meth c s₁ B hml hv
  obtain ⟨rfl, rfl, C, h⟩ := hp_start B hml hv
  generalize gA G z w s.heap.size = A at C h ⊢
  obtain ⟨hx, hb, hr, hlocks, hml, hown, hts, hK, hA, hE⟩ := id C
  have htab : c.exceptionTable.toList = [⟨0, 10, 13, 19⟩, ⟨0, 10, 17, 47⟩] := vx_table (x := yL_has) B (hts _ List.mem_cons_self)
  obtain ⟨hox, hp⟩ := hp
  obtain ⟨hot, hp⟩ := hp
  have hl := lv_entry ([.ref x, .int p0, .int p1, .ref t]) (n := 5) (Nat.le_of_ble_eq_true rfl)
  rw [lg_entry_eq]
  generalize (lg_sl ([.ref x, .int p0, .int p1, .ref t]) ++ List.replicate (5 - (lg_sl ([.ref x, .int p0, .int p1, .ref t])).length) Slot.unset).toArray = ls at hl ⊢
  have hl : lv_has ls 5 [(0, .ref x), (1, .int p0), (2, .int p1), (3, .ref t)] := hl
  refine lv_aload_n hx hb dL_has_0 rfl (lv_at hl 3 rfl) ?_
  refine lv_iconst (v := 0) hx hb dL_has_1 (by decide) ?_
  refine lv_aload_n hx hb dL_has_2 rfl (lv_at hl 0 rfl) ?_
  refine lv_iload_n hx hb dL_has_3 rfl (lv_at hl 1 rfl) ?_
  refine lv_iload_n hx hb dL_has_4 rfl (lv_at hl 2 rfl) ?_
  refine hp_tVi ⟨hx, hb, hml, hown, hts⟩ (k_X9_has l hst G z w _ x p0 p1 _ _ hp) (cwV 2 hts gL_has_X9_has rfl rfl rfl (by decide +kernel) ⟨Nat.le_of_ble_eq_true rfl, Nat.le_of_ble_eq_true rfl⟩) hox (by decide) rfl hK h hA hE rfl hl.1 rfl (Nat.le_of_ble_eq_true rfl) dL_has_5 ⟨Nat.le_of_ble_eq_true rfl, Nat.le_of_ble_eq_true rfl⟩ (fun k9 w1 H locs q9 ce hX h hce hcv hcl => ?_) (fun r1 w1 H locs hp h => ?_)
  · rcases hX with ⟨rfl, hp⟩ | ⟨rfl, hp⟩
    · refine vx_catch (E := "java/lang/IndexOutOfBoundsException") (name := "java/lang/IndexOutOfBoundsException") hown [] ⟨0, 10, 13, 19⟩ [⟨0, 10, 17, 47⟩] htab (fun _ h9 => absurd h9 List.not_mem_nil) (by decide) (by decide) (hts _ wd_L_has_19) (va_Nw.use rfl (hE.2.2.1 "java/lang/IndexOutOfBoundsException" (List.mem_of_getElem? (i := 0) rfl))) hce hcv hcl ?_
      refine lv_astore (lv' := [(4, .ref q9), (0, .ref x), (1, .int p0), (2, .int p1), (3, .ref t)]) hx hb dL_has_13 hl (by decide) rfl (fun ls hl => ?_)
      refine lv_iconst (v := 1) hx hb dL_has_15 (by decide) ?_
      exact hp_niret hx hb hr hlocks hK h hp dL_has_16 (Nat.le_of_ble_eq_true rfl) (Nat.le_of_ble_eq_true rfl)
    · refine vx_catch (E := "java/util/NoSuchElementException") (name := "java/util/NoSuchElementException") hown [⟨0, 10, 13, 19⟩] ⟨0, 10, 17, 47⟩ [] htab (List.forall_mem_cons.mpr ⟨Or.inr ⟨by decide, "java/lang/IndexOutOfBoundsException", hts _ wd_L_has_19, hE.2.2.2.2.2.2.2.2.2.2.2 ("java/util/NoSuchElementException", "java/lang/IndexOutOfBoundsException") (List.mem_of_getElem? (i := 3) rfl)⟩, fun _ h9 => absurd h9 List.not_mem_nil⟩) (by decide) (by decide) (hts _ wd_L_has_47) (va_Nw.use rfl (hE.2.2.1 "java/util/NoSuchElementException" (List.mem_of_getElem? (i := 3) rfl))) hce hcv hcl ?_
      refine lv_astore (lv' := [(4, .ref q9), (0, .ref x), (1, .int p0), (2, .int p1), (3, .ref t)]) hx hb dL_has_17 hl (by decide) rfl (fun ls hl => ?_)
      refine lv_iconst (v := 2) hx hb dL_has_19 (by decide) ?_
      exact hp_niret hx hb hr hlocks hK h hp dL_has_20 (Nat.le_of_ble_eq_true rfl) (Nat.le_of_ble_eq_true rfl)
  · obtain ⟨hot, hp⟩ := hp
    refine lv_i2l hx hb dL_has_8 rfl ?_
    refine hp_last hx hb hK h hot vp01 dL_has_9 (fun H locs w2 ew2 h => ?_)
    have hp := hp w2 ew2
    refine lv_goto (tgt := 21) hx hb dL_has_10 (by decide) ?_
    refine lv_iconst (v := 0) hx hb dL_has_21 (by decide) ?_
    exact hp_niret hx hb hr hlocks hK h hp dL_has_22 (Nat.le_of_ble_eq_true rfl) (Nat.le_of_ble_eq_true rfl)
abbrev rmL_owes : Room := { frames := 8, cells := 2, slots := 12, locals := 136 }
theorem wd_L_owes_19 : Cond.classLink RL 19 "java/lang/IndexOutOfBoundsException" ∈ wsL_owes := by decide +kernel
def wp_L_owes (z : Zt) (x : Nat) (p0 : Int32) (p1 : Int32) (p2 : Int32) (t : Nat) (w : Vt) (K : Int32 → Zt → Vt → Prop) : Prop := isO z 9 x ∧ isO z 3000 t ∧ wp_X9_owes z x p0 p1 p2 w (fun r1 w1 => isO z 3000 t ∧ ∀ w2 : Vt, w2 = uL w1 3000 t (0 : Int32).toNatClampNeg r1.toInt64 → K 0 z w2) (fun k w1 => (k = 1 ∧ K 1 z w1))
set_option maxHeartbeats 4000000 in
set_option maxRecDepth 100000 in
theorem k_L_owes (l : Launch) (hst : l.stackTraces = false) (G : Gt) (z : Zt) (w : Vt) (sz : Nat) (x : Nat) (p0 : Int32) (p1 : Int32) (p2 : Int32) (t : Nat) (K : Int32 → Zt → Vt → Prop) (hp : wp_L_owes z x p0 p1 p2 t w K) : NI l yL_owes wsL_owes rmL_owes G z w sz [.ref x, .int p0, .int p1, .int p2, .ref t] K 2 12 := by
  refine met_ofWH (cc := cL_owes) (maxL := 6) (ret := some .int) (hh := [(0, 12, 15, 19)]) (by decide +kernel) rfl ?_
  intro p e s m args below meth c s₁ B hml hv
  obtain ⟨rfl, rfl, C, h⟩ := hp_start B hml hv
  generalize gA G z w s.heap.size = A at C h ⊢
  obtain ⟨hx, hb, hr, hlocks, hml, hown, hts, hK, hA, hE⟩ := id C
  have htab : c.exceptionTable.toList = [⟨0, 12, 15, 19⟩] := vx_table (x := yL_owes) B (hts _ List.mem_cons_self)
  obtain ⟨hox, hp⟩ := hp
  obtain ⟨hot, hp⟩ := hp
  have hl := lv_entry ([.ref x, .int p0, .int p1, .int p2, .ref t]) (n := 6) (Nat.le_of_ble_eq_true rfl)
  rw [lg_entry_eq]
  generalize (lg_sl ([.ref x, .int p0, .int p1, .int p2, .ref t]) ++ List.replicate (6 - (lg_sl ([.ref x, .int p0, .int p1, .int p2, .ref t])).length) Slot.unset).toArray = ls at hl ⊢
  have hl : lv_has ls 6 [(0, .ref x), (1, .int p0), (2, .int p1), (3, .int p2), (4, .ref t)] := hl
  refine lv_aload hx hb dL_owes_0 (lv_at hl 4 rfl) ?_
  refine lv_iconst (v := 0) hx hb dL_owes_2 (by decide) ?_
  refine lv_aload_n hx hb dL_owes_3 rfl (lv_at hl 0 rfl) ?_
  refine lv_iload_n hx hb dL_owes_4 rfl (lv_at hl 1 rfl) ?_
  refine lv_iload_n hx hb dL_owes_5 rfl (lv_at hl 2 rfl) ?_
  refine lv_iload_n hx hb dL_owes_6 rfl (lv_at hl 3 rfl) ?_
  refine hp_tVi ⟨hx, hb, hml, hown, hts⟩ (k_X9_owes l hst G z w _ x p0 p1 p2 _ _ hp) (cwV 3 hts gL_owes_X9_owes rfl rfl rfl (by decide +kernel) ⟨Nat.le_of_ble_eq_true rfl, Nat.le_of_ble_eq_true rfl⟩) hox (by decide) rfl hK h hA hE rfl hl.1 rfl (Nat.le_of_ble_eq_true rfl) dL_owes_7 ⟨Nat.le_of_ble_eq_true rfl, Nat.le_of_ble_eq_true rfl⟩ (fun k9 w1 H locs q9 ce hX h hce hcv hcl => ?_) (fun r1 w1 H locs hp h => ?_)
  · rcases hX with ⟨rfl, hp⟩
    · refine vx_catch (E := "java/lang/IndexOutOfBoundsException") (name := "java/lang/IndexOutOfBoundsException") hown [] ⟨0, 12, 15, 19⟩ [] htab (fun _ h9 => absurd h9 List.not_mem_nil) (by decide) (by decide) (hts _ wd_L_owes_19) (va_Nw.use rfl (hE.2.2.1 "java/lang/IndexOutOfBoundsException" (List.mem_of_getElem? (i := 0) rfl))) hce hcv hcl ?_
      refine lv_astore (lv' := [(5, .ref q9), (0, .ref x), (1, .int p0), (2, .int p1), (3, .int p2), (4, .ref t)]) hx hb dL_owes_15 hl (by decide) rfl (fun ls hl => ?_)
      refine lv_iconst (v := 1) hx hb dL_owes_17 (by decide) ?_
      exact hp_niret hx hb hr hlocks hK h hp dL_owes_18 (Nat.le_of_ble_eq_true rfl) (Nat.le_of_ble_eq_true rfl)
  · obtain ⟨hot, hp⟩ := hp
    refine lv_i2l hx hb dL_owes_10 rfl ?_
    refine hp_last hx hb hK h hot vp01 dL_owes_11 (fun H locs w2 ew2 h => ?_)
    have hp := hp w2 ew2
    refine lv_goto (tgt := 19) hx hb dL_owes_12 (by decide) ?_
    refine lv_iconst (v := 0) hx hb dL_owes_19 (by decide) ?_
    exact hp_niret hx hb hr hlocks hK h hp dL_owes_20 (Nat.le_of_ble_eq_true rfl) (Nat.le_of_ble_eq_true rfl)
abbrev rmL_pit : Room := { frames := 8, cells := 2, slots := 12, locals := 134 }
theorem wd_L_pit_13 : Cond.classLink RL 13 "java/lang/UnsupportedOperationException" ∈ wsL_pit := by decide +kernel
theorem wd_L_pit_19 : Cond.classLink RL 19 "java/lang/IndexOutOfBoundsException" ∈ wsL_pit := by decide +kernel
def wp_L_pit (z : Zt) (x : Nat) (p0 : Int32) (t : Nat) (w : Vt) (K : Int32 → Zt → Vt → Prop) : Prop := isO z 9 x ∧ isO z 3000 t ∧ wp_X9_pit z x p0 w (fun r1 z w1 => isO z 3000 t ∧ ∀ w2 : Vt, w2 = uL w1 3000 t (0 : Int32).toNatClampNeg r1.toInt64 → K 0 z w2) (fun k w1 => (k = 1 ∧ K 1 z w1) ∨ (k = 3 ∧ K 2 z w1))
set_option maxHeartbeats 4000000 in
set_option maxRecDepth 100000 in
theorem k_L_pit (l : Launch) (hst : l.stackTraces = false) (G : Gt) (z : Zt) (w : Vt) (sz : Nat) (x : Nat) (p0 : Int32) (t : Nat) (K : Int32 → Zt → Vt → Prop) (hp : wp_L_pit z x p0 t w K) : NI l yL_pit wsL_pit rmL_pit G z w sz [.ref x, .int p0, .ref t] K 2 12 := by
  refine met_ofWH (cc := cL_pit) (maxL := 4) (ret := some .int) (hh := [(0, 9, 12, 19), (0, 9, 15, 13)]) (by decide +kernel) rfl ?_
  intro p e s m args below meth c s₁ B hml hv
  obtain ⟨rfl, rfl, C, h⟩ := hp_start B hml hv
  generalize gA G z w s.heap.size = A at C h ⊢
  obtain ⟨hx, hb, hr, hlocks, hml, hown, hts, hK, hA, hE⟩ := id C
  have htab : c.exceptionTable.toList = [⟨0, 9, 12, 19⟩, ⟨0, 9, 15, 13⟩] := vx_table (x := yL_pit) B (hts _ List.mem_cons_self)
  obtain ⟨hox, hp⟩ := hp
  obtain ⟨hot, hp⟩ := hp
  have hl := lv_entry ([.ref x, .int p0, .ref t]) (n := 4) (Nat.le_of_ble_eq_true rfl)
  rw [lg_entry_eq]
  generalize (lg_sl ([.ref x, .int p0, .ref t]) ++ List.replicate (4 - (lg_sl ([.ref x, .int p0, .ref t])).length) Slot.unset).toArray = ls at hl ⊢
  have hl : lv_has ls 4 [(0, .ref x), (1, .int p0), (2, .ref t)] := hl
  refine lv_aload_n hx hb dL_pit_0 rfl (lv_at hl 2 rfl) ?_
  refine lv_iconst (v := 0) hx hb dL_pit_1 (by decide) ?_
  refine lv_aload_n hx hb dL_pit_2 rfl (lv_at hl 0 rfl) ?_
  refine lv_iload_n hx hb dL_pit_3 rfl (lv_at hl 1 rfl) ?_
  refine hp_tYi ⟨hx, hb, hml, hown, hts⟩ (k_X9_pit l hst G z w _ x p0 _ _ hp) (cwV 1 hts gL_pit_X9_pit rfl rfl rfl (by decide +kernel) ⟨Nat.le_of_ble_eq_true rfl, Nat.le_of_ble_eq_true rfl⟩) hox (by decide) rfl hK h hA hE rfl hl.1 rfl (Nat.le_of_ble_eq_true rfl) dL_pit_4 ⟨Nat.le_of_ble_eq_true rfl, Nat.le_of_ble_eq_true rfl⟩ (fun k9 w1 H locs q9 ce hX h hce hcv hcl => ?_) (fun r1 z w1 H locs hp h => ?_)
  · rcases hX with ⟨rfl, hp⟩ | ⟨rfl, hp⟩
    · refine vx_catch (E := "java/lang/IndexOutOfBoundsException") (name := "java/lang/IndexOutOfBoundsException") hown [] ⟨0, 9, 12, 19⟩ [⟨0, 9, 15, 13⟩] htab (fun _ h9 => absurd h9 List.not_mem_nil) (by decide) (by decide) (hts _ wd_L_pit_19) (va_Nw.use rfl (hE.2.2.1 "java/lang/IndexOutOfBoundsException" (List.mem_of_getElem? (i := 0) rfl))) hce hcv hcl ?_
      refine lv_astore_n (lv' := [(3, .ref q9), (0, .ref x), (1, .int p0), (2, .ref t)]) hx hb dL_pit_12 rfl hl (by decide) rfl (fun ls hl => ?_)
      refine lv_iconst (v := 1) hx hb dL_pit_13 (by decide) ?_
      exact hp_niret hx hb hr hlocks hK h hp dL_pit_14 (Nat.le_of_ble_eq_true rfl) (Nat.le_of_ble_eq_true rfl)
    · refine vx_catch (E := "java/lang/UnsupportedOperationException") (name := "java/lang/UnsupportedOperationException") hown [⟨0, 9, 12, 19⟩] ⟨0, 9, 15, 13⟩ [] htab (List.forall_mem_cons.mpr ⟨Or.inr ⟨by decide, "java/lang/IndexOutOfBoundsException", hts _ wd_L_pit_19, hE.2.2.2.2.2.2.2.2.2.2.2 ("java/lang/UnsupportedOperationException", "java/lang/IndexOutOfBoundsException") (List.mem_of_getElem? (i := 1) rfl)⟩, fun _ h9 => absurd h9 List.not_mem_nil⟩) (by decide) (by decide) (hts _ wd_L_pit_13) (va_Nw.use rfl (hE.2.2.1 "java/lang/UnsupportedOperationException" (List.mem_of_getElem? (i := 2) rfl))) hce hcv hcl ?_
      refine lv_astore_n (lv' := [(3, .ref q9), (0, .ref x), (1, .int p0), (2, .ref t)]) hx hb dL_pit_15 rfl hl (by decide) rfl (fun ls hl => ?_)
      refine lv_iconst (v := 2) hx hb dL_pit_16 (by decide) ?_
      exact hp_niret hx hb hr hlocks hK h hp dL_pit_17 (Nat.le_of_ble_eq_true rfl) (Nat.le_of_ble_eq_true rfl)
  · obtain ⟨hot, hp⟩ := hp
    refine lv_i2l hx hb dL_pit_7 rfl ?_
    refine hp_last hx hb hK h hot vp01 dL_pit_8 (fun H locs w2 ew2 h => ?_)
    have hp := hp w2 ew2
    refine lv_goto (tgt := 18) hx hb dL_pit_9 (by decide) ?_
    refine lv_iconst (v := 0) hx hb dL_pit_18 (by decide) ?_
    exact hp_niret hx hb hr hlocks hK h hp dL_pit_19 (Nat.le_of_ble_eq_true rfl) (Nat.le_of_ble_eq_true rfl)
abbrev rmL_light : Room := { frames := 8, cells := 2, slots := 12, locals := 135 }
theorem wd_L_light_19 : Cond.classLink RL 19 "java/lang/IndexOutOfBoundsException" ∈ wsL_light := by decide +kernel
theorem wd_L_light_21 : Cond.classLink RL 21 "java/lang/IllegalArgumentException" ∈ wsL_light := by decide +kernel
def wp_L_light (z : Zt) (x : Nat) (p0 : Int32) (p1 : Int32) (t : Nat) (w : Vt) (K : Int32 → Zt → Vt → Prop) : Prop := isO z 9 x ∧ isO z 3000 t ∧ wp_X9_light z x p0 p1 w (fun r1 w1 => isO z 3000 t ∧ (r1 = 0 → ∀ w2 : Vt, w2 = uL w1 3000 t (0 : Int32).toNatClampNeg 0 → K 0 z w2) ∧ (¬ r1 = 0 → ∀ w2 : Vt, w2 = uL w1 3000 t (0 : Int32).toNatClampNeg 1 → K 0 z w2)) (fun k w1 => (k = 1 ∧ K 1 z w1) ∨ (k = 2 ∧ K 2 z w1))
set_option maxHeartbeats 4000000 in
set_option maxRecDepth 100000 in
theorem k_L_light (l : Launch) (hst : l.stackTraces = false) (G : Gt) (z : Zt) (w : Vt) (sz : Nat) (x : Nat) (p0 : Int32) (p1 : Int32) (t : Nat) (K : Int32 → Zt → Vt → Prop) (hp : wp_L_light z x p0 p1 t w K) : NI l yL_light wsL_light rmL_light G z w sz [.ref x, .int p0, .int p1, .ref t] K 2 12 := by
  refine met_ofWH (cc := cL_light) (maxL := 5) (ret := some .int) (hh := [(0, 17, 20, 19), (0, 17, 24, 21)]) (by decide +kernel) rfl ?_
  intro p e s m args below meth c s₁ B hml hv
  obtain ⟨rfl, rfl, C, h⟩ := hp_start B hml hv
  generalize gA G z w s.heap.size = A at C h ⊢
  obtain ⟨hx, hb, hr, hlocks, hml, hown, hts, hK, hA, hE⟩ := id C
  have htab : c.exceptionTable.toList = [⟨0, 17, 20, 19⟩, ⟨0, 17, 24, 21⟩] := vx_table (x := yL_light) B (hts _ List.mem_cons_self)
  obtain ⟨hox, hp⟩ := hp
  obtain ⟨hot, hp⟩ := hp
  have hl := lv_entry ([.ref x, .int p0, .int p1, .ref t]) (n := 5) (Nat.le_of_ble_eq_true rfl)
  rw [lg_entry_eq]
  generalize (lg_sl ([.ref x, .int p0, .int p1, .ref t]) ++ List.replicate (5 - (lg_sl ([.ref x, .int p0, .int p1, .ref t])).length) Slot.unset).toArray = ls at hl ⊢
  have hl : lv_has ls 5 [(0, .ref x), (1, .int p0), (2, .int p1), (3, .ref t)] := hl
  refine lv_aload_n hx hb dL_light_0 rfl (lv_at hl 3 rfl) ?_
  refine lv_iconst (v := 0) hx hb dL_light_1 (by decide) ?_
  refine lv_aload_n hx hb dL_light_2 rfl (lv_at hl 0 rfl) ?_
  refine lv_iload_n hx hb dL_light_3 rfl (lv_at hl 1 rfl) ?_
  refine lv_iload_n hx hb dL_light_4 rfl (lv_at hl 2 rfl) ?_
  refine hp_tVi ⟨hx, hb, hml, hown, hts⟩ (k_X9_light l hst G z w _ x p0 p1 _ _ hp) (cwV 2 hts gL_light_X9_light rfl rfl rfl (by decide +kernel) ⟨Nat.le_of_ble_eq_true rfl, Nat.le_of_ble_eq_true rfl⟩) hox (by decide) rfl hK h hA hE rfl hl.1 rfl (Nat.le_of_ble_eq_true rfl) dL_light_5 ⟨Nat.le_of_ble_eq_true rfl, Nat.le_of_ble_eq_true rfl⟩ (fun k9 w1 H locs q9 ce hX h hce hcv hcl => ?_) (fun r1 w1 H locs hp h => ?_)
  · rcases hX with ⟨rfl, hp⟩ | ⟨rfl, hp⟩
    · refine vx_catch (E := "java/lang/IndexOutOfBoundsException") (name := "java/lang/IndexOutOfBoundsException") hown [] ⟨0, 17, 20, 19⟩ [⟨0, 17, 24, 21⟩] htab (fun _ h9 => absurd h9 List.not_mem_nil) (by decide) (by decide) (hts _ wd_L_light_19) (va_Nw.use rfl (hE.2.2.1 "java/lang/IndexOutOfBoundsException" (List.mem_of_getElem? (i := 0) rfl))) hce hcv hcl ?_
      refine lv_astore (lv' := [(4, .ref q9), (0, .ref x), (1, .int p0), (2, .int p1), (3, .ref t)]) hx hb dL_light_20 hl (by decide) rfl (fun ls hl => ?_)
      refine lv_iconst (v := 1) hx hb dL_light_22 (by decide) ?_
      exact hp_niret hx hb hr hlocks hK h hp dL_light_23 (Nat.le_of_ble_eq_true rfl) (Nat.le_of_ble_eq_true rfl)
    · refine vx_catch (E := "java/lang/IllegalArgumentException") (name := "java/lang/IllegalArgumentException") hown [⟨0, 17, 20, 19⟩] ⟨0, 17, 24, 21⟩ [] htab (List.forall_mem_cons.mpr ⟨Or.inr ⟨by decide, "java/lang/IndexOutOfBoundsException", hts _ wd_L_light_19, hE.2.2.2.2.2.2.2.2.2.2.2 ("java/lang/IllegalArgumentException", "java/lang/IndexOutOfBoundsException") (List.mem_of_getElem? (i := 0) rfl)⟩, fun _ h9 => absurd h9 List.not_mem_nil⟩) (by decide) (by decide) (hts _ wd_L_light_21) (va_Nw.use rfl (hE.2.2.1 "java/lang/IllegalArgumentException" (List.mem_of_getElem? (i := 1) rfl))) hce hcv hcl ?_
      refine lv_astore (lv' := [(4, .ref q9), (0, .ref x), (1, .int p0), (2, .int p1), (3, .ref t)]) hx hb dL_light_24 hl (by decide) rfl (fun ls hl => ?_)
      refine lv_iconst (v := 2) hx hb dL_light_26 (by decide) ?_
      exact hp_niret hx hb hr hlocks hK h hp dL_light_27 (Nat.le_of_ble_eq_true rfl) (Nat.le_of_ble_eq_true rfl)
  · obtain ⟨hot, hp⟩ := hp
    refine lv_if_eq (tgt := 15) hx hb dL_light_8 (by decide) (fun hc => ?_) (fun hc => ?_)
    · have hp := hp.1 hc
      refine lv_lconst (v := 0) hx hb dL_light_15 (by decide) ?_
      refine hp_last hx hb hK h hot vp01 dL_light_16 (fun H locs w2 ew2 h => ?_)
      have hp := hp w2 ew2
      refine lv_goto (tgt := 28) hx hb dL_light_17 (by decide) ?_
      refine lv_iconst (v := 0) hx hb dL_light_28 (by decide) ?_
      exact hp_niret hx hb hr hlocks hK h hp dL_light_29 (Nat.le_of_ble_eq_true rfl) (Nat.le_of_ble_eq_true rfl)
    · have hp := hp.2 hc
      refine lv_lconst (v := 1) hx hb dL_light_11 (by decide) ?_
      refine lv_goto (tgt := 16) hx hb dL_light_12 (by decide) ?_
      refine hp_last hx hb hK h hot vp01 dL_light_16 (fun H locs w2 ew2 h => ?_)
      have hp := hp w2 ew2
      refine lv_goto (tgt := 28) hx hb dL_light_17 (by decide) ?_
      refine lv_iconst (v := 0) hx hb dL_light_28 (by decide) ?_
      exact hp_niret hx hb hr hlocks hK h hp dL_light_29 (Nat.le_of_ble_eq_true rfl) (Nat.le_of_ble_eq_true rfl)
abbrev rmL_burns : Room := { frames := 8, cells := 1, slots := 6, locals := 133 }
theorem wd_L_burns_19 : Cond.classLink RL 19 "java/lang/IndexOutOfBoundsException" ∈ wsL_burns := by decide +kernel
def wp_L_burns (z : Zt) (x : Nat) (p0 : Int32) (t : Nat) (w : Vt) (K : Int32 → Zt → Vt → Prop) : Prop := isO z 9 x ∧ isO z 3000 t ∧ wp_X9_burns z x p0 w (fun r1 w1 => isO z 3000 t ∧ ∀ w2 : Vt, w2 = uL w1 3000 t (0 : Int32).toNatClampNeg r1.toInt64 → K 0 z w2) (fun k w1 => (k = 1 ∧ K 1 z w1))
set_option maxHeartbeats 4000000 in
set_option maxRecDepth 100000 in
theorem k_L_burns (l : Launch) (hst : l.stackTraces = false) (G : Gt) (z : Zt) (w : Vt) (sz : Nat) (x : Nat) (p0 : Int32) (t : Nat) (K : Int32 → Zt → Vt → Prop) (hp : wp_L_burns z x p0 t w K) : NI l yL_burns wsL_burns rmL_burns G z w sz [.ref x, .int p0, .ref t] K 1 6 := by
  refine met_ofWH (cc := cL_burns) (maxL := 4) (ret := some .int) (hh := [(0, 9, 12, 19)]) (by decide +kernel) rfl ?_
  intro p e s m args below meth c s₁ B hml hv
  obtain ⟨rfl, rfl, C, h⟩ := hp_start B hml hv
  generalize gA G z w s.heap.size = A at C h ⊢
  obtain ⟨hx, hb, hr, hlocks, hml, hown, hts, hK, hA, hE⟩ := id C
  have htab : c.exceptionTable.toList = [⟨0, 9, 12, 19⟩] := vx_table (x := yL_burns) B (hts _ List.mem_cons_self)
  obtain ⟨hox, hp⟩ := hp
  obtain ⟨hot, hp⟩ := hp
  have hl := lv_entry ([.ref x, .int p0, .ref t]) (n := 4) (Nat.le_of_ble_eq_true rfl)
  rw [lg_entry_eq]
  generalize (lg_sl ([.ref x, .int p0, .ref t]) ++ List.replicate (4 - (lg_sl ([.ref x, .int p0, .ref t])).length) Slot.unset).toArray = ls at hl ⊢
  have hl : lv_has ls 4 [(0, .ref x), (1, .int p0), (2, .ref t)] := hl
  refine lv_aload_n hx hb dL_burns_0 rfl (lv_at hl 2 rfl) ?_
  refine lv_iconst (v := 0) hx hb dL_burns_1 (by decide) ?_
  refine lv_aload_n hx hb dL_burns_2 rfl (lv_at hl 0 rfl) ?_
  refine lv_iload_n hx hb dL_burns_3 rfl (lv_at hl 1 rfl) ?_
  refine hp_tVi ⟨hx, hb, hml, hown, hts⟩ (k_X9_burns l hst G z w _ x p0 _ _ hp) (cwV 1 hts gL_burns_X9_burns rfl rfl rfl (by decide +kernel) ⟨Nat.le_of_ble_eq_true rfl, Nat.le_of_ble_eq_true rfl⟩) hox (by decide) rfl hK h hA hE rfl hl.1 rfl (Nat.le_of_ble_eq_true rfl) dL_burns_4 ⟨Nat.le_of_ble_eq_true rfl, Nat.le_of_ble_eq_true rfl⟩ (fun k9 w1 H locs q9 ce hX h hce hcv hcl => ?_) (fun r1 w1 H locs hp h => ?_)
  · rcases hX with ⟨rfl, hp⟩
    · refine vx_catch (E := "java/lang/IndexOutOfBoundsException") (name := "java/lang/IndexOutOfBoundsException") hown [] ⟨0, 9, 12, 19⟩ [] htab (fun _ h9 => absurd h9 List.not_mem_nil) (by decide) (by decide) (hts _ wd_L_burns_19) (va_Nw.use rfl (hE.2.2.1 "java/lang/IndexOutOfBoundsException" (List.mem_of_getElem? (i := 0) rfl))) hce hcv hcl ?_
      refine lv_astore_n (lv' := [(3, .ref q9), (0, .ref x), (1, .int p0), (2, .ref t)]) hx hb dL_burns_12 rfl hl (by decide) rfl (fun ls hl => ?_)
      refine lv_iconst (v := 1) hx hb dL_burns_13 (by decide) ?_
      exact hp_niret hx hb hr hlocks hK h hp dL_burns_14 (Nat.le_of_ble_eq_true rfl) (Nat.le_of_ble_eq_true rfl)
  · obtain ⟨hot, hp⟩ := hp
    refine lv_i2l hx hb dL_burns_7 rfl ?_
    refine hp_last hx hb hK h hot vp01 dL_burns_8 (fun H locs w2 ew2 h => ?_)
    have hp := hp w2 ew2
    refine lv_goto (tgt := 15) hx hb dL_burns_9 (by decide) ?_
    refine lv_iconst (v := 0) hx hb dL_burns_15 (by decide) ?_
    exact hp_niret hx hb hr hlocks hK h hp dL_burns_16 (Nat.le_of_ble_eq_true rfl) (Nat.le_of_ble_eq_true rfl)
abbrev rmL_sell : Room := { frames := 8, cells := 4, slots := 23, locals := 145 }
theorem wd_L_sell_19 : Cond.classLink RL 19 "java/lang/IndexOutOfBoundsException" ∈ wsL_sell := by decide +kernel
theorem wd_L_sell_21 : Cond.classLink RL 21 "java/lang/IllegalArgumentException" ∈ wsL_sell := by decide +kernel
def wp_L_sell (z : Zt) (x : Nat) (p0 : Int32) (p1 : Int32) (p2 : Int32) (p3 : Int32) (p4 : Int32) (p5 : Int32) (p6 : Int32) (p7 : Int32) (t : Nat) (w : Vt) (K : Int32 → Zt → Vt → Prop) : Prop := isO z 9 x ∧ isO z 3000 t ∧ wp_X9_sell z x p0 p1 p2 p3 p4 p5 p6 p7 w (fun r1 z w1 => isO z 3000 t ∧ ∀ w2 : Vt, w2 = uL w1 3000 t (0 : Int32).toNatClampNeg r1.toInt64 → K 0 z w2) (fun k w1 => (k = 1 ∧ K 1 z w1) ∨ (k = 2 ∧ K 2 z w1))
set_option maxHeartbeats 4000000 in
set_option maxRecDepth 100000 in
theorem k_L_sell (l : Launch) (hst : l.stackTraces = false) (G : Gt) (z : Zt) (w : Vt) (sz : Nat) (x : Nat) (p0 : Int32) (p1 : Int32) (p2 : Int32) (p3 : Int32) (p4 : Int32) (p5 : Int32) (p6 : Int32) (p7 : Int32) (t : Nat) (K : Int32 → Zt → Vt → Prop) (hp : wp_L_sell z x p0 p1 p2 p3 p4 p5 p6 p7 t w K) : NI l yL_sell wsL_sell rmL_sell G z w sz [.ref x, .int p0, .int p1, .int p2, .int p3, .int p4, .int p5, .int p6, .int p7, .ref t] K 4 23 := by
  refine met_ofWH (cc := cL_sell) (maxL := 11) (ret := some .int) (hh := [(0, 22, 25, 19), (0, 22, 29, 21)]) (by decide +kernel) rfl ?_
  intro p e s m args below meth c s₁ B hml hv
  obtain ⟨rfl, rfl, C, h⟩ := hp_start B hml hv
  generalize gA G z w s.heap.size = A at C h ⊢
  obtain ⟨hx, hb, hr, hlocks, hml, hown, hts, hK, hA, hE⟩ := id C
  have htab : c.exceptionTable.toList = [⟨0, 22, 25, 19⟩, ⟨0, 22, 29, 21⟩] := vx_table (x := yL_sell) B (hts _ List.mem_cons_self)
  obtain ⟨hox, hp⟩ := hp
  obtain ⟨hot, hp⟩ := hp
  have hl := lv_entry ([.ref x, .int p0, .int p1, .int p2, .int p3, .int p4, .int p5, .int p6, .int p7, .ref t]) (n := 11) (Nat.le_of_ble_eq_true rfl)
  rw [lg_entry_eq]
  generalize (lg_sl ([.ref x, .int p0, .int p1, .int p2, .int p3, .int p4, .int p5, .int p6, .int p7, .ref t]) ++ List.replicate (11 - (lg_sl ([.ref x, .int p0, .int p1, .int p2, .int p3, .int p4, .int p5, .int p6, .int p7, .ref t])).length) Slot.unset).toArray = ls at hl ⊢
  have hl : lv_has ls 11 [(0, .ref x), (1, .int p0), (2, .int p1), (3, .int p2), (4, .int p3), (5, .int p4), (6, .int p5), (7, .int p6), (8, .int p7), (9, .ref t)] := hl
  refine lv_aload hx hb dL_sell_0 (lv_at hl 9 rfl) ?_
  refine lv_iconst (v := 0) hx hb dL_sell_2 (by decide) ?_
  refine lv_aload_n hx hb dL_sell_3 rfl (lv_at hl 0 rfl) ?_
  refine lv_iload_n hx hb dL_sell_4 rfl (lv_at hl 1 rfl) ?_
  refine lv_iload_n hx hb dL_sell_5 rfl (lv_at hl 2 rfl) ?_
  refine lv_iload_n hx hb dL_sell_6 rfl (lv_at hl 3 rfl) ?_
  refine lv_iload hx hb dL_sell_7 (lv_at hl 4 rfl) ?_
  refine lv_iload hx hb dL_sell_9 (lv_at hl 5 rfl) ?_
  refine lv_iload hx hb dL_sell_11 (lv_at hl 6 rfl) ?_
  refine lv_iload hx hb dL_sell_13 (lv_at hl 7 rfl) ?_
  refine lv_iload hx hb dL_sell_15 (lv_at hl 8 rfl) ?_
  refine hp_tYi ⟨hx, hb, hml, hown, hts⟩ (k_X9_sell l hst G z w _ x p0 p1 p2 p3 p4 p5 p6 p7 _ _ hp) (cwV 8 hts gL_sell_X9_sell rfl rfl rfl (by decide +kernel) ⟨Nat.le_of_ble_eq_true rfl, Nat.le_of_ble_eq_true rfl⟩) hox (by decide) rfl hK h hA hE rfl hl.1 rfl (Nat.le_of_ble_eq_true rfl) dL_sell_17 ⟨Nat.le_of_ble_eq_true rfl, Nat.le_of_ble_eq_true rfl⟩ (fun k9 w1 H locs q9 ce hX h hce hcv hcl => ?_) (fun r1 z w1 H locs hp h => ?_)
  · rcases hX with ⟨rfl, hp⟩ | ⟨rfl, hp⟩
    · refine vx_catch (E := "java/lang/IndexOutOfBoundsException") (name := "java/lang/IndexOutOfBoundsException") hown [] ⟨0, 22, 25, 19⟩ [⟨0, 22, 29, 21⟩] htab (fun _ h9 => absurd h9 List.not_mem_nil) (by decide) (by decide) (hts _ wd_L_sell_19) (va_Nw.use rfl (hE.2.2.1 "java/lang/IndexOutOfBoundsException" (List.mem_of_getElem? (i := 0) rfl))) hce hcv hcl ?_
      refine lv_astore (lv' := [(10, .ref q9), (0, .ref x), (1, .int p0), (2, .int p1), (3, .int p2), (4, .int p3), (5, .int p4), (6, .int p5), (7, .int p6), (8, .int p7), (9, .ref t)]) hx hb dL_sell_25 hl (by decide) rfl (fun ls hl => ?_)
      refine lv_iconst (v := 1) hx hb dL_sell_27 (by decide) ?_
      exact hp_niret hx hb hr hlocks hK h hp dL_sell_28 (Nat.le_of_ble_eq_true rfl) (Nat.le_of_ble_eq_true rfl)
    · refine vx_catch (E := "java/lang/IllegalArgumentException") (name := "java/lang/IllegalArgumentException") hown [⟨0, 22, 25, 19⟩] ⟨0, 22, 29, 21⟩ [] htab (List.forall_mem_cons.mpr ⟨Or.inr ⟨by decide, "java/lang/IndexOutOfBoundsException", hts _ wd_L_sell_19, hE.2.2.2.2.2.2.2.2.2.2.2 ("java/lang/IllegalArgumentException", "java/lang/IndexOutOfBoundsException") (List.mem_of_getElem? (i := 0) rfl)⟩, fun _ h9 => absurd h9 List.not_mem_nil⟩) (by decide) (by decide) (hts _ wd_L_sell_21) (va_Nw.use rfl (hE.2.2.1 "java/lang/IllegalArgumentException" (List.mem_of_getElem? (i := 1) rfl))) hce hcv hcl ?_
      refine lv_astore (lv' := [(10, .ref q9), (0, .ref x), (1, .int p0), (2, .int p1), (3, .int p2), (4, .int p3), (5, .int p4), (6, .int p5), (7, .int p6), (8, .int p7), (9, .ref t)]) hx hb dL_sell_29 hl (by decide) rfl (fun ls hl => ?_)
      refine lv_iconst (v := 2) hx hb dL_sell_31 (by decide) ?_
      exact hp_niret hx hb hr hlocks hK h hp dL_sell_32 (Nat.le_of_ble_eq_true rfl) (Nat.le_of_ble_eq_true rfl)
  · obtain ⟨hot, hp⟩ := hp
    refine lv_i2l hx hb dL_sell_20 rfl ?_
    refine hp_last hx hb hK h hot vp01 dL_sell_21 (fun H locs w2 ew2 h => ?_)
    have hp := hp w2 ew2
    refine lv_goto (tgt := 33) hx hb dL_sell_22 (by decide) ?_
    refine lv_iconst (v := 0) hx hb dL_sell_33 (by decide) ?_
    exact hp_niret hx hb hr hlocks hK h hp dL_sell_34 (Nat.le_of_ble_eq_true rfl) (Nat.le_of_ble_eq_true rfl)
abbrev rmL_lot : Room := { frames := 8, cells := 2, slots := 12, locals := 135 }
theorem wd_L_lot_19 : Cond.classLink RL 19 "java/lang/IndexOutOfBoundsException" ∈ wsL_lot := by decide +kernel
theorem wd_L_lot_47 : Cond.classLink RL 47 "java/util/NoSuchElementException" ∈ wsL_lot := by decide +kernel
def wp_L_lot (z : Zt) (x : Nat) (p0 : Int32) (p1 : Int32) (t : Nat) (w : Vt) (K : Int32 → Zt → Vt → Prop) : Prop := isO z 9 x ∧ isO z 3000 t ∧ wp_X9_lot z x p0 p1 w (fun r1 w1 => isO z 3000 t ∧ ∀ w2 : Vt, w2 = uL w1 3000 t (0 : Int32).toNatClampNeg r1.toInt64 → K 0 z w2) (fun k w1 => (k = 1 ∧ K 1 z w1) ∨ (k = 4 ∧ K 2 z w1))
set_option maxHeartbeats 4000000 in
set_option maxRecDepth 100000 in
theorem k_L_lot (l : Launch) (hst : l.stackTraces = false) (G : Gt) (z : Zt) (w : Vt) (sz : Nat) (x : Nat) (p0 : Int32) (p1 : Int32) (t : Nat) (K : Int32 → Zt → Vt → Prop) (hp : wp_L_lot z x p0 p1 t w K) : NI l yL_lot wsL_lot rmL_lot G z w sz [.ref x, .int p0, .int p1, .ref t] K 2 12 := by
  refine met_ofWH (cc := cL_lot) (maxL := 5) (ret := some .int) (hh := [(0, 10, 13, 19), (0, 10, 17, 47)]) (by decide +kernel) rfl ?_
  intro p e s m args below meth c s₁ B hml hv
  obtain ⟨rfl, rfl, C, h⟩ := hp_start B hml hv
  generalize gA G z w s.heap.size = A at C h ⊢
  obtain ⟨hx, hb, hr, hlocks, hml, hown, hts, hK, hA, hE⟩ := id C
  have htab : c.exceptionTable.toList = [⟨0, 10, 13, 19⟩, ⟨0, 10, 17, 47⟩] := vx_table (x := yL_lot) B (hts _ List.mem_cons_self)
  obtain ⟨hox, hp⟩ := hp
  obtain ⟨hot, hp⟩ := hp
  have hl := lv_entry ([.ref x, .int p0, .int p1, .ref t]) (n := 5) (Nat.le_of_ble_eq_true rfl)
  rw [lg_entry_eq]
  generalize (lg_sl ([.ref x, .int p0, .int p1, .ref t]) ++ List.replicate (5 - (lg_sl ([.ref x, .int p0, .int p1, .ref t])).length) Slot.unset).toArray = ls at hl ⊢
  have hl : lv_has ls 5 [(0, .ref x), (1, .int p0), (2, .int p1), (3, .ref t)] := hl
  refine lv_aload_n hx hb dL_lot_0 rfl (lv_at hl 3 rfl) ?_
  refine lv_iconst (v := 0) hx hb dL_lot_1 (by decide) ?_
  refine lv_aload_n hx hb dL_lot_2 rfl (lv_at hl 0 rfl) ?_
  refine lv_iload_n hx hb dL_lot_3 rfl (lv_at hl 1 rfl) ?_
  refine lv_iload_n hx hb dL_lot_4 rfl (lv_at hl 2 rfl) ?_
  refine hp_tVi ⟨hx, hb, hml, hown, hts⟩ (k_X9_lot l hst G z w _ x p0 p1 _ _ hp) (cwV 2 hts gL_lot_X9_lot rfl rfl rfl (by decide +kernel) ⟨Nat.le_of_ble_eq_true rfl, Nat.le_of_ble_eq_true rfl⟩) hox (by decide) rfl hK h hA hE rfl hl.1 rfl (Nat.le_of_ble_eq_true rfl) dL_lot_5 ⟨Nat.le_of_ble_eq_true rfl, Nat.le_of_ble_eq_true rfl⟩ (fun k9 w1 H locs q9 ce hX h hce hcv hcl => ?_) (fun r1 w1 H locs hp h => ?_)
  · rcases hX with ⟨rfl, hp⟩ | ⟨rfl, hp⟩
    · refine vx_catch (E := "java/lang/IndexOutOfBoundsException") (name := "java/lang/IndexOutOfBoundsException") hown [] ⟨0, 10, 13, 19⟩ [⟨0, 10, 17, 47⟩] htab (fun _ h9 => absurd h9 List.not_mem_nil) (by decide) (by decide) (hts _ wd_L_lot_19) (va_Nw.use rfl (hE.2.2.1 "java/lang/IndexOutOfBoundsException" (List.mem_of_getElem? (i := 0) rfl))) hce hcv hcl ?_
      refine lv_astore (lv' := [(4, .ref q9), (0, .ref x), (1, .int p0), (2, .int p1), (3, .ref t)]) hx hb dL_lot_13 hl (by decide) rfl (fun ls hl => ?_)
      refine lv_iconst (v := 1) hx hb dL_lot_15 (by decide) ?_
      exact hp_niret hx hb hr hlocks hK h hp dL_lot_16 (Nat.le_of_ble_eq_true rfl) (Nat.le_of_ble_eq_true rfl)
    · refine vx_catch (E := "java/util/NoSuchElementException") (name := "java/util/NoSuchElementException") hown [⟨0, 10, 13, 19⟩] ⟨0, 10, 17, 47⟩ [] htab (List.forall_mem_cons.mpr ⟨Or.inr ⟨by decide, "java/lang/IndexOutOfBoundsException", hts _ wd_L_lot_19, hE.2.2.2.2.2.2.2.2.2.2.2 ("java/util/NoSuchElementException", "java/lang/IndexOutOfBoundsException") (List.mem_of_getElem? (i := 3) rfl)⟩, fun _ h9 => absurd h9 List.not_mem_nil⟩) (by decide) (by decide) (hts _ wd_L_lot_47) (va_Nw.use rfl (hE.2.2.1 "java/util/NoSuchElementException" (List.mem_of_getElem? (i := 3) rfl))) hce hcv hcl ?_
      refine lv_astore (lv' := [(4, .ref q9), (0, .ref x), (1, .int p0), (2, .int p1), (3, .ref t)]) hx hb dL_lot_17 hl (by decide) rfl (fun ls hl => ?_)
      refine lv_iconst (v := 2) hx hb dL_lot_19 (by decide) ?_
      exact hp_niret hx hb hr hlocks hK h hp dL_lot_20 (Nat.le_of_ble_eq_true rfl) (Nat.le_of_ble_eq_true rfl)
  · obtain ⟨hot, hp⟩ := hp
    refine lv_i2l hx hb dL_lot_8 rfl ?_
    refine hp_last hx hb hK h hot vp01 dL_lot_9 (fun H locs w2 ew2 h => ?_)
    have hp := hp w2 ew2
    refine lv_goto (tgt := 21) hx hb dL_lot_10 (by decide) ?_
    refine lv_iconst (v := 0) hx hb dL_lot_21 (by decide) ?_
    exact hp_niret hx hb hr hlocks hK h hp dL_lot_22 (Nat.le_of_ble_eq_true rfl) (Nat.le_of_ble_eq_true rfl)
abbrev rmL_enter : Room := { frames := 8, cells := 2, slots := 12, locals := 135 }
theorem wd_L_enter_19 : Cond.classLink RL 19 "java/lang/IndexOutOfBoundsException" ∈ wsL_enter := by decide +kernel
theorem wd_L_enter_21 : Cond.classLink RL 21 "java/lang/IllegalArgumentException" ∈ wsL_enter := by decide +kernel
def wp_L_enter (z : Zt) (x : Nat) (p0 : Int32) (p1 : Int32) (p2 : Int32) (t : Nat) (w : Vt) (K : Int32 → Zt → Vt → Prop) : Prop := isO z 9 x ∧ isO z 3000 t ∧ wp_X9_enter z x p0 p1 p2 w (fun r1 w1 => isO z 3000 t ∧ ∀ w2 : Vt, w2 = uL w1 3000 t (0 : Int32).toNatClampNeg r1.toInt64 → K 0 z w2) (fun k w1 => (k = 1 ∧ K 1 z w1) ∨ (k = 2 ∧ K 2 z w1))
set_option maxHeartbeats 4000000 in
set_option maxRecDepth 100000 in
theorem k_L_enter (l : Launch) (hst : l.stackTraces = false) (G : Gt) (z : Zt) (w : Vt) (sz : Nat) (x : Nat) (p0 : Int32) (p1 : Int32) (p2 : Int32) (t : Nat) (K : Int32 → Zt → Vt → Prop) (hp : wp_L_enter z x p0 p1 p2 t w K) : NI l yL_enter wsL_enter rmL_enter G z w sz [.ref x, .int p0, .int p1, .int p2, .ref t] K 2 12 := by
  refine met_ofWH (cc := cL_enter) (maxL := 6) (ret := some .int) (hh := [(0, 12, 15, 19), (0, 12, 19, 21)]) (by decide +kernel) rfl ?_
  intro p e s m args below meth c s₁ B hml hv
  obtain ⟨rfl, rfl, C, h⟩ := hp_start B hml hv
  generalize gA G z w s.heap.size = A at C h ⊢
  obtain ⟨hx, hb, hr, hlocks, hml, hown, hts, hK, hA, hE⟩ := id C
  have htab : c.exceptionTable.toList = [⟨0, 12, 15, 19⟩, ⟨0, 12, 19, 21⟩] := vx_table (x := yL_enter) B (hts _ List.mem_cons_self)
  obtain ⟨hox, hp⟩ := hp
  obtain ⟨hot, hp⟩ := hp
  have hl := lv_entry ([.ref x, .int p0, .int p1, .int p2, .ref t]) (n := 6) (Nat.le_of_ble_eq_true rfl)
  rw [lg_entry_eq]
  generalize (lg_sl ([.ref x, .int p0, .int p1, .int p2, .ref t]) ++ List.replicate (6 - (lg_sl ([.ref x, .int p0, .int p1, .int p2, .ref t])).length) Slot.unset).toArray = ls at hl ⊢
  have hl : lv_has ls 6 [(0, .ref x), (1, .int p0), (2, .int p1), (3, .int p2), (4, .ref t)] := hl
  refine lv_aload hx hb dL_enter_0 (lv_at hl 4 rfl) ?_
  refine lv_iconst (v := 0) hx hb dL_enter_2 (by decide) ?_
  refine lv_aload_n hx hb dL_enter_3 rfl (lv_at hl 0 rfl) ?_
  refine lv_iload_n hx hb dL_enter_4 rfl (lv_at hl 1 rfl) ?_
  refine lv_iload_n hx hb dL_enter_5 rfl (lv_at hl 2 rfl) ?_
  refine lv_iload_n hx hb dL_enter_6 rfl (lv_at hl 3 rfl) ?_
  refine hp_tVi ⟨hx, hb, hml, hown, hts⟩ (k_X9_enter l hst G z w _ x p0 p1 p2 _ _ hp) (cwV 3 hts gL_enter_X9_enter rfl rfl rfl (by decide +kernel) ⟨Nat.le_of_ble_eq_true rfl, Nat.le_of_ble_eq_true rfl⟩) hox (by decide) rfl hK h hA hE rfl hl.1 rfl (Nat.le_of_ble_eq_true rfl) dL_enter_7 ⟨Nat.le_of_ble_eq_true rfl, Nat.le_of_ble_eq_true rfl⟩ (fun k9 w1 H locs q9 ce hX h hce hcv hcl => ?_) (fun r1 w1 H locs hp h => ?_)
  · rcases hX with ⟨rfl, hp⟩ | ⟨rfl, hp⟩
    · refine vx_catch (E := "java/lang/IndexOutOfBoundsException") (name := "java/lang/IndexOutOfBoundsException") hown [] ⟨0, 12, 15, 19⟩ [⟨0, 12, 19, 21⟩] htab (fun _ h9 => absurd h9 List.not_mem_nil) (by decide) (by decide) (hts _ wd_L_enter_19) (va_Nw.use rfl (hE.2.2.1 "java/lang/IndexOutOfBoundsException" (List.mem_of_getElem? (i := 0) rfl))) hce hcv hcl ?_
      refine lv_astore (lv' := [(5, .ref q9), (0, .ref x), (1, .int p0), (2, .int p1), (3, .int p2), (4, .ref t)]) hx hb dL_enter_15 hl (by decide) rfl (fun ls hl => ?_)
      refine lv_iconst (v := 1) hx hb dL_enter_17 (by decide) ?_
      exact hp_niret hx hb hr hlocks hK h hp dL_enter_18 (Nat.le_of_ble_eq_true rfl) (Nat.le_of_ble_eq_true rfl)
    · refine vx_catch (E := "java/lang/IllegalArgumentException") (name := "java/lang/IllegalArgumentException") hown [⟨0, 12, 15, 19⟩] ⟨0, 12, 19, 21⟩ [] htab (List.forall_mem_cons.mpr ⟨Or.inr ⟨by decide, "java/lang/IndexOutOfBoundsException", hts _ wd_L_enter_19, hE.2.2.2.2.2.2.2.2.2.2.2 ("java/lang/IllegalArgumentException", "java/lang/IndexOutOfBoundsException") (List.mem_of_getElem? (i := 0) rfl)⟩, fun _ h9 => absurd h9 List.not_mem_nil⟩) (by decide) (by decide) (hts _ wd_L_enter_21) (va_Nw.use rfl (hE.2.2.1 "java/lang/IllegalArgumentException" (List.mem_of_getElem? (i := 1) rfl))) hce hcv hcl ?_
      refine lv_astore (lv' := [(5, .ref q9), (0, .ref x), (1, .int p0), (2, .int p1), (3, .int p2), (4, .ref t)]) hx hb dL_enter_19 hl (by decide) rfl (fun ls hl => ?_)
      refine lv_iconst (v := 2) hx hb dL_enter_21 (by decide) ?_
      exact hp_niret hx hb hr hlocks hK h hp dL_enter_22 (Nat.le_of_ble_eq_true rfl) (Nat.le_of_ble_eq_true rfl)
  · obtain ⟨hot, hp⟩ := hp
    refine lv_i2l hx hb dL_enter_10 rfl ?_
    refine hp_last hx hb hK h hot vp01 dL_enter_11 (fun H locs w2 ew2 h => ?_)
    have hp := hp w2 ew2
    refine lv_goto (tgt := 23) hx hb dL_enter_12 (by decide) ?_
    refine lv_iconst (v := 0) hx hb dL_enter_23 (by decide) ?_
    exact hp_niret hx hb hr hlocks hK h hp dL_enter_24 (Nat.le_of_ble_eq_true rfl) (Nat.le_of_ble_eq_true rfl)
abbrev rmL_undo : Room := { frames := 7, cells := 1, slots := 6, locals := 111 }
theorem wd_L_undo_19 : Cond.classLink RL 19 "java/lang/IndexOutOfBoundsException" ∈ wsL_undo := by decide +kernel
def wp_L_undo (z : Zt) (x : Nat) (p0 : Int32) (t : Nat) (w : Vt) (K : Int32 → Zt → Vt → Prop) : Prop := isO z 9 x ∧ isO z 3000 t ∧ wp_X9_undo z x p0 w (fun r1 w1 => isO z 3000 t ∧ (r1 = 0 → ∀ w2 : Vt, w2 = uL w1 3000 t (0 : Int32).toNatClampNeg 0 → K 0 z w2) ∧ (¬ r1 = 0 → ∀ w2 : Vt, w2 = uL w1 3000 t (0 : Int32).toNatClampNeg 1 → K 0 z w2)) (fun k w1 => (k = 1 ∧ K 1 z w1))
set_option maxHeartbeats 4000000 in
set_option maxRecDepth 100000 in
theorem k_L_undo (l : Launch) (hst : l.stackTraces = false) (G : Gt) (z : Zt) (w : Vt) (sz : Nat) (x : Nat) (p0 : Int32) (t : Nat) (K : Int32 → Zt → Vt → Prop) (hp : wp_L_undo z x p0 t w K) : NI l yL_undo wsL_undo rmL_undo G z w sz [.ref x, .int p0, .ref t] K 1 6 := by
  refine met_ofWH (cc := cL_undo) (maxL := 4) (ret := some .int) (hh := [(0, 16, 19, 19)]) (by decide +kernel) rfl ?_
  intro p e s m args below meth c s₁ B hml hv
  obtain ⟨rfl, rfl, C, h⟩ := hp_start B hml hv
  generalize gA G z w s.heap.size = A at C h ⊢
  obtain ⟨hx, hb, hr, hlocks, hml, hown, hts, hK, hA, hE⟩ := id C
  have htab : c.exceptionTable.toList = [⟨0, 16, 19, 19⟩] := vx_table (x := yL_undo) B (hts _ List.mem_cons_self)
  obtain ⟨hox, hp⟩ := hp
  obtain ⟨hot, hp⟩ := hp
  have hl := lv_entry ([.ref x, .int p0, .ref t]) (n := 4) (Nat.le_of_ble_eq_true rfl)
  rw [lg_entry_eq]
  generalize (lg_sl ([.ref x, .int p0, .ref t]) ++ List.replicate (4 - (lg_sl ([.ref x, .int p0, .ref t])).length) Slot.unset).toArray = ls at hl ⊢
  have hl : lv_has ls 4 [(0, .ref x), (1, .int p0), (2, .ref t)] := hl
  refine lv_aload_n hx hb dL_undo_0 rfl (lv_at hl 2 rfl) ?_
  refine lv_iconst (v := 0) hx hb dL_undo_1 (by decide) ?_
  refine lv_aload_n hx hb dL_undo_2 rfl (lv_at hl 0 rfl) ?_
  refine lv_iload_n hx hb dL_undo_3 rfl (lv_at hl 1 rfl) ?_
  refine hp_tVi ⟨hx, hb, hml, hown, hts⟩ (k_X9_undo l hst G z w _ x p0 _ _ hp) (cwV 1 hts gL_undo_X9_undo rfl rfl rfl (by decide +kernel) ⟨Nat.le_of_ble_eq_true rfl, Nat.le_of_ble_eq_true rfl⟩) hox (by decide) rfl hK h hA hE rfl hl.1 rfl (Nat.le_of_ble_eq_true rfl) dL_undo_4 ⟨Nat.le_of_ble_eq_true rfl, Nat.le_of_ble_eq_true rfl⟩ (fun k9 w1 H locs q9 ce hX h hce hcv hcl => ?_) (fun r1 w1 H locs hp h => ?_)
  · rcases hX with ⟨rfl, hp⟩
    · refine vx_catch (E := "java/lang/IndexOutOfBoundsException") (name := "java/lang/IndexOutOfBoundsException") hown [] ⟨0, 16, 19, 19⟩ [] htab (fun _ h9 => absurd h9 List.not_mem_nil) (by decide) (by decide) (hts _ wd_L_undo_19) (va_Nw.use rfl (hE.2.2.1 "java/lang/IndexOutOfBoundsException" (List.mem_of_getElem? (i := 0) rfl))) hce hcv hcl ?_
      refine lv_astore_n (lv' := [(3, .ref q9), (0, .ref x), (1, .int p0), (2, .ref t)]) hx hb dL_undo_19 rfl hl (by decide) rfl (fun ls hl => ?_)
      refine lv_iconst (v := 1) hx hb dL_undo_20 (by decide) ?_
      exact hp_niret hx hb hr hlocks hK h hp dL_undo_21 (Nat.le_of_ble_eq_true rfl) (Nat.le_of_ble_eq_true rfl)
  · obtain ⟨hot, hp⟩ := hp
    refine lv_if_eq (tgt := 14) hx hb dL_undo_7 (by decide) (fun hc => ?_) (fun hc => ?_)
    · have hp := hp.1 hc
      refine lv_lconst (v := 0) hx hb dL_undo_14 (by decide) ?_
      refine hp_last hx hb hK h hot vp01 dL_undo_15 (fun H locs w2 ew2 h => ?_)
      have hp := hp w2 ew2
      refine lv_goto (tgt := 22) hx hb dL_undo_16 (by decide) ?_
      refine lv_iconst (v := 0) hx hb dL_undo_22 (by decide) ?_
      exact hp_niret hx hb hr hlocks hK h hp dL_undo_23 (Nat.le_of_ble_eq_true rfl) (Nat.le_of_ble_eq_true rfl)
    · have hp := hp.2 hc
      refine lv_lconst (v := 1) hx hb dL_undo_10 (by decide) ?_
      refine lv_goto (tgt := 15) hx hb dL_undo_11 (by decide) ?_
      refine hp_last hx hb hK h hot vp01 dL_undo_15 (fun H locs w2 ew2 h => ?_)
      have hp := hp w2 ew2
      refine lv_goto (tgt := 22) hx hb dL_undo_16 (by decide) ?_
      refine lv_iconst (v := 0) hx hb dL_undo_22 (by decide) ?_
      exact hp_niret hx hb hr hlocks hK h hp dL_undo_23 (Nat.le_of_ble_eq_true rfl) (Nat.le_of_ble_eq_true rfl)
abbrev rmL_balance : Room := { frames := 8, cells := 1, slots := 6, locals := 135 }
theorem wd_L_balance_19 : Cond.classLink RL 19 "java/lang/IndexOutOfBoundsException" ∈ wsL_balance := by decide +kernel
def wp_L_balance (z : Zt) (x : Nat) (p0 : Int32) (p1 : Int32) (p2 : Int32) (t : Nat) (w : Vt) (K : Int32 → Zt → Vt → Prop) : Prop := isO z 9 x ∧ isO z 3000 t ∧ wp_X9_balance z x p0 p1 p2 w (fun r1 w1 => isO z 3000 t ∧ ∀ w2 : Vt, w2 = uL w1 3000 t (0 : Int32).toNatClampNeg r1.toInt64 → K 0 z w2) (fun k w1 => (k = 1 ∧ K 1 z w1))
set_option maxHeartbeats 4000000 in
set_option maxRecDepth 100000 in
theorem k_L_balance (l : Launch) (hst : l.stackTraces = false) (G : Gt) (z : Zt) (w : Vt) (sz : Nat) (x : Nat) (p0 : Int32) (p1 : Int32) (p2 : Int32) (t : Nat) (K : Int32 → Zt → Vt → Prop) (hp : wp_L_balance z x p0 p1 p2 t w K) : NI l yL_balance wsL_balance rmL_balance G z w sz [.ref x, .int p0, .int p1, .int p2, .ref t] K 1 6 := by
  refine met_ofWH (cc := cL_balance) (maxL := 6) (ret := some .int) (hh := [(0, 12, 15, 19)]) (by decide +kernel) rfl ?_
  intro p e s m args below meth c s₁ B hml hv
  obtain ⟨rfl, rfl, C, h⟩ := hp_start B hml hv
  generalize gA G z w s.heap.size = A at C h ⊢
  obtain ⟨hx, hb, hr, hlocks, hml, hown, hts, hK, hA, hE⟩ := id C
  have htab : c.exceptionTable.toList = [⟨0, 12, 15, 19⟩] := vx_table (x := yL_balance) B (hts _ List.mem_cons_self)
  obtain ⟨hox, hp⟩ := hp
  obtain ⟨hot, hp⟩ := hp
  have hl := lv_entry ([.ref x, .int p0, .int p1, .int p2, .ref t]) (n := 6) (Nat.le_of_ble_eq_true rfl)
  rw [lg_entry_eq]
  generalize (lg_sl ([.ref x, .int p0, .int p1, .int p2, .ref t]) ++ List.replicate (6 - (lg_sl ([.ref x, .int p0, .int p1, .int p2, .ref t])).length) Slot.unset).toArray = ls at hl ⊢
  have hl : lv_has ls 6 [(0, .ref x), (1, .int p0), (2, .int p1), (3, .int p2), (4, .ref t)] := hl
  refine lv_aload hx hb dL_balance_0 (lv_at hl 4 rfl) ?_
  refine lv_iconst (v := 0) hx hb dL_balance_2 (by decide) ?_
  refine lv_aload_n hx hb dL_balance_3 rfl (lv_at hl 0 rfl) ?_
  refine lv_iload_n hx hb dL_balance_4 rfl (lv_at hl 1 rfl) ?_
  refine lv_iload_n hx hb dL_balance_5 rfl (lv_at hl 2 rfl) ?_
  refine lv_iload_n hx hb dL_balance_6 rfl (lv_at hl 3 rfl) ?_
  refine hp_tVi ⟨hx, hb, hml, hown, hts⟩ (k_X9_balance l hst G z w _ x p0 p1 p2 _ _ hp) (cwV 3 hts gL_balance_X9_balance rfl rfl rfl (by decide +kernel) ⟨Nat.le_of_ble_eq_true rfl, Nat.le_of_ble_eq_true rfl⟩) hox (by decide) rfl hK h hA hE rfl hl.1 rfl (Nat.le_of_ble_eq_true rfl) dL_balance_7 ⟨Nat.le_of_ble_eq_true rfl, Nat.le_of_ble_eq_true rfl⟩ (fun k9 w1 H locs q9 ce hX h hce hcv hcl => ?_) (fun r1 w1 H locs hp h => ?_)
  · rcases hX with ⟨rfl, hp⟩
    · refine vx_catch (E := "java/lang/IndexOutOfBoundsException") (name := "java/lang/IndexOutOfBoundsException") hown [] ⟨0, 12, 15, 19⟩ [] htab (fun _ h9 => absurd h9 List.not_mem_nil) (by decide) (by decide) (hts _ wd_L_balance_19) (va_Nw.use rfl (hE.2.2.1 "java/lang/IndexOutOfBoundsException" (List.mem_of_getElem? (i := 0) rfl))) hce hcv hcl ?_
      refine lv_astore (lv' := [(5, .ref q9), (0, .ref x), (1, .int p0), (2, .int p1), (3, .int p2), (4, .ref t)]) hx hb dL_balance_15 hl (by decide) rfl (fun ls hl => ?_)
      refine lv_iconst (v := 1) hx hb dL_balance_17 (by decide) ?_
      exact hp_niret hx hb hr hlocks hK h hp dL_balance_18 (Nat.le_of_ble_eq_true rfl) (Nat.le_of_ble_eq_true rfl)
  · obtain ⟨hot, hp⟩ := hp
    refine lv_i2l hx hb dL_balance_10 rfl ?_
    refine hp_last hx hb hK h hot vp01 dL_balance_11 (fun H locs w2 ew2 h => ?_)
    have hp := hp w2 ew2
    refine lv_goto (tgt := 19) hx hb dL_balance_12 (by decide) ?_
    refine lv_iconst (v := 0) hx hb dL_balance_19 (by decide) ?_
    exact hp_niret hx hb hr hlocks hK h hp dL_balance_20 (Nat.le_of_ble_eq_true rfl) (Nat.le_of_ble_eq_true rfl)
