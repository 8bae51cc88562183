abbrev rmX10_cut : Room := { frames := 3, cells := 0, slots := 0, locals := 69 }
theorem ix_X10_cut_10 : ∀ w ∈ wsX100, w ∈ wsX10_cut := by decide +kernel
theorem lk_X10_cut_127 : Cond.fieldLink RX10 127 "KelpShoresModel" "thrown" "I" ∈ wsX10_cut := by decide +kernel
theorem lk_X10_cut_34 : Cond.fieldLink RX10 34 "KelpShoresModel" "cutOn" "[I" ∈ wsX10_cut := by decide +kernel
theorem lk_X10_cut_148 : Cond.fieldLink RX10 148 "KelpShoresModel" "today" "I" ∈ wsX10_cut := by decide +kernel
theorem lk_X10_cut_31 : Cond.fieldLink RX10 31 "KelpShoresModel" "cutBy" "[I" ∈ wsX10_cut := by decide +kernel
theorem lk_X10_cut_155 : Cond.fieldLink RX10 155 "KelpShoresModel" "tide" "I" ∈ wsX10_cut := by decide +kernel
theorem lk_X10_cut_9 : Cond.fieldLink RX10 9 "KelpShoresModel" "depth" "[I" ∈ wsX10_cut := by decide +kernel
theorem lk_X10_cut_16 : Cond.fieldLink RX10 16 "KelpShoresModel" "weed" "[I" ∈ wsX10_cut := by decide +kernel
theorem lk_X10_cut_25 : Cond.fieldLink RX10 25 "KelpShoresModel" "cut" "[I" ∈ wsX10_cut := by decide +kernel
theorem lk_X10_cut_46 : Cond.fieldLink RX10 46 "KelpShoresModel" "wet" "[I" ∈ wsX10_cut := by decide +kernel
theorem lk_X10_cut_55 : Cond.fieldLink RX10 55 "KelpShoresModel" "work" "[I" ∈ wsX10_cut := by decide +kernel
theorem lk_X10_cut_19 : Cond.fieldLink RX10 19 "KelpShoresModel" "cutYear" "[I" ∈ wsX10_cut := by decide +kernel
theorem lk_X10_cut_82 : Cond.fieldLink RX10 82 "KelpShoresModel" "rest" "I" ∈ wsX10_cut := by decide +kernel
def wp_X10_cut (z : Zt) (o : Nat) (p0 : Int32) (p1 : Int32) (p2 : Int32) (p3 : Int32) (w : Vt) (K : Int32 → Vt → Prop) : Prop := isO z 10 o ∧ ∀ w1 : Vt, w1 = uI w 1000 o 0 → wp_X10_noRock z o p0 p1 w1 (fun r3 w2 => ∃ J4 : Int32 → Vt → Prop, (∀ (x5 : Int32) (w6 : Vt), J4 x5 w6 → wp_X10_throwsIf z o x5 1 w6 (fun r12 w11 => (¬ r12 = 0 → K 0 w11) ∧ (r12 = 0 → wp_X10_in z p3 1 1000 w11 (fun r15 w14 => ∃ J16 : Int32 → Vt → Prop, (∀ (x17 : Int32) (w18 : Vt), J16 x17 w18 → wp_X10_throwsIf z o x17 2 w18 (fun r21 w20 => (r21 = 0 → ∀ x23 : Int32, x23 = (4 * p0) + p1 → ∃ b24 : Nat, zR z 1011 o = some b24 ∧ isO z 2011 b24 ∧ vp_in x23 24 ∧ ∃ J25 : Int32 → Vt → Prop, (∀ (x26 : Int32) (w27 : Vt), J25 x26 w27 → wp_X10_right z o p0 p2 ((vI w27 1001 o) - (vI w27 1001 o) / 100 * 100) w27 (fun r32 w31 => (0 ≤ r32 → ∃ b34 : Nat, zR z 1003 o = some b34 ∧ isO z 2003 b34 ∧ vp_in x23 24 ∧ ((vI w31 1002 o) ≤ (vA w31 2003 b34 (x23 : Int32).toNatClampNeg) → (¬ x26 = 0 → ∃ b37 : Nat, zR z 1005 o = some b37 ∧ isO z 2005 b37 ∧ vp_in x23 24 ∧ (p3 ≤ (vA w31 2005 b37 (x23 : Int32).toNatClampNeg) → wp_X10_workLeft z o p2 w31 (fun r40 w39 => (p3 ≤ r40 → vp_in x23 24 ∧ vp_in x23 24 ∧ ∀ w42 : Vt, w42 = uA w39 2005 b37 (x23 : Int32).toNatClampNeg ((vA w39 2005 b37 (x23 : Int32).toNatClampNeg) - p3) → ∃ b43 : Nat, zR z 1008 o = some b43 ∧ isO z 2008 b43 ∧ vp_in x23 24 ∧ vp_in x23 24 ∧ ∀ w44 : Vt, w44 = uA w42 2008 b43 (x23 : Int32).toNatClampNeg ((vA w42 2008 b43 (x23 : Int32).toNatClampNeg) + p3) → ∃ b45 : Nat, zR z 1016 o = some b45 ∧ isO z 2016 b45 ∧ vp_in p2 8 ∧ vp_in p2 8 ∧ ∀ w46 : Vt, w46 = uA w44 2016 b45 (p2 : Int32).toNatClampNeg ((vA w44 2016 b45 (p2 : Int32).toNatClampNeg) + p3) → ∃ b47 : Nat, zR z 1019 o = some b47 ∧ isO z 2019 b47 ∧ vp_in p2 8 ∧ vp_in p2 8 ∧ ∀ w48 : Vt, w48 = uA w46 2019 b47 (p2 : Int32).toNatClampNeg ((vA w46 2019 b47 (p2 : Int32).toNatClampNeg) + p3) → ∃ b49 : Nat, zR z 1006 o = some b49 ∧ isO z 2006 b49 ∧ vp_in x23 24 ∧ ∀ w50 : Vt, w50 = uA w48 2006 b49 (x23 : Int32).toNatClampNeg ((vI w48 1001 o) / 100) → vp_in x23 24 ∧ ∀ w51 : Vt, w51 = uA w50 2011 b24 (x23 : Int32).toNatClampNeg (vI w50 1001 o) → ∃ b52 : Nat, zR z 1010 o = some b52 ∧ isO z 2010 b52 ∧ vp_in x23 24 ∧ ∀ w53 : Vt, w53 = uA w51 2010 b52 (x23 : Int32).toNatClampNeg p2 → wp_X10_owe z o p0 p2 p3 w53 (fun w54 => K 0 w54)) ∧ (¬ p3 ≤ r40 → K 5 w39))) ∧ (¬ p3 ≤ (vA w31 2005 b37 (x23 : Int32).toNatClampNeg) → K 4 w31)) ∧ (x26 = 0 → ∃ b56 : Nat, zR z 1006 o = some b56 ∧ isO z 2006 b56 ∧ vp_in x23 24 ∧ ((vA w31 2006 b56 (x23 : Int32).toNatClampNeg) < 0 → ∃ b58 : Nat, zR z 1005 o = some b58 ∧ isO z 2005 b58 ∧ vp_in x23 24 ∧ (p3 ≤ (vA w31 2005 b58 (x23 : Int32).toNatClampNeg) → wp_X10_workLeft z o p2 w31 (fun r61 w60 => (p3 ≤ r61 → vp_in x23 24 ∧ vp_in x23 24 ∧ ∀ w63 : Vt, w63 = uA w60 2005 b58 (x23 : Int32).toNatClampNeg ((vA w60 2005 b58 (x23 : Int32).toNatClampNeg) - p3) → ∃ b64 : Nat, zR z 1008 o = some b64 ∧ isO z 2008 b64 ∧ vp_in x23 24 ∧ vp_in x23 24 ∧ ∀ w65 : Vt, w65 = uA w63 2008 b64 (x23 : Int32).toNatClampNeg ((vA w63 2008 b64 (x23 : Int32).toNatClampNeg) + p3) → ∃ b66 : Nat, zR z 1016 o = some b66 ∧ isO z 2016 b66 ∧ vp_in p2 8 ∧ vp_in p2 8 ∧ ∀ w67 : Vt, w67 = uA w65 2016 b66 (p2 : Int32).toNatClampNeg ((vA w65 2016 b66 (p2 : Int32).toNatClampNeg) + p3) → ∃ b68 : Nat, zR z 1019 o = some b68 ∧ isO z 2019 b68 ∧ vp_in p2 8 ∧ vp_in p2 8 ∧ ∀ w69 : Vt, w69 = uA w67 2019 b68 (p2 : Int32).toNatClampNeg ((vA w67 2019 b68 (p2 : Int32).toNatClampNeg) + p3) → vp_in x23 24 ∧ ∀ w70 : Vt, w70 = uA w69 2006 b56 (x23 : Int32).toNatClampNeg ((vI w69 1001 o) / 100) → vp_in x23 24 ∧ ∀ w71 : Vt, w71 = uA w70 2011 b24 (x23 : Int32).toNatClampNeg (vI w70 1001 o) → ∃ b72 : Nat, zR z 1010 o = some b72 ∧ isO z 2010 b72 ∧ vp_in x23 24 ∧ ∀ w73 : Vt, w73 = uA w71 2010 b72 (x23 : Int32).toNatClampNeg p2 → wp_X10_owe z o p0 p2 p3 w73 (fun w74 => K 0 w74)) ∧ (¬ p3 ≤ r61 → K 5 w60))) ∧ (¬ p3 ≤ (vA w31 2005 b58 (x23 : Int32).toNatClampNeg) → K 4 w31)) ∧ (¬ (vA w31 2006 b56 (x23 : Int32).toNatClampNeg) < 0 → vp_in x23 24 ∧ ((vI w31 1031 o) < (((vI w31 1001 o) / 100) - (vA w31 2006 b56 (x23 : Int32).toNatClampNeg)) → ∃ b77 : Nat, zR z 1005 o = some b77 ∧ isO z 2005 b77 ∧ vp_in x23 24 ∧ (p3 ≤ (vA w31 2005 b77 (x23 : Int32).toNatClampNeg) → wp_X10_workLeft z o p2 w31 (fun r80 w79 => (p3 ≤ r80 → vp_in x23 24 ∧ vp_in x23 24 ∧ ∀ w82 : Vt, w82 = uA w79 2005 b77 (x23 : Int32).toNatClampNeg ((vA w79 2005 b77 (x23 : Int32).toNatClampNeg) - p3) → ∃ b83 : Nat, zR z 1008 o = some b83 ∧ isO z 2008 b83 ∧ vp_in x23 24 ∧ vp_in x23 24 ∧ ∀ w84 : Vt, w84 = uA w82 2008 b83 (x23 : Int32).toNatClampNeg ((vA w82 2008 b83 (x23 : Int32).toNatClampNeg) + p3) → ∃ b85 : Nat, zR z 1016 o = some b85 ∧ isO z 2016 b85 ∧ vp_in p2 8 ∧ vp_in p2 8 ∧ ∀ w86 : Vt, w86 = uA w84 2016 b85 (p2 : Int32).toNatClampNeg ((vA w84 2016 b85 (p2 : Int32).toNatClampNeg) + p3) → ∃ b87 : Nat, zR z 1019 o = some b87 ∧ isO z 2019 b87 ∧ vp_in p2 8 ∧ vp_in p2 8 ∧ ∀ w88 : Vt, w88 = uA w86 2019 b87 (p2 : Int32).toNatClampNeg ((vA w86 2019 b87 (p2 : Int32).toNatClampNeg) + p3) → vp_in x23 24 ∧ ∀ w89 : Vt, w89 = uA w88 2006 b56 (x23 : Int32).toNatClampNeg ((vI w88 1001 o) / 100) → vp_in x23 24 ∧ ∀ w90 : Vt, w90 = uA w89 2011 b24 (x23 : Int32).toNatClampNeg (vI w89 1001 o) → ∃ b91 : Nat, zR z 1010 o = some b91 ∧ isO z 2010 b91 ∧ vp_in x23 24 ∧ ∀ w92 : Vt, w92 = uA w90 2010 b91 (x23 : Int32).toNatClampNeg p2 → wp_X10_owe z o p0 p2 p3 w92 (fun w93 => K 0 w93)) ∧ (¬ p3 ≤ r80 → K 5 w79))) ∧ (¬ p3 ≤ (vA w31 2005 b77 (x23 : Int32).toNatClampNeg) → K 4 w31)) ∧ (¬ (vI w31 1031 o) < (((vI w31 1001 o) / 100) - (vA w31 2006 b56 (x23 : Int32).toNatClampNeg)) → K 3 w31)))) ∧ (¬ (vI w31 1002 o) ≤ (vA w31 2003 b34 (x23 : Int32).toNatClampNeg) → K 2 w31)) ∧ (¬ 0 ≤ r32 → K 1 w31))) ∧ (¬ (vA w20 2011 b24 (x23 : Int32).toNatClampNeg) = (vI w20 1001 o) → J25 0 w20) ∧ ((vA w20 2011 b24 (x23 : Int32).toNatClampNeg) = (vI w20 1001 o) → ∃ b29 : Nat, zR z 1010 o = some b29 ∧ isO z 2010 b29 ∧ vp_in x23 24 ∧ (¬ (vA w20 2010 b29 (x23 : Int32).toNatClampNeg) = p2 → J25 0 w20) ∧ ((vA w20 2010 b29 (x23 : Int32).toNatClampNeg) = p2 → J25 1 w20))) ∧ (¬ r21 = 0 → K 0 w20))) ∧ (¬ r15 = 0 → J16 0 w14) ∧ (r15 = 0 → J16 1 w14))))) ∧ (¬ r3 = 0 → J4 1 w2) ∧ (r3 = 0 → wp_X10_noFamily z p2 w2 (fun r9 w8 => (r9 = 0 → J4 0 w8) ∧ (¬ r9 = 0 → J4 1 w8))))
set_option maxHeartbeats 4000000 in
set_option maxRecDepth 100000 in
theorem k_X10_cut (l : Launch) (G : Gt) (z : Zt) (w : Vt) (sz : Nat) (o : Nat) (p0 : Int32) (p1 : Int32) (p2 : Int32) (p3 : Int32) (K : Int32 → Vt → Prop) (hp : wp_X10_cut z o p0 p1 p2 p3 w K) : MI l yX10_cut wsX10_cut rmX10_cut G z w sz [.ref o, .int p0, .int p1, .int p2, .int p3] K := by
  refine Met.ofW (cc := cX10_cut) (maxL := 7) (ret := (some .int)) (by decide +kernel) rfl ?_
  intro p e s m args below meth c s₁ B hml hv
  obtain ⟨rfl, rfl, C, h⟩ := hp_start B hml hv
  generalize gA G z w s.heap.size = A at C h ⊢
  obtain ⟨hx, hb, hr, hlocks, hml, hown, hts, hK, hA, hE⟩ := id C
  obtain ⟨ho, hp⟩ := hp
  have hl := lv_entry ([.ref o, .int p0, .int p1, .int p2, .int p3]) (n := 7) (Nat.le_of_ble_eq_true rfl)
  rw [lg_entry_eq]
  generalize (lg_sl ([.ref o, .int p0, .int p1, .int p2, .int p3]) ++ List.replicate (7 - (lg_sl ([.ref o, .int p0, .int p1, .int p2, .int p3])).length) Slot.unset).toArray = ls at hl ⊢
  have hl : lv_has ls 7 [(0, .ref o), (1, .int p0), (2, .int p1), (3, .int p2), (4, .int p3)] := hl
  refine lv_aload_n hx hb dX10_cut_0 rfl (lv_at hl 0 rfl) ?_
  refine lv_iconst (v := 0) hx hb dX10_cut_1 (by decide) ?_
  refine hp_puti (ci := 10) (ty := .int) (x := 0) hx hb hts ix_X10_cut_10 tyX10 tyX10_ok nmX10 hown hK h ho (by decide) rfl 0 1000 (by decide) (hts _ lk_X10_cut_127) (fun _ h9 => h9) rfl (by decide +kernel) rfl rfl (fun _ _ => rfl) (fun _ _ => Nat.le_of_ble_eq_true rfl) dX10_cut_2 (fun H locs w1 ew1 h => ?_)
  have hp := hp w1 ew1
  refine lv_aload_n hx hb dX10_cut_5 rfl (lv_at hl 0 rfl) ?_
  refine lv_aload_n hx hb dX10_cut_6 rfl (lv_at hl 0 rfl) ?_
  refine lv_iload_n hx hb dX10_cut_7 rfl (lv_at hl 1 rfl) ?_
  refine lv_iload_n hx hb dX10_cut_8 rfl (lv_at hl 2 rfl) ?_
  refine hp_cVi ⟨hx, hb, hml, hown, hts⟩ (k_X10_noRock l G z w1 _ o p0 p1 _ hp) (cwV 2 hts gX10_cut_X10_noRock rfl rfl rfl (by decide +kernel) ⟨Nat.le_of_ble_eq_true rfl, Nat.le_of_ble_eq_true rfl⟩) ho (by decide) rfl hK h hA hE rfl hl.1 rfl (Nat.le_of_ble_eq_true rfl) dX10_cut_9 ⟨Nat.le_of_ble_eq_true rfl, Nat.le_of_ble_eq_true rfl⟩ (fun r3 w2 H locs hp h => ?_)
  obtain ⟨J4, jJ4, hp⟩ := hp
  refine hp_jn1 (G := G) (A := A) (z := z) (J := J4) (nL := 7) (j := 27) (lvf := fun x5 => [(0, .ref o), (1, .int p0), (2, .int p1), (3, .int p2), (4, .int p3)]) (stf := fun x5 => [.int x5, .ref o]) (fun kJ4 => ?_) (fun x5 w6 H locs ls hp h hl => ?_)
  · refine lv_if_ne (tgt := 22) hx hb dX10_cut_12 (by decide) (fun hc7 => ?_) (fun hc7 => ?_)
    · have hp := hp.1 hc7
      refine lv_iconst (v := 1) hx hb dX10_cut_22 (by decide) ?_
      refine lv_goto (tgt := 27) hx hb dX10_cut_23 (by decide) ?_
      exact kJ4 1 w2 _ _ _ hp h (lv_sub hl [0, 1, 2, 3, 4] rfl)
    · have hp := hp.2 hc7
      refine lv_iload_n hx hb dX10_cut_15 rfl (lv_at hl 3 rfl) ?_
      refine hp_cSi ⟨hx, hb, hml, hown, hts⟩ (k_X10_noFamily l G z w2 _ p2 _ hp) (cwS 1 hts gX10_cut_X10_noFamily rfl rfl rfl (by decide +kernel) ⟨Nat.le_of_ble_eq_true rfl, Nat.le_of_ble_eq_true rfl⟩) hK h hA hE rfl hl.1 rfl (Nat.le_of_ble_eq_true rfl) dX10_cut_16 ⟨Nat.le_of_ble_eq_true rfl, Nat.le_of_ble_eq_true rfl⟩ (fun r9 w8 H locs hp h => ?_)
      refine lv_if_eq (tgt := 26) hx hb dX10_cut_19 (by decide) (fun hc10 => ?_) (fun hc10 => ?_)
      · have hp := hp.1 hc10
        refine lv_iconst (v := 0) hx hb dX10_cut_26 (by decide) ?_
        exact kJ4 0 w8 _ _ _ hp h (lv_sub hl [0, 1, 2, 3, 4] rfl)
      · have hp := hp.2 hc10
        refine lv_iconst (v := 1) hx hb dX10_cut_22 (by decide) ?_
        refine lv_goto (tgt := 27) hx hb dX10_cut_23 (by decide) ?_
        exact kJ4 1 w8 _ _ _ hp h (lv_sub hl [0, 1, 2, 3, 4] rfl)
  have hp := jJ4 x5 w6 hp
  refine lv_iconst (v := 1) hx hb dX10_cut_27 (by decide) ?_
  refine hp_cVi ⟨hx, hb, hml, hown, hts⟩ (k_X10_throwsIf l G z w6 _ o x5 1 _ hp) (cwV 2 hts gX10_cut_X10_throwsIf rfl rfl rfl (by decide +kernel) ⟨Nat.le_of_ble_eq_true rfl, Nat.le_of_ble_eq_true rfl⟩) ho (by decide) rfl hK h hA hE rfl hl.1 rfl (Nat.le_of_ble_eq_true rfl) dX10_cut_28 ⟨Nat.le_of_ble_eq_true rfl, Nat.le_of_ble_eq_true rfl⟩ (fun r12 w11 H locs hp h => ?_)
  refine lv_if_ne (tgt := 59) hx hb dX10_cut_31 (by decide) (fun hc13 => ?_) (fun hc13 => ?_)
  · have hp := hp.1 hc13
    refine lv_iconst (v := 0) hx hb dX10_cut_59 (by decide) ?_
    exact hp_iret hx hb hr rfl hlocks hK h hp dX10_cut_60
  · have hp := hp.2 hc13
    refine lv_aload_n hx hb dX10_cut_34 rfl (lv_at hl 0 rfl) ?_
    refine lv_iload hx hb dX10_cut_35 (lv_at hl 4 rfl) ?_
    refine lv_iconst (v := 1) hx hb dX10_cut_37 (by decide) ?_
    refine lv_sipush (v := 1000) hx hb dX10_cut_38 (by decide) ?_
    refine hp_cSi ⟨hx, hb, hml, hown, hts⟩ (k_X10_in l G z w11 _ p3 1 1000 _ hp) (cwS 3 hts gX10_cut_X10_in rfl rfl rfl (by decide +kernel) ⟨Nat.le_of_ble_eq_true rfl, Nat.le_of_ble_eq_true rfl⟩) hK h hA hE rfl hl.1 rfl (Nat.le_of_ble_eq_true rfl) dX10_cut_41 ⟨Nat.le_of_ble_eq_true rfl, Nat.le_of_ble_eq_true rfl⟩ (fun r15 w14 H locs hp h => ?_)
    obtain ⟨J16, jJ16, hp⟩ := hp
    refine hp_jn1 (G := G) (A := A) (z := z) (J := J16) (nL := 7) (j := 52) (lvf := fun x17 => [(0, .ref o), (1, .int p0), (2, .int p1), (3, .int p2), (4, .int p3)]) (stf := fun x17 => [.int x17, .ref o]) (fun kJ16 => ?_) (fun x17 w18 H locs ls hp h hl => ?_)
    · refine lv_if_ne (tgt := 51) hx hb dX10_cut_44 (by decide) (fun hc19 => ?_) (fun hc19 => ?_)
      · have hp := hp.1 hc19
        refine lv_iconst (v := 0) hx hb dX10_cut_51 (by decide) ?_
        exact kJ16 0 w14 _ _ _ hp h (lv_sub hl [0, 1, 2, 3, 4] rfl)
      · have hp := hp.2 hc19
        refine lv_iconst (v := 1) hx hb dX10_cut_47 (by decide) ?_
        refine lv_goto (tgt := 52) hx hb dX10_cut_48 (by decide) ?_
        exact kJ16 1 w14 _ _ _ hp h (lv_sub hl [0, 1, 2, 3, 4] rfl)
    have hp := jJ16 x17 w18 hp
    refine lv_iconst (v := 2) hx hb dX10_cut_52 (by decide) ?_
    refine hp_cVi ⟨hx, hb, hml, hown, hts⟩ (k_X10_throwsIf l G z w18 _ o x17 2 _ hp) (cwV 2 hts gX10_cut_X10_throwsIf rfl rfl rfl (by decide +kernel) ⟨Nat.le_of_ble_eq_true rfl, Nat.le_of_ble_eq_true rfl⟩) ho (by decide) rfl hK h hA hE rfl hl.1 rfl (Nat.le_of_ble_eq_true rfl) dX10_cut_53 ⟨Nat.le_of_ble_eq_true rfl, Nat.le_of_ble_eq_true rfl⟩ (fun r21 w20 H locs hp h => ?_)
    refine lv_if_eq (tgt := 61) hx hb dX10_cut_56 (by decide) (fun hc22 => ?_) (fun hc22 => ?_)
    · have hp := hp.1 hc22
      refine lv_iconst (v := 4) hx hb dX10_cut_61 (by decide) ?_
      refine lv_iload_n hx hb dX10_cut_62 rfl (lv_at hl 1 rfl) ?_
      refine lv_imul hx hb dX10_cut_63 ?_
      refine lv_iload_n hx hb dX10_cut_64 rfl (lv_at hl 2 rfl) ?_
      refine lv_iadd hx hb dX10_cut_65 ?_
      refine lv_topi (fun x23 ex23 => ?_)
      have hp := hp x23 ex23
      refine lv_istore (lv' := [(5, .int x23), (0, .ref o), (1, .int p0), (2, .int p1), (3, .int p2), (4, .int p3)]) hx hb dX10_cut_66 hl (by decide) rfl (fun ls hl => ?_)
      refine lv_aload_n hx hb dX10_cut_68 rfl (lv_at hl 1 rfl) ?_
      obtain ⟨b24, eb24, hob24, hp⟩ := hp
      refine hp_get (ci := 10) (v := .ref b24) hx hb hts ix_X10_cut_10 hown hK h ho (by decide) rfl 11 (by decide) (hts _ lk_X10_cut_34) (fun _ h9 => h9) (by show some (va_rf (zR z 1011 o)) = some (Value.ref b24); rw [eb24]; rfl) dX10_cut_69 ?_
      refine lv_iload hx hb dX10_cut_72 (lv_at hl 0 rfl) ?_
      refine hp_iald (t := 2011) (n := 24) hx hb hK h hob24 (by decide) (fun _ _ _ => rfl) hp.1 dX10_cut_74 ?_
      have hp := hp.2
      refine lv_aload_n hx hb dX10_cut_75 rfl (lv_at hl 1 rfl) ?_
      refine hp_get (ci := 10) (v := .int (vI w20 1001 o)) hx hb hts ix_X10_cut_10 hown hK h ho (by decide) rfl 1 (by decide) (hts _ lk_X10_cut_148) (fun _ h9 => h9) rfl dX10_cut_76 ?_
      obtain ⟨J25, jJ25, hp⟩ := hp
      refine hp_jn1 (G := G) (A := A) (z := z) (J := J25) (nL := 7) (j := 98) (lvf := fun x26 => [(5, .int x23), (0, .ref o), (1, .int p0), (2, .int p1), (3, .int p2), (4, .int p3)]) (stf := fun x26 => [.int x26]) (fun kJ25 => ?_) (fun x26 w27 H locs ls hp h hl => ?_)
      · refine lv_icmp_ne (tgt := 97) hx hb dX10_cut_79 (by decide) (fun hc28 => ?_) (fun hc28 => ?_)
        · have hp := hp.1 hc28
          refine lv_iconst (v := 0) hx hb dX10_cut_97 (by decide) ?_
          exact kJ25 0 w20 _ _ _ hp h (lv_sub hl [0, 1, 2, 3, 4, 5] rfl)
        · have hp := hp.2 hc28
          refine lv_aload_n hx hb dX10_cut_82 rfl (lv_at hl 1 rfl) ?_
          obtain ⟨b29, eb29, hob29, hp⟩ := hp
          refine hp_get (ci := 10) (v := .ref b29) hx hb hts ix_X10_cut_10 hown hK h ho (by decide) rfl 10 (by decide) (hts _ lk_X10_cut_31) (fun _ h9 => h9) (by show some (va_rf (zR z 1010 o)) = some (Value.ref b29); rw [eb29]; rfl) dX10_cut_83 ?_
          refine lv_iload hx hb dX10_cut_86 (lv_at hl 0 rfl) ?_
          refine hp_iald (t := 2010) (n := 24) hx hb hK h hob29 (by decide) (fun _ _ _ => rfl) hp.1 dX10_cut_88 ?_
          have hp := hp.2
          refine lv_iload_n hx hb dX10_cut_89 rfl (lv_at hl 4 rfl) ?_
          refine lv_icmp_ne (tgt := 97) hx hb dX10_cut_90 (by decide) (fun hc30 => ?_) (fun hc30 => ?_)
          · have hp := hp.1 hc30
            refine lv_iconst (v := 0) hx hb dX10_cut_97 (by decide) ?_
            exact kJ25 0 w20 _ _ _ hp h (lv_sub hl [0, 1, 2, 3, 4, 5] rfl)
          · have hp := hp.2 hc30
            refine lv_iconst (v := 1) hx hb dX10_cut_93 (by decide) ?_
            refine lv_goto (tgt := 98) hx hb dX10_cut_94 (by decide) ?_
            exact kJ25 1 w20 _ _ _ hp h (lv_sub hl [0, 1, 2, 3, 4, 5] rfl)
      have hp := jJ25 x26 w27 hp
      refine lv_istore (lv' := [(6, .int x26), (5, .int x23), (0, .ref o), (1, .int p0), (2, .int p1), (3, .int p2), (4, .int p3)]) hx hb dX10_cut_98 hl (by decide) rfl (fun ls hl => ?_)
      refine lv_aload_n hx hb dX10_cut_100 rfl (lv_at hl 2 rfl) ?_
      refine lv_iload_n hx hb dX10_cut_101 rfl (lv_at hl 3 rfl) ?_
      refine lv_iload_n hx hb dX10_cut_102 rfl (lv_at hl 5 rfl) ?_
      refine lv_aload_n hx hb dX10_cut_103 rfl (lv_at hl 2 rfl) ?_
      refine hp_get (ci := 10) (v := .int (vI w27 1001 o)) hx hb hts ix_X10_cut_10 hown hK h ho (by decide) rfl 1 (by decide) (hts _ lk_X10_cut_148) (fun _ h9 => h9) rfl dX10_cut_104 ?_
      refine lv_bipush (v := 100) hx hb dX10_cut_107 (by decide) ?_
      refine lv_irem hx hb dX10_cut_109 (by decide) ?_
      refine hp_cVi ⟨hx, hb, hml, hown, hts⟩ (k_X10_right l G z w27 _ o p0 p2 ((vI w27 1001 o) - (vI w27 1001 o) / 100 * 100) _ hp) (cwV 3 hts gX10_cut_X10_right rfl rfl rfl (by decide +kernel) ⟨Nat.le_of_ble_eq_true rfl, Nat.le_of_ble_eq_true rfl⟩) ho (by decide) rfl hK h hA hE rfl hl.1 rfl (Nat.le_of_ble_eq_true rfl) dX10_cut_110 ⟨Nat.le_of_ble_eq_true rfl, Nat.le_of_ble_eq_true rfl⟩ (fun r32 w31 H locs hp h => ?_)
      refine lv_if_ge (tgt := 118) hx hb dX10_cut_113 (by decide) (fun hc33 => ?_) (fun hc33 => ?_)
      · have hp := hp.1 hc33
        refine lv_aload_n hx hb dX10_cut_118 rfl (lv_at hl 2 rfl) ?_
        refine hp_get (ci := 10) (v := .int (vI w31 1002 o)) hx hb hts ix_X10_cut_10 hown hK h ho (by decide) rfl 2 (by decide) (hts _ lk_X10_cut_155) (fun _ h9 => h9) rfl dX10_cut_119 ?_
        refine lv_aload_n hx hb dX10_cut_122 rfl (lv_at hl 2 rfl) ?_
        obtain ⟨b34, eb34, hob34, hp⟩ := hp
        refine hp_get (ci := 10) (v := .ref b34) hx hb hts ix_X10_cut_10 hown hK h ho (by decide) rfl 3 (by decide) (hts _ lk_X10_cut_9) (fun _ h9 => h9) (by show some (va_rf (zR z 1003 o)) = some (Value.ref b34); rw [eb34]; rfl) dX10_cut_123 ?_
        refine lv_iload hx hb dX10_cut_126 (lv_at hl 1 rfl) ?_
        refine hp_iald (t := 2003) (n := 24) hx hb hK h hob34 (by decide) (fun _ _ _ => rfl) hp.1 dX10_cut_128 ?_
        have hp := hp.2
        refine lv_icmp_le (tgt := 134) hx hb dX10_cut_129 (by decide) (fun hc35 => ?_) (fun hc35 => ?_)
        · have hp := hp.1 hc35
          refine lv_iload hx hb dX10_cut_134 (lv_at hl 0 rfl) ?_
          refine lv_if_ne (tgt := 173) hx hb dX10_cut_136 (by decide) (fun hc36 => ?_) (fun hc36 => ?_)
          · have hp := hp.1 hc36
            refine lv_aload_n hx hb dX10_cut_173 rfl (lv_at hl 2 rfl) ?_
            obtain ⟨b37, eb37, hob37, hp⟩ := hp
            refine hp_get (ci := 10) (v := .ref b37) hx hb hts ix_X10_cut_10 hown hK h ho (by decide) rfl 5 (by decide) (hts _ lk_X10_cut_16) (fun _ h9 => h9) (by show some (va_rf (zR z 1005 o)) = some (Value.ref b37); rw [eb37]; rfl) dX10_cut_174 ?_
            refine lv_iload hx hb dX10_cut_177 (lv_at hl 1 rfl) ?_
            refine hp_iald (t := 2005) (n := 24) hx hb hK h hob37 (by decide) (fun _ _ _ => rfl) hp.1 dX10_cut_179 ?_
            have hp := hp.2
            refine lv_iload hx hb dX10_cut_180 (lv_at hl 6 rfl) ?_
            refine lv_icmp_ge (tgt := 187) hx hb dX10_cut_182 (by decide) (fun hc38 => ?_) (fun hc38 => ?_)
            · have hp := hp.1 hc38
              refine lv_aload_n hx hb dX10_cut_187 rfl (lv_at hl 2 rfl) ?_
              refine lv_iload_n hx hb dX10_cut_188 rfl (lv_at hl 5 rfl) ?_
              refine hp_cVi ⟨hx, hb, hml, hown, hts⟩ (k_X10_workLeft l G z w31 _ o p2 _ hp) (cwV 1 hts gX10_cut_X10_workLeft rfl rfl rfl (by decide +kernel) ⟨Nat.le_of_ble_eq_true rfl, Nat.le_of_ble_eq_true rfl⟩) ho (by decide) rfl hK h hA hE rfl hl.1 rfl (Nat.le_of_ble_eq_true rfl) dX10_cut_189 ⟨Nat.le_of_ble_eq_true rfl, Nat.le_of_ble_eq_true rfl⟩ (fun r40 w39 H locs hp h => ?_)
              refine lv_iload hx hb dX10_cut_192 (lv_at hl 6 rfl) ?_
              refine lv_icmp_ge (tgt := 199) hx hb dX10_cut_194 (by decide) (fun hc41 => ?_) (fun hc41 => ?_)
              · have hp := hp.1 hc41
                refine lv_aload_n hx hb dX10_cut_199 rfl (lv_at hl 2 rfl) ?_
                refine hp_get (ci := 10) (v := .ref b37) hx hb hts ix_X10_cut_10 hown hK h ho (by decide) rfl 5 (by decide) (hts _ lk_X10_cut_16) (fun _ h9 => h9) (by show some (va_rf (zR z 1005 o)) = some (Value.ref b37); rw [eb37]; rfl) dX10_cut_200 ?_
                refine lv_iload hx hb dX10_cut_203 (lv_at hl 1 rfl) ?_
                refine lv_dup2_11 hx hb dX10_cut_205 rfl rfl ?_
                refine hp_iald (t := 2005) (n := 24) hx hb hK h hob37 (by decide) (fun _ _ _ => rfl) hp.1 dX10_cut_206 ?_
                have hp := hp.2
                refine lv_iload hx hb dX10_cut_207 (lv_at hl 6 rfl) ?_
                refine lv_isub hx hb dX10_cut_209 ?_
                refine hp_iast (t := 2005) (n := 24) hx hb hK h hob37 (by decide) (fun _ _ _ => rfl) hp.1 dX10_cut_210 (fun H locs w42 ew42 h => ?_)
                have hp := hp.2 w42 ew42
                refine lv_aload_n hx hb dX10_cut_211 rfl (lv_at hl 2 rfl) ?_
                obtain ⟨b43, eb43, hob43, hp⟩ := hp
                refine hp_get (ci := 10) (v := .ref b43) hx hb hts ix_X10_cut_10 hown hK h ho (by decide) rfl 8 (by decide) (hts _ lk_X10_cut_25) (fun _ h9 => h9) (by show some (va_rf (zR z 1008 o)) = some (Value.ref b43); rw [eb43]; rfl) dX10_cut_212 ?_
                refine lv_iload hx hb dX10_cut_215 (lv_at hl 1 rfl) ?_
                refine lv_dup2_11 hx hb dX10_cut_217 rfl rfl ?_
                refine hp_iald (t := 2008) (n := 24) hx hb hK h hob43 (by decide) (fun _ _ _ => rfl) hp.1 dX10_cut_218 ?_
                have hp := hp.2
                refine lv_iload hx hb dX10_cut_219 (lv_at hl 6 rfl) ?_
                refine lv_iadd hx hb dX10_cut_221 ?_
                refine hp_iast (t := 2008) (n := 24) hx hb hK h hob43 (by decide) (fun _ _ _ => rfl) hp.1 dX10_cut_222 (fun H locs w44 ew44 h => ?_)
                have hp := hp.2 w44 ew44
                refine lv_aload_n hx hb dX10_cut_223 rfl (lv_at hl 2 rfl) ?_
                obtain ⟨b45, eb45, hob45, hp⟩ := hp
                refine hp_get (ci := 10) (v := .ref b45) hx hb hts ix_X10_cut_10 hown hK h ho (by decide) rfl 16 (by decide) (hts _ lk_X10_cut_46) (fun _ h9 => h9) (by show some (va_rf (zR z 1016 o)) = some (Value.ref b45); rw [eb45]; rfl) dX10_cut_224 ?_
                refine lv_iload_n hx hb dX10_cut_227 rfl (lv_at hl 5 rfl) ?_
                refine lv_dup2_11 hx hb dX10_cut_228 rfl rfl ?_
                refine hp_iald (t := 2016) (n := 8) hx hb hK h hob45 (by decide) (fun _ _ _ => rfl) hp.1 dX10_cut_229 ?_
                have hp := hp.2
                refine lv_iload hx hb dX10_cut_230 (lv_at hl 6 rfl) ?_
                refine lv_iadd hx hb dX10_cut_232 ?_
                refine hp_iast (t := 2016) (n := 8) hx hb hK h hob45 (by decide) (fun _ _ _ => rfl) hp.1 dX10_cut_233 (fun H locs w46 ew46 h => ?_)
                have hp := hp.2 w46 ew46
                refine lv_aload_n hx hb dX10_cut_234 rfl (lv_at hl 2 rfl) ?_
                obtain ⟨b47, eb47, hob47, hp⟩ := hp
                refine hp_get (ci := 10) (v := .ref b47) hx hb hts ix_X10_cut_10 hown hK h ho (by decide) rfl 19 (by decide) (hts _ lk_X10_cut_55) (fun _ h9 => h9) (by show some (va_rf (zR z 1019 o)) = some (Value.ref b47); rw [eb47]; rfl) dX10_cut_235 ?_
                refine lv_iload_n hx hb dX10_cut_238 rfl (lv_at hl 5 rfl) ?_
                refine lv_dup2_11 hx hb dX10_cut_239 rfl rfl ?_
                refine hp_iald (t := 2019) (n := 8) hx hb hK h hob47 (by decide) (fun _ _ _ => rfl) hp.1 dX10_cut_240 ?_
                have hp := hp.2
                refine lv_iload hx hb dX10_cut_241 (lv_at hl 6 rfl) ?_
                refine lv_iadd hx hb dX10_cut_243 ?_
                refine hp_iast (t := 2019) (n := 8) hx hb hK h hob47 (by decide) (fun _ _ _ => rfl) hp.1 dX10_cut_244 (fun H locs w48 ew48 h => ?_)
                have hp := hp.2 w48 ew48
                refine lv_aload_n hx hb dX10_cut_245 rfl (lv_at hl 2 rfl) ?_
                obtain ⟨b49, eb49, hob49, hp⟩ := hp
                refine hp_get (ci := 10) (v := .ref b49) hx hb hts ix_X10_cut_10 hown hK h ho (by decide) rfl 6 (by decide) (hts _ lk_X10_cut_19) (fun _ h9 => h9) (by show some (va_rf (zR z 1006 o)) = some (Value.ref b49); rw [eb49]; rfl) dX10_cut_246 ?_
                refine lv_iload hx hb dX10_cut_249 (lv_at hl 1 rfl) ?_
                refine lv_aload_n hx hb dX10_cut_251 rfl (lv_at hl 2 rfl) ?_
                refine hp_get (ci := 10) (v := .int (vI w48 1001 o)) hx hb hts ix_X10_cut_10 hown hK h ho (by decide) rfl 1 (by decide) (hts _ lk_X10_cut_148) (fun _ h9 => h9) rfl dX10_cut_252 ?_
                refine lv_bipush (v := 100) hx hb dX10_cut_255 (by decide) ?_
                refine lv_idiv hx hb dX10_cut_257 (by decide) ?_
                refine hp_iast (t := 2006) (n := 24) hx hb hK h hob49 (by decide) (fun _ _ _ => rfl) hp.1 dX10_cut_258 (fun H locs w50 ew50 h => ?_)
                have hp := hp.2 w50 ew50
                refine lv_aload_n hx hb dX10_cut_259 rfl (lv_at hl 2 rfl) ?_
                refine hp_get (ci := 10) (v := .ref b24) hx hb hts ix_X10_cut_10 hown hK h ho (by decide) rfl 11 (by decide) (hts _ lk_X10_cut_34) (fun _ h9 => h9) (by show some (va_rf (zR z 1011 o)) = some (Value.ref b24); rw [eb24]; rfl) dX10_cut_260 ?_
                refine lv_iload hx hb dX10_cut_263 (lv_at hl 1 rfl) ?_
                refine lv_aload_n hx hb dX10_cut_265 rfl (lv_at hl 2 rfl) ?_
                refine hp_get (ci := 10) (v := .int (vI w50 1001 o)) hx hb hts ix_X10_cut_10 hown hK h ho (by decide) rfl 1 (by decide) (hts _ lk_X10_cut_148) (fun _ h9 => h9) rfl dX10_cut_266 ?_
                refine hp_iast (t := 2011) (n := 24) hx hb hK h hob24 (by decide) (fun _ _ _ => rfl) hp.1 dX10_cut_269 (fun H locs w51 ew51 h => ?_)
                have hp := hp.2 w51 ew51
                refine lv_aload_n hx hb dX10_cut_270 rfl (lv_at hl 2 rfl) ?_
                obtain ⟨b52, eb52, hob52, hp⟩ := hp
                refine hp_get (ci := 10) (v := .ref b52) hx hb hts ix_X10_cut_10 hown hK h ho (by decide) rfl 10 (by decide) (hts _ lk_X10_cut_31) (fun _ h9 => h9) (by show some (va_rf (zR z 1010 o)) = some (Value.ref b52); rw [eb52]; rfl) dX10_cut_271 ?_
                refine lv_iload hx hb dX10_cut_274 (lv_at hl 1 rfl) ?_
                refine lv_iload_n hx hb dX10_cut_276 rfl (lv_at hl 5 rfl) ?_
                refine hp_iast (t := 2010) (n := 24) hx hb hK h hob52 (by decide) (fun _ _ _ => rfl) hp.1 dX10_cut_277 (fun H locs w53 ew53 h => ?_)
                have hp := hp.2 w53 ew53
                refine lv_aload_n hx hb dX10_cut_278 rfl (lv_at hl 2 rfl) ?_
                refine lv_iload_n hx hb dX10_cut_279 rfl (lv_at hl 3 rfl) ?_
                refine lv_iload_n hx hb dX10_cut_280 rfl (lv_at hl 5 rfl) ?_
                refine lv_iload hx hb dX10_cut_281 (lv_at hl 6 rfl) ?_
                refine hp_cVv ⟨hx, hb, hml, hown, hts⟩ (k_X10_owe l G z w53 _ o p0 p2 p3 _ hp) (cwV 3 hts gX10_cut_X10_owe rfl rfl rfl (by decide +kernel) ⟨Nat.le_of_ble_eq_true rfl, Nat.le_of_ble_eq_true rfl⟩) ho (by decide) rfl hK h hA hE rfl hl.1 rfl (Nat.le_of_ble_eq_true rfl) dX10_cut_283 ⟨Nat.le_of_ble_eq_true rfl, Nat.le_of_ble_eq_true rfl⟩ (fun w54 H locs hp h => ?_)
                refine lv_iconst (v := 0) hx hb dX10_cut_286 (by decide) ?_
                exact hp_iret hx hb hr rfl hlocks hK h hp dX10_cut_287
              · have hp := hp.2 hc41
                refine lv_iconst (v := 5) hx hb dX10_cut_197 (by decide) ?_
                exact hp_iret hx hb hr rfl hlocks hK h hp dX10_cut_198
            · have hp := hp.2 hc38
              refine lv_iconst (v := 4) hx hb dX10_cut_185 (by decide) ?_
              exact hp_iret hx hb hr rfl hlocks hK h hp dX10_cut_186
          · have hp := hp.2 hc36
            refine lv_aload_n hx hb dX10_cut_139 rfl (lv_at hl 2 rfl) ?_
            obtain ⟨b56, eb56, hob56, hp⟩ := hp
            refine hp_get (ci := 10) (v := .ref b56) hx hb hts ix_X10_cut_10 hown hK h ho (by decide) rfl 6 (by decide) (hts _ lk_X10_cut_19) (fun _ h9 => h9) (by show some (va_rf (zR z 1006 o)) = some (Value.ref b56); rw [eb56]; rfl) dX10_cut_140 ?_
            refine lv_iload hx hb dX10_cut_143 (lv_at hl 1 rfl) ?_
            refine hp_iald (t := 2006) (n := 24) hx hb hK h hob56 (by decide) (fun _ _ _ => rfl) hp.1 dX10_cut_145 ?_
            have hp := hp.2
            refine lv_if_lt (tgt := 173) hx hb dX10_cut_146 (by decide) (fun hc57 => ?_) (fun hc57 => ?_)
            · have hp := hp.1 hc57
              refine lv_aload_n hx hb dX10_cut_173 rfl (lv_at hl 2 rfl) ?_
              obtain ⟨b58, eb58, hob58, hp⟩ := hp
              refine hp_get (ci := 10) (v := .ref b58) hx hb hts ix_X10_cut_10 hown hK h ho (by decide) rfl 5 (by decide) (hts _ lk_X10_cut_16) (fun _ h9 => h9) (by show some (va_rf (zR z 1005 o)) = some (Value.ref b58); rw [eb58]; rfl) dX10_cut_174 ?_
              refine lv_iload hx hb dX10_cut_177 (lv_at hl 1 rfl) ?_
              refine hp_iald (t := 2005) (n := 24) hx hb hK h hob58 (by decide) (fun _ _ _ => rfl) hp.1 dX10_cut_179 ?_
              have hp := hp.2
              refine lv_iload hx hb dX10_cut_180 (lv_at hl 6 rfl) ?_
              refine lv_icmp_ge (tgt := 187) hx hb dX10_cut_182 (by decide) (fun hc59 => ?_) (fun hc59 => ?_)
              · have hp := hp.1 hc59
                refine lv_aload_n hx hb dX10_cut_187 rfl (lv_at hl 2 rfl) ?_
                refine lv_iload_n hx hb dX10_cut_188 rfl (lv_at hl 5 rfl) ?_
                refine hp_cVi ⟨hx, hb, hml, hown, hts⟩ (k_X10_workLeft l G z w31 _ o p2 _ hp) (cwV 1 hts gX10_cut_X10_workLeft rfl rfl rfl (by decide +kernel) ⟨Nat.le_of_ble_eq_true rfl, Nat.le_of_ble_eq_true rfl⟩) ho (by decide) rfl hK h hA hE rfl hl.1 rfl (Nat.le_of_ble_eq_true rfl) dX10_cut_189 ⟨Nat.le_of_ble_eq_true rfl, Nat.le_of_ble_eq_true rfl⟩ (fun r61 w60 H locs hp h => ?_)
                refine lv_iload hx hb dX10_cut_192 (lv_at hl 6 rfl) ?_
                refine lv_icmp_ge (tgt := 199) hx hb dX10_cut_194 (by decide) (fun hc62 => ?_) (fun hc62 => ?_)
                · have hp := hp.1 hc62
                  refine lv_aload_n hx hb dX10_cut_199 rfl (lv_at hl 2 rfl) ?_
                  refine hp_get (ci := 10) (v := .ref b58) hx hb hts ix_X10_cut_10 hown hK h ho (by decide) rfl 5 (by decide) (hts _ lk_X10_cut_16) (fun _ h9 => h9) (by show some (va_rf (zR z 1005 o)) = some (Value.ref b58); rw [eb58]; rfl) dX10_cut_200 ?_
                  refine lv_iload hx hb dX10_cut_203 (lv_at hl 1 rfl) ?_
                  refine lv_dup2_11 hx hb dX10_cut_205 rfl rfl ?_
                  refine hp_iald (t := 2005) (n := 24) hx hb hK h hob58 (by decide) (fun _ _ _ => rfl) hp.1 dX10_cut_206 ?_
                  have hp := hp.2
                  refine lv_iload hx hb dX10_cut_207 (lv_at hl 6 rfl) ?_
                  refine lv_isub hx hb dX10_cut_209 ?_
                  refine hp_iast (t := 2005) (n := 24) hx hb hK h hob58 (by decide) (fun _ _ _ => rfl) hp.1 dX10_cut_210 (fun H locs w63 ew63 h => ?_)
                  have hp := hp.2 w63 ew63
                  refine lv_aload_n hx hb dX10_cut_211 rfl (lv_at hl 2 rfl) ?_
                  obtain ⟨b64, eb64, hob64, hp⟩ := hp
                  refine hp_get (ci := 10) (v := .ref b64) hx hb hts ix_X10_cut_10 hown hK h ho (by decide) rfl 8 (by decide) (hts _ lk_X10_cut_25) (fun _ h9 => h9) (by show some (va_rf (zR z 1008 o)) = some (Value.ref b64); rw [eb64]; rfl) dX10_cut_212 ?_
                  refine lv_iload hx hb dX10_cut_215 (lv_at hl 1 rfl) ?_
                  refine lv_dup2_11 hx hb dX10_cut_217 rfl rfl ?_
                  refine hp_iald (t := 2008) (n := 24) hx hb hK h hob64 (by decide) (fun _ _ _ => rfl) hp.1 dX10_cut_218 ?_
                  have hp := hp.2
                  refine lv_iload hx hb dX10_cut_219 (lv_at hl 6 rfl) ?_
                  refine lv_iadd hx hb dX10_cut_221 ?_
                  refine hp_iast (t := 2008) (n := 24) hx hb hK h hob64 (by decide) (fun _ _ _ => rfl) hp.1 dX10_cut_222 (fun H locs w65 ew65 h => ?_)
                  have hp := hp.2 w65 ew65
                  refine lv_aload_n hx hb dX10_cut_223 rfl (lv_at hl 2 rfl) ?_
                  obtain ⟨b66, eb66, hob66, hp⟩ := hp
                  refine hp_get (ci := 10) (v := .ref b66) hx hb hts ix_X10_cut_10 hown hK h ho (by decide) rfl 16 (by decide) (hts _ lk_X10_cut_46) (fun _ h9 => h9) (by show some (va_rf (zR z 1016 o)) = some (Value.ref b66); rw [eb66]; rfl) dX10_cut_224 ?_
                  refine lv_iload_n hx hb dX10_cut_227 rfl (lv_at hl 5 rfl) ?_
                  refine lv_dup2_11 hx hb dX10_cut_228 rfl rfl ?_
                  refine hp_iald (t := 2016) (n := 8) hx hb hK h hob66 (by decide) (fun _ _ _ => rfl) hp.1 dX10_cut_229 ?_
                  have hp := hp.2
                  refine lv_iload hx hb dX10_cut_230 (lv_at hl 6 rfl) ?_
                  refine lv_iadd hx hb dX10_cut_232 ?_
                  refine hp_iast (t := 2016) (n := 8) hx hb hK h hob66 (by decide) (fun _ _ _ => rfl) hp.1 dX10_cut_233 (fun H locs w67 ew67 h => ?_)
                  have hp := hp.2 w67 ew67
                  refine lv_aload_n hx hb dX10_cut_234 rfl (lv_at hl 2 rfl) ?_
                  obtain ⟨b68, eb68, hob68, hp⟩ := hp
                  refine hp_get (ci := 10) (v := .ref b68) hx hb hts ix_X10_cut_10 hown hK h ho (by decide) rfl 19 (by decide) (hts _ lk_X10_cut_55) (fun _ h9 => h9) (by show some (va_rf (zR z 1019 o)) = some (Value.ref b68); rw [eb68]; rfl) dX10_cut_235 ?_
                  refine lv_iload_n hx hb dX10_cut_238 rfl (lv_at hl 5 rfl) ?_
                  refine lv_dup2_11 hx hb dX10_cut_239 rfl rfl ?_
                  refine hp_iald (t := 2019) (n := 8) hx hb hK h hob68 (by decide) (fun _ _ _ => rfl) hp.1 dX10_cut_240 ?_
                  have hp := hp.2
                  refine lv_iload hx hb dX10_cut_241 (lv_at hl 6 rfl) ?_
                  refine lv_iadd hx hb dX10_cut_243 ?_
                  refine hp_iast (t := 2019) (n := 8) hx hb hK h hob68 (by decide) (fun _ _ _ => rfl) hp.1 dX10_cut_244 (fun H locs w69 ew69 h => ?_)
                  have hp := hp.2 w69 ew69
                  refine lv_aload_n hx hb dX10_cut_245 rfl (lv_at hl 2 rfl) ?_
                  refine hp_get (ci := 10) (v := .ref b56) hx hb hts ix_X10_cut_10 hown hK h ho (by decide) rfl 6 (by decide) (hts _ lk_X10_cut_19) (fun _ h9 => h9) (by show some (va_rf (zR z 1006 o)) = some (Value.ref b56); rw [eb56]; rfl) dX10_cut_246 ?_
                  refine lv_iload hx hb dX10_cut_249 (lv_at hl 1 rfl) ?_
                  refine lv_aload_n hx hb dX10_cut_251 rfl (lv_at hl 2 rfl) ?_
                  refine hp_get (ci := 10) (v := .int (vI w69 1001 o)) hx hb hts ix_X10_cut_10 hown hK h ho (by decide) rfl 1 (by decide) (hts _ lk_X10_cut_148) (fun _ h9 => h9) rfl dX10_cut_252 ?_
                  refine lv_bipush (v := 100) hx hb dX10_cut_255 (by decide) ?_
                  refine lv_idiv hx hb dX10_cut_257 (by decide) ?_
                  refine hp_iast (t := 2006) (n := 24) hx hb hK h hob56 (by decide) (fun _ _ _ => rfl) hp.1 dX10_cut_258 (fun H locs w70 ew70 h => ?_)
                  have hp := hp.2 w70 ew70
                  refine lv_aload_n hx hb dX10_cut_259 rfl (lv_at hl 2 rfl) ?_
                  refine hp_get (ci := 10) (v := .ref b24) hx hb hts ix_X10_cut_10 hown hK h ho (by decide) rfl 11 (by decide) (hts _ lk_X10_cut_34) (fun _ h9 => h9) (by show some (va_rf (zR z 1011 o)) = some (Value.ref b24); rw [eb24]; rfl) dX10_cut_260 ?_
                  refine lv_iload hx hb dX10_cut_263 (lv_at hl 1 rfl) ?_
                  refine lv_aload_n hx hb dX10_cut_265 rfl (lv_at hl 2 rfl) ?_
                  refine hp_get (ci := 10) (v := .int (vI w70 1001 o)) hx hb hts ix_X10_cut_10 hown hK h ho (by decide) rfl 1 (by decide) (hts _ lk_X10_cut_148) (fun _ h9 => h9) rfl dX10_cut_266 ?_
                  refine hp_iast (t := 2011) (n := 24) hx hb hK h hob24 (by decide) (fun _ _ _ => rfl) hp.1 dX10_cut_269 (fun H locs w71 ew71 h => ?_)
                  have hp := hp.2 w71 ew71
                  refine lv_aload_n hx hb dX10_cut_270 rfl (lv_at hl 2 rfl) ?_
                  obtain ⟨b72, eb72, hob72, hp⟩ := hp
                  refine hp_get (ci := 10) (v := .ref b72) hx hb hts ix_X10_cut_10 hown hK h ho (by decide) rfl 10 (by decide) (hts _ lk_X10_cut_31) (fun _ h9 => h9) (by show some (va_rf (zR z 1010 o)) = some (Value.ref b72); rw [eb72]; rfl) dX10_cut_271 ?_
                  refine lv_iload hx hb dX10_cut_274 (lv_at hl 1 rfl) ?_
                  refine lv_iload_n hx hb dX10_cut_276 rfl (lv_at hl 5 rfl) ?_
                  refine hp_iast (t := 2010) (n := 24) hx hb hK h hob72 (by decide) (fun _ _ _ => rfl) hp.1 dX10_cut_277 (fun H locs w73 ew73 h => ?_)
                  have hp := hp.2 w73 ew73
                  refine lv_aload_n hx hb dX10_cut_278 rfl (lv_at hl 2 rfl) ?_
                  refine lv_iload_n hx hb dX10_cut_279 rfl (lv_at hl 3 rfl) ?_
                  refine lv_iload_n hx hb dX10_cut_280 rfl (lv_at hl 5 rfl) ?_
                  refine lv_iload hx hb dX10_cut_281 (lv_at hl 6 rfl) ?_
                  refine hp_cVv ⟨hx, hb, hml, hown, hts⟩ (k_X10_owe l G z w73 _ o p0 p2 p3 _ hp) (cwV 3 hts gX10_cut_X10_owe rfl rfl rfl (by decide +kernel) ⟨Nat.le_of_ble_eq_true rfl, Nat.le_of_ble_eq_true rfl⟩) ho (by decide) rfl hK h hA hE rfl hl.1 rfl (Nat.le_of_ble_eq_true rfl) dX10_cut_283 ⟨Nat.le_of_ble_eq_true rfl, Nat.le_of_ble_eq_true rfl⟩ (fun w74 H locs hp h => ?_)
                  refine lv_iconst (v := 0) hx hb dX10_cut_286 (by decide) ?_
                  exact hp_iret hx hb hr rfl hlocks hK h hp dX10_cut_287
                · have hp := hp.2 hc62
                  refine lv_iconst (v := 5) hx hb dX10_cut_197 (by decide) ?_
                  exact hp_iret hx hb hr rfl hlocks hK h hp dX10_cut_198
              · have hp := hp.2 hc59
                refine lv_iconst (v := 4) hx hb dX10_cut_185 (by decide) ?_
                exact hp_iret hx hb hr rfl hlocks hK h hp dX10_cut_186
            · have hp := hp.2 hc57
              refine lv_aload_n hx hb dX10_cut_149 rfl (lv_at hl 2 rfl) ?_
              refine hp_get (ci := 10) (v := .int (vI w31 1001 o)) hx hb hts ix_X10_cut_10 hown hK h ho (by decide) rfl 1 (by decide) (hts _ lk_X10_cut_148) (fun _ h9 => h9) rfl dX10_cut_150 ?_
              refine lv_bipush (v := 100) hx hb dX10_cut_153 (by decide) ?_
              refine lv_idiv hx hb dX10_cut_155 (by decide) ?_
              refine lv_aload_n hx hb dX10_cut_156 rfl (lv_at hl 2 rfl) ?_
              refine hp_get (ci := 10) (v := .ref b56) hx hb hts ix_X10_cut_10 hown hK h ho (by decide) rfl 6 (by decide) (hts _ lk_X10_cut_19) (fun _ h9 => h9) (by show some (va_rf (zR z 1006 o)) = some (Value.ref b56); rw [eb56]; rfl) dX10_cut_157 ?_
              refine lv_iload hx hb dX10_cut_160 (lv_at hl 1 rfl) ?_
              refine hp_iald (t := 2006) (n := 24) hx hb hK h hob56 (by decide) (fun _ _ _ => rfl) hp.1 dX10_cut_162 ?_
              have hp := hp.2
              refine lv_isub hx hb dX10_cut_163 ?_
              refine lv_aload_n hx hb dX10_cut_164 rfl (lv_at hl 2 rfl) ?_
              refine hp_get (ci := 10) (v := .int (vI w31 1031 o)) hx hb hts ix_X10_cut_10 hown hK h ho (by decide) rfl 31 (by decide) (hts _ lk_X10_cut_82) (fun _ h9 => h9) rfl dX10_cut_165 ?_
              refine lv_icmp_gt (tgt := 173) hx hb dX10_cut_168 (by decide) (fun hc76 => ?_) (fun hc76 => ?_)
              · have hp := hp.1 hc76
                refine lv_aload_n hx hb dX10_cut_173 rfl (lv_at hl 2 rfl) ?_
                obtain ⟨b77, eb77, hob77, hp⟩ := hp
                refine hp_get (ci := 10) (v := .ref b77) hx hb hts ix_X10_cut_10 hown hK h ho (by decide) rfl 5 (by decide) (hts _ lk_X10_cut_16) (fun _ h9 => h9) (by show some (va_rf (zR z 1005 o)) = some (Value.ref b77); rw [eb77]; rfl) dX10_cut_174 ?_
                refine lv_iload hx hb dX10_cut_177 (lv_at hl 1 rfl) ?_
                refine hp_iald (t := 2005) (n := 24) hx hb hK h hob77 (by decide) (fun _ _ _ => rfl) hp.1 dX10_cut_179 ?_
                have hp := hp.2
                refine lv_iload hx hb dX10_cut_180 (lv_at hl 6 rfl) ?_
                refine lv_icmp_ge (tgt := 187) hx hb dX10_cut_182 (by decide) (fun hc78 => ?_) (fun hc78 => ?_)
                · have hp := hp.1 hc78
                  refine lv_aload_n hx hb dX10_cut_187 rfl (lv_at hl 2 rfl) ?_
                  refine lv_iload_n hx hb dX10_cut_188 rfl (lv_at hl 5 rfl) ?_
                  refine hp_cVi ⟨hx, hb, hml, hown, hts⟩ (k_X10_workLeft l G z w31 _ o p2 _ hp) (cwV 1 hts gX10_cut_X10_workLeft rfl rfl rfl (by decide +kernel) ⟨Nat.le_of_ble_eq_true rfl, Nat.le_of_ble_eq_true rfl⟩) ho (by decide) rfl hK h hA hE rfl hl.1 rfl (Nat.le_of_ble_eq_true rfl) dX10_cut_189 ⟨Nat.le_of_ble_eq_true rfl, Nat.le_of_ble_eq_true rfl⟩ (fun r80 w79 H locs hp h => ?_)
                  refine lv_iload hx hb dX10_cut_192 (lv_at hl 6 rfl) ?_
                  refine lv_icmp_ge (tgt := 199) hx hb dX10_cut_194 (by decide) (fun hc81 => ?_) (fun hc81 => ?_)
                  · have hp := hp.1 hc81
                    refine lv_aload_n hx hb dX10_cut_199 rfl (lv_at hl 2 rfl) ?_
                    refine hp_get (ci := 10) (v := .ref b77) hx hb hts ix_X10_cut_10 hown hK h ho (by decide) rfl 5 (by decide) (hts _ lk_X10_cut_16) (fun _ h9 => h9) (by show some (va_rf (zR z 1005 o)) = some (Value.ref b77); rw [eb77]; rfl) dX10_cut_200 ?_
                    refine lv_iload hx hb dX10_cut_203 (lv_at hl 1 rfl) ?_
                    refine lv_dup2_11 hx hb dX10_cut_205 rfl rfl ?_
                    refine hp_iald (t := 2005) (n := 24) hx hb hK h hob77 (by decide) (fun _ _ _ => rfl) hp.1 dX10_cut_206 ?_
                    have hp := hp.2
                    refine lv_iload hx hb dX10_cut_207 (lv_at hl 6 rfl) ?_
                    refine lv_isub hx hb dX10_cut_209 ?_
                    refine hp_iast (t := 2005) (n := 24) hx hb hK h hob77 (by decide) (fun _ _ _ => rfl) hp.1 dX10_cut_210 (fun H locs w82 ew82 h => ?_)
                    have hp := hp.2 w82 ew82
                    refine lv_aload_n hx hb dX10_cut_211 rfl (lv_at hl 2 rfl) ?_
                    obtain ⟨b83, eb83, hob83, hp⟩ := hp
                    refine hp_get (ci := 10) (v := .ref b83) hx hb hts ix_X10_cut_10 hown hK h ho (by decide) rfl 8 (by decide) (hts _ lk_X10_cut_25) (fun _ h9 => h9) (by show some (va_rf (zR z 1008 o)) = some (Value.ref b83); rw [eb83]; rfl) dX10_cut_212 ?_
                    refine lv_iload hx hb dX10_cut_215 (lv_at hl 1 rfl) ?_
                    refine lv_dup2_11 hx hb dX10_cut_217 rfl rfl ?_
                    refine hp_iald (t := 2008) (n := 24) hx hb hK h hob83 (by decide) (fun _ _ _ => rfl) hp.1 dX10_cut_218 ?_
                    have hp := hp.2
                    refine lv_iload hx hb dX10_cut_219 (lv_at hl 6 rfl) ?_
                    refine lv_iadd hx hb dX10_cut_221 ?_
                    refine hp_iast (t := 2008) (n := 24) hx hb hK h hob83 (by decide) (fun _ _ _ => rfl) hp.1 dX10_cut_222 (fun H locs w84 ew84 h => ?_)
                    have hp := hp.2 w84 ew84
                    refine lv_aload_n hx hb dX10_cut_223 rfl (lv_at hl 2 rfl) ?_
                    obtain ⟨b85, eb85, hob85, hp⟩ := hp
                    refine hp_get (ci := 10) (v := .ref b85) hx hb hts ix_X10_cut_10 hown hK h ho (by decide) rfl 16 (by decide) (hts _ lk_X10_cut_46) (fun _ h9 => h9) (by show some (va_rf (zR z 1016 o)) = some (Value.ref b85); rw [eb85]; rfl) dX10_cut_224 ?_
                    refine lv_iload_n hx hb dX10_cut_227 rfl (lv_at hl 5 rfl) ?_
                    refine lv_dup2_11 hx hb dX10_cut_228 rfl rfl ?_
                    refine hp_iald (t := 2016) (n := 8) hx hb hK h hob85 (by decide) (fun _ _ _ => rfl) hp.1 dX10_cut_229 ?_
                    have hp := hp.2
                    refine lv_iload hx hb dX10_cut_230 (lv_at hl 6 rfl) ?_
                    refine lv_iadd hx hb dX10_cut_232 ?_
                    refine hp_iast (t := 2016) (n := 8) hx hb hK h hob85 (by decide) (fun _ _ _ => rfl) hp.1 dX10_cut_233 (fun H locs w86 ew86 h => ?_)
                    have hp := hp.2 w86 ew86
                    refine lv_aload_n hx hb dX10_cut_234 rfl (lv_at hl 2 rfl) ?_
                    obtain ⟨b87, eb87, hob87, hp⟩ := hp
                    refine hp_get (ci := 10) (v := .ref b87) hx hb hts ix_X10_cut_10 hown hK h ho (by decide) rfl 19 (by decide) (hts _ lk_X10_cut_55) (fun _ h9 => h9) (by show some (va_rf (zR z 1019 o)) = some (Value.ref b87); rw [eb87]; rfl) dX10_cut_235 ?_
                    refine lv_iload_n hx hb dX10_cut_238 rfl (lv_at hl 5 rfl) ?_
                    refine lv_dup2_11 hx hb dX10_cut_239 rfl rfl ?_
                    refine hp_iald (t := 2019) (n := 8) hx hb hK h hob87 (by decide) (fun _ _ _ => rfl) hp.1 dX10_cut_240 ?_
                    have hp := hp.2
                    refine lv_iload hx hb dX10_cut_241 (lv_at hl 6 rfl) ?_
                    refine lv_iadd hx hb dX10_cut_243 ?_
                    refine hp_iast (t := 2019) (n := 8) hx hb hK h hob87 (by decide) (fun _ _ _ => rfl) hp.1 dX10_cut_244 (fun H locs w88 ew88 h => ?_)
                    have hp := hp.2 w88 ew88
                    refine lv_aload_n hx hb dX10_cut_245 rfl (lv_at hl 2 rfl) ?_
                    refine hp_get (ci := 10) (v := .ref b56) hx hb hts ix_X10_cut_10 hown hK h ho (by decide) rfl 6 (by decide) (hts _ lk_X10_cut_19) (fun _ h9 => h9) (by show some (va_rf (zR z 1006 o)) = some (Value.ref b56); rw [eb56]; rfl) dX10_cut_246 ?_
                    refine lv_iload hx hb dX10_cut_249 (lv_at hl 1 rfl) ?_
                    refine lv_aload_n hx hb dX10_cut_251 rfl (lv_at hl 2 rfl) ?_
                    refine hp_get (ci := 10) (v := .int (vI w88 1001 o)) hx hb hts ix_X10_cut_10 hown hK h ho (by decide) rfl 1 (by decide) (hts _ lk_X10_cut_148) (fun _ h9 => h9) rfl dX10_cut_252 ?_
                    refine lv_bipush (v := 100) hx hb dX10_cut_255 (by decide) ?_
                    refine lv_idiv hx hb dX10_cut_257 (by decide) ?_
                    refine hp_iast (t := 2006) (n := 24) hx hb hK h hob56 (by decide) (fun _ _ _ => rfl) hp.1 dX10_cut_258 (fun H locs w89 ew89 h => ?_)
                    have hp := hp.2 w89 ew89
                    refine lv_aload_n hx hb dX10_cut_259 rfl (lv_at hl 2 rfl) ?_
                    refine hp_get (ci := 10) (v := .ref b24) hx hb hts ix_X10_cut_10 hown hK h ho (by decide) rfl 11 (by decide) (hts _ lk_X10_cut_34) (fun _ h9 => h9) (by show some (va_rf (zR z 1011 o)) = some (Value.ref b24); rw [eb24]; rfl) dX10_cut_260 ?_
                    refine lv_iload hx hb dX10_cut_263 (lv_at hl 1 rfl) ?_
                    refine lv_aload_n hx hb dX10_cut_265 rfl (lv_at hl 2 rfl) ?_
                    refine hp_get (ci := 10) (v := .int (vI w89 1001 o)) hx hb hts ix_X10_cut_10 hown hK h ho (by decide) rfl 1 (by decide) (hts _ lk_X10_cut_148) (fun _ h9 => h9) rfl dX10_cut_266 ?_
                    refine hp_iast (t := 2011) (n := 24) hx hb hK h hob24 (by decide) (fun _ _ _ => rfl) hp.1 dX10_cut_269 (fun H locs w90 ew90 h => ?_)
                    have hp := hp.2 w90 ew90
                    refine lv_aload_n hx hb dX10_cut_270 rfl (lv_at hl 2 rfl) ?_
                    obtain ⟨b91, eb91, hob91, hp⟩ := hp
                    refine hp_get (ci := 10) (v := .ref b91) hx hb hts ix_X10_cut_10 hown hK h ho (by decide) rfl 10 (by decide) (hts _ lk_X10_cut_31) (fun _ h9 => h9) (by show some (va_rf (zR z 1010 o)) = some (Value.ref b91); rw [eb91]; rfl) dX10_cut_271 ?_
                    refine lv_iload hx hb dX10_cut_274 (lv_at hl 1 rfl) ?_
                    refine lv_iload_n hx hb dX10_cut_276 rfl (lv_at hl 5 rfl) ?_
                    refine hp_iast (t := 2010) (n := 24) hx hb hK h hob91 (by decide) (fun _ _ _ => rfl) hp.1 dX10_cut_277 (fun H locs w92 ew92 h => ?_)
                    have hp := hp.2 w92 ew92
                    refine lv_aload_n hx hb dX10_cut_278 rfl (lv_at hl 2 rfl) ?_
                    refine lv_iload_n hx hb dX10_cut_279 rfl (lv_at hl 3 rfl) ?_
                    refine lv_iload_n hx hb dX10_cut_280 rfl (lv_at hl 5 rfl) ?_
                    refine lv_iload hx hb dX10_cut_281 (lv_at hl 6 rfl) ?_
                    refine hp_cVv ⟨hx, hb, hml, hown, hts⟩ (k_X10_owe l G z w92 _ o p0 p2 p3 _ hp) (cwV 3 hts gX10_cut_X10_owe rfl rfl rfl (by decide +kernel) ⟨Nat.le_of_ble_eq_true rfl, Nat.le_of_ble_eq_true rfl⟩) ho (by decide) rfl hK h hA hE rfl hl.1 rfl (Nat.le_of_ble_eq_true rfl) dX10_cut_283 ⟨Nat.le_of_ble_eq_true rfl, Nat.le_of_ble_eq_true rfl⟩ (fun w93 H locs hp h => ?_)
                    refine lv_iconst (v := 0) hx hb dX10_cut_286 (by decide) ?_
                    exact hp_iret hx hb hr rfl hlocks hK h hp dX10_cut_287
                  · have hp := hp.2 hc81
                    refine lv_iconst (v := 5) hx hb dX10_cut_197 (by decide) ?_
                    exact hp_iret hx hb hr rfl hlocks hK h hp dX10_cut_198
                · have hp := hp.2 hc78
                  refine lv_iconst (v := 4) hx hb dX10_cut_185 (by decide) ?_
                  exact hp_iret hx hb hr rfl hlocks hK h hp dX10_cut_186
              · have hp := hp.2 hc76
                refine lv_iconst (v := 3) hx hb dX10_cut_171 (by decide) ?_
                exact hp_iret hx hb hr rfl hlocks hK h hp dX10_cut_172
        · have hp := hp.2 hc35
          refine lv_iconst (v := 2) hx hb dX10_cut_132 (by decide) ?_
          exact hp_iret hx hb hr rfl hlocks hK h hp dX10_cut_133
      · have hp := hp.2 hc33
        refine lv_iconst (v := 1) hx hb dX10_cut_116 (by decide) ?_
        exact hp_iret hx hb hr rfl hlocks hK h hp dX10_cut_117
    · have hp := hp.2 hc22
      refine lv_iconst (v := 0) hx hb dX10_cut_59 (by decide) ?_
      exact hp_iret hx hb hr rfl hlocks hK h hp dX10_cut_60
abbrev rmX10_gather : Room := { frames := 3, cells := 0, slots := 0, locals := 69 }
theorem ix_X10_gather_10 : ∀ w ∈ wsX100, w ∈ wsX10_gather := by decide +kernel
theorem lk_X10_gather_127 : Cond.fieldLink RX10 127 "KelpShoresModel" "thrown" "I" ∈ wsX10_gather := by decide +kernel
theorem lk_X10_gather_148 : Cond.fieldLink RX10 148 "KelpShoresModel" "today" "I" ∈ wsX10_gather := by decide +kernel
theorem lk_X10_gather_40 : Cond.fieldLink RX10 40 "KelpShoresModel" "cast" "[I" ∈ wsX10_gather := by decide +kernel
theorem lk_X10_gather_46 : Cond.fieldLink RX10 46 "KelpShoresModel" "wet" "[I" ∈ wsX10_gather := by decide +kernel
theorem lk_X10_gather_55 : Cond.fieldLink RX10 55 "KelpShoresModel" "work" "[I" ∈ wsX10_gather := by decide +kernel
def wp_X10_gather (z : Zt) (o : Nat) (p0 : Int32) (p1 : Int32) (p2 : Int32) (w : Vt) (K : Int32 → Vt → Prop) : Prop := isO z 10 o ∧ ∀ w1 : Vt, w1 = uI w 1000 o 0 → wp_X10_noShore z o p0 w1 (fun r3 w2 => ∃ J4 : Int32 → Vt → Prop, (∀ (x5 : Int32) (w6 : Vt), J4 x5 w6 → wp_X10_throwsIf z o x5 1 w6 (fun r12 w11 => (¬ r12 = 0 → K 0 w11) ∧ (r12 = 0 → wp_X10_in z p2 1 1000 w11 (fun r15 w14 => ∃ J16 : Int32 → Vt → Prop, (∀ (x17 : Int32) (w18 : Vt), J16 x17 w18 → wp_X10_throwsIf z o x17 2 w18 (fun r21 w20 => (r21 = 0 → wp_X10_right z o p0 p1 ((vI w20 1001 o) - (vI w20 1001 o) / 100 * 100) w20 (fun r24 w23 => (0 ≤ r24 → ∃ b26 : Nat, zR z 1013 o = some b26 ∧ isO z 2013 b26 ∧ vp_in p0 6 ∧ (p2 ≤ (vA w23 2013 b26 (p0 : Int32).toNatClampNeg) → wp_X10_workLeft z o p1 w23 (fun r29 w28 => (p2 ≤ r29 → vp_in p0 6 ∧ vp_in p0 6 ∧ ∀ w31 : Vt, w31 = uA w28 2013 b26 (p0 : Int32).toNatClampNeg ((vA w28 2013 b26 (p0 : Int32).toNatClampNeg) - p2) → ∃ b32 : Nat, zR z 1016 o = some b32 ∧ isO z 2016 b32 ∧ vp_in p1 8 ∧ vp_in p1 8 ∧ ∀ w33 : Vt, w33 = uA w31 2016 b32 (p1 : Int32).toNatClampNeg ((vA w31 2016 b32 (p1 : Int32).toNatClampNeg) + p2) → ∃ b34 : Nat, zR z 1019 o = some b34 ∧ isO z 2019 b34 ∧ vp_in p1 8 ∧ vp_in p1 8 ∧ ∀ w35 : Vt, w35 = uA w33 2019 b34 (p1 : Int32).toNatClampNeg ((vA w33 2019 b34 (p1 : Int32).toNatClampNeg) + p2) → wp_X10_owe z o p0 p1 p2 w35 (fun w36 => K 0 w36)) ∧ (¬ p2 ≤ r29 → K 5 w28))) ∧ (¬ p2 ≤ (vA w23 2013 b26 (p0 : Int32).toNatClampNeg) → K 4 w23)) ∧ (¬ 0 ≤ r24 → K 1 w23))) ∧ (¬ r21 = 0 → K 0 w20))) ∧ (¬ r15 = 0 → J16 0 w14) ∧ (r15 = 0 → J16 1 w14))))) ∧ (¬ r3 = 0 → J4 1 w2) ∧ (r3 = 0 → wp_X10_noFamily z p1 w2 (fun r9 w8 => (r9 = 0 → J4 0 w8) ∧ (¬ r9 = 0 → J4 1 w8))))
set_option maxHeartbeats 4000000 in
set_option maxRecDepth 100000 in
theorem k_X10_gather (l : Launch) (G : Gt) (z : Zt) (w : Vt) (sz : Nat) (o : Nat) (p0 : Int32) (p1 : Int32) (p2 : Int32) (K : Int32 → Vt → Prop) (hp : wp_X10_gather z o p0 p1 p2 w K) : MI l yX10_gather wsX10_gather rmX10_gather G z w sz [.ref o, .int p0, .int p1, .int p2] K := by
  refine Met.ofW (cc := cX10_gather) (maxL := 4) (ret := (some .int)) (by decide +kernel) rfl ?_
  intro p e s m args below meth c s₁ B hml hv
  obtain ⟨rfl, rfl, C, h⟩ := hp_start B hml hv
  generalize gA G z w s.heap.size = A at C h ⊢
  obtain ⟨hx, hb, hr, hlocks, hml, hown, hts, hK, hA, hE⟩ := id C
  obtain ⟨ho, hp⟩ := hp
  have hl := lv_entry ([.ref o, .int p0, .int p1, .int p2]) (n := 4) (Nat.le_of_ble_eq_true rfl)
  rw [lg_entry_eq]
  generalize (lg_sl ([.ref o, .int p0, .int p1, .int p2]) ++ List.replicate (4 - (lg_sl ([.ref o, .int p0, .int p1, .int p2])).length) Slot.unset).toArray = ls at hl ⊢
  have hl : lv_has ls 4 [(0, .ref o), (1, .int p0), (2, .int p1), (3, .int p2)] := hl
  refine lv_aload_n hx hb dX10_gather_0 rfl (lv_at hl 0 rfl) ?_
  refine lv_iconst (v := 0) hx hb dX10_gather_1 (by decide) ?_
  refine hp_puti (ci := 10) (ty := .int) (x := 0) hx hb hts ix_X10_gather_10 tyX10 tyX10_ok nmX10 hown hK h ho (by decide) rfl 0 1000 (by decide) (hts _ lk_X10_gather_127) (fun _ h9 => h9) rfl (by decide +kernel) rfl rfl (fun _ _ => rfl) (fun _ _ => Nat.le_of_ble_eq_true rfl) dX10_gather_2 (fun H locs w1 ew1 h => ?_)
  have hp := hp w1 ew1
  refine lv_aload_n hx hb dX10_gather_5 rfl (lv_at hl 0 rfl) ?_
  refine lv_aload_n hx hb dX10_gather_6 rfl (lv_at hl 0 rfl) ?_
  refine lv_iload_n hx hb dX10_gather_7 rfl (lv_at hl 1 rfl) ?_
  refine hp_cVi ⟨hx, hb, hml, hown, hts⟩ (k_X10_noShore l G z w1 _ o p0 _ hp) (cwV 1 hts gX10_gather_X10_noShore rfl rfl rfl (by decide +kernel) ⟨Nat.le_of_ble_eq_true rfl, Nat.le_of_ble_eq_true rfl⟩) ho (by decide) rfl hK h hA hE rfl hl.1 rfl (Nat.le_of_ble_eq_true rfl) dX10_gather_8 ⟨Nat.le_of_ble_eq_true rfl, Nat.le_of_ble_eq_true rfl⟩ (fun r3 w2 H locs hp h => ?_)
  obtain ⟨J4, jJ4, hp⟩ := hp
  refine hp_jn1 (G := G) (A := A) (z := z) (J := J4) (nL := 4) (j := 26) (lvf := fun x5 => [(0, .ref o), (1, .int p0), (2, .int p1), (3, .int p2)]) (stf := fun x5 => [.int x5, .ref o]) (fun kJ4 => ?_) (fun x5 w6 H locs ls hp h hl => ?_)
  · refine lv_if_ne (tgt := 21) hx hb dX10_gather_11 (by decide) (fun hc7 => ?_) (fun hc7 => ?_)
    · have hp := hp.1 hc7
      refine lv_iconst (v := 1) hx hb dX10_gather_21 (by decide) ?_
      refine lv_goto (tgt := 26) hx hb dX10_gather_22 (by decide) ?_
      exact kJ4 1 w2 _ _ _ hp h (lv_sub hl [0, 1, 2, 3] rfl)
    · have hp := hp.2 hc7
      refine lv_iload_n hx hb dX10_gather_14 rfl (lv_at hl 2 rfl) ?_
      refine hp_cSi ⟨hx, hb, hml, hown, hts⟩ (k_X10_noFamily l G z w2 _ p1 _ hp) (cwS 1 hts gX10_gather_X10_noFamily rfl rfl rfl (by decide +kernel) ⟨Nat.le_of_ble_eq_true rfl, Nat.le_of_ble_eq_true rfl⟩) hK h hA hE rfl hl.1 rfl (Nat.le_of_ble_eq_true rfl) dX10_gather_15 ⟨Nat.le_of_ble_eq_true rfl, Nat.le_of_ble_eq_true rfl⟩ (fun r9 w8 H locs hp h => ?_)
      refine lv_if_eq (tgt := 25) hx hb dX10_gather_18 (by decide) (fun hc10 => ?_) (fun hc10 => ?_)
      · have hp := hp.1 hc10
        refine lv_iconst (v := 0) hx hb dX10_gather_25 (by decide) ?_
        exact kJ4 0 w8 _ _ _ hp h (lv_sub hl [0, 1, 2, 3] rfl)
      · have hp := hp.2 hc10
        refine lv_iconst (v := 1) hx hb dX10_gather_21 (by decide) ?_
        refine lv_goto (tgt := 26) hx hb dX10_gather_22 (by decide) ?_
        exact kJ4 1 w8 _ _ _ hp h (lv_sub hl [0, 1, 2, 3] rfl)
  have hp := jJ4 x5 w6 hp
  refine lv_iconst (v := 1) hx hb dX10_gather_26 (by decide) ?_
  refine hp_cVi ⟨hx, hb, hml, hown, hts⟩ (k_X10_throwsIf l G z w6 _ o x5 1 _ hp) (cwV 2 hts gX10_gather_X10_throwsIf rfl rfl rfl (by decide +kernel) ⟨Nat.le_of_ble_eq_true rfl, Nat.le_of_ble_eq_true rfl⟩) ho (by decide) rfl hK h hA hE rfl hl.1 rfl (Nat.le_of_ble_eq_true rfl) dX10_gather_27 ⟨Nat.le_of_ble_eq_true rfl, Nat.le_of_ble_eq_true rfl⟩ (fun r12 w11 H locs hp h => ?_)
  refine lv_if_ne (tgt := 57) hx hb dX10_gather_30 (by decide) (fun hc13 => ?_) (fun hc13 => ?_)
  · have hp := hp.1 hc13
    refine lv_iconst (v := 0) hx hb dX10_gather_57 (by decide) ?_
    exact hp_iret hx hb hr rfl hlocks hK h hp dX10_gather_58
  · have hp := hp.2 hc13
    refine lv_aload_n hx hb dX10_gather_33 rfl (lv_at hl 0 rfl) ?_
    refine lv_iload_n hx hb dX10_gather_34 rfl (lv_at hl 3 rfl) ?_
    refine lv_iconst (v := 1) hx hb dX10_gather_35 (by decide) ?_
    refine lv_sipush (v := 1000) hx hb dX10_gather_36 (by decide) ?_
    refine hp_cSi ⟨hx, hb, hml, hown, hts⟩ (k_X10_in l G z w11 _ p2 1 1000 _ hp) (cwS 3 hts gX10_gather_X10_in rfl rfl rfl (by decide +kernel) ⟨Nat.le_of_ble_eq_true rfl, Nat.le_of_ble_eq_true rfl⟩) hK h hA hE rfl hl.1 rfl (Nat.le_of_ble_eq_true rfl) dX10_gather_39 ⟨Nat.le_of_ble_eq_true rfl, Nat.le_of_ble_eq_true rfl⟩ (fun r15 w14 H locs hp h => ?_)
    obtain ⟨J16, jJ16, hp⟩ := hp
    refine hp_jn1 (G := G) (A := A) (z := z) (J := J16) (nL := 4) (j := 50) (lvf := fun x17 => [(0, .ref o), (1, .int p0), (2, .int p1), (3, .int p2)]) (stf := fun x17 => [.int x17, .ref o]) (fun kJ16 => ?_) (fun x17 w18 H locs ls hp h hl => ?_)
    · refine lv_if_ne (tgt := 49) hx hb dX10_gather_42 (by decide) (fun hc19 => ?_) (fun hc19 => ?_)
      · have hp := hp.1 hc19
        refine lv_iconst (v := 0) hx hb dX10_gather_49 (by decide) ?_
        exact kJ16 0 w14 _ _ _ hp h (lv_sub hl [0, 1, 2, 3] rfl)
      · have hp := hp.2 hc19
        refine lv_iconst (v := 1) hx hb dX10_gather_45 (by decide) ?_
        refine lv_goto (tgt := 50) hx hb dX10_gather_46 (by decide) ?_
        exact kJ16 1 w14 _ _ _ hp h (lv_sub hl [0, 1, 2, 3] rfl)
    have hp := jJ16 x17 w18 hp
    refine lv_iconst (v := 2) hx hb dX10_gather_50 (by decide) ?_
    refine hp_cVi ⟨hx, hb, hml, hown, hts⟩ (k_X10_throwsIf l G z w18 _ o x17 2 _ hp) (cwV 2 hts gX10_gather_X10_throwsIf rfl rfl rfl (by decide +kernel) ⟨Nat.le_of_ble_eq_true rfl, Nat.le_of_ble_eq_true rfl⟩) ho (by decide) rfl hK h hA hE rfl hl.1 rfl (Nat.le_of_ble_eq_true rfl) dX10_gather_51 ⟨Nat.le_of_ble_eq_true rfl, Nat.le_of_ble_eq_true rfl⟩ (fun r21 w20 H locs hp h => ?_)
    refine lv_if_eq (tgt := 59) hx hb dX10_gather_54 (by decide) (fun hc22 => ?_) (fun hc22 => ?_)
    · have hp := hp.1 hc22
      refine lv_aload_n hx hb dX10_gather_59 rfl (lv_at hl 0 rfl) ?_
      refine lv_iload_n hx hb dX10_gather_60 rfl (lv_at hl 1 rfl) ?_
      refine lv_iload_n hx hb dX10_gather_61 rfl (lv_at hl 2 rfl) ?_
      refine lv_aload_n hx hb dX10_gather_62 rfl (lv_at hl 0 rfl) ?_
      refine hp_get (ci := 10) (v := .int (vI w20 1001 o)) hx hb hts ix_X10_gather_10 hown hK h ho (by decide) rfl 1 (by decide) (hts _ lk_X10_gather_148) (fun _ h9 => h9) rfl dX10_gather_63 ?_
      refine lv_bipush (v := 100) hx hb dX10_gather_66 (by decide) ?_
      refine lv_irem hx hb dX10_gather_68 (by decide) ?_
      refine hp_cVi ⟨hx, hb, hml, hown, hts⟩ (k_X10_right l G z w20 _ o p0 p1 ((vI w20 1001 o) - (vI w20 1001 o) / 100 * 100) _ hp) (cwV 3 hts gX10_gather_X10_right rfl rfl rfl (by decide +kernel) ⟨Nat.le_of_ble_eq_true rfl, Nat.le_of_ble_eq_true rfl⟩) ho (by decide) rfl hK h hA hE rfl hl.1 rfl (Nat.le_of_ble_eq_true rfl) dX10_gather_69 ⟨Nat.le_of_ble_eq_true rfl, Nat.le_of_ble_eq_true rfl⟩ (fun r24 w23 H locs hp h => ?_)
      refine lv_if_ge (tgt := 77) hx hb dX10_gather_72 (by decide) (fun hc25 => ?_) (fun hc25 => ?_)
      · have hp := hp.1 hc25
        refine lv_aload_n hx hb dX10_gather_77 rfl (lv_at hl 0 rfl) ?_
        obtain ⟨b26, eb26, hob26, hp⟩ := hp
        refine hp_get (ci := 10) (v := .ref b26) hx hb hts ix_X10_gather_10 hown hK h ho (by decide) rfl 13 (by decide) (hts _ lk_X10_gather_40) (fun _ h9 => h9) (by show some (va_rf (zR z 1013 o)) = some (Value.ref b26); rw [eb26]; rfl) dX10_gather_78 ?_
        refine lv_iload_n hx hb dX10_gather_81 rfl (lv_at hl 1 rfl) ?_
        refine hp_iald (t := 2013) (n := 6) hx hb hK h hob26 (by decide) (fun _ _ _ => rfl) hp.1 dX10_gather_82 ?_
        have hp := hp.2
        refine lv_iload_n hx hb dX10_gather_83 rfl (lv_at hl 3 rfl) ?_
        refine lv_icmp_ge (tgt := 89) hx hb dX10_gather_84 (by decide) (fun hc27 => ?_) (fun hc27 => ?_)
        · have hp := hp.1 hc27
          refine lv_aload_n hx hb dX10_gather_89 rfl (lv_at hl 0 rfl) ?_
          refine lv_iload_n hx hb dX10_gather_90 rfl (lv_at hl 2 rfl) ?_
          refine hp_cVi ⟨hx, hb, hml, hown, hts⟩ (k_X10_workLeft l G z w23 _ o p1 _ hp) (cwV 1 hts gX10_gather_X10_workLeft rfl rfl rfl (by decide +kernel) ⟨Nat.le_of_ble_eq_true rfl, Nat.le_of_ble_eq_true rfl⟩) ho (by decide) rfl hK h hA hE rfl hl.1 rfl (Nat.le_of_ble_eq_true rfl) dX10_gather_91 ⟨Nat.le_of_ble_eq_true rfl, Nat.le_of_ble_eq_true rfl⟩ (fun r29 w28 H locs hp h => ?_)
          refine lv_iload_n hx hb dX10_gather_94 rfl (lv_at hl 3 rfl) ?_
          refine lv_icmp_ge (tgt := 100) hx hb dX10_gather_95 (by decide) (fun hc30 => ?_) (fun hc30 => ?_)
          · have hp := hp.1 hc30
            refine lv_aload_n hx hb dX10_gather_100 rfl (lv_at hl 0 rfl) ?_
            refine hp_get (ci := 10) (v := .ref b26) hx hb hts ix_X10_gather_10 hown hK h ho (by decide) rfl 13 (by decide) (hts _ lk_X10_gather_40) (fun _ h9 => h9) (by show some (va_rf (zR z 1013 o)) = some (Value.ref b26); rw [eb26]; rfl) dX10_gather_101 ?_
            refine lv_iload_n hx hb dX10_gather_104 rfl (lv_at hl 1 rfl) ?_
            refine lv_dup2_11 hx hb dX10_gather_105 rfl rfl ?_
            refine hp_iald (t := 2013) (n := 6) hx hb hK h hob26 (by decide) (fun _ _ _ => rfl) hp.1 dX10_gather_106 ?_
            have hp := hp.2
            refine lv_iload_n hx hb dX10_gather_107 rfl (lv_at hl 3 rfl) ?_
            refine lv_isub hx hb dX10_gather_108 ?_
            refine hp_iast (t := 2013) (n := 6) hx hb hK h hob26 (by decide) (fun _ _ _ => rfl) hp.1 dX10_gather_109 (fun H locs w31 ew31 h => ?_)
            have hp := hp.2 w31 ew31
            refine lv_aload_n hx hb dX10_gather_110 rfl (lv_at hl 0 rfl) ?_
            obtain ⟨b32, eb32, hob32, hp⟩ := hp
            refine hp_get (ci := 10) (v := .ref b32) hx hb hts ix_X10_gather_10 hown hK h ho (by decide) rfl 16 (by decide) (hts _ lk_X10_gather_46) (fun _ h9 => h9) (by show some (va_rf (zR z 1016 o)) = some (Value.ref b32); rw [eb32]; rfl) dX10_gather_111 ?_
            refine lv_iload_n hx hb dX10_gather_114 rfl (lv_at hl 2 rfl) ?_
            refine lv_dup2_11 hx hb dX10_gather_115 rfl rfl ?_
            refine hp_iald (t := 2016) (n := 8) hx hb hK h hob32 (by decide) (fun _ _ _ => rfl) hp.1 dX10_gather_116 ?_
            have hp := hp.2
            refine lv_iload_n hx hb dX10_gather_117 rfl (lv_at hl 3 rfl) ?_
            refine lv_iadd hx hb dX10_gather_118 ?_
            refine hp_iast (t := 2016) (n := 8) hx hb hK h hob32 (by decide) (fun _ _ _ => rfl) hp.1 dX10_gather_119 (fun H locs w33 ew33 h => ?_)
            have hp := hp.2 w33 ew33
            refine lv_aload_n hx hb dX10_gather_120 rfl (lv_at hl 0 rfl) ?_
            obtain ⟨b34, eb34, hob34, hp⟩ := hp
            refine hp_get (ci := 10) (v := .ref b34) hx hb hts ix_X10_gather_10 hown hK h ho (by decide) rfl 19 (by decide) (hts _ lk_X10_gather_55) (fun _ h9 => h9) (by show some (va_rf (zR z 1019 o)) = some (Value.ref b34); rw [eb34]; rfl) dX10_gather_121 ?_
            refine lv_iload_n hx hb dX10_gather_124 rfl (lv_at hl 2 rfl) ?_
            refine lv_dup2_11 hx hb dX10_gather_125 rfl rfl ?_
            refine hp_iald (t := 2019) (n := 8) hx hb hK h hob34 (by decide) (fun _ _ _ => rfl) hp.1 dX10_gather_126 ?_
            have hp := hp.2
            refine lv_iload_n hx hb dX10_gather_127 rfl (lv_at hl 3 rfl) ?_
            refine lv_iadd hx hb dX10_gather_128 ?_
            refine hp_iast (t := 2019) (n := 8) hx hb hK h hob34 (by decide) (fun _ _ _ => rfl) hp.1 dX10_gather_129 (fun H locs w35 ew35 h => ?_)
            have hp := hp.2 w35 ew35
            refine lv_aload_n hx hb dX10_gather_130 rfl (lv_at hl 0 rfl) ?_
            refine lv_iload_n hx hb dX10_gather_131 rfl (lv_at hl 1 rfl) ?_
            refine lv_iload_n hx hb dX10_gather_132 rfl (lv_at hl 2 rfl) ?_
            refine lv_iload_n hx hb dX10_gather_133 rfl (lv_at hl 3 rfl) ?_
            refine hp_cVv ⟨hx, hb, hml, hown, hts⟩ (k_X10_owe l G z w35 _ o p0 p1 p2 _ hp) (cwV 3 hts gX10_gather_X10_owe rfl rfl rfl (by decide +kernel) ⟨Nat.le_of_ble_eq_true rfl, Nat.le_of_ble_eq_true rfl⟩) ho (by decide) rfl hK h hA hE rfl hl.1 rfl (Nat.le_of_ble_eq_true rfl) dX10_gather_134 ⟨Nat.le_of_ble_eq_true rfl, Nat.le_of_ble_eq_true rfl⟩ (fun w36 H locs hp h => ?_)
            refine lv_iconst (v := 0) hx hb dX10_gather_137 (by decide) ?_
            exact hp_iret hx hb hr rfl hlocks hK h hp dX10_gather_138
          · have hp := hp.2 hc30
            refine lv_iconst (v := 5) hx hb dX10_gather_98 (by decide) ?_
            exact hp_iret hx hb hr rfl hlocks hK h hp dX10_gather_99
        · have hp := hp.2 hc27
          refine lv_iconst (v := 4) hx hb dX10_gather_87 (by decide) ?_
          exact hp_iret hx hb hr rfl hlocks hK h hp dX10_gather_88
      · have hp := hp.2 hc25
        refine lv_iconst (v := 1) hx hb dX10_gather_75 (by decide) ?_
        exact hp_iret hx hb hr rfl hlocks hK h hp dX10_gather_76
    · have hp := hp.2 hc22
      refine lv_iconst (v := 0) hx hb dX10_gather_57 (by decide) ?_
      exact hp_iret hx hb hr rfl hlocks hK h hp dX10_gather_58
abbrev rmX10_look : Room := { frames := 3, cells := 0, slots := 0, locals := 65 }
theorem ix_X10_look_10 : ∀ w ∈ wsX100, w ∈ wsX10_look := by decide +kernel
theorem lk_X10_look_127 : Cond.fieldLink RX10 127 "KelpShoresModel" "thrown" "I" ∈ wsX10_look := by decide +kernel
theorem lk_X10_look_16 : Cond.fieldLink RX10 16 "KelpShoresModel" "weed" "[I" ∈ wsX10_look := by decide +kernel
theorem lk_X10_look_19 : Cond.fieldLink RX10 19 "KelpShoresModel" "cutYear" "[I" ∈ wsX10_look := by decide +kernel
theorem lk_X10_look_22 : Cond.fieldLink RX10 22 "KelpShoresModel" "grew" "[I" ∈ wsX10_look := by decide +kernel
theorem lk_X10_look_25 : Cond.fieldLink RX10 25 "KelpShoresModel" "cut" "[I" ∈ wsX10_look := by decide +kernel
theorem lk_X10_look_28 : Cond.fieldLink RX10 28 "KelpShoresModel" "torn" "[I" ∈ wsX10_look := by decide +kernel
def wp_X10_look (z : Zt) (o : Nat) (p0 : Int32) (p1 : Int32) (p2 : Int32) (w : Vt) (K : Int32 → Vt → Prop) : Prop := isO z 10 o ∧ ∀ w1 : Vt, w1 = uI w 1000 o 0 → wp_X10_noRock z o p0 p1 w1 (fun r3 w2 => wp_X10_throwsIf z o r3 1 w2 (fun r5 w4 => (r5 = 0 → ∀ x7 : Int32, x7 = (4 * p0) + p1 → (p2 = 0 → ∃ b9 : Nat, zR z 1005 o = some b9 ∧ isO z 2005 b9 ∧ vp_in x7 24 ∧ K (vA w4 2005 b9 (x7 : Int32).toNatClampNeg) w4) ∧ (p2 = 1 → ∃ b11 : Nat, zR z 1006 o = some b11 ∧ isO z 2006 b11 ∧ vp_in x7 24 ∧ K (vA w4 2006 b11 (x7 : Int32).toNatClampNeg) w4) ∧ (p2 = 2 → ∃ b13 : Nat, zR z 1007 o = some b13 ∧ isO z 2007 b13 ∧ vp_in x7 24 ∧ K (vA w4 2007 b13 (x7 : Int32).toNatClampNeg) w4) ∧ (p2 = 3 → ∃ b15 : Nat, zR z 1008 o = some b15 ∧ isO z 2008 b15 ∧ vp_in x7 24 ∧ K (vA w4 2008 b15 (x7 : Int32).toNatClampNeg) w4) ∧ (p2 = 4 → ∃ b17 : Nat, zR z 1009 o = some b17 ∧ isO z 2009 b17 ∧ vp_in x7 24 ∧ K (vA w4 2009 b17 (x7 : Int32).toNatClampNeg) w4) ∧ (¬ p2 = 0 → ¬ p2 = 1 → ¬ p2 = 2 → ¬ p2 = 3 → ¬ p2 = 4 → ∀ w18 : Vt, w18 = uI w4 1000 o 2 → K 0 w18)) ∧ (¬ r5 = 0 → K 0 w4)))
set_option maxHeartbeats 4000000 in
set_option maxRecDepth 100000 in
theorem k_X10_look (l : Launch) (G : Gt) (z : Zt) (w : Vt) (sz : Nat) (o : Nat) (p0 : Int32) (p1 : Int32) (p2 : Int32) (K : Int32 → Vt → Prop) (hp : wp_X10_look z o p0 p1 p2 w K) : MI l yX10_look wsX10_look rmX10_look G z w sz [.ref o, .int p0, .int p1, .int p2] K := by
  refine Met.ofW (cc := cX10_look) (maxL := 5) (ret := (some .int)) (by decide +kernel) rfl ?_
  intro p e s m args below meth c s₁ B hml hv
  obtain ⟨rfl, rfl, C, h⟩ := hp_start B hml hv
  generalize gA G z w s.heap.size = A at C h ⊢
  obtain ⟨hx, hb, hr, hlocks, hml, hown, hts, hK, hA, hE⟩ := id C
  obtain ⟨ho, hp⟩ := hp
  have hl := lv_entry ([.ref o, .int p0, .int p1, .int p2]) (n := 5) (Nat.le_of_ble_eq_true rfl)
  rw [lg_entry_eq]
  generalize (lg_sl ([.ref o, .int p0, .int p1, .int p2]) ++ List.replicate (5 - (lg_sl ([.ref o, .int p0, .int p1, .int p2])).length) Slot.unset).toArray = ls at hl ⊢
  have hl : lv_has ls 5 [(0, .ref o), (1, .int p0), (2, .int p1), (3, .int p2)] := hl
  refine lv_aload_n hx hb dX10_look_0 rfl (lv_at hl 0 rfl) ?_
  refine lv_iconst (v := 0) hx hb dX10_look_1 (by decide) ?_
  refine hp_puti (ci := 10) (ty := .int) (x := 0) hx hb hts ix_X10_look_10 tyX10 tyX10_ok nmX10 hown hK h ho (by decide) rfl 0 1000 (by decide) (hts _ lk_X10_look_127) (fun _ h9 => h9) rfl (by decide +kernel) rfl rfl (fun _ _ => rfl) (fun _ _ => Nat.le_of_ble_eq_true rfl) dX10_look_2 (fun H locs w1 ew1 h => ?_)
  have hp := hp w1 ew1
  refine lv_aload_n hx hb dX10_look_5 rfl (lv_at hl 0 rfl) ?_
  refine lv_aload_n hx hb dX10_look_6 rfl (lv_at hl 0 rfl) ?_
  refine lv_iload_n hx hb dX10_look_7 rfl (lv_at hl 1 rfl) ?_
  refine lv_iload_n hx hb dX10_look_8 rfl (lv_at hl 2 rfl) ?_
  refine hp_cVi ⟨hx, hb, hml, hown, hts⟩ (k_X10_noRock l G z w1 _ o p0 p1 _ hp) (cwV 2 hts gX10_look_X10_noRock rfl rfl rfl (by decide +kernel) ⟨Nat.le_of_ble_eq_true rfl, Nat.le_of_ble_eq_true rfl⟩) ho (by decide) rfl hK h hA hE rfl hl.1 rfl (Nat.le_of_ble_eq_true rfl) dX10_look_9 ⟨Nat.le_of_ble_eq_true rfl, Nat.le_of_ble_eq_true rfl⟩ (fun r3 w2 H locs hp h => ?_)
  refine lv_iconst (v := 1) hx hb dX10_look_12 (by decide) ?_
  refine hp_cVi ⟨hx, hb, hml, hown, hts⟩ (k_X10_throwsIf l G z w2 _ o r3 1 _ hp) (cwV 2 hts gX10_look_X10_throwsIf rfl rfl rfl (by decide +kernel) ⟨Nat.le_of_ble_eq_true rfl, Nat.le_of_ble_eq_true rfl⟩) ho (by decide) rfl hK h hA hE rfl hl.1 rfl (Nat.le_of_ble_eq_true rfl) dX10_look_13 ⟨Nat.le_of_ble_eq_true rfl, Nat.le_of_ble_eq_true rfl⟩ (fun r5 w4 H locs hp h => ?_)
  refine lv_if_eq (tgt := 21) hx hb dX10_look_16 (by decide) (fun hc6 => ?_) (fun hc6 => ?_)
  · have hp := hp.1 hc6
    refine lv_iconst (v := 4) hx hb dX10_look_21 (by decide) ?_
    refine lv_iload_n hx hb dX10_look_22 rfl (lv_at hl 1 rfl) ?_
    refine lv_imul hx hb dX10_look_23 ?_
    refine lv_iload_n hx hb dX10_look_24 rfl (lv_at hl 2 rfl) ?_
    refine lv_iadd hx hb dX10_look_25 ?_
    refine lv_topi (fun x7 ex7 => ?_)
    have hp := hp x7 ex7
    refine lv_istore (lv' := [(4, .int x7), (0, .ref o), (1, .int p0), (2, .int p1), (3, .int p2)]) hx hb dX10_look_26 hl (by decide) rfl (fun ls hl => ?_)
    refine lv_iload_n hx hb dX10_look_28 rfl (lv_at hl 4 rfl) ?_
    by_cases hc8 : p2 = 0
    · refine lv_tableIn (off := 35) (tgt := 64) hx hb dX10_look_29 (by rw [hc8]; decide) (by rw [hc8]; decide) (by rw [hc8]; rfl) (by decide) ?_
      have hp := hp.1 hc8
      refine lv_aload_n hx hb dX10_look_64 rfl (lv_at hl 1 rfl) ?_
      obtain ⟨b9, eb9, hob9, hp⟩ := hp
      refine hp_get (ci := 10) (v := .ref b9) hx hb hts ix_X10_look_10 hown hK h ho (by decide) rfl 5 (by decide) (hts _ lk_X10_look_16) (fun _ h9 => h9) (by show some (va_rf (zR z 1005 o)) = some (Value.ref b9); rw [eb9]; rfl) dX10_look_65 ?_
      refine lv_iload hx hb dX10_look_68 (lv_at hl 0 rfl) ?_
      refine hp_iald (t := 2005) (n := 24) hx hb hK h hob9 (by decide) (fun _ _ _ => rfl) hp.1 dX10_look_70 ?_
      have hp := hp.2
      exact hp_iret hx hb hr rfl hlocks hK h hp dX10_look_71
    have hp := hp.2
    by_cases hc10 : p2 = 1
    · refine lv_tableIn (off := 43) (tgt := 72) hx hb dX10_look_29 (by rw [hc10]; decide) (by rw [hc10]; decide) (by rw [hc10]; rfl) (by decide) ?_
      have hp := hp.1 hc10
      refine lv_aload_n hx hb dX10_look_72 rfl (lv_at hl 1 rfl) ?_
      obtain ⟨b11, eb11, hob11, hp⟩ := hp
      refine hp_get (ci := 10) (v := .ref b11) hx hb hts ix_X10_look_10 hown hK h ho (by decide) rfl 6 (by decide) (hts _ lk_X10_look_19) (fun _ h9 => h9) (by show some (va_rf (zR z 1006 o)) = some (Value.ref b11); rw [eb11]; rfl) dX10_look_73 ?_
      refine lv_iload hx hb dX10_look_76 (lv_at hl 0 rfl) ?_
      refine hp_iald (t := 2006) (n := 24) hx hb hK h hob11 (by decide) (fun _ _ _ => rfl) hp.1 dX10_look_78 ?_
      have hp := hp.2
      exact hp_iret hx hb hr rfl hlocks hK h hp dX10_look_79
    have hp := hp.2
    by_cases hc12 : p2 = 2
    · refine lv_tableIn (off := 51) (tgt := 80) hx hb dX10_look_29 (by rw [hc12]; decide) (by rw [hc12]; decide) (by rw [hc12]; rfl) (by decide) ?_
      have hp := hp.1 hc12
      refine lv_aload_n hx hb dX10_look_80 rfl (lv_at hl 1 rfl) ?_
      obtain ⟨b13, eb13, hob13, hp⟩ := hp
      refine hp_get (ci := 10) (v := .ref b13) hx hb hts ix_X10_look_10 hown hK h ho (by decide) rfl 7 (by decide) (hts _ lk_X10_look_22) (fun _ h9 => h9) (by show some (va_rf (zR z 1007 o)) = some (Value.ref b13); rw [eb13]; rfl) dX10_look_81 ?_
      refine lv_iload hx hb dX10_look_84 (lv_at hl 0 rfl) ?_
      refine hp_iald (t := 2007) (n := 24) hx hb hK h hob13 (by decide) (fun _ _ _ => rfl) hp.1 dX10_look_86 ?_
      have hp := hp.2
      exact hp_iret hx hb hr rfl hlocks hK h hp dX10_look_87
    have hp := hp.2
    by_cases hc14 : p2 = 3
    · refine lv_tableIn (off := 59) (tgt := 88) hx hb dX10_look_29 (by rw [hc14]; decide) (by rw [hc14]; decide) (by rw [hc14]; rfl) (by decide) ?_
      have hp := hp.1 hc14
      refine lv_aload_n hx hb dX10_look_88 rfl (lv_at hl 1 rfl) ?_
      obtain ⟨b15, eb15, hob15, hp⟩ := hp
      refine hp_get (ci := 10) (v := .ref b15) hx hb hts ix_X10_look_10 hown hK h ho (by decide) rfl 8 (by decide) (hts _ lk_X10_look_25) (fun _ h9 => h9) (by show some (va_rf (zR z 1008 o)) = some (Value.ref b15); rw [eb15]; rfl) dX10_look_89 ?_
      refine lv_iload hx hb dX10_look_92 (lv_at hl 0 rfl) ?_
      refine hp_iald (t := 2008) (n := 24) hx hb hK h hob15 (by decide) (fun _ _ _ => rfl) hp.1 dX10_look_94 ?_
      have hp := hp.2
      exact hp_iret hx hb hr rfl hlocks hK h hp dX10_look_95
    have hp := hp.2
    by_cases hc16 : p2 = 4
    · refine lv_tableIn (off := 67) (tgt := 96) hx hb dX10_look_29 (by rw [hc16]; decide) (by rw [hc16]; decide) (by rw [hc16]; rfl) (by decide) ?_
      have hp := hp.1 hc16
      refine lv_aload_n hx hb dX10_look_96 rfl (lv_at hl 1 rfl) ?_
      obtain ⟨b17, eb17, hob17, hp⟩ := hp
      refine hp_get (ci := 10) (v := .ref b17) hx hb hts ix_X10_look_10 hown hK h ho (by decide) rfl 9 (by decide) (hts _ lk_X10_look_28) (fun _ h9 => h9) (by show some (va_rf (zR z 1009 o)) = some (Value.ref b17); rw [eb17]; rfl) dX10_look_97 ?_
      refine lv_iload hx hb dX10_look_100 (lv_at hl 0 rfl) ?_
      refine hp_iald (t := 2009) (n := 24) hx hb hK h hob17 (by decide) (fun _ _ _ => rfl) hp.1 dX10_look_102 ?_
      have hp := hp.2
      exact hp_iret hx hb hr rfl hlocks hK h hp dX10_look_103
    have hp := hp.2
    have thc8 := lv_neT (a := 0) hc8 (by decide)
    have hp := hp hc8
    have thc10 := lv_neT (a := 1) hc10 (by decide)
    have hp := hp hc10
    have thc12 := lv_neT (a := 2) hc12 (by decide)
    have hp := hp hc12
    have thc14 := lv_neT (a := 3) hc14 (by decide)
    have hp := hp hc14
    have thc16 := lv_neT (a := 4) hc16 (by decide)
    have hp := hp hc16
    refine lv_tableOut (tgt := 104) hx hb dX10_look_29 (by omega) (by decide) ?_
    refine lv_aload_n hx hb dX10_look_104 rfl (lv_at hl 1 rfl) ?_
    refine lv_iconst (v := 2) hx hb dX10_look_105 (by decide) ?_
    refine hp_puti (ci := 10) (ty := .int) (x := 2) hx hb hts ix_X10_look_10 tyX10 tyX10_ok nmX10 hown hK h ho (by decide) rfl 0 1000 (by decide) (hts _ lk_X10_look_127) (fun _ h9 => h9) rfl (by decide +kernel) rfl rfl (fun _ _ => rfl) (fun _ _ => Nat.le_of_ble_eq_true rfl) dX10_look_106 (fun H locs w18 ew18 h => ?_)
    have hp := hp w18 ew18
    refine lv_iconst (v := 0) hx hb dX10_look_109 (by decide) ?_
    exact hp_iret hx hb hr rfl hlocks hK h hp dX10_look_110
  · have hp := hp.2 hc6
    refine lv_iconst (v := 0) hx hb dX10_look_19 (by decide) ?_
    exact hp_iret hx hb hr rfl hlocks hK h hp dX10_look_20
abbrev rmX10_cast : Room := { frames := 2, cells := 0, slots := 0, locals := 43 }
theorem ix_X10_cast_10 : ∀ w ∈ wsX100, w ∈ wsX10_cast := by decide +kernel
theorem lk_X10_cast_127 : Cond.fieldLink RX10 127 "KelpShoresModel" "thrown" "I" ∈ wsX10_cast := by decide +kernel
theorem lk_X10_cast_40 : Cond.fieldLink RX10 40 "KelpShoresModel" "cast" "[I" ∈ wsX10_cast := by decide +kernel
def wp_X10_cast (z : Zt) (o : Nat) (p0 : Int32) (w : Vt) (K : Int32 → Vt → Prop) : Prop := isO z 10 o ∧ ∀ w1 : Vt, w1 = uI w 1000 o 0 → wp_X10_noShore z o p0 w1 (fun r3 w2 => wp_X10_throwsIf z o r3 1 w2 (fun r5 w4 => (r5 = 0 → ∃ b7 : Nat, zR z 1013 o = some b7 ∧ isO z 2013 b7 ∧ vp_in p0 6 ∧ K (vA w4 2013 b7 (p0 : Int32).toNatClampNeg) w4) ∧ (¬ r5 = 0 → K 0 w4)))
set_option maxHeartbeats 4000000 in
set_option maxRecDepth 100000 in
theorem k_X10_cast (l : Launch) (G : Gt) (z : Zt) (w : Vt) (sz : Nat) (o : Nat) (p0 : Int32) (K : Int32 → Vt → Prop) (hp : wp_X10_cast z o p0 w K) : MI l yX10_cast wsX10_cast rmX10_cast G z w sz [.ref o, .int p0] K := by
  refine Met.ofW (cc := cX10_cast) (maxL := 2) (ret := (some .int)) (by decide +kernel) rfl ?_
  intro p e s m args below meth c s₁ B hml hv
  obtain ⟨rfl, rfl, C, h⟩ := hp_start B hml hv
  generalize gA G z w s.heap.size = A at C h ⊢
  obtain ⟨hx, hb, hr, hlocks, hml, hown, hts, hK, hA, hE⟩ := id C
  obtain ⟨ho, hp⟩ := hp
  have hl := lv_entry ([.ref o, .int p0]) (n := 2) (Nat.le_of_ble_eq_true rfl)
  rw [lg_entry_eq]
  generalize (lg_sl ([.ref o, .int p0]) ++ List.replicate (2 - (lg_sl ([.ref o, .int p0])).length) Slot.unset).toArray = ls at hl ⊢
  have hl : lv_has ls 2 [(0, .ref o), (1, .int p0)] := hl
  refine lv_aload_n hx hb dX10_cast_0 rfl (lv_at hl 0 rfl) ?_
  refine lv_iconst (v := 0) hx hb dX10_cast_1 (by decide) ?_
  refine hp_puti (ci := 10) (ty := .int) (x := 0) hx hb hts ix_X10_cast_10 tyX10 tyX10_ok nmX10 hown hK h ho (by decide) rfl 0 1000 (by decide) (hts _ lk_X10_cast_127) (fun _ h9 => h9) rfl (by decide +kernel) rfl rfl (fun _ _ => rfl) (fun _ _ => Nat.le_of_ble_eq_true rfl) dX10_cast_2 (fun H locs w1 ew1 h => ?_)
  have hp := hp w1 ew1
  refine lv_aload_n hx hb dX10_cast_5 rfl (lv_at hl 0 rfl) ?_
  refine lv_aload_n hx hb dX10_cast_6 rfl (lv_at hl 0 rfl) ?_
  refine lv_iload_n hx hb dX10_cast_7 rfl (lv_at hl 1 rfl) ?_
  refine hp_cVi ⟨hx, hb, hml, hown, hts⟩ (k_X10_noShore l G z w1 _ o p0 _ hp) (cwV 1 hts gX10_cast_X10_noShore rfl rfl rfl (by decide +kernel) ⟨Nat.le_of_ble_eq_true rfl, Nat.le_of_ble_eq_true rfl⟩) ho (by decide) rfl hK h hA hE rfl hl.1 rfl (Nat.le_of_ble_eq_true rfl) dX10_cast_8 ⟨Nat.le_of_ble_eq_true rfl, Nat.le_of_ble_eq_true rfl⟩ (fun r3 w2 H locs hp h => ?_)
  refine lv_iconst (v := 1) hx hb dX10_cast_11 (by decide) ?_
  refine hp_cVi ⟨hx, hb, hml, hown, hts⟩ (k_X10_throwsIf l G z w2 _ o r3 1 _ hp) (cwV 2 hts gX10_cast_X10_throwsIf rfl rfl rfl (by decide +kernel) ⟨Nat.le_of_ble_eq_true rfl, Nat.le_of_ble_eq_true rfl⟩) ho (by decide) rfl hK h hA hE rfl hl.1 rfl (Nat.le_of_ble_eq_true rfl) dX10_cast_12 ⟨Nat.le_of_ble_eq_true rfl, Nat.le_of_ble_eq_true rfl⟩ (fun r5 w4 H locs hp h => ?_)
  refine lv_if_eq (tgt := 22) hx hb dX10_cast_15 (by decide) (fun hc6 => ?_) (fun hc6 => ?_)
  · have hp := hp.1 hc6
    refine lv_aload_n hx hb dX10_cast_22 rfl (lv_at hl 0 rfl) ?_
    obtain ⟨b7, eb7, hob7, hp⟩ := hp
    refine hp_get (ci := 10) (v := .ref b7) hx hb hts ix_X10_cast_10 hown hK h ho (by decide) rfl 13 (by decide) (hts _ lk_X10_cast_40) (fun _ h9 => h9) (by show some (va_rf (zR z 1013 o)) = some (Value.ref b7); rw [eb7]; rfl) dX10_cast_23 ?_
    refine lv_iload_n hx hb dX10_cast_26 rfl (lv_at hl 1 rfl) ?_
    refine hp_iald (t := 2013) (n := 6) hx hb hK h hob7 (by decide) (fun _ _ _ => rfl) hp.1 dX10_cast_27 ?_
    have hp := hp.2
    exact hp_iret hx hb hr rfl hlocks hK h hp dX10_cast_28
  · have hp := hp.2 hc6
    refine lv_iconst (v := 0) hx hb dX10_cast_18 (by decide) ?_
    refine lv_goto (tgt := 28) hx hb dX10_cast_19 (by decide) ?_
    exact hp_iret hx hb hr rfl hlocks hK h hp dX10_cast_28
abbrev rmX10_has : Room := { frames := 2, cells := 0, slots := 0, locals := 42 }
theorem ix_X10_has_10 : ∀ w ∈ wsX100, w ∈ wsX10_has := by decide +kernel
theorem lk_X10_has_127 : Cond.fieldLink RX10 127 "KelpShoresModel" "thrown" "I" ∈ wsX10_has := by decide +kernel
theorem lk_X10_has_46 : Cond.fieldLink RX10 46 "KelpShoresModel" "wet" "[I" ∈ wsX10_has := by decide +kernel
theorem lk_X10_has_49 : Cond.fieldLink RX10 49 "KelpShoresModel" "dry" "[I" ∈ wsX10_has := by decide +kernel
theorem lk_X10_has_52 : Cond.fieldLink RX10 52 "KelpShoresModel" "ash" "[I" ∈ wsX10_has := by decide +kernel
theorem lk_X10_has_58 : Cond.fieldLink RX10 58 "KelpShoresModel" "spoilt" "[I" ∈ wsX10_has := by decide +kernel
theorem lk_X10_has_61 : Cond.fieldLink RX10 61 "KelpShoresModel" "lost" "[I" ∈ wsX10_has := by decide +kernel
theorem lk_X10_has_43 : Cond.fieldLink RX10 43 "KelpShoresModel" "hands" "[I" ∈ wsX10_has := by decide +kernel
def wp_X10_has (z : Zt) (o : Nat) (p0 : Int32) (p1 : Int32) (w : Vt) (K : Int32 → Vt → Prop) : Prop := isO z 10 o ∧ ∀ w1 : Vt, w1 = uI w 1000 o 0 → wp_X10_noFamily z p0 w1 (fun r3 w2 => wp_X10_throwsIf z o r3 1 w2 (fun r5 w4 => (r5 = 0 → (p1 = 0 → ∃ b8 : Nat, zR z 1016 o = some b8 ∧ isO z 2016 b8 ∧ vp_in p0 8 ∧ K (vA w4 2016 b8 (p0 : Int32).toNatClampNeg) w4) ∧ (p1 = 1 → ∃ b10 : Nat, zR z 1017 o = some b10 ∧ isO z 2017 b10 ∧ vp_in p0 8 ∧ K (vA w4 2017 b10 (p0 : Int32).toNatClampNeg) w4) ∧ (p1 = 2 → ∃ b12 : Nat, zR z 1018 o = some b12 ∧ isO z 2018 b12 ∧ vp_in p0 8 ∧ K (vA w4 2018 b12 (p0 : Int32).toNatClampNeg) w4) ∧ (p1 = 3 → wp_X10_workLeft z o p0 w4 (fun r15 w14 => K r15 w14)) ∧ (p1 = 4 → ∃ b17 : Nat, zR z 1020 o = some b17 ∧ isO z 2020 b17 ∧ vp_in p0 8 ∧ K (vA w4 2020 b17 (p0 : Int32).toNatClampNeg) w4) ∧ (p1 = 5 → ∃ b19 : Nat, zR z 1021 o = some b19 ∧ isO z 2021 b19 ∧ vp_in p0 8 ∧ K (vA w4 2021 b19 (p0 : Int32).toNatClampNeg) w4) ∧ (p1 = 6 → ∃ b21 : Nat, zR z 1015 o = some b21 ∧ isO z 2015 b21 ∧ vp_in p0 8 ∧ K (vA w4 2015 b21 (p0 : Int32).toNatClampNeg) w4) ∧ (¬ p1 = 0 → ¬ p1 = 1 → ¬ p1 = 2 → ¬ p1 = 3 → ¬ p1 = 4 → ¬ p1 = 5 → ¬ p1 = 6 → ∀ w22 : Vt, w22 = uI w4 1000 o 2 → K 0 w22)) ∧ (¬ r5 = 0 → K 0 w4)))
set_option maxHeartbeats 4000000 in
set_option maxRecDepth 100000 in
theorem k_X10_has (l : Launch) (G : Gt) (z : Zt) (w : Vt) (sz : Nat) (o : Nat) (p0 : Int32) (p1 : Int32) (K : Int32 → Vt → Prop) (hp : wp_X10_has z o p0 p1 w K) : MI l yX10_has wsX10_has rmX10_has G z w sz [.ref o, .int p0, .int p1] K := by
  refine Met.ofW (cc := cX10_has) (maxL := 3) (ret := (some .int)) (by decide +kernel) rfl ?_
  intro p e s m args below meth c s₁ B hml hv
  obtain ⟨rfl, rfl, C, h⟩ := hp_start B hml hv
  generalize gA G z w s.heap.size = A at C h ⊢
  obtain ⟨hx, hb, hr, hlocks, hml, hown, hts, hK, hA, hE⟩ := id C
  obtain ⟨ho, hp⟩ := hp
  have hl := lv_entry ([.ref o, .int p0, .int p1]) (n := 3) (Nat.le_of_ble_eq_true rfl)
  rw [lg_entry_eq]
  generalize (lg_sl ([.ref o, .int p0, .int p1]) ++ List.replicate (3 - (lg_sl ([.ref o, .int p0, .int p1])).length) Slot.unset).toArray = ls at hl ⊢
  have hl : lv_has ls 3 [(0, .ref o), (1, .int p0), (2, .int p1)] := hl
  refine lv_aload_n hx hb dX10_has_0 rfl (lv_at hl 0 rfl) ?_
  refine lv_iconst (v := 0) hx hb dX10_has_1 (by decide) ?_
  refine hp_puti (ci := 10) (ty := .int) (x := 0) hx hb hts ix_X10_has_10 tyX10 tyX10_ok nmX10 hown hK h ho (by decide) rfl 0 1000 (by decide) (hts _ lk_X10_has_127) (fun _ h9 => h9) rfl (by decide +kernel) rfl rfl (fun _ _ => rfl) (fun _ _ => Nat.le_of_ble_eq_true rfl) dX10_has_2 (fun H locs w1 ew1 h => ?_)
  have hp := hp w1 ew1
  refine lv_aload_n hx hb dX10_has_5 rfl (lv_at hl 0 rfl) ?_
  refine lv_iload_n hx hb dX10_has_6 rfl (lv_at hl 1 rfl) ?_
  refine hp_cSi ⟨hx, hb, hml, hown, hts⟩ (k_X10_noFamily l G z w1 _ p0 _ hp) (cwS 1 hts gX10_has_X10_noFamily rfl rfl rfl (by decide +kernel) ⟨Nat.le_of_ble_eq_true rfl, Nat.le_of_ble_eq_true rfl⟩) hK h hA hE rfl hl.1 rfl (Nat.le_of_ble_eq_true rfl) dX10_has_7 ⟨Nat.le_of_ble_eq_true rfl, Nat.le_of_ble_eq_true rfl⟩ (fun r3 w2 H locs hp h => ?_)
  refine lv_iconst (v := 1) hx hb dX10_has_10 (by decide) ?_
  refine hp_cVi ⟨hx, hb, hml, hown, hts⟩ (k_X10_throwsIf l G z w2 _ o r3 1 _ hp) (cwV 2 hts gX10_has_X10_throwsIf rfl rfl rfl (by decide +kernel) ⟨Nat.le_of_ble_eq_true rfl, Nat.le_of_ble_eq_true rfl⟩) ho (by decide) rfl hK h hA hE rfl hl.1 rfl (Nat.le_of_ble_eq_true rfl) dX10_has_11 ⟨Nat.le_of_ble_eq_true rfl, Nat.le_of_ble_eq_true rfl⟩ (fun r5 w4 H locs hp h => ?_)
  refine lv_if_eq (tgt := 19) hx hb dX10_has_14 (by decide) (fun hc6 => ?_) (fun hc6 => ?_)
  · have hp := hp.1 hc6
    refine lv_iload_n hx hb dX10_has_19 rfl (lv_at hl 2 rfl) ?_
    by_cases hc7 : p1 = 0
    · refine lv_tableIn (off := 44) (tgt := 64) hx hb dX10_has_20 (by rw [hc7]; decide) (by rw [hc7]; decide) (by rw [hc7]; rfl) (by decide) ?_
      have hp := hp.1 hc7
      refine lv_aload_n hx hb dX10_has_64 rfl (lv_at hl 0 rfl) ?_
      obtain ⟨b8, eb8, hob8, hp⟩ := hp
      refine hp_get (ci := 10) (v := .ref b8) hx hb hts ix_X10_has_10 hown hK h ho (by decide) rfl 16 (by decide) (hts _ lk_X10_has_46) (fun _ h9 => h9) (by show some (va_rf (zR z 1016 o)) = some (Value.ref b8); rw [eb8]; rfl) dX10_has_65 ?_
      refine lv_iload_n hx hb dX10_has_68 rfl (lv_at hl 1 rfl) ?_
      refine hp_iald (t := 2016) (n := 8) hx hb hK h hob8 (by decide) (fun _ _ _ => rfl) hp.1 dX10_has_69 ?_
      have hp := hp.2
      exact hp_iret hx hb hr rfl hlocks hK h hp dX10_has_70
    have hp := hp.2
    by_cases hc9 : p1 = 1
    · refine lv_tableIn (off := 51) (tgt := 71) hx hb dX10_has_20 (by rw [hc9]; decide) (by rw [hc9]; decide) (by rw [hc9]; rfl) (by decide) ?_
      have hp := hp.1 hc9
      refine lv_aload_n hx hb dX10_has_71 rfl (lv_at hl 0 rfl) ?_
      obtain ⟨b10, eb10, hob10, hp⟩ := hp
      refine hp_get (ci := 10) (v := .ref b10) hx hb hts ix_X10_has_10 hown hK h ho (by decide) rfl 17 (by decide) (hts _ lk_X10_has_49) (fun _ h9 => h9) (by show some (va_rf (zR z 1017 o)) = some (Value.ref b10); rw [eb10]; rfl) dX10_has_72 ?_
      refine lv_iload_n hx hb dX10_has_75 rfl (lv_at hl 1 rfl) ?_
      refine hp_iald (t := 2017) (n := 8) hx hb hK h hob10 (by decide) (fun _ _ _ => rfl) hp.1 dX10_has_76 ?_
      have hp := hp.2
      exact hp_iret hx hb hr rfl hlocks hK h hp dX10_has_77
    have hp := hp.2
    by_cases hc11 : p1 = 2
    · refine lv_tableIn (off := 58) (tgt := 78) hx hb dX10_has_20 (by rw [hc11]; decide) (by rw [hc11]; decide) (by rw [hc11]; rfl) (by decide) ?_
      have hp := hp.1 hc11
      refine lv_aload_n hx hb dX10_has_78 rfl (lv_at hl 0 rfl) ?_
      obtain ⟨b12, eb12, hob12, hp⟩ := hp
      refine hp_get (ci := 10) (v := .ref b12) hx hb hts ix_X10_has_10 hown hK h ho (by decide) rfl 18 (by decide) (hts _ lk_X10_has_52) (fun _ h9 => h9) (by show some (va_rf (zR z 1018 o)) = some (Value.ref b12); rw [eb12]; rfl) dX10_has_79 ?_
      refine lv_iload_n hx hb dX10_has_82 rfl (lv_at hl 1 rfl) ?_
      refine hp_iald (t := 2018) (n := 8) hx hb hK h hob12 (by decide) (fun _ _ _ => rfl) hp.1 dX10_has_83 ?_
      have hp := hp.2
      exact hp_iret hx hb hr rfl hlocks hK h hp dX10_has_84
    have hp := hp.2
    by_cases hc13 : p1 = 3
    · refine lv_tableIn (off := 65) (tgt := 85) hx hb dX10_has_20 (by rw [hc13]; decide) (by rw [hc13]; decide) (by rw [hc13]; rfl) (by decide) ?_
      have hp := hp.1 hc13
      refine lv_aload_n hx hb dX10_has_85 rfl (lv_at hl 0 rfl) ?_
      refine lv_iload_n hx hb dX10_has_86 rfl (lv_at hl 1 rfl) ?_
      refine hp_cVi ⟨hx, hb, hml, hown, hts⟩ (k_X10_workLeft l G z w4 _ o p0 _ hp) (cwV 1 hts gX10_has_X10_workLeft rfl rfl rfl (by decide +kernel) ⟨Nat.le_of_ble_eq_true rfl, Nat.le_of_ble_eq_true rfl⟩) ho (by decide) rfl hK h hA hE rfl hl.1 rfl (Nat.le_of_ble_eq_true rfl) dX10_has_87 ⟨Nat.le_of_ble_eq_true rfl, Nat.le_of_ble_eq_true rfl⟩ (fun r15 w14 H locs hp h => ?_)
      exact hp_iret hx hb hr rfl hlocks hK h hp dX10_has_90
    have hp := hp.2
    by_cases hc16 : p1 = 4
    · refine lv_tableIn (off := 71) (tgt := 91) hx hb dX10_has_20 (by rw [hc16]; decide) (by rw [hc16]; decide) (by rw [hc16]; rfl) (by decide) ?_
      have hp := hp.1 hc16
      refine lv_aload_n hx hb dX10_has_91 rfl (lv_at hl 0 rfl) ?_
      obtain ⟨b17, eb17, hob17, hp⟩ := hp
      refine hp_get (ci := 10) (v := .ref b17) hx hb hts ix_X10_has_10 hown hK h ho (by decide) rfl 20 (by decide) (hts _ lk_X10_has_58) (fun _ h9 => h9) (by show some (va_rf (zR z 1020 o)) = some (Value.ref b17); rw [eb17]; rfl) dX10_has_92 ?_
      refine lv_iload_n hx hb dX10_has_95 rfl (lv_at hl 1 rfl) ?_
      refine hp_iald (t := 2020) (n := 8) hx hb hK h hob17 (by decide) (fun _ _ _ => rfl) hp.1 dX10_has_96 ?_
      have hp := hp.2
      exact hp_iret hx hb hr rfl hlocks hK h hp dX10_has_97
    have hp := hp.2
    by_cases hc18 : p1 = 5
    · refine lv_tableIn (off := 78) (tgt := 98) hx hb dX10_has_20 (by rw [hc18]; decide) (by rw [hc18]; decide) (by rw [hc18]; rfl) (by decide) ?_
      have hp := hp.1 hc18
      refine lv_aload_n hx hb dX10_has_98 rfl (lv_at hl 0 rfl) ?_
      obtain ⟨b19, eb19, hob19, hp⟩ := hp
      refine hp_get (ci := 10) (v := .ref b19) hx hb hts ix_X10_has_10 hown hK h ho (by decide) rfl 21 (by decide) (hts _ lk_X10_has_61) (fun _ h9 => h9) (by show some (va_rf (zR z 1021 o)) = some (Value.ref b19); rw [eb19]; rfl) dX10_has_99 ?_
      refine lv_iload_n hx hb dX10_has_102 rfl (lv_at hl 1 rfl) ?_
      refine hp_iald (t := 2021) (n := 8) hx hb hK h hob19 (by decide) (fun _ _ _ => rfl) hp.1 dX10_has_103 ?_
      have hp := hp.2
      exact hp_iret hx hb hr rfl hlocks hK h hp dX10_has_104
    have hp := hp.2
    by_cases hc20 : p1 = 6
    · refine lv_tableIn (off := 85) (tgt := 105) hx hb dX10_has_20 (by rw [hc20]; decide) (by rw [hc20]; decide) (by rw [hc20]; rfl) (by decide) ?_
      have hp := hp.1 hc20
      refine lv_aload_n hx hb dX10_has_105 rfl (lv_at hl 0 rfl) ?_
      obtain ⟨b21, eb21, hob21, hp⟩ := hp
      refine hp_get (ci := 10) (v := .ref b21) hx hb hts ix_X10_has_10 hown hK h ho (by decide) rfl 15 (by decide) (hts _ lk_X10_has_43) (fun _ h9 => h9) (by show some (va_rf (zR z 1015 o)) = some (Value.ref b21); rw [eb21]; rfl) dX10_has_106 ?_
      refine lv_iload_n hx hb dX10_has_109 rfl (lv_at hl 1 rfl) ?_
      refine hp_iald (t := 2015) (n := 8) hx hb hK h hob21 (by decide) (fun _ _ _ => rfl) hp.1 dX10_has_110 ?_
      have hp := hp.2
      exact hp_iret hx hb hr rfl hlocks hK h hp dX10_has_111
    have hp := hp.2
    have thc7 := lv_neT (a := 0) hc7 (by decide)
    have hp := hp hc7
    have thc9 := lv_neT (a := 1) hc9 (by decide)
    have hp := hp hc9
    have thc11 := lv_neT (a := 2) hc11 (by decide)
    have hp := hp hc11
    have thc13 := lv_neT (a := 3) hc13 (by decide)
    have hp := hp hc13
    have thc16 := lv_neT (a := 4) hc16 (by decide)
    have hp := hp hc16
    have thc18 := lv_neT (a := 5) hc18 (by decide)
    have hp := hp hc18
    have thc20 := lv_neT (a := 6) hc20 (by decide)
    have hp := hp hc20
    refine lv_tableOut (tgt := 112) hx hb dX10_has_20 (by omega) (by decide) ?_
    refine lv_aload_n hx hb dX10_has_112 rfl (lv_at hl 0 rfl) ?_
    refine lv_iconst (v := 2) hx hb dX10_has_113 (by decide) ?_
    refine hp_puti (ci := 10) (ty := .int) (x := 2) hx hb hts ix_X10_has_10 tyX10 tyX10_ok nmX10 hown hK h ho (by decide) rfl 0 1000 (by decide) (hts _ lk_X10_has_127) (fun _ h9 => h9) rfl (by decide +kernel) rfl rfl (fun _ _ => rfl) (fun _ _ => Nat.le_of_ble_eq_true rfl) dX10_has_114 (fun H locs w22 ew22 h => ?_)
    have hp := hp w22 ew22
    refine lv_iconst (v := 0) hx hb dX10_has_117 (by decide) ?_
    exact hp_iret hx hb hr rfl hlocks hK h hp dX10_has_118
  · have hp := hp.2 hc6
    refine lv_iconst (v := 0) hx hb dX10_has_17 (by decide) ?_
    exact hp_iret hx hb hr rfl hlocks hK h hp dX10_has_18
abbrev rmX10_owes : Room := { frames := 2, cells := 0, slots := 0, locals := 43 }
theorem ix_X10_owes_10 : ∀ w ∈ wsX100, w ∈ wsX10_owes := by decide +kernel
theorem lk_X10_owes_127 : Cond.fieldLink RX10 127 "KelpShoresModel" "thrown" "I" ∈ wsX10_owes := by decide +kernel
theorem lk_X10_owes_64 : Cond.fieldLink RX10 64 "KelpShoresModel" "owed" "[I" ∈ wsX10_owes := by decide +kernel
def wp_X10_owes (z : Zt) (o : Nat) (p0 : Int32) (p1 : Int32) (p2 : Int32) (w : Vt) (K : Int32 → Vt → Prop) : Prop := isO z 10 o ∧ ∀ w1 : Vt, w1 = uI w 1000 o 0 → wp_X10_noFamily z p0 w1 (fun r3 w2 => ∃ J4 : Int32 → Vt → Prop, (∀ (x5 : Int32) (w6 : Vt), J4 x5 w6 → wp_X10_throwsIf z o x5 1 w6 (fun r12 w11 => (r12 = 0 → wp_X10_in z p2 0 99 w11 (fun r15 w14 => (r15 = 0 → K 0 w14) ∧ (¬ r15 = 0 → ∃ b17 : Nat, zR z 1022 o = some b17 ∧ isO z 2022 b17 ∧ vp_in ((((p2 * 6) + p1) * 8) + p0) 4800 ∧ K (vA w14 2022 b17 ((((p2 * 6) + p1) * 8) + p0 : Int32).toNatClampNeg) w14))) ∧ (¬ r12 = 0 → K 0 w11))) ∧ (¬ r3 = 0 → J4 1 w2) ∧ (r3 = 0 → wp_X10_noShore z o p1 w2 (fun r9 w8 => (r9 = 0 → J4 0 w8) ∧ (¬ r9 = 0 → J4 1 w8))))
set_option maxHeartbeats 4000000 in
set_option maxRecDepth 100000 in
theorem k_X10_owes (l : Launch) (G : Gt) (z : Zt) (w : Vt) (sz : Nat) (o : Nat) (p0 : Int32) (p1 : Int32) (p2 : Int32) (K : Int32 → Vt → Prop) (hp : wp_X10_owes z o p0 p1 p2 w K) : MI l yX10_owes wsX10_owes rmX10_owes G z w sz [.ref o, .int p0, .int p1, .int p2] K := by
  refine Met.ofW (cc := cX10_owes) (maxL := 4) (ret := (some .int)) (by decide +kernel) rfl ?_
  intro p e s m args below meth c s₁ B hml hv
  obtain ⟨rfl, rfl, C, h⟩ := hp_start B hml hv
  generalize gA G z w s.heap.size = A at C h ⊢
  obtain ⟨hx, hb, hr, hlocks, hml, hown, hts, hK, hA, hE⟩ := id C
  obtain ⟨ho, hp⟩ := hp
  have hl := lv_entry ([.ref o, .int p0, .int p1, .int p2]) (n := 4) (Nat.le_of_ble_eq_true rfl)
  rw [lg_entry_eq]
  generalize (lg_sl ([.ref o, .int p0, .int p1, .int p2]) ++ List.replicate (4 - (lg_sl ([.ref o, .int p0, .int p1, .int p2])).length) Slot.unset).toArray = ls at hl ⊢
  have hl : lv_has ls 4 [(0, .ref o), (1, .int p0), (2, .int p1), (3, .int p2)] := hl
  refine lv_aload_n hx hb dX10_owes_0 rfl (lv_at hl 0 rfl) ?_
  refine lv_iconst (v := 0) hx hb dX10_owes_1 (by decide) ?_
  refine hp_puti (ci := 10) (ty := .int) (x := 0) hx hb hts ix_X10_owes_10 tyX10 tyX10_ok nmX10 hown hK h ho (by decide) rfl 0 1000 (by decide) (hts _ lk_X10_owes_127) (fun _ h9 => h9) rfl (by decide +kernel) rfl rfl (fun _ _ => rfl) (fun _ _ => Nat.le_of_ble_eq_true rfl) dX10_owes_2 (fun H locs w1 ew1 h => ?_)
  have hp := hp w1 ew1
  refine lv_aload_n hx hb dX10_owes_5 rfl (lv_at hl 0 rfl) ?_
  refine lv_iload_n hx hb dX10_owes_6 rfl (lv_at hl 1 rfl) ?_
  refine hp_cSi ⟨hx, hb, hml, hown, hts⟩ (k_X10_noFamily l G z w1 _ p0 _ hp) (cwS 1 hts gX10_owes_X10_noFamily rfl rfl rfl (by decide +kernel) ⟨Nat.le_of_ble_eq_true rfl, Nat.le_of_ble_eq_true rfl⟩) hK h hA hE rfl hl.1 rfl (Nat.le_of_ble_eq_true rfl) dX10_owes_7 ⟨Nat.le_of_ble_eq_true rfl, Nat.le_of_ble_eq_true rfl⟩ (fun r3 w2 H locs hp h => ?_)
  obtain ⟨J4, jJ4, hp⟩ := hp
  refine hp_jn1 (G := G) (A := A) (z := z) (J := J4) (nL := 4) (j := 26) (lvf := fun x5 => [(0, .ref o), (1, .int p0), (2, .int p1), (3, .int p2)]) (stf := fun x5 => [.int x5, .ref o]) (fun kJ4 => ?_) (fun x5 w6 H locs ls hp h hl => ?_)
  · refine lv_if_ne (tgt := 21) hx hb dX10_owes_10 (by decide) (fun hc7 => ?_) (fun hc7 => ?_)
    · have hp := hp.1 hc7
      refine lv_iconst (v := 1) hx hb dX10_owes_21 (by decide) ?_
      refine lv_goto (tgt := 26) hx hb dX10_owes_22 (by decide) ?_
      exact kJ4 1 w2 _ _ _ hp h (lv_sub hl [0, 1, 2, 3] rfl)
    · have hp := hp.2 hc7
      refine lv_aload_n hx hb dX10_owes_13 rfl (lv_at hl 0 rfl) ?_
      refine lv_iload_n hx hb dX10_owes_14 rfl (lv_at hl 2 rfl) ?_
      refine hp_cVi ⟨hx, hb, hml, hown, hts⟩ (k_X10_noShore l G z w2 _ o p1 _ hp) (cwV 1 hts gX10_owes_X10_noShore rfl rfl rfl (by decide +kernel) ⟨Nat.le_of_ble_eq_true rfl, Nat.le_of_ble_eq_true rfl⟩) ho (by decide) rfl hK h hA hE rfl hl.1 rfl (Nat.le_of_ble_eq_true rfl) dX10_owes_15 ⟨Nat.le_of_ble_eq_true rfl, Nat.le_of_ble_eq_true rfl⟩ (fun r9 w8 H locs hp h => ?_)
      refine lv_if_eq (tgt := 25) hx hb dX10_owes_18 (by decide) (fun hc10 => ?_) (fun hc10 => ?_)
      · have hp := hp.1 hc10
        refine lv_iconst (v := 0) hx hb dX10_owes_25 (by decide) ?_
        exact kJ4 0 w8 _ _ _ hp h (lv_sub hl [0, 1, 2, 3] rfl)
      · have hp := hp.2 hc10
        refine lv_iconst (v := 1) hx hb dX10_owes_21 (by decide) ?_
        refine lv_goto (tgt := 26) hx hb dX10_owes_22 (by decide) ?_
        exact kJ4 1 w8 _ _ _ hp h (lv_sub hl [0, 1, 2, 3] rfl)
  have hp := jJ4 x5 w6 hp
  refine lv_iconst (v := 1) hx hb dX10_owes_26 (by decide) ?_
  refine hp_cVi ⟨hx, hb, hml, hown, hts⟩ (k_X10_throwsIf l G z w6 _ o x5 1 _ hp) (cwV 2 hts gX10_owes_X10_throwsIf rfl rfl rfl (by decide +kernel) ⟨Nat.le_of_ble_eq_true rfl, Nat.le_of_ble_eq_true rfl⟩) ho (by decide) rfl hK h hA hE rfl hl.1 rfl (Nat.le_of_ble_eq_true rfl) dX10_owes_27 ⟨Nat.le_of_ble_eq_true rfl, Nat.le_of_ble_eq_true rfl⟩ (fun r12 w11 H locs hp h => ?_)
  refine lv_if_eq (tgt := 35) hx hb dX10_owes_30 (by decide) (fun hc13 => ?_) (fun hc13 => ?_)
  · have hp := hp.1 hc13
    refine lv_iload_n hx hb dX10_owes_35 rfl (lv_at hl 3 rfl) ?_
    refine lv_iconst (v := 0) hx hb dX10_owes_36 (by decide) ?_
    refine lv_bipush (v := 99) hx hb dX10_owes_37 (by decide) ?_
    refine hp_cSi ⟨hx, hb, hml, hown, hts⟩ (k_X10_in l G z w11 _ p2 0 99 _ hp) (cwS 3 hts gX10_owes_X10_in rfl rfl rfl (by decide +kernel) ⟨Nat.le_of_ble_eq_true rfl, Nat.le_of_ble_eq_true rfl⟩) hK h hA hE rfl hl.1 rfl (Nat.le_of_ble_eq_true rfl) dX10_owes_39 ⟨Nat.le_of_ble_eq_true rfl, Nat.le_of_ble_eq_true rfl⟩ (fun r15 w14 H locs hp h => ?_)
    refine lv_if_eq (tgt := 64) hx hb dX10_owes_42 (by decide) (fun hc16 => ?_) (fun hc16 => ?_)
    · have hp := hp.1 hc16
      refine lv_iconst (v := 0) hx hb dX10_owes_64 (by decide) ?_
      exact hp_iret hx hb hr rfl hlocks hK h hp dX10_owes_65
    · have hp := hp.2 hc16
      refine lv_aload_n hx hb dX10_owes_45 rfl (lv_at hl 0 rfl) ?_
      obtain ⟨b17, eb17, hob17, hp⟩ := hp
      refine hp_get (ci := 10) (v := .ref b17) hx hb hts ix_X10_owes_10 hown hK h ho (by decide) rfl 22 (by decide) (hts _ lk_X10_owes_64) (fun _ h9 => h9) (by show some (va_rf (zR z 1022 o)) = some (Value.ref b17); rw [eb17]; rfl) dX10_owes_46 ?_
      refine lv_iload_n hx hb dX10_owes_49 rfl (lv_at hl 3 rfl) ?_
      refine lv_bipush (v := 6) hx hb dX10_owes_50 (by decide) ?_
      refine lv_imul hx hb dX10_owes_52 ?_
      refine lv_iload_n hx hb dX10_owes_53 rfl (lv_at hl 2 rfl) ?_
      refine lv_iadd hx hb dX10_owes_54 ?_
      refine lv_bipush (v := 8) hx hb dX10_owes_55 (by decide) ?_
      refine lv_imul hx hb dX10_owes_57 ?_
      refine lv_iload_n hx hb dX10_owes_58 rfl (lv_at hl 1 rfl) ?_
      refine lv_iadd hx hb dX10_owes_59 ?_
      refine hp_iald (t := 2022) (n := 4800) hx hb hK h hob17 (by decide) (fun _ _ _ => rfl) hp.1 dX10_owes_60 ?_
      have hp := hp.2
      refine lv_goto (tgt := 65) hx hb dX10_owes_61 (by decide) ?_
      exact hp_iret hx hb hr rfl hlocks hK h hp dX10_owes_65
  · have hp := hp.2 hc13
    refine lv_iconst (v := 0) hx hb dX10_owes_33 (by decide) ?_
    exact hp_iret hx hb hr rfl hlocks hK h hp dX10_owes_34
abbrev rmX10_noPit : Room := { frames := 1, cells := 0, slots := 0, locals := 22 }
theorem ix_X10_noPit_10 : ∀ w ∈ wsX100, w ∈ wsX10_noPit := by decide +kernel
theorem lk_X10_noPit_166 : Cond.fieldLink RX10 166 "KelpShoresModel" "pits" "I" ∈ wsX10_noPit := by decide +kernel
def wp_X10_noPit (z : Zt) (o : Nat) (p0 : Int32) (w : Vt) (K : Int32 → Vt → Prop) : Prop := isO z 10 o ∧ wp_X10_in z p0 0 ((vI w 1026 o) - 1) w (fun r2 w1 => (¬ r2 = 0 → K 0 w1) ∧ (r2 = 0 → K 1 w1))
set_option maxHeartbeats 4000000 in
set_option maxRecDepth 100000 in
theorem k_X10_noPit (l : Launch) (G : Gt) (z : Zt) (w : Vt) (sz : Nat) (o : Nat) (p0 : Int32) (K : Int32 → Vt → Prop) (hp : wp_X10_noPit z o p0 w K) : MI l yX10_noPit wsX10_noPit rmX10_noPit G z w sz [.ref o, .int p0] K := by
  refine Met.ofW (cc := cX10_noPit) (maxL := 2) (ret := (some .boolean)) (by decide +kernel) rfl ?_
  intro p e s m args below meth c s₁ B hml hv
  obtain ⟨rfl, rfl, C, h⟩ := hp_start B hml hv
  generalize gA G z w s.heap.size = A at C h ⊢
  obtain ⟨hx, hb, hr, hlocks, hml, hown, hts, hK, hA, hE⟩ := id C
  obtain ⟨ho, hp⟩ := hp
  have hl := lv_entry ([.ref o, .int p0]) (n := 2) (Nat.le_of_ble_eq_true rfl)
  rw [lg_entry_eq]
  generalize (lg_sl ([.ref o, .int p0]) ++ List.replicate (2 - (lg_sl ([.ref o, .int p0])).length) Slot.unset).toArray = ls at hl ⊢
  have hl : lv_has ls 2 [(0, .ref o), (1, .int p0)] := hl
  refine lv_iload_n hx hb dX10_noPit_0 rfl (lv_at hl 1 rfl) ?_
  refine lv_iconst (v := 0) hx hb dX10_noPit_1 (by decide) ?_
  refine lv_aload_n hx hb dX10_noPit_2 rfl (lv_at hl 0 rfl) ?_
  refine hp_get (ci := 10) (v := .int (vI w 1026 o)) hx hb hts ix_X10_noPit_10 hown hK h ho (by decide) rfl 26 (by decide) (hts _ lk_X10_noPit_166) (fun _ h9 => h9) rfl dX10_noPit_3 ?_
  refine lv_iconst (v := 1) hx hb dX10_noPit_6 (by decide) ?_
  refine lv_isub hx hb dX10_noPit_7 ?_
  refine hp_cSi ⟨hx, hb, hml, hown, hts⟩ (k_X10_in l G z w _ p0 0 ((vI w 1026 o) - 1) _ hp) (cwS 3 hts gX10_noPit_X10_in rfl rfl rfl (by decide +kernel) ⟨Nat.le_of_ble_eq_true rfl, Nat.le_of_ble_eq_true rfl⟩) hK h hA hE rfl hl.1 rfl (Nat.le_of_ble_eq_true rfl) dX10_noPit_8 ⟨Nat.le_of_ble_eq_true rfl, Nat.le_of_ble_eq_true rfl⟩ (fun r2 w1 H locs hp h => ?_)
  refine lv_if_ne (tgt := 18) hx hb dX10_noPit_11 (by decide) (fun hc3 => ?_) (fun hc3 => ?_)
  · have hp := hp.1 hc3
    refine lv_iconst (v := 0) hx hb dX10_noPit_18 (by decide) ?_
    exact hp_iret hx hb hr rfl hlocks hK h hp dX10_noPit_19
  · have hp := hp.2 hc3
    refine lv_iconst (v := 1) hx hb dX10_noPit_14 (by decide) ?_
    refine lv_goto (tgt := 19) hx hb dX10_noPit_15 (by decide) ?_
    exact hp_iret hx hb hr rfl hlocks hK h hp dX10_noPit_19
abbrev rmX10_pit : Room := { frames := 2, cells := 0, slots := 0, locals := 42 }
theorem ix_X10_pit_10 : ∀ w ∈ wsX100, w ∈ wsX10_pit := by decide +kernel
theorem lk_X10_pit_127 : Cond.fieldLink RX10 127 "KelpShoresModel" "thrown" "I" ∈ wsX10_pit := by decide +kernel
theorem lk_X10_pit_166 : Cond.fieldLink RX10 166 "KelpShoresModel" "pits" "I" ∈ wsX10_pit := by decide +kernel
theorem lk_X10_pit_67 : Cond.fieldLink RX10 67 "KelpShoresModel" "pitOf" "[I" ∈ wsX10_pit := by decide +kernel
def wp_X10_pit (z : Zt) (o : Nat) (p0 : Int32) (w : Vt) (K : Int32 → Vt → Prop) : Prop := isO z 10 o ∧ ∀ w1 : Vt, w1 = uI w 1000 o 0 → wp_X10_noFamily z p0 w1 (fun r3 w2 => wp_X10_throwsIf z o r3 1 w2 (fun r5 w4 => (¬ r5 = 0 → K 0 w4) ∧ (r5 = 0 → ∃ J7 : Int32 → Vt → Prop, (∀ (x8 : Int32) (w9 : Vt), J7 x8 w9 → wp_X10_throwsIf z o x8 2 w9 (fun r12 w11 => (r12 = 0 → ∃ b14 : Nat, zR z 1023 o = some b14 ∧ isO z 2023 b14 ∧ vp_in (vI w11 1026 o) 12 ∧ ∀ w15 : Vt, w15 = uA w11 2023 b14 (vI w11 1026 o : Int32).toNatClampNeg p0 → ∀ w16 : Vt, w16 = uI w15 1026 o ((vI w15 1026 o) + 1) → K ((vI w16 1026 o) - 1) w16) ∧ (¬ r12 = 0 → K 0 w11))) ∧ (¬ (vI w4 1026 o) = 12 → J7 0 w4) ∧ ((vI w4 1026 o) = 12 → J7 1 w4))))
set_option maxHeartbeats 4000000 in
set_option maxRecDepth 100000 in
theorem k_X10_pit (l : Launch) (G : Gt) (z : Zt) (w : Vt) (sz : Nat) (o : Nat) (p0 : Int32) (K : Int32 → Vt → Prop) (hp : wp_X10_pit z o p0 w K) : MI l yX10_pit wsX10_pit rmX10_pit G z w sz [.ref o, .int p0] K := by
  refine Met.ofW (cc := cX10_pit) (maxL := 2) (ret := (some .int)) (by decide +kernel) rfl ?_
  intro p e s m args below meth c s₁ B hml hv
  obtain ⟨rfl, rfl, C, h⟩ := hp_start B hml hv
  generalize gA G z w s.heap.size = A at C h ⊢
  obtain ⟨hx, hb, hr, hlocks, hml, hown, hts, hK, hA, hE⟩ := id C
  obtain ⟨ho, hp⟩ := hp
  have hl := lv_entry ([.ref o, .int p0]) (n := 2) (Nat.le_of_ble_eq_true rfl)
  rw [lg_entry_eq]
  generalize (lg_sl ([.ref o, .int p0]) ++ List.replicate (2 - (lg_sl ([.ref o, .int p0])).length) Slot.unset).toArray = ls at hl ⊢
  have hl : lv_has ls 2 [(0, .ref o), (1, .int p0)] := hl
  refine lv_aload_n hx hb dX10_pit_0 rfl (lv_at hl 0 rfl) ?_
  refine lv_iconst (v := 0) hx hb dX10_pit_1 (by decide) ?_
  refine hp_puti (ci := 10) (ty := .int) (x := 0) hx hb hts ix_X10_pit_10 tyX10 tyX10_ok nmX10 hown hK h ho (by decide) rfl 0 1000 (by decide) (hts _ lk_X10_pit_127) (fun _ h9 => h9) rfl (by decide +kernel) rfl rfl (fun _ _ => rfl) (fun _ _ => Nat.le_of_ble_eq_true rfl) dX10_pit_2 (fun H locs w1 ew1 h => ?_)
  have hp := hp w1 ew1
  refine lv_aload_n hx hb dX10_pit_5 rfl (lv_at hl 0 rfl) ?_
  refine lv_iload_n hx hb dX10_pit_6 rfl (lv_at hl 1 rfl) ?_
  refine hp_cSi ⟨hx, hb, hml, hown, hts⟩ (k_X10_noFamily l G z w1 _ p0 _ hp) (cwS 1 hts gX10_pit_X10_noFamily rfl rfl rfl (by decide +kernel) ⟨Nat.le_of_ble_eq_true rfl, Nat.le_of_ble_eq_true rfl⟩) hK h hA hE rfl hl.1 rfl (Nat.le_of_ble_eq_true rfl) dX10_pit_7 ⟨Nat.le_of_ble_eq_true rfl, Nat.le_of_ble_eq_true rfl⟩ (fun r3 w2 H locs hp h => ?_)
  refine lv_iconst (v := 1) hx hb dX10_pit_10 (by decide) ?_
  refine hp_cVi ⟨hx, hb, hml, hown, hts⟩ (k_X10_throwsIf l G z w2 _ o r3 1 _ hp) (cwV 2 hts gX10_pit_X10_throwsIf rfl rfl rfl (by decide +kernel) ⟨Nat.le_of_ble_eq_true rfl, Nat.le_of_ble_eq_true rfl⟩) ho (by decide) rfl hK h hA hE rfl hl.1 rfl (Nat.le_of_ble_eq_true rfl) dX10_pit_11 ⟨Nat.le_of_ble_eq_true rfl, Nat.le_of_ble_eq_true rfl⟩ (fun r5 w4 H locs hp h => ?_)
  refine lv_if_ne (tgt := 39) hx hb dX10_pit_14 (by decide) (fun hc6 => ?_) (fun hc6 => ?_)
  · have hp := hp.1 hc6
    refine lv_iconst (v := 0) hx hb dX10_pit_39 (by decide) ?_
    exact hp_iret hx hb hr rfl hlocks hK h hp dX10_pit_40
  · have hp := hp.2 hc6
    refine lv_aload_n hx hb dX10_pit_17 rfl (lv_at hl 0 rfl) ?_
    refine lv_aload_n hx hb dX10_pit_18 rfl (lv_at hl 0 rfl) ?_
    refine hp_get (ci := 10) (v := .int (vI w4 1026 o)) hx hb hts ix_X10_pit_10 hown hK h ho (by decide) rfl 26 (by decide) (hts _ lk_X10_pit_166) (fun _ h9 => h9) rfl dX10_pit_19 ?_
    refine lv_bipush (v := 12) hx hb dX10_pit_22 (by decide) ?_
    obtain ⟨J7, jJ7, hp⟩ := hp
    refine hp_jn1 (G := G) (A := A) (z := z) (J := J7) (nL := 2) (j := 32) (lvf := fun x8 => [(0, .ref o), (1, .int p0)]) (stf := fun x8 => [.int x8, .ref o]) (fun kJ7 => ?_) (fun x8 w9 H locs ls hp h hl => ?_)
    · refine lv_icmp_ne (tgt := 31) hx hb dX10_pit_24 (by decide) (fun hc10 => ?_) (fun hc10 => ?_)
      · have hp := hp.1 hc10
        refine lv_iconst (v := 0) hx hb dX10_pit_31 (by decide) ?_
        exact kJ7 0 w4 _ _ _ hp h (lv_sub hl [0, 1] rfl)
      · have hp := hp.2 hc10
        refine lv_iconst (v := 1) hx hb dX10_pit_27 (by decide) ?_
        refine lv_goto (tgt := 32) hx hb dX10_pit_28 (by decide) ?_
        exact kJ7 1 w4 _ _ _ hp h (lv_sub hl [0, 1] rfl)
    have hp := jJ7 x8 w9 hp
    refine lv_iconst (v := 2) hx hb dX10_pit_32 (by decide) ?_
    refine hp_cVi ⟨hx, hb, hml, hown, hts⟩ (k_X10_throwsIf l G z w9 _ o x8 2 _ hp) (cwV 2 hts gX10_pit_X10_throwsIf rfl rfl rfl (by decide +kernel) ⟨Nat.le_of_ble_eq_true rfl, Nat.le_of_ble_eq_true rfl⟩) ho (by decide) rfl hK h hA hE rfl hl.1 rfl (Nat.le_of_ble_eq_true rfl) dX10_pit_33 ⟨Nat.le_of_ble_eq_true rfl, Nat.le_of_ble_eq_true rfl⟩ (fun r12 w11 H locs hp h => ?_)
    refine lv_if_eq (tgt := 41) hx hb dX10_pit_36 (by decide) (fun hc13 => ?_) (fun hc13 => ?_)
    · have hp := hp.1 hc13
      refine lv_aload_n hx hb dX10_pit_41 rfl (lv_at hl 0 rfl) ?_
      obtain ⟨b14, eb14, hob14, hp⟩ := hp
      refine hp_get (ci := 10) (v := .ref b14) hx hb hts ix_X10_pit_10 hown hK h ho (by decide) rfl 23 (by decide) (hts _ lk_X10_pit_67) (fun _ h9 => h9) (by show some (va_rf (zR z 1023 o)) = some (Value.ref b14); rw [eb14]; rfl) dX10_pit_42 ?_
      refine lv_aload_n hx hb dX10_pit_45 rfl (lv_at hl 0 rfl) ?_
      refine hp_get (ci := 10) (v := .int (vI w11 1026 o)) hx hb hts ix_X10_pit_10 hown hK h ho (by decide) rfl 26 (by decide) (hts _ lk_X10_pit_166) (fun _ h9 => h9) rfl dX10_pit_46 ?_
      refine lv_iload_n hx hb dX10_pit_49 rfl (lv_at hl 1 rfl) ?_
      refine hp_iast (t := 2023) (n := 12) hx hb hK h hob14 (by decide) (fun _ _ _ => rfl) hp.1 dX10_pit_50 (fun H locs w15 ew15 h => ?_)
      have hp := hp.2 w15 ew15
      refine lv_aload_n hx hb dX10_pit_51 rfl (lv_at hl 0 rfl) ?_
      refine lv_dup hx hb dX10_pit_52 rfl ?_
      refine hp_get (ci := 10) (v := .int (vI w15 1026 o)) hx hb hts ix_X10_pit_10 hown hK h ho (by decide) rfl 26 (by decide) (hts _ lk_X10_pit_166) (fun _ h9 => h9) rfl dX10_pit_53 ?_
      refine lv_iconst (v := 1) hx hb dX10_pit_56 (by decide) ?_
      refine lv_iadd hx hb dX10_pit_57 ?_
      refine hp_puti (ci := 10) (ty := .int) (x := (vI w15 1026 o) + 1) hx hb hts ix_X10_pit_10 tyX10 tyX10_ok nmX10 hown hK h ho (by decide) rfl 26 1026 (by decide) (hts _ lk_X10_pit_166) (fun _ h9 => h9) rfl (by decide +kernel) rfl rfl (fun _ _ => rfl) (fun _ _ => Nat.le_of_ble_eq_true rfl) dX10_pit_58 (fun H locs w16 ew16 h => ?_)
      have hp := hp w16 ew16
      refine lv_aload_n hx hb dX10_pit_61 rfl (lv_at hl 0 rfl) ?_
      refine hp_get (ci := 10) (v := .int (vI w16 1026 o)) hx hb hts ix_X10_pit_10 hown hK h ho (by decide) rfl 26 (by decide) (hts _ lk_X10_pit_166) (fun _ h9 => h9) rfl dX10_pit_62 ?_
      refine lv_iconst (v := 1) hx hb dX10_pit_65 (by decide) ?_
      refine lv_isub hx hb dX10_pit_66 ?_
      exact hp_iret hx hb hr rfl hlocks hK h hp dX10_pit_67
    · have hp := hp.2 hc13
      refine lv_iconst (v := 0) hx hb dX10_pit_39 (by decide) ?_
      exact hp_iret hx hb hr rfl hlocks hK h hp dX10_pit_40
abbrev rmX10_light : Room := { frames := 2, cells := 0, slots := 0, locals := 43 }
theorem ix_X10_light_10 : ∀ w ∈ wsX100, w ∈ wsX10_light := by decide +kernel
theorem lk_X10_light_127 : Cond.fieldLink RX10 127 "KelpShoresModel" "thrown" "I" ∈ wsX10_light := by decide +kernel
theorem lk_X10_light_73 : Cond.fieldLink RX10 73 "KelpShoresModel" "left" "[I" ∈ wsX10_light := by decide +kernel
theorem lk_X10_light_49 : Cond.fieldLink RX10 49 "KelpShoresModel" "dry" "[I" ∈ wsX10_light := by decide +kernel
theorem lk_X10_light_67 : Cond.fieldLink RX10 67 "KelpShoresModel" "pitOf" "[I" ∈ wsX10_light := by decide +kernel
theorem lk_X10_light_70 : Cond.fieldLink RX10 70 "KelpShoresModel" "load" "[I" ∈ wsX10_light := by decide +kernel
def wp_X10_light (z : Zt) (o : Nat) (p0 : Int32) (p1 : Int32) (w : Vt) (K : Int32 → Vt → Prop) : Prop := isO z 10 o ∧ ∀ w1 : Vt, w1 = uI w 1000 o 0 → wp_X10_noPit z o p0 w1 (fun r3 w2 => wp_X10_throwsIf z o r3 1 w2 (fun r5 w4 => (¬ r5 = 0 → K 0 w4) ∧ (r5 = 0 → wp_X10_in z p1 20 1000 w4 (fun r8 w7 => ∃ J9 : Int32 → Vt → Prop, (∀ (x10 : Int32) (w11 : Vt), J9 x10 w11 → wp_X10_throwsIf z o x10 2 w11 (fun r14 w13 => (¬ r14 = 0 → K 0 w13) ∧ (r14 = 0 → ∃ b16 : Nat, zR z 1025 o = some b16 ∧ isO z 2025 b16 ∧ vp_in p0 12 ∧ (0 < (vA w13 2025 b16 (p0 : Int32).toNatClampNeg) → K 0 w13) ∧ (¬ 0 < (vA w13 2025 b16 (p0 : Int32).toNatClampNeg) → ∃ b18 : Nat, zR z 1017 o = some b18 ∧ isO z 2017 b18 ∧ ∃ b19 : Nat, zR z 1023 o = some b19 ∧ isO z 2023 b19 ∧ vp_in p0 12 ∧ vp_in (vA w13 2023 b19 (p0 : Int32).toNatClampNeg) 8 ∧ (p1 ≤ (vA w13 2017 b18 (vA w13 2023 b19 (p0 : Int32).toNatClampNeg : Int32).toNatClampNeg) → vp_in p0 12 ∧ vp_in (vA w13 2023 b19 (p0 : Int32).toNatClampNeg) 8 ∧ vp_in (vA w13 2023 b19 (p0 : Int32).toNatClampNeg) 8 ∧ ∀ w21 : Vt, w21 = uA w13 2017 b18 (vA w13 2023 b19 (p0 : Int32).toNatClampNeg : Int32).toNatClampNeg ((vA w13 2017 b18 (vA w13 2023 b19 (p0 : Int32).toNatClampNeg : Int32).toNatClampNeg) - p1) → ∃ b22 : Nat, zR z 1024 o = some b22 ∧ isO z 2024 b22 ∧ vp_in p0 12 ∧ ∀ w23 : Vt, w23 = uA w21 2024 b22 (p0 : Int32).toNatClampNeg p1 → vp_in p0 12 ∧ ∀ w24 : Vt, w24 = uA w23 2025 b16 (p0 : Int32).toNatClampNeg 3 → K 1 w24) ∧ (¬ p1 ≤ (vA w13 2017 b18 (vA w13 2023 b19 (p0 : Int32).toNatClampNeg : Int32).toNatClampNeg) → K 0 w13))))) ∧ (¬ r8 = 0 → J9 0 w7) ∧ (r8 = 0 → J9 1 w7)))))
set_option maxHeartbeats 4000000 in
set_option maxRecDepth 100000 in
theorem k_X10_light (l : Launch) (G : Gt) (z : Zt) (w : Vt) (sz : Nat) (o : Nat) (p0 : Int32) (p1 : Int32) (K : Int32 → Vt → Prop) (hp : wp_X10_light z o p0 p1 w K) : MI l yX10_light wsX10_light rmX10_light G z w sz [.ref o, .int p0, .int p1] K := by
  refine Met.ofW (cc := cX10_light) (maxL := 3) (ret := (some .boolean)) (by decide +kernel) rfl ?_
  intro p e s m args below meth c s₁ B hml hv
  obtain ⟨rfl, rfl, C, h⟩ := hp_start B hml hv
  generalize gA G z w s.heap.size = A at C h ⊢
  obtain ⟨hx, hb, hr, hlocks, hml, hown, hts, hK, hA, hE⟩ := id C
  obtain ⟨ho, hp⟩ := hp
  have hl := lv_entry ([.ref o, .int p0, .int p1]) (n := 3) (Nat.le_of_ble_eq_true rfl)
  rw [lg_entry_eq]
  generalize (lg_sl ([.ref o, .int p0, .int p1]) ++ List.replicate (3 - (lg_sl ([.ref o, .int p0, .int p1])).length) Slot.unset).toArray = ls at hl ⊢
  have hl : lv_has ls 3 [(0, .ref o), (1, .int p0), (2, .int p1)] := hl
  refine lv_aload_n hx hb dX10_light_0 rfl (lv_at hl 0 rfl) ?_
  refine lv_iconst (v := 0) hx hb dX10_light_1 (by decide) ?_
  refine hp_puti (ci := 10) (ty := .int) (x := 0) hx hb hts ix_X10_light_10 tyX10 tyX10_ok nmX10 hown hK h ho (by decide) rfl 0 1000 (by decide) (hts _ lk_X10_light_127) (fun _ h9 => h9) rfl (by decide +kernel) rfl rfl (fun _ _ => rfl) (fun _ _ => Nat.le_of_ble_eq_true rfl) dX10_light_2 (fun H locs w1 ew1 h => ?_)
  have hp := hp w1 ew1
  refine lv_aload_n hx hb dX10_light_5 rfl (lv_at hl 0 rfl) ?_
  refine lv_aload_n hx hb dX10_light_6 rfl (lv_at hl 0 rfl) ?_
  refine lv_iload_n hx hb dX10_light_7 rfl (lv_at hl 1 rfl) ?_
  refine hp_cVi ⟨hx, hb, hml, hown, hts⟩ (k_X10_noPit l G z w1 _ o p0 _ hp) (cwV 1 hts gX10_light_X10_noPit rfl rfl rfl (by decide +kernel) ⟨Nat.le_of_ble_eq_true rfl, Nat.le_of_ble_eq_true rfl⟩) ho (by decide) rfl hK h hA hE rfl hl.1 rfl (Nat.le_of_ble_eq_true rfl) dX10_light_8 ⟨Nat.le_of_ble_eq_true rfl, Nat.le_of_ble_eq_true rfl⟩ (fun r3 w2 H locs hp h => ?_)
  refine lv_iconst (v := 1) hx hb dX10_light_11 (by decide) ?_
  refine hp_cVi ⟨hx, hb, hml, hown, hts⟩ (k_X10_throwsIf l G z w2 _ o r3 1 _ hp) (cwV 2 hts gX10_light_X10_throwsIf rfl rfl rfl (by decide +kernel) ⟨Nat.le_of_ble_eq_true rfl, Nat.le_of_ble_eq_true rfl⟩) ho (by decide) rfl hK h hA hE rfl hl.1 rfl (Nat.le_of_ble_eq_true rfl) dX10_light_12 ⟨Nat.le_of_ble_eq_true rfl, Nat.le_of_ble_eq_true rfl⟩ (fun r5 w4 H locs hp h => ?_)
  refine lv_if_ne (tgt := 67) hx hb dX10_light_15 (by decide) (fun hc6 => ?_) (fun hc6 => ?_)
  · have hp := hp.1 hc6
    refine lv_iconst (v := 0) hx hb dX10_light_67 (by decide) ?_
    exact hp_iret hx hb hr rfl hlocks hK h hp dX10_light_68
  · have hp := hp.2 hc6
    refine lv_aload_n hx hb dX10_light_18 rfl (lv_at hl 0 rfl) ?_
    refine lv_iload_n hx hb dX10_light_19 rfl (lv_at hl 2 rfl) ?_
    refine lv_bipush (v := 20) hx hb dX10_light_20 (by decide) ?_
    refine lv_sipush (v := 1000) hx hb dX10_light_22 (by decide) ?_
    refine hp_cSi ⟨hx, hb, hml, hown, hts⟩ (k_X10_in l G z w4 _ p1 20 1000 _ hp) (cwS 3 hts gX10_light_X10_in rfl rfl rfl (by decide +kernel) ⟨Nat.le_of_ble_eq_true rfl, Nat.le_of_ble_eq_true rfl⟩) hK h hA hE rfl hl.1 rfl (Nat.le_of_ble_eq_true rfl) dX10_light_25 ⟨Nat.le_of_ble_eq_true rfl, Nat.le_of_ble_eq_true rfl⟩ (fun r8 w7 H locs hp h => ?_)
    obtain ⟨J9, jJ9, hp⟩ := hp
    refine hp_jn1 (G := G) (A := A) (z := z) (J := J9) (nL := 3) (j := 36) (lvf := fun x10 => [(0, .ref o), (1, .int p0), (2, .int p1)]) (stf := fun x10 => [.int x10, .ref o]) (fun kJ9 => ?_) (fun x10 w11 H locs ls hp h hl => ?_)
    · refine lv_if_ne (tgt := 35) hx hb dX10_light_28 (by decide) (fun hc12 => ?_) (fun hc12 => ?_)
      · have hp := hp.1 hc12
        refine lv_iconst (v := 0) hx hb dX10_light_35 (by decide) ?_
        exact kJ9 0 w7 _ _ _ hp h (lv_sub hl [0, 1, 2] rfl)
      · have hp := hp.2 hc12
        refine lv_iconst (v := 1) hx hb dX10_light_31 (by decide) ?_
        refine lv_goto (tgt := 36) hx hb dX10_light_32 (by decide) ?_
        exact kJ9 1 w7 _ _ _ hp h (lv_sub hl [0, 1, 2] rfl)
    have hp := jJ9 x10 w11 hp
    refine lv_iconst (v := 2) hx hb dX10_light_36 (by decide) ?_
    refine hp_cVi ⟨hx, hb, hml, hown, hts⟩ (k_X10_throwsIf l G z w11 _ o x10 2 _ hp) (cwV 2 hts gX10_light_X10_throwsIf rfl rfl rfl (by decide +kernel) ⟨Nat.le_of_ble_eq_true rfl, Nat.le_of_ble_eq_true rfl⟩) ho (by decide) rfl hK h hA hE rfl hl.1 rfl (Nat.le_of_ble_eq_true rfl) dX10_light_37 ⟨Nat.le_of_ble_eq_true rfl, Nat.le_of_ble_eq_true rfl⟩ (fun r14 w13 H locs hp h => ?_)
    refine lv_if_ne (tgt := 67) hx hb dX10_light_40 (by decide) (fun hc15 => ?_) (fun hc15 => ?_)
    · have hp := hp.1 hc15
      refine lv_iconst (v := 0) hx hb dX10_light_67 (by decide) ?_
      exact hp_iret hx hb hr rfl hlocks hK h hp dX10_light_68
    · have hp := hp.2 hc15
      refine lv_aload_n hx hb dX10_light_43 rfl (lv_at hl 0 rfl) ?_
      obtain ⟨b16, eb16, hob16, hp⟩ := hp
      refine hp_get (ci := 10) (v := .ref b16) hx hb hts ix_X10_light_10 hown hK h ho (by decide) rfl 25 (by decide) (hts _ lk_X10_light_73) (fun _ h9 => h9) (by show some (va_rf (zR z 1025 o)) = some (Value.ref b16); rw [eb16]; rfl) dX10_light_44 ?_
      refine lv_iload_n hx hb dX10_light_47 rfl (lv_at hl 1 rfl) ?_
      refine hp_iald (t := 2025) (n := 12) hx hb hK h hob16 (by decide) (fun _ _ _ => rfl) hp.1 dX10_light_48 ?_
      have hp := hp.2
      refine lv_if_gt (tgt := 67) hx hb dX10_light_49 (by decide) (fun hc17 => ?_) (fun hc17 => ?_)
      · have hp := hp.1 hc17
        refine lv_iconst (v := 0) hx hb dX10_light_67 (by decide) ?_
        exact hp_iret hx hb hr rfl hlocks hK h hp dX10_light_68
      · have hp := hp.2 hc17
        refine lv_aload_n hx hb dX10_light_52 rfl (lv_at hl 0 rfl) ?_
        obtain ⟨b18, eb18, hob18, hp⟩ := hp
        refine hp_get (ci := 10) (v := .ref b18) hx hb hts ix_X10_light_10 hown hK h ho (by decide) rfl 17 (by decide) (hts _ lk_X10_light_49) (fun _ h9 => h9) (by show some (va_rf (zR z 1017 o)) = some (Value.ref b18); rw [eb18]; rfl) dX10_light_53 ?_
        refine lv_aload_n hx hb dX10_light_56 rfl (lv_at hl 0 rfl) ?_
        obtain ⟨b19, eb19, hob19, hp⟩ := hp
        refine hp_get (ci := 10) (v := .ref b19) hx hb hts ix_X10_light_10 hown hK h ho (by decide) rfl 23 (by decide) (hts _ lk_X10_light_67) (fun _ h9 => h9) (by show some (va_rf (zR z 1023 o)) = some (Value.ref b19); rw [eb19]; rfl) dX10_light_57 ?_
        refine lv_iload_n hx hb dX10_light_60 rfl (lv_at hl 1 rfl) ?_
        refine hp_iald (t := 2023) (n := 12) hx hb hK h hob19 (by decide) (fun _ _ _ => rfl) hp.1 dX10_light_61 ?_
        have hp := hp.2
        refine hp_iald (t := 2017) (n := 8) hx hb hK h hob18 (by decide) (fun _ _ _ => rfl) hp.1 dX10_light_62 ?_
        have hp := hp.2
        refine lv_iload_n hx hb dX10_light_63 rfl (lv_at hl 2 rfl) ?_
        refine lv_icmp_ge (tgt := 69) hx hb dX10_light_64 (by decide) (fun hc20 => ?_) (fun hc20 => ?_)
        · have hp := hp.1 hc20
          refine lv_aload_n hx hb dX10_light_69 rfl (lv_at hl 0 rfl) ?_
          refine hp_get (ci := 10) (v := .ref b18) hx hb hts ix_X10_light_10 hown hK h ho (by decide) rfl 17 (by decide) (hts _ lk_X10_light_49) (fun _ h9 => h9) (by show some (va_rf (zR z 1017 o)) = some (Value.ref b18); rw [eb18]; rfl) dX10_light_70 ?_
          refine lv_aload_n hx hb dX10_light_73 rfl (lv_at hl 0 rfl) ?_
          refine hp_get (ci := 10) (v := .ref b19) hx hb hts ix_X10_light_10 hown hK h ho (by decide) rfl 23 (by decide) (hts _ lk_X10_light_67) (fun _ h9 => h9) (by show some (va_rf (zR z 1023 o)) = some (Value.ref b19); rw [eb19]; rfl) dX10_light_74 ?_
          refine lv_iload_n hx hb dX10_light_77 rfl (lv_at hl 1 rfl) ?_
          refine hp_iald (t := 2023) (n := 12) hx hb hK h hob19 (by decide) (fun _ _ _ => rfl) hp.1 dX10_light_78 ?_
          have hp := hp.2
          refine lv_dup2_11 hx hb dX10_light_79 rfl rfl ?_
          refine hp_iald (t := 2017) (n := 8) hx hb hK h hob18 (by decide) (fun _ _ _ => rfl) hp.1 dX10_light_80 ?_
          have hp := hp.2
          refine lv_iload_n hx hb dX10_light_81 rfl (lv_at hl 2 rfl) ?_
          refine lv_isub hx hb dX10_light_82 ?_
          refine hp_iast (t := 2017) (n := 8) hx hb hK h hob18 (by decide) (fun _ _ _ => rfl) hp.1 dX10_light_83 (fun H locs w21 ew21 h => ?_)
          have hp := hp.2 w21 ew21
          refine lv_aload_n hx hb dX10_light_84 rfl (lv_at hl 0 rfl) ?_
          obtain ⟨b22, eb22, hob22, hp⟩ := hp
          refine hp_get (ci := 10) (v := .ref b22) hx hb hts ix_X10_light_10 hown hK h ho (by decide) rfl 24 (by decide) (hts _ lk_X10_light_70) (fun _ h9 => h9) (by show some (va_rf (zR z 1024 o)) = some (Value.ref b22); rw [eb22]; rfl) dX10_light_85 ?_
          refine lv_iload_n hx hb dX10_light_88 rfl (lv_at hl 1 rfl) ?_
          refine lv_iload_n hx hb dX10_light_89 rfl (lv_at hl 2 rfl) ?_
          refine hp_iast (t := 2024) (n := 12) hx hb hK h hob22 (by decide) (fun _ _ _ => rfl) hp.1 dX10_light_90 (fun H locs w23 ew23 h => ?_)
          have hp := hp.2 w23 ew23
          refine lv_aload_n hx hb dX10_light_91 rfl (lv_at hl 0 rfl) ?_
          refine hp_get (ci := 10) (v := .ref b16) hx hb hts ix_X10_light_10 hown hK h ho (by decide) rfl 25 (by decide) (hts _ lk_X10_light_73) (fun _ h9 => h9) (by show some (va_rf (zR z 1025 o)) = some (Value.ref b16); rw [eb16]; rfl) dX10_light_92 ?_
          refine lv_iload_n hx hb dX10_light_95 rfl (lv_at hl 1 rfl) ?_
          refine lv_iconst (v := 3) hx hb dX10_light_96 (by decide) ?_
          refine hp_iast (t := 2025) (n := 12) hx hb hK h hob16 (by decide) (fun _ _ _ => rfl) hp.1 dX10_light_97 (fun H locs w24 ew24 h => ?_)
          have hp := hp.2 w24 ew24
          refine lv_iconst (v := 1) hx hb dX10_light_98 (by decide) ?_
          exact hp_iret hx hb hr rfl hlocks hK h hp dX10_light_99
        · have hp := hp.2 hc20
          refine lv_iconst (v := 0) hx hb dX10_light_67 (by decide) ?_
          exact hp_iret hx hb hr rfl hlocks hK h hp dX10_light_68
abbrev rmX10_burns : Room := { frames := 2, cells := 0, slots := 0, locals := 43 }
theorem ix_X10_burns_10 : ∀ w ∈ wsX100, w ∈ wsX10_burns := by decide +kernel
theorem lk_X10_burns_127 : Cond.fieldLink RX10 127 "KelpShoresModel" "thrown" "I" ∈ wsX10_burns := by decide +kernel
theorem lk_X10_burns_73 : Cond.fieldLink RX10 73 "KelpShoresModel" "left" "[I" ∈ wsX10_burns := by decide +kernel
def wp_X10_burns (z : Zt) (o : Nat) (p0 : Int32) (w : Vt) (K : Int32 → Vt → Prop) : Prop := isO z 10 o ∧ ∀ w1 : Vt, w1 = uI w 1000 o 0 → wp_X10_noPit z o p0 w1 (fun r3 w2 => wp_X10_throwsIf z o r3 1 w2 (fun r5 w4 => (r5 = 0 → ∃ b7 : Nat, zR z 1025 o = some b7 ∧ isO z 2025 b7 ∧ vp_in p0 12 ∧ K (vA w4 2025 b7 (p0 : Int32).toNatClampNeg) w4) ∧ (¬ r5 = 0 → K 0 w4)))
set_option maxHeartbeats 4000000 in
set_option maxRecDepth 100000 in
theorem k_X10_burns (l : Launch) (G : Gt) (z : Zt) (w : Vt) (sz : Nat) (o : Nat) (p0 : Int32) (K : Int32 → Vt → Prop) (hp : wp_X10_burns z o p0 w K) : MI l yX10_burns wsX10_burns rmX10_burns G z w sz [.ref o, .int p0] K := by
  refine Met.ofW (cc := cX10_burns) (maxL := 2) (ret := (some .int)) (by decide +kernel) rfl ?_
  intro p e s m args below meth c s₁ B hml hv
  obtain ⟨rfl, rfl, C, h⟩ := hp_start B hml hv
  generalize gA G z w s.heap.size = A at C h ⊢
  obtain ⟨hx, hb, hr, hlocks, hml, hown, hts, hK, hA, hE⟩ := id C
  obtain ⟨ho, hp⟩ := hp
  have hl := lv_entry ([.ref o, .int p0]) (n := 2) (Nat.le_of_ble_eq_true rfl)
  rw [lg_entry_eq]
  generalize (lg_sl ([.ref o, .int p0]) ++ List.replicate (2 - (lg_sl ([.ref o, .int p0])).length) Slot.unset).toArray = ls at hl ⊢
  have hl : lv_has ls 2 [(0, .ref o), (1, .int p0)] := hl
  refine lv_aload_n hx hb dX10_burns_0 rfl (lv_at hl 0 rfl) ?_
  refine lv_iconst (v := 0) hx hb dX10_burns_1 (by decide) ?_
  refine hp_puti (ci := 10) (ty := .int) (x := 0) hx hb hts ix_X10_burns_10 tyX10 tyX10_ok nmX10 hown hK h ho (by decide) rfl 0 1000 (by decide) (hts _ lk_X10_burns_127) (fun _ h9 => h9) rfl (by decide +kernel) rfl rfl (fun _ _ => rfl) (fun _ _ => Nat.le_of_ble_eq_true rfl) dX10_burns_2 (fun H locs w1 ew1 h => ?_)
  have hp := hp w1 ew1
  refine lv_aload_n hx hb dX10_burns_5 rfl (lv_at hl 0 rfl) ?_
  refine lv_aload_n hx hb dX10_burns_6 rfl (lv_at hl 0 rfl) ?_
  refine lv_iload_n hx hb dX10_burns_7 rfl (lv_at hl 1 rfl) ?_
  refine hp_cVi ⟨hx, hb, hml, hown, hts⟩ (k_X10_noPit l G z w1 _ o p0 _ hp) (cwV 1 hts gX10_burns_X10_noPit rfl rfl rfl (by decide +kernel) ⟨Nat.le_of_ble_eq_true rfl, Nat.le_of_ble_eq_true rfl⟩) ho (by decide) rfl hK h hA hE rfl hl.1 rfl (Nat.le_of_ble_eq_true rfl) dX10_burns_8 ⟨Nat.le_of_ble_eq_true rfl, Nat.le_of_ble_eq_true rfl⟩ (fun r3 w2 H locs hp h => ?_)
  refine lv_iconst (v := 1) hx hb dX10_burns_11 (by decide) ?_
  refine hp_cVi ⟨hx, hb, hml, hown, hts⟩ (k_X10_throwsIf l G z w2 _ o r3 1 _ hp) (cwV 2 hts gX10_burns_X10_throwsIf rfl rfl rfl (by decide +kernel) ⟨Nat.le_of_ble_eq_true rfl, Nat.le_of_ble_eq_true rfl⟩) ho (by decide) rfl hK h hA hE rfl hl.1 rfl (Nat.le_of_ble_eq_true rfl) dX10_burns_12 ⟨Nat.le_of_ble_eq_true rfl, Nat.le_of_ble_eq_true rfl⟩ (fun r5 w4 H locs hp h => ?_)
  refine lv_if_eq (tgt := 22) hx hb dX10_burns_15 (by decide) (fun hc6 => ?_) (fun hc6 => ?_)
  · have hp := hp.1 hc6
    refine lv_aload_n hx hb dX10_burns_22 rfl (lv_at hl 0 rfl) ?_
    obtain ⟨b7, eb7, hob7, hp⟩ := hp
    refine hp_get (ci := 10) (v := .ref b7) hx hb hts ix_X10_burns_10 hown hK h ho (by decide) rfl 25 (by decide) (hts _ lk_X10_burns_73) (fun _ h9 => h9) (by show some (va_rf (zR z 1025 o)) = some (Value.ref b7); rw [eb7]; rfl) dX10_burns_23 ?_
    refine lv_iload_n hx hb dX10_burns_26 rfl (lv_at hl 1 rfl) ?_
    refine hp_iald (t := 2025) (n := 12) hx hb hK h hob7 (by decide) (fun _ _ _ => rfl) hp.1 dX10_burns_27 ?_
    have hp := hp.2
    exact hp_iret hx hb hr rfl hlocks hK h hp dX10_burns_28
  · have hp := hp.2 hc6
    refine lv_iconst (v := 0) hx hb dX10_burns_18 (by decide) ?_
    refine lv_goto (tgt := 28) hx hb dX10_burns_19 (by decide) ?_
    exact hp_iret hx hb hr rfl hlocks hK h hp dX10_burns_28
abbrev rmX10_feed : Room := { frames := 0, cells := 0, slots := 0, locals := 0 }
theorem ix_X10_feed_10 : ∀ w ∈ wsX100, w ∈ wsX10_feed := by decide +kernel
theorem lk_X10_feed_127 : Cond.fieldLink RX10 127 "KelpShoresModel" "thrown" "I" ∈ wsX10_feed := by decide +kernel
theorem lk_X10_feed_199 : Cond.fieldLink RX10 199 "KelpShoresModel" "taped" "I" ∈ wsX10_feed := by decide +kernel
theorem lk_X10_feed_93 : Cond.fieldLink RX10 93 "KelpShoresModel" "five" "[I" ∈ wsX10_feed := by decide +kernel
theorem lk_X10_feed_86 : Cond.fieldLink RX10 86 "KelpShoresModel" "tape" "[B" ∈ wsX10_feed := by decide +kernel
def wL_X10_feed_60 (z : Zt) (o : Nat) (K : Int32 → Vt → Prop) (Kx : Int32 → Int32 → Int32 → Int32 → Int32 → Int32 → Vt → Prop) : Nat → Int32 → Int32 → Int32 → Int32 → Int32 → Int32 → Vt → Prop
  | 0, _, _, _, _, _, _, _ => False
  | n + 1, x6_, x1_, x2_, x3_, x4_, x5_, w => (20 ≤ x6_ → Kx x6_ x1_ x2_ x3_ x4_ x5_ w) ∧ (¬ 20 ≤ x6_ → ∃ b10 : Nat, zR z 1033 o = some b10 ∧ isO z 2033 b10 ∧ ∃ b11 : Nat, zR z 1039 o = some b11 ∧ isO z 2039 b11 ∧ vp_in (x6_ / 4) 5 ∧ vp_in ((vI w 1034 o) + x6_) 400 ∧ ∀ w12 : Vt, w12 = uA w 2033 b10 ((vI w 1034 o) + x6_ : Int32).toNatClampNeg (vp_nar .byte (((vA w 2039 b11 (x6_ / 4 : Int32).toNatClampNeg) >>> ((24 - (8 * (x6_ - x6_ / 4 * 4))) &&& 31)).toInt8.toInt32)) → ∀ x13 : Int32, x13 = x6_ + 1 → wL_X10_feed_60 z o K Kx n x13 x1_ x2_ x3_ x4_ x5_ w12)
set_option maxHeartbeats 4000000 in
set_option maxRecDepth 100000 in
theorem kL_X10_feed_60 {p : Program} {l : Launch} {e : Env} {s : State} {m : MethodId} {args : Array Value} {below : List Frame} {meth : Method} {c : Code} {G : Gt} {A : Nat → Prop} {z : Zt} (C : gC p s m args meth c cX10_feed 7 RX10 wsX10_feed (some .int) G A) (o : Nat) (ho : isO z 10 o) (K : Int32 → Vt → Prop) (Kx : Int32 → Int32 → Int32 → Int32 → Int32 → Int32 → Vt → Prop) (kKx : ∀ (x6_ x1_ x2_ x3_ x4_ x5_ : Int32) (w : Vt) (H : Heap) (locs : List Loc) (ls : Array Slot), Kx x6_ x1_ x2_ x3_ x4_ x5_ w → hpH G.1 G.2.1 A s.heap z w H locs → lv_has ls 7 [(6, .int x6_), (0, .ref o), (1, .int x1_), (2, .int x2_), (3, .int x3_), (4, .int x4_), (5, .int x5_)] → W p l e (headSpec wsX10_feed rmX10_feed).room s m args below meth c H locs 0 0 (MQ below (va_Qi K (gB G A z) A) args s 0 0 A) (F0 m 106 ls [])) : ∀ (n : Nat) (x6_ x1_ x2_ x3_ x4_ x5_ : Int32) (w : Vt) (H : Heap) (locs : List Loc) (ls : Array Slot), wL_X10_feed_60 z o K Kx n x6_ x1_ x2_ x3_ x4_ x5_ w → hpH G.1 G.2.1 A s.heap z w H locs → lv_has ls 7 [(6, .int x6_), (0, .ref o), (1, .int x1_), (2, .int x2_), (3, .int x3_), (4, .int x4_), (5, .int x5_)] → W p l e (headSpec wsX10_feed rmX10_feed).room s m args below meth c H locs 0 0 (MQ below (va_Qi K (gB G A z) A) args s 0 0 A) (F0 m 60 ls []) := by
  obtain ⟨hx, hb, hr, hlocks, hml, hown, hts, hK, hA, hE⟩ := id C
  intro n
  induction n with
  | zero =>
    intro x6_ x1_ x2_ x3_ x4_ x5_ w H locs ls hp
    exact hp.elim
  | succ n ih =>
    intro x6_ x1_ x2_ x3_ x4_ x5_ w H locs ls hp h hl
    refine lv_iload hx hb dX10_feed_60 (lv_at hl 0 rfl) ?_
    refine lv_bipush (v := 20) hx hb dX10_feed_62 (by decide) ?_
    refine lv_icmp_ge (tgt := 106) hx hb dX10_feed_64 (by decide) (fun hc9 => ?_) (fun hc9 => ?_)
    · have hp := hp.1 hc9
      exact kKx x6_ x1_ x2_ x3_ x4_ x5_ w _ _ _ hp h (lv_sub hl [0, 1, 2, 3, 4, 5, 6] rfl)
    · have hp := hp.2 hc9
      refine lv_aload_n hx hb dX10_feed_67 rfl (lv_at hl 1 rfl) ?_
      obtain ⟨b10, eb10, hob10, hp⟩ := hp
      refine hp_get (ci := 10) (v := .ref b10) hx hb hts ix_X10_feed_10 hown hK h ho (by decide) rfl 33 (by decide) (hts _ lk_X10_feed_86) (fun _ h9 => h9) (by show some (va_rf (zR z 1033 o)) = some (Value.ref b10); rw [eb10]; rfl) dX10_feed_68 ?_
      refine lv_aload_n hx hb dX10_feed_71 rfl (lv_at hl 1 rfl) ?_
      refine hp_get (ci := 10) (v := .int (vI w 1034 o)) hx hb hts ix_X10_feed_10 hown hK h ho (by decide) rfl 34 (by decide) (hts _ lk_X10_feed_199) (fun _ h9 => h9) rfl dX10_feed_72 ?_
      refine lv_iload hx hb dX10_feed_75 (lv_at hl 0 rfl) ?_
      refine lv_iadd hx hb dX10_feed_77 ?_
      refine lv_aload_n hx hb dX10_feed_78 rfl (lv_at hl 1 rfl) ?_
      obtain ⟨b11, eb11, hob11, hp⟩ := hp
      refine hp_get (ci := 10) (v := .ref b11) hx hb hts ix_X10_feed_10 hown hK h ho (by decide) rfl 39 (by decide) (hts _ lk_X10_feed_93) (fun _ h9 => h9) (by show some (va_rf (zR z 1039 o)) = some (Value.ref b11); rw [eb11]; rfl) dX10_feed_79 ?_
      refine lv_iload hx hb dX10_feed_82 (lv_at hl 0 rfl) ?_
      refine lv_iconst (v := 4) hx hb dX10_feed_84 (by decide) ?_
      refine lv_idiv hx hb dX10_feed_85 (by decide) ?_
      refine hp_iald (t := 2039) (n := 5) hx hb hK h hob11 (by decide) (fun _ _ _ => rfl) hp.1 dX10_feed_86 ?_
      have hp := hp.2
      refine lv_bipush (v := 24) hx hb dX10_feed_87 (by decide) ?_
      refine lv_bipush (v := 8) hx hb dX10_feed_89 (by decide) ?_
      refine lv_iload hx hb dX10_feed_91 (lv_at hl 0 rfl) ?_
      refine lv_iconst (v := 4) hx hb dX10_feed_93 (by decide) ?_
      refine lv_irem hx hb dX10_feed_94 (by decide) ?_
      refine lv_imul hx hb dX10_feed_95 ?_
      refine lv_isub hx hb dX10_feed_96 ?_
      refine lv_ishr hx hb dX10_feed_97 ?_
      refine lv_i2b hx hb dX10_feed_98 rfl ?_
      refine hp_bast (t := 2033) (n := 400) hx hb hK h hob10 (by decide) (fun _ _ _ => rfl) hp.1 dX10_feed_99 (fun H locs w12 ew12 h => ?_)
      have hp := hp.2 w12 ew12
      obtain ⟨x13, ex13⟩ : ∃ y : Int32, y = x6_ + 1 := ⟨_, rfl⟩
      have hp := hp x13 ex13
      refine lv_iinc (v := x13) (lv' := [(6, .int x13), (0, .ref o), (1, .int x1_), (2, .int x2_), (3, .int x3_), (4, .int x4_), (5, .int x5_)]) hx hb dX10_feed_100 hl (k := 0) rfl (by rw [ex13]; rfl) (by decide) rfl (fun ls hl => ?_)
      refine lv_goto (tgt := 60) hx hb dX10_feed_103 (by decide) ?_
      exact ih x13 x1_ x2_ x3_ x4_ x5_ w12 _ _ _ hp h (lv_sub hl [0, 1, 2, 3, 4, 5, 6] rfl)
def wp_X10_feed (z : Zt) (o : Nat) (p0 : Int32) (p1 : Int32) (p2 : Int32) (p3 : Int32) (p4 : Int32) (w : Vt) (K : Int32 → Vt → Prop) : Prop := isO z 10 o ∧ ∀ w1 : Vt, w1 = uI w 1000 o 0 → (((vI w1 1034 o) + 20) ≤ 400 → ∃ b3 : Nat, zR z 1039 o = some b3 ∧ isO z 2039 b3 ∧ vp_in 0 5 ∧ ∀ w4 : Vt, w4 = uA w1 2039 b3 (0 : Int32).toNatClampNeg p0 → vp_in 1 5 ∧ ∀ w5 : Vt, w5 = uA w4 2039 b3 (1 : Int32).toNatClampNeg p1 → vp_in 2 5 ∧ ∀ w6 : Vt, w6 = uA w5 2039 b3 (2 : Int32).toNatClampNeg p2 → vp_in 3 5 ∧ ∀ w7 : Vt, w7 = uA w6 2039 b3 (3 : Int32).toNatClampNeg p3 → vp_in 4 5 ∧ ∀ w8 : Vt, w8 = uA w7 2039 b3 (4 : Int32).toNatClampNeg p4 → ∃ n14 : Nat, wL_X10_feed_60 z o K (fun x15 x16 x17 x18 x19 x20 w21 => ∀ w22 : Vt, w22 = uI w21 1034 o ((vI w21 1034 o) + 20) → K (vI w22 1034 o) w22) n14 0 p0 p1 p2 p3 p4 w8) ∧ (¬ ((vI w1 1034 o) + 20) ≤ 400 → K (-1) w1)
set_option maxHeartbeats 4000000 in
set_option maxRecDepth 100000 in
theorem k_X10_feed (l : Launch) (G : Gt) (z : Zt) (w : Vt) (sz : Nat) (o : Nat) (p0 : Int32) (p1 : Int32) (p2 : Int32) (p3 : Int32) (p4 : Int32) (K : Int32 → Vt → Prop) (hp : wp_X10_feed z o p0 p1 p2 p3 p4 w K) : MI l yX10_feed wsX10_feed rmX10_feed G z w sz [.ref o, .int p0, .int p1, .int p2, .int p3, .int p4] K := by
  refine Met.ofW (cc := cX10_feed) (maxL := 7) (ret := (some .int)) (by decide +kernel) rfl ?_
  intro p e s m args below meth c s₁ B hml hv
  obtain ⟨rfl, rfl, C, h⟩ := hp_start B hml hv
  generalize gA G z w s.heap.size = A at C h ⊢
  obtain ⟨hx, hb, hr, hlocks, hml, hown, hts, hK, hA, hE⟩ := id C
  obtain ⟨ho, hp⟩ := hp
  have hl := lv_entry ([.ref o, .int p0, .int p1, .int p2, .int p3, .int p4]) (n := 7) (Nat.le_of_ble_eq_true rfl)
  rw [lg_entry_eq]
  generalize (lg_sl ([.ref o, .int p0, .int p1, .int p2, .int p3, .int p4]) ++ List.replicate (7 - (lg_sl ([.ref o, .int p0, .int p1, .int p2, .int p3, .int p4])).length) Slot.unset).toArray = ls at hl ⊢
  have hl : lv_has ls 7 [(0, .ref o), (1, .int p0), (2, .int p1), (3, .int p2), (4, .int p3), (5, .int p4)] := hl
  refine lv_aload_n hx hb dX10_feed_0 rfl (lv_at hl 0 rfl) ?_
  refine lv_iconst (v := 0) hx hb dX10_feed_1 (by decide) ?_
  refine hp_puti (ci := 10) (ty := .int) (x := 0) hx hb hts ix_X10_feed_10 tyX10 tyX10_ok nmX10 hown hK h ho (by decide) rfl 0 1000 (by decide) (hts _ lk_X10_feed_127) (fun _ h9 => h9) rfl (by decide +kernel) rfl rfl (fun _ _ => rfl) (fun _ _ => Nat.le_of_ble_eq_true rfl) dX10_feed_2 (fun H locs w1 ew1 h => ?_)
  have hp := hp w1 ew1
  refine lv_aload_n hx hb dX10_feed_5 rfl (lv_at hl 0 rfl) ?_
  refine hp_get (ci := 10) (v := .int (vI w1 1034 o)) hx hb hts ix_X10_feed_10 hown hK h ho (by decide) rfl 34 (by decide) (hts _ lk_X10_feed_199) (fun _ h9 => h9) rfl dX10_feed_6 ?_
  refine lv_bipush (v := 20) hx hb dX10_feed_9 (by decide) ?_
  refine lv_iadd hx hb dX10_feed_11 ?_
  refine lv_sipush (v := 400) hx hb dX10_feed_12 (by decide) ?_
  refine lv_icmp_le (tgt := 20) hx hb dX10_feed_15 (by decide) (fun hc2 => ?_) (fun hc2 => ?_)
  · have hp := hp.1 hc2
    refine lv_aload_n hx hb dX10_feed_20 rfl (lv_at hl 0 rfl) ?_
    obtain ⟨b3, eb3, hob3, hp⟩ := hp
    refine hp_get (ci := 10) (v := .ref b3) hx hb hts ix_X10_feed_10 hown hK h ho (by decide) rfl 39 (by decide) (hts _ lk_X10_feed_93) (fun _ h9 => h9) (by show some (va_rf (zR z 1039 o)) = some (Value.ref b3); rw [eb3]; rfl) dX10_feed_21 ?_
    refine lv_iconst (v := 0) hx hb dX10_feed_24 (by decide) ?_
    refine lv_iload_n hx hb dX10_feed_25 rfl (lv_at hl 1 rfl) ?_
    refine hp_iast (t := 2039) (n := 5) hx hb hK h hob3 (by decide) (fun _ _ _ => rfl) hp.1 dX10_feed_26 (fun H locs w4 ew4 h => ?_)
    have hp := hp.2 w4 ew4
    refine lv_aload_n hx hb dX10_feed_27 rfl (lv_at hl 0 rfl) ?_
    refine hp_get (ci := 10) (v := .ref b3) hx hb hts ix_X10_feed_10 hown hK h ho (by decide) rfl 39 (by decide) (hts _ lk_X10_feed_93) (fun _ h9 => h9) (by show some (va_rf (zR z 1039 o)) = some (Value.ref b3); rw [eb3]; rfl) dX10_feed_28 ?_
    refine lv_iconst (v := 1) hx hb dX10_feed_31 (by decide) ?_
    refine lv_iload_n hx hb dX10_feed_32 rfl (lv_at hl 2 rfl) ?_
    refine hp_iast (t := 2039) (n := 5) hx hb hK h hob3 (by decide) (fun _ _ _ => rfl) hp.1 dX10_feed_33 (fun H locs w5 ew5 h => ?_)
    have hp := hp.2 w5 ew5
    refine lv_aload_n hx hb dX10_feed_34 rfl (lv_at hl 0 rfl) ?_
    refine hp_get (ci := 10) (v := .ref b3) hx hb hts ix_X10_feed_10 hown hK h ho (by decide) rfl 39 (by decide) (hts _ lk_X10_feed_93) (fun _ h9 => h9) (by show some (va_rf (zR z 1039 o)) = some (Value.ref b3); rw [eb3]; rfl) dX10_feed_35 ?_
    refine lv_iconst (v := 2) hx hb dX10_feed_38 (by decide) ?_
    refine lv_iload_n hx hb dX10_feed_39 rfl (lv_at hl 3 rfl) ?_
    refine hp_iast (t := 2039) (n := 5) hx hb hK h hob3 (by decide) (fun _ _ _ => rfl) hp.1 dX10_feed_40 (fun H locs w6 ew6 h => ?_)
    have hp := hp.2 w6 ew6
    refine lv_aload_n hx hb dX10_feed_41 rfl (lv_at hl 0 rfl) ?_
    refine hp_get (ci := 10) (v := .ref b3) hx hb hts ix_X10_feed_10 hown hK h ho (by decide) rfl 39 (by decide) (hts _ lk_X10_feed_93) (fun _ h9 => h9) (by show some (va_rf (zR z 1039 o)) = some (Value.ref b3); rw [eb3]; rfl) dX10_feed_42 ?_
    refine lv_iconst (v := 3) hx hb dX10_feed_45 (by decide) ?_
    refine lv_iload hx hb dX10_feed_46 (lv_at hl 4 rfl) ?_
    refine hp_iast (t := 2039) (n := 5) hx hb hK h hob3 (by decide) (fun _ _ _ => rfl) hp.1 dX10_feed_48 (fun H locs w7 ew7 h => ?_)
    have hp := hp.2 w7 ew7
    refine lv_aload_n hx hb dX10_feed_49 rfl (lv_at hl 0 rfl) ?_
    refine hp_get (ci := 10) (v := .ref b3) hx hb hts ix_X10_feed_10 hown hK h ho (by decide) rfl 39 (by decide) (hts _ lk_X10_feed_93) (fun _ h9 => h9) (by show some (va_rf (zR z 1039 o)) = some (Value.ref b3); rw [eb3]; rfl) dX10_feed_50 ?_
    refine lv_iconst (v := 4) hx hb dX10_feed_53 (by decide) ?_
    refine lv_iload hx hb dX10_feed_54 (lv_at hl 5 rfl) ?_
    refine hp_iast (t := 2039) (n := 5) hx hb hK h hob3 (by decide) (fun _ _ _ => rfl) hp.1 dX10_feed_56 (fun H locs w8 ew8 h => ?_)
    have hp := hp.2 w8 ew8
    refine lv_iconst (v := 0) hx hb dX10_feed_57 (by decide) ?_
    refine lv_istore (lv' := [(6, .int 0), (0, .ref o), (1, .int p0), (2, .int p1), (3, .int p2), (4, .int p3), (5, .int p4)]) hx hb dX10_feed_58 hl (by decide) rfl (fun ls hl => ?_)
    obtain ⟨n14, hp⟩ := hp
    refine kL_X10_feed_60 C o ho _ _ (fun x15 x16 x17 x18 x19 x20 w21 H locs ls hp h hl => ?_) n14 0 p0 p1 p2 p3 p4 w8 _ _ _ hp h (lv_sub hl [0, 1, 2, 3, 4, 5, 6] rfl)
    refine lv_aload_n hx hb dX10_feed_106 rfl (lv_at hl 1 rfl) ?_
    refine lv_dup hx hb dX10_feed_107 rfl ?_
    refine hp_get (ci := 10) (v := .int (vI w21 1034 o)) hx hb hts ix_X10_feed_10 hown hK h ho (by decide) rfl 34 (by decide) (hts _ lk_X10_feed_199) (fun _ h9 => h9) rfl dX10_feed_108 ?_
    refine lv_bipush (v := 20) hx hb dX10_feed_111 (by decide) ?_
    refine lv_iadd hx hb dX10_feed_113 ?_
    refine hp_puti (ci := 10) (ty := .int) (x := (vI w21 1034 o) + 20) hx hb hts ix_X10_feed_10 tyX10 tyX10_ok nmX10 hown hK h ho (by decide) rfl 34 1034 (by decide) (hts _ lk_X10_feed_199) (fun _ h9 => h9) rfl (by decide +kernel) rfl rfl (fun _ _ => rfl) (fun _ _ => Nat.le_of_ble_eq_true rfl) dX10_feed_114 (fun H locs w22 ew22 h => ?_)
    have hp := hp w22 ew22
    refine lv_aload_n hx hb dX10_feed_117 rfl (lv_at hl 1 rfl) ?_
    refine hp_get (ci := 10) (v := .int (vI w22 1034 o)) hx hb hts ix_X10_feed_10 hown hK h ho (by decide) rfl 34 (by decide) (hts _ lk_X10_feed_199) (fun _ h9 => h9) rfl dX10_feed_118 ?_
    exact hp_iret hx hb hr rfl hlocks hK h hp dX10_feed_121
  · have hp := hp.2 hc2
    refine lv_iconst (v := (-1)) hx hb dX10_feed_18 (by decide) ?_
    exact hp_iret hx hb hr rfl hlocks hK h hp dX10_feed_19
abbrev rmX10_end : Room := { frames := 0, cells := 0, slots := 0, locals := 0 }
theorem ix_X10_end_10 : ∀ w ∈ wsX100, w ∈ wsX10_end := by decide +kernel
theorem lk_X10_end_127 : Cond.fieldLink RX10 127 "KelpShoresModel" "thrown" "I" ∈ wsX10_end := by decide +kernel
theorem lk_X10_end_199 : Cond.fieldLink RX10 199 "KelpShoresModel" "taped" "I" ∈ wsX10_end := by decide +kernel
def wp_X10_end (z : Zt) (o : Nat) (p0 : Int32) (w : Vt) (K : Int32 → Vt → Prop) : Prop := isO z 10 o ∧ ∀ w1 : Vt, w1 = uI w 1000 o 0 → (p0 < 0 → K 0 w1) ∧ (¬ p0 < 0 → (p0 ≤ (vI w1 1034 o) → ∀ w4 : Vt, w4 = uI w1 1034 o p0 → K 1 w4) ∧ (¬ p0 ≤ (vI w1 1034 o) → K 0 w1))
set_option maxHeartbeats 4000000 in
set_option maxRecDepth 100000 in
theorem k_X10_end (l : Launch) (G : Gt) (z : Zt) (w : Vt) (sz : Nat) (o : Nat) (p0 : Int32) (K : Int32 → Vt → Prop) (hp : wp_X10_end z o p0 w K) : MI l yX10_end wsX10_end rmX10_end G z w sz [.ref o, .int p0] K := by
  refine Met.ofW (cc := cX10_end) (maxL := 2) (ret := (some .boolean)) (by decide +kernel) rfl ?_
  intro p e s m args below meth c s₁ B hml hv
  obtain ⟨rfl, rfl, C, h⟩ := hp_start B hml hv
  generalize gA G z w s.heap.size = A at C h ⊢
  obtain ⟨hx, hb, hr, hlocks, hml, hown, hts, hK, hA, hE⟩ := id C
  obtain ⟨ho, hp⟩ := hp
  have hl := lv_entry ([.ref o, .int p0]) (n := 2) (Nat.le_of_ble_eq_true rfl)
  rw [lg_entry_eq]
  generalize (lg_sl ([.ref o, .int p0]) ++ List.replicate (2 - (lg_sl ([.ref o, .int p0])).length) Slot.unset).toArray = ls at hl ⊢
  have hl : lv_has ls 2 [(0, .ref o), (1, .int p0)] := hl
  refine lv_aload_n hx hb dX10_end_0 rfl (lv_at hl 0 rfl) ?_
  refine lv_iconst (v := 0) hx hb dX10_end_1 (by decide) ?_
  refine hp_puti (ci := 10) (ty := .int) (x := 0) hx hb hts ix_X10_end_10 tyX10 tyX10_ok nmX10 hown hK h ho (by decide) rfl 0 1000 (by decide) (hts _ lk_X10_end_127) (fun _ h9 => h9) rfl (by decide +kernel) rfl rfl (fun _ _ => rfl) (fun _ _ => Nat.le_of_ble_eq_true rfl) dX10_end_2 (fun H locs w1 ew1 h => ?_)
  have hp := hp w1 ew1
  refine lv_iload_n hx hb dX10_end_5 rfl (lv_at hl 1 rfl) ?_
  refine lv_if_lt (tgt := 17) hx hb dX10_end_6 (by decide) (fun hc2 => ?_) (fun hc2 => ?_)
  · have hp := hp.1 hc2
    refine lv_iconst (v := 0) hx hb dX10_end_17 (by decide) ?_
    exact hp_iret hx hb hr rfl hlocks hK h hp dX10_end_18
  · have hp := hp.2 hc2
    refine lv_iload_n hx hb dX10_end_9 rfl (lv_at hl 1 rfl) ?_
    refine lv_aload_n hx hb dX10_end_10 rfl (lv_at hl 0 rfl) ?_
    refine hp_get (ci := 10) (v := .int (vI w1 1034 o)) hx hb hts ix_X10_end_10 hown hK h ho (by decide) rfl 34 (by decide) (hts _ lk_X10_end_199) (fun _ h9 => h9) rfl dX10_end_11 ?_
    refine lv_icmp_le (tgt := 19) hx hb dX10_end_14 (by decide) (fun hc3 => ?_) (fun hc3 => ?_)
    · have hp := hp.1 hc3
      refine lv_aload_n hx hb dX10_end_19 rfl (lv_at hl 0 rfl) ?_
      refine lv_iload_n hx hb dX10_end_20 rfl (lv_at hl 1 rfl) ?_
      refine hp_puti (ci := 10) (ty := .int) (x := p0) hx hb hts ix_X10_end_10 tyX10 tyX10_ok nmX10 hown hK h ho (by decide) rfl 34 1034 (by decide) (hts _ lk_X10_end_199) (fun _ h9 => h9) rfl (by decide +kernel) rfl rfl (fun _ _ => rfl) (fun _ _ => Nat.le_of_ble_eq_true rfl) dX10_end_21 (fun H locs w4 ew4 h => ?_)
      have hp := hp w4 ew4
      refine lv_iconst (v := 1) hx hb dX10_end_24 (by decide) ?_
      exact hp_iret hx hb hr rfl hlocks hK h hp dX10_end_25
    · have hp := hp.2 hc3
      refine lv_iconst (v := 0) hx hb dX10_end_17 (by decide) ?_
      exact hp_iret hx hb hr rfl hlocks hK h hp dX10_end_18
abbrev rmX10_isAt : Room := { frames := 0, cells := 0, slots := 0, locals := 0 }
theorem ix_X10_isAt_10 : ∀ w ∈ wsX100, w ∈ wsX10_isAt := by decide +kernel
theorem lk_X10_isAt_202 : Cond.fieldLink RX10 202 "KelpShoresModel" "point" "I" ∈ wsX10_isAt := by decide +kernel
theorem lk_X10_isAt_205 : Cond.fieldLink RX10 205 "KelpShoresModel" "end" "I" ∈ wsX10_isAt := by decide +kernel
theorem lk_X10_isAt_86 : Cond.fieldLink RX10 86 "KelpShoresModel" "tape" "[B" ∈ wsX10_isAt := by decide +kernel
def wp_X10_isAt (z : Zt) (o : Nat) (p0 : Int32) (p1 : Int32) (w : Vt) (K : Int32 → Vt → Prop) : Prop := isO z 10 o ∧ ((vI w 1036 o) ≤ (vI w 1035 o) → K 0 w) ∧ (¬ (vI w 1036 o) ≤ (vI w 1035 o) → ∃ b2 : Nat, zR z 1033 o = some b2 ∧ isO z 2033 b2 ∧ vp_in (vI w 1035 o) 400 ∧ ((vA w 2033 b2 (vI w 1035 o : Int32).toNatClampNeg) < p0 → K 0 w) ∧ (¬ (vA w 2033 b2 (vI w 1035 o : Int32).toNatClampNeg) < p0 → vp_in (vI w 1035 o) 400 ∧ (p1 < (vA w 2033 b2 (vI w 1035 o : Int32).toNatClampNeg) → K 0 w) ∧ (¬ p1 < (vA w 2033 b2 (vI w 1035 o : Int32).toNatClampNeg) → K 1 w)))
set_option maxHeartbeats 4000000 in
set_option maxRecDepth 100000 in
theorem k_X10_isAt (l : Launch) (G : Gt) (z : Zt) (w : Vt) (sz : Nat) (o : Nat) (p0 : Int32) (p1 : Int32) (K : Int32 → Vt → Prop) (hp : wp_X10_isAt z o p0 p1 w K) : MI l yX10_isAt wsX10_isAt rmX10_isAt G z w sz [.ref o, .int p0, .int p1] K := by
  refine Met.ofW (cc := cX10_isAt) (maxL := 3) (ret := (some .boolean)) (by decide +kernel) rfl ?_
  intro p e s m args below meth c s₁ B hml hv
  obtain ⟨rfl, rfl, C, h⟩ := hp_start B hml hv
  generalize gA G z w s.heap.size = A at C h ⊢
  obtain ⟨hx, hb, hr, hlocks, hml, hown, hts, hK, hA, hE⟩ := id C
  obtain ⟨ho, hp⟩ := hp
  have hl := lv_entry ([.ref o, .int p0, .int p1]) (n := 3) (Nat.le_of_ble_eq_true rfl)
  rw [lg_entry_eq]
  generalize (lg_sl ([.ref o, .int p0, .int p1]) ++ List.replicate (3 - (lg_sl ([.ref o, .int p0, .int p1])).length) Slot.unset).toArray = ls at hl ⊢
  have hl : lv_has ls 3 [(0, .ref o), (1, .int p0), (2, .int p1)] := hl
  refine lv_aload_n hx hb dX10_isAt_0 rfl (lv_at hl 0 rfl) ?_
  refine hp_get (ci := 10) (v := .int (vI w 1035 o)) hx hb hts ix_X10_isAt_10 hown hK h ho (by decide) rfl 35 (by decide) (hts _ lk_X10_isAt_202) (fun _ h9 => h9) rfl dX10_isAt_1 ?_
  refine lv_aload_n hx hb dX10_isAt_4 rfl (lv_at hl 0 rfl) ?_
  refine hp_get (ci := 10) (v := .int (vI w 1036 o)) hx hb hts ix_X10_isAt_10 hown hK h ho (by decide) rfl 36 (by decide) (hts _ lk_X10_isAt_205) (fun _ h9 => h9) rfl dX10_isAt_5 ?_
  refine lv_icmp_ge (tgt := 41) hx hb dX10_isAt_8 (by decide) (fun hc1 => ?_) (fun hc1 => ?_)
  · have hp := hp.1 hc1
    refine lv_iconst (v := 0) hx hb dX10_isAt_41 (by decide) ?_
    exact hp_iret hx hb hr rfl hlocks hK h hp dX10_isAt_42
  · have hp := hp.2 hc1
    refine lv_aload_n hx hb dX10_isAt_11 rfl (lv_at hl 0 rfl) ?_
    obtain ⟨b2, eb2, hob2, hp⟩ := hp
    refine hp_get (ci := 10) (v := .ref b2) hx hb hts ix_X10_isAt_10 hown hK h ho (by decide) rfl 33 (by decide) (hts _ lk_X10_isAt_86) (fun _ h9 => h9) (by show some (va_rf (zR z 1033 o)) = some (Value.ref b2); rw [eb2]; rfl) dX10_isAt_12 ?_
    refine lv_aload_n hx hb dX10_isAt_15 rfl (lv_at hl 0 rfl) ?_
    refine hp_get (ci := 10) (v := .int (vI w 1035 o)) hx hb hts ix_X10_isAt_10 hown hK h ho (by decide) rfl 35 (by decide) (hts _ lk_X10_isAt_202) (fun _ h9 => h9) rfl dX10_isAt_16 ?_
    refine hp_bald (t := 2033) (n := 400) hx hb hK h hob2 (by decide) (fun _ _ _ => rfl) hp.1 dX10_isAt_19 ?_
    have hp := hp.2
    refine lv_iload_n hx hb dX10_isAt_20 rfl (lv_at hl 1 rfl) ?_
    refine lv_icmp_lt (tgt := 41) hx hb dX10_isAt_21 (by decide) (fun hc3 => ?_) (fun hc3 => ?_)
    · have hp := hp.1 hc3
      refine lv_iconst (v := 0) hx hb dX10_isAt_41 (by decide) ?_
      exact hp_iret hx hb hr rfl hlocks hK h hp dX10_isAt_42
    · have hp := hp.2 hc3
      refine lv_aload_n hx hb dX10_isAt_24 rfl (lv_at hl 0 rfl) ?_
      refine hp_get (ci := 10) (v := .ref b2) hx hb hts ix_X10_isAt_10 hown hK h ho (by decide) rfl 33 (by decide) (hts _ lk_X10_isAt_86) (fun _ h9 => h9) (by show some (va_rf (zR z 1033 o)) = some (Value.ref b2); rw [eb2]; rfl) dX10_isAt_25 ?_
      refine lv_aload_n hx hb dX10_isAt_28 rfl (lv_at hl 0 rfl) ?_
      refine hp_get (ci := 10) (v := .int (vI w 1035 o)) hx hb hts ix_X10_isAt_10 hown hK h ho (by decide) rfl 35 (by decide) (hts _ lk_X10_isAt_202) (fun _ h9 => h9) rfl dX10_isAt_29 ?_
      refine hp_bald (t := 2033) (n := 400) hx hb hK h hob2 (by decide) (fun _ _ _ => rfl) hp.1 dX10_isAt_32 ?_
      have hp := hp.2
      refine lv_iload_n hx hb dX10_isAt_33 rfl (lv_at hl 2 rfl) ?_
      refine lv_icmp_gt (tgt := 41) hx hb dX10_isAt_34 (by decide) (fun hc4 => ?_) (fun hc4 => ?_)
      · have hp := hp.1 hc4
        refine lv_iconst (v := 0) hx hb dX10_isAt_41 (by decide) ?_
        exact hp_iret hx hb hr rfl hlocks hK h hp dX10_isAt_42
      · have hp := hp.2 hc4
        refine lv_iconst (v := 1) hx hb dX10_isAt_37 (by decide) ?_
        refine lv_goto (tgt := 42) hx hb dX10_isAt_38 (by decide) ?_
        exact hp_iret hx hb hr rfl hlocks hK h hp dX10_isAt_42
abbrev rmX10_blanks : Room := { frames := 1, cells := 0, slots := 0, locals := 22 }
theorem ix_X10_blanks_10 : ∀ w ∈ wsX100, w ∈ wsX10_blanks := by decide +kernel
theorem lk_X10_blanks_202 : Cond.fieldLink RX10 202 "KelpShoresModel" "point" "I" ∈ wsX10_blanks := by decide +kernel
theorem lk_X10_blanks_211 : Cond.fieldLink RX10 211 "KelpShoresModel" "begin" "I" ∈ wsX10_blanks := by decide +kernel
def wL_X10_blanks_0 (z : Zt) (o : Nat) (K : Vt → Prop) (Kx : Vt → Prop) : Nat → Vt → Prop
  | 0, _ => False
  | n + 1, w => wp_X10_isAt z o 32 32 w (fun r2 w1 => (r2 = 0 → Kx w1) ∧ (¬ r2 = 0 → ∀ w4 : Vt, w4 = uI w1 1035 o ((vI w1 1035 o) + 1) → wL_X10_blanks_0 z o K Kx n w4))
set_option maxHeartbeats 4000000 in
set_option maxRecDepth 100000 in
theorem kL_X10_blanks_0 {p : Program} {l : Launch} {e : Env} {s : State} {m : MethodId} {args : Array Value} {below : List Frame} {meth : Method} {c : Code} {G : Gt} {A : Nat → Prop} {z : Zt} (C : gC p s m args meth c cX10_blanks 1 RX10 wsX10_blanks none G A) (o : Nat) (ho : isO z 10 o) (K : Vt → Prop) (Kx : Vt → Prop) (kKx : ∀ (w : Vt) (H : Heap) (locs : List Loc) (ls : Array Slot), Kx  w → hpH G.1 G.2.1 A s.heap z w H locs → lv_has ls 1 [(0, .ref o)] → W p l e (headSpec wsX10_blanks rmX10_blanks).room s m args below meth c H locs 0 0 (MQ below (va_Qv K (gB G A z) A) args s 0 0 A) (F0 m 24 ls [])) : ∀ (n : Nat) (w : Vt) (H : Heap) (locs : List Loc) (ls : Array Slot), wL_X10_blanks_0 z o K Kx n w → hpH G.1 G.2.1 A s.heap z w H locs → lv_has ls 1 [(0, .ref o)] → W p l e (headSpec wsX10_blanks rmX10_blanks).room s m args below meth c H locs 0 0 (MQ below (va_Qv K (gB G A z) A) args s 0 0 A) (F0 m 0 ls []) := by
  obtain ⟨hx, hb, hr, hlocks, hml, hown, hts, hK, hA, hE⟩ := id C
  intro n
  induction n with
  | zero =>
    intro w H locs ls hp
    exact hp.elim
  | succ n ih =>
    intro w H locs ls hp h hl
    refine lv_aload_n hx hb dX10_blanks_0 rfl (lv_at hl 0 rfl) ?_
    refine lv_bipush (v := 32) hx hb dX10_blanks_1 (by decide) ?_
    refine lv_bipush (v := 32) hx hb dX10_blanks_3 (by decide) ?_
    refine hp_cVi ⟨hx, hb, hml, hown, hts⟩ (k_X10_isAt l G z w _ o 32 32 _ hp) (cwV 2 hts gX10_blanks_X10_isAt rfl rfl rfl (by decide +kernel) ⟨Nat.le_of_ble_eq_true rfl, Nat.le_of_ble_eq_true rfl⟩) ho (by decide) rfl hK h hA hE rfl hl.1 rfl (Nat.le_of_ble_eq_true rfl) dX10_blanks_5 ⟨Nat.le_of_ble_eq_true rfl, Nat.le_of_ble_eq_true rfl⟩ (fun r2 w1 H locs hp h => ?_)
    refine lv_if_eq (tgt := 24) hx hb dX10_blanks_8 (by decide) (fun hc3 => ?_) (fun hc3 => ?_)
    · have hp := hp.1 hc3
      exact kKx w1 _ _ _ hp h (lv_sub hl [0] rfl)
    · have hp := hp.2 hc3
      refine lv_aload_n hx hb dX10_blanks_11 rfl (lv_at hl 0 rfl) ?_
      refine lv_dup hx hb dX10_blanks_12 rfl ?_
      refine hp_get (ci := 10) (v := .int (vI w1 1035 o)) hx hb hts ix_X10_blanks_10 hown hK h ho (by decide) rfl 35 (by decide) (hts _ lk_X10_blanks_202) (fun _ h9 => h9) rfl dX10_blanks_13 ?_
      refine lv_iconst (v := 1) hx hb dX10_blanks_16 (by decide) ?_
      refine lv_iadd hx hb dX10_blanks_17 ?_
      refine hp_puti (ci := 10) (ty := .int) (x := (vI w1 1035 o) + 1) hx hb hts ix_X10_blanks_10 tyX10 tyX10_ok nmX10 hown hK h ho (by decide) rfl 35 1035 (by decide) (hts _ lk_X10_blanks_202) (fun _ h9 => h9) rfl (by decide +kernel) rfl rfl (fun _ _ => rfl) (fun _ _ => Nat.le_of_ble_eq_true rfl) dX10_blanks_18 (fun H locs w4 ew4 h => ?_)
      have hp := hp w4 ew4
      refine lv_goto (tgt := 0) hx hb dX10_blanks_21 (by decide) ?_
      exact ih w4 _ _ _ hp h (lv_sub hl [0] rfl)
def wp_X10_blanks (z : Zt) (o : Nat) (w : Vt) (K : Vt → Prop) : Prop := isO z 10 o ∧ ∃ n5 : Nat, wL_X10_blanks_0 z o K (fun  w6 => ∀ w7 : Vt, w7 = uI w6 1037 o (vI w6 1035 o) → K w7) n5 w
set_option maxHeartbeats 4000000 in
set_option maxRecDepth 100000 in
theorem k_X10_blanks (l : Launch) (G : Gt) (z : Zt) (w : Vt) (sz : Nat) (o : Nat) (K : Vt → Prop) (hp : wp_X10_blanks z o w K) : MV l yX10_blanks wsX10_blanks rmX10_blanks G z w sz [.ref o] K := by
  refine Met.ofW (cc := cX10_blanks) (maxL := 1) (ret := none) (by decide +kernel) rfl ?_
  intro p e s m args below meth c s₁ B hml hv
  obtain ⟨rfl, rfl, C, h⟩ := hp_start B hml hv
  generalize gA G z w s.heap.size = A at C h ⊢
  obtain ⟨hx, hb, hr, hlocks, hml, hown, hts, hK, hA, hE⟩ := id C
  obtain ⟨ho, hp⟩ := hp
  have hl := lv_entry ([.ref o]) (n := 1) (Nat.le_of_ble_eq_true rfl)
  rw [lg_entry_eq]
  generalize (lg_sl ([.ref o]) ++ List.replicate (1 - (lg_sl ([.ref o])).length) Slot.unset).toArray = ls at hl ⊢
  have hl : lv_has ls 1 [(0, .ref o)] := hl
  obtain ⟨n5, hp⟩ := hp
  refine kL_X10_blanks_0 C o ho _ _ (fun  w6 H locs ls hp h hl => ?_) n5  w _ _ _ hp h (lv_sub hl [0] rfl)
  refine lv_aload_n hx hb dX10_blanks_24 rfl (lv_at hl 0 rfl) ?_
  refine lv_aload_n hx hb dX10_blanks_25 rfl (lv_at hl 0 rfl) ?_
  refine hp_get (ci := 10) (v := .int (vI w6 1035 o)) hx hb hts ix_X10_blanks_10 hown hK h ho (by decide) rfl 35 (by decide) (hts _ lk_X10_blanks_202) (fun _ h9 => h9) rfl dX10_blanks_26 ?_
  refine hp_puti (ci := 10) (ty := .int) (x := vI w6 1035 o) hx hb hts ix_X10_blanks_10 tyX10 tyX10_ok nmX10 hown hK h ho (by decide) rfl 37 1037 (by decide) (hts _ lk_X10_blanks_211) (fun _ h9 => h9) rfl (by decide +kernel) rfl rfl (fun _ _ => rfl) (fun _ _ => Nat.le_of_ble_eq_true rfl) dX10_blanks_29 (fun H locs w7 ew7 h => ?_)
  have hp := hp w7 ew7
  exact hp_vret hx hb hr hlocks hK h hp dX10_blanks_32
abbrev rmX10_word : Room := { frames := 2, cells := 0, slots := 0, locals := 42 }
theorem ix_X10_word_10 : ∀ w ∈ wsX100, w ∈ wsX10_word := by decide +kernel
theorem lk_X10_word_202 : Cond.fieldLink RX10 202 "KelpShoresModel" "point" "I" ∈ wsX10_word := by decide +kernel
def wL_X10_word_4 (z : Zt) (o : Nat) (K : Vt → Prop) (Kx : Vt → Prop) : Nat → Vt → Prop
  | 0, _ => False
  | n + 1, w => wp_X10_isAt z o 97 122 w (fun r4 w3 => (r4 = 0 → Kx w3) ∧ (¬ r4 = 0 → ∀ w6 : Vt, w6 = uI w3 1035 o ((vI w3 1035 o) + 1) → wL_X10_word_4 z o K Kx n w6))
set_option maxHeartbeats 4000000 in
set_option maxRecDepth 100000 in
theorem kL_X10_word_4 {p : Program} {l : Launch} {e : Env} {s : State} {m : MethodId} {args : Array Value} {below : List Frame} {meth : Method} {c : Code} {G : Gt} {A : Nat → Prop} {z : Zt} (C : gC p s m args meth c cX10_word 1 RX10 wsX10_word none G A) (o : Nat) (ho : isO z 10 o) (K : Vt → Prop) (Kx : Vt → Prop) (kKx : ∀ (w : Vt) (H : Heap) (locs : List Loc) (ls : Array Slot), Kx  w → hpH G.1 G.2.1 A s.heap z w H locs → lv_has ls 1 [(0, .ref o)] → W p l e (headSpec wsX10_word rmX10_word).room s m args below meth c H locs 0 0 (MQ below (va_Qv K (gB G A z) A) args s 0 0 A) (F0 m 28 ls [])) : ∀ (n : Nat) (w : Vt) (H : Heap) (locs : List Loc) (ls : Array Slot), wL_X10_word_4 z o K Kx n w → hpH G.1 G.2.1 A s.heap z w H locs → lv_has ls 1 [(0, .ref o)] → W p l e (headSpec wsX10_word rmX10_word).room s m args below meth c H locs 0 0 (MQ below (va_Qv K (gB G A z) A) args s 0 0 A) (F0 m 4 ls []) := by
  obtain ⟨hx, hb, hr, hlocks, hml, hown, hts, hK, hA, hE⟩ := id C
  intro n
  induction n with
  | zero =>
    intro w H locs ls hp
    exact hp.elim
  | succ n ih =>
    intro w H locs ls hp h hl
    refine lv_aload_n hx hb dX10_word_4 rfl (lv_at hl 0 rfl) ?_
    refine lv_bipush (v := 97) hx hb dX10_word_5 (by decide) ?_
    refine lv_bipush (v := 122) hx hb dX10_word_7 (by decide) ?_
    refine hp_cVi ⟨hx, hb, hml, hown, hts⟩ (k_X10_isAt l G z w _ o 97 122 _ hp) (cwV 2 hts gX10_word_X10_isAt rfl rfl rfl (by decide +kernel) ⟨Nat.le_of_ble_eq_true rfl, Nat.le_of_ble_eq_true rfl⟩) ho (by decide) rfl hK h hA hE rfl hl.1 rfl (Nat.le_of_ble_eq_true rfl) dX10_word_9 ⟨Nat.le_of_ble_eq_true rfl, Nat.le_of_ble_eq_true rfl⟩ (fun r4 w3 H locs hp h => ?_)
    refine lv_if_eq (tgt := 28) hx hb dX10_word_12 (by decide) (fun hc5 => ?_) (fun hc5 => ?_)
    · have hp := hp.1 hc5
      exact kKx w3 _ _ _ hp h (lv_sub hl [0] rfl)
    · have hp := hp.2 hc5
      refine lv_aload_n hx hb dX10_word_15 rfl (lv_at hl 0 rfl) ?_
      refine lv_dup hx hb dX10_word_16 rfl ?_
      refine hp_get (ci := 10) (v := .int (vI w3 1035 o)) hx hb hts ix_X10_word_10 hown hK h ho (by decide) rfl 35 (by decide) (hts _ lk_X10_word_202) (fun _ h9 => h9) rfl dX10_word_17 ?_
      refine lv_iconst (v := 1) hx hb dX10_word_20 (by decide) ?_
      refine lv_iadd hx hb dX10_word_21 ?_
      refine hp_puti (ci := 10) (ty := .int) (x := (vI w3 1035 o) + 1) hx hb hts ix_X10_word_10 tyX10 tyX10_ok nmX10 hown hK h ho (by decide) rfl 35 1035 (by decide) (hts _ lk_X10_word_202) (fun _ h9 => h9) rfl (by decide +kernel) rfl rfl (fun _ _ => rfl) (fun _ _ => Nat.le_of_ble_eq_true rfl) dX10_word_22 (fun H locs w6 ew6 h => ?_)
      have hp := hp w6 ew6
      refine lv_goto (tgt := 4) hx hb dX10_word_25 (by decide) ?_
      exact ih w6 _ _ _ hp h (lv_sub hl [0] rfl)
def wp_X10_word (z : Zt) (o : Nat) (w : Vt) (K : Vt → Prop) : Prop := isO z 10 o ∧ wp_X10_blanks z o w (fun w1 => ∃ n7 : Nat, wL_X10_word_4 z o K (fun  w8 => K w8) n7 w1)
set_option maxHeartbeats 4000000 in
set_option maxRecDepth 100000 in
theorem k_X10_word (l : Launch) (G : Gt) (z : Zt) (w : Vt) (sz : Nat) (o : Nat) (K : Vt → Prop) (hp : wp_X10_word z o w K) : MV l yX10_word wsX10_word rmX10_word G z w sz [.ref o] K := by
  refine Met.ofW (cc := cX10_word) (maxL := 1) (ret := none) (by decide +kernel) rfl ?_
  intro p e s m args below meth c s₁ B hml hv
  obtain ⟨rfl, rfl, C, h⟩ := hp_start B hml hv
  generalize gA G z w s.heap.size = A at C h ⊢
  obtain ⟨hx, hb, hr, hlocks, hml, hown, hts, hK, hA, hE⟩ := id C
  obtain ⟨ho, hp⟩ := hp
  have hl := lv_entry ([.ref o]) (n := 1) (Nat.le_of_ble_eq_true rfl)
  rw [lg_entry_eq]
  generalize (lg_sl ([.ref o]) ++ List.replicate (1 - (lg_sl ([.ref o])).length) Slot.unset).toArray = ls at hl ⊢
  have hl : lv_has ls 1 [(0, .ref o)] := hl
  refine lv_aload_n hx hb dX10_word_0 rfl (lv_at hl 0 rfl) ?_
  refine hp_cVv ⟨hx, hb, hml, hown, hts⟩ (k_X10_blanks l G z w _ o _ hp) (cwV 0 hts gX10_word_X10_blanks rfl rfl rfl (by decide +kernel) ⟨Nat.le_of_ble_eq_true rfl, Nat.le_of_ble_eq_true rfl⟩) ho (by decide) rfl hK h hA hE rfl hl.1 rfl (Nat.le_of_ble_eq_true rfl) dX10_word_1 ⟨Nat.le_of_ble_eq_true rfl, Nat.le_of_ble_eq_true rfl⟩ (fun w1 H locs hp h => ?_)
  obtain ⟨n7, hp⟩ := hp
  refine kL_X10_word_4 C o ho _ _ (fun  w8 H locs ls hp h hl => ?_) n7  w1 _ _ _ hp h (lv_sub hl [0] rfl)
  exact hp_vret hx hb hr hlocks hK h hp dX10_word_28
abbrev rmX10_number : Room := { frames := 2, cells := 0, slots := 0, locals := 42 }
theorem ix_X10_number_10 : ∀ w ∈ wsX100, w ∈ wsX10_number := by decide +kernel
theorem lk_X10_number_202 : Cond.fieldLink RX10 202 "KelpShoresModel" "point" "I" ∈ wsX10_number := by decide +kernel
theorem lk_X10_number_211 : Cond.fieldLink RX10 211 "KelpShoresModel" "begin" "I" ∈ wsX10_number := by decide +kernel
theorem lk_X10_number_86 : Cond.fieldLink RX10 86 "KelpShoresModel" "tape" "[B" ∈ wsX10_number := by decide +kernel
def wL_X10_number_6 (z : Zt) (o : Nat) (K : Int32 → Vt → Prop) (Kx : Int32 → Int32 → Int32 → Vt → Prop) : Nat → Int32 → Int32 → Int32 → Vt → Prop
  | 0, _, _, _, _ => False
  | n + 1, x3_, x1_, x2_, w => wp_X10_isAt z o 48 57 w (fun r4 w3 => (r4 = 0 → Kx x3_ x1_ x2_ w3) ∧ (¬ r4 = 0 → ∃ J6 : Int32 → Vt → Prop, (∀ (x7 : Int32) (w8 : Vt), J6 x7 w8 → ∀ w11 : Vt, w11 = uI w8 1035 o ((vI w8 1035 o) + 1) → wL_X10_number_6 z o K Kx n x7 x1_ x2_ w11) ∧ (3 ≤ ((vI w3 1035 o) - (vI w3 1037 o)) → J6 x3_ w3) ∧ (¬ 3 ≤ ((vI w3 1035 o) - (vI w3 1037 o)) → ∃ b10 : Nat, zR z 1033 o = some b10 ∧ isO z 2033 b10 ∧ vp_in (vI w3 1035 o) 400 ∧ J6 (((10 * x3_) + (vA w3 2033 b10 (vI w3 1035 o : Int32).toNatClampNeg)) - 48) w3)))
set_option maxHeartbeats 4000000 in
set_option maxRecDepth 100000 in
theorem kL_X10_number_6 {p : Program} {l : Launch} {e : Env} {s : State} {m : MethodId} {args : Array Value} {below : List Frame} {meth : Method} {c : Code} {G : Gt} {A : Nat → Prop} {z : Zt} (C : gC p s m args meth c cX10_number 4 RX10 wsX10_number (some .int) G A) (o : Nat) (ho : isO z 10 o) (K : Int32 → Vt → Prop) (Kx : Int32 → Int32 → Int32 → Vt → Prop) (kKx : ∀ (x3_ x1_ x2_ : Int32) (w : Vt) (H : Heap) (locs : List Loc) (ls : Array Slot), Kx x3_ x1_ x2_ w → hpH G.1 G.2.1 A s.heap z w H locs → lv_has ls 4 [(3, .int x3_), (0, .ref o), (1, .int x1_), (2, .int x2_)] → W p l e (headSpec wsX10_number rmX10_number).room s m args below meth c H locs 0 0 (MQ below (va_Qi K (gB G A z) A) args s 0 0 A) (F0 m 65 ls [])) : ∀ (n : Nat) (x3_ x1_ x2_ : Int32) (w : Vt) (H : Heap) (locs : List Loc) (ls : Array Slot), wL_X10_number_6 z o K Kx n x3_ x1_ x2_ w → hpH G.1 G.2.1 A s.heap z w H locs → lv_has ls 4 [(3, .int x3_), (0, .ref o), (1, .int x1_), (2, .int x2_)] → W p l e (headSpec wsX10_number rmX10_number).room s m args below meth c H locs 0 0 (MQ below (va_Qi K (gB G A z) A) args s 0 0 A) (F0 m 6 ls []) := by
  obtain ⟨hx, hb, hr, hlocks, hml, hown, hts, hK, hA, hE⟩ := id C
  intro n
  induction n with
  | zero =>
    intro x3_ x1_ x2_ w H locs ls hp
    exact hp.elim
  | succ n ih =>
    intro x3_ x1_ x2_ w H locs ls hp h hl
    refine lv_aload_n hx hb dX10_number_6 rfl (lv_at hl 1 rfl) ?_
    refine lv_bipush (v := 48) hx hb dX10_number_7 (by decide) ?_
    refine lv_bipush (v := 57) hx hb dX10_number_9 (by decide) ?_
    refine hp_cVi ⟨hx, hb, hml, hown, hts⟩ (k_X10_isAt l G z w _ o 48 57 _ hp) (cwV 2 hts gX10_number_X10_isAt rfl rfl rfl (by decide +kernel) ⟨Nat.le_of_ble_eq_true rfl, Nat.le_of_ble_eq_true rfl⟩) ho (by decide) rfl hK h hA hE rfl hl.1 rfl (Nat.le_of_ble_eq_true rfl) dX10_number_11 ⟨Nat.le_of_ble_eq_true rfl, Nat.le_of_ble_eq_true rfl⟩ (fun r4 w3 H locs hp h => ?_)
    refine lv_if_eq (tgt := 65) hx hb dX10_number_14 (by decide) (fun hc5 => ?_) (fun hc5 => ?_)
    · have hp := hp.1 hc5
      exact kKx x3_ x1_ x2_ w3 _ _ _ hp h (lv_sub hl [0, 1, 2, 3] rfl)
    · have hp := hp.2 hc5
      refine lv_aload_n hx hb dX10_number_17 rfl (lv_at hl 1 rfl) ?_
      refine hp_get (ci := 10) (v := .int (vI w3 1035 o)) hx hb hts ix_X10_number_10 hown hK h ho (by decide) rfl 35 (by decide) (hts _ lk_X10_number_202) (fun _ h9 => h9) rfl dX10_number_18 ?_
      refine lv_aload_n hx hb dX10_number_21 rfl (lv_at hl 1 rfl) ?_
      refine hp_get (ci := 10) (v := .int (vI w3 1037 o)) hx hb hts ix_X10_number_10 hown hK h ho (by decide) rfl 37 (by decide) (hts _ lk_X10_number_211) (fun _ h9 => h9) rfl dX10_number_22 ?_
      refine lv_isub hx hb dX10_number_25 ?_
      refine lv_iconst (v := 3) hx hb dX10_number_26 (by decide) ?_
      obtain ⟨J6, jJ6, hp⟩ := hp
      refine hp_jn1 (G := G) (A := A) (z := z) (J := J6) (nL := 4) (j := 51) (lvf := fun x7 => [(3, .int x3_), (0, .ref o), (1, .int x1_), (2, .int x2_)]) (stf := fun x7 => [.int x7]) (fun kJ6 => ?_) (fun x7 w8 H locs ls hp h hl => ?_)
      · refine lv_icmp_ge (tgt := 50) hx hb dX10_number_27 (by decide) (fun hc9 => ?_) (fun hc9 => ?_)
        · have hp := hp.1 hc9
          refine lv_iload_n hx hb dX10_number_50 rfl (lv_at hl 0 rfl) ?_
          exact kJ6 x3_ w3 _ _ _ hp h (lv_sub hl [0, 1, 2, 3] rfl)
        · have hp := hp.2 hc9
          refine lv_bipush (v := 10) hx hb dX10_number_30 (by decide) ?_
          refine lv_iload_n hx hb dX10_number_32 rfl (lv_at hl 0 rfl) ?_
          refine lv_imul hx hb dX10_number_33 ?_
          refine lv_aload_n hx hb dX10_number_34 rfl (lv_at hl 1 rfl) ?_
          obtain ⟨b10, eb10, hob10, hp⟩ := hp
          refine hp_get (ci := 10) (v := .ref b10) hx hb hts ix_X10_number_10 hown hK h ho (by decide) rfl 33 (by decide) (hts _ lk_X10_number_86) (fun _ h9 => h9) (by show some (va_rf (zR z 1033 o)) = some (Value.ref b10); rw [eb10]; rfl) dX10_number_35 ?_
          refine lv_aload_n hx hb dX10_number_38 rfl (lv_at hl 1 rfl) ?_
          refine hp_get (ci := 10) (v := .int (vI w3 1035 o)) hx hb hts ix_X10_number_10 hown hK h ho (by decide) rfl 35 (by decide) (hts _ lk_X10_number_202) (fun _ h9 => h9) rfl dX10_number_39 ?_
          refine hp_bald (t := 2033) (n := 400) hx hb hK h hob10 (by decide) (fun _ _ _ => rfl) hp.1 dX10_number_42 ?_
          have hp := hp.2
          refine lv_iadd hx hb dX10_number_43 ?_
          refine lv_bipush (v := 48) hx hb dX10_number_44 (by decide) ?_
          refine lv_isub hx hb dX10_number_46 ?_
          refine lv_goto (tgt := 51) hx hb dX10_number_47 (by decide) ?_
          exact kJ6 (((10 * x3_) + (vA w3 2033 b10 (vI w3 1035 o : Int32).toNatClampNeg)) - 48) w3 _ _ _ hp h (lv_sub hl [0, 1, 2, 3] rfl)
      have hp := jJ6 x7 w8 hp
      refine lv_istore_n (lv' := [(3, .int x7), (0, .ref o), (1, .int x1_), (2, .int x2_)]) hx hb dX10_number_51 rfl hl (by decide) rfl (fun ls hl => ?_)
      refine lv_aload_n hx hb dX10_number_52 rfl (lv_at hl 1 rfl) ?_
      refine lv_dup hx hb dX10_number_53 rfl ?_
      refine hp_get (ci := 10) (v := .int (vI w8 1035 o)) hx hb hts ix_X10_number_10 hown hK h ho (by decide) rfl 35 (by decide) (hts _ lk_X10_number_202) (fun _ h9 => h9) rfl dX10_number_54 ?_
      refine lv_iconst (v := 1) hx hb dX10_number_57 (by decide) ?_
      refine lv_iadd hx hb dX10_number_58 ?_
      refine hp_puti (ci := 10) (ty := .int) (x := (vI w8 1035 o) + 1) hx hb hts ix_X10_number_10 tyX10 tyX10_ok nmX10 hown hK h ho (by decide) rfl 35 1035 (by decide) (hts _ lk_X10_number_202) (fun _ h9 => h9) rfl (by decide +kernel) rfl rfl (fun _ _ => rfl) (fun _ _ => Nat.le_of_ble_eq_true rfl) dX10_number_59 (fun H locs w11 ew11 h => ?_)
      have hp := hp w11 ew11
      refine lv_goto (tgt := 6) hx hb dX10_number_62 (by decide) ?_
      exact ih x7 x1_ x2_ w11 _ _ _ hp h (lv_sub hl [0, 1, 2, 3] rfl)
def wp_X10_number (z : Zt) (o : Nat) (p0 : Int32) (p1 : Int32) (w : Vt) (K : Int32 → Vt → Prop) : Prop := isO z 10 o ∧ wp_X10_blanks z o w (fun w1 => ∃ n12 : Nat, wL_X10_number_6 z o K (fun x13 x14 x15 w16 => ((vI w16 1035 o) = (vI w16 1037 o) → K (-1) w16) ∧ (¬ (vI w16 1035 o) = (vI w16 1037 o) → (3 < ((vI w16 1035 o) - (vI w16 1037 o)) → K (-1) w16) ∧ (¬ 3 < ((vI w16 1035 o) - (vI w16 1037 o)) → (x13 < x14 → K (-1) w16) ∧ (¬ x13 < x14 → (x13 ≤ x15 → K x13 w16) ∧ (¬ x13 ≤ x15 → K (-1) w16))))) n12 0 p0 p1 w1)
set_option maxHeartbeats 4000000 in
set_option maxRecDepth 100000 in
theorem k_X10_number (l : Launch) (G : Gt) (z : Zt) (w : Vt) (sz : Nat) (o : Nat) (p0 : Int32) (p1 : Int32) (K : Int32 → Vt → Prop) (hp : wp_X10_number z o p0 p1 w K) : MI l yX10_number wsX10_number rmX10_number G z w sz [.ref o, .int p0, .int p1] K := by
  refine Met.ofW (cc := cX10_number) (maxL := 4) (ret := (some .int)) (by decide +kernel) rfl ?_
  intro p e s m args below meth c s₁ B hml hv
  obtain ⟨rfl, rfl, C, h⟩ := hp_start B hml hv
  generalize gA G z w s.heap.size = A at C h ⊢
  obtain ⟨hx, hb, hr, hlocks, hml, hown, hts, hK, hA, hE⟩ := id C
  obtain ⟨ho, hp⟩ := hp
  have hl := lv_entry ([.ref o, .int p0, .int p1]) (n := 4) (Nat.le_of_ble_eq_true rfl)
  rw [lg_entry_eq]
  generalize (lg_sl ([.ref o, .int p0, .int p1]) ++ List.replicate (4 - (lg_sl ([.ref o, .int p0, .int p1])).length) Slot.unset).toArray = ls at hl ⊢
  have hl : lv_has ls 4 [(0, .ref o), (1, .int p0), (2, .int p1)] := hl
  refine lv_aload_n hx hb dX10_number_0 rfl (lv_at hl 0 rfl) ?_
  refine hp_cVv ⟨hx, hb, hml, hown, hts⟩ (k_X10_blanks l G z w _ o _ hp) (cwV 0 hts gX10_number_X10_blanks rfl rfl rfl (by decide +kernel) ⟨Nat.le_of_ble_eq_true rfl, Nat.le_of_ble_eq_true rfl⟩) ho (by decide) rfl hK h hA hE rfl hl.1 rfl (Nat.le_of_ble_eq_true rfl) dX10_number_1 ⟨Nat.le_of_ble_eq_true rfl, Nat.le_of_ble_eq_true rfl⟩ (fun w1 H locs hp h => ?_)
  refine lv_iconst (v := 0) hx hb dX10_number_4 (by decide) ?_
  refine lv_istore_n (lv' := [(3, .int 0), (0, .ref o), (1, .int p0), (2, .int p1)]) hx hb dX10_number_5 rfl hl (by decide) rfl (fun ls hl => ?_)
  obtain ⟨n12, hp⟩ := hp
  refine kL_X10_number_6 C o ho _ _ (fun x13 x14 x15 w16 H locs ls hp h hl => ?_) n12 0 p0 p1 w1 _ _ _ hp h (lv_sub hl [0, 1, 2, 3] rfl)
  refine lv_aload_n hx hb dX10_number_65 rfl (lv_at hl 1 rfl) ?_
  refine hp_get (ci := 10) (v := .int (vI w16 1035 o)) hx hb hts ix_X10_number_10 hown hK h ho (by decide) rfl 35 (by decide) (hts _ lk_X10_number_202) (fun _ h9 => h9) rfl dX10_number_66 ?_
  refine lv_aload_n hx hb dX10_number_69 rfl (lv_at hl 1 rfl) ?_
  refine hp_get (ci := 10) (v := .int (vI w16 1037 o)) hx hb hts ix_X10_number_10 hown hK h ho (by decide) rfl 37 (by decide) (hts _ lk_X10_number_211) (fun _ h9 => h9) rfl dX10_number_70 ?_
  refine lv_icmp_eq (tgt := 99) hx hb dX10_number_73 (by decide) (fun hc17 => ?_) (fun hc17 => ?_)
  · have hp := hp.1 hc17
    refine lv_iconst (v := (-1)) hx hb dX10_number_99 (by decide) ?_
    refine lv_goto (tgt := 104) hx hb dX10_number_100 (by decide) ?_
    exact hp_iret hx hb hr rfl hlocks hK h hp dX10_number_104
  · have hp := hp.2 hc17
    refine lv_aload_n hx hb dX10_number_76 rfl (lv_at hl 1 rfl) ?_
    refine hp_get (ci := 10) (v := .int (vI w16 1035 o)) hx hb hts ix_X10_number_10 hown hK h ho (by decide) rfl 35 (by decide) (hts _ lk_X10_number_202) (fun _ h9 => h9) rfl dX10_number_77 ?_
    refine lv_aload_n hx hb dX10_number_80 rfl (lv_at hl 1 rfl) ?_
    refine hp_get (ci := 10) (v := .int (vI w16 1037 o)) hx hb hts ix_X10_number_10 hown hK h ho (by decide) rfl 37 (by decide) (hts _ lk_X10_number_211) (fun _ h9 => h9) rfl dX10_number_81 ?_
    refine lv_isub hx hb dX10_number_84 ?_
    refine lv_iconst (v := 3) hx hb dX10_number_85 (by decide) ?_
    refine lv_icmp_gt (tgt := 99) hx hb dX10_number_86 (by decide) (fun hc18 => ?_) (fun hc18 => ?_)
    · have hp := hp.1 hc18
      refine lv_iconst (v := (-1)) hx hb dX10_number_99 (by decide) ?_
      refine lv_goto (tgt := 104) hx hb dX10_number_100 (by decide) ?_
      exact hp_iret hx hb hr rfl hlocks hK h hp dX10_number_104
    · have hp := hp.2 hc18
      refine lv_iload_n hx hb dX10_number_89 rfl (lv_at hl 0 rfl) ?_
      refine lv_iload_n hx hb dX10_number_90 rfl (lv_at hl 2 rfl) ?_
      refine lv_icmp_lt (tgt := 99) hx hb dX10_number_91 (by decide) (fun hc19 => ?_) (fun hc19 => ?_)
      · have hp := hp.1 hc19
        refine lv_iconst (v := (-1)) hx hb dX10_number_99 (by decide) ?_
        refine lv_goto (tgt := 104) hx hb dX10_number_100 (by decide) ?_
        exact hp_iret hx hb hr rfl hlocks hK h hp dX10_number_104
      · have hp := hp.2 hc19
        refine lv_iload_n hx hb dX10_number_94 rfl (lv_at hl 0 rfl) ?_
        refine lv_iload_n hx hb dX10_number_95 rfl (lv_at hl 3 rfl) ?_
        refine lv_icmp_le (tgt := 103) hx hb dX10_number_96 (by decide) (fun hc20 => ?_) (fun hc20 => ?_)
        · have hp := hp.1 hc20
          refine lv_iload_n hx hb dX10_number_103 rfl (lv_at hl 0 rfl) ?_
          exact hp_iret hx hb hr rfl hlocks hK h hp dX10_number_104
        · have hp := hp.2 hc20
          refine lv_iconst (v := (-1)) hx hb dX10_number_99 (by decide) ?_
          refine lv_goto (tgt := 104) hx hb dX10_number_100 (by decide) ?_
          exact hp_iret hx hb hr rfl hlocks hK h hp dX10_number_104
abbrev rmX10_fault : Room := { frames := 0, cells := 0, slots := 0, locals := 0 }
theorem ix_X10_fault_10 : ∀ w ∈ wsX100, w ∈ wsX10_fault := by decide +kernel
theorem lk_X10_fault_127 : Cond.fieldLink RX10 127 "KelpShoresModel" "thrown" "I" ∈ wsX10_fault := by decide +kernel
theorem lk_X10_fault_90 : Cond.fieldLink RX10 90 "KelpShoresModel" "faultAt" "I" ∈ wsX10_fault := by decide +kernel
def wp_X10_fault (z : Zt) (o : Nat) (w : Vt) (K : Int32 → Vt → Prop) : Prop := isO z 10 o ∧ ∀ w1 : Vt, w1 = uI w 1000 o 0 → K (vI w1 1038 o) w1
set_option maxHeartbeats 4000000 in
set_option maxRecDepth 100000 in
theorem k_X10_fault (l : Launch) (G : Gt) (z : Zt) (w : Vt) (sz : Nat) (o : Nat) (K : Int32 → Vt → Prop) (hp : wp_X10_fault z o w K) : MI l yX10_fault wsX10_fault rmX10_fault G z w sz [.ref o] K := by
  refine Met.ofW (cc := cX10_fault) (maxL := 1) (ret := (some .int)) (by decide +kernel) rfl ?_
  intro p e s m args below meth c s₁ B hml hv
  obtain ⟨rfl, rfl, C, h⟩ := hp_start B hml hv
  generalize gA G z w s.heap.size = A at C h ⊢
  obtain ⟨hx, hb, hr, hlocks, hml, hown, hts, hK, hA, hE⟩ := id C
  obtain ⟨ho, hp⟩ := hp
  have hl := lv_entry ([.ref o]) (n := 1) (Nat.le_of_ble_eq_true rfl)
  rw [lg_entry_eq]
  generalize (lg_sl ([.ref o]) ++ List.replicate (1 - (lg_sl ([.ref o])).length) Slot.unset).toArray = ls at hl ⊢
  have hl : lv_has ls 1 [(0, .ref o)] := hl
  refine lv_aload_n hx hb dX10_fault_0 rfl (lv_at hl 0 rfl) ?_
  refine lv_iconst (v := 0) hx hb dX10_fault_1 (by decide) ?_
  refine hp_puti (ci := 10) (ty := .int) (x := 0) hx hb hts ix_X10_fault_10 tyX10 tyX10_ok nmX10 hown hK h ho (by decide) rfl 0 1000 (by decide) (hts _ lk_X10_fault_127) (fun _ h9 => h9) rfl (by decide +kernel) rfl rfl (fun _ _ => rfl) (fun _ _ => Nat.le_of_ble_eq_true rfl) dX10_fault_2 (fun H locs w1 ew1 h => ?_)
  have hp := hp w1 ew1
  refine lv_aload_n hx hb dX10_fault_5 rfl (lv_at hl 0 rfl) ?_
  refine hp_get (ci := 10) (v := .int (vI w1 1038 o)) hx hb hts ix_X10_fault_10 hown hK h ho (by decide) rfl 38 (by decide) (hts _ lk_X10_fault_90) (fun _ h9 => h9) rfl dX10_fault_6 ?_
  exact hp_iret hx hb hr rfl hlocks hK h hp dX10_fault_9
abbrev rmX10_enters : Room := { frames := 0, cells := 0, slots := 0, locals := 0 }
theorem ix_X10_enters_10 : ∀ w ∈ wsX100, w ∈ wsX10_enters := by decide +kernel
theorem lk_X10_enters_265 : Cond.fieldLink RX10 265 "KelpShoresModel" "entries" "I" ∈ wsX10_enters := by decide +kernel
theorem lk_X10_enters_99 : Cond.fieldLink RX10 99 "KelpShoresModel" "eFamily" "[I" ∈ wsX10_enters := by decide +kernel
theorem lk_X10_enters_102 : Cond.fieldLink RX10 102 "KelpShoresModel" "eMoney" "[I" ∈ wsX10_enters := by decide +kernel
theorem lk_X10_enters_105 : Cond.fieldLink RX10 105 "KelpShoresModel" "eDay" "[I" ∈ wsX10_enters := by decide +kernel
theorem lk_X10_enters_108 : Cond.fieldLink RX10 108 "KelpShoresModel" "eTold" "[I" ∈ wsX10_enters := by decide +kernel
theorem lk_X10_enters_148 : Cond.fieldLink RX10 148 "KelpShoresModel" "today" "I" ∈ wsX10_enters := by decide +kernel
theorem lk_X10_enters_111 : Cond.fieldLink RX10 111 "KelpShoresModel" "eBack" "[I" ∈ wsX10_enters := by decide +kernel
def wp_X10_enters (z : Zt) (o : Nat) (p0 : Int32) (p1 : Int32) (p2 : Int32) (w : Vt) (K : Int32 → Vt → Prop) : Prop := isO z 10 o ∧ (¬ (vI w 1047 o) = 200 → ∃ b2 : Nat, zR z 1042 o = some b2 ∧ isO z 2042 b2 ∧ vp_in (vI w 1047 o) 200 ∧ ∀ w3 : Vt, w3 = uA w 2042 b2 (vI w 1047 o : Int32).toNatClampNeg p0 → ∃ b4 : Nat, zR z 1043 o = some b4 ∧ isO z 2043 b4 ∧ vp_in (vI w3 1047 o) 200 ∧ ∀ w5 : Vt, w5 = uA w3 2043 b4 (vI w3 1047 o : Int32).toNatClampNeg p1 → ∃ b6 : Nat, zR z 1044 o = some b6 ∧ isO z 2044 b6 ∧ vp_in (vI w5 1047 o) 200 ∧ ∀ w7 : Vt, w7 = uA w5 2044 b6 (vI w5 1047 o : Int32).toNatClampNeg p2 → ∃ b8 : Nat, zR z 1045 o = some b8 ∧ isO z 2045 b8 ∧ vp_in (vI w7 1047 o) 200 ∧ ∀ w9 : Vt, w9 = uA w7 2045 b8 (vI w7 1047 o : Int32).toNatClampNeg (vI w7 1001 o) → ∃ b10 : Nat, zR z 1046 o = some b10 ∧ isO z 2046 b10 ∧ vp_in (vI w9 1047 o) 200 ∧ ∀ w11 : Vt, w11 = uA w9 2046 b10 (vI w9 1047 o : Int32).toNatClampNeg (-1) → ∀ w12 : Vt, w12 = uI w11 1047 o ((vI w11 1047 o) + 1) → K ((vI w12 1047 o) - 1) w12) ∧ ((vI w 1047 o) = 200 → K (-1) w)
set_option maxHeartbeats 4000000 in
set_option maxRecDepth 100000 in
theorem k_X10_enters (l : Launch) (G : Gt) (z : Zt) (w : Vt) (sz : Nat) (o : Nat) (p0 : Int32) (p1 : Int32) (p2 : Int32) (K : Int32 → Vt → Prop) (hp : wp_X10_enters z o p0 p1 p2 w K) : MI l yX10_enters wsX10_enters rmX10_enters G z w sz [.ref o, .int p0, .int p1, .int p2] K := by
  refine Met.ofW (cc := cX10_enters) (maxL := 4) (ret := (some .int)) (by decide +kernel) rfl ?_
  intro p e s m args below meth c s₁ B hml hv
  obtain ⟨rfl, rfl, C, h⟩ := hp_start B hml hv
  generalize gA G z w s.heap.size = A at C h ⊢
  obtain ⟨hx, hb, hr, hlocks, hml, hown, hts, hK, hA, hE⟩ := id C
  obtain ⟨ho, hp⟩ := hp
  have hl := lv_entry ([.ref o, .int p0, .int p1, .int p2]) (n := 4) (Nat.le_of_ble_eq_true rfl)
  rw [lg_entry_eq]
  generalize (lg_sl ([.ref o, .int p0, .int p1, .int p2]) ++ List.replicate (4 - (lg_sl ([.ref o, .int p0, .int p1, .int p2])).length) Slot.unset).toArray = ls at hl ⊢
  have hl : lv_has ls 4 [(0, .ref o), (1, .int p0), (2, .int p1), (3, .int p2)] := hl
  refine lv_aload_n hx hb dX10_enters_0 rfl (lv_at hl 0 rfl) ?_
  refine hp_get (ci := 10) (v := .int (vI w 1047 o)) hx hb hts ix_X10_enters_10 hown hK h ho (by decide) rfl 47 (by decide) (hts _ lk_X10_enters_265) (fun _ h9 => h9) rfl dX10_enters_1 ?_
  refine lv_sipush (v := 200) hx hb dX10_enters_4 (by decide) ?_
  refine lv_icmp_ne (tgt := 12) hx hb dX10_enters_7 (by decide) (fun hc1 => ?_) (fun hc1 => ?_)
  · have hp := hp.1 hc1
    refine lv_aload_n hx hb dX10_enters_12 rfl (lv_at hl 0 rfl) ?_
    obtain ⟨b2, eb2, hob2, hp⟩ := hp
    refine hp_get (ci := 10) (v := .ref b2) hx hb hts ix_X10_enters_10 hown hK h ho (by decide) rfl 42 (by decide) (hts _ lk_X10_enters_99) (fun _ h9 => h9) (by show some (va_rf (zR z 1042 o)) = some (Value.ref b2); rw [eb2]; rfl) dX10_enters_13 ?_
    refine lv_aload_n hx hb dX10_enters_16 rfl (lv_at hl 0 rfl) ?_
    refine hp_get (ci := 10) (v := .int (vI w 1047 o)) hx hb hts ix_X10_enters_10 hown hK h ho (by decide) rfl 47 (by decide) (hts _ lk_X10_enters_265) (fun _ h9 => h9) rfl dX10_enters_17 ?_
    refine lv_iload_n hx hb dX10_enters_20 rfl (lv_at hl 1 rfl) ?_
    refine hp_iast (t := 2042) (n := 200) hx hb hK h hob2 (by decide) (fun _ _ _ => rfl) hp.1 dX10_enters_21 (fun H locs w3 ew3 h => ?_)
    have hp := hp.2 w3 ew3
    refine lv_aload_n hx hb dX10_enters_22 rfl (lv_at hl 0 rfl) ?_
    obtain ⟨b4, eb4, hob4, hp⟩ := hp
    refine hp_get (ci := 10) (v := .ref b4) hx hb hts ix_X10_enters_10 hown hK h ho (by decide) rfl 43 (by decide) (hts _ lk_X10_enters_102) (fun _ h9 => h9) (by show some (va_rf (zR z 1043 o)) = some (Value.ref b4); rw [eb4]; rfl) dX10_enters_23 ?_
    refine lv_aload_n hx hb dX10_enters_26 rfl (lv_at hl 0 rfl) ?_
    refine hp_get (ci := 10) (v := .int (vI w3 1047 o)) hx hb hts ix_X10_enters_10 hown hK h ho (by decide) rfl 47 (by decide) (hts _ lk_X10_enters_265) (fun _ h9 => h9) rfl dX10_enters_27 ?_
    refine lv_iload_n hx hb dX10_enters_30 rfl (lv_at hl 2 rfl) ?_
    refine hp_iast (t := 2043) (n := 200) hx hb hK h hob4 (by decide) (fun _ _ _ => rfl) hp.1 dX10_enters_31 (fun H locs w5 ew5 h => ?_)
    have hp := hp.2 w5 ew5
    refine lv_aload_n hx hb dX10_enters_32 rfl (lv_at hl 0 rfl) ?_
    obtain ⟨b6, eb6, hob6, hp⟩ := hp
    refine hp_get (ci := 10) (v := .ref b6) hx hb hts ix_X10_enters_10 hown hK h ho (by decide) rfl 44 (by decide) (hts _ lk_X10_enters_105) (fun _ h9 => h9) (by show some (va_rf (zR z 1044 o)) = some (Value.ref b6); rw [eb6]; rfl) dX10_enters_33 ?_
    refine lv_aload_n hx hb dX10_enters_36 rfl (lv_at hl 0 rfl) ?_
    refine hp_get (ci := 10) (v := .int (vI w5 1047 o)) hx hb hts ix_X10_enters_10 hown hK h ho (by decide) rfl 47 (by decide) (hts _ lk_X10_enters_265) (fun _ h9 => h9) rfl dX10_enters_37 ?_
    refine lv_iload_n hx hb dX10_enters_40 rfl (lv_at hl 3 rfl) ?_
    refine hp_iast (t := 2044) (n := 200) hx hb hK h hob6 (by decide) (fun _ _ _ => rfl) hp.1 dX10_enters_41 (fun H locs w7 ew7 h => ?_)
    have hp := hp.2 w7 ew7
    refine lv_aload_n hx hb dX10_enters_42 rfl (lv_at hl 0 rfl) ?_
    obtain ⟨b8, eb8, hob8, hp⟩ := hp
    refine hp_get (ci := 10) (v := .ref b8) hx hb hts ix_X10_enters_10 hown hK h ho (by decide) rfl 45 (by decide) (hts _ lk_X10_enters_108) (fun _ h9 => h9) (by show some (va_rf (zR z 1045 o)) = some (Value.ref b8); rw [eb8]; rfl) dX10_enters_43 ?_
    refine lv_aload_n hx hb dX10_enters_46 rfl (lv_at hl 0 rfl) ?_
    refine hp_get (ci := 10) (v := .int (vI w7 1047 o)) hx hb hts ix_X10_enters_10 hown hK h ho (by decide) rfl 47 (by decide) (hts _ lk_X10_enters_265) (fun _ h9 => h9) rfl dX10_enters_47 ?_
    refine lv_aload_n hx hb dX10_enters_50 rfl (lv_at hl 0 rfl) ?_
    refine hp_get (ci := 10) (v := .int (vI w7 1001 o)) hx hb hts ix_X10_enters_10 hown hK h ho (by decide) rfl 1 (by decide) (hts _ lk_X10_enters_148) (fun _ h9 => h9) rfl dX10_enters_51 ?_
    refine hp_iast (t := 2045) (n := 200) hx hb hK h hob8 (by decide) (fun _ _ _ => rfl) hp.1 dX10_enters_54 (fun H locs w9 ew9 h => ?_)
    have hp := hp.2 w9 ew9
    refine lv_aload_n hx hb dX10_enters_55 rfl (lv_at hl 0 rfl) ?_
    obtain ⟨b10, eb10, hob10, hp⟩ := hp
    refine hp_get (ci := 10) (v := .ref b10) hx hb hts ix_X10_enters_10 hown hK h ho (by decide) rfl 46 (by decide) (hts _ lk_X10_enters_111) (fun _ h9 => h9) (by show some (va_rf (zR z 1046 o)) = some (Value.ref b10); rw [eb10]; rfl) dX10_enters_56 ?_
    refine lv_aload_n hx hb dX10_enters_59 rfl (lv_at hl 0 rfl) ?_
    refine hp_get (ci := 10) (v := .int (vI w9 1047 o)) hx hb hts ix_X10_enters_10 hown hK h ho (by decide) rfl 47 (by decide) (hts _ lk_X10_enters_265) (fun _ h9 => h9) rfl dX10_enters_60 ?_
    refine lv_iconst (v := (-1)) hx hb dX10_enters_63 (by decide) ?_
    refine hp_iast (t := 2046) (n := 200) hx hb hK h hob10 (by decide) (fun _ _ _ => rfl) hp.1 dX10_enters_64 (fun H locs w11 ew11 h => ?_)
    have hp := hp.2 w11 ew11
    refine lv_aload_n hx hb dX10_enters_65 rfl (lv_at hl 0 rfl) ?_
    refine lv_dup hx hb dX10_enters_66 rfl ?_
    refine hp_get (ci := 10) (v := .int (vI w11 1047 o)) hx hb hts ix_X10_enters_10 hown hK h ho (by decide) rfl 47 (by decide) (hts _ lk_X10_enters_265) (fun _ h9 => h9) rfl dX10_enters_67 ?_
    refine lv_iconst (v := 1) hx hb dX10_enters_70 (by decide) ?_
    refine lv_iadd hx hb dX10_enters_71 ?_
    refine hp_puti (ci := 10) (ty := .int) (x := (vI w11 1047 o) + 1) hx hb hts ix_X10_enters_10 tyX10 tyX10_ok nmX10 hown hK h ho (by decide) rfl 47 1047 (by decide) (hts _ lk_X10_enters_265) (fun _ h9 => h9) rfl (by decide +kernel) rfl rfl (fun _ _ => rfl) (fun _ _ => Nat.le_of_ble_eq_true rfl) dX10_enters_72 (fun H locs w12 ew12 h => ?_)
    have hp := hp w12 ew12
    refine lv_aload_n hx hb dX10_enters_75 rfl (lv_at hl 0 rfl) ?_
    refine hp_get (ci := 10) (v := .int (vI w12 1047 o)) hx hb hts ix_X10_enters_10 hown hK h ho (by decide) rfl 47 (by decide) (hts _ lk_X10_enters_265) (fun _ h9 => h9) rfl dX10_enters_76 ?_
    refine lv_iconst (v := 1) hx hb dX10_enters_79 (by decide) ?_
    refine lv_isub hx hb dX10_enters_80 ?_
    exact hp_iret hx hb hr rfl hlocks hK h hp dX10_enters_81
  · have hp := hp.2 hc1
    refine lv_iconst (v := (-1)) hx hb dX10_enters_10 (by decide) ?_
    exact hp_iret hx hb hr rfl hlocks hK h hp dX10_enters_11
