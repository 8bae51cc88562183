abbrev rmX9_init : Room := { frames := 2, cells := 47, slots := 6616, locals := 32 }
theorem wd_X9_init_oi1 : Cond.methodLink RX9 1 objectInit ∈ wsX9_init := by decide +kernel
theorem wd_X9_init_oii : Cond.instanceMethod objectInit ∈ wsX9_init := by decide +kernel
theorem wd_X9_init_oic : Cond.code objectInit ⟨#[0xb1]⟩ 1 none ∈ wsX9_init := by decide +kernel
theorem ix_X9_init_8 : ∀ w ∈ wsX80, w ∈ wsX9_init := by decide +kernel
theorem wd_X9_init_cl7 : Cond.classLink RX9 7 RX8 ∈ wsX9_init := by decide +kernel
theorem wd_X9_init_is8 : Cond.instantiable RX8 3 ∈ wsX9_init := by decide +kernel
theorem wd_X9_init_ii8 : Cond.initialized RX8 ∈ wsX9_init := by decide +kernel
theorem wd_X9_init_iiX8 : Cond.initialized RX8 ∈ wsX9_init := by decide +kernel
theorem wd_X9_init_imX8_init : Cond.instanceMethod yX8_init ∈ wsX9_init := by decide +kernel
theorem ln_X9_init_9 {G : Gt} {A : Nat → Prop} {s : State} (hE : gE G A s s.heap) : va_Nw (Cond.methodLinkNest RX9 9 yX8_init "KelpShores") s := hE.2.1 (RX9, 9, yX8_init) (List.mem_of_getElem? (i := 0) rfl)
theorem ix_X9_init_9 : ∀ w ∈ wsX90, w ∈ wsX9_init := by decide +kernel
theorem lk_X9_init_10 : Cond.fieldLink RX9 10 "KelpShores" "tape" "LKelpShores$Tape;" ∈ wsX9_init := by decide +kernel
theorem ix_X9_init_4 : ∀ w ∈ wsX40, w ∈ wsX9_init := by decide +kernel
theorem wd_X9_init_cl16 : Cond.classLink RX9 16 RX4 ∈ wsX9_init := by decide +kernel
theorem wd_X9_init_is4 : Cond.instantiable RX4 7 ∈ wsX9_init := by decide +kernel
theorem wd_X9_init_ii4 : Cond.initialized RX4 ∈ wsX9_init := by decide +kernel
theorem wd_X9_init_iiX4 : Cond.initialized RX4 ∈ wsX9_init := by decide +kernel
theorem wd_X9_init_imX4_init : Cond.instanceMethod yX4_init ∈ wsX9_init := by decide +kernel
theorem ln_X9_init_18 {G : Gt} {A : Nat → Prop} {s : State} (hE : gE G A s s.heap) : va_Nw (Cond.methodLinkNest RX9 18 yX4_init "KelpShores") s := hE.2.1 (RX9, 18, yX4_init) (List.mem_of_getElem? (i := 1) rfl)
theorem lk_X9_init_19 : Cond.fieldLink RX9 19 "KelpShores" "rights" "LKelpShores$Rights;" ∈ wsX9_init := by decide +kernel
theorem lk_X9_init_23 : Cond.fieldLink RX9 23 "KelpShores" "spareRights" "LKelpShores$Rights;" ∈ wsX9_init := by decide +kernel
theorem lk_X9_init_26 : Cond.fieldLink RX9 26 "KelpShores" "wrongByte" "I" ∈ wsX9_init := by decide +kernel
theorem wd_X9_init_cl30 : Cond.classLink RX9 30 RX6 ∈ wsX9_init := by decide +kernel
theorem lk_X9_init_32 : Cond.fieldLink RX9 32 "KelpShores" "shores" "[LKelpShores$Shore;" ∈ wsX9_init := by decide +kernel
theorem wd_X9_init_cl36 : Cond.classLink RX9 36 RX0 ∈ wsX9_init := by decide +kernel
theorem lk_X9_init_38 : Cond.fieldLink RX9 38 "KelpShores" "families" "[LKelpShores$Family;" ∈ wsX9_init := by decide +kernel
theorem wd_X9_init_cl42 : Cond.classLink RX9 42 RX3 ∈ wsX9_init := by decide +kernel
theorem lk_X9_init_44 : Cond.fieldLink RX9 44 "KelpShores" "pits" "[LKelpShores$Pit;" ∈ wsX9_init := by decide +kernel
theorem wd_X9_init_cl48 : Cond.classLink RX9 48 RX2 ∈ wsX9_init := by decide +kernel
theorem lk_X9_init_50 : Cond.fieldLink RX9 50 "KelpShores" "lots" "[LKelpShores$Lot;" ∈ wsX9_init := by decide +kernel
theorem wd_X9_init_acint : Cond.arrayClass .int ∈ wsX9_init := by decide +kernel
theorem lk_X9_init_54 : Cond.fieldLink RX9 54 "KelpShores" "tests" "[I" ∈ wsX9_init := by decide +kernel
theorem ix_X9_init_7 : ∀ w ∈ wsX70, w ∈ wsX9_init := by decide +kernel
theorem wd_X9_init_cl58 : Cond.classLink RX9 58 RX7 ∈ wsX9_init := by decide +kernel
theorem wd_X9_init_is7 : Cond.instantiable RX7 6 ∈ wsX9_init := by decide +kernel
theorem wd_X9_init_ii7 : Cond.initialized RX7 ∈ wsX9_init := by decide +kernel
theorem wd_X9_init_iiX7 : Cond.initialized RX7 ∈ wsX9_init := by decide +kernel
theorem wd_X9_init_imX7_init : Cond.instanceMethod yX7_init ∈ wsX9_init := by decide +kernel
theorem ln_X9_init_60 {G : Gt} {A : Nat → Prop} {s : State} (hE : gE G A s s.heap) : va_Nw (Cond.methodLinkNest RX9 60 yX7_init "KelpShores") s := hE.2.1 (RX9, 60, yX7_init) (List.mem_of_getElem? (i := 2) rfl)
theorem lk_X9_init_61 : Cond.fieldLink RX9 61 "KelpShores" "store" "LKelpShores$Store;" ∈ wsX9_init := by decide +kernel
theorem ix_X9_init_1 : ∀ w ∈ wsX10, w ∈ wsX9_init := by decide +kernel
theorem wd_X9_init_cl65 : Cond.classLink RX9 65 RX1 ∈ wsX9_init := by decide +kernel
theorem wd_X9_init_is1 : Cond.instantiable RX1 6 ∈ wsX9_init := by decide +kernel
theorem wd_X9_init_ii1 : Cond.initialized RX1 ∈ wsX9_init := by decide +kernel
theorem wd_X9_init_iiX1 : Cond.initialized RX1 ∈ wsX9_init := by decide +kernel
theorem wd_X9_init_imX1_init : Cond.instanceMethod yX1_init ∈ wsX9_init := by decide +kernel
theorem ln_X9_init_67 {G : Gt} {A : Nat → Prop} {s : State} (hE : gE G A s s.heap) : va_Nw (Cond.methodLinkNest RX9 67 yX1_init "KelpShores") s := hE.2.1 (RX9, 67, yX1_init) (List.mem_of_getElem? (i := 3) rfl)
theorem lk_X9_init_68 : Cond.fieldLink RX9 68 "KelpShores" "forecast" "LKelpShores$Forecast;" ∈ wsX9_init := by decide +kernel
theorem ix_X9_init_0 : ∀ w ∈ wsX00, w ∈ wsX9_init := by decide +kernel
theorem wd_X9_init_is0 : Cond.instantiable RX0 8 ∈ wsX9_init := by decide +kernel
theorem wd_X9_init_ii0 : Cond.initialized RX0 ∈ wsX9_init := by decide +kernel
theorem wd_X9_init_iiX0 : Cond.initialized RX0 ∈ wsX9_init := by decide +kernel
theorem wd_X9_init_imX0_init : Cond.instanceMethod yX0_init ∈ wsX9_init := by decide +kernel
theorem ln_X9_init_72 {G : Gt} {A : Nat → Prop} {s : State} (hE : gE G A s s.heap) : va_Nw (Cond.methodLinkNest RX9 72 yX0_init "KelpShores") s := hE.2.1 (RX9, 72, yX0_init) (List.mem_of_getElem? (i := 4) rfl)
set_option maxRecDepth 100000 in
def wp_X9_init (z : Zt) (o : Nat) (w : Vt) (K : Zt → Vt → Prop) : Prop := isO z 9 o ∧ ∀ q1 : Nat, q1 ∉ z.2.1 → wZ (nZ z q1 8) (fun z => ∀ w2 : Vt, w2 = nV w q1 → isO z 9 o ∧ isO z 8 q1 ∧ wp_X8_init z q1 w2 (fun z w3 => isO z 9 o ∧ isO z 8 q1 ∧ wZ (uR z 900 o (some q1)) (fun z => isO z 9 o ∧ ∀ q4 : Nat, q4 ∉ z.2.1 → wZ (nZ z q4 4) (fun z => ∀ w5 : Vt, w5 = nV w3 q4 → isO z 9 o ∧ isO z 4 q4 ∧ wp_X4_init z q4 w5 (fun z w6 => isO z 9 o ∧ isO z 4 q4 ∧ wZ (uR z 901 o (some q4)) (fun z => isO z 9 o ∧ ∀ q7 : Nat, q7 ∉ z.2.1 → wZ (nZ z q7 4) (fun z => ∀ w8 : Vt, w8 = nV w6 q7 → isO z 9 o ∧ isO z 4 q7 ∧ wp_X4_init z q7 w8 (fun z w9 => isO z 9 o ∧ isO z 4 q7 ∧ wZ (uR z 902 o (some q7)) (fun z => isO z 9 o ∧ ∀ w10 : Vt, w10 = uI w9 903 o (-1) → ∀ q11 : Nat, q11 ∉ z.2.1 → wZ (nZ z q11 1904) (fun z => ∀ w12 : Vt, w12 = nV w10 q11 → isO z 9 o ∧ isO z 1904 q11 ∧ wZ (uR z 904 o (some q11)) (fun z => isO z 9 o ∧ ∀ q13 : Nat, q13 ∉ z.2.1 → wZ (nZ z q13 1906) (fun z => ∀ w14 : Vt, w14 = nV w12 q13 → isO z 9 o ∧ isO z 1906 q13 ∧ wZ (uR z 906 o (some q13)) (fun z => isO z 9 o ∧ ∀ q15 : Nat, q15 ∉ z.2.1 → wZ (nZ z q15 1907) (fun z => ∀ w16 : Vt, w16 = nV w14 q15 → isO z 9 o ∧ isO z 1907 q15 ∧ wZ (uR z 907 o (some q15)) (fun z => isO z 9 o ∧ ∀ q17 : Nat, q17 ∉ z.2.1 → wZ (nZ z q17 1909) (fun z => ∀ w18 : Vt, w18 = nV w16 q17 → isO z 9 o ∧ isO z 1909 q17 ∧ wZ (uR z 909 o (some q17)) (fun z => isO z 9 o ∧ ∀ q19 : Nat, q19 ∉ z.2.1 → wZ (nZ z q19 1911) (fun z => ∀ w20 : Vt, w20 = nV w18 q19 → isO z 9 o ∧ isO z 1911 q19 ∧ wZ (uR z 911 o (some q19)) (fun z => isO z 9 o ∧ ∀ q21 : Nat, q21 ∉ z.2.1 → wZ (nZ z q21 7) (fun z => ∀ w22 : Vt, w22 = nV w20 q21 → isO z 9 o ∧ isO z 7 q21 ∧ wp_X7_init z q21 w22 (fun z w23 => isO z 9 o ∧ isO z 7 q21 ∧ wZ (uR z 912 o (some q21)) (fun z => isO z 9 o ∧ ∀ q24 : Nat, q24 ∉ z.2.1 → wZ (nZ z q24 1) (fun z => ∀ w25 : Vt, w25 = nV w23 q24 → isO z 9 o ∧ isO z 1 q24 ∧ wp_X1_init z q24 w25 (fun z w26 => isO z 9 o ∧ isO z 1 q24 ∧ wZ (uR z 913 o (some q24)) (fun z => isO z 9 o ∧ ∃ b27 : Nat, zR z 906 o = some b27 ∧ isO z 1906 b27 ∧ ∀ q28 : Nat, q28 ∉ z.2.1 → wZ (nZ z q28 0) (fun z => ∀ w29 : Vt, w29 = nV w26 q28 → isO z 9 o ∧ isO z 0 q28 ∧ isO z 1906 b27 ∧ wp_X0_init z q28 w29 (fun z w30 => isO z 9 o ∧ isO z 0 q28 ∧ isO z 1906 b27 ∧ vp_in 0 8 ∧ wZ (uO z 1906 b27 (0 : Int32).toNatClampNeg (some q28)) (fun z => isO z 9 o ∧ ∃ b31 : Nat, zR z 906 o = some b31 ∧ isO z 1906 b31 ∧ ∀ q32 : Nat, q32 ∉ z.2.1 → wZ (nZ z q32 0) (fun z => ∀ w33 : Vt, w33 = nV w30 q32 → isO z 9 o ∧ isO z 0 q32 ∧ isO z 1906 b31 ∧ wp_X0_init z q32 w33 (fun z w34 => isO z 9 o ∧ isO z 0 q32 ∧ isO z 1906 b31 ∧ vp_in 1 8 ∧ wZ (uO z 1906 b31 (1 : Int32).toNatClampNeg (some q32)) (fun z => isO z 9 o ∧ ∃ b35 : Nat, zR z 906 o = some b35 ∧ isO z 1906 b35 ∧ ∀ q36 : Nat, q36 ∉ z.2.1 → wZ (nZ z q36 0) (fun z => ∀ w37 : Vt, w37 = nV w34 q36 → isO z 9 o ∧ isO z 0 q36 ∧ isO z 1906 b35 ∧ wp_X0_init z q36 w37 (fun z w38 => isO z 9 o ∧ isO z 0 q36 ∧ isO z 1906 b35 ∧ vp_in 2 8 ∧ wZ (uO z 1906 b35 (2 : Int32).toNatClampNeg (some q36)) (fun z => isO z 9 o ∧ ∃ b39 : Nat, zR z 906 o = some b39 ∧ isO z 1906 b39 ∧ ∀ q40 : Nat, q40 ∉ z.2.1 → wZ (nZ z q40 0) (fun z => ∀ w41 : Vt, w41 = nV w38 q40 → isO z 9 o ∧ isO z 0 q40 ∧ isO z 1906 b39 ∧ wp_X0_init z q40 w41 (fun z w42 => isO z 9 o ∧ isO z 0 q40 ∧ isO z 1906 b39 ∧ vp_in 3 8 ∧ wZ (uO z 1906 b39 (3 : Int32).toNatClampNeg (some q40)) (fun z => isO z 9 o ∧ ∃ b43 : Nat, zR z 906 o = some b43 ∧ isO z 1906 b43 ∧ ∀ q44 : Nat, q44 ∉ z.2.1 → wZ (nZ z q44 0) (fun z => ∀ w45 : Vt, w45 = nV w42 q44 → isO z 9 o ∧ isO z 0 q44 ∧ isO z 1906 b43 ∧ wp_X0_init z q44 w45 (fun z w46 => isO z 9 o ∧ isO z 0 q44 ∧ isO z 1906 b43 ∧ vp_in 4 8 ∧ wZ (uO z 1906 b43 (4 : Int32).toNatClampNeg (some q44)) (fun z => isO z 9 o ∧ ∃ b47 : Nat, zR z 906 o = some b47 ∧ isO z 1906 b47 ∧ ∀ q48 : Nat, q48 ∉ z.2.1 → wZ (nZ z q48 0) (fun z => ∀ w49 : Vt, w49 = nV w46 q48 → isO z 9 o ∧ isO z 0 q48 ∧ isO z 1906 b47 ∧ wp_X0_init z q48 w49 (fun z w50 => isO z 9 o ∧ isO z 0 q48 ∧ isO z 1906 b47 ∧ vp_in 5 8 ∧ wZ (uO z 1906 b47 (5 : Int32).toNatClampNeg (some q48)) (fun z => isO z 9 o ∧ ∃ b51 : Nat, zR z 906 o = some b51 ∧ isO z 1906 b51 ∧ ∀ q52 : Nat, q52 ∉ z.2.1 → wZ (nZ z q52 0) (fun z => ∀ w53 : Vt, w53 = nV w50 q52 → isO z 9 o ∧ isO z 0 q52 ∧ isO z 1906 b51 ∧ wp_X0_init z q52 w53 (fun z w54 => isO z 9 o ∧ isO z 0 q52 ∧ isO z 1906 b51 ∧ vp_in 6 8 ∧ wZ (uO z 1906 b51 (6 : Int32).toNatClampNeg (some q52)) (fun z => isO z 9 o ∧ ∃ b55 : Nat, zR z 906 o = some b55 ∧ isO z 1906 b55 ∧ ∀ q56 : Nat, q56 ∉ z.2.1 → wZ (nZ z q56 0) (fun z => ∀ w57 : Vt, w57 = nV w54 q56 → isO z 9 o ∧ isO z 0 q56 ∧ isO z 1906 b55 ∧ wp_X0_init z q56 w57 (fun z w58 => isO z 9 o ∧ isO z 0 q56 ∧ isO z 1906 b55 ∧ vp_in 7 8 ∧ wZ (uO z 1906 b55 (7 : Int32).toNatClampNeg (some q56)) (fun z => isO z 9 o ∧ ∃ b59 : Nat, zR z 906 o = some b59 ∧ isO z 1906 b59 ∧ K z w58)))))))))))))))))))))))))))))))))))))))))))))))))
set_option maxHeartbeats 4000000 in
set_option maxRecDepth 100000 in
theorem k_X9_init (l : Launch) (G : Gt) (z : Zt) (w : Vt) (sz : Nat) (o : Nat) (K : Zt → Vt → Prop) (hp : wp_X9_init z o w K) : NV l yX9_init wsX9_init rmX9_init G z w sz [.ref o] K 47 6616 := by
  refine Met.ofW (cc := cX9_init) (maxL := 2) (ret := none) (by decide +kernel) rfl ?_
  intro p e s m args below meth c s₁ B hml hv
  obtain ⟨rfl, rfl, C, h⟩ := hp_start B hml hv
  generalize gA G z w s.heap.size = A at C h ⊢
  obtain ⟨hx, hb, hr, hlocks, hml, hown, hts, hK, hA, hE⟩ := id C
  have hmn : meth.name = "<init>" := (name_of_methodNamed B.named B.method).1
  obtain ⟨ho, hp⟩ := hp
  have hl := lv_entry ([.ref o]) (n := 2) (Nat.le_of_ble_eq_true rfl)
  rw [lg_entry_eq]
  generalize (lg_sl ([.ref o]) ++ List.replicate (2 - (lg_sl ([.ref o])).length) Slot.unset).toArray = ls at hl ⊢
  have hl : lv_has ls 2 [(0, .ref o)] := hl
  refine lv_aload_n hx hb dX9_init_0 rfl (lv_at hl 0 rfl) ?_
  refine W.objInit hx hb hown (hts _ wd_X9_init_oi1) (hts _ wd_X9_init_oii) (hts _ wd_X9_init_oic) rfl (by rw [hml]; exact hl.1) rfl dX9_init_1 (Nat.le_of_ble_eq_true rfl) (Nat.le_of_ble_eq_true rfl) ?_
  refine W.eq (g2 := F0 m 4 ls []) rfl ?_
  refine lv_aload_n hx hb dX9_init_4 rfl (lv_at hl 0 rfl) ?_
  refine hp_new (ci := 8) hx hb hts ix_X9_init_8 tyX8 tyX8_ok hown (hts _ wd_X9_init_cl7) (hts _ wd_X9_init_is8) (hts _ wd_X9_init_ii8) hK h hA (by decide) rfl hfs_8 (Nat.le_of_ble_eq_true rfl) (Nat.le_of_ble_eq_true rfl) dX9_init_5 (fun q1 z w2 H hqq1 ezq1 ewq1 h => ?_)
  have hp := hp q1 hqq1 z ezq1 w2 ewq1
  obtain ⟨ho, hp⟩ := hp
  obtain ⟨hoq1, hp⟩ := hp
  refine lv_dup hx hb dX9_init_8 rfl ?_
  refine hp_nIN ⟨hx, hb, hml, hown, hts⟩ (k_X8_init l G z w2 _ q1 _ hp) ⟨va_cnB 0 hts gX9_init_X8_init_n9 rfl rfl rfl (ln_X9_init_9 hE) (hts _ wd_X9_init_iiX8) (by decide +kernel) ⟨Nat.le_of_ble_eq_true rfl, Nat.le_of_ble_eq_true rfl⟩, rfl, (hts _ wd_X9_init_imX8_init)⟩ hK h hA hE rfl hl.1 rfl (Nat.le_of_ble_eq_true rfl) dX9_init_9 ⟨Nat.le_of_ble_eq_true rfl, Nat.le_of_ble_eq_true rfl⟩ (fun z w3 H locs hp h => ?_)
  obtain ⟨ho, hp⟩ := hp
  obtain ⟨hoq1, hp⟩ := hp
  refine hp_putrF (ci := 9) (ty := .object "KelpShores$Tape") (b := q1) hx hb hts ix_X9_init_9 tyX9 tyX9_ok nmX9 hown hK h ho (by decide) rfl 0 900 (by decide) (hts _ lk_X9_init_10) (fun _ h9 => h9) rfl hmn rfl (by decide +kernel) rfl rfl (fun _ _ => rfl) (fun _ _ => Nat.le_of_ble_eq_true rfl) dX9_init_12 (fun H locs z ez h => ?_)
  have hp := hp z ez
  obtain ⟨ho, hp⟩ := hp
  refine lv_aload_n hx hb dX9_init_15 rfl (lv_at hl 0 rfl) ?_
  refine hp_new (ci := 4) hx hb hts ix_X9_init_4 tyX4 tyX4_ok hown (hts _ wd_X9_init_cl16) (hts _ wd_X9_init_is4) (hts _ wd_X9_init_ii4) hK h hA (by decide) rfl hfs_4 (Nat.le_of_ble_eq_true rfl) (Nat.le_of_ble_eq_true rfl) dX9_init_16 (fun q4 z w5 H hqq4 ezq4 ewq4 h => ?_)
  have hp := hp q4 hqq4 z ezq4 w5 ewq4
  obtain ⟨ho, hp⟩ := hp
  obtain ⟨hoq4, hp⟩ := hp
  refine lv_dup hx hb dX9_init_19 rfl ?_
  refine hp_nIN ⟨hx, hb, hml, hown, hts⟩ (k_X4_init l G z w5 _ q4 _ hp) ⟨va_cnB 0 hts gX9_init_X4_init_n18 rfl rfl rfl (ln_X9_init_18 hE) (hts _ wd_X9_init_iiX4) (by decide +kernel) ⟨Nat.le_of_ble_eq_true rfl, Nat.le_of_ble_eq_true rfl⟩, rfl, (hts _ wd_X9_init_imX4_init)⟩ hK h hA hE rfl hl.1 rfl (Nat.le_of_ble_eq_true rfl) dX9_init_20 ⟨Nat.le_of_ble_eq_true rfl, Nat.le_of_ble_eq_true rfl⟩ (fun z w6 H locs hp h => ?_)
  obtain ⟨ho, hp⟩ := hp
  obtain ⟨hoq4, hp⟩ := hp
  refine hp_putr (ci := 9) (ty := .object "KelpShores$Rights") (b := q4) hx hb hts ix_X9_init_9 tyX9 tyX9_ok nmX9 hown hK h ho (by decide) rfl 1 901 (by decide) (hts _ lk_X9_init_19) (fun _ h9 => h9) rfl (by decide +kernel) rfl rfl (fun _ _ => rfl) (fun _ _ => Nat.le_of_ble_eq_true rfl) dX9_init_23 (fun H locs z ez h => ?_)
  have hp := hp z ez
  obtain ⟨ho, hp⟩ := hp
  refine lv_aload_n hx hb dX9_init_26 rfl (lv_at hl 0 rfl) ?_
  refine hp_new (ci := 4) hx hb hts ix_X9_init_4 tyX4 tyX4_ok hown (hts _ wd_X9_init_cl16) (hts _ wd_X9_init_is4) (hts _ wd_X9_init_ii4) hK h hA (by decide) rfl hfs_4 (Nat.le_of_ble_eq_true rfl) (Nat.le_of_ble_eq_true rfl) dX9_init_27 (fun q7 z w8 H hqq7 ezq7 ewq7 h => ?_)
  have hp := hp q7 hqq7 z ezq7 w8 ewq7
  obtain ⟨ho, hp⟩ := hp
  obtain ⟨hoq7, hp⟩ := hp
  refine lv_dup hx hb dX9_init_30 rfl ?_
  refine hp_nIN ⟨hx, hb, hml, hown, hts⟩ (k_X4_init l G z w8 _ q7 _ hp) ⟨va_cnB 0 hts gX9_init_X4_init_n18 rfl rfl rfl (ln_X9_init_18 hE) (hts _ wd_X9_init_iiX4) (by decide +kernel) ⟨Nat.le_of_ble_eq_true rfl, Nat.le_of_ble_eq_true rfl⟩, rfl, (hts _ wd_X9_init_imX4_init)⟩ hK h hA hE rfl hl.1 rfl (Nat.le_of_ble_eq_true rfl) dX9_init_31 ⟨Nat.le_of_ble_eq_true rfl, Nat.le_of_ble_eq_true rfl⟩ (fun z w9 H locs hp h => ?_)
  obtain ⟨ho, hp⟩ := hp
  obtain ⟨hoq7, hp⟩ := hp
  refine hp_putr (ci := 9) (ty := .object "KelpShores$Rights") (b := q7) hx hb hts ix_X9_init_9 tyX9 tyX9_ok nmX9 hown hK h ho (by decide) rfl 2 902 (by decide) (hts _ lk_X9_init_23) (fun _ h9 => h9) rfl (by decide +kernel) rfl rfl (fun _ _ => rfl) (fun _ _ => Nat.le_of_ble_eq_true rfl) dX9_init_34 (fun H locs z ez h => ?_)
  have hp := hp z ez
  obtain ⟨ho, hp⟩ := hp
  refine lv_aload_n hx hb dX9_init_37 rfl (lv_at hl 0 rfl) ?_
  refine lv_iconst (v := (-1)) hx hb dX9_init_38 (by decide) ?_
  refine hp_puti (ci := 9) (ty := .int) (x := (-1)) hx hb hts ix_X9_init_9 tyX9 tyX9_ok nmX9 hown hK h ho (by decide) rfl 3 903 (by decide) (hts _ lk_X9_init_26) (fun _ h9 => h9) rfl (by decide +kernel) rfl rfl (fun _ _ => rfl) (fun _ _ => Nat.le_of_ble_eq_true rfl) dX9_init_39 (fun H locs w10 ew10 h => ?_)
  have hp := hp w10 ew10
  refine lv_aload_n hx hb dX9_init_42 rfl (lv_at hl 0 rfl) ?_
  refine lv_bipush (v := 6) hx hb dX9_init_43 (by decide) ?_
  refine hp_newq hx hb 1904 7 hown (hts _ wd_X9_init_cl30) (hE.2.2.2.2.1 "KelpShores$Shore" (List.mem_of_getElem? (i := 4) rfl)) rfl hK h hA (by decide) rfl (by decide) (by decide) (by decide) (Nat.le_of_ble_eq_true rfl) (Nat.le_of_ble_eq_true rfl) dX9_init_45 (fun q11 z w12 H hqq11 ezq11 ewq11 h => ?_)
  have hp := hp q11 hqq11 z ezq11 w12 ewq11
  obtain ⟨ho, hp⟩ := hp
  obtain ⟨hoq11, hp⟩ := hp
  refine hp_putrF (ci := 9) (ty := .array (.object "KelpShores$Shore")) (b := q11) hx hb hts ix_X9_init_9 tyX9 tyX9_ok nmX9 hown hK h ho (by decide) rfl 4 904 (by decide) (hts _ lk_X9_init_32) (fun _ h9 => h9) rfl hmn rfl (by decide +kernel) rfl rfl (fun _ _ => rfl) (fun _ _ => Nat.le_of_ble_eq_true rfl) dX9_init_48 (fun H locs z ez h => ?_)
  have hp := hp z ez
  obtain ⟨ho, hp⟩ := hp
  refine lv_aload_n hx hb dX9_init_51 rfl (lv_at hl 0 rfl) ?_
  refine lv_bipush (v := 8) hx hb dX9_init_52 (by decide) ?_
  refine hp_newq hx hb 1906 3 hown (hts _ wd_X9_init_cl36) (hE.2.2.2.2.1 "KelpShores$Family" (List.mem_of_getElem? (i := 0) rfl)) rfl hK h hA (by decide) rfl (by decide) (by decide) (by decide) (Nat.le_of_ble_eq_true rfl) (Nat.le_of_ble_eq_true rfl) dX9_init_54 (fun q13 z w14 H hqq13 ezq13 ewq13 h => ?_)
  have hp := hp q13 hqq13 z ezq13 w14 ewq13
  obtain ⟨ho, hp⟩ := hp
  obtain ⟨hoq13, hp⟩ := hp
  refine hp_putrF (ci := 9) (ty := .array (.object "KelpShores$Family")) (b := q13) hx hb hts ix_X9_init_9 tyX9 tyX9_ok nmX9 hown hK h ho (by decide) rfl 6 906 (by decide) (hts _ lk_X9_init_38) (fun _ h9 => h9) rfl hmn rfl (by decide +kernel) rfl rfl (fun _ _ => rfl) (fun _ _ => Nat.le_of_ble_eq_true rfl) dX9_init_57 (fun H locs z ez h => ?_)
  have hp := hp z ez
  obtain ⟨ho, hp⟩ := hp
  refine lv_aload_n hx hb dX9_init_60 rfl (lv_at hl 0 rfl) ?_
  refine lv_bipush (v := 12) hx hb dX9_init_61 (by decide) ?_
  refine hp_newq hx hb 1907 5 hown (hts _ wd_X9_init_cl42) (hE.2.2.2.2.1 "KelpShores$Pit" (List.mem_of_getElem? (i := 2) rfl)) rfl hK h hA (by decide) rfl (by decide) (by decide) (by decide) (Nat.le_of_ble_eq_true rfl) (Nat.le_of_ble_eq_true rfl) dX9_init_63 (fun q15 z w16 H hqq15 ezq15 ewq15 h => ?_)
  have hp := hp q15 hqq15 z ezq15 w16 ewq15
  obtain ⟨ho, hp⟩ := hp
  obtain ⟨hoq15, hp⟩ := hp
  refine hp_putrF (ci := 9) (ty := .array (.object "KelpShores$Pit")) (b := q15) hx hb hts ix_X9_init_9 tyX9 tyX9_ok nmX9 hown hK h ho (by decide) rfl 7 907 (by decide) (hts _ lk_X9_init_44) (fun _ h9 => h9) rfl hmn rfl (by decide +kernel) rfl rfl (fun _ _ => rfl) (fun _ _ => Nat.le_of_ble_eq_true rfl) dX9_init_66 (fun H locs z ez h => ?_)
  have hp := hp z ez
  obtain ⟨ho, hp⟩ := hp
  refine lv_aload_n hx hb dX9_init_69 rfl (lv_at hl 0 rfl) ?_
  refine lv_bipush (v := 60) hx hb dX9_init_70 (by decide) ?_
  refine hp_newq hx hb 1909 4 hown (hts _ wd_X9_init_cl48) (hE.2.2.2.2.1 "KelpShores$Lot" (List.mem_of_getElem? (i := 1) rfl)) rfl hK h hA (by decide) rfl (by decide) (by decide) (by decide) (Nat.le_of_ble_eq_true rfl) (Nat.le_of_ble_eq_true rfl) dX9_init_72 (fun q17 z w18 H hqq17 ezq17 ewq17 h => ?_)
  have hp := hp q17 hqq17 z ezq17 w18 ewq17
  obtain ⟨ho, hp⟩ := hp
  obtain ⟨hoq17, hp⟩ := hp
  refine hp_putrF (ci := 9) (ty := .array (.object "KelpShores$Lot")) (b := q17) hx hb hts ix_X9_init_9 tyX9 tyX9_ok nmX9 hown hK h ho (by decide) rfl 9 909 (by decide) (hts _ lk_X9_init_50) (fun _ h9 => h9) rfl hmn rfl (by decide +kernel) rfl rfl (fun _ _ => rfl) (fun _ _ => Nat.le_of_ble_eq_true rfl) dX9_init_75 (fun H locs z ez h => ?_)
  have hp := hp z ez
  obtain ⟨ho, hp⟩ := hp
  refine lv_aload_n hx hb dX9_init_78 rfl (lv_at hl 0 rfl) ?_
  refine lv_iconst (v := 5) hx hb dX9_init_79 (by decide) ?_
  refine hp_newa (atype := .int) (ty := .int) hx hb (hts _ wd_X9_init_acint) rfl 1911 1 rfl (fun _ h9 => h9) hK h hA (fun _ => rfl) (by decide) rfl (by decide) (by decide) (by decide) (Nat.le_of_ble_eq_true rfl) (Nat.le_of_ble_eq_true rfl) dX9_init_80 (fun q19 z w20 H hqq19 ezq19 ewq19 h => ?_)
  have hp := hp q19 hqq19 z ezq19 w20 ewq19
  obtain ⟨ho, hp⟩ := hp
  obtain ⟨hoq19, hp⟩ := hp
  refine hp_putrF (ci := 9) (ty := .array .int) (b := q19) hx hb hts ix_X9_init_9 tyX9 tyX9_ok nmX9 hown hK h ho (by decide) rfl 11 911 (by decide) (hts _ lk_X9_init_54) (fun _ h9 => h9) rfl hmn rfl (by decide +kernel) rfl rfl (fun _ _ => rfl) (fun _ _ => Nat.le_of_ble_eq_true rfl) dX9_init_82 (fun H locs z ez h => ?_)
  have hp := hp z ez
  obtain ⟨ho, hp⟩ := hp
  refine lv_aload_n hx hb dX9_init_85 rfl (lv_at hl 0 rfl) ?_
  refine hp_new (ci := 7) hx hb hts ix_X9_init_7 tyX7 tyX7_ok hown (hts _ wd_X9_init_cl58) (hts _ wd_X9_init_is7) (hts _ wd_X9_init_ii7) hK h hA (by decide) rfl hfs_7 (Nat.le_of_ble_eq_true rfl) (Nat.le_of_ble_eq_true rfl) dX9_init_86 (fun q21 z w22 H hqq21 ezq21 ewq21 h => ?_)
  have hp := hp q21 hqq21 z ezq21 w22 ewq21
  obtain ⟨ho, hp⟩ := hp
  obtain ⟨hoq21, hp⟩ := hp
  refine lv_dup hx hb dX9_init_89 rfl ?_
  refine hp_nIN ⟨hx, hb, hml, hown, hts⟩ (k_X7_init l G z w22 _ q21 _ hp) ⟨va_cnB 0 hts gX9_init_X7_init_n60 rfl rfl rfl (ln_X9_init_60 hE) (hts _ wd_X9_init_iiX7) (by decide +kernel) ⟨Nat.le_of_ble_eq_true rfl, Nat.le_of_ble_eq_true rfl⟩, rfl, (hts _ wd_X9_init_imX7_init)⟩ hK h hA hE rfl hl.1 rfl (Nat.le_of_ble_eq_true rfl) dX9_init_90 ⟨Nat.le_of_ble_eq_true rfl, Nat.le_of_ble_eq_true rfl⟩ (fun z w23 H locs hp h => ?_)
  obtain ⟨ho, hp⟩ := hp
  obtain ⟨hoq21, hp⟩ := hp
  refine hp_putrF (ci := 9) (ty := .object "KelpShores$Store") (b := q21) hx hb hts ix_X9_init_9 tyX9 tyX9_ok nmX9 hown hK h ho (by decide) rfl 12 912 (by decide) (hts _ lk_X9_init_61) (fun _ h9 => h9) rfl hmn rfl (by decide +kernel) rfl rfl (fun _ _ => rfl) (fun _ _ => Nat.le_of_ble_eq_true rfl) dX9_init_93 (fun H locs z ez h => ?_)
  have hp := hp z ez
  obtain ⟨ho, hp⟩ := hp
  refine lv_aload_n hx hb dX9_init_96 rfl (lv_at hl 0 rfl) ?_
  refine hp_new (ci := 1) hx hb hts ix_X9_init_1 tyX1 tyX1_ok hown (hts _ wd_X9_init_cl65) (hts _ wd_X9_init_is1) (hts _ wd_X9_init_ii1) hK h hA (by decide) rfl hfs_1 (Nat.le_of_ble_eq_true rfl) (Nat.le_of_ble_eq_true rfl) dX9_init_97 (fun q24 z w25 H hqq24 ezq24 ewq24 h => ?_)
  have hp := hp q24 hqq24 z ezq24 w25 ewq24
  obtain ⟨ho, hp⟩ := hp
  obtain ⟨hoq24, hp⟩ := hp
  refine lv_dup hx hb dX9_init_100 rfl ?_
  refine hp_nIN ⟨hx, hb, hml, hown, hts⟩ (k_X1_init l G z w25 _ q24 _ hp) ⟨va_cnB 0 hts gX9_init_X1_init_n67 rfl rfl rfl (ln_X9_init_67 hE) (hts _ wd_X9_init_iiX1) (by decide +kernel) ⟨Nat.le_of_ble_eq_true rfl, Nat.le_of_ble_eq_true rfl⟩, rfl, (hts _ wd_X9_init_imX1_init)⟩ hK h hA hE rfl hl.1 rfl (Nat.le_of_ble_eq_true rfl) dX9_init_101 ⟨Nat.le_of_ble_eq_true rfl, Nat.le_of_ble_eq_true rfl⟩ (fun z w26 H locs hp h => ?_)
  obtain ⟨ho, hp⟩ := hp
  obtain ⟨hoq24, hp⟩ := hp
  refine hp_putrF (ci := 9) (ty := .object "KelpShores$Forecast") (b := q24) hx hb hts ix_X9_init_9 tyX9 tyX9_ok nmX9 hown hK h ho (by decide) rfl 13 913 (by decide) (hts _ lk_X9_init_68) (fun _ h9 => h9) rfl hmn rfl (by decide +kernel) rfl rfl (fun _ _ => rfl) (fun _ _ => Nat.le_of_ble_eq_true rfl) dX9_init_104 (fun H locs z ez h => ?_)
  have hp := hp z ez
  obtain ⟨ho, hp⟩ := hp
  refine lv_iconst (v := 0) hx hb dX9_init_107 (by decide) ?_
  refine lv_istore_n (lv' := [(1, .int 0), (0, .ref o)]) hx hb dX9_init_108 rfl hl (by decide) rfl (fun ls hl => ?_)
  refine lv_iload_n hx hb dX9_init_109 rfl (lv_at hl 0 rfl) ?_
  refine lv_aload_n hx hb dX9_init_110 rfl (lv_at hl 1 rfl) ?_
  obtain ⟨b27, eb27, hob27, hp⟩ := hp
  refine hp_get (ci := 9) (v := .ref b27) hx hb hts ix_X9_init_9 hown hK h ho (by decide) rfl 6 (by decide) (hts _ lk_X9_init_38) (fun _ h9 => h9) (by show some (va_rf (zR z 906 o)) = some (Value.ref b27); rw [eb27]; rfl) dX9_init_111 ?_
  refine hp_alen (t := 1906) (n := 8) hx hb hK h 3 rfl hob27 (by decide) (fun _ _ _ => ⟨_, rfl, rfl⟩) (v := 8) (by decide) dX9_init_114 ?_
  refine lv_icmp_ge (tgt := 137) hx hb dX9_init_115 (by decide) (fun hc => absurd hc (by decide)) (fun hc => ?_)
  refine lv_aload_n hx hb dX9_init_118 rfl (lv_at hl 1 rfl) ?_
  refine hp_get (ci := 9) (v := .ref b27) hx hb hts ix_X9_init_9 hown hK h ho (by decide) rfl 6 (by decide) (hts _ lk_X9_init_38) (fun _ h9 => h9) (by show some (va_rf (zR z 906 o)) = some (Value.ref b27); rw [eb27]; rfl) dX9_init_119 ?_
  refine lv_iload_n hx hb dX9_init_122 rfl (lv_at hl 0 rfl) ?_
  refine hp_new (ci := 0) hx hb hts ix_X9_init_0 tyX0 tyX0_ok hown (hts _ wd_X9_init_cl36) (hts _ wd_X9_init_is0) (hts _ wd_X9_init_ii0) hK h hA (by decide) rfl hfs_0 (Nat.le_of_ble_eq_true rfl) (Nat.le_of_ble_eq_true rfl) dX9_init_123 (fun q28 z w29 H hqq28 ezq28 ewq28 h => ?_)
  have hp := hp q28 hqq28 z ezq28 w29 ewq28
  obtain ⟨ho, hp⟩ := hp
  obtain ⟨hoq28, hp⟩ := hp
  obtain ⟨hob27, hp⟩ := hp
  refine lv_dup hx hb dX9_init_126 rfl ?_
  refine hp_nIN ⟨hx, hb, hml, hown, hts⟩ (k_X0_init l G z w29 _ q28 _ hp) ⟨va_cnB 0 hts gX9_init_X0_init_n72 rfl rfl rfl (ln_X9_init_72 hE) (hts _ wd_X9_init_iiX0) (by decide +kernel) ⟨Nat.le_of_ble_eq_true rfl, Nat.le_of_ble_eq_true rfl⟩, rfl, (hts _ wd_X9_init_imX0_init)⟩ hK h hA hE rfl hl.1 rfl (Nat.le_of_ble_eq_true rfl) dX9_init_127 ⟨Nat.le_of_ble_eq_true rfl, Nat.le_of_ble_eq_true rfl⟩ (fun z w30 H locs hp h => ?_)
  obtain ⟨ho, hp⟩ := hp
  obtain ⟨hoq28, hp⟩ := hp
  obtain ⟨hob27, hp⟩ := hp
  refine hp_aast (t := 1906) (n := 8) (j := 3) (ci := 0) hx hb hK h rfl hob27 (by decide) (fun _ _ _ => rfl) hoq28 (by decide) rfl hp.1 dX9_init_130 (fun H locs z ez h => ?_)
  have hp := hp.2 z ez
  obtain ⟨ho, hp⟩ := hp
  refine lv_iinc (v := 1) (lv' := [(1, .int 1), (0, .ref o)]) hx hb dX9_init_131 hl (k := 0) rfl (by decide) (by decide) rfl (fun ls hl => ?_)
  refine lv_goto (tgt := 109) hx hb dX9_init_134 (by decide) ?_
  refine lv_iload_n hx hb dX9_init_109 rfl (lv_at hl 0 rfl) ?_
  refine lv_aload_n hx hb dX9_init_110 rfl (lv_at hl 1 rfl) ?_
  obtain ⟨b31, eb31, hob31, hp⟩ := hp
  refine hp_get (ci := 9) (v := .ref b31) hx hb hts ix_X9_init_9 hown hK h ho (by decide) rfl 6 (by decide) (hts _ lk_X9_init_38) (fun _ h9 => h9) (by show some (va_rf (zR z 906 o)) = some (Value.ref b31); rw [eb31]; rfl) dX9_init_111 ?_
  refine hp_alen (t := 1906) (n := 8) hx hb hK h 3 rfl hob31 (by decide) (fun _ _ _ => ⟨_, rfl, rfl⟩) (v := 8) (by decide) dX9_init_114 ?_
  refine lv_icmp_ge (tgt := 137) hx hb dX9_init_115 (by decide) (fun hc => absurd hc (by decide)) (fun hc => ?_)
  refine lv_aload_n hx hb dX9_init_118 rfl (lv_at hl 1 rfl) ?_
  refine hp_get (ci := 9) (v := .ref b31) hx hb hts ix_X9_init_9 hown hK h ho (by decide) rfl 6 (by decide) (hts _ lk_X9_init_38) (fun _ h9 => h9) (by show some (va_rf (zR z 906 o)) = some (Value.ref b31); rw [eb31]; rfl) dX9_init_119 ?_
  refine lv_iload_n hx hb dX9_init_122 rfl (lv_at hl 0 rfl) ?_
  refine hp_new (ci := 0) hx hb hts ix_X9_init_0 tyX0 tyX0_ok hown (hts _ wd_X9_init_cl36) (hts _ wd_X9_init_is0) (hts _ wd_X9_init_ii0) hK h hA (by decide) rfl hfs_0 (Nat.le_of_ble_eq_true rfl) (Nat.le_of_ble_eq_true rfl) dX9_init_123 (fun q32 z w33 H hqq32 ezq32 ewq32 h => ?_)
  have hp := hp q32 hqq32 z ezq32 w33 ewq32
  obtain ⟨ho, hp⟩ := hp
  obtain ⟨hoq32, hp⟩ := hp
  obtain ⟨hob31, hp⟩ := hp
  refine lv_dup hx hb dX9_init_126 rfl ?_
  refine hp_nIN ⟨hx, hb, hml, hown, hts⟩ (k_X0_init l G z w33 _ q32 _ hp) ⟨va_cnB 0 hts gX9_init_X0_init_n72 rfl rfl rfl (ln_X9_init_72 hE) (hts _ wd_X9_init_iiX0) (by decide +kernel) ⟨Nat.le_of_ble_eq_true rfl, Nat.le_of_ble_eq_true rfl⟩, rfl, (hts _ wd_X9_init_imX0_init)⟩ hK h hA hE rfl hl.1 rfl (Nat.le_of_ble_eq_true rfl) dX9_init_127 ⟨Nat.le_of_ble_eq_true rfl, Nat.le_of_ble_eq_true rfl⟩ (fun z w34 H locs hp h => ?_)
  obtain ⟨ho, hp⟩ := hp
  obtain ⟨hoq32, hp⟩ := hp
  obtain ⟨hob31, hp⟩ := hp
  refine hp_aast (t := 1906) (n := 8) (j := 3) (ci := 0) hx hb hK h rfl hob31 (by decide) (fun _ _ _ => rfl) hoq32 (by decide) rfl hp.1 dX9_init_130 (fun H locs z ez h => ?_)
  have hp := hp.2 z ez
  obtain ⟨ho, hp⟩ := hp
  refine lv_iinc (v := 2) (lv' := [(1, .int 2), (0, .ref o)]) hx hb dX9_init_131 hl (k := 0) rfl (by decide) (by decide) rfl (fun ls hl => ?_)
  refine lv_goto (tgt := 109) hx hb dX9_init_134 (by decide) ?_
  refine lv_iload_n hx hb dX9_init_109 rfl (lv_at hl 0 rfl) ?_
  refine lv_aload_n hx hb dX9_init_110 rfl (lv_at hl 1 rfl) ?_
  obtain ⟨b35, eb35, hob35, hp⟩ := hp
  refine hp_get (ci := 9) (v := .ref b35) hx hb hts ix_X9_init_9 hown hK h ho (by decide) rfl 6 (by decide) (hts _ lk_X9_init_38) (fun _ h9 => h9) (by show some (va_rf (zR z 906 o)) = some (Value.ref b35); rw [eb35]; rfl) dX9_init_111 ?_
  refine hp_alen (t := 1906) (n := 8) hx hb hK h 3 rfl hob35 (by decide) (fun _ _ _ => ⟨_, rfl, rfl⟩) (v := 8) (by decide) dX9_init_114 ?_
  refine lv_icmp_ge (tgt := 137) hx hb dX9_init_115 (by decide) (fun hc => absurd hc (by decide)) (fun hc => ?_)
  refine lv_aload_n hx hb dX9_init_118 rfl (lv_at hl 1 rfl) ?_
  refine hp_get (ci := 9) (v := .ref b35) hx hb hts ix_X9_init_9 hown hK h ho (by decide) rfl 6 (by decide) (hts _ lk_X9_init_38) (fun _ h9 => h9) (by show some (va_rf (zR z 906 o)) = some (Value.ref b35); rw [eb35]; rfl) dX9_init_119 ?_
  refine lv_iload_n hx hb dX9_init_122 rfl (lv_at hl 0 rfl) ?_
  refine hp_new (ci := 0) hx hb hts ix_X9_init_0 tyX0 tyX0_ok hown (hts _ wd_X9_init_cl36) (hts _ wd_X9_init_is0) (hts _ wd_X9_init_ii0) hK h hA (by decide) rfl hfs_0 (Nat.le_of_ble_eq_true rfl) (Nat.le_of_ble_eq_true rfl) dX9_init_123 (fun q36 z w37 H hqq36 ezq36 ewq36 h => ?_)
  have hp := hp q36 hqq36 z ezq36 w37 ewq36
  obtain ⟨ho, hp⟩ := hp
  obtain ⟨hoq36, hp⟩ := hp
  obtain ⟨hob35, hp⟩ := hp
  refine lv_dup hx hb dX9_init_126 rfl ?_
  refine hp_nIN ⟨hx, hb, hml, hown, hts⟩ (k_X0_init l G z w37 _ q36 _ hp) ⟨va_cnB 0 hts gX9_init_X0_init_n72 rfl rfl rfl (ln_X9_init_72 hE) (hts _ wd_X9_init_iiX0) (by decide +kernel) ⟨Nat.le_of_ble_eq_true rfl, Nat.le_of_ble_eq_true rfl⟩, rfl, (hts _ wd_X9_init_imX0_init)⟩ hK h hA hE rfl hl.1 rfl (Nat.le_of_ble_eq_true rfl) dX9_init_127 ⟨Nat.le_of_ble_eq_true rfl, Nat.le_of_ble_eq_true rfl⟩ (fun z w38 H locs hp h => ?_)
  obtain ⟨ho, hp⟩ := hp
  obtain ⟨hoq36, hp⟩ := hp
  obtain ⟨hob35, hp⟩ := hp
  refine hp_aast (t := 1906) (n := 8) (j := 3) (ci := 0) hx hb hK h rfl hob35 (by decide) (fun _ _ _ => rfl) hoq36 (by decide) rfl hp.1 dX9_init_130 (fun H locs z ez h => ?_)
  have hp := hp.2 z ez
  obtain ⟨ho, hp⟩ := hp
  refine lv_iinc (v := 3) (lv' := [(1, .int 3), (0, .ref o)]) hx hb dX9_init_131 hl (k := 0) rfl (by decide) (by decide) rfl (fun ls hl => ?_)
  refine lv_goto (tgt := 109) hx hb dX9_init_134 (by decide) ?_
  refine lv_iload_n hx hb dX9_init_109 rfl (lv_at hl 0 rfl) ?_
  refine lv_aload_n hx hb dX9_init_110 rfl (lv_at hl 1 rfl) ?_
  obtain ⟨b39, eb39, hob39, hp⟩ := hp
  refine hp_get (ci := 9) (v := .ref b39) hx hb hts ix_X9_init_9 hown hK h ho (by decide) rfl 6 (by decide) (hts _ lk_X9_init_38) (fun _ h9 => h9) (by show some (va_rf (zR z 906 o)) = some (Value.ref b39); rw [eb39]; rfl) dX9_init_111 ?_
  refine hp_alen (t := 1906) (n := 8) hx hb hK h 3 rfl hob39 (by decide) (fun _ _ _ => ⟨_, rfl, rfl⟩) (v := 8) (by decide) dX9_init_114 ?_
  refine lv_icmp_ge (tgt := 137) hx hb dX9_init_115 (by decide) (fun hc => absurd hc (by decide)) (fun hc => ?_)
  refine lv_aload_n hx hb dX9_init_118 rfl (lv_at hl 1 rfl) ?_
  refine hp_get (ci := 9) (v := .ref b39) hx hb hts ix_X9_init_9 hown hK h ho (by decide) rfl 6 (by decide) (hts _ lk_X9_init_38) (fun _ h9 => h9) (by show some (va_rf (zR z 906 o)) = some (Value.ref b39); rw [eb39]; rfl) dX9_init_119 ?_
  refine lv_iload_n hx hb dX9_init_122 rfl (lv_at hl 0 rfl) ?_
  refine hp_new (ci := 0) hx hb hts ix_X9_init_0 tyX0 tyX0_ok hown (hts _ wd_X9_init_cl36) (hts _ wd_X9_init_is0) (hts _ wd_X9_init_ii0) hK h hA (by decide) rfl hfs_0 (Nat.le_of_ble_eq_true rfl) (Nat.le_of_ble_eq_true rfl) dX9_init_123 (fun q40 z w41 H hqq40 ezq40 ewq40 h => ?_)
  have hp := hp q40 hqq40 z ezq40 w41 ewq40
  obtain ⟨ho, hp⟩ := hp
  obtain ⟨hoq40, hp⟩ := hp
  obtain ⟨hob39, hp⟩ := hp
  refine lv_dup hx hb dX9_init_126 rfl ?_
  refine hp_nIN ⟨hx, hb, hml, hown, hts⟩ (k_X0_init l G z w41 _ q40 _ hp) ⟨va_cnB 0 hts gX9_init_X0_init_n72 rfl rfl rfl (ln_X9_init_72 hE) (hts _ wd_X9_init_iiX0) (by decide +kernel) ⟨Nat.le_of_ble_eq_true rfl, Nat.le_of_ble_eq_true rfl⟩, rfl, (hts _ wd_X9_init_imX0_init)⟩ hK h hA hE rfl hl.1 rfl (Nat.le_of_ble_eq_true rfl) dX9_init_127 ⟨Nat.le_of_ble_eq_true rfl, Nat.le_of_ble_eq_true rfl⟩ (fun z w42 H locs hp h => ?_)
  obtain ⟨ho, hp⟩ := hp
  obtain ⟨hoq40, hp⟩ := hp
  obtain ⟨hob39, hp⟩ := hp
  refine hp_aast (t := 1906) (n := 8) (j := 3) (ci := 0) hx hb hK h rfl hob39 (by decide) (fun _ _ _ => rfl) hoq40 (by decide) rfl hp.1 dX9_init_130 (fun H locs z ez h => ?_)
  have hp := hp.2 z ez
  obtain ⟨ho, hp⟩ := hp
  refine lv_iinc (v := 4) (lv' := [(1, .int 4), (0, .ref o)]) hx hb dX9_init_131 hl (k := 0) rfl (by decide) (by decide) rfl (fun ls hl => ?_)
  refine lv_goto (tgt := 109) hx hb dX9_init_134 (by decide) ?_
  refine lv_iload_n hx hb dX9_init_109 rfl (lv_at hl 0 rfl) ?_
  refine lv_aload_n hx hb dX9_init_110 rfl (lv_at hl 1 rfl) ?_
  obtain ⟨b43, eb43, hob43, hp⟩ := hp
  refine hp_get (ci := 9) (v := .ref b43) hx hb hts ix_X9_init_9 hown hK h ho (by decide) rfl 6 (by decide) (hts _ lk_X9_init_38) (fun _ h9 => h9) (by show some (va_rf (zR z 906 o)) = some (Value.ref b43); rw [eb43]; rfl) dX9_init_111 ?_
  refine hp_alen (t := 1906) (n := 8) hx hb hK h 3 rfl hob43 (by decide) (fun _ _ _ => ⟨_, rfl, rfl⟩) (v := 8) (by decide) dX9_init_114 ?_
  refine lv_icmp_ge (tgt := 137) hx hb dX9_init_115 (by decide) (fun hc => absurd hc (by decide)) (fun hc => ?_)
  refine lv_aload_n hx hb dX9_init_118 rfl (lv_at hl 1 rfl) ?_
  refine hp_get (ci := 9) (v := .ref b43) hx hb hts ix_X9_init_9 hown hK h ho (by decide) rfl 6 (by decide) (hts _ lk_X9_init_38) (fun _ h9 => h9) (by show some (va_rf (zR z 906 o)) = some (Value.ref b43); rw [eb43]; rfl) dX9_init_119 ?_
  refine lv_iload_n hx hb dX9_init_122 rfl (lv_at hl 0 rfl) ?_
  refine hp_new (ci := 0) hx hb hts ix_X9_init_0 tyX0 tyX0_ok hown (hts _ wd_X9_init_cl36) (hts _ wd_X9_init_is0) (hts _ wd_X9_init_ii0) hK h hA (by decide) rfl hfs_0 (Nat.le_of_ble_eq_true rfl) (Nat.le_of_ble_eq_true rfl) dX9_init_123 (fun q44 z w45 H hqq44 ezq44 ewq44 h => ?_)
  have hp := hp q44 hqq44 z ezq44 w45 ewq44
  obtain ⟨ho, hp⟩ := hp
  obtain ⟨hoq44, hp⟩ := hp
  obtain ⟨hob43, hp⟩ := hp
  refine lv_dup hx hb dX9_init_126 rfl ?_
  refine hp_nIN ⟨hx, hb, hml, hown, hts⟩ (k_X0_init l G z w45 _ q44 _ hp) ⟨va_cnB 0 hts gX9_init_X0_init_n72 rfl rfl rfl (ln_X9_init_72 hE) (hts _ wd_X9_init_iiX0) (by decide +kernel) ⟨Nat.le_of_ble_eq_true rfl, Nat.le_of_ble_eq_true rfl⟩, rfl, (hts _ wd_X9_init_imX0_init)⟩ hK h hA hE rfl hl.1 rfl (Nat.le_of_ble_eq_true rfl) dX9_init_127 ⟨Nat.le_of_ble_eq_true rfl, Nat.le_of_ble_eq_true rfl⟩ (fun z w46 H locs hp h => ?_)
  obtain ⟨ho, hp⟩ := hp
  obtain ⟨hoq44, hp⟩ := hp
  obtain ⟨hob43, hp⟩ := hp
  refine hp_aast (t := 1906) (n := 8) (j := 3) (ci := 0) hx hb hK h rfl hob43 (by decide) (fun _ _ _ => rfl) hoq44 (by decide) rfl hp.1 dX9_init_130 (fun H locs z ez h => ?_)
  have hp := hp.2 z ez
  obtain ⟨ho, hp⟩ := hp
  refine lv_iinc (v := 5) (lv' := [(1, .int 5), (0, .ref o)]) hx hb dX9_init_131 hl (k := 0) rfl (by decide) (by decide) rfl (fun ls hl => ?_)
  refine lv_goto (tgt := 109) hx hb dX9_init_134 (by decide) ?_
  refine lv_iload_n hx hb dX9_init_109 rfl (lv_at hl 0 rfl) ?_
  refine lv_aload_n hx hb dX9_init_110 rfl (lv_at hl 1 rfl) ?_
  obtain ⟨b47, eb47, hob47, hp⟩ := hp
  refine hp_get (ci := 9) (v := .ref b47) hx hb hts ix_X9_init_9 hown hK h ho (by decide) rfl 6 (by decide) (hts _ lk_X9_init_38) (fun _ h9 => h9) (by show some (va_rf (zR z 906 o)) = some (Value.ref b47); rw [eb47]; rfl) dX9_init_111 ?_
  refine hp_alen (t := 1906) (n := 8) hx hb hK h 3 rfl hob47 (by decide) (fun _ _ _ => ⟨_, rfl, rfl⟩) (v := 8) (by decide) dX9_init_114 ?_
  refine lv_icmp_ge (tgt := 137) hx hb dX9_init_115 (by decide) (fun hc => absurd hc (by decide)) (fun hc => ?_)
  refine lv_aload_n hx hb dX9_init_118 rfl (lv_at hl 1 rfl) ?_
  refine hp_get (ci := 9) (v := .ref b47) hx hb hts ix_X9_init_9 hown hK h ho (by decide) rfl 6 (by decide) (hts _ lk_X9_init_38) (fun _ h9 => h9) (by show some (va_rf (zR z 906 o)) = some (Value.ref b47); rw [eb47]; rfl) dX9_init_119 ?_
  refine lv_iload_n hx hb dX9_init_122 rfl (lv_at hl 0 rfl) ?_
  refine hp_new (ci := 0) hx hb hts ix_X9_init_0 tyX0 tyX0_ok hown (hts _ wd_X9_init_cl36) (hts _ wd_X9_init_is0) (hts _ wd_X9_init_ii0) hK h hA (by decide) rfl hfs_0 (Nat.le_of_ble_eq_true rfl) (Nat.le_of_ble_eq_true rfl) dX9_init_123 (fun q48 z w49 H hqq48 ezq48 ewq48 h => ?_)
  have hp := hp q48 hqq48 z ezq48 w49 ewq48
  obtain ⟨ho, hp⟩ := hp
  obtain ⟨hoq48, hp⟩ := hp
  obtain ⟨hob47, hp⟩ := hp
  refine lv_dup hx hb dX9_init_126 rfl ?_
  refine hp_nIN ⟨hx, hb, hml, hown, hts⟩ (k_X0_init l G z w49 _ q48 _ hp) ⟨va_cnB 0 hts gX9_init_X0_init_n72 rfl rfl rfl (ln_X9_init_72 hE) (hts _ wd_X9_init_iiX0) (by decide +kernel) ⟨Nat.le_of_ble_eq_true rfl, Nat.le_of_ble_eq_true rfl⟩, rfl, (hts _ wd_X9_init_imX0_init)⟩ hK h hA hE rfl hl.1 rfl (Nat.le_of_ble_eq_true rfl) dX9_init_127 ⟨Nat.le_of_ble_eq_true rfl, Nat.le_of_ble_eq_true rfl⟩ (fun z w50 H locs hp h => ?_)
  obtain ⟨ho, hp⟩ := hp
  obtain ⟨hoq48, hp⟩ := hp
  obtain ⟨hob47, hp⟩ := hp
  refine hp_aast (t := 1906) (n := 8) (j := 3) (ci := 0) hx hb hK h rfl hob47 (by decide) (fun _ _ _ => rfl) hoq48 (by decide) rfl hp.1 dX9_init_130 (fun H locs z ez h => ?_)
  have hp := hp.2 z ez
  obtain ⟨ho, hp⟩ := hp
  refine lv_iinc (v := 6) (lv' := [(1, .int 6), (0, .ref o)]) hx hb dX9_init_131 hl (k := 0) rfl (by decide) (by decide) rfl (fun ls hl => ?_)
  refine lv_goto (tgt := 109) hx hb dX9_init_134 (by decide) ?_
  refine lv_iload_n hx hb dX9_init_109 rfl (lv_at hl 0 rfl) ?_
  refine lv_aload_n hx hb dX9_init_110 rfl (lv_at hl 1 rfl) ?_
  obtain ⟨b51, eb51, hob51, hp⟩ := hp
  refine hp_get (ci := 9) (v := .ref b51) hx hb hts ix_X9_init_9 hown hK h ho (by decide) rfl 6 (by decide) (hts _ lk_X9_init_38) (fun _ h9 => h9) (by show some (va_rf (zR z 906 o)) = some (Value.ref b51); rw [eb51]; rfl) dX9_init_111 ?_
  refine hp_alen (t := 1906) (n := 8) hx hb hK h 3 rfl hob51 (by decide) (fun _ _ _ => ⟨_, rfl, rfl⟩) (v := 8) (by decide) dX9_init_114 ?_
  refine lv_icmp_ge (tgt := 137) hx hb dX9_init_115 (by decide) (fun hc => absurd hc (by decide)) (fun hc => ?_)
  refine lv_aload_n hx hb dX9_init_118 rfl (lv_at hl 1 rfl) ?_
  refine hp_get (ci := 9) (v := .ref b51) hx hb hts ix_X9_init_9 hown hK h ho (by decide) rfl 6 (by decide) (hts _ lk_X9_init_38) (fun _ h9 => h9) (by show some (va_rf (zR z 906 o)) = some (Value.ref b51); rw [eb51]; rfl) dX9_init_119 ?_
  refine lv_iload_n hx hb dX9_init_122 rfl (lv_at hl 0 rfl) ?_
  refine hp_new (ci := 0) hx hb hts ix_X9_init_0 tyX0 tyX0_ok hown (hts _ wd_X9_init_cl36) (hts _ wd_X9_init_is0) (hts _ wd_X9_init_ii0) hK h hA (by decide) rfl hfs_0 (Nat.le_of_ble_eq_true rfl) (Nat.le_of_ble_eq_true rfl) dX9_init_123 (fun q52 z w53 H hqq52 ezq52 ewq52 h => ?_)
  have hp := hp q52 hqq52 z ezq52 w53 ewq52
  obtain ⟨ho, hp⟩ := hp
  obtain ⟨hoq52, hp⟩ := hp
  obtain ⟨hob51, hp⟩ := hp
  refine lv_dup hx hb dX9_init_126 rfl ?_
  refine hp_nIN ⟨hx, hb, hml, hown, hts⟩ (k_X0_init l G z w53 _ q52 _ hp) ⟨va_cnB 0 hts gX9_init_X0_init_n72 rfl rfl rfl (ln_X9_init_72 hE) (hts _ wd_X9_init_iiX0) (by decide +kernel) ⟨Nat.le_of_ble_eq_true rfl, Nat.le_of_ble_eq_true rfl⟩, rfl, (hts _ wd_X9_init_imX0_init)⟩ hK h hA hE rfl hl.1 rfl (Nat.le_of_ble_eq_true rfl) dX9_init_127 ⟨Nat.le_of_ble_eq_true rfl, Nat.le_of_ble_eq_true rfl⟩ (fun z w54 H locs hp h => ?_)
  obtain ⟨ho, hp⟩ := hp
  obtain ⟨hoq52, hp⟩ := hp
  obtain ⟨hob51, hp⟩ := hp
  refine hp_aast (t := 1906) (n := 8) (j := 3) (ci := 0) hx hb hK h rfl hob51 (by decide) (fun _ _ _ => rfl) hoq52 (by decide) rfl hp.1 dX9_init_130 (fun H locs z ez h => ?_)
  have hp := hp.2 z ez
  obtain ⟨ho, hp⟩ := hp
  refine lv_iinc (v := 7) (lv' := [(1, .int 7), (0, .ref o)]) hx hb dX9_init_131 hl (k := 0) rfl (by decide) (by decide) rfl (fun ls hl => ?_)
  refine lv_goto (tgt := 109) hx hb dX9_init_134 (by decide) ?_
  refine lv_iload_n hx hb dX9_init_109 rfl (lv_at hl 0 rfl) ?_
  refine lv_aload_n hx hb dX9_init_110 rfl (lv_at hl 1 rfl) ?_
  obtain ⟨b55, eb55, hob55, hp⟩ := hp
  refine hp_get (ci := 9) (v := .ref b55) hx hb hts ix_X9_init_9 hown hK h ho (by decide) rfl 6 (by decide) (hts _ lk_X9_init_38) (fun _ h9 => h9) (by show some (va_rf (zR z 906 o)) = some (Value.ref b55); rw [eb55]; rfl) dX9_init_111 ?_
  refine hp_alen (t := 1906) (n := 8) hx hb hK h 3 rfl hob55 (by decide) (fun _ _ _ => ⟨_, rfl, rfl⟩) (v := 8) (by decide) dX9_init_114 ?_
  refine lv_icmp_ge (tgt := 137) hx hb dX9_init_115 (by decide) (fun hc => absurd hc (by decide)) (fun hc => ?_)
  refine lv_aload_n hx hb dX9_init_118 rfl (lv_at hl 1 rfl) ?_
  refine hp_get (ci := 9) (v := .ref b55) hx hb hts ix_X9_init_9 hown hK h ho (by decide) rfl 6 (by decide) (hts _ lk_X9_init_38) (fun _ h9 => h9) (by show some (va_rf (zR z 906 o)) = some (Value.ref b55); rw [eb55]; rfl) dX9_init_119 ?_
  refine lv_iload_n hx hb dX9_init_122 rfl (lv_at hl 0 rfl) ?_
  refine hp_new (ci := 0) hx hb hts ix_X9_init_0 tyX0 tyX0_ok hown (hts _ wd_X9_init_cl36) (hts _ wd_X9_init_is0) (hts _ wd_X9_init_ii0) hK h hA (by decide) rfl hfs_0 (Nat.le_of_ble_eq_true rfl) (Nat.le_of_ble_eq_true rfl) dX9_init_123 (fun q56 z w57 H hqq56 ezq56 ewq56 h => ?_)
  have hp := hp q56 hqq56 z ezq56 w57 ewq56
  obtain ⟨ho, hp⟩ := hp
  obtain ⟨hoq56, hp⟩ := hp
  obtain ⟨hob55, hp⟩ := hp
  refine lv_dup hx hb dX9_init_126 rfl ?_
  refine hp_nIN ⟨hx, hb, hml, hown, hts⟩ (k_X0_init l G z w57 _ q56 _ hp) ⟨va_cnB 0 hts gX9_init_X0_init_n72 rfl rfl rfl (ln_X9_init_72 hE) (hts _ wd_X9_init_iiX0) (by decide +kernel) ⟨Nat.le_of_ble_eq_true rfl, Nat.le_of_ble_eq_true rfl⟩, rfl, (hts _ wd_X9_init_imX0_init)⟩ hK h hA hE rfl hl.1 rfl (Nat.le_of_ble_eq_true rfl) dX9_init_127 ⟨Nat.le_of_ble_eq_true rfl, Nat.le_of_ble_eq_true rfl⟩ (fun z w58 H locs hp h => ?_)
  obtain ⟨ho, hp⟩ := hp
  obtain ⟨hoq56, hp⟩ := hp
  obtain ⟨hob55, hp⟩ := hp
  refine hp_aast (t := 1906) (n := 8) (j := 3) (ci := 0) hx hb hK h rfl hob55 (by decide) (fun _ _ _ => rfl) hoq56 (by decide) rfl hp.1 dX9_init_130 (fun H locs z ez h => ?_)
  have hp := hp.2 z ez
  obtain ⟨ho, hp⟩ := hp
  refine lv_iinc (v := 8) (lv' := [(1, .int 8), (0, .ref o)]) hx hb dX9_init_131 hl (k := 0) rfl (by decide) (by decide) rfl (fun ls hl => ?_)
  refine lv_goto (tgt := 109) hx hb dX9_init_134 (by decide) ?_
  refine lv_iload_n hx hb dX9_init_109 rfl (lv_at hl 0 rfl) ?_
  refine lv_aload_n hx hb dX9_init_110 rfl (lv_at hl 1 rfl) ?_
  obtain ⟨b59, eb59, hob59, hp⟩ := hp
  refine hp_get (ci := 9) (v := .ref b59) hx hb hts ix_X9_init_9 hown hK h ho (by decide) rfl 6 (by decide) (hts _ lk_X9_init_38) (fun _ h9 => h9) (by show some (va_rf (zR z 906 o)) = some (Value.ref b59); rw [eb59]; rfl) dX9_init_111 ?_
  refine hp_alen (t := 1906) (n := 8) hx hb hK h 3 rfl hob59 (by decide) (fun _ _ _ => ⟨_, rfl, rfl⟩) (v := 8) (by decide) dX9_init_114 ?_
  refine lv_icmp_ge (tgt := 137) hx hb dX9_init_115 (by decide) (fun hc => ?_) (fun hc => absurd hc (by decide))
  exact hp_nvret hx hb hr hlocks hK h hp dX9_init_137 (Nat.le_of_ble_eq_true rfl) (Nat.le_of_ble_eq_true rfl)
abbrev rmX10_init : Room := { frames := 1, cells := 36, slots := 13047, locals := 12 }
theorem wd_X10_init_oi1 : Cond.methodLink RX10 1 objectInit ∈ wsX10_init := by decide +kernel
theorem wd_X10_init_oii : Cond.instanceMethod objectInit ∈ wsX10_init := by decide +kernel
theorem wd_X10_init_oic : Cond.code objectInit ⟨#[0xb1]⟩ 1 none ∈ wsX10_init := by decide +kernel
theorem wd_X10_init_acint : Cond.arrayClass .int ∈ wsX10_init := by decide +kernel
theorem ix_X10_init_10 : ∀ w ∈ wsX100, w ∈ wsX10_init := by decide +kernel
theorem lk_X10_init_9 : Cond.fieldLink RX10 9 "KelpShoresModel" "depth" "[I" ∈ wsX10_init := by decide +kernel
theorem lk_X10_init_13 : Cond.fieldLink RX10 13 "KelpShoresModel" "room" "[I" ∈ wsX10_init := by decide +kernel
theorem lk_X10_init_16 : Cond.fieldLink RX10 16 "KelpShoresModel" "weed" "[I" ∈ wsX10_init := by decide +kernel
theorem lk_X10_init_19 : Cond.fieldLink RX10 19 "KelpShoresModel" "cutYear" "[I" ∈ wsX10_init := by decide +kernel
theorem lk_X10_init_22 : Cond.fieldLink RX10 22 "KelpShoresModel" "grew" "[I" ∈ wsX10_init := by decide +kernel
theorem lk_X10_init_25 : Cond.fieldLink RX10 25 "KelpShoresModel" "cut" "[I" ∈ wsX10_init := by decide +kernel
theorem lk_X10_init_28 : Cond.fieldLink RX10 28 "KelpShoresModel" "torn" "[I" ∈ wsX10_init := by decide +kernel
theorem lk_X10_init_31 : Cond.fieldLink RX10 31 "KelpShoresModel" "cutBy" "[I" ∈ wsX10_init := by decide +kernel
theorem lk_X10_init_34 : Cond.fieldLink RX10 34 "KelpShoresModel" "cutOn" "[I" ∈ wsX10_init := by decide +kernel
theorem lk_X10_init_37 : Cond.fieldLink RX10 37 "KelpShoresModel" "rocks" "[I" ∈ wsX10_init := by decide +kernel
theorem lk_X10_init_40 : Cond.fieldLink RX10 40 "KelpShoresModel" "cast" "[I" ∈ wsX10_init := by decide +kernel
theorem lk_X10_init_43 : Cond.fieldLink RX10 43 "KelpShoresModel" "hands" "[I" ∈ wsX10_init := by decide +kernel
theorem lk_X10_init_46 : Cond.fieldLink RX10 46 "KelpShoresModel" "wet" "[I" ∈ wsX10_init := by decide +kernel
theorem lk_X10_init_49 : Cond.fieldLink RX10 49 "KelpShoresModel" "dry" "[I" ∈ wsX10_init := by decide +kernel
theorem lk_X10_init_52 : Cond.fieldLink RX10 52 "KelpShoresModel" "ash" "[I" ∈ wsX10_init := by decide +kernel
theorem lk_X10_init_55 : Cond.fieldLink RX10 55 "KelpShoresModel" "work" "[I" ∈ wsX10_init := by decide +kernel
theorem lk_X10_init_58 : Cond.fieldLink RX10 58 "KelpShoresModel" "spoilt" "[I" ∈ wsX10_init := by decide +kernel
theorem lk_X10_init_61 : Cond.fieldLink RX10 61 "KelpShoresModel" "lost" "[I" ∈ wsX10_init := by decide +kernel
theorem lk_X10_init_64 : Cond.fieldLink RX10 64 "KelpShoresModel" "owed" "[I" ∈ wsX10_init := by decide +kernel
theorem lk_X10_init_67 : Cond.fieldLink RX10 67 "KelpShoresModel" "pitOf" "[I" ∈ wsX10_init := by decide +kernel
theorem lk_X10_init_70 : Cond.fieldLink RX10 70 "KelpShoresModel" "load" "[I" ∈ wsX10_init := by decide +kernel
theorem lk_X10_init_73 : Cond.fieldLink RX10 73 "KelpShoresModel" "left" "[I" ∈ wsX10_init := by decide +kernel
theorem lk_X10_init_76 : Cond.fieldLink RX10 76 "KelpShoresModel" "part" "[I" ∈ wsX10_init := by decide +kernel
theorem lk_X10_init_79 : Cond.fieldLink RX10 79 "KelpShoresModel" "draft" "[I" ∈ wsX10_init := by decide +kernel
theorem lk_X10_init_82 : Cond.fieldLink RX10 82 "KelpShoresModel" "rest" "I" ∈ wsX10_init := by decide +kernel
theorem wd_X10_init_acbyte : Cond.arrayClass .byte ∈ wsX10_init := by decide +kernel
theorem lk_X10_init_86 : Cond.fieldLink RX10 86 "KelpShoresModel" "tape" "[B" ∈ wsX10_init := by decide +kernel
theorem lk_X10_init_90 : Cond.fieldLink RX10 90 "KelpShoresModel" "faultAt" "I" ∈ wsX10_init := by decide +kernel
theorem lk_X10_init_93 : Cond.fieldLink RX10 93 "KelpShoresModel" "five" "[I" ∈ wsX10_init := by decide +kernel
theorem lk_X10_init_96 : Cond.fieldLink RX10 96 "KelpShoresModel" "lot" "[I" ∈ wsX10_init := by decide +kernel
theorem lk_X10_init_99 : Cond.fieldLink RX10 99 "KelpShoresModel" "eFamily" "[I" ∈ wsX10_init := by decide +kernel
theorem lk_X10_init_102 : Cond.fieldLink RX10 102 "KelpShoresModel" "eMoney" "[I" ∈ wsX10_init := by decide +kernel
theorem lk_X10_init_105 : Cond.fieldLink RX10 105 "KelpShoresModel" "eDay" "[I" ∈ wsX10_init := by decide +kernel
theorem lk_X10_init_108 : Cond.fieldLink RX10 108 "KelpShoresModel" "eTold" "[I" ∈ wsX10_init := by decide +kernel
theorem lk_X10_init_111 : Cond.fieldLink RX10 111 "KelpShoresModel" "eBack" "[I" ∈ wsX10_init := by decide +kernel
theorem wd_X10_init_acboolean : Cond.arrayClass .boolean ∈ wsX10_init := by decide +kernel
theorem lk_X10_init_114 : Cond.fieldLink RX10 114 "KelpShoresModel" "isLow" "[Z" ∈ wsX10_init := by decide +kernel
theorem lk_X10_init_118 : Cond.fieldLink RX10 118 "KelpShoresModel" "isWindy" "[Z" ∈ wsX10_init := by decide +kernel
theorem lk_X10_init_121 : Cond.fieldLink RX10 121 "KelpShoresModel" "isRainy" "[Z" ∈ wsX10_init := by decide +kernel
theorem lk_X10_init_124 : Cond.fieldLink RX10 124 "KelpShoresModel" "most" "[I" ∈ wsX10_init := by decide +kernel
set_option maxRecDepth 100000 in
def wp_X10_init (z : Zt) (o : Nat) (w : Vt) (K : Zt → Vt → Prop) : Prop := isO z 10 o ∧ ∀ q1 : Nat, q1 ∉ z.2.1 → wZ (nZ z q1 2003) (fun z => ∀ w2 : Vt, w2 = nV w q1 → isO z 10 o ∧ isO z 2003 q1 ∧ wZ (uR z 1003 o (some q1)) (fun z => isO z 10 o ∧ ∀ q3 : Nat, q3 ∉ z.2.1 → wZ (nZ z q3 2004) (fun z => ∀ w4 : Vt, w4 = nV w2 q3 → isO z 10 o ∧ isO z 2004 q3 ∧ wZ (uR z 1004 o (some q3)) (fun z => isO z 10 o ∧ ∀ q5 : Nat, q5 ∉ z.2.1 → wZ (nZ z q5 2005) (fun z => ∀ w6 : Vt, w6 = nV w4 q5 → isO z 10 o ∧ isO z 2005 q5 ∧ wZ (uR z 1005 o (some q5)) (fun z => isO z 10 o ∧ ∀ q7 : Nat, q7 ∉ z.2.1 → wZ (nZ z q7 2006) (fun z => ∀ w8 : Vt, w8 = nV w6 q7 → isO z 10 o ∧ isO z 2006 q7 ∧ wZ (uR z 1006 o (some q7)) (fun z => isO z 10 o ∧ ∀ q9 : Nat, q9 ∉ z.2.1 → wZ (nZ z q9 2007) (fun z => ∀ w10 : Vt, w10 = nV w8 q9 → isO z 10 o ∧ isO z 2007 q9 ∧ wZ (uR z 1007 o (some q9)) (fun z => isO z 10 o ∧ ∀ q11 : Nat, q11 ∉ z.2.1 → wZ (nZ z q11 2008) (fun z => ∀ w12 : Vt, w12 = nV w10 q11 → isO z 10 o ∧ isO z 2008 q11 ∧ wZ (uR z 1008 o (some q11)) (fun z => isO z 10 o ∧ ∀ q13 : Nat, q13 ∉ z.2.1 → wZ (nZ z q13 2009) (fun z => ∀ w14 : Vt, w14 = nV w12 q13 → isO z 10 o ∧ isO z 2009 q13 ∧ wZ (uR z 1009 o (some q13)) (fun z => isO z 10 o ∧ ∀ q15 : Nat, q15 ∉ z.2.1 → wZ (nZ z q15 2010) (fun z => ∀ w16 : Vt, w16 = nV w14 q15 → isO z 10 o ∧ isO z 2010 q15 ∧ wZ (uR z 1010 o (some q15)) (fun z => isO z 10 o ∧ ∀ q17 : Nat, q17 ∉ z.2.1 → wZ (nZ z q17 2011) (fun z => ∀ w18 : Vt, w18 = nV w16 q17 → isO z 10 o ∧ isO z 2011 q17 ∧ wZ (uR z 1011 o (some q17)) (fun z => isO z 10 o ∧ ∀ q19 : Nat, q19 ∉ z.2.1 → wZ (nZ z q19 2012) (fun z => ∀ w20 : Vt, w20 = nV w18 q19 → isO z 10 o ∧ isO z 2012 q19 ∧ wZ (uR z 1012 o (some q19)) (fun z => isO z 10 o ∧ ∀ q21 : Nat, q21 ∉ z.2.1 → wZ (nZ z q21 2013) (fun z => ∀ w22 : Vt, w22 = nV w20 q21 → isO z 10 o ∧ isO z 2013 q21 ∧ wZ (uR z 1013 o (some q21)) (fun z => isO z 10 o ∧ ∀ q23 : Nat, q23 ∉ z.2.1 → wZ (nZ z q23 2015) (fun z => ∀ w24 : Vt, w24 = nV w22 q23 → isO z 10 o ∧ isO z 2015 q23 ∧ vp_in 0 8 ∧ ∀ w25 : Vt, w25 = uA w24 2015 q23 (0 : Int32).toNatClampNeg 4 → vp_in 1 8 ∧ ∀ w26 : Vt, w26 = uA w25 2015 q23 (1 : Int32).toNatClampNeg 4 → vp_in 2 8 ∧ ∀ w27 : Vt, w27 = uA w26 2015 q23 (2 : Int32).toNatClampNeg 4 → vp_in 3 8 ∧ ∀ w28 : Vt, w28 = uA w27 2015 q23 (3 : Int32).toNatClampNeg 4 → vp_in 4 8 ∧ ∀ w29 : Vt, w29 = uA w28 2015 q23 (4 : Int32).toNatClampNeg 4 → vp_in 5 8 ∧ ∀ w30 : Vt, w30 = uA w29 2015 q23 (5 : Int32).toNatClampNeg 4 → vp_in 6 8 ∧ ∀ w31 : Vt, w31 = uA w30 2015 q23 (6 : Int32).toNatClampNeg 4 → vp_in 7 8 ∧ ∀ w32 : Vt, w32 = uA w31 2015 q23 (7 : Int32).toNatClampNeg 4 → wZ (uR z 1015 o (some q23)) (fun z => isO z 10 o ∧ ∀ q33 : Nat, q33 ∉ z.2.1 → wZ (nZ z q33 2016) (fun z => ∀ w34 : Vt, w34 = nV w32 q33 → isO z 10 o ∧ isO z 2016 q33 ∧ wZ (uR z 1016 o (some q33)) (fun z => isO z 10 o ∧ ∀ q35 : Nat, q35 ∉ z.2.1 → wZ (nZ z q35 2017) (fun z => ∀ w36 : Vt, w36 = nV w34 q35 → isO z 10 o ∧ isO z 2017 q35 ∧ wZ (uR z 1017 o (some q35)) (fun z => isO z 10 o ∧ ∀ q37 : Nat, q37 ∉ z.2.1 → wZ (nZ z q37 2018) (fun z => ∀ w38 : Vt, w38 = nV w36 q37 → isO z 10 o ∧ isO z 2018 q37 ∧ wZ (uR z 1018 o (some q37)) (fun z => isO z 10 o ∧ ∀ q39 : Nat, q39 ∉ z.2.1 → wZ (nZ z q39 2019) (fun z => ∀ w40 : Vt, w40 = nV w38 q39 → isO z 10 o ∧ isO z 2019 q39 ∧ wZ (uR z 1019 o (some q39)) (fun z => isO z 10 o ∧ ∀ q41 : Nat, q41 ∉ z.2.1 → wZ (nZ z q41 2020) (fun z => ∀ w42 : Vt, w42 = nV w40 q41 → isO z 10 o ∧ isO z 2020 q41 ∧ wZ (uR z 1020 o (some q41)) (fun z => isO z 10 o ∧ ∀ q43 : Nat, q43 ∉ z.2.1 → wZ (nZ z q43 2021) (fun z => ∀ w44 : Vt, w44 = nV w42 q43 → isO z 10 o ∧ isO z 2021 q43 ∧ wZ (uR z 1021 o (some q43)) (fun z => isO z 10 o ∧ ∀ q45 : Nat, q45 ∉ z.2.1 → wZ (nZ z q45 2022) (fun z => ∀ w46 : Vt, w46 = nV w44 q45 → isO z 10 o ∧ isO z 2022 q45 ∧ wZ (uR z 1022 o (some q45)) (fun z => isO z 10 o ∧ ∀ q47 : Nat, q47 ∉ z.2.1 → wZ (nZ z q47 2023) (fun z => ∀ w48 : Vt, w48 = nV w46 q47 → isO z 10 o ∧ isO z 2023 q47 ∧ wZ (uR z 1023 o (some q47)) (fun z => isO z 10 o ∧ ∀ q49 : Nat, q49 ∉ z.2.1 → wZ (nZ z q49 2024) (fun z => ∀ w50 : Vt, w50 = nV w48 q49 → isO z 10 o ∧ isO z 2024 q49 ∧ wZ (uR z 1024 o (some q49)) (fun z => isO z 10 o ∧ ∀ q51 : Nat, q51 ∉ z.2.1 → wZ (nZ z q51 2025) (fun z => ∀ w52 : Vt, w52 = nV w50 q51 → isO z 10 o ∧ isO z 2025 q51 ∧ wZ (uR z 1025 o (some q51)) (fun z => isO z 10 o ∧ ∀ q53 : Nat, q53 ∉ z.2.1 → wZ (nZ z q53 2027) (fun z => ∀ w54 : Vt, w54 = nV w52 q53 → isO z 10 o ∧ isO z 2027 q53 ∧ wZ (uR z 1027 o (some q53)) (fun z => isO z 10 o ∧ ∀ q55 : Nat, q55 ∉ z.2.1 → wZ (nZ z q55 2028) (fun z => ∀ w56 : Vt, w56 = nV w54 q55 → isO z 10 o ∧ isO z 2028 q55 ∧ wZ (uR z 1028 o (some q55)) (fun z => isO z 10 o ∧ ∀ w57 : Vt, w57 = uI w56 1031 o 2 → ∀ q58 : Nat, q58 ∉ z.2.1 → wZ (nZ z q58 2033) (fun z => ∀ w59 : Vt, w59 = nV w57 q58 → isO z 10 o ∧ isO z 2033 q58 ∧ wZ (uR z 1033 o (some q58)) (fun z => isO z 10 o ∧ ∀ w60 : Vt, w60 = uI w59 1038 o (-1) → ∀ q61 : Nat, q61 ∉ z.2.1 → wZ (nZ z q61 2039) (fun z => ∀ w62 : Vt, w62 = nV w60 q61 → isO z 10 o ∧ isO z 2039 q61 ∧ wZ (uR z 1039 o (some q61)) (fun z => isO z 10 o ∧ ∀ q63 : Nat, q63 ∉ z.2.1 → wZ (nZ z q63 2040) (fun z => ∀ w64 : Vt, w64 = nV w62 q63 → isO z 10 o ∧ isO z 2040 q63 ∧ wZ (uR z 1040 o (some q63)) (fun z => isO z 10 o ∧ ∀ q65 : Nat, q65 ∉ z.2.1 → wZ (nZ z q65 2042) (fun z => ∀ w66 : Vt, w66 = nV w64 q65 → isO z 10 o ∧ isO z 2042 q65 ∧ wZ (uR z 1042 o (some q65)) (fun z => isO z 10 o ∧ ∀ q67 : Nat, q67 ∉ z.2.1 → wZ (nZ z q67 2043) (fun z => ∀ w68 : Vt, w68 = nV w66 q67 → isO z 10 o ∧ isO z 2043 q67 ∧ wZ (uR z 1043 o (some q67)) (fun z => isO z 10 o ∧ ∀ q69 : Nat, q69 ∉ z.2.1 → wZ (nZ z q69 2044) (fun z => ∀ w70 : Vt, w70 = nV w68 q69 → isO z 10 o ∧ isO z 2044 q69 ∧ wZ (uR z 1044 o (some q69)) (fun z => isO z 10 o ∧ ∀ q71 : Nat, q71 ∉ z.2.1 → wZ (nZ z q71 2045) (fun z => ∀ w72 : Vt, w72 = nV w70 q71 → isO z 10 o ∧ isO z 2045 q71 ∧ wZ (uR z 1045 o (some q71)) (fun z => isO z 10 o ∧ ∀ q73 : Nat, q73 ∉ z.2.1 → wZ (nZ z q73 2046) (fun z => ∀ w74 : Vt, w74 = nV w72 q73 → isO z 10 o ∧ isO z 2046 q73 ∧ wZ (uR z 1046 o (some q73)) (fun z => isO z 10 o ∧ ∀ q75 : Nat, q75 ∉ z.2.1 → wZ (nZ z q75 2048) (fun z => ∀ w76 : Vt, w76 = nV w74 q75 → isO z 10 o ∧ isO z 2048 q75 ∧ wZ (uR z 1048 o (some q75)) (fun z => isO z 10 o ∧ ∀ q77 : Nat, q77 ∉ z.2.1 → wZ (nZ z q77 2049) (fun z => ∀ w78 : Vt, w78 = nV w76 q77 → isO z 10 o ∧ isO z 2049 q77 ∧ wZ (uR z 1049 o (some q77)) (fun z => isO z 10 o ∧ ∀ q79 : Nat, q79 ∉ z.2.1 → wZ (nZ z q79 2050) (fun z => ∀ w80 : Vt, w80 = nV w78 q79 → isO z 10 o ∧ isO z 2050 q79 ∧ wZ (uR z 1050 o (some q79)) (fun z => isO z 10 o ∧ ∀ q81 : Nat, q81 ∉ z.2.1 → wZ (nZ z q81 2052) (fun z => ∀ w82 : Vt, w82 = nV w80 q81 → isO z 10 o ∧ isO z 2052 q81 ∧ wZ (uR z 1052 o (some q81)) (fun z => isO z 10 o ∧ K z w82))))))))))))))))))))))))))))))))))))))))))))))))))))))))))))))))))))))))
set_option maxHeartbeats 4000000 in
set_option maxRecDepth 100000 in
theorem k_X10_init (l : Launch) (G : Gt) (z : Zt) (w : Vt) (sz : Nat) (o : Nat) (K : Zt → Vt → Prop) (hp : wp_X10_init z o w K) : NV l yX10_init wsX10_init rmX10_init G z w sz [.ref o] K 36 13047 := by
  refine Met.ofW (cc := cX10_init) (maxL := 1) (ret := none) (by decide +kernel) rfl ?_
  intro p e s m args below meth c s₁ B hml hv
  obtain ⟨rfl, rfl, C, h⟩ := hp_start B hml hv
  generalize gA G z w s.heap.size = A at C h ⊢
  obtain ⟨hx, hb, hr, hlocks, hml, hown, hts, hK, hA, hE⟩ := id C
  have hmn : meth.name = "<init>" := (name_of_methodNamed B.named B.method).1
  obtain ⟨ho, hp⟩ := hp
  have hl := lv_entry ([.ref o]) (n := 1) (Nat.le_of_ble_eq_true rfl)
  rw [lg_entry_eq]
  generalize (lg_sl ([.ref o]) ++ List.replicate (1 - (lg_sl ([.ref o])).length) Slot.unset).toArray = ls at hl ⊢
  have hl : lv_has ls 1 [(0, .ref o)] := hl
  refine lv_aload_n hx hb dX10_init_0 rfl (lv_at hl 0 rfl) ?_
  refine W.objInit hx hb hown (hts _ wd_X10_init_oi1) (hts _ wd_X10_init_oii) (hts _ wd_X10_init_oic) rfl (by rw [hml]; exact hl.1) rfl dX10_init_1 (Nat.le_of_ble_eq_true rfl) (Nat.le_of_ble_eq_true rfl) ?_
  refine W.eq (g2 := F0 m 4 ls []) rfl ?_
  refine lv_aload_n hx hb dX10_init_4 rfl (lv_at hl 0 rfl) ?_
  refine lv_bipush (v := 24) hx hb dX10_init_5 (by decide) ?_
  refine hp_newa (atype := .int) (ty := .int) hx hb (hts _ wd_X10_init_acint) rfl 2003 1 rfl (fun _ h9 => h9) hK h hA (fun _ => rfl) (by decide) rfl (by decide) (by decide) (by decide) (Nat.le_of_ble_eq_true rfl) (Nat.le_of_ble_eq_true rfl) dX10_init_7 (fun q1 z w2 H hqq1 ezq1 ewq1 h => ?_)
  have hp := hp q1 hqq1 z ezq1 w2 ewq1
  obtain ⟨ho, hp⟩ := hp
  obtain ⟨hoq1, hp⟩ := hp
  refine hp_putrF (ci := 10) (ty := .array .int) (b := q1) hx hb hts ix_X10_init_10 tyX10 tyX10_ok nmX10 hown hK h ho (by decide) rfl 3 1003 (by decide) (hts _ lk_X10_init_9) (fun _ h9 => h9) rfl hmn rfl (by decide +kernel) rfl rfl (fun _ _ => rfl) (fun _ _ => Nat.le_of_ble_eq_true rfl) dX10_init_9 (fun H locs z ez h => ?_)
  have hp := hp z ez
  obtain ⟨ho, hp⟩ := hp
  refine lv_aload_n hx hb dX10_init_12 rfl (lv_at hl 0 rfl) ?_
  refine lv_bipush (v := 24) hx hb dX10_init_13 (by decide) ?_
  refine hp_newa (atype := .int) (ty := .int) hx hb (hts _ wd_X10_init_acint) rfl 2004 1 rfl (fun _ h9 => h9) hK h hA (fun _ => rfl) (by decide) rfl (by decide) (by decide) (by decide) (Nat.le_of_ble_eq_true rfl) (Nat.le_of_ble_eq_true rfl) dX10_init_15 (fun q3 z w4 H hqq3 ezq3 ewq3 h => ?_)
  have hp := hp q3 hqq3 z ezq3 w4 ewq3
  obtain ⟨ho, hp⟩ := hp
  obtain ⟨hoq3, hp⟩ := hp
  refine hp_putrF (ci := 10) (ty := .array .int) (b := q3) hx hb hts ix_X10_init_10 tyX10 tyX10_ok nmX10 hown hK h ho (by decide) rfl 4 1004 (by decide) (hts _ lk_X10_init_13) (fun _ h9 => h9) rfl hmn rfl (by decide +kernel) rfl rfl (fun _ _ => rfl) (fun _ _ => Nat.le_of_ble_eq_true rfl) dX10_init_17 (fun H locs z ez h => ?_)
  have hp := hp z ez
  obtain ⟨ho, hp⟩ := hp
  refine lv_aload_n hx hb dX10_init_20 rfl (lv_at hl 0 rfl) ?_
  refine lv_bipush (v := 24) hx hb dX10_init_21 (by decide) ?_
  refine hp_newa (atype := .int) (ty := .int) hx hb (hts _ wd_X10_init_acint) rfl 2005 1 rfl (fun _ h9 => h9) hK h hA (fun _ => rfl) (by decide) rfl (by decide) (by decide) (by decide) (Nat.le_of_ble_eq_true rfl) (Nat.le_of_ble_eq_true rfl) dX10_init_23 (fun q5 z w6 H hqq5 ezq5 ewq5 h => ?_)
  have hp := hp q5 hqq5 z ezq5 w6 ewq5
  obtain ⟨ho, hp⟩ := hp
  obtain ⟨hoq5, hp⟩ := hp
  refine hp_putrF (ci := 10) (ty := .array .int) (b := q5) hx hb hts ix_X10_init_10 tyX10 tyX10_ok nmX10 hown hK h ho (by decide) rfl 5 1005 (by decide) (hts _ lk_X10_init_16) (fun _ h9 => h9) rfl hmn rfl (by decide +kernel) rfl rfl (fun _ _ => rfl) (fun _ _ => Nat.le_of_ble_eq_true rfl) dX10_init_25 (fun H locs z ez h => ?_)
  have hp := hp z ez
  obtain ⟨ho, hp⟩ := hp
  refine lv_aload_n hx hb dX10_init_28 rfl (lv_at hl 0 rfl) ?_
  refine lv_bipush (v := 24) hx hb dX10_init_29 (by decide) ?_
  refine hp_newa (atype := .int) (ty := .int) hx hb (hts _ wd_X10_init_acint) rfl 2006 1 rfl (fun _ h9 => h9) hK h hA (fun _ => rfl) (by decide) rfl (by decide) (by decide) (by decide) (Nat.le_of_ble_eq_true rfl) (Nat.le_of_ble_eq_true rfl) dX10_init_31 (fun q7 z w8 H hqq7 ezq7 ewq7 h => ?_)
  have hp := hp q7 hqq7 z ezq7 w8 ewq7
  obtain ⟨ho, hp⟩ := hp
  obtain ⟨hoq7, hp⟩ := hp
  refine hp_putrF (ci := 10) (ty := .array .int) (b := q7) hx hb hts ix_X10_init_10 tyX10 tyX10_ok nmX10 hown hK h ho (by decide) rfl 6 1006 (by decide) (hts _ lk_X10_init_19) (fun _ h9 => h9) rfl hmn rfl (by decide +kernel) rfl rfl (fun _ _ => rfl) (fun _ _ => Nat.le_of_ble_eq_true rfl) dX10_init_33 (fun H locs z ez h => ?_)
  have hp := hp z ez
  obtain ⟨ho, hp⟩ := hp
  refine lv_aload_n hx hb dX10_init_36 rfl (lv_at hl 0 rfl) ?_
  refine lv_bipush (v := 24) hx hb dX10_init_37 (by decide) ?_
  refine hp_newa (atype := .int) (ty := .int) hx hb (hts _ wd_X10_init_acint) rfl 2007 1 rfl (fun _ h9 => h9) hK h hA (fun _ => rfl) (by decide) rfl (by decide) (by decide) (by decide) (Nat.le_of_ble_eq_true rfl) (Nat.le_of_ble_eq_true rfl) dX10_init_39 (fun q9 z w10 H hqq9 ezq9 ewq9 h => ?_)
  have hp := hp q9 hqq9 z ezq9 w10 ewq9
  obtain ⟨ho, hp⟩ := hp
  obtain ⟨hoq9, hp⟩ := hp
  refine hp_putrF (ci := 10) (ty := .array .int) (b := q9) hx hb hts ix_X10_init_10 tyX10 tyX10_ok nmX10 hown hK h ho (by decide) rfl 7 1007 (by decide) (hts _ lk_X10_init_22) (fun _ h9 => h9) rfl hmn rfl (by decide +kernel) rfl rfl (fun _ _ => rfl) (fun _ _ => Nat.le_of_ble_eq_true rfl) dX10_init_41 (fun H locs z ez h => ?_)
  have hp := hp z ez
  obtain ⟨ho, hp⟩ := hp
  refine lv_aload_n hx hb dX10_init_44 rfl (lv_at hl 0 rfl) ?_
  refine lv_bipush (v := 24) hx hb dX10_init_45 (by decide) ?_
  refine hp_newa (atype := .int) (ty := .int) hx hb (hts _ wd_X10_init_acint) rfl 2008 1 rfl (fun _ h9 => h9) hK h hA (fun _ => rfl) (by decide) rfl (by decide) (by decide) (by decide) (Nat.le_of_ble_eq_true rfl) (Nat.le_of_ble_eq_true rfl) dX10_init_47 (fun q11 z w12 H hqq11 ezq11 ewq11 h => ?_)
  have hp := hp q11 hqq11 z ezq11 w12 ewq11
  obtain ⟨ho, hp⟩ := hp
  obtain ⟨hoq11, hp⟩ := hp
  refine hp_putrF (ci := 10) (ty := .array .int) (b := q11) hx hb hts ix_X10_init_10 tyX10 tyX10_ok nmX10 hown hK h ho (by decide) rfl 8 1008 (by decide) (hts _ lk_X10_init_25) (fun _ h9 => h9) rfl hmn rfl (by decide +kernel) rfl rfl (fun _ _ => rfl) (fun _ _ => Nat.le_of_ble_eq_true rfl) dX10_init_49 (fun H locs z ez h => ?_)
  have hp := hp z ez
  obtain ⟨ho, hp⟩ := hp
  refine lv_aload_n hx hb dX10_init_52 rfl (lv_at hl 0 rfl) ?_
  refine lv_bipush (v := 24) hx hb dX10_init_53 (by decide) ?_
  refine hp_newa (atype := .int) (ty := .int) hx hb (hts _ wd_X10_init_acint) rfl 2009 1 rfl (fun _ h9 => h9) hK h hA (fun _ => rfl) (by decide) rfl (by decide) (by decide) (by decide) (Nat.le_of_ble_eq_true rfl) (Nat.le_of_ble_eq_true rfl) dX10_init_55 (fun q13 z w14 H hqq13 ezq13 ewq13 h => ?_)
  have hp := hp q13 hqq13 z ezq13 w14 ewq13
  obtain ⟨ho, hp⟩ := hp
  obtain ⟨hoq13, hp⟩ := hp
  refine hp_putrF (ci := 10) (ty := .array .int) (b := q13) hx hb hts ix_X10_init_10 tyX10 tyX10_ok nmX10 hown hK h ho (by decide) rfl 9 1009 (by decide) (hts _ lk_X10_init_28) (fun _ h9 => h9) rfl hmn rfl (by decide +kernel) rfl rfl (fun _ _ => rfl) (fun _ _ => Nat.le_of_ble_eq_true rfl) dX10_init_57 (fun H locs z ez h => ?_)
  have hp := hp z ez
  obtain ⟨ho, hp⟩ := hp
  refine lv_aload_n hx hb dX10_init_60 rfl (lv_at hl 0 rfl) ?_
  refine lv_bipush (v := 24) hx hb dX10_init_61 (by decide) ?_
  refine hp_newa (atype := .int) (ty := .int) hx hb (hts _ wd_X10_init_acint) rfl 2010 1 rfl (fun _ h9 => h9) hK h hA (fun _ => rfl) (by decide) rfl (by decide) (by decide) (by decide) (Nat.le_of_ble_eq_true rfl) (Nat.le_of_ble_eq_true rfl) dX10_init_63 (fun q15 z w16 H hqq15 ezq15 ewq15 h => ?_)
  have hp := hp q15 hqq15 z ezq15 w16 ewq15
  obtain ⟨ho, hp⟩ := hp
  obtain ⟨hoq15, hp⟩ := hp
  refine hp_putrF (ci := 10) (ty := .array .int) (b := q15) hx hb hts ix_X10_init_10 tyX10 tyX10_ok nmX10 hown hK h ho (by decide) rfl 10 1010 (by decide) (hts _ lk_X10_init_31) (fun _ h9 => h9) rfl hmn rfl (by decide +kernel) rfl rfl (fun _ _ => rfl) (fun _ _ => Nat.le_of_ble_eq_true rfl) dX10_init_65 (fun H locs z ez h => ?_)
  have hp := hp z ez
  obtain ⟨ho, hp⟩ := hp
  refine lv_aload_n hx hb dX10_init_68 rfl (lv_at hl 0 rfl) ?_
  refine lv_bipush (v := 24) hx hb dX10_init_69 (by decide) ?_
  refine hp_newa (atype := .int) (ty := .int) hx hb (hts _ wd_X10_init_acint) rfl 2011 1 rfl (fun _ h9 => h9) hK h hA (fun _ => rfl) (by decide) rfl (by decide) (by decide) (by decide) (Nat.le_of_ble_eq_true rfl) (Nat.le_of_ble_eq_true rfl) dX10_init_71 (fun q17 z w18 H hqq17 ezq17 ewq17 h => ?_)
  have hp := hp q17 hqq17 z ezq17 w18 ewq17
  obtain ⟨ho, hp⟩ := hp
  obtain ⟨hoq17, hp⟩ := hp
  refine hp_putrF (ci := 10) (ty := .array .int) (b := q17) hx hb hts ix_X10_init_10 tyX10 tyX10_ok nmX10 hown hK h ho (by decide) rfl 11 1011 (by decide) (hts _ lk_X10_init_34) (fun _ h9 => h9) rfl hmn rfl (by decide +kernel) rfl rfl (fun _ _ => rfl) (fun _ _ => Nat.le_of_ble_eq_true rfl) dX10_init_73 (fun H locs z ez h => ?_)
  have hp := hp z ez
  obtain ⟨ho, hp⟩ := hp
  refine lv_aload_n hx hb dX10_init_76 rfl (lv_at hl 0 rfl) ?_
  refine lv_bipush (v := 6) hx hb dX10_init_77 (by decide) ?_
  refine hp_newa (atype := .int) (ty := .int) hx hb (hts _ wd_X10_init_acint) rfl 2012 1 rfl (fun _ h9 => h9) hK h hA (fun _ => rfl) (by decide) rfl (by decide) (by decide) (by decide) (Nat.le_of_ble_eq_true rfl) (Nat.le_of_ble_eq_true rfl) dX10_init_79 (fun q19 z w20 H hqq19 ezq19 ewq19 h => ?_)
  have hp := hp q19 hqq19 z ezq19 w20 ewq19
  obtain ⟨ho, hp⟩ := hp
  obtain ⟨hoq19, hp⟩ := hp
  refine hp_putrF (ci := 10) (ty := .array .int) (b := q19) hx hb hts ix_X10_init_10 tyX10 tyX10_ok nmX10 hown hK h ho (by decide) rfl 12 1012 (by decide) (hts _ lk_X10_init_37) (fun _ h9 => h9) rfl hmn rfl (by decide +kernel) rfl rfl (fun _ _ => rfl) (fun _ _ => Nat.le_of_ble_eq_true rfl) dX10_init_81 (fun H locs z ez h => ?_)
  have hp := hp z ez
  obtain ⟨ho, hp⟩ := hp
  refine lv_aload_n hx hb dX10_init_84 rfl (lv_at hl 0 rfl) ?_
  refine lv_bipush (v := 6) hx hb dX10_init_85 (by decide) ?_
  refine hp_newa (atype := .int) (ty := .int) hx hb (hts _ wd_X10_init_acint) rfl 2013 1 rfl (fun _ h9 => h9) hK h hA (fun _ => rfl) (by decide) rfl (by decide) (by decide) (by decide) (Nat.le_of_ble_eq_true rfl) (Nat.le_of_ble_eq_true rfl) dX10_init_87 (fun q21 z w22 H hqq21 ezq21 ewq21 h => ?_)
  have hp := hp q21 hqq21 z ezq21 w22 ewq21
  obtain ⟨ho, hp⟩ := hp
  obtain ⟨hoq21, hp⟩ := hp
  refine hp_putrF (ci := 10) (ty := .array .int) (b := q21) hx hb hts ix_X10_init_10 tyX10 tyX10_ok nmX10 hown hK h ho (by decide) rfl 13 1013 (by decide) (hts _ lk_X10_init_40) (fun _ h9 => h9) rfl hmn rfl (by decide +kernel) rfl rfl (fun _ _ => rfl) (fun _ _ => Nat.le_of_ble_eq_true rfl) dX10_init_89 (fun H locs z ez h => ?_)
  have hp := hp z ez
  obtain ⟨ho, hp⟩ := hp
  refine lv_aload_n hx hb dX10_init_92 rfl (lv_at hl 0 rfl) ?_
  refine lv_bipush (v := 8) hx hb dX10_init_93 (by decide) ?_
  refine hp_newa (atype := .int) (ty := .int) hx hb (hts _ wd_X10_init_acint) rfl 2015 1 rfl (fun _ h9 => h9) hK h hA (fun _ => rfl) (by decide) rfl (by decide) (by decide) (by decide) (Nat.le_of_ble_eq_true rfl) (Nat.le_of_ble_eq_true rfl) dX10_init_95 (fun q23 z w24 H hqq23 ezq23 ewq23 h => ?_)
  have hp := hp q23 hqq23 z ezq23 w24 ewq23
  obtain ⟨ho, hp⟩ := hp
  obtain ⟨hoq23, hp⟩ := hp
  refine lv_dup hx hb dX10_init_97 rfl ?_
  refine lv_iconst (v := 0) hx hb dX10_init_98 (by decide) ?_
  refine lv_iconst (v := 4) hx hb dX10_init_99 (by decide) ?_
  refine hp_iast (t := 2015) (n := 8) hx hb hK h hoq23 (by decide) (fun _ _ _ => rfl) hp.1 dX10_init_100 (fun H locs w25 ew25 h => ?_)
  have hp := hp.2 w25 ew25
  refine lv_dup hx hb dX10_init_101 rfl ?_
  refine lv_iconst (v := 1) hx hb dX10_init_102 (by decide) ?_
  refine lv_iconst (v := 4) hx hb dX10_init_103 (by decide) ?_
  refine hp_iast (t := 2015) (n := 8) hx hb hK h hoq23 (by decide) (fun _ _ _ => rfl) hp.1 dX10_init_104 (fun H locs w26 ew26 h => ?_)
  have hp := hp.2 w26 ew26
  refine lv_dup hx hb dX10_init_105 rfl ?_
  refine lv_iconst (v := 2) hx hb dX10_init_106 (by decide) ?_
  refine lv_iconst (v := 4) hx hb dX10_init_107 (by decide) ?_
  refine hp_iast (t := 2015) (n := 8) hx hb hK h hoq23 (by decide) (fun _ _ _ => rfl) hp.1 dX10_init_108 (fun H locs w27 ew27 h => ?_)
  have hp := hp.2 w27 ew27
  refine lv_dup hx hb dX10_init_109 rfl ?_
  refine lv_iconst (v := 3) hx hb dX10_init_110 (by decide) ?_
  refine lv_iconst (v := 4) hx hb dX10_init_111 (by decide) ?_
  refine hp_iast (t := 2015) (n := 8) hx hb hK h hoq23 (by decide) (fun _ _ _ => rfl) hp.1 dX10_init_112 (fun H locs w28 ew28 h => ?_)
  have hp := hp.2 w28 ew28
  refine lv_dup hx hb dX10_init_113 rfl ?_
  refine lv_iconst (v := 4) hx hb dX10_init_114 (by decide) ?_
  refine lv_iconst (v := 4) hx hb dX10_init_115 (by decide) ?_
  refine hp_iast (t := 2015) (n := 8) hx hb hK h hoq23 (by decide) (fun _ _ _ => rfl) hp.1 dX10_init_116 (fun H locs w29 ew29 h => ?_)
  have hp := hp.2 w29 ew29
  refine lv_dup hx hb dX10_init_117 rfl ?_
  refine lv_iconst (v := 5) hx hb dX10_init_118 (by decide) ?_
  refine lv_iconst (v := 4) hx hb dX10_init_119 (by decide) ?_
  refine hp_iast (t := 2015) (n := 8) hx hb hK h hoq23 (by decide) (fun _ _ _ => rfl) hp.1 dX10_init_120 (fun H locs w30 ew30 h => ?_)
  have hp := hp.2 w30 ew30
  refine lv_dup hx hb dX10_init_121 rfl ?_
  refine lv_bipush (v := 6) hx hb dX10_init_122 (by decide) ?_
  refine lv_iconst (v := 4) hx hb dX10_init_124 (by decide) ?_
  refine hp_iast (t := 2015) (n := 8) hx hb hK h hoq23 (by decide) (fun _ _ _ => rfl) hp.1 dX10_init_125 (fun H locs w31 ew31 h => ?_)
  have hp := hp.2 w31 ew31
  refine lv_dup hx hb dX10_init_126 rfl ?_
  refine lv_bipush (v := 7) hx hb dX10_init_127 (by decide) ?_
  refine lv_iconst (v := 4) hx hb dX10_init_129 (by decide) ?_
  refine hp_iast (t := 2015) (n := 8) hx hb hK h hoq23 (by decide) (fun _ _ _ => rfl) hp.1 dX10_init_130 (fun H locs w32 ew32 h => ?_)
  have hp := hp.2 w32 ew32
  refine hp_putrF (ci := 10) (ty := .array .int) (b := q23) hx hb hts ix_X10_init_10 tyX10 tyX10_ok nmX10 hown hK h ho (by decide) rfl 15 1015 (by decide) (hts _ lk_X10_init_43) (fun _ h9 => h9) rfl hmn rfl (by decide +kernel) rfl rfl (fun _ _ => rfl) (fun _ _ => Nat.le_of_ble_eq_true rfl) dX10_init_131 (fun H locs z ez h => ?_)
  have hp := hp z ez
  obtain ⟨ho, hp⟩ := hp
  refine lv_aload_n hx hb dX10_init_134 rfl (lv_at hl 0 rfl) ?_
  refine lv_bipush (v := 8) hx hb dX10_init_135 (by decide) ?_
  refine hp_newa (atype := .int) (ty := .int) hx hb (hts _ wd_X10_init_acint) rfl 2016 1 rfl (fun _ h9 => h9) hK h hA (fun _ => rfl) (by decide) rfl (by decide) (by decide) (by decide) (Nat.le_of_ble_eq_true rfl) (Nat.le_of_ble_eq_true rfl) dX10_init_137 (fun q33 z w34 H hqq33 ezq33 ewq33 h => ?_)
  have hp := hp q33 hqq33 z ezq33 w34 ewq33
  obtain ⟨ho, hp⟩ := hp
  obtain ⟨hoq33, hp⟩ := hp
  refine hp_putrF (ci := 10) (ty := .array .int) (b := q33) hx hb hts ix_X10_init_10 tyX10 tyX10_ok nmX10 hown hK h ho (by decide) rfl 16 1016 (by decide) (hts _ lk_X10_init_46) (fun _ h9 => h9) rfl hmn rfl (by decide +kernel) rfl rfl (fun _ _ => rfl) (fun _ _ => Nat.le_of_ble_eq_true rfl) dX10_init_139 (fun H locs z ez h => ?_)
  have hp := hp z ez
  obtain ⟨ho, hp⟩ := hp
  refine lv_aload_n hx hb dX10_init_142 rfl (lv_at hl 0 rfl) ?_
  refine lv_bipush (v := 8) hx hb dX10_init_143 (by decide) ?_
  refine hp_newa (atype := .int) (ty := .int) hx hb (hts _ wd_X10_init_acint) rfl 2017 1 rfl (fun _ h9 => h9) hK h hA (fun _ => rfl) (by decide) rfl (by decide) (by decide) (by decide) (Nat.le_of_ble_eq_true rfl) (Nat.le_of_ble_eq_true rfl) dX10_init_145 (fun q35 z w36 H hqq35 ezq35 ewq35 h => ?_)
  have hp := hp q35 hqq35 z ezq35 w36 ewq35
  obtain ⟨ho, hp⟩ := hp
  obtain ⟨hoq35, hp⟩ := hp
  refine hp_putrF (ci := 10) (ty := .array .int) (b := q35) hx hb hts ix_X10_init_10 tyX10 tyX10_ok nmX10 hown hK h ho (by decide) rfl 17 1017 (by decide) (hts _ lk_X10_init_49) (fun _ h9 => h9) rfl hmn rfl (by decide +kernel) rfl rfl (fun _ _ => rfl) (fun _ _ => Nat.le_of_ble_eq_true rfl) dX10_init_147 (fun H locs z ez h => ?_)
  have hp := hp z ez
  obtain ⟨ho, hp⟩ := hp
  refine lv_aload_n hx hb dX10_init_150 rfl (lv_at hl 0 rfl) ?_
  refine lv_bipush (v := 8) hx hb dX10_init_151 (by decide) ?_
  refine hp_newa (atype := .int) (ty := .int) hx hb (hts _ wd_X10_init_acint) rfl 2018 1 rfl (fun _ h9 => h9) hK h hA (fun _ => rfl) (by decide) rfl (by decide) (by decide) (by decide) (Nat.le_of_ble_eq_true rfl) (Nat.le_of_ble_eq_true rfl) dX10_init_153 (fun q37 z w38 H hqq37 ezq37 ewq37 h => ?_)
  have hp := hp q37 hqq37 z ezq37 w38 ewq37
  obtain ⟨ho, hp⟩ := hp
  obtain ⟨hoq37, hp⟩ := hp
  refine hp_putrF (ci := 10) (ty := .array .int) (b := q37) hx hb hts ix_X10_init_10 tyX10 tyX10_ok nmX10 hown hK h ho (by decide) rfl 18 1018 (by decide) (hts _ lk_X10_init_52) (fun _ h9 => h9) rfl hmn rfl (by decide +kernel) rfl rfl (fun _ _ => rfl) (fun _ _ => Nat.le_of_ble_eq_true rfl) dX10_init_155 (fun H locs z ez h => ?_)
  have hp := hp z ez
  obtain ⟨ho, hp⟩ := hp
  refine lv_aload_n hx hb dX10_init_158 rfl (lv_at hl 0 rfl) ?_
  refine lv_bipush (v := 8) hx hb dX10_init_159 (by decide) ?_
  refine hp_newa (atype := .int) (ty := .int) hx hb (hts _ wd_X10_init_acint) rfl 2019 1 rfl (fun _ h9 => h9) hK h hA (fun _ => rfl) (by decide) rfl (by decide) (by decide) (by decide) (Nat.le_of_ble_eq_true rfl) (Nat.le_of_ble_eq_true rfl) dX10_init_161 (fun q39 z w40 H hqq39 ezq39 ewq39 h => ?_)
  have hp := hp q39 hqq39 z ezq39 w40 ewq39
  obtain ⟨ho, hp⟩ := hp
  obtain ⟨hoq39, hp⟩ := hp
  refine hp_putrF (ci := 10) (ty := .array .int) (b := q39) hx hb hts ix_X10_init_10 tyX10 tyX10_ok nmX10 hown hK h ho (by decide) rfl 19 1019 (by decide) (hts _ lk_X10_init_55) (fun _ h9 => h9) rfl hmn rfl (by decide +kernel) rfl rfl (fun _ _ => rfl) (fun _ _ => Nat.le_of_ble_eq_true rfl) dX10_init_163 (fun H locs z ez h => ?_)
  have hp := hp z ez
  obtain ⟨ho, hp⟩ := hp
  refine lv_aload_n hx hb dX10_init_166 rfl (lv_at hl 0 rfl) ?_
  refine lv_bipush (v := 8) hx hb dX10_init_167 (by decide) ?_
  refine hp_newa (atype := .int) (ty := .int) hx hb (hts _ wd_X10_init_acint) rfl 2020 1 rfl (fun _ h9 => h9) hK h hA (fun _ => rfl) (by decide) rfl (by decide) (by decide) (by decide) (Nat.le_of_ble_eq_true rfl) (Nat.le_of_ble_eq_true rfl) dX10_init_169 (fun q41 z w42 H hqq41 ezq41 ewq41 h => ?_)
  have hp := hp q41 hqq41 z ezq41 w42 ewq41
  obtain ⟨ho, hp⟩ := hp
  obtain ⟨hoq41, hp⟩ := hp
  refine hp_putrF (ci := 10) (ty := .array .int) (b := q41) hx hb hts ix_X10_init_10 tyX10 tyX10_ok nmX10 hown hK h ho (by decide) rfl 20 1020 (by decide) (hts _ lk_X10_init_58) (fun _ h9 => h9) rfl hmn rfl (by decide +kernel) rfl rfl (fun _ _ => rfl) (fun _ _ => Nat.le_of_ble_eq_true rfl) dX10_init_171 (fun H locs z ez h => ?_)
  have hp := hp z ez
  obtain ⟨ho, hp⟩ := hp
  refine lv_aload_n hx hb dX10_init_174 rfl (lv_at hl 0 rfl) ?_
  refine lv_bipush (v := 8) hx hb dX10_init_175 (by decide) ?_
  refine hp_newa (atype := .int) (ty := .int) hx hb (hts _ wd_X10_init_acint) rfl 2021 1 rfl (fun _ h9 => h9) hK h hA (fun _ => rfl) (by decide) rfl (by decide) (by decide) (by decide) (Nat.le_of_ble_eq_true rfl) (Nat.le_of_ble_eq_true rfl) dX10_init_177 (fun q43 z w44 H hqq43 ezq43 ewq43 h => ?_)
  have hp := hp q43 hqq43 z ezq43 w44 ewq43
  obtain ⟨ho, hp⟩ := hp
  obtain ⟨hoq43, hp⟩ := hp
  refine hp_putrF (ci := 10) (ty := .array .int) (b := q43) hx hb hts ix_X10_init_10 tyX10 tyX10_ok nmX10 hown hK h ho (by decide) rfl 21 1021 (by decide) (hts _ lk_X10_init_61) (fun _ h9 => h9) rfl hmn rfl (by decide +kernel) rfl rfl (fun _ _ => rfl) (fun _ _ => Nat.le_of_ble_eq_true rfl) dX10_init_179 (fun H locs z ez h => ?_)
  have hp := hp z ez
  obtain ⟨ho, hp⟩ := hp
  refine lv_aload_n hx hb dX10_init_182 rfl (lv_at hl 0 rfl) ?_
  refine lv_sipush (v := 4800) hx hb dX10_init_183 (by decide) ?_
  refine hp_newa (atype := .int) (ty := .int) hx hb (hts _ wd_X10_init_acint) rfl 2022 1 rfl (fun _ h9 => h9) hK h hA (fun _ => rfl) (by decide) rfl (by decide) (by decide) (by decide) (Nat.le_of_ble_eq_true rfl) (Nat.le_of_ble_eq_true rfl) dX10_init_186 (fun q45 z w46 H hqq45 ezq45 ewq45 h => ?_)
  have hp := hp q45 hqq45 z ezq45 w46 ewq45
  obtain ⟨ho, hp⟩ := hp
  obtain ⟨hoq45, hp⟩ := hp
  refine hp_putrF (ci := 10) (ty := .array .int) (b := q45) hx hb hts ix_X10_init_10 tyX10 tyX10_ok nmX10 hown hK h ho (by decide) rfl 22 1022 (by decide) (hts _ lk_X10_init_64) (fun _ h9 => h9) rfl hmn rfl (by decide +kernel) rfl rfl (fun _ _ => rfl) (fun _ _ => Nat.le_of_ble_eq_true rfl) dX10_init_188 (fun H locs z ez h => ?_)
  have hp := hp z ez
  obtain ⟨ho, hp⟩ := hp
  refine lv_aload_n hx hb dX10_init_191 rfl (lv_at hl 0 rfl) ?_
  refine lv_bipush (v := 12) hx hb dX10_init_192 (by decide) ?_
  refine hp_newa (atype := .int) (ty := .int) hx hb (hts _ wd_X10_init_acint) rfl 2023 1 rfl (fun _ h9 => h9) hK h hA (fun _ => rfl) (by decide) rfl (by decide) (by decide) (by decide) (Nat.le_of_ble_eq_true rfl) (Nat.le_of_ble_eq_true rfl) dX10_init_194 (fun q47 z w48 H hqq47 ezq47 ewq47 h => ?_)
  have hp := hp q47 hqq47 z ezq47 w48 ewq47
  obtain ⟨ho, hp⟩ := hp
  obtain ⟨hoq47, hp⟩ := hp
  refine hp_putrF (ci := 10) (ty := .array .int) (b := q47) hx hb hts ix_X10_init_10 tyX10 tyX10_ok nmX10 hown hK h ho (by decide) rfl 23 1023 (by decide) (hts _ lk_X10_init_67) (fun _ h9 => h9) rfl hmn rfl (by decide +kernel) rfl rfl (fun _ _ => rfl) (fun _ _ => Nat.le_of_ble_eq_true rfl) dX10_init_196 (fun H locs z ez h => ?_)
  have hp := hp z ez
  obtain ⟨ho, hp⟩ := hp
  refine lv_aload_n hx hb dX10_init_199 rfl (lv_at hl 0 rfl) ?_
  refine lv_bipush (v := 12) hx hb dX10_init_200 (by decide) ?_
  refine hp_newa (atype := .int) (ty := .int) hx hb (hts _ wd_X10_init_acint) rfl 2024 1 rfl (fun _ h9 => h9) hK h hA (fun _ => rfl) (by decide) rfl (by decide) (by decide) (by decide) (Nat.le_of_ble_eq_true rfl) (Nat.le_of_ble_eq_true rfl) dX10_init_202 (fun q49 z w50 H hqq49 ezq49 ewq49 h => ?_)
  have hp := hp q49 hqq49 z ezq49 w50 ewq49
  obtain ⟨ho, hp⟩ := hp
  obtain ⟨hoq49, hp⟩ := hp
  refine hp_putrF (ci := 10) (ty := .array .int) (b := q49) hx hb hts ix_X10_init_10 tyX10 tyX10_ok nmX10 hown hK h ho (by decide) rfl 24 1024 (by decide) (hts _ lk_X10_init_70) (fun _ h9 => h9) rfl hmn rfl (by decide +kernel) rfl rfl (fun _ _ => rfl) (fun _ _ => Nat.le_of_ble_eq_true rfl) dX10_init_204 (fun H locs z ez h => ?_)
  have hp := hp z ez
  obtain ⟨ho, hp⟩ := hp
  refine lv_aload_n hx hb dX10_init_207 rfl (lv_at hl 0 rfl) ?_
  refine lv_bipush (v := 12) hx hb dX10_init_208 (by decide) ?_
  refine hp_newa (atype := .int) (ty := .int) hx hb (hts _ wd_X10_init_acint) rfl 2025 1 rfl (fun _ h9 => h9) hK h hA (fun _ => rfl) (by decide) rfl (by decide) (by decide) (by decide) (Nat.le_of_ble_eq_true rfl) (Nat.le_of_ble_eq_true rfl) dX10_init_210 (fun q51 z w52 H hqq51 ezq51 ewq51 h => ?_)
  have hp := hp q51 hqq51 z ezq51 w52 ewq51
  obtain ⟨ho, hp⟩ := hp
  obtain ⟨hoq51, hp⟩ := hp
  refine hp_putrF (ci := 10) (ty := .array .int) (b := q51) hx hb hts ix_X10_init_10 tyX10 tyX10_ok nmX10 hown hK h ho (by decide) rfl 25 1025 (by decide) (hts _ lk_X10_init_73) (fun _ h9 => h9) rfl hmn rfl (by decide +kernel) rfl rfl (fun _ _ => rfl) (fun _ _ => Nat.le_of_ble_eq_true rfl) dX10_init_212 (fun H locs z ez h => ?_)
  have hp := hp z ez
  obtain ⟨ho, hp⟩ := hp
  refine lv_aload_n hx hb dX10_init_215 rfl (lv_at hl 0 rfl) ?_
  refine lv_sipush (v := 300) hx hb dX10_init_216 (by decide) ?_
  refine hp_newa (atype := .int) (ty := .int) hx hb (hts _ wd_X10_init_acint) rfl 2027 1 rfl (fun _ h9 => h9) hK h hA (fun _ => rfl) (by decide) rfl (by decide) (by decide) (by decide) (Nat.le_of_ble_eq_true rfl) (Nat.le_of_ble_eq_true rfl) dX10_init_219 (fun q53 z w54 H hqq53 ezq53 ewq53 h => ?_)
  have hp := hp q53 hqq53 z ezq53 w54 ewq53
  obtain ⟨ho, hp⟩ := hp
  obtain ⟨hoq53, hp⟩ := hp
  refine hp_putrF (ci := 10) (ty := .array .int) (b := q53) hx hb hts ix_X10_init_10 tyX10 tyX10_ok nmX10 hown hK h ho (by decide) rfl 27 1027 (by decide) (hts _ lk_X10_init_76) (fun _ h9 => h9) rfl hmn rfl (by decide +kernel) rfl rfl (fun _ _ => rfl) (fun _ _ => Nat.le_of_ble_eq_true rfl) dX10_init_221 (fun H locs z ez h => ?_)
  have hp := hp z ez
  obtain ⟨ho, hp⟩ := hp
  refine lv_aload_n hx hb dX10_init_224 rfl (lv_at hl 0 rfl) ?_
  refine lv_sipush (v := 300) hx hb dX10_init_225 (by decide) ?_
  refine hp_newa (atype := .int) (ty := .int) hx hb (hts _ wd_X10_init_acint) rfl 2028 1 rfl (fun _ h9 => h9) hK h hA (fun _ => rfl) (by decide) rfl (by decide) (by decide) (by decide) (Nat.le_of_ble_eq_true rfl) (Nat.le_of_ble_eq_true rfl) dX10_init_228 (fun q55 z w56 H hqq55 ezq55 ewq55 h => ?_)
  have hp := hp q55 hqq55 z ezq55 w56 ewq55
  obtain ⟨ho, hp⟩ := hp
  obtain ⟨hoq55, hp⟩ := hp
  refine hp_putrF (ci := 10) (ty := .array .int) (b := q55) hx hb hts ix_X10_init_10 tyX10 tyX10_ok nmX10 hown hK h ho (by decide) rfl 28 1028 (by decide) (hts _ lk_X10_init_79) (fun _ h9 => h9) rfl hmn rfl (by decide +kernel) rfl rfl (fun _ _ => rfl) (fun _ _ => Nat.le_of_ble_eq_true rfl) dX10_init_230 (fun H locs z ez h => ?_)
  have hp := hp z ez
  obtain ⟨ho, hp⟩ := hp
  refine lv_aload_n hx hb dX10_init_233 rfl (lv_at hl 0 rfl) ?_
  refine lv_iconst (v := 2) hx hb dX10_init_234 (by decide) ?_
  refine hp_puti (ci := 10) (ty := .int) (x := 2) hx hb hts ix_X10_init_10 tyX10 tyX10_ok nmX10 hown hK h ho (by decide) rfl 31 1031 (by decide) (hts _ lk_X10_init_82) (fun _ h9 => h9) rfl (by decide +kernel) rfl rfl (fun _ _ => rfl) (fun _ _ => Nat.le_of_ble_eq_true rfl) dX10_init_235 (fun H locs w57 ew57 h => ?_)
  have hp := hp w57 ew57
  refine lv_aload_n hx hb dX10_init_238 rfl (lv_at hl 0 rfl) ?_
  refine lv_sipush (v := 400) hx hb dX10_init_239 (by decide) ?_
  refine hp_newa (atype := .byte) (ty := .byte) hx hb (hts _ wd_X10_init_acbyte) rfl 2033 0 rfl (fun _ h9 => h9) hK h hA (fun _ => rfl) (by decide) rfl (by decide) (by decide) (by decide) (Nat.le_of_ble_eq_true rfl) (Nat.le_of_ble_eq_true rfl) dX10_init_242 (fun q58 z w59 H hqq58 ezq58 ewq58 h => ?_)
  have hp := hp q58 hqq58 z ezq58 w59 ewq58
  obtain ⟨ho, hp⟩ := hp
  obtain ⟨hoq58, hp⟩ := hp
  refine hp_putrF (ci := 10) (ty := .array .byte) (b := q58) hx hb hts ix_X10_init_10 tyX10 tyX10_ok nmX10 hown hK h ho (by decide) rfl 33 1033 (by decide) (hts _ lk_X10_init_86) (fun _ h9 => h9) rfl hmn rfl (by decide +kernel) rfl rfl (fun _ _ => rfl) (fun _ _ => Nat.le_of_ble_eq_true rfl) dX10_init_244 (fun H locs z ez h => ?_)
  have hp := hp z ez
  obtain ⟨ho, hp⟩ := hp
  refine lv_aload_n hx hb dX10_init_247 rfl (lv_at hl 0 rfl) ?_
  refine lv_iconst (v := (-1)) hx hb dX10_init_248 (by decide) ?_
  refine hp_puti (ci := 10) (ty := .int) (x := (-1)) hx hb hts ix_X10_init_10 tyX10 tyX10_ok nmX10 hown hK h ho (by decide) rfl 38 1038 (by decide) (hts _ lk_X10_init_90) (fun _ h9 => h9) rfl (by decide +kernel) rfl rfl (fun _ _ => rfl) (fun _ _ => Nat.le_of_ble_eq_true rfl) dX10_init_249 (fun H locs w60 ew60 h => ?_)
  have hp := hp w60 ew60
  refine lv_aload_n hx hb dX10_init_252 rfl (lv_at hl 0 rfl) ?_
  refine lv_iconst (v := 5) hx hb dX10_init_253 (by decide) ?_
  refine hp_newa (atype := .int) (ty := .int) hx hb (hts _ wd_X10_init_acint) rfl 2039 1 rfl (fun _ h9 => h9) hK h hA (fun _ => rfl) (by decide) rfl (by decide) (by decide) (by decide) (Nat.le_of_ble_eq_true rfl) (Nat.le_of_ble_eq_true rfl) dX10_init_254 (fun q61 z w62 H hqq61 ezq61 ewq61 h => ?_)
  have hp := hp q61 hqq61 z ezq61 w62 ewq61
  obtain ⟨ho, hp⟩ := hp
  obtain ⟨hoq61, hp⟩ := hp
  refine hp_putrF (ci := 10) (ty := .array .int) (b := q61) hx hb hts ix_X10_init_10 tyX10 tyX10_ok nmX10 hown hK h ho (by decide) rfl 39 1039 (by decide) (hts _ lk_X10_init_93) (fun _ h9 => h9) rfl hmn rfl (by decide +kernel) rfl rfl (fun _ _ => rfl) (fun _ _ => Nat.le_of_ble_eq_true rfl) dX10_init_256 (fun H locs z ez h => ?_)
  have hp := hp z ez
  obtain ⟨ho, hp⟩ := hp
  refine lv_aload_n hx hb dX10_init_259 rfl (lv_at hl 0 rfl) ?_
  refine lv_sipush (v := 360) hx hb dX10_init_260 (by decide) ?_
  refine hp_newa (atype := .int) (ty := .int) hx hb (hts _ wd_X10_init_acint) rfl 2040 1 rfl (fun _ h9 => h9) hK h hA (fun _ => rfl) (by decide) rfl (by decide) (by decide) (by decide) (Nat.le_of_ble_eq_true rfl) (Nat.le_of_ble_eq_true rfl) dX10_init_263 (fun q63 z w64 H hqq63 ezq63 ewq63 h => ?_)
  have hp := hp q63 hqq63 z ezq63 w64 ewq63
  obtain ⟨ho, hp⟩ := hp
  obtain ⟨hoq63, hp⟩ := hp
  refine hp_putrF (ci := 10) (ty := .array .int) (b := q63) hx hb hts ix_X10_init_10 tyX10 tyX10_ok nmX10 hown hK h ho (by decide) rfl 40 1040 (by decide) (hts _ lk_X10_init_96) (fun _ h9 => h9) rfl hmn rfl (by decide +kernel) rfl rfl (fun _ _ => rfl) (fun _ _ => Nat.le_of_ble_eq_true rfl) dX10_init_265 (fun H locs z ez h => ?_)
  have hp := hp z ez
  obtain ⟨ho, hp⟩ := hp
  refine lv_aload_n hx hb dX10_init_268 rfl (lv_at hl 0 rfl) ?_
  refine lv_sipush (v := 200) hx hb dX10_init_269 (by decide) ?_
  refine hp_newa (atype := .int) (ty := .int) hx hb (hts _ wd_X10_init_acint) rfl 2042 1 rfl (fun _ h9 => h9) hK h hA (fun _ => rfl) (by decide) rfl (by decide) (by decide) (by decide) (Nat.le_of_ble_eq_true rfl) (Nat.le_of_ble_eq_true rfl) dX10_init_272 (fun q65 z w66 H hqq65 ezq65 ewq65 h => ?_)
  have hp := hp q65 hqq65 z ezq65 w66 ewq65
  obtain ⟨ho, hp⟩ := hp
  obtain ⟨hoq65, hp⟩ := hp
  refine hp_putrF (ci := 10) (ty := .array .int) (b := q65) hx hb hts ix_X10_init_10 tyX10 tyX10_ok nmX10 hown hK h ho (by decide) rfl 42 1042 (by decide) (hts _ lk_X10_init_99) (fun _ h9 => h9) rfl hmn rfl (by decide +kernel) rfl rfl (fun _ _ => rfl) (fun _ _ => Nat.le_of_ble_eq_true rfl) dX10_init_274 (fun H locs z ez h => ?_)
  have hp := hp z ez
  obtain ⟨ho, hp⟩ := hp
  refine lv_aload_n hx hb dX10_init_277 rfl (lv_at hl 0 rfl) ?_
  refine lv_sipush (v := 200) hx hb dX10_init_278 (by decide) ?_
  refine hp_newa (atype := .int) (ty := .int) hx hb (hts _ wd_X10_init_acint) rfl 2043 1 rfl (fun _ h9 => h9) hK h hA (fun _ => rfl) (by decide) rfl (by decide) (by decide) (by decide) (Nat.le_of_ble_eq_true rfl) (Nat.le_of_ble_eq_true rfl) dX10_init_281 (fun q67 z w68 H hqq67 ezq67 ewq67 h => ?_)
  have hp := hp q67 hqq67 z ezq67 w68 ewq67
  obtain ⟨ho, hp⟩ := hp
  obtain ⟨hoq67, hp⟩ := hp
  refine hp_putrF (ci := 10) (ty := .array .int) (b := q67) hx hb hts ix_X10_init_10 tyX10 tyX10_ok nmX10 hown hK h ho (by decide) rfl 43 1043 (by decide) (hts _ lk_X10_init_102) (fun _ h9 => h9) rfl hmn rfl (by decide +kernel) rfl rfl (fun _ _ => rfl) (fun _ _ => Nat.le_of_ble_eq_true rfl) dX10_init_283 (fun H locs z ez h => ?_)
  have hp := hp z ez
  obtain ⟨ho, hp⟩ := hp
  refine lv_aload_n hx hb dX10_init_286 rfl (lv_at hl 0 rfl) ?_
  refine lv_sipush (v := 200) hx hb dX10_init_287 (by decide) ?_
  refine hp_newa (atype := .int) (ty := .int) hx hb (hts _ wd_X10_init_acint) rfl 2044 1 rfl (fun _ h9 => h9) hK h hA (fun _ => rfl) (by decide) rfl (by decide) (by decide) (by decide) (Nat.le_of_ble_eq_true rfl) (Nat.le_of_ble_eq_true rfl) dX10_init_290 (fun q69 z w70 H hqq69 ezq69 ewq69 h => ?_)
  have hp := hp q69 hqq69 z ezq69 w70 ewq69
  obtain ⟨ho, hp⟩ := hp
  obtain ⟨hoq69, hp⟩ := hp
  refine hp_putrF (ci := 10) (ty := .array .int) (b := q69) hx hb hts ix_X10_init_10 tyX10 tyX10_ok nmX10 hown hK h ho (by decide) rfl 44 1044 (by decide) (hts _ lk_X10_init_105) (fun _ h9 => h9) rfl hmn rfl (by decide +kernel) rfl rfl (fun _ _ => rfl) (fun _ _ => Nat.le_of_ble_eq_true rfl) dX10_init_292 (fun H locs z ez h => ?_)
  have hp := hp z ez
  obtain ⟨ho, hp⟩ := hp
  refine lv_aload_n hx hb dX10_init_295 rfl (lv_at hl 0 rfl) ?_
  refine lv_sipush (v := 200) hx hb dX10_init_296 (by decide) ?_
  refine hp_newa (atype := .int) (ty := .int) hx hb (hts _ wd_X10_init_acint) rfl 2045 1 rfl (fun _ h9 => h9) hK h hA (fun _ => rfl) (by decide) rfl (by decide) (by decide) (by decide) (Nat.le_of_ble_eq_true rfl) (Nat.le_of_ble_eq_true rfl) dX10_init_299 (fun q71 z w72 H hqq71 ezq71 ewq71 h => ?_)
  have hp := hp q71 hqq71 z ezq71 w72 ewq71
  obtain ⟨ho, hp⟩ := hp
  obtain ⟨hoq71, hp⟩ := hp
  refine hp_putrF (ci := 10) (ty := .array .int) (b := q71) hx hb hts ix_X10_init_10 tyX10 tyX10_ok nmX10 hown hK h ho (by decide) rfl 45 1045 (by decide) (hts _ lk_X10_init_108) (fun _ h9 => h9) rfl hmn rfl (by decide +kernel) rfl rfl (fun _ _ => rfl) (fun _ _ => Nat.le_of_ble_eq_true rfl) dX10_init_301 (fun H locs z ez h => ?_)
  have hp := hp z ez
  obtain ⟨ho, hp⟩ := hp
  refine lv_aload_n hx hb dX10_init_304 rfl (lv_at hl 0 rfl) ?_
  refine lv_sipush (v := 200) hx hb dX10_init_305 (by decide) ?_
  refine hp_newa (atype := .int) (ty := .int) hx hb (hts _ wd_X10_init_acint) rfl 2046 1 rfl (fun _ h9 => h9) hK h hA (fun _ => rfl) (by decide) rfl (by decide) (by decide) (by decide) (Nat.le_of_ble_eq_true rfl) (Nat.le_of_ble_eq_true rfl) dX10_init_308 (fun q73 z w74 H hqq73 ezq73 ewq73 h => ?_)
  have hp := hp q73 hqq73 z ezq73 w74 ewq73
  obtain ⟨ho, hp⟩ := hp
  obtain ⟨hoq73, hp⟩ := hp
  refine hp_putrF (ci := 10) (ty := .array .int) (b := q73) hx hb hts ix_X10_init_10 tyX10 tyX10_ok nmX10 hown hK h ho (by decide) rfl 46 1046 (by decide) (hts _ lk_X10_init_111) (fun _ h9 => h9) rfl hmn rfl (by decide +kernel) rfl rfl (fun _ _ => rfl) (fun _ _ => Nat.le_of_ble_eq_true rfl) dX10_init_310 (fun H locs z ez h => ?_)
  have hp := hp z ez
  obtain ⟨ho, hp⟩ := hp
  refine lv_aload_n hx hb dX10_init_313 rfl (lv_at hl 0 rfl) ?_
  refine lv_bipush (v := 18) hx hb dX10_init_314 (by decide) ?_
  refine hp_newa (atype := .boolean) (ty := .boolean) hx hb (hts _ wd_X10_init_acboolean) rfl 2048 2 rfl (fun _ h9 => h9) hK h hA (fun _ => rfl) (by decide) rfl (by decide) (by decide) (by decide) (Nat.le_of_ble_eq_true rfl) (Nat.le_of_ble_eq_true rfl) dX10_init_316 (fun q75 z w76 H hqq75 ezq75 ewq75 h => ?_)
  have hp := hp q75 hqq75 z ezq75 w76 ewq75
  obtain ⟨ho, hp⟩ := hp
  obtain ⟨hoq75, hp⟩ := hp
  refine hp_putrF (ci := 10) (ty := .array .boolean) (b := q75) hx hb hts ix_X10_init_10 tyX10 tyX10_ok nmX10 hown hK h ho (by decide) rfl 48 1048 (by decide) (hts _ lk_X10_init_114) (fun _ h9 => h9) rfl hmn rfl (by decide +kernel) rfl rfl (fun _ _ => rfl) (fun _ _ => Nat.le_of_ble_eq_true rfl) dX10_init_318 (fun H locs z ez h => ?_)
  have hp := hp z ez
  obtain ⟨ho, hp⟩ := hp
  refine lv_aload_n hx hb dX10_init_321 rfl (lv_at hl 0 rfl) ?_
  refine lv_bipush (v := 18) hx hb dX10_init_322 (by decide) ?_
  refine hp_newa (atype := .boolean) (ty := .boolean) hx hb (hts _ wd_X10_init_acboolean) rfl 2049 2 rfl (fun _ h9 => h9) hK h hA (fun _ => rfl) (by decide) rfl (by decide) (by decide) (by decide) (Nat.le_of_ble_eq_true rfl) (Nat.le_of_ble_eq_true rfl) dX10_init_324 (fun q77 z w78 H hqq77 ezq77 ewq77 h => ?_)
  have hp := hp q77 hqq77 z ezq77 w78 ewq77
  obtain ⟨ho, hp⟩ := hp
  obtain ⟨hoq77, hp⟩ := hp
  refine hp_putrF (ci := 10) (ty := .array .boolean) (b := q77) hx hb hts ix_X10_init_10 tyX10 tyX10_ok nmX10 hown hK h ho (by decide) rfl 49 1049 (by decide) (hts _ lk_X10_init_118) (fun _ h9 => h9) rfl hmn rfl (by decide +kernel) rfl rfl (fun _ _ => rfl) (fun _ _ => Nat.le_of_ble_eq_true rfl) dX10_init_326 (fun H locs z ez h => ?_)
  have hp := hp z ez
  obtain ⟨ho, hp⟩ := hp
  refine lv_aload_n hx hb dX10_init_329 rfl (lv_at hl 0 rfl) ?_
  refine lv_bipush (v := 18) hx hb dX10_init_330 (by decide) ?_
  refine hp_newa (atype := .boolean) (ty := .boolean) hx hb (hts _ wd_X10_init_acboolean) rfl 2050 2 rfl (fun _ h9 => h9) hK h hA (fun _ => rfl) (by decide) rfl (by decide) (by decide) (by decide) (Nat.le_of_ble_eq_true rfl) (Nat.le_of_ble_eq_true rfl) dX10_init_332 (fun q79 z w80 H hqq79 ezq79 ewq79 h => ?_)
  have hp := hp q79 hqq79 z ezq79 w80 ewq79
  obtain ⟨ho, hp⟩ := hp
  obtain ⟨hoq79, hp⟩ := hp
  refine hp_putrF (ci := 10) (ty := .array .boolean) (b := q79) hx hb hts ix_X10_init_10 tyX10 tyX10_ok nmX10 hown hK h ho (by decide) rfl 50 1050 (by decide) (hts _ lk_X10_init_121) (fun _ h9 => h9) rfl hmn rfl (by decide +kernel) rfl rfl (fun _ _ => rfl) (fun _ _ => Nat.le_of_ble_eq_true rfl) dX10_init_334 (fun H locs z ez h => ?_)
  have hp := hp z ez
  obtain ⟨ho, hp⟩ := hp
  refine lv_aload_n hx hb dX10_init_337 rfl (lv_at hl 0 rfl) ?_
  refine lv_sipush (v := 5508) hx hb dX10_init_338 (by decide) ?_
  refine hp_newa (atype := .int) (ty := .int) hx hb (hts _ wd_X10_init_acint) rfl 2052 1 rfl (fun _ h9 => h9) hK h hA (fun _ => rfl) (by decide) rfl (by decide) (by decide) (by decide) (Nat.le_of_ble_eq_true rfl) (Nat.le_of_ble_eq_true rfl) dX10_init_341 (fun q81 z w82 H hqq81 ezq81 ewq81 h => ?_)
  have hp := hp q81 hqq81 z ezq81 w82 ewq81
  obtain ⟨ho, hp⟩ := hp
  obtain ⟨hoq81, hp⟩ := hp
  refine hp_putrF (ci := 10) (ty := .array .int) (b := q81) hx hb hts ix_X10_init_10 tyX10 tyX10_ok nmX10 hown hK h ho (by decide) rfl 52 1052 (by decide) (hts _ lk_X10_init_124) (fun _ h9 => h9) rfl hmn rfl (by decide +kernel) rfl rfl (fun _ _ => rfl) (fun _ _ => Nat.le_of_ble_eq_true rfl) dX10_init_343 (fun H locs z ez h => ?_)
  have hp := hp z ez
  obtain ⟨ho, hp⟩ := hp
  exact hp_nvret hx hb hr hlocks hK h hp dX10_init_346 (Nat.le_of_ble_eq_true rfl) (Nat.le_of_ble_eq_true rfl)
