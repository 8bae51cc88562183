abbrev rmX10_sell : Room := { frames := 2, cells := 0, slots := 0, locals := 42 }
theorem ix_X10_sell_10 : ∀ w ∈ wsX100, w ∈ wsX10_sell := by decide +kernel
theorem lk_X10_sell_127 : Cond.fieldLink RX10 127 "KelpShoresModel" "thrown" "I" ∈ wsX10_sell := by decide +kernel
theorem lk_X10_sell_93 : Cond.fieldLink RX10 93 "KelpShoresModel" "five" "[I" ∈ wsX10_sell := by decide +kernel
theorem lk_X10_sell_52 : Cond.fieldLink RX10 52 "KelpShoresModel" "ash" "[I" ∈ wsX10_sell := by decide +kernel
theorem lk_X10_sell_268 : Cond.fieldLink RX10 268 "KelpShoresModel" "lots" "I" ∈ wsX10_sell := by decide +kernel
theorem lk_X10_sell_265 : Cond.fieldLink RX10 265 "KelpShoresModel" "entries" "I" ∈ wsX10_sell := by decide +kernel
theorem wd_X10_sell_l271 : Cond.methodLink RX10 271 Lib.Math.min.name ∈ wsX10_sell := by decide +kernel
theorem wd_X10_sell_smin : Cond.static Lib.Math.min.name ∈ wsX10_sell := by decide +kernel
theorem wd_X10_sell_iM : Cond.initialized "java/lang/Math" ∈ wsX10_sell := by decide +kernel
theorem wd_X10_sell_kmin : Cond.code Lib.Math.min.name Lib.Math.min.code 2 (some .int) ∈ wsX10_sell := by decide +kernel
theorem wd_X10_sell_l179 : Cond.methodLink RX10 179 Lib.Math.max.name ∈ wsX10_sell := by decide +kernel
theorem wd_X10_sell_smax : Cond.static Lib.Math.max.name ∈ wsX10_sell := by decide +kernel
theorem wd_X10_sell_kmax : Cond.code Lib.Math.max.name Lib.Math.max.code 2 (some .int) ∈ wsX10_sell := by decide +kernel
theorem lk_X10_sell_96 : Cond.fieldLink RX10 96 "KelpShoresModel" "lot" "[I" ∈ wsX10_sell := by decide +kernel
theorem lk_X10_sell_148 : Cond.fieldLink RX10 148 "KelpShoresModel" "today" "I" ∈ wsX10_sell := by decide +kernel
def wL_X10_sell_75 (z : Zt) (o : Nat) (K : Int32 → Vt → Prop) (Kx : Int32 → Int32 → Int32 → Int32 → Int32 → Int32 → Int32 → Int32 → Int32 → Int32 → Vt → Prop) : Nat → Int32 → Int32 → Int32 → Int32 → Int32 → Int32 → Int32 → Int32 → Int32 → Int32 → Vt → Prop
  | 0, _, _, _, _, _, _, _, _, _, _, _ => False
  | n + 1, x10_, x9_, x1_, x2_, x3_, x4_, x5_, x6_, x7_, x8_, w => (x9_ = 0 → Kx x10_ x9_ x1_ x2_ x3_ x4_ x5_ x6_ x7_ x8_ w) ∧ (¬ x9_ = 0 → (x3_ ≤ x10_ → Kx x10_ x9_ x1_ x2_ x3_ x4_ x5_ x6_ x7_ x8_ w) ∧ (¬ x3_ ≤ x10_ → ∃ b19 : Nat, zR z 1039 o = some b19 ∧ isO z 2039 b19 ∧ vp_in x10_ 5 ∧ wp_X10_in z (vA w 2039 b19 (x10_ : Int32).toNatClampNeg) 0 99 w (fun r21 w20 => ∀ x22 : Int32, x22 = x10_ + 1 → wL_X10_sell_75 z o K Kx n x22 r21 x1_ x2_ x3_ x4_ x5_ x6_ x7_ x8_ w20)))
set_option maxHeartbeats 4000000 in
set_option maxRecDepth 100000 in
theorem kL_X10_sell_75 {p : Program} {l : Launch} {e : Env} {s : State} {m : MethodId} {args : Array Value} {below : List Frame} {meth : Method} {c : Code} {G : Gt} {A : Nat → Prop} {z : Zt} (C : gC p s m args meth c cX10_sell 16 RX10 wsX10_sell (some .int) G A) (o : Nat) (ho : isO z 10 o) (K : Int32 → Vt → Prop) (Kx : Int32 → Int32 → Int32 → Int32 → Int32 → Int32 → Int32 → Int32 → Int32 → Int32 → Vt → Prop) (kKx : ∀ (x10_ x9_ x1_ x2_ x3_ x4_ x5_ x6_ x7_ x8_ : Int32) (w : Vt) (H : Heap) (locs : List Loc) (ls : Array Slot), Kx x10_ x9_ x1_ x2_ x3_ x4_ x5_ x6_ x7_ x8_ w → hpH G.1 G.2.1 A s.heap z w H locs → lv_has ls 16 [(10, .int x10_), (9, .int x9_), (0, .ref o), (1, .int x1_), (2, .int x2_), (3, .int x3_), (4, .int x4_), (5, .int x5_), (6, .int x6_), (7, .int x7_), (8, .int x8_)] → W p l e (headSpec wsX10_sell rmX10_sell).room s m args below meth c H locs 0 0 (MQ below (va_Qi K (gB G A z) A) args s 0 0 A) (F0 m 107 ls [])) : ∀ (n : Nat) (x10_ x9_ x1_ x2_ x3_ x4_ x5_ x6_ x7_ x8_ : Int32) (w : Vt) (H : Heap) (locs : List Loc) (ls : Array Slot), wL_X10_sell_75 z o K Kx n x10_ x9_ x1_ x2_ x3_ x4_ x5_ x6_ x7_ x8_ w → hpH G.1 G.2.1 A s.heap z w H locs → lv_has ls 16 [(10, .int x10_), (9, .int x9_), (0, .ref o), (1, .int x1_), (2, .int x2_), (3, .int x3_), (4, .int x4_), (5, .int x5_), (6, .int x6_), (7, .int x7_), (8, .int x8_)] → W p l e (headSpec wsX10_sell rmX10_sell).room s m args below meth c H locs 0 0 (MQ below (va_Qi K (gB G A z) A) args s 0 0 A) (F0 m 75 ls []) := by
  obtain ⟨hx, hb, hr, hlocks, hml, hown, hts, hK, hA, hE⟩ := id C
  intro n
  induction n with
  | zero =>
    intro x10_ x9_ x1_ x2_ x3_ x4_ x5_ x6_ x7_ x8_ w H locs ls hp
    exact hp.elim
  | succ n ih =>
    intro x10_ x9_ x1_ x2_ x3_ x4_ x5_ x6_ x7_ x8_ w H locs ls hp h hl
    refine lv_iload hx hb dX10_sell_75 (lv_at hl 1 rfl) ?_
    refine lv_if_eq (tgt := 107) hx hb dX10_sell_77 (by decide) (fun hc17 => ?_) (fun hc17 => ?_)
    · have hp := hp.1 hc17
      exact kKx x10_ x9_ x1_ x2_ x3_ x4_ x5_ x6_ x7_ x8_ w _ _ _ hp h (lv_sub hl [0, 1, 2, 3, 4, 5, 6, 7, 8, 9, 10] rfl)
    · have hp := hp.2 hc17
      refine lv_iload hx hb dX10_sell_80 (lv_at hl 0 rfl) ?_
      refine lv_iload_n hx hb dX10_sell_82 rfl (lv_at hl 5 rfl) ?_
      refine lv_icmp_ge (tgt := 107) hx hb dX10_sell_83 (by decide) (fun hc18 => ?_) (fun hc18 => ?_)
      · have hp := hp.1 hc18
        exact kKx x10_ x9_ x1_ x2_ x3_ x4_ x5_ x6_ x7_ x8_ w _ _ _ hp h (lv_sub hl [0, 1, 2, 3, 4, 5, 6, 7, 8, 9, 10] rfl)
      · have hp := hp.2 hc18
        refine lv_aload_n hx hb dX10_sell_86 rfl (lv_at hl 2 rfl) ?_
        obtain ⟨b19, eb19, hob19, hp⟩ := hp
        refine hp_get (ci := 10) (v := .ref b19) hx hb hts ix_X10_sell_10 hown hK h ho (by decide) rfl 39 (by decide) (hts _ lk_X10_sell_93) (fun _ h9 => h9) (by show some (va_rf (zR z 1039 o)) = some (Value.ref b19); rw [eb19]; rfl) dX10_sell_87 ?_
        refine lv_iload hx hb dX10_sell_90 (lv_at hl 0 rfl) ?_
        refine hp_iald (t := 2039) (n := 5) hx hb hK h hob19 (by decide) (fun _ _ _ => rfl) hp.1 dX10_sell_92 ?_
        have hp := hp.2
        refine lv_iconst (v := 0) hx hb dX10_sell_93 (by decide) ?_
        refine lv_bipush (v := 99) hx hb dX10_sell_94 (by decide) ?_
        refine hp_cSi ⟨hx, hb, hml, hown, hts⟩ (k_X10_in l G z w _ (vA w 2039 b19 (x10_ : Int32).toNatClampNeg) 0 99 _ hp) (cwS 3 hts gX10_sell_X10_in rfl rfl rfl (by decide +kernel) ⟨Nat.le_of_ble_eq_true rfl, Nat.le_of_ble_eq_true rfl⟩) hK h hA hE rfl hl.1 rfl (Nat.le_of_ble_eq_true rfl) dX10_sell_96 ⟨Nat.le_of_ble_eq_true rfl, Nat.le_of_ble_eq_true rfl⟩ (fun r21 w20 H locs hp h => ?_)
        refine lv_istore (lv' := [(9, .int r21), (10, .int x10_), (0, .ref o), (1, .int x1_), (2, .int x2_), (3, .int x3_), (4, .int x4_), (5, .int x5_), (6, .int x6_), (7, .int x7_), (8, .int x8_)]) hx hb dX10_sell_99 hl (by decide) rfl (fun ls hl => ?_)
        obtain ⟨x22, ex22⟩ : ∃ y : Int32, y = x10_ + 1 := ⟨_, rfl⟩
        have hp := hp x22 ex22
        refine lv_iinc (v := x22) (lv' := [(10, .int x22), (9, .int r21), (0, .ref o), (1, .int x1_), (2, .int x2_), (3, .int x3_), (4, .int x4_), (5, .int x5_), (6, .int x6_), (7, .int x7_), (8, .int x8_)]) hx hb dX10_sell_101 hl (k := 1) rfl (by rw [ex22]; rfl) (by decide) rfl (fun ls hl => ?_)
        refine lv_goto (tgt := 75) hx hb dX10_sell_104 (by decide) ?_
        exact ih x22 r21 x1_ x2_ x3_ x4_ x5_ x6_ x7_ x8_ w20 _ _ _ hp h (lv_sub hl [0, 1, 2, 3, 4, 5, 6, 7, 8, 9, 10] rfl)
def wL_X10_sell_223 (z : Zt) (o : Nat) (K : Int32 → Vt → Prop) (Kx : Int32 → Int32 → Int32 → Int32 → Int32 → Int32 → Int32 → Int32 → Int32 → Int32 → Int32 → Int32 → Int32 → Int32 → Int32 → Vt → Prop) : Nat → Int32 → Int32 → Int32 → Int32 → Int32 → Int32 → Int32 → Int32 → Int32 → Int32 → Int32 → Int32 → Int32 → Int32 → Int32 → Vt → Prop
  | 0, _, _, _, _, _, _, _, _, _, _, _, _, _, _, _, _ => False
  | n + 1, x15_, x14_, x11_, x10_, x13_, x12_, x9_, x1_, x2_, x3_, x4_, x5_, x6_, x7_, x8_, w => (x3_ ≤ x15_ → Kx x15_ x14_ x11_ x10_ x13_ x12_ x9_ x1_ x2_ x3_ x4_ x5_ x6_ x7_ x8_ w) ∧ (¬ x3_ ≤ x15_ → ∃ b56 : Nat, zR z 1039 o = some b56 ∧ isO z 2039 b56 ∧ vp_in x15_ 5 ∧ vp_in x13_ 5 ∧ ∃ J57 : Int32 → Vt → Prop, (∀ (x58 : Int32) (w59 : Vt), J57 x58 w59 → ∀ x63 : Int32, x63 = x14_ + x58 → ∀ x64 : Int32, x64 = x15_ + 1 → wL_X10_sell_223 z o K Kx n x64 x63 x11_ x10_ x13_ x12_ x9_ x1_ x2_ x3_ x4_ x5_ x6_ x7_ x8_ w59) ∧ ((vA w 2039 b56 (x15_ : Int32).toNatClampNeg) < (vA w 2039 b56 (x13_ : Int32).toNatClampNeg) → J57 1 w) ∧ (¬ (vA w 2039 b56 (x15_ : Int32).toNatClampNeg) < (vA w 2039 b56 (x13_ : Int32).toNatClampNeg) → vp_in x15_ 5 ∧ vp_in x13_ 5 ∧ (¬ (vA w 2039 b56 (x15_ : Int32).toNatClampNeg) = (vA w 2039 b56 (x13_ : Int32).toNatClampNeg) → J57 0 w) ∧ ((vA w 2039 b56 (x15_ : Int32).toNatClampNeg) = (vA w 2039 b56 (x13_ : Int32).toNatClampNeg) → (x13_ ≤ x15_ → J57 0 w) ∧ (¬ x13_ ≤ x15_ → J57 1 w))))
set_option maxHeartbeats 4000000 in
set_option maxRecDepth 100000 in
theorem kL_X10_sell_223 {p : Program} {l : Launch} {e : Env} {s : State} {m : MethodId} {args : Array Value} {below : List Frame} {meth : Method} {c : Code} {G : Gt} {A : Nat → Prop} {z : Zt} (C : gC p s m args meth c cX10_sell 16 RX10 wsX10_sell (some .int) G A) (o : Nat) (ho : isO z 10 o) (K : Int32 → Vt → Prop) (Kx : Int32 → Int32 → Int32 → Int32 → Int32 → Int32 → Int32 → Int32 → Int32 → Int32 → Int32 → Int32 → Int32 → Int32 → Int32 → Vt → Prop) (kKx : ∀ (x15_ x14_ x11_ x10_ x13_ x12_ x9_ x1_ x2_ x3_ x4_ x5_ x6_ x7_ x8_ : Int32) (w : Vt) (H : Heap) (locs : List Loc) (ls : Array Slot), Kx x15_ x14_ x11_ x10_ x13_ x12_ x9_ x1_ x2_ x3_ x4_ x5_ x6_ x7_ x8_ w → hpH G.1 G.2.1 A s.heap z w H locs → lv_has ls 16 [(15, .int x15_), (14, .int x14_), (11, .int x11_), (10, .int x10_), (13, .int x13_), (12, .int x12_), (9, .int x9_), (0, .ref o), (1, .int x1_), (2, .int x2_), (3, .int x3_), (4, .int x4_), (5, .int x5_), (6, .int x6_), (7, .int x7_), (8, .int x8_)] → W p l e (headSpec wsX10_sell rmX10_sell).room s m args below meth c H locs 0 0 (MQ below (va_Qi K (gB G A z) A) args s 0 0 A) (F0 m 286 ls [])) : ∀ (n : Nat) (x15_ x14_ x11_ x10_ x13_ x12_ x9_ x1_ x2_ x3_ x4_ x5_ x6_ x7_ x8_ : Int32) (w : Vt) (H : Heap) (locs : List Loc) (ls : Array Slot), wL_X10_sell_223 z o K Kx n x15_ x14_ x11_ x10_ x13_ x12_ x9_ x1_ x2_ x3_ x4_ x5_ x6_ x7_ x8_ w → hpH G.1 G.2.1 A s.heap z w H locs → lv_has ls 16 [(15, .int x15_), (14, .int x14_), (11, .int x11_), (10, .int x10_), (13, .int x13_), (12, .int x12_), (9, .int x9_), (0, .ref o), (1, .int x1_), (2, .int x2_), (3, .int x3_), (4, .int x4_), (5, .int x5_), (6, .int x6_), (7, .int x7_), (8, .int x8_)] → W p l e (headSpec wsX10_sell rmX10_sell).room s m args below meth c H locs 0 0 (MQ below (va_Qi K (gB G A z) A) args s 0 0 A) (F0 m 223 ls []) := by
  obtain ⟨hx, hb, hr, hlocks, hml, hown, hts, hK, hA, hE⟩ := id C
  intro n
  induction n with
  | zero =>
    intro x15_ x14_ x11_ x10_ x13_ x12_ x9_ x1_ x2_ x3_ x4_ x5_ x6_ x7_ x8_ w H locs ls hp
    exact hp.elim
  | succ n ih =>
    intro x15_ x14_ x11_ x10_ x13_ x12_ x9_ x1_ x2_ x3_ x4_ x5_ x6_ x7_ x8_ w H locs ls hp h hl
    refine lv_iload hx hb dX10_sell_223 (lv_at hl 0 rfl) ?_
    refine lv_iload_n hx hb dX10_sell_225 rfl (lv_at hl 10 rfl) ?_
    refine lv_icmp_ge (tgt := 286) hx hb dX10_sell_226 (by decide) (fun hc55 => ?_) (fun hc55 => ?_)
    · have hp := hp.1 hc55
      exact kKx x15_ x14_ x11_ x10_ x13_ x12_ x9_ x1_ x2_ x3_ x4_ x5_ x6_ x7_ x8_ w _ _ _ hp h (lv_sub hl [0, 1, 2, 3, 4, 5, 6, 7, 8, 9, 10, 11, 12, 13, 14, 15] rfl)
    · have hp := hp.2 hc55
      refine lv_iload hx hb dX10_sell_229 (lv_at hl 1 rfl) ?_
      refine lv_aload_n hx hb dX10_sell_231 rfl (lv_at hl 7 rfl) ?_
      obtain ⟨b56, eb56, hob56, hp⟩ := hp
      refine hp_get (ci := 10) (v := .ref b56) hx hb hts ix_X10_sell_10 hown hK h ho (by decide) rfl 39 (by decide) (hts _ lk_X10_sell_93) (fun _ h9 => h9) (by show some (va_rf (zR z 1039 o)) = some (Value.ref b56); rw [eb56]; rfl) dX10_sell_232 ?_
      refine lv_iload hx hb dX10_sell_235 (lv_at hl 0 rfl) ?_
      refine hp_iald (t := 2039) (n := 5) hx hb hK h hob56 (by decide) (fun _ _ _ => rfl) hp.1 dX10_sell_237 ?_
      have hp := hp.2
      refine lv_aload_n hx hb dX10_sell_238 rfl (lv_at hl 7 rfl) ?_
      refine hp_get (ci := 10) (v := .ref b56) hx hb hts ix_X10_sell_10 hown hK h ho (by decide) rfl 39 (by decide) (hts _ lk_X10_sell_93) (fun _ h9 => h9) (by show some (va_rf (zR z 1039 o)) = some (Value.ref b56); rw [eb56]; rfl) dX10_sell_239 ?_
      refine lv_iload hx hb dX10_sell_242 (lv_at hl 4 rfl) ?_
      refine hp_iald (t := 2039) (n := 5) hx hb hK h hob56 (by decide) (fun _ _ _ => rfl) hp.1 dX10_sell_244 ?_
      have hp := hp.2
      obtain ⟨J57, jJ57, hp⟩ := hp
      refine hp_jn1 (G := G) (A := A) (z := z) (J := J57) (nL := 16) (j := 277) (lvf := fun x58 => [(15, .int x15_), (14, .int x14_), (11, .int x11_), (10, .int x10_), (13, .int x13_), (12, .int x12_), (9, .int x9_), (0, .ref o), (1, .int x1_), (2, .int x2_), (3, .int x3_), (4, .int x4_), (5, .int x5_), (6, .int x6_), (7, .int x7_), (8, .int x8_)]) (stf := fun x58 => [.int x58, .int x14_]) (fun kJ57 => ?_) (fun x58 w59 H locs ls hp h hl => ?_)
      · refine lv_icmp_lt (tgt := 272) hx hb dX10_sell_245 (by decide) (fun hc60 => ?_) (fun hc60 => ?_)
        · have hp := hp.1 hc60
          refine lv_iconst (v := 1) hx hb dX10_sell_272 (by decide) ?_
          refine lv_goto (tgt := 277) hx hb dX10_sell_273 (by decide) ?_
          exact kJ57 1 w _ _ _ hp h (lv_sub hl [0, 1, 2, 3, 4, 5, 6, 7, 8, 9, 10, 11, 12, 13, 14, 15] rfl)
        · have hp := hp.2 hc60
          refine lv_aload_n hx hb dX10_sell_248 rfl (lv_at hl 7 rfl) ?_
          refine hp_get (ci := 10) (v := .ref b56) hx hb hts ix_X10_sell_10 hown hK h ho (by decide) rfl 39 (by decide) (hts _ lk_X10_sell_93) (fun _ h9 => h9) (by show some (va_rf (zR z 1039 o)) = some (Value.ref b56); rw [eb56]; rfl) dX10_sell_249 ?_
          refine lv_iload hx hb dX10_sell_252 (lv_at hl 0 rfl) ?_
          refine hp_iald (t := 2039) (n := 5) hx hb hK h hob56 (by decide) (fun _ _ _ => rfl) hp.1 dX10_sell_254 ?_
          have hp := hp.2
          refine lv_aload_n hx hb dX10_sell_255 rfl (lv_at hl 7 rfl) ?_
          refine hp_get (ci := 10) (v := .ref b56) hx hb hts ix_X10_sell_10 hown hK h ho (by decide) rfl 39 (by decide) (hts _ lk_X10_sell_93) (fun _ h9 => h9) (by show some (va_rf (zR z 1039 o)) = some (Value.ref b56); rw [eb56]; rfl) dX10_sell_256 ?_
          refine lv_iload hx hb dX10_sell_259 (lv_at hl 4 rfl) ?_
          refine hp_iald (t := 2039) (n := 5) hx hb hK h hob56 (by decide) (fun _ _ _ => rfl) hp.1 dX10_sell_261 ?_
          have hp := hp.2
          refine lv_icmp_ne (tgt := 276) hx hb dX10_sell_262 (by decide) (fun hc61 => ?_) (fun hc61 => ?_)
          · have hp := hp.1 hc61
            refine lv_iconst (v := 0) hx hb dX10_sell_276 (by decide) ?_
            exact kJ57 0 w _ _ _ hp h (lv_sub hl [0, 1, 2, 3, 4, 5, 6, 7, 8, 9, 10, 11, 12, 13, 14, 15] rfl)
          · have hp := hp.2 hc61
            refine lv_iload hx hb dX10_sell_265 (lv_at hl 0 rfl) ?_
            refine lv_iload hx hb dX10_sell_267 (lv_at hl 4 rfl) ?_
            refine lv_icmp_ge (tgt := 276) hx hb dX10_sell_269 (by decide) (fun hc62 => ?_) (fun hc62 => ?_)
            · have hp := hp.1 hc62
              refine lv_iconst (v := 0) hx hb dX10_sell_276 (by decide) ?_
              exact kJ57 0 w _ _ _ hp h (lv_sub hl [0, 1, 2, 3, 4, 5, 6, 7, 8, 9, 10, 11, 12, 13, 14, 15] rfl)
            · have hp := hp.2 hc62
              refine lv_iconst (v := 1) hx hb dX10_sell_272 (by decide) ?_
              refine lv_goto (tgt := 277) hx hb dX10_sell_273 (by decide) ?_
              exact kJ57 1 w _ _ _ hp h (lv_sub hl [0, 1, 2, 3, 4, 5, 6, 7, 8, 9, 10, 11, 12, 13, 14, 15] rfl)
      have hp := jJ57 x58 w59 hp
      refine lv_iadd hx hb dX10_sell_277 ?_
      refine lv_topi (fun x63 ex63 => ?_)
      have hp := hp x63 ex63
      refine lv_istore (lv' := [(14, .int x63), (15, .int x15_), (11, .int x11_), (10, .int x10_), (13, .int x13_), (12, .int x12_), (9, .int x9_), (0, .ref o), (1, .int x1_), (2, .int x2_), (3, .int x3_), (4, .int x4_), (5, .int x5_), (6, .int x6_), (7, .int x7_), (8, .int x8_)]) hx hb dX10_sell_278 hl (by decide) rfl (fun ls hl => ?_)
      obtain ⟨x64, ex64⟩ : ∃ y : Int32, y = x15_ + 1 := ⟨_, rfl⟩
      have hp := hp x64 ex64
      refine lv_iinc (v := x64) (lv' := [(15, .int x64), (14, .int x63), (11, .int x11_), (10, .int x10_), (13, .int x13_), (12, .int x12_), (9, .int x9_), (0, .ref o), (1, .int x1_), (2, .int x2_), (3, .int x3_), (4, .int x4_), (5, .int x5_), (6, .int x6_), (7, .int x7_), (8, .int x8_)]) hx hb dX10_sell_280 hl (k := 1) rfl (by rw [ex64]; rfl) (by decide) rfl (fun ls hl => ?_)
      refine lv_goto (tgt := 223) hx hb dX10_sell_283 (by decide) ?_
      exact ih x64 x63 x11_ x10_ x13_ x12_ x9_ x1_ x2_ x3_ x4_ x5_ x6_ x7_ x8_ w59 _ _ _ hp h (lv_sub hl [0, 1, 2, 3, 4, 5, 6, 7, 8, 9, 10, 11, 12, 13, 14, 15] rfl)
def wL_X10_sell_183 (z : Zt) (o : Nat) (K : Int32 → Vt → Prop) (Kx : Int32 → Int32 → Int32 → Int32 → Int32 → Int32 → Int32 → Int32 → Int32 → Int32 → Int32 → Int32 → Int32 → Vt → Prop) : Nat → Int32 → Int32 → Int32 → Int32 → Int32 → Int32 → Int32 → Int32 → Int32 → Int32 → Int32 → Int32 → Int32 → Vt → Prop
  | 0, _, _, _, _, _, _, _, _, _, _, _, _, _, _ => False
  | n + 1, x13_, x12_, x11_, x10_, x9_, x1_, x2_, x3_, x4_, x5_, x6_, x7_, x8_, w => (x3_ ≤ x13_ → Kx x13_ x12_ x11_ x10_ x9_ x1_ x2_ x3_ x4_ x5_ x6_ x7_ x8_ w) ∧ (¬ x3_ ≤ x13_ → ∃ b52 : Nat, zR z 1039 o = some b52 ∧ isO z 2039 b52 ∧ vp_in x13_ 5 ∧ ∀ x53 : Int32, x53 = (if (vA w 2039 b52 (x13_ : Int32).toNatClampNeg) < x10_ then vA w 2039 b52 (x13_ : Int32).toNatClampNeg else x10_) → vp_in x13_ 5 ∧ ∀ x54 : Int32, x54 = (if x11_ < (vA w 2039 b52 (x13_ : Int32).toNatClampNeg) then vA w 2039 b52 (x13_ : Int32).toNatClampNeg else x11_) → ∃ n65 : Nat, wL_X10_sell_223 z o K (fun x66 x67 x68 x69 x70 x71 x72 x73 x74 x75 x76 x77 x78 x79 x80 w81 => (¬ x67 = ((x75 - 1) / 2) → ∀ x83 : Int32, x83 = x70 + 1 → wL_X10_sell_183 z o K Kx n x83 x71 x68 x69 x72 x73 x74 x75 x76 x77 x78 x79 x80 w81) ∧ (x67 = ((x75 - 1) / 2) → vp_in x70 5 ∧ ∀ x84 : Int32, x84 = vA w81 2039 b52 (x70 : Int32).toNatClampNeg → ∀ x85 : Int32, x85 = x70 + 1 → wL_X10_sell_183 z o K Kx n x85 x84 x68 x69 x72 x73 x74 x75 x76 x77 x78 x79 x80 w81)) n65 0 0 x54 x53 x13_ x12_ x9_ x1_ x2_ x3_ x4_ x5_ x6_ x7_ x8_ w)
set_option maxHeartbeats 4000000 in
set_option maxRecDepth 100000 in
theorem kL_X10_sell_183 {p : Program} {l : Launch} {e : Env} {s : State} {m : MethodId} {args : Array Value} {below : List Frame} {meth : Method} {c : Code} {G : Gt} {A : Nat → Prop} {z : Zt} (C : gC p s m args meth c cX10_sell 16 RX10 wsX10_sell (some .int) G A) (o : Nat) (ho : isO z 10 o) (K : Int32 → Vt → Prop) (Kx : Int32 → Int32 → Int32 → Int32 → Int32 → Int32 → Int32 → Int32 → Int32 → Int32 → Int32 → Int32 → Int32 → Vt → Prop) (kKx : ∀ (x13_ x12_ x11_ x10_ x9_ x1_ x2_ x3_ x4_ x5_ x6_ x7_ x8_ : Int32) (w : Vt) (H : Heap) (locs : List Loc) (ls : Array Slot), Kx x13_ x12_ x11_ x10_ x9_ x1_ x2_ x3_ x4_ x5_ x6_ x7_ x8_ w → hpH G.1 G.2.1 A s.heap z w H locs → lv_has ls 16 [(13, .int x13_), (12, .int x12_), (11, .int x11_), (10, .int x10_), (9, .int x9_), (0, .ref o), (1, .int x1_), (2, .int x2_), (3, .int x3_), (4, .int x4_), (5, .int x5_), (6, .int x6_), (7, .int x7_), (8, .int x8_)] → W p l e (headSpec wsX10_sell rmX10_sell).room s m args below meth c H locs 0 0 (MQ below (va_Qi K (gB G A z) A) args s 0 0 A) (F0 m 311 ls [])) : ∀ (n : Nat) (x13_ x12_ x11_ x10_ x9_ x1_ x2_ x3_ x4_ x5_ x6_ x7_ x8_ : Int32) (w : Vt) (H : Heap) (locs : List Loc) (ls : Array Slot), wL_X10_sell_183 z o K Kx n x13_ x12_ x11_ x10_ x9_ x1_ x2_ x3_ x4_ x5_ x6_ x7_ x8_ w → hpH G.1 G.2.1 A s.heap z w H locs → lv_has ls 16 [(13, .int x13_), (12, .int x12_), (11, .int x11_), (10, .int x10_), (9, .int x9_), (0, .ref o), (1, .int x1_), (2, .int x2_), (3, .int x3_), (4, .int x4_), (5, .int x5_), (6, .int x6_), (7, .int x7_), (8, .int x8_)] → W p l e (headSpec wsX10_sell rmX10_sell).room s m args below meth c H locs 0 0 (MQ below (va_Qi K (gB G A z) A) args s 0 0 A) (F0 m 183 ls []) := by
  obtain ⟨hx, hb, hr, hlocks, hml, hown, hts, hK, hA, hE⟩ := id C
  intro n
  induction n with
  | zero =>
    intro x13_ x12_ x11_ x10_ x9_ x1_ x2_ x3_ x4_ x5_ x6_ x7_ x8_ w H locs ls hp
    exact hp.elim
  | succ n ih =>
    intro x13_ x12_ x11_ x10_ x9_ x1_ x2_ x3_ x4_ x5_ x6_ x7_ x8_ w H locs ls hp h hl
    refine lv_iload hx hb dX10_sell_183 (lv_at hl 0 rfl) ?_
    refine lv_iload_n hx hb dX10_sell_185 rfl (lv_at hl 8 rfl) ?_
    refine lv_icmp_ge (tgt := 311) hx hb dX10_sell_186 (by decide) (fun hc51 => ?_) (fun hc51 => ?_)
    · have hp := hp.1 hc51
      exact kKx x13_ x12_ x11_ x10_ x9_ x1_ x2_ x3_ x4_ x5_ x6_ x7_ x8_ w _ _ _ hp h (lv_sub hl [0, 1, 2, 3, 4, 5, 6, 7, 8, 9, 10, 11, 12, 13] rfl)
    · have hp := hp.2 hc51
      refine lv_iload hx hb dX10_sell_189 (lv_at hl 3 rfl) ?_
      refine lv_aload_n hx hb dX10_sell_191 rfl (lv_at hl 5 rfl) ?_
      obtain ⟨b52, eb52, hob52, hp⟩ := hp
      refine hp_get (ci := 10) (v := .ref b52) hx hb hts ix_X10_sell_10 hown hK h ho (by decide) rfl 39 (by decide) (hts _ lk_X10_sell_93) (fun _ h9 => h9) (by show some (va_rf (zR z 1039 o)) = some (Value.ref b52); rw [eb52]; rfl) dX10_sell_192 ?_
      refine lv_iload hx hb dX10_sell_195 (lv_at hl 0 rfl) ?_
      refine hp_iald (t := 2039) (n := 5) hx hb hK h hob52 (by decide) (fun _ _ _ => rfl) hp.1 dX10_sell_197 ?_
      have hp := hp.2
      refine va_mmin hx hb (by rw [hml]; exact hl.1.symm) hown (hts _ wd_X10_sell_l271) (hts _ wd_X10_sell_smin) (hts _ wd_X10_sell_iM) (hts _ wd_X10_sell_kmin) (Nat.le_of_ble_eq_true rfl) (Nat.le_of_ble_eq_true rfl) (Nat.zero_le _) (Nat.zero_le _) dX10_sell_198 ?_
      refine lv_topi (fun x53 ex53 => ?_)
      have hp := hp x53 ex53
      refine lv_istore (lv' := [(10, .int x53), (13, .int x13_), (12, .int x12_), (11, .int x11_), (9, .int x9_), (0, .ref o), (1, .int x1_), (2, .int x2_), (3, .int x3_), (4, .int x4_), (5, .int x5_), (6, .int x6_), (7, .int x7_), (8, .int x8_)]) hx hb dX10_sell_201 hl (by decide) rfl (fun ls hl => ?_)
      refine lv_iload hx hb dX10_sell_203 (lv_at hl 3 rfl) ?_
      refine lv_aload_n hx hb dX10_sell_205 rfl (lv_at hl 5 rfl) ?_
      refine hp_get (ci := 10) (v := .ref b52) hx hb hts ix_X10_sell_10 hown hK h ho (by decide) rfl 39 (by decide) (hts _ lk_X10_sell_93) (fun _ h9 => h9) (by show some (va_rf (zR z 1039 o)) = some (Value.ref b52); rw [eb52]; rfl) dX10_sell_206 ?_
      refine lv_iload hx hb dX10_sell_209 (lv_at hl 1 rfl) ?_
      refine hp_iald (t := 2039) (n := 5) hx hb hK h hob52 (by decide) (fun _ _ _ => rfl) hp.1 dX10_sell_211 ?_
      have hp := hp.2
      refine va_mmax hx hb (by rw [hml]; exact hl.1.symm) hown (hts _ wd_X10_sell_l179) (hts _ wd_X10_sell_smax) (hts _ wd_X10_sell_iM) (hts _ wd_X10_sell_kmax) (Nat.le_of_ble_eq_true rfl) (Nat.le_of_ble_eq_true rfl) (Nat.zero_le _) (Nat.zero_le _) dX10_sell_212 ?_
      refine lv_topi (fun x54 ex54 => ?_)
      have hp := hp x54 ex54
      refine lv_istore (lv' := [(11, .int x54), (10, .int x53), (13, .int x13_), (12, .int x12_), (9, .int x9_), (0, .ref o), (1, .int x1_), (2, .int x2_), (3, .int x3_), (4, .int x4_), (5, .int x5_), (6, .int x6_), (7, .int x7_), (8, .int x8_)]) hx hb dX10_sell_215 hl (by decide) rfl (fun ls hl => ?_)
      refine lv_iconst (v := 0) hx hb dX10_sell_217 (by decide) ?_
      refine lv_istore (lv' := [(14, .int 0), (11, .int x54), (10, .int x53), (13, .int x13_), (12, .int x12_), (9, .int x9_), (0, .ref o), (1, .int x1_), (2, .int x2_), (3, .int x3_), (4, .int x4_), (5, .int x5_), (6, .int x6_), (7, .int x7_), (8, .int x8_)]) hx hb dX10_sell_218 hl (by decide) rfl (fun ls hl => ?_)
      refine lv_iconst (v := 0) hx hb dX10_sell_220 (by decide) ?_
      refine lv_istore (lv' := [(15, .int 0), (14, .int 0), (11, .int x54), (10, .int x53), (13, .int x13_), (12, .int x12_), (9, .int x9_), (0, .ref o), (1, .int x1_), (2, .int x2_), (3, .int x3_), (4, .int x4_), (5, .int x5_), (6, .int x6_), (7, .int x7_), (8, .int x8_)]) hx hb dX10_sell_221 hl (by decide) rfl (fun ls hl => ?_)
      obtain ⟨n65, hp⟩ := hp
      refine kL_X10_sell_223 C o ho _ _ (fun x66 x67 x68 x69 x70 x71 x72 x73 x74 x75 x76 x77 x78 x79 x80 w81 H locs ls hp h hl => ?_) n65 0 0 x54 x53 x13_ x12_ x9_ x1_ x2_ x3_ x4_ x5_ x6_ x7_ x8_ w _ _ _ hp h (lv_sub hl [0, 1, 2, 3, 4, 5, 6, 7, 8, 9, 10, 11, 12, 13, 14, 15] rfl)
      refine lv_iload hx hb dX10_sell_286 (lv_at hl 1 rfl) ?_
      refine lv_iload_n hx hb dX10_sell_288 rfl (lv_at hl 10 rfl) ?_
      refine lv_iconst (v := 1) hx hb dX10_sell_289 (by decide) ?_
      refine lv_isub hx hb dX10_sell_290 ?_
      refine lv_iconst (v := 2) hx hb dX10_sell_291 (by decide) ?_
      refine lv_idiv hx hb dX10_sell_292 (by decide) ?_
      refine lv_icmp_ne (tgt := 305) hx hb dX10_sell_293 (by decide) (fun hc82 => ?_) (fun hc82 => ?_)
      · have hp := hp.1 hc82
        obtain ⟨x83, ex83⟩ : ∃ y : Int32, y = x70 + 1 := ⟨_, rfl⟩
        have hp := hp x83 ex83
        refine lv_iinc (v := x83) (lv' := [(13, .int x83), (15, .int x66), (14, .int x67), (11, .int x68), (10, .int x69), (12, .int x71), (9, .int x72), (0, .ref o), (1, .int x73), (2, .int x74), (3, .int x75), (4, .int x76), (5, .int x77), (6, .int x78), (7, .int x79), (8, .int x80)]) hx hb dX10_sell_305 hl (k := 4) rfl (by rw [ex83]; rfl) (by decide) rfl (fun ls hl => ?_)
        refine lv_goto (tgt := 183) hx hb dX10_sell_308 (by decide) ?_
        exact ih x83 x71 x68 x69 x72 x73 x74 x75 x76 x77 x78 x79 x80 w81 _ _ _ hp h (lv_sub hl [0, 5, 3, 4, 6, 7, 8, 9, 10, 11, 12, 13, 14, 15] rfl)
      · have hp := hp.2 hc82
        refine lv_aload_n hx hb dX10_sell_296 rfl (lv_at hl 7 rfl) ?_
        refine hp_get (ci := 10) (v := .ref b52) hx hb hts ix_X10_sell_10 hown hK h ho (by decide) rfl 39 (by decide) (hts _ lk_X10_sell_93) (fun _ h9 => h9) (by show some (va_rf (zR z 1039 o)) = some (Value.ref b52); rw [eb52]; rfl) dX10_sell_297 ?_
        refine lv_iload hx hb dX10_sell_300 (lv_at hl 4 rfl) ?_
        refine hp_iald (t := 2039) (n := 5) hx hb hK h hob52 (by decide) (fun _ _ _ => rfl) hp.1 dX10_sell_302 ?_
        have hp := hp.2
        refine lv_topi (fun x84 ex84 => ?_)
        have hp := hp x84 ex84
        refine lv_istore (lv' := [(12, .int x84), (15, .int x66), (14, .int x67), (11, .int x68), (10, .int x69), (13, .int x70), (9, .int x72), (0, .ref o), (1, .int x73), (2, .int x74), (3, .int x75), (4, .int x76), (5, .int x77), (6, .int x78), (7, .int x79), (8, .int x80)]) hx hb dX10_sell_303 hl (by decide) rfl (fun ls hl => ?_)
        obtain ⟨x85, ex85⟩ : ∃ y : Int32, y = x70 + 1 := ⟨_, rfl⟩
        have hp := hp x85 ex85
        refine lv_iinc (v := x85) (lv' := [(13, .int x85), (12, .int x84), (15, .int x66), (14, .int x67), (11, .int x68), (10, .int x69), (9, .int x72), (0, .ref o), (1, .int x73), (2, .int x74), (3, .int x75), (4, .int x76), (5, .int x77), (6, .int x78), (7, .int x79), (8, .int x80)]) hx hb dX10_sell_305 hl (k := 5) rfl (by rw [ex85]; rfl) (by decide) rfl (fun ls hl => ?_)
        refine lv_goto (tgt := 183) hx hb dX10_sell_308 (by decide) ?_
        exact ih x85 x84 x68 x69 x72 x73 x74 x75 x76 x77 x78 x79 x80 w81 _ _ _ hp h (lv_sub hl [0, 1, 4, 5, 6, 7, 8, 9, 10, 11, 12, 13, 14, 15] rfl)
def wp_X10_sell (z : Zt) (o : Nat) (p0 : Int32) (p1 : Int32) (p2 : Int32) (p3 : Int32) (p4 : Int32) (p5 : Int32) (p6 : Int32) (p7 : Int32) (w : Vt) (K : Int32 → Vt → Prop) : Prop := isO z 10 o ∧ ∀ w1 : Vt, w1 = uI w 1000 o 0 → ∃ b2 : Nat, zR z 1039 o = some b2 ∧ isO z 2039 b2 ∧ vp_in 0 5 ∧ ∀ w3 : Vt, w3 = uA w1 2039 b2 (0 : Int32).toNatClampNeg p3 → vp_in 1 5 ∧ ∀ w4 : Vt, w4 = uA w3 2039 b2 (1 : Int32).toNatClampNeg p4 → vp_in 2 5 ∧ ∀ w5 : Vt, w5 = uA w4 2039 b2 (2 : Int32).toNatClampNeg p5 → vp_in 3 5 ∧ ∀ w6 : Vt, w6 = uA w5 2039 b2 (3 : Int32).toNatClampNeg p6 → vp_in 4 5 ∧ ∀ w7 : Vt, w7 = uA w6 2039 b2 (4 : Int32).toNatClampNeg p7 → wp_X10_in z p1 1 1000 w7 (fun r9 w8 => ∃ J10 : Int32 → Vt → Prop, (∀ (x11 : Int32) (w12 : Vt), J10 x11 w12 → ∃ n23 : Nat, wL_X10_sell_75 z o K (fun x24 x25 x26 x27 x28 x29 x30 x31 x32 x33 w34 => wp_X10_noFamily z x26 w34 (fun r36 w35 => wp_X10_throwsIf z o r36 1 w35 (fun r38 w37 => (¬ r38 = 0 → K 0 w37) ∧ (r38 = 0 → ∃ J40 : Int32 → Vt → Prop, (∀ (x41 : Int32) (w42 : Vt), J40 x41 w42 → wp_X10_throwsIf z o x41 2 w42 (fun r45 w44 => (r45 = 0 → ∃ b47 : Nat, zR z 1018 o = some b47 ∧ isO z 2018 b47 ∧ vp_in x26 8 ∧ ((vA w44 2018 b47 (x26 : Int32).toNatClampNeg) < x27 → K (-1) w44) ∧ (¬ (vA w44 2018 b47 (x26 : Int32).toNatClampNeg) < x27 → ((vI w44 1041 o) = 60 → K (-1) w44) ∧ (¬ (vI w44 1041 o) = 60 → (¬ (vI w44 1047 o) = 200 → ∃ n86 : Nat, wL_X10_sell_183 z o K (fun x87 x88 x89 x90 x91 x92 x93 x94 x95 x96 x97 x98 x99 w100 => ∀ x101 : Int32, x101 = 6 * (vI w100 1041 o) → ∃ b102 : Nat, zR z 1040 o = some b102 ∧ isO z 2040 b102 ∧ vp_in x101 360 ∧ ∀ w103 : Vt, w103 = uA w100 2040 b102 (x101 : Int32).toNatClampNeg x92 → vp_in (x101 + 1) 360 ∧ ∀ w104 : Vt, w104 = uA w103 2040 b102 (x101 + 1 : Int32).toNatClampNeg x93 → ∃ J105 : Int32 → Vt → Prop, (∀ (x106 : Int32) (w107 : Vt), J105 x106 w107 → vp_in (x101 + 3) 360 ∧ ∀ w109 : Vt, w109 = uA w107 2040 b102 (x101 + 3 : Int32).toNatClampNeg x106 → vp_in (x101 + 3) 360 ∧ ∃ J110 : Int32 → Vt → Prop, (∀ (x111 : Int32) (w112 : Vt), J110 x111 w112 → vp_in (x101 + 2) 360 ∧ ∀ w114 : Vt, w114 = uA w112 2040 b102 (x101 + 2 : Int32).toNatClampNeg x111 → vp_in (x101 + 2) 360 ∧ vp_in (x101 + 4) 360 ∧ ∀ w115 : Vt, w115 = uA w114 2040 b102 (x101 + 4 : Int32).toNatClampNeg (x93 * (vA w114 2040 b102 (x101 + 2 : Int32).toNatClampNeg)) → vp_in (x101 + 4) 360 ∧ wp_X10_enters z o x92 (vA w115 2040 b102 (x101 + 4 : Int32).toNatClampNeg) (vI w115 1001 o) w115 (fun r117 w116 => vp_in (x101 + 5) 360 ∧ ∀ w118 : Vt, w118 = uA w116 2040 b102 (x101 + 5 : Int32).toNatClampNeg r117 → vp_in x92 8 ∧ vp_in x92 8 ∧ ∀ w119 : Vt, w119 = uA w118 2018 b47 (x92 : Int32).toNatClampNeg ((vA w118 2018 b47 (x92 : Int32).toNatClampNeg) - x93) → ∀ w120 : Vt, w120 = uI w119 1041 o ((vI w119 1041 o) + 1) → K ((vI w120 1041 o) - 1) w120)) ∧ (¬ (vA w109 2040 b102 (x101 + 3 : Int32).toNatClampNeg) = 1 → J110 x88 w109) ∧ ((vA w109 2040 b102 (x101 + 3 : Int32).toNatClampNeg) = 1 → J110 x90 w109)) ∧ ((x89 - x90) ≤ 20 → J105 0 w104) ∧ (¬ (x89 - x90) ≤ 20 → J105 1 w104)) n86 0 0 0 100 x25 x26 x27 x28 x29 x30 x31 x32 x33 w44) ∧ ((vI w44 1047 o) = 200 → K (-1) w44)))) ∧ (¬ r45 = 0 → K 0 w44))) ∧ (¬ x25 = 0 → J40 0 w37) ∧ (x25 = 0 → J40 1 w37))))) n23 0 x11 p0 p1 p2 p3 p4 p5 p6 p7 w12) ∧ (r9 = 0 → J10 0 w8) ∧ (¬ r9 = 0 → wp_X10_in z p2 3 5 w8 (fun r15 w14 => (r15 = 0 → J10 0 w14) ∧ (¬ r15 = 0 → J10 1 w14))))
set_option maxHeartbeats 4000000 in
set_option maxRecDepth 100000 in
theorem k_X10_sell (l : Launch) (G : Gt) (z : Zt) (w : Vt) (sz : Nat) (o : Nat) (p0 : Int32) (p1 : Int32) (p2 : Int32) (p3 : Int32) (p4 : Int32) (p5 : Int32) (p6 : Int32) (p7 : Int32) (K : Int32 → Vt → Prop) (hp : wp_X10_sell z o p0 p1 p2 p3 p4 p5 p6 p7 w K) : MI l yX10_sell wsX10_sell rmX10_sell G z w sz [.ref o, .int p0, .int p1, .int p2, .int p3, .int p4, .int p5, .int p6, .int p7] K := by
  refine Met.ofW (cc := cX10_sell) (maxL := 16) (ret := (some .int)) (by decide +kernel) rfl ?_
  intro p e s m args below meth c s₁ B hml hv
  obtain ⟨rfl, rfl, C, h⟩ := hp_start B hml hv
  generalize gA G z w s.heap.size = A at C h ⊢
  obtain ⟨hx, hb, hr, hlocks, hml, hown, hts, hK, hA, hE⟩ := id C
  obtain ⟨ho, hp⟩ := hp
  have hl := lv_entry ([.ref o, .int p0, .int p1, .int p2, .int p3, .int p4, .int p5, .int p6, .int p7]) (n := 16) (Nat.le_of_ble_eq_true rfl)
  rw [lg_entry_eq]
  generalize (lg_sl ([.ref o, .int p0, .int p1, .int p2, .int p3, .int p4, .int p5, .int p6, .int p7]) ++ List.replicate (16 - (lg_sl ([.ref o, .int p0, .int p1, .int p2, .int p3, .int p4, .int p5, .int p6, .int p7])).length) Slot.unset).toArray = ls at hl ⊢
  have hl : lv_has ls 16 [(0, .ref o), (1, .int p0), (2, .int p1), (3, .int p2), (4, .int p3), (5, .int p4), (6, .int p5), (7, .int p6), (8, .int p7)] := hl
  refine lv_aload_n hx hb dX10_sell_0 rfl (lv_at hl 0 rfl) ?_
  refine lv_iconst (v := 0) hx hb dX10_sell_1 (by decide) ?_
  refine hp_puti (ci := 10) (ty := .int) (x := 0) hx hb hts ix_X10_sell_10 tyX10 tyX10_ok nmX10 hown hK h ho (by decide) rfl 0 1000 (by decide) (hts _ lk_X10_sell_127) (fun _ h9 => h9) rfl (by decide +kernel) rfl rfl (fun _ _ => rfl) (fun _ _ => Nat.le_of_ble_eq_true rfl) dX10_sell_2 (fun H locs w1 ew1 h => ?_)
  have hp := hp w1 ew1
  refine lv_aload_n hx hb dX10_sell_5 rfl (lv_at hl 0 rfl) ?_
  obtain ⟨b2, eb2, hob2, hp⟩ := hp
  refine hp_get (ci := 10) (v := .ref b2) hx hb hts ix_X10_sell_10 hown hK h ho (by decide) rfl 39 (by decide) (hts _ lk_X10_sell_93) (fun _ h9 => h9) (by show some (va_rf (zR z 1039 o)) = some (Value.ref b2); rw [eb2]; rfl) dX10_sell_6 ?_
  refine lv_iconst (v := 0) hx hb dX10_sell_9 (by decide) ?_
  refine lv_iload hx hb dX10_sell_10 (lv_at hl 4 rfl) ?_
  refine hp_iast (t := 2039) (n := 5) hx hb hK h hob2 (by decide) (fun _ _ _ => rfl) hp.1 dX10_sell_12 (fun H locs w3 ew3 h => ?_)
  have hp := hp.2 w3 ew3
  refine lv_aload_n hx hb dX10_sell_13 rfl (lv_at hl 0 rfl) ?_
  refine hp_get (ci := 10) (v := .ref b2) hx hb hts ix_X10_sell_10 hown hK h ho (by decide) rfl 39 (by decide) (hts _ lk_X10_sell_93) (fun _ h9 => h9) (by show some (va_rf (zR z 1039 o)) = some (Value.ref b2); rw [eb2]; rfl) dX10_sell_14 ?_
  refine lv_iconst (v := 1) hx hb dX10_sell_17 (by decide) ?_
  refine lv_iload hx hb dX10_sell_18 (lv_at hl 5 rfl) ?_
  refine hp_iast (t := 2039) (n := 5) hx hb hK h hob2 (by decide) (fun _ _ _ => rfl) hp.1 dX10_sell_20 (fun H locs w4 ew4 h => ?_)
  have hp := hp.2 w4 ew4
  refine lv_aload_n hx hb dX10_sell_21 rfl (lv_at hl 0 rfl) ?_
  refine hp_get (ci := 10) (v := .ref b2) hx hb hts ix_X10_sell_10 hown hK h ho (by decide) rfl 39 (by decide) (hts _ lk_X10_sell_93) (fun _ h9 => h9) (by show some (va_rf (zR z 1039 o)) = some (Value.ref b2); rw [eb2]; rfl) dX10_sell_22 ?_
  refine lv_iconst (v := 2) hx hb dX10_sell_25 (by decide) ?_
  refine lv_iload hx hb dX10_sell_26 (lv_at hl 6 rfl) ?_
  refine hp_iast (t := 2039) (n := 5) hx hb hK h hob2 (by decide) (fun _ _ _ => rfl) hp.1 dX10_sell_28 (fun H locs w5 ew5 h => ?_)
  have hp := hp.2 w5 ew5
  refine lv_aload_n hx hb dX10_sell_29 rfl (lv_at hl 0 rfl) ?_
  refine hp_get (ci := 10) (v := .ref b2) hx hb hts ix_X10_sell_10 hown hK h ho (by decide) rfl 39 (by decide) (hts _ lk_X10_sell_93) (fun _ h9 => h9) (by show some (va_rf (zR z 1039 o)) = some (Value.ref b2); rw [eb2]; rfl) dX10_sell_30 ?_
  refine lv_iconst (v := 3) hx hb dX10_sell_33 (by decide) ?_
  refine lv_iload hx hb dX10_sell_34 (lv_at hl 7 rfl) ?_
  refine hp_iast (t := 2039) (n := 5) hx hb hK h hob2 (by decide) (fun _ _ _ => rfl) hp.1 dX10_sell_36 (fun H locs w6 ew6 h => ?_)
  have hp := hp.2 w6 ew6
  refine lv_aload_n hx hb dX10_sell_37 rfl (lv_at hl 0 rfl) ?_
  refine hp_get (ci := 10) (v := .ref b2) hx hb hts ix_X10_sell_10 hown hK h ho (by decide) rfl 39 (by decide) (hts _ lk_X10_sell_93) (fun _ h9 => h9) (by show some (va_rf (zR z 1039 o)) = some (Value.ref b2); rw [eb2]; rfl) dX10_sell_38 ?_
  refine lv_iconst (v := 4) hx hb dX10_sell_41 (by decide) ?_
  refine lv_iload hx hb dX10_sell_42 (lv_at hl 8 rfl) ?_
  refine hp_iast (t := 2039) (n := 5) hx hb hK h hob2 (by decide) (fun _ _ _ => rfl) hp.1 dX10_sell_44 (fun H locs w7 ew7 h => ?_)
  have hp := hp.2 w7 ew7
  refine lv_iload_n hx hb dX10_sell_45 rfl (lv_at hl 2 rfl) ?_
  refine lv_iconst (v := 1) hx hb dX10_sell_46 (by decide) ?_
  refine lv_sipush (v := 1000) hx hb dX10_sell_47 (by decide) ?_
  refine hp_cSi ⟨hx, hb, hml, hown, hts⟩ (k_X10_in l G z w7 _ p1 1 1000 _ hp) (cwS 3 hts gX10_sell_X10_in rfl rfl rfl (by decide +kernel) ⟨Nat.le_of_ble_eq_true rfl, Nat.le_of_ble_eq_true rfl⟩) hK h hA hE rfl hl.1 rfl (Nat.le_of_ble_eq_true rfl) dX10_sell_50 ⟨Nat.le_of_ble_eq_true rfl, Nat.le_of_ble_eq_true rfl⟩ (fun r9 w8 H locs hp h => ?_)
  obtain ⟨J10, jJ10, hp⟩ := hp
  refine hp_jn1 (G := G) (A := A) (z := z) (J := J10) (nL := 16) (j := 70) (lvf := fun x11 => [(0, .ref o), (1, .int p0), (2, .int p1), (3, .int p2), (4, .int p3), (5, .int p4), (6, .int p5), (7, .int p6), (8, .int p7)]) (stf := fun x11 => [.int x11]) (fun kJ10 => ?_) (fun x11 w12 H locs ls hp h hl => ?_)
  · refine lv_if_eq (tgt := 69) hx hb dX10_sell_53 (by decide) (fun hc13 => ?_) (fun hc13 => ?_)
    · have hp := hp.1 hc13
      refine lv_iconst (v := 0) hx hb dX10_sell_69 (by decide) ?_
      exact kJ10 0 w8 _ _ _ hp h (lv_sub hl [0, 1, 2, 3, 4, 5, 6, 7, 8] rfl)
    · have hp := hp.2 hc13
      refine lv_iload_n hx hb dX10_sell_56 rfl (lv_at hl 3 rfl) ?_
      refine lv_iconst (v := 3) hx hb dX10_sell_57 (by decide) ?_
      refine lv_iconst (v := 5) hx hb dX10_sell_58 (by decide) ?_
      refine hp_cSi ⟨hx, hb, hml, hown, hts⟩ (k_X10_in l G z w8 _ p2 3 5 _ hp) (cwS 3 hts gX10_sell_X10_in rfl rfl rfl (by decide +kernel) ⟨Nat.le_of_ble_eq_true rfl, Nat.le_of_ble_eq_true rfl⟩) hK h hA hE rfl hl.1 rfl (Nat.le_of_ble_eq_true rfl) dX10_sell_59 ⟨Nat.le_of_ble_eq_true rfl, Nat.le_of_ble_eq_true rfl⟩ (fun r15 w14 H locs hp h => ?_)
      refine lv_if_eq (tgt := 69) hx hb dX10_sell_62 (by decide) (fun hc16 => ?_) (fun hc16 => ?_)
      · have hp := hp.1 hc16
        refine lv_iconst (v := 0) hx hb dX10_sell_69 (by decide) ?_
        exact kJ10 0 w14 _ _ _ hp h (lv_sub hl [0, 1, 2, 3, 4, 5, 6, 7, 8] rfl)
      · have hp := hp.2 hc16
        refine lv_iconst (v := 1) hx hb dX10_sell_65 (by decide) ?_
        refine lv_goto (tgt := 70) hx hb dX10_sell_66 (by decide) ?_
        exact kJ10 1 w14 _ _ _ hp h (lv_sub hl [0, 1, 2, 3, 4, 5, 6, 7, 8] rfl)
  have hp := jJ10 x11 w12 hp
  refine lv_istore (lv' := [(9, .int x11), (0, .ref o), (1, .int p0), (2, .int p1), (3, .int p2), (4, .int p3), (5, .int p4), (6, .int p5), (7, .int p6), (8, .int p7)]) hx hb dX10_sell_70 hl (by decide) rfl (fun ls hl => ?_)
  refine lv_iconst (v := 0) hx hb dX10_sell_72 (by decide) ?_
  refine lv_istore (lv' := [(10, .int 0), (9, .int x11), (0, .ref o), (1, .int p0), (2, .int p1), (3, .int p2), (4, .int p3), (5, .int p4), (6, .int p5), (7, .int p6), (8, .int p7)]) hx hb dX10_sell_73 hl (by decide) rfl (fun ls hl => ?_)
  obtain ⟨n23, hp⟩ := hp
  refine kL_X10_sell_75 C o ho _ _ (fun x24 x25 x26 x27 x28 x29 x30 x31 x32 x33 w34 H locs ls hp h hl => ?_) n23 0 x11 p0 p1 p2 p3 p4 p5 p6 p7 w12 _ _ _ hp h (lv_sub hl [0, 1, 2, 3, 4, 5, 6, 7, 8, 9, 10] rfl)
  refine lv_aload_n hx hb dX10_sell_107 rfl (lv_at hl 2 rfl) ?_
  refine lv_iload_n hx hb dX10_sell_108 rfl (lv_at hl 3 rfl) ?_
  refine hp_cSi ⟨hx, hb, hml, hown, hts⟩ (k_X10_noFamily l G z w34 _ x26 _ hp) (cwS 1 hts gX10_sell_X10_noFamily rfl rfl rfl (by decide +kernel) ⟨Nat.le_of_ble_eq_true rfl, Nat.le_of_ble_eq_true rfl⟩) hK h hA hE rfl hl.1 rfl (Nat.le_of_ble_eq_true rfl) dX10_sell_109 ⟨Nat.le_of_ble_eq_true rfl, Nat.le_of_ble_eq_true rfl⟩ (fun r36 w35 H locs hp h => ?_)
  refine lv_iconst (v := 1) hx hb dX10_sell_112 (by decide) ?_
  refine hp_cVi ⟨hx, hb, hml, hown, hts⟩ (k_X10_throwsIf l G z w35 _ o r36 1 _ hp) (cwV 2 hts gX10_sell_X10_throwsIf rfl rfl rfl (by decide +kernel) ⟨Nat.le_of_ble_eq_true rfl, Nat.le_of_ble_eq_true rfl⟩) ho (by decide) rfl hK h hA hE rfl hl.1 rfl (Nat.le_of_ble_eq_true rfl) dX10_sell_113 ⟨Nat.le_of_ble_eq_true rfl, Nat.le_of_ble_eq_true rfl⟩ (fun r38 w37 H locs hp h => ?_)
  refine lv_if_ne (tgt := 137) hx hb dX10_sell_116 (by decide) (fun hc39 => ?_) (fun hc39 => ?_)
  · have hp := hp.1 hc39
    refine lv_iconst (v := 0) hx hb dX10_sell_137 (by decide) ?_
    exact hp_iret hx hb hr rfl hlocks hK h hp dX10_sell_138
  · have hp := hp.2 hc39
    refine lv_aload_n hx hb dX10_sell_119 rfl (lv_at hl 2 rfl) ?_
    refine lv_iload hx hb dX10_sell_120 (lv_at hl 1 rfl) ?_
    obtain ⟨J40, jJ40, hp⟩ := hp
    refine hp_jn1 (G := G) (A := A) (z := z) (J := J40) (nL := 16) (j := 130) (lvf := fun x41 => [(10, .int x24), (9, .int x25), (0, .ref o), (1, .int x26), (2, .int x27), (3, .int x28), (4, .int x29), (5, .int x30), (6, .int x31), (7, .int x32), (8, .int x33)]) (stf := fun x41 => [.int x41, .ref o]) (fun kJ40 => ?_) (fun x41 w42 H locs ls hp h hl => ?_)
    · refine lv_if_ne (tgt := 129) hx hb dX10_sell_122 (by decide) (fun hc43 => ?_) (fun hc43 => ?_)
      · have hp := hp.1 hc43
        refine lv_iconst (v := 0) hx hb dX10_sell_129 (by decide) ?_
        exact kJ40 0 w37 _ _ _ hp h (lv_sub hl [0, 1, 2, 3, 4, 5, 6, 7, 8, 9, 10] rfl)
      · have hp := hp.2 hc43
        refine lv_iconst (v := 1) hx hb dX10_sell_125 (by decide) ?_
        refine lv_goto (tgt := 130) hx hb dX10_sell_126 (by decide) ?_
        exact kJ40 1 w37 _ _ _ hp h (lv_sub hl [0, 1, 2, 3, 4, 5, 6, 7, 8, 9, 10] rfl)
    have hp := jJ40 x41 w42 hp
    refine lv_iconst (v := 2) hx hb dX10_sell_130 (by decide) ?_
    refine hp_cVi ⟨hx, hb, hml, hown, hts⟩ (k_X10_throwsIf l G z w42 _ o x41 2 _ hp) (cwV 2 hts gX10_sell_X10_throwsIf rfl rfl rfl (by decide +kernel) ⟨Nat.le_of_ble_eq_true rfl, Nat.le_of_ble_eq_true rfl⟩) ho (by decide) rfl hK h hA hE rfl hl.1 rfl (Nat.le_of_ble_eq_true rfl) dX10_sell_131 ⟨Nat.le_of_ble_eq_true rfl, Nat.le_of_ble_eq_true rfl⟩ (fun r45 w44 H locs hp h => ?_)
    refine lv_if_eq (tgt := 139) hx hb dX10_sell_134 (by decide) (fun hc46 => ?_) (fun hc46 => ?_)
    · have hp := hp.1 hc46
      refine lv_aload_n hx hb dX10_sell_139 rfl (lv_at hl 2 rfl) ?_
      obtain ⟨b47, eb47, hob47, hp⟩ := hp
      refine hp_get (ci := 10) (v := .ref b47) hx hb hts ix_X10_sell_10 hown hK h ho (by decide) rfl 18 (by decide) (hts _ lk_X10_sell_52) (fun _ h9 => h9) (by show some (va_rf (zR z 1018 o)) = some (Value.ref b47); rw [eb47]; rfl) dX10_sell_140 ?_
      refine lv_iload_n hx hb dX10_sell_143 rfl (lv_at hl 3 rfl) ?_
      refine hp_iald (t := 2018) (n := 8) hx hb hK h hob47 (by decide) (fun _ _ _ => rfl) hp.1 dX10_sell_144 ?_
      have hp := hp.2
      refine lv_iload_n hx hb dX10_sell_145 rfl (lv_at hl 4 rfl) ?_
      refine lv_icmp_lt (tgt := 168) hx hb dX10_sell_146 (by decide) (fun hc48 => ?_) (fun hc48 => ?_)
      · have hp := hp.1 hc48
        refine lv_iconst (v := (-1)) hx hb dX10_sell_168 (by decide) ?_
        exact hp_iret hx hb hr rfl hlocks hK h hp dX10_sell_169
      · have hp := hp.2 hc48
        refine lv_aload_n hx hb dX10_sell_149 rfl (lv_at hl 2 rfl) ?_
        refine hp_get (ci := 10) (v := .int (vI w44 1041 o)) hx hb hts ix_X10_sell_10 hown hK h ho (by decide) rfl 41 (by decide) (hts _ lk_X10_sell_268) (fun _ h9 => h9) rfl dX10_sell_150 ?_
        refine lv_bipush (v := 60) hx hb dX10_sell_153 (by decide) ?_
        refine lv_icmp_eq (tgt := 168) hx hb dX10_sell_155 (by decide) (fun hc49 => ?_) (fun hc49 => ?_)
        · have hp := hp.1 hc49
          refine lv_iconst (v := (-1)) hx hb dX10_sell_168 (by decide) ?_
          exact hp_iret hx hb hr rfl hlocks hK h hp dX10_sell_169
        · have hp := hp.2 hc49
          refine lv_aload_n hx hb dX10_sell_158 rfl (lv_at hl 2 rfl) ?_
          refine hp_get (ci := 10) (v := .int (vI w44 1047 o)) hx hb hts ix_X10_sell_10 hown hK h ho (by decide) rfl 47 (by decide) (hts _ lk_X10_sell_265) (fun _ h9 => h9) rfl dX10_sell_159 ?_
          refine lv_sipush (v := 200) hx hb dX10_sell_162 (by decide) ?_
          refine lv_icmp_ne (tgt := 170) hx hb dX10_sell_165 (by decide) (fun hc50 => ?_) (fun hc50 => ?_)
          · have hp := hp.1 hc50
            refine lv_bipush (v := 100) hx hb dX10_sell_170 (by decide) ?_
            refine lv_istore (lv' := [(10, .int 100), (9, .int x25), (0, .ref o), (1, .int x26), (2, .int x27), (3, .int x28), (4, .int x29), (5, .int x30), (6, .int x31), (7, .int x32), (8, .int x33)]) hx hb dX10_sell_172 hl (by decide) rfl (fun ls hl => ?_)
            refine lv_iconst (v := 0) hx hb dX10_sell_174 (by decide) ?_
            refine lv_istore (lv' := [(11, .int 0), (10, .int 100), (9, .int x25), (0, .ref o), (1, .int x26), (2, .int x27), (3, .int x28), (4, .int x29), (5, .int x30), (6, .int x31), (7, .int x32), (8, .int x33)]) hx hb dX10_sell_175 hl (by decide) rfl (fun ls hl => ?_)
            refine lv_iconst (v := 0) hx hb dX10_sell_177 (by decide) ?_
            refine lv_istore (lv' := [(12, .int 0), (11, .int 0), (10, .int 100), (9, .int x25), (0, .ref o), (1, .int x26), (2, .int x27), (3, .int x28), (4, .int x29), (5, .int x30), (6, .int x31), (7, .int x32), (8, .int x33)]) hx hb dX10_sell_178 hl (by decide) rfl (fun ls hl => ?_)
            refine lv_iconst (v := 0) hx hb dX10_sell_180 (by decide) ?_
            refine lv_istore (lv' := [(13, .int 0), (12, .int 0), (11, .int 0), (10, .int 100), (9, .int x25), (0, .ref o), (1, .int x26), (2, .int x27), (3, .int x28), (4, .int x29), (5, .int x30), (6, .int x31), (7, .int x32), (8, .int x33)]) hx hb dX10_sell_181 hl (by decide) rfl (fun ls hl => ?_)
            obtain ⟨n86, hp⟩ := hp
            refine kL_X10_sell_183 C o ho _ _ (fun x87 x88 x89 x90 x91 x92 x93 x94 x95 x96 x97 x98 x99 w100 H locs ls hp h hl => ?_) n86 0 0 0 100 x25 x26 x27 x28 x29 x30 x31 x32 x33 w44 _ _ _ hp h (lv_sub hl [0, 1, 2, 3, 4, 5, 6, 7, 8, 9, 10, 11, 12, 13] rfl)
            refine lv_bipush (v := 6) hx hb dX10_sell_311 (by decide) ?_
            refine lv_aload_n hx hb dX10_sell_313 rfl (lv_at hl 5 rfl) ?_
            refine hp_get (ci := 10) (v := .int (vI w100 1041 o)) hx hb hts ix_X10_sell_10 hown hK h ho (by decide) rfl 41 (by decide) (hts _ lk_X10_sell_268) (fun _ h9 => h9) rfl dX10_sell_314 ?_
            refine lv_imul hx hb dX10_sell_317 ?_
            refine lv_topi (fun x101 ex101 => ?_)
            have hp := hp x101 ex101
            refine lv_istore (lv' := [(13, .int x101), (12, .int x88), (11, .int x89), (10, .int x90), (9, .int x91), (0, .ref o), (1, .int x92), (2, .int x93), (3, .int x94), (4, .int x95), (5, .int x96), (6, .int x97), (7, .int x98), (8, .int x99)]) hx hb dX10_sell_318 hl (by decide) rfl (fun ls hl => ?_)
            refine lv_aload_n hx hb dX10_sell_320 rfl (lv_at hl 5 rfl) ?_
            obtain ⟨b102, eb102, hob102, hp⟩ := hp
            refine hp_get (ci := 10) (v := .ref b102) hx hb hts ix_X10_sell_10 hown hK h ho (by decide) rfl 40 (by decide) (hts _ lk_X10_sell_96) (fun _ h9 => h9) (by show some (va_rf (zR z 1040 o)) = some (Value.ref b102); rw [eb102]; rfl) dX10_sell_321 ?_
            refine lv_iload hx hb dX10_sell_324 (lv_at hl 0 rfl) ?_
            refine lv_iload_n hx hb dX10_sell_326 rfl (lv_at hl 6 rfl) ?_
            refine hp_iast (t := 2040) (n := 360) hx hb hK h hob102 (by decide) (fun _ _ _ => rfl) hp.1 dX10_sell_327 (fun H locs w103 ew103 h => ?_)
            have hp := hp.2 w103 ew103
            refine lv_aload_n hx hb dX10_sell_328 rfl (lv_at hl 5 rfl) ?_
            refine hp_get (ci := 10) (v := .ref b102) hx hb hts ix_X10_sell_10 hown hK h ho (by decide) rfl 40 (by decide) (hts _ lk_X10_sell_96) (fun _ h9 => h9) (by show some (va_rf (zR z 1040 o)) = some (Value.ref b102); rw [eb102]; rfl) dX10_sell_329 ?_
            refine lv_iload hx hb dX10_sell_332 (lv_at hl 0 rfl) ?_
            refine lv_iconst (v := 1) hx hb dX10_sell_334 (by decide) ?_
            refine lv_iadd hx hb dX10_sell_335 ?_
            refine lv_iload_n hx hb dX10_sell_336 rfl (lv_at hl 7 rfl) ?_
            refine hp_iast (t := 2040) (n := 360) hx hb hK h hob102 (by decide) (fun _ _ _ => rfl) hp.1 dX10_sell_337 (fun H locs w104 ew104 h => ?_)
            have hp := hp.2 w104 ew104
            refine lv_aload_n hx hb dX10_sell_338 rfl (lv_at hl 5 rfl) ?_
            refine hp_get (ci := 10) (v := .ref b102) hx hb hts ix_X10_sell_10 hown hK h ho (by decide) rfl 40 (by decide) (hts _ lk_X10_sell_96) (fun _ h9 => h9) (by show some (va_rf (zR z 1040 o)) = some (Value.ref b102); rw [eb102]; rfl) dX10_sell_339 ?_
            refine lv_iload hx hb dX10_sell_342 (lv_at hl 0 rfl) ?_
            refine lv_iconst (v := 3) hx hb dX10_sell_344 (by decide) ?_
            refine lv_iadd hx hb dX10_sell_345 ?_
            refine lv_iload hx hb dX10_sell_346 (lv_at hl 2 rfl) ?_
            refine lv_iload hx hb dX10_sell_348 (lv_at hl 3 rfl) ?_
            refine lv_isub hx hb dX10_sell_350 ?_
            refine lv_bipush (v := 20) hx hb dX10_sell_351 (by decide) ?_
            obtain ⟨J105, jJ105, hp⟩ := hp
            refine hp_jn1 (G := G) (A := A) (z := z) (J := J105) (nL := 16) (j := 361) (lvf := fun x106 => [(13, .int x101), (12, .int x88), (11, .int x89), (10, .int x90), (9, .int x91), (0, .ref o), (1, .int x92), (2, .int x93), (3, .int x94), (4, .int x95), (5, .int x96), (6, .int x97), (7, .int x98), (8, .int x99)]) (stf := fun x106 => [.int x106, .int (x101 + 3), .ref b102]) (fun kJ105 => ?_) (fun x106 w107 H locs ls hp h hl => ?_)
            · refine lv_icmp_le (tgt := 360) hx hb dX10_sell_353 (by decide) (fun hc108 => ?_) (fun hc108 => ?_)
              · have hp := hp.1 hc108
                refine lv_iconst (v := 0) hx hb dX10_sell_360 (by decide) ?_
                exact kJ105 0 w104 _ _ _ hp h (lv_sub hl [0, 1, 2, 3, 4, 5, 6, 7, 8, 9, 10, 11, 12, 13] rfl)
              · have hp := hp.2 hc108
                refine lv_iconst (v := 1) hx hb dX10_sell_356 (by decide) ?_
                refine lv_goto (tgt := 361) hx hb dX10_sell_357 (by decide) ?_
                exact kJ105 1 w104 _ _ _ hp h (lv_sub hl [0, 1, 2, 3, 4, 5, 6, 7, 8, 9, 10, 11, 12, 13] rfl)
            have hp := jJ105 x106 w107 hp
            refine hp_iast (t := 2040) (n := 360) hx hb hK h hob102 (by decide) (fun _ _ _ => rfl) hp.1 dX10_sell_361 (fun H locs w109 ew109 h => ?_)
            have hp := hp.2 w109 ew109
            refine lv_aload_n hx hb dX10_sell_362 rfl (lv_at hl 5 rfl) ?_
            refine hp_get (ci := 10) (v := .ref b102) hx hb hts ix_X10_sell_10 hown hK h ho (by decide) rfl 40 (by decide) (hts _ lk_X10_sell_96) (fun _ h9 => h9) (by show some (va_rf (zR z 1040 o)) = some (Value.ref b102); rw [eb102]; rfl) dX10_sell_363 ?_
            refine lv_iload hx hb dX10_sell_366 (lv_at hl 0 rfl) ?_
            refine lv_iconst (v := 2) hx hb dX10_sell_368 (by decide) ?_
            refine lv_iadd hx hb dX10_sell_369 ?_
            refine lv_aload_n hx hb dX10_sell_370 rfl (lv_at hl 5 rfl) ?_
            refine hp_get (ci := 10) (v := .ref b102) hx hb hts ix_X10_sell_10 hown hK h ho (by decide) rfl 40 (by decide) (hts _ lk_X10_sell_96) (fun _ h9 => h9) (by show some (va_rf (zR z 1040 o)) = some (Value.ref b102); rw [eb102]; rfl) dX10_sell_371 ?_
            refine lv_iload hx hb dX10_sell_374 (lv_at hl 0 rfl) ?_
            refine lv_iconst (v := 3) hx hb dX10_sell_376 (by decide) ?_
            refine lv_iadd hx hb dX10_sell_377 ?_
            refine hp_iald (t := 2040) (n := 360) hx hb hK h hob102 (by decide) (fun _ _ _ => rfl) hp.1 dX10_sell_378 ?_
            have hp := hp.2
            refine lv_iconst (v := 1) hx hb dX10_sell_379 (by decide) ?_
            obtain ⟨J110, jJ110, hp⟩ := hp
            refine hp_jn1 (G := G) (A := A) (z := z) (J := J110) (nL := 16) (j := 390) (lvf := fun x111 => [(13, .int x101), (12, .int x88), (11, .int x89), (10, .int x90), (9, .int x91), (0, .ref o), (1, .int x92), (2, .int x93), (3, .int x94), (4, .int x95), (5, .int x96), (6, .int x97), (7, .int x98), (8, .int x99)]) (stf := fun x111 => [.int x111, .int (x101 + 2), .ref b102]) (fun kJ110 => ?_) (fun x111 w112 H locs ls hp h hl => ?_)
            · refine lv_icmp_ne (tgt := 388) hx hb dX10_sell_380 (by decide) (fun hc113 => ?_) (fun hc113 => ?_)
              · have hp := hp.1 hc113
                refine lv_iload hx hb dX10_sell_388 (lv_at hl 1 rfl) ?_
                exact kJ110 x88 w109 _ _ _ hp h (lv_sub hl [0, 1, 2, 3, 4, 5, 6, 7, 8, 9, 10, 11, 12, 13] rfl)
              · have hp := hp.2 hc113
                refine lv_iload hx hb dX10_sell_383 (lv_at hl 3 rfl) ?_
                refine lv_goto (tgt := 390) hx hb dX10_sell_385 (by decide) ?_
                exact kJ110 x90 w109 _ _ _ hp h (lv_sub hl [0, 1, 2, 3, 4, 5, 6, 7, 8, 9, 10, 11, 12, 13] rfl)
            have hp := jJ110 x111 w112 hp
            refine hp_iast (t := 2040) (n := 360) hx hb hK h hob102 (by decide) (fun _ _ _ => rfl) hp.1 dX10_sell_390 (fun H locs w114 ew114 h => ?_)
            have hp := hp.2 w114 ew114
            refine lv_aload_n hx hb dX10_sell_391 rfl (lv_at hl 5 rfl) ?_
            refine hp_get (ci := 10) (v := .ref b102) hx hb hts ix_X10_sell_10 hown hK h ho (by decide) rfl 40 (by decide) (hts _ lk_X10_sell_96) (fun _ h9 => h9) (by show some (va_rf (zR z 1040 o)) = some (Value.ref b102); rw [eb102]; rfl) dX10_sell_392 ?_
            refine lv_iload hx hb dX10_sell_395 (lv_at hl 0 rfl) ?_
            refine lv_iconst (v := 4) hx hb dX10_sell_397 (by decide) ?_
            refine lv_iadd hx hb dX10_sell_398 ?_
            refine lv_iload_n hx hb dX10_sell_399 rfl (lv_at hl 7 rfl) ?_
            refine lv_aload_n hx hb dX10_sell_400 rfl (lv_at hl 5 rfl) ?_
            refine hp_get (ci := 10) (v := .ref b102) hx hb hts ix_X10_sell_10 hown hK h ho (by decide) rfl 40 (by decide) (hts _ lk_X10_sell_96) (fun _ h9 => h9) (by show some (va_rf (zR z 1040 o)) = some (Value.ref b102); rw [eb102]; rfl) dX10_sell_401 ?_
            refine lv_iload hx hb dX10_sell_404 (lv_at hl 0 rfl) ?_
            refine lv_iconst (v := 2) hx hb dX10_sell_406 (by decide) ?_
            refine lv_iadd hx hb dX10_sell_407 ?_
            refine hp_iald (t := 2040) (n := 360) hx hb hK h hob102 (by decide) (fun _ _ _ => rfl) hp.1 dX10_sell_408 ?_
            have hp := hp.2
            refine lv_imul hx hb dX10_sell_409 ?_
            refine hp_iast (t := 2040) (n := 360) hx hb hK h hob102 (by decide) (fun _ _ _ => rfl) hp.1 dX10_sell_410 (fun H locs w115 ew115 h => ?_)
            have hp := hp.2 w115 ew115
            refine lv_aload_n hx hb dX10_sell_411 rfl (lv_at hl 5 rfl) ?_
            refine hp_get (ci := 10) (v := .ref b102) hx hb hts ix_X10_sell_10 hown hK h ho (by decide) rfl 40 (by decide) (hts _ lk_X10_sell_96) (fun _ h9 => h9) (by show some (va_rf (zR z 1040 o)) = some (Value.ref b102); rw [eb102]; rfl) dX10_sell_412 ?_
            refine lv_iload hx hb dX10_sell_415 (lv_at hl 0 rfl) ?_
            refine lv_iconst (v := 5) hx hb dX10_sell_417 (by decide) ?_
            refine lv_iadd hx hb dX10_sell_418 ?_
            refine lv_aload_n hx hb dX10_sell_419 rfl (lv_at hl 5 rfl) ?_
            refine lv_iload_n hx hb dX10_sell_420 rfl (lv_at hl 6 rfl) ?_
            refine lv_aload_n hx hb dX10_sell_421 rfl (lv_at hl 5 rfl) ?_
            refine hp_get (ci := 10) (v := .ref b102) hx hb hts ix_X10_sell_10 hown hK h ho (by decide) rfl 40 (by decide) (hts _ lk_X10_sell_96) (fun _ h9 => h9) (by show some (va_rf (zR z 1040 o)) = some (Value.ref b102); rw [eb102]; rfl) dX10_sell_422 ?_
            refine lv_iload hx hb dX10_sell_425 (lv_at hl 0 rfl) ?_
            refine lv_iconst (v := 4) hx hb dX10_sell_427 (by decide) ?_
            refine lv_iadd hx hb dX10_sell_428 ?_
            refine hp_iald (t := 2040) (n := 360) hx hb hK h hob102 (by decide) (fun _ _ _ => rfl) hp.1 dX10_sell_429 ?_
            have hp := hp.2
            refine lv_aload_n hx hb dX10_sell_430 rfl (lv_at hl 5 rfl) ?_
            refine hp_get (ci := 10) (v := .int (vI w115 1001 o)) hx hb hts ix_X10_sell_10 hown hK h ho (by decide) rfl 1 (by decide) (hts _ lk_X10_sell_148) (fun _ h9 => h9) rfl dX10_sell_431 ?_
            refine hp_cVi ⟨hx, hb, hml, hown, hts⟩ (k_X10_enters l G z w115 _ o x92 (vA w115 2040 b102 (x101 + 4 : Int32).toNatClampNeg) (vI w115 1001 o) _ hp) (cwV 3 hts gX10_sell_X10_enters rfl rfl rfl (by decide +kernel) ⟨Nat.le_of_ble_eq_true rfl, Nat.le_of_ble_eq_true rfl⟩) ho (by decide) rfl hK h hA hE rfl hl.1 rfl (Nat.le_of_ble_eq_true rfl) dX10_sell_434 ⟨Nat.le_of_ble_eq_true rfl, Nat.le_of_ble_eq_true rfl⟩ (fun r117 w116 H locs hp h => ?_)
            refine hp_iast (t := 2040) (n := 360) hx hb hK h hob102 (by decide) (fun _ _ _ => rfl) hp.1 dX10_sell_437 (fun H locs w118 ew118 h => ?_)
            have hp := hp.2 w118 ew118
            refine lv_aload_n hx hb dX10_sell_438 rfl (lv_at hl 5 rfl) ?_
            refine hp_get (ci := 10) (v := .ref b47) hx hb hts ix_X10_sell_10 hown hK h ho (by decide) rfl 18 (by decide) (hts _ lk_X10_sell_52) (fun _ h9 => h9) (by show some (va_rf (zR z 1018 o)) = some (Value.ref b47); rw [eb47]; rfl) dX10_sell_439 ?_
            refine lv_iload_n hx hb dX10_sell_442 rfl (lv_at hl 6 rfl) ?_
            refine lv_dup2_11 hx hb dX10_sell_443 rfl rfl ?_
            refine hp_iald (t := 2018) (n := 8) hx hb hK h hob47 (by decide) (fun _ _ _ => rfl) hp.1 dX10_sell_444 ?_
            have hp := hp.2
            refine lv_iload_n hx hb dX10_sell_445 rfl (lv_at hl 7 rfl) ?_
            refine lv_isub hx hb dX10_sell_446 ?_
            refine hp_iast (t := 2018) (n := 8) hx hb hK h hob47 (by decide) (fun _ _ _ => rfl) hp.1 dX10_sell_447 (fun H locs w119 ew119 h => ?_)
            have hp := hp.2 w119 ew119
            refine lv_aload_n hx hb dX10_sell_448 rfl (lv_at hl 5 rfl) ?_
            refine lv_dup hx hb dX10_sell_449 rfl ?_
            refine hp_get (ci := 10) (v := .int (vI w119 1041 o)) hx hb hts ix_X10_sell_10 hown hK h ho (by decide) rfl 41 (by decide) (hts _ lk_X10_sell_268) (fun _ h9 => h9) rfl dX10_sell_450 ?_
            refine lv_iconst (v := 1) hx hb dX10_sell_453 (by decide) ?_
            refine lv_iadd hx hb dX10_sell_454 ?_
            refine hp_puti (ci := 10) (ty := .int) (x := (vI w119 1041 o) + 1) hx hb hts ix_X10_sell_10 tyX10 tyX10_ok nmX10 hown hK h ho (by decide) rfl 41 1041 (by decide) (hts _ lk_X10_sell_268) (fun _ h9 => h9) rfl (by decide +kernel) rfl rfl (fun _ _ => rfl) (fun _ _ => Nat.le_of_ble_eq_true rfl) dX10_sell_455 (fun H locs w120 ew120 h => ?_)
            have hp := hp w120 ew120
            refine lv_aload_n hx hb dX10_sell_458 rfl (lv_at hl 5 rfl) ?_
            refine hp_get (ci := 10) (v := .int (vI w120 1041 o)) hx hb hts ix_X10_sell_10 hown hK h ho (by decide) rfl 41 (by decide) (hts _ lk_X10_sell_268) (fun _ h9 => h9) rfl dX10_sell_459 ?_
            refine lv_iconst (v := 1) hx hb dX10_sell_462 (by decide) ?_
            refine lv_isub hx hb dX10_sell_463 ?_
            exact hp_iret hx hb hr rfl hlocks hK h hp dX10_sell_464
          · have hp := hp.2 hc50
            refine lv_iconst (v := (-1)) hx hb dX10_sell_168 (by decide) ?_
            exact hp_iret hx hb hr rfl hlocks hK h hp dX10_sell_169
    · have hp := hp.2 hc46
      refine lv_iconst (v := 0) hx hb dX10_sell_137 (by decide) ?_
      exact hp_iret hx hb hr rfl hlocks hK h hp dX10_sell_138
abbrev rmX10_lot : Room := { frames := 1, cells := 0, slots := 0, locals := 22 }
theorem ix_X10_lot_10 : ∀ w ∈ wsX100, w ∈ wsX10_lot := by decide +kernel
theorem lk_X10_lot_127 : Cond.fieldLink RX10 127 "KelpShoresModel" "thrown" "I" ∈ wsX10_lot := by decide +kernel
theorem lk_X10_lot_268 : Cond.fieldLink RX10 268 "KelpShoresModel" "lots" "I" ∈ wsX10_lot := by decide +kernel
theorem lk_X10_lot_96 : Cond.fieldLink RX10 96 "KelpShoresModel" "lot" "[I" ∈ wsX10_lot := by decide +kernel
def wp_X10_lot (z : Zt) (o : Nat) (p0 : Int32) (p1 : Int32) (w : Vt) (K : Int32 → Vt → Prop) : Prop := isO z 10 o ∧ ∀ w1 : Vt, w1 = uI w 1000 o 0 → wp_X10_in z p0 0 ((vI w1 1041 o) - 1) w1 (fun r3 w2 => ∃ J4 : Int32 → Vt → Prop, (∀ (x5 : Int32) (w6 : Vt), J4 x5 w6 → wp_X10_throwsIf z o x5 1 w6 (fun r9 w8 => (¬ r9 = 0 → K 0 w8) ∧ (r9 = 0 → wp_X10_in z p1 0 5 w8 (fun r12 w11 => ∃ J13 : Int32 → Vt → Prop, (∀ (x14 : Int32) (w15 : Vt), J13 x14 w15 → wp_X10_throwsIf z o x14 2 w15 (fun r18 w17 => (r18 = 0 → ∃ b20 : Nat, zR z 1040 o = some b20 ∧ isO z 2040 b20 ∧ vp_in ((6 * p0) + p1) 360 ∧ K (vA w17 2040 b20 ((6 * p0) + p1 : Int32).toNatClampNeg) w17) ∧ (¬ r18 = 0 → K 0 w17))) ∧ (¬ r12 = 0 → J13 0 w11) ∧ (r12 = 0 → J13 1 w11))))) ∧ (¬ r3 = 0 → J4 0 w2) ∧ (r3 = 0 → J4 1 w2))
set_option maxHeartbeats 4000000 in
set_option maxRecDepth 100000 in
theorem k_X10_lot (l : Launch) (G : Gt) (z : Zt) (w : Vt) (sz : Nat) (o : Nat) (p0 : Int32) (p1 : Int32) (K : Int32 → Vt → Prop) (hp : wp_X10_lot z o p0 p1 w K) : MI l yX10_lot wsX10_lot rmX10_lot G z w sz [.ref o, .int p0, .int p1] K := by
  refine Met.ofW (cc := cX10_lot) (maxL := 3) (ret := (some .int)) (by decide +kernel) rfl ?_
  intro p e s m args below meth c s₁ B hml hv
  obtain ⟨rfl, rfl, C, h⟩ := hp_start B hml hv
  generalize gA G z w s.heap.size = A at C h ⊢
  obtain ⟨hx, hb, hr, hlocks, hml, hown, hts, hK, hA, hE⟩ := id C
  obtain ⟨ho, hp⟩ := hp
  have hl := lv_entry ([.ref o, .int p0, .int p1]) (n := 3) (Nat.le_of_ble_eq_true rfl)
  rw [lg_entry_eq]
  generalize (lg_sl ([.ref o, .int p0, .int p1]) ++ List.replicate (3 - (lg_sl ([.ref o, .int p0, .int p1])).length) Slot.unset).toArray = ls at hl ⊢
  have hl : lv_has ls 3 [(0, .ref o), (1, .int p0), (2, .int p1)] := hl
  refine lv_aload_n hx hb dX10_lot_0 rfl (lv_at hl 0 rfl) ?_
  refine lv_iconst (v := 0) hx hb dX10_lot_1 (by decide) ?_
  refine hp_puti (ci := 10) (ty := .int) (x := 0) hx hb hts ix_X10_lot_10 tyX10 tyX10_ok nmX10 hown hK h ho (by decide) rfl 0 1000 (by decide) (hts _ lk_X10_lot_127) (fun _ h9 => h9) rfl (by decide +kernel) rfl rfl (fun _ _ => rfl) (fun _ _ => Nat.le_of_ble_eq_true rfl) dX10_lot_2 (fun H locs w1 ew1 h => ?_)
  have hp := hp w1 ew1
  refine lv_aload_n hx hb dX10_lot_5 rfl (lv_at hl 0 rfl) ?_
  refine lv_iload_n hx hb dX10_lot_6 rfl (lv_at hl 1 rfl) ?_
  refine lv_iconst (v := 0) hx hb dX10_lot_7 (by decide) ?_
  refine lv_aload_n hx hb dX10_lot_8 rfl (lv_at hl 0 rfl) ?_
  refine hp_get (ci := 10) (v := .int (vI w1 1041 o)) hx hb hts ix_X10_lot_10 hown hK h ho (by decide) rfl 41 (by decide) (hts _ lk_X10_lot_268) (fun _ h9 => h9) rfl dX10_lot_9 ?_
  refine lv_iconst (v := 1) hx hb dX10_lot_12 (by decide) ?_
  refine lv_isub hx hb dX10_lot_13 ?_
  refine hp_cSi ⟨hx, hb, hml, hown, hts⟩ (k_X10_in l G z w1 _ p0 0 ((vI w1 1041 o) - 1) _ hp) (cwS 3 hts gX10_lot_X10_in rfl rfl rfl (by decide +kernel) ⟨Nat.le_of_ble_eq_true rfl, Nat.le_of_ble_eq_true rfl⟩) hK h hA hE rfl hl.1 rfl (Nat.le_of_ble_eq_true rfl) dX10_lot_14 ⟨Nat.le_of_ble_eq_true rfl, Nat.le_of_ble_eq_true rfl⟩ (fun r3 w2 H locs hp h => ?_)
  obtain ⟨J4, jJ4, hp⟩ := hp
  refine hp_jn1 (G := G) (A := A) (z := z) (J := J4) (nL := 3) (j := 25) (lvf := fun x5 => [(0, .ref o), (1, .int p0), (2, .int p1)]) (stf := fun x5 => [.int x5, .ref o]) (fun kJ4 => ?_) (fun x5 w6 H locs ls hp h hl => ?_)
  · refine lv_if_ne (tgt := 24) hx hb dX10_lot_17 (by decide) (fun hc7 => ?_) (fun hc7 => ?_)
    · have hp := hp.1 hc7
      refine lv_iconst (v := 0) hx hb dX10_lot_24 (by decide) ?_
      exact kJ4 0 w2 _ _ _ hp h (lv_sub hl [0, 1, 2] rfl)
    · have hp := hp.2 hc7
      refine lv_iconst (v := 1) hx hb dX10_lot_20 (by decide) ?_
      refine lv_goto (tgt := 25) hx hb dX10_lot_21 (by decide) ?_
      exact kJ4 1 w2 _ _ _ hp h (lv_sub hl [0, 1, 2] rfl)
  have hp := jJ4 x5 w6 hp
  refine lv_iconst (v := 1) hx hb dX10_lot_25 (by decide) ?_
  refine hp_cVi ⟨hx, hb, hml, hown, hts⟩ (k_X10_throwsIf l G z w6 _ o x5 1 _ hp) (cwV 2 hts gX10_lot_X10_throwsIf rfl rfl rfl (by decide +kernel) ⟨Nat.le_of_ble_eq_true rfl, Nat.le_of_ble_eq_true rfl⟩) ho (by decide) rfl hK h hA hE rfl hl.1 rfl (Nat.le_of_ble_eq_true rfl) dX10_lot_26 ⟨Nat.le_of_ble_eq_true rfl, Nat.le_of_ble_eq_true rfl⟩ (fun r9 w8 H locs hp h => ?_)
  refine lv_if_ne (tgt := 54) hx hb dX10_lot_29 (by decide) (fun hc10 => ?_) (fun hc10 => ?_)
  · have hp := hp.1 hc10
    refine lv_iconst (v := 0) hx hb dX10_lot_54 (by decide) ?_
    refine lv_goto (tgt := 69) hx hb dX10_lot_55 (by decide) ?_
    exact hp_iret hx hb hr rfl hlocks hK h hp dX10_lot_69
  · have hp := hp.2 hc10
    refine lv_aload_n hx hb dX10_lot_32 rfl (lv_at hl 0 rfl) ?_
    refine lv_iload_n hx hb dX10_lot_33 rfl (lv_at hl 2 rfl) ?_
    refine lv_iconst (v := 0) hx hb dX10_lot_34 (by decide) ?_
    refine lv_iconst (v := 5) hx hb dX10_lot_35 (by decide) ?_
    refine hp_cSi ⟨hx, hb, hml, hown, hts⟩ (k_X10_in l G z w8 _ p1 0 5 _ hp) (cwS 3 hts gX10_lot_X10_in rfl rfl rfl (by decide +kernel) ⟨Nat.le_of_ble_eq_true rfl, Nat.le_of_ble_eq_true rfl⟩) hK h hA hE rfl hl.1 rfl (Nat.le_of_ble_eq_true rfl) dX10_lot_36 ⟨Nat.le_of_ble_eq_true rfl, Nat.le_of_ble_eq_true rfl⟩ (fun r12 w11 H locs hp h => ?_)
    obtain ⟨J13, jJ13, hp⟩ := hp
    refine hp_jn1 (G := G) (A := A) (z := z) (J := J13) (nL := 3) (j := 47) (lvf := fun x14 => [(0, .ref o), (1, .int p0), (2, .int p1)]) (stf := fun x14 => [.int x14, .ref o]) (fun kJ13 => ?_) (fun x14 w15 H locs ls hp h hl => ?_)
    · refine lv_if_ne (tgt := 46) hx hb dX10_lot_39 (by decide) (fun hc16 => ?_) (fun hc16 => ?_)
      · have hp := hp.1 hc16
        refine lv_iconst (v := 0) hx hb dX10_lot_46 (by decide) ?_
        exact kJ13 0 w11 _ _ _ hp h (lv_sub hl [0, 1, 2] rfl)
      · have hp := hp.2 hc16
        refine lv_iconst (v := 1) hx hb dX10_lot_42 (by decide) ?_
        refine lv_goto (tgt := 47) hx hb dX10_lot_43 (by decide) ?_
        exact kJ13 1 w11 _ _ _ hp h (lv_sub hl [0, 1, 2] rfl)
    have hp := jJ13 x14 w15 hp
    refine lv_iconst (v := 2) hx hb dX10_lot_47 (by decide) ?_
    refine hp_cVi ⟨hx, hb, hml, hown, hts⟩ (k_X10_throwsIf l G z w15 _ o x14 2 _ hp) (cwV 2 hts gX10_lot_X10_throwsIf rfl rfl rfl (by decide +kernel) ⟨Nat.le_of_ble_eq_true rfl, Nat.le_of_ble_eq_true rfl⟩) ho (by decide) rfl hK h hA hE rfl hl.1 rfl (Nat.le_of_ble_eq_true rfl) dX10_lot_48 ⟨Nat.le_of_ble_eq_true rfl, Nat.le_of_ble_eq_true rfl⟩ (fun r18 w17 H locs hp h => ?_)
    refine lv_if_eq (tgt := 58) hx hb dX10_lot_51 (by decide) (fun hc19 => ?_) (fun hc19 => ?_)
    · have hp := hp.1 hc19
      refine lv_aload_n hx hb dX10_lot_58 rfl (lv_at hl 0 rfl) ?_
      obtain ⟨b20, eb20, hob20, hp⟩ := hp
      refine hp_get (ci := 10) (v := .ref b20) hx hb hts ix_X10_lot_10 hown hK h ho (by decide) rfl 40 (by decide) (hts _ lk_X10_lot_96) (fun _ h9 => h9) (by show some (va_rf (zR z 1040 o)) = some (Value.ref b20); rw [eb20]; rfl) dX10_lot_59 ?_
      refine lv_bipush (v := 6) hx hb dX10_lot_62 (by decide) ?_
      refine lv_iload_n hx hb dX10_lot_64 rfl (lv_at hl 1 rfl) ?_
      refine lv_imul hx hb dX10_lot_65 ?_
      refine lv_iload_n hx hb dX10_lot_66 rfl (lv_at hl 2 rfl) ?_
      refine lv_iadd hx hb dX10_lot_67 ?_
      refine hp_iald (t := 2040) (n := 360) hx hb hK h hob20 (by decide) (fun _ _ _ => rfl) hp.1 dX10_lot_68 ?_
      have hp := hp.2
      exact hp_iret hx hb hr rfl hlocks hK h hp dX10_lot_69
    · have hp := hp.2 hc19
      refine lv_iconst (v := 0) hx hb dX10_lot_54 (by decide) ?_
      refine lv_goto (tgt := 69) hx hb dX10_lot_55 (by decide) ?_
      exact hp_iret hx hb hr rfl hlocks hK h hp dX10_lot_69
abbrev rmX10_enter : Room := { frames := 2, cells := 0, slots := 0, locals := 42 }
theorem ix_X10_enter_10 : ∀ w ∈ wsX100, w ∈ wsX10_enter := by decide +kernel
theorem lk_X10_enter_127 : Cond.fieldLink RX10 127 "KelpShoresModel" "thrown" "I" ∈ wsX10_enter := by decide +kernel
theorem wd_X10_enter_c277 : Cond.constant RX10 277 (-100000) ∈ wsX10_enter := by decide +kernel
theorem wd_X10_enter_c278 : Cond.constant RX10 278 (100000) ∈ wsX10_enter := by decide +kernel
def wp_X10_enter (z : Zt) (o : Nat) (p0 : Int32) (p1 : Int32) (p2 : Int32) (w : Vt) (K : Int32 → Vt → Prop) : Prop := isO z 10 o ∧ ∀ w1 : Vt, w1 = uI w 1000 o 0 → wp_X10_noFamily z p0 w1 (fun r3 w2 => wp_X10_throwsIf z o r3 1 w2 (fun r5 w4 => (¬ r5 = 0 → K 0 w4) ∧ (r5 = 0 → wp_X10_in z p1 (-100000) 100000 w4 (fun r8 w7 => ∃ J9 : Int32 → Vt → Prop, (∀ (x10 : Int32) (w11 : Vt), J9 x10 w11 → wp_X10_throwsIf z o x10 2 w11 (fun r17 w16 => (r17 = 0 → wp_X10_enters z o p0 p1 p2 w16 (fun r20 w19 => K r20 w19)) ∧ (¬ r17 = 0 → K 0 w16))) ∧ (r8 = 0 → J9 1 w7) ∧ (¬ r8 = 0 → wp_X10_in z p2 0 9999 w7 (fun r14 w13 => (¬ r14 = 0 → J9 0 w13) ∧ (r14 = 0 → J9 1 w13)))))))
set_option maxHeartbeats 4000000 in
set_option maxRecDepth 100000 in
theorem k_X10_enter (l : Launch) (G : Gt) (z : Zt) (w : Vt) (sz : Nat) (o : Nat) (p0 : Int32) (p1 : Int32) (p2 : Int32) (K : Int32 → Vt → Prop) (hp : wp_X10_enter z o p0 p1 p2 w K) : MI l yX10_enter wsX10_enter rmX10_enter G z w sz [.ref o, .int p0, .int p1, .int p2] K := by
  refine Met.ofW (cc := cX10_enter) (maxL := 4) (ret := (some .int)) (by decide +kernel) rfl ?_
  intro p e s m args below meth c s₁ B hml hv
  obtain ⟨rfl, rfl, C, h⟩ := hp_start B hml hv
  generalize gA G z w s.heap.size = A at C h ⊢
  obtain ⟨hx, hb, hr, hlocks, hml, hown, hts, hK, hA, hE⟩ := id C
  obtain ⟨ho, hp⟩ := hp
  have hl := lv_entry ([.ref o, .int p0, .int p1, .int p2]) (n := 4) (Nat.le_of_ble_eq_true rfl)
  rw [lg_entry_eq]
  generalize (lg_sl ([.ref o, .int p0, .int p1, .int p2]) ++ List.replicate (4 - (lg_sl ([.ref o, .int p0, .int p1, .int p2])).length) Slot.unset).toArray = ls at hl ⊢
  have hl : lv_has ls 4 [(0, .ref o), (1, .int p0), (2, .int p1), (3, .int p2)] := hl
  refine lv_aload_n hx hb dX10_enter_0 rfl (lv_at hl 0 rfl) ?_
  refine lv_iconst (v := 0) hx hb dX10_enter_1 (by decide) ?_
  refine hp_puti (ci := 10) (ty := .int) (x := 0) hx hb hts ix_X10_enter_10 tyX10 tyX10_ok nmX10 hown hK h ho (by decide) rfl 0 1000 (by decide) (hts _ lk_X10_enter_127) (fun _ h9 => h9) rfl (by decide +kernel) rfl rfl (fun _ _ => rfl) (fun _ _ => Nat.le_of_ble_eq_true rfl) dX10_enter_2 (fun H locs w1 ew1 h => ?_)
  have hp := hp w1 ew1
  refine lv_aload_n hx hb dX10_enter_5 rfl (lv_at hl 0 rfl) ?_
  refine lv_iload_n hx hb dX10_enter_6 rfl (lv_at hl 1 rfl) ?_
  refine hp_cSi ⟨hx, hb, hml, hown, hts⟩ (k_X10_noFamily l G z w1 _ p0 _ hp) (cwS 1 hts gX10_enter_X10_noFamily rfl rfl rfl (by decide +kernel) ⟨Nat.le_of_ble_eq_true rfl, Nat.le_of_ble_eq_true rfl⟩) hK h hA hE rfl hl.1 rfl (Nat.le_of_ble_eq_true rfl) dX10_enter_7 ⟨Nat.le_of_ble_eq_true rfl, Nat.le_of_ble_eq_true rfl⟩ (fun r3 w2 H locs hp h => ?_)
  refine lv_iconst (v := 1) hx hb dX10_enter_10 (by decide) ?_
  refine hp_cVi ⟨hx, hb, hml, hown, hts⟩ (k_X10_throwsIf l G z w2 _ o r3 1 _ hp) (cwV 2 hts gX10_enter_X10_throwsIf rfl rfl rfl (by decide +kernel) ⟨Nat.le_of_ble_eq_true rfl, Nat.le_of_ble_eq_true rfl⟩) ho (by decide) rfl hK h hA hE rfl hl.1 rfl (Nat.le_of_ble_eq_true rfl) dX10_enter_11 ⟨Nat.le_of_ble_eq_true rfl, Nat.le_of_ble_eq_true rfl⟩ (fun r5 w4 H locs hp h => ?_)
  refine lv_if_ne (tgt := 54) hx hb dX10_enter_14 (by decide) (fun hc6 => ?_) (fun hc6 => ?_)
  · have hp := hp.1 hc6
    refine lv_iconst (v := 0) hx hb dX10_enter_54 (by decide) ?_
    exact hp_iret hx hb hr rfl hlocks hK h hp dX10_enter_55
  · have hp := hp.2 hc6
    refine lv_aload_n hx hb dX10_enter_17 rfl (lv_at hl 0 rfl) ?_
    refine lv_iload_n hx hb dX10_enter_18 rfl (lv_at hl 2 rfl) ?_
    refine lv_ldcw (v := (-100000)) hx hb hown (hts _ wd_X10_enter_c277) dX10_enter_19 ?_
    refine lv_ldcw (v := 100000) hx hb hown (hts _ wd_X10_enter_c278) dX10_enter_22 ?_
    refine hp_cSi ⟨hx, hb, hml, hown, hts⟩ (k_X10_in l G z w4 _ p1 (-100000) 100000 _ hp) (cwS 3 hts gX10_enter_X10_in rfl rfl rfl (by decide +kernel) ⟨Nat.le_of_ble_eq_true rfl, Nat.le_of_ble_eq_true rfl⟩) hK h hA hE rfl hl.1 rfl (Nat.le_of_ble_eq_true rfl) dX10_enter_25 ⟨Nat.le_of_ble_eq_true rfl, Nat.le_of_ble_eq_true rfl⟩ (fun r8 w7 H locs hp h => ?_)
    obtain ⟨J9, jJ9, hp⟩ := hp
    refine hp_jn1 (G := G) (A := A) (z := z) (J := J9) (nL := 4) (j := 47) (lvf := fun x10 => [(0, .ref o), (1, .int p0), (2, .int p1), (3, .int p2)]) (stf := fun x10 => [.int x10, .ref o]) (fun kJ9 => ?_) (fun x10 w11 H locs ls hp h hl => ?_)
    · refine lv_if_eq (tgt := 42) hx hb dX10_enter_28 (by decide) (fun hc12 => ?_) (fun hc12 => ?_)
      · have hp := hp.1 hc12
        refine lv_iconst (v := 1) hx hb dX10_enter_42 (by decide) ?_
        refine lv_goto (tgt := 47) hx hb dX10_enter_43 (by decide) ?_
        exact kJ9 1 w7 _ _ _ hp h (lv_sub hl [0, 1, 2, 3] rfl)
      · have hp := hp.2 hc12
        refine lv_iload_n hx hb dX10_enter_31 rfl (lv_at hl 3 rfl) ?_
        refine lv_iconst (v := 0) hx hb dX10_enter_32 (by decide) ?_
        refine lv_sipush (v := 9999) hx hb dX10_enter_33 (by decide) ?_
        refine hp_cSi ⟨hx, hb, hml, hown, hts⟩ (k_X10_in l G z w7 _ p2 0 9999 _ hp) (cwS 3 hts gX10_enter_X10_in rfl rfl rfl (by decide +kernel) ⟨Nat.le_of_ble_eq_true rfl, Nat.le_of_ble_eq_true rfl⟩) hK h hA hE rfl hl.1 rfl (Nat.le_of_ble_eq_true rfl) dX10_enter_36 ⟨Nat.le_of_ble_eq_true rfl, Nat.le_of_ble_eq_true rfl⟩ (fun r14 w13 H locs hp h => ?_)
        refine lv_if_ne (tgt := 46) hx hb dX10_enter_39 (by decide) (fun hc15 => ?_) (fun hc15 => ?_)
        · have hp := hp.1 hc15
          refine lv_iconst (v := 0) hx hb dX10_enter_46 (by decide) ?_
          exact kJ9 0 w13 _ _ _ hp h (lv_sub hl [0, 1, 2, 3] rfl)
        · have hp := hp.2 hc15
          refine lv_iconst (v := 1) hx hb dX10_enter_42 (by decide) ?_
          refine lv_goto (tgt := 47) hx hb dX10_enter_43 (by decide) ?_
          exact kJ9 1 w13 _ _ _ hp h (lv_sub hl [0, 1, 2, 3] rfl)
    have hp := jJ9 x10 w11 hp
    refine lv_iconst (v := 2) hx hb dX10_enter_47 (by decide) ?_
    refine hp_cVi ⟨hx, hb, hml, hown, hts⟩ (k_X10_throwsIf l G z w11 _ o x10 2 _ hp) (cwV 2 hts gX10_enter_X10_throwsIf rfl rfl rfl (by decide +kernel) ⟨Nat.le_of_ble_eq_true rfl, Nat.le_of_ble_eq_true rfl⟩) ho (by decide) rfl hK h hA hE rfl hl.1 rfl (Nat.le_of_ble_eq_true rfl) dX10_enter_48 ⟨Nat.le_of_ble_eq_true rfl, Nat.le_of_ble_eq_true rfl⟩ (fun r17 w16 H locs hp h => ?_)
    refine lv_if_eq (tgt := 56) hx hb dX10_enter_51 (by decide) (fun hc18 => ?_) (fun hc18 => ?_)
    · have hp := hp.1 hc18
      refine lv_aload_n hx hb dX10_enter_56 rfl (lv_at hl 0 rfl) ?_
      refine lv_iload_n hx hb dX10_enter_57 rfl (lv_at hl 1 rfl) ?_
      refine lv_iload_n hx hb dX10_enter_58 rfl (lv_at hl 2 rfl) ?_
      refine lv_iload_n hx hb dX10_enter_59 rfl (lv_at hl 3 rfl) ?_
      refine hp_cVi ⟨hx, hb, hml, hown, hts⟩ (k_X10_enters l G z w16 _ o p0 p1 p2 _ hp) (cwV 3 hts gX10_enter_X10_enters rfl rfl rfl (by decide +kernel) ⟨Nat.le_of_ble_eq_true rfl, Nat.le_of_ble_eq_true rfl⟩) ho (by decide) rfl hK h hA hE rfl hl.1 rfl (Nat.le_of_ble_eq_true rfl) dX10_enter_60 ⟨Nat.le_of_ble_eq_true rfl, Nat.le_of_ble_eq_true rfl⟩ (fun r20 w19 H locs hp h => ?_)
      exact hp_iret hx hb hr rfl hlocks hK h hp dX10_enter_63
    · have hp := hp.2 hc18
      refine lv_iconst (v := 0) hx hb dX10_enter_54 (by decide) ?_
      exact hp_iret hx hb hr rfl hlocks hK h hp dX10_enter_55
abbrev rmX10_undo : Room := { frames := 1, cells := 0, slots := 0, locals := 22 }
theorem ix_X10_undo_10 : ∀ w ∈ wsX100, w ∈ wsX10_undo := by decide +kernel
theorem lk_X10_undo_127 : Cond.fieldLink RX10 127 "KelpShoresModel" "thrown" "I" ∈ wsX10_undo := by decide +kernel
theorem lk_X10_undo_265 : Cond.fieldLink RX10 265 "KelpShoresModel" "entries" "I" ∈ wsX10_undo := by decide +kernel
theorem lk_X10_undo_111 : Cond.fieldLink RX10 111 "KelpShoresModel" "eBack" "[I" ∈ wsX10_undo := by decide +kernel
theorem lk_X10_undo_148 : Cond.fieldLink RX10 148 "KelpShoresModel" "today" "I" ∈ wsX10_undo := by decide +kernel
def wp_X10_undo (z : Zt) (o : Nat) (p0 : Int32) (w : Vt) (K : Int32 → Vt → Prop) : Prop := isO z 10 o ∧ ∀ w1 : Vt, w1 = uI w 1000 o 0 → wp_X10_in z p0 0 ((vI w1 1047 o) - 1) w1 (fun r3 w2 => ∃ J4 : Int32 → Vt → Prop, (∀ (x5 : Int32) (w6 : Vt), J4 x5 w6 → wp_X10_throwsIf z o x5 1 w6 (fun r9 w8 => (¬ r9 = 0 → K 0 w8) ∧ (r9 = 0 → ∃ b11 : Nat, zR z 1046 o = some b11 ∧ isO z 2046 b11 ∧ vp_in p0 200 ∧ ((vA w8 2046 b11 (p0 : Int32).toNatClampNeg) < 0 → vp_in p0 200 ∧ ∀ w13 : Vt, w13 = uA w8 2046 b11 (p0 : Int32).toNatClampNeg (vI w8 1001 o) → K 1 w13) ∧ (¬ (vA w8 2046 b11 (p0 : Int32).toNatClampNeg) < 0 → K 0 w8)))) ∧ (¬ r3 = 0 → J4 0 w2) ∧ (r3 = 0 → J4 1 w2))
set_option maxHeartbeats 4000000 in
set_option maxRecDepth 100000 in
theorem k_X10_undo (l : Launch) (G : Gt) (z : Zt) (w : Vt) (sz : Nat) (o : Nat) (p0 : Int32) (K : Int32 → Vt → Prop) (hp : wp_X10_undo z o p0 w K) : MI l yX10_undo wsX10_undo rmX10_undo G z w sz [.ref o, .int p0] K := by
  refine Met.ofW (cc := cX10_undo) (maxL := 2) (ret := (some .boolean)) (by decide +kernel) rfl ?_
  intro p e s m args below meth c s₁ B hml hv
  obtain ⟨rfl, rfl, C, h⟩ := hp_start B hml hv
  generalize gA G z w s.heap.size = A at C h ⊢
  obtain ⟨hx, hb, hr, hlocks, hml, hown, hts, hK, hA, hE⟩ := id C
  obtain ⟨ho, hp⟩ := hp
  have hl := lv_entry ([.ref o, .int p0]) (n := 2) (Nat.le_of_ble_eq_true rfl)
  rw [lg_entry_eq]
  generalize (lg_sl ([.ref o, .int p0]) ++ List.replicate (2 - (lg_sl ([.ref o, .int p0])).length) Slot.unset).toArray = ls at hl ⊢
  have hl : lv_has ls 2 [(0, .ref o), (1, .int p0)] := hl
  refine lv_aload_n hx hb dX10_undo_0 rfl (lv_at hl 0 rfl) ?_
  refine lv_iconst (v := 0) hx hb dX10_undo_1 (by decide) ?_
  refine hp_puti (ci := 10) (ty := .int) (x := 0) hx hb hts ix_X10_undo_10 tyX10 tyX10_ok nmX10 hown hK h ho (by decide) rfl 0 1000 (by decide) (hts _ lk_X10_undo_127) (fun _ h9 => h9) rfl (by decide +kernel) rfl rfl (fun _ _ => rfl) (fun _ _ => Nat.le_of_ble_eq_true rfl) dX10_undo_2 (fun H locs w1 ew1 h => ?_)
  have hp := hp w1 ew1
  refine lv_aload_n hx hb dX10_undo_5 rfl (lv_at hl 0 rfl) ?_
  refine lv_iload_n hx hb dX10_undo_6 rfl (lv_at hl 1 rfl) ?_
  refine lv_iconst (v := 0) hx hb dX10_undo_7 (by decide) ?_
  refine lv_aload_n hx hb dX10_undo_8 rfl (lv_at hl 0 rfl) ?_
  refine hp_get (ci := 10) (v := .int (vI w1 1047 o)) hx hb hts ix_X10_undo_10 hown hK h ho (by decide) rfl 47 (by decide) (hts _ lk_X10_undo_265) (fun _ h9 => h9) rfl dX10_undo_9 ?_
  refine lv_iconst (v := 1) hx hb dX10_undo_12 (by decide) ?_
  refine lv_isub hx hb dX10_undo_13 ?_
  refine hp_cSi ⟨hx, hb, hml, hown, hts⟩ (k_X10_in l G z w1 _ p0 0 ((vI w1 1047 o) - 1) _ hp) (cwS 3 hts gX10_undo_X10_in rfl rfl rfl (by decide +kernel) ⟨Nat.le_of_ble_eq_true rfl, Nat.le_of_ble_eq_true rfl⟩) hK h hA hE rfl hl.1 rfl (Nat.le_of_ble_eq_true rfl) dX10_undo_14 ⟨Nat.le_of_ble_eq_true rfl, Nat.le_of_ble_eq_true rfl⟩ (fun r3 w2 H locs hp h => ?_)
  obtain ⟨J4, jJ4, hp⟩ := hp
  refine hp_jn1 (G := G) (A := A) (z := z) (J := J4) (nL := 2) (j := 25) (lvf := fun x5 => [(0, .ref o), (1, .int p0)]) (stf := fun x5 => [.int x5, .ref o]) (fun kJ4 => ?_) (fun x5 w6 H locs ls hp h hl => ?_)
  · refine lv_if_ne (tgt := 24) hx hb dX10_undo_17 (by decide) (fun hc7 => ?_) (fun hc7 => ?_)
    · have hp := hp.1 hc7
      refine lv_iconst (v := 0) hx hb dX10_undo_24 (by decide) ?_
      exact kJ4 0 w2 _ _ _ hp h (lv_sub hl [0, 1] rfl)
    · have hp := hp.2 hc7
      refine lv_iconst (v := 1) hx hb dX10_undo_20 (by decide) ?_
      refine lv_goto (tgt := 25) hx hb dX10_undo_21 (by decide) ?_
      exact kJ4 1 w2 _ _ _ hp h (lv_sub hl [0, 1] rfl)
  have hp := jJ4 x5 w6 hp
  refine lv_iconst (v := 1) hx hb dX10_undo_25 (by decide) ?_
  refine hp_cVi ⟨hx, hb, hml, hown, hts⟩ (k_X10_throwsIf l G z w6 _ o x5 1 _ hp) (cwV 2 hts gX10_undo_X10_throwsIf rfl rfl rfl (by decide +kernel) ⟨Nat.le_of_ble_eq_true rfl, Nat.le_of_ble_eq_true rfl⟩) ho (by decide) rfl hK h hA hE rfl hl.1 rfl (Nat.le_of_ble_eq_true rfl) dX10_undo_26 ⟨Nat.le_of_ble_eq_true rfl, Nat.le_of_ble_eq_true rfl⟩ (fun r9 w8 H locs hp h => ?_)
  refine lv_if_ne (tgt := 41) hx hb dX10_undo_29 (by decide) (fun hc10 => ?_) (fun hc10 => ?_)
  · have hp := hp.1 hc10
    refine lv_iconst (v := 0) hx hb dX10_undo_41 (by decide) ?_
    exact hp_iret hx hb hr rfl hlocks hK h hp dX10_undo_42
  · have hp := hp.2 hc10
    refine lv_aload_n hx hb dX10_undo_32 rfl (lv_at hl 0 rfl) ?_
    obtain ⟨b11, eb11, hob11, hp⟩ := hp
    refine hp_get (ci := 10) (v := .ref b11) hx hb hts ix_X10_undo_10 hown hK h ho (by decide) rfl 46 (by decide) (hts _ lk_X10_undo_111) (fun _ h9 => h9) (by show some (va_rf (zR z 1046 o)) = some (Value.ref b11); rw [eb11]; rfl) dX10_undo_33 ?_
    refine lv_iload_n hx hb dX10_undo_36 rfl (lv_at hl 1 rfl) ?_
    refine hp_iald (t := 2046) (n := 200) hx hb hK h hob11 (by decide) (fun _ _ _ => rfl) hp.1 dX10_undo_37 ?_
    have hp := hp.2
    refine lv_if_lt (tgt := 43) hx hb dX10_undo_38 (by decide) (fun hc12 => ?_) (fun hc12 => ?_)
    · have hp := hp.1 hc12
      refine lv_aload_n hx hb dX10_undo_43 rfl (lv_at hl 0 rfl) ?_
      refine hp_get (ci := 10) (v := .ref b11) hx hb hts ix_X10_undo_10 hown hK h ho (by decide) rfl 46 (by decide) (hts _ lk_X10_undo_111) (fun _ h9 => h9) (by show some (va_rf (zR z 1046 o)) = some (Value.ref b11); rw [eb11]; rfl) dX10_undo_44 ?_
      refine lv_iload_n hx hb dX10_undo_47 rfl (lv_at hl 1 rfl) ?_
      refine lv_aload_n hx hb dX10_undo_48 rfl (lv_at hl 0 rfl) ?_
      refine hp_get (ci := 10) (v := .int (vI w8 1001 o)) hx hb hts ix_X10_undo_10 hown hK h ho (by decide) rfl 1 (by decide) (hts _ lk_X10_undo_148) (fun _ h9 => h9) rfl dX10_undo_49 ?_
      refine hp_iast (t := 2046) (n := 200) hx hb hK h hob11 (by decide) (fun _ _ _ => rfl) hp.1 dX10_undo_52 (fun H locs w13 ew13 h => ?_)
      have hp := hp.2 w13 ew13
      refine lv_iconst (v := 1) hx hb dX10_undo_53 (by decide) ?_
      exact hp_iret hx hb hr rfl hlocks hK h hp dX10_undo_54
    · have hp := hp.2 hc12
      refine lv_iconst (v := 0) hx hb dX10_undo_41 (by decide) ?_
      exact hp_iret hx hb hr rfl hlocks hK h hp dX10_undo_42
abbrev rmX10_balance : Room := { frames := 2, cells := 0, slots := 0, locals := 42 }
theorem ix_X10_balance_10 : ∀ w ∈ wsX100, w ∈ wsX10_balance := by decide +kernel
theorem lk_X10_balance_127 : Cond.fieldLink RX10 127 "KelpShoresModel" "thrown" "I" ∈ wsX10_balance := by decide +kernel
theorem lk_X10_balance_265 : Cond.fieldLink RX10 265 "KelpShoresModel" "entries" "I" ∈ wsX10_balance := by decide +kernel
theorem lk_X10_balance_108 : Cond.fieldLink RX10 108 "KelpShoresModel" "eTold" "[I" ∈ wsX10_balance := by decide +kernel
theorem lk_X10_balance_111 : Cond.fieldLink RX10 111 "KelpShoresModel" "eBack" "[I" ∈ wsX10_balance := by decide +kernel
theorem lk_X10_balance_99 : Cond.fieldLink RX10 99 "KelpShoresModel" "eFamily" "[I" ∈ wsX10_balance := by decide +kernel
theorem lk_X10_balance_105 : Cond.fieldLink RX10 105 "KelpShoresModel" "eDay" "[I" ∈ wsX10_balance := by decide +kernel
theorem lk_X10_balance_102 : Cond.fieldLink RX10 102 "KelpShoresModel" "eMoney" "[I" ∈ wsX10_balance := by decide +kernel
def wL_X10_balance_25 (z : Zt) (o : Nat) (K : Int32 → Vt → Prop) (Kx : Int32 → Int32 → Int32 → Int32 → Int32 → Vt → Prop) : Nat → Int32 → Int32 → Int32 → Int32 → Int32 → Vt → Prop
  | 0, _, _, _, _, _, _ => False
  | n + 1, x5_, x4_, x1_, x2_, x3_, w => ((vI w 1047 o) ≤ x5_ → Kx x5_ x4_ x1_ x2_ x3_ w) ∧ (¬ (vI w 1047 o) ≤ x5_ → ∃ b8 : Nat, zR z 1045 o = some b8 ∧ isO z 2045 b8 ∧ vp_in x5_ 200 ∧ ∃ J9 : Int32 → Vt → Prop, (∀ (x10 : Int32) (w11 : Vt), J9 x10 w11 → ∃ J16 : Int32 → Vt → Prop, (∀ (x17 : Int32) (w18 : Vt), J16 x17 w18 → ∀ x25 : Int32, x25 = x4_ + x17 → ∀ x26 : Int32, x26 = x5_ + 1 → wL_X10_balance_25 z o K Kx n x26 x25 x1_ x2_ x3_ w18) ∧ (x10 = 0 → J16 0 w11) ∧ (¬ x10 = 0 → ∃ b20 : Nat, zR z 1042 o = some b20 ∧ isO z 2042 b20 ∧ vp_in x5_ 200 ∧ (¬ (vA w11 2042 b20 (x5_ : Int32).toNatClampNeg) = x1_ → J16 0 w11) ∧ ((vA w11 2042 b20 (x5_ : Int32).toNatClampNeg) = x1_ → ∃ b22 : Nat, zR z 1044 o = some b22 ∧ isO z 2044 b22 ∧ vp_in x5_ 200 ∧ (x2_ < (vA w11 2044 b22 (x5_ : Int32).toNatClampNeg) → J16 0 w11) ∧ (¬ x2_ < (vA w11 2044 b22 (x5_ : Int32).toNatClampNeg) → ∃ b24 : Nat, zR z 1043 o = some b24 ∧ isO z 2043 b24 ∧ vp_in x5_ 200 ∧ J16 (vA w11 2043 b24 (x5_ : Int32).toNatClampNeg) w11)))) ∧ (x3_ < (vA w 2045 b8 (x5_ : Int32).toNatClampNeg) → J9 0 w) ∧ (¬ x3_ < (vA w 2045 b8 (x5_ : Int32).toNatClampNeg) → ∃ b13 : Nat, zR z 1046 o = some b13 ∧ isO z 2046 b13 ∧ vp_in x5_ 200 ∧ ((vA w 2046 b13 (x5_ : Int32).toNatClampNeg) < 0 → J9 1 w) ∧ (¬ (vA w 2046 b13 (x5_ : Int32).toNatClampNeg) < 0 → vp_in x5_ 200 ∧ ((vA w 2046 b13 (x5_ : Int32).toNatClampNeg) ≤ x3_ → J9 0 w) ∧ (¬ (vA w 2046 b13 (x5_ : Int32).toNatClampNeg) ≤ x3_ → J9 1 w))))
set_option maxHeartbeats 4000000 in
set_option maxRecDepth 100000 in
theorem kL_X10_balance_25 {p : Program} {l : Launch} {e : Env} {s : State} {m : MethodId} {args : Array Value} {below : List Frame} {meth : Method} {c : Code} {G : Gt} {A : Nat → Prop} {z : Zt} (C : gC p s m args meth c cX10_balance 7 RX10 wsX10_balance (some .int) G A) (o : Nat) (ho : isO z 10 o) (K : Int32 → Vt → Prop) (Kx : Int32 → Int32 → Int32 → Int32 → Int32 → Vt → Prop) (kKx : ∀ (x5_ x4_ x1_ x2_ x3_ : Int32) (w : Vt) (H : Heap) (locs : List Loc) (ls : Array Slot), Kx x5_ x4_ x1_ x2_ x3_ w → hpH G.1 G.2.1 A s.heap z w H locs → lv_has ls 7 [(5, .int x5_), (4, .int x4_), (0, .ref o), (1, .int x1_), (2, .int x2_), (3, .int x3_)] → W p l e (headSpec wsX10_balance rmX10_balance).room s m args below meth c H locs 0 0 (MQ below (va_Qi K (gB G A z) A) args s 0 0 A) (F0 m 122 ls [])) : ∀ (n : Nat) (x5_ x4_ x1_ x2_ x3_ : Int32) (w : Vt) (H : Heap) (locs : List Loc) (ls : Array Slot), wL_X10_balance_25 z o K Kx n x5_ x4_ x1_ x2_ x3_ w → hpH G.1 G.2.1 A s.heap z w H locs → lv_has ls 7 [(5, .int x5_), (4, .int x4_), (0, .ref o), (1, .int x1_), (2, .int x2_), (3, .int x3_)] → W p l e (headSpec wsX10_balance rmX10_balance).room s m args below meth c H locs 0 0 (MQ below (va_Qi K (gB G A z) A) args s 0 0 A) (F0 m 25 ls []) := by
  obtain ⟨hx, hb, hr, hlocks, hml, hown, hts, hK, hA, hE⟩ := id C
  intro n
  induction n with
  | zero =>
    intro x5_ x4_ x1_ x2_ x3_ w H locs ls hp
    exact hp.elim
  | succ n ih =>
    intro x5_ x4_ x1_ x2_ x3_ w H locs ls hp h hl
    refine lv_iload hx hb dX10_balance_25 (lv_at hl 0 rfl) ?_
    refine lv_aload_n hx hb dX10_balance_27 rfl (lv_at hl 2 rfl) ?_
    refine hp_get (ci := 10) (v := .int (vI w 1047 o)) hx hb hts ix_X10_balance_10 hown hK h ho (by decide) rfl 47 (by decide) (hts _ lk_X10_balance_265) (fun _ h9 => h9) rfl dX10_balance_28 ?_
    refine lv_icmp_ge (tgt := 122) hx hb dX10_balance_31 (by decide) (fun hc7 => ?_) (fun hc7 => ?_)
    · have hp := hp.1 hc7
      exact kKx x5_ x4_ x1_ x2_ x3_ w _ _ _ hp h (lv_sub hl [0, 1, 2, 3, 4, 5] rfl)
    · have hp := hp.2 hc7
      refine lv_aload_n hx hb dX10_balance_34 rfl (lv_at hl 2 rfl) ?_
      obtain ⟨b8, eb8, hob8, hp⟩ := hp
      refine hp_get (ci := 10) (v := .ref b8) hx hb hts ix_X10_balance_10 hown hK h ho (by decide) rfl 45 (by decide) (hts _ lk_X10_balance_108) (fun _ h9 => h9) (by show some (va_rf (zR z 1045 o)) = some (Value.ref b8); rw [eb8]; rfl) dX10_balance_35 ?_
      refine lv_iload hx hb dX10_balance_38 (lv_at hl 0 rfl) ?_
      refine hp_iald (t := 2045) (n := 200) hx hb hK h hob8 (by decide) (fun _ _ _ => rfl) hp.1 dX10_balance_40 ?_
      have hp := hp.2
      refine lv_iload_n hx hb dX10_balance_41 rfl (lv_at hl 5 rfl) ?_
      obtain ⟨J9, jJ9, hp⟩ := hp
      refine hp_jn1 (G := G) (A := A) (z := z) (J := J9) (nL := 7) (j := 71) (lvf := fun x10 => [(5, .int x5_), (4, .int x4_), (0, .ref o), (1, .int x1_), (2, .int x2_), (3, .int x3_)]) (stf := fun x10 => [.int x10]) (fun kJ9 => ?_) (fun x10 w11 H locs ls hp h hl => ?_)
      · refine lv_icmp_gt (tgt := 70) hx hb dX10_balance_42 (by decide) (fun hc12 => ?_) (fun hc12 => ?_)
        · have hp := hp.1 hc12
          refine lv_iconst (v := 0) hx hb dX10_balance_70 (by decide) ?_
          exact kJ9 0 w _ _ _ hp h (lv_sub hl [0, 1, 2, 3, 4, 5] rfl)
        · have hp := hp.2 hc12
          refine lv_aload_n hx hb dX10_balance_45 rfl (lv_at hl 2 rfl) ?_
          obtain ⟨b13, eb13, hob13, hp⟩ := hp
          refine hp_get (ci := 10) (v := .ref b13) hx hb hts ix_X10_balance_10 hown hK h ho (by decide) rfl 46 (by decide) (hts _ lk_X10_balance_111) (fun _ h9 => h9) (by show some (va_rf (zR z 1046 o)) = some (Value.ref b13); rw [eb13]; rfl) dX10_balance_46 ?_
          refine lv_iload hx hb dX10_balance_49 (lv_at hl 0 rfl) ?_
          refine hp_iald (t := 2046) (n := 200) hx hb hK h hob13 (by decide) (fun _ _ _ => rfl) hp.1 dX10_balance_51 ?_
          have hp := hp.2
          refine lv_if_lt (tgt := 66) hx hb dX10_balance_52 (by decide) (fun hc14 => ?_) (fun hc14 => ?_)
          · have hp := hp.1 hc14
            refine lv_iconst (v := 1) hx hb dX10_balance_66 (by decide) ?_
            refine lv_goto (tgt := 71) hx hb dX10_balance_67 (by decide) ?_
            exact kJ9 1 w _ _ _ hp h (lv_sub hl [0, 1, 2, 3, 4, 5] rfl)
          · have hp := hp.2 hc14
            refine lv_iload_n hx hb dX10_balance_55 rfl (lv_at hl 5 rfl) ?_
            refine lv_aload_n hx hb dX10_balance_56 rfl (lv_at hl 2 rfl) ?_
            refine hp_get (ci := 10) (v := .ref b13) hx hb hts ix_X10_balance_10 hown hK h ho (by decide) rfl 46 (by decide) (hts _ lk_X10_balance_111) (fun _ h9 => h9) (by show some (va_rf (zR z 1046 o)) = some (Value.ref b13); rw [eb13]; rfl) dX10_balance_57 ?_
            refine lv_iload hx hb dX10_balance_60 (lv_at hl 0 rfl) ?_
            refine hp_iald (t := 2046) (n := 200) hx hb hK h hob13 (by decide) (fun _ _ _ => rfl) hp.1 dX10_balance_62 ?_
            have hp := hp.2
            refine lv_icmp_ge (tgt := 70) hx hb dX10_balance_63 (by decide) (fun hc15 => ?_) (fun hc15 => ?_)
            · have hp := hp.1 hc15
              refine lv_iconst (v := 0) hx hb dX10_balance_70 (by decide) ?_
              exact kJ9 0 w _ _ _ hp h (lv_sub hl [0, 1, 2, 3, 4, 5] rfl)
            · have hp := hp.2 hc15
              refine lv_iconst (v := 1) hx hb dX10_balance_66 (by decide) ?_
              refine lv_goto (tgt := 71) hx hb dX10_balance_67 (by decide) ?_
              exact kJ9 1 w _ _ _ hp h (lv_sub hl [0, 1, 2, 3, 4, 5] rfl)
      have hp := jJ9 x10 w11 hp
      refine lv_istore (lv' := [(6, .int x10), (5, .int x5_), (4, .int x4_), (0, .ref o), (1, .int x1_), (2, .int x2_), (3, .int x3_)]) hx hb dX10_balance_71 hl (by decide) rfl (fun ls hl => ?_)
      refine lv_iload hx hb dX10_balance_73 (lv_at hl 2 rfl) ?_
      refine lv_iload hx hb dX10_balance_75 (lv_at hl 0 rfl) ?_
      obtain ⟨J16, jJ16, hp⟩ := hp
      refine hp_jn1 (G := G) (A := A) (z := z) (J := J16) (nL := 7) (j := 113) (lvf := fun x17 => [(6, .int x10), (5, .int x5_), (4, .int x4_), (0, .ref o), (1, .int x1_), (2, .int x2_), (3, .int x3_)]) (stf := fun x17 => [.int x17, .int x4_]) (fun kJ16 => ?_) (fun x17 w18 H locs ls hp h hl => ?_)
      · refine lv_if_eq (tgt := 112) hx hb dX10_balance_77 (by decide) (fun hc19 => ?_) (fun hc19 => ?_)
        · have hp := hp.1 hc19
          refine lv_iconst (v := 0) hx hb dX10_balance_112 (by decide) ?_
          exact kJ16 0 w11 _ _ _ hp h (lv_sub hl [0, 1, 2, 3, 4, 5, 6] rfl)
        · have hp := hp.2 hc19
          refine lv_aload_n hx hb dX10_balance_80 rfl (lv_at hl 3 rfl) ?_
          obtain ⟨b20, eb20, hob20, hp⟩ := hp
          refine hp_get (ci := 10) (v := .ref b20) hx hb hts ix_X10_balance_10 hown hK h ho (by decide) rfl 42 (by decide) (hts _ lk_X10_balance_99) (fun _ h9 => h9) (by show some (va_rf (zR z 1042 o)) = some (Value.ref b20); rw [eb20]; rfl) dX10_balance_81 ?_
          refine lv_iload hx hb dX10_balance_84 (lv_at hl 1 rfl) ?_
          refine hp_iald (t := 2042) (n := 200) hx hb hK h hob20 (by decide) (fun _ _ _ => rfl) hp.1 dX10_balance_86 ?_
          have hp := hp.2
          refine lv_iload_n hx hb dX10_balance_87 rfl (lv_at hl 4 rfl) ?_
          refine lv_icmp_ne (tgt := 112) hx hb dX10_balance_88 (by decide) (fun hc21 => ?_) (fun hc21 => ?_)
          · have hp := hp.1 hc21
            refine lv_iconst (v := 0) hx hb dX10_balance_112 (by decide) ?_
            exact kJ16 0 w11 _ _ _ hp h (lv_sub hl [0, 1, 2, 3, 4, 5, 6] rfl)
          · have hp := hp.2 hc21
            refine lv_aload_n hx hb dX10_balance_91 rfl (lv_at hl 3 rfl) ?_
            obtain ⟨b22, eb22, hob22, hp⟩ := hp
            refine hp_get (ci := 10) (v := .ref b22) hx hb hts ix_X10_balance_10 hown hK h ho (by decide) rfl 44 (by decide) (hts _ lk_X10_balance_105) (fun _ h9 => h9) (by show some (va_rf (zR z 1044 o)) = some (Value.ref b22); rw [eb22]; rfl) dX10_balance_92 ?_
            refine lv_iload hx hb dX10_balance_95 (lv_at hl 1 rfl) ?_
            refine hp_iald (t := 2044) (n := 200) hx hb hK h hob22 (by decide) (fun _ _ _ => rfl) hp.1 dX10_balance_97 ?_
            have hp := hp.2
            refine lv_iload_n hx hb dX10_balance_98 rfl (lv_at hl 5 rfl) ?_
            refine lv_icmp_gt (tgt := 112) hx hb dX10_balance_99 (by decide) (fun hc23 => ?_) (fun hc23 => ?_)
            · have hp := hp.1 hc23
              refine lv_iconst (v := 0) hx hb dX10_balance_112 (by decide) ?_
              exact kJ16 0 w11 _ _ _ hp h (lv_sub hl [0, 1, 2, 3, 4, 5, 6] rfl)
            · have hp := hp.2 hc23
              refine lv_aload_n hx hb dX10_balance_102 rfl (lv_at hl 3 rfl) ?_
              obtain ⟨b24, eb24, hob24, hp⟩ := hp
              refine hp_get (ci := 10) (v := .ref b24) hx hb hts ix_X10_balance_10 hown hK h ho (by decide) rfl 43 (by decide) (hts _ lk_X10_balance_102) (fun _ h9 => h9) (by show some (va_rf (zR z 1043 o)) = some (Value.ref b24); rw [eb24]; rfl) dX10_balance_103 ?_
              refine lv_iload hx hb dX10_balance_106 (lv_at hl 1 rfl) ?_
              refine hp_iald (t := 2043) (n := 200) hx hb hK h hob24 (by decide) (fun _ _ _ => rfl) hp.1 dX10_balance_108 ?_
              have hp := hp.2
              refine lv_goto (tgt := 113) hx hb dX10_balance_109 (by decide) ?_
              exact kJ16 (vA w11 2043 b24 (x5_ : Int32).toNatClampNeg) w11 _ _ _ hp h (lv_sub hl [0, 1, 2, 3, 4, 5, 6] rfl)
      have hp := jJ16 x17 w18 hp
      refine lv_iadd hx hb dX10_balance_113 ?_
      refine lv_topi (fun x25 ex25 => ?_)
      have hp := hp x25 ex25
      refine lv_istore (lv' := [(4, .int x25), (6, .int x10), (5, .int x5_), (0, .ref o), (1, .int x1_), (2, .int x2_), (3, .int x3_)]) hx hb dX10_balance_114 hl (by decide) rfl (fun ls hl => ?_)
      obtain ⟨x26, ex26⟩ : ∃ y : Int32, y = x5_ + 1 := ⟨_, rfl⟩
      have hp := hp x26 ex26
      refine lv_iinc (v := x26) (lv' := [(5, .int x26), (4, .int x25), (6, .int x10), (0, .ref o), (1, .int x1_), (2, .int x2_), (3, .int x3_)]) hx hb dX10_balance_116 hl (k := 2) rfl (by rw [ex26]; rfl) (by decide) rfl (fun ls hl => ?_)
      refine lv_goto (tgt := 25) hx hb dX10_balance_119 (by decide) ?_
      exact ih x26 x25 x1_ x2_ x3_ w18 _ _ _ hp h (lv_sub hl [0, 1, 3, 4, 5, 6] rfl)
def wp_X10_balance (z : Zt) (o : Nat) (p0 : Int32) (p1 : Int32) (p2 : Int32) (w : Vt) (K : Int32 → Vt → Prop) : Prop := isO z 10 o ∧ ∀ w1 : Vt, w1 = uI w 1000 o 0 → wp_X10_noFamily z p0 w1 (fun r3 w2 => wp_X10_throwsIf z o r3 1 w2 (fun r5 w4 => (r5 = 0 → ∃ n27 : Nat, wL_X10_balance_25 z o K (fun x28 x29 x30 x31 x32 w33 => K x29 w33) n27 0 0 p0 p1 p2 w4) ∧ (¬ r5 = 0 → K 0 w4)))
set_option maxHeartbeats 4000000 in
set_option maxRecDepth 100000 in
theorem k_X10_balance (l : Launch) (G : Gt) (z : Zt) (w : Vt) (sz : Nat) (o : Nat) (p0 : Int32) (p1 : Int32) (p2 : Int32) (K : Int32 → Vt → Prop) (hp : wp_X10_balance z o p0 p1 p2 w K) : MI l yX10_balance wsX10_balance rmX10_balance G z w sz [.ref o, .int p0, .int p1, .int p2] K := by
  refine Met.ofW (cc := cX10_balance) (maxL := 7) (ret := (some .int)) (by decide +kernel) rfl ?_
  intro p e s m args below meth c s₁ B hml hv
  obtain ⟨rfl, rfl, C, h⟩ := hp_start B hml hv
  generalize gA G z w s.heap.size = A at C h ⊢
  obtain ⟨hx, hb, hr, hlocks, hml, hown, hts, hK, hA, hE⟩ := id C
  obtain ⟨ho, hp⟩ := hp
  have hl := lv_entry ([.ref o, .int p0, .int p1, .int p2]) (n := 7) (Nat.le_of_ble_eq_true rfl)
  rw [lg_entry_eq]
  generalize (lg_sl ([.ref o, .int p0, .int p1, .int p2]) ++ List.replicate (7 - (lg_sl ([.ref o, .int p0, .int p1, .int p2])).length) Slot.unset).toArray = ls at hl ⊢
  have hl : lv_has ls 7 [(0, .ref o), (1, .int p0), (2, .int p1), (3, .int p2)] := hl
  refine lv_aload_n hx hb dX10_balance_0 rfl (lv_at hl 0 rfl) ?_
  refine lv_iconst (v := 0) hx hb dX10_balance_1 (by decide) ?_
  refine hp_puti (ci := 10) (ty := .int) (x := 0) hx hb hts ix_X10_balance_10 tyX10 tyX10_ok nmX10 hown hK h ho (by decide) rfl 0 1000 (by decide) (hts _ lk_X10_balance_127) (fun _ h9 => h9) rfl (by decide +kernel) rfl rfl (fun _ _ => rfl) (fun _ _ => Nat.le_of_ble_eq_true rfl) dX10_balance_2 (fun H locs w1 ew1 h => ?_)
  have hp := hp w1 ew1
  refine lv_aload_n hx hb dX10_balance_5 rfl (lv_at hl 0 rfl) ?_
  refine lv_iload_n hx hb dX10_balance_6 rfl (lv_at hl 1 rfl) ?_
  refine hp_cSi ⟨hx, hb, hml, hown, hts⟩ (k_X10_noFamily l G z w1 _ p0 _ hp) (cwS 1 hts gX10_balance_X10_noFamily rfl rfl rfl (by decide +kernel) ⟨Nat.le_of_ble_eq_true rfl, Nat.le_of_ble_eq_true rfl⟩) hK h hA hE rfl hl.1 rfl (Nat.le_of_ble_eq_true rfl) dX10_balance_7 ⟨Nat.le_of_ble_eq_true rfl, Nat.le_of_ble_eq_true rfl⟩ (fun r3 w2 H locs hp h => ?_)
  refine lv_iconst (v := 1) hx hb dX10_balance_10 (by decide) ?_
  refine hp_cVi ⟨hx, hb, hml, hown, hts⟩ (k_X10_throwsIf l G z w2 _ o r3 1 _ hp) (cwV 2 hts gX10_balance_X10_throwsIf rfl rfl rfl (by decide +kernel) ⟨Nat.le_of_ble_eq_true rfl, Nat.le_of_ble_eq_true rfl⟩) ho (by decide) rfl hK h hA hE rfl hl.1 rfl (Nat.le_of_ble_eq_true rfl) dX10_balance_11 ⟨Nat.le_of_ble_eq_true rfl, Nat.le_of_ble_eq_true rfl⟩ (fun r5 w4 H locs hp h => ?_)
  refine lv_if_eq (tgt := 19) hx hb dX10_balance_14 (by decide) (fun hc6 => ?_) (fun hc6 => ?_)
  · have hp := hp.1 hc6
    refine lv_iconst (v := 0) hx hb dX10_balance_19 (by decide) ?_
    refine lv_istore (lv' := [(4, .int 0), (0, .ref o), (1, .int p0), (2, .int p1), (3, .int p2)]) hx hb dX10_balance_20 hl (by decide) rfl (fun ls hl => ?_)
    refine lv_iconst (v := 0) hx hb dX10_balance_22 (by decide) ?_
    refine lv_istore (lv' := [(5, .int 0), (4, .int 0), (0, .ref o), (1, .int p0), (2, .int p1), (3, .int p2)]) hx hb dX10_balance_23 hl (by decide) rfl (fun ls hl => ?_)
    obtain ⟨n27, hp⟩ := hp
    refine kL_X10_balance_25 C o ho _ _ (fun x28 x29 x30 x31 x32 w33 H locs ls hp h hl => ?_) n27 0 0 p0 p1 p2 w4 _ _ _ hp h (lv_sub hl [0, 1, 2, 3, 4, 5] rfl)
    refine lv_iload hx hb dX10_balance_122 (lv_at hl 1 rfl) ?_
    exact hp_iret hx hb hr rfl hlocks hK h hp dX10_balance_124
  · have hp := hp.2 hc6
    refine lv_iconst (v := 0) hx hb dX10_balance_17 (by decide) ?_
    exact hp_iret hx hb hr rfl hlocks hK h hp dX10_balance_18
abbrev rmX10_foretell : Room := { frames := 0, cells := 0, slots := 0, locals := 0 }
theorem ix_X10_foretell_10 : ∀ w ∈ wsX100, w ∈ wsX10_foretell := by decide +kernel
theorem lk_X10_foretell_127 : Cond.fieldLink RX10 127 "KelpShoresModel" "thrown" "I" ∈ wsX10_foretell := by decide +kernel
theorem lk_X10_foretell_279 : Cond.fieldLink RX10 279 "KelpShoresModel" "foretold" "I" ∈ wsX10_foretell := by decide +kernel
theorem lk_X10_foretell_114 : Cond.fieldLink RX10 114 "KelpShoresModel" "isLow" "[Z" ∈ wsX10_foretell := by decide +kernel
theorem lk_X10_foretell_118 : Cond.fieldLink RX10 118 "KelpShoresModel" "isWindy" "[Z" ∈ wsX10_foretell := by decide +kernel
theorem lk_X10_foretell_121 : Cond.fieldLink RX10 121 "KelpShoresModel" "isRainy" "[Z" ∈ wsX10_foretell := by decide +kernel
def wp_X10_foretell (z : Zt) (o : Nat) (p0 : Int32) (p1 : Int32) (p2 : Int32) (w : Vt) (K : Int32 → Vt → Prop) : Prop := isO z 10 o ∧ ∀ w1 : Vt, w1 = uI w 1000 o 0 → (¬ (vI w1 1051 o) = 16 → ∃ b3 : Nat, zR z 1048 o = some b3 ∧ isO z 2048 b3 ∧ vp_in (vI w1 1051 o) 18 ∧ ∀ w4 : Vt, w4 = uA w1 2048 b3 (vI w1 1051 o : Int32).toNatClampNeg (vp_nar .boolean p0) → ∃ b5 : Nat, zR z 1049 o = some b5 ∧ isO z 2049 b5 ∧ vp_in (vI w4 1051 o) 18 ∧ ∀ w6 : Vt, w6 = uA w4 2049 b5 (vI w4 1051 o : Int32).toNatClampNeg (vp_nar .boolean p1) → ∃ b7 : Nat, zR z 1050 o = some b7 ∧ isO z 2050 b7 ∧ vp_in (vI w6 1051 o) 18 ∧ ∀ w8 : Vt, w8 = uA w6 2050 b7 (vI w6 1051 o : Int32).toNatClampNeg (vp_nar .boolean p2) → ∀ w9 : Vt, w9 = uI w8 1051 o ((vI w8 1051 o) + 1) → K (vI w9 1051 o) w9) ∧ ((vI w1 1051 o) = 16 → K (-1) w1)
set_option maxHeartbeats 4000000 in
set_option maxRecDepth 100000 in
theorem k_X10_foretell (l : Launch) (G : Gt) (z : Zt) (w : Vt) (sz : Nat) (o : Nat) (p0 : Int32) (p1 : Int32) (p2 : Int32) (K : Int32 → Vt → Prop) (hp : wp_X10_foretell z o p0 p1 p2 w K) : MI l yX10_foretell wsX10_foretell rmX10_foretell G z w sz [.ref o, .int p0, .int p1, .int p2] K := by
  refine Met.ofW (cc := cX10_foretell) (maxL := 4) (ret := (some .int)) (by decide +kernel) rfl ?_
  intro p e s m args below meth c s₁ B hml hv
  obtain ⟨rfl, rfl, C, h⟩ := hp_start B hml hv
  generalize gA G z w s.heap.size = A at C h ⊢
  obtain ⟨hx, hb, hr, hlocks, hml, hown, hts, hK, hA, hE⟩ := id C
  obtain ⟨ho, hp⟩ := hp
  have hl := lv_entry ([.ref o, .int p0, .int p1, .int p2]) (n := 4) (Nat.le_of_ble_eq_true rfl)
  rw [lg_entry_eq]
  generalize (lg_sl ([.ref o, .int p0, .int p1, .int p2]) ++ List.replicate (4 - (lg_sl ([.ref o, .int p0, .int p1, .int p2])).length) Slot.unset).toArray = ls at hl ⊢
  have hl : lv_has ls 4 [(0, .ref o), (1, .int p0), (2, .int p1), (3, .int p2)] := hl
  refine lv_aload_n hx hb dX10_foretell_0 rfl (lv_at hl 0 rfl) ?_
  refine lv_iconst (v := 0) hx hb dX10_foretell_1 (by decide) ?_
  refine hp_puti (ci := 10) (ty := .int) (x := 0) hx hb hts ix_X10_foretell_10 tyX10 tyX10_ok nmX10 hown hK h ho (by decide) rfl 0 1000 (by decide) (hts _ lk_X10_foretell_127) (fun _ h9 => h9) rfl (by decide +kernel) rfl rfl (fun _ _ => rfl) (fun _ _ => Nat.le_of_ble_eq_true rfl) dX10_foretell_2 (fun H locs w1 ew1 h => ?_)
  have hp := hp w1 ew1
  refine lv_aload_n hx hb dX10_foretell_5 rfl (lv_at hl 0 rfl) ?_
  refine hp_get (ci := 10) (v := .int (vI w1 1051 o)) hx hb hts ix_X10_foretell_10 hown hK h ho (by decide) rfl 51 (by decide) (hts _ lk_X10_foretell_279) (fun _ h9 => h9) rfl dX10_foretell_6 ?_
  refine lv_bipush (v := 16) hx hb dX10_foretell_9 (by decide) ?_
  refine lv_icmp_ne (tgt := 16) hx hb dX10_foretell_11 (by decide) (fun hc2 => ?_) (fun hc2 => ?_)
  · have hp := hp.1 hc2
    refine lv_aload_n hx hb dX10_foretell_16 rfl (lv_at hl 0 rfl) ?_
    obtain ⟨b3, eb3, hob3, hp⟩ := hp
    refine hp_get (ci := 10) (v := .ref b3) hx hb hts ix_X10_foretell_10 hown hK h ho (by decide) rfl 48 (by decide) (hts _ lk_X10_foretell_114) (fun _ h9 => h9) (by show some (va_rf (zR z 1048 o)) = some (Value.ref b3); rw [eb3]; rfl) dX10_foretell_17 ?_
    refine lv_aload_n hx hb dX10_foretell_20 rfl (lv_at hl 0 rfl) ?_
    refine hp_get (ci := 10) (v := .int (vI w1 1051 o)) hx hb hts ix_X10_foretell_10 hown hK h ho (by decide) rfl 51 (by decide) (hts _ lk_X10_foretell_279) (fun _ h9 => h9) rfl dX10_foretell_21 ?_
    refine lv_iload_n hx hb dX10_foretell_24 rfl (lv_at hl 1 rfl) ?_
    refine hp_zast (t := 2048) (n := 18) hx hb hK h hob3 (by decide) (fun _ _ _ => rfl) hp.1 dX10_foretell_25 (fun H locs w4 ew4 h => ?_)
    have hp := hp.2 w4 ew4
    refine lv_aload_n hx hb dX10_foretell_26 rfl (lv_at hl 0 rfl) ?_
    obtain ⟨b5, eb5, hob5, hp⟩ := hp
    refine hp_get (ci := 10) (v := .ref b5) hx hb hts ix_X10_foretell_10 hown hK h ho (by decide) rfl 49 (by decide) (hts _ lk_X10_foretell_118) (fun _ h9 => h9) (by show some (va_rf (zR z 1049 o)) = some (Value.ref b5); rw [eb5]; rfl) dX10_foretell_27 ?_
    refine lv_aload_n hx hb dX10_foretell_30 rfl (lv_at hl 0 rfl) ?_
    refine hp_get (ci := 10) (v := .int (vI w4 1051 o)) hx hb hts ix_X10_foretell_10 hown hK h ho (by decide) rfl 51 (by decide) (hts _ lk_X10_foretell_279) (fun _ h9 => h9) rfl dX10_foretell_31 ?_
    refine lv_iload_n hx hb dX10_foretell_34 rfl (lv_at hl 2 rfl) ?_
    refine hp_zast (t := 2049) (n := 18) hx hb hK h hob5 (by decide) (fun _ _ _ => rfl) hp.1 dX10_foretell_35 (fun H locs w6 ew6 h => ?_)
    have hp := hp.2 w6 ew6
    refine lv_aload_n hx hb dX10_foretell_36 rfl (lv_at hl 0 rfl) ?_
    obtain ⟨b7, eb7, hob7, hp⟩ := hp
    refine hp_get (ci := 10) (v := .ref b7) hx hb hts ix_X10_foretell_10 hown hK h ho (by decide) rfl 50 (by decide) (hts _ lk_X10_foretell_121) (fun _ h9 => h9) (by show some (va_rf (zR z 1050 o)) = some (Value.ref b7); rw [eb7]; rfl) dX10_foretell_37 ?_
    refine lv_aload_n hx hb dX10_foretell_40 rfl (lv_at hl 0 rfl) ?_
    refine hp_get (ci := 10) (v := .int (vI w6 1051 o)) hx hb hts ix_X10_foretell_10 hown hK h ho (by decide) rfl 51 (by decide) (hts _ lk_X10_foretell_279) (fun _ h9 => h9) rfl dX10_foretell_41 ?_
    refine lv_iload_n hx hb dX10_foretell_44 rfl (lv_at hl 3 rfl) ?_
    refine hp_zast (t := 2050) (n := 18) hx hb hK h hob7 (by decide) (fun _ _ _ => rfl) hp.1 dX10_foretell_45 (fun H locs w8 ew8 h => ?_)
    have hp := hp.2 w8 ew8
    refine lv_aload_n hx hb dX10_foretell_46 rfl (lv_at hl 0 rfl) ?_
    refine lv_dup hx hb dX10_foretell_47 rfl ?_
    refine hp_get (ci := 10) (v := .int (vI w8 1051 o)) hx hb hts ix_X10_foretell_10 hown hK h ho (by decide) rfl 51 (by decide) (hts _ lk_X10_foretell_279) (fun _ h9 => h9) rfl dX10_foretell_48 ?_
    refine lv_iconst (v := 1) hx hb dX10_foretell_51 (by decide) ?_
    refine lv_iadd hx hb dX10_foretell_52 ?_
    refine hp_puti (ci := 10) (ty := .int) (x := (vI w8 1051 o) + 1) hx hb hts ix_X10_foretell_10 tyX10 tyX10_ok nmX10 hown hK h ho (by decide) rfl 51 1051 (by decide) (hts _ lk_X10_foretell_279) (fun _ h9 => h9) rfl (by decide +kernel) rfl rfl (fun _ _ => rfl) (fun _ _ => Nat.le_of_ble_eq_true rfl) dX10_foretell_53 (fun H locs w9 ew9 h => ?_)
    have hp := hp w9 ew9
    refine lv_aload_n hx hb dX10_foretell_56 rfl (lv_at hl 0 rfl) ?_
    refine hp_get (ci := 10) (v := .int (vI w9 1051 o)) hx hb hts ix_X10_foretell_10 hown hK h ho (by decide) rfl 51 (by decide) (hts _ lk_X10_foretell_279) (fun _ h9 => h9) rfl dX10_foretell_57 ?_
    exact hp_iret hx hb hr rfl hlocks hK h hp dX10_foretell_60
  · have hp := hp.2 hc2
    refine lv_iconst (v := (-1)) hx hb dX10_foretell_14 (by decide) ?_
    exact hp_iret hx hb hr rfl hlocks hK h hp dX10_foretell_15
abbrev rmX10_at : Room := { frames := 0, cells := 0, slots := 0, locals := 0 }
def wp_X10_at (z : Zt) (p0 : Int32) (p1 : Int32) (p2 : Int32) (w : Vt) (K : Int32 → Vt → Prop) : Prop := K ((((18 * p0) + p1) * 18) + p2) w
set_option maxHeartbeats 4000000 in
set_option maxRecDepth 100000 in
theorem k_X10_at (l : Launch) (G : Gt) (z : Zt) (w : Vt) (sz : Nat) (p0 : Int32) (p1 : Int32) (p2 : Int32) (K : Int32 → Vt → Prop) (hp : wp_X10_at z p0 p1 p2 w K) : MI l yX10_at wsX10_at rmX10_at G z w sz [.int p0, .int p1, .int p2] K := by
  refine Met.ofW (cc := cX10_at) (maxL := 3) (ret := (some .int)) (by decide +kernel) rfl ?_
  intro p e s m args below meth c s₁ B hml hv
  obtain ⟨rfl, rfl, C, h⟩ := hp_start B hml hv
  generalize gA G z w s.heap.size = A at C h ⊢
  obtain ⟨hx, hb, hr, hlocks, hml, hown, hts, hK, hA, hE⟩ := id C
  have hl := lv_entry ([.int p0, .int p1, .int p2]) (n := 3) (Nat.le_of_ble_eq_true rfl)
  rw [lg_entry_eq]
  generalize (lg_sl ([.int p0, .int p1, .int p2]) ++ List.replicate (3 - (lg_sl ([.int p0, .int p1, .int p2])).length) Slot.unset).toArray = ls at hl ⊢
  have hl : lv_has ls 3 [(0, .int p0), (1, .int p1), (2, .int p2)] := hl
  refine lv_bipush (v := 18) hx hb dX10_at_0 (by decide) ?_
  refine lv_iload_n hx hb dX10_at_2 rfl (lv_at hl 0 rfl) ?_
  refine lv_imul hx hb dX10_at_3 ?_
  refine lv_iload_n hx hb dX10_at_4 rfl (lv_at hl 1 rfl) ?_
  refine lv_iadd hx hb dX10_at_5 ?_
  refine lv_bipush (v := 18) hx hb dX10_at_6 (by decide) ?_
  refine lv_imul hx hb dX10_at_8 ?_
  refine lv_iload_n hx hb dX10_at_9 rfl (lv_at hl 2 rfl) ?_
  refine lv_iadd hx hb dX10_at_10 ?_
  exact hp_iret hx hb hr rfl hlocks hK h hp dX10_at_11
abbrev rmX10_best : Room := { frames := 1, cells := 0, slots := 0, locals := 22 }
theorem ix_X10_best_10 : ∀ w ∈ wsX100, w ∈ wsX10_best := by decide +kernel
theorem lk_X10_best_124 : Cond.fieldLink RX10 124 "KelpShoresModel" "most" "[I" ∈ wsX10_best := by decide +kernel
theorem lk_X10_best_114 : Cond.fieldLink RX10 114 "KelpShoresModel" "isLow" "[Z" ∈ wsX10_best := by decide +kernel
theorem wd_X10_best_l179 : Cond.methodLink RX10 179 Lib.Math.max.name ∈ wsX10_best := by decide +kernel
theorem wd_X10_best_smax : Cond.static Lib.Math.max.name ∈ wsX10_best := by decide +kernel
theorem wd_X10_best_iM : Cond.initialized "java/lang/Math" ∈ wsX10_best := by decide +kernel
theorem wd_X10_best_kmax : Cond.code Lib.Math.max.name Lib.Math.max.code 2 (some .int) ∈ wsX10_best := by decide +kernel
theorem lk_X10_best_118 : Cond.fieldLink RX10 118 "KelpShoresModel" "isWindy" "[Z" ∈ wsX10_best := by decide +kernel
theorem lk_X10_best_121 : Cond.fieldLink RX10 121 "KelpShoresModel" "isRainy" "[Z" ∈ wsX10_best := by decide +kernel
theorem lk_X10_best_279 : Cond.fieldLink RX10 279 "KelpShoresModel" "foretold" "I" ∈ wsX10_best := by decide +kernel
def wp_X10_best (z : Zt) (o : Nat) (p0 : Int32) (p1 : Int32) (p2 : Int32) (w : Vt) (K : Int32 → Vt → Prop) : Prop := isO z 10 o ∧ ∃ b1 : Nat, zR z 1052 o = some b1 ∧ isO z 2052 b1 ∧ wp_X10_at z (p0 + 1) p1 p2 w (fun r3 w2 => vp_in r3 5508 ∧ ∀ x4 : Int32, x4 = vA w2 2052 b1 (r3 : Int32).toNatClampNeg → ∃ b5 : Nat, zR z 1048 o = some b5 ∧ isO z 2048 b5 ∧ vp_in p0 18 ∧ ∃ J6 : Int32 → Vt → Prop, (∀ (x7 : Int32) (w8 : Vt), J6 x7 w8 → ∃ J13 : Int32 → Vt → Prop, (∀ (x14 : Int32) (w15 : Vt), J13 x14 w15 → ∃ J24 : Int32 → Vt → Prop, (∀ (x25 : Int32) (w26 : Vt), J24 x25 w26 → (x25 = 0 → K x14 w26) ∧ (¬ x25 = 0 → wp_X10_at z (p0 + 1) p1 0 w26 (fun r35 w34 => vp_in r35 5508 ∧ ∀ x36 : Int32, x36 = (if x14 < (p2 + (vA w34 2052 b1 (r35 : Int32).toNatClampNeg)) then p2 + (vA w34 2052 b1 (r35 : Int32).toNatClampNeg) else x14) → K x36 w34))) ∧ (p2 ≤ 0 → J24 0 w15) ∧ (¬ p2 ≤ 0 → ((vI w15 1051 o) ≤ (p0 + 2) → J24 0 w15) ∧ (¬ (vI w15 1051 o) ≤ (p0 + 2) → ∃ b29 : Nat, zR z 1050 o = some b29 ∧ isO z 2050 b29 ∧ vp_in p0 18 ∧ (¬ (vA w15 2050 b29 (p0 : Int32).toNatClampNeg) = 0 → J24 0 w15) ∧ ((vA w15 2050 b29 (p0 : Int32).toNatClampNeg) = 0 → vp_in (p0 + 1) 18 ∧ (¬ (vA w15 2050 b29 (p0 + 1 : Int32).toNatClampNeg) = 0 → J24 0 w15) ∧ ((vA w15 2050 b29 (p0 + 1 : Int32).toNatClampNeg) = 0 → vp_in (p0 + 2) 18 ∧ (¬ (vA w15 2050 b29 (p0 + 2 : Int32).toNatClampNeg) = 0 → J24 0 w15) ∧ ((vA w15 2050 b29 (p0 + 2 : Int32).toNatClampNeg) = 0 → J24 1 w15)))))) ∧ (p1 ≤ 0 → J13 x7 w8) ∧ (¬ p1 ≤ 0 → ∃ b17 : Nat, zR z 1049 o = some b17 ∧ isO z 2049 b17 ∧ vp_in p0 18 ∧ ((vA w8 2049 b17 (p0 : Int32).toNatClampNeg) = 0 → J13 x7 w8) ∧ (¬ (vA w8 2049 b17 (p0 : Int32).toNatClampNeg) = 0 → ∃ b19 : Nat, zR z 1050 o = some b19 ∧ isO z 2050 b19 ∧ vp_in p0 18 ∧ (¬ (vA w8 2050 b19 (p0 : Int32).toNatClampNeg) = 0 → J13 x7 w8) ∧ ((vA w8 2050 b19 (p0 : Int32).toNatClampNeg) = 0 → wp_X10_at z (p0 + 1) (p1 - 1) (p2 + 1) w8 (fun r22 w21 => vp_in r22 5508 ∧ ∀ x23 : Int32, x23 = (if x7 < (vA w21 2052 b1 (r22 : Int32).toNatClampNeg) then vA w21 2052 b1 (r22 : Int32).toNatClampNeg else x7) → J13 x23 w21))))) ∧ ((vA w2 2048 b5 (p0 : Int32).toNatClampNeg) = 0 → J6 x4 w2) ∧ (¬ (vA w2 2048 b5 (p0 : Int32).toNatClampNeg) = 0 → wp_X10_at z (p0 + 1) (p1 + 1) p2 w2 (fun r11 w10 => vp_in r11 5508 ∧ ∀ x12 : Int32, x12 = (if x4 < (vA w10 2052 b1 (r11 : Int32).toNatClampNeg) then vA w10 2052 b1 (r11 : Int32).toNatClampNeg else x4) → J6 x12 w10)))
set_option maxHeartbeats 4000000 in
set_option maxRecDepth 100000 in
theorem k_X10_best (l : Launch) (G : Gt) (z : Zt) (w : Vt) (sz : Nat) (o : Nat) (p0 : Int32) (p1 : Int32) (p2 : Int32) (K : Int32 → Vt → Prop) (hp : wp_X10_best z o p0 p1 p2 w K) : MI l yX10_best wsX10_best rmX10_best G z w sz [.ref o, .int p0, .int p1, .int p2] K := by
  refine Met.ofW (cc := cX10_best) (maxL := 6) (ret := (some .int)) (by decide +kernel) rfl ?_
  intro p e s m args below meth c s₁ B hml hv
  obtain ⟨rfl, rfl, C, h⟩ := hp_start B hml hv
  generalize gA G z w s.heap.size = A at C h ⊢
  obtain ⟨hx, hb, hr, hlocks, hml, hown, hts, hK, hA, hE⟩ := id C
  obtain ⟨ho, hp⟩ := hp
  have hl := lv_entry ([.ref o, .int p0, .int p1, .int p2]) (n := 6) (Nat.le_of_ble_eq_true rfl)
  rw [lg_entry_eq]
  generalize (lg_sl ([.ref o, .int p0, .int p1, .int p2]) ++ List.replicate (6 - (lg_sl ([.ref o, .int p0, .int p1, .int p2])).length) Slot.unset).toArray = ls at hl ⊢
  have hl : lv_has ls 6 [(0, .ref o), (1, .int p0), (2, .int p1), (3, .int p2)] := hl
  refine lv_aload_n hx hb dX10_best_0 rfl (lv_at hl 0 rfl) ?_
  obtain ⟨b1, eb1, hob1, hp⟩ := hp
  refine hp_get (ci := 10) (v := .ref b1) hx hb hts ix_X10_best_10 hown hK h ho (by decide) rfl 52 (by decide) (hts _ lk_X10_best_124) (fun _ h9 => h9) (by show some (va_rf (zR z 1052 o)) = some (Value.ref b1); rw [eb1]; rfl) dX10_best_1 ?_
  refine lv_iload_n hx hb dX10_best_4 rfl (lv_at hl 1 rfl) ?_
  refine lv_iconst (v := 1) hx hb dX10_best_5 (by decide) ?_
  refine lv_iadd hx hb dX10_best_6 ?_
  refine lv_iload_n hx hb dX10_best_7 rfl (lv_at hl 2 rfl) ?_
  refine lv_iload_n hx hb dX10_best_8 rfl (lv_at hl 3 rfl) ?_
  refine hp_cSi ⟨hx, hb, hml, hown, hts⟩ (k_X10_at l G z w _ (p0 + 1) p1 p2 _ hp) (cwS 3 hts gX10_best_X10_at rfl rfl rfl (by decide +kernel) ⟨Nat.le_of_ble_eq_true rfl, Nat.le_of_ble_eq_true rfl⟩) hK h hA hE rfl hl.1 rfl (Nat.le_of_ble_eq_true rfl) dX10_best_9 ⟨Nat.le_of_ble_eq_true rfl, Nat.le_of_ble_eq_true rfl⟩ (fun r3 w2 H locs hp h => ?_)
  refine hp_iald (t := 2052) (n := 5508) hx hb hK h hob1 (by decide) (fun _ _ _ => rfl) hp.1 dX10_best_12 ?_
  have hp := hp.2
  refine lv_topi (fun x4 ex4 => ?_)
  have hp := hp x4 ex4
  refine lv_istore (lv' := [(4, .int x4), (0, .ref o), (1, .int p0), (2, .int p1), (3, .int p2)]) hx hb dX10_best_13 hl (by decide) rfl (fun ls hl => ?_)
  refine lv_aload_n hx hb dX10_best_15 rfl (lv_at hl 1 rfl) ?_
  obtain ⟨b5, eb5, hob5, hp⟩ := hp
  refine hp_get (ci := 10) (v := .ref b5) hx hb hts ix_X10_best_10 hown hK h ho (by decide) rfl 48 (by decide) (hts _ lk_X10_best_114) (fun _ h9 => h9) (by show some (va_rf (zR z 1048 o)) = some (Value.ref b5); rw [eb5]; rfl) dX10_best_16 ?_
  refine lv_iload_n hx hb dX10_best_19 rfl (lv_at hl 2 rfl) ?_
  refine hp_zald (t := 2048) (n := 18) hx hb hK h hob5 (by decide) (fun _ _ _ => rfl) hp.1 dX10_best_20 ?_
  have hp := hp.2
  obtain ⟨J6, jJ6, hp⟩ := hp
  refine hp_jn1 (G := G) (A := A) (z := z) (J := J6) (nL := 6) (j := 46) (lvf := fun x7 => [(4, .int x7), (0, .ref o), (1, .int p0), (2, .int p1), (3, .int p2)]) (stf := fun x7 => []) (fun kJ6 => ?_) (fun x7 w8 H locs ls hp h hl => ?_)
  · refine lv_if_eq (tgt := 46) hx hb dX10_best_21 (by decide) (fun hc9 => ?_) (fun hc9 => ?_)
    · have hp := hp.1 hc9
      exact kJ6 x4 w2 _ _ _ hp h (lv_sub hl [0, 1, 2, 3, 4] rfl)
    · have hp := hp.2 hc9
      refine lv_iload hx hb dX10_best_24 (lv_at hl 0 rfl) ?_
      refine lv_aload_n hx hb dX10_best_26 rfl (lv_at hl 1 rfl) ?_
      refine hp_get (ci := 10) (v := .ref b1) hx hb hts ix_X10_best_10 hown hK h ho (by decide) rfl 52 (by decide) (hts _ lk_X10_best_124) (fun _ h9 => h9) (by show some (va_rf (zR z 1052 o)) = some (Value.ref b1); rw [eb1]; rfl) dX10_best_27 ?_
      refine lv_iload_n hx hb dX10_best_30 rfl (lv_at hl 2 rfl) ?_
      refine lv_iconst (v := 1) hx hb dX10_best_31 (by decide) ?_
      refine lv_iadd hx hb dX10_best_32 ?_
      refine lv_iload_n hx hb dX10_best_33 rfl (lv_at hl 3 rfl) ?_
      refine lv_iconst (v := 1) hx hb dX10_best_34 (by decide) ?_
      refine lv_iadd hx hb dX10_best_35 ?_
      refine lv_iload_n hx hb dX10_best_36 rfl (lv_at hl 4 rfl) ?_
      refine hp_cSi ⟨hx, hb, hml, hown, hts⟩ (k_X10_at l G z w2 _ (p0 + 1) (p1 + 1) p2 _ hp) (cwS 3 hts gX10_best_X10_at rfl rfl rfl (by decide +kernel) ⟨Nat.le_of_ble_eq_true rfl, Nat.le_of_ble_eq_true rfl⟩) hK h hA hE rfl hl.1 rfl (Nat.le_of_ble_eq_true rfl) dX10_best_37 ⟨Nat.le_of_ble_eq_true rfl, Nat.le_of_ble_eq_true rfl⟩ (fun r11 w10 H locs hp h => ?_)
      refine hp_iald (t := 2052) (n := 5508) hx hb hK h hob1 (by decide) (fun _ _ _ => rfl) hp.1 dX10_best_40 ?_
      have hp := hp.2
      refine va_mmax hx hb (by rw [hml]; exact hl.1.symm) hown (hts _ wd_X10_best_l179) (hts _ wd_X10_best_smax) (hts _ wd_X10_best_iM) (hts _ wd_X10_best_kmax) (Nat.le_of_ble_eq_true rfl) (Nat.le_of_ble_eq_true rfl) (Nat.zero_le _) (Nat.zero_le _) dX10_best_41 ?_
      refine lv_topi (fun x12 ex12 => ?_)
      have hp := hp x12 ex12
      refine lv_istore (lv' := [(4, .int x12), (0, .ref o), (1, .int p0), (2, .int p1), (3, .int p2)]) hx hb dX10_best_44 hl (by decide) rfl (fun ls hl => ?_)
      exact kJ6 x12 w10 _ _ _ hp h (lv_sub hl [0, 1, 2, 3, 4] rfl)
  have hp := jJ6 x7 w8 hp
  refine lv_iload_n hx hb dX10_best_46 rfl (lv_at hl 3 rfl) ?_
  obtain ⟨J13, jJ13, hp⟩ := hp
  refine hp_jn1 (G := G) (A := A) (z := z) (J := J13) (nL := 6) (j := 92) (lvf := fun x14 => [(4, .int x14), (0, .ref o), (1, .int p0), (2, .int p1), (3, .int p2)]) (stf := fun x14 => []) (fun kJ13 => ?_) (fun x14 w15 H locs ls hp h hl => ?_)
  · refine lv_if_le (tgt := 92) hx hb dX10_best_47 (by decide) (fun hc16 => ?_) (fun hc16 => ?_)
    · have hp := hp.1 hc16
      exact kJ13 x7 w8 _ _ _ hp h (lv_sub hl [0, 1, 2, 3, 4] rfl)
    · have hp := hp.2 hc16
      refine lv_aload_n hx hb dX10_best_50 rfl (lv_at hl 1 rfl) ?_
      obtain ⟨b17, eb17, hob17, hp⟩ := hp
      refine hp_get (ci := 10) (v := .ref b17) hx hb hts ix_X10_best_10 hown hK h ho (by decide) rfl 49 (by decide) (hts _ lk_X10_best_118) (fun _ h9 => h9) (by show some (va_rf (zR z 1049 o)) = some (Value.ref b17); rw [eb17]; rfl) dX10_best_51 ?_
      refine lv_iload_n hx hb dX10_best_54 rfl (lv_at hl 2 rfl) ?_
      refine hp_zald (t := 2049) (n := 18) hx hb hK h hob17 (by decide) (fun _ _ _ => rfl) hp.1 dX10_best_55 ?_
      have hp := hp.2
      refine lv_if_eq (tgt := 92) hx hb dX10_best_56 (by decide) (fun hc18 => ?_) (fun hc18 => ?_)
      · have hp := hp.1 hc18
        exact kJ13 x7 w8 _ _ _ hp h (lv_sub hl [0, 1, 2, 3, 4] rfl)
      · have hp := hp.2 hc18
        refine lv_aload_n hx hb dX10_best_59 rfl (lv_at hl 1 rfl) ?_
        obtain ⟨b19, eb19, hob19, hp⟩ := hp
        refine hp_get (ci := 10) (v := .ref b19) hx hb hts ix_X10_best_10 hown hK h ho (by decide) rfl 50 (by decide) (hts _ lk_X10_best_121) (fun _ h9 => h9) (by show some (va_rf (zR z 1050 o)) = some (Value.ref b19); rw [eb19]; rfl) dX10_best_60 ?_
        refine lv_iload_n hx hb dX10_best_63 rfl (lv_at hl 2 rfl) ?_
        refine hp_zald (t := 2050) (n := 18) hx hb hK h hob19 (by decide) (fun _ _ _ => rfl) hp.1 dX10_best_64 ?_
        have hp := hp.2
        refine lv_if_ne (tgt := 92) hx hb dX10_best_65 (by decide) (fun hc20 => ?_) (fun hc20 => ?_)
        · have hp := hp.1 hc20
          exact kJ13 x7 w8 _ _ _ hp h (lv_sub hl [0, 1, 2, 3, 4] rfl)
        · have hp := hp.2 hc20
          refine lv_iload hx hb dX10_best_68 (lv_at hl 0 rfl) ?_
          refine lv_aload_n hx hb dX10_best_70 rfl (lv_at hl 1 rfl) ?_
          refine hp_get (ci := 10) (v := .ref b1) hx hb hts ix_X10_best_10 hown hK h ho (by decide) rfl 52 (by decide) (hts _ lk_X10_best_124) (fun _ h9 => h9) (by show some (va_rf (zR z 1052 o)) = some (Value.ref b1); rw [eb1]; rfl) dX10_best_71 ?_
          refine lv_iload_n hx hb dX10_best_74 rfl (lv_at hl 2 rfl) ?_
          refine lv_iconst (v := 1) hx hb dX10_best_75 (by decide) ?_
          refine lv_iadd hx hb dX10_best_76 ?_
          refine lv_iload_n hx hb dX10_best_77 rfl (lv_at hl 3 rfl) ?_
          refine lv_iconst (v := 1) hx hb dX10_best_78 (by decide) ?_
          refine lv_isub hx hb dX10_best_79 ?_
          refine lv_iload_n hx hb dX10_best_80 rfl (lv_at hl 4 rfl) ?_
          refine lv_iconst (v := 1) hx hb dX10_best_81 (by decide) ?_
          refine lv_iadd hx hb dX10_best_82 ?_
          refine hp_cSi ⟨hx, hb, hml, hown, hts⟩ (k_X10_at l G z w8 _ (p0 + 1) (p1 - 1) (p2 + 1) _ hp) (cwS 3 hts gX10_best_X10_at rfl rfl rfl (by decide +kernel) ⟨Nat.le_of_ble_eq_true rfl, Nat.le_of_ble_eq_true rfl⟩) hK h hA hE rfl hl.1 rfl (Nat.le_of_ble_eq_true rfl) dX10_best_83 ⟨Nat.le_of_ble_eq_true rfl, Nat.le_of_ble_eq_true rfl⟩ (fun r22 w21 H locs hp h => ?_)
          refine hp_iald (t := 2052) (n := 5508) hx hb hK h hob1 (by decide) (fun _ _ _ => rfl) hp.1 dX10_best_86 ?_
          have hp := hp.2
          refine va_mmax hx hb (by rw [hml]; exact hl.1.symm) hown (hts _ wd_X10_best_l179) (hts _ wd_X10_best_smax) (hts _ wd_X10_best_iM) (hts _ wd_X10_best_kmax) (Nat.le_of_ble_eq_true rfl) (Nat.le_of_ble_eq_true rfl) (Nat.zero_le _) (Nat.zero_le _) dX10_best_87 ?_
          refine lv_topi (fun x23 ex23 => ?_)
          have hp := hp x23 ex23
          refine lv_istore (lv' := [(4, .int x23), (0, .ref o), (1, .int p0), (2, .int p1), (3, .int p2)]) hx hb dX10_best_90 hl (by decide) rfl (fun ls hl => ?_)
          exact kJ13 x23 w21 _ _ _ hp h (lv_sub hl [0, 1, 2, 3, 4] rfl)
  have hp := jJ13 x14 w15 hp
  refine lv_iload_n hx hb dX10_best_92 rfl (lv_at hl 4 rfl) ?_
  obtain ⟨J24, jJ24, hp⟩ := hp
  refine hp_jn1 (G := G) (A := A) (z := z) (J := J24) (nL := 6) (j := 142) (lvf := fun x25 => [(4, .int x14), (0, .ref o), (1, .int p0), (2, .int p1), (3, .int p2)]) (stf := fun x25 => [.int x25]) (fun kJ24 => ?_) (fun x25 w26 H locs ls hp h hl => ?_)
  · refine lv_if_le (tgt := 141) hx hb dX10_best_93 (by decide) (fun hc27 => ?_) (fun hc27 => ?_)
    · have hp := hp.1 hc27
      refine lv_iconst (v := 0) hx hb dX10_best_141 (by decide) ?_
      exact kJ24 0 w15 _ _ _ hp h (lv_sub hl [0, 1, 2, 3, 4] rfl)
    · have hp := hp.2 hc27
      refine lv_iload_n hx hb dX10_best_96 rfl (lv_at hl 2 rfl) ?_
      refine lv_iconst (v := 2) hx hb dX10_best_97 (by decide) ?_
      refine lv_iadd hx hb dX10_best_98 ?_
      refine lv_aload_n hx hb dX10_best_99 rfl (lv_at hl 1 rfl) ?_
      refine hp_get (ci := 10) (v := .int (vI w15 1051 o)) hx hb hts ix_X10_best_10 hown hK h ho (by decide) rfl 51 (by decide) (hts _ lk_X10_best_279) (fun _ h9 => h9) rfl dX10_best_100 ?_
      refine lv_icmp_ge (tgt := 141) hx hb dX10_best_103 (by decide) (fun hc28 => ?_) (fun hc28 => ?_)
      · have hp := hp.1 hc28
        refine lv_iconst (v := 0) hx hb dX10_best_141 (by decide) ?_
        exact kJ24 0 w15 _ _ _ hp h (lv_sub hl [0, 1, 2, 3, 4] rfl)
      · have hp := hp.2 hc28
        refine lv_aload_n hx hb dX10_best_106 rfl (lv_at hl 1 rfl) ?_
        obtain ⟨b29, eb29, hob29, hp⟩ := hp
        refine hp_get (ci := 10) (v := .ref b29) hx hb hts ix_X10_best_10 hown hK h ho (by decide) rfl 50 (by decide) (hts _ lk_X10_best_121) (fun _ h9 => h9) (by show some (va_rf (zR z 1050 o)) = some (Value.ref b29); rw [eb29]; rfl) dX10_best_107 ?_
        refine lv_iload_n hx hb dX10_best_110 rfl (lv_at hl 2 rfl) ?_
        refine hp_zald (t := 2050) (n := 18) hx hb hK h hob29 (by decide) (fun _ _ _ => rfl) hp.1 dX10_best_111 ?_
        have hp := hp.2
        refine lv_if_ne (tgt := 141) hx hb dX10_best_112 (by decide) (fun hc30 => ?_) (fun hc30 => ?_)
        · have hp := hp.1 hc30
          refine lv_iconst (v := 0) hx hb dX10_best_141 (by decide) ?_
          exact kJ24 0 w15 _ _ _ hp h (lv_sub hl [0, 1, 2, 3, 4] rfl)
        · have hp := hp.2 hc30
          refine lv_aload_n hx hb dX10_best_115 rfl (lv_at hl 1 rfl) ?_
          refine hp_get (ci := 10) (v := .ref b29) hx hb hts ix_X10_best_10 hown hK h ho (by decide) rfl 50 (by decide) (hts _ lk_X10_best_121) (fun _ h9 => h9) (by show some (va_rf (zR z 1050 o)) = some (Value.ref b29); rw [eb29]; rfl) dX10_best_116 ?_
          refine lv_iload_n hx hb dX10_best_119 rfl (lv_at hl 2 rfl) ?_
          refine lv_iconst (v := 1) hx hb dX10_best_120 (by decide) ?_
          refine lv_iadd hx hb dX10_best_121 ?_
          refine hp_zald (t := 2050) (n := 18) hx hb hK h hob29 (by decide) (fun _ _ _ => rfl) hp.1 dX10_best_122 ?_
          have hp := hp.2
          refine lv_if_ne (tgt := 141) hx hb dX10_best_123 (by decide) (fun hc31 => ?_) (fun hc31 => ?_)
          · have hp := hp.1 hc31
            refine lv_iconst (v := 0) hx hb dX10_best_141 (by decide) ?_
            exact kJ24 0 w15 _ _ _ hp h (lv_sub hl [0, 1, 2, 3, 4] rfl)
          · have hp := hp.2 hc31
            refine lv_aload_n hx hb dX10_best_126 rfl (lv_at hl 1 rfl) ?_
            refine hp_get (ci := 10) (v := .ref b29) hx hb hts ix_X10_best_10 hown hK h ho (by decide) rfl 50 (by decide) (hts _ lk_X10_best_121) (fun _ h9 => h9) (by show some (va_rf (zR z 1050 o)) = some (Value.ref b29); rw [eb29]; rfl) dX10_best_127 ?_
            refine lv_iload_n hx hb dX10_best_130 rfl (lv_at hl 2 rfl) ?_
            refine lv_iconst (v := 2) hx hb dX10_best_131 (by decide) ?_
            refine lv_iadd hx hb dX10_best_132 ?_
            refine hp_zald (t := 2050) (n := 18) hx hb hK h hob29 (by decide) (fun _ _ _ => rfl) hp.1 dX10_best_133 ?_
            have hp := hp.2
            refine lv_if_ne (tgt := 141) hx hb dX10_best_134 (by decide) (fun hc32 => ?_) (fun hc32 => ?_)
            · have hp := hp.1 hc32
              refine lv_iconst (v := 0) hx hb dX10_best_141 (by decide) ?_
              exact kJ24 0 w15 _ _ _ hp h (lv_sub hl [0, 1, 2, 3, 4] rfl)
            · have hp := hp.2 hc32
              refine lv_iconst (v := 1) hx hb dX10_best_137 (by decide) ?_
              refine lv_goto (tgt := 142) hx hb dX10_best_138 (by decide) ?_
              exact kJ24 1 w15 _ _ _ hp h (lv_sub hl [0, 1, 2, 3, 4] rfl)
  have hp := jJ24 x25 w26 hp
  refine lv_istore (lv' := [(5, .int x25), (4, .int x14), (0, .ref o), (1, .int p0), (2, .int p1), (3, .int p2)]) hx hb dX10_best_142 hl (by decide) rfl (fun ls hl => ?_)
  refine lv_iload hx hb dX10_best_144 (lv_at hl 0 rfl) ?_
  refine lv_if_eq (tgt := 172) hx hb dX10_best_146 (by decide) (fun hc33 => ?_) (fun hc33 => ?_)
  · have hp := hp.1 hc33
    refine lv_iload hx hb dX10_best_172 (lv_at hl 1 rfl) ?_
    exact hp_iret hx hb hr rfl hlocks hK h hp dX10_best_174
  · have hp := hp.2 hc33
    refine lv_iload hx hb dX10_best_149 (lv_at hl 1 rfl) ?_
    refine lv_iload_n hx hb dX10_best_151 rfl (lv_at hl 5 rfl) ?_
    refine lv_aload_n hx hb dX10_best_152 rfl (lv_at hl 2 rfl) ?_
    refine hp_get (ci := 10) (v := .ref b1) hx hb hts ix_X10_best_10 hown hK h ho (by decide) rfl 52 (by decide) (hts _ lk_X10_best_124) (fun _ h9 => h9) (by show some (va_rf (zR z 1052 o)) = some (Value.ref b1); rw [eb1]; rfl) dX10_best_153 ?_
    refine lv_iload_n hx hb dX10_best_156 rfl (lv_at hl 3 rfl) ?_
    refine lv_iconst (v := 1) hx hb dX10_best_157 (by decide) ?_
    refine lv_iadd hx hb dX10_best_158 ?_
    refine lv_iload_n hx hb dX10_best_159 rfl (lv_at hl 4 rfl) ?_
    refine lv_iconst (v := 0) hx hb dX10_best_160 (by decide) ?_
    refine hp_cSi ⟨hx, hb, hml, hown, hts⟩ (k_X10_at l G z w26 _ (p0 + 1) p1 0 _ hp) (cwS 3 hts gX10_best_X10_at rfl rfl rfl (by decide +kernel) ⟨Nat.le_of_ble_eq_true rfl, Nat.le_of_ble_eq_true rfl⟩) hK h hA hE rfl hl.1 rfl (Nat.le_of_ble_eq_true rfl) dX10_best_161 ⟨Nat.le_of_ble_eq_true rfl, Nat.le_of_ble_eq_true rfl⟩ (fun r35 w34 H locs hp h => ?_)
    refine hp_iald (t := 2052) (n := 5508) hx hb hK h hob1 (by decide) (fun _ _ _ => rfl) hp.1 dX10_best_164 ?_
    have hp := hp.2
    refine lv_iadd hx hb dX10_best_165 ?_
    refine va_mmax hx hb (by rw [hml]; exact hl.1.symm) hown (hts _ wd_X10_best_l179) (hts _ wd_X10_best_smax) (hts _ wd_X10_best_iM) (hts _ wd_X10_best_kmax) (Nat.le_of_ble_eq_true rfl) (Nat.le_of_ble_eq_true rfl) (Nat.zero_le _) (Nat.zero_le _) dX10_best_166 ?_
    refine lv_topi (fun x36 ex36 => ?_)
    have hp := hp x36 ex36
    refine lv_goto (tgt := 174) hx hb dX10_best_169 (by decide) ?_
    exact hp_iret hx hb hr rfl hlocks hK h hp dX10_best_174
abbrev rmX10_plan : Room := { frames := 2, cells := 0, slots := 0, locals := 47 }
theorem ix_X10_plan_10 : ∀ w ∈ wsX100, w ∈ wsX10_plan := by decide +kernel
theorem lk_X10_plan_127 : Cond.fieldLink RX10 127 "KelpShoresModel" "thrown" "I" ∈ wsX10_plan := by decide +kernel
theorem lk_X10_plan_279 : Cond.fieldLink RX10 279 "KelpShoresModel" "foretold" "I" ∈ wsX10_plan := by decide +kernel
theorem lk_X10_plan_124 : Cond.fieldLink RX10 124 "KelpShoresModel" "most" "[I" ∈ wsX10_plan := by decide +kernel
def wL_X10_plan_20 (z : Zt) (o : Nat) (K : Int32 → Vt → Prop) (Kx : Int32 → Int32 → Int32 → Vt → Prop) : Nat → Int32 → Int32 → Int32 → Vt → Prop
  | 0, _, _, _, _ => False
  | n + 1, x3_, x2_, x1_, w => (18 ≤ x3_ → Kx x3_ x2_ x1_ w) ∧ (¬ 18 ≤ x3_ → ∃ b5 : Nat, zR z 1052 o = some b5 ∧ isO z 2052 b5 ∧ wp_X10_at z x1_ x2_ x3_ w (fun r7 w6 => vp_in r7 5508 ∧ ∀ w8 : Vt, w8 = uA w6 2052 b5 (r7 : Int32).toNatClampNeg 0 → ∀ x9 : Int32, x9 = x3_ + 1 → wL_X10_plan_20 z o K Kx n x9 x2_ x1_ w8))
set_option maxHeartbeats 4000000 in
set_option maxRecDepth 100000 in
theorem kL_X10_plan_20 {p : Program} {l : Launch} {e : Env} {s : State} {m : MethodId} {args : Array Value} {below : List Frame} {meth : Method} {c : Code} {G : Gt} {A : Nat → Prop} {z : Zt} (C : gC p s m args meth c cX10_plan 5 RX10 wsX10_plan (some .int) G A) (o : Nat) (ho : isO z 10 o) (K : Int32 → Vt → Prop) (Kx : Int32 → Int32 → Int32 → Vt → Prop) (kKx : ∀ (x3_ x2_ x1_ : Int32) (w : Vt) (H : Heap) (locs : List Loc) (ls : Array Slot), Kx x3_ x2_ x1_ w → hpH G.1 G.2.1 A s.heap z w H locs → lv_has ls 5 [(3, .int x3_), (2, .int x2_), (1, .int x1_), (0, .ref o)] → W p l e (headSpec wsX10_plan rmX10_plan).room s m args below meth c H locs 0 0 (MQ below (va_Qi K (gB G A z) A) args s 0 0 A) (F0 m 44 ls [])) : ∀ (n : Nat) (x3_ x2_ x1_ : Int32) (w : Vt) (H : Heap) (locs : List Loc) (ls : Array Slot), wL_X10_plan_20 z o K Kx n x3_ x2_ x1_ w → hpH G.1 G.2.1 A s.heap z w H locs → lv_has ls 5 [(3, .int x3_), (2, .int x2_), (1, .int x1_), (0, .ref o)] → W p l e (headSpec wsX10_plan rmX10_plan).room s m args below meth c H locs 0 0 (MQ below (va_Qi K (gB G A z) A) args s 0 0 A) (F0 m 20 ls []) := by
  obtain ⟨hx, hb, hr, hlocks, hml, hown, hts, hK, hA, hE⟩ := id C
  intro n
  induction n with
  | zero =>
    intro x3_ x2_ x1_ w H locs ls hp
    exact hp.elim
  | succ n ih =>
    intro x3_ x2_ x1_ w H locs ls hp h hl
    refine lv_iload_n hx hb dX10_plan_20 rfl (lv_at hl 0 rfl) ?_
    refine lv_bipush (v := 18) hx hb dX10_plan_21 (by decide) ?_
    refine lv_icmp_ge (tgt := 44) hx hb dX10_plan_23 (by decide) (fun hc4 => ?_) (fun hc4 => ?_)
    · have hp := hp.1 hc4
      exact kKx x3_ x2_ x1_ w _ _ _ hp h (lv_sub hl [0, 1, 2, 3] rfl)
    · have hp := hp.2 hc4
      refine lv_aload_n hx hb dX10_plan_26 rfl (lv_at hl 3 rfl) ?_
      obtain ⟨b5, eb5, hob5, hp⟩ := hp
      refine hp_get (ci := 10) (v := .ref b5) hx hb hts ix_X10_plan_10 hown hK h ho (by decide) rfl 52 (by decide) (hts _ lk_X10_plan_124) (fun _ h9 => h9) (by show some (va_rf (zR z 1052 o)) = some (Value.ref b5); rw [eb5]; rfl) dX10_plan_27 ?_
      refine lv_iload_n hx hb dX10_plan_30 rfl (lv_at hl 2 rfl) ?_
      refine lv_iload_n hx hb dX10_plan_31 rfl (lv_at hl 1 rfl) ?_
      refine lv_iload_n hx hb dX10_plan_32 rfl (lv_at hl 0 rfl) ?_
      refine hp_cSi ⟨hx, hb, hml, hown, hts⟩ (k_X10_at l G z w _ x1_ x2_ x3_ _ hp) (cwS 3 hts gX10_plan_X10_at rfl rfl rfl (by decide +kernel) ⟨Nat.le_of_ble_eq_true rfl, Nat.le_of_ble_eq_true rfl⟩) hK h hA hE rfl hl.1 rfl (Nat.le_of_ble_eq_true rfl) dX10_plan_33 ⟨Nat.le_of_ble_eq_true rfl, Nat.le_of_ble_eq_true rfl⟩ (fun r7 w6 H locs hp h => ?_)
      refine lv_iconst (v := 0) hx hb dX10_plan_36 (by decide) ?_
      refine hp_iast (t := 2052) (n := 5508) hx hb hK h hob5 (by decide) (fun _ _ _ => rfl) hp.1 dX10_plan_37 (fun H locs w8 ew8 h => ?_)
      have hp := hp.2 w8 ew8
      obtain ⟨x9, ex9⟩ : ∃ y : Int32, y = x3_ + 1 := ⟨_, rfl⟩
      have hp := hp x9 ex9
      refine lv_iinc (v := x9) (lv' := [(3, .int x9), (2, .int x2_), (1, .int x1_), (0, .ref o)]) hx hb dX10_plan_38 hl (k := 0) rfl (by rw [ex9]; rfl) (by decide) rfl (fun ls hl => ?_)
      refine lv_goto (tgt := 20) hx hb dX10_plan_41 (by decide) ?_
      exact ih x9 x2_ x1_ w8 _ _ _ hp h (lv_sub hl [0, 1, 2, 3] rfl)
def wL_X10_plan_12 (z : Zt) (o : Nat) (K : Int32 → Vt → Prop) (Kx : Int32 → Int32 → Vt → Prop) : Nat → Int32 → Int32 → Vt → Prop
  | 0, _, _, _ => False
  | n + 1, x2_, x1_, w => (18 ≤ x2_ → Kx x2_ x1_ w) ∧ (¬ 18 ≤ x2_ → ∃ n10 : Nat, wL_X10_plan_20 z o K (fun x11 x12 x13 w14 => ∀ x15 : Int32, x15 = x12 + 1 → wL_X10_plan_12 z o K Kx n x15 x13 w14) n10 0 x2_ x1_ w)
set_option maxHeartbeats 4000000 in
set_option maxRecDepth 100000 in
theorem kL_X10_plan_12 {p : Program} {l : Launch} {e : Env} {s : State} {m : MethodId} {args : Array Value} {below : List Frame} {meth : Method} {c : Code} {G : Gt} {A : Nat → Prop} {z : Zt} (C : gC p s m args meth c cX10_plan 5 RX10 wsX10_plan (some .int) G A) (o : Nat) (ho : isO z 10 o) (K : Int32 → Vt → Prop) (Kx : Int32 → Int32 → Vt → Prop) (kKx : ∀ (x2_ x1_ : Int32) (w : Vt) (H : Heap) (locs : List Loc) (ls : Array Slot), Kx x2_ x1_ w → hpH G.1 G.2.1 A s.heap z w H locs → lv_has ls 5 [(2, .int x2_), (1, .int x1_), (0, .ref o)] → W p l e (headSpec wsX10_plan rmX10_plan).room s m args below meth c H locs 0 0 (MQ below (va_Qi K (gB G A z) A) args s 0 0 A) (F0 m 50 ls [])) : ∀ (n : Nat) (x2_ x1_ : Int32) (w : Vt) (H : Heap) (locs : List Loc) (ls : Array Slot), wL_X10_plan_12 z o K Kx n x2_ x1_ w → hpH G.1 G.2.1 A s.heap z w H locs → lv_has ls 5 [(2, .int x2_), (1, .int x1_), (0, .ref o)] → W p l e (headSpec wsX10_plan rmX10_plan).room s m args below meth c H locs 0 0 (MQ below (va_Qi K (gB G A z) A) args s 0 0 A) (F0 m 12 ls []) := by
  obtain ⟨hx, hb, hr, hlocks, hml, hown, hts, hK, hA, hE⟩ := id C
  intro n
  induction n with
  | zero =>
    intro x2_ x1_ w H locs ls hp
    exact hp.elim
  | succ n ih =>
    intro x2_ x1_ w H locs ls hp h hl
    refine lv_iload_n hx hb dX10_plan_12 rfl (lv_at hl 0 rfl) ?_
    refine lv_bipush (v := 18) hx hb dX10_plan_13 (by decide) ?_
    refine lv_icmp_ge (tgt := 50) hx hb dX10_plan_15 (by decide) (fun hc3 => ?_) (fun hc3 => ?_)
    · have hp := hp.1 hc3
      exact kKx x2_ x1_ w _ _ _ hp h (lv_sub hl [0, 1, 2] rfl)
    · have hp := hp.2 hc3
      refine lv_iconst (v := 0) hx hb dX10_plan_18 (by decide) ?_
      refine lv_istore_n (lv' := [(3, .int 0), (2, .int x2_), (1, .int x1_), (0, .ref o)]) hx hb dX10_plan_19 rfl hl (by decide) rfl (fun ls hl => ?_)
      obtain ⟨n10, hp⟩ := hp
      refine kL_X10_plan_20 C o ho _ _ (fun x11 x12 x13 w14 H locs ls hp h hl => ?_) n10 0 x2_ x1_ w _ _ _ hp h (lv_sub hl [0, 1, 2, 3] rfl)
      obtain ⟨x15, ex15⟩ : ∃ y : Int32, y = x12 + 1 := ⟨_, rfl⟩
      have hp := hp x15 ex15
      refine lv_iinc (v := x15) (lv' := [(2, .int x15), (3, .int x11), (1, .int x13), (0, .ref o)]) hx hb dX10_plan_44 hl (k := 1) rfl (by rw [ex15]; rfl) (by decide) rfl (fun ls hl => ?_)
      refine lv_goto (tgt := 12) hx hb dX10_plan_47 (by decide) ?_
      exact ih x15 x13 w14 _ _ _ hp h (lv_sub hl [0, 2, 3] rfl)
def wL_X10_plan_68 (z : Zt) (o : Nat) (K : Int32 → Vt → Prop) (Kx : Int32 → Int32 → Int32 → Int32 → Vt → Prop) : Nat → Int32 → Int32 → Int32 → Int32 → Vt → Prop
  | 0, _, _, _, _, _ => False
  | n + 1, x4_, x3_, x2_, x1_, w => (x2_ < (x3_ + x4_) → Kx x4_ x3_ x2_ x1_ w) ∧ (¬ x2_ < (x3_ + x4_) → ∃ b24 : Nat, zR z 1052 o = some b24 ∧ isO z 2052 b24 ∧ wp_X10_at z x2_ x3_ x4_ w (fun r26 w25 => wp_X10_best z o x2_ x3_ x4_ w25 (fun r28 w27 => vp_in r26 5508 ∧ ∀ w29 : Vt, w29 = uA w27 2052 b24 (r26 : Int32).toNatClampNeg r28 → ∀ x30 : Int32, x30 = x4_ + 1 → wL_X10_plan_68 z o K Kx n x30 x3_ x2_ x1_ w29)))
set_option maxHeartbeats 4000000 in
set_option maxRecDepth 100000 in
theorem kL_X10_plan_68 {p : Program} {l : Launch} {e : Env} {s : State} {m : MethodId} {args : Array Value} {below : List Frame} {meth : Method} {c : Code} {G : Gt} {A : Nat → Prop} {z : Zt} (C : gC p s m args meth c cX10_plan 5 RX10 wsX10_plan (some .int) G A) (o : Nat) (ho : isO z 10 o) (K : Int32 → Vt → Prop) (Kx : Int32 → Int32 → Int32 → Int32 → Vt → Prop) (kKx : ∀ (x4_ x3_ x2_ x1_ : Int32) (w : Vt) (H : Heap) (locs : List Loc) (ls : Array Slot), Kx x4_ x3_ x2_ x1_ w → hpH G.1 G.2.1 A s.heap z w H locs → lv_has ls 5 [(4, .int x4_), (3, .int x3_), (2, .int x2_), (1, .int x1_), (0, .ref o)] → W p l e (headSpec wsX10_plan rmX10_plan).room s m args below meth c H locs 0 0 (MQ below (va_Qi K (gB G A z) A) args s 0 0 A) (F0 m 102 ls [])) : ∀ (n : Nat) (x4_ x3_ x2_ x1_ : Int32) (w : Vt) (H : Heap) (locs : List Loc) (ls : Array Slot), wL_X10_plan_68 z o K Kx n x4_ x3_ x2_ x1_ w → hpH G.1 G.2.1 A s.heap z w H locs → lv_has ls 5 [(4, .int x4_), (3, .int x3_), (2, .int x2_), (1, .int x1_), (0, .ref o)] → W p l e (headSpec wsX10_plan rmX10_plan).room s m args below meth c H locs 0 0 (MQ below (va_Qi K (gB G A z) A) args s 0 0 A) (F0 m 68 ls []) := by
  obtain ⟨hx, hb, hr, hlocks, hml, hown, hts, hK, hA, hE⟩ := id C
  intro n
  induction n with
  | zero =>
    intro x4_ x3_ x2_ x1_ w H locs ls hp
    exact hp.elim
  | succ n ih =>
    intro x4_ x3_ x2_ x1_ w H locs ls hp h hl
    refine lv_iload_n hx hb dX10_plan_68 rfl (lv_at hl 1 rfl) ?_
    refine lv_iload hx hb dX10_plan_69 (lv_at hl 0 rfl) ?_
    refine lv_iadd hx hb dX10_plan_71 ?_
    refine lv_iload_n hx hb dX10_plan_72 rfl (lv_at hl 2 rfl) ?_
    refine lv_icmp_gt (tgt := 102) hx hb dX10_plan_73 (by decide) (fun hc23 => ?_) (fun hc23 => ?_)
    · have hp := hp.1 hc23
      exact kKx x4_ x3_ x2_ x1_ w _ _ _ hp h (lv_sub hl [0, 1, 2, 3, 4] rfl)
    · have hp := hp.2 hc23
      refine lv_aload_n hx hb dX10_plan_76 rfl (lv_at hl 4 rfl) ?_
      obtain ⟨b24, eb24, hob24, hp⟩ := hp
      refine hp_get (ci := 10) (v := .ref b24) hx hb hts ix_X10_plan_10 hown hK h ho (by decide) rfl 52 (by decide) (hts _ lk_X10_plan_124) (fun _ h9 => h9) (by show some (va_rf (zR z 1052 o)) = some (Value.ref b24); rw [eb24]; rfl) dX10_plan_77 ?_
      refine lv_iload_n hx hb dX10_plan_80 rfl (lv_at hl 2 rfl) ?_
      refine lv_iload_n hx hb dX10_plan_81 rfl (lv_at hl 1 rfl) ?_
      refine lv_iload hx hb dX10_plan_82 (lv_at hl 0 rfl) ?_
      refine hp_cSi ⟨hx, hb, hml, hown, hts⟩ (k_X10_at l G z w _ x2_ x3_ x4_ _ hp) (cwS 3 hts gX10_plan_X10_at rfl rfl rfl (by decide +kernel) ⟨Nat.le_of_ble_eq_true rfl, Nat.le_of_ble_eq_true rfl⟩) hK h hA hE rfl hl.1 rfl (Nat.le_of_ble_eq_true rfl) dX10_plan_84 ⟨Nat.le_of_ble_eq_true rfl, Nat.le_of_ble_eq_true rfl⟩ (fun r26 w25 H locs hp h => ?_)
      refine lv_aload_n hx hb dX10_plan_87 rfl (lv_at hl 4 rfl) ?_
      refine lv_iload_n hx hb dX10_plan_88 rfl (lv_at hl 2 rfl) ?_
      refine lv_iload_n hx hb dX10_plan_89 rfl (lv_at hl 1 rfl) ?_
      refine lv_iload hx hb dX10_plan_90 (lv_at hl 0 rfl) ?_
      refine hp_cVi ⟨hx, hb, hml, hown, hts⟩ (k_X10_best l G z w25 _ o x2_ x3_ x4_ _ hp) (cwV 3 hts gX10_plan_X10_best rfl rfl rfl (by decide +kernel) ⟨Nat.le_of_ble_eq_true rfl, Nat.le_of_ble_eq_true rfl⟩) ho (by decide) rfl hK h hA hE rfl hl.1 rfl (Nat.le_of_ble_eq_true rfl) dX10_plan_92 ⟨Nat.le_of_ble_eq_true rfl, Nat.le_of_ble_eq_true rfl⟩ (fun r28 w27 H locs hp h => ?_)
      refine hp_iast (t := 2052) (n := 5508) hx hb hK h hob24 (by decide) (fun _ _ _ => rfl) hp.1 dX10_plan_95 (fun H locs w29 ew29 h => ?_)
      have hp := hp.2 w29 ew29
      obtain ⟨x30, ex30⟩ : ∃ y : Int32, y = x4_ + 1 := ⟨_, rfl⟩
      have hp := hp x30 ex30
      refine lv_iinc (v := x30) (lv' := [(4, .int x30), (3, .int x3_), (2, .int x2_), (1, .int x1_), (0, .ref o)]) hx hb dX10_plan_96 hl (k := 0) rfl (by rw [ex30]; rfl) (by decide) rfl (fun ls hl => ?_)
      refine lv_goto (tgt := 68) hx hb dX10_plan_99 (by decide) ?_
      exact ih x30 x3_ x2_ x1_ w29 _ _ _ hp h (lv_sub hl [0, 1, 2, 3, 4] rfl)
def wL_X10_plan_60 (z : Zt) (o : Nat) (K : Int32 → Vt → Prop) (Kx : Int32 → Int32 → Int32 → Vt → Prop) : Nat → Int32 → Int32 → Int32 → Vt → Prop
  | 0, _, _, _, _ => False
  | n + 1, x3_, x2_, x1_, w => (x2_ < x3_ → Kx x3_ x2_ x1_ w) ∧ (¬ x2_ < x3_ → ∃ n31 : Nat, wL_X10_plan_68 z o K (fun x32 x33 x34 x35 w36 => ∀ x37 : Int32, x37 = x33 + 1 → wL_X10_plan_60 z o K Kx n x37 x34 x35 w36) n31 0 x3_ x2_ x1_ w)
set_option maxHeartbeats 4000000 in
set_option maxRecDepth 100000 in
theorem kL_X10_plan_60 {p : Program} {l : Launch} {e : Env} {s : State} {m : MethodId} {args : Array Value} {below : List Frame} {meth : Method} {c : Code} {G : Gt} {A : Nat → Prop} {z : Zt} (C : gC p s m args meth c cX10_plan 5 RX10 wsX10_plan (some .int) G A) (o : Nat) (ho : isO z 10 o) (K : Int32 → Vt → Prop) (Kx : Int32 → Int32 → Int32 → Vt → Prop) (kKx : ∀ (x3_ x2_ x1_ : Int32) (w : Vt) (H : Heap) (locs : List Loc) (ls : Array Slot), Kx x3_ x2_ x1_ w → hpH G.1 G.2.1 A s.heap z w H locs → lv_has ls 5 [(3, .int x3_), (2, .int x2_), (1, .int x1_), (0, .ref o)] → W p l e (headSpec wsX10_plan rmX10_plan).room s m args below meth c H locs 0 0 (MQ below (va_Qi K (gB G A z) A) args s 0 0 A) (F0 m 108 ls [])) : ∀ (n : Nat) (x3_ x2_ x1_ : Int32) (w : Vt) (H : Heap) (locs : List Loc) (ls : Array Slot), wL_X10_plan_60 z o K Kx n x3_ x2_ x1_ w → hpH G.1 G.2.1 A s.heap z w H locs → lv_has ls 5 [(3, .int x3_), (2, .int x2_), (1, .int x1_), (0, .ref o)] → W p l e (headSpec wsX10_plan rmX10_plan).room s m args below meth c H locs 0 0 (MQ below (va_Qi K (gB G A z) A) args s 0 0 A) (F0 m 60 ls []) := by
  obtain ⟨hx, hb, hr, hlocks, hml, hown, hts, hK, hA, hE⟩ := id C
  intro n
  induction n with
  | zero =>
    intro x3_ x2_ x1_ w H locs ls hp
    exact hp.elim
  | succ n ih =>
    intro x3_ x2_ x1_ w H locs ls hp h hl
    refine lv_iload_n hx hb dX10_plan_60 rfl (lv_at hl 0 rfl) ?_
    refine lv_iload_n hx hb dX10_plan_61 rfl (lv_at hl 1 rfl) ?_
    refine lv_icmp_gt (tgt := 108) hx hb dX10_plan_62 (by decide) (fun hc22 => ?_) (fun hc22 => ?_)
    · have hp := hp.1 hc22
      exact kKx x3_ x2_ x1_ w _ _ _ hp h (lv_sub hl [0, 1, 2, 3] rfl)
    · have hp := hp.2 hc22
      refine lv_iconst (v := 0) hx hb dX10_plan_65 (by decide) ?_
      refine lv_istore (lv' := [(4, .int 0), (3, .int x3_), (2, .int x2_), (1, .int x1_), (0, .ref o)]) hx hb dX10_plan_66 hl (by decide) rfl (fun ls hl => ?_)
      obtain ⟨n31, hp⟩ := hp
      refine kL_X10_plan_68 C o ho _ _ (fun x32 x33 x34 x35 w36 H locs ls hp h hl => ?_) n31 0 x3_ x2_ x1_ w _ _ _ hp h (lv_sub hl [0, 1, 2, 3, 4] rfl)
      obtain ⟨x37, ex37⟩ : ∃ y : Int32, y = x33 + 1 := ⟨_, rfl⟩
      have hp := hp x37 ex37
      refine lv_iinc (v := x37) (lv' := [(3, .int x37), (4, .int x32), (2, .int x34), (1, .int x35), (0, .ref o)]) hx hb dX10_plan_102 hl (k := 1) rfl (by rw [ex37]; rfl) (by decide) rfl (fun ls hl => ?_)
      refine lv_goto (tgt := 60) hx hb dX10_plan_105 (by decide) ?_
      exact ih x37 x34 x35 w36 _ _ _ hp h (lv_sub hl [0, 2, 3, 4] rfl)
def wL_X10_plan_54 (z : Zt) (o : Nat) (K : Int32 → Vt → Prop) (Kx : Int32 → Int32 → Vt → Prop) : Nat → Int32 → Int32 → Vt → Prop
  | 0, _, _, _ => False
  | n + 1, x2_, x1_, w => (x2_ < 0 → Kx x2_ x1_ w) ∧ (¬ x2_ < 0 → ∃ n38 : Nat, wL_X10_plan_60 z o K (fun x39 x40 x41 w42 => ∀ x43 : Int32, x43 = x40 + (-1) → wL_X10_plan_54 z o K Kx n x43 x41 w42) n38 0 x2_ x1_ w)
set_option maxHeartbeats 4000000 in
set_option maxRecDepth 100000 in
theorem kL_X10_plan_54 {p : Program} {l : Launch} {e : Env} {s : State} {m : MethodId} {args : Array Value} {below : List Frame} {meth : Method} {c : Code} {G : Gt} {A : Nat → Prop} {z : Zt} (C : gC p s m args meth c cX10_plan 5 RX10 wsX10_plan (some .int) G A) (o : Nat) (ho : isO z 10 o) (K : Int32 → Vt → Prop) (Kx : Int32 → Int32 → Vt → Prop) (kKx : ∀ (x2_ x1_ : Int32) (w : Vt) (H : Heap) (locs : List Loc) (ls : Array Slot), Kx x2_ x1_ w → hpH G.1 G.2.1 A s.heap z w H locs → lv_has ls 5 [(2, .int x2_), (1, .int x1_), (0, .ref o)] → W p l e (headSpec wsX10_plan rmX10_plan).room s m args below meth c H locs 0 0 (MQ below (va_Qi K (gB G A z) A) args s 0 0 A) (F0 m 114 ls [])) : ∀ (n : Nat) (x2_ x1_ : Int32) (w : Vt) (H : Heap) (locs : List Loc) (ls : Array Slot), wL_X10_plan_54 z o K Kx n x2_ x1_ w → hpH G.1 G.2.1 A s.heap z w H locs → lv_has ls 5 [(2, .int x2_), (1, .int x1_), (0, .ref o)] → W p l e (headSpec wsX10_plan rmX10_plan).room s m args below meth c H locs 0 0 (MQ below (va_Qi K (gB G A z) A) args s 0 0 A) (F0 m 54 ls []) := by
  obtain ⟨hx, hb, hr, hlocks, hml, hown, hts, hK, hA, hE⟩ := id C
  intro n
  induction n with
  | zero =>
    intro x2_ x1_ w H locs ls hp
    exact hp.elim
  | succ n ih =>
    intro x2_ x1_ w H locs ls hp h hl
    refine lv_iload_n hx hb dX10_plan_54 rfl (lv_at hl 0 rfl) ?_
    refine lv_if_lt (tgt := 114) hx hb dX10_plan_55 (by decide) (fun hc21 => ?_) (fun hc21 => ?_)
    · have hp := hp.1 hc21
      exact kKx x2_ x1_ w _ _ _ hp h (lv_sub hl [0, 1, 2] rfl)
    · have hp := hp.2 hc21
      refine lv_iconst (v := 0) hx hb dX10_plan_58 (by decide) ?_
      refine lv_istore_n (lv' := [(3, .int 0), (2, .int x2_), (1, .int x1_), (0, .ref o)]) hx hb dX10_plan_59 rfl hl (by decide) rfl (fun ls hl => ?_)
      obtain ⟨n38, hp⟩ := hp
      refine kL_X10_plan_60 C o ho _ _ (fun x39 x40 x41 w42 H locs ls hp h hl => ?_) n38 0 x2_ x1_ w _ _ _ hp h (lv_sub hl [0, 1, 2, 3] rfl)
      obtain ⟨x43, ex43⟩ : ∃ y : Int32, y = x40 + (-1) := ⟨_, rfl⟩
      have hp := hp x43 ex43
      refine lv_iinc (v := x43) (lv' := [(2, .int x43), (3, .int x39), (1, .int x41), (0, .ref o)]) hx hb dX10_plan_108 hl (k := 1) rfl (by rw [ex43]; rfl) (by decide) rfl (fun ls hl => ?_)
      refine lv_goto (tgt := 54) hx hb dX10_plan_111 (by decide) ?_
      exact ih x43 x41 w42 _ _ _ hp h (lv_sub hl [0, 2, 3] rfl)
def wp_X10_plan (z : Zt) (o : Nat) (w : Vt) (K : Int32 → Vt → Prop) : Prop := isO z 10 o ∧ ∀ w1 : Vt, w1 = uI w 1000 o 0 → ∀ x2 : Int32, x2 = vI w1 1051 o → ∃ n16 : Nat, wL_X10_plan_12 z o K (fun x17 x18 w19 => ∀ x20 : Int32, x20 = x18 - 1 → ∃ n44 : Nat, wL_X10_plan_54 z o K (fun x45 x46 w47 => ∀ w48 : Vt, w48 = uI w47 1051 o 0 → (¬ x46 = 0 → ∃ b50 : Nat, zR z 1052 o = some b50 ∧ isO z 2052 b50 ∧ wp_X10_at z 0 0 0 w48 (fun r52 w51 => vp_in r52 5508 ∧ K (vA w51 2052 b50 (r52 : Int32).toNatClampNeg) w51)) ∧ (x46 = 0 → K 0 w48)) n44 x20 x18 w19) n16 0 x2 w1
set_option maxHeartbeats 4000000 in
set_option maxRecDepth 100000 in
theorem k_X10_plan (l : Launch) (G : Gt) (z : Zt) (w : Vt) (sz : Nat) (o : Nat) (K : Int32 → Vt → Prop) (hp : wp_X10_plan z o w K) : MI l yX10_plan wsX10_plan rmX10_plan G z w sz [.ref o] K := by
  refine Met.ofW (cc := cX10_plan) (maxL := 5) (ret := (some .int)) (by decide +kernel) rfl ?_
  intro p e s m args below meth c s₁ B hml hv
  obtain ⟨rfl, rfl, C, h⟩ := hp_start B hml hv
  generalize gA G z w s.heap.size = A at C h ⊢
  obtain ⟨hx, hb, hr, hlocks, hml, hown, hts, hK, hA, hE⟩ := id C
  obtain ⟨ho, hp⟩ := hp
  have hl := lv_entry ([.ref o]) (n := 5) (Nat.le_of_ble_eq_true rfl)
  rw [lg_entry_eq]
  generalize (lg_sl ([.ref o]) ++ List.replicate (5 - (lg_sl ([.ref o])).length) Slot.unset).toArray = ls at hl ⊢
  have hl : lv_has ls 5 [(0, .ref o)] := hl
  refine lv_aload_n hx hb dX10_plan_0 rfl (lv_at hl 0 rfl) ?_
  refine lv_iconst (v := 0) hx hb dX10_plan_1 (by decide) ?_
  refine hp_puti (ci := 10) (ty := .int) (x := 0) hx hb hts ix_X10_plan_10 tyX10 tyX10_ok nmX10 hown hK h ho (by decide) rfl 0 1000 (by decide) (hts _ lk_X10_plan_127) (fun _ h9 => h9) rfl (by decide +kernel) rfl rfl (fun _ _ => rfl) (fun _ _ => Nat.le_of_ble_eq_true rfl) dX10_plan_2 (fun H locs w1 ew1 h => ?_)
  have hp := hp w1 ew1
  refine lv_aload_n hx hb dX10_plan_5 rfl (lv_at hl 0 rfl) ?_
  refine hp_get (ci := 10) (v := .int (vI w1 1051 o)) hx hb hts ix_X10_plan_10 hown hK h ho (by decide) rfl 51 (by decide) (hts _ lk_X10_plan_279) (fun _ h9 => h9) rfl dX10_plan_6 ?_
  refine lv_topi (fun x2 ex2 => ?_)
  have hp := hp x2 ex2
  refine lv_istore_n (lv' := [(1, .int x2), (0, .ref o)]) hx hb dX10_plan_9 rfl hl (by decide) rfl (fun ls hl => ?_)
  refine lv_iconst (v := 0) hx hb dX10_plan_10 (by decide) ?_
  refine lv_istore_n (lv' := [(2, .int 0), (1, .int x2), (0, .ref o)]) hx hb dX10_plan_11 rfl hl (by decide) rfl (fun ls hl => ?_)
  obtain ⟨n16, hp⟩ := hp
  refine kL_X10_plan_12 C o ho _ _ (fun x17 x18 w19 H locs ls hp h hl => ?_) n16 0 x2 w1 _ _ _ hp h (lv_sub hl [0, 1, 2] rfl)
  refine lv_iload_n hx hb dX10_plan_50 rfl (lv_at hl 1 rfl) ?_
  refine lv_iconst (v := 1) hx hb dX10_plan_51 (by decide) ?_
  refine lv_isub hx hb dX10_plan_52 ?_
  refine lv_topi (fun x20 ex20 => ?_)
  have hp := hp x20 ex20
  refine lv_istore_n (lv' := [(2, .int x20), (1, .int x18), (0, .ref o)]) hx hb dX10_plan_53 rfl hl (by decide) rfl (fun ls hl => ?_)
  obtain ⟨n44, hp⟩ := hp
  refine kL_X10_plan_54 C o ho _ _ (fun x45 x46 w47 H locs ls hp h hl => ?_) n44 x20 x18 w19 _ _ _ hp h (lv_sub hl [0, 1, 2] rfl)
  refine lv_aload_n hx hb dX10_plan_114 rfl (lv_at hl 2 rfl) ?_
  refine lv_iconst (v := 0) hx hb dX10_plan_115 (by decide) ?_
  refine hp_puti (ci := 10) (ty := .int) (x := 0) hx hb hts ix_X10_plan_10 tyX10 tyX10_ok nmX10 hown hK h ho (by decide) rfl 51 1051 (by decide) (hts _ lk_X10_plan_279) (fun _ h9 => h9) rfl (by decide +kernel) rfl rfl (fun _ _ => rfl) (fun _ _ => Nat.le_of_ble_eq_true rfl) dX10_plan_116 (fun H locs w48 ew48 h => ?_)
  have hp := hp w48 ew48
  refine lv_iload_n hx hb dX10_plan_119 rfl (lv_at hl 1 rfl) ?_
  refine lv_if_ne (tgt := 127) hx hb dX10_plan_120 (by decide) (fun hc49 => ?_) (fun hc49 => ?_)
  · have hp := hp.1 hc49
    refine lv_aload_n hx hb dX10_plan_127 rfl (lv_at hl 2 rfl) ?_
    obtain ⟨b50, eb50, hob50, hp⟩ := hp
    refine hp_get (ci := 10) (v := .ref b50) hx hb hts ix_X10_plan_10 hown hK h ho (by decide) rfl 52 (by decide) (hts _ lk_X10_plan_124) (fun _ h9 => h9) (by show some (va_rf (zR z 1052 o)) = some (Value.ref b50); rw [eb50]; rfl) dX10_plan_128 ?_
    refine lv_iconst (v := 0) hx hb dX10_plan_131 (by decide) ?_
    refine lv_iconst (v := 0) hx hb dX10_plan_132 (by decide) ?_
    refine lv_iconst (v := 0) hx hb dX10_plan_133 (by decide) ?_
    refine hp_cSi ⟨hx, hb, hml, hown, hts⟩ (k_X10_at l G z w48 _ 0 0 0 _ hp) (cwS 3 hts gX10_plan_X10_at rfl rfl rfl (by decide +kernel) ⟨Nat.le_of_ble_eq_true rfl, Nat.le_of_ble_eq_true rfl⟩) hK h hA hE rfl hl.1 rfl (Nat.le_of_ble_eq_true rfl) dX10_plan_134 ⟨Nat.le_of_ble_eq_true rfl, Nat.le_of_ble_eq_true rfl⟩ (fun r52 w51 H locs hp h => ?_)
    refine hp_iald (t := 2052) (n := 5508) hx hb hK h hob50 (by decide) (fun _ _ _ => rfl) hp.1 dX10_plan_137 ?_
    have hp := hp.2
    exact hp_iret hx hb hr rfl hlocks hK h hp dX10_plan_138
  · have hp := hp.2 hc49
    refine lv_iconst (v := 0) hx hb dX10_plan_123 (by decide) ?_
    refine lv_goto (tgt := 138) hx hb dX10_plan_124 (by decide) ?_
    exact hp_iret hx hb hr rfl hlocks hK h hp dX10_plan_138
abbrev rmX10_count : Room := { frames := 0, cells := 0, slots := 0, locals := 0 }
theorem ix_X10_count_10 : ∀ w ∈ wsX100, w ∈ wsX10_count := by decide +kernel
theorem lk_X10_count_127 : Cond.fieldLink RX10 127 "KelpShoresModel" "thrown" "I" ∈ wsX10_count := by decide +kernel
theorem lk_X10_count_148 : Cond.fieldLink RX10 148 "KelpShoresModel" "today" "I" ∈ wsX10_count := by decide +kernel
theorem lk_X10_count_130 : Cond.fieldLink RX10 130 "KelpShoresModel" "shores" "I" ∈ wsX10_count := by decide +kernel
theorem lk_X10_count_166 : Cond.fieldLink RX10 166 "KelpShoresModel" "pits" "I" ∈ wsX10_count := by decide +kernel
theorem lk_X10_count_73 : Cond.fieldLink RX10 73 "KelpShoresModel" "left" "[I" ∈ wsX10_count := by decide +kernel
theorem lk_X10_count_268 : Cond.fieldLink RX10 268 "KelpShoresModel" "lots" "I" ∈ wsX10_count := by decide +kernel
theorem lk_X10_count_265 : Cond.fieldLink RX10 265 "KelpShoresModel" "entries" "I" ∈ wsX10_count := by decide +kernel
theorem lk_X10_count_279 : Cond.fieldLink RX10 279 "KelpShoresModel" "foretold" "I" ∈ wsX10_count := by decide +kernel
theorem lk_X10_count_82 : Cond.fieldLink RX10 82 "KelpShoresModel" "rest" "I" ∈ wsX10_count := by decide +kernel
theorem lk_X10_count_172 : Cond.fieldLink RX10 172 "KelpShoresModel" "parts" "I" ∈ wsX10_count := by decide +kernel
def wL_X10_count_77 (z : Zt) (o : Nat) (K : Int32 → Vt → Prop) (Kx : Int32 → Int32 → Int32 → Vt → Prop) : Nat → Int32 → Int32 → Int32 → Vt → Prop
  | 0, _, _, _, _ => False
  | n + 1, x3_, x2_, x1_, w => ((vI w 1026 o) ≤ x3_ → Kx x3_ x2_ x1_ w) ∧ (¬ (vI w 1026 o) ≤ x3_ → ∃ b7 : Nat, zR z 1025 o = some b7 ∧ isO z 2025 b7 ∧ vp_in x3_ 12 ∧ ∃ J8 : Int32 → Vt → Prop, (∀ (x9 : Int32) (w10 : Vt), J8 x9 w10 → ∀ x12 : Int32, x12 = x2_ + x9 → ∀ x13 : Int32, x13 = x3_ + 1 → wL_X10_count_77 z o K Kx n x13 x12 x1_ w10) ∧ ((vA w 2025 b7 (x3_ : Int32).toNatClampNeg) ≤ 0 → J8 0 w) ∧ (¬ (vA w 2025 b7 (x3_ : Int32).toNatClampNeg) ≤ 0 → J8 1 w))
set_option maxHeartbeats 4000000 in
set_option maxRecDepth 100000 in
theorem kL_X10_count_77 {p : Program} {l : Launch} {e : Env} {s : State} {m : MethodId} {args : Array Value} {below : List Frame} {meth : Method} {c : Code} {G : Gt} {A : Nat → Prop} {z : Zt} (C : gC p s m args meth c cX10_count 4 RX10 wsX10_count (some .int) G A) (o : Nat) (ho : isO z 10 o) (K : Int32 → Vt → Prop) (Kx : Int32 → Int32 → Int32 → Vt → Prop) (kKx : ∀ (x3_ x2_ x1_ : Int32) (w : Vt) (H : Heap) (locs : List Loc) (ls : Array Slot), Kx x3_ x2_ x1_ w → hpH G.1 G.2.1 A s.heap z w H locs → lv_has ls 4 [(3, .int x3_), (2, .int x2_), (0, .ref o), (1, .int x1_)] → W p l e (headSpec wsX10_count rmX10_count).room s m args below meth c H locs 0 0 (MQ below (va_Qi K (gB G A z) A) args s 0 0 A) (F0 m 108 ls [])) : ∀ (n : Nat) (x3_ x2_ x1_ : Int32) (w : Vt) (H : Heap) (locs : List Loc) (ls : Array Slot), wL_X10_count_77 z o K Kx n x3_ x2_ x1_ w → hpH G.1 G.2.1 A s.heap z w H locs → lv_has ls 4 [(3, .int x3_), (2, .int x2_), (0, .ref o), (1, .int x1_)] → W p l e (headSpec wsX10_count rmX10_count).room s m args below meth c H locs 0 0 (MQ below (va_Qi K (gB G A z) A) args s 0 0 A) (F0 m 77 ls []) := by
  obtain ⟨hx, hb, hr, hlocks, hml, hown, hts, hK, hA, hE⟩ := id C
  intro n
  induction n with
  | zero =>
    intro x3_ x2_ x1_ w H locs ls hp
    exact hp.elim
  | succ n ih =>
    intro x3_ x2_ x1_ w H locs ls hp h hl
    refine lv_iload_n hx hb dX10_count_77 rfl (lv_at hl 0 rfl) ?_
    refine lv_aload_n hx hb dX10_count_78 rfl (lv_at hl 2 rfl) ?_
    refine hp_get (ci := 10) (v := .int (vI w 1026 o)) hx hb hts ix_X10_count_10 hown hK h ho (by decide) rfl 26 (by decide) (hts _ lk_X10_count_166) (fun _ h9 => h9) rfl dX10_count_79 ?_
    refine lv_icmp_ge (tgt := 108) hx hb dX10_count_82 (by decide) (fun hc6 => ?_) (fun hc6 => ?_)
    · have hp := hp.1 hc6
      exact kKx x3_ x2_ x1_ w _ _ _ hp h (lv_sub hl [0, 1, 2, 3] rfl)
    · have hp := hp.2 hc6
      refine lv_iload_n hx hb dX10_count_85 rfl (lv_at hl 1 rfl) ?_
      refine lv_aload_n hx hb dX10_count_86 rfl (lv_at hl 2 rfl) ?_
      obtain ⟨b7, eb7, hob7, hp⟩ := hp
      refine hp_get (ci := 10) (v := .ref b7) hx hb hts ix_X10_count_10 hown hK h ho (by decide) rfl 25 (by decide) (hts _ lk_X10_count_73) (fun _ h9 => h9) (by show some (va_rf (zR z 1025 o)) = some (Value.ref b7); rw [eb7]; rfl) dX10_count_87 ?_
      refine lv_iload_n hx hb dX10_count_90 rfl (lv_at hl 0 rfl) ?_
      refine hp_iald (t := 2025) (n := 12) hx hb hK h hob7 (by decide) (fun _ _ _ => rfl) hp.1 dX10_count_91 ?_
      have hp := hp.2
      obtain ⟨J8, jJ8, hp⟩ := hp
      refine hp_jn1 (G := G) (A := A) (z := z) (J := J8) (nL := 4) (j := 100) (lvf := fun x9 => [(3, .int x3_), (2, .int x2_), (0, .ref o), (1, .int x1_)]) (stf := fun x9 => [.int x9, .int x2_]) (fun kJ8 => ?_) (fun x9 w10 H locs ls hp h hl => ?_)
      · refine lv_if_le (tgt := 99) hx hb dX10_count_92 (by decide) (fun hc11 => ?_) (fun hc11 => ?_)
        · have hp := hp.1 hc11
          refine lv_iconst (v := 0) hx hb dX10_count_99 (by decide) ?_
          exact kJ8 0 w _ _ _ hp h (lv_sub hl [0, 1, 2, 3] rfl)
        · have hp := hp.2 hc11
          refine lv_iconst (v := 1) hx hb dX10_count_95 (by decide) ?_
          refine lv_goto (tgt := 100) hx hb dX10_count_96 (by decide) ?_
          exact kJ8 1 w _ _ _ hp h (lv_sub hl [0, 1, 2, 3] rfl)
      have hp := jJ8 x9 w10 hp
      refine lv_iadd hx hb dX10_count_100 ?_
      refine lv_topi (fun x12 ex12 => ?_)
      have hp := hp x12 ex12
      refine lv_istore_n (lv' := [(2, .int x12), (3, .int x3_), (0, .ref o), (1, .int x1_)]) hx hb dX10_count_101 rfl hl (by decide) rfl (fun ls hl => ?_)
      obtain ⟨x13, ex13⟩ : ∃ y : Int32, y = x3_ + 1 := ⟨_, rfl⟩
      have hp := hp x13 ex13
      refine lv_iinc (v := x13) (lv' := [(3, .int x13), (2, .int x12), (0, .ref o), (1, .int x1_)]) hx hb dX10_count_102 hl (k := 1) rfl (by rw [ex13]; rfl) (by decide) rfl (fun ls hl => ?_)
      refine lv_goto (tgt := 77) hx hb dX10_count_105 (by decide) ?_
      exact ih x13 x12 x1_ w10 _ _ _ hp h (lv_sub hl [0, 1, 2, 3] rfl)
def wp_X10_count (z : Zt) (o : Nat) (p0 : Int32) (w : Vt) (K : Int32 → Vt → Prop) : Prop := isO z 10 o ∧ ∀ w1 : Vt, w1 = uI w 1000 o 0 → (p0 = 0 → K (vI w1 1001 o) w1) ∧ (p0 = 1 → K (vI w1 1014 o) w1) ∧ (p0 = 2 → K (vI w1 1026 o) w1) ∧ (p0 = 3 → ∃ n14 : Nat, wL_X10_count_77 z o K (fun x15 x16 x17 w18 => K x16 w18) n14 0 0 p0 w1) ∧ (p0 = 4 → K (vI w1 1041 o) w1) ∧ (p0 = 5 → K (vI w1 1047 o) w1) ∧ (p0 = 6 → K (vI w1 1051 o) w1) ∧ (p0 = 7 → K (vI w1 1031 o) w1) ∧ (p0 = 8 → K (vI w1 1029 o) w1) ∧ (¬ p0 = 0 → ¬ p0 = 1 → ¬ p0 = 2 → ¬ p0 = 3 → ¬ p0 = 4 → ¬ p0 = 5 → ¬ p0 = 6 → ¬ p0 = 7 → ¬ p0 = 8 → K (-1) w1)
set_option maxHeartbeats 4000000 in
set_option maxRecDepth 100000 in
theorem k_X10_count (l : Launch) (G : Gt) (z : Zt) (w : Vt) (sz : Nat) (o : Nat) (p0 : Int32) (K : Int32 → Vt → Prop) (hp : wp_X10_count z o p0 w K) : MI l yX10_count wsX10_count rmX10_count G z w sz [.ref o, .int p0] K := by
  refine Met.ofW (cc := cX10_count) (maxL := 4) (ret := (some .int)) (by decide +kernel) rfl ?_
  intro p e s m args below meth c s₁ B hml hv
  obtain ⟨rfl, rfl, C, h⟩ := hp_start B hml hv
  generalize gA G z w s.heap.size = A at C h ⊢
  obtain ⟨hx, hb, hr, hlocks, hml, hown, hts, hK, hA, hE⟩ := id C
  obtain ⟨ho, hp⟩ := hp
  have hl := lv_entry ([.ref o, .int p0]) (n := 4) (Nat.le_of_ble_eq_true rfl)
  rw [lg_entry_eq]
  generalize (lg_sl ([.ref o, .int p0]) ++ List.replicate (4 - (lg_sl ([.ref o, .int p0])).length) Slot.unset).toArray = ls at hl ⊢
  have hl : lv_has ls 4 [(0, .ref o), (1, .int p0)] := hl
  refine lv_aload_n hx hb dX10_count_0 rfl (lv_at hl 0 rfl) ?_
  refine lv_iconst (v := 0) hx hb dX10_count_1 (by decide) ?_
  refine hp_puti (ci := 10) (ty := .int) (x := 0) hx hb hts ix_X10_count_10 tyX10 tyX10_ok nmX10 hown hK h ho (by decide) rfl 0 1000 (by decide) (hts _ lk_X10_count_127) (fun _ h9 => h9) rfl (by decide +kernel) rfl rfl (fun _ _ => rfl) (fun _ _ => Nat.le_of_ble_eq_true rfl) dX10_count_2 (fun H locs w1 ew1 h => ?_)
  have hp := hp w1 ew1
  refine lv_iconst (v := 0) hx hb dX10_count_5 (by decide) ?_
  refine lv_istore_n (lv' := [(2, .int 0), (0, .ref o), (1, .int p0)]) hx hb dX10_count_6 rfl hl (by decide) rfl (fun ls hl => ?_)
  refine lv_iload_n hx hb dX10_count_7 rfl (lv_at hl 2 rfl) ?_
  by_cases hc2 : p0 = 0
  · refine lv_tableIn (off := 52) (tgt := 60) hx hb dX10_count_8 (by rw [hc2]; decide) (by rw [hc2]; decide) (by rw [hc2]; rfl) (by decide) ?_
    have hp := hp.1 hc2
    refine lv_aload_n hx hb dX10_count_60 rfl (lv_at hl 1 rfl) ?_
    refine hp_get (ci := 10) (v := .int (vI w1 1001 o)) hx hb hts ix_X10_count_10 hown hK h ho (by decide) rfl 1 (by decide) (hts _ lk_X10_count_148) (fun _ h9 => h9) rfl dX10_count_61 ?_
    exact hp_iret hx hb hr rfl hlocks hK h hp dX10_count_64
  have hp := hp.2
  by_cases hc3 : p0 = 1
  · refine lv_tableIn (off := 57) (tgt := 65) hx hb dX10_count_8 (by rw [hc3]; decide) (by rw [hc3]; decide) (by rw [hc3]; rfl) (by decide) ?_
    have hp := hp.1 hc3
    refine lv_aload_n hx hb dX10_count_65 rfl (lv_at hl 1 rfl) ?_
    refine hp_get (ci := 10) (v := .int (vI w1 1014 o)) hx hb hts ix_X10_count_10 hown hK h ho (by decide) rfl 14 (by decide) (hts _ lk_X10_count_130) (fun _ h9 => h9) rfl dX10_count_66 ?_
    exact hp_iret hx hb hr rfl hlocks hK h hp dX10_count_69
  have hp := hp.2
  by_cases hc4 : p0 = 2
  · refine lv_tableIn (off := 62) (tgt := 70) hx hb dX10_count_8 (by rw [hc4]; decide) (by rw [hc4]; decide) (by rw [hc4]; rfl) (by decide) ?_
    have hp := hp.1 hc4
    refine lv_aload_n hx hb dX10_count_70 rfl (lv_at hl 1 rfl) ?_
    refine hp_get (ci := 10) (v := .int (vI w1 1026 o)) hx hb hts ix_X10_count_10 hown hK h ho (by decide) rfl 26 (by decide) (hts _ lk_X10_count_166) (fun _ h9 => h9) rfl dX10_count_71 ?_
    exact hp_iret hx hb hr rfl hlocks hK h hp dX10_count_74
  have hp := hp.2
  by_cases hc5 : p0 = 3
  · refine lv_tableIn (off := 67) (tgt := 75) hx hb dX10_count_8 (by rw [hc5]; decide) (by rw [hc5]; decide) (by rw [hc5]; rfl) (by decide) ?_
    have hp := hp.1 hc5
    refine lv_iconst (v := 0) hx hb dX10_count_75 (by decide) ?_
    refine lv_istore_n (lv' := [(3, .int 0), (2, .int 0), (0, .ref o), (1, .int p0)]) hx hb dX10_count_76 rfl hl (by decide) rfl (fun ls hl => ?_)
    obtain ⟨n14, hp⟩ := hp
    refine kL_X10_count_77 C o ho _ _ (fun x15 x16 x17 w18 H locs ls hp h hl => ?_) n14 0 0 p0 w1 _ _ _ hp h (lv_sub hl [0, 1, 2, 3] rfl)
    refine lv_iload_n hx hb dX10_count_108 rfl (lv_at hl 1 rfl) ?_
    exact hp_iret hx hb hr rfl hlocks hK h hp dX10_count_109
  have hp := hp.2
  by_cases hc19 : p0 = 4
  · refine lv_tableIn (off := 102) (tgt := 110) hx hb dX10_count_8 (by rw [hc19]; decide) (by rw [hc19]; decide) (by rw [hc19]; rfl) (by decide) ?_
    have hp := hp.1 hc19
    refine lv_aload_n hx hb dX10_count_110 rfl (lv_at hl 1 rfl) ?_
    refine hp_get (ci := 10) (v := .int (vI w1 1041 o)) hx hb hts ix_X10_count_10 hown hK h ho (by decide) rfl 41 (by decide) (hts _ lk_X10_count_268) (fun _ h9 => h9) rfl dX10_count_111 ?_
    exact hp_iret hx hb hr rfl hlocks hK h hp dX10_count_114
  have hp := hp.2
  by_cases hc20 : p0 = 5
  · refine lv_tableIn (off := 107) (tgt := 115) hx hb dX10_count_8 (by rw [hc20]; decide) (by rw [hc20]; decide) (by rw [hc20]; rfl) (by decide) ?_
    have hp := hp.1 hc20
    refine lv_aload_n hx hb dX10_count_115 rfl (lv_at hl 1 rfl) ?_
    refine hp_get (ci := 10) (v := .int (vI w1 1047 o)) hx hb hts ix_X10_count_10 hown hK h ho (by decide) rfl 47 (by decide) (hts _ lk_X10_count_265) (fun _ h9 => h9) rfl dX10_count_116 ?_
    exact hp_iret hx hb hr rfl hlocks hK h hp dX10_count_119
  have hp := hp.2
  by_cases hc21 : p0 = 6
  · refine lv_tableIn (off := 112) (tgt := 120) hx hb dX10_count_8 (by rw [hc21]; decide) (by rw [hc21]; decide) (by rw [hc21]; rfl) (by decide) ?_
    have hp := hp.1 hc21
    refine lv_aload_n hx hb dX10_count_120 rfl (lv_at hl 1 rfl) ?_
    refine hp_get (ci := 10) (v := .int (vI w1 1051 o)) hx hb hts ix_X10_count_10 hown hK h ho (by decide) rfl 51 (by decide) (hts _ lk_X10_count_279) (fun _ h9 => h9) rfl dX10_count_121 ?_
    exact hp_iret hx hb hr rfl hlocks hK h hp dX10_count_124
  have hp := hp.2
  by_cases hc22 : p0 = 7
  · refine lv_tableIn (off := 117) (tgt := 125) hx hb dX10_count_8 (by rw [hc22]; decide) (by rw [hc22]; decide) (by rw [hc22]; rfl) (by decide) ?_
    have hp := hp.1 hc22
    refine lv_aload_n hx hb dX10_count_125 rfl (lv_at hl 1 rfl) ?_
    refine hp_get (ci := 10) (v := .int (vI w1 1031 o)) hx hb hts ix_X10_count_10 hown hK h ho (by decide) rfl 31 (by decide) (hts _ lk_X10_count_82) (fun _ h9 => h9) rfl dX10_count_126 ?_
    exact hp_iret hx hb hr rfl hlocks hK h hp dX10_count_129
  have hp := hp.2
  by_cases hc23 : p0 = 8
  · refine lv_tableIn (off := 122) (tgt := 130) hx hb dX10_count_8 (by rw [hc23]; decide) (by rw [hc23]; decide) (by rw [hc23]; rfl) (by decide) ?_
    have hp := hp.1 hc23
    refine lv_aload_n hx hb dX10_count_130 rfl (lv_at hl 1 rfl) ?_
    refine hp_get (ci := 10) (v := .int (vI w1 1029 o)) hx hb hts ix_X10_count_10 hown hK h ho (by decide) rfl 29 (by decide) (hts _ lk_X10_count_172) (fun _ h9 => h9) rfl dX10_count_131 ?_
    exact hp_iret hx hb hr rfl hlocks hK h hp dX10_count_134
  have hp := hp.2
  have thc2 := lv_neT (a := 0) hc2 (by decide)
  have hp := hp hc2
  have thc3 := lv_neT (a := 1) hc3 (by decide)
  have hp := hp hc3
  have thc4 := lv_neT (a := 2) hc4 (by decide)
  have hp := hp hc4
  have thc5 := lv_neT (a := 3) hc5 (by decide)
  have hp := hp hc5
  have thc19 := lv_neT (a := 4) hc19 (by decide)
  have hp := hp hc19
  have thc20 := lv_neT (a := 5) hc20 (by decide)
  have hp := hp hc20
  have thc21 := lv_neT (a := 6) hc21 (by decide)
  have hp := hp hc21
  have thc22 := lv_neT (a := 7) hc22 (by decide)
  have hp := hp hc22
  have thc23 := lv_neT (a := 8) hc23 (by decide)
  have hp := hp hc23
  refine lv_tableOut (tgt := 135) hx hb dX10_count_8 (by omega) (by decide) ?_
  refine lv_iconst (v := (-1)) hx hb dX10_count_135 (by decide) ?_
  exact hp_iret hx hb hr rfl hlocks hK h hp dX10_count_136
abbrev rmX10_isWord : Room := { frames := 4, cells := 0, slots := 0, locals := 85 }
theorem ix_X10_isWord_10 : ∀ w ∈ wsX100, w ∈ wsX10_isWord := by decide +kernel
theorem lk_X10_isWord_202 : Cond.fieldLink RX10 202 "KelpShoresModel" "point" "I" ∈ wsX10_isWord := by decide +kernel
theorem lk_X10_isWord_211 : Cond.fieldLink RX10 211 "KelpShoresModel" "begin" "I" ∈ wsX10_isWord := by decide +kernel
theorem lk_X10_isWord_86 : Cond.fieldLink RX10 86 "KelpShoresModel" "tape" "[B" ∈ wsX10_isWord := by decide +kernel
def wL_X10_isWord_24 (z : Zt) (o : Nat) (p0 : Nat) (K : Int32 → Vt → Prop) (Kx : Int32 → Int32 → Vt → Prop) : Nat → Int32 → Int32 → Vt → Prop
  | 0, _, _, _ => False
  | n + 1, x3_, x2_, w => (x2_ = 0 → Kx x3_ x2_ w) ∧ (¬ x2_ = 0 → ∀ r7 : Int32, r7 = Int32.ofNat (envL.getD p0 0) >>> ((0 : Int32) &&& 31) → (r7 ≤ x3_ → Kx x3_ x2_ w) ∧ (¬ r7 ≤ x3_ → ∃ b9 : Nat, zR z 1033 o = some b9 ∧ isO z 2033 b9 ∧ vp_in ((vI w 1037 o) + x3_) 400 ∧ vp_in x3_ (envL.getD p0 0) ∧ ∀ r10 : Int32, r10 = ((((envB.getD p0 []).getD (x3_ : Int32).toNatClampNeg 0) &&& 255).toUInt32 % 65536).toInt32 → (¬ (vA w 2033 b9 ((vI w 1037 o) + x3_ : Int32).toNatClampNeg) = r10 → ∀ x12 : Int32, x12 = x3_ + 1 → wL_X10_isWord_24 z o p0 K Kx n x12 0 w) ∧ ((vA w 2033 b9 ((vI w 1037 o) + x3_ : Int32).toNatClampNeg) = r10 → ∀ x13 : Int32, x13 = x3_ + 1 → wL_X10_isWord_24 z o p0 K Kx n x13 1 w)))
set_option maxHeartbeats 4000000 in
set_option maxRecDepth 100000 in
theorem kL_X10_isWord_24 {p : Program} {l : Launch} {e : Env} {s : State} {m : MethodId} {args : Array Value} {below : List Frame} {meth : Method} {c : Code} {G : Gt} {A : Nat → Prop} {z : Zt} (C : gC p s m args meth c cX10_isWord 4 RX10 wsX10_isWord (some .boolean) G A) (o : Nat) (p0 : Nat) (ho : isO z 10 o) (hsp0 : p0 < 6) (K : Int32 → Vt → Prop) (Kx : Int32 → Int32 → Vt → Prop) (kKx : ∀ (x3_ x2_ : Int32) (w : Vt) (H : Heap) (locs : List Loc) (ls : Array Slot), Kx x3_ x2_ w → hpH G.1 G.2.1 A s.heap z w H locs → lv_has ls 4 [(3, .int x3_), (2, .int x2_), (0, .ref o), (1, .ref (G.2.2.1 p0))] → W p l e (headSpec wsX10_isWord rmX10_isWord).room s m args below meth c H locs 0 0 (MQ below (va_Qi K (gB G A z) A) args s 0 0 A) (F0 m 67 ls [])) : ∀ (n : Nat) (x3_ x2_ : Int32) (w : Vt) (H : Heap) (locs : List Loc) (ls : Array Slot), wL_X10_isWord_24 z o p0 K Kx n x3_ x2_ w → hpH G.1 G.2.1 A s.heap z w H locs → lv_has ls 4 [(3, .int x3_), (2, .int x2_), (0, .ref o), (1, .ref (G.2.2.1 p0))] → W p l e (headSpec wsX10_isWord rmX10_isWord).room s m args below meth c H locs 0 0 (MQ below (va_Qi K (gB G A z) A) args s 0 0 A) (F0 m 24 ls []) := by
  obtain ⟨hx, hb, hr, hlocks, hml, hown, hts, hK, hA, hE⟩ := id C
  intro n
  induction n with
  | zero =>
    intro x3_ x2_ w H locs ls hp
    exact hp.elim
  | succ n ih =>
    intro x3_ x2_ w H locs ls hp h hl
    refine lv_iload_n hx hb dX10_isWord_24 rfl (lv_at hl 1 rfl) ?_
    refine lv_if_eq (tgt := 67) hx hb dX10_isWord_25 (by decide) (fun hc6 => ?_) (fun hc6 => ?_)
    · have hp := hp.1 hc6
      exact kKx x3_ x2_ w _ _ _ hp h (lv_sub hl [0, 1, 2, 3] rfl)
    · have hp := hp.2 hc6
      refine lv_iload_n hx hb dX10_isWord_28 rfl (lv_at hl 0 rfl) ?_
      refine lv_aload_n hx hb dX10_isWord_29 rfl (lv_at hl 3 rfl) ?_
      refine hp_cTi (i := p0) (K := fun r u => r = Int32.ofNat (envL.getD p0 0) >>> ((0 : Int32) &&& 31) ∧ u = w) ⟨hx, hb, hml, hown, hts⟩ (k_J0_length_8abf5 l G z w _ p0 _ hsp0 ⟨rfl, rfl⟩) (cwV 0 hts gX10_isWord_J0_length_8abf5 rfl rfl rfl (by decide +kernel) ⟨Nat.le_of_ble_eq_true rfl, Nat.le_of_ble_eq_true rfl⟩) hsp0 hK h hA hE rfl hl.1 rfl (Nat.le_of_ble_eq_true rfl) dX10_isWord_30 ⟨Nat.le_of_ble_eq_true rfl, Nat.le_of_ble_eq_true rfl⟩ (fun r7 ur7 H locs hqr7 hr7 => ?_)
      obtain ⟨er7, eur7⟩ := hqr7
      rw [eur7] at hr7
      have h := hr7
      have hp := hp r7 er7
      refine lv_icmp_ge (tgt := 67) hx hb dX10_isWord_33 (by decide) (fun hc8 => ?_) (fun hc8 => ?_)
      · have hp := hp.1 hc8
        exact kKx x3_ x2_ w _ _ _ hp h (lv_sub hl [0, 1, 2, 3] rfl)
      · have hp := hp.2 hc8
        refine lv_aload_n hx hb dX10_isWord_36 rfl (lv_at hl 2 rfl) ?_
        obtain ⟨b9, eb9, hob9, hp⟩ := hp
        refine hp_get (ci := 10) (v := .ref b9) hx hb hts ix_X10_isWord_10 hown hK h ho (by decide) rfl 33 (by decide) (hts _ lk_X10_isWord_86) (fun _ h9 => h9) (by show some (va_rf (zR z 1033 o)) = some (Value.ref b9); rw [eb9]; rfl) dX10_isWord_37 ?_
        refine lv_aload_n hx hb dX10_isWord_40 rfl (lv_at hl 2 rfl) ?_
        refine hp_get (ci := 10) (v := .int (vI w 1037 o)) hx hb hts ix_X10_isWord_10 hown hK h ho (by decide) rfl 37 (by decide) (hts _ lk_X10_isWord_211) (fun _ h9 => h9) rfl dX10_isWord_41 ?_
        refine lv_iload_n hx hb dX10_isWord_44 rfl (lv_at hl 0 rfl) ?_
        refine lv_iadd hx hb dX10_isWord_45 ?_
        refine hp_bald (t := 2033) (n := 400) hx hb hK h hob9 (by decide) (fun _ _ _ => rfl) hp.1 dX10_isWord_46 ?_
        have hp := hp.2
        refine lv_aload_n hx hb dX10_isWord_47 rfl (lv_at hl 3 rfl) ?_
        refine lv_iload_n hx hb dX10_isWord_48 rfl (lv_at hl 0 rfl) ?_
        obtain ⟨hvr10, hp⟩ := hp
        refine hp_cTi (i := p0) (K := fun r u => r = ((((envB.getD p0 []).getD (x3_ : Int32).toNatClampNeg 0) &&& 255).toUInt32 % 65536).toInt32 ∧ u = w) ⟨hx, hb, hml, hown, hts⟩ (k_J0_charAt_5068e l G z w _ p0 x3_ _ hsp0 (vp_ltN hvr10 (envL_lt _)).1 (vp_ltN hvr10 (envL_lt _)).2 hvr10 (pk_nc _) ⟨rfl, rfl⟩) (cwV 1 hts gX10_isWord_J0_charAt_5068e rfl rfl rfl (by decide +kernel) ⟨Nat.le_of_ble_eq_true rfl, Nat.le_of_ble_eq_true rfl⟩) hsp0 hK h hA hE rfl hl.1 rfl (Nat.le_of_ble_eq_true rfl) dX10_isWord_49 ⟨Nat.le_of_ble_eq_true rfl, Nat.le_of_ble_eq_true rfl⟩ (fun r10 ur10 H locs hqr10 hr10 => ?_)
        obtain ⟨er10, eur10⟩ := hqr10
        rw [eur10] at hr10
        have h := hr10
        have hp := hp r10 er10
        refine lv_icmp_ne (tgt := 59) hx hb dX10_isWord_52 (by decide) (fun hc11 => ?_) (fun hc11 => ?_)
        · have hp := hp.1 hc11
          refine lv_iconst (v := 0) hx hb dX10_isWord_59 (by decide) ?_
          refine lv_istore_n (lv' := [(2, .int 0), (3, .int x3_), (0, .ref o), (1, .ref (G.2.2.1 p0))]) hx hb dX10_isWord_60 rfl hl (by decide) rfl (fun ls hl => ?_)
          obtain ⟨x12, ex12⟩ : ∃ y : Int32, y = x3_ + 1 := ⟨_, rfl⟩
          have hp := hp x12 ex12
          refine lv_iinc (v := x12) (lv' := [(3, .int x12), (2, .int 0), (0, .ref o), (1, .ref (G.2.2.1 p0))]) hx hb dX10_isWord_61 hl (k := 1) rfl (by rw [ex12]; rfl) (by decide) rfl (fun ls hl => ?_)
          refine lv_goto (tgt := 24) hx hb dX10_isWord_64 (by decide) ?_
          exact ih x12 0 w _ _ _ hp h (lv_sub hl [0, 1, 2, 3] rfl)
        · have hp := hp.2 hc11
          refine lv_iconst (v := 1) hx hb dX10_isWord_55 (by decide) ?_
          refine lv_goto (tgt := 60) hx hb dX10_isWord_56 (by decide) ?_
          refine lv_istore_n (lv' := [(2, .int 1), (3, .int x3_), (0, .ref o), (1, .ref (G.2.2.1 p0))]) hx hb dX10_isWord_60 rfl hl (by decide) rfl (fun ls hl => ?_)
          obtain ⟨x13, ex13⟩ : ∃ y : Int32, y = x3_ + 1 := ⟨_, rfl⟩
          have hp := hp x13 ex13
          refine lv_iinc (v := x13) (lv' := [(3, .int x13), (2, .int 1), (0, .ref o), (1, .ref (G.2.2.1 p0))]) hx hb dX10_isWord_61 hl (k := 1) rfl (by rw [ex13]; rfl) (by decide) rfl (fun ls hl => ?_)
          refine lv_goto (tgt := 24) hx hb dX10_isWord_64 (by decide) ?_
          exact ih x13 1 w _ _ _ hp h (lv_sub hl [0, 1, 2, 3] rfl)
def wp_X10_isWord (z : Zt) (o : Nat) (p0 : Nat) (w : Vt) (K : Int32 → Vt → Prop) : Prop := isO z 10 o ∧ p0 < 6 ∧ ∀ r1 : Int32, r1 = Int32.ofNat (envL.getD p0 0) >>> ((0 : Int32) &&& 31) → ∃ J2 : Int32 → Vt → Prop, (∀ (x3 : Int32) (w4 : Vt), J2 x3 w4 → ∃ n14 : Nat, wL_X10_isWord_24 z o p0 K (fun x15 x16 w17 => isB x16 ∧ K x16 w17) n14 0 x3 w4) ∧ (¬ ((vI w 1035 o) - (vI w 1037 o)) = r1 → J2 0 w) ∧ (((vI w 1035 o) - (vI w 1037 o)) = r1 → J2 1 w)
set_option maxHeartbeats 4000000 in
set_option maxRecDepth 100000 in
theorem k_X10_isWord (l : Launch) (G : Gt) (z : Zt) (w : Vt) (sz : Nat) (o : Nat) (p0 : Nat) (K : Int32 → Vt → Prop) (hp : wp_X10_isWord z o p0 w K) : MI l yX10_isWord wsX10_isWord rmX10_isWord G z w sz [.ref o, .ref (G.2.2.1 p0)] K := by
  refine Met.ofW (cc := cX10_isWord) (maxL := 4) (ret := (some .boolean)) (by decide +kernel) rfl ?_
  intro p e s m args below meth c s₁ B hml hv
  obtain ⟨rfl, rfl, C, h⟩ := hp_start B hml hv
  generalize gA G z w s.heap.size = A at C h ⊢
  obtain ⟨hx, hb, hr, hlocks, hml, hown, hts, hK, hA, hE⟩ := id C
  obtain ⟨ho, hp⟩ := hp
  obtain ⟨hsp0, hp⟩ := hp
  have hl := lv_entry ([.ref o, .ref (G.2.2.1 p0)]) (n := 4) (Nat.le_of_ble_eq_true rfl)
  rw [lg_entry_eq]
  generalize (lg_sl ([.ref o, .ref (G.2.2.1 p0)]) ++ List.replicate (4 - (lg_sl ([.ref o, .ref (G.2.2.1 p0)])).length) Slot.unset).toArray = ls at hl ⊢
  have hl : lv_has ls 4 [(0, .ref o), (1, .ref (G.2.2.1 p0))] := hl
  refine lv_aload_n hx hb dX10_isWord_0 rfl (lv_at hl 0 rfl) ?_
  refine hp_get (ci := 10) (v := .int (vI w 1035 o)) hx hb hts ix_X10_isWord_10 hown hK h ho (by decide) rfl 35 (by decide) (hts _ lk_X10_isWord_202) (fun _ h9 => h9) rfl dX10_isWord_1 ?_
  refine lv_aload_n hx hb dX10_isWord_4 rfl (lv_at hl 0 rfl) ?_
  refine hp_get (ci := 10) (v := .int (vI w 1037 o)) hx hb hts ix_X10_isWord_10 hown hK h ho (by decide) rfl 37 (by decide) (hts _ lk_X10_isWord_211) (fun _ h9 => h9) rfl dX10_isWord_5 ?_
  refine lv_isub hx hb dX10_isWord_8 ?_
  refine lv_aload_n hx hb dX10_isWord_9 rfl (lv_at hl 1 rfl) ?_
  refine hp_cTi (i := p0) (K := fun r u => r = Int32.ofNat (envL.getD p0 0) >>> ((0 : Int32) &&& 31) ∧ u = w) ⟨hx, hb, hml, hown, hts⟩ (k_J0_length_8abf5 l G z w _ p0 _ hsp0 ⟨rfl, rfl⟩) (cwV 0 hts gX10_isWord_J0_length_8abf5 rfl rfl rfl (by decide +kernel) ⟨Nat.le_of_ble_eq_true rfl, Nat.le_of_ble_eq_true rfl⟩) hsp0 hK h hA hE rfl hl.1 rfl (Nat.le_of_ble_eq_true rfl) dX10_isWord_10 ⟨Nat.le_of_ble_eq_true rfl, Nat.le_of_ble_eq_true rfl⟩ (fun r1 ur1 H locs hqr1 hr1 => ?_)
  obtain ⟨er1, eur1⟩ := hqr1
  rw [eur1] at hr1
  have h := hr1
  have hp := hp r1 er1
  obtain ⟨J2, jJ2, hp⟩ := hp
  refine hp_jn1 (G := G) (A := A) (z := z) (J := J2) (nL := 4) (j := 21) (lvf := fun x3 => [(0, .ref o), (1, .ref (G.2.2.1 p0))]) (stf := fun x3 => [.int x3]) (fun kJ2 => ?_) (fun x3 w4 H locs ls hp h hl => ?_)
  · refine lv_icmp_ne (tgt := 20) hx hb dX10_isWord_13 (by decide) (fun hc5 => ?_) (fun hc5 => ?_)
    · have hp := hp.1 hc5
      refine lv_iconst (v := 0) hx hb dX10_isWord_20 (by decide) ?_
      exact kJ2 0 w _ _ _ hp h (lv_sub hl [0, 1] rfl)
    · have hp := hp.2 hc5
      refine lv_iconst (v := 1) hx hb dX10_isWord_16 (by decide) ?_
      refine lv_goto (tgt := 21) hx hb dX10_isWord_17 (by decide) ?_
      exact kJ2 1 w _ _ _ hp h (lv_sub hl [0, 1] rfl)
  have hp := jJ2 x3 w4 hp
  refine lv_istore_n (lv' := [(2, .int x3), (0, .ref o), (1, .ref (G.2.2.1 p0))]) hx hb dX10_isWord_21 rfl hl (by decide) rfl (fun ls hl => ?_)
  refine lv_iconst (v := 0) hx hb dX10_isWord_22 (by decide) ?_
  refine lv_istore_n (lv' := [(3, .int 0), (2, .int x3), (0, .ref o), (1, .ref (G.2.2.1 p0))]) hx hb dX10_isWord_23 rfl hl (by decide) rfl (fun ls hl => ?_)
  obtain ⟨n14, hp⟩ := hp
  refine kL_X10_isWord_24 C o p0 ho hsp0 _ _ (fun x15 x16 w17 H locs ls hp h hl => ?_) n14 0 x3 w4 _ _ _ hp h (lv_sub hl [0, 1, 2, 3] rfl)
  refine lv_iload_n hx hb dX10_isWord_67 rfl (lv_at hl 1 rfl) ?_
  exact hp_iret hx hb hr (isB_n hp.1) hlocks hK h hp.2 dX10_isWord_68
abbrev rmX10_reads : Room := { frames := 5, cells := 0, slots := 0, locals := 108 }
def wp_X10_reads (z : Zt) (o : Nat) (p0 : Nat) (p1 : Int32) (p2 : Int32) (w : Vt) (K : Int32 → Vt → Prop) : Prop := isO z 10 o ∧ p0 < 6 ∧ wp_X10_word z o w (fun w1 => wp_X10_isWord z o p0 w1 (fun r4 w3 => (r4 = 0 → K (-1) w3) ∧ (¬ r4 = 0 → wp_X10_number z o p1 p2 w3 (fun r7 w6 => K r7 w6))))
set_option maxHeartbeats 4000000 in
set_option maxRecDepth 100000 in
theorem k_X10_reads (l : Launch) (G : Gt) (z : Zt) (w : Vt) (sz : Nat) (o : Nat) (p0 : Nat) (p1 : Int32) (p2 : Int32) (K : Int32 → Vt → Prop) (hp : wp_X10_reads z o p0 p1 p2 w K) : MI l yX10_reads wsX10_reads rmX10_reads G z w sz [.ref o, .ref (G.2.2.1 p0), .int p1, .int p2] K := by
  refine Met.ofW (cc := cX10_reads) (maxL := 4) (ret := (some .int)) (by decide +kernel) rfl ?_
  intro p e s m args below meth c s₁ B hml hv
  obtain ⟨rfl, rfl, C, h⟩ := hp_start B hml hv
  generalize gA G z w s.heap.size = A at C h ⊢
  obtain ⟨hx, hb, hr, hlocks, hml, hown, hts, hK, hA, hE⟩ := id C
  obtain ⟨ho, hp⟩ := hp
  obtain ⟨hsp0, hp⟩ := hp
  have hl := lv_entry ([.ref o, .ref (G.2.2.1 p0), .int p1, .int p2]) (n := 4) (Nat.le_of_ble_eq_true rfl)
  rw [lg_entry_eq]
  generalize (lg_sl ([.ref o, .ref (G.2.2.1 p0), .int p1, .int p2]) ++ List.replicate (4 - (lg_sl ([.ref o, .ref (G.2.2.1 p0), .int p1, .int p2])).length) Slot.unset).toArray = ls at hl ⊢
  have hl : lv_has ls 4 [(0, .ref o), (1, .ref (G.2.2.1 p0)), (2, .int p1), (3, .int p2)] := hl
  refine lv_aload_n hx hb dX10_reads_0 rfl (lv_at hl 0 rfl) ?_
  refine hp_cVv ⟨hx, hb, hml, hown, hts⟩ (k_X10_word l G z w _ o _ hp) (cwV 0 hts gX10_reads_X10_word rfl rfl rfl (by decide +kernel) ⟨Nat.le_of_ble_eq_true rfl, Nat.le_of_ble_eq_true rfl⟩) ho (by decide) rfl hK h hA hE rfl hl.1 rfl (Nat.le_of_ble_eq_true rfl) dX10_reads_1 ⟨Nat.le_of_ble_eq_true rfl, Nat.le_of_ble_eq_true rfl⟩ (fun w1 H locs hp h => ?_)
  refine lv_aload_n hx hb dX10_reads_4 rfl (lv_at hl 0 rfl) ?_
  refine lv_aload_n hx hb dX10_reads_5 rfl (lv_at hl 1 rfl) ?_
  refine hp_cVi ⟨hx, hb, hml, hown, hts⟩ (k_X10_isWord l G z w1 _ o p0 _ hp) (cwV 1 hts gX10_reads_X10_isWord rfl rfl rfl (by decide +kernel) ⟨Nat.le_of_ble_eq_true rfl, Nat.le_of_ble_eq_true rfl⟩) ho (by decide) rfl hK h hA hE rfl hl.1 rfl (Nat.le_of_ble_eq_true rfl) dX10_reads_6 ⟨Nat.le_of_ble_eq_true rfl, Nat.le_of_ble_eq_true rfl⟩ (fun r4 w3 H locs hp h => ?_)
  refine lv_if_eq (tgt := 21) hx hb dX10_reads_9 (by decide) (fun hc5 => ?_) (fun hc5 => ?_)
  · have hp := hp.1 hc5
    refine lv_iconst (v := (-1)) hx hb dX10_reads_21 (by decide) ?_
    exact hp_iret hx hb hr rfl hlocks hK h hp dX10_reads_22
  · have hp := hp.2 hc5
    refine lv_aload_n hx hb dX10_reads_12 rfl (lv_at hl 0 rfl) ?_
    refine lv_iload_n hx hb dX10_reads_13 rfl (lv_at hl 2 rfl) ?_
    refine lv_iload_n hx hb dX10_reads_14 rfl (lv_at hl 3 rfl) ?_
    refine hp_cVi ⟨hx, hb, hml, hown, hts⟩ (k_X10_number l G z w3 _ o p1 p2 _ hp) (cwV 2 hts gX10_reads_X10_number rfl rfl rfl (by decide +kernel) ⟨Nat.le_of_ble_eq_true rfl, Nat.le_of_ble_eq_true rfl⟩) ho (by decide) rfl hK h hA hE rfl hl.1 rfl (Nat.le_of_ble_eq_true rfl) dX10_reads_15 ⟨Nat.le_of_ble_eq_true rfl, Nat.le_of_ble_eq_true rfl⟩ (fun r7 w6 H locs hp h => ?_)
    refine lv_goto (tgt := 22) hx hb dX10_reads_18 (by decide) ?_
    exact hp_iret hx hb hr rfl hlocks hK h hp dX10_reads_22
abbrev rmX10_readPart : Room := { frames := 6, cells := 0, slots := 0, locals := 131 }
theorem ls_X10_readPart_237 {G : Gt} {A : Nat → Prop} {s : State} (hE : gE G A s s.heap) : vk_R RX10 237 "rest" (G.2.2.1 0) s := hE.2.2.2.2.2.2.2.2.1 (RX10, 237, "rest", 0) (List.mem_of_getElem? (i := 27) rfl)
theorem ls_X10_readPart_241 {G : Gt} {A : Nat → Prop} {s : State} (hE : gE G A s s.heap) : vk_R RX10 241 "shore" (G.2.2.1 1) s := hE.2.2.2.2.2.2.2.2.1 (RX10, 241, "shore", 1) (List.mem_of_getElem? (i := 28) rfl)
theorem ix_X10_readPart_10 : ∀ w ∈ wsX100, w ∈ wsX10_readPart := by decide +kernel
theorem lk_X10_readPart_243 : Cond.fieldLink RX10 243 "KelpShoresModel" "draftParts" "I" ∈ wsX10_readPart := by decide +kernel
theorem lk_X10_readPart_79 : Cond.fieldLink RX10 79 "KelpShoresModel" "draft" "[I" ∈ wsX10_readPart := by decide +kernel
theorem lk_X10_readPart_130 : Cond.fieldLink RX10 130 "KelpShoresModel" "shores" "I" ∈ wsX10_readPart := by decide +kernel
theorem ls_X10_readPart_246 {G : Gt} {A : Nat → Prop} {s : State} (hE : gE G A s s.heap) : vk_R RX10 246 "family" (G.2.2.1 2) s := hE.2.2.2.2.2.2.2.2.1 (RX10, 246, "family", 2) (List.mem_of_getElem? (i := 29) rfl)
theorem ls_X10_readPart_252 {G : Gt} {A : Nat → Prop} {s : State} (hE : gE G A s s.heap) : vk_R RX10 252 "from" (G.2.2.1 3) s := hE.2.2.2.2.2.2.2.2.1 (RX10, 252, "from", 3) (List.mem_of_getElem? (i := 30) rfl)
theorem ls_X10_readPart_254 {G : Gt} {A : Nat → Prop} {s : State} (hE : gE G A s s.heap) : vk_R RX10 254 "to" (G.2.2.1 4) s := hE.2.2.2.2.2.2.2.2.1 (RX10, 254, "to", 4) (List.mem_of_getElem? (i := 31) rfl)
theorem ls_X10_readPart_256 {G : Gt} {A : Nat → Prop} {s : State} (hE : gE G A s s.heap) : vk_R RX10 256 "share" (G.2.2.1 5) s := hE.2.2.2.2.2.2.2.2.1 (RX10, 256, "share", 5) (List.mem_of_getElem? (i := 32) rfl)
theorem lk_X10_readPart_238 : Cond.fieldLink RX10 238 "KelpShoresModel" "draftRest" "I" ∈ wsX10_readPart := by decide +kernel
def wp_X10_readPart (z : Zt) (o : Nat) (w : Vt) (K : Int32 → Vt → Prop) : Prop := isO z 10 o ∧ wp_X10_word z o w (fun w1 => wp_X10_isWord z o 0 w1 (fun r4 w3 => (r4 = 0 → wp_X10_isWord z o 1 w3 (fun r7 w6 => (¬ r7 = 0 → ∀ x9 : Int32, x9 = 5 * (vI w6 1030 o) → ∃ b10 : Nat, zR z 1028 o = some b10 ∧ isO z 2028 b10 ∧ wp_X10_number z o 0 ((vI w6 1014 o) - 1) w6 (fun r12 w11 => vp_in x9 300 ∧ ∀ w13 : Vt, w13 = uA w11 2028 b10 (x9 : Int32).toNatClampNeg r12 → vp_in x9 300 ∧ (0 ≤ (vA w13 2028 b10 (x9 : Int32).toNatClampNeg) → wp_X10_reads z o 2 0 7 w13 (fun r16 w15 => vp_in (x9 + 1) 300 ∧ ∀ w17 : Vt, w17 = uA w15 2028 b10 (x9 + 1 : Int32).toNatClampNeg r16 → vp_in (x9 + 1) 300 ∧ (0 ≤ (vA w17 2028 b10 (x9 + 1 : Int32).toNatClampNeg) → wp_X10_reads z o 3 0 99 w17 (fun r20 w19 => vp_in (x9 + 2) 300 ∧ ∀ w21 : Vt, w21 = uA w19 2028 b10 (x9 + 2 : Int32).toNatClampNeg r20 → vp_in (x9 + 2) 300 ∧ (0 ≤ (vA w21 2028 b10 (x9 + 2 : Int32).toNatClampNeg) → vp_in (x9 + 2) 300 ∧ wp_X10_reads z o 4 (vA w21 2028 b10 (x9 + 2 : Int32).toNatClampNeg) 99 w21 (fun r24 w23 => vp_in (x9 + 3) 300 ∧ ∀ w25 : Vt, w25 = uA w23 2028 b10 (x9 + 3 : Int32).toNatClampNeg r24 → vp_in (x9 + 3) 300 ∧ (0 ≤ (vA w25 2028 b10 (x9 + 3 : Int32).toNatClampNeg) → wp_X10_reads z o 5 0 100 w25 (fun r28 w27 => vp_in (x9 + 4) 300 ∧ ∀ w29 : Vt, w29 = uA w27 2028 b10 (x9 + 4 : Int32).toNatClampNeg r28 → vp_in (x9 + 4) 300 ∧ (0 ≤ (vA w29 2028 b10 (x9 + 4 : Int32).toNatClampNeg) → ∀ w31 : Vt, w31 = uI w29 1030 o ((vI w29 1030 o) + 1) → K 1 w31) ∧ (¬ 0 ≤ (vA w29 2028 b10 (x9 + 4 : Int32).toNatClampNeg) → K 0 w29))) ∧ (¬ 0 ≤ (vA w25 2028 b10 (x9 + 3 : Int32).toNatClampNeg) → K 0 w25))) ∧ (¬ 0 ≤ (vA w21 2028 b10 (x9 + 2 : Int32).toNatClampNeg) → K 0 w21))) ∧ (¬ 0 ≤ (vA w17 2028 b10 (x9 + 1 : Int32).toNatClampNeg) → K 0 w17))) ∧ (¬ 0 ≤ (vA w13 2028 b10 (x9 : Int32).toNatClampNeg) → K 0 w13))) ∧ (r7 = 0 → K 0 w6))) ∧ (¬ r4 = 0 → wp_X10_number z o 0 20 w3 (fun r33 w32 => ∀ w34 : Vt, w34 = uI w32 1032 o r33 → ((vI w34 1032 o) < 0 → K 0 w34) ∧ (¬ (vI w34 1032 o) < 0 → K 1 w34)))))
set_option maxHeartbeats 4000000 in
set_option maxRecDepth 100000 in
theorem k_X10_readPart (l : Launch) (G : Gt) (z : Zt) (w : Vt) (sz : Nat) (o : Nat) (K : Int32 → Vt → Prop) (hp : wp_X10_readPart z o w K) : MI l yX10_readPart wsX10_readPart rmX10_readPart G z w sz [.ref o] K := by
  refine Met.ofW (cc := cX10_readPart) (maxL := 2) (ret := (some .boolean)) (by decide +kernel) rfl ?_
  intro p e s m args below meth c s₁ B hml hv
  obtain ⟨rfl, rfl, C, h⟩ := hp_start B hml hv
  generalize gA G z w s.heap.size = A at C h ⊢
  obtain ⟨hx, hb, hr, hlocks, hml, hown, hts, hK, hA, hE⟩ := id C
  obtain ⟨ho, hp⟩ := hp
  have hl := lv_entry ([.ref o]) (n := 2) (Nat.le_of_ble_eq_true rfl)
  rw [lg_entry_eq]
  generalize (lg_sl ([.ref o]) ++ List.replicate (2 - (lg_sl ([.ref o])).length) Slot.unset).toArray = ls at hl ⊢
  have hl : lv_has ls 2 [(0, .ref o)] := hl
  refine lv_aload_n hx hb dX10_readPart_0 rfl (lv_at hl 0 rfl) ?_
  refine hp_cVv ⟨hx, hb, hml, hown, hts⟩ (k_X10_word l G z w _ o _ hp) (cwV 0 hts gX10_readPart_X10_word rfl rfl rfl (by decide +kernel) ⟨Nat.le_of_ble_eq_true rfl, Nat.le_of_ble_eq_true rfl⟩) ho (by decide) rfl hK h hA hE rfl hl.1 rfl (Nat.le_of_ble_eq_true rfl) dX10_readPart_1 ⟨Nat.le_of_ble_eq_true rfl, Nat.le_of_ble_eq_true rfl⟩ (fun w1 H locs hp h => ?_)
  refine lv_aload_n hx hb dX10_readPart_4 rfl (lv_at hl 0 rfl) ?_
  refine va_ldcS hx hb hown (ls_X10_readPart_237 hE) dX10_readPart_5 ?_
  refine hp_cVi ⟨hx, hb, hml, hown, hts⟩ (k_X10_isWord l G z w1 _ o 0 _ hp) (cwV 1 hts gX10_readPart_X10_isWord rfl rfl rfl (by decide +kernel) ⟨Nat.le_of_ble_eq_true rfl, Nat.le_of_ble_eq_true rfl⟩) ho (by decide) rfl hK h hA hE rfl hl.1 rfl (Nat.le_of_ble_eq_true rfl) dX10_readPart_7 ⟨Nat.le_of_ble_eq_true rfl, Nat.le_of_ble_eq_true rfl⟩ (fun r4 w3 H locs hp h => ?_)
  refine lv_if_eq (tgt := 37) hx hb dX10_readPart_10 (by decide) (fun hc5 => ?_) (fun hc5 => ?_)
  · have hp := hp.1 hc5
    refine lv_aload_n hx hb dX10_readPart_37 rfl (lv_at hl 0 rfl) ?_
    refine va_ldcS hx hb hown (ls_X10_readPart_241 hE) dX10_readPart_38 ?_
    refine hp_cVi ⟨hx, hb, hml, hown, hts⟩ (k_X10_isWord l G z w3 _ o 1 _ hp) (cwV 1 hts gX10_readPart_X10_isWord rfl rfl rfl (by decide +kernel) ⟨Nat.le_of_ble_eq_true rfl, Nat.le_of_ble_eq_true rfl⟩) ho (by decide) rfl hK h hA hE rfl hl.1 rfl (Nat.le_of_ble_eq_true rfl) dX10_readPart_40 ⟨Nat.le_of_ble_eq_true rfl, Nat.le_of_ble_eq_true rfl⟩ (fun r7 w6 H locs hp h => ?_)
    refine lv_if_ne (tgt := 48) hx hb dX10_readPart_43 (by decide) (fun hc8 => ?_) (fun hc8 => ?_)
    · have hp := hp.1 hc8
      refine lv_iconst (v := 5) hx hb dX10_readPart_48 (by decide) ?_
      refine lv_aload_n hx hb dX10_readPart_49 rfl (lv_at hl 0 rfl) ?_
      refine hp_get (ci := 10) (v := .int (vI w6 1030 o)) hx hb hts ix_X10_readPart_10 hown hK h ho (by decide) rfl 30 (by decide) (hts _ lk_X10_readPart_243) (fun _ h9 => h9) rfl dX10_readPart_50 ?_
      refine lv_imul hx hb dX10_readPart_53 ?_
      refine lv_topi (fun x9 ex9 => ?_)
      have hp := hp x9 ex9
      refine lv_istore_n (lv' := [(1, .int x9), (0, .ref o)]) hx hb dX10_readPart_54 rfl hl (by decide) rfl (fun ls hl => ?_)
      refine lv_aload_n hx hb dX10_readPart_55 rfl (lv_at hl 1 rfl) ?_
      obtain ⟨b10, eb10, hob10, hp⟩ := hp
      refine hp_get (ci := 10) (v := .ref b10) hx hb hts ix_X10_readPart_10 hown hK h ho (by decide) rfl 28 (by decide) (hts _ lk_X10_readPart_79) (fun _ h9 => h9) (by show some (va_rf (zR z 1028 o)) = some (Value.ref b10); rw [eb10]; rfl) dX10_readPart_56 ?_
      refine lv_iload_n hx hb dX10_readPart_59 rfl (lv_at hl 0 rfl) ?_
      refine lv_aload_n hx hb dX10_readPart_60 rfl (lv_at hl 1 rfl) ?_
      refine lv_iconst (v := 0) hx hb dX10_readPart_61 (by decide) ?_
      refine lv_aload_n hx hb dX10_readPart_62 rfl (lv_at hl 1 rfl) ?_
      refine hp_get (ci := 10) (v := .int (vI w6 1014 o)) hx hb hts ix_X10_readPart_10 hown hK h ho (by decide) rfl 14 (by decide) (hts _ lk_X10_readPart_130) (fun _ h9 => h9) rfl dX10_readPart_63 ?_
      refine lv_iconst (v := 1) hx hb dX10_readPart_66 (by decide) ?_
      refine lv_isub hx hb dX10_readPart_67 ?_
      refine hp_cVi ⟨hx, hb, hml, hown, hts⟩ (k_X10_number l G z w6 _ o 0 ((vI w6 1014 o) - 1) _ hp) (cwV 2 hts gX10_readPart_X10_number rfl rfl rfl (by decide +kernel) ⟨Nat.le_of_ble_eq_true rfl, Nat.le_of_ble_eq_true rfl⟩) ho (by decide) rfl hK h hA hE rfl hl.1 rfl (Nat.le_of_ble_eq_true rfl) dX10_readPart_68 ⟨Nat.le_of_ble_eq_true rfl, Nat.le_of_ble_eq_true rfl⟩ (fun r12 w11 H locs hp h => ?_)
      refine hp_iast (t := 2028) (n := 300) hx hb hK h hob10 (by decide) (fun _ _ _ => rfl) hp.1 dX10_readPart_71 (fun H locs w13 ew13 h => ?_)
      have hp := hp.2 w13 ew13
      refine lv_aload_n hx hb dX10_readPart_72 rfl (lv_at hl 1 rfl) ?_
      refine hp_get (ci := 10) (v := .ref b10) hx hb hts ix_X10_readPart_10 hown hK h ho (by decide) rfl 28 (by decide) (hts _ lk_X10_readPart_79) (fun _ h9 => h9) (by show some (va_rf (zR z 1028 o)) = some (Value.ref b10); rw [eb10]; rfl) dX10_readPart_73 ?_
      refine lv_iload_n hx hb dX10_readPart_76 rfl (lv_at hl 0 rfl) ?_
      refine hp_iald (t := 2028) (n := 300) hx hb hK h hob10 (by decide) (fun _ _ _ => rfl) hp.1 dX10_readPart_77 ?_
      have hp := hp.2
      refine lv_if_ge (tgt := 83) hx hb dX10_readPart_78 (by decide) (fun hc14 => ?_) (fun hc14 => ?_)
      · have hp := hp.1 hc14
        refine lv_aload_n hx hb dX10_readPart_83 rfl (lv_at hl 1 rfl) ?_
        refine hp_get (ci := 10) (v := .ref b10) hx hb hts ix_X10_readPart_10 hown hK h ho (by decide) rfl 28 (by decide) (hts _ lk_X10_readPart_79) (fun _ h9 => h9) (by show some (va_rf (zR z 1028 o)) = some (Value.ref b10); rw [eb10]; rfl) dX10_readPart_84 ?_
        refine lv_iload_n hx hb dX10_readPart_87 rfl (lv_at hl 0 rfl) ?_
        refine lv_iconst (v := 1) hx hb dX10_readPart_88 (by decide) ?_
        refine lv_iadd hx hb dX10_readPart_89 ?_
        refine lv_aload_n hx hb dX10_readPart_90 rfl (lv_at hl 1 rfl) ?_
        refine va_ldcS hx hb hown (ls_X10_readPart_246 hE) dX10_readPart_91 ?_
        refine lv_iconst (v := 0) hx hb dX10_readPart_93 (by decide) ?_
        refine lv_bipush (v := 7) hx hb dX10_readPart_94 (by decide) ?_
        refine hp_cVi ⟨hx, hb, hml, hown, hts⟩ (k_X10_reads l G z w13 _ o 2 0 7 _ hp) (cwV 3 hts gX10_readPart_X10_reads rfl rfl rfl (by decide +kernel) ⟨Nat.le_of_ble_eq_true rfl, Nat.le_of_ble_eq_true rfl⟩) ho (by decide) rfl hK h hA hE rfl hl.1 rfl (Nat.le_of_ble_eq_true rfl) dX10_readPart_96 ⟨Nat.le_of_ble_eq_true rfl, Nat.le_of_ble_eq_true rfl⟩ (fun r16 w15 H locs hp h => ?_)
        refine hp_iast (t := 2028) (n := 300) hx hb hK h hob10 (by decide) (fun _ _ _ => rfl) hp.1 dX10_readPart_99 (fun H locs w17 ew17 h => ?_)
        have hp := hp.2 w17 ew17
        refine lv_aload_n hx hb dX10_readPart_100 rfl (lv_at hl 1 rfl) ?_
        refine hp_get (ci := 10) (v := .ref b10) hx hb hts ix_X10_readPart_10 hown hK h ho (by decide) rfl 28 (by decide) (hts _ lk_X10_readPart_79) (fun _ h9 => h9) (by show some (va_rf (zR z 1028 o)) = some (Value.ref b10); rw [eb10]; rfl) dX10_readPart_101 ?_
        refine lv_iload_n hx hb dX10_readPart_104 rfl (lv_at hl 0 rfl) ?_
        refine lv_iconst (v := 1) hx hb dX10_readPart_105 (by decide) ?_
        refine lv_iadd hx hb dX10_readPart_106 ?_
        refine hp_iald (t := 2028) (n := 300) hx hb hK h hob10 (by decide) (fun _ _ _ => rfl) hp.1 dX10_readPart_107 ?_
        have hp := hp.2
        refine lv_if_ge (tgt := 113) hx hb dX10_readPart_108 (by decide) (fun hc18 => ?_) (fun hc18 => ?_)
        · have hp := hp.1 hc18
          refine lv_aload_n hx hb dX10_readPart_113 rfl (lv_at hl 1 rfl) ?_
          refine hp_get (ci := 10) (v := .ref b10) hx hb hts ix_X10_readPart_10 hown hK h ho (by decide) rfl 28 (by decide) (hts _ lk_X10_readPart_79) (fun _ h9 => h9) (by show some (va_rf (zR z 1028 o)) = some (Value.ref b10); rw [eb10]; rfl) dX10_readPart_114 ?_
          refine lv_iload_n hx hb dX10_readPart_117 rfl (lv_at hl 0 rfl) ?_
          refine lv_iconst (v := 2) hx hb dX10_readPart_118 (by decide) ?_
          refine lv_iadd hx hb dX10_readPart_119 ?_
          refine lv_aload_n hx hb dX10_readPart_120 rfl (lv_at hl 1 rfl) ?_
          refine va_ldcS hx hb hown (ls_X10_readPart_252 hE) dX10_readPart_121 ?_
          refine lv_iconst (v := 0) hx hb dX10_readPart_123 (by decide) ?_
          refine lv_bipush (v := 99) hx hb dX10_readPart_124 (by decide) ?_
          refine hp_cVi ⟨hx, hb, hml, hown, hts⟩ (k_X10_reads l G z w17 _ o 3 0 99 _ hp) (cwV 3 hts gX10_readPart_X10_reads rfl rfl rfl (by decide +kernel) ⟨Nat.le_of_ble_eq_true rfl, Nat.le_of_ble_eq_true rfl⟩) ho (by decide) rfl hK h hA hE rfl hl.1 rfl (Nat.le_of_ble_eq_true rfl) dX10_readPart_126 ⟨Nat.le_of_ble_eq_true rfl, Nat.le_of_ble_eq_true rfl⟩ (fun r20 w19 H locs hp h => ?_)
          refine hp_iast (t := 2028) (n := 300) hx hb hK h hob10 (by decide) (fun _ _ _ => rfl) hp.1 dX10_readPart_129 (fun H locs w21 ew21 h => ?_)
          have hp := hp.2 w21 ew21
          refine lv_aload_n hx hb dX10_readPart_130 rfl (lv_at hl 1 rfl) ?_
          refine hp_get (ci := 10) (v := .ref b10) hx hb hts ix_X10_readPart_10 hown hK h ho (by decide) rfl 28 (by decide) (hts _ lk_X10_readPart_79) (fun _ h9 => h9) (by show some (va_rf (zR z 1028 o)) = some (Value.ref b10); rw [eb10]; rfl) dX10_readPart_131 ?_
          refine lv_iload_n hx hb dX10_readPart_134 rfl (lv_at hl 0 rfl) ?_
          refine lv_iconst (v := 2) hx hb dX10_readPart_135 (by decide) ?_
          refine lv_iadd hx hb dX10_readPart_136 ?_
          refine hp_iald (t := 2028) (n := 300) hx hb hK h hob10 (by decide) (fun _ _ _ => rfl) hp.1 dX10_readPart_137 ?_
          have hp := hp.2
          refine lv_if_ge (tgt := 143) hx hb dX10_readPart_138 (by decide) (fun hc22 => ?_) (fun hc22 => ?_)
          · have hp := hp.1 hc22
            refine lv_aload_n hx hb dX10_readPart_143 rfl (lv_at hl 1 rfl) ?_
            refine hp_get (ci := 10) (v := .ref b10) hx hb hts ix_X10_readPart_10 hown hK h ho (by decide) rfl 28 (by decide) (hts _ lk_X10_readPart_79) (fun _ h9 => h9) (by show some (va_rf (zR z 1028 o)) = some (Value.ref b10); rw [eb10]; rfl) dX10_readPart_144 ?_
            refine lv_iload_n hx hb dX10_readPart_147 rfl (lv_at hl 0 rfl) ?_
            refine lv_iconst (v := 3) hx hb dX10_readPart_148 (by decide) ?_
            refine lv_iadd hx hb dX10_readPart_149 ?_
            refine lv_aload_n hx hb dX10_readPart_150 rfl (lv_at hl 1 rfl) ?_
            refine va_ldcS hx hb hown (ls_X10_readPart_254 hE) dX10_readPart_151 ?_
            refine lv_aload_n hx hb dX10_readPart_153 rfl (lv_at hl 1 rfl) ?_
            refine hp_get (ci := 10) (v := .ref b10) hx hb hts ix_X10_readPart_10 hown hK h ho (by decide) rfl 28 (by decide) (hts _ lk_X10_readPart_79) (fun _ h9 => h9) (by show some (va_rf (zR z 1028 o)) = some (Value.ref b10); rw [eb10]; rfl) dX10_readPart_154 ?_
            refine lv_iload_n hx hb dX10_readPart_157 rfl (lv_at hl 0 rfl) ?_
            refine lv_iconst (v := 2) hx hb dX10_readPart_158 (by decide) ?_
            refine lv_iadd hx hb dX10_readPart_159 ?_
            refine hp_iald (t := 2028) (n := 300) hx hb hK h hob10 (by decide) (fun _ _ _ => rfl) hp.1 dX10_readPart_160 ?_
            have hp := hp.2
            refine lv_bipush (v := 99) hx hb dX10_readPart_161 (by decide) ?_
            refine hp_cVi ⟨hx, hb, hml, hown, hts⟩ (k_X10_reads l G z w21 _ o 4 (vA w21 2028 b10 (x9 + 2 : Int32).toNatClampNeg) 99 _ hp) (cwV 3 hts gX10_readPart_X10_reads rfl rfl rfl (by decide +kernel) ⟨Nat.le_of_ble_eq_true rfl, Nat.le_of_ble_eq_true rfl⟩) ho (by decide) rfl hK h hA hE rfl hl.1 rfl (Nat.le_of_ble_eq_true rfl) dX10_readPart_163 ⟨Nat.le_of_ble_eq_true rfl, Nat.le_of_ble_eq_true rfl⟩ (fun r24 w23 H locs hp h => ?_)
            refine hp_iast (t := 2028) (n := 300) hx hb hK h hob10 (by decide) (fun _ _ _ => rfl) hp.1 dX10_readPart_166 (fun H locs w25 ew25 h => ?_)
            have hp := hp.2 w25 ew25
            refine lv_aload_n hx hb dX10_readPart_167 rfl (lv_at hl 1 rfl) ?_
            refine hp_get (ci := 10) (v := .ref b10) hx hb hts ix_X10_readPart_10 hown hK h ho (by decide) rfl 28 (by decide) (hts _ lk_X10_readPart_79) (fun _ h9 => h9) (by show some (va_rf (zR z 1028 o)) = some (Value.ref b10); rw [eb10]; rfl) dX10_readPart_168 ?_
            refine lv_iload_n hx hb dX10_readPart_171 rfl (lv_at hl 0 rfl) ?_
            refine lv_iconst (v := 3) hx hb dX10_readPart_172 (by decide) ?_
            refine lv_iadd hx hb dX10_readPart_173 ?_
            refine hp_iald (t := 2028) (n := 300) hx hb hK h hob10 (by decide) (fun _ _ _ => rfl) hp.1 dX10_readPart_174 ?_
            have hp := hp.2
            refine lv_if_ge (tgt := 180) hx hb dX10_readPart_175 (by decide) (fun hc26 => ?_) (fun hc26 => ?_)
            · have hp := hp.1 hc26
              refine lv_aload_n hx hb dX10_readPart_180 rfl (lv_at hl 1 rfl) ?_
              refine hp_get (ci := 10) (v := .ref b10) hx hb hts ix_X10_readPart_10 hown hK h ho (by decide) rfl 28 (by decide) (hts _ lk_X10_readPart_79) (fun _ h9 => h9) (by show some (va_rf (zR z 1028 o)) = some (Value.ref b10); rw [eb10]; rfl) dX10_readPart_181 ?_
              refine lv_iload_n hx hb dX10_readPart_184 rfl (lv_at hl 0 rfl) ?_
              refine lv_iconst (v := 4) hx hb dX10_readPart_185 (by decide) ?_
              refine lv_iadd hx hb dX10_readPart_186 ?_
              refine lv_aload_n hx hb dX10_readPart_187 rfl (lv_at hl 1 rfl) ?_
              refine va_ldcSw hx hb hown (ls_X10_readPart_256 hE) dX10_readPart_188 ?_
              refine lv_iconst (v := 0) hx hb dX10_readPart_191 (by decide) ?_
              refine lv_bipush (v := 100) hx hb dX10_readPart_192 (by decide) ?_
              refine hp_cVi ⟨hx, hb, hml, hown, hts⟩ (k_X10_reads l G z w25 _ o 5 0 100 _ hp) (cwV 3 hts gX10_readPart_X10_reads rfl rfl rfl (by decide +kernel) ⟨Nat.le_of_ble_eq_true rfl, Nat.le_of_ble_eq_true rfl⟩) ho (by decide) rfl hK h hA hE rfl hl.1 rfl (Nat.le_of_ble_eq_true rfl) dX10_readPart_194 ⟨Nat.le_of_ble_eq_true rfl, Nat.le_of_ble_eq_true rfl⟩ (fun r28 w27 H locs hp h => ?_)
              refine hp_iast (t := 2028) (n := 300) hx hb hK h hob10 (by decide) (fun _ _ _ => rfl) hp.1 dX10_readPart_197 (fun H locs w29 ew29 h => ?_)
              have hp := hp.2 w29 ew29
              refine lv_aload_n hx hb dX10_readPart_198 rfl (lv_at hl 1 rfl) ?_
              refine hp_get (ci := 10) (v := .ref b10) hx hb hts ix_X10_readPart_10 hown hK h ho (by decide) rfl 28 (by decide) (hts _ lk_X10_readPart_79) (fun _ h9 => h9) (by show some (va_rf (zR z 1028 o)) = some (Value.ref b10); rw [eb10]; rfl) dX10_readPart_199 ?_
              refine lv_iload_n hx hb dX10_readPart_202 rfl (lv_at hl 0 rfl) ?_
              refine lv_iconst (v := 4) hx hb dX10_readPart_203 (by decide) ?_
              refine lv_iadd hx hb dX10_readPart_204 ?_
              refine hp_iald (t := 2028) (n := 300) hx hb hK h hob10 (by decide) (fun _ _ _ => rfl) hp.1 dX10_readPart_205 ?_
              have hp := hp.2
              refine lv_if_ge (tgt := 211) hx hb dX10_readPart_206 (by decide) (fun hc30 => ?_) (fun hc30 => ?_)
              · have hp := hp.1 hc30
                refine lv_aload_n hx hb dX10_readPart_211 rfl (lv_at hl 1 rfl) ?_
                refine lv_dup hx hb dX10_readPart_212 rfl ?_
                refine hp_get (ci := 10) (v := .int (vI w29 1030 o)) hx hb hts ix_X10_readPart_10 hown hK h ho (by decide) rfl 30 (by decide) (hts _ lk_X10_readPart_243) (fun _ h9 => h9) rfl dX10_readPart_213 ?_
                refine lv_iconst (v := 1) hx hb dX10_readPart_216 (by decide) ?_
                refine lv_iadd hx hb dX10_readPart_217 ?_
                refine hp_puti (ci := 10) (ty := .int) (x := (vI w29 1030 o) + 1) hx hb hts ix_X10_readPart_10 tyX10 tyX10_ok nmX10 hown hK h ho (by decide) rfl 30 1030 (by decide) (hts _ lk_X10_readPart_243) (fun _ h9 => h9) rfl (by decide +kernel) rfl rfl (fun _ _ => rfl) (fun _ _ => Nat.le_of_ble_eq_true rfl) dX10_readPart_218 (fun H locs w31 ew31 h => ?_)
                have hp := hp w31 ew31
                refine lv_iconst (v := 1) hx hb dX10_readPart_221 (by decide) ?_
                exact hp_iret hx hb hr rfl hlocks hK h hp dX10_readPart_222
              · have hp := hp.2 hc30
                refine lv_iconst (v := 0) hx hb dX10_readPart_209 (by decide) ?_
                exact hp_iret hx hb hr rfl hlocks hK h hp dX10_readPart_210
            · have hp := hp.2 hc26
              refine lv_iconst (v := 0) hx hb dX10_readPart_178 (by decide) ?_
              exact hp_iret hx hb hr rfl hlocks hK h hp dX10_readPart_179
          · have hp := hp.2 hc22
            refine lv_iconst (v := 0) hx hb dX10_readPart_141 (by decide) ?_
            exact hp_iret hx hb hr rfl hlocks hK h hp dX10_readPart_142
        · have hp := hp.2 hc18
          refine lv_iconst (v := 0) hx hb dX10_readPart_111 (by decide) ?_
          exact hp_iret hx hb hr rfl hlocks hK h hp dX10_readPart_112
      · have hp := hp.2 hc14
        refine lv_iconst (v := 0) hx hb dX10_readPart_81 (by decide) ?_
        exact hp_iret hx hb hr rfl hlocks hK h hp dX10_readPart_82
    · have hp := hp.2 hc8
      refine lv_iconst (v := 0) hx hb dX10_readPart_46 (by decide) ?_
      exact hp_iret hx hb hr rfl hlocks hK h hp dX10_readPart_47
  · have hp := hp.2 hc5
    refine lv_aload_n hx hb dX10_readPart_13 rfl (lv_at hl 0 rfl) ?_
    refine lv_aload_n hx hb dX10_readPart_14 rfl (lv_at hl 0 rfl) ?_
    refine lv_iconst (v := 0) hx hb dX10_readPart_15 (by decide) ?_
    refine lv_bipush (v := 20) hx hb dX10_readPart_16 (by decide) ?_
    refine hp_cVi ⟨hx, hb, hml, hown, hts⟩ (k_X10_number l G z w3 _ o 0 20 _ hp) (cwV 2 hts gX10_readPart_X10_number rfl rfl rfl (by decide +kernel) ⟨Nat.le_of_ble_eq_true rfl, Nat.le_of_ble_eq_true rfl⟩) ho (by decide) rfl hK h hA hE rfl hl.1 rfl (Nat.le_of_ble_eq_true rfl) dX10_readPart_18 ⟨Nat.le_of_ble_eq_true rfl, Nat.le_of_ble_eq_true rfl⟩ (fun r33 w32 H locs hp h => ?_)
    refine hp_puti (ci := 10) (ty := .int) (x := r33) hx hb hts ix_X10_readPart_10 tyX10 tyX10_ok nmX10 hown hK h ho (by decide) rfl 32 1032 (by decide) (hts _ lk_X10_readPart_238) (fun _ h9 => h9) rfl (by decide +kernel) rfl rfl (fun _ _ => rfl) (fun _ _ => Nat.le_of_ble_eq_true rfl) dX10_readPart_21 (fun H locs w34 ew34 h => ?_)
    have hp := hp w34 ew34
    refine lv_aload_n hx hb dX10_readPart_24 rfl (lv_at hl 0 rfl) ?_
    refine hp_get (ci := 10) (v := .int (vI w34 1032 o)) hx hb hts ix_X10_readPart_10 hown hK h ho (by decide) rfl 32 (by decide) (hts _ lk_X10_readPart_238) (fun _ h9 => h9) rfl dX10_readPart_25 ?_
    refine lv_if_lt (tgt := 35) hx hb dX10_readPart_28 (by decide) (fun hc35 => ?_) (fun hc35 => ?_)
    · have hp := hp.1 hc35
      refine lv_iconst (v := 0) hx hb dX10_readPart_35 (by decide) ?_
      exact hp_iret hx hb hr rfl hlocks hK h hp dX10_readPart_36
    · have hp := hp.2 hc35
      refine lv_iconst (v := 1) hx hb dX10_readPart_31 (by decide) ?_
      refine lv_goto (tgt := 36) hx hb dX10_readPart_32 (by decide) ?_
      exact hp_iret hx hb hr rfl hlocks hK h hp dX10_readPart_36
abbrev rmX10_readAll : Room := { frames := 7, cells := 0, slots := 0, locals := 152 }
theorem ix_X10_readAll_10 : ∀ w ∈ wsX100, w ∈ wsX10_readAll := by decide +kernel
theorem lk_X10_readAll_202 : Cond.fieldLink RX10 202 "KelpShoresModel" "point" "I" ∈ wsX10_readAll := by decide +kernel
theorem lk_X10_readAll_243 : Cond.fieldLink RX10 243 "KelpShoresModel" "draftParts" "I" ∈ wsX10_readAll := by decide +kernel
theorem lk_X10_readAll_238 : Cond.fieldLink RX10 238 "KelpShoresModel" "draftRest" "I" ∈ wsX10_readAll := by decide +kernel
theorem lk_X10_readAll_205 : Cond.fieldLink RX10 205 "KelpShoresModel" "end" "I" ∈ wsX10_readAll := by decide +kernel
def wL_X10_readAll_17 (z : Zt) (o : Nat) (K : Int32 → Vt → Prop) (Kx : Int32 → Vt → Prop) : Nat → Int32 → Vt → Prop
  | 0, _, _ => False
  | n + 1, x1_, w => wp_X10_readPart z o w (fun r5 w4 => (¬ r5 = 0 → ∀ x7 : Int32, x7 = x1_ + 1 → wp_X10_blanks z o w4 (fun w8 => (¬ (vI w8 1035 o) = (vI w8 1036 o) → wp_X10_isAt z o 59 59 w8 (fun r12 w11 => (¬ r12 = 0 → ∀ w14 : Vt, w14 = uI w11 1035 o ((vI w11 1035 o) + 1) → wL_X10_readAll_17 z o K Kx n x7 w14) ∧ (r12 = 0 → K (-1) w11))) ∧ ((vI w8 1035 o) = (vI w8 1036 o) → K x7 w8))) ∧ (r5 = 0 → Kx x1_ w4))
set_option maxHeartbeats 4000000 in
set_option maxRecDepth 100000 in
theorem kL_X10_readAll_17 {p : Program} {l : Launch} {e : Env} {s : State} {m : MethodId} {args : Array Value} {below : List Frame} {meth : Method} {c : Code} {G : Gt} {A : Nat → Prop} {z : Zt} (C : gC p s m args meth c cX10_readAll 2 RX10 wsX10_readAll (some .int) G A) (o : Nat) (ho : isO z 10 o) (K : Int32 → Vt → Prop) (Kx : Int32 → Vt → Prop) (kKx : ∀ (x1_ : Int32) (w : Vt) (H : Heap) (locs : List Loc) (ls : Array Slot), Kx x1_ w → hpH G.1 G.2.1 A s.heap z w H locs → lv_has ls 2 [(1, .int x1_), (0, .ref o)] → W p l e (headSpec wsX10_readAll rmX10_readAll).room s m args below meth c H locs 0 0 (MQ below (va_Qi K (gB G A z) A) args s 0 0 A) (F0 m 24 ls [])) : ∀ (n : Nat) (x1_ : Int32) (w : Vt) (H : Heap) (locs : List Loc) (ls : Array Slot), wL_X10_readAll_17 z o K Kx n x1_ w → hpH G.1 G.2.1 A s.heap z w H locs → lv_has ls 2 [(1, .int x1_), (0, .ref o)] → W p l e (headSpec wsX10_readAll rmX10_readAll).room s m args below meth c H locs 0 0 (MQ below (va_Qi K (gB G A z) A) args s 0 0 A) (F0 m 17 ls []) := by
  obtain ⟨hx, hb, hr, hlocks, hml, hown, hts, hK, hA, hE⟩ := id C
  intro n
  induction n with
  | zero =>
    intro x1_ w H locs ls hp
    exact hp.elim
  | succ n ih =>
    intro x1_ w H locs ls hp h hl
    refine lv_aload_n hx hb dX10_readAll_17 rfl (lv_at hl 1 rfl) ?_
    refine hp_cVi ⟨hx, hb, hml, hown, hts⟩ (k_X10_readPart l G z w _ o _ hp) (cwV 0 hts gX10_readAll_X10_readPart rfl rfl rfl (by decide +kernel) ⟨Nat.le_of_ble_eq_true rfl, Nat.le_of_ble_eq_true rfl⟩) ho (by decide) rfl hK h hA hE rfl hl.1 rfl (Nat.le_of_ble_eq_true rfl) dX10_readAll_18 ⟨Nat.le_of_ble_eq_true rfl, Nat.le_of_ble_eq_true rfl⟩ (fun r5 w4 H locs hp h => ?_)
    refine lv_if_ne (tgt := 26) hx hb dX10_readAll_21 (by decide) (fun hc6 => ?_) (fun hc6 => ?_)
    · have hp := hp.1 hc6
      obtain ⟨x7, ex7⟩ : ∃ y : Int32, y = x1_ + 1 := ⟨_, rfl⟩
      have hp := hp x7 ex7
      refine lv_iinc (v := x7) (lv' := [(1, .int x7), (0, .ref o)]) hx hb dX10_readAll_26 hl (k := 0) rfl (by rw [ex7]; rfl) (by decide) rfl (fun ls hl => ?_)
      refine lv_aload_n hx hb dX10_readAll_29 rfl (lv_at hl 1 rfl) ?_
      refine hp_cVv ⟨hx, hb, hml, hown, hts⟩ (k_X10_blanks l G z w4 _ o _ hp) (cwV 0 hts gX10_readAll_X10_blanks rfl rfl rfl (by decide +kernel) ⟨Nat.le_of_ble_eq_true rfl, Nat.le_of_ble_eq_true rfl⟩) ho (by decide) rfl hK h hA hE rfl hl.1 rfl (Nat.le_of_ble_eq_true rfl) dX10_readAll_30 ⟨Nat.le_of_ble_eq_true rfl, Nat.le_of_ble_eq_true rfl⟩ (fun w8 H locs hp h => ?_)
      refine lv_aload_n hx hb dX10_readAll_33 rfl (lv_at hl 1 rfl) ?_
      refine hp_get (ci := 10) (v := .int (vI w8 1035 o)) hx hb hts ix_X10_readAll_10 hown hK h ho (by decide) rfl 35 (by decide) (hts _ lk_X10_readAll_202) (fun _ h9 => h9) rfl dX10_readAll_34 ?_
      refine lv_aload_n hx hb dX10_readAll_37 rfl (lv_at hl 1 rfl) ?_
      refine hp_get (ci := 10) (v := .int (vI w8 1036 o)) hx hb hts ix_X10_readAll_10 hown hK h ho (by decide) rfl 36 (by decide) (hts _ lk_X10_readAll_205) (fun _ h9 => h9) rfl dX10_readAll_38 ?_
      refine lv_icmp_ne (tgt := 46) hx hb dX10_readAll_41 (by decide) (fun hc10 => ?_) (fun hc10 => ?_)
      · have hp := hp.1 hc10
        refine lv_aload_n hx hb dX10_readAll_46 rfl (lv_at hl 1 rfl) ?_
        refine lv_bipush (v := 59) hx hb dX10_readAll_47 (by decide) ?_
        refine lv_bipush (v := 59) hx hb dX10_readAll_49 (by decide) ?_
        refine hp_cVi ⟨hx, hb, hml, hown, hts⟩ (k_X10_isAt l G z w8 _ o 59 59 _ hp) (cwV 2 hts gX10_readAll_X10_isAt rfl rfl rfl (by decide +kernel) ⟨Nat.le_of_ble_eq_true rfl, Nat.le_of_ble_eq_true rfl⟩) ho (by decide) rfl hK h hA hE rfl hl.1 rfl (Nat.le_of_ble_eq_true rfl) dX10_readAll_51 ⟨Nat.le_of_ble_eq_true rfl, Nat.le_of_ble_eq_true rfl⟩ (fun r12 w11 H locs hp h => ?_)
        refine lv_if_ne (tgt := 59) hx hb dX10_readAll_54 (by decide) (fun hc13 => ?_) (fun hc13 => ?_)
        · have hp := hp.1 hc13
          refine lv_aload_n hx hb dX10_readAll_59 rfl (lv_at hl 1 rfl) ?_
          refine lv_dup hx hb dX10_readAll_60 rfl ?_
          refine hp_get (ci := 10) (v := .int (vI w11 1035 o)) hx hb hts ix_X10_readAll_10 hown hK h ho (by decide) rfl 35 (by decide) (hts _ lk_X10_readAll_202) (fun _ h9 => h9) rfl dX10_readAll_61 ?_
          refine lv_iconst (v := 1) hx hb dX10_readAll_64 (by decide) ?_
          refine lv_iadd hx hb dX10_readAll_65 ?_
          refine hp_puti (ci := 10) (ty := .int) (x := (vI w11 1035 o) + 1) hx hb hts ix_X10_readAll_10 tyX10 tyX10_ok nmX10 hown hK h ho (by decide) rfl 35 1035 (by decide) (hts _ lk_X10_readAll_202) (fun _ h9 => h9) rfl (by decide +kernel) rfl rfl (fun _ _ => rfl) (fun _ _ => Nat.le_of_ble_eq_true rfl) dX10_readAll_66 (fun H locs w14 ew14 h => ?_)
          have hp := hp w14 ew14
          refine lv_goto (tgt := 17) hx hb dX10_readAll_69 (by decide) ?_
          exact ih x7 w14 _ _ _ hp h (lv_sub hl [0, 1] rfl)
        · have hp := hp.2 hc13
          refine lv_iconst (v := (-1)) hx hb dX10_readAll_57 (by decide) ?_
          exact hp_iret hx hb hr rfl hlocks hK h hp dX10_readAll_58
      · have hp := hp.2 hc10
        refine lv_iload_n hx hb dX10_readAll_44 rfl (lv_at hl 0 rfl) ?_
        exact hp_iret hx hb hr rfl hlocks hK h hp dX10_readAll_45
    · have hp := hp.2 hc6
      exact kKx x1_ w4 _ _ _ hp h (lv_sub hl [0, 1] rfl)
def wp_X10_readAll (z : Zt) (o : Nat) (w : Vt) (K : Int32 → Vt → Prop) : Prop := isO z 10 o ∧ ∀ w1 : Vt, w1 = uI w 1035 o 0 → ∀ w2 : Vt, w2 = uI w1 1030 o 0 → ∀ w3 : Vt, w3 = uI w2 1032 o 2 → ∃ n15 : Nat, wL_X10_readAll_17 z o K (fun x16 w17 => K (-1) w17) n15 0 w3
set_option maxHeartbeats 4000000 in
set_option maxRecDepth 100000 in
theorem k_X10_readAll (l : Launch) (G : Gt) (z : Zt) (w : Vt) (sz : Nat) (o : Nat) (K : Int32 → Vt → Prop) (hp : wp_X10_readAll z o w K) : MI l yX10_readAll wsX10_readAll rmX10_readAll G z w sz [.ref o] K := by
  refine Met.ofW (cc := cX10_readAll) (maxL := 2) (ret := (some .int)) (by decide +kernel) rfl ?_
  intro p e s m args below meth c s₁ B hml hv
  obtain ⟨rfl, rfl, C, h⟩ := hp_start B hml hv
  generalize gA G z w s.heap.size = A at C h ⊢
  obtain ⟨hx, hb, hr, hlocks, hml, hown, hts, hK, hA, hE⟩ := id C
  obtain ⟨ho, hp⟩ := hp
  have hl := lv_entry ([.ref o]) (n := 2) (Nat.le_of_ble_eq_true rfl)
  rw [lg_entry_eq]
  generalize (lg_sl ([.ref o]) ++ List.replicate (2 - (lg_sl ([.ref o])).length) Slot.unset).toArray = ls at hl ⊢
  have hl : lv_has ls 2 [(0, .ref o)] := hl
  refine lv_aload_n hx hb dX10_readAll_0 rfl (lv_at hl 0 rfl) ?_
  refine lv_iconst (v := 0) hx hb dX10_readAll_1 (by decide) ?_
  refine hp_puti (ci := 10) (ty := .int) (x := 0) hx hb hts ix_X10_readAll_10 tyX10 tyX10_ok nmX10 hown hK h ho (by decide) rfl 35 1035 (by decide) (hts _ lk_X10_readAll_202) (fun _ h9 => h9) rfl (by decide +kernel) rfl rfl (fun _ _ => rfl) (fun _ _ => Nat.le_of_ble_eq_true rfl) dX10_readAll_2 (fun H locs w1 ew1 h => ?_)
  have hp := hp w1 ew1
  refine lv_aload_n hx hb dX10_readAll_5 rfl (lv_at hl 0 rfl) ?_
  refine lv_iconst (v := 0) hx hb dX10_readAll_6 (by decide) ?_
  refine hp_puti (ci := 10) (ty := .int) (x := 0) hx hb hts ix_X10_readAll_10 tyX10 tyX10_ok nmX10 hown hK h ho (by decide) rfl 30 1030 (by decide) (hts _ lk_X10_readAll_243) (fun _ h9 => h9) rfl (by decide +kernel) rfl rfl (fun _ _ => rfl) (fun _ _ => Nat.le_of_ble_eq_true rfl) dX10_readAll_7 (fun H locs w2 ew2 h => ?_)
  have hp := hp w2 ew2
  refine lv_aload_n hx hb dX10_readAll_10 rfl (lv_at hl 0 rfl) ?_
  refine lv_iconst (v := 2) hx hb dX10_readAll_11 (by decide) ?_
  refine hp_puti (ci := 10) (ty := .int) (x := 2) hx hb hts ix_X10_readAll_10 tyX10 tyX10_ok nmX10 hown hK h ho (by decide) rfl 32 1032 (by decide) (hts _ lk_X10_readAll_238) (fun _ h9 => h9) rfl (by decide +kernel) rfl rfl (fun _ _ => rfl) (fun _ _ => Nat.le_of_ble_eq_true rfl) dX10_readAll_12 (fun H locs w3 ew3 h => ?_)
  have hp := hp w3 ew3
  refine lv_iconst (v := 0) hx hb dX10_readAll_15 (by decide) ?_
  refine lv_istore_n (lv' := [(1, .int 0), (0, .ref o)]) hx hb dX10_readAll_16 rfl hl (by decide) rfl (fun ls hl => ?_)
  obtain ⟨n15, hp⟩ := hp
  refine kL_X10_readAll_17 C o ho _ _ (fun x16 w17 H locs ls hp h hl => ?_) n15 0 w3 _ _ _ hp h (lv_sub hl [0, 1] rfl)
  refine lv_iconst (v := (-1)) hx hb dX10_readAll_24 (by decide) ?_
  exact hp_iret hx hb hr rfl hlocks hK h hp dX10_readAll_25
abbrev rmX10_rights : Room := { frames := 8, cells := 0, slots := 0, locals := 173 }
theorem ix_X10_rights_10 : ∀ w ∈ wsX100, w ∈ wsX10_rights := by decide +kernel
theorem lk_X10_rights_127 : Cond.fieldLink RX10 127 "KelpShoresModel" "thrown" "I" ∈ wsX10_rights := by decide +kernel
theorem lk_X10_rights_199 : Cond.fieldLink RX10 199 "KelpShoresModel" "taped" "I" ∈ wsX10_rights := by decide +kernel
theorem lk_X10_rights_205 : Cond.fieldLink RX10 205 "KelpShoresModel" "end" "I" ∈ wsX10_rights := by decide +kernel
theorem lk_X10_rights_211 : Cond.fieldLink RX10 211 "KelpShoresModel" "begin" "I" ∈ wsX10_rights := by decide +kernel
theorem lk_X10_rights_90 : Cond.fieldLink RX10 90 "KelpShoresModel" "faultAt" "I" ∈ wsX10_rights := by decide +kernel
theorem lk_X10_rights_243 : Cond.fieldLink RX10 243 "KelpShoresModel" "draftParts" "I" ∈ wsX10_rights := by decide +kernel
theorem lk_X10_rights_172 : Cond.fieldLink RX10 172 "KelpShoresModel" "parts" "I" ∈ wsX10_rights := by decide +kernel
theorem lk_X10_rights_238 : Cond.fieldLink RX10 238 "KelpShoresModel" "draftRest" "I" ∈ wsX10_rights := by decide +kernel
theorem lk_X10_rights_82 : Cond.fieldLink RX10 82 "KelpShoresModel" "rest" "I" ∈ wsX10_rights := by decide +kernel
theorem lk_X10_rights_76 : Cond.fieldLink RX10 76 "KelpShoresModel" "part" "[I" ∈ wsX10_rights := by decide +kernel
theorem lk_X10_rights_79 : Cond.fieldLink RX10 79 "KelpShoresModel" "draft" "[I" ∈ wsX10_rights := by decide +kernel
def wL_X10_rights_76 (z : Zt) (o : Nat) (K : Int32 → Vt → Prop) (Kx : Int32 → Int32 → Vt → Prop) : Nat → Int32 → Int32 → Vt → Prop
  | 0, _, _, _ => False
  | n + 1, x2_, x1_, w => ((5 * (vI w 1029 o)) ≤ x2_ → Kx x2_ x1_ w) ∧ (¬ (5 * (vI w 1029 o)) ≤ x2_ → ∃ b21 : Nat, zR z 1027 o = some b21 ∧ isO z 2027 b21 ∧ ∃ b22 : Nat, zR z 1028 o = some b22 ∧ isO z 2028 b22 ∧ vp_in x2_ 300 ∧ vp_in x2_ 300 ∧ ∀ w23 : Vt, w23 = uA w 2027 b21 (x2_ : Int32).toNatClampNeg (vA w 2028 b22 (x2_ : Int32).toNatClampNeg) → ∀ x24 : Int32, x24 = x2_ + 1 → wL_X10_rights_76 z o K Kx n x24 x1_ w23)
set_option maxHeartbeats 4000000 in
set_option maxRecDepth 100000 in
theorem kL_X10_rights_76 {p : Program} {l : Launch} {e : Env} {s : State} {m : MethodId} {args : Array Value} {below : List Frame} {meth : Method} {c : Code} {G : Gt} {A : Nat → Prop} {z : Zt} (C : gC p s m args meth c cX10_rights 3 RX10 wsX10_rights (some .int) G A) (o : Nat) (ho : isO z 10 o) (K : Int32 → Vt → Prop) (Kx : Int32 → Int32 → Vt → Prop) (kKx : ∀ (x2_ x1_ : Int32) (w : Vt) (H : Heap) (locs : List Loc) (ls : Array Slot), Kx x2_ x1_ w → hpH G.1 G.2.1 A s.heap z w H locs → lv_has ls 3 [(2, .int x2_), (1, .int x1_), (0, .ref o)] → W p l e (headSpec wsX10_rights rmX10_rights).room s m args below meth c H locs 0 0 (MQ below (va_Qi K (gB G A z) A) args s 0 0 A) (F0 m 104 ls [])) : ∀ (n : Nat) (x2_ x1_ : Int32) (w : Vt) (H : Heap) (locs : List Loc) (ls : Array Slot), wL_X10_rights_76 z o K Kx n x2_ x1_ w → hpH G.1 G.2.1 A s.heap z w H locs → lv_has ls 3 [(2, .int x2_), (1, .int x1_), (0, .ref o)] → W p l e (headSpec wsX10_rights rmX10_rights).room s m args below meth c H locs 0 0 (MQ below (va_Qi K (gB G A z) A) args s 0 0 A) (F0 m 76 ls []) := by
  obtain ⟨hx, hb, hr, hlocks, hml, hown, hts, hK, hA, hE⟩ := id C
  intro n
  induction n with
  | zero =>
    intro x2_ x1_ w H locs ls hp
    exact hp.elim
  | succ n ih =>
    intro x2_ x1_ w H locs ls hp h hl
    refine lv_iload_n hx hb dX10_rights_76 rfl (lv_at hl 0 rfl) ?_
    refine lv_iconst (v := 5) hx hb dX10_rights_77 (by decide) ?_
    refine lv_aload_n hx hb dX10_rights_78 rfl (lv_at hl 2 rfl) ?_
    refine hp_get (ci := 10) (v := .int (vI w 1029 o)) hx hb hts ix_X10_rights_10 hown hK h ho (by decide) rfl 29 (by decide) (hts _ lk_X10_rights_172) (fun _ h9 => h9) rfl dX10_rights_79 ?_
    refine lv_imul hx hb dX10_rights_82 ?_
    refine lv_icmp_ge (tgt := 104) hx hb dX10_rights_83 (by decide) (fun hc20 => ?_) (fun hc20 => ?_)
    · have hp := hp.1 hc20
      exact kKx x2_ x1_ w _ _ _ hp h (lv_sub hl [0, 1, 2] rfl)
    · have hp := hp.2 hc20
      refine lv_aload_n hx hb dX10_rights_86 rfl (lv_at hl 2 rfl) ?_
      obtain ⟨b21, eb21, hob21, hp⟩ := hp
      refine hp_get (ci := 10) (v := .ref b21) hx hb hts ix_X10_rights_10 hown hK h ho (by decide) rfl 27 (by decide) (hts _ lk_X10_rights_76) (fun _ h9 => h9) (by show some (va_rf (zR z 1027 o)) = some (Value.ref b21); rw [eb21]; rfl) dX10_rights_87 ?_
      refine lv_iload_n hx hb dX10_rights_90 rfl (lv_at hl 0 rfl) ?_
      refine lv_aload_n hx hb dX10_rights_91 rfl (lv_at hl 2 rfl) ?_
      obtain ⟨b22, eb22, hob22, hp⟩ := hp
      refine hp_get (ci := 10) (v := .ref b22) hx hb hts ix_X10_rights_10 hown hK h ho (by decide) rfl 28 (by decide) (hts _ lk_X10_rights_79) (fun _ h9 => h9) (by show some (va_rf (zR z 1028 o)) = some (Value.ref b22); rw [eb22]; rfl) dX10_rights_92 ?_
      refine lv_iload_n hx hb dX10_rights_95 rfl (lv_at hl 0 rfl) ?_
      refine hp_iald (t := 2028) (n := 300) hx hb hK h hob22 (by decide) (fun _ _ _ => rfl) hp.1 dX10_rights_96 ?_
      have hp := hp.2
      refine hp_iast (t := 2027) (n := 300) hx hb hK h hob21 (by decide) (fun _ _ _ => rfl) hp.1 dX10_rights_97 (fun H locs w23 ew23 h => ?_)
      have hp := hp.2 w23 ew23
      obtain ⟨x24, ex24⟩ : ∃ y : Int32, y = x2_ + 1 := ⟨_, rfl⟩
      have hp := hp x24 ex24
      refine lv_iinc (v := x24) (lv' := [(2, .int x24), (1, .int x1_), (0, .ref o)]) hx hb dX10_rights_98 hl (k := 0) rfl (by rw [ex24]; rfl) (by decide) rfl (fun ls hl => ?_)
      refine lv_goto (tgt := 76) hx hb dX10_rights_101 (by decide) ?_
      exact ih x24 x1_ w23 _ _ _ hp h (lv_sub hl [0, 1, 2] rfl)
def wp_X10_rights (z : Zt) (o : Nat) (w : Vt) (K : Int32 → Vt → Prop) : Prop := isO z 10 o ∧ ∀ w1 : Vt, w1 = uI w 1000 o 0 → ∀ w2 : Vt, w2 = uI w1 1036 o (vI w1 1034 o) → ∀ w3 : Vt, w3 = uI w2 1034 o 0 → wp_X10_readAll z o w3 (fun r5 w4 => ∃ J6 : Int32 → Vt → Prop, (∀ (x7 : Int32) (w8 : Vt), J6 x7 w8 → ∀ w10 : Vt, w10 = uI w8 1038 o x7 → ∃ J11 : Int32 → Vt → Prop, (∀ (x12 : Int32) (w13 : Vt), J11 x12 w13 → wp_X10_throwsIf z o x12 1 w13 (fun r16 w15 => (r16 = 0 → ∀ w18 : Vt, w18 = uI w15 1029 o (vI w15 1030 o) → ∀ w19 : Vt, w19 = uI w18 1031 o (vI w18 1032 o) → ∃ n25 : Nat, wL_X10_rights_76 z o K (fun x26 x27 w28 => K x27 w28) n25 0 r5 w19) ∧ (¬ r16 = 0 → K 0 w15))) ∧ (0 ≤ r5 → J11 0 w10) ∧ (¬ 0 ≤ r5 → J11 1 w10)) ∧ (0 ≤ r5 → J6 (-1) w4) ∧ (¬ 0 ≤ r5 → J6 (vI w4 1037 o) w4))
set_option maxHeartbeats 4000000 in
set_option maxRecDepth 100000 in
theorem k_X10_rights (l : Launch) (G : Gt) (z : Zt) (w : Vt) (sz : Nat) (o : Nat) (K : Int32 → Vt → Prop) (hp : wp_X10_rights z o w K) : MI l yX10_rights wsX10_rights rmX10_rights G z w sz [.ref o] K := by
  refine Met.ofW (cc := cX10_rights) (maxL := 3) (ret := (some .int)) (by decide +kernel) rfl ?_
  intro p e s m args below meth c s₁ B hml hv
  obtain ⟨rfl, rfl, C, h⟩ := hp_start B hml hv
  generalize gA G z w s.heap.size = A at C h ⊢
  obtain ⟨hx, hb, hr, hlocks, hml, hown, hts, hK, hA, hE⟩ := id C
  obtain ⟨ho, hp⟩ := hp
  have hl := lv_entry ([.ref o]) (n := 3) (Nat.le_of_ble_eq_true rfl)
  rw [lg_entry_eq]
  generalize (lg_sl ([.ref o]) ++ List.replicate (3 - (lg_sl ([.ref o])).length) Slot.unset).toArray = ls at hl ⊢
  have hl : lv_has ls 3 [(0, .ref o)] := hl
  refine lv_aload_n hx hb dX10_rights_0 rfl (lv_at hl 0 rfl) ?_
  refine lv_iconst (v := 0) hx hb dX10_rights_1 (by decide) ?_
  refine hp_puti (ci := 10) (ty := .int) (x := 0) hx hb hts ix_X10_rights_10 tyX10 tyX10_ok nmX10 hown hK h ho (by decide) rfl 0 1000 (by decide) (hts _ lk_X10_rights_127) (fun _ h9 => h9) rfl (by decide +kernel) rfl rfl (fun _ _ => rfl) (fun _ _ => Nat.le_of_ble_eq_true rfl) dX10_rights_2 (fun H locs w1 ew1 h => ?_)
  have hp := hp w1 ew1
  refine lv_aload_n hx hb dX10_rights_5 rfl (lv_at hl 0 rfl) ?_
  refine lv_aload_n hx hb dX10_rights_6 rfl (lv_at hl 0 rfl) ?_
  refine hp_get (ci := 10) (v := .int (vI w1 1034 o)) hx hb hts ix_X10_rights_10 hown hK h ho (by decide) rfl 34 (by decide) (hts _ lk_X10_rights_199) (fun _ h9 => h9) rfl dX10_rights_7 ?_
  refine hp_puti (ci := 10) (ty := .int) (x := vI w1 1034 o) hx hb hts ix_X10_rights_10 tyX10 tyX10_ok nmX10 hown hK h ho (by decide) rfl 36 1036 (by decide) (hts _ lk_X10_rights_205) (fun _ h9 => h9) rfl (by decide +kernel) rfl rfl (fun _ _ => rfl) (fun _ _ => Nat.le_of_ble_eq_true rfl) dX10_rights_10 (fun H locs w2 ew2 h => ?_)
  have hp := hp w2 ew2
  refine lv_aload_n hx hb dX10_rights_13 rfl (lv_at hl 0 rfl) ?_
  refine lv_iconst (v := 0) hx hb dX10_rights_14 (by decide) ?_
  refine hp_puti (ci := 10) (ty := .int) (x := 0) hx hb hts ix_X10_rights_10 tyX10 tyX10_ok nmX10 hown hK h ho (by decide) rfl 34 1034 (by decide) (hts _ lk_X10_rights_199) (fun _ h9 => h9) rfl (by decide +kernel) rfl rfl (fun _ _ => rfl) (fun _ _ => Nat.le_of_ble_eq_true rfl) dX10_rights_15 (fun H locs w3 ew3 h => ?_)
  have hp := hp w3 ew3
  refine lv_aload_n hx hb dX10_rights_18 rfl (lv_at hl 0 rfl) ?_
  refine hp_cVi ⟨hx, hb, hml, hown, hts⟩ (k_X10_readAll l G z w3 _ o _ hp) (cwV 0 hts gX10_rights_X10_readAll rfl rfl rfl (by decide +kernel) ⟨Nat.le_of_ble_eq_true rfl, Nat.le_of_ble_eq_true rfl⟩) ho (by decide) rfl hK h hA hE rfl hl.1 rfl (Nat.le_of_ble_eq_true rfl) dX10_rights_19 ⟨Nat.le_of_ble_eq_true rfl, Nat.le_of_ble_eq_true rfl⟩ (fun r5 w4 H locs hp h => ?_)
  refine lv_istore_n (lv' := [(1, .int r5), (0, .ref o)]) hx hb dX10_rights_22 rfl hl (by decide) rfl (fun ls hl => ?_)
  refine lv_aload_n hx hb dX10_rights_23 rfl (lv_at hl 1 rfl) ?_
  refine lv_iload_n hx hb dX10_rights_24 rfl (lv_at hl 0 rfl) ?_
  obtain ⟨J6, jJ6, hp⟩ := hp
  refine hp_jn1 (G := G) (A := A) (z := z) (J := J6) (nL := 3) (j := 36) (lvf := fun x7 => [(1, .int r5), (0, .ref o)]) (stf := fun x7 => [.int x7, .ref o]) (fun kJ6 => ?_) (fun x7 w8 H locs ls hp h hl => ?_)
  · refine lv_if_ge (tgt := 35) hx hb dX10_rights_25 (by decide) (fun hc9 => ?_) (fun hc9 => ?_)
    · have hp := hp.1 hc9
      refine lv_iconst (v := (-1)) hx hb dX10_rights_35 (by decide) ?_
      exact kJ6 (-1) w4 _ _ _ hp h (lv_sub hl [0, 1] rfl)
    · have hp := hp.2 hc9
      refine lv_aload_n hx hb dX10_rights_28 rfl (lv_at hl 1 rfl) ?_
      refine hp_get (ci := 10) (v := .int (vI w4 1037 o)) hx hb hts ix_X10_rights_10 hown hK h ho (by decide) rfl 37 (by decide) (hts _ lk_X10_rights_211) (fun _ h9 => h9) rfl dX10_rights_29 ?_
      refine lv_goto (tgt := 36) hx hb dX10_rights_32 (by decide) ?_
      exact kJ6 (vI w4 1037 o) w4 _ _ _ hp h (lv_sub hl [0, 1] rfl)
  have hp := jJ6 x7 w8 hp
  refine hp_puti (ci := 10) (ty := .int) (x := x7) hx hb hts ix_X10_rights_10 tyX10 tyX10_ok nmX10 hown hK h ho (by decide) rfl 38 1038 (by decide) (hts _ lk_X10_rights_90) (fun _ h9 => h9) rfl (by decide +kernel) rfl rfl (fun _ _ => rfl) (fun _ _ => Nat.le_of_ble_eq_true rfl) dX10_rights_36 (fun H locs w10 ew10 h => ?_)
  have hp := hp w10 ew10
  refine lv_aload_n hx hb dX10_rights_39 rfl (lv_at hl 1 rfl) ?_
  refine lv_iload_n hx hb dX10_rights_40 rfl (lv_at hl 0 rfl) ?_
  obtain ⟨J11, jJ11, hp⟩ := hp
  refine hp_jn1 (G := G) (A := A) (z := z) (J := J11) (nL := 3) (j := 49) (lvf := fun x12 => [(1, .int r5), (0, .ref o)]) (stf := fun x12 => [.int x12, .ref o]) (fun kJ11 => ?_) (fun x12 w13 H locs ls hp h hl => ?_)
  · refine lv_if_ge (tgt := 48) hx hb dX10_rights_41 (by decide) (fun hc14 => ?_) (fun hc14 => ?_)
    · have hp := hp.1 hc14
      refine lv_iconst (v := 0) hx hb dX10_rights_48 (by decide) ?_
      exact kJ11 0 w10 _ _ _ hp h (lv_sub hl [0, 1] rfl)
    · have hp := hp.2 hc14
      refine lv_iconst (v := 1) hx hb dX10_rights_44 (by decide) ?_
      refine lv_goto (tgt := 49) hx hb dX10_rights_45 (by decide) ?_
      exact kJ11 1 w10 _ _ _ hp h (lv_sub hl [0, 1] rfl)
  have hp := jJ11 x12 w13 hp
  refine lv_iconst (v := 1) hx hb dX10_rights_49 (by decide) ?_
  refine hp_cVi ⟨hx, hb, hml, hown, hts⟩ (k_X10_throwsIf l G z w13 _ o x12 1 _ hp) (cwV 2 hts gX10_rights_X10_throwsIf rfl rfl rfl (by decide +kernel) ⟨Nat.le_of_ble_eq_true rfl, Nat.le_of_ble_eq_true rfl⟩) ho (by decide) rfl hK h hA hE rfl hl.1 rfl (Nat.le_of_ble_eq_true rfl) dX10_rights_50 ⟨Nat.le_of_ble_eq_true rfl, Nat.le_of_ble_eq_true rfl⟩ (fun r16 w15 H locs hp h => ?_)
  refine lv_if_eq (tgt := 58) hx hb dX10_rights_53 (by decide) (fun hc17 => ?_) (fun hc17 => ?_)
  · have hp := hp.1 hc17
    refine lv_aload_n hx hb dX10_rights_58 rfl (lv_at hl 1 rfl) ?_
    refine lv_aload_n hx hb dX10_rights_59 rfl (lv_at hl 1 rfl) ?_
    refine hp_get (ci := 10) (v := .int (vI w15 1030 o)) hx hb hts ix_X10_rights_10 hown hK h ho (by decide) rfl 30 (by decide) (hts _ lk_X10_rights_243) (fun _ h9 => h9) rfl dX10_rights_60 ?_
    refine hp_puti (ci := 10) (ty := .int) (x := vI w15 1030 o) hx hb hts ix_X10_rights_10 tyX10 tyX10_ok nmX10 hown hK h ho (by decide) rfl 29 1029 (by decide) (hts _ lk_X10_rights_172) (fun _ h9 => h9) rfl (by decide +kernel) rfl rfl (fun _ _ => rfl) (fun _ _ => Nat.le_of_ble_eq_true rfl) dX10_rights_63 (fun H locs w18 ew18 h => ?_)
    have hp := hp w18 ew18
    refine lv_aload_n hx hb dX10_rights_66 rfl (lv_at hl 1 rfl) ?_
    refine lv_aload_n hx hb dX10_rights_67 rfl (lv_at hl 1 rfl) ?_
    refine hp_get (ci := 10) (v := .int (vI w18 1032 o)) hx hb hts ix_X10_rights_10 hown hK h ho (by decide) rfl 32 (by decide) (hts _ lk_X10_rights_238) (fun _ h9 => h9) rfl dX10_rights_68 ?_
    refine hp_puti (ci := 10) (ty := .int) (x := vI w18 1032 o) hx hb hts ix_X10_rights_10 tyX10 tyX10_ok nmX10 hown hK h ho (by decide) rfl 31 1031 (by decide) (hts _ lk_X10_rights_82) (fun _ h9 => h9) rfl (by decide +kernel) rfl rfl (fun _ _ => rfl) (fun _ _ => Nat.le_of_ble_eq_true rfl) dX10_rights_71 (fun H locs w19 ew19 h => ?_)
    have hp := hp w19 ew19
    refine lv_iconst (v := 0) hx hb dX10_rights_74 (by decide) ?_
    refine lv_istore_n (lv' := [(2, .int 0), (1, .int r5), (0, .ref o)]) hx hb dX10_rights_75 rfl hl (by decide) rfl (fun ls hl => ?_)
    obtain ⟨n25, hp⟩ := hp
    refine kL_X10_rights_76 C o ho _ _ (fun x26 x27 w28 H locs ls hp h hl => ?_) n25 0 r5 w19 _ _ _ hp h (lv_sub hl [0, 1, 2] rfl)
    refine lv_iload_n hx hb dX10_rights_104 rfl (lv_at hl 1 rfl) ?_
    exact hp_iret hx hb hr rfl hlocks hK h hp dX10_rights_105
  · have hp := hp.2 hc17
    refine lv_iconst (v := 0) hx hb dX10_rights_56 (by decide) ?_
    exact hp_iret hx hb hr rfl hlocks hK h hp dX10_rights_57
