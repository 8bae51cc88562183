section HPZ
variable {p : Program} {l : Launch} {e : Env} {R : Room} {s : State} {m : MethodId} {args : Array Value} {below : List Frame} {meth : Method} {c : Code} {H : Heap} {locs : List Loc} {cells slots : Nat} {Q : State → Prop}
variable {cc : ByteArray} {pc : Nat} {ls : Array Slot} {rest : List Value} {D : va_G} {ac : Nat → ClassId} {A : Nat → Prop} {a a0 : Nat} {z : Zt} {w : Vt} {H0 : Heap}
/-- System.arraycopy from one row of ints to another -/
theorem hp_copy (hx : p.tables.exec = Jvm.exec) (hb : c.code = cc) (hml : c.maxLocals = ls.size) {own : String} {index : Nat} (hown : s.vm.findClass own = some m.cls) (hlink : (Cond.methodLink own index arraycopyName).before args s = true) (hnat : (Cond.native arraycopyName).before args s = true) (hstat : (Cond.static arraycopyName).before args s = true) (hini : (Cond.initialized "java/lang/System").before args s = true) (hK : va_K D vwCl (aT ac) s) (h : hpH D ac A H0 z w H locs)
    {t0 t1 n0 n1 : Nat} (ho0 : isO z t0 a0) (ho1 : isO z t1 a) (ht0 : ¬ t0 < 11) (ht1 : ¬ t1 < 11) (hk0 : ∀ f o g, hpA ac t0 f o g = .inl (ac 1, n0, .inl f)) (hk1 : ∀ f o g, hpA ac t1 f o g = .inl (ac 1, n1, .inl f)) {sp dp n : Int32} (h1 : ¬ sp < 0) (h2 : ¬ dp < 0) (h3 : ¬ n < 0) (h4 : sp.toNatClampNeg + n.toNatClampNeg ≤ n0) (h5 : dp.toNatClampNeg + n.toNatClampNeg ≤ n1)
    (hframes : 1 ≤ R.frames) (hlocals : (rest.map fun v => v.category).sum + (nativeFrameWords "java/lang/System" "arraycopy" 5 + 11) ≤ R.locals) (hdg : decode cc pc = .ok (.invokestatic index, 3))
    (kk : ∀ (H1 : Heap) (locs1 : List Loc) (w1 : Vt), w1 = uF w t1 a (va_cpy (vA w t0 a0) (vA w t1 a) sp.toNatClampNeg dp.toNatClampNeg n.toNatClampNeg) → hpH D ac A H0 z w1 H1 locs1 → W p l e R s m args below meth c H1 locs1 cells slots Q (F0 m (pc + 3) ls rest)) : W p l e R s m args below meth c H locs cells slots Q (F0 m pc ls (.int n :: .int dp :: .ref a :: .int sp :: .ref a0 :: rest)) := by
  obtain ⟨q0, -, hq0⟩ := hp_arr (ac := ac) (w := w) ho0 (hk0 _ _ _) ht0
  obtain ⟨q1, hq1, hq⟩ := hp_arr (ac := ac) (w := w) ho1 (hk1 _ _ _) ht1
  refine va_copyi hx hb hml hown hlink hnat hstat hini hK h.1 h.2.1 h.2.2 q0 q1 1 1 (ty := .int) hq0 hq rfl rfl rfl h1 h2 h3 h4 h5 (fun _ _ => rfl) hframes hlocals hdg (fun H1 locs1 hP hD hS => kk H1 locs1 _ rfl ?_)
  have e : (hpW ac z w).set q1 (a, .inl (ac 1, n1, .inl (va_cpy (vA w t0 a0) (vA w t1 a) sp.toNatClampNeg dp.toNatClampNeg n.toNatClampNeg))) = hpW ac z (uF w t1 a (va_cpy (vA w t0 a0) (vA w t1 a) sp.toNatClampNeg dp.toNatClampNeg n.toNatClampNeg)) := hp_set h.2.1 ho1.1 hq1 (fun b hb => hpE_uF hb) (by rw [hpE_a ho1 ht1, hk1, vA_uF]; simp)
  rw [e] at hP hD
  exact ⟨hP, hD, hS⟩
end HPZ
abbrev rmJ7_fill_53178 : Room := { frames := 0, cells := 0, slots := 0, locals := 0 }
def wL_J7_fill_53178_5 (z : Zt) (p0 : Nat) (K : Vt → Prop) (Kx : Int32 → Int32 → Int32 → Vt → Prop) : Nat → Int32 → Int32 → Int32 → Vt → Prop
  | 0, _, _, _, _ => False
  | n + 1, x3_, x2_, x1_, w => (x3_ ≤ x2_ → Kx x3_ x2_ x1_ w) ∧ (¬ x3_ ≤ x2_ → vp_in x2_ 17 ∧ ∀ w2 : Vt, w2 = uA w 1104 p0 (x2_ : Int32).toNatClampNeg x1_ → ∀ x3 : Int32, x3 = x2_ + 1 → wL_J7_fill_53178_5 z p0 K Kx n x3_ x3 x1_ w2)
set_option maxHeartbeats 4000000 in
set_option maxRecDepth 100000 in
theorem kL_J7_fill_53178_5 {p : Program} {l : Launch} {e : Env} {s : State} {m : MethodId} {args : Array Value} {below : List Frame} {meth : Method} {c : Code} {G : Gt} {A : Nat → Prop} {z : Zt} (C : gC p s m args meth c cJ7_fill_53178 4 RJ7 wsJ7_fill_53178 none G A) (p0 : Nat) (hop0 : isO z 1104 p0) (K : Vt → Prop) (Kx : Int32 → Int32 → Int32 → Vt → Prop) (kKx : ∀ (x3_ x2_ x1_ : Int32) (w : Vt) (H : Heap) (locs : List Loc) (ls : Array Slot), Kx x3_ x2_ x1_ w → hpH G.1 G.2.1 A s.heap z w H locs → lv_has ls 4 [(3, .int x3_), (2, .int x2_), (0, .ref p0), (1, .int x1_)] → W p l e (headSpec wsJ7_fill_53178 rmJ7_fill_53178).room s m args below meth c H locs 0 0 (MQ below (va_Qv K (gB G A z) A) args s 0 0 A) (F0 m 20 ls [])) : ∀ (n : Nat) (x3_ x2_ x1_ : Int32) (w : Vt) (H : Heap) (locs : List Loc) (ls : Array Slot), wL_J7_fill_53178_5 z p0 K Kx n x3_ x2_ x1_ w → hpH G.1 G.2.1 A s.heap z w H locs → lv_has ls 4 [(3, .int x3_), (2, .int x2_), (0, .ref p0), (1, .int x1_)] → W p l e (headSpec wsJ7_fill_53178 rmJ7_fill_53178).room s m args below meth c H locs 0 0 (MQ below (va_Qv K (gB G A z) A) args s 0 0 A) (F0 m 5 ls []) := by
  obtain ⟨hx, hb, hr, hlocks, hml, hown, hts, hK, hA, hE⟩ := id C
  intro n
  induction n with
  | zero =>
    intro x3_ x2_ x1_ w H locs ls hp
    exact hp.elim
  | succ n ih =>
    intro x3_ x2_ x1_ w H locs ls hp h hl
    refine lv_iload_n hx hb dJ7_fill_53178_5 rfl (lv_at hl 1 rfl) ?_
    refine lv_iload_n hx hb dJ7_fill_53178_6 rfl (lv_at hl 0 rfl) ?_
    refine lv_icmp_ge (tgt := 20) hx hb dJ7_fill_53178_7 (by decide) (fun hc1 => ?_) (fun hc1 => ?_)
    · have hp := hp.1 hc1
      exact kKx x3_ x2_ x1_ w _ _ _ hp h (lv_sub hl [0, 1, 2, 3] rfl)
    · have hp := hp.2 hc1
      refine lv_aload_n hx hb dJ7_fill_53178_10 rfl (lv_at hl 2 rfl) ?_
      refine lv_iload_n hx hb dJ7_fill_53178_11 rfl (lv_at hl 1 rfl) ?_
      refine lv_iload_n hx hb dJ7_fill_53178_12 rfl (lv_at hl 3 rfl) ?_
      refine hp_iast (t := 1104) (n := 17) hx hb hK h hop0 (by decide) (fun _ _ _ => rfl) hp.1 dJ7_fill_53178_13 (fun H locs w2 ew2 h => ?_)
      have hp := hp.2 w2 ew2
      obtain ⟨x3, ex3⟩ : ∃ y : Int32, y = x2_ + 1 := ⟨_, rfl⟩
      have hp := hp x3 ex3
      refine lv_iinc (v := x3) (lv' := [(2, .int x3), (3, .int x3_), (0, .ref p0), (1, .int x1_)]) hx hb dJ7_fill_53178_14 hl (k := 1) rfl (by rw [ex3]; rfl) (by decide) rfl (fun ls hl => ?_)
      refine lv_goto (tgt := 5) hx hb dJ7_fill_53178_17 (by decide) ?_
      exact ih x3_ x3 x1_ w2 _ _ _ hp h (lv_sub hl [1, 0, 2, 3] rfl)
def wp_J7_fill_53178 (z : Zt) (p0 : Nat) (p1 : Int32) (w : Vt) (K : Vt → Prop) : Prop := isO z 1104 p0 ∧ ∃ n4 : Nat, wL_J7_fill_53178_5 z p0 K (fun x5 x6 x7 w8 => K w8) n4 17 0 p1 w
set_option maxHeartbeats 4000000 in
set_option maxRecDepth 100000 in
theorem k_J7_fill_53178 (l : Launch) (G : Gt) (z : Zt) (w : Vt) (sz : Nat) (p0 : Nat) (p1 : Int32) (K : Vt → Prop) (hp : wp_J7_fill_53178 z p0 p1 w K) : MV l yJ7_fill_53178 wsJ7_fill_53178 rmJ7_fill_53178 G z w sz [.ref p0, .int p1] K := by
  refine Met.ofW (cc := cJ7_fill_53178) (maxL := 4) (ret := none) (by decide +kernel) rfl ?_
  intro p e s m args below meth c s₁ B hml hv
  obtain ⟨rfl, rfl, C, h⟩ := hp_start B hml hv
  generalize gA G z w s.heap.size = A at C h ⊢
  obtain ⟨hx, hb, hr, hlocks, hml, hown, hts, hK, hA, hE⟩ := id C
  obtain ⟨hop0, hp⟩ := hp
  have hl := lv_entry ([.ref p0, .int p1]) (n := 4) (Nat.le_of_ble_eq_true rfl)
  rw [lg_entry_eq]
  generalize (lg_sl ([.ref p0, .int p1]) ++ List.replicate (4 - (lg_sl ([.ref p0, .int p1])).length) Slot.unset).toArray = ls at hl ⊢
  have hl : lv_has ls 4 [(0, .ref p0), (1, .int p1)] := hl
  refine lv_iconst (v := 0) hx hb dJ7_fill_53178_0 (by decide) ?_
  refine lv_istore_n (lv' := [(2, .int 0), (0, .ref p0), (1, .int p1)]) hx hb dJ7_fill_53178_1 rfl hl (by decide) rfl (fun ls hl => ?_)
  refine lv_aload_n hx hb dJ7_fill_53178_2 rfl (lv_at hl 1 rfl) ?_
  refine hp_alen (t := 1104) (n := 17) hx hb hK h 1 rfl hop0 (by decide) (fun _ _ _ => ⟨_, rfl, rfl⟩) (v := 17) (by decide) dJ7_fill_53178_3 ?_
  refine lv_istore_n (lv' := [(3, .int 17), (2, .int 0), (0, .ref p0), (1, .int p1)]) hx hb dJ7_fill_53178_4 rfl hl (by decide) rfl (fun ls hl => ?_)
  obtain ⟨n4, hp⟩ := hp
  refine kL_J7_fill_53178_5 C p0 hop0 _ _ (fun x5 x6 x7 w8 H locs ls hp h hl => ?_) n4 17 0 p1 w _ _ _ hp h (lv_sub hl [0, 1, 2, 3] rfl)
  exact hp_vret hx hb hr hlocks hK h hp dJ7_fill_53178_20
abbrev rmX1_mostBurnt : Room := { frames := 2, cells := 0, slots := 0, locals := 120 }
theorem ix_X1_mostBurnt_1 : ∀ w ∈ wsX10, w ∈ wsX1_mostBurnt := by decide +kernel
theorem lk_X1_mostBurnt_21 : Cond.fieldLink RX1 21 "KelpShores$Forecast" "mostDry" "[I" ∈ wsX1_mostBurnt := by decide +kernel
theorem lk_X1_mostBurnt_28 : Cond.fieldLink RX1 28 "KelpShores$Forecast" "days" "I" ∈ wsX1_mostBurnt := by decide +kernel
theorem wd_X1_mostBurnt_l46 : Cond.methodLink RX1 46 Lib.Math.max.name ∈ wsX1_mostBurnt := by decide +kernel
theorem wd_X1_mostBurnt_smax : Cond.static Lib.Math.max.name ∈ wsX1_mostBurnt := by decide +kernel
theorem wd_X1_mostBurnt_iM : Cond.initialized "java/lang/Math" ∈ wsX1_mostBurnt := by decide +kernel
theorem wd_X1_mostBurnt_kmax : Cond.code Lib.Math.max.name Lib.Math.max.code 2 (some .int) ∈ wsX1_mostBurnt := by decide +kernel
theorem lk_X1_mostBurnt_25 : Cond.fieldLink RX1 25 "KelpShores$Forecast" "dayBefore" "[I" ∈ wsX1_mostBurnt := by decide +kernel
theorem wd_X1_mostBurnt_l52 : Cond.methodLink RX1 52 arraycopyName ∈ wsX1_mostBurnt := by decide +kernel
theorem wd_X1_mostBurnt_nat : Cond.native arraycopyName ∈ wsX1_mostBurnt := by decide +kernel
theorem wd_X1_mostBurnt_sac : Cond.static arraycopyName ∈ wsX1_mostBurnt := by decide +kernel
theorem wd_X1_mostBurnt_iS : Cond.initialized "java/lang/System" ∈ wsX1_mostBurnt := by decide +kernel
theorem lk_X1_mostBurnt_9 : Cond.fieldLink RX1 9 "KelpShores$Forecast" "low" "[Z" ∈ wsX1_mostBurnt := by decide +kernel
theorem lk_X1_mostBurnt_15 : Cond.fieldLink RX1 15 "KelpShores$Forecast" "windy" "[Z" ∈ wsX1_mostBurnt := by decide +kernel
def wL_X1_mostBurnt_19 (z : Zt) (o : Nat) (K : Int32 → Vt → Prop) (Kx : Int32 → Int32 → Vt → Prop) : Nat → Int32 → Int32 → Vt → Prop
  | 0, _, _, _ => False
  | n + 1, x2_, x1_, w => ((vI w 103 o) ≤ x2_ → Kx x2_ x1_ w) ∧ (¬ (vI w 103 o) ≤ x2_ → (16 ≤ x2_ → Kx x2_ x1_ w) ∧ (¬ 16 ≤ x2_ → wp_X1_isFair z o x2_ w (fun r8 w7 => ∃ J9 : Int32 → Vt → Prop, (∀ (x10 : Int32) (w11 : Vt), J9 x10 w11 → ∃ b22 : Nat, zR z 104 o = some b22 ∧ isO z 1104 b22 ∧ ∃ b23 : Nat, zR z 105 o = some b23 ∧ isO z 1105 b23 ∧ ∀ w24 : Vt, w24 = uF w11 1105 b23 (va_cpy (vA w11 1104 b22) (vA w11 1105 b23) (0 : Int32).toNatClampNeg (0 : Int32).toNatClampNeg (17 : Int32).toNatClampNeg) → ∃ b25 : Nat, zR z 100 o = some b25 ∧ isO z 1100 b25 ∧ vp_in x2_ 16 ∧ ∃ J26 : Vt → Prop, (∀ (w27 : Vt), J26 w27 → ∃ b31 : Nat, zR z 101 o = some b31 ∧ isO z 1101 b31 ∧ vp_in x2_ 16 ∧ ((vA w27 1101 b31 (x2_ : Int32).toNatClampNeg) = 0 → ∀ x33 : Int32, x33 = x2_ + 1 → wL_X1_mostBurnt_19 z o K Kx n x33 x10 w27) ∧ (¬ (vA w27 1101 b31 (x2_ : Int32).toNatClampNeg) = 0 → wp_X1_isFair z o x2_ w27 (fun r35 w34 => (r35 = 0 → ∀ x37 : Int32, x37 = x2_ + 1 → wL_X1_mostBurnt_19 z o K Kx n x37 x10 w34) ∧ (¬ r35 = 0 → wp_X1_weighDrying z o w34 (fun w38 => ∀ x40 : Int32, x40 = x2_ + 1 → wL_X1_mostBurnt_19 z o K Kx n x40 x10 w38))))) ∧ ((vA w24 1100 b25 (x2_ : Int32).toNatClampNeg) = 0 → J26 w24) ∧ (¬ (vA w24 1100 b25 (x2_ : Int32).toNatClampNeg) = 0 → wp_X1_weighCutting z o w24 (fun w29 => J26 w29))) ∧ (r8 = 0 → J9 x1_ w7) ∧ (¬ r8 = 0 → wp_X1_isFair z o (x2_ + 1) w7 (fun r14 w13 => (r14 = 0 → J9 x1_ w13) ∧ (¬ r14 = 0 → wp_X1_isFair z o (x2_ + 2) w13 (fun r17 w16 => (r17 = 0 → J9 x1_ w16) ∧ (¬ r17 = 0 → wp_X1_greatestDry z o w16 (fun r20 w19 => ∀ x21 : Int32, x21 = (if x1_ < r20 then r20 else x1_) → J9 x21 w19)))))))))
set_option maxHeartbeats 4000000 in
set_option maxRecDepth 100000 in
theorem kL_X1_mostBurnt_19 {p : Program} {l : Launch} {e : Env} {s : State} {m : MethodId} {args : Array Value} {below : List Frame} {meth : Method} {c : Code} {G : Gt} {A : Nat → Prop} {z : Zt} (C : gC p s m args meth c cX1_mostBurnt 3 RX1 wsX1_mostBurnt (some .int) G A) (o : Nat) (ho : isO z 1 o) (K : Int32 → Vt → Prop) (Kx : Int32 → Int32 → Vt → Prop) (kKx : ∀ (x2_ x1_ : Int32) (w : Vt) (H : Heap) (locs : List Loc) (ls : Array Slot), Kx x2_ x1_ w → hpH G.1 G.2.1 A s.heap z w H locs → lv_has ls 3 [(2, .int x2_), (1, .int x1_), (0, .ref o)] → W p l e (headSpec wsX1_mostBurnt rmX1_mostBurnt).room s m args below meth c H locs 0 0 (MQ below (va_Qi K (gB G A z) A) args s 0 0 A) (F0 m 128 ls [])) : ∀ (n : Nat) (x2_ x1_ : Int32) (w : Vt) (H : Heap) (locs : List Loc) (ls : Array Slot), wL_X1_mostBurnt_19 z o K Kx n x2_ x1_ w → hpH G.1 G.2.1 A s.heap z w H locs → lv_has ls 3 [(2, .int x2_), (1, .int x1_), (0, .ref o)] → W p l e (headSpec wsX1_mostBurnt rmX1_mostBurnt).room s m args below meth c H locs 0 0 (MQ below (va_Qi K (gB G A z) A) args s 0 0 A) (F0 m 19 ls []) := by
  obtain ⟨hx, hb, hr, hlocks, hml, hown, hts, hK, hA, hE⟩ := id C
  intro n
  induction n with
  | zero =>
    intro x2_ x1_ w H locs ls hp
    exact hp.elim
  | succ n ih =>
    intro x2_ x1_ w H locs ls hp h hl
    refine lv_iload_n hx hb dX1_mostBurnt_19 rfl (lv_at hl 0 rfl) ?_
    refine lv_aload_n hx hb dX1_mostBurnt_20 rfl (lv_at hl 2 rfl) ?_
    refine hp_get (ci := 1) (v := .int (vI w 103 o)) hx hb hts ix_X1_mostBurnt_1 hown hK h ho (by decide) rfl 3 (by decide) (hts _ lk_X1_mostBurnt_28) (fun _ h9 => h9) rfl dX1_mostBurnt_21 ?_
    refine lv_icmp_ge (tgt := 128) hx hb dX1_mostBurnt_24 (by decide) (fun hc5 => ?_) (fun hc5 => ?_)
    · have hp := hp.1 hc5
      exact kKx x2_ x1_ w _ _ _ hp h (lv_sub hl [0, 1, 2] rfl)
    · have hp := hp.2 hc5
      refine lv_iload_n hx hb dX1_mostBurnt_27 rfl (lv_at hl 0 rfl) ?_
      refine lv_bipush (v := 16) hx hb dX1_mostBurnt_28 (by decide) ?_
      refine lv_icmp_ge (tgt := 128) hx hb dX1_mostBurnt_30 (by decide) (fun hc6 => ?_) (fun hc6 => ?_)
      · have hp := hp.1 hc6
        exact kKx x2_ x1_ w _ _ _ hp h (lv_sub hl [0, 1, 2] rfl)
      · have hp := hp.2 hc6
        refine lv_aload_n hx hb dX1_mostBurnt_33 rfl (lv_at hl 2 rfl) ?_
        refine lv_iload_n hx hb dX1_mostBurnt_34 rfl (lv_at hl 0 rfl) ?_
        refine hp_cVi ⟨hx, hb, hml, hown, hts⟩ (k_X1_isFair l G z w _ o x2_ _ hp) (cwV 1 hts gX1_mostBurnt_X1_isFair rfl rfl rfl (by decide +kernel) ⟨Nat.le_of_ble_eq_true rfl, Nat.le_of_ble_eq_true rfl⟩) ho (by decide) rfl hK h hA hE rfl hl.1 rfl (Nat.le_of_ble_eq_true rfl) dX1_mostBurnt_35 ⟨Nat.le_of_ble_eq_true rfl, Nat.le_of_ble_eq_true rfl⟩ (fun r8 w7 H locs hp h => ?_)
        obtain ⟨J9, jJ9, hp⟩ := hp
        refine hp_jn1 (G := G) (A := A) (z := z) (J := J9) (nL := 3) (j := 70) (lvf := fun x10 => [(2, .int x2_), (1, .int x10), (0, .ref o)]) (stf := fun x10 => []) (fun kJ9 => ?_) (fun x10 w11 H locs ls hp h hl => ?_)
        · refine lv_if_eq (tgt := 70) hx hb dX1_mostBurnt_38 (by decide) (fun hc12 => ?_) (fun hc12 => ?_)
          · have hp := hp.1 hc12
            exact kJ9 x1_ w7 _ _ _ hp h (lv_sub hl [0, 1, 2] rfl)
          · have hp := hp.2 hc12
            refine lv_aload_n hx hb dX1_mostBurnt_41 rfl (lv_at hl 2 rfl) ?_
            refine lv_iload_n hx hb dX1_mostBurnt_42 rfl (lv_at hl 0 rfl) ?_
            refine lv_iconst (v := 1) hx hb dX1_mostBurnt_43 (by decide) ?_
            refine lv_iadd hx hb dX1_mostBurnt_44 ?_
            refine hp_cVi ⟨hx, hb, hml, hown, hts⟩ (k_X1_isFair l G z w7 _ o (x2_ + 1) _ hp) (cwV 1 hts gX1_mostBurnt_X1_isFair rfl rfl rfl (by decide +kernel) ⟨Nat.le_of_ble_eq_true rfl, Nat.le_of_ble_eq_true rfl⟩) ho (by decide) rfl hK h hA hE rfl hl.1 rfl (Nat.le_of_ble_eq_true rfl) dX1_mostBurnt_45 ⟨Nat.le_of_ble_eq_true rfl, Nat.le_of_ble_eq_true rfl⟩ (fun r14 w13 H locs hp h => ?_)
            refine lv_if_eq (tgt := 70) hx hb dX1_mostBurnt_48 (by decide) (fun hc15 => ?_) (fun hc15 => ?_)
            · have hp := hp.1 hc15
              exact kJ9 x1_ w13 _ _ _ hp h (lv_sub hl [0, 1, 2] rfl)
            · have hp := hp.2 hc15
              refine lv_aload_n hx hb dX1_mostBurnt_51 rfl (lv_at hl 2 rfl) ?_
              refine lv_iload_n hx hb dX1_mostBurnt_52 rfl (lv_at hl 0 rfl) ?_
              refine lv_iconst (v := 2) hx hb dX1_mostBurnt_53 (by decide) ?_
              refine lv_iadd hx hb dX1_mostBurnt_54 ?_
              refine hp_cVi ⟨hx, hb, hml, hown, hts⟩ (k_X1_isFair l G z w13 _ o (x2_ + 2) _ hp) (cwV 1 hts gX1_mostBurnt_X1_isFair rfl rfl rfl (by decide +kernel) ⟨Nat.le_of_ble_eq_true rfl, Nat.le_of_ble_eq_true rfl⟩) ho (by decide) rfl hK h hA hE rfl hl.1 rfl (Nat.le_of_ble_eq_true rfl) dX1_mostBurnt_55 ⟨Nat.le_of_ble_eq_true rfl, Nat.le_of_ble_eq_true rfl⟩ (fun r17 w16 H locs hp h => ?_)
              refine lv_if_eq (tgt := 70) hx hb dX1_mostBurnt_58 (by decide) (fun hc18 => ?_) (fun hc18 => ?_)
              · have hp := hp.1 hc18
                exact kJ9 x1_ w16 _ _ _ hp h (lv_sub hl [0, 1, 2] rfl)
              · have hp := hp.2 hc18
                refine lv_iload_n hx hb dX1_mostBurnt_61 rfl (lv_at hl 1 rfl) ?_
                refine lv_aload_n hx hb dX1_mostBurnt_62 rfl (lv_at hl 2 rfl) ?_
                refine hp_cVi ⟨hx, hb, hml, hown, hts⟩ (k_X1_greatestDry l G z w16 _ o _ hp) (cwV 0 hts gX1_mostBurnt_X1_greatestDry rfl rfl rfl (by decide +kernel) ⟨Nat.le_of_ble_eq_true rfl, Nat.le_of_ble_eq_true rfl⟩) ho (by decide) rfl hK h hA hE rfl hl.1 rfl (Nat.le_of_ble_eq_true rfl) dX1_mostBurnt_63 ⟨Nat.le_of_ble_eq_true rfl, Nat.le_of_ble_eq_true rfl⟩ (fun r20 w19 H locs hp h => ?_)
                refine va_mmax hx hb (by rw [hml]; exact hl.1.symm) hown (hts _ wd_X1_mostBurnt_l46) (hts _ wd_X1_mostBurnt_smax) (hts _ wd_X1_mostBurnt_iM) (hts _ wd_X1_mostBurnt_kmax) (Nat.le_of_ble_eq_true rfl) (Nat.le_of_ble_eq_true rfl) (Nat.zero_le _) (Nat.zero_le _) dX1_mostBurnt_66 ?_
                refine lv_topi (fun x21 ex21 => ?_)
                have hp := hp x21 ex21
                refine lv_istore_n (lv' := [(1, .int x21), (2, .int x2_), (0, .ref o)]) hx hb dX1_mostBurnt_69 rfl hl (by decide) rfl (fun ls hl => ?_)
                exact kJ9 x21 w19 _ _ _ hp h (lv_sub hl [1, 0, 2] rfl)
        have hp := jJ9 x10 w11 hp
        refine lv_aload_n hx hb dX1_mostBurnt_70 rfl (lv_at hl 2 rfl) ?_
        obtain ⟨b22, eb22, hob22, hp⟩ := hp
        refine hp_get (ci := 1) (v := .ref b22) hx hb hts ix_X1_mostBurnt_1 hown hK h ho (by decide) rfl 4 (by decide) (hts _ lk_X1_mostBurnt_21) (fun _ h9 => h9) (by show some (va_rf (zR z 104 o)) = some (Value.ref b22); rw [eb22]; rfl) dX1_mostBurnt_71 ?_
        refine lv_iconst (v := 0) hx hb dX1_mostBurnt_74 (by decide) ?_
        refine lv_aload_n hx hb dX1_mostBurnt_75 rfl (lv_at hl 2 rfl) ?_
        obtain ⟨b23, eb23, hob23, hp⟩ := hp
        refine hp_get (ci := 1) (v := .ref b23) hx hb hts ix_X1_mostBurnt_1 hown hK h ho (by decide) rfl 5 (by decide) (hts _ lk_X1_mostBurnt_25) (fun _ h9 => h9) (by show some (va_rf (zR z 105 o)) = some (Value.ref b23); rw [eb23]; rfl) dX1_mostBurnt_76 ?_
        refine lv_iconst (v := 0) hx hb dX1_mostBurnt_79 (by decide) ?_
        refine lv_aload_n hx hb dX1_mostBurnt_80 rfl (lv_at hl 2 rfl) ?_
        refine hp_get (ci := 1) (v := .ref b22) hx hb hts ix_X1_mostBurnt_1 hown hK h ho (by decide) rfl 4 (by decide) (hts _ lk_X1_mostBurnt_21) (fun _ h9 => h9) (by show some (va_rf (zR z 104 o)) = some (Value.ref b22); rw [eb22]; rfl) dX1_mostBurnt_81 ?_
        refine hp_alen (t := 1104) (n := 17) hx hb hK h 1 rfl hob22 (by decide) (fun _ _ _ => ⟨_, rfl, rfl⟩) (v := 17) (by decide) dX1_mostBurnt_84 ?_
        refine hp_copy (t0 := 1104) (t1 := 1105) (n0 := 17) (n1 := 17) hx hb (by rw [hml]; exact hl.1.symm) hown (hts _ wd_X1_mostBurnt_l52) (hts _ wd_X1_mostBurnt_nat) (hts _ wd_X1_mostBurnt_sac) (hts _ wd_X1_mostBurnt_iS) hK h hob22 hob23 (by decide) (by decide) (fun _ _ _ => rfl) (fun _ _ _ => rfl) (by decide) (by decide) (by decide) (by decide) (by decide) (Nat.le_of_ble_eq_true rfl) (Nat.le_of_ble_eq_true rfl) dX1_mostBurnt_85 (fun H locs w24 ew24 h => ?_)
        have hp := hp w24 ew24
        refine lv_aload_n hx hb dX1_mostBurnt_88 rfl (lv_at hl 2 rfl) ?_
        obtain ⟨b25, eb25, hob25, hp⟩ := hp
        refine hp_get (ci := 1) (v := .ref b25) hx hb hts ix_X1_mostBurnt_1 hown hK h ho (by decide) rfl 0 (by decide) (hts _ lk_X1_mostBurnt_9) (fun _ h9 => h9) (by show some (va_rf (zR z 100 o)) = some (Value.ref b25); rw [eb25]; rfl) dX1_mostBurnt_89 ?_
        refine lv_iload_n hx hb dX1_mostBurnt_92 rfl (lv_at hl 0 rfl) ?_
        refine hp_zald (t := 1100) (n := 16) hx hb hK h hob25 (by decide) (fun _ _ _ => rfl) hp.1 dX1_mostBurnt_93 ?_
        have hp := hp.2
        obtain ⟨J26, jJ26, hp⟩ := hp
        refine hp_jn0 (G := G) (A := A) (z := z) (J := J26) (nL := 3) (j := 101) (lvf := [(2, .int x2_), (1, .int x10), (0, .ref o)]) (stf := []) (fun kJ26 => ?_) (fun  w27 H locs ls hp h hl => ?_)
        · refine lv_if_eq (tgt := 101) hx hb dX1_mostBurnt_94 (by decide) (fun hc28 => ?_) (fun hc28 => ?_)
          · have hp := hp.1 hc28
            exact kJ26 w24 _ _ _ hp h (lv_sub hl [0, 1, 2] rfl)
          · have hp := hp.2 hc28
            refine lv_aload_n hx hb dX1_mostBurnt_97 rfl (lv_at hl 2 rfl) ?_
            refine hp_cVv ⟨hx, hb, hml, hown, hts⟩ (k_X1_weighCutting l G z w24 _ o _ hp) (cwV 0 hts gX1_mostBurnt_X1_weighCutting rfl rfl rfl (by decide +kernel) ⟨Nat.le_of_ble_eq_true rfl, Nat.le_of_ble_eq_true rfl⟩) ho (by decide) rfl hK h hA hE rfl hl.1 rfl (Nat.le_of_ble_eq_true rfl) dX1_mostBurnt_98 ⟨Nat.le_of_ble_eq_true rfl, Nat.le_of_ble_eq_true rfl⟩ (fun w29 H locs hp h => ?_)
            exact kJ26 w29 _ _ _ hp h (lv_sub hl [0, 1, 2] rfl)
        have hp := jJ26  w27 hp
        refine lv_aload_n hx hb dX1_mostBurnt_101 rfl (lv_at hl 2 rfl) ?_
        obtain ⟨b31, eb31, hob31, hp⟩ := hp
        refine hp_get (ci := 1) (v := .ref b31) hx hb hts ix_X1_mostBurnt_1 hown hK h ho (by decide) rfl 1 (by decide) (hts _ lk_X1_mostBurnt_15) (fun _ h9 => h9) (by show some (va_rf (zR z 101 o)) = some (Value.ref b31); rw [eb31]; rfl) dX1_mostBurnt_102 ?_
        refine lv_iload_n hx hb dX1_mostBurnt_105 rfl (lv_at hl 0 rfl) ?_
        refine hp_zald (t := 1101) (n := 16) hx hb hK h hob31 (by decide) (fun _ _ _ => rfl) hp.1 dX1_mostBurnt_106 ?_
        have hp := hp.2
        refine lv_if_eq (tgt := 122) hx hb dX1_mostBurnt_107 (by decide) (fun hc32 => ?_) (fun hc32 => ?_)
        · have hp := hp.1 hc32
          obtain ⟨x33, ex33⟩ : ∃ y : Int32, y = x2_ + 1 := ⟨_, rfl⟩
          have hp := hp x33 ex33
          refine lv_iinc (v := x33) (lv' := [(2, .int x33), (1, .int x10), (0, .ref o)]) hx hb dX1_mostBurnt_122 hl (k := 0) rfl (by rw [ex33]; rfl) (by decide) rfl (fun ls hl => ?_)
          refine lv_goto (tgt := 19) hx hb dX1_mostBurnt_125 (by decide) ?_
          exact ih x33 x10 w27 _ _ _ hp h (lv_sub hl [0, 1, 2] rfl)
        · have hp := hp.2 hc32
          refine lv_aload_n hx hb dX1_mostBurnt_110 rfl (lv_at hl 2 rfl) ?_
          refine lv_iload_n hx hb dX1_mostBurnt_111 rfl (lv_at hl 0 rfl) ?_
          refine hp_cVi ⟨hx, hb, hml, hown, hts⟩ (k_X1_isFair l G z w27 _ o x2_ _ hp) (cwV 1 hts gX1_mostBurnt_X1_isFair rfl rfl rfl (by decide +kernel) ⟨Nat.le_of_ble_eq_true rfl, Nat.le_of_ble_eq_true rfl⟩) ho (by decide) rfl hK h hA hE rfl hl.1 rfl (Nat.le_of_ble_eq_true rfl) dX1_mostBurnt_112 ⟨Nat.le_of_ble_eq_true rfl, Nat.le_of_ble_eq_true rfl⟩ (fun r35 w34 H locs hp h => ?_)
          refine lv_if_eq (tgt := 122) hx hb dX1_mostBurnt_115 (by decide) (fun hc36 => ?_) (fun hc36 => ?_)
          · have hp := hp.1 hc36
            obtain ⟨x37, ex37⟩ : ∃ y : Int32, y = x2_ + 1 := ⟨_, rfl⟩
            have hp := hp x37 ex37
            refine lv_iinc (v := x37) (lv' := [(2, .int x37), (1, .int x10), (0, .ref o)]) hx hb dX1_mostBurnt_122 hl (k := 0) rfl (by rw [ex37]; rfl) (by decide) rfl (fun ls hl => ?_)
            refine lv_goto (tgt := 19) hx hb dX1_mostBurnt_125 (by decide) ?_
            exact ih x37 x10 w34 _ _ _ hp h (lv_sub hl [0, 1, 2] rfl)
          · have hp := hp.2 hc36
            refine lv_aload_n hx hb dX1_mostBurnt_118 rfl (lv_at hl 2 rfl) ?_
            refine hp_cVv ⟨hx, hb, hml, hown, hts⟩ (k_X1_weighDrying l G z w34 _ o _ hp) (cwV 0 hts gX1_mostBurnt_X1_weighDrying rfl rfl rfl (by decide +kernel) ⟨Nat.le_of_ble_eq_true rfl, Nat.le_of_ble_eq_true rfl⟩) ho (by decide) rfl hK h hA hE rfl hl.1 rfl (Nat.le_of_ble_eq_true rfl) dX1_mostBurnt_119 ⟨Nat.le_of_ble_eq_true rfl, Nat.le_of_ble_eq_true rfl⟩ (fun w38 H locs hp h => ?_)
            obtain ⟨x40, ex40⟩ : ∃ y : Int32, y = x2_ + 1 := ⟨_, rfl⟩
            have hp := hp x40 ex40
            refine lv_iinc (v := x40) (lv' := [(2, .int x40), (1, .int x10), (0, .ref o)]) hx hb dX1_mostBurnt_122 hl (k := 0) rfl (by rw [ex40]; rfl) (by decide) rfl (fun ls hl => ?_)
            refine lv_goto (tgt := 19) hx hb dX1_mostBurnt_125 (by decide) ?_
            exact ih x40 x10 w38 _ _ _ hp h (lv_sub hl [0, 1, 2] rfl)
def wp_X1_mostBurnt (z : Zt) (o : Nat) (w : Vt) (K : Int32 → Vt → Prop) : Prop := isO z 1 o ∧ ∃ b1 : Nat, zR z 104 o = some b1 ∧ isO z 1104 b1 ∧ wp_J7_fill_53178 z b1 (-1) w (fun w2 => vp_in 0 17 ∧ ∀ w4 : Vt, w4 = uA w2 1104 b1 (0 : Int32).toNatClampNeg 0 → ∃ n41 : Nat, wL_X1_mostBurnt_19 z o K (fun x42 x43 w44 => K x43 w44) n41 0 0 w4)
set_option maxHeartbeats 4000000 in
set_option maxRecDepth 100000 in
theorem k_X1_mostBurnt (l : Launch) (G : Gt) (z : Zt) (w : Vt) (sz : Nat) (o : Nat) (K : Int32 → Vt → Prop) (hp : wp_X1_mostBurnt z o w K) : MI l yX1_mostBurnt wsX1_mostBurnt rmX1_mostBurnt G z w sz [.ref o] K := by
  refine Met.ofW (cc := cX1_mostBurnt) (maxL := 3) (ret := (some .int)) (by decide +kernel) rfl ?_
  intro p e s m args below meth c s₁ B hml hv
  obtain ⟨rfl, rfl, C, h⟩ := hp_start B hml hv
  generalize gA G z w s.heap.size = A at C h ⊢
  obtain ⟨hx, hb, hr, hlocks, hml, hown, hts, hK, hA, hE⟩ := id C
  obtain ⟨ho, hp⟩ := hp
  have hl := lv_entry ([.ref o]) (n := 3) (Nat.le_of_ble_eq_true rfl)
  rw [lg_entry_eq]
  generalize (lg_sl ([.ref o]) ++ List.replicate (3 - (lg_sl ([.ref o])).length) Slot.unset).toArray = ls at hl ⊢
  have hl : lv_has ls 3 [(0, .ref o)] := hl
  refine lv_aload_n hx hb dX1_mostBurnt_0 rfl (lv_at hl 0 rfl) ?_
  obtain ⟨b1, eb1, hob1, hp⟩ := hp
  refine hp_get (ci := 1) (v := .ref b1) hx hb hts ix_X1_mostBurnt_1 hown hK h ho (by decide) rfl 4 (by decide) (hts _ lk_X1_mostBurnt_21) (fun _ h9 => h9) (by show some (va_rf (zR z 104 o)) = some (Value.ref b1); rw [eb1]; rfl) dX1_mostBurnt_1 ?_
  refine lv_iconst (v := (-1)) hx hb dX1_mostBurnt_4 (by decide) ?_
  refine hp_cSv ⟨hx, hb, hml, hown, hts⟩ (k_J7_fill_53178 l G z w _ b1 (-1) _ hp) (va_cwS 2 hts gX1_mostBurnt_J7_fill_53178 rfl rfl rfl (by decide +kernel) ⟨Nat.le_of_ble_eq_true rfl, Nat.le_of_ble_eq_true rfl⟩) hK h hA hE rfl hl.1 rfl (Nat.le_of_ble_eq_true rfl) dX1_mostBurnt_5 ⟨Nat.le_of_ble_eq_true rfl, Nat.le_of_ble_eq_true rfl⟩ (fun w2 H locs hp h => ?_)
  refine lv_aload_n hx hb dX1_mostBurnt_8 rfl (lv_at hl 0 rfl) ?_
  refine hp_get (ci := 1) (v := .ref b1) hx hb hts ix_X1_mostBurnt_1 hown hK h ho (by decide) rfl 4 (by decide) (hts _ lk_X1_mostBurnt_21) (fun _ h9 => h9) (by show some (va_rf (zR z 104 o)) = some (Value.ref b1); rw [eb1]; rfl) dX1_mostBurnt_9 ?_
  refine lv_iconst (v := 0) hx hb dX1_mostBurnt_12 (by decide) ?_
  refine lv_iconst (v := 0) hx hb dX1_mostBurnt_13 (by decide) ?_
  refine hp_iast (t := 1104) (n := 17) hx hb hK h hob1 (by decide) (fun _ _ _ => rfl) hp.1 dX1_mostBurnt_14 (fun H locs w4 ew4 h => ?_)
  have hp := hp.2 w4 ew4
  refine lv_iconst (v := 0) hx hb dX1_mostBurnt_15 (by decide) ?_
  refine lv_istore_n (lv' := [(1, .int 0), (0, .ref o)]) hx hb dX1_mostBurnt_16 rfl hl (by decide) rfl (fun ls hl => ?_)
  refine lv_iconst (v := 0) hx hb dX1_mostBurnt_17 (by decide) ?_
  refine lv_istore_n (lv' := [(2, .int 0), (1, .int 0), (0, .ref o)]) hx hb dX1_mostBurnt_18 rfl hl (by decide) rfl (fun ls hl => ?_)
  obtain ⟨n41, hp⟩ := hp
  refine kL_X1_mostBurnt_19 C o ho _ _ (fun x42 x43 w44 H locs ls hp h hl => ?_) n41 0 0 w4 _ _ _ hp h (lv_sub hl [0, 1, 2] rfl)
  refine lv_iload_n hx hb dX1_mostBurnt_128 rfl (lv_at hl 1 rfl) ?_
  exact hp_iret hx hb hr rfl hlocks hK h hp dX1_mostBurnt_129
abbrev rmX9_plan : Room := { frames := 3, cells := 0, slots := 0, locals := 142 }
theorem ix_X9_plan_9 : ∀ w ∈ wsX90, w ∈ wsX9_plan := by decide +kernel
theorem lk_X9_plan_68 : Cond.fieldLink RX9 68 "KelpShores" "forecast" "LKelpShores$Forecast;" ∈ wsX9_plan := by decide +kernel
theorem ix_X9_plan_1 : ∀ w ∈ wsX10, w ∈ wsX9_plan := by decide +kernel
theorem lk_X9_plan_335 {G : Gt} {A : Nat → Prop} {s : State} {args : Array Value} (hE : gE G A s s.heap) : (Cond.fieldLinkNest RX9 335 "KelpShores$Forecast" "days" "I" "KelpShores").before args s = true := by
  have h : va_Nw (Cond.fieldLinkNest RX9 335 "KelpShores$Forecast" "days" "I" "KelpShores") s := hE.1 (RX9, 335, "KelpShores$Forecast", "days", "I") (List.mem_of_getElem? (i := 6) rfl)
  exact va_Nw.use rfl h
def wp_X9_plan (z : Zt) (o : Nat) (w : Vt) (K : Int32 → Vt → Prop) : Prop := isO z 9 o ∧ ∃ b1 : Nat, zR z 913 o = some b1 ∧ isO z 1 b1 ∧ wp_X1_mostBurnt z b1 w (fun r3 w2 => ∀ w4 : Vt, w4 = uI w2 103 b1 0 → K r3 w4)
set_option maxHeartbeats 4000000 in
set_option maxRecDepth 100000 in
theorem k_X9_plan (l : Launch) (G : Gt) (z : Zt) (w : Vt) (sz : Nat) (o : Nat) (K : Int32 → Vt → Prop) (hp : wp_X9_plan z o w K) : MI l yX9_plan wsX9_plan rmX9_plan G z w sz [.ref o] K := by
  refine Met.ofW (cc := cX9_plan) (maxL := 2) (ret := (some .int)) (by decide +kernel) rfl ?_
  intro p e s m args below meth c s₁ B hml hv
  obtain ⟨rfl, rfl, C, h⟩ := hp_start B hml hv
  generalize gA G z w s.heap.size = A at C h ⊢
  obtain ⟨hx, hb, hr, hlocks, hml, hown, hts, hK, hA, hE⟩ := id C
  obtain ⟨ho, hp⟩ := hp
  have hl := lv_entry ([.ref o]) (n := 2) (Nat.le_of_ble_eq_true rfl)
  rw [lg_entry_eq]
  generalize (lg_sl ([.ref o]) ++ List.replicate (2 - (lg_sl ([.ref o])).length) Slot.unset).toArray = ls at hl ⊢
  have hl : lv_has ls 2 [(0, .ref o)] := hl
  refine lv_aload_n hx hb dX9_plan_0 rfl (lv_at hl 0 rfl) ?_
  obtain ⟨b1, eb1, hob1, hp⟩ := hp
  refine hp_get (ci := 9) (v := .ref b1) hx hb hts ix_X9_plan_9 hown hK h ho (by decide) rfl 13 (by decide) (hts _ lk_X9_plan_68) (fun _ h9 => h9) (by show some (va_rf (zR z 913 o)) = some (Value.ref b1); rw [eb1]; rfl) dX9_plan_1 ?_
  refine hp_cVi ⟨hx, hb, hml, hown, hts⟩ (k_X1_mostBurnt l G z w _ b1 _ hp) (cwV 0 hts gX9_plan_X1_mostBurnt rfl rfl rfl (by decide +kernel) ⟨Nat.le_of_ble_eq_true rfl, Nat.le_of_ble_eq_true rfl⟩) hob1 (by decide) rfl hK h hA hE rfl hl.1 rfl (Nat.le_of_ble_eq_true rfl) dX9_plan_4 ⟨Nat.le_of_ble_eq_true rfl, Nat.le_of_ble_eq_true rfl⟩ (fun r3 w2 H locs hp h => ?_)
  refine lv_istore_n (lv' := [(1, .int r3), (0, .ref o)]) hx hb dX9_plan_7 rfl hl (by decide) rfl (fun ls hl => ?_)
  refine lv_aload_n hx hb dX9_plan_8 rfl (lv_at hl 1 rfl) ?_
  refine hp_get (ci := 9) (v := .ref b1) hx hb hts ix_X9_plan_9 hown hK h ho (by decide) rfl 13 (by decide) (hts _ lk_X9_plan_68) (fun _ h9 => h9) (by show some (va_rf (zR z 913 o)) = some (Value.ref b1); rw [eb1]; rfl) dX9_plan_9 ?_
  refine lv_iconst (v := 0) hx hb dX9_plan_12 (by decide) ?_
  refine hp_putiN (ci := 1) (ty := .int) (x := 0) hx hb hts ix_X9_plan_1 tyX1 tyX1_ok nmX1 hown hK h hob1 (by decide) rfl 3 103 (by decide) (lk_X9_plan_335 hE) (fun _ h9 => h9) rfl (by decide +kernel) rfl rfl (fun _ _ => rfl) (fun _ _ => Nat.le_of_ble_eq_true rfl) dX9_plan_13 (fun H locs w4 ew4 h => ?_)
  have hp := hp w4 ew4
  refine lv_iload_n hx hb dX9_plan_16 rfl (lv_at hl 0 rfl) ?_
  exact hp_iret hx hb hr rfl hlocks hK h hp dX9_plan_17
