/-! THE LAW'S CASES -/
def lwF (p : Program) (s : State) (m : MethodId) (c : Code) (b L : Nat) (xs : Nat → Int32) (G : Gt) : Prop :=
  p.tables.exec = Jvm.exec ∧ c.code = cL_law ∧ c.maxLocals = 7 ∧ s.vm.findClass RL = some m.cls ∧ (∀ w ∈ wsL_law, w.before #[Value.ref b] s = true) ∧ va_X b L xs s s.heap ∧ b < s.heap.size ∧ va_K G.1 vwCl (aT G.2.1) s ∧ gE G (fun q : Nat => s.heap.size ≤ q) s s.heap
section LWC
variable {p : Program} {l : Launch} {e : Env} {s : State} {m : MethodId} {below : List Frame} {meth : Method} {c : Code} {H : Heap} {locs : List Loc} {cells slots : Nat} {Q : State → Prop} {G : Gt} {b L : Nat} {xs : Nat → Int32} {ls : Array Slot} {rest : List Value}
theorem lw_sld (F : lwF p s m c b L xs G) {zc zm : Zt} {wc wm : Vt} (h : hpH2 G (fun q : Nat => s.heap.size ≤ q) s.heap zc wc zm wm H locs) {pc : Nat} {i v : Int32} (hin : vp_in i L) (hv : xs i.toNatClampNeg = v) (hdg : decode cL_law pc = .ok (.iaload, 1))
    (kk : W p l e room_1 s m #[Value.ref b] below meth c H locs cells slots Q (F0 m (pc + 1) ls (.int v :: rest))) : W p l e room_1 s m #[Value.ref b] below meth c H locs cells slots Q (F0 m pc ls (.int i :: .ref b :: rest)) := by
  subst hv
  obtain ⟨hx, hb, -, -, -, hX, hbl, -⟩ := F
  exact va_sld hx hb hX hbl (Nat.not_le.mpr hbl) h.2.2 hin hdg kk
theorem lw_cmp0 {x y : Int64} (h : x = y) : lg_cmp x y = 0 := by subst h; simp [lg_cmp]

def wc_0 (zc : Zt) (wc : Vt) (zm : Zt) (wm : Vt) (x mm t : Nat) (a1 : Int32) (a2 : Int32) (a3 : Int32) (a4 : Int32) (a5 : Int32) (KL : Zt → Vt → Zt → Vt → Prop) : Prop := isO zc 9 x ∧ wp_X9_feed zc x a1 a2 a3 a4 a5 wc (fun r1 wc1 => isO zm 10 mm ∧ wp_X10_feed zm mm a1 a2 a3 a4 a5 wm (fun b1 wm1 => r1 = b1 ∧ KL zc wc1 zm wm1))
set_option maxHeartbeats 4000000 in
set_option maxRecDepth 100000 in
theorem lc_0 (hst : l.stackTraces = false) (F : lwF p s m c b L xs G) {zc zm : Zt} {wc wm : Vt} {x mm t : Nat} {i : Int32} {a1 : Int32} {a2 : Int32} {a3 : Int32} {a4 : Int32} {a5 : Int32} (hin1 : vp_in (i + 1) L) (hin2 : vp_in (i + 2) L) (hin3 : vp_in (i + 3) L) (hin4 : vp_in (i + 4) L) (hin5 : vp_in (i + 5) L) (ha1 : xs (i + 1).toNatClampNeg = a1) (ha2 : xs (i + 2).toNatClampNeg = a2) (ha3 : xs (i + 3).toNatClampNeg = a3) (ha4 : xs (i + 4).toNatClampNeg = a4) (ha5 : xs (i + 5).toNatClampNeg = a5) (h : hpH2 G (fun q : Nat => s.heap.size ≤ q) s.heap zc wc zm wm H locs) (hl : lv_has ls 7 [(0, .ref b), (1, .ref x), (2, .ref mm), (3, .ref t), (4, .int i)]) (hc : cells + 4 ≤ room_1.cells) (hs : slots + 24 ≤ room_1.slots) (KL : Zt → Vt → Zt → Vt → Prop) (hp : wc_0 zc wc zm wm x mm t a1 a2 a3 a4 a5 KL)
    (kk : ∀ (zc : Zt) (wc : Vt) (zm : Zt) (wm : Vt) (H : Heap) (locs : List Loc) (ls : Array Slot), KL zc wc zm wm → hpH2 G (fun q : Nat => s.heap.size ≤ q) s.heap zc wc zm wm H locs → lv_has ls 7 [(0, .ref b), (1, .ref x), (2, .ref mm), (3, .ref t), (4, .int i)] → W p l e room_1 s m #[Value.ref b] below meth c H locs (cells + 4) (slots + 24) Q (F0 m 1881 ls [])) : W p l e room_1 s m #[Value.ref b] below meth c H locs cells slots Q (F0 m 160 ls []) := by
  obtain ⟨hx, hb, hml, hown, hts, hX, hbl, hK, hE⟩ := id F
  have hA : ∀ q : Nat, s.heap.size ≤ q → (fun q : Nat => s.heap.size ≤ q) q := fun _ h => h
  refine lv_aload_n hx hb dL_law_160 rfl (lv_at hl 1 rfl) ?_
  refine lv_aload_n hx hb dL_law_161 rfl (lv_at hl 0 rfl) ?_
  refine lv_iload hx hb dL_law_162 (lv_at hl 4 rfl) ?_
  refine lv_iconst (v := 1) hx hb dL_law_164 (by decide) ?_
  refine lv_iadd hx hb dL_law_165 ?_
  refine lw_sld F h hin1 ha1 dL_law_166 ?_
  refine lv_aload_n hx hb dL_law_167 rfl (lv_at hl 0 rfl) ?_
  refine lv_iload hx hb dL_law_168 (lv_at hl 4 rfl) ?_
  refine lv_iconst (v := 2) hx hb dL_law_170 (by decide) ?_
  refine lv_iadd hx hb dL_law_171 ?_
  refine lw_sld F h hin2 ha2 dL_law_172 ?_
  refine lv_aload_n hx hb dL_law_173 rfl (lv_at hl 0 rfl) ?_
  refine lv_iload hx hb dL_law_174 (lv_at hl 4 rfl) ?_
  refine lv_iconst (v := 3) hx hb dL_law_176 (by decide) ?_
  refine lv_iadd hx hb dL_law_177 ?_
  refine lw_sld F h hin3 ha3 dL_law_178 ?_
  refine lv_aload_n hx hb dL_law_179 rfl (lv_at hl 0 rfl) ?_
  refine lv_iload hx hb dL_law_180 (lv_at hl 4 rfl) ?_
  refine lv_iconst (v := 4) hx hb dL_law_182 (by decide) ?_
  refine lv_iadd hx hb dL_law_183 ?_
  refine lw_sld F h hin4 ha4 dL_law_184 ?_
  refine lv_aload_n hx hb dL_law_185 rfl (lv_at hl 0 rfl) ?_
  refine lv_iload hx hb dL_law_186 (lv_at hl 4 rfl) ?_
  refine lv_iconst (v := 5) hx hb dL_law_188 (by decide) ?_
  refine lv_iadd hx hb dL_law_189 ?_
  refine lw_sld F h hin5 ha5 dL_law_190 ?_
  obtain ⟨hox, hp⟩ := hp
  refine h2_cls ⟨hx, hb, hml, hown, hts⟩ (k_X9_feed l G zc wc _ x a1 a2 a3 a4 a5 _ hp) (cwV 5 hts gL_law_X9_feed rfl rfl rfl (by decide +kernel) ⟨Nat.le_of_ble_eq_true rfl, Nat.le_of_ble_eq_true rfl⟩) hox (by decide) rfl hK h hA hE rfl hl.1 rfl (Nat.le_of_ble_eq_true rfl) dL_law_191 ⟨by omega, by omega⟩ (fun r1 wc1 H locs hp h => ?_)
  refine lv_aload_n hx hb dL_law_194 rfl (lv_at hl 2 rfl) ?_
  refine lv_aload_n hx hb dL_law_195 rfl (lv_at hl 0 rfl) ?_
  refine lv_iload hx hb dL_law_196 (lv_at hl 4 rfl) ?_
  refine lv_iconst (v := 1) hx hb dL_law_198 (by decide) ?_
  refine lv_iadd hx hb dL_law_199 ?_
  refine lw_sld F h hin1 ha1 dL_law_200 ?_
  refine lv_aload_n hx hb dL_law_201 rfl (lv_at hl 0 rfl) ?_
  refine lv_iload hx hb dL_law_202 (lv_at hl 4 rfl) ?_
  refine lv_iconst (v := 2) hx hb dL_law_204 (by decide) ?_
  refine lv_iadd hx hb dL_law_205 ?_
  refine lw_sld F h hin2 ha2 dL_law_206 ?_
  refine lv_aload_n hx hb dL_law_207 rfl (lv_at hl 0 rfl) ?_
  refine lv_iload hx hb dL_law_208 (lv_at hl 4 rfl) ?_
  refine lv_iconst (v := 3) hx hb dL_law_210 (by decide) ?_
  refine lv_iadd hx hb dL_law_211 ?_
  refine lw_sld F h hin3 ha3 dL_law_212 ?_
  refine lv_aload_n hx hb dL_law_213 rfl (lv_at hl 0 rfl) ?_
  refine lv_iload hx hb dL_law_214 (lv_at hl 4 rfl) ?_
  refine lv_iconst (v := 4) hx hb dL_law_216 (by decide) ?_
  refine lv_iadd hx hb dL_law_217 ?_
  refine lw_sld F h hin4 ha4 dL_law_218 ?_
  refine lv_aload_n hx hb dL_law_219 rfl (lv_at hl 0 rfl) ?_
  refine lv_iload hx hb dL_law_220 (lv_at hl 4 rfl) ?_
  refine lv_iconst (v := 5) hx hb dL_law_222 (by decide) ?_
  refine lv_iadd hx hb dL_law_223 ?_
  refine lw_sld F h hin5 ha5 dL_law_224 ?_
  obtain ⟨hom, hp⟩ := hp
  refine h2_mod ⟨hx, hb, hml, hown, hts⟩ (k_X10_feed l G zm wm _ mm a1 a2 a3 a4 a5 _ hp) (cwV 5 hts gL_law_X10_feed rfl rfl rfl (by decide +kernel) ⟨Nat.le_of_ble_eq_true rfl, Nat.le_of_ble_eq_true rfl⟩) hom (by decide) rfl hK h hA hE rfl hl.1 rfl (Nat.le_of_ble_eq_true rfl) dL_law_225 ⟨by omega, by omega⟩ (fun b1 wm1 H locs hp h => ?_)
  obtain ⟨he, hp⟩ := hp
  refine lv_icmp_eq (tgt := 1881) hx hb dL_law_228 (by decide) (fun _ => ?_) (fun hc => absurd he hc)
  refine W.widen (k := cells + 4) (n := slots + 24) (by omega) (by omega) ?_
  exact kk _ _ _ _ _ _ _ hp h (lv_sub hl [0, 1, 2, 3, 4] rfl)
def wc_1 (zc : Zt) (wc : Vt) (zm : Zt) (wm : Vt) (x mm t : Nat) (a1 : Int32) (KL : Zt → Vt → Zt → Vt → Prop) : Prop := isO zc 9 x ∧ wp_X9_end zc x a1 wc (fun r1 wc1 => isO zm 10 mm ∧ wp_X10_end zm mm a1 wm (fun b1 wm1 => r1 = b1 ∧ KL zc wc1 zm wm1))
set_option maxHeartbeats 4000000 in
set_option maxRecDepth 100000 in
theorem lc_1 (hst : l.stackTraces = false) (F : lwF p s m c b L xs G) {zc zm : Zt} {wc wm : Vt} {x mm t : Nat} {i : Int32} {a1 : Int32} (hin1 : vp_in (i + 1) L) (ha1 : xs (i + 1).toNatClampNeg = a1) (h : hpH2 G (fun q : Nat => s.heap.size ≤ q) s.heap zc wc zm wm H locs) (hl : lv_has ls 7 [(0, .ref b), (1, .ref x), (2, .ref mm), (3, .ref t), (4, .int i)]) (hc : cells + 4 ≤ room_1.cells) (hs : slots + 24 ≤ room_1.slots) (KL : Zt → Vt → Zt → Vt → Prop) (hp : wc_1 zc wc zm wm x mm t a1 KL)
    (kk : ∀ (zc : Zt) (wc : Vt) (zm : Zt) (wm : Vt) (H : Heap) (locs : List Loc) (ls : Array Slot), KL zc wc zm wm → hpH2 G (fun q : Nat => s.heap.size ≤ q) s.heap zc wc zm wm H locs → lv_has ls 7 [(0, .ref b), (1, .ref x), (2, .ref mm), (3, .ref t), (4, .int i)] → W p l e room_1 s m #[Value.ref b] below meth c H locs (cells + 4) (slots + 24) Q (F0 m 1881 ls [])) : W p l e room_1 s m #[Value.ref b] below meth c H locs cells slots Q (F0 m 233 ls []) := by
  obtain ⟨hx, hb, hml, hown, hts, hX, hbl, hK, hE⟩ := id F
  have hA : ∀ q : Nat, s.heap.size ≤ q → (fun q : Nat => s.heap.size ≤ q) q := fun _ h => h
  refine lv_aload_n hx hb dL_law_233 rfl (lv_at hl 1 rfl) ?_
  refine lv_aload_n hx hb dL_law_234 rfl (lv_at hl 0 rfl) ?_
  refine lv_iload hx hb dL_law_235 (lv_at hl 4 rfl) ?_
  refine lv_iconst (v := 1) hx hb dL_law_237 (by decide) ?_
  refine lv_iadd hx hb dL_law_238 ?_
  refine lw_sld F h hin1 ha1 dL_law_239 ?_
  obtain ⟨hox, hp⟩ := hp
  refine h2_cls ⟨hx, hb, hml, hown, hts⟩ (k_X9_end l G zc wc _ x a1 _ hp) (cwV 1 hts gL_law_X9_end rfl rfl rfl (by decide +kernel) ⟨Nat.le_of_ble_eq_true rfl, Nat.le_of_ble_eq_true rfl⟩) hox (by decide) rfl hK h hA hE rfl hl.1 rfl (Nat.le_of_ble_eq_true rfl) dL_law_240 ⟨by omega, by omega⟩ (fun r1 wc1 H locs hp h => ?_)
  refine lv_aload_n hx hb dL_law_243 rfl (lv_at hl 2 rfl) ?_
  refine lv_aload_n hx hb dL_law_244 rfl (lv_at hl 0 rfl) ?_
  refine lv_iload hx hb dL_law_245 (lv_at hl 4 rfl) ?_
  refine lv_iconst (v := 1) hx hb dL_law_247 (by decide) ?_
  refine lv_iadd hx hb dL_law_248 ?_
  refine lw_sld F h hin1 ha1 dL_law_249 ?_
  obtain ⟨hom, hp⟩ := hp
  refine h2_mod ⟨hx, hb, hml, hown, hts⟩ (k_X10_end l G zm wm _ mm a1 _ hp) (cwV 1 hts gL_law_X10_end rfl rfl rfl (by decide +kernel) ⟨Nat.le_of_ble_eq_true rfl, Nat.le_of_ble_eq_true rfl⟩) hom (by decide) rfl hK h hA hE rfl hl.1 rfl (Nat.le_of_ble_eq_true rfl) dL_law_250 ⟨by omega, by omega⟩ (fun b1 wm1 H locs hp h => ?_)
  obtain ⟨he, hp⟩ := hp
  refine lv_icmp_eq (tgt := 1881) hx hb dL_law_253 (by decide) (fun _ => ?_) (fun hc => absurd he hc)
  refine W.widen (k := cells + 4) (n := slots + 24) (by omega) (by omega) ?_
  exact kk _ _ _ _ _ _ _ hp h (lv_sub hl [0, 1, 2, 3, 4] rfl)
def wc_2 (zc : Zt) (wc : Vt) (zm : Zt) (wm : Vt) (x mm t : Nat) (KL : Zt → Vt → Zt → Vt → Prop) : Prop := wp_L_shore zc x t wc (fun k1 zc1 wc1 => isO zm 10 mm ∧ wp_X10_shore zm mm wm (fun b1 wm1 => isO zm 10 mm ∧ wp_X10_thrown zm mm wm1 (fun b2 wm2 => b2 = k1 ∧ (¬ k1 = 0 → KL zc1 wc1 zm wm2) ∧ (k1 = 0 → isO zc1 3000 t ∧ (vL wc1 3000 t (0 : Int32).toNatClampNeg) = (b1 : Int32).toInt64 ∧ KL zc1 wc1 zm wm2))))
set_option maxHeartbeats 4000000 in
set_option maxRecDepth 100000 in
theorem lc_2 (hst : l.stackTraces = false) (F : lwF p s m c b L xs G) {zc zm : Zt} {wc wm : Vt} {x mm t : Nat} {i : Int32} (h : hpH2 G (fun q : Nat => s.heap.size ≤ q) s.heap zc wc zm wm H locs) (hl : lv_has ls 7 [(0, .ref b), (1, .ref x), (2, .ref mm), (3, .ref t), (4, .int i)]) (hc : cells + 4 ≤ room_1.cells) (hs : slots + 24 ≤ room_1.slots) (KL : Zt → Vt → Zt → Vt → Prop) (hp : wc_2 zc wc zm wm x mm t KL)
    (kk : ∀ (zc : Zt) (wc : Vt) (zm : Zt) (wm : Vt) (H : Heap) (locs : List Loc) (ls : Array Slot), KL zc wc zm wm → hpH2 G (fun q : Nat => s.heap.size ≤ q) s.heap zc wc zm wm H locs → lv_has ls 7 [(0, .ref b), (1, .ref x), (2, .ref mm), (3, .ref t), (4, .int i)] → W p l e room_1 s m #[Value.ref b] below meth c H locs (cells + 4) (slots + 24) Q (F0 m 1881 ls [])) : W p l e room_1 s m #[Value.ref b] below meth c H locs cells slots Q (F0 m 258 ls []) := by
  obtain ⟨hx, hb, hml, hown, hts, hX, hbl, hK, hE⟩ := id F
  have hA : ∀ q : Nat, s.heap.size ≤ q → (fun q : Nat => s.heap.size ≤ q) q := fun _ h => h
  refine lv_aload_n hx hb dL_law_258 rfl (lv_at hl 1 rfl) ?_
  refine lv_aload_n hx hb dL_law_259 rfl (lv_at hl 3 rfl) ?_
  refine h2_wrap ⟨hx, hb, hml, hown, hts⟩ (k_L_shore l hst G zc wc _ x t _ hp) (vx_cwSW 2 hts gL_law_L_shore rfl rfl rfl (by decide +kernel) ⟨Nat.le_of_ble_eq_true rfl, Nat.le_of_ble_eq_true rfl⟩) hK h hA hE rfl hl.1 rfl (Nat.le_of_ble_eq_true rfl) dL_law_260 ⟨by omega, by omega⟩ (fun k1 zc1 wc1 H locs hp h => ?_)
  refine lv_istore (lv' := [(5, .int k1), (0, .ref b), (1, .ref x), (2, .ref mm), (3, .ref t), (4, .int i)]) hx hb dL_law_263 hl (by decide) rfl (fun ls hl => ?_)
  refine lv_aload_n hx hb dL_law_265 rfl (lv_at hl 3 rfl) ?_
  obtain ⟨hom, hp⟩ := hp
  refine h2_mod ⟨hx, hb, hml, hown, hts⟩ (k_X10_shore l G zm wm _ mm _ hp) (cwV 0 hts gL_law_X10_shore rfl rfl rfl (by decide +kernel) ⟨Nat.le_of_ble_eq_true rfl, Nat.le_of_ble_eq_true rfl⟩) hom (by decide) rfl hK h hA hE rfl hl.1 rfl (Nat.le_of_ble_eq_true rfl) dL_law_266 ⟨by omega, by omega⟩ (fun b1 wm1 H locs hp h => ?_)
  refine lv_istore (lv' := [(6, .int b1), (5, .int k1), (0, .ref b), (1, .ref x), (2, .ref mm), (3, .ref t), (4, .int i)]) hx hb dL_law_269 hl (by decide) rfl (fun ls hl => ?_)
  refine lv_aload_n hx hb dL_law_271 rfl (lv_at hl 4 rfl) ?_
  obtain ⟨hom, hp⟩ := hp
  refine h2_mod ⟨hx, hb, hml, hown, hts⟩ (k_X10_thrown l G zm wm1 _ mm _ hp) (cwV 0 hts gL_law_X10_thrown rfl rfl rfl (by decide +kernel) ⟨Nat.le_of_ble_eq_true rfl, Nat.le_of_ble_eq_true rfl⟩) hom (by decide) rfl hK h hA hE rfl hl.1 rfl (Nat.le_of_ble_eq_true rfl) dL_law_272 ⟨by omega, by omega⟩ (fun b2 wm2 H locs hp h => ?_)
  refine lv_iload hx hb dL_law_275 (lv_at hl 1 rfl) ?_
  obtain ⟨he, hp⟩ := hp
  refine lv_icmp_eq (tgt := 282) hx hb dL_law_277 (by decide) (fun _ => ?_) (fun hc => absurd he hc)
  refine lv_iload hx hb dL_law_282 (lv_at hl 1 rfl) ?_
  refine lv_if_ne (tgt := 299) hx hb dL_law_284 (by decide) (fun hc => ?_) (fun hc => ?_)
  · have hp := hp.1 hc
    refine lv_goto (tgt := 1881) hx hb dL_law_299 (by decide) ?_
    refine W.widen (k := cells + 4) (n := slots + 24) (by omega) (by omega) ?_
    exact kk _ _ _ _ _ _ _ hp h (lv_sub hl [2, 3, 4, 5, 6] rfl)
  · have hp := hp.2 hc
    refine lv_aload_n hx hb dL_law_287 rfl (lv_at hl 5 rfl) ?_
    refine lv_iconst (v := 0) hx hb dL_law_288 (by decide) ?_
    obtain ⟨hot, hp⟩ := hp
    refine h2_lald hx hb hK h hot vp01 dL_law_289 ?_
    refine lv_iload hx hb dL_law_290 (lv_at hl 0 rfl) ?_
    refine lv_i2l hx hb dL_law_292 rfl ?_
    obtain ⟨he, hp⟩ := hp
    refine W.lcmp hx hb dL_law_293 ?_
    rw [lw_cmp0 he]
    refine lv_if_eq (tgt := 299) hx hb dL_law_294 (by decide) (fun _ => ?_) (fun hc => absurd rfl hc)
    refine lv_goto (tgt := 1881) hx hb dL_law_299 (by decide) ?_
    refine W.widen (k := cells + 4) (n := slots + 24) (by omega) (by omega) ?_
    exact kk _ _ _ _ _ _ _ hp h (lv_sub hl [2, 3, 4, 5, 6] rfl)
def wc_3 (zc : Zt) (wc : Vt) (zm : Zt) (wm : Vt) (x mm t : Nat) (a1 : Int32) (a2 : Int32) (a3 : Int32) (KL : Zt → Vt → Zt → Vt → Prop) : Prop := wp_L_rock zc x a1 a2 a3 t wc (fun k1 zc1 wc1 => isO zm 10 mm ∧ wp_X10_rock zm mm a1 a2 a3 wm (fun b1 wm1 => isO zm 10 mm ∧ wp_X10_thrown zm mm wm1 (fun b2 wm2 => b2 = k1 ∧ (¬ k1 = 0 → KL zc1 wc1 zm wm2) ∧ (k1 = 0 → isO zc1 3000 t ∧ (vL wc1 3000 t (0 : Int32).toNatClampNeg) = (b1 : Int32).toInt64 ∧ KL zc1 wc1 zm wm2))))
set_option maxHeartbeats 4000000 in
set_option maxRecDepth 100000 in
theorem lc_3 (hst : l.stackTraces = false) (F : lwF p s m c b L xs G) {zc zm : Zt} {wc wm : Vt} {x mm t : Nat} {i : Int32} {a1 : Int32} {a2 : Int32} {a3 : Int32} (hin1 : vp_in (i + 1) L) (hin2 : vp_in (i + 2) L) (hin3 : vp_in (i + 3) L) (ha1 : xs (i + 1).toNatClampNeg = a1) (ha2 : xs (i + 2).toNatClampNeg = a2) (ha3 : xs (i + 3).toNatClampNeg = a3) (h : hpH2 G (fun q : Nat => s.heap.size ≤ q) s.heap zc wc zm wm H locs) (hl : lv_has ls 7 [(0, .ref b), (1, .ref x), (2, .ref mm), (3, .ref t), (4, .int i)]) (hc : cells + 4 ≤ room_1.cells) (hs : slots + 24 ≤ room_1.slots) (KL : Zt → Vt → Zt → Vt → Prop) (hp : wc_3 zc wc zm wm x mm t a1 a2 a3 KL)
    (kk : ∀ (zc : Zt) (wc : Vt) (zm : Zt) (wm : Vt) (H : Heap) (locs : List Loc) (ls : Array Slot), KL zc wc zm wm → hpH2 G (fun q : Nat => s.heap.size ≤ q) s.heap zc wc zm wm H locs → lv_has ls 7 [(0, .ref b), (1, .ref x), (2, .ref mm), (3, .ref t), (4, .int i)] → W p l e room_1 s m #[Value.ref b] below meth c H locs (cells + 4) (slots + 24) Q (F0 m 1881 ls [])) : W p l e room_1 s m #[Value.ref b] below meth c H locs cells slots Q (F0 m 302 ls []) := by
  obtain ⟨hx, hb, hml, hown, hts, hX, hbl, hK, hE⟩ := id F
  have hA : ∀ q : Nat, s.heap.size ≤ q → (fun q : Nat => s.heap.size ≤ q) q := fun _ h => h
  refine lv_aload_n hx hb dL_law_302 rfl (lv_at hl 1 rfl) ?_
  refine lv_aload_n hx hb dL_law_303 rfl (lv_at hl 0 rfl) ?_
  refine lv_iload hx hb dL_law_304 (lv_at hl 4 rfl) ?_
  refine lv_iconst (v := 1) hx hb dL_law_306 (by decide) ?_
  refine lv_iadd hx hb dL_law_307 ?_
  refine lw_sld F h hin1 ha1 dL_law_308 ?_
  refine lv_aload_n hx hb dL_law_309 rfl (lv_at hl 0 rfl) ?_
  refine lv_iload hx hb dL_law_310 (lv_at hl 4 rfl) ?_
  refine lv_iconst (v := 2) hx hb dL_law_312 (by decide) ?_
  refine lv_iadd hx hb dL_law_313 ?_
  refine lw_sld F h hin2 ha2 dL_law_314 ?_
  refine lv_aload_n hx hb dL_law_315 rfl (lv_at hl 0 rfl) ?_
  refine lv_iload hx hb dL_law_316 (lv_at hl 4 rfl) ?_
  refine lv_iconst (v := 3) hx hb dL_law_318 (by decide) ?_
  refine lv_iadd hx hb dL_law_319 ?_
  refine lw_sld F h hin3 ha3 dL_law_320 ?_
  refine lv_aload_n hx hb dL_law_321 rfl (lv_at hl 3 rfl) ?_
  refine h2_wrap ⟨hx, hb, hml, hown, hts⟩ (k_L_rock l hst G zc wc _ x a1 a2 a3 t _ hp) (vx_cwSW 5 hts gL_law_L_rock rfl rfl rfl (by decide +kernel) ⟨Nat.le_of_ble_eq_true rfl, Nat.le_of_ble_eq_true rfl⟩) hK h hA hE rfl hl.1 rfl (Nat.le_of_ble_eq_true rfl) dL_law_322 ⟨by omega, by omega⟩ (fun k1 zc1 wc1 H locs hp h => ?_)
  refine lv_istore (lv' := [(5, .int k1), (0, .ref b), (1, .ref x), (2, .ref mm), (3, .ref t), (4, .int i)]) hx hb dL_law_325 hl (by decide) rfl (fun ls hl => ?_)
  refine lv_aload_n hx hb dL_law_327 rfl (lv_at hl 3 rfl) ?_
  refine lv_aload_n hx hb dL_law_328 rfl (lv_at hl 1 rfl) ?_
  refine lv_iload hx hb dL_law_329 (lv_at hl 5 rfl) ?_
  refine lv_iconst (v := 1) hx hb dL_law_331 (by decide) ?_
  refine lv_iadd hx hb dL_law_332 ?_
  refine lw_sld F h hin1 ha1 dL_law_333 ?_
  refine lv_aload_n hx hb dL_law_334 rfl (lv_at hl 1 rfl) ?_
  refine lv_iload hx hb dL_law_335 (lv_at hl 5 rfl) ?_
  refine lv_iconst (v := 2) hx hb dL_law_337 (by decide) ?_
  refine lv_iadd hx hb dL_law_338 ?_
  refine lw_sld F h hin2 ha2 dL_law_339 ?_
  refine lv_aload_n hx hb dL_law_340 rfl (lv_at hl 1 rfl) ?_
  refine lv_iload hx hb dL_law_341 (lv_at hl 5 rfl) ?_
  refine lv_iconst (v := 3) hx hb dL_law_343 (by decide) ?_
  refine lv_iadd hx hb dL_law_344 ?_
  refine lw_sld F h hin3 ha3 dL_law_345 ?_
  obtain ⟨hom, hp⟩ := hp
  refine h2_mod ⟨hx, hb, hml, hown, hts⟩ (k_X10_rock l G zm wm _ mm a1 a2 a3 _ hp) (cwV 3 hts gL_law_X10_rock rfl rfl rfl (by decide +kernel) ⟨Nat.le_of_ble_eq_true rfl, Nat.le_of_ble_eq_true rfl⟩) hom (by decide) rfl hK h hA hE rfl hl.1 rfl (Nat.le_of_ble_eq_true rfl) dL_law_346 ⟨by omega, by omega⟩ (fun b1 wm1 H locs hp h => ?_)
  refine lv_istore (lv' := [(6, .int b1), (5, .int k1), (0, .ref b), (1, .ref x), (2, .ref mm), (3, .ref t), (4, .int i)]) hx hb dL_law_349 hl (by decide) rfl (fun ls hl => ?_)
  refine lv_aload_n hx hb dL_law_351 rfl (lv_at hl 4 rfl) ?_
  obtain ⟨hom, hp⟩ := hp
  refine h2_mod ⟨hx, hb, hml, hown, hts⟩ (k_X10_thrown l G zm wm1 _ mm _ hp) (cwV 0 hts gL_law_X10_thrown rfl rfl rfl (by decide +kernel) ⟨Nat.le_of_ble_eq_true rfl, Nat.le_of_ble_eq_true rfl⟩) hom (by decide) rfl hK h hA hE rfl hl.1 rfl (Nat.le_of_ble_eq_true rfl) dL_law_352 ⟨by omega, by omega⟩ (fun b2 wm2 H locs hp h => ?_)
  refine lv_iload hx hb dL_law_355 (lv_at hl 1 rfl) ?_
  obtain ⟨he, hp⟩ := hp
  refine lv_icmp_eq (tgt := 362) hx hb dL_law_357 (by decide) (fun _ => ?_) (fun hc => absurd he hc)
  refine lv_iload hx hb dL_law_362 (lv_at hl 1 rfl) ?_
  refine lv_if_ne (tgt := 379) hx hb dL_law_364 (by decide) (fun hc => ?_) (fun hc => ?_)
  · have hp := hp.1 hc
    refine lv_goto (tgt := 1881) hx hb dL_law_379 (by decide) ?_
    refine W.widen (k := cells + 4) (n := slots + 24) (by omega) (by omega) ?_
    exact kk _ _ _ _ _ _ _ hp h (lv_sub hl [2, 3, 4, 5, 6] rfl)
  · have hp := hp.2 hc
    refine lv_aload_n hx hb dL_law_367 rfl (lv_at hl 5 rfl) ?_
    refine lv_iconst (v := 0) hx hb dL_law_368 (by decide) ?_
    obtain ⟨hot, hp⟩ := hp
    refine h2_lald hx hb hK h hot vp01 dL_law_369 ?_
    refine lv_iload hx hb dL_law_370 (lv_at hl 0 rfl) ?_
    refine lv_i2l hx hb dL_law_372 rfl ?_
    obtain ⟨he, hp⟩ := hp
    refine W.lcmp hx hb dL_law_373 ?_
    rw [lw_cmp0 he]
    refine lv_if_eq (tgt := 379) hx hb dL_law_374 (by decide) (fun _ => ?_) (fun hc => absurd rfl hc)
    refine lv_goto (tgt := 1881) hx hb dL_law_379 (by decide) ?_
    refine W.widen (k := cells + 4) (n := slots + 24) (by omega) (by omega) ?_
    exact kk _ _ _ _ _ _ _ hp h (lv_sub hl [2, 3, 4, 5, 6] rfl)
def wc_4 (zc : Zt) (wc : Vt) (zm : Zt) (wm : Vt) (x mm t : Nat) (a1 : Int32) (a2 : Int32) (KL : Zt → Vt → Zt → Vt → Prop) : Prop := wp_L_hands zc x a1 a2 wc (fun k1 zc1 wc1 => isO zm 10 mm ∧ wp_X10_hands zm mm a1 a2 wm (fun wm1 => isO zm 10 mm ∧ wp_X10_thrown zm mm wm1 (fun b2 wm2 => b2 = k1 ∧ KL zc1 wc1 zm wm2)))
set_option maxHeartbeats 4000000 in
set_option maxRecDepth 100000 in
theorem lc_4 (hst : l.stackTraces = false) (F : lwF p s m c b L xs G) {zc zm : Zt} {wc wm : Vt} {x mm t : Nat} {i : Int32} {a1 : Int32} {a2 : Int32} (hin1 : vp_in (i + 1) L) (hin2 : vp_in (i + 2) L) (ha1 : xs (i + 1).toNatClampNeg = a1) (ha2 : xs (i + 2).toNatClampNeg = a2) (h : hpH2 G (fun q : Nat => s.heap.size ≤ q) s.heap zc wc zm wm H locs) (hl : lv_has ls 7 [(0, .ref b), (1, .ref x), (2, .ref mm), (3, .ref t), (4, .int i)]) (hc : cells + 4 ≤ room_1.cells) (hs : slots + 24 ≤ room_1.slots) (KL : Zt → Vt → Zt → Vt → Prop) (hp : wc_4 zc wc zm wm x mm t a1 a2 KL)
    (kk : ∀ (zc : Zt) (wc : Vt) (zm : Zt) (wm : Vt) (H : Heap) (locs : List Loc) (ls : Array Slot), KL zc wc zm wm → hpH2 G (fun q : Nat => s.heap.size ≤ q) s.heap zc wc zm wm H locs → lv_has ls 7 [(0, .ref b), (1, .ref x), (2, .ref mm), (3, .ref t), (4, .int i)] → W p l e room_1 s m #[Value.ref b] below meth c H locs (cells + 4) (slots + 24) Q (F0 m 1881 ls [])) : W p l e room_1 s m #[Value.ref b] below meth c H locs cells slots Q (F0 m 382 ls []) := by
  obtain ⟨hx, hb, hml, hown, hts, hX, hbl, hK, hE⟩ := id F
  have hA : ∀ q : Nat, s.heap.size ≤ q → (fun q : Nat => s.heap.size ≤ q) q := fun _ h => h
  refine lv_aload_n hx hb dL_law_382 rfl (lv_at hl 1 rfl) ?_
  refine lv_aload_n hx hb dL_law_383 rfl (lv_at hl 0 rfl) ?_
  refine lv_iload hx hb dL_law_384 (lv_at hl 4 rfl) ?_
  refine lv_iconst (v := 1) hx hb dL_law_386 (by decide) ?_
  refine lv_iadd hx hb dL_law_387 ?_
  refine lw_sld F h hin1 ha1 dL_law_388 ?_
  refine lv_aload_n hx hb dL_law_389 rfl (lv_at hl 0 rfl) ?_
  refine lv_iload hx hb dL_law_390 (lv_at hl 4 rfl) ?_
  refine lv_iconst (v := 2) hx hb dL_law_392 (by decide) ?_
  refine lv_iadd hx hb dL_law_393 ?_
  refine lw_sld F h hin2 ha2 dL_law_394 ?_
  refine h2_wrap ⟨hx, hb, hml, hown, hts⟩ (k_L_hands l hst G zc wc _ x a1 a2 _ hp) (vx_cwSW 3 hts gL_law_L_hands rfl rfl rfl (by decide +kernel) ⟨Nat.le_of_ble_eq_true rfl, Nat.le_of_ble_eq_true rfl⟩) hK h hA hE rfl hl.1 rfl (Nat.le_of_ble_eq_true rfl) dL_law_395 ⟨by omega, by omega⟩ (fun k1 zc1 wc1 H locs hp h => ?_)
  refine lv_istore (lv' := [(5, .int k1), (0, .ref b), (1, .ref x), (2, .ref mm), (3, .ref t), (4, .int i)]) hx hb dL_law_398 hl (by decide) rfl (fun ls hl => ?_)
  refine lv_aload_n hx hb dL_law_400 rfl (lv_at hl 3 rfl) ?_
  refine lv_aload_n hx hb dL_law_401 rfl (lv_at hl 1 rfl) ?_
  refine lv_iload hx hb dL_law_402 (lv_at hl 5 rfl) ?_
  refine lv_iconst (v := 1) hx hb dL_law_404 (by decide) ?_
  refine lv_iadd hx hb dL_law_405 ?_
  refine lw_sld F h hin1 ha1 dL_law_406 ?_
  refine lv_aload_n hx hb dL_law_407 rfl (lv_at hl 1 rfl) ?_
  refine lv_iload hx hb dL_law_408 (lv_at hl 5 rfl) ?_
  refine lv_iconst (v := 2) hx hb dL_law_410 (by decide) ?_
  refine lv_iadd hx hb dL_law_411 ?_
  refine lw_sld F h hin2 ha2 dL_law_412 ?_
  obtain ⟨hom, hp⟩ := hp
  refine h2_modv ⟨hx, hb, hml, hown, hts⟩ (k_X10_hands l G zm wm _ mm a1 a2 _ hp) (cwV 2 hts gL_law_X10_hands rfl rfl rfl (by decide +kernel) ⟨Nat.le_of_ble_eq_true rfl, Nat.le_of_ble_eq_true rfl⟩) hom (by decide) rfl hK h hA hE rfl hl.1 rfl (Nat.le_of_ble_eq_true rfl) dL_law_413 ⟨by omega, by omega⟩ (fun wm1 H locs hp h => ?_)
  refine lv_aload_n hx hb dL_law_416 rfl (lv_at hl 3 rfl) ?_
  obtain ⟨hom, hp⟩ := hp
  refine h2_mod ⟨hx, hb, hml, hown, hts⟩ (k_X10_thrown l G zm wm1 _ mm _ hp) (cwV 0 hts gL_law_X10_thrown rfl rfl rfl (by decide +kernel) ⟨Nat.le_of_ble_eq_true rfl, Nat.le_of_ble_eq_true rfl⟩) hom (by decide) rfl hK h hA hE rfl hl.1 rfl (Nat.le_of_ble_eq_true rfl) dL_law_417 ⟨by omega, by omega⟩ (fun b2 wm2 H locs hp h => ?_)
  refine lv_iload hx hb dL_law_420 (lv_at hl 0 rfl) ?_
  obtain ⟨he, hp⟩ := hp
  refine lv_icmp_eq (tgt := 427) hx hb dL_law_422 (by decide) (fun _ => ?_) (fun hc => absurd he hc)
  refine lv_goto (tgt := 1881) hx hb dL_law_427 (by decide) ?_
  refine W.widen (k := cells + 4) (n := slots + 24) (by omega) (by omega) ?_
  exact kk _ _ _ _ _ _ _ hp h (lv_sub hl [1, 2, 3, 4, 5] rfl)
def wc_5 (zc : Zt) (wc : Vt) (zm : Zt) (wm : Vt) (x mm t : Nat) (KL : Zt → Vt → Zt → Vt → Prop) : Prop := wp_L_rights zc x t wc (fun k1 zc1 wc1 => isO zm 10 mm ∧ wp_X10_rights zm mm wm (fun b1 wm1 => isO zm 10 mm ∧ wp_X10_thrown zm mm wm1 (fun b2 wm2 => b2 = k1 ∧ (¬ k1 = 0 → KL zc1 wc1 zm wm2) ∧ (k1 = 0 → isO zc1 3000 t ∧ (vL wc1 3000 t (0 : Int32).toNatClampNeg) = (b1 : Int32).toInt64 ∧ KL zc1 wc1 zm wm2))))
set_option maxHeartbeats 4000000 in
set_option maxRecDepth 100000 in
theorem lc_5 (hst : l.stackTraces = false) (F : lwF p s m c b L xs G) {zc zm : Zt} {wc wm : Vt} {x mm t : Nat} {i : Int32} (h : hpH2 G (fun q : Nat => s.heap.size ≤ q) s.heap zc wc zm wm H locs) (hl : lv_has ls 7 [(0, .ref b), (1, .ref x), (2, .ref mm), (3, .ref t), (4, .int i)]) (hc : cells + 4 ≤ room_1.cells) (hs : slots + 24 ≤ room_1.slots) (KL : Zt → Vt → Zt → Vt → Prop) (hp : wc_5 zc wc zm wm x mm t KL)
    (kk : ∀ (zc : Zt) (wc : Vt) (zm : Zt) (wm : Vt) (H : Heap) (locs : List Loc) (ls : Array Slot), KL zc wc zm wm → hpH2 G (fun q : Nat => s.heap.size ≤ q) s.heap zc wc zm wm H locs → lv_has ls 7 [(0, .ref b), (1, .ref x), (2, .ref mm), (3, .ref t), (4, .int i)] → W p l e room_1 s m #[Value.ref b] below meth c H locs (cells + 4) (slots + 24) Q (F0 m 1881 ls [])) : W p l e room_1 s m #[Value.ref b] below meth c H locs cells slots Q (F0 m 430 ls []) := by
  obtain ⟨hx, hb, hml, hown, hts, hX, hbl, hK, hE⟩ := id F
  have hA : ∀ q : Nat, s.heap.size ≤ q → (fun q : Nat => s.heap.size ≤ q) q := fun _ h => h
  refine lv_aload_n hx hb dL_law_430 rfl (lv_at hl 1 rfl) ?_
  refine lv_aload_n hx hb dL_law_431 rfl (lv_at hl 3 rfl) ?_
  refine h2_wrap ⟨hx, hb, hml, hown, hts⟩ (k_L_rights l hst G zc wc _ x t _ hp) (vx_cwSW 2 hts gL_law_L_rights rfl rfl rfl (by decide +kernel) ⟨Nat.le_of_ble_eq_true rfl, Nat.le_of_ble_eq_true rfl⟩) hK h hA hE rfl hl.1 rfl (Nat.le_of_ble_eq_true rfl) dL_law_432 ⟨by omega, by omega⟩ (fun k1 zc1 wc1 H locs hp h => ?_)
  refine lv_istore (lv' := [(5, .int k1), (0, .ref b), (1, .ref x), (2, .ref mm), (3, .ref t), (4, .int i)]) hx hb dL_law_435 hl (by decide) rfl (fun ls hl => ?_)
  refine lv_aload_n hx hb dL_law_437 rfl (lv_at hl 3 rfl) ?_
  obtain ⟨hom, hp⟩ := hp
  refine h2_mod ⟨hx, hb, hml, hown, hts⟩ (k_X10_rights l G zm wm _ mm _ hp) (cwV 0 hts gL_law_X10_rights rfl rfl rfl (by decide +kernel) ⟨Nat.le_of_ble_eq_true rfl, Nat.le_of_ble_eq_true rfl⟩) hom (by decide) rfl hK h hA hE rfl hl.1 rfl (Nat.le_of_ble_eq_true rfl) dL_law_438 ⟨by omega, by omega⟩ (fun b1 wm1 H locs hp h => ?_)
  refine lv_istore (lv' := [(6, .int b1), (5, .int k1), (0, .ref b), (1, .ref x), (2, .ref mm), (3, .ref t), (4, .int i)]) hx hb dL_law_441 hl (by decide) rfl (fun ls hl => ?_)
  refine lv_aload_n hx hb dL_law_443 rfl (lv_at hl 4 rfl) ?_
  obtain ⟨hom, hp⟩ := hp
  refine h2_mod ⟨hx, hb, hml, hown, hts⟩ (k_X10_thrown l G zm wm1 _ mm _ hp) (cwV 0 hts gL_law_X10_thrown rfl rfl rfl (by decide +kernel) ⟨Nat.le_of_ble_eq_true rfl, Nat.le_of_ble_eq_true rfl⟩) hom (by decide) rfl hK h hA hE rfl hl.1 rfl (Nat.le_of_ble_eq_true rfl) dL_law_444 ⟨by omega, by omega⟩ (fun b2 wm2 H locs hp h => ?_)
  refine lv_iload hx hb dL_law_447 (lv_at hl 1 rfl) ?_
  obtain ⟨he, hp⟩ := hp
  refine lv_icmp_eq (tgt := 454) hx hb dL_law_449 (by decide) (fun _ => ?_) (fun hc => absurd he hc)
  refine lv_iload hx hb dL_law_454 (lv_at hl 1 rfl) ?_
  refine lv_if_ne (tgt := 471) hx hb dL_law_456 (by decide) (fun hc => ?_) (fun hc => ?_)
  · have hp := hp.1 hc
    refine lv_goto (tgt := 1881) hx hb dL_law_471 (by decide) ?_
    refine W.widen (k := cells + 4) (n := slots + 24) (by omega) (by omega) ?_
    exact kk _ _ _ _ _ _ _ hp h (lv_sub hl [2, 3, 4, 5, 6] rfl)
  · have hp := hp.2 hc
    refine lv_aload_n hx hb dL_law_459 rfl (lv_at hl 5 rfl) ?_
    refine lv_iconst (v := 0) hx hb dL_law_460 (by decide) ?_
    obtain ⟨hot, hp⟩ := hp
    refine h2_lald hx hb hK h hot vp01 dL_law_461 ?_
    refine lv_iload hx hb dL_law_462 (lv_at hl 0 rfl) ?_
    refine lv_i2l hx hb dL_law_464 rfl ?_
    obtain ⟨he, hp⟩ := hp
    refine W.lcmp hx hb dL_law_465 ?_
    rw [lw_cmp0 he]
    refine lv_if_eq (tgt := 471) hx hb dL_law_466 (by decide) (fun _ => ?_) (fun hc => absurd rfl hc)
    refine lv_goto (tgt := 1881) hx hb dL_law_471 (by decide) ?_
    refine W.widen (k := cells + 4) (n := slots + 24) (by omega) (by omega) ?_
    exact kk _ _ _ _ _ _ _ hp h (lv_sub hl [2, 3, 4, 5, 6] rfl)
def wc_6 (zc : Zt) (wc : Vt) (zm : Zt) (wm : Vt) (x mm t : Nat) (KL : Zt → Vt → Zt → Vt → Prop) : Prop := isO zc 9 x ∧ wp_X9_fault zc x wc (fun r1 wc1 => isO zm 10 mm ∧ wp_X10_fault zm mm wm (fun b1 wm1 => r1 = b1 ∧ KL zc wc1 zm wm1))
set_option maxHeartbeats 4000000 in
set_option maxRecDepth 100000 in
theorem lc_6 (hst : l.stackTraces = false) (F : lwF p s m c b L xs G) {zc zm : Zt} {wc wm : Vt} {x mm t : Nat} {i : Int32} (h : hpH2 G (fun q : Nat => s.heap.size ≤ q) s.heap zc wc zm wm H locs) (hl : lv_has ls 7 [(0, .ref b), (1, .ref x), (2, .ref mm), (3, .ref t), (4, .int i)]) (hc : cells + 4 ≤ room_1.cells) (hs : slots + 24 ≤ room_1.slots) (KL : Zt → Vt → Zt → Vt → Prop) (hp : wc_6 zc wc zm wm x mm t KL)
    (kk : ∀ (zc : Zt) (wc : Vt) (zm : Zt) (wm : Vt) (H : Heap) (locs : List Loc) (ls : Array Slot), KL zc wc zm wm → hpH2 G (fun q : Nat => s.heap.size ≤ q) s.heap zc wc zm wm H locs → lv_has ls 7 [(0, .ref b), (1, .ref x), (2, .ref mm), (3, .ref t), (4, .int i)] → W p l e room_1 s m #[Value.ref b] below meth c H locs (cells + 4) (slots + 24) Q (F0 m 1881 ls [])) : W p l e room_1 s m #[Value.ref b] below meth c H locs cells slots Q (F0 m 474 ls []) := by
  obtain ⟨hx, hb, hml, hown, hts, hX, hbl, hK, hE⟩ := id F
  have hA : ∀ q : Nat, s.heap.size ≤ q → (fun q : Nat => s.heap.size ≤ q) q := fun _ h => h
  refine lv_aload_n hx hb dL_law_474 rfl (lv_at hl 1 rfl) ?_
  obtain ⟨hox, hp⟩ := hp
  refine h2_cls ⟨hx, hb, hml, hown, hts⟩ (k_X9_fault l G zc wc _ x _ hp) (cwV 0 hts gL_law_X9_fault rfl rfl rfl (by decide +kernel) ⟨Nat.le_of_ble_eq_true rfl, Nat.le_of_ble_eq_true rfl⟩) hox (by decide) rfl hK h hA hE rfl hl.1 rfl (Nat.le_of_ble_eq_true rfl) dL_law_475 ⟨by omega, by omega⟩ (fun r1 wc1 H locs hp h => ?_)
  refine lv_aload_n hx hb dL_law_478 rfl (lv_at hl 2 rfl) ?_
  obtain ⟨hom, hp⟩ := hp
  refine h2_mod ⟨hx, hb, hml, hown, hts⟩ (k_X10_fault l G zm wm _ mm _ hp) (cwV 0 hts gL_law_X10_fault rfl rfl rfl (by decide +kernel) ⟨Nat.le_of_ble_eq_true rfl, Nat.le_of_ble_eq_true rfl⟩) hom (by decide) rfl hK h hA hE rfl hl.1 rfl (Nat.le_of_ble_eq_true rfl) dL_law_479 ⟨by omega, by omega⟩ (fun b1 wm1 H locs hp h => ?_)
  obtain ⟨he, hp⟩ := hp
  refine lv_icmp_eq (tgt := 1881) hx hb dL_law_482 (by decide) (fun _ => ?_) (fun hc => absurd he hc)
  refine W.widen (k := cells + 4) (n := slots + 24) (by omega) (by omega) ?_
  exact kk _ _ _ _ _ _ _ hp h (lv_sub hl [0, 1, 2, 3, 4] rfl)
def wc_7 (zc : Zt) (wc : Vt) (zm : Zt) (wm : Vt) (x mm t : Nat) (a1 : Int32) (a2 : Int32) (a3 : Int32) (KL : Zt → Vt → Zt → Vt → Prop) : Prop := wp_L_may zc x a1 a2 a3 t wc (fun k1 zc1 wc1 => isO zm 10 mm ∧ wp_X10_may zm mm a1 a2 a3 wm (fun b1 wm1 => isO zm 10 mm ∧ wp_X10_thrown zm mm wm1 (fun b2 wm2 => b2 = k1 ∧ (¬ k1 = 0 → KL zc1 wc1 zm wm2) ∧ (k1 = 0 → isO zc1 3000 t ∧ (b1 = 0 → (vL wc1 3000 t (0 : Int32).toNatClampNeg) = 0 ∧ KL zc1 wc1 zm wm2) ∧ (¬ b1 = 0 → (vL wc1 3000 t (0 : Int32).toNatClampNeg) = 1 ∧ KL zc1 wc1 zm wm2)))))
set_option maxHeartbeats 4000000 in
set_option maxRecDepth 100000 in
theorem lc_7 (hst : l.stackTraces = false) (F : lwF p s m c b L xs G) {zc zm : Zt} {wc wm : Vt} {x mm t : Nat} {i : Int32} {a1 : Int32} {a2 : Int32} {a3 : Int32} (hin1 : vp_in (i + 1) L) (hin2 : vp_in (i + 2) L) (hin3 : vp_in (i + 3) L) (ha1 : xs (i + 1).toNatClampNeg = a1) (ha2 : xs (i + 2).toNatClampNeg = a2) (ha3 : xs (i + 3).toNatClampNeg = a3) (h : hpH2 G (fun q : Nat => s.heap.size ≤ q) s.heap zc wc zm wm H locs) (hl : lv_has ls 7 [(0, .ref b), (1, .ref x), (2, .ref mm), (3, .ref t), (4, .int i)]) (hc : cells + 4 ≤ room_1.cells) (hs : slots + 24 ≤ room_1.slots) (KL : Zt → Vt → Zt → Vt → Prop) (hp : wc_7 zc wc zm wm x mm t a1 a2 a3 KL)
    (kk : ∀ (zc : Zt) (wc : Vt) (zm : Zt) (wm : Vt) (H : Heap) (locs : List Loc) (ls : Array Slot), KL zc wc zm wm → hpH2 G (fun q : Nat => s.heap.size ≤ q) s.heap zc wc zm wm H locs → lv_has ls 7 [(0, .ref b), (1, .ref x), (2, .ref mm), (3, .ref t), (4, .int i)] → W p l e room_1 s m #[Value.ref b] below meth c H locs (cells + 4) (slots + 24) Q (F0 m 1881 ls [])) : W p l e room_1 s m #[Value.ref b] below meth c H locs cells slots Q (F0 m 487 ls []) := by
  obtain ⟨hx, hb, hml, hown, hts, hX, hbl, hK, hE⟩ := id F
  have hA : ∀ q : Nat, s.heap.size ≤ q → (fun q : Nat => s.heap.size ≤ q) q := fun _ h => h
  refine lv_aload_n hx hb dL_law_487 rfl (lv_at hl 1 rfl) ?_
  refine lv_aload_n hx hb dL_law_488 rfl (lv_at hl 0 rfl) ?_
  refine lv_iload hx hb dL_law_489 (lv_at hl 4 rfl) ?_
  refine lv_iconst (v := 1) hx hb dL_law_491 (by decide) ?_
  refine lv_iadd hx hb dL_law_492 ?_
  refine lw_sld F h hin1 ha1 dL_law_493 ?_
  refine lv_aload_n hx hb dL_law_494 rfl (lv_at hl 0 rfl) ?_
  refine lv_iload hx hb dL_law_495 (lv_at hl 4 rfl) ?_
  refine lv_iconst (v := 2) hx hb dL_law_497 (by decide) ?_
  refine lv_iadd hx hb dL_law_498 ?_
  refine lw_sld F h hin2 ha2 dL_law_499 ?_
  refine lv_aload_n hx hb dL_law_500 rfl (lv_at hl 0 rfl) ?_
  refine lv_iload hx hb dL_law_501 (lv_at hl 4 rfl) ?_
  refine lv_iconst (v := 3) hx hb dL_law_503 (by decide) ?_
  refine lv_iadd hx hb dL_law_504 ?_
  refine lw_sld F h hin3 ha3 dL_law_505 ?_
  refine lv_aload_n hx hb dL_law_506 rfl (lv_at hl 3 rfl) ?_
  refine h2_wrap ⟨hx, hb, hml, hown, hts⟩ (k_L_may l hst G zc wc _ x a1 a2 a3 t _ hp) (vx_cwSW 5 hts gL_law_L_may rfl rfl rfl (by decide +kernel) ⟨Nat.le_of_ble_eq_true rfl, Nat.le_of_ble_eq_true rfl⟩) hK h hA hE rfl hl.1 rfl (Nat.le_of_ble_eq_true rfl) dL_law_507 ⟨by omega, by omega⟩ (fun k1 zc1 wc1 H locs hp h => ?_)
  refine lv_istore (lv' := [(5, .int k1), (0, .ref b), (1, .ref x), (2, .ref mm), (3, .ref t), (4, .int i)]) hx hb dL_law_510 hl (by decide) rfl (fun ls hl => ?_)
  refine lv_aload_n hx hb dL_law_512 rfl (lv_at hl 3 rfl) ?_
  refine lv_aload_n hx hb dL_law_513 rfl (lv_at hl 1 rfl) ?_
  refine lv_iload hx hb dL_law_514 (lv_at hl 5 rfl) ?_
  refine lv_iconst (v := 1) hx hb dL_law_516 (by decide) ?_
  refine lv_iadd hx hb dL_law_517 ?_
  refine lw_sld F h hin1 ha1 dL_law_518 ?_
  refine lv_aload_n hx hb dL_law_519 rfl (lv_at hl 1 rfl) ?_
  refine lv_iload hx hb dL_law_520 (lv_at hl 5 rfl) ?_
  refine lv_iconst (v := 2) hx hb dL_law_522 (by decide) ?_
  refine lv_iadd hx hb dL_law_523 ?_
  refine lw_sld F h hin2 ha2 dL_law_524 ?_
  refine lv_aload_n hx hb dL_law_525 rfl (lv_at hl 1 rfl) ?_
  refine lv_iload hx hb dL_law_526 (lv_at hl 5 rfl) ?_
  refine lv_iconst (v := 3) hx hb dL_law_528 (by decide) ?_
  refine lv_iadd hx hb dL_law_529 ?_
  refine lw_sld F h hin3 ha3 dL_law_530 ?_
  obtain ⟨hom, hp⟩ := hp
  refine h2_mod ⟨hx, hb, hml, hown, hts⟩ (k_X10_may l G zm wm _ mm a1 a2 a3 _ hp) (cwV 3 hts gL_law_X10_may rfl rfl rfl (by decide +kernel) ⟨Nat.le_of_ble_eq_true rfl, Nat.le_of_ble_eq_true rfl⟩) hom (by decide) rfl hK h hA hE rfl hl.1 rfl (Nat.le_of_ble_eq_true rfl) dL_law_531 ⟨by omega, by omega⟩ (fun b1 wm1 H locs hp h => ?_)
  refine lv_istore (lv' := [(6, .int b1), (5, .int k1), (0, .ref b), (1, .ref x), (2, .ref mm), (3, .ref t), (4, .int i)]) hx hb dL_law_534 hl (by decide) rfl (fun ls hl => ?_)
  refine lv_aload_n hx hb dL_law_536 rfl (lv_at hl 4 rfl) ?_
  obtain ⟨hom, hp⟩ := hp
  refine h2_mod ⟨hx, hb, hml, hown, hts⟩ (k_X10_thrown l G zm wm1 _ mm _ hp) (cwV 0 hts gL_law_X10_thrown rfl rfl rfl (by decide +kernel) ⟨Nat.le_of_ble_eq_true rfl, Nat.le_of_ble_eq_true rfl⟩) hom (by decide) rfl hK h hA hE rfl hl.1 rfl (Nat.le_of_ble_eq_true rfl) dL_law_537 ⟨by omega, by omega⟩ (fun b2 wm2 H locs hp h => ?_)
  refine lv_iload hx hb dL_law_540 (lv_at hl 1 rfl) ?_
  obtain ⟨he, hp⟩ := hp
  refine lv_icmp_eq (tgt := 547) hx hb dL_law_542 (by decide) (fun _ => ?_) (fun hc => absurd he hc)
  refine lv_iload hx hb dL_law_547 (lv_at hl 1 rfl) ?_
  refine lv_if_ne (tgt := 571) hx hb dL_law_549 (by decide) (fun hc => ?_) (fun hc => ?_)
  · have hp := hp.1 hc
    refine lv_goto (tgt := 1881) hx hb dL_law_571 (by decide) ?_
    refine W.widen (k := cells + 4) (n := slots + 24) (by omega) (by omega) ?_
    exact kk _ _ _ _ _ _ _ hp h (lv_sub hl [2, 3, 4, 5, 6] rfl)
  · have hp := hp.2 hc
    refine lv_aload_n hx hb dL_law_552 rfl (lv_at hl 5 rfl) ?_
    refine lv_iconst (v := 0) hx hb dL_law_553 (by decide) ?_
    obtain ⟨hot, hp⟩ := hp
    refine h2_lald hx hb hK h hot vp01 dL_law_554 ?_
    refine lv_iload hx hb dL_law_555 (lv_at hl 0 rfl) ?_
    refine lv_if_eq (tgt := 564) hx hb dL_law_557 (by decide) (fun hcb1 => ?_) (fun hcb1 => ?_)
    · have hp := hp.1 hcb1
      refine lv_lconst (v := 0) hx hb dL_law_564 (by decide) ?_
      obtain ⟨he, hp⟩ := hp
      refine W.lcmp hx hb dL_law_565 ?_
      rw [lw_cmp0 he]
      refine lv_if_eq (tgt := 571) hx hb dL_law_566 (by decide) (fun _ => ?_) (fun hc => absurd rfl hc)
      refine lv_goto (tgt := 1881) hx hb dL_law_571 (by decide) ?_
      refine W.widen (k := cells + 4) (n := slots + 24) (by omega) (by omega) ?_
      exact kk _ _ _ _ _ _ _ hp h (lv_sub hl [2, 3, 4, 5, 6] rfl)
    · have hp := hp.2 hcb1
      refine lv_lconst (v := 1) hx hb dL_law_560 (by decide) ?_
      refine lv_goto (tgt := 565) hx hb dL_law_561 (by decide) ?_
      obtain ⟨he, hp⟩ := hp
      refine W.lcmp hx hb dL_law_565 ?_
      rw [lw_cmp0 he]
      refine lv_if_eq (tgt := 571) hx hb dL_law_566 (by decide) (fun _ => ?_) (fun hc => absurd rfl hc)
      refine lv_goto (tgt := 1881) hx hb dL_law_571 (by decide) ?_
      refine W.widen (k := cells + 4) (n := slots + 24) (by omega) (by omega) ?_
      exact kk _ _ _ _ _ _ _ hp h (lv_sub hl [2, 3, 4, 5, 6] rfl)
def wc_8 (zc : Zt) (wc : Vt) (zm : Zt) (wm : Vt) (x mm t : Nat) (a1 : Int32) (a2 : Int32) (a3 : Int32) (a4 : Int32) (KL : Zt → Vt → Zt → Vt → Prop) : Prop := wp_L_day zc x a1 a2 a3 a4 t wc (fun k1 zc1 wc1 => isO zm 10 mm ∧ wp_X10_day zm mm a1 a2 a3 a4 wm (fun b1 wm1 => isO zm 10 mm ∧ wp_X10_thrown zm mm wm1 (fun b2 wm2 => b2 = k1 ∧ (¬ k1 = 0 → KL zc1 wc1 zm wm2) ∧ (k1 = 0 → isO zc1 3000 t ∧ (vL wc1 3000 t (0 : Int32).toNatClampNeg) = (b1 : Int32).toInt64 ∧ KL zc1 wc1 zm wm2))))
set_option maxHeartbeats 4000000 in
set_option maxRecDepth 100000 in
theorem lc_8 (hst : l.stackTraces = false) (F : lwF p s m c b L xs G) {zc zm : Zt} {wc wm : Vt} {x mm t : Nat} {i : Int32} {a1 : Int32} {a2 : Int32} {a3 : Int32} {a4 : Int32} (hin1 : vp_in (i + 1) L) (hin2 : vp_in (i + 2) L) (hin3 : vp_in (i + 3) L) (hin4 : vp_in (i + 4) L) (ha1 : xs (i + 1).toNatClampNeg = a1) (ha2 : xs (i + 2).toNatClampNeg = a2) (ha3 : xs (i + 3).toNatClampNeg = a3) (ha4 : xs (i + 4).toNatClampNeg = a4) (h : hpH2 G (fun q : Nat => s.heap.size ≤ q) s.heap zc wc zm wm H locs) (hl : lv_has ls 7 [(0, .ref b), (1, .ref x), (2, .ref mm), (3, .ref t), (4, .int i)]) (hc : cells + 4 ≤ room_1.cells) (hs : slots + 24 ≤ room_1.slots) (KL : Zt → Vt → Zt → Vt → Prop) (hp : wc_8 zc wc zm wm x mm t a1 a2 a3 a4 KL)
    (kk : ∀ (zc : Zt) (wc : Vt) (zm : Zt) (wm : Vt) (H : Heap) (locs : List Loc) (ls : Array Slot), KL zc wc zm wm → hpH2 G (fun q : Nat => s.heap.size ≤ q) s.heap zc wc zm wm H locs → lv_has ls 7 [(0, .ref b), (1, .ref x), (2, .ref mm), (3, .ref t), (4, .int i)] → W p l e room_1 s m #[Value.ref b] below meth c H locs (cells + 4) (slots + 24) Q (F0 m 1881 ls [])) : W p l e room_1 s m #[Value.ref b] below meth c H locs cells slots Q (F0 m 574 ls []) := by
  obtain ⟨hx, hb, hml, hown, hts, hX, hbl, hK, hE⟩ := id F
  have hA : ∀ q : Nat, s.heap.size ≤ q → (fun q : Nat => s.heap.size ≤ q) q := fun _ h => h
  refine lv_aload_n hx hb dL_law_574 rfl (lv_at hl 1 rfl) ?_
  refine lv_aload_n hx hb dL_law_575 rfl (lv_at hl 0 rfl) ?_
  refine lv_iload hx hb dL_law_576 (lv_at hl 4 rfl) ?_
  refine lv_iconst (v := 1) hx hb dL_law_578 (by decide) ?_
  refine lv_iadd hx hb dL_law_579 ?_
  refine lw_sld F h hin1 ha1 dL_law_580 ?_
  refine lv_aload_n hx hb dL_law_581 rfl (lv_at hl 0 rfl) ?_
  refine lv_iload hx hb dL_law_582 (lv_at hl 4 rfl) ?_
  refine lv_iconst (v := 2) hx hb dL_law_584 (by decide) ?_
  refine lv_iadd hx hb dL_law_585 ?_
  refine lw_sld F h hin2 ha2 dL_law_586 ?_
  refine lv_aload_n hx hb dL_law_587 rfl (lv_at hl 0 rfl) ?_
  refine lv_iload hx hb dL_law_588 (lv_at hl 4 rfl) ?_
  refine lv_iconst (v := 3) hx hb dL_law_590 (by decide) ?_
  refine lv_iadd hx hb dL_law_591 ?_
  refine lw_sld F h hin3 ha3 dL_law_592 ?_
  refine lv_aload_n hx hb dL_law_593 rfl (lv_at hl 0 rfl) ?_
  refine lv_iload hx hb dL_law_594 (lv_at hl 4 rfl) ?_
  refine lv_iconst (v := 4) hx hb dL_law_596 (by decide) ?_
  refine lv_iadd hx hb dL_law_597 ?_
  refine lw_sld F h hin4 ha4 dL_law_598 ?_
  refine lv_aload_n hx hb dL_law_599 rfl (lv_at hl 3 rfl) ?_
  refine h2_wrap ⟨hx, hb, hml, hown, hts⟩ (k_L_day l hst G zc wc _ x a1 a2 a3 a4 t _ hp) (vx_cwSW 6 hts gL_law_L_day rfl rfl rfl (by decide +kernel) ⟨Nat.le_of_ble_eq_true rfl, Nat.le_of_ble_eq_true rfl⟩) hK h hA hE rfl hl.1 rfl (Nat.le_of_ble_eq_true rfl) dL_law_600 ⟨by omega, by omega⟩ (fun k1 zc1 wc1 H locs hp h => ?_)
  refine lv_istore (lv' := [(5, .int k1), (0, .ref b), (1, .ref x), (2, .ref mm), (3, .ref t), (4, .int i)]) hx hb dL_law_603 hl (by decide) rfl (fun ls hl => ?_)
  refine lv_aload_n hx hb dL_law_605 rfl (lv_at hl 3 rfl) ?_
  refine lv_aload_n hx hb dL_law_606 rfl (lv_at hl 1 rfl) ?_
  refine lv_iload hx hb dL_law_607 (lv_at hl 5 rfl) ?_
  refine lv_iconst (v := 1) hx hb dL_law_609 (by decide) ?_
  refine lv_iadd hx hb dL_law_610 ?_
  refine lw_sld F h hin1 ha1 dL_law_611 ?_
  refine lv_aload_n hx hb dL_law_612 rfl (lv_at hl 1 rfl) ?_
  refine lv_iload hx hb dL_law_613 (lv_at hl 5 rfl) ?_
  refine lv_iconst (v := 2) hx hb dL_law_615 (by decide) ?_
  refine lv_iadd hx hb dL_law_616 ?_
  refine lw_sld F h hin2 ha2 dL_law_617 ?_
  refine lv_aload_n hx hb dL_law_618 rfl (lv_at hl 1 rfl) ?_
  refine lv_iload hx hb dL_law_619 (lv_at hl 5 rfl) ?_
  refine lv_iconst (v := 3) hx hb dL_law_621 (by decide) ?_
  refine lv_iadd hx hb dL_law_622 ?_
  refine lw_sld F h hin3 ha3 dL_law_623 ?_
  refine lv_aload_n hx hb dL_law_624 rfl (lv_at hl 1 rfl) ?_
  refine lv_iload hx hb dL_law_625 (lv_at hl 5 rfl) ?_
  refine lv_iconst (v := 4) hx hb dL_law_627 (by decide) ?_
  refine lv_iadd hx hb dL_law_628 ?_
  refine lw_sld F h hin4 ha4 dL_law_629 ?_
  obtain ⟨hom, hp⟩ := hp
  refine h2_mod ⟨hx, hb, hml, hown, hts⟩ (k_X10_day l G zm wm _ mm a1 a2 a3 a4 _ hp) (cwV 4 hts gL_law_X10_day rfl rfl rfl (by decide +kernel) ⟨Nat.le_of_ble_eq_true rfl, Nat.le_of_ble_eq_true rfl⟩) hom (by decide) rfl hK h hA hE rfl hl.1 rfl (Nat.le_of_ble_eq_true rfl) dL_law_630 ⟨by omega, by omega⟩ (fun b1 wm1 H locs hp h => ?_)
  refine lv_istore (lv' := [(6, .int b1), (5, .int k1), (0, .ref b), (1, .ref x), (2, .ref mm), (3, .ref t), (4, .int i)]) hx hb dL_law_633 hl (by decide) rfl (fun ls hl => ?_)
  refine lv_aload_n hx hb dL_law_635 rfl (lv_at hl 4 rfl) ?_
  obtain ⟨hom, hp⟩ := hp
  refine h2_mod ⟨hx, hb, hml, hown, hts⟩ (k_X10_thrown l G zm wm1 _ mm _ hp) (cwV 0 hts gL_law_X10_thrown rfl rfl rfl (by decide +kernel) ⟨Nat.le_of_ble_eq_true rfl, Nat.le_of_ble_eq_true rfl⟩) hom (by decide) rfl hK h hA hE rfl hl.1 rfl (Nat.le_of_ble_eq_true rfl) dL_law_636 ⟨by omega, by omega⟩ (fun b2 wm2 H locs hp h => ?_)
  refine lv_iload hx hb dL_law_639 (lv_at hl 1 rfl) ?_
  obtain ⟨he, hp⟩ := hp
  refine lv_icmp_eq (tgt := 646) hx hb dL_law_641 (by decide) (fun _ => ?_) (fun hc => absurd he hc)
  refine lv_iload hx hb dL_law_646 (lv_at hl 1 rfl) ?_
  refine lv_if_ne (tgt := 663) hx hb dL_law_648 (by decide) (fun hc => ?_) (fun hc => ?_)
  · have hp := hp.1 hc
    refine lv_goto (tgt := 1881) hx hb dL_law_663 (by decide) ?_
    refine W.widen (k := cells + 4) (n := slots + 24) (by omega) (by omega) ?_
    exact kk _ _ _ _ _ _ _ hp h (lv_sub hl [2, 3, 4, 5, 6] rfl)
  · have hp := hp.2 hc
    refine lv_aload_n hx hb dL_law_651 rfl (lv_at hl 5 rfl) ?_
    refine lv_iconst (v := 0) hx hb dL_law_652 (by decide) ?_
    obtain ⟨hot, hp⟩ := hp
    refine h2_lald hx hb hK h hot vp01 dL_law_653 ?_
    refine lv_iload hx hb dL_law_654 (lv_at hl 0 rfl) ?_
    refine lv_i2l hx hb dL_law_656 rfl ?_
    obtain ⟨he, hp⟩ := hp
    refine W.lcmp hx hb dL_law_657 ?_
    rw [lw_cmp0 he]
    refine lv_if_eq (tgt := 663) hx hb dL_law_658 (by decide) (fun _ => ?_) (fun hc => absurd rfl hc)
    refine lv_goto (tgt := 1881) hx hb dL_law_663 (by decide) ?_
    refine W.widen (k := cells + 4) (n := slots + 24) (by omega) (by omega) ?_
    exact kk _ _ _ _ _ _ _ hp h (lv_sub hl [2, 3, 4, 5, 6] rfl)
def wc_9 (zc : Zt) (wc : Vt) (zm : Zt) (wm : Vt) (x mm t : Nat) (a1 : Int32) (a2 : Int32) (a3 : Int32) (a4 : Int32) (KL : Zt → Vt → Zt → Vt → Prop) : Prop := wp_L_cut zc x a1 a2 a3 a4 t wc (fun k1 zc1 wc1 => isO zm 10 mm ∧ wp_X10_cut zm mm a1 a2 a3 a4 wm (fun b1 wm1 => isO zm 10 mm ∧ wp_X10_thrown zm mm wm1 (fun b2 wm2 => b2 = k1 ∧ (¬ k1 = 0 → KL zc1 wc1 zm wm2) ∧ (k1 = 0 → isO zc1 3000 t ∧ (vL wc1 3000 t (0 : Int32).toNatClampNeg) = (b1 : Int32).toInt64 ∧ KL zc1 wc1 zm wm2))))
set_option maxHeartbeats 4000000 in
set_option maxRecDepth 100000 in
theorem lc_9 (hst : l.stackTraces = false) (F : lwF p s m c b L xs G) {zc zm : Zt} {wc wm : Vt} {x mm t : Nat} {i : Int32} {a1 : Int32} {a2 : Int32} {a3 : Int32} {a4 : Int32} (hin1 : vp_in (i + 1) L) (hin2 : vp_in (i + 2) L) (hin3 : vp_in (i + 3) L) (hin4 : vp_in (i + 4) L) (ha1 : xs (i + 1).toNatClampNeg = a1) (ha2 : xs (i + 2).toNatClampNeg = a2) (ha3 : xs (i + 3).toNatClampNeg = a3) (ha4 : xs (i + 4).toNatClampNeg = a4) (h : hpH2 G (fun q : Nat => s.heap.size ≤ q) s.heap zc wc zm wm H locs) (hl : lv_has ls 7 [(0, .ref b), (1, .ref x), (2, .ref mm), (3, .ref t), (4, .int i)]) (hc : cells + 4 ≤ room_1.cells) (hs : slots + 24 ≤ room_1.slots) (KL : Zt → Vt → Zt → Vt → Prop) (hp : wc_9 zc wc zm wm x mm t a1 a2 a3 a4 KL)
    (kk : ∀ (zc : Zt) (wc : Vt) (zm : Zt) (wm : Vt) (H : Heap) (locs : List Loc) (ls : Array Slot), KL zc wc zm wm → hpH2 G (fun q : Nat => s.heap.size ≤ q) s.heap zc wc zm wm H locs → lv_has ls 7 [(0, .ref b), (1, .ref x), (2, .ref mm), (3, .ref t), (4, .int i)] → W p l e room_1 s m #[Value.ref b] below meth c H locs (cells + 4) (slots + 24) Q (F0 m 1881 ls [])) : W p l e room_1 s m #[Value.ref b] below meth c H locs cells slots Q (F0 m 666 ls []) := by
  obtain ⟨hx, hb, hml, hown, hts, hX, hbl, hK, hE⟩ := id F
  have hA : ∀ q : Nat, s.heap.size ≤ q → (fun q : Nat => s.heap.size ≤ q) q := fun _ h => h
  refine lv_aload_n hx hb dL_law_666 rfl (lv_at hl 1 rfl) ?_
  refine lv_aload_n hx hb dL_law_667 rfl (lv_at hl 0 rfl) ?_
  refine lv_iload hx hb dL_law_668 (lv_at hl 4 rfl) ?_
  refine lv_iconst (v := 1) hx hb dL_law_670 (by decide) ?_
  refine lv_iadd hx hb dL_law_671 ?_
  refine lw_sld F h hin1 ha1 dL_law_672 ?_
  refine lv_aload_n hx hb dL_law_673 rfl (lv_at hl 0 rfl) ?_
  refine lv_iload hx hb dL_law_674 (lv_at hl 4 rfl) ?_
  refine lv_iconst (v := 2) hx hb dL_law_676 (by decide) ?_
  refine lv_iadd hx hb dL_law_677 ?_
  refine lw_sld F h hin2 ha2 dL_law_678 ?_
  refine lv_aload_n hx hb dL_law_679 rfl (lv_at hl 0 rfl) ?_
  refine lv_iload hx hb dL_law_680 (lv_at hl 4 rfl) ?_
  refine lv_iconst (v := 3) hx hb dL_law_682 (by decide) ?_
  refine lv_iadd hx hb dL_law_683 ?_
  refine lw_sld F h hin3 ha3 dL_law_684 ?_
  refine lv_aload_n hx hb dL_law_685 rfl (lv_at hl 0 rfl) ?_
  refine lv_iload hx hb dL_law_686 (lv_at hl 4 rfl) ?_
  refine lv_iconst (v := 4) hx hb dL_law_688 (by decide) ?_
  refine lv_iadd hx hb dL_law_689 ?_
  refine lw_sld F h hin4 ha4 dL_law_690 ?_
  refine lv_aload_n hx hb dL_law_691 rfl (lv_at hl 3 rfl) ?_
  refine h2_wrap ⟨hx, hb, hml, hown, hts⟩ (k_L_cut l hst G zc wc _ x a1 a2 a3 a4 t _ hp) (vx_cwSW 6 hts gL_law_L_cut rfl rfl rfl (by decide +kernel) ⟨Nat.le_of_ble_eq_true rfl, Nat.le_of_ble_eq_true rfl⟩) hK h hA hE rfl hl.1 rfl (Nat.le_of_ble_eq_true rfl) dL_law_692 ⟨by omega, by omega⟩ (fun k1 zc1 wc1 H locs hp h => ?_)
  refine lv_istore (lv' := [(5, .int k1), (0, .ref b), (1, .ref x), (2, .ref mm), (3, .ref t), (4, .int i)]) hx hb dL_law_695 hl (by decide) rfl (fun ls hl => ?_)
  refine lv_aload_n hx hb dL_law_697 rfl (lv_at hl 3 rfl) ?_
  refine lv_aload_n hx hb dL_law_698 rfl (lv_at hl 1 rfl) ?_
  refine lv_iload hx hb dL_law_699 (lv_at hl 5 rfl) ?_
  refine lv_iconst (v := 1) hx hb dL_law_701 (by decide) ?_
  refine lv_iadd hx hb dL_law_702 ?_
  refine lw_sld F h hin1 ha1 dL_law_703 ?_
  refine lv_aload_n hx hb dL_law_704 rfl (lv_at hl 1 rfl) ?_
  refine lv_iload hx hb dL_law_705 (lv_at hl 5 rfl) ?_
  refine lv_iconst (v := 2) hx hb dL_law_707 (by decide) ?_
  refine lv_iadd hx hb dL_law_708 ?_
  refine lw_sld F h hin2 ha2 dL_law_709 ?_
  refine lv_aload_n hx hb dL_law_710 rfl (lv_at hl 1 rfl) ?_
  refine lv_iload hx hb dL_law_711 (lv_at hl 5 rfl) ?_
  refine lv_iconst (v := 3) hx hb dL_law_713 (by decide) ?_
  refine lv_iadd hx hb dL_law_714 ?_
  refine lw_sld F h hin3 ha3 dL_law_715 ?_
  refine lv_aload_n hx hb dL_law_716 rfl (lv_at hl 1 rfl) ?_
  refine lv_iload hx hb dL_law_717 (lv_at hl 5 rfl) ?_
  refine lv_iconst (v := 4) hx hb dL_law_719 (by decide) ?_
  refine lv_iadd hx hb dL_law_720 ?_
  refine lw_sld F h hin4 ha4 dL_law_721 ?_
  obtain ⟨hom, hp⟩ := hp
  refine h2_mod ⟨hx, hb, hml, hown, hts⟩ (k_X10_cut l G zm wm _ mm a1 a2 a3 a4 _ hp) (cwV 4 hts gL_law_X10_cut rfl rfl rfl (by decide +kernel) ⟨Nat.le_of_ble_eq_true rfl, Nat.le_of_ble_eq_true rfl⟩) hom (by decide) rfl hK h hA hE rfl hl.1 rfl (Nat.le_of_ble_eq_true rfl) dL_law_722 ⟨by omega, by omega⟩ (fun b1 wm1 H locs hp h => ?_)
  refine lv_istore (lv' := [(6, .int b1), (5, .int k1), (0, .ref b), (1, .ref x), (2, .ref mm), (3, .ref t), (4, .int i)]) hx hb dL_law_725 hl (by decide) rfl (fun ls hl => ?_)
  refine lv_aload_n hx hb dL_law_727 rfl (lv_at hl 4 rfl) ?_
  obtain ⟨hom, hp⟩ := hp
  refine h2_mod ⟨hx, hb, hml, hown, hts⟩ (k_X10_thrown l G zm wm1 _ mm _ hp) (cwV 0 hts gL_law_X10_thrown rfl rfl rfl (by decide +kernel) ⟨Nat.le_of_ble_eq_true rfl, Nat.le_of_ble_eq_true rfl⟩) hom (by decide) rfl hK h hA hE rfl hl.1 rfl (Nat.le_of_ble_eq_true rfl) dL_law_728 ⟨by omega, by omega⟩ (fun b2 wm2 H locs hp h => ?_)
  refine lv_iload hx hb dL_law_731 (lv_at hl 1 rfl) ?_
  obtain ⟨he, hp⟩ := hp
  refine lv_icmp_eq (tgt := 738) hx hb dL_law_733 (by decide) (fun _ => ?_) (fun hc => absurd he hc)
  refine lv_iload hx hb dL_law_738 (lv_at hl 1 rfl) ?_
  refine lv_if_ne (tgt := 755) hx hb dL_law_740 (by decide) (fun hc => ?_) (fun hc => ?_)
  · have hp := hp.1 hc
    refine lv_goto (tgt := 1881) hx hb dL_law_755 (by decide) ?_
    refine W.widen (k := cells + 4) (n := slots + 24) (by omega) (by omega) ?_
    exact kk _ _ _ _ _ _ _ hp h (lv_sub hl [2, 3, 4, 5, 6] rfl)
  · have hp := hp.2 hc
    refine lv_aload_n hx hb dL_law_743 rfl (lv_at hl 5 rfl) ?_
    refine lv_iconst (v := 0) hx hb dL_law_744 (by decide) ?_
    obtain ⟨hot, hp⟩ := hp
    refine h2_lald hx hb hK h hot vp01 dL_law_745 ?_
    refine lv_iload hx hb dL_law_746 (lv_at hl 0 rfl) ?_
    refine lv_i2l hx hb dL_law_748 rfl ?_
    obtain ⟨he, hp⟩ := hp
    refine W.lcmp hx hb dL_law_749 ?_
    rw [lw_cmp0 he]
    refine lv_if_eq (tgt := 755) hx hb dL_law_750 (by decide) (fun _ => ?_) (fun hc => absurd rfl hc)
    refine lv_goto (tgt := 1881) hx hb dL_law_755 (by decide) ?_
    refine W.widen (k := cells + 4) (n := slots + 24) (by omega) (by omega) ?_
    exact kk _ _ _ _ _ _ _ hp h (lv_sub hl [2, 3, 4, 5, 6] rfl)
def wc_10 (zc : Zt) (wc : Vt) (zm : Zt) (wm : Vt) (x mm t : Nat) (a1 : Int32) (a2 : Int32) (a3 : Int32) (KL : Zt → Vt → Zt → Vt → Prop) : Prop := wp_L_gather zc x a1 a2 a3 t wc (fun k1 zc1 wc1 => isO zm 10 mm ∧ wp_X10_gather zm mm a1 a2 a3 wm (fun b1 wm1 => isO zm 10 mm ∧ wp_X10_thrown zm mm wm1 (fun b2 wm2 => b2 = k1 ∧ (¬ k1 = 0 → KL zc1 wc1 zm wm2) ∧ (k1 = 0 → isO zc1 3000 t ∧ (vL wc1 3000 t (0 : Int32).toNatClampNeg) = (b1 : Int32).toInt64 ∧ KL zc1 wc1 zm wm2))))
set_option maxHeartbeats 4000000 in
set_option maxRecDepth 100000 in
theorem lc_10 (hst : l.stackTraces = false) (F : lwF p s m c b L xs G) {zc zm : Zt} {wc wm : Vt} {x mm t : Nat} {i : Int32} {a1 : Int32} {a2 : Int32} {a3 : Int32} (hin1 : vp_in (i + 1) L) (hin2 : vp_in (i + 2) L) (hin3 : vp_in (i + 3) L) (ha1 : xs (i + 1).toNatClampNeg = a1) (ha2 : xs (i + 2).toNatClampNeg = a2) (ha3 : xs (i + 3).toNatClampNeg = a3) (h : hpH2 G (fun q : Nat => s.heap.size ≤ q) s.heap zc wc zm wm H locs) (hl : lv_has ls 7 [(0, .ref b), (1, .ref x), (2, .ref mm), (3, .ref t), (4, .int i)]) (hc : cells + 4 ≤ room_1.cells) (hs : slots + 24 ≤ room_1.slots) (KL : Zt → Vt → Zt → Vt → Prop) (hp : wc_10 zc wc zm wm x mm t a1 a2 a3 KL)
    (kk : ∀ (zc : Zt) (wc : Vt) (zm : Zt) (wm : Vt) (H : Heap) (locs : List Loc) (ls : Array Slot), KL zc wc zm wm → hpH2 G (fun q : Nat => s.heap.size ≤ q) s.heap zc wc zm wm H locs → lv_has ls 7 [(0, .ref b), (1, .ref x), (2, .ref mm), (3, .ref t), (4, .int i)] → W p l e room_1 s m #[Value.ref b] below meth c H locs (cells + 4) (slots + 24) Q (F0 m 1881 ls [])) : W p l e room_1 s m #[Value.ref b] below meth c H locs cells slots Q (F0 m 758 ls []) := by
  obtain ⟨hx, hb, hml, hown, hts, hX, hbl, hK, hE⟩ := id F
  have hA : ∀ q : Nat, s.heap.size ≤ q → (fun q : Nat => s.heap.size ≤ q) q := fun _ h => h
  refine lv_aload_n hx hb dL_law_758 rfl (lv_at hl 1 rfl) ?_
  refine lv_aload_n hx hb dL_law_759 rfl (lv_at hl 0 rfl) ?_
  refine lv_iload hx hb dL_law_760 (lv_at hl 4 rfl) ?_
  refine lv_iconst (v := 1) hx hb dL_law_762 (by decide) ?_
  refine lv_iadd hx hb dL_law_763 ?_
  refine lw_sld F h hin1 ha1 dL_law_764 ?_
  refine lv_aload_n hx hb dL_law_765 rfl (lv_at hl 0 rfl) ?_
  refine lv_iload hx hb dL_law_766 (lv_at hl 4 rfl) ?_
  refine lv_iconst (v := 2) hx hb dL_law_768 (by decide) ?_
  refine lv_iadd hx hb dL_law_769 ?_
  refine lw_sld F h hin2 ha2 dL_law_770 ?_
  refine lv_aload_n hx hb dL_law_771 rfl (lv_at hl 0 rfl) ?_
  refine lv_iload hx hb dL_law_772 (lv_at hl 4 rfl) ?_
  refine lv_iconst (v := 3) hx hb dL_law_774 (by decide) ?_
  refine lv_iadd hx hb dL_law_775 ?_
  refine lw_sld F h hin3 ha3 dL_law_776 ?_
  refine lv_aload_n hx hb dL_law_777 rfl (lv_at hl 3 rfl) ?_
  refine h2_wrap ⟨hx, hb, hml, hown, hts⟩ (k_L_gather l hst G zc wc _ x a1 a2 a3 t _ hp) (vx_cwSW 5 hts gL_law_L_gather rfl rfl rfl (by decide +kernel) ⟨Nat.le_of_ble_eq_true rfl, Nat.le_of_ble_eq_true rfl⟩) hK h hA hE rfl hl.1 rfl (Nat.le_of_ble_eq_true rfl) dL_law_778 ⟨by omega, by omega⟩ (fun k1 zc1 wc1 H locs hp h => ?_)
  refine lv_istore (lv' := [(5, .int k1), (0, .ref b), (1, .ref x), (2, .ref mm), (3, .ref t), (4, .int i)]) hx hb dL_law_781 hl (by decide) rfl (fun ls hl => ?_)
  refine lv_aload_n hx hb dL_law_783 rfl (lv_at hl 3 rfl) ?_
  refine lv_aload_n hx hb dL_law_784 rfl (lv_at hl 1 rfl) ?_
  refine lv_iload hx hb dL_law_785 (lv_at hl 5 rfl) ?_
  refine lv_iconst (v := 1) hx hb dL_law_787 (by decide) ?_
  refine lv_iadd hx hb dL_law_788 ?_
  refine lw_sld F h hin1 ha1 dL_law_789 ?_
  refine lv_aload_n hx hb dL_law_790 rfl (lv_at hl 1 rfl) ?_
  refine lv_iload hx hb dL_law_791 (lv_at hl 5 rfl) ?_
  refine lv_iconst (v := 2) hx hb dL_law_793 (by decide) ?_
  refine lv_iadd hx hb dL_law_794 ?_
  refine lw_sld F h hin2 ha2 dL_law_795 ?_
  refine lv_aload_n hx hb dL_law_796 rfl (lv_at hl 1 rfl) ?_
  refine lv_iload hx hb dL_law_797 (lv_at hl 5 rfl) ?_
  refine lv_iconst (v := 3) hx hb dL_law_799 (by decide) ?_
  refine lv_iadd hx hb dL_law_800 ?_
  refine lw_sld F h hin3 ha3 dL_law_801 ?_
  obtain ⟨hom, hp⟩ := hp
  refine h2_mod ⟨hx, hb, hml, hown, hts⟩ (k_X10_gather l G zm wm _ mm a1 a2 a3 _ hp) (cwV 3 hts gL_law_X10_gather rfl rfl rfl (by decide +kernel) ⟨Nat.le_of_ble_eq_true rfl, Nat.le_of_ble_eq_true rfl⟩) hom (by decide) rfl hK h hA hE rfl hl.1 rfl (Nat.le_of_ble_eq_true rfl) dL_law_802 ⟨by omega, by omega⟩ (fun b1 wm1 H locs hp h => ?_)
  refine lv_istore (lv' := [(6, .int b1), (5, .int k1), (0, .ref b), (1, .ref x), (2, .ref mm), (3, .ref t), (4, .int i)]) hx hb dL_law_805 hl (by decide) rfl (fun ls hl => ?_)
  refine lv_aload_n hx hb dL_law_807 rfl (lv_at hl 4 rfl) ?_
  obtain ⟨hom, hp⟩ := hp
  refine h2_mod ⟨hx, hb, hml, hown, hts⟩ (k_X10_thrown l G zm wm1 _ mm _ hp) (cwV 0 hts gL_law_X10_thrown rfl rfl rfl (by decide +kernel) ⟨Nat.le_of_ble_eq_true rfl, Nat.le_of_ble_eq_true rfl⟩) hom (by decide) rfl hK h hA hE rfl hl.1 rfl (Nat.le_of_ble_eq_true rfl) dL_law_808 ⟨by omega, by omega⟩ (fun b2 wm2 H locs hp h => ?_)
  refine lv_iload hx hb dL_law_811 (lv_at hl 1 rfl) ?_
  obtain ⟨he, hp⟩ := hp
  refine lv_icmp_eq (tgt := 818) hx hb dL_law_813 (by decide) (fun _ => ?_) (fun hc => absurd he hc)
  refine lv_iload hx hb dL_law_818 (lv_at hl 1 rfl) ?_
  refine lv_if_ne (tgt := 835) hx hb dL_law_820 (by decide) (fun hc => ?_) (fun hc => ?_)
  · have hp := hp.1 hc
    refine lv_goto (tgt := 1881) hx hb dL_law_835 (by decide) ?_
    refine W.widen (k := cells + 4) (n := slots + 24) (by omega) (by omega) ?_
    exact kk _ _ _ _ _ _ _ hp h (lv_sub hl [2, 3, 4, 5, 6] rfl)
  · have hp := hp.2 hc
    refine lv_aload_n hx hb dL_law_823 rfl (lv_at hl 5 rfl) ?_
    refine lv_iconst (v := 0) hx hb dL_law_824 (by decide) ?_
    obtain ⟨hot, hp⟩ := hp
    refine h2_lald hx hb hK h hot vp01 dL_law_825 ?_
    refine lv_iload hx hb dL_law_826 (lv_at hl 0 rfl) ?_
    refine lv_i2l hx hb dL_law_828 rfl ?_
    obtain ⟨he, hp⟩ := hp
    refine W.lcmp hx hb dL_law_829 ?_
    rw [lw_cmp0 he]
    refine lv_if_eq (tgt := 835) hx hb dL_law_830 (by decide) (fun _ => ?_) (fun hc => absurd rfl hc)
    refine lv_goto (tgt := 1881) hx hb dL_law_835 (by decide) ?_
    refine W.widen (k := cells + 4) (n := slots + 24) (by omega) (by omega) ?_
    exact kk _ _ _ _ _ _ _ hp h (lv_sub hl [2, 3, 4, 5, 6] rfl)
def wc_11 (zc : Zt) (wc : Vt) (zm : Zt) (wm : Vt) (x mm t : Nat) (a1 : Int32) (a2 : Int32) (a3 : Int32) (KL : Zt → Vt → Zt → Vt → Prop) : Prop := wp_L_look zc x a1 a2 a3 t wc (fun k1 zc1 wc1 => isO zm 10 mm ∧ wp_X10_look zm mm a1 a2 a3 wm (fun b1 wm1 => isO zm 10 mm ∧ wp_X10_thrown zm mm wm1 (fun b2 wm2 => b2 = k1 ∧ (¬ k1 = 0 → KL zc1 wc1 zm wm2) ∧ (k1 = 0 → isO zc1 3000 t ∧ (vL wc1 3000 t (0 : Int32).toNatClampNeg) = (b1 : Int32).toInt64 ∧ KL zc1 wc1 zm wm2))))
set_option maxHeartbeats 4000000 in
set_option maxRecDepth 100000 in
theorem lc_11 (hst : l.stackTraces = false) (F : lwF p s m c b L xs G) {zc zm : Zt} {wc wm : Vt} {x mm t : Nat} {i : Int32} {a1 : Int32} {a2 : Int32} {a3 : Int32} (hin1 : vp_in (i + 1) L) (hin2 : vp_in (i + 2) L) (hin3 : vp_in (i + 3) L) (ha1 : xs (i + 1).toNatClampNeg = a1) (ha2 : xs (i + 2).toNatClampNeg = a2) (ha3 : xs (i + 3).toNatClampNeg = a3) (h : hpH2 G (fun q : Nat => s.heap.size ≤ q) s.heap zc wc zm wm H locs) (hl : lv_has ls 7 [(0, .ref b), (1, .ref x), (2, .ref mm), (3, .ref t), (4, .int i)]) (hc : cells + 4 ≤ room_1.cells) (hs : slots + 24 ≤ room_1.slots) (KL : Zt → Vt → Zt → Vt → Prop) (hp : wc_11 zc wc zm wm x mm t a1 a2 a3 KL)
    (kk : ∀ (zc : Zt) (wc : Vt) (zm : Zt) (wm : Vt) (H : Heap) (locs : List Loc) (ls : Array Slot), KL zc wc zm wm → hpH2 G (fun q : Nat => s.heap.size ≤ q) s.heap zc wc zm wm H locs → lv_has ls 7 [(0, .ref b), (1, .ref x), (2, .ref mm), (3, .ref t), (4, .int i)] → W p l e room_1 s m #[Value.ref b] below meth c H locs (cells + 4) (slots + 24) Q (F0 m 1881 ls [])) : W p l e room_1 s m #[Value.ref b] below meth c H locs cells slots Q (F0 m 838 ls []) := by
  obtain ⟨hx, hb, hml, hown, hts, hX, hbl, hK, hE⟩ := id F
  have hA : ∀ q : Nat, s.heap.size ≤ q → (fun q : Nat => s.heap.size ≤ q) q := fun _ h => h
  refine lv_aload_n hx hb dL_law_838 rfl (lv_at hl 1 rfl) ?_
  refine lv_aload_n hx hb dL_law_839 rfl (lv_at hl 0 rfl) ?_
  refine lv_iload hx hb dL_law_840 (lv_at hl 4 rfl) ?_
  refine lv_iconst (v := 1) hx hb dL_law_842 (by decide) ?_
  refine lv_iadd hx hb dL_law_843 ?_
  refine lw_sld F h hin1 ha1 dL_law_844 ?_
  refine lv_aload_n hx hb dL_law_845 rfl (lv_at hl 0 rfl) ?_
  refine lv_iload hx hb dL_law_846 (lv_at hl 4 rfl) ?_
  refine lv_iconst (v := 2) hx hb dL_law_848 (by decide) ?_
  refine lv_iadd hx hb dL_law_849 ?_
  refine lw_sld F h hin2 ha2 dL_law_850 ?_
  refine lv_aload_n hx hb dL_law_851 rfl (lv_at hl 0 rfl) ?_
  refine lv_iload hx hb dL_law_852 (lv_at hl 4 rfl) ?_
  refine lv_iconst (v := 3) hx hb dL_law_854 (by decide) ?_
  refine lv_iadd hx hb dL_law_855 ?_
  refine lw_sld F h hin3 ha3 dL_law_856 ?_
  refine lv_aload_n hx hb dL_law_857 rfl (lv_at hl 3 rfl) ?_
  refine h2_wrap ⟨hx, hb, hml, hown, hts⟩ (k_L_look l hst G zc wc _ x a1 a2 a3 t _ hp) (vx_cwSW 5 hts gL_law_L_look rfl rfl rfl (by decide +kernel) ⟨Nat.le_of_ble_eq_true rfl, Nat.le_of_ble_eq_true rfl⟩) hK h hA hE rfl hl.1 rfl (Nat.le_of_ble_eq_true rfl) dL_law_858 ⟨by omega, by omega⟩ (fun k1 zc1 wc1 H locs hp h => ?_)
  refine lv_istore (lv' := [(5, .int k1), (0, .ref b), (1, .ref x), (2, .ref mm), (3, .ref t), (4, .int i)]) hx hb dL_law_861 hl (by decide) rfl (fun ls hl => ?_)
  refine lv_aload_n hx hb dL_law_863 rfl (lv_at hl 3 rfl) ?_
  refine lv_aload_n hx hb dL_law_864 rfl (lv_at hl 1 rfl) ?_
  refine lv_iload hx hb dL_law_865 (lv_at hl 5 rfl) ?_
  refine lv_iconst (v := 1) hx hb dL_law_867 (by decide) ?_
  refine lv_iadd hx hb dL_law_868 ?_
  refine lw_sld F h hin1 ha1 dL_law_869 ?_
  refine lv_aload_n hx hb dL_law_870 rfl (lv_at hl 1 rfl) ?_
  refine lv_iload hx hb dL_law_871 (lv_at hl 5 rfl) ?_
  refine lv_iconst (v := 2) hx hb dL_law_873 (by decide) ?_
  refine lv_iadd hx hb dL_law_874 ?_
  refine lw_sld F h hin2 ha2 dL_law_875 ?_
  refine lv_aload_n hx hb dL_law_876 rfl (lv_at hl 1 rfl) ?_
  refine lv_iload hx hb dL_law_877 (lv_at hl 5 rfl) ?_
  refine lv_iconst (v := 3) hx hb dL_law_879 (by decide) ?_
  refine lv_iadd hx hb dL_law_880 ?_
  refine lw_sld F h hin3 ha3 dL_law_881 ?_
  obtain ⟨hom, hp⟩ := hp
  refine h2_mod ⟨hx, hb, hml, hown, hts⟩ (k_X10_look l G zm wm _ mm a1 a2 a3 _ hp) (cwV 3 hts gL_law_X10_look rfl rfl rfl (by decide +kernel) ⟨Nat.le_of_ble_eq_true rfl, Nat.le_of_ble_eq_true rfl⟩) hom (by decide) rfl hK h hA hE rfl hl.1 rfl (Nat.le_of_ble_eq_true rfl) dL_law_882 ⟨by omega, by omega⟩ (fun b1 wm1 H locs hp h => ?_)
  refine lv_istore (lv' := [(6, .int b1), (5, .int k1), (0, .ref b), (1, .ref x), (2, .ref mm), (3, .ref t), (4, .int i)]) hx hb dL_law_885 hl (by decide) rfl (fun ls hl => ?_)
  refine lv_aload_n hx hb dL_law_887 rfl (lv_at hl 4 rfl) ?_
  obtain ⟨hom, hp⟩ := hp
  refine h2_mod ⟨hx, hb, hml, hown, hts⟩ (k_X10_thrown l G zm wm1 _ mm _ hp) (cwV 0 hts gL_law_X10_thrown rfl rfl rfl (by decide +kernel) ⟨Nat.le_of_ble_eq_true rfl, Nat.le_of_ble_eq_true rfl⟩) hom (by decide) rfl hK h hA hE rfl hl.1 rfl (Nat.le_of_ble_eq_true rfl) dL_law_888 ⟨by omega, by omega⟩ (fun b2 wm2 H locs hp h => ?_)
  refine lv_iload hx hb dL_law_891 (lv_at hl 1 rfl) ?_
  obtain ⟨he, hp⟩ := hp
  refine lv_icmp_eq (tgt := 898) hx hb dL_law_893 (by decide) (fun _ => ?_) (fun hc => absurd he hc)
  refine lv_iload hx hb dL_law_898 (lv_at hl 1 rfl) ?_
  refine lv_if_ne (tgt := 915) hx hb dL_law_900 (by decide) (fun hc => ?_) (fun hc => ?_)
  · have hp := hp.1 hc
    refine lv_goto (tgt := 1881) hx hb dL_law_915 (by decide) ?_
    refine W.widen (k := cells + 4) (n := slots + 24) (by omega) (by omega) ?_
    exact kk _ _ _ _ _ _ _ hp h (lv_sub hl [2, 3, 4, 5, 6] rfl)
  · have hp := hp.2 hc
    refine lv_aload_n hx hb dL_law_903 rfl (lv_at hl 5 rfl) ?_
    refine lv_iconst (v := 0) hx hb dL_law_904 (by decide) ?_
    obtain ⟨hot, hp⟩ := hp
    refine h2_lald hx hb hK h hot vp01 dL_law_905 ?_
    refine lv_iload hx hb dL_law_906 (lv_at hl 0 rfl) ?_
    refine lv_i2l hx hb dL_law_908 rfl ?_
    obtain ⟨he, hp⟩ := hp
    refine W.lcmp hx hb dL_law_909 ?_
    rw [lw_cmp0 he]
    refine lv_if_eq (tgt := 915) hx hb dL_law_910 (by decide) (fun _ => ?_) (fun hc => absurd rfl hc)
    refine lv_goto (tgt := 1881) hx hb dL_law_915 (by decide) ?_
    refine W.widen (k := cells + 4) (n := slots + 24) (by omega) (by omega) ?_
    exact kk _ _ _ _ _ _ _ hp h (lv_sub hl [2, 3, 4, 5, 6] rfl)
def wc_12 (zc : Zt) (wc : Vt) (zm : Zt) (wm : Vt) (x mm t : Nat) (a1 : Int32) (KL : Zt → Vt → Zt → Vt → Prop) : Prop := wp_L_cast zc x a1 t wc (fun k1 zc1 wc1 => isO zm 10 mm ∧ wp_X10_cast zm mm a1 wm (fun b1 wm1 => isO zm 10 mm ∧ wp_X10_thrown zm mm wm1 (fun b2 wm2 => b2 = k1 ∧ (¬ k1 = 0 → KL zc1 wc1 zm wm2) ∧ (k1 = 0 → isO zc1 3000 t ∧ (vL wc1 3000 t (0 : Int32).toNatClampNeg) = (b1 : Int32).toInt64 ∧ KL zc1 wc1 zm wm2))))
set_option maxHeartbeats 4000000 in
set_option maxRecDepth 100000 in
theorem lc_12 (hst : l.stackTraces = false) (F : lwF p s m c b L xs G) {zc zm : Zt} {wc wm : Vt} {x mm t : Nat} {i : Int32} {a1 : Int32} (hin1 : vp_in (i + 1) L) (ha1 : xs (i + 1).toNatClampNeg = a1) (h : hpH2 G (fun q : Nat => s.heap.size ≤ q) s.heap zc wc zm wm H locs) (hl : lv_has ls 7 [(0, .ref b), (1, .ref x), (2, .ref mm), (3, .ref t), (4, .int i)]) (hc : cells + 4 ≤ room_1.cells) (hs : slots + 24 ≤ room_1.slots) (KL : Zt → Vt → Zt → Vt → Prop) (hp : wc_12 zc wc zm wm x mm t a1 KL)
    (kk : ∀ (zc : Zt) (wc : Vt) (zm : Zt) (wm : Vt) (H : Heap) (locs : List Loc) (ls : Array Slot), KL zc wc zm wm → hpH2 G (fun q : Nat => s.heap.size ≤ q) s.heap zc wc zm wm H locs → lv_has ls 7 [(0, .ref b), (1, .ref x), (2, .ref mm), (3, .ref t), (4, .int i)] → W p l e room_1 s m #[Value.ref b] below meth c H locs (cells + 4) (slots + 24) Q (F0 m 1881 ls [])) : W p l e room_1 s m #[Value.ref b] below meth c H locs cells slots Q (F0 m 918 ls []) := by
  obtain ⟨hx, hb, hml, hown, hts, hX, hbl, hK, hE⟩ := id F
  have hA : ∀ q : Nat, s.heap.size ≤ q → (fun q : Nat => s.heap.size ≤ q) q := fun _ h => h
  refine lv_aload_n hx hb dL_law_918 rfl (lv_at hl 1 rfl) ?_
  refine lv_aload_n hx hb dL_law_919 rfl (lv_at hl 0 rfl) ?_
  refine lv_iload hx hb dL_law_920 (lv_at hl 4 rfl) ?_
  refine lv_iconst (v := 1) hx hb dL_law_922 (by decide) ?_
  refine lv_iadd hx hb dL_law_923 ?_
  refine lw_sld F h hin1 ha1 dL_law_924 ?_
  refine lv_aload_n hx hb dL_law_925 rfl (lv_at hl 3 rfl) ?_
  refine h2_wrap ⟨hx, hb, hml, hown, hts⟩ (k_L_cast l hst G zc wc _ x a1 t _ hp) (vx_cwSW 3 hts gL_law_L_cast rfl rfl rfl (by decide +kernel) ⟨Nat.le_of_ble_eq_true rfl, Nat.le_of_ble_eq_true rfl⟩) hK h hA hE rfl hl.1 rfl (Nat.le_of_ble_eq_true rfl) dL_law_926 ⟨by omega, by omega⟩ (fun k1 zc1 wc1 H locs hp h => ?_)
  refine lv_istore (lv' := [(5, .int k1), (0, .ref b), (1, .ref x), (2, .ref mm), (3, .ref t), (4, .int i)]) hx hb dL_law_929 hl (by decide) rfl (fun ls hl => ?_)
  refine lv_aload_n hx hb dL_law_931 rfl (lv_at hl 3 rfl) ?_
  refine lv_aload_n hx hb dL_law_932 rfl (lv_at hl 1 rfl) ?_
  refine lv_iload hx hb dL_law_933 (lv_at hl 5 rfl) ?_
  refine lv_iconst (v := 1) hx hb dL_law_935 (by decide) ?_
  refine lv_iadd hx hb dL_law_936 ?_
  refine lw_sld F h hin1 ha1 dL_law_937 ?_
  obtain ⟨hom, hp⟩ := hp
  refine h2_mod ⟨hx, hb, hml, hown, hts⟩ (k_X10_cast l G zm wm _ mm a1 _ hp) (cwV 1 hts gL_law_X10_cast rfl rfl rfl (by decide +kernel) ⟨Nat.le_of_ble_eq_true rfl, Nat.le_of_ble_eq_true rfl⟩) hom (by decide) rfl hK h hA hE rfl hl.1 rfl (Nat.le_of_ble_eq_true rfl) dL_law_938 ⟨by omega, by omega⟩ (fun b1 wm1 H locs hp h => ?_)
  refine lv_istore (lv' := [(6, .int b1), (5, .int k1), (0, .ref b), (1, .ref x), (2, .ref mm), (3, .ref t), (4, .int i)]) hx hb dL_law_941 hl (by decide) rfl (fun ls hl => ?_)
  refine lv_aload_n hx hb dL_law_943 rfl (lv_at hl 4 rfl) ?_
  obtain ⟨hom, hp⟩ := hp
  refine h2_mod ⟨hx, hb, hml, hown, hts⟩ (k_X10_thrown l G zm wm1 _ mm _ hp) (cwV 0 hts gL_law_X10_thrown rfl rfl rfl (by decide +kernel) ⟨Nat.le_of_ble_eq_true rfl, Nat.le_of_ble_eq_true rfl⟩) hom (by decide) rfl hK h hA hE rfl hl.1 rfl (Nat.le_of_ble_eq_true rfl) dL_law_944 ⟨by omega, by omega⟩ (fun b2 wm2 H locs hp h => ?_)
  refine lv_iload hx hb dL_law_947 (lv_at hl 1 rfl) ?_
  obtain ⟨he, hp⟩ := hp
  refine lv_icmp_eq (tgt := 954) hx hb dL_law_949 (by decide) (fun _ => ?_) (fun hc => absurd he hc)
  refine lv_iload hx hb dL_law_954 (lv_at hl 1 rfl) ?_
  refine lv_if_ne (tgt := 971) hx hb dL_law_956 (by decide) (fun hc => ?_) (fun hc => ?_)
  · have hp := hp.1 hc
    refine lv_goto (tgt := 1881) hx hb dL_law_971 (by decide) ?_
    refine W.widen (k := cells + 4) (n := slots + 24) (by omega) (by omega) ?_
    exact kk _ _ _ _ _ _ _ hp h (lv_sub hl [2, 3, 4, 5, 6] rfl)
  · have hp := hp.2 hc
    refine lv_aload_n hx hb dL_law_959 rfl (lv_at hl 5 rfl) ?_
    refine lv_iconst (v := 0) hx hb dL_law_960 (by decide) ?_
    obtain ⟨hot, hp⟩ := hp
    refine h2_lald hx hb hK h hot vp01 dL_law_961 ?_
    refine lv_iload hx hb dL_law_962 (lv_at hl 0 rfl) ?_
    refine lv_i2l hx hb dL_law_964 rfl ?_
    obtain ⟨he, hp⟩ := hp
    refine W.lcmp hx hb dL_law_965 ?_
    rw [lw_cmp0 he]
    refine lv_if_eq (tgt := 971) hx hb dL_law_966 (by decide) (fun _ => ?_) (fun hc => absurd rfl hc)
    refine lv_goto (tgt := 1881) hx hb dL_law_971 (by decide) ?_
    refine W.widen (k := cells + 4) (n := slots + 24) (by omega) (by omega) ?_
    exact kk _ _ _ _ _ _ _ hp h (lv_sub hl [2, 3, 4, 5, 6] rfl)
def wc_13 (zc : Zt) (wc : Vt) (zm : Zt) (wm : Vt) (x mm t : Nat) (a1 : Int32) (a2 : Int32) (KL : Zt → Vt → Zt → Vt → Prop) : Prop := wp_L_has zc x a1 a2 t wc (fun k1 zc1 wc1 => isO zm 10 mm ∧ wp_X10_has zm mm a1 a2 wm (fun b1 wm1 => isO zm 10 mm ∧ wp_X10_thrown zm mm wm1 (fun b2 wm2 => b2 = k1 ∧ (¬ k1 = 0 → KL zc1 wc1 zm wm2) ∧ (k1 = 0 → isO zc1 3000 t ∧ (vL wc1 3000 t (0 : Int32).toNatClampNeg) = (b1 : Int32).toInt64 ∧ KL zc1 wc1 zm wm2))))
set_option maxHeartbeats 4000000 in
set_option maxRecDepth 100000 in
theorem lc_13 (hst : l.stackTraces = false) (F : lwF p s m c b L xs G) {zc zm : Zt} {wc wm : Vt} {x mm t : Nat} {i : Int32} {a1 : Int32} {a2 : Int32} (hin1 : vp_in (i + 1) L) (hin2 : vp_in (i + 2) L) (ha1 : xs (i + 1).toNatClampNeg = a1) (ha2 : xs (i + 2).toNatClampNeg = a2) (h : hpH2 G (fun q : Nat => s.heap.size ≤ q) s.heap zc wc zm wm H locs) (hl : lv_has ls 7 [(0, .ref b), (1, .ref x), (2, .ref mm), (3, .ref t), (4, .int i)]) (hc : cells + 4 ≤ room_1.cells) (hs : slots + 24 ≤ room_1.slots) (KL : Zt → Vt → Zt → Vt → Prop) (hp : wc_13 zc wc zm wm x mm t a1 a2 KL)
    (kk : ∀ (zc : Zt) (wc : Vt) (zm : Zt) (wm : Vt) (H : Heap) (locs : List Loc) (ls : Array Slot), KL zc wc zm wm → hpH2 G (fun q : Nat => s.heap.size ≤ q) s.heap zc wc zm wm H locs → lv_has ls 7 [(0, .ref b), (1, .ref x), (2, .ref mm), (3, .ref t), (4, .int i)] → W p l e room_1 s m #[Value.ref b] below meth c H locs (cells + 4) (slots + 24) Q (F0 m 1881 ls [])) : W p l e room_1 s m #[Value.ref b] below meth c H locs cells slots Q (F0 m 974 ls []) := by
  obtain ⟨hx, hb, hml, hown, hts, hX, hbl, hK, hE⟩ := id F
  have hA : ∀ q : Nat, s.heap.size ≤ q → (fun q : Nat => s.heap.size ≤ q) q := fun _ h => h
  refine lv_aload_n hx hb dL_law_974 rfl (lv_at hl 1 rfl) ?_
  refine lv_aload_n hx hb dL_law_975 rfl (lv_at hl 0 rfl) ?_
  refine lv_iload hx hb dL_law_976 (lv_at hl 4 rfl) ?_
  refine lv_iconst (v := 1) hx hb dL_law_978 (by decide) ?_
  refine lv_iadd hx hb dL_law_979 ?_
  refine lw_sld F h hin1 ha1 dL_law_980 ?_
  refine lv_aload_n hx hb dL_law_981 rfl (lv_at hl 0 rfl) ?_
  refine lv_iload hx hb dL_law_982 (lv_at hl 4 rfl) ?_
  refine lv_iconst (v := 2) hx hb dL_law_984 (by decide) ?_
  refine lv_iadd hx hb dL_law_985 ?_
  refine lw_sld F h hin2 ha2 dL_law_986 ?_
  refine lv_aload_n hx hb dL_law_987 rfl (lv_at hl 3 rfl) ?_
  refine h2_wrap ⟨hx, hb, hml, hown, hts⟩ (k_L_has l hst G zc wc _ x a1 a2 t _ hp) (vx_cwSW 4 hts gL_law_L_has rfl rfl rfl (by decide +kernel) ⟨Nat.le_of_ble_eq_true rfl, Nat.le_of_ble_eq_true rfl⟩) hK h hA hE rfl hl.1 rfl (Nat.le_of_ble_eq_true rfl) dL_law_988 ⟨by omega, by omega⟩ (fun k1 zc1 wc1 H locs hp h => ?_)
  refine lv_istore (lv' := [(5, .int k1), (0, .ref b), (1, .ref x), (2, .ref mm), (3, .ref t), (4, .int i)]) hx hb dL_law_991 hl (by decide) rfl (fun ls hl => ?_)
  refine lv_aload_n hx hb dL_law_993 rfl (lv_at hl 3 rfl) ?_
  refine lv_aload_n hx hb dL_law_994 rfl (lv_at hl 1 rfl) ?_
  refine lv_iload hx hb dL_law_995 (lv_at hl 5 rfl) ?_
  refine lv_iconst (v := 1) hx hb dL_law_997 (by decide) ?_
  refine lv_iadd hx hb dL_law_998 ?_
  refine lw_sld F h hin1 ha1 dL_law_999 ?_
  refine lv_aload_n hx hb dL_law_1000 rfl (lv_at hl 1 rfl) ?_
  refine lv_iload hx hb dL_law_1001 (lv_at hl 5 rfl) ?_
  refine lv_iconst (v := 2) hx hb dL_law_1003 (by decide) ?_
  refine lv_iadd hx hb dL_law_1004 ?_
  refine lw_sld F h hin2 ha2 dL_law_1005 ?_
  obtain ⟨hom, hp⟩ := hp
  refine h2_mod ⟨hx, hb, hml, hown, hts⟩ (k_X10_has l G zm wm _ mm a1 a2 _ hp) (cwV 2 hts gL_law_X10_has rfl rfl rfl (by decide +kernel) ⟨Nat.le_of_ble_eq_true rfl, Nat.le_of_ble_eq_true rfl⟩) hom (by decide) rfl hK h hA hE rfl hl.1 rfl (Nat.le_of_ble_eq_true rfl) dL_law_1006 ⟨by omega, by omega⟩ (fun b1 wm1 H locs hp h => ?_)
  refine lv_istore (lv' := [(6, .int b1), (5, .int k1), (0, .ref b), (1, .ref x), (2, .ref mm), (3, .ref t), (4, .int i)]) hx hb dL_law_1009 hl (by decide) rfl (fun ls hl => ?_)
  refine lv_aload_n hx hb dL_law_1011 rfl (lv_at hl 4 rfl) ?_
  obtain ⟨hom, hp⟩ := hp
  refine h2_mod ⟨hx, hb, hml, hown, hts⟩ (k_X10_thrown l G zm wm1 _ mm _ hp) (cwV 0 hts gL_law_X10_thrown rfl rfl rfl (by decide +kernel) ⟨Nat.le_of_ble_eq_true rfl, Nat.le_of_ble_eq_true rfl⟩) hom (by decide) rfl hK h hA hE rfl hl.1 rfl (Nat.le_of_ble_eq_true rfl) dL_law_1012 ⟨by omega, by omega⟩ (fun b2 wm2 H locs hp h => ?_)
  refine lv_iload hx hb dL_law_1015 (lv_at hl 1 rfl) ?_
  obtain ⟨he, hp⟩ := hp
  refine lv_icmp_eq (tgt := 1022) hx hb dL_law_1017 (by decide) (fun _ => ?_) (fun hc => absurd he hc)
  refine lv_iload hx hb dL_law_1022 (lv_at hl 1 rfl) ?_
  refine lv_if_ne (tgt := 1039) hx hb dL_law_1024 (by decide) (fun hc => ?_) (fun hc => ?_)
  · have hp := hp.1 hc
    refine lv_goto (tgt := 1881) hx hb dL_law_1039 (by decide) ?_
    refine W.widen (k := cells + 4) (n := slots + 24) (by omega) (by omega) ?_
    exact kk _ _ _ _ _ _ _ hp h (lv_sub hl [2, 3, 4, 5, 6] rfl)
  · have hp := hp.2 hc
    refine lv_aload_n hx hb dL_law_1027 rfl (lv_at hl 5 rfl) ?_
    refine lv_iconst (v := 0) hx hb dL_law_1028 (by decide) ?_
    obtain ⟨hot, hp⟩ := hp
    refine h2_lald hx hb hK h hot vp01 dL_law_1029 ?_
    refine lv_iload hx hb dL_law_1030 (lv_at hl 0 rfl) ?_
    refine lv_i2l hx hb dL_law_1032 rfl ?_
    obtain ⟨he, hp⟩ := hp
    refine W.lcmp hx hb dL_law_1033 ?_
    rw [lw_cmp0 he]
    refine lv_if_eq (tgt := 1039) hx hb dL_law_1034 (by decide) (fun _ => ?_) (fun hc => absurd rfl hc)
    refine lv_goto (tgt := 1881) hx hb dL_law_1039 (by decide) ?_
    refine W.widen (k := cells + 4) (n := slots + 24) (by omega) (by omega) ?_
    exact kk _ _ _ _ _ _ _ hp h (lv_sub hl [2, 3, 4, 5, 6] rfl)
def wc_14 (zc : Zt) (wc : Vt) (zm : Zt) (wm : Vt) (x mm t : Nat) (a1 : Int32) (a2 : Int32) (a3 : Int32) (KL : Zt → Vt → Zt → Vt → Prop) : Prop := wp_L_owes zc x a1 a2 a3 t wc (fun k1 zc1 wc1 => isO zm 10 mm ∧ wp_X10_owes zm mm a1 a2 a3 wm (fun b1 wm1 => isO zm 10 mm ∧ wp_X10_thrown zm mm wm1 (fun b2 wm2 => b2 = k1 ∧ (¬ k1 = 0 → KL zc1 wc1 zm wm2) ∧ (k1 = 0 → isO zc1 3000 t ∧ (vL wc1 3000 t (0 : Int32).toNatClampNeg) = (b1 : Int32).toInt64 ∧ KL zc1 wc1 zm wm2))))
set_option maxHeartbeats 4000000 in
set_option maxRecDepth 100000 in
theorem lc_14 (hst : l.stackTraces = false) (F : lwF p s m c b L xs G) {zc zm : Zt} {wc wm : Vt} {x mm t : Nat} {i : Int32} {a1 : Int32} {a2 : Int32} {a3 : Int32} (hin1 : vp_in (i + 1) L) (hin2 : vp_in (i + 2) L) (hin3 : vp_in (i + 3) L) (ha1 : xs (i + 1).toNatClampNeg = a1) (ha2 : xs (i + 2).toNatClampNeg = a2) (ha3 : xs (i + 3).toNatClampNeg = a3) (h : hpH2 G (fun q : Nat => s.heap.size ≤ q) s.heap zc wc zm wm H locs) (hl : lv_has ls 7 [(0, .ref b), (1, .ref x), (2, .ref mm), (3, .ref t), (4, .int i)]) (hc : cells + 4 ≤ room_1.cells) (hs : slots + 24 ≤ room_1.slots) (KL : Zt → Vt → Zt → Vt → Prop) (hp : wc_14 zc wc zm wm x mm t a1 a2 a3 KL)
    (kk : ∀ (zc : Zt) (wc : Vt) (zm : Zt) (wm : Vt) (H : Heap) (locs : List Loc) (ls : Array Slot), KL zc wc zm wm → hpH2 G (fun q : Nat => s.heap.size ≤ q) s.heap zc wc zm wm H locs → lv_has ls 7 [(0, .ref b), (1, .ref x), (2, .ref mm), (3, .ref t), (4, .int i)] → W p l e room_1 s m #[Value.ref b] below meth c H locs (cells + 4) (slots + 24) Q (F0 m 1881 ls [])) : W p l e room_1 s m #[Value.ref b] below meth c H locs cells slots Q (F0 m 1042 ls []) := by
  obtain ⟨hx, hb, hml, hown, hts, hX, hbl, hK, hE⟩ := id F
  have hA : ∀ q : Nat, s.heap.size ≤ q → (fun q : Nat => s.heap.size ≤ q) q := fun _ h => h
  refine lv_aload_n hx hb dL_law_1042 rfl (lv_at hl 1 rfl) ?_
  refine lv_aload_n hx hb dL_law_1043 rfl (lv_at hl 0 rfl) ?_
  refine lv_iload hx hb dL_law_1044 (lv_at hl 4 rfl) ?_
  refine lv_iconst (v := 1) hx hb dL_law_1046 (by decide) ?_
  refine lv_iadd hx hb dL_law_1047 ?_
  refine lw_sld F h hin1 ha1 dL_law_1048 ?_
  refine lv_aload_n hx hb dL_law_1049 rfl (lv_at hl 0 rfl) ?_
  refine lv_iload hx hb dL_law_1050 (lv_at hl 4 rfl) ?_
  refine lv_iconst (v := 2) hx hb dL_law_1052 (by decide) ?_
  refine lv_iadd hx hb dL_law_1053 ?_
  refine lw_sld F h hin2 ha2 dL_law_1054 ?_
  refine lv_aload_n hx hb dL_law_1055 rfl (lv_at hl 0 rfl) ?_
  refine lv_iload hx hb dL_law_1056 (lv_at hl 4 rfl) ?_
  refine lv_iconst (v := 3) hx hb dL_law_1058 (by decide) ?_
  refine lv_iadd hx hb dL_law_1059 ?_
  refine lw_sld F h hin3 ha3 dL_law_1060 ?_
  refine lv_aload_n hx hb dL_law_1061 rfl (lv_at hl 3 rfl) ?_
  refine h2_wrap ⟨hx, hb, hml, hown, hts⟩ (k_L_owes l hst G zc wc _ x a1 a2 a3 t _ hp) (vx_cwSW 5 hts gL_law_L_owes rfl rfl rfl (by decide +kernel) ⟨Nat.le_of_ble_eq_true rfl, Nat.le_of_ble_eq_true rfl⟩) hK h hA hE rfl hl.1 rfl (Nat.le_of_ble_eq_true rfl) dL_law_1062 ⟨by omega, by omega⟩ (fun k1 zc1 wc1 H locs hp h => ?_)
  refine lv_istore (lv' := [(5, .int k1), (0, .ref b), (1, .ref x), (2, .ref mm), (3, .ref t), (4, .int i)]) hx hb dL_law_1065 hl (by decide) rfl (fun ls hl => ?_)
  refine lv_aload_n hx hb dL_law_1067 rfl (lv_at hl 3 rfl) ?_
  refine lv_aload_n hx hb dL_law_1068 rfl (lv_at hl 1 rfl) ?_
  refine lv_iload hx hb dL_law_1069 (lv_at hl 5 rfl) ?_
  refine lv_iconst (v := 1) hx hb dL_law_1071 (by decide) ?_
  refine lv_iadd hx hb dL_law_1072 ?_
  refine lw_sld F h hin1 ha1 dL_law_1073 ?_
  refine lv_aload_n hx hb dL_law_1074 rfl (lv_at hl 1 rfl) ?_
  refine lv_iload hx hb dL_law_1075 (lv_at hl 5 rfl) ?_
  refine lv_iconst (v := 2) hx hb dL_law_1077 (by decide) ?_
  refine lv_iadd hx hb dL_law_1078 ?_
  refine lw_sld F h hin2 ha2 dL_law_1079 ?_
  refine lv_aload_n hx hb dL_law_1080 rfl (lv_at hl 1 rfl) ?_
  refine lv_iload hx hb dL_law_1081 (lv_at hl 5 rfl) ?_
  refine lv_iconst (v := 3) hx hb dL_law_1083 (by decide) ?_
  refine lv_iadd hx hb dL_law_1084 ?_
  refine lw_sld F h hin3 ha3 dL_law_1085 ?_
  obtain ⟨hom, hp⟩ := hp
  refine h2_mod ⟨hx, hb, hml, hown, hts⟩ (k_X10_owes l G zm wm _ mm a1 a2 a3 _ hp) (cwV 3 hts gL_law_X10_owes rfl rfl rfl (by decide +kernel) ⟨Nat.le_of_ble_eq_true rfl, Nat.le_of_ble_eq_true rfl⟩) hom (by decide) rfl hK h hA hE rfl hl.1 rfl (Nat.le_of_ble_eq_true rfl) dL_law_1086 ⟨by omega, by omega⟩ (fun b1 wm1 H locs hp h => ?_)
  refine lv_istore (lv' := [(6, .int b1), (5, .int k1), (0, .ref b), (1, .ref x), (2, .ref mm), (3, .ref t), (4, .int i)]) hx hb dL_law_1089 hl (by decide) rfl (fun ls hl => ?_)
  refine lv_aload_n hx hb dL_law_1091 rfl (lv_at hl 4 rfl) ?_
  obtain ⟨hom, hp⟩ := hp
  refine h2_mod ⟨hx, hb, hml, hown, hts⟩ (k_X10_thrown l G zm wm1 _ mm _ hp) (cwV 0 hts gL_law_X10_thrown rfl rfl rfl (by decide +kernel) ⟨Nat.le_of_ble_eq_true rfl, Nat.le_of_ble_eq_true rfl⟩) hom (by decide) rfl hK h hA hE rfl hl.1 rfl (Nat.le_of_ble_eq_true rfl) dL_law_1092 ⟨by omega, by omega⟩ (fun b2 wm2 H locs hp h => ?_)
  refine lv_iload hx hb dL_law_1095 (lv_at hl 1 rfl) ?_
  obtain ⟨he, hp⟩ := hp
  refine lv_icmp_eq (tgt := 1102) hx hb dL_law_1097 (by decide) (fun _ => ?_) (fun hc => absurd he hc)
  refine lv_iload hx hb dL_law_1102 (lv_at hl 1 rfl) ?_
  refine lv_if_ne (tgt := 1119) hx hb dL_law_1104 (by decide) (fun hc => ?_) (fun hc => ?_)
  · have hp := hp.1 hc
    refine lv_goto (tgt := 1881) hx hb dL_law_1119 (by decide) ?_
    refine W.widen (k := cells + 4) (n := slots + 24) (by omega) (by omega) ?_
    exact kk _ _ _ _ _ _ _ hp h (lv_sub hl [2, 3, 4, 5, 6] rfl)
  · have hp := hp.2 hc
    refine lv_aload_n hx hb dL_law_1107 rfl (lv_at hl 5 rfl) ?_
    refine lv_iconst (v := 0) hx hb dL_law_1108 (by decide) ?_
    obtain ⟨hot, hp⟩ := hp
    refine h2_lald hx hb hK h hot vp01 dL_law_1109 ?_
    refine lv_iload hx hb dL_law_1110 (lv_at hl 0 rfl) ?_
    refine lv_i2l hx hb dL_law_1112 rfl ?_
    obtain ⟨he, hp⟩ := hp
    refine W.lcmp hx hb dL_law_1113 ?_
    rw [lw_cmp0 he]
    refine lv_if_eq (tgt := 1119) hx hb dL_law_1114 (by decide) (fun _ => ?_) (fun hc => absurd rfl hc)
    refine lv_goto (tgt := 1881) hx hb dL_law_1119 (by decide) ?_
    refine W.widen (k := cells + 4) (n := slots + 24) (by omega) (by omega) ?_
    exact kk _ _ _ _ _ _ _ hp h (lv_sub hl [2, 3, 4, 5, 6] rfl)
def wc_15 (zc : Zt) (wc : Vt) (zm : Zt) (wm : Vt) (x mm t : Nat) (a1 : Int32) (KL : Zt → Vt → Zt → Vt → Prop) : Prop := wp_L_pit zc x a1 t wc (fun k1 zc1 wc1 => isO zm 10 mm ∧ wp_X10_pit zm mm a1 wm (fun b1 wm1 => isO zm 10 mm ∧ wp_X10_thrown zm mm wm1 (fun b2 wm2 => b2 = k1 ∧ (¬ k1 = 0 → KL zc1 wc1 zm wm2) ∧ (k1 = 0 → isO zc1 3000 t ∧ (vL wc1 3000 t (0 : Int32).toNatClampNeg) = (b1 : Int32).toInt64 ∧ KL zc1 wc1 zm wm2))))
set_option maxHeartbeats 4000000 in
set_option maxRecDepth 100000 in
theorem lc_15 (hst : l.stackTraces = false) (F : lwF p s m c b L xs G) {zc zm : Zt} {wc wm : Vt} {x mm t : Nat} {i : Int32} {a1 : Int32} (hin1 : vp_in (i + 1) L) (ha1 : xs (i + 1).toNatClampNeg = a1) (h : hpH2 G (fun q : Nat => s.heap.size ≤ q) s.heap zc wc zm wm H locs) (hl : lv_has ls 7 [(0, .ref b), (1, .ref x), (2, .ref mm), (3, .ref t), (4, .int i)]) (hc : cells + 4 ≤ room_1.cells) (hs : slots + 24 ≤ room_1.slots) (KL : Zt → Vt → Zt → Vt → Prop) (hp : wc_15 zc wc zm wm x mm t a1 KL)
    (kk : ∀ (zc : Zt) (wc : Vt) (zm : Zt) (wm : Vt) (H : Heap) (locs : List Loc) (ls : Array Slot), KL zc wc zm wm → hpH2 G (fun q : Nat => s.heap.size ≤ q) s.heap zc wc zm wm H locs → lv_has ls 7 [(0, .ref b), (1, .ref x), (2, .ref mm), (3, .ref t), (4, .int i)] → W p l e room_1 s m #[Value.ref b] below meth c H locs (cells + 4) (slots + 24) Q (F0 m 1881 ls [])) : W p l e room_1 s m #[Value.ref b] below meth c H locs cells slots Q (F0 m 1122 ls []) := by
  obtain ⟨hx, hb, hml, hown, hts, hX, hbl, hK, hE⟩ := id F
  have hA : ∀ q : Nat, s.heap.size ≤ q → (fun q : Nat => s.heap.size ≤ q) q := fun _ h => h
  refine lv_aload_n hx hb dL_law_1122 rfl (lv_at hl 1 rfl) ?_
  refine lv_aload_n hx hb dL_law_1123 rfl (lv_at hl 0 rfl) ?_
  refine lv_iload hx hb dL_law_1124 (lv_at hl 4 rfl) ?_
  refine lv_iconst (v := 1) hx hb dL_law_1126 (by decide) ?_
  refine lv_iadd hx hb dL_law_1127 ?_
  refine lw_sld F h hin1 ha1 dL_law_1128 ?_
  refine lv_aload_n hx hb dL_law_1129 rfl (lv_at hl 3 rfl) ?_
  refine h2_wrap ⟨hx, hb, hml, hown, hts⟩ (k_L_pit l hst G zc wc _ x a1 t _ hp) (vx_cwSW 3 hts gL_law_L_pit rfl rfl rfl (by decide +kernel) ⟨Nat.le_of_ble_eq_true rfl, Nat.le_of_ble_eq_true rfl⟩) hK h hA hE rfl hl.1 rfl (Nat.le_of_ble_eq_true rfl) dL_law_1130 ⟨by omega, by omega⟩ (fun k1 zc1 wc1 H locs hp h => ?_)
  refine lv_istore (lv' := [(5, .int k1), (0, .ref b), (1, .ref x), (2, .ref mm), (3, .ref t), (4, .int i)]) hx hb dL_law_1133 hl (by decide) rfl (fun ls hl => ?_)
  refine lv_aload_n hx hb dL_law_1135 rfl (lv_at hl 3 rfl) ?_
  refine lv_aload_n hx hb dL_law_1136 rfl (lv_at hl 1 rfl) ?_
  refine lv_iload hx hb dL_law_1137 (lv_at hl 5 rfl) ?_
  refine lv_iconst (v := 1) hx hb dL_law_1139 (by decide) ?_
  refine lv_iadd hx hb dL_law_1140 ?_
  refine lw_sld F h hin1 ha1 dL_law_1141 ?_
  obtain ⟨hom, hp⟩ := hp
  refine h2_mod ⟨hx, hb, hml, hown, hts⟩ (k_X10_pit l G zm wm _ mm a1 _ hp) (cwV 1 hts gL_law_X10_pit rfl rfl rfl (by decide +kernel) ⟨Nat.le_of_ble_eq_true rfl, Nat.le_of_ble_eq_true rfl⟩) hom (by decide) rfl hK h hA hE rfl hl.1 rfl (Nat.le_of_ble_eq_true rfl) dL_law_1142 ⟨by omega, by omega⟩ (fun b1 wm1 H locs hp h => ?_)
  refine lv_istore (lv' := [(6, .int b1), (5, .int k1), (0, .ref b), (1, .ref x), (2, .ref mm), (3, .ref t), (4, .int i)]) hx hb dL_law_1145 hl (by decide) rfl (fun ls hl => ?_)
  refine lv_aload_n hx hb dL_law_1147 rfl (lv_at hl 4 rfl) ?_
  obtain ⟨hom, hp⟩ := hp
  refine h2_mod ⟨hx, hb, hml, hown, hts⟩ (k_X10_thrown l G zm wm1 _ mm _ hp) (cwV 0 hts gL_law_X10_thrown rfl rfl rfl (by decide +kernel) ⟨Nat.le_of_ble_eq_true rfl, Nat.le_of_ble_eq_true rfl⟩) hom (by decide) rfl hK h hA hE rfl hl.1 rfl (Nat.le_of_ble_eq_true rfl) dL_law_1148 ⟨by omega, by omega⟩ (fun b2 wm2 H locs hp h => ?_)
  refine lv_iload hx hb dL_law_1151 (lv_at hl 1 rfl) ?_
  obtain ⟨he, hp⟩ := hp
  refine lv_icmp_eq (tgt := 1158) hx hb dL_law_1153 (by decide) (fun _ => ?_) (fun hc => absurd he hc)
  refine lv_iload hx hb dL_law_1158 (lv_at hl 1 rfl) ?_
  refine lv_if_ne (tgt := 1175) hx hb dL_law_1160 (by decide) (fun hc => ?_) (fun hc => ?_)
  · have hp := hp.1 hc
    refine lv_goto (tgt := 1881) hx hb dL_law_1175 (by decide) ?_
    refine W.widen (k := cells + 4) (n := slots + 24) (by omega) (by omega) ?_
    exact kk _ _ _ _ _ _ _ hp h (lv_sub hl [2, 3, 4, 5, 6] rfl)
  · have hp := hp.2 hc
    refine lv_aload_n hx hb dL_law_1163 rfl (lv_at hl 5 rfl) ?_
    refine lv_iconst (v := 0) hx hb dL_law_1164 (by decide) ?_
    obtain ⟨hot, hp⟩ := hp
    refine h2_lald hx hb hK h hot vp01 dL_law_1165 ?_
    refine lv_iload hx hb dL_law_1166 (lv_at hl 0 rfl) ?_
    refine lv_i2l hx hb dL_law_1168 rfl ?_
    obtain ⟨he, hp⟩ := hp
    refine W.lcmp hx hb dL_law_1169 ?_
    rw [lw_cmp0 he]
    refine lv_if_eq (tgt := 1175) hx hb dL_law_1170 (by decide) (fun _ => ?_) (fun hc => absurd rfl hc)
    refine lv_goto (tgt := 1881) hx hb dL_law_1175 (by decide) ?_
    refine W.widen (k := cells + 4) (n := slots + 24) (by omega) (by omega) ?_
    exact kk _ _ _ _ _ _ _ hp h (lv_sub hl [2, 3, 4, 5, 6] rfl)
def wc_16 (zc : Zt) (wc : Vt) (zm : Zt) (wm : Vt) (x mm t : Nat) (a1 : Int32) (a2 : Int32) (KL : Zt → Vt → Zt → Vt → Prop) : Prop := wp_L_light zc x a1 a2 t wc (fun k1 zc1 wc1 => isO zm 10 mm ∧ wp_X10_light zm mm a1 a2 wm (fun b1 wm1 => isO zm 10 mm ∧ wp_X10_thrown zm mm wm1 (fun b2 wm2 => b2 = k1 ∧ (¬ k1 = 0 → KL zc1 wc1 zm wm2) ∧ (k1 = 0 → isO zc1 3000 t ∧ (b1 = 0 → (vL wc1 3000 t (0 : Int32).toNatClampNeg) = 0 ∧ KL zc1 wc1 zm wm2) ∧ (¬ b1 = 0 → (vL wc1 3000 t (0 : Int32).toNatClampNeg) = 1 ∧ KL zc1 wc1 zm wm2)))))
set_option maxHeartbeats 4000000 in
set_option maxRecDepth 100000 in
theorem lc_16 (hst : l.stackTraces = false) (F : lwF p s m c b L xs G) {zc zm : Zt} {wc wm : Vt} {x mm t : Nat} {i : Int32} {a1 : Int32} {a2 : Int32} (hin1 : vp_in (i + 1) L) (hin2 : vp_in (i + 2) L) (ha1 : xs (i + 1).toNatClampNeg = a1) (ha2 : xs (i + 2).toNatClampNeg = a2) (h : hpH2 G (fun q : Nat => s.heap.size ≤ q) s.heap zc wc zm wm H locs) (hl : lv_has ls 7 [(0, .ref b), (1, .ref x), (2, .ref mm), (3, .ref t), (4, .int i)]) (hc : cells + 4 ≤ room_1.cells) (hs : slots + 24 ≤ room_1.slots) (KL : Zt → Vt → Zt → Vt → Prop) (hp : wc_16 zc wc zm wm x mm t a1 a2 KL)
    (kk : ∀ (zc : Zt) (wc : Vt) (zm : Zt) (wm : Vt) (H : Heap) (locs : List Loc) (ls : Array Slot), KL zc wc zm wm → hpH2 G (fun q : Nat => s.heap.size ≤ q) s.heap zc wc zm wm H locs → lv_has ls 7 [(0, .ref b), (1, .ref x), (2, .ref mm), (3, .ref t), (4, .int i)] → W p l e room_1 s m #[Value.ref b] below meth c H locs (cells + 4) (slots + 24) Q (F0 m 1881 ls [])) : W p l e room_1 s m #[Value.ref b] below meth c H locs cells slots Q (F0 m 1178 ls []) := by
  obtain ⟨hx, hb, hml, hown, hts, hX, hbl, hK, hE⟩ := id F
  have hA : ∀ q : Nat, s.heap.size ≤ q → (fun q : Nat => s.heap.size ≤ q) q := fun _ h => h
  refine lv_aload_n hx hb dL_law_1178 rfl (lv_at hl 1 rfl) ?_
  refine lv_aload_n hx hb dL_law_1179 rfl (lv_at hl 0 rfl) ?_
  refine lv_iload hx hb dL_law_1180 (lv_at hl 4 rfl) ?_
  refine lv_iconst (v := 1) hx hb dL_law_1182 (by decide) ?_
  refine lv_iadd hx hb dL_law_1183 ?_
  refine lw_sld F h hin1 ha1 dL_law_1184 ?_
  refine lv_aload_n hx hb dL_law_1185 rfl (lv_at hl 0 rfl) ?_
  refine lv_iload hx hb dL_law_1186 (lv_at hl 4 rfl) ?_
  refine lv_iconst (v := 2) hx hb dL_law_1188 (by decide) ?_
  refine lv_iadd hx hb dL_law_1189 ?_
  refine lw_sld F h hin2 ha2 dL_law_1190 ?_
  refine lv_aload_n hx hb dL_law_1191 rfl (lv_at hl 3 rfl) ?_
  refine h2_wrap ⟨hx, hb, hml, hown, hts⟩ (k_L_light l hst G zc wc _ x a1 a2 t _ hp) (vx_cwSW 4 hts gL_law_L_light rfl rfl rfl (by decide +kernel) ⟨Nat.le_of_ble_eq_true rfl, Nat.le_of_ble_eq_true rfl⟩) hK h hA hE rfl hl.1 rfl (Nat.le_of_ble_eq_true rfl) dL_law_1192 ⟨by omega, by omega⟩ (fun k1 zc1 wc1 H locs hp h => ?_)
  refine lv_istore (lv' := [(5, .int k1), (0, .ref b), (1, .ref x), (2, .ref mm), (3, .ref t), (4, .int i)]) hx hb dL_law_1195 hl (by decide) rfl (fun ls hl => ?_)
  refine lv_aload_n hx hb dL_law_1197 rfl (lv_at hl 3 rfl) ?_
  refine lv_aload_n hx hb dL_law_1198 rfl (lv_at hl 1 rfl) ?_
  refine lv_iload hx hb dL_law_1199 (lv_at hl 5 rfl) ?_
  refine lv_iconst (v := 1) hx hb dL_law_1201 (by decide) ?_
  refine lv_iadd hx hb dL_law_1202 ?_
  refine lw_sld F h hin1 ha1 dL_law_1203 ?_
  refine lv_aload_n hx hb dL_law_1204 rfl (lv_at hl 1 rfl) ?_
  refine lv_iload hx hb dL_law_1205 (lv_at hl 5 rfl) ?_
  refine lv_iconst (v := 2) hx hb dL_law_1207 (by decide) ?_
  refine lv_iadd hx hb dL_law_1208 ?_
  refine lw_sld F h hin2 ha2 dL_law_1209 ?_
  obtain ⟨hom, hp⟩ := hp
  refine h2_mod ⟨hx, hb, hml, hown, hts⟩ (k_X10_light l G zm wm _ mm a1 a2 _ hp) (cwV 2 hts gL_law_X10_light rfl rfl rfl (by decide +kernel) ⟨Nat.le_of_ble_eq_true rfl, Nat.le_of_ble_eq_true rfl⟩) hom (by decide) rfl hK h hA hE rfl hl.1 rfl (Nat.le_of_ble_eq_true rfl) dL_law_1210 ⟨by omega, by omega⟩ (fun b1 wm1 H locs hp h => ?_)
  refine lv_istore (lv' := [(6, .int b1), (5, .int k1), (0, .ref b), (1, .ref x), (2, .ref mm), (3, .ref t), (4, .int i)]) hx hb dL_law_1213 hl (by decide) rfl (fun ls hl => ?_)
  refine lv_aload_n hx hb dL_law_1215 rfl (lv_at hl 4 rfl) ?_
  obtain ⟨hom, hp⟩ := hp
  refine h2_mod ⟨hx, hb, hml, hown, hts⟩ (k_X10_thrown l G zm wm1 _ mm _ hp) (cwV 0 hts gL_law_X10_thrown rfl rfl rfl (by decide +kernel) ⟨Nat.le_of_ble_eq_true rfl, Nat.le_of_ble_eq_true rfl⟩) hom (by decide) rfl hK h hA hE rfl hl.1 rfl (Nat.le_of_ble_eq_true rfl) dL_law_1216 ⟨by omega, by omega⟩ (fun b2 wm2 H locs hp h => ?_)
  refine lv_iload hx hb dL_law_1219 (lv_at hl 1 rfl) ?_
  obtain ⟨he, hp⟩ := hp
  refine lv_icmp_eq (tgt := 1226) hx hb dL_law_1221 (by decide) (fun _ => ?_) (fun hc => absurd he hc)
  refine lv_iload hx hb dL_law_1226 (lv_at hl 1 rfl) ?_
  refine lv_if_ne (tgt := 1250) hx hb dL_law_1228 (by decide) (fun hc => ?_) (fun hc => ?_)
  · have hp := hp.1 hc
    refine lv_goto (tgt := 1881) hx hb dL_law_1250 (by decide) ?_
    refine W.widen (k := cells + 4) (n := slots + 24) (by omega) (by omega) ?_
    exact kk _ _ _ _ _ _ _ hp h (lv_sub hl [2, 3, 4, 5, 6] rfl)
  · have hp := hp.2 hc
    refine lv_aload_n hx hb dL_law_1231 rfl (lv_at hl 5 rfl) ?_
    refine lv_iconst (v := 0) hx hb dL_law_1232 (by decide) ?_
    obtain ⟨hot, hp⟩ := hp
    refine h2_lald hx hb hK h hot vp01 dL_law_1233 ?_
    refine lv_iload hx hb dL_law_1234 (lv_at hl 0 rfl) ?_
    refine lv_if_eq (tgt := 1243) hx hb dL_law_1236 (by decide) (fun hcb1 => ?_) (fun hcb1 => ?_)
    · have hp := hp.1 hcb1
      refine lv_lconst (v := 0) hx hb dL_law_1243 (by decide) ?_
      obtain ⟨he, hp⟩ := hp
      refine W.lcmp hx hb dL_law_1244 ?_
      rw [lw_cmp0 he]
      refine lv_if_eq (tgt := 1250) hx hb dL_law_1245 (by decide) (fun _ => ?_) (fun hc => absurd rfl hc)
      refine lv_goto (tgt := 1881) hx hb dL_law_1250 (by decide) ?_
      refine W.widen (k := cells + 4) (n := slots + 24) (by omega) (by omega) ?_
      exact kk _ _ _ _ _ _ _ hp h (lv_sub hl [2, 3, 4, 5, 6] rfl)
    · have hp := hp.2 hcb1
      refine lv_lconst (v := 1) hx hb dL_law_1239 (by decide) ?_
      refine lv_goto (tgt := 1244) hx hb dL_law_1240 (by decide) ?_
      obtain ⟨he, hp⟩ := hp
      refine W.lcmp hx hb dL_law_1244 ?_
      rw [lw_cmp0 he]
      refine lv_if_eq (tgt := 1250) hx hb dL_law_1245 (by decide) (fun _ => ?_) (fun hc => absurd rfl hc)
      refine lv_goto (tgt := 1881) hx hb dL_law_1250 (by decide) ?_
      refine W.widen (k := cells + 4) (n := slots + 24) (by omega) (by omega) ?_
      exact kk _ _ _ _ _ _ _ hp h (lv_sub hl [2, 3, 4, 5, 6] rfl)
def wc_17 (zc : Zt) (wc : Vt) (zm : Zt) (wm : Vt) (x mm t : Nat) (a1 : Int32) (KL : Zt → Vt → Zt → Vt → Prop) : Prop := wp_L_burns zc x a1 t wc (fun k1 zc1 wc1 => isO zm 10 mm ∧ wp_X10_burns zm mm a1 wm (fun b1 wm1 => isO zm 10 mm ∧ wp_X10_thrown zm mm wm1 (fun b2 wm2 => b2 = k1 ∧ (¬ k1 = 0 → KL zc1 wc1 zm wm2) ∧ (k1 = 0 → isO zc1 3000 t ∧ (vL wc1 3000 t (0 : Int32).toNatClampNeg) = (b1 : Int32).toInt64 ∧ KL zc1 wc1 zm wm2))))
set_option maxHeartbeats 4000000 in
set_option maxRecDepth 100000 in
theorem lc_17 (hst : l.stackTraces = false) (F : lwF p s m c b L xs G) {zc zm : Zt} {wc wm : Vt} {x mm t : Nat} {i : Int32} {a1 : Int32} (hin1 : vp_in (i + 1) L) (ha1 : xs (i + 1).toNatClampNeg = a1) (h : hpH2 G (fun q : Nat => s.heap.size ≤ q) s.heap zc wc zm wm H locs) (hl : lv_has ls 7 [(0, .ref b), (1, .ref x), (2, .ref mm), (3, .ref t), (4, .int i)]) (hc : cells + 4 ≤ room_1.cells) (hs : slots + 24 ≤ room_1.slots) (KL : Zt → Vt → Zt → Vt → Prop) (hp : wc_17 zc wc zm wm x mm t a1 KL)
    (kk : ∀ (zc : Zt) (wc : Vt) (zm : Zt) (wm : Vt) (H : Heap) (locs : List Loc) (ls : Array Slot), KL zc wc zm wm → hpH2 G (fun q : Nat => s.heap.size ≤ q) s.heap zc wc zm wm H locs → lv_has ls 7 [(0, .ref b), (1, .ref x), (2, .ref mm), (3, .ref t), (4, .int i)] → W p l e room_1 s m #[Value.ref b] below meth c H locs (cells + 4) (slots + 24) Q (F0 m 1881 ls [])) : W p l e room_1 s m #[Value.ref b] below meth c H locs cells slots Q (F0 m 1253 ls []) := by
  obtain ⟨hx, hb, hml, hown, hts, hX, hbl, hK, hE⟩ := id F
  have hA : ∀ q : Nat, s.heap.size ≤ q → (fun q : Nat => s.heap.size ≤ q) q := fun _ h => h
  refine lv_aload_n hx hb dL_law_1253 rfl (lv_at hl 1 rfl) ?_
  refine lv_aload_n hx hb dL_law_1254 rfl (lv_at hl 0 rfl) ?_
  refine lv_iload hx hb dL_law_1255 (lv_at hl 4 rfl) ?_
  refine lv_iconst (v := 1) hx hb dL_law_1257 (by decide) ?_
  refine lv_iadd hx hb dL_law_1258 ?_
  refine lw_sld F h hin1 ha1 dL_law_1259 ?_
  refine lv_aload_n hx hb dL_law_1260 rfl (lv_at hl 3 rfl) ?_
  refine h2_wrap ⟨hx, hb, hml, hown, hts⟩ (k_L_burns l hst G zc wc _ x a1 t _ hp) (vx_cwSW 3 hts gL_law_L_burns rfl rfl rfl (by decide +kernel) ⟨Nat.le_of_ble_eq_true rfl, Nat.le_of_ble_eq_true rfl⟩) hK h hA hE rfl hl.1 rfl (Nat.le_of_ble_eq_true rfl) dL_law_1261 ⟨by omega, by omega⟩ (fun k1 zc1 wc1 H locs hp h => ?_)
  refine lv_istore (lv' := [(5, .int k1), (0, .ref b), (1, .ref x), (2, .ref mm), (3, .ref t), (4, .int i)]) hx hb dL_law_1264 hl (by decide) rfl (fun ls hl => ?_)
  refine lv_aload_n hx hb dL_law_1266 rfl (lv_at hl 3 rfl) ?_
  refine lv_aload_n hx hb dL_law_1267 rfl (lv_at hl 1 rfl) ?_
  refine lv_iload hx hb dL_law_1268 (lv_at hl 5 rfl) ?_
  refine lv_iconst (v := 1) hx hb dL_law_1270 (by decide) ?_
  refine lv_iadd hx hb dL_law_1271 ?_
  refine lw_sld F h hin1 ha1 dL_law_1272 ?_
  obtain ⟨hom, hp⟩ := hp
  refine h2_mod ⟨hx, hb, hml, hown, hts⟩ (k_X10_burns l G zm wm _ mm a1 _ hp) (cwV 1 hts gL_law_X10_burns rfl rfl rfl (by decide +kernel) ⟨Nat.le_of_ble_eq_true rfl, Nat.le_of_ble_eq_true rfl⟩) hom (by decide) rfl hK h hA hE rfl hl.1 rfl (Nat.le_of_ble_eq_true rfl) dL_law_1273 ⟨by omega, by omega⟩ (fun b1 wm1 H locs hp h => ?_)
  refine lv_istore (lv' := [(6, .int b1), (5, .int k1), (0, .ref b), (1, .ref x), (2, .ref mm), (3, .ref t), (4, .int i)]) hx hb dL_law_1276 hl (by decide) rfl (fun ls hl => ?_)
  refine lv_aload_n hx hb dL_law_1278 rfl (lv_at hl 4 rfl) ?_
  obtain ⟨hom, hp⟩ := hp
  refine h2_mod ⟨hx, hb, hml, hown, hts⟩ (k_X10_thrown l G zm wm1 _ mm _ hp) (cwV 0 hts gL_law_X10_thrown rfl rfl rfl (by decide +kernel) ⟨Nat.le_of_ble_eq_true rfl, Nat.le_of_ble_eq_true rfl⟩) hom (by decide) rfl hK h hA hE rfl hl.1 rfl (Nat.le_of_ble_eq_true rfl) dL_law_1279 ⟨by omega, by omega⟩ (fun b2 wm2 H locs hp h => ?_)
  refine lv_iload hx hb dL_law_1282 (lv_at hl 1 rfl) ?_
  obtain ⟨he, hp⟩ := hp
  refine lv_icmp_eq (tgt := 1289) hx hb dL_law_1284 (by decide) (fun _ => ?_) (fun hc => absurd he hc)
  refine lv_iload hx hb dL_law_1289 (lv_at hl 1 rfl) ?_
  refine lv_if_ne (tgt := 1306) hx hb dL_law_1291 (by decide) (fun hc => ?_) (fun hc => ?_)
  · have hp := hp.1 hc
    refine lv_goto (tgt := 1881) hx hb dL_law_1306 (by decide) ?_
    refine W.widen (k := cells + 4) (n := slots + 24) (by omega) (by omega) ?_
    exact kk _ _ _ _ _ _ _ hp h (lv_sub hl [2, 3, 4, 5, 6] rfl)
  · have hp := hp.2 hc
    refine lv_aload_n hx hb dL_law_1294 rfl (lv_at hl 5 rfl) ?_
    refine lv_iconst (v := 0) hx hb dL_law_1295 (by decide) ?_
    obtain ⟨hot, hp⟩ := hp
    refine h2_lald hx hb hK h hot vp01 dL_law_1296 ?_
    refine lv_iload hx hb dL_law_1297 (lv_at hl 0 rfl) ?_
    refine lv_i2l hx hb dL_law_1299 rfl ?_
    obtain ⟨he, hp⟩ := hp
    refine W.lcmp hx hb dL_law_1300 ?_
    rw [lw_cmp0 he]
    refine lv_if_eq (tgt := 1306) hx hb dL_law_1301 (by decide) (fun _ => ?_) (fun hc => absurd rfl hc)
    refine lv_goto (tgt := 1881) hx hb dL_law_1306 (by decide) ?_
    refine W.widen (k := cells + 4) (n := slots + 24) (by omega) (by omega) ?_
    exact kk _ _ _ _ _ _ _ hp h (lv_sub hl [2, 3, 4, 5, 6] rfl)
def wc_18 (zc : Zt) (wc : Vt) (zm : Zt) (wm : Vt) (x mm t : Nat) (a1 : Int32) (a2 : Int32) (a3 : Int32) (a4 : Int32) (a5 : Int32) (a6 : Int32) (a7 : Int32) (a8 : Int32) (KL : Zt → Vt → Zt → Vt → Prop) : Prop := wp_L_sell zc x a1 a2 a3 a4 a5 a6 a7 a8 t wc (fun k1 zc1 wc1 => isO zm 10 mm ∧ wp_X10_sell zm mm a1 a2 a3 a4 a5 a6 a7 a8 wm (fun b1 wm1 => isO zm 10 mm ∧ wp_X10_thrown zm mm wm1 (fun b2 wm2 => b2 = k1 ∧ (¬ k1 = 0 → KL zc1 wc1 zm wm2) ∧ (k1 = 0 → isO zc1 3000 t ∧ (vL wc1 3000 t (0 : Int32).toNatClampNeg) = (b1 : Int32).toInt64 ∧ KL zc1 wc1 zm wm2))))
set_option maxHeartbeats 4000000 in
set_option maxRecDepth 100000 in
theorem lc_18 (hst : l.stackTraces = false) (F : lwF p s m c b L xs G) {zc zm : Zt} {wc wm : Vt} {x mm t : Nat} {i : Int32} {a1 : Int32} {a2 : Int32} {a3 : Int32} {a4 : Int32} {a5 : Int32} {a6 : Int32} {a7 : Int32} {a8 : Int32} (hin1 : vp_in (i + 1) L) (hin2 : vp_in (i + 2) L) (hin3 : vp_in (i + 3) L) (hin4 : vp_in (i + 4) L) (hin5 : vp_in (i + 5) L) (hin6 : vp_in (i + 6) L) (hin7 : vp_in (i + 7) L) (hin8 : vp_in (i + 8) L) (ha1 : xs (i + 1).toNatClampNeg = a1) (ha2 : xs (i + 2).toNatClampNeg = a2) (ha3 : xs (i + 3).toNatClampNeg = a3) (ha4 : xs (i + 4).toNatClampNeg = a4) (ha5 : xs (i + 5).toNatClampNeg = a5) (ha6 : xs (i + 6).toNatClampNeg = a6) (ha7 : xs (i + 7).toNatClampNeg = a7) (ha8 : xs (i + 8).toNatClampNeg = a8) (h : hpH2 G (fun q : Nat => s.heap.size ≤ q) s.heap zc wc zm wm H locs) (hl : lv_has ls 7 [(0, .ref b), (1, .ref x), (2, .ref mm), (3, .ref t), (4, .int i)]) (hc : cells + 4 ≤ room_1.cells) (hs : slots + 24 ≤ room_1.slots) (KL : Zt → Vt → Zt → Vt → Prop) (hp : wc_18 zc wc zm wm x mm t a1 a2 a3 a4 a5 a6 a7 a8 KL)
    (kk : ∀ (zc : Zt) (wc : Vt) (zm : Zt) (wm : Vt) (H : Heap) (locs : List Loc) (ls : Array Slot), KL zc wc zm wm → hpH2 G (fun q : Nat => s.heap.size ≤ q) s.heap zc wc zm wm H locs → lv_has ls 7 [(0, .ref b), (1, .ref x), (2, .ref mm), (3, .ref t), (4, .int i)] → W p l e room_1 s m #[Value.ref b] below meth c H locs (cells + 4) (slots + 24) Q (F0 m 1881 ls [])) : W p l e room_1 s m #[Value.ref b] below meth c H locs cells slots Q (F0 m 1309 ls []) := by
  obtain ⟨hx, hb, hml, hown, hts, hX, hbl, hK, hE⟩ := id F
  have hA : ∀ q : Nat, s.heap.size ≤ q → (fun q : Nat => s.heap.size ≤ q) q := fun _ h => h
  refine lv_aload_n hx hb dL_law_1309 rfl (lv_at hl 1 rfl) ?_
  refine lv_aload_n hx hb dL_law_1310 rfl (lv_at hl 0 rfl) ?_
  refine lv_iload hx hb dL_law_1311 (lv_at hl 4 rfl) ?_
  refine lv_iconst (v := 1) hx hb dL_law_1313 (by decide) ?_
  refine lv_iadd hx hb dL_law_1314 ?_
  refine lw_sld F h hin1 ha1 dL_law_1315 ?_
  refine lv_aload_n hx hb dL_law_1316 rfl (lv_at hl 0 rfl) ?_
  refine lv_iload hx hb dL_law_1317 (lv_at hl 4 rfl) ?_
  refine lv_iconst (v := 2) hx hb dL_law_1319 (by decide) ?_
  refine lv_iadd hx hb dL_law_1320 ?_
  refine lw_sld F h hin2 ha2 dL_law_1321 ?_
  refine lv_aload_n hx hb dL_law_1322 rfl (lv_at hl 0 rfl) ?_
  refine lv_iload hx hb dL_law_1323 (lv_at hl 4 rfl) ?_
  refine lv_iconst (v := 3) hx hb dL_law_1325 (by decide) ?_
  refine lv_iadd hx hb dL_law_1326 ?_
  refine lw_sld F h hin3 ha3 dL_law_1327 ?_
  refine lv_aload_n hx hb dL_law_1328 rfl (lv_at hl 0 rfl) ?_
  refine lv_iload hx hb dL_law_1329 (lv_at hl 4 rfl) ?_
  refine lv_iconst (v := 4) hx hb dL_law_1331 (by decide) ?_
  refine lv_iadd hx hb dL_law_1332 ?_
  refine lw_sld F h hin4 ha4 dL_law_1333 ?_
  refine lv_aload_n hx hb dL_law_1334 rfl (lv_at hl 0 rfl) ?_
  refine lv_iload hx hb dL_law_1335 (lv_at hl 4 rfl) ?_
  refine lv_iconst (v := 5) hx hb dL_law_1337 (by decide) ?_
  refine lv_iadd hx hb dL_law_1338 ?_
  refine lw_sld F h hin5 ha5 dL_law_1339 ?_
  refine lv_aload_n hx hb dL_law_1340 rfl (lv_at hl 0 rfl) ?_
  refine lv_iload hx hb dL_law_1341 (lv_at hl 4 rfl) ?_
  refine lv_bipush (v := 6) hx hb dL_law_1343 (by decide) ?_
  refine lv_iadd hx hb dL_law_1345 ?_
  refine lw_sld F h hin6 ha6 dL_law_1346 ?_
  refine lv_aload_n hx hb dL_law_1347 rfl (lv_at hl 0 rfl) ?_
  refine lv_iload hx hb dL_law_1348 (lv_at hl 4 rfl) ?_
  refine lv_bipush (v := 7) hx hb dL_law_1350 (by decide) ?_
  refine lv_iadd hx hb dL_law_1352 ?_
  refine lw_sld F h hin7 ha7 dL_law_1353 ?_
  refine lv_aload_n hx hb dL_law_1354 rfl (lv_at hl 0 rfl) ?_
  refine lv_iload hx hb dL_law_1355 (lv_at hl 4 rfl) ?_
  refine lv_bipush (v := 8) hx hb dL_law_1357 (by decide) ?_
  refine lv_iadd hx hb dL_law_1359 ?_
  refine lw_sld F h hin8 ha8 dL_law_1360 ?_
  refine lv_aload_n hx hb dL_law_1361 rfl (lv_at hl 3 rfl) ?_
  refine h2_wrap ⟨hx, hb, hml, hown, hts⟩ (k_L_sell l hst G zc wc _ x a1 a2 a3 a4 a5 a6 a7 a8 t _ hp) (vx_cwSW 10 hts gL_law_L_sell rfl rfl rfl (by decide +kernel) ⟨Nat.le_of_ble_eq_true rfl, Nat.le_of_ble_eq_true rfl⟩) hK h hA hE rfl hl.1 rfl (Nat.le_of_ble_eq_true rfl) dL_law_1362 ⟨by omega, by omega⟩ (fun k1 zc1 wc1 H locs hp h => ?_)
  refine lv_istore (lv' := [(5, .int k1), (0, .ref b), (1, .ref x), (2, .ref mm), (3, .ref t), (4, .int i)]) hx hb dL_law_1365 hl (by decide) rfl (fun ls hl => ?_)
  refine lv_aload_n hx hb dL_law_1367 rfl (lv_at hl 3 rfl) ?_
  refine lv_aload_n hx hb dL_law_1368 rfl (lv_at hl 1 rfl) ?_
  refine lv_iload hx hb dL_law_1369 (lv_at hl 5 rfl) ?_
  refine lv_iconst (v := 1) hx hb dL_law_1371 (by decide) ?_
  refine lv_iadd hx hb dL_law_1372 ?_
  refine lw_sld F h hin1 ha1 dL_law_1373 ?_
  refine lv_aload_n hx hb dL_law_1374 rfl (lv_at hl 1 rfl) ?_
  refine lv_iload hx hb dL_law_1375 (lv_at hl 5 rfl) ?_
  refine lv_iconst (v := 2) hx hb dL_law_1377 (by decide) ?_
  refine lv_iadd hx hb dL_law_1378 ?_
  refine lw_sld F h hin2 ha2 dL_law_1379 ?_
  refine lv_aload_n hx hb dL_law_1380 rfl (lv_at hl 1 rfl) ?_
  refine lv_iload hx hb dL_law_1381 (lv_at hl 5 rfl) ?_
  refine lv_iconst (v := 3) hx hb dL_law_1383 (by decide) ?_
  refine lv_iadd hx hb dL_law_1384 ?_
  refine lw_sld F h hin3 ha3 dL_law_1385 ?_
  refine lv_aload_n hx hb dL_law_1386 rfl (lv_at hl 1 rfl) ?_
  refine lv_iload hx hb dL_law_1387 (lv_at hl 5 rfl) ?_
  refine lv_iconst (v := 4) hx hb dL_law_1389 (by decide) ?_
  refine lv_iadd hx hb dL_law_1390 ?_
  refine lw_sld F h hin4 ha4 dL_law_1391 ?_
  refine lv_aload_n hx hb dL_law_1392 rfl (lv_at hl 1 rfl) ?_
  refine lv_iload hx hb dL_law_1393 (lv_at hl 5 rfl) ?_
  refine lv_iconst (v := 5) hx hb dL_law_1395 (by decide) ?_
  refine lv_iadd hx hb dL_law_1396 ?_
  refine lw_sld F h hin5 ha5 dL_law_1397 ?_
  refine lv_aload_n hx hb dL_law_1398 rfl (lv_at hl 1 rfl) ?_
  refine lv_iload hx hb dL_law_1399 (lv_at hl 5 rfl) ?_
  refine lv_bipush (v := 6) hx hb dL_law_1401 (by decide) ?_
  refine lv_iadd hx hb dL_law_1403 ?_
  refine lw_sld F h hin6 ha6 dL_law_1404 ?_
  refine lv_aload_n hx hb dL_law_1405 rfl (lv_at hl 1 rfl) ?_
  refine lv_iload hx hb dL_law_1406 (lv_at hl 5 rfl) ?_
  refine lv_bipush (v := 7) hx hb dL_law_1408 (by decide) ?_
  refine lv_iadd hx hb dL_law_1410 ?_
  refine lw_sld F h hin7 ha7 dL_law_1411 ?_
  refine lv_aload_n hx hb dL_law_1412 rfl (lv_at hl 1 rfl) ?_
  refine lv_iload hx hb dL_law_1413 (lv_at hl 5 rfl) ?_
  refine lv_bipush (v := 8) hx hb dL_law_1415 (by decide) ?_
  refine lv_iadd hx hb dL_law_1417 ?_
  refine lw_sld F h hin8 ha8 dL_law_1418 ?_
  obtain ⟨hom, hp⟩ := hp
  refine h2_mod ⟨hx, hb, hml, hown, hts⟩ (k_X10_sell l G zm wm _ mm a1 a2 a3 a4 a5 a6 a7 a8 _ hp) (cwV 8 hts gL_law_X10_sell rfl rfl rfl (by decide +kernel) ⟨Nat.le_of_ble_eq_true rfl, Nat.le_of_ble_eq_true rfl⟩) hom (by decide) rfl hK h hA hE rfl hl.1 rfl (Nat.le_of_ble_eq_true rfl) dL_law_1419 ⟨by omega, by omega⟩ (fun b1 wm1 H locs hp h => ?_)
  refine lv_istore (lv' := [(6, .int b1), (5, .int k1), (0, .ref b), (1, .ref x), (2, .ref mm), (3, .ref t), (4, .int i)]) hx hb dL_law_1422 hl (by decide) rfl (fun ls hl => ?_)
  refine lv_aload_n hx hb dL_law_1424 rfl (lv_at hl 4 rfl) ?_
  obtain ⟨hom, hp⟩ := hp
  refine h2_mod ⟨hx, hb, hml, hown, hts⟩ (k_X10_thrown l G zm wm1 _ mm _ hp) (cwV 0 hts gL_law_X10_thrown rfl rfl rfl (by decide +kernel) ⟨Nat.le_of_ble_eq_true rfl, Nat.le_of_ble_eq_true rfl⟩) hom (by decide) rfl hK h hA hE rfl hl.1 rfl (Nat.le_of_ble_eq_true rfl) dL_law_1425 ⟨by omega, by omega⟩ (fun b2 wm2 H locs hp h => ?_)
  refine lv_iload hx hb dL_law_1428 (lv_at hl 1 rfl) ?_
  obtain ⟨he, hp⟩ := hp
  refine lv_icmp_eq (tgt := 1435) hx hb dL_law_1430 (by decide) (fun _ => ?_) (fun hc => absurd he hc)
  refine lv_iload hx hb dL_law_1435 (lv_at hl 1 rfl) ?_
  refine lv_if_ne (tgt := 1452) hx hb dL_law_1437 (by decide) (fun hc => ?_) (fun hc => ?_)
  · have hp := hp.1 hc
    refine lv_goto (tgt := 1881) hx hb dL_law_1452 (by decide) ?_
    refine W.widen (k := cells + 4) (n := slots + 24) (by omega) (by omega) ?_
    exact kk _ _ _ _ _ _ _ hp h (lv_sub hl [2, 3, 4, 5, 6] rfl)
  · have hp := hp.2 hc
    refine lv_aload_n hx hb dL_law_1440 rfl (lv_at hl 5 rfl) ?_
    refine lv_iconst (v := 0) hx hb dL_law_1441 (by decide) ?_
    obtain ⟨hot, hp⟩ := hp
    refine h2_lald hx hb hK h hot vp01 dL_law_1442 ?_
    refine lv_iload hx hb dL_law_1443 (lv_at hl 0 rfl) ?_
    refine lv_i2l hx hb dL_law_1445 rfl ?_
    obtain ⟨he, hp⟩ := hp
    refine W.lcmp hx hb dL_law_1446 ?_
    rw [lw_cmp0 he]
    refine lv_if_eq (tgt := 1452) hx hb dL_law_1447 (by decide) (fun _ => ?_) (fun hc => absurd rfl hc)
    refine lv_goto (tgt := 1881) hx hb dL_law_1452 (by decide) ?_
    refine W.widen (k := cells + 4) (n := slots + 24) (by omega) (by omega) ?_
    exact kk _ _ _ _ _ _ _ hp h (lv_sub hl [2, 3, 4, 5, 6] rfl)
def wc_19 (zc : Zt) (wc : Vt) (zm : Zt) (wm : Vt) (x mm t : Nat) (a1 : Int32) (a2 : Int32) (KL : Zt → Vt → Zt → Vt → Prop) : Prop := wp_L_lot zc x a1 a2 t wc (fun k1 zc1 wc1 => isO zm 10 mm ∧ wp_X10_lot zm mm a1 a2 wm (fun b1 wm1 => isO zm 10 mm ∧ wp_X10_thrown zm mm wm1 (fun b2 wm2 => b2 = k1 ∧ (¬ k1 = 0 → KL zc1 wc1 zm wm2) ∧ (k1 = 0 → isO zc1 3000 t ∧ (vL wc1 3000 t (0 : Int32).toNatClampNeg) = (b1 : Int32).toInt64 ∧ KL zc1 wc1 zm wm2))))
set_option maxHeartbeats 4000000 in
set_option maxRecDepth 100000 in
theorem lc_19 (hst : l.stackTraces = false) (F : lwF p s m c b L xs G) {zc zm : Zt} {wc wm : Vt} {x mm t : Nat} {i : Int32} {a1 : Int32} {a2 : Int32} (hin1 : vp_in (i + 1) L) (hin2 : vp_in (i + 2) L) (ha1 : xs (i + 1).toNatClampNeg = a1) (ha2 : xs (i + 2).toNatClampNeg = a2) (h : hpH2 G (fun q : Nat => s.heap.size ≤ q) s.heap zc wc zm wm H locs) (hl : lv_has ls 7 [(0, .ref b), (1, .ref x), (2, .ref mm), (3, .ref t), (4, .int i)]) (hc : cells + 4 ≤ room_1.cells) (hs : slots + 24 ≤ room_1.slots) (KL : Zt → Vt → Zt → Vt → Prop) (hp : wc_19 zc wc zm wm x mm t a1 a2 KL)
    (kk : ∀ (zc : Zt) (wc : Vt) (zm : Zt) (wm : Vt) (H : Heap) (locs : List Loc) (ls : Array Slot), KL zc wc zm wm → hpH2 G (fun q : Nat => s.heap.size ≤ q) s.heap zc wc zm wm H locs → lv_has ls 7 [(0, .ref b), (1, .ref x), (2, .ref mm), (3, .ref t), (4, .int i)] → W p l e room_1 s m #[Value.ref b] below meth c H locs (cells + 4) (slots + 24) Q (F0 m 1881 ls [])) : W p l e room_1 s m #[Value.ref b] below meth c H locs cells slots Q (F0 m 1455 ls []) := by
  obtain ⟨hx, hb, hml, hown, hts, hX, hbl, hK, hE⟩ := id F
  have hA : ∀ q : Nat, s.heap.size ≤ q → (fun q : Nat => s.heap.size ≤ q) q := fun _ h => h
  refine lv_aload_n hx hb dL_law_1455 rfl (lv_at hl 1 rfl) ?_
  refine lv_aload_n hx hb dL_law_1456 rfl (lv_at hl 0 rfl) ?_
  refine lv_iload hx hb dL_law_1457 (lv_at hl 4 rfl) ?_
  refine lv_iconst (v := 1) hx hb dL_law_1459 (by decide) ?_
  refine lv_iadd hx hb dL_law_1460 ?_
  refine lw_sld F h hin1 ha1 dL_law_1461 ?_
  refine lv_aload_n hx hb dL_law_1462 rfl (lv_at hl 0 rfl) ?_
  refine lv_iload hx hb dL_law_1463 (lv_at hl 4 rfl) ?_
  refine lv_iconst (v := 2) hx hb dL_law_1465 (by decide) ?_
  refine lv_iadd hx hb dL_law_1466 ?_
  refine lw_sld F h hin2 ha2 dL_law_1467 ?_
  refine lv_aload_n hx hb dL_law_1468 rfl (lv_at hl 3 rfl) ?_
  refine h2_wrap ⟨hx, hb, hml, hown, hts⟩ (k_L_lot l hst G zc wc _ x a1 a2 t _ hp) (vx_cwSW 4 hts gL_law_L_lot rfl rfl rfl (by decide +kernel) ⟨Nat.le_of_ble_eq_true rfl, Nat.le_of_ble_eq_true rfl⟩) hK h hA hE rfl hl.1 rfl (Nat.le_of_ble_eq_true rfl) dL_law_1469 ⟨by omega, by omega⟩ (fun k1 zc1 wc1 H locs hp h => ?_)
  refine lv_istore (lv' := [(5, .int k1), (0, .ref b), (1, .ref x), (2, .ref mm), (3, .ref t), (4, .int i)]) hx hb dL_law_1472 hl (by decide) rfl (fun ls hl => ?_)
  refine lv_aload_n hx hb dL_law_1474 rfl (lv_at hl 3 rfl) ?_
  refine lv_aload_n hx hb dL_law_1475 rfl (lv_at hl 1 rfl) ?_
  refine lv_iload hx hb dL_law_1476 (lv_at hl 5 rfl) ?_
  refine lv_iconst (v := 1) hx hb dL_law_1478 (by decide) ?_
  refine lv_iadd hx hb dL_law_1479 ?_
  refine lw_sld F h hin1 ha1 dL_law_1480 ?_
  refine lv_aload_n hx hb dL_law_1481 rfl (lv_at hl 1 rfl) ?_
  refine lv_iload hx hb dL_law_1482 (lv_at hl 5 rfl) ?_
  refine lv_iconst (v := 2) hx hb dL_law_1484 (by decide) ?_
  refine lv_iadd hx hb dL_law_1485 ?_
  refine lw_sld F h hin2 ha2 dL_law_1486 ?_
  obtain ⟨hom, hp⟩ := hp
  refine h2_mod ⟨hx, hb, hml, hown, hts⟩ (k_X10_lot l G zm wm _ mm a1 a2 _ hp) (cwV 2 hts gL_law_X10_lot rfl rfl rfl (by decide +kernel) ⟨Nat.le_of_ble_eq_true rfl, Nat.le_of_ble_eq_true rfl⟩) hom (by decide) rfl hK h hA hE rfl hl.1 rfl (Nat.le_of_ble_eq_true rfl) dL_law_1487 ⟨by omega, by omega⟩ (fun b1 wm1 H locs hp h => ?_)
  refine lv_istore (lv' := [(6, .int b1), (5, .int k1), (0, .ref b), (1, .ref x), (2, .ref mm), (3, .ref t), (4, .int i)]) hx hb dL_law_1490 hl (by decide) rfl (fun ls hl => ?_)
  refine lv_aload_n hx hb dL_law_1492 rfl (lv_at hl 4 rfl) ?_
  obtain ⟨hom, hp⟩ := hp
  refine h2_mod ⟨hx, hb, hml, hown, hts⟩ (k_X10_thrown l G zm wm1 _ mm _ hp) (cwV 0 hts gL_law_X10_thrown rfl rfl rfl (by decide +kernel) ⟨Nat.le_of_ble_eq_true rfl, Nat.le_of_ble_eq_true rfl⟩) hom (by decide) rfl hK h hA hE rfl hl.1 rfl (Nat.le_of_ble_eq_true rfl) dL_law_1493 ⟨by omega, by omega⟩ (fun b2 wm2 H locs hp h => ?_)
  refine lv_iload hx hb dL_law_1496 (lv_at hl 1 rfl) ?_
  obtain ⟨he, hp⟩ := hp
  refine lv_icmp_eq (tgt := 1503) hx hb dL_law_1498 (by decide) (fun _ => ?_) (fun hc => absurd he hc)
  refine lv_iload hx hb dL_law_1503 (lv_at hl 1 rfl) ?_
  refine lv_if_ne (tgt := 1520) hx hb dL_law_1505 (by decide) (fun hc => ?_) (fun hc => ?_)
  · have hp := hp.1 hc
    refine lv_goto (tgt := 1881) hx hb dL_law_1520 (by decide) ?_
    refine W.widen (k := cells + 4) (n := slots + 24) (by omega) (by omega) ?_
    exact kk _ _ _ _ _ _ _ hp h (lv_sub hl [2, 3, 4, 5, 6] rfl)
  · have hp := hp.2 hc
    refine lv_aload_n hx hb dL_law_1508 rfl (lv_at hl 5 rfl) ?_
    refine lv_iconst (v := 0) hx hb dL_law_1509 (by decide) ?_
    obtain ⟨hot, hp⟩ := hp
    refine h2_lald hx hb hK h hot vp01 dL_law_1510 ?_
    refine lv_iload hx hb dL_law_1511 (lv_at hl 0 rfl) ?_
    refine lv_i2l hx hb dL_law_1513 rfl ?_
    obtain ⟨he, hp⟩ := hp
    refine W.lcmp hx hb dL_law_1514 ?_
    rw [lw_cmp0 he]
    refine lv_if_eq (tgt := 1520) hx hb dL_law_1515 (by decide) (fun _ => ?_) (fun hc => absurd rfl hc)
    refine lv_goto (tgt := 1881) hx hb dL_law_1520 (by decide) ?_
    refine W.widen (k := cells + 4) (n := slots + 24) (by omega) (by omega) ?_
    exact kk _ _ _ _ _ _ _ hp h (lv_sub hl [2, 3, 4, 5, 6] rfl)
def wc_20 (zc : Zt) (wc : Vt) (zm : Zt) (wm : Vt) (x mm t : Nat) (a1 : Int32) (a2 : Int32) (a3 : Int32) (KL : Zt → Vt → Zt → Vt → Prop) : Prop := wp_L_enter zc x a1 a2 a3 t wc (fun k1 zc1 wc1 => isO zm 10 mm ∧ wp_X10_enter zm mm a1 a2 a3 wm (fun b1 wm1 => isO zm 10 mm ∧ wp_X10_thrown zm mm wm1 (fun b2 wm2 => b2 = k1 ∧ (¬ k1 = 0 → KL zc1 wc1 zm wm2) ∧ (k1 = 0 → isO zc1 3000 t ∧ (vL wc1 3000 t (0 : Int32).toNatClampNeg) = (b1 : Int32).toInt64 ∧ KL zc1 wc1 zm wm2))))
set_option maxHeartbeats 4000000 in
set_option maxRecDepth 100000 in
theorem lc_20 (hst : l.stackTraces = false) (F : lwF p s m c b L xs G) {zc zm : Zt} {wc wm : Vt} {x mm t : Nat} {i : Int32} {a1 : Int32} {a2 : Int32} {a3 : Int32} (hin1 : vp_in (i + 1) L) (hin2 : vp_in (i + 2) L) (hin3 : vp_in (i + 3) L) (ha1 : xs (i + 1).toNatClampNeg = a1) (ha2 : xs (i + 2).toNatClampNeg = a2) (ha3 : xs (i + 3).toNatClampNeg = a3) (h : hpH2 G (fun q : Nat => s.heap.size ≤ q) s.heap zc wc zm wm H locs) (hl : lv_has ls 7 [(0, .ref b), (1, .ref x), (2, .ref mm), (3, .ref t), (4, .int i)]) (hc : cells + 4 ≤ room_1.cells) (hs : slots + 24 ≤ room_1.slots) (KL : Zt → Vt → Zt → Vt → Prop) (hp : wc_20 zc wc zm wm x mm t a1 a2 a3 KL)
    (kk : ∀ (zc : Zt) (wc : Vt) (zm : Zt) (wm : Vt) (H : Heap) (locs : List Loc) (ls : Array Slot), KL zc wc zm wm → hpH2 G (fun q : Nat => s.heap.size ≤ q) s.heap zc wc zm wm H locs → lv_has ls 7 [(0, .ref b), (1, .ref x), (2, .ref mm), (3, .ref t), (4, .int i)] → W p l e room_1 s m #[Value.ref b] below meth c H locs (cells + 4) (slots + 24) Q (F0 m 1881 ls [])) : W p l e room_1 s m #[Value.ref b] below meth c H locs cells slots Q (F0 m 1523 ls []) := by
  obtain ⟨hx, hb, hml, hown, hts, hX, hbl, hK, hE⟩ := id F
  have hA : ∀ q : Nat, s.heap.size ≤ q → (fun q : Nat => s.heap.size ≤ q) q := fun _ h => h
  refine lv_aload_n hx hb dL_law_1523 rfl (lv_at hl 1 rfl) ?_
  refine lv_aload_n hx hb dL_law_1524 rfl (lv_at hl 0 rfl) ?_
  refine lv_iload hx hb dL_law_1525 (lv_at hl 4 rfl) ?_
  refine lv_iconst (v := 1) hx hb dL_law_1527 (by decide) ?_
  refine lv_iadd hx hb dL_law_1528 ?_
  refine lw_sld F h hin1 ha1 dL_law_1529 ?_
  refine lv_aload_n hx hb dL_law_1530 rfl (lv_at hl 0 rfl) ?_
  refine lv_iload hx hb dL_law_1531 (lv_at hl 4 rfl) ?_
  refine lv_iconst (v := 2) hx hb dL_law_1533 (by decide) ?_
  refine lv_iadd hx hb dL_law_1534 ?_
  refine lw_sld F h hin2 ha2 dL_law_1535 ?_
  refine lv_aload_n hx hb dL_law_1536 rfl (lv_at hl 0 rfl) ?_
  refine lv_iload hx hb dL_law_1537 (lv_at hl 4 rfl) ?_
  refine lv_iconst (v := 3) hx hb dL_law_1539 (by decide) ?_
  refine lv_iadd hx hb dL_law_1540 ?_
  refine lw_sld F h hin3 ha3 dL_law_1541 ?_
  refine lv_aload_n hx hb dL_law_1542 rfl (lv_at hl 3 rfl) ?_
  refine h2_wrap ⟨hx, hb, hml, hown, hts⟩ (k_L_enter l hst G zc wc _ x a1 a2 a3 t _ hp) (vx_cwSW 5 hts gL_law_L_enter rfl rfl rfl (by decide +kernel) ⟨Nat.le_of_ble_eq_true rfl, Nat.le_of_ble_eq_true rfl⟩) hK h hA hE rfl hl.1 rfl (Nat.le_of_ble_eq_true rfl) dL_law_1543 ⟨by omega, by omega⟩ (fun k1 zc1 wc1 H locs hp h => ?_)
  refine lv_istore (lv' := [(5, .int k1), (0, .ref b), (1, .ref x), (2, .ref mm), (3, .ref t), (4, .int i)]) hx hb dL_law_1546 hl (by decide) rfl (fun ls hl => ?_)
  refine lv_aload_n hx hb dL_law_1548 rfl (lv_at hl 3 rfl) ?_
  refine lv_aload_n hx hb dL_law_1549 rfl (lv_at hl 1 rfl) ?_
  refine lv_iload hx hb dL_law_1550 (lv_at hl 5 rfl) ?_
  refine lv_iconst (v := 1) hx hb dL_law_1552 (by decide) ?_
  refine lv_iadd hx hb dL_law_1553 ?_
  refine lw_sld F h hin1 ha1 dL_law_1554 ?_
  refine lv_aload_n hx hb dL_law_1555 rfl (lv_at hl 1 rfl) ?_
  refine lv_iload hx hb dL_law_1556 (lv_at hl 5 rfl) ?_
  refine lv_iconst (v := 2) hx hb dL_law_1558 (by decide) ?_
  refine lv_iadd hx hb dL_law_1559 ?_
  refine lw_sld F h hin2 ha2 dL_law_1560 ?_
  refine lv_aload_n hx hb dL_law_1561 rfl (lv_at hl 1 rfl) ?_
  refine lv_iload hx hb dL_law_1562 (lv_at hl 5 rfl) ?_
  refine lv_iconst (v := 3) hx hb dL_law_1564 (by decide) ?_
  refine lv_iadd hx hb dL_law_1565 ?_
  refine lw_sld F h hin3 ha3 dL_law_1566 ?_
  obtain ⟨hom, hp⟩ := hp
  refine h2_mod ⟨hx, hb, hml, hown, hts⟩ (k_X10_enter l G zm wm _ mm a1 a2 a3 _ hp) (cwV 3 hts gL_law_X10_enter rfl rfl rfl (by decide +kernel) ⟨Nat.le_of_ble_eq_true rfl, Nat.le_of_ble_eq_true rfl⟩) hom (by decide) rfl hK h hA hE rfl hl.1 rfl (Nat.le_of_ble_eq_true rfl) dL_law_1567 ⟨by omega, by omega⟩ (fun b1 wm1 H locs hp h => ?_)
  refine lv_istore (lv' := [(6, .int b1), (5, .int k1), (0, .ref b), (1, .ref x), (2, .ref mm), (3, .ref t), (4, .int i)]) hx hb dL_law_1570 hl (by decide) rfl (fun ls hl => ?_)
  refine lv_aload_n hx hb dL_law_1572 rfl (lv_at hl 4 rfl) ?_
  obtain ⟨hom, hp⟩ := hp
  refine h2_mod ⟨hx, hb, hml, hown, hts⟩ (k_X10_thrown l G zm wm1 _ mm _ hp) (cwV 0 hts gL_law_X10_thrown rfl rfl rfl (by decide +kernel) ⟨Nat.le_of_ble_eq_true rfl, Nat.le_of_ble_eq_true rfl⟩) hom (by decide) rfl hK h hA hE rfl hl.1 rfl (Nat.le_of_ble_eq_true rfl) dL_law_1573 ⟨by omega, by omega⟩ (fun b2 wm2 H locs hp h => ?_)
  refine lv_iload hx hb dL_law_1576 (lv_at hl 1 rfl) ?_
  obtain ⟨he, hp⟩ := hp
  refine lv_icmp_eq (tgt := 1583) hx hb dL_law_1578 (by decide) (fun _ => ?_) (fun hc => absurd he hc)
  refine lv_iload hx hb dL_law_1583 (lv_at hl 1 rfl) ?_
  refine lv_if_ne (tgt := 1600) hx hb dL_law_1585 (by decide) (fun hc => ?_) (fun hc => ?_)
  · have hp := hp.1 hc
    refine lv_goto (tgt := 1881) hx hb dL_law_1600 (by decide) ?_
    refine W.widen (k := cells + 4) (n := slots + 24) (by omega) (by omega) ?_
    exact kk _ _ _ _ _ _ _ hp h (lv_sub hl [2, 3, 4, 5, 6] rfl)
  · have hp := hp.2 hc
    refine lv_aload_n hx hb dL_law_1588 rfl (lv_at hl 5 rfl) ?_
    refine lv_iconst (v := 0) hx hb dL_law_1589 (by decide) ?_
    obtain ⟨hot, hp⟩ := hp
    refine h2_lald hx hb hK h hot vp01 dL_law_1590 ?_
    refine lv_iload hx hb dL_law_1591 (lv_at hl 0 rfl) ?_
    refine lv_i2l hx hb dL_law_1593 rfl ?_
    obtain ⟨he, hp⟩ := hp
    refine W.lcmp hx hb dL_law_1594 ?_
    rw [lw_cmp0 he]
    refine lv_if_eq (tgt := 1600) hx hb dL_law_1595 (by decide) (fun _ => ?_) (fun hc => absurd rfl hc)
    refine lv_goto (tgt := 1881) hx hb dL_law_1600 (by decide) ?_
    refine W.widen (k := cells + 4) (n := slots + 24) (by omega) (by omega) ?_
    exact kk _ _ _ _ _ _ _ hp h (lv_sub hl [2, 3, 4, 5, 6] rfl)
def wc_21 (zc : Zt) (wc : Vt) (zm : Zt) (wm : Vt) (x mm t : Nat) (a1 : Int32) (KL : Zt → Vt → Zt → Vt → Prop) : Prop := wp_L_undo zc x a1 t wc (fun k1 zc1 wc1 => isO zm 10 mm ∧ wp_X10_undo zm mm a1 wm (fun b1 wm1 => isO zm 10 mm ∧ wp_X10_thrown zm mm wm1 (fun b2 wm2 => b2 = k1 ∧ (¬ k1 = 0 → KL zc1 wc1 zm wm2) ∧ (k1 = 0 → isO zc1 3000 t ∧ (b1 = 0 → (vL wc1 3000 t (0 : Int32).toNatClampNeg) = 0 ∧ KL zc1 wc1 zm wm2) ∧ (¬ b1 = 0 → (vL wc1 3000 t (0 : Int32).toNatClampNeg) = 1 ∧ KL zc1 wc1 zm wm2)))))
set_option maxHeartbeats 4000000 in
set_option maxRecDepth 100000 in
theorem lc_21 (hst : l.stackTraces = false) (F : lwF p s m c b L xs G) {zc zm : Zt} {wc wm : Vt} {x mm t : Nat} {i : Int32} {a1 : Int32} (hin1 : vp_in (i + 1) L) (ha1 : xs (i + 1).toNatClampNeg = a1) (h : hpH2 G (fun q : Nat => s.heap.size ≤ q) s.heap zc wc zm wm H locs) (hl : lv_has ls 7 [(0, .ref b), (1, .ref x), (2, .ref mm), (3, .ref t), (4, .int i)]) (hc : cells + 4 ≤ room_1.cells) (hs : slots + 24 ≤ room_1.slots) (KL : Zt → Vt → Zt → Vt → Prop) (hp : wc_21 zc wc zm wm x mm t a1 KL)
    (kk : ∀ (zc : Zt) (wc : Vt) (zm : Zt) (wm : Vt) (H : Heap) (locs : List Loc) (ls : Array Slot), KL zc wc zm wm → hpH2 G (fun q : Nat => s.heap.size ≤ q) s.heap zc wc zm wm H locs → lv_has ls 7 [(0, .ref b), (1, .ref x), (2, .ref mm), (3, .ref t), (4, .int i)] → W p l e room_1 s m #[Value.ref b] below meth c H locs (cells + 4) (slots + 24) Q (F0 m 1881 ls [])) : W p l e room_1 s m #[Value.ref b] below meth c H locs cells slots Q (F0 m 1603 ls []) := by
  obtain ⟨hx, hb, hml, hown, hts, hX, hbl, hK, hE⟩ := id F
  have hA : ∀ q : Nat, s.heap.size ≤ q → (fun q : Nat => s.heap.size ≤ q) q := fun _ h => h
  refine lv_aload_n hx hb dL_law_1603 rfl (lv_at hl 1 rfl) ?_
  refine lv_aload_n hx hb dL_law_1604 rfl (lv_at hl 0 rfl) ?_
  refine lv_iload hx hb dL_law_1605 (lv_at hl 4 rfl) ?_
  refine lv_iconst (v := 1) hx hb dL_law_1607 (by decide) ?_
  refine lv_iadd hx hb dL_law_1608 ?_
  refine lw_sld F h hin1 ha1 dL_law_1609 ?_
  refine lv_aload_n hx hb dL_law_1610 rfl (lv_at hl 3 rfl) ?_
  refine h2_wrap ⟨hx, hb, hml, hown, hts⟩ (k_L_undo l hst G zc wc _ x a1 t _ hp) (vx_cwSW 3 hts gL_law_L_undo rfl rfl rfl (by decide +kernel) ⟨Nat.le_of_ble_eq_true rfl, Nat.le_of_ble_eq_true rfl⟩) hK h hA hE rfl hl.1 rfl (Nat.le_of_ble_eq_true rfl) dL_law_1611 ⟨by omega, by omega⟩ (fun k1 zc1 wc1 H locs hp h => ?_)
  refine lv_istore (lv' := [(5, .int k1), (0, .ref b), (1, .ref x), (2, .ref mm), (3, .ref t), (4, .int i)]) hx hb dL_law_1614 hl (by decide) rfl (fun ls hl => ?_)
  refine lv_aload_n hx hb dL_law_1616 rfl (lv_at hl 3 rfl) ?_
  refine lv_aload_n hx hb dL_law_1617 rfl (lv_at hl 1 rfl) ?_
  refine lv_iload hx hb dL_law_1618 (lv_at hl 5 rfl) ?_
  refine lv_iconst (v := 1) hx hb dL_law_1620 (by decide) ?_
  refine lv_iadd hx hb dL_law_1621 ?_
  refine lw_sld F h hin1 ha1 dL_law_1622 ?_
  obtain ⟨hom, hp⟩ := hp
  refine h2_mod ⟨hx, hb, hml, hown, hts⟩ (k_X10_undo l G zm wm _ mm a1 _ hp) (cwV 1 hts gL_law_X10_undo rfl rfl rfl (by decide +kernel) ⟨Nat.le_of_ble_eq_true rfl, Nat.le_of_ble_eq_true rfl⟩) hom (by decide) rfl hK h hA hE rfl hl.1 rfl (Nat.le_of_ble_eq_true rfl) dL_law_1623 ⟨by omega, by omega⟩ (fun b1 wm1 H locs hp h => ?_)
  refine lv_istore (lv' := [(6, .int b1), (5, .int k1), (0, .ref b), (1, .ref x), (2, .ref mm), (3, .ref t), (4, .int i)]) hx hb dL_law_1626 hl (by decide) rfl (fun ls hl => ?_)
  refine lv_aload_n hx hb dL_law_1628 rfl (lv_at hl 4 rfl) ?_
  obtain ⟨hom, hp⟩ := hp
  refine h2_mod ⟨hx, hb, hml, hown, hts⟩ (k_X10_thrown l G zm wm1 _ mm _ hp) (cwV 0 hts gL_law_X10_thrown rfl rfl rfl (by decide +kernel) ⟨Nat.le_of_ble_eq_true rfl, Nat.le_of_ble_eq_true rfl⟩) hom (by decide) rfl hK h hA hE rfl hl.1 rfl (Nat.le_of_ble_eq_true rfl) dL_law_1629 ⟨by omega, by omega⟩ (fun b2 wm2 H locs hp h => ?_)
  refine lv_iload hx hb dL_law_1632 (lv_at hl 1 rfl) ?_
  obtain ⟨he, hp⟩ := hp
  refine lv_icmp_eq (tgt := 1639) hx hb dL_law_1634 (by decide) (fun _ => ?_) (fun hc => absurd he hc)
  refine lv_iload hx hb dL_law_1639 (lv_at hl 1 rfl) ?_
  refine lv_if_ne (tgt := 1663) hx hb dL_law_1641 (by decide) (fun hc => ?_) (fun hc => ?_)
  · have hp := hp.1 hc
    refine lv_goto (tgt := 1881) hx hb dL_law_1663 (by decide) ?_
    refine W.widen (k := cells + 4) (n := slots + 24) (by omega) (by omega) ?_
    exact kk _ _ _ _ _ _ _ hp h (lv_sub hl [2, 3, 4, 5, 6] rfl)
  · have hp := hp.2 hc
    refine lv_aload_n hx hb dL_law_1644 rfl (lv_at hl 5 rfl) ?_
    refine lv_iconst (v := 0) hx hb dL_law_1645 (by decide) ?_
    obtain ⟨hot, hp⟩ := hp
    refine h2_lald hx hb hK h hot vp01 dL_law_1646 ?_
    refine lv_iload hx hb dL_law_1647 (lv_at hl 0 rfl) ?_
    refine lv_if_eq (tgt := 1656) hx hb dL_law_1649 (by decide) (fun hcb1 => ?_) (fun hcb1 => ?_)
    · have hp := hp.1 hcb1
      refine lv_lconst (v := 0) hx hb dL_law_1656 (by decide) ?_
      obtain ⟨he, hp⟩ := hp
      refine W.lcmp hx hb dL_law_1657 ?_
      rw [lw_cmp0 he]
      refine lv_if_eq (tgt := 1663) hx hb dL_law_1658 (by decide) (fun _ => ?_) (fun hc => absurd rfl hc)
      refine lv_goto (tgt := 1881) hx hb dL_law_1663 (by decide) ?_
      refine W.widen (k := cells + 4) (n := slots + 24) (by omega) (by omega) ?_
      exact kk _ _ _ _ _ _ _ hp h (lv_sub hl [2, 3, 4, 5, 6] rfl)
    · have hp := hp.2 hcb1
      refine lv_lconst (v := 1) hx hb dL_law_1652 (by decide) ?_
      refine lv_goto (tgt := 1657) hx hb dL_law_1653 (by decide) ?_
      obtain ⟨he, hp⟩ := hp
      refine W.lcmp hx hb dL_law_1657 ?_
      rw [lw_cmp0 he]
      refine lv_if_eq (tgt := 1663) hx hb dL_law_1658 (by decide) (fun _ => ?_) (fun hc => absurd rfl hc)
      refine lv_goto (tgt := 1881) hx hb dL_law_1663 (by decide) ?_
      refine W.widen (k := cells + 4) (n := slots + 24) (by omega) (by omega) ?_
      exact kk _ _ _ _ _ _ _ hp h (lv_sub hl [2, 3, 4, 5, 6] rfl)
def wc_22 (zc : Zt) (wc : Vt) (zm : Zt) (wm : Vt) (x mm t : Nat) (a1 : Int32) (a2 : Int32) (a3 : Int32) (KL : Zt → Vt → Zt → Vt → Prop) : Prop := wp_L_balance zc x a1 a2 a3 t wc (fun k1 zc1 wc1 => isO zm 10 mm ∧ wp_X10_balance zm mm a1 a2 a3 wm (fun b1 wm1 => isO zm 10 mm ∧ wp_X10_thrown zm mm wm1 (fun b2 wm2 => b2 = k1 ∧ (¬ k1 = 0 → KL zc1 wc1 zm wm2) ∧ (k1 = 0 → isO zc1 3000 t ∧ (vL wc1 3000 t (0 : Int32).toNatClampNeg) = (b1 : Int32).toInt64 ∧ KL zc1 wc1 zm wm2))))
set_option maxHeartbeats 4000000 in
set_option maxRecDepth 100000 in
theorem lc_22 (hst : l.stackTraces = false) (F : lwF p s m c b L xs G) {zc zm : Zt} {wc wm : Vt} {x mm t : Nat} {i : Int32} {a1 : Int32} {a2 : Int32} {a3 : Int32} (hin1 : vp_in (i + 1) L) (hin2 : vp_in (i + 2) L) (hin3 : vp_in (i + 3) L) (ha1 : xs (i + 1).toNatClampNeg = a1) (ha2 : xs (i + 2).toNatClampNeg = a2) (ha3 : xs (i + 3).toNatClampNeg = a3) (h : hpH2 G (fun q : Nat => s.heap.size ≤ q) s.heap zc wc zm wm H locs) (hl : lv_has ls 7 [(0, .ref b), (1, .ref x), (2, .ref mm), (3, .ref t), (4, .int i)]) (hc : cells + 4 ≤ room_1.cells) (hs : slots + 24 ≤ room_1.slots) (KL : Zt → Vt → Zt → Vt → Prop) (hp : wc_22 zc wc zm wm x mm t a1 a2 a3 KL)
    (kk : ∀ (zc : Zt) (wc : Vt) (zm : Zt) (wm : Vt) (H : Heap) (locs : List Loc) (ls : Array Slot), KL zc wc zm wm → hpH2 G (fun q : Nat => s.heap.size ≤ q) s.heap zc wc zm wm H locs → lv_has ls 7 [(0, .ref b), (1, .ref x), (2, .ref mm), (3, .ref t), (4, .int i)] → W p l e room_1 s m #[Value.ref b] below meth c H locs (cells + 4) (slots + 24) Q (F0 m 1881 ls [])) : W p l e room_1 s m #[Value.ref b] below meth c H locs cells slots Q (F0 m 1666 ls []) := by
  obtain ⟨hx, hb, hml, hown, hts, hX, hbl, hK, hE⟩ := id F
  have hA : ∀ q : Nat, s.heap.size ≤ q → (fun q : Nat => s.heap.size ≤ q) q := fun _ h => h
  refine lv_aload_n hx hb dL_law_1666 rfl (lv_at hl 1 rfl) ?_
  refine lv_aload_n hx hb dL_law_1667 rfl (lv_at hl 0 rfl) ?_
  refine lv_iload hx hb dL_law_1668 (lv_at hl 4 rfl) ?_
  refine lv_iconst (v := 1) hx hb dL_law_1670 (by decide) ?_
  refine lv_iadd hx hb dL_law_1671 ?_
  refine lw_sld F h hin1 ha1 dL_law_1672 ?_
  refine lv_aload_n hx hb dL_law_1673 rfl (lv_at hl 0 rfl) ?_
  refine lv_iload hx hb dL_law_1674 (lv_at hl 4 rfl) ?_
  refine lv_iconst (v := 2) hx hb dL_law_1676 (by decide) ?_
  refine lv_iadd hx hb dL_law_1677 ?_
  refine lw_sld F h hin2 ha2 dL_law_1678 ?_
  refine lv_aload_n hx hb dL_law_1679 rfl (lv_at hl 0 rfl) ?_
  refine lv_iload hx hb dL_law_1680 (lv_at hl 4 rfl) ?_
  refine lv_iconst (v := 3) hx hb dL_law_1682 (by decide) ?_
  refine lv_iadd hx hb dL_law_1683 ?_
  refine lw_sld F h hin3 ha3 dL_law_1684 ?_
  refine lv_aload_n hx hb dL_law_1685 rfl (lv_at hl 3 rfl) ?_
  refine h2_wrap ⟨hx, hb, hml, hown, hts⟩ (k_L_balance l hst G zc wc _ x a1 a2 a3 t _ hp) (vx_cwSW 5 hts gL_law_L_balance rfl rfl rfl (by decide +kernel) ⟨Nat.le_of_ble_eq_true rfl, Nat.le_of_ble_eq_true rfl⟩) hK h hA hE rfl hl.1 rfl (Nat.le_of_ble_eq_true rfl) dL_law_1686 ⟨by omega, by omega⟩ (fun k1 zc1 wc1 H locs hp h => ?_)
  refine lv_istore (lv' := [(5, .int k1), (0, .ref b), (1, .ref x), (2, .ref mm), (3, .ref t), (4, .int i)]) hx hb dL_law_1689 hl (by decide) rfl (fun ls hl => ?_)
  refine lv_aload_n hx hb dL_law_1691 rfl (lv_at hl 3 rfl) ?_
  refine lv_aload_n hx hb dL_law_1692 rfl (lv_at hl 1 rfl) ?_
  refine lv_iload hx hb dL_law_1693 (lv_at hl 5 rfl) ?_
  refine lv_iconst (v := 1) hx hb dL_law_1695 (by decide) ?_
  refine lv_iadd hx hb dL_law_1696 ?_
  refine lw_sld F h hin1 ha1 dL_law_1697 ?_
  refine lv_aload_n hx hb dL_law_1698 rfl (lv_at hl 1 rfl) ?_
  refine lv_iload hx hb dL_law_1699 (lv_at hl 5 rfl) ?_
  refine lv_iconst (v := 2) hx hb dL_law_1701 (by decide) ?_
  refine lv_iadd hx hb dL_law_1702 ?_
  refine lw_sld F h hin2 ha2 dL_law_1703 ?_
  refine lv_aload_n hx hb dL_law_1704 rfl (lv_at hl 1 rfl) ?_
  refine lv_iload hx hb dL_law_1705 (lv_at hl 5 rfl) ?_
  refine lv_iconst (v := 3) hx hb dL_law_1707 (by decide) ?_
  refine lv_iadd hx hb dL_law_1708 ?_
  refine lw_sld F h hin3 ha3 dL_law_1709 ?_
  obtain ⟨hom, hp⟩ := hp
  refine h2_mod ⟨hx, hb, hml, hown, hts⟩ (k_X10_balance l G zm wm _ mm a1 a2 a3 _ hp) (cwV 3 hts gL_law_X10_balance rfl rfl rfl (by decide +kernel) ⟨Nat.le_of_ble_eq_true rfl, Nat.le_of_ble_eq_true rfl⟩) hom (by decide) rfl hK h hA hE rfl hl.1 rfl (Nat.le_of_ble_eq_true rfl) dL_law_1710 ⟨by omega, by omega⟩ (fun b1 wm1 H locs hp h => ?_)
  refine lv_istore (lv' := [(6, .int b1), (5, .int k1), (0, .ref b), (1, .ref x), (2, .ref mm), (3, .ref t), (4, .int i)]) hx hb dL_law_1713 hl (by decide) rfl (fun ls hl => ?_)
  refine lv_aload_n hx hb dL_law_1715 rfl (lv_at hl 4 rfl) ?_
  obtain ⟨hom, hp⟩ := hp
  refine h2_mod ⟨hx, hb, hml, hown, hts⟩ (k_X10_thrown l G zm wm1 _ mm _ hp) (cwV 0 hts gL_law_X10_thrown rfl rfl rfl (by decide +kernel) ⟨Nat.le_of_ble_eq_true rfl, Nat.le_of_ble_eq_true rfl⟩) hom (by decide) rfl hK h hA hE rfl hl.1 rfl (Nat.le_of_ble_eq_true rfl) dL_law_1716 ⟨by omega, by omega⟩ (fun b2 wm2 H locs hp h => ?_)
  refine lv_iload hx hb dL_law_1719 (lv_at hl 1 rfl) ?_
  obtain ⟨he, hp⟩ := hp
  refine lv_icmp_eq (tgt := 1726) hx hb dL_law_1721 (by decide) (fun _ => ?_) (fun hc => absurd he hc)
  refine lv_iload hx hb dL_law_1726 (lv_at hl 1 rfl) ?_
  refine lv_if_ne (tgt := 1743) hx hb dL_law_1728 (by decide) (fun hc => ?_) (fun hc => ?_)
  · have hp := hp.1 hc
    refine lv_goto (tgt := 1881) hx hb dL_law_1743 (by decide) ?_
    refine W.widen (k := cells + 4) (n := slots + 24) (by omega) (by omega) ?_
    exact kk _ _ _ _ _ _ _ hp h (lv_sub hl [2, 3, 4, 5, 6] rfl)
  · have hp := hp.2 hc
    refine lv_aload_n hx hb dL_law_1731 rfl (lv_at hl 5 rfl) ?_
    refine lv_iconst (v := 0) hx hb dL_law_1732 (by decide) ?_
    obtain ⟨hot, hp⟩ := hp
    refine h2_lald hx hb hK h hot vp01 dL_law_1733 ?_
    refine lv_iload hx hb dL_law_1734 (lv_at hl 0 rfl) ?_
    refine lv_i2l hx hb dL_law_1736 rfl ?_
    obtain ⟨he, hp⟩ := hp
    refine W.lcmp hx hb dL_law_1737 ?_
    rw [lw_cmp0 he]
    refine lv_if_eq (tgt := 1743) hx hb dL_law_1738 (by decide) (fun _ => ?_) (fun hc => absurd rfl hc)
    refine lv_goto (tgt := 1881) hx hb dL_law_1743 (by decide) ?_
    refine W.widen (k := cells + 4) (n := slots + 24) (by omega) (by omega) ?_
    exact kk _ _ _ _ _ _ _ hp h (lv_sub hl [2, 3, 4, 5, 6] rfl)
def wc_23 (zc : Zt) (wc : Vt) (zm : Zt) (wm : Vt) (x mm t : Nat) (a1 : Int32) (a2 : Int32) (a3 : Int32) (KL : Zt → Vt → Zt → Vt → Prop) : Prop := (a1 = 0 → (a2 = 0 → (a3 = 0 → isO zc 9 x ∧ wp_X9_foretell zc x 0 0 0 wc (fun r1 wc1 => isO zm 10 mm ∧ wp_X10_foretell zm mm 0 0 0 wm (fun b1 wm1 => r1 = b1 ∧ KL zc wc1 zm wm1))) ∧ (¬ a3 = 0 → isO zc 9 x ∧ wp_X9_foretell zc x 0 0 1 wc (fun r1 wc1 => isO zm 10 mm ∧ wp_X10_foretell zm mm 0 0 1 wm (fun b2 wm2 => r1 = b2 ∧ KL zc wc1 zm wm2)))) ∧ (¬ a2 = 0 → (a3 = 0 → isO zc 9 x ∧ wp_X9_foretell zc x 0 1 0 wc (fun r1 wc1 => isO zm 10 mm ∧ wp_X10_foretell zm mm 0 1 0 wm (fun b3 wm3 => r1 = b3 ∧ KL zc wc1 zm wm3))) ∧ (¬ a3 = 0 → isO zc 9 x ∧ wp_X9_foretell zc x 0 1 1 wc (fun r1 wc1 => isO zm 10 mm ∧ wp_X10_foretell zm mm 0 1 1 wm (fun b4 wm4 => r1 = b4 ∧ KL zc wc1 zm wm4))))) ∧ (¬ a1 = 0 → (a2 = 0 → (a3 = 0 → isO zc 9 x ∧ wp_X9_foretell zc x 1 0 0 wc (fun r1 wc1 => isO zm 10 mm ∧ wp_X10_foretell zm mm 1 0 0 wm (fun b5 wm5 => r1 = b5 ∧ KL zc wc1 zm wm5))) ∧ (¬ a3 = 0 → isO zc 9 x ∧ wp_X9_foretell zc x 1 0 1 wc (fun r1 wc1 => isO zm 10 mm ∧ wp_X10_foretell zm mm 1 0 1 wm (fun b6 wm6 => r1 = b6 ∧ KL zc wc1 zm wm6)))) ∧ (¬ a2 = 0 → (a3 = 0 → isO zc 9 x ∧ wp_X9_foretell zc x 1 1 0 wc (fun r1 wc1 => isO zm 10 mm ∧ wp_X10_foretell zm mm 1 1 0 wm (fun b7 wm7 => r1 = b7 ∧ KL zc wc1 zm wm7))) ∧ (¬ a3 = 0 → isO zc 9 x ∧ wp_X9_foretell zc x 1 1 1 wc (fun r1 wc1 => isO zm 10 mm ∧ wp_X10_foretell zm mm 1 1 1 wm (fun b8 wm8 => r1 = b8 ∧ KL zc wc1 zm wm8)))))
set_option maxHeartbeats 4000000 in
set_option maxRecDepth 100000 in
theorem lc_23 (hst : l.stackTraces = false) (F : lwF p s m c b L xs G) {zc zm : Zt} {wc wm : Vt} {x mm t : Nat} {i : Int32} {a1 : Int32} {a2 : Int32} {a3 : Int32} (hin1 : vp_in (i + 1) L) (hin2 : vp_in (i + 2) L) (hin3 : vp_in (i + 3) L) (ha1 : xs (i + 1).toNatClampNeg = a1) (ha2 : xs (i + 2).toNatClampNeg = a2) (ha3 : xs (i + 3).toNatClampNeg = a3) (h : hpH2 G (fun q : Nat => s.heap.size ≤ q) s.heap zc wc zm wm H locs) (hl : lv_has ls 7 [(0, .ref b), (1, .ref x), (2, .ref mm), (3, .ref t), (4, .int i)]) (hc : cells + 4 ≤ room_1.cells) (hs : slots + 24 ≤ room_1.slots) (KL : Zt → Vt → Zt → Vt → Prop) (hp : wc_23 zc wc zm wm x mm t a1 a2 a3 KL)
    (kk : ∀ (zc : Zt) (wc : Vt) (zm : Zt) (wm : Vt) (H : Heap) (locs : List Loc) (ls : Array Slot), KL zc wc zm wm → hpH2 G (fun q : Nat => s.heap.size ≤ q) s.heap zc wc zm wm H locs → lv_has ls 7 [(0, .ref b), (1, .ref x), (2, .ref mm), (3, .ref t), (4, .int i)] → W p l e room_1 s m #[Value.ref b] below meth c H locs (cells + 4) (slots + 24) Q (F0 m 1881 ls [])) : W p l e room_1 s m #[Value.ref b] below meth c H locs cells slots Q (F0 m 1746 ls []) := by
  obtain ⟨hx, hb, hml, hown, hts, hX, hbl, hK, hE⟩ := id F
  have hA : ∀ q : Nat, s.heap.size ≤ q → (fun q : Nat => s.heap.size ≤ q) q := fun _ h => h
  refine lv_aload_n hx hb dL_law_1746 rfl (lv_at hl 1 rfl) ?_
  refine lv_aload_n hx hb dL_law_1747 rfl (lv_at hl 0 rfl) ?_
  refine lv_iload hx hb dL_law_1748 (lv_at hl 4 rfl) ?_
  refine lv_iconst (v := 1) hx hb dL_law_1750 (by decide) ?_
  refine lv_iadd hx hb dL_law_1751 ?_
  refine lw_sld F h hin1 ha1 dL_law_1752 ?_
  refine lv_if_eq (tgt := 1760) hx hb dL_law_1753 (by decide) (fun hca1 => ?_) (fun hca1 => ?_)
  · have hp := hp.1 hca1
    refine lv_iconst (v := 0) hx hb dL_law_1760 (by decide) ?_
    refine lv_aload_n hx hb dL_law_1761 rfl (lv_at hl 0 rfl) ?_
    refine lv_iload hx hb dL_law_1762 (lv_at hl 4 rfl) ?_
    refine lv_iconst (v := 2) hx hb dL_law_1764 (by decide) ?_
    refine lv_iadd hx hb dL_law_1765 ?_
    refine lw_sld F h hin2 ha2 dL_law_1766 ?_
    refine lv_if_eq (tgt := 1774) hx hb dL_law_1767 (by decide) (fun hca2 => ?_) (fun hca2 => ?_)
    · have hp := hp.1 hca2
      refine lv_iconst (v := 0) hx hb dL_law_1774 (by decide) ?_
      refine lv_aload_n hx hb dL_law_1775 rfl (lv_at hl 0 rfl) ?_
      refine lv_iload hx hb dL_law_1776 (lv_at hl 4 rfl) ?_
      refine lv_iconst (v := 3) hx hb dL_law_1778 (by decide) ?_
      refine lv_iadd hx hb dL_law_1779 ?_
      refine lw_sld F h hin3 ha3 dL_law_1780 ?_
      refine lv_if_eq (tgt := 1788) hx hb dL_law_1781 (by decide) (fun hca3 => ?_) (fun hca3 => ?_)
      · have hp := hp.1 hca3
        refine lv_iconst (v := 0) hx hb dL_law_1788 (by decide) ?_
        obtain ⟨hox, hp⟩ := hp
        refine h2_cls ⟨hx, hb, hml, hown, hts⟩ (k_X9_foretell l G zc wc _ x 0 0 0 _ hp) (cwV 3 hts gL_law_X9_foretell rfl rfl rfl (by decide +kernel) ⟨Nat.le_of_ble_eq_true rfl, Nat.le_of_ble_eq_true rfl⟩) hox (by decide) rfl hK h hA hE rfl hl.1 rfl (Nat.le_of_ble_eq_true rfl) dL_law_1789 ⟨by omega, by omega⟩ (fun r1 wc1 H locs hp h => ?_)
        refine lv_aload_n hx hb dL_law_1792 rfl (lv_at hl 2 rfl) ?_
        refine lv_aload_n hx hb dL_law_1793 rfl (lv_at hl 0 rfl) ?_
        refine lv_iload hx hb dL_law_1794 (lv_at hl 4 rfl) ?_
        refine lv_iconst (v := 1) hx hb dL_law_1796 (by decide) ?_
        refine lv_iadd hx hb dL_law_1797 ?_
        refine lw_sld F h hin1 ha1 dL_law_1798 ?_
        refine lv_if_eq (tgt := 1806) hx hb dL_law_1799 (by decide) (fun _ => ?_) (fun hc => absurd hca1 hc)
        refine lv_iconst (v := 0) hx hb dL_law_1806 (by decide) ?_
        refine lv_aload_n hx hb dL_law_1807 rfl (lv_at hl 0 rfl) ?_
        refine lv_iload hx hb dL_law_1808 (lv_at hl 4 rfl) ?_
        refine lv_iconst (v := 2) hx hb dL_law_1810 (by decide) ?_
        refine lv_iadd hx hb dL_law_1811 ?_
        refine lw_sld F h hin2 ha2 dL_law_1812 ?_
        refine lv_if_eq (tgt := 1820) hx hb dL_law_1813 (by decide) (fun _ => ?_) (fun hc => absurd hca2 hc)
        refine lv_iconst (v := 0) hx hb dL_law_1820 (by decide) ?_
        refine lv_aload_n hx hb dL_law_1821 rfl (lv_at hl 0 rfl) ?_
        refine lv_iload hx hb dL_law_1822 (lv_at hl 4 rfl) ?_
        refine lv_iconst (v := 3) hx hb dL_law_1824 (by decide) ?_
        refine lv_iadd hx hb dL_law_1825 ?_
        refine lw_sld F h hin3 ha3 dL_law_1826 ?_
        refine lv_if_eq (tgt := 1834) hx hb dL_law_1827 (by decide) (fun _ => ?_) (fun hc => absurd hca3 hc)
        refine lv_iconst (v := 0) hx hb dL_law_1834 (by decide) ?_
        obtain ⟨hom, hp⟩ := hp
        refine h2_mod ⟨hx, hb, hml, hown, hts⟩ (k_X10_foretell l G zm wm _ mm 0 0 0 _ hp) (cwV 3 hts gL_law_X10_foretell rfl rfl rfl (by decide +kernel) ⟨Nat.le_of_ble_eq_true rfl, Nat.le_of_ble_eq_true rfl⟩) hom (by decide) rfl hK h hA hE rfl hl.1 rfl (Nat.le_of_ble_eq_true rfl) dL_law_1835 ⟨by omega, by omega⟩ (fun b1 wm1 H locs hp h => ?_)
        obtain ⟨he, hp⟩ := hp
        refine lv_icmp_eq (tgt := 1881) hx hb dL_law_1838 (by decide) (fun _ => ?_) (fun hc => absurd he hc)
        refine W.widen (k := cells + 4) (n := slots + 24) (by omega) (by omega) ?_
        exact kk _ _ _ _ _ _ _ hp h (lv_sub hl [0, 1, 2, 3, 4] rfl)
      · have hp := hp.2 hca3
        refine lv_iconst (v := 1) hx hb dL_law_1784 (by decide) ?_
        refine lv_goto (tgt := 1789) hx hb dL_law_1785 (by decide) ?_
        obtain ⟨hox, hp⟩ := hp
        refine h2_cls ⟨hx, hb, hml, hown, hts⟩ (k_X9_foretell l G zc wc _ x 0 0 1 _ hp) (cwV 3 hts gL_law_X9_foretell rfl rfl rfl (by decide +kernel) ⟨Nat.le_of_ble_eq_true rfl, Nat.le_of_ble_eq_true rfl⟩) hox (by decide) rfl hK h hA hE rfl hl.1 rfl (Nat.le_of_ble_eq_true rfl) dL_law_1789 ⟨by omega, by omega⟩ (fun r1 wc1 H locs hp h => ?_)
        refine lv_aload_n hx hb dL_law_1792 rfl (lv_at hl 2 rfl) ?_
        refine lv_aload_n hx hb dL_law_1793 rfl (lv_at hl 0 rfl) ?_
        refine lv_iload hx hb dL_law_1794 (lv_at hl 4 rfl) ?_
        refine lv_iconst (v := 1) hx hb dL_law_1796 (by decide) ?_
        refine lv_iadd hx hb dL_law_1797 ?_
        refine lw_sld F h hin1 ha1 dL_law_1798 ?_
        refine lv_if_eq (tgt := 1806) hx hb dL_law_1799 (by decide) (fun _ => ?_) (fun hc => absurd hca1 hc)
        refine lv_iconst (v := 0) hx hb dL_law_1806 (by decide) ?_
        refine lv_aload_n hx hb dL_law_1807 rfl (lv_at hl 0 rfl) ?_
        refine lv_iload hx hb dL_law_1808 (lv_at hl 4 rfl) ?_
        refine lv_iconst (v := 2) hx hb dL_law_1810 (by decide) ?_
        refine lv_iadd hx hb dL_law_1811 ?_
        refine lw_sld F h hin2 ha2 dL_law_1812 ?_
        refine lv_if_eq (tgt := 1820) hx hb dL_law_1813 (by decide) (fun _ => ?_) (fun hc => absurd hca2 hc)
        refine lv_iconst (v := 0) hx hb dL_law_1820 (by decide) ?_
        refine lv_aload_n hx hb dL_law_1821 rfl (lv_at hl 0 rfl) ?_
        refine lv_iload hx hb dL_law_1822 (lv_at hl 4 rfl) ?_
        refine lv_iconst (v := 3) hx hb dL_law_1824 (by decide) ?_
        refine lv_iadd hx hb dL_law_1825 ?_
        refine lw_sld F h hin3 ha3 dL_law_1826 ?_
        refine lv_if_eq (tgt := 1834) hx hb dL_law_1827 (by decide) (fun hc => absurd hc hca3) (fun _ => ?_)
        refine lv_iconst (v := 1) hx hb dL_law_1830 (by decide) ?_
        refine lv_goto (tgt := 1835) hx hb dL_law_1831 (by decide) ?_
        obtain ⟨hom, hp⟩ := hp
        refine h2_mod ⟨hx, hb, hml, hown, hts⟩ (k_X10_foretell l G zm wm _ mm 0 0 1 _ hp) (cwV 3 hts gL_law_X10_foretell rfl rfl rfl (by decide +kernel) ⟨Nat.le_of_ble_eq_true rfl, Nat.le_of_ble_eq_true rfl⟩) hom (by decide) rfl hK h hA hE rfl hl.1 rfl (Nat.le_of_ble_eq_true rfl) dL_law_1835 ⟨by omega, by omega⟩ (fun b2 wm2 H locs hp h => ?_)
        obtain ⟨he, hp⟩ := hp
        refine lv_icmp_eq (tgt := 1881) hx hb dL_law_1838 (by decide) (fun _ => ?_) (fun hc => absurd he hc)
        refine W.widen (k := cells + 4) (n := slots + 24) (by omega) (by omega) ?_
        exact kk _ _ _ _ _ _ _ hp h (lv_sub hl [0, 1, 2, 3, 4] rfl)
    · have hp := hp.2 hca2
      refine lv_iconst (v := 1) hx hb dL_law_1770 (by decide) ?_
      refine lv_goto (tgt := 1775) hx hb dL_law_1771 (by decide) ?_
      refine lv_aload_n hx hb dL_law_1775 rfl (lv_at hl 0 rfl) ?_
      refine lv_iload hx hb dL_law_1776 (lv_at hl 4 rfl) ?_
      refine lv_iconst (v := 3) hx hb dL_law_1778 (by decide) ?_
      refine lv_iadd hx hb dL_law_1779 ?_
      refine lw_sld F h hin3 ha3 dL_law_1780 ?_
      refine lv_if_eq (tgt := 1788) hx hb dL_law_1781 (by decide) (fun hca3 => ?_) (fun hca3 => ?_)
      · have hp := hp.1 hca3
        refine lv_iconst (v := 0) hx hb dL_law_1788 (by decide) ?_
        obtain ⟨hox, hp⟩ := hp
        refine h2_cls ⟨hx, hb, hml, hown, hts⟩ (k_X9_foretell l G zc wc _ x 0 1 0 _ hp) (cwV 3 hts gL_law_X9_foretell rfl rfl rfl (by decide +kernel) ⟨Nat.le_of_ble_eq_true rfl, Nat.le_of_ble_eq_true rfl⟩) hox (by decide) rfl hK h hA hE rfl hl.1 rfl (Nat.le_of_ble_eq_true rfl) dL_law_1789 ⟨by omega, by omega⟩ (fun r1 wc1 H locs hp h => ?_)
        refine lv_aload_n hx hb dL_law_1792 rfl (lv_at hl 2 rfl) ?_
        refine lv_aload_n hx hb dL_law_1793 rfl (lv_at hl 0 rfl) ?_
        refine lv_iload hx hb dL_law_1794 (lv_at hl 4 rfl) ?_
        refine lv_iconst (v := 1) hx hb dL_law_1796 (by decide) ?_
        refine lv_iadd hx hb dL_law_1797 ?_
        refine lw_sld F h hin1 ha1 dL_law_1798 ?_
        refine lv_if_eq (tgt := 1806) hx hb dL_law_1799 (by decide) (fun _ => ?_) (fun hc => absurd hca1 hc)
        refine lv_iconst (v := 0) hx hb dL_law_1806 (by decide) ?_
        refine lv_aload_n hx hb dL_law_1807 rfl (lv_at hl 0 rfl) ?_
        refine lv_iload hx hb dL_law_1808 (lv_at hl 4 rfl) ?_
        refine lv_iconst (v := 2) hx hb dL_law_1810 (by decide) ?_
        refine lv_iadd hx hb dL_law_1811 ?_
        refine lw_sld F h hin2 ha2 dL_law_1812 ?_
        refine lv_if_eq (tgt := 1820) hx hb dL_law_1813 (by decide) (fun hc => absurd hc hca2) (fun _ => ?_)
        refine lv_iconst (v := 1) hx hb dL_law_1816 (by decide) ?_
        refine lv_goto (tgt := 1821) hx hb dL_law_1817 (by decide) ?_
        refine lv_aload_n hx hb dL_law_1821 rfl (lv_at hl 0 rfl) ?_
        refine lv_iload hx hb dL_law_1822 (lv_at hl 4 rfl) ?_
        refine lv_iconst (v := 3) hx hb dL_law_1824 (by decide) ?_
        refine lv_iadd hx hb dL_law_1825 ?_
        refine lw_sld F h hin3 ha3 dL_law_1826 ?_
        refine lv_if_eq (tgt := 1834) hx hb dL_law_1827 (by decide) (fun _ => ?_) (fun hc => absurd hca3 hc)
        refine lv_iconst (v := 0) hx hb dL_law_1834 (by decide) ?_
        obtain ⟨hom, hp⟩ := hp
        refine h2_mod ⟨hx, hb, hml, hown, hts⟩ (k_X10_foretell l G zm wm _ mm 0 1 0 _ hp) (cwV 3 hts gL_law_X10_foretell rfl rfl rfl (by decide +kernel) ⟨Nat.le_of_ble_eq_true rfl, Nat.le_of_ble_eq_true rfl⟩) hom (by decide) rfl hK h hA hE rfl hl.1 rfl (Nat.le_of_ble_eq_true rfl) dL_law_1835 ⟨by omega, by omega⟩ (fun b3 wm3 H locs hp h => ?_)
        obtain ⟨he, hp⟩ := hp
        refine lv_icmp_eq (tgt := 1881) hx hb dL_law_1838 (by decide) (fun _ => ?_) (fun hc => absurd he hc)
        refine W.widen (k := cells + 4) (n := slots + 24) (by omega) (by omega) ?_
        exact kk _ _ _ _ _ _ _ hp h (lv_sub hl [0, 1, 2, 3, 4] rfl)
      · have hp := hp.2 hca3
        refine lv_iconst (v := 1) hx hb dL_law_1784 (by decide) ?_
        refine lv_goto (tgt := 1789) hx hb dL_law_1785 (by decide) ?_
        obtain ⟨hox, hp⟩ := hp
        refine h2_cls ⟨hx, hb, hml, hown, hts⟩ (k_X9_foretell l G zc wc _ x 0 1 1 _ hp) (cwV 3 hts gL_law_X9_foretell rfl rfl rfl (by decide +kernel) ⟨Nat.le_of_ble_eq_true rfl, Nat.le_of_ble_eq_true rfl⟩) hox (by decide) rfl hK h hA hE rfl hl.1 rfl (Nat.le_of_ble_eq_true rfl) dL_law_1789 ⟨by omega, by omega⟩ (fun r1 wc1 H locs hp h => ?_)
        refine lv_aload_n hx hb dL_law_1792 rfl (lv_at hl 2 rfl) ?_
        refine lv_aload_n hx hb dL_law_1793 rfl (lv_at hl 0 rfl) ?_
        refine lv_iload hx hb dL_law_1794 (lv_at hl 4 rfl) ?_
        refine lv_iconst (v := 1) hx hb dL_law_1796 (by decide) ?_
        refine lv_iadd hx hb dL_law_1797 ?_
        refine lw_sld F h hin1 ha1 dL_law_1798 ?_
        refine lv_if_eq (tgt := 1806) hx hb dL_law_1799 (by decide) (fun _ => ?_) (fun hc => absurd hca1 hc)
        refine lv_iconst (v := 0) hx hb dL_law_1806 (by decide) ?_
        refine lv_aload_n hx hb dL_law_1807 rfl (lv_at hl 0 rfl) ?_
        refine lv_iload hx hb dL_law_1808 (lv_at hl 4 rfl) ?_
        refine lv_iconst (v := 2) hx hb dL_law_1810 (by decide) ?_
        refine lv_iadd hx hb dL_law_1811 ?_
        refine lw_sld F h hin2 ha2 dL_law_1812 ?_
        refine lv_if_eq (tgt := 1820) hx hb dL_law_1813 (by decide) (fun hc => absurd hc hca2) (fun _ => ?_)
        refine lv_iconst (v := 1) hx hb dL_law_1816 (by decide) ?_
        refine lv_goto (tgt := 1821) hx hb dL_law_1817 (by decide) ?_
        refine lv_aload_n hx hb dL_law_1821 rfl (lv_at hl 0 rfl) ?_
        refine lv_iload hx hb dL_law_1822 (lv_at hl 4 rfl) ?_
        refine lv_iconst (v := 3) hx hb dL_law_1824 (by decide) ?_
        refine lv_iadd hx hb dL_law_1825 ?_
        refine lw_sld F h hin3 ha3 dL_law_1826 ?_
        refine lv_if_eq (tgt := 1834) hx hb dL_law_1827 (by decide) (fun hc => absurd hc hca3) (fun _ => ?_)
        refine lv_iconst (v := 1) hx hb dL_law_1830 (by decide) ?_
        refine lv_goto (tgt := 1835) hx hb dL_law_1831 (by decide) ?_
        obtain ⟨hom, hp⟩ := hp
        refine h2_mod ⟨hx, hb, hml, hown, hts⟩ (k_X10_foretell l G zm wm _ mm 0 1 1 _ hp) (cwV 3 hts gL_law_X10_foretell rfl rfl rfl (by decide +kernel) ⟨Nat.le_of_ble_eq_true rfl, Nat.le_of_ble_eq_true rfl⟩) hom (by decide) rfl hK h hA hE rfl hl.1 rfl (Nat.le_of_ble_eq_true rfl) dL_law_1835 ⟨by omega, by omega⟩ (fun b4 wm4 H locs hp h => ?_)
        obtain ⟨he, hp⟩ := hp
        refine lv_icmp_eq (tgt := 1881) hx hb dL_law_1838 (by decide) (fun _ => ?_) (fun hc => absurd he hc)
        refine W.widen (k := cells + 4) (n := slots + 24) (by omega) (by omega) ?_
        exact kk _ _ _ _ _ _ _ hp h (lv_sub hl [0, 1, 2, 3, 4] rfl)
  · have hp := hp.2 hca1
    refine lv_iconst (v := 1) hx hb dL_law_1756 (by decide) ?_
    refine lv_goto (tgt := 1761) hx hb dL_law_1757 (by decide) ?_
    refine lv_aload_n hx hb dL_law_1761 rfl (lv_at hl 0 rfl) ?_
    refine lv_iload hx hb dL_law_1762 (lv_at hl 4 rfl) ?_
    refine lv_iconst (v := 2) hx hb dL_law_1764 (by decide) ?_
    refine lv_iadd hx hb dL_law_1765 ?_
    refine lw_sld F h hin2 ha2 dL_law_1766 ?_
    refine lv_if_eq (tgt := 1774) hx hb dL_law_1767 (by decide) (fun hca2 => ?_) (fun hca2 => ?_)
    · have hp := hp.1 hca2
      refine lv_iconst (v := 0) hx hb dL_law_1774 (by decide) ?_
      refine lv_aload_n hx hb dL_law_1775 rfl (lv_at hl 0 rfl) ?_
      refine lv_iload hx hb dL_law_1776 (lv_at hl 4 rfl) ?_
      refine lv_iconst (v := 3) hx hb dL_law_1778 (by decide) ?_
      refine lv_iadd hx hb dL_law_1779 ?_
      refine lw_sld F h hin3 ha3 dL_law_1780 ?_
      refine lv_if_eq (tgt := 1788) hx hb dL_law_1781 (by decide) (fun hca3 => ?_) (fun hca3 => ?_)
      · have hp := hp.1 hca3
        refine lv_iconst (v := 0) hx hb dL_law_1788 (by decide) ?_
        obtain ⟨hox, hp⟩ := hp
        refine h2_cls ⟨hx, hb, hml, hown, hts⟩ (k_X9_foretell l G zc wc _ x 1 0 0 _ hp) (cwV 3 hts gL_law_X9_foretell rfl rfl rfl (by decide +kernel) ⟨Nat.le_of_ble_eq_true rfl, Nat.le_of_ble_eq_true rfl⟩) hox (by decide) rfl hK h hA hE rfl hl.1 rfl (Nat.le_of_ble_eq_true rfl) dL_law_1789 ⟨by omega, by omega⟩ (fun r1 wc1 H locs hp h => ?_)
        refine lv_aload_n hx hb dL_law_1792 rfl (lv_at hl 2 rfl) ?_
        refine lv_aload_n hx hb dL_law_1793 rfl (lv_at hl 0 rfl) ?_
        refine lv_iload hx hb dL_law_1794 (lv_at hl 4 rfl) ?_
        refine lv_iconst (v := 1) hx hb dL_law_1796 (by decide) ?_
        refine lv_iadd hx hb dL_law_1797 ?_
        refine lw_sld F h hin1 ha1 dL_law_1798 ?_
        refine lv_if_eq (tgt := 1806) hx hb dL_law_1799 (by decide) (fun hc => absurd hc hca1) (fun _ => ?_)
        refine lv_iconst (v := 1) hx hb dL_law_1802 (by decide) ?_
        refine lv_goto (tgt := 1807) hx hb dL_law_1803 (by decide) ?_
        refine lv_aload_n hx hb dL_law_1807 rfl (lv_at hl 0 rfl) ?_
        refine lv_iload hx hb dL_law_1808 (lv_at hl 4 rfl) ?_
        refine lv_iconst (v := 2) hx hb dL_law_1810 (by decide) ?_
        refine lv_iadd hx hb dL_law_1811 ?_
        refine lw_sld F h hin2 ha2 dL_law_1812 ?_
        refine lv_if_eq (tgt := 1820) hx hb dL_law_1813 (by decide) (fun _ => ?_) (fun hc => absurd hca2 hc)
        refine lv_iconst (v := 0) hx hb dL_law_1820 (by decide) ?_
        refine lv_aload_n hx hb dL_law_1821 rfl (lv_at hl 0 rfl) ?_
        refine lv_iload hx hb dL_law_1822 (lv_at hl 4 rfl) ?_
        refine lv_iconst (v := 3) hx hb dL_law_1824 (by decide) ?_
        refine lv_iadd hx hb dL_law_1825 ?_
        refine lw_sld F h hin3 ha3 dL_law_1826 ?_
        refine lv_if_eq (tgt := 1834) hx hb dL_law_1827 (by decide) (fun _ => ?_) (fun hc => absurd hca3 hc)
        refine lv_iconst (v := 0) hx hb dL_law_1834 (by decide) ?_
        obtain ⟨hom, hp⟩ := hp
        refine h2_mod ⟨hx, hb, hml, hown, hts⟩ (k_X10_foretell l G zm wm _ mm 1 0 0 _ hp) (cwV 3 hts gL_law_X10_foretell rfl rfl rfl (by decide +kernel) ⟨Nat.le_of_ble_eq_true rfl, Nat.le_of_ble_eq_true rfl⟩) hom (by decide) rfl hK h hA hE rfl hl.1 rfl (Nat.le_of_ble_eq_true rfl) dL_law_1835 ⟨by omega, by omega⟩ (fun b5 wm5 H locs hp h => ?_)
        obtain ⟨he, hp⟩ := hp
        refine lv_icmp_eq (tgt := 1881) hx hb dL_law_1838 (by decide) (fun _ => ?_) (fun hc => absurd he hc)
        refine W.widen (k := cells + 4) (n := slots + 24) (by omega) (by omega) ?_
        exact kk _ _ _ _ _ _ _ hp h (lv_sub hl [0, 1, 2, 3, 4] rfl)
      · have hp := hp.2 hca3
        refine lv_iconst (v := 1) hx hb dL_law_1784 (by decide) ?_
        refine lv_goto (tgt := 1789) hx hb dL_law_1785 (by decide) ?_
        obtain ⟨hox, hp⟩ := hp
        refine h2_cls ⟨hx, hb, hml, hown, hts⟩ (k_X9_foretell l G zc wc _ x 1 0 1 _ hp) (cwV 3 hts gL_law_X9_foretell rfl rfl rfl (by decide +kernel) ⟨Nat.le_of_ble_eq_true rfl, Nat.le_of_ble_eq_true rfl⟩) hox (by decide) rfl hK h hA hE rfl hl.1 rfl (Nat.le_of_ble_eq_true rfl) dL_law_1789 ⟨by omega, by omega⟩ (fun r1 wc1 H locs hp h => ?_)
        refine lv_aload_n hx hb dL_law_1792 rfl (lv_at hl 2 rfl) ?_
        refine lv_aload_n hx hb dL_law_1793 rfl (lv_at hl 0 rfl) ?_
        refine lv_iload hx hb dL_law_1794 (lv_at hl 4 rfl) ?_
        refine lv_iconst (v := 1) hx hb dL_law_1796 (by decide) ?_
        refine lv_iadd hx hb dL_law_1797 ?_
        refine lw_sld F h hin1 ha1 dL_law_1798 ?_
        refine lv_if_eq (tgt := 1806) hx hb dL_law_1799 (by decide) (fun hc => absurd hc hca1) (fun _ => ?_)
        refine lv_iconst (v := 1) hx hb dL_law_1802 (by decide) ?_
        refine lv_goto (tgt := 1807) hx hb dL_law_1803 (by decide) ?_
        refine lv_aload_n hx hb dL_law_1807 rfl (lv_at hl 0 rfl) ?_
        refine lv_iload hx hb dL_law_1808 (lv_at hl 4 rfl) ?_
        refine lv_iconst (v := 2) hx hb dL_law_1810 (by decide) ?_
        refine lv_iadd hx hb dL_law_1811 ?_
        refine lw_sld F h hin2 ha2 dL_law_1812 ?_
        refine lv_if_eq (tgt := 1820) hx hb dL_law_1813 (by decide) (fun _ => ?_) (fun hc => absurd hca2 hc)
        refine lv_iconst (v := 0) hx hb dL_law_1820 (by decide) ?_
        refine lv_aload_n hx hb dL_law_1821 rfl (lv_at hl 0 rfl) ?_
        refine lv_iload hx hb dL_law_1822 (lv_at hl 4 rfl) ?_
        refine lv_iconst (v := 3) hx hb dL_law_1824 (by decide) ?_
        refine lv_iadd hx hb dL_law_1825 ?_
        refine lw_sld F h hin3 ha3 dL_law_1826 ?_
        refine lv_if_eq (tgt := 1834) hx hb dL_law_1827 (by decide) (fun hc => absurd hc hca3) (fun _ => ?_)
        refine lv_iconst (v := 1) hx hb dL_law_1830 (by decide) ?_
        refine lv_goto (tgt := 1835) hx hb dL_law_1831 (by decide) ?_
        obtain ⟨hom, hp⟩ := hp
        refine h2_mod ⟨hx, hb, hml, hown, hts⟩ (k_X10_foretell l G zm wm _ mm 1 0 1 _ hp) (cwV 3 hts gL_law_X10_foretell rfl rfl rfl (by decide +kernel) ⟨Nat.le_of_ble_eq_true rfl, Nat.le_of_ble_eq_true rfl⟩) hom (by decide) rfl hK h hA hE rfl hl.1 rfl (Nat.le_of_ble_eq_true rfl) dL_law_1835 ⟨by omega, by omega⟩ (fun b6 wm6 H locs hp h => ?_)
        obtain ⟨he, hp⟩ := hp
        refine lv_icmp_eq (tgt := 1881) hx hb dL_law_1838 (by decide) (fun _ => ?_) (fun hc => absurd he hc)
        refine W.widen (k := cells + 4) (n := slots + 24) (by omega) (by omega) ?_
        exact kk _ _ _ _ _ _ _ hp h (lv_sub hl [0, 1, 2, 3, 4] rfl)
    · have hp := hp.2 hca2
      refine lv_iconst (v := 1) hx hb dL_law_1770 (by decide) ?_
      refine lv_goto (tgt := 1775) hx hb dL_law_1771 (by decide) ?_
      refine lv_aload_n hx hb dL_law_1775 rfl (lv_at hl 0 rfl) ?_
      refine lv_iload hx hb dL_law_1776 (lv_at hl 4 rfl) ?_
      refine lv_iconst (v := 3) hx hb dL_law_1778 (by decide) ?_
      refine lv_iadd hx hb dL_law_1779 ?_
      refine lw_sld F h hin3 ha3 dL_law_1780 ?_
      refine lv_if_eq (tgt := 1788) hx hb dL_law_1781 (by decide) (fun hca3 => ?_) (fun hca3 => ?_)
      · have hp := hp.1 hca3
        refine lv_iconst (v := 0) hx hb dL_law_1788 (by decide) ?_
        obtain ⟨hox, hp⟩ := hp
        refine h2_cls ⟨hx, hb, hml, hown, hts⟩ (k_X9_foretell l G zc wc _ x 1 1 0 _ hp) (cwV 3 hts gL_law_X9_foretell rfl rfl rfl (by decide +kernel) ⟨Nat.le_of_ble_eq_true rfl, Nat.le_of_ble_eq_true rfl⟩) hox (by decide) rfl hK h hA hE rfl hl.1 rfl (Nat.le_of_ble_eq_true rfl) dL_law_1789 ⟨by omega, by omega⟩ (fun r1 wc1 H locs hp h => ?_)
        refine lv_aload_n hx hb dL_law_1792 rfl (lv_at hl 2 rfl) ?_
        refine lv_aload_n hx hb dL_law_1793 rfl (lv_at hl 0 rfl) ?_
        refine lv_iload hx hb dL_law_1794 (lv_at hl 4 rfl) ?_
        refine lv_iconst (v := 1) hx hb dL_law_1796 (by decide) ?_
        refine lv_iadd hx hb dL_law_1797 ?_
        refine lw_sld F h hin1 ha1 dL_law_1798 ?_
        refine lv_if_eq (tgt := 1806) hx hb dL_law_1799 (by decide) (fun hc => absurd hc hca1) (fun _ => ?_)
        refine lv_iconst (v := 1) hx hb dL_law_1802 (by decide) ?_
        refine lv_goto (tgt := 1807) hx hb dL_law_1803 (by decide) ?_
        refine lv_aload_n hx hb dL_law_1807 rfl (lv_at hl 0 rfl) ?_
        refine lv_iload hx hb dL_law_1808 (lv_at hl 4 rfl) ?_
        refine lv_iconst (v := 2) hx hb dL_law_1810 (by decide) ?_
        refine lv_iadd hx hb dL_law_1811 ?_
        refine lw_sld F h hin2 ha2 dL_law_1812 ?_
        refine lv_if_eq (tgt := 1820) hx hb dL_law_1813 (by decide) (fun hc => absurd hc hca2) (fun _ => ?_)
        refine lv_iconst (v := 1) hx hb dL_law_1816 (by decide) ?_
        refine lv_goto (tgt := 1821) hx hb dL_law_1817 (by decide) ?_
        refine lv_aload_n hx hb dL_law_1821 rfl (lv_at hl 0 rfl) ?_
        refine lv_iload hx hb dL_law_1822 (lv_at hl 4 rfl) ?_
        refine lv_iconst (v := 3) hx hb dL_law_1824 (by decide) ?_
        refine lv_iadd hx hb dL_law_1825 ?_
        refine lw_sld F h hin3 ha3 dL_law_1826 ?_
        refine lv_if_eq (tgt := 1834) hx hb dL_law_1827 (by decide) (fun _ => ?_) (fun hc => absurd hca3 hc)
        refine lv_iconst (v := 0) hx hb dL_law_1834 (by decide) ?_
        obtain ⟨hom, hp⟩ := hp
        refine h2_mod ⟨hx, hb, hml, hown, hts⟩ (k_X10_foretell l G zm wm _ mm 1 1 0 _ hp) (cwV 3 hts gL_law_X10_foretell rfl rfl rfl (by decide +kernel) ⟨Nat.le_of_ble_eq_true rfl, Nat.le_of_ble_eq_true rfl⟩) hom (by decide) rfl hK h hA hE rfl hl.1 rfl (Nat.le_of_ble_eq_true rfl) dL_law_1835 ⟨by omega, by omega⟩ (fun b7 wm7 H locs hp h => ?_)
        obtain ⟨he, hp⟩ := hp
        refine lv_icmp_eq (tgt := 1881) hx hb dL_law_1838 (by decide) (fun _ => ?_) (fun hc => absurd he hc)
        refine W.widen (k := cells + 4) (n := slots + 24) (by omega) (by omega) ?_
        exact kk _ _ _ _ _ _ _ hp h (lv_sub hl [0, 1, 2, 3, 4] rfl)
      · have hp := hp.2 hca3
        refine lv_iconst (v := 1) hx hb dL_law_1784 (by decide) ?_
        refine lv_goto (tgt := 1789) hx hb dL_law_1785 (by decide) ?_
        obtain ⟨hox, hp⟩ := hp
        refine h2_cls ⟨hx, hb, hml, hown, hts⟩ (k_X9_foretell l G zc wc _ x 1 1 1 _ hp) (cwV 3 hts gL_law_X9_foretell rfl rfl rfl (by decide +kernel) ⟨Nat.le_of_ble_eq_true rfl, Nat.le_of_ble_eq_true rfl⟩) hox (by decide) rfl hK h hA hE rfl hl.1 rfl (Nat.le_of_ble_eq_true rfl) dL_law_1789 ⟨by omega, by omega⟩ (fun r1 wc1 H locs hp h => ?_)
        refine lv_aload_n hx hb dL_law_1792 rfl (lv_at hl 2 rfl) ?_
        refine lv_aload_n hx hb dL_law_1793 rfl (lv_at hl 0 rfl) ?_
        refine lv_iload hx hb dL_law_1794 (lv_at hl 4 rfl) ?_
        refine lv_iconst (v := 1) hx hb dL_law_1796 (by decide) ?_
        refine lv_iadd hx hb dL_law_1797 ?_
        refine lw_sld F h hin1 ha1 dL_law_1798 ?_
        refine lv_if_eq (tgt := 1806) hx hb dL_law_1799 (by decide) (fun hc => absurd hc hca1) (fun _ => ?_)
        refine lv_iconst (v := 1) hx hb dL_law_1802 (by decide) ?_
        refine lv_goto (tgt := 1807) hx hb dL_law_1803 (by decide) ?_
        refine lv_aload_n hx hb dL_law_1807 rfl (lv_at hl 0 rfl) ?_
        refine lv_iload hx hb dL_law_1808 (lv_at hl 4 rfl) ?_
        refine lv_iconst (v := 2) hx hb dL_law_1810 (by decide) ?_
        refine lv_iadd hx hb dL_law_1811 ?_
        refine lw_sld F h hin2 ha2 dL_law_1812 ?_
        refine lv_if_eq (tgt := 1820) hx hb dL_law_1813 (by decide) (fun hc => absurd hc hca2) (fun _ => ?_)
        refine lv_iconst (v := 1) hx hb dL_law_1816 (by decide) ?_
        refine lv_goto (tgt := 1821) hx hb dL_law_1817 (by decide) ?_
        refine lv_aload_n hx hb dL_law_1821 rfl (lv_at hl 0 rfl) ?_
        refine lv_iload hx hb dL_law_1822 (lv_at hl 4 rfl) ?_
        refine lv_iconst (v := 3) hx hb dL_law_1824 (by decide) ?_
        refine lv_iadd hx hb dL_law_1825 ?_
        refine lw_sld F h hin3 ha3 dL_law_1826 ?_
        refine lv_if_eq (tgt := 1834) hx hb dL_law_1827 (by decide) (fun hc => absurd hc hca3) (fun _ => ?_)
        refine lv_iconst (v := 1) hx hb dL_law_1830 (by decide) ?_
        refine lv_goto (tgt := 1835) hx hb dL_law_1831 (by decide) ?_
        obtain ⟨hom, hp⟩ := hp
        refine h2_mod ⟨hx, hb, hml, hown, hts⟩ (k_X10_foretell l G zm wm _ mm 1 1 1 _ hp) (cwV 3 hts gL_law_X10_foretell rfl rfl rfl (by decide +kernel) ⟨Nat.le_of_ble_eq_true rfl, Nat.le_of_ble_eq_true rfl⟩) hom (by decide) rfl hK h hA hE rfl hl.1 rfl (Nat.le_of_ble_eq_true rfl) dL_law_1835 ⟨by omega, by omega⟩ (fun b8 wm8 H locs hp h => ?_)
        obtain ⟨he, hp⟩ := hp
        refine lv_icmp_eq (tgt := 1881) hx hb dL_law_1838 (by decide) (fun _ => ?_) (fun hc => absurd he hc)
        refine W.widen (k := cells + 4) (n := slots + 24) (by omega) (by omega) ?_
        exact kk _ _ _ _ _ _ _ hp h (lv_sub hl [0, 1, 2, 3, 4] rfl)
def wc_24 (zc : Zt) (wc : Vt) (zm : Zt) (wm : Vt) (x mm t : Nat) (KL : Zt → Vt → Zt → Vt → Prop) : Prop := isO zc 9 x ∧ wp_X9_plan zc x wc (fun r1 wc1 => isO zm 10 mm ∧ wp_X10_plan zm mm wm (fun b1 wm1 => r1 = b1 ∧ KL zc wc1 zm wm1))
set_option maxHeartbeats 4000000 in
set_option maxRecDepth 100000 in
theorem lc_24 (hst : l.stackTraces = false) (F : lwF p s m c b L xs G) {zc zm : Zt} {wc wm : Vt} {x mm t : Nat} {i : Int32} (h : hpH2 G (fun q : Nat => s.heap.size ≤ q) s.heap zc wc zm wm H locs) (hl : lv_has ls 7 [(0, .ref b), (1, .ref x), (2, .ref mm), (3, .ref t), (4, .int i)]) (hc : cells + 4 ≤ room_1.cells) (hs : slots + 24 ≤ room_1.slots) (KL : Zt → Vt → Zt → Vt → Prop) (hp : wc_24 zc wc zm wm x mm t KL)
    (kk : ∀ (zc : Zt) (wc : Vt) (zm : Zt) (wm : Vt) (H : Heap) (locs : List Loc) (ls : Array Slot), KL zc wc zm wm → hpH2 G (fun q : Nat => s.heap.size ≤ q) s.heap zc wc zm wm H locs → lv_has ls 7 [(0, .ref b), (1, .ref x), (2, .ref mm), (3, .ref t), (4, .int i)] → W p l e room_1 s m #[Value.ref b] below meth c H locs (cells + 4) (slots + 24) Q (F0 m 1881 ls [])) : W p l e room_1 s m #[Value.ref b] below meth c H locs cells slots Q (F0 m 1843 ls []) := by
  obtain ⟨hx, hb, hml, hown, hts, hX, hbl, hK, hE⟩ := id F
  have hA : ∀ q : Nat, s.heap.size ≤ q → (fun q : Nat => s.heap.size ≤ q) q := fun _ h => h
  refine lv_aload_n hx hb dL_law_1843 rfl (lv_at hl 1 rfl) ?_
  obtain ⟨hox, hp⟩ := hp
  refine h2_cls ⟨hx, hb, hml, hown, hts⟩ (k_X9_plan l G zc wc _ x _ hp) (cwV 0 hts gL_law_X9_plan rfl rfl rfl (by decide +kernel) ⟨Nat.le_of_ble_eq_true rfl, Nat.le_of_ble_eq_true rfl⟩) hox (by decide) rfl hK h hA hE rfl hl.1 rfl (Nat.le_of_ble_eq_true rfl) dL_law_1844 ⟨by omega, by omega⟩ (fun r1 wc1 H locs hp h => ?_)
  refine lv_aload_n hx hb dL_law_1847 rfl (lv_at hl 2 rfl) ?_
  obtain ⟨hom, hp⟩ := hp
  refine h2_mod ⟨hx, hb, hml, hown, hts⟩ (k_X10_plan l G zm wm _ mm _ hp) (cwV 0 hts gL_law_X10_plan rfl rfl rfl (by decide +kernel) ⟨Nat.le_of_ble_eq_true rfl, Nat.le_of_ble_eq_true rfl⟩) hom (by decide) rfl hK h hA hE rfl hl.1 rfl (Nat.le_of_ble_eq_true rfl) dL_law_1848 ⟨by omega, by omega⟩ (fun b1 wm1 H locs hp h => ?_)
  obtain ⟨he, hp⟩ := hp
  refine lv_icmp_eq (tgt := 1881) hx hb dL_law_1851 (by decide) (fun _ => ?_) (fun hc => absurd he hc)
  refine W.widen (k := cells + 4) (n := slots + 24) (by omega) (by omega) ?_
  exact kk _ _ _ _ _ _ _ hp h (lv_sub hl [0, 1, 2, 3, 4] rfl)
def wc_25 (zc : Zt) (wc : Vt) (zm : Zt) (wm : Vt) (x mm t : Nat) (a1 : Int32) (KL : Zt → Vt → Zt → Vt → Prop) : Prop := isO zc 9 x ∧ wp_X9_count zc x a1 wc (fun r1 wc1 => isO zm 10 mm ∧ wp_X10_count zm mm a1 wm (fun b1 wm1 => r1 = b1 ∧ KL zc wc1 zm wm1))
set_option maxHeartbeats 4000000 in
set_option maxRecDepth 100000 in
theorem lc_25 (hst : l.stackTraces = false) (F : lwF p s m c b L xs G) {zc zm : Zt} {wc wm : Vt} {x mm t : Nat} {i : Int32} {a1 : Int32} (hin1 : vp_in (i + 1) L) (ha1 : xs (i + 1).toNatClampNeg = a1) (h : hpH2 G (fun q : Nat => s.heap.size ≤ q) s.heap zc wc zm wm H locs) (hl : lv_has ls 7 [(0, .ref b), (1, .ref x), (2, .ref mm), (3, .ref t), (4, .int i)]) (hc : cells + 4 ≤ room_1.cells) (hs : slots + 24 ≤ room_1.slots) (KL : Zt → Vt → Zt → Vt → Prop) (hp : wc_25 zc wc zm wm x mm t a1 KL)
    (kk : ∀ (zc : Zt) (wc : Vt) (zm : Zt) (wm : Vt) (H : Heap) (locs : List Loc) (ls : Array Slot), KL zc wc zm wm → hpH2 G (fun q : Nat => s.heap.size ≤ q) s.heap zc wc zm wm H locs → lv_has ls 7 [(0, .ref b), (1, .ref x), (2, .ref mm), (3, .ref t), (4, .int i)] → W p l e room_1 s m #[Value.ref b] below meth c H locs (cells + 4) (slots + 24) Q (F0 m 1881 ls [])) : W p l e room_1 s m #[Value.ref b] below meth c H locs cells slots Q (F0 m 1856 ls []) := by
  obtain ⟨hx, hb, hml, hown, hts, hX, hbl, hK, hE⟩ := id F
  have hA : ∀ q : Nat, s.heap.size ≤ q → (fun q : Nat => s.heap.size ≤ q) q := fun _ h => h
  refine lv_aload_n hx hb dL_law_1856 rfl (lv_at hl 1 rfl) ?_
  refine lv_aload_n hx hb dL_law_1857 rfl (lv_at hl 0 rfl) ?_
  refine lv_iload hx hb dL_law_1858 (lv_at hl 4 rfl) ?_
  refine lv_iconst (v := 1) hx hb dL_law_1860 (by decide) ?_
  refine lv_iadd hx hb dL_law_1861 ?_
  refine lw_sld F h hin1 ha1 dL_law_1862 ?_
  obtain ⟨hox, hp⟩ := hp
  refine h2_cls ⟨hx, hb, hml, hown, hts⟩ (k_X9_count l G zc wc _ x a1 _ hp) (cwV 1 hts gL_law_X9_count rfl rfl rfl (by decide +kernel) ⟨Nat.le_of_ble_eq_true rfl, Nat.le_of_ble_eq_true rfl⟩) hox (by decide) rfl hK h hA hE rfl hl.1 rfl (Nat.le_of_ble_eq_true rfl) dL_law_1863 ⟨by omega, by omega⟩ (fun r1 wc1 H locs hp h => ?_)
  refine lv_aload_n hx hb dL_law_1866 rfl (lv_at hl 2 rfl) ?_
  refine lv_aload_n hx hb dL_law_1867 rfl (lv_at hl 0 rfl) ?_
  refine lv_iload hx hb dL_law_1868 (lv_at hl 4 rfl) ?_
  refine lv_iconst (v := 1) hx hb dL_law_1870 (by decide) ?_
  refine lv_iadd hx hb dL_law_1871 ?_
  refine lw_sld F h hin1 ha1 dL_law_1872 ?_
  obtain ⟨hom, hp⟩ := hp
  refine h2_mod ⟨hx, hb, hml, hown, hts⟩ (k_X10_count l G zm wm _ mm a1 _ hp) (cwV 1 hts gL_law_X10_count rfl rfl rfl (by decide +kernel) ⟨Nat.le_of_ble_eq_true rfl, Nat.le_of_ble_eq_true rfl⟩) hom (by decide) rfl hK h hA hE rfl hl.1 rfl (Nat.le_of_ble_eq_true rfl) dL_law_1873 ⟨by omega, by omega⟩ (fun b1 wm1 H locs hp h => ?_)
  obtain ⟨he, hp⟩ := hp
  refine lv_icmp_eq (tgt := 1881) hx hb dL_law_1876 (by decide) (fun _ => ?_) (fun hc => absurd he hc)
  refine W.widen (k := cells + 4) (n := slots + 24) (by omega) (by omega) ?_
  exact kk _ _ _ _ _ _ _ hp h (lv_sub hl [0, 1, 2, 3, 4] rfl)
end LWC
