/-! PURE PART: the reference reads words and numbers -/
def byB (w : Vt) (M : Nat → Nat) : Prop := ∀ i, i < 400 → -128 ≤ (vA w 2033 (M 1033) i).toInt ∧ (vA w 2033 (M 1033) i).toInt ≤ 127
section MW
variable {z : Zt} {m n : Nat} {w0 w : Vt} {M : Nat → Nat}
theorem bt_raw {p : Nat} (hB : byB w0 M) (hp : p < n) (hn : n ≤ 400) : btI w0 M n p = if 0 ≤ (vA w0 2033 (M 1033) p).toInt then (vA w0 2033 (M 1033) p).toInt else (vA w0 2033 (M 1033) p).toInt + 256 := by
  obtain ⟨d1, d2⟩ := hB p (by omega)
  unfold btI
  rw [if_pos hp, byte_val d1 d2]
theorem le_dec (b : Int) : decide ((97 : Int32).toInt ≤ b ∧ b ≤ (122 : Int32).toInt) = decide (97 ≤ b ∧ b ≤ 122) := rfl
theorem di_dec (b : Int) : decide ((48 : Int32).toInt ≤ b ∧ b ≤ (57 : Int32).toInt) = decide (48 ≤ b ∧ b ≤ 57) := rfl
theorem wo_m {K : Vt → Prop} {i : Nat} (hM : SM z m M) (hT : tapM w0 M m n w) (hn : n ≤ 400) (hi : i ≤ n) (e : vI w 1035 m = nI i) (hB : byB w0 M) (hK : ∀ w1 : Vt, vI w1 1035 m = nI (rn (isLe (btI w0 M n)) 401 (bl (btI w0 M n) i)) → vI w1 1037 m = nI (bl (btI w0 M n) i) → fr5 w w1 → K w1) : wp_X10_word z m w K := by
  unfold wp_X10_word
  refine ⟨sm_m hM, bk_m hM hT hn hi e hB (fun w1 e1 e2 hF1 => ?_)⟩
  have hj := (bl_le (w0 := w0) (M := M) hn hi).1
  generalize hjj : bl (btI w0 M n) i = j at *
  have key : ∀ (f k : Nat) (w2 : Vt), n ≤ k + f → k ≤ n → tapM w0 M m n w2 → vI w2 1035 m = nI k → vI w2 1037 m = nI j → fr5 w w2 → (∀ w3 : Vt, vI w3 1035 m = nI (rn (isLe (btI w0 M n)) f k) → vI w3 1037 m = nI j → fr5 w w3 → K w3) → wL_X10_word_4 z m K (fun w8 => K w8) (f + 1) w2 := by
    intro f
    induction f with
    | zero =>
      intro k w2 hf hk hT e e2 hF hK
      rw [wL_X10_word_4]
      refine at_m (R := isLe (btI w0 M n) k) hM hT hn hk e hB (by decide) (by decide) rfl ?_
      have hs : isLe (btI w0 M n) k = false := by simp [isLe, bt_n (show n ≤ k by omega)]
      rw [hs]
      exact ⟨fun _ => hK w2 e e2 hF, fun h => absurd rfl h⟩
    | succ f ih =>
      intro k w2 hf hk hT e e2 hF hK
      rw [wL_X10_word_4]
      refine at_m (R := isLe (btI w0 M n) k) hM hT hn hk e hB (by decide) (by decide) rfl ?_
      by_cases hb : isLe (btI w0 M n) k = true
      · rw [hb]
        refine ⟨fun h => absurd h (by decide), fun _ w4 e4 => ?_⟩
        have hin := le_lt k hb
        have e6 : vI w4 1035 m = nI (k + 1) := by rw [e4, vI_u, if_pos ⟨rfl, rfl⟩, e, nI_1]
        have e7 : vI w4 1037 m = nI j := by rw [e4, vI_u, if_neg (fun q => absurd q.1 (by decide))]; exact e2
        have hF5 : fr5 w2 w4 := by rw [e4]; exact (fr5.rfl w2).u
        refine ih (k + 1) w4 (by omega) (by omega) (hT.fr hF5) e6 e7 (hF.trans hF5) ?_
        simp only [rn, if_pos hb] at hK
        exact hK
      · have hs : isLe (btI w0 M n) k = false := by simpa using hb
        rw [hs]
        refine ⟨fun _ => ?_, fun h => absurd rfl h⟩
        rw [rn_stop hs] at hK
        exact hK w2 e e2 hF
  exact ⟨401 + 1, key 401 j w1 (by omega) hj (hT.fr hF1) e1 e2 hF1 hK⟩
theorem mw_iff {j p : Nat} (hn : n ≤ 400) (hj : j ≤ n) (hp : p < 6) : mw (btI w0 M n) j p = true ↔ (rn (isLe (btI w0 M n)) 401 j = j + wdL p ∧ ∀ k, k < wdL p → btI w0 M n (j + k) = wdB p k) := by
  obtain ⟨q1, q2, q3⟩ := wd_ok p hp
  obtain ⟨b1, b2, b3, b4⟩ := rn_spec (P := isLe (btI w0 M n)) (n := n) le_lt 401 j (by omega)
  simp only [mw, Bool.and_eq_true, decide_eq_true_eq, Bool.not_eq_true']
  constructor
  · intro ⟨h1, h2⟩
    refine ⟨?_, h1⟩
    rcases Nat.lt_trichotomy (rn (isLe (btI w0 M n)) 401 j) (j + wdL p) with q | q | q
    · exfalso
      obtain ⟨d, hd⟩ : ∃ d, rn (isLe (btI w0 M n)) 401 j = j + d := ⟨rn (isLe (btI w0 M n)) 401 j - j, by omega⟩
      rw [hd] at b3 q
      have hdl : d < wdL p := by omega
      have h3 := h1 d hdl
      have h4 := q3 d hdl
      unfold isLe at b3
      simp only [decide_eq_false_iff_not] at b3
      omega
    · exact q
    · exfalso
      have := b4 (j + wdL p) (by omega) q
      rw [h2] at this
      cases this
  · intro ⟨h1, h2⟩
    refine ⟨h2, ?_⟩
    rw [← h1]
    exact b3
theorem iw_m {K : Int32 → Vt → Prop} {j p : Nat} (hM : SM z m M) (hT : tapM w0 M m n w) (hn : n ≤ 400) (hj : j ≤ n) (hp : p < 6) (e : vI w 1035 m = nI (rn (isLe (btI w0 M n)) 401 j)) (e2 : vI w 1037 m = nI j) (hB : byB w0 M) (hK : K (if mw (btI w0 M n) j p = true then 1 else 0) w) : wp_X10_isWord z m p w K := by
  obtain ⟨q1, q2, q3⟩ := wd_ok p hp
  obtain ⟨b1, b2, b3, b4⟩ := rn_spec (P := isLe (btI w0 M n)) (n := n) le_lt 401 j (by omega)
  have b2' := b2 hj
  unfold wp_X10_isWord
  refine ⟨sm_m hM, hp, fun r1 er1 => ?_⟩
  rw [wd_len p hp] at er1
  subst er1
  rw [e, e2, nI_sub b1]
  refine ⟨fun x w' => w' = w ∧ ((x = 0 ∧ ¬ rn (isLe (btI w0 M n)) 401 j = j + wdL p) ∨ (x = 1 ∧ rn (isLe (btI w0 M n)) 401 j = j + wdL p)), ?_, fun h => ⟨rfl, Or.inl ⟨rfl, fun q => h (by rw [q, Nat.add_sub_cancel_left])⟩⟩, fun h => ⟨rfl, Or.inr ⟨rfl, ?_⟩⟩⟩
  · intro x3 w4 hJ
    obtain ⟨rfl, hJ⟩ := hJ
    rcases hJ with ⟨rfl, hno⟩ | ⟨rfl, hyes⟩
    · refine ⟨1, ?_⟩
      rw [wL_X10_isWord_24]
      refine ⟨fun _ => ⟨isB0, ?_⟩, fun h => absurd rfl h⟩
      rw [if_neg (fun q => hno ((mw_iff hn hj hp).mp q).1)] at hK
      exact hK
    · have key : ∀ d k (fl : Int32), k + d = wdL p → (fl = 1 ∧ (∀ k', k' < k → btI w0 M n (j + k') = wdB p k') ∨ fl = 0 ∧ ∃ k', k' < k ∧ ¬ btI w0 M n (j + k') = wdB p k') → wL_X10_isWord_24 z m p K (fun x15 x16 w17 => isB x16 ∧ K x16 w17) (d + 1) (nI k) fl w4 := by
        intro d
        induction d with
        | zero =>
          intro k fl hk hfl
          have hkw : k = wdL p := by omega
          rw [wL_X10_isWord_24]
          rcases hfl with ⟨rfl, hall⟩ | ⟨rfl, k', hk', hne⟩
          · refine ⟨fun h => absurd h (by decide), fun _ r7 e7 => ⟨fun _ => ⟨isB1, ?_⟩, fun h => absurd ?_ h⟩⟩
            · rw [if_pos ((mw_iff hn hj hp).mpr ⟨hyes, fun k' h => hall k' (by omega)⟩)] at hK
              exact hK
            · rw [e7, wd_len p hp]
              exact nI_le (by omega) (by omega)
          · refine ⟨fun _ => ⟨isB0, ?_⟩, fun h => absurd rfl h⟩
            rw [if_neg (fun q => hne (((mw_iff hn hj hp).mp q).2 k' (by omega)))] at hK
            exact hK
        | succ d ih =>
          intro k fl hk hfl
          rw [wL_X10_isWord_24]
          rcases hfl with ⟨rfl, hall⟩ | ⟨rfl, k', hk', hne⟩
          · refine ⟨fun h => absurd h (by decide), fun _ r7 e7 => ⟨fun h => absurd h ?_, fun _ => ⟨M 1033, (sm_1033 hM).1, (sm_1033 hM).2, ?_, ?_, fun r10 e10 => ?_⟩⟩⟩
            · rw [e7, wd_len p hp]
              exact nI_ge (by omega) (by omega)
            · rw [e2, nI_add]
              exact vp_in_nI (by omega) (by decide)
            · exact vp_in_nI (show k < envL.getD p 0 from by show k < wdL p; omega) (by show wdL p < _; omega)
            · rw [nI_clamp (by omega)] at e10
              rw [e2, nI_add, nI_clamp (by omega), hT.2]
              have e10' : r10.toInt = wdB p k := by rw [e10]; exact (q3 k (by omega)).2.2
              have hq := q3 k (by omega)
              have hraw := bt_raw (w0 := w0) (M := M) (p := j + k) hB (by omega) hn
              have hlt := hB (j + k) (by omega)
              constructor
              · intro h x12 ex
                rw [ex, nI_1]
                refine ih (k + 1) 0 (by omega) (Or.inr ⟨rfl, k, by omega, fun hbt => h ?_⟩)
                rw [← Int32.toInt_inj, e10']
                rw [hraw] at hbt
                split at hbt <;> omega
              · intro h x12 ex
                rw [ex, nI_1]
                refine ih (k + 1) 1 (by omega) (Or.inl ⟨rfl, fun k' hk' => ?_⟩)
                by_cases hh : k' = k
                · rw [hh, hraw, h, e10', if_pos (by omega)]
                · exact hall k' (by omega)
          · refine ⟨fun _ => ⟨isB0, ?_⟩, fun h => absurd rfl h⟩
            rw [if_neg (fun q => hne (((mw_iff hn hj hp).mp q).2 k' (by omega)))] at hK
            exact hK
      exact ⟨wdL p + 1, key (wdL p) 0 1 (by omega) (Or.inl ⟨rfl, fun k' h => absurd h (by omega)⟩)⟩
  · have := (nI_eq (by omega) (by omega)).mp h
    omega
theorem nu_m {K : Int32 → Vt → Prop} {i : Nat} {lo hi : Int32} (hM : SM z m M) (hT : tapM w0 M m n w) (hn : n ≤ 400) (hi0 : i ≤ n) (e : vI w 1035 m = nI i) (hB : byB w0 M) (hK : ∀ w1 : Vt, vI w1 1037 m = nI (bl (btI w0 M n) i) → (¬ (tn (btI w0 M n) (byI w0 M) lo hi i).1 = -1 → vI w1 1035 m = nI (tn (btI w0 M n) (byI w0 M) lo hi i).2) → fr5 w w1 → K (tn (btI w0 M n) (byI w0 M) lo hi i).1 w1) : wp_X10_number z m lo hi w K := by
  unfold wp_X10_number
  refine ⟨sm_m hM, bk_m hM hT hn hi0 e hB (fun w1 e1 e2 hF1 => ?_)⟩
  have hj := (bl_le (w0 := w0) (M := M) hn hi0).1
  generalize hjj : bl (btI w0 M n) i = j at *
  have key : ∀ d c v (w2 : Vt), j + c + d = n → (∀ k, k < c → isDi (btI w0 M n) (j + k) = true) → v = vlI (byI w0 M) j (min c 3) → tapM w0 M m n w2 → vI w2 1035 m = nI (j + c) → vI w2 1037 m = nI j → fr5 w w2 → wL_X10_number_6 z m K (fun x13 x14 x15 w16 => ((vI w16 1035 m) = (vI w16 1037 m) → K (-1) w16) ∧ (¬ (vI w16 1035 m) = (vI w16 1037 m) → (3 < ((vI w16 1035 m) - (vI w16 1037 m)) → K (-1) w16) ∧ (¬ 3 < ((vI w16 1035 m) - (vI w16 1037 m)) → (x13 < x14 → K (-1) w16) ∧ (¬ x13 < x14 → (x13 ≤ x15 → K x13 w16) ∧ (¬ x13 ≤ x15 → K (-1) w16))))) (d + 1) v lo hi w2 := by
    have fin : ∀ c v (w2 : Vt), j + c ≤ n → (∀ k, k < c → isDi (btI w0 M n) (j + k) = true) → isDi (btI w0 M n) (j + c) = false → v = vlI (byI w0 M) j (min c 3) → vI w2 1035 m = nI (j + c) → vI w2 1037 m = nI j → fr5 w w2 → ((vI w2 1035 m) = (vI w2 1037 m) → K (-1) w2) ∧ (¬ (vI w2 1035 m) = (vI w2 1037 m) → (3 < ((vI w2 1035 m) - (vI w2 1037 m)) → K (-1) w2) ∧ (¬ 3 < ((vI w2 1035 m) - (vI w2 1037 m)) → (v < lo → K (-1) w2) ∧ (¬ v < lo → (v ≤ hi → K v w2) ∧ (¬ v ≤ hi → K (-1) w2)))) := by
      intro c v w2 hc hd hs hv e3 e4 hF
      have hcr := (rnD_eq (w0 := w0) (M := M) hn hj hd).2 hs
      have neg : (c = 0 ∨ 3 < c ∨ inI (vlI (byI w0 M) j c) lo hi = 0) → K (-1) w2 := by
        intro h
        have ht : tn (btI w0 M n) (byI w0 M) lo hi i = (-1, j) := by unfold tn; rw [hjj, ← hcr, if_pos h]
        have := hK w2 e4 (fun q => absurd (by rw [ht]) q) hF
        rw [ht] at this
        exact this
      rw [e3, e4, nI_sub (by omega), Nat.add_sub_cancel_left]
      refine ⟨fun h => neg (Or.inl ?_), fun h => ⟨fun h2 => neg (Or.inr (Or.inl ?_)), fun h2 => ?_⟩⟩
      · have := (nI_eq (by omega) (by omega)).mp h
        omega
      · rcases Nat.lt_or_ge 3 c with q | q
        · exact q
        · exact absurd h2 (nI_nlt (a := 3) q (by decide))
      · have hc3 : c ≤ 3 := by
          rcases Nat.lt_or_ge 3 c with q | q
          · exact absurd (nI_lt (a := 3) q (by omega)) h2
          · exact q
        have hc0 : ¬ c = 0 := fun q => h (by rw [q]; rfl)
        rw [Nat.min_eq_left hc3] at hv
        refine ⟨fun h3 => neg (Or.inr (Or.inr ?_)), fun h3 => ⟨fun h4 => ?_, fun h4 => neg (Or.inr (Or.inr ?_))⟩⟩
        · rw [← hv]; unfold inI; rw [if_pos h3]
        · have h5 : ¬ hi < v := fun q => by
            rw [Int32.lt_iff_toInt_lt] at q
            rw [Int32.le_iff_toInt_le] at h4
            omega
          have hno : ¬ (c = 0 ∨ 3 < c ∨ inI (vlI (byI w0 M) j c) lo hi = 0) := by
            rw [← hv]
            unfold inI
            rw [if_neg h3, if_neg h5]
            intro q
            rcases q with q | q | q
            · exact hc0 q
            · omega
            · exact absurd q (by decide)
          have ht : tn (btI w0 M n) (byI w0 M) lo hi i = (v, j + c) := by unfold tn; rw [hjj, ← hcr, if_neg hno, ← hv]
          have := hK w2 e4 (fun _ => by rw [ht]; exact e3) hF
          rw [ht] at this
          exact this
        · have h5 : hi < v := by
            rw [Int32.lt_iff_toInt_lt]
            rw [Int32.le_iff_toInt_le] at h4
            omega
          rw [← hv]; unfold inI; rw [if_neg h3, if_pos h5]
    intro d
    induction d with
    | zero =>
      intro c v w2 hc hd hv hT e3 e4 hF
      rw [wL_X10_number_6]
      refine at_m (R := isDi (btI w0 M n) (j + c)) hM hT hn (by omega) e3 hB (by decide) (by decide) rfl ?_
      have hs : isDi (btI w0 M n) (j + c) = false := by simp [isDi, bt_n (show n ≤ j + c by omega)]
      rw [hs]
      exact ⟨fun _ => fin c v w2 (by omega) hd hs hv e3 e4 hF, fun h => absurd rfl h⟩
    | succ d ih =>
      intro c v w2 hc hd hv hT e3 e4 hF
      rw [wL_X10_number_6]
      refine at_m (R := isDi (btI w0 M n) (j + c)) hM hT hn (by omega) e3 hB (by decide) (by decide) rfl ?_
      by_cases hb : isDi (btI w0 M n) (j + c) = true
      · rw [hb]
        refine ⟨fun h => absurd h (by decide), fun _ => ⟨fun x w' => w' = w2 ∧ x = vlI (byI w0 M) j (min (c + 1) 3), ?_, fun h => ⟨rfl, ?_⟩, fun h => ⟨M 1033, (sm_1033 hM).1, (sm_1033 hM).2, ?_, rfl, ?_⟩⟩⟩
        · intro x7 w8 hJ w11 e11
          obtain ⟨rfl, hx⟩ := hJ
          have hF5 : fr5 w8 w11 := by rw [e11]; exact (fr5.rfl w8).u
          refine ih (c + 1) x7 w11 (by omega) (fun k hk => ?_) hx (hT.fr hF5) ?_ ?_ (hF.trans hF5)
          · by_cases hh : k = c
            · rw [hh]; exact hb
            · exact hd k (by omega)
          · rw [e11, vI_u, if_pos ⟨rfl, rfl⟩, e3, nI_1]
            rfl
          · rw [e11, vI_u, if_neg (fun q => absurd q.1 (by decide))]; exact e4
        · rw [e3, e4, nI_sub (by omega), Nat.add_sub_cancel_left] at h
          have h3 : 3 ≤ c := (nI_leI (a := 3) (by decide) (by omega)).mp h
          rw [hv, Nat.min_eq_right h3, Nat.min_eq_right (by omega)]
        · rw [e3]
          exact vp_in_nI (by omega) (by decide)
        · rw [e3, e4, nI_sub (by omega), Nat.add_sub_cancel_left] at h
          have h3 : c < 3 := by
            rcases Nat.lt_or_ge c 3 with q | q
            · exact q
            · exact absurd (nI_le (a := 3) q (by omega)) h
          rw [e3, nI_clamp (by omega), hT.2, hv, Nat.min_eq_left (show c ≤ 3 by omega), Nat.min_eq_left (show c + 1 ≤ 3 by omega)]
          have hraw := bt_raw (w0 := w0) (M := M) (p := j + c) hB (by omega) hn
          have hlt := hB (j + c) (by omega)
          have ed : byI w0 M (j + c) = vA w0 2033 (M 1033) (j + c) := by
            rw [← Int32.toInt_inj]
            unfold byI
            rw [byte_val hlt.1 hlt.2, if_pos]
            unfold isDi at hb
            simp only [decide_eq_true_eq] at hb
            rw [hraw] at hb
            split at hb
            · assumption
            · omega
          show _ = vlI (byI w0 M) j c * 10 + byI w0 M (j + c) - 48
          rw [ed, Int32.mul_comm]
      · have hs : isDi (btI w0 M n) (j + c) = false := by simpa using hb
        rw [hs]
        exact ⟨fun _ => fin c v w2 (by omega) hd hs hv e3 e4 hF, fun h => absurd rfl h⟩
  exact ⟨(n - j) + 1, key (n - j) 0 0 w1 (by omega) (fun k hk => absurd hk (by omega)) rfl (hT.fr hF1) e1 e2 hF1⟩
end MW
