/-! PURE PART: feed -/
theorem and255 {x y : Int32} (h : ∀ i, i < 8 → x.toBitVec.getLsbD i = y.toBitVec.getLsbD i) : x &&& 255 = y &&& 255 := by
  apply Int32.toBitVec_inj.1
  apply BitVec.eq_of_getLsbD_eq
  intro i hi
  show (x.toBitVec &&& (255 : Int32).toBitVec).getLsbD i = (y.toBitVec &&& (255 : Int32).toBitVec).getLsbD i
  rw [BitVec.getLsbD_and, BitVec.getLsbD_and]
  by_cases h8 : i < 8
  · rw [h i h8]
  · have h2 : (255 : Int32).toBitVec.getLsbD i = false := by
      have : ∀ j : Fin 32, 8 ≤ j.val → (255 : Int32).toBitVec.getLsbD j.val = false := by decide +kernel
      exact this ⟨i, hi⟩ (show 8 ≤ i by omega)
    rw [h2, Bool.and_false, Bool.and_false]
theorem byte255 (x : Int32) : x.toInt8.toInt32 &&& 255 = x &&& 255 := by
  refine and255 (fun i hi => ?_)
  show ((x.toBitVec.signExtend 8).signExtend 32).getLsbD i = x.toBitVec.getLsbD i
  rw [BitVec.getLsbD_signExtend, BitVec.getLsbD_signExtend]
  simp [hi, show i < 32 by omega]
def byC (p : Int32) (j : Nat) : Int32 := (((p : Int32).toUInt32 >>> ((nI (24 - 8 * j) : Int32).toUInt32 &&& Int32.toUInt32 31)).toInt32) &&& 255
def byM (p : Int32) (j : Nat) : Int32 := vp_nar .byte ((p >>> ((nI (24 - 8 * j)) &&& 31)).toInt8.toInt32)
theorem nar_byte (x : Int32) : vp_nar .byte x = x.toInt8.toInt32 := rfl
theorem byM_eq (p : Int32) (j : Nat) : byM p j = (p >>> ((nI (24 - 8 * j)) &&& 31)).toInt8.toInt32 := by
  unfold byM
  rw [nar_byte]
  congr 1
  apply Int8.toBitVec_inj.1
  apply BitVec.eq_of_getLsbD_eq
  intro i hi
  show ((((p >>> ((nI (24 - 8 * j)) &&& 31)).toBitVec.signExtend 8).signExtend 32).signExtend 8).getLsbD i = ((p >>> ((nI (24 - 8 * j)) &&& 31)).toBitVec.signExtend 8).getLsbD i
  rw [BitVec.getLsbD_signExtend, BitVec.getLsbD_signExtend, BitVec.getLsbD_signExtend]
  simp [hi, show i < 32 by omega]
theorem shb0 (p : Int32) : byC p 0 = (p >>> ((nI (24 - 8 * 0)) &&& 31)) &&& 255 := by
  refine and255 (fun i hi => ?_)
  show (p.toBitVec >>> 24).getLsbD i = (p.toBitVec.sshiftRight 24).getLsbD i
  rw [BitVec.getLsbD_ushiftRight, BitVec.getLsbD_sshiftRight]
  simp [show 24 + i < 32 by omega, show i < 32 by omega]
theorem shb1 (p : Int32) : byC p 1 = (p >>> ((nI (24 - 8 * 1)) &&& 31)) &&& 255 := by
  refine and255 (fun i hi => ?_)
  show (p.toBitVec >>> 16).getLsbD i = (p.toBitVec.sshiftRight 16).getLsbD i
  rw [BitVec.getLsbD_ushiftRight, BitVec.getLsbD_sshiftRight]
  simp [show 16 + i < 32 by omega, show i < 32 by omega]
theorem shb2 (p : Int32) : byC p 2 = (p >>> ((nI (24 - 8 * 2)) &&& 31)) &&& 255 := by
  refine and255 (fun i hi => ?_)
  show (p.toBitVec >>> 8).getLsbD i = (p.toBitVec.sshiftRight 8).getLsbD i
  rw [BitVec.getLsbD_ushiftRight, BitVec.getLsbD_sshiftRight]
  simp [show 8 + i < 32 by omega, show i < 32 by omega]
theorem shb3 (p : Int32) : byC p 3 = (p >>> ((nI (24 - 8 * 3)) &&& 31)) &&& 255 := by
  refine and255 (fun i hi => ?_)
  show (p.toBitVec >>> 0).getLsbD i = (p.toBitVec.sshiftRight 0).getLsbD i
  rw [BitVec.getLsbD_ushiftRight, BitVec.getLsbD_sshiftRight]
  simp [show i < 32 by omega]
theorem byt_eq (p : Int32) {j : Nat} (hj : j < 4) : byC p j = byM p j &&& 255 ∧ -128 ≤ (byM p j).toInt ∧ (byM p j).toInt ≤ 127 := by
  have hb : -128 ≤ (byM p j).toInt ∧ (byM p j).toInt ≤ 127 := by
    rw [byM_eq, Int8.toInt_toInt32]
    have h1 := Int8.le_toInt (p >>> ((nI (24 - 8 * j)) &&& 31)).toInt8
    have h2 := Int8.toInt_lt (p >>> ((nI (24 - 8 * j)) &&& 31)).toInt8
    omega
  refine ⟨?_, hb⟩
  rw [byM_eq, byte255]
  match j, hj with
  | 0, _ => exact shb0 p
  | 1, _ => exact shb1 p
  | 2, _ => exact shb2 p
  | 3, _ => exact shb3 p
abbrev tC : List Nat := [914, 915, 903, 405, 406, 905, 601, 602, 500, 501, 502, 503, 504, 505, 506, 507, 508, 1, 2, 3, 4, 5, 6, 7, 908, 301, 302, 910, 200, 201, 202, 203, 204, 705, 103]
abbrev tK : List Nat := [1400, 1401, 1402, 1403, 1404, 1000, 1700, 1701, 1702, 1703, 1704, 1100, 1101, 1102]
abbrev tMC : List Nat := [1001, 1002, 1038, 1029, 1031, 1014, 1026, 1041, 1047, 1051]
abbrev tMK : List Nat := [2027, 2012, 2013, 2003, 2004, 2005, 2006, 2007, 2008, 2009, 2010, 2011, 2015, 2016, 2017, 2018, 2019, 2020, 2021, 2022, 2023, 2024, 2025, 2040, 2042, 2043, 2044, 2045, 2046, 2048, 2049, 2050]
theorem put1 {z : Zt} {x t n f : Nat} {B : Nat → Nat → Nat → Nat} {N : Nat → Nat → Nat} {w : Vt} {p s s2 : Int32} {K : Vt → Prop} {Kx : Int32 → Int32 → Vt → Prop} (hS : SC z x t B N) (hn : n < 400) (e : vI w 801 (B 900 0 0) = nI n) (hs : ¬ s < 0) (hs2 : s + (-8) = s2) (hK : wL_X8_putNumber_3 z (B 900 0 0) K Kx f s2 p (uI (uA w 1800 (B 800 0 0) n ((((p : Int32).toUInt32 >>> ((s : Int32).toUInt32 &&& Int32.toUInt32 31)).toInt32) &&& 255)) 801 (B 900 0 0) (nI (n + 1)))) : wL_X8_putNumber_3 z (B 900 0 0) K Kx (f + 1) s p w := by
  rw [wL_X8_putNumber_3, e]
  refine ⟨fun h => absurd h hs, fun _ => ⟨B 800 0 0, (sc_800 hS).1, (sc_800 hS).2, fun h => absurd h (nI_ge (b := 400) hn (by decide)), fun _ => ⟨vp_in_nI hn (by decide), fun w4 e4 w5 e5 x6 e6 => ?_⟩⟩⟩
  subst e4
  rw [e6, hs2, e5, rI_uA, e, nI_1, nI_clamp (by omega)]
  exact hK
theorem put_c {z : Zt} {x t n : Nat} {B : Nat → Nat → Nat → Nat} {N : Nat → Nat → Nat} {w : Vt} {p : Int32} {K : Vt → Prop} (hS : SC z x t B N) (hn : n + 4 ≤ 400) (e : vI w 801 (B 900 0 0) = nI n) (hK : ∀ w1 : Vt, vI w1 801 (B 900 0 0) = nI (n + 4) → (∀ i, vA w1 1800 (B 800 0 0) i = if n ≤ i ∧ i < n + 4 then byC p (i - n) else vA w 1800 (B 800 0 0) i) → frW tC tK w w1 → K w1) : wp_X8_putNumber z (B 900 0 0) p w K := by
  refine ⟨(sc_900 hS).2, 5, ?_⟩
  refine put1 (n := n) (s2 := 16) hS (by omega) e (by decide) (by decide) ?_
  refine put1 (n := n + 1) (s2 := 8) hS (by omega) (by simp [vI_u]) (by decide) (by decide) ?_
  refine put1 (n := n + 2) (s2 := 0) hS (by omega) (by simp [vI_u]) (by decide) (by decide) ?_
  refine put1 (n := n + 3) (s2 := -8) hS (by omega) (by simp [vI_u]) (by decide) (by decide) ?_
  rw [wL_X8_putNumber_3]
  refine ⟨fun _ => hK _ (by simp [vI_u]) (fun i => ?_) (by repeat' (first | with_reducible refine frW.uI ?_ (by decide) | with_reducible refine frW.uA ?_ (by decide) | with_reducible refine frW.uF ?_ (by decide) | with_reducible refine frW.uL ?_ | exact frW.rfl _ _ _)), fun h => absurd (by decide) h⟩
  by_cases h0 : i = n
  · subst h0
    simp [rA_u, rA_uI, byC]
    rfl
  by_cases h1 : i = n + 1
  · subst h1
    have : ¬ n + 1 = n := by omega
    simp [rA_u, rA_uI, byC, show n + 1 - n = 1 by omega]
    rfl
  by_cases h2 : i = n + 2
  · subst h2
    simp [rA_u, rA_uI, byC, show n + 2 - n = 2 by omega]
    rfl
  by_cases h3 : i = n + 3
  · subst h3
    simp [rA_u, rA_uI, byC, show n + 3 - n = 3 by omega]
    rfl
  rw [if_neg (by omega)]
  simp [rA_u, rA_uI, h0, h1, h2, h3]
