/-! PURE PART: the new objects agree -/
theorem first_B (q900 q901 q902 q904 q906 q907 q909 q911 q912 q913 q900_0 q901_0 q901_1 q901_2 q901_3 q901_4 q902_0 q902_1 q902_2 q902_3 q902_4 q912_0 q912_1 q912_2 q912_3 q912_4 q913_0 q913_1 q913_2 q913_3 q913_4 f0 f1 f2 f3 f4 f5 f6 f7 g0 g1 g2 g3 g4 g5 g6 g7 : Nat) : ∃ B : Nat → Nat → Nat → Nat, B 100 0 0 = q913_0 ∧ B 101 0 0 = q913_1 ∧ B 102 0 0 = q913_2 ∧ B 104 0 0 = q913_3 ∧ B 105 0 0 = q913_4 ∧ B 400 0 0 = q901_0 ∧ B 400 1 0 = q902_0 ∧ B 401 0 0 = q901_1 ∧ B 401 1 0 = q902_1 ∧ B 402 0 0 = q901_2 ∧ B 402 1 0 = q902_2 ∧ B 403 0 0 = q901_3 ∧ B 403 1 0 = q902_3 ∧ B 404 0 0 = q901_4 ∧ B 404 1 0 = q902_4 ∧ B 700 0 0 = q912_0 ∧ B 701 0 0 = q912_1 ∧ B 702 0 0 = q912_2 ∧ B 703 0 0 = q912_3 ∧ B 704 0 0 = q912_4 ∧ B 800 0 0 = q900_0 ∧ B 900 0 0 = q900 ∧ B 901 0 0 = q901 ∧ B 902 0 0 = q902 ∧ B 904 0 0 = q904 ∧ B 906 0 0 = q906 ∧ B 907 0 0 = q907 ∧ B 909 0 0 = q909 ∧ B 911 0 0 = q911 ∧ B 912 0 0 = q912 ∧ B 913 0 0 = q913 ∧ (∀ i, B 1906 i 0 = [f0, f1, f2, f3, f4, f5, f6, f7].getD i 0) ∧ (∀ i, B 0 i 0 = [g0, g1, g2, g3, g4, g5, g6, g7].getD i 0) := by
  refine ⟨fun k i _ => if k = 100 ∧ i = 0 then q913_0 else if k = 101 ∧ i = 0 then q913_1 else if k = 102 ∧ i = 0 then q913_2 else if k = 104 ∧ i = 0 then q913_3 else if k = 105 ∧ i = 0 then q913_4 else if k = 400 ∧ i = 0 then q901_0 else if k = 400 ∧ i = 1 then q902_0 else if k = 401 ∧ i = 0 then q901_1 else if k = 401 ∧ i = 1 then q902_1 else if k = 402 ∧ i = 0 then q901_2 else if k = 402 ∧ i = 1 then q902_2 else if k = 403 ∧ i = 0 then q901_3 else if k = 403 ∧ i = 1 then q902_3 else if k = 404 ∧ i = 0 then q901_4 else if k = 404 ∧ i = 1 then q902_4 else if k = 700 ∧ i = 0 then q912_0 else if k = 701 ∧ i = 0 then q912_1 else if k = 702 ∧ i = 0 then q912_2 else if k = 703 ∧ i = 0 then q912_3 else if k = 704 ∧ i = 0 then q912_4 else if k = 800 ∧ i = 0 then q900_0 else if k = 900 ∧ i = 0 then q900 else if k = 901 ∧ i = 0 then q901 else if k = 902 ∧ i = 0 then q902 else if k = 904 ∧ i = 0 then q904 else if k = 906 ∧ i = 0 then q906 else if k = 907 ∧ i = 0 then q907 else if k = 909 ∧ i = 0 then q909 else if k = 911 ∧ i = 0 then q911 else if k = 912 ∧ i = 0 then q912 else if k = 913 ∧ i = 0 then q913 else if k = 1906 then [f0, f1, f2, f3, f4, f5, f6, f7].getD i 0 else if k = 0 then [g0, g1, g2, g3, g4, g5, g6, g7].getD i 0 else 0, by simp, by simp, by simp, by simp, by simp, by simp, by simp, by simp, by simp, by simp, by simp, by simp, by simp, by simp, by simp, by simp, by simp, by simp, by simp, by simp, by simp, by simp, by simp, by simp, by simp, by simp, by simp, by simp, by simp, by simp, by simp, fun i => ?_, fun i => ?_⟩
  · simp
  · simp
theorem first_M (q1003 q1004 q1005 q1006 q1007 q1008 q1009 q1010 q1011 q1012 q1013 q1015 q1016 q1017 q1018 q1019 q1020 q1021 q1022 q1023 q1024 q1025 q1027 q1028 q1033 q1039 q1040 q1042 q1043 q1044 q1045 q1046 q1048 q1049 q1050 q1052 : Nat) : ∃ M : Nat → Nat, M 1003 = q1003 ∧ M 1004 = q1004 ∧ M 1005 = q1005 ∧ M 1006 = q1006 ∧ M 1007 = q1007 ∧ M 1008 = q1008 ∧ M 1009 = q1009 ∧ M 1010 = q1010 ∧ M 1011 = q1011 ∧ M 1012 = q1012 ∧ M 1013 = q1013 ∧ M 1015 = q1015 ∧ M 1016 = q1016 ∧ M 1017 = q1017 ∧ M 1018 = q1018 ∧ M 1019 = q1019 ∧ M 1020 = q1020 ∧ M 1021 = q1021 ∧ M 1022 = q1022 ∧ M 1023 = q1023 ∧ M 1024 = q1024 ∧ M 1025 = q1025 ∧ M 1027 = q1027 ∧ M 1028 = q1028 ∧ M 1033 = q1033 ∧ M 1039 = q1039 ∧ M 1040 = q1040 ∧ M 1042 = q1042 ∧ M 1043 = q1043 ∧ M 1044 = q1044 ∧ M 1045 = q1045 ∧ M 1046 = q1046 ∧ M 1048 = q1048 ∧ M 1049 = q1049 ∧ M 1050 = q1050 ∧ M 1052 = q1052 := ⟨fun k => if k = 1003 then q1003 else if k = 1004 then q1004 else if k = 1005 then q1005 else if k = 1006 then q1006 else if k = 1007 then q1007 else if k = 1008 then q1008 else if k = 1009 then q1009 else if k = 1010 then q1010 else if k = 1011 then q1011 else if k = 1012 then q1012 else if k = 1013 then q1013 else if k = 1015 then q1015 else if k = 1016 then q1016 else if k = 1017 then q1017 else if k = 1018 then q1018 else if k = 1019 then q1019 else if k = 1020 then q1020 else if k = 1021 then q1021 else if k = 1022 then q1022 else if k = 1023 then q1023 else if k = 1024 then q1024 else if k = 1025 then q1025 else if k = 1027 then q1027 else if k = 1028 then q1028 else if k = 1033 then q1033 else if k = 1039 then q1039 else if k = 1040 then q1040 else if k = 1042 then q1042 else if k = 1043 then q1043 else if k = 1044 then q1044 else if k = 1045 then q1045 else if k = 1046 then q1046 else if k = 1048 then q1048 else if k = 1049 then q1049 else if k = 1050 then q1050 else if k = 1052 then q1052 else 0, by simp, by simp, by simp, by simp, by simp, by simp, by simp, by simp, by simp, by simp, by simp, by simp, by simp, by simp, by simp, by simp, by simp, by simp, by simp, by simp, by simp, by simp, by simp, by simp, by simp, by simp, by simp, by simp, by simp, by simp, by simp, by simp, by simp, by simp, by simp, by simp⟩
set_option maxHeartbeats 4000000 in
set_option maxRecDepth 20000 in
theorem first_ok : ∀ x : Nat, wp_X9_init (nZ z00 x 9) x (nV w00 x) (fun zc wc => ∀ mm : Nat, wp_X10_init (nZ z00 mm 10) mm (nV w00 mm) (fun zm wm => ∀ t : Nat, t ∉ zc.2.1 → lw_I x mm t 0 (nZ zc t 3000) (nV wc t) zm wm)) := by
  intro x
  have c00 : CP z00 [] [] [] [] := ⟨fun p hp => absurd hp List.not_mem_nil, fun p hp => absurd hp List.not_mem_nil, fun p hp => absurd hp List.not_mem_nil, fun p hp => absurd hp List.not_mem_nil⟩
  have v00 : VF z00 w00 (fun _ _ => 0) (fun _ _ _ => 0) := ⟨fun _ _ => rfl, fun _ _ _ => rfl, fun _ _ _ => rfl, fun _ _ _ _ => rfl⟩
  have n00 : ∀ q : Nat, q ∉ z00.2.1 := fun q h => absurd h List.not_mem_nil
  refine first_c (c00.new (n00 x) rfl).1 (v00.new (n00 x) rfl rfl) (fun zc wc q900 q901 q902 q904 q906 q907 q909 q911 q912 q913 q900_0 q901_0 q901_1 q901_2 q901_3 q901_4 q902_0 q902_1 q902_2 q902_3 q902_4 q912_0 q912_1 q912_2 q912_3 q912_4 q913_0 q913_1 q913_2 q913_3 q913_4 f0 f1 f2 f3 f4 f5 f6 f7 g0 g1 g2 g3 g4 g5 g6 g7 cc vc ndf ndg ne9 e0 e1 e2 e3 e4 => ?_)
  intro mm
  refine first_m (c00.new (n00 mm) rfl).1 (v00.new (n00 mm) rfl rfl) (fun zm wm q1003 q1004 q1005 q1006 q1007 q1008 q1009 q1010 q1011 q1012 q1013 q1015 q1016 q1017 q1018 q1019 q1020 q1021 q1022 q1023 q1024 q1025 q1027 q1028 q1033 q1039 q1040 q1042 q1043 q1044 q1045 q1046 q1048 q1049 q1050 q1052 cm vm => ?_)
  intro t ht
  have c1 := (cc.new (t := 3000) ht rfl).1
  have v1 := vc.new (t := 3000) ht rfl rfl
  generalize nZ zc t 3000 = z1 at *
  generalize nV wc t = w1 at *
  obtain ⟨B, b100_0, b101_0, b102_0, b104_0, b105_0, b400_0, b400_1, b401_0, b401_1, b402_0, b402_1, b403_0, b403_1, b404_0, b404_1, b700_0, b701_0, b702_0, b703_0, b704_0, b800_0, b900_0, b901_0, b902_0, b904_0, b906_0, b907_0, b909_0, b911_0, b912_0, b913_0, bF, bG⟩ := first_B q900 q901 q902 q904 q906 q907 q909 q911 q912 q913 q900_0 q901_0 q901_1 q901_2 q901_3 q901_4 q902_0 q902_1 q902_2 q902_3 q902_4 q912_0 q912_1 q912_2 q912_3 q912_4 q913_0 q913_1 q913_2 q913_3 q913_4 f0 f1 f2 f3 f4 f5 f6 f7 g0 g1 g2 g3 g4 g5 g6 g7
  obtain ⟨M, M1003, M1004, M1005, M1006, M1007, M1008, M1009, M1010, M1011, M1012, M1013, M1015, M1016, M1017, M1018, M1019, M1020, M1021, M1022, M1023, M1024, M1025, M1027, M1028, M1033, M1039, M1040, M1042, M1043, M1044, M1045, M1046, M1048, M1049, M1050, M1052⟩ := first_M q1003 q1004 q1005 q1006 q1007 q1008 q1009 q1010 q1011 q1012 q1013 q1015 q1016 q1017 q1018 q1019 q1020 q1021 q1022 q1023 q1024 q1025 q1027 q1028 q1033 q1039 q1040 q1042 q1043 q1044 q1045 q1046 q1048 q1049 q1050 q1052
  have hz : ∀ c a, ¬ c = 1 → ¬ c = 406 → ¬ c = 903 → vI w1 c a = 0 := fun c a h1 h2 h3 => by
    rw [v1.1]
    simp [sI, h1, h2, h3]
  have h903 : vI w1 903 x = -1 := by
    rw [v1.1]
    simp [sI]
  have h406 : vI w1 406 q901 = 2 := by
    rw [v1.1]
    simp [sI]
  have hfam : ∀ i, i < 8 → vI w1 1 (B 1906 i 0) = 4 := fun i hi => by
    rw [bF]
    match i, hi with
    | 0, _ => show vI w1 1 f0 = 4; rw [v1.1]; simp [sI]
    | 1, _ => show vI w1 1 f1 = 4; rw [v1.1]; simp [sI]
    | 2, _ => show vI w1 1 f2 = 4; rw [v1.1]; simp [sI]
    | 3, _ => show vI w1 1 f3 = 4; rw [v1.1]; simp [sI]
    | 4, _ => show vI w1 1 f4 = 4; rw [v1.1]; simp [sI]
    | 5, _ => show vI w1 1 f5 = 4; rw [v1.1]; simp [sI]
    | 6, _ => show vI w1 1 f6 = 4; rw [v1.1]; simp [sI]
    | 7, _ => show vI w1 1 f7 = 4; rw [v1.1]; simp [sI]
    | k + 8, h => exact absurd h (by omega)
  have hza : ∀ k a i, vA w1 k a i = 0 := fun k a i => v1.2.1 k a i
  have hm : ∀ c a, ¬ c = 1031 → ¬ c = 1038 → vI wm c a = 0 := fun c a h1 h2 => by
    rw [vm.1]
    simp [sI, h1, h2]
  have h31 : vI wm 1031 mm = 2 := by
    rw [vm.1]
    simp [sI]
  have h38 : vI wm 1038 mm = -1 := by
    rw [vm.1]
    simp [sI]
  have hma : ∀ k a i, ¬ k = 2015 → vA wm k a i = 0 := fun k a i h => by
    rw [vm.2.1]
    simp [sA, h]
  have h15 : ∀ i, i < 8 → vA wm 2015 q1015 i = 4 := fun i hi => by
    rw [vm.2.1]
    match i, hi with
    | 0, _ => simp [sA]
    | 1, _ => simp [sA]
    | 2, _ => simp [sA]
    | 3, _ => simp [sA]
    | 4, _ => simp [sA]
    | 5, _ => simp [sA]
    | 6, _ => simp [sA]
    | 7, _ => simp [sA]
    | k + 8, h => exact absurd h (by omega)
  refine ⟨B, fun _ _ => 0, M, ⟨?_, ?_, ?_, ?_, ?_, ?_⟩, ?_, ?_⟩
  · unfold SC1
    simp only [b100_0, b101_0, b102_0, b104_0, b105_0, b400_0, b400_1, b401_0, b401_1, b402_0, b402_1, b403_0, b403_1, b404_0, b404_1, b700_0, b701_0, b702_0, b703_0, b704_0, b800_0, b900_0, b901_0, b902_0, b904_0, b906_0, b907_0, b909_0, b911_0, b912_0, b913_0]
    exact ⟨c1.2.1 (9, x) (by simp), c1.2.1 (3000, t) (by simp), (c1.1 (900, x, q900) (by simp)).2, c1.2.1 (8, q900) (by simp), (c1.1 (901, x, q901) (by simp)).2, c1.2.1 (4, q901) (by simp), (c1.1 (902, x, q902) (by simp)).2, c1.2.1 (4, q902) (by simp), (c1.1 (904, x, q904) (by simp)).2, c1.2.1 (1904, q904) (by simp), (c1.1 (906, x, q906) (by simp)).2, c1.2.1 (1906, q906) (by simp), (c1.1 (907, x, q907) (by simp)).2, c1.2.1 (1907, q907) (by simp), (c1.1 (909, x, q909) (by simp)).2, c1.2.1 (1909, q909) (by simp), (c1.1 (911, x, q911) (by simp)).2, c1.2.1 (1911, q911) (by simp), (c1.1 (912, x, q912) (by simp)).2, c1.2.1 (7, q912) (by simp), (c1.1 (913, x, q913) (by simp)).2, c1.2.1 (1, q913) (by simp), (c1.1 (800, q900, q900_0) (by simp)).2, c1.2.1 (1800, q900_0) (by simp), (c1.1 (700, q912, q912_0) (by simp)).2, c1.2.1 (1700, q912_0) (by simp), (c1.1 (701, q912, q912_1) (by simp)).2, c1.2.1 (1701, q912_1) (by simp), (c1.1 (702, q912, q912_2) (by simp)).2, c1.2.1 (1702, q912_2) (by simp), (c1.1 (703, q912, q912_3) (by simp)).2, c1.2.1 (1703, q912_3) (by simp), (c1.1 (704, q912, q912_4) (by simp)).2, c1.2.1 (1704, q912_4) (by simp), (c1.1 (100, q913, q913_0) (by simp)).2, c1.2.1 (1100, q913_0) (by simp), (c1.1 (101, q913, q913_1) (by simp)).2, c1.2.1 (1101, q913_1) (by simp), (c1.1 (102, q913, q913_2) (by simp)).2, c1.2.1 (1102, q913_2) (by simp), (c1.1 (104, q913, q913_3) (by simp)).2, c1.2.1 (1104, q913_3) (by simp), (c1.1 (105, q913, q913_4) (by simp)).2, c1.2.1 (1105, q913_4) (by simp), (c1.1 (400, q901, q901_0) (by simp)).2, c1.2.1 (1400, q901_0) (by simp), (c1.1 (401, q901, q901_1) (by simp)).2, c1.2.1 (1401, q901_1) (by simp), (c1.1 (402, q901, q901_2) (by simp)).2, c1.2.1 (1402, q901_2) (by simp), (c1.1 (403, q901, q901_3) (by simp)).2, c1.2.1 (1403, q901_3) (by simp), (c1.1 (404, q901, q901_4) (by simp)).2, c1.2.1 (1404, q901_4) (by simp), (c1.1 (400, q902, q902_0) (by simp)).2, c1.2.1 (1400, q902_0) (by simp), (c1.1 (401, q902, q902_1) (by simp)).2, c1.2.1 (1401, q902_1) (by simp), (c1.1 (402, q902, q902_2) (by simp)).2, c1.2.1 (1402, q902_2) (by simp), (c1.1 (403, q902, q902_3) (by simp)).2, c1.2.1 (1403, q902_3) (by simp), (c1.1 (404, q902, q902_4) (by simp)).2, c1.2.1 (1404, q902_4) (by simp), ne9, e0, e1, e2, e3, e4⟩
  · refine ⟨fun i hi => ?_, fun i j hi hj => ?_, fun i j hi hj => ?_⟩
    · rw [bF, bG, b906_0]
      match i, hi with
      | 0, _ => exact ⟨(c1.2.2.2 (1906, q906, 0, f0) (by simp)).2, c1.2.1 (0, f0) (by simp), (c1.1 (0, f0, g0) (by simp)).2, c1.2.1 (1000, g0) (by simp)⟩
      | 1, _ => exact ⟨(c1.2.2.2 (1906, q906, 1, f1) (by simp)).2, c1.2.1 (0, f1) (by simp), (c1.1 (0, f1, g1) (by simp)).2, c1.2.1 (1000, g1) (by simp)⟩
      | 2, _ => exact ⟨(c1.2.2.2 (1906, q906, 2, f2) (by simp)).2, c1.2.1 (0, f2) (by simp), (c1.1 (0, f2, g2) (by simp)).2, c1.2.1 (1000, g2) (by simp)⟩
      | 3, _ => exact ⟨(c1.2.2.2 (1906, q906, 3, f3) (by simp)).2, c1.2.1 (0, f3) (by simp), (c1.1 (0, f3, g3) (by simp)).2, c1.2.1 (1000, g3) (by simp)⟩
      | 4, _ => exact ⟨(c1.2.2.2 (1906, q906, 4, f4) (by simp)).2, c1.2.1 (0, f4) (by simp), (c1.1 (0, f4, g4) (by simp)).2, c1.2.1 (1000, g4) (by simp)⟩
      | 5, _ => exact ⟨(c1.2.2.2 (1906, q906, 5, f5) (by simp)).2, c1.2.1 (0, f5) (by simp), (c1.1 (0, f5, g5) (by simp)).2, c1.2.1 (1000, g5) (by simp)⟩
      | 6, _ => exact ⟨(c1.2.2.2 (1906, q906, 6, f6) (by simp)).2, c1.2.1 (0, f6) (by simp), (c1.1 (0, f6, g6) (by simp)).2, c1.2.1 (1000, g6) (by simp)⟩
      | 7, _ => exact ⟨(c1.2.2.2 (1906, q906, 7, f7) (by simp)).2, c1.2.1 (0, f7) (by simp), (c1.1 (0, f7, g7) (by simp)).2, c1.2.1 (1000, g7) (by simp)⟩
      | k + 8, h => exact absurd h (by omega)
    · rw [bF, bF]
      exact nd_inj ndf hi hj
    · rw [bG, bG]
      exact nd_inj ndg hi hj
  · exact ⟨Nat.zero_le _, fun i hi => by rw [b904_0, if_neg (Nat.not_lt_zero _)]; exact (c1.2.2.1 (1904, q904) (by simp)).2 i, fun i hi => absurd hi (Nat.not_lt_zero _), fun i j hi => absurd hi (Nat.not_lt_zero _), fun i j hi => absurd hi (Nat.not_lt_zero _)⟩
  · exact ⟨fun i r hi => absurd hi (Nat.not_lt_zero _), fun i r hi => absurd hi (Nat.not_lt_zero _), fun i r j q hi => absurd hi (Nat.not_lt_zero _)⟩
  · exact ⟨Nat.zero_le _, fun i hi => by rw [b907_0, if_neg (Nat.not_lt_zero _)]; exact (c1.2.2.1 (1907, q907) (by simp)).2 i, fun i hi => absurd hi (Nat.not_lt_zero _), fun i j hi => absurd hi (Nat.not_lt_zero _)⟩
  · exact ⟨Nat.zero_le _, fun i hi => by rw [b909_0, if_neg (Nat.not_lt_zero _)]; exact (c1.2.2.1 (1909, q909) (by simp)).2 i, fun i hi => absurd hi (Nat.not_lt_zero _), fun i j hi => absurd hi (Nat.not_lt_zero _)⟩
  · unfold SM
    simp only [M1003, M1004, M1005, M1006, M1007, M1008, M1009, M1010, M1011, M1012, M1013, M1015, M1016, M1017, M1018, M1019, M1020, M1021, M1022, M1023, M1024, M1025, M1027, M1028, M1033, M1039, M1040, M1042, M1043, M1044, M1045, M1046, M1048, M1049, M1050, M1052]
    exact ⟨cm.2.1 (10, mm) (by simp), (cm.1 (1003, mm, q1003) (by simp)).2, cm.2.1 (2003, q1003) (by simp), (cm.1 (1004, mm, q1004) (by simp)).2, cm.2.1 (2004, q1004) (by simp), (cm.1 (1005, mm, q1005) (by simp)).2, cm.2.1 (2005, q1005) (by simp), (cm.1 (1006, mm, q1006) (by simp)).2, cm.2.1 (2006, q1006) (by simp), (cm.1 (1007, mm, q1007) (by simp)).2, cm.2.1 (2007, q1007) (by simp), (cm.1 (1008, mm, q1008) (by simp)).2, cm.2.1 (2008, q1008) (by simp), (cm.1 (1009, mm, q1009) (by simp)).2, cm.2.1 (2009, q1009) (by simp), (cm.1 (1010, mm, q1010) (by simp)).2, cm.2.1 (2010, q1010) (by simp), (cm.1 (1011, mm, q1011) (by simp)).2, cm.2.1 (2011, q1011) (by simp), (cm.1 (1012, mm, q1012) (by simp)).2, cm.2.1 (2012, q1012) (by simp), (cm.1 (1013, mm, q1013) (by simp)).2, cm.2.1 (2013, q1013) (by simp), (cm.1 (1015, mm, q1015) (by simp)).2, cm.2.1 (2015, q1015) (by simp), (cm.1 (1016, mm, q1016) (by simp)).2, cm.2.1 (2016, q1016) (by simp), (cm.1 (1017, mm, q1017) (by simp)).2, cm.2.1 (2017, q1017) (by simp), (cm.1 (1018, mm, q1018) (by simp)).2, cm.2.1 (2018, q1018) (by simp), (cm.1 (1019, mm, q1019) (by simp)).2, cm.2.1 (2019, q1019) (by simp), (cm.1 (1020, mm, q1020) (by simp)).2, cm.2.1 (2020, q1020) (by simp), (cm.1 (1021, mm, q1021) (by simp)).2, cm.2.1 (2021, q1021) (by simp), (cm.1 (1022, mm, q1022) (by simp)).2, cm.2.1 (2022, q1022) (by simp), (cm.1 (1023, mm, q1023) (by simp)).2, cm.2.1 (2023, q1023) (by simp), (cm.1 (1024, mm, q1024) (by simp)).2, cm.2.1 (2024, q1024) (by simp), (cm.1 (1025, mm, q1025) (by simp)).2, cm.2.1 (2025, q1025) (by simp), (cm.1 (1027, mm, q1027) (by simp)).2, cm.2.1 (2027, q1027) (by simp), (cm.1 (1028, mm, q1028) (by simp)).2, cm.2.1 (2028, q1028) (by simp), (cm.1 (1033, mm, q1033) (by simp)).2, cm.2.1 (2033, q1033) (by simp), (cm.1 (1039, mm, q1039) (by simp)).2, cm.2.1 (2039, q1039) (by simp), (cm.1 (1040, mm, q1040) (by simp)).2, cm.2.1 (2040, q1040) (by simp), (cm.1 (1042, mm, q1042) (by simp)).2, cm.2.1 (2042, q1042) (by simp), (cm.1 (1043, mm, q1043) (by simp)).2, cm.2.1 (2043, q1043) (by simp), (cm.1 (1044, mm, q1044) (by simp)).2, cm.2.1 (2044, q1044) (by simp), (cm.1 (1045, mm, q1045) (by simp)).2, cm.2.1 (2045, q1045) (by simp), (cm.1 (1046, mm, q1046) (by simp)).2, cm.2.1 (2046, q1046) (by simp), (cm.1 (1048, mm, q1048) (by simp)).2, cm.2.1 (2048, q1048) (by simp), (cm.1 (1049, mm, q1049) (by simp)).2, cm.2.1 (2049, q1049) (by simp), (cm.1 (1050, mm, q1050) (by simp)).2, cm.2.1 (2050, q1050) (by simp), (cm.1 (1052, mm, q1052) (by simp)).2, cm.2.1 (2052, q1052) (by simp)⟩
  · refine ⟨⟨(by rw [hz 914 _ (by decide) (by decide) (by decide), hm 1001 _ (by decide) (by decide)]), (by rw [hz 915 _ (by decide) (by decide) (by decide), hm 1002 _ (by decide) (by decide)]), 0, by omega, (by rw [hm 1001 _ (by decide) (by decide)]; exact nI_0.symm)⟩, ⟨(by rw [hz 801 _ (by decide) (by decide) (by decide), hm 1034 _ (by decide) (by decide)]), by rw [h903, h38], ⟨0, by omega, (by rw [hm 1034 _ (by decide) (by decide)]; exact nI_0.symm)⟩, fun i hi => ?_⟩, ⟨by rw [b901_0, h406, h31], (by rw [hz 405 _ (by decide) (by decide) (by decide), hm 1029 _ (by decide) (by decide)]), 0, by omega, (by rw [hm 1029 _ (by decide) (by decide)]; exact nI_0.symm), fun i hi => absurd hi (Nat.not_lt_zero _)⟩, ⟨by rw [hz 905 _ (by decide) (by decide) (by decide)]; exact nI_0.symm, (by rw [hm 1014 _ (by decide) (by decide)]; exact nI_0.symm), fun i hi => absurd hi (Nat.not_lt_zero _), fun i _ _ => ⟨hma _ _ _ (by decide), hma _ _ _ (by decide)⟩⟩, ⟨fun i r hi => absurd hi (Nat.not_lt_zero _), fun i r _ _ _ => ⟨hma _ _ _ (by decide), hma _ _ _ (by decide)⟩⟩, ⟨fun i hi => ?_, fun i j _ _ => by rw [hza, hma _ _ _ (by decide)]⟩, ⟨by rw [hz 908 _ (by decide) (by decide) (by decide)]; exact nI_0.symm, (by rw [hm 1026 _ (by decide) (by decide)]; exact nI_0.symm), fun i hi => absurd hi (Nat.not_lt_zero _), fun i _ _ => ⟨hma _ _ _ (by decide), hma _ _ _ (by decide)⟩⟩, ⟨by rw [hz 910 _ (by decide) (by decide) (by decide)]; exact nI_0.symm, (by rw [hm 1041 _ (by decide) (by decide)]; exact nI_0.symm), fun i hi => absurd hi (Nat.not_lt_zero _)⟩, ⟨(by rw [hz 705 _ (by decide) (by decide) (by decide), hm 1047 _ (by decide) (by decide)]), 0, by omega, (by rw [hm 1047 _ (by decide) (by decide)]; exact nI_0.symm), fun i hi => absurd hi (Nat.not_lt_zero _)⟩, ⟨(by rw [hz 103 _ (by decide) (by decide) (by decide), hm 1051 _ (by decide) (by decide)]), 0, by omega, (by rw [hm 1051 _ (by decide) (by decide)]; exact nI_0.symm), fun i hi => absurd hi (Nat.not_lt_zero _)⟩⟩
    · rw [hza, hma _ _ _ (by decide)]
      exact ⟨by decide, by decide, by decide⟩
    · refine ⟨by rw [hfam i hi, M1015, h15 i hi], by rw [hz 2 _ (by decide) (by decide) (by decide), hma _ _ _ (by decide)], by rw [hz 3 _ (by decide) (by decide) (by decide), hma _ _ _ (by decide)], by rw [hz 4 _ (by decide) (by decide) (by decide), hma _ _ _ (by decide)], by rw [hz 5 _ (by decide) (by decide) (by decide), hma _ _ _ (by decide)], by rw [hz 6 _ (by decide) (by decide) (by decide), hma _ _ _ (by decide)], by rw [hz 7 _ (by decide) (by decide) (by decide), hma _ _ _ (by decide)], 0, by omega, by rw [hma _ _ _ (by decide)]; exact nI_0.symm⟩
